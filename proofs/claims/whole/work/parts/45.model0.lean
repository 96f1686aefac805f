/-! FingerOverlayModel(). -/
section ZM
variable {l : Launch} {D : va_G} {cs : Nat → ClassId} {Bs nn : Nat} {ad : nf_A} {sh : nf_H} {I : nf_I} {J : nf_J} {P : nf_P}
def ys_in (I : nf_I) (j : Nat) : nf_I := fun a b c => if (a = 22 ∨ a = 23) ∧ b = 0 ∧ c < j then -1 else I a b c
theorem ys_in_0 (I : nf_I) : ys_in I 0 = I := by
  funext a b c
  unfold ys_in
  rw [if_neg (by omega)]
theorem ys_in_s (I : nf_I) (j : Nat) : nf_iu (nf_iu (ys_in I j) 22 0 j (-1)) 23 0 j (-1) = ys_in I (j + 1) := by
  funext a b c
  unfold nf_iu ys_in
  by_cases h1 : a = 23 ∧ b = 0 ∧ c = j
  · rw [if_pos h1, if_pos (by omega)]
  · rw [if_neg h1]
    by_cases h2 : a = 22 ∧ b = 0 ∧ c = j
    · rw [if_pos h2, if_pos (by omega)]
    · rw [if_neg h2]
      by_cases h3 : (a = 22 ∨ a = 23) ∧ b = 0 ∧ c < j
      · rw [if_pos h3, if_pos (by omega)]
      · rw [if_neg h3, if_neg (by omega)]
def ys_ovS (sh : nf_H) (cs : Nat → ClassId) : nf_H := nf_su (nf_su (nf_su (nf_su (nf_su (nf_su (nf_su (nf_su (nf_su (nf_su (nf_su (nf_su (nf_su (nf_su (nf_su (nf_su (nf_su (nf_su (nf_su (nf_su (nf_su (nf_su (nf_su (nf_su (nf_su (nf_su (nf_su (nf_su (nf_su (nf_su (nf_su (nf_su (nf_su (nf_su (nf_su (nf_su (sh) 21 0 (.inr (cs 0, 256, 0))) 20 0 (.inl (4, [(0, 0), (2, 21), (3, 0), (3, 0), (3, 0), (3, 0), (3, 0), (0, 0), (3, 0), (3, 0), (3, 0), (0, 0), (3, 0), (0, 0), (3, 0), (3, 0), (3, 0), (3, 0), (3, 0), (3, 0), (3, 0), (3, 0)]))) 22 0 (.inr (cs 0, 256, 0))) 20 0 (.inl (4, [(0, 0), (2, 21), (2, 22), (3, 0), (3, 0), (3, 0), (3, 0), (0, 0), (3, 0), (3, 0), (3, 0), (0, 0), (3, 0), (0, 0), (3, 0), (3, 0), (3, 0), (3, 0), (3, 0), (3, 0), (3, 0), (3, 0)]))) 23 0 (.inr (cs 0, 256, 0))) 20 0 (.inl (4, [(0, 0), (2, 21), (2, 22), (2, 23), (3, 0), (3, 0), (3, 0), (0, 0), (3, 0), (3, 0), (3, 0), (0, 0), (3, 0), (0, 0), (3, 0), (3, 0), (3, 0), (3, 0), (3, 0), (3, 0), (3, 0), (3, 0)]))) 24 0 (.inr (cs 0, 2048, 0))) 20 0 (.inl (4, [(0, 0), (2, 21), (2, 22), (2, 23), (2, 24), (3, 0), (3, 0), (0, 0), (3, 0), (3, 0), (3, 0), (0, 0), (3, 0), (0, 0), (3, 0), (3, 0), (3, 0), (3, 0), (3, 0), (3, 0), (3, 0), (3, 0)]))) 25 0 (.inr (cs 1, 256, 1))) 20 0 (.inl (4, [(0, 0), (2, 21), (2, 22), (2, 23), (2, 24), (2, 25), (3, 0), (0, 0), (3, 0), (3, 0), (3, 0), (0, 0), (3, 0), (0, 0), (3, 0), (3, 0), (3, 0), (3, 0), (3, 0), (3, 0), (3, 0), (3, 0)]))) 26 0 (.inr (cs 0, 256, 0))) 20 0 (.inl (4, [(0, 0), (2, 21), (2, 22), (2, 23), (2, 24), (2, 25), (2, 26), (0, 0), (3, 0), (3, 0), (3, 0), (0, 0), (3, 0), (0, 0), (3, 0), (3, 0), (3, 0), (3, 0), (3, 0), (3, 0), (3, 0), (3, 0)]))) 27 0 (.inr (cs 0, 120, 0))) 20 0 (.inl (4, [(0, 0), (2, 21), (2, 22), (2, 23), (2, 24), (2, 25), (2, 26), (0, 0), (2, 27), (3, 0), (3, 0), (0, 0), (3, 0), (0, 0), (3, 0), (3, 0), (3, 0), (3, 0), (3, 0), (3, 0), (3, 0), (3, 0)]))) 28 0 (.inr (cs 0, 120, 0))) 20 0 (.inl (4, [(0, 0), (2, 21), (2, 22), (2, 23), (2, 24), (2, 25), (2, 26), (0, 0), (2, 27), (2, 28), (3, 0), (0, 0), (3, 0), (0, 0), (3, 0), (3, 0), (3, 0), (3, 0), (3, 0), (3, 0), (3, 0), (3, 0)]))) 29 0 (.inr (cs 0, 120, 0))) 20 0 (.inl (4, [(0, 0), (2, 21), (2, 22), (2, 23), (2, 24), (2, 25), (2, 26), (0, 0), (2, 27), (2, 28), (2, 29), (0, 0), (3, 0), (0, 0), (3, 0), (3, 0), (3, 0), (3, 0), (3, 0), (3, 0), (3, 0), (3, 0)]))) 30 0 (.inr (cs 0, 10, 0))) 20 0 (.inl (4, [(0, 0), (2, 21), (2, 22), (2, 23), (2, 24), (2, 25), (2, 26), (0, 0), (2, 27), (2, 28), (2, 29), (0, 0), (2, 30), (0, 0), (3, 0), (3, 0), (3, 0), (3, 0), (3, 0), (3, 0), (3, 0), (3, 0)]))) 31 0 (.inr (cs 0, 21, 0))) 20 0 (.inl (4, [(0, 0), (2, 21), (2, 22), (2, 23), (2, 24), (2, 25), (2, 26), (0, 0), (2, 27), (2, 28), (2, 29), (0, 0), (2, 30), (0, 0), (2, 31), (3, 0), (3, 0), (3, 0), (3, 0), (3, 0), (3, 0), (3, 0)]))) 32 0 (.inr (cs 0, 21, 0))) 20 0 (.inl (4, [(0, 0), (2, 21), (2, 22), (2, 23), (2, 24), (2, 25), (2, 26), (0, 0), (2, 27), (2, 28), (2, 29), (0, 0), (2, 30), (0, 0), (2, 31), (2, 32), (3, 0), (3, 0), (3, 0), (3, 0), (3, 0), (3, 0)]))) 33 0 (.inr (cs 0, 21, 0))) 20 0 (.inl (4, [(0, 0), (2, 21), (2, 22), (2, 23), (2, 24), (2, 25), (2, 26), (0, 0), (2, 27), (2, 28), (2, 29), (0, 0), (2, 30), (0, 0), (2, 31), (2, 32), (2, 33), (3, 0), (3, 0), (3, 0), (3, 0), (3, 0)]))) 34 0 (.inr (cs 0, 21, 0))) 20 0 (.inl (4, [(0, 0), (2, 21), (2, 22), (2, 23), (2, 24), (2, 25), (2, 26), (0, 0), (2, 27), (2, 28), (2, 29), (0, 0), (2, 30), (0, 0), (2, 31), (2, 32), (2, 33), (2, 34), (3, 0), (3, 0), (3, 0), (3, 0)]))) 35 0 (.inr (cs 0, 21, 0))) 20 0 (.inl (4, [(0, 0), (2, 21), (2, 22), (2, 23), (2, 24), (2, 25), (2, 26), (0, 0), (2, 27), (2, 28), (2, 29), (0, 0), (2, 30), (0, 0), (2, 31), (2, 32), (2, 33), (2, 34), (2, 35), (3, 0), (3, 0), (3, 0)]))) 36 0 (.inr (cs 0, 21, 0))) 20 0 (.inl (4, [(0, 0), (2, 21), (2, 22), (2, 23), (2, 24), (2, 25), (2, 26), (0, 0), (2, 27), (2, 28), (2, 29), (0, 0), (2, 30), (0, 0), (2, 31), (2, 32), (2, 33), (2, 34), (2, 35), (2, 36), (3, 0), (3, 0)]))) 37 0 (.inr (cs 0, 21, 0))) 20 0 (.inl (4, [(0, 0), (2, 21), (2, 22), (2, 23), (2, 24), (2, 25), (2, 26), (0, 0), (2, 27), (2, 28), (2, 29), (0, 0), (2, 30), (0, 0), (2, 31), (2, 32), (2, 33), (2, 34), (2, 35), (2, 36), (2, 37), (3, 0)]))) 38 0 (.inr (cs 1, 21, 1))) 20 0 (.inl (4, [(0, 0), (2, 21), (2, 22), (2, 23), (2, 24), (2, 25), (2, 26), (0, 0), (2, 27), (2, 28), (2, 29), (0, 0), (2, 30), (0, 0), (2, 31), (2, 32), (2, 33), (2, 34), (2, 35), (2, 36), (2, 37), (2, 38)]))
def ys_ovI (I : nf_I) : nf_I := nf_if (ys_in (nf_iz (nf_iz (nf_iz (nf_iz (nf_iz (nf_iz (nf_iz (nf_iz (nf_iz (nf_iz (nf_iz (nf_iz (nf_iz (nf_iz (nf_iz (nf_iz (nf_iz (nf_iz I 21 0) 22 0) 23 0) 24 0) 25 0) 26 0) 27 0) 28 0) 29 0) 30 0) 31 0) 32 0) 33 0) 34 0) 35 0) 36 0) 37 0) 38 0) 256) 24 0 2048 (-1)
def ys_ovJ (J : nf_J) : nf_J := nf_jf (nf_jz (nf_jz (nf_jz (nf_jz (nf_jz (nf_jz (nf_jz (nf_jz (nf_jz (nf_jz (nf_jz (nf_jz (nf_jz (nf_jz (nf_jz (nf_jz (nf_jz (nf_jz J 21 0) 22 0) 23 0) 24 0) 25 0) 26 0) 27 0) 28 0) 29 0) 30 0) 31 0) 32 0) 33 0) 34 0) 35 0) 36 0) 37 0) 38 0) 25 0 256 8589934592
def ys_ovP (P : nf_P) : nf_P := nf_pz (nf_pz (nf_pz (nf_pz (nf_pz (nf_pz (nf_pz (nf_pz (nf_pz (nf_pz (nf_pz (nf_pz (nf_pz (nf_pz (nf_pz (nf_pz (nf_pz (nf_pz P 21 0) 22 0) 23 0) 24 0) 25 0) 26 0) 27 0) 28 0) 29 0) 30 0) 31 0) 32 0) 33 0) 34 0) 35 0) 36 0) 37 0) 38 0
set_option maxHeartbeats 4000000 in
set_option maxRecDepth 100000 in
theorem ct_X4_init  (h20 : sh 20 0 = some (.inl (4, [(0, 0), (3, 0), (3, 0), (3, 0), (3, 0), (3, 0), (3, 0), (0, 0), (3, 0), (3, 0), (3, 0), (0, 0), (3, 0), (0, 0), (3, 0), (3, 0), (3, 0), (3, 0), (3, 0), (3, 0), (3, 0), (3, 0)]))) (hnone : ∀ a, 21 ≤ a → a ≤ 38 → sh a 0 = none) : Met l yX4_init wsX4_init { frames := 1, cells := 18, slots := 3866, locals := 16 } (va_Pc [.ref (ad 20 0)] (fun U => nf_U D vwCl (xT cs) Bs sh ad (I, J, P) U)) (va_Qv (nf_pX sh ad (ys_ovS sh cs) (ys_ovI I) (ys_ovJ J) (ys_ovP P)) (nf_X D vwCl (xT cs) Bs) (fun q => Bs ≤ q)) 18 3866 (fun q => Bs ≤ q) := by
  refine nf_enter (cc := cX4_init) (maxL := 2) (by decide) rfl (Nat.le_of_ble_eq_true rfl) ?_
  intro p e s m below meth c ls hF hr hlk hnm hU hl
  obtain ⟨hK, hM⟩ := hU
  obtain ⟨ar, har⟩ : ∃ z, z = ([.ref (ad 20 0)] : List Value).toArray := ⟨_, rfl⟩
  rw [← har] at hF ⊢
  have hC : nf_C p m c cX4_init 2 s ar wsX4_init yX4_init.cls D vwCl (xT cs) := ⟨hF, hK⟩
  have hx := hC.1.1
  have hb := hC.1.2.1
  have hl : lv_has ls 2 [(0, .ref (ad 20 0))] := hl
  have hk : nf_kp sh ad ad := nf_kp.rf
  have hgr : ∀ (a b : Nat) (x : nf_O), sh a b = some x → ∃ y, sh a b = some y := fun a b x hx => ⟨x, hx⟩
  have hinX4 : ∀ w ∈ u_ws RX4 TX4 22, w ∈ wsX4_init := fun w h => List.mem_cons_of_mem _ (inX4 w h)
  refine lv_aload_n (pc := 0) hx hb dX4_init_0 rfl (lv_at hl 0 rfl) ?_
  obtain ⟨Q, hQ⟩ : ∃ z, z = MQ below (va_Qv (nf_pX sh ad (ys_ovS sh cs) (ys_ovI I) (ys_ovJ J) (ys_ovP P)) (nf_X D vwCl (xT cs) Bs) (fun q => Bs ≤ q)) ar s 18 3866 (fun q => Bs ≤ q) := ⟨_, rfl⟩
  rw [← hQ]
  have f20 := h20
  have fn := hnone
  refine W.objInit (g := F0 m 1 ls [.ref (ad 20 0)]) hx hb hC.1.2.2.2.1 (hC.1.2.2.2.2 _ (List.mem_cons_of_mem _ wM_X4_1)) (hC.1.2.2.2.2 _ (List.mem_cons_of_mem _ wi_OB_init)) (hC.1.2.2.2.2 _ (List.mem_cons_of_mem _ wcode_OB_init)) rfl (by rw [hC.1.2.2.1]; exact hl.1) rfl dX4_init_1 (Nat.le_of_ble_eq_true rfl) (Nat.le_of_ble_eq_true rfl) ?_
  refine W.eq (g2 := F0 m 4 ls []) rfl ?_
  refine lv_aload_n (pc := 4) hx hb dX4_init_4 rfl (lv_at hl 0 rfl) ?_
  refine lv_sipush (pc := 5) (v := 256) hx hb dX4_init_5 (by decide) ?_
  refine nf_newi (pc := 8) hC (List.mem_cons_of_mem _ warr_int) hM 0 rfl 21 0 (fn 21 (by decide) (by decide)) 256 rfl (by decide) (Nat.le_of_ble_eq_true rfl) (Nat.le_of_ble_eq_true rfl) dX4_init_8 (fun q H hM => ?_)
  have hre := (nh_ad_old (q := q) ad (show ¬ (20 = 21 ∧ 0 = 0) by omega)).symm
  try rw [hre] at hl
  try rw [hre]
  obtain ⟨ad2, had⟩ : ∃ z, z = nh_ad ad 21 0 q := ⟨_, rfl⟩
  have hk := nf_kp.tr hk (nf_kp.new (ad := ad) (k := 21) (i := 0) (q := q) (fn 21 (by decide) (by decide))) hgr
  rw [← had] at hk
  simp only [← had] at hM hl ⊢
  have hgr := fun a b x hx => Exists.elim (hgr a b x hx) (fun y hy => nf_su_gr (sh := sh) (k := 21) (i := 0) (z := .inr (cs 0, 256, 0)) a b y hy)
  obtain ⟨S1, hS1⟩ : ∃ z, z = nf_su sh 21 0 (.inr (cs 0, 256, 0)) := ⟨_, rfl⟩
  rw [← hS1] at hgr
  rw [← hS1] at hM
  have f20 : S1 20 0 = some (.inl (4, [(0, 0), (3, 0), (3, 0), (3, 0), (3, 0), (3, 0), (3, 0), (0, 0), (3, 0), (3, 0), (3, 0), (0, 0), (3, 0), (0, 0), (3, 0), (3, 0), (3, 0), (3, 0), (3, 0), (3, 0), (3, 0), (3, 0)])) := by rw [hS1, nf_su_n _ _ (by decide)]; exact f20
  have fc : S1 21 0 = some (.inr (cs 0, 256, 0)) := by rw [hS1]; exact nf_su_s _ _ _ _
  have fn : ∀ a, 22 ≤ a → a ≤ 38 → S1 a 0 = none := fun a h1 h2 => by rw [hS1, nf_su_n _ _ (by omega)]; exact fn a (by omega) h2
  refine nf_putr (pc := 10) (ty := (.array .int)) hC hinX4 tyX4 tyX4_ok nmX4 hM (show S1 20 0 = some (.inl (4, [(0, 0), (3, 0), (3, 0), (3, 0), (3, 0), (3, 0), (3, 0), (0, 0), (3, 0), (3, 0), (3, 0), (0, 0), (3, 0), (0, 0), (3, 0), (3, 0), (3, 0), (3, 0), (3, 0), (3, 0), (3, 0), (3, 0)])) from f20) rfl 1 (by decide) (List.mem_cons_of_mem _ wF_X4_7) rfl (by decide +kernel) rfl rfl (by decide) fc dX4_init_10 (fun H locs hM => ?_)
  have hgr := fun a b x hx => Exists.elim (hgr a b x hx) (fun y hy => nf_su_gr (sh := S1) (k := 20) (i := 0) (z := .inl (4, [(0, 0), (2, 21), (3, 0), (3, 0), (3, 0), (3, 0), (3, 0), (0, 0), (3, 0), (3, 0), (3, 0), (0, 0), (3, 0), (0, 0), (3, 0), (3, 0), (3, 0), (3, 0), (3, 0), (3, 0), (3, 0), (3, 0)])) a b y hy)
  obtain ⟨S2, hS2⟩ : ∃ z, z = nf_su S1 20 0 (.inl (4, [(0, 0), (2, 21), (3, 0), (3, 0), (3, 0), (3, 0), (3, 0), (0, 0), (3, 0), (3, 0), (3, 0), (0, 0), (3, 0), (0, 0), (3, 0), (3, 0), (3, 0), (3, 0), (3, 0), (3, 0), (3, 0), (3, 0)])) := ⟨_, rfl⟩
  rw [← hS2] at hgr
  have hM : nf_M D vwCl Bs S2 ad2 (nf_iz I 21 0) (nf_jz J 21 0) (nf_pz P 21 0) s.heap H locs := by rw [hS2]; exact hM
  have f20 : S2 20 0 = some (.inl (4, [(0, 0), (2, 21), (3, 0), (3, 0), (3, 0), (3, 0), (3, 0), (0, 0), (3, 0), (3, 0), (3, 0), (0, 0), (3, 0), (0, 0), (3, 0), (3, 0), (3, 0), (3, 0), (3, 0), (3, 0), (3, 0), (3, 0)])) := by rw [hS2]; exact nf_su_s _ _ _ _
  have fn : ∀ a, 22 ≤ a → a ≤ 38 → S2 a 0 = none := fun a h1 h2 => by rw [hS2, nf_su_n _ _ (by omega)]; exact fn a (by omega) h2
  refine lv_aload_n (pc := 13) hx hb dX4_init_13 rfl (lv_at hl 0 rfl) ?_
  refine lv_sipush (pc := 14) (v := 256) hx hb dX4_init_14 (by decide) ?_
  refine nf_newi (pc := 17) hC (List.mem_cons_of_mem _ warr_int) hM 0 rfl 22 0 (fn 22 (by decide) (by decide)) 256 rfl (by decide) (Nat.le_of_ble_eq_true rfl) (Nat.le_of_ble_eq_true rfl) dX4_init_17 (fun q H hM => ?_)
  have hre := (nh_ad_old (q := q) ad2 (show ¬ (20 = 22 ∧ 0 = 0) by omega)).symm
  try rw [hre] at hl
  try rw [hre]
  obtain ⟨ad3, had⟩ : ∃ z, z = nh_ad ad2 22 0 q := ⟨_, rfl⟩
  have hk := nf_kp.tr hk (nf_kp.new (ad := ad2) (k := 22) (i := 0) (q := q) (fn 22 (by decide) (by decide))) hgr
  rw [← had] at hk
  simp only [← had] at hM hl ⊢
  have hgr := fun a b x hx => Exists.elim (hgr a b x hx) (fun y hy => nf_su_gr (sh := S2) (k := 22) (i := 0) (z := .inr (cs 0, 256, 0)) a b y hy)
  obtain ⟨S3, hS3⟩ : ∃ z, z = nf_su S2 22 0 (.inr (cs 0, 256, 0)) := ⟨_, rfl⟩
  rw [← hS3] at hgr
  rw [← hS3] at hM
  have f20 : S3 20 0 = some (.inl (4, [(0, 0), (2, 21), (3, 0), (3, 0), (3, 0), (3, 0), (3, 0), (0, 0), (3, 0), (3, 0), (3, 0), (0, 0), (3, 0), (0, 0), (3, 0), (3, 0), (3, 0), (3, 0), (3, 0), (3, 0), (3, 0), (3, 0)])) := by rw [hS3, nf_su_n _ _ (by decide)]; exact f20
  have fc : S3 22 0 = some (.inr (cs 0, 256, 0)) := by rw [hS3]; exact nf_su_s _ _ _ _
  have f22 := fc
  have fn : ∀ a, 23 ≤ a → a ≤ 38 → S3 a 0 = none := fun a h1 h2 => by rw [hS3, nf_su_n _ _ (by omega)]; exact fn a (by omega) h2
  refine nf_putr (pc := 19) (ty := (.array .int)) hC hinX4 tyX4 tyX4_ok nmX4 hM (show S3 20 0 = some (.inl (4, [(0, 0), (2, 21), (3, 0), (3, 0), (3, 0), (3, 0), (3, 0), (0, 0), (3, 0), (3, 0), (3, 0), (0, 0), (3, 0), (0, 0), (3, 0), (3, 0), (3, 0), (3, 0), (3, 0), (3, 0), (3, 0), (3, 0)])) from f20) rfl 2 (by decide) (List.mem_cons_of_mem _ wF_X4_13) rfl (by decide +kernel) rfl rfl (by decide) fc dX4_init_19 (fun H locs hM => ?_)
  have hgr := fun a b x hx => Exists.elim (hgr a b x hx) (fun y hy => nf_su_gr (sh := S3) (k := 20) (i := 0) (z := .inl (4, [(0, 0), (2, 21), (2, 22), (3, 0), (3, 0), (3, 0), (3, 0), (0, 0), (3, 0), (3, 0), (3, 0), (0, 0), (3, 0), (0, 0), (3, 0), (3, 0), (3, 0), (3, 0), (3, 0), (3, 0), (3, 0), (3, 0)])) a b y hy)
  obtain ⟨S4, hS4⟩ : ∃ z, z = nf_su S3 20 0 (.inl (4, [(0, 0), (2, 21), (2, 22), (3, 0), (3, 0), (3, 0), (3, 0), (0, 0), (3, 0), (3, 0), (3, 0), (0, 0), (3, 0), (0, 0), (3, 0), (3, 0), (3, 0), (3, 0), (3, 0), (3, 0), (3, 0), (3, 0)])) := ⟨_, rfl⟩
  rw [← hS4] at hgr
  have hM : nf_M D vwCl Bs S4 ad3 (nf_iz (nf_iz I 21 0) 22 0) (nf_jz (nf_jz J 21 0) 22 0) (nf_pz (nf_pz P 21 0) 22 0) s.heap H locs := by rw [hS4]; exact hM
  have f20 : S4 20 0 = some (.inl (4, [(0, 0), (2, 21), (2, 22), (3, 0), (3, 0), (3, 0), (3, 0), (0, 0), (3, 0), (3, 0), (3, 0), (0, 0), (3, 0), (0, 0), (3, 0), (3, 0), (3, 0), (3, 0), (3, 0), (3, 0), (3, 0), (3, 0)])) := by rw [hS4]; exact nf_su_s _ _ _ _
  have f22 : S4 22 0 = some (.inr (cs 0, 256, 0)) := by rw [hS4, nf_su_n _ _ (by decide)]; exact f22
  have fn : ∀ a, 23 ≤ a → a ≤ 38 → S4 a 0 = none := fun a h1 h2 => by rw [hS4, nf_su_n _ _ (by omega)]; exact fn a (by omega) h2
  refine lv_aload_n (pc := 22) hx hb dX4_init_22 rfl (lv_at hl 0 rfl) ?_
  refine lv_sipush (pc := 23) (v := 256) hx hb dX4_init_23 (by decide) ?_
  refine nf_newi (pc := 26) hC (List.mem_cons_of_mem _ warr_int) hM 0 rfl 23 0 (fn 23 (by decide) (by decide)) 256 rfl (by decide) (Nat.le_of_ble_eq_true rfl) (Nat.le_of_ble_eq_true rfl) dX4_init_26 (fun q H hM => ?_)
  have hre := (nh_ad_old (q := q) ad3 (show ¬ (20 = 23 ∧ 0 = 0) by omega)).symm
  try rw [hre] at hl
  try rw [hre]
  obtain ⟨ad4, had⟩ : ∃ z, z = nh_ad ad3 23 0 q := ⟨_, rfl⟩
  have hk := nf_kp.tr hk (nf_kp.new (ad := ad3) (k := 23) (i := 0) (q := q) (fn 23 (by decide) (by decide))) hgr
  rw [← had] at hk
  simp only [← had] at hM hl ⊢
  have hgr := fun a b x hx => Exists.elim (hgr a b x hx) (fun y hy => nf_su_gr (sh := S4) (k := 23) (i := 0) (z := .inr (cs 0, 256, 0)) a b y hy)
  obtain ⟨S5, hS5⟩ : ∃ z, z = nf_su S4 23 0 (.inr (cs 0, 256, 0)) := ⟨_, rfl⟩
  rw [← hS5] at hgr
  rw [← hS5] at hM
  have f20 : S5 20 0 = some (.inl (4, [(0, 0), (2, 21), (2, 22), (3, 0), (3, 0), (3, 0), (3, 0), (0, 0), (3, 0), (3, 0), (3, 0), (0, 0), (3, 0), (0, 0), (3, 0), (3, 0), (3, 0), (3, 0), (3, 0), (3, 0), (3, 0), (3, 0)])) := by rw [hS5, nf_su_n _ _ (by decide)]; exact f20
  have f22 : S5 22 0 = some (.inr (cs 0, 256, 0)) := by rw [hS5, nf_su_n _ _ (by decide)]; exact f22
  have fc : S5 23 0 = some (.inr (cs 0, 256, 0)) := by rw [hS5]; exact nf_su_s _ _ _ _
  have f23 := fc
  have fn : ∀ a, 24 ≤ a → a ≤ 38 → S5 a 0 = none := fun a h1 h2 => by rw [hS5, nf_su_n _ _ (by omega)]; exact fn a (by omega) h2
  refine nf_putr (pc := 28) (ty := (.array .int)) hC hinX4 tyX4 tyX4_ok nmX4 hM (show S5 20 0 = some (.inl (4, [(0, 0), (2, 21), (2, 22), (3, 0), (3, 0), (3, 0), (3, 0), (0, 0), (3, 0), (3, 0), (3, 0), (0, 0), (3, 0), (0, 0), (3, 0), (3, 0), (3, 0), (3, 0), (3, 0), (3, 0), (3, 0), (3, 0)])) from f20) rfl 3 (by decide) (List.mem_cons_of_mem _ wF_X4_16) rfl (by decide +kernel) rfl rfl (by decide) fc dX4_init_28 (fun H locs hM => ?_)
  have hgr := fun a b x hx => Exists.elim (hgr a b x hx) (fun y hy => nf_su_gr (sh := S5) (k := 20) (i := 0) (z := .inl (4, [(0, 0), (2, 21), (2, 22), (2, 23), (3, 0), (3, 0), (3, 0), (0, 0), (3, 0), (3, 0), (3, 0), (0, 0), (3, 0), (0, 0), (3, 0), (3, 0), (3, 0), (3, 0), (3, 0), (3, 0), (3, 0), (3, 0)])) a b y hy)
  obtain ⟨S6, hS6⟩ : ∃ z, z = nf_su S5 20 0 (.inl (4, [(0, 0), (2, 21), (2, 22), (2, 23), (3, 0), (3, 0), (3, 0), (0, 0), (3, 0), (3, 0), (3, 0), (0, 0), (3, 0), (0, 0), (3, 0), (3, 0), (3, 0), (3, 0), (3, 0), (3, 0), (3, 0), (3, 0)])) := ⟨_, rfl⟩
  rw [← hS6] at hgr
  have hM : nf_M D vwCl Bs S6 ad4 (nf_iz (nf_iz (nf_iz I 21 0) 22 0) 23 0) (nf_jz (nf_jz (nf_jz J 21 0) 22 0) 23 0) (nf_pz (nf_pz (nf_pz P 21 0) 22 0) 23 0) s.heap H locs := by rw [hS6]; exact hM
  have f20 : S6 20 0 = some (.inl (4, [(0, 0), (2, 21), (2, 22), (2, 23), (3, 0), (3, 0), (3, 0), (0, 0), (3, 0), (3, 0), (3, 0), (0, 0), (3, 0), (0, 0), (3, 0), (3, 0), (3, 0), (3, 0), (3, 0), (3, 0), (3, 0), (3, 0)])) := by rw [hS6]; exact nf_su_s _ _ _ _
  have f22 : S6 22 0 = some (.inr (cs 0, 256, 0)) := by rw [hS6, nf_su_n _ _ (by decide)]; exact f22
  have f23 : S6 23 0 = some (.inr (cs 0, 256, 0)) := by rw [hS6, nf_su_n _ _ (by decide)]; exact f23
  have fn : ∀ a, 24 ≤ a → a ≤ 38 → S6 a 0 = none := fun a h1 h2 => by rw [hS6, nf_su_n _ _ (by omega)]; exact fn a (by omega) h2
  refine lv_aload_n (pc := 31) hx hb dX4_init_31 rfl (lv_at hl 0 rfl) ?_
  refine lv_sipush (pc := 32) (v := 2048) hx hb dX4_init_32 (by decide) ?_
  refine nf_newi (pc := 35) hC (List.mem_cons_of_mem _ warr_int) hM 0 rfl 24 0 (fn 24 (by decide) (by decide)) 2048 rfl (by decide) (Nat.le_of_ble_eq_true rfl) (Nat.le_of_ble_eq_true rfl) dX4_init_35 (fun q H hM => ?_)
  have hre := (nh_ad_old (q := q) ad4 (show ¬ (20 = 24 ∧ 0 = 0) by omega)).symm
  try rw [hre] at hl
  try rw [hre]
  obtain ⟨ad5, had⟩ : ∃ z, z = nh_ad ad4 24 0 q := ⟨_, rfl⟩
  have hk := nf_kp.tr hk (nf_kp.new (ad := ad4) (k := 24) (i := 0) (q := q) (fn 24 (by decide) (by decide))) hgr
  rw [← had] at hk
  simp only [← had] at hM hl ⊢
  have hgr := fun a b x hx => Exists.elim (hgr a b x hx) (fun y hy => nf_su_gr (sh := S6) (k := 24) (i := 0) (z := .inr (cs 0, 2048, 0)) a b y hy)
  obtain ⟨S7, hS7⟩ : ∃ z, z = nf_su S6 24 0 (.inr (cs 0, 2048, 0)) := ⟨_, rfl⟩
  rw [← hS7] at hgr
  rw [← hS7] at hM
  have f20 : S7 20 0 = some (.inl (4, [(0, 0), (2, 21), (2, 22), (2, 23), (3, 0), (3, 0), (3, 0), (0, 0), (3, 0), (3, 0), (3, 0), (0, 0), (3, 0), (0, 0), (3, 0), (3, 0), (3, 0), (3, 0), (3, 0), (3, 0), (3, 0), (3, 0)])) := by rw [hS7, nf_su_n _ _ (by decide)]; exact f20
  have f22 : S7 22 0 = some (.inr (cs 0, 256, 0)) := by rw [hS7, nf_su_n _ _ (by decide)]; exact f22
  have f23 : S7 23 0 = some (.inr (cs 0, 256, 0)) := by rw [hS7, nf_su_n _ _ (by decide)]; exact f23
  have fc : S7 24 0 = some (.inr (cs 0, 2048, 0)) := by rw [hS7]; exact nf_su_s _ _ _ _
  have f24 := fc
  have fn : ∀ a, 25 ≤ a → a ≤ 38 → S7 a 0 = none := fun a h1 h2 => by rw [hS7, nf_su_n _ _ (by omega)]; exact fn a (by omega) h2
  refine nf_putr (pc := 37) (ty := (.array .int)) hC hinX4 tyX4 tyX4_ok nmX4 hM (show S7 20 0 = some (.inl (4, [(0, 0), (2, 21), (2, 22), (2, 23), (3, 0), (3, 0), (3, 0), (0, 0), (3, 0), (3, 0), (3, 0), (0, 0), (3, 0), (0, 0), (3, 0), (3, 0), (3, 0), (3, 0), (3, 0), (3, 0), (3, 0), (3, 0)])) from f20) rfl 4 (by decide) (List.mem_cons_of_mem _ wF_X4_19) rfl (by decide +kernel) rfl rfl (by decide) fc dX4_init_37 (fun H locs hM => ?_)
  have hgr := fun a b x hx => Exists.elim (hgr a b x hx) (fun y hy => nf_su_gr (sh := S7) (k := 20) (i := 0) (z := .inl (4, [(0, 0), (2, 21), (2, 22), (2, 23), (2, 24), (3, 0), (3, 0), (0, 0), (3, 0), (3, 0), (3, 0), (0, 0), (3, 0), (0, 0), (3, 0), (3, 0), (3, 0), (3, 0), (3, 0), (3, 0), (3, 0), (3, 0)])) a b y hy)
  obtain ⟨S8, hS8⟩ : ∃ z, z = nf_su S7 20 0 (.inl (4, [(0, 0), (2, 21), (2, 22), (2, 23), (2, 24), (3, 0), (3, 0), (0, 0), (3, 0), (3, 0), (3, 0), (0, 0), (3, 0), (0, 0), (3, 0), (3, 0), (3, 0), (3, 0), (3, 0), (3, 0), (3, 0), (3, 0)])) := ⟨_, rfl⟩
  rw [← hS8] at hgr
  have hM : nf_M D vwCl Bs S8 ad5 (nf_iz (nf_iz (nf_iz (nf_iz I 21 0) 22 0) 23 0) 24 0) (nf_jz (nf_jz (nf_jz (nf_jz J 21 0) 22 0) 23 0) 24 0) (nf_pz (nf_pz (nf_pz (nf_pz P 21 0) 22 0) 23 0) 24 0) s.heap H locs := by rw [hS8]; exact hM
  have f20 : S8 20 0 = some (.inl (4, [(0, 0), (2, 21), (2, 22), (2, 23), (2, 24), (3, 0), (3, 0), (0, 0), (3, 0), (3, 0), (3, 0), (0, 0), (3, 0), (0, 0), (3, 0), (3, 0), (3, 0), (3, 0), (3, 0), (3, 0), (3, 0), (3, 0)])) := by rw [hS8]; exact nf_su_s _ _ _ _
  have f22 : S8 22 0 = some (.inr (cs 0, 256, 0)) := by rw [hS8, nf_su_n _ _ (by decide)]; exact f22
  have f23 : S8 23 0 = some (.inr (cs 0, 256, 0)) := by rw [hS8, nf_su_n _ _ (by decide)]; exact f23
  have f24 : S8 24 0 = some (.inr (cs 0, 2048, 0)) := by rw [hS8, nf_su_n _ _ (by decide)]; exact f24
  have fn : ∀ a, 25 ≤ a → a ≤ 38 → S8 a 0 = none := fun a h1 h2 => by rw [hS8, nf_su_n _ _ (by omega)]; exact fn a (by omega) h2
  refine lv_aload_n (pc := 40) hx hb dX4_init_40 rfl (lv_at hl 0 rfl) ?_
  refine lv_sipush (pc := 41) (v := 256) hx hb dX4_init_41 (by decide) ?_
  refine nf_newl (pc := 44) hC (List.mem_cons_of_mem _ warr_long) hM 1 rfl 25 0 (fn 25 (by decide) (by decide)) 256 rfl (by decide) (Nat.le_of_ble_eq_true rfl) (Nat.le_of_ble_eq_true rfl) dX4_init_44 (fun q H hM => ?_)
  have hre := (nh_ad_old (q := q) ad5 (show ¬ (20 = 25 ∧ 0 = 0) by omega)).symm
  try rw [hre] at hl
  try rw [hre]
  obtain ⟨ad6, had⟩ : ∃ z, z = nh_ad ad5 25 0 q := ⟨_, rfl⟩
  have hk := nf_kp.tr hk (nf_kp.new (ad := ad5) (k := 25) (i := 0) (q := q) (fn 25 (by decide) (by decide))) hgr
  rw [← had] at hk
  simp only [← had] at hM hl ⊢
  have hgr := fun a b x hx => Exists.elim (hgr a b x hx) (fun y hy => nf_su_gr (sh := S8) (k := 25) (i := 0) (z := .inr (cs 1, 256, 1)) a b y hy)
  obtain ⟨S9, hS9⟩ : ∃ z, z = nf_su S8 25 0 (.inr (cs 1, 256, 1)) := ⟨_, rfl⟩
  rw [← hS9] at hgr
  rw [← hS9] at hM
  have f20 : S9 20 0 = some (.inl (4, [(0, 0), (2, 21), (2, 22), (2, 23), (2, 24), (3, 0), (3, 0), (0, 0), (3, 0), (3, 0), (3, 0), (0, 0), (3, 0), (0, 0), (3, 0), (3, 0), (3, 0), (3, 0), (3, 0), (3, 0), (3, 0), (3, 0)])) := by rw [hS9, nf_su_n _ _ (by decide)]; exact f20
  have f22 : S9 22 0 = some (.inr (cs 0, 256, 0)) := by rw [hS9, nf_su_n _ _ (by decide)]; exact f22
  have f23 : S9 23 0 = some (.inr (cs 0, 256, 0)) := by rw [hS9, nf_su_n _ _ (by decide)]; exact f23
  have f24 : S9 24 0 = some (.inr (cs 0, 2048, 0)) := by rw [hS9, nf_su_n _ _ (by decide)]; exact f24
  have fc : S9 25 0 = some (.inr (cs 1, 256, 1)) := by rw [hS9]; exact nf_su_s _ _ _ _
  have f25 := fc
  have fn : ∀ a, 26 ≤ a → a ≤ 38 → S9 a 0 = none := fun a h1 h2 => by rw [hS9, nf_su_n _ _ (by omega)]; exact fn a (by omega) h2
  refine nf_putr (pc := 46) (ty := (.array .long)) hC hinX4 tyX4 tyX4_ok nmX4 hM (show S9 20 0 = some (.inl (4, [(0, 0), (2, 21), (2, 22), (2, 23), (2, 24), (3, 0), (3, 0), (0, 0), (3, 0), (3, 0), (3, 0), (0, 0), (3, 0), (0, 0), (3, 0), (3, 0), (3, 0), (3, 0), (3, 0), (3, 0), (3, 0), (3, 0)])) from f20) rfl 5 (by decide) (List.mem_cons_of_mem _ wF_X4_22) rfl (by decide +kernel) rfl rfl (by decide) fc dX4_init_46 (fun H locs hM => ?_)
  have hgr := fun a b x hx => Exists.elim (hgr a b x hx) (fun y hy => nf_su_gr (sh := S9) (k := 20) (i := 0) (z := .inl (4, [(0, 0), (2, 21), (2, 22), (2, 23), (2, 24), (2, 25), (3, 0), (0, 0), (3, 0), (3, 0), (3, 0), (0, 0), (3, 0), (0, 0), (3, 0), (3, 0), (3, 0), (3, 0), (3, 0), (3, 0), (3, 0), (3, 0)])) a b y hy)
  obtain ⟨S10, hS10⟩ : ∃ z, z = nf_su S9 20 0 (.inl (4, [(0, 0), (2, 21), (2, 22), (2, 23), (2, 24), (2, 25), (3, 0), (0, 0), (3, 0), (3, 0), (3, 0), (0, 0), (3, 0), (0, 0), (3, 0), (3, 0), (3, 0), (3, 0), (3, 0), (3, 0), (3, 0), (3, 0)])) := ⟨_, rfl⟩
  rw [← hS10] at hgr
  have hM : nf_M D vwCl Bs S10 ad6 (nf_iz (nf_iz (nf_iz (nf_iz (nf_iz I 21 0) 22 0) 23 0) 24 0) 25 0) (nf_jz (nf_jz (nf_jz (nf_jz (nf_jz J 21 0) 22 0) 23 0) 24 0) 25 0) (nf_pz (nf_pz (nf_pz (nf_pz (nf_pz P 21 0) 22 0) 23 0) 24 0) 25 0) s.heap H locs := by rw [hS10]; exact hM
  have f20 : S10 20 0 = some (.inl (4, [(0, 0), (2, 21), (2, 22), (2, 23), (2, 24), (2, 25), (3, 0), (0, 0), (3, 0), (3, 0), (3, 0), (0, 0), (3, 0), (0, 0), (3, 0), (3, 0), (3, 0), (3, 0), (3, 0), (3, 0), (3, 0), (3, 0)])) := by rw [hS10]; exact nf_su_s _ _ _ _
  have f22 : S10 22 0 = some (.inr (cs 0, 256, 0)) := by rw [hS10, nf_su_n _ _ (by decide)]; exact f22
  have f23 : S10 23 0 = some (.inr (cs 0, 256, 0)) := by rw [hS10, nf_su_n _ _ (by decide)]; exact f23
  have f24 : S10 24 0 = some (.inr (cs 0, 2048, 0)) := by rw [hS10, nf_su_n _ _ (by decide)]; exact f24
  have f25 : S10 25 0 = some (.inr (cs 1, 256, 1)) := by rw [hS10, nf_su_n _ _ (by decide)]; exact f25
  have fn : ∀ a, 26 ≤ a → a ≤ 38 → S10 a 0 = none := fun a h1 h2 => by rw [hS10, nf_su_n _ _ (by omega)]; exact fn a (by omega) h2
  refine lv_aload_n (pc := 49) hx hb dX4_init_49 rfl (lv_at hl 0 rfl) ?_
  refine lv_sipush (pc := 50) (v := 256) hx hb dX4_init_50 (by decide) ?_
  refine nf_newi (pc := 53) hC (List.mem_cons_of_mem _ warr_int) hM 0 rfl 26 0 (fn 26 (by decide) (by decide)) 256 rfl (by decide) (Nat.le_of_ble_eq_true rfl) (Nat.le_of_ble_eq_true rfl) dX4_init_53 (fun q H hM => ?_)
  have hre := (nh_ad_old (q := q) ad6 (show ¬ (20 = 26 ∧ 0 = 0) by omega)).symm
  try rw [hre] at hl
  try rw [hre]
  obtain ⟨ad7, had⟩ : ∃ z, z = nh_ad ad6 26 0 q := ⟨_, rfl⟩
  have hk := nf_kp.tr hk (nf_kp.new (ad := ad6) (k := 26) (i := 0) (q := q) (fn 26 (by decide) (by decide))) hgr
  rw [← had] at hk
  simp only [← had] at hM hl ⊢
  have hgr := fun a b x hx => Exists.elim (hgr a b x hx) (fun y hy => nf_su_gr (sh := S10) (k := 26) (i := 0) (z := .inr (cs 0, 256, 0)) a b y hy)
  obtain ⟨S11, hS11⟩ : ∃ z, z = nf_su S10 26 0 (.inr (cs 0, 256, 0)) := ⟨_, rfl⟩
  rw [← hS11] at hgr
  rw [← hS11] at hM
  have f20 : S11 20 0 = some (.inl (4, [(0, 0), (2, 21), (2, 22), (2, 23), (2, 24), (2, 25), (3, 0), (0, 0), (3, 0), (3, 0), (3, 0), (0, 0), (3, 0), (0, 0), (3, 0), (3, 0), (3, 0), (3, 0), (3, 0), (3, 0), (3, 0), (3, 0)])) := by rw [hS11, nf_su_n _ _ (by decide)]; exact f20
  have f22 : S11 22 0 = some (.inr (cs 0, 256, 0)) := by rw [hS11, nf_su_n _ _ (by decide)]; exact f22
  have f23 : S11 23 0 = some (.inr (cs 0, 256, 0)) := by rw [hS11, nf_su_n _ _ (by decide)]; exact f23
  have f24 : S11 24 0 = some (.inr (cs 0, 2048, 0)) := by rw [hS11, nf_su_n _ _ (by decide)]; exact f24
  have f25 : S11 25 0 = some (.inr (cs 1, 256, 1)) := by rw [hS11, nf_su_n _ _ (by decide)]; exact f25
  have fc : S11 26 0 = some (.inr (cs 0, 256, 0)) := by rw [hS11]; exact nf_su_s _ _ _ _
  have fn : ∀ a, 27 ≤ a → a ≤ 38 → S11 a 0 = none := fun a h1 h2 => by rw [hS11, nf_su_n _ _ (by omega)]; exact fn a (by omega) h2
  refine nf_putr (pc := 55) (ty := (.array .int)) hC hinX4 tyX4 tyX4_ok nmX4 hM (show S11 20 0 = some (.inl (4, [(0, 0), (2, 21), (2, 22), (2, 23), (2, 24), (2, 25), (3, 0), (0, 0), (3, 0), (3, 0), (3, 0), (0, 0), (3, 0), (0, 0), (3, 0), (3, 0), (3, 0), (3, 0), (3, 0), (3, 0), (3, 0), (3, 0)])) from f20) rfl 6 (by decide) (List.mem_cons_of_mem _ wF_X4_26) rfl (by decide +kernel) rfl rfl (by decide) fc dX4_init_55 (fun H locs hM => ?_)
  have hgr := fun a b x hx => Exists.elim (hgr a b x hx) (fun y hy => nf_su_gr (sh := S11) (k := 20) (i := 0) (z := .inl (4, [(0, 0), (2, 21), (2, 22), (2, 23), (2, 24), (2, 25), (2, 26), (0, 0), (3, 0), (3, 0), (3, 0), (0, 0), (3, 0), (0, 0), (3, 0), (3, 0), (3, 0), (3, 0), (3, 0), (3, 0), (3, 0), (3, 0)])) a b y hy)
  obtain ⟨S12, hS12⟩ : ∃ z, z = nf_su S11 20 0 (.inl (4, [(0, 0), (2, 21), (2, 22), (2, 23), (2, 24), (2, 25), (2, 26), (0, 0), (3, 0), (3, 0), (3, 0), (0, 0), (3, 0), (0, 0), (3, 0), (3, 0), (3, 0), (3, 0), (3, 0), (3, 0), (3, 0), (3, 0)])) := ⟨_, rfl⟩
  rw [← hS12] at hgr
  have hM : nf_M D vwCl Bs S12 ad7 (nf_iz (nf_iz (nf_iz (nf_iz (nf_iz (nf_iz I 21 0) 22 0) 23 0) 24 0) 25 0) 26 0) (nf_jz (nf_jz (nf_jz (nf_jz (nf_jz (nf_jz J 21 0) 22 0) 23 0) 24 0) 25 0) 26 0) (nf_pz (nf_pz (nf_pz (nf_pz (nf_pz (nf_pz P 21 0) 22 0) 23 0) 24 0) 25 0) 26 0) s.heap H locs := by rw [hS12]; exact hM
  have f20 : S12 20 0 = some (.inl (4, [(0, 0), (2, 21), (2, 22), (2, 23), (2, 24), (2, 25), (2, 26), (0, 0), (3, 0), (3, 0), (3, 0), (0, 0), (3, 0), (0, 0), (3, 0), (3, 0), (3, 0), (3, 0), (3, 0), (3, 0), (3, 0), (3, 0)])) := by rw [hS12]; exact nf_su_s _ _ _ _
  have f22 : S12 22 0 = some (.inr (cs 0, 256, 0)) := by rw [hS12, nf_su_n _ _ (by decide)]; exact f22
  have f23 : S12 23 0 = some (.inr (cs 0, 256, 0)) := by rw [hS12, nf_su_n _ _ (by decide)]; exact f23
  have f24 : S12 24 0 = some (.inr (cs 0, 2048, 0)) := by rw [hS12, nf_su_n _ _ (by decide)]; exact f24
  have f25 : S12 25 0 = some (.inr (cs 1, 256, 1)) := by rw [hS12, nf_su_n _ _ (by decide)]; exact f25
  have fn : ∀ a, 27 ≤ a → a ≤ 38 → S12 a 0 = none := fun a h1 h2 => by rw [hS12, nf_su_n _ _ (by omega)]; exact fn a (by omega) h2
  refine lv_aload_n (pc := 58) hx hb dX4_init_58 rfl (lv_at hl 0 rfl) ?_
  refine lv_bipush (pc := 59) (v := 120) hx hb dX4_init_59 (by decide) ?_
  refine nf_newi (pc := 61) hC (List.mem_cons_of_mem _ warr_int) hM 0 rfl 27 0 (fn 27 (by decide) (by decide)) 120 rfl (by decide) (Nat.le_of_ble_eq_true rfl) (Nat.le_of_ble_eq_true rfl) dX4_init_61 (fun q H hM => ?_)
  have hre := (nh_ad_old (q := q) ad7 (show ¬ (20 = 27 ∧ 0 = 0) by omega)).symm
  try rw [hre] at hl
  try rw [hre]
  obtain ⟨ad8, had⟩ : ∃ z, z = nh_ad ad7 27 0 q := ⟨_, rfl⟩
  have hk := nf_kp.tr hk (nf_kp.new (ad := ad7) (k := 27) (i := 0) (q := q) (fn 27 (by decide) (by decide))) hgr
  rw [← had] at hk
  simp only [← had] at hM hl ⊢
  have hgr := fun a b x hx => Exists.elim (hgr a b x hx) (fun y hy => nf_su_gr (sh := S12) (k := 27) (i := 0) (z := .inr (cs 0, 120, 0)) a b y hy)
  obtain ⟨S13, hS13⟩ : ∃ z, z = nf_su S12 27 0 (.inr (cs 0, 120, 0)) := ⟨_, rfl⟩
  rw [← hS13] at hgr
  rw [← hS13] at hM
  have f20 : S13 20 0 = some (.inl (4, [(0, 0), (2, 21), (2, 22), (2, 23), (2, 24), (2, 25), (2, 26), (0, 0), (3, 0), (3, 0), (3, 0), (0, 0), (3, 0), (0, 0), (3, 0), (3, 0), (3, 0), (3, 0), (3, 0), (3, 0), (3, 0), (3, 0)])) := by rw [hS13, nf_su_n _ _ (by decide)]; exact f20
  have f22 : S13 22 0 = some (.inr (cs 0, 256, 0)) := by rw [hS13, nf_su_n _ _ (by decide)]; exact f22
  have f23 : S13 23 0 = some (.inr (cs 0, 256, 0)) := by rw [hS13, nf_su_n _ _ (by decide)]; exact f23
  have f24 : S13 24 0 = some (.inr (cs 0, 2048, 0)) := by rw [hS13, nf_su_n _ _ (by decide)]; exact f24
  have f25 : S13 25 0 = some (.inr (cs 1, 256, 1)) := by rw [hS13, nf_su_n _ _ (by decide)]; exact f25
  have fc : S13 27 0 = some (.inr (cs 0, 120, 0)) := by rw [hS13]; exact nf_su_s _ _ _ _
  have fn : ∀ a, 28 ≤ a → a ≤ 38 → S13 a 0 = none := fun a h1 h2 => by rw [hS13, nf_su_n _ _ (by omega)]; exact fn a (by omega) h2
  refine nf_putr (pc := 63) (ty := (.array .int)) hC hinX4 tyX4 tyX4_ok nmX4 hM (show S13 20 0 = some (.inl (4, [(0, 0), (2, 21), (2, 22), (2, 23), (2, 24), (2, 25), (2, 26), (0, 0), (3, 0), (3, 0), (3, 0), (0, 0), (3, 0), (0, 0), (3, 0), (3, 0), (3, 0), (3, 0), (3, 0), (3, 0), (3, 0), (3, 0)])) from f20) rfl 8 (by decide) (List.mem_cons_of_mem _ wF_X4_29) rfl (by decide +kernel) rfl rfl (by decide) fc dX4_init_63 (fun H locs hM => ?_)
  have hgr := fun a b x hx => Exists.elim (hgr a b x hx) (fun y hy => nf_su_gr (sh := S13) (k := 20) (i := 0) (z := .inl (4, [(0, 0), (2, 21), (2, 22), (2, 23), (2, 24), (2, 25), (2, 26), (0, 0), (2, 27), (3, 0), (3, 0), (0, 0), (3, 0), (0, 0), (3, 0), (3, 0), (3, 0), (3, 0), (3, 0), (3, 0), (3, 0), (3, 0)])) a b y hy)
  obtain ⟨S14, hS14⟩ : ∃ z, z = nf_su S13 20 0 (.inl (4, [(0, 0), (2, 21), (2, 22), (2, 23), (2, 24), (2, 25), (2, 26), (0, 0), (2, 27), (3, 0), (3, 0), (0, 0), (3, 0), (0, 0), (3, 0), (3, 0), (3, 0), (3, 0), (3, 0), (3, 0), (3, 0), (3, 0)])) := ⟨_, rfl⟩
  rw [← hS14] at hgr
  have hM : nf_M D vwCl Bs S14 ad8 (nf_iz (nf_iz (nf_iz (nf_iz (nf_iz (nf_iz (nf_iz I 21 0) 22 0) 23 0) 24 0) 25 0) 26 0) 27 0) (nf_jz (nf_jz (nf_jz (nf_jz (nf_jz (nf_jz (nf_jz J 21 0) 22 0) 23 0) 24 0) 25 0) 26 0) 27 0) (nf_pz (nf_pz (nf_pz (nf_pz (nf_pz (nf_pz (nf_pz P 21 0) 22 0) 23 0) 24 0) 25 0) 26 0) 27 0) s.heap H locs := by rw [hS14]; exact hM
  have f20 : S14 20 0 = some (.inl (4, [(0, 0), (2, 21), (2, 22), (2, 23), (2, 24), (2, 25), (2, 26), (0, 0), (2, 27), (3, 0), (3, 0), (0, 0), (3, 0), (0, 0), (3, 0), (3, 0), (3, 0), (3, 0), (3, 0), (3, 0), (3, 0), (3, 0)])) := by rw [hS14]; exact nf_su_s _ _ _ _
  have f22 : S14 22 0 = some (.inr (cs 0, 256, 0)) := by rw [hS14, nf_su_n _ _ (by decide)]; exact f22
  have f23 : S14 23 0 = some (.inr (cs 0, 256, 0)) := by rw [hS14, nf_su_n _ _ (by decide)]; exact f23
  have f24 : S14 24 0 = some (.inr (cs 0, 2048, 0)) := by rw [hS14, nf_su_n _ _ (by decide)]; exact f24
  have f25 : S14 25 0 = some (.inr (cs 1, 256, 1)) := by rw [hS14, nf_su_n _ _ (by decide)]; exact f25
  have fn : ∀ a, 28 ≤ a → a ≤ 38 → S14 a 0 = none := fun a h1 h2 => by rw [hS14, nf_su_n _ _ (by omega)]; exact fn a (by omega) h2
  refine lv_aload_n (pc := 66) hx hb dX4_init_66 rfl (lv_at hl 0 rfl) ?_
  refine lv_bipush (pc := 67) (v := 120) hx hb dX4_init_67 (by decide) ?_
  refine nf_newi (pc := 69) hC (List.mem_cons_of_mem _ warr_int) hM 0 rfl 28 0 (fn 28 (by decide) (by decide)) 120 rfl (by decide) (Nat.le_of_ble_eq_true rfl) (Nat.le_of_ble_eq_true rfl) dX4_init_69 (fun q H hM => ?_)
  have hre := (nh_ad_old (q := q) ad8 (show ¬ (20 = 28 ∧ 0 = 0) by omega)).symm
  try rw [hre] at hl
  try rw [hre]
  obtain ⟨ad9, had⟩ : ∃ z, z = nh_ad ad8 28 0 q := ⟨_, rfl⟩
  have hk := nf_kp.tr hk (nf_kp.new (ad := ad8) (k := 28) (i := 0) (q := q) (fn 28 (by decide) (by decide))) hgr
  rw [← had] at hk
  simp only [← had] at hM hl ⊢
  have hgr := fun a b x hx => Exists.elim (hgr a b x hx) (fun y hy => nf_su_gr (sh := S14) (k := 28) (i := 0) (z := .inr (cs 0, 120, 0)) a b y hy)
  obtain ⟨S15, hS15⟩ : ∃ z, z = nf_su S14 28 0 (.inr (cs 0, 120, 0)) := ⟨_, rfl⟩
  rw [← hS15] at hgr
  rw [← hS15] at hM
  have f20 : S15 20 0 = some (.inl (4, [(0, 0), (2, 21), (2, 22), (2, 23), (2, 24), (2, 25), (2, 26), (0, 0), (2, 27), (3, 0), (3, 0), (0, 0), (3, 0), (0, 0), (3, 0), (3, 0), (3, 0), (3, 0), (3, 0), (3, 0), (3, 0), (3, 0)])) := by rw [hS15, nf_su_n _ _ (by decide)]; exact f20
  have f22 : S15 22 0 = some (.inr (cs 0, 256, 0)) := by rw [hS15, nf_su_n _ _ (by decide)]; exact f22
  have f23 : S15 23 0 = some (.inr (cs 0, 256, 0)) := by rw [hS15, nf_su_n _ _ (by decide)]; exact f23
  have f24 : S15 24 0 = some (.inr (cs 0, 2048, 0)) := by rw [hS15, nf_su_n _ _ (by decide)]; exact f24
  have f25 : S15 25 0 = some (.inr (cs 1, 256, 1)) := by rw [hS15, nf_su_n _ _ (by decide)]; exact f25
  have fc : S15 28 0 = some (.inr (cs 0, 120, 0)) := by rw [hS15]; exact nf_su_s _ _ _ _
  have fn : ∀ a, 29 ≤ a → a ≤ 38 → S15 a 0 = none := fun a h1 h2 => by rw [hS15, nf_su_n _ _ (by omega)]; exact fn a (by omega) h2
  refine nf_putr (pc := 71) (ty := (.array .int)) hC hinX4 tyX4 tyX4_ok nmX4 hM (show S15 20 0 = some (.inl (4, [(0, 0), (2, 21), (2, 22), (2, 23), (2, 24), (2, 25), (2, 26), (0, 0), (2, 27), (3, 0), (3, 0), (0, 0), (3, 0), (0, 0), (3, 0), (3, 0), (3, 0), (3, 0), (3, 0), (3, 0), (3, 0), (3, 0)])) from f20) rfl 9 (by decide) (List.mem_cons_of_mem _ wF_X4_32) rfl (by decide +kernel) rfl rfl (by decide) fc dX4_init_71 (fun H locs hM => ?_)
  have hgr := fun a b x hx => Exists.elim (hgr a b x hx) (fun y hy => nf_su_gr (sh := S15) (k := 20) (i := 0) (z := .inl (4, [(0, 0), (2, 21), (2, 22), (2, 23), (2, 24), (2, 25), (2, 26), (0, 0), (2, 27), (2, 28), (3, 0), (0, 0), (3, 0), (0, 0), (3, 0), (3, 0), (3, 0), (3, 0), (3, 0), (3, 0), (3, 0), (3, 0)])) a b y hy)
  obtain ⟨S16, hS16⟩ : ∃ z, z = nf_su S15 20 0 (.inl (4, [(0, 0), (2, 21), (2, 22), (2, 23), (2, 24), (2, 25), (2, 26), (0, 0), (2, 27), (2, 28), (3, 0), (0, 0), (3, 0), (0, 0), (3, 0), (3, 0), (3, 0), (3, 0), (3, 0), (3, 0), (3, 0), (3, 0)])) := ⟨_, rfl⟩
  rw [← hS16] at hgr
  have hM : nf_M D vwCl Bs S16 ad9 (nf_iz (nf_iz (nf_iz (nf_iz (nf_iz (nf_iz (nf_iz (nf_iz I 21 0) 22 0) 23 0) 24 0) 25 0) 26 0) 27 0) 28 0) (nf_jz (nf_jz (nf_jz (nf_jz (nf_jz (nf_jz (nf_jz (nf_jz J 21 0) 22 0) 23 0) 24 0) 25 0) 26 0) 27 0) 28 0) (nf_pz (nf_pz (nf_pz (nf_pz (nf_pz (nf_pz (nf_pz (nf_pz P 21 0) 22 0) 23 0) 24 0) 25 0) 26 0) 27 0) 28 0) s.heap H locs := by rw [hS16]; exact hM
  have f20 : S16 20 0 = some (.inl (4, [(0, 0), (2, 21), (2, 22), (2, 23), (2, 24), (2, 25), (2, 26), (0, 0), (2, 27), (2, 28), (3, 0), (0, 0), (3, 0), (0, 0), (3, 0), (3, 0), (3, 0), (3, 0), (3, 0), (3, 0), (3, 0), (3, 0)])) := by rw [hS16]; exact nf_su_s _ _ _ _
  have f22 : S16 22 0 = some (.inr (cs 0, 256, 0)) := by rw [hS16, nf_su_n _ _ (by decide)]; exact f22
  have f23 : S16 23 0 = some (.inr (cs 0, 256, 0)) := by rw [hS16, nf_su_n _ _ (by decide)]; exact f23
  have f24 : S16 24 0 = some (.inr (cs 0, 2048, 0)) := by rw [hS16, nf_su_n _ _ (by decide)]; exact f24
  have f25 : S16 25 0 = some (.inr (cs 1, 256, 1)) := by rw [hS16, nf_su_n _ _ (by decide)]; exact f25
  have fn : ∀ a, 29 ≤ a → a ≤ 38 → S16 a 0 = none := fun a h1 h2 => by rw [hS16, nf_su_n _ _ (by omega)]; exact fn a (by omega) h2
  refine lv_aload_n (pc := 74) hx hb dX4_init_74 rfl (lv_at hl 0 rfl) ?_
  refine lv_bipush (pc := 75) (v := 120) hx hb dX4_init_75 (by decide) ?_
  refine nf_newi (pc := 77) hC (List.mem_cons_of_mem _ warr_int) hM 0 rfl 29 0 (fn 29 (by decide) (by decide)) 120 rfl (by decide) (Nat.le_of_ble_eq_true rfl) (Nat.le_of_ble_eq_true rfl) dX4_init_77 (fun q H hM => ?_)
  have hre := (nh_ad_old (q := q) ad9 (show ¬ (20 = 29 ∧ 0 = 0) by omega)).symm
  try rw [hre] at hl
  try rw [hre]
  obtain ⟨ad10, had⟩ : ∃ z, z = nh_ad ad9 29 0 q := ⟨_, rfl⟩
  have hk := nf_kp.tr hk (nf_kp.new (ad := ad9) (k := 29) (i := 0) (q := q) (fn 29 (by decide) (by decide))) hgr
  rw [← had] at hk
  simp only [← had] at hM hl ⊢
  have hgr := fun a b x hx => Exists.elim (hgr a b x hx) (fun y hy => nf_su_gr (sh := S16) (k := 29) (i := 0) (z := .inr (cs 0, 120, 0)) a b y hy)
  obtain ⟨S17, hS17⟩ : ∃ z, z = nf_su S16 29 0 (.inr (cs 0, 120, 0)) := ⟨_, rfl⟩
  rw [← hS17] at hgr
  rw [← hS17] at hM
  have f20 : S17 20 0 = some (.inl (4, [(0, 0), (2, 21), (2, 22), (2, 23), (2, 24), (2, 25), (2, 26), (0, 0), (2, 27), (2, 28), (3, 0), (0, 0), (3, 0), (0, 0), (3, 0), (3, 0), (3, 0), (3, 0), (3, 0), (3, 0), (3, 0), (3, 0)])) := by rw [hS17, nf_su_n _ _ (by decide)]; exact f20
  have f22 : S17 22 0 = some (.inr (cs 0, 256, 0)) := by rw [hS17, nf_su_n _ _ (by decide)]; exact f22
  have f23 : S17 23 0 = some (.inr (cs 0, 256, 0)) := by rw [hS17, nf_su_n _ _ (by decide)]; exact f23
  have f24 : S17 24 0 = some (.inr (cs 0, 2048, 0)) := by rw [hS17, nf_su_n _ _ (by decide)]; exact f24
  have f25 : S17 25 0 = some (.inr (cs 1, 256, 1)) := by rw [hS17, nf_su_n _ _ (by decide)]; exact f25
  have fc : S17 29 0 = some (.inr (cs 0, 120, 0)) := by rw [hS17]; exact nf_su_s _ _ _ _
  have fn : ∀ a, 30 ≤ a → a ≤ 38 → S17 a 0 = none := fun a h1 h2 => by rw [hS17, nf_su_n _ _ (by omega)]; exact fn a (by omega) h2
  refine nf_putr (pc := 79) (ty := (.array .int)) hC hinX4 tyX4 tyX4_ok nmX4 hM (show S17 20 0 = some (.inl (4, [(0, 0), (2, 21), (2, 22), (2, 23), (2, 24), (2, 25), (2, 26), (0, 0), (2, 27), (2, 28), (3, 0), (0, 0), (3, 0), (0, 0), (3, 0), (3, 0), (3, 0), (3, 0), (3, 0), (3, 0), (3, 0), (3, 0)])) from f20) rfl 10 (by decide) (List.mem_cons_of_mem _ wF_X4_35) rfl (by decide +kernel) rfl rfl (by decide) fc dX4_init_79 (fun H locs hM => ?_)
  have hgr := fun a b x hx => Exists.elim (hgr a b x hx) (fun y hy => nf_su_gr (sh := S17) (k := 20) (i := 0) (z := .inl (4, [(0, 0), (2, 21), (2, 22), (2, 23), (2, 24), (2, 25), (2, 26), (0, 0), (2, 27), (2, 28), (2, 29), (0, 0), (3, 0), (0, 0), (3, 0), (3, 0), (3, 0), (3, 0), (3, 0), (3, 0), (3, 0), (3, 0)])) a b y hy)
  obtain ⟨S18, hS18⟩ : ∃ z, z = nf_su S17 20 0 (.inl (4, [(0, 0), (2, 21), (2, 22), (2, 23), (2, 24), (2, 25), (2, 26), (0, 0), (2, 27), (2, 28), (2, 29), (0, 0), (3, 0), (0, 0), (3, 0), (3, 0), (3, 0), (3, 0), (3, 0), (3, 0), (3, 0), (3, 0)])) := ⟨_, rfl⟩
  rw [← hS18] at hgr
  have hM : nf_M D vwCl Bs S18 ad10 (nf_iz (nf_iz (nf_iz (nf_iz (nf_iz (nf_iz (nf_iz (nf_iz (nf_iz I 21 0) 22 0) 23 0) 24 0) 25 0) 26 0) 27 0) 28 0) 29 0) (nf_jz (nf_jz (nf_jz (nf_jz (nf_jz (nf_jz (nf_jz (nf_jz (nf_jz J 21 0) 22 0) 23 0) 24 0) 25 0) 26 0) 27 0) 28 0) 29 0) (nf_pz (nf_pz (nf_pz (nf_pz (nf_pz (nf_pz (nf_pz (nf_pz (nf_pz P 21 0) 22 0) 23 0) 24 0) 25 0) 26 0) 27 0) 28 0) 29 0) s.heap H locs := by rw [hS18]; exact hM
  have f20 : S18 20 0 = some (.inl (4, [(0, 0), (2, 21), (2, 22), (2, 23), (2, 24), (2, 25), (2, 26), (0, 0), (2, 27), (2, 28), (2, 29), (0, 0), (3, 0), (0, 0), (3, 0), (3, 0), (3, 0), (3, 0), (3, 0), (3, 0), (3, 0), (3, 0)])) := by rw [hS18]; exact nf_su_s _ _ _ _
  have f22 : S18 22 0 = some (.inr (cs 0, 256, 0)) := by rw [hS18, nf_su_n _ _ (by decide)]; exact f22
  have f23 : S18 23 0 = some (.inr (cs 0, 256, 0)) := by rw [hS18, nf_su_n _ _ (by decide)]; exact f23
  have f24 : S18 24 0 = some (.inr (cs 0, 2048, 0)) := by rw [hS18, nf_su_n _ _ (by decide)]; exact f24
  have f25 : S18 25 0 = some (.inr (cs 1, 256, 1)) := by rw [hS18, nf_su_n _ _ (by decide)]; exact f25
  have fn : ∀ a, 30 ≤ a → a ≤ 38 → S18 a 0 = none := fun a h1 h2 => by rw [hS18, nf_su_n _ _ (by omega)]; exact fn a (by omega) h2
  refine lv_aload_n (pc := 82) hx hb dX4_init_82 rfl (lv_at hl 0 rfl) ?_
  refine lv_bipush (pc := 83) (v := 10) hx hb dX4_init_83 (by decide) ?_
  refine nf_newi (pc := 85) hC (List.mem_cons_of_mem _ warr_int) hM 0 rfl 30 0 (fn 30 (by decide) (by decide)) 10 rfl (by decide) (Nat.le_of_ble_eq_true rfl) (Nat.le_of_ble_eq_true rfl) dX4_init_85 (fun q H hM => ?_)
  have hre := (nh_ad_old (q := q) ad10 (show ¬ (20 = 30 ∧ 0 = 0) by omega)).symm
  try rw [hre] at hl
  try rw [hre]
  obtain ⟨ad11, had⟩ : ∃ z, z = nh_ad ad10 30 0 q := ⟨_, rfl⟩
  have hk := nf_kp.tr hk (nf_kp.new (ad := ad10) (k := 30) (i := 0) (q := q) (fn 30 (by decide) (by decide))) hgr
  rw [← had] at hk
  simp only [← had] at hM hl ⊢
  have hgr := fun a b x hx => Exists.elim (hgr a b x hx) (fun y hy => nf_su_gr (sh := S18) (k := 30) (i := 0) (z := .inr (cs 0, 10, 0)) a b y hy)
  obtain ⟨S19, hS19⟩ : ∃ z, z = nf_su S18 30 0 (.inr (cs 0, 10, 0)) := ⟨_, rfl⟩
  rw [← hS19] at hgr
  rw [← hS19] at hM
  have f20 : S19 20 0 = some (.inl (4, [(0, 0), (2, 21), (2, 22), (2, 23), (2, 24), (2, 25), (2, 26), (0, 0), (2, 27), (2, 28), (2, 29), (0, 0), (3, 0), (0, 0), (3, 0), (3, 0), (3, 0), (3, 0), (3, 0), (3, 0), (3, 0), (3, 0)])) := by rw [hS19, nf_su_n _ _ (by decide)]; exact f20
  have f22 : S19 22 0 = some (.inr (cs 0, 256, 0)) := by rw [hS19, nf_su_n _ _ (by decide)]; exact f22
  have f23 : S19 23 0 = some (.inr (cs 0, 256, 0)) := by rw [hS19, nf_su_n _ _ (by decide)]; exact f23
  have f24 : S19 24 0 = some (.inr (cs 0, 2048, 0)) := by rw [hS19, nf_su_n _ _ (by decide)]; exact f24
  have f25 : S19 25 0 = some (.inr (cs 1, 256, 1)) := by rw [hS19, nf_su_n _ _ (by decide)]; exact f25
  have fc : S19 30 0 = some (.inr (cs 0, 10, 0)) := by rw [hS19]; exact nf_su_s _ _ _ _
  have fn : ∀ a, 31 ≤ a → a ≤ 38 → S19 a 0 = none := fun a h1 h2 => by rw [hS19, nf_su_n _ _ (by omega)]; exact fn a (by omega) h2
  refine nf_putr (pc := 87) (ty := (.array .int)) hC hinX4 tyX4 tyX4_ok nmX4 hM (show S19 20 0 = some (.inl (4, [(0, 0), (2, 21), (2, 22), (2, 23), (2, 24), (2, 25), (2, 26), (0, 0), (2, 27), (2, 28), (2, 29), (0, 0), (3, 0), (0, 0), (3, 0), (3, 0), (3, 0), (3, 0), (3, 0), (3, 0), (3, 0), (3, 0)])) from f20) rfl 12 (by decide) (List.mem_cons_of_mem _ wF_X4_38) rfl (by decide +kernel) rfl rfl (by decide) fc dX4_init_87 (fun H locs hM => ?_)
  have hgr := fun a b x hx => Exists.elim (hgr a b x hx) (fun y hy => nf_su_gr (sh := S19) (k := 20) (i := 0) (z := .inl (4, [(0, 0), (2, 21), (2, 22), (2, 23), (2, 24), (2, 25), (2, 26), (0, 0), (2, 27), (2, 28), (2, 29), (0, 0), (2, 30), (0, 0), (3, 0), (3, 0), (3, 0), (3, 0), (3, 0), (3, 0), (3, 0), (3, 0)])) a b y hy)
  obtain ⟨S20, hS20⟩ : ∃ z, z = nf_su S19 20 0 (.inl (4, [(0, 0), (2, 21), (2, 22), (2, 23), (2, 24), (2, 25), (2, 26), (0, 0), (2, 27), (2, 28), (2, 29), (0, 0), (2, 30), (0, 0), (3, 0), (3, 0), (3, 0), (3, 0), (3, 0), (3, 0), (3, 0), (3, 0)])) := ⟨_, rfl⟩
  rw [← hS20] at hgr
  have hM : nf_M D vwCl Bs S20 ad11 (nf_iz (nf_iz (nf_iz (nf_iz (nf_iz (nf_iz (nf_iz (nf_iz (nf_iz (nf_iz I 21 0) 22 0) 23 0) 24 0) 25 0) 26 0) 27 0) 28 0) 29 0) 30 0) (nf_jz (nf_jz (nf_jz (nf_jz (nf_jz (nf_jz (nf_jz (nf_jz (nf_jz (nf_jz J 21 0) 22 0) 23 0) 24 0) 25 0) 26 0) 27 0) 28 0) 29 0) 30 0) (nf_pz (nf_pz (nf_pz (nf_pz (nf_pz (nf_pz (nf_pz (nf_pz (nf_pz (nf_pz P 21 0) 22 0) 23 0) 24 0) 25 0) 26 0) 27 0) 28 0) 29 0) 30 0) s.heap H locs := by rw [hS20]; exact hM
  have f20 : S20 20 0 = some (.inl (4, [(0, 0), (2, 21), (2, 22), (2, 23), (2, 24), (2, 25), (2, 26), (0, 0), (2, 27), (2, 28), (2, 29), (0, 0), (2, 30), (0, 0), (3, 0), (3, 0), (3, 0), (3, 0), (3, 0), (3, 0), (3, 0), (3, 0)])) := by rw [hS20]; exact nf_su_s _ _ _ _
  have f22 : S20 22 0 = some (.inr (cs 0, 256, 0)) := by rw [hS20, nf_su_n _ _ (by decide)]; exact f22
  have f23 : S20 23 0 = some (.inr (cs 0, 256, 0)) := by rw [hS20, nf_su_n _ _ (by decide)]; exact f23
  have f24 : S20 24 0 = some (.inr (cs 0, 2048, 0)) := by rw [hS20, nf_su_n _ _ (by decide)]; exact f24
  have f25 : S20 25 0 = some (.inr (cs 1, 256, 1)) := by rw [hS20, nf_su_n _ _ (by decide)]; exact f25
  have fn : ∀ a, 31 ≤ a → a ≤ 38 → S20 a 0 = none := fun a h1 h2 => by rw [hS20, nf_su_n _ _ (by omega)]; exact fn a (by omega) h2
  refine lv_aload_n (pc := 90) hx hb dX4_init_90 rfl (lv_at hl 0 rfl) ?_
  refine lv_bipush (pc := 91) (v := 21) hx hb dX4_init_91 (by decide) ?_
  refine nf_newi (pc := 93) hC (List.mem_cons_of_mem _ warr_int) hM 0 rfl 31 0 (fn 31 (by decide) (by decide)) 21 rfl (by decide) (Nat.le_of_ble_eq_true rfl) (Nat.le_of_ble_eq_true rfl) dX4_init_93 (fun q H hM => ?_)
  have hre := (nh_ad_old (q := q) ad11 (show ¬ (20 = 31 ∧ 0 = 0) by omega)).symm
  try rw [hre] at hl
  try rw [hre]
  obtain ⟨ad12, had⟩ : ∃ z, z = nh_ad ad11 31 0 q := ⟨_, rfl⟩
  have hk := nf_kp.tr hk (nf_kp.new (ad := ad11) (k := 31) (i := 0) (q := q) (fn 31 (by decide) (by decide))) hgr
  rw [← had] at hk
  simp only [← had] at hM hl ⊢
  have hgr := fun a b x hx => Exists.elim (hgr a b x hx) (fun y hy => nf_su_gr (sh := S20) (k := 31) (i := 0) (z := .inr (cs 0, 21, 0)) a b y hy)
  obtain ⟨S21, hS21⟩ : ∃ z, z = nf_su S20 31 0 (.inr (cs 0, 21, 0)) := ⟨_, rfl⟩
  rw [← hS21] at hgr
  rw [← hS21] at hM
  have f20 : S21 20 0 = some (.inl (4, [(0, 0), (2, 21), (2, 22), (2, 23), (2, 24), (2, 25), (2, 26), (0, 0), (2, 27), (2, 28), (2, 29), (0, 0), (2, 30), (0, 0), (3, 0), (3, 0), (3, 0), (3, 0), (3, 0), (3, 0), (3, 0), (3, 0)])) := by rw [hS21, nf_su_n _ _ (by decide)]; exact f20
  have f22 : S21 22 0 = some (.inr (cs 0, 256, 0)) := by rw [hS21, nf_su_n _ _ (by decide)]; exact f22
  have f23 : S21 23 0 = some (.inr (cs 0, 256, 0)) := by rw [hS21, nf_su_n _ _ (by decide)]; exact f23
  have f24 : S21 24 0 = some (.inr (cs 0, 2048, 0)) := by rw [hS21, nf_su_n _ _ (by decide)]; exact f24
  have f25 : S21 25 0 = some (.inr (cs 1, 256, 1)) := by rw [hS21, nf_su_n _ _ (by decide)]; exact f25
  have fc : S21 31 0 = some (.inr (cs 0, 21, 0)) := by rw [hS21]; exact nf_su_s _ _ _ _
  have fn : ∀ a, 32 ≤ a → a ≤ 38 → S21 a 0 = none := fun a h1 h2 => by rw [hS21, nf_su_n _ _ (by omega)]; exact fn a (by omega) h2
  refine nf_putr (pc := 95) (ty := (.array .int)) hC hinX4 tyX4 tyX4_ok nmX4 hM (show S21 20 0 = some (.inl (4, [(0, 0), (2, 21), (2, 22), (2, 23), (2, 24), (2, 25), (2, 26), (0, 0), (2, 27), (2, 28), (2, 29), (0, 0), (2, 30), (0, 0), (3, 0), (3, 0), (3, 0), (3, 0), (3, 0), (3, 0), (3, 0), (3, 0)])) from f20) rfl 14 (by decide) (List.mem_cons_of_mem _ wF_X4_41) rfl (by decide +kernel) rfl rfl (by decide) fc dX4_init_95 (fun H locs hM => ?_)
  have hgr := fun a b x hx => Exists.elim (hgr a b x hx) (fun y hy => nf_su_gr (sh := S21) (k := 20) (i := 0) (z := .inl (4, [(0, 0), (2, 21), (2, 22), (2, 23), (2, 24), (2, 25), (2, 26), (0, 0), (2, 27), (2, 28), (2, 29), (0, 0), (2, 30), (0, 0), (2, 31), (3, 0), (3, 0), (3, 0), (3, 0), (3, 0), (3, 0), (3, 0)])) a b y hy)
  obtain ⟨S22, hS22⟩ : ∃ z, z = nf_su S21 20 0 (.inl (4, [(0, 0), (2, 21), (2, 22), (2, 23), (2, 24), (2, 25), (2, 26), (0, 0), (2, 27), (2, 28), (2, 29), (0, 0), (2, 30), (0, 0), (2, 31), (3, 0), (3, 0), (3, 0), (3, 0), (3, 0), (3, 0), (3, 0)])) := ⟨_, rfl⟩
  rw [← hS22] at hgr
  have hM : nf_M D vwCl Bs S22 ad12 (nf_iz (nf_iz (nf_iz (nf_iz (nf_iz (nf_iz (nf_iz (nf_iz (nf_iz (nf_iz (nf_iz I 21 0) 22 0) 23 0) 24 0) 25 0) 26 0) 27 0) 28 0) 29 0) 30 0) 31 0) (nf_jz (nf_jz (nf_jz (nf_jz (nf_jz (nf_jz (nf_jz (nf_jz (nf_jz (nf_jz (nf_jz J 21 0) 22 0) 23 0) 24 0) 25 0) 26 0) 27 0) 28 0) 29 0) 30 0) 31 0) (nf_pz (nf_pz (nf_pz (nf_pz (nf_pz (nf_pz (nf_pz (nf_pz (nf_pz (nf_pz (nf_pz P 21 0) 22 0) 23 0) 24 0) 25 0) 26 0) 27 0) 28 0) 29 0) 30 0) 31 0) s.heap H locs := by rw [hS22]; exact hM
  have f20 : S22 20 0 = some (.inl (4, [(0, 0), (2, 21), (2, 22), (2, 23), (2, 24), (2, 25), (2, 26), (0, 0), (2, 27), (2, 28), (2, 29), (0, 0), (2, 30), (0, 0), (2, 31), (3, 0), (3, 0), (3, 0), (3, 0), (3, 0), (3, 0), (3, 0)])) := by rw [hS22]; exact nf_su_s _ _ _ _
  have f22 : S22 22 0 = some (.inr (cs 0, 256, 0)) := by rw [hS22, nf_su_n _ _ (by decide)]; exact f22
  have f23 : S22 23 0 = some (.inr (cs 0, 256, 0)) := by rw [hS22, nf_su_n _ _ (by decide)]; exact f23
  have f24 : S22 24 0 = some (.inr (cs 0, 2048, 0)) := by rw [hS22, nf_su_n _ _ (by decide)]; exact f24
  have f25 : S22 25 0 = some (.inr (cs 1, 256, 1)) := by rw [hS22, nf_su_n _ _ (by decide)]; exact f25
  have fn : ∀ a, 32 ≤ a → a ≤ 38 → S22 a 0 = none := fun a h1 h2 => by rw [hS22, nf_su_n _ _ (by omega)]; exact fn a (by omega) h2
  refine lv_aload_n (pc := 98) hx hb dX4_init_98 rfl (lv_at hl 0 rfl) ?_
  refine lv_bipush (pc := 99) (v := 21) hx hb dX4_init_99 (by decide) ?_
  refine nf_newi (pc := 101) hC (List.mem_cons_of_mem _ warr_int) hM 0 rfl 32 0 (fn 32 (by decide) (by decide)) 21 rfl (by decide) (Nat.le_of_ble_eq_true rfl) (Nat.le_of_ble_eq_true rfl) dX4_init_101 (fun q H hM => ?_)
  have hre := (nh_ad_old (q := q) ad12 (show ¬ (20 = 32 ∧ 0 = 0) by omega)).symm
  try rw [hre] at hl
  try rw [hre]
  obtain ⟨ad13, had⟩ : ∃ z, z = nh_ad ad12 32 0 q := ⟨_, rfl⟩
  have hk := nf_kp.tr hk (nf_kp.new (ad := ad12) (k := 32) (i := 0) (q := q) (fn 32 (by decide) (by decide))) hgr
  rw [← had] at hk
  simp only [← had] at hM hl ⊢
  have hgr := fun a b x hx => Exists.elim (hgr a b x hx) (fun y hy => nf_su_gr (sh := S22) (k := 32) (i := 0) (z := .inr (cs 0, 21, 0)) a b y hy)
  obtain ⟨S23, hS23⟩ : ∃ z, z = nf_su S22 32 0 (.inr (cs 0, 21, 0)) := ⟨_, rfl⟩
  rw [← hS23] at hgr
  rw [← hS23] at hM
  have f20 : S23 20 0 = some (.inl (4, [(0, 0), (2, 21), (2, 22), (2, 23), (2, 24), (2, 25), (2, 26), (0, 0), (2, 27), (2, 28), (2, 29), (0, 0), (2, 30), (0, 0), (2, 31), (3, 0), (3, 0), (3, 0), (3, 0), (3, 0), (3, 0), (3, 0)])) := by rw [hS23, nf_su_n _ _ (by decide)]; exact f20
  have f22 : S23 22 0 = some (.inr (cs 0, 256, 0)) := by rw [hS23, nf_su_n _ _ (by decide)]; exact f22
  have f23 : S23 23 0 = some (.inr (cs 0, 256, 0)) := by rw [hS23, nf_su_n _ _ (by decide)]; exact f23
  have f24 : S23 24 0 = some (.inr (cs 0, 2048, 0)) := by rw [hS23, nf_su_n _ _ (by decide)]; exact f24
  have f25 : S23 25 0 = some (.inr (cs 1, 256, 1)) := by rw [hS23, nf_su_n _ _ (by decide)]; exact f25
  have fc : S23 32 0 = some (.inr (cs 0, 21, 0)) := by rw [hS23]; exact nf_su_s _ _ _ _
  have fn : ∀ a, 33 ≤ a → a ≤ 38 → S23 a 0 = none := fun a h1 h2 => by rw [hS23, nf_su_n _ _ (by omega)]; exact fn a (by omega) h2
  refine nf_putr (pc := 103) (ty := (.array .int)) hC hinX4 tyX4 tyX4_ok nmX4 hM (show S23 20 0 = some (.inl (4, [(0, 0), (2, 21), (2, 22), (2, 23), (2, 24), (2, 25), (2, 26), (0, 0), (2, 27), (2, 28), (2, 29), (0, 0), (2, 30), (0, 0), (2, 31), (3, 0), (3, 0), (3, 0), (3, 0), (3, 0), (3, 0), (3, 0)])) from f20) rfl 15 (by decide) (List.mem_cons_of_mem _ wF_X4_44) rfl (by decide +kernel) rfl rfl (by decide) fc dX4_init_103 (fun H locs hM => ?_)
  have hgr := fun a b x hx => Exists.elim (hgr a b x hx) (fun y hy => nf_su_gr (sh := S23) (k := 20) (i := 0) (z := .inl (4, [(0, 0), (2, 21), (2, 22), (2, 23), (2, 24), (2, 25), (2, 26), (0, 0), (2, 27), (2, 28), (2, 29), (0, 0), (2, 30), (0, 0), (2, 31), (2, 32), (3, 0), (3, 0), (3, 0), (3, 0), (3, 0), (3, 0)])) a b y hy)
  obtain ⟨S24, hS24⟩ : ∃ z, z = nf_su S23 20 0 (.inl (4, [(0, 0), (2, 21), (2, 22), (2, 23), (2, 24), (2, 25), (2, 26), (0, 0), (2, 27), (2, 28), (2, 29), (0, 0), (2, 30), (0, 0), (2, 31), (2, 32), (3, 0), (3, 0), (3, 0), (3, 0), (3, 0), (3, 0)])) := ⟨_, rfl⟩
  rw [← hS24] at hgr
  have hM : nf_M D vwCl Bs S24 ad13 (nf_iz (nf_iz (nf_iz (nf_iz (nf_iz (nf_iz (nf_iz (nf_iz (nf_iz (nf_iz (nf_iz (nf_iz I 21 0) 22 0) 23 0) 24 0) 25 0) 26 0) 27 0) 28 0) 29 0) 30 0) 31 0) 32 0) (nf_jz (nf_jz (nf_jz (nf_jz (nf_jz (nf_jz (nf_jz (nf_jz (nf_jz (nf_jz (nf_jz (nf_jz J 21 0) 22 0) 23 0) 24 0) 25 0) 26 0) 27 0) 28 0) 29 0) 30 0) 31 0) 32 0) (nf_pz (nf_pz (nf_pz (nf_pz (nf_pz (nf_pz (nf_pz (nf_pz (nf_pz (nf_pz (nf_pz (nf_pz P 21 0) 22 0) 23 0) 24 0) 25 0) 26 0) 27 0) 28 0) 29 0) 30 0) 31 0) 32 0) s.heap H locs := by rw [hS24]; exact hM
  have f20 : S24 20 0 = some (.inl (4, [(0, 0), (2, 21), (2, 22), (2, 23), (2, 24), (2, 25), (2, 26), (0, 0), (2, 27), (2, 28), (2, 29), (0, 0), (2, 30), (0, 0), (2, 31), (2, 32), (3, 0), (3, 0), (3, 0), (3, 0), (3, 0), (3, 0)])) := by rw [hS24]; exact nf_su_s _ _ _ _
  have f22 : S24 22 0 = some (.inr (cs 0, 256, 0)) := by rw [hS24, nf_su_n _ _ (by decide)]; exact f22
  have f23 : S24 23 0 = some (.inr (cs 0, 256, 0)) := by rw [hS24, nf_su_n _ _ (by decide)]; exact f23
  have f24 : S24 24 0 = some (.inr (cs 0, 2048, 0)) := by rw [hS24, nf_su_n _ _ (by decide)]; exact f24
  have f25 : S24 25 0 = some (.inr (cs 1, 256, 1)) := by rw [hS24, nf_su_n _ _ (by decide)]; exact f25
  have fn : ∀ a, 33 ≤ a → a ≤ 38 → S24 a 0 = none := fun a h1 h2 => by rw [hS24, nf_su_n _ _ (by omega)]; exact fn a (by omega) h2
  refine lv_aload_n (pc := 106) hx hb dX4_init_106 rfl (lv_at hl 0 rfl) ?_
  refine lv_bipush (pc := 107) (v := 21) hx hb dX4_init_107 (by decide) ?_
  refine nf_newi (pc := 109) hC (List.mem_cons_of_mem _ warr_int) hM 0 rfl 33 0 (fn 33 (by decide) (by decide)) 21 rfl (by decide) (Nat.le_of_ble_eq_true rfl) (Nat.le_of_ble_eq_true rfl) dX4_init_109 (fun q H hM => ?_)
  have hre := (nh_ad_old (q := q) ad13 (show ¬ (20 = 33 ∧ 0 = 0) by omega)).symm
  try rw [hre] at hl
  try rw [hre]
  obtain ⟨ad14, had⟩ : ∃ z, z = nh_ad ad13 33 0 q := ⟨_, rfl⟩
  have hk := nf_kp.tr hk (nf_kp.new (ad := ad13) (k := 33) (i := 0) (q := q) (fn 33 (by decide) (by decide))) hgr
  rw [← had] at hk
  simp only [← had] at hM hl ⊢
  have hgr := fun a b x hx => Exists.elim (hgr a b x hx) (fun y hy => nf_su_gr (sh := S24) (k := 33) (i := 0) (z := .inr (cs 0, 21, 0)) a b y hy)
  obtain ⟨S25, hS25⟩ : ∃ z, z = nf_su S24 33 0 (.inr (cs 0, 21, 0)) := ⟨_, rfl⟩
  rw [← hS25] at hgr
  rw [← hS25] at hM
  have f20 : S25 20 0 = some (.inl (4, [(0, 0), (2, 21), (2, 22), (2, 23), (2, 24), (2, 25), (2, 26), (0, 0), (2, 27), (2, 28), (2, 29), (0, 0), (2, 30), (0, 0), (2, 31), (2, 32), (3, 0), (3, 0), (3, 0), (3, 0), (3, 0), (3, 0)])) := by rw [hS25, nf_su_n _ _ (by decide)]; exact f20
  have f22 : S25 22 0 = some (.inr (cs 0, 256, 0)) := by rw [hS25, nf_su_n _ _ (by decide)]; exact f22
  have f23 : S25 23 0 = some (.inr (cs 0, 256, 0)) := by rw [hS25, nf_su_n _ _ (by decide)]; exact f23
  have f24 : S25 24 0 = some (.inr (cs 0, 2048, 0)) := by rw [hS25, nf_su_n _ _ (by decide)]; exact f24
  have f25 : S25 25 0 = some (.inr (cs 1, 256, 1)) := by rw [hS25, nf_su_n _ _ (by decide)]; exact f25
  have fc : S25 33 0 = some (.inr (cs 0, 21, 0)) := by rw [hS25]; exact nf_su_s _ _ _ _
  have fn : ∀ a, 34 ≤ a → a ≤ 38 → S25 a 0 = none := fun a h1 h2 => by rw [hS25, nf_su_n _ _ (by omega)]; exact fn a (by omega) h2
  refine nf_putr (pc := 111) (ty := (.array .int)) hC hinX4 tyX4 tyX4_ok nmX4 hM (show S25 20 0 = some (.inl (4, [(0, 0), (2, 21), (2, 22), (2, 23), (2, 24), (2, 25), (2, 26), (0, 0), (2, 27), (2, 28), (2, 29), (0, 0), (2, 30), (0, 0), (2, 31), (2, 32), (3, 0), (3, 0), (3, 0), (3, 0), (3, 0), (3, 0)])) from f20) rfl 16 (by decide) (List.mem_cons_of_mem _ wF_X4_47) rfl (by decide +kernel) rfl rfl (by decide) fc dX4_init_111 (fun H locs hM => ?_)
  have hgr := fun a b x hx => Exists.elim (hgr a b x hx) (fun y hy => nf_su_gr (sh := S25) (k := 20) (i := 0) (z := .inl (4, [(0, 0), (2, 21), (2, 22), (2, 23), (2, 24), (2, 25), (2, 26), (0, 0), (2, 27), (2, 28), (2, 29), (0, 0), (2, 30), (0, 0), (2, 31), (2, 32), (2, 33), (3, 0), (3, 0), (3, 0), (3, 0), (3, 0)])) a b y hy)
  obtain ⟨S26, hS26⟩ : ∃ z, z = nf_su S25 20 0 (.inl (4, [(0, 0), (2, 21), (2, 22), (2, 23), (2, 24), (2, 25), (2, 26), (0, 0), (2, 27), (2, 28), (2, 29), (0, 0), (2, 30), (0, 0), (2, 31), (2, 32), (2, 33), (3, 0), (3, 0), (3, 0), (3, 0), (3, 0)])) := ⟨_, rfl⟩
  rw [← hS26] at hgr
  have hM : nf_M D vwCl Bs S26 ad14 (nf_iz (nf_iz (nf_iz (nf_iz (nf_iz (nf_iz (nf_iz (nf_iz (nf_iz (nf_iz (nf_iz (nf_iz (nf_iz I 21 0) 22 0) 23 0) 24 0) 25 0) 26 0) 27 0) 28 0) 29 0) 30 0) 31 0) 32 0) 33 0) (nf_jz (nf_jz (nf_jz (nf_jz (nf_jz (nf_jz (nf_jz (nf_jz (nf_jz (nf_jz (nf_jz (nf_jz (nf_jz J 21 0) 22 0) 23 0) 24 0) 25 0) 26 0) 27 0) 28 0) 29 0) 30 0) 31 0) 32 0) 33 0) (nf_pz (nf_pz (nf_pz (nf_pz (nf_pz (nf_pz (nf_pz (nf_pz (nf_pz (nf_pz (nf_pz (nf_pz (nf_pz P 21 0) 22 0) 23 0) 24 0) 25 0) 26 0) 27 0) 28 0) 29 0) 30 0) 31 0) 32 0) 33 0) s.heap H locs := by rw [hS26]; exact hM
  have f20 : S26 20 0 = some (.inl (4, [(0, 0), (2, 21), (2, 22), (2, 23), (2, 24), (2, 25), (2, 26), (0, 0), (2, 27), (2, 28), (2, 29), (0, 0), (2, 30), (0, 0), (2, 31), (2, 32), (2, 33), (3, 0), (3, 0), (3, 0), (3, 0), (3, 0)])) := by rw [hS26]; exact nf_su_s _ _ _ _
  have f22 : S26 22 0 = some (.inr (cs 0, 256, 0)) := by rw [hS26, nf_su_n _ _ (by decide)]; exact f22
  have f23 : S26 23 0 = some (.inr (cs 0, 256, 0)) := by rw [hS26, nf_su_n _ _ (by decide)]; exact f23
  have f24 : S26 24 0 = some (.inr (cs 0, 2048, 0)) := by rw [hS26, nf_su_n _ _ (by decide)]; exact f24
  have f25 : S26 25 0 = some (.inr (cs 1, 256, 1)) := by rw [hS26, nf_su_n _ _ (by decide)]; exact f25
  have fn : ∀ a, 34 ≤ a → a ≤ 38 → S26 a 0 = none := fun a h1 h2 => by rw [hS26, nf_su_n _ _ (by omega)]; exact fn a (by omega) h2
  refine lv_aload_n (pc := 114) hx hb dX4_init_114 rfl (lv_at hl 0 rfl) ?_
  refine lv_bipush (pc := 115) (v := 21) hx hb dX4_init_115 (by decide) ?_
  refine nf_newi (pc := 117) hC (List.mem_cons_of_mem _ warr_int) hM 0 rfl 34 0 (fn 34 (by decide) (by decide)) 21 rfl (by decide) (Nat.le_of_ble_eq_true rfl) (Nat.le_of_ble_eq_true rfl) dX4_init_117 (fun q H hM => ?_)
  have hre := (nh_ad_old (q := q) ad14 (show ¬ (20 = 34 ∧ 0 = 0) by omega)).symm
  try rw [hre] at hl
  try rw [hre]
  obtain ⟨ad15, had⟩ : ∃ z, z = nh_ad ad14 34 0 q := ⟨_, rfl⟩
  have hk := nf_kp.tr hk (nf_kp.new (ad := ad14) (k := 34) (i := 0) (q := q) (fn 34 (by decide) (by decide))) hgr
  rw [← had] at hk
  simp only [← had] at hM hl ⊢
  have hgr := fun a b x hx => Exists.elim (hgr a b x hx) (fun y hy => nf_su_gr (sh := S26) (k := 34) (i := 0) (z := .inr (cs 0, 21, 0)) a b y hy)
  obtain ⟨S27, hS27⟩ : ∃ z, z = nf_su S26 34 0 (.inr (cs 0, 21, 0)) := ⟨_, rfl⟩
  rw [← hS27] at hgr
  rw [← hS27] at hM
  have f20 : S27 20 0 = some (.inl (4, [(0, 0), (2, 21), (2, 22), (2, 23), (2, 24), (2, 25), (2, 26), (0, 0), (2, 27), (2, 28), (2, 29), (0, 0), (2, 30), (0, 0), (2, 31), (2, 32), (2, 33), (3, 0), (3, 0), (3, 0), (3, 0), (3, 0)])) := by rw [hS27, nf_su_n _ _ (by decide)]; exact f20
  have f22 : S27 22 0 = some (.inr (cs 0, 256, 0)) := by rw [hS27, nf_su_n _ _ (by decide)]; exact f22
  have f23 : S27 23 0 = some (.inr (cs 0, 256, 0)) := by rw [hS27, nf_su_n _ _ (by decide)]; exact f23
  have f24 : S27 24 0 = some (.inr (cs 0, 2048, 0)) := by rw [hS27, nf_su_n _ _ (by decide)]; exact f24
  have f25 : S27 25 0 = some (.inr (cs 1, 256, 1)) := by rw [hS27, nf_su_n _ _ (by decide)]; exact f25
  have fc : S27 34 0 = some (.inr (cs 0, 21, 0)) := by rw [hS27]; exact nf_su_s _ _ _ _
  have fn : ∀ a, 35 ≤ a → a ≤ 38 → S27 a 0 = none := fun a h1 h2 => by rw [hS27, nf_su_n _ _ (by omega)]; exact fn a (by omega) h2
  refine nf_putr (pc := 119) (ty := (.array .int)) hC hinX4 tyX4 tyX4_ok nmX4 hM (show S27 20 0 = some (.inl (4, [(0, 0), (2, 21), (2, 22), (2, 23), (2, 24), (2, 25), (2, 26), (0, 0), (2, 27), (2, 28), (2, 29), (0, 0), (2, 30), (0, 0), (2, 31), (2, 32), (2, 33), (3, 0), (3, 0), (3, 0), (3, 0), (3, 0)])) from f20) rfl 17 (by decide) (List.mem_cons_of_mem _ wF_X4_50) rfl (by decide +kernel) rfl rfl (by decide) fc dX4_init_119 (fun H locs hM => ?_)
  have hgr := fun a b x hx => Exists.elim (hgr a b x hx) (fun y hy => nf_su_gr (sh := S27) (k := 20) (i := 0) (z := .inl (4, [(0, 0), (2, 21), (2, 22), (2, 23), (2, 24), (2, 25), (2, 26), (0, 0), (2, 27), (2, 28), (2, 29), (0, 0), (2, 30), (0, 0), (2, 31), (2, 32), (2, 33), (2, 34), (3, 0), (3, 0), (3, 0), (3, 0)])) a b y hy)
  obtain ⟨S28, hS28⟩ : ∃ z, z = nf_su S27 20 0 (.inl (4, [(0, 0), (2, 21), (2, 22), (2, 23), (2, 24), (2, 25), (2, 26), (0, 0), (2, 27), (2, 28), (2, 29), (0, 0), (2, 30), (0, 0), (2, 31), (2, 32), (2, 33), (2, 34), (3, 0), (3, 0), (3, 0), (3, 0)])) := ⟨_, rfl⟩
  rw [← hS28] at hgr
  have hM : nf_M D vwCl Bs S28 ad15 (nf_iz (nf_iz (nf_iz (nf_iz (nf_iz (nf_iz (nf_iz (nf_iz (nf_iz (nf_iz (nf_iz (nf_iz (nf_iz (nf_iz I 21 0) 22 0) 23 0) 24 0) 25 0) 26 0) 27 0) 28 0) 29 0) 30 0) 31 0) 32 0) 33 0) 34 0) (nf_jz (nf_jz (nf_jz (nf_jz (nf_jz (nf_jz (nf_jz (nf_jz (nf_jz (nf_jz (nf_jz (nf_jz (nf_jz (nf_jz J 21 0) 22 0) 23 0) 24 0) 25 0) 26 0) 27 0) 28 0) 29 0) 30 0) 31 0) 32 0) 33 0) 34 0) (nf_pz (nf_pz (nf_pz (nf_pz (nf_pz (nf_pz (nf_pz (nf_pz (nf_pz (nf_pz (nf_pz (nf_pz (nf_pz (nf_pz P 21 0) 22 0) 23 0) 24 0) 25 0) 26 0) 27 0) 28 0) 29 0) 30 0) 31 0) 32 0) 33 0) 34 0) s.heap H locs := by rw [hS28]; exact hM
  have f20 : S28 20 0 = some (.inl (4, [(0, 0), (2, 21), (2, 22), (2, 23), (2, 24), (2, 25), (2, 26), (0, 0), (2, 27), (2, 28), (2, 29), (0, 0), (2, 30), (0, 0), (2, 31), (2, 32), (2, 33), (2, 34), (3, 0), (3, 0), (3, 0), (3, 0)])) := by rw [hS28]; exact nf_su_s _ _ _ _
  have f22 : S28 22 0 = some (.inr (cs 0, 256, 0)) := by rw [hS28, nf_su_n _ _ (by decide)]; exact f22
  have f23 : S28 23 0 = some (.inr (cs 0, 256, 0)) := by rw [hS28, nf_su_n _ _ (by decide)]; exact f23
  have f24 : S28 24 0 = some (.inr (cs 0, 2048, 0)) := by rw [hS28, nf_su_n _ _ (by decide)]; exact f24
  have f25 : S28 25 0 = some (.inr (cs 1, 256, 1)) := by rw [hS28, nf_su_n _ _ (by decide)]; exact f25
  have fn : ∀ a, 35 ≤ a → a ≤ 38 → S28 a 0 = none := fun a h1 h2 => by rw [hS28, nf_su_n _ _ (by omega)]; exact fn a (by omega) h2
  refine lv_aload_n (pc := 122) hx hb dX4_init_122 rfl (lv_at hl 0 rfl) ?_
  refine lv_bipush (pc := 123) (v := 21) hx hb dX4_init_123 (by decide) ?_
  refine nf_newi (pc := 125) hC (List.mem_cons_of_mem _ warr_int) hM 0 rfl 35 0 (fn 35 (by decide) (by decide)) 21 rfl (by decide) (Nat.le_of_ble_eq_true rfl) (Nat.le_of_ble_eq_true rfl) dX4_init_125 (fun q H hM => ?_)
  have hre := (nh_ad_old (q := q) ad15 (show ¬ (20 = 35 ∧ 0 = 0) by omega)).symm
  try rw [hre] at hl
  try rw [hre]
  obtain ⟨ad16, had⟩ : ∃ z, z = nh_ad ad15 35 0 q := ⟨_, rfl⟩
  have hk := nf_kp.tr hk (nf_kp.new (ad := ad15) (k := 35) (i := 0) (q := q) (fn 35 (by decide) (by decide))) hgr
  rw [← had] at hk
  simp only [← had] at hM hl ⊢
  have hgr := fun a b x hx => Exists.elim (hgr a b x hx) (fun y hy => nf_su_gr (sh := S28) (k := 35) (i := 0) (z := .inr (cs 0, 21, 0)) a b y hy)
  obtain ⟨S29, hS29⟩ : ∃ z, z = nf_su S28 35 0 (.inr (cs 0, 21, 0)) := ⟨_, rfl⟩
  rw [← hS29] at hgr
  rw [← hS29] at hM
  have f20 : S29 20 0 = some (.inl (4, [(0, 0), (2, 21), (2, 22), (2, 23), (2, 24), (2, 25), (2, 26), (0, 0), (2, 27), (2, 28), (2, 29), (0, 0), (2, 30), (0, 0), (2, 31), (2, 32), (2, 33), (2, 34), (3, 0), (3, 0), (3, 0), (3, 0)])) := by rw [hS29, nf_su_n _ _ (by decide)]; exact f20
  have f22 : S29 22 0 = some (.inr (cs 0, 256, 0)) := by rw [hS29, nf_su_n _ _ (by decide)]; exact f22
  have f23 : S29 23 0 = some (.inr (cs 0, 256, 0)) := by rw [hS29, nf_su_n _ _ (by decide)]; exact f23
  have f24 : S29 24 0 = some (.inr (cs 0, 2048, 0)) := by rw [hS29, nf_su_n _ _ (by decide)]; exact f24
  have f25 : S29 25 0 = some (.inr (cs 1, 256, 1)) := by rw [hS29, nf_su_n _ _ (by decide)]; exact f25
  have fc : S29 35 0 = some (.inr (cs 0, 21, 0)) := by rw [hS29]; exact nf_su_s _ _ _ _
  have fn : ∀ a, 36 ≤ a → a ≤ 38 → S29 a 0 = none := fun a h1 h2 => by rw [hS29, nf_su_n _ _ (by omega)]; exact fn a (by omega) h2
  refine nf_putr (pc := 127) (ty := (.array .int)) hC hinX4 tyX4 tyX4_ok nmX4 hM (show S29 20 0 = some (.inl (4, [(0, 0), (2, 21), (2, 22), (2, 23), (2, 24), (2, 25), (2, 26), (0, 0), (2, 27), (2, 28), (2, 29), (0, 0), (2, 30), (0, 0), (2, 31), (2, 32), (2, 33), (2, 34), (3, 0), (3, 0), (3, 0), (3, 0)])) from f20) rfl 18 (by decide) (List.mem_cons_of_mem _ wF_X4_53) rfl (by decide +kernel) rfl rfl (by decide) fc dX4_init_127 (fun H locs hM => ?_)
  have hgr := fun a b x hx => Exists.elim (hgr a b x hx) (fun y hy => nf_su_gr (sh := S29) (k := 20) (i := 0) (z := .inl (4, [(0, 0), (2, 21), (2, 22), (2, 23), (2, 24), (2, 25), (2, 26), (0, 0), (2, 27), (2, 28), (2, 29), (0, 0), (2, 30), (0, 0), (2, 31), (2, 32), (2, 33), (2, 34), (2, 35), (3, 0), (3, 0), (3, 0)])) a b y hy)
  obtain ⟨S30, hS30⟩ : ∃ z, z = nf_su S29 20 0 (.inl (4, [(0, 0), (2, 21), (2, 22), (2, 23), (2, 24), (2, 25), (2, 26), (0, 0), (2, 27), (2, 28), (2, 29), (0, 0), (2, 30), (0, 0), (2, 31), (2, 32), (2, 33), (2, 34), (2, 35), (3, 0), (3, 0), (3, 0)])) := ⟨_, rfl⟩
  rw [← hS30] at hgr
  have hM : nf_M D vwCl Bs S30 ad16 (nf_iz (nf_iz (nf_iz (nf_iz (nf_iz (nf_iz (nf_iz (nf_iz (nf_iz (nf_iz (nf_iz (nf_iz (nf_iz (nf_iz (nf_iz I 21 0) 22 0) 23 0) 24 0) 25 0) 26 0) 27 0) 28 0) 29 0) 30 0) 31 0) 32 0) 33 0) 34 0) 35 0) (nf_jz (nf_jz (nf_jz (nf_jz (nf_jz (nf_jz (nf_jz (nf_jz (nf_jz (nf_jz (nf_jz (nf_jz (nf_jz (nf_jz (nf_jz J 21 0) 22 0) 23 0) 24 0) 25 0) 26 0) 27 0) 28 0) 29 0) 30 0) 31 0) 32 0) 33 0) 34 0) 35 0) (nf_pz (nf_pz (nf_pz (nf_pz (nf_pz (nf_pz (nf_pz (nf_pz (nf_pz (nf_pz (nf_pz (nf_pz (nf_pz (nf_pz (nf_pz P 21 0) 22 0) 23 0) 24 0) 25 0) 26 0) 27 0) 28 0) 29 0) 30 0) 31 0) 32 0) 33 0) 34 0) 35 0) s.heap H locs := by rw [hS30]; exact hM
  have f20 : S30 20 0 = some (.inl (4, [(0, 0), (2, 21), (2, 22), (2, 23), (2, 24), (2, 25), (2, 26), (0, 0), (2, 27), (2, 28), (2, 29), (0, 0), (2, 30), (0, 0), (2, 31), (2, 32), (2, 33), (2, 34), (2, 35), (3, 0), (3, 0), (3, 0)])) := by rw [hS30]; exact nf_su_s _ _ _ _
  have f22 : S30 22 0 = some (.inr (cs 0, 256, 0)) := by rw [hS30, nf_su_n _ _ (by decide)]; exact f22
  have f23 : S30 23 0 = some (.inr (cs 0, 256, 0)) := by rw [hS30, nf_su_n _ _ (by decide)]; exact f23
  have f24 : S30 24 0 = some (.inr (cs 0, 2048, 0)) := by rw [hS30, nf_su_n _ _ (by decide)]; exact f24
  have f25 : S30 25 0 = some (.inr (cs 1, 256, 1)) := by rw [hS30, nf_su_n _ _ (by decide)]; exact f25
  have fn : ∀ a, 36 ≤ a → a ≤ 38 → S30 a 0 = none := fun a h1 h2 => by rw [hS30, nf_su_n _ _ (by omega)]; exact fn a (by omega) h2
  refine lv_aload_n (pc := 130) hx hb dX4_init_130 rfl (lv_at hl 0 rfl) ?_
  refine lv_bipush (pc := 131) (v := 21) hx hb dX4_init_131 (by decide) ?_
  refine nf_newi (pc := 133) hC (List.mem_cons_of_mem _ warr_int) hM 0 rfl 36 0 (fn 36 (by decide) (by decide)) 21 rfl (by decide) (Nat.le_of_ble_eq_true rfl) (Nat.le_of_ble_eq_true rfl) dX4_init_133 (fun q H hM => ?_)
  have hre := (nh_ad_old (q := q) ad16 (show ¬ (20 = 36 ∧ 0 = 0) by omega)).symm
  try rw [hre] at hl
  try rw [hre]
  obtain ⟨ad17, had⟩ : ∃ z, z = nh_ad ad16 36 0 q := ⟨_, rfl⟩
  have hk := nf_kp.tr hk (nf_kp.new (ad := ad16) (k := 36) (i := 0) (q := q) (fn 36 (by decide) (by decide))) hgr
  rw [← had] at hk
  simp only [← had] at hM hl ⊢
  have hgr := fun a b x hx => Exists.elim (hgr a b x hx) (fun y hy => nf_su_gr (sh := S30) (k := 36) (i := 0) (z := .inr (cs 0, 21, 0)) a b y hy)
  obtain ⟨S31, hS31⟩ : ∃ z, z = nf_su S30 36 0 (.inr (cs 0, 21, 0)) := ⟨_, rfl⟩
  rw [← hS31] at hgr
  rw [← hS31] at hM
  have f20 : S31 20 0 = some (.inl (4, [(0, 0), (2, 21), (2, 22), (2, 23), (2, 24), (2, 25), (2, 26), (0, 0), (2, 27), (2, 28), (2, 29), (0, 0), (2, 30), (0, 0), (2, 31), (2, 32), (2, 33), (2, 34), (2, 35), (3, 0), (3, 0), (3, 0)])) := by rw [hS31, nf_su_n _ _ (by decide)]; exact f20
  have f22 : S31 22 0 = some (.inr (cs 0, 256, 0)) := by rw [hS31, nf_su_n _ _ (by decide)]; exact f22
  have f23 : S31 23 0 = some (.inr (cs 0, 256, 0)) := by rw [hS31, nf_su_n _ _ (by decide)]; exact f23
  have f24 : S31 24 0 = some (.inr (cs 0, 2048, 0)) := by rw [hS31, nf_su_n _ _ (by decide)]; exact f24
  have f25 : S31 25 0 = some (.inr (cs 1, 256, 1)) := by rw [hS31, nf_su_n _ _ (by decide)]; exact f25
  have fc : S31 36 0 = some (.inr (cs 0, 21, 0)) := by rw [hS31]; exact nf_su_s _ _ _ _
  have fn : ∀ a, 37 ≤ a → a ≤ 38 → S31 a 0 = none := fun a h1 h2 => by rw [hS31, nf_su_n _ _ (by omega)]; exact fn a (by omega) h2
  refine nf_putr (pc := 135) (ty := (.array .int)) hC hinX4 tyX4 tyX4_ok nmX4 hM (show S31 20 0 = some (.inl (4, [(0, 0), (2, 21), (2, 22), (2, 23), (2, 24), (2, 25), (2, 26), (0, 0), (2, 27), (2, 28), (2, 29), (0, 0), (2, 30), (0, 0), (2, 31), (2, 32), (2, 33), (2, 34), (2, 35), (3, 0), (3, 0), (3, 0)])) from f20) rfl 19 (by decide) (List.mem_cons_of_mem _ wF_X4_56) rfl (by decide +kernel) rfl rfl (by decide) fc dX4_init_135 (fun H locs hM => ?_)
  have hgr := fun a b x hx => Exists.elim (hgr a b x hx) (fun y hy => nf_su_gr (sh := S31) (k := 20) (i := 0) (z := .inl (4, [(0, 0), (2, 21), (2, 22), (2, 23), (2, 24), (2, 25), (2, 26), (0, 0), (2, 27), (2, 28), (2, 29), (0, 0), (2, 30), (0, 0), (2, 31), (2, 32), (2, 33), (2, 34), (2, 35), (2, 36), (3, 0), (3, 0)])) a b y hy)
  obtain ⟨S32, hS32⟩ : ∃ z, z = nf_su S31 20 0 (.inl (4, [(0, 0), (2, 21), (2, 22), (2, 23), (2, 24), (2, 25), (2, 26), (0, 0), (2, 27), (2, 28), (2, 29), (0, 0), (2, 30), (0, 0), (2, 31), (2, 32), (2, 33), (2, 34), (2, 35), (2, 36), (3, 0), (3, 0)])) := ⟨_, rfl⟩
  rw [← hS32] at hgr
  have hM : nf_M D vwCl Bs S32 ad17 (nf_iz (nf_iz (nf_iz (nf_iz (nf_iz (nf_iz (nf_iz (nf_iz (nf_iz (nf_iz (nf_iz (nf_iz (nf_iz (nf_iz (nf_iz (nf_iz I 21 0) 22 0) 23 0) 24 0) 25 0) 26 0) 27 0) 28 0) 29 0) 30 0) 31 0) 32 0) 33 0) 34 0) 35 0) 36 0) (nf_jz (nf_jz (nf_jz (nf_jz (nf_jz (nf_jz (nf_jz (nf_jz (nf_jz (nf_jz (nf_jz (nf_jz (nf_jz (nf_jz (nf_jz (nf_jz J 21 0) 22 0) 23 0) 24 0) 25 0) 26 0) 27 0) 28 0) 29 0) 30 0) 31 0) 32 0) 33 0) 34 0) 35 0) 36 0) (nf_pz (nf_pz (nf_pz (nf_pz (nf_pz (nf_pz (nf_pz (nf_pz (nf_pz (nf_pz (nf_pz (nf_pz (nf_pz (nf_pz (nf_pz (nf_pz P 21 0) 22 0) 23 0) 24 0) 25 0) 26 0) 27 0) 28 0) 29 0) 30 0) 31 0) 32 0) 33 0) 34 0) 35 0) 36 0) s.heap H locs := by rw [hS32]; exact hM
  have f20 : S32 20 0 = some (.inl (4, [(0, 0), (2, 21), (2, 22), (2, 23), (2, 24), (2, 25), (2, 26), (0, 0), (2, 27), (2, 28), (2, 29), (0, 0), (2, 30), (0, 0), (2, 31), (2, 32), (2, 33), (2, 34), (2, 35), (2, 36), (3, 0), (3, 0)])) := by rw [hS32]; exact nf_su_s _ _ _ _
  have f22 : S32 22 0 = some (.inr (cs 0, 256, 0)) := by rw [hS32, nf_su_n _ _ (by decide)]; exact f22
  have f23 : S32 23 0 = some (.inr (cs 0, 256, 0)) := by rw [hS32, nf_su_n _ _ (by decide)]; exact f23
  have f24 : S32 24 0 = some (.inr (cs 0, 2048, 0)) := by rw [hS32, nf_su_n _ _ (by decide)]; exact f24
  have f25 : S32 25 0 = some (.inr (cs 1, 256, 1)) := by rw [hS32, nf_su_n _ _ (by decide)]; exact f25
  have fn : ∀ a, 37 ≤ a → a ≤ 38 → S32 a 0 = none := fun a h1 h2 => by rw [hS32, nf_su_n _ _ (by omega)]; exact fn a (by omega) h2
  refine lv_aload_n (pc := 138) hx hb dX4_init_138 rfl (lv_at hl 0 rfl) ?_
  refine lv_bipush (pc := 139) (v := 21) hx hb dX4_init_139 (by decide) ?_
  refine nf_newi (pc := 141) hC (List.mem_cons_of_mem _ warr_int) hM 0 rfl 37 0 (fn 37 (by decide) (by decide)) 21 rfl (by decide) (Nat.le_of_ble_eq_true rfl) (Nat.le_of_ble_eq_true rfl) dX4_init_141 (fun q H hM => ?_)
  have hre := (nh_ad_old (q := q) ad17 (show ¬ (20 = 37 ∧ 0 = 0) by omega)).symm
  try rw [hre] at hl
  try rw [hre]
  obtain ⟨ad18, had⟩ : ∃ z, z = nh_ad ad17 37 0 q := ⟨_, rfl⟩
  have hk := nf_kp.tr hk (nf_kp.new (ad := ad17) (k := 37) (i := 0) (q := q) (fn 37 (by decide) (by decide))) hgr
  rw [← had] at hk
  simp only [← had] at hM hl ⊢
  have hgr := fun a b x hx => Exists.elim (hgr a b x hx) (fun y hy => nf_su_gr (sh := S32) (k := 37) (i := 0) (z := .inr (cs 0, 21, 0)) a b y hy)
  obtain ⟨S33, hS33⟩ : ∃ z, z = nf_su S32 37 0 (.inr (cs 0, 21, 0)) := ⟨_, rfl⟩
  rw [← hS33] at hgr
  rw [← hS33] at hM
  have f20 : S33 20 0 = some (.inl (4, [(0, 0), (2, 21), (2, 22), (2, 23), (2, 24), (2, 25), (2, 26), (0, 0), (2, 27), (2, 28), (2, 29), (0, 0), (2, 30), (0, 0), (2, 31), (2, 32), (2, 33), (2, 34), (2, 35), (2, 36), (3, 0), (3, 0)])) := by rw [hS33, nf_su_n _ _ (by decide)]; exact f20
  have f22 : S33 22 0 = some (.inr (cs 0, 256, 0)) := by rw [hS33, nf_su_n _ _ (by decide)]; exact f22
  have f23 : S33 23 0 = some (.inr (cs 0, 256, 0)) := by rw [hS33, nf_su_n _ _ (by decide)]; exact f23
  have f24 : S33 24 0 = some (.inr (cs 0, 2048, 0)) := by rw [hS33, nf_su_n _ _ (by decide)]; exact f24
  have f25 : S33 25 0 = some (.inr (cs 1, 256, 1)) := by rw [hS33, nf_su_n _ _ (by decide)]; exact f25
  have fc : S33 37 0 = some (.inr (cs 0, 21, 0)) := by rw [hS33]; exact nf_su_s _ _ _ _
  have fn : ∀ a, 38 ≤ a → a ≤ 38 → S33 a 0 = none := fun a h1 h2 => by rw [hS33, nf_su_n _ _ (by omega)]; exact fn a (by omega) h2
  refine nf_putr (pc := 143) (ty := (.array .int)) hC hinX4 tyX4 tyX4_ok nmX4 hM (show S33 20 0 = some (.inl (4, [(0, 0), (2, 21), (2, 22), (2, 23), (2, 24), (2, 25), (2, 26), (0, 0), (2, 27), (2, 28), (2, 29), (0, 0), (2, 30), (0, 0), (2, 31), (2, 32), (2, 33), (2, 34), (2, 35), (2, 36), (3, 0), (3, 0)])) from f20) rfl 20 (by decide) (List.mem_cons_of_mem _ wF_X4_59) rfl (by decide +kernel) rfl rfl (by decide) fc dX4_init_143 (fun H locs hM => ?_)
  have hgr := fun a b x hx => Exists.elim (hgr a b x hx) (fun y hy => nf_su_gr (sh := S33) (k := 20) (i := 0) (z := .inl (4, [(0, 0), (2, 21), (2, 22), (2, 23), (2, 24), (2, 25), (2, 26), (0, 0), (2, 27), (2, 28), (2, 29), (0, 0), (2, 30), (0, 0), (2, 31), (2, 32), (2, 33), (2, 34), (2, 35), (2, 36), (2, 37), (3, 0)])) a b y hy)
  obtain ⟨S34, hS34⟩ : ∃ z, z = nf_su S33 20 0 (.inl (4, [(0, 0), (2, 21), (2, 22), (2, 23), (2, 24), (2, 25), (2, 26), (0, 0), (2, 27), (2, 28), (2, 29), (0, 0), (2, 30), (0, 0), (2, 31), (2, 32), (2, 33), (2, 34), (2, 35), (2, 36), (2, 37), (3, 0)])) := ⟨_, rfl⟩
  rw [← hS34] at hgr
  have hM : nf_M D vwCl Bs S34 ad18 (nf_iz (nf_iz (nf_iz (nf_iz (nf_iz (nf_iz (nf_iz (nf_iz (nf_iz (nf_iz (nf_iz (nf_iz (nf_iz (nf_iz (nf_iz (nf_iz (nf_iz I 21 0) 22 0) 23 0) 24 0) 25 0) 26 0) 27 0) 28 0) 29 0) 30 0) 31 0) 32 0) 33 0) 34 0) 35 0) 36 0) 37 0) (nf_jz (nf_jz (nf_jz (nf_jz (nf_jz (nf_jz (nf_jz (nf_jz (nf_jz (nf_jz (nf_jz (nf_jz (nf_jz (nf_jz (nf_jz (nf_jz (nf_jz J 21 0) 22 0) 23 0) 24 0) 25 0) 26 0) 27 0) 28 0) 29 0) 30 0) 31 0) 32 0) 33 0) 34 0) 35 0) 36 0) 37 0) (nf_pz (nf_pz (nf_pz (nf_pz (nf_pz (nf_pz (nf_pz (nf_pz (nf_pz (nf_pz (nf_pz (nf_pz (nf_pz (nf_pz (nf_pz (nf_pz (nf_pz P 21 0) 22 0) 23 0) 24 0) 25 0) 26 0) 27 0) 28 0) 29 0) 30 0) 31 0) 32 0) 33 0) 34 0) 35 0) 36 0) 37 0) s.heap H locs := by rw [hS34]; exact hM
  have f20 : S34 20 0 = some (.inl (4, [(0, 0), (2, 21), (2, 22), (2, 23), (2, 24), (2, 25), (2, 26), (0, 0), (2, 27), (2, 28), (2, 29), (0, 0), (2, 30), (0, 0), (2, 31), (2, 32), (2, 33), (2, 34), (2, 35), (2, 36), (2, 37), (3, 0)])) := by rw [hS34]; exact nf_su_s _ _ _ _
  have f22 : S34 22 0 = some (.inr (cs 0, 256, 0)) := by rw [hS34, nf_su_n _ _ (by decide)]; exact f22
  have f23 : S34 23 0 = some (.inr (cs 0, 256, 0)) := by rw [hS34, nf_su_n _ _ (by decide)]; exact f23
  have f24 : S34 24 0 = some (.inr (cs 0, 2048, 0)) := by rw [hS34, nf_su_n _ _ (by decide)]; exact f24
  have f25 : S34 25 0 = some (.inr (cs 1, 256, 1)) := by rw [hS34, nf_su_n _ _ (by decide)]; exact f25
  have fn : ∀ a, 38 ≤ a → a ≤ 38 → S34 a 0 = none := fun a h1 h2 => by rw [hS34, nf_su_n _ _ (by omega)]; exact fn a (by omega) h2
  refine lv_aload_n (pc := 146) hx hb dX4_init_146 rfl (lv_at hl 0 rfl) ?_
  refine lv_bipush (pc := 147) (v := 21) hx hb dX4_init_147 (by decide) ?_
  refine nf_newl (pc := 149) hC (List.mem_cons_of_mem _ warr_long) hM 1 rfl 38 0 (fn 38 (by decide) (by decide)) 21 rfl (by decide) (Nat.le_of_ble_eq_true rfl) (Nat.le_of_ble_eq_true rfl) dX4_init_149 (fun q H hM => ?_)
  have hre := (nh_ad_old (q := q) ad18 (show ¬ (20 = 38 ∧ 0 = 0) by omega)).symm
  try rw [hre] at hl
  try rw [hre]
  obtain ⟨ad19, had⟩ : ∃ z, z = nh_ad ad18 38 0 q := ⟨_, rfl⟩
  have hk := nf_kp.tr hk (nf_kp.new (ad := ad18) (k := 38) (i := 0) (q := q) (fn 38 (by decide) (by decide))) hgr
  rw [← had] at hk
  simp only [← had] at hM hl ⊢
  have hgr := fun a b x hx => Exists.elim (hgr a b x hx) (fun y hy => nf_su_gr (sh := S34) (k := 38) (i := 0) (z := .inr (cs 1, 21, 1)) a b y hy)
  obtain ⟨S35, hS35⟩ : ∃ z, z = nf_su S34 38 0 (.inr (cs 1, 21, 1)) := ⟨_, rfl⟩
  rw [← hS35] at hgr
  rw [← hS35] at hM
  have f20 : S35 20 0 = some (.inl (4, [(0, 0), (2, 21), (2, 22), (2, 23), (2, 24), (2, 25), (2, 26), (0, 0), (2, 27), (2, 28), (2, 29), (0, 0), (2, 30), (0, 0), (2, 31), (2, 32), (2, 33), (2, 34), (2, 35), (2, 36), (2, 37), (3, 0)])) := by rw [hS35, nf_su_n _ _ (by decide)]; exact f20
  have f22 : S35 22 0 = some (.inr (cs 0, 256, 0)) := by rw [hS35, nf_su_n _ _ (by decide)]; exact f22
  have f23 : S35 23 0 = some (.inr (cs 0, 256, 0)) := by rw [hS35, nf_su_n _ _ (by decide)]; exact f23
  have f24 : S35 24 0 = some (.inr (cs 0, 2048, 0)) := by rw [hS35, nf_su_n _ _ (by decide)]; exact f24
  have f25 : S35 25 0 = some (.inr (cs 1, 256, 1)) := by rw [hS35, nf_su_n _ _ (by decide)]; exact f25
  have fc : S35 38 0 = some (.inr (cs 1, 21, 1)) := by rw [hS35]; exact nf_su_s _ _ _ _
  have fn : ∀ a, 39 ≤ a → a ≤ 38 → S35 a 0 = none := fun a h1 h2 => by rw [hS35, nf_su_n _ _ (by omega)]; exact fn a (by omega) h2
  refine nf_putr (pc := 151) (ty := (.array .long)) hC hinX4 tyX4 tyX4_ok nmX4 hM (show S35 20 0 = some (.inl (4, [(0, 0), (2, 21), (2, 22), (2, 23), (2, 24), (2, 25), (2, 26), (0, 0), (2, 27), (2, 28), (2, 29), (0, 0), (2, 30), (0, 0), (2, 31), (2, 32), (2, 33), (2, 34), (2, 35), (2, 36), (2, 37), (3, 0)])) from f20) rfl 21 (by decide) (List.mem_cons_of_mem _ wF_X4_62) rfl (by decide +kernel) rfl rfl (by decide) fc dX4_init_151 (fun H locs hM => ?_)
  have hgr := fun a b x hx => Exists.elim (hgr a b x hx) (fun y hy => nf_su_gr (sh := S35) (k := 20) (i := 0) (z := .inl (4, [(0, 0), (2, 21), (2, 22), (2, 23), (2, 24), (2, 25), (2, 26), (0, 0), (2, 27), (2, 28), (2, 29), (0, 0), (2, 30), (0, 0), (2, 31), (2, 32), (2, 33), (2, 34), (2, 35), (2, 36), (2, 37), (2, 38)])) a b y hy)
  obtain ⟨S36, hS36⟩ : ∃ z, z = nf_su S35 20 0 (.inl (4, [(0, 0), (2, 21), (2, 22), (2, 23), (2, 24), (2, 25), (2, 26), (0, 0), (2, 27), (2, 28), (2, 29), (0, 0), (2, 30), (0, 0), (2, 31), (2, 32), (2, 33), (2, 34), (2, 35), (2, 36), (2, 37), (2, 38)])) := ⟨_, rfl⟩
  rw [← hS36] at hgr
  have hM : nf_M D vwCl Bs S36 ad19 (nf_iz (nf_iz (nf_iz (nf_iz (nf_iz (nf_iz (nf_iz (nf_iz (nf_iz (nf_iz (nf_iz (nf_iz (nf_iz (nf_iz (nf_iz (nf_iz (nf_iz (nf_iz I 21 0) 22 0) 23 0) 24 0) 25 0) 26 0) 27 0) 28 0) 29 0) 30 0) 31 0) 32 0) 33 0) 34 0) 35 0) 36 0) 37 0) 38 0) (nf_jz (nf_jz (nf_jz (nf_jz (nf_jz (nf_jz (nf_jz (nf_jz (nf_jz (nf_jz (nf_jz (nf_jz (nf_jz (nf_jz (nf_jz (nf_jz (nf_jz (nf_jz J 21 0) 22 0) 23 0) 24 0) 25 0) 26 0) 27 0) 28 0) 29 0) 30 0) 31 0) 32 0) 33 0) 34 0) 35 0) 36 0) 37 0) 38 0) (nf_pz (nf_pz (nf_pz (nf_pz (nf_pz (nf_pz (nf_pz (nf_pz (nf_pz (nf_pz (nf_pz (nf_pz (nf_pz (nf_pz (nf_pz (nf_pz (nf_pz (nf_pz P 21 0) 22 0) 23 0) 24 0) 25 0) 26 0) 27 0) 28 0) 29 0) 30 0) 31 0) 32 0) 33 0) 34 0) 35 0) 36 0) 37 0) 38 0) s.heap H locs := by rw [hS36]; exact hM
  have f20 : S36 20 0 = some (.inl (4, [(0, 0), (2, 21), (2, 22), (2, 23), (2, 24), (2, 25), (2, 26), (0, 0), (2, 27), (2, 28), (2, 29), (0, 0), (2, 30), (0, 0), (2, 31), (2, 32), (2, 33), (2, 34), (2, 35), (2, 36), (2, 37), (2, 38)])) := by rw [hS36]; exact nf_su_s _ _ _ _
  have f22 : S36 22 0 = some (.inr (cs 0, 256, 0)) := by rw [hS36, nf_su_n _ _ (by decide)]; exact f22
  have f23 : S36 23 0 = some (.inr (cs 0, 256, 0)) := by rw [hS36, nf_su_n _ _ (by decide)]; exact f23
  have f24 : S36 24 0 = some (.inr (cs 0, 2048, 0)) := by rw [hS36, nf_su_n _ _ (by decide)]; exact f24
  have f25 : S36 25 0 = some (.inr (cs 1, 256, 1)) := by rw [hS36, nf_su_n _ _ (by decide)]; exact f25
  have fn : ∀ a, 39 ≤ a → a ≤ 38 → S36 a 0 = none := fun a h1 h2 => by rw [hS36, nf_su_n _ _ (by omega)]; exact fn a (by omega) h2
  obtain ⟨Ia, hIa⟩ : ∃ z, z = nf_iz (nf_iz (nf_iz (nf_iz (nf_iz (nf_iz (nf_iz (nf_iz (nf_iz (nf_iz (nf_iz (nf_iz (nf_iz (nf_iz (nf_iz (nf_iz (nf_iz (nf_iz I 21 0) 22 0) 23 0) 24 0) 25 0) 26 0) 27 0) 28 0) 29 0) 30 0) 31 0) 32 0) 33 0) 34 0) 35 0) 36 0) 37 0) 38 0 := ⟨_, rfl⟩
  obtain ⟨Ja, hJa⟩ : ∃ z, z = nf_jz (nf_jz (nf_jz (nf_jz (nf_jz (nf_jz (nf_jz (nf_jz (nf_jz (nf_jz (nf_jz (nf_jz (nf_jz (nf_jz (nf_jz (nf_jz (nf_jz (nf_jz J 21 0) 22 0) 23 0) 24 0) 25 0) 26 0) 27 0) 28 0) 29 0) 30 0) 31 0) 32 0) 33 0) 34 0) 35 0) 36 0) 37 0) 38 0 := ⟨_, rfl⟩
  obtain ⟨Pa, hPa⟩ : ∃ z, z = nf_pz (nf_pz (nf_pz (nf_pz (nf_pz (nf_pz (nf_pz (nf_pz (nf_pz (nf_pz (nf_pz (nf_pz (nf_pz (nf_pz (nf_pz (nf_pz (nf_pz (nf_pz P 21 0) 22 0) 23 0) 24 0) 25 0) 26 0) 27 0) 28 0) 29 0) 30 0) 31 0) 32 0) 33 0) 34 0) 35 0) 36 0) 37 0) 38 0 := ⟨_, rfl⟩
  have hM : nf_M D vwCl Bs S36 ad19 (ys_in Ia 0) (nf_jf Ja 25 0 0 8589934592) Pa s.heap H locs := by rw [ys_in_0, nf_jf_0, hIa, hJa, hPa]; exact hM
  refine W.widen (show _ ≤ 18 from Nat.le_of_ble_eq_true rfl) (show _ ≤ 3866 from Nat.le_of_ble_eq_true rfl) ?_
  refine lv_iconst (pc := 154) (v := 0) hx hb dX4_init_154 (by decide) ?_
  refine lv_istore_n (pc := 155) (lv' := [(1, .int 0), (0, .ref (ad19 20 0))]) hx hb dX4_init_155 rfl hl (by decide) rfl (fun ls hl => ?_)
  have loop156 : ∀ (fz : Nat) (j : Nat) (ls : Array Slot) (H : Heap) (locs : List Loc), 256 - j < fz → (j ≤ 256) → nf_M D vwCl Bs S36 ad19 (ys_in Ia j) (nf_jf Ja 25 0 j 8589934592) Pa s.heap H locs → lv_has ls 2 [(1, .int (nI j)), (0, .ref (ad19 20 0))] → W p l e { frames := 1, cells := 18, slots := 3866, locals := 16 } s m ar below meth c H locs 18 3866 Q (F0 m 156 ls []) := by
    intro fz
    induction fz with
    | zero => exact fun _ _ _ _ hmz => absurd hmz (Nat.not_lt_zero _)
    | succ fz ihloop156 =>
      intro j ls H locs hmz hjn hM hl
      refine lv_iload_n (pc := 156) hx hb dX4_init_156 rfl (lv_at hl 0 rfl) ?_
      refine lv_sipush (pc := 157) (v := nI 256) hx hb dX4_init_157 (by decide) ?_
      refine lv_icmp_ge (pc := 160) (tgt := 192) hx hb dX4_init_160 (by decide) (fun hh => ?_) (fun hh => ?_)
      · have hj1 : 256 ≤ j := (nI_leI (by omega) (by omega)).mp (by exact hh)
        obtain rfl : j = 256 := by omega
        have hM : nf_M D vwCl Bs S36 ad19 (nf_if (ys_in Ia 256) 24 0 0 (-1)) (nf_jf Ja 25 0 256 8589934592) Pa s.heap H locs := by rw [nf_if_0]; exact hM
        refine lv_iconst (pc := 192) (v := 0) hx hb dX4_init_192 (by decide) ?_
        refine lv_istore_n (pc := 193) (lv' := [(1, .int 0), (0, .ref (ad19 20 0))]) hx hb dX4_init_193 rfl hl (by decide) rfl (fun ls hl => ?_)
        have loop194 : ∀ (fz : Nat) (q : Nat) (ls : Array Slot) (H : Heap) (locs : List Loc), 2048 - q < fz → (q ≤ 2048) → nf_M D vwCl Bs S36 ad19 (nf_if (ys_in Ia 256) 24 0 q (-1)) (nf_jf Ja 25 0 256 8589934592) Pa s.heap H locs → lv_has ls 2 [(1, .int (nI q)), (0, .ref (ad19 20 0))] → W p l e { frames := 1, cells := 18, slots := 3866, locals := 16 } s m ar below meth c H locs 18 3866 Q (F0 m 194 ls []) := by
          intro fz
          induction fz with
          | zero => exact fun _ _ _ _ hmz => absurd hmz (Nat.not_lt_zero _)
          | succ fz ihloop194 =>
            intro q ls H locs hmz hqn hM hl
            refine lv_iload_n (pc := 194) hx hb dX4_init_194 rfl (lv_at hl 0 rfl) ?_
            refine lv_sipush (pc := 195) (v := nI 2048) hx hb dX4_init_195 (by decide) ?_
            refine lv_icmp_ge (pc := 198) (tgt := 214) hx hb dX4_init_198 (by decide) (fun hh => ?_) (fun hh => ?_)
            · have hj2 : 2048 ≤ q := (nI_leI (by omega) (by omega)).mp (by exact hh)
              obtain rfl : q = 2048 := by omega
              rw [hQ]
              exact nf_retvX (cells := 18) (slots := 3866) hC hr hlk hM hk (by rw [hS36, hS35, hS34, hS33, hS32, hS31, hS30, hS29, hS28, hS27, hS26, hS25, hS24, hS23, hS22, hS21, hS20, hS19, hS18, hS17, hS16, hS15, hS14, hS13, hS12, hS11, hS10, hS9, hS8, hS7, hS6, hS5, hS4, hS3, hS2, hS1]; rfl) (by rw [hIa]; rfl) (by rw [hJa]; rfl) (by rw [hPa]; rfl) dX4_init_214
            · have hj2 : q < 2048 := Nat.lt_of_not_le (fun z => hh (by exact (nI_leI (by omega) (by omega)).mpr z))
              refine lv_aload_n (pc := 201) hx hb dX4_init_201 rfl (lv_at hl 1 rfl) ?_
              refine nf_getr (pc := 202) hC hinX4 hM f20 rfl 4 (by decide) (List.mem_cons_of_mem _ wF_X4_19) rfl dX4_init_202 ?_
              refine lv_iload_n (pc := 205) hx hb dX4_init_205 rfl (lv_at hl 0 rfl) ?_
              refine lv_iconst (pc := 206) (v := -1) hx hb dX4_init_206 (by decide) ?_
              refine nf_iast (pc := 207) hC hM 0 f24 rfl q rfl (by omega) (by omega) dX4_init_207 (fun H locs hM => ?_)
              rw [nf_if_s] at hM
              refine lv_iinc (pc := 208) (k := 0) (v := nI (q + 1)) (lv' := [(1, .int (nI (q + 1))), (0, .ref (ad19 20 0))]) hx hb dX4_init_208 hl rfl (nI_1 _) (by decide) rfl (fun ls hl => ?_)
              refine lv_goto (pc := 211) (tgt := 194) hx hb dX4_init_211 (by decide) ?_
              exact ihloop194 (q + 1) ls _ _ (by omega) (by omega) hM hl
        exact loop194 _ 0 ls _ _ (Nat.lt_succ_self _) (Nat.zero_le _) hM hl
      · have hj1 : j < 256 := Nat.lt_of_not_le (fun z => hh (by exact (nI_leI (by omega) (by omega)).mpr z))
        refine lv_aload_n (pc := 163) hx hb dX4_init_163 rfl (lv_at hl 1 rfl) ?_
        refine nf_getr (pc := 164) hC hinX4 hM f20 rfl 2 (by decide) (List.mem_cons_of_mem _ wF_X4_13) rfl dX4_init_164 ?_
        refine lv_iload_n (pc := 167) hx hb dX4_init_167 rfl (lv_at hl 0 rfl) ?_
        refine lv_iconst (pc := 168) (v := -1) hx hb dX4_init_168 (by decide) ?_
        refine nf_iast (pc := 169) hC hM 0 f22 rfl j rfl (by omega) (by omega) dX4_init_169 (fun H locs hM => ?_)
        refine lv_aload_n (pc := 170) hx hb dX4_init_170 rfl (lv_at hl 1 rfl) ?_
        refine nf_getr (pc := 171) hC hinX4 hM f20 rfl 3 (by decide) (List.mem_cons_of_mem _ wF_X4_16) rfl dX4_init_171 ?_
        refine lv_iload_n (pc := 174) hx hb dX4_init_174 rfl (lv_at hl 0 rfl) ?_
        refine lv_iconst (pc := 175) (v := -1) hx hb dX4_init_175 (by decide) ?_
        refine nf_iast (pc := 176) hC hM 0 f23 rfl j rfl (by omega) (by omega) dX4_init_176 (fun H locs hM => ?_)
        refine lv_aload_n (pc := 177) hx hb dX4_init_177 rfl (lv_at hl 1 rfl) ?_
        refine nf_getr (pc := 178) hC hinX4 hM f20 rfl 5 (by decide) (List.mem_cons_of_mem _ wF_X4_22) rfl dX4_init_178 ?_
        refine lv_iload_n (pc := 181) hx hb dX4_init_181 rfl (lv_at hl 0 rfl) ?_
        refine lv_ldc2 (pc := 182) (v := 8589934592) hx hb hC.1.2.2.2.1 (hC.1.2.2.2.2 _ (List.mem_cons_of_mem _ wC_X4_65)) dX4_init_182 ?_
        refine nf_last (pc := 185) hC hM 1 f25 rfl j rfl (by omega) (by omega) dX4_init_185 (fun H locs hM => ?_)
        rw [ys_in_s, nf_jf_s] at hM
        refine lv_iinc (pc := 186) (k := 0) (v := nI (j + 1)) (lv' := [(1, .int (nI (j + 1))), (0, .ref (ad19 20 0))]) hx hb dX4_init_186 hl rfl (nI_1 _) (by decide) rfl (fun ls hl => ?_)
        refine lv_goto (pc := 189) (tgt := 156) hx hb dX4_init_189 (by decide) ?_
        exact ihloop156 (j + 1) ls _ _ (by omega) (by omega) hM hl
  exact loop156 _ 0 ls _ _ (Nat.lt_succ_self _) (Nat.zero_le _) hM hl
end ZM
