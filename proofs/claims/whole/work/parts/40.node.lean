/-! Message(), Node(id). -/
section ZN
variable {l : Launch} {D : va_G} {cs : Nat → ClassId} {Bs nn : Nat} {ad : nf_A} {sh : nf_H} {I : nf_I} {J : nf_J} {P : nf_P}
def xs_ndS (sh : nf_H) (cs : Nat → ClassId) (nn : Nat) : nf_H := nf_su (nf_su (nf_su (nf_su sh 6 nn (.inr (cs 0, 8, 0))) 5 nn (.inl (1, [(0, 0), (0, 0), (0, 0), (2, 6), (3, 0), (1, 0), (0, 0)]))) 7 nn (.inr (cs 1, 10, 1))) 5 nn (.inl (1, [(0, 0), (0, 0), (0, 0), (2, 6), (2, 7), (1, 0), (0, 0)]))
def xs_ndI (I : nf_I) (nn : Nat) (id : Int32) : nf_I := nf_if (nf_iu (nf_iu (nf_iz (nf_iz (nf_iu (nf_iu I 5 nn 1 (-1)) 5 nn 2 (-1)) 6 nn) 7 nn) 5 nn 6 0) 5 nn 0 id) 6 nn 8 (-1)
def xs_ndJ (J : nf_J) (nn : Nat) : nf_J := nf_jf (nf_ju (nf_jz (nf_jz J 6 nn) 7 nn) 5 nn 5 8589934592) 7 nn 10 4294967296
def xs_ndP (P : nf_P) (nn : Nat) : nf_P := nf_pz (nf_pz P 6 nn) 7 nn
set_option maxHeartbeats 4000000 in
set_option maxRecDepth 100000 in
theorem ct_X0_init {k i : Nat}  : Met l yX0_init wsX0_init { frames := 1, cells := 0, slots := 0, locals := 16 } (va_Pc [.ref (ad k i)] (fun U => nf_U D vwCl (xT cs) Bs sh ad (I, J, P) U)) (va_Qv (nf_pX sh ad sh I J P) (nf_X D vwCl (xT cs) Bs) (fun q => Bs ≤ q)) 0 0 (fun q => Bs ≤ q) := by
  refine nf_enter (cc := cX0_init) (maxL := 1) (by decide) rfl (Nat.le_of_ble_eq_true rfl) ?_
  intro p e s m below meth c ls hF hr hlk hnm hU hl
  obtain ⟨hK, hM⟩ := hU
  obtain ⟨ar, har⟩ : ∃ z, z = ([.ref (ad k i)] : List Value).toArray := ⟨_, rfl⟩
  rw [← har] at hF ⊢
  have hC : nf_C p m c cX0_init 1 s ar wsX0_init yX0_init.cls D vwCl (xT cs) := ⟨hF, hK⟩
  have hx := hC.1.1
  have hb := hC.1.2.1
  have hl : lv_has ls 1 [(0, .ref (ad k i))] := hl
  have hk : nf_kp sh ad ad := nf_kp.rf
  have hgr : ∀ (a b : Nat) (x : nf_O), sh a b = some x → ∃ y, sh a b = some y := fun a b x hx => ⟨x, hx⟩
  refine lv_aload_n (pc := 0) hx hb dX0_init_0 rfl (lv_at hl 0 rfl) ?_
  refine W.objInit (g := F0 m 1 ls [.ref (ad k i)]) hx hb hC.1.2.2.2.1 (hC.1.2.2.2.2 _ (List.mem_cons_of_mem _ wM_X0_1)) (hC.1.2.2.2.2 _ (List.mem_cons_of_mem _ wi_OB_init)) (hC.1.2.2.2.2 _ (List.mem_cons_of_mem _ wcode_OB_init)) rfl (by rw [hC.1.2.2.1]; exact hl.1) rfl dX0_init_1 (Nat.le_of_ble_eq_true rfl) (Nat.le_of_ble_eq_true rfl) ?_
  refine W.eq (g2 := F0 m 4 ls []) rfl ?_
  exact nf_retvX hC hr hlk hM hk rfl rfl rfl rfl dX0_init_4
set_option maxHeartbeats 4000000 in
set_option maxRecDepth 100000 in
theorem ct_X1_init {id : Int32} (h5 : sh 5 nn = some (.inl (1, [(0, 0), (0, 0), (0, 0), (3, 0), (3, 0), (1, 0), (0, 0)]))) (h6 : sh 6 nn = none) (h7 : sh 7 nn = none) : Met l yX1_init wsX1_init { frames := 3, cells := 2, slots := 18, locals := 85 } (va_Pc [.ref (ad 5 nn), .int id] (fun U => nf_U D vwCl (xT cs) Bs sh ad (I, J, P) U)) (va_Qv (nf_pX sh ad (xs_ndS sh cs nn) (xs_ndI I nn id) (xs_ndJ J nn) (xs_ndP P nn)) (nf_X D vwCl (xT cs) Bs) (fun q => Bs ≤ q)) 2 18 (fun q => Bs ≤ q) := by
  refine nf_enter (cc := cX1_init) (maxL := 2) (by decide) rfl (Nat.le_of_ble_eq_true rfl) ?_
  intro p e s m below meth c ls hF hr hlk hnm hU hl
  obtain ⟨hK, hM⟩ := hU
  obtain ⟨ar, har⟩ : ∃ z, z = ([.ref (ad 5 nn), .int id] : List Value).toArray := ⟨_, rfl⟩
  rw [← har] at hF ⊢
  have hC : nf_C p m c cX1_init 2 s ar wsX1_init yX1_init.cls D vwCl (xT cs) := ⟨hF, hK⟩
  have hx := hC.1.1
  have hb := hC.1.2.1
  have hl : lv_has ls 2 [(0, .ref (ad 5 nn)), (1, .int id)] := hl
  have hk : nf_kp sh ad ad := nf_kp.rf
  have hgr : ∀ (a b : Nat) (x : nf_O), sh a b = some x → ∃ y, sh a b = some y := fun a b x hx => ⟨x, hx⟩
  have hinX1 : ∀ w ∈ u_ws RX1 TX1 7, w ∈ wsX1_init := fun w h => List.mem_cons_of_mem _ (inX1 w h)
  refine lv_aload_n (pc := 0) hx hb dX1_init_0 rfl (lv_at hl 0 rfl) ?_
  refine W.objInit (g := F0 m 1 ls [.ref (ad 5 nn)]) hx hb hC.1.2.2.2.1 (hC.1.2.2.2.2 _ (List.mem_cons_of_mem _ wM_X1_3)) (hC.1.2.2.2.2 _ (List.mem_cons_of_mem _ wi_OB_init)) (hC.1.2.2.2.2 _ (List.mem_cons_of_mem _ wcode_OB_init)) rfl (by rw [hC.1.2.2.1]; exact hl.1) rfl dX1_init_1 (Nat.le_of_ble_eq_true rfl) (Nat.le_of_ble_eq_true rfl) ?_
  refine W.eq (g2 := F0 m 4 ls []) rfl ?_
  refine lv_aload_n (pc := 4) hx hb dX1_init_4 rfl (lv_at hl 0 rfl) ?_
  refine lv_iconst (pc := 5) (v := -1) hx hb dX1_init_5 (by decide) ?_
  refine nf_puti (pc := 6) hC hinX1 tyX1 tyX1_ok nmX1 hM (show sh 5 nn = some (.inl (1, [(0, 0), (0, 0), (0, 0), (3, 0), (3, 0), (1, 0), (0, 0)])) by simp [nf_su, h5]) rfl 1 (by decide) (List.mem_cons_of_mem _ wF_X1_9) rfl (by decide +kernel) rfl dX1_init_6 (fun H locs hM => ?_)
  refine lv_aload_n (pc := 9) hx hb dX1_init_9 rfl (lv_at hl 0 rfl) ?_
  refine lv_iconst (pc := 10) (v := -1) hx hb dX1_init_10 (by decide) ?_
  refine nf_puti (pc := 11) hC hinX1 tyX1 tyX1_ok nmX1 hM (show sh 5 nn = some (.inl (1, [(0, 0), (0, 0), (0, 0), (3, 0), (3, 0), (1, 0), (0, 0)])) by simp [nf_su, h5]) rfl 2 (by decide) (List.mem_cons_of_mem _ wF_X1_15) rfl (by decide +kernel) rfl dX1_init_11 (fun H locs hM => ?_)
  refine lv_aload_n (pc := 14) hx hb dX1_init_14 rfl (lv_at hl 0 rfl) ?_
  refine lv_bipush (pc := 15) (v := 8) hx hb dX1_init_15 (by decide) ?_
  refine nf_newi (pc := 17) hC (List.mem_cons_of_mem _ warr_int) hM 0 rfl 6 nn (show sh 6 nn = none by simp [nf_su, h6]) 8 rfl (by decide) (Nat.le_of_ble_eq_true rfl) (Nat.le_of_ble_eq_true rfl) dX1_init_17 (fun q H hM => ?_)
  have hre := (nh_ad_old (q := q) ad (show ¬ (5 = 6 ∧ nn = nn) by omega)).symm
  try rw [hre] at hl
  try rw [hre]
  obtain ⟨ad2, had⟩ : ∃ z, z = nh_ad ad 6 nn q := ⟨_, rfl⟩
  have hk := nf_kp.tr hk (nf_kp.new (ad := ad) (k := 6) (i := nn) (q := q) (show sh 6 nn = none by simp [nf_su, h6])) hgr
  rw [← had] at hk
  simp only [← had] at hM hl ⊢
  have hgr := fun a b x hx => Exists.elim (hgr a b x hx) (fun y hy => nf_su_gr (sh := sh) (k := 6) (i := nn) (z := .inr (cs 0, 8, 0)) a b y hy)
  refine nf_putrF (pc := 19) (ty := (.array .int)) hC hinX1 tyX1 tyX1_ok nmX1 hM (show (nf_su sh 6 nn (.inr (cs 0, 8, 0))) 5 nn = some (.inl (1, [(0, 0), (0, 0), (0, 0), (3, 0), (3, 0), (1, 0), (0, 0)])) from (by simp [nf_su, h5])) rfl 3 (by decide) (List.mem_cons_of_mem _ wF_X1_18) rfl hnm rfl (by decide +kernel) rfl rfl (by decide) (show (nf_su sh 6 nn (.inr (cs 0, 8, 0))) 6 nn = some (.inr (cs 0, 8, 0)) by simp [nf_su]) dX1_init_19 (fun H locs hM => ?_)
  have hgr := fun a b x hx => Exists.elim (hgr a b x hx) (fun y hy => nf_su_gr (sh := nf_su sh 6 nn (.inr (cs 0, 8, 0))) (k := 5) (i := nn) (z := .inl (1, [(0, 0), (0, 0), (0, 0), (2, 6), (3, 0), (1, 0), (0, 0)])) a b y hy)
  refine lv_aload_n (pc := 22) hx hb dX1_init_22 rfl (lv_at hl 0 rfl) ?_
  refine lv_bipush (pc := 23) (v := 10) hx hb dX1_init_23 (by decide) ?_
  refine nf_newl (pc := 25) hC (List.mem_cons_of_mem _ warr_long) hM 1 rfl 7 nn (show (nf_su (nf_su sh 6 nn (.inr (cs 0, 8, 0))) 5 nn (.inl (1, [(0, 0), (0, 0), (0, 0), (2, 6), (3, 0), (1, 0), (0, 0)]))) 7 nn = none by simp [nf_su, h7]) 10 rfl (by decide) (Nat.le_of_ble_eq_true rfl) (Nat.le_of_ble_eq_true rfl) dX1_init_25 (fun q H hM => ?_)
  have hre := (nh_ad_old (q := q) ad2 (show ¬ (5 = 7 ∧ nn = nn) by omega)).symm
  try rw [hre] at hl
  try rw [hre]
  obtain ⟨ad3, had⟩ : ∃ z, z = nh_ad ad2 7 nn q := ⟨_, rfl⟩
  have hk := nf_kp.tr hk (nf_kp.new (ad := ad2) (k := 7) (i := nn) (q := q) (show (nf_su (nf_su sh 6 nn (.inr (cs 0, 8, 0))) 5 nn (.inl (1, [(0, 0), (0, 0), (0, 0), (2, 6), (3, 0), (1, 0), (0, 0)]))) 7 nn = none by simp [nf_su, h7])) hgr
  rw [← had] at hk
  simp only [← had] at hM hl ⊢
  have hgr := fun a b x hx => Exists.elim (hgr a b x hx) (fun y hy => nf_su_gr (sh := nf_su (nf_su sh 6 nn (.inr (cs 0, 8, 0))) 5 nn (.inl (1, [(0, 0), (0, 0), (0, 0), (2, 6), (3, 0), (1, 0), (0, 0)]))) (k := 7) (i := nn) (z := .inr (cs 1, 10, 1)) a b y hy)
  refine nf_putrF (pc := 27) (ty := (.array .long)) hC hinX1 tyX1 tyX1_ok nmX1 hM (show (nf_su (nf_su (nf_su sh 6 nn (.inr (cs 0, 8, 0))) 5 nn (.inl (1, [(0, 0), (0, 0), (0, 0), (2, 6), (3, 0), (1, 0), (0, 0)]))) 7 nn (.inr (cs 1, 10, 1))) 5 nn = some (.inl (1, [(0, 0), (0, 0), (0, 0), (2, 6), (3, 0), (1, 0), (0, 0)])) from (by simp [nf_su, h5])) rfl 4 (by decide) (List.mem_cons_of_mem _ wF_X1_22) rfl hnm rfl (by decide +kernel) rfl rfl (by decide) (show (nf_su (nf_su (nf_su sh 6 nn (.inr (cs 0, 8, 0))) 5 nn (.inl (1, [(0, 0), (0, 0), (0, 0), (2, 6), (3, 0), (1, 0), (0, 0)]))) 7 nn (.inr (cs 1, 10, 1))) 7 nn = some (.inr (cs 1, 10, 1)) by simp [nf_su]) dX1_init_27 (fun H locs hM => ?_)
  have hgr := fun a b x hx => Exists.elim (hgr a b x hx) (fun y hy => nf_su_gr (sh := nf_su (nf_su (nf_su sh 6 nn (.inr (cs 0, 8, 0))) 5 nn (.inl (1, [(0, 0), (0, 0), (0, 0), (2, 6), (3, 0), (1, 0), (0, 0)]))) 7 nn (.inr (cs 1, 10, 1))) (k := 5) (i := nn) (z := .inl (1, [(0, 0), (0, 0), (0, 0), (2, 6), (2, 7), (1, 0), (0, 0)])) a b y hy)
  refine lv_aload_n (pc := 30) hx hb dX1_init_30 rfl (lv_at hl 0 rfl) ?_
  refine lv_ldc2 (pc := 31) (v := 8589934592) hx hb hC.1.2.2.2.1 (hC.1.2.2.2.2 _ (List.mem_cons_of_mem _ wC_X1_26)) dX1_init_31 ?_
  refine nf_putl (pc := 34) hC hinX1 tyX1 tyX1_ok nmX1 hM (show (nf_su (nf_su (nf_su (nf_su sh 6 nn (.inr (cs 0, 8, 0))) 5 nn (.inl (1, [(0, 0), (0, 0), (0, 0), (2, 6), (3, 0), (1, 0), (0, 0)]))) 7 nn (.inr (cs 1, 10, 1))) 5 nn (.inl (1, [(0, 0), (0, 0), (0, 0), (2, 6), (2, 7), (1, 0), (0, 0)]))) 5 nn = some (.inl (1, [(0, 0), (0, 0), (0, 0), (2, 6), (2, 7), (1, 0), (0, 0)])) by simp [nf_su, h5]) rfl 5 (by decide) (List.mem_cons_of_mem _ wF_X1_28) rfl (by decide +kernel) rfl dX1_init_34 (fun H locs hM => ?_)
  refine lv_aload_n (pc := 37) hx hb dX1_init_37 rfl (lv_at hl 0 rfl) ?_
  refine lv_iconst (pc := 38) (v := 0) hx hb dX1_init_38 (by decide) ?_
  refine nf_puti (pc := 39) hC hinX1 tyX1 tyX1_ok nmX1 hM (show (nf_su (nf_su (nf_su (nf_su sh 6 nn (.inr (cs 0, 8, 0))) 5 nn (.inl (1, [(0, 0), (0, 0), (0, 0), (2, 6), (3, 0), (1, 0), (0, 0)]))) 7 nn (.inr (cs 1, 10, 1))) 5 nn (.inl (1, [(0, 0), (0, 0), (0, 0), (2, 6), (2, 7), (1, 0), (0, 0)]))) 5 nn = some (.inl (1, [(0, 0), (0, 0), (0, 0), (2, 6), (2, 7), (1, 0), (0, 0)])) by simp [nf_su, h5]) rfl 6 (by decide) (List.mem_cons_of_mem _ wF_X1_32) rfl (by decide +kernel) rfl dX1_init_39 (fun H locs hM => ?_)
  refine lv_aload_n (pc := 42) hx hb dX1_init_42 rfl (lv_at hl 0 rfl) ?_
  refine lv_iload_n (pc := 43) hx hb dX1_init_43 rfl (lv_at hl 1 rfl) ?_
  refine nf_putiF (pc := 44) hC hinX1 tyX1 tyX1_ok nmX1 hM (show (nf_su (nf_su (nf_su (nf_su sh 6 nn (.inr (cs 0, 8, 0))) 5 nn (.inl (1, [(0, 0), (0, 0), (0, 0), (2, 6), (3, 0), (1, 0), (0, 0)]))) 7 nn (.inr (cs 1, 10, 1))) 5 nn (.inl (1, [(0, 0), (0, 0), (0, 0), (2, 6), (2, 7), (1, 0), (0, 0)]))) 5 nn = some (.inl (1, [(0, 0), (0, 0), (0, 0), (2, 6), (2, 7), (1, 0), (0, 0)])) by simp [nf_su, h5]) rfl 0 (by decide) (List.mem_cons_of_mem _ wF_X1_35) rfl hnm rfl (by decide +kernel) rfl dX1_init_44 (fun H locs hM => ?_)
  refine lv_aload_n (pc := 47) hx hb dX1_init_47 rfl (lv_at hl 0 rfl) ?_
  refine nf_getr (pc := 48) hC hinX1 hM (show (nf_su (nf_su (nf_su (nf_su sh 6 nn (.inr (cs 0, 8, 0))) 5 nn (.inl (1, [(0, 0), (0, 0), (0, 0), (2, 6), (3, 0), (1, 0), (0, 0)]))) 7 nn (.inr (cs 1, 10, 1))) 5 nn (.inl (1, [(0, 0), (0, 0), (0, 0), (2, 6), (2, 7), (1, 0), (0, 0)]))) 5 nn = some (.inl (1, [(0, 0), (0, 0), (0, 0), (2, 6), (2, 7), (1, 0), (0, 0)])) by simp [nf_su, h5]) rfl 3 (by decide) (List.mem_cons_of_mem _ wF_X1_18) rfl dX1_init_48 ?_
  refine lv_iconst (pc := 51) (v := -1) hx hb dX1_init_51 (by decide) ?_
  refine nf_callv (pc := 52) (va_runS (As := [.ref (ad3 6 nn), .int (-1)]) (rest := []) hC.1 (ct_J7_filli (n := 8) (show (nf_su (nf_su (nf_su (nf_su sh 6 nn (.inr (cs 0, 8, 0))) 5 nn (.inl (1, [(0, 0), (0, 0), (0, 0), (2, 6), (3, 0), (1, 0), (0, 0)]))) 7 nn (.inr (cs 1, 10, 1))) 5 nn (.inl (1, [(0, 0), (0, 0), (0, 0), (2, 6), (2, 7), (1, 0), (0, 0)]))) 6 nn = some (.inr (cs 0, 8, 0)) by simp [nf_su]) (by decide)) (va_cwS 2 hC.1.2.2.2.2 (gd_J wM_X1_38 wst_J7_filli wini_J7 wcode_J7_filli) rfl rfl rfl (by decide +kernel) ⟨by decide, by decide⟩) (nf_preS hC hM) rfl rfl hl.1 rfl (lv_room (Nat.le_of_ble_eq_true rfl)) dX1_init_52 ⟨Nat.le_of_ble_eq_true rfl, Nat.le_of_ble_eq_true rfl⟩) hM (fun H locs hM => ?_)
  refine lv_aload_n (pc := 55) hx hb dX1_init_55 rfl (lv_at hl 0 rfl) ?_
  refine nf_getr (pc := 56) hC hinX1 hM (show (nf_su (nf_su (nf_su (nf_su sh 6 nn (.inr (cs 0, 8, 0))) 5 nn (.inl (1, [(0, 0), (0, 0), (0, 0), (2, 6), (3, 0), (1, 0), (0, 0)]))) 7 nn (.inr (cs 1, 10, 1))) 5 nn (.inl (1, [(0, 0), (0, 0), (0, 0), (2, 6), (2, 7), (1, 0), (0, 0)]))) 5 nn = some (.inl (1, [(0, 0), (0, 0), (0, 0), (2, 6), (2, 7), (1, 0), (0, 0)])) by simp [nf_su, h5]) rfl 4 (by decide) (List.mem_cons_of_mem _ wF_X1_22) rfl dX1_init_56 ?_
  refine lv_ldc2 (pc := 59) (v := 4294967296) hx hb hC.1.2.2.2.1 (hC.1.2.2.2.2 _ (List.mem_cons_of_mem _ wC_X1_44)) dX1_init_59 ?_
  refine nf_callv (pc := 62) (va_runS (As := [.ref (ad3 7 nn), .long 4294967296]) (rest := []) hC.1 (ct_J7_filll (n := 10) (show (nf_su (nf_su (nf_su (nf_su sh 6 nn (.inr (cs 0, 8, 0))) 5 nn (.inl (1, [(0, 0), (0, 0), (0, 0), (2, 6), (3, 0), (1, 0), (0, 0)]))) 7 nn (.inr (cs 1, 10, 1))) 5 nn (.inl (1, [(0, 0), (0, 0), (0, 0), (2, 6), (2, 7), (1, 0), (0, 0)]))) 7 nn = some (.inr (cs 1, 10, 1)) by simp [nf_su]) (by decide)) (va_cwS 2 hC.1.2.2.2.2 (gd_J wM_X1_46 wst_J7_filll wini_J7 wcode_J7_filll) rfl rfl rfl (by decide +kernel) ⟨by decide, by decide⟩) (nf_preS hC hM) rfl rfl hl.1 rfl (lv_room (Nat.le_of_ble_eq_true rfl)) dX1_init_62 ⟨Nat.le_of_ble_eq_true rfl, Nat.le_of_ble_eq_true rfl⟩) hM (fun H locs hM => ?_)
  exact nf_retvX hC hr hlk hM hk rfl rfl rfl rfl dX1_init_65
end ZN
