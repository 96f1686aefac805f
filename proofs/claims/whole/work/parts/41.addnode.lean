/-! addNode. -/
section ZA
variable {l : Launch} {D : va_G} {cs : Nat → ClassId} {Bs nn sz kc : Nat} {ad : nf_A} {I : nf_I} {J : nf_J} {mp : Nat → Nat}
theorem xs_ndS_eq {cs : Nat → ClassId} {nn : Nat} : xs_ndS (nf_su (xS cs nn) 5 nn (.inl (1, [(0, 0), (0, 0), (0, 0), (3, 0), (3, 0), (1, 0), (0, 0)]))) cs nn = xS cs (nn + 1) := by
  funext a b
  unfold xs_ndS nf_su
  by_cases h5 : a = 5 ∧ b = nn
  · obtain ⟨rfl, rfl⟩ := h5
    rw [if_pos ⟨rfl, rfl⟩, xS_5 (by omega)]
  · rw [if_neg h5]
    by_cases h7 : a = 7 ∧ b = nn
    · obtain ⟨rfl, rfl⟩ := h7
      rw [if_pos ⟨rfl, rfl⟩, xS_7 (by omega)]
    · rw [if_neg h7, if_neg h5]
      by_cases h6 : a = 6 ∧ b = nn
      · obtain ⟨rfl, rfl⟩ := h6
        rw [if_pos ⟨rfl, rfl⟩, xS_6 (by omega)]
      · rw [if_neg h6, if_neg h5]
        by_cases ha : a = 5 ∨ a = 6 ∨ a = 7
        · have hb : b < nn ↔ b < nn + 1 := by omega
          rcases ha with rfl | rfl | rfl <;> simp only [xS, hb]
        · unfold xS
          split <;> first | rfl | (exfalso; omega)
theorem xs_ndP_eq {nn : Nat} {mp : Nat → Nat} : xs_ndP (nf_pz (xP nn mp) 5 nn) nn = xP nn mp := by
  funext a b c
  simp only [xs_ndP, nf_pz, xP]
  by_cases h : a = 5 ∨ a = 6 ∨ a = 7
  · rcases h with rfl | rfl | rfl <;> simp
  · have h5 : ¬ (a = 5 ∧ b = nn) := fun z => h (Or.inl z.1)
    have h6 : ¬ (a = 6 ∧ b = nn) := fun z => h (Or.inr (Or.inl z.1))
    have h7 : ¬ (a = 7 ∧ b = nn) := fun z => h (Or.inr (Or.inr z.1))
    rw [if_neg h7, if_neg h6, if_neg h5]
def xs_anI (I : nf_I) (nn : Nat) (id : Int32) : nf_I := nf_iu (xs_ndI (nf_iz I 5 nn) nn id) 0 0 1 (xs_ndI (nf_iz I 5 nn) nn id 0 0 1 + 1)
def xs_anJ (J : nf_J) (nn : Nat) : nf_J := xs_ndJ (nf_jz J 5 nn) nn
set_option maxHeartbeats 4000000 in
set_option maxRecDepth 100000 in
theorem ct_X3_addNode {id : Int32} (hn : I 0 0 1 = nI nn) (hnn : nn < 12) : Met l yX3_addNode wsX3_addNode { frames := 4, cells := 3, slots := 25, locals := 106 } (va_Pc [.ref (ad 0 0), .int id] (fun U => nf_U D vwCl (xT cs) Bs (xS cs nn) ad (I, J, xP nn mp) U)) (va_Qq (fun (r : Option Nat) (w : nf_W) => r = some (w.2.1 5 nn) ∧ nf_pX (xS cs nn) ad (xS cs (nn + 1)) (xs_anI I nn id) (xs_anJ J nn) (xP (nn + 1) mp) w) (nf_X D vwCl (xT cs) Bs) (fun q => Bs ≤ q)) 3 25 (fun q => Bs ≤ q) := by
  refine nf_enter (cc := cX3_addNode) (maxL := 3) (by decide) rfl (Nat.le_of_ble_eq_true rfl) ?_
  intro p e s m below meth c ls hF hr hlk hnm hU hl
  obtain ⟨hK, hM⟩ := hU
  obtain ⟨ar, har⟩ : ∃ z, z = ([.ref (ad 0 0), .int id] : List Value).toArray := ⟨_, rfl⟩
  rw [← har] at hF ⊢
  have hC : nf_C p m c cX3_addNode 3 s ar wsX3_addNode yX3_addNode.cls D vwCl (xT cs) := ⟨hF, hK⟩
  have hx := hC.1.1
  have hb := hC.1.2.1
  have hl : lv_has ls 3 [(0, .ref (ad 0 0)), (1, .int id)] := hl
  have hk : nf_kp (xS cs nn) ad ad := nf_kp.rf
  have hgr : ∀ (a b : Nat) (x : nf_O), (xS cs nn) a b = some x → ∃ y, (xS cs nn) a b = some y := fun a b x hx => ⟨x, hx⟩
  have hinX1 : ∀ w ∈ u_ws RX1 TX1 7, w ∈ wsX3_addNode := fun w h => List.mem_cons_of_mem _ (inX1 w h)
  have hinX3 : ∀ w ∈ u_ws RX3 TX3 5, w ∈ wsX3_addNode := fun w h => List.mem_cons_of_mem _ (inX3 w h)
  refine nf_newo (pc := 0) (ci := 1) hC hinX1 tyX1 tyX1_ok (List.mem_cons_of_mem _ wK_X3_9) (List.mem_cons_of_mem _ wnew_X1) (List.mem_cons_of_mem _ wini_X1) hM rfl 5 nn (show xS cs nn 5 nn = none by simp [xS]) [(0, 0), (0, 0), (0, 0), (3, 0), (3, 0), (1, 0), (0, 0)] (by decide) (fun j hj => by rcases (show j = 0 ∨ j = 1 ∨ j = 2 ∨ j = 3 ∨ j = 4 ∨ j = 5 ∨ j = 6 by omega) with rfl | rfl | rfl | rfl | rfl | rfl | rfl <;> rfl) (Nat.le_of_ble_eq_true rfl) (Nat.le_of_ble_eq_true rfl) dX3_addNode_0 (fun q H hM => ?_)
  have hre := (nh_ad_old (q := q) ad (show ¬ (0 = 5 ∧ 0 = nn) by omega)).symm
  try rw [hre] at hl
  try rw [hre]
  obtain ⟨ad2, had⟩ : ∃ z, z = nh_ad ad 5 nn q := ⟨_, rfl⟩
  have hk := nf_kp.tr hk (nf_kp.new (ad := ad) (k := 5) (i := nn) (q := q) (show xS cs nn 5 nn = none by simp [xS])) hgr
  rw [← had] at hk
  simp only [← had] at hM hl ⊢
  have hgr := fun a b x hx => Exists.elim (hgr a b x hx) (fun y hy => nf_su_gr (sh := xS cs nn) (k := 5) (i := nn) (z := .inl (1, [(0, 0), (0, 0), (0, 0), (3, 0), (3, 0), (1, 0), (0, 0)])) a b y hy)
  refine lv_dup (pc := 3) hx hb dX3_addNode_3 rfl ?_
  refine lv_iload_n (pc := 4) hx hb dX3_addNode_4 rfl (lv_at hl 1 rfl) ?_
  refine nf_callvX (pc := 5) (va_runI (As := [.int id]) (rest := [.ref (ad2 5 nn)]) hC.1 (ct_X1_init (sh := nf_su (xS cs nn) 5 nn (.inl (1, [(0, 0), (0, 0), (0, 0), (3, 0), (3, 0), (1, 0), (0, 0)]))) (nn := nn) (id := id) (nf_su_s _ _ _ _) (by simp [nf_su, xS]) (by simp [nf_su, xS])) (cwI 1 hC.1.2.2.2.2 (gd_0 wcode_X1_init) rfl rfl rfl (hC.1.2.2.2.2 _ (List.mem_cons_of_mem _ wini_X1)) (hC.1.2.2.2.2 _ (List.mem_cons_of_mem _ wM_X3_141)) (hC.1.2.2.2.2 _ (List.mem_cons_of_mem _ wi_X1_init)) rfl (by decide +kernel) ⟨by decide, by decide⟩) (nf_preS hC hM) rfl rfl hl.1 rfl (lv_room (Nat.le_of_ble_eq_true rfl)) dX3_addNode_5 ⟨Nat.le_of_ble_eq_true rfl, Nat.le_of_ble_eq_true rfl⟩) hM (fun ad9 H locs hkc hM => ?_)
  have hre := (hkc 0 0 _ (show (nf_su (xS cs nn) 5 nn (.inl (1, [(0, 0), (0, 0), (0, 0), (3, 0), (3, 0), (1, 0), (0, 0)]))) 0 0 = some (.inl (3, [(2, 1), (0, 0), (2, 2), (0, 0), (2, 3)])) from rfl)).symm
  try rw [hre] at hl
  try rw [hre]
  have hre := (hkc 5 nn _ (nf_su_s _ _ _ _)).symm
  try rw [hre] at hl
  try rw [hre]
  have hk := nf_kp.tr hk hkc hgr
  rw [xs_ndS_eq, xs_ndP_eq] at hM
  refine lv_astore_n (pc := 8) (lv' := [(2, .ref (ad9 5 nn)), (0, .ref (ad9 0 0)), (1, .int id)]) hx hb dX3_addNode_8 rfl hl (by decide) rfl (fun ls hl => ?_)
  refine lv_aload_n (pc := 9) hx hb dX3_addNode_9 rfl (lv_at hl 1 rfl) ?_
  refine nf_geti (pc := 10) hC hinX3 hM rfl rfl 1 (by decide) (List.mem_cons_of_mem _ wF_X3_15) rfl dX3_addNode_10 ?_
  refine lv_bipush (pc := 13) (v := 12) hx hb dX3_addNode_13 (by decide) ?_
  refine lv_icmp_ge (pc := 15) (tgt := 38) hx hb dX3_addNode_15 (by decide) (fun hh => absurd hh (nk_nge (by simpa [xs_ndI, nf_iu, nf_if, nf_iz] using hn) hnn (by decide))) (fun _ => ?_)
  refine lv_aload_n (pc := 18) hx hb dX3_addNode_18 rfl (lv_at hl 1 rfl) ?_
  refine nf_getr (pc := 19) hC hinX3 hM rfl rfl 0 (by decide) (List.mem_cons_of_mem _ wF_X3_11) rfl dX3_addNode_19 ?_
  refine lv_aload_n (pc := 22) hx hb dX3_addNode_22 rfl (lv_at hl 1 rfl) ?_
  refine nf_geti (pc := 23) hC hinX3 hM rfl rfl 1 (by decide) (List.mem_cons_of_mem _ wF_X3_15) rfl dX3_addNode_23 ?_
  refine lv_aload_n (pc := 26) hx hb dX3_addNode_26 rfl (lv_at hl 0 rfl) ?_
  refine nf_aast (pc := 27) hC hM 2 rfl rfl (xS_5 (nn := nn + 1) (Nat.lt_succ_self nn)) rfl nn (by simpa [xs_ndI, nf_iu, nf_if, nf_iz] using hn) (by omega) (by omega) dX3_addNode_27 (fun H locs hM => ?_)
  rw [xP_add] at hM
  refine lv_aload_n (pc := 28) hx hb dX3_addNode_28 rfl (lv_at hl 1 rfl) ?_
  refine lv_dup (pc := 29) hx hb dX3_addNode_29 rfl ?_
  refine nf_geti (pc := 30) hC hinX3 hM rfl rfl 1 (by decide) (List.mem_cons_of_mem _ wF_X3_15) rfl dX3_addNode_30 ?_
  refine lv_iconst (pc := 33) (v := 1) hx hb dX3_addNode_33 (by decide) ?_
  refine lv_iadd (pc := 34) hx hb dX3_addNode_34 ?_
  refine nf_puti (pc := 35) hC hinX3 tyX3 tyX3_ok nmX3 hM rfl rfl 1 (by decide) (List.mem_cons_of_mem _ wF_X3_15) rfl (by decide +kernel) rfl dX3_addNode_35 (fun H locs hM => ?_)
  refine lv_aload_n (pc := 38) hx hb dX3_addNode_38 rfl (lv_at hl 0 rfl) ?_
  exact nf_retqX hC hr hlk hM hk rfl rfl rfl rfl dX3_addNode_39
end ZA
