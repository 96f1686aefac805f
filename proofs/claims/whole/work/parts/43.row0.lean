/-! Row(). -/
section ZR
variable {l : Launch} {D : va_G} {cs : Nat → ClassId} {Bs nn : Nat} {ad : nf_A} {sh : nf_H} {I : nf_I} {J : nf_J} {P : nf_P}
def xs_rS (sh : nf_H) (j : Nat) : nf_H := fun a b => if a = 8 ∧ b < j then some (.inl (0, [(0, 0), (0, 0), (0, 0), (0, 0), (0, 0), (0, 0), (0, 0), (0, 0), (1, 0)])) else sh a b
def xs_rI (I : nf_I) (j : Nat) : nf_I := fun a b c => if a = 8 ∧ b < j then 0 else I a b c
def xs_rJ (J : nf_J) (j : Nat) : nf_J := fun a b c => if a = 8 ∧ b < j then 0 else J a b c
def xs_rP (P : nf_P) (j : Nat) : nf_P := fun a b c => if a = 4 ∧ b = 0 ∧ c < j then some (8, c) else if a = 8 ∧ b < j then none else P a b c
theorem xs_rS_0 (sh : nf_H) : xs_rS sh 0 = sh := by
  funext a b
  unfold xs_rS
  rw [if_neg (by omega)]
theorem xs_rI_0 (I : nf_I) : xs_rI I 0 = I := by
  funext a b c
  unfold xs_rI
  rw [if_neg (by omega)]
theorem xs_rJ_0 (J : nf_J) : xs_rJ J 0 = J := by
  funext a b c
  unfold xs_rJ
  rw [if_neg (by omega)]
theorem xs_rP_0 (P : nf_P) : xs_rP P 0 = P := by
  funext a b c
  unfold xs_rP
  rw [if_neg (by omega), if_neg (by omega)]
theorem xs_rS_s (sh : nf_H) (j : Nat) : nf_su (xs_rS sh j) 8 j (.inl (0, [(0, 0), (0, 0), (0, 0), (0, 0), (0, 0), (0, 0), (0, 0), (0, 0), (1, 0)])) = xs_rS sh (j + 1) := by
  funext a b
  unfold nf_su xs_rS
  by_cases h : a = 8 ∧ b = j
  · rw [if_pos h, if_pos (by omega)]
  · rw [if_neg h]
    by_cases h2 : a = 8 ∧ b < j
    · rw [if_pos h2, if_pos (by omega)]
    · rw [if_neg h2, if_neg (by omega)]
theorem xs_rI_s (I : nf_I) (j : Nat) : nf_iz (xs_rI I j) 8 j = xs_rI I (j + 1) := by
  funext a b c
  unfold nf_iz xs_rI
  by_cases h : a = 8 ∧ b = j
  · rw [if_pos h, if_pos (by omega)]
  · rw [if_neg h]
    by_cases h2 : a = 8 ∧ b < j
    · rw [if_pos h2, if_pos (by omega)]
    · rw [if_neg h2, if_neg (by omega)]
theorem xs_rJ_s (J : nf_J) (j : Nat) : nf_jz (xs_rJ J j) 8 j = xs_rJ J (j + 1) := by
  funext a b c
  unfold nf_jz xs_rJ
  by_cases h : a = 8 ∧ b = j
  · rw [if_pos h, if_pos (by omega)]
  · rw [if_neg h]
    by_cases h2 : a = 8 ∧ b < j
    · rw [if_pos h2, if_pos (by omega)]
    · rw [if_neg h2, if_neg (by omega)]
theorem xs_rP_s (P : nf_P) (j : Nat) : nf_pu (nf_pz (xs_rP P j) 8 j) 4 0 j (some (8, j)) = xs_rP P (j + 1) := by
  funext a b c
  unfold nf_pu nf_pz xs_rP
  by_cases h : a = 4 ∧ b = 0 ∧ c = j
  · obtain ⟨rfl, rfl, rfl⟩ := h
    rw [if_pos ⟨rfl, rfl, rfl⟩, if_pos (by omega)]
  · rw [if_neg h]
    by_cases h1 : a = 8 ∧ b = j
    · rw [if_pos h1, if_neg (by omega), if_pos (by omega)]
    · rw [if_neg h1]
      by_cases h2 : a = 4 ∧ b = 0 ∧ c < j
      · rw [if_pos h2, if_pos (by omega)]
      · rw [if_neg h2, if_neg (show ¬ (a = 4 ∧ b = 0 ∧ c < j + 1) by omega)]
        by_cases h3 : a = 8 ∧ b < j
        · rw [if_pos h3, if_pos (by omega)]
        · rw [if_neg h3, if_neg (by omega)]
theorem xs_rS_gr {sh : nf_H} {a b j : Nat} (h : ∃ y, sh a b = some y) : ∃ y, xs_rS sh j a b = some y := by
  obtain ⟨y, hy⟩ := h
  by_cases h2 : a = 8 ∧ b < j
  · exact ⟨_, by unfold xs_rS; rw [if_pos h2]⟩
  · exact ⟨y, by unfold xs_rS; rw [if_neg h2]; exact hy⟩
set_option maxHeartbeats 4000000 in
set_option maxRecDepth 100000 in
theorem ct_X2_init  (h3 : sh 3 0 = some (.inl (2, [(3, 0), (0, 0)]))) (h4 : sh 4 0 = none) (h8 : ∀ c, sh 8 c = none) : Met l yX2_init wsX2_init { frames := 2, cells := 22, slots := 210, locals := 36 } (va_Pc [.ref (ad 3 0)] (fun U => nf_U D vwCl (xT cs) Bs sh ad (I, J, P) U ∧ va_AO "FingerOverlay$Message" U ∧ va_Nw (.methodLinkNest RX2 21 yX0_init "FingerOverlay") U)) (va_Qv (nf_pX sh ad (xs_rS (nf_su (nf_su sh 4 0 (.inr (cs 3, 21, 2))) 3 0 (.inl (2, [(2, 4), (0, 0)]))) 21) (xs_rI (nf_iu (nf_iz I 4 0) 3 0 1 0) 21) (xs_rJ (nf_jz J 4 0) 21) (xs_rP (nf_pz P 4 0) 21)) (nf_X D vwCl (xT cs) Bs) (fun q => Bs ≤ q)) 22 210 (fun q => Bs ≤ q) := by
  refine nf_enter (cc := cX2_init) (maxL := 2) (by decide) rfl (Nat.le_of_ble_eq_true rfl) ?_
  intro p e s m below meth c ls hF hr hlk hnm hU hl
  obtain ⟨⟨hK, hM⟩, hAO, hZ⟩ := hU
  obtain ⟨ar, har⟩ : ∃ z, z = ([.ref (ad 3 0)] : List Value).toArray := ⟨_, rfl⟩
  rw [← har] at hF ⊢
  have hC : nf_C p m c cX2_init 2 s ar wsX2_init yX2_init.cls D vwCl (xT cs) := ⟨hF, hK⟩
  have hx := hC.1.1
  have hb := hC.1.2.1
  have hl : lv_has ls 2 [(0, .ref (ad 3 0))] := hl
  have hk : nf_kp sh ad ad := nf_kp.rf
  have hgr : ∀ (a b : Nat) (x : nf_O), sh a b = some x → ∃ y, sh a b = some y := fun a b x hx => ⟨x, hx⟩
  have hinX0 : ∀ w ∈ u_ws RX0 TX0 9, w ∈ wsX2_init := fun w h => List.mem_cons_of_mem _ (inX0 w h)
  have hinX2 : ∀ w ∈ u_ws RX2 TX2 2, w ∈ wsX2_init := fun w h => List.mem_cons_of_mem _ (inX2 w h)
  refine lv_aload_n (pc := 0) hx hb dX2_init_0 rfl (lv_at hl 0 rfl) ?_
  obtain ⟨Q, hQ⟩ : ∃ z, z = MQ below (va_Qv (nf_pX sh ad (xs_rS (nf_su (nf_su sh 4 0 (.inr (cs 3, 21, 2))) 3 0 (.inl (2, [(2, 4), (0, 0)]))) 21) (xs_rI (nf_iu (nf_iz I 4 0) 3 0 1 0) 21) (xs_rJ (nf_jz J 4 0) 21) (xs_rP (nf_pz P 4 0) 21)) (nf_X D vwCl (xT cs) Bs) (fun q => Bs ≤ q)) ar s 22 210 (fun q => Bs ≤ q) := ⟨_, rfl⟩
  rw [← hQ]
  refine W.objInit (g := F0 m 1 ls [.ref (ad 3 0)]) hx hb hC.1.2.2.2.1 (hC.1.2.2.2.2 _ (List.mem_cons_of_mem _ wM_X2_3)) (hC.1.2.2.2.2 _ (List.mem_cons_of_mem _ wi_OB_init)) (hC.1.2.2.2.2 _ (List.mem_cons_of_mem _ wcode_OB_init)) rfl (by rw [hC.1.2.2.1]; exact hl.1) rfl dX2_init_1 (Nat.le_of_ble_eq_true rfl) (Nat.le_of_ble_eq_true rfl) ?_
  refine W.eq (g2 := F0 m 4 ls []) rfl ?_
  refine lv_aload_n (pc := 4) hx hb dX2_init_4 rfl (lv_at hl 0 rfl) ?_
  refine lv_bipush (pc := 5) (v := 21) hx hb dX2_init_5 (by decide) ?_
  refine nf_newq (pc := 7) hC (List.mem_cons_of_mem _ wK_X2_9) hAO hM 3 rfl 4 0 (show sh 4 0 = none from h4) 21 rfl (by decide) (Nat.le_of_ble_eq_true rfl) (Nat.le_of_ble_eq_true rfl) dX2_init_7 (fun q H hM => ?_)
  have hre := (nh_ad_old (q := q) ad (show ¬ (3 = 4 ∧ 0 = 0) by omega)).symm
  try rw [hre] at hl
  try rw [hre]
  obtain ⟨ad2, had⟩ : ∃ z, z = nh_ad ad 4 0 q := ⟨_, rfl⟩
  have hk := nf_kp.tr hk (nf_kp.new (ad := ad) (k := 4) (i := 0) (q := q) (show sh 4 0 = none from h4)) hgr
  rw [← had] at hk
  simp only [← had] at hM hl ⊢
  have hgr := fun a b x hx => Exists.elim (hgr a b x hx) (fun y hy => nf_su_gr (sh := sh) (k := 4) (i := 0) (z := .inr (cs 3, 21, 2)) a b y hy)
  refine nf_putrF (pc := 10) (ty := (.array (.object "FingerOverlay$Message"))) hC hinX2 tyX2 tyX2_ok nmX2 hM (show (nf_su sh 4 0 (.inr (cs 3, 21, 2))) 3 0 = some (.inl (2, [(3, 0), (0, 0)])) from (by simp [nf_su, h3])) rfl 0 (by decide) (List.mem_cons_of_mem _ wF_X2_11) rfl hnm rfl (by decide +kernel) rfl rfl (by decide) (show (nf_su sh 4 0 (.inr (cs 3, 21, 2))) 4 0 = some (.inr (cs 3, 21, 2)) by simp [nf_su]) dX2_init_10 (fun H locs hM => ?_)
  have hgr := fun a b x hx => Exists.elim (hgr a b x hx) (fun y hy => nf_su_gr (sh := nf_su sh 4 0 (.inr (cs 3, 21, 2))) (k := 3) (i := 0) (z := .inl (2, [(2, 4), (0, 0)])) a b y hy)
  refine lv_aload_n (pc := 13) hx hb dX2_init_13 rfl (lv_at hl 0 rfl) ?_
  refine lv_iconst (pc := 14) (v := 0) hx hb dX2_init_14 (by decide) ?_
  refine nf_puti (pc := 15) hC hinX2 tyX2 tyX2_ok nmX2 hM (show (nf_su (nf_su sh 4 0 (.inr (cs 3, 21, 2))) 3 0 (.inl (2, [(2, 4), (0, 0)]))) 3 0 = some (.inl (2, [(2, 4), (0, 0)])) by simp [nf_su, xs_rS, h3]) rfl 1 (by decide) (List.mem_cons_of_mem _ wF_X2_17) rfl (by decide +kernel) rfl dX2_init_15 (fun H locs hM => ?_)
  refine lv_iconst (pc := 18) (v := 0) hx hb dX2_init_18 (by decide) ?_
  refine lv_istore_n (pc := 19) (lv' := [(1, .int 0), (0, .ref (ad2 3 0))]) hx hb dX2_init_19 rfl hl (by decide) rfl (fun ls hl => ?_)
  have hgr0 := hgr
  have loop20 : ∀ (fz j : Nat) (ad5 : nf_A) (ls : Array Slot) (H : Heap) (locs : List Loc), 21 - j < fz → j ≤ 21 → nf_kp sh ad ad5 → nf_M D vwCl Bs (xs_rS (nf_su (nf_su sh 4 0 (.inr (cs 3, 21, 2))) 3 0 (.inl (2, [(2, 4), (0, 0)]))) j) ad5 (xs_rI (nf_iu (nf_iz I 4 0) 3 0 1 0) j) (xs_rJ (nf_jz J 4 0) j) (xs_rP (nf_pz P 4 0) j) s.heap H locs → lv_has ls 2 [(1, .int (nI j)), (0, .ref (ad5 3 0))] → W p l e ({ frames := 2, cells := 22, slots := 210, locals := 36 }) s m ar below meth c H locs (1 + j) (21 + 9 * j) Q (F0 m 20 ls []) := by
    intro fz
    induction fz with
    | zero => exact fun _ _ _ _ _ hmz => absurd hmz (Nat.not_lt_zero _)
    | succ fz ih =>
      intro j ad5 ls H locs hmz hj hk hM hl
      have hgr : ∀ (a b : Nat) (x : nf_O), sh a b = some x → ∃ y, xs_rS (nf_su (nf_su sh 4 0 (.inr (cs 3, 21, 2))) 3 0 (.inl (2, [(2, 4), (0, 0)]))) j a b = some y := fun a b x hx => xs_rS_gr (hgr0 a b x hx)
      refine lv_iload_n (pc := 20) hx hb dX2_init_20 rfl (lv_at hl 0 rfl) ?_
      refine lv_bipush (pc := 21) (v := nI 20) hx hb dX2_init_21 (by decide) ?_
      refine lv_icmp_gt (pc := 23) (tgt := 45) hx hb dX2_init_23 (by decide) (fun hh => ?_) (fun hh => ?_)
      · have hj1 : j = 21 := by have := (nI_ltI (by decide) (by omega)).mp (show nI 20 < nI j from hh); omega
        subst hj1
        rw [hQ]
        exact nf_retvX (cells := 22) (slots := 210) hC hr hlk hM hk rfl rfl rfl rfl dX2_init_45
      · have hj1 : j < 21 := Nat.lt_of_not_le (fun z => hh (show nI 20 < nI j from (nI_ltI (by decide) (by omega)).mpr (by omega)))
        refine lv_aload_n (pc := 26) hx hb dX2_init_26 rfl (lv_at hl 1 rfl) ?_
        refine nf_getr (pc := 27) hC hinX2 hM (show (xs_rS (nf_su (nf_su sh 4 0 (.inr (cs 3, 21, 2))) 3 0 (.inl (2, [(2, 4), (0, 0)]))) j) 3 0 = some (.inl (2, [(2, 4), (0, 0)])) by simp [nf_su, xs_rS, h3]) rfl 0 (by decide) (List.mem_cons_of_mem _ wF_X2_11) rfl dX2_init_27 ?_
        refine lv_iload_n (pc := 30) hx hb dX2_init_30 rfl (lv_at hl 0 rfl) ?_
        refine nf_newo (pc := 31) (ci := 0) hC hinX0 tyX0 tyX0_ok (List.mem_cons_of_mem _ wK_X2_9) (List.mem_cons_of_mem _ wnew_X0) (List.mem_cons_of_mem _ wini_X0) hM rfl 8 j (show (xs_rS (nf_su (nf_su sh 4 0 (.inr (cs 3, 21, 2))) 3 0 (.inl (2, [(2, 4), (0, 0)]))) j) 8 j = none by simp [xs_rS, nf_su, h8]) [(0, 0), (0, 0), (0, 0), (0, 0), (0, 0), (0, 0), (0, 0), (0, 0), (1, 0)] (by decide) (fun j hj => by rcases (show j = 0 ∨ j = 1 ∨ j = 2 ∨ j = 3 ∨ j = 4 ∨ j = 5 ∨ j = 6 ∨ j = 7 ∨ j = 8 by omega) with rfl | rfl | rfl | rfl | rfl | rfl | rfl | rfl | rfl <;> rfl) (show 1 + j + 1 ≤ 22 by omega) (show 21 + 9 * j + 9 ≤ 210 by omega) dX2_init_31 (fun q H hM => ?_)
        have hre := (nh_ad_old (q := q) ad5 (show ¬ (3 = 8 ∧ 0 = j) by omega)).symm
        try rw [hre] at hl
        try rw [hre]
        have hre := (nh_ad_old (q := q) ad5 (show ¬ (4 = 8 ∧ 0 = j) by omega)).symm
        try rw [hre] at hl
        try rw [hre]
        obtain ⟨ad6, had⟩ : ∃ z, z = nh_ad ad5 8 j q := ⟨_, rfl⟩
        have hk := nf_kp.tr hk (nf_kp.new (ad := ad5) (k := 8) (i := j) (q := q) (show (xs_rS (nf_su (nf_su sh 4 0 (.inr (cs 3, 21, 2))) 3 0 (.inl (2, [(2, 4), (0, 0)]))) j) 8 j = none by simp [xs_rS, nf_su, h8])) hgr
        rw [← had] at hk
        simp only [← had] at hM hl ⊢
        have hgr := fun a b x hx => Exists.elim (hgr a b x hx) (fun y hy => nf_su_gr (sh := xs_rS (nf_su (nf_su sh 4 0 (.inr (cs 3, 21, 2))) 3 0 (.inl (2, [(2, 4), (0, 0)]))) j) (k := 8) (i := j) (z := .inl (0, [(0, 0), (0, 0), (0, 0), (0, 0), (0, 0), (0, 0), (0, 0), (0, 0), (1, 0)])) a b y hy)
        refine lv_dup (pc := 34) hx hb dX2_init_34 rfl ?_
        refine nf_callvX (pc := 35) (va_runIN (As := []) (rest := [.ref (ad6 8 j), .int (nI j), .ref (ad6 4 0)]) hC.1 (ct_X0_init (sh := nf_su (xs_rS (nf_su (nf_su sh 4 0 (.inr (cs 3, 21, 2))) 3 0 (.inl (2, [(2, 4), (0, 0)]))) j) 8 j (.inl (0, [(0, 0), (0, 0), (0, 0), (0, 0), (0, 0), (0, 0), (0, 0), (0, 0), (1, 0)]))) (k := 8) (i := j)) ⟨va_cnB 0 hC.1.2.2.2.2 (gd_0 wcode_X0_init) rfl rfl rfl hZ (hC.1.2.2.2.2 _ (List.mem_cons_of_mem _ wini_X0)) (by decide +kernel) ⟨by decide, by decide⟩, rfl, hC.1.2.2.2.2 _ (List.mem_cons_of_mem _ wi_X0_init)⟩ (nf_preS hC hM) rfl rfl hl.1 rfl (lv_room (Nat.le_of_ble_eq_true rfl)) dX2_init_35 ⟨show 1 + j + 1 + 0 ≤ 22 by omega, show 21 + 9 * j + 9 + 0 ≤ 210 by omega⟩) hM (fun ad8 H locs hkc hM => ?_)
        have hre := (hkc 3 0 _ (show (nf_su (xs_rS (nf_su (nf_su sh 4 0 (.inr (cs 3, 21, 2))) 3 0 (.inl (2, [(2, 4), (0, 0)]))) j) 8 j (.inl (0, [(0, 0), (0, 0), (0, 0), (0, 0), (0, 0), (0, 0), (0, 0), (0, 0), (1, 0)]))) 3 0 = some (.inl (2, [(2, 4), (0, 0)])) by simp [nf_su, xs_rS, h3])).symm
        try rw [hre] at hl
        try rw [hre]
        have hre := (hkc 8 j _ (nf_su_s _ _ _ _)).symm
        try rw [hre] at hl
        try rw [hre]
        have hre := (hkc 4 0 _ (show (nf_su (xs_rS (nf_su (nf_su sh 4 0 (.inr (cs 3, 21, 2))) 3 0 (.inl (2, [(2, 4), (0, 0)]))) j) 8 j (.inl (0, [(0, 0), (0, 0), (0, 0), (0, 0), (0, 0), (0, 0), (0, 0), (0, 0), (1, 0)]))) 4 0 = some (.inr (cs 3, 21, 2)) by simp [nf_su, xs_rS])).symm
        try rw [hre] at hl
        try rw [hre]
        have hk := nf_kp.tr hk hkc hgr
        refine nf_aast (pc := 38) hC hM 3 (show (nf_su (xs_rS (nf_su (nf_su sh 4 0 (.inr (cs 3, 21, 2))) 3 0 (.inl (2, [(2, 4), (0, 0)]))) j) 8 j (.inl (0, [(0, 0), (0, 0), (0, 0), (0, 0), (0, 0), (0, 0), (0, 0), (0, 0), (1, 0)]))) 4 0 = some (.inr (cs 3, 21, 2)) by simp [nf_su, xs_rS]) rfl (nf_su_s _ _ _ _) rfl j rfl (by omega) (by omega) dX2_init_38 (fun H locs hM => ?_)
        rw [xs_rS_s, xs_rI_s, xs_rJ_s, xs_rP_s] at hM
        refine lv_iinc (pc := 39) (k := 0) (v := nI (j + 1)) (lv' := [(1, .int (nI (j + 1))), (0, .ref (ad8 3 0))]) hx hb dX2_init_39 hl rfl (nI_1 _) (by decide) rfl (fun ls hl => ?_)
        refine lv_goto (pc := 42) (tgt := 20) hx hb dX2_init_42 (by decide) ?_
        exact W.widen (show 1 + j + 1 + 0 ≤ 1 + (j + 1) by omega) (show 21 + 9 * j + 9 + 0 ≤ 21 + 9 * (j + 1) by omega) (ih (j + 1) ad8 ls _ _ (by omega) (by omega) hk hM hl)
  have hM : nf_M D vwCl Bs (xs_rS (nf_su (nf_su sh 4 0 (.inr (cs 3, 21, 2))) 3 0 (.inl (2, [(2, 4), (0, 0)]))) 0) ad2 (xs_rI (nf_iu (nf_iz I 4 0) 3 0 1 0) 0) (xs_rJ (nf_jz J 4 0) 0) (xs_rP (nf_pz P 4 0) 0) s.heap H locs := by rw [xs_rS_0, xs_rI_0, xs_rJ_0, xs_rP_0]; exact hM
  exact loop20 _ 0 ad2 ls _ _ (Nat.lt_succ_self _) (Nat.zero_le _) hk hM hl
end ZR
