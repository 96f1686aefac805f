/-! stabilise, fix, put, get. -/
section XG
variable {l : Launch} {D : va_G} {cs : Nat → ClassId} {Bs nn sz kc : Nat} {ad : nf_A} {I : nf_I} {J : nf_J} {mp : Nat → Nat}
set_option maxHeartbeats 4000000 in
set_option maxRecDepth 100000 in
theorem ct_X3_stabilise {id : Int32} (hn : I 0 0 1 = nI nn) (hnn : nn ≤ 12) (hs : I 3 0 1 = nI sz) (hsz0 : sz ≤ 20) (hmp : ∀ j, j < 21 → mp j < 21) : nf_Ti l yX3_stabilise wsX3_stabilise 2 44 D vwCl (xT cs) Bs (xS cs nn) ad [.ref (ad 0 0), .int id] I J (xP nn mp) (nb_I (xs_stbB I nn id)) (xs_stbI I nn (mp sz) id) (xs_stbJ I J nn (mp sz) id) (xP nn mp) := by
  refine nf_enterz (cc := cX3_stabilise) (maxL := 4) (by decide) rfl (Nat.le_of_ble_eq_true rfl) ?_
  intro p e s m below meth c ls Q hC hM hl hret
  have hx := hC.1.1
  have hb := hC.1.2.1
  have hl : lv_has ls 4 [(0, .ref (ad 0 0)), (1, .int id)] := hl
  have hinX0 : ∀ w ∈ u_ws RX0 TX0 9, w ∈ wsX3_stabilise := fun w h => List.mem_cons_of_mem _ (inX0 w h)
  have hinX1 : ∀ w ∈ u_ws RX1 TX1 7, w ∈ wsX3_stabilise := fun w h => List.mem_cons_of_mem _ (inX1 w h)
  have hinX3 : ∀ w ∈ u_ws RX3 TX3 5, w ∈ wsX3_stabilise := fun w h => List.mem_cons_of_mem _ (inX3 w h)
  refine lv_aload_n (pc := 0) hx hb dX3_stabilise_0 rfl (lv_at hl 0 rfl) ?_
  refine lv_iload_n (pc := 1) hx hb dX3_stabilise_1 rfl (lv_at hl 1 rfl) ?_
  refine nf_callq (pc := 2) (va_runV (As := [.int id]) (rest := []) hC.1 (ct_X3_memberWith (id := id) hn hnn) (cwV 1 hC.1.2.2.2.2 (gd_V wM_X3_47 wi_X3_memberWith wsel_X3_memberWith wini_X3 wcode_X3_memberWith) rfl rfl rfl (by decide +kernel) ⟨by decide, by decide⟩) (nf_preV hC hM rfl rfl) rfl rfl hl.1 rfl (lv_room (Nat.le_of_ble_eq_true rfl)) dX3_stabilise_2 ⟨Nat.le_refl _, Nat.le_refl _⟩) hM (fun H locs hM => ?_)
  cases hq1 : xs_memb I nn id with
  | none =>
    simp only [hq1, Option.map_none, va_rf]
    refine lv_astore_nN (pc := 5) (lv' := [(2, .null), (0, .ref (ad 0 0)), (1, .int id)]) hx hb dX3_stabilise_5 rfl hl (by decide) rfl (fun ls hl => ?_)
    refine lv_aload_nN (pc := 6) hx hb dX3_stabilise_6 rfl (lv_at hl 0 rfl) ?_
    refine lv_ifnullN (pc := 7) (tgt := 20) hx hb dX3_stabilise_7 (by decide) ?_
    refine lv_iconst (pc := 20) (v := 0) hx hb dX3_stabilise_20 (by decide) ?_
    exact hret _ _ _ _ _ _ _ _ (by simp [nb_I, xs_stbB, hq1]) (by simp [xs_stbI, xs_stbB, hq1] <;> rfl) (by simp [xs_stbJ, xs_stbB, hq1] <;> rfl) rfl hM dX3_stabilise_21
  | some i2 =>
    simp only [hq1, Option.map_some, va_rf]
    have hq1l := xs_memb_lt hq1
    refine lv_astore_n (pc := 5) (lv' := [(2, .ref (ad 5 i2)), (0, .ref (ad 0 0)), (1, .int id)]) hx hb dX3_stabilise_5 rfl hl (by decide) rfl (fun ls hl => ?_)
    refine lv_aload_n (pc := 6) hx hb dX3_stabilise_6 rfl (lv_at hl 0 rfl) ?_
    refine lv_ifnull (pc := 7) hx hb dX3_stabilise_7 ?_
    refine lv_aload_n (pc := 10) hx hb dX3_stabilise_10 rfl (lv_at hl 1 rfl) ?_
    refine nf_getr (pc := 11) hC hinX3 hM rfl rfl 4 (by decide) (List.mem_cons_of_mem _ wF_X3_29) rfl dX3_stabilise_11 ?_
    refine nf_calli (pc := 14) (va_runV (As := []) (rest := []) hC.1 (ct_X2_isFull) (cwV 0 hC.1.2.2.2.2 (gd_V wM_X3_50 wi_X2_isFull wsel_X2_isFull wini_X2 wcode_X2_isFull) rfl rfl rfl (by decide +kernel) ⟨by decide, by decide⟩) (nf_preV hC hM rfl rfl) rfl rfl hl.1 rfl (lv_room (Nat.le_of_ble_eq_true rfl)) dX3_stabilise_14 ⟨Nat.le_refl _, Nat.le_refl _⟩) hM (fun H locs hM => ?_)
    refine lv_if_eq (pc := 17) (tgt := 22) hx hb dX3_stabilise_17 (by decide) (fun h3 => ?_) (fun h3 => ?_)
    · have h3 := nb_0 h3
      have hsz : sz < 20 := xs_full_n hs (by omega) h3
      have hon := hmp sz (by omega)
      refine lv_aload_n (pc := 22) hx hb dX3_stabilise_22 rfl (lv_at hl 1 rfl) ?_
      refine nf_getr (pc := 23) hC hinX3 hM rfl rfl 4 (by decide) (List.mem_cons_of_mem _ wF_X3_29) rfl dX3_stabilise_23 ?_
      refine lv_bipush (pc := 26) (v := 6) hx hb dX3_stabilise_26 (by decide) ?_
      refine lv_aload_n (pc := 28) hx hb dX3_stabilise_28 rfl (lv_at hl 0 rfl) ?_
      refine nf_geti (pc := 29) hC hinX1 hM (xS_5 (by first | assumption | omega)) rfl 1 (by decide) (List.mem_cons_of_mem _ wF_X3_41) rfl dX3_stabilise_29 ?_
      refine nf_callq (pc := 32) (va_runV (As := [.int 6, .int (I 5 i2 1)]) (rest := []) hC.1 (ct_X2_send (kd := 6) (tz := (I 5 i2 1)) (sz := sz) hs hsz hmp) (cwV 2 hC.1.2.2.2.2 (gd_V wM_X3_58 wi_X2_send wsel_X2_send wini_X2 wcode_X2_send) rfl rfl rfl (by decide +kernel) ⟨by decide, by decide⟩) (nf_preV hC hM rfl rfl) rfl rfl hl.1 rfl (lv_room (Nat.le_of_ble_eq_true rfl)) dX3_stabilise_32 ⟨Nat.le_refl _, Nat.le_refl _⟩) hM (fun H locs hM => ?_)
      refine W.eq (g2 := F0 m 35 ls [.ref (ad 8 (mp sz))]) rfl ?_
      refine lv_astore_n (pc := 35) (lv' := [(3, .ref (ad 8 (mp sz))), (2, .ref (ad 5 i2)), (0, .ref (ad 0 0)), (1, .int id)]) hx hb dX3_stabilise_35 rfl hl (by decide) rfl (fun ls hl => ?_)
      refine lv_aload_n (pc := 36) hx hb dX3_stabilise_36 rfl (lv_at hl 0 rfl) ?_
      refine lv_iload_n (pc := 37) hx hb dX3_stabilise_37 rfl (lv_at hl 3 rfl) ?_
      refine nf_puti (pc := 38) hC hinX0 tyX0 tyX0_ok nmX0 hM (xS_8 (by first | assumption | omega)) rfl 6 (by decide) (List.mem_cons_of_mem _ wF_X3_62) rfl (by decide +kernel) rfl dX3_stabilise_38 (fun H locs hM => ?_)
      refine lv_iconst (pc := 41) (v := 1) hx hb dX3_stabilise_41 (by decide) ?_
      exact hret _ _ _ _ _ _ _ _ (by simp [nb_I, xs_stbB, hq1, h3]) (by simp [xs_stbI, xs_stbB, hq1, h3] <;> rfl) (by simp [xs_stbJ, xs_stbB, hq1, h3] <;> rfl) rfl hM dX3_stabilise_42
    · have h3 := nb_1 h3
      refine lv_iconst (pc := 20) (v := 0) hx hb dX3_stabilise_20 (by decide) ?_
      exact hret _ _ _ _ _ _ _ _ (by simp [nb_I, xs_stbB, hq1, h3]) (by simp [xs_stbI, xs_stbB, hq1, h3] <;> rfl) (by simp [xs_stbJ, xs_stbB, hq1, h3] <;> rfl) rfl hM dX3_stabilise_21
set_option maxHeartbeats 4000000 in
set_option maxRecDepth 100000 in
theorem ct_X3_fix {id j : Int32} (hn : I 0 0 1 = nI nn) (hnn : nn ≤ 12) (hs : I 3 0 1 = nI sz) (hsz0 : sz ≤ 20) (hmp : ∀ j, j < 21 → mp j < 21) : nf_Ti l yX3_fix wsX3_fix 2 48 D vwCl (xT cs) Bs (xS cs nn) ad [.ref (ad 0 0), .int id, .int j] I J (xP nn mp) (nb_I (xs_fixB I nn id j)) (xs_fixI I nn (mp sz) id j) (xs_fixJ I J nn (mp sz) id j) (xP nn mp) := by
  refine nf_enterz (cc := cX3_fix) (maxL := 4) (by decide) rfl (Nat.le_of_ble_eq_true rfl) ?_
  intro p e s m below meth c ls Q hC hM hl hret
  have hx := hC.1.1
  have hb := hC.1.2.1
  have hl : lv_has ls 4 [(0, .ref (ad 0 0)), (1, .int id), (2, .int j)] := hl
  have hinX0 : ∀ w ∈ u_ws RX0 TX0 9, w ∈ wsX3_fix := fun w h => List.mem_cons_of_mem _ (inX0 w h)
  have hinX3 : ∀ w ∈ u_ws RX3 TX3 5, w ∈ wsX3_fix := fun w h => List.mem_cons_of_mem _ (inX3 w h)
  refine lv_aload_n (pc := 0) hx hb dX3_fix_0 rfl (lv_at hl 0 rfl) ?_
  refine lv_iload_n (pc := 1) hx hb dX3_fix_1 rfl (lv_at hl 1 rfl) ?_
  refine nf_callq (pc := 2) (va_runV (As := [.int id]) (rest := []) hC.1 (ct_X3_memberWith (id := id) hn hnn) (cwV 1 hC.1.2.2.2.2 (gd_V wM_X3_47 wi_X3_memberWith wsel_X3_memberWith wini_X3 wcode_X3_memberWith) rfl rfl rfl (by decide +kernel) ⟨by decide, by decide⟩) (nf_preV hC hM rfl rfl) rfl rfl hl.1 rfl (lv_room (Nat.le_of_ble_eq_true rfl)) dX3_fix_2 ⟨Nat.le_refl _, Nat.le_refl _⟩) hM (fun H locs hM => ?_)
  cases hq1 : xs_memb I nn id with
  | none =>
    simp only [hq1, Option.map_none, va_rf]
    refine lv_ifnullN (pc := 5) (tgt := 25) hx hb dX3_fix_5 (by decide) ?_
    refine lv_iconst (pc := 25) (v := 0) hx hb dX3_fix_25 (by decide) ?_
    exact hret _ _ _ _ _ _ _ _ (by simp [nb_I, xs_fixB, hq1]) (by simp [xs_fixI, xs_fixB, hq1] <;> rfl) (by simp [xs_fixJ, xs_fixB, hq1] <;> rfl) rfl hM dX3_fix_26
  | some i2 =>
    simp only [hq1, Option.map_some, va_rf]
    have hq1l := xs_memb_lt hq1
    refine lv_ifnull (pc := 5) hx hb dX3_fix_5 ?_
    refine lv_iload_n (pc := 8) hx hb dX3_fix_8 rfl (lv_at hl 2 rfl) ?_
    refine nf_calli (pc := 9) (va_runS (As := [.int j]) (rest := []) hC.1 (ct_X3_isFinger) (cwS 1 hC.1.2.2.2.2 (gd_S wM_X3_67 wst_X3_isFinger wini_X3 wcode_X3_isFinger) rfl rfl rfl (by decide +kernel) ⟨by decide, by decide⟩) (nf_preS hC hM) rfl rfl hl.1 rfl (lv_room (Nat.le_of_ble_eq_true rfl)) dX3_fix_9 ⟨Nat.le_refl _, Nat.le_refl _⟩) hM (fun H locs hM => ?_)
    refine lv_if_eq (pc := 12) (tgt := 25) hx hb dX3_fix_12 (by decide) (fun h3 => ?_) (fun h3 => ?_)
    · have h3 := nb_0 h3
      refine lv_iconst (pc := 25) (v := 0) hx hb dX3_fix_25 (by decide) ?_
      exact hret _ _ _ _ _ _ _ _ (by simp [nb_I, xs_fixB, hq1, h3]) (by simp [xs_fixI, xs_fixB, hq1, h3] <;> rfl) (by simp [xs_fixJ, xs_fixB, hq1, h3] <;> rfl) rfl hM dX3_fix_26
    · have h3 := nb_1 h3
      refine lv_aload_n (pc := 15) hx hb dX3_fix_15 rfl (lv_at hl 0 rfl) ?_
      refine nf_getr (pc := 16) hC hinX3 hM rfl rfl 4 (by decide) (List.mem_cons_of_mem _ wF_X3_29) rfl dX3_fix_16 ?_
      refine nf_calli (pc := 19) (va_runV (As := []) (rest := []) hC.1 (ct_X2_isFull) (cwV 0 hC.1.2.2.2.2 (gd_V wM_X3_50 wi_X2_isFull wsel_X2_isFull wini_X2 wcode_X2_isFull) rfl rfl rfl (by decide +kernel) ⟨by decide, by decide⟩) (nf_preV hC hM rfl rfl) rfl rfl hl.1 rfl (lv_room (Nat.le_of_ble_eq_true rfl)) dX3_fix_19 ⟨Nat.le_refl _, Nat.le_refl _⟩) hM (fun H locs hM => ?_)
      refine lv_if_eq (pc := 22) (tgt := 27) hx hb dX3_fix_22 (by decide) (fun h4 => ?_) (fun h4 => ?_)
      · have h4 := nb_0 h4
        have hsz : sz < 20 := xs_full_n hs (by omega) h4
        have hon := hmp sz (by omega)
        refine lv_aload_n (pc := 27) hx hb dX3_fix_27 rfl (lv_at hl 0 rfl) ?_
        refine lv_iload_n (pc := 28) hx hb dX3_fix_28 rfl (lv_at hl 1 rfl) ?_
        refine lv_iload_n (pc := 29) hx hb dX3_fix_29 rfl (lv_at hl 1 rfl) ?_
        refine lv_iconst (pc := 30) (v := 2) hx hb dX3_fix_30 (by decide) ?_
        refine lv_iload_n (pc := 31) hx hb dX3_fix_31 rfl (lv_at hl 1 rfl) ?_
        refine lv_iload_n (pc := 32) hx hb dX3_fix_32 rfl (lv_at hl 2 rfl) ?_
        refine nf_calli (pc := 33) (va_runS (As := [.int id, .int j]) (rest := [.int 2, .int id, .int id, .ref (ad 0 0)]) hC.1 (ct_X3_fingerStart) (cwS 2 hC.1.2.2.2.2 (gd_S wM_X3_70 wst_X3_fingerStart wini_X3 wcode_X3_fingerStart) rfl rfl rfl (by decide +kernel) ⟨by decide, by decide⟩) (nf_preS hC hM) rfl rfl hl.1 rfl (lv_room (Nat.le_of_ble_eq_true rfl)) dX3_fix_33 ⟨Nat.le_refl _, Nat.le_refl _⟩) hM (fun H locs hM => ?_)
        refine nf_callq (pc := 36) (va_runV (As := [.int id, .int id, .int 2, .int (xs_fst id j)]) (rest := []) hC.1 (ct_X3_sendFind (tz := id) (ak := id) (pu := 2) (ky := (xs_fst id j)) (sz := sz) hs hsz hmp) (cwV 4 hC.1.2.2.2.2 (gd_V wM_X3_54 wi_X3_sendFind wsel_X3_sendFind wini_X3 wcode_X3_sendFind) rfl rfl rfl (by decide +kernel) ⟨by decide, by decide⟩) (nf_preV hC hM rfl rfl) rfl rfl hl.1 rfl (lv_room (Nat.le_of_ble_eq_true rfl)) dX3_fix_36 ⟨Nat.le_refl _, Nat.le_refl _⟩) hM (fun H locs hM => ?_)
        refine W.eq (g2 := F0 m 39 ls [.ref (ad 8 (mp sz))]) rfl ?_
        refine lv_astore_n (pc := 39) (lv' := [(3, .ref (ad 8 (mp sz))), (0, .ref (ad 0 0)), (1, .int id), (2, .int j)]) hx hb dX3_fix_39 rfl hl (by decide) rfl (fun ls hl => ?_)
        refine lv_aload_n (pc := 40) hx hb dX3_fix_40 rfl (lv_at hl 0 rfl) ?_
        refine lv_iload_n (pc := 41) hx hb dX3_fix_41 rfl (lv_at hl 3 rfl) ?_
        refine nf_puti (pc := 42) hC hinX0 tyX0 tyX0_ok nmX0 hM (xS_8 (by first | assumption | omega)) rfl 5 (by decide) (List.mem_cons_of_mem _ wF_X3_74) rfl (by decide +kernel) rfl dX3_fix_42 (fun H locs hM => ?_)
        refine lv_iconst (pc := 45) (v := 1) hx hb dX3_fix_45 (by decide) ?_
        exact hret _ _ _ _ _ _ _ _ (by simp [nb_I, xs_fixB, hq1, h3, h4]) (by simp [xs_fixI, xs_fixB, hq1, h3, h4] <;> rfl) (by simp [xs_fixJ, xs_fixB, hq1, h3, h4] <;> rfl) rfl hM dX3_fix_46
      · have h4 := nb_1 h4
        refine lv_iconst (pc := 25) (v := 0) hx hb dX3_fix_25 (by decide) ?_
        exact hret _ _ _ _ _ _ _ _ (by simp [nb_I, xs_fixB, hq1, h3, h4]) (by simp [xs_fixI, xs_fixB, hq1, h3, h4] <;> rfl) (by simp [xs_fixJ, xs_fixB, hq1, h3, h4] <;> rfl) rfl hM dX3_fix_26
set_option maxHeartbeats 4000000 in
set_option maxRecDepth 100000 in
theorem ct_X3_get {id key : Int32} (hn : I 0 0 1 = nI nn) (hnn : nn ≤ 12) (hs : I 3 0 1 = nI sz) (hsz0 : sz ≤ 20) (hmp : ∀ j, j < 21 → mp j < 21) : nf_Ti l yX3_get wsX3_get 2 48 D vwCl (xT cs) Bs (xS cs nn) ad [.ref (ad 0 0), .int id, .int key] I J (xP nn mp) (nb_I (xs_getB I nn id key)) (xs_getI I nn (mp sz) id key) (xs_getJ I J nn (mp sz) id key) (xP nn mp) := by
  refine nf_enterz (cc := cX3_get) (maxL := 3) (by decide) rfl (Nat.le_of_ble_eq_true rfl) ?_
  intro p e s m below meth c ls Q hC hM hl hret
  have hx := hC.1.1
  have hb := hC.1.2.1
  have hl : lv_has ls 3 [(0, .ref (ad 0 0)), (1, .int id), (2, .int key)] := hl
  have hinX3 : ∀ w ∈ u_ws RX3 TX3 5, w ∈ wsX3_get := fun w h => List.mem_cons_of_mem _ (inX3 w h)
  refine lv_aload_n (pc := 0) hx hb dX3_get_0 rfl (lv_at hl 0 rfl) ?_
  refine lv_iload_n (pc := 1) hx hb dX3_get_1 rfl (lv_at hl 1 rfl) ?_
  refine nf_callq (pc := 2) (va_runV (As := [.int id]) (rest := []) hC.1 (ct_X3_memberWith (id := id) hn hnn) (cwV 1 hC.1.2.2.2.2 (gd_V wM_X3_47 wi_X3_memberWith wsel_X3_memberWith wini_X3 wcode_X3_memberWith) rfl rfl rfl (by decide +kernel) ⟨by decide, by decide⟩) (nf_preV hC hM rfl rfl) rfl rfl hl.1 rfl (lv_room (Nat.le_of_ble_eq_true rfl)) dX3_get_2 ⟨Nat.le_refl _, Nat.le_refl _⟩) hM (fun H locs hM => ?_)
  cases hq1 : xs_memb I nn id with
  | none =>
    simp only [hq1, Option.map_none, va_rf]
    refine lv_ifnullN (pc := 5) (tgt := 25) hx hb dX3_get_5 (by decide) ?_
    refine lv_iconst (pc := 25) (v := 0) hx hb dX3_get_25 (by decide) ?_
    exact hret _ _ _ _ _ _ _ _ (by simp [nb_I, xs_getB, hq1]) (by simp [xs_getI, xs_getB, hq1] <;> rfl) (by simp [xs_getJ, xs_getB, hq1] <;> rfl) rfl hM dX3_get_26
  | some i2 =>
    simp only [hq1, Option.map_some, va_rf]
    have hq1l := xs_memb_lt hq1
    refine lv_ifnull (pc := 5) hx hb dX3_get_5 ?_
    refine lv_iload_n (pc := 8) hx hb dX3_get_8 rfl (lv_at hl 2 rfl) ?_
    refine nf_calli (pc := 9) (va_runS (As := [.int key]) (rest := []) hC.1 (ct_X3_isId) (cwS 1 hC.1.2.2.2.2 (gd_S wM_X3_33 wst_X3_isId wini_X3 wcode_X3_isId) rfl rfl rfl (by decide +kernel) ⟨by decide, by decide⟩) (nf_preS hC hM) rfl rfl hl.1 rfl (lv_room (Nat.le_of_ble_eq_true rfl)) dX3_get_9 ⟨Nat.le_refl _, Nat.le_refl _⟩) hM (fun H locs hM => ?_)
    refine lv_if_eq (pc := 12) (tgt := 25) hx hb dX3_get_12 (by decide) (fun h3 => ?_) (fun h3 => ?_)
    · have h3 := nb_0 h3
      refine lv_iconst (pc := 25) (v := 0) hx hb dX3_get_25 (by decide) ?_
      exact hret _ _ _ _ _ _ _ _ (by simp [nb_I, xs_getB, hq1, h3]) (by simp [xs_getI, xs_getB, hq1, h3] <;> rfl) (by simp [xs_getJ, xs_getB, hq1, h3] <;> rfl) rfl hM dX3_get_26
    · have h3 := nb_1 h3
      refine lv_aload_n (pc := 15) hx hb dX3_get_15 rfl (lv_at hl 0 rfl) ?_
      refine nf_getr (pc := 16) hC hinX3 hM rfl rfl 4 (by decide) (List.mem_cons_of_mem _ wF_X3_29) rfl dX3_get_16 ?_
      refine nf_calli (pc := 19) (va_runV (As := []) (rest := []) hC.1 (ct_X2_isFull) (cwV 0 hC.1.2.2.2.2 (gd_V wM_X3_50 wi_X2_isFull wsel_X2_isFull wini_X2 wcode_X2_isFull) rfl rfl rfl (by decide +kernel) ⟨by decide, by decide⟩) (nf_preV hC hM rfl rfl) rfl rfl hl.1 rfl (lv_room (Nat.le_of_ble_eq_true rfl)) dX3_get_19 ⟨Nat.le_refl _, Nat.le_refl _⟩) hM (fun H locs hM => ?_)
      refine lv_if_eq (pc := 22) (tgt := 27) hx hb dX3_get_22 (by decide) (fun h4 => ?_) (fun h4 => ?_)
      · have h4 := nb_0 h4
        have hsz : sz < 20 := xs_full_n hs (by omega) h4
        have hon := hmp sz (by omega)
        refine lv_aload_n (pc := 27) hx hb dX3_get_27 rfl (lv_at hl 0 rfl) ?_
        refine lv_iload_n (pc := 28) hx hb dX3_get_28 rfl (lv_at hl 1 rfl) ?_
        refine lv_iload_n (pc := 29) hx hb dX3_get_29 rfl (lv_at hl 1 rfl) ?_
        refine lv_iconst (pc := 30) (v := 4) hx hb dX3_get_30 (by decide) ?_
        refine lv_iload_n (pc := 31) hx hb dX3_get_31 rfl (lv_at hl 2 rfl) ?_
        refine nf_callq (pc := 32) (va_runV (As := [.int id, .int id, .int 4, .int key]) (rest := []) hC.1 (ct_X3_sendFind (tz := id) (ak := id) (pu := 4) (ky := key) (sz := sz) hs hsz hmp) (cwV 4 hC.1.2.2.2.2 (gd_V wM_X3_54 wi_X3_sendFind wsel_X3_sendFind wini_X3 wcode_X3_sendFind) rfl rfl rfl (by decide +kernel) ⟨by decide, by decide⟩) (nf_preV hC hM rfl rfl) rfl rfl hl.1 rfl (lv_room (Nat.le_of_ble_eq_true rfl)) dX3_get_32 ⟨Nat.le_refl _, Nat.le_refl _⟩) hM (fun H locs hM => ?_)
        refine W.eq (g2 := F0 m 35 ls [.ref (ad 8 (mp sz))]) rfl ?_
        refine lv_pop (pc := 35) hx hb dX3_get_35 rfl ?_
        refine lv_iconst (pc := 36) (v := 1) hx hb dX3_get_36 (by decide) ?_
        exact hret _ _ _ _ _ _ _ _ (by simp [nb_I, xs_getB, hq1, h3, h4]) (by simp [xs_getI, xs_getB, hq1, h3, h4] <;> rfl) (by simp [xs_getJ, xs_getB, hq1, h3, h4] <;> rfl) rfl hM dX3_get_37
      · have h4 := nb_1 h4
        refine lv_iconst (pc := 25) (v := 0) hx hb dX3_get_25 (by decide) ?_
        exact hret _ _ _ _ _ _ _ _ (by simp [nb_I, xs_getB, hq1, h3, h4]) (by simp [xs_getI, xs_getB, hq1, h3, h4] <;> rfl) (by simp [xs_getJ, xs_getB, hq1, h3, h4] <;> rfl) rfl hM dX3_get_26
set_option maxHeartbeats 4000000 in
set_option maxRecDepth 100000 in
theorem ct_X3_put {id key v : Int32} (hn : I 0 0 1 = nI nn) (hnn : nn ≤ 12) (hs : I 3 0 1 = nI sz) (hsz0 : sz ≤ 20) (hmp : ∀ j, j < 21 → mp j < 21) (hk : I 0 0 3 = nI kc) (hkk : kc ≤ 10) : nf_Ti l yX3_put wsX3_put 2 48 D vwCl (xT cs) Bs (xS cs nn) ad [.ref (ad 0 0), .int id, .int key, .int v] I J (xP nn mp) (nb_I (xs_putB I nn kc id key)) (xs_putI I nn kc (mp sz) id key) (xs_putJ I J nn kc (mp sz) id key v) (xP nn mp) := by
  refine nf_enterz (cc := cX3_put) (maxL := 5) (by decide) rfl (Nat.le_of_ble_eq_true rfl) ?_
  intro p e s m below meth c ls Q hC hM hl hret
  have hx := hC.1.1
  have hb := hC.1.2.1
  have hl : lv_has ls 5 [(0, .ref (ad 0 0)), (1, .int id), (2, .int key), (3, .int v)] := hl
  have hinX0 : ∀ w ∈ u_ws RX0 TX0 9, w ∈ wsX3_put := fun w h => List.mem_cons_of_mem _ (inX0 w h)
  have hinX3 : ∀ w ∈ u_ws RX3 TX3 5, w ∈ wsX3_put := fun w h => List.mem_cons_of_mem _ (inX3 w h)
  refine lv_aload_n (pc := 0) hx hb dX3_put_0 rfl (lv_at hl 0 rfl) ?_
  refine lv_iload_n (pc := 1) hx hb dX3_put_1 rfl (lv_at hl 1 rfl) ?_
  refine nf_callq (pc := 2) (va_runV (As := [.int id]) (rest := []) hC.1 (ct_X3_memberWith (id := id) hn hnn) (cwV 1 hC.1.2.2.2.2 (gd_V wM_X3_47 wi_X3_memberWith wsel_X3_memberWith wini_X3 wcode_X3_memberWith) rfl rfl rfl (by decide +kernel) ⟨by decide, by decide⟩) (nf_preV hC hM rfl rfl) rfl rfl hl.1 rfl (lv_room (Nat.le_of_ble_eq_true rfl)) dX3_put_2 ⟨Nat.le_refl _, Nat.le_refl _⟩) hM (fun H locs hM => ?_)
  cases hq1 : xs_memb I nn id with
  | none =>
    simp only [hq1, Option.map_none, va_rf]
    refine lv_ifnullN (pc := 5) (tgt := 33) hx hb dX3_put_5 (by decide) ?_
    refine lv_iconst (pc := 33) (v := 0) hx hb dX3_put_33 (by decide) ?_
    exact hret _ _ _ _ _ _ _ _ (by simp [nb_I, xs_putB, hq1]) (by simp [xs_putI, hq1] <;> rfl) (by simp [xs_putJ, hq1] <;> rfl) rfl hM dX3_put_34
  | some i2 =>
    simp only [hq1, Option.map_some, va_rf]
    have hq1l := xs_memb_lt hq1
    refine lv_ifnull (pc := 5) hx hb dX3_put_5 ?_
    refine lv_iload_n (pc := 8) hx hb dX3_put_8 rfl (lv_at hl 2 rfl) ?_
    refine nf_calli (pc := 9) (va_runS (As := [.int key]) (rest := []) hC.1 (ct_X3_isId) (cwS 1 hC.1.2.2.2.2 (gd_S wM_X3_33 wst_X3_isId wini_X3 wcode_X3_isId) rfl rfl rfl (by decide +kernel) ⟨by decide, by decide⟩) (nf_preS hC hM) rfl rfl hl.1 rfl (lv_room (Nat.le_of_ble_eq_true rfl)) dX3_put_9 ⟨Nat.le_refl _, Nat.le_refl _⟩) hM (fun H locs hM => ?_)
    refine lv_if_eq (pc := 12) (tgt := 33) hx hb dX3_put_12 (by decide) (fun h3 => ?_) (fun h3 => ?_)
    · have h3 := nb_0 h3
      refine lv_iconst (pc := 33) (v := 0) hx hb dX3_put_33 (by decide) ?_
      exact hret _ _ _ _ _ _ _ _ (by simp [nb_I, xs_putB, hq1, h3]) (by simp [xs_putI, hq1, h3] <;> rfl) (by simp [xs_putJ, hq1, h3] <;> rfl) rfl hM dX3_put_34
    · have h3 := nb_1 h3
      refine lv_aload_n (pc := 15) hx hb dX3_put_15 rfl (lv_at hl 0 rfl) ?_
      refine nf_getr (pc := 16) hC hinX3 hM rfl rfl 4 (by decide) (List.mem_cons_of_mem _ wF_X3_29) rfl dX3_put_16 ?_
      refine nf_calli (pc := 19) (va_runV (As := []) (rest := []) hC.1 (ct_X2_isFull) (cwV 0 hC.1.2.2.2.2 (gd_V wM_X3_50 wi_X2_isFull wsel_X2_isFull wini_X2 wcode_X2_isFull) rfl rfl rfl (by decide +kernel) ⟨by decide, by decide⟩) (nf_preV hC hM rfl rfl) rfl rfl hl.1 rfl (lv_room (Nat.le_of_ble_eq_true rfl)) dX3_put_19 ⟨Nat.le_refl _, Nat.le_refl _⟩) hM (fun H locs hM => ?_)
      refine lv_if_ne (pc := 22) (tgt := 33) hx hb dX3_put_22 (by decide) (fun h4 => ?_) (fun h4 => ?_)
      · have h4 := nb_1 h4
        refine lv_iconst (pc := 33) (v := 0) hx hb dX3_put_33 (by decide) ?_
        exact hret _ _ _ _ _ _ _ _ (by simp [nb_I, xs_putB, hq1, h3, h4]) (by simp [xs_putI, hq1, h3, h4] <;> rfl) (by simp [xs_putJ, hq1, h3, h4] <;> rfl) rfl hM dX3_put_34
      · have h4 := nb_0 h4
        have hsz : sz < 20 := xs_full_n hs (by omega) h4
        have hon := hmp sz (by omega)
        refine lv_aload_n (pc := 25) hx hb dX3_put_25 rfl (lv_at hl 0 rfl) ?_
        refine lv_iload_n (pc := 26) hx hb dX3_put_26 rfl (lv_at hl 2 rfl) ?_
        refine nf_calli (pc := 27) (va_runV (As := [.int key]) (rest := []) hC.1 (ct_X3_takeKey (key := key) hk hkk) (cwV 1 hC.1.2.2.2.2 (gd_V wM_X3_77 wi_X3_takeKey wsel_X3_takeKey wini_X3 wcode_X3_takeKey) rfl rfl rfl (by decide +kernel) ⟨by decide, by decide⟩) (nf_preV hC hM rfl rfl) rfl rfl hl.1 rfl (lv_room (Nat.le_of_ble_eq_true rfl)) dX3_put_27 ⟨Nat.le_refl _, Nat.le_refl _⟩) hM (fun H locs hM => ?_)
        refine lv_if_ne (pc := 30) (tgt := 35) hx hb dX3_put_30 (by decide) (fun h5 => ?_) (fun h5 => ?_)
        · have h5 := nb_1 h5
          refine lv_aload_n (pc := 35) hx hb dX3_put_35 rfl (lv_at hl 0 rfl) ?_
          refine lv_iload_n (pc := 36) hx hb dX3_put_36 rfl (lv_at hl 1 rfl) ?_
          refine lv_iload_n (pc := 37) hx hb dX3_put_37 rfl (lv_at hl 1 rfl) ?_
          refine lv_iconst (pc := 38) (v := 3) hx hb dX3_put_38 (by decide) ?_
          refine lv_iload_n (pc := 39) hx hb dX3_put_39 rfl (lv_at hl 2 rfl) ?_
          refine nf_callq (pc := 40) (va_runV (As := [.int id, .int id, .int 3, .int key]) (rest := []) hC.1 (ct_X3_sendFind (tz := id) (ak := id) (pu := 3) (ky := key) (sz := sz) (by simpa [xs_tkI_row] using hs) hsz hmp) (cwV 4 hC.1.2.2.2.2 (gd_V wM_X3_54 wi_X3_sendFind wsel_X3_sendFind wini_X3 wcode_X3_sendFind) rfl rfl rfl (by decide +kernel) ⟨by decide, by decide⟩) (nf_preV hC hM rfl rfl) rfl rfl hl.1 rfl (lv_room (Nat.le_of_ble_eq_true rfl)) dX3_put_40 ⟨Nat.le_refl _, Nat.le_refl _⟩) hM (fun H locs hM => ?_)
          refine W.eq (g2 := F0 m 43 ls [.ref (ad 8 (mp sz))]) rfl ?_
          refine lv_astore (pc := 43) (lv' := [(4, .ref (ad 8 (mp sz))), (0, .ref (ad 0 0)), (1, .int id), (2, .int key), (3, .int v)]) hx hb dX3_put_43 hl (by decide) rfl (fun ls hl => ?_)
          refine lv_aload (pc := 45) hx hb dX3_put_45 (lv_at hl 0 rfl) ?_
          refine lv_iload_n (pc := 47) hx hb dX3_put_47 rfl (lv_at hl 4 rfl) ?_
          refine lv_i2l (pc := 48) hx hb dX3_put_48 rfl ?_
          refine nf_putl (pc := 49) hC hinX0 tyX0 tyX0_ok nmX0 hM (xS_8 (by first | assumption | omega)) rfl 8 (by decide) (List.mem_cons_of_mem _ wF_X3_80) rfl (by decide +kernel) rfl dX3_put_49 (fun H locs hM => ?_)
          refine lv_iconst (pc := 52) (v := 1) hx hb dX3_put_52 (by decide) ?_
          exact hret _ _ _ _ _ _ _ _ (by simp [nb_I, xs_putB, hq1, h3, h4, h5]) (by simp [xs_putI, hq1, h3, h4, h5] <;> rfl) (by simp [xs_putJ, hq1, h3, h4, h5] <;> rfl) rfl hM dX3_put_53
        · have h5 := nb_0 h5
          refine lv_iconst (pc := 33) (v := 0) hx hb dX3_put_33 (by decide) ?_
          exact hret _ _ _ _ _ _ _ _ (by simp [nb_I, xs_putB, hq1, h3, h4, h5]) (by simp [xs_putI, hq1, h3, h4, h5] <;> rfl) (by simp [xs_putJ, hq1, h3, h4, h5] <;> rfl) rfl hM dX3_put_34
end XG
