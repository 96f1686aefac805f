/-! The calls that only read. -/
section XE
variable {l : Launch} {D : va_G} {cs : Nat → ClassId} {Bs nn sz kc : Nat} {ad : nf_A} {I : nf_I} {J : nf_J} {mp : Nat → Nat}
set_option maxHeartbeats 4000000 in
set_option maxRecDepth 100000 in
theorem ct_X3_flying   : nf_Ti l yX3_flying wsX3_flying 0 0 D vwCl (xT cs) Bs (xS cs nn) ad [.ref (ad 0 0)] I J (xP nn mp) (I 3 0 1) I J (xP nn mp) := by
  refine nf_enteri (cc := cX3_flying) (maxL := 1) (by decide) rfl (Nat.le_of_ble_eq_true rfl) ?_
  intro p e s m below meth c ls Q hC hM hl hret
  have hx := hC.1.1
  have hb := hC.1.2.1
  have hl : lv_has ls 1 [(0, .ref (ad 0 0))] := hl
  have hinX2 : ∀ w ∈ u_ws RX2 TX2 2, w ∈ wsX3_flying := fun w h => List.mem_cons_of_mem _ (inX2 w h)
  have hinX3 : ∀ w ∈ u_ws RX3 TX3 5, w ∈ wsX3_flying := fun w h => List.mem_cons_of_mem _ (inX3 w h)
  refine lv_aload_n (pc := 0) hx hb dX3_flying_0 rfl (lv_at hl 0 rfl) ?_
  refine nf_getr (pc := 1) hC hinX3 hM rfl rfl 4 (by decide) (List.mem_cons_of_mem _ wF_X3_29) rfl dX3_flying_1 ?_
  refine nf_geti (pc := 4) hC hinX2 hM rfl rfl 1 (by decide) (List.mem_cons_of_mem _ wF_X3_88) rfl dX3_flying_4 ?_
  exact hret _ _ _ _ _ _ _ _ rfl rfl rfl rfl hM dX3_flying_7
set_option maxHeartbeats 4000000 in
set_option maxRecDepth 100000 in
theorem ct_X3_message {k : Int32} (hs : I 3 0 1 = nI sz) (hsz : sz ≤ 20) (hmp : ∀ j, j < 21 → mp j < 21) : nf_Ti l yX3_message wsX3_message 1 21 D vwCl (xT cs) Bs (xS cs nn) ad [.ref (ad 0 0), .int k] I J (xP nn mp) (xs_msg I mp k) I J (xP nn mp) := by
  refine nf_enteri (cc := cX3_message) (maxL := 3) (by decide) rfl (Nat.le_of_ble_eq_true rfl) ?_
  intro p e s m below meth c ls Q hC hM hl hret
  have hx := hC.1.1
  have hb := hC.1.2.1
  have hl : lv_has ls 3 [(0, .ref (ad 0 0)), (1, .int k)] := hl
  have hinX0 : ∀ w ∈ u_ws RX0 TX0 9, w ∈ wsX3_message := fun w h => List.mem_cons_of_mem _ (inX0 w h)
  have hinX3 : ∀ w ∈ u_ws RX3 TX3 5, w ∈ wsX3_message := fun w h => List.mem_cons_of_mem _ (inX3 w h)
  refine lv_aload_n (pc := 0) hx hb dX3_message_0 rfl (lv_at hl 0 rfl) ?_
  refine nf_getr (pc := 1) hC hinX3 hM rfl rfl 4 (by decide) (List.mem_cons_of_mem _ wF_X3_29) rfl dX3_message_1 ?_
  refine lv_iload_n (pc := 4) hx hb dX3_message_4 rfl (lv_at hl 1 rfl) ?_
  refine nf_callq (pc := 5) (va_runV (As := [.int k]) (rest := []) hC.1 (ct_X2_at (k := k) hs (by omega) hmp) (cwV 1 hC.1.2.2.2.2 (gd_V wM_X3_91 wi_X2_at wsel_X2_at wini_X2 wcode_X2_at) rfl rfl rfl (by decide +kernel) ⟨by decide, by decide⟩) (nf_preV hC hM rfl rfl) rfl rfl hl.1 rfl (lv_room (Nat.le_of_ble_eq_true rfl)) dX3_message_5 ⟨Nat.le_refl _, Nat.le_refl _⟩) hM (fun H locs hM => ?_)
  cases hq1 : xs_at I mp k with
  | none =>
    simp only [hq1, Option.map_none, va_rf]
    refine lv_astore_nN (pc := 8) (lv' := [(2, .null), (0, .ref (ad 0 0)), (1, .int k)]) hx hb dX3_message_8 rfl hl (by decide) rfl (fun ls hl => ?_)
    refine lv_aload_nN (pc := 9) hx hb dX3_message_9 rfl (lv_at hl 0 rfl) ?_
    refine lv_ifnonnullN (pc := 10) hx hb dX3_message_10 ?_
    refine lv_iconst (pc := 13) (v := -1) hx hb dX3_message_13 (by decide) ?_
    refine lv_goto (pc := 14) (tgt := 30) hx hb dX3_message_14 (by decide) ?_
    exact hret _ _ _ _ _ _ _ _ (by simp [nb_I, xs_msg, hq1]) rfl rfl rfl hM dX3_message_30
  | some i2 =>
    simp only [hq1, Option.map_some, va_rf]
    have hq1l := xs_at_lt hs (by omega) hmp hq1
    refine lv_astore_n (pc := 8) (lv' := [(2, .ref (ad 8 i2)), (0, .ref (ad 0 0)), (1, .int k)]) hx hb dX3_message_8 rfl hl (by decide) rfl (fun ls hl => ?_)
    refine lv_aload_n (pc := 9) hx hb dX3_message_9 rfl (lv_at hl 0 rfl) ?_
    refine lv_ifnonnull (pc := 10) (tgt := 17) hx hb dX3_message_10 (by decide) ?_
    refine lv_aload_n (pc := 17) hx hb dX3_message_17 rfl (lv_at hl 0 rfl) ?_
    refine nf_geti (pc := 18) hC hinX0 hM (xS_8 (by first | assumption | omega)) rfl 0 (by decide) (List.mem_cons_of_mem _ wF_X3_95) rfl dX3_message_18 ?_
    refine lv_sipush (pc := 21) (v := 256) hx hb dX3_message_21 (by decide) ?_
    refine lv_imul (pc := 24) hx hb dX3_message_24 ?_
    refine lv_aload_n (pc := 25) hx hb dX3_message_25 rfl (lv_at hl 0 rfl) ?_
    refine nf_geti (pc := 26) hC hinX0 hM (xS_8 (by first | assumption | omega)) rfl 1 (by decide) (List.mem_cons_of_mem _ wF_X3_98) rfl dX3_message_26 ?_
    refine lv_iadd (pc := 29) hx hb dX3_message_29 ?_
    exact hret _ _ _ _ _ _ _ _ (by simp [nb_I, xs_msg, hq1]) rfl rfl rfl hM dX3_message_30
set_option maxHeartbeats 4000000 in
set_option maxRecDepth 100000 in
theorem ct_X3_successor {id : Int32} (hn : I 0 0 1 = nI nn) (hnn : nn ≤ 12) : nf_Ti l yX3_successor wsX3_successor 2 44 D vwCl (xT cs) Bs (xS cs nn) ad [.ref (ad 0 0), .int id] I J (xP nn mp) (xs_rd I nn id 1) I J (xP nn mp) := by
  refine nf_enteri (cc := cX3_successor) (maxL := 3) (by decide) rfl (Nat.le_of_ble_eq_true rfl) ?_
  intro p e s m below meth c ls Q hC hM hl hret
  have hx := hC.1.1
  have hb := hC.1.2.1
  have hl : lv_has ls 3 [(0, .ref (ad 0 0)), (1, .int id)] := hl
  have hinX1 : ∀ w ∈ u_ws RX1 TX1 7, w ∈ wsX3_successor := fun w h => List.mem_cons_of_mem _ (inX1 w h)
  refine lv_aload_n (pc := 0) hx hb dX3_successor_0 rfl (lv_at hl 0 rfl) ?_
  refine lv_iload_n (pc := 1) hx hb dX3_successor_1 rfl (lv_at hl 1 rfl) ?_
  refine nf_callq (pc := 2) (va_runV (As := [.int id]) (rest := []) hC.1 (ct_X3_memberWith (id := id) hn hnn) (cwV 1 hC.1.2.2.2.2 (gd_V wM_X3_47 wi_X3_memberWith wsel_X3_memberWith wini_X3 wcode_X3_memberWith) rfl rfl rfl (by decide +kernel) ⟨by decide, by decide⟩) (nf_preV hC hM rfl rfl) rfl rfl hl.1 rfl (lv_room (Nat.le_of_ble_eq_true rfl)) dX3_successor_2 ⟨Nat.le_refl _, Nat.le_refl _⟩) hM (fun H locs hM => ?_)
  cases hq1 : xs_memb I nn id with
  | none =>
    simp only [hq1, Option.map_none, va_rf]
    refine lv_astore_nN (pc := 5) (lv' := [(2, .null), (0, .ref (ad 0 0)), (1, .int id)]) hx hb dX3_successor_5 rfl hl (by decide) rfl (fun ls hl => ?_)
    refine lv_aload_nN (pc := 6) hx hb dX3_successor_6 rfl (lv_at hl 0 rfl) ?_
    refine lv_ifnonnullN (pc := 7) hx hb dX3_successor_7 ?_
    refine lv_iconst (pc := 10) (v := -1) hx hb dX3_successor_10 (by decide) ?_
    refine lv_goto (pc := 11) (tgt := 18) hx hb dX3_successor_11 (by decide) ?_
    exact hret _ _ _ _ _ _ _ _ (by simp [nb_I, xs_rd, hq1]) rfl rfl rfl hM dX3_successor_18
  | some i2 =>
    simp only [hq1, Option.map_some, va_rf]
    have hq1l := xs_memb_lt hq1
    refine lv_astore_n (pc := 5) (lv' := [(2, .ref (ad 5 i2)), (0, .ref (ad 0 0)), (1, .int id)]) hx hb dX3_successor_5 rfl hl (by decide) rfl (fun ls hl => ?_)
    refine lv_aload_n (pc := 6) hx hb dX3_successor_6 rfl (lv_at hl 0 rfl) ?_
    refine lv_ifnonnull (pc := 7) (tgt := 14) hx hb dX3_successor_7 (by decide) ?_
    refine lv_aload_n (pc := 14) hx hb dX3_successor_14 rfl (lv_at hl 0 rfl) ?_
    refine nf_geti (pc := 15) hC hinX1 hM (xS_5 (by first | assumption | omega)) rfl 1 (by decide) (List.mem_cons_of_mem _ wF_X3_41) rfl dX3_successor_15 ?_
    exact hret _ _ _ _ _ _ _ _ (by simp [nb_I, xs_rd, hq1]) rfl rfl rfl hM dX3_successor_18
set_option maxHeartbeats 4000000 in
set_option maxRecDepth 100000 in
theorem ct_X3_predecessor {id : Int32} (hn : I 0 0 1 = nI nn) (hnn : nn ≤ 12) : nf_Ti l yX3_predecessor wsX3_predecessor 2 44 D vwCl (xT cs) Bs (xS cs nn) ad [.ref (ad 0 0), .int id] I J (xP nn mp) (xs_rd I nn id 2) I J (xP nn mp) := by
  refine nf_enteri (cc := cX3_predecessor) (maxL := 3) (by decide) rfl (Nat.le_of_ble_eq_true rfl) ?_
  intro p e s m below meth c ls Q hC hM hl hret
  have hx := hC.1.1
  have hb := hC.1.2.1
  have hl : lv_has ls 3 [(0, .ref (ad 0 0)), (1, .int id)] := hl
  have hinX1 : ∀ w ∈ u_ws RX1 TX1 7, w ∈ wsX3_predecessor := fun w h => List.mem_cons_of_mem _ (inX1 w h)
  refine lv_aload_n (pc := 0) hx hb dX3_predecessor_0 rfl (lv_at hl 0 rfl) ?_
  refine lv_iload_n (pc := 1) hx hb dX3_predecessor_1 rfl (lv_at hl 1 rfl) ?_
  refine nf_callq (pc := 2) (va_runV (As := [.int id]) (rest := []) hC.1 (ct_X3_memberWith (id := id) hn hnn) (cwV 1 hC.1.2.2.2.2 (gd_V wM_X3_47 wi_X3_memberWith wsel_X3_memberWith wini_X3 wcode_X3_memberWith) rfl rfl rfl (by decide +kernel) ⟨by decide, by decide⟩) (nf_preV hC hM rfl rfl) rfl rfl hl.1 rfl (lv_room (Nat.le_of_ble_eq_true rfl)) dX3_predecessor_2 ⟨Nat.le_refl _, Nat.le_refl _⟩) hM (fun H locs hM => ?_)
  cases hq1 : xs_memb I nn id with
  | none =>
    simp only [hq1, Option.map_none, va_rf]
    refine lv_astore_nN (pc := 5) (lv' := [(2, .null), (0, .ref (ad 0 0)), (1, .int id)]) hx hb dX3_predecessor_5 rfl hl (by decide) rfl (fun ls hl => ?_)
    refine lv_aload_nN (pc := 6) hx hb dX3_predecessor_6 rfl (lv_at hl 0 rfl) ?_
    refine lv_ifnonnullN (pc := 7) hx hb dX3_predecessor_7 ?_
    refine lv_iconst (pc := 10) (v := -1) hx hb dX3_predecessor_10 (by decide) ?_
    refine lv_goto (pc := 11) (tgt := 18) hx hb dX3_predecessor_11 (by decide) ?_
    exact hret _ _ _ _ _ _ _ _ (by simp [nb_I, xs_rd, hq1]) rfl rfl rfl hM dX3_predecessor_18
  | some i2 =>
    simp only [hq1, Option.map_some, va_rf]
    have hq1l := xs_memb_lt hq1
    refine lv_astore_n (pc := 5) (lv' := [(2, .ref (ad 5 i2)), (0, .ref (ad 0 0)), (1, .int id)]) hx hb dX3_predecessor_5 rfl hl (by decide) rfl (fun ls hl => ?_)
    refine lv_aload_n (pc := 6) hx hb dX3_predecessor_6 rfl (lv_at hl 0 rfl) ?_
    refine lv_ifnonnull (pc := 7) (tgt := 14) hx hb dX3_predecessor_7 (by decide) ?_
    refine lv_aload_n (pc := 14) hx hb dX3_predecessor_14 rfl (lv_at hl 0 rfl) ?_
    refine nf_geti (pc := 15) hC hinX1 hM (xS_5 (by first | assumption | omega)) rfl 2 (by decide) (List.mem_cons_of_mem _ wF_X3_101) rfl dX3_predecessor_15 ?_
    exact hret _ _ _ _ _ _ _ _ (by simp [nb_I, xs_rd, hq1]) rfl rfl rfl hM dX3_predecessor_18
set_option maxHeartbeats 4000000 in
set_option maxRecDepth 100000 in
theorem ct_X3_finger {id j : Int32} (hn : I 0 0 1 = nI nn) (hnn : nn ≤ 12) : nf_Ti l yX3_finger wsX3_finger 2 44 D vwCl (xT cs) Bs (xS cs nn) ad [.ref (ad 0 0), .int id, .int j] I J (xP nn mp) (xs_fgr I nn id j) I J (xP nn mp) := by
  refine nf_enteri (cc := cX3_finger) (maxL := 4) (by decide) rfl (Nat.le_of_ble_eq_true rfl) ?_
  intro p e s m below meth c ls Q hC hM hl hret
  have hx := hC.1.1
  have hb := hC.1.2.1
  have hl : lv_has ls 4 [(0, .ref (ad 0 0)), (1, .int id), (2, .int j)] := hl
  have hinX1 : ∀ w ∈ u_ws RX1 TX1 7, w ∈ wsX3_finger := fun w h => List.mem_cons_of_mem _ (inX1 w h)
  refine lv_aload_n (pc := 0) hx hb dX3_finger_0 rfl (lv_at hl 0 rfl) ?_
  refine lv_iload_n (pc := 1) hx hb dX3_finger_1 rfl (lv_at hl 1 rfl) ?_
  refine nf_callq (pc := 2) (va_runV (As := [.int id]) (rest := []) hC.1 (ct_X3_memberWith (id := id) hn hnn) (cwV 1 hC.1.2.2.2.2 (gd_V wM_X3_47 wi_X3_memberWith wsel_X3_memberWith wini_X3 wcode_X3_memberWith) rfl rfl rfl (by decide +kernel) ⟨by decide, by decide⟩) (nf_preV hC hM rfl rfl) rfl rfl hl.1 rfl (lv_room (Nat.le_of_ble_eq_true rfl)) dX3_finger_2 ⟨Nat.le_refl _, Nat.le_refl _⟩) hM (fun H locs hM => ?_)
  cases hq1 : xs_memb I nn id with
  | none =>
    simp only [hq1, Option.map_none, va_rf]
    refine lv_astore_nN (pc := 5) (lv' := [(3, .null), (0, .ref (ad 0 0)), (1, .int id), (2, .int j)]) hx hb dX3_finger_5 rfl hl (by decide) rfl (fun ls hl => ?_)
    refine lv_aload_nN (pc := 6) hx hb dX3_finger_6 rfl (lv_at hl 0 rfl) ?_
    refine lv_ifnullN (pc := 7) (tgt := 17) hx hb dX3_finger_7 (by decide) ?_
    refine lv_iconst (pc := 17) (v := -1) hx hb dX3_finger_17 (by decide) ?_
    refine lv_goto (pc := 18) (tgt := 27) hx hb dX3_finger_18 (by decide) ?_
    exact hret _ _ _ _ _ _ _ _ (by simp [xs_fgr, hq1]) rfl rfl rfl hM dX3_finger_27
  | some i2 =>
    simp only [hq1, Option.map_some, va_rf]
    have hq1l := xs_memb_lt hq1
    refine lv_astore_n (pc := 5) (lv' := [(3, .ref (ad 5 i2)), (0, .ref (ad 0 0)), (1, .int id), (2, .int j)]) hx hb dX3_finger_5 rfl hl (by decide) rfl (fun ls hl => ?_)
    refine lv_aload_n (pc := 6) hx hb dX3_finger_6 rfl (lv_at hl 0 rfl) ?_
    refine lv_ifnull (pc := 7) hx hb dX3_finger_7 ?_
    refine lv_iload_n (pc := 10) hx hb dX3_finger_10 rfl (lv_at hl 3 rfl) ?_
    refine nf_calli (pc := 11) (va_runS (As := [.int j]) (rest := []) hC.1 (ct_X3_isFinger) (cwS 1 hC.1.2.2.2.2 (gd_S wM_X3_67 wst_X3_isFinger wini_X3 wcode_X3_isFinger) rfl rfl rfl (by decide +kernel) ⟨by decide, by decide⟩) (nf_preS hC hM) rfl rfl hl.1 rfl (lv_room (Nat.le_of_ble_eq_true rfl)) dX3_finger_11 ⟨Nat.le_refl _, Nat.le_refl _⟩) hM (fun H locs hM => ?_)
    refine lv_if_ne (pc := 14) (tgt := 21) hx hb dX3_finger_14 (by decide) (fun h3 => ?_) (fun h3 => ?_)
    · have h3 := nb_1 h3
      obtain ⟨fn, hfn, hfe⟩ := xs_isFinger_ix h3
      refine lv_aload_n (pc := 21) hx hb dX3_finger_21 rfl (lv_at hl 0 rfl) ?_
      refine nf_getr (pc := 22) hC hinX1 hM (xS_5 (by first | assumption | omega)) rfl 3 (by decide) (List.mem_cons_of_mem _ wF_X3_104) rfl dX3_finger_22 ?_
      refine lv_iload_n (pc := 25) hx hb dX3_finger_25 rfl (lv_at hl 3 rfl) ?_
      refine nf_iald (pc := 26) hC hM 0 (xS_6 (by first | assumption | omega)) rfl fn hfe (by omega) (by decide) dX3_finger_26 ?_
      exact hret _ _ _ _ _ _ _ _ (by unfold xs_fgr; rw [hq1]; simp only; rw [if_neg (by rw [h3]; decide), hfe, nI_clamp (by omega)]) rfl rfl rfl hM dX3_finger_27
    · have h3 := nb_0 h3
      refine lv_iconst (pc := 17) (v := -1) hx hb dX3_finger_17 (by decide) ?_
      refine lv_goto (pc := 18) (tgt := 27) hx hb dX3_finger_18 (by decide) ?_
      exact hret _ _ _ _ _ _ _ _ (by simp [xs_fgr, hq1, h3]) rfl rfl rfl hM dX3_finger_27
set_option maxHeartbeats 4000000 in
set_option maxRecDepth 100000 in
theorem ct_X3_entry {id key : Int32} (hn : I 0 0 1 = nI nn) (hnn : nn ≤ 12) (hk : I 0 0 3 = nI kc) (hkk : kc ≤ 10) : nf_Tl l yX3_entry wsX3_entry 2 45 D vwCl (xT cs) Bs (xS cs nn) ad [.ref (ad 0 0), .int id, .int key] I J (xP nn mp) (xs_ety I J nn kc id key) I J (xP nn mp) := by
  refine nf_enterl (cc := cX3_entry) (maxL := 4) (by decide) rfl (Nat.le_of_ble_eq_true rfl) ?_
  intro p e s m below meth c ls Q hC hM hl hret
  have hx := hC.1.1
  have hb := hC.1.2.1
  have hl : lv_has ls 4 [(0, .ref (ad 0 0)), (1, .int id), (2, .int key)] := hl
  refine lv_aload_n (pc := 0) hx hb dX3_entry_0 rfl (lv_at hl 0 rfl) ?_
  refine lv_iload_n (pc := 1) hx hb dX3_entry_1 rfl (lv_at hl 1 rfl) ?_
  refine nf_callq (pc := 2) (va_runV (As := [.int id]) (rest := []) hC.1 (ct_X3_memberWith (id := id) hn hnn) (cwV 1 hC.1.2.2.2.2 (gd_V wM_X3_47 wi_X3_memberWith wsel_X3_memberWith wini_X3 wcode_X3_memberWith) rfl rfl rfl (by decide +kernel) ⟨by decide, by decide⟩) (nf_preV hC hM rfl rfl) rfl rfl hl.1 rfl (lv_room (Nat.le_of_ble_eq_true rfl)) dX3_entry_2 ⟨Nat.le_refl _, Nat.le_refl _⟩) hM (fun H locs hM => ?_)
  cases hq1 : xs_memb I nn id with
  | none =>
    simp only [hq1, Option.map_none, va_rf]
    refine lv_astore_nN (pc := 5) (lv' := [(3, .null), (0, .ref (ad 0 0)), (1, .int id), (2, .int key)]) hx hb dX3_entry_5 rfl hl (by decide) rfl (fun ls hl => ?_)
    refine lv_aload_nN (pc := 6) hx hb dX3_entry_6 rfl (lv_at hl 0 rfl) ?_
    refine lv_ifnonnullN (pc := 7) hx hb dX3_entry_7 ?_
    refine lv_ldc2 (pc := 10) (v := 4294967296) hx hb hC.1.2.2.2.1 (hC.1.2.2.2.2 _ (List.mem_cons_of_mem _ wC_X3_107)) dX3_entry_10 ?_
    refine lv_goto (pc := 13) (tgt := 22) hx hb dX3_entry_13 (by decide) ?_
    exact hret _ _ _ _ _ _ _ _ (by simp [nb_I, xs_ety, hq1]) rfl rfl rfl hM dX3_entry_22
  | some i2 =>
    simp only [hq1, Option.map_some, va_rf]
    have hq1l := xs_memb_lt hq1
    refine lv_astore_n (pc := 5) (lv' := [(3, .ref (ad 5 i2)), (0, .ref (ad 0 0)), (1, .int id), (2, .int key)]) hx hb dX3_entry_5 rfl hl (by decide) rfl (fun ls hl => ?_)
    refine lv_aload_n (pc := 6) hx hb dX3_entry_6 rfl (lv_at hl 0 rfl) ?_
    refine lv_ifnonnull (pc := 7) (tgt := 16) hx hb dX3_entry_7 (by decide) ?_
    refine lv_aload_n (pc := 16) hx hb dX3_entry_16 rfl (lv_at hl 1 rfl) ?_
    refine lv_aload_n (pc := 17) hx hb dX3_entry_17 rfl (lv_at hl 0 rfl) ?_
    refine lv_iload_n (pc := 18) hx hb dX3_entry_18 rfl (lv_at hl 3 rfl) ?_
    refine nf_calll (pc := 19) (va_runV (As := [.ref (ad 5 i2), .int key]) (rest := []) hC.1 (ct_X3_valueAt (i := i2) (key := key) hk hkk (by first | assumption | omega)) (cwV 2 hC.1.2.2.2.2 (gd_V wM_X3_109 wi_X3_valueAt wsel_X3_valueAt wini_X3 wcode_X3_valueAt) rfl rfl rfl (by decide +kernel) ⟨by decide, by decide⟩) (nf_preV hC hM rfl rfl) rfl rfl hl.1 rfl (lv_room (Nat.le_of_ble_eq_true rfl)) dX3_entry_19 ⟨Nat.le_refl _, Nat.le_refl _⟩) hM (fun H locs hM => ?_)
    exact hret _ _ _ _ _ _ _ _ (by simp [nb_I, xs_ety, hq1]) rfl rfl rfl hM dX3_entry_22
set_option maxHeartbeats 4000000 in
set_option maxRecDepth 100000 in
theorem ct_X3_answer {id : Int32} (hn : I 0 0 1 = nI nn) (hnn : nn ≤ 12) : nf_Tl l yX3_answer wsX3_answer 1 22 D vwCl (xT cs) Bs (xS cs nn) ad [.ref (ad 0 0), .int id] I J (xP nn mp) (xs_ans I J nn id) I J (xP nn mp) := by
  refine nf_enterl (cc := cX3_answer) (maxL := 3) (by decide) rfl (Nat.le_of_ble_eq_true rfl) ?_
  intro p e s m below meth c ls Q hC hM hl hret
  have hx := hC.1.1
  have hb := hC.1.2.1
  have hl : lv_has ls 3 [(0, .ref (ad 0 0)), (1, .int id)] := hl
  have hinX1 : ∀ w ∈ u_ws RX1 TX1 7, w ∈ wsX3_answer := fun w h => List.mem_cons_of_mem _ (inX1 w h)
  refine lv_aload_n (pc := 0) hx hb dX3_answer_0 rfl (lv_at hl 0 rfl) ?_
  refine lv_iload_n (pc := 1) hx hb dX3_answer_1 rfl (lv_at hl 1 rfl) ?_
  refine nf_callq (pc := 2) (va_runV (As := [.int id]) (rest := []) hC.1 (ct_X3_nodeWith (id := id) hn hnn) (cwV 1 hC.1.2.2.2.2 (gd_V wM_X3_44 wi_X3_nodeWith wsel_X3_nodeWith wini_X3 wcode_X3_nodeWith) rfl rfl rfl (by decide +kernel) ⟨by decide, by decide⟩) (nf_preV hC hM rfl rfl) rfl rfl hl.1 rfl (lv_room (Nat.le_of_ble_eq_true rfl)) dX3_answer_2 ⟨Nat.le_refl _, Nat.le_refl _⟩) hM (fun H locs hM => ?_)
  cases hq1 : xs_node I nn id with
  | none =>
    simp only [hq1, Option.map_none, va_rf]
    refine lv_astore_nN (pc := 5) (lv' := [(2, .null), (0, .ref (ad 0 0)), (1, .int id)]) hx hb dX3_answer_5 rfl hl (by decide) rfl (fun ls hl => ?_)
    refine lv_aload_nN (pc := 6) hx hb dX3_answer_6 rfl (lv_at hl 0 rfl) ?_
    refine lv_ifnonnullN (pc := 7) hx hb dX3_answer_7 ?_
    refine lv_ldc2 (pc := 10) (v := 8589934592) hx hb hC.1.2.2.2.1 (hC.1.2.2.2.2 _ (List.mem_cons_of_mem _ wC_X3_117)) dX3_answer_10 ?_
    refine lv_goto (pc := 13) (tgt := 20) hx hb dX3_answer_13 (by decide) ?_
    exact hret _ _ _ _ _ _ _ _ (by simp [nb_I, xs_ans, hq1]) rfl rfl rfl hM dX3_answer_20
  | some i2 =>
    simp only [hq1, Option.map_some, va_rf]
    have hq1l := xs_node_lt hq1
    refine lv_astore_n (pc := 5) (lv' := [(2, .ref (ad 5 i2)), (0, .ref (ad 0 0)), (1, .int id)]) hx hb dX3_answer_5 rfl hl (by decide) rfl (fun ls hl => ?_)
    refine lv_aload_n (pc := 6) hx hb dX3_answer_6 rfl (lv_at hl 0 rfl) ?_
    refine lv_ifnonnull (pc := 7) (tgt := 16) hx hb dX3_answer_7 (by decide) ?_
    refine lv_aload_n (pc := 16) hx hb dX3_answer_16 rfl (lv_at hl 0 rfl) ?_
    refine nf_getl (pc := 17) hC hinX1 hM (xS_5 (by first | assumption | omega)) rfl 5 (by decide) (List.mem_cons_of_mem _ wF_X3_119) rfl dX3_answer_17 ?_
    exact hret _ _ _ _ _ _ _ _ (by simp [nb_I, xs_ans, hq1]) rfl rfl rfl hM dX3_answer_20
set_option maxHeartbeats 4000000 in
set_option maxRecDepth 100000 in
theorem ct_X3_hops {id : Int32} (hn : I 0 0 1 = nI nn) (hnn : nn ≤ 12) : nf_Ti l yX3_hops wsX3_hops 1 22 D vwCl (xT cs) Bs (xS cs nn) ad [.ref (ad 0 0), .int id] I J (xP nn mp) (xs_hps I nn id) I J (xP nn mp) := by
  refine nf_enteri (cc := cX3_hops) (maxL := 3) (by decide) rfl (Nat.le_of_ble_eq_true rfl) ?_
  intro p e s m below meth c ls Q hC hM hl hret
  have hx := hC.1.1
  have hb := hC.1.2.1
  have hl : lv_has ls 3 [(0, .ref (ad 0 0)), (1, .int id)] := hl
  have hinX1 : ∀ w ∈ u_ws RX1 TX1 7, w ∈ wsX3_hops := fun w h => List.mem_cons_of_mem _ (inX1 w h)
  refine lv_aload_n (pc := 0) hx hb dX3_hops_0 rfl (lv_at hl 0 rfl) ?_
  refine lv_iload_n (pc := 1) hx hb dX3_hops_1 rfl (lv_at hl 1 rfl) ?_
  refine nf_callq (pc := 2) (va_runV (As := [.int id]) (rest := []) hC.1 (ct_X3_nodeWith (id := id) hn hnn) (cwV 1 hC.1.2.2.2.2 (gd_V wM_X3_44 wi_X3_nodeWith wsel_X3_nodeWith wini_X3 wcode_X3_nodeWith) rfl rfl rfl (by decide +kernel) ⟨by decide, by decide⟩) (nf_preV hC hM rfl rfl) rfl rfl hl.1 rfl (lv_room (Nat.le_of_ble_eq_true rfl)) dX3_hops_2 ⟨Nat.le_refl _, Nat.le_refl _⟩) hM (fun H locs hM => ?_)
  cases hq1 : xs_node I nn id with
  | none =>
    simp only [hq1, Option.map_none, va_rf]
    refine lv_astore_nN (pc := 5) (lv' := [(2, .null), (0, .ref (ad 0 0)), (1, .int id)]) hx hb dX3_hops_5 rfl hl (by decide) rfl (fun ls hl => ?_)
    refine lv_aload_nN (pc := 6) hx hb dX3_hops_6 rfl (lv_at hl 0 rfl) ?_
    refine lv_ifnonnullN (pc := 7) hx hb dX3_hops_7 ?_
    refine lv_iconst (pc := 10) (v := -1) hx hb dX3_hops_10 (by decide) ?_
    refine lv_goto (pc := 11) (tgt := 18) hx hb dX3_hops_11 (by decide) ?_
    exact hret _ _ _ _ _ _ _ _ (by simp [nb_I, xs_hps, hq1]) rfl rfl rfl hM dX3_hops_18
  | some i2 =>
    simp only [hq1, Option.map_some, va_rf]
    have hq1l := xs_node_lt hq1
    refine lv_astore_n (pc := 5) (lv' := [(2, .ref (ad 5 i2)), (0, .ref (ad 0 0)), (1, .int id)]) hx hb dX3_hops_5 rfl hl (by decide) rfl (fun ls hl => ?_)
    refine lv_aload_n (pc := 6) hx hb dX3_hops_6 rfl (lv_at hl 0 rfl) ?_
    refine lv_ifnonnull (pc := 7) (tgt := 14) hx hb dX3_hops_7 (by decide) ?_
    refine lv_aload_n (pc := 14) hx hb dX3_hops_14 rfl (lv_at hl 0 rfl) ?_
    refine nf_geti (pc := 15) hC hinX1 hM (xS_5 (by first | assumption | omega)) rfl 6 (by decide) (List.mem_cons_of_mem _ wF_X3_122) rfl dX3_hops_15 ?_
    exact hret _ _ _ _ _ _ _ _ (by simp [nb_I, xs_hps, hq1]) rfl rfl rfl hM dX3_hops_18
set_option maxHeartbeats 4000000 in
set_option maxRecDepth 100000 in
theorem ct_X3_owner {key : Int32} (hn : I 0 0 1 = nI nn) (hnn : nn ≤ 12) : nf_Ti l yX3_owner wsX3_owner 2 45 D vwCl (xT cs) Bs (xS cs nn) ad [.ref (ad 0 0), .int key] I J (xP nn mp) (xs_own I nn key) I J (xP nn mp) := by
  refine nf_enteri (cc := cX3_owner) (maxL := 2) (by decide) rfl (Nat.le_of_ble_eq_true rfl) ?_
  intro p e s m below meth c ls Q hC hM hl hret
  have hx := hC.1.1
  have hb := hC.1.2.1
  have hl : lv_has ls 2 [(0, .ref (ad 0 0)), (1, .int key)] := hl
  refine lv_iload_n (pc := 0) hx hb dX3_owner_0 rfl (lv_at hl 1 rfl) ?_
  refine nf_calli (pc := 1) (va_runS (As := [.int key]) (rest := []) hC.1 (ct_X3_isId) (cwS 1 hC.1.2.2.2.2 (gd_S wM_X3_33 wst_X3_isId wini_X3 wcode_X3_isId) rfl rfl rfl (by decide +kernel) ⟨by decide, by decide⟩) (nf_preS hC hM) rfl rfl hl.1 rfl (lv_room (Nat.le_of_ble_eq_true rfl)) dX3_owner_1 ⟨Nat.le_refl _, Nat.le_refl _⟩) hM (fun H locs hM => ?_)
  refine lv_if_eq (pc := 4) (tgt := 15) hx hb dX3_owner_4 (by decide) (fun h1 => ?_) (fun h1 => ?_)
  · have h1 := nb_0 h1
    refine lv_iconst (pc := 15) (v := -1) hx hb dX3_owner_15 (by decide) ?_
    exact hret _ _ _ _ _ _ _ _ (by simp [nb_I, xs_own, h1]) rfl rfl rfl hM dX3_owner_16
  · have h1 := nb_1 h1
    refine lv_aload_n (pc := 7) hx hb dX3_owner_7 rfl (lv_at hl 0 rfl) ?_
    refine lv_iload_n (pc := 8) hx hb dX3_owner_8 rfl (lv_at hl 1 rfl) ?_
    refine nf_calli (pc := 9) (va_runV (As := [.int key]) (rest := []) hC.1 (ct_X3_firstUpFrom (st := key) hn hnn) (cwV 1 hC.1.2.2.2.2 (gd_V wM_X3_125 wi_X3_firstUpFrom wsel_X3_firstUpFrom wini_X3 wcode_X3_firstUpFrom) rfl rfl rfl (by decide +kernel) ⟨by decide, by decide⟩) (nf_preV hC hM rfl rfl) rfl rfl hl.1 rfl (lv_room (Nat.le_of_ble_eq_true rfl)) dX3_owner_9 ⟨Nat.le_refl _, Nat.le_refl _⟩) hM (fun H locs hM => ?_)
    refine lv_goto (pc := 12) (tgt := 16) hx hb dX3_owner_12 (by decide) ?_
    exact hret _ _ _ _ _ _ _ _ (by simp [nb_I, xs_own, h1]) rfl rfl rfl hM dX3_owner_16
end XE
