/-! The model: calls that only read. -/
section YA
variable {l : Launch} {D : va_G} {cs : Nat → ClassId} {Bs nn rwn kp : Nat} {ad : nf_A} {I : nf_I} {J : nf_J} {P : nf_P}
set_option maxHeartbeats 4000000 in
set_option maxRecDepth 100000 in
theorem ct_X4_flying   : nf_Ti l yX4_flying wsX4_flying 0 0 D vwCl (xT cs) Bs (xS cs nn) ad [.ref (ad 20 0)] I J P (I 20 0 13) I J P := by
  refine nf_enteri (cc := cX4_flying) (maxL := 1) (by decide) rfl (Nat.le_of_ble_eq_true rfl) ?_
  intro p e s m below meth c ls Q hC hM hl hret
  have hx := hC.1.1
  have hb := hC.1.2.1
  have hl : lv_has ls 1 [(0, .ref (ad 20 0))] := hl
  have hinX4 : ∀ w ∈ u_ws RX4 TX4 22, w ∈ wsX4_flying := fun w h => List.mem_cons_of_mem _ (inX4 w h)
  refine lv_aload_n (pc := 0) hx hb dX4_flying_0 rfl (lv_at hl 0 rfl) ?_
  refine nf_geti (pc := 1) hC hinX4 hM rfl rfl 13 (by decide) (List.mem_cons_of_mem _ wF_X4_75) rfl dX4_flying_1 ?_
  exact hret _ _ _ _ _ _ _ _ rfl rfl rfl rfl hM dX4_flying_4
set_option maxHeartbeats 4000000 in
set_option maxRecDepth 100000 in
theorem ct_X4_message {k : Int32} (hr : I 20 0 13 = nI rwn) (hrw : rwn ≤ 20) : nf_Ti l yX4_message wsX4_message 0 0 D vwCl (xT cs) Bs (xS cs nn) ad [.ref (ad 20 0), .int k] I J P (ys_msg I k) I J P := by
  refine nf_enteri (cc := cX4_message) (maxL := 2) (by decide) rfl (Nat.le_of_ble_eq_true rfl) ?_
  intro p e s m below meth c ls Q hC hM hl hret
  have hx := hC.1.1
  have hb := hC.1.2.1
  have hl : lv_has ls 2 [(0, .ref (ad 20 0)), (1, .int k)] := hl
  have hinX4 : ∀ w ∈ u_ws RX4 TX4 22, w ∈ wsX4_message := fun w h => List.mem_cons_of_mem _ (inX4 w h)
  refine lv_iload_n (pc := 0) hx hb dX4_message_0 rfl (lv_at hl 1 rfl) ?_
  refine lv_if_lt (pc := 1) (tgt := 12) hx hb dX4_message_1 (by decide) (fun h1 => ?_) (fun h1 => ?_)
  · skip
    refine lv_iconst (pc := 12) (v := -1) hx hb dX4_message_12 (by decide) ?_
    refine lv_goto (pc := 13) (tgt := 33) hx hb dX4_message_13 (by decide) ?_
    exact hret _ _ _ _ _ _ _ _ (by simp [ys_msg, h1]) rfl rfl rfl hM dX4_message_33
  · skip
    refine lv_iload_n (pc := 4) hx hb dX4_message_4 rfl (lv_at hl 1 rfl) ?_
    refine lv_aload_n (pc := 5) hx hb dX4_message_5 rfl (lv_at hl 0 rfl) ?_
    refine nf_geti (pc := 6) hC hinX4 hM rfl rfl 13 (by decide) (List.mem_cons_of_mem _ wF_X4_75) rfl dX4_message_6 ?_
    refine lv_icmp_lt (pc := 9) (tgt := 16) hx hb dX4_message_9 (by decide) (fun h2 => ?_) (fun h2 => ?_)
    · skip
      obtain ⟨kn, hkn, hkne⟩ := nk_ix2 h1 (by rw [← hr]; exact h2) (by omega)
      refine lv_aload_n (pc := 16) hx hb dX4_message_16 rfl (lv_at hl 0 rfl) ?_
      refine nf_getr (pc := 17) hC hinX4 hM rfl rfl 14 (by decide) (List.mem_cons_of_mem _ wF_X4_41) rfl dX4_message_17 ?_
      refine lv_iload_n (pc := 20) hx hb dX4_message_20 rfl (lv_at hl 1 rfl) ?_
      refine nf_iald (pc := 21) hC hM 0 rfl rfl kn hkne (by omega) (by decide) dX4_message_21 ?_
      refine lv_sipush (pc := 22) (v := 256) hx hb dX4_message_22 (by decide) ?_
      refine lv_imul (pc := 25) hx hb dX4_message_25 ?_
      refine lv_aload_n (pc := 26) hx hb dX4_message_26 rfl (lv_at hl 0 rfl) ?_
      refine nf_getr (pc := 27) hC hinX4 hM rfl rfl 15 (by decide) (List.mem_cons_of_mem _ wF_X4_44) rfl dX4_message_27 ?_
      refine lv_iload_n (pc := 30) hx hb dX4_message_30 rfl (lv_at hl 1 rfl) ?_
      refine nf_iald (pc := 31) hC hM 0 rfl rfl kn hkne (by omega) (by decide) dX4_message_31 ?_
      refine lv_iadd (pc := 32) hx hb dX4_message_32 ?_
      exact hret _ _ _ _ _ _ _ _ (by rw [ys_msg, if_neg h1, if_pos h2, hkne, nI_clamp (by omega)]) rfl rfl rfl hM dX4_message_33
    · skip
      refine lv_iconst (pc := 12) (v := -1) hx hb dX4_message_12 (by decide) ?_
      refine lv_goto (pc := 13) (tgt := 33) hx hb dX4_message_13 (by decide) ?_
      exact hret _ _ _ _ _ _ _ _ (by simp [ys_msg, h1, h2]) rfl rfl rfl hM dX4_message_33
set_option maxHeartbeats 4000000 in
set_option maxRecDepth 100000 in
theorem ct_X4_successor {id : Int32}  : nf_Ti l yX4_successor wsX4_successor 2 41 D vwCl (xT cs) Bs (xS cs nn) ad [.ref (ad 20 0), .int id] I J P (ys_rd I 22 id) I J P := by
  refine nf_enteri (cc := cX4_successor) (maxL := 2) (by decide) rfl (Nat.le_of_ble_eq_true rfl) ?_
  intro p e s m below meth c ls Q hC hM hl hret
  have hx := hC.1.1
  have hb := hC.1.2.1
  have hl : lv_has ls 2 [(0, .ref (ad 20 0)), (1, .int id)] := hl
  have hinX4 : ∀ w ∈ u_ws RX4 TX4 22, w ∈ wsX4_successor := fun w h => List.mem_cons_of_mem _ (inX4 w h)
  refine lv_aload_n (pc := 0) hx hb dX4_successor_0 rfl (lv_at hl 0 rfl) ?_
  refine lv_iload_n (pc := 1) hx hb dX4_successor_1 rfl (lv_at hl 1 rfl) ?_
  refine nf_calli (pc := 2) (va_runV (As := [.int id]) (rest := []) hC.1 (ct_X4_isMember (x := id)) (cwV 1 hC.1.2.2.2.2 (gd_V wM_X4_86 wi_X4_isMember wsel_X4_isMember wini_X4 wcode_X4_isMember) rfl rfl rfl (by decide +kernel) ⟨by decide, by decide⟩) (nf_preV hC hM rfl rfl) rfl rfl hl.1 rfl (lv_room (Nat.le_of_ble_eq_true rfl)) dX4_successor_2 ⟨Nat.le_refl _, Nat.le_refl _⟩) hM (fun H locs hM => ?_)
  refine lv_if_eq (pc := 5) (tgt := 17) hx hb dX4_successor_5 (by decide) (fun h1 => ?_) (fun h1 => ?_)
  · have h1 := nb_0 h1
    refine lv_iconst (pc := 17) (v := -1) hx hb dX4_successor_17 (by decide) ?_
    exact hret _ _ _ _ _ _ _ _ (by simp [ys_rd, h1]) rfl rfl rfl hM dX4_successor_18
  · have h1 := nb_1 h1
    obtain ⟨xn, hxn, hxne⟩ := ys_mem_ix h1
    refine lv_aload_n (pc := 8) hx hb dX4_successor_8 rfl (lv_at hl 0 rfl) ?_
    refine nf_getr (pc := 9) hC hinX4 hM rfl rfl 2 (by decide) (List.mem_cons_of_mem _ wF_X4_13) rfl dX4_successor_9 ?_
    refine lv_iload_n (pc := 12) hx hb dX4_successor_12 rfl (lv_at hl 1 rfl) ?_
    refine nf_iald (pc := 13) hC hM 0 rfl rfl xn hxne (by omega) (by decide) dX4_successor_13 ?_
    refine lv_goto (pc := 14) (tgt := 18) hx hb dX4_successor_14 (by decide) ?_
    exact hret _ _ _ _ _ _ _ _ (by rw [ys_rd, if_neg (by rw [h1]; decide), hxne, nI_clamp (by omega)]) rfl rfl rfl hM dX4_successor_18
set_option maxHeartbeats 4000000 in
set_option maxRecDepth 100000 in
theorem ct_X4_predecessor {id : Int32}  : nf_Ti l yX4_predecessor wsX4_predecessor 2 41 D vwCl (xT cs) Bs (xS cs nn) ad [.ref (ad 20 0), .int id] I J P (ys_rd I 23 id) I J P := by
  refine nf_enteri (cc := cX4_predecessor) (maxL := 2) (by decide) rfl (Nat.le_of_ble_eq_true rfl) ?_
  intro p e s m below meth c ls Q hC hM hl hret
  have hx := hC.1.1
  have hb := hC.1.2.1
  have hl : lv_has ls 2 [(0, .ref (ad 20 0)), (1, .int id)] := hl
  have hinX4 : ∀ w ∈ u_ws RX4 TX4 22, w ∈ wsX4_predecessor := fun w h => List.mem_cons_of_mem _ (inX4 w h)
  refine lv_aload_n (pc := 0) hx hb dX4_predecessor_0 rfl (lv_at hl 0 rfl) ?_
  refine lv_iload_n (pc := 1) hx hb dX4_predecessor_1 rfl (lv_at hl 1 rfl) ?_
  refine nf_calli (pc := 2) (va_runV (As := [.int id]) (rest := []) hC.1 (ct_X4_isMember (x := id)) (cwV 1 hC.1.2.2.2.2 (gd_V wM_X4_86 wi_X4_isMember wsel_X4_isMember wini_X4 wcode_X4_isMember) rfl rfl rfl (by decide +kernel) ⟨by decide, by decide⟩) (nf_preV hC hM rfl rfl) rfl rfl hl.1 rfl (lv_room (Nat.le_of_ble_eq_true rfl)) dX4_predecessor_2 ⟨Nat.le_refl _, Nat.le_refl _⟩) hM (fun H locs hM => ?_)
  refine lv_if_eq (pc := 5) (tgt := 17) hx hb dX4_predecessor_5 (by decide) (fun h1 => ?_) (fun h1 => ?_)
  · have h1 := nb_0 h1
    refine lv_iconst (pc := 17) (v := -1) hx hb dX4_predecessor_17 (by decide) ?_
    exact hret _ _ _ _ _ _ _ _ (by simp [ys_rd, h1]) rfl rfl rfl hM dX4_predecessor_18
  · have h1 := nb_1 h1
    obtain ⟨xn, hxn, hxne⟩ := ys_mem_ix h1
    refine lv_aload_n (pc := 8) hx hb dX4_predecessor_8 rfl (lv_at hl 0 rfl) ?_
    refine nf_getr (pc := 9) hC hinX4 hM rfl rfl 3 (by decide) (List.mem_cons_of_mem _ wF_X4_16) rfl dX4_predecessor_9 ?_
    refine lv_iload_n (pc := 12) hx hb dX4_predecessor_12 rfl (lv_at hl 1 rfl) ?_
    refine nf_iald (pc := 13) hC hM 0 rfl rfl xn hxne (by omega) (by decide) dX4_predecessor_13 ?_
    refine lv_goto (pc := 14) (tgt := 18) hx hb dX4_predecessor_14 (by decide) ?_
    exact hret _ _ _ _ _ _ _ _ (by rw [ys_rd, if_neg (by rw [h1]; decide), hxne, nI_clamp (by omega)]) rfl rfl rfl hM dX4_predecessor_18
set_option maxHeartbeats 4000000 in
set_option maxRecDepth 100000 in
theorem ct_X4_finger {id j : Int32}  : nf_Ti l yX4_finger wsX4_finger 2 41 D vwCl (xT cs) Bs (xS cs nn) ad [.ref (ad 20 0), .int id, .int j] I J P (ys_fgr I id j) I J P := by
  refine nf_enteri (cc := cX4_finger) (maxL := 3) (by decide) rfl (Nat.le_of_ble_eq_true rfl) ?_
  intro p e s m below meth c ls Q hC hM hl hret
  have hx := hC.1.1
  have hb := hC.1.2.1
  have hl : lv_has ls 3 [(0, .ref (ad 20 0)), (1, .int id), (2, .int j)] := hl
  have hinX4 : ∀ w ∈ u_ws RX4 TX4 22, w ∈ wsX4_finger := fun w h => List.mem_cons_of_mem _ (inX4 w h)
  refine lv_aload_n (pc := 0) hx hb dX4_finger_0 rfl (lv_at hl 0 rfl) ?_
  refine lv_iload_n (pc := 1) hx hb dX4_finger_1 rfl (lv_at hl 1 rfl) ?_
  refine nf_calli (pc := 2) (va_runV (As := [.int id]) (rest := []) hC.1 (ct_X4_isMember (x := id)) (cwV 1 hC.1.2.2.2.2 (gd_V wM_X4_86 wi_X4_isMember wsel_X4_isMember wini_X4 wcode_X4_isMember) rfl rfl rfl (by decide +kernel) ⟨by decide, by decide⟩) (nf_preV hC hM rfl rfl) rfl rfl hl.1 rfl (lv_room (Nat.le_of_ble_eq_true rfl)) dX4_finger_2 ⟨Nat.le_refl _, Nat.le_refl _⟩) hM (fun H locs hM => ?_)
  refine lv_if_eq (pc := 5) (tgt := 32) hx hb dX4_finger_5 (by decide) (fun h1 => ?_) (fun h1 => ?_)
  · have h1 := nb_0 h1
    refine lv_iconst (pc := 32) (v := -1) hx hb dX4_finger_32 (by decide) ?_
    exact hret _ _ _ _ _ _ _ _ (by simp [ys_fgr, h1]) rfl rfl rfl hM dX4_finger_33
  · have h1 := nb_1 h1
    refine lv_iload_n (pc := 8) hx hb dX4_finger_8 rfl (lv_at hl 2 rfl) ?_
    refine lv_if_lt (pc := 9) (tgt := 32) hx hb dX4_finger_9 (by decide) (fun h2 => ?_) (fun h2 => ?_)
    · skip
      refine lv_iconst (pc := 32) (v := -1) hx hb dX4_finger_32 (by decide) ?_
      exact hret _ _ _ _ _ _ _ _ (by simp [ys_fgr, h1, h2]) rfl rfl rfl hM dX4_finger_33
    · skip
      refine lv_iload_n (pc := 12) hx hb dX4_finger_12 rfl (lv_at hl 2 rfl) ?_
      refine lv_bipush (pc := 13) (v := 7) hx hb dX4_finger_13 (by decide) ?_
      refine lv_icmp_gt (pc := 15) (tgt := 32) hx hb dX4_finger_15 (by decide) (fun h3 => ?_) (fun h3 => ?_)
      · skip
        refine lv_iconst (pc := 32) (v := -1) hx hb dX4_finger_32 (by decide) ?_
        exact hret _ _ _ _ _ _ _ _ (by simp [ys_fgr, h1, h2, h3]) rfl rfl rfl hM dX4_finger_33
      · skip
        obtain ⟨xn, hxn, hxne⟩ := ys_mem_ix h1
        obtain ⟨jn, hjn, hjne⟩ := nk_ix7 h2 h3
        refine lv_aload_n (pc := 18) hx hb dX4_finger_18 rfl (lv_at hl 0 rfl) ?_
        refine nf_getr (pc := 19) hC hinX4 hM rfl rfl 4 (by decide) (List.mem_cons_of_mem _ wF_X4_19) rfl dX4_finger_19 ?_
        refine lv_bipush (pc := 22) (v := 8) hx hb dX4_finger_22 (by decide) ?_
        refine lv_iload_n (pc := 24) hx hb dX4_finger_24 rfl (lv_at hl 1 rfl) ?_
        refine lv_imul (pc := 25) hx hb dX4_finger_25 ?_
        refine lv_iload_n (pc := 26) hx hb dX4_finger_26 rfl (lv_at hl 2 rfl) ?_
        refine lv_iadd (pc := 27) hx hb dX4_finger_27 ?_
        refine nf_iald (pc := 28) hC hM 0 rfl rfl (8 * xn + jn) (nk_8 hxne hjne) (by omega) (by decide) dX4_finger_28 ?_
        refine lv_goto (pc := 29) (tgt := 33) hx hb dX4_finger_29 (by decide) ?_
        exact hret _ _ _ _ _ _ _ _ (by rw [ys_fgr, if_neg (by rw [h1]; decide), if_neg h2, if_neg h3, hxne, hjne, nI_clamp (by omega), nI_clamp (by omega)]) rfl rfl rfl hM dX4_finger_33
set_option maxHeartbeats 4000000 in
set_option maxRecDepth 100000 in
theorem ct_X4_entry {id wd : Int32} (hkp : I 20 0 7 = nI kp) (hk2 : kp ≤ 120) : nf_Tl l yX4_entry wsX4_entry 2 41 D vwCl (xT cs) Bs (xS cs nn) ad [.ref (ad 20 0), .int id, .int wd] I J P (ys_ety I kp id wd) I J P := by
  refine nf_enterl (cc := cX4_entry) (maxL := 4) (by decide) rfl (Nat.le_of_ble_eq_true rfl) ?_
  intro p e s m below meth c ls Q hC hM hl hret
  have hx := hC.1.1
  have hb := hC.1.2.1
  have hl : lv_has ls 4 [(0, .ref (ad 20 0)), (1, .int id), (2, .int wd)] := hl
  have hinX4 : ∀ w ∈ u_ws RX4 TX4 22, w ∈ wsX4_entry := fun w h => List.mem_cons_of_mem _ (inX4 w h)
  refine lv_aload_n (pc := 0) hx hb dX4_entry_0 rfl (lv_at hl 0 rfl) ?_
  refine lv_iload_n (pc := 1) hx hb dX4_entry_1 rfl (lv_at hl 1 rfl) ?_
  refine nf_calli (pc := 2) (va_runV (As := [.int id]) (rest := []) hC.1 (ct_X4_isMember (x := id)) (cwV 1 hC.1.2.2.2.2 (gd_V wM_X4_86 wi_X4_isMember wsel_X4_isMember wini_X4 wcode_X4_isMember) rfl rfl rfl (by decide +kernel) ⟨by decide, by decide⟩) (nf_preV hC hM rfl rfl) rfl rfl hl.1 rfl (lv_room (Nat.le_of_ble_eq_true rfl)) dX4_entry_2 ⟨Nat.le_refl _, Nat.le_refl _⟩) hM (fun H locs hM => ?_)
  refine lv_if_eq (pc := 5) (tgt := 17) hx hb dX4_entry_5 (by decide) (fun h1 => ?_) (fun h1 => ?_)
  · have h1 := nb_0 h1
    refine lv_iconst (pc := 17) (v := -1) hx hb dX4_entry_17 (by decide) ?_
    refine lv_istore_n (pc := 18) (lv' := [(3, .int (-1)), (0, .ref (ad 20 0)), (1, .int id), (2, .int wd)]) hx hb dX4_entry_18 rfl hl (by decide) rfl (fun ls hl => ?_)
    refine lv_iload_n (pc := 19) hx hb dX4_entry_19 rfl (lv_at hl 0 rfl) ?_
    refine lv_if_ge (pc := 20) (tgt := 29) hx hb dX4_entry_20 (by decide) (fun hh => absurd hh (by decide)) (fun _ => ?_)
    refine lv_ldc2 (pc := 23) (v := 4294967296) hx hb hC.1.2.2.2.1 (hC.1.2.2.2.2 _ (List.mem_cons_of_mem _ wC_X4_133)) dX4_entry_23 ?_
    refine lv_goto (pc := 26) (tgt := 36) hx hb dX4_entry_26 (by decide) ?_
    exact hret _ _ _ _ _ _ _ _ (by simp [ys_ety, h1]) rfl rfl rfl hM dX4_entry_36
  · have h1 := nb_1 h1
    refine lv_aload_n (pc := 8) hx hb dX4_entry_8 rfl (lv_at hl 0 rfl) ?_
    refine lv_iload_n (pc := 9) hx hb dX4_entry_9 rfl (lv_at hl 1 rfl) ?_
    refine lv_iload_n (pc := 10) hx hb dX4_entry_10 rfl (lv_at hl 2 rfl) ?_
    refine nf_calli (pc := 11) (va_runV (As := [.int id, .int wd]) (rest := []) hC.1 (ct_X4_entryAt (mb := id) (wd := wd) (kp := kp) hkp (by omega)) (cwV 2 hC.1.2.2.2.2 (gd_V wM_X4_99 wi_X4_entryAt wsel_X4_entryAt wini_X4 wcode_X4_entryAt) rfl rfl rfl (by decide +kernel) ⟨by decide, by decide⟩) (nf_preV hC hM rfl rfl) rfl rfl hl.1 rfl (lv_room (Nat.le_of_ble_eq_true rfl)) dX4_entry_11 ⟨Nat.le_refl _, Nat.le_refl _⟩) hM (fun H locs hM => ?_)
    refine lv_goto (pc := 14) (tgt := 18) hx hb dX4_entry_14 (by decide) ?_
    refine lv_istore_n (pc := 18) (lv' := [(3, .int (ys_eat I kp id wd)), (0, .ref (ad 20 0)), (1, .int id), (2, .int wd)]) hx hb dX4_entry_18 rfl hl (by decide) rfl (fun ls hl => ?_)
    refine lv_iload_n (pc := 19) hx hb dX4_entry_19 rfl (lv_at hl 0 rfl) ?_
    refine lv_if_ge (pc := 20) (tgt := 29) hx hb dX4_entry_20 (by decide) (fun h2 => ?_) (fun h2 => ?_)
    · skip
      obtain ⟨q, hq, hqe, -⟩ := (ys_eat_c I kp id wd).resolve_left (fun z => by rw [z] at h2; exact absurd h2 (by decide))
      refine lv_aload_n (pc := 29) hx hb dX4_entry_29 rfl (lv_at hl 1 rfl) ?_
      refine nf_getr (pc := 30) hC hinX4 hM rfl rfl 10 (by decide) (List.mem_cons_of_mem _ wF_X4_35) rfl dX4_entry_30 ?_
      refine lv_iload_n (pc := 33) hx hb dX4_entry_33 rfl (lv_at hl 0 rfl) ?_
      refine nf_iald (pc := 34) hC hM 0 rfl rfl q hqe (by omega) (by decide) dX4_entry_34 ?_
      refine lv_i2l (pc := 35) hx hb dX4_entry_35 rfl ?_
      exact hret _ _ _ _ _ _ _ _ (by rw [ys_ety, if_neg (by rw [h1]; decide), if_pos h2, hqe, nI_clamp (by omega)]) rfl rfl rfl hM dX4_entry_36
    · skip
      refine lv_ldc2 (pc := 23) (v := 4294967296) hx hb hC.1.2.2.2.1 (hC.1.2.2.2.2 _ (List.mem_cons_of_mem _ wC_X4_133)) dX4_entry_23 ?_
      refine lv_goto (pc := 26) (tgt := 36) hx hb dX4_entry_26 (by decide) ?_
      exact hret _ _ _ _ _ _ _ _ (by simp [ys_ety, h1, h2]) rfl rfl rfl hM dX4_entry_36
set_option maxHeartbeats 4000000 in
set_option maxRecDepth 100000 in
theorem ct_X4_entries {id : Int32} (hkp : I 20 0 7 = nI kp) (hk2 : kp ≤ 120) : nf_Ti l yX4_entries wsX4_entries 2 41 D vwCl (xT cs) Bs (xS cs nn) ad [.ref (ad 20 0), .int id] I J P (ys_ens I kp id) I J P := by
  refine nf_enteri (cc := cX4_entries) (maxL := 4) (by decide) rfl (Nat.le_of_ble_eq_true rfl) ?_
  intro p e s m below meth c ls Q hC hM hl hret
  have hx := hC.1.1
  have hb := hC.1.2.1
  have hl : lv_has ls 4 [(0, .ref (ad 20 0)), (1, .int id)] := hl
  have hinX4 : ∀ w ∈ u_ws RX4 TX4 22, w ∈ wsX4_entries := fun w h => List.mem_cons_of_mem _ (inX4 w h)
  refine lv_aload_n (pc := 0) hx hb dX4_entries_0 rfl (lv_at hl 0 rfl) ?_
  refine lv_iload_n (pc := 1) hx hb dX4_entries_1 rfl (lv_at hl 1 rfl) ?_
  refine nf_calli (pc := 2) (va_runV (As := [.int id]) (rest := []) hC.1 (ct_X4_isMember (x := id)) (cwV 1 hC.1.2.2.2.2 (gd_V wM_X4_86 wi_X4_isMember wsel_X4_isMember wini_X4 wcode_X4_isMember) rfl rfl rfl (by decide +kernel) ⟨by decide, by decide⟩) (nf_preV hC hM rfl rfl) rfl rfl hl.1 rfl (lv_room (Nat.le_of_ble_eq_true rfl)) dX4_entries_2 ⟨Nat.le_refl _, Nat.le_refl _⟩) hM (fun H locs hM => ?_)
  refine lv_if_ne (pc := 5) (tgt := 10) hx hb dX4_entries_5 (by decide) (fun h1 => ?_) (fun h1 => ?_)
  · have h1 := nb_1 h1
    refine lv_iconst (pc := 10) (v := 0) hx hb dX4_entries_10 (by decide) ?_
    refine lv_istore_n (pc := 11) (lv' := [(2, .int 0), (0, .ref (ad 20 0)), (1, .int id)]) hx hb dX4_entries_11 rfl hl (by decide) rfl (fun ls hl => ?_)
    refine lv_iconst (pc := 12) (v := 0) hx hb dX4_entries_12 (by decide) ?_
    refine lv_istore_n (pc := 13) (lv' := [(3, .int 0), (2, .int 0), (0, .ref (ad 20 0)), (1, .int id)]) hx hb dX4_entries_13 rfl hl (by decide) rfl (fun ls hl => ?_)
    have loop14 : ∀ (n : Nat) (j : Nat) (k : Int32) (ls : Array Slot) (H : Heap) (locs : List Loc), kp - j < n → (j ≤ kp) → (ys_ens I kp id = ys_en I id (kp - j) j k) → nf_M D vwCl Bs (xS cs nn) ad I J P s.heap H locs → lv_has ls 4 [(3, .int (nI j)), (2, .int k), (0, .ref (ad 20 0)), (1, .int id)] → W p l e (nf_Rm 2 41) s m ([.ref (ad 20 0), .int id] : List Value).toArray below meth c H locs 0 0 Q (F0 m 14 ls []) := by
      intro n
      induction n with
      | zero => exact fun _ _ _ _ _ hmz => absurd hmz (Nat.not_lt_zero _)
      | succ n ihloop14 =>
        intro j k ls H locs hmz hjn hf hM hl
        refine lv_iload_n (pc := 14) hx hb dX4_entries_14 rfl (lv_at hl 0 rfl) ?_
        refine lv_aload_n (pc := 15) hx hb dX4_entries_15 rfl (lv_at hl 2 rfl) ?_
        refine nf_geti (pc := 16) hC hinX4 hM rfl rfl 7 (by decide) (List.mem_cons_of_mem _ wF_X4_96) rfl dX4_entries_16 ?_
        refine lv_icmp_ge (pc := 19) (tgt := 46) hx hb dX4_entries_19 (by decide) (fun hh => ?_) (fun hh => ?_)
        · have hj2 : kp ≤ j := (nI_leI (by omega) (by omega)).mp (by rw [hkp] at hh; exact hh)
          refine lv_iload_n (pc := 46) hx hb dX4_entries_46 rfl (lv_at hl 1 rfl) ?_
          exact hret _ _ _ _ _ _ _ _ (by rw [hf, show kp - j = 0 by omega]; rfl) rfl rfl rfl hM dX4_entries_47
        · have hj2 : j < kp := Nat.lt_of_not_le (fun z => hh (by rw [hkp]; exact (nI_leI (by omega) (by omega)).mpr z))
          refine lv_aload_n (pc := 22) hx hb dX4_entries_22 rfl (lv_at hl 2 rfl) ?_
          refine nf_getr (pc := 23) hC hinX4 hM rfl rfl 8 (by decide) (List.mem_cons_of_mem _ wF_X4_29) rfl dX4_entries_23 ?_
          refine lv_iload_n (pc := 26) hx hb dX4_entries_26 rfl (lv_at hl 0 rfl) ?_
          refine nf_iald (pc := 27) hC hM 0 rfl rfl j rfl (by omega) (by decide) dX4_entries_27 ?_
          refine lv_iload_n (pc := 28) hx hb dX4_entries_28 rfl (lv_at hl 3 rfl) ?_
          refine lv_icmp_ne (pc := 29) (tgt := 38) hx hb dX4_entries_29 (by decide) (fun h3 => ?_) (fun h3 => ?_)
          · skip
            refine lv_iload_n (pc := 38) hx hb dX4_entries_38 rfl (lv_at hl 1 rfl) ?_
            refine lv_istore_n (pc := 39) (lv' := [(2, .int k), (3, .int (nI j)), (0, .ref (ad 20 0)), (1, .int id)]) hx hb dX4_entries_39 rfl hl (by decide) rfl (fun ls hl => ?_)
            refine lv_iinc (pc := 40) (k := 1) (v := nI (j + 1)) (lv' := [(3, .int (nI (j + 1))), (2, .int k), (0, .ref (ad 20 0)), (1, .int id)]) hx hb dX4_entries_40 hl rfl (nI_1 _) (by decide) rfl (fun ls hl => ?_)
            refine lv_goto (pc := 43) (tgt := 14) hx hb dX4_entries_43 (by decide) ?_
            exact ihloop14 (j + 1) k ls _ _ (by omega) (by omega) (by rw [hf, show kp - j = (kp - (j + 1)) + 1 by omega, ys_en]; congr 1; simp [h3]) hM hl
          · skip
            refine lv_iload_n (pc := 32) hx hb dX4_entries_32 rfl (lv_at hl 1 rfl) ?_
            refine lv_iconst (pc := 33) (v := 1) hx hb dX4_entries_33 (by decide) ?_
            refine lv_iadd (pc := 34) hx hb dX4_entries_34 ?_
            refine lv_goto (pc := 35) (tgt := 39) hx hb dX4_entries_35 (by decide) ?_
            refine lv_istore_n (pc := 39) (lv' := [(2, .int (k + 1)), (3, .int (nI j)), (0, .ref (ad 20 0)), (1, .int id)]) hx hb dX4_entries_39 rfl hl (by decide) rfl (fun ls hl => ?_)
            refine lv_iinc (pc := 40) (k := 1) (v := nI (j + 1)) (lv' := [(3, .int (nI (j + 1))), (2, .int (k + 1)), (0, .ref (ad 20 0)), (1, .int id)]) hx hb dX4_entries_40 hl rfl (nI_1 _) (by decide) rfl (fun ls hl => ?_)
            refine lv_goto (pc := 43) (tgt := 14) hx hb dX4_entries_43 (by decide) ?_
            exact ihloop14 (j + 1) (k + 1) ls _ _ (by omega) (by omega) (by rw [hf, show kp - j = (kp - (j + 1)) + 1 by omega, ys_en]; congr 1; simp [h3]) hM hl
    exact loop14 _ 0 0 ls _ _ (Nat.lt_succ_self _) (Nat.zero_le _) (by simp [ys_ens, h1]) hM hl
  · have h1 := nb_0 h1
    refine lv_iconst (pc := 8) (v := -1) hx hb dX4_entries_8 (by decide) ?_
    exact hret _ _ _ _ _ _ _ _ (by simp [ys_ens, h1]) rfl rfl rfl hM dX4_entries_9
set_option maxHeartbeats 4000000 in
set_option maxRecDepth 100000 in
theorem ct_X4_answer {id : Int32}  : nf_Tl l yX4_answer wsX4_answer 1 20 D vwCl (xT cs) Bs (xS cs nn) ad [.ref (ad 20 0), .int id] I J P (ys_ans J id) I J P := by
  refine nf_enterl (cc := cX4_answer) (maxL := 2) (by decide) rfl (Nat.le_of_ble_eq_true rfl) ?_
  intro p e s m below meth c ls Q hC hM hl hret
  have hx := hC.1.1
  have hb := hC.1.2.1
  have hl : lv_has ls 2 [(0, .ref (ad 20 0)), (1, .int id)] := hl
  have hinX4 : ∀ w ∈ u_ws RX4 TX4 22, w ∈ wsX4_answer := fun w h => List.mem_cons_of_mem _ (inX4 w h)
  refine lv_iload_n (pc := 0) hx hb dX4_answer_0 rfl (lv_at hl 1 rfl) ?_
  refine nf_calli (pc := 1) (va_runS (As := [.int id]) (rest := []) hC.1 (ct_X4_isId) (cwS 1 hC.1.2.2.2.2 (gd_S wM_X4_67 wst_X4_isId wini_X4 wcode_X4_isId) rfl rfl rfl (by decide +kernel) ⟨by decide, by decide⟩) (nf_preS hC hM) rfl rfl hl.1 rfl (lv_room (Nat.le_of_ble_eq_true rfl)) dX4_answer_1 ⟨Nat.le_refl _, Nat.le_refl _⟩) hM (fun H locs hM => ?_)
  refine lv_if_eq (pc := 4) (tgt := 16) hx hb dX4_answer_4 (by decide) (fun h1 => ?_) (fun h1 => ?_)
  · have h1 := nb_0 h1
    refine lv_ldc2 (pc := 16) (v := 8589934592) hx hb hC.1.2.2.2.1 (hC.1.2.2.2.2 _ (List.mem_cons_of_mem _ wC_X4_65)) dX4_answer_16 ?_
    exact hret _ _ _ _ _ _ _ _ (by simp [ys_ans, h1]) rfl rfl rfl hM dX4_answer_19
  · have h1 := nb_1 h1
    obtain ⟨xn, hxn, hxne⟩ := ys_isId_ix h1
    refine lv_aload_n (pc := 7) hx hb dX4_answer_7 rfl (lv_at hl 0 rfl) ?_
    refine nf_getr (pc := 8) hC hinX4 hM rfl rfl 5 (by decide) (List.mem_cons_of_mem _ wF_X4_22) rfl dX4_answer_8 ?_
    refine lv_iload_n (pc := 11) hx hb dX4_answer_11 rfl (lv_at hl 1 rfl) ?_
    refine nf_lald (pc := 12) hC hM 1 rfl rfl xn hxne (by omega) (by decide) dX4_answer_12 ?_
    refine lv_goto (pc := 13) (tgt := 19) hx hb dX4_answer_13 (by decide) ?_
    exact hret _ _ _ _ _ _ _ _ (by rw [ys_ans, if_neg (by rw [h1]; decide), hxne, nI_clamp (by omega)]) rfl rfl rfl hM dX4_answer_19
set_option maxHeartbeats 4000000 in
set_option maxRecDepth 100000 in
theorem ct_X4_hops {id : Int32}  : nf_Ti l yX4_hops wsX4_hops 1 20 D vwCl (xT cs) Bs (xS cs nn) ad [.ref (ad 20 0), .int id] I J P (ys_hps I id) I J P := by
  refine nf_enteri (cc := cX4_hops) (maxL := 2) (by decide) rfl (Nat.le_of_ble_eq_true rfl) ?_
  intro p e s m below meth c ls Q hC hM hl hret
  have hx := hC.1.1
  have hb := hC.1.2.1
  have hl : lv_has ls 2 [(0, .ref (ad 20 0)), (1, .int id)] := hl
  have hinX4 : ∀ w ∈ u_ws RX4 TX4 22, w ∈ wsX4_hops := fun w h => List.mem_cons_of_mem _ (inX4 w h)
  refine lv_iload_n (pc := 0) hx hb dX4_hops_0 rfl (lv_at hl 1 rfl) ?_
  refine nf_calli (pc := 1) (va_runS (As := [.int id]) (rest := []) hC.1 (ct_X4_isId) (cwS 1 hC.1.2.2.2.2 (gd_S wM_X4_67 wst_X4_isId wini_X4 wcode_X4_isId) rfl rfl rfl (by decide +kernel) ⟨by decide, by decide⟩) (nf_preS hC hM) rfl rfl hl.1 rfl (lv_room (Nat.le_of_ble_eq_true rfl)) dX4_hops_1 ⟨Nat.le_refl _, Nat.le_refl _⟩) hM (fun H locs hM => ?_)
  refine lv_if_eq (pc := 4) (tgt := 25) hx hb dX4_hops_4 (by decide) (fun h1 => ?_) (fun h1 => ?_)
  · have h1 := nb_0 h1
    refine lv_iconst (pc := 25) (v := -1) hx hb dX4_hops_25 (by decide) ?_
    exact hret _ _ _ _ _ _ _ _ (by simp [ys_hps, h1]) rfl rfl rfl hM dX4_hops_26
  · have h1 := nb_1 h1
    obtain ⟨xn, hxn, hxne⟩ := ys_isId_ix h1
    refine lv_aload_n (pc := 7) hx hb dX4_hops_7 rfl (lv_at hl 0 rfl) ?_
    refine nf_getr (pc := 8) hC hinX4 hM rfl rfl 1 (by decide) (List.mem_cons_of_mem _ wF_X4_7) rfl dX4_hops_8 ?_
    refine lv_iload_n (pc := 11) hx hb dX4_hops_11 rfl (lv_at hl 1 rfl) ?_
    refine nf_iald (pc := 12) hC hM 0 rfl rfl xn hxne (by omega) (by decide) dX4_hops_12 ?_
    refine lv_if_le (pc := 13) (tgt := 25) hx hb dX4_hops_13 (by decide) (fun h2 => ?_) (fun h2 => ?_)
    · skip
      refine lv_iconst (pc := 25) (v := -1) hx hb dX4_hops_25 (by decide) ?_
      exact hret _ _ _ _ _ _ _ _ (by rw [ys_hps, if_neg (by rw [h1]; decide), hxne, nI_clamp (by omega), if_pos h2]) rfl rfl rfl hM dX4_hops_26
    · skip
      refine lv_aload_n (pc := 16) hx hb dX4_hops_16 rfl (lv_at hl 0 rfl) ?_
      refine nf_getr (pc := 17) hC hinX4 hM rfl rfl 6 (by decide) (List.mem_cons_of_mem _ wF_X4_26) rfl dX4_hops_17 ?_
      refine lv_iload_n (pc := 20) hx hb dX4_hops_20 rfl (lv_at hl 1 rfl) ?_
      refine nf_iald (pc := 21) hC hM 0 rfl rfl xn hxne (by omega) (by decide) dX4_hops_21 ?_
      refine lv_goto (pc := 22) (tgt := 26) hx hb dX4_hops_22 (by decide) ?_
      exact hret _ _ _ _ _ _ _ _ (by rw [ys_hps, if_neg (by rw [h1]; decide), hxne, nI_clamp (by omega), if_neg h2]) rfl rfl rfl hM dX4_hops_26
set_option maxHeartbeats 4000000 in
set_option maxRecDepth 100000 in
theorem ct_X4_owner {wd : Int32}  : nf_Ti l yX4_owner wsX4_owner 1 24 D vwCl (xT cs) Bs (xS cs nn) ad [.ref (ad 20 0), .int wd] I J P (ys_own I wd) I J P := by
  refine nf_enteri (cc := cX4_owner) (maxL := 2) (by decide) rfl (Nat.le_of_ble_eq_true rfl) ?_
  intro p e s m below meth c ls Q hC hM hl hret
  have hx := hC.1.1
  have hb := hC.1.2.1
  have hl : lv_has ls 2 [(0, .ref (ad 20 0)), (1, .int wd)] := hl
  refine lv_iload_n (pc := 0) hx hb dX4_owner_0 rfl (lv_at hl 1 rfl) ?_
  refine nf_calli (pc := 1) (va_runS (As := [.int wd]) (rest := []) hC.1 (ct_X4_isId) (cwS 1 hC.1.2.2.2.2 (gd_S wM_X4_67 wst_X4_isId wini_X4 wcode_X4_isId) rfl rfl rfl (by decide +kernel) ⟨by decide, by decide⟩) (nf_preS hC hM) rfl rfl hl.1 rfl (lv_room (Nat.le_of_ble_eq_true rfl)) dX4_owner_1 ⟨Nat.le_refl _, Nat.le_refl _⟩) hM (fun H locs hM => ?_)
  refine lv_if_eq (pc := 4) (tgt := 16) hx hb dX4_owner_4 (by decide) (fun h1 => ?_) (fun h1 => ?_)
  · have h1 := nb_0 h1
    refine lv_iconst (pc := 16) (v := -1) hx hb dX4_owner_16 (by decide) ?_
    exact hret _ _ _ _ _ _ _ _ (by simp [nb_I, ys_own, h1]) rfl rfl rfl hM dX4_owner_17
  · have h1 := nb_1 h1
    refine lv_aload_n (pc := 7) hx hb dX4_owner_7 rfl (lv_at hl 0 rfl) ?_
    refine lv_iload_n (pc := 8) hx hb dX4_owner_8 rfl (lv_at hl 1 rfl) ?_
    refine lv_iconst (pc := 9) (v := 1) hx hb dX4_owner_9 (by decide) ?_
    refine nf_calli (pc := 10) (va_runV (As := [.int wd, .int 1]) (rest := []) hC.1 (ct_X4_first) (cwV 2 hC.1.2.2.2.2 (gd_V wM_X4_141 wi_X4_first wsel_X4_first wini_X4 wcode_X4_first) rfl rfl rfl (by decide +kernel) ⟨by decide, by decide⟩) (nf_preV hC hM rfl rfl) rfl rfl hl.1 rfl (lv_room (Nat.le_of_ble_eq_true rfl)) dX4_owner_10 ⟨Nat.le_refl _, Nat.le_refl _⟩) hM (fun H locs hM => ?_)
    refine lv_goto (pc := 13) (tgt := 17) hx hb dX4_owner_13 (by decide) ?_
    exact hret _ _ _ _ _ _ _ _ (by simp [nb_I, ys_own, h1]) rfl rfl rfl hM dX4_owner_17
end YA
