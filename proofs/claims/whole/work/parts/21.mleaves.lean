/-! The model: leaves. -/
section YL
variable {l : Launch} {D : va_G} {cs : Nat → ClassId} {Bs nn rwn kp : Nat} {ad : nf_A} {I : nf_I} {J : nf_J} {P : nf_P}
set_option maxHeartbeats 4000000 in
set_option maxRecDepth 100000 in
theorem ct_X4_isId {x : Int32}  : nf_Ti l yX4_isId wsX4_isId 0 0 D vwCl (xT cs) Bs (xS cs nn) ad [.int x] I J P (nb_I (ys_isId x)) I J P := by
  refine nf_enterz (cc := cX4_isId) (maxL := 1) (by decide) rfl (Nat.le_of_ble_eq_true rfl) ?_
  intro p e s m below meth c ls Q hC hM hl hret
  have hx := hC.1.1
  have hb := hC.1.2.1
  have hl : lv_has ls 1 [(0, .int x)] := hl
  refine lv_iload_n (pc := 0) hx hb dX4_isId_0 rfl (lv_at hl 0 rfl) ?_
  refine lv_if_lt (pc := 1) (tgt := 15) hx hb dX4_isId_1 (by decide) (fun h1 => ?_) (fun h1 => ?_)
  · skip
    refine lv_iconst (pc := 15) (v := 0) hx hb dX4_isId_15 (by decide) ?_
    exact hret _ _ _ _ _ _ _ _ (by simp [nb_I, ys_isId, h1]) rfl rfl rfl hM dX4_isId_16
  · skip
    refine lv_iload_n (pc := 4) hx hb dX4_isId_4 rfl (lv_at hl 0 rfl) ?_
    refine lv_sipush (pc := 5) (v := 255) hx hb dX4_isId_5 (by decide) ?_
    refine lv_icmp_gt (pc := 8) (tgt := 15) hx hb dX4_isId_8 (by decide) (fun h2 => ?_) (fun h2 => ?_)
    · skip
      refine lv_iconst (pc := 15) (v := 0) hx hb dX4_isId_15 (by decide) ?_
      exact hret _ _ _ _ _ _ _ _ (by simp [nb_I, ys_isId, h1, h2]) rfl rfl rfl hM dX4_isId_16
    · skip
      refine lv_iconst (pc := 11) (v := 1) hx hb dX4_isId_11 (by decide) ?_
      refine lv_goto (pc := 12) (tgt := 16) hx hb dX4_isId_12 (by decide) ?_
      exact hret _ _ _ _ _ _ _ _ (by simp [nb_I, ys_isId, h1, h2]) rfl rfl rfl hM dX4_isId_16
set_option maxHeartbeats 4000000 in
set_option maxRecDepth 100000 in
theorem ct_X4_isMember {x : Int32}  : nf_Ti l yX4_isMember wsX4_isMember 1 20 D vwCl (xT cs) Bs (xS cs nn) ad [.ref (ad 20 0), .int x] I J P (nb_I (ys_mem I x)) I J P := by
  refine nf_enterz (cc := cX4_isMember) (maxL := 2) (by decide) rfl (Nat.le_of_ble_eq_true rfl) ?_
  intro p e s m below meth c ls Q hC hM hl hret
  have hx := hC.1.1
  have hb := hC.1.2.1
  have hl : lv_has ls 2 [(0, .ref (ad 20 0)), (1, .int x)] := hl
  have hinX4 : ∀ w ∈ u_ws RX4 TX4 22, w ∈ wsX4_isMember := fun w h => List.mem_cons_of_mem _ (inX4 w h)
  refine lv_iload_n (pc := 0) hx hb dX4_isMember_0 rfl (lv_at hl 1 rfl) ?_
  refine nf_calli (pc := 1) (va_runS (As := [.int x]) (rest := []) hC.1 (ct_X4_isId) (cwS 1 hC.1.2.2.2.2 (gd_S wM_X4_67 wst_X4_isId wini_X4 wcode_X4_isId) rfl rfl rfl (by decide +kernel) ⟨by decide, by decide⟩) (nf_preS hC hM) rfl rfl hl.1 rfl (lv_room (Nat.le_of_ble_eq_true rfl)) dX4_isMember_1 ⟨Nat.le_refl _, Nat.le_refl _⟩) hM (fun H locs hM => ?_)
  refine lv_if_eq (pc := 4) (tgt := 21) hx hb dX4_isMember_4 (by decide) (fun h1 => ?_) (fun h1 => ?_)
  · have h1 := nb_0 h1
    refine lv_iconst (pc := 21) (v := 0) hx hb dX4_isMember_21 (by decide) ?_
    exact hret _ _ _ _ _ _ _ _ (by simp [nb_I, ys_mem, h1]) rfl rfl rfl hM dX4_isMember_22
  · have h1 := nb_1 h1
    obtain ⟨xn, hxn, hxne⟩ := ys_isId_ix h1
    refine lv_aload_n (pc := 7) hx hb dX4_isMember_7 rfl (lv_at hl 0 rfl) ?_
    refine nf_getr (pc := 8) hC hinX4 hM rfl rfl 1 (by decide) (List.mem_cons_of_mem _ wF_X4_7) rfl dX4_isMember_8 ?_
    refine lv_iload_n (pc := 11) hx hb dX4_isMember_11 rfl (lv_at hl 1 rfl) ?_
    refine nf_iald (pc := 12) hC hM 0 rfl rfl xn hxne (by omega) (by decide) dX4_isMember_12 ?_
    refine lv_iconst (pc := 13) (v := 2) hx hb dX4_isMember_13 (by decide) ?_
    refine lv_icmp_ne (pc := 14) (tgt := 21) hx hb dX4_isMember_14 (by decide) (fun h2 => ?_) (fun h2 => ?_)
    · skip
      refine lv_iconst (pc := 21) (v := 0) hx hb dX4_isMember_21 (by decide) ?_
      exact hret _ _ _ _ _ _ _ _ (by rw [ys_mem, if_neg (by rw [h1]; decide), hxne, nI_clamp (by omega), if_neg h2]; rfl) rfl rfl rfl hM dX4_isMember_22
    · skip
      refine lv_iconst (pc := 17) (v := 1) hx hb dX4_isMember_17 (by decide) ?_
      refine lv_goto (pc := 18) (tgt := 22) hx hb dX4_isMember_18 (by decide) ?_
      exact hret _ _ _ _ _ _ _ _ (by rw [ys_mem, if_neg (by rw [h1]; decide), hxne, nI_clamp (by omega), if_pos h2]; rfl) rfl rfl rfl hM dX4_isMember_22
set_option maxHeartbeats 4000000 in
set_option maxRecDepth 100000 in
theorem ct_X4_past {x a b : Int32}  : nf_Ti l yX4_past wsX4_past 0 0 D vwCl (xT cs) Bs (xS cs nn) ad [.int x, .int a, .int b] I J P (nb_I (ys_past x a b)) I J P := by
  refine nf_enterz (cc := cX4_past) (maxL := 5) (by decide) rfl (Nat.le_of_ble_eq_true rfl) ?_
  intro p e s m below meth c ls Q hC hM hl hret
  have hx := hC.1.1
  have hb := hC.1.2.1
  have hl : lv_has ls 5 [(0, .int x), (1, .int a), (2, .int b)] := hl
  refine lv_iload_n (pc := 0) hx hb dX4_past_0 rfl (lv_at hl 1 rfl) ?_
  refine lv_istore_n (pc := 1) (lv' := [(3, .int a), (0, .int x), (1, .int a), (2, .int b)]) hx hb dX4_past_1 rfl hl (by decide) rfl (fun ls hl => ?_)
  refine lv_iconst (pc := 2) (v := 0) hx hb dX4_past_2 (by decide) ?_
  refine lv_istore (pc := 3) (lv' := [(4, .int 0), (3, .int a), (0, .int x), (1, .int a), (2, .int b)]) hx hb dX4_past_3 hl (by decide) rfl (fun ls hl => ?_)
  have loop5 : ∀ (n : Nat) (j : Nat) (y : Int32) (ls : Array Slot) (H : Heap) (locs : List Loc), 256 - j < n → (j ≤ 256) → (ys_past x a b = ys_pl x b (256 - j) y) → nf_M D vwCl Bs (xS cs nn) ad I J P s.heap H locs → lv_has ls 5 [(4, .int (nI j)), (3, .int y), (0, .int x), (1, .int a), (2, .int b)] → W p l e (nf_Rm 0 0) s m ([.int x, .int a, .int b] : List Value).toArray below meth c H locs 0 0 Q (F0 m 5 ls []) := by
    intro n
    induction n with
    | zero => exact fun _ _ _ _ _ hmz => absurd hmz (Nat.not_lt_zero _)
    | succ n ihloop5 =>
      intro j y ls H locs hmz hjn hf hM hl
      refine lv_iload (pc := 5) hx hb dX4_past_5 (lv_at hl 0 rfl) ?_
      refine lv_sipush (pc := 7) (v := nI 256) hx hb dX4_past_7 (by decide) ?_
      refine lv_icmp_ge (pc := 10) (tgt := 41) hx hb dX4_past_10 (by decide) (fun hh => ?_) (fun hh => ?_)
      · have hj1 : 256 ≤ j := (nI_leI (by omega) (by omega)).mp (by exact hh)
        refine lv_iconst (pc := 41) (v := 0) hx hb dX4_past_41 (by decide) ?_
        exact hret _ _ _ _ _ _ _ _ (by rw [hf, show 256 - j = 0 by omega]; rfl) rfl rfl rfl hM dX4_past_42
      · have hj1 : j < 256 := Nat.lt_of_not_le (fun z => hh (by exact (nI_leI (by omega) (by omega)).mpr z))
        refine lv_iload_n (pc := 13) hx hb dX4_past_13 rfl (lv_at hl 1 rfl) ?_
        refine lv_iconst (pc := 14) (v := 1) hx hb dX4_past_14 (by decide) ?_
        refine lv_iadd (pc := 15) hx hb dX4_past_15 ?_
        refine lv_sipush (pc := 16) (v := 256) hx hb dX4_past_16 (by decide) ?_
        refine lv_irem (pc := 19) hx hb dX4_past_19 (by decide) ?_
        refine lv_istore_n (pc := 20) (lv' := [(3, .int ((y + 1) - (y + 1) / 256 * 256)), (4, .int (nI j)), (0, .int x), (1, .int a), (2, .int b)]) hx hb dX4_past_20 rfl hl (by decide) rfl (fun ls hl => ?_)
        refine lv_iload_n (pc := 21) hx hb dX4_past_21 rfl (lv_at hl 0 rfl) ?_
        refine lv_iload_n (pc := 22) hx hb dX4_past_22 rfl (lv_at hl 2 rfl) ?_
        refine lv_icmp_ne (pc := 23) (tgt := 28) hx hb dX4_past_23 (by decide) (fun h2 => ?_) (fun h2 => ?_)
        · skip
          refine lv_iload_n (pc := 28) hx hb dX4_past_28 rfl (lv_at hl 0 rfl) ?_
          refine lv_iload_n (pc := 29) hx hb dX4_past_29 rfl (lv_at hl 4 rfl) ?_
          refine lv_icmp_ne (pc := 30) (tgt := 35) hx hb dX4_past_30 (by decide) (fun h3 => ?_) (fun h3 => ?_)
          · skip
            refine lv_iinc (pc := 35) (k := 1) (v := nI (j + 1)) (lv' := [(4, .int (nI (j + 1))), (3, .int ((y + 1) - (y + 1) / 256 * 256)), (0, .int x), (1, .int a), (2, .int b)]) hx hb dX4_past_35 hl rfl (nI_1 _) (by decide) rfl (fun ls hl => ?_)
            refine lv_goto (pc := 38) (tgt := 5) hx hb dX4_past_38 (by decide) ?_
            exact ihloop5 (j + 1) (ys_nx y) ls _ _ (by omega) (by omega) (by rw [hf, show 256 - j = (256 - (j + 1)) + 1 by omega, ys_pl, if_neg (show ¬ ys_nx y = x from h2), if_neg (show ¬ ys_nx y = b from h3)]) hM hl
          · skip
            refine lv_iconst (pc := 33) (v := 0) hx hb dX4_past_33 (by decide) ?_
            exact hret _ _ _ _ _ _ _ _ (by rw [hf, show 256 - j = (256 - (j + 1)) + 1 by omega, ys_pl, if_neg (show ¬ ys_nx y = x from h2), if_pos (show ys_nx y = b from h3)]; rfl) rfl rfl rfl hM dX4_past_34
        · skip
          refine lv_iconst (pc := 26) (v := 1) hx hb dX4_past_26 (by decide) ?_
          exact hret _ _ _ _ _ _ _ _ (by rw [hf, show 256 - j = (256 - (j + 1)) + 1 by omega, ys_pl, if_pos (show ys_nx y = x from h2)]; rfl) rfl rfl rfl hM dX4_past_27
  exact loop5 _ 0 a ls _ _ (Nat.lt_succ_self _) (Nat.zero_le _) rfl hM hl
set_option maxHeartbeats 4000000 in
set_option maxRecDepth 100000 in
theorem ct_X4_between {x a b : Int32}  : nf_Ti l yX4_between wsX4_between 1 24 D vwCl (xT cs) Bs (xS cs nn) ad [.int x, .int a, .int b] I J P (nb_I (ys_btw x a b)) I J P := by
  refine nf_enterz (cc := cX4_between) (maxL := 3) (by decide) rfl (Nat.le_of_ble_eq_true rfl) ?_
  intro p e s m below meth c ls Q hC hM hl hret
  have hx := hC.1.1
  have hb := hC.1.2.1
  have hl : lv_has ls 3 [(0, .int x), (1, .int a), (2, .int b)] := hl
  refine lv_iload_n (pc := 0) hx hb dX4_between_0 rfl (lv_at hl 0 rfl) ?_
  refine lv_iload_n (pc := 1) hx hb dX4_between_1 rfl (lv_at hl 2 rfl) ?_
  refine lv_icmp_eq (pc := 2) (tgt := 18) hx hb dX4_between_2 (by decide) (fun h1 => ?_) (fun h1 => ?_)
  · skip
    refine lv_iconst (pc := 18) (v := 0) hx hb dX4_between_18 (by decide) ?_
    exact hret _ _ _ _ _ _ _ _ (by simp [nb_I, ys_btw, h1]) rfl rfl rfl hM dX4_between_19
  · skip
    refine lv_iload_n (pc := 5) hx hb dX4_between_5 rfl (lv_at hl 0 rfl) ?_
    refine lv_iload_n (pc := 6) hx hb dX4_between_6 rfl (lv_at hl 1 rfl) ?_
    refine lv_iload_n (pc := 7) hx hb dX4_between_7 rfl (lv_at hl 2 rfl) ?_
    refine nf_calli (pc := 8) (va_runS (As := [.int x, .int a, .int b]) (rest := []) hC.1 (ct_X4_past) (cwS 3 hC.1.2.2.2.2 (gd_S wM_X4_71 wst_X4_past wini_X4 wcode_X4_past) rfl rfl rfl (by decide +kernel) ⟨by decide, by decide⟩) (nf_preS hC hM) rfl rfl hl.1 rfl (lv_room (Nat.le_of_ble_eq_true rfl)) dX4_between_8 ⟨Nat.le_refl _, Nat.le_refl _⟩) hM (fun H locs hM => ?_)
    refine lv_if_eq (pc := 11) (tgt := 18) hx hb dX4_between_11 (by decide) (fun h2 => ?_) (fun h2 => ?_)
    · have h2 := nb_0 h2
      refine lv_iconst (pc := 18) (v := 0) hx hb dX4_between_18 (by decide) ?_
      exact hret _ _ _ _ _ _ _ _ (by simp [nb_I, ys_btw, h1, h2]) rfl rfl rfl hM dX4_between_19
    · have h2 := nb_1 h2
      refine lv_iconst (pc := 14) (v := 1) hx hb dX4_between_14 (by decide) ?_
      refine lv_goto (pc := 15) (tgt := 19) hx hb dX4_between_15 (by decide) ?_
      exact hret _ _ _ _ _ _ _ _ (by simp [nb_I, ys_btw, h1, h2]) rfl rfl rfl hM dX4_between_19
set_option maxHeartbeats 4000000 in
set_option maxRecDepth 100000 in
theorem ct_X4_first {fr st : Int32}  : nf_Ti l yX4_first wsX4_first 0 0 D vwCl (xT cs) Bs (xS cs nn) ad [.ref (ad 20 0), .int fr, .int st] I J P (ys_first I fr st) I J P := by
  refine nf_enteri (cc := cX4_first) (maxL := 5) (by decide) rfl (Nat.le_of_ble_eq_true rfl) ?_
  intro p e s m below meth c ls Q hC hM hl hret
  have hx := hC.1.1
  have hb := hC.1.2.1
  have hl : lv_has ls 5 [(0, .ref (ad 20 0)), (1, .int fr), (2, .int st)] := hl
  have hinX4 : ∀ w ∈ u_ws RX4 TX4 22, w ∈ wsX4_first := fun w h => List.mem_cons_of_mem _ (inX4 w h)
  refine lv_iload_n (pc := 0) hx hb dX4_first_0 rfl (lv_at hl 1 rfl) ?_
  refine lv_sipush (pc := 1) (v := 255) hx hb dX4_first_1 (by decide) ?_
  refine lv_iand (pc := 4) hx hb dX4_first_4 ?_
  refine lv_istore_n (pc := 5) (lv' := [(3, .int (fr &&& 255)), (0, .ref (ad 20 0)), (1, .int fr), (2, .int st)]) hx hb dX4_first_5 rfl hl (by decide) rfl (fun ls hl => ?_)
  refine lv_iconst (pc := 6) (v := 0) hx hb dX4_first_6 (by decide) ?_
  refine lv_istore (pc := 7) (lv' := [(4, .int 0), (3, .int (fr &&& 255)), (0, .ref (ad 20 0)), (1, .int fr), (2, .int st)]) hx hb dX4_first_7 hl (by decide) rfl (fun ls hl => ?_)
  have loop9 : ∀ (n : Nat) (j : Nat) (y : Int32) (ls : Array Slot) (H : Heap) (locs : List Loc), 256 - j < n → (j ≤ 256) → (∃ q : Nat, q < 256 ∧ y = nI q) → (ys_first I fr st = ys_fl I st (256 - j) y) → nf_M D vwCl Bs (xS cs nn) ad I J P s.heap H locs → lv_has ls 5 [(4, .int (nI j)), (3, .int y), (0, .ref (ad 20 0)), (1, .int fr), (2, .int st)] → W p l e (nf_Rm 0 0) s m ([.ref (ad 20 0), .int fr, .int st] : List Value).toArray below meth c H locs 0 0 Q (F0 m 9 ls []) := by
    intro n
    induction n with
    | zero => exact fun _ _ _ _ _ hmz => absurd hmz (Nat.not_lt_zero _)
    | succ n ihloop9 =>
      intro j y ls H locs hmz hjn hx8 hf hM hl
      refine lv_iload (pc := 9) hx hb dX4_first_9 (lv_at hl 0 rfl) ?_
      refine lv_sipush (pc := 11) (v := nI 256) hx hb dX4_first_11 (by decide) ?_
      refine lv_icmp_ge (pc := 14) (tgt := 43) hx hb dX4_first_14 (by decide) (fun hh => ?_) (fun hh => ?_)
      · have hj1 : 256 ≤ j := (nI_leI (by omega) (by omega)).mp (by exact hh)
        refine lv_iconst (pc := 43) (v := -1) hx hb dX4_first_43 (by decide) ?_
        exact hret _ _ _ _ _ _ _ _ (by rw [hf, show 256 - j = 0 by omega]; rfl) rfl rfl rfl hM dX4_first_44
      · have hj1 : j < 256 := Nat.lt_of_not_le (fun z => hh (by exact (nI_leI (by omega) (by omega)).mpr z))
        obtain ⟨xn, hxn, hxe⟩ := hx8
        refine lv_aload_n (pc := 17) hx hb dX4_first_17 rfl (lv_at hl 2 rfl) ?_
        refine nf_getr (pc := 18) hC hinX4 hM rfl rfl 1 (by decide) (List.mem_cons_of_mem _ wF_X4_7) rfl dX4_first_18 ?_
        refine lv_iload_n (pc := 21) hx hb dX4_first_21 rfl (lv_at hl 1 rfl) ?_
        refine nf_iald (pc := 22) hC hM 0 rfl rfl xn hxe (by omega) (by decide) dX4_first_22 ?_
        refine lv_iconst (pc := 23) (v := 2) hx hb dX4_first_23 (by decide) ?_
        refine lv_icmp_ne (pc := 24) (tgt := 29) hx hb dX4_first_24 (by decide) (fun h2 => ?_) (fun h2 => ?_)
        · skip
          refine lv_iload_n (pc := 29) hx hb dX4_first_29 rfl (lv_at hl 1 rfl) ?_
          refine lv_iload_n (pc := 30) hx hb dX4_first_30 rfl (lv_at hl 4 rfl) ?_
          refine lv_iadd (pc := 31) hx hb dX4_first_31 ?_
          refine lv_sipush (pc := 32) (v := 255) hx hb dX4_first_32 (by decide) ?_
          refine lv_iand (pc := 35) hx hb dX4_first_35 ?_
          refine lv_istore_n (pc := 36) (lv' := [(3, .int ((y + st) &&& 255)), (4, .int (nI j)), (0, .ref (ad 20 0)), (1, .int fr), (2, .int st)]) hx hb dX4_first_36 rfl hl (by decide) rfl (fun ls hl => ?_)
          refine lv_iinc (pc := 37) (k := 1) (v := nI (j + 1)) (lv' := [(4, .int (nI (j + 1))), (3, .int ((y + st) &&& 255)), (0, .ref (ad 20 0)), (1, .int fr), (2, .int st)]) hx hb dX4_first_37 hl rfl (nI_1 _) (by decide) rfl (fun ls hl => ?_)
          refine lv_goto (pc := 40) (tgt := 9) hx hb dX4_first_40 (by decide) ?_
          exact ihloop9 (j + 1) ((y + st) &&& 255) ls _ _ (by omega) (by omega) (pk_andE _ 8 (by decide +kernel)) (by rw [hf, show 256 - j = (256 - (j + 1)) + 1 by omega, ys_fl, if_neg (by rw [hxe, nI_clamp (by omega)]; exact h2)]) hM hl
        · skip
          refine lv_iload_n (pc := 27) hx hb dX4_first_27 rfl (lv_at hl 1 rfl) ?_
          exact hret _ _ _ _ _ _ _ _ (by rw [hf, show 256 - j = (256 - (j + 1)) + 1 by omega, ys_fl, if_pos (by rw [hxe, nI_clamp (by omega)]; exact h2)]) rfl rfl rfl hM dX4_first_28
  exact loop9 _ 0 (fr &&& 255) ls _ _ (Nat.lt_succ_self _) (Nat.zero_le _) (pk_andE fr 8 (by decide +kernel)) rfl hM hl
end YL
