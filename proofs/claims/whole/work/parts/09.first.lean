/-! firstUpFrom, firstDownFrom. -/
section XF
variable {l : Launch} {D : va_G} {cs : Nat → ClassId} {Bs nn : Nat} {ad : nf_A} {I : nf_I} {J : nf_J} {mp : Nat → Nat}
set_option maxHeartbeats 4000000 in
set_option maxRecDepth 100000 in
theorem ct_X3_firstUpFrom {st : Int32} (hn : I 0 0 1 = nI nn) (hnn : nn ≤ 12) : nf_Ti l yX3_firstUpFrom wsX3_firstUpFrom 1 21 D vwCl (xT cs) Bs (xS cs nn) ad [.ref (ad 0 0), .int st] I J (xP nn mp) (xs_fu I st nn 0 (-1)) I J (xP nn mp) := by
  refine nf_enteri (cc := cX3_firstUpFrom) (maxL := 5) (by decide) rfl (Nat.le_of_ble_eq_true rfl) ?_
  intro p e s m below meth c ls Q hC hM hl hret
  have hx := hC.1.1
  have hb := hC.1.2.1
  have hl : lv_has ls 5 [(0, .ref (ad 0 0)), (1, .int st)] := hl
  have hinX1 : ∀ w ∈ u_ws RX1 TX1 7, w ∈ wsX3_firstUpFrom := fun w h => List.mem_cons_of_mem _ (inX1 w h)
  have hinX3 : ∀ w ∈ u_ws RX3 TX3 5, w ∈ wsX3_firstUpFrom := fun w h => List.mem_cons_of_mem _ (inX3 w h)
  refine lv_iconst (pc := 0) (v := -1) hx hb dX3_firstUpFrom_0 (by decide) ?_
  refine lv_istore_n (pc := 1) (lv' := [(2, .int (-1)), (0, .ref (ad 0 0)), (1, .int st)]) hx hb dX3_firstUpFrom_1 rfl hl (by decide) rfl (fun ls hl => ?_)
  refine lv_iconst (pc := 2) (v := 0) hx hb dX3_firstUpFrom_2 (by decide) ?_
  refine lv_istore_n (pc := 3) (lv' := [(3, .int 0), (2, .int (-1)), (0, .ref (ad 0 0)), (1, .int st)]) hx hb dX3_firstUpFrom_3 rfl hl (by decide) rfl (fun ls hl => ?_)
  have loop4 : ∀ (n : Nat) (j : Nat) (f : Int32) (ls : Array Slot) (H : Heap) (locs : List Loc), nn - j < n → j ≤ nn → xs_fu I st nn 0 (-1) = xs_fu I st (nn - j) j f → nf_M D vwCl Bs (xS cs nn) ad I J (xP nn mp) s.heap H locs → lv_has ls 5 [(3, .int (nI j)), (2, .int f), (0, .ref (ad 0 0)), (1, .int st)] → W p l e (nf_Rm 1 21) s m ([.ref (ad 0 0), .int st] : List Value).toArray below meth c H locs 0 0 Q (F0 m 4 ls []) := by
    intro n
    induction n with
    | zero => exact fun _ _ _ _ _ hmz => absurd hmz (Nat.not_lt_zero _)
    | succ n ihloop4 =>
      intro j f ls H locs hmz hjn hf hM hl
      refine lv_iload_n (pc := 4) hx hb dX3_firstUpFrom_4 rfl (lv_at hl 0 rfl) ?_
      refine lv_aload_n (pc := 5) hx hb dX3_firstUpFrom_5 rfl (lv_at hl 2 rfl) ?_
      refine nf_geti (pc := 6) hC hinX3 hM rfl rfl 1 (by decide) (List.mem_cons_of_mem _ wF_X3_15) rfl dX3_firstUpFrom_6 ?_
      refine lv_icmp_ge (pc := 9) (tgt := 67) hx hb dX3_firstUpFrom_9 (by decide) (fun hh => ?_) (fun hh => ?_)
      · have hj1 : nn ≤ j := (nI_leI (by omega) (by omega)).mp (by rw [hn] at hh; exact hh)
        refine lv_iload_n (pc := 67) hx hb dX3_firstUpFrom_67 rfl (lv_at hl 1 rfl) ?_
        exact hret _ _ _ _ _ _ _ _ (by rw [hf, show nn - j = 0 by omega]; rfl) rfl rfl rfl hM dX3_firstUpFrom_68
      · have hj1 : j < nn := Nat.lt_of_not_le (fun z => hh (by rw [hn]; exact (nI_leI (by omega) (by omega)).mpr z))
        refine lv_aload_n (pc := 12) hx hb dX3_firstUpFrom_12 rfl (lv_at hl 2 rfl) ?_
        refine nf_getr (pc := 13) hC hinX3 hM rfl rfl 0 (by decide) (List.mem_cons_of_mem _ wF_X3_11) rfl dX3_firstUpFrom_13 ?_
        refine lv_iload_n (pc := 16) hx hb dX3_firstUpFrom_16 rfl (lv_at hl 0 rfl) ?_
        refine nf_aald (pc := 17) hC hM 2 rfl rfl j rfl (by omega) (by decide) (xP_1 (by first | assumption | omega)) dX3_firstUpFrom_17 ?_
        refine nf_geti (pc := 18) hC hinX1 hM (xS_5 (by first | assumption | omega)) rfl 0 (by decide) (List.mem_cons_of_mem _ wF_X3_135) rfl dX3_firstUpFrom_18 ?_
        refine lv_istore (pc := 21) (lv' := [(4, .int (I 5 j 0)), (3, .int (nI j)), (2, .int f), (0, .ref (ad 0 0)), (1, .int st)]) hx hb dX3_firstUpFrom_21 hl (by decide) rfl (fun ls hl => ?_)
        refine lv_aload_n (pc := 23) hx hb dX3_firstUpFrom_23 rfl (lv_at hl 3 rfl) ?_
        refine nf_getr (pc := 24) hC hinX3 hM rfl rfl 0 (by decide) (List.mem_cons_of_mem _ wF_X3_11) rfl dX3_firstUpFrom_24 ?_
        refine lv_iload_n (pc := 27) hx hb dX3_firstUpFrom_27 rfl (lv_at hl 1 rfl) ?_
        refine nf_aald (pc := 28) hC hM 2 rfl rfl j rfl (by omega) (by decide) (xP_1 (by first | assumption | omega)) dX3_firstUpFrom_28 ?_
        refine nf_calli (pc := 29) (va_runV (As := []) (rest := []) hC.1 (ct_X1_isMember (i := j) (by first | assumption | omega)) (cwV 0 hC.1.2.2.2.2 (gd_V wM_X3_128 wi_X1_isMember wsel_X1_isMember wini_X1 wcode_X1_isMember) rfl rfl rfl (by decide +kernel) ⟨by decide, by decide⟩) (nf_preV hC hM (xS_5 (by first | assumption | omega)) rfl) rfl rfl hl.1 rfl (lv_room (Nat.le_of_ble_eq_true rfl)) dX3_firstUpFrom_29 ⟨Nat.le_refl _, Nat.le_refl _⟩) hM (fun H locs hM => ?_)
        refine lv_if_eq (pc := 32) (tgt := 61) hx hb dX3_firstUpFrom_32 (by decide) (fun h2 => ?_) (fun h2 => ?_)
        · have h2 := nb_0 h2
          refine lv_iinc (pc := 61) (k := 1) (v := nI (j + 1)) (lv' := [(3, .int (nI (j + 1))), (4, .int (I 5 j 0)), (2, .int f), (0, .ref (ad 0 0)), (1, .int st)]) hx hb dX3_firstUpFrom_61 hl rfl (nI_1 _) (by decide) rfl (fun ls hl => ?_)
          refine lv_goto (pc := 64) (tgt := 4) hx hb dX3_firstUpFrom_64 (by decide) ?_
          exact ihloop4 (j + 1) f ls _ _ (by omega) (by omega) (by rw [hf, show nn - j = (nn - (j + 1)) + 1 by omega, xs_fu]; congr 1; simp [h2]) hM (lv_sub hl [0, 2, 3, 4] rfl)
        · have h2 := nb_1 h2
          refine lv_iload_n (pc := 35) hx hb dX3_firstUpFrom_35 rfl (lv_at hl 2 rfl) ?_
          refine lv_iconst (pc := 36) (v := -1) hx hb dX3_firstUpFrom_36 (by decide) ?_
          refine lv_icmp_eq (pc := 37) (tgt := 58) hx hb dX3_firstUpFrom_37 (by decide) (fun h3 => ?_) (fun h3 => ?_)
          · skip
            refine lv_iload (pc := 58) hx hb dX3_firstUpFrom_58 (lv_at hl 0 rfl) ?_
            refine lv_istore_n (pc := 60) (lv' := [(2, .int (I 5 j 0)), (4, .int (I 5 j 0)), (3, .int (nI j)), (0, .ref (ad 0 0)), (1, .int st)]) hx hb dX3_firstUpFrom_60 rfl hl (by decide) rfl (fun ls hl => ?_)
            refine lv_iinc (pc := 61) (k := 2) (v := nI (j + 1)) (lv' := [(3, .int (nI (j + 1))), (2, .int (I 5 j 0)), (4, .int (I 5 j 0)), (0, .ref (ad 0 0)), (1, .int st)]) hx hb dX3_firstUpFrom_61 hl rfl (nI_1 _) (by decide) rfl (fun ls hl => ?_)
            refine lv_goto (pc := 64) (tgt := 4) hx hb dX3_firstUpFrom_64 (by decide) ?_
            exact ihloop4 (j + 1) (I 5 j 0) ls _ _ (by omega) (by omega) (by rw [hf, show nn - j = (nn - (j + 1)) + 1 by omega, xs_fu]; congr 1; simp [h2, h3]) hM (lv_sub hl [0, 1, 3, 4] rfl)
          · skip
            refine lv_iload_n (pc := 40) hx hb dX3_firstUpFrom_40 rfl (lv_at hl 4 rfl) ?_
            refine lv_iconst (pc := 41) (v := 1) hx hb dX3_firstUpFrom_41 (by decide) ?_
            refine lv_isub (pc := 42) hx hb dX3_firstUpFrom_42 ?_
            refine lv_iload (pc := 43) hx hb dX3_firstUpFrom_43 (lv_at hl 0 rfl) ?_
            refine nf_calli (pc := 45) (va_runS (As := [.int (st - 1), .int (I 5 j 0)]) (rest := []) hC.1 (ct_X3_stepsUp) (cwS 2 hC.1.2.2.2.2 (gd_S wM_X3_138 wst_X3_stepsUp wini_X3 wcode_X3_stepsUp) rfl rfl rfl (by decide +kernel) ⟨by decide, by decide⟩) (nf_preS hC hM) rfl rfl hl.1 rfl (lv_room (Nat.le_of_ble_eq_true rfl)) dX3_firstUpFrom_45 ⟨Nat.le_refl _, Nat.le_refl _⟩) hM (fun H locs hM => ?_)
            refine lv_iload_n (pc := 48) hx hb dX3_firstUpFrom_48 rfl (lv_at hl 4 rfl) ?_
            refine lv_iconst (pc := 49) (v := 1) hx hb dX3_firstUpFrom_49 (by decide) ?_
            refine lv_isub (pc := 50) hx hb dX3_firstUpFrom_50 ?_
            refine lv_iload_n (pc := 51) hx hb dX3_firstUpFrom_51 rfl (lv_at hl 2 rfl) ?_
            refine nf_calli (pc := 52) (va_runS (As := [.int (st - 1), .int f]) (rest := [.int (xs_up (st - 1) (I 5 j 0))]) hC.1 (ct_X3_stepsUp) (cwS 2 hC.1.2.2.2.2 (gd_S wM_X3_138 wst_X3_stepsUp wini_X3 wcode_X3_stepsUp) rfl rfl rfl (by decide +kernel) ⟨by decide, by decide⟩) (nf_preS hC hM) rfl rfl hl.1 rfl (lv_room (Nat.le_of_ble_eq_true rfl)) dX3_firstUpFrom_52 ⟨Nat.le_refl _, Nat.le_refl _⟩) hM (fun H locs hM => ?_)
            refine lv_icmp_ge (pc := 55) (tgt := 61) hx hb dX3_firstUpFrom_55 (by decide) (fun h4 => ?_) (fun h4 => ?_)
            · skip
              refine lv_iinc (pc := 61) (k := 1) (v := nI (j + 1)) (lv' := [(3, .int (nI (j + 1))), (4, .int (I 5 j 0)), (2, .int f), (0, .ref (ad 0 0)), (1, .int st)]) hx hb dX3_firstUpFrom_61 hl rfl (nI_1 _) (by decide) rfl (fun ls hl => ?_)
              refine lv_goto (pc := 64) (tgt := 4) hx hb dX3_firstUpFrom_64 (by decide) ?_
              exact ihloop4 (j + 1) f ls _ _ (by omega) (by omega) (by rw [hf, show nn - j = (nn - (j + 1)) + 1 by omega, xs_fu]; congr 1; simp [h2, h3, h4]) hM (lv_sub hl [0, 2, 3, 4] rfl)
            · skip
              refine lv_iload (pc := 58) hx hb dX3_firstUpFrom_58 (lv_at hl 0 rfl) ?_
              refine lv_istore_n (pc := 60) (lv' := [(2, .int (I 5 j 0)), (4, .int (I 5 j 0)), (3, .int (nI j)), (0, .ref (ad 0 0)), (1, .int st)]) hx hb dX3_firstUpFrom_60 rfl hl (by decide) rfl (fun ls hl => ?_)
              refine lv_iinc (pc := 61) (k := 2) (v := nI (j + 1)) (lv' := [(3, .int (nI (j + 1))), (2, .int (I 5 j 0)), (4, .int (I 5 j 0)), (0, .ref (ad 0 0)), (1, .int st)]) hx hb dX3_firstUpFrom_61 hl rfl (nI_1 _) (by decide) rfl (fun ls hl => ?_)
              refine lv_goto (pc := 64) (tgt := 4) hx hb dX3_firstUpFrom_64 (by decide) ?_
              exact ihloop4 (j + 1) (I 5 j 0) ls _ _ (by omega) (by omega) (by rw [hf, show nn - j = (nn - (j + 1)) + 1 by omega, xs_fu]; congr 1; simp [h2, h3, h4]) hM (lv_sub hl [0, 1, 3, 4] rfl)
  exact loop4 _ 0 (-1) ls _ _ (Nat.lt_succ_self _) (Nat.zero_le _) rfl hM hl
set_option maxHeartbeats 4000000 in
set_option maxRecDepth 100000 in
theorem ct_X3_firstDownFrom {st : Int32} (hn : I 0 0 1 = nI nn) (hnn : nn ≤ 12) : nf_Ti l yX3_firstDownFrom wsX3_firstDownFrom 1 21 D vwCl (xT cs) Bs (xS cs nn) ad [.ref (ad 0 0), .int st] I J (xP nn mp) (xs_fd I st nn 0 (-1)) I J (xP nn mp) := by
  refine nf_enteri (cc := cX3_firstDownFrom) (maxL := 5) (by decide) rfl (Nat.le_of_ble_eq_true rfl) ?_
  intro p e s m below meth c ls Q hC hM hl hret
  have hx := hC.1.1
  have hb := hC.1.2.1
  have hl : lv_has ls 5 [(0, .ref (ad 0 0)), (1, .int st)] := hl
  have hinX1 : ∀ w ∈ u_ws RX1 TX1 7, w ∈ wsX3_firstDownFrom := fun w h => List.mem_cons_of_mem _ (inX1 w h)
  have hinX3 : ∀ w ∈ u_ws RX3 TX3 5, w ∈ wsX3_firstDownFrom := fun w h => List.mem_cons_of_mem _ (inX3 w h)
  refine lv_iconst (pc := 0) (v := -1) hx hb dX3_firstDownFrom_0 (by decide) ?_
  refine lv_istore_n (pc := 1) (lv' := [(2, .int (-1)), (0, .ref (ad 0 0)), (1, .int st)]) hx hb dX3_firstDownFrom_1 rfl hl (by decide) rfl (fun ls hl => ?_)
  refine lv_iconst (pc := 2) (v := 0) hx hb dX3_firstDownFrom_2 (by decide) ?_
  refine lv_istore_n (pc := 3) (lv' := [(3, .int 0), (2, .int (-1)), (0, .ref (ad 0 0)), (1, .int st)]) hx hb dX3_firstDownFrom_3 rfl hl (by decide) rfl (fun ls hl => ?_)
  have loop4 : ∀ (n : Nat) (j : Nat) (f : Int32) (ls : Array Slot) (H : Heap) (locs : List Loc), nn - j < n → j ≤ nn → xs_fd I st nn 0 (-1) = xs_fd I st (nn - j) j f → nf_M D vwCl Bs (xS cs nn) ad I J (xP nn mp) s.heap H locs → lv_has ls 5 [(3, .int (nI j)), (2, .int f), (0, .ref (ad 0 0)), (1, .int st)] → W p l e (nf_Rm 1 21) s m ([.ref (ad 0 0), .int st] : List Value).toArray below meth c H locs 0 0 Q (F0 m 4 ls []) := by
    intro n
    induction n with
    | zero => exact fun _ _ _ _ _ hmz => absurd hmz (Nat.not_lt_zero _)
    | succ n ihloop4 =>
      intro j f ls H locs hmz hjn hf hM hl
      refine lv_iload_n (pc := 4) hx hb dX3_firstDownFrom_4 rfl (lv_at hl 0 rfl) ?_
      refine lv_aload_n (pc := 5) hx hb dX3_firstDownFrom_5 rfl (lv_at hl 2 rfl) ?_
      refine nf_geti (pc := 6) hC hinX3 hM rfl rfl 1 (by decide) (List.mem_cons_of_mem _ wF_X3_15) rfl dX3_firstDownFrom_6 ?_
      refine lv_icmp_ge (pc := 9) (tgt := 67) hx hb dX3_firstDownFrom_9 (by decide) (fun hh => ?_) (fun hh => ?_)
      · have hj1 : nn ≤ j := (nI_leI (by omega) (by omega)).mp (by rw [hn] at hh; exact hh)
        refine lv_iload_n (pc := 67) hx hb dX3_firstDownFrom_67 rfl (lv_at hl 1 rfl) ?_
        exact hret _ _ _ _ _ _ _ _ (by rw [hf, show nn - j = 0 by omega]; rfl) rfl rfl rfl hM dX3_firstDownFrom_68
      · have hj1 : j < nn := Nat.lt_of_not_le (fun z => hh (by rw [hn]; exact (nI_leI (by omega) (by omega)).mpr z))
        refine lv_aload_n (pc := 12) hx hb dX3_firstDownFrom_12 rfl (lv_at hl 2 rfl) ?_
        refine nf_getr (pc := 13) hC hinX3 hM rfl rfl 0 (by decide) (List.mem_cons_of_mem _ wF_X3_11) rfl dX3_firstDownFrom_13 ?_
        refine lv_iload_n (pc := 16) hx hb dX3_firstDownFrom_16 rfl (lv_at hl 0 rfl) ?_
        refine nf_aald (pc := 17) hC hM 2 rfl rfl j rfl (by omega) (by decide) (xP_1 (by first | assumption | omega)) dX3_firstDownFrom_17 ?_
        refine nf_geti (pc := 18) hC hinX1 hM (xS_5 (by first | assumption | omega)) rfl 0 (by decide) (List.mem_cons_of_mem _ wF_X3_135) rfl dX3_firstDownFrom_18 ?_
        refine lv_istore (pc := 21) (lv' := [(4, .int (I 5 j 0)), (3, .int (nI j)), (2, .int f), (0, .ref (ad 0 0)), (1, .int st)]) hx hb dX3_firstDownFrom_21 hl (by decide) rfl (fun ls hl => ?_)
        refine lv_aload_n (pc := 23) hx hb dX3_firstDownFrom_23 rfl (lv_at hl 3 rfl) ?_
        refine nf_getr (pc := 24) hC hinX3 hM rfl rfl 0 (by decide) (List.mem_cons_of_mem _ wF_X3_11) rfl dX3_firstDownFrom_24 ?_
        refine lv_iload_n (pc := 27) hx hb dX3_firstDownFrom_27 rfl (lv_at hl 1 rfl) ?_
        refine nf_aald (pc := 28) hC hM 2 rfl rfl j rfl (by omega) (by decide) (xP_1 (by first | assumption | omega)) dX3_firstDownFrom_28 ?_
        refine nf_calli (pc := 29) (va_runV (As := []) (rest := []) hC.1 (ct_X1_isMember (i := j) (by first | assumption | omega)) (cwV 0 hC.1.2.2.2.2 (gd_V wM_X3_128 wi_X1_isMember wsel_X1_isMember wini_X1 wcode_X1_isMember) rfl rfl rfl (by decide +kernel) ⟨by decide, by decide⟩) (nf_preV hC hM (xS_5 (by first | assumption | omega)) rfl) rfl rfl hl.1 rfl (lv_room (Nat.le_of_ble_eq_true rfl)) dX3_firstDownFrom_29 ⟨Nat.le_refl _, Nat.le_refl _⟩) hM (fun H locs hM => ?_)
        refine lv_if_eq (pc := 32) (tgt := 61) hx hb dX3_firstDownFrom_32 (by decide) (fun h2 => ?_) (fun h2 => ?_)
        · have h2 := nb_0 h2
          refine lv_iinc (pc := 61) (k := 1) (v := nI (j + 1)) (lv' := [(3, .int (nI (j + 1))), (4, .int (I 5 j 0)), (2, .int f), (0, .ref (ad 0 0)), (1, .int st)]) hx hb dX3_firstDownFrom_61 hl rfl (nI_1 _) (by decide) rfl (fun ls hl => ?_)
          refine lv_goto (pc := 64) (tgt := 4) hx hb dX3_firstDownFrom_64 (by decide) ?_
          exact ihloop4 (j + 1) f ls _ _ (by omega) (by omega) (by rw [hf, show nn - j = (nn - (j + 1)) + 1 by omega, xs_fd]; congr 1; simp [h2]) hM (lv_sub hl [0, 2, 3, 4] rfl)
        · have h2 := nb_1 h2
          refine lv_iload_n (pc := 35) hx hb dX3_firstDownFrom_35 rfl (lv_at hl 2 rfl) ?_
          refine lv_iconst (pc := 36) (v := -1) hx hb dX3_firstDownFrom_36 (by decide) ?_
          refine lv_icmp_eq (pc := 37) (tgt := 58) hx hb dX3_firstDownFrom_37 (by decide) (fun h3 => ?_) (fun h3 => ?_)
          · skip
            refine lv_iload (pc := 58) hx hb dX3_firstDownFrom_58 (lv_at hl 0 rfl) ?_
            refine lv_istore_n (pc := 60) (lv' := [(2, .int (I 5 j 0)), (4, .int (I 5 j 0)), (3, .int (nI j)), (0, .ref (ad 0 0)), (1, .int st)]) hx hb dX3_firstDownFrom_60 rfl hl (by decide) rfl (fun ls hl => ?_)
            refine lv_iinc (pc := 61) (k := 2) (v := nI (j + 1)) (lv' := [(3, .int (nI (j + 1))), (2, .int (I 5 j 0)), (4, .int (I 5 j 0)), (0, .ref (ad 0 0)), (1, .int st)]) hx hb dX3_firstDownFrom_61 hl rfl (nI_1 _) (by decide) rfl (fun ls hl => ?_)
            refine lv_goto (pc := 64) (tgt := 4) hx hb dX3_firstDownFrom_64 (by decide) ?_
            exact ihloop4 (j + 1) (I 5 j 0) ls _ _ (by omega) (by omega) (by rw [hf, show nn - j = (nn - (j + 1)) + 1 by omega, xs_fd]; congr 1; simp [h2, h3]) hM (lv_sub hl [0, 1, 3, 4] rfl)
          · skip
            refine lv_iload (pc := 40) hx hb dX3_firstDownFrom_40 (lv_at hl 0 rfl) ?_
            refine lv_iload_n (pc := 42) hx hb dX3_firstDownFrom_42 rfl (lv_at hl 4 rfl) ?_
            refine lv_iconst (pc := 43) (v := 1) hx hb dX3_firstDownFrom_43 (by decide) ?_
            refine lv_iadd (pc := 44) hx hb dX3_firstDownFrom_44 ?_
            refine nf_calli (pc := 45) (va_runS (As := [.int (I 5 j 0), .int (st + 1)]) (rest := []) hC.1 (ct_X3_stepsUp) (cwS 2 hC.1.2.2.2.2 (gd_S wM_X3_138 wst_X3_stepsUp wini_X3 wcode_X3_stepsUp) rfl rfl rfl (by decide +kernel) ⟨by decide, by decide⟩) (nf_preS hC hM) rfl rfl hl.1 rfl (lv_room (Nat.le_of_ble_eq_true rfl)) dX3_firstDownFrom_45 ⟨Nat.le_refl _, Nat.le_refl _⟩) hM (fun H locs hM => ?_)
            refine lv_iload_n (pc := 48) hx hb dX3_firstDownFrom_48 rfl (lv_at hl 2 rfl) ?_
            refine lv_iload_n (pc := 49) hx hb dX3_firstDownFrom_49 rfl (lv_at hl 4 rfl) ?_
            refine lv_iconst (pc := 50) (v := 1) hx hb dX3_firstDownFrom_50 (by decide) ?_
            refine lv_iadd (pc := 51) hx hb dX3_firstDownFrom_51 ?_
            refine nf_calli (pc := 52) (va_runS (As := [.int f, .int (st + 1)]) (rest := [.int (xs_up (I 5 j 0) (st + 1))]) hC.1 (ct_X3_stepsUp) (cwS 2 hC.1.2.2.2.2 (gd_S wM_X3_138 wst_X3_stepsUp wini_X3 wcode_X3_stepsUp) rfl rfl rfl (by decide +kernel) ⟨by decide, by decide⟩) (nf_preS hC hM) rfl rfl hl.1 rfl (lv_room (Nat.le_of_ble_eq_true rfl)) dX3_firstDownFrom_52 ⟨Nat.le_refl _, Nat.le_refl _⟩) hM (fun H locs hM => ?_)
            refine lv_icmp_ge (pc := 55) (tgt := 61) hx hb dX3_firstDownFrom_55 (by decide) (fun h4 => ?_) (fun h4 => ?_)
            · skip
              refine lv_iinc (pc := 61) (k := 1) (v := nI (j + 1)) (lv' := [(3, .int (nI (j + 1))), (4, .int (I 5 j 0)), (2, .int f), (0, .ref (ad 0 0)), (1, .int st)]) hx hb dX3_firstDownFrom_61 hl rfl (nI_1 _) (by decide) rfl (fun ls hl => ?_)
              refine lv_goto (pc := 64) (tgt := 4) hx hb dX3_firstDownFrom_64 (by decide) ?_
              exact ihloop4 (j + 1) f ls _ _ (by omega) (by omega) (by rw [hf, show nn - j = (nn - (j + 1)) + 1 by omega, xs_fd]; congr 1; simp [h2, h3, h4]) hM (lv_sub hl [0, 2, 3, 4] rfl)
            · skip
              refine lv_iload (pc := 58) hx hb dX3_firstDownFrom_58 (lv_at hl 0 rfl) ?_
              refine lv_istore_n (pc := 60) (lv' := [(2, .int (I 5 j 0)), (4, .int (I 5 j 0)), (3, .int (nI j)), (0, .ref (ad 0 0)), (1, .int st)]) hx hb dX3_firstDownFrom_60 rfl hl (by decide) rfl (fun ls hl => ?_)
              refine lv_iinc (pc := 61) (k := 2) (v := nI (j + 1)) (lv' := [(3, .int (nI (j + 1))), (2, .int (I 5 j 0)), (4, .int (I 5 j 0)), (0, .ref (ad 0 0)), (1, .int st)]) hx hb dX3_firstDownFrom_61 hl rfl (nI_1 _) (by decide) rfl (fun ls hl => ?_)
              refine lv_goto (pc := 64) (tgt := 4) hx hb dX3_firstDownFrom_64 (by decide) ?_
              exact ihloop4 (j + 1) (I 5 j 0) ls _ _ (by omega) (by omega) (by rw [hf, show nn - j = (nn - (j + 1)) + 1 by omega, xs_fd]; congr 1; simp [h2, h3, h4]) hM (lv_sub hl [0, 1, 3, 4] rfl)
  exact loop4 _ 0 (-1) ls _ _ (Nat.lt_succ_self _) (Nat.zero_le _) rfl hM hl
end XF
