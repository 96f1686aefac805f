/-! The model: wrong, misplaced. -/
section YB
variable {l : Launch} {D : va_G} {cs : Nat → ClassId} {Bs nn rwn kp : Nat} {ad : nf_A} {I : nf_I} {J : nf_J} {P : nf_P}
set_option maxHeartbeats 4000000 in
set_option maxRecDepth 100000 in
theorem ct_X4_wrong   : nf_Ti l yX4_wrong wsX4_wrong 1 24 D vwCl (xT cs) Bs (xS cs nn) ad [.ref (ad 20 0)] I J P (ys_wr I 256 0 0) I J P := by
  refine nf_enteri (cc := cX4_wrong) (maxL := 4) (by decide) rfl (Nat.le_of_ble_eq_true rfl) ?_
  intro p e s m below meth c ls Q hC hM hl hret
  have hx := hC.1.1
  have hb := hC.1.2.1
  have hl : lv_has ls 4 [(0, .ref (ad 20 0))] := hl
  have hinX4 : ∀ w ∈ u_ws RX4 TX4 22, w ∈ wsX4_wrong := fun w h => List.mem_cons_of_mem _ (inX4 w h)
  refine lv_iconst (pc := 0) (v := 0) hx hb dX4_wrong_0 (by decide) ?_
  refine lv_istore_n (pc := 1) (lv' := [(1, .int 0), (0, .ref (ad 20 0))]) hx hb dX4_wrong_1 rfl hl (by decide) rfl (fun ls hl => ?_)
  refine lv_iconst (pc := 2) (v := 0) hx hb dX4_wrong_2 (by decide) ?_
  refine lv_istore_n (pc := 3) (lv' := [(2, .int 0), (1, .int 0), (0, .ref (ad 20 0))]) hx hb dX4_wrong_3 rfl hl (by decide) rfl (fun ls hl => ?_)
  have loop4 : ∀ (n : Nat) (d : Nat) (k : Int32) (ls : Array Slot) (H : Heap) (locs : List Loc), 256 - d < n → (d ≤ 256) → (ys_wr I 256 0 0 = ys_wr I (256 - d) d k) → nf_M D vwCl Bs (xS cs nn) ad I J P s.heap H locs → lv_has ls 4 [(2, .int (nI d)), (1, .int k), (0, .ref (ad 20 0))] → W p l e (nf_Rm 1 24) s m ([.ref (ad 20 0)] : List Value).toArray below meth c H locs 0 0 Q (F0 m 4 ls []) := by
    intro n
    induction n with
    | zero => exact fun _ _ _ _ _ hmz => absurd hmz (Nat.not_lt_zero _)
    | succ n ihloop4 =>
      intro d k ls H locs hmz hdn hf hM hl
      refine lv_iload_n (pc := 4) hx hb dX4_wrong_4 rfl (lv_at hl 0 rfl) ?_
      refine lv_sipush (pc := 5) (v := nI 256) hx hb dX4_wrong_5 (by decide) ?_
      refine lv_icmp_ge (pc := 8) (tgt := 125) hx hb dX4_wrong_8 (by decide) (fun hh => ?_) (fun hh => ?_)
      · have hj1 : 256 ≤ d := (nI_leI (by omega) (by omega)).mp (by exact hh)
        refine lv_iload_n (pc := 125) hx hb dX4_wrong_125 rfl (lv_at hl 1 rfl) ?_
        exact hret _ _ _ _ _ _ _ _ (by rw [hf, show 256 - d = 0 by omega]; rfl) rfl rfl rfl hM dX4_wrong_126
      · have hj1 : d < 256 := Nat.lt_of_not_le (fun z => hh (by exact (nI_leI (by omega) (by omega)).mpr z))
        refine lv_aload_n (pc := 11) hx hb dX4_wrong_11 rfl (lv_at hl 2 rfl) ?_
        refine nf_getr (pc := 12) hC hinX4 hM rfl rfl 1 (by decide) (List.mem_cons_of_mem _ wF_X4_7) rfl dX4_wrong_12 ?_
        refine lv_iload_n (pc := 15) hx hb dX4_wrong_15 rfl (lv_at hl 0 rfl) ?_
        refine nf_iald (pc := 16) hC hM 0 rfl rfl d rfl (by omega) (by decide) dX4_wrong_16 ?_
        refine lv_iconst (pc := 17) (v := 2) hx hb dX4_wrong_17 (by decide) ?_
        refine lv_icmp_ne (pc := 18) (tgt := 119) hx hb dX4_wrong_18 (by decide) (fun h2 => ?_) (fun h2 => ?_)
        · skip
          refine lv_iinc (pc := 119) (k := 0) (v := nI (d + 1)) (lv' := [(2, .int (nI (d + 1))), (1, .int k), (0, .ref (ad 20 0))]) hx hb dX4_wrong_119 hl rfl (nI_1 _) (by decide) rfl (fun ls hl => ?_)
          refine lv_goto (pc := 122) (tgt := 4) hx hb dX4_wrong_122 (by decide) ?_
          exact ihloop4 (d + 1) k ls _ _ (by omega) (by omega) (by rw [hf, show 256 - d = (256 - (d + 1)) + 1 by omega, ys_wr, if_neg h2]) hM hl
        · skip
          refine lv_aload_n (pc := 21) hx hb dX4_wrong_21 rfl (lv_at hl 2 rfl) ?_
          refine nf_getr (pc := 22) hC hinX4 hM rfl rfl 2 (by decide) (List.mem_cons_of_mem _ wF_X4_13) rfl dX4_wrong_22 ?_
          refine lv_iload_n (pc := 25) hx hb dX4_wrong_25 rfl (lv_at hl 0 rfl) ?_
          refine nf_iald (pc := 26) hC hM 0 rfl rfl d rfl (by omega) (by decide) dX4_wrong_26 ?_
          refine lv_aload_n (pc := 27) hx hb dX4_wrong_27 rfl (lv_at hl 2 rfl) ?_
          refine lv_iload_n (pc := 28) hx hb dX4_wrong_28 rfl (lv_at hl 0 rfl) ?_
          refine lv_iconst (pc := 29) (v := 1) hx hb dX4_wrong_29 (by decide) ?_
          refine lv_iadd (pc := 30) hx hb dX4_wrong_30 ?_
          refine lv_iconst (pc := 31) (v := 1) hx hb dX4_wrong_31 (by decide) ?_
          refine nf_calli (pc := 32) (va_runV (As := [.int ((nI d) + 1), .int 1]) (rest := [.int (I 22 0 d)]) hC.1 (ct_X4_first) (cwV 2 hC.1.2.2.2.2 (gd_V wM_X4_141 wi_X4_first wsel_X4_first wini_X4 wcode_X4_first) rfl rfl rfl (by decide +kernel) ⟨by decide, by decide⟩) (nf_preV hC hM rfl rfl) rfl rfl hl.1 rfl (lv_room (Nat.le_of_ble_eq_true rfl)) dX4_wrong_32 ⟨Nat.le_refl _, Nat.le_refl _⟩) hM (fun H locs hM => ?_)
          refine lv_icmp_eq (pc := 35) (tgt := 44) hx hb dX4_wrong_35 (by decide) (fun h3 => ?_) (fun h3 => ?_)
          · skip
            refine lv_iload_n (pc := 44) hx hb dX4_wrong_44 rfl (lv_at hl 1 rfl) ?_
            refine lv_istore_n (pc := 45) (lv' := [(1, .int k), (2, .int (nI d)), (0, .ref (ad 20 0))]) hx hb dX4_wrong_45 rfl hl (by decide) rfl (fun ls hl => ?_)
            refine lv_aload_n (pc := 46) hx hb dX4_wrong_46 rfl (lv_at hl 2 rfl) ?_
            refine nf_getr (pc := 47) hC hinX4 hM rfl rfl 3 (by decide) (List.mem_cons_of_mem _ wF_X4_16) rfl dX4_wrong_47 ?_
            refine lv_iload_n (pc := 50) hx hb dX4_wrong_50 rfl (lv_at hl 1 rfl) ?_
            refine nf_iald (pc := 51) hC hM 0 rfl rfl d rfl (by omega) (by decide) dX4_wrong_51 ?_
            refine lv_aload_n (pc := 52) hx hb dX4_wrong_52 rfl (lv_at hl 2 rfl) ?_
            refine lv_iload_n (pc := 53) hx hb dX4_wrong_53 rfl (lv_at hl 1 rfl) ?_
            refine lv_sipush (pc := 54) (v := 255) hx hb dX4_wrong_54 (by decide) ?_
            refine lv_iadd (pc := 57) hx hb dX4_wrong_57 ?_
            refine lv_iconst (pc := 58) (v := -1) hx hb dX4_wrong_58 (by decide) ?_
            refine nf_calli (pc := 59) (va_runV (As := [.int ((nI d) + 255), .int (-1)]) (rest := [.int (I 23 0 d)]) hC.1 (ct_X4_first) (cwV 2 hC.1.2.2.2.2 (gd_V wM_X4_141 wi_X4_first wsel_X4_first wini_X4 wcode_X4_first) rfl rfl rfl (by decide +kernel) ⟨by decide, by decide⟩) (nf_preV hC hM rfl rfl) rfl rfl hl.1 rfl (lv_room (Nat.le_of_ble_eq_true rfl)) dX4_wrong_59 ⟨Nat.le_refl _, Nat.le_refl _⟩) hM (fun H locs hM => ?_)
            refine lv_icmp_eq (pc := 62) (tgt := 71) hx hb dX4_wrong_62 (by decide) (fun h4 => ?_) (fun h4 => ?_)
            · skip
              refine lv_iload_n (pc := 71) hx hb dX4_wrong_71 rfl (lv_at hl 0 rfl) ?_
              refine lv_istore_n (pc := 72) (lv' := [(1, .int k), (2, .int (nI d)), (0, .ref (ad 20 0))]) hx hb dX4_wrong_72 rfl hl (by decide) rfl (fun ls hl => ?_)
              refine lv_iconst (pc := 73) (v := 0) hx hb dX4_wrong_73 (by decide) ?_
              refine lv_istore_n (pc := 74) (lv' := [(3, .int 0), (1, .int k), (2, .int (nI d)), (0, .ref (ad 20 0))]) hx hb dX4_wrong_74 rfl hl (by decide) rfl (fun ls hl => ?_)
              have loop75 : ∀ (n : Nat) (j : Nat) (q : Int32) (ls : Array Slot) (H : Heap) (locs : List Loc), 8 - j < n → (j ≤ 8) → (ys_wf I d 8 0 (ys_w2 I d (ys_w1 I d k)) = ys_wf I d (8 - j) j q) → nf_M D vwCl Bs (xS cs nn) ad I J P s.heap H locs → lv_has ls 4 [(3, .int (nI j)), (2, .int (nI d)), (1, .int q), (0, .ref (ad 20 0))] → W p l e (nf_Rm 1 24) s m ([.ref (ad 20 0)] : List Value).toArray below meth c H locs 0 0 Q (F0 m 75 ls []) := by
                intro n
                induction n with
                | zero => exact fun _ _ _ _ _ hmz => absurd hmz (Nat.not_lt_zero _)
                | succ n ihloop75 =>
                  intro j q ls H locs hmz hjn hg hM hl
                  refine lv_iload_n (pc := 75) hx hb dX4_wrong_75 rfl (lv_at hl 0 rfl) ?_
                  refine lv_bipush (pc := 76) (v := nI 8) hx hb dX4_wrong_76 (by decide) ?_
                  refine lv_icmp_ge (pc := 78) (tgt := 119) hx hb dX4_wrong_78 (by decide) (fun hh => ?_) (fun hh => ?_)
                  · have hj5 : 8 ≤ j := (nI_leI (by omega) (by omega)).mp (by exact hh)
                    refine lv_iinc (pc := 119) (k := 1) (v := nI (d + 1)) (lv' := [(2, .int (nI (d + 1))), (3, .int (nI j)), (1, .int q), (0, .ref (ad 20 0))]) hx hb dX4_wrong_119 hl rfl (nI_1 _) (by decide) rfl (fun ls hl => ?_)
                    refine lv_goto (pc := 122) (tgt := 4) hx hb dX4_wrong_122 (by decide) ?_
                    exact ihloop4 (d + 1) q ls _ _ (by omega) (by omega) (by rw [hf, show 256 - d = (256 - (d + 1)) + 1 by omega, ys_wr, if_pos h2, hg, show 8 - j = 0 by omega]; rfl) hM (lv_sub hl [0, 2, 3] rfl)
                  · have hj5 : j < 8 := Nat.lt_of_not_le (fun z => hh (by exact (nI_leI (by omega) (by omega)).mpr z))
                    refine lv_aload_n (pc := 81) hx hb dX4_wrong_81 rfl (lv_at hl 3 rfl) ?_
                    refine nf_getr (pc := 82) hC hinX4 hM rfl rfl 4 (by decide) (List.mem_cons_of_mem _ wF_X4_19) rfl dX4_wrong_82 ?_
                    refine lv_bipush (pc := 85) (v := 8) hx hb dX4_wrong_85 (by decide) ?_
                    refine lv_iload_n (pc := 87) hx hb dX4_wrong_87 rfl (lv_at hl 1 rfl) ?_
                    refine lv_imul (pc := 88) hx hb dX4_wrong_88 ?_
                    refine lv_iload_n (pc := 89) hx hb dX4_wrong_89 rfl (lv_at hl 0 rfl) ?_
                    refine lv_iadd (pc := 90) hx hb dX4_wrong_90 ?_
                    refine nf_iald (pc := 91) hC hM 0 rfl rfl (8 * d + j) (nk_8 rfl rfl) (by omega) (by decide) dX4_wrong_91 ?_
                    refine lv_aload_n (pc := 92) hx hb dX4_wrong_92 rfl (lv_at hl 3 rfl) ?_
                    refine lv_iload_n (pc := 93) hx hb dX4_wrong_93 rfl (lv_at hl 1 rfl) ?_
                    refine lv_iconst (pc := 94) (v := 1) hx hb dX4_wrong_94 (by decide) ?_
                    refine lv_iload_n (pc := 95) hx hb dX4_wrong_95 rfl (lv_at hl 0 rfl) ?_
                    refine lv_ishl (pc := 96) hx hb dX4_wrong_96 ?_
                    refine lv_iadd (pc := 97) hx hb dX4_wrong_97 ?_
                    refine lv_iconst (pc := 98) (v := 1) hx hb dX4_wrong_98 (by decide) ?_
                    refine nf_calli (pc := 99) (va_runV (As := [.int ((nI d) + (1 <<< ((nI j) &&& 31))), .int 1]) (rest := [.int (I 24 0 (8 * d + j))]) hC.1 (ct_X4_first) (cwV 2 hC.1.2.2.2.2 (gd_V wM_X4_141 wi_X4_first wsel_X4_first wini_X4 wcode_X4_first) rfl rfl rfl (by decide +kernel) ⟨by decide, by decide⟩) (nf_preV hC hM rfl rfl) rfl rfl hl.1 rfl (lv_room (Nat.le_of_ble_eq_true rfl)) dX4_wrong_99 ⟨Nat.le_refl _, Nat.le_refl _⟩) hM (fun H locs hM => ?_)
                    refine lv_icmp_eq (pc := 102) (tgt := 111) hx hb dX4_wrong_102 (by decide) (fun h6 => ?_) (fun h6 => ?_)
                    · skip
                      refine lv_iload_n (pc := 111) hx hb dX4_wrong_111 rfl (lv_at hl 2 rfl) ?_
                      refine lv_istore_n (pc := 112) (lv' := [(1, .int q), (3, .int (nI j)), (2, .int (nI d)), (0, .ref (ad 20 0))]) hx hb dX4_wrong_112 rfl hl (by decide) rfl (fun ls hl => ?_)
                      refine lv_iinc (pc := 113) (k := 1) (v := nI (j + 1)) (lv' := [(3, .int (nI (j + 1))), (1, .int q), (2, .int (nI d)), (0, .ref (ad 20 0))]) hx hb dX4_wrong_113 hl rfl (nI_1 _) (by decide) rfl (fun ls hl => ?_)
                      refine lv_goto (pc := 116) (tgt := 75) hx hb dX4_wrong_116 (by decide) ?_
                      exact ihloop75 (j + 1) q ls _ _ (by omega) (by omega) (by rw [hg, show 8 - j = (8 - (j + 1)) + 1 by omega, ys_wf]; congr 1; simp [h6]) hM (lv_sub hl [0, 2, 1, 3] rfl)
                    · skip
                      refine lv_iload_n (pc := 105) hx hb dX4_wrong_105 rfl (lv_at hl 2 rfl) ?_
                      refine lv_iconst (pc := 106) (v := 1) hx hb dX4_wrong_106 (by decide) ?_
                      refine lv_iadd (pc := 107) hx hb dX4_wrong_107 ?_
                      refine lv_goto (pc := 108) (tgt := 112) hx hb dX4_wrong_108 (by decide) ?_
                      refine lv_istore_n (pc := 112) (lv' := [(1, .int (q + 1)), (3, .int (nI j)), (2, .int (nI d)), (0, .ref (ad 20 0))]) hx hb dX4_wrong_112 rfl hl (by decide) rfl (fun ls hl => ?_)
                      refine lv_iinc (pc := 113) (k := 1) (v := nI (j + 1)) (lv' := [(3, .int (nI (j + 1))), (1, .int (q + 1)), (2, .int (nI d)), (0, .ref (ad 20 0))]) hx hb dX4_wrong_113 hl rfl (nI_1 _) (by decide) rfl (fun ls hl => ?_)
                      refine lv_goto (pc := 116) (tgt := 75) hx hb dX4_wrong_116 (by decide) ?_
                      exact ihloop75 (j + 1) (q + 1) ls _ _ (by omega) (by omega) (by rw [hg, show 8 - j = (8 - (j + 1)) + 1 by omega, ys_wf]; congr 1; simp [h6]) hM (lv_sub hl [0, 2, 1, 3] rfl)
              exact loop75 _ 0 k ls _ _ (Nat.lt_succ_self _) (Nat.zero_le _) (by simp [ys_w1, ys_w2, h3, h4]) hM (lv_sub hl [0, 2, 1, 3] rfl)
            · skip
              refine lv_iload_n (pc := 65) hx hb dX4_wrong_65 rfl (lv_at hl 0 rfl) ?_
              refine lv_iconst (pc := 66) (v := 1) hx hb dX4_wrong_66 (by decide) ?_
              refine lv_iadd (pc := 67) hx hb dX4_wrong_67 ?_
              refine lv_goto (pc := 68) (tgt := 72) hx hb dX4_wrong_68 (by decide) ?_
              refine lv_istore_n (pc := 72) (lv' := [(1, .int (k + 1)), (2, .int (nI d)), (0, .ref (ad 20 0))]) hx hb dX4_wrong_72 rfl hl (by decide) rfl (fun ls hl => ?_)
              refine lv_iconst (pc := 73) (v := 0) hx hb dX4_wrong_73 (by decide) ?_
              refine lv_istore_n (pc := 74) (lv' := [(3, .int 0), (1, .int (k + 1)), (2, .int (nI d)), (0, .ref (ad 20 0))]) hx hb dX4_wrong_74 rfl hl (by decide) rfl (fun ls hl => ?_)
              have loop75 : ∀ (n : Nat) (j : Nat) (q : Int32) (ls : Array Slot) (H : Heap) (locs : List Loc), 8 - j < n → (j ≤ 8) → (ys_wf I d 8 0 (ys_w2 I d (ys_w1 I d k)) = ys_wf I d (8 - j) j q) → nf_M D vwCl Bs (xS cs nn) ad I J P s.heap H locs → lv_has ls 4 [(3, .int (nI j)), (2, .int (nI d)), (1, .int q), (0, .ref (ad 20 0))] → W p l e (nf_Rm 1 24) s m ([.ref (ad 20 0)] : List Value).toArray below meth c H locs 0 0 Q (F0 m 75 ls []) := by
                intro n
                induction n with
                | zero => exact fun _ _ _ _ _ hmz => absurd hmz (Nat.not_lt_zero _)
                | succ n ihloop75 =>
                  intro j q ls H locs hmz hjn hg hM hl
                  refine lv_iload_n (pc := 75) hx hb dX4_wrong_75 rfl (lv_at hl 0 rfl) ?_
                  refine lv_bipush (pc := 76) (v := nI 8) hx hb dX4_wrong_76 (by decide) ?_
                  refine lv_icmp_ge (pc := 78) (tgt := 119) hx hb dX4_wrong_78 (by decide) (fun hh => ?_) (fun hh => ?_)
                  · have hj7 : 8 ≤ j := (nI_leI (by omega) (by omega)).mp (by exact hh)
                    refine lv_iinc (pc := 119) (k := 1) (v := nI (d + 1)) (lv' := [(2, .int (nI (d + 1))), (3, .int (nI j)), (1, .int q), (0, .ref (ad 20 0))]) hx hb dX4_wrong_119 hl rfl (nI_1 _) (by decide) rfl (fun ls hl => ?_)
                    refine lv_goto (pc := 122) (tgt := 4) hx hb dX4_wrong_122 (by decide) ?_
                    exact ihloop4 (d + 1) q ls _ _ (by omega) (by omega) (by rw [hf, show 256 - d = (256 - (d + 1)) + 1 by omega, ys_wr, if_pos h2, hg, show 8 - j = 0 by omega]; rfl) hM (lv_sub hl [0, 2, 3] rfl)
                  · have hj7 : j < 8 := Nat.lt_of_not_le (fun z => hh (by exact (nI_leI (by omega) (by omega)).mpr z))
                    refine lv_aload_n (pc := 81) hx hb dX4_wrong_81 rfl (lv_at hl 3 rfl) ?_
                    refine nf_getr (pc := 82) hC hinX4 hM rfl rfl 4 (by decide) (List.mem_cons_of_mem _ wF_X4_19) rfl dX4_wrong_82 ?_
                    refine lv_bipush (pc := 85) (v := 8) hx hb dX4_wrong_85 (by decide) ?_
                    refine lv_iload_n (pc := 87) hx hb dX4_wrong_87 rfl (lv_at hl 1 rfl) ?_
                    refine lv_imul (pc := 88) hx hb dX4_wrong_88 ?_
                    refine lv_iload_n (pc := 89) hx hb dX4_wrong_89 rfl (lv_at hl 0 rfl) ?_
                    refine lv_iadd (pc := 90) hx hb dX4_wrong_90 ?_
                    refine nf_iald (pc := 91) hC hM 0 rfl rfl (8 * d + j) (nk_8 rfl rfl) (by omega) (by decide) dX4_wrong_91 ?_
                    refine lv_aload_n (pc := 92) hx hb dX4_wrong_92 rfl (lv_at hl 3 rfl) ?_
                    refine lv_iload_n (pc := 93) hx hb dX4_wrong_93 rfl (lv_at hl 1 rfl) ?_
                    refine lv_iconst (pc := 94) (v := 1) hx hb dX4_wrong_94 (by decide) ?_
                    refine lv_iload_n (pc := 95) hx hb dX4_wrong_95 rfl (lv_at hl 0 rfl) ?_
                    refine lv_ishl (pc := 96) hx hb dX4_wrong_96 ?_
                    refine lv_iadd (pc := 97) hx hb dX4_wrong_97 ?_
                    refine lv_iconst (pc := 98) (v := 1) hx hb dX4_wrong_98 (by decide) ?_
                    refine nf_calli (pc := 99) (va_runV (As := [.int ((nI d) + (1 <<< ((nI j) &&& 31))), .int 1]) (rest := [.int (I 24 0 (8 * d + j))]) hC.1 (ct_X4_first) (cwV 2 hC.1.2.2.2.2 (gd_V wM_X4_141 wi_X4_first wsel_X4_first wini_X4 wcode_X4_first) rfl rfl rfl (by decide +kernel) ⟨by decide, by decide⟩) (nf_preV hC hM rfl rfl) rfl rfl hl.1 rfl (lv_room (Nat.le_of_ble_eq_true rfl)) dX4_wrong_99 ⟨Nat.le_refl _, Nat.le_refl _⟩) hM (fun H locs hM => ?_)
                    refine lv_icmp_eq (pc := 102) (tgt := 111) hx hb dX4_wrong_102 (by decide) (fun h8 => ?_) (fun h8 => ?_)
                    · skip
                      refine lv_iload_n (pc := 111) hx hb dX4_wrong_111 rfl (lv_at hl 2 rfl) ?_
                      refine lv_istore_n (pc := 112) (lv' := [(1, .int q), (3, .int (nI j)), (2, .int (nI d)), (0, .ref (ad 20 0))]) hx hb dX4_wrong_112 rfl hl (by decide) rfl (fun ls hl => ?_)
                      refine lv_iinc (pc := 113) (k := 1) (v := nI (j + 1)) (lv' := [(3, .int (nI (j + 1))), (1, .int q), (2, .int (nI d)), (0, .ref (ad 20 0))]) hx hb dX4_wrong_113 hl rfl (nI_1 _) (by decide) rfl (fun ls hl => ?_)
                      refine lv_goto (pc := 116) (tgt := 75) hx hb dX4_wrong_116 (by decide) ?_
                      exact ihloop75 (j + 1) q ls _ _ (by omega) (by omega) (by rw [hg, show 8 - j = (8 - (j + 1)) + 1 by omega, ys_wf]; congr 1; simp [h8]) hM (lv_sub hl [0, 2, 1, 3] rfl)
                    · skip
                      refine lv_iload_n (pc := 105) hx hb dX4_wrong_105 rfl (lv_at hl 2 rfl) ?_
                      refine lv_iconst (pc := 106) (v := 1) hx hb dX4_wrong_106 (by decide) ?_
                      refine lv_iadd (pc := 107) hx hb dX4_wrong_107 ?_
                      refine lv_goto (pc := 108) (tgt := 112) hx hb dX4_wrong_108 (by decide) ?_
                      refine lv_istore_n (pc := 112) (lv' := [(1, .int (q + 1)), (3, .int (nI j)), (2, .int (nI d)), (0, .ref (ad 20 0))]) hx hb dX4_wrong_112 rfl hl (by decide) rfl (fun ls hl => ?_)
                      refine lv_iinc (pc := 113) (k := 1) (v := nI (j + 1)) (lv' := [(3, .int (nI (j + 1))), (1, .int (q + 1)), (2, .int (nI d)), (0, .ref (ad 20 0))]) hx hb dX4_wrong_113 hl rfl (nI_1 _) (by decide) rfl (fun ls hl => ?_)
                      refine lv_goto (pc := 116) (tgt := 75) hx hb dX4_wrong_116 (by decide) ?_
                      exact ihloop75 (j + 1) (q + 1) ls _ _ (by omega) (by omega) (by rw [hg, show 8 - j = (8 - (j + 1)) + 1 by omega, ys_wf]; congr 1; simp [h8]) hM (lv_sub hl [0, 2, 1, 3] rfl)
              exact loop75 _ 0 (k + 1) ls _ _ (Nat.lt_succ_self _) (Nat.zero_le _) (by simp [ys_w1, ys_w2, h3, h4]) hM (lv_sub hl [0, 2, 1, 3] rfl)
          · skip
            refine lv_iload_n (pc := 38) hx hb dX4_wrong_38 rfl (lv_at hl 1 rfl) ?_
            refine lv_iconst (pc := 39) (v := 1) hx hb dX4_wrong_39 (by decide) ?_
            refine lv_iadd (pc := 40) hx hb dX4_wrong_40 ?_
            refine lv_goto (pc := 41) (tgt := 45) hx hb dX4_wrong_41 (by decide) ?_
            refine lv_istore_n (pc := 45) (lv' := [(1, .int (k + 1)), (2, .int (nI d)), (0, .ref (ad 20 0))]) hx hb dX4_wrong_45 rfl hl (by decide) rfl (fun ls hl => ?_)
            refine lv_aload_n (pc := 46) hx hb dX4_wrong_46 rfl (lv_at hl 2 rfl) ?_
            refine nf_getr (pc := 47) hC hinX4 hM rfl rfl 3 (by decide) (List.mem_cons_of_mem _ wF_X4_16) rfl dX4_wrong_47 ?_
            refine lv_iload_n (pc := 50) hx hb dX4_wrong_50 rfl (lv_at hl 1 rfl) ?_
            refine nf_iald (pc := 51) hC hM 0 rfl rfl d rfl (by omega) (by decide) dX4_wrong_51 ?_
            refine lv_aload_n (pc := 52) hx hb dX4_wrong_52 rfl (lv_at hl 2 rfl) ?_
            refine lv_iload_n (pc := 53) hx hb dX4_wrong_53 rfl (lv_at hl 1 rfl) ?_
            refine lv_sipush (pc := 54) (v := 255) hx hb dX4_wrong_54 (by decide) ?_
            refine lv_iadd (pc := 57) hx hb dX4_wrong_57 ?_
            refine lv_iconst (pc := 58) (v := -1) hx hb dX4_wrong_58 (by decide) ?_
            refine nf_calli (pc := 59) (va_runV (As := [.int ((nI d) + 255), .int (-1)]) (rest := [.int (I 23 0 d)]) hC.1 (ct_X4_first) (cwV 2 hC.1.2.2.2.2 (gd_V wM_X4_141 wi_X4_first wsel_X4_first wini_X4 wcode_X4_first) rfl rfl rfl (by decide +kernel) ⟨by decide, by decide⟩) (nf_preV hC hM rfl rfl) rfl rfl hl.1 rfl (lv_room (Nat.le_of_ble_eq_true rfl)) dX4_wrong_59 ⟨Nat.le_refl _, Nat.le_refl _⟩) hM (fun H locs hM => ?_)
            refine lv_icmp_eq (pc := 62) (tgt := 71) hx hb dX4_wrong_62 (by decide) (fun h9 => ?_) (fun h9 => ?_)
            · skip
              refine lv_iload_n (pc := 71) hx hb dX4_wrong_71 rfl (lv_at hl 0 rfl) ?_
              refine lv_istore_n (pc := 72) (lv' := [(1, .int (k + 1)), (2, .int (nI d)), (0, .ref (ad 20 0))]) hx hb dX4_wrong_72 rfl hl (by decide) rfl (fun ls hl => ?_)
              refine lv_iconst (pc := 73) (v := 0) hx hb dX4_wrong_73 (by decide) ?_
              refine lv_istore_n (pc := 74) (lv' := [(3, .int 0), (1, .int (k + 1)), (2, .int (nI d)), (0, .ref (ad 20 0))]) hx hb dX4_wrong_74 rfl hl (by decide) rfl (fun ls hl => ?_)
              have loop75 : ∀ (n : Nat) (j : Nat) (q : Int32) (ls : Array Slot) (H : Heap) (locs : List Loc), 8 - j < n → (j ≤ 8) → (ys_wf I d 8 0 (ys_w2 I d (ys_w1 I d k)) = ys_wf I d (8 - j) j q) → nf_M D vwCl Bs (xS cs nn) ad I J P s.heap H locs → lv_has ls 4 [(3, .int (nI j)), (2, .int (nI d)), (1, .int q), (0, .ref (ad 20 0))] → W p l e (nf_Rm 1 24) s m ([.ref (ad 20 0)] : List Value).toArray below meth c H locs 0 0 Q (F0 m 75 ls []) := by
                intro n
                induction n with
                | zero => exact fun _ _ _ _ _ hmz => absurd hmz (Nat.not_lt_zero _)
                | succ n ihloop75 =>
                  intro j q ls H locs hmz hjn hg hM hl
                  refine lv_iload_n (pc := 75) hx hb dX4_wrong_75 rfl (lv_at hl 0 rfl) ?_
                  refine lv_bipush (pc := 76) (v := nI 8) hx hb dX4_wrong_76 (by decide) ?_
                  refine lv_icmp_ge (pc := 78) (tgt := 119) hx hb dX4_wrong_78 (by decide) (fun hh => ?_) (fun hh => ?_)
                  · have hj10 : 8 ≤ j := (nI_leI (by omega) (by omega)).mp (by exact hh)
                    refine lv_iinc (pc := 119) (k := 1) (v := nI (d + 1)) (lv' := [(2, .int (nI (d + 1))), (3, .int (nI j)), (1, .int q), (0, .ref (ad 20 0))]) hx hb dX4_wrong_119 hl rfl (nI_1 _) (by decide) rfl (fun ls hl => ?_)
                    refine lv_goto (pc := 122) (tgt := 4) hx hb dX4_wrong_122 (by decide) ?_
                    exact ihloop4 (d + 1) q ls _ _ (by omega) (by omega) (by rw [hf, show 256 - d = (256 - (d + 1)) + 1 by omega, ys_wr, if_pos h2, hg, show 8 - j = 0 by omega]; rfl) hM (lv_sub hl [0, 2, 3] rfl)
                  · have hj10 : j < 8 := Nat.lt_of_not_le (fun z => hh (by exact (nI_leI (by omega) (by omega)).mpr z))
                    refine lv_aload_n (pc := 81) hx hb dX4_wrong_81 rfl (lv_at hl 3 rfl) ?_
                    refine nf_getr (pc := 82) hC hinX4 hM rfl rfl 4 (by decide) (List.mem_cons_of_mem _ wF_X4_19) rfl dX4_wrong_82 ?_
                    refine lv_bipush (pc := 85) (v := 8) hx hb dX4_wrong_85 (by decide) ?_
                    refine lv_iload_n (pc := 87) hx hb dX4_wrong_87 rfl (lv_at hl 1 rfl) ?_
                    refine lv_imul (pc := 88) hx hb dX4_wrong_88 ?_
                    refine lv_iload_n (pc := 89) hx hb dX4_wrong_89 rfl (lv_at hl 0 rfl) ?_
                    refine lv_iadd (pc := 90) hx hb dX4_wrong_90 ?_
                    refine nf_iald (pc := 91) hC hM 0 rfl rfl (8 * d + j) (nk_8 rfl rfl) (by omega) (by decide) dX4_wrong_91 ?_
                    refine lv_aload_n (pc := 92) hx hb dX4_wrong_92 rfl (lv_at hl 3 rfl) ?_
                    refine lv_iload_n (pc := 93) hx hb dX4_wrong_93 rfl (lv_at hl 1 rfl) ?_
                    refine lv_iconst (pc := 94) (v := 1) hx hb dX4_wrong_94 (by decide) ?_
                    refine lv_iload_n (pc := 95) hx hb dX4_wrong_95 rfl (lv_at hl 0 rfl) ?_
                    refine lv_ishl (pc := 96) hx hb dX4_wrong_96 ?_
                    refine lv_iadd (pc := 97) hx hb dX4_wrong_97 ?_
                    refine lv_iconst (pc := 98) (v := 1) hx hb dX4_wrong_98 (by decide) ?_
                    refine nf_calli (pc := 99) (va_runV (As := [.int ((nI d) + (1 <<< ((nI j) &&& 31))), .int 1]) (rest := [.int (I 24 0 (8 * d + j))]) hC.1 (ct_X4_first) (cwV 2 hC.1.2.2.2.2 (gd_V wM_X4_141 wi_X4_first wsel_X4_first wini_X4 wcode_X4_first) rfl rfl rfl (by decide +kernel) ⟨by decide, by decide⟩) (nf_preV hC hM rfl rfl) rfl rfl hl.1 rfl (lv_room (Nat.le_of_ble_eq_true rfl)) dX4_wrong_99 ⟨Nat.le_refl _, Nat.le_refl _⟩) hM (fun H locs hM => ?_)
                    refine lv_icmp_eq (pc := 102) (tgt := 111) hx hb dX4_wrong_102 (by decide) (fun h11 => ?_) (fun h11 => ?_)
                    · skip
                      refine lv_iload_n (pc := 111) hx hb dX4_wrong_111 rfl (lv_at hl 2 rfl) ?_
                      refine lv_istore_n (pc := 112) (lv' := [(1, .int q), (3, .int (nI j)), (2, .int (nI d)), (0, .ref (ad 20 0))]) hx hb dX4_wrong_112 rfl hl (by decide) rfl (fun ls hl => ?_)
                      refine lv_iinc (pc := 113) (k := 1) (v := nI (j + 1)) (lv' := [(3, .int (nI (j + 1))), (1, .int q), (2, .int (nI d)), (0, .ref (ad 20 0))]) hx hb dX4_wrong_113 hl rfl (nI_1 _) (by decide) rfl (fun ls hl => ?_)
                      refine lv_goto (pc := 116) (tgt := 75) hx hb dX4_wrong_116 (by decide) ?_
                      exact ihloop75 (j + 1) q ls _ _ (by omega) (by omega) (by rw [hg, show 8 - j = (8 - (j + 1)) + 1 by omega, ys_wf]; congr 1; simp [h11]) hM (lv_sub hl [0, 2, 1, 3] rfl)
                    · skip
                      refine lv_iload_n (pc := 105) hx hb dX4_wrong_105 rfl (lv_at hl 2 rfl) ?_
                      refine lv_iconst (pc := 106) (v := 1) hx hb dX4_wrong_106 (by decide) ?_
                      refine lv_iadd (pc := 107) hx hb dX4_wrong_107 ?_
                      refine lv_goto (pc := 108) (tgt := 112) hx hb dX4_wrong_108 (by decide) ?_
                      refine lv_istore_n (pc := 112) (lv' := [(1, .int (q + 1)), (3, .int (nI j)), (2, .int (nI d)), (0, .ref (ad 20 0))]) hx hb dX4_wrong_112 rfl hl (by decide) rfl (fun ls hl => ?_)
                      refine lv_iinc (pc := 113) (k := 1) (v := nI (j + 1)) (lv' := [(3, .int (nI (j + 1))), (1, .int (q + 1)), (2, .int (nI d)), (0, .ref (ad 20 0))]) hx hb dX4_wrong_113 hl rfl (nI_1 _) (by decide) rfl (fun ls hl => ?_)
                      refine lv_goto (pc := 116) (tgt := 75) hx hb dX4_wrong_116 (by decide) ?_
                      exact ihloop75 (j + 1) (q + 1) ls _ _ (by omega) (by omega) (by rw [hg, show 8 - j = (8 - (j + 1)) + 1 by omega, ys_wf]; congr 1; simp [h11]) hM (lv_sub hl [0, 2, 1, 3] rfl)
              exact loop75 _ 0 (k + 1) ls _ _ (Nat.lt_succ_self _) (Nat.zero_le _) (by simp [ys_w1, ys_w2, h3, h9]) hM (lv_sub hl [0, 2, 1, 3] rfl)
            · skip
              refine lv_iload_n (pc := 65) hx hb dX4_wrong_65 rfl (lv_at hl 0 rfl) ?_
              refine lv_iconst (pc := 66) (v := 1) hx hb dX4_wrong_66 (by decide) ?_
              refine lv_iadd (pc := 67) hx hb dX4_wrong_67 ?_
              refine lv_goto (pc := 68) (tgt := 72) hx hb dX4_wrong_68 (by decide) ?_
              refine lv_istore_n (pc := 72) (lv' := [(1, .int ((k + 1) + 1)), (2, .int (nI d)), (0, .ref (ad 20 0))]) hx hb dX4_wrong_72 rfl hl (by decide) rfl (fun ls hl => ?_)
              refine lv_iconst (pc := 73) (v := 0) hx hb dX4_wrong_73 (by decide) ?_
              refine lv_istore_n (pc := 74) (lv' := [(3, .int 0), (1, .int ((k + 1) + 1)), (2, .int (nI d)), (0, .ref (ad 20 0))]) hx hb dX4_wrong_74 rfl hl (by decide) rfl (fun ls hl => ?_)
              have loop75 : ∀ (n : Nat) (j : Nat) (q : Int32) (ls : Array Slot) (H : Heap) (locs : List Loc), 8 - j < n → (j ≤ 8) → (ys_wf I d 8 0 (ys_w2 I d (ys_w1 I d k)) = ys_wf I d (8 - j) j q) → nf_M D vwCl Bs (xS cs nn) ad I J P s.heap H locs → lv_has ls 4 [(3, .int (nI j)), (2, .int (nI d)), (1, .int q), (0, .ref (ad 20 0))] → W p l e (nf_Rm 1 24) s m ([.ref (ad 20 0)] : List Value).toArray below meth c H locs 0 0 Q (F0 m 75 ls []) := by
                intro n
                induction n with
                | zero => exact fun _ _ _ _ _ hmz => absurd hmz (Nat.not_lt_zero _)
                | succ n ihloop75 =>
                  intro j q ls H locs hmz hjn hg hM hl
                  refine lv_iload_n (pc := 75) hx hb dX4_wrong_75 rfl (lv_at hl 0 rfl) ?_
                  refine lv_bipush (pc := 76) (v := nI 8) hx hb dX4_wrong_76 (by decide) ?_
                  refine lv_icmp_ge (pc := 78) (tgt := 119) hx hb dX4_wrong_78 (by decide) (fun hh => ?_) (fun hh => ?_)
                  · have hj12 : 8 ≤ j := (nI_leI (by omega) (by omega)).mp (by exact hh)
                    refine lv_iinc (pc := 119) (k := 1) (v := nI (d + 1)) (lv' := [(2, .int (nI (d + 1))), (3, .int (nI j)), (1, .int q), (0, .ref (ad 20 0))]) hx hb dX4_wrong_119 hl rfl (nI_1 _) (by decide) rfl (fun ls hl => ?_)
                    refine lv_goto (pc := 122) (tgt := 4) hx hb dX4_wrong_122 (by decide) ?_
                    exact ihloop4 (d + 1) q ls _ _ (by omega) (by omega) (by rw [hf, show 256 - d = (256 - (d + 1)) + 1 by omega, ys_wr, if_pos h2, hg, show 8 - j = 0 by omega]; rfl) hM (lv_sub hl [0, 2, 3] rfl)
                  · have hj12 : j < 8 := Nat.lt_of_not_le (fun z => hh (by exact (nI_leI (by omega) (by omega)).mpr z))
                    refine lv_aload_n (pc := 81) hx hb dX4_wrong_81 rfl (lv_at hl 3 rfl) ?_
                    refine nf_getr (pc := 82) hC hinX4 hM rfl rfl 4 (by decide) (List.mem_cons_of_mem _ wF_X4_19) rfl dX4_wrong_82 ?_
                    refine lv_bipush (pc := 85) (v := 8) hx hb dX4_wrong_85 (by decide) ?_
                    refine lv_iload_n (pc := 87) hx hb dX4_wrong_87 rfl (lv_at hl 1 rfl) ?_
                    refine lv_imul (pc := 88) hx hb dX4_wrong_88 ?_
                    refine lv_iload_n (pc := 89) hx hb dX4_wrong_89 rfl (lv_at hl 0 rfl) ?_
                    refine lv_iadd (pc := 90) hx hb dX4_wrong_90 ?_
                    refine nf_iald (pc := 91) hC hM 0 rfl rfl (8 * d + j) (nk_8 rfl rfl) (by omega) (by decide) dX4_wrong_91 ?_
                    refine lv_aload_n (pc := 92) hx hb dX4_wrong_92 rfl (lv_at hl 3 rfl) ?_
                    refine lv_iload_n (pc := 93) hx hb dX4_wrong_93 rfl (lv_at hl 1 rfl) ?_
                    refine lv_iconst (pc := 94) (v := 1) hx hb dX4_wrong_94 (by decide) ?_
                    refine lv_iload_n (pc := 95) hx hb dX4_wrong_95 rfl (lv_at hl 0 rfl) ?_
                    refine lv_ishl (pc := 96) hx hb dX4_wrong_96 ?_
                    refine lv_iadd (pc := 97) hx hb dX4_wrong_97 ?_
                    refine lv_iconst (pc := 98) (v := 1) hx hb dX4_wrong_98 (by decide) ?_
                    refine nf_calli (pc := 99) (va_runV (As := [.int ((nI d) + (1 <<< ((nI j) &&& 31))), .int 1]) (rest := [.int (I 24 0 (8 * d + j))]) hC.1 (ct_X4_first) (cwV 2 hC.1.2.2.2.2 (gd_V wM_X4_141 wi_X4_first wsel_X4_first wini_X4 wcode_X4_first) rfl rfl rfl (by decide +kernel) ⟨by decide, by decide⟩) (nf_preV hC hM rfl rfl) rfl rfl hl.1 rfl (lv_room (Nat.le_of_ble_eq_true rfl)) dX4_wrong_99 ⟨Nat.le_refl _, Nat.le_refl _⟩) hM (fun H locs hM => ?_)
                    refine lv_icmp_eq (pc := 102) (tgt := 111) hx hb dX4_wrong_102 (by decide) (fun h13 => ?_) (fun h13 => ?_)
                    · skip
                      refine lv_iload_n (pc := 111) hx hb dX4_wrong_111 rfl (lv_at hl 2 rfl) ?_
                      refine lv_istore_n (pc := 112) (lv' := [(1, .int q), (3, .int (nI j)), (2, .int (nI d)), (0, .ref (ad 20 0))]) hx hb dX4_wrong_112 rfl hl (by decide) rfl (fun ls hl => ?_)
                      refine lv_iinc (pc := 113) (k := 1) (v := nI (j + 1)) (lv' := [(3, .int (nI (j + 1))), (1, .int q), (2, .int (nI d)), (0, .ref (ad 20 0))]) hx hb dX4_wrong_113 hl rfl (nI_1 _) (by decide) rfl (fun ls hl => ?_)
                      refine lv_goto (pc := 116) (tgt := 75) hx hb dX4_wrong_116 (by decide) ?_
                      exact ihloop75 (j + 1) q ls _ _ (by omega) (by omega) (by rw [hg, show 8 - j = (8 - (j + 1)) + 1 by omega, ys_wf]; congr 1; simp [h13]) hM (lv_sub hl [0, 2, 1, 3] rfl)
                    · skip
                      refine lv_iload_n (pc := 105) hx hb dX4_wrong_105 rfl (lv_at hl 2 rfl) ?_
                      refine lv_iconst (pc := 106) (v := 1) hx hb dX4_wrong_106 (by decide) ?_
                      refine lv_iadd (pc := 107) hx hb dX4_wrong_107 ?_
                      refine lv_goto (pc := 108) (tgt := 112) hx hb dX4_wrong_108 (by decide) ?_
                      refine lv_istore_n (pc := 112) (lv' := [(1, .int (q + 1)), (3, .int (nI j)), (2, .int (nI d)), (0, .ref (ad 20 0))]) hx hb dX4_wrong_112 rfl hl (by decide) rfl (fun ls hl => ?_)
                      refine lv_iinc (pc := 113) (k := 1) (v := nI (j + 1)) (lv' := [(3, .int (nI (j + 1))), (1, .int (q + 1)), (2, .int (nI d)), (0, .ref (ad 20 0))]) hx hb dX4_wrong_113 hl rfl (nI_1 _) (by decide) rfl (fun ls hl => ?_)
                      refine lv_goto (pc := 116) (tgt := 75) hx hb dX4_wrong_116 (by decide) ?_
                      exact ihloop75 (j + 1) (q + 1) ls _ _ (by omega) (by omega) (by rw [hg, show 8 - j = (8 - (j + 1)) + 1 by omega, ys_wf]; congr 1; simp [h13]) hM (lv_sub hl [0, 2, 1, 3] rfl)
              exact loop75 _ 0 ((k + 1) + 1) ls _ _ (Nat.lt_succ_self _) (Nat.zero_le _) (by simp [ys_w1, ys_w2, h3, h9]) hM (lv_sub hl [0, 2, 1, 3] rfl)
  exact loop4 _ 0 0 ls _ _ (Nat.lt_succ_self _) (Nat.zero_le _) rfl hM hl
set_option maxHeartbeats 4000000 in
set_option maxRecDepth 100000 in
theorem ct_X4_misplaced  (hkp : I 20 0 7 = nI kp) (hk2 : kp ≤ 120) : nf_Ti l yX4_misplaced wsX4_misplaced 1 24 D vwCl (xT cs) Bs (xS cs nn) ad [.ref (ad 20 0)] I J P (ys_mp I kp 0 0) I J P := by
  refine nf_enteri (cc := cX4_misplaced) (maxL := 3) (by decide) rfl (Nat.le_of_ble_eq_true rfl) ?_
  intro p e s m below meth c ls Q hC hM hl hret
  have hx := hC.1.1
  have hb := hC.1.2.1
  have hl : lv_has ls 3 [(0, .ref (ad 20 0))] := hl
  have hinX4 : ∀ w ∈ u_ws RX4 TX4 22, w ∈ wsX4_misplaced := fun w h => List.mem_cons_of_mem _ (inX4 w h)
  refine lv_iconst (pc := 0) (v := 0) hx hb dX4_misplaced_0 (by decide) ?_
  refine lv_istore_n (pc := 1) (lv' := [(1, .int 0), (0, .ref (ad 20 0))]) hx hb dX4_misplaced_1 rfl hl (by decide) rfl (fun ls hl => ?_)
  refine lv_iconst (pc := 2) (v := 0) hx hb dX4_misplaced_2 (by decide) ?_
  refine lv_istore_n (pc := 3) (lv' := [(2, .int 0), (1, .int 0), (0, .ref (ad 20 0))]) hx hb dX4_misplaced_3 rfl hl (by decide) rfl (fun ls hl => ?_)
  have loop4 : ∀ (n : Nat) (j : Nat) (k : Int32) (ls : Array Slot) (H : Heap) (locs : List Loc), kp - j < n → (j ≤ kp) → (ys_mp I kp 0 0 = ys_mp I (kp - j) j k) → nf_M D vwCl Bs (xS cs nn) ad I J P s.heap H locs → lv_has ls 3 [(2, .int (nI j)), (1, .int k), (0, .ref (ad 20 0))] → W p l e (nf_Rm 1 24) s m ([.ref (ad 20 0)] : List Value).toArray below meth c H locs 0 0 Q (F0 m 4 ls []) := by
    intro n
    induction n with
    | zero => exact fun _ _ _ _ _ hmz => absurd hmz (Nat.not_lt_zero _)
    | succ n ihloop4 =>
      intro j k ls H locs hmz hjn hf hM hl
      refine lv_iload_n (pc := 4) hx hb dX4_misplaced_4 rfl (lv_at hl 0 rfl) ?_
      refine lv_aload_n (pc := 5) hx hb dX4_misplaced_5 rfl (lv_at hl 2 rfl) ?_
      refine nf_geti (pc := 6) hC hinX4 hM rfl rfl 7 (by decide) (List.mem_cons_of_mem _ wF_X4_96) rfl dX4_misplaced_6 ?_
      refine lv_icmp_ge (pc := 9) (tgt := 46) hx hb dX4_misplaced_9 (by decide) (fun hh => ?_) (fun hh => ?_)
      · have hj1 : kp ≤ j := (nI_leI (by omega) (by omega)).mp (by rw [hkp] at hh; exact hh)
        refine lv_iload_n (pc := 46) hx hb dX4_misplaced_46 rfl (lv_at hl 1 rfl) ?_
        exact hret _ _ _ _ _ _ _ _ (by rw [hf, show kp - j = 0 by omega]; rfl) rfl rfl rfl hM dX4_misplaced_47
      · have hj1 : j < kp := Nat.lt_of_not_le (fun z => hh (by rw [hkp]; exact (nI_leI (by omega) (by omega)).mpr z))
        refine lv_aload_n (pc := 12) hx hb dX4_misplaced_12 rfl (lv_at hl 2 rfl) ?_
        refine lv_aload_n (pc := 13) hx hb dX4_misplaced_13 rfl (lv_at hl 2 rfl) ?_
        refine nf_getr (pc := 14) hC hinX4 hM rfl rfl 9 (by decide) (List.mem_cons_of_mem _ wF_X4_32) rfl dX4_misplaced_14 ?_
        refine lv_iload_n (pc := 17) hx hb dX4_misplaced_17 rfl (lv_at hl 0 rfl) ?_
        refine nf_iald (pc := 18) hC hM 0 rfl rfl j rfl (by omega) (by decide) dX4_misplaced_18 ?_
        refine lv_iconst (pc := 19) (v := 1) hx hb dX4_misplaced_19 (by decide) ?_
        refine nf_calli (pc := 20) (va_runV (As := [.int (I 28 0 j), .int 1]) (rest := []) hC.1 (ct_X4_first) (cwV 2 hC.1.2.2.2.2 (gd_V wM_X4_141 wi_X4_first wsel_X4_first wini_X4 wcode_X4_first) rfl rfl rfl (by decide +kernel) ⟨by decide, by decide⟩) (nf_preV hC hM rfl rfl) rfl rfl hl.1 rfl (lv_room (Nat.le_of_ble_eq_true rfl)) dX4_misplaced_20 ⟨Nat.le_refl _, Nat.le_refl _⟩) hM (fun H locs hM => ?_)
        refine lv_aload_n (pc := 23) hx hb dX4_misplaced_23 rfl (lv_at hl 2 rfl) ?_
        refine nf_getr (pc := 24) hC hinX4 hM rfl rfl 8 (by decide) (List.mem_cons_of_mem _ wF_X4_29) rfl dX4_misplaced_24 ?_
        refine lv_iload_n (pc := 27) hx hb dX4_misplaced_27 rfl (lv_at hl 0 rfl) ?_
        refine nf_iald (pc := 28) hC hM 0 rfl rfl j rfl (by omega) (by decide) dX4_misplaced_28 ?_
        refine lv_icmp_eq (pc := 29) (tgt := 38) hx hb dX4_misplaced_29 (by decide) (fun h2 => ?_) (fun h2 => ?_)
        · skip
          refine lv_iload_n (pc := 38) hx hb dX4_misplaced_38 rfl (lv_at hl 1 rfl) ?_
          refine lv_istore_n (pc := 39) (lv' := [(1, .int k), (2, .int (nI j)), (0, .ref (ad 20 0))]) hx hb dX4_misplaced_39 rfl hl (by decide) rfl (fun ls hl => ?_)
          refine lv_iinc (pc := 40) (k := 1) (v := nI (j + 1)) (lv' := [(2, .int (nI (j + 1))), (1, .int k), (0, .ref (ad 20 0))]) hx hb dX4_misplaced_40 hl rfl (nI_1 _) (by decide) rfl (fun ls hl => ?_)
          refine lv_goto (pc := 43) (tgt := 4) hx hb dX4_misplaced_43 (by decide) ?_
          exact ihloop4 (j + 1) k ls _ _ (by omega) (by omega) (by rw [hf, show kp - j = (kp - (j + 1)) + 1 by omega, ys_mp]; congr 1; simp [h2]) hM hl
        · skip
          refine lv_iload_n (pc := 32) hx hb dX4_misplaced_32 rfl (lv_at hl 1 rfl) ?_
          refine lv_iconst (pc := 33) (v := 1) hx hb dX4_misplaced_33 (by decide) ?_
          refine lv_iadd (pc := 34) hx hb dX4_misplaced_34 ?_
          refine lv_goto (pc := 35) (tgt := 39) hx hb dX4_misplaced_35 (by decide) ?_
          refine lv_istore_n (pc := 39) (lv' := [(1, .int (k + 1)), (2, .int (nI j)), (0, .ref (ad 20 0))]) hx hb dX4_misplaced_39 rfl hl (by decide) rfl (fun ls hl => ?_)
          refine lv_iinc (pc := 40) (k := 1) (v := nI (j + 1)) (lv' := [(2, .int (nI (j + 1))), (1, .int (k + 1)), (0, .ref (ad 20 0))]) hx hb dX4_misplaced_40 hl rfl (nI_1 _) (by decide) rfl (fun ls hl => ?_)
          refine lv_goto (pc := 43) (tgt := 4) hx hb dX4_misplaced_43 (by decide) ?_
          exact ihloop4 (j + 1) (k + 1) ls _ _ (by omega) (by omega) (by rw [hf, show kp - j = (kp - (j + 1)) + 1 by omega, ys_mp]; congr 1; simp [h2]) hM hl
  exact loop4 _ 0 0 ls _ _ (Nat.lt_succ_self _) (Nat.zero_le _) rfl hM hl
end YB
