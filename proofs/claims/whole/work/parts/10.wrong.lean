/-! wrongPointers, wrong. -/
section XW
variable {l : Launch} {D : va_G} {cs : Nat → ClassId} {Bs nn : Nat} {ad : nf_A} {I : nf_I} {J : nf_J} {mp : Nat → Nat}
set_option maxHeartbeats 4000000 in
set_option maxRecDepth 100000 in
theorem ct_X3_wrongPointers {i : Nat} (hn : I 0 0 1 = nI nn) (hnn : nn ≤ 12) (hi : i < nn) : nf_Ti l yX3_wrongPointers wsX3_wrongPointers 2 45 D vwCl (xT cs) Bs (xS cs nn) ad [.ref (ad 0 0), .ref (ad 5 i)] I J (xP nn mp) (xs_wp I nn i) I J (xP nn mp) := by
  refine nf_enteri (cc := cX3_wrongPointers) (maxL := 4) (by decide) rfl (Nat.le_of_ble_eq_true rfl) ?_
  intro p e s m below meth c ls Q hC hM hl hret
  have hx := hC.1.1
  have hb := hC.1.2.1
  have hl : lv_has ls 4 [(0, .ref (ad 0 0)), (1, .ref (ad 5 i))] := hl
  have hinX1 : ∀ w ∈ u_ws RX1 TX1 7, w ∈ wsX3_wrongPointers := fun w h => List.mem_cons_of_mem _ (inX1 w h)
  refine lv_iconst (pc := 0) (v := 0) hx hb dX3_wrongPointers_0 (by decide) ?_
  refine lv_istore_n (pc := 1) (lv' := [(2, .int 0), (0, .ref (ad 0 0)), (1, .ref (ad 5 i))]) hx hb dX3_wrongPointers_1 rfl hl (by decide) rfl (fun ls hl => ?_)
  refine lv_aload_n (pc := 2) hx hb dX3_wrongPointers_2 rfl (lv_at hl 2 rfl) ?_
  refine nf_geti (pc := 3) hC hinX1 hM (xS_5 (by first | assumption | omega)) rfl 1 (by decide) (List.mem_cons_of_mem _ wF_X3_41) rfl dX3_wrongPointers_3 ?_
  refine lv_aload_n (pc := 6) hx hb dX3_wrongPointers_6 rfl (lv_at hl 1 rfl) ?_
  refine lv_aload_n (pc := 7) hx hb dX3_wrongPointers_7 rfl (lv_at hl 2 rfl) ?_
  refine nf_geti (pc := 8) hC hinX1 hM (xS_5 (by first | assumption | omega)) rfl 0 (by decide) (List.mem_cons_of_mem _ wF_X3_135) rfl dX3_wrongPointers_8 ?_
  refine lv_iconst (pc := 11) (v := 1) hx hb dX3_wrongPointers_11 (by decide) ?_
  refine lv_iadd (pc := 12) hx hb dX3_wrongPointers_12 ?_
  refine nf_calli (pc := 13) (va_runV (As := [.int ((I 5 i 0) + 1)]) (rest := [.int (I 5 i 1)]) hC.1 (ct_X3_firstUpFrom (st := ((I 5 i 0) + 1)) hn hnn) (cwV 1 hC.1.2.2.2.2 (gd_V wM_X3_125 wi_X3_firstUpFrom wsel_X3_firstUpFrom wini_X3 wcode_X3_firstUpFrom) rfl rfl rfl (by decide +kernel) ⟨by decide, by decide⟩) (nf_preV hC hM rfl rfl) rfl rfl hl.1 rfl (lv_room (Nat.le_of_ble_eq_true rfl)) dX3_wrongPointers_13 ⟨Nat.le_refl _, Nat.le_refl _⟩) hM (fun H locs hM => ?_)
  refine lv_icmp_eq (pc := 16) (tgt := 22) hx hb dX3_wrongPointers_16 (by decide) (fun h1 => ?_) (fun h1 => ?_)
  · skip
    refine lv_aload_n (pc := 22) hx hb dX3_wrongPointers_22 rfl (lv_at hl 2 rfl) ?_
    refine nf_geti (pc := 23) hC hinX1 hM (xS_5 (by first | assumption | omega)) rfl 2 (by decide) (List.mem_cons_of_mem _ wF_X3_101) rfl dX3_wrongPointers_23 ?_
    refine lv_aload_n (pc := 26) hx hb dX3_wrongPointers_26 rfl (lv_at hl 1 rfl) ?_
    refine lv_aload_n (pc := 27) hx hb dX3_wrongPointers_27 rfl (lv_at hl 2 rfl) ?_
    refine nf_geti (pc := 28) hC hinX1 hM (xS_5 (by first | assumption | omega)) rfl 0 (by decide) (List.mem_cons_of_mem _ wF_X3_135) rfl dX3_wrongPointers_28 ?_
    refine lv_iconst (pc := 31) (v := 1) hx hb dX3_wrongPointers_31 (by decide) ?_
    refine lv_isub (pc := 32) hx hb dX3_wrongPointers_32 ?_
    refine nf_calli (pc := 33) (va_runV (As := [.int ((I 5 i 0) - 1)]) (rest := [.int (I 5 i 2)]) hC.1 (ct_X3_firstDownFrom (st := ((I 5 i 0) - 1)) hn hnn) (cwV 1 hC.1.2.2.2.2 (gd_V wM_X3_144 wi_X3_firstDownFrom wsel_X3_firstDownFrom wini_X3 wcode_X3_firstDownFrom) rfl rfl rfl (by decide +kernel) ⟨by decide, by decide⟩) (nf_preV hC hM rfl rfl) rfl rfl hl.1 rfl (lv_room (Nat.le_of_ble_eq_true rfl)) dX3_wrongPointers_33 ⟨Nat.le_refl _, Nat.le_refl _⟩) hM (fun H locs hM => ?_)
    refine lv_icmp_eq (pc := 36) (tgt := 42) hx hb dX3_wrongPointers_36 (by decide) (fun h2 => ?_) (fun h2 => ?_)
    · skip
      refine lv_iconst (pc := 42) (v := 0) hx hb dX3_wrongPointers_42 (by decide) ?_
      refine lv_istore_n (pc := 43) (lv' := [(3, .int 0), (2, .int 0), (0, .ref (ad 0 0)), (1, .ref (ad 5 i))]) hx hb dX3_wrongPointers_43 rfl hl (by decide) rfl (fun ls hl => ?_)
      have loop44 : ∀ (n : Nat) (j : Nat) (k : Int32) (ls : Array Slot) (H : Heap) (locs : List Loc), 8 - j < n → (j ≤ 8) → (xs_wp I nn i = xs_wf I nn i (8 - j) j k) → nf_M D vwCl Bs (xS cs nn) ad I J (xP nn mp) s.heap H locs → lv_has ls 4 [(3, .int (nI j)), (2, .int k), (0, .ref (ad 0 0)), (1, .ref (ad 5 i))] → W p l e (nf_Rm 2 45) s m ([.ref (ad 0 0), .ref (ad 5 i)] : List Value).toArray below meth c H locs 0 0 Q (F0 m 44 ls []) := by
        intro n
        induction n with
        | zero => exact fun _ _ _ _ _ hmz => absurd hmz (Nat.not_lt_zero _)
        | succ n ihloop44 =>
          intro j k ls H locs hmz hjn hf hM hl
          refine lv_iload_n (pc := 44) hx hb dX3_wrongPointers_44 rfl (lv_at hl 0 rfl) ?_
          refine lv_bipush (pc := 45) (v := nI 8) hx hb dX3_wrongPointers_45 (by decide) ?_
          refine lv_icmp_ge (pc := 47) (tgt := 80) hx hb dX3_wrongPointers_47 (by decide) (fun hh => ?_) (fun hh => ?_)
          · have hj3 : 8 ≤ j := (nI_leI (by omega) (by omega)).mp (by exact hh)
            refine lv_iload_n (pc := 80) hx hb dX3_wrongPointers_80 rfl (lv_at hl 1 rfl) ?_
            exact hret _ _ _ _ _ _ _ _ (by rw [hf, show 8 - j = 0 by omega]; rfl) rfl rfl rfl hM dX3_wrongPointers_81
          · have hj3 : j < 8 := Nat.lt_of_not_le (fun z => hh (by exact (nI_leI (by omega) (by omega)).mpr z))
            refine lv_aload_n (pc := 50) hx hb dX3_wrongPointers_50 rfl (lv_at hl 3 rfl) ?_
            refine nf_getr (pc := 51) hC hinX1 hM (xS_5 (by first | assumption | omega)) rfl 3 (by decide) (List.mem_cons_of_mem _ wF_X3_104) rfl dX3_wrongPointers_51 ?_
            refine lv_iload_n (pc := 54) hx hb dX3_wrongPointers_54 rfl (lv_at hl 0 rfl) ?_
            refine nf_iald (pc := 55) hC hM 0 (xS_6 (by first | assumption | omega)) rfl j rfl (by omega) (by decide) dX3_wrongPointers_55 ?_
            refine lv_aload_n (pc := 56) hx hb dX3_wrongPointers_56 rfl (lv_at hl 2 rfl) ?_
            refine lv_aload_n (pc := 57) hx hb dX3_wrongPointers_57 rfl (lv_at hl 3 rfl) ?_
            refine nf_geti (pc := 58) hC hinX1 hM (xS_5 (by first | assumption | omega)) rfl 0 (by decide) (List.mem_cons_of_mem _ wF_X3_135) rfl dX3_wrongPointers_58 ?_
            refine lv_iload_n (pc := 61) hx hb dX3_wrongPointers_61 rfl (lv_at hl 0 rfl) ?_
            refine nf_calli (pc := 62) (va_runS (As := [.int (I 5 i 0), .int (nI j)]) (rest := [.ref (ad 0 0), .int (I 6 i j)]) hC.1 (ct_X3_fingerStart) (cwS 2 hC.1.2.2.2.2 (gd_S wM_X3_70 wst_X3_fingerStart wini_X3 wcode_X3_fingerStart) rfl rfl rfl (by decide +kernel) ⟨by decide, by decide⟩) (nf_preS hC hM) rfl rfl hl.1 rfl (lv_room (Nat.le_of_ble_eq_true rfl)) dX3_wrongPointers_62 ⟨Nat.le_refl _, Nat.le_refl _⟩) hM (fun H locs hM => ?_)
            refine nf_calli (pc := 65) (va_runV (As := [.int (xs_fst (I 5 i 0) (nI j))]) (rest := [.int (I 6 i j)]) hC.1 (ct_X3_firstUpFrom (st := (xs_fst (I 5 i 0) (nI j))) hn hnn) (cwV 1 hC.1.2.2.2.2 (gd_V wM_X3_125 wi_X3_firstUpFrom wsel_X3_firstUpFrom wini_X3 wcode_X3_firstUpFrom) rfl rfl rfl (by decide +kernel) ⟨by decide, by decide⟩) (nf_preV hC hM rfl rfl) rfl rfl hl.1 rfl (lv_room (Nat.le_of_ble_eq_true rfl)) dX3_wrongPointers_65 ⟨Nat.le_refl _, Nat.le_refl _⟩) hM (fun H locs hM => ?_)
            refine lv_icmp_eq (pc := 68) (tgt := 74) hx hb dX3_wrongPointers_68 (by decide) (fun h4 => ?_) (fun h4 => ?_)
            · skip
              refine lv_iinc (pc := 74) (k := 0) (v := nI (j + 1)) (lv' := [(3, .int (nI (j + 1))), (2, .int k), (0, .ref (ad 0 0)), (1, .ref (ad 5 i))]) hx hb dX3_wrongPointers_74 hl rfl (nI_1 _) (by decide) rfl (fun ls hl => ?_)
              refine lv_goto (pc := 77) (tgt := 44) hx hb dX3_wrongPointers_77 (by decide) ?_
              exact ihloop44 (j + 1) k ls _ _ (by omega) (by omega) (by rw [hf, show 8 - j = (8 - (j + 1)) + 1 by omega, xs_wf]; congr 1; simp [h4]) hM hl
            · skip
              refine lv_iinc (pc := 71) (k := 1) (v := k + 1) (lv' := [(2, .int (k + 1)), (3, .int (nI j)), (0, .ref (ad 0 0)), (1, .ref (ad 5 i))]) hx hb dX3_wrongPointers_71 hl rfl rfl (by decide) rfl (fun ls hl => ?_)
              refine lv_iinc (pc := 74) (k := 1) (v := nI (j + 1)) (lv' := [(3, .int (nI (j + 1))), (2, .int (k + 1)), (0, .ref (ad 0 0)), (1, .ref (ad 5 i))]) hx hb dX3_wrongPointers_74 hl rfl (nI_1 _) (by decide) rfl (fun ls hl => ?_)
              refine lv_goto (pc := 77) (tgt := 44) hx hb dX3_wrongPointers_77 (by decide) ?_
              exact ihloop44 (j + 1) (k + 1) ls _ _ (by omega) (by omega) (by rw [hf, show 8 - j = (8 - (j + 1)) + 1 by omega, xs_wf]; congr 1; simp [h4]) hM hl
      exact loop44 _ 0 0 ls _ _ (Nat.lt_succ_self _) (Nat.zero_le _) (by simp [xs_wp, h1, h2]) hM hl
    · skip
      refine lv_iinc (pc := 39) (k := 0) (v := 0 + 1) (lv' := [(2, .int (0 + 1)), (0, .ref (ad 0 0)), (1, .ref (ad 5 i))]) hx hb dX3_wrongPointers_39 hl rfl rfl (by decide) rfl (fun ls hl => ?_)
      refine lv_iconst (pc := 42) (v := 0) hx hb dX3_wrongPointers_42 (by decide) ?_
      refine lv_istore_n (pc := 43) (lv' := [(3, .int 0), (2, .int (0 + 1)), (0, .ref (ad 0 0)), (1, .ref (ad 5 i))]) hx hb dX3_wrongPointers_43 rfl hl (by decide) rfl (fun ls hl => ?_)
      have loop44 : ∀ (n : Nat) (j : Nat) (k : Int32) (ls : Array Slot) (H : Heap) (locs : List Loc), 8 - j < n → (j ≤ 8) → (xs_wp I nn i = xs_wf I nn i (8 - j) j k) → nf_M D vwCl Bs (xS cs nn) ad I J (xP nn mp) s.heap H locs → lv_has ls 4 [(3, .int (nI j)), (2, .int k), (0, .ref (ad 0 0)), (1, .ref (ad 5 i))] → W p l e (nf_Rm 2 45) s m ([.ref (ad 0 0), .ref (ad 5 i)] : List Value).toArray below meth c H locs 0 0 Q (F0 m 44 ls []) := by
        intro n
        induction n with
        | zero => exact fun _ _ _ _ _ hmz => absurd hmz (Nat.not_lt_zero _)
        | succ n ihloop44 =>
          intro j k ls H locs hmz hjn hf hM hl
          refine lv_iload_n (pc := 44) hx hb dX3_wrongPointers_44 rfl (lv_at hl 0 rfl) ?_
          refine lv_bipush (pc := 45) (v := nI 8) hx hb dX3_wrongPointers_45 (by decide) ?_
          refine lv_icmp_ge (pc := 47) (tgt := 80) hx hb dX3_wrongPointers_47 (by decide) (fun hh => ?_) (fun hh => ?_)
          · have hj5 : 8 ≤ j := (nI_leI (by omega) (by omega)).mp (by exact hh)
            refine lv_iload_n (pc := 80) hx hb dX3_wrongPointers_80 rfl (lv_at hl 1 rfl) ?_
            exact hret _ _ _ _ _ _ _ _ (by rw [hf, show 8 - j = 0 by omega]; rfl) rfl rfl rfl hM dX3_wrongPointers_81
          · have hj5 : j < 8 := Nat.lt_of_not_le (fun z => hh (by exact (nI_leI (by omega) (by omega)).mpr z))
            refine lv_aload_n (pc := 50) hx hb dX3_wrongPointers_50 rfl (lv_at hl 3 rfl) ?_
            refine nf_getr (pc := 51) hC hinX1 hM (xS_5 (by first | assumption | omega)) rfl 3 (by decide) (List.mem_cons_of_mem _ wF_X3_104) rfl dX3_wrongPointers_51 ?_
            refine lv_iload_n (pc := 54) hx hb dX3_wrongPointers_54 rfl (lv_at hl 0 rfl) ?_
            refine nf_iald (pc := 55) hC hM 0 (xS_6 (by first | assumption | omega)) rfl j rfl (by omega) (by decide) dX3_wrongPointers_55 ?_
            refine lv_aload_n (pc := 56) hx hb dX3_wrongPointers_56 rfl (lv_at hl 2 rfl) ?_
            refine lv_aload_n (pc := 57) hx hb dX3_wrongPointers_57 rfl (lv_at hl 3 rfl) ?_
            refine nf_geti (pc := 58) hC hinX1 hM (xS_5 (by first | assumption | omega)) rfl 0 (by decide) (List.mem_cons_of_mem _ wF_X3_135) rfl dX3_wrongPointers_58 ?_
            refine lv_iload_n (pc := 61) hx hb dX3_wrongPointers_61 rfl (lv_at hl 0 rfl) ?_
            refine nf_calli (pc := 62) (va_runS (As := [.int (I 5 i 0), .int (nI j)]) (rest := [.ref (ad 0 0), .int (I 6 i j)]) hC.1 (ct_X3_fingerStart) (cwS 2 hC.1.2.2.2.2 (gd_S wM_X3_70 wst_X3_fingerStart wini_X3 wcode_X3_fingerStart) rfl rfl rfl (by decide +kernel) ⟨by decide, by decide⟩) (nf_preS hC hM) rfl rfl hl.1 rfl (lv_room (Nat.le_of_ble_eq_true rfl)) dX3_wrongPointers_62 ⟨Nat.le_refl _, Nat.le_refl _⟩) hM (fun H locs hM => ?_)
            refine nf_calli (pc := 65) (va_runV (As := [.int (xs_fst (I 5 i 0) (nI j))]) (rest := [.int (I 6 i j)]) hC.1 (ct_X3_firstUpFrom (st := (xs_fst (I 5 i 0) (nI j))) hn hnn) (cwV 1 hC.1.2.2.2.2 (gd_V wM_X3_125 wi_X3_firstUpFrom wsel_X3_firstUpFrom wini_X3 wcode_X3_firstUpFrom) rfl rfl rfl (by decide +kernel) ⟨by decide, by decide⟩) (nf_preV hC hM rfl rfl) rfl rfl hl.1 rfl (lv_room (Nat.le_of_ble_eq_true rfl)) dX3_wrongPointers_65 ⟨Nat.le_refl _, Nat.le_refl _⟩) hM (fun H locs hM => ?_)
            refine lv_icmp_eq (pc := 68) (tgt := 74) hx hb dX3_wrongPointers_68 (by decide) (fun h6 => ?_) (fun h6 => ?_)
            · skip
              refine lv_iinc (pc := 74) (k := 0) (v := nI (j + 1)) (lv' := [(3, .int (nI (j + 1))), (2, .int k), (0, .ref (ad 0 0)), (1, .ref (ad 5 i))]) hx hb dX3_wrongPointers_74 hl rfl (nI_1 _) (by decide) rfl (fun ls hl => ?_)
              refine lv_goto (pc := 77) (tgt := 44) hx hb dX3_wrongPointers_77 (by decide) ?_
              exact ihloop44 (j + 1) k ls _ _ (by omega) (by omega) (by rw [hf, show 8 - j = (8 - (j + 1)) + 1 by omega, xs_wf]; congr 1; simp [h6]) hM hl
            · skip
              refine lv_iinc (pc := 71) (k := 1) (v := k + 1) (lv' := [(2, .int (k + 1)), (3, .int (nI j)), (0, .ref (ad 0 0)), (1, .ref (ad 5 i))]) hx hb dX3_wrongPointers_71 hl rfl rfl (by decide) rfl (fun ls hl => ?_)
              refine lv_iinc (pc := 74) (k := 1) (v := nI (j + 1)) (lv' := [(3, .int (nI (j + 1))), (2, .int (k + 1)), (0, .ref (ad 0 0)), (1, .ref (ad 5 i))]) hx hb dX3_wrongPointers_74 hl rfl (nI_1 _) (by decide) rfl (fun ls hl => ?_)
              refine lv_goto (pc := 77) (tgt := 44) hx hb dX3_wrongPointers_77 (by decide) ?_
              exact ihloop44 (j + 1) (k + 1) ls _ _ (by omega) (by omega) (by rw [hf, show 8 - j = (8 - (j + 1)) + 1 by omega, xs_wf]; congr 1; simp [h6]) hM hl
      exact loop44 _ 0 (0 + 1) ls _ _ (Nat.lt_succ_self _) (Nat.zero_le _) (by simp [xs_wp, h1, h2]) hM hl
  · skip
    refine lv_iinc (pc := 19) (k := 0) (v := 0 + 1) (lv' := [(2, .int (0 + 1)), (0, .ref (ad 0 0)), (1, .ref (ad 5 i))]) hx hb dX3_wrongPointers_19 hl rfl rfl (by decide) rfl (fun ls hl => ?_)
    refine lv_aload_n (pc := 22) hx hb dX3_wrongPointers_22 rfl (lv_at hl 2 rfl) ?_
    refine nf_geti (pc := 23) hC hinX1 hM (xS_5 (by first | assumption | omega)) rfl 2 (by decide) (List.mem_cons_of_mem _ wF_X3_101) rfl dX3_wrongPointers_23 ?_
    refine lv_aload_n (pc := 26) hx hb dX3_wrongPointers_26 rfl (lv_at hl 1 rfl) ?_
    refine lv_aload_n (pc := 27) hx hb dX3_wrongPointers_27 rfl (lv_at hl 2 rfl) ?_
    refine nf_geti (pc := 28) hC hinX1 hM (xS_5 (by first | assumption | omega)) rfl 0 (by decide) (List.mem_cons_of_mem _ wF_X3_135) rfl dX3_wrongPointers_28 ?_
    refine lv_iconst (pc := 31) (v := 1) hx hb dX3_wrongPointers_31 (by decide) ?_
    refine lv_isub (pc := 32) hx hb dX3_wrongPointers_32 ?_
    refine nf_calli (pc := 33) (va_runV (As := [.int ((I 5 i 0) - 1)]) (rest := [.int (I 5 i 2)]) hC.1 (ct_X3_firstDownFrom (st := ((I 5 i 0) - 1)) hn hnn) (cwV 1 hC.1.2.2.2.2 (gd_V wM_X3_144 wi_X3_firstDownFrom wsel_X3_firstDownFrom wini_X3 wcode_X3_firstDownFrom) rfl rfl rfl (by decide +kernel) ⟨by decide, by decide⟩) (nf_preV hC hM rfl rfl) rfl rfl hl.1 rfl (lv_room (Nat.le_of_ble_eq_true rfl)) dX3_wrongPointers_33 ⟨Nat.le_refl _, Nat.le_refl _⟩) hM (fun H locs hM => ?_)
    refine lv_icmp_eq (pc := 36) (tgt := 42) hx hb dX3_wrongPointers_36 (by decide) (fun h7 => ?_) (fun h7 => ?_)
    · skip
      refine lv_iconst (pc := 42) (v := 0) hx hb dX3_wrongPointers_42 (by decide) ?_
      refine lv_istore_n (pc := 43) (lv' := [(3, .int 0), (2, .int (0 + 1)), (0, .ref (ad 0 0)), (1, .ref (ad 5 i))]) hx hb dX3_wrongPointers_43 rfl hl (by decide) rfl (fun ls hl => ?_)
      have loop44 : ∀ (n : Nat) (j : Nat) (k : Int32) (ls : Array Slot) (H : Heap) (locs : List Loc), 8 - j < n → (j ≤ 8) → (xs_wp I nn i = xs_wf I nn i (8 - j) j k) → nf_M D vwCl Bs (xS cs nn) ad I J (xP nn mp) s.heap H locs → lv_has ls 4 [(3, .int (nI j)), (2, .int k), (0, .ref (ad 0 0)), (1, .ref (ad 5 i))] → W p l e (nf_Rm 2 45) s m ([.ref (ad 0 0), .ref (ad 5 i)] : List Value).toArray below meth c H locs 0 0 Q (F0 m 44 ls []) := by
        intro n
        induction n with
        | zero => exact fun _ _ _ _ _ hmz => absurd hmz (Nat.not_lt_zero _)
        | succ n ihloop44 =>
          intro j k ls H locs hmz hjn hf hM hl
          refine lv_iload_n (pc := 44) hx hb dX3_wrongPointers_44 rfl (lv_at hl 0 rfl) ?_
          refine lv_bipush (pc := 45) (v := nI 8) hx hb dX3_wrongPointers_45 (by decide) ?_
          refine lv_icmp_ge (pc := 47) (tgt := 80) hx hb dX3_wrongPointers_47 (by decide) (fun hh => ?_) (fun hh => ?_)
          · have hj8 : 8 ≤ j := (nI_leI (by omega) (by omega)).mp (by exact hh)
            refine lv_iload_n (pc := 80) hx hb dX3_wrongPointers_80 rfl (lv_at hl 1 rfl) ?_
            exact hret _ _ _ _ _ _ _ _ (by rw [hf, show 8 - j = 0 by omega]; rfl) rfl rfl rfl hM dX3_wrongPointers_81
          · have hj8 : j < 8 := Nat.lt_of_not_le (fun z => hh (by exact (nI_leI (by omega) (by omega)).mpr z))
            refine lv_aload_n (pc := 50) hx hb dX3_wrongPointers_50 rfl (lv_at hl 3 rfl) ?_
            refine nf_getr (pc := 51) hC hinX1 hM (xS_5 (by first | assumption | omega)) rfl 3 (by decide) (List.mem_cons_of_mem _ wF_X3_104) rfl dX3_wrongPointers_51 ?_
            refine lv_iload_n (pc := 54) hx hb dX3_wrongPointers_54 rfl (lv_at hl 0 rfl) ?_
            refine nf_iald (pc := 55) hC hM 0 (xS_6 (by first | assumption | omega)) rfl j rfl (by omega) (by decide) dX3_wrongPointers_55 ?_
            refine lv_aload_n (pc := 56) hx hb dX3_wrongPointers_56 rfl (lv_at hl 2 rfl) ?_
            refine lv_aload_n (pc := 57) hx hb dX3_wrongPointers_57 rfl (lv_at hl 3 rfl) ?_
            refine nf_geti (pc := 58) hC hinX1 hM (xS_5 (by first | assumption | omega)) rfl 0 (by decide) (List.mem_cons_of_mem _ wF_X3_135) rfl dX3_wrongPointers_58 ?_
            refine lv_iload_n (pc := 61) hx hb dX3_wrongPointers_61 rfl (lv_at hl 0 rfl) ?_
            refine nf_calli (pc := 62) (va_runS (As := [.int (I 5 i 0), .int (nI j)]) (rest := [.ref (ad 0 0), .int (I 6 i j)]) hC.1 (ct_X3_fingerStart) (cwS 2 hC.1.2.2.2.2 (gd_S wM_X3_70 wst_X3_fingerStart wini_X3 wcode_X3_fingerStart) rfl rfl rfl (by decide +kernel) ⟨by decide, by decide⟩) (nf_preS hC hM) rfl rfl hl.1 rfl (lv_room (Nat.le_of_ble_eq_true rfl)) dX3_wrongPointers_62 ⟨Nat.le_refl _, Nat.le_refl _⟩) hM (fun H locs hM => ?_)
            refine nf_calli (pc := 65) (va_runV (As := [.int (xs_fst (I 5 i 0) (nI j))]) (rest := [.int (I 6 i j)]) hC.1 (ct_X3_firstUpFrom (st := (xs_fst (I 5 i 0) (nI j))) hn hnn) (cwV 1 hC.1.2.2.2.2 (gd_V wM_X3_125 wi_X3_firstUpFrom wsel_X3_firstUpFrom wini_X3 wcode_X3_firstUpFrom) rfl rfl rfl (by decide +kernel) ⟨by decide, by decide⟩) (nf_preV hC hM rfl rfl) rfl rfl hl.1 rfl (lv_room (Nat.le_of_ble_eq_true rfl)) dX3_wrongPointers_65 ⟨Nat.le_refl _, Nat.le_refl _⟩) hM (fun H locs hM => ?_)
            refine lv_icmp_eq (pc := 68) (tgt := 74) hx hb dX3_wrongPointers_68 (by decide) (fun h9 => ?_) (fun h9 => ?_)
            · skip
              refine lv_iinc (pc := 74) (k := 0) (v := nI (j + 1)) (lv' := [(3, .int (nI (j + 1))), (2, .int k), (0, .ref (ad 0 0)), (1, .ref (ad 5 i))]) hx hb dX3_wrongPointers_74 hl rfl (nI_1 _) (by decide) rfl (fun ls hl => ?_)
              refine lv_goto (pc := 77) (tgt := 44) hx hb dX3_wrongPointers_77 (by decide) ?_
              exact ihloop44 (j + 1) k ls _ _ (by omega) (by omega) (by rw [hf, show 8 - j = (8 - (j + 1)) + 1 by omega, xs_wf]; congr 1; simp [h9]) hM hl
            · skip
              refine lv_iinc (pc := 71) (k := 1) (v := k + 1) (lv' := [(2, .int (k + 1)), (3, .int (nI j)), (0, .ref (ad 0 0)), (1, .ref (ad 5 i))]) hx hb dX3_wrongPointers_71 hl rfl rfl (by decide) rfl (fun ls hl => ?_)
              refine lv_iinc (pc := 74) (k := 1) (v := nI (j + 1)) (lv' := [(3, .int (nI (j + 1))), (2, .int (k + 1)), (0, .ref (ad 0 0)), (1, .ref (ad 5 i))]) hx hb dX3_wrongPointers_74 hl rfl (nI_1 _) (by decide) rfl (fun ls hl => ?_)
              refine lv_goto (pc := 77) (tgt := 44) hx hb dX3_wrongPointers_77 (by decide) ?_
              exact ihloop44 (j + 1) (k + 1) ls _ _ (by omega) (by omega) (by rw [hf, show 8 - j = (8 - (j + 1)) + 1 by omega, xs_wf]; congr 1; simp [h9]) hM hl
      exact loop44 _ 0 (0 + 1) ls _ _ (Nat.lt_succ_self _) (Nat.zero_le _) (by simp [xs_wp, h1, h7]) hM hl
    · skip
      refine lv_iinc (pc := 39) (k := 0) (v := (0 + 1) + 1) (lv' := [(2, .int ((0 + 1) + 1)), (0, .ref (ad 0 0)), (1, .ref (ad 5 i))]) hx hb dX3_wrongPointers_39 hl rfl rfl (by decide) rfl (fun ls hl => ?_)
      refine lv_iconst (pc := 42) (v := 0) hx hb dX3_wrongPointers_42 (by decide) ?_
      refine lv_istore_n (pc := 43) (lv' := [(3, .int 0), (2, .int ((0 + 1) + 1)), (0, .ref (ad 0 0)), (1, .ref (ad 5 i))]) hx hb dX3_wrongPointers_43 rfl hl (by decide) rfl (fun ls hl => ?_)
      have loop44 : ∀ (n : Nat) (j : Nat) (k : Int32) (ls : Array Slot) (H : Heap) (locs : List Loc), 8 - j < n → (j ≤ 8) → (xs_wp I nn i = xs_wf I nn i (8 - j) j k) → nf_M D vwCl Bs (xS cs nn) ad I J (xP nn mp) s.heap H locs → lv_has ls 4 [(3, .int (nI j)), (2, .int k), (0, .ref (ad 0 0)), (1, .ref (ad 5 i))] → W p l e (nf_Rm 2 45) s m ([.ref (ad 0 0), .ref (ad 5 i)] : List Value).toArray below meth c H locs 0 0 Q (F0 m 44 ls []) := by
        intro n
        induction n with
        | zero => exact fun _ _ _ _ _ hmz => absurd hmz (Nat.not_lt_zero _)
        | succ n ihloop44 =>
          intro j k ls H locs hmz hjn hf hM hl
          refine lv_iload_n (pc := 44) hx hb dX3_wrongPointers_44 rfl (lv_at hl 0 rfl) ?_
          refine lv_bipush (pc := 45) (v := nI 8) hx hb dX3_wrongPointers_45 (by decide) ?_
          refine lv_icmp_ge (pc := 47) (tgt := 80) hx hb dX3_wrongPointers_47 (by decide) (fun hh => ?_) (fun hh => ?_)
          · have hj10 : 8 ≤ j := (nI_leI (by omega) (by omega)).mp (by exact hh)
            refine lv_iload_n (pc := 80) hx hb dX3_wrongPointers_80 rfl (lv_at hl 1 rfl) ?_
            exact hret _ _ _ _ _ _ _ _ (by rw [hf, show 8 - j = 0 by omega]; rfl) rfl rfl rfl hM dX3_wrongPointers_81
          · have hj10 : j < 8 := Nat.lt_of_not_le (fun z => hh (by exact (nI_leI (by omega) (by omega)).mpr z))
            refine lv_aload_n (pc := 50) hx hb dX3_wrongPointers_50 rfl (lv_at hl 3 rfl) ?_
            refine nf_getr (pc := 51) hC hinX1 hM (xS_5 (by first | assumption | omega)) rfl 3 (by decide) (List.mem_cons_of_mem _ wF_X3_104) rfl dX3_wrongPointers_51 ?_
            refine lv_iload_n (pc := 54) hx hb dX3_wrongPointers_54 rfl (lv_at hl 0 rfl) ?_
            refine nf_iald (pc := 55) hC hM 0 (xS_6 (by first | assumption | omega)) rfl j rfl (by omega) (by decide) dX3_wrongPointers_55 ?_
            refine lv_aload_n (pc := 56) hx hb dX3_wrongPointers_56 rfl (lv_at hl 2 rfl) ?_
            refine lv_aload_n (pc := 57) hx hb dX3_wrongPointers_57 rfl (lv_at hl 3 rfl) ?_
            refine nf_geti (pc := 58) hC hinX1 hM (xS_5 (by first | assumption | omega)) rfl 0 (by decide) (List.mem_cons_of_mem _ wF_X3_135) rfl dX3_wrongPointers_58 ?_
            refine lv_iload_n (pc := 61) hx hb dX3_wrongPointers_61 rfl (lv_at hl 0 rfl) ?_
            refine nf_calli (pc := 62) (va_runS (As := [.int (I 5 i 0), .int (nI j)]) (rest := [.ref (ad 0 0), .int (I 6 i j)]) hC.1 (ct_X3_fingerStart) (cwS 2 hC.1.2.2.2.2 (gd_S wM_X3_70 wst_X3_fingerStart wini_X3 wcode_X3_fingerStart) rfl rfl rfl (by decide +kernel) ⟨by decide, by decide⟩) (nf_preS hC hM) rfl rfl hl.1 rfl (lv_room (Nat.le_of_ble_eq_true rfl)) dX3_wrongPointers_62 ⟨Nat.le_refl _, Nat.le_refl _⟩) hM (fun H locs hM => ?_)
            refine nf_calli (pc := 65) (va_runV (As := [.int (xs_fst (I 5 i 0) (nI j))]) (rest := [.int (I 6 i j)]) hC.1 (ct_X3_firstUpFrom (st := (xs_fst (I 5 i 0) (nI j))) hn hnn) (cwV 1 hC.1.2.2.2.2 (gd_V wM_X3_125 wi_X3_firstUpFrom wsel_X3_firstUpFrom wini_X3 wcode_X3_firstUpFrom) rfl rfl rfl (by decide +kernel) ⟨by decide, by decide⟩) (nf_preV hC hM rfl rfl) rfl rfl hl.1 rfl (lv_room (Nat.le_of_ble_eq_true rfl)) dX3_wrongPointers_65 ⟨Nat.le_refl _, Nat.le_refl _⟩) hM (fun H locs hM => ?_)
            refine lv_icmp_eq (pc := 68) (tgt := 74) hx hb dX3_wrongPointers_68 (by decide) (fun h11 => ?_) (fun h11 => ?_)
            · skip
              refine lv_iinc (pc := 74) (k := 0) (v := nI (j + 1)) (lv' := [(3, .int (nI (j + 1))), (2, .int k), (0, .ref (ad 0 0)), (1, .ref (ad 5 i))]) hx hb dX3_wrongPointers_74 hl rfl (nI_1 _) (by decide) rfl (fun ls hl => ?_)
              refine lv_goto (pc := 77) (tgt := 44) hx hb dX3_wrongPointers_77 (by decide) ?_
              exact ihloop44 (j + 1) k ls _ _ (by omega) (by omega) (by rw [hf, show 8 - j = (8 - (j + 1)) + 1 by omega, xs_wf]; congr 1; simp [h11]) hM hl
            · skip
              refine lv_iinc (pc := 71) (k := 1) (v := k + 1) (lv' := [(2, .int (k + 1)), (3, .int (nI j)), (0, .ref (ad 0 0)), (1, .ref (ad 5 i))]) hx hb dX3_wrongPointers_71 hl rfl rfl (by decide) rfl (fun ls hl => ?_)
              refine lv_iinc (pc := 74) (k := 1) (v := nI (j + 1)) (lv' := [(3, .int (nI (j + 1))), (2, .int (k + 1)), (0, .ref (ad 0 0)), (1, .ref (ad 5 i))]) hx hb dX3_wrongPointers_74 hl rfl (nI_1 _) (by decide) rfl (fun ls hl => ?_)
              refine lv_goto (pc := 77) (tgt := 44) hx hb dX3_wrongPointers_77 (by decide) ?_
              exact ihloop44 (j + 1) (k + 1) ls _ _ (by omega) (by omega) (by rw [hf, show 8 - j = (8 - (j + 1)) + 1 by omega, xs_wf]; congr 1; simp [h11]) hM hl
      exact loop44 _ 0 ((0 + 1) + 1) ls _ _ (Nat.lt_succ_self _) (Nat.zero_le _) (by simp [xs_wp, h1, h7]) hM hl
set_option maxHeartbeats 4000000 in
set_option maxRecDepth 100000 in
theorem ct_X3_wrong  (hn : I 0 0 1 = nI nn) (hnn : nn ≤ 12) : nf_Ti l yX3_wrong wsX3_wrong 3 68 D vwCl (xT cs) Bs (xS cs nn) ad [.ref (ad 0 0)] I J (xP nn mp) (xs_wr I nn nn 0 0) I J (xP nn mp) := by
  refine nf_enteri (cc := cX3_wrong) (maxL := 3) (by decide) rfl (Nat.le_of_ble_eq_true rfl) ?_
  intro p e s m below meth c ls Q hC hM hl hret
  have hx := hC.1.1
  have hb := hC.1.2.1
  have hl : lv_has ls 3 [(0, .ref (ad 0 0))] := hl
  have hinX3 : ∀ w ∈ u_ws RX3 TX3 5, w ∈ wsX3_wrong := fun w h => List.mem_cons_of_mem _ (inX3 w h)
  refine lv_iconst (pc := 0) (v := 0) hx hb dX3_wrong_0 (by decide) ?_
  refine lv_istore_n (pc := 1) (lv' := [(1, .int 0), (0, .ref (ad 0 0))]) hx hb dX3_wrong_1 rfl hl (by decide) rfl (fun ls hl => ?_)
  refine lv_iconst (pc := 2) (v := 0) hx hb dX3_wrong_2 (by decide) ?_
  refine lv_istore_n (pc := 3) (lv' := [(2, .int 0), (1, .int 0), (0, .ref (ad 0 0))]) hx hb dX3_wrong_3 rfl hl (by decide) rfl (fun ls hl => ?_)
  have loop4 : ∀ (n : Nat) (j : Nat) (k : Int32) (ls : Array Slot) (H : Heap) (locs : List Loc), nn - j < n → (j ≤ nn) → (xs_wr I nn nn 0 0 = xs_wr I nn (nn - j) j k) → nf_M D vwCl Bs (xS cs nn) ad I J (xP nn mp) s.heap H locs → lv_has ls 3 [(2, .int (nI j)), (1, .int k), (0, .ref (ad 0 0))] → W p l e (nf_Rm 3 68) s m ([.ref (ad 0 0)] : List Value).toArray below meth c H locs 0 0 Q (F0 m 4 ls []) := by
    intro n
    induction n with
    | zero => exact fun _ _ _ _ _ hmz => absurd hmz (Nat.not_lt_zero _)
    | succ n ihloop4 =>
      intro j k ls H locs hmz hjn hf hM hl
      refine lv_iload_n (pc := 4) hx hb dX3_wrong_4 rfl (lv_at hl 0 rfl) ?_
      refine lv_aload_n (pc := 5) hx hb dX3_wrong_5 rfl (lv_at hl 2 rfl) ?_
      refine nf_geti (pc := 6) hC hinX3 hM rfl rfl 1 (by decide) (List.mem_cons_of_mem _ wF_X3_15) rfl dX3_wrong_6 ?_
      refine lv_icmp_ge (pc := 9) (tgt := 43) hx hb dX3_wrong_9 (by decide) (fun hh => ?_) (fun hh => ?_)
      · have hj1 : nn ≤ j := (nI_leI (by omega) (by omega)).mp (by rw [hn] at hh; exact hh)
        refine lv_iload_n (pc := 43) hx hb dX3_wrong_43 rfl (lv_at hl 1 rfl) ?_
        exact hret _ _ _ _ _ _ _ _ (by rw [hf, show nn - j = 0 by omega]; rfl) rfl rfl rfl hM dX3_wrong_44
      · have hj1 : j < nn := Nat.lt_of_not_le (fun z => hh (by rw [hn]; exact (nI_leI (by omega) (by omega)).mpr z))
        refine lv_aload_n (pc := 12) hx hb dX3_wrong_12 rfl (lv_at hl 2 rfl) ?_
        refine nf_getr (pc := 13) hC hinX3 hM rfl rfl 0 (by decide) (List.mem_cons_of_mem _ wF_X3_11) rfl dX3_wrong_13 ?_
        refine lv_iload_n (pc := 16) hx hb dX3_wrong_16 rfl (lv_at hl 0 rfl) ?_
        refine nf_aald (pc := 17) hC hM 2 rfl rfl j rfl (by omega) (by decide) (xP_1 (by first | assumption | omega)) dX3_wrong_17 ?_
        refine nf_calli (pc := 18) (va_runV (As := []) (rest := []) hC.1 (ct_X1_isMember (i := j) (by first | assumption | omega)) (cwV 0 hC.1.2.2.2.2 (gd_V wM_X3_128 wi_X1_isMember wsel_X1_isMember wini_X1 wcode_X1_isMember) rfl rfl rfl (by decide +kernel) ⟨by decide, by decide⟩) (nf_preV hC hM (xS_5 (by first | assumption | omega)) rfl) rfl rfl hl.1 rfl (lv_room (Nat.le_of_ble_eq_true rfl)) dX3_wrong_18 ⟨Nat.le_refl _, Nat.le_refl _⟩) hM (fun H locs hM => ?_)
        refine lv_if_eq (pc := 21) (tgt := 37) hx hb dX3_wrong_21 (by decide) (fun h2 => ?_) (fun h2 => ?_)
        · have h2 := nb_0 h2
          refine lv_iinc (pc := 37) (k := 0) (v := nI (j + 1)) (lv' := [(2, .int (nI (j + 1))), (1, .int k), (0, .ref (ad 0 0))]) hx hb dX3_wrong_37 hl rfl (nI_1 _) (by decide) rfl (fun ls hl => ?_)
          refine lv_goto (pc := 40) (tgt := 4) hx hb dX3_wrong_40 (by decide) ?_
          exact ihloop4 (j + 1) k ls _ _ (by omega) (by omega) (by rw [hf, show nn - j = (nn - (j + 1)) + 1 by omega, xs_wr]; congr 1; simp [h2]) hM hl
        · have h2 := nb_1 h2
          refine lv_iload_n (pc := 24) hx hb dX3_wrong_24 rfl (lv_at hl 1 rfl) ?_
          refine lv_aload_n (pc := 25) hx hb dX3_wrong_25 rfl (lv_at hl 2 rfl) ?_
          refine lv_aload_n (pc := 26) hx hb dX3_wrong_26 rfl (lv_at hl 2 rfl) ?_
          refine nf_getr (pc := 27) hC hinX3 hM rfl rfl 0 (by decide) (List.mem_cons_of_mem _ wF_X3_11) rfl dX3_wrong_27 ?_
          refine lv_iload_n (pc := 30) hx hb dX3_wrong_30 rfl (lv_at hl 0 rfl) ?_
          refine nf_aald (pc := 31) hC hM 2 rfl rfl j rfl (by omega) (by decide) (xP_1 (by first | assumption | omega)) dX3_wrong_31 ?_
          refine nf_calli (pc := 32) (va_runV (As := [.ref (ad 5 j)]) (rest := [.int k]) hC.1 (ct_X3_wrongPointers (i := j) hn hnn (by first | assumption | omega)) (cwV 1 hC.1.2.2.2.2 (gd_V wM_X3_131 wi_X3_wrongPointers wsel_X3_wrongPointers wini_X3 wcode_X3_wrongPointers) rfl rfl rfl (by decide +kernel) ⟨by decide, by decide⟩) (nf_preV hC hM rfl rfl) rfl rfl hl.1 rfl (lv_room (Nat.le_of_ble_eq_true rfl)) dX3_wrong_32 ⟨Nat.le_refl _, Nat.le_refl _⟩) hM (fun H locs hM => ?_)
          refine lv_iadd (pc := 35) hx hb dX3_wrong_35 ?_
          refine lv_istore_n (pc := 36) (lv' := [(1, .int (k + (xs_wp I nn j))), (2, .int (nI j)), (0, .ref (ad 0 0))]) hx hb dX3_wrong_36 rfl hl (by decide) rfl (fun ls hl => ?_)
          refine lv_iinc (pc := 37) (k := 1) (v := nI (j + 1)) (lv' := [(2, .int (nI (j + 1))), (1, .int (k + (xs_wp I nn j))), (0, .ref (ad 0 0))]) hx hb dX3_wrong_37 hl rfl (nI_1 _) (by decide) rfl (fun ls hl => ?_)
          refine lv_goto (pc := 40) (tgt := 4) hx hb dX3_wrong_40 (by decide) ?_
          exact ihloop4 (j + 1) (k + (xs_wp I nn j)) ls _ _ (by omega) (by omega) (by rw [hf, show nn - j = (nn - (j + 1)) + 1 by omega, xs_wr]; congr 1; simp [h2]) hM hl
  exact loop4 _ 0 0 ls _ _ (Nat.lt_succ_self _) (Nat.zero_le _) rfl hM hl
end XW
