/-! entries, misplaced. -/
section XN
variable {l : Launch} {D : va_G} {cs : Nat → ClassId} {Bs nn kc : Nat} {ad : nf_A} {I : nf_I} {J : nf_J} {mp : Nat → Nat}
set_option maxHeartbeats 4000000 in
set_option maxRecDepth 100000 in
theorem ct_X3_entries {id : Int32} (hn : I 0 0 1 = nI nn) (hnn : nn ≤ 12) : nf_Ti l yX3_entries wsX3_entries 2 44 D vwCl (xT cs) Bs (xS cs nn) ad [.ref (ad 0 0), .int id] I J (xP nn mp) (xs_ens I J nn id) I J (xP nn mp) := by
  refine nf_enteri (cc := cX3_entries) (maxL := 5) (by decide) rfl (Nat.le_of_ble_eq_true rfl) ?_
  intro p e s m below meth c ls Q hC hM hl hret
  have hx := hC.1.1
  have hb := hC.1.2.1
  have hl : lv_has ls 5 [(0, .ref (ad 0 0)), (1, .int id)] := hl
  have hinX1 : ∀ w ∈ u_ws RX1 TX1 7, w ∈ wsX3_entries := fun w h => List.mem_cons_of_mem _ (inX1 w h)
  refine lv_aload_n (pc := 0) hx hb dX3_entries_0 rfl (lv_at hl 0 rfl) ?_
  refine lv_iload_n (pc := 1) hx hb dX3_entries_1 rfl (lv_at hl 1 rfl) ?_
  refine nf_callq (pc := 2) (va_runV (As := [.int id]) (rest := []) hC.1 (ct_X3_memberWith (id := id) hn hnn) (cwV 1 hC.1.2.2.2.2 (gd_V wM_X3_47 wi_X3_memberWith wsel_X3_memberWith wini_X3 wcode_X3_memberWith) rfl rfl rfl (by decide +kernel) ⟨by decide, by decide⟩) (nf_preV hC hM rfl rfl) rfl rfl hl.1 rfl (lv_room (Nat.le_of_ble_eq_true rfl)) dX3_entries_2 ⟨Nat.le_refl _, Nat.le_refl _⟩) hM (fun H locs hM => ?_)
  cases hq1 : xs_memb I nn id with
  | none =>
    simp only [hq1, Option.map_none, va_rf]
    refine lv_astore_nN (pc := 5) (lv' := [(2, .null), (0, .ref (ad 0 0)), (1, .int id)]) hx hb dX3_entries_5 rfl hl (by decide) rfl (fun ls hl => ?_)
    refine lv_aload_nN (pc := 6) hx hb dX3_entries_6 rfl (lv_at hl 0 rfl) ?_
    refine lv_ifnonnullN (pc := 7) hx hb dX3_entries_7 ?_
    refine lv_iconst (pc := 10) (v := -1) hx hb dX3_entries_10 (by decide) ?_
    exact hret _ _ _ _ _ _ _ _ (by simp [xs_ens, hq1]) rfl rfl rfl hM dX3_entries_11
  | some i2 =>
    simp only [hq1, Option.map_some, va_rf]
    have hq1l := xs_memb_lt hq1
    refine lv_astore_n (pc := 5) (lv' := [(2, .ref (ad 5 i2)), (0, .ref (ad 0 0)), (1, .int id)]) hx hb dX3_entries_5 rfl hl (by decide) rfl (fun ls hl => ?_)
    refine lv_aload_n (pc := 6) hx hb dX3_entries_6 rfl (lv_at hl 0 rfl) ?_
    refine lv_ifnonnull (pc := 7) (tgt := 12) hx hb dX3_entries_7 (by decide) ?_
    refine lv_iconst (pc := 12) (v := 0) hx hb dX3_entries_12 (by decide) ?_
    refine lv_istore_n (pc := 13) (lv' := [(3, .int 0), (2, .ref (ad 5 i2)), (0, .ref (ad 0 0)), (1, .int id)]) hx hb dX3_entries_13 rfl hl (by decide) rfl (fun ls hl => ?_)
    refine lv_iconst (pc := 14) (v := 0) hx hb dX3_entries_14 (by decide) ?_
    refine lv_istore (pc := 15) (lv' := [(4, .int 0), (3, .int 0), (2, .ref (ad 5 i2)), (0, .ref (ad 0 0)), (1, .int id)]) hx hb dX3_entries_15 hl (by decide) rfl (fun ls hl => ?_)
    have loop17 : ∀ (n : Nat) (j : Nat) (k : Int32) (ls : Array Slot) (H : Heap) (locs : List Loc), 10 - j < n → (j ≤ 10) → (xs_ens I J nn id = xs_ent J i2 (10 - j) j k) → nf_M D vwCl Bs (xS cs nn) ad I J (xP nn mp) s.heap H locs → lv_has ls 5 [(4, .int (nI j)), (3, .int k), (2, .ref (ad 5 i2)), (0, .ref (ad 0 0)), (1, .int id)] → W p l e (nf_Rm 2 44) s m ([.ref (ad 0 0), .int id] : List Value).toArray below meth c H locs 0 0 Q (F0 m 17 ls []) := by
      intro n
      induction n with
      | zero => exact fun _ _ _ _ _ hmz => absurd hmz (Nat.not_lt_zero _)
      | succ n ihloop17 =>
        intro j k ls H locs hmz hjn hf hM hl
        refine lv_iload (pc := 17) hx hb dX3_entries_17 (lv_at hl 0 rfl) ?_
        refine lv_bipush (pc := 19) (v := nI 10) hx hb dX3_entries_19 (by decide) ?_
        refine lv_icmp_ge (pc := 21) (tgt := 47) hx hb dX3_entries_21 (by decide) (fun hh => ?_) (fun hh => ?_)
        · have hj3 : 10 ≤ j := (nI_leI (by omega) (by omega)).mp (by exact hh)
          refine lv_iload_n (pc := 47) hx hb dX3_entries_47 rfl (lv_at hl 1 rfl) ?_
          exact hret _ _ _ _ _ _ _ _ (by rw [hf, show 10 - j = 0 by omega]; rfl) rfl rfl rfl hM dX3_entries_48
        · have hj3 : j < 10 := Nat.lt_of_not_le (fun z => hh (by exact (nI_leI (by omega) (by omega)).mpr z))
          refine lv_aload_n (pc := 24) hx hb dX3_entries_24 rfl (lv_at hl 2 rfl) ?_
          refine nf_getr (pc := 25) hC hinX1 hM (xS_5 (by first | assumption | omega)) rfl 4 (by decide) (List.mem_cons_of_mem _ wF_X3_113) rfl dX3_entries_25 ?_
          refine lv_iload (pc := 28) hx hb dX3_entries_28 (lv_at hl 0 rfl) ?_
          refine nf_lald (pc := 30) hC hM 1 (xS_7 (by first | assumption | omega)) rfl j rfl (by omega) (by decide) dX3_entries_30 ?_
          refine lv_ldc2 (pc := 31) (v := 4294967296) hx hb hC.1.2.2.2.1 (hC.1.2.2.2.2 _ (List.mem_cons_of_mem _ wC_X3_107)) dX3_entries_31 ?_
          refine W.lcmp (pc := 34) hx hb dX3_entries_34 ?_
          refine lv_if_eq (pc := 35) (tgt := 41) hx hb dX3_entries_35 (by decide) (fun h4 => ?_) (fun h4 => ?_)
          · skip
            refine lv_iinc (pc := 41) (k := 0) (v := nI (j + 1)) (lv' := [(4, .int (nI (j + 1))), (3, .int k), (2, .ref (ad 5 i2)), (0, .ref (ad 0 0)), (1, .int id)]) hx hb dX3_entries_41 hl rfl (nI_1 _) (by decide) rfl (fun ls hl => ?_)
            refine lv_goto (pc := 44) (tgt := 17) hx hb dX3_entries_44 (by decide) ?_
            exact ihloop17 (j + 1) k ls _ _ (by omega) (by omega) (by rw [hf, show 10 - j = (10 - (j + 1)) + 1 by omega, xs_ent]; congr 1; simp [h4]) hM hl
          · skip
            refine lv_iinc (pc := 38) (k := 1) (v := k + 1) (lv' := [(3, .int (k + 1)), (4, .int (nI j)), (2, .ref (ad 5 i2)), (0, .ref (ad 0 0)), (1, .int id)]) hx hb dX3_entries_38 hl rfl rfl (by decide) rfl (fun ls hl => ?_)
            refine lv_iinc (pc := 41) (k := 1) (v := nI (j + 1)) (lv' := [(4, .int (nI (j + 1))), (3, .int (k + 1)), (2, .ref (ad 5 i2)), (0, .ref (ad 0 0)), (1, .int id)]) hx hb dX3_entries_41 hl rfl (nI_1 _) (by decide) rfl (fun ls hl => ?_)
            refine lv_goto (pc := 44) (tgt := 17) hx hb dX3_entries_44 (by decide) ?_
            exact ihloop17 (j + 1) (k + 1) ls _ _ (by omega) (by omega) (by rw [hf, show 10 - j = (10 - (j + 1)) + 1 by omega, xs_ent]; congr 1; simp [h4]) hM hl
    exact loop17 _ 0 0 ls _ _ (Nat.lt_succ_self _) (Nat.zero_le _) (by simp [xs_ens, hq1]) hM hl
set_option maxHeartbeats 4000000 in
set_option maxRecDepth 100000 in
theorem ct_X3_misplaced  (hn : I 0 0 1 = nI nn) (hnn : nn ≤ 12) (hk : I 0 0 3 = nI kc) (hkk : kc ≤ 10) : nf_Ti l yX3_misplaced wsX3_misplaced 2 45 D vwCl (xT cs) Bs (xS cs nn) ad [.ref (ad 0 0)] I J (xP nn mp) (xs_mo I J nn kc 0 0) I J (xP nn mp) := by
  refine nf_enteri (cc := cX3_misplaced) (maxL := 5) (by decide) rfl (Nat.le_of_ble_eq_true rfl) ?_
  intro p e s m below meth c ls Q hC hM hl hret
  have hx := hC.1.1
  have hb := hC.1.2.1
  have hl : lv_has ls 5 [(0, .ref (ad 0 0))] := hl
  have hinX1 : ∀ w ∈ u_ws RX1 TX1 7, w ∈ wsX3_misplaced := fun w h => List.mem_cons_of_mem _ (inX1 w h)
  have hinX3 : ∀ w ∈ u_ws RX3 TX3 5, w ∈ wsX3_misplaced := fun w h => List.mem_cons_of_mem _ (inX3 w h)
  refine lv_iconst (pc := 0) (v := 0) hx hb dX3_misplaced_0 (by decide) ?_
  refine lv_istore_n (pc := 1) (lv' := [(1, .int 0), (0, .ref (ad 0 0))]) hx hb dX3_misplaced_1 rfl hl (by decide) rfl (fun ls hl => ?_)
  refine lv_iconst (pc := 2) (v := 0) hx hb dX3_misplaced_2 (by decide) ?_
  refine lv_istore_n (pc := 3) (lv' := [(2, .int 0), (1, .int 0), (0, .ref (ad 0 0))]) hx hb dX3_misplaced_3 rfl hl (by decide) rfl (fun ls hl => ?_)
  have loop4 : ∀ (n : Nat) (j : Nat) (k : Int32) (ls : Array Slot) (H : Heap) (locs : List Loc), kc - j < n → (j ≤ kc) → (xs_mo I J nn kc 0 0 = xs_mo I J nn (kc - j) j k) → nf_M D vwCl Bs (xS cs nn) ad I J (xP nn mp) s.heap H locs → lv_has ls 5 [(2, .int (nI j)), (1, .int k), (0, .ref (ad 0 0))] → W p l e (nf_Rm 2 45) s m ([.ref (ad 0 0)] : List Value).toArray below meth c H locs 0 0 Q (F0 m 4 ls []) := by
    intro n
    induction n with
    | zero => exact fun _ _ _ _ _ hmz => absurd hmz (Nat.not_lt_zero _)
    | succ n ihloop4 =>
      intro j k ls H locs hmz hjn hf hM hl
      refine lv_iload_n (pc := 4) hx hb dX3_misplaced_4 rfl (lv_at hl 0 rfl) ?_
      refine lv_aload_n (pc := 5) hx hb dX3_misplaced_5 rfl (lv_at hl 2 rfl) ?_
      refine nf_geti (pc := 6) hC hinX3 hM rfl rfl 3 (by decide) (List.mem_cons_of_mem _ wF_X3_23) rfl dX3_misplaced_6 ?_
      refine lv_icmp_ge (pc := 9) (tgt := 83) hx hb dX3_misplaced_9 (by decide) (fun hh => ?_) (fun hh => ?_)
      · have hj1 : kc ≤ j := (nI_leI (by omega) (by omega)).mp (by rw [hk] at hh; exact hh)
        refine lv_iload_n (pc := 83) hx hb dX3_misplaced_83 rfl (lv_at hl 1 rfl) ?_
        exact hret _ _ _ _ _ _ _ _ (by rw [hf, show kc - j = 0 by omega]; rfl) rfl rfl rfl hM dX3_misplaced_84
      · have hj1 : j < kc := Nat.lt_of_not_le (fun z => hh (by rw [hk]; exact (nI_leI (by omega) (by omega)).mpr z))
        refine lv_aload_n (pc := 12) hx hb dX3_misplaced_12 rfl (lv_at hl 2 rfl) ?_
        refine lv_aload_n (pc := 13) hx hb dX3_misplaced_13 rfl (lv_at hl 2 rfl) ?_
        refine nf_getr (pc := 14) hC hinX3 hM rfl rfl 2 (by decide) (List.mem_cons_of_mem _ wF_X3_19) rfl dX3_misplaced_14 ?_
        refine lv_iload_n (pc := 17) hx hb dX3_misplaced_17 rfl (lv_at hl 0 rfl) ?_
        refine nf_iald (pc := 18) hC hM 0 rfl rfl j rfl (by omega) (by decide) dX3_misplaced_18 ?_
        refine nf_calli (pc := 19) (va_runV (As := [.int (I 2 0 j)]) (rest := []) hC.1 (ct_X3_firstUpFrom (st := (I 2 0 j)) hn hnn) (cwV 1 hC.1.2.2.2.2 (gd_V wM_X3_125 wi_X3_firstUpFrom wsel_X3_firstUpFrom wini_X3 wcode_X3_firstUpFrom) rfl rfl rfl (by decide +kernel) ⟨by decide, by decide⟩) (nf_preV hC hM rfl rfl) rfl rfl hl.1 rfl (lv_room (Nat.le_of_ble_eq_true rfl)) dX3_misplaced_19 ⟨Nat.le_refl _, Nat.le_refl _⟩) hM (fun H locs hM => ?_)
        refine lv_istore_n (pc := 22) (lv' := [(3, .int (xs_fu I (I 2 0 j) nn 0 (-1))), (2, .int (nI j)), (1, .int k), (0, .ref (ad 0 0))]) hx hb dX3_misplaced_22 rfl hl (by decide) rfl (fun ls hl => ?_)
        refine lv_iconst (pc := 23) (v := 0) hx hb dX3_misplaced_23 (by decide) ?_
        refine lv_istore (pc := 24) (lv' := [(4, .int 0), (3, .int (xs_fu I (I 2 0 j) nn 0 (-1))), (2, .int (nI j)), (1, .int k), (0, .ref (ad 0 0))]) hx hb dX3_misplaced_24 hl (by decide) rfl (fun ls hl => ?_)
        have loop26 : ∀ (n : Nat) (q : Nat) (r : Int32) (ls : Array Slot) (H : Heap) (locs : List Loc), nn - q < n → (q ≤ nn) → (xs_mi I J j (xs_fu I (I 2 0 j) nn 0 (-1)) nn 0 k = xs_mi I J j (xs_fu I (I 2 0 j) nn 0 (-1)) (nn - q) q r) → nf_M D vwCl Bs (xS cs nn) ad I J (xP nn mp) s.heap H locs → lv_has ls 5 [(4, .int (nI q)), (3, .int (xs_fu I (I 2 0 j) nn 0 (-1))), (2, .int (nI j)), (1, .int r), (0, .ref (ad 0 0))] → W p l e (nf_Rm 2 45) s m ([.ref (ad 0 0)] : List Value).toArray below meth c H locs 0 0 Q (F0 m 26 ls []) := by
          intro n
          induction n with
          | zero => exact fun _ _ _ _ _ hmz => absurd hmz (Nat.not_lt_zero _)
          | succ n ihloop26 =>
            intro q r ls H locs hmz hqn hg hM hl
            refine lv_iload (pc := 26) hx hb dX3_misplaced_26 (lv_at hl 0 rfl) ?_
            refine lv_aload_n (pc := 28) hx hb dX3_misplaced_28 rfl (lv_at hl 4 rfl) ?_
            refine nf_geti (pc := 29) hC hinX3 hM rfl rfl 1 (by decide) (List.mem_cons_of_mem _ wF_X3_15) rfl dX3_misplaced_29 ?_
            refine lv_icmp_ge (pc := 32) (tgt := 77) hx hb dX3_misplaced_32 (by decide) (fun hh => ?_) (fun hh => ?_)
            · have hj2 : nn ≤ q := (nI_leI (by omega) (by omega)).mp (by rw [hn] at hh; exact hh)
              refine lv_iinc (pc := 77) (k := 2) (v := nI (j + 1)) (lv' := [(2, .int (nI (j + 1))), (4, .int (nI q)), (3, .int (xs_fu I (I 2 0 j) nn 0 (-1))), (1, .int r), (0, .ref (ad 0 0))]) hx hb dX3_misplaced_77 hl rfl (nI_1 _) (by decide) rfl (fun ls hl => ?_)
              refine lv_goto (pc := 80) (tgt := 4) hx hb dX3_misplaced_80 (by decide) ?_
              exact ihloop4 (j + 1) r ls _ _ (by omega) (by omega) (by rw [hf, show kc - j = (kc - (j + 1)) + 1 by omega, xs_mo, hg, show nn - q = 0 by omega]; rfl) hM (lv_sub hl [0, 3, 4] rfl)
            · have hj2 : q < nn := Nat.lt_of_not_le (fun z => hh (by rw [hn]; exact (nI_leI (by omega) (by omega)).mpr z))
              refine lv_aload_n (pc := 35) hx hb dX3_misplaced_35 rfl (lv_at hl 4 rfl) ?_
              refine nf_getr (pc := 36) hC hinX3 hM rfl rfl 0 (by decide) (List.mem_cons_of_mem _ wF_X3_11) rfl dX3_misplaced_36 ?_
              refine lv_iload (pc := 39) hx hb dX3_misplaced_39 (lv_at hl 0 rfl) ?_
              refine nf_aald (pc := 41) hC hM 2 rfl rfl q rfl (by omega) (by decide) (xP_1 (by first | assumption | omega)) dX3_misplaced_41 ?_
              refine nf_getr (pc := 42) hC hinX1 hM (xS_5 (by first | assumption | omega)) rfl 4 (by decide) (List.mem_cons_of_mem _ wF_X3_113) rfl dX3_misplaced_42 ?_
              refine lv_iload_n (pc := 45) hx hb dX3_misplaced_45 rfl (lv_at hl 2 rfl) ?_
              refine nf_lald (pc := 46) hC hM 1 (xS_7 (by first | assumption | omega)) rfl j rfl (by omega) (by decide) dX3_misplaced_46 ?_
              refine lv_ldc2 (pc := 47) (v := 4294967296) hx hb hC.1.2.2.2.1 (hC.1.2.2.2.2 _ (List.mem_cons_of_mem _ wC_X3_107)) dX3_misplaced_47 ?_
              refine W.lcmp (pc := 50) hx hb dX3_misplaced_50 ?_
              refine lv_if_eq (pc := 51) (tgt := 71) hx hb dX3_misplaced_51 (by decide) (fun h3 => ?_) (fun h3 => ?_)
              · skip
                refine lv_iinc (pc := 71) (k := 0) (v := nI (q + 1)) (lv' := [(4, .int (nI (q + 1))), (3, .int (xs_fu I (I 2 0 j) nn 0 (-1))), (2, .int (nI j)), (1, .int r), (0, .ref (ad 0 0))]) hx hb dX3_misplaced_71 hl rfl (nI_1 _) (by decide) rfl (fun ls hl => ?_)
                refine lv_goto (pc := 74) (tgt := 26) hx hb dX3_misplaced_74 (by decide) ?_
                exact ihloop26 (q + 1) r ls _ _ (by omega) (by omega) (by rw [hg, show nn - q = (nn - (q + 1)) + 1 by omega, xs_mi]; congr 1; simp [h3]) hM hl
              · skip
                refine lv_aload_n (pc := 54) hx hb dX3_misplaced_54 rfl (lv_at hl 4 rfl) ?_
                refine nf_getr (pc := 55) hC hinX3 hM rfl rfl 0 (by decide) (List.mem_cons_of_mem _ wF_X3_11) rfl dX3_misplaced_55 ?_
                refine lv_iload (pc := 58) hx hb dX3_misplaced_58 (lv_at hl 0 rfl) ?_
                refine nf_aald (pc := 60) hC hM 2 rfl rfl q rfl (by omega) (by decide) (xP_1 (by first | assumption | omega)) dX3_misplaced_60 ?_
                refine nf_geti (pc := 61) hC hinX1 hM (xS_5 (by first | assumption | omega)) rfl 0 (by decide) (List.mem_cons_of_mem _ wF_X3_135) rfl dX3_misplaced_61 ?_
                refine lv_iload_n (pc := 64) hx hb dX3_misplaced_64 rfl (lv_at hl 1 rfl) ?_
                refine lv_icmp_eq (pc := 65) (tgt := 71) hx hb dX3_misplaced_65 (by decide) (fun h4 => ?_) (fun h4 => ?_)
                · skip
                  refine lv_iinc (pc := 71) (k := 0) (v := nI (q + 1)) (lv' := [(4, .int (nI (q + 1))), (3, .int (xs_fu I (I 2 0 j) nn 0 (-1))), (2, .int (nI j)), (1, .int r), (0, .ref (ad 0 0))]) hx hb dX3_misplaced_71 hl rfl (nI_1 _) (by decide) rfl (fun ls hl => ?_)
                  refine lv_goto (pc := 74) (tgt := 26) hx hb dX3_misplaced_74 (by decide) ?_
                  exact ihloop26 (q + 1) r ls _ _ (by omega) (by omega) (by rw [hg, show nn - q = (nn - (q + 1)) + 1 by omega, xs_mi]; congr 1; simp [h3, h4]) hM hl
                · skip
                  refine lv_iinc (pc := 68) (k := 3) (v := r + 1) (lv' := [(1, .int (r + 1)), (4, .int (nI q)), (3, .int (xs_fu I (I 2 0 j) nn 0 (-1))), (2, .int (nI j)), (0, .ref (ad 0 0))]) hx hb dX3_misplaced_68 hl rfl rfl (by decide) rfl (fun ls hl => ?_)
                  refine lv_iinc (pc := 71) (k := 1) (v := nI (q + 1)) (lv' := [(4, .int (nI (q + 1))), (1, .int (r + 1)), (3, .int (xs_fu I (I 2 0 j) nn 0 (-1))), (2, .int (nI j)), (0, .ref (ad 0 0))]) hx hb dX3_misplaced_71 hl rfl (nI_1 _) (by decide) rfl (fun ls hl => ?_)
                  refine lv_goto (pc := 74) (tgt := 26) hx hb dX3_misplaced_74 (by decide) ?_
                  exact ihloop26 (q + 1) (r + 1) ls _ _ (by omega) (by omega) (by rw [hg, show nn - q = (nn - (q + 1)) + 1 by omega, xs_mi]; congr 1; simp [h3, h4]) hM (lv_sub hl [0, 2, 3, 1, 4] rfl)
        exact loop26 _ 0 k ls _ _ (Nat.lt_succ_self _) (Nat.zero_le _) rfl hM hl
  exact loop4 _ 0 0 ls _ _ (Nat.lt_succ_self _) (Nat.zero_le _) rfl hM hl
end XN
