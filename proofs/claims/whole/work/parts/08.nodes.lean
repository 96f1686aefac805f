/-! nodeWith, memberWith. -/
section XM
variable {l : Launch} {D : va_G} {cs : Nat → ClassId} {Bs nn : Nat} {ad : nf_A} {I : nf_I} {J : nf_J} {mp : Nat → Nat}
set_option maxHeartbeats 4000000 in
set_option maxRecDepth 100000 in
theorem ct_X3_nodeWith {id : Int32} (hn : I 0 0 1 = nI nn) (hnn : nn ≤ 12) : nf_Tq l yX3_nodeWith wsX3_nodeWith 0 0 D vwCl (xT cs) Bs (xS cs nn) ad [.ref (ad 0 0), .int id] I J (xP nn mp) ((xs_node I nn id).map (ad 5)) I J (xP nn mp) := by
  refine nf_enterq (cc := cX3_nodeWith) (maxL := 3) (by decide) rfl (Nat.le_of_ble_eq_true rfl) ?_
  intro p e s m below meth c ls Q hC hM hl hret
  have hx := hC.1.1
  have hb := hC.1.2.1
  have hl : lv_has ls 3 [(0, .ref (ad 0 0)), (1, .int id)] := hl
  have hinX1 : ∀ w ∈ u_ws RX1 TX1 7, w ∈ wsX3_nodeWith := fun w h => List.mem_cons_of_mem _ (inX1 w h)
  have hinX3 : ∀ w ∈ u_ws RX3 TX3 5, w ∈ wsX3_nodeWith := fun w h => List.mem_cons_of_mem _ (inX3 w h)
  refine lv_iconst (pc := 0) (v := 0) hx hb dX3_nodeWith_0 (by decide) ?_
  refine lv_istore_n (pc := 1) (lv' := [(2, .int 0), (0, .ref (ad 0 0)), (1, .int id)]) hx hb dX3_nodeWith_1 rfl hl (by decide) rfl (fun ls hl => ?_)
  have loop2 : ∀ (n : Nat) (j : Nat) (ls : Array Slot) (H : Heap) (locs : List Loc), nn - j < n → j ≤ nn → xs_node I nn id = xs_nix I id (nn - j) j → nf_M D vwCl Bs (xS cs nn) ad I J (xP nn mp) s.heap H locs → lv_has ls 3 [(2, .int (nI j)), (0, .ref (ad 0 0)), (1, .int id)] → W p l e (nf_Rm 0 0) s m ([.ref (ad 0 0), .int id] : List Value).toArray below meth c H locs 0 0 Q (F0 m 2 ls []) := by
    intro n
    induction n with
    | zero => exact fun _ _ _ _ hmz => absurd hmz (Nat.not_lt_zero _)
    | succ n ihloop2 =>
      intro j ls H locs hmz hjn hf hM hl
      refine lv_iload_n (pc := 2) hx hb dX3_nodeWith_2 rfl (lv_at hl 0 rfl) ?_
      refine lv_aload_n (pc := 3) hx hb dX3_nodeWith_3 rfl (lv_at hl 1 rfl) ?_
      refine nf_geti (pc := 4) hC hinX3 hM rfl rfl 1 (by decide) (List.mem_cons_of_mem _ wF_X3_15) rfl dX3_nodeWith_4 ?_
      refine lv_icmp_ge (pc := 7) (tgt := 36) hx hb dX3_nodeWith_7 (by decide) (fun hh => ?_) (fun hh => ?_)
      · have hj1 : nn ≤ j := (nI_leI (by omega) (by omega)).mp (by rw [hn] at hh; exact hh)
        refine lv_null (pc := 36) hx hb dX3_nodeWith_36 ?_
        exact hret _ _ _ _ _ _ _ _ (by rw [hf, show nn - j = 0 by omega]; rfl) rfl rfl rfl hM dX3_nodeWith_37
      · have hj1 : j < nn := Nat.lt_of_not_le (fun z => hh (by rw [hn]; exact (nI_leI (by omega) (by omega)).mpr z))
        refine lv_aload_n (pc := 10) hx hb dX3_nodeWith_10 rfl (lv_at hl 1 rfl) ?_
        refine nf_getr (pc := 11) hC hinX3 hM rfl rfl 0 (by decide) (List.mem_cons_of_mem _ wF_X3_11) rfl dX3_nodeWith_11 ?_
        refine lv_iload_n (pc := 14) hx hb dX3_nodeWith_14 rfl (lv_at hl 0 rfl) ?_
        refine nf_aald (pc := 15) hC hM 2 rfl rfl j rfl (by omega) (by decide) (xP_1 (by first | assumption | omega)) dX3_nodeWith_15 ?_
        refine nf_geti (pc := 16) hC hinX1 hM (xS_5 (by first | assumption | omega)) rfl 0 (by decide) (List.mem_cons_of_mem _ wF_X3_135) rfl dX3_nodeWith_16 ?_
        refine lv_iload_n (pc := 19) hx hb dX3_nodeWith_19 rfl (lv_at hl 2 rfl) ?_
        refine lv_icmp_ne (pc := 20) (tgt := 30) hx hb dX3_nodeWith_20 (by decide) (fun h2 => ?_) (fun h2 => ?_)
        · skip
          refine lv_iinc (pc := 30) (k := 0) (v := nI (j + 1)) (lv' := [(2, .int (nI (j + 1))), (0, .ref (ad 0 0)), (1, .int id)]) hx hb dX3_nodeWith_30 hl rfl (nI_1 _) (by decide) rfl (fun ls hl => ?_)
          refine lv_goto (pc := 33) (tgt := 2) hx hb dX3_nodeWith_33 (by decide) ?_
          exact ihloop2 (j + 1) ls _ _ (by omega) (by omega) (by rw [hf, show nn - j = (nn - (j + 1)) + 1 by omega]; simp [xs_nix, h2]) hM hl
        · skip
          refine lv_aload_n (pc := 23) hx hb dX3_nodeWith_23 rfl (lv_at hl 1 rfl) ?_
          refine nf_getr (pc := 24) hC hinX3 hM rfl rfl 0 (by decide) (List.mem_cons_of_mem _ wF_X3_11) rfl dX3_nodeWith_24 ?_
          refine lv_iload_n (pc := 27) hx hb dX3_nodeWith_27 rfl (lv_at hl 0 rfl) ?_
          refine nf_aald (pc := 28) hC hM 2 rfl rfl j rfl (by omega) (by decide) (xP_1 (by first | assumption | omega)) dX3_nodeWith_28 ?_
          exact hret _ _ _ _ _ _ _ _ (by rw [hf, show nn - j = (nn - (j + 1)) + 1 by omega]; simp [xs_nix, va_rf, h2]) rfl rfl rfl hM dX3_nodeWith_29
  exact loop2 _ 0 ls _ _ (Nat.lt_succ_self _) (Nat.zero_le _) rfl hM hl
set_option maxHeartbeats 4000000 in
set_option maxRecDepth 100000 in
theorem ct_X3_memberWith {id : Int32} (hn : I 0 0 1 = nI nn) (hnn : nn ≤ 12) : nf_Tq l yX3_memberWith wsX3_memberWith 1 22 D vwCl (xT cs) Bs (xS cs nn) ad [.ref (ad 0 0), .int id] I J (xP nn mp) ((xs_memb I nn id).map (ad 5)) I J (xP nn mp) := by
  refine nf_enterq (cc := cX3_memberWith) (maxL := 3) (by decide) rfl (Nat.le_of_ble_eq_true rfl) ?_
  intro p e s m below meth c ls Q hC hM hl hret
  have hx := hC.1.1
  have hb := hC.1.2.1
  have hl : lv_has ls 3 [(0, .ref (ad 0 0)), (1, .int id)] := hl
  refine lv_aload_n (pc := 0) hx hb dX3_memberWith_0 rfl (lv_at hl 0 rfl) ?_
  refine lv_iload_n (pc := 1) hx hb dX3_memberWith_1 rfl (lv_at hl 1 rfl) ?_
  refine nf_callq (pc := 2) (va_runV (As := [.int id]) (rest := []) hC.1 (ct_X3_nodeWith (id := id) hn hnn) (cwV 1 hC.1.2.2.2.2 (gd_V wM_X3_44 wi_X3_nodeWith wsel_X3_nodeWith wini_X3 wcode_X3_nodeWith) rfl rfl rfl (by decide +kernel) ⟨by decide, by decide⟩) (nf_preV hC hM rfl rfl) rfl rfl hl.1 rfl (lv_room (Nat.le_of_ble_eq_true rfl)) dX3_memberWith_2 ⟨Nat.le_refl _, Nat.le_refl _⟩) hM (fun H locs hM => ?_)
  cases hq1 : xs_node I nn id with
  | none =>
    simp only [hq1, Option.map_none, va_rf]
    refine lv_astore_nN (pc := 5) (lv' := [(2, .null), (0, .ref (ad 0 0)), (1, .int id)]) hx hb dX3_memberWith_5 rfl hl (by decide) rfl (fun ls hl => ?_)
    refine lv_aload_nN (pc := 6) hx hb dX3_memberWith_6 rfl (lv_at hl 0 rfl) ?_
    refine lv_ifnullN (pc := 7) (tgt := 21) hx hb dX3_memberWith_7 (by decide) ?_
    refine lv_null (pc := 21) hx hb dX3_memberWith_21 ?_
    exact hret _ _ _ _ _ _ _ _ (by simp [nb_I, xs_memb, va_rf, hq1]) rfl rfl rfl hM dX3_memberWith_22
  | some i2 =>
    simp only [hq1, Option.map_some, va_rf]
    have hq1l := xs_node_lt hq1
    refine lv_astore_n (pc := 5) (lv' := [(2, .ref (ad 5 i2)), (0, .ref (ad 0 0)), (1, .int id)]) hx hb dX3_memberWith_5 rfl hl (by decide) rfl (fun ls hl => ?_)
    refine lv_aload_n (pc := 6) hx hb dX3_memberWith_6 rfl (lv_at hl 0 rfl) ?_
    refine lv_ifnull (pc := 7) hx hb dX3_memberWith_7 ?_
    refine lv_aload_n (pc := 10) hx hb dX3_memberWith_10 rfl (lv_at hl 0 rfl) ?_
    refine nf_calli (pc := 11) (va_runV (As := []) (rest := []) hC.1 (ct_X1_isMember (i := i2) (by first | assumption | omega)) (cwV 0 hC.1.2.2.2.2 (gd_V wM_X3_128 wi_X1_isMember wsel_X1_isMember wini_X1 wcode_X1_isMember) rfl rfl rfl (by decide +kernel) ⟨by decide, by decide⟩) (nf_preV hC hM (xS_5 (by first | assumption | omega)) rfl) rfl rfl hl.1 rfl (lv_room (Nat.le_of_ble_eq_true rfl)) dX3_memberWith_11 ⟨Nat.le_refl _, Nat.le_refl _⟩) hM (fun H locs hM => ?_)
    refine lv_if_eq (pc := 14) (tgt := 21) hx hb dX3_memberWith_14 (by decide) (fun h3 => ?_) (fun h3 => ?_)
    · have h3 := nb_0 h3
      refine lv_null (pc := 21) hx hb dX3_memberWith_21 ?_
      exact hret _ _ _ _ _ _ _ _ (by simp [nb_I, xs_memb, va_rf, hq1, h3]) rfl rfl rfl hM dX3_memberWith_22
    · have h3 := nb_1 h3
      refine lv_aload_n (pc := 17) hx hb dX3_memberWith_17 rfl (lv_at hl 0 rfl) ?_
      refine lv_goto (pc := 18) (tgt := 22) hx hb dX3_memberWith_18 (by decide) ?_
      exact hret _ _ _ _ _ _ _ _ (by simp [nb_I, xs_memb, va_rf, hq1, h3]) rfl rfl rfl hM dX3_memberWith_22
end XM
