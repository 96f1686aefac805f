/-! slotOf, takeKey, valueAt. -/
section XK
variable {l : Launch} {D : va_G} {cs : Nat → ClassId} {Bs nn kc : Nat} {ad : nf_A} {I : nf_I} {J : nf_J} {mp : Nat → Nat}
set_option maxHeartbeats 4000000 in
set_option maxRecDepth 100000 in
theorem ct_X3_slotOf {key : Int32} (hk : I 0 0 3 = nI kc) (hkk : kc ≤ 10) : nf_Ti l yX3_slotOf wsX3_slotOf 0 0 D vwCl (xT cs) Bs (xS cs nn) ad [.ref (ad 0 0), .int key] I J (xP nn mp) (xs_slot I kc key) I J (xP nn mp) := by
  refine nf_enteri (cc := cX3_slotOf) (maxL := 3) (by decide) rfl (Nat.le_of_ble_eq_true rfl) ?_
  intro p e s m below meth c ls Q hC hM hl hret
  have hx := hC.1.1
  have hb := hC.1.2.1
  have hl : lv_has ls 3 [(0, .ref (ad 0 0)), (1, .int key)] := hl
  have hinX3 : ∀ w ∈ u_ws RX3 TX3 5, w ∈ wsX3_slotOf := fun w h => List.mem_cons_of_mem _ (inX3 w h)
  refine lv_iconst (pc := 0) (v := 0) hx hb dX3_slotOf_0 (by decide) ?_
  refine lv_istore_n (pc := 1) (lv' := [(2, .int 0), (0, .ref (ad 0 0)), (1, .int key)]) hx hb dX3_slotOf_1 rfl hl (by decide) rfl (fun ls hl => ?_)
  have loop2 : ∀ (n : Nat) (j : Nat) (ls : Array Slot) (H : Heap) (locs : List Loc), kc - j < n → (j ≤ kc) → (xs_slot I kc key = xs_slx I key (kc - j) j) → nf_M D vwCl Bs (xS cs nn) ad I J (xP nn mp) s.heap H locs → lv_has ls 3 [(2, .int (nI j)), (0, .ref (ad 0 0)), (1, .int key)] → W p l e (nf_Rm 0 0) s m ([.ref (ad 0 0), .int key] : List Value).toArray below meth c H locs 0 0 Q (F0 m 2 ls []) := by
    intro n
    induction n with
    | zero => exact fun _ _ _ _ hmz => absurd hmz (Nat.not_lt_zero _)
    | succ n ihloop2 =>
      intro j ls H locs hmz hjn hf hM hl
      refine lv_iload_n (pc := 2) hx hb dX3_slotOf_2 rfl (lv_at hl 0 rfl) ?_
      refine lv_aload_n (pc := 3) hx hb dX3_slotOf_3 rfl (lv_at hl 1 rfl) ?_
      refine nf_geti (pc := 4) hC hinX3 hM rfl rfl 3 (by decide) (List.mem_cons_of_mem _ wF_X3_23) rfl dX3_slotOf_4 ?_
      refine lv_icmp_ge (pc := 7) (tgt := 28) hx hb dX3_slotOf_7 (by decide) (fun hh => ?_) (fun hh => ?_)
      · have hj1 : kc ≤ j := (nI_leI (by omega) (by omega)).mp (by rw [hk] at hh; exact hh)
        refine lv_iconst (pc := 28) (v := -1) hx hb dX3_slotOf_28 (by decide) ?_
        exact hret _ _ _ _ _ _ _ _ (by rw [hf, show kc - j = 0 by omega]; rfl) rfl rfl rfl hM dX3_slotOf_29
      · have hj1 : j < kc := Nat.lt_of_not_le (fun z => hh (by rw [hk]; exact (nI_leI (by omega) (by omega)).mpr z))
        refine lv_aload_n (pc := 10) hx hb dX3_slotOf_10 rfl (lv_at hl 1 rfl) ?_
        refine nf_getr (pc := 11) hC hinX3 hM rfl rfl 2 (by decide) (List.mem_cons_of_mem _ wF_X3_19) rfl dX3_slotOf_11 ?_
        refine lv_iload_n (pc := 14) hx hb dX3_slotOf_14 rfl (lv_at hl 0 rfl) ?_
        refine nf_iald (pc := 15) hC hM 0 rfl rfl j rfl (by omega) (by decide) dX3_slotOf_15 ?_
        refine lv_iload_n (pc := 16) hx hb dX3_slotOf_16 rfl (lv_at hl 2 rfl) ?_
        refine lv_icmp_ne (pc := 17) (tgt := 22) hx hb dX3_slotOf_17 (by decide) (fun h2 => ?_) (fun h2 => ?_)
        · skip
          refine lv_iinc (pc := 22) (k := 0) (v := nI (j + 1)) (lv' := [(2, .int (nI (j + 1))), (0, .ref (ad 0 0)), (1, .int key)]) hx hb dX3_slotOf_22 hl rfl (nI_1 _) (by decide) rfl (fun ls hl => ?_)
          refine lv_goto (pc := 25) (tgt := 2) hx hb dX3_slotOf_25 (by decide) ?_
          exact ihloop2 (j + 1) ls _ _ (by omega) (by omega) (by rw [hf, show kc - j = (kc - (j + 1)) + 1 by omega, xs_slx, if_neg h2]) hM hl
        · skip
          refine lv_iload_n (pc := 20) hx hb dX3_slotOf_20 rfl (lv_at hl 0 rfl) ?_
          exact hret _ _ _ _ _ _ _ _ (by rw [hf, show kc - j = (kc - (j + 1)) + 1 by omega, xs_slx, if_pos h2]) rfl rfl rfl hM dX3_slotOf_21
  exact loop2 _ 0 ls _ _ (Nat.lt_succ_self _) (Nat.zero_le _) rfl hM hl
set_option maxHeartbeats 4000000 in
set_option maxRecDepth 100000 in
theorem ct_X3_takeKey {key : Int32} (hk : I 0 0 3 = nI kc) (hkk : kc ≤ 10) : nf_Ti l yX3_takeKey wsX3_takeKey 1 22 D vwCl (xT cs) Bs (xS cs nn) ad [.ref (ad 0 0), .int key] I J (xP nn mp) (nb_I (xs_tkB I kc key)) (xs_tkI I kc key) J (xP nn mp) := by
  refine nf_enterz (cc := cX3_takeKey) (maxL := 2) (by decide) rfl (Nat.le_of_ble_eq_true rfl) ?_
  intro p e s m below meth c ls Q hC hM hl hret
  have hx := hC.1.1
  have hb := hC.1.2.1
  have hl : lv_has ls 2 [(0, .ref (ad 0 0)), (1, .int key)] := hl
  have hinX3 : ∀ w ∈ u_ws RX3 TX3 5, w ∈ wsX3_takeKey := fun w h => List.mem_cons_of_mem _ (inX3 w h)
  refine lv_aload_n (pc := 0) hx hb dX3_takeKey_0 rfl (lv_at hl 0 rfl) ?_
  refine lv_iload_n (pc := 1) hx hb dX3_takeKey_1 rfl (lv_at hl 1 rfl) ?_
  refine nf_calli (pc := 2) (va_runV (As := [.int key]) (rest := []) hC.1 (ct_X3_slotOf (key := key) hk hkk) (cwV 1 hC.1.2.2.2.2 (gd_V wM_X3_147 wi_X3_slotOf wsel_X3_slotOf wini_X3 wcode_X3_slotOf) rfl rfl rfl (by decide +kernel) ⟨by decide, by decide⟩) (nf_preV hC hM rfl rfl) rfl rfl hl.1 rfl (lv_room (Nat.le_of_ble_eq_true rfl)) dX3_takeKey_2 ⟨Nat.le_refl _, Nat.le_refl _⟩) hM (fun H locs hM => ?_)
  refine lv_iconst (pc := 5) (v := -1) hx hb dX3_takeKey_5 (by decide) ?_
  refine lv_icmp_eq (pc := 6) (tgt := 11) hx hb dX3_takeKey_6 (by decide) (fun h1 => ?_) (fun h1 => ?_)
  · skip
    refine lv_aload_n (pc := 11) hx hb dX3_takeKey_11 rfl (lv_at hl 0 rfl) ?_
    refine nf_geti (pc := 12) hC hinX3 hM rfl rfl 3 (by decide) (List.mem_cons_of_mem _ wF_X3_23) rfl dX3_takeKey_12 ?_
    refine lv_bipush (pc := 15) (v := 10) hx hb dX3_takeKey_15 (by decide) ?_
    refine lv_icmp_lt (pc := 17) (tgt := 22) hx hb dX3_takeKey_17 (by decide) (fun h2 => ?_) (fun h2 => ?_)
    · skip
      have hkl : kc < 10 := nk_lt hk h2 (by omega) (by omega)
      refine lv_aload_n (pc := 22) hx hb dX3_takeKey_22 rfl (lv_at hl 0 rfl) ?_
      refine nf_getr (pc := 23) hC hinX3 hM rfl rfl 2 (by decide) (List.mem_cons_of_mem _ wF_X3_19) rfl dX3_takeKey_23 ?_
      refine lv_aload_n (pc := 26) hx hb dX3_takeKey_26 rfl (lv_at hl 0 rfl) ?_
      refine nf_geti (pc := 27) hC hinX3 hM rfl rfl 3 (by decide) (List.mem_cons_of_mem _ wF_X3_23) rfl dX3_takeKey_27 ?_
      refine lv_iload_n (pc := 30) hx hb dX3_takeKey_30 rfl (lv_at hl 1 rfl) ?_
      refine nf_iast (pc := 31) hC hM 0 rfl rfl kc hk hkl (by decide) dX3_takeKey_31 (fun H locs hM => ?_)
      refine lv_aload_n (pc := 32) hx hb dX3_takeKey_32 rfl (lv_at hl 0 rfl) ?_
      refine lv_dup (pc := 33) hx hb dX3_takeKey_33 rfl ?_
      refine nf_geti (pc := 34) hC hinX3 hM rfl rfl 3 (by decide) (List.mem_cons_of_mem _ wF_X3_23) rfl dX3_takeKey_34 ?_
      refine lv_iconst (pc := 37) (v := 1) hx hb dX3_takeKey_37 (by decide) ?_
      refine lv_iadd (pc := 38) hx hb dX3_takeKey_38 ?_
      refine nf_puti (pc := 39) hC hinX3 tyX3 tyX3_ok nmX3 hM rfl rfl 3 (by decide) (List.mem_cons_of_mem _ wF_X3_23) rfl (by decide +kernel) rfl dX3_takeKey_39 (fun H locs hM => ?_)
      refine lv_iconst (pc := 42) (v := 1) hx hb dX3_takeKey_42 (by decide) ?_
      exact hret _ _ _ _ _ _ _ _ (by simp [nb_I, xs_tkB, h1, h2]) (by simp [xs_tkI, h1, h2] <;> rfl) rfl rfl hM dX3_takeKey_43
    · skip
      refine lv_iconst (pc := 20) (v := 0) hx hb dX3_takeKey_20 (by decide) ?_
      exact hret _ _ _ _ _ _ _ _ (by simp [nb_I, xs_tkB, h1, h2]) (by simp [xs_tkI, h1, h2] <;> rfl) rfl rfl hM dX3_takeKey_21
  · skip
    refine lv_iconst (pc := 9) (v := 1) hx hb dX3_takeKey_9 (by decide) ?_
    exact hret _ _ _ _ _ _ _ _ (by simp [nb_I, xs_tkB, h1]) (by simp [xs_tkI, h1] <;> rfl) rfl rfl hM dX3_takeKey_10
set_option maxHeartbeats 4000000 in
set_option maxRecDepth 100000 in
theorem ct_X3_valueAt {i : Nat} {key : Int32} (hk : I 0 0 3 = nI kc) (hkk : kc ≤ 10) (hi : i < nn) : nf_Tl l yX3_valueAt wsX3_valueAt 1 22 D vwCl (xT cs) Bs (xS cs nn) ad [.ref (ad 0 0), .ref (ad 5 i), .int key] I J (xP nn mp) (xs_val I J kc i key) I J (xP nn mp) := by
  refine nf_enterl (cc := cX3_valueAt) (maxL := 4) (by decide) rfl (Nat.le_of_ble_eq_true rfl) ?_
  intro p e s m below meth c ls Q hC hM hl hret
  have hx := hC.1.1
  have hb := hC.1.2.1
  have hl : lv_has ls 4 [(0, .ref (ad 0 0)), (1, .ref (ad 5 i)), (2, .int key)] := hl
  have hinX1 : ∀ w ∈ u_ws RX1 TX1 7, w ∈ wsX3_valueAt := fun w h => List.mem_cons_of_mem _ (inX1 w h)
  refine lv_aload_n (pc := 0) hx hb dX3_valueAt_0 rfl (lv_at hl 0 rfl) ?_
  refine lv_iload_n (pc := 1) hx hb dX3_valueAt_1 rfl (lv_at hl 2 rfl) ?_
  refine nf_calli (pc := 2) (va_runV (As := [.int key]) (rest := []) hC.1 (ct_X3_slotOf (key := key) hk hkk) (cwV 1 hC.1.2.2.2.2 (gd_V wM_X3_147 wi_X3_slotOf wsel_X3_slotOf wini_X3 wcode_X3_slotOf) rfl rfl rfl (by decide +kernel) ⟨by decide, by decide⟩) (nf_preV hC hM rfl rfl) rfl rfl hl.1 rfl (lv_room (Nat.le_of_ble_eq_true rfl)) dX3_valueAt_2 ⟨Nat.le_refl _, Nat.le_refl _⟩) hM (fun H locs hM => ?_)
  refine lv_istore_n (pc := 5) (lv' := [(3, .int (xs_slot I kc key)), (0, .ref (ad 0 0)), (1, .ref (ad 5 i)), (2, .int key)]) hx hb dX3_valueAt_5 rfl hl (by decide) rfl (fun ls hl => ?_)
  refine lv_iload_n (pc := 6) hx hb dX3_valueAt_6 rfl (lv_at hl 0 rfl) ?_
  refine lv_iconst (pc := 7) (v := -1) hx hb dX3_valueAt_7 (by decide) ?_
  refine lv_icmp_ne (pc := 8) (tgt := 17) hx hb dX3_valueAt_8 (by decide) (fun h1 => ?_) (fun h1 => ?_)
  · skip
    obtain ⟨sl, hsl, hse, -⟩ := (xs_slot_c I kc key).resolve_left h1
    refine lv_aload_n (pc := 17) hx hb dX3_valueAt_17 rfl (lv_at hl 2 rfl) ?_
    refine nf_getr (pc := 18) hC hinX1 hM (xS_5 (by first | assumption | omega)) rfl 4 (by decide) (List.mem_cons_of_mem _ wF_X3_113) rfl dX3_valueAt_18 ?_
    refine lv_iload_n (pc := 21) hx hb dX3_valueAt_21 rfl (lv_at hl 0 rfl) ?_
    refine nf_lald (pc := 22) hC hM 1 (xS_7 (by first | assumption | omega)) rfl sl hse (by omega) (by decide) dX3_valueAt_22 ?_
    exact hret _ _ _ _ _ _ _ _ (by rw [xs_val, if_neg h1, hse, nI_clamp (by omega)]) rfl rfl rfl hM dX3_valueAt_23
  · skip
    refine lv_ldc2 (pc := 11) (v := 4294967296) hx hb hC.1.2.2.2.1 (hC.1.2.2.2.2 _ (List.mem_cons_of_mem _ wC_X3_107)) dX3_valueAt_11 ?_
    refine lv_goto (pc := 14) (tgt := 23) hx hb dX3_valueAt_14 (by decide) ?_
    exact hret _ _ _ _ _ _ _ _ (by simp [xs_val, h1]) rfl rfl rfl hM dX3_valueAt_23
end XK
