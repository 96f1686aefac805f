/-! Static helpers and leaves. -/
section XL
variable {l : Launch} {D : va_G} {cs : Nat → ClassId} {Bs nn : Nat} {ad : nf_A} {I : nf_I} {J : nf_J} {mp : Nat → Nat}
set_option maxHeartbeats 4000000 in
set_option maxRecDepth 100000 in
theorem ct_X3_isId {x : Int32}  : nf_Ti l yX3_isId wsX3_isId 0 0 D vwCl (xT cs) Bs (xS cs nn) ad [.int x] I J (xP nn mp) (nb_I (xs_isId x)) I J (xP nn mp) := by
  refine nf_enterz (cc := cX3_isId) (maxL := 1) (by decide) rfl (Nat.le_of_ble_eq_true rfl) ?_
  intro p e s m below meth c ls Q hC hM hl hret
  have hx := hC.1.1
  have hb := hC.1.2.1
  have hl : lv_has ls 1 [(0, .int x)] := hl
  refine lv_iload_n (pc := 0) hx hb dX3_isId_0 rfl (lv_at hl 0 rfl) ?_
  refine lv_if_lt (pc := 1) (tgt := 15) hx hb dX3_isId_1 (by decide) (fun h1 => ?_) (fun h1 => ?_)
  · skip
    refine lv_iconst (pc := 15) (v := 0) hx hb dX3_isId_15 (by decide) ?_
    exact hret _ _ _ _ _ _ _ _ (by simp [nb_I, xs_isId, h1]) rfl rfl rfl hM dX3_isId_16
  · skip
    refine lv_iload_n (pc := 4) hx hb dX3_isId_4 rfl (lv_at hl 0 rfl) ?_
    refine lv_sipush (pc := 5) (v := 256) hx hb dX3_isId_5 (by decide) ?_
    refine lv_icmp_ge (pc := 8) (tgt := 15) hx hb dX3_isId_8 (by decide) (fun h2 => ?_) (fun h2 => ?_)
    · skip
      refine lv_iconst (pc := 15) (v := 0) hx hb dX3_isId_15 (by decide) ?_
      exact hret _ _ _ _ _ _ _ _ (by simp [nb_I, xs_isId, h1, h2]) rfl rfl rfl hM dX3_isId_16
    · skip
      refine lv_iconst (pc := 11) (v := 1) hx hb dX3_isId_11 (by decide) ?_
      refine lv_goto (pc := 12) (tgt := 16) hx hb dX3_isId_12 (by decide) ?_
      exact hret _ _ _ _ _ _ _ _ (by simp [nb_I, xs_isId, h1, h2]) rfl rfl rfl hM dX3_isId_16
set_option maxHeartbeats 4000000 in
set_option maxRecDepth 100000 in
theorem ct_X3_isFinger {x : Int32}  : nf_Ti l yX3_isFinger wsX3_isFinger 0 0 D vwCl (xT cs) Bs (xS cs nn) ad [.int x] I J (xP nn mp) (nb_I (xs_isFinger x)) I J (xP nn mp) := by
  refine nf_enterz (cc := cX3_isFinger) (maxL := 1) (by decide) rfl (Nat.le_of_ble_eq_true rfl) ?_
  intro p e s m below meth c ls Q hC hM hl hret
  have hx := hC.1.1
  have hb := hC.1.2.1
  have hl : lv_has ls 1 [(0, .int x)] := hl
  refine lv_iload_n (pc := 0) hx hb dX3_isFinger_0 rfl (lv_at hl 0 rfl) ?_
  refine lv_if_lt (pc := 1) (tgt := 14) hx hb dX3_isFinger_1 (by decide) (fun h1 => ?_) (fun h1 => ?_)
  · skip
    refine lv_iconst (pc := 14) (v := 0) hx hb dX3_isFinger_14 (by decide) ?_
    exact hret _ _ _ _ _ _ _ _ (by simp [nb_I, xs_isFinger, h1]) rfl rfl rfl hM dX3_isFinger_15
  · skip
    refine lv_iload_n (pc := 4) hx hb dX3_isFinger_4 rfl (lv_at hl 0 rfl) ?_
    refine lv_bipush (pc := 5) (v := 8) hx hb dX3_isFinger_5 (by decide) ?_
    refine lv_icmp_ge (pc := 7) (tgt := 14) hx hb dX3_isFinger_7 (by decide) (fun h2 => ?_) (fun h2 => ?_)
    · skip
      refine lv_iconst (pc := 14) (v := 0) hx hb dX3_isFinger_14 (by decide) ?_
      exact hret _ _ _ _ _ _ _ _ (by simp [nb_I, xs_isFinger, h1, h2]) rfl rfl rfl hM dX3_isFinger_15
    · skip
      refine lv_iconst (pc := 10) (v := 1) hx hb dX3_isFinger_10 (by decide) ?_
      refine lv_goto (pc := 11) (tgt := 15) hx hb dX3_isFinger_11 (by decide) ?_
      exact hret _ _ _ _ _ _ _ _ (by simp [nb_I, xs_isFinger, h1, h2]) rfl rfl rfl hM dX3_isFinger_15
set_option maxHeartbeats 4000000 in
set_option maxRecDepth 100000 in
theorem ct_X3_fingerStart {x y : Int32}  : nf_Ti l yX3_fingerStart wsX3_fingerStart 0 0 D vwCl (xT cs) Bs (xS cs nn) ad [.int x, .int y] I J (xP nn mp) (xs_fst x y) I J (xP nn mp) := by
  refine nf_enteri (cc := cX3_fingerStart) (maxL := 2) (by decide) rfl (Nat.le_of_ble_eq_true rfl) ?_
  intro p e s m below meth c ls Q hC hM hl hret
  have hx := hC.1.1
  have hb := hC.1.2.1
  have hl : lv_has ls 2 [(0, .int x), (1, .int y)] := hl
  refine lv_iload_n (pc := 0) hx hb dX3_fingerStart_0 rfl (lv_at hl 0 rfl) ?_
  refine lv_iconst (pc := 1) (v := 1) hx hb dX3_fingerStart_1 (by decide) ?_
  refine lv_iload_n (pc := 2) hx hb dX3_fingerStart_2 rfl (lv_at hl 1 rfl) ?_
  refine lv_ishl (pc := 3) hx hb dX3_fingerStart_3 ?_
  refine lv_iadd (pc := 4) hx hb dX3_fingerStart_4 ?_
  refine lv_sipush (pc := 5) (v := 255) hx hb dX3_fingerStart_5 (by decide) ?_
  refine lv_iand (pc := 8) hx hb dX3_fingerStart_8 ?_
  exact hret _ _ _ _ _ _ _ _ rfl rfl rfl rfl hM dX3_fingerStart_9
set_option maxHeartbeats 4000000 in
set_option maxRecDepth 100000 in
theorem ct_X3_stepsUp {x y : Int32}  : nf_Ti l yX3_stepsUp wsX3_stepsUp 0 0 D vwCl (xT cs) Bs (xS cs nn) ad [.int x, .int y] I J (xP nn mp) (xs_up x y) I J (xP nn mp) := by
  refine nf_enteri (cc := cX3_stepsUp) (maxL := 2) (by decide) rfl (Nat.le_of_ble_eq_true rfl) ?_
  intro p e s m below meth c ls Q hC hM hl hret
  have hx := hC.1.1
  have hb := hC.1.2.1
  have hl : lv_has ls 2 [(0, .int x), (1, .int y)] := hl
  refine lv_iload_n (pc := 0) hx hb dX3_stepsUp_0 rfl (lv_at hl 1 rfl) ?_
  refine lv_iload_n (pc := 1) hx hb dX3_stepsUp_1 rfl (lv_at hl 0 rfl) ?_
  refine lv_isub (pc := 2) hx hb dX3_stepsUp_2 ?_
  refine lv_iconst (pc := 3) (v := 1) hx hb dX3_stepsUp_3 (by decide) ?_
  refine lv_isub (pc := 4) hx hb dX3_stepsUp_4 ?_
  refine lv_sipush (pc := 5) (v := 255) hx hb dX3_stepsUp_5 (by decide) ?_
  refine lv_iand (pc := 8) hx hb dX3_stepsUp_8 ?_
  refine lv_iconst (pc := 9) (v := 1) hx hb dX3_stepsUp_9 (by decide) ?_
  refine lv_iadd (pc := 10) hx hb dX3_stepsUp_10 ?_
  exact hret _ _ _ _ _ _ _ _ rfl rfl rfl rfl hM dX3_stepsUp_11
set_option maxHeartbeats 4000000 in
set_option maxRecDepth 100000 in
theorem ct_X3_isPastUpTo {x y z : Int32}  : nf_Ti l yX3_isPastUpTo wsX3_isPastUpTo 1 21 D vwCl (xT cs) Bs (xS cs nn) ad [.int x, .int y, .int z] I J (xP nn mp) (nb_I (xs_pst x y z)) I J (xP nn mp) := by
  refine nf_enterz (cc := cX3_isPastUpTo) (maxL := 3) (by decide) rfl (Nat.le_of_ble_eq_true rfl) ?_
  intro p e s m below meth c ls Q hC hM hl hret
  have hx := hC.1.1
  have hb := hC.1.2.1
  have hl : lv_has ls 3 [(0, .int x), (1, .int y), (2, .int z)] := hl
  refine lv_iload_n (pc := 0) hx hb dX3_isPastUpTo_0 rfl (lv_at hl 0 rfl) ?_
  refine lv_iload_n (pc := 1) hx hb dX3_isPastUpTo_1 rfl (lv_at hl 2 rfl) ?_
  refine nf_calli (pc := 2) (va_runS (As := [.int x, .int z]) (rest := []) hC.1 (ct_X3_stepsUp) (cwS 2 hC.1.2.2.2.2 (gd_S wM_X3_138 wst_X3_stepsUp wini_X3 wcode_X3_stepsUp) rfl rfl rfl (by decide +kernel) ⟨by decide, by decide⟩) (nf_preS hC hM) rfl rfl hl.1 rfl (lv_room (Nat.le_of_ble_eq_true rfl)) dX3_isPastUpTo_2 ⟨Nat.le_refl _, Nat.le_refl _⟩) hM (fun H locs hM => ?_)
  refine lv_iload_n (pc := 5) hx hb dX3_isPastUpTo_5 rfl (lv_at hl 0 rfl) ?_
  refine lv_iload_n (pc := 6) hx hb dX3_isPastUpTo_6 rfl (lv_at hl 1 rfl) ?_
  refine nf_calli (pc := 7) (va_runS (As := [.int x, .int y]) (rest := [.int (xs_up x z)]) hC.1 (ct_X3_stepsUp) (cwS 2 hC.1.2.2.2.2 (gd_S wM_X3_138 wst_X3_stepsUp wini_X3 wcode_X3_stepsUp) rfl rfl rfl (by decide +kernel) ⟨by decide, by decide⟩) (nf_preS hC hM) rfl rfl hl.1 rfl (lv_room (Nat.le_of_ble_eq_true rfl)) dX3_isPastUpTo_7 ⟨Nat.le_refl _, Nat.le_refl _⟩) hM (fun H locs hM => ?_)
  refine lv_icmp_gt (pc := 10) (tgt := 17) hx hb dX3_isPastUpTo_10 (by decide) (fun h1 => ?_) (fun h1 => ?_)
  · skip
    refine lv_iconst (pc := 17) (v := 0) hx hb dX3_isPastUpTo_17 (by decide) ?_
    exact hret _ _ _ _ _ _ _ _ (by simp [nb_I, xs_pst, h1]) rfl rfl rfl hM dX3_isPastUpTo_18
  · skip
    refine lv_iconst (pc := 13) (v := 1) hx hb dX3_isPastUpTo_13 (by decide) ?_
    refine lv_goto (pc := 14) (tgt := 18) hx hb dX3_isPastUpTo_14 (by decide) ?_
    exact hret _ _ _ _ _ _ _ _ (by simp [nb_I, xs_pst, h1]) rfl rfl rfl hM dX3_isPastUpTo_18
set_option maxHeartbeats 4000000 in
set_option maxRecDepth 100000 in
theorem ct_X3_isBetween {x y z : Int32}  : nf_Ti l yX3_isBetween wsX3_isBetween 1 21 D vwCl (xT cs) Bs (xS cs nn) ad [.int x, .int y, .int z] I J (xP nn mp) (nb_I (xs_btw x y z)) I J (xP nn mp) := by
  refine nf_enterz (cc := cX3_isBetween) (maxL := 3) (by decide) rfl (Nat.le_of_ble_eq_true rfl) ?_
  intro p e s m below meth c ls Q hC hM hl hret
  have hx := hC.1.1
  have hb := hC.1.2.1
  have hl : lv_has ls 3 [(0, .int x), (1, .int y), (2, .int z)] := hl
  refine lv_iload_n (pc := 0) hx hb dX3_isBetween_0 rfl (lv_at hl 0 rfl) ?_
  refine lv_iload_n (pc := 1) hx hb dX3_isBetween_1 rfl (lv_at hl 2 rfl) ?_
  refine nf_calli (pc := 2) (va_runS (As := [.int x, .int z]) (rest := []) hC.1 (ct_X3_stepsUp) (cwS 2 hC.1.2.2.2.2 (gd_S wM_X3_138 wst_X3_stepsUp wini_X3 wcode_X3_stepsUp) rfl rfl rfl (by decide +kernel) ⟨by decide, by decide⟩) (nf_preS hC hM) rfl rfl hl.1 rfl (lv_room (Nat.le_of_ble_eq_true rfl)) dX3_isBetween_2 ⟨Nat.le_refl _, Nat.le_refl _⟩) hM (fun H locs hM => ?_)
  refine lv_iload_n (pc := 5) hx hb dX3_isBetween_5 rfl (lv_at hl 0 rfl) ?_
  refine lv_iload_n (pc := 6) hx hb dX3_isBetween_6 rfl (lv_at hl 1 rfl) ?_
  refine nf_calli (pc := 7) (va_runS (As := [.int x, .int y]) (rest := [.int (xs_up x z)]) hC.1 (ct_X3_stepsUp) (cwS 2 hC.1.2.2.2.2 (gd_S wM_X3_138 wst_X3_stepsUp wini_X3 wcode_X3_stepsUp) rfl rfl rfl (by decide +kernel) ⟨by decide, by decide⟩) (nf_preS hC hM) rfl rfl hl.1 rfl (lv_room (Nat.le_of_ble_eq_true rfl)) dX3_isBetween_7 ⟨Nat.le_refl _, Nat.le_refl _⟩) hM (fun H locs hM => ?_)
  refine lv_icmp_ge (pc := 10) (tgt := 17) hx hb dX3_isBetween_10 (by decide) (fun h1 => ?_) (fun h1 => ?_)
  · skip
    refine lv_iconst (pc := 17) (v := 0) hx hb dX3_isBetween_17 (by decide) ?_
    exact hret _ _ _ _ _ _ _ _ (by simp [nb_I, xs_btw, h1]) rfl rfl rfl hM dX3_isBetween_18
  · skip
    refine lv_iconst (pc := 13) (v := 1) hx hb dX3_isBetween_13 (by decide) ?_
    refine lv_goto (pc := 14) (tgt := 18) hx hb dX3_isBetween_14 (by decide) ?_
    exact hret _ _ _ _ _ _ _ _ (by simp [nb_I, xs_btw, h1]) rfl rfl rfl hM dX3_isBetween_18
set_option maxHeartbeats 4000000 in
set_option maxRecDepth 100000 in
theorem ct_X1_isMember {i : Nat} (hi : i < nn) : nf_Ti l yX1_isMember wsX1_isMember 0 0 D vwCl (xT cs) Bs (xS cs nn) ad [.ref (ad 5 i)] I J (xP nn mp) (nb_I (xs_mem I i)) I J (xP nn mp) := by
  refine nf_enterz (cc := cX1_isMember) (maxL := 1) (by decide) rfl (Nat.le_of_ble_eq_true rfl) ?_
  intro p e s m below meth c ls Q hC hM hl hret
  have hx := hC.1.1
  have hb := hC.1.2.1
  have hl : lv_has ls 1 [(0, .ref (ad 5 i))] := hl
  have hinX1 : ∀ w ∈ u_ws RX1 TX1 7, w ∈ wsX1_isMember := fun w h => List.mem_cons_of_mem _ (inX1 w h)
  refine lv_aload_n (pc := 0) hx hb dX1_isMember_0 rfl (lv_at hl 0 rfl) ?_
  refine nf_geti (pc := 1) hC hinX1 hM (xS_5 (by first | assumption | omega)) rfl 1 (by decide) (List.mem_cons_of_mem _ wF_X1_9) rfl dX1_isMember_1 ?_
  refine lv_iconst (pc := 4) (v := -1) hx hb dX1_isMember_4 (by decide) ?_
  refine lv_icmp_eq (pc := 5) (tgt := 12) hx hb dX1_isMember_5 (by decide) (fun h1 => ?_) (fun h1 => ?_)
  · skip
    refine lv_iconst (pc := 12) (v := 0) hx hb dX1_isMember_12 (by decide) ?_
    exact hret _ _ _ _ _ _ _ _ (by simp [nb_I, xs_mem, h1]) rfl rfl rfl hM dX1_isMember_13
  · skip
    refine lv_iconst (pc := 8) (v := 1) hx hb dX1_isMember_8 (by decide) ?_
    refine lv_goto (pc := 9) (tgt := 13) hx hb dX1_isMember_9 (by decide) ?_
    exact hret _ _ _ _ _ _ _ _ (by simp [nb_I, xs_mem, h1]) rfl rfl rfl hM dX1_isMember_13
set_option maxHeartbeats 4000000 in
set_option maxRecDepth 100000 in
theorem ct_X2_isFull   : nf_Ti l yX2_isFull wsX2_isFull 0 0 D vwCl (xT cs) Bs (xS cs nn) ad [.ref (ad 3 0)] I J (xP nn mp) (nb_I (xs_full I)) I J (xP nn mp) := by
  refine nf_enterz (cc := cX2_isFull) (maxL := 1) (by decide) rfl (Nat.le_of_ble_eq_true rfl) ?_
  intro p e s m below meth c ls Q hC hM hl hret
  have hx := hC.1.1
  have hb := hC.1.2.1
  have hl : lv_has ls 1 [(0, .ref (ad 3 0))] := hl
  have hinX2 : ∀ w ∈ u_ws RX2 TX2 2, w ∈ wsX2_isFull := fun w h => List.mem_cons_of_mem _ (inX2 w h)
  refine lv_aload_n (pc := 0) hx hb dX2_isFull_0 rfl (lv_at hl 0 rfl) ?_
  refine nf_geti (pc := 1) hC hinX2 hM rfl rfl 1 (by decide) (List.mem_cons_of_mem _ wF_X2_17) rfl dX2_isFull_1 ?_
  refine lv_bipush (pc := 4) (v := 20) hx hb dX2_isFull_4 (by decide) ?_
  refine lv_icmp_lt (pc := 6) (tgt := 13) hx hb dX2_isFull_6 (by decide) (fun h1 => ?_) (fun h1 => ?_)
  · skip
    refine lv_iconst (pc := 13) (v := 0) hx hb dX2_isFull_13 (by decide) ?_
    exact hret _ _ _ _ _ _ _ _ (by simp [nb_I, xs_full, h1]) rfl rfl rfl hM dX2_isFull_14
  · skip
    refine lv_iconst (pc := 9) (v := 1) hx hb dX2_isFull_9 (by decide) ?_
    refine lv_goto (pc := 10) (tgt := 14) hx hb dX2_isFull_10 (by decide) ?_
    exact hret _ _ _ _ _ _ _ _ (by simp [nb_I, xs_full, h1]) rfl rfl rfl hM dX2_isFull_14
end XL
