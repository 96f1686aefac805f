/-! The model: create, join, stabilise, fix, get. -/
section YC
variable {l : Launch} {D : va_G} {cs : Nat → ClassId} {Bs nn rwn kp : Nat} {ad : nf_A} {I : nf_I} {J : nf_J} {P : nf_P}
set_option maxHeartbeats 4000000 in
set_option maxRecDepth 100000 in
theorem ct_X4_create {id : Int32}  : nf_Ti l yX4_create wsX4_create 1 20 D vwCl (xT cs) Bs (xS cs nn) ad [.ref (ad 20 0), .int id] I J P (nb_I (ys_crB I id)) (ys_crI I id) J P := by
  refine nf_enterz (cc := cX4_create) (maxL := 2) (by decide) rfl (Nat.le_of_ble_eq_true rfl) ?_
  intro p e s m below meth c ls Q hC hM hl hret
  have hx := hC.1.1
  have hb := hC.1.2.1
  have hl : lv_has ls 2 [(0, .ref (ad 20 0)), (1, .int id)] := hl
  have hinX4 : ∀ w ∈ u_ws RX4 TX4 22, w ∈ wsX4_create := fun w h => List.mem_cons_of_mem _ (inX4 w h)
  refine lv_iload_n (pc := 0) hx hb dX4_create_0 rfl (lv_at hl 1 rfl) ?_
  refine nf_calli (pc := 1) (va_runS (As := [.int id]) (rest := []) hC.1 (ct_X4_isId) (cwS 1 hC.1.2.2.2.2 (gd_S wM_X4_67 wst_X4_isId wini_X4 wcode_X4_isId) rfl rfl rfl (by decide +kernel) ⟨by decide, by decide⟩) (nf_preS hC hM) rfl rfl hl.1 rfl (lv_room (Nat.le_of_ble_eq_true rfl)) dX4_create_1 ⟨Nat.le_refl _, Nat.le_refl _⟩) hM (fun H locs hM => ?_)
  refine lv_if_eq (pc := 4) (tgt := 14) hx hb dX4_create_4 (by decide) (fun h1 => ?_) (fun h1 => ?_)
  · have h1 := nb_0 h1
    refine lv_iconst (pc := 14) (v := 0) hx hb dX4_create_14 (by decide) ?_
    exact hret _ _ _ _ _ _ _ _ (by simp [nb_I, ys_crB, h1]) (by simp [ys_crI, h1]) rfl rfl hM dX4_create_15
  · have h1 := nb_1 h1
    refine lv_aload_n (pc := 7) hx hb dX4_create_7 rfl (lv_at hl 0 rfl) ?_
    refine nf_geti (pc := 8) hC hinX4 hM rfl rfl 0 (by decide) (List.mem_cons_of_mem _ wF_X4_83) rfl dX4_create_8 ?_
    refine lv_if_le (pc := 11) (tgt := 16) hx hb dX4_create_11 (by decide) (fun h2 => ?_) (fun h2 => ?_)
    · skip
      obtain ⟨xn, hxn, hxne⟩ := ys_isId_ix h1
      refine lv_aload_n (pc := 16) hx hb dX4_create_16 rfl (lv_at hl 0 rfl) ?_
      refine lv_iconst (pc := 17) (v := 1) hx hb dX4_create_17 (by decide) ?_
      refine nf_puti (pc := 18) hC hinX4 tyX4 tyX4_ok nmX4 hM rfl rfl 0 (by decide) (List.mem_cons_of_mem _ wF_X4_83) rfl (by decide +kernel) rfl dX4_create_18 (fun H locs hM => ?_)
      refine lv_aload_n (pc := 21) hx hb dX4_create_21 rfl (lv_at hl 0 rfl) ?_
      refine nf_getr (pc := 22) hC hinX4 hM rfl rfl 1 (by decide) (List.mem_cons_of_mem _ wF_X4_7) rfl dX4_create_22 ?_
      refine lv_iload_n (pc := 25) hx hb dX4_create_25 rfl (lv_at hl 1 rfl) ?_
      refine lv_iconst (pc := 26) (v := 2) hx hb dX4_create_26 (by decide) ?_
      refine nf_iast (pc := 27) hC hM 0 rfl rfl xn hxne (by omega) (by decide) dX4_create_27 (fun H locs hM => ?_)
      refine lv_aload_n (pc := 28) hx hb dX4_create_28 rfl (lv_at hl 0 rfl) ?_
      refine nf_getr (pc := 29) hC hinX4 hM rfl rfl 2 (by decide) (List.mem_cons_of_mem _ wF_X4_13) rfl dX4_create_29 ?_
      refine lv_iload_n (pc := 32) hx hb dX4_create_32 rfl (lv_at hl 1 rfl) ?_
      refine lv_iload_n (pc := 33) hx hb dX4_create_33 rfl (lv_at hl 1 rfl) ?_
      refine nf_iast (pc := 34) hC hM 0 rfl rfl xn hxne (by omega) (by decide) dX4_create_34 (fun H locs hM => ?_)
      refine lv_iconst (pc := 35) (v := 1) hx hb dX4_create_35 (by decide) ?_
      exact hret _ _ _ _ _ _ _ _ (by simp [nb_I, ys_crB, h1, h2]) (by rw [ys_crI, if_neg (by rw [h1]; decide), if_pos h2, hxne, nI_clamp (by omega)]) rfl rfl hM dX4_create_36
    · skip
      refine lv_iconst (pc := 14) (v := 0) hx hb dX4_create_14 (by decide) ?_
      exact hret _ _ _ _ _ _ _ _ (by simp [nb_I, ys_crB, h1, h2]) (by simp [ys_crI, h1, h2]) rfl rfl hM dX4_create_15
set_option maxHeartbeats 4000000 in
set_option maxRecDepth 100000 in
theorem ct_X4_join {id via : Int32} (hr : I 20 0 13 = nI rwn) (hrw : rwn ≤ 20) : nf_Ti l yX4_join wsX4_join 2 50 D vwCl (xT cs) Bs (xS cs nn) ad [.ref (ad 20 0), .int id, .int via] I J P (nb_I (ys_jnB I id via)) (ys_jnI I rwn id via) (ys_jnJ I J rwn id via) P := by
  refine nf_enterz (cc := cX4_join) (maxL := 3) (by decide) rfl (Nat.le_of_ble_eq_true rfl) ?_
  intro p e s m below meth c ls Q hC hM hl hret
  have hx := hC.1.1
  have hb := hC.1.2.1
  have hl : lv_has ls 3 [(0, .ref (ad 20 0)), (1, .int id), (2, .int via)] := hl
  have hinX4 : ∀ w ∈ u_ws RX4 TX4 22, w ∈ wsX4_join := fun w h => List.mem_cons_of_mem _ (inX4 w h)
  refine lv_iload_n (pc := 0) hx hb dX4_join_0 rfl (lv_at hl 1 rfl) ?_
  refine nf_calli (pc := 1) (va_runS (As := [.int id]) (rest := []) hC.1 (ct_X4_isId) (cwS 1 hC.1.2.2.2.2 (gd_S wM_X4_67 wst_X4_isId wini_X4 wcode_X4_isId) rfl rfl rfl (by decide +kernel) ⟨by decide, by decide⟩) (nf_preS hC hM) rfl rfl hl.1 rfl (lv_room (Nat.le_of_ble_eq_true rfl)) dX4_join_1 ⟨Nat.le_refl _, Nat.le_refl _⟩) hM (fun H locs hM => ?_)
  refine lv_if_eq (pc := 4) (tgt := 42) hx hb dX4_join_4 (by decide) (fun h1 => ?_) (fun h1 => ?_)
  · have h1 := nb_0 h1
    refine lv_iconst (pc := 42) (v := 0) hx hb dX4_join_42 (by decide) ?_
    exact hret _ _ _ _ _ _ _ _ (by simp [nb_I, ys_jnB, h1]) (by rw [ys_jnI, if_pos (by simp [ys_jnB, h1])]) (by rw [ys_jnJ, if_pos (by simp [ys_jnB, h1])]) rfl hM dX4_join_43
  · have h1 := nb_1 h1
    obtain ⟨xn, hxn, hxne⟩ := ys_isId_ix h1
    refine lv_aload_n (pc := 7) hx hb dX4_join_7 rfl (lv_at hl 0 rfl) ?_
    refine nf_getr (pc := 8) hC hinX4 hM rfl rfl 1 (by decide) (List.mem_cons_of_mem _ wF_X4_7) rfl dX4_join_8 ?_
    refine lv_iload_n (pc := 11) hx hb dX4_join_11 rfl (lv_at hl 1 rfl) ?_
    refine nf_iald (pc := 12) hC hM 0 rfl rfl xn hxne (by omega) (by decide) dX4_join_12 ?_
    refine lv_if_ne (pc := 13) (tgt := 42) hx hb dX4_join_13 (by decide) (fun h2 => ?_) (fun h2 => ?_)
    · skip
      refine lv_iconst (pc := 42) (v := 0) hx hb dX4_join_42 (by decide) ?_
      exact hret _ _ _ _ _ _ _ _ (by rw [ys_jnB, if_neg (by rw [h1]; decide), hxne, nI_clamp (by omega)]; simp [nb_I, h2]) (by rw [ys_jnI, if_pos (by rw [ys_jnB, if_neg (by rw [h1]; decide), hxne, nI_clamp (by omega)]; simp [h2])]) (by rw [ys_jnJ, if_pos (by rw [ys_jnB, if_neg (by rw [h1]; decide), hxne, nI_clamp (by omega)]; simp [h2])]) rfl hM dX4_join_43
    · skip
      refine lv_aload_n (pc := 16) hx hb dX4_join_16 rfl (lv_at hl 0 rfl) ?_
      refine lv_iload_n (pc := 17) hx hb dX4_join_17 rfl (lv_at hl 2 rfl) ?_
      refine nf_calli (pc := 18) (va_runV (As := [.int via]) (rest := []) hC.1 (ct_X4_isMember (x := via)) (cwV 1 hC.1.2.2.2.2 (gd_V wM_X4_86 wi_X4_isMember wsel_X4_isMember wini_X4 wcode_X4_isMember) rfl rfl rfl (by decide +kernel) ⟨by decide, by decide⟩) (nf_preV hC hM rfl rfl) rfl rfl hl.1 rfl (lv_room (Nat.le_of_ble_eq_true rfl)) dX4_join_18 ⟨Nat.le_refl _, Nat.le_refl _⟩) hM (fun H locs hM => ?_)
      refine lv_if_eq (pc := 21) (tgt := 42) hx hb dX4_join_21 (by decide) (fun h3 => ?_) (fun h3 => ?_)
      · have h3 := nb_0 h3
        refine lv_iconst (pc := 42) (v := 0) hx hb dX4_join_42 (by decide) ?_
        exact hret _ _ _ _ _ _ _ _ (by rw [ys_jnB, if_neg (by rw [h1]; decide), hxne, nI_clamp (by omega)]; simp [nb_I, h2, h3]) (by rw [ys_jnI, if_pos (by rw [ys_jnB, if_neg (by rw [h1]; decide), hxne, nI_clamp (by omega)]; simp [h2, h3])]) (by rw [ys_jnJ, if_pos (by rw [ys_jnB, if_neg (by rw [h1]; decide), hxne, nI_clamp (by omega)]; simp [h2, h3])]) rfl hM dX4_join_43
      · have h3 := nb_1 h3
        refine lv_aload_n (pc := 24) hx hb dX4_join_24 rfl (lv_at hl 0 rfl) ?_
        refine nf_geti (pc := 25) hC hinX4 hM rfl rfl 0 (by decide) (List.mem_cons_of_mem _ wF_X4_83) rfl dX4_join_25 ?_
        refine lv_bipush (pc := 28) (v := 12) hx hb dX4_join_28 (by decide) ?_
        refine lv_icmp_ge (pc := 30) (tgt := 42) hx hb dX4_join_30 (by decide) (fun h4 => ?_) (fun h4 => ?_)
        · skip
          refine lv_iconst (pc := 42) (v := 0) hx hb dX4_join_42 (by decide) ?_
          exact hret _ _ _ _ _ _ _ _ (by rw [ys_jnB, if_neg (by rw [h1]; decide), hxne, nI_clamp (by omega)]; simp [nb_I, h2, h3, h4]) (by rw [ys_jnI, if_pos (by rw [ys_jnB, if_neg (by rw [h1]; decide), hxne, nI_clamp (by omega)]; simp [h2, h3, h4])]) (by rw [ys_jnJ, if_pos (by rw [ys_jnB, if_neg (by rw [h1]; decide), hxne, nI_clamp (by omega)]; simp [h2, h3, h4])]) rfl hM dX4_join_43
        · skip
          refine lv_aload_n (pc := 33) hx hb dX4_join_33 rfl (lv_at hl 0 rfl) ?_
          refine nf_geti (pc := 34) hC hinX4 hM rfl rfl 13 (by decide) (List.mem_cons_of_mem _ wF_X4_75) rfl dX4_join_34 ?_
          refine lv_bipush (pc := 37) (v := 20) hx hb dX4_join_37 (by decide) ?_
          refine lv_icmp_lt (pc := 39) (tgt := 44) hx hb dX4_join_39 (by decide) (fun h5 => ?_) (fun h5 => ?_)
          · skip
            have hr2 : rwn < 20 := nk_lt hr h5 (by omega) (by decide)
            refine lv_aload_n (pc := 44) hx hb dX4_join_44 rfl (lv_at hl 0 rfl) ?_
            refine lv_dup (pc := 45) hx hb dX4_join_45 rfl ?_
            refine nf_geti (pc := 46) hC hinX4 hM rfl rfl 0 (by decide) (List.mem_cons_of_mem _ wF_X4_83) rfl dX4_join_46 ?_
            refine lv_iconst (pc := 49) (v := 1) hx hb dX4_join_49 (by decide) ?_
            refine lv_iadd (pc := 50) hx hb dX4_join_50 ?_
            refine nf_puti (pc := 51) hC hinX4 tyX4 tyX4_ok nmX4 hM rfl rfl 0 (by decide) (List.mem_cons_of_mem _ wF_X4_83) rfl (by decide +kernel) rfl dX4_join_51 (fun H locs hM => ?_)
            refine lv_aload_n (pc := 54) hx hb dX4_join_54 rfl (lv_at hl 0 rfl) ?_
            refine nf_getr (pc := 55) hC hinX4 hM rfl rfl 1 (by decide) (List.mem_cons_of_mem _ wF_X4_7) rfl dX4_join_55 ?_
            refine lv_iload_n (pc := 58) hx hb dX4_join_58 rfl (lv_at hl 1 rfl) ?_
            refine lv_iconst (pc := 59) (v := 1) hx hb dX4_join_59 (by decide) ?_
            refine nf_iast (pc := 60) hC hM 0 rfl rfl xn hxne (by omega) (by decide) dX4_join_60 (fun H locs hM => ?_)
            refine lv_aload_n (pc := 61) hx hb dX4_join_61 rfl (lv_at hl 0 rfl) ?_
            refine lv_iload_n (pc := 62) hx hb dX4_join_62 rfl (lv_at hl 2 rfl) ?_
            refine lv_iload_n (pc := 63) hx hb dX4_join_63 rfl (lv_at hl 1 rfl) ?_
            refine lv_iconst (pc := 64) (v := 0) hx hb dX4_join_64 (by decide) ?_
            refine lv_iconst (pc := 65) (v := 0) hx hb dX4_join_65 (by decide) ?_
            refine lv_lconst (pc := 66) (v := 0) hx hb dX4_join_66 (by decide) ?_
            refine nf_callv (pc := 67) (va_runV (As := [.int via, .int id, .int 0, .int 0, .long 0]) (rest := []) hC.1 (ct_X4_ask (mb := via) (wd := id) (why := 0) (fi := 0) (v := 0) (rwn := rwn) (by simpa [nf_iu] using hr) (by omega)) (cwV 5 hC.1.2.2.2.2 (gd_V wM_X4_89 wi_X4_ask wsel_X4_ask wini_X4 wcode_X4_ask) rfl rfl rfl (by decide +kernel) ⟨by decide, by decide⟩) (nf_preV hC hM rfl rfl) rfl rfl hl.1 rfl (lv_room (Nat.le_of_ble_eq_true rfl)) dX4_join_67 ⟨Nat.le_refl _, Nat.le_refl _⟩) hM (fun H locs hM => ?_)
            refine lv_aload_n (pc := 70) hx hb dX4_join_70 rfl (lv_at hl 0 rfl) ?_
            refine nf_getr (pc := 71) hC hinX4 hM rfl rfl 19 (by decide) (List.mem_cons_of_mem _ wF_X4_56) rfl dX4_join_71 ?_
            refine lv_aload_n (pc := 74) hx hb dX4_join_74 rfl (lv_at hl 0 rfl) ?_
            refine nf_geti (pc := 75) hC hinX4 hM rfl rfl 13 (by decide) (List.mem_cons_of_mem _ wF_X4_75) rfl dX4_join_75 ?_
            refine lv_iconst (pc := 78) (v := 1) hx hb dX4_join_78 (by decide) ?_
            refine lv_isub (pc := 79) hx hb dX4_join_79 ?_
            refine lv_iload_n (pc := 80) hx hb dX4_join_80 rfl (lv_at hl 1 rfl) ?_
            refine nf_iast (pc := 81) hC hM 0 rfl rfl rwn (by simp [ys_ask, nf_iu, ys_po_row _ _ _ _ (show nf_iu (nf_iu I 20 0 0 (I 20 0 0 + 1)) 21 0 xn 1 20 0 13 = nI rwn by simpa [nf_iu] using hr), nI_pred]) (by omega) (by decide) dX4_join_81 (fun H locs hM => ?_)
            refine lv_iconst (pc := 82) (v := 1) hx hb dX4_join_82 (by decide) ?_
            exact hret _ _ _ _ _ _ _ _ (by rw [ys_jnB, if_neg (by rw [h1]; decide), hxne, nI_clamp (by omega)]; simp [nb_I, h2, h3, h4, h5]) (by rw [ys_jnI, if_neg (by rw [show ys_jnB I id via = true from by rw [ys_jnB, if_neg (by rw [h1]; decide), hxne, nI_clamp (by omega)]; simp [h2, h3, h4, h5]]; decide), ys_jn0, hxne, nI_clamp (by omega)]) (by rw [ys_jnJ, if_neg (by rw [show ys_jnB I id via = true from by rw [ys_jnB, if_neg (by rw [h1]; decide), hxne, nI_clamp (by omega)]; simp [h2, h3, h4, h5]]; decide)]) rfl hM dX4_join_83
          · skip
            refine lv_iconst (pc := 42) (v := 0) hx hb dX4_join_42 (by decide) ?_
            exact hret _ _ _ _ _ _ _ _ (by rw [ys_jnB, if_neg (by rw [h1]; decide), hxne, nI_clamp (by omega)]; simp [nb_I, h2, h3, h4, h5]) (by rw [ys_jnI, if_pos (by rw [ys_jnB, if_neg (by rw [h1]; decide), hxne, nI_clamp (by omega)]; simp [h2, h3, h4, h5])]) (by rw [ys_jnJ, if_pos (by rw [ys_jnB, if_neg (by rw [h1]; decide), hxne, nI_clamp (by omega)]; simp [h2, h3, h4, h5])]) rfl hM dX4_join_43
set_option maxHeartbeats 4000000 in
set_option maxRecDepth 100000 in
theorem ct_X4_stabilise {id : Int32} (hr : I 20 0 13 = nI rwn) (hrw : rwn ≤ 20) : nf_Ti l yX4_stabilise wsX4_stabilise 2 41 D vwCl (xT cs) Bs (xS cs nn) ad [.ref (ad 20 0), .int id] I J P (nb_I (ys_stB I id)) (ys_stI I rwn id) (ys_stJ I J rwn id) P := by
  refine nf_enterz (cc := cX4_stabilise) (maxL := 2) (by decide) rfl (Nat.le_of_ble_eq_true rfl) ?_
  intro p e s m below meth c ls Q hC hM hl hret
  have hx := hC.1.1
  have hb := hC.1.2.1
  have hl : lv_has ls 2 [(0, .ref (ad 20 0)), (1, .int id)] := hl
  have hinX4 : ∀ w ∈ u_ws RX4 TX4 22, w ∈ wsX4_stabilise := fun w h => List.mem_cons_of_mem _ (inX4 w h)
  refine lv_aload_n (pc := 0) hx hb dX4_stabilise_0 rfl (lv_at hl 0 rfl) ?_
  refine lv_iload_n (pc := 1) hx hb dX4_stabilise_1 rfl (lv_at hl 1 rfl) ?_
  refine nf_calli (pc := 2) (va_runV (As := [.int id]) (rest := []) hC.1 (ct_X4_isMember (x := id)) (cwV 1 hC.1.2.2.2.2 (gd_V wM_X4_86 wi_X4_isMember wsel_X4_isMember wini_X4 wcode_X4_isMember) rfl rfl rfl (by decide +kernel) ⟨by decide, by decide⟩) (nf_preV hC hM rfl rfl) rfl rfl hl.1 rfl (lv_room (Nat.le_of_ble_eq_true rfl)) dX4_stabilise_2 ⟨Nat.le_refl _, Nat.le_refl _⟩) hM (fun H locs hM => ?_)
  refine lv_if_eq (pc := 5) (tgt := 17) hx hb dX4_stabilise_5 (by decide) (fun h1 => ?_) (fun h1 => ?_)
  · have h1 := nb_0 h1
    refine lv_iconst (pc := 17) (v := 0) hx hb dX4_stabilise_17 (by decide) ?_
    exact hret _ _ _ _ _ _ _ _ (by simp [nb_I, ys_stB, h1]) (by rw [ys_stI, if_pos (by simp [ys_stB, h1])]) (by rw [ys_stJ, if_pos (by simp [ys_stB, h1])]) rfl hM dX4_stabilise_18
  · have h1 := nb_1 h1
    refine lv_aload_n (pc := 8) hx hb dX4_stabilise_8 rfl (lv_at hl 0 rfl) ?_
    refine nf_geti (pc := 9) hC hinX4 hM rfl rfl 13 (by decide) (List.mem_cons_of_mem _ wF_X4_75) rfl dX4_stabilise_9 ?_
    refine lv_bipush (pc := 12) (v := 20) hx hb dX4_stabilise_12 (by decide) ?_
    refine lv_icmp_lt (pc := 14) (tgt := 19) hx hb dX4_stabilise_14 (by decide) (fun h2 => ?_) (fun h2 => ?_)
    · skip
      have hr2 : rwn < 20 := nk_lt hr h2 (by omega) (by decide)
      obtain ⟨xn, hxn, hxne⟩ := ys_mem_ix h1
      refine lv_aload_n (pc := 19) hx hb dX4_stabilise_19 rfl (lv_at hl 0 rfl) ?_
      refine lv_bipush (pc := 20) (v := 6) hx hb dX4_stabilise_20 (by decide) ?_
      refine lv_aload_n (pc := 22) hx hb dX4_stabilise_22 rfl (lv_at hl 0 rfl) ?_
      refine nf_getr (pc := 23) hC hinX4 hM rfl rfl 2 (by decide) (List.mem_cons_of_mem _ wF_X4_13) rfl dX4_stabilise_23 ?_
      refine lv_iload_n (pc := 26) hx hb dX4_stabilise_26 rfl (lv_at hl 1 rfl) ?_
      refine nf_iald (pc := 27) hC hM 0 rfl rfl xn hxne (by omega) (by decide) dX4_stabilise_27 ?_
      refine lv_iconst (pc := 28) (v := 0) hx hb dX4_stabilise_28 (by decide) ?_
      refine lv_iload_n (pc := 29) hx hb dX4_stabilise_29 rfl (lv_at hl 1 rfl) ?_
      refine nf_callv (pc := 30) (va_runV (As := [.int 6, .int (I 22 0 xn), .int 0, .int id]) (rest := []) hC.1 (ct_X4_post (kd := 6) (tz := (I 22 0 xn)) (ky := 0) (ak := id) (rwn := rwn) hr (by omega)) (cwV 4 hC.1.2.2.2.2 (gd_V wM_X4_79 wi_X4_post wsel_X4_post wini_X4 wcode_X4_post) rfl rfl rfl (by decide +kernel) ⟨by decide, by decide⟩) (nf_preV hC hM rfl rfl) rfl rfl hl.1 rfl (lv_room (Nat.le_of_ble_eq_true rfl)) dX4_stabilise_30 ⟨Nat.le_refl _, Nat.le_refl _⟩) hM (fun H locs hM => ?_)
      refine lv_iconst (pc := 33) (v := 1) hx hb dX4_stabilise_33 (by decide) ?_
      exact hret _ _ _ _ _ _ _ _ (by simp [nb_I, ys_stB, h1, h2]) (by rw [ys_stI, if_neg (by simp [ys_stB, h1, h2]), show I 22 0 id.toNatClampNeg = I 22 0 xn by rw [hxne, nI_clamp (by omega)]]) (by rw [ys_stJ, if_neg (by simp [ys_stB, h1, h2])]) rfl hM dX4_stabilise_34
    · skip
      refine lv_iconst (pc := 17) (v := 0) hx hb dX4_stabilise_17 (by decide) ?_
      exact hret _ _ _ _ _ _ _ _ (by simp [nb_I, ys_stB, h1, h2]) (by rw [ys_stI, if_pos (by simp [ys_stB, h1, h2])]) (by rw [ys_stJ, if_pos (by simp [ys_stB, h1, h2])]) rfl hM dX4_stabilise_18
set_option maxHeartbeats 4000000 in
set_option maxRecDepth 100000 in
theorem ct_X4_fix {id j : Int32} (hr : I 20 0 13 = nI rwn) (hrw : rwn ≤ 20) : nf_Ti l yX4_fix wsX4_fix 2 50 D vwCl (xT cs) Bs (xS cs nn) ad [.ref (ad 20 0), .int id, .int j] I J P (nb_I (ys_fxB I id j)) (ys_fxI I rwn id j) (ys_fxJ I J rwn id j) P := by
  refine nf_enterz (cc := cX4_fix) (maxL := 3) (by decide) rfl (Nat.le_of_ble_eq_true rfl) ?_
  intro p e s m below meth c ls Q hC hM hl hret
  have hx := hC.1.1
  have hb := hC.1.2.1
  have hl : lv_has ls 3 [(0, .ref (ad 20 0)), (1, .int id), (2, .int j)] := hl
  have hinX4 : ∀ w ∈ u_ws RX4 TX4 22, w ∈ wsX4_fix := fun w h => List.mem_cons_of_mem _ (inX4 w h)
  refine lv_aload_n (pc := 0) hx hb dX4_fix_0 rfl (lv_at hl 0 rfl) ?_
  refine lv_iload_n (pc := 1) hx hb dX4_fix_1 rfl (lv_at hl 1 rfl) ?_
  refine nf_calli (pc := 2) (va_runV (As := [.int id]) (rest := []) hC.1 (ct_X4_isMember (x := id)) (cwV 1 hC.1.2.2.2.2 (gd_V wM_X4_86 wi_X4_isMember wsel_X4_isMember wini_X4 wcode_X4_isMember) rfl rfl rfl (by decide +kernel) ⟨by decide, by decide⟩) (nf_preV hC hM rfl rfl) rfl rfl hl.1 rfl (lv_room (Nat.le_of_ble_eq_true rfl)) dX4_fix_2 ⟨Nat.le_refl _, Nat.le_refl _⟩) hM (fun H locs hM => ?_)
  refine lv_if_eq (pc := 5) (tgt := 27) hx hb dX4_fix_5 (by decide) (fun h1 => ?_) (fun h1 => ?_)
  · have h1 := nb_0 h1
    refine lv_iconst (pc := 27) (v := 0) hx hb dX4_fix_27 (by decide) ?_
    exact hret _ _ _ _ _ _ _ _ (by simp [nb_I, ys_fxB, h1]) (by rw [ys_fxI, if_pos (by simp [ys_fxB, h1])]) (by rw [ys_fxJ, if_pos (by simp [ys_fxB, h1])]) rfl hM dX4_fix_28
  · have h1 := nb_1 h1
    refine lv_iload_n (pc := 8) hx hb dX4_fix_8 rfl (lv_at hl 2 rfl) ?_
    refine lv_if_lt (pc := 9) (tgt := 27) hx hb dX4_fix_9 (by decide) (fun h2 => ?_) (fun h2 => ?_)
    · skip
      refine lv_iconst (pc := 27) (v := 0) hx hb dX4_fix_27 (by decide) ?_
      exact hret _ _ _ _ _ _ _ _ (by simp [nb_I, ys_fxB, h1, h2]) (by rw [ys_fxI, if_pos (by simp [ys_fxB, h1, h2])]) (by rw [ys_fxJ, if_pos (by simp [ys_fxB, h1, h2])]) rfl hM dX4_fix_28
    · skip
      refine lv_iload_n (pc := 12) hx hb dX4_fix_12 rfl (lv_at hl 2 rfl) ?_
      refine lv_bipush (pc := 13) (v := 7) hx hb dX4_fix_13 (by decide) ?_
      refine lv_icmp_gt (pc := 15) (tgt := 27) hx hb dX4_fix_15 (by decide) (fun h3 => ?_) (fun h3 => ?_)
      · skip
        refine lv_iconst (pc := 27) (v := 0) hx hb dX4_fix_27 (by decide) ?_
        exact hret _ _ _ _ _ _ _ _ (by simp [nb_I, ys_fxB, h1, h2, h3]) (by rw [ys_fxI, if_pos (by simp [ys_fxB, h1, h2, h3])]) (by rw [ys_fxJ, if_pos (by simp [ys_fxB, h1, h2, h3])]) rfl hM dX4_fix_28
      · skip
        refine lv_aload_n (pc := 18) hx hb dX4_fix_18 rfl (lv_at hl 0 rfl) ?_
        refine nf_geti (pc := 19) hC hinX4 hM rfl rfl 13 (by decide) (List.mem_cons_of_mem _ wF_X4_75) rfl dX4_fix_19 ?_
        refine lv_bipush (pc := 22) (v := 20) hx hb dX4_fix_22 (by decide) ?_
        refine lv_icmp_lt (pc := 24) (tgt := 29) hx hb dX4_fix_24 (by decide) (fun h4 => ?_) (fun h4 => ?_)
        · skip
          have hr2 : rwn < 20 := nk_lt hr h4 (by omega) (by decide)
          refine lv_aload_n (pc := 29) hx hb dX4_fix_29 rfl (lv_at hl 0 rfl) ?_
          refine lv_iload_n (pc := 30) hx hb dX4_fix_30 rfl (lv_at hl 1 rfl) ?_
          refine lv_iload_n (pc := 31) hx hb dX4_fix_31 rfl (lv_at hl 1 rfl) ?_
          refine lv_iconst (pc := 32) (v := 1) hx hb dX4_fix_32 (by decide) ?_
          refine lv_iload_n (pc := 33) hx hb dX4_fix_33 rfl (lv_at hl 2 rfl) ?_
          refine lv_ishl (pc := 34) hx hb dX4_fix_34 ?_
          refine lv_iadd (pc := 35) hx hb dX4_fix_35 ?_
          refine lv_iconst (pc := 36) (v := 1) hx hb dX4_fix_36 (by decide) ?_
          refine lv_iload_n (pc := 37) hx hb dX4_fix_37 rfl (lv_at hl 2 rfl) ?_
          refine lv_lconst (pc := 38) (v := 0) hx hb dX4_fix_38 (by decide) ?_
          refine nf_callv (pc := 39) (va_runV (As := [.int id, .int (id + (1 <<< (j &&& 31))), .int 1, .int j, .long 0]) (rest := []) hC.1 (ct_X4_ask (mb := id) (wd := (id + (1 <<< (j &&& 31)))) (why := 1) (fi := j) (v := 0) (rwn := rwn) hr (by omega)) (cwV 5 hC.1.2.2.2.2 (gd_V wM_X4_89 wi_X4_ask wsel_X4_ask wini_X4 wcode_X4_ask) rfl rfl rfl (by decide +kernel) ⟨by decide, by decide⟩) (nf_preV hC hM rfl rfl) rfl rfl hl.1 rfl (lv_room (Nat.le_of_ble_eq_true rfl)) dX4_fix_39 ⟨Nat.le_refl _, Nat.le_refl _⟩) hM (fun H locs hM => ?_)
          refine lv_iconst (pc := 42) (v := 1) hx hb dX4_fix_42 (by decide) ?_
          exact hret _ _ _ _ _ _ _ _ (by simp [nb_I, ys_fxB, h1, h2, h3, h4]) (by rw [ys_fxI, if_neg (by simp [ys_fxB, h1, h2, h3, h4])]) (by rw [ys_fxJ, if_neg (by simp [ys_fxB, h1, h2, h3, h4])]) rfl hM dX4_fix_43
        · skip
          refine lv_iconst (pc := 27) (v := 0) hx hb dX4_fix_27 (by decide) ?_
          exact hret _ _ _ _ _ _ _ _ (by simp [nb_I, ys_fxB, h1, h2, h3, h4]) (by rw [ys_fxI, if_pos (by simp [ys_fxB, h1, h2, h3, h4])]) (by rw [ys_fxJ, if_pos (by simp [ys_fxB, h1, h2, h3, h4])]) rfl hM dX4_fix_28
set_option maxHeartbeats 4000000 in
set_option maxRecDepth 100000 in
theorem ct_X4_get {id wd : Int32} (hr : I 20 0 13 = nI rwn) (hrw : rwn ≤ 20) : nf_Ti l yX4_get wsX4_get 2 50 D vwCl (xT cs) Bs (xS cs nn) ad [.ref (ad 20 0), .int id, .int wd] I J P (nb_I (ys_gtB I id wd)) (ys_gtI I rwn id wd) (ys_gtJ I J rwn id wd) P := by
  refine nf_enterz (cc := cX4_get) (maxL := 3) (by decide) rfl (Nat.le_of_ble_eq_true rfl) ?_
  intro p e s m below meth c ls Q hC hM hl hret
  have hx := hC.1.1
  have hb := hC.1.2.1
  have hl : lv_has ls 3 [(0, .ref (ad 20 0)), (1, .int id), (2, .int wd)] := hl
  have hinX4 : ∀ w ∈ u_ws RX4 TX4 22, w ∈ wsX4_get := fun w h => List.mem_cons_of_mem _ (inX4 w h)
  refine lv_aload_n (pc := 0) hx hb dX4_get_0 rfl (lv_at hl 0 rfl) ?_
  refine lv_iload_n (pc := 1) hx hb dX4_get_1 rfl (lv_at hl 1 rfl) ?_
  refine nf_calli (pc := 2) (va_runV (As := [.int id]) (rest := []) hC.1 (ct_X4_isMember (x := id)) (cwV 1 hC.1.2.2.2.2 (gd_V wM_X4_86 wi_X4_isMember wsel_X4_isMember wini_X4 wcode_X4_isMember) rfl rfl rfl (by decide +kernel) ⟨by decide, by decide⟩) (nf_preV hC hM rfl rfl) rfl rfl hl.1 rfl (lv_room (Nat.le_of_ble_eq_true rfl)) dX4_get_2 ⟨Nat.le_refl _, Nat.le_refl _⟩) hM (fun H locs hM => ?_)
  refine lv_if_eq (pc := 5) (tgt := 24) hx hb dX4_get_5 (by decide) (fun h1 => ?_) (fun h1 => ?_)
  · have h1 := nb_0 h1
    refine lv_iconst (pc := 24) (v := 0) hx hb dX4_get_24 (by decide) ?_
    exact hret _ _ _ _ _ _ _ _ (by simp [nb_I, ys_gtB, h1]) (by rw [ys_gtI, if_pos (by simp [ys_gtB, h1])]) (by rw [ys_gtJ, if_pos (by simp [ys_gtB, h1])]) rfl hM dX4_get_25
  · have h1 := nb_1 h1
    refine lv_iload_n (pc := 8) hx hb dX4_get_8 rfl (lv_at hl 2 rfl) ?_
    refine nf_calli (pc := 9) (va_runS (As := [.int wd]) (rest := []) hC.1 (ct_X4_isId) (cwS 1 hC.1.2.2.2.2 (gd_S wM_X4_67 wst_X4_isId wini_X4 wcode_X4_isId) rfl rfl rfl (by decide +kernel) ⟨by decide, by decide⟩) (nf_preS hC hM) rfl rfl hl.1 rfl (lv_room (Nat.le_of_ble_eq_true rfl)) dX4_get_9 ⟨Nat.le_refl _, Nat.le_refl _⟩) hM (fun H locs hM => ?_)
    refine lv_if_eq (pc := 12) (tgt := 24) hx hb dX4_get_12 (by decide) (fun h2 => ?_) (fun h2 => ?_)
    · have h2 := nb_0 h2
      refine lv_iconst (pc := 24) (v := 0) hx hb dX4_get_24 (by decide) ?_
      exact hret _ _ _ _ _ _ _ _ (by simp [nb_I, ys_gtB, h1, h2]) (by rw [ys_gtI, if_pos (by simp [ys_gtB, h1, h2])]) (by rw [ys_gtJ, if_pos (by simp [ys_gtB, h1, h2])]) rfl hM dX4_get_25
    · have h2 := nb_1 h2
      refine lv_aload_n (pc := 15) hx hb dX4_get_15 rfl (lv_at hl 0 rfl) ?_
      refine nf_geti (pc := 16) hC hinX4 hM rfl rfl 13 (by decide) (List.mem_cons_of_mem _ wF_X4_75) rfl dX4_get_16 ?_
      refine lv_bipush (pc := 19) (v := 20) hx hb dX4_get_19 (by decide) ?_
      refine lv_icmp_lt (pc := 21) (tgt := 26) hx hb dX4_get_21 (by decide) (fun h3 => ?_) (fun h3 => ?_)
      · skip
        have hr2 : rwn < 20 := nk_lt hr h3 (by omega) (by decide)
        refine lv_aload_n (pc := 26) hx hb dX4_get_26 rfl (lv_at hl 0 rfl) ?_
        refine lv_iload_n (pc := 27) hx hb dX4_get_27 rfl (lv_at hl 1 rfl) ?_
        refine lv_iload_n (pc := 28) hx hb dX4_get_28 rfl (lv_at hl 2 rfl) ?_
        refine lv_iconst (pc := 29) (v := 3) hx hb dX4_get_29 (by decide) ?_
        refine lv_iconst (pc := 30) (v := 0) hx hb dX4_get_30 (by decide) ?_
        refine lv_lconst (pc := 31) (v := 0) hx hb dX4_get_31 (by decide) ?_
        refine nf_callv (pc := 32) (va_runV (As := [.int id, .int wd, .int 3, .int 0, .long 0]) (rest := []) hC.1 (ct_X4_ask (mb := id) (wd := wd) (why := 3) (fi := 0) (v := 0) (rwn := rwn) hr (by omega)) (cwV 5 hC.1.2.2.2.2 (gd_V wM_X4_89 wi_X4_ask wsel_X4_ask wini_X4 wcode_X4_ask) rfl rfl rfl (by decide +kernel) ⟨by decide, by decide⟩) (nf_preV hC hM rfl rfl) rfl rfl hl.1 rfl (lv_room (Nat.le_of_ble_eq_true rfl)) dX4_get_32 ⟨Nat.le_refl _, Nat.le_refl _⟩) hM (fun H locs hM => ?_)
        refine lv_iconst (pc := 35) (v := 1) hx hb dX4_get_35 (by decide) ?_
        exact hret _ _ _ _ _ _ _ _ (by simp [nb_I, ys_gtB, h1, h2, h3]) (by rw [ys_gtI, if_neg (by simp [ys_gtB, h1, h2, h3])]) (by rw [ys_gtJ, if_neg (by simp [ys_gtB, h1, h2, h3])]) rfl hM dX4_get_36
      · skip
        refine lv_iconst (pc := 24) (v := 0) hx hb dX4_get_24 (by decide) ?_
        exact hret _ _ _ _ _ _ _ _ (by simp [nb_I, ys_gtB, h1, h2, h3]) (by rw [ys_gtI, if_pos (by simp [ys_gtB, h1, h2, h3])]) (by rw [ys_gtJ, if_pos (by simp [ys_gtB, h1, h2, h3])]) rfl hM dX4_get_25
end YC
