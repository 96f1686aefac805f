/-! The model: found, fetch, tell. -/
section YF
variable {l : Launch} {D : va_G} {cs : Nat → ClassId} {Bs nn rwn kp : Nat} {ad : nf_A} {I : nf_I} {J : nf_J} {P : nf_P}
set_option maxHeartbeats 4000000 in
set_option maxRecDepth 100000 in
theorem ct_X4_found {nd : Nat} (hnd : nd < 256) (hpart : ¬ I 34 0 20 = 0 → ∃ pt : Nat, pt < 8 ∧ I 35 0 20 = nI pt) : nf_Tv l yX4_found wsX4_found 0 0 D vwCl (xT cs) Bs (xS cs nn) ad [.ref (ad 20 0), .int (nI nd)] I J P (ys_foI I J nd) J P := by
  refine nf_enterv (cc := cX4_found) (maxL := 3) (by decide) rfl (Nat.le_of_ble_eq_true rfl) ?_
  intro p e s m below meth c ls Q hC hM hl hret
  have hx := hC.1.1
  have hb := hC.1.2.1
  have hl : lv_has ls 3 [(0, .ref (ad 20 0)), (1, .int (nI nd))] := hl
  have hinX4 : ∀ w ∈ u_ws RX4 TX4 22, w ∈ wsX4_found := fun w h => List.mem_cons_of_mem _ (inX4 w h)
  refine lv_aload_n (pc := 0) hx hb dX4_found_0 rfl (lv_at hl 0 rfl) ?_
  refine nf_getr (pc := 1) hC hinX4 hM rfl rfl 21 (by decide) (List.mem_cons_of_mem _ wF_X4_62) rfl dX4_found_1 ?_
  refine lv_bipush (pc := 4) (v := 20) hx hb dX4_found_4 (by decide) ?_
  refine nf_lald (pc := 6) hC hM 1 rfl rfl 20 rfl (by omega) (by decide) dX4_found_6 ?_
  refine lv_l2i (pc := 7) hx hb dX4_found_7 rfl ?_
  refine lv_istore_n (pc := 8) (lv' := [(2, .int (((J 38 0 20)).toInt32)), (0, .ref (ad 20 0)), (1, .int (nI nd))]) hx hb dX4_found_8 rfl hl (by decide) rfl (fun ls hl => ?_)
  refine lv_aload_n (pc := 9) hx hb dX4_found_9 rfl (lv_at hl 1 rfl) ?_
  refine nf_getr (pc := 10) hC hinX4 hM rfl rfl 17 (by decide) (List.mem_cons_of_mem _ wF_X4_50) rfl dX4_found_10 ?_
  refine lv_bipush (pc := 13) (v := 20) hx hb dX4_found_13 (by decide) ?_
  refine nf_iald (pc := 15) hC hM 0 rfl rfl 20 rfl (by omega) (by decide) dX4_found_15 ?_
  refine lv_if_ne (pc := 16) (tgt := 36) hx hb dX4_found_16 (by decide) (fun h1 => ?_) (fun h1 => ?_)
  · skip
    obtain ⟨pt, hpt, hpe⟩ := hpart h1
    refine lv_aload_n (pc := 36) hx hb dX4_found_36 rfl (lv_at hl 1 rfl) ?_
    refine nf_getr (pc := 37) hC hinX4 hM rfl rfl 4 (by decide) (List.mem_cons_of_mem _ wF_X4_19) rfl dX4_found_37 ?_
    refine lv_bipush (pc := 40) (v := 8) hx hb dX4_found_40 (by decide) ?_
    refine lv_iload_n (pc := 42) hx hb dX4_found_42 rfl (lv_at hl 2 rfl) ?_
    refine lv_imul (pc := 43) hx hb dX4_found_43 ?_
    refine lv_aload_n (pc := 44) hx hb dX4_found_44 rfl (lv_at hl 1 rfl) ?_
    refine nf_getr (pc := 45) hC hinX4 hM rfl rfl 18 (by decide) (List.mem_cons_of_mem _ wF_X4_53) rfl dX4_found_45 ?_
    refine lv_bipush (pc := 48) (v := 20) hx hb dX4_found_48 (by decide) ?_
    refine nf_iald (pc := 50) hC hM 0 rfl rfl 20 rfl (by omega) (by decide) dX4_found_50 ?_
    refine lv_iadd (pc := 51) hx hb dX4_found_51 ?_
    refine lv_iload_n (pc := 52) hx hb dX4_found_52 rfl (lv_at hl 0 rfl) ?_
    refine nf_iast (pc := 53) hC hM 0 rfl rfl (8 * nd + pt) (nk_8 rfl hpe) (by omega) (by decide) dX4_found_53 (fun H locs hM => ?_)
    refine lv_aload_n (pc := 54) hx hb dX4_found_54 rfl (lv_at hl 1 rfl) ?_
    refine nf_getr (pc := 55) hC hinX4 hM rfl rfl 6 (by decide) (List.mem_cons_of_mem _ wF_X4_26) rfl dX4_found_55 ?_
    refine lv_iload_n (pc := 58) hx hb dX4_found_58 rfl (lv_at hl 2 rfl) ?_
    refine lv_aload_n (pc := 59) hx hb dX4_found_59 rfl (lv_at hl 1 rfl) ?_
    refine nf_getr (pc := 60) hC hinX4 hM rfl rfl 20 (by decide) (List.mem_cons_of_mem _ wF_X4_59) rfl dX4_found_60 ?_
    refine lv_bipush (pc := 63) (v := 20) hx hb dX4_found_63 (by decide) ?_
    refine nf_iald (pc := 65) hC hM 0 rfl rfl 20 rfl (by omega) (by decide) dX4_found_65 ?_
    refine nf_iast (pc := 66) hC hM 0 rfl rfl nd rfl (by omega) (by decide) dX4_found_66 (fun H locs hM => ?_)
    exact hret _ _ _ _ _ _ _ (by rw [ys_foI, ys_fo1, if_neg h1, hpe, nI_clamp (by omega)]) rfl rfl hM dX4_found_67
  · skip
    refine lv_aload_n (pc := 19) hx hb dX4_found_19 rfl (lv_at hl 1 rfl) ?_
    refine nf_getr (pc := 20) hC hinX4 hM rfl rfl 1 (by decide) (List.mem_cons_of_mem _ wF_X4_7) rfl dX4_found_20 ?_
    refine lv_iload_n (pc := 23) hx hb dX4_found_23 rfl (lv_at hl 2 rfl) ?_
    refine lv_iconst (pc := 24) (v := 2) hx hb dX4_found_24 (by decide) ?_
    refine nf_iast (pc := 25) hC hM 0 rfl rfl nd rfl (by omega) (by decide) dX4_found_25 (fun H locs hM => ?_)
    refine lv_aload_n (pc := 26) hx hb dX4_found_26 rfl (lv_at hl 1 rfl) ?_
    refine nf_getr (pc := 27) hC hinX4 hM rfl rfl 2 (by decide) (List.mem_cons_of_mem _ wF_X4_13) rfl dX4_found_27 ?_
    refine lv_iload_n (pc := 30) hx hb dX4_found_30 rfl (lv_at hl 2 rfl) ?_
    refine lv_iload_n (pc := 31) hx hb dX4_found_31 rfl (lv_at hl 0 rfl) ?_
    refine nf_iast (pc := 32) hC hM 0 rfl rfl nd rfl (by omega) (by decide) dX4_found_32 (fun H locs hM => ?_)
    refine lv_goto (pc := 33) (tgt := 54) hx hb dX4_found_33 (by decide) ?_
    refine lv_aload_n (pc := 54) hx hb dX4_found_54 rfl (lv_at hl 1 rfl) ?_
    refine nf_getr (pc := 55) hC hinX4 hM rfl rfl 6 (by decide) (List.mem_cons_of_mem _ wF_X4_26) rfl dX4_found_55 ?_
    refine lv_iload_n (pc := 58) hx hb dX4_found_58 rfl (lv_at hl 2 rfl) ?_
    refine lv_aload_n (pc := 59) hx hb dX4_found_59 rfl (lv_at hl 1 rfl) ?_
    refine nf_getr (pc := 60) hC hinX4 hM rfl rfl 20 (by decide) (List.mem_cons_of_mem _ wF_X4_59) rfl dX4_found_60 ?_
    refine lv_bipush (pc := 63) (v := 20) hx hb dX4_found_63 (by decide) ?_
    refine nf_iald (pc := 65) hC hM 0 rfl rfl 20 rfl (by omega) (by decide) dX4_found_65 ?_
    refine nf_iast (pc := 66) hC hM 0 rfl rfl nd rfl (by omega) (by decide) dX4_found_66 (fun H locs hM => ?_)
    exact hret _ _ _ _ _ _ _ (by rw [ys_foI, ys_fo1, if_pos h1]) rfl rfl hM dX4_found_67
set_option maxHeartbeats 4000000 in
set_option maxRecDepth 100000 in
theorem ct_X4_fetch {nd : Nat} (hr : I 20 0 13 = nI rwn) (hrw : rwn < 20) (hkp : I 20 0 7 = nI kp) (hk2 : kp ≤ 120) (hnd : nd < 256) : nf_Tv l yX4_fetch wsX4_fetch 1 24 D vwCl (xT cs) Bs (xS cs nn) ad [.ref (ad 20 0), .int (nI nd)] I J P (ys_feI I rwn) (ys_feJ I J kp nd rwn) P := by
  refine nf_enterv (cc := cX4_fetch) (maxL := 3) (by decide) rfl (Nat.le_of_ble_eq_true rfl) ?_
  intro p e s m below meth c ls Q hC hM hl hret
  have hx := hC.1.1
  have hb := hC.1.2.1
  have hl : lv_has ls 3 [(0, .ref (ad 20 0)), (1, .int (nI nd))] := hl
  have hinX4 : ∀ w ∈ u_ws RX4 TX4 22, w ∈ wsX4_fetch := fun w h => List.mem_cons_of_mem _ (inX4 w h)
  refine lv_aload_n (pc := 0) hx hb dX4_fetch_0 rfl (lv_at hl 0 rfl) ?_
  refine lv_iload_n (pc := 1) hx hb dX4_fetch_1 rfl (lv_at hl 1 rfl) ?_
  refine lv_aload_n (pc := 2) hx hb dX4_fetch_2 rfl (lv_at hl 0 rfl) ?_
  refine nf_getr (pc := 3) hC hinX4 hM rfl rfl 16 (by decide) (List.mem_cons_of_mem _ wF_X4_47) rfl dX4_fetch_3 ?_
  refine lv_bipush (pc := 6) (v := 20) hx hb dX4_fetch_6 (by decide) ?_
  refine nf_iald (pc := 8) hC hM 0 rfl rfl 20 rfl (by omega) (by decide) dX4_fetch_8 ?_
  refine nf_calli (pc := 9) (va_runV (As := [.int (nI nd), .int (I 33 0 20)]) (rest := []) hC.1 (ct_X4_entryAt (mb := (nI nd)) (wd := (I 33 0 20)) (kp := kp) hkp (by omega)) (cwV 2 hC.1.2.2.2.2 (gd_V wM_X4_99 wi_X4_entryAt wsel_X4_entryAt wini_X4 wcode_X4_entryAt) rfl rfl rfl (by decide +kernel) ⟨by decide, by decide⟩) (nf_preV hC hM rfl rfl) rfl rfl hl.1 rfl (lv_room (Nat.le_of_ble_eq_true rfl)) dX4_fetch_9 ⟨Nat.le_refl _, Nat.le_refl _⟩) hM (fun H locs hM => ?_)
  refine lv_istore_n (pc := 12) (lv' := [(2, .int (ys_eat I kp (nI nd) (I 33 0 20))), (0, .ref (ad 20 0)), (1, .int (nI nd))]) hx hb dX4_fetch_12 rfl hl (by decide) rfl (fun ls hl => ?_)
  refine lv_aload_n (pc := 13) hx hb dX4_fetch_13 rfl (lv_at hl 1 rfl) ?_
  refine lv_iconst (pc := 14) (v := 5) hx hb dX4_fetch_14 (by decide) ?_
  refine lv_aload_n (pc := 15) hx hb dX4_fetch_15 rfl (lv_at hl 1 rfl) ?_
  refine nf_getr (pc := 16) hC hinX4 hM rfl rfl 19 (by decide) (List.mem_cons_of_mem _ wF_X4_56) rfl dX4_fetch_16 ?_
  refine lv_bipush (pc := 19) (v := 20) hx hb dX4_fetch_19 (by decide) ?_
  refine nf_iald (pc := 21) hC hM 0 rfl rfl 20 rfl (by omega) (by decide) dX4_fetch_21 ?_
  refine lv_iconst (pc := 22) (v := 0) hx hb dX4_fetch_22 (by decide) ?_
  refine lv_iconst (pc := 23) (v := 0) hx hb dX4_fetch_23 (by decide) ?_
  refine nf_callv (pc := 24) (va_runV (As := [.int 5, .int (I 36 0 20), .int 0, .int 0]) (rest := []) hC.1 (ct_X4_post (kd := 5) (tz := (I 36 0 20)) (ky := 0) (ak := 0) (rwn := rwn) hr (by omega)) (cwV 4 hC.1.2.2.2.2 (gd_V wM_X4_79 wi_X4_post wsel_X4_post wini_X4 wcode_X4_post) rfl rfl rfl (by decide +kernel) ⟨by decide, by decide⟩) (nf_preV hC hM rfl rfl) rfl rfl hl.1 rfl (lv_room (Nat.le_of_ble_eq_true rfl)) dX4_fetch_24 ⟨Nat.le_refl _, Nat.le_refl _⟩) hM (fun H locs hM => ?_)
  refine lv_aload_n (pc := 27) hx hb dX4_fetch_27 rfl (lv_at hl 1 rfl) ?_
  refine nf_getr (pc := 28) hC hinX4 hM rfl rfl 21 (by decide) (List.mem_cons_of_mem _ wF_X4_62) rfl dX4_fetch_28 ?_
  refine lv_aload_n (pc := 31) hx hb dX4_fetch_31 rfl (lv_at hl 1 rfl) ?_
  refine nf_geti (pc := 32) hC hinX4 hM rfl rfl 13 (by decide) (List.mem_cons_of_mem _ wF_X4_75) rfl dX4_fetch_32 ?_
  refine lv_iconst (pc := 35) (v := 1) hx hb dX4_fetch_35 (by decide) ?_
  refine lv_isub (pc := 36) hx hb dX4_fetch_36 ?_
  refine lv_iload_n (pc := 37) hx hb dX4_fetch_37 rfl (lv_at hl 0 rfl) ?_
  refine lv_if_ge (pc := 38) (tgt := 47) hx hb dX4_fetch_38 (by decide) (fun h1 => ?_) (fun h1 => ?_)
  · skip
    obtain ⟨q, hq, hqe, -⟩ := (ys_eat_c I kp (nI nd) (I 33 0 20)).resolve_left (fun z => by rw [z] at h1; exact absurd h1 (by decide))
    refine lv_aload_n (pc := 47) hx hb dX4_fetch_47 rfl (lv_at hl 1 rfl) ?_
    refine nf_getr (pc := 48) hC hinX4 hM rfl rfl 10 (by decide) (List.mem_cons_of_mem _ wF_X4_35) rfl dX4_fetch_48 ?_
    refine lv_iload_n (pc := 51) hx hb dX4_fetch_51 rfl (lv_at hl 0 rfl) ?_
    refine nf_iald (pc := 52) hC hM 0 rfl rfl q hqe (by omega) (by decide) dX4_fetch_52 ?_
    refine lv_i2l (pc := 53) hx hb dX4_fetch_53 rfl ?_
    refine nf_last (pc := 54) hC hM 1 rfl rfl rwn (by simp [nf_iu, ys_po_row _ _ _ _ hr, nI_pred]) (by omega) (by decide) dX4_fetch_54 (fun H locs hM => ?_)
    refine lv_aload_n (pc := 55) hx hb dX4_fetch_55 rfl (lv_at hl 1 rfl) ?_
    refine nf_getr (pc := 56) hC hinX4 hM rfl rfl 20 (by decide) (List.mem_cons_of_mem _ wF_X4_59) rfl dX4_fetch_56 ?_
    refine lv_aload_n (pc := 59) hx hb dX4_fetch_59 rfl (lv_at hl 1 rfl) ?_
    refine nf_geti (pc := 60) hC hinX4 hM rfl rfl 13 (by decide) (List.mem_cons_of_mem _ wF_X4_75) rfl dX4_fetch_60 ?_
    refine lv_iconst (pc := 63) (v := 1) hx hb dX4_fetch_63 (by decide) ?_
    refine lv_isub (pc := 64) hx hb dX4_fetch_64 ?_
    refine lv_aload_n (pc := 65) hx hb dX4_fetch_65 rfl (lv_at hl 1 rfl) ?_
    refine nf_getr (pc := 66) hC hinX4 hM rfl rfl 20 (by decide) (List.mem_cons_of_mem _ wF_X4_59) rfl dX4_fetch_66 ?_
    refine lv_bipush (pc := 69) (v := 20) hx hb dX4_fetch_69 (by decide) ?_
    refine nf_iald (pc := 71) hC hM 0 rfl rfl 20 rfl (by omega) (by decide) dX4_fetch_71 ?_
    refine nf_iast (pc := 72) hC hM 0 rfl rfl rwn (by simp [nf_iu, ys_po_row _ _ _ _ hr, nI_pred]) (by omega) (by decide) dX4_fetch_72 (fun H locs hM => ?_)
    exact hret _ _ _ _ _ _ _ rfl (by rw [ys_feJ, if_pos h1, hqe, nI_clamp (by omega)]) rfl hM dX4_fetch_73
  · skip
    refine lv_ldc2 (pc := 41) (v := 4294967296) hx hb hC.1.2.2.2.1 (hC.1.2.2.2.2 _ (List.mem_cons_of_mem _ wC_X4_133)) dX4_fetch_41 ?_
    refine lv_goto (pc := 44) (tgt := 54) hx hb dX4_fetch_44 (by decide) ?_
    refine nf_last (pc := 54) hC hM 1 rfl rfl rwn (by simp [nf_iu, ys_po_row _ _ _ _ hr, nI_pred]) (by omega) (by decide) dX4_fetch_54 (fun H locs hM => ?_)
    refine lv_aload_n (pc := 55) hx hb dX4_fetch_55 rfl (lv_at hl 1 rfl) ?_
    refine nf_getr (pc := 56) hC hinX4 hM rfl rfl 20 (by decide) (List.mem_cons_of_mem _ wF_X4_59) rfl dX4_fetch_56 ?_
    refine lv_aload_n (pc := 59) hx hb dX4_fetch_59 rfl (lv_at hl 1 rfl) ?_
    refine nf_geti (pc := 60) hC hinX4 hM rfl rfl 13 (by decide) (List.mem_cons_of_mem _ wF_X4_75) rfl dX4_fetch_60 ?_
    refine lv_iconst (pc := 63) (v := 1) hx hb dX4_fetch_63 (by decide) ?_
    refine lv_isub (pc := 64) hx hb dX4_fetch_64 ?_
    refine lv_aload_n (pc := 65) hx hb dX4_fetch_65 rfl (lv_at hl 1 rfl) ?_
    refine nf_getr (pc := 66) hC hinX4 hM rfl rfl 20 (by decide) (List.mem_cons_of_mem _ wF_X4_59) rfl dX4_fetch_66 ?_
    refine lv_bipush (pc := 69) (v := 20) hx hb dX4_fetch_69 (by decide) ?_
    refine nf_iald (pc := 71) hC hM 0 rfl rfl 20 rfl (by omega) (by decide) dX4_fetch_71 ?_
    refine nf_iast (pc := 72) hC hM 0 rfl rfl rwn (by simp [nf_iu, ys_po_row _ _ _ _ hr, nI_pred]) (by omega) (by decide) dX4_fetch_72 (fun H locs hM => ?_)
    exact hret _ _ _ _ _ _ _ rfl (by rw [ys_feJ, if_neg h1]) rfl hM dX4_fetch_73
set_option maxHeartbeats 4000000 in
set_option maxRecDepth 100000 in
theorem ct_X4_tell {nd : Nat} (hr : I 20 0 13 = nI rwn) (hrw : rwn < 20) (hnd : nd < 256) : nf_Tv l yX4_tell wsX4_tell 2 46 D vwCl (xT cs) Bs (xS cs nn) ad [.ref (ad 20 0), .int (nI nd)] I J P (ys_teI I J nd rwn) (ys_poJ J rwn) P := by
  refine nf_enterv (cc := cX4_tell) (maxL := 3) (by decide) rfl (Nat.le_of_ble_eq_true rfl) ?_
  intro p e s m below meth c ls Q hC hM hl hret
  have hx := hC.1.1
  have hb := hC.1.2.1
  have hl : lv_has ls 3 [(0, .ref (ad 20 0)), (1, .int (nI nd))] := hl
  have hinX4 : ∀ w ∈ u_ws RX4 TX4 22, w ∈ wsX4_tell := fun w h => List.mem_cons_of_mem _ (inX4 w h)
  refine lv_aload_n (pc := 0) hx hb dX4_tell_0 rfl (lv_at hl 0 rfl) ?_
  refine nf_getr (pc := 1) hC hinX4 hM rfl rfl 21 (by decide) (List.mem_cons_of_mem _ wF_X4_62) rfl dX4_tell_1 ?_
  refine lv_bipush (pc := 4) (v := 20) hx hb dX4_tell_4 (by decide) ?_
  refine nf_lald (pc := 6) hC hM 1 rfl rfl 20 rfl (by omega) (by decide) dX4_tell_6 ?_
  refine lv_l2i (pc := 7) hx hb dX4_tell_7 rfl ?_
  refine lv_istore_n (pc := 8) (lv' := [(2, .int (((J 38 0 20)).toInt32)), (0, .ref (ad 20 0)), (1, .int (nI nd))]) hx hb dX4_tell_8 rfl hl (by decide) rfl (fun ls hl => ?_)
  refine lv_iload_n (pc := 9) hx hb dX4_tell_9 rfl (lv_at hl 0 rfl) ?_
  refine lv_iconst (pc := 10) (v := -1) hx hb dX4_tell_10 (by decide) ?_
  refine lv_icmp_eq (pc := 11) (tgt := 35) hx hb dX4_tell_11 (by decide) (fun h1 => ?_) (fun h1 => ?_)
  · skip
    refine lv_aload_n (pc := 35) hx hb dX4_tell_35 rfl (lv_at hl 1 rfl) ?_
    refine lv_bipush (pc := 36) (v := 8) hx hb dX4_tell_36 (by decide) ?_
    refine lv_aload_n (pc := 38) hx hb dX4_tell_38 rfl (lv_at hl 1 rfl) ?_
    refine nf_getr (pc := 39) hC hinX4 hM rfl rfl 2 (by decide) (List.mem_cons_of_mem _ wF_X4_13) rfl dX4_tell_39 ?_
    refine lv_iload_n (pc := 42) hx hb dX4_tell_42 rfl (lv_at hl 2 rfl) ?_
    refine nf_iald (pc := 43) hC hM 0 rfl rfl nd rfl (by omega) (by decide) dX4_tell_43 ?_
    refine lv_iconst (pc := 44) (v := 0) hx hb dX4_tell_44 (by decide) ?_
    refine lv_iload_n (pc := 45) hx hb dX4_tell_45 rfl (lv_at hl 2 rfl) ?_
    refine nf_callv (pc := 46) (va_runV (As := [.int 8, .int (I 22 0 nd), .int 0, .int (nI nd)]) (rest := []) hC.1 (ct_X4_post (kd := 8) (tz := (I 22 0 nd)) (ky := 0) (ak := (nI nd)) (rwn := rwn) (by simpa [nf_iu] using hr) (by omega)) (cwV 4 hC.1.2.2.2.2 (gd_V wM_X4_79 wi_X4_post wsel_X4_post wini_X4 wcode_X4_post) rfl rfl rfl (by decide +kernel) ⟨by decide, by decide⟩) (nf_preV hC hM rfl rfl) rfl rfl hl.1 rfl (lv_room (Nat.le_of_ble_eq_true rfl)) dX4_tell_46 ⟨Nat.le_refl _, Nat.le_refl _⟩) hM (fun H locs hM => ?_)
    exact hret _ _ _ _ _ _ _ (by simp [ys_teI, ys_teS, h1] <;> rfl) rfl rfl hM dX4_tell_49
  · skip
    refine lv_iload_n (pc := 14) hx hb dX4_tell_14 rfl (lv_at hl 0 rfl) ?_
    refine lv_iload_n (pc := 15) hx hb dX4_tell_15 rfl (lv_at hl 2 rfl) ?_
    refine lv_aload_n (pc := 16) hx hb dX4_tell_16 rfl (lv_at hl 1 rfl) ?_
    refine nf_getr (pc := 17) hC hinX4 hM rfl rfl 2 (by decide) (List.mem_cons_of_mem _ wF_X4_13) rfl dX4_tell_17 ?_
    refine lv_iload_n (pc := 20) hx hb dX4_tell_20 rfl (lv_at hl 2 rfl) ?_
    refine nf_iald (pc := 21) hC hM 0 rfl rfl nd rfl (by omega) (by decide) dX4_tell_21 ?_
    refine nf_calli (pc := 22) (va_runS (As := [.int (((J 38 0 20)).toInt32), .int (nI nd), .int (I 22 0 nd)]) (rest := []) hC.1 (ct_X4_between) (cwS 3 hC.1.2.2.2.2 (gd_S wM_X4_130 wst_X4_between wini_X4 wcode_X4_between) rfl rfl rfl (by decide +kernel) ⟨by decide, by decide⟩) (nf_preS hC hM) rfl rfl hl.1 rfl (lv_room (Nat.le_of_ble_eq_true rfl)) dX4_tell_22 ⟨Nat.le_refl _, Nat.le_refl _⟩) hM (fun H locs hM => ?_)
    refine lv_if_eq (pc := 25) (tgt := 35) hx hb dX4_tell_25 (by decide) (fun h2 => ?_) (fun h2 => ?_)
    · have h2 := nb_0 h2
      refine lv_aload_n (pc := 35) hx hb dX4_tell_35 rfl (lv_at hl 1 rfl) ?_
      refine lv_bipush (pc := 36) (v := 8) hx hb dX4_tell_36 (by decide) ?_
      refine lv_aload_n (pc := 38) hx hb dX4_tell_38 rfl (lv_at hl 1 rfl) ?_
      refine nf_getr (pc := 39) hC hinX4 hM rfl rfl 2 (by decide) (List.mem_cons_of_mem _ wF_X4_13) rfl dX4_tell_39 ?_
      refine lv_iload_n (pc := 42) hx hb dX4_tell_42 rfl (lv_at hl 2 rfl) ?_
      refine nf_iald (pc := 43) hC hM 0 rfl rfl nd rfl (by omega) (by decide) dX4_tell_43 ?_
      refine lv_iconst (pc := 44) (v := 0) hx hb dX4_tell_44 (by decide) ?_
      refine lv_iload_n (pc := 45) hx hb dX4_tell_45 rfl (lv_at hl 2 rfl) ?_
      refine nf_callv (pc := 46) (va_runV (As := [.int 8, .int (I 22 0 nd), .int 0, .int (nI nd)]) (rest := []) hC.1 (ct_X4_post (kd := 8) (tz := (I 22 0 nd)) (ky := 0) (ak := (nI nd)) (rwn := rwn) (by simpa [nf_iu] using hr) (by omega)) (cwV 4 hC.1.2.2.2.2 (gd_V wM_X4_79 wi_X4_post wsel_X4_post wini_X4 wcode_X4_post) rfl rfl rfl (by decide +kernel) ⟨by decide, by decide⟩) (nf_preV hC hM rfl rfl) rfl rfl hl.1 rfl (lv_room (Nat.le_of_ble_eq_true rfl)) dX4_tell_46 ⟨Nat.le_refl _, Nat.le_refl _⟩) hM (fun H locs hM => ?_)
      exact hret _ _ _ _ _ _ _ (by simp [ys_teI, ys_teS, h1, h2] <;> rfl) rfl rfl hM dX4_tell_49
    · have h2 := nb_1 h2
      refine lv_aload_n (pc := 28) hx hb dX4_tell_28 rfl (lv_at hl 1 rfl) ?_
      refine nf_getr (pc := 29) hC hinX4 hM rfl rfl 2 (by decide) (List.mem_cons_of_mem _ wF_X4_13) rfl dX4_tell_29 ?_
      refine lv_iload_n (pc := 32) hx hb dX4_tell_32 rfl (lv_at hl 2 rfl) ?_
      refine lv_iload_n (pc := 33) hx hb dX4_tell_33 rfl (lv_at hl 0 rfl) ?_
      refine nf_iast (pc := 34) hC hM 0 rfl rfl nd rfl (by omega) (by decide) dX4_tell_34 (fun H locs hM => ?_)
      refine lv_aload_n (pc := 35) hx hb dX4_tell_35 rfl (lv_at hl 1 rfl) ?_
      refine lv_bipush (pc := 36) (v := 8) hx hb dX4_tell_36 (by decide) ?_
      refine lv_aload_n (pc := 38) hx hb dX4_tell_38 rfl (lv_at hl 1 rfl) ?_
      refine nf_getr (pc := 39) hC hinX4 hM rfl rfl 2 (by decide) (List.mem_cons_of_mem _ wF_X4_13) rfl dX4_tell_39 ?_
      refine lv_iload_n (pc := 42) hx hb dX4_tell_42 rfl (lv_at hl 2 rfl) ?_
      refine nf_iald (pc := 43) hC hM 0 rfl rfl nd rfl (by omega) (by decide) dX4_tell_43 ?_
      refine lv_iconst (pc := 44) (v := 0) hx hb dX4_tell_44 (by decide) ?_
      refine lv_iload_n (pc := 45) hx hb dX4_tell_45 rfl (lv_at hl 2 rfl) ?_
      refine nf_callv (pc := 46) (va_runV (As := [.int 8, .int ((nf_iu I 22 0 nd (((J 38 0 20)).toInt32)) 22 0 nd), .int 0, .int (nI nd)]) (rest := []) hC.1 (ct_X4_post (kd := 8) (tz := ((nf_iu I 22 0 nd (((J 38 0 20)).toInt32)) 22 0 nd)) (ky := 0) (ak := (nI nd)) (rwn := rwn) (by simpa [nf_iu] using hr) (by omega)) (cwV 4 hC.1.2.2.2.2 (gd_V wM_X4_79 wi_X4_post wsel_X4_post wini_X4 wcode_X4_post) rfl rfl rfl (by decide +kernel) ⟨by decide, by decide⟩) (nf_preV hC hM rfl rfl) rfl rfl hl.1 rfl (lv_room (Nat.le_of_ble_eq_true rfl)) dX4_tell_46 ⟨Nat.le_refl _, Nat.le_refl _⟩) hM (fun H locs hM => ?_)
      exact hret _ _ _ _ _ _ _ (by simp [ys_teI, ys_teS, h1, h2] <;> rfl) rfl rfl hM dX4_tell_49
end YF
