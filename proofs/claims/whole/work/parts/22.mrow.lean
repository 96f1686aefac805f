/-! The model: post, copy, ask. -/
section YR
variable {l : Launch} {D : va_G} {cs : Nat → ClassId} {Bs nn rwn kp : Nat} {ad : nf_A} {I : nf_I} {J : nf_J} {P : nf_P}
set_option maxHeartbeats 4000000 in
set_option maxRecDepth 100000 in
theorem ct_X4_post {kd tz ky ak : Int32} (hr : I 20 0 13 = nI rwn) (hrw : rwn < 21) : nf_Tv l yX4_post wsX4_post 0 0 D vwCl (xT cs) Bs (xS cs nn) ad [.ref (ad 20 0), .int kd, .int tz, .int ky, .int ak] I J P (ys_po I rwn kd tz ky ak) (ys_poJ J rwn) P := by
  refine nf_enterv (cc := cX4_post) (maxL := 5) (by decide) rfl (Nat.le_of_ble_eq_true rfl) ?_
  intro p e s m below meth c ls Q hC hM hl hret
  have hx := hC.1.1
  have hb := hC.1.2.1
  have hl : lv_has ls 5 [(0, .ref (ad 20 0)), (1, .int kd), (2, .int tz), (3, .int ky), (4, .int ak)] := hl
  have hinX4 : ∀ w ∈ u_ws RX4 TX4 22, w ∈ wsX4_post := fun w h => List.mem_cons_of_mem _ (inX4 w h)
  refine lv_aload_n (pc := 0) hx hb dX4_post_0 rfl (lv_at hl 0 rfl) ?_
  refine nf_getr (pc := 1) hC hinX4 hM rfl rfl 14 (by decide) (List.mem_cons_of_mem _ wF_X4_41) rfl dX4_post_1 ?_
  refine lv_aload_n (pc := 4) hx hb dX4_post_4 rfl (lv_at hl 0 rfl) ?_
  refine nf_geti (pc := 5) hC hinX4 hM rfl rfl 13 (by decide) (List.mem_cons_of_mem _ wF_X4_75) rfl dX4_post_5 ?_
  refine lv_iload_n (pc := 8) hx hb dX4_post_8 rfl (lv_at hl 1 rfl) ?_
  refine nf_iast (pc := 9) hC hM 0 rfl rfl rwn (by simpa [nf_iu] using hr) (by omega) (by decide) dX4_post_9 (fun H locs hM => ?_)
  refine lv_aload_n (pc := 10) hx hb dX4_post_10 rfl (lv_at hl 0 rfl) ?_
  refine nf_getr (pc := 11) hC hinX4 hM rfl rfl 15 (by decide) (List.mem_cons_of_mem _ wF_X4_44) rfl dX4_post_11 ?_
  refine lv_aload_n (pc := 14) hx hb dX4_post_14 rfl (lv_at hl 0 rfl) ?_
  refine nf_geti (pc := 15) hC hinX4 hM rfl rfl 13 (by decide) (List.mem_cons_of_mem _ wF_X4_75) rfl dX4_post_15 ?_
  refine lv_iload_n (pc := 18) hx hb dX4_post_18 rfl (lv_at hl 2 rfl) ?_
  refine nf_iast (pc := 19) hC hM 0 rfl rfl rwn (by simpa [nf_iu] using hr) (by omega) (by decide) dX4_post_19 (fun H locs hM => ?_)
  refine lv_aload_n (pc := 20) hx hb dX4_post_20 rfl (lv_at hl 0 rfl) ?_
  refine nf_getr (pc := 21) hC hinX4 hM rfl rfl 16 (by decide) (List.mem_cons_of_mem _ wF_X4_47) rfl dX4_post_21 ?_
  refine lv_aload_n (pc := 24) hx hb dX4_post_24 rfl (lv_at hl 0 rfl) ?_
  refine nf_geti (pc := 25) hC hinX4 hM rfl rfl 13 (by decide) (List.mem_cons_of_mem _ wF_X4_75) rfl dX4_post_25 ?_
  refine lv_iload_n (pc := 28) hx hb dX4_post_28 rfl (lv_at hl 3 rfl) ?_
  refine nf_iast (pc := 29) hC hM 0 rfl rfl rwn (by simpa [nf_iu] using hr) (by omega) (by decide) dX4_post_29 (fun H locs hM => ?_)
  refine lv_aload_n (pc := 30) hx hb dX4_post_30 rfl (lv_at hl 0 rfl) ?_
  refine nf_getr (pc := 31) hC hinX4 hM rfl rfl 19 (by decide) (List.mem_cons_of_mem _ wF_X4_56) rfl dX4_post_31 ?_
  refine lv_aload_n (pc := 34) hx hb dX4_post_34 rfl (lv_at hl 0 rfl) ?_
  refine nf_geti (pc := 35) hC hinX4 hM rfl rfl 13 (by decide) (List.mem_cons_of_mem _ wF_X4_75) rfl dX4_post_35 ?_
  refine lv_iload (pc := 38) hx hb dX4_post_38 (lv_at hl 4 rfl) ?_
  refine nf_iast (pc := 40) hC hM 0 rfl rfl rwn (by simpa [nf_iu] using hr) (by omega) (by decide) dX4_post_40 (fun H locs hM => ?_)
  refine lv_aload_n (pc := 41) hx hb dX4_post_41 rfl (lv_at hl 0 rfl) ?_
  refine nf_getr (pc := 42) hC hinX4 hM rfl rfl 17 (by decide) (List.mem_cons_of_mem _ wF_X4_50) rfl dX4_post_42 ?_
  refine lv_aload_n (pc := 45) hx hb dX4_post_45 rfl (lv_at hl 0 rfl) ?_
  refine nf_geti (pc := 46) hC hinX4 hM rfl rfl 13 (by decide) (List.mem_cons_of_mem _ wF_X4_75) rfl dX4_post_46 ?_
  refine lv_iconst (pc := 49) (v := 0) hx hb dX4_post_49 (by decide) ?_
  refine nf_iast (pc := 50) hC hM 0 rfl rfl rwn (by simpa [nf_iu] using hr) (by omega) (by decide) dX4_post_50 (fun H locs hM => ?_)
  refine lv_aload_n (pc := 51) hx hb dX4_post_51 rfl (lv_at hl 0 rfl) ?_
  refine nf_getr (pc := 52) hC hinX4 hM rfl rfl 18 (by decide) (List.mem_cons_of_mem _ wF_X4_53) rfl dX4_post_52 ?_
  refine lv_aload_n (pc := 55) hx hb dX4_post_55 rfl (lv_at hl 0 rfl) ?_
  refine nf_geti (pc := 56) hC hinX4 hM rfl rfl 13 (by decide) (List.mem_cons_of_mem _ wF_X4_75) rfl dX4_post_56 ?_
  refine lv_iconst (pc := 59) (v := 0) hx hb dX4_post_59 (by decide) ?_
  refine nf_iast (pc := 60) hC hM 0 rfl rfl rwn (by simpa [nf_iu] using hr) (by omega) (by decide) dX4_post_60 (fun H locs hM => ?_)
  refine lv_aload_n (pc := 61) hx hb dX4_post_61 rfl (lv_at hl 0 rfl) ?_
  refine nf_getr (pc := 62) hC hinX4 hM rfl rfl 20 (by decide) (List.mem_cons_of_mem _ wF_X4_59) rfl dX4_post_62 ?_
  refine lv_aload_n (pc := 65) hx hb dX4_post_65 rfl (lv_at hl 0 rfl) ?_
  refine nf_geti (pc := 66) hC hinX4 hM rfl rfl 13 (by decide) (List.mem_cons_of_mem _ wF_X4_75) rfl dX4_post_66 ?_
  refine lv_iconst (pc := 69) (v := 0) hx hb dX4_post_69 (by decide) ?_
  refine nf_iast (pc := 70) hC hM 0 rfl rfl rwn (by simpa [nf_iu] using hr) (by omega) (by decide) dX4_post_70 (fun H locs hM => ?_)
  refine lv_aload_n (pc := 71) hx hb dX4_post_71 rfl (lv_at hl 0 rfl) ?_
  refine nf_getr (pc := 72) hC hinX4 hM rfl rfl 21 (by decide) (List.mem_cons_of_mem _ wF_X4_62) rfl dX4_post_72 ?_
  refine lv_aload_n (pc := 75) hx hb dX4_post_75 rfl (lv_at hl 0 rfl) ?_
  refine nf_geti (pc := 76) hC hinX4 hM rfl rfl 13 (by decide) (List.mem_cons_of_mem _ wF_X4_75) rfl dX4_post_76 ?_
  refine lv_lconst (pc := 79) (v := 0) hx hb dX4_post_79 (by decide) ?_
  refine nf_last (pc := 80) hC hM 1 rfl rfl rwn (by simpa [nf_iu] using hr) (by omega) (by decide) dX4_post_80 (fun H locs hM => ?_)
  refine lv_aload_n (pc := 81) hx hb dX4_post_81 rfl (lv_at hl 0 rfl) ?_
  refine lv_dup (pc := 82) hx hb dX4_post_82 rfl ?_
  refine nf_geti (pc := 83) hC hinX4 hM rfl rfl 13 (by decide) (List.mem_cons_of_mem _ wF_X4_75) rfl dX4_post_83 ?_
  refine lv_iconst (pc := 86) (v := 1) hx hb dX4_post_86 (by decide) ?_
  refine lv_iadd (pc := 87) hx hb dX4_post_87 ?_
  refine nf_puti (pc := 88) hC hinX4 tyX4 tyX4_ok nmX4 hM rfl rfl 13 (by decide) (List.mem_cons_of_mem _ wF_X4_75) rfl (by decide +kernel) rfl dX4_post_88 (fun H locs hM => ?_)
  exact hret _ _ _ _ _ _ _ rfl rfl rfl hM dX4_post_91
set_option maxHeartbeats 4000000 in
set_option maxRecDepth 100000 in
theorem ct_X4_copy {f t : Nat} (hf : f < 21) (ht : t < 21) : nf_Tv l yX4_copy wsX4_copy 0 0 D vwCl (xT cs) Bs (xS cs nn) ad [.ref (ad 20 0), .int (nI f), .int (nI t)] I J P (ys_cp I f t) (ys_cpJ J f t) P := by
  refine nf_enterv (cc := cX4_copy) (maxL := 3) (by decide) rfl (Nat.le_of_ble_eq_true rfl) ?_
  intro p e s m below meth c ls Q hC hM hl hret
  have hx := hC.1.1
  have hb := hC.1.2.1
  have hl : lv_has ls 3 [(0, .ref (ad 20 0)), (1, .int (nI f)), (2, .int (nI t))] := hl
  have hinX4 : ∀ w ∈ u_ws RX4 TX4 22, w ∈ wsX4_copy := fun w h => List.mem_cons_of_mem _ (inX4 w h)
  refine lv_aload_n (pc := 0) hx hb dX4_copy_0 rfl (lv_at hl 0 rfl) ?_
  refine nf_getr (pc := 1) hC hinX4 hM rfl rfl 14 (by decide) (List.mem_cons_of_mem _ wF_X4_41) rfl dX4_copy_1 ?_
  refine lv_iload_n (pc := 4) hx hb dX4_copy_4 rfl (lv_at hl 2 rfl) ?_
  refine lv_aload_n (pc := 5) hx hb dX4_copy_5 rfl (lv_at hl 0 rfl) ?_
  refine nf_getr (pc := 6) hC hinX4 hM rfl rfl 14 (by decide) (List.mem_cons_of_mem _ wF_X4_41) rfl dX4_copy_6 ?_
  refine lv_iload_n (pc := 9) hx hb dX4_copy_9 rfl (lv_at hl 1 rfl) ?_
  refine nf_iald (pc := 10) hC hM 0 rfl rfl f rfl (by omega) (by decide) dX4_copy_10 ?_
  refine nf_iast (pc := 11) hC hM 0 rfl rfl t rfl (by omega) (by decide) dX4_copy_11 (fun H locs hM => ?_)
  refine lv_aload_n (pc := 12) hx hb dX4_copy_12 rfl (lv_at hl 0 rfl) ?_
  refine nf_getr (pc := 13) hC hinX4 hM rfl rfl 15 (by decide) (List.mem_cons_of_mem _ wF_X4_44) rfl dX4_copy_13 ?_
  refine lv_iload_n (pc := 16) hx hb dX4_copy_16 rfl (lv_at hl 2 rfl) ?_
  refine lv_aload_n (pc := 17) hx hb dX4_copy_17 rfl (lv_at hl 0 rfl) ?_
  refine nf_getr (pc := 18) hC hinX4 hM rfl rfl 15 (by decide) (List.mem_cons_of_mem _ wF_X4_44) rfl dX4_copy_18 ?_
  refine lv_iload_n (pc := 21) hx hb dX4_copy_21 rfl (lv_at hl 1 rfl) ?_
  refine nf_iald (pc := 22) hC hM 0 rfl rfl f rfl (by omega) (by decide) dX4_copy_22 ?_
  refine nf_iast (pc := 23) hC hM 0 rfl rfl t rfl (by omega) (by decide) dX4_copy_23 (fun H locs hM => ?_)
  refine lv_aload_n (pc := 24) hx hb dX4_copy_24 rfl (lv_at hl 0 rfl) ?_
  refine nf_getr (pc := 25) hC hinX4 hM rfl rfl 16 (by decide) (List.mem_cons_of_mem _ wF_X4_47) rfl dX4_copy_25 ?_
  refine lv_iload_n (pc := 28) hx hb dX4_copy_28 rfl (lv_at hl 2 rfl) ?_
  refine lv_aload_n (pc := 29) hx hb dX4_copy_29 rfl (lv_at hl 0 rfl) ?_
  refine nf_getr (pc := 30) hC hinX4 hM rfl rfl 16 (by decide) (List.mem_cons_of_mem _ wF_X4_47) rfl dX4_copy_30 ?_
  refine lv_iload_n (pc := 33) hx hb dX4_copy_33 rfl (lv_at hl 1 rfl) ?_
  refine nf_iald (pc := 34) hC hM 0 rfl rfl f rfl (by omega) (by decide) dX4_copy_34 ?_
  refine nf_iast (pc := 35) hC hM 0 rfl rfl t rfl (by omega) (by decide) dX4_copy_35 (fun H locs hM => ?_)
  refine lv_aload_n (pc := 36) hx hb dX4_copy_36 rfl (lv_at hl 0 rfl) ?_
  refine nf_getr (pc := 37) hC hinX4 hM rfl rfl 17 (by decide) (List.mem_cons_of_mem _ wF_X4_50) rfl dX4_copy_37 ?_
  refine lv_iload_n (pc := 40) hx hb dX4_copy_40 rfl (lv_at hl 2 rfl) ?_
  refine lv_aload_n (pc := 41) hx hb dX4_copy_41 rfl (lv_at hl 0 rfl) ?_
  refine nf_getr (pc := 42) hC hinX4 hM rfl rfl 17 (by decide) (List.mem_cons_of_mem _ wF_X4_50) rfl dX4_copy_42 ?_
  refine lv_iload_n (pc := 45) hx hb dX4_copy_45 rfl (lv_at hl 1 rfl) ?_
  refine nf_iald (pc := 46) hC hM 0 rfl rfl f rfl (by omega) (by decide) dX4_copy_46 ?_
  refine nf_iast (pc := 47) hC hM 0 rfl rfl t rfl (by omega) (by decide) dX4_copy_47 (fun H locs hM => ?_)
  refine lv_aload_n (pc := 48) hx hb dX4_copy_48 rfl (lv_at hl 0 rfl) ?_
  refine nf_getr (pc := 49) hC hinX4 hM rfl rfl 18 (by decide) (List.mem_cons_of_mem _ wF_X4_53) rfl dX4_copy_49 ?_
  refine lv_iload_n (pc := 52) hx hb dX4_copy_52 rfl (lv_at hl 2 rfl) ?_
  refine lv_aload_n (pc := 53) hx hb dX4_copy_53 rfl (lv_at hl 0 rfl) ?_
  refine nf_getr (pc := 54) hC hinX4 hM rfl rfl 18 (by decide) (List.mem_cons_of_mem _ wF_X4_53) rfl dX4_copy_54 ?_
  refine lv_iload_n (pc := 57) hx hb dX4_copy_57 rfl (lv_at hl 1 rfl) ?_
  refine nf_iald (pc := 58) hC hM 0 rfl rfl f rfl (by omega) (by decide) dX4_copy_58 ?_
  refine nf_iast (pc := 59) hC hM 0 rfl rfl t rfl (by omega) (by decide) dX4_copy_59 (fun H locs hM => ?_)
  refine lv_aload_n (pc := 60) hx hb dX4_copy_60 rfl (lv_at hl 0 rfl) ?_
  refine nf_getr (pc := 61) hC hinX4 hM rfl rfl 19 (by decide) (List.mem_cons_of_mem _ wF_X4_56) rfl dX4_copy_61 ?_
  refine lv_iload_n (pc := 64) hx hb dX4_copy_64 rfl (lv_at hl 2 rfl) ?_
  refine lv_aload_n (pc := 65) hx hb dX4_copy_65 rfl (lv_at hl 0 rfl) ?_
  refine nf_getr (pc := 66) hC hinX4 hM rfl rfl 19 (by decide) (List.mem_cons_of_mem _ wF_X4_56) rfl dX4_copy_66 ?_
  refine lv_iload_n (pc := 69) hx hb dX4_copy_69 rfl (lv_at hl 1 rfl) ?_
  refine nf_iald (pc := 70) hC hM 0 rfl rfl f rfl (by omega) (by decide) dX4_copy_70 ?_
  refine nf_iast (pc := 71) hC hM 0 rfl rfl t rfl (by omega) (by decide) dX4_copy_71 (fun H locs hM => ?_)
  refine lv_aload_n (pc := 72) hx hb dX4_copy_72 rfl (lv_at hl 0 rfl) ?_
  refine nf_getr (pc := 73) hC hinX4 hM rfl rfl 20 (by decide) (List.mem_cons_of_mem _ wF_X4_59) rfl dX4_copy_73 ?_
  refine lv_iload_n (pc := 76) hx hb dX4_copy_76 rfl (lv_at hl 2 rfl) ?_
  refine lv_aload_n (pc := 77) hx hb dX4_copy_77 rfl (lv_at hl 0 rfl) ?_
  refine nf_getr (pc := 78) hC hinX4 hM rfl rfl 20 (by decide) (List.mem_cons_of_mem _ wF_X4_59) rfl dX4_copy_78 ?_
  refine lv_iload_n (pc := 81) hx hb dX4_copy_81 rfl (lv_at hl 1 rfl) ?_
  refine nf_iald (pc := 82) hC hM 0 rfl rfl f rfl (by omega) (by decide) dX4_copy_82 ?_
  refine nf_iast (pc := 83) hC hM 0 rfl rfl t rfl (by omega) (by decide) dX4_copy_83 (fun H locs hM => ?_)
  refine lv_aload_n (pc := 84) hx hb dX4_copy_84 rfl (lv_at hl 0 rfl) ?_
  refine nf_getr (pc := 85) hC hinX4 hM rfl rfl 21 (by decide) (List.mem_cons_of_mem _ wF_X4_62) rfl dX4_copy_85 ?_
  refine lv_iload_n (pc := 88) hx hb dX4_copy_88 rfl (lv_at hl 2 rfl) ?_
  refine lv_aload_n (pc := 89) hx hb dX4_copy_89 rfl (lv_at hl 0 rfl) ?_
  refine nf_getr (pc := 90) hC hinX4 hM rfl rfl 21 (by decide) (List.mem_cons_of_mem _ wF_X4_62) rfl dX4_copy_90 ?_
  refine lv_iload_n (pc := 93) hx hb dX4_copy_93 rfl (lv_at hl 1 rfl) ?_
  refine nf_lald (pc := 94) hC hM 1 rfl rfl f rfl (by omega) (by decide) dX4_copy_94 ?_
  refine nf_last (pc := 95) hC hM 1 rfl rfl t rfl (by omega) (by decide) dX4_copy_95 (fun H locs hM => ?_)
  exact hret _ _ _ _ _ _ _ rfl rfl rfl hM dX4_copy_96
set_option maxHeartbeats 4000000 in
set_option maxRecDepth 100000 in
theorem ct_X4_ask {mb wd why fi : Int32} {v : Int64} (hr : I 20 0 13 = nI rwn) (hrw : rwn < 20) : nf_Tv l yX4_ask wsX4_ask 1 24 D vwCl (xT cs) Bs (xS cs nn) ad [.ref (ad 20 0), .int mb, .int wd, .int why, .int fi, .long v] I J P (ys_ask I rwn mb wd why fi) (ys_askJ J rwn v) P := by
  refine nf_enterv (cc := cX4_ask) (maxL := 7) (by decide) rfl (Nat.le_of_ble_eq_true rfl) ?_
  intro p e s m below meth c ls Q hC hM hl hret
  have hx := hC.1.1
  have hb := hC.1.2.1
  have hl : lv_has ls 7 [(0, .ref (ad 20 0)), (1, .int mb), (2, .int wd), (3, .int why), (4, .int fi), (5, .long v)] := hl
  have hinX4 : ∀ w ∈ u_ws RX4 TX4 22, w ∈ wsX4_ask := fun w h => List.mem_cons_of_mem _ (inX4 w h)
  refine lv_aload_n (pc := 0) hx hb dX4_ask_0 rfl (lv_at hl 0 rfl) ?_
  refine lv_iconst (pc := 1) (v := 1) hx hb dX4_ask_1 (by decide) ?_
  refine lv_iload_n (pc := 2) hx hb dX4_ask_2 rfl (lv_at hl 1 rfl) ?_
  refine lv_iload_n (pc := 3) hx hb dX4_ask_3 rfl (lv_at hl 2 rfl) ?_
  refine lv_sipush (pc := 4) (v := 255) hx hb dX4_ask_4 (by decide) ?_
  refine lv_iand (pc := 7) hx hb dX4_ask_7 ?_
  refine lv_iload_n (pc := 8) hx hb dX4_ask_8 rfl (lv_at hl 1 rfl) ?_
  refine nf_callv (pc := 9) (va_runV (As := [.int 1, .int mb, .int (wd &&& 255), .int mb]) (rest := []) hC.1 (ct_X4_post (kd := 1) (tz := mb) (ky := (wd &&& 255)) (ak := mb) (rwn := rwn) hr (by omega)) (cwV 4 hC.1.2.2.2.2 (gd_V wM_X4_79 wi_X4_post wsel_X4_post wini_X4 wcode_X4_post) rfl rfl rfl (by decide +kernel) ⟨by decide, by decide⟩) (nf_preV hC hM rfl rfl) rfl rfl hl.1 rfl (lv_room (Nat.le_of_ble_eq_true rfl)) dX4_ask_9 ⟨Nat.le_refl _, Nat.le_refl _⟩) hM (fun H locs hM => ?_)
  refine lv_aload_n (pc := 12) hx hb dX4_ask_12 rfl (lv_at hl 0 rfl) ?_
  refine nf_getr (pc := 13) hC hinX4 hM rfl rfl 17 (by decide) (List.mem_cons_of_mem _ wF_X4_50) rfl dX4_ask_13 ?_
  refine lv_aload_n (pc := 16) hx hb dX4_ask_16 rfl (lv_at hl 0 rfl) ?_
  refine nf_geti (pc := 17) hC hinX4 hM rfl rfl 13 (by decide) (List.mem_cons_of_mem _ wF_X4_75) rfl dX4_ask_17 ?_
  refine lv_iconst (pc := 20) (v := 1) hx hb dX4_ask_20 (by decide) ?_
  refine lv_isub (pc := 21) hx hb dX4_ask_21 ?_
  refine lv_iload_n (pc := 22) hx hb dX4_ask_22 rfl (lv_at hl 3 rfl) ?_
  refine nf_iast (pc := 23) hC hM 0 rfl rfl rwn (by simp [nf_iu, ys_po_row _ _ _ _ hr, nI_pred]) (by omega) (by decide) dX4_ask_23 (fun H locs hM => ?_)
  refine lv_aload_n (pc := 24) hx hb dX4_ask_24 rfl (lv_at hl 0 rfl) ?_
  refine nf_getr (pc := 25) hC hinX4 hM rfl rfl 18 (by decide) (List.mem_cons_of_mem _ wF_X4_53) rfl dX4_ask_25 ?_
  refine lv_aload_n (pc := 28) hx hb dX4_ask_28 rfl (lv_at hl 0 rfl) ?_
  refine nf_geti (pc := 29) hC hinX4 hM rfl rfl 13 (by decide) (List.mem_cons_of_mem _ wF_X4_75) rfl dX4_ask_29 ?_
  refine lv_iconst (pc := 32) (v := 1) hx hb dX4_ask_32 (by decide) ?_
  refine lv_isub (pc := 33) hx hb dX4_ask_33 ?_
  refine lv_iload (pc := 34) hx hb dX4_ask_34 (lv_at hl 4 rfl) ?_
  refine nf_iast (pc := 36) hC hM 0 rfl rfl rwn (by simp [nf_iu, ys_po_row _ _ _ _ hr, nI_pred]) (by omega) (by decide) dX4_ask_36 (fun H locs hM => ?_)
  refine lv_aload_n (pc := 37) hx hb dX4_ask_37 rfl (lv_at hl 0 rfl) ?_
  refine nf_getr (pc := 38) hC hinX4 hM rfl rfl 21 (by decide) (List.mem_cons_of_mem _ wF_X4_62) rfl dX4_ask_38 ?_
  refine lv_aload_n (pc := 41) hx hb dX4_ask_41 rfl (lv_at hl 0 rfl) ?_
  refine nf_geti (pc := 42) hC hinX4 hM rfl rfl 13 (by decide) (List.mem_cons_of_mem _ wF_X4_75) rfl dX4_ask_42 ?_
  refine lv_iconst (pc := 45) (v := 1) hx hb dX4_ask_45 (by decide) ?_
  refine lv_isub (pc := 46) hx hb dX4_ask_46 ?_
  refine lv_lload (pc := 47) hx hb dX4_ask_47 (lv_at hl 5 rfl) ?_
  refine nf_last (pc := 49) hC hM 1 rfl rfl rwn (by simp [nf_iu, ys_po_row _ _ _ _ hr, nI_pred]) (by omega) (by decide) dX4_ask_49 (fun H locs hM => ?_)
  exact hret _ _ _ _ _ _ _ rfl rfl rfl hM dX4_ask_50
end YR
