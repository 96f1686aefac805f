/-! The model: put. -/
section YD
variable {l : Launch} {D : va_G} {cs : Nat → ClassId} {Bs nn rwn kp kc : Nat} {ad : nf_A} {I : nf_I} {J : nf_J} {P : nf_P}
set_option maxHeartbeats 4000000 in
set_option maxRecDepth 100000 in
theorem ct_X4_put {id wd v : Int32} (hr : I 20 0 13 = nI rwn) (hrw : rwn ≤ 20) (hkc : I 20 0 11 = nI kc) (hkc2 : kc ≤ 10) : nf_Ti l yX4_put wsX4_put 2 50 D vwCl (xT cs) Bs (xS cs nn) ad [.ref (ad 20 0), .int id, .int wd, .int v] I J P (nb_I (ys_ptB I kc id wd)) (ys_ptI I kc rwn id wd) (ys_ptJ I J kc rwn id wd v) P := by
  refine nf_enterz (cc := cX4_put) (maxL := 6) (by decide) rfl (Nat.le_of_ble_eq_true rfl) ?_
  intro p e s m below meth c ls Q hC hM hl hret
  have hx := hC.1.1
  have hb := hC.1.2.1
  have hl : lv_has ls 6 [(0, .ref (ad 20 0)), (1, .int id), (2, .int wd), (3, .int v)] := hl
  have hinX4 : ∀ w ∈ u_ws RX4 TX4 22, w ∈ wsX4_put := fun w h => List.mem_cons_of_mem _ (inX4 w h)
  refine lv_aload_n (pc := 0) hx hb dX4_put_0 rfl (lv_at hl 0 rfl) ?_
  refine lv_iload_n (pc := 1) hx hb dX4_put_1 rfl (lv_at hl 1 rfl) ?_
  refine nf_calli (pc := 2) (va_runV (As := [.int id]) (rest := []) hC.1 (ct_X4_isMember (x := id)) (cwV 1 hC.1.2.2.2.2 (gd_V wM_X4_86 wi_X4_isMember wsel_X4_isMember wini_X4 wcode_X4_isMember) rfl rfl rfl (by decide +kernel) ⟨by decide, by decide⟩) (nf_preV hC hM rfl rfl) rfl rfl hl.1 rfl (lv_room (Nat.le_of_ble_eq_true rfl)) dX4_put_2 ⟨Nat.le_refl _, Nat.le_refl _⟩) hM (fun H locs hM => ?_)
  refine lv_if_eq (pc := 5) (tgt := 24) hx hb dX4_put_5 (by decide) (fun h1 => ?_) (fun h1 => ?_)
  · have h1 := nb_0 h1
    refine lv_iconst (pc := 24) (v := 0) hx hb dX4_put_24 (by decide) ?_
    exact hret _ _ _ _ _ _ _ _ (by simp [nb_I, ys_ptB, ys_gtB, h1]) (by rw [ys_ptI, if_pos (by simp [ys_ptB, ys_gtB, h1])]) (by rw [ys_ptJ, if_pos (by simp [ys_ptB, ys_gtB, h1])]) rfl hM dX4_put_25
  · have h1 := nb_1 h1
    refine lv_iload_n (pc := 8) hx hb dX4_put_8 rfl (lv_at hl 2 rfl) ?_
    refine nf_calli (pc := 9) (va_runS (As := [.int wd]) (rest := []) hC.1 (ct_X4_isId) (cwS 1 hC.1.2.2.2.2 (gd_S wM_X4_67 wst_X4_isId wini_X4 wcode_X4_isId) rfl rfl rfl (by decide +kernel) ⟨by decide, by decide⟩) (nf_preS hC hM) rfl rfl hl.1 rfl (lv_room (Nat.le_of_ble_eq_true rfl)) dX4_put_9 ⟨Nat.le_refl _, Nat.le_refl _⟩) hM (fun H locs hM => ?_)
    refine lv_if_eq (pc := 12) (tgt := 24) hx hb dX4_put_12 (by decide) (fun h2 => ?_) (fun h2 => ?_)
    · have h2 := nb_0 h2
      refine lv_iconst (pc := 24) (v := 0) hx hb dX4_put_24 (by decide) ?_
      exact hret _ _ _ _ _ _ _ _ (by simp [nb_I, ys_ptB, ys_gtB, h1, h2]) (by rw [ys_ptI, if_pos (by simp [ys_ptB, ys_gtB, h1, h2])]) (by rw [ys_ptJ, if_pos (by simp [ys_ptB, ys_gtB, h1, h2])]) rfl hM dX4_put_25
    · have h2 := nb_1 h2
      refine lv_aload_n (pc := 15) hx hb dX4_put_15 rfl (lv_at hl 0 rfl) ?_
      refine nf_geti (pc := 16) hC hinX4 hM rfl rfl 13 (by decide) (List.mem_cons_of_mem _ wF_X4_75) rfl dX4_put_16 ?_
      refine lv_bipush (pc := 19) (v := 20) hx hb dX4_put_19 (by decide) ?_
      refine lv_icmp_lt (pc := 21) (tgt := 26) hx hb dX4_put_21 (by decide) (fun h3 => ?_) (fun h3 => ?_)
      · skip
        have hr2 : rwn < 20 := nk_lt hr h3 (by omega) (by decide)
        refine lv_iconst (pc := 26) (v := 0) hx hb dX4_put_26 (by decide) ?_
        refine lv_istore (pc := 27) (lv' := [(4, .int 0), (0, .ref (ad 20 0)), (1, .int id), (2, .int wd), (3, .int v)]) hx hb dX4_put_27 hl (by decide) rfl (fun ls hl => ?_)
        refine lv_iconst (pc := 29) (v := 0) hx hb dX4_put_29 (by decide) ?_
        refine lv_istore (pc := 30) (lv' := [(5, .int 0), (4, .int 0), (0, .ref (ad 20 0)), (1, .int id), (2, .int wd), (3, .int v)]) hx hb dX4_put_30 hl (by decide) rfl (fun ls hl => ?_)
        have loop32 : ∀ (n : Nat) (j : Nat) (o : Int32) (ls : Array Slot) (H : Heap) (locs : List Loc), kc - j < n → (j ≤ kc) → (ys_old I wd kc 0 0 = ys_old I wd (kc - j) j o) → nf_M D vwCl Bs (xS cs nn) ad I J P s.heap H locs → lv_has ls 6 [(5, .int (nI j)), (4, .int o), (0, .ref (ad 20 0)), (1, .int id), (2, .int wd), (3, .int v)] → W p l e (nf_Rm 2 50) s m ([.ref (ad 20 0), .int id, .int wd, .int v] : List Value).toArray below meth c H locs 0 0 Q (F0 m 32 ls []) := by
          intro n
          induction n with
          | zero => exact fun _ _ _ _ _ hmz => absurd hmz (Nat.not_lt_zero _)
          | succ n ihloop32 =>
            intro j o ls H locs hmz hjn hf hM hl
            refine lv_iload (pc := 32) hx hb dX4_put_32 (lv_at hl 0 rfl) ?_
            refine lv_aload_n (pc := 34) hx hb dX4_put_34 rfl (lv_at hl 2 rfl) ?_
            refine nf_geti (pc := 35) hC hinX4 hM rfl rfl 11 (by decide) (List.mem_cons_of_mem _ wF_X4_93) rfl dX4_put_35 ?_
            refine lv_icmp_ge (pc := 38) (tgt := 70) hx hb dX4_put_38 (by decide) (fun hh => ?_) (fun hh => ?_)
            · have hj4 : kc ≤ j := (nI_leI (by omega) (by omega)).mp (by rw [hkc] at hh; exact hh)
              refine lv_iload (pc := 70) hx hb dX4_put_70 (lv_at hl 1 rfl) ?_
              refine lv_if_ne (pc := 72) (tgt := 86) hx hb dX4_put_72 (by decide) (fun h5 => ?_) (fun h5 => ?_)
              · skip
                refine lv_iload (pc := 86) hx hb dX4_put_86 (lv_at hl 1 rfl) ?_
                refine lv_if_ne (pc := 88) (tgt := 111) hx hb dX4_put_88 (by decide) (fun _ => ?_) (fun hh => absurd hh h5)
                refine lv_aload_n (pc := 111) hx hb dX4_put_111 rfl (lv_at hl 2 rfl) ?_
                refine lv_iload_n (pc := 112) hx hb dX4_put_112 rfl (lv_at hl 3 rfl) ?_
                refine lv_iload_n (pc := 113) hx hb dX4_put_113 rfl (lv_at hl 4 rfl) ?_
                refine lv_iconst (pc := 114) (v := 2) hx hb dX4_put_114 (by decide) ?_
                refine lv_iconst (pc := 115) (v := 0) hx hb dX4_put_115 (by decide) ?_
                refine lv_iload_n (pc := 116) hx hb dX4_put_116 rfl (lv_at hl 5 rfl) ?_
                refine lv_i2l (pc := 117) hx hb dX4_put_117 rfl ?_
                refine nf_callv (pc := 118) (va_runV (As := [.int id, .int wd, .int 2, .int 0, .long ((v).toInt64)]) (rest := []) hC.1 (ct_X4_ask (mb := id) (wd := wd) (why := 2) (fi := 0) (v := ((v).toInt64)) (rwn := rwn) (by simpa [nf_iu] using hr) (by omega)) (cwV 5 hC.1.2.2.2.2 (gd_V wM_X4_89 wi_X4_ask wsel_X4_ask wini_X4 wcode_X4_ask) rfl rfl rfl (by decide +kernel) ⟨by decide, by decide⟩) (nf_preV hC hM rfl rfl) rfl rfl hl.1 rfl (lv_room (Nat.le_of_ble_eq_true rfl)) dX4_put_118 ⟨Nat.le_refl _, Nat.le_refl _⟩) hM (fun H locs hM => ?_)
                refine lv_iconst (pc := 121) (v := 1) hx hb dX4_put_121 (by decide) ?_
                exact hret _ _ _ _ _ _ _ _ (by rw [ys_ptB, show ys_gtB I id wd = true by simp [ys_gtB, h1, h2, h3], show ys_old I wd kc 0 0 = o by rw [hf, show kc - j = 0 by omega]; rfl]; simp [nb_I, h5]) (by rw [ys_ptI, if_neg (by rw [ys_ptB, show ys_gtB I id wd = true by simp [ys_gtB, h1, h2, h3], show ys_old I wd kc 0 0 = o by rw [hf, show kc - j = 0 by omega]; rfl]; simp [h5]), show ys_old I wd kc 0 0 = o by rw [hf, show kc - j = 0 by omega]; rfl]; simp [h5] <;> rfl) (by rw [ys_ptJ, if_neg (by rw [ys_ptB, show ys_gtB I id wd = true by simp [ys_gtB, h1, h2, h3], show ys_old I wd kc 0 0 = o by rw [hf, show kc - j = 0 by omega]; rfl]; simp [h5])]) rfl hM dX4_put_122
              · skip
                refine lv_aload_n (pc := 75) hx hb dX4_put_75 rfl (lv_at hl 2 rfl) ?_
                refine nf_geti (pc := 76) hC hinX4 hM rfl rfl 11 (by decide) (List.mem_cons_of_mem _ wF_X4_93) rfl dX4_put_76 ?_
                refine lv_bipush (pc := 79) (v := 10) hx hb dX4_put_79 (by decide) ?_
                refine lv_icmp_lt (pc := 81) (tgt := 86) hx hb dX4_put_81 (by decide) (fun h6 => ?_) (fun h6 => ?_)
                · skip
                  refine lv_iload (pc := 86) hx hb dX4_put_86 (lv_at hl 1 rfl) ?_
                  refine lv_if_ne (pc := 88) (tgt := 111) hx hb dX4_put_88 (by decide) (fun hh => absurd h5 hh) (fun _ => ?_)
                  have hkl : kc < 10 := nk_lt hkc h6 (by omega) (by decide)
                  refine lv_aload_n (pc := 91) hx hb dX4_put_91 rfl (lv_at hl 2 rfl) ?_
                  refine nf_getr (pc := 92) hC hinX4 hM rfl rfl 12 (by decide) (List.mem_cons_of_mem _ wF_X4_38) rfl dX4_put_92 ?_
                  refine lv_aload_n (pc := 95) hx hb dX4_put_95 rfl (lv_at hl 2 rfl) ?_
                  refine nf_geti (pc := 96) hC hinX4 hM rfl rfl 11 (by decide) (List.mem_cons_of_mem _ wF_X4_93) rfl dX4_put_96 ?_
                  refine lv_iload_n (pc := 99) hx hb dX4_put_99 rfl (lv_at hl 4 rfl) ?_
                  refine nf_iast (pc := 100) hC hM 0 rfl rfl kc hkc (by omega) (by decide) dX4_put_100 (fun H locs hM => ?_)
                  refine lv_aload_n (pc := 101) hx hb dX4_put_101 rfl (lv_at hl 2 rfl) ?_
                  refine lv_dup (pc := 102) hx hb dX4_put_102 rfl ?_
                  refine nf_geti (pc := 103) hC hinX4 hM rfl rfl 11 (by decide) (List.mem_cons_of_mem _ wF_X4_93) rfl dX4_put_103 ?_
                  refine lv_iconst (pc := 106) (v := 1) hx hb dX4_put_106 (by decide) ?_
                  refine lv_iadd (pc := 107) hx hb dX4_put_107 ?_
                  refine nf_puti (pc := 108) hC hinX4 tyX4 tyX4_ok nmX4 hM rfl rfl 11 (by decide) (List.mem_cons_of_mem _ wF_X4_93) rfl (by decide +kernel) rfl dX4_put_108 (fun H locs hM => ?_)
                  refine lv_aload_n (pc := 111) hx hb dX4_put_111 rfl (lv_at hl 2 rfl) ?_
                  refine lv_iload_n (pc := 112) hx hb dX4_put_112 rfl (lv_at hl 3 rfl) ?_
                  refine lv_iload_n (pc := 113) hx hb dX4_put_113 rfl (lv_at hl 4 rfl) ?_
                  refine lv_iconst (pc := 114) (v := 2) hx hb dX4_put_114 (by decide) ?_
                  refine lv_iconst (pc := 115) (v := 0) hx hb dX4_put_115 (by decide) ?_
                  refine lv_iload_n (pc := 116) hx hb dX4_put_116 rfl (lv_at hl 5 rfl) ?_
                  refine lv_i2l (pc := 117) hx hb dX4_put_117 rfl ?_
                  refine nf_callv (pc := 118) (va_runV (As := [.int id, .int wd, .int 2, .int 0, .long ((v).toInt64)]) (rest := []) hC.1 (ct_X4_ask (mb := id) (wd := wd) (why := 2) (fi := 0) (v := ((v).toInt64)) (rwn := rwn) (by simpa [nf_iu] using hr) (by omega)) (cwV 5 hC.1.2.2.2.2 (gd_V wM_X4_89 wi_X4_ask wsel_X4_ask wini_X4 wcode_X4_ask) rfl rfl rfl (by decide +kernel) ⟨by decide, by decide⟩) (nf_preV hC hM rfl rfl) rfl rfl hl.1 rfl (lv_room (Nat.le_of_ble_eq_true rfl)) dX4_put_118 ⟨Nat.le_refl _, Nat.le_refl _⟩) hM (fun H locs hM => ?_)
                  refine lv_iconst (pc := 121) (v := 1) hx hb dX4_put_121 (by decide) ?_
                  exact hret _ _ _ _ _ _ _ _ (by rw [ys_ptB, show ys_gtB I id wd = true by simp [ys_gtB, h1, h2, h3], show ys_old I wd kc 0 0 = o by rw [hf, show kc - j = 0 by omega]; rfl]; simp [nb_I, h5, h6]) (by rw [ys_ptI, if_neg (by rw [ys_ptB, show ys_gtB I id wd = true by simp [ys_gtB, h1, h2, h3], show ys_old I wd kc 0 0 = o by rw [hf, show kc - j = 0 by omega]; rfl]; simp [h5, h6]), show ys_old I wd kc 0 0 = o by rw [hf, show kc - j = 0 by omega]; rfl]; simp [h5, h6] <;> rfl) (by rw [ys_ptJ, if_neg (by rw [ys_ptB, show ys_gtB I id wd = true by simp [ys_gtB, h1, h2, h3], show ys_old I wd kc 0 0 = o by rw [hf, show kc - j = 0 by omega]; rfl]; simp [h5, h6])]) rfl hM dX4_put_122
                · skip
                  refine lv_iconst (pc := 84) (v := 0) hx hb dX4_put_84 (by decide) ?_
                  exact hret _ _ _ _ _ _ _ _ (by rw [ys_ptB, show ys_gtB I id wd = true by simp [ys_gtB, h1, h2, h3], show ys_old I wd kc 0 0 = o by rw [hf, show kc - j = 0 by omega]; rfl]; simp [nb_I, h5, h6]) (by rw [ys_ptI, if_pos (by rw [ys_ptB, show ys_gtB I id wd = true by simp [ys_gtB, h1, h2, h3], show ys_old I wd kc 0 0 = o by rw [hf, show kc - j = 0 by omega]; rfl]; simp [h5, h6])]) (by rw [ys_ptJ, if_pos (by rw [ys_ptB, show ys_gtB I id wd = true by simp [ys_gtB, h1, h2, h3], show ys_old I wd kc 0 0 = o by rw [hf, show kc - j = 0 by omega]; rfl]; simp [h5, h6])]) rfl hM dX4_put_85
            · have hj4 : j < kc := Nat.lt_of_not_le (fun z => hh (by rw [hkc]; exact (nI_leI (by omega) (by omega)).mpr z))
              refine lv_iload (pc := 41) hx hb dX4_put_41 (lv_at hl 1 rfl) ?_
              refine lv_if_ne (pc := 43) (tgt := 57) hx hb dX4_put_43 (by decide) (fun h7 => ?_) (fun h7 => ?_)
              · skip
                refine lv_iconst (pc := 57) (v := 1) hx hb dX4_put_57 (by decide) ?_
                refine lv_goto (pc := 58) (tgt := 62) hx hb dX4_put_58 (by decide) ?_
                refine lv_istore (pc := 62) (lv' := [(4, .int 1), (5, .int (nI j)), (0, .ref (ad 20 0)), (1, .int id), (2, .int wd), (3, .int v)]) hx hb dX4_put_62 hl (by decide) rfl (fun ls hl => ?_)
                refine lv_iinc (pc := 64) (k := 1) (v := nI (j + 1)) (lv' := [(5, .int (nI (j + 1))), (4, .int 1), (0, .ref (ad 20 0)), (1, .int id), (2, .int wd), (3, .int v)]) hx hb dX4_put_64 hl rfl (nI_1 _) (by decide) rfl (fun ls hl => ?_)
                refine lv_goto (pc := 67) (tgt := 32) hx hb dX4_put_67 (by decide) ?_
                exact ihloop32 (j + 1) 1 ls _ _ (by omega) (by omega) (by rw [hf, show kc - j = (kc - (j + 1)) + 1 by omega, ys_old]; congr 1; simp [h7]) hM hl
              · skip
                refine lv_aload_n (pc := 46) hx hb dX4_put_46 rfl (lv_at hl 2 rfl) ?_
                refine nf_getr (pc := 47) hC hinX4 hM rfl rfl 12 (by decide) (List.mem_cons_of_mem _ wF_X4_38) rfl dX4_put_47 ?_
                refine lv_iload (pc := 50) hx hb dX4_put_50 (lv_at hl 0 rfl) ?_
                refine nf_iald (pc := 52) hC hM 0 rfl rfl j rfl (by omega) (by decide) dX4_put_52 ?_
                refine lv_iload_n (pc := 53) hx hb dX4_put_53 rfl (lv_at hl 4 rfl) ?_
                refine lv_icmp_ne (pc := 54) (tgt := 61) hx hb dX4_put_54 (by decide) (fun h8 => ?_) (fun h8 => ?_)
                · skip
                  refine lv_iconst (pc := 61) (v := 0) hx hb dX4_put_61 (by decide) ?_
                  refine lv_istore (pc := 62) (lv' := [(4, .int 0), (5, .int (nI j)), (0, .ref (ad 20 0)), (1, .int id), (2, .int wd), (3, .int v)]) hx hb dX4_put_62 hl (by decide) rfl (fun ls hl => ?_)
                  refine lv_iinc (pc := 64) (k := 1) (v := nI (j + 1)) (lv' := [(5, .int (nI (j + 1))), (4, .int 0), (0, .ref (ad 20 0)), (1, .int id), (2, .int wd), (3, .int v)]) hx hb dX4_put_64 hl rfl (nI_1 _) (by decide) rfl (fun ls hl => ?_)
                  refine lv_goto (pc := 67) (tgt := 32) hx hb dX4_put_67 (by decide) ?_
                  exact ihloop32 (j + 1) 0 ls _ _ (by omega) (by omega) (by rw [hf, show kc - j = (kc - (j + 1)) + 1 by omega, ys_old]; congr 1; simp [h7, h8]) hM hl
                · skip
                  refine lv_iconst (pc := 57) (v := 1) hx hb dX4_put_57 (by decide) ?_
                  refine lv_goto (pc := 58) (tgt := 62) hx hb dX4_put_58 (by decide) ?_
                  refine lv_istore (pc := 62) (lv' := [(4, .int 1), (5, .int (nI j)), (0, .ref (ad 20 0)), (1, .int id), (2, .int wd), (3, .int v)]) hx hb dX4_put_62 hl (by decide) rfl (fun ls hl => ?_)
                  refine lv_iinc (pc := 64) (k := 1) (v := nI (j + 1)) (lv' := [(5, .int (nI (j + 1))), (4, .int 1), (0, .ref (ad 20 0)), (1, .int id), (2, .int wd), (3, .int v)]) hx hb dX4_put_64 hl rfl (nI_1 _) (by decide) rfl (fun ls hl => ?_)
                  refine lv_goto (pc := 67) (tgt := 32) hx hb dX4_put_67 (by decide) ?_
                  exact ihloop32 (j + 1) 1 ls _ _ (by omega) (by omega) (by rw [hf, show kc - j = (kc - (j + 1)) + 1 by omega, ys_old]; congr 1; simp [h7, h8]) hM hl
        exact loop32 _ 0 0 ls _ _ (Nat.lt_succ_self _) (Nat.zero_le _) rfl hM hl
      · skip
        refine lv_iconst (pc := 24) (v := 0) hx hb dX4_put_24 (by decide) ?_
        exact hret _ _ _ _ _ _ _ _ (by simp [nb_I, ys_ptB, ys_gtB, h1, h2, h3]) (by rw [ys_ptI, if_pos (by simp [ys_ptB, ys_gtB, h1, h2, h3])]) (by rw [ys_ptJ, if_pos (by simp [ys_ptB, ys_gtB, h1, h2, h3])]) rfl hM dX4_put_25
end YD
