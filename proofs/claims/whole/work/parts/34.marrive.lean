/-! The model: arrive. -/
section YH
variable {l : Launch} {D : va_G} {cs : Nat → ClassId} {Bs nn rwn kp : Nat} {ad : nf_A} {I : nf_I} {J : nf_J} {P : nf_P}
set_option maxHeartbeats 4000000 in
set_option maxRecDepth 100000 in
theorem ct_X4_arrive {kn nd : Nat} (hr : I 20 0 13 = nI rwn) (hrw : rwn ≤ 20) (hkr : kn < rwn) (hkp : I 20 0 7 = nI kp) (hk2 : kp ≤ 120) (hmay : ys_may (ys_tkI I kn rwn) kp nd) : nf_Tv l yX4_arrive wsX4_arrive 4 95 D vwCl (xT cs) Bs (xS cs nn) ad [.ref (ad 20 0), .int (nI kn)] I J P (ys_aI (ys_tkI I kn rwn) (ys_tkJ J kn rwn) nd (rwn - 1) kp) (ys_aJ (ys_tkI I kn rwn) (ys_tkJ J kn rwn) nd (rwn - 1) kp) P := by
  refine nf_enterv (cc := cX4_arrive) (maxL := 3) (by decide) rfl (Nat.le_of_ble_eq_true rfl) ?_
  intro p e s m below meth c ls Q hC hM hl hret
  have hx := hC.1.1
  have hb := hC.1.2.1
  have hl : lv_has ls 3 [(0, .ref (ad 20 0)), (1, .int (nI kn))] := hl
  have hinX4 : ∀ w ∈ u_ws RX4 TX4 22, w ∈ wsX4_arrive := fun w h => List.mem_cons_of_mem _ (inX4 w h)
  refine lv_aload_n (pc := 0) hx hb dX4_arrive_0 rfl (lv_at hl 0 rfl) ?_
  refine lv_iload_n (pc := 1) hx hb dX4_arrive_1 rfl (lv_at hl 1 rfl) ?_
  refine lv_bipush (pc := 2) (v := 20) hx hb dX4_arrive_2 (by decide) ?_
  refine nf_callv (pc := 4) (va_runV (As := [.int (nI kn), .int (nI 20)]) (rest := []) hC.1 (ct_X4_copy (f := kn) (t := 20) (by omega) (by omega)) (cwV 2 hC.1.2.2.2.2 (gd_V wM_X4_111 wi_X4_copy wsel_X4_copy wini_X4 wcode_X4_copy) rfl rfl rfl (by decide +kernel) ⟨by decide, by decide⟩) (nf_preV hC hM rfl rfl) rfl rfl hl.1 (rfl) (lv_room (Nat.le_of_ble_eq_true rfl)) dX4_arrive_4 ⟨Nat.le_refl _, Nat.le_refl _⟩) hM (fun H locs hM => ?_)
  refine lv_aload_n (pc := 7) hx hb dX4_arrive_7 rfl (lv_at hl 0 rfl) ?_
  refine lv_dup (pc := 8) hx hb dX4_arrive_8 rfl ?_
  refine nf_geti (pc := 9) hC hinX4 hM rfl rfl 13 (by decide) (List.mem_cons_of_mem _ wF_X4_75) rfl dX4_arrive_9 ?_
  refine lv_iconst (pc := 12) (v := 1) hx hb dX4_arrive_12 (by decide) ?_
  refine lv_isub (pc := 13) hx hb dX4_arrive_13 ?_
  refine nf_puti (pc := 14) hC hinX4 tyX4 tyX4_ok nmX4 hM rfl rfl 13 (by decide) (List.mem_cons_of_mem _ wF_X4_75) rfl (by decide +kernel) rfl dX4_arrive_14 (fun H locs hM => ?_)
  have hM : nf_M D vwCl Bs (xS cs nn) ad (ys_sf (ys_t1 I kn) kn kn) (ys_sfJ (ys_cpJ J kn 20) kn kn) P s.heap H locs := by rw [ys_sf_0, ys_sfJ_0]; exact hM
  refine lv_iload_n (pc := 17) hx hb dX4_arrive_17 rfl (lv_at hl 1 rfl) ?_
  refine lv_istore_n (pc := 18) (lv' := [(2, .int (nI kn)), (0, .ref (ad 20 0)), (1, .int (nI kn))]) hx hb dX4_arrive_18 rfl hl (by decide) rfl (fun ls hl => ?_)
  have loop19 : ∀ (n : Nat) (j : Nat) (ls : Array Slot) (H : Heap) (locs : List Loc), rwn - j < n → (kn ≤ j) → (j ≤ rwn - 1) → nf_M D vwCl Bs (xS cs nn) ad (ys_sf (ys_t1 I kn) kn j) (ys_sfJ (ys_cpJ J kn 20) kn j) P s.heap H locs → lv_has ls 3 [(2, .int (nI j)), (0, .ref (ad 20 0)), (1, .int (nI kn))] → W p l e (nf_Rm 4 95) s m ([.ref (ad 20 0), .int (nI kn)] : List Value).toArray below meth c H locs 0 0 Q (F0 m 19 ls []) := by
    intro n
    induction n with
    | zero => exact fun _ _ _ _ hmz => absurd hmz (Nat.not_lt_zero _)
    | succ n ihloop19 =>
      intro j ls H locs hmz hkj hjn hM hl
      refine lv_iload_n (pc := 19) hx hb dX4_arrive_19 rfl (lv_at hl 0 rfl) ?_
      refine lv_aload_n (pc := 20) hx hb dX4_arrive_20 rfl (lv_at hl 1 rfl) ?_
      refine nf_geti (pc := 21) hC hinX4 hM rfl rfl 13 (by decide) (List.mem_cons_of_mem _ wF_X4_75) rfl dX4_arrive_21 ?_
      refine lv_icmp_ge (pc := 24) (tgt := 41) hx hb dX4_arrive_24 (by decide) (fun hh => ?_) (fun hh => ?_)
      · have hj1 : rwn - 1 ≤ j := (nI_leI (by omega) (by omega)).mp (by rw [(show ys_sf (ys_t1 I kn) kn j 20 0 13 = nI (rwn - 1) by rw [ys_sf_o _ _ _ _ _ _ (by omega)]; exact ys_t1_row hr (by omega))] at hh; exact hh)
        obtain rfl : j = rwn - 1 := by omega
        obtain ⟨I2, hI2⟩ : ∃ I2, I2 = ys_tkI I kn rwn := ⟨_, rfl⟩
        obtain ⟨J2, hJ2⟩ : ∃ J2, J2 = ys_tkJ J kn rwn := ⟨_, rfl⟩
        have hM : nf_M D vwCl Bs (xS cs nn) ad I2 J2 P s.heap H locs := by rw [hI2, hJ2]; exact hM
        rw [← hI2] at hmay
        obtain ⟨hnd, hto, hfo, hst, hno⟩ := hmay
        have hr2 : I2 20 0 13 = nI (rwn - 1) := by rw [hI2]; exact ys_tk_row hr (by omega)
        have hkp2 : I2 20 0 7 = nI kp := by rw [hI2, ys_tk_o _ _ _ _ _ _ (by omega) (by omega)]; exact hkp
        refine lv_aload_n (pc := 41) hx hb dX4_arrive_41 rfl (lv_at hl 1 rfl) ?_
        refine nf_getr (pc := 42) hC hinX4 hM rfl rfl 15 (by decide) (List.mem_cons_of_mem _ wF_X4_44) rfl dX4_arrive_42 ?_
        refine lv_bipush (pc := 45) (v := 20) hx hb dX4_arrive_45 (by decide) ?_
        refine nf_iald (pc := 47) hC hM 0 rfl rfl 20 rfl (by omega) (by decide) dX4_arrive_47 ?_
        refine lv_istore_n (pc := 48) (lv' := [(2, .int (I2 32 0 20)), (0, .ref (ad 20 0)), (1, .int (nI kn))]) hx hb dX4_arrive_48 rfl hl (by decide) rfl (fun ls hl => ?_)
        have hl : lv_has ls 3 [(2, .int (nI nd)), (0, .ref (ad 20 0)), (1, .int (nI kn))] := by rw [← hto]; exact hl
        refine lv_aload_n (pc := 49) hx hb dX4_arrive_49 rfl (lv_at hl 1 rfl) ?_
        refine nf_getr (pc := 50) hC hinX4 hM rfl rfl 14 (by decide) (List.mem_cons_of_mem _ wF_X4_41) rfl dX4_arrive_50 ?_
        refine lv_bipush (pc := 53) (v := 20) hx hb dX4_arrive_53 (by decide) ?_
        refine nf_iald (pc := 55) hC hM 0 rfl rfl 20 rfl (by omega) (by decide) dX4_arrive_55 ?_
        rcases nk_sw7 (I2 31 0 20) with hc | hc | hc | hc | hc | hc | hc | ⟨hc, hc1, hc2, hc3, hc4, hc5, hc6, hc7⟩
        · refine lv_tableIn (pc := 56) (off := 44) (tgt := 100) hx hb dX4_arrive_56 (by rw [hc]; decide) (by rw [hc]; decide) (by rw [hc]; decide) (by decide) ?_
          refine lv_aload_n (pc := 100) hx hb dX4_arrive_100 rfl (lv_at hl 1 rfl) ?_
          refine lv_iload_n (pc := 101) hx hb dX4_arrive_101 rfl (lv_at hl 0 rfl) ?_
          refine nf_callv (pc := 102) (va_runV (As := [.int (nI nd)]) (rest := []) hC.1 (ct_X4_find (nd := nd) (rwn := rwn - 1) hr2 (by omega) hnd) (cwV 1 hC.1.2.2.2.2 (gd_V wM_X4_115 wi_X4_find wsel_X4_find wini_X4 wcode_X4_find) rfl rfl rfl (by decide +kernel) ⟨by decide, by decide⟩) (nf_preV hC hM rfl rfl) rfl rfl hl.1 rfl (lv_room (Nat.le_of_ble_eq_true rfl)) dX4_arrive_102 ⟨Nat.le_refl _, Nat.le_refl _⟩) hM (fun H locs hM => ?_)
          refine lv_goto (pc := 105) (tgt := 225) hx hb dX4_arrive_105 (by decide) ?_
          exact hret _ _ _ _ _ _ _ (by rw [← hI2, ← hJ2]; simp [ys_aI, hj1, hc] <;> rfl) (by rw [← hI2, ← hJ2]; simp [ys_aJ, hj1, hc] <;> rfl) rfl hM dX4_arrive_225
        · refine lv_tableIn (pc := 56) (off := 52) (tgt := 108) hx hb dX4_arrive_56 (by rw [hc]; decide) (by rw [hc]; decide) (by rw [hc]; decide) (by decide) ?_
          refine lv_aload_n (pc := 108) hx hb dX4_arrive_108 rfl (lv_at hl 1 rfl) ?_
          refine lv_iload_n (pc := 109) hx hb dX4_arrive_109 rfl (lv_at hl 0 rfl) ?_
          refine nf_callv (pc := 110) (va_runV (As := [.int (nI nd)]) (rest := []) hC.1 (ct_X4_found (nd := nd) hnd (hfo hc)) (cwV 1 hC.1.2.2.2.2 (gd_V wM_X4_118 wi_X4_found wsel_X4_found wini_X4 wcode_X4_found) rfl rfl rfl (by decide +kernel) ⟨by decide, by decide⟩) (nf_preV hC hM rfl rfl) rfl rfl hl.1 rfl (lv_room (Nat.le_of_ble_eq_true rfl)) dX4_arrive_110 ⟨Nat.le_refl _, Nat.le_refl _⟩) hM (fun H locs hM => ?_)
          refine lv_goto (pc := 113) (tgt := 225) hx hb dX4_arrive_113 (by decide) ?_
          exact hret _ _ _ _ _ _ _ (by rw [← hI2, ← hJ2]; simp [ys_aI, hj1, hc] <;> rfl) (by rw [← hI2, ← hJ2]; simp [ys_aJ, hj1, hc] <;> rfl) rfl hM dX4_arrive_225
        · refine lv_tableIn (pc := 56) (off := 60) (tgt := 116) hx hb dX4_arrive_56 (by rw [hc]; decide) (by rw [hc]; decide) (by rw [hc]; decide) (by decide) ?_
          refine lv_aload_n (pc := 116) hx hb dX4_arrive_116 rfl (lv_at hl 1 rfl) ?_
          refine lv_iload_n (pc := 117) hx hb dX4_arrive_117 rfl (lv_at hl 0 rfl) ?_
          refine lv_aload_n (pc := 118) hx hb dX4_arrive_118 rfl (lv_at hl 1 rfl) ?_
          refine nf_getr (pc := 119) hC hinX4 hM rfl rfl 16 (by decide) (List.mem_cons_of_mem _ wF_X4_47) rfl dX4_arrive_119 ?_
          refine lv_bipush (pc := 122) (v := 20) hx hb dX4_arrive_122 (by decide) ?_
          refine nf_iald (pc := 124) hC hM 0 rfl rfl 20 rfl (by omega) (by decide) dX4_arrive_124 ?_
          refine lv_aload_n (pc := 125) hx hb dX4_arrive_125 rfl (lv_at hl 1 rfl) ?_
          refine nf_getr (pc := 126) hC hinX4 hM rfl rfl 21 (by decide) (List.mem_cons_of_mem _ wF_X4_62) rfl dX4_arrive_126 ?_
          refine lv_bipush (pc := 129) (v := 20) hx hb dX4_arrive_129 (by decide) ?_
          refine nf_lald (pc := 131) hC hM 1 rfl rfl 20 rfl (by omega) (by decide) dX4_arrive_131 ?_
          refine lv_l2i (pc := 132) hx hb dX4_arrive_132 rfl ?_
          refine nf_callv (pc := 133) (va_runV (As := [.int (nI nd), .int (I2 33 0 20), .int (((J2 38 0 20)).toInt32)]) (rest := []) hC.1 (ct_X4_keep (mb := (nI nd)) (wd := (I2 33 0 20)) (v := (((J2 38 0 20)).toInt32)) (kp := kp) hkp2 hk2 (hst hc)) (cwV 3 hC.1.2.2.2.2 (gd_V wM_X4_107 wi_X4_keep wsel_X4_keep wini_X4 wcode_X4_keep) rfl rfl rfl (by decide +kernel) ⟨by decide, by decide⟩) (nf_preV hC hM rfl rfl) rfl rfl hl.1 rfl (lv_room (Nat.le_of_ble_eq_true rfl)) dX4_arrive_133 ⟨Nat.le_refl _, Nat.le_refl _⟩) hM (fun H locs hM => ?_)
          refine lv_goto (pc := 136) (tgt := 225) hx hb dX4_arrive_136 (by decide) ?_
          exact hret _ _ _ _ _ _ _ (by rw [← hI2, ← hJ2]; simp [ys_aI, hj1, hc] <;> rfl) (by rw [← hI2, ← hJ2]; simp [ys_aJ, hj1, hc] <;> rfl) rfl hM dX4_arrive_225
        · refine lv_tableIn (pc := 56) (off := 83) (tgt := 139) hx hb dX4_arrive_56 (by rw [hc]; decide) (by rw [hc]; decide) (by rw [hc]; decide) (by decide) ?_
          refine lv_aload_n (pc := 139) hx hb dX4_arrive_139 rfl (lv_at hl 1 rfl) ?_
          refine lv_iload_n (pc := 140) hx hb dX4_arrive_140 rfl (lv_at hl 0 rfl) ?_
          refine nf_callv (pc := 141) (va_runV (As := [.int (nI nd)]) (rest := []) hC.1 (ct_X4_fetch (nd := nd) (rwn := rwn - 1) (kp := kp) hr2 (by omega) hkp2 hk2 hnd) (cwV 1 hC.1.2.2.2.2 (gd_V wM_X4_121 wi_X4_fetch wsel_X4_fetch wini_X4 wcode_X4_fetch) rfl rfl rfl (by decide +kernel) ⟨by decide, by decide⟩) (nf_preV hC hM rfl rfl) rfl rfl hl.1 rfl (lv_room (Nat.le_of_ble_eq_true rfl)) dX4_arrive_141 ⟨Nat.le_refl _, Nat.le_refl _⟩) hM (fun H locs hM => ?_)
          refine lv_goto (pc := 144) (tgt := 225) hx hb dX4_arrive_144 (by decide) ?_
          exact hret _ _ _ _ _ _ _ (by rw [← hI2, ← hJ2]; simp [ys_aI, hj1, hc] <;> rfl) (by rw [← hI2, ← hJ2]; simp [ys_aJ, hj1, hc] <;> rfl) rfl hM dX4_arrive_225
        · refine lv_tableIn (pc := 56) (off := 91) (tgt := 147) hx hb dX4_arrive_56 (by rw [hc]; decide) (by rw [hc]; decide) (by rw [hc]; decide) (by decide) ?_
          refine lv_aload_n (pc := 147) hx hb dX4_arrive_147 rfl (lv_at hl 1 rfl) ?_
          refine nf_getr (pc := 148) hC hinX4 hM rfl rfl 5 (by decide) (List.mem_cons_of_mem _ wF_X4_22) rfl dX4_arrive_148 ?_
          refine lv_iload_n (pc := 151) hx hb dX4_arrive_151 rfl (lv_at hl 0 rfl) ?_
          refine lv_aload_n (pc := 152) hx hb dX4_arrive_152 rfl (lv_at hl 1 rfl) ?_
          refine nf_getr (pc := 153) hC hinX4 hM rfl rfl 21 (by decide) (List.mem_cons_of_mem _ wF_X4_62) rfl dX4_arrive_153 ?_
          refine lv_bipush (pc := 156) (v := 20) hx hb dX4_arrive_156 (by decide) ?_
          refine nf_lald (pc := 158) hC hM 1 rfl rfl 20 rfl (by omega) (by decide) dX4_arrive_158 ?_
          refine nf_last (pc := 159) hC hM 1 rfl rfl nd rfl (by omega) (by decide) dX4_arrive_159 (fun H locs hM => ?_)
          refine lv_aload_n (pc := 160) hx hb dX4_arrive_160 rfl (lv_at hl 1 rfl) ?_
          refine nf_getr (pc := 161) hC hinX4 hM rfl rfl 6 (by decide) (List.mem_cons_of_mem _ wF_X4_26) rfl dX4_arrive_161 ?_
          refine lv_iload_n (pc := 164) hx hb dX4_arrive_164 rfl (lv_at hl 0 rfl) ?_
          refine lv_aload_n (pc := 165) hx hb dX4_arrive_165 rfl (lv_at hl 1 rfl) ?_
          refine nf_getr (pc := 166) hC hinX4 hM rfl rfl 20 (by decide) (List.mem_cons_of_mem _ wF_X4_59) rfl dX4_arrive_166 ?_
          refine lv_bipush (pc := 169) (v := 20) hx hb dX4_arrive_169 (by decide) ?_
          refine nf_iald (pc := 171) hC hM 0 rfl rfl 20 rfl (by omega) (by decide) dX4_arrive_171 ?_
          refine nf_iast (pc := 172) hC hM 0 rfl rfl nd rfl (by omega) (by decide) dX4_arrive_172 (fun H locs hM => ?_)
          refine lv_goto (pc := 173) (tgt := 225) hx hb dX4_arrive_173 (by decide) ?_
          exact hret _ _ _ _ _ _ _ (by rw [← hI2, ← hJ2]; simp [ys_aI, hj1, hc] <;> rfl) (by rw [← hI2, ← hJ2]; simp [ys_aJ, hj1, hc] <;> rfl) rfl hM dX4_arrive_225
        · refine lv_tableIn (pc := 56) (off := 120) (tgt := 176) hx hb dX4_arrive_56 (by rw [hc]; decide) (by rw [hc]; decide) (by rw [hc]; decide) (by decide) ?_
          refine lv_aload_n (pc := 176) hx hb dX4_arrive_176 rfl (lv_at hl 1 rfl) ?_
          refine lv_bipush (pc := 177) (v := 7) hx hb dX4_arrive_177 (by decide) ?_
          refine lv_aload_n (pc := 179) hx hb dX4_arrive_179 rfl (lv_at hl 1 rfl) ?_
          refine nf_getr (pc := 180) hC hinX4 hM rfl rfl 19 (by decide) (List.mem_cons_of_mem _ wF_X4_56) rfl dX4_arrive_180 ?_
          refine lv_bipush (pc := 183) (v := 20) hx hb dX4_arrive_183 (by decide) ?_
          refine nf_iald (pc := 185) hC hM 0 rfl rfl 20 rfl (by omega) (by decide) dX4_arrive_185 ?_
          refine lv_iconst (pc := 186) (v := 0) hx hb dX4_arrive_186 (by decide) ?_
          refine lv_iconst (pc := 187) (v := 0) hx hb dX4_arrive_187 (by decide) ?_
          refine nf_callv (pc := 188) (va_runV (As := [.int 7, .int (I2 36 0 20), .int 0, .int 0]) (rest := []) hC.1 (ct_X4_post (kd := 7) (tz := (I2 36 0 20)) (ky := 0) (ak := 0) (rwn := rwn - 1) hr2 (by omega)) (cwV 4 hC.1.2.2.2.2 (gd_V wM_X4_79 wi_X4_post wsel_X4_post wini_X4 wcode_X4_post) rfl rfl rfl (by decide +kernel) ⟨by decide, by decide⟩) (nf_preV hC hM rfl rfl) rfl rfl hl.1 rfl (lv_room (Nat.le_of_ble_eq_true rfl)) dX4_arrive_188 ⟨Nat.le_refl _, Nat.le_refl _⟩) hM (fun H locs hM => ?_)
          refine lv_aload_n (pc := 191) hx hb dX4_arrive_191 rfl (lv_at hl 1 rfl) ?_
          refine nf_getr (pc := 192) hC hinX4 hM rfl rfl 21 (by decide) (List.mem_cons_of_mem _ wF_X4_62) rfl dX4_arrive_192 ?_
          refine lv_aload_n (pc := 195) hx hb dX4_arrive_195 rfl (lv_at hl 1 rfl) ?_
          refine nf_geti (pc := 196) hC hinX4 hM rfl rfl 13 (by decide) (List.mem_cons_of_mem _ wF_X4_75) rfl dX4_arrive_196 ?_
          refine lv_iconst (pc := 199) (v := 1) hx hb dX4_arrive_199 (by decide) ?_
          refine lv_isub (pc := 200) hx hb dX4_arrive_200 ?_
          refine lv_aload_n (pc := 201) hx hb dX4_arrive_201 rfl (lv_at hl 1 rfl) ?_
          refine nf_getr (pc := 202) hC hinX4 hM rfl rfl 3 (by decide) (List.mem_cons_of_mem _ wF_X4_16) rfl dX4_arrive_202 ?_
          refine lv_iload_n (pc := 205) hx hb dX4_arrive_205 rfl (lv_at hl 0 rfl) ?_
          refine nf_iald (pc := 206) hC hM 0 rfl rfl nd rfl (by omega) (by decide) dX4_arrive_206 ?_
          refine lv_i2l (pc := 207) hx hb dX4_arrive_207 rfl ?_
          refine nf_last (pc := 208) hC hM 1 rfl rfl (rwn - 1) (by rw [ys_po_row _ _ _ _ hr2, nI_pred]) (by omega) (by decide) dX4_arrive_208 (fun H locs hM => ?_)
          refine lv_goto (pc := 209) (tgt := 225) hx hb dX4_arrive_209 (by decide) ?_
          exact hret _ _ _ _ _ _ _ (by rw [← hI2, ← hJ2]; simp [ys_aI, hj1, hc] <;> rfl) (by rw [← hI2, ← hJ2]; simp [ys_aJ, hj1, hc] <;> rfl) rfl hM dX4_arrive_225
        · refine lv_tableIn (pc := 56) (off := 156) (tgt := 212) hx hb dX4_arrive_56 (by rw [hc]; decide) (by rw [hc]; decide) (by rw [hc]; decide) (by decide) ?_
          refine lv_aload_n (pc := 212) hx hb dX4_arrive_212 rfl (lv_at hl 1 rfl) ?_
          refine lv_iload_n (pc := 213) hx hb dX4_arrive_213 rfl (lv_at hl 0 rfl) ?_
          refine nf_callv (pc := 214) (va_runV (As := [.int (nI nd)]) (rest := []) hC.1 (ct_X4_tell (nd := nd) (rwn := rwn - 1) hr2 (by omega) hnd) (cwV 1 hC.1.2.2.2.2 (gd_V wM_X4_124 wi_X4_tell wsel_X4_tell wini_X4 wcode_X4_tell) rfl rfl rfl (by decide +kernel) ⟨by decide, by decide⟩) (nf_preV hC hM rfl rfl) rfl rfl hl.1 rfl (lv_room (Nat.le_of_ble_eq_true rfl)) dX4_arrive_214 ⟨Nat.le_refl _, Nat.le_refl _⟩) hM (fun H locs hM => ?_)
          refine lv_goto (pc := 217) (tgt := 225) hx hb dX4_arrive_217 (by decide) ?_
          exact hret _ _ _ _ _ _ _ (by rw [← hI2, ← hJ2]; simp [ys_aI, hj1, hc] <;> rfl) (by rw [← hI2, ← hJ2]; simp [ys_aJ, hj1, hc] <;> rfl) rfl hM dX4_arrive_225
        · refine lv_tableOut (pc := 56) (tgt := 220) hx hb dX4_arrive_56 hc (by decide) ?_
          refine lv_aload_n (pc := 220) hx hb dX4_arrive_220 rfl (lv_at hl 1 rfl) ?_
          refine lv_iload_n (pc := 221) hx hb dX4_arrive_221 rfl (lv_at hl 0 rfl) ?_
          refine nf_callv (pc := 222) (va_runV (As := [.int (nI nd)]) (rest := []) hC.1 (ct_X4_notified (nd := nd) (F := ys_F) (kp := kp) hkp2 hk2 hnd (fun _ => hno hc1 hc2 hc3 hc4 hc5 hc6 hc7)) (cwV 1 hC.1.2.2.2.2 (gd_V wM_X4_127 wi_X4_notified wsel_X4_notified wini_X4 wcode_X4_notified) rfl rfl rfl (by decide +kernel) ⟨by decide, by decide⟩) (nf_preV hC hM rfl rfl) rfl rfl hl.1 rfl (lv_room (Nat.le_of_ble_eq_true rfl)) dX4_arrive_222 ⟨Nat.le_refl _, Nat.le_refl _⟩) hM (fun H locs hM => ?_)
          exact hret _ _ _ _ _ _ _ (by rw [← hI2, ← hJ2]; simp [ys_aI, hj1, hc1, hc2, hc3, hc4, hc5, hc6, hc7] <;> rfl) (by rw [← hI2, ← hJ2]; simp [ys_aJ, hj1, hc1, hc2, hc3, hc4, hc5, hc6, hc7] <;> rfl) rfl hM dX4_arrive_225
      · have hj1 : j < rwn - 1 := Nat.lt_of_not_le (fun z => hh (by rw [(show ys_sf (ys_t1 I kn) kn j 20 0 13 = nI (rwn - 1) by rw [ys_sf_o _ _ _ _ _ _ (by omega)]; exact ys_t1_row hr (by omega))]; exact (nI_leI (by omega) (by omega)).mpr z))
        refine lv_aload_n (pc := 27) hx hb dX4_arrive_27 rfl (lv_at hl 1 rfl) ?_
        refine lv_iload_n (pc := 28) hx hb dX4_arrive_28 rfl (lv_at hl 0 rfl) ?_
        refine lv_iconst (pc := 29) (v := 1) hx hb dX4_arrive_29 (by decide) ?_
        refine lv_iadd (pc := 30) hx hb dX4_arrive_30 ?_
        refine lv_iload_n (pc := 31) hx hb dX4_arrive_31 rfl (lv_at hl 0 rfl) ?_
        refine nf_callv (pc := 32) (va_runV (As := [.int (nI (j + 1)), .int (nI j)]) (rest := []) hC.1 (ct_X4_copy (f := j + 1) (t := j) (by omega) (by omega)) (cwV 2 hC.1.2.2.2.2 (gd_V wM_X4_111 wi_X4_copy wsel_X4_copy wini_X4 wcode_X4_copy) rfl rfl rfl (by decide +kernel) ⟨by decide, by decide⟩) (nf_preV hC hM rfl rfl) rfl rfl hl.1 (by rw [nI_1]; rfl) (lv_room (Nat.le_of_ble_eq_true rfl)) dX4_arrive_32 ⟨Nat.le_refl _, Nat.le_refl _⟩) hM (fun H locs hM => ?_)
        rw [ys_sf_s _ hkj, ys_sfJ_s _ hkj] at hM
        refine lv_iinc (pc := 35) (k := 0) (v := nI (j + 1)) (lv' := [(2, .int (nI (j + 1))), (0, .ref (ad 20 0)), (1, .int (nI kn))]) hx hb dX4_arrive_35 hl rfl (nI_1 _) (by decide) rfl (fun ls hl => ?_)
        refine lv_goto (pc := 38) (tgt := 19) hx hb dX4_arrive_38 (by decide) ?_
        exact ihloop19 (j + 1) ls _ _ (by omega) (by omega) (by omega) hM hl
  exact loop19 _ kn ls _ _ (Nat.lt_succ_self _) (Nat.le_refl _) (by omega) hM hl
end YH
