/-! arrive, deliver. -/
section XD
variable {l : Launch} {D : va_G} {cs : Nat → ClassId} {Bs nn sz kc : Nat} {ad : nf_A} {I : nf_I} {J : nf_J} {mp : Nat → Nat}
set_option maxHeartbeats 4000000 in
set_option maxRecDepth 100000 in
theorem ct_X3_arrive {k : Int32} (hn : I 0 0 1 = nI nn) (hnn : nn ≤ 12) (hk : I 0 0 3 = nI kc) (hkk : kc ≤ 10) (hs : I 3 0 1 = nI sz) (hsz : sz ≤ 20) (hmp : ∀ j, j < 21 → mp j < 21) : nf_Ti l yX3_arrive wsX3_arrive 5 112 D vwCl (xT cs) Bs (xS cs nn) ad [.ref (ad 0 0), .int k] I J (xP nn mp) ((xs_arr I J mp nn kc k).1) ((xs_arr I J mp nn kc k).2.1) ((xs_arr I J mp nn kc k).2.2.1) (xP nn (xs_arr I J mp nn kc k).2.2.2) := by
  refine nf_enteri (cc := cX3_arrive) (maxL := 4) (by decide) rfl (Nat.le_of_ble_eq_true rfl) ?_
  intro p e s m below meth c ls Q hC hM hl hret
  have hx := hC.1.1
  have hb := hC.1.2.1
  have hl : lv_has ls 4 [(0, .ref (ad 0 0)), (1, .int k)] := hl
  have hinX0 : ∀ w ∈ u_ws RX0 TX0 9, w ∈ wsX3_arrive := fun w h => List.mem_cons_of_mem _ (inX0 w h)
  have hinX1 : ∀ w ∈ u_ws RX1 TX1 7, w ∈ wsX3_arrive := fun w h => List.mem_cons_of_mem _ (inX1 w h)
  have hinX3 : ∀ w ∈ u_ws RX3 TX3 5, w ∈ wsX3_arrive := fun w h => List.mem_cons_of_mem _ (inX3 w h)
  refine lv_aload_n (pc := 0) hx hb dX3_arrive_0 rfl (lv_at hl 0 rfl) ?_
  refine nf_getr (pc := 1) hC hinX3 hM rfl rfl 4 (by decide) (List.mem_cons_of_mem _ wF_X3_29) rfl dX3_arrive_1 ?_
  refine lv_iload_n (pc := 4) hx hb dX3_arrive_4 rfl (lv_at hl 1 rfl) ?_
  refine nf_callq (pc := 5) (va_runV (As := [.int k]) (rest := []) hC.1 (ct_X2_takeOut (k := k) (sz := sz) hs (by omega) hmp) (cwV 1 hC.1.2.2.2.2 (gd_V wM_X3_159 wi_X2_takeOut wsel_X2_takeOut wini_X2 wcode_X2_takeOut) rfl rfl rfl (by decide +kernel) ⟨by decide, by decide⟩) (nf_preV hC hM rfl rfl) rfl rfl hl.1 rfl (lv_room (Nat.le_of_ble_eq_true rfl)) dX3_arrive_5 ⟨Nat.le_refl _, Nat.le_refl _⟩) hM (fun H locs hM => ?_)
  cases hqt : xs_at I mp k with
  | none =>
    simp only [hqt, Option.map_none, va_rf]
    have hM : nf_M D vwCl Bs (xS cs nn) ad I J (xP nn mp) s.heap H locs := by simpa [xs_toI, xs_toM, hqt] using hM
    refine lv_astore_nN (pc := 8) (lv' := [(2, .null), (0, .ref (ad 0 0)), (1, .int k)]) hx hb dX3_arrive_8 rfl hl (by decide) rfl (fun ls hl => ?_)
    refine lv_aload_nN (pc := 9) hx hb dX3_arrive_9 rfl (lv_at hl 0 rfl) ?_
    refine lv_ifnonnullN (pc := 10) hx hb dX3_arrive_10 ?_
    refine lv_iconst (pc := 13) (v := -1) hx hb dX3_arrive_13 (by decide) ?_
    exact hret _ _ _ _ _ _ _ _ (by simp [xs_arr, hqt]) (by simp [xs_arr, hqt]) (by simp [xs_arr, hqt]) (by simp [xs_arr, hqt]) hM dX3_arrive_14
  | some o =>
    simp only [hqt, Option.map_some, va_rf]
    obtain ⟨kn, hkn, hke, hko⟩ := xs_at_ix hs (by omega) hqt
    have ho := xs_at_lt hs hsz hmp hqt
    obtain ⟨I1, hI1⟩ : ∃ I1, I1 = nf_iu I 3 0 1 (I 3 0 1 - 1) := ⟨_, rfl⟩
    obtain ⟨M1, hM1⟩ : ∃ M1, M1 = xs_tk mp k.toNatClampNeg := ⟨_, rfl⟩
    have hM : nf_M D vwCl Bs (xS cs nn) ad I1 J (xP nn M1) s.heap H locs := by rw [hI1, hM1]; simpa [xs_toI, xs_toM, hqt] using hM
    have hs1 : I1 3 0 1 = nI (sz - 1) := by rw [hI1, nf_iu_s, hs, show sz = (sz - 1) + 1 by omega, nI_pred]; rfl
    have hn1 : I1 0 0 1 = nI nn := by rw [hI1, nf_iu_n _ _ (by omega)]; exact hn
    have hk1 : I1 0 0 3 = nI kc := by rw [hI1, nf_iu_n _ _ (by omega)]; exact hk
    have hmp1 : ∀ j, j < 21 → M1 j < 21 := by rw [hM1, hke, nI_clamp (by omega)]; exact xs_tk_lt hmp (by omega)
    have hsz1 : sz - 1 < 20 := by omega
    refine lv_astore_n (pc := 8) (lv' := [(2, .ref (ad 8 o)), (0, .ref (ad 0 0)), (1, .int k)]) hx hb dX3_arrive_8 rfl hl (by decide) rfl (fun ls hl => ?_)
    refine lv_aload_n (pc := 9) hx hb dX3_arrive_9 rfl (lv_at hl 0 rfl) ?_
    refine lv_ifnonnull (pc := 10) (tgt := 15) hx hb dX3_arrive_10 (by decide) ?_
    refine lv_aload_n (pc := 15) hx hb dX3_arrive_15 rfl (lv_at hl 1 rfl) ?_
    refine lv_aload_n (pc := 16) hx hb dX3_arrive_16 rfl (lv_at hl 0 rfl) ?_
    refine nf_geti (pc := 17) hC hinX0 hM (xS_8 (by first | assumption | omega)) rfl 1 (by decide) (List.mem_cons_of_mem _ wF_X3_98) rfl dX3_arrive_17 ?_
    refine nf_callq (pc := 20) (va_runV (As := [.int (I1 8 o 1)]) (rest := []) hC.1 (ct_X3_nodeWith (id := (I1 8 o 1)) hn1 hnn) (cwV 1 hC.1.2.2.2.2 (gd_V wM_X3_44 wi_X3_nodeWith wsel_X3_nodeWith wini_X3 wcode_X3_nodeWith) rfl rfl rfl (by decide +kernel) ⟨by decide, by decide⟩) (nf_preV hC hM rfl rfl) rfl rfl hl.1 rfl (lv_room (Nat.le_of_ble_eq_true rfl)) dX3_arrive_20 ⟨Nat.le_refl _, Nat.le_refl _⟩) hM (fun H locs hM => ?_)
    cases hq1 : xs_node I1 nn (I1 8 o 1) with
    | none =>
      simp only [hq1, Option.map_none, va_rf]
      refine lv_astore_nN (pc := 23) (lv' := [(3, .null), (2, .ref (ad 8 o)), (0, .ref (ad 0 0)), (1, .int k)]) hx hb dX3_arrive_23 rfl hl (by decide) rfl (fun ls hl => ?_)
      refine lv_aload_nN (pc := 24) hx hb dX3_arrive_24 rfl (lv_at hl 0 rfl) ?_
      refine lv_ifnonnullN (pc := 25) hx hb dX3_arrive_25 ?_
      refine lv_aload_n (pc := 28) hx hb dX3_arrive_28 rfl (lv_at hl 1 rfl) ?_
      refine nf_geti (pc := 29) hC hinX0 hM (xS_8 (by first | assumption | omega)) rfl 0 (by decide) (List.mem_cons_of_mem _ wF_X3_95) rfl dX3_arrive_29 ?_
      exact hret _ _ _ _ _ _ _ _ (by rw [xs_arr_n hqt hI1 hM1 hq1]) (by rw [xs_arr_n hqt hI1 hM1 hq1]) (by rw [xs_arr_n hqt hI1 hM1 hq1]) (by rw [xs_arr_n hqt hI1 hM1 hq1]) hM dX3_arrive_32
    | some i2 =>
      simp only [hq1, Option.map_some, va_rf]
      have hq1l := xs_node_lt hq1
      refine lv_astore_n (pc := 23) (lv' := [(3, .ref (ad 5 i2)), (2, .ref (ad 8 o)), (0, .ref (ad 0 0)), (1, .int k)]) hx hb dX3_arrive_23 rfl hl (by decide) rfl (fun ls hl => ?_)
      refine lv_aload_n (pc := 24) hx hb dX3_arrive_24 rfl (lv_at hl 0 rfl) ?_
      refine lv_ifnonnull (pc := 25) (tgt := 33) hx hb dX3_arrive_25 (by decide) ?_
      refine lv_aload_n (pc := 33) hx hb dX3_arrive_33 rfl (lv_at hl 1 rfl) ?_
      refine nf_geti (pc := 34) hC hinX0 hM (xS_8 (by first | assumption | omega)) rfl 0 (by decide) (List.mem_cons_of_mem _ wF_X3_95) rfl dX3_arrive_34 ?_
      rcases nk_sw7 (I1 8 o 0) with hc | hc | hc | hc | hc | hc | hc | ⟨hc, hc1, hc2, hc3, hc4, hc5, hc6, hc7⟩
      · refine lv_tableIn (pc := 37) (off := 43) (tgt := 80) hx hb dX3_arrive_37 (by rw [hc]; decide) (by rw [hc]; decide) (by rw [hc]; decide) (by decide) ?_
        refine lv_aload_n (pc := 80) hx hb dX3_arrive_80 rfl (lv_at hl 2 rfl) ?_
        refine lv_aload_n (pc := 81) hx hb dX3_arrive_81 rfl (lv_at hl 0 rfl) ?_
        refine lv_aload_n (pc := 82) hx hb dX3_arrive_82 rfl (lv_at hl 1 rfl) ?_
        refine nf_callv (pc := 83) (va_runV (As := [.ref (ad 5 i2), .ref (ad 8 o)]) (rest := []) hC.1 (ct_X3_findArrives (i := i2) (o := o) (sz := sz - 1) hs1 hsz1 hmp1 (by first | assumption | omega) (by first | assumption | omega)) (cwV 2 hC.1.2.2.2.2 (gd_V wM_X3_162 wi_X3_findArrives wsel_X3_findArrives wini_X3 wcode_X3_findArrives) rfl rfl rfl (by decide +kernel) ⟨by decide, by decide⟩) (nf_preV hC hM rfl rfl) rfl rfl hl.1 rfl (lv_room (Nat.le_of_ble_eq_true rfl)) dX3_arrive_83 ⟨Nat.le_refl _, Nat.le_refl _⟩) hM (fun H locs hM => ?_)
        refine lv_goto (pc := 86) (tgt := 159) hx hb dX3_arrive_86 (by decide) ?_
        refine lv_aload_n (pc := 159) hx hb dX3_arrive_159 rfl (lv_at hl 1 rfl) ?_
        refine nf_geti (pc := 160) hC hinX0 hM (xS_8 (by first | assumption | omega)) rfl 0 (by decide) (List.mem_cons_of_mem _ wF_X3_95) rfl dX3_arrive_160 ?_
        exact hret _ _ _ _ _ _ _ _ (by rw [xs_arr_s hqt hI1 hM1 hq1 hs1 (by omega)]; simp [xs_aI, hc] <;> rfl) (by rw [xs_arr_s hqt hI1 hM1 hq1 hs1 (by omega)]; simp [xs_aI, hc] <;> rfl) (by rw [xs_arr_s hqt hI1 hM1 hq1 hs1 (by omega)]; simp [xs_aJ, hc] <;> rfl) (by rw [xs_arr_s hqt hI1 hM1 hq1 hs1 (by omega)]) hM dX3_arrive_163
      · refine lv_tableIn (pc := 37) (off := 52) (tgt := 89) hx hb dX3_arrive_37 (by rw [hc]; decide) (by rw [hc]; decide) (by rw [hc]; decide) (by decide) ?_
        refine lv_aload_n (pc := 89) hx hb dX3_arrive_89 rfl (lv_at hl 2 rfl) ?_
        refine lv_aload_n (pc := 90) hx hb dX3_arrive_90 rfl (lv_at hl 0 rfl) ?_
        refine lv_aload_n (pc := 91) hx hb dX3_arrive_91 rfl (lv_at hl 1 rfl) ?_
        refine nf_callv (pc := 92) (va_runV (As := [.ref (ad 5 i2), .ref (ad 8 o)]) (rest := []) hC.1 (ct_X3_foundArrives (i := i2) (o := o) (by first | assumption | omega) (by first | assumption | omega)) (cwV 2 hC.1.2.2.2.2 (gd_V wM_X3_166 wi_X3_foundArrives wsel_X3_foundArrives wini_X3 wcode_X3_foundArrives) rfl rfl rfl (by decide +kernel) ⟨by decide, by decide⟩) (nf_preV hC hM rfl rfl) rfl rfl hl.1 rfl (lv_room (Nat.le_of_ble_eq_true rfl)) dX3_arrive_92 ⟨Nat.le_refl _, Nat.le_refl _⟩) hM (fun H locs hM => ?_)
        refine lv_goto (pc := 95) (tgt := 159) hx hb dX3_arrive_95 (by decide) ?_
        refine lv_aload_n (pc := 159) hx hb dX3_arrive_159 rfl (lv_at hl 1 rfl) ?_
        refine nf_geti (pc := 160) hC hinX0 hM (xS_8 (by first | assumption | omega)) rfl 0 (by decide) (List.mem_cons_of_mem _ wF_X3_95) rfl dX3_arrive_160 ?_
        exact hret _ _ _ _ _ _ _ _ (by rw [xs_arr_s hqt hI1 hM1 hq1 hs1 (by omega)]; simp [xs_aI, hc] <;> rfl) (by rw [xs_arr_s hqt hI1 hM1 hq1 hs1 (by omega)]; simp [xs_aI, hc] <;> rfl) (by rw [xs_arr_s hqt hI1 hM1 hq1 hs1 (by omega)]; simp [xs_aJ, hc] <;> rfl) (by rw [xs_arr_s hqt hI1 hM1 hq1 hs1 (by omega)]) hM dX3_arrive_163
      · refine lv_tableIn (pc := 37) (off := 61) (tgt := 98) hx hb dX3_arrive_37 (by rw [hc]; decide) (by rw [hc]; decide) (by rw [hc]; decide) (by decide) ?_
        refine lv_aload_n (pc := 98) hx hb dX3_arrive_98 rfl (lv_at hl 2 rfl) ?_
        refine lv_aload_n (pc := 99) hx hb dX3_arrive_99 rfl (lv_at hl 0 rfl) ?_
        refine lv_aload_n (pc := 100) hx hb dX3_arrive_100 rfl (lv_at hl 1 rfl) ?_
        refine nf_callv (pc := 101) (va_runV (As := [.ref (ad 5 i2), .ref (ad 8 o)]) (rest := []) hC.1 (ct_X3_storeArrives (i := i2) (o := o) hk1 hkk (by first | assumption | omega) (by first | assumption | omega)) (cwV 2 hC.1.2.2.2.2 (gd_V wM_X3_169 wi_X3_storeArrives wsel_X3_storeArrives wini_X3 wcode_X3_storeArrives) rfl rfl rfl (by decide +kernel) ⟨by decide, by decide⟩) (nf_preV hC hM rfl rfl) rfl rfl hl.1 rfl (lv_room (Nat.le_of_ble_eq_true rfl)) dX3_arrive_101 ⟨Nat.le_refl _, Nat.le_refl _⟩) hM (fun H locs hM => ?_)
        refine lv_goto (pc := 104) (tgt := 159) hx hb dX3_arrive_104 (by decide) ?_
        refine lv_aload_n (pc := 159) hx hb dX3_arrive_159 rfl (lv_at hl 1 rfl) ?_
        refine nf_geti (pc := 160) hC hinX0 hM (xS_8 (by first | assumption | omega)) rfl 0 (by decide) (List.mem_cons_of_mem _ wF_X3_95) rfl dX3_arrive_160 ?_
        exact hret _ _ _ _ _ _ _ _ (by rw [xs_arr_s hqt hI1 hM1 hq1 hs1 (by omega)]; simp [xs_aI, hc] <;> rfl) (by rw [xs_arr_s hqt hI1 hM1 hq1 hs1 (by omega)]; simp [xs_aI, hc] <;> rfl) (by rw [xs_arr_s hqt hI1 hM1 hq1 hs1 (by omega)]; simp [xs_aJ, hc] <;> rfl) (by rw [xs_arr_s hqt hI1 hM1 hq1 hs1 (by omega)]) hM dX3_arrive_163
      · refine lv_tableIn (pc := 37) (off := 70) (tgt := 107) hx hb dX3_arrive_37 (by rw [hc]; decide) (by rw [hc]; decide) (by rw [hc]; decide) (by decide) ?_
        refine lv_aload_n (pc := 107) hx hb dX3_arrive_107 rfl (lv_at hl 2 rfl) ?_
        refine lv_aload_n (pc := 108) hx hb dX3_arrive_108 rfl (lv_at hl 0 rfl) ?_
        refine lv_aload_n (pc := 109) hx hb dX3_arrive_109 rfl (lv_at hl 1 rfl) ?_
        refine nf_callv (pc := 110) (va_runV (As := [.ref (ad 5 i2), .ref (ad 8 o)]) (rest := []) hC.1 (ct_X3_fetchArrives (i := i2) (o := o) (sz := sz - 1) hs1 hsz1 hmp1 hk1 hkk (by first | assumption | omega) (by first | assumption | omega)) (cwV 2 hC.1.2.2.2.2 (gd_V wM_X3_172 wi_X3_fetchArrives wsel_X3_fetchArrives wini_X3 wcode_X3_fetchArrives) rfl rfl rfl (by decide +kernel) ⟨by decide, by decide⟩) (nf_preV hC hM rfl rfl) rfl rfl hl.1 rfl (lv_room (Nat.le_of_ble_eq_true rfl)) dX3_arrive_110 ⟨Nat.le_refl _, Nat.le_refl _⟩) hM (fun H locs hM => ?_)
        refine lv_goto (pc := 113) (tgt := 159) hx hb dX3_arrive_113 (by decide) ?_
        refine lv_aload_n (pc := 159) hx hb dX3_arrive_159 rfl (lv_at hl 1 rfl) ?_
        refine nf_geti (pc := 160) hC hinX0 hM (xS_8 (by first | assumption | omega)) rfl 0 (by decide) (List.mem_cons_of_mem _ wF_X3_95) rfl dX3_arrive_160 ?_
        exact hret _ _ _ _ _ _ _ _ (by rw [xs_arr_s hqt hI1 hM1 hq1 hs1 (by omega)]; simp [xs_aI, hc] <;> rfl) (by rw [xs_arr_s hqt hI1 hM1 hq1 hs1 (by omega)]; simp [xs_aI, hc] <;> rfl) (by rw [xs_arr_s hqt hI1 hM1 hq1 hs1 (by omega)]; simp [xs_aJ, hc] <;> rfl) (by rw [xs_arr_s hqt hI1 hM1 hq1 hs1 (by omega)]) hM dX3_arrive_163
      · refine lv_tableIn (pc := 37) (off := 79) (tgt := 116) hx hb dX3_arrive_37 (by rw [hc]; decide) (by rw [hc]; decide) (by rw [hc]; decide) (by decide) ?_
        refine lv_aload_n (pc := 116) hx hb dX3_arrive_116 rfl (lv_at hl 0 rfl) ?_
        refine lv_aload_n (pc := 117) hx hb dX3_arrive_117 rfl (lv_at hl 1 rfl) ?_
        refine nf_getl (pc := 118) hC hinX0 hM (xS_8 (by first | assumption | omega)) rfl 8 (by decide) (List.mem_cons_of_mem _ wF_X3_80) rfl dX3_arrive_118 ?_
        refine nf_putl (pc := 121) hC hinX1 tyX1 tyX1_ok nmX1 hM (xS_5 (by first | assumption | omega)) rfl 5 (by decide) (List.mem_cons_of_mem _ wF_X3_119) rfl (by decide +kernel) rfl dX3_arrive_121 (fun H locs hM => ?_)
        refine lv_aload_n (pc := 124) hx hb dX3_arrive_124 rfl (lv_at hl 0 rfl) ?_
        refine lv_aload_n (pc := 125) hx hb dX3_arrive_125 rfl (lv_at hl 1 rfl) ?_
        refine nf_geti (pc := 126) hC hinX0 hM (xS_8 (by first | assumption | omega)) rfl 7 (by decide) (List.mem_cons_of_mem _ wF_X3_175) rfl dX3_arrive_126 ?_
        refine nf_puti (pc := 129) hC hinX1 tyX1 tyX1_ok nmX1 hM (xS_5 (by first | assumption | omega)) rfl 6 (by decide) (List.mem_cons_of_mem _ wF_X3_122) rfl (by decide +kernel) rfl dX3_arrive_129 (fun H locs hM => ?_)
        refine lv_goto (pc := 132) (tgt := 159) hx hb dX3_arrive_132 (by decide) ?_
        refine lv_aload_n (pc := 159) hx hb dX3_arrive_159 rfl (lv_at hl 1 rfl) ?_
        refine nf_geti (pc := 160) hC hinX0 hM (xS_8 (by first | assumption | omega)) rfl 0 (by decide) (List.mem_cons_of_mem _ wF_X3_95) rfl dX3_arrive_160 ?_
        exact hret _ _ _ _ _ _ _ _ (by rw [xs_arr_s hqt hI1 hM1 hq1 hs1 (by omega)]; simp [xs_aI, hc] <;> rfl) (by rw [xs_arr_s hqt hI1 hM1 hq1 hs1 (by omega)]; simp [xs_aI, hc] <;> rfl) (by rw [xs_arr_s hqt hI1 hM1 hq1 hs1 (by omega)]; simp [xs_aJ, hc] <;> rfl) (by rw [xs_arr_s hqt hI1 hM1 hq1 hs1 (by omega)]) hM dX3_arrive_163
      · refine lv_tableIn (pc := 37) (off := 98) (tgt := 135) hx hb dX3_arrive_37 (by rw [hc]; decide) (by rw [hc]; decide) (by rw [hc]; decide) (by decide) ?_
        refine lv_aload_n (pc := 135) hx hb dX3_arrive_135 rfl (lv_at hl 2 rfl) ?_
        refine lv_aload_n (pc := 136) hx hb dX3_arrive_136 rfl (lv_at hl 0 rfl) ?_
        refine lv_aload_n (pc := 137) hx hb dX3_arrive_137 rfl (lv_at hl 1 rfl) ?_
        refine nf_callv (pc := 138) (va_runV (As := [.ref (ad 5 i2), .ref (ad 8 o)]) (rest := []) hC.1 (ct_X3_askArrives (i := i2) (o := o) (sz := sz - 1) hs1 hsz1 hmp1 (by first | assumption | omega) (by first | assumption | omega)) (cwV 2 hC.1.2.2.2.2 (gd_V wM_X3_176 wi_X3_askArrives wsel_X3_askArrives wini_X3 wcode_X3_askArrives) rfl rfl rfl (by decide +kernel) ⟨by decide, by decide⟩) (nf_preV hC hM rfl rfl) rfl rfl hl.1 rfl (lv_room (Nat.le_of_ble_eq_true rfl)) dX3_arrive_138 ⟨Nat.le_refl _, Nat.le_refl _⟩) hM (fun H locs hM => ?_)
        refine lv_goto (pc := 141) (tgt := 159) hx hb dX3_arrive_141 (by decide) ?_
        refine lv_aload_n (pc := 159) hx hb dX3_arrive_159 rfl (lv_at hl 1 rfl) ?_
        refine nf_geti (pc := 160) hC hinX0 hM (xS_8 (by first | assumption | omega)) rfl 0 (by decide) (List.mem_cons_of_mem _ wF_X3_95) rfl dX3_arrive_160 ?_
        exact hret _ _ _ _ _ _ _ _ (by rw [xs_arr_s hqt hI1 hM1 hq1 hs1 (by omega)]; simp [xs_aI, hc] <;> rfl) (by rw [xs_arr_s hqt hI1 hM1 hq1 hs1 (by omega)]; simp [xs_aI, hc] <;> rfl) (by rw [xs_arr_s hqt hI1 hM1 hq1 hs1 (by omega)]; simp [xs_aJ, hc] <;> rfl) (by rw [xs_arr_s hqt hI1 hM1 hq1 hs1 (by omega)]) hM dX3_arrive_163
      · refine lv_tableIn (pc := 37) (off := 107) (tgt := 144) hx hb dX3_arrive_37 (by rw [hc]; decide) (by rw [hc]; decide) (by rw [hc]; decide) (by decide) ?_
        refine lv_aload_n (pc := 144) hx hb dX3_arrive_144 rfl (lv_at hl 2 rfl) ?_
        refine lv_aload_n (pc := 145) hx hb dX3_arrive_145 rfl (lv_at hl 0 rfl) ?_
        refine lv_aload_n (pc := 146) hx hb dX3_arrive_146 rfl (lv_at hl 1 rfl) ?_
        refine nf_callv (pc := 147) (va_runV (As := [.ref (ad 5 i2), .ref (ad 8 o)]) (rest := []) hC.1 (ct_X3_tellArrives (i := i2) (o := o) (sz := sz - 1) hs1 hsz1 hmp1 (by first | assumption | omega) (by first | assumption | omega)) (cwV 2 hC.1.2.2.2.2 (gd_V wM_X3_179 wi_X3_tellArrives wsel_X3_tellArrives wini_X3 wcode_X3_tellArrives) rfl rfl rfl (by decide +kernel) ⟨by decide, by decide⟩) (nf_preV hC hM rfl rfl) rfl rfl hl.1 rfl (lv_room (Nat.le_of_ble_eq_true rfl)) dX3_arrive_147 ⟨Nat.le_refl _, Nat.le_refl _⟩) hM (fun H locs hM => ?_)
        refine lv_goto (pc := 150) (tgt := 159) hx hb dX3_arrive_150 (by decide) ?_
        refine lv_aload_n (pc := 159) hx hb dX3_arrive_159 rfl (lv_at hl 1 rfl) ?_
        refine nf_geti (pc := 160) hC hinX0 hM (xS_8 (by first | assumption | omega)) rfl 0 (by decide) (List.mem_cons_of_mem _ wF_X3_95) rfl dX3_arrive_160 ?_
        exact hret _ _ _ _ _ _ _ _ (by rw [xs_arr_s hqt hI1 hM1 hq1 hs1 (by omega)]; simp [xs_aI, hc] <;> rfl) (by rw [xs_arr_s hqt hI1 hM1 hq1 hs1 (by omega)]; simp [xs_aI, hc] <;> rfl) (by rw [xs_arr_s hqt hI1 hM1 hq1 hs1 (by omega)]; simp [xs_aJ, hc] <;> rfl) (by rw [xs_arr_s hqt hI1 hM1 hq1 hs1 (by omega)]) hM dX3_arrive_163
      · refine lv_tableOut (pc := 37) (tgt := 153) hx hb dX3_arrive_37 hc (by decide) ?_
        refine lv_aload_n (pc := 153) hx hb dX3_arrive_153 rfl (lv_at hl 2 rfl) ?_
        refine lv_aload_n (pc := 154) hx hb dX3_arrive_154 rfl (lv_at hl 0 rfl) ?_
        refine lv_aload_n (pc := 155) hx hb dX3_arrive_155 rfl (lv_at hl 1 rfl) ?_
        refine nf_callv (pc := 156) (va_runV (As := [.ref (ad 5 i2), .ref (ad 8 o)]) (rest := []) hC.1 (ct_X3_notifyArrives (i := i2) (o := o) hn1 hnn hk1 hkk (by first | assumption | omega) (by first | assumption | omega)) (cwV 2 hC.1.2.2.2.2 (gd_V wM_X3_182 wi_X3_notifyArrives wsel_X3_notifyArrives wini_X3 wcode_X3_notifyArrives) rfl rfl rfl (by decide +kernel) ⟨by decide, by decide⟩) (nf_preV hC hM rfl rfl) rfl rfl hl.1 rfl (lv_room (Nat.le_of_ble_eq_true rfl)) dX3_arrive_156 ⟨Nat.le_refl _, Nat.le_refl _⟩) hM (fun H locs hM => ?_)
        refine lv_aload_n (pc := 159) hx hb dX3_arrive_159 rfl (lv_at hl 1 rfl) ?_
        refine nf_geti (pc := 160) hC hinX0 hM (xS_8 (by first | assumption | omega)) rfl 0 (by decide) (List.mem_cons_of_mem _ wF_X3_95) rfl dX3_arrive_160 ?_
        exact hret _ _ _ _ _ _ _ _ (by rw [xs_arr_s hqt hI1 hM1 hq1 hs1 (by omega)]; simp [xs_aI, hc1, hc2, hc3, hc4, hc5, hc6, hc7] <;> rfl) (by rw [xs_arr_s hqt hI1 hM1 hq1 hs1 (by omega)]; simp [xs_aI, hc1, hc2, hc3, hc4, hc5, hc6, hc7] <;> rfl) (by rw [xs_arr_s hqt hI1 hM1 hq1 hs1 (by omega)]; simp [xs_aJ, hc1, hc2, hc3, hc4, hc5, hc6, hc7] <;> rfl) (by rw [xs_arr_s hqt hI1 hM1 hq1 hs1 (by omega)]) hM dX3_arrive_163
set_option maxHeartbeats 4000000 in
set_option maxRecDepth 100000 in
theorem ct_X3_deliver {k : Int32} (hn : I 0 0 1 = nI nn) (hnn : nn ≤ 12) (hk : I 0 0 3 = nI kc) (hkk : kc ≤ 10) (hs : I 3 0 1 = nI sz) (hsz : sz ≤ 20) (hmp : ∀ j, j < 21 → mp j < 21) : nf_Ti l yX3_deliver wsX3_deliver 6 135 D vwCl (xT cs) Bs (xS cs nn) ad [.ref (ad 0 0), .int k] I J (xP nn mp) ((xs_arr I J mp nn kc k).1) ((xs_arr I J mp nn kc k).2.1) ((xs_arr I J mp nn kc k).2.2.1) (xP nn (xs_arr I J mp nn kc k).2.2.2) := by
  refine nf_enteri (cc := cX3_deliver) (maxL := 2) (by decide) rfl (Nat.le_of_ble_eq_true rfl) ?_
  intro p e s m below meth c ls Q hC hM hl hret
  have hx := hC.1.1
  have hb := hC.1.2.1
  have hl : lv_has ls 2 [(0, .ref (ad 0 0)), (1, .int k)] := hl
  refine lv_aload_n (pc := 0) hx hb dX3_deliver_0 rfl (lv_at hl 0 rfl) ?_
  refine lv_iload_n (pc := 1) hx hb dX3_deliver_1 rfl (lv_at hl 1 rfl) ?_
  refine nf_calli (pc := 2) (va_runV (As := [.int k]) (rest := []) hC.1 (ct_X3_arrive (k := k) hn hnn hk hkk hs hsz hmp) (cwV 1 hC.1.2.2.2.2 (gd_V wM_X3_84 wi_X3_arrive wsel_X3_arrive wini_X3 wcode_X3_arrive) rfl rfl rfl (by decide +kernel) ⟨by decide, by decide⟩) (nf_preV hC hM rfl rfl) rfl rfl hl.1 rfl (lv_room (Nat.le_of_ble_eq_true rfl)) dX3_deliver_2 ⟨Nat.le_refl _, Nat.le_refl _⟩) hM (fun H locs hM => ?_)
  exact hret _ _ _ _ _ _ _ _ rfl rfl rfl rfl hM dX3_deliver_5
end XD
