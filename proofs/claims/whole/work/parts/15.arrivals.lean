/-! What each kind of message does when it arrives. -/
section XB
variable {l : Launch} {D : va_G} {cs : Nat → ClassId} {Bs nn sz kc : Nat} {ad : nf_A} {I : nf_I} {J : nf_J} {mp : Nat → Nat}
set_option maxHeartbeats 4000000 in
set_option maxRecDepth 100000 in
theorem ct_X3_foundArrives {i o : Nat} (hi : i < nn) (ho : o < 21) : nf_Tv l yX3_foundArrives wsX3_foundArrives 1 20 D vwCl (xT cs) Bs (xS cs nn) ad [.ref (ad 0 0), .ref (ad 5 i), .ref (ad 8 o)] I J (xP nn mp) (xs_foI I i o) J (xP nn mp) := by
  refine nf_enterv (cc := cX3_foundArrives) (maxL := 3) (by decide) rfl (Nat.le_of_ble_eq_true rfl) ?_
  intro p e s m below meth c ls Q hC hM hl hret
  have hx := hC.1.1
  have hb := hC.1.2.1
  have hl : lv_has ls 3 [(0, .ref (ad 0 0)), (1, .ref (ad 5 i)), (2, .ref (ad 8 o))] := hl
  have hinX0 : ∀ w ∈ u_ws RX0 TX0 9, w ∈ wsX3_foundArrives := fun w h => List.mem_cons_of_mem _ (inX0 w h)
  have hinX1 : ∀ w ∈ u_ws RX1 TX1 7, w ∈ wsX3_foundArrives := fun w h => List.mem_cons_of_mem _ (inX1 w h)
  refine lv_aload_n (pc := 0) hx hb dX3_foundArrives_0 rfl (lv_at hl 2 rfl) ?_
  refine nf_geti (pc := 1) hC hinX0 hM (xS_8 (by first | assumption | omega)) rfl 3 (by decide) (List.mem_cons_of_mem _ wF_X3_153) rfl dX3_foundArrives_1 ?_
  refine lv_iconst (pc := 4) (v := 1) hx hb dX3_foundArrives_4 (by decide) ?_
  refine lv_icmp_ne (pc := 5) (tgt := 19) hx hb dX3_foundArrives_5 (by decide) (fun h1 => ?_) (fun h1 => ?_)
  · skip
    refine lv_aload_n (pc := 19) hx hb dX3_foundArrives_19 rfl (lv_at hl 2 rfl) ?_
    refine nf_geti (pc := 20) hC hinX0 hM (xS_8 (by first | assumption | omega)) rfl 5 (by decide) (List.mem_cons_of_mem _ wF_X3_74) rfl dX3_foundArrives_20 ?_
    refine nf_calli (pc := 23) (va_runS (As := [.int (I 8 o 5)]) (rest := []) hC.1 (ct_X3_isFinger) (cwS 1 hC.1.2.2.2.2 (gd_S wM_X3_67 wst_X3_isFinger wini_X3 wcode_X3_isFinger) rfl rfl rfl (by decide +kernel) ⟨by decide, by decide⟩) (nf_preS hC hM) rfl rfl hl.1 rfl (lv_room (Nat.le_of_ble_eq_true rfl)) dX3_foundArrives_23 ⟨Nat.le_refl _, Nat.le_refl _⟩) hM (fun H locs hM => ?_)
    refine lv_if_eq (pc := 26) (tgt := 42) hx hb dX3_foundArrives_26 (by decide) (fun h2 => ?_) (fun h2 => ?_)
    · have h2 := nb_0 h2
      refine lv_aload_n (pc := 42) hx hb dX3_foundArrives_42 rfl (lv_at hl 1 rfl) ?_
      refine lv_aload_n (pc := 43) hx hb dX3_foundArrives_43 rfl (lv_at hl 2 rfl) ?_
      refine nf_geti (pc := 44) hC hinX0 hM (xS_8 (by first | assumption | omega)) rfl 7 (by decide) (List.mem_cons_of_mem _ wF_X3_175) rfl dX3_foundArrives_44 ?_
      refine nf_puti (pc := 47) hC hinX1 tyX1 tyX1_ok nmX1 hM (xS_5 (by first | assumption | omega)) rfl 6 (by decide) (List.mem_cons_of_mem _ wF_X3_122) rfl (by decide +kernel) rfl dX3_foundArrives_47 (fun H locs hM => ?_)
      exact hret _ _ _ _ _ _ _ (by simp [xs_foI, xs_fo1, h1, h2] <;> rfl) rfl rfl hM dX3_foundArrives_50
    · have h2 := nb_1 h2
      obtain ⟨fn, hfn, hfe⟩ := xs_isFinger_ix h2
      refine lv_aload_n (pc := 29) hx hb dX3_foundArrives_29 rfl (lv_at hl 1 rfl) ?_
      refine nf_getr (pc := 30) hC hinX1 hM (xS_5 (by first | assumption | omega)) rfl 3 (by decide) (List.mem_cons_of_mem _ wF_X3_104) rfl dX3_foundArrives_30 ?_
      refine lv_aload_n (pc := 33) hx hb dX3_foundArrives_33 rfl (lv_at hl 2 rfl) ?_
      refine nf_geti (pc := 34) hC hinX0 hM (xS_8 (by first | assumption | omega)) rfl 5 (by decide) (List.mem_cons_of_mem _ wF_X3_74) rfl dX3_foundArrives_34 ?_
      refine lv_aload_n (pc := 37) hx hb dX3_foundArrives_37 rfl (lv_at hl 2 rfl) ?_
      refine nf_geti (pc := 38) hC hinX0 hM (xS_8 (by first | assumption | omega)) rfl 6 (by decide) (List.mem_cons_of_mem _ wF_X3_62) rfl dX3_foundArrives_38 ?_
      refine nf_iast (pc := 41) hC hM 0 (xS_6 (by first | assumption | omega)) rfl fn hfe (by omega) (by decide) dX3_foundArrives_41 (fun H locs hM => ?_)
      refine lv_aload_n (pc := 42) hx hb dX3_foundArrives_42 rfl (lv_at hl 1 rfl) ?_
      refine lv_aload_n (pc := 43) hx hb dX3_foundArrives_43 rfl (lv_at hl 2 rfl) ?_
      refine nf_geti (pc := 44) hC hinX0 hM (xS_8 (by first | assumption | omega)) rfl 7 (by decide) (List.mem_cons_of_mem _ wF_X3_175) rfl dX3_foundArrives_44 ?_
      refine nf_puti (pc := 47) hC hinX1 tyX1 tyX1_ok nmX1 hM (xS_5 (by first | assumption | omega)) rfl 6 (by decide) (List.mem_cons_of_mem _ wF_X3_122) rfl (by decide +kernel) rfl dX3_foundArrives_47 (fun H locs hM => ?_)
      exact hret _ _ _ _ _ _ _ (by rw [xs_foI, xs_fo1, if_neg h1, if_neg (by rw [h2]; decide), hfe, nI_clamp (by omega)]) rfl rfl hM dX3_foundArrives_50
  · skip
    refine lv_aload_n (pc := 8) hx hb dX3_foundArrives_8 rfl (lv_at hl 1 rfl) ?_
    refine lv_aload_n (pc := 9) hx hb dX3_foundArrives_9 rfl (lv_at hl 2 rfl) ?_
    refine nf_geti (pc := 10) hC hinX0 hM (xS_8 (by first | assumption | omega)) rfl 6 (by decide) (List.mem_cons_of_mem _ wF_X3_62) rfl dX3_foundArrives_10 ?_
    refine nf_puti (pc := 13) hC hinX1 tyX1 tyX1_ok nmX1 hM (xS_5 (by first | assumption | omega)) rfl 1 (by decide) (List.mem_cons_of_mem _ wF_X3_41) rfl (by decide +kernel) rfl dX3_foundArrives_13 (fun H locs hM => ?_)
    refine lv_goto (pc := 16) (tgt := 42) hx hb dX3_foundArrives_16 (by decide) ?_
    refine lv_aload_n (pc := 42) hx hb dX3_foundArrives_42 rfl (lv_at hl 1 rfl) ?_
    refine lv_aload_n (pc := 43) hx hb dX3_foundArrives_43 rfl (lv_at hl 2 rfl) ?_
    refine nf_geti (pc := 44) hC hinX0 hM (xS_8 (by first | assumption | omega)) rfl 7 (by decide) (List.mem_cons_of_mem _ wF_X3_175) rfl dX3_foundArrives_44 ?_
    refine nf_puti (pc := 47) hC hinX1 tyX1 tyX1_ok nmX1 hM (xS_5 (by first | assumption | omega)) rfl 6 (by decide) (List.mem_cons_of_mem _ wF_X3_122) rfl (by decide +kernel) rfl dX3_foundArrives_47 (fun H locs hM => ?_)
    exact hret _ _ _ _ _ _ _ (by simp [xs_foI, xs_fo1, h1] <;> rfl) rfl rfl hM dX3_foundArrives_50
set_option maxHeartbeats 4000000 in
set_option maxRecDepth 100000 in
theorem ct_X3_storeArrives {i o : Nat} (hk : I 0 0 3 = nI kc) (hkk : kc ≤ 10) (hi : i < nn) (ho : o < 21) : nf_Tv l yX3_storeArrives wsX3_storeArrives 1 22 D vwCl (xT cs) Bs (xS cs nn) ad [.ref (ad 0 0), .ref (ad 5 i), .ref (ad 8 o)] I J (xP nn mp) I (xs_stJ I J kc i o) (xP nn mp) := by
  refine nf_enterv (cc := cX3_storeArrives) (maxL := 4) (by decide) rfl (Nat.le_of_ble_eq_true rfl) ?_
  intro p e s m below meth c ls Q hC hM hl hret
  have hx := hC.1.1
  have hb := hC.1.2.1
  have hl : lv_has ls 4 [(0, .ref (ad 0 0)), (1, .ref (ad 5 i)), (2, .ref (ad 8 o))] := hl
  have hinX0 : ∀ w ∈ u_ws RX0 TX0 9, w ∈ wsX3_storeArrives := fun w h => List.mem_cons_of_mem _ (inX0 w h)
  have hinX1 : ∀ w ∈ u_ws RX1 TX1 7, w ∈ wsX3_storeArrives := fun w h => List.mem_cons_of_mem _ (inX1 w h)
  refine lv_aload_n (pc := 0) hx hb dX3_storeArrives_0 rfl (lv_at hl 0 rfl) ?_
  refine lv_aload_n (pc := 1) hx hb dX3_storeArrives_1 rfl (lv_at hl 2 rfl) ?_
  refine nf_geti (pc := 2) hC hinX0 hM (xS_8 (by first | assumption | omega)) rfl 4 (by decide) (List.mem_cons_of_mem _ wF_X3_156) rfl dX3_storeArrives_2 ?_
  refine nf_calli (pc := 5) (va_runV (As := [.int (I 8 o 4)]) (rest := []) hC.1 (ct_X3_slotOf (key := (I 8 o 4)) hk hkk) (cwV 1 hC.1.2.2.2.2 (gd_V wM_X3_147 wi_X3_slotOf wsel_X3_slotOf wini_X3 wcode_X3_slotOf) rfl rfl rfl (by decide +kernel) ⟨by decide, by decide⟩) (nf_preV hC hM rfl rfl) rfl rfl hl.1 rfl (lv_room (Nat.le_of_ble_eq_true rfl)) dX3_storeArrives_5 ⟨Nat.le_refl _, Nat.le_refl _⟩) hM (fun H locs hM => ?_)
  refine lv_istore_n (pc := 8) (lv' := [(3, .int (xs_slot I kc (I 8 o 4))), (0, .ref (ad 0 0)), (1, .ref (ad 5 i)), (2, .ref (ad 8 o))]) hx hb dX3_storeArrives_8 rfl hl (by decide) rfl (fun ls hl => ?_)
  refine lv_iload_n (pc := 9) hx hb dX3_storeArrives_9 rfl (lv_at hl 0 rfl) ?_
  refine lv_iconst (pc := 10) (v := -1) hx hb dX3_storeArrives_10 (by decide) ?_
  refine lv_icmp_eq (pc := 11) (tgt := 24) hx hb dX3_storeArrives_11 (by decide) (fun h1 => ?_) (fun h1 => ?_)
  · skip
    exact hret _ _ _ _ _ _ _ rfl (by simp [xs_stJ, h1]) rfl hM dX3_storeArrives_24
  · skip
    obtain ⟨sl, hsl, hse, -⟩ := (xs_slot_c I kc (I 8 o 4)).resolve_left h1
    refine lv_aload_n (pc := 14) hx hb dX3_storeArrives_14 rfl (lv_at hl 2 rfl) ?_
    refine nf_getr (pc := 15) hC hinX1 hM (xS_5 (by first | assumption | omega)) rfl 4 (by decide) (List.mem_cons_of_mem _ wF_X3_113) rfl dX3_storeArrives_15 ?_
    refine lv_iload_n (pc := 18) hx hb dX3_storeArrives_18 rfl (lv_at hl 0 rfl) ?_
    refine lv_aload_n (pc := 19) hx hb dX3_storeArrives_19 rfl (lv_at hl 3 rfl) ?_
    refine nf_getl (pc := 20) hC hinX0 hM (xS_8 (by first | assumption | omega)) rfl 8 (by decide) (List.mem_cons_of_mem _ wF_X3_80) rfl dX3_storeArrives_20 ?_
    refine nf_last (pc := 23) hC hM 1 (xS_7 (by first | assumption | omega)) rfl sl hse (by omega) (by decide) dX3_storeArrives_23 (fun H locs hM => ?_)
    exact hret _ _ _ _ _ _ _ rfl (by rw [xs_stJ, if_neg h1, hse, nI_clamp (by omega)]) rfl hM dX3_storeArrives_24
set_option maxHeartbeats 4000000 in
set_option maxRecDepth 100000 in
theorem ct_X3_fetchArrives {i o : Nat} (hs : I 3 0 1 = nI sz) (hsz : sz < 20) (hmp : ∀ j, j < 21 → mp j < 21) (hk : I 0 0 3 = nI kc) (hkk : kc ≤ 10) (hi : i < nn) (ho : o < 21) : nf_Tv l yX3_fetchArrives wsX3_fetchArrives 2 45 D vwCl (xT cs) Bs (xS cs nn) ad [.ref (ad 0 0), .ref (ad 5 i), .ref (ad 8 o)] I J (xP nn mp) (xs_feI I o (mp sz)) (xs_feJ I J kc i o (mp sz)) (xP nn mp) := by
  refine nf_enterv (cc := cX3_fetchArrives) (maxL := 4) (by decide) rfl (Nat.le_of_ble_eq_true rfl) ?_
  intro p e s m below meth c ls Q hC hM hl hret
  have hx := hC.1.1
  have hb := hC.1.2.1
  have hl : lv_has ls 4 [(0, .ref (ad 0 0)), (1, .ref (ad 5 i)), (2, .ref (ad 8 o))] := hl
  have hinX0 : ∀ w ∈ u_ws RX0 TX0 9, w ∈ wsX3_fetchArrives := fun w h => List.mem_cons_of_mem _ (inX0 w h)
  have hinX3 : ∀ w ∈ u_ws RX3 TX3 5, w ∈ wsX3_fetchArrives := fun w h => List.mem_cons_of_mem _ (inX3 w h)
  have hon := hmp sz (by omega)
  refine lv_aload_n (pc := 0) hx hb dX3_fetchArrives_0 rfl (lv_at hl 0 rfl) ?_
  refine nf_getr (pc := 1) hC hinX3 hM rfl rfl 4 (by decide) (List.mem_cons_of_mem _ wF_X3_29) rfl dX3_fetchArrives_1 ?_
  refine lv_iconst (pc := 4) (v := 5) hx hb dX3_fetchArrives_4 (by decide) ?_
  refine lv_aload_n (pc := 5) hx hb dX3_fetchArrives_5 rfl (lv_at hl 2 rfl) ?_
  refine nf_geti (pc := 6) hC hinX0 hM (xS_8 (by first | assumption | omega)) rfl 2 (by decide) (List.mem_cons_of_mem _ wF_X3_150) rfl dX3_fetchArrives_6 ?_
  refine nf_callq (pc := 9) (va_runV (As := [.int 5, .int (I 8 o 2)]) (rest := []) hC.1 (ct_X2_send (kd := 5) (tz := (I 8 o 2)) (sz := sz) hs hsz hmp) (cwV 2 hC.1.2.2.2.2 (gd_V wM_X3_58 wi_X2_send wsel_X2_send wini_X2 wcode_X2_send) rfl rfl rfl (by decide +kernel) ⟨by decide, by decide⟩) (nf_preV hC hM rfl rfl) rfl rfl hl.1 rfl (lv_room (Nat.le_of_ble_eq_true rfl)) dX3_fetchArrives_9 ⟨Nat.le_refl _, Nat.le_refl _⟩) hM (fun H locs hM => ?_)
  refine W.eq (g2 := F0 m 12 ls [.ref (ad 8 (mp sz))]) rfl ?_
  refine lv_astore_n (pc := 12) (lv' := [(3, .ref (ad 8 (mp sz))), (0, .ref (ad 0 0)), (1, .ref (ad 5 i)), (2, .ref (ad 8 o))]) hx hb dX3_fetchArrives_12 rfl hl (by decide) rfl (fun ls hl => ?_)
  refine lv_aload_n (pc := 13) hx hb dX3_fetchArrives_13 rfl (lv_at hl 0 rfl) ?_
  refine lv_aload_n (pc := 14) hx hb dX3_fetchArrives_14 rfl (lv_at hl 1 rfl) ?_
  refine lv_aload_n (pc := 15) hx hb dX3_fetchArrives_15 rfl (lv_at hl 2 rfl) ?_
  refine lv_aload_n (pc := 16) hx hb dX3_fetchArrives_16 rfl (lv_at hl 3 rfl) ?_
  refine nf_geti (pc := 17) hC hinX0 hM (xS_8 (by first | assumption | omega)) rfl 4 (by decide) (List.mem_cons_of_mem _ wF_X3_156) rfl dX3_fetchArrives_17 ?_
  refine nf_calll (pc := 20) (va_runV (As := [.ref (ad 5 i), .int ((xs_sI I (mp sz) 5 (I 8 o 2)) 8 o 4)]) (rest := [.ref (ad 8 (mp sz))]) hC.1 (ct_X3_valueAt (i := i) (key := ((xs_sI I (mp sz) 5 (I 8 o 2)) 8 o 4)) (by simpa [xs_sI, nf_iu] using hk) hkk (by first | assumption | omega)) (cwV 2 hC.1.2.2.2.2 (gd_V wM_X3_109 wi_X3_valueAt wsel_X3_valueAt wini_X3 wcode_X3_valueAt) rfl rfl rfl (by decide +kernel) ⟨by decide, by decide⟩) (nf_preV hC hM rfl rfl) rfl rfl hl.1 rfl (lv_room (Nat.le_of_ble_eq_true rfl)) dX3_fetchArrives_20 ⟨Nat.le_refl _, Nat.le_refl _⟩) hM (fun H locs hM => ?_)
  refine nf_putl (pc := 23) hC hinX0 tyX0 tyX0_ok nmX0 hM (xS_8 (by first | assumption | omega)) rfl 8 (by decide) (List.mem_cons_of_mem _ wF_X3_80) rfl (by decide +kernel) rfl dX3_fetchArrives_23 (fun H locs hM => ?_)
  refine lv_aload_n (pc := 26) hx hb dX3_fetchArrives_26 rfl (lv_at hl 0 rfl) ?_
  refine lv_aload_n (pc := 27) hx hb dX3_fetchArrives_27 rfl (lv_at hl 3 rfl) ?_
  refine nf_geti (pc := 28) hC hinX0 hM (xS_8 (by first | assumption | omega)) rfl 7 (by decide) (List.mem_cons_of_mem _ wF_X3_175) rfl dX3_fetchArrives_28 ?_
  refine nf_puti (pc := 31) hC hinX0 tyX0 tyX0_ok nmX0 hM (xS_8 (by first | assumption | omega)) rfl 7 (by decide) (List.mem_cons_of_mem _ wF_X3_175) rfl (by decide +kernel) rfl dX3_fetchArrives_31 (fun H locs hM => ?_)
  exact hret _ _ _ _ _ _ _ rfl rfl rfl hM dX3_fetchArrives_34
set_option maxHeartbeats 4000000 in
set_option maxRecDepth 100000 in
theorem ct_X3_askArrives {i o : Nat} (hs : I 3 0 1 = nI sz) (hsz : sz < 20) (hmp : ∀ j, j < 21 → mp j < 21) (hi : i < nn) (ho : o < 21) : nf_Tv l yX3_askArrives wsX3_askArrives 1 23 D vwCl (xT cs) Bs (xS cs nn) ad [.ref (ad 0 0), .ref (ad 5 i), .ref (ad 8 o)] I J (xP nn mp) (xs_asI I i o (mp sz)) (xs_sJ J (mp sz)) (xP nn mp) := by
  refine nf_enterv (cc := cX3_askArrives) (maxL := 4) (by decide) rfl (Nat.le_of_ble_eq_true rfl) ?_
  intro p e s m below meth c ls Q hC hM hl hret
  have hx := hC.1.1
  have hb := hC.1.2.1
  have hl : lv_has ls 4 [(0, .ref (ad 0 0)), (1, .ref (ad 5 i)), (2, .ref (ad 8 o))] := hl
  have hinX0 : ∀ w ∈ u_ws RX0 TX0 9, w ∈ wsX3_askArrives := fun w h => List.mem_cons_of_mem _ (inX0 w h)
  have hinX1 : ∀ w ∈ u_ws RX1 TX1 7, w ∈ wsX3_askArrives := fun w h => List.mem_cons_of_mem _ (inX1 w h)
  have hinX3 : ∀ w ∈ u_ws RX3 TX3 5, w ∈ wsX3_askArrives := fun w h => List.mem_cons_of_mem _ (inX3 w h)
  have hon := hmp sz (by omega)
  refine lv_aload_n (pc := 0) hx hb dX3_askArrives_0 rfl (lv_at hl 0 rfl) ?_
  refine nf_getr (pc := 1) hC hinX3 hM rfl rfl 4 (by decide) (List.mem_cons_of_mem _ wF_X3_29) rfl dX3_askArrives_1 ?_
  refine lv_bipush (pc := 4) (v := 7) hx hb dX3_askArrives_4 (by decide) ?_
  refine lv_aload_n (pc := 6) hx hb dX3_askArrives_6 rfl (lv_at hl 2 rfl) ?_
  refine nf_geti (pc := 7) hC hinX0 hM (xS_8 (by first | assumption | omega)) rfl 6 (by decide) (List.mem_cons_of_mem _ wF_X3_62) rfl dX3_askArrives_7 ?_
  refine nf_callq (pc := 10) (va_runV (As := [.int 7, .int (I 8 o 6)]) (rest := []) hC.1 (ct_X2_send (kd := 7) (tz := (I 8 o 6)) (sz := sz) hs hsz hmp) (cwV 2 hC.1.2.2.2.2 (gd_V wM_X3_58 wi_X2_send wsel_X2_send wini_X2 wcode_X2_send) rfl rfl rfl (by decide +kernel) ⟨by decide, by decide⟩) (nf_preV hC hM rfl rfl) rfl rfl hl.1 rfl (lv_room (Nat.le_of_ble_eq_true rfl)) dX3_askArrives_10 ⟨Nat.le_refl _, Nat.le_refl _⟩) hM (fun H locs hM => ?_)
  refine W.eq (g2 := F0 m 13 ls [.ref (ad 8 (mp sz))]) rfl ?_
  refine lv_astore_n (pc := 13) (lv' := [(3, .ref (ad 8 (mp sz))), (0, .ref (ad 0 0)), (1, .ref (ad 5 i)), (2, .ref (ad 8 o))]) hx hb dX3_askArrives_13 rfl hl (by decide) rfl (fun ls hl => ?_)
  refine lv_aload_n (pc := 14) hx hb dX3_askArrives_14 rfl (lv_at hl 0 rfl) ?_
  refine lv_aload_n (pc := 15) hx hb dX3_askArrives_15 rfl (lv_at hl 2 rfl) ?_
  refine nf_geti (pc := 16) hC hinX1 hM (xS_5 (by first | assumption | omega)) rfl 2 (by decide) (List.mem_cons_of_mem _ wF_X3_101) rfl dX3_askArrives_16 ?_
  refine nf_puti (pc := 19) hC hinX0 tyX0 tyX0_ok nmX0 hM (xS_8 (by first | assumption | omega)) rfl 6 (by decide) (List.mem_cons_of_mem _ wF_X3_62) rfl (by decide +kernel) rfl dX3_askArrives_19 (fun H locs hM => ?_)
  exact hret _ _ _ _ _ _ _ rfl rfl rfl hM dX3_askArrives_22
set_option maxHeartbeats 4000000 in
set_option maxRecDepth 100000 in
theorem ct_X3_tellArrives {i o : Nat} (hs : I 3 0 1 = nI sz) (hsz : sz < 20) (hmp : ∀ j, j < 21 → mp j < 21) (hi : i < nn) (ho : o < 21) : nf_Tv l yX3_tellArrives wsX3_tellArrives 2 43 D vwCl (xT cs) Bs (xS cs nn) ad [.ref (ad 0 0), .ref (ad 5 i), .ref (ad 8 o)] I J (xP nn mp) (xs_teI I i o (mp sz)) (xs_sJ J (mp sz)) (xP nn mp) := by
  refine nf_enterv (cc := cX3_tellArrives) (maxL := 4) (by decide) rfl (Nat.le_of_ble_eq_true rfl) ?_
  intro p e s m below meth c ls Q hC hM hl hret
  have hx := hC.1.1
  have hb := hC.1.2.1
  have hl : lv_has ls 4 [(0, .ref (ad 0 0)), (1, .ref (ad 5 i)), (2, .ref (ad 8 o))] := hl
  have hinX0 : ∀ w ∈ u_ws RX0 TX0 9, w ∈ wsX3_tellArrives := fun w h => List.mem_cons_of_mem _ (inX0 w h)
  have hinX1 : ∀ w ∈ u_ws RX1 TX1 7, w ∈ wsX3_tellArrives := fun w h => List.mem_cons_of_mem _ (inX1 w h)
  have hinX3 : ∀ w ∈ u_ws RX3 TX3 5, w ∈ wsX3_tellArrives := fun w h => List.mem_cons_of_mem _ (inX3 w h)
  have hon := hmp sz (by omega)
  refine lv_aload_n (pc := 0) hx hb dX3_tellArrives_0 rfl (lv_at hl 2 rfl) ?_
  refine nf_geti (pc := 1) hC hinX0 hM (xS_8 (by first | assumption | omega)) rfl 6 (by decide) (List.mem_cons_of_mem _ wF_X3_62) rfl dX3_tellArrives_1 ?_
  refine lv_iconst (pc := 4) (v := -1) hx hb dX3_tellArrives_4 (by decide) ?_
  refine lv_icmp_eq (pc := 5) (tgt := 34) hx hb dX3_tellArrives_5 (by decide) (fun h1 => ?_) (fun h1 => ?_)
  · skip
    refine lv_aload_n (pc := 34) hx hb dX3_tellArrives_34 rfl (lv_at hl 0 rfl) ?_
    refine nf_getr (pc := 35) hC hinX3 hM rfl rfl 4 (by decide) (List.mem_cons_of_mem _ wF_X3_29) rfl dX3_tellArrives_35 ?_
    refine lv_bipush (pc := 38) (v := 8) hx hb dX3_tellArrives_38 (by decide) ?_
    refine lv_aload_n (pc := 40) hx hb dX3_tellArrives_40 rfl (lv_at hl 1 rfl) ?_
    refine nf_geti (pc := 41) hC hinX1 hM (xS_5 (by first | assumption | omega)) rfl 1 (by decide) (List.mem_cons_of_mem _ wF_X3_41) rfl dX3_tellArrives_41 ?_
    refine nf_callq (pc := 44) (va_runV (As := [.int 8, .int (I 5 i 1)]) (rest := []) hC.1 (ct_X2_send (kd := 8) (tz := (I 5 i 1)) (sz := sz) (by simpa [nf_iu] using hs) hsz hmp) (cwV 2 hC.1.2.2.2.2 (gd_V wM_X3_58 wi_X2_send wsel_X2_send wini_X2 wcode_X2_send) rfl rfl rfl (by decide +kernel) ⟨by decide, by decide⟩) (nf_preV hC hM rfl rfl) rfl rfl hl.1 rfl (lv_room (Nat.le_of_ble_eq_true rfl)) dX3_tellArrives_44 ⟨Nat.le_refl _, Nat.le_refl _⟩) hM (fun H locs hM => ?_)
    refine W.eq (g2 := F0 m 47 ls [.ref (ad 8 (mp sz))]) rfl ?_
    refine lv_astore_n (pc := 47) (lv' := [(3, .ref (ad 8 (mp sz))), (0, .ref (ad 0 0)), (1, .ref (ad 5 i)), (2, .ref (ad 8 o))]) hx hb dX3_tellArrives_47 rfl hl (by decide) rfl (fun ls hl => ?_)
    refine lv_aload_n (pc := 48) hx hb dX3_tellArrives_48 rfl (lv_at hl 0 rfl) ?_
    refine lv_aload_n (pc := 49) hx hb dX3_tellArrives_49 rfl (lv_at hl 2 rfl) ?_
    refine nf_geti (pc := 50) hC hinX1 hM (xS_5 (by first | assumption | omega)) rfl 0 (by decide) (List.mem_cons_of_mem _ wF_X3_135) rfl dX3_tellArrives_50 ?_
    refine nf_puti (pc := 53) hC hinX0 tyX0 tyX0_ok nmX0 hM (xS_8 (by first | assumption | omega)) rfl 6 (by decide) (List.mem_cons_of_mem _ wF_X3_62) rfl (by decide +kernel) rfl dX3_tellArrives_53 (fun H locs hM => ?_)
    exact hret _ _ _ _ _ _ _ (by simp [xs_teI, xs_teS, h1] <;> rfl) rfl rfl hM dX3_tellArrives_56
  · skip
    refine lv_aload_n (pc := 8) hx hb dX3_tellArrives_8 rfl (lv_at hl 1 rfl) ?_
    refine nf_geti (pc := 9) hC hinX1 hM (xS_5 (by first | assumption | omega)) rfl 0 (by decide) (List.mem_cons_of_mem _ wF_X3_135) rfl dX3_tellArrives_9 ?_
    refine lv_aload_n (pc := 12) hx hb dX3_tellArrives_12 rfl (lv_at hl 1 rfl) ?_
    refine nf_geti (pc := 13) hC hinX1 hM (xS_5 (by first | assumption | omega)) rfl 1 (by decide) (List.mem_cons_of_mem _ wF_X3_41) rfl dX3_tellArrives_13 ?_
    refine lv_aload_n (pc := 16) hx hb dX3_tellArrives_16 rfl (lv_at hl 2 rfl) ?_
    refine nf_geti (pc := 17) hC hinX0 hM (xS_8 (by first | assumption | omega)) rfl 6 (by decide) (List.mem_cons_of_mem _ wF_X3_62) rfl dX3_tellArrives_17 ?_
    refine nf_calli (pc := 20) (va_runS (As := [.int (I 5 i 0), .int (I 5 i 1), .int (I 8 o 6)]) (rest := []) hC.1 (ct_X3_isBetween) (cwS 3 hC.1.2.2.2.2 (gd_S wM_X3_196 wst_X3_isBetween wini_X3 wcode_X3_isBetween) rfl rfl rfl (by decide +kernel) ⟨by decide, by decide⟩) (nf_preS hC hM) rfl rfl hl.1 rfl (lv_room (Nat.le_of_ble_eq_true rfl)) dX3_tellArrives_20 ⟨Nat.le_refl _, Nat.le_refl _⟩) hM (fun H locs hM => ?_)
    refine lv_if_eq (pc := 23) (tgt := 34) hx hb dX3_tellArrives_23 (by decide) (fun h2 => ?_) (fun h2 => ?_)
    · have h2 := nb_0 h2
      refine lv_aload_n (pc := 34) hx hb dX3_tellArrives_34 rfl (lv_at hl 0 rfl) ?_
      refine nf_getr (pc := 35) hC hinX3 hM rfl rfl 4 (by decide) (List.mem_cons_of_mem _ wF_X3_29) rfl dX3_tellArrives_35 ?_
      refine lv_bipush (pc := 38) (v := 8) hx hb dX3_tellArrives_38 (by decide) ?_
      refine lv_aload_n (pc := 40) hx hb dX3_tellArrives_40 rfl (lv_at hl 1 rfl) ?_
      refine nf_geti (pc := 41) hC hinX1 hM (xS_5 (by first | assumption | omega)) rfl 1 (by decide) (List.mem_cons_of_mem _ wF_X3_41) rfl dX3_tellArrives_41 ?_
      refine nf_callq (pc := 44) (va_runV (As := [.int 8, .int (I 5 i 1)]) (rest := []) hC.1 (ct_X2_send (kd := 8) (tz := (I 5 i 1)) (sz := sz) (by simpa [nf_iu] using hs) hsz hmp) (cwV 2 hC.1.2.2.2.2 (gd_V wM_X3_58 wi_X2_send wsel_X2_send wini_X2 wcode_X2_send) rfl rfl rfl (by decide +kernel) ⟨by decide, by decide⟩) (nf_preV hC hM rfl rfl) rfl rfl hl.1 rfl (lv_room (Nat.le_of_ble_eq_true rfl)) dX3_tellArrives_44 ⟨Nat.le_refl _, Nat.le_refl _⟩) hM (fun H locs hM => ?_)
      refine W.eq (g2 := F0 m 47 ls [.ref (ad 8 (mp sz))]) rfl ?_
      refine lv_astore_n (pc := 47) (lv' := [(3, .ref (ad 8 (mp sz))), (0, .ref (ad 0 0)), (1, .ref (ad 5 i)), (2, .ref (ad 8 o))]) hx hb dX3_tellArrives_47 rfl hl (by decide) rfl (fun ls hl => ?_)
      refine lv_aload_n (pc := 48) hx hb dX3_tellArrives_48 rfl (lv_at hl 0 rfl) ?_
      refine lv_aload_n (pc := 49) hx hb dX3_tellArrives_49 rfl (lv_at hl 2 rfl) ?_
      refine nf_geti (pc := 50) hC hinX1 hM (xS_5 (by first | assumption | omega)) rfl 0 (by decide) (List.mem_cons_of_mem _ wF_X3_135) rfl dX3_tellArrives_50 ?_
      refine nf_puti (pc := 53) hC hinX0 tyX0 tyX0_ok nmX0 hM (xS_8 (by first | assumption | omega)) rfl 6 (by decide) (List.mem_cons_of_mem _ wF_X3_62) rfl (by decide +kernel) rfl dX3_tellArrives_53 (fun H locs hM => ?_)
      exact hret _ _ _ _ _ _ _ (by simp [xs_teI, xs_teS, h1, h2] <;> rfl) rfl rfl hM dX3_tellArrives_56
    · have h2 := nb_1 h2
      refine lv_aload_n (pc := 26) hx hb dX3_tellArrives_26 rfl (lv_at hl 1 rfl) ?_
      refine lv_aload_n (pc := 27) hx hb dX3_tellArrives_27 rfl (lv_at hl 2 rfl) ?_
      refine nf_geti (pc := 28) hC hinX0 hM (xS_8 (by first | assumption | omega)) rfl 6 (by decide) (List.mem_cons_of_mem _ wF_X3_62) rfl dX3_tellArrives_28 ?_
      refine nf_puti (pc := 31) hC hinX1 tyX1 tyX1_ok nmX1 hM (xS_5 (by first | assumption | omega)) rfl 1 (by decide) (List.mem_cons_of_mem _ wF_X3_41) rfl (by decide +kernel) rfl dX3_tellArrives_31 (fun H locs hM => ?_)
      refine lv_aload_n (pc := 34) hx hb dX3_tellArrives_34 rfl (lv_at hl 0 rfl) ?_
      refine nf_getr (pc := 35) hC hinX3 hM rfl rfl 4 (by decide) (List.mem_cons_of_mem _ wF_X3_29) rfl dX3_tellArrives_35 ?_
      refine lv_bipush (pc := 38) (v := 8) hx hb dX3_tellArrives_38 (by decide) ?_
      refine lv_aload_n (pc := 40) hx hb dX3_tellArrives_40 rfl (lv_at hl 1 rfl) ?_
      refine nf_geti (pc := 41) hC hinX1 hM (xS_5 (by first | assumption | omega)) rfl 1 (by decide) (List.mem_cons_of_mem _ wF_X3_41) rfl dX3_tellArrives_41 ?_
      refine nf_callq (pc := 44) (va_runV (As := [.int 8, .int ((nf_iu I 5 i 1 (I 8 o 6)) 5 i 1)]) (rest := []) hC.1 (ct_X2_send (kd := 8) (tz := ((nf_iu I 5 i 1 (I 8 o 6)) 5 i 1)) (sz := sz) (by simpa [nf_iu] using hs) hsz hmp) (cwV 2 hC.1.2.2.2.2 (gd_V wM_X3_58 wi_X2_send wsel_X2_send wini_X2 wcode_X2_send) rfl rfl rfl (by decide +kernel) ⟨by decide, by decide⟩) (nf_preV hC hM rfl rfl) rfl rfl hl.1 rfl (lv_room (Nat.le_of_ble_eq_true rfl)) dX3_tellArrives_44 ⟨Nat.le_refl _, Nat.le_refl _⟩) hM (fun H locs hM => ?_)
      refine W.eq (g2 := F0 m 47 ls [.ref (ad 8 (mp sz))]) rfl ?_
      refine lv_astore_n (pc := 47) (lv' := [(3, .ref (ad 8 (mp sz))), (0, .ref (ad 0 0)), (1, .ref (ad 5 i)), (2, .ref (ad 8 o))]) hx hb dX3_tellArrives_47 rfl hl (by decide) rfl (fun ls hl => ?_)
      refine lv_aload_n (pc := 48) hx hb dX3_tellArrives_48 rfl (lv_at hl 0 rfl) ?_
      refine lv_aload_n (pc := 49) hx hb dX3_tellArrives_49 rfl (lv_at hl 2 rfl) ?_
      refine nf_geti (pc := 50) hC hinX1 hM (xS_5 (by first | assumption | omega)) rfl 0 (by decide) (List.mem_cons_of_mem _ wF_X3_135) rfl dX3_tellArrives_50 ?_
      refine nf_puti (pc := 53) hC hinX0 tyX0 tyX0_ok nmX0 hM (xS_8 (by first | assumption | omega)) rfl 6 (by decide) (List.mem_cons_of_mem _ wF_X3_62) rfl (by decide +kernel) rfl dX3_tellArrives_53 (fun H locs hM => ?_)
      exact hret _ _ _ _ _ _ _ (by simp [xs_teI, xs_teS, h1, h2] <;> rfl) rfl rfl hM dX3_tellArrives_56
set_option maxHeartbeats 4000000 in
set_option maxRecDepth 100000 in
theorem ct_X3_handOver_n {i : Nat}  : nf_Tv l yX3_handOver wsX3_handOver 2 43 D vwCl (xT cs) Bs (xS cs nn) ad [.ref (ad 0 0), .ref (ad 5 i), .null] I J (xP nn mp) I J (xP nn mp) := by
  refine nf_enterv (cc := cX3_handOver) (maxL := 4) (by decide) rfl (Nat.le_of_ble_eq_true rfl) ?_
  intro p e s m below meth c ls Q hC hM hl hret
  have hx := hC.1.1
  have hb := hC.1.2.1
  have hl : lv_has ls 4 [(0, .ref (ad 0 0)), (1, .ref (ad 5 i)), (2, .null)] := hl
  have hinX1 : ∀ w ∈ u_ws RX1 TX1 7, w ∈ wsX3_handOver := fun w h => List.mem_cons_of_mem _ (inX1 w h)
  have hinX3 : ∀ w ∈ u_ws RX3 TX3 5, w ∈ wsX3_handOver := fun w h => List.mem_cons_of_mem _ (inX3 w h)
  refine lv_aload_nN (pc := 0) hx hb dX3_handOver_0 rfl (lv_at hl 2 rfl) ?_
  refine lv_ifnonnullN (pc := 1) hx hb dX3_handOver_1 ?_
  exact hret _ _ _ _ _ _ _ rfl rfl rfl hM dX3_handOver_4
set_option maxHeartbeats 4000000 in
set_option maxRecDepth 100000 in
theorem ct_X3_handOver {i b : Nat} (hk : I 0 0 3 = nI kc) (hkk : kc ≤ 10) (hi : i < nn) (hbn : b < nn) : nf_Tv l yX3_handOver wsX3_handOver 2 43 D vwCl (xT cs) Bs (xS cs nn) ad [.ref (ad 0 0), .ref (ad 5 i), .ref (ad 5 b)] I J (xP nn mp) I (xs_hoJ I i b kc 0 J) (xP nn mp) := by
  refine nf_enterv (cc := cX3_handOver) (maxL := 4) (by decide) rfl (Nat.le_of_ble_eq_true rfl) ?_
  intro p e s m below meth c ls Q hC hM hl hret
  have hx := hC.1.1
  have hb := hC.1.2.1
  have hl : lv_has ls 4 [(0, .ref (ad 0 0)), (1, .ref (ad 5 i)), (2, .ref (ad 5 b))] := hl
  have hinX1 : ∀ w ∈ u_ws RX1 TX1 7, w ∈ wsX3_handOver := fun w h => List.mem_cons_of_mem _ (inX1 w h)
  have hinX3 : ∀ w ∈ u_ws RX3 TX3 5, w ∈ wsX3_handOver := fun w h => List.mem_cons_of_mem _ (inX3 w h)
  refine lv_aload_n (pc := 0) hx hb dX3_handOver_0 rfl (lv_at hl 2 rfl) ?_
  refine lv_ifnonnull (pc := 1) (tgt := 5) hx hb dX3_handOver_1 (by decide) ?_
  refine lv_iconst (pc := 5) (v := 0) hx hb dX3_handOver_5 (by decide) ?_
  refine lv_istore_n (pc := 6) (lv' := [(3, .int 0), (0, .ref (ad 0 0)), (1, .ref (ad 5 i)), (2, .ref (ad 5 b))]) hx hb dX3_handOver_6 rfl hl (by decide) rfl (fun ls hl => ?_)
  have loop7 : ∀ (n : Nat) (j : Nat) (J2 : nf_J) (ls : Array Slot) (H : Heap) (locs : List Loc), kc - j < n → (j ≤ kc) → (xs_hoJ I i b kc 0 J = xs_hoJ I i b (kc - j) j J2) → nf_M D vwCl Bs (xS cs nn) ad I J2 (xP nn mp) s.heap H locs → lv_has ls 4 [(3, .int (nI j)), (0, .ref (ad 0 0)), (1, .ref (ad 5 i)), (2, .ref (ad 5 b))] → W p l e (nf_Rm 2 43) s m ([.ref (ad 0 0), .ref (ad 5 i), .ref (ad 5 b)] : List Value).toArray below meth c H locs 0 0 Q (F0 m 7 ls []) := by
    intro n
    induction n with
    | zero => exact fun _ _ _ _ _ hmz => absurd hmz (Nat.not_lt_zero _)
    | succ n ihloop7 =>
      intro j J2 ls H locs hmz hjn hf hM hl
      refine lv_iload_n (pc := 7) hx hb dX3_handOver_7 rfl (lv_at hl 0 rfl) ?_
      refine lv_aload_n (pc := 8) hx hb dX3_handOver_8 rfl (lv_at hl 1 rfl) ?_
      refine nf_geti (pc := 9) hC hinX3 hM rfl rfl 3 (by decide) (List.mem_cons_of_mem _ wF_X3_23) rfl dX3_handOver_9 ?_
      refine lv_icmp_ge (pc := 12) (tgt := 75) hx hb dX3_handOver_12 (by decide) (fun hh => ?_) (fun hh => ?_)
      · have hj1 : kc ≤ j := (nI_leI (by omega) (by omega)).mp (by rw [hk] at hh; exact hh)
        exact hret _ _ _ _ _ _ _ rfl (by rw [hf, show kc - j = 0 by omega]; rfl) rfl hM dX3_handOver_75
      · have hj1 : j < kc := Nat.lt_of_not_le (fun z => hh (by rw [hk]; exact (nI_leI (by omega) (by omega)).mpr z))
        refine lv_aload_n (pc := 15) hx hb dX3_handOver_15 rfl (lv_at hl 2 rfl) ?_
        refine nf_getr (pc := 16) hC hinX1 hM (xS_5 (by first | assumption | omega)) rfl 4 (by decide) (List.mem_cons_of_mem _ wF_X3_113) rfl dX3_handOver_16 ?_
        refine lv_iload_n (pc := 19) hx hb dX3_handOver_19 rfl (lv_at hl 0 rfl) ?_
        refine nf_lald (pc := 20) hC hM 1 (xS_7 (by first | assumption | omega)) rfl j rfl (by omega) (by decide) dX3_handOver_20 ?_
        refine lv_ldc2 (pc := 21) (v := 4294967296) hx hb hC.1.2.2.2.1 (hC.1.2.2.2.2 _ (List.mem_cons_of_mem _ wC_X3_107)) dX3_handOver_21 ?_
        refine W.lcmp (pc := 24) hx hb dX3_handOver_24 ?_
        refine lv_if_eq (pc := 25) (tgt := 69) hx hb dX3_handOver_25 (by decide) (fun h2 => ?_) (fun h2 => ?_)
        · skip
          refine lv_iinc (pc := 69) (k := 0) (v := nI (j + 1)) (lv' := [(3, .int (nI (j + 1))), (0, .ref (ad 0 0)), (1, .ref (ad 5 i)), (2, .ref (ad 5 b))]) hx hb dX3_handOver_69 hl rfl (nI_1 _) (by decide) rfl (fun ls hl => ?_)
          refine lv_goto (pc := 72) (tgt := 7) hx hb dX3_handOver_72 (by decide) ?_
          exact ihloop7 (j + 1) J2 ls _ _ (by omega) (by omega) (by rw [hf, show kc - j = (kc - (j + 1)) + 1 by omega, xs_hoJ]; congr 1; simp [h2]) hM hl
        · skip
          refine lv_aload_n (pc := 28) hx hb dX3_handOver_28 rfl (lv_at hl 3 rfl) ?_
          refine nf_geti (pc := 29) hC hinX1 hM (xS_5 (by first | assumption | omega)) rfl 0 (by decide) (List.mem_cons_of_mem _ wF_X3_135) rfl dX3_handOver_29 ?_
          refine lv_aload_n (pc := 32) hx hb dX3_handOver_32 rfl (lv_at hl 2 rfl) ?_
          refine nf_geti (pc := 33) hC hinX1 hM (xS_5 (by first | assumption | omega)) rfl 0 (by decide) (List.mem_cons_of_mem _ wF_X3_135) rfl dX3_handOver_33 ?_
          refine lv_aload_n (pc := 36) hx hb dX3_handOver_36 rfl (lv_at hl 1 rfl) ?_
          refine nf_getr (pc := 37) hC hinX3 hM rfl rfl 2 (by decide) (List.mem_cons_of_mem _ wF_X3_19) rfl dX3_handOver_37 ?_
          refine lv_iload_n (pc := 40) hx hb dX3_handOver_40 rfl (lv_at hl 0 rfl) ?_
          refine nf_iald (pc := 41) hC hM 0 rfl rfl j rfl (by omega) (by decide) dX3_handOver_41 ?_
          refine nf_calli (pc := 42) (va_runS (As := [.int (I 5 b 0), .int (I 5 i 0), .int (I 2 0 j)]) (rest := []) hC.1 (ct_X3_isPastUpTo) (cwS 3 hC.1.2.2.2.2 (gd_S wM_X3_185 wst_X3_isPastUpTo wini_X3 wcode_X3_isPastUpTo) rfl rfl rfl (by decide +kernel) ⟨by decide, by decide⟩) (nf_preS hC hM) rfl rfl hl.1 rfl (lv_room (Nat.le_of_ble_eq_true rfl)) dX3_handOver_42 ⟨Nat.le_refl _, Nat.le_refl _⟩) hM (fun H locs hM => ?_)
          refine lv_if_ne (pc := 45) (tgt := 69) hx hb dX3_handOver_45 (by decide) (fun h3 => ?_) (fun h3 => ?_)
          · have h3 := nb_1 h3
            refine lv_iinc (pc := 69) (k := 0) (v := nI (j + 1)) (lv' := [(3, .int (nI (j + 1))), (0, .ref (ad 0 0)), (1, .ref (ad 5 i)), (2, .ref (ad 5 b))]) hx hb dX3_handOver_69 hl rfl (nI_1 _) (by decide) rfl (fun ls hl => ?_)
            refine lv_goto (pc := 72) (tgt := 7) hx hb dX3_handOver_72 (by decide) ?_
            exact ihloop7 (j + 1) J2 ls _ _ (by omega) (by omega) (by rw [hf, show kc - j = (kc - (j + 1)) + 1 by omega, xs_hoJ]; congr 1; simp [h2, h3]) hM hl
          · have h3 := nb_0 h3
            refine lv_aload_n (pc := 48) hx hb dX3_handOver_48 rfl (lv_at hl 3 rfl) ?_
            refine nf_getr (pc := 49) hC hinX1 hM (xS_5 (by first | assumption | omega)) rfl 4 (by decide) (List.mem_cons_of_mem _ wF_X3_113) rfl dX3_handOver_49 ?_
            refine lv_iload_n (pc := 52) hx hb dX3_handOver_52 rfl (lv_at hl 0 rfl) ?_
            refine lv_aload_n (pc := 53) hx hb dX3_handOver_53 rfl (lv_at hl 2 rfl) ?_
            refine nf_getr (pc := 54) hC hinX1 hM (xS_5 (by first | assumption | omega)) rfl 4 (by decide) (List.mem_cons_of_mem _ wF_X3_113) rfl dX3_handOver_54 ?_
            refine lv_iload_n (pc := 57) hx hb dX3_handOver_57 rfl (lv_at hl 0 rfl) ?_
            refine nf_lald (pc := 58) hC hM 1 (xS_7 (by first | assumption | omega)) rfl j rfl (by omega) (by decide) dX3_handOver_58 ?_
            refine nf_last (pc := 59) hC hM 1 (xS_7 (by first | assumption | omega)) rfl j rfl (by omega) (by decide) dX3_handOver_59 (fun H locs hM => ?_)
            refine lv_aload_n (pc := 60) hx hb dX3_handOver_60 rfl (lv_at hl 2 rfl) ?_
            refine nf_getr (pc := 61) hC hinX1 hM (xS_5 (by first | assumption | omega)) rfl 4 (by decide) (List.mem_cons_of_mem _ wF_X3_113) rfl dX3_handOver_61 ?_
            refine lv_iload_n (pc := 64) hx hb dX3_handOver_64 rfl (lv_at hl 0 rfl) ?_
            refine lv_ldc2 (pc := 65) (v := 4294967296) hx hb hC.1.2.2.2.1 (hC.1.2.2.2.2 _ (List.mem_cons_of_mem _ wC_X3_107)) dX3_handOver_65 ?_
            refine nf_last (pc := 68) hC hM 1 (xS_7 (by first | assumption | omega)) rfl j rfl (by omega) (by decide) dX3_handOver_68 (fun H locs hM => ?_)
            refine lv_iinc (pc := 69) (k := 0) (v := nI (j + 1)) (lv' := [(3, .int (nI (j + 1))), (0, .ref (ad 0 0)), (1, .ref (ad 5 i)), (2, .ref (ad 5 b))]) hx hb dX3_handOver_69 hl rfl (nI_1 _) (by decide) rfl (fun ls hl => ?_)
            refine lv_goto (pc := 72) (tgt := 7) hx hb dX3_handOver_72 (by decide) ?_
            exact ihloop7 (j + 1) (nf_ju (nf_ju J2 7 b j (J2 7 i j)) 7 i j 4294967296) ls _ _ (by omega) (by omega) (by rw [hf, show kc - j = (kc - (j + 1)) + 1 by omega, xs_hoJ]; congr 1; simp [h2, h3]) hM hl
  exact loop7 _ 0 J ls _ _ (Nat.lt_succ_self _) (Nat.zero_le _) rfl hM hl
set_option maxHeartbeats 4000000 in
set_option maxRecDepth 100000 in
theorem ct_X3_notifyArrives {i o : Nat} (hn : I 0 0 1 = nI nn) (hnn : nn ≤ 12) (hk : I 0 0 3 = nI kc) (hkk : kc ≤ 10) (hi : i < nn) (ho : o < 21) : nf_Tv l yX3_notifyArrives wsX3_notifyArrives 3 66 D vwCl (xT cs) Bs (xS cs nn) ad [.ref (ad 0 0), .ref (ad 5 i), .ref (ad 8 o)] I J (xP nn mp) (xs_noI I i o) (xs_noJ I J nn kc i o) (xP nn mp) := by
  refine nf_enterv (cc := cX3_notifyArrives) (maxL := 3) (by decide) rfl (Nat.le_of_ble_eq_true rfl) ?_
  intro p e s m below meth c ls Q hC hM hl hret
  have hx := hC.1.1
  have hb := hC.1.2.1
  have hl : lv_has ls 3 [(0, .ref (ad 0 0)), (1, .ref (ad 5 i)), (2, .ref (ad 8 o))] := hl
  have hinX0 : ∀ w ∈ u_ws RX0 TX0 9, w ∈ wsX3_notifyArrives := fun w h => List.mem_cons_of_mem _ (inX0 w h)
  have hinX1 : ∀ w ∈ u_ws RX1 TX1 7, w ∈ wsX3_notifyArrives := fun w h => List.mem_cons_of_mem _ (inX1 w h)
  refine lv_aload_n (pc := 0) hx hb dX3_notifyArrives_0 rfl (lv_at hl 1 rfl) ?_
  refine nf_geti (pc := 1) hC hinX1 hM (xS_5 (by first | assumption | omega)) rfl 2 (by decide) (List.mem_cons_of_mem _ wF_X3_101) rfl dX3_notifyArrives_1 ?_
  refine lv_iconst (pc := 4) (v := -1) hx hb dX3_notifyArrives_4 (by decide) ?_
  refine lv_icmp_eq (pc := 5) (tgt := 26) hx hb dX3_notifyArrives_5 (by decide) (fun h1 => ?_) (fun h1 => ?_)
  · skip
    refine lv_aload_n (pc := 26) hx hb dX3_notifyArrives_26 rfl (lv_at hl 1 rfl) ?_
    refine lv_aload_n (pc := 27) hx hb dX3_notifyArrives_27 rfl (lv_at hl 2 rfl) ?_
    refine nf_geti (pc := 28) hC hinX0 hM (xS_8 (by first | assumption | omega)) rfl 6 (by decide) (List.mem_cons_of_mem _ wF_X3_62) rfl dX3_notifyArrives_28 ?_
    refine nf_puti (pc := 31) hC hinX1 tyX1 tyX1_ok nmX1 hM (xS_5 (by first | assumption | omega)) rfl 2 (by decide) (List.mem_cons_of_mem _ wF_X3_101) rfl (by decide +kernel) rfl dX3_notifyArrives_31 (fun H locs hM => ?_)
    refine lv_aload_n (pc := 34) hx hb dX3_notifyArrives_34 rfl (lv_at hl 0 rfl) ?_
    refine lv_aload_n (pc := 35) hx hb dX3_notifyArrives_35 rfl (lv_at hl 1 rfl) ?_
    refine lv_aload_n (pc := 36) hx hb dX3_notifyArrives_36 rfl (lv_at hl 0 rfl) ?_
    refine lv_aload_n (pc := 37) hx hb dX3_notifyArrives_37 rfl (lv_at hl 2 rfl) ?_
    refine nf_geti (pc := 38) hC hinX0 hM (xS_8 (by first | assumption | omega)) rfl 6 (by decide) (List.mem_cons_of_mem _ wF_X3_62) rfl dX3_notifyArrives_38 ?_
    refine nf_callq (pc := 41) (va_runV (As := [.int ((nf_iu I 5 i 2 (I 8 o 6)) 8 o 6)]) (rest := [.ref (ad 5 i), .ref (ad 0 0)]) hC.1 (ct_X3_nodeWith (id := ((nf_iu I 5 i 2 (I 8 o 6)) 8 o 6)) (by simpa [nf_iu] using hn) hnn) (cwV 1 hC.1.2.2.2.2 (gd_V wM_X3_44 wi_X3_nodeWith wsel_X3_nodeWith wini_X3 wcode_X3_nodeWith) rfl rfl rfl (by decide +kernel) ⟨by decide, by decide⟩) (nf_preV hC hM rfl rfl) rfl rfl hl.1 rfl (lv_room (Nat.le_of_ble_eq_true rfl)) dX3_notifyArrives_41 ⟨Nat.le_refl _, Nat.le_refl _⟩) hM (fun H locs hM => ?_)
    cases hq2 : xs_node (nf_iu I 5 i 2 (I 8 o 6)) nn ((nf_iu I 5 i 2 (I 8 o 6)) 8 o 6) with
    | none =>
      simp only [hq2, Option.map_none, va_rf]
      refine nf_callv (pc := 44) (va_runV (As := [.ref (ad 5 i), .null]) (rest := []) hC.1 (ct_X3_handOver_n) (cwV 2 hC.1.2.2.2.2 (gd_V wM_X3_199 wi_X3_handOver wsel_X3_handOver wini_X3 wcode_X3_handOver) rfl rfl rfl (by decide +kernel) ⟨by decide, by decide⟩) (nf_preV hC hM rfl rfl) rfl rfl hl.1 rfl (lv_room (Nat.le_of_ble_eq_true rfl)) dX3_notifyArrives_44 ⟨Nat.le_refl _, Nat.le_refl _⟩) hM (fun H locs hM => ?_)
      exact hret _ _ _ _ _ _ _ (by simp [xs_noI, h1, hq2] <;> rfl) (by simp [xs_noJ, xs_no1, h1, hq2] <;> rfl) rfl hM dX3_notifyArrives_47
    | some i3 =>
      simp only [hq2, Option.map_some, va_rf]
      have hq2l := xs_node_lt hq2
      refine nf_callv (pc := 44) (va_runV (As := [.ref (ad 5 i), .ref (ad 5 i3)]) (rest := []) hC.1 (ct_X3_handOver (i := i) (b := i3) (by simpa [nf_iu] using hk) hkk (by first | assumption | omega) (by first | assumption | omega)) (cwV 2 hC.1.2.2.2.2 (gd_V wM_X3_199 wi_X3_handOver wsel_X3_handOver wini_X3 wcode_X3_handOver) rfl rfl rfl (by decide +kernel) ⟨by decide, by decide⟩) (nf_preV hC hM rfl rfl) rfl rfl hl.1 rfl (lv_room (Nat.le_of_ble_eq_true rfl)) dX3_notifyArrives_44 ⟨Nat.le_refl _, Nat.le_refl _⟩) hM (fun H locs hM => ?_)
      exact hret _ _ _ _ _ _ _ (by simp [xs_noI, h1, hq2] <;> rfl) (by simp [xs_noJ, xs_no1, h1, hq2] <;> rfl) rfl hM dX3_notifyArrives_47
  · skip
    refine lv_aload_n (pc := 8) hx hb dX3_notifyArrives_8 rfl (lv_at hl 1 rfl) ?_
    refine nf_geti (pc := 9) hC hinX1 hM (xS_5 (by first | assumption | omega)) rfl 2 (by decide) (List.mem_cons_of_mem _ wF_X3_101) rfl dX3_notifyArrives_9 ?_
    refine lv_aload_n (pc := 12) hx hb dX3_notifyArrives_12 rfl (lv_at hl 1 rfl) ?_
    refine nf_geti (pc := 13) hC hinX1 hM (xS_5 (by first | assumption | omega)) rfl 0 (by decide) (List.mem_cons_of_mem _ wF_X3_135) rfl dX3_notifyArrives_13 ?_
    refine lv_aload_n (pc := 16) hx hb dX3_notifyArrives_16 rfl (lv_at hl 2 rfl) ?_
    refine nf_geti (pc := 17) hC hinX0 hM (xS_8 (by first | assumption | omega)) rfl 6 (by decide) (List.mem_cons_of_mem _ wF_X3_62) rfl dX3_notifyArrives_17 ?_
    refine nf_calli (pc := 20) (va_runS (As := [.int (I 5 i 2), .int (I 5 i 0), .int (I 8 o 6)]) (rest := []) hC.1 (ct_X3_isBetween) (cwS 3 hC.1.2.2.2.2 (gd_S wM_X3_196 wst_X3_isBetween wini_X3 wcode_X3_isBetween) rfl rfl rfl (by decide +kernel) ⟨by decide, by decide⟩) (nf_preS hC hM) rfl rfl hl.1 rfl (lv_room (Nat.le_of_ble_eq_true rfl)) dX3_notifyArrives_20 ⟨Nat.le_refl _, Nat.le_refl _⟩) hM (fun H locs hM => ?_)
    refine lv_if_eq (pc := 23) (tgt := 47) hx hb dX3_notifyArrives_23 (by decide) (fun h4 => ?_) (fun h4 => ?_)
    · have h4 := nb_0 h4
      exact hret _ _ _ _ _ _ _ (by simp [xs_noI, h1, h4] <;> rfl) (by simp [xs_noJ, xs_no1, h1, h4] <;> rfl) rfl hM dX3_notifyArrives_47
    · have h4 := nb_1 h4
      refine lv_aload_n (pc := 26) hx hb dX3_notifyArrives_26 rfl (lv_at hl 1 rfl) ?_
      refine lv_aload_n (pc := 27) hx hb dX3_notifyArrives_27 rfl (lv_at hl 2 rfl) ?_
      refine nf_geti (pc := 28) hC hinX0 hM (xS_8 (by first | assumption | omega)) rfl 6 (by decide) (List.mem_cons_of_mem _ wF_X3_62) rfl dX3_notifyArrives_28 ?_
      refine nf_puti (pc := 31) hC hinX1 tyX1 tyX1_ok nmX1 hM (xS_5 (by first | assumption | omega)) rfl 2 (by decide) (List.mem_cons_of_mem _ wF_X3_101) rfl (by decide +kernel) rfl dX3_notifyArrives_31 (fun H locs hM => ?_)
      refine lv_aload_n (pc := 34) hx hb dX3_notifyArrives_34 rfl (lv_at hl 0 rfl) ?_
      refine lv_aload_n (pc := 35) hx hb dX3_notifyArrives_35 rfl (lv_at hl 1 rfl) ?_
      refine lv_aload_n (pc := 36) hx hb dX3_notifyArrives_36 rfl (lv_at hl 0 rfl) ?_
      refine lv_aload_n (pc := 37) hx hb dX3_notifyArrives_37 rfl (lv_at hl 2 rfl) ?_
      refine nf_geti (pc := 38) hC hinX0 hM (xS_8 (by first | assumption | omega)) rfl 6 (by decide) (List.mem_cons_of_mem _ wF_X3_62) rfl dX3_notifyArrives_38 ?_
      refine nf_callq (pc := 41) (va_runV (As := [.int ((nf_iu I 5 i 2 (I 8 o 6)) 8 o 6)]) (rest := [.ref (ad 5 i), .ref (ad 0 0)]) hC.1 (ct_X3_nodeWith (id := ((nf_iu I 5 i 2 (I 8 o 6)) 8 o 6)) (by simpa [nf_iu] using hn) hnn) (cwV 1 hC.1.2.2.2.2 (gd_V wM_X3_44 wi_X3_nodeWith wsel_X3_nodeWith wini_X3 wcode_X3_nodeWith) rfl rfl rfl (by decide +kernel) ⟨by decide, by decide⟩) (nf_preV hC hM rfl rfl) rfl rfl hl.1 rfl (lv_room (Nat.le_of_ble_eq_true rfl)) dX3_notifyArrives_41 ⟨Nat.le_refl _, Nat.le_refl _⟩) hM (fun H locs hM => ?_)
      cases hq5 : xs_node (nf_iu I 5 i 2 (I 8 o 6)) nn ((nf_iu I 5 i 2 (I 8 o 6)) 8 o 6) with
      | none =>
        simp only [hq5, Option.map_none, va_rf]
        refine nf_callv (pc := 44) (va_runV (As := [.ref (ad 5 i), .null]) (rest := []) hC.1 (ct_X3_handOver_n) (cwV 2 hC.1.2.2.2.2 (gd_V wM_X3_199 wi_X3_handOver wsel_X3_handOver wini_X3 wcode_X3_handOver) rfl rfl rfl (by decide +kernel) ⟨by decide, by decide⟩) (nf_preV hC hM rfl rfl) rfl rfl hl.1 rfl (lv_room (Nat.le_of_ble_eq_true rfl)) dX3_notifyArrives_44 ⟨Nat.le_refl _, Nat.le_refl _⟩) hM (fun H locs hM => ?_)
        exact hret _ _ _ _ _ _ _ (by simp [xs_noI, h1, h4, hq5] <;> rfl) (by simp [xs_noJ, xs_no1, h1, h4, hq5] <;> rfl) rfl hM dX3_notifyArrives_47
      | some i6 =>
        simp only [hq5, Option.map_some, va_rf]
        have hq5l := xs_node_lt hq5
        refine nf_callv (pc := 44) (va_runV (As := [.ref (ad 5 i), .ref (ad 5 i6)]) (rest := []) hC.1 (ct_X3_handOver (i := i) (b := i6) (by simpa [nf_iu] using hk) hkk (by first | assumption | omega) (by first | assumption | omega)) (cwV 2 hC.1.2.2.2.2 (gd_V wM_X3_199 wi_X3_handOver wsel_X3_handOver wini_X3 wcode_X3_handOver) rfl rfl rfl (by decide +kernel) ⟨by decide, by decide⟩) (nf_preV hC hM rfl rfl) rfl rfl hl.1 rfl (lv_room (Nat.le_of_ble_eq_true rfl)) dX3_notifyArrives_44 ⟨Nat.le_refl _, Nat.le_refl _⟩) hM (fun H locs hM => ?_)
        exact hret _ _ _ _ _ _ _ (by simp [xs_noI, h1, h4, hq5] <;> rfl) (by simp [xs_noJ, xs_no1, h1, h4, hq5] <;> rfl) rfl hM dX3_notifyArrives_47
end XB
