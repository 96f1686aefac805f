/-! sendFind, nextTowards, passOn, findArrives. -/
section XA
variable {l : Launch} {D : va_G} {cs : Nat → ClassId} {Bs nn sz kc : Nat} {ad : nf_A} {I : nf_I} {J : nf_J} {mp : Nat → Nat}
set_option maxHeartbeats 4000000 in
set_option maxRecDepth 100000 in
theorem ct_X3_sendFind {tz ak pu ky : Int32} (hs : I 3 0 1 = nI sz) (hsz : sz < 20) (hmp : ∀ j, j < 21 → mp j < 21) : nf_Tq l yX3_sendFind wsX3_sendFind 1 23 D vwCl (xT cs) Bs (xS cs nn) ad [.ref (ad 0 0), .int tz, .int ak, .int pu, .int ky] I J (xP nn mp) (some (ad 8 (mp sz))) (xs_fI I (mp sz) tz ak pu ky) (xs_sJ J (mp sz)) (xP nn mp) := by
  refine nf_enterq (cc := cX3_sendFind) (maxL := 6) (by decide) rfl (Nat.le_of_ble_eq_true rfl) ?_
  intro p e s m below meth c ls Q hC hM hl hret
  have hx := hC.1.1
  have hb := hC.1.2.1
  have hl : lv_has ls 6 [(0, .ref (ad 0 0)), (1, .int tz), (2, .int ak), (3, .int pu), (4, .int ky)] := hl
  have hinX0 : ∀ w ∈ u_ws RX0 TX0 9, w ∈ wsX3_sendFind := fun w h => List.mem_cons_of_mem _ (inX0 w h)
  have hinX3 : ∀ w ∈ u_ws RX3 TX3 5, w ∈ wsX3_sendFind := fun w h => List.mem_cons_of_mem _ (inX3 w h)
  refine lv_aload_n (pc := 0) hx hb dX3_sendFind_0 rfl (lv_at hl 0 rfl) ?_
  refine nf_getr (pc := 1) hC hinX3 hM rfl rfl 4 (by decide) (List.mem_cons_of_mem _ wF_X3_29) rfl dX3_sendFind_1 ?_
  refine lv_iconst (pc := 4) (v := 1) hx hb dX3_sendFind_4 (by decide) ?_
  refine lv_iload_n (pc := 5) hx hb dX3_sendFind_5 rfl (lv_at hl 1 rfl) ?_
  refine nf_callq (pc := 6) (va_runV (As := [.int 1, .int tz]) (rest := []) hC.1 (ct_X2_send (kd := 1) (tz := tz) (sz := sz) hs hsz hmp) (cwV 2 hC.1.2.2.2.2 (gd_V wM_X3_58 wi_X2_send wsel_X2_send wini_X2 wcode_X2_send) rfl rfl rfl (by decide +kernel) ⟨by decide, by decide⟩) (nf_preV hC hM rfl rfl) rfl rfl hl.1 rfl (lv_room (Nat.le_of_ble_eq_true rfl)) dX3_sendFind_6 ⟨Nat.le_refl _, Nat.le_refl _⟩) hM (fun H locs hM => ?_)
  refine W.eq (g2 := F0 m 9 ls [.ref (ad 8 (mp sz))]) rfl ?_
  have hon := hmp sz (by omega)
  refine lv_astore (pc := 9) (lv' := [(5, .ref (ad 8 (mp sz))), (0, .ref (ad 0 0)), (1, .int tz), (2, .int ak), (3, .int pu), (4, .int ky)]) hx hb dX3_sendFind_9 hl (by decide) rfl (fun ls hl => ?_)
  refine lv_aload (pc := 11) hx hb dX3_sendFind_11 (lv_at hl 0 rfl) ?_
  refine lv_iload_n (pc := 13) hx hb dX3_sendFind_13 rfl (lv_at hl 3 rfl) ?_
  refine nf_puti (pc := 14) hC hinX0 tyX0 tyX0_ok nmX0 hM (xS_8 (by first | assumption | omega)) rfl 2 (by decide) (List.mem_cons_of_mem _ wF_X3_150) rfl (by decide +kernel) rfl dX3_sendFind_14 (fun H locs hM => ?_)
  refine lv_aload (pc := 17) hx hb dX3_sendFind_17 (lv_at hl 0 rfl) ?_
  refine lv_iload_n (pc := 19) hx hb dX3_sendFind_19 rfl (lv_at hl 4 rfl) ?_
  refine nf_puti (pc := 20) hC hinX0 tyX0 tyX0_ok nmX0 hM (xS_8 (by first | assumption | omega)) rfl 3 (by decide) (List.mem_cons_of_mem _ wF_X3_153) rfl (by decide +kernel) rfl dX3_sendFind_20 (fun H locs hM => ?_)
  refine lv_aload (pc := 23) hx hb dX3_sendFind_23 (lv_at hl 0 rfl) ?_
  refine lv_iload (pc := 25) hx hb dX3_sendFind_25 (lv_at hl 5 rfl) ?_
  refine nf_puti (pc := 27) hC hinX0 tyX0 tyX0_ok nmX0 hM (xS_8 (by first | assumption | omega)) rfl 4 (by decide) (List.mem_cons_of_mem _ wF_X3_156) rfl (by decide +kernel) rfl dX3_sendFind_27 (fun H locs hM => ?_)
  refine lv_aload (pc := 30) hx hb dX3_sendFind_30 (lv_at hl 0 rfl) ?_
  exact hret _ _ _ _ _ _ _ _ rfl rfl rfl rfl hM dX3_sendFind_32
set_option maxHeartbeats 4000000 in
set_option maxRecDepth 100000 in
theorem ct_X3_nextTowards {i : Nat} {ky : Int32} (hi : i < nn) : nf_Ti l yX3_nextTowards wsX3_nextTowards 2 43 D vwCl (xT cs) Bs (xS cs nn) ad [.ref (ad 5 i), .int ky] I J (xP nn mp) (xs_nt I i ky 8) I J (xP nn mp) := by
  refine nf_enteri (cc := cX3_nextTowards) (maxL := 4) (by decide) rfl (Nat.le_of_ble_eq_true rfl) ?_
  intro p e s m below meth c ls Q hC hM hl hret
  have hx := hC.1.1
  have hb := hC.1.2.1
  have hl : lv_has ls 4 [(0, .ref (ad 5 i)), (1, .int ky)] := hl
  have hinX1 : ∀ w ∈ u_ws RX1 TX1 7, w ∈ wsX3_nextTowards := fun w h => List.mem_cons_of_mem _ (inX1 w h)
  refine lv_bipush (pc := 0) (v := nI 7) hx hb dX3_nextTowards_0 (by decide) ?_
  refine lv_istore_n (pc := 2) (lv' := [(2, .int (nI 7)), (0, .ref (ad 5 i)), (1, .int ky)]) hx hb dX3_nextTowards_2 rfl hl (by decide) rfl (fun ls hl => ?_)
  have loop3 : ∀ (n : Nat) (q : Nat) (ls : Array Slot) (H : Heap) (locs : List Loc), q < n → (q ≤ 8) → (xs_nt I i ky 8 = xs_nt I i ky q) → nf_M D vwCl Bs (xS cs nn) ad I J (xP nn mp) s.heap H locs → lv_has ls 4 [(2, .int (xs_pd q)), (0, .ref (ad 5 i)), (1, .int ky)] → W p l e (nf_Rm 2 43) s m ([.ref (ad 5 i), .int ky] : List Value).toArray below meth c H locs 0 0 Q (F0 m 3 ls []) := by
    intro n
    induction n with
    | zero => exact fun _ _ _ _ hmz => absurd hmz (Nat.not_lt_zero _)
    | succ n ihloop3 =>
      intro q ls H locs hmz hq8 hf hM hl
      cases q with
      | zero =>
        have hl : lv_has ls 4 [(2, .int (-1)), (0, .ref (ad 5 i)), (1, .int ky)] := hl
        refine lv_iload_n (pc := 3) hx hb dX3_nextTowards_3 rfl (lv_at hl 0 rfl) ?_
        refine lv_if_lt (pc := 4) (tgt := 39) hx hb dX3_nextTowards_4 (by decide) (fun _ => ?_) (fun hh => absurd (by decide) hh)
        refine lv_aload_n (pc := 39) hx hb dX3_nextTowards_39 rfl (lv_at hl 1 rfl) ?_
        refine nf_geti (pc := 40) hC hinX1 hM (xS_5 (by first | assumption | omega)) rfl 1 (by decide) (List.mem_cons_of_mem _ wF_X3_41) rfl dX3_nextTowards_40 ?_
        exact hret _ _ _ _ _ _ _ _ (by rw [hf]; rfl) rfl rfl rfl hM dX3_nextTowards_43
      | succ q =>
        have hl : lv_has ls 4 [(2, .int (nI q)), (0, .ref (ad 5 i)), (1, .int ky)] := hl
        refine lv_iload_n (pc := 3) hx hb dX3_nextTowards_3 rfl (lv_at hl 0 rfl) ?_
        refine lv_if_lt (pc := 4) (tgt := 39) hx hb dX3_nextTowards_4 (by decide) (fun hh => absurd hh (nI_pos (by omega))) (fun _ => ?_)
        refine lv_aload_n (pc := 7) hx hb dX3_nextTowards_7 rfl (lv_at hl 1 rfl) ?_
        refine nf_getr (pc := 8) hC hinX1 hM (xS_5 (by first | assumption | omega)) rfl 3 (by decide) (List.mem_cons_of_mem _ wF_X3_104) rfl dX3_nextTowards_8 ?_
        refine lv_iload_n (pc := 11) hx hb dX3_nextTowards_11 rfl (lv_at hl 0 rfl) ?_
        refine nf_iald (pc := 12) hC hM 0 (xS_6 (by first | assumption | omega)) rfl q rfl (by omega) (by decide) dX3_nextTowards_12 ?_
        refine lv_istore_n (pc := 13) (lv' := [(3, .int (I 6 i q)), (2, .int (nI q)), (0, .ref (ad 5 i)), (1, .int ky)]) hx hb dX3_nextTowards_13 rfl hl (by decide) rfl (fun ls hl => ?_)
        refine lv_iload_n (pc := 14) hx hb dX3_nextTowards_14 rfl (lv_at hl 0 rfl) ?_
        refine lv_iconst (pc := 15) (v := -1) hx hb dX3_nextTowards_15 (by decide) ?_
        refine lv_icmp_eq (pc := 16) (tgt := 33) hx hb dX3_nextTowards_16 (by decide) (fun h1 => ?_) (fun h1 => ?_)
        · skip
          refine lv_iinc (pc := 33) (k := 1) (v := xs_pd q) (lv' := [(2, .int (xs_pd q)), (3, .int (I 6 i q)), (0, .ref (ad 5 i)), (1, .int ky)]) hx hb dX3_nextTowards_33 hl rfl (xs_pd_dec q) (by decide) rfl (fun ls hl => ?_)
          refine lv_goto (pc := 36) (tgt := 3) hx hb dX3_nextTowards_36 (by decide) ?_
          exact ihloop3 q ls _ _ (by omega) (by omega) (by rw [hf, xs_nt]; simp [h1]) hM (lv_sub hl [0, 2, 3] rfl)
        · skip
          refine lv_aload_n (pc := 19) hx hb dX3_nextTowards_19 rfl (lv_at hl 2 rfl) ?_
          refine nf_geti (pc := 20) hC hinX1 hM (xS_5 (by first | assumption | omega)) rfl 0 (by decide) (List.mem_cons_of_mem _ wF_X3_135) rfl dX3_nextTowards_20 ?_
          refine lv_iload_n (pc := 23) hx hb dX3_nextTowards_23 rfl (lv_at hl 3 rfl) ?_
          refine lv_iload_n (pc := 24) hx hb dX3_nextTowards_24 rfl (lv_at hl 0 rfl) ?_
          refine nf_calli (pc := 25) (va_runS (As := [.int (I 5 i 0), .int ky, .int (I 6 i q)]) (rest := []) hC.1 (ct_X3_isBetween) (cwS 3 hC.1.2.2.2.2 (gd_S wM_X3_196 wst_X3_isBetween wini_X3 wcode_X3_isBetween) rfl rfl rfl (by decide +kernel) ⟨by decide, by decide⟩) (nf_preS hC hM) rfl rfl hl.1 rfl (lv_room (Nat.le_of_ble_eq_true rfl)) dX3_nextTowards_25 ⟨Nat.le_refl _, Nat.le_refl _⟩) hM (fun H locs hM => ?_)
          refine lv_if_eq (pc := 28) (tgt := 33) hx hb dX3_nextTowards_28 (by decide) (fun h2 => ?_) (fun h2 => ?_)
          · have h2 := nb_0 h2
            refine lv_iinc (pc := 33) (k := 1) (v := xs_pd q) (lv' := [(2, .int (xs_pd q)), (3, .int (I 6 i q)), (0, .ref (ad 5 i)), (1, .int ky)]) hx hb dX3_nextTowards_33 hl rfl (xs_pd_dec q) (by decide) rfl (fun ls hl => ?_)
            refine lv_goto (pc := 36) (tgt := 3) hx hb dX3_nextTowards_36 (by decide) ?_
            exact ihloop3 q ls _ _ (by omega) (by omega) (by rw [hf, xs_nt]; simp [h1, h2]) hM (lv_sub hl [0, 2, 3] rfl)
          · have h2 := nb_1 h2
            refine lv_iload_n (pc := 31) hx hb dX3_nextTowards_31 rfl (lv_at hl 0 rfl) ?_
            exact hret _ _ _ _ _ _ _ _ (by rw [hf, xs_nt]; simp [h1, h2]) rfl rfl rfl hM dX3_nextTowards_32
  exact loop3 _ 8 ls _ _ (Nat.lt_succ_self _) (Nat.le_refl _) rfl hM hl
set_option maxHeartbeats 4000000 in
set_option maxRecDepth 100000 in
theorem ct_X3_passOn {i o : Nat} (hs : I 3 0 1 = nI sz) (hsz : sz < 20) (hmp : ∀ j, j < 21 → mp j < 21) (hi : i < nn) (ho : o < 21) : nf_Tv l yX3_passOn wsX3_passOn 3 66 D vwCl (xT cs) Bs (xS cs nn) ad [.ref (ad 0 0), .ref (ad 5 i), .ref (ad 8 o)] I J (xP nn mp) (xs_poI I i o (mp sz)) (xs_poJ J o (mp sz)) (xP nn mp) := by
  refine nf_enterv (cc := cX3_passOn) (maxL := 4) (by decide) rfl (Nat.le_of_ble_eq_true rfl) ?_
  intro p e s m below meth c ls Q hC hM hl hret
  have hx := hC.1.1
  have hb := hC.1.2.1
  have hl : lv_has ls 4 [(0, .ref (ad 0 0)), (1, .ref (ad 5 i)), (2, .ref (ad 8 o))] := hl
  have hinX0 : ∀ w ∈ u_ws RX0 TX0 9, w ∈ wsX3_passOn := fun w h => List.mem_cons_of_mem _ (inX0 w h)
  have hon := hmp sz (by omega)
  refine lv_aload_n (pc := 0) hx hb dX3_passOn_0 rfl (lv_at hl 0 rfl) ?_
  refine lv_aload_n (pc := 1) hx hb dX3_passOn_1 rfl (lv_at hl 1 rfl) ?_
  refine lv_aload_n (pc := 2) hx hb dX3_passOn_2 rfl (lv_at hl 2 rfl) ?_
  refine nf_geti (pc := 3) hC hinX0 hM (xS_8 (by first | assumption | omega)) rfl 4 (by decide) (List.mem_cons_of_mem _ wF_X3_156) rfl dX3_passOn_3 ?_
  refine nf_calli (pc := 6) (va_runS (As := [.ref (ad 5 i), .int (I 8 o 4)]) (rest := [.ref (ad 0 0)]) hC.1 (ct_X3_nextTowards (i := i) (ky := (I 8 o 4)) (by first | assumption | omega)) (cwS 2 hC.1.2.2.2.2 (gd_S wM_X3_192 wst_X3_nextTowards wini_X3 wcode_X3_nextTowards) rfl rfl rfl (by decide +kernel) ⟨by decide, by decide⟩) (nf_preS hC hM) rfl rfl hl.1 rfl (lv_room (Nat.le_of_ble_eq_true rfl)) dX3_passOn_6 ⟨Nat.le_refl _, Nat.le_refl _⟩) hM (fun H locs hM => ?_)
  refine lv_aload_n (pc := 9) hx hb dX3_passOn_9 rfl (lv_at hl 2 rfl) ?_
  refine nf_geti (pc := 10) hC hinX0 hM (xS_8 (by first | assumption | omega)) rfl 2 (by decide) (List.mem_cons_of_mem _ wF_X3_150) rfl dX3_passOn_10 ?_
  refine lv_aload_n (pc := 13) hx hb dX3_passOn_13 rfl (lv_at hl 2 rfl) ?_
  refine nf_geti (pc := 14) hC hinX0 hM (xS_8 (by first | assumption | omega)) rfl 3 (by decide) (List.mem_cons_of_mem _ wF_X3_153) rfl dX3_passOn_14 ?_
  refine lv_aload_n (pc := 17) hx hb dX3_passOn_17 rfl (lv_at hl 2 rfl) ?_
  refine nf_geti (pc := 18) hC hinX0 hM (xS_8 (by first | assumption | omega)) rfl 4 (by decide) (List.mem_cons_of_mem _ wF_X3_156) rfl dX3_passOn_18 ?_
  refine nf_callq (pc := 21) (va_runV (As := [.int (xs_nt I i (I 8 o 4) 8), .int (I 8 o 2), .int (I 8 o 3), .int (I 8 o 4)]) (rest := []) hC.1 (ct_X3_sendFind (tz := (xs_nt I i (I 8 o 4) 8)) (ak := (I 8 o 2)) (pu := (I 8 o 3)) (ky := (I 8 o 4)) (sz := sz) hs hsz hmp) (cwV 4 hC.1.2.2.2.2 (gd_V wM_X3_54 wi_X3_sendFind wsel_X3_sendFind wini_X3 wcode_X3_sendFind) rfl rfl rfl (by decide +kernel) ⟨by decide, by decide⟩) (nf_preV hC hM rfl rfl) rfl rfl hl.1 rfl (lv_room (Nat.le_of_ble_eq_true rfl)) dX3_passOn_21 ⟨Nat.le_refl _, Nat.le_refl _⟩) hM (fun H locs hM => ?_)
  refine W.eq (g2 := F0 m 24 ls [.ref (ad 8 (mp sz))]) rfl ?_
  refine lv_astore_n (pc := 24) (lv' := [(3, .ref (ad 8 (mp sz))), (0, .ref (ad 0 0)), (1, .ref (ad 5 i)), (2, .ref (ad 8 o))]) hx hb dX3_passOn_24 rfl hl (by decide) rfl (fun ls hl => ?_)
  refine lv_aload_n (pc := 25) hx hb dX3_passOn_25 rfl (lv_at hl 0 rfl) ?_
  refine lv_aload_n (pc := 26) hx hb dX3_passOn_26 rfl (lv_at hl 3 rfl) ?_
  refine nf_geti (pc := 27) hC hinX0 hM (xS_8 (by first | assumption | omega)) rfl 5 (by decide) (List.mem_cons_of_mem _ wF_X3_74) rfl dX3_passOn_27 ?_
  refine nf_puti (pc := 30) hC hinX0 tyX0 tyX0_ok nmX0 hM (xS_8 (by first | assumption | omega)) rfl 5 (by decide) (List.mem_cons_of_mem _ wF_X3_74) rfl (by decide +kernel) rfl dX3_passOn_30 (fun H locs hM => ?_)
  refine lv_aload_n (pc := 33) hx hb dX3_passOn_33 rfl (lv_at hl 0 rfl) ?_
  refine lv_aload_n (pc := 34) hx hb dX3_passOn_34 rfl (lv_at hl 3 rfl) ?_
  refine nf_getl (pc := 35) hC hinX0 hM (xS_8 (by first | assumption | omega)) rfl 8 (by decide) (List.mem_cons_of_mem _ wF_X3_80) rfl dX3_passOn_35 ?_
  refine nf_putl (pc := 38) hC hinX0 tyX0 tyX0_ok nmX0 hM (xS_8 (by first | assumption | omega)) rfl 8 (by decide) (List.mem_cons_of_mem _ wF_X3_80) rfl (by decide +kernel) rfl dX3_passOn_38 (fun H locs hM => ?_)
  refine lv_aload_n (pc := 41) hx hb dX3_passOn_41 rfl (lv_at hl 0 rfl) ?_
  refine lv_aload_n (pc := 42) hx hb dX3_passOn_42 rfl (lv_at hl 3 rfl) ?_
  refine nf_geti (pc := 43) hC hinX0 hM (xS_8 (by first | assumption | omega)) rfl 7 (by decide) (List.mem_cons_of_mem _ wF_X3_175) rfl dX3_passOn_43 ?_
  refine lv_iconst (pc := 46) (v := 1) hx hb dX3_passOn_46 (by decide) ?_
  refine lv_iadd (pc := 47) hx hb dX3_passOn_47 ?_
  refine nf_puti (pc := 48) hC hinX0 tyX0 tyX0_ok nmX0 hM (xS_8 (by first | assumption | omega)) rfl 7 (by decide) (List.mem_cons_of_mem _ wF_X3_175) rfl (by decide +kernel) rfl dX3_passOn_48 (fun H locs hM => ?_)
  exact hret _ _ _ _ _ _ _ rfl rfl rfl hM dX3_passOn_51
set_option maxHeartbeats 4000000 in
set_option maxRecDepth 100000 in
theorem ct_X3_findArrives {i o : Nat} (hs : I 3 0 1 = nI sz) (hsz : sz < 20) (hmp : ∀ j, j < 21 → mp j < 21) (hi : i < nn) (ho : o < 21) : nf_Tv l yX3_findArrives wsX3_findArrives 4 89 D vwCl (xT cs) Bs (xS cs nn) ad [.ref (ad 0 0), .ref (ad 5 i), .ref (ad 8 o)] I J (xP nn mp) (xs_fiI I i o (mp sz)) (xs_fiJ I J i o (mp sz)) (xP nn mp) := by
  refine nf_enterv (cc := cX3_findArrives) (maxL := 4) (by decide) rfl (Nat.le_of_ble_eq_true rfl) ?_
  intro p e s m below meth c ls Q hC hM hl hret
  have hx := hC.1.1
  have hb := hC.1.2.1
  have hl : lv_has ls 4 [(0, .ref (ad 0 0)), (1, .ref (ad 5 i)), (2, .ref (ad 8 o))] := hl
  have hinX0 : ∀ w ∈ u_ws RX0 TX0 9, w ∈ wsX3_findArrives := fun w h => List.mem_cons_of_mem _ (inX0 w h)
  have hinX1 : ∀ w ∈ u_ws RX1 TX1 7, w ∈ wsX3_findArrives := fun w h => List.mem_cons_of_mem _ (inX1 w h)
  have hinX3 : ∀ w ∈ u_ws RX3 TX3 5, w ∈ wsX3_findArrives := fun w h => List.mem_cons_of_mem _ (inX3 w h)
  have hon := hmp sz (by omega)
  refine lv_aload_n (pc := 0) hx hb dX3_findArrives_0 rfl (lv_at hl 1 rfl) ?_
  refine nf_geti (pc := 1) hC hinX1 hM (xS_5 (by first | assumption | omega)) rfl 0 (by decide) (List.mem_cons_of_mem _ wF_X3_135) rfl dX3_findArrives_1 ?_
  refine lv_aload_n (pc := 4) hx hb dX3_findArrives_4 rfl (lv_at hl 1 rfl) ?_
  refine nf_geti (pc := 5) hC hinX1 hM (xS_5 (by first | assumption | omega)) rfl 1 (by decide) (List.mem_cons_of_mem _ wF_X3_41) rfl dX3_findArrives_5 ?_
  refine lv_aload_n (pc := 8) hx hb dX3_findArrives_8 rfl (lv_at hl 2 rfl) ?_
  refine nf_geti (pc := 9) hC hinX0 hM (xS_8 (by first | assumption | omega)) rfl 4 (by decide) (List.mem_cons_of_mem _ wF_X3_156) rfl dX3_findArrives_9 ?_
  refine nf_calli (pc := 12) (va_runS (As := [.int (I 5 i 0), .int (I 5 i 1), .int (I 8 o 4)]) (rest := []) hC.1 (ct_X3_isPastUpTo) (cwS 3 hC.1.2.2.2.2 (gd_S wM_X3_185 wst_X3_isPastUpTo wini_X3 wcode_X3_isPastUpTo) rfl rfl rfl (by decide +kernel) ⟨by decide, by decide⟩) (nf_preS hC hM) rfl rfl hl.1 rfl (lv_room (Nat.le_of_ble_eq_true rfl)) dX3_findArrives_12 ⟨Nat.le_refl _, Nat.le_refl _⟩) hM (fun H locs hM => ?_)
  refine lv_if_ne (pc := 15) (tgt := 27) hx hb dX3_findArrives_15 (by decide) (fun h1 => ?_) (fun h1 => ?_)
  · have h1 := nb_1 h1
    refine lv_aload_n (pc := 27) hx hb dX3_findArrives_27 rfl (lv_at hl 2 rfl) ?_
    refine nf_geti (pc := 28) hC hinX0 hM (xS_8 (by first | assumption | omega)) rfl 3 (by decide) (List.mem_cons_of_mem _ wF_X3_153) rfl dX3_findArrives_28 ?_
    refine lv_iconst (pc := 31) (v := 3) hx hb dX3_findArrives_31 (by decide) ?_
    refine lv_icmp_ne (pc := 32) (tgt := 67) hx hb dX3_findArrives_32 (by decide) (fun h2 => ?_) (fun h2 => ?_)
    · skip
      refine lv_aload_n (pc := 67) hx hb dX3_findArrives_67 rfl (lv_at hl 2 rfl) ?_
      refine nf_geti (pc := 68) hC hinX0 hM (xS_8 (by first | assumption | omega)) rfl 3 (by decide) (List.mem_cons_of_mem _ wF_X3_153) rfl dX3_findArrives_68 ?_
      refine lv_iconst (pc := 71) (v := 4) hx hb dX3_findArrives_71 (by decide) ?_
      refine lv_icmp_ne (pc := 72) (tgt := 115) hx hb dX3_findArrives_72 (by decide) (fun h3 => ?_) (fun h3 => ?_)
      · skip
        refine lv_aload_n (pc := 115) hx hb dX3_findArrives_115 rfl (lv_at hl 0 rfl) ?_
        refine nf_getr (pc := 116) hC hinX3 hM rfl rfl 4 (by decide) (List.mem_cons_of_mem _ wF_X3_29) rfl dX3_findArrives_116 ?_
        refine lv_iconst (pc := 119) (v := 2) hx hb dX3_findArrives_119 (by decide) ?_
        refine lv_aload_n (pc := 120) hx hb dX3_findArrives_120 rfl (lv_at hl 2 rfl) ?_
        refine nf_geti (pc := 121) hC hinX0 hM (xS_8 (by first | assumption | omega)) rfl 2 (by decide) (List.mem_cons_of_mem _ wF_X3_150) rfl dX3_findArrives_121 ?_
        refine nf_callq (pc := 124) (va_runV (As := [.int 2, .int (I 8 o 2)]) (rest := []) hC.1 (ct_X2_send (kd := 2) (tz := (I 8 o 2)) (sz := sz) hs hsz hmp) (cwV 2 hC.1.2.2.2.2 (gd_V wM_X3_58 wi_X2_send wsel_X2_send wini_X2 wcode_X2_send) rfl rfl rfl (by decide +kernel) ⟨by decide, by decide⟩) (nf_preV hC hM rfl rfl) rfl rfl hl.1 rfl (lv_room (Nat.le_of_ble_eq_true rfl)) dX3_findArrives_124 ⟨Nat.le_refl _, Nat.le_refl _⟩) hM (fun H locs hM => ?_)
        refine W.eq (g2 := F0 m 127 ls [.ref (ad 8 (mp sz))]) rfl ?_
        refine lv_astore_n (pc := 127) (lv' := [(3, .ref (ad 8 (mp sz))), (0, .ref (ad 0 0)), (1, .ref (ad 5 i)), (2, .ref (ad 8 o))]) hx hb dX3_findArrives_127 rfl hl (by decide) rfl (fun ls hl => ?_)
        refine lv_aload_n (pc := 128) hx hb dX3_findArrives_128 rfl (lv_at hl 0 rfl) ?_
        refine lv_aload_n (pc := 129) hx hb dX3_findArrives_129 rfl (lv_at hl 3 rfl) ?_
        refine nf_geti (pc := 130) hC hinX0 hM (xS_8 (by first | assumption | omega)) rfl 3 (by decide) (List.mem_cons_of_mem _ wF_X3_153) rfl dX3_findArrives_130 ?_
        refine nf_puti (pc := 133) hC hinX0 tyX0 tyX0_ok nmX0 hM (xS_8 (by first | assumption | omega)) rfl 3 (by decide) (List.mem_cons_of_mem _ wF_X3_153) rfl (by decide +kernel) rfl dX3_findArrives_133 (fun H locs hM => ?_)
        refine lv_aload_n (pc := 136) hx hb dX3_findArrives_136 rfl (lv_at hl 0 rfl) ?_
        refine lv_aload_n (pc := 137) hx hb dX3_findArrives_137 rfl (lv_at hl 3 rfl) ?_
        refine nf_geti (pc := 138) hC hinX0 hM (xS_8 (by first | assumption | omega)) rfl 5 (by decide) (List.mem_cons_of_mem _ wF_X3_74) rfl dX3_findArrives_138 ?_
        refine nf_puti (pc := 141) hC hinX0 tyX0 tyX0_ok nmX0 hM (xS_8 (by first | assumption | omega)) rfl 5 (by decide) (List.mem_cons_of_mem _ wF_X3_74) rfl (by decide +kernel) rfl dX3_findArrives_141 (fun H locs hM => ?_)
        refine lv_aload_n (pc := 144) hx hb dX3_findArrives_144 rfl (lv_at hl 0 rfl) ?_
        refine lv_aload_n (pc := 145) hx hb dX3_findArrives_145 rfl (lv_at hl 2 rfl) ?_
        refine nf_geti (pc := 146) hC hinX1 hM (xS_5 (by first | assumption | omega)) rfl 1 (by decide) (List.mem_cons_of_mem _ wF_X3_41) rfl dX3_findArrives_146 ?_
        refine nf_puti (pc := 149) hC hinX0 tyX0 tyX0_ok nmX0 hM (xS_8 (by first | assumption | omega)) rfl 6 (by decide) (List.mem_cons_of_mem _ wF_X3_62) rfl (by decide +kernel) rfl dX3_findArrives_149 (fun H locs hM => ?_)
        refine lv_aload_n (pc := 152) hx hb dX3_findArrives_152 rfl (lv_at hl 0 rfl) ?_
        refine lv_aload_n (pc := 153) hx hb dX3_findArrives_153 rfl (lv_at hl 3 rfl) ?_
        refine nf_geti (pc := 154) hC hinX0 hM (xS_8 (by first | assumption | omega)) rfl 7 (by decide) (List.mem_cons_of_mem _ wF_X3_175) rfl dX3_findArrives_154 ?_
        refine nf_puti (pc := 157) hC hinX0 tyX0 tyX0_ok nmX0 hM (xS_8 (by first | assumption | omega)) rfl 7 (by decide) (List.mem_cons_of_mem _ wF_X3_175) rfl (by decide +kernel) rfl dX3_findArrives_157 (fun H locs hM => ?_)
        exact hret _ _ _ _ _ _ _ (by simp [xs_fiI, h1, h2, h3] <;> rfl) (by simp [xs_fiJ, h1, h2, h3] <;> rfl) rfl hM dX3_findArrives_160
      · skip
        refine lv_aload_n (pc := 75) hx hb dX3_findArrives_75 rfl (lv_at hl 0 rfl) ?_
        refine nf_getr (pc := 76) hC hinX3 hM rfl rfl 4 (by decide) (List.mem_cons_of_mem _ wF_X3_29) rfl dX3_findArrives_76 ?_
        refine lv_iconst (pc := 79) (v := 4) hx hb dX3_findArrives_79 (by decide) ?_
        refine lv_aload_n (pc := 80) hx hb dX3_findArrives_80 rfl (lv_at hl 1 rfl) ?_
        refine nf_geti (pc := 81) hC hinX1 hM (xS_5 (by first | assumption | omega)) rfl 1 (by decide) (List.mem_cons_of_mem _ wF_X3_41) rfl dX3_findArrives_81 ?_
        refine nf_callq (pc := 84) (va_runV (As := [.int 4, .int (I 5 i 1)]) (rest := []) hC.1 (ct_X2_send (kd := 4) (tz := (I 5 i 1)) (sz := sz) hs hsz hmp) (cwV 2 hC.1.2.2.2.2 (gd_V wM_X3_58 wi_X2_send wsel_X2_send wini_X2 wcode_X2_send) rfl rfl rfl (by decide +kernel) ⟨by decide, by decide⟩) (nf_preV hC hM rfl rfl) rfl rfl hl.1 rfl (lv_room (Nat.le_of_ble_eq_true rfl)) dX3_findArrives_84 ⟨Nat.le_refl _, Nat.le_refl _⟩) hM (fun H locs hM => ?_)
        refine W.eq (g2 := F0 m 87 ls [.ref (ad 8 (mp sz))]) rfl ?_
        refine lv_astore_n (pc := 87) (lv' := [(3, .ref (ad 8 (mp sz))), (0, .ref (ad 0 0)), (1, .ref (ad 5 i)), (2, .ref (ad 8 o))]) hx hb dX3_findArrives_87 rfl hl (by decide) rfl (fun ls hl => ?_)
        refine lv_aload_n (pc := 88) hx hb dX3_findArrives_88 rfl (lv_at hl 0 rfl) ?_
        refine lv_aload_n (pc := 89) hx hb dX3_findArrives_89 rfl (lv_at hl 3 rfl) ?_
        refine nf_geti (pc := 90) hC hinX0 hM (xS_8 (by first | assumption | omega)) rfl 4 (by decide) (List.mem_cons_of_mem _ wF_X3_156) rfl dX3_findArrives_90 ?_
        refine nf_puti (pc := 93) hC hinX0 tyX0 tyX0_ok nmX0 hM (xS_8 (by first | assumption | omega)) rfl 4 (by decide) (List.mem_cons_of_mem _ wF_X3_156) rfl (by decide +kernel) rfl dX3_findArrives_93 (fun H locs hM => ?_)
        refine lv_aload_n (pc := 96) hx hb dX3_findArrives_96 rfl (lv_at hl 0 rfl) ?_
        refine lv_aload_n (pc := 97) hx hb dX3_findArrives_97 rfl (lv_at hl 3 rfl) ?_
        refine nf_geti (pc := 98) hC hinX0 hM (xS_8 (by first | assumption | omega)) rfl 2 (by decide) (List.mem_cons_of_mem _ wF_X3_150) rfl dX3_findArrives_98 ?_
        refine nf_puti (pc := 101) hC hinX0 tyX0 tyX0_ok nmX0 hM (xS_8 (by first | assumption | omega)) rfl 2 (by decide) (List.mem_cons_of_mem _ wF_X3_150) rfl (by decide +kernel) rfl dX3_findArrives_101 (fun H locs hM => ?_)
        refine lv_aload_n (pc := 104) hx hb dX3_findArrives_104 rfl (lv_at hl 0 rfl) ?_
        refine lv_aload_n (pc := 105) hx hb dX3_findArrives_105 rfl (lv_at hl 3 rfl) ?_
        refine nf_geti (pc := 106) hC hinX0 hM (xS_8 (by first | assumption | omega)) rfl 7 (by decide) (List.mem_cons_of_mem _ wF_X3_175) rfl dX3_findArrives_106 ?_
        refine nf_puti (pc := 109) hC hinX0 tyX0 tyX0_ok nmX0 hM (xS_8 (by first | assumption | omega)) rfl 7 (by decide) (List.mem_cons_of_mem _ wF_X3_175) rfl (by decide +kernel) rfl dX3_findArrives_109 (fun H locs hM => ?_)
        refine lv_goto (pc := 112) (tgt := 160) hx hb dX3_findArrives_112 (by decide) ?_
        exact hret _ _ _ _ _ _ _ (by simp [xs_fiI, h1, h2, h3] <;> rfl) (by simp [xs_fiJ, h1, h2, h3] <;> rfl) rfl hM dX3_findArrives_160
    · skip
      refine lv_aload_n (pc := 35) hx hb dX3_findArrives_35 rfl (lv_at hl 0 rfl) ?_
      refine nf_getr (pc := 36) hC hinX3 hM rfl rfl 4 (by decide) (List.mem_cons_of_mem _ wF_X3_29) rfl dX3_findArrives_36 ?_
      refine lv_iconst (pc := 39) (v := 3) hx hb dX3_findArrives_39 (by decide) ?_
      refine lv_aload_n (pc := 40) hx hb dX3_findArrives_40 rfl (lv_at hl 1 rfl) ?_
      refine nf_geti (pc := 41) hC hinX1 hM (xS_5 (by first | assumption | omega)) rfl 1 (by decide) (List.mem_cons_of_mem _ wF_X3_41) rfl dX3_findArrives_41 ?_
      refine nf_callq (pc := 44) (va_runV (As := [.int 3, .int (I 5 i 1)]) (rest := []) hC.1 (ct_X2_send (kd := 3) (tz := (I 5 i 1)) (sz := sz) hs hsz hmp) (cwV 2 hC.1.2.2.2.2 (gd_V wM_X3_58 wi_X2_send wsel_X2_send wini_X2 wcode_X2_send) rfl rfl rfl (by decide +kernel) ⟨by decide, by decide⟩) (nf_preV hC hM rfl rfl) rfl rfl hl.1 rfl (lv_room (Nat.le_of_ble_eq_true rfl)) dX3_findArrives_44 ⟨Nat.le_refl _, Nat.le_refl _⟩) hM (fun H locs hM => ?_)
      refine W.eq (g2 := F0 m 47 ls [.ref (ad 8 (mp sz))]) rfl ?_
      refine lv_astore_n (pc := 47) (lv' := [(3, .ref (ad 8 (mp sz))), (0, .ref (ad 0 0)), (1, .ref (ad 5 i)), (2, .ref (ad 8 o))]) hx hb dX3_findArrives_47 rfl hl (by decide) rfl (fun ls hl => ?_)
      refine lv_aload_n (pc := 48) hx hb dX3_findArrives_48 rfl (lv_at hl 0 rfl) ?_
      refine lv_aload_n (pc := 49) hx hb dX3_findArrives_49 rfl (lv_at hl 3 rfl) ?_
      refine nf_geti (pc := 50) hC hinX0 hM (xS_8 (by first | assumption | omega)) rfl 4 (by decide) (List.mem_cons_of_mem _ wF_X3_156) rfl dX3_findArrives_50 ?_
      refine nf_puti (pc := 53) hC hinX0 tyX0 tyX0_ok nmX0 hM (xS_8 (by first | assumption | omega)) rfl 4 (by decide) (List.mem_cons_of_mem _ wF_X3_156) rfl (by decide +kernel) rfl dX3_findArrives_53 (fun H locs hM => ?_)
      refine lv_aload_n (pc := 56) hx hb dX3_findArrives_56 rfl (lv_at hl 0 rfl) ?_
      refine lv_aload_n (pc := 57) hx hb dX3_findArrives_57 rfl (lv_at hl 3 rfl) ?_
      refine nf_getl (pc := 58) hC hinX0 hM (xS_8 (by first | assumption | omega)) rfl 8 (by decide) (List.mem_cons_of_mem _ wF_X3_80) rfl dX3_findArrives_58 ?_
      refine nf_putl (pc := 61) hC hinX0 tyX0 tyX0_ok nmX0 hM (xS_8 (by first | assumption | omega)) rfl 8 (by decide) (List.mem_cons_of_mem _ wF_X3_80) rfl (by decide +kernel) rfl dX3_findArrives_61 (fun H locs hM => ?_)
      refine lv_goto (pc := 64) (tgt := 160) hx hb dX3_findArrives_64 (by decide) ?_
      exact hret _ _ _ _ _ _ _ (by simp [xs_fiI, h1, h2] <;> rfl) (by simp [xs_fiJ, h1, h2] <;> rfl) rfl hM dX3_findArrives_160
  · have h1 := nb_0 h1
    refine lv_aload_n (pc := 18) hx hb dX3_findArrives_18 rfl (lv_at hl 0 rfl) ?_
    refine lv_aload_n (pc := 19) hx hb dX3_findArrives_19 rfl (lv_at hl 1 rfl) ?_
    refine lv_aload_n (pc := 20) hx hb dX3_findArrives_20 rfl (lv_at hl 2 rfl) ?_
    refine nf_callv (pc := 21) (va_runV (As := [.ref (ad 5 i), .ref (ad 8 o)]) (rest := []) hC.1 (ct_X3_passOn (i := i) (o := o) (sz := sz) hs hsz hmp (by first | assumption | omega) (by first | assumption | omega)) (cwV 2 hC.1.2.2.2.2 (gd_V wM_X3_189 wi_X3_passOn wsel_X3_passOn wini_X3 wcode_X3_passOn) rfl rfl rfl (by decide +kernel) ⟨by decide, by decide⟩) (nf_preV hC hM rfl rfl) rfl rfl hl.1 rfl (lv_room (Nat.le_of_ble_eq_true rfl)) dX3_findArrives_21 ⟨Nat.le_refl _, Nat.le_refl _⟩) hM (fun H locs hM => ?_)
    refine lv_goto (pc := 24) (tgt := 160) hx hb dX3_findArrives_24 (by decide) ?_
    exact hret _ _ _ _ _ _ _ (by simp [xs_fiI, h1] <;> rfl) (by simp [xs_fiJ, h1] <;> rfl) rfl hM dX3_findArrives_160
end XA
