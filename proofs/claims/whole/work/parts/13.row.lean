/-! The row: at, send, takeOut. -/
section XR
variable {l : Launch} {D : va_G} {cs : Nat → ClassId} {Bs nn sz kc : Nat} {ad : nf_A} {I : nf_I} {J : nf_J} {mp : Nat → Nat}
set_option maxHeartbeats 4000000 in
set_option maxRecDepth 100000 in
theorem ct_X2_at {k : Int32} (hs : I 3 0 1 = nI sz) (hsz : sz ≤ 20) (hmp : ∀ j, j < 21 → mp j < 21) : nf_Tq l yX2_at wsX2_at 0 0 D vwCl (xT cs) Bs (xS cs nn) ad [.ref (ad 3 0), .int k] I J (xP nn mp) ((xs_at I mp k).map (ad 8)) I J (xP nn mp) := by
  refine nf_enterq (cc := cX2_at) (maxL := 2) (by decide) rfl (Nat.le_of_ble_eq_true rfl) ?_
  intro p e s m below meth c ls Q hC hM hl hret
  have hx := hC.1.1
  have hb := hC.1.2.1
  have hl : lv_has ls 2 [(0, .ref (ad 3 0)), (1, .int k)] := hl
  have hinX2 : ∀ w ∈ u_ws RX2 TX2 2, w ∈ wsX2_at := fun w h => List.mem_cons_of_mem _ (inX2 w h)
  refine lv_iload_n (pc := 0) hx hb dX2_at_0 rfl (lv_at hl 1 rfl) ?_
  refine lv_if_lt (pc := 1) (tgt := 21) hx hb dX2_at_1 (by decide) (fun h1 => ?_) (fun h1 => ?_)
  · skip
    refine lv_null (pc := 21) hx hb dX2_at_21 ?_
    exact hret _ _ _ _ _ _ _ _ (by simp [xs_at, va_rf, h1]) rfl rfl rfl hM dX2_at_22
  · skip
    refine lv_iload_n (pc := 4) hx hb dX2_at_4 rfl (lv_at hl 1 rfl) ?_
    refine lv_aload_n (pc := 5) hx hb dX2_at_5 rfl (lv_at hl 0 rfl) ?_
    refine nf_geti (pc := 6) hC hinX2 hM rfl rfl 1 (by decide) (List.mem_cons_of_mem _ wF_X2_17) rfl dX2_at_6 ?_
    refine lv_icmp_ge (pc := 9) (tgt := 21) hx hb dX2_at_9 (by decide) (fun h2 => ?_) (fun h2 => ?_)
    · skip
      refine lv_null (pc := 21) hx hb dX2_at_21 ?_
      exact hret _ _ _ _ _ _ _ _ (by simp [xs_at, va_rf, h1, h2]) rfl rfl rfl hM dX2_at_22
    · skip
      obtain ⟨kn, hkn, hke⟩ := nk_ix (n := sz) h1 (by rw [← hs]; exact h2) (by omega)
      refine lv_aload_n (pc := 12) hx hb dX2_at_12 rfl (lv_at hl 0 rfl) ?_
      refine nf_getr (pc := 13) hC hinX2 hM rfl rfl 0 (by decide) (List.mem_cons_of_mem _ wF_X2_11) rfl dX2_at_13 ?_
      refine lv_iload_n (pc := 16) hx hb dX2_at_16 rfl (lv_at hl 1 rfl) ?_
      refine nf_aald (pc := 17) hC hM 3 rfl rfl kn hke (by omega) (by decide) (xP_4 (by first | assumption | omega)) dX2_at_17 ?_
      refine lv_goto (pc := 18) (tgt := 22) hx hb dX2_at_18 (by decide) ?_
      exact hret _ _ _ _ _ _ _ _ (by rw [xs_at, if_neg h1, if_neg h2, hke, nI_clamp (by omega)]; rfl) rfl rfl rfl hM dX2_at_22
set_option maxHeartbeats 4000000 in
set_option maxRecDepth 100000 in
theorem ct_X2_send {kd tz : Int32} (hs : I 3 0 1 = nI sz) (hsz : sz < 20) (hmp : ∀ j, j < 21 → mp j < 21) : nf_Tq l yX2_send wsX2_send 0 0 D vwCl (xT cs) Bs (xS cs nn) ad [.ref (ad 3 0), .int kd, .int tz] I J (xP nn mp) (some (ad 8 (mp sz))) (xs_sI I (mp sz) kd tz) (xs_sJ J (mp sz)) (xP nn mp) := by
  refine nf_enterq (cc := cX2_send) (maxL := 4) (by decide) rfl (Nat.le_of_ble_eq_true rfl) ?_
  intro p e s m below meth c ls Q hC hM hl hret
  have hx := hC.1.1
  have hb := hC.1.2.1
  have hl : lv_has ls 4 [(0, .ref (ad 3 0)), (1, .int kd), (2, .int tz)] := hl
  have hinX0 : ∀ w ∈ u_ws RX0 TX0 9, w ∈ wsX2_send := fun w h => List.mem_cons_of_mem _ (inX0 w h)
  have hinX2 : ∀ w ∈ u_ws RX2 TX2 2, w ∈ wsX2_send := fun w h => List.mem_cons_of_mem _ (inX2 w h)
  refine lv_aload_n (pc := 0) hx hb dX2_send_0 rfl (lv_at hl 0 rfl) ?_
  refine nf_getr (pc := 1) hC hinX2 hM rfl rfl 0 (by decide) (List.mem_cons_of_mem _ wF_X2_11) rfl dX2_send_1 ?_
  refine lv_aload_n (pc := 4) hx hb dX2_send_4 rfl (lv_at hl 0 rfl) ?_
  refine nf_geti (pc := 5) hC hinX2 hM rfl rfl 1 (by decide) (List.mem_cons_of_mem _ wF_X2_17) rfl dX2_send_5 ?_
  refine nf_aald (pc := 8) hC hM 3 rfl rfl sz hs (by omega) (by decide) (xP_4 (by first | assumption | omega)) dX2_send_8 ?_
  have ho := hmp sz (by omega)
  refine lv_astore_n (pc := 9) (lv' := [(3, .ref (ad 8 (mp sz))), (0, .ref (ad 3 0)), (1, .int kd), (2, .int tz)]) hx hb dX2_send_9 rfl hl (by decide) rfl (fun ls hl => ?_)
  refine lv_aload_n (pc := 10) hx hb dX2_send_10 rfl (lv_at hl 1 rfl) ?_
  refine nf_geti (pc := 11) hC hinX2 hM rfl rfl 1 (by decide) (List.mem_cons_of_mem _ wF_X2_17) rfl dX2_send_11 ?_
  refine lv_bipush (pc := 14) (v := 20) hx hb dX2_send_14 (by decide) ?_
  refine lv_icmp_ge (pc := 16) (tgt := 29) hx hb dX2_send_16 (by decide) (fun hh => absurd hh (nk_nge hs hsz (by decide))) (fun _ => ?_)
  refine lv_aload_n (pc := 19) hx hb dX2_send_19 rfl (lv_at hl 1 rfl) ?_
  refine lv_dup (pc := 20) hx hb dX2_send_20 rfl ?_
  refine nf_geti (pc := 21) hC hinX2 hM rfl rfl 1 (by decide) (List.mem_cons_of_mem _ wF_X2_17) rfl dX2_send_21 ?_
  refine lv_iconst (pc := 24) (v := 1) hx hb dX2_send_24 (by decide) ?_
  refine lv_iadd (pc := 25) hx hb dX2_send_25 ?_
  refine nf_puti (pc := 26) hC hinX2 tyX2 tyX2_ok nmX2 hM rfl rfl 1 (by decide) (List.mem_cons_of_mem _ wF_X2_17) rfl (by decide +kernel) rfl dX2_send_26 (fun H locs hM => ?_)
  refine lv_aload_n (pc := 29) hx hb dX2_send_29 rfl (lv_at hl 0 rfl) ?_
  refine lv_iload_n (pc := 30) hx hb dX2_send_30 rfl (lv_at hl 2 rfl) ?_
  refine nf_puti (pc := 31) hC hinX0 tyX0 tyX0_ok nmX0 hM (xS_8 (by first | assumption | omega)) rfl 0 (by decide) (List.mem_cons_of_mem _ wF_X2_26) rfl (by decide +kernel) rfl dX2_send_31 (fun H locs hM => ?_)
  refine lv_aload_n (pc := 34) hx hb dX2_send_34 rfl (lv_at hl 0 rfl) ?_
  refine lv_iload_n (pc := 35) hx hb dX2_send_35 rfl (lv_at hl 3 rfl) ?_
  refine nf_puti (pc := 36) hC hinX0 tyX0 tyX0_ok nmX0 hM (xS_8 (by first | assumption | omega)) rfl 1 (by decide) (List.mem_cons_of_mem _ wF_X2_29) rfl (by decide +kernel) rfl dX2_send_36 (fun H locs hM => ?_)
  refine lv_aload_n (pc := 39) hx hb dX2_send_39 rfl (lv_at hl 0 rfl) ?_
  refine lv_iconst (pc := 40) (v := -1) hx hb dX2_send_40 (by decide) ?_
  refine nf_puti (pc := 41) hC hinX0 tyX0 tyX0_ok nmX0 hM (xS_8 (by first | assumption | omega)) rfl 2 (by decide) (List.mem_cons_of_mem _ wF_X2_32) rfl (by decide +kernel) rfl dX2_send_41 (fun H locs hM => ?_)
  refine lv_aload_n (pc := 44) hx hb dX2_send_44 rfl (lv_at hl 0 rfl) ?_
  refine lv_iconst (pc := 45) (v := 0) hx hb dX2_send_45 (by decide) ?_
  refine nf_puti (pc := 46) hC hinX0 tyX0 tyX0_ok nmX0 hM (xS_8 (by first | assumption | omega)) rfl 3 (by decide) (List.mem_cons_of_mem _ wF_X2_35) rfl (by decide +kernel) rfl dX2_send_46 (fun H locs hM => ?_)
  refine lv_aload_n (pc := 49) hx hb dX2_send_49 rfl (lv_at hl 0 rfl) ?_
  refine lv_iconst (pc := 50) (v := -1) hx hb dX2_send_50 (by decide) ?_
  refine nf_puti (pc := 51) hC hinX0 tyX0 tyX0_ok nmX0 hM (xS_8 (by first | assumption | omega)) rfl 4 (by decide) (List.mem_cons_of_mem _ wF_X2_38) rfl (by decide +kernel) rfl dX2_send_51 (fun H locs hM => ?_)
  refine lv_aload_n (pc := 54) hx hb dX2_send_54 rfl (lv_at hl 0 rfl) ?_
  refine lv_iconst (pc := 55) (v := -1) hx hb dX2_send_55 (by decide) ?_
  refine nf_puti (pc := 56) hC hinX0 tyX0 tyX0_ok nmX0 hM (xS_8 (by first | assumption | omega)) rfl 5 (by decide) (List.mem_cons_of_mem _ wF_X2_41) rfl (by decide +kernel) rfl dX2_send_56 (fun H locs hM => ?_)
  refine lv_aload_n (pc := 59) hx hb dX2_send_59 rfl (lv_at hl 0 rfl) ?_
  refine lv_iconst (pc := 60) (v := -1) hx hb dX2_send_60 (by decide) ?_
  refine nf_puti (pc := 61) hC hinX0 tyX0 tyX0_ok nmX0 hM (xS_8 (by first | assumption | omega)) rfl 6 (by decide) (List.mem_cons_of_mem _ wF_X2_44) rfl (by decide +kernel) rfl dX2_send_61 (fun H locs hM => ?_)
  refine lv_aload_n (pc := 64) hx hb dX2_send_64 rfl (lv_at hl 0 rfl) ?_
  refine lv_iconst (pc := 65) (v := 0) hx hb dX2_send_65 (by decide) ?_
  refine nf_puti (pc := 66) hC hinX0 tyX0 tyX0_ok nmX0 hM (xS_8 (by first | assumption | omega)) rfl 7 (by decide) (List.mem_cons_of_mem _ wF_X2_47) rfl (by decide +kernel) rfl dX2_send_66 (fun H locs hM => ?_)
  refine lv_aload_n (pc := 69) hx hb dX2_send_69 rfl (lv_at hl 0 rfl) ?_
  refine lv_lconst (pc := 70) (v := 0) hx hb dX2_send_70 (by decide) ?_
  refine nf_putl (pc := 71) hC hinX0 tyX0 tyX0_ok nmX0 hM (xS_8 (by first | assumption | omega)) rfl 8 (by decide) (List.mem_cons_of_mem _ wF_X2_50) rfl (by decide +kernel) rfl dX2_send_71 (fun H locs hM => ?_)
  refine lv_aload_n (pc := 74) hx hb dX2_send_74 rfl (lv_at hl 0 rfl) ?_
  exact hret _ _ _ _ _ _ _ _ rfl rfl rfl rfl hM dX2_send_75
set_option maxHeartbeats 4000000 in
set_option maxRecDepth 100000 in
theorem ct_X2_takeOut {k : Int32} (hs : I 3 0 1 = nI sz) (hsz : sz ≤ 20) (hmp : ∀ j, j < 21 → mp j < 21) : nf_Tq l yX2_takeOut wsX2_takeOut 1 21 D vwCl (xT cs) Bs (xS cs nn) ad [.ref (ad 3 0), .int k] I J (xP nn mp) ((xs_at I mp k).map (ad 8)) (xs_toI I mp k) J (xP nn (xs_toM I mp k)) := by
  refine nf_enterq (cc := cX2_takeOut) (maxL := 4) (by decide) rfl (Nat.le_of_ble_eq_true rfl) ?_
  intro p e s m below meth c ls Q hC hM hl hret
  have hx := hC.1.1
  have hb := hC.1.2.1
  have hl : lv_has ls 4 [(0, .ref (ad 3 0)), (1, .int k)] := hl
  have hinX2 : ∀ w ∈ u_ws RX2 TX2 2, w ∈ wsX2_takeOut := fun w h => List.mem_cons_of_mem _ (inX2 w h)
  refine lv_aload_n (pc := 0) hx hb dX2_takeOut_0 rfl (lv_at hl 0 rfl) ?_
  refine lv_iload_n (pc := 1) hx hb dX2_takeOut_1 rfl (lv_at hl 1 rfl) ?_
  refine nf_callq (pc := 2) (va_runV (As := [.int k]) (rest := []) hC.1 (ct_X2_at (k := k) hs (by omega) hmp) (cwV 1 hC.1.2.2.2.2 (gd_V wM_X2_22 wi_X2_at wsel_X2_at wini_X2 wcode_X2_at) rfl rfl rfl (by decide +kernel) ⟨by decide, by decide⟩) (nf_preV hC hM rfl rfl) rfl rfl hl.1 rfl (lv_room (Nat.le_of_ble_eq_true rfl)) dX2_takeOut_2 ⟨Nat.le_refl _, Nat.le_refl _⟩) hM (fun H locs hM => ?_)
  cases hq1 : xs_at I mp k with
  | none =>
    simp only [hq1, Option.map_none, va_rf]
    refine lv_astore_nN (pc := 5) (lv' := [(2, .null), (0, .ref (ad 3 0)), (1, .int k)]) hx hb dX2_takeOut_5 rfl hl (by decide) rfl (fun ls hl => ?_)
    refine lv_aload_nN (pc := 6) hx hb dX2_takeOut_6 rfl (lv_at hl 0 rfl) ?_
    refine lv_ifnonnullN (pc := 7) hx hb dX2_takeOut_7 ?_
    refine lv_null (pc := 10) hx hb dX2_takeOut_10 ?_
    exact hret _ _ _ _ _ _ _ _ (by rw [hq1]; rfl) (by simp [xs_toI, hq1]) rfl (by simp [xs_toM, hq1]) hM dX2_takeOut_11
  | some i2 =>
    simp only [hq1, Option.map_some, va_rf]
    have hq1l := xs_at_lt hs (by omega) hmp hq1
    refine lv_astore_n (pc := 5) (lv' := [(2, .ref (ad 8 i2)), (0, .ref (ad 3 0)), (1, .int k)]) hx hb dX2_takeOut_5 rfl hl (by decide) rfl (fun ls hl => ?_)
    refine lv_aload_n (pc := 6) hx hb dX2_takeOut_6 rfl (lv_at hl 0 rfl) ?_
    refine lv_ifnonnull (pc := 7) (tgt := 12) hx hb dX2_takeOut_7 (by decide) ?_
    obtain ⟨kn, hkn, hke, hko⟩ := xs_at_ix hs (by omega) hq1
    have hM : nf_M D vwCl Bs (xS cs nn) ad I J (xP nn (xs_sh mp kn kn)) s.heap H locs := by rw [xs_sh_0]; exact hM
    have hl : lv_has ls 4 [(2, .ref (ad 8 i2)), (0, .ref (ad 3 0)), (1, .int (nI kn))] := by rw [← hke]; exact hl
    refine lv_iload_n (pc := 12) hx hb dX2_takeOut_12 rfl (lv_at hl 2 rfl) ?_
    refine lv_istore_n (pc := 13) (lv' := [(3, .int (nI kn)), (2, .ref (ad 8 i2)), (0, .ref (ad 3 0)), (1, .int (nI kn))]) hx hb dX2_takeOut_13 rfl hl (by decide) rfl (fun ls hl => ?_)
    have loop14 : ∀ (n : Nat) (j : Nat) (ls : Array Slot) (H : Heap) (locs : List Loc), 20 - j < n → (kn ≤ j) → (j ≤ 20) → nf_M D vwCl Bs (xS cs nn) ad I J (xP nn (xs_sh mp kn j)) s.heap H locs → lv_has ls 4 [(3, .int (nI j)), (2, .ref (ad 8 i2)), (0, .ref (ad 3 0)), (1, .int (nI kn))] → W p l e (nf_Rm 1 21) s m ([.ref (ad 3 0), .int k] : List Value).toArray below meth c H locs 0 0 Q (F0 m 14 ls []) := by
      intro n
      induction n with
      | zero => exact fun _ _ _ _ hmz => absurd hmz (Nat.not_lt_zero _)
      | succ n ihloop14 =>
        intro j ls H locs hmz hkj hj20 hM hl
        refine lv_iload_n (pc := 14) hx hb dX2_takeOut_14 rfl (lv_at hl 0 rfl) ?_
        refine lv_bipush (pc := 15) (v := nI 20) hx hb dX2_takeOut_15 (by decide) ?_
        refine lv_icmp_ge (pc := 17) (tgt := 40) hx hb dX2_takeOut_17 (by decide) (fun hh => ?_) (fun hh => ?_)
        · have hj3 : 20 ≤ j := (nI_leI (by omega) (by omega)).mp (by exact hh)
          obtain rfl : j = 20 := by omega
          refine lv_aload_n (pc := 40) hx hb dX2_takeOut_40 rfl (lv_at hl 2 rfl) ?_
          refine nf_getr (pc := 41) hC hinX2 hM rfl rfl 0 (by decide) (List.mem_cons_of_mem _ wF_X2_11) rfl dX2_takeOut_41 ?_
          refine lv_bipush (pc := 44) (v := 20) hx hb dX2_takeOut_44 (by decide) ?_
          refine lv_aload_n (pc := 46) hx hb dX2_takeOut_46 rfl (lv_at hl 1 rfl) ?_
          refine nf_aast (pc := 47) hC hM 3 rfl rfl (xS_8 (by first | assumption | omega)) rfl 20 rfl (by omega) (by decide) dX2_takeOut_47 (fun H locs hM => ?_)
          rw [xP_put (by omega)] at hM
          refine lv_aload_n (pc := 48) hx hb dX2_takeOut_48 rfl (lv_at hl 2 rfl) ?_
          refine lv_dup (pc := 49) hx hb dX2_takeOut_49 rfl ?_
          refine nf_geti (pc := 50) hC hinX2 hM rfl rfl 1 (by decide) (List.mem_cons_of_mem _ wF_X2_17) rfl dX2_takeOut_50 ?_
          refine lv_iconst (pc := 53) (v := 1) hx hb dX2_takeOut_53 (by decide) ?_
          refine lv_isub (pc := 54) hx hb dX2_takeOut_54 ?_
          refine nf_puti (pc := 55) hC hinX2 tyX2 tyX2_ok nmX2 hM rfl rfl 1 (by decide) (List.mem_cons_of_mem _ wF_X2_17) rfl (by decide +kernel) rfl dX2_takeOut_55 (fun H locs hM => ?_)
          refine lv_aload_n (pc := 58) hx hb dX2_takeOut_58 rfl (lv_at hl 1 rfl) ?_
          exact hret _ _ _ _ _ _ _ _ (by rw [hq1]; rfl) (by simp [xs_toI, hq1]) rfl (by unfold xs_toM; rw [hq1]; simp only [xs_tk, hke]; rw [nI_clamp (by omega), hko]) hM dX2_takeOut_59
        · have hj3 : j < 20 := Nat.lt_of_not_le (fun z => hh (by exact (nI_leI (by omega) (by omega)).mpr z))
          have hsx := xs_sh_lt (k := kn) (j := j) (c := j + 1) hmp (by omega) (by omega)
          refine lv_aload_n (pc := 20) hx hb dX2_takeOut_20 rfl (lv_at hl 2 rfl) ?_
          refine nf_getr (pc := 21) hC hinX2 hM rfl rfl 0 (by decide) (List.mem_cons_of_mem _ wF_X2_11) rfl dX2_takeOut_21 ?_
          refine lv_iload_n (pc := 24) hx hb dX2_takeOut_24 rfl (lv_at hl 0 rfl) ?_
          refine lv_aload_n (pc := 25) hx hb dX2_takeOut_25 rfl (lv_at hl 2 rfl) ?_
          refine nf_getr (pc := 26) hC hinX2 hM rfl rfl 0 (by decide) (List.mem_cons_of_mem _ wF_X2_11) rfl dX2_takeOut_26 ?_
          refine lv_iload_n (pc := 29) hx hb dX2_takeOut_29 rfl (lv_at hl 0 rfl) ?_
          refine lv_iconst (pc := 30) (v := 1) hx hb dX2_takeOut_30 (by decide) ?_
          refine lv_iadd (pc := 31) hx hb dX2_takeOut_31 ?_
          refine nf_aald (pc := 32) hC hM 3 rfl rfl ((j + 1)) (nI_1 _) (by omega) (by decide) (xP_4 (by omega)) dX2_takeOut_32 ?_
          refine nf_aast (pc := 33) hC hM 3 rfl rfl (xS_8 (by first | assumption | omega)) rfl j rfl (by omega) (by decide) dX2_takeOut_33 (fun H locs hM => ?_)
          rw [xP_put (by omega), xs_sh_s mp hkj] at hM
          refine lv_iinc (pc := 34) (k := 0) (v := nI (j + 1)) (lv' := [(3, .int (nI (j + 1))), (2, .ref (ad 8 i2)), (0, .ref (ad 3 0)), (1, .int (nI kn))]) hx hb dX2_takeOut_34 hl rfl (nI_1 _) (by decide) rfl (fun ls hl => ?_)
          refine lv_goto (pc := 37) (tgt := 14) hx hb dX2_takeOut_37 (by decide) ?_
          exact ihloop14 (j + 1) ls _ _ (by omega) (by omega) (by omega) hM hl
    exact loop14 _ kn ls _ _ (Nat.lt_succ_self _) (Nat.le_refl _) (by omega) hM hl
end XR
