/-! The model: handOver, notified. -/
section YG
variable {l : Launch} {D : va_G} {cs : Nat → ClassId} {Bs nn rwn kp : Nat} {ad : nf_A} {I : nf_I} {J : nf_J} {P : nf_P}
set_option maxHeartbeats 4000000 in
set_option maxRecDepth 100000 in
theorem ct_X4_handOver {nv mv : Int32} {F : Nat} (hkp : I 20 0 7 = nI kp) (hk2 : kp ≤ 120) (hok0 : ys_hok nv mv F 0 I) : nf_Tv l yX4_handOver wsX4_handOver 2 48 D vwCl (xT cs) Bs (xS cs nn) ad [.ref (ad 20 0), .int nv, .int mv] I J P (ys_ho nv mv F 0 I) J P := by
  refine nf_enterv (cc := cX4_handOver) (maxL := 6) (by decide) rfl (Nat.le_of_ble_eq_true rfl) ?_
  intro p e s m below meth c ls Q hC hM hl hret
  have hx := hC.1.1
  have hb := hC.1.2.1
  have hl : lv_has ls 6 [(0, .ref (ad 20 0)), (1, .int nv), (2, .int mv)] := hl
  have hinX4 : ∀ w ∈ u_ws RX4 TX4 22, w ∈ wsX4_handOver := fun w h => List.mem_cons_of_mem _ (inX4 w h)
  obtain ⟨Z, hZ⟩ : ∃ Z, Z = ys_ho nv mv F 0 I := ⟨_, rfl⟩
  refine lv_iconst (pc := 0) (v := 0) hx hb dX4_handOver_0 (by decide) ?_
  refine lv_istore_n (pc := 1) (lv' := [(3, .int 0), (0, .ref (ad 20 0)), (1, .int nv), (2, .int mv)]) hx hb dX4_handOver_1 rfl hl (by decide) rfl (fun ls hl => ?_)
  have loop2 : ∀ (n : Nat) (f : Nat) (k : Nat) (I2 : nf_I) (kq : Nat) (ls : Array Slot) (H : Heap) (locs : List Loc), f < n → (I2 20 0 7 = nI kq) → (kq ≤ 120) → (ys_hok nv mv f k I2) → (Z = ys_ho nv mv f k I2) → (k ≤ 120) → nf_M D vwCl Bs (xS cs nn) ad I2 J P s.heap H locs → lv_has ls 6 [(3, .int (nI k)), (0, .ref (ad 20 0)), (1, .int nv), (2, .int mv)] → W p l e (nf_Rm 2 48) s m ([.ref (ad 20 0), .int nv, .int mv] : List Value).toArray below meth c H locs 0 0 Q (F0 m 2 ls []) := by
    intro n
    induction n with
    | zero => exact fun _ _ _ _ _ _ _ hmz => absurd hmz (Nat.not_lt_zero _)
    | succ n ihloop2 =>
      intro f k I2 kq ls H locs hmz hkp2 hkq hok hf hkk hM hl
      cases f with
      | zero => exact hok.elim
      | succ f =>
        have hkn : ys_kpn I2 = kq := by unfold ys_kpn; rw [hkp2, nI_clamp (by omega)]
        unfold ys_hok at hok
        unfold ys_ho at hf
        rw [hkn] at hok hf
        refine lv_iload_n (pc := 2) hx hb dX4_handOver_2 rfl (lv_at hl 0 rfl) ?_
        refine lv_aload_n (pc := 3) hx hb dX4_handOver_3 rfl (lv_at hl 1 rfl) ?_
        refine nf_geti (pc := 4) hC hinX4 hM rfl rfl 7 (by decide) (List.mem_cons_of_mem _ wF_X4_96) rfl dX4_handOver_4 ?_
        refine lv_icmp_ge (pc := 7) (tgt := 75) hx hb dX4_handOver_7 (by decide) (fun hh => ?_) (fun hh => ?_)
        · have hj1 : kq ≤ k := (nI_leI (by omega) (by omega)).mp (by rw [hkp2] at hh; exact hh)
          rw [if_pos hj1] at hf
          exact hret _ _ _ _ _ _ _ (hf.symm.trans hZ) rfl rfl hM dX4_handOver_75
        · have hj1 : k < kq := Nat.lt_of_not_le (fun z => hh (by rw [hkp2]; exact (nI_leI (by omega) (by omega)).mpr z))
          rw [if_neg (Nat.not_le.mpr hj1)] at hf hok
          refine lv_aload_n (pc := 10) hx hb dX4_handOver_10 rfl (lv_at hl 1 rfl) ?_
          refine nf_getr (pc := 11) hC hinX4 hM rfl rfl 8 (by decide) (List.mem_cons_of_mem _ wF_X4_29) rfl dX4_handOver_11 ?_
          refine lv_iload_n (pc := 14) hx hb dX4_handOver_14 rfl (lv_at hl 0 rfl) ?_
          refine nf_iald (pc := 15) hC hM 0 rfl rfl k rfl (by omega) (by decide) dX4_handOver_15 ?_
          refine lv_iload_n (pc := 16) hx hb dX4_handOver_16 rfl (lv_at hl 2 rfl) ?_
          refine lv_icmp_ne (pc := 17) (tgt := 69) hx hb dX4_handOver_17 (by decide) (fun h1 => ?_) (fun h1 => ?_)
          · skip
            rw [if_neg h1] at hf hok
            refine lv_iinc (pc := 69) (k := 0) (v := nI (k + 1)) (lv' := [(3, .int (nI (k + 1))), (0, .ref (ad 20 0)), (1, .int nv), (2, .int mv)]) hx hb dX4_handOver_69 hl rfl (nI_1 _) (by decide) rfl (fun ls hl => ?_)
            refine lv_goto (pc := 72) (tgt := 2) hx hb dX4_handOver_72 (by decide) ?_
            exact ihloop2 f (k + 1) I2 kq ls _ _ (by omega) hkp2 hkq hok hf (by omega) hM hl
          · skip
            rw [if_pos h1] at hf hok
            refine lv_aload_n (pc := 20) hx hb dX4_handOver_20 rfl (lv_at hl 1 rfl) ?_
            refine nf_getr (pc := 21) hC hinX4 hM rfl rfl 9 (by decide) (List.mem_cons_of_mem _ wF_X4_32) rfl dX4_handOver_21 ?_
            refine lv_iload_n (pc := 24) hx hb dX4_handOver_24 rfl (lv_at hl 0 rfl) ?_
            refine nf_iald (pc := 25) hC hM 0 rfl rfl k rfl (by omega) (by decide) dX4_handOver_25 ?_
            refine lv_iload_n (pc := 26) hx hb dX4_handOver_26 rfl (lv_at hl 3 rfl) ?_
            refine lv_iload_n (pc := 27) hx hb dX4_handOver_27 rfl (lv_at hl 2 rfl) ?_
            refine nf_calli (pc := 28) (va_runS (As := [.int (I2 28 0 k), .int mv, .int nv]) (rest := []) hC.1 (ct_X4_past) (cwS 3 hC.1.2.2.2.2 (gd_S wM_X4_71 wst_X4_past wini_X4 wcode_X4_past) rfl rfl rfl (by decide +kernel) ⟨by decide, by decide⟩) (nf_preS hC hM) rfl rfl hl.1 rfl (lv_room (Nat.le_of_ble_eq_true rfl)) dX4_handOver_28 ⟨Nat.le_refl _, Nat.le_refl _⟩) hM (fun H locs hM => ?_)
            refine lv_if_ne (pc := 31) (tgt := 69) hx hb dX4_handOver_31 (by decide) (fun h2 => ?_) (fun h2 => ?_)
            · have h2 := nb_1 h2
              rw [if_neg (by rw [h2]; decide)] at hf hok
              refine lv_iinc (pc := 69) (k := 0) (v := nI (k + 1)) (lv' := [(3, .int (nI (k + 1))), (0, .ref (ad 20 0)), (1, .int nv), (2, .int mv)]) hx hb dX4_handOver_69 hl rfl (nI_1 _) (by decide) rfl (fun ls hl => ?_)
              refine lv_goto (pc := 72) (tgt := 2) hx hb dX4_handOver_72 (by decide) ?_
              exact ihloop2 f (k + 1) I2 kq ls _ _ (by omega) hkp2 hkq hok hf (by omega) hM hl
            · have h2 := nb_0 h2
              rw [if_pos h2] at hf hok
              obtain ⟨kq2, hkq2, hkp3⟩ := ys_hs_kp (m := mv) hkp2 hkq hj1
              refine lv_aload_n (pc := 34) hx hb dX4_handOver_34 rfl (lv_at hl 1 rfl) ?_
              refine nf_getr (pc := 35) hC hinX4 hM rfl rfl 9 (by decide) (List.mem_cons_of_mem _ wF_X4_32) rfl dX4_handOver_35 ?_
              refine lv_iload_n (pc := 38) hx hb dX4_handOver_38 rfl (lv_at hl 0 rfl) ?_
              refine nf_iald (pc := 39) hC hM 0 rfl rfl k rfl (by omega) (by decide) dX4_handOver_39 ?_
              refine lv_istore (pc := 40) (lv' := [(4, .int (I2 28 0 k)), (3, .int (nI k)), (0, .ref (ad 20 0)), (1, .int nv), (2, .int mv)]) hx hb dX4_handOver_40 hl (by decide) rfl (fun ls hl => ?_)
              refine lv_aload_n (pc := 42) hx hb dX4_handOver_42 rfl (lv_at hl 2 rfl) ?_
              refine nf_getr (pc := 43) hC hinX4 hM rfl rfl 10 (by decide) (List.mem_cons_of_mem _ wF_X4_35) rfl dX4_handOver_43 ?_
              refine lv_iload_n (pc := 46) hx hb dX4_handOver_46 rfl (lv_at hl 1 rfl) ?_
              refine nf_iald (pc := 47) hC hM 0 rfl rfl k rfl (by omega) (by decide) dX4_handOver_47 ?_
              refine lv_istore (pc := 48) (lv' := [(5, .int (I2 29 0 k)), (4, .int (I2 28 0 k)), (3, .int (nI k)), (0, .ref (ad 20 0)), (1, .int nv), (2, .int mv)]) hx hb dX4_handOver_48 hl (by decide) rfl (fun ls hl => ?_)
              refine lv_aload_n (pc := 50) hx hb dX4_handOver_50 rfl (lv_at hl 3 rfl) ?_
              refine lv_iload_n (pc := 51) hx hb dX4_handOver_51 rfl (lv_at hl 2 rfl) ?_
              refine nf_callv (pc := 52) (va_runV (As := [.int (nI k)]) (rest := []) hC.1 (ct_X4_dropEntry (q := k) (kp := kq) hkp2 (by omega) (by omega)) (cwV 1 hC.1.2.2.2.2 (gd_V wM_X4_103 wi_X4_dropEntry wsel_X4_dropEntry wini_X4 wcode_X4_dropEntry) rfl rfl rfl (by decide +kernel) ⟨by decide, by decide⟩) (nf_preV hC hM rfl rfl) rfl rfl hl.1 rfl (lv_room (Nat.le_of_ble_eq_true rfl)) dX4_handOver_52 ⟨Nat.le_refl _, Nat.le_refl _⟩) hM (fun H locs hM => ?_)
              refine lv_aload_n (pc := 55) hx hb dX4_handOver_55 rfl (lv_at hl 3 rfl) ?_
              refine lv_iload_n (pc := 56) hx hb dX4_handOver_56 rfl (lv_at hl 5 rfl) ?_
              refine lv_iload (pc := 57) hx hb dX4_handOver_57 (lv_at hl 1 rfl) ?_
              refine lv_iload (pc := 59) hx hb dX4_handOver_59 (lv_at hl 0 rfl) ?_
              refine nf_callv (pc := 61) (va_runV (As := [.int mv, .int (I2 28 0 k), .int (I2 29 0 k)]) (rest := []) hC.1 (ct_X4_keep (mb := mv) (wd := (I2 28 0 k)) (v := (I2 29 0 k)) (kp := kq - 1) (ys_dr_kp hkp2 (by omega)) (by omega) (fun _ => by omega)) (cwV 3 hC.1.2.2.2.2 (gd_V wM_X4_107 wi_X4_keep wsel_X4_keep wini_X4 wcode_X4_keep) rfl rfl rfl (by decide +kernel) ⟨by decide, by decide⟩) (nf_preV hC hM rfl rfl) rfl rfl hl.1 rfl (lv_room (Nat.le_of_ble_eq_true rfl)) dX4_handOver_61 ⟨Nat.le_refl _, Nat.le_refl _⟩) hM (fun H locs hM => ?_)
              have hM : nf_M D vwCl Bs (xS cs nn) ad (ys_hs I2 mv k) J P s.heap H locs := by rw [ys_hs, hkn]; exact hM
              refine lv_iconst (pc := 64) (v := 0) hx hb dX4_handOver_64 (by decide) ?_
              refine lv_istore_n (pc := 65) (lv' := [(3, .int 0), (5, .int (I2 29 0 k)), (4, .int (I2 28 0 k)), (0, .ref (ad 20 0)), (1, .int nv), (2, .int mv)]) hx hb dX4_handOver_65 rfl hl (by decide) rfl (fun ls hl => ?_)
              refine lv_goto (pc := 66) (tgt := 2) hx hb dX4_handOver_66 (by decide) ?_
              exact ihloop2 f 0 (ys_hs I2 mv k) kq2 ls _ _ (by omega) hkp3 hkq2 hok hf (by omega) hM (lv_sub hl [0, 3, 4, 5] rfl)
  exact loop2 _ F 0 I kp ls _ _ (Nat.lt_succ_self _) hkp hk2 hok0 hZ (by omega) hM hl
set_option maxHeartbeats 4000000 in
set_option maxRecDepth 100000 in
theorem ct_X4_notified {nd : Nat} {F : Nat} (hkp : I 20 0 7 = nI kp) (hk2 : kp ≤ 120) (hnd : nd < 256) (hok0 : True → ys_hok (nI nd) (I 36 0 20) F 0 (nf_iu I 23 0 nd (I 36 0 20))) : nf_Tv l yX4_notified wsX4_notified 3 73 D vwCl (xT cs) Bs (xS cs nn) ad [.ref (ad 20 0), .int (nI nd)] I J P (ys_noI I nd F) J P := by
  refine nf_enterv (cc := cX4_notified) (maxL := 3) (by decide) rfl (Nat.le_of_ble_eq_true rfl) ?_
  intro p e s m below meth c ls Q hC hM hl hret
  have hx := hC.1.1
  have hb := hC.1.2.1
  have hl : lv_has ls 3 [(0, .ref (ad 20 0)), (1, .int (nI nd))] := hl
  have hinX4 : ∀ w ∈ u_ws RX4 TX4 22, w ∈ wsX4_notified := fun w h => List.mem_cons_of_mem _ (inX4 w h)
  refine lv_aload_n (pc := 0) hx hb dX4_notified_0 rfl (lv_at hl 0 rfl) ?_
  refine nf_getr (pc := 1) hC hinX4 hM rfl rfl 19 (by decide) (List.mem_cons_of_mem _ wF_X4_56) rfl dX4_notified_1 ?_
  refine lv_bipush (pc := 4) (v := 20) hx hb dX4_notified_4 (by decide) ?_
  refine nf_iald (pc := 6) hC hM 0 rfl rfl 20 rfl (by omega) (by decide) dX4_notified_6 ?_
  refine lv_istore_n (pc := 7) (lv' := [(2, .int (I 36 0 20)), (0, .ref (ad 20 0)), (1, .int (nI nd))]) hx hb dX4_notified_7 rfl hl (by decide) rfl (fun ls hl => ?_)
  refine lv_aload_n (pc := 8) hx hb dX4_notified_8 rfl (lv_at hl 1 rfl) ?_
  refine nf_getr (pc := 9) hC hinX4 hM rfl rfl 3 (by decide) (List.mem_cons_of_mem _ wF_X4_16) rfl dX4_notified_9 ?_
  refine lv_iload_n (pc := 12) hx hb dX4_notified_12 rfl (lv_at hl 2 rfl) ?_
  refine nf_iald (pc := 13) hC hM 0 rfl rfl nd rfl (by omega) (by decide) dX4_notified_13 ?_
  refine lv_iconst (pc := 14) (v := -1) hx hb dX4_notified_14 (by decide) ?_
  refine lv_icmp_eq (pc := 15) (tgt := 32) hx hb dX4_notified_15 (by decide) (fun h1 => ?_) (fun h1 => ?_)
  · skip
    refine lv_aload_n (pc := 32) hx hb dX4_notified_32 rfl (lv_at hl 1 rfl) ?_
    refine nf_getr (pc := 33) hC hinX4 hM rfl rfl 3 (by decide) (List.mem_cons_of_mem _ wF_X4_16) rfl dX4_notified_33 ?_
    refine lv_iload_n (pc := 36) hx hb dX4_notified_36 rfl (lv_at hl 2 rfl) ?_
    refine lv_iload_n (pc := 37) hx hb dX4_notified_37 rfl (lv_at hl 0 rfl) ?_
    refine nf_iast (pc := 38) hC hM 0 rfl rfl nd rfl (by omega) (by decide) dX4_notified_38 (fun H locs hM => ?_)
    refine lv_aload_n (pc := 39) hx hb dX4_notified_39 rfl (lv_at hl 1 rfl) ?_
    refine lv_iload_n (pc := 40) hx hb dX4_notified_40 rfl (lv_at hl 2 rfl) ?_
    refine lv_iload_n (pc := 41) hx hb dX4_notified_41 rfl (lv_at hl 0 rfl) ?_
    refine nf_callv (pc := 42) (va_runV (As := [.int (nI nd), .int (I 36 0 20)]) (rest := []) hC.1 (ct_X4_handOver (nv := (nI nd)) (mv := (I 36 0 20)) (F := F) (kp := kp) (by simpa [nf_iu] using hkp) hk2 (hok0 trivial)) (cwV 2 hC.1.2.2.2.2 (gd_V wM_X4_135 wi_X4_handOver wsel_X4_handOver wini_X4 wcode_X4_handOver) rfl rfl rfl (by decide +kernel) ⟨by decide, by decide⟩) (nf_preV hC hM rfl rfl) rfl rfl hl.1 rfl (lv_room (Nat.le_of_ble_eq_true rfl)) dX4_notified_42 ⟨Nat.le_refl _, Nat.le_refl _⟩) hM (fun H locs hM => ?_)
    exact hret _ _ _ _ _ _ _ (by simp [ys_noI, h1]) rfl rfl hM dX4_notified_45
  · skip
    refine lv_iload_n (pc := 18) hx hb dX4_notified_18 rfl (lv_at hl 0 rfl) ?_
    refine lv_aload_n (pc := 19) hx hb dX4_notified_19 rfl (lv_at hl 1 rfl) ?_
    refine nf_getr (pc := 20) hC hinX4 hM rfl rfl 3 (by decide) (List.mem_cons_of_mem _ wF_X4_16) rfl dX4_notified_20 ?_
    refine lv_iload_n (pc := 23) hx hb dX4_notified_23 rfl (lv_at hl 2 rfl) ?_
    refine nf_iald (pc := 24) hC hM 0 rfl rfl nd rfl (by omega) (by decide) dX4_notified_24 ?_
    refine lv_iload_n (pc := 25) hx hb dX4_notified_25 rfl (lv_at hl 2 rfl) ?_
    refine nf_calli (pc := 26) (va_runS (As := [.int (I 36 0 20), .int (I 23 0 nd), .int (nI nd)]) (rest := []) hC.1 (ct_X4_between) (cwS 3 hC.1.2.2.2.2 (gd_S wM_X4_130 wst_X4_between wini_X4 wcode_X4_between) rfl rfl rfl (by decide +kernel) ⟨by decide, by decide⟩) (nf_preS hC hM) rfl rfl hl.1 rfl (lv_room (Nat.le_of_ble_eq_true rfl)) dX4_notified_26 ⟨Nat.le_refl _, Nat.le_refl _⟩) hM (fun H locs hM => ?_)
    refine lv_if_eq (pc := 29) (tgt := 45) hx hb dX4_notified_29 (by decide) (fun h2 => ?_) (fun h2 => ?_)
    · have h2 := nb_0 h2
      exact hret _ _ _ _ _ _ _ (by simp [ys_noI, h1, h2]) rfl rfl hM dX4_notified_45
    · have h2 := nb_1 h2
      refine lv_aload_n (pc := 32) hx hb dX4_notified_32 rfl (lv_at hl 1 rfl) ?_
      refine nf_getr (pc := 33) hC hinX4 hM rfl rfl 3 (by decide) (List.mem_cons_of_mem _ wF_X4_16) rfl dX4_notified_33 ?_
      refine lv_iload_n (pc := 36) hx hb dX4_notified_36 rfl (lv_at hl 2 rfl) ?_
      refine lv_iload_n (pc := 37) hx hb dX4_notified_37 rfl (lv_at hl 0 rfl) ?_
      refine nf_iast (pc := 38) hC hM 0 rfl rfl nd rfl (by omega) (by decide) dX4_notified_38 (fun H locs hM => ?_)
      refine lv_aload_n (pc := 39) hx hb dX4_notified_39 rfl (lv_at hl 1 rfl) ?_
      refine lv_iload_n (pc := 40) hx hb dX4_notified_40 rfl (lv_at hl 2 rfl) ?_
      refine lv_iload_n (pc := 41) hx hb dX4_notified_41 rfl (lv_at hl 0 rfl) ?_
      refine nf_callv (pc := 42) (va_runV (As := [.int (nI nd), .int (I 36 0 20)]) (rest := []) hC.1 (ct_X4_handOver (nv := (nI nd)) (mv := (I 36 0 20)) (F := F) (kp := kp) (by simpa [nf_iu] using hkp) hk2 (hok0 trivial)) (cwV 2 hC.1.2.2.2.2 (gd_V wM_X4_135 wi_X4_handOver wsel_X4_handOver wini_X4 wcode_X4_handOver) rfl rfl rfl (by decide +kernel) ⟨by decide, by decide⟩) (nf_preV hC hM rfl rfl) rfl rfl hl.1 rfl (lv_room (Nat.le_of_ble_eq_true rfl)) dX4_notified_42 ⟨Nat.le_refl _, Nat.le_refl _⟩) hM (fun H locs hM => ?_)
      exact hret _ _ _ _ _ _ _ (by simp [ys_noI, h1, h2]) rfl rfl hM dX4_notified_45
end YG
