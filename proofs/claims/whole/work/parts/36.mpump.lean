/-! The model: deliver, pump. -/
section YI
variable {l : Launch} {D : va_G} {cs : Nat → ClassId} {Bs nn rwn kp : Nat} {ad : nf_A} {I : nf_I} {J : nf_J} {P : nf_P}
set_option maxHeartbeats 4000000 in
set_option maxRecDepth 100000 in
theorem ct_X4_deliver {k : Int32} (hr : I 20 0 13 = nI rwn) (hrw : rwn ≤ 20) (hkp : I 20 0 7 = nI kp) (hk2 : kp ≤ 120) (hmay : ∀ kn : Nat, kn < rwn → k = nI kn → ys_may (ys_tkI I kn rwn) kp (ys_nd (ys_tkI I kn rwn))) : nf_Ti l yX4_deliver wsX4_deliver 5 117 D vwCl (xT cs) Bs (xS cs nn) ad [.ref (ad 20 0), .int k] I J P (ys_dlR I k) (ys_dlI I J k) (ys_dlJ I J k) P := by
  refine nf_enteri (cc := cX4_deliver) (maxL := 3) (by decide) rfl (Nat.le_of_ble_eq_true rfl) ?_
  intro p e s m below meth c ls Q hC hM hl hret
  have hx := hC.1.1
  have hb := hC.1.2.1
  have hl : lv_has ls 3 [(0, .ref (ad 20 0)), (1, .int k)] := hl
  have hinX4 : ∀ w ∈ u_ws RX4 TX4 22, w ∈ wsX4_deliver := fun w h => List.mem_cons_of_mem _ (inX4 w h)
  refine lv_iload_n (pc := 0) hx hb dX4_deliver_0 rfl (lv_at hl 1 rfl) ?_
  refine lv_if_lt (pc := 1) (tgt := 12) hx hb dX4_deliver_1 (by decide) (fun h1 => ?_) (fun h1 => ?_)
  · skip
    refine lv_iconst (pc := 12) (v := -1) hx hb dX4_deliver_12 (by decide) ?_
    exact hret _ _ _ _ _ _ _ _ (by simp [ys_dlR, h1]) (by simp [ys_dlI, h1]) (by simp [ys_dlJ, h1]) rfl hM dX4_deliver_13
  · skip
    refine lv_iload_n (pc := 4) hx hb dX4_deliver_4 rfl (lv_at hl 1 rfl) ?_
    refine lv_aload_n (pc := 5) hx hb dX4_deliver_5 rfl (lv_at hl 0 rfl) ?_
    refine nf_geti (pc := 6) hC hinX4 hM rfl rfl 13 (by decide) (List.mem_cons_of_mem _ wF_X4_75) rfl dX4_deliver_6 ?_
    refine lv_icmp_lt (pc := 9) (tgt := 14) hx hb dX4_deliver_9 (by decide) (fun h2 => ?_) (fun h2 => ?_)
    · skip
      obtain ⟨kn, hkn, hkne⟩ := nk_ix2 h1 (by rw [← hr]; exact h2) (by omega)
      have hmy := hmay kn hkn hkne
      refine lv_aload_n (pc := 14) hx hb dX4_deliver_14 rfl (lv_at hl 0 rfl) ?_
      refine nf_getr (pc := 15) hC hinX4 hM rfl rfl 14 (by decide) (List.mem_cons_of_mem _ wF_X4_41) rfl dX4_deliver_15 ?_
      refine lv_iload_n (pc := 18) hx hb dX4_deliver_18 rfl (lv_at hl 1 rfl) ?_
      refine nf_iald (pc := 19) hC hM 0 rfl rfl kn hkne (by omega) (by decide) dX4_deliver_19 ?_
      refine lv_istore_n (pc := 20) (lv' := [(2, .int (I 31 0 kn)), (0, .ref (ad 20 0)), (1, .int k)]) hx hb dX4_deliver_20 rfl hl (by decide) rfl (fun ls hl => ?_)
      refine lv_aload_n (pc := 21) hx hb dX4_deliver_21 rfl (lv_at hl 1 rfl) ?_
      refine lv_iload_n (pc := 22) hx hb dX4_deliver_22 rfl (lv_at hl 2 rfl) ?_
      refine nf_callv (pc := 23) (va_runV (As := [.int (nI kn)]) (rest := []) hC.1 (ct_X4_arrive (kn := kn) (rwn := rwn) (kp := kp) hr hrw hkn hkp hk2 hmy) (cwV 1 hC.1.2.2.2.2 (gd_V wM_X4_138 wi_X4_arrive wsel_X4_arrive wini_X4 wcode_X4_arrive) rfl rfl rfl (by decide +kernel) ⟨by decide, by decide⟩) (nf_preV hC hM rfl rfl) rfl rfl hl.1 (by rw [hkne]; rfl) (lv_room (Nat.le_of_ble_eq_true rfl)) dX4_deliver_23 ⟨Nat.le_refl _, Nat.le_refl _⟩) hM (fun H locs hM => ?_)
      have hM : nf_M D vwCl Bs (xS cs nn) ad (ys_arI I J kn) (ys_arJ I J kn) P s.heap H locs := by rw [ys_arI, ys_arJ, ys_rwn_e hr (by omega), ys_kpn_e hkp (by omega)]; exact hM
      refine lv_iload_n (pc := 26) hx hb dX4_deliver_26 rfl (lv_at hl 0 rfl) ?_
      exact hret _ _ _ _ _ _ _ _ (by rw [ys_dlR, if_neg h1, if_pos h2, hkne, nI_clamp (by omega)]) (by rw [ys_dlI, if_neg h1, if_pos h2, hkne, nI_clamp (by omega)]) (by rw [ys_dlJ, if_neg h1, if_pos h2, hkne, nI_clamp (by omega)]) rfl hM dX4_deliver_27
    · skip
      refine lv_iconst (pc := 12) (v := -1) hx hb dX4_deliver_12 (by decide) ?_
      exact hret _ _ _ _ _ _ _ _ (by simp [ys_dlR, h1, h2]) (by simp [ys_dlI, h1, h2]) (by simp [ys_dlJ, h1, h2]) rfl hM dX4_deliver_13
set_option maxHeartbeats 4000000 in
set_option maxRecDepth 100000 in
theorem ct_X4_pump {pn : Int32} {Inv : nf_I → nf_J → Prop} (hinv0 : Inv I J) (hstep : ∀ (I : nf_I) (J : nf_J), Inv I J → ∃ rwn kp : Nat, rwn ≤ 20 ∧ kp ≤ 120 ∧ I 20 0 13 = nI rwn ∧ I 20 0 7 = nI kp ∧ (0 < rwn → ys_may (ys_tkI I 0 rwn) kp (ys_nd (ys_tkI I 0 rwn)) ∧ Inv (ys_arI I J 0) (ys_arJ I J 0))) : nf_Ti l yX4_pump wsX4_pump 5 117 D vwCl (xT cs) Bs (xS cs nn) ad [.ref (ad 20 0), .int pn] I J P (ys_puR I J pn) (ys_puI I J pn) (ys_puJ I J pn) P := by
  refine nf_enteri (cc := cX4_pump) (maxL := 3) (by decide) rfl (Nat.le_of_ble_eq_true rfl) ?_
  intro p e s m below meth c ls Q hC hM hl hret
  have hx := hC.1.1
  have hb := hC.1.2.1
  have hl : lv_has ls 3 [(0, .ref (ad 20 0)), (1, .int pn)] := hl
  have hinX4 : ∀ w ∈ u_ws RX4 TX4 22, w ∈ wsX4_pump := fun w h => List.mem_cons_of_mem _ (inX4 w h)
  refine lv_iload_n (pc := 0) hx hb dX4_pump_0 rfl (lv_at hl 1 rfl) ?_
  refine lv_iconst (pc := 1) (v := 1) hx hb dX4_pump_1 (by decide) ?_
  refine lv_icmp_lt (pc := 2) (tgt := 11) hx hb dX4_pump_2 (by decide) (fun h1 => ?_) (fun h1 => ?_)
  · skip
    refine lv_iconst (pc := 11) (v := -1) hx hb dX4_pump_11 (by decide) ?_
    exact hret _ _ _ _ _ _ _ _ (by simp [ys_puR, h1]) (by simp [ys_puI, h1]) (by simp [ys_puJ, h1]) rfl hM dX4_pump_12
  · skip
    refine lv_iload_n (pc := 5) hx hb dX4_pump_5 rfl (lv_at hl 1 rfl) ?_
    refine lv_bipush (pc := 6) (v := 8) hx hb dX4_pump_6 (by decide) ?_
    refine lv_icmp_le (pc := 8) (tgt := 13) hx hb dX4_pump_8 (by decide) (fun h2 => ?_) (fun h2 => ?_)
    · skip
      obtain ⟨N, hN1, hN8, hNe⟩ := nk_n8 h1 h2
      have hnc : pn.toNatClampNeg = N := by rw [hNe]; exact nI_clamp (by omega)
      obtain ⟨Z, hZ⟩ : ∃ Z, Z = ys_pu N 0 I J := ⟨_, rfl⟩
      have hl : lv_has ls 3 [(0, .ref (ad 20 0)), (1, .int (nI N))] := by rw [← hNe]; exact hl
      refine lv_iconst (pc := 13) (v := 0) hx hb dX4_pump_13 (by decide) ?_
      refine lv_istore_n (pc := 14) (lv' := [(2, .int 0), (0, .ref (ad 20 0)), (1, .int (nI N))]) hx hb dX4_pump_14 rfl hl (by decide) rfl (fun ls hl => ?_)
      have loop15 : ∀ (n : Nat) (j : Nat) (I2 : nf_I) (J2 : nf_J) (ls : Array Slot) (H : Heap) (locs : List Loc), N - j < n → (j ≤ N) → (Inv I2 J2) → (Z = ys_pu (N - j) j I2 J2) → nf_M D vwCl Bs (xS cs nn) ad I2 J2 P s.heap H locs → lv_has ls 3 [(2, .int (nI j)), (0, .ref (ad 20 0)), (1, .int (nI N))] → W p l e (nf_Rm 5 117) s m ([.ref (ad 20 0), .int pn] : List Value).toArray below meth c H locs 0 0 Q (F0 m 15 ls []) := by
        intro n
        induction n with
        | zero => exact fun _ _ _ _ _ _ hmz => absurd hmz (Nat.not_lt_zero _)
        | succ n ihloop15 =>
          intro j I2 J2 ls H locs hmz hjn hinv hf hM hl
          refine lv_iload_n (pc := 15) hx hb dX4_pump_15 rfl (lv_at hl 0 rfl) ?_
          refine lv_iload_n (pc := 16) hx hb dX4_pump_16 rfl (lv_at hl 2 rfl) ?_
          refine lv_icmp_ge (pc := 17) (tgt := 38) hx hb dX4_pump_17 (by decide) (fun hh => ?_) (fun hh => ?_)
          · have hj3 : N ≤ j := (nI_leI (by omega) (by omega)).mp (by exact hh)
            refine lv_iload_n (pc := 38) hx hb dX4_pump_38 rfl (lv_at hl 0 rfl) ?_
            exact hret _ _ _ _ _ _ _ _ (by rw [ys_puR, if_neg h1, if_pos h2, hnc, ← hZ, hf, show N - j = 0 by omega, ys_pu]) (by rw [ys_puI, if_neg h1, if_pos h2, hnc, ← hZ, hf, show N - j = 0 by omega, ys_pu]) (by rw [ys_puJ, if_neg h1, if_pos h2, hnc, ← hZ, hf, show N - j = 0 by omega, ys_pu]) rfl hM dX4_pump_39
          · have hj3 : j < N := Nat.lt_of_not_le (fun z => hh (by exact (nI_leI (by omega) (by omega)).mpr z))
            obtain ⟨rwn, kp, hrw, hk2, hr, hkp, hnx⟩ := hstep I2 J2 hinv
            refine lv_aload_n (pc := 20) hx hb dX4_pump_20 rfl (lv_at hl 1 rfl) ?_
            refine nf_geti (pc := 21) hC hinX4 hM rfl rfl 13 (by decide) (List.mem_cons_of_mem _ wF_X4_75) rfl dX4_pump_21 ?_
            refine lv_if_le (pc := 24) (tgt := 38) hx hb dX4_pump_24 (by decide) (fun h4 => ?_) (fun h4 => ?_)
            · skip
              refine lv_iload_n (pc := 38) hx hb dX4_pump_38 rfl (lv_at hl 0 rfl) ?_
              exact hret _ _ _ _ _ _ _ _ (by rw [ys_puR, if_neg h1, if_pos h2, hnc, ← hZ, hf, show N - j = (N - (j + 1)) + 1 by omega, ys_pu, if_pos h4]) (by rw [ys_puI, if_neg h1, if_pos h2, hnc, ← hZ, hf, show N - j = (N - (j + 1)) + 1 by omega, ys_pu, if_pos h4]) (by rw [ys_puJ, if_neg h1, if_pos h2, hnc, ← hZ, hf, show N - j = (N - (j + 1)) + 1 by omega, ys_pu, if_pos h4]) rfl hM dX4_pump_39
            · skip
              have hr0 : 0 < rwn := Nat.pos_of_ne_zero (fun z => h4 (by rw [hr, z]; decide))
              obtain ⟨hmy, hinv2⟩ := hnx hr0
              refine lv_aload_n (pc := 27) hx hb dX4_pump_27 rfl (lv_at hl 1 rfl) ?_
              refine lv_iconst (pc := 28) (v := 0) hx hb dX4_pump_28 (by decide) ?_
              refine nf_callv (pc := 29) (va_runV (As := [.int (nI 0)]) (rest := []) hC.1 (ct_X4_arrive (kn := 0) (rwn := rwn) (kp := kp) hr hrw hr0 hkp hk2 hmy) (cwV 1 hC.1.2.2.2.2 (gd_V wM_X4_138 wi_X4_arrive wsel_X4_arrive wini_X4 wcode_X4_arrive) rfl rfl rfl (by decide +kernel) ⟨by decide, by decide⟩) (nf_preV hC hM rfl rfl) rfl rfl hl.1 (rfl) (lv_room (Nat.le_of_ble_eq_true rfl)) dX4_pump_29 ⟨Nat.le_refl _, Nat.le_refl _⟩) hM (fun H locs hM => ?_)
              have hM : nf_M D vwCl Bs (xS cs nn) ad (ys_arI I2 J2 0) (ys_arJ I2 J2 0) P s.heap H locs := by rw [ys_arI, ys_arJ, ys_rwn_e hr (by omega), ys_kpn_e hkp (by omega)]; exact hM
              refine lv_iinc (pc := 32) (k := 0) (v := nI (j + 1)) (lv' := [(2, .int (nI (j + 1))), (0, .ref (ad 20 0)), (1, .int (nI N))]) hx hb dX4_pump_32 hl rfl (nI_1 _) (by decide) rfl (fun ls hl => ?_)
              refine lv_goto (pc := 35) (tgt := 15) hx hb dX4_pump_35 (by decide) ?_
              exact ihloop15 (j + 1) (ys_arI I2 J2 0) (ys_arJ I2 J2 0) ls _ _ (by omega) (by omega) hinv2 (by rw [hf, show N - j = (N - (j + 1)) + 1 by omega, ys_pu, if_neg h4]) hM hl
      exact loop15 _ 0 I J ls _ _ (Nat.lt_succ_self _) (Nat.zero_le _) hinv0 hZ hM hl
    · skip
      refine lv_iconst (pc := 11) (v := -1) hx hb dX4_pump_11 (by decide) ?_
      exact hret _ _ _ _ _ _ _ _ (by simp [ys_puR, h1, h2]) (by simp [ys_puI, h1, h2]) (by simp [ys_puJ, h1, h2]) rfl hM dX4_pump_12
end YI
