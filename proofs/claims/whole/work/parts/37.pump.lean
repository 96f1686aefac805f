/-! The class: pump. -/
section XH
variable {l : Launch} {D : va_G} {cs : Nat → ClassId} {Bs nn kc : Nat} {ad : nf_A} {I : nf_I} {J : nf_J} {mp : Nat → Nat}
set_option maxHeartbeats 4000000 in
set_option maxRecDepth 100000 in
theorem ct_X3_pump {pn : Int32} {Inv : nf_I → nf_J → (Nat → Nat) → Prop} (hnn : nn ≤ 12) (hkk : kc ≤ 10) (hinv0 : Inv I J mp) (hstep : ∀ (I : nf_I) (J : nf_J) (mp : Nat → Nat), Inv I J mp → ∃ sz : Nat, sz ≤ 20 ∧ I 0 0 1 = nI nn ∧ I 0 0 3 = nI kc ∧ I 3 0 1 = nI sz ∧ (∀ j, j < 21 → mp j < 21) ∧ Inv (xs_arr I J mp nn kc 0).2.1 (xs_arr I J mp nn kc 0).2.2.1 (xs_arr I J mp nn kc 0).2.2.2) : nf_Ti l yX3_pump wsX3_pump 6 135 D vwCl (xT cs) Bs (xS cs nn) ad [.ref (ad 0 0), .int pn] I J (xP nn mp) (xs_puR I J mp nn kc pn) (xs_puI I J mp nn kc pn) (xs_puJ I J mp nn kc pn) (xP nn (xs_puM I J mp nn kc pn)) := by
  refine nf_enteri (cc := cX3_pump) (maxL := 3) (by decide) rfl (Nat.le_of_ble_eq_true rfl) ?_
  intro p e s m below meth c ls Q hC hM hl hret
  have hx := hC.1.1
  have hb := hC.1.2.1
  have hl : lv_has ls 3 [(0, .ref (ad 0 0)), (1, .int pn)] := hl
  refine lv_iload_n (pc := 0) hx hb dX3_pump_0 rfl (lv_at hl 1 rfl) ?_
  refine lv_iconst (pc := 1) (v := 1) hx hb dX3_pump_1 (by decide) ?_
  refine lv_icmp_lt (pc := 2) (tgt := 11) hx hb dX3_pump_2 (by decide) (fun h1 => ?_) (fun h1 => ?_)
  · skip
    refine lv_iconst (pc := 11) (v := -1) hx hb dX3_pump_11 (by decide) ?_
    exact hret _ _ _ _ _ _ _ _ (by simp [xs_puR, h1]) (by simp [xs_puI, h1]) (by simp [xs_puJ, h1]) (by simp [xs_puM, h1]) hM dX3_pump_12
  · skip
    refine lv_iload_n (pc := 5) hx hb dX3_pump_5 rfl (lv_at hl 1 rfl) ?_
    refine lv_bipush (pc := 6) (v := 8) hx hb dX3_pump_6 (by decide) ?_
    refine lv_icmp_le (pc := 8) (tgt := 13) hx hb dX3_pump_8 (by decide) (fun h2 => ?_) (fun h2 => ?_)
    · skip
      obtain ⟨N, hN1, hN8, hNe⟩ := nk_n8 h1 h2
      have hnc : pn.toNatClampNeg = N := by rw [hNe]; exact nI_clamp (by omega)
      obtain ⟨Z, hZ⟩ : ∃ Z, Z = xs_pu nn kc N 0 I J mp := ⟨_, rfl⟩
      have hl : lv_has ls 3 [(0, .ref (ad 0 0)), (1, .int (nI N))] := by rw [← hNe]; exact hl
      refine lv_iconst (pc := 13) (v := 0) hx hb dX3_pump_13 (by decide) ?_
      refine lv_istore_n (pc := 14) (lv' := [(2, .int 0), (0, .ref (ad 0 0)), (1, .int (nI N))]) hx hb dX3_pump_14 rfl hl (by decide) rfl (fun ls hl => ?_)
      have loop15 : ∀ (n : Nat) (j : Nat) (I2 : nf_I) (J2 : nf_J) (M2 : Nat → Nat) (ls : Array Slot) (H : Heap) (locs : List Loc), N - j < n → (j ≤ N) → (Inv I2 J2 M2) → (Z = xs_pu nn kc (N - j) j I2 J2 M2) → nf_M D vwCl Bs (xS cs nn) ad I2 J2 (xP nn M2) s.heap H locs → lv_has ls 3 [(2, .int (nI j)), (0, .ref (ad 0 0)), (1, .int (nI N))] → W p l e (nf_Rm 6 135) s m ([.ref (ad 0 0), .int pn] : List Value).toArray below meth c H locs 0 0 Q (F0 m 15 ls []) := by
        intro n
        induction n with
        | zero => exact fun _ _ _ _ _ _ _ hmz => absurd hmz (Nat.not_lt_zero _)
        | succ n ihloop15 =>
          intro j I2 J2 M2 ls H locs hmz hjn hinv hf hM hl
          refine lv_iload_n (pc := 15) hx hb dX3_pump_15 rfl (lv_at hl 0 rfl) ?_
          refine lv_iload_n (pc := 16) hx hb dX3_pump_16 rfl (lv_at hl 2 rfl) ?_
          refine lv_icmp_ge (pc := 17) (tgt := 35) hx hb dX3_pump_17 (by decide) (fun hh => ?_) (fun hh => ?_)
          · have hj3 : N ≤ j := (nI_leI (by omega) (by omega)).mp (by exact hh)
            refine lv_iload_n (pc := 35) hx hb dX3_pump_35 rfl (lv_at hl 0 rfl) ?_
            exact hret _ _ _ _ _ _ _ _ (by rw [xs_puR, if_neg h1, if_pos h2, hnc, ← hZ, hf, show N - j = 0 by omega, xs_pu]) (by rw [xs_puI, if_neg h1, if_pos h2, hnc, ← hZ, hf, show N - j = 0 by omega, xs_pu]) (by rw [xs_puJ, if_neg h1, if_pos h2, hnc, ← hZ, hf, show N - j = 0 by omega, xs_pu]) (by rw [xs_puM, if_neg h1, if_pos h2, hnc, ← hZ, hf, show N - j = 0 by omega, xs_pu]) hM dX3_pump_36
          · have hj3 : j < N := Nat.lt_of_not_le (fun z => hh (by exact (nI_leI (by omega) (by omega)).mpr z))
            obtain ⟨sz, hsz, hn, hk, hs, hmp, hinv2⟩ := hstep I2 J2 M2 hinv
            refine lv_aload_n (pc := 20) hx hb dX3_pump_20 rfl (lv_at hl 1 rfl) ?_
            refine lv_iconst (pc := 21) (v := 0) hx hb dX3_pump_21 (by decide) ?_
            refine nf_calli (pc := 22) (va_runV (As := [.int 0]) (rest := []) hC.1 (ct_X3_arrive (k := 0) hn hnn hk hkk hs hsz hmp) (cwV 1 hC.1.2.2.2.2 (gd_V wM_X3_84 wi_X3_arrive wsel_X3_arrive wini_X3 wcode_X3_arrive) rfl rfl rfl (by decide +kernel) ⟨by decide, by decide⟩) (nf_preV hC hM rfl rfl) rfl rfl hl.1 rfl (lv_room (Nat.le_of_ble_eq_true rfl)) dX3_pump_22 ⟨Nat.le_refl _, Nat.le_refl _⟩) hM (fun H locs hM => ?_)
            refine lv_iconst (pc := 25) (v := -1) hx hb dX3_pump_25 (by decide) ?_
            refine lv_icmp_eq (pc := 26) (tgt := 35) hx hb dX3_pump_26 (by decide) (fun h4 => ?_) (fun h4 => ?_)
            · skip
              refine lv_iload_n (pc := 35) hx hb dX3_pump_35 rfl (lv_at hl 0 rfl) ?_
              exact hret _ _ _ _ _ _ _ _ (by rw [xs_puR, if_neg h1, if_pos h2, hnc, ← hZ, hf, show N - j = (N - (j + 1)) + 1 by omega, xs_pu, if_pos h4]) (by rw [xs_puI, if_neg h1, if_pos h2, hnc, ← hZ, hf, show N - j = (N - (j + 1)) + 1 by omega, xs_pu, if_pos h4]) (by rw [xs_puJ, if_neg h1, if_pos h2, hnc, ← hZ, hf, show N - j = (N - (j + 1)) + 1 by omega, xs_pu, if_pos h4]) (by rw [xs_puM, if_neg h1, if_pos h2, hnc, ← hZ, hf, show N - j = (N - (j + 1)) + 1 by omega, xs_pu, if_pos h4]) hM dX3_pump_36
            · skip
              refine lv_iinc (pc := 29) (k := 0) (v := nI (j + 1)) (lv' := [(2, .int (nI (j + 1))), (0, .ref (ad 0 0)), (1, .int (nI N))]) hx hb dX3_pump_29 hl rfl (nI_1 _) (by decide) rfl (fun ls hl => ?_)
              refine lv_goto (pc := 32) (tgt := 15) hx hb dX3_pump_32 (by decide) ?_
              exact ihloop15 (j + 1) ((xs_arr I2 J2 M2 nn kc 0).2.1) ((xs_arr I2 J2 M2 nn kc 0).2.2.1) ((xs_arr I2 J2 M2 nn kc 0).2.2.2) ls _ _ (by omega) (by omega) hinv2 (by rw [hf, show N - j = (N - (j + 1)) + 1 by omega, xs_pu, if_neg h4]) hM hl
      exact loop15 _ 0 I J mp ls _ _ (Nat.lt_succ_self _) (Nat.zero_le _) hinv0 hZ hM hl
    · skip
      refine lv_iconst (pc := 11) (v := -1) hx hb dX3_pump_11 (by decide) ?_
      exact hret _ _ _ _ _ _ _ _ (by simp [xs_puR, h1, h2]) (by simp [xs_puI, h1, h2]) (by simp [xs_puJ, h1, h2]) (by simp [xs_puM, h1, h2]) hM dX3_pump_12
end XH
