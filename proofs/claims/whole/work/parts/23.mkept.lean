/-! The model: entryAt, keep, dropEntry. -/
section YK
variable {l : Launch} {D : va_G} {cs : Nat → ClassId} {Bs nn rwn kp : Nat} {ad : nf_A} {I : nf_I} {J : nf_J} {P : nf_P}
set_option maxHeartbeats 4000000 in
set_option maxRecDepth 100000 in
theorem ct_X4_entryAt {mb wd : Int32} (hkp : I 20 0 7 = nI kp) (hk2 : kp ≤ 120) : nf_Ti l yX4_entryAt wsX4_entryAt 0 0 D vwCl (xT cs) Bs (xS cs nn) ad [.ref (ad 20 0), .int mb, .int wd] I J P (ys_eat I kp mb wd) I J P := by
  refine nf_enteri (cc := cX4_entryAt) (maxL := 5) (by decide) rfl (Nat.le_of_ble_eq_true rfl) ?_
  intro p e s m below meth c ls Q hC hM hl hret
  have hx := hC.1.1
  have hb := hC.1.2.1
  have hl : lv_has ls 5 [(0, .ref (ad 20 0)), (1, .int mb), (2, .int wd)] := hl
  have hinX4 : ∀ w ∈ u_ws RX4 TX4 22, w ∈ wsX4_entryAt := fun w h => List.mem_cons_of_mem _ (inX4 w h)
  refine lv_iconst (pc := 0) (v := -1) hx hb dX4_entryAt_0 (by decide) ?_
  refine lv_istore_n (pc := 1) (lv' := [(3, .int (-1)), (0, .ref (ad 20 0)), (1, .int mb), (2, .int wd)]) hx hb dX4_entryAt_1 rfl hl (by decide) rfl (fun ls hl => ?_)
  refine lv_iconst (pc := 2) (v := 0) hx hb dX4_entryAt_2 (by decide) ?_
  refine lv_istore (pc := 3) (lv' := [(4, .int 0), (3, .int (-1)), (0, .ref (ad 20 0)), (1, .int mb), (2, .int wd)]) hx hb dX4_entryAt_3 hl (by decide) rfl (fun ls hl => ?_)
  have loop5 : ∀ (n : Nat) (j : Nat) (g : Int32) (ls : Array Slot) (H : Heap) (locs : List Loc), kp - j < n → (j ≤ kp) → (ys_eat I kp mb wd = ys_ea I mb wd (kp - j) j g) → nf_M D vwCl Bs (xS cs nn) ad I J P s.heap H locs → lv_has ls 5 [(4, .int (nI j)), (3, .int g), (0, .ref (ad 20 0)), (1, .int mb), (2, .int wd)] → W p l e (nf_Rm 0 0) s m ([.ref (ad 20 0), .int mb, .int wd] : List Value).toArray below meth c H locs 0 0 Q (F0 m 5 ls []) := by
    intro n
    induction n with
    | zero => exact fun _ _ _ _ _ hmz => absurd hmz (Nat.not_lt_zero _)
    | succ n ihloop5 =>
      intro j g ls H locs hmz hjn hf hM hl
      refine lv_iload (pc := 5) hx hb dX4_entryAt_5 (lv_at hl 0 rfl) ?_
      refine lv_aload_n (pc := 7) hx hb dX4_entryAt_7 rfl (lv_at hl 2 rfl) ?_
      refine nf_geti (pc := 8) hC hinX4 hM rfl rfl 7 (by decide) (List.mem_cons_of_mem _ wF_X4_96) rfl dX4_entryAt_8 ?_
      refine lv_icmp_ge (pc := 11) (tgt := 49) hx hb dX4_entryAt_11 (by decide) (fun hh => ?_) (fun hh => ?_)
      · have hj1 : kp ≤ j := (nI_leI (by omega) (by omega)).mp (by rw [hkp] at hh; exact hh)
        refine lv_iload_n (pc := 49) hx hb dX4_entryAt_49 rfl (lv_at hl 1 rfl) ?_
        exact hret _ _ _ _ _ _ _ _ (by rw [hf, show kp - j = 0 by omega]; rfl) rfl rfl rfl hM dX4_entryAt_50
      · have hj1 : j < kp := Nat.lt_of_not_le (fun z => hh (by rw [hkp]; exact (nI_leI (by omega) (by omega)).mpr z))
        refine lv_aload_n (pc := 14) hx hb dX4_entryAt_14 rfl (lv_at hl 2 rfl) ?_
        refine nf_getr (pc := 15) hC hinX4 hM rfl rfl 8 (by decide) (List.mem_cons_of_mem _ wF_X4_29) rfl dX4_entryAt_15 ?_
        refine lv_iload (pc := 18) hx hb dX4_entryAt_18 (lv_at hl 0 rfl) ?_
        refine nf_iald (pc := 20) hC hM 0 rfl rfl j rfl (by omega) (by decide) dX4_entryAt_20 ?_
        refine lv_iload_n (pc := 21) hx hb dX4_entryAt_21 rfl (lv_at hl 3 rfl) ?_
        refine lv_icmp_ne (pc := 22) (tgt := 41) hx hb dX4_entryAt_22 (by decide) (fun h2 => ?_) (fun h2 => ?_)
        · skip
          refine lv_iload_n (pc := 41) hx hb dX4_entryAt_41 rfl (lv_at hl 1 rfl) ?_
          refine lv_istore_n (pc := 42) (lv' := [(3, .int g), (4, .int (nI j)), (0, .ref (ad 20 0)), (1, .int mb), (2, .int wd)]) hx hb dX4_entryAt_42 rfl hl (by decide) rfl (fun ls hl => ?_)
          refine lv_iinc (pc := 43) (k := 1) (v := nI (j + 1)) (lv' := [(4, .int (nI (j + 1))), (3, .int g), (0, .ref (ad 20 0)), (1, .int mb), (2, .int wd)]) hx hb dX4_entryAt_43 hl rfl (nI_1 _) (by decide) rfl (fun ls hl => ?_)
          refine lv_goto (pc := 46) (tgt := 5) hx hb dX4_entryAt_46 (by decide) ?_
          exact ihloop5 (j + 1) g ls _ _ (by omega) (by omega) (by rw [hf, show kp - j = (kp - (j + 1)) + 1 by omega, ys_ea]; congr 1; simp [h2]) hM hl
        · skip
          refine lv_aload_n (pc := 25) hx hb dX4_entryAt_25 rfl (lv_at hl 2 rfl) ?_
          refine nf_getr (pc := 26) hC hinX4 hM rfl rfl 9 (by decide) (List.mem_cons_of_mem _ wF_X4_32) rfl dX4_entryAt_26 ?_
          refine lv_iload (pc := 29) hx hb dX4_entryAt_29 (lv_at hl 0 rfl) ?_
          refine nf_iald (pc := 31) hC hM 0 rfl rfl j rfl (by omega) (by decide) dX4_entryAt_31 ?_
          refine lv_iload_n (pc := 32) hx hb dX4_entryAt_32 rfl (lv_at hl 4 rfl) ?_
          refine lv_icmp_ne (pc := 33) (tgt := 41) hx hb dX4_entryAt_33 (by decide) (fun h3 => ?_) (fun h3 => ?_)
          · skip
            refine lv_iload_n (pc := 41) hx hb dX4_entryAt_41 rfl (lv_at hl 1 rfl) ?_
            refine lv_istore_n (pc := 42) (lv' := [(3, .int g), (4, .int (nI j)), (0, .ref (ad 20 0)), (1, .int mb), (2, .int wd)]) hx hb dX4_entryAt_42 rfl hl (by decide) rfl (fun ls hl => ?_)
            refine lv_iinc (pc := 43) (k := 1) (v := nI (j + 1)) (lv' := [(4, .int (nI (j + 1))), (3, .int g), (0, .ref (ad 20 0)), (1, .int mb), (2, .int wd)]) hx hb dX4_entryAt_43 hl rfl (nI_1 _) (by decide) rfl (fun ls hl => ?_)
            refine lv_goto (pc := 46) (tgt := 5) hx hb dX4_entryAt_46 (by decide) ?_
            exact ihloop5 (j + 1) g ls _ _ (by omega) (by omega) (by rw [hf, show kp - j = (kp - (j + 1)) + 1 by omega, ys_ea]; congr 1; simp [h2, h3]) hM hl
          · skip
            refine lv_iload (pc := 36) hx hb dX4_entryAt_36 (lv_at hl 0 rfl) ?_
            refine lv_goto (pc := 38) (tgt := 42) hx hb dX4_entryAt_38 (by decide) ?_
            refine lv_istore_n (pc := 42) (lv' := [(3, .int (nI j)), (4, .int (nI j)), (0, .ref (ad 20 0)), (1, .int mb), (2, .int wd)]) hx hb dX4_entryAt_42 rfl hl (by decide) rfl (fun ls hl => ?_)
            refine lv_iinc (pc := 43) (k := 1) (v := nI (j + 1)) (lv' := [(4, .int (nI (j + 1))), (3, .int (nI j)), (0, .ref (ad 20 0)), (1, .int mb), (2, .int wd)]) hx hb dX4_entryAt_43 hl rfl (nI_1 _) (by decide) rfl (fun ls hl => ?_)
            refine lv_goto (pc := 46) (tgt := 5) hx hb dX4_entryAt_46 (by decide) ?_
            exact ihloop5 (j + 1) (nI j) ls _ _ (by omega) (by omega) (by rw [hf, show kp - j = (kp - (j + 1)) + 1 by omega, ys_ea]; congr 1; simp [h2, h3]) hM hl
  exact loop5 _ 0 (-1) ls _ _ (Nat.lt_succ_self _) (Nat.zero_le _) rfl hM hl
set_option maxHeartbeats 4000000 in
set_option maxRecDepth 100000 in
theorem ct_X4_keep {mb wd v : Int32} (hkp : I 20 0 7 = nI kp) (hk2 : kp ≤ 120) (hroom : ¬ 0 ≤ ys_eat I kp mb wd → kp < 120) : nf_Tv l yX4_keep wsX4_keep 1 24 D vwCl (xT cs) Bs (xS cs nn) ad [.ref (ad 20 0), .int mb, .int wd, .int v] I J P (ys_kp I kp mb wd v) J P := by
  refine nf_enterv (cc := cX4_keep) (maxL := 5) (by decide) rfl (Nat.le_of_ble_eq_true rfl) ?_
  intro p e s m below meth c ls Q hC hM hl hret
  have hx := hC.1.1
  have hb := hC.1.2.1
  have hl : lv_has ls 5 [(0, .ref (ad 20 0)), (1, .int mb), (2, .int wd), (3, .int v)] := hl
  have hinX4 : ∀ w ∈ u_ws RX4 TX4 22, w ∈ wsX4_keep := fun w h => List.mem_cons_of_mem _ (inX4 w h)
  refine lv_aload_n (pc := 0) hx hb dX4_keep_0 rfl (lv_at hl 0 rfl) ?_
  refine lv_iload_n (pc := 1) hx hb dX4_keep_1 rfl (lv_at hl 1 rfl) ?_
  refine lv_iload_n (pc := 2) hx hb dX4_keep_2 rfl (lv_at hl 2 rfl) ?_
  refine nf_calli (pc := 3) (va_runV (As := [.int mb, .int wd]) (rest := []) hC.1 (ct_X4_entryAt (mb := mb) (wd := wd) (kp := kp) hkp (by omega)) (cwV 2 hC.1.2.2.2.2 (gd_V wM_X4_99 wi_X4_entryAt wsel_X4_entryAt wini_X4 wcode_X4_entryAt) rfl rfl rfl (by decide +kernel) ⟨by decide, by decide⟩) (nf_preV hC hM rfl rfl) rfl rfl hl.1 rfl (lv_room (Nat.le_of_ble_eq_true rfl)) dX4_keep_3 ⟨Nat.le_refl _, Nat.le_refl _⟩) hM (fun H locs hM => ?_)
  refine lv_istore (pc := 6) (lv' := [(4, .int (ys_eat I kp mb wd)), (0, .ref (ad 20 0)), (1, .int mb), (2, .int wd), (3, .int v)]) hx hb dX4_keep_6 hl (by decide) rfl (fun ls hl => ?_)
  refine lv_iload (pc := 8) hx hb dX4_keep_8 (lv_at hl 0 rfl) ?_
  refine lv_if_ge (pc := 10) (tgt := 45) hx hb dX4_keep_10 (by decide) (fun h1 => ?_) (fun h1 => ?_)
  · skip
    obtain ⟨q, hq, hqe, -⟩ := (ys_eat_c I kp mb wd).resolve_left (fun z => by rw [z] at h1; exact absurd h1 (by decide))
    refine lv_aload_n (pc := 45) hx hb dX4_keep_45 rfl (lv_at hl 1 rfl) ?_
    refine nf_getr (pc := 46) hC hinX4 hM rfl rfl 10 (by decide) (List.mem_cons_of_mem _ wF_X4_35) rfl dX4_keep_46 ?_
    refine lv_iload (pc := 49) hx hb dX4_keep_49 (lv_at hl 0 rfl) ?_
    refine lv_iload_n (pc := 51) hx hb dX4_keep_51 rfl (lv_at hl 4 rfl) ?_
    refine nf_iast (pc := 52) hC hM 0 rfl rfl q hqe (by omega) (by decide) dX4_keep_52 (fun H locs hM => ?_)
    exact hret _ _ _ _ _ _ _ (by simp [ys_kp, hqe, nI_clamp (show q < 2 ^ 31 by omega), nI_pos' (show q < 2 ^ 31 by omega), h1] <;> rfl) rfl rfl hM dX4_keep_53
  · skip
    have hkl := hroom h1
    refine lv_aload_n (pc := 13) hx hb dX4_keep_13 rfl (lv_at hl 1 rfl) ?_
    refine nf_geti (pc := 14) hC hinX4 hM rfl rfl 7 (by decide) (List.mem_cons_of_mem _ wF_X4_96) rfl dX4_keep_14 ?_
    refine lv_istore (pc := 17) (lv' := [(4, .int (I 20 0 7)), (0, .ref (ad 20 0)), (1, .int mb), (2, .int wd), (3, .int v)]) hx hb dX4_keep_17 hl (by decide) rfl (fun ls hl => ?_)
    refine lv_aload_n (pc := 19) hx hb dX4_keep_19 rfl (lv_at hl 1 rfl) ?_
    refine lv_dup (pc := 20) hx hb dX4_keep_20 rfl ?_
    refine nf_geti (pc := 21) hC hinX4 hM rfl rfl 7 (by decide) (List.mem_cons_of_mem _ wF_X4_96) rfl dX4_keep_21 ?_
    refine lv_iconst (pc := 24) (v := 1) hx hb dX4_keep_24 (by decide) ?_
    refine lv_iadd (pc := 25) hx hb dX4_keep_25 ?_
    refine nf_puti (pc := 26) hC hinX4 tyX4 tyX4_ok nmX4 hM rfl rfl 7 (by decide) (List.mem_cons_of_mem _ wF_X4_96) rfl (by decide +kernel) rfl dX4_keep_26 (fun H locs hM => ?_)
    refine lv_aload_n (pc := 29) hx hb dX4_keep_29 rfl (lv_at hl 1 rfl) ?_
    refine nf_getr (pc := 30) hC hinX4 hM rfl rfl 8 (by decide) (List.mem_cons_of_mem _ wF_X4_29) rfl dX4_keep_30 ?_
    refine lv_iload (pc := 33) hx hb dX4_keep_33 (lv_at hl 0 rfl) ?_
    refine lv_iload_n (pc := 35) hx hb dX4_keep_35 rfl (lv_at hl 2 rfl) ?_
    refine nf_iast (pc := 36) hC hM 0 rfl rfl kp hkp (by omega) (by decide) dX4_keep_36 (fun H locs hM => ?_)
    refine lv_aload_n (pc := 37) hx hb dX4_keep_37 rfl (lv_at hl 1 rfl) ?_
    refine nf_getr (pc := 38) hC hinX4 hM rfl rfl 9 (by decide) (List.mem_cons_of_mem _ wF_X4_32) rfl dX4_keep_38 ?_
    refine lv_iload (pc := 41) hx hb dX4_keep_41 (lv_at hl 0 rfl) ?_
    refine lv_iload_n (pc := 43) hx hb dX4_keep_43 rfl (lv_at hl 3 rfl) ?_
    refine nf_iast (pc := 44) hC hM 0 rfl rfl kp hkp (by omega) (by decide) dX4_keep_44 (fun H locs hM => ?_)
    refine lv_aload_n (pc := 45) hx hb dX4_keep_45 rfl (lv_at hl 1 rfl) ?_
    refine nf_getr (pc := 46) hC hinX4 hM rfl rfl 10 (by decide) (List.mem_cons_of_mem _ wF_X4_35) rfl dX4_keep_46 ?_
    refine lv_iload (pc := 49) hx hb dX4_keep_49 (lv_at hl 0 rfl) ?_
    refine lv_iload_n (pc := 51) hx hb dX4_keep_51 rfl (lv_at hl 4 rfl) ?_
    refine nf_iast (pc := 52) hC hM 0 rfl rfl kp hkp (by omega) (by decide) dX4_keep_52 (fun H locs hM => ?_)
    exact hret _ _ _ _ _ _ _ (by simp [ys_kp, ys_kp0, h1] <;> rfl) rfl rfl hM dX4_keep_53
set_option maxHeartbeats 4000000 in
set_option maxRecDepth 100000 in
theorem ct_X4_dropEntry {q : Nat} (hkp : I 20 0 7 = nI kp) (hk2 : kp ≤ 120) (hq : q < kp) : nf_Tv l yX4_dropEntry wsX4_dropEntry 0 0 D vwCl (xT cs) Bs (xS cs nn) ad [.ref (ad 20 0), .int (nI q)] I J P (ys_dr I kp q) J P := by
  refine nf_enterv (cc := cX4_dropEntry) (maxL := 3) (by decide) rfl (Nat.le_of_ble_eq_true rfl) ?_
  intro p e s m below meth c ls Q hC hM hl hret
  have hx := hC.1.1
  have hb := hC.1.2.1
  have hl : lv_has ls 3 [(0, .ref (ad 20 0)), (1, .int (nI q))] := hl
  have hinX4 : ∀ w ∈ u_ws RX4 TX4 22, w ∈ wsX4_dropEntry := fun w h => List.mem_cons_of_mem _ (inX4 w h)
  refine lv_aload_n (pc := 0) hx hb dX4_dropEntry_0 rfl (lv_at hl 0 rfl) ?_
  refine lv_dup (pc := 1) hx hb dX4_dropEntry_1 rfl ?_
  refine nf_geti (pc := 2) hC hinX4 hM rfl rfl 7 (by decide) (List.mem_cons_of_mem _ wF_X4_96) rfl dX4_dropEntry_2 ?_
  refine lv_iconst (pc := 5) (v := 1) hx hb dX4_dropEntry_5 (by decide) ?_
  refine lv_isub (pc := 6) hx hb dX4_dropEntry_6 ?_
  refine nf_puti (pc := 7) hC hinX4 tyX4 tyX4_ok nmX4 hM rfl rfl 7 (by decide) (List.mem_cons_of_mem _ wF_X4_96) rfl (by decide +kernel) rfl dX4_dropEntry_7 (fun H locs hM => ?_)
  have hk1 : nf_iu I 20 0 7 (I 20 0 7 - 1) 20 0 7 = nI (kp - 1) := by rw [nf_iu_s, hkp, show kp = (kp - 1) + 1 by omega, nI_pred]; rfl
  have hM : nf_M D vwCl Bs (xS cs nn) ad (ys_sh (nf_iu I 20 0 7 (I 20 0 7 - 1)) q q) J P s.heap H locs := by rw [ys_sh_0]; exact hM
  refine lv_iload_n (pc := 10) hx hb dX4_dropEntry_10 rfl (lv_at hl 1 rfl) ?_
  refine lv_istore_n (pc := 11) (lv' := [(2, .int (nI q)), (0, .ref (ad 20 0)), (1, .int (nI q))]) hx hb dX4_dropEntry_11 rfl hl (by decide) rfl (fun ls hl => ?_)
  have loop12 : ∀ (n : Nat) (j : Nat) (ls : Array Slot) (H : Heap) (locs : List Loc), kp - j < n → (q ≤ j) → (j ≤ kp - 1) → nf_M D vwCl Bs (xS cs nn) ad (ys_sh (nf_iu I 20 0 7 (I 20 0 7 - 1)) q j) J P s.heap H locs → lv_has ls 3 [(2, .int (nI j)), (0, .ref (ad 20 0)), (1, .int (nI q))] → W p l e (nf_Rm 0 0) s m ([.ref (ad 20 0), .int (nI q)] : List Value).toArray below meth c H locs 0 0 Q (F0 m 12 ls []) := by
    intro n
    induction n with
    | zero => exact fun _ _ _ _ hmz => absurd hmz (Nat.not_lt_zero _)
    | succ n ihloop12 =>
      intro j ls H locs hmz hqj hjn hM hl
      refine lv_iload_n (pc := 12) hx hb dX4_dropEntry_12 rfl (lv_at hl 0 rfl) ?_
      refine lv_aload_n (pc := 13) hx hb dX4_dropEntry_13 rfl (lv_at hl 1 rfl) ?_
      refine nf_geti (pc := 14) hC hinX4 hM rfl rfl 7 (by decide) (List.mem_cons_of_mem _ wF_X4_96) rfl dX4_dropEntry_14 ?_
      refine lv_icmp_ge (pc := 17) (tgt := 68) hx hb dX4_dropEntry_17 (by decide) (fun hh => ?_) (fun hh => ?_)
      · have hj1 : kp - 1 ≤ j := (nI_leI (by omega) (by omega)).mp (by rw [(show ys_sh (nf_iu I 20 0 7 (I 20 0 7 - 1)) q j 20 0 7 = nI (kp - 1) by rw [← hk1]; simp [ys_sh])] at hh; exact hh)
        exact hret _ _ _ _ _ _ _ (by rw [ys_dr, show j = kp - 1 by omega]) rfl rfl hM dX4_dropEntry_68
      · have hj1 : j < kp - 1 := Nat.lt_of_not_le (fun z => hh (by rw [(show ys_sh (nf_iu I 20 0 7 (I 20 0 7 - 1)) q j 20 0 7 = nI (kp - 1) by rw [← hk1]; simp [ys_sh])]; exact (nI_leI (by omega) (by omega)).mpr z))
        refine lv_aload_n (pc := 20) hx hb dX4_dropEntry_20 rfl (lv_at hl 1 rfl) ?_
        refine nf_getr (pc := 21) hC hinX4 hM rfl rfl 8 (by decide) (List.mem_cons_of_mem _ wF_X4_29) rfl dX4_dropEntry_21 ?_
        refine lv_iload_n (pc := 24) hx hb dX4_dropEntry_24 rfl (lv_at hl 0 rfl) ?_
        refine lv_aload_n (pc := 25) hx hb dX4_dropEntry_25 rfl (lv_at hl 1 rfl) ?_
        refine nf_getr (pc := 26) hC hinX4 hM rfl rfl 8 (by decide) (List.mem_cons_of_mem _ wF_X4_29) rfl dX4_dropEntry_26 ?_
        refine lv_iload_n (pc := 29) hx hb dX4_dropEntry_29 rfl (lv_at hl 0 rfl) ?_
        refine lv_iconst (pc := 30) (v := 1) hx hb dX4_dropEntry_30 (by decide) ?_
        refine lv_iadd (pc := 31) hx hb dX4_dropEntry_31 ?_
        refine nf_iald (pc := 32) hC hM 0 rfl rfl ((j + 1)) (nI_1 _) (by omega) (by decide) dX4_dropEntry_32 ?_
        refine nf_iast (pc := 33) hC hM 0 rfl rfl j rfl (by omega) (by decide) dX4_dropEntry_33 (fun H locs hM => ?_)
        refine lv_aload_n (pc := 34) hx hb dX4_dropEntry_34 rfl (lv_at hl 1 rfl) ?_
        refine nf_getr (pc := 35) hC hinX4 hM rfl rfl 9 (by decide) (List.mem_cons_of_mem _ wF_X4_32) rfl dX4_dropEntry_35 ?_
        refine lv_iload_n (pc := 38) hx hb dX4_dropEntry_38 rfl (lv_at hl 0 rfl) ?_
        refine lv_aload_n (pc := 39) hx hb dX4_dropEntry_39 rfl (lv_at hl 1 rfl) ?_
        refine nf_getr (pc := 40) hC hinX4 hM rfl rfl 9 (by decide) (List.mem_cons_of_mem _ wF_X4_32) rfl dX4_dropEntry_40 ?_
        refine lv_iload_n (pc := 43) hx hb dX4_dropEntry_43 rfl (lv_at hl 0 rfl) ?_
        refine lv_iconst (pc := 44) (v := 1) hx hb dX4_dropEntry_44 (by decide) ?_
        refine lv_iadd (pc := 45) hx hb dX4_dropEntry_45 ?_
        refine nf_iald (pc := 46) hC hM 0 rfl rfl ((j + 1)) (nI_1 _) (by omega) (by decide) dX4_dropEntry_46 ?_
        refine nf_iast (pc := 47) hC hM 0 rfl rfl j rfl (by omega) (by decide) dX4_dropEntry_47 (fun H locs hM => ?_)
        refine lv_aload_n (pc := 48) hx hb dX4_dropEntry_48 rfl (lv_at hl 1 rfl) ?_
        refine nf_getr (pc := 49) hC hinX4 hM rfl rfl 10 (by decide) (List.mem_cons_of_mem _ wF_X4_35) rfl dX4_dropEntry_49 ?_
        refine lv_iload_n (pc := 52) hx hb dX4_dropEntry_52 rfl (lv_at hl 0 rfl) ?_
        refine lv_aload_n (pc := 53) hx hb dX4_dropEntry_53 rfl (lv_at hl 1 rfl) ?_
        refine nf_getr (pc := 54) hC hinX4 hM rfl rfl 10 (by decide) (List.mem_cons_of_mem _ wF_X4_35) rfl dX4_dropEntry_54 ?_
        refine lv_iload_n (pc := 57) hx hb dX4_dropEntry_57 rfl (lv_at hl 0 rfl) ?_
        refine lv_iconst (pc := 58) (v := 1) hx hb dX4_dropEntry_58 (by decide) ?_
        refine lv_iadd (pc := 59) hx hb dX4_dropEntry_59 ?_
        refine nf_iald (pc := 60) hC hM 0 rfl rfl ((j + 1)) (nI_1 _) (by omega) (by decide) dX4_dropEntry_60 ?_
        refine nf_iast (pc := 61) hC hM 0 rfl rfl j rfl (by omega) (by decide) dX4_dropEntry_61 (fun H locs hM => ?_)
        have hM : nf_M D vwCl Bs (xS cs nn) ad (ys_sh (nf_iu I 20 0 7 (I 20 0 7 - 1)) q (j + 1)) J P s.heap H locs := by rw [← ys_sh_s _ hqj]; exact hM
        refine lv_iinc (pc := 62) (k := 0) (v := nI (j + 1)) (lv' := [(2, .int (nI (j + 1))), (0, .ref (ad 20 0)), (1, .int (nI q))]) hx hb dX4_dropEntry_62 hl rfl (nI_1 _) (by decide) rfl (fun ls hl => ?_)
        refine lv_goto (pc := 65) (tgt := 12) hx hb dX4_dropEntry_65 (by decide) ?_
        exact ihloop12 (j + 1) ls _ _ (by omega) (by omega) (by omega) hM hl
  exact loop12 _ q ls _ _ (Nat.lt_succ_self _) (Nat.le_refl _) (by omega) hM hl
end YK
