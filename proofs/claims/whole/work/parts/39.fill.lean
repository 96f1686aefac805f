/-! Arrays.fill. -/
section ZF
variable {l : Launch} {D : va_G} {cs : Nat → ClassId} {Bs nn : Nat} {ad : nf_A} {sh : nf_H} {I : nf_I} {J : nf_J} {P : nf_P}
def nf_if (I : nf_I) (k i n : Nat) (v : Int32) : nf_I := fun a b c => if a = k ∧ b = i ∧ c < n then v else I a b c
def nf_jf (J : nf_J) (k i n : Nat) (v : Int64) : nf_J := fun a b c => if a = k ∧ b = i ∧ c < n then v else J a b c
theorem nf_if_0 (I : nf_I) (k i : Nat) (v : Int32) : nf_if I k i 0 v = I := by
  funext a b c
  unfold nf_if
  rw [if_neg (by omega)]
theorem nf_jf_0 (J : nf_J) (k i : Nat) (v : Int64) : nf_jf J k i 0 v = J := by
  funext a b c
  unfold nf_jf
  rw [if_neg (by omega)]
theorem nf_if_s (I : nf_I) (k i n : Nat) (v : Int32) : nf_iu (nf_if I k i n v) k i n v = nf_if I k i (n + 1) v := by
  funext a b c
  unfold nf_iu nf_if
  by_cases h1 : a = k ∧ b = i ∧ c = n
  · rw [if_pos h1, if_pos (by omega)]
  · rw [if_neg h1]
    by_cases h2 : a = k ∧ b = i ∧ c < n
    · rw [if_pos h2, if_pos (by omega)]
    · rw [if_neg h2, if_neg (by omega)]
theorem nf_jf_s (J : nf_J) (k i n : Nat) (v : Int64) : nf_ju (nf_jf J k i n v) k i n v = nf_jf J k i (n + 1) v := by
  funext a b c
  unfold nf_ju nf_jf
  by_cases h1 : a = k ∧ b = i ∧ c = n
  · rw [if_pos h1, if_pos (by omega)]
  · rw [if_neg h1]
    by_cases h2 : a = k ∧ b = i ∧ c < n
    · rw [if_pos h2, if_pos (by omega)]
    · rw [if_neg h2, if_neg (by omega)]
set_option maxHeartbeats 4000000 in
set_option maxRecDepth 100000 in
theorem ct_J7_filli {k i n : Nat} {v : Int32} (hg : sh k i = some (.inr (cs 0, n, 0))) (hn : n < 1000) : nf_Tv l yJ7_filli wsJ7_filli 0 0 D vwCl (xT cs) Bs sh ad [.ref (ad k i), .int v] I J P (nf_if I k i n v) J P := by
  refine nf_enterv (cc := cJ7_filli) (maxL := 4) (by decide) rfl (Nat.le_of_ble_eq_true rfl) ?_
  intro p e s m below meth c ls Q hC hM hl hret
  have hx := hC.1.1
  have hb := hC.1.2.1
  have hl : lv_has ls 4 [(0, .ref (ad k i)), (1, .int v)] := hl
  obtain ⟨H, hH⟩ : ∃ z, z = s.heap := ⟨_, rfl⟩
  obtain ⟨locs, hlo⟩ : ∃ z, z = ([] : List Loc) := ⟨_, rfl⟩
  rw [show nf_M D vwCl Bs sh ad I J P s.heap s.heap [] = nf_M D vwCl Bs sh ad I J P s.heap H locs by rw [hH, hlo]] at hM
  suffices hW : W p l e (nf_Rm 0 0) s m ([.ref (ad k i), .int v] : List Value).toArray below meth c H locs 0 0 Q (F0 m 0 ls []) by rw [hH, hlo] at hW; exact hW
  have hM : nf_M D vwCl Bs sh ad (nf_if I k i 0 v) J P s.heap H locs := by rw [nf_if_0]; exact hM
  refine lv_iconst (pc := 0) (v := 0) hx hb dJ7_filli_0 (by decide) ?_
  refine lv_istore_n (pc := 1) (lv' := [(2, .int 0), (0, .ref (ad k i)), (1, .int v)]) hx hb dJ7_filli_1 rfl hl (by decide) rfl (fun ls hl => ?_)
  refine lv_aload_n (pc := 2) hx hb dJ7_filli_2 rfl (lv_at hl 1 rfl) ?_
  refine nf_alen (pc := 3) hC hM 0 hg rfl dJ7_filli_3 ?_
  refine lv_istore_n (pc := 4) (lv' := [(3, .int (nI n)), (2, .int 0), (0, .ref (ad k i)), (1, .int v)]) hx hb dJ7_filli_4 rfl hl (by decide) rfl (fun ls hl => ?_)
  have loop5 : ∀ (fz : Nat) (j : Nat) (ls : Array Slot) (H : Heap) (locs : List Loc), n - j < fz → (j ≤ n) → nf_M D vwCl Bs sh ad (nf_if I k i j v) J P s.heap H locs → lv_has ls 4 [(2, .int (nI j)), (3, .int (nI n)), (0, .ref (ad k i)), (1, .int v)] → W p l e (nf_Rm 0 0) s m ([.ref (ad k i), .int v] : List Value).toArray below meth c H locs 0 0 Q (F0 m 5 ls []) := by
    intro fz
    induction fz with
    | zero => exact fun _ _ _ _ hmz => absurd hmz (Nat.not_lt_zero _)
    | succ fz ihloop5 =>
      intro j ls H locs hmz hjn hM hl
      refine lv_iload_n (pc := 5) hx hb dJ7_filli_5 rfl (lv_at hl 0 rfl) ?_
      refine lv_iload_n (pc := 6) hx hb dJ7_filli_6 rfl (lv_at hl 1 rfl) ?_
      refine lv_icmp_ge (pc := 7) (tgt := 20) hx hb dJ7_filli_7 (by decide) (fun hh => ?_) (fun hh => ?_)
      · have hj1 : n ≤ j := (nI_leI (by omega) (by omega)).mp (by exact hh)
        exact hret _ _ _ _ _ _ _ (by rw [show j = n by omega]) rfl rfl hM dJ7_filli_20
      · have hj1 : j < n := Nat.lt_of_not_le (fun z => hh (by exact (nI_leI (by omega) (by omega)).mpr z))
        refine lv_aload_n (pc := 10) hx hb dJ7_filli_10 rfl (lv_at hl 2 rfl) ?_
        refine lv_iload_n (pc := 11) hx hb dJ7_filli_11 rfl (lv_at hl 0 rfl) ?_
        refine lv_iload_n (pc := 12) hx hb dJ7_filli_12 rfl (lv_at hl 3 rfl) ?_
        refine nf_iast (pc := 13) hC hM 0 hg rfl j rfl (by omega) (by omega) dJ7_filli_13 (fun H locs hM => ?_)
        rw [nf_if_s] at hM
        refine lv_iinc (pc := 14) (k := 0) (v := nI (j + 1)) (lv' := [(2, .int (nI (j + 1))), (3, .int (nI n)), (0, .ref (ad k i)), (1, .int v)]) hx hb dJ7_filli_14 hl rfl (nI_1 _) (by decide) rfl (fun ls hl => ?_)
        refine lv_goto (pc := 17) (tgt := 5) hx hb dJ7_filli_17 (by decide) ?_
        exact ihloop5 (j + 1) ls _ _ (by omega) (by omega) hM hl
  exact loop5 _ 0 ls _ _ (Nat.lt_succ_self _) (Nat.zero_le _) hM (lv_sub hl [1, 0, 2, 3] rfl)
set_option maxHeartbeats 4000000 in
set_option maxRecDepth 100000 in
theorem ct_J7_filll {k i n : Nat} {v : Int64} (hg : sh k i = some (.inr (cs 1, n, 1))) (hn : n < 1000) : nf_Tv l yJ7_filll wsJ7_filll 0 0 D vwCl (xT cs) Bs sh ad [.ref (ad k i), .long v] I J P I (nf_jf J k i n v) P := by
  refine nf_enterv (cc := cJ7_filll) (maxL := 5) (by decide) rfl (Nat.le_of_ble_eq_true rfl) ?_
  intro p e s m below meth c ls Q hC hM hl hret
  have hx := hC.1.1
  have hb := hC.1.2.1
  have hl : lv_has ls 5 [(0, .ref (ad k i)), (1, .long v)] := hl
  obtain ⟨H, hH⟩ : ∃ z, z = s.heap := ⟨_, rfl⟩
  obtain ⟨locs, hlo⟩ : ∃ z, z = ([] : List Loc) := ⟨_, rfl⟩
  rw [show nf_M D vwCl Bs sh ad I J P s.heap s.heap [] = nf_M D vwCl Bs sh ad I J P s.heap H locs by rw [hH, hlo]] at hM
  suffices hW : W p l e (nf_Rm 0 0) s m ([.ref (ad k i), .long v] : List Value).toArray below meth c H locs 0 0 Q (F0 m 0 ls []) by rw [hH, hlo] at hW; exact hW
  have hM : nf_M D vwCl Bs sh ad I (nf_jf J k i 0 v) P s.heap H locs := by rw [nf_jf_0]; exact hM
  refine lv_iconst (pc := 0) (v := 0) hx hb dJ7_filll_0 (by decide) ?_
  refine lv_istore_n (pc := 1) (lv' := [(3, .int 0), (0, .ref (ad k i)), (1, .long v)]) hx hb dJ7_filll_1 rfl hl (by decide) rfl (fun ls hl => ?_)
  refine lv_aload_n (pc := 2) hx hb dJ7_filll_2 rfl (lv_at hl 1 rfl) ?_
  refine nf_alen (pc := 3) hC hM 1 hg rfl dJ7_filll_3 ?_
  refine lv_istore (pc := 4) (lv' := [(4, .int (nI n)), (3, .int 0), (0, .ref (ad k i)), (1, .long v)]) hx hb dJ7_filll_4 hl (by decide) rfl (fun ls hl => ?_)
  have loop6 : ∀ (fz : Nat) (j : Nat) (ls : Array Slot) (H : Heap) (locs : List Loc), n - j < fz → (j ≤ n) → nf_M D vwCl Bs sh ad I (nf_jf J k i j v) P s.heap H locs → lv_has ls 5 [(3, .int (nI j)), (4, .int (nI n)), (0, .ref (ad k i)), (1, .long v)] → W p l e (nf_Rm 0 0) s m ([.ref (ad k i), .long v] : List Value).toArray below meth c H locs 0 0 Q (F0 m 6 ls []) := by
    intro fz
    induction fz with
    | zero => exact fun _ _ _ _ hmz => absurd hmz (Nat.not_lt_zero _)
    | succ fz ihloop6 =>
      intro j ls H locs hmz hjn hM hl
      refine lv_iload_n (pc := 6) hx hb dJ7_filll_6 rfl (lv_at hl 0 rfl) ?_
      refine lv_iload (pc := 7) hx hb dJ7_filll_7 (lv_at hl 1 rfl) ?_
      refine lv_icmp_ge (pc := 9) (tgt := 22) hx hb dJ7_filll_9 (by decide) (fun hh => ?_) (fun hh => ?_)
      · have hj1 : n ≤ j := (nI_leI (by omega) (by omega)).mp (by exact hh)
        exact hret _ _ _ _ _ _ _ rfl (by rw [show j = n by omega]) rfl hM dJ7_filll_22
      · have hj1 : j < n := Nat.lt_of_not_le (fun z => hh (by exact (nI_leI (by omega) (by omega)).mpr z))
        refine lv_aload_n (pc := 12) hx hb dJ7_filll_12 rfl (lv_at hl 2 rfl) ?_
        refine lv_iload_n (pc := 13) hx hb dJ7_filll_13 rfl (lv_at hl 0 rfl) ?_
        refine lv_lload_n (pc := 14) hx hb dJ7_filll_14 rfl (lv_at hl 3 rfl) ?_
        refine nf_last (pc := 15) hC hM 1 hg rfl j rfl (by omega) (by omega) dJ7_filll_15 (fun H locs hM => ?_)
        rw [nf_jf_s] at hM
        refine lv_iinc (pc := 16) (k := 0) (v := nI (j + 1)) (lv' := [(3, .int (nI (j + 1))), (4, .int (nI n)), (0, .ref (ad k i)), (1, .long v)]) hx hb dJ7_filll_16 hl rfl (nI_1 _) (by decide) rfl (fun ls hl => ?_)
        refine lv_goto (pc := 19) (tgt := 6) hx hb dJ7_filll_19 (by decide) ?_
        exact ihloop6 (j + 1) ls _ _ (by omega) (by omega) hM hl
  exact loop6 _ 0 ls _ _ (Nat.lt_succ_self _) (Nat.zero_le _) hM (lv_sub hl [1, 0, 2, 3] rfl)
end ZF
