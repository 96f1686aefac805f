/-! wrong, misplaced. -/
section RD
variable {I : nf_I} {J : nf_J} {mp : Nat → Nat} {U : nf_I} {V : nf_J} {nn kc sz kp : Nat} {dd : Nat → Nat}
def rw_c (I : nf_I) (nn i : Nat) : Nat := (if I 5 i 1 = xs_fu I (I 5 i 0 + 1) nn 0 (-1) then 0 else 1) + (if I 5 i 2 = xs_fd I (I 5 i 0 - 1) nn 0 (-1) then 0 else 1) + sm (fun j => if I 6 i j = xs_fu I (xs_fst (I 5 i 0) (nI j)) nn 0 (-1) then 0 else 1) 8
def rw_m (U : nf_I) (d : Nat) : Nat := (if U 22 0 d = ys_first U (nI d + 1) 1 then 0 else 1) + (if U 23 0 d = ys_first U (nI d + 255) (-1) then 0 else 1) + sm (fun j => if U 24 0 (8 * d + j) = ys_first U (nI d + (1 <<< (nI j &&& 31))) 1 then 0 else 1) 8
theorem rw_cw (I : nf_I) (nn i : Nat) : xs_wp I nn i = nI (rw_c I nn i) := by
  unfold xs_wp rw_c
  simp only
  rw [fd_sum (xs_wf I nn i) (fun j => if I 6 i j = xs_fu I (xs_fst (I 5 i 0) (nI j)) nn 0 (-1) then 0 else 1) (fun _ _ => rfl) 8 (fun n j k _ => by rw [xs_wf, fd_1]) 8 0 _ rfl, smF_0, fd_1, fd_1, Int32.zero_add, nI_add, nI_add]
theorem rw_mw (U : nf_I) (d : Nat) (k : Int32) : ys_wf U d 8 0 (ys_w2 U d (ys_w1 U d k)) = k + nI (rw_m U d) := by
  unfold ys_w1 ys_w2 rw_m
  rw [fd_sum (ys_wf U d) (fun j => if U 24 0 (8 * d + j) = ys_first U (nI d + (1 <<< (nI j &&& 31))) 1 then 0 else 1) (fun _ _ => rfl) 8 (fun n j k _ => by rw [ys_wf, fd_1]) 8 0 _ rfl, smF_0, fd_1, fd_1, fd_add, fd_add, Nat.add_assoc]
theorem rw_eq (hi : rl_ids I nn dd) (hn : rl_nodes I J U V nn dd) {i : Nat} (h : i < nn) : rw_c I nn i = rw_m U (dd i) := by
  obtain ⟨hd, he⟩ := hi.1 i h
  obtain ⟨-, h22, h23, h24, -⟩ := hn.1 i h
  unfold rw_c rw_m
  rw [he, h22, h23, rf_up hi hn _ (nI (dd i) + 1) rfl, rf_dn hi hn _ (nI (dd i) + 255) (by
    unfold pz_t
    rw [pz_sub, pz_add, pk_tn (by omega), show (1 : Int32).toBitVec.toNat = 1 by decide +kernel, show (255 : Int32).toBitVec.toNat = 255 by decide +kernel]
    omega)]
  congr 1
  refine sm_cg (fun j hj => ?_)
  rw [h24 j hj, rf_up hi hn (xs_fst (nI (dd i)) (nI j)) (nI (dd i) + (1 <<< (nI j &&& 31))) (by
    unfold xs_fst
    rw [rf_and, pz_tn (pz_tl _)])]
theorem rr_wr (h : rl_all I J mp U V nn kc sz kp dd) : xs_wr I nn nn 0 0 = ys_wr U 256 0 0 := by
  obtain ⟨-, -, hi, hn, -⟩ := h
  rw [fd_sum (xs_wr I nn) (fun i => if I 5 i 1 = -1 then 0 else rw_c I nn i) (fun _ _ => rfl) nn (fun n j k _ => by
      rw [xs_wr]
      congr 1
      by_cases hm : I 5 j 1 = -1
      · rw [if_pos (by simp [xs_mem, hm]), if_pos hm, nI_0, Int32.add_zero]
      · rw [if_neg (by simp [xs_mem, hm]), if_neg hm, rw_cw]) nn 0 0 rfl,
    fd_sum (ys_wr U) (fun d => if U 21 0 d = 2 then rw_m U d else 0) (fun _ _ => rfl) 256 (fun n j k _ => by
      rw [ys_wr]
      congr 1
      by_cases hm : U 21 0 j = 2
      · rw [if_pos hm, if_pos hm, rw_mw]
      · rw [if_neg hm, if_neg hm, nI_0, Int32.add_zero]) 256 0 0 rfl, smF_0, smF_0]
  congr 2
  refine sm_bij (p := dd) ?_ ?_ ?_ ?_
  · exact fun q hq _ => (hi.1 q hq).1
  · exact fun q r hq hr _ _ e => hi.2 q r hq hr e
  · intro q hq hx
    have hm : ¬ I 5 q 1 = -1 := fun z => hx (if_pos z)
    rw [if_neg hm, if_pos ((rf_mem hi hn (hi.1 q hq).1).mpr ⟨q, hq, rfl, hm⟩), rw_eq hi hn hq]
  · intro d hd hg
    by_cases hm : U 21 0 d = 2
    · obtain ⟨i, h1, h2, h3⟩ := (rf_mem hi hn hd).mp hm
      rw [if_pos hm] at hg
      refine ⟨i, h1, ?_, h2⟩
      rw [if_neg h3, rw_eq hi hn h1, h2]
      exact hg
    · exact absurd (if_neg hm) hg
theorem sm_2 (g : Nat → Nat) : ∀ m, sm (fun j => sm (fun i => g (12 * j + i)) 12) m = sm g (12 * m)
  | 0 => rfl
  | m + 1 => by
    have h := smF_sm g 12 (12 * m)
    have e : ∀ n a, smF g a n = sm (fun i => g (a + i)) n := by
      intro n
      induction n with
      | zero => intro a; rfl
      | succ n ih =>
        intro a
        have := smF_sm g n a
        have h2 := smF_sm g (n + 1) a
        simp only [sm]
        rw [← ih a]
        rw [show a + (n + 1) = (a + n) + 1 by omega] at h2
        simp only [sm] at h2
        omega
    rw [show 12 * (m + 1) = 12 * m + 12 by omega, ← h, e]
    show sm (fun j => sm (fun i => g (12 * j + i)) 12) m + sm (fun i => g (12 * m + i)) 12 = _
    rw [sm_2 g m, Nat.add_comm]
theorem sm_le {f : Nat → Nat} {n N : Nat} (h : n ≤ N) (hz : ∀ t, n ≤ t → t < N → f t = 0) : sm f n = sm f N := by
  induction N with
  | zero => rw [show n = 0 by omega]
  | succ N ih =>
    by_cases he : n = N + 1
    · rw [he]
    · simp only [sm]
      rw [hz N (by omega) (by omega), ih (by omega) (fun t h1 h2 => hz t h1 (by omega))]
      rfl
def rp_c (I : nf_I) (J : nf_J) (nn kc : Nat) (t : Nat) : Nat := if t / 12 < kc ∧ t % 12 < nn ∧ ¬ J 7 (t % 12) (t / 12) = 4294967296 ∧ ¬ I 5 (t % 12) 0 = xs_fu I (I 2 0 (t / 12)) nn 0 (-1) then 1 else 0
theorem rr_mo (h : rl_all I J mp U V nn kc sz kp dd) : xs_mo I J nn kc 0 0 = ys_mp U kp 0 0 := by
  obtain ⟨⟨⟨hnn, hkc, -, hkp⟩, -⟩, -, hi, hn, -, hk, he, -⟩ := h
  obtain ⟨f1, f2, f3⟩ := he
  have hin : ∀ j, j < kc → ∀ k, xs_mi I J j (xs_fu I (I 2 0 j) nn 0 (-1)) nn 0 k = k + nI (sm (fun i => rp_c I J nn kc (12 * j + i)) 12) := by
    intro j hj k
    rw [fd_sum (xs_mi I J j (xs_fu I (I 2 0 j) nn 0 (-1))) (fun i => rp_c I J nn kc (12 * j + i)) (fun _ _ => rfl) nn (fun n i k hni => by
      rw [xs_mi]
      congr 1
      unfold rp_c
      rw [show (12 * j + i) / 12 = j by omega, show (12 * j + i) % 12 = i by omega]
      by_cases h1 : J 7 i j = 4294967296
      · rw [if_pos ((lg_0 _ _).mpr h1), if_neg (fun z => z.2.2.1 h1), nI_0, Int32.add_zero]
      · rw [if_neg (fun z => h1 ((lg_0 _ _).mp z))]
        by_cases h2 : I 5 i 0 = xs_fu I (I 2 0 j) nn 0 (-1)
        · rw [if_pos h2, if_neg (fun z => z.2.2.2 h2), nI_0, Int32.add_zero]
        · rw [if_neg h2, if_pos ⟨hj, by omega, h1, h2⟩]; rfl) nn 0 k rfl, smF_0]
    congr 2
    refine sm_le (by omega) (fun t h1 h2 => ?_)
    unfold rp_c
    rw [show (12 * j + t) / 12 = j by omega, show (12 * j + t) % 12 = t by omega]
    exact if_neg (fun z => by omega)
  rw [fd_sum (xs_mo I J nn) (fun j => sm (fun i => rp_c I J nn kc (12 * j + i)) 12) (fun _ _ => rfl) kc (fun n j k hnj => by rw [xs_mo, hin j (by omega)]) kc 0 0 rfl,
    fd_sum (ys_mp U) (fun q => if ys_first U (U 28 0 q) 1 = U 27 0 q then 0 else 1) (fun _ _ => rfl) kp (fun n j k _ => by rw [ys_mp, fd_1]) kp 0 0 rfl, smF_0, smF_0, sm_2]
  congr 2
  symm
  have hx1 : ∀ q, ¬ (if ys_first U (U 28 0 q) 1 = U 27 0 q then 0 else 1) = 0 → ¬ ys_first U (U 28 0 q) 1 = U 27 0 q := fun q hx z => hx (if_pos z)
  have hnode : ∀ q i, q < kp → i < nn → U 27 0 q = nI (dd i) → ((xs_node I nn (U 27 0 q)).getD 0) = i := fun q i hq h1 e => by rw [e, rn_some hi h1]; rfl
  refine sm_bij (p := fun q => 12 * (xs_slot I kc (U 28 0 q)).toNatClampNeg + ((xs_node I nn (U 27 0 q)).getD 0)) ?_ ?_ ?_ ?_
  · intro q hq _
    obtain ⟨i, s, h1, h2, a, b, c⟩ := f1 q hq
    rw [hnode q i hq h1 a, b, rs_slot hk hkc h2, nI_clamp (by omega)]
    omega
  · intro q r hq hr _ _ hpq
    obtain ⟨i, s, h1, h2, a, b, c⟩ := f1 q hq
    obtain ⟨i', s', h1', h2', a', b', c'⟩ := f1 r hr
    rw [hnode q i hq h1 a, b, rs_slot hk hkc h2, nI_clamp (by omega), hnode r i' hr h1' a', b', rs_slot hk hkc h2', nI_clamp (by omega)] at hpq
    have e1 : i = i' := by omega
    have e2 : s = s' := by omega
    exact f2 q r hq hr (by rw [a, a', e1]) (by rw [b, b', e2])
  · intro q hq hx
    obtain ⟨i, s, h1, h2, a, b, c⟩ := f1 q hq
    have hne := hx1 q hx
    rw [if_neg hne, hnode q i hq h1 a, b, rs_slot hk hkc h2, nI_clamp (by omega)]
    unfold rp_c
    rw [show (12 * s + i) / 12 = s by omega, show (12 * s + i) % 12 = i by omega]
    refine if_pos ⟨h2, h1, by rw [c]; exact rc_abs _, fun z => hne ?_⟩
    rw [a, ← (hi.1 i h1).2, z, b, rf_up hi hn _ _ rfl]
  · intro t ht hg
    unfold rp_c at hg
    by_cases hc : t / 12 < kc ∧ t % 12 < nn ∧ ¬ J 7 (t % 12) (t / 12) = 4294967296 ∧ ¬ I 5 (t % 12) 0 = xs_fu I (I 2 0 (t / 12)) nn 0 (-1)
    · obtain ⟨c1, c2, c3, c4⟩ := hc
      obtain ⟨-, q, hq, a, b⟩ := f3 _ _ c2 (by omega) c3
      refine ⟨q, hq, ?_, ?_⟩
      · rw [if_neg]
        · decide
        · intro z
          apply c4
          rw [rf_up hi hn _ (U 28 0 q) (by rw [b]), z, a, (hi.1 _ c2).2]
      · rw [hnode q _ hq c2 a, b, rs_slot hk hkc c1, nI_clamp (by omega)]
        omega
    · exact absurd (if_neg hc) hg
end RD
