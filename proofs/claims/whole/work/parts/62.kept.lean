/-! Entries: one is dropped, one is kept, there is room. -/
theorem sm_N {g : Nat → Nat} : ∀ {N}, (∀ t, t < N → g t ≤ 1) → sm g N ≤ N
  | 0, _ => Nat.le_refl _
  | N + 1, h => by
    have := sm_N (g := g) (N := N) (fun t ht => h t (by omega))
    have := h N (by omega)
    simp only [sm]
    omega
theorem sm_N1 {g : Nat → Nat} {t0 : Nat} (h0 : g t0 = 0) : ∀ {N}, t0 < N → (∀ t, t < N → g t ≤ 1) → sm g N + 1 ≤ N
  | 0, h, _ => by omega
  | N + 1, h, hh => by
    simp only [sm]
    by_cases he : t0 = N
    · rw [← he, h0]
      have := sm_N (g := g) (N := t0) (fun t ht => hh t (by omega))
      omega
    · have := sm_N1 h0 (N := N) (by omega) (fun t ht => hh t (by omega))
      have := hh N (by omega)
      omega
theorem sm_c1 : ∀ n, sm (fun _ => 1) n = n
  | 0 => rfl
  | n + 1 => by simp only [sm]; rw [sm_c1 n]
section RKp
variable {I : nf_I} {J : nf_J} {U : nf_I} {nn kc kp : Nat} {dd : Nat → Nat}
theorem rk_room (hi : rl_ids I nn dd) (hk : rl_keys I U kc) (he : rl_ent I J U nn kc kp dd) (hnn : nn ≤ 12) (hkc : kc ≤ 10) {b s : Nat} (hb : b < nn) (hs : s < kc) (hno : ∀ q, q < kp → ¬ (U 27 0 q = nI (dd b) ∧ U 28 0 q = I 2 0 s)) : kp < 120 := by
  obtain ⟨e1, e2, -⟩ := he
  have hp : ∀ q, q < kp → ∃ i t, i < nn ∧ t < kc ∧ U 27 0 q = nI (dd i) ∧ U 28 0 q = I 2 0 t ∧ 12 * (xs_slot I kc (U 28 0 q)).toNatClampNeg + ((xs_node I nn (U 27 0 q)).getD 0) = 12 * t + i := by
    intro q hq
    obtain ⟨i, t, h1, h2, a, c, -⟩ := e1 q hq
    exact ⟨i, t, h1, h2, a, c, by rw [a, rn_some hi h1, c, rs_slot hk hkc h2, nI_clamp (by omega)]; rfl⟩
  have key : sm (fun _ => 1) kp = sm (fun t => if (List.range kp).any (fun q => 12 * (xs_slot I kc (U 28 0 q)).toNatClampNeg + ((xs_node I nn (U 27 0 q)).getD 0) == t) = true then 1 else 0) 120 := by
    refine sm_bij (p := fun q => 12 * (xs_slot I kc (U 28 0 q)).toNatClampNeg + ((xs_node I nn (U 27 0 q)).getD 0)) ?_ ?_ ?_ ?_
    · intro q hq _
      obtain ⟨i, t, h1, h2, -, -, e⟩ := hp q hq
      rw [e]; omega
    · intro q r hq hr _ _ e
      obtain ⟨i, t, h1, h2, a, c, e'⟩ := hp q hq
      obtain ⟨i', t', h1', h2', a', c', e''⟩ := hp r hr
      rw [e', e''] at e
      have x1 : i = i' := by omega
      have x2 : t = t' := by omega
      exact e2 q r hq hr (by rw [a, a', x1]) (by rw [c, c', x2])
    · intro q hq _
      refine if_pos ?_
      rw [List.any_eq_true]
      exact ⟨q, List.mem_range.mpr hq, by simp⟩
    · intro t ht hg
      by_cases hc : (List.range kp).any (fun q => 12 * (xs_slot I kc (U 28 0 q)).toNatClampNeg + ((xs_node I nn (U 27 0 q)).getD 0) == t) = true
      · rw [List.any_eq_true] at hc
        obtain ⟨q, hq, hqe⟩ := hc
        exact ⟨q, List.mem_range.mp hq, by decide, by simpa using hqe⟩
      · exact absurd (if_neg hc) hg
  rw [sm_c1] at key
  have hm := sm_N1 (g := fun t => if (List.range kp).any (fun q => 12 * (xs_slot I kc (U 28 0 q)).toNatClampNeg + ((xs_node I nn (U 27 0 q)).getD 0) == t) = true then 1 else 0) (t0 := 12 * s + b) ?_ (N := 120) (by omega) (fun t _ => by split <;> omega)
  · omega
  · refine if_neg (fun hc => ?_)
    rw [List.any_eq_true] at hc
    obtain ⟨q, hq, hqe⟩ := hc
    have hq := List.mem_range.mp hq
    obtain ⟨i, t, h1, h2, a, c, e'⟩ := hp q hq
    have hqe : 12 * (xs_slot I kc (U 28 0 q)).toNatClampNeg + ((xs_node I nn (U 27 0 q)).getD 0) = 12 * s + b := by simpa using hqe
    rw [e'] at hqe
    have x1 : i = b := by omega
    have x2 : t = s := by omega
    exact hno q hq ⟨by rw [a, x1], by rw [c, x2]⟩
theorem rd_U {k : Nat} (hk : k < kp) {a : Nat} (ha : a = 27 ∨ a = 28 ∨ a = 29) {q : Nat} (hq : q < kp - 1) : ys_dr U kp k a 0 q = U a 0 (if k ≤ q then q + 1 else q) := by
  unfold ys_dr ys_sh
  by_cases h : k ≤ q
  · rw [if_pos ⟨ha, rfl, h, hq⟩, if_pos h, nf_iu_n _ _ (by omega)]
  · rw [if_neg (by omega), if_neg h, nf_iu_n _ _ (by omega)]
theorem rd_o {k : Nat} : ∀ a b c, ¬ (a = 27 ∨ a = 28 ∨ a = 29) → ¬ (a = 20 ∧ b = 0 ∧ c = 7) → ys_dr U kp k a b c = U a b c := by
  intro a b c h1 h2
  unfold ys_dr ys_sh
  rw [if_neg (fun z => h1 z.1), nf_iu_n _ _ h2]
theorem rk_drop (hi : rl_ids I nn dd) (hk : rl_keys I U kc) (he : rl_ent I J U nn kc kp dd) {k i s : Nat} (hkk : k < kp) (h1 : i < nn) (h2 : s < kc) (a : U 27 0 k = nI (dd i)) (c : U 28 0 k = I 2 0 s) : rl_ent I (nf_ju J 7 i s 4294967296) (ys_dr U kp k) nn kc (kp - 1) dd := by
  obtain ⟨e1, e2, e3⟩ := he
  have hx : ∀ q, q < kp - 1 → (if k ≤ q then q + 1 else q) < kp ∧ ¬ (if k ≤ q then q + 1 else q) = k := by
    intro q hq
    by_cases h : k ≤ q
    · rw [if_pos h]; omega
    · rw [if_neg h]; omega
  refine ⟨fun q hq => ?_, fun q r hq hr b1 b2 => ?_, fun i' s' hi' hs' hv => ?_⟩
  · obtain ⟨x1, x2⟩ := hx q hq
    obtain ⟨i', s', y1, y2, y3, y4, y5⟩ := e1 _ x1
    refine ⟨i', s', y1, y2, by rw [rd_U hkk (Or.inl rfl) hq]; exact y3, by rw [rd_U hkk (Or.inr (Or.inl rfl)) hq]; exact y4, ?_⟩
    rw [rd_U hkk (Or.inr (Or.inr rfl)) hq, nf_ju_n _ _ (fun z => x2 (e2 _ k x1 hkk (by rw [y3, a, z.2.1]) (by rw [y4, c, z.2.2])))]
    exact y5
  · obtain ⟨x1, x2⟩ := hx q hq
    obtain ⟨x1', x2'⟩ := hx r hr
    rw [rd_U hkk (Or.inl rfl) hq, rd_U hkk (Or.inl rfl) hr] at b1
    rw [rd_U hkk (Or.inr (Or.inl rfl)) hq, rd_U hkk (Or.inr (Or.inl rfl)) hr] at b2
    have := e2 _ _ x1 x1' b1 b2
    by_cases c1 : k ≤ q <;> by_cases c2 : k ≤ r <;> simp only [c1, c2, if_true, if_false] at this <;> omega
  · by_cases hz : i' = i ∧ s' = s
    · rw [hz.1, hz.2, nf_ju_s] at hv
      exact absurd rfl hv
    · rw [nf_ju_n _ _ (fun z => hz z.2)] at hv
      obtain ⟨y1, q, y2, y3, y4⟩ := e3 i' s' hi' hs' hv
      have hqk : ¬ q = k := by
        intro z
        apply hz
        rw [z, a] at y3
        rw [z, c] at y4
        exact ⟨(hi.2 i i' h1 hi' (ri_inj (hi.1 i h1).1 (hi.1 i' hi').1 y3)).symm, (hk.2 s s' h2 y1 y4).symm⟩
      refine ⟨y1, if k < q then q - 1 else q, ?_, ?_, ?_⟩
      · by_cases hc : k < q
        · rw [if_pos hc]; omega
        · rw [if_neg hc]; omega
      · have hlt : (if k < q then q - 1 else q) < kp - 1 := by
          by_cases hc : k < q
          · rw [if_pos hc]; omega
          · rw [if_neg hc]; omega
        rw [rd_U hkk (Or.inl rfl) hlt]
        by_cases hc : k < q
        · rw [if_pos hc, if_pos (by omega), show q - 1 + 1 = q by omega]; exact y3
        · rw [if_neg hc, if_neg (by omega)]; exact y3
      · have hlt : (if k < q then q - 1 else q) < kp - 1 := by
          by_cases hc : k < q
          · rw [if_pos hc]; omega
          · rw [if_neg hc]; omega
        rw [rd_U hkk (Or.inr (Or.inl rfl)) hlt]
        by_cases hc : k < q
        · rw [if_pos hc, if_pos (by omega), show q - 1 + 1 = q by omega]; exact y4
        · rw [if_neg hc, if_neg (by omega)]; exact y4
theorem rk_o {mb wd v : Int32} : ∀ a b c, ¬ (a = 27 ∨ a = 28 ∨ a = 29) → ¬ (a = 20 ∧ b = 0 ∧ c = 7) → ys_kp U kp mb wd v a b c = U a b c := by
  intro a b c h1 h2
  unfold ys_kp ys_kp0
  split
  · rw [nf_iu_n _ _ (by omega)]
  · rw [nf_iu_n _ _ (by omega), nf_iu_n _ _ (by omega), nf_iu_n _ _ (by omega), nf_iu_n _ _ h2]
theorem rk_keep (hi : rl_ids I nn dd) (hk : rl_keys I U kc) (he : rl_ent I J U nn kc kp dd) (hkp : U 20 0 7 = nI kp) (hk2 : kp ≤ 120) (hkc : kc ≤ 10) {b s : Nat} (hb : b < nn) (hs : s < kc) (v : Int32) (hroom : (∀ q, q < kp → ¬ (U 27 0 q = nI (dd b) ∧ U 28 0 q = I 2 0 s)) → kp < 120) : ∃ kp', kp' ≤ 120 ∧ ys_kp U kp (nI (dd b)) (I 2 0 s) v 20 0 7 = nI kp' ∧ rl_ent I (nf_ju J 7 b s v.toInt64) (ys_kp U kp (nI (dd b)) (I 2 0 s) v) nn kc kp' dd := by
  obtain ⟨e1, e2, e3⟩ := he
  rcases ys_eat_out U kp (nI (dd b)) (I 2 0 s) with ⟨hz, hno⟩ | ⟨q0, hq0, hz, a0, c0⟩
  · have hlt := hroom hno
    have eK : ys_kp U kp (nI (dd b)) (I 2 0 s) v = ys_kp0 U kp (nI (dd b)) (I 2 0 s) v := by unfold ys_kp; rw [hz, if_neg (by decide)]
    rw [eK]
    have o27 : ∀ q, ¬ q = kp → ys_kp0 U kp (nI (dd b)) (I 2 0 s) v 27 0 q = U 27 0 q := fun q hq => by unfold ys_kp0; rw [nf_iu_n _ _ (by omega), nf_iu_n _ _ (by omega), nf_iu_n _ _ (by omega), nf_iu_n _ _ (by omega)]
    have o28 : ∀ q, ¬ q = kp → ys_kp0 U kp (nI (dd b)) (I 2 0 s) v 28 0 q = U 28 0 q := fun q hq => by unfold ys_kp0; rw [nf_iu_n _ _ (by omega), nf_iu_n _ _ (by omega), nf_iu_n _ _ (by omega), nf_iu_n _ _ (by omega)]
    have o29 : ∀ q, ¬ q = kp → ys_kp0 U kp (nI (dd b)) (I 2 0 s) v 29 0 q = U 29 0 q := fun q hq => by unfold ys_kp0; rw [nf_iu_n _ _ (by omega), nf_iu_n _ _ (by omega), nf_iu_n _ _ (by omega), nf_iu_n _ _ (by omega)]
    have n27 : ys_kp0 U kp (nI (dd b)) (I 2 0 s) v 27 0 kp = nI (dd b) := by simp [ys_kp0, nf_iu]
    have n28 : ys_kp0 U kp (nI (dd b)) (I 2 0 s) v 28 0 kp = I 2 0 s := by simp [ys_kp0, nf_iu]
    have n29 : ys_kp0 U kp (nI (dd b)) (I 2 0 s) v 29 0 kp = v := by simp [ys_kp0, nf_iu]
    refine ⟨kp + 1, by omega, by simp [ys_kp0, nf_iu, hkp, nI_1], fun q hq => ?_, fun q r hq hr b1 b2 => ?_, fun i' s' hi' hs' hv => ?_⟩
    · by_cases hqk : q = kp
      · exact ⟨b, s, hb, hs, by rw [hqk, n27], by rw [hqk, n28], by rw [hqk, n29, nf_ju_s]⟩
      · obtain ⟨i', s', y1, y2, y3, y4, y5⟩ := e1 q (by omega)
        refine ⟨i', s', y1, y2, by rw [o27 q hqk]; exact y3, by rw [o28 q hqk]; exact y4, ?_⟩
        rw [o29 q hqk, nf_ju_n _ _ (fun z => hno q (by omega) ⟨by rw [y3, z.2.1], by rw [y4, z.2.2]⟩)]
        exact y5
    · by_cases hqk : q = kp
      · by_cases hrk : r = kp
        · omega
        · rw [hqk, n27, o27 r hrk] at b1
          rw [hqk, n28, o28 r hrk] at b2
          exact absurd ⟨b1.symm, b2.symm⟩ (hno r (by omega))
      · by_cases hrk : r = kp
        · rw [hrk, n27, o27 q hqk] at b1
          rw [hrk, n28, o28 q hqk] at b2
          exact absurd ⟨b1, b2⟩ (hno q (by omega))
        · rw [o27 q hqk, o27 r hrk] at b1
          rw [o28 q hqk, o28 r hrk] at b2
          exact e2 q r (by omega) (by omega) b1 b2
    · by_cases hz2 : i' = b ∧ s' = s
      · exact ⟨by rw [hz2.2]; exact hs, kp, by omega, by rw [n27, hz2.1], by rw [n28, hz2.2]⟩
      · rw [nf_ju_n _ _ (fun z => hz2 z.2)] at hv
        obtain ⟨y1, q, y2, y3, y4⟩ := e3 i' s' hi' hs' hv
        exact ⟨y1, q, by omega, by rw [o27 q (by omega)]; exact y3, by rw [o28 q (by omega)]; exact y4⟩
  · have eK : ys_kp U kp (nI (dd b)) (I 2 0 s) v = nf_iu U 29 0 q0 v := by unfold ys_kp; rw [hz, if_pos (nI_pos' (by omega)), nI_clamp (by omega)]
    rw [eK]
    refine ⟨kp, hk2, by rw [nf_iu_n _ _ (by omega)]; exact hkp, fun q hq => ?_, fun q r hq hr b1 b2 => ?_, fun i' s' hi' hs' hv => ?_⟩
    · obtain ⟨i', s', y1, y2, y3, y4, y5⟩ := e1 q hq
      refine ⟨i', s', y1, y2, by rw [nf_iu_n _ _ (by omega)]; exact y3, by rw [nf_iu_n _ _ (by omega)]; exact y4, ?_⟩
      by_cases hqq : q = q0
      · have x1 : i' = b := hi.2 i' b y1 hb (ri_inj (hi.1 i' y1).1 (hi.1 b hb).1 (by rw [← y3, hqq, a0]))
        have x2 : s' = s := hk.2 s' s y2 hs (by rw [← y4, hqq, c0])
        rw [x1, x2, nf_ju_s, hqq, nf_iu_s]
      · rw [nf_iu_n _ _ (by omega), nf_ju_n _ _ (fun z => hqq (e2 q q0 hq hq0 (by rw [y3, a0, z.2.1]) (by rw [y4, c0, z.2.2])))]
        exact y5
    · rw [nf_iu_n _ _ (by omega), nf_iu_n _ _ (by omega)] at b1
      rw [nf_iu_n _ _ (by omega), nf_iu_n _ _ (by omega)] at b2
      exact e2 q r hq hr b1 b2
    · by_cases hz2 : i' = b ∧ s' = s
      · exact ⟨by rw [hz2.2]; exact hs, q0, hq0, by rw [nf_iu_n _ _ (by omega), a0, hz2.1], by rw [nf_iu_n _ _ (by omega), c0, hz2.2]⟩
      · rw [nf_ju_n _ _ (fun z => hz2 z.2)] at hv
        obtain ⟨y1, q, y2, y3, y4⟩ := e3 i' s' hi' hs' hv
        exact ⟨y1, q, y2, by rw [nf_iu_n _ _ (by omega)]; exact y3, by rw [nf_iu_n _ _ (by omega)]; exact y4⟩
end RKp
section RSt
variable {I : nf_I} {J J' : nf_J} {mp : Nat → Nat} {U U' : nf_I} {V : nf_J} {nn kc q kp kp' : Nat} {dd : Nat → Nat}
/-- entries alone change -/
theorem rg_ent2 (h : rl_all I J mp U V nn kc q kp dd) (hJ : ∀ a b c, ¬ a = 7 → J' a b c = J a b c) (hU : ∀ a b c, ¬ (a = 27 ∨ a = 28 ∨ a = 29) → ¬ (a = 20 ∧ b = 0 ∧ c = 7) → U' a b c = U a b c) (hk : U' 20 0 7 = nI kp') (hk2 : kp' ≤ 120) (he : rl_ent I J' U' nn kc kp' dd) : rl_all I J' mp U' V nn kc q kp' dd := by
  obtain ⟨⟨⟨n1, n2, n3, n4⟩, n5, n6, n7, n8, n9, n10, n11⟩, hmp, hi, hn, hp, hky, -, hms⟩ := h
  refine ⟨⟨⟨n1, n2, n3, hk2⟩, n5, n6, n7, by rw [hU 20 0 0 (by omega) (by omega)]; exact n8, hk, by rw [hU 20 0 11 (by omega) (by omega)]; exact n10, by rw [hU 20 0 13 (by omega) (by omega)]; exact n11⟩, hmp, hi, ?_, hp, ?_, he, fun j hj => ?_⟩
  · exact rg_nodes hn (fun _ _ _ => rfl) (fun _ _ _ => rfl) (fun i _ => hJ 5 i 5 (by omega)) (fun a c h1 h2 => hU a 0 c (by omega) (by omega)) (fun _ => rfl)
  · exact rg_keys hky (fun _ _ => rfl) (fun j _ => hU 30 0 j (by omega) (by omega))
  · exact rg_msg (hms j hj) (fun _ => rfl) (hJ 8 _ 8 (by omega)) (fun a h1 h2 => hU a 0 j (by omega) (by omega)) rfl (fun _ z => z) (fun _ z => z) (fun s hs => ⟨hs, rfl⟩)
/-- STORE -/
theorem ra_3 (h : rl_all I J mp U V nn kc q kp dd) {i o : Nat} (hi0 : i < nn) (h4 : I 8 o 4 = U 33 0 20) (hs : ∃ s, s < kc ∧ I 8 o 4 = I 2 0 s) (h8 : J 8 o 8 = V 38 0 20) (hv : ∃ v : Int32, J 8 o 8 = v.toInt64) : ((¬ 0 ≤ ys_eat U kp (nI (dd i)) (U 33 0 20)) → kp < 120) ∧ ∃ kp', rl_all I (xs_stJ I J kc i o) mp (ys_kp U kp (nI (dd i)) (U 33 0 20) (V 38 0 20).toInt32) V nn kc q kp' dd := by
  obtain ⟨s, hs, hse⟩ := hs
  obtain ⟨v, hv⟩ := hv
  have hnum := h.1
  have hi := h.2.2.1
  have hk := h.2.2.2.2.2.1
  have he := h.2.2.2.2.2.2.1
  have hvi : (V 38 0 20).toInt32 = v := by rw [← h8, hv]; exact Int32.toInt32_toInt64 _
  have hroom := rk_room hi hk he hnum.1.1 hnum.1.2.1 hi0 hs
  rw [← h4, hse, hvi]
  refine ⟨fun z => ?_, ?_⟩
  · rcases ys_eat_out U kp (nI (dd i)) (I 2 0 s) with ⟨-, hno⟩ | ⟨q0, hq0, hz, -, -⟩
    · exact hroom hno
    · rw [hz] at z
      exact absurd (nI_pos' (by have := hnum.1.2.2.2; omega)) z
  · obtain ⟨kp', k1, k2, k3⟩ := rk_keep hi hk he hnum.2.2.2.2.2.1 hnum.1.2.2.2 hnum.1.2.1 hi0 hs v hroom
    have e : xs_stJ I J kc i o = nf_ju J 7 i s v.toInt64 := by
      unfold xs_stJ
      rw [hse, rs_slot hk hnum.1.2.1 hs, if_neg (ri_ne (by have := hnum.1.2.1; omega)), nI_clamp (by have := hnum.1.2.1; omega), hv]
    rw [e]
    exact ⟨kp', rg_ent2 h (fun a b c ha => nf_ju_n _ _ (fun z => ha z.1)) (fun a b c h1 h2 => rk_o a b c h1 h2) k2 k1 k3⟩
end RSt
