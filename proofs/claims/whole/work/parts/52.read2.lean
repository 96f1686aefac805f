/-! Entries, answers, hops. -/
theorem ys_ea_out {I : nf_I} {mb wd : Int32} : ∀ {n j : Nat} {f : Int32}, ys_ea I mb wd n j f = f ∧ (∀ q, j ≤ q → q < n + j → ¬ (I 27 0 q = mb ∧ I 28 0 q = wd)) ∨ ∃ q, j ≤ q ∧ q < n + j ∧ ys_ea I mb wd n j f = nI q ∧ I 27 0 q = mb ∧ I 28 0 q = wd
  | 0, j, f => Or.inl ⟨rfl, fun q h1 h2 => by omega⟩
  | n + 1, j, f => by
    unfold ys_ea
    rcases ys_ea_out (I := I) (mb := mb) (wd := wd) (n := n) (j := j + 1) (f := if I 27 0 j = mb then (if I 28 0 j = wd then nI j else f) else f) with ⟨h, hn⟩ | ⟨q, h1, h2, h3, h4⟩
    · rw [h]
      by_cases c1 : I 27 0 j = mb ∧ I 28 0 j = wd
      · rw [if_pos c1.1, if_pos c1.2]
        exact Or.inr ⟨j, Nat.le_refl _, by omega, rfl, c1.1, c1.2⟩
      · left
        refine ⟨?_, fun q h1 h2 => ?_⟩
        · by_cases c2 : I 27 0 j = mb
          · rw [if_pos c2, if_neg (fun z => c1 ⟨c2, z⟩)]
          · rw [if_neg c2]
        · by_cases hq : q = j
          · subst hq; exact c1
          · exact hn q (by omega) (by omega)
    · exact Or.inr ⟨q, by omega, by omega, h3, h4⟩
theorem ys_eat_out (I : nf_I) (kp : Nat) (mb wd : Int32) : (ys_eat I kp mb wd = -1 ∧ ∀ q, q < kp → ¬ (I 27 0 q = mb ∧ I 28 0 q = wd)) ∨ ∃ q, q < kp ∧ ys_eat I kp mb wd = nI q ∧ I 27 0 q = mb ∧ I 28 0 q = wd := by
  rcases ys_ea_out (I := I) (mb := mb) (wd := wd) (n := kp) (j := 0) (f := -1) with ⟨h, hn⟩ | ⟨q, h1, h2, h3, h4⟩
  · exact Or.inl ⟨h, fun q hq => hn q (Nat.zero_le _) (by omega)⟩
  · exact Or.inr ⟨q, by omega, h3, h4⟩
section RS
variable {I : nf_I} {J : nf_J} {mp : Nat → Nat} {U : nf_I} {V : nf_J} {nn kc sz kp : Nat} {dd : Nat → Nat}
theorem rs_val (hi : rl_ids I nn dd) (hk : rl_keys I U kc) (he : rl_ent I J U nn kc kp dd) (hkc : kc ≤ 10) (hkp : kp ≤ 120) {i : Nat} (h : i < nn) (key : Int32) : xs_val I J kc i key = if 0 ≤ ys_eat U kp (nI (dd i)) key then (U 29 0 (ys_eat U kp (nI (dd i)) key).toNatClampNeg).toInt64 else 4294967296 := by
  obtain ⟨e1, e2, e3⟩ := he
  rcases ys_eat_out U kp (nI (dd i)) key with ⟨hz, hno⟩ | ⟨q, hq, hz, h27, h28⟩
  · rw [hz, if_neg (by decide)]
    unfold xs_val
    rcases xs_slot_c I kc key with s1 | ⟨s, hs, s1, s2⟩
    · rw [if_pos s1]
    · rw [if_neg (by rw [s1]; exact ri_ne (by omega)), s1, nI_clamp (by omega)]
      by_cases hv : J 7 i s = 4294967296
      · exact hv
      · obtain ⟨-, q, hq, a, b⟩ := e3 i s h (by omega) hv
        exact absurd ⟨a, by rw [b, s2]⟩ (hno q hq)
  · rw [hz, if_pos (nI_pos' (by omega)), nI_clamp (by omega)]
    obtain ⟨i2, s, hi2, hs, a, b, c⟩ := e1 q hq
    have hii : i = i2 := hi.2 i i2 h hi2 (ri_inj (hi.1 i h).1 (hi.1 i2 hi2).1 (by rw [← h27, a]))
    subst hii
    have hkey : key = I 2 0 s := by rw [← h28, b]
    unfold xs_val
    rw [hkey, rs_slot hk hkc hs, if_neg (ri_ne (by omega)), nI_clamp (by omega), c]
theorem rr_ety (h : rl_all I J mp U V nn kc sz kp dd) (id key : Int32) : xs_ety I J nn kc id key = ys_ety U kp id key := by
  obtain ⟨⟨⟨-, hkc, -, hkp⟩, -⟩, -, hi, hn, -, hk, he, -⟩ := h
  unfold xs_ety ys_ety
  rcases rm_cases hi hn id with ⟨e1, e2⟩ | ⟨i, h1, h2, h3, e1, e2, e3⟩
  · rw [e1, if_pos e2]
  · rw [e1, if_neg (by rw [e2]; decide), h2]
    exact rs_val hi hk he hkc hkp h1 key
theorem rr_ans (h : rl_all I J mp U V nn kc sz kp dd) (id : Int32) : xs_ans I J nn id = ys_ans V id := by
  obtain ⟨-, -, hi, hn, -⟩ := h
  unfold xs_ans ys_ans
  rcases rn_cases hi id with ⟨h1, h2⟩ | ⟨i, h1, h2, h3⟩
  · rw [h2]
    cases hx : ys_isId id with
    | false => rw [if_pos rfl]
    | true =>
      obtain ⟨d, hd, he⟩ := ys_isId_ix hx
      rw [if_neg (by decide), he, nI_clamp (by omega), (hn.2 d hd (fun i h e => h1 i h (by rw [he, e]))).2.2.2.2.1]
  · rw [h3, if_neg (by rw [ri_eq, h2, ri_nI (hi.1 i h1).1]; decide), h2, nI_clamp (by have := (hi.1 i h1).1; omega), (hn.1 i h1).2.2.2.2.1]
theorem rr_hps (h : rl_all I J mp U V nn kc sz kp dd) (id : Int32) : xs_hps I nn id = ys_hps U id := by
  obtain ⟨-, -, hi, hn, -⟩ := h
  unfold xs_hps ys_hps
  rcases rn_cases hi id with ⟨h1, h2⟩ | ⟨i, h1, h2, h3⟩
  · rw [h2]
    cases hx : ys_isId id with
    | false => rw [if_pos rfl]
    | true =>
      obtain ⟨d, hd, he⟩ := ys_isId_ix hx
      rw [if_neg (by decide), he, nI_clamp (by omega), (hn.2 d hd (fun i h e => h1 i h (by rw [he, e]))).1, if_pos (by decide)]
  · rw [h3, if_neg (by rw [ri_eq, h2, ri_nI (hi.1 i h1).1]; decide), h2, nI_clamp (by have := (hi.1 i h1).1; omega), (hn.1 i h1).1, if_neg (by split <;> decide), (hn.1 i h1).2.2.2.2.2]
end RS
/-! first up, first down -/
def rf_sp (Pm : Nat → Prop) (D : Nat → Nat) (r : Int32) : Prop := (r = -1 ∧ ∀ d, d < 256 → ¬ Pm d) ∨ ∃ d, d < 256 ∧ r = nI d ∧ Pm d ∧ ∀ e, e < 256 → Pm e → D d ≤ D e
theorem rf_one {Pm : Nat → Prop} {D : Nat → Nat} (hD : ∀ a b, a < 256 → b < 256 → D a = D b → a = b) {r r' : Int32} (h : rf_sp Pm D r) (h' : rf_sp Pm D r') : r = r' := by
  rcases h with ⟨e, hn⟩ | ⟨d, hd, e, p, m⟩
  · rcases h' with ⟨e', -⟩ | ⟨d', hd', -, p', -⟩
    · rw [e, e']
    · exact absurd p' (hn d' hd')
  · rcases h' with ⟨-, hn'⟩ | ⟨d', hd', e', p', m'⟩
    · exact absurd p (hn' d hd)
    · rw [e, e', hD d d' hd hd' (Nat.le_antisymm (m d' hd' p') (m' d hd p))]
section RF
variable {I : nf_I} {J : nf_J} {U : nf_I} {V : nf_J} {nn : Nat} {dd : Nat → Nat}
theorem rf_mem (hi : rl_ids I nn dd) (hn : rl_nodes I J U V nn dd) {d : Nat} (hd : d < 256) : U 21 0 d = 2 ↔ ∃ i, i < nn ∧ dd i = d ∧ ¬ I 5 i 1 = -1 := by
  constructor
  · intro h
    by_cases hx : ∃ i, i < nn ∧ dd i = d
    · obtain ⟨i, h1, h2⟩ := hx
      refine ⟨i, h1, h2, fun z => ?_⟩
      have := (hn.1 i h1).1
      rw [h2, if_pos z, h] at this
      exact absurd this (by decide)
    · have := (hn.2 d hd (fun i h1 h2 => hx ⟨i, h1, h2⟩)).1
      rw [h] at this
      exact absurd this (by decide)
  · rintro ⟨i, h1, rfl, h3⟩
    rw [(hn.1 i h1).1, if_neg h3]
theorem rf_fold (hi : rl_ids I nn dd) (hn : rl_nodes I J U V nn dd) (G : Nat → Nat → Int32 → Int32) (Z : Int32 → Int32) (D : Nat → Nat) (hG0 : ∀ j f, G 0 j f = f) (hGs : ∀ n j f, G (n + 1) j f = G n (j + 1) (if xs_mem I j = false then f else if f = -1 then I 5 j 0 else if Z f ≤ Z (I 5 j 0) then f else I 5 j 0)) (hZ : ∀ d, d < 256 → Z (nI d) = nI (D d)) (hD : ∀ d, D d < 2 ^ 31) : rf_sp (fun d => U 21 0 d = 2) D (G nn 0 (-1)) := by
  have key : ∀ n j f, n + j = nn → ((f = -1 ∧ ∀ i, i < j → I 5 i 1 = -1) ∨ ∃ i, i < j ∧ f = nI (dd i) ∧ ¬ I 5 i 1 = -1 ∧ ∀ k, k < j → ¬ I 5 k 1 = -1 → D (dd i) ≤ D (dd k)) → ((G n j f = -1 ∧ ∀ i, i < nn → I 5 i 1 = -1) ∨ ∃ i, i < nn ∧ G n j f = nI (dd i) ∧ ¬ I 5 i 1 = -1 ∧ ∀ k, k < nn → ¬ I 5 k 1 = -1 → D (dd i) ≤ D (dd k)) := by
    intro n
    induction n with
    | zero =>
      intro j f h hh
      have : j = nn := by omega
      subst this
      rw [hG0]
      exact hh
    | succ n ih =>
      intro j f h hh
      rw [hGs]
      apply ih (j + 1) _ (by omega)
      have hj : j < nn := by omega
      have hid := hi.1 j hj
      by_cases hm : I 5 j 1 = -1
      · rw [if_pos (by simp [xs_mem, hm])]
        rcases hh with ⟨e, a⟩ | ⟨i, b1, b2, b3, b4⟩
        · exact Or.inl ⟨e, fun i hi2 => by
            by_cases he : i = j
            · rw [he]; exact hm
            · exact a i (by omega)⟩
        · exact Or.inr ⟨i, by omega, b2, b3, fun k hk hk2 => by
            by_cases he : k = j
            · rw [he] at hk2; exact absurd hm hk2
            · exact b4 k (by omega) hk2⟩
      · rw [if_neg (by simp [xs_mem, hm])]
        rcases hh with ⟨e, a⟩ | ⟨i, b1, b2, b3, b4⟩
        · rw [if_pos e]
          exact Or.inr ⟨j, by omega, hid.2, hm, fun k hk hk2 => by
            by_cases he : k = j
            · rw [he]; exact Nat.le_refl _
            · exact absurd (a k (by omega)) hk2⟩
        · have hid2 := hi.1 i (by omega)
          rw [if_neg (by rw [b2]; exact ri_ne hid2.1), b2, hid.2, hZ _ hid2.1, hZ _ hid.1]
          by_cases hc : D (dd i) ≤ D (dd j)
          · rw [if_pos ((nI_leI (hD _) (hD _)).mpr hc)]
            exact Or.inr ⟨i, by omega, rfl, b3, fun k hk hk2 => by
              by_cases he : k = j
              · rw [he]; exact hc
              · exact b4 k (by omega) hk2⟩
          · rw [if_neg (fun z => hc ((nI_leI (hD _) (hD _)).mp z))]
            exact Or.inr ⟨j, by omega, rfl, hm, fun k hk hk2 => by
              by_cases he : k = j
              · rw [he]; exact Nat.le_refl _
              · have := b4 k (by omega) hk2; omega⟩
  rcases key nn 0 (-1) (by omega) (Or.inl ⟨rfl, fun i h => by omega⟩) with ⟨e, a⟩ | ⟨i, b1, b2, b3, b4⟩
  · left
    refine ⟨e, fun d hd h => ?_⟩
    obtain ⟨i, h1, -, h3⟩ := (rf_mem hi hn hd).mp h
    exact h3 (a i h1)
  · right
    have hid := hi.1 i b1
    refine ⟨dd i, hid.1, b2, (rf_mem hi hn hid.1).mpr ⟨i, b1, rfl, b3⟩, fun e he h => ?_⟩
    obtain ⟨k, h1, h2, h3⟩ := (rf_mem hi hn he).mp h
    rw [← h2]
    exact b4 k h1 h3
theorem rf_scan {U : nf_I} (st : Int32) (x : Nat → Nat) (D : Nat → Nat) (hx : ∀ m, x m < 256) (hs : ∀ m, (nI (x m) + st) &&& 255 = nI (x (m + 1))) (hD : ∀ m, m < 256 → D (x m) = m) (hDl : ∀ d, d < 256 → D d < 256) (hDx : ∀ d, d < 256 → x (D d) = d) : ∀ n m, n + m = 256 → (∀ k, k < m → ¬ U 21 0 (x k) = 2) → rf_sp (fun d => U 21 0 d = 2) D (ys_fl U st n (nI (x m)))
  | 0, m, h, hno => by
    left
    refine ⟨rfl, fun d hd hp => ?_⟩
    exact hno (D d) (by have := hDl d hd; omega) (by rw [hDx d hd]; exact hp)
  | n + 1, m, h, hno => by
    unfold ys_fl
    rw [nI_clamp (by have := hx m; omega)]
    by_cases hp : U 21 0 (x m) = 2
    · rw [if_pos hp]
      right
      refine ⟨x m, hx m, rfl, hp, fun e he hpe => ?_⟩
      rw [hD m (by omega)]
      by_cases hc : m ≤ D e
      · exact hc
      · exact absurd (by rw [hDx e he]; exact hpe) (hno (D e) (by omega))
    · rw [if_neg hp, hs]
      exact rf_scan st x D hx hs hD hDl hDx n (m + 1) (by omega) (fun k hk => by
        by_cases he : k = m
        · rw [he]; exact hp
        · exact hno k (by omega))
theorem rf_and (x : Int32) : x &&& 255 = nI (pz_t x) := by
  rw [pk_and x 8 (by decide +kernel)]
  rfl
theorem rf_up (hi : rl_ids I nn dd) (hn : rl_nodes I J U V nn dd) (st st' : Int32) (h : pz_t st = pz_t st') : xs_fu I st nn 0 (-1) = ys_first U st' 1 := by
  have ht := pz_tl st
  have e1 : pz_t (st - 1) = (pz_t st + 255) % 256 := by
    unfold pz_t
    rw [pz_sub]
    have : (1 : Int32).toBitVec.toNat = 1 := by decide +kernel
    have := st.toBitVec.isLt
    omega
  refine rf_one (Pm := fun d => U 21 0 d = 2) (D := fun d => (d + 256 - pz_t st) % 256) (fun a b ha hb hab => by omega) ?_ ?_
  · have := rf_fold hi hn (xs_fu I st) (fun x => xs_up (st - 1) x) (fun d => pz_d (pz_t (st - 1)) d) (fun j f => rfl) (fun n j f => rfl) (fun d hd => by rw [pz_up, pz_tn hd]) (fun d => by have := pz_dl (pz_t (st - 1)) d; omega)
    rcases this with hL | ⟨d, hd, e, p, m⟩
    · exact Or.inl hL
    · refine Or.inr ⟨d, hd, e, p, fun q hq hp => ?_⟩
      have := m q hq hp
      simp only [pz_d, e1] at this ⊢
      omega
  · unfold ys_first
    rw [rf_and, ← h]
    have := rf_scan (U := U) 1 (fun m => (pz_t st + m) % 256) (fun d => (d + 256 - pz_t st) % 256) (fun m => by omega) (fun m => by
      rw [rf_and, nI_1, show pz_t (nI ((pz_t st + m) % 256 + 1)) = (pz_t st + (m + 1)) % 256 from by unfold pz_t; rw [pk_tn (by omega)]; omega]) (fun m hm => by omega) (fun d hd => by omega) (fun d hd => by omega) 256 0 (by omega) (fun k hk => by omega)
    rw [show (pz_t st + 0) % 256 = pz_t st by omega] at this
    exact this
theorem rf_dn (hi : rl_ids I nn dd) (hn : rl_nodes I J U V nn dd) (st st' : Int32) (h : pz_t st = pz_t st') : xs_fd I st nn 0 (-1) = ys_first U st' (-1) := by
  have ht := pz_tl st
  have e1 : pz_t (st + 1) = (pz_t st + 1) % 256 := by
    unfold pz_t
    rw [pz_add]
    have : (1 : Int32).toBitVec.toNat = 1 := by decide +kernel
    have := st.toBitVec.isLt
    omega
  refine rf_one (Pm := fun d => U 21 0 d = 2) (D := fun d => (pz_t st + 256 - d) % 256) (fun a b ha hb hab => by omega) ?_ ?_
  · have := rf_fold hi hn (xs_fd I st) (fun x => xs_up x (st + 1)) (fun d => pz_d d (pz_t (st + 1))) (fun j f => rfl) (fun n j f => rfl) (fun d hd => by rw [pz_up, pz_tn hd]) (fun d => by have := pz_dl d (pz_t (st + 1)); omega)
    rcases this with hL | ⟨d, hd, e, p, m⟩
    · exact Or.inl hL
    · refine Or.inr ⟨d, hd, e, p, fun q hq hp => ?_⟩
      have := m q hq hp
      simp only [pz_d, e1] at this ⊢
      omega
  · unfold ys_first
    rw [rf_and, ← h]
    have := rf_scan (U := U) (-1) (fun m => (pz_t st + 255 * m) % 256) (fun d => (pz_t st + 256 - d) % 256) (fun m => by omega) (fun m => by
      rw [rf_and, show pz_t (nI ((pz_t st + 255 * m) % 256) + -1) = (pz_t st + 255 * (m + 1)) % 256 from by
        unfold pz_t
        rw [pz_add, pk_tn (by omega), show (-1 : Int32).toBitVec.toNat = 4294967295 by decide +kernel]
        omega]) (fun m hm => by omega) (fun d hd => by omega) (fun d hd => by omega) 256 0 (by omega) (fun k hk => by omega)
    rw [show (pz_t st + 255 * 0) % 256 = pz_t st by omega] at this
    exact this
end RF
