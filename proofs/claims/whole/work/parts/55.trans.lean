/-! The relation under sends, takes and changes of one node. -/
theorem rg_msg {I I' : nf_I} {J J' : nf_J} {U U' : nf_I} {V V' : nf_J} {nn nn' kc kc' : Nat} {dd dd' : Nat → Nat} {o o' j j' : Nat} (h : rl_msg I J U V nn kc dd o j) (hI : ∀ c, I' 8 o' c = I 8 o c) (hJ : J' 8 o' 8 = J 8 o 8) (hU : ∀ a, 31 ≤ a → a ≤ 37 → U' a 0 j' = U a 0 j) (hV : V' 38 0 j' = V 38 0 j) (hmb : ∀ x, rl_mb I nn dd x → rl_mb I' nn' dd' x) (hnd : ∀ x, rl_nd nn dd x → rl_nd nn' dd' x) (hk : ∀ s, s < kc → s < kc' ∧ I' 2 0 s = I 2 0 s) : rl_msg I' J' U' V' nn' kc' dd' o' j' := by
  have hs : ∀ x : Int32, (∃ s, s < kc ∧ x = I 2 0 s) → ∃ s, s < kc' ∧ x = I' 2 0 s := fun x ⟨s, h1, h2⟩ => ⟨s, (hk s h1).1, by rw [(hk s h1).2]; exact h2⟩
  unfold rl_msg at h ⊢
  rw [hI, hI, hI, hI, hI, hI, hI, hI, hJ, hU 31 (by decide) (by decide), hU 32 (by decide) (by decide), hU 33 (by decide) (by decide), hU 34 (by decide) (by decide), hU 35 (by decide) (by decide), hU 36 (by decide) (by decide), hU 37 (by decide) (by decide), hV]
  obtain ⟨a1, a2, a3, h⟩ := h
  refine ⟨a1, a2, hnd _ a3, ?_⟩
  rcases h with ⟨b1, b2, b3, b4, b5, b6, b7, b8, b9⟩ | ⟨b1, b2, b3, b4, b5⟩ | ⟨b1, b2, b3, b4, b5⟩ | ⟨b1, b2, b3, b4, b5⟩ | h | ⟨b1, b2, b3⟩ | ⟨b1, b2, b3, b4⟩ | ⟨b1, b2, b3⟩
  · refine Or.inl ⟨b1, hmb _ b2, b3, b4, b5, hnd _ b6, b7, b8, ?_⟩
    rcases b9 with h | h | ⟨c1, c2, c3, c4⟩ | h
    · exact Or.inl h
    · exact Or.inr (Or.inl h)
    · exact Or.inr (Or.inr (Or.inl ⟨c1, c2, c3, hs _ c4⟩))
    · exact Or.inr (Or.inr (Or.inr h))
  · exact Or.inr (Or.inl ⟨b1, b2, hmb _ b3, b4, b5⟩)
  · exact Or.inr (Or.inr (Or.inl ⟨b1, b2, hs _ b3, b4, b5⟩))
  · exact Or.inr (Or.inr (Or.inr (Or.inl ⟨b1, b2, b3, hnd _ b4, b5⟩)))
  · exact Or.inr (Or.inr (Or.inr (Or.inr (Or.inl h))))
  · exact Or.inr (Or.inr (Or.inr (Or.inr (Or.inr (Or.inl ⟨b1, b2, hmb _ b3⟩)))))
  · exact Or.inr (Or.inr (Or.inr (Or.inr (Or.inr (Or.inr (Or.inl ⟨b1, hmb _ b2, b3, b4.imp_right (hmb _)⟩))))))
  · exact Or.inr (Or.inr (Or.inr (Or.inr (Or.inr (Or.inr (Or.inr ⟨b1, b2, hmb _ b3⟩))))))
section RT
variable {I I' : nf_I} {J J' : nf_J} {mp : Nat → Nat} {U U' : nf_I} {V V' : nf_J} {nn kc sz kp : Nat} {dd : Nat → Nat}
theorem rg_mb (h : ∀ i, i < nn → ¬ I 5 i 1 = -1 → ¬ I' 5 i 1 = -1) : ∀ x, rl_mb I nn dd x → rl_mb I' nn dd x := fun x ⟨i, h1, h2, h3⟩ => ⟨i, h1, h2, h i h1 h3⟩
theorem rg_nodes (h : rl_nodes I J U V nn dd) (h5 : ∀ i c, i < nn → I' 5 i c = I 5 i c) (h6 : ∀ i c, i < nn → I' 6 i c = I 6 i c) (hJ : ∀ i, i < nn → J' 5 i 5 = J 5 i 5) (hU : ∀ a c, 21 ≤ a → a ≤ 26 → U' a 0 c = U a 0 c) (hV : ∀ c, V' 25 0 c = V 25 0 c) : rl_nodes I' J' U' V' nn dd := by
  refine ⟨fun i hi => ?_, fun d hd hno => ?_⟩
  · obtain ⟨a1, a2, a3, a4, a5, a6⟩ := h.1 i hi
    refine ⟨?_, ?_, ?_, fun j hj => ?_, ?_, ?_⟩
    · rw [hU 21 _ (by decide) (by decide), h5 i 1 hi]; exact a1
    · rw [hU 22 _ (by decide) (by decide), h5 i 1 hi]; exact a2
    · rw [hU 23 _ (by decide) (by decide), h5 i 2 hi]; exact a3
    · rw [hU 24 _ (by decide) (by decide), h6 i j hi]; exact a4 j hj
    · rw [hV, hJ i hi]; exact a5
    · rw [hU 26 _ (by decide) (by decide), h5 i 6 hi]; exact a6
  · obtain ⟨a1, a2, a3, a4, a5, a6⟩ := h.2 d hd hno
    refine ⟨?_, ?_, ?_, fun j hj => ?_, ?_, ?_⟩
    · rw [hU 21 _ (by decide) (by decide)]; exact a1
    · rw [hU 22 _ (by decide) (by decide)]; exact a2
    · rw [hU 23 _ (by decide) (by decide)]; exact a3
    · rw [hU 24 _ (by decide) (by decide)]; exact a4 j hj
    · rw [hV]; exact a5
    · rw [hU 26 _ (by decide) (by decide)]; exact a6
theorem rg_ptr (h : rl_ptr I nn dd) (h5 : ∀ i c, i < nn → I' 5 i c = I 5 i c) (h6 : ∀ i c, i < nn → I' 6 i c = I 6 i c) : rl_ptr I' nn dd := by
  intro i hi
  have hm := rg_mb (I := I) (I' := I') (nn := nn) (dd := dd) (fun i hi hh => by rw [h5 i 1 hi]; exact hh)
  obtain ⟨a1, a2, a3⟩ := h i hi
  rw [h5 i 1 hi, h5 i 2 hi]
  refine ⟨a1.imp_right (hm _), a2.imp_right (hm _), fun j hj => ?_⟩
  rw [h6 i j hi]
  exact (a3 j hj).imp_right (hm _)
theorem rg_ids (h : rl_ids I nn dd) (h5 : ∀ i, i < nn → I' 5 i 0 = I 5 i 0) : rl_ids I' nn dd := ⟨fun i hi => ⟨(h.1 i hi).1, by rw [h5 i hi]; exact (h.1 i hi).2⟩, h.2⟩
theorem rg_keys (h : rl_keys I U kc) (h2 : ∀ j, j < kc → I' 2 0 j = I 2 0 j) (hU : ∀ j, j < kc → U' 30 0 j = U 30 0 j) : rl_keys I' U' kc := by
  refine ⟨fun j hj => ?_, fun i j hi hj e => ?_⟩
  · rw [h2 j hj, hU j hj]; exact h.1 j hj
  · rw [h2 i hi, h2 j hj] at e; exact h.2 i j hi hj e
theorem rg_ent (h : rl_ent I J U nn kc kp dd) (h2 : ∀ j, j < kc → I' 2 0 j = I 2 0 j) (hJ : ∀ i s, i < nn → J' 7 i s = J 7 i s) (hU : ∀ a q, 27 ≤ a → a ≤ 29 → U' a 0 q = U a 0 q) : rl_ent I' J' U' nn kc kp dd := by
  obtain ⟨e1, e2, e3⟩ := h
  refine ⟨fun q hq => ?_, fun q r hq hr a b => ?_, fun i s hi hs hv => ?_⟩
  · obtain ⟨i, s, h1, h3, a, b, c⟩ := e1 q hq
    exact ⟨i, s, h1, h3, by rw [hU 27 _ (by decide) (by decide)]; exact a, by rw [hU 28 _ (by decide) (by decide), h2 s h3]; exact b, by rw [hJ i s h1, hU 29 _ (by decide) (by decide)]; exact c⟩
  · rw [hU 27 _ (by decide) (by decide), hU 27 _ (by decide) (by decide)] at a
    rw [hU 28 _ (by decide) (by decide), hU 28 _ (by decide) (by decide)] at b
    exact e2 q r hq hr a b
  · rw [hJ i s hi] at hv
    obtain ⟨h1, q, h3, a, b⟩ := e3 i s hi hs hv
    exact ⟨h1, q, h3, by rw [hU 27 _ (by decide) (by decide)]; exact a, by rw [hU 28 _ (by decide) (by decide), h2 s h1]; exact b⟩
/-- one message more, at both ends -/
theorem rg_send (h : rl_all I J mp U V nn kc sz kp dd) (hs : sz < 20) (hI : ∀ a b c, a < 20 → ¬ (a = 3 ∧ b = 0 ∧ c = 1) → ¬ (a = 8 ∧ b = mp sz) → I' a b c = I a b c) (hI3 : I' 3 0 1 = nI (sz + 1)) (hJ : ∀ a b c, a < 20 → ¬ (a = 8 ∧ b = mp sz) → J' a b c = J a b c) (hU : ∀ a b c, 20 ≤ a → ¬ (a = 20 ∧ b = 0 ∧ c = 13) → ¬ ((31 ≤ a ∧ a ≤ 37) ∧ b = 0 ∧ c = sz) → U' a b c = U a b c) (hU3 : U' 20 0 13 = nI (sz + 1)) (hV : ∀ a b c, 20 ≤ a → ¬ (a = 38 ∧ b = 0 ∧ c = sz) → V' a b c = V a b c) (hm : rl_msg I' J' U' V' nn kc dd (mp sz) sz) : rl_all I' J' mp U' V' nn kc (sz + 1) kp dd := by
  obtain ⟨⟨⟨n1, n2, n3, n4⟩, n5, n6, n7, n8, n9, n10, n11⟩, hmp, hi, hn, hp, hk, he, hms⟩ := h
  have hmb := rg_mb (I := I) (I' := I') (nn := nn) (dd := dd) (fun i hi hh => by rw [hI 5 i 1 (by decide) (by omega) (by omega)]; exact hh)
  refine ⟨⟨⟨n1, n2, by omega, n4⟩, ?_, ?_, hI3, ?_, ?_, ?_, hU3⟩, hmp, ?_, ?_, ?_, ?_, ?_, fun j hj => ?_⟩
  · rw [hI 0 0 1 (by decide) (by omega) (by omega)]; exact n5
  · rw [hI 0 0 3 (by decide) (by omega) (by omega)]; exact n6
  · rw [hU 20 0 0 (by decide) (by omega) (by omega)]; exact n8
  · rw [hU 20 0 7 (by decide) (by omega) (by omega)]; exact n9
  · rw [hU 20 0 11 (by decide) (by omega) (by omega)]; exact n10
  · exact rg_ids hi (fun i _ => hI 5 i 0 (by decide) (by omega) (by omega))
  · exact rg_nodes hn (fun i c _ => hI 5 i c (by decide) (by omega) (by omega)) (fun i c _ => hI 6 i c (by decide) (by omega) (by omega)) (fun i _ => hJ 5 i 5 (by decide) (by omega)) (fun a c h1 h2 => hU a 0 c (by omega) (by omega) (by omega)) (fun c => hV 25 0 c (by decide) (by omega))
  · exact rg_ptr hp (fun i c _ => hI 5 i c (by decide) (by omega) (by omega)) (fun i c _ => hI 6 i c (by decide) (by omega) (by omega))
  · exact rg_keys hk (fun j _ => hI 2 0 j (by decide) (by omega) (by omega)) (fun j _ => hU 30 0 j (by decide) (by omega) (by omega))
  · exact rg_ent he (fun j _ => hI 2 0 j (by decide) (by omega) (by omega)) (fun i s _ => hJ 7 i s (by decide) (by omega)) (fun a q h1 h2 => hU a 0 q (by omega) (by omega) (by omega))
  · by_cases hjs : j = sz
    · rw [hjs]; exact hm
    · have hne : ¬ mp j = mp sz := fun z => hjs (hmp.2 j sz (by omega) (by omega) z)
      exact rg_msg (hms j (by omega)) (fun c => hI 8 (mp j) c (by decide) (by omega) (fun z => hne z.2)) (hJ 8 (mp j) 8 (by decide) (fun z => hne z.2)) (fun a h1 h2 => hU a 0 j (by omega) (by omega) (by omega)) (hV 38 0 j (by decide) (by omega)) hmb (fun _ z => z) (fun s hs => ⟨hs, hI 2 0 s (by decide) (by omega) (by omega)⟩)
/-- one node changes -/
theorem rg_node (h : rl_all I J mp U V nn kc sz kp dd) {i0 : Nat} (h0 : i0 < nn) (hI : ∀ a b c, a < 20 → ¬ ((a = 5 ∨ a = 6) ∧ b = i0) → I' a b c = I a b c) (hI0 : I' 5 i0 0 = I 5 i0 0) (hJ : ∀ a b c, a < 20 → ¬ (a = 5 ∧ b = i0) → J' a b c = J a b c) (hU : ∀ a b c, 20 ≤ a → ¬ ((21 ≤ a ∧ a ≤ 26) ∧ b = 0 ∧ (a = 24 → c / 8 = dd i0) ∧ (¬ a = 24 → c = dd i0)) → U' a b c = U a b c) (hV : ∀ a b c, 20 ≤ a → ¬ (a = 25 ∧ b = 0 ∧ c = dd i0) → V' a b c = V a b c)
    (hat : rl_at I' J' U' V' i0 (dd i0)) (hmm : ¬ I 5 i0 1 = -1 → ¬ I' 5 i0 1 = -1) (hpt : (I' 5 i0 1 = -1 ∨ rl_mb I' nn dd (I' 5 i0 1)) ∧ (I' 5 i0 2 = -1 ∨ rl_mb I' nn dd (I' 5 i0 2)) ∧ ∀ j, j < 8 → I' 6 i0 j = -1 ∨ rl_mb I' nn dd (I' 6 i0 j)) : rl_all I' J' mp U' V' nn kc sz kp dd := by
  obtain ⟨⟨nn4, n5, n6, n7, n8, n9, n10, n11⟩, hmp, hi, hn, hp, hk, he, hms⟩ := h
  have hd0 := (hi.1 i0 h0).1
  have h5 : ∀ i c, ¬ i = i0 → I' 5 i c = I 5 i c := fun i c hne => hI 5 i c (by decide) (fun z => hne z.2)
  have h6 : ∀ i c, ¬ i = i0 → I' 6 i c = I 6 i c := fun i c hne => hI 6 i c (by decide) (fun z => hne z.2)
  have hmb := rg_mb (I := I) (I' := I') (nn := nn) (dd := dd) (fun i hi hh => by
    by_cases hne : i = i0
    · rw [hne] at hh ⊢; exact hmm hh
    · rw [h5 i 1 hne]; exact hh)
  refine ⟨⟨nn4, ?_, ?_, ?_, ?_, ?_, ?_, ?_⟩, hmp, ?_, ⟨fun i hi2 => ?_, fun d hd hno => ?_⟩, fun i hi2 => ?_, ?_, ?_, fun j hj => ?_⟩
  · rw [hI 0 0 1 (by decide) (by omega)]; exact n5
  · rw [hI 0 0 3 (by decide) (by omega)]; exact n6
  · rw [hI 3 0 1 (by decide) (by omega)]; exact n7
  · rw [hU 20 0 0 (by decide) (by omega)]; exact n8
  · rw [hU 20 0 7 (by decide) (by omega)]; exact n9
  · rw [hU 20 0 11 (by decide) (by omega)]; exact n10
  · rw [hU 20 0 13 (by decide) (by omega)]; exact n11
  · exact rg_ids hi (fun i _ => by
      by_cases hne : i = i0
      · rw [hne]; exact hI0
      · exact h5 i 0 hne)
  · by_cases hne : i = i0
    · rw [hne]; exact hat
    · have hdn : ¬ dd i = dd i0 := fun z => hne (hi.2 i i0 hi2 h0 z)
      obtain ⟨a1, a2, a3, a4, a5, a6⟩ := hn.1 i hi2
      refine ⟨?_, ?_, ?_, fun j hj => ?_, ?_, ?_⟩
      · rw [hU 21 0 _ (by decide) (by omega), h5 i 1 hne]; exact a1
      · rw [hU 22 0 _ (by decide) (by omega), h5 i 1 hne]; exact a2
      · rw [hU 23 0 _ (by decide) (by omega), h5 i 2 hne]; exact a3
      · rw [hU 24 0 _ (by decide) (fun z => hdn (by have := z.2.2.1 rfl; omega)), h6 i j hne]; exact a4 j hj
      · rw [hV 25 0 _ (by decide) (fun z => hdn z.2.2), hJ 5 i 5 (by decide) (fun z => hne z.2)]; exact a5
      · rw [hU 26 0 _ (by decide) (by omega), h5 i 6 hne]; exact a6
  · have hdn : ¬ d = dd i0 := fun z => hno i0 h0 z.symm
    obtain ⟨a1, a2, a3, a4, a5, a6⟩ := hn.2 d hd hno
    refine ⟨?_, ?_, ?_, fun j hj => ?_, ?_, ?_⟩
    · rw [hU 21 0 _ (by decide) (by omega)]; exact a1
    · rw [hU 22 0 _ (by decide) (by omega)]; exact a2
    · rw [hU 23 0 _ (by decide) (by omega)]; exact a3
    · rw [hU 24 0 _ (by decide) (fun z => hdn (by have := z.2.2.1 rfl; omega))]; exact a4 j hj
    · rw [hV 25 0 _ (by decide) (fun z => hdn z.2.2)]; exact a5
    · rw [hU 26 0 _ (by decide) (by omega)]; exact a6
  · by_cases hne : i = i0
    · rw [hne]
      exact hpt
    · obtain ⟨a1, a2, a3⟩ := hp i hi2
      rw [h5 i 1 hne, h5 i 2 hne]
      exact ⟨a1.imp_right (hmb _), a2.imp_right (hmb _), fun j hj => by rw [h6 i j hne]; exact (a3 j hj).imp_right (hmb _)⟩
  · exact rg_keys hk (fun j _ => hI 2 0 j (by decide) (by omega)) (fun j _ => hU 30 0 j (by decide) (by omega))
  · exact rg_ent he (fun j _ => hI 2 0 j (by decide) (by omega)) (fun i s _ => hJ 7 i s (by decide) (by omega)) (fun a q h1 h2 => hU a 0 q (by omega) (by omega))
  · exact rg_msg (hms j hj) (fun c => hI 8 (mp j) c (by decide) (by omega)) (hJ 8 (mp j) 8 (by decide) (by omega)) (fun a h1 h2 => hU a 0 j (by omega) (by omega)) (hV 38 0 j (by decide) (by omega)) hmb (fun _ z => z) (fun s hs => ⟨hs, hI 2 0 s (by decide) (by omega)⟩)
end RT
