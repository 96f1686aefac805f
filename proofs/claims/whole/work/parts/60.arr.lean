/-! What arrives, on both sides: answers, replies, asks, tells, finds. -/
section RB
variable {I : nf_I} {J : nf_J} {mp : Nat → Nat} {U : nf_I} {V : nf_J} {nn kc q kp : Nat} {dd : Nat → Nat}
theorem ra_ne (hmp : rl_mp mp) (hq : q < 20) : ¬ mp 20 = mp q := fun z => absurd (hmp.2 20 q (by omega) (by omega) z) (by omega)
/-- REPLY -/
theorem ra_5 (h : rl_all I J mp U V nn kc q kp dd) {i o : Nat} (hi0 : i < nn) (h7 : I 8 o 7 = U 37 0 20) (h8 : J 8 o 8 = V 38 0 20) : rl_all (nf_iu I 5 i 6 (I 8 o 7)) (nf_ju J 5 i 5 (J 8 o 8)) mp (nf_iu U 26 0 (dd i) (U 37 0 20)) (nf_ju V 25 0 (dd i) (V 38 0 20)) nn kc q kp dd := by
  have hat := h.2.2.2.1.1 i hi0
  have hpt := h.2.2.2.2.1 i hi0
  have hmb : ∀ x, rl_mb I nn dd x → rl_mb (nf_iu I 5 i 6 (I 8 o 7)) nn dd x := rg_mb (fun k _ hh => by rw [nf_iu_n _ _ (by omega)]; exact hh)
  refine rg_node h hi0 (fun a b c _ hh => nf_iu_n _ _ (fun z => hh ⟨Or.inl z.1, z.2.1⟩)) (nf_iu_n _ _ (by omega)) (fun a b c _ hh => nf_ju_n _ _ (fun z => hh ⟨z.1, z.2.1⟩)) (fun a b c _ hh => nf_iu_n _ _ (by omega)) (fun a b c _ hh => nf_ju_n _ _ hh) ?_ (fun hh => by rw [nf_iu_n _ _ (by omega)]; exact hh) ?_
  · obtain ⟨a1, a2, a3, a4, a5, a6⟩ := hat
    refine ⟨?_, ?_, ?_, fun j hj => ?_, ?_, ?_⟩
    · rw [nf_iu_n _ _ (by omega), nf_iu_n _ _ (by omega)]; exact a1
    · rw [nf_iu_n _ _ (by omega), nf_iu_n _ _ (by omega)]; exact a2
    · rw [nf_iu_n _ _ (by omega), nf_iu_n _ _ (by omega)]; exact a3
    · rw [nf_iu_n _ _ (by omega), nf_iu_n _ _ (by omega)]; exact a4 j hj
    · rw [nf_ju_s, nf_ju_s, h8]
    · rw [nf_iu_s, nf_iu_s, h7]
  · rw [nf_iu_n _ _ (by omega), nf_iu_n _ _ (by omega)]
    exact ⟨hpt.1.imp_right (hmb _), hpt.2.1.imp_right (hmb _), fun j hj => by rw [nf_iu_n _ _ (by omega)]; exact (hpt.2.2 j hj).imp_right (hmb _)⟩
/-- FOUND -/
theorem ra_2 (h : rl_all I J mp U V nn kc q kp dd) {i o : Nat} (hi0 : i < nn) (hm : rl_mb I nn dd (I 8 o 6)) (hv : V 38 0 20 = (I 8 o 6).toInt64) (h7 : I 8 o 7 = U 37 0 20) (hp : (I 8 o 3 = 1 ∧ U 34 0 20 = 0) ∨ (I 8 o 3 = 2 ∧ U 34 0 20 = 1 ∧ I 8 o 5 = U 35 0 20 ∧ ∃ t, t < 8 ∧ I 8 o 5 = nI t)) : rl_all (xs_foI I i o) J mp (ys_foI U V (dd i)) V nn kc q kp dd := by
  have hat := h.2.2.2.1.1 i hi0
  have hpt := h.2.2.2.2.1 i hi0
  have hne : ¬ I 8 o 6 = -1 := by obtain ⟨k, k1, k2, k3⟩ := hm; rw [k2]; exact ri_ne (h.2.2.1.1 k k1).1
  have hvi : (V 38 0 20).toInt32 = I 8 o 6 := by rw [hv]; exact Int32.toInt32_toInt64 _
  obtain ⟨a1, a2, a3, a4, a5, a6⟩ := hat
  rcases hp with ⟨p1, p2⟩ | ⟨p1, p2, p3, t, ht, hte⟩
  · have e1 : xs_foI I i o = nf_iu (nf_iu I 5 i 1 (I 8 o 6)) 5 i 6 (I 8 o 7) := by unfold xs_foI xs_fo1; rw [if_pos p1, nf_iu_n _ _ (show ¬ (8 = 5 ∧ o = i ∧ 7 = 1) by omega)]
    have e2 : ys_foI U V (dd i) = nf_iu (nf_iu (nf_iu U 21 0 (dd i) 2) 22 0 (dd i) (I 8 o 6)) 26 0 (dd i) (U 37 0 20) := by
      unfold ys_foI ys_fo1
      rw [if_pos p2, hvi, nf_iu_n _ _ (show ¬ (37 = 22 ∧ 0 = 0 ∧ 20 = dd i) by omega), nf_iu_n _ _ (show ¬ (37 = 21 ∧ 0 = 0 ∧ 20 = dd i) by omega)]
    rw [e1, e2]
    have hmb : ∀ x, rl_mb I nn dd x → rl_mb (nf_iu (nf_iu I 5 i 1 (I 8 o 6)) 5 i 6 (I 8 o 7)) nn dd x := rg_mb (fun k _ hh => by
      rw [nf_iu_n _ _ (by omega)]
      by_cases hk : k = i
      · rw [hk, nf_iu_s]; exact hne
      · rw [nf_iu_n _ _ (by omega)]; exact hh)
    refine rg_node h hi0 (fun a b c _ hh => by rw [nf_iu_n _ _ (fun z => hh ⟨Or.inl z.1, z.2.1⟩), nf_iu_n _ _ (fun z => hh ⟨Or.inl z.1, z.2.1⟩)]) (by rw [nf_iu_n _ _ (by omega), nf_iu_n _ _ (by omega)]) (fun _ _ _ _ _ => rfl) (fun a b c _ hh => by rw [nf_iu_n _ _ (by omega), nf_iu_n _ _ (by omega), nf_iu_n _ _ (by omega)]) (fun _ _ _ _ _ => rfl) ?_ (fun _ => by rw [nf_iu_n _ _ (by omega), nf_iu_s]; exact hne) ?_
    · refine ⟨?_, ?_, ?_, fun j hj => ?_, a5, ?_⟩
      · rw [nf_iu_n _ _ (by omega), nf_iu_n _ _ (by omega), nf_iu_s, nf_iu_n _ _ (by omega), nf_iu_s, if_neg hne]
      · rw [nf_iu_n _ _ (by omega), nf_iu_s, nf_iu_n _ _ (by omega), nf_iu_s]
      · rw [nf_iu_n _ _ (by omega), nf_iu_n _ _ (by omega), nf_iu_n _ _ (by omega), nf_iu_n _ _ (by omega), nf_iu_n _ _ (by omega)]; exact a3
      · rw [nf_iu_n _ _ (by omega), nf_iu_n _ _ (by omega), nf_iu_n _ _ (by omega), nf_iu_n _ _ (by omega), nf_iu_n _ _ (by omega)]; exact a4 j hj
      · rw [nf_iu_s, nf_iu_s, h7]
    · refine ⟨Or.inr ?_, ?_, fun j hj => ?_⟩
      · rw [nf_iu_n _ _ (by omega), nf_iu_s]; exact hmb _ hm
      · rw [nf_iu_n _ _ (by omega), nf_iu_n _ _ (by omega)]; exact hpt.2.1.imp_right (hmb _)
      · rw [nf_iu_n _ _ (by omega), nf_iu_n _ _ (by omega)]; exact (hpt.2.2 j hj).imp_right (hmb _)
  · have hf : ¬ xs_isFinger (I 8 o 5) = false := by
      rcases rr_fin (I 8 o 5) with ⟨-, f⟩ | ⟨_, -, -, f, -⟩
      · exfalso
        rw [hte] at f
        rcases f with f | f
        · exact nI_pos (by omega) f
        · exact absurd ((nI_ltI (a := 7) (by decide) (by omega)).mp f) (by omega)
      · rw [f]; decide
    have e1 : xs_foI I i o = nf_iu (nf_iu I 6 i t (I 8 o 6)) 5 i 6 (I 8 o 7) := by
      unfold xs_foI xs_fo1
      rw [if_neg (by rw [p1]; decide), if_neg hf, hte, nI_clamp (by omega), nf_iu_n _ _ (show ¬ (8 = 6 ∧ o = i ∧ 7 = t) by omega)]
    have e2 : ys_foI U V (dd i) = nf_iu (nf_iu U 24 0 (8 * dd i + t) (I 8 o 6)) 26 0 (dd i) (U 37 0 20) := by
      unfold ys_foI ys_fo1
      rw [if_neg (by rw [p2]; decide), hvi, ← p3, hte, nI_clamp (by omega), nf_iu_n _ _ (show ¬ (37 = 24 ∧ 0 = 0 ∧ 20 = 8 * dd i + t) by omega)]
    rw [e1, e2]
    have hmb : ∀ x, rl_mb I nn dd x → rl_mb (nf_iu (nf_iu I 6 i t (I 8 o 6)) 5 i 6 (I 8 o 7)) nn dd x := rg_mb (fun k _ hh => by rw [nf_iu_n _ _ (by omega), nf_iu_n _ _ (by omega)]; exact hh)
    refine rg_node h hi0 (fun a b c _ hh => by rw [nf_iu_n _ _ (fun z => hh ⟨Or.inl z.1, z.2.1⟩), nf_iu_n _ _ (fun z => hh ⟨Or.inr z.1, z.2.1⟩)]) (by rw [nf_iu_n _ _ (by omega), nf_iu_n _ _ (by omega)]) (fun _ _ _ _ _ => rfl) (fun a b c _ hh => by rw [nf_iu_n _ _ (by omega), nf_iu_n _ _ (fun z => hh ⟨by omega, z.2.1, fun _ => by omega, fun z2 => absurd z.1 z2⟩)]) (fun _ _ _ _ _ => rfl) ?_ (fun hh => by rw [nf_iu_n _ _ (by omega), nf_iu_n _ _ (by omega)]; exact hh) ?_
    · refine ⟨?_, ?_, ?_, fun j hj => ?_, a5, ?_⟩
      · rw [nf_iu_n _ _ (by omega), nf_iu_n _ _ (by omega), nf_iu_n _ _ (by omega), nf_iu_n _ _ (by omega)]; exact a1
      · rw [nf_iu_n _ _ (by omega), nf_iu_n _ _ (by omega), nf_iu_n _ _ (by omega), nf_iu_n _ _ (by omega)]; exact a2
      · rw [nf_iu_n _ _ (by omega), nf_iu_n _ _ (by omega), nf_iu_n _ _ (by omega), nf_iu_n _ _ (by omega)]; exact a3
      · rw [nf_iu_n (nf_iu U 24 0 (8 * dd i + t) (I 8 o 6)) _ (by omega), nf_iu_n (nf_iu I 6 i t (I 8 o 6)) _ (by omega)]
        by_cases hjt : j = t
        · rw [hjt, nf_iu_s, nf_iu_s]
        · rw [nf_iu_n _ _ (by omega), nf_iu_n _ _ (by omega)]; exact a4 j hj
      · rw [nf_iu_s, nf_iu_s, h7]
    · refine ⟨?_, ?_, fun j hj => ?_⟩
      · rw [nf_iu_n _ _ (by omega), nf_iu_n _ _ (by omega)]; exact hpt.1.imp_right (hmb _)
      · rw [nf_iu_n _ _ (by omega), nf_iu_n _ _ (by omega)]; exact hpt.2.1.imp_right (hmb _)
      · rw [nf_iu_n _ _ (by omega)]
        by_cases hjt : j = t
        · rw [hjt, nf_iu_s]; exact Or.inr (hmb _ hm)
        · rw [nf_iu_n _ _ (by omega)]; exact (hpt.2.2 j hj).imp_right (hmb _)
end RB
