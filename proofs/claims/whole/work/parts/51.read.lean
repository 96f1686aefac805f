/-! Reading calls answer alike. -/
section RR
variable {I : nf_I} {J : nf_J} {mp : Nat → Nat} {U : nf_I} {V : nf_J} {nn kc sz kp : Nat} {dd : Nat → Nat}
theorem rr_msg (h : rl_all I J mp U V nn kc sz kp dd) (k : Int32) : xs_msg I mp k = ys_msg U k := by
  obtain ⟨⟨⟨-, -, hsz, -⟩, -, -, hs, -, -, -, hu⟩, -, -, -, -, -, -, hm⟩ := h
  unfold xs_msg xs_at ys_msg
  by_cases h1 : k < 0
  · rw [if_pos h1, if_pos h1]
  · rw [if_neg h1, if_neg h1]
    by_cases h2 : I 3 0 1 ≤ k
    · rw [if_pos h2, if_neg]
      intro z
      rw [hu] at z
      rw [hs] at h2
      have a := Int32.lt_iff_toInt_lt.mp z
      have b := Int32.le_iff_toInt_le.mp h2
      omega
    · rw [if_neg h2]
      obtain ⟨kn, hkn, hke⟩ := nk_ix (n := sz) h1 (by rw [← hs]; exact h2) (by omega)
      rw [if_pos (by rw [hu, hke]; exact nI_lt hkn (by omega)), hke, nI_clamp (by omega)]
      obtain ⟨e1, e2, -⟩ := hm kn hkn
      simp only
      rw [e1, e2]
theorem rr_rd1 (h : rl_all I J mp U V nn kc sz kp dd) (id : Int32) : xs_rd I nn id 1 = ys_rd U 22 id := by
  obtain ⟨-, -, hi, hn, -⟩ := h
  unfold xs_rd ys_rd
  rcases rm_cases hi hn id with ⟨e1, e2⟩ | ⟨i, h1, h2, h3, e1, e2, e3⟩
  · rw [e1, if_pos e2]
  · rw [e1, if_neg (by rw [e2]; decide), e3, (hn.1 i h1).2.1]
theorem rr_rd2 (h : rl_all I J mp U V nn kc sz kp dd) (id : Int32) : xs_rd I nn id 2 = ys_rd U 23 id := by
  obtain ⟨-, -, hi, hn, -⟩ := h
  unfold xs_rd ys_rd
  rcases rm_cases hi hn id with ⟨e1, e2⟩ | ⟨i, h1, h2, h3, e1, e2, e3⟩
  · rw [e1, if_pos e2]
  · rw [e1, if_neg (by rw [e2]; decide), e3, (hn.1 i h1).2.2.1]
theorem rr_fin (j : Int32) : (xs_isFinger j = false ∧ (j < 0 ∨ 7 < j)) ∨ ∃ t, t < 8 ∧ j = nI t ∧ xs_isFinger j = true ∧ ¬ j < 0 ∧ ¬ 7 < j := by
  unfold xs_isFinger
  have e7 : (7 : Int32).toInt = 7 := by decide +kernel
  have e8 : (8 : Int32).toInt = 8 := by decide +kernel
  by_cases h1 : j < 0
  · left
    rw [if_pos h1]
    exact ⟨rfl, Or.inl h1⟩
  · by_cases h2 : (8 : Int32) ≤ j
    · left
      rw [if_neg h1, if_pos h2]
      exact ⟨rfl, Or.inr (Int32.lt_iff_toInt_lt.mpr (by have := Int32.le_iff_toInt_le.mp h2; omega))⟩
    · right
      obtain ⟨t, ht, he⟩ := nk_ix (n := 8) h1 h2 (by decide)
      refine ⟨t, ht, he, by rw [if_neg h1, if_neg h2], h1, fun z => h2 (Int32.le_iff_toInt_le.mpr (by have := Int32.lt_iff_toInt_lt.mp z; omega))⟩
theorem rr_fgr (h : rl_all I J mp U V nn kc sz kp dd) (id j : Int32) : xs_fgr I nn id j = ys_fgr U id j := by
  obtain ⟨-, -, hi, hn, -⟩ := h
  unfold xs_fgr ys_fgr
  rcases rm_cases hi hn id with ⟨e1, e2⟩ | ⟨i, h1, h2, h3, e1, e2, e3⟩
  · rw [e1, if_pos e2]
  · rw [e1, if_neg (by rw [e2]; decide), e3]
    simp only
    rcases rr_fin j with ⟨f1, f2⟩ | ⟨t, ht, he, f1, f2, f3⟩
    · rw [if_pos f1]
      rcases f2 with f2 | f2
      · rw [if_pos f2]
      · by_cases f3 : j < 0
        · rw [if_pos f3]
        · rw [if_neg f3, if_pos f2]
    · rw [if_neg (by rw [f1]; decide), if_neg f2, if_neg f3, he, nI_clamp (by omega), (hn.1 i h1).2.2.2.1 t ht]
theorem rs_slot (hk : rl_keys I U kc) (hkc : kc ≤ 10) {s : Nat} (h : s < kc) : xs_slot I kc (I 2 0 s) = nI s := by
  rcases xs_slot_c I kc (I 2 0 s) with e | ⟨i, h1, h2, h3⟩
  · exfalso
    have key : ∀ n j, j ≤ s → s < n + j → xs_slx I (I 2 0 s) n j = -1 → n + j ≤ kc → False := by
      intro n
      induction n with
      | zero => intro j h1 h2 _; omega
      | succ n ih =>
        intro j h1 h2 h3 h4
        unfold xs_slx at h3
        by_cases hc : I 2 0 j = I 2 0 s
        · rw [if_pos hc] at h3
          have := congrArg Int32.toInt h3
          have hj : (nI j).toInt < 0 := by rw [this]; decide +kernel
          have hlt : j = s := hk.2 j s (by omega) h hc
          rw [nI_toInt (by omega)] at hj; omega
        · rw [if_neg hc] at h3
          by_cases hji : j = s
          · subst hji; exact hc rfl
          · exact ih (j + 1) (by omega) (by omega) h3 (by omega)
    exact key kc 0 (Nat.zero_le _) (by omega) e (by omega)
  · rw [h2, hk.2 i s h1 h h3]
end RR
