/-! The model: taking a message out, and what arrives. -/
def ys_sf (I : nf_I) (k j : Nat) : nf_I := fun a b c => if (31 ≤ a ∧ a ≤ 37) ∧ b = 0 ∧ k ≤ c ∧ c < j then I a b (c + 1) else I a b c
def ys_sfJ (J : nf_J) (k j : Nat) : nf_J := fun a b c => if a = 38 ∧ b = 0 ∧ k ≤ c ∧ c < j then J a b (c + 1) else J a b c
theorem ys_sf_0 (I : nf_I) (k : Nat) : ys_sf I k k = I := by
  funext a b c
  unfold ys_sf
  rw [if_neg (by omega)]
theorem ys_sfJ_0 (J : nf_J) (k : Nat) : ys_sfJ J k k = J := by
  funext a b c
  unfold ys_sfJ
  rw [if_neg (by omega)]
def ys_cpx (I : nf_I) (f a : Nat) : nf_I := fun x b c => if (31 ≤ x ∧ x ≤ 37) ∧ b = 0 ∧ c = a then I x b f else I x b c
theorem ys_cp_eq (I : nf_I) (f a : Nat) : ys_cp I f a = ys_cpx I f a := by
  funext x b c
  unfold ys_cp ys_cp1 ys_cpx
  by_cases hb : b = 0 ∧ c = a
  · obtain ⟨rfl, rfl⟩ := hb
    by_cases hx : 31 ≤ x ∧ x ≤ 37
    · rw [if_pos ⟨hx, rfl, rfl⟩]
      rcases (show x = 31 ∨ x = 32 ∨ x = 33 ∨ x = 34 ∨ x = 35 ∨ x = 36 ∨ x = 37 by omega) with rfl | rfl | rfl | rfl | rfl | rfl | rfl <;> simp [nf_iu]
    · rw [if_neg (fun h => hx h.1)]
      have : ¬ x = 31 ∧ ¬ x = 32 ∧ ¬ x = 33 ∧ ¬ x = 34 ∧ ¬ x = 35 ∧ ¬ x = 36 ∧ ¬ x = 37 := by omega
      simp [nf_iu, this]
  · rw [if_neg (fun h => hb h.2)]
    have : ∀ q, ¬ (x = q ∧ b = 0 ∧ c = a) := fun q h => hb h.2
    simp only [nf_iu, if_neg (this _)]
theorem ys_sf_s (I : nf_I) {k j : Nat} (h : k ≤ j) : ys_cp (ys_sf I k j) (j + 1) j = ys_sf I k (j + 1) := by
  rw [ys_cp_eq]
  funext a b c
  unfold ys_cpx ys_sf
  by_cases h1 : (31 ≤ a ∧ a ≤ 37) ∧ b = 0 ∧ c = j
  · obtain ⟨ha, rfl, rfl⟩ := h1
    rw [if_pos ⟨ha, rfl, rfl⟩, if_neg (by omega), if_pos (by omega)]
  · rw [if_neg h1]
    by_cases h2 : (31 ≤ a ∧ a ≤ 37) ∧ b = 0 ∧ k ≤ c ∧ c < j
    · rw [if_pos h2, if_pos (by omega)]
    · rw [if_neg h2, if_neg (by omega)]
theorem ys_sfJ_s (J : nf_J) {k j : Nat} (h : k ≤ j) : ys_cpJ (ys_sfJ J k j) (j + 1) j = ys_sfJ J k (j + 1) := by
  funext a b c
  unfold ys_cpJ nf_ju ys_sfJ
  by_cases h1 : a = 38 ∧ b = 0 ∧ c = j
  · obtain ⟨rfl, rfl, rfl⟩ := h1
    rw [if_pos ⟨rfl, rfl, rfl⟩, if_neg (by omega), if_pos (by omega)]
  · rw [if_neg h1]
    by_cases h2 : a = 38 ∧ b = 0 ∧ k ≤ c ∧ c < j
    · rw [if_pos h2, if_pos (by omega)]
    · rw [if_neg h2, if_neg (by omega)]
def ys_t1 (I : nf_I) (kn : Nat) : nf_I := nf_iu (ys_cp I kn 20) 20 0 13 (ys_cp I kn 20 20 0 13 - 1)
def ys_tkI (I : nf_I) (kn rwn : Nat) : nf_I := ys_sf (ys_t1 I kn) kn (rwn - 1)
def ys_tkJ (J : nf_J) (kn rwn : Nat) : nf_J := ys_sfJ (ys_cpJ J kn 20) kn (rwn - 1)
theorem ys_sf_o (I : nf_I) (k j a b c : Nat) (h : ¬ (31 ≤ a ∧ a ≤ 37)) : ys_sf I k j a b c = I a b c := by
  unfold ys_sf
  rw [if_neg (fun z => h z.1)]
theorem ys_cp_o (I : nf_I) (f t a b c : Nat) (h : ¬ (31 ≤ a ∧ a ≤ 37)) : ys_cp I f t a b c = I a b c := by
  rw [ys_cp_eq]
  unfold ys_cpx
  rw [if_neg (fun z => h z.1)]
theorem ys_t1_row {I : nf_I} {kn rwn : Nat} (hr : I 20 0 13 = nI rwn) (h : 0 < rwn) : ys_t1 I kn 20 0 13 = nI (rwn - 1) := by
  unfold ys_t1
  rw [nf_iu_s, ys_cp_row hr, show rwn = (rwn - 1) + 1 by omega, nI_pred]
  rfl
theorem ys_tk_row {I : nf_I} {kn rwn : Nat} (hr : I 20 0 13 = nI rwn) (h : 0 < rwn) : ys_tkI I kn rwn 20 0 13 = nI (rwn - 1) := by
  unfold ys_tkI
  rw [ys_sf_o _ _ _ _ _ _ (by omega), ys_t1_row hr h]
theorem ys_tk_o (I : nf_I) (kn rwn a b c : Nat) (h : ¬ (31 ≤ a ∧ a ≤ 37)) (h2 : ¬ (a = 20 ∧ b = 0 ∧ c = 13)) : ys_tkI I kn rwn a b c = I a b c := by
  unfold ys_tkI ys_t1
  rw [ys_sf_o _ _ _ _ _ _ h, nf_iu_n _ _ h2, ys_cp_o _ _ _ _ _ _ h]
def ys_F : Nat := 20000
def ys_aI (I : nf_I) (J : nf_J) (nd rwn kp : Nat) : nf_I := if I 31 0 20 = 1 then ys_fdI I nd rwn else if I 31 0 20 = 2 then ys_foI I J nd else if I 31 0 20 = 3 then ys_kp I kp (nI nd) (I 33 0 20) (J 38 0 20).toInt32 else if I 31 0 20 = 4 then ys_feI I rwn else if I 31 0 20 = 5 then nf_iu I 26 0 nd (I 37 0 20) else if I 31 0 20 = 6 then ys_po I rwn 7 (I 36 0 20) 0 0 else if I 31 0 20 = 7 then ys_teI I J nd rwn else ys_noI I nd ys_F
def ys_aJ (I : nf_I) (J : nf_J) (nd rwn kp : Nat) : nf_J := if I 31 0 20 = 1 then ys_fdJ I J nd rwn else if I 31 0 20 = 2 then J else if I 31 0 20 = 3 then J else if I 31 0 20 = 4 then ys_feJ I J kp nd rwn else if I 31 0 20 = 5 then nf_ju J 25 0 nd (J 38 0 20) else if I 31 0 20 = 6 then nf_ju (ys_poJ J rwn) 38 0 rwn (ys_po I rwn 7 (I 36 0 20) 0 0 23 0 nd).toInt64 else if I 31 0 20 = 7 then ys_poJ J rwn else J
/-- what the model needs of a taken message -/
def ys_may (I : nf_I) (kp nd : Nat) : Prop := nd < 256 ∧ I 32 0 20 = nI nd ∧ (I 31 0 20 = 2 → ¬ I 34 0 20 = 0 → ∃ pt : Nat, pt < 8 ∧ I 35 0 20 = nI pt) ∧ (I 31 0 20 = 3 → ¬ 0 ≤ ys_eat I kp (nI nd) (I 33 0 20) → kp < 120) ∧ (¬ I 31 0 20 = 1 → ¬ I 31 0 20 = 2 → ¬ I 31 0 20 = 3 → ¬ I 31 0 20 = 4 → ¬ I 31 0 20 = 5 → ¬ I 31 0 20 = 6 → ¬ I 31 0 20 = 7 → ys_hok (nI nd) (I 36 0 20) ys_F 0 (nf_iu I 23 0 nd (I 36 0 20)))
def ys_rwn (I : nf_I) : Nat := (I 20 0 13).toNatClampNeg
def ys_nd (I : nf_I) : Nat := (I 32 0 20).toNatClampNeg
def ys_arI (I : nf_I) (J : nf_J) (kn : Nat) : nf_I := ys_aI (ys_tkI I kn (ys_rwn I)) (ys_tkJ J kn (ys_rwn I)) (ys_nd (ys_tkI I kn (ys_rwn I))) (ys_rwn I - 1) (ys_kpn I)
def ys_arJ (I : nf_I) (J : nf_J) (kn : Nat) : nf_J := ys_aJ (ys_tkI I kn (ys_rwn I)) (ys_tkJ J kn (ys_rwn I)) (ys_nd (ys_tkI I kn (ys_rwn I))) (ys_rwn I - 1) (ys_kpn I)
def ys_dlR (I : nf_I) (k : Int32) : Int32 := if k < 0 then -1 else if k < I 20 0 13 then I 31 0 k.toNatClampNeg else -1
def ys_dlI (I : nf_I) (J : nf_J) (k : Int32) : nf_I := if k < 0 then I else if k < I 20 0 13 then ys_arI I J k.toNatClampNeg else I
def ys_dlJ (I : nf_I) (J : nf_J) (k : Int32) : nf_J := if k < 0 then J else if k < I 20 0 13 then ys_arJ I J k.toNatClampNeg else J
def ys_pu : Nat → Nat → nf_I → nf_J → Nat × nf_I × nf_J
  | 0, c, I, J => (c, I, J)
  | n + 1, c, I, J => if I 20 0 13 ≤ 0 then (c, I, J) else ys_pu n (c + 1) (ys_arI I J 0) (ys_arJ I J 0)
