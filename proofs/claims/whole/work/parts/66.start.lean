/-! The two fresh objects: their shape and their relation. -/
section ZS
variable {cs : Nat → ClassId}
def lz_sh1 : nf_H := nf_su (fun _ _ => none) 0 0 (.inl (3, [(3, 0), (0, 0), (3, 0), (0, 0), (3, 0)]))
def lz_sh2 (cs : Nat → ClassId) : nf_H := nf_su (xs_ovS lz_sh1 cs) 20 0 (.inl (4, [(0, 0), (3, 0), (3, 0), (3, 0), (3, 0), (3, 0), (3, 0), (0, 0), (3, 0), (3, 0), (3, 0), (0, 0), (3, 0), (0, 0), (3, 0), (3, 0), (3, 0), (3, 0), (3, 0), (3, 0), (3, 0), (3, 0)]))
def lz_I : nf_I := ys_ovI (nf_iz (xs_ovI (nf_iz (fun _ _ _ => 0) 0 0)) 20 0)
def lz_J : nf_J := ys_ovJ (nf_jz (xs_ovJ (nf_jz (fun _ _ _ => 0) 0 0)) 20 0)
def lz_P : nf_P := ys_ovP (nf_pz (xs_ovP (nf_pz (fun _ _ _ => none) 0 0)) 20 0)
theorem lz_su_s {sh : nf_H} {x : nf_O} {k i : Nat} : nf_su sh k i x k i = some x := nf_su_s _ _ _ _
theorem lz_su_n {sh : nf_H} {x : nf_O} {k i a b : Nat} (h : ¬ a = k) : nf_su sh k i x a b = sh a b := by
  unfold nf_su
  rw [if_neg (fun z => h z.1)]
theorem lz_su_m {sh : nf_H} {x : nf_O} {k i a b : Nat} (h : ¬ b = i) : nf_su sh k i x a b = sh a b := by
  unfold nf_su
  rw [if_neg (fun z => h z.2)]
theorem lz_big {a b : Nat} (h : 39 ≤ a) : xS cs 0 a b = none := by
  obtain ⟨n, rfl⟩ : ∃ n, a = n + 39 := ⟨a - 39, by omega⟩
  rfl
theorem lz_small : ∀ a, a < 39 → a = 0 ∨ a = 1 ∨ a = 2 ∨ a = 3 ∨ a = 4 ∨ a = 5 ∨ a = 6 ∨ a = 7 ∨ a = 8 ∨ a = 9 ∨ a = 10 ∨ a = 11 ∨ a = 12 ∨ a = 13 ∨ a = 14 ∨ a = 15 ∨ a = 16 ∨ a = 17 ∨ a = 18 ∨ a = 19 ∨ a = 20 ∨ a = 21 ∨ a = 22 ∨ a = 23 ∨ a = 24 ∨ a = 25 ∨ a = 26 ∨ a = 27 ∨ a = 28 ∨ a = 29 ∨ a = 30 ∨ a = 31 ∨ a = 32 ∨ a = 33 ∨ a = 34 ∨ a = 35 ∨ a = 36 ∨ a = 37 ∨ a = 38 := by omega
theorem lz_S : ys_ovS (lz_sh2 cs) cs = xS cs 0 := by
  funext a b
  by_cases ha : 39 ≤ a
  · rw [lz_big ha]
    unfold ys_ovS lz_sh2 xs_ovS lz_sh1 xs_rS
    iterate 37 rw [lz_su_n (by omega)]
    rw [lz_su_n (by omega), if_neg (by omega)]
    iterate 7 rw [lz_su_n (by omega)]
    rw [lz_su_n (by omega)]
  · by_cases hb : b = 0
    · subst hb
      rcases lz_small a (by omega) with h | h | h | h | h | h | h | h | h | h | h | h | h | h | h | h | h | h | h | h | h | h | h | h | h | h | h | h | h | h | h | h | h | h | h | h | h | h | h <;> subst h <;> rfl
    · unfold ys_ovS lz_sh2 xs_ovS lz_sh1 xs_rS
      iterate 37 rw [lz_su_m hb]
      rw [lz_su_m hb]
      by_cases h8 : a = 8
      · subst h8
        by_cases h9 : b < 21
        · rw [if_pos ⟨rfl, h9⟩]
          simp [xS, h9]
        · rw [if_neg (by omega)]
          iterate 7 rw [lz_su_m hb]
          rw [lz_su_m hb]
          simp [xS, h9]
      · rw [if_neg (by omega)]
        iterate 7 rw [lz_su_m hb]
        rw [lz_su_m hb]
        rcases lz_small a (by omega) with h | h | h | h | h | h | h | h | h | h | h | h | h | h | h | h | h | h | h | h | h | h | h | h | h | h | h | h | h | h | h | h | h | h | h | h | h | h | h <;> subst h <;> first | exact absurd rfl h8 | simp [xS, hb] | rfl
theorem lz_pz_no {P : nf_P} {k i a b c : Nat} (h : P a b c = none) : nf_pz P k i a b c = none := by
  unfold nf_pz
  by_cases h2 : a = k ∧ b = i
  · rw [if_pos h2]
  · rw [if_neg h2]; exact h
theorem lz_pz_n {P : nf_P} {k i a b c : Nat} (h : ¬ a = k) : nf_pz P k i a b c = P a b c := by
  unfold nf_pz
  rw [if_neg (fun z => h z.1)]
theorem lz_PP : lz_P = xP 0 (fun j => j) := by
  funext a b c
  unfold xP
  rw [if_neg (fun z => absurd z.2.2 (Nat.not_lt_zero _))]
  unfold lz_P ys_ovP xs_ovP
  by_cases h4 : a = 4 ∧ b = 0 ∧ c < 21
  · rw [if_pos h4]
    obtain ⟨rfl, rfl, h4⟩ := h4
    iterate 19 rw [lz_pz_n (by decide)]
    unfold xs_rP
    rw [if_pos ⟨rfl, rfl, h4⟩]
  · rw [if_neg h4]
    iterate 19 apply lz_pz_no
    unfold xs_rP
    rw [if_neg h4]
    by_cases h8 : a = 8 ∧ b < 21
    · rw [if_pos h8]
    · rw [if_neg h8]
      iterate 5 apply lz_pz_no
      rfl
theorem lz_iz0 {I : nf_I} {k i a b c : Nat} (h : I a b c = 0) : nf_iz I k i a b c = 0 := by
  unfold nf_iz
  by_cases h2 : a = k ∧ b = i
  · rw [if_pos h2]
  · rw [if_neg h2]; exact h
theorem lz_jz0 {J : nf_J} {k i a b c : Nat} (h : J a b c = 0) : nf_jz J k i a b c = 0 := by
  unfold nf_jz
  by_cases h2 : a = k ∧ b = i
  · rw [if_pos h2]
  · rw [if_neg h2]; exact h
theorem lz_iu0 {I : nf_I} {k i n a b c : Nat} (h : I a b c = 0) : nf_iu I k i n 0 a b c = 0 := by
  by_cases h2 : a = k ∧ b = i ∧ c = n
  · obtain ⟨rfl, rfl, rfl⟩ := h2
    rw [nf_iu_s]
  · rw [nf_iu_n _ _ h2]; exact h
theorem lz_ov0 {a b c : Nat} : xs_ovI (nf_iz (fun _ _ _ => 0) 0 0) a b c = 0 := by
  unfold xs_ovI xs_rI
  by_cases h8 : a = 8 ∧ b < 21
  · rw [if_pos h8]
  · rw [if_neg h8]
    exact lz_iu0 (lz_iz0 (lz_iz0 (lz_iu0 (lz_iz0 (lz_iu0 (lz_iz0 (lz_iz0 rfl)))))))
theorem lz_I0 {a b c : Nat} (h2 : ¬ ((a = 22 ∨ a = 23) ∧ b = 0 ∧ c < 256)) (h3 : ¬ (a = 24 ∧ b = 0 ∧ c < 2048)) : lz_I a b c = 0 := by
  unfold lz_I ys_ovI nf_if
  rw [if_neg h3]
  unfold ys_in
  rw [if_neg h2]
  iterate 19 apply lz_iz0
  exact lz_ov0
theorem lz_I2 {a c : Nat} (h : a = 22 ∨ a = 23) (hc : c < 256) : lz_I a 0 c = -1 := by
  unfold lz_I ys_ovI nf_if
  rw [if_neg (by omega)]
  unfold ys_in
  rw [if_pos ⟨h, rfl, hc⟩]
theorem lz_I3 {c : Nat} (hc : c < 2048) : lz_I 24 0 c = -1 := by
  unfold lz_I ys_ovI nf_if
  rw [if_pos ⟨rfl, rfl, hc⟩]
theorem lz_J2 {c : Nat} (hc : c < 256) : lz_J 25 0 c = 8589934592 := by
  unfold lz_J ys_ovJ nf_jf
  rw [if_pos ⟨rfl, rfl, hc⟩]
theorem lz_all : rl_all lz_I lz_J (fun j => j) lz_I lz_J 0 0 0 0 (fun _ => 0) := by
  have z : ∀ a b c, (a < 22 ∨ 24 < a) → lz_I a b c = nI 0 := fun a b c h => lz_I0 (by omega) (by omega)
  refine ⟨⟨⟨by decide, by decide, by decide, by decide⟩, z _ _ _ (by omega), z _ _ _ (by omega), z _ _ _ (by omega), z _ _ _ (by omega), z _ _ _ (by omega), z _ _ _ (by omega), z _ _ _ (by omega)⟩, ⟨fun j h => h, fun i j _ _ h => h⟩, ⟨fun i h => absurd h (Nat.not_lt_zero _), fun i j h => absurd h (Nat.not_lt_zero _)⟩, ⟨fun i h => absurd h (Nat.not_lt_zero _), fun d hd _ => ⟨lz_I0 (by omega) (by omega), lz_I2 (Or.inl rfl) hd, lz_I2 (Or.inr rfl) hd, fun j hj => lz_I3 (by omega), lz_J2 hd, lz_I0 (by omega) (by omega)⟩⟩, fun i h => absurd h (Nat.not_lt_zero _), ⟨fun i h => absurd h (Nat.not_lt_zero _), fun i j h => absurd h (Nat.not_lt_zero _)⟩, ⟨fun i h => absurd h (Nat.not_lt_zero _), fun i j h => absurd h (Nat.not_lt_zero _), fun i s h => absurd h (Nat.not_lt_zero _)⟩, fun j h => absurd h (Nat.not_lt_zero _)⟩
theorem lz_h {a : Nat} (h : 21 ≤ a) (h2 : a ≤ 38) : lz_sh2 cs a 0 = none := by
  unfold lz_sh2 xs_ovS lz_sh1 xs_rS
  rw [lz_su_n (by omega), lz_su_n (by omega), if_neg (by omega)]
  iterate 7 rw [lz_su_n (by omega)]
  rw [lz_su_n (by omega)]
theorem lz_20 : xs_ovS lz_sh1 cs 20 0 = none := rfl
end ZS
