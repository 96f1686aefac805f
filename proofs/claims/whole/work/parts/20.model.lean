/-! What each method of the model answers and changes, as functions. -/
def ys_isId (x : Int32) : Bool := if x < 0 then false else if 255 < x then false else true
theorem ys_isId_ix {x : Int32} (h : ys_isId x = true) : ∃ n, n < 256 ∧ x = nI n := by
  unfold ys_isId at h
  split at h
  · cases h
  next h1 =>
    split at h
    · cases h
    next h2 =>
      rcases pk_ix x (n := 256) (by decide) with h3 | h3 | h3
      · exact absurd h3 h1
      · exact absurd (Int32.lt_iff_toInt_lt.mpr (by have := Int32.le_iff_toInt_le.mp h3; rw [nI_toInt (by decide)] at this; have e : (255 : Int32).toInt = 255 := by decide +kernel
                                                    omega)) h2
      · exact h3
def ys_mem (I : nf_I) (x : Int32) : Bool := if ys_isId x = false then false else if I 21 0 x.toNatClampNeg = 2 then true else false
def ys_nx (y : Int32) : Int32 := y + 1 - (y + 1) / 256 * 256
def ys_pl (x b : Int32) : Nat → Int32 → Bool
  | 0, _ => false
  | n + 1, y => if ys_nx y = x then true else if ys_nx y = b then false else ys_pl x b n (ys_nx y)
def ys_past (x a b : Int32) : Bool := ys_pl x b 256 a
def ys_btw (x a b : Int32) : Bool := if x = b then false else ys_past x a b
def ys_fl (I : nf_I) (st : Int32) : Nat → Int32 → Int32
  | 0, _ => -1
  | n + 1, x => if I 21 0 x.toNatClampNeg = 2 then x else ys_fl I st n ((x + st) &&& 255)
def ys_first (I : nf_I) (fr st : Int32) : Int32 := ys_fl I st 256 (fr &&& 255)
def ys_po1 (I : nf_I) (rwn : Nat) (kd tz ky ak : Int32) : nf_I := nf_iu (nf_iu (nf_iu (nf_iu (nf_iu (nf_iu (nf_iu I 31 0 rwn kd) 32 0 rwn tz) 33 0 rwn ky) 36 0 rwn ak) 34 0 rwn 0) 35 0 rwn 0) 37 0 rwn 0
def ys_po (I : nf_I) (rwn : Nat) (kd tz ky ak : Int32) : nf_I := nf_iu (ys_po1 I rwn kd tz ky ak) 20 0 13 (ys_po1 I rwn kd tz ky ak 20 0 13 + 1)
def ys_poJ (J : nf_J) (rwn : Nat) : nf_J := nf_ju J 38 0 rwn 0
theorem ys_po_row {I : nf_I} {rwn : Nat} (kd tz ky ak : Int32) (hr : I 20 0 13 = nI rwn) : ys_po I rwn kd tz ky ak 20 0 13 = nI (rwn + 1) := by
  simp [ys_po, ys_po1, nf_iu, hr, nI_1]
def ys_cp1 (I : nf_I) (f a q : Nat) : nf_I := nf_iu I q 0 a (I q 0 f)
def ys_cp (I : nf_I) (f a : Nat) : nf_I := ys_cp1 (ys_cp1 (ys_cp1 (ys_cp1 (ys_cp1 (ys_cp1 (ys_cp1 I f a 31) f a 32) f a 33) f a 34) f a 35) f a 36) f a 37
def ys_cpJ (J : nf_J) (f a : Nat) : nf_J := nf_ju J 38 0 a (J 38 0 f)
def ys_ask (I : nf_I) (rwn : Nat) (mb wd why fi : Int32) : nf_I := nf_iu (nf_iu (ys_po I rwn 1 mb (wd &&& 255) mb) 34 0 rwn why) 35 0 rwn fi
def ys_askJ (J : nf_J) (rwn : Nat) (v : Int64) : nf_J := nf_ju (ys_poJ J rwn) 38 0 rwn v
def ys_ea (I : nf_I) (mb wd : Int32) : Nat → Nat → Int32 → Int32
  | 0, _, f => f
  | n + 1, j, f => ys_ea I mb wd n (j + 1) (if I 27 0 j = mb then (if I 28 0 j = wd then nI j else f) else f)
def ys_eat (I : nf_I) (kp : Nat) (mb wd : Int32) : Int32 := ys_ea I mb wd kp 0 (-1)
theorem ys_ea_c {I : nf_I} {mb wd : Int32} : ∀ {n j : Nat} {f : Int32}, ys_ea I mb wd n j f = f ∨ ∃ q, j ≤ q ∧ q < n + j ∧ ys_ea I mb wd n j f = nI q ∧ I 27 0 q = mb ∧ I 28 0 q = wd
  | 0, j, f => Or.inl rfl
  | n + 1, j, f => by
    unfold ys_ea
    rcases ys_ea_c (I := I) (mb := mb) (wd := wd) (n := n) (j := j + 1) (f := if I 27 0 j = mb then (if I 28 0 j = wd then nI j else f) else f) with h | ⟨q, h1, h2, h3, h4⟩
    · rw [h]
      by_cases c1 : I 27 0 j = mb
      · by_cases c2 : I 28 0 j = wd
        · rw [if_pos c1, if_pos c2]
          exact Or.inr ⟨j, Nat.le_refl _, by omega, rfl, c1, c2⟩
        · rw [if_pos c1, if_neg c2]
          exact Or.inl rfl
      · rw [if_neg c1]
        exact Or.inl rfl
    · exact Or.inr ⟨q, by omega, by omega, h3, h4⟩
theorem ys_eat_c (I : nf_I) (kp : Nat) (mb wd : Int32) : ys_eat I kp mb wd = -1 ∨ ∃ q, q < kp ∧ ys_eat I kp mb wd = nI q ∧ I 27 0 q = mb ∧ I 28 0 q = wd := by
  rcases ys_ea_c (I := I) (mb := mb) (wd := wd) (n := kp) (j := 0) (f := -1) with h | ⟨q, h1, h2, h3, h4⟩
  · exact Or.inl h
  · exact Or.inr ⟨q, by omega, h3, h4⟩
def ys_kp0 (I : nf_I) (kp : Nat) (mb wd v : Int32) : nf_I := nf_iu (nf_iu (nf_iu (nf_iu I 20 0 7 (I 20 0 7 + 1)) 27 0 kp mb) 28 0 kp wd) 29 0 kp v
def ys_kp (I : nf_I) (kp : Nat) (mb wd v : Int32) : nf_I := if 0 ≤ ys_eat I kp mb wd then nf_iu I 29 0 (ys_eat I kp mb wd).toNatClampNeg v else ys_kp0 I kp mb wd v
def ys_sh (I : nf_I) (q j : Nat) : nf_I := fun a b c => if (a = 27 ∨ a = 28 ∨ a = 29) ∧ b = 0 ∧ q ≤ c ∧ c < j then I a b (c + 1) else I a b c
theorem ys_sh_0 (I : nf_I) (q : Nat) : ys_sh I q q = I := by
  funext a b c
  unfold ys_sh
  rw [if_neg (by omega)]
def ys_sh1 (S : nf_I) (a j : Nat) : nf_I := nf_iu S a 0 j (S a 0 (j + 1))
theorem ys_sh_s (I : nf_I) {q j : Nat} (h : q ≤ j) : ys_sh1 (ys_sh1 (ys_sh1 (ys_sh I q j) 27 j) 28 j) 29 j = ys_sh I q (j + 1) := by
  have r : ∀ a, a = 27 ∨ a = 28 ∨ a = 29 → ys_sh I q j a 0 (j + 1) = I a 0 (j + 1) := by
    intro a ha
    unfold ys_sh
    rw [if_neg (by omega)]
  have e27 := r 27 (Or.inl rfl)
  have e28 := r 28 (Or.inr (Or.inl rfl))
  have e29 := r 29 (Or.inr (Or.inr rfl))
  have x1 : ys_sh1 (ys_sh I q j) 27 j = nf_iu (ys_sh I q j) 27 0 j (I 27 0 (j + 1)) := by unfold ys_sh1; rw [e27]
  have x2 : ys_sh1 (ys_sh1 (ys_sh I q j) 27 j) 28 j = nf_iu (nf_iu (ys_sh I q j) 27 0 j (I 27 0 (j + 1))) 28 0 j (I 28 0 (j + 1)) := by
    rw [x1]
    unfold ys_sh1
    rw [nf_iu_n (ys_sh I q j) _ (by omega), e28]
  have x3 : ys_sh1 (ys_sh1 (ys_sh1 (ys_sh I q j) 27 j) 28 j) 29 j = nf_iu (nf_iu (nf_iu (ys_sh I q j) 27 0 j (I 27 0 (j + 1))) 28 0 j (I 28 0 (j + 1))) 29 0 j (I 29 0 (j + 1)) := by
    rw [x2]
    unfold ys_sh1
    rw [nf_iu_n _ _ (by omega), nf_iu_n (ys_sh I q j) _ (by omega), e29]
  rw [x3]
  funext a b c
  unfold nf_iu ys_sh
  by_cases c9 : a = 29 ∧ b = 0 ∧ c = j
  · obtain ⟨rfl, rfl, rfl⟩ := c9
    rw [if_pos ⟨rfl, rfl, rfl⟩, if_pos (by omega)]
  · rw [if_neg c9]
    by_cases c8 : a = 28 ∧ b = 0 ∧ c = j
    · obtain ⟨rfl, rfl, rfl⟩ := c8
      rw [if_pos ⟨rfl, rfl, rfl⟩, if_pos (by omega)]
    · rw [if_neg c8]
      by_cases c7 : a = 27 ∧ b = 0 ∧ c = j
      · obtain ⟨rfl, rfl, rfl⟩ := c7
        rw [if_pos ⟨rfl, rfl, rfl⟩, if_pos (by omega)]
      · rw [if_neg c7]
        by_cases hc : (a = 27 ∨ a = 28 ∨ a = 29) ∧ b = 0 ∧ q ≤ c ∧ c < j
        · rw [if_pos hc, if_pos (by omega)]
        · rw [if_neg hc, if_neg (by omega)]
def ys_dr (I : nf_I) (kp q : Nat) : nf_I := ys_sh (nf_iu I 20 0 7 (I 20 0 7 - 1)) q (kp - 1)
