/-! The relation between the class (I, J, mp) and the model (U, V). -/
def rl_mb (I : nf_I) (nn : Nat) (dd : Nat → Nat) (x : Int32) : Prop := ∃ i, i < nn ∧ x = nI (dd i) ∧ ¬ I 5 i 1 = -1
def rl_nd (nn : Nat) (dd : Nat → Nat) (x : Int32) : Prop := ∃ i, i < nn ∧ x = nI (dd i)
def rl_num (I : nf_I) (U : nf_I) (nn kc sz kp : Nat) : Prop := (nn ≤ 12 ∧ kc ≤ 10 ∧ sz ≤ 20 ∧ kp ≤ 120) ∧ I 0 0 1 = nI nn ∧ I 0 0 3 = nI kc ∧ I 3 0 1 = nI sz ∧ U 20 0 0 = nI nn ∧ U 20 0 7 = nI kp ∧ U 20 0 11 = nI kc ∧ U 20 0 13 = nI sz
def rl_mp (mp : Nat → Nat) : Prop := (∀ j, j < 21 → mp j < 21) ∧ ∀ i j, i < 21 → j < 21 → mp i = mp j → i = j
def rl_ids (I : nf_I) (nn : Nat) (dd : Nat → Nat) : Prop := (∀ i, i < nn → dd i < 256 ∧ I 5 i 0 = nI (dd i)) ∧ ∀ i j, i < nn → j < nn → dd i = dd j → i = j
def rl_at (I : nf_I) (J : nf_J) (U : nf_I) (V : nf_J) (i d : Nat) : Prop := U 21 0 d = (if I 5 i 1 = -1 then 1 else 2) ∧ U 22 0 d = I 5 i 1 ∧ U 23 0 d = I 5 i 2 ∧ (∀ j, j < 8 → U 24 0 (8 * d + j) = I 6 i j) ∧ V 25 0 d = J 5 i 5 ∧ U 26 0 d = I 5 i 6
def rl_no (U : nf_I) (V : nf_J) (d : Nat) : Prop := U 21 0 d = 0 ∧ U 22 0 d = -1 ∧ U 23 0 d = -1 ∧ (∀ j, j < 8 → U 24 0 (8 * d + j) = -1) ∧ V 25 0 d = 8589934592 ∧ U 26 0 d = 0
def rl_nodes (I : nf_I) (J : nf_J) (U : nf_I) (V : nf_J) (nn : Nat) (dd : Nat → Nat) : Prop := (∀ i, i < nn → rl_at I J U V i (dd i)) ∧ ∀ d, d < 256 → (∀ i, i < nn → ¬ dd i = d) → rl_no U V d
def rl_ptr (I : nf_I) (nn : Nat) (dd : Nat → Nat) : Prop := ∀ i, i < nn → (I 5 i 1 = -1 ∨ rl_mb I nn dd (I 5 i 1)) ∧ (I 5 i 2 = -1 ∨ rl_mb I nn dd (I 5 i 2)) ∧ ∀ j, j < 8 → I 6 i j = -1 ∨ rl_mb I nn dd (I 6 i j)
def rl_keys (I : nf_I) (U : nf_I) (kc : Nat) : Prop := (∀ j, j < kc → U 30 0 j = I 2 0 j ∧ ∃ d, d < 256 ∧ I 2 0 j = nI d) ∧ ∀ i j, i < kc → j < kc → I 2 0 i = I 2 0 j → i = j
def rl_ent (I : nf_I) (J : nf_J) (U : nf_I) (nn kc kp : Nat) (dd : Nat → Nat) : Prop :=
  (∀ q, q < kp → ∃ i s, i < nn ∧ s < kc ∧ U 27 0 q = nI (dd i) ∧ U 28 0 q = I 2 0 s ∧ J 7 i s = (U 29 0 q).toInt64) ∧
  (∀ q r, q < kp → r < kp → U 27 0 q = U 27 0 r → U 28 0 q = U 28 0 r → q = r) ∧
  (∀ i s, i < nn → s < 10 → ¬ J 7 i s = 4294967296 → s < kc ∧ ∃ q, q < kp ∧ U 27 0 q = nI (dd i) ∧ U 28 0 q = I 2 0 s)
/-- a message: the class's object o, the model's place j -/
def rl_msg (I : nf_I) (J : nf_J) (U : nf_I) (V : nf_J) (nn kc : Nat) (dd : Nat → Nat) (o j : Nat) : Prop :=
  I 8 o 0 = U 31 0 j ∧ I 8 o 1 = U 32 0 j ∧ rl_nd nn dd (I 8 o 1) ∧
  ((I 8 o 0 = 1 ∧ rl_mb I nn dd (I 8 o 1) ∧ I 8 o 4 = U 33 0 j ∧ (∃ d, d < 256 ∧ I 8 o 4 = nI d) ∧ I 8 o 2 = U 36 0 j ∧ rl_nd nn dd (I 8 o 2) ∧ I 8 o 7 = U 37 0 j ∧ J 8 o 8 = V 38 0 j ∧
      ((I 8 o 3 = 1 ∧ U 34 0 j = 0) ∨ (I 8 o 3 = 2 ∧ U 34 0 j = 1 ∧ I 8 o 5 = U 35 0 j ∧ ∃ t, t < 8 ∧ I 8 o 5 = nI t) ∨ (I 8 o 3 = 3 ∧ U 34 0 j = 2 ∧ (∃ v : Int32, J 8 o 8 = v.toInt64) ∧ ∃ s, s < kc ∧ I 8 o 4 = I 2 0 s) ∨ (I 8 o 3 = 4 ∧ U 34 0 j = 3))) ∨
   (I 8 o 0 = 2 ∧ V 38 0 j = (I 8 o 6).toInt64 ∧ rl_mb I nn dd (I 8 o 6) ∧ I 8 o 7 = U 37 0 j ∧
      ((I 8 o 3 = 1 ∧ U 34 0 j = 0) ∨ (I 8 o 3 = 2 ∧ U 34 0 j = 1 ∧ I 8 o 5 = U 35 0 j ∧ ∃ t, t < 8 ∧ I 8 o 5 = nI t))) ∨
   (I 8 o 0 = 3 ∧ I 8 o 4 = U 33 0 j ∧ (∃ s, s < kc ∧ I 8 o 4 = I 2 0 s) ∧ J 8 o 8 = V 38 0 j ∧ ∃ v : Int32, J 8 o 8 = v.toInt64) ∨
   (I 8 o 0 = 4 ∧ I 8 o 4 = U 33 0 j ∧ I 8 o 2 = U 36 0 j ∧ rl_nd nn dd (I 8 o 2) ∧ I 8 o 7 = U 37 0 j) ∨
   (I 8 o 0 = 5 ∧ J 8 o 8 = V 38 0 j ∧ I 8 o 7 = U 37 0 j) ∨
   (I 8 o 0 = 6 ∧ I 8 o 6 = U 36 0 j ∧ rl_mb I nn dd (I 8 o 6)) ∨
   (I 8 o 0 = 7 ∧ rl_mb I nn dd (I 8 o 1) ∧ V 38 0 j = (I 8 o 6).toInt64 ∧ (I 8 o 6 = -1 ∨ rl_mb I nn dd (I 8 o 6))) ∨
   (I 8 o 0 = 8 ∧ I 8 o 6 = U 36 0 j ∧ rl_mb I nn dd (I 8 o 6)))
def rl_msgs (I : nf_I) (J : nf_J) (U : nf_I) (V : nf_J) (mp : Nat → Nat) (nn kc sz : Nat) (dd : Nat → Nat) : Prop := ∀ j, j < sz → rl_msg I J U V nn kc dd (mp j) j
def rl_all (I : nf_I) (J : nf_J) (mp : Nat → Nat) (U : nf_I) (V : nf_J) (nn kc sz kp : Nat) (dd : Nat → Nat) : Prop :=
  rl_num I U nn kc sz kp ∧ rl_mp mp ∧ rl_ids I nn dd ∧ rl_nodes I J U V nn dd ∧ rl_ptr I nn dd ∧ rl_keys I U kc ∧ rl_ent I J U nn kc kp dd ∧ rl_msgs I J U V mp nn kc sz dd
/-! ids -/
theorem ri_eq (x : Int32) : ys_isId x = xs_isId x := by
  unfold ys_isId xs_isId
  by_cases h : x < 0
  · rw [if_pos h, if_pos h]
  · rw [if_neg h, if_neg h]
    have e : (255 : Int32).toInt = 255 := by decide +kernel
    have e2 : (256 : Int32).toInt = 256 := by decide +kernel
    by_cases h2 : 255 < x
    · rw [if_pos h2, if_pos (Int32.le_iff_toInt_le.mpr (by have := Int32.lt_iff_toInt_lt.mp h2; omega))]
    · rw [if_neg h2, if_neg (fun z => h2 (Int32.lt_iff_toInt_lt.mpr (by have := Int32.le_iff_toInt_le.mp z; omega)))]
theorem ri_nI {d : Nat} (h : d < 256) : xs_isId (nI d) = true := by
  unfold xs_isId
  have h9 : ¬ (256 : Int32) ≤ nI d := fun z => absurd ((nI_leI (a := 256) (b := d) (by decide) (by omega)).mp z) (by omega)
  rw [if_neg (nI_pos (by omega)), if_neg h9]
theorem ri_ix {x : Int32} (h : xs_isId x = true) : ∃ d, d < 256 ∧ x = nI d := ys_isId_ix (by rw [ri_eq]; exact h)
theorem ri_inj {a b : Nat} (ha : a < 256) (hb : b < 256) (h : nI a = nI b) : a = b := (nI_eq (by omega) (by omega)).mp h
theorem ri_ne {a : Nat} (ha : a < 256) : ¬ nI a = -1 := by
  intro h
  have := congrArg Int32.toInt h
  rw [nI_toInt (by omega), show (-1 : Int32).toInt = -1 by decide +kernel] at this
  omega
/-! who is there -/
theorem rn_some {I : nf_I} {nn : Nat} {dd : Nat → Nat} (hi : rl_ids I nn dd) {i : Nat} (h : i < nn) : xs_node I nn (nI (dd i)) = some i := by
  cases hq : xs_node I nn (nI (dd i)) with
  | some k =>
    have h1 := xs_node_lt hq
    have h2 := (xs_nix_lt hq).2.2
    rw [(hi.1 k h1).2] at h2
    exact congrArg some (hi.2 k i h1 h (ri_inj (hi.1 k h1).1 (hi.1 i h).1 h2))
  | none =>
    exfalso
    have key : ∀ n j, j ≤ i → i < n + j → xs_nix I (nI (dd i)) n j = none → False := by
      intro n
      induction n with
      | zero => intro j h1 h2 _; omega
      | succ n ih =>
        intro j h1 h2 h3
        unfold xs_nix at h3
        by_cases hc : I 5 j 0 = nI (dd i)
        · rw [if_pos hc] at h3; cases h3
        · rw [if_neg hc] at h3
          by_cases hji : j = i
          · subst hji; exact hc (hi.1 j h).2
          · exact ih (j + 1) (by omega) (by omega) h3
    exact key nn 0 (Nat.zero_le _) (by omega) hq
theorem rn_none {I : nf_I} {nn : Nat} {dd : Nat → Nat} (hi : rl_ids I nn dd) {x : Int32} (h : ∀ i, i < nn → ¬ x = nI (dd i)) : xs_node I nn x = none := by
  cases hq : xs_node I nn x with
  | none => rfl
  | some k =>
    have h1 := xs_node_lt hq
    have h2 := (xs_nix_lt hq).2.2
    rw [(hi.1 k h1).2] at h2
    exact absurd h2.symm (h k h1)
/-- any number: no node has it, or one has -/
theorem rn_cases {I : nf_I} {nn : Nat} {dd : Nat → Nat} (hi : rl_ids I nn dd) (x : Int32) : ((∀ i, i < nn → ¬ x = nI (dd i)) ∧ xs_node I nn x = none) ∨ ∃ i, i < nn ∧ x = nI (dd i) ∧ xs_node I nn x = some i := by
  cases hq : xs_node I nn x with
  | none =>
    left
    refine ⟨fun i h e => ?_, rfl⟩
    rw [e, rn_some hi h] at hq
    cases hq
  | some k =>
    right
    have h1 := xs_node_lt hq
    have h2 := (xs_nix_lt hq).2.2
    rw [(hi.1 k h1).2] at h2
    exact ⟨k, h1, h2.symm, rfl⟩
theorem rm_cases {I : nf_I} {J : nf_J} {U : nf_I} {V : nf_J} {nn : Nat} {dd : Nat → Nat} (hi : rl_ids I nn dd) (hn : rl_nodes I J U V nn dd) (x : Int32) : (xs_memb I nn x = none ∧ ys_mem U x = false) ∨ ∃ i, i < nn ∧ x = nI (dd i) ∧ ¬ I 5 i 1 = -1 ∧ xs_memb I nn x = some i ∧ ys_mem U x = true ∧ x.toNatClampNeg = dd i := by
  rcases rn_cases hi x with ⟨h1, h2⟩ | ⟨i, h1, h2, h3⟩
  · left
    refine ⟨by unfold xs_memb; rw [h2], ?_⟩
    unfold ys_mem
    cases hx : ys_isId x with
    | false => rw [if_pos rfl]
    | true =>
      obtain ⟨d, hd, he⟩ := ys_isId_ix hx
      rw [if_neg (by decide), he, nI_clamp (by omega), (hn.2 d hd (fun i h e => h1 i h (by rw [he, e]))).1, if_neg (by decide)]
  · have hd := (hi.1 i h1).1
    have hc : x.toNatClampNeg = dd i := by rw [h2, nI_clamp (by omega)]
    have hx : ys_isId x = true := by rw [ri_eq, h2]; exact ri_nI hd
    have hr := (hn.1 i h1).1
    by_cases hs : I 5 i 1 = -1
    · left
      refine ⟨?_, ?_⟩
      · unfold xs_memb
        rw [h3]
        simp [xs_mem, hs]
      · unfold ys_mem
        rw [if_neg (by rw [hx]; decide), hc, hr, if_pos hs, if_neg (by decide)]
    · right
      refine ⟨i, h1, h2, hs, ?_, ?_, hc⟩
      · unfold xs_memb
        rw [h3]
        simp [xs_mem, hs]
      · unfold ys_mem
        rw [if_neg (by rw [hx]; decide), hc, hr, if_neg hs, if_pos rfl]
