/-! Sums and counts. -/
def sm (f : Nat → Nat) : Nat → Nat
  | 0 => 0
  | n + 1 => sm f n + f n
theorem sm_add (f g : Nat → Nat) : ∀ n, sm (fun t => f t + g t) n = sm f n + sm g n
  | 0 => rfl
  | n + 1 => by simp only [sm]; rw [sm_add f g n]; omega
theorem sm_cg {f g : Nat → Nat} : ∀ {n}, (∀ t, t < n → f t = g t) → sm f n = sm g n
  | 0, _ => rfl
  | n + 1, h => by simp only [sm]; rw [sm_cg (fun t ht => h t (by omega)), h n (by omega)]
theorem sm_0 : ∀ n, sm (fun _ => 0) n = 0
  | 0 => rfl
  | n + 1 => by simp only [sm]; rw [sm_0 n]
theorem sm_one (a x : Nat) : ∀ n, sm (fun t => if t = a then x else 0) n = if a < n then x else 0
  | 0 => rfl
  | n + 1 => by
    simp only [sm]
    rw [sm_one a x n]
    by_cases h : a < n
    · rw [if_pos h, if_neg (by omega), if_pos (by omega)]; rfl
    · by_cases h2 : n = a
      · rw [if_neg h, if_pos h2, if_pos (by omega)]; omega
      · rw [if_neg h, if_neg h2, if_neg (by omega)]
theorem sm_bij {n N : Nat} {x g p : Nat → Nat} (hp : ∀ q, q < n → ¬ x q = 0 → p q < N) (hi : ∀ q r, q < n → r < n → ¬ x q = 0 → ¬ x r = 0 → p q = p r → q = r) (hg : ∀ q, q < n → ¬ x q = 0 → g (p q) = x q) (hz : ∀ t, t < N → ¬ g t = 0 → ∃ q, q < n ∧ ¬ x q = 0 ∧ p q = t) : sm x n = sm g N := by
  have key : ∀ m, m ≤ n → ∃ h : Nat → Nat, sm h N = sm x m ∧ ∀ t, t < N → (∃ q, q < m ∧ ¬ x q = 0 ∧ p q = t ∧ h t = x q) ∨ ((∀ q, q < m → ¬ x q = 0 → ¬ p q = t) ∧ h t = 0) := by
    intro m
    induction m with
    | zero => exact fun _ => ⟨fun _ => 0, sm_0 N, fun t _ => Or.inr ⟨fun q hq => by omega, rfl⟩⟩
    | succ m ih =>
      intro hm
      obtain ⟨h, h1, h2⟩ := ih (by omega)
      by_cases hx : x m = 0
      · refine ⟨h, by simp only [sm]; rw [h1, hx]; rfl, fun t ht => ?_⟩
        rcases h2 t ht with ⟨q, a, b, c, d⟩ | ⟨a, b⟩
        · exact Or.inl ⟨q, by omega, b, c, d⟩
        · refine Or.inr ⟨fun q hq hq2 => ?_, b⟩
          by_cases he : q = m
          · rw [he] at hq2; exact absurd hx hq2
          · exact a q (by omega) hq2
      · refine ⟨fun t => h t + (if t = p m then x m else 0), ?_, fun t ht => ?_⟩
        · rw [sm_add, sm_one, if_pos (hp m (by omega) hx), h1]
          rfl
        · by_cases he : t = p m
          · left
            refine ⟨m, by omega, hx, he.symm, ?_⟩
            rcases h2 t ht with ⟨q, a, b, c, d⟩ | ⟨a, b⟩
            · exact absurd (hi q m (by omega) (by omega) b hx (by rw [c, he])) (by omega)
            · simp only; rw [b, if_pos he]; omega
          · rcases h2 t ht with ⟨q, a, b, c, d⟩ | ⟨a, b⟩
            · exact Or.inl ⟨q, by omega, b, c, by simp only; rw [d, if_neg he]; rfl⟩
            · refine Or.inr ⟨fun q hq hq2 => ?_, by simp only; rw [b, if_neg he]⟩
              by_cases hqm : q = m
              · rw [hqm]; exact fun z => he z.symm
              · exact a q (by omega) hq2
  obtain ⟨h, h1, h2⟩ := key n (Nat.le_refl _)
  rw [← h1]
  refine sm_cg (fun t ht => ?_)
  rcases h2 t ht with ⟨q, a, b, c, d⟩ | ⟨a, b⟩
  · rw [d, ← c, hg q a b]
  · rw [b]
    by_cases hgt : g t = 0
    · exact hgt.symm
    · obtain ⟨q, h3, h4, h5⟩ := hz t ht hgt
      exact absurd h5 (a q h3 h4)
def smF (c : Nat → Nat) (j : Nat) : Nat → Nat
  | 0 => 0
  | n + 1 => c j + smF c (j + 1) n
theorem smF_sm (c : Nat → Nat) : ∀ n j, smF c j n + sm c j = sm c (j + n)
  | 0, j => by simp [smF]
  | n + 1, j => by
    have := smF_sm c n (j + 1)
    simp only [smF]
    rw [show j + (n + 1) = j + 1 + n by omega, ← this]
    simp only [sm]
    omega
theorem smF_0 (c : Nat → Nat) (n : Nat) : smF c 0 n = sm c n := by
  have := smF_sm c n 0
  rw [show 0 + n = n by omega] at this
  simpa [sm] using this
theorem fd_add (k : Int32) (a b : Nat) : k + nI a + nI b = k + nI (a + b) := by rw [Int32.add_assoc, nI_add]
theorem fd_sum (F : Nat → Nat → Int32 → Int32) (c : Nat → Nat) (h0 : ∀ j k, F 0 j k = k) (N : Nat) (hs : ∀ n j k, n + j < N → F (n + 1) j k = F n (j + 1) (k + nI (c j))) : ∀ n j k, n + j = N → F n j k = k + nI (smF c j n)
  | 0, j, k, _ => by rw [h0]; simp only [smF]; rw [nI_0, Int32.add_zero]
  | n + 1, j, k, h => by
    rw [hs n j k (by omega), fd_sum F c h0 N hs n (j + 1) _ (by omega), fd_add]
    rfl
theorem fd_1 (k : Int32) (c : Prop) [Decidable c] : (if c then k else k + 1) = k + nI (if c then 0 else 1) := by
  split
  · rw [nI_0, Int32.add_zero]
  · rfl
theorem lg_0 (a b : Int64) : lg_cmp a b = 0 ↔ a = b := by
  unfold lg_cmp
  by_cases h : a > b
  · rw [if_pos h]
    constructor
    · intro z; exact absurd z (by decide)
    · intro z; rw [z] at h; exact absurd h (Int64.lt_irrefl)
  · rw [if_neg h]
    by_cases h2 : a = b
    · rw [if_pos h2]; exact ⟨fun _ => h2, fun _ => rfl⟩
    · rw [if_neg h2]
      constructor
      · intro z; exact absurd z (by decide)
      · intro z; exact absurd z h2
section RC
variable {I : nf_I} {J : nf_J} {mp : Nat → Nat} {U : nf_I} {V : nf_J} {nn kc sz kp : Nat} {dd : Nat → Nat}
theorem rr_own (h : rl_all I J mp U V nn kc sz kp dd) (key : Int32) : xs_own I nn key = ys_own U key := by
  obtain ⟨-, -, hi, hn, -⟩ := h
  unfold xs_own ys_own
  rw [ri_eq, rf_up hi hn key key rfl]
theorem rc_abs (x : Int32) : ¬ x.toInt64 = 4294967296 := by
  intro h
  have h1 := congrArg Int64.toInt h
  rw [Int32.toInt_toInt64, show (4294967296 : Int64).toInt = 4294967296 by decide +kernel] at h1
  have h2 := Int32.toInt_lt x
  omega
theorem rr_ens (h : rl_all I J mp U V nn kc sz kp dd) (id : Int32) : xs_ens I J nn id = ys_ens U kp id := by
  obtain ⟨⟨⟨-, hkc, -, hkp⟩, -⟩, -, hi, hn, -, hk, he, -⟩ := h
  unfold xs_ens ys_ens
  rcases rm_cases hi hn id with ⟨e1, e2⟩ | ⟨i, h1, h2, h3, e1, e2, e3⟩
  · rw [e1, if_pos e2]
  · rw [e1, if_neg (by rw [e2]; decide)]
    simp only
    rw [fd_sum (xs_ent J i) (fun s => if lg_cmp (J 7 i s) 4294967296 = 0 then 0 else 1) (fun _ _ => rfl) 10 (fun n j k _ => by rw [xs_ent, fd_1]) 10 0 0 rfl,
      fd_sum (ys_en U id) (fun q => if U 27 0 q = id then 1 else 0) (fun _ _ => rfl) kp (fun n j k _ => by
        rw [ys_en]
        congr 1
        split
        · rfl
        · rw [nI_0, Int32.add_zero]) kp 0 0 rfl, smF_0, smF_0]
    congr 2
    symm
    obtain ⟨f1, f2, f3⟩ := he
    refine sm_bij (p := fun q => (xs_slot I kc (U 28 0 q)).toNatClampNeg) ?_ ?_ ?_ ?_
    · intro q hq hx
      obtain ⟨i2, s, -, hs, -, b, -⟩ := f1 q hq
      rw [b, rs_slot hk hkc hs, nI_clamp (by omega)]
      omega
    · intro q r hq hr hx hy hpq
      obtain ⟨i2, s, -, hs, -, b, -⟩ := f1 q hq
      obtain ⟨i3, t, -, ht, -, b', -⟩ := f1 r hr
      rw [b, b', rs_slot hk hkc hs, rs_slot hk hkc ht, nI_clamp (by omega), nI_clamp (by omega)] at hpq
      have hx' : U 27 0 q = id := by
        by_cases z : U 27 0 q = id
        · exact z
        · exact absurd (if_neg z) hx
      have hy' : U 27 0 r = id := by
        by_cases z : U 27 0 r = id
        · exact z
        · exact absurd (if_neg z) hy
      exact f2 q r hq hr (by rw [hx', hy']) (by rw [b, b', hpq])
    · intro q hq hx
      obtain ⟨i2, s, hi2, hs, a, b, c⟩ := f1 q hq
      have hx' : U 27 0 q = id := by
        by_cases z : U 27 0 q = id
        · exact z
        · exact absurd (if_neg z) hx
      have hii : i = i2 := hi.2 i i2 h1 hi2 (ri_inj (hi.1 i h1).1 (hi.1 i2 hi2).1 (by rw [← h2, ← hx', a]))
      subst hii
      rw [b, rs_slot hk hkc hs, nI_clamp (by omega), if_pos hx', if_neg]
      rw [lg_0, c]
      exact rc_abs _
    · intro s hs hg
      have hv : ¬ J 7 i s = 4294967296 := by
        intro z
        exact hg (if_pos ((lg_0 _ _).mpr z))
      obtain ⟨hsk, q, hq, a, b⟩ := f3 i s h1 hs hv
      refine ⟨q, hq, ?_, ?_⟩
      · rw [if_pos (by rw [a, h2])]; decide
      · rw [b, rs_slot hk hkc hsk, nI_clamp (by omega)]
end RC
