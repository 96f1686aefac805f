/-! Ids on the ring: steps up, past, between, first. -/
def pz_t (x : Int32) : Nat := x.toBitVec.toNat % 256
def pz_d (a b : Nat) : Nat := (b + 255 - a) % 256 + 1
theorem pz_tl (x : Int32) : pz_t x < 256 := by
  unfold pz_t
  omega
theorem pz_tn {n : Nat} (h : n < 256) : pz_t (nI n) = n := by
  unfold pz_t
  rw [pk_tn (by omega)]
  omega
theorem pz_sub (a b : Int32) : (a - b).toBitVec.toNat = (2 ^ 32 - b.toBitVec.toNat + a.toBitVec.toNat) % 2 ^ 32 := by
  rw [Int32.toBitVec_sub, BitVec.toNat_sub]
theorem pz_add (a b : Int32) : (a + b).toBitVec.toNat = (a.toBitVec.toNat + b.toBitVec.toNat) % 2 ^ 32 := by
  rw [Int32.toBitVec_add, BitVec.toNat_add]
theorem pz_up (a b : Int32) : xs_up a b = nI (pz_d (pz_t a) (pz_t b)) := by
  unfold xs_up pz_d
  rw [pk_and _ 8 (by decide +kernel), nI_1, pz_sub, pz_sub]
  have h1 : (1 : Int32).toBitVec.toNat = 1 := by decide +kernel
  have ha := a.toBitVec.isLt
  have hb := b.toBitVec.isLt
  rw [h1]
  unfold pz_t
  congr 2
  omega
theorem pz_dl (a b : Nat) : 1 ≤ pz_d a b ∧ pz_d a b ≤ 256 := by
  unfold pz_d
  omega
theorem pz_pst (a b x : Int32) : xs_pst a b x = decide (pz_d (pz_t a) (pz_t x) ≤ pz_d (pz_t a) (pz_t b)) := by
  have h1 := pz_dl (pz_t a) (pz_t x)
  have h2 := pz_dl (pz_t a) (pz_t b)
  unfold xs_pst
  rw [pz_up, pz_up]
  by_cases h : pz_d (pz_t a) (pz_t b) < pz_d (pz_t a) (pz_t x)
  · rw [if_pos ((nI_ltI (by omega) (by omega)).mpr h)]
    simp; omega
  · rw [if_neg (fun z => h ((nI_ltI (by omega) (by omega)).mp z))]
    simp; omega
theorem pz_btw (a b x : Int32) : xs_btw a b x = decide (pz_d (pz_t a) (pz_t x) < pz_d (pz_t a) (pz_t b)) := by
  have h1 := pz_dl (pz_t a) (pz_t x)
  have h2 := pz_dl (pz_t a) (pz_t b)
  unfold xs_btw
  rw [pz_up, pz_up]
  by_cases h : pz_d (pz_t a) (pz_t b) ≤ pz_d (pz_t a) (pz_t x)
  · rw [if_pos ((nI_leI (by omega) (by omega)).mpr h)]
    simp; omega
  · rw [if_neg (fun z => h ((nI_leI (by omega) (by omega)).mp z))]
    simp; omega
theorem pz_nx {d : Nat} (h : d < 256) : ys_nx (nI d) = nI ((d + 1) % 256) := by
  unfold ys_nx
  rw [nI_1]
  exact pk_rem (a := d + 1) (d := 256) (by omega) (by decide) (by decide)
theorem pz_pl {a b x : Nat} (ha : a < 256) (hb : b < 256) (hx : x < 256) : ∀ n t : Nat, t + n = 256 → t < pz_d a x → t < pz_d a b → ys_pl (nI x) (nI b) n (nI ((a + t) % 256)) = decide (pz_d a x ≤ pz_d a b)
  | 0, t, h, h1, h2 => by
    have := pz_dl a x
    omega
  | n + 1, t, h, h1, h2 => by
    have e : ((a + t) % 256 + 1) % 256 = (a + (t + 1)) % 256 := by omega
    unfold ys_pl
    rw [pz_nx (by omega), e]
    by_cases c1 : (a + (t + 1)) % 256 = x
    · rw [if_pos (by rw [c1])]
      have : pz_d a x = t + 1 := by unfold pz_d at *; omega
      simp; omega
    · rw [if_neg (fun z => c1 ((nI_eq (by omega) (by omega)).mp z))]
      by_cases c2 : (a + (t + 1)) % 256 = b
      · rw [if_pos (by rw [c2])]
        have : pz_d a b = t + 1 := by unfold pz_d at *; omega
        have : pz_d a x ≠ t + 1 := by unfold pz_d at *; omega
        simp; omega
      · rw [if_neg (fun z => c2 ((nI_eq (by omega) (by omega)).mp z))]
        have : pz_d a b ≠ t + 1 := by unfold pz_d at *; omega
        have : pz_d a x ≠ t + 1 := by unfold pz_d at *; omega
        exact pz_pl ha hb hx n (t + 1) (by omega) (by omega) (by omega)
theorem pz_past {a b x : Nat} (ha : a < 256) (hb : b < 256) (hx : x < 256) : ys_past (nI x) (nI a) (nI b) = xs_pst (nI a) (nI b) (nI x) := by
  rw [pz_pst, pz_tn ha, pz_tn hb, pz_tn hx]
  have h := pz_pl ha hb hx 256 0 rfl (by have := pz_dl a x; omega) (by have := pz_dl a b; omega)
  rw [show (a + 0) % 256 = a by omega] at h
  exact h
theorem pz_between {a b x : Nat} (ha : a < 256) (hb : b < 256) (hx : x < 256) : ys_btw (nI x) (nI a) (nI b) = xs_btw (nI a) (nI b) (nI x) := by
  unfold ys_btw
  rw [pz_past ha hb hx, pz_pst, pz_btw, pz_tn ha, pz_tn hb, pz_tn hx]
  by_cases h : x = b
  · subst h
    rw [if_pos rfl]
    simp
  · rw [if_neg (fun z => h ((nI_eq (by omega) (by omega)).mp z))]
    have : pz_d a x ≠ pz_d a b := by unfold pz_d; omega
    rw [decide_eq_decide]
    omega
