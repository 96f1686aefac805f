/-! pump and deliver, as functions. -/
theorem nk_n8 {x : Int32} (h1 : ¬ x < 1) (h2 : x ≤ 8) : ∃ N : Nat, 1 ≤ N ∧ N ≤ 8 ∧ x = nI N := by
  have b := Int32.le_iff_toInt_le.mp h2
  have e8 : (8 : Int32).toInt = 8 := by decide +kernel
  have e1 : (1 : Int32).toInt = 1 := by decide +kernel
  have a : ¬ x.toInt < 1 := fun z => h1 (Int32.lt_iff_toInt_lt.mpr (by omega))
  refine ⟨x.toInt.toNat, by omega, by omega, Int32.toInt_inj.mp ?_⟩
  rw [nI_toInt (by omega)]
  omega
theorem ys_rwn_e {I : nf_I} {q : Nat} (h : I 20 0 13 = nI q) (hq : q < 2 ^ 31) : ys_rwn I = q := by
  unfold ys_rwn
  rw [h, nI_clamp hq]
theorem ys_kpn_e {I : nf_I} {q : Nat} (h : I 20 0 7 = nI q) (hq : q < 2 ^ 31) : ys_kpn I = q := by
  unfold ys_kpn
  rw [h, nI_clamp hq]
def ys_puR (I : nf_I) (J : nf_J) (n : Int32) : Int32 := if n < 1 then -1 else if n ≤ 8 then nI (ys_pu n.toNatClampNeg 0 I J).1 else -1
def ys_puI (I : nf_I) (J : nf_J) (n : Int32) : nf_I := if n < 1 then I else if n ≤ 8 then (ys_pu n.toNatClampNeg 0 I J).2.1 else I
def ys_puJ (I : nf_I) (J : nf_J) (n : Int32) : nf_J := if n < 1 then J else if n ≤ 8 then (ys_pu n.toNatClampNeg 0 I J).2.2 else J
def xs_pu (nn kc : Nat) : Nat → Nat → nf_I → nf_J → (Nat → Nat) → Nat × nf_I × nf_J × (Nat → Nat)
  | 0, c, I, J, mp => (c, I, J, mp)
  | n + 1, c, I, J, mp => if (xs_arr I J mp nn kc 0).1 = -1 then (c, (xs_arr I J mp nn kc 0).2.1, (xs_arr I J mp nn kc 0).2.2.1, (xs_arr I J mp nn kc 0).2.2.2) else xs_pu nn kc n (c + 1) (xs_arr I J mp nn kc 0).2.1 (xs_arr I J mp nn kc 0).2.2.1 (xs_arr I J mp nn kc 0).2.2.2
def xs_puR (I : nf_I) (J : nf_J) (mp : Nat → Nat) (nn kc : Nat) (n : Int32) : Int32 := if n < 1 then -1 else if n ≤ 8 then nI (xs_pu nn kc n.toNatClampNeg 0 I J mp).1 else -1
def xs_puI (I : nf_I) (J : nf_J) (mp : Nat → Nat) (nn kc : Nat) (n : Int32) : nf_I := if n < 1 then I else if n ≤ 8 then (xs_pu nn kc n.toNatClampNeg 0 I J mp).2.1 else I
def xs_puJ (I : nf_I) (J : nf_J) (mp : Nat → Nat) (nn kc : Nat) (n : Int32) : nf_J := if n < 1 then J else if n ≤ 8 then (xs_pu nn kc n.toNatClampNeg 0 I J mp).2.2.1 else J
def xs_puM (I : nf_I) (J : nf_J) (mp : Nat → Nat) (nn kc : Nat) (n : Int32) : Nat → Nat := if n < 1 then mp else if n ≤ 8 then (xs_pu nn kc n.toNatClampNeg 0 I J mp).2.2.2 else mp
