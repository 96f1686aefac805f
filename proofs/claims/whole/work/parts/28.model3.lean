/-! The model's arrivals, as functions. -/
def ys_onw (I : nf_I) (nd : Nat) : Nat → Nat → Int32 → Int32
  | 0, _, o => o
  | n + 1, j, o => ys_onw I nd n (j + 1) (if I 24 0 (8 * nd + j) = -1 then o else if ys_btw (I 24 0 (8 * nd + j)) (nI nd) (I 33 0 20) = false then o else I 24 0 (8 * nd + j))
def ys_fp (I : nf_I) (nd rwn : Nat) : nf_I :=
  let A := ys_cp I 20 rwn
  let B := nf_iu A 32 0 rwn (ys_onw I nd 8 0 (I 22 0 nd))
  let C := nf_iu B 37 0 rwn (B 37 0 20 + 1)
  nf_iu C 20 0 13 (C 20 0 13 + 1)
def ys_fg (I : nf_I) (rwn : Nat) (K T : Int32) : nf_I :=
  let A := ys_po I rwn K T (I 33 0 20) (I 36 0 20)
  let B := nf_iu A 34 0 rwn (A 34 0 20)
  let C := nf_iu B 35 0 rwn (B 35 0 20)
  nf_iu C 37 0 rwn (C 37 0 20)
def ys_fdI (I : nf_I) (nd rwn : Nat) : nf_I := if ys_past (I 33 0 20) (nI nd) (I 22 0 nd) = false then ys_fp I nd rwn else if I 34 0 20 = 0 then ys_fg I rwn 2 (I 36 0 20) else if I 34 0 20 = 1 then ys_fg I rwn 2 (I 36 0 20) else if I 34 0 20 = 2 then ys_fg I rwn 3 (I 22 0 nd) else ys_fg I rwn 4 (I 22 0 nd)
def ys_fdJ (I : nf_I) (J : nf_J) (nd rwn : Nat) : nf_J := if ys_past (I 33 0 20) (nI nd) (I 22 0 nd) = false then ys_cpJ J 20 rwn else if I 34 0 20 = 0 then nf_ju (ys_poJ J rwn) 38 0 rwn (I 22 0 nd).toInt64 else if I 34 0 20 = 1 then nf_ju (ys_poJ J rwn) 38 0 rwn (I 22 0 nd).toInt64 else nf_ju (ys_poJ J rwn) 38 0 rwn (ys_poJ J rwn 38 0 20)
theorem ys_cp_row {I : nf_I} {rwn f a : Nat} (hr : I 20 0 13 = nI rwn) : ys_cp I f a 20 0 13 = nI rwn := by
  simp [ys_cp, ys_cp1, nf_iu, hr]
def ys_fo1 (I : nf_I) (J : nf_J) (nd : Nat) : nf_I := if I 34 0 20 = 0 then nf_iu (nf_iu I 21 0 nd 2) 22 0 nd (J 38 0 20).toInt32 else nf_iu I 24 0 (8 * nd + (I 35 0 20).toNatClampNeg) (J 38 0 20).toInt32
def ys_foI (I : nf_I) (J : nf_J) (nd : Nat) : nf_I := nf_iu (ys_fo1 I J nd) 26 0 nd (ys_fo1 I J nd 37 0 20)
def ys_feI (I : nf_I) (rwn : Nat) : nf_I := nf_iu (ys_po I rwn 5 (I 36 0 20) 0 0) 37 0 rwn (ys_po I rwn 5 (I 36 0 20) 0 0 37 0 20)
def ys_feJ (I : nf_I) (J : nf_J) (kp nd rwn : Nat) : nf_J := nf_ju (ys_poJ J rwn) 38 0 rwn (if 0 ≤ ys_eat I kp (nI nd) (I 33 0 20) then (ys_po I rwn 5 (I 36 0 20) 0 0 29 0 (ys_eat I kp (nI nd) (I 33 0 20)).toNatClampNeg).toInt64 else 4294967296)
def ys_teS (I : nf_I) (J : nf_J) (nd : Nat) : nf_I := if (J 38 0 20).toInt32 = -1 then I else if ys_btw (J 38 0 20).toInt32 (nI nd) (I 22 0 nd) = false then I else nf_iu I 22 0 nd (J 38 0 20).toInt32
def ys_teI (I : nf_I) (J : nf_J) (nd rwn : Nat) : nf_I := ys_po (ys_teS I J nd) rwn 8 (ys_teS I J nd 22 0 nd) 0 (nI nd)
def ys_kpn (I : nf_I) : Nat := (I 20 0 7).toNatClampNeg
def ys_hs (I : nf_I) (m : Int32) (k : Nat) : nf_I := ys_kp (ys_dr I (ys_kpn I) k) (ys_kpn I - 1) m (I 28 0 k) (I 29 0 k)
def ys_ho (n m : Int32) : Nat → Nat → nf_I → nf_I
  | 0, _, I => I
  | f + 1, k, I => if ys_kpn I ≤ k then I else if I 27 0 k = n then (if ys_past (I 28 0 k) m n = false then ys_ho n m f 0 (ys_hs I m k) else ys_ho n m f (k + 1) I) else ys_ho n m f (k + 1) I
def ys_hok (n m : Int32) : Nat → Nat → nf_I → Prop
  | 0, _, _ => False
  | f + 1, k, I => if ys_kpn I ≤ k then True else if I 27 0 k = n then (if ys_past (I 28 0 k) m n = false then ys_hok n m f 0 (ys_hs I m k) else ys_hok n m f (k + 1) I) else ys_hok n m f (k + 1) I
theorem ys_dr_kp {I : nf_I} {kp q : Nat} (hkp : I 20 0 7 = nI kp) (h : 0 < kp) : ys_dr I kp q 20 0 7 = nI (kp - 1) := by
  unfold ys_dr ys_sh
  rw [if_neg (by omega), nf_iu_s, hkp, show kp = (kp - 1) + 1 by omega, nI_pred]
  rfl
theorem ys_kp_kp {I : nf_I} {kp : Nat} {mb wd v : Int32} (hkp : I 20 0 7 = nI kp) : ys_kp I kp mb wd v 20 0 7 = nI kp ∨ ys_kp I kp mb wd v 20 0 7 = nI (kp + 1) := by
  unfold ys_kp
  split
  · left
    simp [nf_iu, hkp]
  · right
    simp [ys_kp0, nf_iu, hkp, nI_1]
theorem ys_hs_kp {I : nf_I} {kp k : Nat} {m : Int32} (hkp : I 20 0 7 = nI kp) (hk2 : kp ≤ 120) (hk : k < kp) : ∃ kp2, kp2 ≤ 120 ∧ ys_hs I m k 20 0 7 = nI kp2 := by
  have e : ys_kpn I = kp := by unfold ys_kpn; rw [hkp, nI_clamp (by omega)]
  unfold ys_hs
  rw [e]
  rcases ys_kp_kp (mb := m) (wd := I 28 0 k) (v := I 29 0 k) (ys_dr_kp (q := k) hkp (by omega)) with h | h
  · exact ⟨kp - 1, by omega, h⟩
  · exact ⟨kp - 1 + 1, by omega, h⟩
def ys_noI (I : nf_I) (nd F : Nat) : nf_I := if I 23 0 nd = -1 then ys_ho (nI nd) (I 36 0 20) F 0 (nf_iu I 23 0 nd (I 36 0 20)) else if ys_btw (I 36 0 20) (I 23 0 nd) (nI nd) = false then I else ys_ho (nI nd) (I 36 0 20) F 0 (nf_iu I 23 0 nd (I 36 0 20))
