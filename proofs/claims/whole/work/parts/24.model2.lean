/-! The model's calls, as functions. -/
theorem nk_ix2 {x : Int32} {n : Nat} (h0 : ¬ x < 0) (h : x < nI n) (hn : n < 2 ^ 31) : ∃ j : Nat, j < n ∧ x = nI j := by
  refine nk_ix h0 (fun z => ?_) hn
  have a := Int32.lt_iff_toInt_lt.mp h
  have b := Int32.le_iff_toInt_le.mp z
  omega
theorem nk_ix7 {x : Int32} (h0 : ¬ x < 0) (h : ¬ 7 < x) : ∃ j : Nat, j < 8 ∧ x = nI j := by
  refine nk_ix (n := 8) h0 (fun z => h ?_) (by decide)
  have b := Int32.le_iff_toInt_le.mp z
  have e : (nI 8).toInt = 8 := by decide +kernel
  have e7 : (7 : Int32).toInt = 7 := by decide +kernel
  refine Int32.lt_iff_toInt_lt.mpr ?_
  omega
theorem ys_mem_ix {I : nf_I} {x : Int32} (h : ys_mem I x = true) : ∃ n, n < 256 ∧ x = nI n := by
  unfold ys_mem at h
  split at h
  · cases h
  next h1 => exact ys_isId_ix (by cases hb : ys_isId x with
      | true => rfl
      | false => exact absurd hb h1)
theorem nk_8 {x y : Int32} {a b : Nat} (hx : x = nI a) (hy : y = nI b) : 8 * x + y = nI (8 * a + b) := by
  rw [hx, hy, show (8 : Int32) = nI 8 from rfl, pk_mul, nI_add]
def ys_msg (I : nf_I) (k : Int32) : Int32 := if k < 0 then -1 else if k < I 20 0 13 then I 31 0 k.toNatClampNeg * 256 + I 32 0 k.toNatClampNeg else -1
def ys_rd (I : nf_I) (a : Nat) (id : Int32) : Int32 := if ys_mem I id = false then -1 else I a 0 id.toNatClampNeg
def ys_fgr (I : nf_I) (id j : Int32) : Int32 := if ys_mem I id = false then -1 else if j < 0 then -1 else if 7 < j then -1 else I 24 0 (8 * id.toNatClampNeg + j.toNatClampNeg)
def ys_ety (I : nf_I) (kp : Nat) (id wd : Int32) : Int64 := if ys_mem I id = false then 4294967296 else if 0 ≤ ys_eat I kp id wd then (I 29 0 (ys_eat I kp id wd).toNatClampNeg).toInt64 else 4294967296
def ys_en (I : nf_I) (id : Int32) : Nat → Nat → Int32 → Int32
  | 0, _, k => k
  | n + 1, j, k => ys_en I id n (j + 1) (if I 27 0 j = id then k + 1 else k)
def ys_ens (I : nf_I) (kp : Nat) (id : Int32) : Int32 := if ys_mem I id = false then -1 else ys_en I id kp 0 0
def ys_ans (J : nf_J) (id : Int32) : Int64 := if ys_isId id = false then 8589934592 else J 25 0 id.toNatClampNeg
def ys_hps (I : nf_I) (id : Int32) : Int32 := if ys_isId id = false then -1 else if I 21 0 id.toNatClampNeg ≤ 0 then -1 else I 26 0 id.toNatClampNeg
def ys_own (I : nf_I) (wd : Int32) : Int32 := if ys_isId wd = false then -1 else ys_first I wd 1
def ys_w1 (I : nf_I) (d : Nat) (k : Int32) : Int32 := if I 22 0 d = ys_first I (nI d + 1) 1 then k else k + 1
def ys_w2 (I : nf_I) (d : Nat) (k : Int32) : Int32 := if I 23 0 d = ys_first I (nI d + 255) (-1) then k else k + 1
def ys_wf (I : nf_I) (d : Nat) : Nat → Nat → Int32 → Int32
  | 0, _, k => k
  | n + 1, j, k => ys_wf I d n (j + 1) (if I 24 0 (8 * d + j) = ys_first I (nI d + (1 <<< (nI j &&& 31))) 1 then k else k + 1)
def ys_wr (I : nf_I) : Nat → Nat → Int32 → Int32
  | 0, _, k => k
  | n + 1, d, k => ys_wr I n (d + 1) (if I 21 0 d = 2 then ys_wf I d 8 0 (ys_w2 I d (ys_w1 I d k)) else k)
def ys_mp (I : nf_I) : Nat → Nat → Int32 → Int32
  | 0, _, k => k
  | n + 1, j, k => ys_mp I n (j + 1) (if ys_first I (I 28 0 j) 1 = I 27 0 j then k else k + 1)
def ys_crB (I : nf_I) (id : Int32) : Bool := if ys_isId id = false then false else if I 20 0 0 ≤ 0 then true else false
def ys_crI (I : nf_I) (id : Int32) : nf_I := if ys_isId id = false then I else if I 20 0 0 ≤ 0 then nf_iu (nf_iu (nf_iu I 20 0 0 1) 21 0 id.toNatClampNeg 2) 22 0 id.toNatClampNeg id else I
def ys_jnB (I : nf_I) (id via : Int32) : Bool := if ys_isId id = false then false else if I 21 0 id.toNatClampNeg = 0 then (if ys_mem I via = false then false else if 12 ≤ I 20 0 0 then false else if I 20 0 13 < 20 then true else false) else false
def ys_jn0 (I : nf_I) (id : Int32) : nf_I := nf_iu (nf_iu I 20 0 0 (I 20 0 0 + 1)) 21 0 id.toNatClampNeg 1
def ys_jnI (I : nf_I) (rwn : Nat) (id via : Int32) : nf_I := if ys_jnB I id via = false then I else nf_iu (ys_ask (ys_jn0 I id) rwn via id 0 0) 36 0 rwn id
def ys_jnJ (I : nf_I) (J : nf_J) (rwn : Nat) (id via : Int32) : nf_J := if ys_jnB I id via = false then J else ys_askJ J rwn 0
def ys_full (I : nf_I) : Bool := if I 20 0 13 < 20 then false else true
def ys_stB (I : nf_I) (id : Int32) : Bool := if ys_mem I id = false then false else if I 20 0 13 < 20 then true else false
def ys_stI (I : nf_I) (rwn : Nat) (id : Int32) : nf_I := if ys_stB I id = false then I else ys_po I rwn 6 (I 22 0 id.toNatClampNeg) 0 id
def ys_stJ (I : nf_I) (J : nf_J) (rwn : Nat) (id : Int32) : nf_J := if ys_stB I id = false then J else ys_poJ J rwn
def ys_fxB (I : nf_I) (id j : Int32) : Bool := if ys_mem I id = false then false else if j < 0 then false else if 7 < j then false else if I 20 0 13 < 20 then true else false
def ys_fxI (I : nf_I) (rwn : Nat) (id j : Int32) : nf_I := if ys_fxB I id j = false then I else ys_ask I rwn id (id + (1 <<< (j &&& 31))) 1 j
def ys_fxJ (I : nf_I) (J : nf_J) (rwn : Nat) (id j : Int32) : nf_J := if ys_fxB I id j = false then J else ys_askJ J rwn 0
def ys_gtB (I : nf_I) (id wd : Int32) : Bool := if ys_mem I id = false then false else if ys_isId wd = false then false else if I 20 0 13 < 20 then true else false
def ys_gtI (I : nf_I) (rwn : Nat) (id wd : Int32) : nf_I := if ys_gtB I id wd = false then I else ys_ask I rwn id wd 3 0
def ys_gtJ (I : nf_I) (J : nf_J) (rwn : Nat) (id wd : Int32) : nf_J := if ys_gtB I id wd = false then J else ys_askJ J rwn 0
def ys_old (I : nf_I) (wd : Int32) : Nat → Nat → Int32 → Int32
  | 0, _, o => o
  | n + 1, j, o => ys_old I wd n (j + 1) (if o = 0 then (if I 30 0 j = wd then 1 else 0) else 1)
def ys_ptB (I : nf_I) (kc : Nat) (id wd : Int32) : Bool := if ys_gtB I id wd = false then false else if ys_old I wd kc 0 0 = 0 then (if I 20 0 11 < 10 then true else false) else true
def ys_pt0 (I : nf_I) (kc : Nat) (wd : Int32) : nf_I := nf_iu (nf_iu I 30 0 kc wd) 20 0 11 (nf_iu I 30 0 kc wd 20 0 11 + 1)
def ys_ptI (I : nf_I) (kc rwn : Nat) (id wd : Int32) : nf_I := if ys_ptB I kc id wd = false then I else if ys_old I wd kc 0 0 = 0 then ys_ask (ys_pt0 I kc wd) rwn id wd 2 0 else ys_ask I rwn id wd 2 0
def ys_ptJ (I : nf_I) (J : nf_J) (kc rwn : Nat) (id wd v : Int32) : nf_J := if ys_ptB I kc id wd = false then J else ys_askJ J rwn v.toInt64
