/-! The class's memory by names, and what each of its methods answers and changes, as functions. -/
abbrev xT (cs : Nat → ClassId) : List (ClassId × FieldType) := [(cs 0, .int), (cs 1, .long), (cs 2, .object "FingerOverlay$Node"), (cs 3, .object "FingerOverlay$Message")]
/-- kinds: 0 the overlay, 1 its nodes, 2 its keys, 3 the row, 4 its messages, 5 a node, 6 its fingers, 7 its values, 8 a message; 20 the model, 21 tz 38 its arrays -/
def xS (cs : Nat → ClassId) (nn : Nat) : nf_H := fun k i => match k with
  | 0 => if i = 0 then some (.inl (3, [(2, 1), (0, 0), (2, 2), (0, 0), (2, 3)])) else none
  | 1 => if i = 0 then some (.inr (cs 2, 12, 2)) else none
  | 2 => if i = 0 then some (.inr (cs 0, 10, 0)) else none
  | 3 => if i = 0 then some (.inl (2, [(2, 4), (0, 0)])) else none
  | 4 => if i = 0 then some (.inr (cs 3, 21, 2)) else none
  | 5 => if i < nn then some (.inl (1, [(0, 0), (0, 0), (0, 0), (2, 6), (2, 7), (1, 0), (0, 0)])) else none
  | 6 => if i < nn then some (.inr (cs 0, 8, 0)) else none
  | 7 => if i < nn then some (.inr (cs 1, 10, 1)) else none
  | 8 => if i < 21 then some (.inl (0, [(0, 0), (0, 0), (0, 0), (0, 0), (0, 0), (0, 0), (0, 0), (0, 0), (1, 0)])) else none
  | 20 => if i = 0 then some (.inl (4, [(0, 0), (2, 21), (2, 22), (2, 23), (2, 24), (2, 25), (2, 26), (0, 0), (2, 27), (2, 28), (2, 29), (0, 0), (2, 30), (0, 0), (2, 31), (2, 32), (2, 33), (2, 34), (2, 35), (2, 36), (2, 37), (2, 38)])) else none
  | 21 => if i = 0 then some (.inr (cs 0, 256, 0)) else none
  | 22 => if i = 0 then some (.inr (cs 0, 256, 0)) else none
  | 23 => if i = 0 then some (.inr (cs 0, 256, 0)) else none
  | 24 => if i = 0 then some (.inr (cs 0, 2048, 0)) else none
  | 25 => if i = 0 then some (.inr (cs 1, 256, 1)) else none
  | 26 => if i = 0 then some (.inr (cs 0, 256, 0)) else none
  | 27 => if i = 0 then some (.inr (cs 0, 120, 0)) else none
  | 28 => if i = 0 then some (.inr (cs 0, 120, 0)) else none
  | 29 => if i = 0 then some (.inr (cs 0, 120, 0)) else none
  | 30 => if i = 0 then some (.inr (cs 0, 10, 0)) else none
  | 31 => if i = 0 then some (.inr (cs 0, 21, 0)) else none
  | 32 => if i = 0 then some (.inr (cs 0, 21, 0)) else none
  | 33 => if i = 0 then some (.inr (cs 0, 21, 0)) else none
  | 34 => if i = 0 then some (.inr (cs 0, 21, 0)) else none
  | 35 => if i = 0 then some (.inr (cs 0, 21, 0)) else none
  | 36 => if i = 0 then some (.inr (cs 0, 21, 0)) else none
  | 37 => if i = 0 then some (.inr (cs 0, 21, 0)) else none
  | 38 => if i = 0 then some (.inr (cs 1, 21, 1)) else none
  | _ => none
def xP (nn : Nat) (mp : Nat → Nat) : nf_P := fun k i j => if k = 1 ∧ i = 0 ∧ j < nn then some (5, j) else if k = 4 ∧ i = 0 ∧ j < 21 then some (8, mp j) else none
theorem xP_1 {nn : Nat} {mp : Nat → Nat} {j : Nat} (h : j < nn) : xP nn mp 1 0 j = some (5, j) := by simp [xP, h]
theorem xP_4 {nn : Nat} {mp : Nat → Nat} {j : Nat} (h : j < 21) : xP nn mp 4 0 j = some (8, mp j) := by simp [xP, h]
theorem xP_put {nn : Nat} {mp : Nat → Nat} {j o : Nat} (h : j < 21) : nf_pu (xP nn mp) 4 0 j (some (8, o)) = xP nn (va_up mp j o) := by
  funext a b c
  simp only [nf_pu, xP, va_up]
  by_cases h1 : a = 4 ∧ b = 0 ∧ c = j
  · obtain ⟨rfl, rfl, rfl⟩ := h1
    simp [h]
  · rw [if_neg h1]
    by_cases h2 : a = 1 ∧ b = 0 ∧ c < nn
    · rw [if_pos h2, if_pos h2]
    · rw [if_neg h2, if_neg h2]
      by_cases h3 : a = 4 ∧ b = 0 ∧ c < 21
      · rw [if_pos h3, if_pos h3, if_neg (fun hc => h1 ⟨h3.1, h3.2.1, hc⟩)]
      · rw [if_neg h3, if_neg h3]
theorem xP_add {nn : Nat} {mp : Nat → Nat} : nf_pu (xP nn mp) 1 0 nn (some (5, nn)) = xP (nn + 1) mp := by
  funext a b c
  simp only [nf_pu, xP]
  by_cases h1 : a = 1 ∧ b = 0 ∧ c = nn
  · obtain ⟨rfl, rfl, rfl⟩ := h1
    simp
  · rw [if_neg h1]
    by_cases h2 : a = 1 ∧ b = 0 ∧ c < nn
    · rw [if_pos h2, if_pos ⟨h2.1, h2.2.1, by omega⟩]
    · have h3 : ¬ (a = 1 ∧ b = 0 ∧ c < nn + 1) := by omega
      rw [if_neg h2, if_neg h3]
section XShapes
variable {cs : Nat → ClassId} {nn i : Nat}
theorem xS_5 (h : i < nn) : xS cs nn 5 i = some (.inl (1, [(0, 0), (0, 0), (0, 0), (2, 6), (2, 7), (1, 0), (0, 0)])) := if_pos h
theorem xS_6 (h : i < nn) : xS cs nn 6 i = some (.inr (cs 0, 8, 0)) := if_pos h
theorem xS_7 (h : i < nn) : xS cs nn 7 i = some (.inr (cs 1, 10, 1)) := if_pos h
theorem xS_8 (h : i < 21) : xS cs nn 8 i = some (.inl (0, [(0, 0), (0, 0), (0, 0), (0, 0), (0, 0), (0, 0), (0, 0), (0, 0), (1, 0)])) := if_pos h
end XShapes
/-! static helpers -/
def xs_isId (x : Int32) : Bool := if x < 0 then false else if 256 ≤ x then false else true
def xs_isFinger (j : Int32) : Bool := if j < 0 then false else if 8 ≤ j then false else true
def xs_fst (id j : Int32) : Int32 := (id + (1 <<< (j &&& 31))) &&& 255
def xs_up (a b : Int32) : Int32 := ((b - a - 1) &&& 255) + 1
def xs_pst (a b id : Int32) : Bool := if xs_up a b < xs_up a id then false else true
def xs_btw (a b id : Int32) : Bool := if xs_up a b ≤ xs_up a id then false else true
/-! nodes -/
def xs_mem (I : nf_I) (i : Nat) : Bool := if I 5 i 1 = -1 then false else true
def xs_nix (I : nf_I) (id : Int32) : Nat → Nat → Option Nat
  | 0, _ => none
  | n + 1, j => if I 5 j 0 = id then some j else xs_nix I id n (j + 1)
theorem xs_nix_lt {I : nf_I} {id : Int32} : ∀ {n j i : Nat}, xs_nix I id n j = some i → j ≤ i ∧ i < n + j ∧ I 5 i 0 = id
  | 0, j, i, h => by cases h
  | n + 1, j, i, h => by
    unfold xs_nix at h
    by_cases hc : I 5 j 0 = id
    · rw [if_pos hc] at h
      cases h
      exact ⟨Nat.le_refl _, by omega, hc⟩
    · rw [if_neg hc] at h
      obtain ⟨h1, h2, h3⟩ := xs_nix_lt h
      exact ⟨by omega, by omega, h3⟩
def xs_node (I : nf_I) (nn : Nat) (id : Int32) : Option Nat := xs_nix I id nn 0
theorem xs_node_lt {I : nf_I} {nn i : Nat} {id : Int32} (h : xs_node I nn id = some i) : i < nn := by
  have := (xs_nix_lt h).2.1
  omega
def xs_memb (I : nf_I) (nn : Nat) (id : Int32) : Option Nat := match xs_node I nn id with
  | none => none
  | some i => if xs_mem I i = false then none else some i
theorem xs_memb_lt {I : nf_I} {nn i : Nat} {id : Int32} (h : xs_memb I nn id = some i) : i < nn := by
  unfold xs_memb at h
  cases hn : xs_node I nn id with
  | none =>
    rw [hn] at h
    cases h
  | some j =>
    rw [hn] at h
    simp only at h
    split at h
    · cases h
    · cases h
      exact xs_node_lt hn
def xs_fu (I : nf_I) (st : Int32) : Nat → Nat → Int32 → Int32
  | 0, _, f => f
  | n + 1, j, f => xs_fu I st n (j + 1) (if xs_mem I j = false then f else if f = -1 then I 5 j 0 else if xs_up (st - 1) f ≤ xs_up (st - 1) (I 5 j 0) then f else I 5 j 0)
def xs_fd (I : nf_I) (st : Int32) : Nat → Nat → Int32 → Int32
  | 0, _, f => f
  | n + 1, j, f => xs_fd I st n (j + 1) (if xs_mem I j = false then f else if f = -1 then I 5 j 0 else if xs_up f (st + 1) ≤ xs_up (I 5 j 0) (st + 1) then f else I 5 j 0)
def xs_wf (I : nf_I) (nn i : Nat) : Nat → Nat → Int32 → Int32
  | 0, _, k => k
  | n + 1, j, k => xs_wf I nn i n (j + 1) (if I 6 i j = xs_fu I (xs_fst (I 5 i 0) (nI j)) nn 0 (-1) then k else k + 1)
def xs_wp (I : nf_I) (nn i : Nat) : Int32 :=
  let a : Int32 := if I 5 i 1 = xs_fu I (I 5 i 0 + 1) nn 0 (-1) then 0 else 0 + 1
  xs_wf I nn i 8 0 (if I 5 i 2 = xs_fd I (I 5 i 0 - 1) nn 0 (-1) then a else a + 1)
def xs_wr (I : nf_I) (nn : Nat) : Nat → Nat → Int32 → Int32
  | 0, _, k => k
  | n + 1, j, k => xs_wr I nn n (j + 1) (if xs_mem I j = false then k else k + xs_wp I nn j)
/-! keys -/
def xs_slx (I : nf_I) (key : Int32) : Nat → Nat → Int32
  | 0, _ => -1
  | n + 1, j => if I 2 0 j = key then nI j else xs_slx I key n (j + 1)
def xs_slot (I : nf_I) (kc : Nat) (key : Int32) : Int32 := xs_slx I key kc 0
theorem xs_slx_c {I : nf_I} {key : Int32} : ∀ {n j : Nat}, xs_slx I key n j = -1 ∨ ∃ i, j ≤ i ∧ i < n + j ∧ xs_slx I key n j = nI i ∧ I 2 0 i = key
  | 0, j => Or.inl rfl
  | n + 1, j => by
    unfold xs_slx
    by_cases hc : I 2 0 j = key
    · exact Or.inr ⟨j, Nat.le_refl _, by omega, by rw [if_pos hc], hc⟩
    · rw [if_neg hc]
      rcases xs_slx_c (n := n) (j := j + 1) with h | ⟨i, h1, h2, h3, h4⟩
      · exact Or.inl h
      · exact Or.inr ⟨i, by omega, by omega, h3, h4⟩
theorem xs_slot_c (I : nf_I) (kc : Nat) (key : Int32) : xs_slot I kc key = -1 ∨ ∃ i, i < kc ∧ xs_slot I kc key = nI i ∧ I 2 0 i = key := by
  rcases xs_slx_c (I := I) (key := key) (n := kc) (j := 0) with h | ⟨i, h1, h2, h3, h4⟩
  · exact Or.inl h
  · exact Or.inr ⟨i, by omega, h3, h4⟩
def xs_val (I : nf_I) (J : nf_J) (kc i : Nat) (key : Int32) : Int64 := if xs_slot I kc key = -1 then 4294967296 else J 7 i (xs_slot I kc key).toNatClampNeg
def xs_ent (J : nf_J) (i : Nat) : Nat → Nat → Int32 → Int32
  | 0, _, k => k
  | n + 1, j, k => xs_ent J i n (j + 1) (if lg_cmp (J 7 i j) 4294967296 = 0 then k else k + 1)
def xs_ens (I : nf_I) (J : nf_J) (nn : Nat) (id : Int32) : Int32 := match xs_memb I nn id with
  | none => -1
  | some i => xs_ent J i 10 0 0
def xs_mi (I : nf_I) (J : nf_J) (slot : Nat) (f : Int32) : Nat → Nat → Int32 → Int32
  | 0, _, k => k
  | n + 1, j, k => xs_mi I J slot f n (j + 1) (if lg_cmp (J 7 j slot) 4294967296 = 0 then k else if I 5 j 0 = f then k else k + 1)
def xs_mo (I : nf_I) (J : nf_J) (nn : Nat) : Nat → Nat → Int32 → Int32
  | 0, _, k => k
  | n + 1, j, k => xs_mo I J nn n (j + 1) (xs_mi I J j (xs_fu I (I 2 0 j) nn 0 (-1)) nn 0 k)
/-! the row -/
def xs_full (I : nf_I) : Bool := if I 3 0 1 < 20 then false else true
def xs_sI (I : nf_I) (o : Nat) (kind tz : Int32) : nf_I := nf_iu (nf_iu (nf_iu (nf_iu (nf_iu (nf_iu (nf_iu (nf_iu (nf_iu I 3 0 1 (I 3 0 1 + 1)) 8 o 0 kind) 8 o 1 tz) 8 o 2 (-1)) 8 o 3 0) 8 o 4 (-1)) 8 o 5 (-1)) 8 o 6 (-1)) 8 o 7 0
def xs_sJ (J : nf_J) (o : Nat) : nf_J := nf_ju J 8 o 8 0
def xs_fI (I : nf_I) (o : Nat) (tz asker purpose key : Int32) : nf_I := nf_iu (nf_iu (nf_iu (xs_sI I o 1 tz) 8 o 2 asker) 8 o 3 purpose) 8 o 4 key
def xs_at (I : nf_I) (mp : Nat → Nat) (k : Int32) : Option Nat := if k < 0 then none else if I 3 0 1 ≤ k then none else some (mp k.toNatClampNeg)
def xs_sh (mp : Nat → Nat) (k j : Nat) : Nat → Nat := fun c => if k ≤ c ∧ c < j then mp (c + 1) else mp c
theorem xs_sh_0 (mp : Nat → Nat) (k : Nat) : xs_sh mp k k = mp := by
  funext c
  unfold xs_sh
  rw [if_neg (by omega)]
theorem xs_sh_s (mp : Nat → Nat) {k j : Nat} (h : k ≤ j) : va_up (xs_sh mp k j) j (xs_sh mp k j (j + 1)) = xs_sh mp k (j + 1) := by
  funext c
  unfold va_up xs_sh
  by_cases hc : c = j
  · subst hc
    rw [if_pos rfl, if_neg (by omega), if_pos (by omega)]
  · rw [if_neg hc]
    by_cases h1 : k ≤ c ∧ c < j
    · rw [if_pos h1, if_pos (by omega)]
    · rw [if_neg h1, if_neg (by omega)]
theorem xs_sh_lt {mp : Nat → Nat} (hmp : ∀ j, j < 21 → mp j < 21) {k j c : Nat} (hj : j ≤ 20) (hc : c < 21) : xs_sh mp k j c < 21 := by
  unfold xs_sh
  by_cases h : k ≤ c ∧ c < j
  · rw [if_pos h]
    exact hmp _ (by omega)
  · rw [if_neg h]
    exact hmp _ hc
def xs_tk (mp : Nat → Nat) (k : Nat) : Nat → Nat := va_up (xs_sh mp k 20) 20 (mp k)
def xs_toI (I : nf_I) (mp : Nat → Nat) (k : Int32) : nf_I := match xs_at I mp k with
  | none => I
  | some _ => nf_iu I 3 0 1 (I 3 0 1 - 1)
def xs_toM (I : nf_I) (mp : Nat → Nat) (k : Int32) : Nat → Nat := match xs_at I mp k with
  | none => mp
  | some _ => xs_tk mp k.toNatClampNeg
def xs_tkB (I : nf_I) (kc : Nat) (key : Int32) : Bool := if xs_slot I kc key = -1 then (if I 0 0 3 < 10 then true else false) else true
def xs_tkI (I : nf_I) (kc : Nat) (key : Int32) : nf_I := if xs_slot I kc key = -1 then (if I 0 0 3 < 10 then nf_iu (nf_iu I 2 0 kc key) 0 0 3 (nf_iu I 2 0 kc key 0 0 3 + 1) else I) else I
/-! numbers -/
theorem nk_ix {x : Int32} {n : Nat} (h0 : ¬ x < 0) (h : ¬ nI n ≤ x) (hn : n < 2 ^ 31) : ∃ j : Nat, j < n ∧ x = nI j := by
  rcases pk_ix x hn with h1 | h1 | h1
  · exact absurd h1 h0
  · exact absurd h1 h
  · exact h1
theorem nk_lt {x : Int32} {a b : Nat} (hx : x = nI a) (h : x < nI b) (ha : a < 2 ^ 31) (hb : b < 2 ^ 31) : a < b := (nI_ltI ha hb).mp (by rw [← hx]; exact h)
theorem nk_ge {x : Int32} {a b : Nat} (hx : x = nI a) (h : nI b ≤ x) (ha : a < 2 ^ 31) (hb : b < 2 ^ 31) : b ≤ a := (nI_leI hb ha).mp (by rw [← hx]; exact h)
theorem nk_nge {x : Int32} {a b : Nat} (hx : x = nI a) (h : a < b) (hb : b < 2 ^ 31) : ¬ nI b ≤ x := by
  rw [hx]
  exact fun z => absurd ((nI_leI hb (by omega)).mp z) (by omega)
theorem xs_at_ix {I : nf_I} {mp : Nat → Nat} {k : Int32} {sz o : Nat} (hs : I 3 0 1 = nI sz) (hsz : sz < 2 ^ 31) (h : xs_at I mp k = some o) : ∃ kn, kn < sz ∧ k = nI kn ∧ mp kn = o := by
  unfold xs_at at h
  split at h
  · cases h
  next h1 =>
    split at h
    · cases h
    next h2 =>
      obtain ⟨kn, hkn, hke⟩ := nk_ix (n := sz) h1 (by rw [← hs]; exact h2) hsz
      refine ⟨kn, hkn, hke, ?_⟩
      rw [hke, nI_clamp (by omega)] at h
      exact Option.some.inj h
theorem xs_at_lt {I : nf_I} {mp : Nat → Nat} {k : Int32} {sz o : Nat} (hs : I 3 0 1 = nI sz) (hsz : sz ≤ 20) (hmp : ∀ j, j < 21 → mp j < 21) (h : xs_at I mp k = some o) : o < 21 := by
  obtain ⟨kn, h1, -, h3⟩ := xs_at_ix hs (by omega) h
  rw [← h3]
  exact hmp _ (by omega)
/-! arrivals -/
def xs_pd : Nat → Int32
  | 0 => -1
  | q + 1 => nI q
theorem xs_pd_dec (q : Nat) : nI q + Int32.ofInt (-1) = xs_pd q := by
  cases q with
  | zero => decide +kernel
  | succ q => exact pk_m1 q
def xs_nt (I : nf_I) (i : Nat) (key : Int32) : Nat → Int32
  | 0 => I 5 i 1
  | n + 1 => if I 6 i n = -1 then xs_nt I i key n else if xs_btw (I 5 i 0) key (I 6 i n) = false then xs_nt I i key n else I 6 i n
def xs_poI (I : nf_I) (i o onw : Nat) : nf_I :=
  let A := xs_fI I onw (xs_nt I i (I 8 o 4) 8) (I 8 o 2) (I 8 o 3) (I 8 o 4)
  let B := nf_iu A 8 onw 5 (A 8 o 5)
  nf_iu B 8 onw 7 (B 8 o 7 + 1)
def xs_poJ (J : nf_J) (o onw : Nat) : nf_J := nf_ju (xs_sJ J onw) 8 onw 8 (xs_sJ J onw 8 o 8)
def xs_f3 (I : nf_I) (i o onw : Nat) : nf_I :=
  let A := xs_sI I onw 3 (I 5 i 1)
  nf_iu A 8 onw 4 (A 8 o 4)
def xs_f4 (I : nf_I) (i o onw : Nat) : nf_I :=
  let A := xs_sI I onw 4 (I 5 i 1)
  let B := nf_iu A 8 onw 4 (A 8 o 4)
  let C := nf_iu B 8 onw 2 (B 8 o 2)
  nf_iu C 8 onw 7 (C 8 o 7)
def xs_f2 (I : nf_I) (i o onw : Nat) : nf_I :=
  let A := xs_sI I onw 2 (I 8 o 2)
  let B := nf_iu A 8 onw 3 (A 8 o 3)
  let C := nf_iu B 8 onw 5 (B 8 o 5)
  let E := nf_iu C 8 onw 6 (C 5 i 1)
  nf_iu E 8 onw 7 (E 8 o 7)
def xs_fiI (I : nf_I) (i o onw : Nat) : nf_I := if xs_pst (I 5 i 0) (I 5 i 1) (I 8 o 4) = false then xs_poI I i o onw else if I 8 o 3 = 3 then xs_f3 I i o onw else if I 8 o 3 = 4 then xs_f4 I i o onw else xs_f2 I i o onw
def xs_fiJ (I : nf_I) (J : nf_J) (i o onw : Nat) : nf_J := if xs_pst (I 5 i 0) (I 5 i 1) (I 8 o 4) = false then xs_poJ J o onw else if I 8 o 3 = 3 then xs_poJ J o onw else xs_sJ J onw
def xs_fo1 (I : nf_I) (i o : Nat) : nf_I := if I 8 o 3 = 1 then nf_iu I 5 i 1 (I 8 o 6) else if xs_isFinger (I 8 o 5) = false then I else nf_iu I 6 i (I 8 o 5).toNatClampNeg (I 8 o 6)
def xs_foI (I : nf_I) (i o : Nat) : nf_I := nf_iu (xs_fo1 I i o) 5 i 6 (xs_fo1 I i o 8 o 7)
theorem xs_isFinger_ix {x : Int32} (h : xs_isFinger x = true) : ∃ n, n < 8 ∧ x = nI n := by
  unfold xs_isFinger at h
  split at h
  · cases h
  next h1 =>
    split at h
    · cases h
    next h2 => exact nk_ix (n := 8) h1 h2 (by decide)
def xs_stJ (I : nf_I) (J : nf_J) (kc i o : Nat) : nf_J := if xs_slot I kc (I 8 o 4) = -1 then J else nf_ju J 7 i (xs_slot I kc (I 8 o 4)).toNatClampNeg (J 8 o 8)
def xs_feI (I : nf_I) (o onw : Nat) : nf_I := nf_iu (xs_sI I onw 5 (I 8 o 2)) 8 onw 7 (xs_sI I onw 5 (I 8 o 2) 8 o 7)
def xs_feJ (I : nf_I) (J : nf_J) (kc i o onw : Nat) : nf_J := nf_ju (xs_sJ J onw) 8 onw 8 (xs_val (xs_sI I onw 5 (I 8 o 2)) (xs_sJ J onw) kc i (xs_sI I onw 5 (I 8 o 2) 8 o 4))
def xs_asI (I : nf_I) (i o onw : Nat) : nf_I := nf_iu (xs_sI I onw 7 (I 8 o 6)) 8 onw 6 (xs_sI I onw 7 (I 8 o 6) 5 i 2)
def xs_teS (I : nf_I) (i o : Nat) : nf_I := if I 8 o 6 = -1 then I else if xs_btw (I 5 i 0) (I 5 i 1) (I 8 o 6) = false then I else nf_iu I 5 i 1 (I 8 o 6)
def xs_teI (I : nf_I) (i o onw : Nat) : nf_I := nf_iu (xs_sI (xs_teS I i o) onw 8 (xs_teS I i o 5 i 1)) 8 onw 6 (xs_sI (xs_teS I i o) onw 8 (xs_teS I i o 5 i 1) 5 i 0)
def xs_hoJ (I : nf_I) (i b : Nat) : Nat → Nat → nf_J → nf_J
  | 0, _, J => J
  | n + 1, j, J => xs_hoJ I i b n (j + 1) (if lg_cmp (J 7 i j) 4294967296 = 0 then J else if xs_pst (I 5 b 0) (I 5 i 0) (I 2 0 j) = true then J else nf_ju (nf_ju J 7 b j (J 7 i j)) 7 i j 4294967296)
def xs_noB (I : nf_I) (i o : Nat) : Bool := if I 5 i 2 = -1 then true else xs_btw (I 5 i 2) (I 5 i 0) (I 8 o 6)
def xs_noI (I : nf_I) (i o : Nat) : nf_I := if I 5 i 2 = -1 then nf_iu I 5 i 2 (I 8 o 6) else if xs_btw (I 5 i 2) (I 5 i 0) (I 8 o 6) = false then I else nf_iu I 5 i 2 (I 8 o 6)
def xs_no1 (I : nf_I) (J : nf_J) (nn kc i o : Nat) : nf_J := match xs_node (nf_iu I 5 i 2 (I 8 o 6)) nn (nf_iu I 5 i 2 (I 8 o 6) 8 o 6) with
  | none => J
  | some b => xs_hoJ (nf_iu I 5 i 2 (I 8 o 6)) i b kc 0 J
def xs_noJ (I : nf_I) (J : nf_J) (nn kc i o : Nat) : nf_J := if I 5 i 2 = -1 then xs_no1 I J nn kc i o else if xs_btw (I 5 i 2) (I 5 i 0) (I 8 o 6) = false then J else xs_no1 I J nn kc i o
/-! arrive -/
theorem xs_tk_lt {mp : Nat → Nat} (hmp : ∀ j, j < 21 → mp j < 21) {k : Nat} (hk : k < 21) : ∀ j, j < 21 → xs_tk mp k j < 21 := by
  intro j hj
  unfold xs_tk va_up
  by_cases h : j = 20
  · rw [if_pos h]
    exact hmp _ hk
  · rw [if_neg h]
    exact xs_sh_lt hmp (Nat.le_refl _) hj
def xs_szn (I : nf_I) : Nat := (I 3 0 1).toNatClampNeg
def xs_aI (I : nf_I) (i o onw : Nat) : nf_I := if I 8 o 0 = 1 then xs_fiI I i o onw else if I 8 o 0 = 2 then xs_foI I i o else if I 8 o 0 = 3 then I else if I 8 o 0 = 4 then xs_feI I o onw else if I 8 o 0 = 5 then nf_iu I 5 i 6 (I 8 o 7) else if I 8 o 0 = 6 then xs_asI I i o onw else if I 8 o 0 = 7 then xs_teI I i o onw else xs_noI I i o
def xs_aJ (I : nf_I) (J : nf_J) (nn kc i o onw : Nat) : nf_J := if I 8 o 0 = 1 then xs_fiJ I J i o onw else if I 8 o 0 = 2 then J else if I 8 o 0 = 3 then xs_stJ I J kc i o else if I 8 o 0 = 4 then xs_feJ I J kc i o onw else if I 8 o 0 = 5 then nf_ju J 5 i 5 (J 8 o 8) else if I 8 o 0 = 6 then xs_sJ J onw else if I 8 o 0 = 7 then xs_sJ J onw else xs_noJ I J nn kc i o
def xs_arr (I : nf_I) (J : nf_J) (mp : Nat → Nat) (nn kc : Nat) (k : Int32) : Int32 × nf_I × nf_J × (Nat → Nat) := match xs_at I mp k with
  | none => (-1, I, J, mp)
  | some o => match xs_node (nf_iu I 3 0 1 (I 3 0 1 - 1)) nn (nf_iu I 3 0 1 (I 3 0 1 - 1) 8 o 1) with
    | none => (nf_iu I 3 0 1 (I 3 0 1 - 1) 8 o 0, nf_iu I 3 0 1 (I 3 0 1 - 1), J, xs_tk mp k.toNatClampNeg)
    | some i => (xs_aI (nf_iu I 3 0 1 (I 3 0 1 - 1)) i o (xs_tk mp k.toNatClampNeg (xs_szn (nf_iu I 3 0 1 (I 3 0 1 - 1)))) 8 o 0, xs_aI (nf_iu I 3 0 1 (I 3 0 1 - 1)) i o (xs_tk mp k.toNatClampNeg (xs_szn (nf_iu I 3 0 1 (I 3 0 1 - 1)))), xs_aJ (nf_iu I 3 0 1 (I 3 0 1 - 1)) J nn kc i o (xs_tk mp k.toNatClampNeg (xs_szn (nf_iu I 3 0 1 (I 3 0 1 - 1)))), xs_tk mp k.toNatClampNeg)
theorem xs_arr_n {I I1 : nf_I} {J : nf_J} {mp M1 : Nat → Nat} {nn kc o : Nat} {k : Int32} (h1 : xs_at I mp k = some o) (hI : I1 = nf_iu I 3 0 1 (I 3 0 1 - 1)) (hM : M1 = xs_tk mp k.toNatClampNeg) (h2 : xs_node I1 nn (I1 8 o 1) = none) : xs_arr I J mp nn kc k = (I1 8 o 0, I1, J, M1) := by
  subst hI hM
  unfold xs_arr
  rw [h1]
  simp only
  rw [h2]
theorem xs_arr_s {I I1 : nf_I} {J : nf_J} {mp M1 : Nat → Nat} {nn kc o i q : Nat} {k : Int32} (h1 : xs_at I mp k = some o) (hI : I1 = nf_iu I 3 0 1 (I 3 0 1 - 1)) (hM : M1 = xs_tk mp k.toNatClampNeg) (h2 : xs_node I1 nn (I1 8 o 1) = some i) (hs : I1 3 0 1 = nI q) (hq : q < 2 ^ 31) : xs_arr I J mp nn kc k = (xs_aI I1 i o (M1 q) 8 o 0, xs_aI I1 i o (M1 q), xs_aJ I1 J nn kc i o (M1 q), M1) := by
  have e : xs_szn I1 = q := by unfold xs_szn; rw [hs, nI_clamp hq]
  subst hI hM
  unfold xs_arr
  rw [h1]
  simp only
  rw [h2, e]
theorem nk_sw7 (x : Int32) : x = 1 ∨ x = 2 ∨ x = 3 ∨ x = 4 ∨ x = 5 ∨ x = 6 ∨ x = 7 ∨ ((x.toInt < 1 ∨ 7 < x.toInt) ∧ ¬ x = 1 ∧ ¬ x = 2 ∧ ¬ x = 3 ∧ ¬ x = 4 ∧ ¬ x = 5 ∧ ¬ x = 6 ∧ ¬ x = 7) := by
  have k : ∀ n : Nat, n < 8 → x.toInt = (n : Int) → x = nI n := fun n hn h => Int32.toInt_inj.mp (by rw [h, nI_toInt (by omega)])
  by_cases h : x.toInt < 1 ∨ 7 < x.toInt
  · right; right; right; right; right; right; right
    refine ⟨h, ?_, ?_, ?_, ?_, ?_, ?_, ?_⟩ <;> (intro e; rw [e] at h; revert h; decide +kernel)
  · obtain ⟨n, hn⟩ : ∃ n : Nat, x.toInt = (n : Int) := ⟨x.toInt.toNat, by omega⟩
    have hx := k n (by omega) hn
    rcases (show n = 1 ∨ n = 2 ∨ n = 3 ∨ n = 4 ∨ n = 5 ∨ n = 6 ∨ n = 7 by omega) with rfl | rfl | rfl | rfl | rfl | rfl | rfl
    · exact Or.inl hx
    · exact Or.inr (Or.inl hx)
    · exact Or.inr (Or.inr (Or.inl hx))
    · exact Or.inr (Or.inr (Or.inr (Or.inl hx)))
    · exact Or.inr (Or.inr (Or.inr (Or.inr (Or.inl hx))))
    · exact Or.inr (Or.inr (Or.inr (Or.inr (Or.inr (Or.inl hx)))))
    · exact Or.inr (Or.inr (Or.inr (Or.inr (Or.inr (Or.inr (Or.inl hx))))))
/-! calls -/
def xs_msg (I : nf_I) (mp : Nat → Nat) (k : Int32) : Int32 := match xs_at I mp k with
  | none => -1
  | some o => I 8 o 0 * 256 + I 8 o 1
def xs_rd (I : nf_I) (nn : Nat) (id : Int32) (f : Nat) : Int32 := match xs_memb I nn id with
  | none => -1
  | some i => I 5 i f
def xs_fgr (I : nf_I) (nn : Nat) (id j : Int32) : Int32 := match xs_memb I nn id with
  | none => -1
  | some i => if xs_isFinger j = false then -1 else I 6 i j.toNatClampNeg
def xs_ety (I : nf_I) (J : nf_J) (nn kc : Nat) (id key : Int32) : Int64 := match xs_memb I nn id with
  | none => 4294967296
  | some i => xs_val I J kc i key
def xs_ans (I : nf_I) (J : nf_J) (nn : Nat) (id : Int32) : Int64 := match xs_node I nn id with
  | none => 8589934592
  | some i => J 5 i 5
def xs_hps (I : nf_I) (nn : Nat) (id : Int32) : Int32 := match xs_node I nn id with
  | none => -1
  | some i => I 5 i 6
def xs_own (I : nf_I) (nn : Nat) (key : Int32) : Int32 := if xs_isId key = false then -1 else xs_fu I key nn 0 (-1)
theorem xs_full_n {I : nf_I} {sz : Nat} (hs : I 3 0 1 = nI sz) (h20 : sz < 2 ^ 31) (h : xs_full I = false) : sz < 20 := by
  unfold xs_full at h
  split at h
  next h1 => exact nk_lt hs h1 h20 (by decide)
  · cases h
def xs_stbB (I : nf_I) (nn : Nat) (id : Int32) : Bool := match xs_memb I nn id with
  | none => false
  | some _ => if xs_full I = false then true else false
def xs_stbI (I : nf_I) (nn onw : Nat) (id : Int32) : nf_I := match xs_memb I nn id with
  | none => I
  | some i => if xs_full I = false then nf_iu (xs_sI I onw 6 (I 5 i 1)) 8 onw 6 id else I
def xs_stbJ (I : nf_I) (J : nf_J) (nn onw : Nat) (id : Int32) : nf_J := match xs_memb I nn id with
  | none => J
  | some _ => if xs_full I = false then xs_sJ J onw else J
def xs_fixB (I : nf_I) (nn : Nat) (id j : Int32) : Bool := match xs_memb I nn id with
  | none => false
  | some _ => if xs_isFinger j = false then false else if xs_full I = false then true else false
def xs_fixI (I : nf_I) (nn onw : Nat) (id j : Int32) : nf_I := match xs_memb I nn id with
  | none => I
  | some _ => if xs_isFinger j = false then I else if xs_full I = false then nf_iu (xs_fI I onw id id 2 (xs_fst id j)) 8 onw 5 j else I
def xs_fixJ (I : nf_I) (J : nf_J) (nn onw : Nat) (id j : Int32) : nf_J := match xs_memb I nn id with
  | none => J
  | some _ => if xs_isFinger j = false then J else if xs_full I = false then xs_sJ J onw else J
def xs_getB (I : nf_I) (nn : Nat) (id key : Int32) : Bool := match xs_memb I nn id with
  | none => false
  | some _ => if xs_isId key = false then false else if xs_full I = false then true else false
def xs_getI (I : nf_I) (nn onw : Nat) (id key : Int32) : nf_I := match xs_memb I nn id with
  | none => I
  | some _ => if xs_isId key = false then I else if xs_full I = false then xs_fI I onw id id 4 key else I
def xs_getJ (I : nf_I) (J : nf_J) (nn onw : Nat) (id key : Int32) : nf_J := match xs_memb I nn id with
  | none => J
  | some _ => if xs_isId key = false then J else if xs_full I = false then xs_sJ J onw else J
def xs_putB (I : nf_I) (nn kc : Nat) (id key : Int32) : Bool := match xs_memb I nn id with
  | none => false
  | some _ => if xs_isId key = false then false else if xs_full I = false then xs_tkB I kc key else false
def xs_putI (I : nf_I) (nn kc onw : Nat) (id key : Int32) : nf_I := match xs_memb I nn id with
  | none => I
  | some _ => if xs_isId key = false then I else if xs_full I = false then (if xs_tkB I kc key = false then xs_tkI I kc key else xs_fI (xs_tkI I kc key) onw id id 3 key) else I
def xs_putJ (I : nf_I) (J : nf_J) (nn kc onw : Nat) (id key v : Int32) : nf_J := match xs_memb I nn id with
  | none => J
  | some _ => if xs_isId key = false then J else if xs_full I = false then (if xs_tkB I kc key = false then J else nf_ju (xs_sJ J onw) 8 onw 8 v.toInt64) else J
theorem xs_tkI_row (I : nf_I) (kc : Nat) (key : Int32) : xs_tkI I kc key 3 0 1 = I 3 0 1 := by
  unfold xs_tkI
  split
  · split
    · simp [nf_iu]
    · rfl
  · rfl
