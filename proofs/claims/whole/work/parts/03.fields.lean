/-! The memory read by fields: int cells I kind number place, long cells J, references in arrays P; a shape says what a name is. -/
abbrev nf_F : Type := Nat × Nat
abbrev nf_O : Type := (Nat × List nf_F) ⊕ (ClassId × Nat × Nat)
abbrev nf_I : Type := Nat → Nat → Nat → Int32
abbrev nf_J : Type := Nat → Nat → Nat → Int64
abbrev nf_P : Type := Nat → Nat → Nat → Option (Nat × Nat)
abbrev nf_H : Type := Nat → Nat → Option nf_O
abbrev nf_A : Type := Nat → Nat → Nat
def nf_v (ad : nf_A) (I : nf_I) (J : nf_J) (k i n : Nat) (f : nf_F) : Value := match f.1 with
  | 0 => .int (I k i n)
  | 1 => .long (J k i n)
  | 2 => .ref (ad f.2 i)
  | _ => .null
def nf_fs (ad : nf_A) (I : nf_I) (J : nf_J) (k i : Nat) : Nat → List nf_F → List Value
  | _, [] => []
  | n, f :: fs => nf_v ad I J k i n f :: nf_fs ad I J k i (n + 1) fs
def nf_rf (ad : nf_A) (P : nf_P) (k i : Nat) : Nat → Option Nat := fun j => (P k i j).map (fun q => ad q.1 q.2)
def nf_c (ad : nf_A) (I : nf_I) (J : nf_J) (P : nf_P) (k i : Nat) (s : nf_O) : va_E := match s with
  | .inl o => .inr (o.1, nf_fs ad I J k i 0 o.2)
  | .inr (cA, n, 0) => .inl (cA, n, .inl (I k i))
  | .inr (cA, n, 1) => .inl (cA, n, .inr (.inl (J k i)))
  | .inr (cA, n, _) => .inl (cA, n, .inr (.inr (.inr (.inr (nf_rf ad P k i)))))
def nf_G (sh : nf_H) (ad : nf_A) (I : nf_I) (J : nf_J) (P : nf_P) : Nat → Nat → Option va_E := fun k i => (sh k i).map (nf_c ad I J P k i)
/-- the cell (k, i) of shape s refers to q -/
def nf_re (P : nf_P) (k i : Nat) (s : nf_O) (q : Nat × Nat) : Prop := match s with
  | .inl o => ∃ f ∈ o.2, f.1 = 2 ∧ q = (f.2, i)
  | .inr _ => ∃ j, P k i j = some q
def nf_ok (sh : nf_H) (P : nf_P) : Prop := ∀ (a b : Nat) (s : nf_O), sh a b = some s → ∀ q : Nat × Nat, nf_re P a b s q → ∃ s', sh q.1 q.2 = some s'
def nf_iu (I : nf_I) (k i n : Nat) (v : Int32) : nf_I := fun a b c => if a = k ∧ b = i ∧ c = n then v else I a b c
def nf_ju (J : nf_J) (k i n : Nat) (v : Int64) : nf_J := fun a b c => if a = k ∧ b = i ∧ c = n then v else J a b c
def nf_pu (P : nf_P) (k i n : Nat) (v : Option (Nat × Nat)) : nf_P := fun a b c => if a = k ∧ b = i ∧ c = n then v else P a b c
def nf_iz (I : nf_I) (k i : Nat) : nf_I := fun a b c => if a = k ∧ b = i then 0 else I a b c
def nf_jz (J : nf_J) (k i : Nat) : nf_J := fun a b c => if a = k ∧ b = i then 0 else J a b c
def nf_pz (P : nf_P) (k i : Nat) : nf_P := fun a b c => if a = k ∧ b = i then none else P a b c
def nf_su (sh : nf_H) (k i : Nat) (x : nf_O) : nf_H := fun a b => if a = k ∧ b = i then some x else sh a b
theorem nf_iu_s (I : nf_I) (k i n : Nat) (v : Int32) : nf_iu I k i n v k i n = v := by simp [nf_iu]
theorem nf_ju_s (J : nf_J) (k i n : Nat) (v : Int64) : nf_ju J k i n v k i n = v := by simp [nf_ju]
theorem nf_iu_n (I : nf_I) {k i n a b c : Nat} (v : Int32) (h : ¬ (a = k ∧ b = i ∧ c = n)) : nf_iu I k i n v a b c = I a b c := by simp only [nf_iu, if_neg h]
theorem nf_ju_n (J : nf_J) {k i n a b c : Nat} (v : Int64) (h : ¬ (a = k ∧ b = i ∧ c = n)) : nf_ju J k i n v a b c = J a b c := by simp only [nf_ju, if_neg h]
theorem nf_pu_n (P : nf_P) {k i n a b c : Nat} (v : Option (Nat × Nat)) (h : ¬ (a = k ∧ b = i ∧ c = n)) : nf_pu P k i n v a b c = P a b c := by simp only [nf_pu, if_neg h]
theorem nf_su_s (sh : nf_H) (k i : Nat) (x : nf_O) : nf_su sh k i x k i = some x := by simp [nf_su]
theorem nf_su_n (sh : nf_H) {k i a b : Nat} (x : nf_O) (h : ¬ (a = k ∧ b = i)) : nf_su sh k i x a b = sh a b := by simp only [nf_su, if_neg h]
section NField
variable {p : Program} {l : Launch} {e : Env} {R : Room} {s : State} {m : MethodId} {args : Array Value} {below : List Frame} {meth : Method} {c : Code} {H : Heap} {locs : List Loc} {cells slots : Nat} {Q : State → Prop}
variable {cc : ByteArray} {pc : Nat} {ls : Array Slot} {rest : List Value} {D : va_G} {cl : List vw_C} {A : Nat → Prop} {tys : List (ClassId × FieldType)} {H0 : Heap} {ad ad' : nf_A} {sh : nf_H} {I I' : nf_I} {J J' : nf_J} {P P' : nf_P} {k i : Nat}
theorem nf_fs_get : ∀ (fs : List nf_F) (m n : Nat), (nf_fs ad I J k i m fs)[n]? = (fs[n]?).map (nf_v ad I J k i (m + n))
  | [], m, n => by simp [nf_fs]
  | f :: fs, m, 0 => by simp [nf_fs]
  | f :: fs, m, n + 1 => by
    have h := nf_fs_get fs (m + 1) n
    simp only [nf_fs, List.getElem?_cons_succ]
    rw [h, show m + 1 + n = m + (n + 1) by omega]
theorem nf_fs_len : ∀ (fs : List nf_F) (m : Nat), (nf_fs ad I J k i m fs).length = fs.length
  | [], m => rfl
  | f :: fs, m => by simp [nf_fs, nf_fs_len fs (m + 1)]
theorem nf_c_congr (s : nf_O) (hI : ∀ c, I' k i c = I k i c) (hJ : ∀ c, J' k i c = J k i c) (hP : ∀ c, P' k i c = P k i c) (had : ∀ q : Nat × Nat, nf_re P k i s q → ad' q.1 q.2 = ad q.1 q.2) : nf_c ad' I' J' P' k i s = nf_c ad I J P k i s := by
  match s with
  | .inl (ci, fs) =>
    have h : nf_fs ad' I' J' k i 0 fs = nf_fs ad I J k i 0 fs := by
      apply List.ext_getElem?
      intro n
      rw [nf_fs_get, nf_fs_get]
      cases hf : fs[n]? with
      | none => rfl
      | some f =>
        obtain ⟨t, z⟩ := f
        have hm : (t, z) ∈ fs := List.mem_of_getElem? hf
        match t with
        | 0 => simp [nf_v, hI]
        | 1 => simp [nf_v, hJ]
        | 2 =>
          have := had (z, i) ⟨(2, z), hm, rfl, rfl⟩
          simp only [Option.map_some, nf_v]
          rw [this]
        | t + 3 => rfl
    show Sum.inr (ci, nf_fs ad' I' J' k i 0 fs) = _
    rw [h]
    rfl
  | .inr (cA, n, 0) =>
    show Sum.inl (cA, n, Sum.inl (I' k i)) = _
    rw [show I' k i = I k i from funext hI]
    rfl
  | .inr (cA, n, 1) =>
    show Sum.inl (cA, n, Sum.inr (Sum.inl (J' k i))) = _
    rw [show J' k i = J k i from funext hJ]
    rfl
  | .inr (cA, n, t + 2) =>
    have h : nf_rf ad' P' k i = nf_rf ad P k i := by
      funext j
      unfold nf_rf
      rw [hP]
      cases hq : P k i j with
      | none => rfl
      | some q =>
        simp only [Option.map_some]
        rw [had q ⟨j, hq⟩]
    show Sum.inl (cA, n, Sum.inr (Sum.inr (Sum.inr (Sum.inr (nf_rf ad' P' k i))))) = _
    rw [h]
    rfl
theorem nf_G_at {x : nf_O} (hg : sh k i = some x) : nf_G sh ad I J P k i = some (nf_c ad I J P k i x) := by
  unfold nf_G
  rw [hg]
  rfl
theorem nf_G_off {k i a b : Nat} (hI : ∀ c, I' a b c = I a b c) (hJ : ∀ c, J' a b c = J a b c) (hP : ∀ c, P' a b c = P a b c) : nf_G sh ad I' J' P' a b = nf_G sh ad I J P a b := by
  unfold nf_G
  cases sh a b with
  | none => rfl
  | some x =>
    simp only [Option.map_some]
    rw [nf_c_congr x hI hJ hP (fun _ _ => rfl)]
theorem nf_set_i {ci n z : Nat} {fs : List nf_F} {v : Int32} (hg : sh k i = some (.inl (ci, fs))) (hf : fs[n]? = some (0, z)) : ∀ a b : Nat, nf_G sh ad (nf_iu I k i n v) J P a b = if a = k ∧ b = i then some (.inr (ci, (nf_fs ad I J k i 0 fs).set n (.int v))) else nf_G sh ad I J P a b := by
  intro a b
  by_cases hab : a = k ∧ b = i
  · obtain ⟨rfl, rfl⟩ := hab
    rw [if_pos ⟨rfl, rfl⟩, nf_G_at hg]
    have h : nf_fs ad (nf_iu I a b n v) J a b 0 fs = (nf_fs ad I J a b 0 fs).set n (.int v) := by
      apply List.ext_getElem?
      intro q
      rw [nf_fs_get, List.getElem?_set]
      by_cases hq : n = q
      · subst hq
        have hlt : n < fs.length := (List.getElem?_eq_some_iff.mp hf).1
        rw [if_pos rfl, if_pos (by rw [nf_fs_len]; exact hlt), hf]
        simp [nf_v, nf_iu]
      · rw [if_neg hq, nf_fs_get]
        cases hf2 : fs[q]? with
        | none => rfl
        | some f =>
          obtain ⟨t, y⟩ := f
          match t with
          | 0 =>
            have hne : ¬ (a = a ∧ b = b ∧ 0 + q = n) := fun h => hq (by omega)
            simp only [Option.map_some, nf_v]
            rw [nf_iu_n I v hne]
          | 1 => rfl
          | 2 => rfl
          | t + 3 => rfl
    show some (Sum.inr (ci, nf_fs ad (nf_iu I a b n v) J a b 0 fs)) = _
    rw [h]
  · rw [if_neg hab]
    exact nf_G_off (k := k) (i := i) (fun c => nf_iu_n I v (fun h => hab ⟨h.1, h.2.1⟩)) (fun _ => rfl) (fun _ => rfl)
theorem nf_set_l {ci n z : Nat} {fs : List nf_F} {v : Int64} (hg : sh k i = some (.inl (ci, fs))) (hf : fs[n]? = some (1, z)) : ∀ a b : Nat, nf_G sh ad I (nf_ju J k i n v) P a b = if a = k ∧ b = i then some (.inr (ci, (nf_fs ad I J k i 0 fs).set n (.long v))) else nf_G sh ad I J P a b := by
  intro a b
  by_cases hab : a = k ∧ b = i
  · obtain ⟨rfl, rfl⟩ := hab
    rw [if_pos ⟨rfl, rfl⟩, nf_G_at hg]
    have h : nf_fs ad I (nf_ju J a b n v) a b 0 fs = (nf_fs ad I J a b 0 fs).set n (.long v) := by
      apply List.ext_getElem?
      intro q
      rw [nf_fs_get, List.getElem?_set]
      by_cases hq : n = q
      · subst hq
        have hlt : n < fs.length := (List.getElem?_eq_some_iff.mp hf).1
        rw [if_pos rfl, if_pos (by rw [nf_fs_len]; exact hlt), hf]
        simp [nf_v, nf_ju]
      · rw [if_neg hq, nf_fs_get]
        cases hf2 : fs[q]? with
        | none => rfl
        | some f =>
          obtain ⟨t, y⟩ := f
          match t with
          | 0 => rfl
          | 1 =>
            have hne : ¬ (a = a ∧ b = b ∧ 0 + q = n) := fun h => hq (by omega)
            simp only [Option.map_some, nf_v]
            rw [nf_ju_n J v hne]
          | 2 => rfl
          | t + 3 => rfl
    show some (Sum.inr (ci, nf_fs ad I (nf_ju J a b n v) a b 0 fs)) = _
    rw [h]
  · rw [if_neg hab]
    exact nf_G_off (k := k) (i := i) (fun _ => rfl) (fun c => nf_ju_n J v (fun h => hab ⟨h.1, h.2.1⟩)) (fun _ => rfl)
theorem nf_set_ia {cA : ClassId} {n j : Nat} {v : Int32} (hg : sh k i = some (.inr (cA, n, 0))) : ∀ a b : Nat, nf_G sh ad (nf_iu I k i j v) J P a b = if a = k ∧ b = i then some (.inl (cA, n, .inl (upd (I k i) j v))) else nf_G sh ad I J P a b := by
  intro a b
  by_cases hab : a = k ∧ b = i
  · obtain ⟨rfl, rfl⟩ := hab
    rw [if_pos ⟨rfl, rfl⟩, nf_G_at hg]
    have h : nf_iu I a b j v a b = upd (I a b) j v := by
      funext q
      by_cases hq : q = j
      · subst hq
        rw [nf_iu_s, pk_us]
      · rw [nf_iu_n I v (fun h => hq h.2.2), pk_un hq]
    show some (Sum.inl (cA, n, Sum.inl (nf_iu I a b j v a b))) = _
    rw [h]
  · rw [if_neg hab]
    exact nf_G_off (k := k) (i := i) (fun c => nf_iu_n I v (fun h => hab ⟨h.1, h.2.1⟩)) (fun _ => rfl) (fun _ => rfl)
theorem nf_set_la {cA : ClassId} {n j : Nat} {v : Int64} (hg : sh k i = some (.inr (cA, n, 1))) : ∀ a b : Nat, nf_G sh ad I (nf_ju J k i j v) P a b = if a = k ∧ b = i then some (.inl (cA, n, .inr (.inl (vp_updL (J k i) j v)))) else nf_G sh ad I J P a b := by
  intro a b
  by_cases hab : a = k ∧ b = i
  · obtain ⟨rfl, rfl⟩ := hab
    rw [if_pos ⟨rfl, rfl⟩, nf_G_at hg]
    have h : nf_ju J a b j v a b = vp_updL (J a b) j v := by
      funext q
      by_cases hq : q = j
      · subst hq
        rw [nf_ju_s, pk_uLs]
      · rw [nf_ju_n J v (fun h => hq h.2.2), pk_uLn hq]
    show some (Sum.inl (cA, n, Sum.inr (Sum.inl (nf_ju J a b j v a b)))) = _
    rw [h]
  · rw [if_neg hab]
    exact nf_G_off (k := k) (i := i) (fun _ => rfl) (fun c => nf_ju_n J v (fun h => hab ⟨h.1, h.2.1⟩)) (fun _ => rfl)
theorem nf_set_pa {cA : ClassId} {n j k2 i2 : Nat} (hg : sh k i = some (.inr (cA, n, 2))) : ∀ a b : Nat, nf_G sh ad I J (nf_pu P k i j (some (k2, i2))) a b = if a = k ∧ b = i then some (.inl (cA, n, .inr (.inr (.inr (.inr (va_up (nf_rf ad P k i) j (some (ad k2 i2)))))))) else nf_G sh ad I J P a b := by
  intro a b
  by_cases hab : a = k ∧ b = i
  · obtain ⟨rfl, rfl⟩ := hab
    rw [if_pos ⟨rfl, rfl⟩, nf_G_at hg]
    have h : nf_rf ad (nf_pu P a b j (some (k2, i2))) a b = va_up (nf_rf ad P a b) j (some (ad k2 i2)) := by
      funext q
      by_cases hq : q = j
      · subst hq
        rw [va_up_self]
        simp [nf_rf, nf_pu]
      · rw [va_up_ne _ _ hq]
        simp only [nf_rf]
        rw [nf_pu_n P _ (fun h => hq h.2.2)]
    show some (Sum.inl (cA, n, Sum.inr (Sum.inr (Sum.inr (Sum.inr (nf_rf ad (nf_pu P a b j (some (k2, i2))) a b)))))) = _
    rw [h]
  · rw [if_neg hab]
    exact nf_G_off (k := k) (i := i) (fun _ => rfl) (fun _ => rfl) (fun c => nf_pu_n P _ (fun h => hab ⟨h.1, h.2.1⟩))
/-- the memory, all of it from Bs on, since H0 -/
def nf_M (D : va_G) (cl : List vw_C) (Bs : Nat) (sh : nf_H) (ad : nf_A) (I : nf_I) (J : nf_J) (P : nf_P) (H0 H : Heap) (locs : List Loc) : Prop :=
  nh_M D cl (fun q => Bs ≤ q) ad (nf_G sh ad I J P) H ∧ nf_ok sh P ∧ va_S (fun q => Bs ≤ q) H0 H locs ∧ Bs ≤ H0.size
/-- what a method's walk stands on -/
abbrev nf_C (p : Program) (m : MethodId) (c : Code) (cc : ByteArray) (nL : Nat) (s : State) (args : Array Value) (Ts : List Cond) (own : String) (D : va_G) (cl : List vw_C) (tys : List (ClassId × FieldType)) : Prop := CallFix p m c cc nL s args Ts own ∧ va_K D cl tys s
variable {nL Bs N ci index n z : Nat} {Ts : List Cond} {own C : String} {T : u_T} {fs : List nf_F}
theorem nf_vget {f : nf_F} (hf : fs[n]? = some f) : (nf_fs ad I J k i 0 fs)[n]? = some (nf_v ad I J k i n f) := by
  rw [nf_fs_get, hf]
  simp
theorem nf_geti (hC : nf_C p m c cc nL s args Ts own D cl tys) (hin : ∀ w ∈ u_ws C T N, w ∈ Ts) (hM : nf_M D cl Bs sh ad I J P H0 H locs) (hg : sh k i = some (.inl (ci, fs))) (hc : cl[ci]? = some (C, T, N)) (n : Nat) (hn : n < N) (hlink : Cond.fieldLink own index (T n).1 (T n).2.1 (T n).2.2.1 ∈ Ts) (hf : fs[n]? = some (0, z)) (hdg : decode cc pc = .ok (.getfield index, 3))
    (kk : W p l e R s m args below meth c H locs cells slots Q (F0 m (pc + 3) ls (.int (I k i n) :: rest))) : W p l e R s m args below meth c H locs cells slots Q (F0 m pc ls (.ref (ad k i) :: rest)) := by
  obtain ⟨⟨hx, hb, hml, hown, hts⟩, hK⟩ := hC
  obtain ⟨ws, q0, hP, hq⟩ := nh_at hM.1 (nf_G_at hg)
  exact va_get hx hb hts hin hown hK hP q0 hq hc n hn (hts _ hlink) (fun _ h => h) (nf_vget hf) hdg kk
theorem nf_getl (hC : nf_C p m c cc nL s args Ts own D cl tys) (hin : ∀ w ∈ u_ws C T N, w ∈ Ts) (hM : nf_M D cl Bs sh ad I J P H0 H locs) (hg : sh k i = some (.inl (ci, fs))) (hc : cl[ci]? = some (C, T, N)) (n : Nat) (hn : n < N) (hlink : Cond.fieldLink own index (T n).1 (T n).2.1 (T n).2.2.1 ∈ Ts) (hf : fs[n]? = some (1, z)) (hdg : decode cc pc = .ok (.getfield index, 3))
    (kk : W p l e R s m args below meth c H locs cells slots Q (F0 m (pc + 3) ls (.long (J k i n) :: rest))) : W p l e R s m args below meth c H locs cells slots Q (F0 m pc ls (.ref (ad k i) :: rest)) := by
  obtain ⟨⟨hx, hb, hml, hown, hts⟩, hK⟩ := hC
  obtain ⟨ws, q0, hP, hq⟩ := nh_at hM.1 (nf_G_at hg)
  exact va_get hx hb hts hin hown hK hP q0 hq hc n hn (hts _ hlink) (fun _ h => h) (nf_vget hf) hdg kk
theorem nf_getr (hC : nf_C p m c cc nL s args Ts own D cl tys) (hin : ∀ w ∈ u_ws C T N, w ∈ Ts) (hM : nf_M D cl Bs sh ad I J P H0 H locs) (hg : sh k i = some (.inl (ci, fs))) (hc : cl[ci]? = some (C, T, N)) (n : Nat) (hn : n < N) (hlink : Cond.fieldLink own index (T n).1 (T n).2.1 (T n).2.2.1 ∈ Ts) (hf : fs[n]? = some (2, z)) (hdg : decode cc pc = .ok (.getfield index, 3))
    (kk : W p l e R s m args below meth c H locs cells slots Q (F0 m (pc + 3) ls (.ref (ad z i) :: rest))) : W p l e R s m args below meth c H locs cells slots Q (F0 m pc ls (.ref (ad k i) :: rest)) := by
  obtain ⟨⟨hx, hb, hml, hown, hts⟩, hK⟩ := hC
  obtain ⟨ws, q0, hP, hq⟩ := nh_at hM.1 (nf_G_at hg)
  exact va_get hx hb hts hin hown hK hP q0 hq hc n hn (hts _ hlink) (fun _ h => h) (nf_vget hf) hdg kk
theorem nf_puti (hC : nf_C p m c cc nL s args Ts own D cl tys) (hin : ∀ w ∈ u_ws C T N, w ∈ Ts) (ty0 : Nat → FieldType) (hty : ∀ k, k < N → parseFieldDescriptor (T k).2.2.1 = some (ty0 k)) (hnm : ∀ a, a < N → ∀ b, b < N → a ≠ b → (T a).2.1 ≠ (T b).2.1) (hM : nf_M D cl Bs sh ad I J P H0 H locs) (hg : sh k i = some (.inl (ci, fs))) (hc : cl[ci]? = some (C, T, N)) (n : Nat) (hn : n < N) (hlink : Cond.fieldLink own index (T n).1 (T n).2.1 (T n).2.2.1 ∈ Ts) (hfin : (T n).2.2.2 = false) (hd : parseFieldDescriptor (T n).2.2.1 = some .int) (hf : fs[n]? = some (0, z)) {v : Int32} (hdg : decode cc pc = .ok (.putfield index, 3))
    (kk : ∀ (H1 : Heap) (locs1 : List Loc), nf_M D cl Bs sh ad (nf_iu I k i n v) J P H0 H1 locs1 → W p l e R s m args below meth c H1 locs1 cells slots Q (F0 m (pc + 3) ls rest)) : W p l e R s m args below meth c H locs cells slots Q (F0 m pc ls (.int v :: .ref (ad k i) :: rest)) := by
  obtain ⟨⟨hx, hb, hml, hown, hts⟩, hK⟩ := hC
  obtain ⟨hM, hok, hS, hB⟩ := hM
  obtain ⟨ws, q0, hP, hD, hq, -, hset⟩ := nh_set hM (nf_G_at hg) (nf_set_i (ad := ad) (I := I) (J := J) (P := P) (v := v) hg hf)
  exact va_put hx hb hts hin ty0 hty hnm hown hK hP hD hS q0 hq hc n hn (hts _ hlink) (fun _ h => h) hfin hd rfl rfl (by rw [nf_fs_len]; exact (List.getElem?_eq_some_iff.mp hf).1) hdg (fun H1 locs1 a1 a2 a3 => kk H1 locs1 ⟨hset H1 a1 a2, hok, a3, hB⟩)
theorem nf_putl (hC : nf_C p m c cc nL s args Ts own D cl tys) (hin : ∀ w ∈ u_ws C T N, w ∈ Ts) (ty0 : Nat → FieldType) (hty : ∀ k, k < N → parseFieldDescriptor (T k).2.2.1 = some (ty0 k)) (hnm : ∀ a, a < N → ∀ b, b < N → a ≠ b → (T a).2.1 ≠ (T b).2.1) (hM : nf_M D cl Bs sh ad I J P H0 H locs) (hg : sh k i = some (.inl (ci, fs))) (hc : cl[ci]? = some (C, T, N)) (n : Nat) (hn : n < N) (hlink : Cond.fieldLink own index (T n).1 (T n).2.1 (T n).2.2.1 ∈ Ts) (hfin : (T n).2.2.2 = false) (hd : parseFieldDescriptor (T n).2.2.1 = some .long) (hf : fs[n]? = some (1, z)) {v : Int64} (hdg : decode cc pc = .ok (.putfield index, 3))
    (kk : ∀ (H1 : Heap) (locs1 : List Loc), nf_M D cl Bs sh ad I (nf_ju J k i n v) P H0 H1 locs1 → W p l e R s m args below meth c H1 locs1 cells slots Q (F0 m (pc + 3) ls rest)) : W p l e R s m args below meth c H locs cells slots Q (F0 m pc ls (.long v :: .ref (ad k i) :: rest)) := by
  obtain ⟨⟨hx, hb, hml, hown, hts⟩, hK⟩ := hC
  obtain ⟨hM, hok, hS, hB⟩ := hM
  obtain ⟨ws, q0, hP, hD, hq, -, hset⟩ := nh_set hM (nf_G_at hg) (nf_set_l (ad := ad) (I := I) (J := J) (P := P) (v := v) hg hf)
  exact va_put hx hb hts hin ty0 hty hnm hown hK hP hD hS q0 hq hc n hn (hts _ hlink) (fun _ h => h) hfin hd rfl rfl (by rw [nf_fs_len]; exact (List.getElem?_eq_some_iff.mp hf).1) hdg (fun H1 locs1 a1 a2 a3 => kk H1 locs1 ⟨hset H1 a1 a2, hok, a3, hB⟩)
end NField
