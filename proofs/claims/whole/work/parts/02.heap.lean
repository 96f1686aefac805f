/-! One memory by NAMES: a cell has a kind and a number (k, i); ad says where it lies, G what it holds. The kit's pool rows below, nothing of lists above. -/
section NHeap
variable {p : Program} {l : Launch} {e : Env} {R : Room} {s : State} {m : MethodId} {args : Array Value} {below : List Frame} {meth : Method} {c : Code} {H : Heap} {locs : List Loc} {cells slots : Nat} {Q : State → Prop}
variable {cc : ByteArray} {pc : Nat} {ls : Array Slot} {rest : List Value} {D : va_G} {cl : List vw_C} {A : Nat → Prop} {tys : List (ClassId × FieldType)} {H0 : Heap} {ad : Nat → Nat → Nat} {G G' : Nat → Nat → Option va_E}
/-- the heap holds G at the addresses ad; names that are alive lie apart -/
def nh_M (D : va_G) (cl : List vw_C) (A : Nat → Prop) (ad : Nat → Nat → Nat) (G : Nat → Nat → Option va_E) (H : Heap) : Prop :=
  ∃ (L : List Nat) (f : Nat → va_E), va_P D cl (va_pl L f) H ∧ va_D A (va_pl L f) ∧
    (∀ (k i : Nat) (x : va_E), G k i = some x → ad k i ∈ L ∧ f (ad k i) = x) ∧
    (∀ (k i k' i' : Nat) (x x' : va_E), G k i = some x → G k' i' = some x' → ad k i = ad k' i' → k = k' ∧ i = i')
theorem nh_at (h : nh_M D cl A ad G H) {k i : Nat} {x : va_E} (hg : G k i = some x) : ∃ (ws : va_W) (q0 : Nat), va_P D cl ws H ∧ ws[q0]? = some (ad k i, x) := by
  obtain ⟨L, f, hP, hD, h1, h2⟩ := h
  obtain ⟨m1, m2⟩ := h1 k i x hg
  obtain ⟨q0, hq⟩ := va_pl_get (X := []) (f := f) m1
  rw [m2] at hq
  exact ⟨va_pl L f, q0, hP, hq⟩
/-- one content changes -/
theorem nh_set (h : nh_M D cl A ad G H) {k i : Nat} {x x' : va_E} (hg : G k i = some x) (hG : ∀ a b : Nat, G' a b = if a = k ∧ b = i then some x' else G a b) :
    ∃ (ws : va_W) (q0 : Nat), va_P D cl ws H ∧ va_D A ws ∧ ws[q0]? = some (ad k i, x) ∧ (∀ (k2 i2 : Nat) (y : va_E), G k2 i2 = some y → ∃ qk : Nat, ws[qk]? = some (ad k2 i2, y)) ∧ ∀ H1 : Heap, va_P D cl (ws.set q0 (ad k i, x')) H1 → va_D A (ws.set q0 (ad k i, x')) → nh_M D cl A ad G' H1 := by
  obtain ⟨L, f, hP, hD, h1, h2⟩ := h
  obtain ⟨m1, m2⟩ := h1 k i x hg
  obtain ⟨q0, hq⟩ := va_pl_get (X := []) (f := f) m1
  have e1 : (va_pl L f).set q0 (ad k i, x') = va_pl L (va_up f (ad k i) x') := va_pl_set (X := []) hD m1 hq
  have hq' : (va_pl L f)[q0]? = some (ad k i, x) := by rw [← m2]; exact hq
  refine ⟨va_pl L f, q0, hP, hD, hq', fun k2 i2 y hy => ?_, fun H1 hP1 hD1 => ?_⟩
  · obtain ⟨n1, n2⟩ := h1 k2 i2 y hy
    obtain ⟨qk, hk⟩ := va_pl_get (X := []) (f := f) n1
    rw [n2] at hk
    exact ⟨qk, hk⟩
  rw [e1] at hP1 hD1
  have back : ∀ (a b : Nat) (y : va_E), G' a b = some y → ∃ z, G a b = some z := by
    intro a b y hy
    rw [hG] at hy
    by_cases hab : a = k ∧ b = i
    · obtain ⟨rfl, rfl⟩ := hab
      exact ⟨x, hg⟩
    · rw [if_neg hab] at hy
      exact ⟨y, hy⟩
  refine ⟨L, _, hP1, hD1, fun a b y hy => ?_, fun a b a' b' y y' hy hy' he => ?_⟩
  · rw [hG] at hy
    by_cases hab : a = k ∧ b = i
    · rw [if_pos hab] at hy
      obtain ⟨rfl, rfl⟩ := hab
      cases hy
      exact ⟨m1, va_up_self _ _ _⟩
    · rw [if_neg hab] at hy
      obtain ⟨n1, n2⟩ := h1 a b y hy
      exact ⟨n1, by rw [va_up_ne _ _ (fun q => hab (h2 a b k i y x hy hg q)), n2]⟩
  · obtain ⟨z, hz⟩ := back a b y hy
    obtain ⟨z', hz'⟩ := back a' b' y' hy'
    exact h2 a b a' b' z z' hz hz' he
/-- a new cell gets a name that was free -/
def nh_ad (ad : Nat → Nat → Nat) (k i q : Nat) : Nat → Nat → Nat := fun a b => if a = k ∧ b = i then q else ad a b
theorem nh_ad_new (ad : Nat → Nat → Nat) (k i q : Nat) : nh_ad ad k i q k i = q := by simp [nh_ad]
theorem nh_ad_old (ad : Nat → Nat → Nat) {k i q a b : Nat} (h : ¬ (a = k ∧ b = i)) : nh_ad ad k i q a b = ad a b := by simp [nh_ad, h]
theorem nh_push (h : nh_M D cl A ad G H) {k i : Nat} {x : va_E} (hg : G k i = none) (hG : ∀ a b : Nat, G' a b = if a = k ∧ b = i then some x else G a b) :
    ∃ ws : va_W, va_P D cl ws H ∧ va_D A ws ∧ ∀ (q : Nat) (H1 : Heap), va_P D cl (ws ++ [(q, x)]) H1 → va_D A (ws ++ [(q, x)]) → nh_M D cl A (nh_ad ad k i q) G' H1 := by
  obtain ⟨L, f, hP, hD, h1, h2⟩ := h
  refine ⟨va_pl L f, hP, hD, fun q H1 hP1 hD1 => ?_⟩
  have hq : q ∉ L := va_pl_fresh2 (X := []) hD1
  rw [va_pl_push hq] at hP1 hD1
  refine ⟨L ++ [q], _, hP1, hD1, fun a b y hy => ?_, fun a b a' b' y y' hy hy' he => ?_⟩
  · rw [hG] at hy
    by_cases hab : a = k ∧ b = i
    · rw [if_pos hab] at hy
      obtain ⟨rfl, rfl⟩ := hab
      cases hy
      rw [nh_ad_new]
      exact ⟨List.mem_append_right _ List.mem_cons_self, va_up_self _ _ _⟩
    · rw [if_neg hab] at hy
      obtain ⟨n1, n2⟩ := h1 a b y hy
      rw [nh_ad_old ad hab]
      exact ⟨List.mem_append_left _ n1, by rw [va_up_ne f x (show ad a b ≠ q from fun z => hq (z ▸ n1)), n2]⟩
  · have old : ∀ (a b : Nat) (y : va_E), G' a b = some y → ¬ (a = k ∧ b = i) → G a b = some y ∧ ad a b ∈ L := by
      intro a b y hy hab
      rw [hG, if_neg hab] at hy
      exact ⟨hy, (h1 a b y hy).1⟩
    by_cases hab : a = k ∧ b = i <;> by_cases hab' : a' = k ∧ b' = i
    · exact ⟨hab.1.trans hab'.1.symm, hab.2.trans hab'.2.symm⟩
    · obtain ⟨-, n1⟩ := old a' b' y' hy' hab'
      rw [nh_ad_old ad hab', hab.1, hab.2, nh_ad_new] at he
      exact absurd n1 (he ▸ hq)
    · obtain ⟨-, n1⟩ := old a b y hy hab
      rw [nh_ad_old ad hab, hab'.1, hab'.2, nh_ad_new] at he
      exact absurd n1 (he ▸ hq)
    · rw [nh_ad_old ad hab, nh_ad_old ad hab'] at he
      exact h2 a b a' b' y y' (old a b y hy hab).1 (old a' b' y' hy' hab').1 he
theorem nh_M.kept {H1 : Heap} (h : nh_M D cl A ad G H) (hk : ∀ q : Nat, A q → H1[q]? = H[q]?) : nh_M D cl A ad G H1 := by
  obtain ⟨L, f, hP, hD, h1, h2⟩ := h
  exact ⟨L, f, hP.kept (fun k q hq => hk q.1 (hD.2 k q hq)), hD, h1, h2⟩
theorem nh_M.to (h : nh_M D cl A ad G H) (hG : ∀ a b : Nat, G' a b = G a b) : nh_M D cl A ad G' H := by
  have : G' = G := by funext a b; exact hG a b
  rw [this]; exact h
/-- an array's class has one number -/
theorem nh_one {i j : Nat} {c1 c2 : ClassId} {ty : FieldType} (hK : va_K D cl tys s) (h1 : tys[i]? = some (c1, ty)) (h2 : tys[j]? = some (c2, ty)) : c1 = c2 := by
  have a1 := (hK.2 i _ h1).2
  have a2 := (hK.2 j _ h2).2
  cases ty with
  | object C =>
    obtain ⟨_, _, -, -, -, b1⟩ := a1
    obtain ⟨_, _, -, -, -, b2⟩ := a2
    exact Option.some.inj (b1.symm.trans b2)
  | _ => exact Option.some.inj (Eq.trans (Eq.symm a1) a2)
end NHeap
