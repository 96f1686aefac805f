/-! Methods that make cells: their contracts, calls and ends. -/
def nf_kp (sh : nf_H) (ad ad' : nf_A) : Prop := ∀ (a b : Nat) (x : nf_O), sh a b = some x → ad' a b = ad a b
theorem nf_kp.rf {sh : nf_H} {ad : nf_A} : nf_kp sh ad ad := fun _ _ _ _ => rfl
theorem nf_kp.new {sh : nf_H} {ad : nf_A} {k i q : Nat} (h : sh k i = none) : nf_kp sh ad (nh_ad ad k i q) := fun a b x hx => nh_ad_old ad (fun z => by rw [z.1, z.2, h] at hx; cases hx)
theorem nf_kp.tr {sh sh2 : nf_H} {a b c : nf_A} (h1 : nf_kp sh a b) (h2 : nf_kp sh2 b c) (hs : ∀ (k i : Nat) (x : nf_O), sh k i = some x → ∃ y, sh2 k i = some y) : nf_kp sh a c := fun k i x hx => by
  obtain ⟨y, hy⟩ := hs k i x hx
  rw [h2 k i y hy, h1 k i x hx]
theorem nf_su_gr {sh : nf_H} {k i : Nat} {z : nf_O} : ∀ (a b : Nat) (x : nf_O), sh a b = some x → ∃ y, nf_su sh k i z a b = some y := by
  intro a b x hx
  by_cases h : a = k ∧ b = i
  · exact ⟨z, by unfold nf_su; rw [if_pos h]⟩
  · exact ⟨x, by rw [nf_su_n _ _ h]; exact hx⟩
abbrev nf_W : Type := nf_H × nf_A × nf_I × nf_J × nf_P
abbrev nf_pX (sh : nf_H) (ad : nf_A) (sh1 : nf_H) (I1 : nf_I) (J1 : nf_J) (P1 : nf_P) : nf_W → Prop := fun w => w.1 = sh1 ∧ w.2.2 = (I1, J1, P1) ∧ nf_kp sh ad w.2.1
section NAlloc
variable {p : Program} {l : Launch} {e : Env} {R : Room} {s : State} {m : MethodId} {args : Array Value} {below : List Frame} {meth : Method} {c : Code} {H : Heap} {locs : List Loc} {cells slots mc ms : Nat} {Q : State → Prop}
variable {cc : ByteArray} {pc : Nat} {ls : Array Slot} {rest st0 : List Value} {D : va_G} {cl : List vw_C} {tys : List (ClassId × FieldType)} {H0 : Heap} {ad ad' : nf_A} {sh sh' sh1 : nf_H} {I I' I1 : nf_I} {J J' J1 : nf_J} {P P' P1 : nf_P} {k i n : Nat}
variable {nL Bs N ci : Nat} {Ts : List Cond} {own C : String} {T : u_T} {fs : List nf_F} {a : Array Value} {cA : ClassId}
theorem nf_alen (hC : nf_C p m c cc nL s args Ts own D cl tys) (hM : nf_M D cl Bs sh ad I J P H0 H locs) (t0 : Nat) {g : Nat} (hg : sh k i = some (.inr (cA, n, g))) {ty : FieldType} (ht : tys[t0]? = some (cA, ty)) (hdg : decode cc pc = .ok (.arraylength, 1))
    (kk : W p l e R s m args below meth c H locs cells slots Q (F0 m (pc + 1) ls (.int (nI n) :: rest))) : W p l e R s m args below meth c H locs cells slots Q (F0 m pc ls (.ref (ad k i) :: rest)) := by
  obtain ⟨⟨hx, hb, hml, hown, hts⟩, hK⟩ := hC
  obtain ⟨ws, q0, hP, hq⟩ := nh_at hM.1 (nf_G_at hg)
  match g with
  | 0 => exact va_alen hx hb hK hP q0 t0 hq ht rfl hdg kk
  | 1 => exact va_alen hx hb hK hP q0 t0 hq ht rfl hdg kk
  | g + 2 => exact va_alen hx hb hK hP q0 t0 hq ht rfl hdg kk
theorem nf_retvX (hC : nf_C p m c cc nL s args Ts own D cl tys) (hr : meth.sig.returnType = none) (hlk : meth.locks = false) (hM : nf_M D cl Bs sh' ad' I' J' P' s.heap H locs) (hk : nf_kp sh ad ad') (hs : sh' = sh1) (hI : I' = I1) (hJ : J' = J1) (hP : P' = P1) (hdg : decode cc pc = .ok (.return_, 1)) : W p l e R s m args below meth c H locs cells slots (MQ below (va_Qv (nf_pX sh ad sh1 I1 J1 P1) (nf_X D cl tys Bs) (fun q => Bs ≤ q)) args s cells slots (fun q => Bs ≤ q)) (F0 m pc ls []) := by
  subst hs hI hJ hP
  exact W.vret hC.1.1 hC.1.2.1 hr (fun t ht hW => ⟨⟨(sh', ad', I', J', P'), rfl, ⟨rfl, rfl, hk⟩, nf_end hC hM ht hW⟩, hM.2.2.1.F ht⟩) hM.2.2.1.2.2 hdg hlk
theorem nf_retqX (hC : nf_C p m c cc nL s args Ts own D cl tys) {rt : String} (hr : meth.sig.returnType = some (.object rt)) (hlk : meth.locks = false) (hM : nf_M D cl Bs sh' ad' I' J' P' s.heap H locs) (hk : nf_kp sh ad ad') (hs : sh' = sh1) (hI : I' = I1) (hJ : J' = J1) (hP : P' = P1) {k i : Nat} (hdg : decode cc pc = .ok (.areturn, 1)) : W p l e R s m args below meth c H locs cells slots (MQ below (va_Qq (fun (r : Option Nat) (w : nf_W) => r = some (w.2.1 k i) ∧ nf_pX sh ad sh1 I1 J1 P1 w) (nf_X D cl tys Bs) (fun q => Bs ≤ q)) args s cells slots (fun q => Bs ≤ q)) (F0 m pc ls [.ref (ad' k i)]) := by
  subst hs hI hJ hP
  exact W.aret hC.1.1 hC.1.2.1 hr (Or.inl ⟨rt, rfl⟩) (Or.inr ⟨_, rfl⟩) (fun t ht hW => ⟨⟨some (ad' k i), (sh', ad', I', J', P'), rfl, ⟨rfl, rfl, rfl, hk⟩, nf_end hC hM ht hW⟩, hM.2.2.1.F ht⟩) hM.2.2.1.2.2 hdg hlk
theorem nf_retzX (hC : nf_C p m c cc nL s args Ts own D cl tys) (hr : meth.sig.returnType = some .boolean) (hlk : meth.locks = false) (hM : nf_M D cl Bs sh' ad' I' J' P' s.heap H locs) (hk : nf_kp sh ad ad') (hs : sh' = sh1) (hI : I' = I1) (hJ : J' = J1) (hP : P' = P1) {v : Int32} {b : Bool} (hv : v = nb_I b) (hc : cells ≤ mc) (hsl : slots ≤ ms) (hdg : decode cc pc = .ok (.ireturn, 1)) : W p l e R s m args below meth c H locs cells slots (MQ below (va_Qi (fun (r : Int32) (w : nf_W) => r = nb_I b ∧ nf_pX sh ad sh1 I1 J1 P1 w) (nf_X D cl tys Bs) (fun q => Bs ≤ q)) args s mc ms (fun q => Bs ≤ q)) (F0 m pc ls [.int v]) := by
  subst hs hI hJ hP hv
  refine W.widen hc hsl ?_
  exact W.zret hC.1.1 hC.1.2.1 hr (nb_n b) (fun t ht hW => ⟨⟨nb_I b, (sh', ad', I', J', P'), rfl, ⟨rfl, rfl, rfl, hk⟩, nf_end hC hM ht hW⟩, hM.2.2.1.F ht⟩) hM.2.2.1.2.2 hdg hlk
theorem nf_callvX (hr : va_Run p l e R s m args below meth c H locs cells slots mc ms (F0 m pc ls st0) rest (va_Qv (nf_pX sh ad sh1 I1 J1 P1) (nf_X D cl tys Bs) (fun q => Bs ≤ q) a) (fun q => Bs ≤ q)) (hM : nf_M D cl Bs sh ad I J P H0 H locs)
    (kk : ∀ (ad' : nf_A) (H1 : Heap) (locs1 : List Loc), nf_kp sh ad ad' → nf_M D cl Bs sh1 ad' I1 J1 P1 H0 H1 locs1 → W p l e R s m args below meth c H1 locs1 (cells + mc) (slots + ms) Q (F0 m (pc + 3) ls rest)) : W p l e R s m args below meth c H locs cells slots Q (F0 m pc ls st0) := by
  obtain ⟨h1, h2, hS, hB⟩ := hM
  refine va_callv hr hS (fun q _ h => h) (fun q h => h) (fun u t H1 locs1 ht hvm hw hBu hz hk hS1 => ?_)
  obtain ⟨e1, e2, hkp⟩ := hw
  obtain ⟨x1, x2, x3, x4, x5⟩ := u
  simp only at e1
  subst e1
  simp only [Prod.mk.injEq] at e2
  obtain ⟨rfl, rfl, rfl⟩ := e2
  obtain ⟨-, hN⟩ := hBu
  rw [ht] at hN
  exact kk x2 H1 locs1 hkp ⟨hN.1, hN.2.1, hS1, hB⟩
theorem nf_callqX {k i : Nat} (hr : va_Run p l e R s m args below meth c H locs cells slots mc ms (F0 m pc ls st0) rest (va_Qq (fun (r : Option Nat) (w : nf_W) => r = some (w.2.1 k i) ∧ nf_pX sh ad sh1 I1 J1 P1 w) (nf_X D cl tys Bs) (fun q => Bs ≤ q) a) (fun q => Bs ≤ q)) (hM : nf_M D cl Bs sh ad I J P H0 H locs)
    (kk : ∀ (ad' : nf_A) (H1 : Heap) (locs1 : List Loc), nf_kp sh ad ad' → nf_M D cl Bs sh1 ad' I1 J1 P1 H0 H1 locs1 → W p l e R s m args below meth c H1 locs1 (cells + mc) (slots + ms) Q (F0 m (pc + 3) ls (.ref (ad' k i) :: rest))) : W p l e R s m args below meth c H locs cells slots Q (F0 m pc ls st0) := by
  obtain ⟨h1, h2, hS, hB⟩ := hM
  refine va_callq hr hS (fun q _ h => h) (fun q h => h) (fun r u t H1 locs1 ht hvm hw hBu hz hk hS1 => ?_)
  obtain ⟨er, e1, e2, hkp⟩ := hw
  obtain ⟨x1, x2, x3, x4, x5⟩ := u
  simp only at e1
  subst e1
  simp only [Prod.mk.injEq] at e2
  obtain ⟨rfl, rfl, rfl⟩ := e2
  obtain ⟨-, hN⟩ := hBu
  rw [ht] at hN
  subst er
  exact kk x2 H1 locs1 hkp ⟨hN.1, hN.2.1, hS1, hB⟩
theorem nf_calliX {r : Int32} (hr : va_Run p l e R s m args below meth c H locs cells slots mc ms (F0 m pc ls st0) rest (va_Qi (fun (r' : Int32) (w : nf_W) => r' = r ∧ nf_pX sh ad sh1 I1 J1 P1 w) (nf_X D cl tys Bs) (fun q => Bs ≤ q) a) (fun q => Bs ≤ q)) (hM : nf_M D cl Bs sh ad I J P H0 H locs)
    (kk : ∀ (ad' : nf_A) (H1 : Heap) (locs1 : List Loc), nf_kp sh ad ad' → nf_M D cl Bs sh1 ad' I1 J1 P1 H0 H1 locs1 → W p l e R s m args below meth c H1 locs1 (cells + mc) (slots + ms) Q (F0 m (pc + 3) ls (.int r :: rest))) : W p l e R s m args below meth c H locs cells slots Q (F0 m pc ls st0) := by
  obtain ⟨h1, h2, hS, hB⟩ := hM
  refine va_calli hr hS (fun q _ h => h) (fun q h => h) (fun r' u t H1 locs1 ht hvm hw hBu hz hk hS1 => ?_)
  obtain ⟨er, e1, e2, hkp⟩ := hw
  obtain ⟨x1, x2, x3, x4, x5⟩ := u
  simp only at e1
  subst e1
  simp only [Prod.mk.injEq] at e2
  obtain ⟨rfl, rfl, rfl⟩ := e2
  obtain ⟨-, hN⟩ := hBu
  rw [ht] at hN
  subst er
  exact kk x2 H1 locs1 hkp ⟨hN.1, hN.2.1, hS1, hB⟩
end NAlloc
