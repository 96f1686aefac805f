/-! A method's start, its end, and a call, over the memory by fields. -/
def nb_I (b : Bool) : Int32 := if b then 1 else 0
theorem nb_0 {b : Bool} (h : nb_I b = 0) : b = false := by cases b with
  | false => rfl
  | true => exact absurd h (by decide +kernel)
theorem nb_1 {b : Bool} (h : ¬ nb_I b = 0) : b = true := by cases b with
  | false => exact absurd rfl h
  | true => rfl
theorem nb_n (b : Bool) : narrow .boolean (.int (nb_I b)) = .int (nb_I b) := by cases b <;> decide +kernel
def nf_U (D : va_G) (cl : List vw_C) (tys : List (ClassId × FieldType)) (Bs : Nat) (sh : nf_H) (ad : nf_A) (u : nf_I × nf_J × nf_P) (U : State) : Prop := va_K D cl tys U ∧ nf_M D cl Bs sh ad u.1 u.2.1 u.2.2 U.heap U.heap []
def nf_X (D : va_G) (cl : List vw_C) (tys : List (ClassId × FieldType)) (Bs : Nat) (w : nf_H × nf_A × nf_I × nf_J × nf_P) (U : State) : Prop := nf_U D cl tys Bs w.1 w.2.1 w.2.2 U
abbrev nf_Rm (fr lo : Nat) : Room := { frames := fr, cells := 0, slots := 0, locals := lo }
abbrev nf_Ti (l : Launch) (y : MethodName) (ws : List Cond) (fr lo : Nat) (D : va_G) (cl : List vw_C) (tys : List (ClassId × FieldType)) (Bs : Nat) (sh : nf_H) (ad : nf_A) (As : List Value) (I : nf_I) (J : nf_J) (P : nf_P) (r : Int32) (I1 : nf_I) (J1 : nf_J) (P1 : nf_P) : Prop := Met l y ws (nf_Rm fr lo) (va_Pc As (nf_U D cl tys Bs sh ad (I, J, P))) (va_Qi (fun (r' : Int32) (u : nf_I × nf_J × nf_P) => r' = r ∧ u = (I1, J1, P1)) (nf_U D cl tys Bs sh ad) (fun q => Bs ≤ q)) 0 0 (fun q => Bs ≤ q)
abbrev nf_Tl (l : Launch) (y : MethodName) (ws : List Cond) (fr lo : Nat) (D : va_G) (cl : List vw_C) (tys : List (ClassId × FieldType)) (Bs : Nat) (sh : nf_H) (ad : nf_A) (As : List Value) (I : nf_I) (J : nf_J) (P : nf_P) (r : Int64) (I1 : nf_I) (J1 : nf_J) (P1 : nf_P) : Prop := Met l y ws (nf_Rm fr lo) (va_Pc As (nf_U D cl tys Bs sh ad (I, J, P))) (va_Ql (fun (r' : Int64) (u : nf_I × nf_J × nf_P) => r' = r ∧ u = (I1, J1, P1)) (nf_U D cl tys Bs sh ad) (fun q => Bs ≤ q)) 0 0 (fun q => Bs ≤ q)
abbrev nf_Tv (l : Launch) (y : MethodName) (ws : List Cond) (fr lo : Nat) (D : va_G) (cl : List vw_C) (tys : List (ClassId × FieldType)) (Bs : Nat) (sh : nf_H) (ad : nf_A) (As : List Value) (I : nf_I) (J : nf_J) (P : nf_P) (I1 : nf_I) (J1 : nf_J) (P1 : nf_P) : Prop := Met l y ws (nf_Rm fr lo) (va_Pc As (nf_U D cl tys Bs sh ad (I, J, P))) (va_Qv (fun (u : nf_I × nf_J × nf_P) => u = (I1, J1, P1)) (nf_U D cl tys Bs sh ad) (fun q => Bs ≤ q)) 0 0 (fun q => Bs ≤ q)
abbrev nf_Tq (l : Launch) (y : MethodName) (ws : List Cond) (fr lo : Nat) (D : va_G) (cl : List vw_C) (tys : List (ClassId × FieldType)) (Bs : Nat) (sh : nf_H) (ad : nf_A) (As : List Value) (I : nf_I) (J : nf_J) (P : nf_P) (r : Option Nat) (I1 : nf_I) (J1 : nf_J) (P1 : nf_P) : Prop := Met l y ws (nf_Rm fr lo) (va_Pc As (nf_U D cl tys Bs sh ad (I, J, P))) (va_Qq (fun (r' : Option Nat) (u : nf_I × nf_J × nf_P) => r' = r ∧ u = (I1, J1, P1)) (nf_U D cl tys Bs sh ad) (fun q => Bs ≤ q)) 0 0 (fun q => Bs ≤ q)
section NCalls
variable {p : Program} {l : Launch} {e : Env} {R : Room} {s : State} {m : MethodId} {args : Array Value} {below : List Frame} {meth : Method} {c : Code} {H : Heap} {locs : List Loc} {cells slots : Nat} {Q : State → Prop}
variable {cc : ByteArray} {pc : Nat} {ls : Array Slot} {rest st0 : List Value} {D : va_G} {cl : List vw_C} {tys : List (ClassId × FieldType)} {H0 : Heap} {ad : nf_A} {sh : nf_H} {I I1 : nf_I} {J J1 : nf_J} {P P1 : nf_P} {k i : Nat}
variable {nL Bs N ci : Nat} {Ts : List Cond} {own C : String} {T : u_T} {fs : List nf_F} {a : Array Value}
theorem nf_M.here (h : nf_M D cl Bs sh ad I J P H0 H locs) : nf_M D cl Bs sh ad I J P H H [] := ⟨h.1, h.2.1, va_S.rf, Nat.le_trans h.2.2.2 h.2.2.1.1⟩
theorem nf_preS (hC : nf_C p m c cc nL s args Ts own D cl tys) (hM : nf_M D cl Bs sh ad I J P H0 H locs) {As : List Value} : PreS s H (va_Pc As (nf_U D cl tys Bs sh ad (I, J, P))) As :=
  ⟨fun a U g mk q => ⟨q.1, va_K.moved (u := U) (U := U.calling g mk a) (Vm.Alike.refl U.vm) q.2.1, q.2.2⟩, fun U hU hW => ⟨rfl, va_K.moved hW.alike hC.2, by rw [hU]; exact hM.here⟩⟩
theorem nf_preV (hC : nf_C p m c cc nL s args Ts own D cl tys) (hM : nf_M D cl Bs sh ad I J P H0 H locs) {As : List Value} (hg : sh k i = some (.inl (ci, fs))) (hc : cl[ci]? = some (C, T, N)) : PreV s H C (ad k i) (va_Pc (.ref (ad k i) :: As) (nf_U D cl tys Bs sh ad (I, J, P))) As := by
  obtain ⟨ws, q0, hP, hq⟩ := nh_at hM.1 (nf_G_at hg)
  exact ⟨(nf_preS hC hM).1, va_recv hC.2 hP hc hq, (nf_preS (As := .ref (ad k i) :: As) hC hM).2⟩
theorem nf_enter {y : MethodName} {ws ws' : List Cond} {rm : Room} {As : List Value} {B : State → Prop} {Qc : Array Value → State → Outcome → State → Prop} {mc ms : Nat} {free : Addr → Prop} {cc : ByteArray} {maxL : Nat} {ret : Option FieldType} (hy : plainName y.cls = true) (hw : ws = Cond.code y cc maxL ret :: ws') (hlen : (lg_sl As).length ≤ maxL)
    (body : ∀ (p : Program) (e : Env) (s : State) (m : MethodId) (below : List Frame) (meth : Method) (c : Code) (ls : Array Slot), CallFix p m c cc maxL s As.toArray ws y.cls → meth.sig.returnType = ret → meth.locks = false → meth.name = y.name → B s → lv_has ls maxL (lv_args 0 As) → W p l e rm s m As.toArray below meth c s.heap [] 0 0 (MQ below Qc As.toArray s mc ms free) (F0 m 0 ls [])) : Met l y ws rm (va_Pc As B) Qc mc ms free := by
  refine Met.ofW (cc := cc) (maxL := maxL) (ret := ret) hy hw ?_
  intro p e s m args below meth c s₁ B' hml hv
  obtain ⟨rfl, hB⟩ := hv
  rw [lg_entry_eq]
  exact body p e s m below meth c _ ⟨B'.exec, B'.bytes, hml, findClass_of_methodNamed B'.named, atoms_spec (ws := ws) B'.pre⟩ B'.returns B'.notSynchronized (name_of_methodNamed B'.named B'.method).1 hB (lv_entry As hlen)
/-! ends -/
theorem nf_end (hC : nf_C p m c cc nL s args Ts own D cl tys) (hM : nf_M D cl Bs sh ad I J P s.heap H locs) {t : State} (ht : t.heap = H) (hW : s.WarmedH t.vm) : nf_U D cl tys Bs sh ad (I, J, P) t := ⟨va_K.moved hW.alike hC.2, by rw [ht]; exact hM.here⟩
theorem nf_reti (hC : nf_C p m c cc nL s args Ts own D cl tys) (hr : meth.sig.returnType = some .int) (hlk : meth.locks = false) (hM : nf_M D cl Bs sh ad I J P s.heap H locs) {v r : Int32} (hv : v = r) (hI : I = I1) (hJ : J = J1) (hP : P = P1) (hdg : decode cc pc = .ok (.ireturn, 1)) : W p l e R s m args below meth c H locs cells slots (MQ below (va_Qi (fun (r' : Int32) (u : nf_I × nf_J × nf_P) => r' = r ∧ u = (I1, J1, P1)) (nf_U D cl tys Bs sh ad) (fun q => Bs ≤ q)) args s cells slots (fun q => Bs ≤ q)) (F0 m pc ls [.int v]) := by
  subst hv hI hJ hP
  exact W.iret hC.1.1 hC.1.2.1 hr (fun t ht hW => ⟨⟨v, (I, J, P), rfl, ⟨rfl, rfl⟩, nf_end hC hM ht hW⟩, hM.2.2.1.F ht⟩) hM.2.2.1.2.2 hdg hlk
theorem nf_retz (hC : nf_C p m c cc nL s args Ts own D cl tys) (hr : meth.sig.returnType = some .boolean) (hlk : meth.locks = false) (hM : nf_M D cl Bs sh ad I J P s.heap H locs) {v : Int32} {b : Bool} (hv : v = nb_I b) (hI : I = I1) (hJ : J = J1) (hP : P = P1) (hdg : decode cc pc = .ok (.ireturn, 1)) : W p l e R s m args below meth c H locs cells slots (MQ below (va_Qi (fun (r' : Int32) (u : nf_I × nf_J × nf_P) => r' = nb_I b ∧ u = (I1, J1, P1)) (nf_U D cl tys Bs sh ad) (fun q => Bs ≤ q)) args s cells slots (fun q => Bs ≤ q)) (F0 m pc ls [.int v]) := by
  subst hv hI hJ hP
  exact W.zret hC.1.1 hC.1.2.1 hr (nb_n b) (fun t ht hW => ⟨⟨nb_I b, (I, J, P), rfl, ⟨rfl, rfl⟩, nf_end hC hM ht hW⟩, hM.2.2.1.F ht⟩) hM.2.2.1.2.2 hdg hlk
theorem nf_retl (hC : nf_C p m c cc nL s args Ts own D cl tys) (hr : meth.sig.returnType = some .long) (hlk : meth.locks = false) (hM : nf_M D cl Bs sh ad I J P s.heap H locs) {v r : Int64} (hv : v = r) (hI : I = I1) (hJ : J = J1) (hP : P = P1) (hdg : decode cc pc = .ok (.lreturn, 1)) : W p l e R s m args below meth c H locs cells slots (MQ below (va_Ql (fun (r' : Int64) (u : nf_I × nf_J × nf_P) => r' = r ∧ u = (I1, J1, P1)) (nf_U D cl tys Bs sh ad) (fun q => Bs ≤ q)) args s cells slots (fun q => Bs ≤ q)) (F0 m pc ls [.long v]) := by
  subst hv hI hJ hP
  exact W.lret hC.1.1 hC.1.2.1 hr (fun t ht hW => ⟨⟨v, (I, J, P), rfl, ⟨rfl, rfl⟩, nf_end hC hM ht hW⟩, hM.2.2.1.F ht⟩) hM.2.2.1.2.2 hdg hlk
theorem nf_retv (hC : nf_C p m c cc nL s args Ts own D cl tys) (hr : meth.sig.returnType = none) (hlk : meth.locks = false) (hM : nf_M D cl Bs sh ad I J P s.heap H locs) (hI : I = I1) (hJ : J = J1) (hP : P = P1) (hdg : decode cc pc = .ok (.return_, 1)) : W p l e R s m args below meth c H locs cells slots (MQ below (va_Qv (fun (u : nf_I × nf_J × nf_P) => u = (I1, J1, P1)) (nf_U D cl tys Bs sh ad) (fun q => Bs ≤ q)) args s cells slots (fun q => Bs ≤ q)) (F0 m pc ls []) := by
  subst hI hJ hP
  exact W.vret hC.1.1 hC.1.2.1 hr (fun t ht hW => ⟨⟨(I, J, P), rfl, rfl, nf_end hC hM ht hW⟩, hM.2.2.1.F ht⟩) hM.2.2.1.2.2 hdg hlk
theorem nf_retq (hC : nf_C p m c cc nL s args Ts own D cl tys) {rt : String} (hr : meth.sig.returnType = some (.object rt)) (hlk : meth.locks = false) (hM : nf_M D cl Bs sh ad I J P s.heap H locs) {v : Value} {r : Option Nat} (hv : v = va_rf r) (hI : I = I1) (hJ : J = J1) (hP : P = P1) (hdg : decode cc pc = .ok (.areturn, 1)) : W p l e R s m args below meth c H locs cells slots (MQ below (va_Qq (fun (r' : Option Nat) (u : nf_I × nf_J × nf_P) => r' = r ∧ u = (I1, J1, P1)) (nf_U D cl tys Bs sh ad) (fun q => Bs ≤ q)) args s cells slots (fun q => Bs ≤ q)) (F0 m pc ls [v]) := by
  subst hv hI hJ hP
  exact W.aret hC.1.1 hC.1.2.1 hr (Or.inl ⟨rt, rfl⟩) (by cases r with
    | none => exact Or.inl rfl
    | some a => exact Or.inr ⟨a, rfl⟩) (fun t ht hW => ⟨⟨r, (I, J, P), rfl, ⟨rfl, rfl⟩, nf_end hC hM ht hW⟩, hM.2.2.1.F ht⟩) hM.2.2.1.2.2 hdg hlk
/-! a method's walk: its end is given as a row -/
theorem nf_enteri {y : MethodName} {ws ws' : List Cond} {fr lo : Nat} {As : List Value} {cc : ByteArray} {maxL : Nat} {r : Int32} (hy : plainName y.cls = true) (hw : ws = Cond.code y cc maxL (some .int) :: ws') (hlen : (lg_sl As).length ≤ maxL)
    (body : ∀ (p : Program) (e : Env) (s : State) (m : MethodId) (below : List Frame) (meth : Method) (c : Code) (ls : Array Slot) (Q : State → Prop), nf_C p m c cc maxL s As.toArray ws y.cls D cl tys → nf_M D cl Bs sh ad I J P s.heap s.heap [] → lv_has ls maxL (lv_args 0 As) →
      (∀ (H : Heap) (locs : List Loc) (ls : Array Slot) (pc : Nat) (v : Int32) (I' : nf_I) (J' : nf_J) (P' : nf_P), v = r → I' = I1 → J' = J1 → P' = P1 → nf_M D cl Bs sh ad I' J' P' s.heap H locs → decode cc pc = .ok (.ireturn, 1) → W p l e (nf_Rm fr lo) s m As.toArray below meth c H locs 0 0 Q (F0 m pc ls [.int v])) →
      W p l e (nf_Rm fr lo) s m As.toArray below meth c s.heap [] 0 0 Q (F0 m 0 ls [])) : nf_Ti l y ws fr lo D cl tys Bs sh ad As I J P r I1 J1 P1 := by
  refine nf_enter hy hw hlen ?_
  intro p e s m below meth c ls hF hr hlk hnm hU hl
  obtain ⟨hK, hM⟩ := hU
  refine body p e s m below meth c ls _ ⟨hF, hK⟩ hM hl ?_
  intro H locs ls pc v I' J' P' h1 h2 h3 h4 hM' hd
  exact nf_reti ⟨hF, hK⟩ hr hlk hM' h1 h2 h3 h4 hd
theorem nf_enterz {y : MethodName} {ws ws' : List Cond} {fr lo : Nat} {As : List Value} {cc : ByteArray} {maxL : Nat} {b : Bool} (hy : plainName y.cls = true) (hw : ws = Cond.code y cc maxL (some .boolean) :: ws') (hlen : (lg_sl As).length ≤ maxL)
    (body : ∀ (p : Program) (e : Env) (s : State) (m : MethodId) (below : List Frame) (meth : Method) (c : Code) (ls : Array Slot) (Q : State → Prop), nf_C p m c cc maxL s As.toArray ws y.cls D cl tys → nf_M D cl Bs sh ad I J P s.heap s.heap [] → lv_has ls maxL (lv_args 0 As) →
      (∀ (H : Heap) (locs : List Loc) (ls : Array Slot) (pc : Nat) (v : Int32) (I' : nf_I) (J' : nf_J) (P' : nf_P), v = nb_I b → I' = I1 → J' = J1 → P' = P1 → nf_M D cl Bs sh ad I' J' P' s.heap H locs → decode cc pc = .ok (.ireturn, 1) → W p l e (nf_Rm fr lo) s m As.toArray below meth c H locs 0 0 Q (F0 m pc ls [.int v])) →
      W p l e (nf_Rm fr lo) s m As.toArray below meth c s.heap [] 0 0 Q (F0 m 0 ls [])) : nf_Ti l y ws fr lo D cl tys Bs sh ad As I J P (nb_I b) I1 J1 P1 := by
  refine nf_enter hy hw hlen ?_
  intro p e s m below meth c ls hF hr hlk hnm hU hl
  obtain ⟨hK, hM⟩ := hU
  refine body p e s m below meth c ls _ ⟨hF, hK⟩ hM hl ?_
  intro H locs ls pc v I' J' P' h1 h2 h3 h4 hM' hd
  exact nf_retz ⟨hF, hK⟩ hr hlk hM' h1 h2 h3 h4 hd
theorem nf_enterl {y : MethodName} {ws ws' : List Cond} {fr lo : Nat} {As : List Value} {cc : ByteArray} {maxL : Nat} {r : Int64} (hy : plainName y.cls = true) (hw : ws = Cond.code y cc maxL (some .long) :: ws') (hlen : (lg_sl As).length ≤ maxL)
    (body : ∀ (p : Program) (e : Env) (s : State) (m : MethodId) (below : List Frame) (meth : Method) (c : Code) (ls : Array Slot) (Q : State → Prop), nf_C p m c cc maxL s As.toArray ws y.cls D cl tys → nf_M D cl Bs sh ad I J P s.heap s.heap [] → lv_has ls maxL (lv_args 0 As) →
      (∀ (H : Heap) (locs : List Loc) (ls : Array Slot) (pc : Nat) (v : Int64) (I' : nf_I) (J' : nf_J) (P' : nf_P), v = r → I' = I1 → J' = J1 → P' = P1 → nf_M D cl Bs sh ad I' J' P' s.heap H locs → decode cc pc = .ok (.lreturn, 1) → W p l e (nf_Rm fr lo) s m As.toArray below meth c H locs 0 0 Q (F0 m pc ls [.long v])) →
      W p l e (nf_Rm fr lo) s m As.toArray below meth c s.heap [] 0 0 Q (F0 m 0 ls [])) : nf_Tl l y ws fr lo D cl tys Bs sh ad As I J P r I1 J1 P1 := by
  refine nf_enter hy hw hlen ?_
  intro p e s m below meth c ls hF hr hlk hnm hU hl
  obtain ⟨hK, hM⟩ := hU
  refine body p e s m below meth c ls _ ⟨hF, hK⟩ hM hl ?_
  intro H locs ls pc v I' J' P' h1 h2 h3 h4 hM' hd
  exact nf_retl ⟨hF, hK⟩ hr hlk hM' h1 h2 h3 h4 hd
theorem nf_enterv {y : MethodName} {ws ws' : List Cond} {fr lo : Nat} {As : List Value} {cc : ByteArray} {maxL : Nat} (hy : plainName y.cls = true) (hw : ws = Cond.code y cc maxL none :: ws') (hlen : (lg_sl As).length ≤ maxL)
    (body : ∀ (p : Program) (e : Env) (s : State) (m : MethodId) (below : List Frame) (meth : Method) (c : Code) (ls : Array Slot) (Q : State → Prop), nf_C p m c cc maxL s As.toArray ws y.cls D cl tys → nf_M D cl Bs sh ad I J P s.heap s.heap [] → lv_has ls maxL (lv_args 0 As) →
      (∀ (H : Heap) (locs : List Loc) (ls : Array Slot) (pc : Nat) (I' : nf_I) (J' : nf_J) (P' : nf_P), I' = I1 → J' = J1 → P' = P1 → nf_M D cl Bs sh ad I' J' P' s.heap H locs → decode cc pc = .ok (.return_, 1) → W p l e (nf_Rm fr lo) s m As.toArray below meth c H locs 0 0 Q (F0 m pc ls [])) →
      W p l e (nf_Rm fr lo) s m As.toArray below meth c s.heap [] 0 0 Q (F0 m 0 ls [])) : nf_Tv l y ws fr lo D cl tys Bs sh ad As I J P I1 J1 P1 := by
  refine nf_enter hy hw hlen ?_
  intro p e s m below meth c ls hF hr hlk hnm hU hl
  obtain ⟨hK, hM⟩ := hU
  refine body p e s m below meth c ls _ ⟨hF, hK⟩ hM hl ?_
  intro H locs ls pc I' J' P' h2 h3 h4 hM' hd
  exact nf_retv ⟨hF, hK⟩ hr hlk hM' h2 h3 h4 hd
theorem nf_enterq {y : MethodName} {ws ws' : List Cond} {fr lo : Nat} {As : List Value} {cc : ByteArray} {maxL : Nat} {r : Option Nat} {rt : String} (hy : plainName y.cls = true) (hw : ws = Cond.code y cc maxL (some (.object rt)) :: ws') (hlen : (lg_sl As).length ≤ maxL)
    (body : ∀ (p : Program) (e : Env) (s : State) (m : MethodId) (below : List Frame) (meth : Method) (c : Code) (ls : Array Slot) (Q : State → Prop), nf_C p m c cc maxL s As.toArray ws y.cls D cl tys → nf_M D cl Bs sh ad I J P s.heap s.heap [] → lv_has ls maxL (lv_args 0 As) →
      (∀ (H : Heap) (locs : List Loc) (ls : Array Slot) (pc : Nat) (v : Value) (I' : nf_I) (J' : nf_J) (P' : nf_P), v = va_rf r → I' = I1 → J' = J1 → P' = P1 → nf_M D cl Bs sh ad I' J' P' s.heap H locs → decode cc pc = .ok (.areturn, 1) → W p l e (nf_Rm fr lo) s m As.toArray below meth c H locs 0 0 Q (F0 m pc ls [v])) →
      W p l e (nf_Rm fr lo) s m As.toArray below meth c s.heap [] 0 0 Q (F0 m 0 ls [])) : nf_Tq l y ws fr lo D cl tys Bs sh ad As I J P r I1 J1 P1 := by
  refine nf_enter hy hw hlen ?_
  intro p e s m below meth c ls hF hr hlk hnm hU hl
  obtain ⟨hK, hM⟩ := hU
  refine body p e s m below meth c ls _ ⟨hF, hK⟩ hM hl ?_
  intro H locs ls pc v I' J' P' h1 h2 h3 h4 hM' hd
  exact nf_retq ⟨hF, hK⟩ hr hlk hM' h1 h2 h3 h4 hd
/-! behind a call -/
theorem nf_calli {r : Int32} (hr : va_Run p l e R s m args below meth c H locs cells slots 0 0 (F0 m pc ls st0) rest (va_Qi (fun (r' : Int32) (u : nf_I × nf_J × nf_P) => r' = r ∧ u = (I1, J1, P1)) (nf_U D cl tys Bs sh ad) (fun q => Bs ≤ q) a) (fun q => Bs ≤ q)) (hM : nf_M D cl Bs sh ad I J P H0 H locs)
    (kk : ∀ (H1 : Heap) (locs1 : List Loc), nf_M D cl Bs sh ad I1 J1 P1 H0 H1 locs1 → W p l e R s m args below meth c H1 locs1 cells slots Q (F0 m (pc + 3) ls (.int r :: rest))) : W p l e R s m args below meth c H locs cells slots Q (F0 m pc ls st0) := by
  obtain ⟨h1, h2, hS, hB⟩ := hM
  refine va_calli hr hS (fun q _ h => h) (fun q h => h) (fun r' u t H1 locs1 ht hvm hw hBu hz hk hS1 => ?_)
  obtain ⟨rfl, rfl⟩ := hw
  obtain ⟨-, hN⟩ := hBu
  rw [ht] at hN
  exact kk H1 locs1 ⟨hN.1, hN.2.1, hS1, hB⟩
theorem nf_calll {r : Int64} (hr : va_Run p l e R s m args below meth c H locs cells slots 0 0 (F0 m pc ls st0) rest (va_Ql (fun (r' : Int64) (u : nf_I × nf_J × nf_P) => r' = r ∧ u = (I1, J1, P1)) (nf_U D cl tys Bs sh ad) (fun q => Bs ≤ q) a) (fun q => Bs ≤ q)) (hM : nf_M D cl Bs sh ad I J P H0 H locs)
    (kk : ∀ (H1 : Heap) (locs1 : List Loc), nf_M D cl Bs sh ad I1 J1 P1 H0 H1 locs1 → W p l e R s m args below meth c H1 locs1 cells slots Q (F0 m (pc + 3) ls (.long r :: rest))) : W p l e R s m args below meth c H locs cells slots Q (F0 m pc ls st0) := by
  obtain ⟨h1, h2, hS, hB⟩ := hM
  refine va_calll hr hS (fun q _ h => h) (fun q h => h) (fun r' u t H1 locs1 ht hvm hw hBu hz hk hS1 => ?_)
  obtain ⟨rfl, rfl⟩ := hw
  obtain ⟨-, hN⟩ := hBu
  rw [ht] at hN
  exact kk H1 locs1 ⟨hN.1, hN.2.1, hS1, hB⟩
theorem nf_callv (hr : va_Run p l e R s m args below meth c H locs cells slots 0 0 (F0 m pc ls st0) rest (va_Qv (fun (u : nf_I × nf_J × nf_P) => u = (I1, J1, P1)) (nf_U D cl tys Bs sh ad) (fun q => Bs ≤ q) a) (fun q => Bs ≤ q)) (hM : nf_M D cl Bs sh ad I J P H0 H locs)
    (kk : ∀ (H1 : Heap) (locs1 : List Loc), nf_M D cl Bs sh ad I1 J1 P1 H0 H1 locs1 → W p l e R s m args below meth c H1 locs1 cells slots Q (F0 m (pc + 3) ls rest)) : W p l e R s m args below meth c H locs cells slots Q (F0 m pc ls st0) := by
  obtain ⟨h1, h2, hS, hB⟩ := hM
  refine va_callv hr hS (fun q _ h => h) (fun q h => h) (fun u t H1 locs1 ht hvm hw hBu hz hk hS1 => ?_)
  subst hw
  obtain ⟨-, hN⟩ := hBu
  rw [ht] at hN
  exact kk H1 locs1 ⟨hN.1, hN.2.1, hS1, hB⟩
theorem nf_callq {r : Option Nat} (hr : va_Run p l e R s m args below meth c H locs cells slots 0 0 (F0 m pc ls st0) rest (va_Qq (fun (r' : Option Nat) (u : nf_I × nf_J × nf_P) => r' = r ∧ u = (I1, J1, P1)) (nf_U D cl tys Bs sh ad) (fun q => Bs ≤ q) a) (fun q => Bs ≤ q)) (hM : nf_M D cl Bs sh ad I J P H0 H locs)
    (kk : ∀ (H1 : Heap) (locs1 : List Loc), nf_M D cl Bs sh ad I1 J1 P1 H0 H1 locs1 → W p l e R s m args below meth c H1 locs1 cells slots Q (F0 m (pc + 3) ls (va_rf r :: rest))) : W p l e R s m args below meth c H locs cells slots Q (F0 m pc ls st0) := by
  obtain ⟨h1, h2, hS, hB⟩ := hM
  refine va_callq hr hS (fun q _ h => h) (fun q h => h) (fun r' u t H1 locs1 ht hvm hw hBu hz hk hS1 => ?_)
  obtain ⟨rfl, rfl⟩ := hw
  obtain ⟨-, hN⟩ := hBu
  rw [ht] at hN
  exact kk H1 locs1 ⟨hN.1, hN.2.1, hS1, hB⟩
end NCalls
