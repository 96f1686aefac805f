/-! Rows over the memory by fields: arrays, new cells, a method's start and end, calls. -/
section NRows
variable {p : Program} {l : Launch} {e : Env} {R : Room} {s : State} {m : MethodId} {args : Array Value} {below : List Frame} {meth : Method} {c : Code} {H : Heap} {locs : List Loc} {cells slots : Nat} {Q : State → Prop}
variable {cc : ByteArray} {pc : Nat} {ls : Array Slot} {rest : List Value} {D : va_G} {cl : List vw_C} {tys : List (ClassId × FieldType)} {H0 : Heap} {ad ad' : nf_A} {sh : nf_H} {I I' I1 : nf_I} {J J' J1 : nf_J} {P P' P1 : nf_P} {k i : Nat}
variable {nL Bs N ci index n z : Nat} {Ts : List Cond} {own C : String} {T : u_T} {fs : List nf_F} {cA : ClassId}
theorem nf_iald (hC : nf_C p m c cc nL s args Ts own D cl tys) (hM : nf_M D cl Bs sh ad I J P H0 H locs) (t0 : Nat) (hg : sh k i = some (.inr (cA, n, 0))) (ht : tys[t0]? = some (cA, .int)) {j : Int32} (jn : Nat) (hj : j = nI jn) (hlt : jn < n) (hn : n < 2 ^ 31) (hdg : decode cc pc = .ok (.iaload, 1))
    (kk : W p l e R s m args below meth c H locs cells slots Q (F0 m (pc + 1) ls (.int (I k i jn) :: rest))) : W p l e R s m args below meth c H locs cells slots Q (F0 m pc ls (.int j :: .ref (ad k i) :: rest)) := by
  obtain ⟨⟨hx, hb, hml, hown, hts⟩, hK⟩ := hC
  obtain ⟨ws, q0, hP, hq⟩ := nh_at hM.1 (nf_G_at hg)
  have hcl : j.toNatClampNeg = jn := by rw [hj]; exact nI_clamp (by omega)
  refine va_iald hx hb hK hP q0 t0 hq ht (by rw [hj]; exact vp_in_nI hlt hn) hdg ?_
  rw [hcl]
  exact kk
theorem nf_lald (hC : nf_C p m c cc nL s args Ts own D cl tys) (hM : nf_M D cl Bs sh ad I J P H0 H locs) (t0 : Nat) (hg : sh k i = some (.inr (cA, n, 1))) (ht : tys[t0]? = some (cA, .long)) {j : Int32} (jn : Nat) (hj : j = nI jn) (hlt : jn < n) (hn : n < 2 ^ 31) (hdg : decode cc pc = .ok (.laload, 1))
    (kk : W p l e R s m args below meth c H locs cells slots Q (F0 m (pc + 1) ls (.long (J k i jn) :: rest))) : W p l e R s m args below meth c H locs cells slots Q (F0 m pc ls (.int j :: .ref (ad k i) :: rest)) := by
  obtain ⟨⟨hx, hb, hml, hown, hts⟩, hK⟩ := hC
  obtain ⟨ws, q0, hP, hq⟩ := nh_at hM.1 (nf_G_at hg)
  have hcl : j.toNatClampNeg = jn := by rw [hj]; exact nI_clamp (by omega)
  refine va_lald hx hb hK hP q0 t0 hq ht (by rw [hj]; exact vp_in_nI hlt hn) hdg ?_
  rw [hcl]
  exact kk
theorem nf_aald (hC : nf_C p m c cc nL s args Ts own D cl tys) (hM : nf_M D cl Bs sh ad I J P H0 H locs) (t0 : Nat) (hg : sh k i = some (.inr (cA, n, 2))) (ht : tys[t0]? = some (cA, .object C)) {j : Int32} (jn : Nat) (hj : j = nI jn) (hlt : jn < n) (hn : n < 2 ^ 31) {k2 i2 : Nat} (hp : P k i jn = some (k2, i2)) (hdg : decode cc pc = .ok (.aaload, 1))
    (kk : W p l e R s m args below meth c H locs cells slots Q (F0 m (pc + 1) ls (.ref (ad k2 i2) :: rest))) : W p l e R s m args below meth c H locs cells slots Q (F0 m pc ls (.int j :: .ref (ad k i) :: rest)) := by
  obtain ⟨⟨hx, hb, hml, hown, hts⟩, hK⟩ := hC
  obtain ⟨ws, q0, hP, hq⟩ := nh_at hM.1 (nf_G_at hg)
  have hcl : j.toNatClampNeg = jn := by rw [hj]; exact nI_clamp (by omega)
  refine va_aldq hx hb hK hP q0 t0 hq ht (by rw [hj]; exact vp_in_nI hlt hn) hdg ?_
  have hv : nf_rf ad P k i jn = some (ad k2 i2) := by unfold nf_rf; rw [hp]; rfl
  rw [hcl, hv]
  exact kk
theorem nf_iast (hC : nf_C p m c cc nL s args Ts own D cl tys) (hM : nf_M D cl Bs sh ad I J P H0 H locs) (t0 : Nat) (hg : sh k i = some (.inr (cA, n, 0))) (ht : tys[t0]? = some (cA, .int)) {j v : Int32} (jn : Nat) (hj : j = nI jn) (hlt : jn < n) (hn : n < 2 ^ 31) (hdg : decode cc pc = .ok (.iastore, 1))
    (kk : ∀ (H1 : Heap) (locs1 : List Loc), nf_M D cl Bs sh ad (nf_iu I k i jn v) J P H0 H1 locs1 → W p l e R s m args below meth c H1 locs1 cells slots Q (F0 m (pc + 1) ls rest)) : W p l e R s m args below meth c H locs cells slots Q (F0 m pc ls (.int v :: .int j :: .ref (ad k i) :: rest)) := by
  obtain ⟨⟨hx, hb, hml, hown, hts⟩, hK⟩ := hC
  obtain ⟨hM, hok, hS, hB⟩ := hM
  have hcl : j.toNatClampNeg = jn := by rw [hj]; exact nI_clamp (by omega)
  obtain ⟨ws, q0, hP, hD, hq, -, hset⟩ := nh_set hM (nf_G_at hg) (nf_set_ia (ad := ad) (I := I) (J := J) (P := P) (j := jn) (v := v) hg)
  exact va_iast hx hb hK hP hD hS q0 t0 hq ht (by rw [hj]; exact vp_in_nI hlt hn) hdg (fun H1 locs1 a1 a2 a3 => kk H1 locs1 ⟨hset H1 (by rw [← hcl]; exact a1) (by rw [← hcl]; exact a2), hok, a3, hB⟩)
theorem nf_last (hC : nf_C p m c cc nL s args Ts own D cl tys) (hM : nf_M D cl Bs sh ad I J P H0 H locs) (t0 : Nat) (hg : sh k i = some (.inr (cA, n, 1))) (ht : tys[t0]? = some (cA, .long)) {j : Int32} {v : Int64} (jn : Nat) (hj : j = nI jn) (hlt : jn < n) (hn : n < 2 ^ 31) (hdg : decode cc pc = .ok (.lastore, 1))
    (kk : ∀ (H1 : Heap) (locs1 : List Loc), nf_M D cl Bs sh ad I (nf_ju J k i jn v) P H0 H1 locs1 → W p l e R s m args below meth c H1 locs1 cells slots Q (F0 m (pc + 1) ls rest)) : W p l e R s m args below meth c H locs cells slots Q (F0 m pc ls (.long v :: .int j :: .ref (ad k i) :: rest)) := by
  obtain ⟨⟨hx, hb, hml, hown, hts⟩, hK⟩ := hC
  obtain ⟨hM, hok, hS, hB⟩ := hM
  have hcl : j.toNatClampNeg = jn := by rw [hj]; exact nI_clamp (by omega)
  obtain ⟨ws, q0, hP, hD, hq, -, hset⟩ := nh_set hM (nf_G_at hg) (nf_set_la (ad := ad) (I := I) (J := J) (P := P) (j := jn) (v := v) hg)
  exact va_last hx hb hK hP hD hS q0 t0 hq ht (by rw [hj]; exact vp_in_nI hlt hn) hdg (fun H1 locs1 a1 a2 a3 => kk H1 locs1 ⟨hset H1 (by rw [← hcl]; exact a1) (by rw [← hcl]; exact a2), hok, a3, hB⟩)
theorem nf_ok_pu {j k2 i2 : Nat} {x : nf_O} (hok : nf_ok sh P) (hv : sh k2 i2 = some x) : nf_ok sh (nf_pu P k i j (some (k2, i2))) := by
  intro a b s hs q hq
  match s with
  | .inl o => exact hok a b _ hs q hq
  | .inr o =>
    obtain ⟨y, hy⟩ := hq
    unfold nf_pu at hy
    split at hy
    · cases hy
      exact ⟨x, hv⟩
    · exact hok a b _ hs q ⟨y, hy⟩
theorem nf_aast (hC : nf_C p m c cc nL s args Ts own D cl tys) (hM : nf_M D cl Bs sh ad I J P H0 H locs) (t0 : Nat) (hg : sh k i = some (.inr (cA, n, 2))) {r : vw_C} (ht : tys[t0]? = some (cA, .object r.1)) {k2 i2 : Nat} (hv : sh k2 i2 = some (.inl (ci, fs))) (hc : cl[ci]? = some r) {j : Int32} (jn : Nat) (hj : j = nI jn) (hlt : jn < n) (hn : n < 2 ^ 31) (hdg : decode cc pc = .ok (.aastore, 1))
    (kk : ∀ (H1 : Heap) (locs1 : List Loc), nf_M D cl Bs sh ad I J (nf_pu P k i jn (some (k2, i2))) H0 H1 locs1 → W p l e R s m args below meth c H1 locs1 cells slots Q (F0 m (pc + 1) ls rest)) : W p l e R s m args below meth c H locs cells slots Q (F0 m pc ls (.ref (ad k2 i2) :: .int j :: .ref (ad k i) :: rest)) := by
  obtain ⟨⟨hx, hb, hml, hown, hts⟩, hK⟩ := hC
  obtain ⟨hM, hok, hS, hB⟩ := hM
  have hcl : j.toNatClampNeg = jn := by rw [hj]; exact nI_clamp (by omega)
  obtain ⟨ws, q0, hP, hD, hq, ho, hset⟩ := nh_set hM (nf_G_at hg) (nf_set_pa (ad := ad) (I := I) (J := J) (P := P) (j := jn) (k2 := k2) (i2 := i2) hg)
  obtain ⟨qk, hk⟩ := ho k2 i2 _ (nf_G_at hv)
  exact va_astq hx hb hK hP hD hS q0 t0 qk ci hq ht hk hc (by rw [hj]; exact vp_in_nI hlt hn) hdg (fun H1 locs1 a1 a2 a3 => kk H1 locs1 ⟨hset H1 (by rw [← hcl]; exact a1) (by rw [← hcl]; exact a2), nf_ok_pu hok hv, a3, hB⟩)
/-! new cells -/
def nf_dv (f : nf_F) : Value := match f.1 with
  | 0 => .int 0
  | 1 => .long 0
  | _ => .null
theorem nf_new_G {q : Nat} {x : nf_O} {E : va_E} (hok : nf_ok sh P) (hs : sh k i = none) (he : nf_c (nh_ad ad k i q) (nf_iz I k i) (nf_jz J k i) (nf_pz P k i) k i x = E) : ∀ a b : Nat, nf_G (nf_su sh k i x) (nh_ad ad k i q) (nf_iz I k i) (nf_jz J k i) (nf_pz P k i) a b = if a = k ∧ b = i then some E else nf_G sh ad I J P a b := by
  intro a b
  by_cases hab : a = k ∧ b = i
  · obtain ⟨rfl, rfl⟩ := hab
    rw [if_pos ⟨rfl, rfl⟩, nf_G_at (nf_su_s _ _ _ _), he]
  · rw [if_neg hab]
    unfold nf_G
    rw [nf_su_n _ _ hab]
    cases hsa : sh a b with
    | none => rfl
    | some y =>
      simp only [Option.map_some]
      rw [nf_c_congr (ad := ad) (I := I) (J := J) (P := P) y (fun c => by simp only [nf_iz, if_neg hab]) (fun c => by simp only [nf_jz, if_neg hab]) (fun c => by simp only [nf_pz, if_neg hab]) (fun q' hq' => ?_)]
      obtain ⟨s', hs'⟩ := hok a b y hsa q' hq'
      exact nh_ad_old ad (fun h => by rw [h.1, h.2, hs] at hs'; cases hs')
theorem nf_new_ok {x : nf_O} (hok : nf_ok sh P) (hs : sh k i = none) (hnr : ∀ q, ¬ nf_re (nf_pz P k i) k i x q) : nf_ok (nf_su sh k i x) (nf_pz P k i) := by
  intro a b s hsa q hq
  have up : ∀ (q : Nat × Nat) (s' : nf_O), sh q.1 q.2 = some s' → ∃ s'', nf_su sh k i x q.1 q.2 = some s'' := by
    intro q s' h
    by_cases hh : q.1 = k ∧ q.2 = i
    · exact ⟨x, by unfold nf_su; rw [if_pos hh]⟩
    · exact ⟨s', by rw [nf_su_n _ _ hh]; exact h⟩
  by_cases hab : a = k ∧ b = i
  · obtain ⟨rfl, rfl⟩ := hab
    rw [nf_su_s] at hsa
    cases hsa
    exact absurd hq (hnr q)
  · rw [nf_su_n _ _ hab] at hsa
    have hq' : nf_re P a b s q := by
      match s with
      | .inl o => exact hq
      | .inr o =>
        obtain ⟨j, hj⟩ := hq
        refine ⟨j, ?_⟩
        simp only [nf_pz, if_neg hab] at hj
        exact hj
    obtain ⟨s', hs'⟩ := hok a b s hsa q hq'
    exact up q s' hs'
theorem nf_newo (hC : nf_C p m c cc nL s args Ts own D cl tys) (hin : ∀ w ∈ u_ws C T N, w ∈ Ts) (ty : Nat → FieldType) (hty : ∀ k, k < N → parseFieldDescriptor (T k).2.2.1 = some (ty k)) (hcl : Cond.classLink own index C ∈ Ts) (hinst : Cond.instantiable C N ∈ Ts) (hini : Cond.initialized C ∈ Ts) (hM : nf_M D cl Bs sh ad I J P H0 H locs) (hc : cl[ci]? = some (C, T, N)) (k i : Nat) (hs : sh k i = none) (fs : List nf_F) (hnr : ∀ f ∈ fs, ¬ f.1 = 2) (hdv : ∀ j, j < N → defaultValue (ty j) = vp_V (fs.map nf_dv) j) (hcells : cells + 1 ≤ R.cells) (hslots : slots + N ≤ R.slots) (hdg : decode cc pc = .ok (.new index, 3))
    (kk : ∀ (q : Nat) (H1 : Heap), nf_M D cl Bs (nf_su sh k i (.inl (ci, fs))) (nh_ad ad k i q) (nf_iz I k i) (nf_jz J k i) (nf_pz P k i) H0 H1 locs → W p l e R s m args below meth c H1 locs (cells + 1) (slots + N) Q (F0 m (pc + 3) ls (.ref (nh_ad ad k i q k i) :: rest))) : W p l e R s m args below meth c H locs cells slots Q (F0 m pc ls rest) := by
  obtain ⟨⟨hx, hb, hml, hown, hts⟩, hK⟩ := hC
  obtain ⟨hM, hok, hS, hB⟩ := hM
  obtain ⟨ws, hP, hD, hpush⟩ := nh_push (k := k) (i := i) (x := .inr (ci, fs.map nf_dv)) hM (by unfold nf_G; rw [hs]; rfl) (fun _ _ => rfl)
  refine va_new hx hb hts hin ty hty hown (hts _ hcl) (hts _ hinst) (hts _ hini) hK hP hD hS (fun q hq => Nat.le_trans hB hq) hc hdv hcells hslots hdg (fun q H1 a1 a2 a3 => ?_)
  have hkk := kk q H1 ⟨(hpush q H1 a1 a2).to (nf_new_G hok hs ?_), nf_new_ok hok hs (fun q' hq' => ?_), a3, hB⟩
  · rw [nh_ad_new] at hkk
    exact hkk
  · show Sum.inr (ci, _) = Sum.inr (ci, _)
    congr 2
    apply List.ext_getElem?
    intro q2
    rw [nf_fs_get, List.getElem?_map]
    cases hf : fs[q2]? with
    | none => rfl
    | some f =>
      have h2 := hnr f (List.mem_of_getElem? hf)
      obtain ⟨t, y⟩ := f
      match t with
      | 0 => simp [nf_v, nf_dv, nf_iz]
      | 1 => simp [nf_v, nf_dv, nf_jz]
      | 2 => exact absurd rfl h2
      | t + 3 => rfl
  · obtain ⟨f, h1, h2, -⟩ := hq'
    exact hnr f h1 h2
theorem nf_newi (hC : nf_C p m c cc nL s args Ts own D cl tys) (harr : Cond.arrayClass .int ∈ Ts) (hM : nf_M D cl Bs sh ad I J P H0 H locs) (t0 : Nat) (ht : tys[t0]? = some (cA, .int)) (k i : Nat) (hs : sh k i = none) {j : Int32} (N' : Nat) (hj : j = nI N') (hN : N' < 100000) (hcells : cells + 1 ≤ R.cells) (hslots : slots + N' ≤ R.slots) (hdg : decode cc pc = .ok (.newarray .int, 2))
    (kk : ∀ (q : Nat) (H1 : Heap), nf_M D cl Bs (nf_su sh k i (.inr (cA, N', 0))) (nh_ad ad k i q) (nf_iz I k i) (nf_jz J k i) (nf_pz P k i) H0 H1 locs → W p l e R s m args below meth c H1 locs (cells + 1) (slots + N') Q (F0 m (pc + 2) ls (.ref (nh_ad ad k i q k i) :: rest))) : W p l e R s m args below meth c H locs cells slots Q (F0 m pc ls (.int j :: rest)) := by
  obtain ⟨⟨hx, hb, hml, hown, hts⟩, hK⟩ := hC
  obtain ⟨hM, hok, hS, hB⟩ := hM
  have hcl : j.toNatClampNeg = N' := by rw [hj]; exact nI_clamp (by omega)
  obtain ⟨ws, hP, hD, hpush⟩ := nh_push (k := k) (i := i) (x := .inl (cA, N', .inl (fun _ => 0))) hM (by unfold nf_G; rw [hs]; rfl) (fun _ _ => rfl)
  refine va_newa (atype := .int) (N' := N') (a0 := (N', .inl (fun _ => 0))) (ty := .int) hx hb (hts _ harr) rfl hK hP hD hS (fun q hq => Nat.le_trans hB hq) (fun _ => rfl) (by rw [hj]; exact nI_pos (by omega)) hcl (by simp only [componentBytes]; omega) hcells hslots hdg (fun q cB H1 a0 a1 a2 a3 => ?_)
  have hlt : t0 < tys.length := (List.getElem?_eq_some_iff.mp ht).1
  have e1 : cB = cA := nh_one a0 (i := tys.length) (j := t0) (by rw [List.getElem?_append_right (Nat.le_refl _), Nat.sub_self]; rfl) (by rw [List.getElem?_append_left hlt]; exact ht)
  subst e1
  have hkk := kk q H1 ⟨(hpush q H1 a1 a2).to (nf_new_G hok hs ?_), nf_new_ok hok hs (fun q' hq' => ?_), a3, hB⟩
  · rw [nh_ad_new] at hkk
    exact hkk
  · show Sum.inl (cB, N', Sum.inl (nf_iz I k i k i)) = _
    rw [show nf_iz I k i k i = fun _ => 0 from funext fun c => by simp [nf_iz]]
  · obtain ⟨y, hy⟩ := hq'
    simp [nf_pz] at hy
theorem nf_newl (hC : nf_C p m c cc nL s args Ts own D cl tys) (harr : Cond.arrayClass .long ∈ Ts) (hM : nf_M D cl Bs sh ad I J P H0 H locs) (t0 : Nat) (ht : tys[t0]? = some (cA, .long)) (k i : Nat) (hs : sh k i = none) {j : Int32} (N' : Nat) (hj : j = nI N') (hN : N' < 100000) (hcells : cells + 1 ≤ R.cells) (hslots : slots + N' ≤ R.slots) (hdg : decode cc pc = .ok (.newarray .long, 2))
    (kk : ∀ (q : Nat) (H1 : Heap), nf_M D cl Bs (nf_su sh k i (.inr (cA, N', 1))) (nh_ad ad k i q) (nf_iz I k i) (nf_jz J k i) (nf_pz P k i) H0 H1 locs → W p l e R s m args below meth c H1 locs (cells + 1) (slots + N') Q (F0 m (pc + 2) ls (.ref (nh_ad ad k i q k i) :: rest))) : W p l e R s m args below meth c H locs cells slots Q (F0 m pc ls (.int j :: rest)) := by
  obtain ⟨⟨hx, hb, hml, hown, hts⟩, hK⟩ := hC
  obtain ⟨hM, hok, hS, hB⟩ := hM
  have hcl : j.toNatClampNeg = N' := by rw [hj]; exact nI_clamp (by omega)
  obtain ⟨ws, hP, hD, hpush⟩ := nh_push (k := k) (i := i) (x := .inl (cA, N', .inr (.inl (fun _ => 0)))) hM (by unfold nf_G; rw [hs]; rfl) (fun _ _ => rfl)
  refine va_newa (atype := .long) (N' := N') (a0 := (N', .inr (.inl (fun _ => 0)))) (ty := .long) hx hb (hts _ harr) rfl hK hP hD hS (fun q hq => Nat.le_trans hB hq) (fun _ => rfl) (by rw [hj]; exact nI_pos (by omega)) hcl (by simp only [componentBytes]; omega) hcells hslots hdg (fun q cB H1 a0 a1 a2 a3 => ?_)
  have hlt : t0 < tys.length := (List.getElem?_eq_some_iff.mp ht).1
  have e1 : cB = cA := nh_one a0 (i := tys.length) (j := t0) (by rw [List.getElem?_append_right (Nat.le_refl _), Nat.sub_self]; rfl) (by rw [List.getElem?_append_left hlt]; exact ht)
  subst e1
  have hkk := kk q H1 ⟨(hpush q H1 a1 a2).to (nf_new_G hok hs ?_), nf_new_ok hok hs (fun q' hq' => ?_), a3, hB⟩
  · rw [nh_ad_new] at hkk
    exact hkk
  · show Sum.inl (cB, N', Sum.inr (Sum.inl (nf_jz J k i k i))) = _
    rw [show nf_jz J k i k i = fun _ => 0 from funext fun c => by simp [nf_jz]]
  · obtain ⟨y, hy⟩ := hq'
    simp [nf_pz] at hy
theorem nf_newq (hC : nf_C p m c cc nL s args Ts own D cl tys) (hclink : Cond.classLink own index C ∈ Ts) (hover : va_AO C s) (hM : nf_M D cl Bs sh ad I J P H0 H locs) (t0 : Nat) (ht : tys[t0]? = some (cA, .object C)) (k i : Nat) (hs : sh k i = none) {j : Int32} (N' : Nat) (hj : j = nI N') (hN : N' < 100000) (hcells : cells + 1 ≤ R.cells) (hslots : slots + N' ≤ R.slots) (hdg : decode cc pc = .ok (.anewarray index, 3))
    (kk : ∀ (q : Nat) (H1 : Heap), nf_M D cl Bs (nf_su sh k i (.inr (cA, N', 2))) (nh_ad ad k i q) (nf_iz I k i) (nf_jz J k i) (nf_pz P k i) H0 H1 locs → W p l e R s m args below meth c H1 locs (cells + 1) (slots + N') Q (F0 m (pc + 3) ls (.ref (nh_ad ad k i q k i) :: rest))) : W p l e R s m args below meth c H locs cells slots Q (F0 m pc ls (.int j :: rest)) := by
  obtain ⟨⟨hx, hb, hml, hown, hts⟩, hK⟩ := hC
  obtain ⟨hM, hok, hS, hB⟩ := hM
  have hcl : j.toNatClampNeg = N' := by rw [hj]; exact nI_clamp (by omega)
  obtain ⟨ws, hP, hD, hpush⟩ := nh_push (k := k) (i := i) (x := .inl (cA, N', .inr (.inr (.inr (.inr (fun _ => none)))))) hM (by unfold nf_G; rw [hs]; rfl) (fun _ _ => rfl)
  refine va_newq (N' := N') hx hb hown (hts _ hclink) hover hK hP hD hS (fun q hq => Nat.le_trans hB hq) (by rw [hj]; exact nI_pos (by omega)) hcl (by omega) hcells hslots hdg (fun q cB H1 a0 a1 a2 a3 => ?_)
  have hlt : t0 < tys.length := (List.getElem?_eq_some_iff.mp ht).1
  have e1 : cB = cA := nh_one a0 (i := tys.length) (j := t0) (by rw [List.getElem?_append_right (Nat.le_refl _), Nat.sub_self]; rfl) (by rw [List.getElem?_append_left hlt]; exact ht)
  subst e1
  have hkk := kk q H1 ⟨(hpush q H1 a1 a2).to (nf_new_G hok hs ?_), nf_new_ok hok hs (fun q' hq' => ?_), a3, hB⟩
  · rw [nh_ad_new] at hkk
    exact hkk
  · show Sum.inl (cB, N', Sum.inr (Sum.inr (Sum.inr (Sum.inr (nf_rf (nh_ad ad k i q) (nf_pz P k i) k i))))) = _
    rw [show nf_rf (nh_ad ad k i q) (nf_pz P k i) k i = fun _ => none from funext fun c => by simp [nf_rf, nf_pz]]
  · obtain ⟨y, hy⟩ := hq'
    simp [nf_pz] at hy
/-! a reference field gets its cell, in a constructor -/
theorem nf_set_r {k2 : Nat} (hg : sh k i = some (.inl (ci, fs))) (hlt : n < fs.length) : ∀ a b : Nat, nf_G (nf_su sh k i (.inl (ci, fs.set n (2, k2)))) ad I J P a b = if a = k ∧ b = i then some (.inr (ci, (nf_fs ad I J k i 0 fs).set n (.ref (ad k2 i)))) else nf_G sh ad I J P a b := by
  intro a b
  by_cases hab : a = k ∧ b = i
  · obtain ⟨rfl, rfl⟩ := hab
    rw [if_pos ⟨rfl, rfl⟩, nf_G_at (nf_su_s _ _ _ _)]
    show some (Sum.inr (ci, nf_fs ad I J a b 0 (fs.set n (2, k2)))) = _
    congr 3
    apply List.ext_getElem?
    intro q
    rw [nf_fs_get, List.getElem?_set, List.getElem?_set, nf_fs_len]
    by_cases hq : n = q
    · subst hq
      simp [hlt, nf_v]
    · rw [if_neg hq, if_neg hq, nf_fs_get]
  · rw [if_neg hab]
    unfold nf_G
    rw [nf_su_n _ _ hab]
theorem nf_ok_r {k2 : Nat} {x : nf_O} (hok : nf_ok sh P) (hg : sh k i = some (.inl (ci, fs))) (hv : sh k2 i = some x) : nf_ok (nf_su sh k i (.inl (ci, fs.set n (2, k2)))) P := by
  intro a b s hsa q hq
  have up : ∀ (q : Nat × Nat) (s' : nf_O), sh q.1 q.2 = some s' → ∃ s'', nf_su sh k i (.inl (ci, fs.set n (2, k2))) q.1 q.2 = some s'' := by
    intro q s' h
    by_cases hh : q.1 = k ∧ q.2 = i
    · exact ⟨_, by unfold nf_su; rw [if_pos hh]⟩
    · exact ⟨s', by rw [nf_su_n _ _ hh]; exact h⟩
  by_cases hab : a = k ∧ b = i
  · obtain ⟨rfl, rfl⟩ := hab
    rw [nf_su_s] at hsa
    cases hsa
    obtain ⟨f, h1, h2, h3⟩ := hq
    rcases List.mem_or_eq_of_mem_set h1 with h | h
    · obtain ⟨s', hs'⟩ := hok a b _ hg q ⟨f, h, h2, h3⟩
      exact up q s' hs'
    · subst h
      subst h3
      exact up _ x hv
  · rw [nf_su_n _ _ hab] at hsa
    obtain ⟨s', hs'⟩ := hok a b s hsa q hq
    exact up q s' hs'
theorem nf_putrF (hC : nf_C p m c cc nL s args Ts own D cl tys) (hin : ∀ w ∈ u_ws C T N, w ∈ Ts) (ty0 : Nat → FieldType) (hty : ∀ k, k < N → parseFieldDescriptor (T k).2.2.1 = some (ty0 k)) (hnm : ∀ a, a < N → ∀ b, b < N → a ≠ b → (T a).2.1 ≠ (T b).2.1) (hM : nf_M D cl Bs sh ad I J P H0 H locs) (hg : sh k i = some (.inl (ci, fs))) (hc : cl[ci]? = some (C, T, N)) (n : Nat) (hn : n < N) (hlink : Cond.fieldLink own index (T n).1 (T n).2.1 (T n).2.2.1 ∈ Ts) (hfin : (T n).2.2.2 = true) (hin2 : meth.name = "<init>") (hdecl : (T n).1 = own) {ty : FieldType} (hd : parseFieldDescriptor (T n).2.2.1 = some ty) {k2 : Nat} (hnw : narrow ty (.ref (ad k2 i)) = .ref (ad k2 i)) (hfit : fits ty (.ref (ad k2 i)) = true) (hf : n < fs.length) {x : nf_O} (hv : sh k2 i = some x) (hdg : decode cc pc = .ok (.putfield index, 3))
    (kk : ∀ (H1 : Heap) (locs1 : List Loc), nf_M D cl Bs (nf_su sh k i (.inl (ci, fs.set n (2, k2)))) ad I J P H0 H1 locs1 → W p l e R s m args below meth c H1 locs1 cells slots Q (F0 m (pc + 3) ls rest)) : W p l e R s m args below meth c H locs cells slots Q (F0 m pc ls (.ref (ad k2 i) :: .ref (ad k i) :: rest)) := by
  obtain ⟨⟨hx, hb, hml, hown, hts⟩, hK⟩ := hC
  obtain ⟨hM, hok, hS, hB⟩ := hM
  obtain ⟨ws, q0, hP, hD, hq, -, hset⟩ := nh_set hM (nf_G_at hg) (nf_set_r (ad := ad) (I := I) (J := J) (P := P) (k2 := k2) hg hf)
  exact va_putF hx hb hts hin ty0 hty hnm hown hK hP hD hS q0 hq hc n hn (hts _ hlink) (fun _ h => h) hfin hin2 hdecl hd hnw hfit (by rw [nf_fs_len]; exact hf) hdg (fun H1 locs1 a1 a2 a3 => kk H1 locs1 ⟨hset H1 a1 a2, nf_ok_r hok hg hv, a3, hB⟩)
theorem nf_putr (hC : nf_C p m c cc nL s args Ts own D cl tys) (hin : ∀ w ∈ u_ws C T N, w ∈ Ts) (ty0 : Nat → FieldType) (hty : ∀ k, k < N → parseFieldDescriptor (T k).2.2.1 = some (ty0 k)) (hnm : ∀ a, a < N → ∀ b, b < N → a ≠ b → (T a).2.1 ≠ (T b).2.1) (hM : nf_M D cl Bs sh ad I J P H0 H locs) (hg : sh k i = some (.inl (ci, fs))) (hc : cl[ci]? = some (C, T, N)) (n : Nat) (hn : n < N) (hlink : Cond.fieldLink own index (T n).1 (T n).2.1 (T n).2.2.1 ∈ Ts) (hfin : (T n).2.2.2 = false) {ty : FieldType} (hd : parseFieldDescriptor (T n).2.2.1 = some ty) {k2 : Nat} (hnw : narrow ty (.ref (ad k2 i)) = .ref (ad k2 i)) (hfit : fits ty (.ref (ad k2 i)) = true) (hf : n < fs.length) {x : nf_O} (hv : sh k2 i = some x) (hdg : decode cc pc = .ok (.putfield index, 3))
    (kk : ∀ (H1 : Heap) (locs1 : List Loc), nf_M D cl Bs (nf_su sh k i (.inl (ci, fs.set n (2, k2)))) ad I J P H0 H1 locs1 → W p l e R s m args below meth c H1 locs1 cells slots Q (F0 m (pc + 3) ls rest)) : W p l e R s m args below meth c H locs cells slots Q (F0 m pc ls (.ref (ad k2 i) :: .ref (ad k i) :: rest)) := by
  obtain ⟨⟨hx, hb, hml, hown, hts⟩, hK⟩ := hC
  obtain ⟨hM, hok, hS, hB⟩ := hM
  obtain ⟨ws, q0, hP, hD, hq, -, hset⟩ := nh_set hM (nf_G_at hg) (nf_set_r (ad := ad) (I := I) (J := J) (P := P) (k2 := k2) hg hf)
  exact va_put hx hb hts hin ty0 hty hnm hown hK hP hD hS q0 hq hc n hn (hts _ hlink) (fun _ h => h) hfin hd hnw hfit (by rw [nf_fs_len]; exact hf) hdg (fun H1 locs1 a1 a2 a3 => kk H1 locs1 ⟨hset H1 a1 a2, nf_ok_r hok hg hv, a3, hB⟩)
theorem nf_putiF (hC : nf_C p m c cc nL s args Ts own D cl tys) (hin : ∀ w ∈ u_ws C T N, w ∈ Ts) (ty0 : Nat → FieldType) (hty : ∀ k, k < N → parseFieldDescriptor (T k).2.2.1 = some (ty0 k)) (hnm : ∀ a, a < N → ∀ b, b < N → a ≠ b → (T a).2.1 ≠ (T b).2.1) (hM : nf_M D cl Bs sh ad I J P H0 H locs) (hg : sh k i = some (.inl (ci, fs))) (hc : cl[ci]? = some (C, T, N)) (n : Nat) (hn : n < N) (hlink : Cond.fieldLink own index (T n).1 (T n).2.1 (T n).2.2.1 ∈ Ts) (hfin : (T n).2.2.2 = true) (hin2 : meth.name = "<init>") (hdecl : (T n).1 = own) (hd : parseFieldDescriptor (T n).2.2.1 = some .int) (hf : fs[n]? = some (0, z)) {v : Int32} (hdg : decode cc pc = .ok (.putfield index, 3))
    (kk : ∀ (H1 : Heap) (locs1 : List Loc), nf_M D cl Bs sh ad (nf_iu I k i n v) J P H0 H1 locs1 → W p l e R s m args below meth c H1 locs1 cells slots Q (F0 m (pc + 3) ls rest)) : W p l e R s m args below meth c H locs cells slots Q (F0 m pc ls (.int v :: .ref (ad k i) :: rest)) := by
  obtain ⟨⟨hx, hb, hml, hown, hts⟩, hK⟩ := hC
  obtain ⟨hM, hok, hS, hB⟩ := hM
  obtain ⟨ws, q0, hP, hD, hq, -, hset⟩ := nh_set hM (nf_G_at hg) (nf_set_i (ad := ad) (I := I) (J := J) (P := P) (v := v) hg hf)
  exact va_putF hx hb hts hin ty0 hty hnm hown hK hP hD hS q0 hq hc n hn (hts _ hlink) (fun _ h => h) hfin hin2 hdecl hd rfl rfl (by rw [nf_fs_len]; exact (List.getElem?_eq_some_iff.mp hf).1) hdg (fun H1 locs1 a1 a2 a3 => kk H1 locs1 ⟨hset H1 a1 a2, hok, a3, hB⟩)
end NRows
