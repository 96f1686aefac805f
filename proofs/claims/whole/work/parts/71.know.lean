/-! What the tables say of the classes. -/
theorem lk_mem_N : Cond.arrayOver (.object "FingerOverlay$Node") ∈ lw_tbl := List.mem_append_right _ (by decide +kernel)
theorem lk_mem_M : Cond.arrayOver (.object "FingerOverlay$Message") ∈ lw_tbl := List.mem_append_right _ (by decide +kernel)
theorem lk_mem_Z : Cond.methodLinkNest RX2 21 yX0_init "FingerOverlay" ∈ lw_tbl := List.mem_append_right _ (by decide +kernel)
theorem lk_K {s : State} {A : Array Value} (h0 : ∀ w ∈ lw_tbl, w.before A s = true) : ∃ (D : va_G) (cs : Nat → ClassId), va_K D vwCl (xT cs) s := by
  have hts : ∀ w ∈ wT, w.before A s = true := fun w h => h0 w (wt_tbl h)
  obtain ⟨c0, i0, k0⟩ := u_known hts inX0 (hts _ wnew_X0)
  obtain ⟨c1, i1, k1⟩ := u_known hts inX1 (hts _ wnew_X1)
  obtain ⟨c2, i2, k2⟩ := u_known hts inX2 (hts _ wnew_X2)
  obtain ⟨c3, i3, k3⟩ := u_known hts inX3 (hts _ wnew_X3)
  obtain ⟨c4, i4, k4⟩ := u_known hts inX4 (hts _ wnew_X4)
  obtain ⟨a0, b0, d0, f0, g0, q0⟩ := Cond.arrayClass_spec (hts _ warr_int)
  obtain ⟨a1, b1, d1, f1, g1, q1⟩ := Cond.arrayClass_spec (hts _ warr_long)
  obtain ⟨d2, a2, b2, e2, -, g2, q2, f2⟩ := Cond.arrayOver_spec (h0 _ lk_mem_N)
  obtain ⟨d3, a3, b3, e3, -, g3, q3, f3⟩ := Cond.arrayOver_spec (h0 _ lk_mem_M)
  refine ⟨(fun c => match c with | 0 => c0 | 1 => c1 | 2 => c2 | 3 => c3 | _ => c4, fun c => match c with | 0 => i0 | 1 => i1 | 2 => i2 | 3 => i3 | _ => i4), fun c => match c with | 0 => a0 | 1 => a1 | 2 => a2 | _ => a3, ?_, ?_⟩
  · intro c q hq
    match c, hq with
    | 0, hq => cases hq; exact k0
    | 1, hq => cases hq; exact k1
    | 2, hq => cases hq; exact k2
    | 3, hq => cases hq; exact k3
    | 4, hq => cases hq; exact k4
    | n + 5, hq => cases hq
  · intro k q hq
    match k, hq with
    | 0, hq => cases hq; exact ⟨fun N z => ⟨(fun k h => by cases h), b0, g0, d0, q0⟩, f0⟩
    | 1, hq => cases hq; exact ⟨fun N z => ⟨(fun k h => by cases h), b1, g1, d1, q1⟩, f1⟩
    | 2, hq => cases hq; exact ⟨fun N z => ⟨(fun k h => by cases h), b2, g2, d2, q2⟩, b2, d2, g2, q2, e2, f2⟩
    | 3, hq => cases hq; exact ⟨fun N z => ⟨(fun k h => by cases h), b3, g3, d3, q3⟩, b3, d3, g3, q3, e3, f3⟩
    | n + 4, hq => cases hq
