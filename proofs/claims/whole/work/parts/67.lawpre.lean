/-! The law: a reading of the script, what its loop keeps, pump. -/
section ZL
variable {p : Program} {l : Launch} {e : Env} {s : State} {m : MethodId} {below : List Frame} {meth : Method} {c : Code} {H : Heap} {locs : List Loc} {cells slots : Nat} {Q : State → Prop}
variable {ls : Array Slot} {D : va_G} {cs : Nat → ClassId} {b L t : Nat} {xs : Nat → Int32} {ad : nf_A} {I : nf_I} {J : nf_J} {mp : Nat → Nat} {nn kc sz kp : Nat} {dd : Nat → Nat}
def lw_L (b : Nat) (ad : nf_A) (t : Nat) : List (Nat × Value) := [(0, .ref b), (1, .ref (ad 0 0)), (2, .ref (ad 20 0)), (3, .int (nI (4 * t)))]
def lw_I (cs : Nat → ClassId) (D : va_G) (s : State) (b t : Nat) (H : Heap) (locs : List Loc) (ls : Array Slot) : Prop := ∃ (ad : nf_A) (I : nf_I) (J : nf_J) (mp : Nat → Nat) (nn kc sz kp : Nat) (dd : Nat → Nat), nf_M D vwCl s.heap.size (xS cs nn) ad I J (xP nn mp) s.heap H locs ∧ rl_all I J mp I J nn kc sz kp dd ∧ lv_has ls 4 (lw_L b ad t)
def lw_K (p : Program) (l : Launch) (e : Env) (s : State) (m : MethodId) (below : List Frame) (meth : Method) (c : Code) (cs : Nat → ClassId) (D : va_G) (b t cells slots : Nat) (Q : State → Prop) : Prop := ∀ (H : Heap) (locs : List Loc) (ls : Array Slot), lw_I cs D s b t H locs ls → W p l e room_1 s m #[Value.ref b] below meth c H locs (cells + 3) (slots + 25) Q (F0 m 630 ls [])
theorem lr_arg {R : Room} {args : Array Value} {rest : List Value} {pc j : Nat} {sh : nf_H} {P : nf_P} (hx : p.tables.exec = Jvm.exec) (hb : c.code = cL_law) (hX : va_X b L xs s s.heap) (hbl : b < s.heap.size) (hM : nf_M D vwCl s.heap.size sh ad I J P s.heap H locs) (hl : lv_has ls 4 (lw_L b ad t)) (ht : 4 * t + 4 ≤ L) (hL : L ≤ 2048) (hj : j < 4) {jz : Int} (hjz : Int32.ofInt jz = nI j) (d0 : decode cL_law pc = .ok (.aload_n 0, 1)) (d1 : decode cL_law (pc + 1) = .ok (.iload_n 3, 1)) (d2 : decode cL_law (pc + 2) = .ok (.iconst jz, 1)) (d3 : decode cL_law (pc + 3) = .ok (.iadd, 1)) (d4 : decode cL_law (pc + 4) = .ok (.iaload, 1))
    (kk : W p l e R s m args below meth c H locs cells slots Q (F0 m (pc + 5) ls (.int (xs (4 * t + j)) :: rest))) : W p l e R s m args below meth c H locs cells slots Q (F0 m pc ls rest) := by
  refine lv_aload_n (pc := pc) hx hb d0 rfl (lv_at hl 0 rfl) ?_
  refine lv_iload_n (pc := pc + 1) hx hb d1 rfl (lv_at hl 3 rfl) ?_
  refine lv_iconst (pc := pc + 2) (v := nI j) hx hb d2 hjz ?_
  refine lv_iadd (pc := pc + 3) hx hb d3 ?_
  rw [nI_add]
  refine va_sld (pc := pc + 4) hx hb hX hbl (A := fun q => s.heap.size ≤ q) (by omega) hM.2.2.1 (vp_in_nI (by omega) (by omega)) d4 ?_
  rw [nI_clamp (by omega)]
  exact kk
theorem lp_cstep {dd : Nat → Nat} {I : nf_I} {J : nf_J} {mp : Nat → Nat} (h : ∃ U V sz kp, rl_all I J mp U V nn kc sz kp dd) : ∃ sz : Nat, sz ≤ 20 ∧ I 0 0 1 = nI nn ∧ I 0 0 3 = nI kc ∧ I 3 0 1 = nI sz ∧ (∀ j, j < 21 → mp j < 21) ∧ ∃ U V sz kp, rl_all (xs_arr I J mp nn kc 0).2.1 (xs_arr I J mp nn kc 0).2.2.1 (xs_arr I J mp nn kc 0).2.2.2 U V nn kc sz kp dd := by
  obtain ⟨U, V, sz, kp, h⟩ := h
  have ⟨⟨hnn, hkc, hsz, hkp⟩, hn, hk, hs, u0, u7, u11, u13⟩ := h.1
  obtain ⟨_, _, sz', kp', h3⟩ := rp_dlv h 0
  exact ⟨sz, hsz, hn, hk, hs, h.2.1.1, _, _, sz', kp', h3⟩
theorem lp_mstep {dd : Nat → Nat} {U : nf_I} {V : nf_J} (h : ∃ I J mp sz kp, rl_all I J mp U V nn kc sz kp dd) : ∃ rwn kp : Nat, rwn ≤ 20 ∧ kp ≤ 120 ∧ U 20 0 13 = nI rwn ∧ U 20 0 7 = nI kp ∧ (0 < rwn → ys_may (ys_tkI U 0 rwn) kp (ys_nd (ys_tkI U 0 rwn)) ∧ ∃ I J mp sz kp, rl_all I J mp (ys_arI U V 0) (ys_arJ U V 0) nn kc sz kp dd) := by
  obtain ⟨I, J, mp, sz, kp, h⟩ := h
  have ⟨⟨hnn, hkc, hsz, hkp⟩, hn, hk, hs, u0, u7, u11, u13⟩ := h.1
  refine ⟨sz, kp, hsz, hkp, u13, u7, fun h0 => ?_⟩
  rcases rp_at h 0 with ⟨kn, h1, h2, h3, -, -⟩ | ⟨-, h2⟩
  · have hkn : kn = 0 := ((nI_eq (a := 0) (b := kn) (by omega) (by omega)).mp h2).symm
    subst hkn
    obtain ⟨m1, -, -, sz', kp', h5⟩ := rp_arr h h1 h2 h3
    exact ⟨m1, _, _, _, sz', kp', h5⟩
  · exfalso
    rcases h2 with h2 | ⟨-, h2⟩
    · exact absurd h2 (by decide)
    · exact h2 (by rw [u13]; exact (nI_ltI (a := 0) (b := sz) (by omega) (by omega)).mpr h0)
theorem lp_pump {U : nf_I} {V : nf_J} (h : rl_all I J mp U V nn kc sz kp dd) (n : Int32) : xs_puR I J mp nn kc n = ys_puR U V n ∧ ∃ sz' kp', rl_all (xs_puI I J mp nn kc n) (xs_puJ I J mp nn kc n) (xs_puM I J mp nn kc n) (ys_puI U V n) (ys_puJ U V n) nn kc sz' kp' dd := by
  unfold xs_puR ys_puR xs_puI xs_puJ xs_puM ys_puI ys_puJ
  by_cases h1 : n < 1
  · simp only [if_pos h1]
    exact ⟨trivial, sz, kp, h⟩
  · simp only [if_neg h1]
    by_cases h2 : n ≤ 8
    · simp only [if_pos h2]
      obtain ⟨e1, sz', kp', e2⟩ := rp_pu n.toNatClampNeg 0 I J mp U V sz kp h
      exact ⟨congrArg nI e1, sz', kp', e2⟩
    · simp only [if_neg h2]
      exact ⟨trivial, sz, kp, h⟩
end ZL
