/-! A message arrives on both sides. -/
theorem rx_kind {I : nf_I} {i o onw : Nat} (hne : ¬ o = onw) : xs_aI I i o onw 8 o 0 = I 8 o 0 := by
  have s : ∀ kd tz : Int32, xs_sI I onw kd tz 8 o 0 = I 8 o 0 := fun kd tz => rq_sI 8 o 0 (by omega) (fun z => hne z.2)
  have n : ∀ c : Nat, ¬ (8 = 8 ∧ o = onw ∧ 0 = c) := fun c z => hne z.2.1
  have n5 : ∀ c : Nat, ¬ (8 = 5 ∧ o = i ∧ 0 = c) := fun c z => by omega
  unfold xs_aI
  split
  · unfold xs_fiI
    split
    · unfold xs_poI xs_fI; simp only [nf_iu_n _ _ (n _), s]
    · split
      · unfold xs_f3; simp only [nf_iu_n _ _ (n _), s]
      · split
        · unfold xs_f4; simp only [nf_iu_n _ _ (n _), s]
        · unfold xs_f2; simp only [nf_iu_n _ _ (n _), s]
  · split
    · unfold xs_foI
      rw [nf_iu_n _ _ (n5 _)]
      unfold xs_fo1
      split
      · rw [nf_iu_n _ _ (n5 _)]
      · split
        · rfl
        · rw [nf_iu_n _ _ (by omega)]
    · split
      · rfl
      · split
        · unfold xs_feI; rw [nf_iu_n _ _ (n _), s]
        · split
          · rw [nf_iu_n _ _ (n5 _)]
          · split
            · unfold xs_asI; rw [nf_iu_n _ _ (n _), s]
            · split
              · unfold xs_teI
                rw [nf_iu_n _ _ (n _), rq_sI 8 o 0 (by omega) (fun z => hne z.2)]
                unfold xs_teS
                split
                · rfl
                · split
                  · rfl
                  · rw [nf_iu_n _ _ (n5 _)]
              · unfold xs_noI
                split
                · rw [nf_iu_n _ _ (n5 _)]
                · split
                  · rfl
                  · rw [nf_iu_n _ _ (n5 _)]
section RZ
variable {I : nf_I} {J : nf_J} {mp : Nat → Nat} {U : nf_I} {V : nf_J} {nn kc sz kp : Nat} {dd : Nat → Nat}
/-- what was taken out is done -/
theorem rp_do {q o : Nat} (h : rl_all I J mp U V nn kc q kp dd) (hq : q < 20) (ho : o = mp 20) (hm : rl_msg I J U V nn kc dd o 20) : ∃ i, i < nn ∧ xs_node I nn (I 8 o 1) = some i ∧ ys_nd U = dd i ∧ ys_may U kp (dd i) ∧ ¬ I 8 o 0 = -1 ∧ ∃ q' kp', rl_all (xs_aI I i o (mp q)) (xs_aJ I J nn kc i o (mp q)) mp (ys_aI U V (dd i) q kp) (ys_aJ U V (dd i) q kp) nn kc q' kp' dd := by
  have hm0 := hm
  obtain ⟨m0, m1, ⟨i, hi0, hie⟩, hm⟩ := hm
  have hi := h.2.2.1
  have hid := hi.1 i hi0
  have hu : U 32 0 20 = nI (dd i) := by rw [← m1, hie]
  have hmem : rl_mb I nn dd (I 8 o 1) → ¬ I 5 i 1 = -1 := by
    rintro ⟨k, k1, k2, k3⟩
    have : k = i := hi.2 k i k1 hi0 (ri_inj (hi.1 k k1).1 hid.1 (by rw [← k2, hie]))
    rw [← this]; exact k3
  refine ⟨i, hi0, by rw [hie]; exact rn_some hi hi0, by unfold ys_nd; rw [hu, nI_clamp (by omega)], ?_⟩
  unfold xs_aI xs_aJ ys_aI ys_aJ
  rw [m0]
  have may : ∀ c : Int32, U 31 0 20 = c → (c = 1 ∨ c = 4 ∨ c = 5 ∨ c = 6 ∨ c = 7) → ys_may U kp (dd i) := by
    intro c hc hcc
    refine ⟨hid.1, hu, fun z => ?_, fun z => ?_, fun z1 z2 z3 z4 z5 z6 z7 => ?_⟩
    · rw [hc] at z; rcases hcc with e | e | e | e | e <;> (rw [e] at z; exact absurd z (by decide))
    · rw [hc] at z; rcases hcc with e | e | e | e | e <;> (rw [e] at z; exact absurd z (by decide))
    · rw [hc] at z1 z4 z5 z6 z7
      rcases hcc with e | e | e | e | e
      · exact absurd e z1
      · exact absurd e z4
      · exact absurd e z5
      · exact absurd e z6
      · exact absurd e z7
  rcases hm with ⟨c, b⟩ | ⟨c, b1, b2, b3, b4⟩ | ⟨c, b1, b2, b3, b4⟩ | ⟨c, b1, b2, b3, b4⟩ | ⟨c, b1, b2⟩ | ⟨c, b1, b2⟩ | ⟨c, b1, b2, b3⟩ | ⟨c, b1, b2⟩
  · have c' : U 31 0 20 = 1 := by rw [← m0]; exact c
    obtain ⟨q', hr⟩ := ra_1 h hq hi0 (hmem b.1) ho hm0 c
    simp only [c', if_true]
    exact ⟨may 1 c' (Or.inl rfl), by decide, q', kp, hr⟩
  · have c' : U 31 0 20 = 2 := by rw [← m0]; exact c
    have hr := ra_2 h hi0 b2 b1 b3 b4
    simp only [c', if_true, if_neg (show ¬ (2 : Int32) = 1 by decide)]
    refine ⟨⟨hid.1, hu, fun _ hz => ?_, fun z => absurd (c'.symm.trans z) (by decide), fun _ z2 => absurd c' z2⟩, by decide, q, kp, hr⟩
    rcases b4 with ⟨-, x⟩ | ⟨-, -, x1, t, x2, x3⟩
    · exact absurd x hz
    · exact ⟨t, x2, by rw [← x1, x3]⟩
  · have c' : U 31 0 20 = 3 := by rw [← m0]; exact c
    obtain ⟨r1, kp', hr⟩ := ra_3 h hi0 b1 b2 b3 b4
    simp only [c', if_true, if_neg (show ¬ (3 : Int32) = 1 by decide), if_neg (show ¬ (3 : Int32) = 2 by decide)]
    exact ⟨⟨hid.1, hu, fun z => absurd (c'.symm.trans z) (by decide), fun _ => r1, fun _ _ z3 => absurd c' z3⟩, by decide, q, kp', hr⟩
  · have c' : U 31 0 20 = 4 := by rw [← m0]; exact c
    have hr := ra_4 h hq hi0 ho b1 b2 b3 b4
    simp only [c', if_true, if_neg (show ¬ (4 : Int32) = 1 by decide), if_neg (show ¬ (4 : Int32) = 2 by decide), if_neg (show ¬ (4 : Int32) = 3 by decide)]
    exact ⟨may 4 c' (Or.inr (Or.inl rfl)), by decide, q + 1, kp, hr⟩
  · have c' : U 31 0 20 = 5 := by rw [← m0]; exact c
    have hr := ra_5 h hi0 b2 b1
    simp only [c', if_true, if_neg (show ¬ (5 : Int32) = 1 by decide), if_neg (show ¬ (5 : Int32) = 2 by decide), if_neg (show ¬ (5 : Int32) = 3 by decide), if_neg (show ¬ (5 : Int32) = 4 by decide)]
    exact ⟨may 5 c' (Or.inr (Or.inr (Or.inl rfl))), by decide, q, kp, hr⟩
  · have c' : U 31 0 20 = 6 := by rw [← m0]; exact c
    have hr := ra_6 h hq hi0 ho b1 b2
    simp only [c', if_true, if_neg (show ¬ (6 : Int32) = 1 by decide), if_neg (show ¬ (6 : Int32) = 2 by decide), if_neg (show ¬ (6 : Int32) = 3 by decide), if_neg (show ¬ (6 : Int32) = 4 by decide), if_neg (show ¬ (6 : Int32) = 5 by decide)]
    exact ⟨may 6 c' (Or.inr (Or.inr (Or.inr (Or.inl rfl)))), by decide, q + 1, kp, hr⟩
  · have c' : U 31 0 20 = 7 := by rw [← m0]; exact c
    have hr := ra_7 h hq hi0 (hmem b1) ho b2 b3
    simp only [c', if_true, if_neg (show ¬ (7 : Int32) = 1 by decide), if_neg (show ¬ (7 : Int32) = 2 by decide), if_neg (show ¬ (7 : Int32) = 3 by decide), if_neg (show ¬ (7 : Int32) = 4 by decide), if_neg (show ¬ (7 : Int32) = 5 by decide), if_neg (show ¬ (7 : Int32) = 6 by decide)]
    exact ⟨may 7 c' (Or.inr (Or.inr (Or.inr (Or.inr rfl)))), by decide, q + 1, kp, hr⟩
  · have c' : U 31 0 20 = 8 := by rw [← m0]; exact c
    obtain ⟨r1, kp', hr⟩ := ra_8 h hi0 b1 b2
    simp only [c', if_neg (show ¬ (8 : Int32) = 1 by decide), if_neg (show ¬ (8 : Int32) = 2 by decide), if_neg (show ¬ (8 : Int32) = 3 by decide), if_neg (show ¬ (8 : Int32) = 4 by decide), if_neg (show ¬ (8 : Int32) = 5 by decide), if_neg (show ¬ (8 : Int32) = 6 by decide), if_neg (show ¬ (8 : Int32) = 7 by decide)]
    exact ⟨⟨hid.1, hu, fun z => absurd (c'.symm.trans z) (by decide), fun z => absurd (c'.symm.trans z) (by decide), fun _ _ _ _ _ _ _ => r1⟩, by decide, q, kp', hr⟩
theorem rp_at (h : rl_all I J mp U V nn kc sz kp dd) (k : Int32) : (∃ kn, kn < sz ∧ k = nI kn ∧ xs_at I mp k = some (mp kn) ∧ ¬ k < 0 ∧ k < U 20 0 13) ∨ (xs_at I mp k = none ∧ (k < 0 ∨ (¬ k < 0 ∧ ¬ k < U 20 0 13))) := by
  obtain ⟨⟨⟨-, -, h20, -⟩, -, -, h1, -, -, -, h2⟩, -⟩ := h
  unfold xs_at
  by_cases c0 : k < 0
  · right; rw [if_pos c0]; exact ⟨rfl, Or.inl c0⟩
  · rw [if_neg c0]
    by_cases c1 : I 3 0 1 ≤ k
    · right
      rw [if_pos c1]
      refine ⟨rfl, Or.inr ⟨c0, fun z => ?_⟩⟩
      rw [h2] at z
      rw [h1] at c1
      have a := Int32.lt_iff_toInt_lt.mp z
      have b := Int32.le_iff_toInt_le.mp c1
      omega
    · left
      obtain ⟨kn, hkn, hke⟩ := nk_ix (n := sz) c0 (by rw [← h1]; exact c1) (by omega)
      exact ⟨kn, hkn, hke, by rw [if_neg c1, hke, nI_clamp (by omega)], c0, by rw [h2, hke]; exact nI_lt hkn (by omega)⟩
/-- arrive(k), the row's k-th message -/
theorem rp_arr (h : rl_all I J mp U V nn kc sz kp dd) {kn : Nat} (hk : kn < sz) {k : Int32} (hke : k = nI kn) (hat : xs_at I mp k = some (mp kn)) : ys_may (ys_tkI U kn sz) kp (ys_nd (ys_tkI U kn sz)) ∧ (xs_arr I J mp nn kc k).1 = U 31 0 kn ∧ ¬ (xs_arr I J mp nn kc k).1 = -1 ∧ ∃ sz' kp', rl_all (xs_arr I J mp nn kc k).2.1 (xs_arr I J mp nn kc k).2.2.1 (xs_arr I J mp nn kc k).2.2.2 (ys_arI U V kn) (ys_arJ U V kn) nn kc sz' kp' dd := by
  have h20 := h.1.1.2.2.1
  obtain ⟨hR, hm, hmp⟩ := rg_take h hk
  obtain ⟨i, hi0, hn, hnd, hmay, hne, q', kp', hr⟩ := rp_do hR (by omega) hmp.symm hm
  have hs1 : nf_iu I 3 0 1 (I 3 0 1 - 1) 3 0 1 = nI (sz - 1) := hR.1.2.2.2.1
  have eM : xs_tk mp kn = xs_tk mp k.toNatClampNeg := by rw [hke, nI_clamp (by omega)]
  have e := xs_arr_s (J := J) (kc := kc) hat rfl eM hn hs1 (by omega)
  have hk0 : ¬ mp kn = xs_tk mp kn (sz - 1) := by rw [← hmp]; exact ra_ne hR.2.1 (by omega)
  have hm0 : nf_iu I 3 0 1 (I 3 0 1 - 1) 8 (mp kn) 0 = U 31 0 kn := by
    rw [nf_iu_n _ _ (by omega)]
    exact (h.2.2.2.2.2.2.2 kn hk).1
  have eA : ys_arI U V kn = ys_aI (ys_tkI U kn sz) (ys_tkJ V kn sz) (dd i) (sz - 1) kp := by
    unfold ys_arI
    rw [ys_rwn_e h.1.2.2.2.2.2.2.2 (by omega), ys_kpn_e h.1.2.2.2.2.2.1 (by have := h.1.1.2.2.2; omega), hnd]
  have eB : ys_arJ U V kn = ys_aJ (ys_tkI U kn sz) (ys_tkJ V kn sz) (dd i) (sz - 1) kp := by
    unfold ys_arJ
    rw [ys_rwn_e h.1.2.2.2.2.2.2.2 (by omega), ys_kpn_e h.1.2.2.2.2.2.1 (by have := h.1.1.2.2.2; omega), hnd]
  rw [hnd, e, eA, eB]
  simp only
  rw [rx_kind hk0, hm0]
  exact ⟨hmay, rfl, by rw [← hm0]; exact hne, q', kp', hr⟩
theorem rp_dlv (h : rl_all I J mp U V nn kc sz kp dd) (k : Int32) : (∀ kn : Nat, kn < sz → k = nI kn → ys_may (ys_tkI U kn sz) kp (ys_nd (ys_tkI U kn sz))) ∧ (xs_arr I J mp nn kc k).1 = ys_dlR U k ∧ ∃ sz' kp', rl_all (xs_arr I J mp nn kc k).2.1 (xs_arr I J mp nn kc k).2.2.1 (xs_arr I J mp nn kc k).2.2.2 (ys_dlI U V k) (ys_dlJ U V k) nn kc sz' kp' dd := by
  have h20 := h.1.1.2.2.1
  rcases rp_at h k with ⟨kn, hk, hke, hat, c0, c1⟩ | ⟨hat, hc⟩
  · obtain ⟨r1, r2, r3, sz', kp', r4⟩ := rp_arr h hk hke hat
    have hcl : k.toNatClampNeg = kn := by rw [hke, nI_clamp (by omega)]
    refine ⟨fun kn' hk' hke' => ?_, ?_, sz', kp', ?_⟩
    · have : kn' = kn := (nI_eq (by omega) (by omega)).mp (by rw [← hke', hke])
      rw [this]; exact r1
    · unfold ys_dlR; rw [if_neg c0, if_pos c1, hcl]; exact r2
    · unfold ys_dlI ys_dlJ; rw [if_neg c0, if_pos c1, if_neg c0, if_pos c1, hcl]; exact r4
  · have e : xs_arr I J mp nn kc k = (-1, I, J, mp) := by unfold xs_arr; rw [hat]
    rw [e]
    refine ⟨fun kn' hk' hke' => ?_, ?_, sz, kp, ?_⟩
    · exfalso
      have a : ¬ k < 0 := by rw [hke']; exact nI_pos (by omega)
      have b : k < U 20 0 13 := by rw [hke', h.1.2.2.2.2.2.2.2]; exact nI_lt hk' (by omega)
      rcases hc with hc | hc
      · exact a hc
      · exact hc.2 b
    · unfold ys_dlR
      rcases hc with hc | hc
      · rw [if_pos hc]
      · rw [if_neg hc.1, if_neg hc.2]
    · unfold ys_dlI ys_dlJ
      rcases hc with hc | hc
      · rw [if_pos hc, if_pos hc]; exact h
      · rw [if_neg hc.1, if_neg hc.2, if_neg hc.1, if_neg hc.2]; exact h
/-- pump, step by step -/
theorem rp_pu : ∀ (n c : Nat) (I : nf_I) (J : nf_J) (mp : Nat → Nat) (U : nf_I) (V : nf_J) (sz kp : Nat), rl_all I J mp U V nn kc sz kp dd → (xs_pu nn kc n c I J mp).1 = (ys_pu n c U V).1 ∧ ∃ sz' kp', rl_all (xs_pu nn kc n c I J mp).2.1 (xs_pu nn kc n c I J mp).2.2.1 (xs_pu nn kc n c I J mp).2.2.2 (ys_pu n c U V).2.1 (ys_pu n c U V).2.2 nn kc sz' kp' dd := by
  intro n
  induction n with
  | zero => intro c I J mp U V sz kp h; exact ⟨rfl, sz, kp, h⟩
  | succ n ih =>
    intro c I J mp U V sz kp h
    have h20 := h.1.1.2.2.1
    have hx : xs_pu nn kc (n + 1) c I J mp = if (xs_arr I J mp nn kc 0).1 = -1 then (c, (xs_arr I J mp nn kc 0).2.1, (xs_arr I J mp nn kc 0).2.2.1, (xs_arr I J mp nn kc 0).2.2.2) else xs_pu nn kc n (c + 1) (xs_arr I J mp nn kc 0).2.1 (xs_arr I J mp nn kc 0).2.2.1 (xs_arr I J mp nn kc 0).2.2.2 := rfl
    have hy : ys_pu (n + 1) c U V = if U 20 0 13 ≤ 0 then (c, U, V) else ys_pu n (c + 1) (ys_arI U V 0) (ys_arJ U V 0) := rfl
    rw [hx, hy]
    rcases rp_at h 0 with ⟨kn, hk, hke, hat, c0, c1⟩ | ⟨hat, hc⟩
    · obtain ⟨r1, r2, r3, sz', kp', r4⟩ := rp_arr h hk hke hat
      have hk0 : kn = 0 := (nI_eq (by omega) (by omega)).mp (by rw [← hke]; rfl)
      have hu : ¬ U 20 0 13 ≤ 0 := by
        intro z
        have a := Int32.lt_iff_toInt_lt.mp c1
        have b := Int32.le_iff_toInt_le.mp z
        omega
      rw [if_neg r3, if_neg hu]
      rw [hk0] at r4
      exact ih (c + 1) _ _ _ _ _ sz' kp' r4
    · have e : xs_arr I J mp nn kc 0 = (-1, I, J, mp) := by unfold xs_arr; rw [hat]
      have hu : U 20 0 13 ≤ 0 := by
        rcases hc with hc | hc
        · exact absurd hc (by decide)
        · have a : ¬ (0 : Int32).toInt < (U 20 0 13).toInt := fun z => hc.2 (Int32.lt_iff_toInt_lt.mpr z)
          exact Int32.le_iff_toInt_le.mpr (by omega)
      rw [e, if_pos rfl, if_pos hu]
      exact ⟨rfl, sz, kp, h⟩
end RZ
