/-! put, create, join on both sides. -/
theorem ro_old {U : nf_I} {wd : Int32} : ∀ n j (o : Int32), (o = 0 ∨ o = 1) → (ys_old U wd n j o = 0 ↔ o = 0 ∧ ∀ q, j ≤ q → q < n + j → ¬ U 30 0 q = wd)
  | 0, j, o, h => by
    unfold ys_old
    exact ⟨fun z => ⟨z, fun q h1 h2 => by omega⟩, fun z => z.1⟩
  | n + 1, j, o, h => by
    unfold ys_old
    have hs : ∀ q, j ≤ q → q < n + 1 + j → q = j ∨ (j + 1 ≤ q ∧ q < n + (j + 1)) := fun q h1 h2 => by omega
    rcases h with h | h
    · rw [if_pos h]
      by_cases hc : U 30 0 j = wd
      · rw [if_pos hc, ro_old n (j + 1) 1 (Or.inr rfl)]
        exact ⟨fun z => absurd z.1 (by decide), fun z => absurd hc (z.2 j (Nat.le_refl _) (by omega))⟩
      · rw [if_neg hc, ro_old n (j + 1) 0 (Or.inl rfl)]
        refine ⟨fun z => ⟨h, fun q h1 h2 => ?_⟩, fun z => ⟨rfl, fun q h1 h2 => z.2 q (by omega) (by omega)⟩⟩
        rcases hs q h1 h2 with e | ⟨a, b⟩
        · rw [e]; exact hc
        · exact z.2 q a b
    · rw [if_neg (by rw [h]; decide), ro_old n (j + 1) 1 (Or.inr rfl)]
      exact ⟨fun z => absurd z.1 (by decide), fun z => absurd (h.symm.trans z.1) (by decide)⟩
section RP
variable {I : nf_I} {J : nf_J} {mp : Nat → Nat} {U : nf_I} {V : nf_J} {nn kc sz kp : Nat} {dd : Nat → Nat}
theorem ro_slot (hk : rl_keys I U kc) (hkc : kc ≤ 10) (key : Int32) : (xs_slot I kc key = -1 ∧ (∀ j, j < kc → ¬ I 2 0 j = key) ∧ ys_old U key kc 0 0 = 0) ∨ (¬ xs_slot I kc key = -1 ∧ (∃ s, s < kc ∧ key = I 2 0 s) ∧ ¬ ys_old U key kc 0 0 = 0) := by
  by_cases hx : ∃ s, s < kc ∧ key = I 2 0 s
  · right
    obtain ⟨s, h1, h2⟩ := hx
    refine ⟨?_, ⟨s, h1, h2⟩, fun z => ?_⟩
    · rw [h2, rs_slot hk hkc h1]; exact ri_ne (by omega)
    · exact ((ro_old kc 0 0 (Or.inl rfl)).mp z).2 s (Nat.zero_le _) (by omega) (by rw [(hk.1 s h1).1, h2])
  · left
    have hno : ∀ j, j < kc → ¬ I 2 0 j = key := fun j hj e => hx ⟨j, hj, e.symm⟩
    refine ⟨?_, hno, (ro_old kc 0 0 (Or.inl rfl)).mpr ⟨rfl, fun q _ h2 => by rw [(hk.1 q (by omega)).1]; exact hno q (by omega)⟩⟩
    rcases xs_slot_c I kc key with e | ⟨i, h1, h2, h3⟩
    · exact e
    · exact absurd h3 (hno i h1)
theorem rg_key (h : rl_all I J mp U V nn kc sz kp dd) (hkc : kc < 10) {key : Int32} (hno : ∀ j, j < kc → ¬ I 2 0 j = key) {d : Nat} (hd : d < 256) (hke : key = nI d) : rl_all (nf_iu (nf_iu I 2 0 kc key) 0 0 3 (nf_iu I 2 0 kc key 0 0 3 + 1)) J mp (ys_pt0 U kc key) V nn (kc + 1) sz kp dd := by
  obtain ⟨⟨⟨n1, n2, n3, n4⟩, n5, n6, n7, n8, n9, n10, n11⟩, hmp, hi, hn, hp, hk, he, hms⟩ := h
  have hI : ∀ a b c, ¬ (a = 2 ∧ b = 0 ∧ c = kc) → ¬ (a = 0 ∧ b = 0 ∧ c = 3) → nf_iu (nf_iu I 2 0 kc key) 0 0 3 (nf_iu I 2 0 kc key 0 0 3 + 1) a b c = I a b c := fun a b c h1 h2 => by rw [nf_iu_n _ _ h2, nf_iu_n _ _ h1]
  have hU : ∀ a b c, ¬ (a = 30 ∧ b = 0 ∧ c = kc) → ¬ (a = 20 ∧ b = 0 ∧ c = 11) → ys_pt0 U kc key a b c = U a b c := fun a b c h1 h2 => by unfold ys_pt0; rw [nf_iu_n _ _ h2, nf_iu_n _ _ h1]
  have hIk : nf_iu (nf_iu I 2 0 kc key) 0 0 3 (nf_iu I 2 0 kc key 0 0 3 + 1) 2 0 kc = key := by rw [nf_iu_n _ _ (by omega), nf_iu_s]
  have hUk : ys_pt0 U kc key 30 0 kc = key := by unfold ys_pt0; rw [nf_iu_n _ _ (by omega), nf_iu_s]
  refine ⟨⟨⟨n1, by omega, n3, n4⟩, ?_, ?_, ?_, ?_, ?_, ?_, ?_⟩, hmp, ?_, ?_, ?_, ⟨fun j hj => ?_, fun i j hi2 hj e => ?_⟩, ?_, fun j hj => ?_⟩
  · rw [hI 0 0 1 (by omega) (by omega)]; exact n5
  · rw [nf_iu_s, nf_iu_n _ _ (by omega), n6, nI_1]
  · rw [hI 3 0 1 (by omega) (by omega)]; exact n7
  · rw [hU 20 0 0 (by omega) (by omega)]; exact n8
  · rw [hU 20 0 7 (by omega) (by omega)]; exact n9
  · unfold ys_pt0; rw [nf_iu_s, nf_iu_n _ _ (by omega), n10, nI_1]
  · rw [hU 20 0 13 (by omega) (by omega)]; exact n11
  · exact rg_ids hi (fun i _ => hI 5 i 0 (by omega) (by omega))
  · exact rg_nodes hn (fun i c _ => hI 5 i c (by omega) (by omega)) (fun i c _ => hI 6 i c (by omega) (by omega)) (fun _ _ => rfl) (fun a c h1 h2 => hU a 0 c (by omega) (by omega)) (fun _ => rfl)
  · exact rg_ptr hp (fun i c _ => hI 5 i c (by omega) (by omega)) (fun i c _ => hI 6 i c (by omega) (by omega))
  · by_cases hjk : j = kc
    · rw [hjk, hIk, hUk]; exact ⟨rfl, d, hd, hke⟩
    · rw [hI 2 0 j (by omega) (by omega), hU 30 0 j (by omega) (by omega)]; exact hk.1 j (by omega)
  · by_cases hik : i = kc
    · by_cases hjk : j = kc
      · rw [hik, hjk]
      · rw [hik, hIk, hI 2 0 j (by omega) (by omega)] at e
        exact absurd e.symm (hno j (by omega))
    · by_cases hjk : j = kc
      · rw [hjk, hIk, hI 2 0 i (by omega) (by omega)] at e
        exact absurd e (hno i (by omega))
      · rw [hI 2 0 i (by omega) (by omega), hI 2 0 j (by omega) (by omega)] at e
        exact hk.2 i j (by omega) (by omega) e
  · obtain ⟨e1, e2, e3⟩ := he
    refine ⟨fun q hq => ?_, fun q r hq hr a b => ?_, fun i s hi2 hs hv => ?_⟩
    · obtain ⟨i, s, h1, h2, a, b, c⟩ := e1 q hq
      exact ⟨i, s, h1, by omega, by rw [hU 27 0 q (by omega) (by omega)]; exact a, by rw [hU 28 0 q (by omega) (by omega), hI 2 0 s (by omega) (by omega)]; exact b, by rw [hU 29 0 q (by omega) (by omega)]; exact c⟩
    · rw [hU 27 0 q (by omega) (by omega), hU 27 0 r (by omega) (by omega)] at a
      rw [hU 28 0 q (by omega) (by omega), hU 28 0 r (by omega) (by omega)] at b
      exact e2 q r hq hr a b
    · obtain ⟨h1, q, h2, a, b⟩ := e3 i s hi2 hs hv
      exact ⟨by omega, q, h2, by rw [hU 27 0 q (by omega) (by omega)]; exact a, by rw [hU 28 0 q (by omega) (by omega), hI 2 0 s (by omega) (by omega)]; exact b⟩
  · exact rg_msg (hms j hj) (fun c => hI 8 _ c (by omega) (by omega)) rfl (fun a h1 h2 => hU a 0 j (by omega) (by omega)) rfl (rg_mb (fun i _ hh => by rw [hI 5 i 1 (by omega) (by omega)]; exact hh)) (fun _ z => z) (fun s hs => ⟨by omega, hI 2 0 s (by omega) (by omega)⟩)
theorem rp_put (h : rl_all I J mp U V nn kc sz kp dd) (id key v : Int32) : xs_putB I nn kc id key = ys_ptB U kc id key ∧ ∃ kc' sz', rl_all (xs_putI I nn kc (mp sz) id key) (xs_putJ I J nn kc (mp sz) id key v) mp (ys_ptI U kc sz id key) (ys_ptJ U V kc sz id key v) nn kc' sz' kp dd := by
  have h' := h
  obtain ⟨hnum, hmp, hi, hn, hp, hk, he, hms⟩ := h'
  have hkc := hnum.1.2.1
  have hF : ys_ptB U kc id key = false → ys_ptI U kc sz id key = U ∧ ys_ptJ U V kc sz id key v = V := fun z => ⟨by unfold ys_ptI; rw [if_pos z], by unfold ys_ptJ; rw [if_pos z]⟩
  unfold xs_putB xs_putI xs_putJ
  rcases rm_cases hi hn id with ⟨e1, e2⟩ | ⟨i, h1, h2, h3, e1, e2, e3⟩
  · have hb : ys_ptB U kc id key = false := by simp [ys_ptB, ys_gtB, e2]
    rw [e1, hb, (hF hb).1, (hF hb).2]
    exact ⟨rfl, kc, sz, h⟩
  · rw [e1]
    simp only
    cases hid : xs_isId key with
    | false =>
      have hb : ys_ptB U kc id key = false := by simp [ys_ptB, ys_gtB, e2, ri_eq, hid]
      rw [hb, (hF hb).1, (hF hb).2]
      exact ⟨rfl, kc, sz, h⟩
    | true =>
      obtain ⟨d, hd, hke⟩ := ri_ix hid
      have nf : ¬ true = false := by decide
      rw [if_neg nf, if_neg nf, if_neg nf]
      rcases rq_full hnum with ⟨q1, q2, q3⟩ | ⟨q1, q2, q3⟩
      · have hg : ys_gtB U id key = true := by unfold ys_gtB; rw [if_neg (by rw [e2]; decide), if_neg (by rw [ri_eq, hid]; decide), if_pos q3]
        rw [if_pos q2, if_pos q2, if_pos q2]
        rcases ro_slot hk hkc key with ⟨s1, s2, s3⟩ | ⟨s1, s2, s3⟩
        · by_cases hlt : kc < 10
          · have ha : I 0 0 3 < 10 := by rw [hnum.2.2.1]; exact nI_lt (b := 10) hlt (by decide)
            have hb2 : U 20 0 11 < 10 := by rw [hnum.2.2.2.2.2.2.1]; exact nI_lt (b := 10) hlt (by decide)
            have hB : xs_tkB I kc key = true := by unfold xs_tkB; rw [if_pos s1, if_pos ha]
            have hT : xs_tkI I kc key = nf_iu (nf_iu I 2 0 kc key) 0 0 3 (nf_iu I 2 0 kc key 0 0 3 + 1) := by unfold xs_tkI; rw [if_pos s1, if_pos ha]
            have hb : ys_ptB U kc id key = true := by unfold ys_ptB; rw [if_neg (by rw [hg]; decide), if_pos s3, if_pos hb2]
            have hM : ys_ptI U kc sz id key = ys_ask (ys_pt0 U kc key) sz id key 2 0 ∧ ys_ptJ U V kc sz id key v = ys_askJ V sz v.toInt64 := ⟨by unfold ys_ptI; rw [if_neg (by rw [hb]; decide), if_pos s3], by unfold ys_ptJ; rw [if_neg (by rw [hb]; decide)]⟩
            rw [hB, hb, hM.1, hM.2, if_neg nf, if_neg nf, hT]
            have hR := rg_key h hlt s2 hd hke
            generalize hI1 : nf_iu (nf_iu I 2 0 kc key) 0 0 3 (nf_iu I 2 0 kc key 0 0 3 + 1) = I1 at hR ⊢
            generalize hU1 : ys_pt0 U kc key = U1 at hR ⊢
            have hkk : I1 2 0 kc = key := by rw [← hI1, nf_iu_n _ _ (by omega), nf_iu_s]
            have hmb1 : rl_mb I1 nn dd id := rg_mb (I := I) (fun k _ hh => by rw [← hI1, nf_iu_n _ _ (by omega), nf_iu_n _ _ (by omega)]; exact hh) _ ⟨i, h1, h2, h3⟩
            refine ⟨rfl, kc + 1, sz + 1, rp_find (ak := id) (ky := key) (pu := 3) hR q1 hmb1 rfl (fun a b c _ a1 a2 => rq_fI a b c a1 a2) (rq_f3 hR.1.2.2.2.1) (fun a b c _ a2 => ?_) ?_ ?_ ?_ ?_ ?_ ?_ (nf_ju_s _ _ _ _ _) ?_ ⟨d, hd, hke⟩ (Or.inr (Or.inl ⟨rfl, rfl, ⟨v, rfl⟩, kc, by omega, hkk.symm⟩))⟩
            · rw [nf_ju_n _ _ (by omega), rq_sJ a b c a2]
            · simp [xs_fI, xs_sI, nf_iu]
            · simp [xs_fI, xs_sI, nf_iu]
            · simp [xs_fI, xs_sI, nf_iu]
            · simp [xs_fI, xs_sI, nf_iu]
            · simp [xs_fI, xs_sI, nf_iu]
            · simp [xs_fI, xs_sI, nf_iu]
            · rw [hke, rq_and hd]
          · have ha : ¬ I 0 0 3 < 10 := by rw [hnum.2.2.1]; exact fun z => hlt ((nI_ltI (b := 10) (by omega) (by decide)).mp z)
            have hb2 : ¬ U 20 0 11 < 10 := by rw [hnum.2.2.2.2.2.2.1]; exact fun z => hlt ((nI_ltI (b := 10) (by omega) (by decide)).mp z)
            have hB : xs_tkB I kc key = false := by unfold xs_tkB; rw [if_pos s1, if_neg ha]
            have hT : xs_tkI I kc key = I := by unfold xs_tkI; rw [if_pos s1, if_neg ha]
            have hb : ys_ptB U kc id key = false := by unfold ys_ptB; rw [if_neg (by rw [hg]; decide), if_pos s3, if_neg hb2]
            rw [hB, hb, (hF hb).1, (hF hb).2, if_pos rfl, if_pos rfl, hT]
            exact ⟨rfl, kc, sz, h⟩
        · have hB : xs_tkB I kc key = true := by unfold xs_tkB; rw [if_neg s1]
          have hT : xs_tkI I kc key = I := by unfold xs_tkI; rw [if_neg s1]
          have hb : ys_ptB U kc id key = true := by unfold ys_ptB; rw [if_neg (by rw [hg]; decide), if_neg s3]
          have hM : ys_ptI U kc sz id key = ys_ask U sz id key 2 0 ∧ ys_ptJ U V kc sz id key v = ys_askJ V sz v.toInt64 := ⟨by unfold ys_ptI; rw [if_neg (by rw [hb]; decide), if_neg s3], by unfold ys_ptJ; rw [if_neg (by rw [hb]; decide)]⟩
          rw [hB, hb, hM.1, hM.2, if_neg nf, if_neg nf, hT]
          refine ⟨rfl, kc, sz + 1, rp_find (ak := id) (ky := key) (pu := 3) h q1 ⟨i, h1, h2, h3⟩ rfl (fun a b c _ a1 a2 => rq_fI a b c a1 a2) (rq_f3 hnum.2.2.2.1) (fun a b c _ a2 => ?_) ?_ ?_ ?_ ?_ ?_ ?_ (nf_ju_s _ _ _ _ _) ?_ ⟨d, hd, hke⟩ (Or.inr (Or.inl ⟨rfl, rfl, ⟨v, rfl⟩, s2⟩))⟩
          · rw [nf_ju_n _ _ (by omega), rq_sJ a b c a2]
          · simp [xs_fI, xs_sI, nf_iu]
          · simp [xs_fI, xs_sI, nf_iu]
          · simp [xs_fI, xs_sI, nf_iu]
          · simp [xs_fI, xs_sI, nf_iu]
          · simp [xs_fI, xs_sI, nf_iu]
          · simp [xs_fI, xs_sI, nf_iu]
          · rw [hke, rq_and hd]
      · have hg : ys_gtB U id key = false := by unfold ys_gtB; rw [if_neg (by rw [e2]; decide), if_neg (by rw [ri_eq, hid]; decide), if_neg q3]
        have hb : ys_ptB U kc id key = false := by unfold ys_ptB; rw [if_pos hg]
        have q2' : ¬ xs_full I = false := by rw [q2]; decide
        rw [if_neg q2', if_neg q2', if_neg q2', hb, (hF hb).1, (hF hb).2]
        exact ⟨rfl, kc, sz, h⟩
end RP
