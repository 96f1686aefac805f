/-! A new node on both sides: create, join. -/
section RJ
variable {I : nf_I} {J : nf_J} {mp : Nat → Nat} {U : nf_I} {V : nf_J} {nn kc sz kp : Nat} {dd : Nat → Nat}
theorem rj_ndI {id : Int32} : ∀ a b c, ¬ ((a = 5 ∨ a = 6 ∨ a = 7) ∧ b = nn) → xs_ndI (nf_iz I 5 nn) nn id a b c = I a b c := by
  intro a b c h
  have h5 : ¬ (a = 5 ∧ b = nn) := fun z => h ⟨Or.inl z.1, z.2⟩
  have h6 : ¬ (a = 6 ∧ b = nn) := fun z => h ⟨Or.inr (Or.inl z.1), z.2⟩
  have h7 : ¬ (a = 7 ∧ b = nn) := fun z => h ⟨Or.inr (Or.inr z.1), z.2⟩
  have k5 : ∀ n : Nat, ¬ (a = 5 ∧ b = nn ∧ c = n) := fun n z => h5 ⟨z.1, z.2.1⟩
  have k6 : ∀ n : Nat, ¬ (a = 6 ∧ b = nn ∧ c < n) := fun n z => h6 ⟨z.1, z.2.1⟩
  simp only [xs_ndI, nf_if, nf_iu, nf_iz, if_neg h5, if_neg h6, if_neg h7, if_neg (k5 _), if_neg (k6 _)]
theorem rj_ndJ : ∀ a b c, ¬ ((a = 5 ∨ a = 6 ∨ a = 7) ∧ b = nn) → xs_ndJ (nf_jz J 5 nn) nn a b c = J a b c := by
  intro a b c h
  have h5 : ¬ (a = 5 ∧ b = nn) := fun z => h ⟨Or.inl z.1, z.2⟩
  have h6 : ¬ (a = 6 ∧ b = nn) := fun z => h ⟨Or.inr (Or.inl z.1), z.2⟩
  have h7 : ¬ (a = 7 ∧ b = nn) := fun z => h ⟨Or.inr (Or.inr z.1), z.2⟩
  have k5 : ∀ n : Nat, ¬ (a = 5 ∧ b = nn ∧ c = n) := fun n z => h5 ⟨z.1, z.2.1⟩
  have k7 : ∀ n : Nat, ¬ (a = 7 ∧ b = nn ∧ c < n) := fun n z => h7 ⟨z.1, z.2.1⟩
  simp only [xs_ndJ, nf_jf, nf_ju, nf_jz, if_neg h5, if_neg h6, if_neg h7, if_neg (k5 _), if_neg (k7 _)]
theorem rj_an {id : Int32} : ∀ a b c, ¬ ((a = 5 ∨ a = 6 ∨ a = 7) ∧ b = nn) → ¬ (a = 0 ∧ b = 0 ∧ c = 1) → xs_anI I nn id a b c = I a b c := by
  intro a b c h h2
  unfold xs_anI
  rw [nf_iu_n _ _ h2, rj_ndI a b c h]
/-- the new node's cells -/
theorem rj_new (id : Int32) : xs_anI I nn id 5 nn 0 = id ∧ xs_anI I nn id 5 nn 1 = -1 ∧ xs_anI I nn id 5 nn 2 = -1 ∧ xs_anI I nn id 5 nn 6 = 0 ∧ (∀ j, j < 8 → xs_anI I nn id 6 nn j = -1) ∧ xs_anJ J nn 5 nn 5 = 8589934592 ∧ ∀ s, s < 10 → xs_anJ J nn 7 nn s = 4294967296 := by
  refine ⟨?_, ?_, ?_, ?_, fun j hj => ?_, ?_, fun s hs => ?_⟩
  · simp [xs_anI, xs_ndI, nf_if, nf_iu, nf_iz]
  · simp [xs_anI, xs_ndI, nf_if, nf_iu, nf_iz]
  · simp [xs_anI, xs_ndI, nf_if, nf_iu, nf_iz]
  · simp [xs_anI, xs_ndI, nf_if, nf_iu, nf_iz]
  · simp [xs_anI, xs_ndI, nf_if, nf_iu, nf_iz, hj]
  · simp [xs_anJ, xs_ndJ, nf_jf, nf_ju, nf_jz]
  · simp [xs_anJ, xs_ndJ, nf_jf, nf_ju, nf_jz, hs]
theorem rg_add (h : rl_all I J mp U V nn kc sz kp dd) (h12 : nn < 12) {d : Nat} (hd : d < 256) (hno : ∀ i, i < nn → ¬ dd i = d) : rl_all (xs_anI I nn (nI d)) (xs_anJ J nn) mp (nf_iu (nf_iu U 20 0 0 (U 20 0 0 + 1)) 21 0 d 1) V (nn + 1) kc sz kp (va_up dd nn d) := by
  obtain ⟨⟨⟨n1, n2, n3, n4⟩, n5, n6, n7, n8, n9, n10, n11⟩, hmp, hi, hn, hp, hk, he, hms⟩ := h
  have hI : ∀ a b c, ¬ ((a = 5 ∨ a = 6 ∨ a = 7) ∧ b = nn) → ¬ (a = 0 ∧ b = 0 ∧ c = 1) → xs_anI I nn (nI d) a b c = I a b c := fun a b c h1 h2 => rj_an a b c h1 h2
  have hJ : ∀ a b c, ¬ ((a = 5 ∨ a = 6 ∨ a = 7) ∧ b = nn) → xs_anJ J nn a b c = J a b c := fun a b c h1 => rj_ndJ a b c h1
  have hU : ∀ a b c, ¬ (a = 20 ∧ b = 0 ∧ c = 0) → ¬ (a = 21 ∧ b = 0 ∧ c = d) → nf_iu (nf_iu U 20 0 0 (U 20 0 0 + 1)) 21 0 d 1 a b c = U a b c := fun a b c h1 h2 => by rw [nf_iu_n _ _ h2, nf_iu_n _ _ h1]
  obtain ⟨w0, w1, w2, w6, wf, wa, wv⟩ := rj_new (I := I) (J := J) (nn := nn) (nI d)
  have hdd : ∀ i, i < nn → va_up dd nn d i = dd i := fun i hi => va_up_ne _ _ (by omega)
  have hdn : va_up dd nn d nn = d := va_up_self _ _ _
  have h5 : ∀ i c, i < nn → xs_anI I nn (nI d) 5 i c = I 5 i c := fun i c hi => hI 5 i c (by omega) (by omega)
  have h6 : ∀ i c, i < nn → xs_anI I nn (nI d) 6 i c = I 6 i c := fun i c hi => hI 6 i c (by omega) (by omega)
  have hmb : ∀ x, rl_mb I nn dd x → rl_mb (xs_anI I nn (nI d)) (nn + 1) (va_up dd nn d) x := fun x ⟨i, a, b, c⟩ => ⟨i, by omega, by rw [hdd i a]; exact b, by rw [h5 i 1 a]; exact c⟩
  have hnd : ∀ x, rl_nd nn dd x → rl_nd (nn + 1) (va_up dd nn d) x := fun x ⟨i, a, b⟩ => ⟨i, by omega, by rw [hdd i a]; exact b⟩
  have hno' := hn.2 d hd hno
  refine ⟨⟨⟨by omega, n2, n3, n4⟩, ?_, ?_, ?_, ?_, ?_, ?_, ?_⟩, hmp, ⟨fun i hi2 => ?_, fun i j hi2 hj e => ?_⟩, ⟨fun i hi2 => ?_, fun e he2 hno2 => ?_⟩, fun i hi2 => ?_, ?_, ⟨fun q hq => ?_, fun q r hq hr a b => ?_, fun i s hi2 hs hv => ?_⟩, fun j hj => ?_⟩
  · unfold xs_anI; rw [nf_iu_s, rj_ndI 0 0 1 (by omega), n5, nI_1]
  · rw [hI 0 0 3 (by omega) (by omega)]; exact n6
  · rw [hI 3 0 1 (by omega) (by omega)]; exact n7
  · rw [nf_iu_n _ _ (by omega), nf_iu_s, n8, nI_1]
  · rw [hU 20 0 7 (by omega) (by omega)]; exact n9
  · rw [hU 20 0 11 (by omega) (by omega)]; exact n10
  · rw [hU 20 0 13 (by omega) (by omega)]; exact n11
  · by_cases hin : i = nn
    · rw [hin, hdn, w0]; exact ⟨hd, rfl⟩
    · rw [hdd i (by omega), h5 i 0 (by omega)]; exact hi.1 i (by omega)
  · by_cases hin : i = nn
    · by_cases hjn : j = nn
      · omega
      · rw [hin, hdn, hdd j (by omega)] at e
        exact absurd e.symm (hno j (by omega))
    · by_cases hjn : j = nn
      · rw [hjn, hdn, hdd i (by omega)] at e
        exact absurd e (hno i (by omega))
      · rw [hdd i (by omega), hdd j (by omega)] at e
        exact hi.2 i j (by omega) (by omega) e
  · by_cases hin : i = nn
    · rw [hin, hdn]
      obtain ⟨a1, a2, a3, a4, a5, a6⟩ := hno'
      refine ⟨?_, ?_, ?_, fun j hj => ?_, ?_, ?_⟩
      · rw [nf_iu_s, w1, if_pos rfl]
      · rw [hU 22 0 d (by omega) (by omega), w1]; exact a2
      · rw [hU 23 0 d (by omega) (by omega), w2]; exact a3
      · rw [hU 24 0 _ (by omega) (by omega), wf j hj]; exact a4 j hj
      · rw [wa]; exact a5
      · rw [hU 26 0 d (by omega) (by omega), w6]; exact a6
    · have hne : ¬ dd i = d := hno i (by omega)
      rw [hdd i (by omega)]
      obtain ⟨a1, a2, a3, a4, a5, a6⟩ := hn.1 i (by omega)
      refine ⟨?_, ?_, ?_, fun j hj => ?_, ?_, ?_⟩
      · rw [hU 21 0 _ (by omega) (by omega), h5 i 1 (by omega)]; exact a1
      · rw [hU 22 0 _ (by omega) (by omega), h5 i 1 (by omega)]; exact a2
      · rw [hU 23 0 _ (by omega) (by omega), h5 i 2 (by omega)]; exact a3
      · rw [hU 24 0 _ (by omega) (by omega), h6 i j (by omega)]; exact a4 j hj
      · rw [hJ 5 i 5 (by omega)]; exact a5
      · rw [hU 26 0 _ (by omega) (by omega), h5 i 6 (by omega)]; exact a6
  · have hed : ¬ e = d := fun z => hno2 nn (by omega) (by rw [hdn, z])
    obtain ⟨a1, a2, a3, a4, a5, a6⟩ := hn.2 e he2 (fun i hi2 z => hno2 i (by omega) (by rw [hdd i hi2]; exact z))
    refine ⟨?_, ?_, ?_, fun j hj => ?_, a5, ?_⟩
    · rw [hU 21 0 _ (by omega) (by omega)]; exact a1
    · rw [hU 22 0 _ (by omega) (by omega)]; exact a2
    · rw [hU 23 0 _ (by omega) (by omega)]; exact a3
    · rw [hU 24 0 _ (by omega) (by omega)]; exact a4 j hj
    · rw [hU 26 0 _ (by omega) (by omega)]; exact a6
  · by_cases hin : i = nn
    · rw [hin]
      exact ⟨Or.inl w1, Or.inl w2, fun j hj => Or.inl (wf j hj)⟩
    · obtain ⟨a1, a2, a3⟩ := hp i (by omega)
      rw [h5 i 1 (by omega), h5 i 2 (by omega)]
      exact ⟨a1.imp_right (hmb _), a2.imp_right (hmb _), fun j hj => by rw [h6 i j (by omega)]; exact (a3 j hj).imp_right (hmb _)⟩
  · exact rg_keys hk (fun j _ => hI 2 0 j (by omega) (by omega)) (fun j _ => hU 30 0 j (by omega) (by omega))
  · obtain ⟨i, s, b1, b2, a, b, c⟩ := he.1 q hq
    exact ⟨i, s, by omega, b2, by rw [hU 27 0 q (by omega) (by omega), hdd i b1]; exact a, by rw [hU 28 0 q (by omega) (by omega), hI 2 0 s (by omega) (by omega)]; exact b, by rw [hJ 7 i s (by omega), hU 29 0 q (by omega) (by omega)]; exact c⟩
  · rw [hU 27 0 q (by omega) (by omega), hU 27 0 r (by omega) (by omega)] at a
    rw [hU 28 0 q (by omega) (by omega), hU 28 0 r (by omega) (by omega)] at b
    exact he.2.1 q r hq hr a b
  · by_cases hin : i = nn
    · rw [hin, wv s hs] at hv; exact absurd rfl hv
    · rw [hJ 7 i s (by omega)] at hv
      obtain ⟨c1, q, c2, a, b⟩ := he.2.2 i s (by omega) hs hv
      exact ⟨c1, q, c2, by rw [hU 27 0 q (by omega) (by omega), hdd i (by omega)]; exact a, by rw [hU 28 0 q (by omega) (by omega), hI 2 0 s (by omega) (by omega)]; exact b⟩
  · exact rg_msg (hms j hj) (fun c => hI 8 _ c (by omega) (by omega)) (hJ 8 _ 8 (by omega)) (fun a h1 h2 => hU a 0 j (by omega) (by omega)) rfl hmb hnd (fun s hs => ⟨hs, hI 2 0 s (by omega) (by omega)⟩)
theorem rp_cr (h : rl_all I J mp U V nn kc sz kp dd) (id : Int32) : xs_crB I id = ys_crB U id ∧ ∃ dd', rl_all (xs_crI I nn id) (xs_crJ I J nn id) mp (ys_crI U id) V (xs_n1 nn (xs_crB I id)) kc sz kp dd' := by
  have h' := h
  obtain ⟨hnum, hmp, hi, hn, hp, hk, he, hms⟩ := h'
  have hF : xs_crB I id = false → ys_crB U id = false → ys_crI U id = U → xs_crB I id = ys_crB U id ∧ ∃ dd', rl_all (xs_crI I nn id) (xs_crJ I J nn id) mp (ys_crI U id) V (xs_n1 nn (xs_crB I id)) kc sz kp dd' := by
    intro a b c
    unfold xs_crI xs_crJ xs_n1
    rw [a, b, c]
    exact ⟨rfl, dd, h⟩
  cases hid : xs_isId id with
  | false => exact hF (by simp [xs_crB, hid]) (by simp [ys_crB, ri_eq, hid]) (by simp [ys_crI, ri_eq, hid])
  | true =>
    obtain ⟨d, hd, hde⟩ := ri_ix hid
    by_cases hn0 : nn = 0
    · have a1 : I 0 0 1 ≤ 0 := by rw [hnum.2.1, hn0]; decide
      have a2 : U 20 0 0 ≤ 0 := by rw [hnum.2.2.2.2.1, hn0]; decide
      have b1 : xs_crB I id = true := by simp [xs_crB, hid, a1]
      have b2 : ys_crB U id = true := by simp [ys_crB, ri_eq, hid, a2]
      have b3 : ys_crI U id = nf_iu (nf_iu (nf_iu U 20 0 0 1) 21 0 d 2) 22 0 d (nI d) := by
        unfold ys_crI
        rw [if_neg (by rw [ri_eq, hid]; decide), if_pos a2, hde, nI_clamp (by omega)]
      unfold xs_crI xs_crJ
      rw [b1, b2, b3, if_pos rfl, if_pos rfl, hde]
      refine ⟨rfl, va_up dd nn d, ?_⟩
      have hA := rg_add h (by omega) hd (fun i hi2 => by omega)
      obtain ⟨w0, w1, w2, w6, wf, wa, wv⟩ := rj_new (I := I) (J := J) (nn := nn) (nI d)
      have hdn : va_up dd nn d nn = d := va_up_self _ _ _
      have hat := hA.2.2.2.1.1 nn (by omega)
      show rl_all _ _ _ _ _ (nn + 1) kc sz kp _
      have own : rl_mb (nf_iu (xs_anI I nn (nI d)) 5 nn 1 (nI d)) (nn + 1) (va_up dd nn d) (nI d) := ⟨nn, by omega, by rw [hdn], by rw [nf_iu_s]; exact ri_ne hd⟩
      refine rg_node hA (i0 := nn) (by omega) (fun a b c _ hh => ?_) ?_ (fun a b c _ _ => rfl) (fun a b c _ hh => ?_) (fun a b c _ _ => rfl) ?_ (fun _ => ?_) ?_
      · rw [nf_iu_n _ _ (fun z => hh ⟨Or.inl z.1, z.2.1⟩)]
      · rw [nf_iu_n _ _ (by omega)]
      · rw [hdn] at hh
        by_cases hz : a = 20 ∧ b = 0 ∧ c = 0
        · obtain ⟨rfl, rfl, rfl⟩ := hz
          simp [nf_iu, hnum.2.2.2.2.1, hn0, nI_0]
        · rw [nf_iu_n _ _ (by omega), nf_iu_n _ _ (by omega), nf_iu_n _ _ hz, nf_iu_n _ _ (by omega), nf_iu_n _ _ hz]
      · rw [hdn] at hat ⊢
        obtain ⟨a1, a2, a3, a4, a5, a6⟩ := hat
        refine ⟨?_, ?_, ?_, fun j hj => ?_, a5, ?_⟩
        · rw [nf_iu_s, if_neg (ri_ne hd), nf_iu_n _ _ (by omega), nf_iu_s]
        · rw [nf_iu_s, nf_iu_s]
        · rw [nf_iu_n _ _ (by omega), nf_iu_n _ _ (by omega), nf_iu_n _ _ (by omega), nf_iu_n _ _ (by omega)]
          rw [nf_iu_n _ _ (by omega), nf_iu_n _ _ (by omega)] at a3
          exact a3
        · rw [nf_iu_n _ _ (by omega), nf_iu_n _ _ (by omega), nf_iu_n _ _ (by omega), nf_iu_n _ _ (by omega)]
          have := a4 j hj
          rw [nf_iu_n _ _ (by omega), nf_iu_n _ _ (by omega)] at this
          exact this
        · rw [nf_iu_n _ _ (by omega), nf_iu_n _ _ (by omega), nf_iu_n _ _ (by omega), nf_iu_n _ _ (by omega)]
          rw [nf_iu_n _ _ (by omega), nf_iu_n _ _ (by omega)] at a6
          exact a6
      · rw [nf_iu_s]; exact ri_ne hd
      · refine ⟨Or.inr ?_, Or.inl ?_, fun j hj => Or.inl ?_⟩
        · rw [nf_iu_s]; exact own
        · rw [nf_iu_n _ _ (by omega)]; exact w2
        · rw [nf_iu_n _ _ (by omega)]; exact wf j hj
    · have a1 : ¬ I 0 0 1 ≤ 0 := by rw [hnum.2.1]; exact nI_nle (by omega) (by have := hnum.1.1; omega)
      have a2 : ¬ U 20 0 0 ≤ 0 := by rw [hnum.2.2.2.2.1]; exact nI_nle (by omega) (by have := hnum.1.1; omega)
      exact hF (by simp [xs_crB, hid, a1]) (by simp [ys_crB, ri_eq, hid, a2]) (by simp [ys_crI, ri_eq, hid, a2])
theorem rp_jn (h : rl_all I J mp U V nn kc sz kp dd) (id via : Int32) : xs_jnB I nn id via = ys_jnB U id via ∧ ∃ sz' dd', rl_all (xs_jnI I nn (mp sz) id via) (xs_jnJ I J nn (mp sz) id via) mp (ys_jnI U sz id via) (ys_jnJ U V sz id via) (xs_n1 nn (xs_jnB I nn id via)) kc sz' kp dd' := by
  have h' := h
  obtain ⟨hnum, hmp, hi, hn, hp, hk, he, hms⟩ := h'
  have hF : xs_jnB I nn id via = false → ys_jnB U id via = false → xs_jnB I nn id via = ys_jnB U id via ∧ ∃ sz' dd', rl_all (xs_jnI I nn (mp sz) id via) (xs_jnJ I J nn (mp sz) id via) mp (ys_jnI U sz id via) (ys_jnJ U V sz id via) (xs_n1 nn (xs_jnB I nn id via)) kc sz' kp dd' := by
    intro a b
    unfold xs_jnI xs_jnJ xs_n1 ys_jnI ys_jnJ
    rw [a, b]
    exact ⟨rfl, sz, dd, h⟩
  cases hid : xs_isId id with
  | false => exact hF (by simp [xs_jnB, hid]) (by simp [ys_jnB, ri_eq, hid])
  | true =>
    obtain ⟨d, hd, hde⟩ := ri_ix hid
    have hc : id.toNatClampNeg = d := by rw [hde, nI_clamp (by omega)]
    have hyid : ¬ ys_isId id = false := by rw [ri_eq, hid]; decide
    rcases rn_cases hi id with ⟨h1, h2⟩ | ⟨i, h1, h2, h3⟩
    · have hno : ∀ i, i < nn → ¬ dd i = d := fun i hi2 z => h1 i hi2 (by rw [hde, z])
      have hr0 := (hn.2 d hd hno).1
      rcases rm_cases hi hn via with ⟨e1, e2⟩ | ⟨v, v1, v2, v3, e1, e2, e3⟩
      · exact hF (by simp [xs_jnB, hid, h2, e1]) (by unfold ys_jnB; rw [if_neg hyid, hc, if_pos hr0, if_pos e2])
      · by_cases h12 : nn < 12
        · have a1 : ¬ 12 ≤ I 0 0 1 := by rw [hnum.2.1]; exact fun z => absurd ((nI_leI (a := 12) (by decide) (by omega)).mp z) (by omega)
          have a2 : ¬ 12 ≤ U 20 0 0 := by rw [hnum.2.2.2.2.1]; exact fun z => absurd ((nI_leI (a := 12) (by decide) (by omega)).mp z) (by omega)
          rcases rq_full hnum with ⟨q1, q2, q3⟩ | ⟨q1, q2, q3⟩
          · have b1 : xs_jnB I nn id via = true := by simp [xs_jnB, hid, h2, e1, a1, q2]
            have b2 : ys_jnB U id via = true := by unfold ys_jnB; rw [if_neg hyid, hc, if_pos hr0, if_neg (by rw [e2]; decide), if_neg a2, if_pos q3]
            unfold xs_jnI xs_jnJ ys_jnI ys_jnJ
            rw [b1, b2, if_pos rfl, if_pos rfl, if_neg (by decide), if_neg (by decide)]
            refine ⟨rfl, sz + 1, va_up dd nn d, ?_⟩
            have hA := rg_add h h12 hd hno
            have hU0 : ys_jn0 U id = nf_iu (nf_iu U 20 0 0 (U 20 0 0 + 1)) 21 0 d 1 := by unfold ys_jn0; rw [hc]
            rw [hU0, hde]
            generalize hA1 : xs_anI I nn (nI d) = A1 at hA ⊢
            generalize hA2 : xs_anJ J nn = A2 at hA ⊢
            generalize hA3 : nf_iu (nf_iu U 20 0 0 (U 20 0 0 + 1)) 21 0 d 1 = A3 at hA ⊢
            show rl_all _ _ _ _ _ (nn + 1) kc (sz + 1) kp _
            have hdn : va_up dd nn d nn = d := va_up_self _ _ _
            have hvm : rl_mb A1 (nn + 1) (va_up dd nn d) via := ⟨v, by omega, by rw [va_up_ne _ _ (by omega)]; exact v2, by rw [← hA1, rj_an 5 v 1 (by omega) (by omega)]; exact v3⟩
            have hown : rl_nd (nn + 1) (va_up dd nn d) (nI d) := ⟨nn, by omega, by rw [hdn]⟩
            have u3 := hA.1.2.2.2.2.2.2.2
            refine rg_send hA q1 (fun a b c _ a1 a2 => rq_fI a b c a1 a2) (rq_f3 hA.1.2.2.2.1) (fun a b c _ a2 => rq_sJ a b c a2) (fun a b c _ a1 a2 => ?_) ?_ (fun a b c _ a1 => rq_askJ a b c a1) ?_
            · rw [nf_iu_n _ _ (by omega), rq_ask a b c a1 a2]
            · rw [nf_iu_n _ _ (by omega), rq_ask3 u3]
            · have hmb : ∀ x, rl_mb A1 (nn + 1) (va_up dd nn d) x → rl_mb (xs_fI A1 (mp sz) via (nI d) 1 (nI d)) (nn + 1) (va_up dd nn d) x := rg_mb (fun k _ hh => by rw [rq_fI _ _ _ (by omega) (by omega)]; exact hh)
              have f1 : xs_fI A1 (mp sz) via (nI d) 1 (nI d) 8 (mp sz) 1 = via := by simp [xs_fI, xs_sI, nf_iu]
              have f2 : xs_fI A1 (mp sz) via (nI d) 1 (nI d) 8 (mp sz) 2 = nI d := by simp [xs_fI, xs_sI, nf_iu]
              have f4 : xs_fI A1 (mp sz) via (nI d) 1 (nI d) 8 (mp sz) 4 = nI d := by simp [xs_fI, xs_sI, nf_iu]
              refine ⟨?_, ?_, ?_, Or.inl ⟨?_, ?_, ?_, ?_, ?_, ?_, ?_, ?_, Or.inl ⟨?_, ?_⟩⟩⟩
              · simp [xs_fI, xs_sI, ys_ask, ys_po, ys_po1, nf_iu]
              · simp [xs_fI, xs_sI, ys_ask, ys_po, ys_po1, nf_iu]
              · rw [f1]; exact rq_nd hvm
              · simp [xs_fI, xs_sI, nf_iu]
              · rw [f1]; exact hmb _ hvm
              · rw [f4]; simp [ys_ask, ys_po, ys_po1, nf_iu, rq_and hd]
              · rw [f4]; exact ⟨d, hd, rfl⟩
              · rw [f2, nf_iu_s]
              · rw [f2]; exact hown
              · simp [xs_fI, xs_sI, ys_ask, ys_po, ys_po1, nf_iu]
              · simp [xs_sJ, ys_askJ, nf_ju]
              · simp [xs_fI, nf_iu]
              · simp [ys_ask, nf_iu]
          · exact hF (by simp [xs_jnB, hid, h2, e1, q2]) (by unfold ys_jnB; rw [if_neg hyid, hc, if_pos hr0, if_neg (by rw [e2]; decide), if_neg a2, if_neg q3])
        · have a1 : 12 ≤ I 0 0 1 := by rw [hnum.2.1]; exact (nI_leI (a := 12) (by decide) (by have := hnum.1.1; omega)).mpr (by omega)
          have a2 : 12 ≤ U 20 0 0 := by rw [hnum.2.2.2.2.1]; exact (nI_leI (a := 12) (by decide) (by have := hnum.1.1; omega)).mpr (by omega)
          exact hF (by simp [xs_jnB, hid, h2, e1, a1]) (by unfold ys_jnB; rw [if_neg hyid, hc, if_pos hr0, if_neg (by rw [e2]; decide), if_pos a2])
    · have hr := (hn.1 i h1).1
      have hdi : dd i = d := ri_inj (hi.1 i h1).1 hd (by rw [← h2, hde])
      rw [hdi] at hr
      exact hF (by simp [xs_jnB, hid, h3]) (by unfold ys_jnB; rw [if_neg hyid, hc, if_neg (by rw [hr]; split <;> decide)])
end RJ
