/-! stabilise, fix, get, put on both sides. -/
section RA
variable {I : nf_I} {J : nf_J} {mp : Nat → Nat} {U : nf_I} {V : nf_J} {nn kc sz kp : Nat} {dd : Nat → Nat}
theorem rq_full (h : rl_num I U nn kc sz kp) : (sz < 20 ∧ xs_full I = false ∧ U 20 0 13 < 20) ∨ (¬ sz < 20 ∧ xs_full I = true ∧ ¬ U 20 0 13 < 20) := by
  obtain ⟨⟨-, -, h20, -⟩, -, -, h1, -, -, -, h2⟩ := h
  by_cases hs : sz < 20
  · left
    have a : I 3 0 1 < 20 := by rw [h1]; exact nI_lt (b := 20) hs (by decide)
    have b : U 20 0 13 < 20 := by rw [h2]; exact nI_lt (b := 20) hs (by decide)
    exact ⟨hs, by unfold xs_full; rw [if_pos a], b⟩
  · right
    have a : ¬ I 3 0 1 < 20 := by rw [h1]; exact fun z => hs ((nI_ltI (b := 20) (by omega) (by decide)).mp z)
    have b : ¬ U 20 0 13 < 20 := by rw [h2]; exact fun z => hs ((nI_ltI (b := 20) (by omega) (by decide)).mp z)
    exact ⟨hs, by unfold xs_full; rw [if_neg a], b⟩
theorem rq_sI {o : Nat} {kd tz : Int32} : ∀ a b c, ¬ (a = 3 ∧ b = 0 ∧ c = 1) → ¬ (a = 8 ∧ b = o) → xs_sI I o kd tz a b c = I a b c := by
  intro a b c h1 h2
  unfold xs_sI
  repeat rw [nf_iu_n _ _ (by omega)]
theorem rq_s3 {o : Nat} {kd tz : Int32} (hs : I 3 0 1 = nI sz) : xs_sI I o kd tz 3 0 1 = nI (sz + 1) := by
  simp [xs_sI, nf_iu, hs, nI_1]
theorem rq_sJ {o : Nat} : ∀ a b c, ¬ (a = 8 ∧ b = o) → xs_sJ J o a b c = J a b c := by
  intro a b c h2
  unfold xs_sJ
  rw [nf_ju_n _ _ (by omega)]
theorem rq_po {q : Nat} {kd tz ky ak : Int32} : ∀ a b c, ¬ (a = 20 ∧ b = 0 ∧ c = 13) → ¬ ((31 ≤ a ∧ a ≤ 37) ∧ b = 0 ∧ c = q) → ys_po U q kd tz ky ak a b c = U a b c := by
  intro a b c h1 h2
  unfold ys_po ys_po1
  repeat rw [nf_iu_n _ _ (by omega)]
theorem rq_poJ {q : Nat} : ∀ a b c, ¬ (a = 38 ∧ b = 0 ∧ c = q) → ys_poJ V q a b c = V a b c := by
  intro a b c h2
  unfold ys_poJ
  rw [nf_ju_n _ _ (by omega)]
theorem rq_ask {q : Nat} {mb wd why fi : Int32} : ∀ a b c, ¬ (a = 20 ∧ b = 0 ∧ c = 13) → ¬ ((31 ≤ a ∧ a ≤ 37) ∧ b = 0 ∧ c = q) → ys_ask U q mb wd why fi a b c = U a b c := by
  intro a b c h1 h2
  unfold ys_ask
  rw [nf_iu_n _ _ (by omega), nf_iu_n _ _ (by omega), rq_po a b c h1 h2]
theorem rq_askJ {q : Nat} {v : Int64} : ∀ a b c, ¬ (a = 38 ∧ b = 0 ∧ c = q) → ys_askJ V q v a b c = V a b c := by
  intro a b c h2
  unfold ys_askJ
  rw [nf_ju_n _ _ (by omega), rq_poJ a b c h2]
theorem rq_ask3 {q : Nat} {mb wd why fi : Int32} (h : U 20 0 13 = nI q) : ys_ask U q mb wd why fi 20 0 13 = nI (q + 1) := by
  unfold ys_ask
  rw [nf_iu_n _ _ (by omega), nf_iu_n _ _ (by omega), ys_po_row _ _ _ _ h]
theorem rq_fI {o : Nat} {tz ak pu ky : Int32} : ∀ a b c, ¬ (a = 3 ∧ b = 0 ∧ c = 1) → ¬ (a = 8 ∧ b = o) → xs_fI I o tz ak pu ky a b c = I a b c := by
  intro a b c h1 h2
  unfold xs_fI
  rw [nf_iu_n _ _ (by omega), nf_iu_n _ _ (by omega), nf_iu_n _ _ (by omega), rq_sI a b c h1 h2]
theorem rq_f3 {o : Nat} {tz ak pu ky : Int32} (hs : I 3 0 1 = nI sz) : xs_fI I o tz ak pu ky 3 0 1 = nI (sz + 1) := by
  unfold xs_fI
  rw [nf_iu_n _ _ (by omega), nf_iu_n _ _ (by omega), nf_iu_n _ _ (by omega), rq_s3 hs]
theorem rq_nd {x : Int32} (h : rl_mb I nn dd x) : rl_nd nn dd x := by
  obtain ⟨i, h1, h2, -⟩ := h
  exact ⟨i, h1, h2⟩
theorem rp_stb (h : rl_all I J mp U V nn kc sz kp dd) (id : Int32) : xs_stbB I nn id = ys_stB U id ∧ ∃ sz', rl_all (xs_stbI I nn (mp sz) id) (xs_stbJ I J nn (mp sz) id) mp (ys_stI U sz id) (ys_stJ U V sz id) nn kc sz' kp dd := by
  have h' := h
  obtain ⟨hnum, hmp, hi, hn, hp, hk, he, hms⟩ := h'
  unfold xs_stbB xs_stbI xs_stbJ ys_stI ys_stJ ys_stB
  rcases rm_cases hi hn id with ⟨e1, e2⟩ | ⟨i, h1, h2, h3, e1, e2, e3⟩
  · rw [e1, e2]
    simp only [if_true]
    exact ⟨trivial, sz, h⟩
  · rw [e1, e2, e3]
    rcases rq_full hnum with ⟨q1, q2, q3⟩ | ⟨q1, q2, q3⟩
    · simp only [q2, q3, if_true, if_false, Bool.true_eq_false]
      refine ⟨trivial, sz + 1, rg_send h q1 (fun a b c _ a1 a2 => ?_) ?_ (fun a b c _ a2 => rq_sJ a b c a2) (fun a b c _ a1 a2 => rq_po a b c a1 a2) (ys_po_row _ _ _ _ hnum.2.2.2.2.2.2.2) (fun a b c _ a1 => rq_poJ a b c a1) ?_⟩
      · rw [nf_iu_n _ _ (by omega), rq_sI a b c a1 a2]
      · rw [nf_iu_n _ _ (by omega), rq_s3 hnum.2.2.2.1]
      · have hmb : ∀ x, rl_mb I nn dd x → rl_mb (nf_iu (xs_sI I (mp sz) 6 (I 5 i 1)) 8 (mp sz) 6 id) nn dd x := rg_mb (fun k hk hh => by rw [nf_iu_n _ _ (by omega), rq_sI _ _ _ (by omega) (by omega)]; exact hh)
        have hs1 := (hp i h1).1.resolve_left h3
        refine ⟨?_, ?_, ?_, Or.inr (Or.inr (Or.inr (Or.inr (Or.inr (Or.inl ⟨?_, ?_, ?_⟩)))))⟩
        · simp [nf_iu, xs_sI, ys_po, ys_po1]
        · simp [nf_iu, xs_sI, ys_po, ys_po1, (hn.1 i h1).2.1]
        · have : nf_iu (xs_sI I (mp sz) 6 (I 5 i 1)) 8 (mp sz) 6 id 8 (mp sz) 1 = I 5 i 1 := by simp [nf_iu, xs_sI]
          rw [this]; exact rq_nd hs1
        · simp [nf_iu, xs_sI]
        · simp [nf_iu, xs_sI, ys_po, ys_po1]
        · rw [nf_iu_s]; exact hmb _ ⟨i, h1, h2, h3⟩
    · simp only [q2, q3, if_true, if_false, Bool.true_eq_false]
      exact ⟨trivial, sz, h⟩
/-- a question goes out, at both ends -/
theorem rp_find (h : rl_all I J mp U V nn kc sz kp dd) (hs : sz < 20) {I' : nf_I} {J' : nf_J} {tz ak ky : Int32} {pu : Int32} {wd why fi : Int32} {v : Int64} (hz : rl_mb I nn dd tz) (hak : tz = ak)
    (hI : ∀ a b c, a < 20 → ¬ (a = 3 ∧ b = 0 ∧ c = 1) → ¬ (a = 8 ∧ b = mp sz) → I' a b c = I a b c) (hI3 : I' 3 0 1 = nI (sz + 1)) (hJ : ∀ a b c, a < 20 → ¬ (a = 8 ∧ b = mp sz) → J' a b c = J a b c)
    (f0 : I' 8 (mp sz) 0 = 1) (f1 : I' 8 (mp sz) 1 = tz) (f2 : I' 8 (mp sz) 2 = ak) (f3 : I' 8 (mp sz) 3 = pu) (f4 : I' 8 (mp sz) 4 = ky) (f7 : I' 8 (mp sz) 7 = 0) (f8 : J' 8 (mp sz) 8 = v)
    (hw : ky = wd &&& 255) (hd : ∃ d, d < 256 ∧ ky = nI d) (hp : (pu = 2 ∧ why = 1 ∧ I' 8 (mp sz) 5 = fi ∧ ∃ t, t < 8 ∧ fi = nI t) ∨ (pu = 3 ∧ why = 2 ∧ (∃ x : Int32, v = x.toInt64) ∧ ∃ s, s < kc ∧ ky = I 2 0 s) ∨ (pu = 4 ∧ why = 3)) : rl_all I' J' mp (ys_ask U sz tz wd why fi) (ys_askJ V sz v) nn kc (sz + 1) kp dd := by
  have hnum := h.1
  have hmb : ∀ x, rl_mb I nn dd x → rl_mb I' nn dd x := rg_mb (fun k hk hh => by rw [hI 5 k 1 (by decide) (by omega) (by omega)]; exact hh)
  refine rg_send h hs hI hI3 hJ (fun a b c _ a1 a2 => rq_ask a b c a1 a2) (rq_ask3 hnum.2.2.2.2.2.2.2) (fun a b c _ a1 => rq_askJ a b c a1) ?_
  have u31 : ys_ask U sz tz wd why fi 31 0 sz = 1 := by simp [ys_ask, ys_po, ys_po1, nf_iu]
  have u32 : ys_ask U sz tz wd why fi 32 0 sz = tz := by simp [ys_ask, ys_po, ys_po1, nf_iu]
  have u33 : ys_ask U sz tz wd why fi 33 0 sz = wd &&& 255 := by simp [ys_ask, ys_po, ys_po1, nf_iu]
  have u34 : ys_ask U sz tz wd why fi 34 0 sz = why := by simp [ys_ask, nf_iu]
  have u35 : ys_ask U sz tz wd why fi 35 0 sz = fi := by simp [ys_ask, nf_iu]
  have u36 : ys_ask U sz tz wd why fi 36 0 sz = tz := by simp [ys_ask, ys_po, ys_po1, nf_iu]
  have u37 : ys_ask U sz tz wd why fi 37 0 sz = 0 := by simp [ys_ask, ys_po, ys_po1, nf_iu]
  have v38 : ys_askJ V sz v 38 0 sz = v := by simp [ys_askJ, nf_ju]
  refine ⟨by rw [f0, u31], by rw [f1, u32], by rw [f1]; exact rq_nd hz, Or.inl ⟨f0, by rw [f1]; exact hmb _ hz, by rw [f4, u33, hw], by rw [f4]; exact hd, by rw [f2, u36, hak], by rw [f2, ← hak]; exact rq_nd hz, by rw [f7, u37], by rw [f8, v38], ?_⟩⟩
  rcases hp with ⟨a, b, c, d⟩ | ⟨a, b, c, s, d, e⟩ | ⟨a, b⟩
  · exact Or.inr (Or.inl ⟨by rw [f3, a], by rw [u34, b], by rw [c, u35], by rw [c]; exact d⟩)
  · exact Or.inr (Or.inr (Or.inl ⟨by rw [f3, a], by rw [u34, b], by rw [f8]; exact c, s, d, by rw [f4, hI 2 0 s (by decide) (by omega) (by omega)]; exact e⟩))
  · exact Or.inr (Or.inr (Or.inr ⟨by rw [f3, a], by rw [u34, b]⟩))
theorem rp_fix (h : rl_all I J mp U V nn kc sz kp dd) (id j : Int32) : xs_fixB I nn id j = ys_fxB U id j ∧ ∃ sz', rl_all (xs_fixI I nn (mp sz) id j) (xs_fixJ I J nn (mp sz) id j) mp (ys_fxI U sz id j) (ys_fxJ U V sz id j) nn kc sz' kp dd := by
  have h' := h
  obtain ⟨hnum, hmp, hi, hn, hp, hk, he, hms⟩ := h'
  have hB : ∀ b : Bool, ys_fxB U id j = b → (b = true → ys_fxI U sz id j = ys_ask U sz id (id + (1 <<< (j &&& 31))) 1 j ∧ ys_fxJ U V sz id j = ys_askJ V sz 0) ∧ (b = false → ys_fxI U sz id j = U ∧ ys_fxJ U V sz id j = V) := by
    intro b hb
    unfold ys_fxI ys_fxJ
    rw [hb]
    cases b <;> simp
  unfold xs_fixB xs_fixI xs_fixJ
  rcases rm_cases hi hn id with ⟨e1, e2⟩ | ⟨i, h1, h2, h3, e1, e2, e3⟩
  · have hb : ys_fxB U id j = false := by simp [ys_fxB, e2]
    rw [e1, hb, ((hB _ hb).2 rfl).1, ((hB _ hb).2 rfl).2]
    exact ⟨rfl, sz, h⟩
  · rw [e1]
    simp only
    rcases rr_fin j with ⟨f1, f2⟩ | ⟨t, ht, hte, f1, f2, f3⟩
    · have hb : ys_fxB U id j = false := by
        rcases f2 with f2 | f2
        · simp [ys_fxB, e2, f2]
        · unfold ys_fxB
          rw [if_neg (by rw [e2]; decide)]
          by_cases f3 : j < 0
          · rw [if_pos f3]
          · rw [if_neg f3, if_pos f2]
      rw [if_pos f1, if_pos f1, if_pos f1, hb, ((hB _ hb).2 rfl).1, ((hB _ hb).2 rfl).2]
      exact ⟨rfl, sz, h⟩
    · have nf : ¬ xs_isFinger j = false := by rw [f1]; decide
      rw [if_neg nf, if_neg nf, if_neg nf]
      rcases rq_full hnum with ⟨q1, q2, q3⟩ | ⟨q1, q2, q3⟩
      · have hb : ys_fxB U id j = true := by
          unfold ys_fxB
          rw [if_neg (by rw [e2]; decide), if_neg f2, if_neg f3, if_pos q3]
        rw [if_pos q2, if_pos q2, if_pos q2, hb, ((hB _ hb).1 rfl).1, ((hB _ hb).1 rfl).2]
        refine ⟨rfl, sz + 1, rp_find (ak := id) (ky := xs_fst id j) (pu := 2) h q1 ⟨i, h1, h2, h3⟩ rfl (fun a b c _ a1 a2 => ?_) ?_ (fun a b c _ a2 => rq_sJ a b c a2) ?_ ?_ ?_ ?_ ?_ ?_ ?_ rfl ?_ ?_⟩
        · rw [nf_iu_n _ _ (by omega), rq_fI a b c a1 a2]
        · rw [nf_iu_n _ _ (by omega), rq_f3 hnum.2.2.2.1]
        · simp [xs_fI, xs_sI, nf_iu]
        · simp [xs_fI, xs_sI, nf_iu]
        · simp [xs_fI, xs_sI, nf_iu]
        · simp [xs_fI, xs_sI, nf_iu]
        · simp [xs_fI, xs_sI, nf_iu]
        · simp [xs_fI, xs_sI, nf_iu]
        · simp [xs_sJ, nf_ju]
        · exact ⟨pz_t (id + (1 <<< (j &&& 31))), pz_tl _, by unfold xs_fst; rw [rf_and]⟩
        · exact Or.inl ⟨rfl, rfl, nf_iu_s _ _ _ _ _, t, ht, hte⟩
      · have hb : ys_fxB U id j = false := by
          unfold ys_fxB
          rw [if_neg (by rw [e2]; decide), if_neg f2, if_neg f3, if_neg q3]
        have q2' : ¬ xs_full I = false := by rw [q2]; decide
        rw [if_neg q2', if_neg q2', if_neg q2', hb, ((hB _ hb).2 rfl).1, ((hB _ hb).2 rfl).2]
        exact ⟨rfl, sz, h⟩
theorem rq_and {d : Nat} (h : d < 256) : nI d &&& 255 = nI d := by rw [rf_and, pz_tn h]
theorem rp_get (h : rl_all I J mp U V nn kc sz kp dd) (id key : Int32) : xs_getB I nn id key = ys_gtB U id key ∧ ∃ sz', rl_all (xs_getI I nn (mp sz) id key) (xs_getJ I J nn (mp sz) id key) mp (ys_gtI U sz id key) (ys_gtJ U V sz id key) nn kc sz' kp dd := by
  have h' := h
  obtain ⟨hnum, hmp, hi, hn, hp, hk, he, hms⟩ := h'
  unfold xs_getB xs_getI xs_getJ ys_gtI ys_gtJ ys_gtB
  rcases rm_cases hi hn id with ⟨e1, e2⟩ | ⟨i, h1, h2, h3, e1, e2, e3⟩
  · rw [e1, e2]
    simp only [if_true]
    exact ⟨trivial, sz, h⟩
  · rw [e1, e2, ri_eq]
    cases hid : xs_isId key with
    | false =>
      simp only [if_true, if_false, Bool.true_eq_false]
      exact ⟨trivial, sz, h⟩
    | true =>
      obtain ⟨d, hd, hke⟩ := ri_ix hid
      rcases rq_full hnum with ⟨q1, q2, q3⟩ | ⟨q1, q2, q3⟩
      · simp only [q2, q3, if_true, if_false, Bool.true_eq_false]
        refine ⟨trivial, sz + 1, rp_find (ak := id) (ky := key) (pu := 4) h q1 ⟨i, h1, h2, h3⟩ rfl (fun a b c _ a1 a2 => rq_fI a b c a1 a2) (rq_f3 hnum.2.2.2.1) (fun a b c _ a2 => rq_sJ a b c a2) ?_ ?_ ?_ ?_ ?_ ?_ ?_ ?_ ⟨d, hd, hke⟩ (Or.inr (Or.inr ⟨rfl, rfl⟩))⟩
        · simp [xs_fI, xs_sI, nf_iu]
        · simp [xs_fI, xs_sI, nf_iu]
        · simp [xs_fI, xs_sI, nf_iu]
        · simp [xs_fI, xs_sI, nf_iu]
        · simp [xs_fI, xs_sI, nf_iu]
        · simp [xs_fI, xs_sI, nf_iu]
        · simp [xs_sJ, nf_ju]
        · rw [hke, rq_and hd]
      · simp only [q2, q3, if_true, if_false, Bool.true_eq_false]
        exact ⟨trivial, sz, h⟩
end RA
