/-! FETCH, ASK, TELL, FIND arrive on both sides. -/
theorem rv_slx {I I' : nf_I} {key : Int32} : ∀ n j, (∀ s, j ≤ s → s < n + j → I' 2 0 s = I 2 0 s) → xs_slx I' key n j = xs_slx I key n j
  | 0, j, _ => rfl
  | n + 1, j, h => by
    unfold xs_slx
    rw [h j (Nat.le_refl _) (by omega), rv_slx n (j + 1) (fun s h1 h2 => h s (by omega) (by omega))]
theorem rv_cg {I I' : nf_I} {J J' : nf_J} {kc i : Nat} {key : Int32} (h : ∀ s, s < kc → I' 2 0 s = I 2 0 s) (hJ : ∀ s, J' 7 i s = J 7 i s) : xs_val I' J' kc i key = xs_val I J kc i key := by
  have e : xs_slot I' kc key = xs_slot I kc key := rv_slx kc 0 (fun s _ h2 => h s (by omega))
  unfold xs_val
  rw [e, hJ]
theorem ro_snoc {U : nf_I} {nd : Nat} : ∀ n j (o : Int32), ys_onw U nd (n + 1) j o = if U 24 0 (8 * nd + (j + n)) = -1 then ys_onw U nd n j o else if ys_btw (U 24 0 (8 * nd + (j + n))) (nI nd) (U 33 0 20) = false then ys_onw U nd n j o else U 24 0 (8 * nd + (j + n))
  | 0, j, o => rfl
  | n + 1, j, o => by
    rw [ys_onw, ro_snoc n (j + 1)]
    rw [show j + 1 + n = j + (n + 1) by omega]
    rfl
section RC2
variable {I : nf_I} {J : nf_J} {mp : Nat → Nat} {U : nf_I} {V : nf_J} {nn kc q kp : Nat} {dd : Nat → Nat}
theorem rb_id (hi : rl_ids I nn dd) {x : Int32} (h : rl_mb I nn dd x) : ∃ d, d < 256 ∧ x = nI d := by
  obtain ⟨i, h1, h2, -⟩ := h
  exact ⟨dd i, (hi.1 i h1).1, h2⟩
/-- ASK -/
theorem ra_6 (h : rl_all I J mp U V nn kc q kp dd) (hq : q < 20) {i o : Nat} (hi0 : i < nn) (ho : o = mp 20) (h6 : I 8 o 6 = U 36 0 20) (hm : rl_mb I nn dd (I 8 o 6)) : rl_all (xs_asI I i o (mp q)) (xs_sJ J (mp q)) mp (ys_po U q 7 (U 36 0 20) 0 0) (nf_ju (ys_poJ V q) 38 0 q (ys_po U q 7 (U 36 0 20) 0 0 23 0 (dd i)).toInt64) nn kc (q + 1) kp dd := by
  have hnum := h.1
  have hpt := h.2.2.2.2.1 i hi0
  have hat := h.2.2.2.1.1 i hi0
  have e1 : xs_asI I i o (mp q) = nf_iu (xs_sI I (mp q) 7 (I 8 o 6)) 8 (mp q) 6 (I 5 i 2) := by unfold xs_asI; rw [rq_sI 5 i 2 (by omega) (by omega)]
  have e2 : ys_po U q 7 (U 36 0 20) 0 0 23 0 (dd i) = I 5 i 2 := by rw [rq_po 23 0 _ (by omega) (by omega)]; exact hat.2.2.1
  rw [e1, e2]
  have hmb : ∀ x, rl_mb I nn dd x → rl_mb (nf_iu (xs_sI I (mp q) 7 (I 8 o 6)) 8 (mp q) 6 (I 5 i 2)) nn dd x := rg_mb (fun k _ hh => by rw [nf_iu_n _ _ (by omega), rq_sI _ _ _ (by omega) (by omega)]; exact hh)
  have f1 : nf_iu (xs_sI I (mp q) 7 (I 8 o 6)) 8 (mp q) 6 (I 5 i 2) 8 (mp q) 1 = I 8 o 6 := by simp [nf_iu, xs_sI]
  refine rg_send h hq (fun a b c _ a1 a2 => by rw [nf_iu_n _ _ (by omega), rq_sI a b c a1 a2]) (by rw [nf_iu_n _ _ (by omega), rq_s3 hnum.2.2.2.1]) (fun a b c _ a2 => rq_sJ a b c a2) (fun a b c _ a1 a2 => rq_po a b c a1 a2) (ys_po_row _ _ _ _ hnum.2.2.2.2.2.2.2) (fun a b c _ a1 => by rw [nf_ju_n _ _ a1, rq_poJ a b c a1]) ?_
  refine ⟨by simp [nf_iu, xs_sI, ys_po, ys_po1], by rw [f1, h6]; simp [nf_iu, ys_po, ys_po1], by rw [f1]; exact rq_nd hm, Or.inr (Or.inr (Or.inr (Or.inr (Or.inr (Or.inr (Or.inl ⟨by simp [nf_iu, xs_sI], by rw [f1]; exact hmb _ hm, by rw [nf_ju_s, nf_iu_s], by rw [nf_iu_s]; exact hpt.2.1.imp_right (hmb _)⟩))))))⟩
/-- FETCH -/
theorem ra_4 (h : rl_all I J mp U V nn kc q kp dd) (hq : q < 20) {i o : Nat} (hi0 : i < nn) (ho : o = mp 20) (h4 : I 8 o 4 = U 33 0 20) (h2 : I 8 o 2 = U 36 0 20) (hm : rl_nd nn dd (I 8 o 2)) (h7 : I 8 o 7 = U 37 0 20) : rl_all (xs_feI I o (mp q)) (xs_feJ I J kc i o (mp q)) mp (ys_feI U q) (ys_feJ U V kp (dd i) q) nn kc (q + 1) kp dd := by
  have hnum := h.1
  have hne : ¬ o = mp q := by rw [ho]; exact ra_ne h.2.1 hq
  have r4 : xs_sI I (mp q) 5 (I 8 o 2) 8 o 4 = I 8 o 4 := rq_sI _ _ _ (by omega) (fun z => hne z.2)
  have r7 : xs_sI I (mp q) 5 (I 8 o 2) 8 o 7 = I 8 o 7 := rq_sI _ _ _ (by omega) (fun z => hne z.2)
  have e1 : xs_feI I o (mp q) = nf_iu (xs_sI I (mp q) 5 (I 8 o 2)) 8 (mp q) 7 (I 8 o 7) := by unfold xs_feI; rw [r7]
  have e2 : xs_feJ I J kc i o (mp q) = nf_ju (xs_sJ J (mp q)) 8 (mp q) 8 (xs_val I J kc i (I 8 o 4)) := by
    unfold xs_feJ
    rw [r4, rv_cg (I := I) (J := J) (fun s _ => rq_sI 2 0 s (by omega) (by omega)) (fun s => rq_sJ 7 i s (by omega))]
  have u37 : ys_po U q 5 (U 36 0 20) 0 0 37 0 20 = U 37 0 20 := rq_po _ _ _ (by omega) (by omega)
  have e3 : ys_feI U q = nf_iu (ys_po U q 5 (U 36 0 20) 0 0) 37 0 q (U 37 0 20) := by unfold ys_feI; rw [u37]
  have e4 : ys_feJ U V kp (dd i) q = nf_ju (ys_poJ V q) 38 0 q (xs_val I J kc i (I 8 o 4)) := by
    unfold ys_feJ
    rw [rs_val h.2.2.1 h.2.2.2.2.2.1 h.2.2.2.2.2.2.1 hnum.1.2.1 hnum.1.2.2.2 hi0, h4, rq_po 29 0 _ (by omega) (by omega)]
  rw [e1, e2, e3, e4]
  refine rg_send h hq (fun a b c _ a1 a2 => by rw [nf_iu_n _ _ (by omega), rq_sI a b c a1 a2]) (by rw [nf_iu_n _ _ (by omega), rq_s3 hnum.2.2.2.1]) (fun a b c _ a2 => by rw [nf_ju_n _ _ (by omega), rq_sJ a b c a2]) (fun a b c _ a1 a2 => by rw [nf_iu_n _ _ (by omega), rq_po a b c a1 a2]) (by rw [nf_iu_n _ _ (by omega), ys_po_row _ _ _ _ hnum.2.2.2.2.2.2.2]) (fun a b c _ a1 => by rw [nf_ju_n _ _ a1, rq_poJ a b c a1]) ?_
  have f1 : nf_iu (xs_sI I (mp q) 5 (I 8 o 2)) 8 (mp q) 7 (I 8 o 7) 8 (mp q) 1 = I 8 o 2 := by simp [nf_iu, xs_sI]
  refine ⟨by simp [nf_iu, xs_sI, ys_po, ys_po1], by rw [f1, h2]; simp [nf_iu, ys_po, ys_po1], by rw [f1]; exact hm, Or.inr (Or.inr (Or.inr (Or.inr (Or.inl ⟨by simp [nf_iu, xs_sI], by rw [nf_ju_s, nf_ju_s], by rw [nf_iu_s, nf_iu_s, h7]⟩))))⟩
/-- TELL -/
theorem ra_7 (h : rl_all I J mp U V nn kc q kp dd) (hq : q < 20) {i o : Nat} (hi0 : i < nn) (hmem : ¬ I 5 i 1 = -1) (ho : o = mp 20) (hv : V 38 0 20 = (I 8 o 6).toInt64) (hm : I 8 o 6 = -1 ∨ rl_mb I nn dd (I 8 o 6)) : rl_all (xs_teI I i o (mp q)) (xs_sJ J (mp q)) mp (ys_teI U V (dd i) q) (ys_poJ V q) nn kc (q + 1) kp dd := by
  have hi := h.2.2.1
  have hid := hi.1 i hi0
  have hat := h.2.2.2.1.1 i hi0
  have hpt := h.2.2.2.2.1 i hi0
  have hvi : (V 38 0 20).toInt32 = I 8 o 6 := by rw [hv]; exact Int32.toInt32_toInt64 _
  have hS : rl_all (xs_teS I i o) J mp (ys_teS U V (dd i)) V nn kc q kp dd ∧ ¬ xs_teS I i o 5 i 1 = -1 ∧ xs_teS I i o 5 i 0 = nI (dd i) := by
    unfold xs_teS ys_teS
    rw [hvi, hid.2, hat.2.1]
    by_cases c1 : I 8 o 6 = -1
    · rw [if_pos c1, if_pos c1]
      exact ⟨h, hmem, hid.2⟩
    · have hmm := hm.resolve_left c1
      obtain ⟨x, hx, hxe⟩ := rb_id hi hmm
      obtain ⟨b, hb, hbe⟩ := rb_id hi (hpt.1.resolve_left hmem)
      have hbt : ys_btw (I 8 o 6) (nI (dd i)) (I 5 i 1) = xs_btw (nI (dd i)) (I 5 i 1) (I 8 o 6) := by rw [hxe, hbe]; exact pz_between hid.1 hb hx
      rw [if_neg c1, if_neg c1, hbt]
      by_cases c2 : xs_btw (nI (dd i)) (I 5 i 1) (I 8 o 6) = false
      · rw [if_pos c2, if_pos c2]
        exact ⟨h, hmem, hid.2⟩
      · rw [if_neg c2, if_neg c2]
        refine ⟨?_, by rw [nf_iu_s]; exact c1, by rw [nf_iu_n _ _ (by omega)]; exact hid.2⟩
        have hmb : ∀ x, rl_mb I nn dd x → rl_mb (nf_iu I 5 i 1 (I 8 o 6)) nn dd x := rg_mb (fun k _ hh => by
          by_cases hk : k = i
          · rw [hk, nf_iu_s]; exact c1
          · rw [nf_iu_n _ _ (by omega)]; exact hh)
        obtain ⟨a1, a2, a3, a4, a5, a6⟩ := hat
        refine rg_node h hi0 (fun a b c _ hh => nf_iu_n _ _ (fun z => hh ⟨Or.inl z.1, z.2.1⟩)) (nf_iu_n _ _ (by omega)) (fun _ _ _ _ _ => rfl) (fun a b c _ hh => nf_iu_n _ _ (by omega)) (fun _ _ _ _ _ => rfl) ?_ (fun _ => by rw [nf_iu_s]; exact c1) ?_
        · refine ⟨?_, ?_, ?_, fun j hj => ?_, a5, ?_⟩
          · rw [nf_iu_n _ _ (by omega), nf_iu_s, if_neg c1, a1, if_neg hmem]
          · rw [nf_iu_s, nf_iu_s]
          · rw [nf_iu_n _ _ (by omega), nf_iu_n _ _ (by omega)]; exact a3
          · rw [nf_iu_n _ _ (by omega), nf_iu_n _ _ (by omega)]; exact a4 j hj
          · rw [nf_iu_n _ _ (by omega), nf_iu_n _ _ (by omega)]; exact a6
        · refine ⟨Or.inr ?_, ?_, fun j hj => ?_⟩
          · rw [nf_iu_s]; exact hmb _ hmm
          · rw [nf_iu_n _ _ (by omega)]; exact hpt.2.1.imp_right (hmb _)
          · rw [nf_iu_n _ _ (by omega)]; exact (hpt.2.2 j hj).imp_right (hmb _)
  obtain ⟨hS, hs1, hs0⟩ := hS
  unfold xs_teI ys_teI
  generalize xs_teS I i o = S at hS hs1 hs0 ⊢
  generalize ys_teS U V (dd i) = T at hS ⊢
  have hnum := hS.1
  have e1 : xs_sI S (mp q) 8 (S 5 i 1) 5 i 0 = nI (dd i) := by rw [rq_sI 5 i 0 (by omega) (by omega)]; exact hs0
  rw [e1, ← (hS.2.2.2.1.1 i hi0).2.1]
  have hmb : ∀ x, rl_mb S nn dd x → rl_mb (nf_iu (xs_sI S (mp q) 8 (T 22 0 (dd i))) 8 (mp q) 6 (nI (dd i))) nn dd x := rg_mb (fun k _ hh => by rw [nf_iu_n _ _ (by omega), rq_sI _ _ _ (by omega) (by omega)]; exact hh)
  have hto : rl_mb S nn dd (T 22 0 (dd i)) := by rw [(hS.2.2.2.1.1 i hi0).2.1]; exact (hS.2.2.2.2.1 i hi0).1.resolve_left hs1
  refine rg_send hS hq (fun a b c _ a1 a2 => by rw [nf_iu_n _ _ (by omega), rq_sI a b c a1 a2]) (by rw [nf_iu_n _ _ (by omega), rq_s3 hnum.2.2.2.1]) (fun a b c _ a2 => rq_sJ a b c a2) (fun a b c _ a1 a2 => rq_po a b c a1 a2) (ys_po_row _ _ _ _ hnum.2.2.2.2.2.2.2) (fun a b c _ a1 => rq_poJ a b c a1) ?_
  have f1 : nf_iu (xs_sI S (mp q) 8 (T 22 0 (dd i))) 8 (mp q) 6 (nI (dd i)) 8 (mp q) 1 = T 22 0 (dd i) := by simp [nf_iu, xs_sI]
  refine ⟨by simp [nf_iu, xs_sI, ys_po, ys_po1], by rw [f1]; simp [nf_iu, ys_po, ys_po1], by rw [f1]; exact rq_nd hto, Or.inr (Or.inr (Or.inr (Or.inr (Or.inr (Or.inr (Or.inr ⟨by simp [nf_iu, xs_sI], ?_, ?_⟩))))))⟩
  · rw [nf_iu_s]; simp [nf_iu, ys_po, ys_po1]
  · rw [nf_iu_s]; exact hmb _ ⟨i, hi0, rfl, hs1⟩
/-- where a question goes on -/
theorem ra_nt (h : rl_all I J mp U V nn kc q kp dd) {i : Nat} (hi0 : i < nn) (hmem : ¬ I 5 i 1 = -1) {key : Int32} (hk : key = U 33 0 20) (hd : ∃ d, d < 256 ∧ key = nI d) : ∀ n, n ≤ 8 → ys_onw U (dd i) n 0 (U 22 0 (dd i)) = xs_nt I i key n ∧ rl_mb I nn dd (xs_nt I i key n) := by
  have hi := h.2.2.1
  have hid := hi.1 i hi0
  have hat := h.2.2.2.1.1 i hi0
  have hpt := h.2.2.2.2.1 i hi0
  intro n
  induction n with
  | zero =>
    intro _
    exact ⟨hat.2.1, hpt.1.resolve_left hmem⟩
  | succ n ih =>
    intro hn
    obtain ⟨i1, i2⟩ := ih (by omega)
    rw [ro_snoc, i1, show 0 + n = n by omega, hat.2.2.2.1 n (by omega), ← hk]
    have hx : xs_nt I i key (n + 1) = if I 6 i n = -1 then xs_nt I i key n else if xs_btw (I 5 i 0) key (I 6 i n) = false then xs_nt I i key n else I 6 i n := rfl
    rw [hx]
    by_cases c1 : I 6 i n = -1
    · rw [if_pos c1, if_pos c1]; exact ⟨rfl, i2⟩
    · have hm := (hpt.2.2 n (by omega)).resolve_left c1
      obtain ⟨x, hx, hxe⟩ := rb_id hi hm
      obtain ⟨d, hd, hde⟩ := hd
      have hbt : ys_btw (I 6 i n) (nI (dd i)) key = xs_btw (I 5 i 0) key (I 6 i n) := by rw [hid.2, hxe, hde]; exact pz_between hid.1 hd hx
      rw [if_neg c1, if_neg c1, hbt]
      by_cases c2 : xs_btw (I 5 i 0) key (I 6 i n) = false
      · rw [if_pos c2]; exact ⟨rfl, i2⟩
      · rw [if_neg c2]; exact ⟨rfl, hm⟩
/-- FIND -/
theorem ra_1 (h : rl_all I J mp U V nn kc q kp dd) (hq : q < 20) {i o : Nat} (hi0 : i < nn) (hmem : ¬ I 5 i 1 = -1) (ho : o = mp 20) (hmsg : rl_msg I J U V nn kc dd o 20) (hkind : I 8 o 0 = 1) : ∃ q', rl_all (xs_fiI I i o (mp q)) (xs_fiJ I J i o (mp q)) mp (ys_fdI U (dd i) q) (ys_fdJ U V (dd i) q) nn kc q' kp dd := by
  have hnum := h.1
  have hi := h.2.2.1
  have hid := hi.1 i hi0
  have hat := h.2.2.2.1.1 i hi0
  have hpt := h.2.2.2.2.1 i hi0
  have hne : ¬ o = mp q := by rw [ho]; exact ra_ne h.2.1 hq
  obtain ⟨m0, m1, m2, hm⟩ := hmsg
  obtain ⟨-, b2, b3, b4, b5, b6, b7, b8, b9⟩ : I 8 o 0 = 1 ∧ rl_mb I nn dd (I 8 o 1) ∧ I 8 o 4 = U 33 0 20 ∧ (∃ d, d < 256 ∧ I 8 o 4 = nI d) ∧ I 8 o 2 = U 36 0 20 ∧ rl_nd nn dd (I 8 o 2) ∧ I 8 o 7 = U 37 0 20 ∧ J 8 o 8 = V 38 0 20 ∧ ((I 8 o 3 = 1 ∧ U 34 0 20 = 0) ∨ (I 8 o 3 = 2 ∧ U 34 0 20 = 1 ∧ I 8 o 5 = U 35 0 20 ∧ ∃ t, t < 8 ∧ I 8 o 5 = nI t) ∨ (I 8 o 3 = 3 ∧ U 34 0 20 = 2 ∧ (∃ v : Int32, J 8 o 8 = v.toInt64) ∧ ∃ s, s < kc ∧ I 8 o 4 = I 2 0 s) ∨ (I 8 o 3 = 4 ∧ U 34 0 20 = 3)) := by
    rcases hm with hm | hm | hm | hm | hm | hm | hm | hm
    · exact hm
    all_goals (rw [hkind] at hm; exact absurd hm.1 (by decide))
  have hsm := hpt.1.resolve_left hmem
  obtain ⟨sb, hsb, hsbe⟩ := rb_id hi hsm
  obtain ⟨d, hd, hde⟩ := b4
  have hpast : ys_past (U 33 0 20) (nI (dd i)) (U 22 0 (dd i)) = xs_pst (I 5 i 0) (I 5 i 1) (I 8 o 4) := by
    rw [← b3, hat.2.1, hid.2, hde, hsbe]
    exact pz_past hid.1 hsb hd
  unfold xs_fiI xs_fiJ ys_fdI ys_fdJ
  rw [hpast]
  by_cases c1 : xs_pst (I 5 i 0) (I 5 i 1) (I 8 o 4) = false
  · rw [if_pos c1, if_pos c1, if_pos c1, if_pos c1]
    obtain ⟨n1, n2⟩ := ra_nt h hi0 hmem b3 ⟨d, hd, hde⟩ 8 (by omega)
    refine ⟨q + 1, ?_⟩
    generalize hnt : xs_nt I i (I 8 o 4) 8 = nt at n1 n2
    have e1 : xs_poI I i o (mp q) = nf_iu (nf_iu (xs_fI I (mp q) nt (I 8 o 2) (I 8 o 3) (I 8 o 4)) 8 (mp q) 5 (I 8 o 5)) 8 (mp q) 7 (I 8 o 7 + 1) := by
      unfold xs_poI
      simp only
      rw [hnt, nf_iu_n _ _ (show ¬ (8 = 8 ∧ o = mp q ∧ 7 = 5) by omega), rq_fI 8 o 7 (by omega) (fun z => hne z.2), rq_fI 8 o 5 (by omega) (fun z => hne z.2)]
    have e2 : xs_poJ J o (mp q) = nf_ju (xs_sJ J (mp q)) 8 (mp q) 8 (J 8 o 8) := by unfold xs_poJ; rw [rq_sJ 8 o 8 (fun z => hne z.2)]
    have e3 : ys_fp U (dd i) q = nf_iu (nf_iu (nf_iu (ys_cp U 20 q) 32 0 q nt) 37 0 q (U 37 0 20 + 1)) 20 0 13 (nI (q + 1)) := by
      unfold ys_fp
      simp only
      rw [n1]
      have x1 : nf_iu (ys_cp U 20 q) 32 0 q nt 37 0 20 = U 37 0 20 := by
        rw [nf_iu_n _ _ (by omega), ys_cp_eq]
        unfold ys_cpx
        rw [if_neg (by omega)]
      rw [x1]
      have x2 : nf_iu (nf_iu (ys_cp U 20 q) 32 0 q nt) 37 0 q (U 37 0 20 + 1) 20 0 13 = nI q := by rw [nf_iu_n _ _ (by omega), nf_iu_n _ _ (by omega), ys_cp_row hnum.2.2.2.2.2.2.2]
      rw [x2, nI_1]
    rw [e1, e2, e3]
    have hcp : ∀ a, 31 ≤ a → a ≤ 37 → ys_cp U 20 q a 0 q = U a 0 20 := fun a h1 h2 => by rw [ys_cp_eq]; unfold ys_cpx; rw [if_pos ⟨⟨h1, h2⟩, rfl, rfl⟩]
    have hu : ∀ a, 31 ≤ a → a ≤ 37 → ¬ a = 32 → ¬ a = 37 → nf_iu (nf_iu (nf_iu (ys_cp U 20 q) 32 0 q nt) 37 0 q (U 37 0 20 + 1)) 20 0 13 (nI (q + 1)) a 0 q = U a 0 20 := fun a h1 h2 h3 h4 => by rw [nf_iu_n _ _ (by omega), nf_iu_n _ _ (by omega), nf_iu_n _ _ (by omega), hcp a h1 h2]
    have hf : ∀ c, xs_fI I (mp q) nt (I 8 o 2) (I 8 o 3) (I 8 o 4) 8 (mp q) c = xs_fI I (mp q) nt (I 8 o 2) (I 8 o 3) (I 8 o 4) 8 (mp q) c := fun _ => rfl
    have g0 : nf_iu (nf_iu (xs_fI I (mp q) nt (I 8 o 2) (I 8 o 3) (I 8 o 4)) 8 (mp q) 5 (I 8 o 5)) 8 (mp q) 7 (I 8 o 7 + 1) 8 (mp q) 0 = 1 := by simp [nf_iu, xs_fI, xs_sI]
    have g1 : nf_iu (nf_iu (xs_fI I (mp q) nt (I 8 o 2) (I 8 o 3) (I 8 o 4)) 8 (mp q) 5 (I 8 o 5)) 8 (mp q) 7 (I 8 o 7 + 1) 8 (mp q) 1 = nt := by simp [nf_iu, xs_fI, xs_sI]
    have g2 : nf_iu (nf_iu (xs_fI I (mp q) nt (I 8 o 2) (I 8 o 3) (I 8 o 4)) 8 (mp q) 5 (I 8 o 5)) 8 (mp q) 7 (I 8 o 7 + 1) 8 (mp q) 2 = I 8 o 2 := by simp [nf_iu, xs_fI, xs_sI]
    have g3 : nf_iu (nf_iu (xs_fI I (mp q) nt (I 8 o 2) (I 8 o 3) (I 8 o 4)) 8 (mp q) 5 (I 8 o 5)) 8 (mp q) 7 (I 8 o 7 + 1) 8 (mp q) 3 = I 8 o 3 := by simp [nf_iu, xs_fI, xs_sI]
    have g4 : nf_iu (nf_iu (xs_fI I (mp q) nt (I 8 o 2) (I 8 o 3) (I 8 o 4)) 8 (mp q) 5 (I 8 o 5)) 8 (mp q) 7 (I 8 o 7 + 1) 8 (mp q) 4 = I 8 o 4 := by simp [nf_iu, xs_fI, xs_sI]
    have g5 : nf_iu (nf_iu (xs_fI I (mp q) nt (I 8 o 2) (I 8 o 3) (I 8 o 4)) 8 (mp q) 5 (I 8 o 5)) 8 (mp q) 7 (I 8 o 7 + 1) 8 (mp q) 5 = I 8 o 5 := by simp [nf_iu]
    have g7 : nf_iu (nf_iu (xs_fI I (mp q) nt (I 8 o 2) (I 8 o 3) (I 8 o 4)) 8 (mp q) 5 (I 8 o 5)) 8 (mp q) 7 (I 8 o 7 + 1) 8 (mp q) 7 = I 8 o 7 + 1 := by simp [nf_iu]
    have k2 : ∀ s, nf_iu (nf_iu (xs_fI I (mp q) nt (I 8 o 2) (I 8 o 3) (I 8 o 4)) 8 (mp q) 5 (I 8 o 5)) 8 (mp q) 7 (I 8 o 7 + 1) 2 0 s = I 2 0 s := fun s => by rw [nf_iu_n _ _ (by omega), nf_iu_n _ _ (by omega), rq_fI 2 0 s (by omega) (by omega)]
    have hmb : ∀ x, rl_mb I nn dd x → rl_mb (nf_iu (nf_iu (xs_fI I (mp q) nt (I 8 o 2) (I 8 o 3) (I 8 o 4)) 8 (mp q) 5 (I 8 o 5)) 8 (mp q) 7 (I 8 o 7 + 1)) nn dd x := rg_mb (fun k _ hh => by rw [nf_iu_n _ _ (by omega), nf_iu_n _ _ (by omega), rq_fI _ _ _ (by omega) (by omega)]; exact hh)
    refine rg_send h hq (fun a b c _ a1 a2 => by rw [nf_iu_n _ _ (by omega), nf_iu_n _ _ (by omega), rq_fI a b c a1 a2]) (by rw [nf_iu_n _ _ (by omega), nf_iu_n _ _ (by omega), rq_f3 hnum.2.2.2.1]) (fun a b c _ a2 => by rw [nf_ju_n _ _ (by omega), rq_sJ a b c a2]) (fun a b c _ a1 a2 => ?_) (nf_iu_s _ _ _ _ _) (fun a b c _ a1 => by unfold ys_cpJ; rw [nf_ju_n _ _ a1]) ?_
    · rw [nf_iu_n _ _ a1, nf_iu_n _ _ (by omega), nf_iu_n _ _ (by omega), ys_cp_eq]
      unfold ys_cpx
      rw [if_neg a2]
    · unfold rl_msg
      rw [g0, g1, g2, g3, g4, g5, g7, hu 31 (by decide) (by decide) (by decide) (by decide), hu 33 (by decide) (by decide) (by decide) (by decide), hu 34 (by decide) (by decide) (by decide) (by decide), hu 35 (by decide) (by decide) (by decide) (by decide), hu 36 (by decide) (by decide) (by decide) (by decide), nf_ju_s]
      refine ⟨by rw [← m0, hkind], by simp [nf_iu], rq_nd n2, Or.inl ⟨rfl, hmb _ n2, b3, ⟨d, hd, hde⟩, b5, b6, by rw [b7]; simp [nf_iu], by unfold ys_cpJ; rw [nf_ju_s]; exact b8, ?_⟩⟩
      rcases b9 with b9 | b9 | ⟨x1, x2, x3, s, x4, x5⟩ | b9
      · exact Or.inl b9
      · exact Or.inr (Or.inl b9)
      · exact Or.inr (Or.inr (Or.inl ⟨x1, x2, x3, s, x4, by rw [k2 s]; exact x5⟩))
      · exact Or.inr (Or.inr (Or.inr b9))
  · rw [if_neg c1, if_neg c1, if_neg c1, if_neg c1]
    have hg : ∀ K T : Int32, ys_fg U q K T = nf_iu (nf_iu (nf_iu (ys_po U q K T (U 33 0 20) (U 36 0 20)) 34 0 q (U 34 0 20)) 35 0 q (U 35 0 20)) 37 0 q (U 37 0 20) := by
      intro K T
      unfold ys_fg
      simp only
      rw [nf_iu_n _ _ (show ¬ (37 = 35 ∧ 0 = 0 ∧ 20 = q) by omega), nf_iu_n _ _ (show ¬ (37 = 34 ∧ 0 = 0 ∧ 20 = q) by omega), rq_po 37 0 20 (by omega) (by omega), nf_iu_n _ _ (show ¬ (35 = 34 ∧ 0 = 0 ∧ 20 = q) by omega), rq_po 35 0 20 (by omega) (by omega), rq_po 34 0 20 (by omega) (by omega)]
    have hgo : ∀ (K T : Int32) a b c, ¬ (a = 20 ∧ b = 0 ∧ c = 13) → ¬ ((31 ≤ a ∧ a ≤ 37) ∧ b = 0 ∧ c = q) → ys_fg U q K T a b c = U a b c := fun K T a b c h1 h2 => by rw [hg, nf_iu_n _ _ (by omega), nf_iu_n _ _ (by omega), nf_iu_n _ _ (by omega), rq_po a b c h1 h2]
    have hg3 : ∀ K T : Int32, ys_fg U q K T 20 0 13 = nI (q + 1) := fun K T => by rw [hg, nf_iu_n _ _ (by omega), nf_iu_n _ _ (by omega), nf_iu_n _ _ (by omega), ys_po_row _ _ _ _ hnum.2.2.2.2.2.2.2]
    have g31 : ∀ K T : Int32, ys_fg U q K T 31 0 q = K := fun K T => by rw [hg]; simp [nf_iu, ys_po, ys_po1]
    have g32 : ∀ K T : Int32, ys_fg U q K T 32 0 q = T := fun K T => by rw [hg]; simp [nf_iu, ys_po, ys_po1]
    have g33 : ∀ K T : Int32, ys_fg U q K T 33 0 q = U 33 0 20 := fun K T => by rw [hg]; simp [nf_iu, ys_po, ys_po1]
    have g34 : ∀ K T : Int32, ys_fg U q K T 34 0 q = U 34 0 20 := fun K T => by rw [hg]; simp [nf_iu]
    have g35 : ∀ K T : Int32, ys_fg U q K T 35 0 q = U 35 0 20 := fun K T => by rw [hg]; simp [nf_iu]
    have g36 : ∀ K T : Int32, ys_fg U q K T 36 0 q = U 36 0 20 := fun K T => by rw [hg]; simp [nf_iu, ys_po, ys_po1]
    have g37 : ∀ K T : Int32, ys_fg U q K T 37 0 q = U 37 0 20 := fun K T => by rw [hg]; simp [nf_iu]
    have hVo : ∀ (v : Int64) a b c, ¬ (a = 38 ∧ b = 0 ∧ c = q) → nf_ju (ys_poJ V q) 38 0 q v a b c = V a b c := fun v a b c h1 => by rw [nf_ju_n _ _ h1, rq_poJ a b c h1]
    have v20 : ys_poJ V q 38 0 20 = V 38 0 20 := rq_poJ _ _ _ (by omega)
    -- the answer to a join or a fix
    have back : ∀ pu : Int32, I 8 o 3 = pu → (pu = 1 ∧ U 34 0 20 = 0) ∨ (pu = 2 ∧ U 34 0 20 = 1 ∧ I 8 o 5 = U 35 0 20 ∧ ∃ t, t < 8 ∧ I 8 o 5 = nI t) → rl_all (xs_f2 I i o (mp q)) (xs_sJ J (mp q)) mp (ys_fg U q 2 (U 36 0 20)) (nf_ju (ys_poJ V q) 38 0 q (U 22 0 (dd i)).toInt64) nn kc (q + 1) kp dd := by
      intro pu hpu hpp
      have e1 : xs_f2 I i o (mp q) = nf_iu (nf_iu (nf_iu (nf_iu (xs_sI I (mp q) 2 (I 8 o 2)) 8 (mp q) 3 (I 8 o 3)) 8 (mp q) 5 (I 8 o 5)) 8 (mp q) 6 (I 5 i 1)) 8 (mp q) 7 (I 8 o 7) := by
        unfold xs_f2
        simp only
        rw [nf_iu_n _ _ (show ¬ (8 = 8 ∧ o = mp q ∧ 7 = 6) by omega), nf_iu_n _ _ (show ¬ (8 = 8 ∧ o = mp q ∧ 7 = 5) by omega), nf_iu_n _ _ (show ¬ (8 = 8 ∧ o = mp q ∧ 7 = 3) by omega), rq_sI 8 o 7 (by omega) (fun z => hne z.2),
          nf_iu_n _ _ (show ¬ (5 = 8 ∧ i = mp q ∧ 1 = 5) by omega), nf_iu_n _ _ (show ¬ (5 = 8 ∧ i = mp q ∧ 1 = 3) by omega), rq_sI 5 i 1 (by omega) (by omega),
          nf_iu_n _ _ (show ¬ (8 = 8 ∧ o = mp q ∧ 5 = 3) by omega), rq_sI 8 o 5 (by omega) (fun z => hne z.2), rq_sI 8 o 3 (by omega) (fun z => hne z.2)]
      rw [e1]
      have s0 : ∀ c, c = 0 ∨ c = 1 → nf_iu (nf_iu (nf_iu (nf_iu (xs_sI I (mp q) 2 (I 8 o 2)) 8 (mp q) 3 (I 8 o 3)) 8 (mp q) 5 (I 8 o 5)) 8 (mp q) 6 (I 5 i 1)) 8 (mp q) 7 (I 8 o 7) 8 (mp q) c = if c = 0 then 2 else I 8 o 2 := by
        intro c hc
        rcases hc with rfl | rfl <;> simp [nf_iu, xs_sI]
      have s3 : nf_iu (nf_iu (nf_iu (nf_iu (xs_sI I (mp q) 2 (I 8 o 2)) 8 (mp q) 3 (I 8 o 3)) 8 (mp q) 5 (I 8 o 5)) 8 (mp q) 6 (I 5 i 1)) 8 (mp q) 7 (I 8 o 7) 8 (mp q) 3 = I 8 o 3 := by simp [nf_iu]
      have s5 : nf_iu (nf_iu (nf_iu (nf_iu (xs_sI I (mp q) 2 (I 8 o 2)) 8 (mp q) 3 (I 8 o 3)) 8 (mp q) 5 (I 8 o 5)) 8 (mp q) 6 (I 5 i 1)) 8 (mp q) 7 (I 8 o 7) 8 (mp q) 5 = I 8 o 5 := by simp [nf_iu]
      have s6 : nf_iu (nf_iu (nf_iu (nf_iu (xs_sI I (mp q) 2 (I 8 o 2)) 8 (mp q) 3 (I 8 o 3)) 8 (mp q) 5 (I 8 o 5)) 8 (mp q) 6 (I 5 i 1)) 8 (mp q) 7 (I 8 o 7) 8 (mp q) 6 = I 5 i 1 := by simp [nf_iu]
      have s7 : nf_iu (nf_iu (nf_iu (nf_iu (xs_sI I (mp q) 2 (I 8 o 2)) 8 (mp q) 3 (I 8 o 3)) 8 (mp q) 5 (I 8 o 5)) 8 (mp q) 6 (I 5 i 1)) 8 (mp q) 7 (I 8 o 7) 8 (mp q) 7 = I 8 o 7 := by simp [nf_iu]
      have hof : ∀ a b c, ¬ (a = 3 ∧ b = 0 ∧ c = 1) → ¬ (a = 8 ∧ b = mp q) → nf_iu (nf_iu (nf_iu (nf_iu (xs_sI I (mp q) 2 (I 8 o 2)) 8 (mp q) 3 (I 8 o 3)) 8 (mp q) 5 (I 8 o 5)) 8 (mp q) 6 (I 5 i 1)) 8 (mp q) 7 (I 8 o 7) a b c = I a b c := fun a b c a1 a2 => by rw [nf_iu_n _ _ (by omega), nf_iu_n _ _ (by omega), nf_iu_n _ _ (by omega), nf_iu_n _ _ (by omega), rq_sI a b c a1 a2]
      have hmb : ∀ x, rl_mb I nn dd x → rl_mb (nf_iu (nf_iu (nf_iu (nf_iu (xs_sI I (mp q) 2 (I 8 o 2)) 8 (mp q) 3 (I 8 o 3)) 8 (mp q) 5 (I 8 o 5)) 8 (mp q) 6 (I 5 i 1)) 8 (mp q) 7 (I 8 o 7)) nn dd x := rg_mb (fun k _ hh => by rw [hof _ _ _ (by omega) (by omega)]; exact hh)
      refine rg_send h hq (fun a b c _ a1 a2 => hof a b c a1 a2) (by rw [nf_iu_n _ _ (by omega), nf_iu_n _ _ (by omega), nf_iu_n _ _ (by omega), nf_iu_n _ _ (by omega), rq_s3 hnum.2.2.2.1]) (fun a b c _ a2 => rq_sJ a b c a2) (fun a b c _ a1 a2 => hgo 2 _ a b c a1 a2) (hg3 _ _) (fun a b c _ a1 => hVo _ a b c a1) ?_
      unfold rl_msg
      rw [s0 0 (Or.inl rfl), s0 1 (Or.inr rfl), s3, s5, s6, s7, g31, g32, g34, g35, g37, nf_ju_s]
      refine ⟨rfl, b5, b6, Or.inr (Or.inl ⟨rfl, by rw [hat.2.1], hmb _ hsm, b7, ?_⟩)⟩
      rw [hpu]
      exact hpp
    rcases b9 with ⟨x1, x2⟩ | ⟨x1, x2, x3, x4⟩ | ⟨x1, x2, x3, x4⟩ | ⟨x1, x2⟩
    · rw [if_neg (show ¬ I 8 o 3 = 3 by rw [x1]; decide), if_neg (show ¬ I 8 o 3 = 4 by rw [x1]; decide), if_neg (show ¬ I 8 o 3 = 3 by rw [x1]; decide), if_pos x2, if_pos x2]
      exact ⟨q + 1, back 1 x1 (Or.inl ⟨rfl, x2⟩)⟩
    · rw [if_neg (show ¬ I 8 o 3 = 3 by rw [x1]; decide), if_neg (show ¬ I 8 o 3 = 4 by rw [x1]; decide), if_neg (show ¬ I 8 o 3 = 3 by rw [x1]; decide), if_neg (show ¬ U 34 0 20 = 0 by rw [x2]; decide), if_pos x2, if_neg (show ¬ U 34 0 20 = 0 by rw [x2]; decide), if_pos x2]
      exact ⟨q + 1, back 2 x1 (Or.inr ⟨rfl, x2, x3, x4⟩)⟩
    · rw [if_pos x1, if_pos x1, if_neg (show ¬ U 34 0 20 = 0 by rw [x2]; decide), if_neg (show ¬ U 34 0 20 = 1 by rw [x2]; decide), if_pos x2, if_neg (show ¬ U 34 0 20 = 0 by rw [x2]; decide), if_neg (show ¬ U 34 0 20 = 1 by rw [x2]; decide), v20]
      refine ⟨q + 1, ?_⟩
      have e1 : xs_f3 I i o (mp q) = nf_iu (xs_sI I (mp q) 3 (I 5 i 1)) 8 (mp q) 4 (I 8 o 4) := by
        unfold xs_f3
        simp only
        rw [rq_sI 8 o 4 (by omega) (fun z => hne z.2)]
      have e2 : xs_poJ J o (mp q) = nf_ju (xs_sJ J (mp q)) 8 (mp q) 8 (J 8 o 8) := by unfold xs_poJ; rw [rq_sJ 8 o 8 (fun z => hne z.2)]
      rw [e1, e2]
      refine rg_send h hq (fun a b c _ a1 a2 => by rw [nf_iu_n _ _ (by omega), rq_sI a b c a1 a2]) (by rw [nf_iu_n _ _ (by omega), rq_s3 hnum.2.2.2.1]) (fun a b c _ a2 => by rw [nf_ju_n _ _ (by omega), rq_sJ a b c a2]) (fun a b c _ a1 a2 => hgo 3 _ a b c a1 a2) (hg3 _ _) (fun a b c _ a1 => hVo _ a b c a1) ?_
      have s1 : nf_iu (xs_sI I (mp q) 3 (I 5 i 1)) 8 (mp q) 4 (I 8 o 4) 8 (mp q) 1 = I 5 i 1 := by simp [nf_iu, xs_sI]
      have s0 : nf_iu (xs_sI I (mp q) 3 (I 5 i 1)) 8 (mp q) 4 (I 8 o 4) 8 (mp q) 0 = 3 := by simp [nf_iu, xs_sI]
      obtain ⟨s, x5, x6⟩ := x4
      refine ⟨by rw [s0, g31], by rw [s1, g32, hat.2.1], by rw [s1]; exact rq_nd hsm, Or.inr (Or.inr (Or.inl ⟨s0, by rw [nf_iu_s, g33, b3], ⟨s, x5, by rw [nf_iu_s, nf_iu_n _ _ (by omega), rq_sI 2 0 s (by omega) (by omega)]; exact x6⟩, by rw [nf_ju_s, nf_ju_s]; exact b8, by rw [nf_ju_s]; exact x3⟩))⟩
    · rw [if_neg (show ¬ I 8 o 3 = 3 by rw [x1]; decide), if_pos x1, if_neg (show ¬ I 8 o 3 = 3 by rw [x1]; decide), if_neg (show ¬ U 34 0 20 = 0 by rw [x2]; decide), if_neg (show ¬ U 34 0 20 = 1 by rw [x2]; decide), if_neg (show ¬ U 34 0 20 = 2 by rw [x2]; decide), if_neg (show ¬ U 34 0 20 = 0 by rw [x2]; decide), if_neg (show ¬ U 34 0 20 = 1 by rw [x2]; decide)]
      refine ⟨q + 1, ?_⟩
      have e1 : xs_f4 I i o (mp q) = nf_iu (nf_iu (nf_iu (xs_sI I (mp q) 4 (I 5 i 1)) 8 (mp q) 4 (I 8 o 4)) 8 (mp q) 2 (I 8 o 2)) 8 (mp q) 7 (I 8 o 7) := by
        unfold xs_f4
        simp only
        rw [nf_iu_n _ _ (show ¬ (8 = 8 ∧ o = mp q ∧ 7 = 2) by omega), nf_iu_n _ _ (show ¬ (8 = 8 ∧ o = mp q ∧ 7 = 4) by omega), rq_sI 8 o 7 (by omega) (fun z => hne z.2), nf_iu_n _ _ (show ¬ (8 = 8 ∧ o = mp q ∧ 2 = 4) by omega), rq_sI 8 o 2 (by omega) (fun z => hne z.2), rq_sI 8 o 4 (by omega) (fun z => hne z.2)]
      rw [e1]
      refine rg_send h hq (fun a b c _ a1 a2 => by rw [nf_iu_n _ _ (by omega), nf_iu_n _ _ (by omega), nf_iu_n _ _ (by omega), rq_sI a b c a1 a2]) (by rw [nf_iu_n _ _ (by omega), nf_iu_n _ _ (by omega), nf_iu_n _ _ (by omega), rq_s3 hnum.2.2.2.1]) (fun a b c _ a2 => rq_sJ a b c a2) (fun a b c _ a1 a2 => hgo 4 _ a b c a1 a2) (hg3 _ _) (fun a b c _ a1 => hVo _ a b c a1) ?_
      have s1 : nf_iu (nf_iu (nf_iu (xs_sI I (mp q) 4 (I 5 i 1)) 8 (mp q) 4 (I 8 o 4)) 8 (mp q) 2 (I 8 o 2)) 8 (mp q) 7 (I 8 o 7) 8 (mp q) 1 = I 5 i 1 := by simp [nf_iu, xs_sI]
      have s0 : nf_iu (nf_iu (nf_iu (xs_sI I (mp q) 4 (I 5 i 1)) 8 (mp q) 4 (I 8 o 4)) 8 (mp q) 2 (I 8 o 2)) 8 (mp q) 7 (I 8 o 7) 8 (mp q) 0 = 4 := by simp [nf_iu, xs_sI]
      have s2 : nf_iu (nf_iu (nf_iu (xs_sI I (mp q) 4 (I 5 i 1)) 8 (mp q) 4 (I 8 o 4)) 8 (mp q) 2 (I 8 o 2)) 8 (mp q) 7 (I 8 o 7) 8 (mp q) 2 = I 8 o 2 := by simp [nf_iu]
      have s4 : nf_iu (nf_iu (nf_iu (xs_sI I (mp q) 4 (I 5 i 1)) 8 (mp q) 4 (I 8 o 4)) 8 (mp q) 2 (I 8 o 2)) 8 (mp q) 7 (I 8 o 7) 8 (mp q) 4 = I 8 o 4 := by simp [nf_iu]
      refine ⟨by rw [s0, g31], by rw [s1, g32, hat.2.1], by rw [s1]; exact rq_nd hsm, Or.inr (Or.inr (Or.inr (Or.inl ⟨s0, by rw [s4, g33, b3], by rw [s2, g36, b5], by rw [s2]; exact b6, by rw [nf_iu_s, g37, b7]⟩)))⟩
end RC2
