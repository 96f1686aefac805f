/-! NOTIFY: entries are handed over, on both sides. -/
def hv_m (I : nf_I) (J : nf_J) (i b s : Nat) : Bool := !(decide (J 7 i s = 4294967296)) && !(xs_pst (I 5 b 0) (I 5 i 0) (I 2 0 s))
def hv_1 (J : nf_J) (i b s : Nat) : nf_J := nf_ju (nf_ju J 7 b s (J 7 i s)) 7 i s 4294967296
def hv_J (I : nf_I) (J : nf_J) (i b kc : Nat) : nf_J := fun a x c => if a = 7 ∧ c < kc ∧ hv_m I J i b c = true then (if x = i then 4294967296 else if x = b then J 7 i c else J a x c) else J a x c
section HV
variable {I : nf_I} {J : nf_J} {i b kc : Nat}
theorem hv_ne (h : ∃ s, hv_m I J i b s = true) : ¬ i = b := by
  obtain ⟨s, h⟩ := h
  intro z
  subst z
  unfold hv_m at h
  rw [pz_pst] at h
  have h1 := pz_dl (pz_t (I 5 i 0)) (pz_t (I 2 0 s))
  have h2 : pz_d (pz_t (I 5 i 0)) (pz_t (I 5 i 0)) = 256 := by unfold pz_d; have := pz_tl (I 5 i 0); omega
  rw [h2] at h
  simp [h1.2] at h
theorem hv_none (h : ∀ s, s < kc → hv_m I J i b s = false) : hv_J I J i b kc = J := by
  funext a x c
  unfold hv_J
  refine if_neg (fun z => ?_)
  rw [h c z.2.1] at z
  exact absurd z.2.2 (by decide)
theorem hv_o {s c : Nat} (h : ¬ c = s) : hv_m I (hv_1 J i b s) i b c = hv_m I J i b c := by
  unfold hv_m hv_1
  rw [nf_ju_n _ _ (by omega), nf_ju_n _ _ (by omega)]
theorem hv_s {s : Nat} : hv_m I (hv_1 J i b s) i b s = false := by
  unfold hv_m hv_1
  rw [nf_ju_s]
  simp
theorem hv_step {s : Nat} (hsk : s < kc) (hs : hv_m I J i b s = true) : hv_J I (hv_1 J i b s) i b kc = hv_J I J i b kc := by
  have hib := hv_ne ⟨s, hs⟩
  funext a x c
  unfold hv_J
  by_cases hc : c = s
  · subst hc
    rw [hv_s, if_neg (fun z => absurd z.2.2 (by decide))]
    by_cases ha : a = 7 ∧ c < kc ∧ hv_m I J i b c = true
    · rw [if_pos ha]
      obtain ⟨rfl, -, -⟩ := ha
      unfold hv_1
      by_cases hx : x = i
      · rw [if_pos hx, hx, nf_ju_s]
      · rw [if_neg hx, nf_ju_n _ _ (by omega)]
        by_cases hx2 : x = b
        · rw [if_pos hx2, hx2, nf_ju_s]
        · rw [if_neg hx2, nf_ju_n _ _ (by omega)]
    · rw [if_neg ha]
      unfold hv_1
      by_cases h7 : a = 7
      · exact absurd ⟨h7, hsk, hs⟩ ha
      · rw [nf_ju_n _ _ (fun z => h7 z.1), nf_ju_n _ _ (fun z => h7 z.1)]
  · rw [hv_o hc]
    have e : ∀ y, hv_1 J i b s a y c = J a y c := fun y => by unfold hv_1; rw [nf_ju_n _ _ (fun z => hc z.2.2), nf_ju_n _ _ (fun z => hc z.2.2)]
    have e7 : hv_1 J i b s 7 i c = J 7 i c := by unfold hv_1; rw [nf_ju_n _ _ (fun z => hc z.2.2), nf_ju_n _ _ (fun z => hc z.2.2)]
    rw [e, e7]
end HV
/-- the class's loop -/
theorem hv_cls {I : nf_I} {i b kc : Nat} : ∀ n j (J : nf_J), n + j = kc → (∀ c, c < j → hv_m I J i b c = false) → xs_hoJ I i b n j J = hv_J I J i b kc
  | 0, j, J, h, hno => by
    have : j = kc := by omega
    subst this
    rw [hv_none hno]
    rfl
  | n + 1, j, J, h, hno => by
    have hx : xs_hoJ I i b (n + 1) j J = xs_hoJ I i b n (j + 1) (if hv_m I J i b j = true then hv_1 J i b j else J) := by
      rw [xs_hoJ]
      congr 1
      unfold hv_m hv_1
      by_cases h1 : J 7 i j = 4294967296
      · rw [if_pos ((lg_0 _ _).mpr h1), if_neg (by simp [h1])]
      · rw [if_neg (fun z => h1 ((lg_0 _ _).mp z))]
        cases hp : xs_pst (I 5 b 0) (I 5 i 0) (I 2 0 j) with
        | true => rw [if_pos rfl, if_neg (by simp)]
        | false => rw [if_neg (by decide), if_pos (by simp [h1])]
    rw [hx]
    by_cases hm : hv_m I J i b j = true
    · have hz : ∀ c, c < j + 1 → hv_m I (hv_1 J i b j) i b c = false := fun c hc => by
        by_cases hcj : c = j
        · rw [hcj]; exact hv_s
        · rw [hv_o hcj]; exact hno c (by omega)
      rw [if_pos hm, hv_cls (kc := kc) n (j + 1) _ (by omega) hz, hv_step (by omega) hm]
    · have hz : ∀ c, c < j + 1 → hv_m I J i b c = false := fun c hc => by
        by_cases hcj : c = j
        · rw [hcj]; exact Bool.eq_false_iff.mpr hm
        · exact hno c (by omega)
      rw [if_neg hm, hv_cls (kc := kc) n (j + 1) J (by omega) hz]
/-- how many are still to go -/
def hv_n (I : nf_I) (J : nf_J) (i b kc : Nat) : Nat := sm (fun s => if hv_m I J i b s = true then 1 else 0) kc
theorem hv_dec {I : nf_I} {J : nf_J} {i b kc s : Nat} (hsk : s < kc) (hs : hv_m I J i b s = true) : hv_n I (hv_1 J i b s) i b kc + 1 = hv_n I J i b kc := by
  unfold hv_n
  have : sm (fun t => if hv_m I J i b t = true then 1 else 0) kc = sm (fun t => (if hv_m I (hv_1 J i b s) i b t = true then 1 else 0) + (if t = s then 1 else 0)) kc := by
    refine sm_cg (fun t ht => ?_)
    by_cases hts : t = s
    · rw [hts, hs, hv_s]; simp
    · rw [hv_o hts, if_neg hts]; rfl
  rw [this, sm_add, sm_one, if_pos hsk]
section HW
variable {I : nf_I} {nn kc : Nat} {dd : Nat → Nat}
/-- the model's loop, from any place of its scan -/
theorem hv_mod (hi : rl_ids I nn dd) (hnn : nn ≤ 12) (hkc : kc ≤ 10) {i b : Nat} (hi0 : i < nn) (hb0 : b < nn) (hkd : ∀ s, s < kc → ∃ d, d < 256 ∧ I 2 0 s = nI d) : ∀ (f k : Nat) (U : nf_I) (J : nf_J) (kp : Nat), rl_keys I U kc → rl_ent I J U nn kc kp dd → U 20 0 7 = nI kp → kp ≤ 120 → k ≤ kp → (∀ q, q < k → ¬ (U 27 0 q = nI (dd i) ∧ ys_past (U 28 0 q) (nI (dd b)) (nI (dd i)) = false)) → hv_n I J i b kc * 122 + (kp - k) < f → ys_hok (nI (dd i)) (nI (dd b)) f k U ∧ ∃ kp', kp' ≤ 120 ∧ ys_ho (nI (dd i)) (nI (dd b)) f k U 20 0 7 = nI kp' ∧ rl_ent I (hv_J I J i b kc) (ys_ho (nI (dd i)) (nI (dd b)) f k U) nn kc kp' dd ∧ ∀ a x c, ¬ (a = 27 ∨ a = 28 ∨ a = 29) → ¬ (a = 20 ∧ x = 0 ∧ c = 7) → ys_ho (nI (dd i)) (nI (dd b)) f k U a x c = U a x c := by
  intro f
  induction f with
  | zero => intro k U J kp _ _ _ _ _ _ h; omega
  | succ f ih =>
    intro k U J kp hk he hkp hk2 hkk hno hf
    have hkn : ys_kpn U = kp := ys_kpn_e hkp (by omega)
    unfold ys_hok ys_ho
    rw [hkn]
    have pe : ∀ s, s < kc → ys_past (I 2 0 s) (nI (dd b)) (nI (dd i)) = xs_pst (I 5 b 0) (I 5 i 0) (I 2 0 s) := by
      intro s hs
      obtain ⟨d, hd, hde⟩ := hkd s hs
      rw [hde, (hi.1 b hb0).2, (hi.1 i hi0).2]
      exact pz_past (hi.1 b hb0).1 (hi.1 i hi0).1 hd
    by_cases c0 : kp ≤ k
    · rw [if_pos c0, if_pos c0]
      refine ⟨trivial, kp, hk2, hkp, ?_, fun _ _ _ _ _ => rfl⟩
      rw [hv_none]
      · exact he
      · intro s hs
        by_cases hv : J 7 i s = 4294967296
        · simp [hv_m, hv]
        · obtain ⟨-, q, hq, a, c⟩ := he.2.2 i s hi0 (by omega) hv
          have := hno q (by omega)
          rw [a, c, pe s hs] at this
          cases hp : xs_pst (I 5 b 0) (I 5 i 0) (I 2 0 s) with
          | true => simp [hv_m, hp]
          | false => exact absurd ⟨rfl, hp⟩ this
    · rw [if_neg c0, if_neg c0]
      obtain ⟨i', s, y1, y2, y3, y4, y5⟩ := he.1 k (by omega)
      by_cases c1 : U 27 0 k = nI (dd i)
      · have hii : i' = i := hi.2 i' i y1 hi0 (ri_inj (hi.1 i' y1).1 (hi.1 i hi0).1 (by rw [← y3, c1]))
        subst hii
        rw [if_pos c1, if_pos c1]
        by_cases c2 : ys_past (U 28 0 k) (nI (dd b)) (nI (dd i')) = false
        · rw [if_pos c2, if_pos c2]
          have hm : hv_m I J i' b s = true := by
            unfold hv_m
            rw [y4, pe s y2] at c2
            rw [c2, y5]
            simp [rc_abs]
          have hib := hv_ne ⟨s, hm⟩
          have hD := rk_drop hi hk he (show k < kp by omega) hi0 y2 c1 y4
          have hDk : ys_dr U kp k 20 0 7 = nI (kp - 1) := ys_dr_kp hkp (by omega)
          have hkD : rl_keys I (ys_dr U kp k) kc := rg_keys hk (fun _ _ => rfl) (fun j _ => rd_o 30 0 j (by omega) (by omega))
          obtain ⟨kp', k1, k2, k3⟩ := rk_keep hi hkD hD hDk (by omega) hkc hb0 y2 (U 29 0 k) (fun _ => by omega)
          have eS : ys_hs U (nI (dd b)) k = ys_kp (ys_dr U kp k) (kp - 1) (nI (dd b)) (I 2 0 s) (U 29 0 k) := by unfold ys_hs; rw [hkn, y4]
          rw [eS]
          have eJ : nf_ju (nf_ju J 7 i' s 4294967296) 7 b s (U 29 0 k).toInt64 = hv_1 J i' b s := by
            unfold hv_1
            rw [y5]
            funext a x c
            unfold nf_ju
            by_cases z1 : a = 7 ∧ x = b ∧ c = s
            · rw [if_pos z1, if_neg (by omega), if_pos z1]
            · rw [if_neg z1]
              by_cases z2 : a = 7 ∧ x = i' ∧ c = s
              · rw [if_pos z2, if_pos z2]
              · rw [if_neg z2, if_neg z2, if_neg z1]
          rw [eJ] at k3
          have hkE : rl_keys I (ys_kp (ys_dr U kp k) (kp - 1) (nI (dd b)) (I 2 0 s) (U 29 0 k)) kc := rg_keys hkD (fun _ _ => rfl) (fun j _ => rk_o 30 0 j (by omega) (by omega))
          have hdec := hv_dec y2 hm
          obtain ⟨r1, kp2, r2, r3, r4, r5⟩ := ih 0 _ (hv_1 J i' b s) kp' hkE k3 k2 k1 (Nat.zero_le _) (fun q hq => by omega) (by omega)
          refine ⟨r1, kp2, r2, r3, ?_, fun a x c h1 h2 => ?_⟩
          · rw [hv_step y2 hm] at r4; exact r4
          · rw [r5 a x c h1 h2, rk_o a x c h1 h2, rd_o a x c h1 h2]
        · rw [if_neg c2, if_neg c2]
          exact ih (k + 1) U J kp hk he hkp hk2 (by omega) (fun q hq => by
            by_cases hqk : q = k
            · rw [hqk]; exact fun z => c2 z.2
            · exact hno q (by omega)) (by omega)
      · rw [if_neg c1, if_neg c1]
        exact ih (k + 1) U J kp hk he hkp hk2 (by omega) (fun q hq => by
          by_cases hqk : q = k
          · rw [hqk]; exact fun z => c1 z.1
          · exact hno q (by omega)) (by omega)
end HW
section HX
variable {I : nf_I} {J : nf_J} {mp : Nat → Nat} {U : nf_I} {V : nf_J} {nn kc q kp : Nat} {dd : Nat → Nat}
/-- NOTIFY -/
theorem ra_8 (h : rl_all I J mp U V nn kc q kp dd) {i o : Nat} (hi0 : i < nn) (h6 : I 8 o 6 = U 36 0 20) (hm : rl_mb I nn dd (I 8 o 6)) : ys_hok (nI (dd i)) (U 36 0 20) ys_F 0 (nf_iu U 23 0 (dd i) (U 36 0 20)) ∧ ∃ kp', rl_all (xs_noI I i o) (xs_noJ I J nn kc i o) mp (ys_noI U (dd i) ys_F) V nn kc q kp' dd := by
  have hnum := h.1
  have hi := h.2.2.1
  have hid := hi.1 i hi0
  have hat := h.2.2.2.1.1 i hi0
  have hpt := h.2.2.2.2.1 i hi0
  obtain ⟨b, hb0, hbe, hbm⟩ := hm
  have hbid := hi.1 b hb0
  -- the node's predecessor is set
  have hS : rl_all (nf_iu I 5 i 2 (I 8 o 6)) J mp (nf_iu U 23 0 (dd i) (U 36 0 20)) V nn kc q kp dd := by
    have hmb : ∀ x, rl_mb I nn dd x → rl_mb (nf_iu I 5 i 2 (I 8 o 6)) nn dd x := rg_mb (fun k _ hh => by rw [nf_iu_n _ _ (by omega)]; exact hh)
    obtain ⟨a1, a2, a3, a4, a5, a6⟩ := hat
    refine rg_node h hi0 (fun a b c _ hh => nf_iu_n _ _ (fun z => hh ⟨Or.inl z.1, z.2.1⟩)) (nf_iu_n _ _ (by omega)) (fun _ _ _ _ _ => rfl) (fun a b c _ hh => nf_iu_n _ _ (by omega)) (fun _ _ _ _ _ => rfl) ?_ (fun hh => by rw [nf_iu_n _ _ (by omega)]; exact hh) ?_
    · refine ⟨?_, ?_, ?_, fun j hj => ?_, a5, ?_⟩
      · rw [nf_iu_n _ _ (by omega), nf_iu_n _ _ (by omega)]; exact a1
      · rw [nf_iu_n _ _ (by omega), nf_iu_n _ _ (by omega)]; exact a2
      · rw [nf_iu_s, nf_iu_s, h6]
      · rw [nf_iu_n _ _ (by omega), nf_iu_n _ _ (by omega)]; exact a4 j hj
      · rw [nf_iu_n _ _ (by omega), nf_iu_n _ _ (by omega)]; exact a6
    · refine ⟨?_, Or.inr ?_, fun j hj => ?_⟩
      · rw [nf_iu_n _ _ (by omega)]; exact hpt.1.imp_right (hmb _)
      · rw [nf_iu_s]; exact hmb _ ⟨b, hb0, hbe, hbm⟩
      · rw [nf_iu_n _ _ (by omega)]; exact (hpt.2.2 j hj).imp_right (hmb _)
  have hub : U 36 0 20 = nI (dd b) := by rw [← h6, hbe]
  have hmain := hv_mod hS.2.2.1 hS.1.1.1 hS.1.1.2.1 hi0 hb0 (fun s hs => (hS.2.2.2.2.2.1.1 s hs).2) ys_F 0 (nf_iu U 23 0 (dd i) (U 36 0 20)) J kp hS.2.2.2.2.2.1 hS.2.2.2.2.2.2.1 hS.1.2.2.2.2.2.1 hS.1.1.2.2.2 (Nat.zero_le _) (fun q hq => by omega) (by
    have h10 : hv_n (nf_iu I 5 i 2 (I 8 o 6)) J i b kc ≤ kc := sm_N (fun t _ => by split <;> omega)
    have := hS.1.1.2.1
    have := hS.1.1.2.2.2
    unfold ys_F
    omega)
  obtain ⟨r1, kp', r2, r3, r4, r5⟩ := hmain
  have hr1 : ys_hok (nI (dd i)) (U 36 0 20) ys_F 0 (nf_iu U 23 0 (dd i) (U 36 0 20)) := by rw [hub] at r1 ⊢; exact r1
  refine ⟨hr1, ?_⟩
  -- both sides go on
  have hgo : rl_all (nf_iu I 5 i 2 (I 8 o 6)) (xs_no1 I J nn kc i o) mp (ys_ho (nI (dd i)) (U 36 0 20) ys_F 0 (nf_iu U 23 0 (dd i) (U 36 0 20))) V nn kc q kp' dd := by
    have hnode : xs_node (nf_iu I 5 i 2 (I 8 o 6)) nn (nf_iu I 5 i 2 (I 8 o 6) 8 o 6) = some b := by
      have := rn_some hS.2.2.1 hb0
      rw [← hbe] at this
      rw [nf_iu_n _ _ (show ¬ (8 = 5 ∧ o = i ∧ 6 = 2) by omega)]
      exact this
    have eJ : xs_no1 I J nn kc i o = hv_J (nf_iu I 5 i 2 (I 8 o 6)) J i b kc := by
      unfold xs_no1
      rw [hnode]
      simp only
      exact hv_cls kc 0 J (by omega) (fun c hc => by omega)
    rw [eJ, hub]
    rw [hub] at r3 r4 r5 hS
    refine rg_ent2 hS (fun a x c ha => ?_) r5 r3 r2 r4
    unfold hv_J
    exact if_neg (fun z => ha z.1)
  have hbt : ¬ I 5 i 2 = -1 → ys_btw (U 36 0 20) (U 23 0 (dd i)) (nI (dd i)) = xs_btw (I 5 i 2) (I 5 i 0) (I 8 o 6) := by
    intro hz
    obtain ⟨x, hx, hxe⟩ := rb_id hi (hpt.2.1.resolve_left hz)
    rw [hat.2.2.1, hub, hbe, hxe, hid.2]
    exact pz_between hx hid.1 hbid.1
  unfold xs_noI xs_noJ ys_noI
  rw [hat.2.2.1]
  by_cases c1 : I 5 i 2 = -1
  · rw [if_pos c1, if_pos c1, if_pos c1]
    exact ⟨kp', hgo⟩
  · have hbt2 := hbt c1
    rw [hat.2.2.1] at hbt2
    rw [if_neg c1, if_neg c1, if_neg c1, hbt2]
    by_cases c2 : xs_btw (I 5 i 2) (I 5 i 0) (I 8 o 6) = false
    · rw [if_pos c2, if_pos c2, if_pos c2]
      exact ⟨kp, h⟩
    · rw [if_neg c2, if_neg c2, if_neg c2]
      exact ⟨kp', hgo⟩
end HX
