/-! A message is taken out on both sides. -/
section RK
variable {I : nf_I} {J : nf_J} {mp : Nat → Nat} {U : nf_I} {V : nf_J} {nn kc sz kp : Nat} {dd : Nat → Nat}
theorem rt_tk {k j : Nat} (hj : j < 21) : xs_tk mp k j = mp (if j = 20 then k else if k ≤ j then j + 1 else j) := by
  unfold xs_tk va_up xs_sh
  by_cases h : j = 20
  · rw [if_pos h, if_pos h]
  · rw [if_neg h, if_neg h]
    by_cases h2 : k ≤ j
    · rw [if_pos ⟨h2, by omega⟩, if_pos h2]
    · rw [if_neg (by omega), if_neg h2]
theorem rt_mp (h : rl_mp mp) {k : Nat} (hk : k < 20) : rl_mp (xs_tk mp k) := by
  have b : ∀ j, j < 21 → (if j = 20 then k else if k ≤ j then j + 1 else j) < 21 := fun j hj => by
    by_cases h1 : j = 20
    · rw [if_pos h1]; omega
    · rw [if_neg h1]
      by_cases h2 : k ≤ j
      · rw [if_pos h2]; omega
      · rw [if_neg h2]; omega
  refine ⟨fun j hj => by rw [rt_tk hj]; exact h.1 _ (b j hj), fun i j hi hj e => ?_⟩
  rw [rt_tk hi, rt_tk hj] at e
  have := h.2 _ _ (b i hi) (b j hj) e
  by_cases a1 : i = 20 <;> by_cases a2 : j = 20 <;> by_cases a3 : k ≤ i <;> by_cases a4 : k ≤ j <;> simp only [a1, a2, a3, a4, if_true, if_false] at this <;> omega
theorem rt_U {k a : Nat} (ha : 31 ≤ a ∧ a ≤ 37) (hs : sz ≤ 20) (hk : k < sz) : (∀ j, j < sz - 1 → ys_tkI U k sz a 0 j = U a 0 (if k ≤ j then j + 1 else j)) ∧ ys_tkI U k sz a 0 20 = U a 0 k := by
  have ht : ∀ c, ys_t1 U k a 0 c = if c = 20 then U a 0 k else U a 0 c := by
    intro c
    unfold ys_t1
    rw [nf_iu_n _ _ (by omega), ys_cp_eq]
    unfold ys_cpx
    by_cases h : c = 20
    · rw [if_pos ⟨ha, rfl, h⟩, if_pos h]
    · rw [if_neg (fun z => h z.2.2), if_neg h]
  refine ⟨fun j hj => ?_, ?_⟩
  · unfold ys_tkI ys_sf
    by_cases h : k ≤ j
    · rw [if_pos ⟨ha, rfl, h, hj⟩, if_pos h, ht, if_neg (by omega)]
    · rw [if_neg (by omega), if_neg h, ht, if_neg (by omega)]
  · unfold ys_tkI ys_sf
    rw [if_neg (by omega), ht, if_pos rfl]
theorem rt_V {k : Nat} (hs : sz ≤ 20) (hk : k < sz) : (∀ j, j < sz - 1 → ys_tkJ V k sz 38 0 j = V 38 0 (if k ≤ j then j + 1 else j)) ∧ ys_tkJ V k sz 38 0 20 = V 38 0 k := by
  have ht : ∀ c, ys_cpJ V k 20 38 0 c = if c = 20 then V 38 0 k else V 38 0 c := by
    intro c
    unfold ys_cpJ nf_ju
    by_cases h : c = 20
    · rw [if_pos ⟨rfl, rfl, h⟩, if_pos h]
    · rw [if_neg (fun z => h z.2.2), if_neg h]
  refine ⟨fun j hj => ?_, ?_⟩
  · unfold ys_tkJ ys_sfJ
    by_cases h : k ≤ j
    · rw [if_pos ⟨rfl, rfl, h, hj⟩, if_pos h, ht, if_neg (by omega)]
    · rw [if_neg (by omega), if_neg h, ht, if_neg (by omega)]
  · unfold ys_tkJ ys_sfJ
    rw [if_neg (by omega), ht, if_pos rfl]
theorem rt_Vo {k : Nat} : ∀ a b c, ¬ a = 38 → ys_tkJ V k sz a b c = V a b c := by
  intro a b c h
  unfold ys_tkJ ys_sfJ ys_cpJ
  rw [if_neg (fun z => h z.1), nf_ju_n _ _ (fun z => h z.1)]
theorem rg_take (h : rl_all I J mp U V nn kc sz kp dd) {k : Nat} (hk : k < sz) : rl_all (nf_iu I 3 0 1 (I 3 0 1 - 1)) J (xs_tk mp k) (ys_tkI U k sz) (ys_tkJ V k sz) nn kc (sz - 1) kp dd ∧ rl_msg (nf_iu I 3 0 1 (I 3 0 1 - 1)) J (ys_tkI U k sz) (ys_tkJ V k sz) nn kc dd (mp k) 20 ∧ xs_tk mp k 20 = mp k := by
  obtain ⟨⟨⟨n1, n2, n3, n4⟩, n5, n6, n7, n8, n9, n10, n11⟩, hmp, hi, hn, hp, hk2, he, hms⟩ := h
  have hI : ∀ a b c, ¬ (a = 3 ∧ b = 0 ∧ c = 1) → nf_iu I 3 0 1 (I 3 0 1 - 1) a b c = I a b c := fun a b c h1 => nf_iu_n _ _ h1
  have hU : ∀ a b c, ¬ (31 ≤ a ∧ a ≤ 37) → ¬ (a = 20 ∧ b = 0 ∧ c = 13) → ys_tkI U k sz a b c = U a b c := fun a b c h1 h2 => ys_tk_o _ _ _ _ _ _ h1 h2
  have hmb : ∀ x, rl_mb I nn dd x → rl_mb (nf_iu I 3 0 1 (I 3 0 1 - 1)) nn dd x := rg_mb (fun i _ hh => by rw [hI 5 i 1 (by omega)]; exact hh)
  have hks : ∀ s, s < kc → s < kc ∧ nf_iu I 3 0 1 (I 3 0 1 - 1) 2 0 s = I 2 0 s := fun s hs => ⟨hs, hI 2 0 s (by omega)⟩
  refine ⟨⟨⟨⟨n1, n2, by omega, n4⟩, ?_, ?_, ?_, ?_, ?_, ?_, ys_tk_row n11 (by omega)⟩, rt_mp hmp (by omega), ?_, ?_, ?_, ?_, ?_, fun j hj => ?_⟩, ?_, by rw [rt_tk (by omega), if_pos rfl]⟩
  · rw [hI 0 0 1 (by omega)]; exact n5
  · rw [hI 0 0 3 (by omega)]; exact n6
  · rw [nf_iu_s, n7, show sz = (sz - 1) + 1 by omega, nI_pred]; rfl
  · rw [hU 20 0 0 (by omega) (by omega)]; exact n8
  · rw [hU 20 0 7 (by omega) (by omega)]; exact n9
  · rw [hU 20 0 11 (by omega) (by omega)]; exact n10
  · exact rg_ids hi (fun i _ => hI 5 i 0 (by omega))
  · exact rg_nodes hn (fun i c _ => hI 5 i c (by omega)) (fun i c _ => hI 6 i c (by omega)) (fun _ _ => rfl) (fun a c h1 h2 => hU a 0 c (by omega) (by omega)) (fun c => rt_Vo 25 0 c (by omega))
  · exact rg_ptr hp (fun i c _ => hI 5 i c (by omega)) (fun i c _ => hI 6 i c (by omega))
  · exact rg_keys hk2 (fun j _ => hI 2 0 j (by omega)) (fun j _ => hU 30 0 j (by omega) (by omega))
  · exact rg_ent he (fun j _ => hI 2 0 j (by omega)) (fun _ _ _ => rfl) (fun a q h1 h2 => hU a 0 q (by omega) (by omega))
  · have hlt : (if k ≤ j then j + 1 else j) < sz := by
      by_cases h2 : k ≤ j
      · rw [if_pos h2]; omega
      · rw [if_neg h2]; omega
    rw [rt_tk (by omega), if_neg (by omega)]
    exact rg_msg (hms _ hlt) (fun c => hI 8 _ c (by omega)) rfl (fun a h1 h2 => (rt_U ⟨h1, h2⟩ n3 hk).1 j hj) ((rt_V n3 hk).1 j hj) hmb (fun _ z => z) hks
  · exact rg_msg (hms k hk) (fun c => hI 8 _ c (by omega)) rfl (fun a h1 h2 => (rt_U ⟨h1, h2⟩ n3 hk).2) (rt_V n3 hk).2 hmb (fun _ z => z) hks
end RK
