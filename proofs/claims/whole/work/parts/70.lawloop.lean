/-! The law: its loop, its start. -/
section ZL
variable {p : Program} {l : Launch} {e : Env} {s : State} {m : MethodId} {below : List Frame} {meth : Method} {c : Code} {H : Heap} {locs : List Loc} {cells slots : Nat} {Q : State → Prop}
variable {ls : Array Slot} {D : va_G} {cs : Nat → ClassId} {b L t : Nat} {xs : Nat → Int32} {ad : nf_A} {I : nf_I} {J : nf_J} {mp : Nat → Nat} {nn kc sz kp : Nat} {dd : Nat → Nat}
theorem lw_len {L t : Nat} (hL : L ≤ 2048) (ht : t ≤ 512) (h : ¬ Int32.ofNat L - 4 < nI (4 * t)) : 4 * t + 4 ≤ L := by
  by_cases h4 : 4 ≤ L
  · have e : Int32.ofNat L - 4 = nI (L - 4) := by
      have e2 : nI (L - 4) + nI 4 = nI L := by rw [nI_add, show L - 4 + 4 = L by omega]
      show nI L - nI 4 = nI (L - 4)
      rw [← e2, Int32.add_sub_cancel]
    rw [e] at h
    have h9 : ¬ L - 4 < 4 * t := fun z => h ((nI_ltI (a := L - 4) (b := 4 * t) (by omega) (by omega)).mpr z)
    omega
  · exfalso
    apply h
    have hp := nI_toInt (n := 4 * t) (by omega)
    apply Int32.lt_iff_toInt_lt.mpr
    rw [hp]
    rcases (show L = 0 ∨ L = 1 ∨ L = 2 ∨ L = 3 by omega) with rfl | rfl | rfl | rfl
    · have e : (Int32.ofNat 0 - 4).toInt = -4 := by decide +kernel
      omega
    · have e : (Int32.ofNat 1 - 4).toInt = -3 := by decide +kernel
      omega
    · have e : (Int32.ofNat 2 - 4).toInt = -2 := by decide +kernel
      omega
    · have e : (Int32.ofNat 3 - 4).toInt = -1 := by decide +kernel
      omega
set_option maxHeartbeats 4000000 in
set_option maxRecDepth 100000 in
theorem lw_loop (hC : nf_C p m c cL_law 4 s #[Value.ref b] (Cond.initialized RL :: wT) RL D vwCl (xT cs)) (hX : va_X b L xs s s.heap) (hbl : b < s.heap.size) (hL : L ≤ 2048)
    (kend : ∀ (H : Heap) (locs : List Loc) (ls : Array Slot) (cells slots : Nat), cells ≤ 600000 → slots ≤ 7302250 → (∀ q ∈ locs, s.heap.size ≤ q.base) → W p l e room_1 s m #[Value.ref b] below meth c H locs cells slots Q (F0 m 636 ls [])) :
    ∀ (fz t : Nat) (H : Heap) (locs : List Loc) (ls : Array Slot), 512 - t < fz → t ≤ 512 → lw_I cs D s b t H locs ls → W p l e room_1 s m #[Value.ref b] below meth c H locs (45 + 3 * t) (4127 + 25 * t) Q (F0 m 18 ls []) := by
  intro fz
  induction fz with
  | zero => exact fun _ _ _ _ hz => absurd hz (Nat.not_lt_zero _)
  | succ fz ih =>
    intro t H locs ls hz ht hI
    obtain ⟨ad, I, J, mp, nn, kc, sz, kp, dd, hM, hr, hl⟩ := hI
    have hx := hC.1.1
    have hb := hC.1.2.1
    refine lv_iload_n (pc := 18) hx hb dL_law_18 rfl (lv_at hl 3 rfl) ?_
    refine lv_aload_n (pc := 19) hx hb dL_law_19 rfl (lv_at hl 0 rfl) ?_
    refine va_slen (pc := 20) hx hb hX hbl (A := fun q => s.heap.size ≤ q) (by omega) hM.2.2.1 dL_law_20 ?_
    refine lv_iconst (pc := 21) (v := 4) hx hb dL_law_21 (by decide) ?_
    refine lv_isub (pc := 22) hx hb dL_law_22 ?_
    refine lv_icmp_gt (pc := 23) (tgt := 636) hx hb dL_law_23 (by decide) (fun _ => ?_) (fun hh => ?_)
    · exact kend _ _ _ _ _ (by omega) (by omega) hM.2.2.1.2.2
    · have h4 := lw_len hL ht hh
      have kk : lw_K p l e s m below meth c cs D b t (45 + 3 * t) (4127 + 25 * t) Q := by
        intro H locs ls hI
        obtain ⟨ad, I, J, mp, nn, kc, sz, kp, dd, hM, hr, hl⟩ := hI
        refine lv_iinc (pc := 630) (k := 3) (v := nI (4 * (t + 1))) (lv' := [(3, .int (nI (4 * (t + 1)))), (0, .ref b), (1, .ref (ad 0 0)), (2, .ref (ad 20 0))]) hx hb dL_law_630 hl rfl (nI_add (4 * t) 4) (by decide) rfl (fun ls hl => ?_)
        refine lv_goto (pc := 633) (tgt := 18) hx hb dL_law_633 (by decide) ?_
        exact ih (t + 1) H locs ls (by omega) (by omega) ⟨ad, I, J, mp, nn, kc, sz, kp, dd, hM, hr, lv_sub hl [1, 2, 3, 0] rfl⟩
      have hcl : 45 + 3 * t + 3 ≤ room_1.cells := Nat.le_trans (show 45 + 3 * t + 3 ≤ 2000 by omega) (by decide)
      have hsl : 4127 + 25 * t + 25 ≤ room_1.slots := Nat.le_trans (show 4127 + 25 * t + 25 ≤ 20000 by omega) (by decide)
      refine lv_aload_n (pc := 26) hx hb dL_law_26 rfl (lv_at hl 0 rfl) ?_
      refine lv_iload_n (pc := 27) hx hb dL_law_27 rfl (lv_at hl 3 rfl) ?_
      refine va_sld (pc := 28) hx hb hX hbl (A := fun q => s.heap.size ≤ q) (by omega) hM.2.2.1 (vp_in_nI (by omega) (by omega)) dL_law_28 ?_
      refine lv_bipush (pc := 29) (v := 31) hx hb dL_law_29 (by decide) ?_
      refine lv_iand (pc := 31) hx hb dL_law_31 ?_
      generalize xs (nI (4 * t)).toNatClampNeg &&& 31 = v
      by_cases hv : v.toInt < 0 ∨ 19 < v.toInt
      · refine lv_tableOut (pc := 32) (tgt := 630) hx hb dL_law_32 hv (by decide) ?_
        exact W.widen (Nat.le_add_right _ _) (Nat.le_add_right _ _) (kk _ _ _ ⟨ad, I, J, mp, nn, kc, sz, kp, dd, hM, hr, hl⟩)
      · obtain ⟨k, hk, hve⟩ : ∃ k, k < 20 ∧ v = nI k := vp_in_of (vp_in_iff.mpr ⟨by omega, by omega⟩) (by decide)
        subst hve
        rcases (show k = 0 ∨ k = 1 ∨ k = 2 ∨ k = 3 ∨ k = 4 ∨ k = 5 ∨ k = 6 ∨ k = 7 ∨ k = 8 ∨ k = 9 ∨ k = 10 ∨ k = 11 ∨ k = 12 ∨ k = 13 ∨ k = 14 ∨ k = 15 ∨ k = 16 ∨ k = 17 ∨ k = 18 ∨ k = 19 by omega) with rfl | rfl | rfl | rfl | rfl | rfl | rfl | rfl | rfl | rfl | rfl | rfl | rfl | rfl | rfl | rfl | rfl | rfl | rfl | rfl
        · refine lv_tableIn (pc := 32) (off := 96) (tgt := 128) hx hb dL_law_32 (by decide) (by decide) rfl (by decide) ?_
          exact lc_create hC hX hbl hL h4 hcl hsl hM hr hl kk
        · refine lv_tableIn (pc := 32) (off := 119) (tgt := 151) hx hb dL_law_32 (by decide) (by decide) rfl (by decide) ?_
          exact lc_join hC hX hbl hL h4 hcl hsl hM hr hl kk
        · refine lv_tableIn (pc := 32) (off := 152) (tgt := 184) hx hb dL_law_32 (by decide) (by decide) rfl (by decide) ?_
          exact lc_stabilise hC hX hbl hL h4 hcl hsl hM hr hl kk
        · refine lv_tableIn (pc := 32) (off := 175) (tgt := 207) hx hb dL_law_32 (by decide) (by decide) rfl (by decide) ?_
          exact lc_fix hC hX hbl hL h4 hcl hsl hM hr hl kk
        · refine lv_tableIn (pc := 32) (off := 208) (tgt := 240) hx hb dL_law_32 (by decide) (by decide) rfl (by decide) ?_
          exact lc_put hC hX hbl hL h4 hcl hsl hM hr hl kk
        · refine lv_tableIn (pc := 32) (off := 251) (tgt := 283) hx hb dL_law_32 (by decide) (by decide) rfl (by decide) ?_
          exact lc_get hC hX hbl hL h4 hcl hsl hM hr hl kk
        · refine lv_tableIn (pc := 32) (off := 284) (tgt := 316) hx hb dL_law_32 (by decide) (by decide) rfl (by decide) ?_
          exact lc_deliver hC hX hbl hL h4 hcl hsl hM hr hl kk
        · refine lv_tableIn (pc := 32) (off := 307) (tgt := 339) hx hb dL_law_32 (by decide) (by decide) rfl (by decide) ?_
          exact lc_pump hC hX hbl hL h4 hcl hsl hM hr hl kk
        · refine lv_tableIn (pc := 32) (off := 330) (tgt := 362) hx hb dL_law_32 (by decide) (by decide) rfl (by decide) ?_
          exact lc_flying hC hX hbl hL h4 hcl hsl hM hr hl kk
        · refine lv_tableIn (pc := 32) (off := 343) (tgt := 375) hx hb dL_law_32 (by decide) (by decide) rfl (by decide) ?_
          exact lc_message hC hX hbl hL h4 hcl hsl hM hr hl kk
        · refine lv_tableIn (pc := 32) (off := 366) (tgt := 398) hx hb dL_law_32 (by decide) (by decide) rfl (by decide) ?_
          exact lc_successor hC hX hbl hL h4 hcl hsl hM hr hl kk
        · refine lv_tableIn (pc := 32) (off := 389) (tgt := 421) hx hb dL_law_32 (by decide) (by decide) rfl (by decide) ?_
          exact lc_predecessor hC hX hbl hL h4 hcl hsl hM hr hl kk
        · refine lv_tableIn (pc := 32) (off := 412) (tgt := 444) hx hb dL_law_32 (by decide) (by decide) rfl (by decide) ?_
          exact lc_finger hC hX hbl hL h4 hcl hsl hM hr hl kk
        · refine lv_tableIn (pc := 32) (off := 445) (tgt := 477) hx hb dL_law_32 (by decide) (by decide) rfl (by decide) ?_
          exact lc_entry hC hX hbl hL h4 hcl hsl hM hr hl kk
        · refine lv_tableIn (pc := 32) (off := 479) (tgt := 511) hx hb dL_law_32 (by decide) (by decide) rfl (by decide) ?_
          exact lc_entries hC hX hbl hL h4 hcl hsl hM hr hl kk
        · refine lv_tableIn (pc := 32) (off := 502) (tgt := 534) hx hb dL_law_32 (by decide) (by decide) rfl (by decide) ?_
          exact lc_answer hC hX hbl hL h4 hcl hsl hM hr hl kk
        · refine lv_tableIn (pc := 32) (off := 526) (tgt := 558) hx hb dL_law_32 (by decide) (by decide) rfl (by decide) ?_
          exact lc_hops hC hX hbl hL h4 hcl hsl hM hr hl kk
        · refine lv_tableIn (pc := 32) (off := 549) (tgt := 581) hx hb dL_law_32 (by decide) (by decide) rfl (by decide) ?_
          exact lc_owner hC hX hbl hL h4 hcl hsl hM hr hl kk
        · refine lv_tableIn (pc := 32) (off := 572) (tgt := 604) hx hb dL_law_32 (by decide) (by decide) rfl (by decide) ?_
          exact lc_wrong hC hX hbl hL h4 hcl hsl hM hr hl kk
        · refine lv_tableIn (pc := 32) (off := 585) (tgt := 617) hx hb dL_law_32 (by decide) (by decide) rfl (by decide) ?_
          exact lc_misplaced hC hX hbl hL h4 hcl hsl hM hr hl kk
theorem nf_preSR2 {cc : ByteArray} {nL Bs : Nat} {args : Array Value} {Ts : List Cond} {own : String} {cl : List vw_C} {tys : List (ClassId × FieldType)} {sh : nf_H} {P : nf_P} {H0 : Heap} (hC : nf_C p m c cc nL s args Ts own D cl tys) (hM : nf_M D cl Bs sh ad I J P H0 H locs) {C C2 a h : String} {i : Nat} {x : MethodName} (hAO : va_AO C s) (hAO2 : va_AO C2 s) (hZ : va_Nw (.methodLinkNest a i x h) s) {As : List Value} : PreS s H (va_Pc As (fun U => nf_U D cl tys Bs sh ad (I, J, P) U ∧ va_AO C U ∧ va_AO C2 U ∧ va_Nw (.methodLinkNest a i x h) U)) As :=
  ⟨fun a U g mk q => ⟨q.1, ⟨va_K.moved (u := U) (U := U.calling g mk a) (Vm.Alike.refl U.vm) q.2.1.1, q.2.1.2⟩, va_AO.moved (u := U) (U := U.calling g mk a) (Vm.Alike.refl U.vm) q.2.2.1, va_AO.moved (u := U) (U := U.calling g mk a) (Vm.Alike.refl U.vm) q.2.2.2.1, va_Nw.same rfl rfl q.2.2.2.2⟩, fun U hU hW => ⟨rfl, ⟨va_K.moved hW.alike hC.2, by rw [hU]; exact hM.here⟩, va_AO.moved hW.alike hAO, va_AO.moved hW.alike hAO2, va_Nw.warmM hW hZ⟩⟩
theorem lz_M : nf_M D vwCl s.heap.size (fun _ _ => none) (fun _ _ => 0) (fun _ _ _ => 0) (fun _ _ _ => 0) (fun _ _ _ => none) s.heap s.heap [] :=
  ⟨⟨[], fun _ => .inr (0, []), fun k q hq => (by cases hq), ⟨fun i j p q hq => (by cases hq), fun k q hq => (by cases hq)⟩, fun k i x hx => (by cases hx), fun k i k' i' x x' hx => (by cases hx)⟩, fun a b s hs => (by cases hs), va_S.rf, Nat.le_refl _⟩
set_option maxHeartbeats 4000000 in
set_option maxRecDepth 100000 in
theorem lw_begin (hC : nf_C p m c cL_law 4 s #[Value.ref b] (Cond.initialized RL :: wT) RL D vwCl (xT cs)) (hX : va_X b L xs s s.heap) (hbl : b < s.heap.size) (hL : L ≤ 2048) (hAO : va_AO "FingerOverlay$Node" s) (hAO2 : va_AO "FingerOverlay$Message" s) (hZ : va_Nw (.methodLinkNest RX2 21 yX0_init "FingerOverlay") s) (hl : lv_has ls 4 [(0, .ref b)])
    (kend : ∀ (H : Heap) (locs : List Loc) (ls : Array Slot) (cells slots : Nat), cells ≤ 600000 → slots ≤ 7302250 → (∀ q ∈ locs, s.heap.size ≤ q.base) → W p l e room_1 s m #[Value.ref b] below meth c H locs cells slots Q (F0 m 636 ls [])) : W p l e room_1 s m #[Value.ref b] below meth c s.heap [] 0 0 Q (F0 m 0 ls []) := by
  have hx := hC.1.1
  have hb := hC.1.2.1
  have hts := hC.1.2.2.2.2
  have hinX3 : ∀ w ∈ u_ws RX3 TX3 5, w ∈ (Cond.initialized RL :: wT) := fun w h => List.mem_cons_of_mem _ (inX3 w h)
  have hinX4 : ∀ w ∈ u_ws RX4 TX4 22, w ∈ (Cond.initialized RL :: wT) := fun w h => List.mem_cons_of_mem _ (inX4 w h)
  have hM := lz_M (D := D) (s := s)
  refine nf_newo (pc := 0) (ci := 3) hC hinX3 tyX3 tyX3_ok (List.mem_cons_of_mem _ wK_L_7) (List.mem_cons_of_mem _ wnew_X3) (List.mem_cons_of_mem _ wini_X3) hM rfl 0 0 rfl [(3, 0), (0, 0), (3, 0), (0, 0), (3, 0)] (by decide) (fun j hj => by rcases (show j = 0 ∨ j = 1 ∨ j = 2 ∨ j = 3 ∨ j = 4 by omega) with rfl | rfl | rfl | rfl | rfl <;> rfl) (Nat.le_of_ble_eq_true rfl) (Nat.le_of_ble_eq_true rfl) dL_law_0 (fun q H hM => ?_)
  obtain ⟨ad1, had⟩ : ∃ z, z = nh_ad (fun _ _ => 0) 0 0 q := ⟨_, rfl⟩
  simp only [← had] at hM ⊢
  have hM : nf_M D vwCl s.heap.size lz_sh1 ad1 (nf_iz (fun _ _ _ => 0) 0 0) (nf_jz (fun _ _ _ => 0) 0 0) (nf_pz (fun _ _ _ => none) 0 0) s.heap H [] := hM
  refine lv_dup (pc := 3) hx hb dL_law_3 rfl ?_
  refine nf_callvX (pc := 4) (va_runI (As := []) (rest := [.ref (ad1 0 0)]) hC.1 (ct_X3_init (sh := lz_sh1) rfl rfl rfl rfl rfl (fun _ => rfl)) (cwI 0 hts (gd_0 wcode_X3_init) rfl rfl rfl (hts _ (List.mem_cons_of_mem _ wini_X3)) (hts _ (List.mem_cons_of_mem _ wM_L_9)) (hts _ (List.mem_cons_of_mem _ wi_X3_init)) rfl (by decide +kernel) ⟨by decide, by decide⟩) (nf_preSR2 hC hM hAO hAO2 hZ) rfl rfl hl.1 rfl (lv_room (Nat.le_of_ble_eq_true rfl)) dL_law_4 ⟨Nat.le_of_ble_eq_true rfl, Nat.le_of_ble_eq_true rfl⟩) hM (fun ad2 H locs hkc hM => ?_)
  rw [← hkc 0 0 _ rfl]
  refine lv_astore_n (pc := 7) (lv' := [(1, .ref (ad2 0 0)), (0, .ref b)]) hx hb dL_law_7 rfl hl (by decide) rfl (fun ls hl => ?_)
  refine nf_newo (pc := 8) (ci := 4) hC hinX4 tyX4 tyX4_ok (List.mem_cons_of_mem _ wK_L_10) (List.mem_cons_of_mem _ wnew_X4) (List.mem_cons_of_mem _ wini_X4) hM rfl 20 0 lz_20 [(0, 0), (3, 0), (3, 0), (3, 0), (3, 0), (3, 0), (3, 0), (0, 0), (3, 0), (3, 0), (3, 0), (0, 0), (3, 0), (0, 0), (3, 0), (3, 0), (3, 0), (3, 0), (3, 0), (3, 0), (3, 0), (3, 0)] (by decide) (fun j hj => by rcases (show j = 0 ∨ j = 1 ∨ j = 2 ∨ j = 3 ∨ j = 4 ∨ j = 5 ∨ j = 6 ∨ j = 7 ∨ j = 8 ∨ j = 9 ∨ j = 10 ∨ j = 11 ∨ j = 12 ∨ j = 13 ∨ j = 14 ∨ j = 15 ∨ j = 16 ∨ j = 17 ∨ j = 18 ∨ j = 19 ∨ j = 20 ∨ j = 21 by omega) with rfl | rfl | rfl | rfl | rfl | rfl | rfl | rfl | rfl | rfl | rfl | rfl | rfl | rfl | rfl | rfl | rfl | rfl | rfl | rfl | rfl | rfl <;> rfl) (Nat.le_of_ble_eq_true rfl) (Nat.le_of_ble_eq_true rfl) dL_law_8 (fun q H hM => ?_)
  obtain ⟨ad3, had⟩ : ∃ z, z = nh_ad ad2 20 0 q := ⟨_, rfl⟩
  have hk3 := nf_kp.new (ad := ad2) (k := 20) (i := 0) (q := q) (lz_20 (cs := cs))
  rw [← had] at hk3
  simp only [← had] at hM ⊢
  have hM : nf_M D vwCl s.heap.size (lz_sh2 cs) ad3 (nf_iz (xs_ovI (nf_iz (fun _ _ _ => 0) 0 0)) 20 0) (nf_jz (xs_ovJ (nf_jz (fun _ _ _ => 0) 0 0)) 20 0) (nf_pz (xs_ovP (nf_pz (fun _ _ _ => none) 0 0)) 20 0) s.heap H locs := hM
  rw [← hk3 0 0 _ rfl] at hl
  refine lv_dup (pc := 11) hx hb dL_law_11 rfl ?_
  refine nf_callvX (pc := 12) (va_runI (As := []) (rest := [.ref (ad3 20 0)]) hC.1 (ct_X4_init (sh := lz_sh2 cs) rfl (fun a h1 h2 => lz_h h1 h2)) (cwI 0 hts (gd_0 wcode_X4_init) rfl rfl rfl (hts _ (List.mem_cons_of_mem _ wini_X4)) (hts _ (List.mem_cons_of_mem _ wM_L_12)) (hts _ (List.mem_cons_of_mem _ wi_X4_init)) rfl (by decide +kernel) ⟨by decide, by decide⟩) (nf_preS hC hM) rfl rfl hl.1 rfl (lv_room (Nat.le_of_ble_eq_true rfl)) dL_law_12 ⟨Nat.le_of_ble_eq_true rfl, Nat.le_of_ble_eq_true rfl⟩) hM (fun ad4 H locs hkc hM => ?_)
  rw [← hkc 20 0 _ rfl]
  rw [← hkc 0 0 _ rfl] at hl
  refine lv_astore_n (pc := 15) (lv' := [(2, .ref (ad4 20 0)), (1, .ref (ad4 0 0)), (0, .ref b)]) hx hb dL_law_15 rfl hl (by decide) rfl (fun ls hl => ?_)
  refine lv_iconst (pc := 16) (v := 0) hx hb dL_law_16 (by decide) ?_
  refine lv_istore_n (pc := 17) (lv' := [(3, .int 0), (2, .ref (ad4 20 0)), (1, .ref (ad4 0 0)), (0, .ref b)]) hx hb dL_law_17 rfl hl (by decide) rfl (fun ls hl => ?_)
  have hM : nf_M D vwCl s.heap.size (ys_ovS (lz_sh2 cs) cs) ad4 lz_I lz_J lz_P s.heap H locs := hM
  rw [lz_S, lz_PP] at hM
  exact W.widen (Nat.le_of_ble_eq_true rfl) (Nat.le_of_ble_eq_true rfl) (lw_loop hC hX hbl hL kend _ 0 H locs ls (Nat.lt_succ_self _) (Nat.zero_le _) ⟨ad4, lz_I, lz_J, _, 0, 0, 0, 0, _, hM, lz_all, lv_sub hl [3, 2, 1, 0] rfl⟩)
end ZL
