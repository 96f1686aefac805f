/-! FingerOverlay(). -/
section ZO
variable {l : Launch} {D : va_G} {cs : Nat → ClassId} {Bs nn : Nat} {ad : nf_A} {sh : nf_H} {I : nf_I} {J : nf_J} {P : nf_P}
theorem nf_preSR {p : Program} {m : MethodId} {c : Code} {cc : ByteArray} {nL : Nat} {s : State} {args : Array Value} {Ts : List Cond} {own : String} {D : va_G} {cl : List vw_C} {tys : List (ClassId × FieldType)} {Bs : Nat} {sh : nf_H} {ad : nf_A} {I : nf_I} {J : nf_J} {P : nf_P} {H0 H : Heap} {locs : List Loc} (hC : nf_C p m c cc nL s args Ts own D cl tys) (hM : nf_M D cl Bs sh ad I J P H0 H locs) {C a h : String} {i : Nat} {x : MethodName} (hAO : va_AO C s) (hZ : va_Nw (.methodLinkNest a i x h) s) {As : List Value} : PreS s H (va_Pc As (fun U => nf_U D cl tys Bs sh ad (I, J, P) U ∧ va_AO C U ∧ va_Nw (.methodLinkNest a i x h) U)) As :=
  ⟨fun a U g mk q => ⟨q.1, ⟨va_K.moved (u := U) (U := U.calling g mk a) (Vm.Alike.refl U.vm) q.2.1.1, q.2.1.2⟩, va_AO.moved (u := U) (U := U.calling g mk a) (Vm.Alike.refl U.vm) q.2.2.1, va_Nw.same rfl rfl q.2.2.2⟩, fun U hU hW => ⟨rfl, ⟨va_K.moved hW.alike hC.2, by rw [hU]; exact hM.here⟩, va_AO.moved hW.alike hAO, va_Nw.warmM hW hZ⟩⟩
def xs_ovS (sh : nf_H) (cs : Nat → ClassId) : nf_H := nf_su (xs_rS (nf_su (nf_su (nf_su (nf_su (nf_su (nf_su (nf_su sh 1 0 (.inr (cs 2, 12, 2))) 0 0 (.inl (3, [(2, 1), (0, 0), (3, 0), (0, 0), (3, 0)]))) 2 0 (.inr (cs 0, 10, 0))) 0 0 (.inl (3, [(2, 1), (0, 0), (2, 2), (0, 0), (3, 0)]))) 3 0 (.inl (2, [(3, 0), (0, 0)]))) 4 0 (.inr (cs 3, 21, 2))) 3 0 (.inl (2, [(2, 4), (0, 0)]))) 21) 0 0 (.inl (3, [(2, 1), (0, 0), (2, 2), (0, 0), (2, 3)]))
def xs_ovI (I : nf_I) : nf_I := xs_rI (nf_iu (nf_iz (nf_iz (nf_iu (nf_iz (nf_iu (nf_iz I 1 0) 0 0 1 0) 2 0) 0 0 3 0) 3 0) 4 0) 3 0 1 0) 21
def xs_ovJ (J : nf_J) : nf_J := xs_rJ (nf_jz (nf_jz (nf_jz (nf_jz J 1 0) 2 0) 3 0) 4 0) 21
def xs_ovP (P : nf_P) : nf_P := xs_rP (nf_pz (nf_pz (nf_pz (nf_pz P 1 0) 2 0) 3 0) 4 0) 21
set_option maxHeartbeats 4000000 in
set_option maxRecDepth 100000 in
theorem ct_X3_init  (h0 : sh 0 0 = some (.inl (3, [(3, 0), (0, 0), (3, 0), (0, 0), (3, 0)]))) (h1 : sh 1 0 = none) (h2 : sh 2 0 = none) (h3 : sh 3 0 = none) (h4 : sh 4 0 = none) (h8 : ∀ c, sh 8 c = none) : Met l yX3_init wsX3_init { frames := 3, cells := 25, slots := 234, locals := 57 } (va_Pc [.ref (ad 0 0)] (fun U => nf_U D vwCl (xT cs) Bs sh ad (I, J, P) U ∧ va_AO "FingerOverlay$Node" U ∧ va_AO "FingerOverlay$Message" U ∧ va_Nw (.methodLinkNest RX2 21 yX0_init "FingerOverlay") U)) (va_Qv (nf_pX sh ad (xs_ovS sh cs) (xs_ovI I) (xs_ovJ J) (xs_ovP P)) (nf_X D vwCl (xT cs) Bs) (fun q => Bs ≤ q)) 25 234 (fun q => Bs ≤ q) := by
  refine nf_enter (cc := cX3_init) (maxL := 1) (by decide) rfl (Nat.le_of_ble_eq_true rfl) ?_
  intro p e s m below meth c ls hF hr hlk hnm hU hl
  obtain ⟨⟨hK, hM⟩, hAN, hAO, hZ⟩ := hU
  obtain ⟨ar, har⟩ : ∃ z, z = ([.ref (ad 0 0)] : List Value).toArray := ⟨_, rfl⟩
  rw [← har] at hF ⊢
  have hC : nf_C p m c cX3_init 1 s ar wsX3_init yX3_init.cls D vwCl (xT cs) := ⟨hF, hK⟩
  have hx := hC.1.1
  have hb := hC.1.2.1
  have hl : lv_has ls 1 [(0, .ref (ad 0 0))] := hl
  have hk : nf_kp sh ad ad := nf_kp.rf
  have hgr : ∀ (a b : Nat) (x : nf_O), sh a b = some x → ∃ y, sh a b = some y := fun a b x hx => ⟨x, hx⟩
  have hinX2 : ∀ w ∈ u_ws RX2 TX2 2, w ∈ wsX3_init := fun w h => List.mem_cons_of_mem _ (inX2 w h)
  have hinX3 : ∀ w ∈ u_ws RX3 TX3 5, w ∈ wsX3_init := fun w h => List.mem_cons_of_mem _ (inX3 w h)
  refine lv_aload_n (pc := 0) hx hb dX3_init_0 rfl (lv_at hl 0 rfl) ?_
  refine W.objInit (g := F0 m 1 ls [.ref (ad 0 0)]) hx hb hC.1.2.2.2.1 (hC.1.2.2.2.2 _ (List.mem_cons_of_mem _ wM_X3_1)) (hC.1.2.2.2.2 _ (List.mem_cons_of_mem _ wi_OB_init)) (hC.1.2.2.2.2 _ (List.mem_cons_of_mem _ wcode_OB_init)) rfl (by rw [hC.1.2.2.1]; exact hl.1) rfl dX3_init_1 (Nat.le_of_ble_eq_true rfl) (Nat.le_of_ble_eq_true rfl) ?_
  refine W.eq (g2 := F0 m 4 ls []) rfl ?_
  refine lv_aload_n (pc := 4) hx hb dX3_init_4 rfl (lv_at hl 0 rfl) ?_
  refine lv_bipush (pc := 5) (v := 12) hx hb dX3_init_5 (by decide) ?_
  refine nf_newq (pc := 7) hC (List.mem_cons_of_mem _ wK_X3_9) hAN hM 2 rfl 1 0 (show sh 1 0 = none by simp [nf_su, h1]) 12 rfl (by decide) (Nat.le_of_ble_eq_true rfl) (Nat.le_of_ble_eq_true rfl) dX3_init_7 (fun q H hM => ?_)
  have hre := (nh_ad_old (q := q) ad (show ¬ (0 = 1 ∧ 0 = 0) by omega)).symm
  try rw [hre] at hl
  try rw [hre]
  obtain ⟨ad2, had⟩ : ∃ z, z = nh_ad ad 1 0 q := ⟨_, rfl⟩
  have hk := nf_kp.tr hk (nf_kp.new (ad := ad) (k := 1) (i := 0) (q := q) (show sh 1 0 = none by simp [nf_su, h1])) hgr
  rw [← had] at hk
  simp only [← had] at hM hl ⊢
  have hgr := fun a b x hx => Exists.elim (hgr a b x hx) (fun y hy => nf_su_gr (sh := sh) (k := 1) (i := 0) (z := .inr (cs 2, 12, 2)) a b y hy)
  refine nf_putrF (pc := 10) (ty := (.array (.object "FingerOverlay$Node"))) hC hinX3 tyX3 tyX3_ok nmX3 hM (show (nf_su sh 1 0 (.inr (cs 2, 12, 2))) 0 0 = some (.inl (3, [(3, 0), (0, 0), (3, 0), (0, 0), (3, 0)])) from (by simp [nf_su, h0])) rfl 0 (by decide) (List.mem_cons_of_mem _ wF_X3_11) rfl hnm rfl (by decide +kernel) rfl rfl (by decide) (show (nf_su sh 1 0 (.inr (cs 2, 12, 2))) 1 0 = some (.inr (cs 2, 12, 2)) by simp [nf_su, xs_rS]) dX3_init_10 (fun H locs hM => ?_)
  have hgr := fun a b x hx => Exists.elim (hgr a b x hx) (fun y hy => nf_su_gr (sh := nf_su sh 1 0 (.inr (cs 2, 12, 2))) (k := 0) (i := 0) (z := .inl (3, [(2, 1), (0, 0), (3, 0), (0, 0), (3, 0)])) a b y hy)
  refine lv_aload_n (pc := 13) hx hb dX3_init_13 rfl (lv_at hl 0 rfl) ?_
  refine lv_iconst (pc := 14) (v := 0) hx hb dX3_init_14 (by decide) ?_
  refine nf_puti (pc := 15) hC hinX3 tyX3 tyX3_ok nmX3 hM (show (nf_su (nf_su sh 1 0 (.inr (cs 2, 12, 2))) 0 0 (.inl (3, [(2, 1), (0, 0), (3, 0), (0, 0), (3, 0)]))) 0 0 = some (.inl (3, [(2, 1), (0, 0), (3, 0), (0, 0), (3, 0)])) by simp [nf_su, xs_rS, h0]) rfl 1 (by decide) (List.mem_cons_of_mem _ wF_X3_15) rfl (by decide +kernel) rfl dX3_init_15 (fun H locs hM => ?_)
  refine lv_aload_n (pc := 18) hx hb dX3_init_18 rfl (lv_at hl 0 rfl) ?_
  refine lv_bipush (pc := 19) (v := 10) hx hb dX3_init_19 (by decide) ?_
  refine nf_newi (pc := 21) hC (List.mem_cons_of_mem _ warr_int) hM 0 rfl 2 0 (show (nf_su (nf_su sh 1 0 (.inr (cs 2, 12, 2))) 0 0 (.inl (3, [(2, 1), (0, 0), (3, 0), (0, 0), (3, 0)]))) 2 0 = none by simp [nf_su, h2]) 10 rfl (by decide) (Nat.le_of_ble_eq_true rfl) (Nat.le_of_ble_eq_true rfl) dX3_init_21 (fun q H hM => ?_)
  have hre := (nh_ad_old (q := q) ad2 (show ¬ (0 = 2 ∧ 0 = 0) by omega)).symm
  try rw [hre] at hl
  try rw [hre]
  obtain ⟨ad3, had⟩ : ∃ z, z = nh_ad ad2 2 0 q := ⟨_, rfl⟩
  have hk := nf_kp.tr hk (nf_kp.new (ad := ad2) (k := 2) (i := 0) (q := q) (show (nf_su (nf_su sh 1 0 (.inr (cs 2, 12, 2))) 0 0 (.inl (3, [(2, 1), (0, 0), (3, 0), (0, 0), (3, 0)]))) 2 0 = none by simp [nf_su, h2])) hgr
  rw [← had] at hk
  simp only [← had] at hM hl ⊢
  have hgr := fun a b x hx => Exists.elim (hgr a b x hx) (fun y hy => nf_su_gr (sh := nf_su (nf_su sh 1 0 (.inr (cs 2, 12, 2))) 0 0 (.inl (3, [(2, 1), (0, 0), (3, 0), (0, 0), (3, 0)]))) (k := 2) (i := 0) (z := .inr (cs 0, 10, 0)) a b y hy)
  refine nf_putrF (pc := 23) (ty := (.array .int)) hC hinX3 tyX3 tyX3_ok nmX3 hM (show (nf_su (nf_su (nf_su sh 1 0 (.inr (cs 2, 12, 2))) 0 0 (.inl (3, [(2, 1), (0, 0), (3, 0), (0, 0), (3, 0)]))) 2 0 (.inr (cs 0, 10, 0))) 0 0 = some (.inl (3, [(2, 1), (0, 0), (3, 0), (0, 0), (3, 0)])) from (by simp [nf_su, h0])) rfl 2 (by decide) (List.mem_cons_of_mem _ wF_X3_19) rfl hnm rfl (by decide +kernel) rfl rfl (by decide) (show (nf_su (nf_su (nf_su sh 1 0 (.inr (cs 2, 12, 2))) 0 0 (.inl (3, [(2, 1), (0, 0), (3, 0), (0, 0), (3, 0)]))) 2 0 (.inr (cs 0, 10, 0))) 2 0 = some (.inr (cs 0, 10, 0)) by simp [nf_su, xs_rS]) dX3_init_23 (fun H locs hM => ?_)
  have hgr := fun a b x hx => Exists.elim (hgr a b x hx) (fun y hy => nf_su_gr (sh := nf_su (nf_su (nf_su sh 1 0 (.inr (cs 2, 12, 2))) 0 0 (.inl (3, [(2, 1), (0, 0), (3, 0), (0, 0), (3, 0)]))) 2 0 (.inr (cs 0, 10, 0))) (k := 0) (i := 0) (z := .inl (3, [(2, 1), (0, 0), (2, 2), (0, 0), (3, 0)])) a b y hy)
  refine lv_aload_n (pc := 26) hx hb dX3_init_26 rfl (lv_at hl 0 rfl) ?_
  refine lv_iconst (pc := 27) (v := 0) hx hb dX3_init_27 (by decide) ?_
  refine nf_puti (pc := 28) hC hinX3 tyX3 tyX3_ok nmX3 hM (show (nf_su (nf_su (nf_su (nf_su sh 1 0 (.inr (cs 2, 12, 2))) 0 0 (.inl (3, [(2, 1), (0, 0), (3, 0), (0, 0), (3, 0)]))) 2 0 (.inr (cs 0, 10, 0))) 0 0 (.inl (3, [(2, 1), (0, 0), (2, 2), (0, 0), (3, 0)]))) 0 0 = some (.inl (3, [(2, 1), (0, 0), (2, 2), (0, 0), (3, 0)])) by simp [nf_su, xs_rS, h0]) rfl 3 (by decide) (List.mem_cons_of_mem _ wF_X3_23) rfl (by decide +kernel) rfl dX3_init_28 (fun H locs hM => ?_)
  refine lv_aload_n (pc := 31) hx hb dX3_init_31 rfl (lv_at hl 0 rfl) ?_
  refine nf_newo (pc := 32) (ci := 2) hC hinX2 tyX2 tyX2_ok (List.mem_cons_of_mem _ wK_X3_26) (List.mem_cons_of_mem _ wnew_X2) (List.mem_cons_of_mem _ wini_X2) hM rfl 3 0 (show (nf_su (nf_su (nf_su (nf_su sh 1 0 (.inr (cs 2, 12, 2))) 0 0 (.inl (3, [(2, 1), (0, 0), (3, 0), (0, 0), (3, 0)]))) 2 0 (.inr (cs 0, 10, 0))) 0 0 (.inl (3, [(2, 1), (0, 0), (2, 2), (0, 0), (3, 0)]))) 3 0 = none by simp [nf_su, h3]) [(3, 0), (0, 0)] (by decide) (fun j hj => by rcases (show j = 0 ∨ j = 1 by omega) with rfl | rfl <;> rfl) (Nat.le_of_ble_eq_true rfl) (Nat.le_of_ble_eq_true rfl) dX3_init_32 (fun q H hM => ?_)
  have hre := (nh_ad_old (q := q) ad3 (show ¬ (0 = 3 ∧ 0 = 0) by omega)).symm
  try rw [hre] at hl
  try rw [hre]
  obtain ⟨ad4, had⟩ : ∃ z, z = nh_ad ad3 3 0 q := ⟨_, rfl⟩
  have hk := nf_kp.tr hk (nf_kp.new (ad := ad3) (k := 3) (i := 0) (q := q) (show (nf_su (nf_su (nf_su (nf_su sh 1 0 (.inr (cs 2, 12, 2))) 0 0 (.inl (3, [(2, 1), (0, 0), (3, 0), (0, 0), (3, 0)]))) 2 0 (.inr (cs 0, 10, 0))) 0 0 (.inl (3, [(2, 1), (0, 0), (2, 2), (0, 0), (3, 0)]))) 3 0 = none by simp [nf_su, h3])) hgr
  rw [← had] at hk
  simp only [← had] at hM hl ⊢
  have hgr := fun a b x hx => Exists.elim (hgr a b x hx) (fun y hy => nf_su_gr (sh := nf_su (nf_su (nf_su (nf_su sh 1 0 (.inr (cs 2, 12, 2))) 0 0 (.inl (3, [(2, 1), (0, 0), (3, 0), (0, 0), (3, 0)]))) 2 0 (.inr (cs 0, 10, 0))) 0 0 (.inl (3, [(2, 1), (0, 0), (2, 2), (0, 0), (3, 0)]))) (k := 3) (i := 0) (z := .inl (2, [(3, 0), (0, 0)])) a b y hy)
  refine lv_dup (pc := 35) hx hb dX3_init_35 rfl ?_
  refine nf_callvX (pc := 36) (va_runI (As := []) (rest := [.ref (ad4 3 0), .ref (ad4 0 0)]) hC.1 (ct_X2_init (sh := nf_su (nf_su (nf_su (nf_su (nf_su sh 1 0 (.inr (cs 2, 12, 2))) 0 0 (.inl (3, [(2, 1), (0, 0), (3, 0), (0, 0), (3, 0)]))) 2 0 (.inr (cs 0, 10, 0))) 0 0 (.inl (3, [(2, 1), (0, 0), (2, 2), (0, 0), (3, 0)]))) 3 0 (.inl (2, [(3, 0), (0, 0)]))) (by simp [nf_su]) (by simp [nf_su, h4]) (by intro c; simp [nf_su, h8])) (cwI 0 hC.1.2.2.2.2 (gd_0 wcode_X2_init) rfl rfl rfl (hC.1.2.2.2.2 _ (List.mem_cons_of_mem _ wini_X2)) (hC.1.2.2.2.2 _ (List.mem_cons_of_mem _ wM_X3_28)) (hC.1.2.2.2.2 _ (List.mem_cons_of_mem _ wi_X2_init)) rfl (by decide +kernel) ⟨by decide, by decide⟩) (nf_preSR hC hM hAO hZ) rfl rfl hl.1 rfl (lv_room (Nat.le_of_ble_eq_true rfl)) dX3_init_36 ⟨Nat.le_of_ble_eq_true rfl, Nat.le_of_ble_eq_true rfl⟩) hM (fun ad9 H locs hkc hM => ?_)
  have hre := (hkc 0 0 _ (show (nf_su (nf_su (nf_su (nf_su (nf_su sh 1 0 (.inr (cs 2, 12, 2))) 0 0 (.inl (3, [(2, 1), (0, 0), (3, 0), (0, 0), (3, 0)]))) 2 0 (.inr (cs 0, 10, 0))) 0 0 (.inl (3, [(2, 1), (0, 0), (2, 2), (0, 0), (3, 0)]))) 3 0 (.inl (2, [(3, 0), (0, 0)]))) 0 0 = some (.inl (3, [(2, 1), (0, 0), (2, 2), (0, 0), (3, 0)])) by simp [nf_su, xs_rS, h0])).symm
  try rw [hre] at hl
  try rw [hre]
  have hre := (hkc 3 0 _ (show (nf_su (nf_su (nf_su (nf_su (nf_su sh 1 0 (.inr (cs 2, 12, 2))) 0 0 (.inl (3, [(2, 1), (0, 0), (3, 0), (0, 0), (3, 0)]))) 2 0 (.inr (cs 0, 10, 0))) 0 0 (.inl (3, [(2, 1), (0, 0), (2, 2), (0, 0), (3, 0)]))) 3 0 (.inl (2, [(3, 0), (0, 0)]))) 3 0 = some (.inl (2, [(3, 0), (0, 0)])) by simp [nf_su, xs_rS])).symm
  try rw [hre] at hl
  try rw [hre]
  have hk := nf_kp.tr hk hkc hgr
  have hgr : ∀ (a b : Nat) (x : nf_O), sh a b = some x → ∃ y, xs_rS (nf_su (nf_su (nf_su (nf_su (nf_su (nf_su (nf_su sh 1 0 (.inr (cs 2, 12, 2))) 0 0 (.inl (3, [(2, 1), (0, 0), (3, 0), (0, 0), (3, 0)]))) 2 0 (.inr (cs 0, 10, 0))) 0 0 (.inl (3, [(2, 1), (0, 0), (2, 2), (0, 0), (3, 0)]))) 3 0 (.inl (2, [(3, 0), (0, 0)]))) 4 0 (.inr (cs 3, 21, 2))) 3 0 (.inl (2, [(2, 4), (0, 0)]))) 21 a b = some y := fun a b x hx => xs_rS_gr (Exists.elim (Exists.elim (hgr a b x hx) (fun y hy => nf_su_gr (sh := nf_su (nf_su (nf_su (nf_su (nf_su sh 1 0 (.inr (cs 2, 12, 2))) 0 0 (.inl (3, [(2, 1), (0, 0), (3, 0), (0, 0), (3, 0)]))) 2 0 (.inr (cs 0, 10, 0))) 0 0 (.inl (3, [(2, 1), (0, 0), (2, 2), (0, 0), (3, 0)]))) 3 0 (.inl (2, [(3, 0), (0, 0)]))) (k := 4) (i := 0) (z := .inr (cs 3, 21, 2)) a b y hy)) (fun y hy => nf_su_gr (k := 3) (i := 0) (z := .inl (2, [(2, 4), (0, 0)])) a b y hy))
  refine nf_putrF (pc := 39) (ty := (.object "FingerOverlay$Row")) hC hinX3 tyX3 tyX3_ok nmX3 hM (show (xs_rS (nf_su (nf_su (nf_su (nf_su (nf_su (nf_su (nf_su sh 1 0 (.inr (cs 2, 12, 2))) 0 0 (.inl (3, [(2, 1), (0, 0), (3, 0), (0, 0), (3, 0)]))) 2 0 (.inr (cs 0, 10, 0))) 0 0 (.inl (3, [(2, 1), (0, 0), (2, 2), (0, 0), (3, 0)]))) 3 0 (.inl (2, [(3, 0), (0, 0)]))) 4 0 (.inr (cs 3, 21, 2))) 3 0 (.inl (2, [(2, 4), (0, 0)]))) 21) 0 0 = some (.inl (3, [(2, 1), (0, 0), (2, 2), (0, 0), (3, 0)])) from (by simp [nf_su, xs_rS, h0])) rfl 4 (by decide) (List.mem_cons_of_mem _ wF_X3_29) rfl hnm rfl (by decide +kernel) rfl rfl (by decide) (show (xs_rS (nf_su (nf_su (nf_su (nf_su (nf_su (nf_su (nf_su sh 1 0 (.inr (cs 2, 12, 2))) 0 0 (.inl (3, [(2, 1), (0, 0), (3, 0), (0, 0), (3, 0)]))) 2 0 (.inr (cs 0, 10, 0))) 0 0 (.inl (3, [(2, 1), (0, 0), (2, 2), (0, 0), (3, 0)]))) 3 0 (.inl (2, [(3, 0), (0, 0)]))) 4 0 (.inr (cs 3, 21, 2))) 3 0 (.inl (2, [(2, 4), (0, 0)]))) 21) 3 0 = some (.inl (2, [(2, 4), (0, 0)])) by simp [nf_su, xs_rS]) dX3_init_39 (fun H locs hM => ?_)
  have hgr := fun a b x hx => Exists.elim (hgr a b x hx) (fun y hy => nf_su_gr (sh := xs_rS (nf_su (nf_su (nf_su (nf_su (nf_su (nf_su (nf_su sh 1 0 (.inr (cs 2, 12, 2))) 0 0 (.inl (3, [(2, 1), (0, 0), (3, 0), (0, 0), (3, 0)]))) 2 0 (.inr (cs 0, 10, 0))) 0 0 (.inl (3, [(2, 1), (0, 0), (2, 2), (0, 0), (3, 0)]))) 3 0 (.inl (2, [(3, 0), (0, 0)]))) 4 0 (.inr (cs 3, 21, 2))) 3 0 (.inl (2, [(2, 4), (0, 0)]))) 21) (k := 0) (i := 0) (z := .inl (3, [(2, 1), (0, 0), (2, 2), (0, 0), (2, 3)])) a b y hy)
  exact nf_retvX (cells := 25) (slots := 234) hC hr hlk hM hk rfl rfl rfl rfl dX3_init_42
end ZO
