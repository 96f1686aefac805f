/-! create, join. -/
section ZC
variable {l : Launch} {D : va_G} {cs : Nat → ClassId} {Bs nn sz kc : Nat} {ad : nf_A} {I : nf_I} {J : nf_J} {mp : Nat → Nat}
def xs_n1 (nn : Nat) (b : Bool) : Nat := if b then nn + 1 else nn
def xs_crB (I : nf_I) (id : Int32) : Bool := if xs_isId id = false then false else if I 0 0 1 ≤ 0 then true else false
def xs_crI (I : nf_I) (nn : Nat) (id : Int32) : nf_I := if xs_crB I id = true then nf_iu (xs_anI I nn id) 5 nn 1 id else I
def xs_crJ (I : nf_I) (J : nf_J) (nn : Nat) (id : Int32) : nf_J := if xs_crB I id = true then xs_anJ J nn else J
def xs_jnB (I : nf_I) (nn : Nat) (id via : Int32) : Bool := if xs_isId id = false then false else match xs_node I nn id with
  | some _ => false
  | none => match xs_memb I nn via with
    | none => false
    | some _ => if 12 ≤ I 0 0 1 then false else if xs_full I = false then true else false
def xs_jnI (I : nf_I) (nn onw : Nat) (id via : Int32) : nf_I := if xs_jnB I nn id via = true then xs_fI (xs_anI I nn id) onw via id 1 id else I
def xs_jnJ (I : nf_I) (J : nf_J) (nn onw : Nat) (id via : Int32) : nf_J := if xs_jnB I nn id via = true then xs_sJ (xs_anJ J nn) onw else J
set_option maxHeartbeats 4000000 in
set_option maxRecDepth 100000 in
theorem ct_X3_create {id : Int32} (hn : I 0 0 1 = nI nn) (hnn : nn ≤ 12) : Met l yX3_create wsX3_create { frames := 5, cells := 3, slots := 25, locals := 128 } (va_Pc [.ref (ad 0 0), .int id] (fun U => nf_U D vwCl (xT cs) Bs (xS cs nn) ad (I, J, xP nn mp) U)) (va_Qi (fun (r : Int32) (w : nf_W) => r = nb_I (xs_crB I id) ∧ nf_pX (xS cs nn) ad (xS cs (xs_n1 nn (xs_crB I id))) (xs_crI I nn id) (xs_crJ I J nn id) (xP (xs_n1 nn (xs_crB I id)) mp) w) (nf_X D vwCl (xT cs) Bs) (fun q => Bs ≤ q)) 3 25 (fun q => Bs ≤ q) := by
  refine nf_enter (cc := cX3_create) (maxL := 3) (by decide) rfl (Nat.le_of_ble_eq_true rfl) ?_
  intro p e s m below meth c ls hF hr hlk hnm hU hl
  obtain ⟨hK, hM⟩ := hU
  obtain ⟨ar, har⟩ : ∃ z, z = ([.ref (ad 0 0), .int id] : List Value).toArray := ⟨_, rfl⟩
  rw [← har] at hF ⊢
  have hC : nf_C p m c cX3_create 3 s ar wsX3_create yX3_create.cls D vwCl (xT cs) := ⟨hF, hK⟩
  have hx := hC.1.1
  have hb := hC.1.2.1
  have hl : lv_has ls 3 [(0, .ref (ad 0 0)), (1, .int id)] := hl
  have hk : nf_kp (xS cs nn) ad ad := nf_kp.rf
  have hgr : ∀ (a b : Nat) (x : nf_O), (xS cs nn) a b = some x → ∃ y, (xS cs nn) a b = some y := fun a b x hx => ⟨x, hx⟩
  have hinX1 : ∀ w ∈ u_ws RX1 TX1 7, w ∈ wsX3_create := fun w h => List.mem_cons_of_mem _ (inX1 w h)
  have hinX3 : ∀ w ∈ u_ws RX3 TX3 5, w ∈ wsX3_create := fun w h => List.mem_cons_of_mem _ (inX3 w h)
  refine lv_iload_n (pc := 0) hx hb dX3_create_0 rfl (lv_at hl 1 rfl) ?_
  refine nf_calli (pc := 1) (va_runS (As := [.int id]) (rest := []) hC.1 (ct_X3_isId) (cwS 1 hC.1.2.2.2.2 (gd_S wM_X3_33 wst_X3_isId wini_X3 wcode_X3_isId) rfl rfl rfl (by decide +kernel) ⟨by decide, by decide⟩) (nf_preS hC hM) rfl rfl hl.1 rfl (lv_room (Nat.le_of_ble_eq_true rfl)) dX3_create_1 ⟨Nat.le_of_ble_eq_true rfl, Nat.le_of_ble_eq_true rfl⟩) hM (fun H locs hM => ?_)
  refine lv_if_eq (pc := 4) (tgt := 14) hx hb dX3_create_4 (by decide) (fun h1 => ?_) (fun h1 => ?_)
  · have h1 := nb_0 h1
    refine lv_iconst (pc := 14) (v := 0) hx hb dX3_create_14 (by decide) ?_
    have hB : xs_crB I id = false := by simp [xs_crB, h1]
    exact nf_retzX hC hr hlk hM hk (by rw [hB]; rfl) (by rw [xs_crI, hB]; rfl) (by rw [xs_crJ, hB]; rfl) (by rw [hB]; rfl) (by rw [hB]; rfl) (Nat.le_of_ble_eq_true rfl) (Nat.le_of_ble_eq_true rfl) dX3_create_15
  · have h1 := nb_1 h1
    refine lv_aload_n (pc := 7) hx hb dX3_create_7 rfl (lv_at hl 0 rfl) ?_
    refine nf_geti (pc := 8) hC hinX3 hM rfl rfl 1 (by decide) (List.mem_cons_of_mem _ wF_X3_15) rfl dX3_create_8 ?_
    refine lv_if_le (pc := 11) (tgt := 16) hx hb dX3_create_11 (by decide) (fun h2 => ?_) (fun h2 => ?_)
    · skip
      have hn12 : nn < 12 := by have := (nI_leI (by omega) (by decide)).mp (show nI nn ≤ nI 0 by rw [← hn]; exact h2); omega
      refine lv_aload_n (pc := 16) hx hb dX3_create_16 rfl (lv_at hl 0 rfl) ?_
      refine lv_iload_n (pc := 17) hx hb dX3_create_17 rfl (lv_at hl 1 rfl) ?_
      refine nf_callqX (pc := 18) (k := 5) (i := nn) (va_runV (As := [.int id]) (rest := []) hC.1 (ct_X3_addNode (id := id) hn hn12) (cwV 1 hC.1.2.2.2.2 (gd_V wM_X3_37 wi_X3_addNode wsel_X3_addNode wini_X3 wcode_X3_addNode) rfl rfl rfl (by decide +kernel) ⟨by decide, by decide⟩) (nf_preV hC hM rfl rfl) rfl rfl hl.1 rfl (lv_room (Nat.le_of_ble_eq_true rfl)) dX3_create_18 ⟨Nat.le_of_ble_eq_true rfl, Nat.le_of_ble_eq_true rfl⟩) hM (fun ad9 H locs hkc hM => ?_)
      have hre := (hkc 0 0 _ rfl).symm
      try rw [hre] at hl
      try rw [hre]
      have hk := nf_kp.tr hk hkc hgr
      refine lv_astore_n (pc := 21) (lv' := [(2, .ref (ad9 5 nn)), (0, .ref (ad9 0 0)), (1, .int id)]) hx hb dX3_create_21 rfl hl (by decide) rfl (fun ls hl => ?_)
      refine lv_aload_n (pc := 22) hx hb dX3_create_22 rfl (lv_at hl 0 rfl) ?_
      refine lv_iload_n (pc := 23) hx hb dX3_create_23 rfl (lv_at hl 2 rfl) ?_
      refine nf_puti (pc := 24) hC hinX1 tyX1 tyX1_ok nmX1 hM (xS_5 (nn := nn + 1) (Nat.lt_succ_self nn)) rfl 1 (by decide) (List.mem_cons_of_mem _ wF_X3_41) rfl (by decide +kernel) rfl dX3_create_24 (fun H locs hM => ?_)
      refine lv_iconst (pc := 27) (v := 1) hx hb dX3_create_27 (by decide) ?_
      have hB : xs_crB I id = true := by simp [xs_crB, h1, h2]
      exact nf_retzX hC hr hlk hM hk (by rw [hB]; rfl) (by rw [xs_crI, hB]; rfl) (by rw [xs_crJ, hB]; rfl) (by rw [hB]; rfl) (by rw [hB]; rfl) (Nat.le_of_ble_eq_true rfl) (Nat.le_of_ble_eq_true rfl) dX3_create_28
    · skip
      refine lv_iconst (pc := 14) (v := 0) hx hb dX3_create_14 (by decide) ?_
      have hB : xs_crB I id = false := by simp [xs_crB, h1, h2]
      exact nf_retzX hC hr hlk hM hk (by rw [hB]; rfl) (by rw [xs_crI, hB]; rfl) (by rw [xs_crJ, hB]; rfl) (by rw [hB]; rfl) (by rw [hB]; rfl) (Nat.le_of_ble_eq_true rfl) (Nat.le_of_ble_eq_true rfl) dX3_create_15
set_option maxHeartbeats 4000000 in
set_option maxRecDepth 100000 in
theorem ct_X3_join {id via : Int32} (hn : I 0 0 1 = nI nn) (hnn : nn ≤ 12) (hs : I 3 0 1 = nI sz) (hsz0 : sz ≤ 20) (hmp : ∀ j, j < 21 → mp j < 21) : Met l yX3_join wsX3_join { frames := 5, cells := 3, slots := 25, locals := 128 } (va_Pc [.ref (ad 0 0), .int id, .int via] (fun U => nf_U D vwCl (xT cs) Bs (xS cs nn) ad (I, J, xP nn mp) U)) (va_Qi (fun (r : Int32) (w : nf_W) => r = nb_I (xs_jnB I nn id via) ∧ nf_pX (xS cs nn) ad (xS cs (xs_n1 nn (xs_jnB I nn id via))) (xs_jnI I nn (mp sz) id via) (xs_jnJ I J nn (mp sz) id via) (xP (xs_n1 nn (xs_jnB I nn id via)) mp) w) (nf_X D vwCl (xT cs) Bs) (fun q => Bs ≤ q)) 3 25 (fun q => Bs ≤ q) := by
  refine nf_enter (cc := cX3_join) (maxL := 3) (by decide) rfl (Nat.le_of_ble_eq_true rfl) ?_
  intro p e s m below meth c ls hF hr hlk hnm hU hl
  obtain ⟨hK, hM⟩ := hU
  obtain ⟨ar, har⟩ : ∃ z, z = ([.ref (ad 0 0), .int id, .int via] : List Value).toArray := ⟨_, rfl⟩
  rw [← har] at hF ⊢
  have hC : nf_C p m c cX3_join 3 s ar wsX3_join yX3_join.cls D vwCl (xT cs) := ⟨hF, hK⟩
  have hx := hC.1.1
  have hb := hC.1.2.1
  have hl : lv_has ls 3 [(0, .ref (ad 0 0)), (1, .int id), (2, .int via)] := hl
  have hk : nf_kp (xS cs nn) ad ad := nf_kp.rf
  have hgr : ∀ (a b : Nat) (x : nf_O), (xS cs nn) a b = some x → ∃ y, (xS cs nn) a b = some y := fun a b x hx => ⟨x, hx⟩
  have hinX3 : ∀ w ∈ u_ws RX3 TX3 5, w ∈ wsX3_join := fun w h => List.mem_cons_of_mem _ (inX3 w h)
  refine lv_iload_n (pc := 0) hx hb dX3_join_0 rfl (lv_at hl 1 rfl) ?_
  refine nf_calli (pc := 1) (va_runS (As := [.int id]) (rest := []) hC.1 (ct_X3_isId) (cwS 1 hC.1.2.2.2.2 (gd_S wM_X3_33 wst_X3_isId wini_X3 wcode_X3_isId) rfl rfl rfl (by decide +kernel) ⟨by decide, by decide⟩) (nf_preS hC hM) rfl rfl hl.1 rfl (lv_room (Nat.le_of_ble_eq_true rfl)) dX3_join_1 ⟨Nat.le_of_ble_eq_true rfl, Nat.le_of_ble_eq_true rfl⟩) hM (fun H locs hM => ?_)
  refine lv_if_eq (pc := 4) (tgt := 23) hx hb dX3_join_4 (by decide) (fun h1 => ?_) (fun h1 => ?_)
  · have h1 := nb_0 h1
    refine lv_iconst (pc := 23) (v := 0) hx hb dX3_join_23 (by decide) ?_
    have hB : xs_jnB I nn id via = false := by simp [xs_jnB, h1]
    exact nf_retzX hC hr hlk hM hk (by rw [hB]; rfl) (by rw [xs_jnI, hB]; rfl) (by rw [xs_jnJ, hB]; rfl) (by rw [hB]; rfl) (by rw [hB]; rfl) (Nat.le_of_ble_eq_true rfl) (Nat.le_of_ble_eq_true rfl) dX3_join_24
  · have h1 := nb_1 h1
    refine lv_aload_n (pc := 7) hx hb dX3_join_7 rfl (lv_at hl 0 rfl) ?_
    refine lv_iload_n (pc := 8) hx hb dX3_join_8 rfl (lv_at hl 1 rfl) ?_
    refine nf_callq (pc := 9) (va_runV (As := [.int id]) (rest := []) hC.1 (ct_X3_nodeWith (id := id) hn hnn) (cwV 1 hC.1.2.2.2.2 (gd_V wM_X3_44 wi_X3_nodeWith wsel_X3_nodeWith wini_X3 wcode_X3_nodeWith) rfl rfl rfl (by decide +kernel) ⟨by decide, by decide⟩) (nf_preV hC hM rfl rfl) rfl rfl hl.1 rfl (lv_room (Nat.le_of_ble_eq_true rfl)) dX3_join_9 ⟨Nat.le_of_ble_eq_true rfl, Nat.le_of_ble_eq_true rfl⟩) hM (fun H locs hM => ?_)
    cases hq2 : xs_node I nn id with
    | none =>
      simp only [hq2, Option.map_none, va_rf]
      refine lv_ifnonnullN (pc := 12) hx hb dX3_join_12 ?_
      refine lv_aload_n (pc := 15) hx hb dX3_join_15 rfl (lv_at hl 0 rfl) ?_
      refine lv_iload_n (pc := 16) hx hb dX3_join_16 rfl (lv_at hl 2 rfl) ?_
      refine nf_callq (pc := 17) (va_runV (As := [.int via]) (rest := []) hC.1 (ct_X3_memberWith (id := via) hn hnn) (cwV 1 hC.1.2.2.2.2 (gd_V wM_X3_47 wi_X3_memberWith wsel_X3_memberWith wini_X3 wcode_X3_memberWith) rfl rfl rfl (by decide +kernel) ⟨by decide, by decide⟩) (nf_preV hC hM rfl rfl) rfl rfl hl.1 rfl (lv_room (Nat.le_of_ble_eq_true rfl)) dX3_join_17 ⟨Nat.le_of_ble_eq_true rfl, Nat.le_of_ble_eq_true rfl⟩) hM (fun H locs hM => ?_)
      cases hq4 : xs_memb I nn via with
      | none =>
        simp only [hq4, Option.map_none, va_rf]
        refine lv_ifnonnullN (pc := 20) hx hb dX3_join_20 ?_
        refine lv_iconst (pc := 23) (v := 0) hx hb dX3_join_23 (by decide) ?_
        have hB : xs_jnB I nn id via = false := by simp [xs_jnB, h1, hq2, hq4]
        exact nf_retzX hC hr hlk hM hk (by rw [hB]; rfl) (by rw [xs_jnI, hB]; rfl) (by rw [xs_jnJ, hB]; rfl) (by rw [hB]; rfl) (by rw [hB]; rfl) (Nat.le_of_ble_eq_true rfl) (Nat.le_of_ble_eq_true rfl) dX3_join_24
      | some i5 =>
        simp only [hq4, Option.map_some, va_rf]
        have hq4l := xs_memb_lt hq4
        refine lv_ifnonnull (pc := 20) (tgt := 25) hx hb dX3_join_20 (by decide) ?_
        refine lv_aload_n (pc := 25) hx hb dX3_join_25 rfl (lv_at hl 0 rfl) ?_
        refine nf_geti (pc := 26) hC hinX3 hM rfl rfl 1 (by decide) (List.mem_cons_of_mem _ wF_X3_15) rfl dX3_join_26 ?_
        refine lv_bipush (pc := 29) (v := 12) hx hb dX3_join_29 (by decide) ?_
        refine lv_icmp_ge (pc := 31) (tgt := 44) hx hb dX3_join_31 (by decide) (fun h6 => ?_) (fun h6 => ?_)
        · skip
          refine lv_iconst (pc := 44) (v := 0) hx hb dX3_join_44 (by decide) ?_
          have hB : xs_jnB I nn id via = false := by simp [xs_jnB, h1, hq2, hq4, h6]
          exact nf_retzX hC hr hlk hM hk (by rw [hB]; rfl) (by rw [xs_jnI, hB]; rfl) (by rw [xs_jnJ, hB]; rfl) (by rw [hB]; rfl) (by rw [hB]; rfl) (Nat.le_of_ble_eq_true rfl) (Nat.le_of_ble_eq_true rfl) dX3_join_45
        · skip
          refine lv_aload_n (pc := 34) hx hb dX3_join_34 rfl (lv_at hl 0 rfl) ?_
          refine nf_getr (pc := 35) hC hinX3 hM rfl rfl 4 (by decide) (List.mem_cons_of_mem _ wF_X3_29) rfl dX3_join_35 ?_
          refine nf_calli (pc := 38) (va_runV (As := []) (rest := []) hC.1 (ct_X2_isFull) (cwV 0 hC.1.2.2.2.2 (gd_V wM_X3_50 wi_X2_isFull wsel_X2_isFull wini_X2 wcode_X2_isFull) rfl rfl rfl (by decide +kernel) ⟨by decide, by decide⟩) (nf_preV hC hM rfl rfl) rfl rfl hl.1 rfl (lv_room (Nat.le_of_ble_eq_true rfl)) dX3_join_38 ⟨Nat.le_of_ble_eq_true rfl, Nat.le_of_ble_eq_true rfl⟩) hM (fun H locs hM => ?_)
          refine lv_if_eq (pc := 41) (tgt := 46) hx hb dX3_join_41 (by decide) (fun h7 => ?_) (fun h7 => ?_)
          · have h7 := nb_0 h7
            have hn12 : nn < 12 := Nat.lt_of_not_le (fun z => h6 (by rw [hn]; exact (nI_leI (by decide) (by omega)).mpr z))
            have hsz : sz < 20 := xs_full_n hs (by omega) h7
            have hon := hmp sz (by omega)
            refine lv_aload_n (pc := 46) hx hb dX3_join_46 rfl (lv_at hl 0 rfl) ?_
            refine lv_iload_n (pc := 47) hx hb dX3_join_47 rfl (lv_at hl 1 rfl) ?_
            refine nf_callqX (pc := 48) (k := 5) (i := nn) (va_runV (As := [.int id]) (rest := []) hC.1 (ct_X3_addNode (id := id) hn hn12) (cwV 1 hC.1.2.2.2.2 (gd_V wM_X3_37 wi_X3_addNode wsel_X3_addNode wini_X3 wcode_X3_addNode) rfl rfl rfl (by decide +kernel) ⟨by decide, by decide⟩) (nf_preV hC hM rfl rfl) rfl rfl hl.1 rfl (lv_room (Nat.le_of_ble_eq_true rfl)) dX3_join_48 ⟨Nat.le_of_ble_eq_true rfl, Nat.le_of_ble_eq_true rfl⟩) hM (fun ad9 H locs hkc hM => ?_)
            have hre := (hkc 0 0 _ rfl).symm
            try rw [hre] at hl
            try rw [hre]
            have hk := nf_kp.tr hk hkc hgr
            refine lv_pop (pc := 51) hx hb dX3_join_51 rfl ?_
            refine lv_aload_n (pc := 52) hx hb dX3_join_52 rfl (lv_at hl 0 rfl) ?_
            refine lv_iload_n (pc := 53) hx hb dX3_join_53 rfl (lv_at hl 2 rfl) ?_
            refine lv_iload_n (pc := 54) hx hb dX3_join_54 rfl (lv_at hl 1 rfl) ?_
            refine lv_iconst (pc := 55) (v := 1) hx hb dX3_join_55 (by decide) ?_
            refine lv_iload_n (pc := 56) hx hb dX3_join_56 rfl (lv_at hl 1 rfl) ?_
            refine nf_callq (pc := 57) (va_runV (As := [.int via, .int id, .int 1, .int id]) (rest := []) hC.1 (ct_X3_sendFind (tz := via) (ak := id) (pu := 1) (ky := id) (sz := sz) (by simpa [xs_anI, xs_ndI, nf_iu, nf_if, nf_iz] using hs) hsz hmp) (cwV 4 hC.1.2.2.2.2 (gd_V wM_X3_54 wi_X3_sendFind wsel_X3_sendFind wini_X3 wcode_X3_sendFind) rfl rfl rfl (by decide +kernel) ⟨by decide, by decide⟩) (nf_preV hC hM rfl rfl) rfl rfl hl.1 rfl (lv_room (Nat.le_of_ble_eq_true rfl)) dX3_join_57 ⟨Nat.le_of_ble_eq_true rfl, Nat.le_of_ble_eq_true rfl⟩) hM (fun H locs hM => ?_)
            refine W.eq (g2 := F0 m 60 ls [.ref (ad9 8 (mp sz))]) rfl ?_
            refine lv_pop (pc := 60) hx hb dX3_join_60 rfl ?_
            refine lv_iconst (pc := 61) (v := 1) hx hb dX3_join_61 (by decide) ?_
            have hB : xs_jnB I nn id via = true := by simp [xs_jnB, h1, hq2, hq4, h6, h7]
            exact nf_retzX hC hr hlk hM hk (by rw [hB]; rfl) (by rw [xs_jnI, hB]; rfl) (by rw [xs_jnJ, hB]; rfl) (by rw [hB]; rfl) (by rw [hB]; rfl) (Nat.le_of_ble_eq_true rfl) (Nat.le_of_ble_eq_true rfl) dX3_join_62
          · have h7 := nb_1 h7
            refine lv_iconst (pc := 44) (v := 0) hx hb dX3_join_44 (by decide) ?_
            have hB : xs_jnB I nn id via = false := by simp [xs_jnB, h1, hq2, hq4, h6, h7]
            exact nf_retzX hC hr hlk hM hk (by rw [hB]; rfl) (by rw [xs_jnI, hB]; rfl) (by rw [xs_jnJ, hB]; rfl) (by rw [hB]; rfl) (by rw [hB]; rfl) (Nat.le_of_ble_eq_true rfl) (Nat.le_of_ble_eq_true rfl) dX3_join_45
    | some i3 =>
      simp only [hq2, Option.map_some, va_rf]
      have hq2l := xs_node_lt hq2
      refine lv_ifnonnull (pc := 12) (tgt := 23) hx hb dX3_join_12 (by decide) ?_
      refine lv_iconst (pc := 23) (v := 0) hx hb dX3_join_23 (by decide) ?_
      have hB : xs_jnB I nn id via = false := by simp [xs_jnB, h1, hq2]
      exact nf_retzX hC hr hlk hM hk (by rw [hB]; rfl) (by rw [xs_jnI, hB]; rfl) (by rw [xs_jnJ, hB]; rfl) (by rw [hB]; rfl) (by rw [hB]; rfl) (Nat.le_of_ble_eq_true rfl) (Nat.le_of_ble_eq_true rfl) dX3_join_24
end ZC
