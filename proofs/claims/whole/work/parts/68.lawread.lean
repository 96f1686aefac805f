/-! The law: the cases that read. -/
section ZL
variable {p : Program} {l : Launch} {e : Env} {s : State} {m : MethodId} {below : List Frame} {meth : Method} {c : Code} {H : Heap} {locs : List Loc} {cells slots : Nat} {Q : State → Prop}
variable {ls : Array Slot} {D : va_G} {cs : Nat → ClassId} {b L t : Nat} {xs : Nat → Int32} {ad : nf_A} {I : nf_I} {J : nf_J} {mp : Nat → Nat} {nn kc sz kp : Nat} {dd : Nat → Nat}
set_option maxHeartbeats 4000000 in
set_option maxRecDepth 100000 in
theorem lc_flying (hC : nf_C p m c cL_law 4 s #[Value.ref b] (Cond.initialized RL :: wT) RL D vwCl (xT cs)) (hX : va_X b L xs s s.heap) (hbl : b < s.heap.size) (hL : L ≤ 2048) (ht : 4 * t + 4 ≤ L) (hcl : cells + 3 ≤ room_1.cells) (hsl : slots + 25 ≤ room_1.slots) (hM : nf_M D vwCl s.heap.size (xS cs nn) ad I J (xP nn mp) s.heap H locs) (hr : rl_all I J mp I J nn kc sz kp dd) (hl : lv_has ls 4 (lw_L b ad t)) (kk : lw_K p l e s m below meth c cs D b t cells slots Q) : W p l e room_1 s m #[Value.ref b] below meth c H locs cells slots Q (F0 m 362 ls []) := by
  have hx := hC.1.1
  have hb := hC.1.2.1
  have hts := hC.1.2.2.2.2
  have ⟨⟨hnn, hkc, hsz, hkp⟩, hn, hk, hs, u0, u7, u11, u13⟩ := hr.1
  have hmp := hr.2.1.1
  refine lv_aload_n (pc := 362) hx hb dL_law_362 rfl (lv_at hl 1 rfl) ?_
  refine nf_calli (pc := 363) (va_runV (As := []) (rest := []) hC.1 (ct_X3_flying  ) (cwV 0 hts (gd_V wM_L_49 wi_X3_flying wsel_X3_flying wini_X3 wcode_X3_flying) rfl rfl rfl (by decide +kernel) ⟨by decide, by decide⟩) (nf_preV hC hM rfl rfl) rfl rfl hl.1 rfl (lv_room (Nat.le_of_ble_eq_true rfl)) dL_law_363 ⟨Nat.le_trans (Nat.le_add_right _ _) hcl, Nat.le_trans (Nat.le_add_right _ _) hsl⟩) hM (fun H locs hM => ?_)
  refine lv_aload_n (pc := 366) hx hb dL_law_366 rfl (lv_at hl 2 rfl) ?_
  refine nf_calli (pc := 367) (va_runV (As := []) (rest := [.int _]) hC.1 (ct_X4_flying  ) (cwV 0 hts (gd_V wM_L_53 wi_X4_flying wsel_X4_flying wini_X4 wcode_X4_flying) rfl rfl rfl (by decide +kernel) ⟨by decide, by decide⟩) (nf_preV hC hM rfl rfl) rfl rfl hl.1 rfl (lv_room (Nat.le_of_ble_eq_true rfl)) dL_law_367 ⟨Nat.le_trans (Nat.le_add_right _ _) hcl, Nat.le_trans (Nat.le_add_right _ _) hsl⟩) hM (fun H locs hM => ?_)
  refine lv_icmp_eq (pc := 370) (tgt := 630) hx hb dL_law_370 (by decide) (fun _ => ?_) (fun h => absurd ((hs.trans u13.symm)) h)
  exact W.widen (Nat.le_add_right _ _) (Nat.le_add_right _ _) (kk _ _ _ ⟨ad, I, J, mp, nn, kc, sz, kp, dd, hM, hr, hl⟩)
set_option maxHeartbeats 4000000 in
set_option maxRecDepth 100000 in
theorem lc_message (hC : nf_C p m c cL_law 4 s #[Value.ref b] (Cond.initialized RL :: wT) RL D vwCl (xT cs)) (hX : va_X b L xs s s.heap) (hbl : b < s.heap.size) (hL : L ≤ 2048) (ht : 4 * t + 4 ≤ L) (hcl : cells + 3 ≤ room_1.cells) (hsl : slots + 25 ≤ room_1.slots) (hM : nf_M D vwCl s.heap.size (xS cs nn) ad I J (xP nn mp) s.heap H locs) (hr : rl_all I J mp I J nn kc sz kp dd) (hl : lv_has ls 4 (lw_L b ad t)) (kk : lw_K p l e s m below meth c cs D b t cells slots Q) : W p l e room_1 s m #[Value.ref b] below meth c H locs cells slots Q (F0 m 375 ls []) := by
  have hx := hC.1.1
  have hb := hC.1.2.1
  have hts := hC.1.2.2.2.2
  have ⟨⟨hnn, hkc, hsz, hkp⟩, hn, hk, hs, u0, u7, u11, u13⟩ := hr.1
  have hmp := hr.2.1.1
  refine lv_aload_n (pc := 375) hx hb dL_law_375 rfl (lv_at hl 1 rfl) ?_
  refine lr_arg (pc := 376) (j := 1) hx hb hX hbl hM hl ht hL (by decide) rfl dL_law_376 dL_law_377 dL_law_378 dL_law_379 dL_law_380 ?_
  refine nf_calli (pc := 381) (va_runV (As := [.int (xs (4 * t + 1))]) (rest := []) hC.1 (ct_X3_message (k := (xs (4 * t + 1))) hs hsz hmp) (cwV 1 hts (gd_V wM_L_54 wi_X3_message wsel_X3_message wini_X3 wcode_X3_message) rfl rfl rfl (by decide +kernel) ⟨by decide, by decide⟩) (nf_preV hC hM rfl rfl) rfl rfl hl.1 rfl (lv_room (Nat.le_of_ble_eq_true rfl)) dL_law_381 ⟨Nat.le_trans (Nat.le_add_right _ _) hcl, Nat.le_trans (Nat.le_add_right _ _) hsl⟩) hM (fun H locs hM => ?_)
  refine lv_aload_n (pc := 384) hx hb dL_law_384 rfl (lv_at hl 2 rfl) ?_
  refine lr_arg (pc := 385) (j := 1) hx hb hX hbl hM hl ht hL (by decide) rfl dL_law_385 dL_law_386 dL_law_387 dL_law_388 dL_law_389 ?_
  refine nf_calli (pc := 390) (va_runV (As := [.int (xs (4 * t + 1))]) (rest := [.int _]) hC.1 (ct_X4_message (k := (xs (4 * t + 1))) u13 hsz) (cwV 1 hts (gd_V wM_L_57 wi_X4_message wsel_X4_message wini_X4 wcode_X4_message) rfl rfl rfl (by decide +kernel) ⟨by decide, by decide⟩) (nf_preV hC hM rfl rfl) rfl rfl hl.1 rfl (lv_room (Nat.le_of_ble_eq_true rfl)) dL_law_390 ⟨Nat.le_trans (Nat.le_add_right _ _) hcl, Nat.le_trans (Nat.le_add_right _ _) hsl⟩) hM (fun H locs hM => ?_)
  refine lv_icmp_eq (pc := 393) (tgt := 630) hx hb dL_law_393 (by decide) (fun _ => ?_) (fun h => absurd ((rr_msg hr (xs (4 * t + 1)))) h)
  exact W.widen (Nat.le_add_right _ _) (Nat.le_add_right _ _) (kk _ _ _ ⟨ad, I, J, mp, nn, kc, sz, kp, dd, hM, hr, hl⟩)
set_option maxHeartbeats 4000000 in
set_option maxRecDepth 100000 in
theorem lc_successor (hC : nf_C p m c cL_law 4 s #[Value.ref b] (Cond.initialized RL :: wT) RL D vwCl (xT cs)) (hX : va_X b L xs s s.heap) (hbl : b < s.heap.size) (hL : L ≤ 2048) (ht : 4 * t + 4 ≤ L) (hcl : cells + 3 ≤ room_1.cells) (hsl : slots + 25 ≤ room_1.slots) (hM : nf_M D vwCl s.heap.size (xS cs nn) ad I J (xP nn mp) s.heap H locs) (hr : rl_all I J mp I J nn kc sz kp dd) (hl : lv_has ls 4 (lw_L b ad t)) (kk : lw_K p l e s m below meth c cs D b t cells slots Q) : W p l e room_1 s m #[Value.ref b] below meth c H locs cells slots Q (F0 m 398 ls []) := by
  have hx := hC.1.1
  have hb := hC.1.2.1
  have hts := hC.1.2.2.2.2
  have ⟨⟨hnn, hkc, hsz, hkp⟩, hn, hk, hs, u0, u7, u11, u13⟩ := hr.1
  have hmp := hr.2.1.1
  refine lv_aload_n (pc := 398) hx hb dL_law_398 rfl (lv_at hl 1 rfl) ?_
  refine lr_arg (pc := 399) (j := 1) hx hb hX hbl hM hl ht hL (by decide) rfl dL_law_399 dL_law_400 dL_law_401 dL_law_402 dL_law_403 ?_
  refine nf_calli (pc := 404) (va_runV (As := [.int (xs (4 * t + 1))]) (rest := []) hC.1 (ct_X3_successor (id := (xs (4 * t + 1))) hn hnn) (cwV 1 hts (gd_V wM_L_58 wi_X3_successor wsel_X3_successor wini_X3 wcode_X3_successor) rfl rfl rfl (by decide +kernel) ⟨by decide, by decide⟩) (nf_preV hC hM rfl rfl) rfl rfl hl.1 rfl (lv_room (Nat.le_of_ble_eq_true rfl)) dL_law_404 ⟨Nat.le_trans (Nat.le_add_right _ _) hcl, Nat.le_trans (Nat.le_add_right _ _) hsl⟩) hM (fun H locs hM => ?_)
  refine lv_aload_n (pc := 407) hx hb dL_law_407 rfl (lv_at hl 2 rfl) ?_
  refine lr_arg (pc := 408) (j := 1) hx hb hX hbl hM hl ht hL (by decide) rfl dL_law_408 dL_law_409 dL_law_410 dL_law_411 dL_law_412 ?_
  refine nf_calli (pc := 413) (va_runV (As := [.int (xs (4 * t + 1))]) (rest := [.int _]) hC.1 (ct_X4_successor (id := (xs (4 * t + 1))) ) (cwV 1 hts (gd_V wM_L_61 wi_X4_successor wsel_X4_successor wini_X4 wcode_X4_successor) rfl rfl rfl (by decide +kernel) ⟨by decide, by decide⟩) (nf_preV hC hM rfl rfl) rfl rfl hl.1 rfl (lv_room (Nat.le_of_ble_eq_true rfl)) dL_law_413 ⟨Nat.le_trans (Nat.le_add_right _ _) hcl, Nat.le_trans (Nat.le_add_right _ _) hsl⟩) hM (fun H locs hM => ?_)
  refine lv_icmp_eq (pc := 416) (tgt := 630) hx hb dL_law_416 (by decide) (fun _ => ?_) (fun h => absurd ((rr_rd1 hr (xs (4 * t + 1)))) h)
  exact W.widen (Nat.le_add_right _ _) (Nat.le_add_right _ _) (kk _ _ _ ⟨ad, I, J, mp, nn, kc, sz, kp, dd, hM, hr, hl⟩)
set_option maxHeartbeats 4000000 in
set_option maxRecDepth 100000 in
theorem lc_predecessor (hC : nf_C p m c cL_law 4 s #[Value.ref b] (Cond.initialized RL :: wT) RL D vwCl (xT cs)) (hX : va_X b L xs s s.heap) (hbl : b < s.heap.size) (hL : L ≤ 2048) (ht : 4 * t + 4 ≤ L) (hcl : cells + 3 ≤ room_1.cells) (hsl : slots + 25 ≤ room_1.slots) (hM : nf_M D vwCl s.heap.size (xS cs nn) ad I J (xP nn mp) s.heap H locs) (hr : rl_all I J mp I J nn kc sz kp dd) (hl : lv_has ls 4 (lw_L b ad t)) (kk : lw_K p l e s m below meth c cs D b t cells slots Q) : W p l e room_1 s m #[Value.ref b] below meth c H locs cells slots Q (F0 m 421 ls []) := by
  have hx := hC.1.1
  have hb := hC.1.2.1
  have hts := hC.1.2.2.2.2
  have ⟨⟨hnn, hkc, hsz, hkp⟩, hn, hk, hs, u0, u7, u11, u13⟩ := hr.1
  have hmp := hr.2.1.1
  refine lv_aload_n (pc := 421) hx hb dL_law_421 rfl (lv_at hl 1 rfl) ?_
  refine lr_arg (pc := 422) (j := 1) hx hb hX hbl hM hl ht hL (by decide) rfl dL_law_422 dL_law_423 dL_law_424 dL_law_425 dL_law_426 ?_
  refine nf_calli (pc := 427) (va_runV (As := [.int (xs (4 * t + 1))]) (rest := []) hC.1 (ct_X3_predecessor (id := (xs (4 * t + 1))) hn hnn) (cwV 1 hts (gd_V wM_L_62 wi_X3_predecessor wsel_X3_predecessor wini_X3 wcode_X3_predecessor) rfl rfl rfl (by decide +kernel) ⟨by decide, by decide⟩) (nf_preV hC hM rfl rfl) rfl rfl hl.1 rfl (lv_room (Nat.le_of_ble_eq_true rfl)) dL_law_427 ⟨Nat.le_trans (Nat.le_add_right _ _) hcl, Nat.le_trans (Nat.le_add_right _ _) hsl⟩) hM (fun H locs hM => ?_)
  refine lv_aload_n (pc := 430) hx hb dL_law_430 rfl (lv_at hl 2 rfl) ?_
  refine lr_arg (pc := 431) (j := 1) hx hb hX hbl hM hl ht hL (by decide) rfl dL_law_431 dL_law_432 dL_law_433 dL_law_434 dL_law_435 ?_
  refine nf_calli (pc := 436) (va_runV (As := [.int (xs (4 * t + 1))]) (rest := [.int _]) hC.1 (ct_X4_predecessor (id := (xs (4 * t + 1))) ) (cwV 1 hts (gd_V wM_L_65 wi_X4_predecessor wsel_X4_predecessor wini_X4 wcode_X4_predecessor) rfl rfl rfl (by decide +kernel) ⟨by decide, by decide⟩) (nf_preV hC hM rfl rfl) rfl rfl hl.1 rfl (lv_room (Nat.le_of_ble_eq_true rfl)) dL_law_436 ⟨Nat.le_trans (Nat.le_add_right _ _) hcl, Nat.le_trans (Nat.le_add_right _ _) hsl⟩) hM (fun H locs hM => ?_)
  refine lv_icmp_eq (pc := 439) (tgt := 630) hx hb dL_law_439 (by decide) (fun _ => ?_) (fun h => absurd ((rr_rd2 hr (xs (4 * t + 1)))) h)
  exact W.widen (Nat.le_add_right _ _) (Nat.le_add_right _ _) (kk _ _ _ ⟨ad, I, J, mp, nn, kc, sz, kp, dd, hM, hr, hl⟩)
set_option maxHeartbeats 4000000 in
set_option maxRecDepth 100000 in
theorem lc_finger (hC : nf_C p m c cL_law 4 s #[Value.ref b] (Cond.initialized RL :: wT) RL D vwCl (xT cs)) (hX : va_X b L xs s s.heap) (hbl : b < s.heap.size) (hL : L ≤ 2048) (ht : 4 * t + 4 ≤ L) (hcl : cells + 3 ≤ room_1.cells) (hsl : slots + 25 ≤ room_1.slots) (hM : nf_M D vwCl s.heap.size (xS cs nn) ad I J (xP nn mp) s.heap H locs) (hr : rl_all I J mp I J nn kc sz kp dd) (hl : lv_has ls 4 (lw_L b ad t)) (kk : lw_K p l e s m below meth c cs D b t cells slots Q) : W p l e room_1 s m #[Value.ref b] below meth c H locs cells slots Q (F0 m 444 ls []) := by
  have hx := hC.1.1
  have hb := hC.1.2.1
  have hts := hC.1.2.2.2.2
  have ⟨⟨hnn, hkc, hsz, hkp⟩, hn, hk, hs, u0, u7, u11, u13⟩ := hr.1
  have hmp := hr.2.1.1
  refine lv_aload_n (pc := 444) hx hb dL_law_444 rfl (lv_at hl 1 rfl) ?_
  refine lr_arg (pc := 445) (j := 1) hx hb hX hbl hM hl ht hL (by decide) rfl dL_law_445 dL_law_446 dL_law_447 dL_law_448 dL_law_449 ?_
  refine lr_arg (pc := 450) (j := 2) hx hb hX hbl hM hl ht hL (by decide) rfl dL_law_450 dL_law_451 dL_law_452 dL_law_453 dL_law_454 ?_
  refine nf_calli (pc := 455) (va_runV (As := [.int (xs (4 * t + 1)), .int (xs (4 * t + 2))]) (rest := []) hC.1 (ct_X3_finger (id := (xs (4 * t + 1))) (j := (xs (4 * t + 2))) hn hnn) (cwV 2 hts (gd_V wM_L_66 wi_X3_finger wsel_X3_finger wini_X3 wcode_X3_finger) rfl rfl rfl (by decide +kernel) ⟨by decide, by decide⟩) (nf_preV hC hM rfl rfl) rfl rfl hl.1 rfl (lv_room (Nat.le_of_ble_eq_true rfl)) dL_law_455 ⟨Nat.le_trans (Nat.le_add_right _ _) hcl, Nat.le_trans (Nat.le_add_right _ _) hsl⟩) hM (fun H locs hM => ?_)
  refine lv_aload_n (pc := 458) hx hb dL_law_458 rfl (lv_at hl 2 rfl) ?_
  refine lr_arg (pc := 459) (j := 1) hx hb hX hbl hM hl ht hL (by decide) rfl dL_law_459 dL_law_460 dL_law_461 dL_law_462 dL_law_463 ?_
  refine lr_arg (pc := 464) (j := 2) hx hb hX hbl hM hl ht hL (by decide) rfl dL_law_464 dL_law_465 dL_law_466 dL_law_467 dL_law_468 ?_
  refine nf_calli (pc := 469) (va_runV (As := [.int (xs (4 * t + 1)), .int (xs (4 * t + 2))]) (rest := [.int _]) hC.1 (ct_X4_finger (id := (xs (4 * t + 1))) (j := (xs (4 * t + 2))) ) (cwV 2 hts (gd_V wM_L_70 wi_X4_finger wsel_X4_finger wini_X4 wcode_X4_finger) rfl rfl rfl (by decide +kernel) ⟨by decide, by decide⟩) (nf_preV hC hM rfl rfl) rfl rfl hl.1 rfl (lv_room (Nat.le_of_ble_eq_true rfl)) dL_law_469 ⟨Nat.le_trans (Nat.le_add_right _ _) hcl, Nat.le_trans (Nat.le_add_right _ _) hsl⟩) hM (fun H locs hM => ?_)
  refine lv_icmp_eq (pc := 472) (tgt := 630) hx hb dL_law_472 (by decide) (fun _ => ?_) (fun h => absurd ((rr_fgr hr (xs (4 * t + 1)) (xs (4 * t + 2)))) h)
  exact W.widen (Nat.le_add_right _ _) (Nat.le_add_right _ _) (kk _ _ _ ⟨ad, I, J, mp, nn, kc, sz, kp, dd, hM, hr, hl⟩)
set_option maxHeartbeats 4000000 in
set_option maxRecDepth 100000 in
theorem lc_entry (hC : nf_C p m c cL_law 4 s #[Value.ref b] (Cond.initialized RL :: wT) RL D vwCl (xT cs)) (hX : va_X b L xs s s.heap) (hbl : b < s.heap.size) (hL : L ≤ 2048) (ht : 4 * t + 4 ≤ L) (hcl : cells + 3 ≤ room_1.cells) (hsl : slots + 25 ≤ room_1.slots) (hM : nf_M D vwCl s.heap.size (xS cs nn) ad I J (xP nn mp) s.heap H locs) (hr : rl_all I J mp I J nn kc sz kp dd) (hl : lv_has ls 4 (lw_L b ad t)) (kk : lw_K p l e s m below meth c cs D b t cells slots Q) : W p l e room_1 s m #[Value.ref b] below meth c H locs cells slots Q (F0 m 477 ls []) := by
  have hx := hC.1.1
  have hb := hC.1.2.1
  have hts := hC.1.2.2.2.2
  have ⟨⟨hnn, hkc, hsz, hkp⟩, hn, hk, hs, u0, u7, u11, u13⟩ := hr.1
  have hmp := hr.2.1.1
  refine lv_aload_n (pc := 477) hx hb dL_law_477 rfl (lv_at hl 1 rfl) ?_
  refine lr_arg (pc := 478) (j := 1) hx hb hX hbl hM hl ht hL (by decide) rfl dL_law_478 dL_law_479 dL_law_480 dL_law_481 dL_law_482 ?_
  refine lr_arg (pc := 483) (j := 2) hx hb hX hbl hM hl ht hL (by decide) rfl dL_law_483 dL_law_484 dL_law_485 dL_law_486 dL_law_487 ?_
  refine nf_calll (pc := 488) (va_runV (As := [.int (xs (4 * t + 1)), .int (xs (4 * t + 2))]) (rest := []) hC.1 (ct_X3_entry (id := (xs (4 * t + 1))) (key := (xs (4 * t + 2))) hn hnn hk hkc) (cwV 2 hts (gd_V wM_L_71 wi_X3_entry wsel_X3_entry wini_X3 wcode_X3_entry) rfl rfl rfl (by decide +kernel) ⟨by decide, by decide⟩) (nf_preV hC hM rfl rfl) rfl rfl hl.1 rfl (lv_room (Nat.le_of_ble_eq_true rfl)) dL_law_488 ⟨Nat.le_trans (Nat.le_add_right _ _) hcl, Nat.le_trans (Nat.le_add_right _ _) hsl⟩) hM (fun H locs hM => ?_)
  refine lv_aload_n (pc := 491) hx hb dL_law_491 rfl (lv_at hl 2 rfl) ?_
  refine lr_arg (pc := 492) (j := 1) hx hb hX hbl hM hl ht hL (by decide) rfl dL_law_492 dL_law_493 dL_law_494 dL_law_495 dL_law_496 ?_
  refine lr_arg (pc := 497) (j := 2) hx hb hX hbl hM hl ht hL (by decide) rfl dL_law_497 dL_law_498 dL_law_499 dL_law_500 dL_law_501 ?_
  refine nf_calll (pc := 502) (va_runV (As := [.int (xs (4 * t + 1)), .int (xs (4 * t + 2))]) (rest := [.long _]) hC.1 (ct_X4_entry (id := (xs (4 * t + 1))) (wd := (xs (4 * t + 2))) u7 hkp) (cwV 2 hts (gd_V wM_L_75 wi_X4_entry wsel_X4_entry wini_X4 wcode_X4_entry) rfl rfl rfl (by decide +kernel) ⟨by decide, by decide⟩) (nf_preV hC hM rfl rfl) rfl rfl hl.1 rfl (lv_room (Nat.le_of_ble_eq_true rfl)) dL_law_502 ⟨Nat.le_trans (Nat.le_add_right _ _) hcl, Nat.le_trans (Nat.le_add_right _ _) hsl⟩) hM (fun H locs hM => ?_)
  rw [(rr_ety hr (xs (4 * t + 1)) (xs (4 * t + 2)))]
  refine W.lcmp (pc := 505) hx hb dL_law_505 ?_
  refine lv_if_eq (pc := 506) (tgt := 630) hx hb dL_law_506 (by decide) (fun _ => ?_) (fun h => (h ((lg_0 _ _).mpr rfl)).elim)
  exact W.widen (Nat.le_add_right _ _) (Nat.le_add_right _ _) (kk _ _ _ ⟨ad, I, J, mp, nn, kc, sz, kp, dd, hM, hr, hl⟩)
set_option maxHeartbeats 4000000 in
set_option maxRecDepth 100000 in
theorem lc_entries (hC : nf_C p m c cL_law 4 s #[Value.ref b] (Cond.initialized RL :: wT) RL D vwCl (xT cs)) (hX : va_X b L xs s s.heap) (hbl : b < s.heap.size) (hL : L ≤ 2048) (ht : 4 * t + 4 ≤ L) (hcl : cells + 3 ≤ room_1.cells) (hsl : slots + 25 ≤ room_1.slots) (hM : nf_M D vwCl s.heap.size (xS cs nn) ad I J (xP nn mp) s.heap H locs) (hr : rl_all I J mp I J nn kc sz kp dd) (hl : lv_has ls 4 (lw_L b ad t)) (kk : lw_K p l e s m below meth c cs D b t cells slots Q) : W p l e room_1 s m #[Value.ref b] below meth c H locs cells slots Q (F0 m 511 ls []) := by
  have hx := hC.1.1
  have hb := hC.1.2.1
  have hts := hC.1.2.2.2.2
  have ⟨⟨hnn, hkc, hsz, hkp⟩, hn, hk, hs, u0, u7, u11, u13⟩ := hr.1
  have hmp := hr.2.1.1
  refine lv_aload_n (pc := 511) hx hb dL_law_511 rfl (lv_at hl 1 rfl) ?_
  refine lr_arg (pc := 512) (j := 1) hx hb hX hbl hM hl ht hL (by decide) rfl dL_law_512 dL_law_513 dL_law_514 dL_law_515 dL_law_516 ?_
  refine nf_calli (pc := 517) (va_runV (As := [.int (xs (4 * t + 1))]) (rest := []) hC.1 (ct_X3_entries (id := (xs (4 * t + 1))) hn hnn) (cwV 1 hts (gd_V wM_L_76 wi_X3_entries wsel_X3_entries wini_X3 wcode_X3_entries) rfl rfl rfl (by decide +kernel) ⟨by decide, by decide⟩) (nf_preV hC hM rfl rfl) rfl rfl hl.1 rfl (lv_room (Nat.le_of_ble_eq_true rfl)) dL_law_517 ⟨Nat.le_trans (Nat.le_add_right _ _) hcl, Nat.le_trans (Nat.le_add_right _ _) hsl⟩) hM (fun H locs hM => ?_)
  refine lv_aload_n (pc := 520) hx hb dL_law_520 rfl (lv_at hl 2 rfl) ?_
  refine lr_arg (pc := 521) (j := 1) hx hb hX hbl hM hl ht hL (by decide) rfl dL_law_521 dL_law_522 dL_law_523 dL_law_524 dL_law_525 ?_
  refine nf_calli (pc := 526) (va_runV (As := [.int (xs (4 * t + 1))]) (rest := [.int _]) hC.1 (ct_X4_entries (id := (xs (4 * t + 1))) u7 hkp) (cwV 1 hts (gd_V wM_L_79 wi_X4_entries wsel_X4_entries wini_X4 wcode_X4_entries) rfl rfl rfl (by decide +kernel) ⟨by decide, by decide⟩) (nf_preV hC hM rfl rfl) rfl rfl hl.1 rfl (lv_room (Nat.le_of_ble_eq_true rfl)) dL_law_526 ⟨Nat.le_trans (Nat.le_add_right _ _) hcl, Nat.le_trans (Nat.le_add_right _ _) hsl⟩) hM (fun H locs hM => ?_)
  refine lv_icmp_eq (pc := 529) (tgt := 630) hx hb dL_law_529 (by decide) (fun _ => ?_) (fun h => absurd ((rr_ens hr (xs (4 * t + 1)))) h)
  exact W.widen (Nat.le_add_right _ _) (Nat.le_add_right _ _) (kk _ _ _ ⟨ad, I, J, mp, nn, kc, sz, kp, dd, hM, hr, hl⟩)
set_option maxHeartbeats 4000000 in
set_option maxRecDepth 100000 in
theorem lc_answer (hC : nf_C p m c cL_law 4 s #[Value.ref b] (Cond.initialized RL :: wT) RL D vwCl (xT cs)) (hX : va_X b L xs s s.heap) (hbl : b < s.heap.size) (hL : L ≤ 2048) (ht : 4 * t + 4 ≤ L) (hcl : cells + 3 ≤ room_1.cells) (hsl : slots + 25 ≤ room_1.slots) (hM : nf_M D vwCl s.heap.size (xS cs nn) ad I J (xP nn mp) s.heap H locs) (hr : rl_all I J mp I J nn kc sz kp dd) (hl : lv_has ls 4 (lw_L b ad t)) (kk : lw_K p l e s m below meth c cs D b t cells slots Q) : W p l e room_1 s m #[Value.ref b] below meth c H locs cells slots Q (F0 m 534 ls []) := by
  have hx := hC.1.1
  have hb := hC.1.2.1
  have hts := hC.1.2.2.2.2
  have ⟨⟨hnn, hkc, hsz, hkp⟩, hn, hk, hs, u0, u7, u11, u13⟩ := hr.1
  have hmp := hr.2.1.1
  refine lv_aload_n (pc := 534) hx hb dL_law_534 rfl (lv_at hl 1 rfl) ?_
  refine lr_arg (pc := 535) (j := 1) hx hb hX hbl hM hl ht hL (by decide) rfl dL_law_535 dL_law_536 dL_law_537 dL_law_538 dL_law_539 ?_
  refine nf_calll (pc := 540) (va_runV (As := [.int (xs (4 * t + 1))]) (rest := []) hC.1 (ct_X3_answer (id := (xs (4 * t + 1))) hn hnn) (cwV 1 hts (gd_V wM_L_80 wi_X3_answer wsel_X3_answer wini_X3 wcode_X3_answer) rfl rfl rfl (by decide +kernel) ⟨by decide, by decide⟩) (nf_preV hC hM rfl rfl) rfl rfl hl.1 rfl (lv_room (Nat.le_of_ble_eq_true rfl)) dL_law_540 ⟨Nat.le_trans (Nat.le_add_right _ _) hcl, Nat.le_trans (Nat.le_add_right _ _) hsl⟩) hM (fun H locs hM => ?_)
  refine lv_aload_n (pc := 543) hx hb dL_law_543 rfl (lv_at hl 2 rfl) ?_
  refine lr_arg (pc := 544) (j := 1) hx hb hX hbl hM hl ht hL (by decide) rfl dL_law_544 dL_law_545 dL_law_546 dL_law_547 dL_law_548 ?_
  refine nf_calll (pc := 549) (va_runV (As := [.int (xs (4 * t + 1))]) (rest := [.long _]) hC.1 (ct_X4_answer (id := (xs (4 * t + 1))) ) (cwV 1 hts (gd_V wM_L_84 wi_X4_answer wsel_X4_answer wini_X4 wcode_X4_answer) rfl rfl rfl (by decide +kernel) ⟨by decide, by decide⟩) (nf_preV hC hM rfl rfl) rfl rfl hl.1 rfl (lv_room (Nat.le_of_ble_eq_true rfl)) dL_law_549 ⟨Nat.le_trans (Nat.le_add_right _ _) hcl, Nat.le_trans (Nat.le_add_right _ _) hsl⟩) hM (fun H locs hM => ?_)
  rw [(rr_ans hr (xs (4 * t + 1)))]
  refine W.lcmp (pc := 552) hx hb dL_law_552 ?_
  refine lv_if_eq (pc := 553) (tgt := 630) hx hb dL_law_553 (by decide) (fun _ => ?_) (fun h => (h ((lg_0 _ _).mpr rfl)).elim)
  exact W.widen (Nat.le_add_right _ _) (Nat.le_add_right _ _) (kk _ _ _ ⟨ad, I, J, mp, nn, kc, sz, kp, dd, hM, hr, hl⟩)
set_option maxHeartbeats 4000000 in
set_option maxRecDepth 100000 in
theorem lc_hops (hC : nf_C p m c cL_law 4 s #[Value.ref b] (Cond.initialized RL :: wT) RL D vwCl (xT cs)) (hX : va_X b L xs s s.heap) (hbl : b < s.heap.size) (hL : L ≤ 2048) (ht : 4 * t + 4 ≤ L) (hcl : cells + 3 ≤ room_1.cells) (hsl : slots + 25 ≤ room_1.slots) (hM : nf_M D vwCl s.heap.size (xS cs nn) ad I J (xP nn mp) s.heap H locs) (hr : rl_all I J mp I J nn kc sz kp dd) (hl : lv_has ls 4 (lw_L b ad t)) (kk : lw_K p l e s m below meth c cs D b t cells slots Q) : W p l e room_1 s m #[Value.ref b] below meth c H locs cells slots Q (F0 m 558 ls []) := by
  have hx := hC.1.1
  have hb := hC.1.2.1
  have hts := hC.1.2.2.2.2
  have ⟨⟨hnn, hkc, hsz, hkp⟩, hn, hk, hs, u0, u7, u11, u13⟩ := hr.1
  have hmp := hr.2.1.1
  refine lv_aload_n (pc := 558) hx hb dL_law_558 rfl (lv_at hl 1 rfl) ?_
  refine lr_arg (pc := 559) (j := 1) hx hb hX hbl hM hl ht hL (by decide) rfl dL_law_559 dL_law_560 dL_law_561 dL_law_562 dL_law_563 ?_
  refine nf_calli (pc := 564) (va_runV (As := [.int (xs (4 * t + 1))]) (rest := []) hC.1 (ct_X3_hops (id := (xs (4 * t + 1))) hn hnn) (cwV 1 hts (gd_V wM_L_85 wi_X3_hops wsel_X3_hops wini_X3 wcode_X3_hops) rfl rfl rfl (by decide +kernel) ⟨by decide, by decide⟩) (nf_preV hC hM rfl rfl) rfl rfl hl.1 rfl (lv_room (Nat.le_of_ble_eq_true rfl)) dL_law_564 ⟨Nat.le_trans (Nat.le_add_right _ _) hcl, Nat.le_trans (Nat.le_add_right _ _) hsl⟩) hM (fun H locs hM => ?_)
  refine lv_aload_n (pc := 567) hx hb dL_law_567 rfl (lv_at hl 2 rfl) ?_
  refine lr_arg (pc := 568) (j := 1) hx hb hX hbl hM hl ht hL (by decide) rfl dL_law_568 dL_law_569 dL_law_570 dL_law_571 dL_law_572 ?_
  refine nf_calli (pc := 573) (va_runV (As := [.int (xs (4 * t + 1))]) (rest := [.int _]) hC.1 (ct_X4_hops (id := (xs (4 * t + 1))) ) (cwV 1 hts (gd_V wM_L_88 wi_X4_hops wsel_X4_hops wini_X4 wcode_X4_hops) rfl rfl rfl (by decide +kernel) ⟨by decide, by decide⟩) (nf_preV hC hM rfl rfl) rfl rfl hl.1 rfl (lv_room (Nat.le_of_ble_eq_true rfl)) dL_law_573 ⟨Nat.le_trans (Nat.le_add_right _ _) hcl, Nat.le_trans (Nat.le_add_right _ _) hsl⟩) hM (fun H locs hM => ?_)
  refine lv_icmp_eq (pc := 576) (tgt := 630) hx hb dL_law_576 (by decide) (fun _ => ?_) (fun h => absurd ((rr_hps hr (xs (4 * t + 1)))) h)
  exact W.widen (Nat.le_add_right _ _) (Nat.le_add_right _ _) (kk _ _ _ ⟨ad, I, J, mp, nn, kc, sz, kp, dd, hM, hr, hl⟩)
set_option maxHeartbeats 4000000 in
set_option maxRecDepth 100000 in
theorem lc_owner (hC : nf_C p m c cL_law 4 s #[Value.ref b] (Cond.initialized RL :: wT) RL D vwCl (xT cs)) (hX : va_X b L xs s s.heap) (hbl : b < s.heap.size) (hL : L ≤ 2048) (ht : 4 * t + 4 ≤ L) (hcl : cells + 3 ≤ room_1.cells) (hsl : slots + 25 ≤ room_1.slots) (hM : nf_M D vwCl s.heap.size (xS cs nn) ad I J (xP nn mp) s.heap H locs) (hr : rl_all I J mp I J nn kc sz kp dd) (hl : lv_has ls 4 (lw_L b ad t)) (kk : lw_K p l e s m below meth c cs D b t cells slots Q) : W p l e room_1 s m #[Value.ref b] below meth c H locs cells slots Q (F0 m 581 ls []) := by
  have hx := hC.1.1
  have hb := hC.1.2.1
  have hts := hC.1.2.2.2.2
  have ⟨⟨hnn, hkc, hsz, hkp⟩, hn, hk, hs, u0, u7, u11, u13⟩ := hr.1
  have hmp := hr.2.1.1
  refine lv_aload_n (pc := 581) hx hb dL_law_581 rfl (lv_at hl 1 rfl) ?_
  refine lr_arg (pc := 582) (j := 1) hx hb hX hbl hM hl ht hL (by decide) rfl dL_law_582 dL_law_583 dL_law_584 dL_law_585 dL_law_586 ?_
  refine nf_calli (pc := 587) (va_runV (As := [.int (xs (4 * t + 1))]) (rest := []) hC.1 (ct_X3_owner (key := (xs (4 * t + 1))) hn hnn) (cwV 1 hts (gd_V wM_L_89 wi_X3_owner wsel_X3_owner wini_X3 wcode_X3_owner) rfl rfl rfl (by decide +kernel) ⟨by decide, by decide⟩) (nf_preV hC hM rfl rfl) rfl rfl hl.1 rfl (lv_room (Nat.le_of_ble_eq_true rfl)) dL_law_587 ⟨Nat.le_trans (Nat.le_add_right _ _) hcl, Nat.le_trans (Nat.le_add_right _ _) hsl⟩) hM (fun H locs hM => ?_)
  refine lv_aload_n (pc := 590) hx hb dL_law_590 rfl (lv_at hl 2 rfl) ?_
  refine lr_arg (pc := 591) (j := 1) hx hb hX hbl hM hl ht hL (by decide) rfl dL_law_591 dL_law_592 dL_law_593 dL_law_594 dL_law_595 ?_
  refine nf_calli (pc := 596) (va_runV (As := [.int (xs (4 * t + 1))]) (rest := [.int _]) hC.1 (ct_X4_owner (wd := (xs (4 * t + 1))) ) (cwV 1 hts (gd_V wM_L_92 wi_X4_owner wsel_X4_owner wini_X4 wcode_X4_owner) rfl rfl rfl (by decide +kernel) ⟨by decide, by decide⟩) (nf_preV hC hM rfl rfl) rfl rfl hl.1 rfl (lv_room (Nat.le_of_ble_eq_true rfl)) dL_law_596 ⟨Nat.le_trans (Nat.le_add_right _ _) hcl, Nat.le_trans (Nat.le_add_right _ _) hsl⟩) hM (fun H locs hM => ?_)
  refine lv_icmp_eq (pc := 599) (tgt := 630) hx hb dL_law_599 (by decide) (fun _ => ?_) (fun h => absurd ((rr_own hr (xs (4 * t + 1)))) h)
  exact W.widen (Nat.le_add_right _ _) (Nat.le_add_right _ _) (kk _ _ _ ⟨ad, I, J, mp, nn, kc, sz, kp, dd, hM, hr, hl⟩)
set_option maxHeartbeats 4000000 in
set_option maxRecDepth 100000 in
theorem lc_wrong (hC : nf_C p m c cL_law 4 s #[Value.ref b] (Cond.initialized RL :: wT) RL D vwCl (xT cs)) (hX : va_X b L xs s s.heap) (hbl : b < s.heap.size) (hL : L ≤ 2048) (ht : 4 * t + 4 ≤ L) (hcl : cells + 3 ≤ room_1.cells) (hsl : slots + 25 ≤ room_1.slots) (hM : nf_M D vwCl s.heap.size (xS cs nn) ad I J (xP nn mp) s.heap H locs) (hr : rl_all I J mp I J nn kc sz kp dd) (hl : lv_has ls 4 (lw_L b ad t)) (kk : lw_K p l e s m below meth c cs D b t cells slots Q) : W p l e room_1 s m #[Value.ref b] below meth c H locs cells slots Q (F0 m 604 ls []) := by
  have hx := hC.1.1
  have hb := hC.1.2.1
  have hts := hC.1.2.2.2.2
  have ⟨⟨hnn, hkc, hsz, hkp⟩, hn, hk, hs, u0, u7, u11, u13⟩ := hr.1
  have hmp := hr.2.1.1
  refine lv_aload_n (pc := 604) hx hb dL_law_604 rfl (lv_at hl 1 rfl) ?_
  refine nf_calli (pc := 605) (va_runV (As := []) (rest := []) hC.1 (ct_X3_wrong  hn hnn) (cwV 0 hts (gd_V wM_L_93 wi_X3_wrong wsel_X3_wrong wini_X3 wcode_X3_wrong) rfl rfl rfl (by decide +kernel) ⟨by decide, by decide⟩) (nf_preV hC hM rfl rfl) rfl rfl hl.1 rfl (lv_room (Nat.le_of_ble_eq_true rfl)) dL_law_605 ⟨Nat.le_trans (Nat.le_add_right _ _) hcl, Nat.le_trans (Nat.le_add_right _ _) hsl⟩) hM (fun H locs hM => ?_)
  refine lv_aload_n (pc := 608) hx hb dL_law_608 rfl (lv_at hl 2 rfl) ?_
  refine nf_calli (pc := 609) (va_runV (As := []) (rest := [.int _]) hC.1 (ct_X4_wrong  ) (cwV 0 hts (gd_V wM_L_96 wi_X4_wrong wsel_X4_wrong wini_X4 wcode_X4_wrong) rfl rfl rfl (by decide +kernel) ⟨by decide, by decide⟩) (nf_preV hC hM rfl rfl) rfl rfl hl.1 rfl (lv_room (Nat.le_of_ble_eq_true rfl)) dL_law_609 ⟨Nat.le_trans (Nat.le_add_right _ _) hcl, Nat.le_trans (Nat.le_add_right _ _) hsl⟩) hM (fun H locs hM => ?_)
  refine lv_icmp_eq (pc := 612) (tgt := 630) hx hb dL_law_612 (by decide) (fun _ => ?_) (fun h => absurd ((rr_wr hr)) h)
  exact W.widen (Nat.le_add_right _ _) (Nat.le_add_right _ _) (kk _ _ _ ⟨ad, I, J, mp, nn, kc, sz, kp, dd, hM, hr, hl⟩)
set_option maxHeartbeats 4000000 in
set_option maxRecDepth 100000 in
theorem lc_misplaced (hC : nf_C p m c cL_law 4 s #[Value.ref b] (Cond.initialized RL :: wT) RL D vwCl (xT cs)) (hX : va_X b L xs s s.heap) (hbl : b < s.heap.size) (hL : L ≤ 2048) (ht : 4 * t + 4 ≤ L) (hcl : cells + 3 ≤ room_1.cells) (hsl : slots + 25 ≤ room_1.slots) (hM : nf_M D vwCl s.heap.size (xS cs nn) ad I J (xP nn mp) s.heap H locs) (hr : rl_all I J mp I J nn kc sz kp dd) (hl : lv_has ls 4 (lw_L b ad t)) (kk : lw_K p l e s m below meth c cs D b t cells slots Q) : W p l e room_1 s m #[Value.ref b] below meth c H locs cells slots Q (F0 m 617 ls []) := by
  have hx := hC.1.1
  have hb := hC.1.2.1
  have hts := hC.1.2.2.2.2
  have ⟨⟨hnn, hkc, hsz, hkp⟩, hn, hk, hs, u0, u7, u11, u13⟩ := hr.1
  have hmp := hr.2.1.1
  refine lv_aload_n (pc := 617) hx hb dL_law_617 rfl (lv_at hl 1 rfl) ?_
  refine nf_calli (pc := 618) (va_runV (As := []) (rest := []) hC.1 (ct_X3_misplaced  hn hnn hk hkc) (cwV 0 hts (gd_V wM_L_97 wi_X3_misplaced wsel_X3_misplaced wini_X3 wcode_X3_misplaced) rfl rfl rfl (by decide +kernel) ⟨by decide, by decide⟩) (nf_preV hC hM rfl rfl) rfl rfl hl.1 rfl (lv_room (Nat.le_of_ble_eq_true rfl)) dL_law_618 ⟨Nat.le_trans (Nat.le_add_right _ _) hcl, Nat.le_trans (Nat.le_add_right _ _) hsl⟩) hM (fun H locs hM => ?_)
  refine lv_aload_n (pc := 621) hx hb dL_law_621 rfl (lv_at hl 2 rfl) ?_
  refine nf_calli (pc := 622) (va_runV (As := []) (rest := [.int _]) hC.1 (ct_X4_misplaced  u7 hkp) (cwV 0 hts (gd_V wM_L_100 wi_X4_misplaced wsel_X4_misplaced wini_X4 wcode_X4_misplaced) rfl rfl rfl (by decide +kernel) ⟨by decide, by decide⟩) (nf_preV hC hM rfl rfl) rfl rfl hl.1 rfl (lv_room (Nat.le_of_ble_eq_true rfl)) dL_law_622 ⟨Nat.le_trans (Nat.le_add_right _ _) hcl, Nat.le_trans (Nat.le_add_right _ _) hsl⟩) hM (fun H locs hM => ?_)
  refine lv_icmp_eq (pc := 625) (tgt := 630) hx hb dL_law_625 (by decide) (fun _ => ?_) (fun h => absurd ((rr_mo hr)) h)
  exact W.widen (Nat.le_add_right _ _) (Nat.le_add_right _ _) (kk _ _ _ ⟨ad, I, J, mp, nn, kc, sz, kp, dd, hM, hr, hl⟩)
end ZL
