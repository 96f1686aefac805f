/-! The law: the cases that change. -/
section ZL
variable {p : Program} {l : Launch} {e : Env} {s : State} {m : MethodId} {below : List Frame} {meth : Method} {c : Code} {H : Heap} {locs : List Loc} {cells slots : Nat} {Q : State → Prop}
variable {ls : Array Slot} {D : va_G} {cs : Nat → ClassId} {b L t : Nat} {xs : Nat → Int32} {ad : nf_A} {I : nf_I} {J : nf_J} {mp : Nat → Nat} {nn kc sz kp : Nat} {dd : Nat → Nat}
set_option maxHeartbeats 4000000 in
set_option maxRecDepth 100000 in
theorem lc_create (hC : nf_C p m c cL_law 4 s #[Value.ref b] (Cond.initialized RL :: wT) RL D vwCl (xT cs)) (hX : va_X b L xs s s.heap) (hbl : b < s.heap.size) (hL : L ≤ 2048) (ht : 4 * t + 4 ≤ L) (hcl : cells + 3 ≤ room_1.cells) (hsl : slots + 25 ≤ room_1.slots) (hM : nf_M D vwCl s.heap.size (xS cs nn) ad I J (xP nn mp) s.heap H locs) (hr : rl_all I J mp I J nn kc sz kp dd) (hl : lv_has ls 4 (lw_L b ad t)) (kk : lw_K p l e s m below meth c cs D b t cells slots Q) : W p l e room_1 s m #[Value.ref b] below meth c H locs cells slots Q (F0 m 128 ls []) := by
  have hx := hC.1.1
  have hb := hC.1.2.1
  have hts := hC.1.2.2.2.2
  have ⟨⟨hnn, hkc, hsz, hkp⟩, hn, hk, hs, u0, u7, u11, u13⟩ := hr.1
  have hmp := hr.2.1.1
  refine lv_aload_n (pc := 128) hx hb dL_law_128 rfl (lv_at hl 1 rfl) ?_
  refine lr_arg (pc := 129) (j := 1) hx hb hX hbl hM hl ht hL (by decide) rfl dL_law_129 dL_law_130 dL_law_131 dL_law_132 dL_law_133 ?_
  refine nf_calliX (pc := 134) (va_runV (As := [.int (xs (4 * t + 1))]) (rest := []) hC.1 (ct_X3_create (id := (xs (4 * t + 1))) hn hnn) (cwV 1 hts (gd_V wM_L_13 wi_X3_create wsel_X3_create wini_X3 wcode_X3_create) rfl rfl rfl (by decide +kernel) ⟨by decide, by decide⟩) (nf_preV hC hM rfl rfl) rfl rfl hl.1 rfl (lv_room (Nat.le_of_ble_eq_true rfl)) dL_law_134 ⟨hcl, hsl⟩) hM (fun ad1 H locs hkp1 hM => ?_)
  have hl : lv_has ls 4 (lw_L b ad1 t) := by
    unfold lw_L
    rw [hkp1 0 0 _ rfl, hkp1 20 0 _ rfl]
    exact hl
  have h2 := rl_cgm hr (fc_cr (nn := nn) (id := (xs (4 * t + 1)))) (fcJ_cr (I := I) (nn := nn) (id := (xs (4 * t + 1))))
  have ⟨_, _, _, _, _, v7, v11, v13⟩ := h2.1
  obtain ⟨heq, dd', h3⟩ := rp_cr h2 (xs (4 * t + 1))
  refine lv_aload_n (pc := 137) hx hb dL_law_137 rfl (lv_at hl 2 rfl) ?_
  refine lr_arg (pc := 138) (j := 1) hx hb hX hbl hM hl ht hL (by decide) rfl dL_law_138 dL_law_139 dL_law_140 dL_law_141 dL_law_142 ?_
  refine nf_calli (pc := 143) (va_runV (As := [.int (xs (4 * t + 1))]) (rest := [.int _]) hC.1 (ct_X4_create (id := (xs (4 * t + 1))) ) (cwV 1 hts (gd_V wM_L_17 wi_X4_create wsel_X4_create wini_X4 wcode_X4_create) rfl rfl rfl (by decide +kernel) ⟨by decide, by decide⟩) (nf_preV hC hM rfl rfl) rfl rfl hl.1 rfl (lv_room (Nat.le_of_ble_eq_true rfl)) dL_law_143 ⟨hcl, hsl⟩) hM (fun H locs hM => ?_)
  refine lv_icmp_eq (pc := 146) (tgt := 630) hx hb dL_law_146 (by decide) (fun _ => ?_) (fun h => absurd (congrArg nb_I heq) h)
  exact kk _ _ _ ⟨ad1, _, _, _, _, _, _, _, _, hM, rl_one h3 (fm_cr) (fmJ_rf), hl⟩
set_option maxHeartbeats 4000000 in
set_option maxRecDepth 100000 in
theorem lc_join (hC : nf_C p m c cL_law 4 s #[Value.ref b] (Cond.initialized RL :: wT) RL D vwCl (xT cs)) (hX : va_X b L xs s s.heap) (hbl : b < s.heap.size) (hL : L ≤ 2048) (ht : 4 * t + 4 ≤ L) (hcl : cells + 3 ≤ room_1.cells) (hsl : slots + 25 ≤ room_1.slots) (hM : nf_M D vwCl s.heap.size (xS cs nn) ad I J (xP nn mp) s.heap H locs) (hr : rl_all I J mp I J nn kc sz kp dd) (hl : lv_has ls 4 (lw_L b ad t)) (kk : lw_K p l e s m below meth c cs D b t cells slots Q) : W p l e room_1 s m #[Value.ref b] below meth c H locs cells slots Q (F0 m 151 ls []) := by
  have hx := hC.1.1
  have hb := hC.1.2.1
  have hts := hC.1.2.2.2.2
  have ⟨⟨hnn, hkc, hsz, hkp⟩, hn, hk, hs, u0, u7, u11, u13⟩ := hr.1
  have hmp := hr.2.1.1
  refine lv_aload_n (pc := 151) hx hb dL_law_151 rfl (lv_at hl 1 rfl) ?_
  refine lr_arg (pc := 152) (j := 1) hx hb hX hbl hM hl ht hL (by decide) rfl dL_law_152 dL_law_153 dL_law_154 dL_law_155 dL_law_156 ?_
  refine lr_arg (pc := 157) (j := 2) hx hb hX hbl hM hl ht hL (by decide) rfl dL_law_157 dL_law_158 dL_law_159 dL_law_160 dL_law_161 ?_
  refine nf_calliX (pc := 162) (va_runV (As := [.int (xs (4 * t + 1)), .int (xs (4 * t + 2))]) (rest := []) hC.1 (ct_X3_join (id := (xs (4 * t + 1))) (via := (xs (4 * t + 2))) hn hnn hs hsz hmp) (cwV 2 hts (gd_V wM_L_18 wi_X3_join wsel_X3_join wini_X3 wcode_X3_join) rfl rfl rfl (by decide +kernel) ⟨by decide, by decide⟩) (nf_preV hC hM rfl rfl) rfl rfl hl.1 rfl (lv_room (Nat.le_of_ble_eq_true rfl)) dL_law_162 ⟨hcl, hsl⟩) hM (fun ad1 H locs hkp1 hM => ?_)
  have hl : lv_has ls 4 (lw_L b ad1 t) := by
    unfold lw_L
    rw [hkp1 0 0 _ rfl, hkp1 20 0 _ rfl]
    exact hl
  have h2 := rl_cgm hr (fc_jn (nn := nn) (onw := mp sz) (id := (xs (4 * t + 1))) (via := (xs (4 * t + 2)))) (fcJ_jn (I := I) (nn := nn) (onw := mp sz) (id := (xs (4 * t + 1))) (via := (xs (4 * t + 2))))
  have ⟨_, _, _, _, _, v7, v11, v13⟩ := h2.1
  obtain ⟨heq, sz', dd', h3⟩ := rp_jn h2 (xs (4 * t + 1)) (xs (4 * t + 2))
  refine lv_aload_n (pc := 165) hx hb dL_law_165 rfl (lv_at hl 2 rfl) ?_
  refine lr_arg (pc := 166) (j := 1) hx hb hX hbl hM hl ht hL (by decide) rfl dL_law_166 dL_law_167 dL_law_168 dL_law_169 dL_law_170 ?_
  refine lr_arg (pc := 171) (j := 2) hx hb hX hbl hM hl ht hL (by decide) rfl dL_law_171 dL_law_172 dL_law_173 dL_law_174 dL_law_175 ?_
  refine nf_calli (pc := 176) (va_runV (As := [.int (xs (4 * t + 1)), .int (xs (4 * t + 2))]) (rest := [.int _]) hC.1 (ct_X4_join (id := (xs (4 * t + 1))) (via := (xs (4 * t + 2))) v13 hsz) (cwV 2 hts (gd_V wM_L_22 wi_X4_join wsel_X4_join wini_X4 wcode_X4_join) rfl rfl rfl (by decide +kernel) ⟨by decide, by decide⟩) (nf_preV hC hM rfl rfl) rfl rfl hl.1 rfl (lv_room (Nat.le_of_ble_eq_true rfl)) dL_law_176 ⟨hcl, hsl⟩) hM (fun H locs hM => ?_)
  refine lv_icmp_eq (pc := 179) (tgt := 630) hx hb dL_law_179 (by decide) (fun _ => ?_) (fun h => absurd (congrArg nb_I heq) h)
  exact kk _ _ _ ⟨ad1, _, _, _, _, _, _, _, _, hM, rl_one h3 (fm_jn) (fmJ_jn), hl⟩
set_option maxHeartbeats 4000000 in
set_option maxRecDepth 100000 in
theorem lc_stabilise (hC : nf_C p m c cL_law 4 s #[Value.ref b] (Cond.initialized RL :: wT) RL D vwCl (xT cs)) (hX : va_X b L xs s s.heap) (hbl : b < s.heap.size) (hL : L ≤ 2048) (ht : 4 * t + 4 ≤ L) (hcl : cells + 3 ≤ room_1.cells) (hsl : slots + 25 ≤ room_1.slots) (hM : nf_M D vwCl s.heap.size (xS cs nn) ad I J (xP nn mp) s.heap H locs) (hr : rl_all I J mp I J nn kc sz kp dd) (hl : lv_has ls 4 (lw_L b ad t)) (kk : lw_K p l e s m below meth c cs D b t cells slots Q) : W p l e room_1 s m #[Value.ref b] below meth c H locs cells slots Q (F0 m 184 ls []) := by
  have hx := hC.1.1
  have hb := hC.1.2.1
  have hts := hC.1.2.2.2.2
  have ⟨⟨hnn, hkc, hsz, hkp⟩, hn, hk, hs, u0, u7, u11, u13⟩ := hr.1
  have hmp := hr.2.1.1
  refine lv_aload_n (pc := 184) hx hb dL_law_184 rfl (lv_at hl 1 rfl) ?_
  refine lr_arg (pc := 185) (j := 1) hx hb hX hbl hM hl ht hL (by decide) rfl dL_law_185 dL_law_186 dL_law_187 dL_law_188 dL_law_189 ?_
  refine nf_calli (pc := 190) (va_runV (As := [.int (xs (4 * t + 1))]) (rest := []) hC.1 (ct_X3_stabilise (id := (xs (4 * t + 1))) hn hnn hs hsz hmp) (cwV 1 hts (gd_V wM_L_23 wi_X3_stabilise wsel_X3_stabilise wini_X3 wcode_X3_stabilise) rfl rfl rfl (by decide +kernel) ⟨by decide, by decide⟩) (nf_preV hC hM rfl rfl) rfl rfl hl.1 rfl (lv_room (Nat.le_of_ble_eq_true rfl)) dL_law_190 ⟨Nat.le_trans (Nat.le_add_right _ _) hcl, Nat.le_trans (Nat.le_add_right _ _) hsl⟩) hM (fun H locs hM => ?_)
  have h2 := rl_cgm hr (fc_stb (nn := nn) (onw := mp sz) (id := (xs (4 * t + 1)))) (fcJ_stb (I := I) (nn := nn) (onw := mp sz) (id := (xs (4 * t + 1))))
  have ⟨_, _, _, _, _, v7, v11, v13⟩ := h2.1
  obtain ⟨heq, sz', h3⟩ := rp_stb h2 (xs (4 * t + 1))
  refine lv_aload_n (pc := 193) hx hb dL_law_193 rfl (lv_at hl 2 rfl) ?_
  refine lr_arg (pc := 194) (j := 1) hx hb hX hbl hM hl ht hL (by decide) rfl dL_law_194 dL_law_195 dL_law_196 dL_law_197 dL_law_198 ?_
  refine nf_calli (pc := 199) (va_runV (As := [.int (xs (4 * t + 1))]) (rest := [.int _]) hC.1 (ct_X4_stabilise (id := (xs (4 * t + 1))) v13 hsz) (cwV 1 hts (gd_V wM_L_26 wi_X4_stabilise wsel_X4_stabilise wini_X4 wcode_X4_stabilise) rfl rfl rfl (by decide +kernel) ⟨by decide, by decide⟩) (nf_preV hC hM rfl rfl) rfl rfl hl.1 rfl (lv_room (Nat.le_of_ble_eq_true rfl)) dL_law_199 ⟨Nat.le_trans (Nat.le_add_right _ _) hcl, Nat.le_trans (Nat.le_add_right _ _) hsl⟩) hM (fun H locs hM => ?_)
  refine lv_icmp_eq (pc := 202) (tgt := 630) hx hb dL_law_202 (by decide) (fun _ => ?_) (fun h => absurd (congrArg nb_I heq) h)
  exact W.widen (Nat.le_add_right _ _) (Nat.le_add_right _ _) (kk _ _ _ ⟨ad, _, _, _, _, _, _, _, _, hM, rl_one h3 (fm_st) (fmJ_st), hl⟩)
set_option maxHeartbeats 4000000 in
set_option maxRecDepth 100000 in
theorem lc_fix (hC : nf_C p m c cL_law 4 s #[Value.ref b] (Cond.initialized RL :: wT) RL D vwCl (xT cs)) (hX : va_X b L xs s s.heap) (hbl : b < s.heap.size) (hL : L ≤ 2048) (ht : 4 * t + 4 ≤ L) (hcl : cells + 3 ≤ room_1.cells) (hsl : slots + 25 ≤ room_1.slots) (hM : nf_M D vwCl s.heap.size (xS cs nn) ad I J (xP nn mp) s.heap H locs) (hr : rl_all I J mp I J nn kc sz kp dd) (hl : lv_has ls 4 (lw_L b ad t)) (kk : lw_K p l e s m below meth c cs D b t cells slots Q) : W p l e room_1 s m #[Value.ref b] below meth c H locs cells slots Q (F0 m 207 ls []) := by
  have hx := hC.1.1
  have hb := hC.1.2.1
  have hts := hC.1.2.2.2.2
  have ⟨⟨hnn, hkc, hsz, hkp⟩, hn, hk, hs, u0, u7, u11, u13⟩ := hr.1
  have hmp := hr.2.1.1
  refine lv_aload_n (pc := 207) hx hb dL_law_207 rfl (lv_at hl 1 rfl) ?_
  refine lr_arg (pc := 208) (j := 1) hx hb hX hbl hM hl ht hL (by decide) rfl dL_law_208 dL_law_209 dL_law_210 dL_law_211 dL_law_212 ?_
  refine lr_arg (pc := 213) (j := 2) hx hb hX hbl hM hl ht hL (by decide) rfl dL_law_213 dL_law_214 dL_law_215 dL_law_216 dL_law_217 ?_
  refine nf_calli (pc := 218) (va_runV (As := [.int (xs (4 * t + 1)), .int (xs (4 * t + 2))]) (rest := []) hC.1 (ct_X3_fix (id := (xs (4 * t + 1))) (j := (xs (4 * t + 2))) hn hnn hs hsz hmp) (cwV 2 hts (gd_V wM_L_27 wi_X3_fix wsel_X3_fix wini_X3 wcode_X3_fix) rfl rfl rfl (by decide +kernel) ⟨by decide, by decide⟩) (nf_preV hC hM rfl rfl) rfl rfl hl.1 rfl (lv_room (Nat.le_of_ble_eq_true rfl)) dL_law_218 ⟨Nat.le_trans (Nat.le_add_right _ _) hcl, Nat.le_trans (Nat.le_add_right _ _) hsl⟩) hM (fun H locs hM => ?_)
  have h2 := rl_cgm hr (fc_fix (nn := nn) (onw := mp sz) (id := (xs (4 * t + 1))) (j := (xs (4 * t + 2)))) (fcJ_fix (I := I) (nn := nn) (onw := mp sz) (id := (xs (4 * t + 1))) (j := (xs (4 * t + 2))))
  have ⟨_, _, _, _, _, v7, v11, v13⟩ := h2.1
  obtain ⟨heq, sz', h3⟩ := rp_fix h2 (xs (4 * t + 1)) (xs (4 * t + 2))
  refine lv_aload_n (pc := 221) hx hb dL_law_221 rfl (lv_at hl 2 rfl) ?_
  refine lr_arg (pc := 222) (j := 1) hx hb hX hbl hM hl ht hL (by decide) rfl dL_law_222 dL_law_223 dL_law_224 dL_law_225 dL_law_226 ?_
  refine lr_arg (pc := 227) (j := 2) hx hb hX hbl hM hl ht hL (by decide) rfl dL_law_227 dL_law_228 dL_law_229 dL_law_230 dL_law_231 ?_
  refine nf_calli (pc := 232) (va_runV (As := [.int (xs (4 * t + 1)), .int (xs (4 * t + 2))]) (rest := [.int _]) hC.1 (ct_X4_fix (id := (xs (4 * t + 1))) (j := (xs (4 * t + 2))) v13 hsz) (cwV 2 hts (gd_V wM_L_30 wi_X4_fix wsel_X4_fix wini_X4 wcode_X4_fix) rfl rfl rfl (by decide +kernel) ⟨by decide, by decide⟩) (nf_preV hC hM rfl rfl) rfl rfl hl.1 rfl (lv_room (Nat.le_of_ble_eq_true rfl)) dL_law_232 ⟨Nat.le_trans (Nat.le_add_right _ _) hcl, Nat.le_trans (Nat.le_add_right _ _) hsl⟩) hM (fun H locs hM => ?_)
  refine lv_icmp_eq (pc := 235) (tgt := 630) hx hb dL_law_235 (by decide) (fun _ => ?_) (fun h => absurd (congrArg nb_I heq) h)
  exact W.widen (Nat.le_add_right _ _) (Nat.le_add_right _ _) (kk _ _ _ ⟨ad, _, _, _, _, _, _, _, _, hM, rl_one h3 (fm_fx) (fmJ_fx), hl⟩)
set_option maxHeartbeats 4000000 in
set_option maxRecDepth 100000 in
theorem lc_put (hC : nf_C p m c cL_law 4 s #[Value.ref b] (Cond.initialized RL :: wT) RL D vwCl (xT cs)) (hX : va_X b L xs s s.heap) (hbl : b < s.heap.size) (hL : L ≤ 2048) (ht : 4 * t + 4 ≤ L) (hcl : cells + 3 ≤ room_1.cells) (hsl : slots + 25 ≤ room_1.slots) (hM : nf_M D vwCl s.heap.size (xS cs nn) ad I J (xP nn mp) s.heap H locs) (hr : rl_all I J mp I J nn kc sz kp dd) (hl : lv_has ls 4 (lw_L b ad t)) (kk : lw_K p l e s m below meth c cs D b t cells slots Q) : W p l e room_1 s m #[Value.ref b] below meth c H locs cells slots Q (F0 m 240 ls []) := by
  have hx := hC.1.1
  have hb := hC.1.2.1
  have hts := hC.1.2.2.2.2
  have ⟨⟨hnn, hkc, hsz, hkp⟩, hn, hk, hs, u0, u7, u11, u13⟩ := hr.1
  have hmp := hr.2.1.1
  refine lv_aload_n (pc := 240) hx hb dL_law_240 rfl (lv_at hl 1 rfl) ?_
  refine lr_arg (pc := 241) (j := 1) hx hb hX hbl hM hl ht hL (by decide) rfl dL_law_241 dL_law_242 dL_law_243 dL_law_244 dL_law_245 ?_
  refine lr_arg (pc := 246) (j := 2) hx hb hX hbl hM hl ht hL (by decide) rfl dL_law_246 dL_law_247 dL_law_248 dL_law_249 dL_law_250 ?_
  refine lr_arg (pc := 251) (j := 3) hx hb hX hbl hM hl ht hL (by decide) rfl dL_law_251 dL_law_252 dL_law_253 dL_law_254 dL_law_255 ?_
  refine nf_calli (pc := 256) (va_runV (As := [.int (xs (4 * t + 1)), .int (xs (4 * t + 2)), .int (xs (4 * t + 3))]) (rest := []) hC.1 (ct_X3_put (id := (xs (4 * t + 1))) (key := (xs (4 * t + 2))) (v := (xs (4 * t + 3))) hn hnn hs hsz hmp hk hkc) (cwV 3 hts (gd_V wM_L_31 wi_X3_put wsel_X3_put wini_X3 wcode_X3_put) rfl rfl rfl (by decide +kernel) ⟨by decide, by decide⟩) (nf_preV hC hM rfl rfl) rfl rfl hl.1 rfl (lv_room (Nat.le_of_ble_eq_true rfl)) dL_law_256 ⟨Nat.le_trans (Nat.le_add_right _ _) hcl, Nat.le_trans (Nat.le_add_right _ _) hsl⟩) hM (fun H locs hM => ?_)
  have h2 := rl_cgm hr (fc_put (nn := nn) (kc := kc) (onw := mp sz) (id := (xs (4 * t + 1))) (key := (xs (4 * t + 2)))) (fcJ_put (I := I) (nn := nn) (kc := kc) (onw := mp sz) (id := (xs (4 * t + 1))) (key := (xs (4 * t + 2))) (v := (xs (4 * t + 3))))
  have ⟨_, _, _, _, _, v7, v11, v13⟩ := h2.1
  obtain ⟨heq, kc', sz', h3⟩ := rp_put h2 (xs (4 * t + 1)) (xs (4 * t + 2)) (xs (4 * t + 3))
  refine lv_aload_n (pc := 259) hx hb dL_law_259 rfl (lv_at hl 2 rfl) ?_
  refine lr_arg (pc := 260) (j := 1) hx hb hX hbl hM hl ht hL (by decide) rfl dL_law_260 dL_law_261 dL_law_262 dL_law_263 dL_law_264 ?_
  refine lr_arg (pc := 265) (j := 2) hx hb hX hbl hM hl ht hL (by decide) rfl dL_law_265 dL_law_266 dL_law_267 dL_law_268 dL_law_269 ?_
  refine lr_arg (pc := 270) (j := 3) hx hb hX hbl hM hl ht hL (by decide) rfl dL_law_270 dL_law_271 dL_law_272 dL_law_273 dL_law_274 ?_
  refine nf_calli (pc := 275) (va_runV (As := [.int (xs (4 * t + 1)), .int (xs (4 * t + 2)), .int (xs (4 * t + 3))]) (rest := [.int _]) hC.1 (ct_X4_put (id := (xs (4 * t + 1))) (wd := (xs (4 * t + 2))) (v := (xs (4 * t + 3))) v13 hsz v11 hkc) (cwV 3 hts (gd_V wM_L_35 wi_X4_put wsel_X4_put wini_X4 wcode_X4_put) rfl rfl rfl (by decide +kernel) ⟨by decide, by decide⟩) (nf_preV hC hM rfl rfl) rfl rfl hl.1 rfl (lv_room (Nat.le_of_ble_eq_true rfl)) dL_law_275 ⟨Nat.le_trans (Nat.le_add_right _ _) hcl, Nat.le_trans (Nat.le_add_right _ _) hsl⟩) hM (fun H locs hM => ?_)
  refine lv_icmp_eq (pc := 278) (tgt := 630) hx hb dL_law_278 (by decide) (fun _ => ?_) (fun h => absurd (congrArg nb_I heq) h)
  exact W.widen (Nat.le_add_right _ _) (Nat.le_add_right _ _) (kk _ _ _ ⟨ad, _, _, _, _, _, _, _, _, hM, rl_one h3 (fm_pt) (fmJ_pt), hl⟩)
set_option maxHeartbeats 4000000 in
set_option maxRecDepth 100000 in
theorem lc_get (hC : nf_C p m c cL_law 4 s #[Value.ref b] (Cond.initialized RL :: wT) RL D vwCl (xT cs)) (hX : va_X b L xs s s.heap) (hbl : b < s.heap.size) (hL : L ≤ 2048) (ht : 4 * t + 4 ≤ L) (hcl : cells + 3 ≤ room_1.cells) (hsl : slots + 25 ≤ room_1.slots) (hM : nf_M D vwCl s.heap.size (xS cs nn) ad I J (xP nn mp) s.heap H locs) (hr : rl_all I J mp I J nn kc sz kp dd) (hl : lv_has ls 4 (lw_L b ad t)) (kk : lw_K p l e s m below meth c cs D b t cells slots Q) : W p l e room_1 s m #[Value.ref b] below meth c H locs cells slots Q (F0 m 283 ls []) := by
  have hx := hC.1.1
  have hb := hC.1.2.1
  have hts := hC.1.2.2.2.2
  have ⟨⟨hnn, hkc, hsz, hkp⟩, hn, hk, hs, u0, u7, u11, u13⟩ := hr.1
  have hmp := hr.2.1.1
  refine lv_aload_n (pc := 283) hx hb dL_law_283 rfl (lv_at hl 1 rfl) ?_
  refine lr_arg (pc := 284) (j := 1) hx hb hX hbl hM hl ht hL (by decide) rfl dL_law_284 dL_law_285 dL_law_286 dL_law_287 dL_law_288 ?_
  refine lr_arg (pc := 289) (j := 2) hx hb hX hbl hM hl ht hL (by decide) rfl dL_law_289 dL_law_290 dL_law_291 dL_law_292 dL_law_293 ?_
  refine nf_calli (pc := 294) (va_runV (As := [.int (xs (4 * t + 1)), .int (xs (4 * t + 2))]) (rest := []) hC.1 (ct_X3_get (id := (xs (4 * t + 1))) (key := (xs (4 * t + 2))) hn hnn hs hsz hmp) (cwV 2 hts (gd_V wM_L_36 wi_X3_get wsel_X3_get wini_X3 wcode_X3_get) rfl rfl rfl (by decide +kernel) ⟨by decide, by decide⟩) (nf_preV hC hM rfl rfl) rfl rfl hl.1 rfl (lv_room (Nat.le_of_ble_eq_true rfl)) dL_law_294 ⟨Nat.le_trans (Nat.le_add_right _ _) hcl, Nat.le_trans (Nat.le_add_right _ _) hsl⟩) hM (fun H locs hM => ?_)
  have h2 := rl_cgm hr (fc_get (nn := nn) (onw := mp sz) (id := (xs (4 * t + 1))) (key := (xs (4 * t + 2)))) (fcJ_get (I := I) (nn := nn) (onw := mp sz) (id := (xs (4 * t + 1))) (key := (xs (4 * t + 2))))
  have ⟨_, _, _, _, _, v7, v11, v13⟩ := h2.1
  obtain ⟨heq, sz', h3⟩ := rp_get h2 (xs (4 * t + 1)) (xs (4 * t + 2))
  refine lv_aload_n (pc := 297) hx hb dL_law_297 rfl (lv_at hl 2 rfl) ?_
  refine lr_arg (pc := 298) (j := 1) hx hb hX hbl hM hl ht hL (by decide) rfl dL_law_298 dL_law_299 dL_law_300 dL_law_301 dL_law_302 ?_
  refine lr_arg (pc := 303) (j := 2) hx hb hX hbl hM hl ht hL (by decide) rfl dL_law_303 dL_law_304 dL_law_305 dL_law_306 dL_law_307 ?_
  refine nf_calli (pc := 308) (va_runV (As := [.int (xs (4 * t + 1)), .int (xs (4 * t + 2))]) (rest := [.int _]) hC.1 (ct_X4_get (id := (xs (4 * t + 1))) (wd := (xs (4 * t + 2))) v13 hsz) (cwV 2 hts (gd_V wM_L_39 wi_X4_get wsel_X4_get wini_X4 wcode_X4_get) rfl rfl rfl (by decide +kernel) ⟨by decide, by decide⟩) (nf_preV hC hM rfl rfl) rfl rfl hl.1 rfl (lv_room (Nat.le_of_ble_eq_true rfl)) dL_law_308 ⟨Nat.le_trans (Nat.le_add_right _ _) hcl, Nat.le_trans (Nat.le_add_right _ _) hsl⟩) hM (fun H locs hM => ?_)
  refine lv_icmp_eq (pc := 311) (tgt := 630) hx hb dL_law_311 (by decide) (fun _ => ?_) (fun h => absurd (congrArg nb_I heq) h)
  exact W.widen (Nat.le_add_right _ _) (Nat.le_add_right _ _) (kk _ _ _ ⟨ad, _, _, _, _, _, _, _, _, hM, rl_one h3 (fm_gt) (fmJ_gt), hl⟩)
set_option maxHeartbeats 4000000 in
set_option maxRecDepth 100000 in
theorem lc_deliver (hC : nf_C p m c cL_law 4 s #[Value.ref b] (Cond.initialized RL :: wT) RL D vwCl (xT cs)) (hX : va_X b L xs s s.heap) (hbl : b < s.heap.size) (hL : L ≤ 2048) (ht : 4 * t + 4 ≤ L) (hcl : cells + 3 ≤ room_1.cells) (hsl : slots + 25 ≤ room_1.slots) (hM : nf_M D vwCl s.heap.size (xS cs nn) ad I J (xP nn mp) s.heap H locs) (hr : rl_all I J mp I J nn kc sz kp dd) (hl : lv_has ls 4 (lw_L b ad t)) (kk : lw_K p l e s m below meth c cs D b t cells slots Q) : W p l e room_1 s m #[Value.ref b] below meth c H locs cells slots Q (F0 m 316 ls []) := by
  have hx := hC.1.1
  have hb := hC.1.2.1
  have hts := hC.1.2.2.2.2
  have ⟨⟨hnn, hkc, hsz, hkp⟩, hn, hk, hs, u0, u7, u11, u13⟩ := hr.1
  have hmp := hr.2.1.1
  refine lv_aload_n (pc := 316) hx hb dL_law_316 rfl (lv_at hl 1 rfl) ?_
  refine lr_arg (pc := 317) (j := 1) hx hb hX hbl hM hl ht hL (by decide) rfl dL_law_317 dL_law_318 dL_law_319 dL_law_320 dL_law_321 ?_
  refine nf_calli (pc := 322) (va_runV (As := [.int (xs (4 * t + 1))]) (rest := []) hC.1 (ct_X3_deliver (k := (xs (4 * t + 1))) hn hnn hk hkc hs hsz hmp) (cwV 1 hts (gd_V wM_L_40 wi_X3_deliver wsel_X3_deliver wini_X3 wcode_X3_deliver) rfl rfl rfl (by decide +kernel) ⟨by decide, by decide⟩) (nf_preV hC hM rfl rfl) rfl rfl hl.1 rfl (lv_room (Nat.le_of_ble_eq_true rfl)) dL_law_322 ⟨Nat.le_trans (Nat.le_add_right _ _) hcl, Nat.le_trans (Nat.le_add_right _ _) hsl⟩) hM (fun H locs hM => ?_)
  have h2 := rl_cgm hr ((fc_arr (J := J) (mp := mp) (nn := nn) (kc := kc) (k := (xs (4 * t + 1)))).1) ((fc_arr (I := I) (J := J) (mp := mp) (nn := nn) (kc := kc) (k := (xs (4 * t + 1)))).2)
  have ⟨_, _, _, _, _, v7, v11, v13⟩ := h2.1
  obtain ⟨hmay, heq, sz', kp', h3⟩ := rp_dlv h2 (xs (4 * t + 1))
  refine lv_aload_n (pc := 325) hx hb dL_law_325 rfl (lv_at hl 2 rfl) ?_
  refine lr_arg (pc := 326) (j := 1) hx hb hX hbl hM hl ht hL (by decide) rfl dL_law_326 dL_law_327 dL_law_328 dL_law_329 dL_law_330 ?_
  refine nf_calli (pc := 331) (va_runV (As := [.int (xs (4 * t + 1))]) (rest := [.int _]) hC.1 (ct_X4_deliver (k := (xs (4 * t + 1))) v13 hsz v7 hkp hmay) (cwV 1 hts (gd_V wM_L_44 wi_X4_deliver wsel_X4_deliver wini_X4 wcode_X4_deliver) rfl rfl rfl (by decide +kernel) ⟨by decide, by decide⟩) (nf_preV hC hM rfl rfl) rfl rfl hl.1 rfl (lv_room (Nat.le_of_ble_eq_true rfl)) dL_law_331 ⟨Nat.le_trans (Nat.le_add_right _ _) hcl, Nat.le_trans (Nat.le_add_right _ _) hsl⟩) hM (fun H locs hM => ?_)
  refine lv_icmp_eq (pc := 334) (tgt := 630) hx hb dL_law_334 (by decide) (fun _ => ?_) (fun h => absurd (heq) h)
  exact W.widen (Nat.le_add_right _ _) (Nat.le_add_right _ _) (kk _ _ _ ⟨ad, _, _, _, _, _, _, _, _, hM, rl_one h3 (fm_dl.1) (fm_dl.2), hl⟩)
set_option maxHeartbeats 4000000 in
set_option maxRecDepth 100000 in
theorem lc_pump (hC : nf_C p m c cL_law 4 s #[Value.ref b] (Cond.initialized RL :: wT) RL D vwCl (xT cs)) (hX : va_X b L xs s s.heap) (hbl : b < s.heap.size) (hL : L ≤ 2048) (ht : 4 * t + 4 ≤ L) (hcl : cells + 3 ≤ room_1.cells) (hsl : slots + 25 ≤ room_1.slots) (hM : nf_M D vwCl s.heap.size (xS cs nn) ad I J (xP nn mp) s.heap H locs) (hr : rl_all I J mp I J nn kc sz kp dd) (hl : lv_has ls 4 (lw_L b ad t)) (kk : lw_K p l e s m below meth c cs D b t cells slots Q) : W p l e room_1 s m #[Value.ref b] below meth c H locs cells slots Q (F0 m 339 ls []) := by
  have hx := hC.1.1
  have hb := hC.1.2.1
  have hts := hC.1.2.2.2.2
  have ⟨⟨hnn, hkc, hsz, hkp⟩, hn, hk, hs, u0, u7, u11, u13⟩ := hr.1
  have hmp := hr.2.1.1
  refine lv_aload_n (pc := 339) hx hb dL_law_339 rfl (lv_at hl 1 rfl) ?_
  refine lr_arg (pc := 340) (j := 1) hx hb hX hbl hM hl ht hL (by decide) rfl dL_law_340 dL_law_341 dL_law_342 dL_law_343 dL_law_344 ?_
  refine nf_calli (pc := 345) (va_runV (As := [.int (xs (4 * t + 1))]) (rest := []) hC.1 (ct_X3_pump (pn := (xs (4 * t + 1))) (Inv := fun I J mp => ∃ U V sz kp, rl_all I J mp U V nn kc sz kp dd) hnn hkc ⟨I, J, sz, kp, hr⟩ (fun I J mp => lp_cstep)) (cwV 1 hts (gd_V wM_L_45 wi_X3_pump wsel_X3_pump wini_X3 wcode_X3_pump) rfl rfl rfl (by decide +kernel) ⟨by decide, by decide⟩) (nf_preV hC hM rfl rfl) rfl rfl hl.1 rfl (lv_room (Nat.le_of_ble_eq_true rfl)) dL_law_345 ⟨Nat.le_trans (Nat.le_add_right _ _) hcl, Nat.le_trans (Nat.le_add_right _ _) hsl⟩) hM (fun H locs hM => ?_)
  have h2 := rl_cgm hr (fc_puI (J := J) (mp := mp) (nn := nn) (kc := kc) (n := (xs (4 * t + 1)))).1 (fc_puI (I := I) (J := J) (mp := mp) (nn := nn) (kc := kc) (n := (xs (4 * t + 1)))).2
  obtain ⟨heq, sz', kp', h3⟩ := lp_pump h2 (xs (4 * t + 1))
  refine lv_aload_n (pc := 348) hx hb dL_law_348 rfl (lv_at hl 2 rfl) ?_
  refine lr_arg (pc := 349) (j := 1) hx hb hX hbl hM hl ht hL (by decide) rfl dL_law_349 dL_law_350 dL_law_351 dL_law_352 dL_law_353 ?_
  refine nf_calli (pc := 354) (va_runV (As := [.int (xs (4 * t + 1))]) (rest := [.int _]) hC.1 (ct_X4_pump (pn := (xs (4 * t + 1))) (Inv := fun U V => ∃ I J mp sz kp, rl_all I J mp U V nn kc sz kp dd) ⟨I, J, mp, sz, kp, h2⟩ (fun U V => lp_mstep)) (cwV 1 hts (gd_V wM_L_48 wi_X4_pump wsel_X4_pump wini_X4 wcode_X4_pump) rfl rfl rfl (by decide +kernel) ⟨by decide, by decide⟩) (nf_preV hC hM rfl rfl) rfl rfl hl.1 rfl (lv_room (Nat.le_of_ble_eq_true rfl)) dL_law_354 ⟨Nat.le_trans (Nat.le_add_right _ _) hcl, Nat.le_trans (Nat.le_add_right _ _) hsl⟩) hM (fun H locs hM => ?_)
  refine lv_icmp_eq (pc := 357) (tgt := 630) hx hb dL_law_357 (by decide) (fun _ => ?_) (fun h => absurd (heq) h)
  exact W.widen (Nat.le_add_right _ _) (Nat.le_add_right _ _) (kk _ _ _ ⟨ad, _, _, _, _, _, _, _, _, hM, rl_one h3 (fm_puI (J := xs_puJ I J mp nn kc (xs (4 * t + 1)))).1 (fm_puI (I := xs_puI I J mp nn kc (xs (4 * t + 1)))).2, hl⟩)
end ZL
