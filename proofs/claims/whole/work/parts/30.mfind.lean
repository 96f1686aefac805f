/-! The model: find. -/
section YE
variable {l : Launch} {D : va_G} {cs : Nat → ClassId} {Bs nn rwn kp : Nat} {ad : nf_A} {I : nf_I} {J : nf_J} {P : nf_P}
set_option maxHeartbeats 4000000 in
set_option maxRecDepth 100000 in
theorem ct_X4_find {nd : Nat} (hr : I 20 0 13 = nI rwn) (hrw : rwn < 20) (hnd : nd < 256) : nf_Tv l yX4_find wsX4_find 2 46 D vwCl (xT cs) Bs (xS cs nn) ad [.ref (ad 20 0), .int (nI nd)] I J P (ys_fdI I nd rwn) (ys_fdJ I J nd rwn) P := by
  refine nf_enterv (cc := cX4_find) (maxL := 6) (by decide) rfl (Nat.le_of_ble_eq_true rfl) ?_
  intro p e s m below meth c ls Q hC hM hl hret
  have hx := hC.1.1
  have hb := hC.1.2.1
  have hl : lv_has ls 6 [(0, .ref (ad 20 0)), (1, .int (nI nd))] := hl
  have hinX4 : ∀ w ∈ u_ws RX4 TX4 22, w ∈ wsX4_find := fun w h => List.mem_cons_of_mem _ (inX4 w h)
  refine lv_aload_n (pc := 0) hx hb dX4_find_0 rfl (lv_at hl 0 rfl) ?_
  refine nf_getr (pc := 1) hC hinX4 hM rfl rfl 2 (by decide) (List.mem_cons_of_mem _ wF_X4_13) rfl dX4_find_1 ?_
  refine lv_iload_n (pc := 4) hx hb dX4_find_4 rfl (lv_at hl 1 rfl) ?_
  refine nf_iald (pc := 5) hC hM 0 rfl rfl nd rfl (by omega) (by decide) dX4_find_5 ?_
  refine lv_istore_n (pc := 6) (lv' := [(2, .int (I 22 0 nd)), (0, .ref (ad 20 0)), (1, .int (nI nd))]) hx hb dX4_find_6 rfl hl (by decide) rfl (fun ls hl => ?_)
  refine lv_aload_n (pc := 7) hx hb dX4_find_7 rfl (lv_at hl 1 rfl) ?_
  refine nf_getr (pc := 8) hC hinX4 hM rfl rfl 16 (by decide) (List.mem_cons_of_mem _ wF_X4_47) rfl dX4_find_8 ?_
  refine lv_bipush (pc := 11) (v := 20) hx hb dX4_find_11 (by decide) ?_
  refine nf_iald (pc := 13) hC hM 0 rfl rfl 20 rfl (by omega) (by decide) dX4_find_13 ?_
  refine lv_iload_n (pc := 14) hx hb dX4_find_14 rfl (lv_at hl 2 rfl) ?_
  refine lv_iload_n (pc := 15) hx hb dX4_find_15 rfl (lv_at hl 0 rfl) ?_
  refine nf_calli (pc := 16) (va_runS (As := [.int (I 33 0 20), .int (nI nd), .int (I 22 0 nd)]) (rest := []) hC.1 (ct_X4_past) (cwS 3 hC.1.2.2.2.2 (gd_S wM_X4_71 wst_X4_past wini_X4 wcode_X4_past) rfl rfl rfl (by decide +kernel) ⟨by decide, by decide⟩) (nf_preS hC hM) rfl rfl hl.1 rfl (lv_room (Nat.le_of_ble_eq_true rfl)) dX4_find_16 ⟨Nat.le_refl _, Nat.le_refl _⟩) hM (fun H locs hM => ?_)
  refine lv_if_ne (pc := 19) (tgt := 132) hx hb dX4_find_19 (by decide) (fun h1 => ?_) (fun h1 => ?_)
  · have h1 := nb_1 h1
    refine lv_aload_n (pc := 132) hx hb dX4_find_132 rfl (lv_at hl 1 rfl) ?_
    refine nf_getr (pc := 133) hC hinX4 hM rfl rfl 17 (by decide) (List.mem_cons_of_mem _ wF_X4_50) rfl dX4_find_133 ?_
    refine lv_bipush (pc := 136) (v := 20) hx hb dX4_find_136 (by decide) ?_
    refine nf_iald (pc := 138) hC hM 0 rfl rfl 20 rfl (by omega) (by decide) dX4_find_138 ?_
    refine lv_if_eq (pc := 139) (tgt := 153) hx hb dX4_find_139 (by decide) (fun h2 => ?_) (fun h2 => ?_)
    · skip
      refine lv_iconst (pc := 153) (v := 1) hx hb dX4_find_153 (by decide) ?_
      refine lv_goto (pc := 154) (tgt := 158) hx hb dX4_find_154 (by decide) ?_
      refine lv_istore_n (pc := 158) (lv' := [(3, .int 1), (2, .int (I 22 0 nd)), (0, .ref (ad 20 0)), (1, .int (nI nd))]) hx hb dX4_find_158 rfl hl (by decide) rfl (fun ls hl => ?_)
      refine lv_aload_n (pc := 159) hx hb dX4_find_159 rfl (lv_at hl 2 rfl) ?_
      refine lv_iload_n (pc := 160) hx hb dX4_find_160 rfl (lv_at hl 0 rfl) ?_
      refine lv_if_eq (pc := 161) (tgt := 168) hx hb dX4_find_161 (by decide) (fun hh => absurd hh (by decide)) (fun _ => ?_)
      refine lv_iconst (pc := 164) (v := 2) hx hb dX4_find_164 (by decide) ?_
      refine lv_goto (pc := 165) (tgt := 184) hx hb dX4_find_165 (by decide) ?_
      refine lv_iload_n (pc := 184) hx hb dX4_find_184 rfl (lv_at hl 0 rfl) ?_
      refine lv_if_eq (pc := 185) (tgt := 198) hx hb dX4_find_185 (by decide) (fun hh => absurd hh (by decide)) (fun _ => ?_)
      refine lv_aload_n (pc := 188) hx hb dX4_find_188 rfl (lv_at hl 2 rfl) ?_
      refine nf_getr (pc := 189) hC hinX4 hM rfl rfl 19 (by decide) (List.mem_cons_of_mem _ wF_X4_56) rfl dX4_find_189 ?_
      refine lv_bipush (pc := 192) (v := 20) hx hb dX4_find_192 (by decide) ?_
      refine nf_iald (pc := 194) hC hM 0 rfl rfl 20 rfl (by omega) (by decide) dX4_find_194 ?_
      refine lv_goto (pc := 195) (tgt := 199) hx hb dX4_find_195 (by decide) ?_
      refine lv_aload_n (pc := 199) hx hb dX4_find_199 rfl (lv_at hl 2 rfl) ?_
      refine nf_getr (pc := 200) hC hinX4 hM rfl rfl 16 (by decide) (List.mem_cons_of_mem _ wF_X4_47) rfl dX4_find_200 ?_
      refine lv_bipush (pc := 203) (v := 20) hx hb dX4_find_203 (by decide) ?_
      refine nf_iald (pc := 205) hC hM 0 rfl rfl 20 rfl (by omega) (by decide) dX4_find_205 ?_
      refine lv_aload_n (pc := 206) hx hb dX4_find_206 rfl (lv_at hl 2 rfl) ?_
      refine nf_getr (pc := 207) hC hinX4 hM rfl rfl 19 (by decide) (List.mem_cons_of_mem _ wF_X4_56) rfl dX4_find_207 ?_
      refine lv_bipush (pc := 210) (v := 20) hx hb dX4_find_210 (by decide) ?_
      refine nf_iald (pc := 212) hC hM 0 rfl rfl 20 rfl (by omega) (by decide) dX4_find_212 ?_
      refine nf_callv (pc := 213) (va_runV (As := [.int 2, .int (I 36 0 20), .int (I 33 0 20), .int (I 36 0 20)]) (rest := []) hC.1 (ct_X4_post (kd := 2) (tz := (I 36 0 20)) (ky := (I 33 0 20)) (ak := (I 36 0 20)) (rwn := rwn) hr (by omega)) (cwV 4 hC.1.2.2.2.2 (gd_V wM_X4_79 wi_X4_post wsel_X4_post wini_X4 wcode_X4_post) rfl rfl rfl (by decide +kernel) ⟨by decide, by decide⟩) (nf_preV hC hM rfl rfl) rfl rfl hl.1 rfl (lv_room (Nat.le_of_ble_eq_true rfl)) dX4_find_213 ⟨Nat.le_refl _, Nat.le_refl _⟩) hM (fun H locs hM => ?_)
      refine lv_aload_n (pc := 216) hx hb dX4_find_216 rfl (lv_at hl 2 rfl) ?_
      refine nf_getr (pc := 217) hC hinX4 hM rfl rfl 17 (by decide) (List.mem_cons_of_mem _ wF_X4_50) rfl dX4_find_217 ?_
      refine lv_aload_n (pc := 220) hx hb dX4_find_220 rfl (lv_at hl 2 rfl) ?_
      refine nf_geti (pc := 221) hC hinX4 hM rfl rfl 13 (by decide) (List.mem_cons_of_mem _ wF_X4_75) rfl dX4_find_221 ?_
      refine lv_iconst (pc := 224) (v := 1) hx hb dX4_find_224 (by decide) ?_
      refine lv_isub (pc := 225) hx hb dX4_find_225 ?_
      refine lv_aload_n (pc := 226) hx hb dX4_find_226 rfl (lv_at hl 2 rfl) ?_
      refine nf_getr (pc := 227) hC hinX4 hM rfl rfl 17 (by decide) (List.mem_cons_of_mem _ wF_X4_50) rfl dX4_find_227 ?_
      refine lv_bipush (pc := 230) (v := 20) hx hb dX4_find_230 (by decide) ?_
      refine nf_iald (pc := 232) hC hM 0 rfl rfl 20 rfl (by omega) (by decide) dX4_find_232 ?_
      refine nf_iast (pc := 233) hC hM 0 rfl rfl rwn (by simp [nf_iu, ys_po_row _ _ _ _ hr, nI_pred]) (by omega) (by decide) dX4_find_233 (fun H locs hM => ?_)
      refine lv_aload_n (pc := 234) hx hb dX4_find_234 rfl (lv_at hl 2 rfl) ?_
      refine nf_getr (pc := 235) hC hinX4 hM rfl rfl 18 (by decide) (List.mem_cons_of_mem _ wF_X4_53) rfl dX4_find_235 ?_
      refine lv_aload_n (pc := 238) hx hb dX4_find_238 rfl (lv_at hl 2 rfl) ?_
      refine nf_geti (pc := 239) hC hinX4 hM rfl rfl 13 (by decide) (List.mem_cons_of_mem _ wF_X4_75) rfl dX4_find_239 ?_
      refine lv_iconst (pc := 242) (v := 1) hx hb dX4_find_242 (by decide) ?_
      refine lv_isub (pc := 243) hx hb dX4_find_243 ?_
      refine lv_aload_n (pc := 244) hx hb dX4_find_244 rfl (lv_at hl 2 rfl) ?_
      refine nf_getr (pc := 245) hC hinX4 hM rfl rfl 18 (by decide) (List.mem_cons_of_mem _ wF_X4_53) rfl dX4_find_245 ?_
      refine lv_bipush (pc := 248) (v := 20) hx hb dX4_find_248 (by decide) ?_
      refine nf_iald (pc := 250) hC hM 0 rfl rfl 20 rfl (by omega) (by decide) dX4_find_250 ?_
      refine nf_iast (pc := 251) hC hM 0 rfl rfl rwn (by simp [nf_iu, ys_po_row _ _ _ _ hr, nI_pred]) (by omega) (by decide) dX4_find_251 (fun H locs hM => ?_)
      refine lv_aload_n (pc := 252) hx hb dX4_find_252 rfl (lv_at hl 2 rfl) ?_
      refine nf_getr (pc := 253) hC hinX4 hM rfl rfl 20 (by decide) (List.mem_cons_of_mem _ wF_X4_59) rfl dX4_find_253 ?_
      refine lv_aload_n (pc := 256) hx hb dX4_find_256 rfl (lv_at hl 2 rfl) ?_
      refine nf_geti (pc := 257) hC hinX4 hM rfl rfl 13 (by decide) (List.mem_cons_of_mem _ wF_X4_75) rfl dX4_find_257 ?_
      refine lv_iconst (pc := 260) (v := 1) hx hb dX4_find_260 (by decide) ?_
      refine lv_isub (pc := 261) hx hb dX4_find_261 ?_
      refine lv_aload_n (pc := 262) hx hb dX4_find_262 rfl (lv_at hl 2 rfl) ?_
      refine nf_getr (pc := 263) hC hinX4 hM rfl rfl 20 (by decide) (List.mem_cons_of_mem _ wF_X4_59) rfl dX4_find_263 ?_
      refine lv_bipush (pc := 266) (v := 20) hx hb dX4_find_266 (by decide) ?_
      refine nf_iald (pc := 268) hC hM 0 rfl rfl 20 rfl (by omega) (by decide) dX4_find_268 ?_
      refine nf_iast (pc := 269) hC hM 0 rfl rfl rwn (by simp [nf_iu, ys_po_row _ _ _ _ hr, nI_pred]) (by omega) (by decide) dX4_find_269 (fun H locs hM => ?_)
      refine lv_aload_n (pc := 270) hx hb dX4_find_270 rfl (lv_at hl 2 rfl) ?_
      refine nf_getr (pc := 271) hC hinX4 hM rfl rfl 21 (by decide) (List.mem_cons_of_mem _ wF_X4_62) rfl dX4_find_271 ?_
      refine lv_aload_n (pc := 274) hx hb dX4_find_274 rfl (lv_at hl 2 rfl) ?_
      refine nf_geti (pc := 275) hC hinX4 hM rfl rfl 13 (by decide) (List.mem_cons_of_mem _ wF_X4_75) rfl dX4_find_275 ?_
      refine lv_iconst (pc := 278) (v := 1) hx hb dX4_find_278 (by decide) ?_
      refine lv_isub (pc := 279) hx hb dX4_find_279 ?_
      refine lv_iload_n (pc := 280) hx hb dX4_find_280 rfl (lv_at hl 0 rfl) ?_
      refine lv_if_eq (pc := 281) (tgt := 289) hx hb dX4_find_281 (by decide) (fun hh => absurd hh (by decide)) (fun _ => ?_)
      refine lv_iload_n (pc := 284) hx hb dX4_find_284 rfl (lv_at hl 1 rfl) ?_
      refine lv_i2l (pc := 285) hx hb dX4_find_285 rfl ?_
      refine lv_goto (pc := 286) (tgt := 296) hx hb dX4_find_286 (by decide) ?_
      refine nf_last (pc := 296) hC hM 1 rfl rfl rwn (by simp [nf_iu, ys_po_row _ _ _ _ hr, nI_pred]) (by omega) (by decide) dX4_find_296 (fun H locs hM => ?_)
      exact hret _ _ _ _ _ _ _ (by simp [ys_fdI, h1, h2] <;> rfl) (by simp [ys_fdJ, h1, h2] <;> rfl) rfl hM dX4_find_297
    · skip
      refine lv_aload_n (pc := 142) hx hb dX4_find_142 rfl (lv_at hl 1 rfl) ?_
      refine nf_getr (pc := 143) hC hinX4 hM rfl rfl 17 (by decide) (List.mem_cons_of_mem _ wF_X4_50) rfl dX4_find_143 ?_
      refine lv_bipush (pc := 146) (v := 20) hx hb dX4_find_146 (by decide) ?_
      refine nf_iald (pc := 148) hC hM 0 rfl rfl 20 rfl (by omega) (by decide) dX4_find_148 ?_
      refine lv_iconst (pc := 149) (v := 1) hx hb dX4_find_149 (by decide) ?_
      refine lv_icmp_ne (pc := 150) (tgt := 157) hx hb dX4_find_150 (by decide) (fun h3 => ?_) (fun h3 => ?_)
      · skip
        refine lv_iconst (pc := 157) (v := 0) hx hb dX4_find_157 (by decide) ?_
        refine lv_istore_n (pc := 158) (lv' := [(3, .int 0), (2, .int (I 22 0 nd)), (0, .ref (ad 20 0)), (1, .int (nI nd))]) hx hb dX4_find_158 rfl hl (by decide) rfl (fun ls hl => ?_)
        refine lv_aload_n (pc := 159) hx hb dX4_find_159 rfl (lv_at hl 2 rfl) ?_
        refine lv_iload_n (pc := 160) hx hb dX4_find_160 rfl (lv_at hl 0 rfl) ?_
        refine lv_if_eq (pc := 161) (tgt := 168) hx hb dX4_find_161 (by decide) (fun _ => ?_) (fun hh => absurd (by decide) hh)
        refine lv_aload_n (pc := 168) hx hb dX4_find_168 rfl (lv_at hl 2 rfl) ?_
        refine nf_getr (pc := 169) hC hinX4 hM rfl rfl 17 (by decide) (List.mem_cons_of_mem _ wF_X4_50) rfl dX4_find_169 ?_
        refine lv_bipush (pc := 172) (v := 20) hx hb dX4_find_172 (by decide) ?_
        refine nf_iald (pc := 174) hC hM 0 rfl rfl 20 rfl (by omega) (by decide) dX4_find_174 ?_
        refine lv_iconst (pc := 175) (v := 2) hx hb dX4_find_175 (by decide) ?_
        refine lv_icmp_ne (pc := 176) (tgt := 183) hx hb dX4_find_176 (by decide) (fun h4 => ?_) (fun h4 => ?_)
        · skip
          refine lv_iconst (pc := 183) (v := 4) hx hb dX4_find_183 (by decide) ?_
          refine lv_iload_n (pc := 184) hx hb dX4_find_184 rfl (lv_at hl 0 rfl) ?_
          refine lv_if_eq (pc := 185) (tgt := 198) hx hb dX4_find_185 (by decide) (fun _ => ?_) (fun hh => absurd (by decide) hh)
          refine lv_iload_n (pc := 198) hx hb dX4_find_198 rfl (lv_at hl 1 rfl) ?_
          refine lv_aload_n (pc := 199) hx hb dX4_find_199 rfl (lv_at hl 2 rfl) ?_
          refine nf_getr (pc := 200) hC hinX4 hM rfl rfl 16 (by decide) (List.mem_cons_of_mem _ wF_X4_47) rfl dX4_find_200 ?_
          refine lv_bipush (pc := 203) (v := 20) hx hb dX4_find_203 (by decide) ?_
          refine nf_iald (pc := 205) hC hM 0 rfl rfl 20 rfl (by omega) (by decide) dX4_find_205 ?_
          refine lv_aload_n (pc := 206) hx hb dX4_find_206 rfl (lv_at hl 2 rfl) ?_
          refine nf_getr (pc := 207) hC hinX4 hM rfl rfl 19 (by decide) (List.mem_cons_of_mem _ wF_X4_56) rfl dX4_find_207 ?_
          refine lv_bipush (pc := 210) (v := 20) hx hb dX4_find_210 (by decide) ?_
          refine nf_iald (pc := 212) hC hM 0 rfl rfl 20 rfl (by omega) (by decide) dX4_find_212 ?_
          refine nf_callv (pc := 213) (va_runV (As := [.int 4, .int (I 22 0 nd), .int (I 33 0 20), .int (I 36 0 20)]) (rest := []) hC.1 (ct_X4_post (kd := 4) (tz := (I 22 0 nd)) (ky := (I 33 0 20)) (ak := (I 36 0 20)) (rwn := rwn) hr (by omega)) (cwV 4 hC.1.2.2.2.2 (gd_V wM_X4_79 wi_X4_post wsel_X4_post wini_X4 wcode_X4_post) rfl rfl rfl (by decide +kernel) ⟨by decide, by decide⟩) (nf_preV hC hM rfl rfl) rfl rfl hl.1 rfl (lv_room (Nat.le_of_ble_eq_true rfl)) dX4_find_213 ⟨Nat.le_refl _, Nat.le_refl _⟩) hM (fun H locs hM => ?_)
          refine lv_aload_n (pc := 216) hx hb dX4_find_216 rfl (lv_at hl 2 rfl) ?_
          refine nf_getr (pc := 217) hC hinX4 hM rfl rfl 17 (by decide) (List.mem_cons_of_mem _ wF_X4_50) rfl dX4_find_217 ?_
          refine lv_aload_n (pc := 220) hx hb dX4_find_220 rfl (lv_at hl 2 rfl) ?_
          refine nf_geti (pc := 221) hC hinX4 hM rfl rfl 13 (by decide) (List.mem_cons_of_mem _ wF_X4_75) rfl dX4_find_221 ?_
          refine lv_iconst (pc := 224) (v := 1) hx hb dX4_find_224 (by decide) ?_
          refine lv_isub (pc := 225) hx hb dX4_find_225 ?_
          refine lv_aload_n (pc := 226) hx hb dX4_find_226 rfl (lv_at hl 2 rfl) ?_
          refine nf_getr (pc := 227) hC hinX4 hM rfl rfl 17 (by decide) (List.mem_cons_of_mem _ wF_X4_50) rfl dX4_find_227 ?_
          refine lv_bipush (pc := 230) (v := 20) hx hb dX4_find_230 (by decide) ?_
          refine nf_iald (pc := 232) hC hM 0 rfl rfl 20 rfl (by omega) (by decide) dX4_find_232 ?_
          refine nf_iast (pc := 233) hC hM 0 rfl rfl rwn (by simp [nf_iu, ys_po_row _ _ _ _ hr, nI_pred]) (by omega) (by decide) dX4_find_233 (fun H locs hM => ?_)
          refine lv_aload_n (pc := 234) hx hb dX4_find_234 rfl (lv_at hl 2 rfl) ?_
          refine nf_getr (pc := 235) hC hinX4 hM rfl rfl 18 (by decide) (List.mem_cons_of_mem _ wF_X4_53) rfl dX4_find_235 ?_
          refine lv_aload_n (pc := 238) hx hb dX4_find_238 rfl (lv_at hl 2 rfl) ?_
          refine nf_geti (pc := 239) hC hinX4 hM rfl rfl 13 (by decide) (List.mem_cons_of_mem _ wF_X4_75) rfl dX4_find_239 ?_
          refine lv_iconst (pc := 242) (v := 1) hx hb dX4_find_242 (by decide) ?_
          refine lv_isub (pc := 243) hx hb dX4_find_243 ?_
          refine lv_aload_n (pc := 244) hx hb dX4_find_244 rfl (lv_at hl 2 rfl) ?_
          refine nf_getr (pc := 245) hC hinX4 hM rfl rfl 18 (by decide) (List.mem_cons_of_mem _ wF_X4_53) rfl dX4_find_245 ?_
          refine lv_bipush (pc := 248) (v := 20) hx hb dX4_find_248 (by decide) ?_
          refine nf_iald (pc := 250) hC hM 0 rfl rfl 20 rfl (by omega) (by decide) dX4_find_250 ?_
          refine nf_iast (pc := 251) hC hM 0 rfl rfl rwn (by simp [nf_iu, ys_po_row _ _ _ _ hr, nI_pred]) (by omega) (by decide) dX4_find_251 (fun H locs hM => ?_)
          refine lv_aload_n (pc := 252) hx hb dX4_find_252 rfl (lv_at hl 2 rfl) ?_
          refine nf_getr (pc := 253) hC hinX4 hM rfl rfl 20 (by decide) (List.mem_cons_of_mem _ wF_X4_59) rfl dX4_find_253 ?_
          refine lv_aload_n (pc := 256) hx hb dX4_find_256 rfl (lv_at hl 2 rfl) ?_
          refine nf_geti (pc := 257) hC hinX4 hM rfl rfl 13 (by decide) (List.mem_cons_of_mem _ wF_X4_75) rfl dX4_find_257 ?_
          refine lv_iconst (pc := 260) (v := 1) hx hb dX4_find_260 (by decide) ?_
          refine lv_isub (pc := 261) hx hb dX4_find_261 ?_
          refine lv_aload_n (pc := 262) hx hb dX4_find_262 rfl (lv_at hl 2 rfl) ?_
          refine nf_getr (pc := 263) hC hinX4 hM rfl rfl 20 (by decide) (List.mem_cons_of_mem _ wF_X4_59) rfl dX4_find_263 ?_
          refine lv_bipush (pc := 266) (v := 20) hx hb dX4_find_266 (by decide) ?_
          refine nf_iald (pc := 268) hC hM 0 rfl rfl 20 rfl (by omega) (by decide) dX4_find_268 ?_
          refine nf_iast (pc := 269) hC hM 0 rfl rfl rwn (by simp [nf_iu, ys_po_row _ _ _ _ hr, nI_pred]) (by omega) (by decide) dX4_find_269 (fun H locs hM => ?_)
          refine lv_aload_n (pc := 270) hx hb dX4_find_270 rfl (lv_at hl 2 rfl) ?_
          refine nf_getr (pc := 271) hC hinX4 hM rfl rfl 21 (by decide) (List.mem_cons_of_mem _ wF_X4_62) rfl dX4_find_271 ?_
          refine lv_aload_n (pc := 274) hx hb dX4_find_274 rfl (lv_at hl 2 rfl) ?_
          refine nf_geti (pc := 275) hC hinX4 hM rfl rfl 13 (by decide) (List.mem_cons_of_mem _ wF_X4_75) rfl dX4_find_275 ?_
          refine lv_iconst (pc := 278) (v := 1) hx hb dX4_find_278 (by decide) ?_
          refine lv_isub (pc := 279) hx hb dX4_find_279 ?_
          refine lv_iload_n (pc := 280) hx hb dX4_find_280 rfl (lv_at hl 0 rfl) ?_
          refine lv_if_eq (pc := 281) (tgt := 289) hx hb dX4_find_281 (by decide) (fun _ => ?_) (fun hh => absurd (by decide) hh)
          refine lv_aload_n (pc := 289) hx hb dX4_find_289 rfl (lv_at hl 2 rfl) ?_
          refine nf_getr (pc := 290) hC hinX4 hM rfl rfl 21 (by decide) (List.mem_cons_of_mem _ wF_X4_62) rfl dX4_find_290 ?_
          refine lv_bipush (pc := 293) (v := 20) hx hb dX4_find_293 (by decide) ?_
          refine nf_lald (pc := 295) hC hM 1 rfl rfl 20 rfl (by omega) (by decide) dX4_find_295 ?_
          refine nf_last (pc := 296) hC hM 1 rfl rfl rwn (by simp [nf_iu, ys_po_row _ _ _ _ hr, nI_pred]) (by omega) (by decide) dX4_find_296 (fun H locs hM => ?_)
          exact hret _ _ _ _ _ _ _ (by simp [ys_fdI, h1, h2, h3, h4] <;> rfl) (by simp [ys_fdJ, h1, h2, h3, h4] <;> rfl) rfl hM dX4_find_297
        · skip
          refine lv_iconst (pc := 179) (v := 3) hx hb dX4_find_179 (by decide) ?_
          refine lv_goto (pc := 180) (tgt := 184) hx hb dX4_find_180 (by decide) ?_
          refine lv_iload_n (pc := 184) hx hb dX4_find_184 rfl (lv_at hl 0 rfl) ?_
          refine lv_if_eq (pc := 185) (tgt := 198) hx hb dX4_find_185 (by decide) (fun _ => ?_) (fun hh => absurd (by decide) hh)
          refine lv_iload_n (pc := 198) hx hb dX4_find_198 rfl (lv_at hl 1 rfl) ?_
          refine lv_aload_n (pc := 199) hx hb dX4_find_199 rfl (lv_at hl 2 rfl) ?_
          refine nf_getr (pc := 200) hC hinX4 hM rfl rfl 16 (by decide) (List.mem_cons_of_mem _ wF_X4_47) rfl dX4_find_200 ?_
          refine lv_bipush (pc := 203) (v := 20) hx hb dX4_find_203 (by decide) ?_
          refine nf_iald (pc := 205) hC hM 0 rfl rfl 20 rfl (by omega) (by decide) dX4_find_205 ?_
          refine lv_aload_n (pc := 206) hx hb dX4_find_206 rfl (lv_at hl 2 rfl) ?_
          refine nf_getr (pc := 207) hC hinX4 hM rfl rfl 19 (by decide) (List.mem_cons_of_mem _ wF_X4_56) rfl dX4_find_207 ?_
          refine lv_bipush (pc := 210) (v := 20) hx hb dX4_find_210 (by decide) ?_
          refine nf_iald (pc := 212) hC hM 0 rfl rfl 20 rfl (by omega) (by decide) dX4_find_212 ?_
          refine nf_callv (pc := 213) (va_runV (As := [.int 3, .int (I 22 0 nd), .int (I 33 0 20), .int (I 36 0 20)]) (rest := []) hC.1 (ct_X4_post (kd := 3) (tz := (I 22 0 nd)) (ky := (I 33 0 20)) (ak := (I 36 0 20)) (rwn := rwn) hr (by omega)) (cwV 4 hC.1.2.2.2.2 (gd_V wM_X4_79 wi_X4_post wsel_X4_post wini_X4 wcode_X4_post) rfl rfl rfl (by decide +kernel) ⟨by decide, by decide⟩) (nf_preV hC hM rfl rfl) rfl rfl hl.1 rfl (lv_room (Nat.le_of_ble_eq_true rfl)) dX4_find_213 ⟨Nat.le_refl _, Nat.le_refl _⟩) hM (fun H locs hM => ?_)
          refine lv_aload_n (pc := 216) hx hb dX4_find_216 rfl (lv_at hl 2 rfl) ?_
          refine nf_getr (pc := 217) hC hinX4 hM rfl rfl 17 (by decide) (List.mem_cons_of_mem _ wF_X4_50) rfl dX4_find_217 ?_
          refine lv_aload_n (pc := 220) hx hb dX4_find_220 rfl (lv_at hl 2 rfl) ?_
          refine nf_geti (pc := 221) hC hinX4 hM rfl rfl 13 (by decide) (List.mem_cons_of_mem _ wF_X4_75) rfl dX4_find_221 ?_
          refine lv_iconst (pc := 224) (v := 1) hx hb dX4_find_224 (by decide) ?_
          refine lv_isub (pc := 225) hx hb dX4_find_225 ?_
          refine lv_aload_n (pc := 226) hx hb dX4_find_226 rfl (lv_at hl 2 rfl) ?_
          refine nf_getr (pc := 227) hC hinX4 hM rfl rfl 17 (by decide) (List.mem_cons_of_mem _ wF_X4_50) rfl dX4_find_227 ?_
          refine lv_bipush (pc := 230) (v := 20) hx hb dX4_find_230 (by decide) ?_
          refine nf_iald (pc := 232) hC hM 0 rfl rfl 20 rfl (by omega) (by decide) dX4_find_232 ?_
          refine nf_iast (pc := 233) hC hM 0 rfl rfl rwn (by simp [nf_iu, ys_po_row _ _ _ _ hr, nI_pred]) (by omega) (by decide) dX4_find_233 (fun H locs hM => ?_)
          refine lv_aload_n (pc := 234) hx hb dX4_find_234 rfl (lv_at hl 2 rfl) ?_
          refine nf_getr (pc := 235) hC hinX4 hM rfl rfl 18 (by decide) (List.mem_cons_of_mem _ wF_X4_53) rfl dX4_find_235 ?_
          refine lv_aload_n (pc := 238) hx hb dX4_find_238 rfl (lv_at hl 2 rfl) ?_
          refine nf_geti (pc := 239) hC hinX4 hM rfl rfl 13 (by decide) (List.mem_cons_of_mem _ wF_X4_75) rfl dX4_find_239 ?_
          refine lv_iconst (pc := 242) (v := 1) hx hb dX4_find_242 (by decide) ?_
          refine lv_isub (pc := 243) hx hb dX4_find_243 ?_
          refine lv_aload_n (pc := 244) hx hb dX4_find_244 rfl (lv_at hl 2 rfl) ?_
          refine nf_getr (pc := 245) hC hinX4 hM rfl rfl 18 (by decide) (List.mem_cons_of_mem _ wF_X4_53) rfl dX4_find_245 ?_
          refine lv_bipush (pc := 248) (v := 20) hx hb dX4_find_248 (by decide) ?_
          refine nf_iald (pc := 250) hC hM 0 rfl rfl 20 rfl (by omega) (by decide) dX4_find_250 ?_
          refine nf_iast (pc := 251) hC hM 0 rfl rfl rwn (by simp [nf_iu, ys_po_row _ _ _ _ hr, nI_pred]) (by omega) (by decide) dX4_find_251 (fun H locs hM => ?_)
          refine lv_aload_n (pc := 252) hx hb dX4_find_252 rfl (lv_at hl 2 rfl) ?_
          refine nf_getr (pc := 253) hC hinX4 hM rfl rfl 20 (by decide) (List.mem_cons_of_mem _ wF_X4_59) rfl dX4_find_253 ?_
          refine lv_aload_n (pc := 256) hx hb dX4_find_256 rfl (lv_at hl 2 rfl) ?_
          refine nf_geti (pc := 257) hC hinX4 hM rfl rfl 13 (by decide) (List.mem_cons_of_mem _ wF_X4_75) rfl dX4_find_257 ?_
          refine lv_iconst (pc := 260) (v := 1) hx hb dX4_find_260 (by decide) ?_
          refine lv_isub (pc := 261) hx hb dX4_find_261 ?_
          refine lv_aload_n (pc := 262) hx hb dX4_find_262 rfl (lv_at hl 2 rfl) ?_
          refine nf_getr (pc := 263) hC hinX4 hM rfl rfl 20 (by decide) (List.mem_cons_of_mem _ wF_X4_59) rfl dX4_find_263 ?_
          refine lv_bipush (pc := 266) (v := 20) hx hb dX4_find_266 (by decide) ?_
          refine nf_iald (pc := 268) hC hM 0 rfl rfl 20 rfl (by omega) (by decide) dX4_find_268 ?_
          refine nf_iast (pc := 269) hC hM 0 rfl rfl rwn (by simp [nf_iu, ys_po_row _ _ _ _ hr, nI_pred]) (by omega) (by decide) dX4_find_269 (fun H locs hM => ?_)
          refine lv_aload_n (pc := 270) hx hb dX4_find_270 rfl (lv_at hl 2 rfl) ?_
          refine nf_getr (pc := 271) hC hinX4 hM rfl rfl 21 (by decide) (List.mem_cons_of_mem _ wF_X4_62) rfl dX4_find_271 ?_
          refine lv_aload_n (pc := 274) hx hb dX4_find_274 rfl (lv_at hl 2 rfl) ?_
          refine nf_geti (pc := 275) hC hinX4 hM rfl rfl 13 (by decide) (List.mem_cons_of_mem _ wF_X4_75) rfl dX4_find_275 ?_
          refine lv_iconst (pc := 278) (v := 1) hx hb dX4_find_278 (by decide) ?_
          refine lv_isub (pc := 279) hx hb dX4_find_279 ?_
          refine lv_iload_n (pc := 280) hx hb dX4_find_280 rfl (lv_at hl 0 rfl) ?_
          refine lv_if_eq (pc := 281) (tgt := 289) hx hb dX4_find_281 (by decide) (fun _ => ?_) (fun hh => absurd (by decide) hh)
          refine lv_aload_n (pc := 289) hx hb dX4_find_289 rfl (lv_at hl 2 rfl) ?_
          refine nf_getr (pc := 290) hC hinX4 hM rfl rfl 21 (by decide) (List.mem_cons_of_mem _ wF_X4_62) rfl dX4_find_290 ?_
          refine lv_bipush (pc := 293) (v := 20) hx hb dX4_find_293 (by decide) ?_
          refine nf_lald (pc := 295) hC hM 1 rfl rfl 20 rfl (by omega) (by decide) dX4_find_295 ?_
          refine nf_last (pc := 296) hC hM 1 rfl rfl rwn (by simp [nf_iu, ys_po_row _ _ _ _ hr, nI_pred]) (by omega) (by decide) dX4_find_296 (fun H locs hM => ?_)
          exact hret _ _ _ _ _ _ _ (by simp [ys_fdI, h1, h2, h3, h4] <;> rfl) (by simp [ys_fdJ, h1, h2, h3, h4] <;> rfl) rfl hM dX4_find_297
      · skip
        refine lv_iconst (pc := 153) (v := 1) hx hb dX4_find_153 (by decide) ?_
        refine lv_goto (pc := 154) (tgt := 158) hx hb dX4_find_154 (by decide) ?_
        refine lv_istore_n (pc := 158) (lv' := [(3, .int 1), (2, .int (I 22 0 nd)), (0, .ref (ad 20 0)), (1, .int (nI nd))]) hx hb dX4_find_158 rfl hl (by decide) rfl (fun ls hl => ?_)
        refine lv_aload_n (pc := 159) hx hb dX4_find_159 rfl (lv_at hl 2 rfl) ?_
        refine lv_iload_n (pc := 160) hx hb dX4_find_160 rfl (lv_at hl 0 rfl) ?_
        refine lv_if_eq (pc := 161) (tgt := 168) hx hb dX4_find_161 (by decide) (fun hh => absurd hh (by decide)) (fun _ => ?_)
        refine lv_iconst (pc := 164) (v := 2) hx hb dX4_find_164 (by decide) ?_
        refine lv_goto (pc := 165) (tgt := 184) hx hb dX4_find_165 (by decide) ?_
        refine lv_iload_n (pc := 184) hx hb dX4_find_184 rfl (lv_at hl 0 rfl) ?_
        refine lv_if_eq (pc := 185) (tgt := 198) hx hb dX4_find_185 (by decide) (fun hh => absurd hh (by decide)) (fun _ => ?_)
        refine lv_aload_n (pc := 188) hx hb dX4_find_188 rfl (lv_at hl 2 rfl) ?_
        refine nf_getr (pc := 189) hC hinX4 hM rfl rfl 19 (by decide) (List.mem_cons_of_mem _ wF_X4_56) rfl dX4_find_189 ?_
        refine lv_bipush (pc := 192) (v := 20) hx hb dX4_find_192 (by decide) ?_
        refine nf_iald (pc := 194) hC hM 0 rfl rfl 20 rfl (by omega) (by decide) dX4_find_194 ?_
        refine lv_goto (pc := 195) (tgt := 199) hx hb dX4_find_195 (by decide) ?_
        refine lv_aload_n (pc := 199) hx hb dX4_find_199 rfl (lv_at hl 2 rfl) ?_
        refine nf_getr (pc := 200) hC hinX4 hM rfl rfl 16 (by decide) (List.mem_cons_of_mem _ wF_X4_47) rfl dX4_find_200 ?_
        refine lv_bipush (pc := 203) (v := 20) hx hb dX4_find_203 (by decide) ?_
        refine nf_iald (pc := 205) hC hM 0 rfl rfl 20 rfl (by omega) (by decide) dX4_find_205 ?_
        refine lv_aload_n (pc := 206) hx hb dX4_find_206 rfl (lv_at hl 2 rfl) ?_
        refine nf_getr (pc := 207) hC hinX4 hM rfl rfl 19 (by decide) (List.mem_cons_of_mem _ wF_X4_56) rfl dX4_find_207 ?_
        refine lv_bipush (pc := 210) (v := 20) hx hb dX4_find_210 (by decide) ?_
        refine nf_iald (pc := 212) hC hM 0 rfl rfl 20 rfl (by omega) (by decide) dX4_find_212 ?_
        refine nf_callv (pc := 213) (va_runV (As := [.int 2, .int (I 36 0 20), .int (I 33 0 20), .int (I 36 0 20)]) (rest := []) hC.1 (ct_X4_post (kd := 2) (tz := (I 36 0 20)) (ky := (I 33 0 20)) (ak := (I 36 0 20)) (rwn := rwn) hr (by omega)) (cwV 4 hC.1.2.2.2.2 (gd_V wM_X4_79 wi_X4_post wsel_X4_post wini_X4 wcode_X4_post) rfl rfl rfl (by decide +kernel) ⟨by decide, by decide⟩) (nf_preV hC hM rfl rfl) rfl rfl hl.1 rfl (lv_room (Nat.le_of_ble_eq_true rfl)) dX4_find_213 ⟨Nat.le_refl _, Nat.le_refl _⟩) hM (fun H locs hM => ?_)
        refine lv_aload_n (pc := 216) hx hb dX4_find_216 rfl (lv_at hl 2 rfl) ?_
        refine nf_getr (pc := 217) hC hinX4 hM rfl rfl 17 (by decide) (List.mem_cons_of_mem _ wF_X4_50) rfl dX4_find_217 ?_
        refine lv_aload_n (pc := 220) hx hb dX4_find_220 rfl (lv_at hl 2 rfl) ?_
        refine nf_geti (pc := 221) hC hinX4 hM rfl rfl 13 (by decide) (List.mem_cons_of_mem _ wF_X4_75) rfl dX4_find_221 ?_
        refine lv_iconst (pc := 224) (v := 1) hx hb dX4_find_224 (by decide) ?_
        refine lv_isub (pc := 225) hx hb dX4_find_225 ?_
        refine lv_aload_n (pc := 226) hx hb dX4_find_226 rfl (lv_at hl 2 rfl) ?_
        refine nf_getr (pc := 227) hC hinX4 hM rfl rfl 17 (by decide) (List.mem_cons_of_mem _ wF_X4_50) rfl dX4_find_227 ?_
        refine lv_bipush (pc := 230) (v := 20) hx hb dX4_find_230 (by decide) ?_
        refine nf_iald (pc := 232) hC hM 0 rfl rfl 20 rfl (by omega) (by decide) dX4_find_232 ?_
        refine nf_iast (pc := 233) hC hM 0 rfl rfl rwn (by simp [nf_iu, ys_po_row _ _ _ _ hr, nI_pred]) (by omega) (by decide) dX4_find_233 (fun H locs hM => ?_)
        refine lv_aload_n (pc := 234) hx hb dX4_find_234 rfl (lv_at hl 2 rfl) ?_
        refine nf_getr (pc := 235) hC hinX4 hM rfl rfl 18 (by decide) (List.mem_cons_of_mem _ wF_X4_53) rfl dX4_find_235 ?_
        refine lv_aload_n (pc := 238) hx hb dX4_find_238 rfl (lv_at hl 2 rfl) ?_
        refine nf_geti (pc := 239) hC hinX4 hM rfl rfl 13 (by decide) (List.mem_cons_of_mem _ wF_X4_75) rfl dX4_find_239 ?_
        refine lv_iconst (pc := 242) (v := 1) hx hb dX4_find_242 (by decide) ?_
        refine lv_isub (pc := 243) hx hb dX4_find_243 ?_
        refine lv_aload_n (pc := 244) hx hb dX4_find_244 rfl (lv_at hl 2 rfl) ?_
        refine nf_getr (pc := 245) hC hinX4 hM rfl rfl 18 (by decide) (List.mem_cons_of_mem _ wF_X4_53) rfl dX4_find_245 ?_
        refine lv_bipush (pc := 248) (v := 20) hx hb dX4_find_248 (by decide) ?_
        refine nf_iald (pc := 250) hC hM 0 rfl rfl 20 rfl (by omega) (by decide) dX4_find_250 ?_
        refine nf_iast (pc := 251) hC hM 0 rfl rfl rwn (by simp [nf_iu, ys_po_row _ _ _ _ hr, nI_pred]) (by omega) (by decide) dX4_find_251 (fun H locs hM => ?_)
        refine lv_aload_n (pc := 252) hx hb dX4_find_252 rfl (lv_at hl 2 rfl) ?_
        refine nf_getr (pc := 253) hC hinX4 hM rfl rfl 20 (by decide) (List.mem_cons_of_mem _ wF_X4_59) rfl dX4_find_253 ?_
        refine lv_aload_n (pc := 256) hx hb dX4_find_256 rfl (lv_at hl 2 rfl) ?_
        refine nf_geti (pc := 257) hC hinX4 hM rfl rfl 13 (by decide) (List.mem_cons_of_mem _ wF_X4_75) rfl dX4_find_257 ?_
        refine lv_iconst (pc := 260) (v := 1) hx hb dX4_find_260 (by decide) ?_
        refine lv_isub (pc := 261) hx hb dX4_find_261 ?_
        refine lv_aload_n (pc := 262) hx hb dX4_find_262 rfl (lv_at hl 2 rfl) ?_
        refine nf_getr (pc := 263) hC hinX4 hM rfl rfl 20 (by decide) (List.mem_cons_of_mem _ wF_X4_59) rfl dX4_find_263 ?_
        refine lv_bipush (pc := 266) (v := 20) hx hb dX4_find_266 (by decide) ?_
        refine nf_iald (pc := 268) hC hM 0 rfl rfl 20 rfl (by omega) (by decide) dX4_find_268 ?_
        refine nf_iast (pc := 269) hC hM 0 rfl rfl rwn (by simp [nf_iu, ys_po_row _ _ _ _ hr, nI_pred]) (by omega) (by decide) dX4_find_269 (fun H locs hM => ?_)
        refine lv_aload_n (pc := 270) hx hb dX4_find_270 rfl (lv_at hl 2 rfl) ?_
        refine nf_getr (pc := 271) hC hinX4 hM rfl rfl 21 (by decide) (List.mem_cons_of_mem _ wF_X4_62) rfl dX4_find_271 ?_
        refine lv_aload_n (pc := 274) hx hb dX4_find_274 rfl (lv_at hl 2 rfl) ?_
        refine nf_geti (pc := 275) hC hinX4 hM rfl rfl 13 (by decide) (List.mem_cons_of_mem _ wF_X4_75) rfl dX4_find_275 ?_
        refine lv_iconst (pc := 278) (v := 1) hx hb dX4_find_278 (by decide) ?_
        refine lv_isub (pc := 279) hx hb dX4_find_279 ?_
        refine lv_iload_n (pc := 280) hx hb dX4_find_280 rfl (lv_at hl 0 rfl) ?_
        refine lv_if_eq (pc := 281) (tgt := 289) hx hb dX4_find_281 (by decide) (fun hh => absurd hh (by decide)) (fun _ => ?_)
        refine lv_iload_n (pc := 284) hx hb dX4_find_284 rfl (lv_at hl 1 rfl) ?_
        refine lv_i2l (pc := 285) hx hb dX4_find_285 rfl ?_
        refine lv_goto (pc := 286) (tgt := 296) hx hb dX4_find_286 (by decide) ?_
        refine nf_last (pc := 296) hC hM 1 rfl rfl rwn (by simp [nf_iu, ys_po_row _ _ _ _ hr, nI_pred]) (by omega) (by decide) dX4_find_296 (fun H locs hM => ?_)
        exact hret _ _ _ _ _ _ _ (by simp [ys_fdI, h1, h2, h3] <;> rfl) (by simp [ys_fdJ, h1, h2, h3] <;> rfl) rfl hM dX4_find_297
  · have h1 := nb_0 h1
    refine lv_iload_n (pc := 22) hx hb dX4_find_22 rfl (lv_at hl 0 rfl) ?_
    refine lv_istore_n (pc := 23) (lv' := [(3, .int (I 22 0 nd)), (2, .int (I 22 0 nd)), (0, .ref (ad 20 0)), (1, .int (nI nd))]) hx hb dX4_find_23 rfl hl (by decide) rfl (fun ls hl => ?_)
    refine lv_iconst (pc := 24) (v := 0) hx hb dX4_find_24 (by decide) ?_
    refine lv_istore (pc := 25) (lv' := [(4, .int 0), (3, .int (I 22 0 nd)), (2, .int (I 22 0 nd)), (0, .ref (ad 20 0)), (1, .int (nI nd))]) hx hb dX4_find_25 hl (by decide) rfl (fun ls hl => ?_)
    have loop27 : ∀ (n : Nat) (j : Nat) (o : Int32) (ls : Array Slot) (H : Heap) (locs : List Loc), 8 - j < n → (j ≤ 8) → (ys_onw I nd 8 0 (I 22 0 nd) = ys_onw I nd (8 - j) j o) → nf_M D vwCl Bs (xS cs nn) ad I J P s.heap H locs → lv_has ls 6 [(4, .int (nI j)), (3, .int o), (2, .int (I 22 0 nd)), (0, .ref (ad 20 0)), (1, .int (nI nd))] → W p l e (nf_Rm 2 46) s m ([.ref (ad 20 0), .int (nI nd)] : List Value).toArray below meth c H locs 0 0 Q (F0 m 27 ls []) := by
      intro n
      induction n with
      | zero => exact fun _ _ _ _ _ hmz => absurd hmz (Nat.not_lt_zero _)
      | succ n ihloop27 =>
        intro j o ls H locs hmz hjn hf hM hl
        refine lv_iload (pc := 27) hx hb dX4_find_27 (lv_at hl 0 rfl) ?_
        refine lv_bipush (pc := 29) (v := nI 8) hx hb dX4_find_29 (by decide) ?_
        refine lv_icmp_ge (pc := 31) (tgt := 83) hx hb dX4_find_31 (by decide) (fun hh => ?_) (fun hh => ?_)
        · have hj5 : 8 ≤ j := (nI_leI (by omega) (by omega)).mp (by exact hh)
          refine lv_aload_n (pc := 83) hx hb dX4_find_83 rfl (lv_at hl 3 rfl) ?_
          refine lv_bipush (pc := 84) (v := 20) hx hb dX4_find_84 (by decide) ?_
          refine lv_aload_n (pc := 86) hx hb dX4_find_86 rfl (lv_at hl 3 rfl) ?_
          refine nf_geti (pc := 87) hC hinX4 hM rfl rfl 13 (by decide) (List.mem_cons_of_mem _ wF_X4_75) rfl dX4_find_87 ?_
          refine nf_callv (pc := 90) (va_runV (As := [.int 20, .int (nI rwn)]) (rest := []) hC.1 (ct_X4_copy (f := 20) (t := rwn) (by omega) (by omega)) (cwV 2 hC.1.2.2.2.2 (gd_V wM_X4_111 wi_X4_copy wsel_X4_copy wini_X4 wcode_X4_copy) rfl rfl rfl (by decide +kernel) ⟨by decide, by decide⟩) (nf_preV hC hM rfl rfl) rfl rfl hl.1 (by rw [hr]; rfl) (lv_room (Nat.le_of_ble_eq_true rfl)) dX4_find_90 ⟨Nat.le_refl _, Nat.le_refl _⟩) hM (fun H locs hM => ?_)
          refine lv_aload_n (pc := 93) hx hb dX4_find_93 rfl (lv_at hl 3 rfl) ?_
          refine nf_getr (pc := 94) hC hinX4 hM rfl rfl 15 (by decide) (List.mem_cons_of_mem _ wF_X4_44) rfl dX4_find_94 ?_
          refine lv_aload_n (pc := 97) hx hb dX4_find_97 rfl (lv_at hl 3 rfl) ?_
          refine nf_geti (pc := 98) hC hinX4 hM rfl rfl 13 (by decide) (List.mem_cons_of_mem _ wF_X4_75) rfl dX4_find_98 ?_
          refine lv_iload_n (pc := 101) hx hb dX4_find_101 rfl (lv_at hl 1 rfl) ?_
          refine nf_iast (pc := 102) hC hM 0 rfl rfl rwn (by simp [nf_iu, ys_cp_row hr]) (by omega) (by decide) dX4_find_102 (fun H locs hM => ?_)
          refine lv_aload_n (pc := 103) hx hb dX4_find_103 rfl (lv_at hl 3 rfl) ?_
          refine nf_getr (pc := 104) hC hinX4 hM rfl rfl 20 (by decide) (List.mem_cons_of_mem _ wF_X4_59) rfl dX4_find_104 ?_
          refine lv_aload_n (pc := 107) hx hb dX4_find_107 rfl (lv_at hl 3 rfl) ?_
          refine nf_geti (pc := 108) hC hinX4 hM rfl rfl 13 (by decide) (List.mem_cons_of_mem _ wF_X4_75) rfl dX4_find_108 ?_
          refine lv_aload_n (pc := 111) hx hb dX4_find_111 rfl (lv_at hl 3 rfl) ?_
          refine nf_getr (pc := 112) hC hinX4 hM rfl rfl 20 (by decide) (List.mem_cons_of_mem _ wF_X4_59) rfl dX4_find_112 ?_
          refine lv_bipush (pc := 115) (v := 20) hx hb dX4_find_115 (by decide) ?_
          refine nf_iald (pc := 117) hC hM 0 rfl rfl 20 rfl (by omega) (by decide) dX4_find_117 ?_
          refine lv_iconst (pc := 118) (v := 1) hx hb dX4_find_118 (by decide) ?_
          refine lv_iadd (pc := 119) hx hb dX4_find_119 ?_
          refine nf_iast (pc := 120) hC hM 0 rfl rfl rwn (by simp [nf_iu, ys_cp_row hr]) (by omega) (by decide) dX4_find_120 (fun H locs hM => ?_)
          refine lv_aload_n (pc := 121) hx hb dX4_find_121 rfl (lv_at hl 3 rfl) ?_
          refine lv_dup (pc := 122) hx hb dX4_find_122 rfl ?_
          refine nf_geti (pc := 123) hC hinX4 hM rfl rfl 13 (by decide) (List.mem_cons_of_mem _ wF_X4_75) rfl dX4_find_123 ?_
          refine lv_iconst (pc := 126) (v := 1) hx hb dX4_find_126 (by decide) ?_
          refine lv_iadd (pc := 127) hx hb dX4_find_127 ?_
          refine nf_puti (pc := 128) hC hinX4 tyX4 tyX4_ok nmX4 hM rfl rfl 13 (by decide) (List.mem_cons_of_mem _ wF_X4_75) rfl (by decide +kernel) rfl dX4_find_128 (fun H locs hM => ?_)
          exact hret _ _ _ _ _ _ _ (by rw [ys_fdI, if_pos h1, ys_fp, hf, show 8 - j = 0 by omega]; rfl) (by rw [ys_fdJ, if_pos h1]) rfl hM dX4_find_131
        · have hj5 : j < 8 := Nat.lt_of_not_le (fun z => hh (by exact (nI_leI (by omega) (by omega)).mpr z))
          refine lv_aload_n (pc := 34) hx hb dX4_find_34 rfl (lv_at hl 3 rfl) ?_
          refine nf_getr (pc := 35) hC hinX4 hM rfl rfl 4 (by decide) (List.mem_cons_of_mem _ wF_X4_19) rfl dX4_find_35 ?_
          refine lv_bipush (pc := 38) (v := 8) hx hb dX4_find_38 (by decide) ?_
          refine lv_iload_n (pc := 40) hx hb dX4_find_40 rfl (lv_at hl 4 rfl) ?_
          refine lv_imul (pc := 41) hx hb dX4_find_41 ?_
          refine lv_iload (pc := 42) hx hb dX4_find_42 (lv_at hl 0 rfl) ?_
          refine lv_iadd (pc := 44) hx hb dX4_find_44 ?_
          refine nf_iald (pc := 45) hC hM 0 rfl rfl (8 * nd + j) (nk_8 rfl rfl) (by omega) (by decide) dX4_find_45 ?_
          refine lv_istore (pc := 46) (lv' := [(5, .int (I 24 0 (8 * nd + j))), (4, .int (nI j)), (3, .int o), (2, .int (I 22 0 nd)), (0, .ref (ad 20 0)), (1, .int (nI nd))]) hx hb dX4_find_46 hl (by decide) rfl (fun ls hl => ?_)
          refine lv_iload (pc := 48) hx hb dX4_find_48 (lv_at hl 0 rfl) ?_
          refine lv_iconst (pc := 50) (v := -1) hx hb dX4_find_50 (by decide) ?_
          refine lv_icmp_eq (pc := 51) (tgt := 75) hx hb dX4_find_51 (by decide) (fun h6 => ?_) (fun h6 => ?_)
          · skip
            refine lv_iload_n (pc := 75) hx hb dX4_find_75 rfl (lv_at hl 2 rfl) ?_
            refine lv_istore_n (pc := 76) (lv' := [(3, .int o), (5, .int (I 24 0 (8 * nd + j))), (4, .int (nI j)), (2, .int (I 22 0 nd)), (0, .ref (ad 20 0)), (1, .int (nI nd))]) hx hb dX4_find_76 rfl hl (by decide) rfl (fun ls hl => ?_)
            refine lv_iinc (pc := 77) (k := 2) (v := nI (j + 1)) (lv' := [(4, .int (nI (j + 1))), (3, .int o), (5, .int (I 24 0 (8 * nd + j))), (2, .int (I 22 0 nd)), (0, .ref (ad 20 0)), (1, .int (nI nd))]) hx hb dX4_find_77 hl rfl (nI_1 _) (by decide) rfl (fun ls hl => ?_)
            refine lv_goto (pc := 80) (tgt := 27) hx hb dX4_find_80 (by decide) ?_
            exact ihloop27 (j + 1) o ls _ _ (by omega) (by omega) (by rw [hf, show 8 - j = (8 - (j + 1)) + 1 by omega, ys_onw]; congr 1; simp [h6]) hM (lv_sub hl [0, 1, 3, 4, 5] rfl)
          · skip
            refine lv_iload (pc := 54) hx hb dX4_find_54 (lv_at hl 0 rfl) ?_
            refine lv_iload_n (pc := 56) hx hb dX4_find_56 rfl (lv_at hl 5 rfl) ?_
            refine lv_aload_n (pc := 57) hx hb dX4_find_57 rfl (lv_at hl 4 rfl) ?_
            refine nf_getr (pc := 58) hC hinX4 hM rfl rfl 16 (by decide) (List.mem_cons_of_mem _ wF_X4_47) rfl dX4_find_58 ?_
            refine lv_bipush (pc := 61) (v := 20) hx hb dX4_find_61 (by decide) ?_
            refine nf_iald (pc := 63) hC hM 0 rfl rfl 20 rfl (by omega) (by decide) dX4_find_63 ?_
            refine nf_calli (pc := 64) (va_runS (As := [.int (I 24 0 (8 * nd + j)), .int (nI nd), .int (I 33 0 20)]) (rest := []) hC.1 (ct_X4_between) (cwS 3 hC.1.2.2.2.2 (gd_S wM_X4_130 wst_X4_between wini_X4 wcode_X4_between) rfl rfl rfl (by decide +kernel) ⟨by decide, by decide⟩) (nf_preS hC hM) rfl rfl hl.1 rfl (lv_room (Nat.le_of_ble_eq_true rfl)) dX4_find_64 ⟨Nat.le_refl _, Nat.le_refl _⟩) hM (fun H locs hM => ?_)
            refine lv_if_eq (pc := 67) (tgt := 75) hx hb dX4_find_67 (by decide) (fun h7 => ?_) (fun h7 => ?_)
            · have h7 := nb_0 h7
              refine lv_iload_n (pc := 75) hx hb dX4_find_75 rfl (lv_at hl 2 rfl) ?_
              refine lv_istore_n (pc := 76) (lv' := [(3, .int o), (5, .int (I 24 0 (8 * nd + j))), (4, .int (nI j)), (2, .int (I 22 0 nd)), (0, .ref (ad 20 0)), (1, .int (nI nd))]) hx hb dX4_find_76 rfl hl (by decide) rfl (fun ls hl => ?_)
              refine lv_iinc (pc := 77) (k := 2) (v := nI (j + 1)) (lv' := [(4, .int (nI (j + 1))), (3, .int o), (5, .int (I 24 0 (8 * nd + j))), (2, .int (I 22 0 nd)), (0, .ref (ad 20 0)), (1, .int (nI nd))]) hx hb dX4_find_77 hl rfl (nI_1 _) (by decide) rfl (fun ls hl => ?_)
              refine lv_goto (pc := 80) (tgt := 27) hx hb dX4_find_80 (by decide) ?_
              exact ihloop27 (j + 1) o ls _ _ (by omega) (by omega) (by rw [hf, show 8 - j = (8 - (j + 1)) + 1 by omega, ys_onw]; congr 1; simp [h6, h7]) hM (lv_sub hl [0, 1, 3, 4, 5] rfl)
            · have h7 := nb_1 h7
              refine lv_iload (pc := 70) hx hb dX4_find_70 (lv_at hl 0 rfl) ?_
              refine lv_goto (pc := 72) (tgt := 76) hx hb dX4_find_72 (by decide) ?_
              refine lv_istore_n (pc := 76) (lv' := [(3, .int (I 24 0 (8 * nd + j))), (5, .int (I 24 0 (8 * nd + j))), (4, .int (nI j)), (2, .int (I 22 0 nd)), (0, .ref (ad 20 0)), (1, .int (nI nd))]) hx hb dX4_find_76 rfl hl (by decide) rfl (fun ls hl => ?_)
              refine lv_iinc (pc := 77) (k := 2) (v := nI (j + 1)) (lv' := [(4, .int (nI (j + 1))), (3, .int (I 24 0 (8 * nd + j))), (5, .int (I 24 0 (8 * nd + j))), (2, .int (I 22 0 nd)), (0, .ref (ad 20 0)), (1, .int (nI nd))]) hx hb dX4_find_77 hl rfl (nI_1 _) (by decide) rfl (fun ls hl => ?_)
              refine lv_goto (pc := 80) (tgt := 27) hx hb dX4_find_80 (by decide) ?_
              exact ihloop27 (j + 1) (I 24 0 (8 * nd + j)) ls _ _ (by omega) (by omega) (by rw [hf, show 8 - j = (8 - (j + 1)) + 1 by omega, ys_onw]; congr 1; simp [h6, h7]) hM (lv_sub hl [0, 1, 3, 4, 5] rfl)
    exact loop27 _ 0 (I 22 0 nd) ls _ _ (Nat.lt_succ_self _) (Nat.zero_le _) rfl hM hl
end YE
