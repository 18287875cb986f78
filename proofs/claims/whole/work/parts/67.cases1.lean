set_option maxHeartbeats 4000000 in
set_option maxRecDepth 100000 in
theorem K_hash {p : Program} {l : Launch} {e : Env} {s : State} {m : MethodId} {below : List Frame} {meth : Method} {c : Code} {b L : Nat} {xs : Nat → Int32} {D : va_G} {cy : Nat → ClassId} {Ad Ad2 : Nat → Nat} {n : Nat} (E : lw_E p s m c b L xs D cy Ad Ad2 n) (hL : L ≤ 2561) {i : Nat} (hi : i + 4 < L) {mm : Nat} {nx : Nat → Nat → Nat} {mx : Nat → Nat → Option Nat} {en : Nat → Bool} {am wt : Nat → Nat} {C C2 : pw_C} {H : Heap} {locs : List Loc} {ls : Array Slot} (Iv : lw_I s D cy Ad Ad2 n mm nx mx en am wt C C2 H locs) (hl : lv_has ls 4 [(3, .int (nI i)), (2, .ref (Ad2 0)), (1, .ref (Ad 0)), (0, .ref b)]) (hq : ∀ (mm : Nat) (nx : Nat → Nat → Nat) (mx : Nat → Nat → Option Nat) (en : Nat → Bool) (am wt : Nat → Nat) (C C2 : pw_C) (H : Heap) (locs : List Loc) (ls : Array Slot), lw_I s D cy Ad Ad2 n mm nx mx en am wt C C2 H locs → lv_has ls 4 [(3, .int (nI i)), (2, .ref (Ad2 0)), (1, .ref (Ad 0)), (0, .ref b)] → W p l e room_1 s m #[Value.ref b] below meth c H locs 600000 7302250 (lw_Z below #[Value.ref b] s) (F0 m 1137 ls [])) : W p l e room_1 s m #[Value.ref b] below meth c H locs 600000 7302250 (lw_Z below #[Value.ref b] s) (F0 m 156 ls []) := by
  obtain ⟨S, hX0, hbl, hK, hI, hI2, hn, hd12, hd21, hge, hge2⟩ := E
  obtain ⟨hmm, hP, hP2, hX, hM, hS⟩ := Iv
  have hbA : ¬ (fun q : Nat => s.heap.size ≤ q) b := Nat.not_le.mpr hbl
  have hx := S.1
  have hb := S.2.1
  have hown := S.2.2.2.1
  have hts := S.2.2.2.2
  refine lv_aload_n hx hb dL_law_156 rfl (lv_at hl 2 rfl) ?_
  refine lv_aload_n hx hb dL_law_157 rfl (lv_at hl 3 rfl) ?_
  refine lv_iload_n hx hb dL_law_158 rfl (lv_at hl 0 rfl) ?_
  refine lv_iconst (v := nI 1) hx hb dL_law_159 (by decide) ?_
  refine lv_iadd hx hb dL_law_160 ?_
  refine pw_topi (nI_add _ _) ?_
  refine va_sld hx hb hX0 hbl hbA hS (vp_in_nI (by omega) (by omega)) dL_law_161 ?_
  refine pw_topi (y := xs (i + 1)) (congrArg xs (nI_clamp (by omega))) ?_
  refine lv_aload_n hx hb dL_law_162 rfl (lv_at hl 3 rfl) ?_
  refine lv_iload_n hx hb dL_law_163 rfl (lv_at hl 0 rfl) ?_
  refine lv_iconst (v := nI 2) hx hb dL_law_164 (by decide) ?_
  refine lv_iadd hx hb dL_law_165 ?_
  refine pw_topi (nI_add _ _) ?_
  refine va_sld hx hb hX0 hbl hbA hS (vp_in_nI (by omega) (by omega)) dL_law_166 ?_
  refine pw_topi (y := xs (i + 2)) (congrArg xs (nI_clamp (by omega))) ?_
  refine pw_cv S hK hP 0 4 rfl rfl 2 (c_X4_hash l D cy Ad n mm C hI hn hmm nx mx en am wt hX (xs (i + 1)) (xs (i + 2))) gL_law_X4_hash rfl rfl rfl (by decide +kernel) ⟨Nat.le_of_ble_eq_true rfl, Nat.le_of_ble_eq_true rfl⟩ rfl hl.1 rfl (Nat.le_of_ble_eq_true rfl) dL_law_167 ⟨Nat.le_refl _, Nat.le_refl _⟩ ?_
  refine lv_aload_n hx hb dL_law_170 rfl (lv_at hl 1 rfl) ?_
  refine lv_aload_n hx hb dL_law_171 rfl (lv_at hl 3 rfl) ?_
  refine lv_iload_n hx hb dL_law_172 rfl (lv_at hl 0 rfl) ?_
  refine lv_iconst (v := nI 1) hx hb dL_law_173 (by decide) ?_
  refine lv_iadd hx hb dL_law_174 ?_
  refine pw_topi (nI_add _ _) ?_
  refine va_sld hx hb hX0 hbl hbA hS (vp_in_nI (by omega) (by omega)) dL_law_175 ?_
  refine pw_topi (y := xs (i + 1)) (congrArg xs (nI_clamp (by omega))) ?_
  refine lv_aload_n hx hb dL_law_176 rfl (lv_at hl 3 rfl) ?_
  refine lv_iload_n hx hb dL_law_177 rfl (lv_at hl 0 rfl) ?_
  refine lv_iconst (v := nI 2) hx hb dL_law_178 (by decide) ?_
  refine lv_iadd hx hb dL_law_179 ?_
  refine pw_topi (nI_add _ _) ?_
  refine va_sld hx hb hX0 hbl hbA hS (vp_in_nI (by omega) (by omega)) dL_law_180 ?_
  refine pw_topi (y := xs (i + 2)) (congrArg xs (nI_clamp (by omega))) ?_
  obtain ⟨pk9, tr9, hF9⟩ := hM.1
  refine pw_cv S hK hP2 0 5 rfl rfl 2 (c_X5_hash l D cy Ad2 n mm pk9 tr9 C2 hn hF9 (xs (i + 1)) (xs (i + 2))) gL_law_X5_hash rfl rfl rfl (by decide +kernel) ⟨Nat.le_of_ble_eq_true rfl, Nat.le_of_ble_eq_true rfl⟩ rfl hl.1 rfl (Nat.le_of_ble_eq_true rfl) dL_law_181 ⟨Nat.le_refl _, Nat.le_refl _⟩ ?_
  refine lv_icmp_eq (tgt := 1137) hx hb dL_law_184 (by decide) (fun c_184 => ?_) (fun c_184 => absurd c_184 (fun h9 => h9 rfl))
  exact hq _ _ _ _ _ _ _ _ _ _ ls ⟨hmm, hP, hP2, hX, hM, hS⟩ hl

set_option maxHeartbeats 4000000 in
set_option maxRecDepth 100000 in
theorem K_pick {p : Program} {l : Launch} {e : Env} {s : State} {m : MethodId} {below : List Frame} {meth : Method} {c : Code} {b L : Nat} {xs : Nat → Int32} {D : va_G} {cy : Nat → ClassId} {Ad Ad2 : Nat → Nat} {n : Nat} (E : lw_E p s m c b L xs D cy Ad Ad2 n) (hL : L ≤ 2561) {i : Nat} (hi : i + 4 < L) {mm : Nat} {nx : Nat → Nat → Nat} {mx : Nat → Nat → Option Nat} {en : Nat → Bool} {am wt : Nat → Nat} {C C2 : pw_C} {H : Heap} {locs : List Loc} {ls : Array Slot} (Iv : lw_I s D cy Ad Ad2 n mm nx mx en am wt C C2 H locs) (hl : lv_has ls 4 [(3, .int (nI i)), (2, .ref (Ad2 0)), (1, .ref (Ad 0)), (0, .ref b)]) (hq : ∀ (mm : Nat) (nx : Nat → Nat → Nat) (mx : Nat → Nat → Option Nat) (en : Nat → Bool) (am wt : Nat → Nat) (C C2 : pw_C) (H : Heap) (locs : List Loc) (ls : Array Slot), lw_I s D cy Ad Ad2 n mm nx mx en am wt C C2 H locs → lv_has ls 4 [(3, .int (nI i)), (2, .ref (Ad2 0)), (1, .ref (Ad 0)), (0, .ref b)] → W p l e room_1 s m #[Value.ref b] below meth c H locs 600000 7302250 (lw_Z below #[Value.ref b] s) (F0 m 1137 ls [])) : W p l e room_1 s m #[Value.ref b] below meth c H locs 600000 7302250 (lw_Z below #[Value.ref b] s) (F0 m 189 ls []) := by
  obtain ⟨S, hX0, hbl, hK, hI, hI2, hn, hd12, hd21, hge, hge2⟩ := E
  obtain ⟨hmm, hP, hP2, hX, hM, hS⟩ := Iv
  have hbA : ¬ (fun q : Nat => s.heap.size ≤ q) b := Nat.not_le.mpr hbl
  have hx := S.1
  have hb := S.2.1
  have hown := S.2.2.2.1
  have hts := S.2.2.2.2
  refine lv_aload_n hx hb dL_law_189 rfl (lv_at hl 2 rfl) ?_
  refine lv_aload_n hx hb dL_law_190 rfl (lv_at hl 3 rfl) ?_
  refine lv_iload_n hx hb dL_law_191 rfl (lv_at hl 0 rfl) ?_
  refine lv_iconst (v := nI 1) hx hb dL_law_192 (by decide) ?_
  refine lv_iadd hx hb dL_law_193 ?_
  refine pw_topi (nI_add _ _) ?_
  refine va_sld hx hb hX0 hbl hbA hS (vp_in_nI (by omega) (by omega)) dL_law_194 ?_
  refine pw_topi (y := xs (i + 1)) (congrArg xs (nI_clamp (by omega))) ?_
  refine lv_aload_n hx hb dL_law_195 rfl (lv_at hl 3 rfl) ?_
  refine lv_iload_n hx hb dL_law_196 rfl (lv_at hl 0 rfl) ?_
  refine lv_iconst (v := nI 2) hx hb dL_law_197 (by decide) ?_
  refine lv_iadd hx hb dL_law_198 ?_
  refine pw_topi (nI_add _ _) ?_
  refine va_sld hx hb hX0 hbl hbA hS (vp_in_nI (by omega) (by omega)) dL_law_199 ?_
  refine pw_topi (y := xs (i + 2)) (congrArg xs (nI_clamp (by omega))) ?_
  refine lv_i2l hx hb dL_law_200 rfl ?_
  refine lv_bipush (v := nI 32) hx hb dL_law_201 (by decide) ?_
  refine lv_lshl hx hb dL_law_203 rfl ?_
  refine lv_aload_n hx hb dL_law_204 rfl (lv_at hl 3 rfl) ?_
  refine lv_iload_n hx hb dL_law_205 rfl (lv_at hl 0 rfl) ?_
  refine lv_iconst (v := nI 3) hx hb dL_law_206 (by decide) ?_
  refine lv_iadd hx hb dL_law_207 ?_
  refine pw_topi (nI_add _ _) ?_
  refine va_sld hx hb hX0 hbl hbA hS (vp_in_nI (by omega) (by omega)) dL_law_208 ?_
  refine pw_topi (y := xs (i + 3)) (congrArg xs (nI_clamp (by omega))) ?_
  refine lv_i2l hx hb dL_law_209 rfl ?_
  refine lv_ldc2 hx hb hown (hts _ lw_c26) dL_law_210 ?_
  refine lv_land hx hb dL_law_213 ?_
  refine lv_lor hx hb dL_law_214 ?_
  refine pw_cv S hK hP 0 4 rfl rfl 2 (c_X4_pick l D cy Ad n mm C hI hn hmm nx mx en am wt hX (xs (i + 1)) ((((xs (i + 2)).toInt64) <<< ((nI 32).toInt64 &&& 63)) ||| (((xs (i + 3)).toInt64) &&& (4294967295)))) gL_law_X4_pick rfl rfl rfl (by decide +kernel) ⟨Nat.le_of_ble_eq_true rfl, Nat.le_of_ble_eq_true rfl⟩ rfl hl.1 rfl (Nat.le_of_ble_eq_true rfl) dL_law_215 ⟨Nat.le_refl _, Nat.le_refl _⟩ ?_
  refine lv_aload_n hx hb dL_law_218 rfl (lv_at hl 1 rfl) ?_
  refine lv_aload_n hx hb dL_law_219 rfl (lv_at hl 3 rfl) ?_
  refine lv_iload_n hx hb dL_law_220 rfl (lv_at hl 0 rfl) ?_
  refine lv_iconst (v := nI 1) hx hb dL_law_221 (by decide) ?_
  refine lv_iadd hx hb dL_law_222 ?_
  refine pw_topi (nI_add _ _) ?_
  refine va_sld hx hb hX0 hbl hbA hS (vp_in_nI (by omega) (by omega)) dL_law_223 ?_
  refine pw_topi (y := xs (i + 1)) (congrArg xs (nI_clamp (by omega))) ?_
  refine lv_aload_n hx hb dL_law_224 rfl (lv_at hl 3 rfl) ?_
  refine lv_iload_n hx hb dL_law_225 rfl (lv_at hl 0 rfl) ?_
  refine lv_iconst (v := nI 2) hx hb dL_law_226 (by decide) ?_
  refine lv_iadd hx hb dL_law_227 ?_
  refine pw_topi (nI_add _ _) ?_
  refine va_sld hx hb hX0 hbl hbA hS (vp_in_nI (by omega) (by omega)) dL_law_228 ?_
  refine pw_topi (y := xs (i + 2)) (congrArg xs (nI_clamp (by omega))) ?_
  refine lv_i2l hx hb dL_law_229 rfl ?_
  refine lv_bipush (v := nI 32) hx hb dL_law_230 (by decide) ?_
  refine lv_lshl hx hb dL_law_232 rfl ?_
  refine lv_aload_n hx hb dL_law_233 rfl (lv_at hl 3 rfl) ?_
  refine lv_iload_n hx hb dL_law_234 rfl (lv_at hl 0 rfl) ?_
  refine lv_iconst (v := nI 3) hx hb dL_law_235 (by decide) ?_
  refine lv_iadd hx hb dL_law_236 ?_
  refine pw_topi (nI_add _ _) ?_
  refine va_sld hx hb hX0 hbl hbA hS (vp_in_nI (by omega) (by omega)) dL_law_237 ?_
  refine pw_topi (y := xs (i + 3)) (congrArg xs (nI_clamp (by omega))) ?_
  refine lv_i2l hx hb dL_law_238 rfl ?_
  refine lv_ldc2 hx hb hown (hts _ lw_c26) dL_law_239 ?_
  refine lv_land hx hb dL_law_242 ?_
  refine lv_lor hx hb dL_law_243 ?_
  refine pw_cvW S hK hP2 0 5 rfl rfl 2 (c_X5_pick l D cy Ad2 n mm C2 hI2 hn hmm nx mx en am wt hM (xs (i + 1)) ((((xs (i + 2)).toInt64) <<< ((nI 32).toInt64 &&& 63)) ||| (((xs (i + 3)).toInt64) &&& (4294967295)))) gL_law_X5_pick rfl rfl rfl (by decide +kernel) ⟨Nat.le_of_ble_eq_true rfl, Nat.le_of_ble_eq_true rfl⟩ rfl hl.1 rfl (Nat.le_of_ble_eq_true rfl) dL_law_244 ⟨Nat.le_refl _, Nat.le_refl _⟩ hS hge2 (fun r9 C3 H3 locs3 hR hP2 hz9 hk9 hS => ?_)
  obtain ⟨rfl, hM1⟩ := hR
  have hP := hP.kp hk9 hd21
  change W p l e room_1 s m _ below meth c _ _ _ _ _ (F0 m 247 ls [.long (f_pick (xs (i + 1)) ((((xs (i + 2)).toInt64) <<< ((nI 32).toInt64 &&& 63)) ||| (((xs (i + 3)).toInt64) &&& (4294967295)))), .long (f_pick (xs (i + 1)) ((((xs (i + 2)).toInt64) <<< ((nI 32).toInt64 &&& 63)) ||| (((xs (i + 3)).toInt64) &&& (4294967295))))])
  refine W.lcmp hx hb dL_law_247 ?_
  refine pn_lif_eq (tgt := 1137) hx hb dL_law_248 (by decide) (fun c_248 => ?_) (fun c_248 => absurd c_248 (fun h9 => h9 rfl))
  exact hq _ _ _ _ _ _ _ _ _ _ ls ⟨hmm, hP, hP2, hX, hM1, hS⟩ hl

set_option maxHeartbeats 4000000 in
set_option maxRecDepth 100000 in
theorem K_tries {p : Program} {l : Launch} {e : Env} {s : State} {m : MethodId} {below : List Frame} {meth : Method} {c : Code} {b L : Nat} {xs : Nat → Int32} {D : va_G} {cy : Nat → ClassId} {Ad Ad2 : Nat → Nat} {n : Nat} (E : lw_E p s m c b L xs D cy Ad Ad2 n) (hL : L ≤ 2561) {i : Nat} (hi : i + 4 < L) {mm : Nat} {nx : Nat → Nat → Nat} {mx : Nat → Nat → Option Nat} {en : Nat → Bool} {am wt : Nat → Nat} {C C2 : pw_C} {H : Heap} {locs : List Loc} {ls : Array Slot} (Iv : lw_I s D cy Ad Ad2 n mm nx mx en am wt C C2 H locs) (hl : lv_has ls 4 [(3, .int (nI i)), (2, .ref (Ad2 0)), (1, .ref (Ad 0)), (0, .ref b)]) (hq : ∀ (mm : Nat) (nx : Nat → Nat → Nat) (mx : Nat → Nat → Option Nat) (en : Nat → Bool) (am wt : Nat → Nat) (C C2 : pw_C) (H : Heap) (locs : List Loc) (ls : Array Slot), lw_I s D cy Ad Ad2 n mm nx mx en am wt C C2 H locs → lv_has ls 4 [(3, .int (nI i)), (2, .ref (Ad2 0)), (1, .ref (Ad 0)), (0, .ref b)] → W p l e room_1 s m #[Value.ref b] below meth c H locs 600000 7302250 (lw_Z below #[Value.ref b] s) (F0 m 1137 ls [])) : W p l e room_1 s m #[Value.ref b] below meth c H locs 600000 7302250 (lw_Z below #[Value.ref b] s) (F0 m 253 ls []) := by
  obtain ⟨S, hX0, hbl, hK, hI, hI2, hn, hd12, hd21, hge, hge2⟩ := E
  obtain ⟨hmm, hP, hP2, hX, hM, hS⟩ := Iv
  have hbA : ¬ (fun q : Nat => s.heap.size ≤ q) b := Nat.not_le.mpr hbl
  have hx := S.1
  have hb := S.2.1
  have hown := S.2.2.2.1
  have hts := S.2.2.2.2
  refine lv_aload_n hx hb dL_law_253 rfl (lv_at hl 2 rfl) ?_
  refine lv_aload_n hx hb dL_law_254 rfl (lv_at hl 3 rfl) ?_
  refine lv_iload_n hx hb dL_law_255 rfl (lv_at hl 0 rfl) ?_
  refine lv_iconst (v := nI 1) hx hb dL_law_256 (by decide) ?_
  refine lv_iadd hx hb dL_law_257 ?_
  refine pw_topi (nI_add _ _) ?_
  refine va_sld hx hb hX0 hbl hbA hS (vp_in_nI (by omega) (by omega)) dL_law_258 ?_
  refine pw_topi (y := xs (i + 1)) (congrArg xs (nI_clamp (by omega))) ?_
  refine lv_aload_n hx hb dL_law_259 rfl (lv_at hl 3 rfl) ?_
  refine lv_iload_n hx hb dL_law_260 rfl (lv_at hl 0 rfl) ?_
  refine lv_iconst (v := nI 2) hx hb dL_law_261 (by decide) ?_
  refine lv_iadd hx hb dL_law_262 ?_
  refine pw_topi (nI_add _ _) ?_
  refine va_sld hx hb hX0 hbl hbA hS (vp_in_nI (by omega) (by omega)) dL_law_263 ?_
  refine pw_topi (y := xs (i + 2)) (congrArg xs (nI_clamp (by omega))) ?_
  refine lv_i2l hx hb dL_law_264 rfl ?_
  refine lv_bipush (v := nI 32) hx hb dL_law_265 (by decide) ?_
  refine lv_lshl hx hb dL_law_267 rfl ?_
  refine lv_aload_n hx hb dL_law_268 rfl (lv_at hl 3 rfl) ?_
  refine lv_iload_n hx hb dL_law_269 rfl (lv_at hl 0 rfl) ?_
  refine lv_iconst (v := nI 3) hx hb dL_law_270 (by decide) ?_
  refine lv_iadd hx hb dL_law_271 ?_
  refine pw_topi (nI_add _ _) ?_
  refine va_sld hx hb hX0 hbl hbA hS (vp_in_nI (by omega) (by omega)) dL_law_272 ?_
  refine pw_topi (y := xs (i + 3)) (congrArg xs (nI_clamp (by omega))) ?_
  refine lv_i2l hx hb dL_law_273 rfl ?_
  refine lv_ldc2 hx hb hown (hts _ lw_c26) dL_law_274 ?_
  refine lv_land hx hb dL_law_277 ?_
  refine lv_lor hx hb dL_law_278 ?_
  refine pw_cv S hK hP 0 4 rfl rfl 2 (c_X4_tries l D cy Ad n mm C hI hn hmm nx mx en am wt hX (xs (i + 1)) ((((xs (i + 2)).toInt64) <<< ((nI 32).toInt64 &&& 63)) ||| (((xs (i + 3)).toInt64) &&& (4294967295)))) gL_law_X4_tries rfl rfl rfl (by decide +kernel) ⟨Nat.le_of_ble_eq_true rfl, Nat.le_of_ble_eq_true rfl⟩ rfl hl.1 rfl (Nat.le_of_ble_eq_true rfl) dL_law_279 ⟨Nat.le_refl _, Nat.le_refl _⟩ ?_
  refine lv_aload_n hx hb dL_law_282 rfl (lv_at hl 1 rfl) ?_
  refine lv_aload_n hx hb dL_law_283 rfl (lv_at hl 3 rfl) ?_
  refine lv_iload_n hx hb dL_law_284 rfl (lv_at hl 0 rfl) ?_
  refine lv_iconst (v := nI 1) hx hb dL_law_285 (by decide) ?_
  refine lv_iadd hx hb dL_law_286 ?_
  refine pw_topi (nI_add _ _) ?_
  refine va_sld hx hb hX0 hbl hbA hS (vp_in_nI (by omega) (by omega)) dL_law_287 ?_
  refine pw_topi (y := xs (i + 1)) (congrArg xs (nI_clamp (by omega))) ?_
  refine lv_aload_n hx hb dL_law_288 rfl (lv_at hl 3 rfl) ?_
  refine lv_iload_n hx hb dL_law_289 rfl (lv_at hl 0 rfl) ?_
  refine lv_iconst (v := nI 2) hx hb dL_law_290 (by decide) ?_
  refine lv_iadd hx hb dL_law_291 ?_
  refine pw_topi (nI_add _ _) ?_
  refine va_sld hx hb hX0 hbl hbA hS (vp_in_nI (by omega) (by omega)) dL_law_292 ?_
  refine pw_topi (y := xs (i + 2)) (congrArg xs (nI_clamp (by omega))) ?_
  refine lv_i2l hx hb dL_law_293 rfl ?_
  refine lv_bipush (v := nI 32) hx hb dL_law_294 (by decide) ?_
  refine lv_lshl hx hb dL_law_296 rfl ?_
  refine lv_aload_n hx hb dL_law_297 rfl (lv_at hl 3 rfl) ?_
  refine lv_iload_n hx hb dL_law_298 rfl (lv_at hl 0 rfl) ?_
  refine lv_iconst (v := nI 3) hx hb dL_law_299 (by decide) ?_
  refine lv_iadd hx hb dL_law_300 ?_
  refine pw_topi (nI_add _ _) ?_
  refine va_sld hx hb hX0 hbl hbA hS (vp_in_nI (by omega) (by omega)) dL_law_301 ?_
  refine pw_topi (y := xs (i + 3)) (congrArg xs (nI_clamp (by omega))) ?_
  refine lv_i2l hx hb dL_law_302 rfl ?_
  refine lv_ldc2 hx hb hown (hts _ lw_c26) dL_law_303 ?_
  refine lv_land hx hb dL_law_306 ?_
  refine lv_lor hx hb dL_law_307 ?_
  refine pw_cvW S hK hP2 0 5 rfl rfl 2 (c_X5_tries l D cy Ad2 n mm C2 hI2 hn hmm nx mx en am wt hM (xs (i + 1)) ((((xs (i + 2)).toInt64) <<< ((nI 32).toInt64 &&& 63)) ||| (((xs (i + 3)).toInt64) &&& (4294967295)))) gL_law_X5_tries rfl rfl rfl (by decide +kernel) ⟨Nat.le_of_ble_eq_true rfl, Nat.le_of_ble_eq_true rfl⟩ rfl hl.1 rfl (Nat.le_of_ble_eq_true rfl) dL_law_308 ⟨Nat.le_refl _, Nat.le_refl _⟩ hS hge2 (fun r9 C3 H3 locs3 hR hP2 hz9 hk9 hS => ?_)
  obtain ⟨rfl, hM1⟩ := hR
  have hP := hP.kp hk9 hd21
  change W p l e room_1 s m _ below meth c _ _ _ _ _ (F0 m 311 ls [.int (f_tries (xs (i + 1)) ((((xs (i + 2)).toInt64) <<< ((nI 32).toInt64 &&& 63)) ||| (((xs (i + 3)).toInt64) &&& (4294967295)))), .int (f_tries (xs (i + 1)) ((((xs (i + 2)).toInt64) <<< ((nI 32).toInt64 &&& 63)) ||| (((xs (i + 3)).toInt64) &&& (4294967295))))])
  refine lv_icmp_eq (tgt := 1137) hx hb dL_law_311 (by decide) (fun c_311 => ?_) (fun c_311 => absurd c_311 (fun h9 => h9 rfl))
  exact hq _ _ _ _ _ _ _ _ _ _ ls ⟨hmm, hP, hP2, hX, hM1, hS⟩ hl

set_option maxHeartbeats 4000000 in
set_option maxRecDepth 100000 in
theorem K_rule {p : Program} {l : Launch} {e : Env} {s : State} {m : MethodId} {below : List Frame} {meth : Method} {c : Code} {b L : Nat} {xs : Nat → Int32} {D : va_G} {cy : Nat → ClassId} {Ad Ad2 : Nat → Nat} {n : Nat} (E : lw_E p s m c b L xs D cy Ad Ad2 n) (hL : L ≤ 2561) {i : Nat} (hi : i + 4 < L) {mm : Nat} {nx : Nat → Nat → Nat} {mx : Nat → Nat → Option Nat} {en : Nat → Bool} {am wt : Nat → Nat} {C C2 : pw_C} {H : Heap} {locs : List Loc} {ls : Array Slot} (Iv : lw_I s D cy Ad Ad2 n mm nx mx en am wt C C2 H locs) (hl : lv_has ls 4 [(3, .int (nI i)), (2, .ref (Ad2 0)), (1, .ref (Ad 0)), (0, .ref b)]) (hq : ∀ (mm : Nat) (nx : Nat → Nat → Nat) (mx : Nat → Nat → Option Nat) (en : Nat → Bool) (am wt : Nat → Nat) (C C2 : pw_C) (H : Heap) (locs : List Loc) (ls : Array Slot), lw_I s D cy Ad Ad2 n mm nx mx en am wt C C2 H locs → lv_has ls 4 [(3, .int (nI i)), (2, .ref (Ad2 0)), (1, .ref (Ad 0)), (0, .ref b)] → W p l e room_1 s m #[Value.ref b] below meth c H locs 600000 7302250 (lw_Z below #[Value.ref b] s) (F0 m 1137 ls [])) : W p l e room_1 s m #[Value.ref b] below meth c H locs 600000 7302250 (lw_Z below #[Value.ref b] s) (F0 m 316 ls []) := by
  obtain ⟨S, hX0, hbl, hK, hI, hI2, hn, hd12, hd21, hge, hge2⟩ := E
  obtain ⟨hmm, hP, hP2, hX, hM, hS⟩ := Iv
  have hbA : ¬ (fun q : Nat => s.heap.size ≤ q) b := Nat.not_le.mpr hbl
  have hx := S.1
  have hb := S.2.1
  have hown := S.2.2.2.1
  have hts := S.2.2.2.2
  refine lv_aload_n hx hb dL_law_316 rfl (lv_at hl 2 rfl) ?_
  refine lv_aload_n hx hb dL_law_317 rfl (lv_at hl 3 rfl) ?_
  refine lv_iload_n hx hb dL_law_318 rfl (lv_at hl 0 rfl) ?_
  refine lv_iconst (v := nI 1) hx hb dL_law_319 (by decide) ?_
  refine lv_iadd hx hb dL_law_320 ?_
  refine pw_topi (nI_add _ _) ?_
  refine va_sld hx hb hX0 hbl hbA hS (vp_in_nI (by omega) (by omega)) dL_law_321 ?_
  refine pw_topi (y := xs (i + 1)) (congrArg xs (nI_clamp (by omega))) ?_
  refine lv_aload_n hx hb dL_law_322 rfl (lv_at hl 3 rfl) ?_
  refine lv_iload_n hx hb dL_law_323 rfl (lv_at hl 0 rfl) ?_
  refine lv_iconst (v := nI 2) hx hb dL_law_324 (by decide) ?_
  refine lv_iadd hx hb dL_law_325 ?_
  refine pw_topi (nI_add _ _) ?_
  refine va_sld hx hb hX0 hbl hbA hS (vp_in_nI (by omega) (by omega)) dL_law_326 ?_
  refine pw_topi (y := xs (i + 2)) (congrArg xs (nI_clamp (by omega))) ?_
  refine lv_aload_n hx hb dL_law_327 rfl (lv_at hl 3 rfl) ?_
  refine lv_iload_n hx hb dL_law_328 rfl (lv_at hl 0 rfl) ?_
  refine lv_iconst (v := nI 3) hx hb dL_law_329 (by decide) ?_
  refine lv_iadd hx hb dL_law_330 ?_
  refine pw_topi (nI_add _ _) ?_
  refine va_sld hx hb hX0 hbl hbA hS (vp_in_nI (by omega) (by omega)) dL_law_331 ?_
  refine pw_topi (y := xs (i + 3)) (congrArg xs (nI_clamp (by omega))) ?_
  refine pw_cvW S hK hP 0 4 rfl rfl 3 (c_X4_rule l D cy Ad n mm C hI hn hmm nx mx en am wt hX (xs (i + 1)) (xs (i + 2)) (xs (i + 3))) gL_law_X4_rule rfl rfl rfl (by decide +kernel) ⟨Nat.le_of_ble_eq_true rfl, Nat.le_of_ble_eq_true rfl⟩ rfl hl.1 rfl (Nat.le_of_ble_eq_true rfl) dL_law_332 ⟨Nat.le_refl _, Nat.le_refl _⟩ hS hge (fun r9 C1 H1 locs1 hR hP hz9 hk9 hS => ?_)
  obtain ⟨rfl, hX1⟩ := hR
  have hP2 := hP2.kp hk9 hd12
  change W p l e room_1 s m _ below meth c _ _ _ _ _ (F0 m 335 ls [.int (f_rule n nx (xs (i + 1)) (xs (i + 2)) (xs (i + 3)))])
  refine lv_aload_n hx hb dL_law_335 rfl (lv_at hl 1 rfl) ?_
  refine lv_aload_n hx hb dL_law_336 rfl (lv_at hl 3 rfl) ?_
  refine lv_iload_n hx hb dL_law_337 rfl (lv_at hl 0 rfl) ?_
  refine lv_iconst (v := nI 1) hx hb dL_law_338 (by decide) ?_
  refine lv_iadd hx hb dL_law_339 ?_
  refine pw_topi (nI_add _ _) ?_
  refine va_sld hx hb hX0 hbl hbA hS (vp_in_nI (by omega) (by omega)) dL_law_340 ?_
  refine pw_topi (y := xs (i + 1)) (congrArg xs (nI_clamp (by omega))) ?_
  refine lv_aload_n hx hb dL_law_341 rfl (lv_at hl 3 rfl) ?_
  refine lv_iload_n hx hb dL_law_342 rfl (lv_at hl 0 rfl) ?_
  refine lv_iconst (v := nI 2) hx hb dL_law_343 (by decide) ?_
  refine lv_iadd hx hb dL_law_344 ?_
  refine pw_topi (nI_add _ _) ?_
  refine va_sld hx hb hX0 hbl hbA hS (vp_in_nI (by omega) (by omega)) dL_law_345 ?_
  refine pw_topi (y := xs (i + 2)) (congrArg xs (nI_clamp (by omega))) ?_
  refine lv_aload_n hx hb dL_law_346 rfl (lv_at hl 3 rfl) ?_
  refine lv_iload_n hx hb dL_law_347 rfl (lv_at hl 0 rfl) ?_
  refine lv_iconst (v := nI 3) hx hb dL_law_348 (by decide) ?_
  refine lv_iadd hx hb dL_law_349 ?_
  refine pw_topi (nI_add _ _) ?_
  refine va_sld hx hb hX0 hbl hbA hS (vp_in_nI (by omega) (by omega)) dL_law_350 ?_
  refine pw_topi (y := xs (i + 3)) (congrArg xs (nI_clamp (by omega))) ?_
  refine pw_cvW S hK hP2 0 5 rfl rfl 3 (c_X5_rule l D cy Ad2 n mm C2 hI2 hn hmm nx mx en am wt hM (xs (i + 1)) (xs (i + 2)) (xs (i + 3))) gL_law_X5_rule rfl rfl rfl (by decide +kernel) ⟨Nat.le_of_ble_eq_true rfl, Nat.le_of_ble_eq_true rfl⟩ rfl hl.1 rfl (Nat.le_of_ble_eq_true rfl) dL_law_351 ⟨Nat.le_refl _, Nat.le_refl _⟩ hS hge2 (fun r9 C3 H3 locs3 hR hP2 hz9 hk9 hS => ?_)
  obtain ⟨rfl, hM1⟩ := hR
  have hP := hP.kp hk9 hd21
  change W p l e room_1 s m _ below meth c _ _ _ _ _ (F0 m 354 ls [.int (f_rule n nx (xs (i + 1)) (xs (i + 2)) (xs (i + 3))), .int (f_rule n nx (xs (i + 1)) (xs (i + 2)) (xs (i + 3)))])
  refine lv_icmp_eq (tgt := 1137) hx hb dL_law_354 (by decide) (fun c_354 => ?_) (fun c_354 => absurd c_354 (fun h9 => h9 rfl))
  exact hq _ _ _ _ _ _ _ _ _ _ ls ⟨hmm, hP, hP2, hX1, hM1, hS⟩ hl

set_option maxHeartbeats 4000000 in
set_option maxRecDepth 100000 in
theorem K_taken {p : Program} {l : Launch} {e : Env} {s : State} {m : MethodId} {below : List Frame} {meth : Method} {c : Code} {b L : Nat} {xs : Nat → Int32} {D : va_G} {cy : Nat → ClassId} {Ad Ad2 : Nat → Nat} {n : Nat} (E : lw_E p s m c b L xs D cy Ad Ad2 n) (hL : L ≤ 2561) {i : Nat} (hi : i + 4 < L) {mm : Nat} {nx : Nat → Nat → Nat} {mx : Nat → Nat → Option Nat} {en : Nat → Bool} {am wt : Nat → Nat} {C C2 : pw_C} {H : Heap} {locs : List Loc} {ls : Array Slot} (Iv : lw_I s D cy Ad Ad2 n mm nx mx en am wt C C2 H locs) (hl : lv_has ls 4 [(3, .int (nI i)), (2, .ref (Ad2 0)), (1, .ref (Ad 0)), (0, .ref b)]) (hq : ∀ (mm : Nat) (nx : Nat → Nat → Nat) (mx : Nat → Nat → Option Nat) (en : Nat → Bool) (am wt : Nat → Nat) (C C2 : pw_C) (H : Heap) (locs : List Loc) (ls : Array Slot), lw_I s D cy Ad Ad2 n mm nx mx en am wt C C2 H locs → lv_has ls 4 [(3, .int (nI i)), (2, .ref (Ad2 0)), (1, .ref (Ad 0)), (0, .ref b)] → W p l e room_1 s m #[Value.ref b] below meth c H locs 600000 7302250 (lw_Z below #[Value.ref b] s) (F0 m 1137 ls [])) : W p l e room_1 s m #[Value.ref b] below meth c H locs 600000 7302250 (lw_Z below #[Value.ref b] s) (F0 m 359 ls []) := by
  obtain ⟨S, hX0, hbl, hK, hI, hI2, hn, hd12, hd21, hge, hge2⟩ := E
  obtain ⟨hmm, hP, hP2, hX, hM, hS⟩ := Iv
  have hbA : ¬ (fun q : Nat => s.heap.size ≤ q) b := Nat.not_le.mpr hbl
  have hx := S.1
  have hb := S.2.1
  have hown := S.2.2.2.1
  have hts := S.2.2.2.2
  refine lv_aload_n hx hb dL_law_359 rfl (lv_at hl 2 rfl) ?_
  refine lv_aload_n hx hb dL_law_360 rfl (lv_at hl 3 rfl) ?_
  refine lv_iload_n hx hb dL_law_361 rfl (lv_at hl 0 rfl) ?_
  refine lv_iconst (v := nI 1) hx hb dL_law_362 (by decide) ?_
  refine lv_iadd hx hb dL_law_363 ?_
  refine pw_topi (nI_add _ _) ?_
  refine va_sld hx hb hX0 hbl hbA hS (vp_in_nI (by omega) (by omega)) dL_law_364 ?_
  refine pw_topi (y := xs (i + 1)) (congrArg xs (nI_clamp (by omega))) ?_
  refine lv_aload_n hx hb dL_law_365 rfl (lv_at hl 3 rfl) ?_
  refine lv_iload_n hx hb dL_law_366 rfl (lv_at hl 0 rfl) ?_
  refine lv_iconst (v := nI 2) hx hb dL_law_367 (by decide) ?_
  refine lv_iadd hx hb dL_law_368 ?_
  refine pw_topi (nI_add _ _) ?_
  refine va_sld hx hb hX0 hbl hbA hS (vp_in_nI (by omega) (by omega)) dL_law_369 ?_
  refine pw_topi (y := xs (i + 2)) (congrArg xs (nI_clamp (by omega))) ?_
  refine lv_aload_n hx hb dL_law_370 rfl (lv_at hl 3 rfl) ?_
  refine lv_iload_n hx hb dL_law_371 rfl (lv_at hl 0 rfl) ?_
  refine lv_iconst (v := nI 3) hx hb dL_law_372 (by decide) ?_
  refine lv_iadd hx hb dL_law_373 ?_
  refine pw_topi (nI_add _ _) ?_
  refine va_sld hx hb hX0 hbl hbA hS (vp_in_nI (by omega) (by omega)) dL_law_374 ?_
  refine pw_topi (y := xs (i + 3)) (congrArg xs (nI_clamp (by omega))) ?_
  refine pw_cv S hK hP 0 4 rfl rfl 3 (c_X4_taken l D cy Ad n mm C hI hn hmm nx mx en am wt hX (xs (i + 1)) (xs (i + 2)) (xs (i + 3))) gL_law_X4_taken rfl rfl rfl (by decide +kernel) ⟨Nat.le_of_ble_eq_true rfl, Nat.le_of_ble_eq_true rfl⟩ rfl hl.1 rfl (Nat.le_of_ble_eq_true rfl) dL_law_375 ⟨Nat.le_refl _, Nat.le_refl _⟩ ?_
  refine lv_aload_n hx hb dL_law_378 rfl (lv_at hl 1 rfl) ?_
  refine lv_aload_n hx hb dL_law_379 rfl (lv_at hl 3 rfl) ?_
  refine lv_iload_n hx hb dL_law_380 rfl (lv_at hl 0 rfl) ?_
  refine lv_iconst (v := nI 1) hx hb dL_law_381 (by decide) ?_
  refine lv_iadd hx hb dL_law_382 ?_
  refine pw_topi (nI_add _ _) ?_
  refine va_sld hx hb hX0 hbl hbA hS (vp_in_nI (by omega) (by omega)) dL_law_383 ?_
  refine pw_topi (y := xs (i + 1)) (congrArg xs (nI_clamp (by omega))) ?_
  refine lv_aload_n hx hb dL_law_384 rfl (lv_at hl 3 rfl) ?_
  refine lv_iload_n hx hb dL_law_385 rfl (lv_at hl 0 rfl) ?_
  refine lv_iconst (v := nI 2) hx hb dL_law_386 (by decide) ?_
  refine lv_iadd hx hb dL_law_387 ?_
  refine pw_topi (nI_add _ _) ?_
  refine va_sld hx hb hX0 hbl hbA hS (vp_in_nI (by omega) (by omega)) dL_law_388 ?_
  refine pw_topi (y := xs (i + 2)) (congrArg xs (nI_clamp (by omega))) ?_
  refine lv_aload_n hx hb dL_law_389 rfl (lv_at hl 3 rfl) ?_
  refine lv_iload_n hx hb dL_law_390 rfl (lv_at hl 0 rfl) ?_
  refine lv_iconst (v := nI 3) hx hb dL_law_391 (by decide) ?_
  refine lv_iadd hx hb dL_law_392 ?_
  refine pw_topi (nI_add _ _) ?_
  refine va_sld hx hb hX0 hbl hbA hS (vp_in_nI (by omega) (by omega)) dL_law_393 ?_
  refine pw_topi (y := xs (i + 3)) (congrArg xs (nI_clamp (by omega))) ?_
  refine pw_cv S hK hP2 0 5 rfl rfl 3 (c_X5_taken l D cy Ad2 n mm C2 hI2 hn hmm nx mx en am wt hM (xs (i + 1)) (xs (i + 2)) (xs (i + 3))) gL_law_X5_taken rfl rfl rfl (by decide +kernel) ⟨Nat.le_of_ble_eq_true rfl, Nat.le_of_ble_eq_true rfl⟩ rfl hl.1 rfl (Nat.le_of_ble_eq_true rfl) dL_law_394 ⟨Nat.le_refl _, Nat.le_refl _⟩ ?_
  refine lv_icmp_eq (tgt := 1137) hx hb dL_law_397 (by decide) (fun c_397 => ?_) (fun c_397 => absurd c_397 (fun h9 => h9 rfl))
  exact hq _ _ _ _ _ _ _ _ _ _ ls ⟨hmm, hP, hP2, hX, hM, hS⟩ hl

set_option maxHeartbeats 4000000 in
set_option maxRecDepth 100000 in
theorem K_past {p : Program} {l : Launch} {e : Env} {s : State} {m : MethodId} {below : List Frame} {meth : Method} {c : Code} {b L : Nat} {xs : Nat → Int32} {D : va_G} {cy : Nat → ClassId} {Ad Ad2 : Nat → Nat} {n : Nat} (E : lw_E p s m c b L xs D cy Ad Ad2 n) (hL : L ≤ 2561) {i : Nat} (hi : i + 4 < L) {mm : Nat} {nx : Nat → Nat → Nat} {mx : Nat → Nat → Option Nat} {en : Nat → Bool} {am wt : Nat → Nat} {C C2 : pw_C} {H : Heap} {locs : List Loc} {ls : Array Slot} (Iv : lw_I s D cy Ad Ad2 n mm nx mx en am wt C C2 H locs) (hl : lv_has ls 4 [(3, .int (nI i)), (2, .ref (Ad2 0)), (1, .ref (Ad 0)), (0, .ref b)]) (hq : ∀ (mm : Nat) (nx : Nat → Nat → Nat) (mx : Nat → Nat → Option Nat) (en : Nat → Bool) (am wt : Nat → Nat) (C C2 : pw_C) (H : Heap) (locs : List Loc) (ls : Array Slot), lw_I s D cy Ad Ad2 n mm nx mx en am wt C C2 H locs → lv_has ls 4 [(3, .int (nI i)), (2, .ref (Ad2 0)), (1, .ref (Ad 0)), (0, .ref b)] → W p l e room_1 s m #[Value.ref b] below meth c H locs 600000 7302250 (lw_Z below #[Value.ref b] s) (F0 m 1137 ls [])) : W p l e room_1 s m #[Value.ref b] below meth c H locs 600000 7302250 (lw_Z below #[Value.ref b] s) (F0 m 402 ls []) := by
  obtain ⟨S, hX0, hbl, hK, hI, hI2, hn, hd12, hd21, hge, hge2⟩ := E
  obtain ⟨hmm, hP, hP2, hX, hM, hS⟩ := Iv
  have hbA : ¬ (fun q : Nat => s.heap.size ≤ q) b := Nat.not_le.mpr hbl
  have hx := S.1
  have hb := S.2.1
  have hown := S.2.2.2.1
  have hts := S.2.2.2.2
  refine lv_aload_n hx hb dL_law_402 rfl (lv_at hl 2 rfl) ?_
  refine lv_aload_n hx hb dL_law_403 rfl (lv_at hl 3 rfl) ?_
  refine lv_iload_n hx hb dL_law_404 rfl (lv_at hl 0 rfl) ?_
  refine lv_iconst (v := nI 1) hx hb dL_law_405 (by decide) ?_
  refine lv_iadd hx hb dL_law_406 ?_
  refine pw_topi (nI_add _ _) ?_
  refine va_sld hx hb hX0 hbl hbA hS (vp_in_nI (by omega) (by omega)) dL_law_407 ?_
  refine pw_topi (y := xs (i + 1)) (congrArg xs (nI_clamp (by omega))) ?_
  refine lv_aload_n hx hb dL_law_408 rfl (lv_at hl 3 rfl) ?_
  refine lv_iload_n hx hb dL_law_409 rfl (lv_at hl 0 rfl) ?_
  refine lv_iconst (v := nI 2) hx hb dL_law_410 (by decide) ?_
  refine lv_iadd hx hb dL_law_411 ?_
  refine pw_topi (nI_add _ _) ?_
  refine va_sld hx hb hX0 hbl hbA hS (vp_in_nI (by omega) (by omega)) dL_law_412 ?_
  refine pw_topi (y := xs (i + 2)) (congrArg xs (nI_clamp (by omega))) ?_
  refine pw_cvW S hK hP 0 4 rfl rfl 2 (c_X4_past l D cy Ad n mm C hI hn hmm nx mx en am wt hX (xs (i + 1)) (xs (i + 2))) gL_law_X4_past rfl rfl rfl (by decide +kernel) ⟨Nat.le_of_ble_eq_true rfl, Nat.le_of_ble_eq_true rfl⟩ rfl hl.1 rfl (Nat.le_of_ble_eq_true rfl) dL_law_413 ⟨Nat.le_refl _, Nat.le_refl _⟩ hS hge (fun r9 C1 H1 locs1 hR hP hz9 hk9 hS => ?_)
  obtain ⟨rfl, hX1⟩ := hR
  have hP2 := hP2.kp hk9 hd12
  change W p l e room_1 s m _ below meth c _ _ _ _ _ (F0 m 416 ls [.int (f_past n nx (xs (i + 1)) (xs (i + 2)))])
  refine lv_aload_n hx hb dL_law_416 rfl (lv_at hl 1 rfl) ?_
  refine lv_aload_n hx hb dL_law_417 rfl (lv_at hl 3 rfl) ?_
  refine lv_iload_n hx hb dL_law_418 rfl (lv_at hl 0 rfl) ?_
  refine lv_iconst (v := nI 1) hx hb dL_law_419 (by decide) ?_
  refine lv_iadd hx hb dL_law_420 ?_
  refine pw_topi (nI_add _ _) ?_
  refine va_sld hx hb hX0 hbl hbA hS (vp_in_nI (by omega) (by omega)) dL_law_421 ?_
  refine pw_topi (y := xs (i + 1)) (congrArg xs (nI_clamp (by omega))) ?_
  refine lv_aload_n hx hb dL_law_422 rfl (lv_at hl 3 rfl) ?_
  refine lv_iload_n hx hb dL_law_423 rfl (lv_at hl 0 rfl) ?_
  refine lv_iconst (v := nI 2) hx hb dL_law_424 (by decide) ?_
  refine lv_iadd hx hb dL_law_425 ?_
  refine pw_topi (nI_add _ _) ?_
  refine va_sld hx hb hX0 hbl hbA hS (vp_in_nI (by omega) (by omega)) dL_law_426 ?_
  refine pw_topi (y := xs (i + 2)) (congrArg xs (nI_clamp (by omega))) ?_
  refine pw_cvW S hK hP2 0 5 rfl rfl 2 (c_X5_past l D cy Ad2 n mm C2 hI2 hn hmm nx mx en am wt hM (xs (i + 1)) (xs (i + 2))) gL_law_X5_past rfl rfl rfl (by decide +kernel) ⟨Nat.le_of_ble_eq_true rfl, Nat.le_of_ble_eq_true rfl⟩ rfl hl.1 rfl (Nat.le_of_ble_eq_true rfl) dL_law_427 ⟨Nat.le_refl _, Nat.le_refl _⟩ hS hge2 (fun r9 C3 H3 locs3 hR hP2 hz9 hk9 hS => ?_)
  obtain ⟨rfl, hM1⟩ := hR
  have hP := hP.kp hk9 hd21
  change W p l e room_1 s m _ below meth c _ _ _ _ _ (F0 m 430 ls [.int (f_past n nx (xs (i + 1)) (xs (i + 2))), .int (f_past n nx (xs (i + 1)) (xs (i + 2)))])
  refine lv_icmp_eq (tgt := 1137) hx hb dL_law_430 (by decide) (fun c_430 => ?_) (fun c_430 => absurd c_430 (fun h9 => h9 rfl))
  exact hq _ _ _ _ _ _ _ _ _ _ ls ⟨hmm, hP, hP2, hX1, hM1, hS⟩ hl

set_option maxHeartbeats 4000000 in
set_option maxRecDepth 100000 in
theorem K_fold {p : Program} {l : Launch} {e : Env} {s : State} {m : MethodId} {below : List Frame} {meth : Method} {c : Code} {b L : Nat} {xs : Nat → Int32} {D : va_G} {cy : Nat → ClassId} {Ad Ad2 : Nat → Nat} {n : Nat} (E : lw_E p s m c b L xs D cy Ad Ad2 n) (hL : L ≤ 2561) {i : Nat} (hi : i + 4 < L) {mm : Nat} {nx : Nat → Nat → Nat} {mx : Nat → Nat → Option Nat} {en : Nat → Bool} {am wt : Nat → Nat} {C C2 : pw_C} {H : Heap} {locs : List Loc} {ls : Array Slot} (Iv : lw_I s D cy Ad Ad2 n mm nx mx en am wt C C2 H locs) (hl : lv_has ls 4 [(3, .int (nI i)), (2, .ref (Ad2 0)), (1, .ref (Ad 0)), (0, .ref b)]) (hq : ∀ (mm : Nat) (nx : Nat → Nat → Nat) (mx : Nat → Nat → Option Nat) (en : Nat → Bool) (am wt : Nat → Nat) (C C2 : pw_C) (H : Heap) (locs : List Loc) (ls : Array Slot), lw_I s D cy Ad Ad2 n mm nx mx en am wt C C2 H locs → lv_has ls 4 [(3, .int (nI i)), (2, .ref (Ad2 0)), (1, .ref (Ad 0)), (0, .ref b)] → W p l e room_1 s m #[Value.ref b] below meth c H locs 600000 7302250 (lw_Z below #[Value.ref b] s) (F0 m 1137 ls [])) : W p l e room_1 s m #[Value.ref b] below meth c H locs 600000 7302250 (lw_Z below #[Value.ref b] s) (F0 m 435 ls []) := by
  obtain ⟨S, hX0, hbl, hK, hI, hI2, hn, hd12, hd21, hge, hge2⟩ := E
  obtain ⟨hmm, hP, hP2, hX, hM, hS⟩ := Iv
  have hbA : ¬ (fun q : Nat => s.heap.size ≤ q) b := Nat.not_le.mpr hbl
  have hx := S.1
  have hb := S.2.1
  have hown := S.2.2.2.1
  have hts := S.2.2.2.2
  refine lv_aload_n hx hb dL_law_435 rfl (lv_at hl 2 rfl) ?_
  refine lv_aload_n hx hb dL_law_436 rfl (lv_at hl 3 rfl) ?_
  refine lv_iload_n hx hb dL_law_437 rfl (lv_at hl 0 rfl) ?_
  refine lv_iconst (v := nI 1) hx hb dL_law_438 (by decide) ?_
  refine lv_iadd hx hb dL_law_439 ?_
  refine pw_topi (nI_add _ _) ?_
  refine va_sld hx hb hX0 hbl hbA hS (vp_in_nI (by omega) (by omega)) dL_law_440 ?_
  refine pw_topi (y := xs (i + 1)) (congrArg xs (nI_clamp (by omega))) ?_
  refine lv_aload_n hx hb dL_law_441 rfl (lv_at hl 3 rfl) ?_
  refine lv_iload_n hx hb dL_law_442 rfl (lv_at hl 0 rfl) ?_
  refine lv_iconst (v := nI 2) hx hb dL_law_443 (by decide) ?_
  refine lv_iadd hx hb dL_law_444 ?_
  refine pw_topi (nI_add _ _) ?_
  refine va_sld hx hb hX0 hbl hbA hS (vp_in_nI (by omega) (by omega)) dL_law_445 ?_
  refine pw_topi (y := xs (i + 2)) (congrArg xs (nI_clamp (by omega))) ?_
  refine pw_cvW S hK hP 0 4 rfl rfl 2 (c_X4_fold l D cy Ad n mm C hI hn hmm nx mx en am wt hX (xs (i + 1)) (xs (i + 2))) gL_law_X4_fold rfl rfl rfl (by decide +kernel) ⟨Nat.le_of_ble_eq_true rfl, Nat.le_of_ble_eq_true rfl⟩ rfl hl.1 rfl (Nat.le_of_ble_eq_true rfl) dL_law_446 ⟨Nat.le_refl _, Nat.le_refl _⟩ hS hge (fun r9 C1 H1 locs1 hR hP hz9 hk9 hS => ?_)
  obtain ⟨rfl, hX1⟩ := hR
  have hP2 := hP2.kp hk9 hd12
  change W p l e room_1 s m _ below meth c _ _ _ _ _ (F0 m 449 ls [.int (f_fold n nx (xs (i + 1)) (xs (i + 2)))])
  refine lv_aload_n hx hb dL_law_449 rfl (lv_at hl 1 rfl) ?_
  refine lv_aload_n hx hb dL_law_450 rfl (lv_at hl 3 rfl) ?_
  refine lv_iload_n hx hb dL_law_451 rfl (lv_at hl 0 rfl) ?_
  refine lv_iconst (v := nI 1) hx hb dL_law_452 (by decide) ?_
  refine lv_iadd hx hb dL_law_453 ?_
  refine pw_topi (nI_add _ _) ?_
  refine va_sld hx hb hX0 hbl hbA hS (vp_in_nI (by omega) (by omega)) dL_law_454 ?_
  refine pw_topi (y := xs (i + 1)) (congrArg xs (nI_clamp (by omega))) ?_
  refine lv_aload_n hx hb dL_law_455 rfl (lv_at hl 3 rfl) ?_
  refine lv_iload_n hx hb dL_law_456 rfl (lv_at hl 0 rfl) ?_
  refine lv_iconst (v := nI 2) hx hb dL_law_457 (by decide) ?_
  refine lv_iadd hx hb dL_law_458 ?_
  refine pw_topi (nI_add _ _) ?_
  refine va_sld hx hb hX0 hbl hbA hS (vp_in_nI (by omega) (by omega)) dL_law_459 ?_
  refine pw_topi (y := xs (i + 2)) (congrArg xs (nI_clamp (by omega))) ?_
  refine pw_cvW S hK hP2 0 5 rfl rfl 2 (c_X5_fold l D cy Ad2 n mm C2 hI2 hn hmm nx mx en am wt hM (xs (i + 1)) (xs (i + 2))) gL_law_X5_fold rfl rfl rfl (by decide +kernel) ⟨Nat.le_of_ble_eq_true rfl, Nat.le_of_ble_eq_true rfl⟩ rfl hl.1 rfl (Nat.le_of_ble_eq_true rfl) dL_law_460 ⟨Nat.le_refl _, Nat.le_refl _⟩ hS hge2 (fun r9 C3 H3 locs3 hR hP2 hz9 hk9 hS => ?_)
  obtain ⟨rfl, hM1⟩ := hR
  have hP := hP.kp hk9 hd21
  change W p l e room_1 s m _ below meth c _ _ _ _ _ (F0 m 463 ls [.int (f_fold n nx (xs (i + 1)) (xs (i + 2))), .int (f_fold n nx (xs (i + 1)) (xs (i + 2)))])
  refine lv_icmp_eq (tgt := 1137) hx hb dL_law_463 (by decide) (fun c_463 => ?_) (fun c_463 => absurd c_463 (fun h9 => h9 rfl))
  exact hq _ _ _ _ _ _ _ _ _ _ ls ⟨hmm, hP, hP2, hX1, hM1, hS⟩ hl

set_option maxHeartbeats 4000000 in
set_option maxRecDepth 100000 in
theorem K_bounding {p : Program} {l : Launch} {e : Env} {s : State} {m : MethodId} {below : List Frame} {meth : Method} {c : Code} {b L : Nat} {xs : Nat → Int32} {D : va_G} {cy : Nat → ClassId} {Ad Ad2 : Nat → Nat} {n : Nat} (E : lw_E p s m c b L xs D cy Ad Ad2 n) (hL : L ≤ 2561) {i : Nat} (hi : i + 4 < L) {mm : Nat} {nx : Nat → Nat → Nat} {mx : Nat → Nat → Option Nat} {en : Nat → Bool} {am wt : Nat → Nat} {C C2 : pw_C} {H : Heap} {locs : List Loc} {ls : Array Slot} (Iv : lw_I s D cy Ad Ad2 n mm nx mx en am wt C C2 H locs) (hl : lv_has ls 4 [(3, .int (nI i)), (2, .ref (Ad2 0)), (1, .ref (Ad 0)), (0, .ref b)]) (hq : ∀ (mm : Nat) (nx : Nat → Nat → Nat) (mx : Nat → Nat → Option Nat) (en : Nat → Bool) (am wt : Nat → Nat) (C C2 : pw_C) (H : Heap) (locs : List Loc) (ls : Array Slot), lw_I s D cy Ad Ad2 n mm nx mx en am wt C C2 H locs → lv_has ls 4 [(3, .int (nI i)), (2, .ref (Ad2 0)), (1, .ref (Ad 0)), (0, .ref b)] → W p l e room_1 s m #[Value.ref b] below meth c H locs 600000 7302250 (lw_Z below #[Value.ref b] s) (F0 m 1137 ls [])) : W p l e room_1 s m #[Value.ref b] below meth c H locs 600000 7302250 (lw_Z below #[Value.ref b] s) (F0 m 468 ls []) := by
  obtain ⟨S, hX0, hbl, hK, hI, hI2, hn, hd12, hd21, hge, hge2⟩ := E
  obtain ⟨hmm, hP, hP2, hX, hM, hS⟩ := Iv
  have hbA : ¬ (fun q : Nat => s.heap.size ≤ q) b := Nat.not_le.mpr hbl
  have hx := S.1
  have hb := S.2.1
  have hown := S.2.2.2.1
  have hts := S.2.2.2.2
  refine lv_aload_n hx hb dL_law_468 rfl (lv_at hl 2 rfl) ?_
  refine lv_aload_n hx hb dL_law_469 rfl (lv_at hl 3 rfl) ?_
  refine lv_iload_n hx hb dL_law_470 rfl (lv_at hl 0 rfl) ?_
  refine lv_iconst (v := nI 1) hx hb dL_law_471 (by decide) ?_
  refine lv_iadd hx hb dL_law_472 ?_
  refine pw_topi (nI_add _ _) ?_
  refine va_sld hx hb hX0 hbl hbA hS (vp_in_nI (by omega) (by omega)) dL_law_473 ?_
  refine pw_topi (y := xs (i + 1)) (congrArg xs (nI_clamp (by omega))) ?_
  refine lv_aload_n hx hb dL_law_474 rfl (lv_at hl 3 rfl) ?_
  refine lv_iload_n hx hb dL_law_475 rfl (lv_at hl 0 rfl) ?_
  refine lv_iconst (v := nI 2) hx hb dL_law_476 (by decide) ?_
  refine lv_iadd hx hb dL_law_477 ?_
  refine pw_topi (nI_add _ _) ?_
  refine va_sld hx hb hX0 hbl hbA hS (vp_in_nI (by omega) (by omega)) dL_law_478 ?_
  refine pw_topi (y := xs (i + 2)) (congrArg xs (nI_clamp (by omega))) ?_
  refine pw_cv S hK hP 0 4 rfl rfl 2 (c_X4_bounding l D cy Ad n mm C hI hn hmm nx mx en am wt hX (xs (i + 1)) (xs (i + 2))) gL_law_X4_bounding rfl rfl rfl (by decide +kernel) ⟨Nat.le_of_ble_eq_true rfl, Nat.le_of_ble_eq_true rfl⟩ rfl hl.1 rfl (Nat.le_of_ble_eq_true rfl) dL_law_479 ⟨Nat.le_refl _, Nat.le_refl _⟩ ?_
  refine lv_aload_n hx hb dL_law_482 rfl (lv_at hl 1 rfl) ?_
  refine lv_aload_n hx hb dL_law_483 rfl (lv_at hl 3 rfl) ?_
  refine lv_iload_n hx hb dL_law_484 rfl (lv_at hl 0 rfl) ?_
  refine lv_iconst (v := nI 1) hx hb dL_law_485 (by decide) ?_
  refine lv_iadd hx hb dL_law_486 ?_
  refine pw_topi (nI_add _ _) ?_
  refine va_sld hx hb hX0 hbl hbA hS (vp_in_nI (by omega) (by omega)) dL_law_487 ?_
  refine pw_topi (y := xs (i + 1)) (congrArg xs (nI_clamp (by omega))) ?_
  refine lv_aload_n hx hb dL_law_488 rfl (lv_at hl 3 rfl) ?_
  refine lv_iload_n hx hb dL_law_489 rfl (lv_at hl 0 rfl) ?_
  refine lv_iconst (v := nI 2) hx hb dL_law_490 (by decide) ?_
  refine lv_iadd hx hb dL_law_491 ?_
  refine pw_topi (nI_add _ _) ?_
  refine va_sld hx hb hX0 hbl hbA hS (vp_in_nI (by omega) (by omega)) dL_law_492 ?_
  refine pw_topi (y := xs (i + 2)) (congrArg xs (nI_clamp (by omega))) ?_
  refine pw_cvW S hK hP2 0 5 rfl rfl 2 (c_X5_bounding l D cy Ad2 n mm C2 hI2 hn hmm nx mx en am wt hM (xs (i + 1)) (xs (i + 2))) gL_law_X5_bounding rfl rfl rfl (by decide +kernel) ⟨Nat.le_of_ble_eq_true rfl, Nat.le_of_ble_eq_true rfl⟩ rfl hl.1 rfl (Nat.le_of_ble_eq_true rfl) dL_law_493 ⟨Nat.le_refl _, Nat.le_refl _⟩ hS hge2 (fun r9 C3 H3 locs3 hR hP2 hz9 hk9 hS => ?_)
  obtain ⟨rfl, hM1⟩ := hR
  have hP := hP.kp hk9 hd21
  change W p l e room_1 s m _ below meth c _ _ _ _ _ (F0 m 496 ls [.int (f_bounding n nx (xs (i + 1)) (xs (i + 2))), .int (f_bounding n nx (xs (i + 1)) (xs (i + 2)))])
  refine lv_icmp_eq (tgt := 1137) hx hb dL_law_496 (by decide) (fun c_496 => ?_) (fun c_496 => absurd c_496 (fun h9 => h9 rfl))
  exact hq _ _ _ _ _ _ _ _ _ _ ls ⟨hmm, hP, hP2, hX, hM1, hS⟩ hl
