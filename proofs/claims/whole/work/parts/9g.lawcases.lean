set_option maxRecDepth 4000 in
theorem law_c0 (GA GB : GE) (eG : GB = (GA.1, GA.2.1, GA.2.2.1, GB.2.2.2)) (b L : Nat) (xs : Nat → Int32) (hL : L ≤ 3072) (i : Nat) (hi6 : i + 6 ≤ L) (S : St) (hA hB : Mem) (iS : Ok S) (ra : RA S hA) (rb : RB S hB) (K : ∀ (S : St) (hA hB : Mem), Ok S → RA S hA → RB S hB → LV GA GB b L xs RL cL_law 4 977 [some (.ref b), some (.ref (ad GA 0)), some (.ref (ad GB 100)), some (.int (nI i))] [] hA hB) : LV GA GB b L xs RL cL_law 4 156 [some (.ref b), some (.ref (ad GA 0)), some (.ref (ad GB 100)), some (.int (nI i))] [] hA hB := by
  refine L_aload1 dL_law_156 ?_
  refine L_aload0 dL_law_157 ?_
  refine L_iload3 dL_law_158 ?_
  refine L_iconst (nI 1) dL_law_159 (by decide) ?_
  refine L_iadd_n dL_law_160 ?_
  refine L_sld rfl (show i + 1 < L by omega) (by omega) dL_law_161 ?_
  refine L_aload0 dL_law_162 ?_
  refine L_iload3 dL_law_163 ?_
  refine L_iconst (nI 2) dL_law_164 (by decide) ?_
  refine L_iadd_n dL_law_165 ?_
  refine L_sld rfl (show i + 2 < L by omega) (by omega) dL_law_166 ?_
  refine L_aload0 dL_law_167 ?_
  refine L_iload3 dL_law_168 ?_
  refine L_iconst (nI 3) dL_law_169 (by decide) ?_
  refine L_iadd_n dL_law_170 ?_
  refine L_sld rfl (show i + 3 < L by omega) (by omega) dL_law_171 ?_
  refine L_callA (av := [.int (xs (i + 1)), .int (xs (i + 2)), .int (xs (i + 3))]) (rest := []) eG (m_X5_sheet GA hA S ra (xs (i + 1)) (xs (i + 2)) (xs (i + 3))) ml_L_13 imX5_sheet seX5_sheet in_X5 coX5_sheet (show mOK yX5_sheet 3 from (by unfold mOK; exact ⟨by decide +kernel, by decide +kernel, by decide +kernel⟩)) ⟨rfl, rfl, by decide, by decide⟩ rfl rfl (by decide) dL_law_172 (fun r1 h1 q1 => ?_)
  obtain ⟨rfl, q1⟩ := q1
  refine L_aload2 dL_law_175 ?_
  refine L_aload0 dL_law_176 ?_
  refine L_iload3 dL_law_177 ?_
  refine L_iconst (nI 1) dL_law_178 (by decide) ?_
  refine L_iadd_n dL_law_179 ?_
  refine L_sld rfl (show i + 1 < L by omega) (by omega) dL_law_180 ?_
  refine L_aload0 dL_law_181 ?_
  refine L_iload3 dL_law_182 ?_
  refine L_iconst (nI 2) dL_law_183 (by decide) ?_
  refine L_iadd_n dL_law_184 ?_
  refine L_sld rfl (show i + 2 < L by omega) (by omega) dL_law_185 ?_
  refine L_aload0 dL_law_186 ?_
  refine L_iload3 dL_law_187 ?_
  refine L_iconst (nI 3) dL_law_188 (by decide) ?_
  refine L_iadd_n dL_law_189 ?_
  refine L_sld rfl (show i + 3 < L by omega) (by omega) dL_law_190 ?_
  refine L_callB (av := [.int (xs (i + 1)), .int (xs (i + 2)), .int (xs (i + 3))]) (rest := [.int _]) eG (m_X6_sheet GB hB S iS rb (xs (i + 1)) (xs (i + 2)) (xs (i + 3))) ml_L_17 imX6_sheet seX6_sheet in_X6 coX6_sheet (show mOK yX6_sheet 3 from (by unfold mOK; exact ⟨by decide +kernel, by decide +kernel, by decide +kernel⟩)) ⟨rfl, rfl, by decide, by decide⟩ rfl rfl (by show 1 + 0 ≤ 8; decide) dL_law_191 (fun r2 h2 q2 => ?_)
  obtain ⟨rfl, q2⟩ := q2
  refine L_icmp_eq 977 dL_law_194 (by decide) (fun _ => ?_) (fun c => absurd rfl c)
  exact K _ _ _ (K_sheet iS (xs (i + 1)) (xs (i + 2)) (xs (i + 3))) q1 q2
set_option maxRecDepth 4000 in
theorem law_c1 (GA GB : GE) (eG : GB = (GA.1, GA.2.1, GA.2.2.1, GB.2.2.2)) (b L : Nat) (xs : Nat → Int32) (hL : L ≤ 3072) (i : Nat) (hi6 : i + 6 ≤ L) (S : St) (hA hB : Mem) (iS : Ok S) (ra : RA S hA) (rb : RB S hB) (K : ∀ (S : St) (hA hB : Mem), Ok S → RA S hA → RB S hB → LV GA GB b L xs RL cL_law 4 977 [some (.ref b), some (.ref (ad GA 0)), some (.ref (ad GB 100)), some (.int (nI i))] [] hA hB) : LV GA GB b L xs RL cL_law 4 199 [some (.ref b), some (.ref (ad GA 0)), some (.ref (ad GB 100)), some (.int (nI i))] [] hA hB := by
  refine L_aload1 dL_law_199 ?_
  refine L_aload0 dL_law_200 ?_
  refine L_iload3 dL_law_201 ?_
  refine L_iconst (nI 1) dL_law_202 (by decide) ?_
  refine L_iadd_n dL_law_203 ?_
  refine L_sld rfl (show i + 1 < L by omega) (by omega) dL_law_204 ?_
  refine L_aload0 dL_law_205 ?_
  refine L_iload3 dL_law_206 ?_
  refine L_iconst (nI 2) dL_law_207 (by decide) ?_
  refine L_iadd_n dL_law_208 ?_
  refine L_sld rfl (show i + 2 < L by omega) (by omega) dL_law_209 ?_
  refine L_aload0 dL_law_210 ?_
  refine L_iload3 dL_law_211 ?_
  refine L_iconst (nI 3) dL_law_212 (by decide) ?_
  refine L_iadd_n dL_law_213 ?_
  refine L_sld rfl (show i + 3 < L by omega) (by omega) dL_law_214 ?_
  refine L_callA (av := [.int (xs (i + 1)), .int (xs (i + 2)), .int (xs (i + 3))]) (rest := []) eG (m_X5_set GA hA S ra (xs (i + 1)) (xs (i + 2)) (xs (i + 3))) ml_L_18 imX5_set seX5_set in_X5 coX5_set (show mOK yX5_set 3 from (by unfold mOK; exact ⟨by decide +kernel, by decide +kernel, by decide +kernel⟩)) ⟨rfl, rfl, by decide, by decide⟩ rfl rfl (by decide) dL_law_215 (fun r1 h1 q1 => ?_)
  obtain ⟨rfl, q1⟩ := q1
  refine L_aload2 dL_law_218 ?_
  refine L_aload0 dL_law_219 ?_
  refine L_iload3 dL_law_220 ?_
  refine L_iconst (nI 1) dL_law_221 (by decide) ?_
  refine L_iadd_n dL_law_222 ?_
  refine L_sld rfl (show i + 1 < L by omega) (by omega) dL_law_223 ?_
  refine L_aload0 dL_law_224 ?_
  refine L_iload3 dL_law_225 ?_
  refine L_iconst (nI 2) dL_law_226 (by decide) ?_
  refine L_iadd_n dL_law_227 ?_
  refine L_sld rfl (show i + 2 < L by omega) (by omega) dL_law_228 ?_
  refine L_aload0 dL_law_229 ?_
  refine L_iload3 dL_law_230 ?_
  refine L_iconst (nI 3) dL_law_231 (by decide) ?_
  refine L_iadd_n dL_law_232 ?_
  refine L_sld rfl (show i + 3 < L by omega) (by omega) dL_law_233 ?_
  refine L_callB (av := [.int (xs (i + 1)), .int (xs (i + 2)), .int (xs (i + 3))]) (rest := [.int _]) eG (m_X6_set GB hB S iS rb (xs (i + 1)) (xs (i + 2)) (xs (i + 3))) ml_L_21 imX6_set seX6_set in_X6 coX6_set (show mOK yX6_set 3 from (by unfold mOK; exact ⟨by decide +kernel, by decide +kernel, by decide +kernel⟩)) ⟨rfl, rfl, by decide, by decide⟩ rfl rfl (by show 1 + 0 ≤ 8; decide) dL_law_234 (fun r2 h2 q2 => ?_)
  obtain ⟨rfl, q2⟩ := q2
  refine L_icmp_eq 977 dL_law_237 (by decide) (fun _ => ?_) (fun c => absurd rfl c)
  exact K _ _ _ (K_set iS (xs (i + 1)) (xs (i + 2)) (xs (i + 3))) q1 q2
set_option maxRecDepth 4000 in
theorem law_c2 (GA GB : GE) (eG : GB = (GA.1, GA.2.1, GA.2.2.1, GB.2.2.2)) (b L : Nat) (xs : Nat → Int32) (hL : L ≤ 3072) (i : Nat) (hi6 : i + 6 ≤ L) (S : St) (hA hB : Mem) (iS : Ok S) (ra : RA S hA) (rb : RB S hB) (K : ∀ (S : St) (hA hB : Mem), Ok S → RA S hA → RB S hB → LV GA GB b L xs RL cL_law 4 977 [some (.ref b), some (.ref (ad GA 0)), some (.ref (ad GB 100)), some (.int (nI i))] [] hA hB) : LV GA GB b L xs RL cL_law 4 242 [some (.ref b), some (.ref (ad GA 0)), some (.ref (ad GB 100)), some (.int (nI i))] [] hA hB := by
  refine L_aload1 dL_law_242 ?_
  refine L_aload0 dL_law_243 ?_
  refine L_iload3 dL_law_244 ?_
  refine L_iconst (nI 1) dL_law_245 (by decide) ?_
  refine L_iadd_n dL_law_246 ?_
  refine L_sld rfl (show i + 1 < L by omega) (by omega) dL_law_247 ?_
  refine L_aload0 dL_law_248 ?_
  refine L_iload3 dL_law_249 ?_
  refine L_iconst (nI 2) dL_law_250 (by decide) ?_
  refine L_iadd_n dL_law_251 ?_
  refine L_sld rfl (show i + 2 < L by omega) (by omega) dL_law_252 ?_
  refine L_aload0 dL_law_253 ?_
  refine L_iload3 dL_law_254 ?_
  refine L_iconst (nI 3) dL_law_255 (by decide) ?_
  refine L_iadd_n dL_law_256 ?_
  refine L_sld rfl (show i + 3 < L by omega) (by omega) dL_law_257 ?_
  refine L_aload0 dL_law_258 ?_
  refine L_iload3 dL_law_259 ?_
  refine L_iconst (nI 4) dL_law_260 (by decide) ?_
  refine L_iadd_n dL_law_261 ?_
  refine L_sld rfl (show i + 4 < L by omega) (by omega) dL_law_262 ?_
  refine L_aload0 dL_law_263 ?_
  refine L_iload3 dL_law_264 ?_
  refine L_iconst (nI 5) dL_law_265 (by decide) ?_
  refine L_iadd_n dL_law_266 ?_
  refine L_sld rfl (show i + 5 < L by omega) (by omega) dL_law_267 ?_
  refine L_callA (av := [.int (xs (i + 1)), .int (xs (i + 2)), .int (xs (i + 3)), .int (xs (i + 4)), .int (xs (i + 5))]) (rest := []) eG (m_X5_copy GA hA S ra (xs (i + 1)) (xs (i + 2)) (xs (i + 3)) (xs (i + 4)) (xs (i + 5))) ml_L_22 imX5_copy seX5_copy in_X5 coX5_copy (show mOK yX5_copy 5 from (by unfold mOK; exact ⟨by decide +kernel, by decide +kernel, by decide +kernel⟩)) ⟨rfl, rfl, by decide, by decide⟩ rfl rfl (by decide) dL_law_268 (fun r1 h1 q1 => ?_)
  obtain ⟨rfl, q1⟩ := q1
  refine L_aload2 dL_law_271 ?_
  refine L_aload0 dL_law_272 ?_
  refine L_iload3 dL_law_273 ?_
  refine L_iconst (nI 1) dL_law_274 (by decide) ?_
  refine L_iadd_n dL_law_275 ?_
  refine L_sld rfl (show i + 1 < L by omega) (by omega) dL_law_276 ?_
  refine L_aload0 dL_law_277 ?_
  refine L_iload3 dL_law_278 ?_
  refine L_iconst (nI 2) dL_law_279 (by decide) ?_
  refine L_iadd_n dL_law_280 ?_
  refine L_sld rfl (show i + 2 < L by omega) (by omega) dL_law_281 ?_
  refine L_aload0 dL_law_282 ?_
  refine L_iload3 dL_law_283 ?_
  refine L_iconst (nI 3) dL_law_284 (by decide) ?_
  refine L_iadd_n dL_law_285 ?_
  refine L_sld rfl (show i + 3 < L by omega) (by omega) dL_law_286 ?_
  refine L_aload0 dL_law_287 ?_
  refine L_iload3 dL_law_288 ?_
  refine L_iconst (nI 4) dL_law_289 (by decide) ?_
  refine L_iadd_n dL_law_290 ?_
  refine L_sld rfl (show i + 4 < L by omega) (by omega) dL_law_291 ?_
  refine L_aload0 dL_law_292 ?_
  refine L_iload3 dL_law_293 ?_
  refine L_iconst (nI 5) dL_law_294 (by decide) ?_
  refine L_iadd_n dL_law_295 ?_
  refine L_sld rfl (show i + 5 < L by omega) (by omega) dL_law_296 ?_
  refine L_callB (av := [.int (xs (i + 1)), .int (xs (i + 2)), .int (xs (i + 3)), .int (xs (i + 4)), .int (xs (i + 5))]) (rest := [.int _]) eG (m_X6_copy GB hB S iS rb (xs (i + 1)) (xs (i + 2)) (xs (i + 3)) (xs (i + 4)) (xs (i + 5))) ml_L_26 imX6_copy seX6_copy in_X6 coX6_copy (show mOK yX6_copy 5 from (by unfold mOK; exact ⟨by decide +kernel, by decide +kernel, by decide +kernel⟩)) ⟨rfl, rfl, by decide, by decide⟩ rfl rfl (by show 1 + 0 ≤ 8; decide) dL_law_297 (fun r2 h2 q2 => ?_)
  obtain ⟨rfl, q2⟩ := q2
  refine L_icmp_eq 977 dL_law_300 (by decide) (fun _ => ?_) (fun c => absurd rfl c)
  exact K _ _ _ (K_copy iS (xs (i + 1)) (xs (i + 2)) (xs (i + 3)) (xs (i + 4)) (xs (i + 5))) q1 q2
set_option maxRecDepth 4000 in
theorem law_c3 (GA GB : GE) (eG : GB = (GA.1, GA.2.1, GA.2.2.1, GB.2.2.2)) (b L : Nat) (xs : Nat → Int32) (hL : L ≤ 3072) (i : Nat) (hi6 : i + 6 ≤ L) (S : St) (hA hB : Mem) (iS : Ok S) (ra : RA S hA) (rb : RB S hB) (K : ∀ (S : St) (hA hB : Mem), Ok S → RA S hA → RB S hB → LV GA GB b L xs RL cL_law 4 977 [some (.ref b), some (.ref (ad GA 0)), some (.ref (ad GB 100)), some (.int (nI i))] [] hA hB) : LV GA GB b L xs RL cL_law 4 305 [some (.ref b), some (.ref (ad GA 0)), some (.ref (ad GB 100)), some (.int (nI i))] [] hA hB := by
  refine L_aload1 dL_law_305 ?_
  refine L_aload0 dL_law_306 ?_
  refine L_iload3 dL_law_307 ?_
  refine L_iconst (nI 1) dL_law_308 (by decide) ?_
  refine L_iadd_n dL_law_309 ?_
  refine L_sld rfl (show i + 1 < L by omega) (by omega) dL_law_310 ?_
  refine L_callA (av := [.int (xs (i + 1))]) (rest := []) eG (m_X5_drop GA hA S ra (xs (i + 1))) ml_L_27 imX5_drop seX5_drop in_X5 coX5_drop (show mOK yX5_drop 1 from (by unfold mOK; exact ⟨by decide +kernel, by decide +kernel, by decide +kernel⟩)) ⟨rfl, rfl, by decide, by decide⟩ rfl rfl (by decide) dL_law_311 (fun r1 h1 q1 => ?_)
  obtain ⟨rfl, q1⟩ := q1
  refine L_aload2 dL_law_314 ?_
  refine L_aload0 dL_law_315 ?_
  refine L_iload3 dL_law_316 ?_
  refine L_iconst (nI 1) dL_law_317 (by decide) ?_
  refine L_iadd_n dL_law_318 ?_
  refine L_sld rfl (show i + 1 < L by omega) (by omega) dL_law_319 ?_
  refine L_callB (av := [.int (xs (i + 1))]) (rest := [.int _]) eG (m_X6_drop GB hB S iS rb (xs (i + 1))) ml_L_31 imX6_drop seX6_drop in_X6 coX6_drop (show mOK yX6_drop 1 from (by unfold mOK; exact ⟨by decide +kernel, by decide +kernel, by decide +kernel⟩)) ⟨rfl, rfl, by decide, by decide⟩ rfl rfl (by show 1 + 0 ≤ 8; decide) dL_law_320 (fun r2 h2 q2 => ?_)
  obtain ⟨rfl, q2⟩ := q2
  refine L_icmp_eq 977 dL_law_323 (by decide) (fun _ => ?_) (fun c => absurd rfl c)
  exact K _ _ _ (K_drop iS (xs (i + 1))) q1 q2
set_option maxRecDepth 4000 in
theorem law_c4 (GA GB : GE) (eG : GB = (GA.1, GA.2.1, GA.2.2.1, GB.2.2.2)) (b L : Nat) (xs : Nat → Int32) (hL : L ≤ 3072) (i : Nat) (hi6 : i + 6 ≤ L) (S : St) (hA hB : Mem) (iS : Ok S) (ra : RA S hA) (rb : RB S hB) (K : ∀ (S : St) (hA hB : Mem), Ok S → RA S hA → RB S hB → LV GA GB b L xs RL cL_law 4 977 [some (.ref b), some (.ref (ad GA 0)), some (.ref (ad GB 100)), some (.int (nI i))] [] hA hB) : LV GA GB b L xs RL cL_law 4 328 [some (.ref b), some (.ref (ad GA 0)), some (.ref (ad GB 100)), some (.int (nI i))] [] hA hB := by
  refine L_aload1 dL_law_328 ?_
  refine L_aload0 dL_law_329 ?_
  refine L_iload3 dL_law_330 ?_
  refine L_iconst (nI 1) dL_law_331 (by decide) ?_
  refine L_iadd_n dL_law_332 ?_
  refine L_sld rfl (show i + 1 < L by omega) (by omega) dL_law_333 ?_
  refine L_aload0 dL_law_334 ?_
  refine L_iload3 dL_law_335 ?_
  refine L_iconst (nI 2) dL_law_336 (by decide) ?_
  refine L_iadd_n dL_law_337 ?_
  refine L_sld rfl (show i + 2 < L by omega) (by omega) dL_law_338 ?_
  refine L_callA (av := [.int (xs (i + 1)), .int (xs (i + 2))]) (rest := []) eG (m_X5_point GA hA S iS ra (xs (i + 1)) (xs (i + 2))) ml_L_32 imX5_point seX5_point in_X5 coX5_point (show mOK yX5_point 2 from (by unfold mOK; exact ⟨by decide +kernel, by decide +kernel, by decide +kernel⟩)) ⟨rfl, rfl, by decide, by decide⟩ rfl rfl (by decide) dL_law_339 (fun r1 h1 q1 => ?_)
  obtain ⟨rfl, q1⟩ := q1
  refine L_aload2 dL_law_342 ?_
  refine L_aload0 dL_law_343 ?_
  refine L_iload3 dL_law_344 ?_
  refine L_iconst (nI 1) dL_law_345 (by decide) ?_
  refine L_iadd_n dL_law_346 ?_
  refine L_sld rfl (show i + 1 < L by omega) (by omega) dL_law_347 ?_
  refine L_aload0 dL_law_348 ?_
  refine L_iload3 dL_law_349 ?_
  refine L_iconst (nI 2) dL_law_350 (by decide) ?_
  refine L_iadd_n dL_law_351 ?_
  refine L_sld rfl (show i + 2 < L by omega) (by omega) dL_law_352 ?_
  refine L_callB (av := [.int (xs (i + 1)), .int (xs (i + 2))]) (rest := [.int _]) eG (m_X6_point GB hB S iS rb (xs (i + 1)) (xs (i + 2))) ml_L_36 imX6_point seX6_point in_X6 coX6_point (show mOK yX6_point 2 from (by unfold mOK; exact ⟨by decide +kernel, by decide +kernel, by decide +kernel⟩)) ⟨rfl, rfl, by decide, by decide⟩ rfl rfl (by show 1 + 0 ≤ 8; decide) dL_law_353 (fun r2 h2 q2 => ?_)
  obtain ⟨rfl, q2⟩ := q2
  refine L_icmp_eq 977 dL_law_356 (by decide) (fun _ => ?_) (fun c => absurd rfl c)
  exact K _ _ _ (K_point iS (xs (i + 1)) (xs (i + 2))) q1 q2
set_option maxRecDepth 4000 in
theorem law_c5 (GA GB : GE) (eG : GB = (GA.1, GA.2.1, GA.2.2.1, GB.2.2.2)) (b L : Nat) (xs : Nat → Int32) (hL : L ≤ 3072) (i : Nat) (hi6 : i + 6 ≤ L) (S : St) (hA hB : Mem) (iS : Ok S) (ra : RA S hA) (rb : RB S hB) (K : ∀ (S : St) (hA hB : Mem), Ok S → RA S hA → RB S hB → LV GA GB b L xs RL cL_law 4 977 [some (.ref b), some (.ref (ad GA 0)), some (.ref (ad GB 100)), some (.int (nI i))] [] hA hB) : LV GA GB b L xs RL cL_law 4 361 [some (.ref b), some (.ref (ad GA 0)), some (.ref (ad GB 100)), some (.int (nI i))] [] hA hB := by
  refine L_aload1 dL_law_361 ?_
  refine L_aload0 dL_law_362 ?_
  refine L_iload3 dL_law_363 ?_
  refine L_iconst (nI 1) dL_law_364 (by decide) ?_
  refine L_iadd_n dL_law_365 ?_
  refine L_sld rfl (show i + 1 < L by omega) (by omega) dL_law_366 ?_
  refine L_aload0 dL_law_367 ?_
  refine L_iload3 dL_law_368 ?_
  refine L_iconst (nI 2) dL_law_369 (by decide) ?_
  refine L_iadd_n dL_law_370 ?_
  refine L_sld rfl (show i + 2 < L by omega) (by omega) dL_law_371 ?_
  refine L_callA (av := [.int (xs (i + 1)), .int (xs (i + 2))]) (rest := []) eG (m_X5_shut GA hA S iS ra (xs (i + 1)) (xs (i + 2))) ml_L_37 imX5_shut seX5_shut in_X5 coX5_shut (show mOK yX5_shut 2 from (by unfold mOK; exact ⟨by decide +kernel, by decide +kernel, by decide +kernel⟩)) ⟨rfl, rfl, by decide, by decide⟩ rfl rfl (by decide) dL_law_372 (fun r1 h1 q1 => ?_)
  obtain ⟨rfl, q1⟩ := q1
  refine L_aload2 dL_law_375 ?_
  refine L_aload0 dL_law_376 ?_
  refine L_iload3 dL_law_377 ?_
  refine L_iconst (nI 1) dL_law_378 (by decide) ?_
  refine L_iadd_n dL_law_379 ?_
  refine L_sld rfl (show i + 1 < L by omega) (by omega) dL_law_380 ?_
  refine L_aload0 dL_law_381 ?_
  refine L_iload3 dL_law_382 ?_
  refine L_iconst (nI 2) dL_law_383 (by decide) ?_
  refine L_iadd_n dL_law_384 ?_
  refine L_sld rfl (show i + 2 < L by omega) (by omega) dL_law_385 ?_
  refine L_callB (av := [.int (xs (i + 1)), .int (xs (i + 2))]) (rest := [.int _]) eG (m_X6_shut GB hB S iS rb (xs (i + 1)) (xs (i + 2))) ml_L_40 imX6_shut seX6_shut in_X6 coX6_shut (show mOK yX6_shut 2 from (by unfold mOK; exact ⟨by decide +kernel, by decide +kernel, by decide +kernel⟩)) ⟨rfl, rfl, by decide, by decide⟩ rfl rfl (by show 1 + 0 ≤ 8; decide) dL_law_386 (fun r2 h2 q2 => ?_)
  obtain ⟨rfl, q2⟩ := q2
  refine L_icmp_eq 977 dL_law_389 (by decide) (fun _ => ?_) (fun c => absurd rfl c)
  exact K _ _ _ (K_shut iS (xs (i + 1)) (xs (i + 2))) q1 q2
set_option maxRecDepth 4000 in
theorem law_c6 (GA GB : GE) (eG : GB = (GA.1, GA.2.1, GA.2.2.1, GB.2.2.2)) (b L : Nat) (xs : Nat → Int32) (hL : L ≤ 3072) (i : Nat) (hi6 : i + 6 ≤ L) (S : St) (hA hB : Mem) (iS : Ok S) (ra : RA S hA) (rb : RB S hB) (K : ∀ (S : St) (hA hB : Mem), Ok S → RA S hA → RB S hB → LV GA GB b L xs RL cL_law 4 977 [some (.ref b), some (.ref (ad GA 0)), some (.ref (ad GB 100)), some (.int (nI i))] [] hA hB) : LV GA GB b L xs RL cL_law 4 394 [some (.ref b), some (.ref (ad GA 0)), some (.ref (ad GB 100)), some (.int (nI i))] [] hA hB := by
  refine L_aload1 dL_law_394 ?_
  refine L_aload0 dL_law_395 ?_
  refine L_iload3 dL_law_396 ?_
  refine L_iconst (nI 1) dL_law_397 (by decide) ?_
  refine L_iadd_n dL_law_398 ?_
  refine L_sld rfl (show i + 1 < L by omega) (by omega) dL_law_399 ?_
  refine L_aload0 dL_law_400 ?_
  refine L_iload3 dL_law_401 ?_
  refine L_iconst (nI 2) dL_law_402 (by decide) ?_
  refine L_iadd_n dL_law_403 ?_
  refine L_sld rfl (show i + 2 < L by omega) (by omega) dL_law_404 ?_
  refine L_callA (av := [.int (xs (i + 1)), .int (xs (i + 2))]) (rest := []) eG (m_X5_open GA hA S iS ra (xs (i + 1)) (xs (i + 2))) ml_L_41 imX5_open seX5_open in_X5 coX5_open (show mOK yX5_open 2 from (by unfold mOK; exact ⟨by decide +kernel, by decide +kernel, by decide +kernel⟩)) ⟨rfl, rfl, by decide, by decide⟩ rfl rfl (by decide) dL_law_405 (fun r1 h1 q1 => ?_)
  obtain ⟨rfl, q1⟩ := q1
  refine L_aload2 dL_law_408 ?_
  refine L_aload0 dL_law_409 ?_
  refine L_iload3 dL_law_410 ?_
  refine L_iconst (nI 1) dL_law_411 (by decide) ?_
  refine L_iadd_n dL_law_412 ?_
  refine L_sld rfl (show i + 1 < L by omega) (by omega) dL_law_413 ?_
  refine L_aload0 dL_law_414 ?_
  refine L_iload3 dL_law_415 ?_
  refine L_iconst (nI 2) dL_law_416 (by decide) ?_
  refine L_iadd_n dL_law_417 ?_
  refine L_sld rfl (show i + 2 < L by omega) (by omega) dL_law_418 ?_
  refine L_callB (av := [.int (xs (i + 1)), .int (xs (i + 2))]) (rest := [.int _]) eG (m_X6_open GB hB S iS rb (xs (i + 1)) (xs (i + 2))) ml_L_44 imX6_open seX6_open in_X6 coX6_open (show mOK yX6_open 2 from (by unfold mOK; exact ⟨by decide +kernel, by decide +kernel, by decide +kernel⟩)) ⟨rfl, rfl, by decide, by decide⟩ rfl rfl (by show 1 + 0 ≤ 8; decide) dL_law_419 (fun r2 h2 q2 => ?_)
  obtain ⟨rfl, q2⟩ := q2
  refine L_icmp_eq 977 dL_law_422 (by decide) (fun _ => ?_) (fun c => absurd rfl c)
  exact K _ _ _ (K_open iS (xs (i + 1)) (xs (i + 2))) q1 q2
set_option maxRecDepth 4000 in
theorem law_c7 (GA GB : GE) (eG : GB = (GA.1, GA.2.1, GA.2.2.1, GB.2.2.2)) (b L : Nat) (xs : Nat → Int32) (hL : L ≤ 3072) (i : Nat) (hi6 : i + 6 ≤ L) (S : St) (hA hB : Mem) (iS : Ok S) (ra : RA S hA) (rb : RB S hB) (K : ∀ (S : St) (hA hB : Mem), Ok S → RA S hA → RB S hB → LV GA GB b L xs RL cL_law 4 977 [some (.ref b), some (.ref (ad GA 0)), some (.ref (ad GB 100)), some (.int (nI i))] [] hA hB) : LV GA GB b L xs RL cL_law 4 427 [some (.ref b), some (.ref (ad GA 0)), some (.ref (ad GB 100)), some (.int (nI i))] [] hA hB := by
  refine L_aload1 dL_law_427 ?_
  refine L_aload0 dL_law_428 ?_
  refine L_iload3 dL_law_429 ?_
  refine L_iconst (nI 1) dL_law_430 (by decide) ?_
  refine L_iadd_n dL_law_431 ?_
  refine L_sld rfl (show i + 1 < L by omega) (by omega) dL_law_432 ?_
  refine L_aload0 dL_law_433 ?_
  refine L_iload3 dL_law_434 ?_
  refine L_iconst (nI 2) dL_law_435 (by decide) ?_
  refine L_iadd_n dL_law_436 ?_
  refine L_sld rfl (show i + 2 < L by omega) (by omega) dL_law_437 ?_
  refine L_callA (av := [.int (xs (i + 1)), .int (xs (i + 2))]) (rest := []) eG (m_X5_line GA hA S iS ra (xs (i + 1)) (xs (i + 2))) ml_L_45 imX5_line seX5_line in_X5 coX5_line (show mOK yX5_line 2 from (by unfold mOK; exact ⟨by decide +kernel, by decide +kernel, by decide +kernel⟩)) ⟨rfl, rfl, by decide, by decide⟩ rfl rfl (by decide) dL_law_438 (fun r1 h1 q1 => ?_)
  obtain ⟨rfl, q1⟩ := q1
  refine L_aload2 dL_law_441 ?_
  refine L_aload0 dL_law_442 ?_
  refine L_iload3 dL_law_443 ?_
  refine L_iconst (nI 1) dL_law_444 (by decide) ?_
  refine L_iadd_n dL_law_445 ?_
  refine L_sld rfl (show i + 1 < L by omega) (by omega) dL_law_446 ?_
  refine L_aload0 dL_law_447 ?_
  refine L_iload3 dL_law_448 ?_
  refine L_iconst (nI 2) dL_law_449 (by decide) ?_
  refine L_iadd_n dL_law_450 ?_
  refine L_sld rfl (show i + 2 < L by omega) (by omega) dL_law_451 ?_
  refine L_callB (av := [.int (xs (i + 1)), .int (xs (i + 2))]) (rest := [.int _]) eG (m_X6_line GB hB S iS rb (xs (i + 1)) (xs (i + 2))) ml_L_48 imX6_line seX6_line in_X6 coX6_line (show mOK yX6_line 2 from (by unfold mOK; exact ⟨by decide +kernel, by decide +kernel, by decide +kernel⟩)) ⟨rfl, rfl, by decide, by decide⟩ rfl rfl (by show 1 + 0 ≤ 8; decide) dL_law_452 (fun r2 h2 q2 => ?_)
  obtain ⟨rfl, q2⟩ := q2
  refine L_icmp_eq 977 dL_law_455 (by decide) (fun _ => ?_) (fun c => absurd rfl c)
  exact K _ _ _ (K_line iS (xs (i + 1)) (xs (i + 2))) q1 q2
set_option maxRecDepth 4000 in
theorem law_c8 (GA GB : GE) (eG : GB = (GA.1, GA.2.1, GA.2.2.1, GB.2.2.2)) (b L : Nat) (xs : Nat → Int32) (hL : L ≤ 3072) (i : Nat) (hi6 : i + 6 ≤ L) (S : St) (hA hB : Mem) (iS : Ok S) (ra : RA S hA) (rb : RB S hB) (K : ∀ (S : St) (hA hB : Mem), Ok S → RA S hA → RB S hB → LV GA GB b L xs RL cL_law 4 977 [some (.ref b), some (.ref (ad GA 0)), some (.ref (ad GB 100)), some (.int (nI i))] [] hA hB) : LV GA GB b L xs RL cL_law 4 460 [some (.ref b), some (.ref (ad GA 0)), some (.ref (ad GB 100)), some (.int (nI i))] [] hA hB := by
  refine L_aload1 dL_law_460 ?_
  refine L_aload0 dL_law_461 ?_
  refine L_iload3 dL_law_462 ?_
  refine L_iconst (nI 1) dL_law_463 (by decide) ?_
  refine L_iadd_n dL_law_464 ?_
  refine L_sld rfl (show i + 1 < L by omega) (by omega) dL_law_465 ?_
  refine L_aload0 dL_law_466 ?_
  refine L_iload3 dL_law_467 ?_
  refine L_iconst (nI 2) dL_law_468 (by decide) ?_
  refine L_iadd_n dL_law_469 ?_
  refine L_sld rfl (show i + 2 < L by omega) (by omega) dL_law_470 ?_
  refine L_callA (av := [.int (xs (i + 1)), .int (xs (i + 2))]) (rest := []) eG (m_X5_rule GA hA S iS ra (xs (i + 1)) (xs (i + 2))) ml_L_49 imX5_rule seX5_rule in_X5 coX5_rule (show mOK yX5_rule 2 from (by unfold mOK; exact ⟨by decide +kernel, by decide +kernel, by decide +kernel⟩)) ⟨rfl, rfl, by decide, by decide⟩ rfl rfl (by decide) dL_law_471 (fun r1 h1 q1 => ?_)
  obtain ⟨rfl, q1⟩ := q1
  refine L_aload2 dL_law_474 ?_
  refine L_aload0 dL_law_475 ?_
  refine L_iload3 dL_law_476 ?_
  refine L_iconst (nI 1) dL_law_477 (by decide) ?_
  refine L_iadd_n dL_law_478 ?_
  refine L_sld rfl (show i + 1 < L by omega) (by omega) dL_law_479 ?_
  refine L_aload0 dL_law_480 ?_
  refine L_iload3 dL_law_481 ?_
  refine L_iconst (nI 2) dL_law_482 (by decide) ?_
  refine L_iadd_n dL_law_483 ?_
  refine L_sld rfl (show i + 2 < L by omega) (by omega) dL_law_484 ?_
  refine L_callB (av := [.int (xs (i + 1)), .int (xs (i + 2))]) (rest := [.int _]) eG (m_X6_rule GB hB S iS rb (xs (i + 1)) (xs (i + 2))) ml_L_52 imX6_rule seX6_rule in_X6 coX6_rule (show mOK yX6_rule 2 from (by unfold mOK; exact ⟨by decide +kernel, by decide +kernel, by decide +kernel⟩)) ⟨rfl, rfl, by decide, by decide⟩ rfl rfl (by show 1 + 0 ≤ 8; decide) dL_law_485 (fun r2 h2 q2 => ?_)
  obtain ⟨rfl, q2⟩ := q2
  refine L_icmp_eq 977 dL_law_488 (by decide) (fun _ => ?_) (fun c => absurd rfl c)
  exact K _ _ _ (K_rule iS (xs (i + 1)) (xs (i + 2))) q1 q2
set_option maxRecDepth 4000 in
theorem law_c9 (GA GB : GE) (eG : GB = (GA.1, GA.2.1, GA.2.2.1, GB.2.2.2)) (b L : Nat) (xs : Nat → Int32) (hL : L ≤ 3072) (i : Nat) (hi6 : i + 6 ≤ L) (S : St) (hA hB : Mem) (iS : Ok S) (ra : RA S hA) (rb : RB S hB) (K : ∀ (S : St) (hA hB : Mem), Ok S → RA S hA → RB S hB → LV GA GB b L xs RL cL_law 4 977 [some (.ref b), some (.ref (ad GA 0)), some (.ref (ad GB 100)), some (.int (nI i))] [] hA hB) : LV GA GB b L xs RL cL_law 4 493 [some (.ref b), some (.ref (ad GA 0)), some (.ref (ad GB 100)), some (.int (nI i))] [] hA hB := by
  refine L_aload1 dL_law_493 ?_
  refine L_aload0 dL_law_494 ?_
  refine L_iload3 dL_law_495 ?_
  refine L_iconst (nI 1) dL_law_496 (by decide) ?_
  refine L_iadd_n dL_law_497 ?_
  refine L_sld rfl (show i + 1 < L by omega) (by omega) dL_law_498 ?_
  refine L_callA (av := [.int (xs (i + 1))]) (rest := []) eG (P_lead GA hA S iS ra (xs (i + 1))) ml_L_53 imX5_lead seX5_lead in_X5 coX5_lead (show mOK yX5_lead 1 from (by unfold mOK; exact ⟨by decide +kernel, by decide +kernel, by decide +kernel⟩)) ⟨rfl, rfl, by decide, by decide⟩ rfl rfl (by decide) dL_law_499 (fun r1 h1 q1 => ?_)
  obtain ⟨rfl, q1⟩ := q1
  refine L_aload2 dL_law_502 ?_
  refine L_aload0 dL_law_503 ?_
  refine L_iload3 dL_law_504 ?_
  refine L_iconst (nI 1) dL_law_505 (by decide) ?_
  refine L_iadd_n dL_law_506 ?_
  refine L_sld rfl (show i + 1 < L by omega) (by omega) dL_law_507 ?_
  refine L_callB (av := [.int (xs (i + 1))]) (rest := [.int _]) eG (m_X6_lead GB hB S iS rb (xs (i + 1))) ml_L_56 imX6_lead seX6_lead in_X6 coX6_lead (show mOK yX6_lead 1 from (by unfold mOK; exact ⟨by decide +kernel, by decide +kernel, by decide +kernel⟩)) ⟨rfl, rfl, by decide, by decide⟩ rfl rfl (by show 1 + 0 ≤ 8; decide) dL_law_508 (fun r2 h2 q2 => ?_)
  obtain ⟨rfl, q2⟩ := q2
  refine L_icmp_eq 977 dL_law_511 (by decide) (fun _ => ?_) (fun c => absurd rfl c)
  exact K _ _ _ (K_lead iS (xs (i + 1))) q1 q2
set_option maxRecDepth 4000 in
theorem law_c10 (GA GB : GE) (eG : GB = (GA.1, GA.2.1, GA.2.2.1, GB.2.2.2)) (b L : Nat) (xs : Nat → Int32) (hL : L ≤ 3072) (i : Nat) (hi6 : i + 6 ≤ L) (S : St) (hA hB : Mem) (iS : Ok S) (ra : RA S hA) (rb : RB S hB) (K : ∀ (S : St) (hA hB : Mem), Ok S → RA S hA → RB S hB → LV GA GB b L xs RL cL_law 4 977 [some (.ref b), some (.ref (ad GA 0)), some (.ref (ad GB 100)), some (.int (nI i))] [] hA hB) : LV GA GB b L xs RL cL_law 4 516 [some (.ref b), some (.ref (ad GA 0)), some (.ref (ad GB 100)), some (.int (nI i))] [] hA hB := by
  refine L_aload1 dL_law_516 ?_
  refine L_aload0 dL_law_517 ?_
  refine L_iload3 dL_law_518 ?_
  refine L_iconst (nI 1) dL_law_519 (by decide) ?_
  refine L_iadd_n dL_law_520 ?_
  refine L_sld rfl (show i + 1 < L by omega) (by omega) dL_law_521 ?_
  refine L_aload0 dL_law_522 ?_
  refine L_iload3 dL_law_523 ?_
  refine L_iconst (nI 2) dL_law_524 (by decide) ?_
  refine L_iadd_n dL_law_525 ?_
  refine L_sld rfl (show i + 2 < L by omega) (by omega) dL_law_526 ?_
  refine L_aload0 dL_law_527 ?_
  refine L_iload3 dL_law_528 ?_
  refine L_iconst (nI 3) dL_law_529 (by decide) ?_
  refine L_iadd_n dL_law_530 ?_
  refine L_sld rfl (show i + 3 < L by omega) (by omega) dL_law_531 ?_
  refine L_aload0 dL_law_532 ?_
  refine L_iload3 dL_law_533 ?_
  refine L_iconst (nI 4) dL_law_534 (by decide) ?_
  refine L_iadd_n dL_law_535 ?_
  refine L_sld rfl (show i + 4 < L by omega) (by omega) dL_law_536 ?_
  refine L_callA (av := [.int (xs (i + 1)), .int (xs (i + 2)), .int (xs (i + 3)), .int (xs (i + 4))]) (rest := []) eG (m_X5_lay GA hA S iS ra (xs (i + 1)) (xs (i + 2)) (xs (i + 3)) (xs (i + 4))) ml_L_57 imX5_lay seX5_lay in_X5 coX5_lay (show mOK yX5_lay 4 from (by unfold mOK; exact ⟨by decide +kernel, by decide +kernel, by decide +kernel⟩)) ⟨rfl, rfl, by decide, by decide⟩ rfl rfl (by decide) dL_law_537 (fun r1 h1 q1 => ?_)
  obtain ⟨rfl, q1⟩ := q1
  refine L_aload2 dL_law_540 ?_
  refine L_aload0 dL_law_541 ?_
  refine L_iload3 dL_law_542 ?_
  refine L_iconst (nI 1) dL_law_543 (by decide) ?_
  refine L_iadd_n dL_law_544 ?_
  refine L_sld rfl (show i + 1 < L by omega) (by omega) dL_law_545 ?_
  refine L_aload0 dL_law_546 ?_
  refine L_iload3 dL_law_547 ?_
  refine L_iconst (nI 2) dL_law_548 (by decide) ?_
  refine L_iadd_n dL_law_549 ?_
  refine L_sld rfl (show i + 2 < L by omega) (by omega) dL_law_550 ?_
  refine L_aload0 dL_law_551 ?_
  refine L_iload3 dL_law_552 ?_
  refine L_iconst (nI 3) dL_law_553 (by decide) ?_
  refine L_iadd_n dL_law_554 ?_
  refine L_sld rfl (show i + 3 < L by omega) (by omega) dL_law_555 ?_
  refine L_aload0 dL_law_556 ?_
  refine L_iload3 dL_law_557 ?_
  refine L_iconst (nI 4) dL_law_558 (by decide) ?_
  refine L_iadd_n dL_law_559 ?_
  refine L_sld rfl (show i + 4 < L by omega) (by omega) dL_law_560 ?_
  refine L_callB (av := [.int (xs (i + 1)), .int (xs (i + 2)), .int (xs (i + 3)), .int (xs (i + 4))]) (rest := [.int _]) eG (m_X6_lay GB hB S iS rb (xs (i + 1)) (xs (i + 2)) (xs (i + 3)) (xs (i + 4))) ml_L_61 imX6_lay seX6_lay in_X6 coX6_lay (show mOK yX6_lay 4 from (by unfold mOK; exact ⟨by decide +kernel, by decide +kernel, by decide +kernel⟩)) ⟨rfl, rfl, by decide, by decide⟩ rfl rfl (by show 1 + 0 ≤ 8; decide) dL_law_561 (fun r2 h2 q2 => ?_)
  obtain ⟨rfl, q2⟩ := q2
  refine L_icmp_eq 977 dL_law_564 (by decide) (fun _ => ?_) (fun c => absurd rfl c)
  exact K _ _ _ (K_lay iS (xs (i + 1)) (xs (i + 2)) (xs (i + 3)) (xs (i + 4))) q1 q2
set_option maxRecDepth 4000 in
theorem law_c11 (GA GB : GE) (eG : GB = (GA.1, GA.2.1, GA.2.2.1, GB.2.2.2)) (b L : Nat) (xs : Nat → Int32) (hL : L ≤ 3072) (i : Nat) (hi6 : i + 6 ≤ L) (S : St) (hA hB : Mem) (iS : Ok S) (ra : RA S hA) (rb : RB S hB) (K : ∀ (S : St) (hA hB : Mem), Ok S → RA S hA → RB S hB → LV GA GB b L xs RL cL_law 4 977 [some (.ref b), some (.ref (ad GA 0)), some (.ref (ad GB 100)), some (.int (nI i))] [] hA hB) : LV GA GB b L xs RL cL_law 4 569 [some (.ref b), some (.ref (ad GA 0)), some (.ref (ad GB 100)), some (.int (nI i))] [] hA hB := by
  refine L_aload1 dL_law_569 ?_
  refine L_aload0 dL_law_570 ?_
  refine L_iload3 dL_law_571 ?_
  refine L_iconst (nI 1) dL_law_572 (by decide) ?_
  refine L_iadd_n dL_law_573 ?_
  refine L_sld rfl (show i + 1 < L by omega) (by omega) dL_law_574 ?_
  refine L_callA (av := [.int (xs (i + 1))]) (rest := []) eG (P_take GA hA S iS ra (xs (i + 1))) ml_L_62 imX5_take seX5_take in_X5 coX5_take (show mOK yX5_take 1 from (by unfold mOK; exact ⟨by decide +kernel, by decide +kernel, by decide +kernel⟩)) ⟨rfl, rfl, by decide, by decide⟩ rfl rfl (by decide) dL_law_575 (fun r1 h1 q1 => ?_)
  obtain ⟨rfl, q1⟩ := q1
  refine L_aload2 dL_law_578 ?_
  refine L_aload0 dL_law_579 ?_
  refine L_iload3 dL_law_580 ?_
  refine L_iconst (nI 1) dL_law_581 (by decide) ?_
  refine L_iadd_n dL_law_582 ?_
  refine L_sld rfl (show i + 1 < L by omega) (by omega) dL_law_583 ?_
  refine L_callB (av := [.int (xs (i + 1))]) (rest := [.int _]) eG (m_X6_take GB hB S iS rb (xs (i + 1))) ml_L_65 imX6_take seX6_take in_X6 coX6_take (show mOK yX6_take 1 from (by unfold mOK; exact ⟨by decide +kernel, by decide +kernel, by decide +kernel⟩)) ⟨rfl, rfl, by decide, by decide⟩ rfl rfl (by show 1 + 0 ≤ 8; decide) dL_law_584 (fun r2 h2 q2 => ?_)
  obtain ⟨rfl, q2⟩ := q2
  refine L_icmp_eq 977 dL_law_587 (by decide) (fun _ => ?_) (fun c => absurd rfl c)
  exact K _ _ _ (K_take iS (xs (i + 1))) q1 q2
set_option maxRecDepth 4000 in
theorem law_c12 (GA GB : GE) (eG : GB = (GA.1, GA.2.1, GA.2.2.1, GB.2.2.2)) (b L : Nat) (xs : Nat → Int32) (hL : L ≤ 3072) (i : Nat) (hi6 : i + 6 ≤ L) (S : St) (hA hB : Mem) (iS : Ok S) (ra : RA S hA) (rb : RB S hB) (K : ∀ (S : St) (hA hB : Mem), Ok S → RA S hA → RB S hB → LV GA GB b L xs RL cL_law 4 977 [some (.ref b), some (.ref (ad GA 0)), some (.ref (ad GB 100)), some (.int (nI i))] [] hA hB) : LV GA GB b L xs RL cL_law 4 592 [some (.ref b), some (.ref (ad GA 0)), some (.ref (ad GB 100)), some (.int (nI i))] [] hA hB := by
  refine L_aload1 dL_law_592 ?_
  refine L_callA (av := []) (rest := []) eG (P_pass GA hA S iS ra) ml_L_66 imX5_pass seX5_pass in_X5 coX5_pass (show mOK yX5_pass 0 from (by unfold mOK; exact ⟨by decide +kernel, by decide +kernel, by decide +kernel⟩)) ⟨rfl, rfl, by decide, by decide⟩ rfl rfl (by decide) dL_law_593 (fun r1 h1 q1 => ?_)
  obtain ⟨rfl, q1⟩ := q1
  refine L_aload2 dL_law_596 ?_
  refine L_callB (av := []) (rest := [.int _]) eG (m_X6_pass GB hB S iS rb) ml_L_70 imX6_pass seX6_pass in_X6 coX6_pass (show mOK yX6_pass 0 from (by unfold mOK; exact ⟨by decide +kernel, by decide +kernel, by decide +kernel⟩)) ⟨rfl, rfl, by decide, by decide⟩ rfl rfl (by show 1 + 0 ≤ 8; decide) dL_law_597 (fun r2 h2 q2 => ?_)
  obtain ⟨rfl, q2⟩ := q2
  refine L_icmp_eq 977 dL_law_600 (by decide) (fun _ => ?_) (fun c => absurd rfl c)
  exact K _ _ _ (K_pass iS) q1 q2
set_option maxRecDepth 4000 in
theorem law_c13 (GA GB : GE) (eG : GB = (GA.1, GA.2.1, GA.2.2.1, GB.2.2.2)) (b L : Nat) (xs : Nat → Int32) (hL : L ≤ 3072) (i : Nat) (hi6 : i + 6 ≤ L) (S : St) (hA hB : Mem) (iS : Ok S) (ra : RA S hA) (rb : RB S hB) (K : ∀ (S : St) (hA hB : Mem), Ok S → RA S hA → RB S hB → LV GA GB b L xs RL cL_law 4 977 [some (.ref b), some (.ref (ad GA 0)), some (.ref (ad GB 100)), some (.int (nI i))] [] hA hB) : LV GA GB b L xs RL cL_law 4 605 [some (.ref b), some (.ref (ad GA 0)), some (.ref (ad GB 100)), some (.int (nI i))] [] hA hB := by
  refine L_aload1 dL_law_605 ?_
  refine L_callA (av := []) (rest := []) eG (P_rest GA hA S iS ra) ml_L_71 imX5_rest seX5_rest in_X5 coX5_rest (show mOK yX5_rest 0 from (by unfold mOK; exact ⟨by decide +kernel, by decide +kernel, by decide +kernel⟩)) ⟨rfl, rfl, by decide, by decide⟩ rfl rfl (by decide) dL_law_606 (fun r1 h1 q1 => ?_)
  obtain ⟨rfl, q1⟩ := q1
  refine L_aload2 dL_law_609 ?_
  refine L_callB (av := []) (rest := [.int _]) eG (m_X6_rest GB hB S iS rb) ml_L_74 imX6_rest seX6_rest in_X6 coX6_rest (show mOK yX6_rest 0 from (by unfold mOK; exact ⟨by decide +kernel, by decide +kernel, by decide +kernel⟩)) ⟨rfl, rfl, by decide, by decide⟩ rfl rfl (by show 1 + 0 ≤ 8; decide) dL_law_610 (fun r2 h2 q2 => ?_)
  obtain ⟨rfl, q2⟩ := q2
  refine L_icmp_eq 977 dL_law_613 (by decide) (fun _ => ?_) (fun c => absurd rfl c)
  exact K _ _ _ (K_rest iS) q1 q2
set_option maxRecDepth 4000 in
theorem law_c14 (GA GB : GE) (eG : GB = (GA.1, GA.2.1, GA.2.2.1, GB.2.2.2)) (b L : Nat) (xs : Nat → Int32) (hL : L ≤ 3072) (i : Nat) (hi6 : i + 6 ≤ L) (S : St) (hA hB : Mem) (iS : Ok S) (ra : RA S hA) (rb : RB S hB) (K : ∀ (S : St) (hA hB : Mem), Ok S → RA S hA → RB S hB → LV GA GB b L xs RL cL_law 4 977 [some (.ref b), some (.ref (ad GA 0)), some (.ref (ad GB 100)), some (.int (nI i))] [] hA hB) : LV GA GB b L xs RL cL_law 4 618 [some (.ref b), some (.ref (ad GA 0)), some (.ref (ad GB 100)), some (.int (nI i))] [] hA hB := by
  refine L_aload1 dL_law_618 ?_
  refine L_aload0 dL_law_619 ?_
  refine L_iload3 dL_law_620 ?_
  refine L_iconst (nI 1) dL_law_621 (by decide) ?_
  refine L_iadd_n dL_law_622 ?_
  refine L_sld rfl (show i + 1 < L by omega) (by omega) dL_law_623 ?_
  refine L_aload0 dL_law_624 ?_
  refine L_iload3 dL_law_625 ?_
  refine L_iconst (nI 2) dL_law_626 (by decide) ?_
  refine L_iadd_n dL_law_627 ?_
  refine L_sld rfl (show i + 2 < L by omega) (by omega) dL_law_628 ?_
  refine L_callA (av := [.int (xs (i + 1)), .int (xs (i + 2))]) (rest := []) eG (m_X5_way GA hA S iS ra (xs (i + 1)) (xs (i + 2))) ml_L_75 imX5_way seX5_way in_X5 coX5_way (show mOK yX5_way 2 from (by unfold mOK; exact ⟨by decide +kernel, by decide +kernel, by decide +kernel⟩)) ⟨rfl, rfl, by decide, by decide⟩ rfl rfl (by decide) dL_law_629 (fun r1 h1 q1 => ?_)
  obtain ⟨rfl, q1⟩ := q1
  refine L_aload2 dL_law_632 ?_
  refine L_aload0 dL_law_633 ?_
  refine L_iload3 dL_law_634 ?_
  refine L_iconst (nI 1) dL_law_635 (by decide) ?_
  refine L_iadd_n dL_law_636 ?_
  refine L_sld rfl (show i + 1 < L by omega) (by omega) dL_law_637 ?_
  refine L_aload0 dL_law_638 ?_
  refine L_iload3 dL_law_639 ?_
  refine L_iconst (nI 2) dL_law_640 (by decide) ?_
  refine L_iadd_n dL_law_641 ?_
  refine L_sld rfl (show i + 2 < L by omega) (by omega) dL_law_642 ?_
  refine L_callB (av := [.int (xs (i + 1)), .int (xs (i + 2))]) (rest := [.int _]) eG (m_X6_way GB hB S iS rb (xs (i + 1)) (xs (i + 2))) ml_L_78 imX6_way seX6_way in_X6 coX6_way (show mOK yX6_way 2 from (by unfold mOK; exact ⟨by decide +kernel, by decide +kernel, by decide +kernel⟩)) ⟨rfl, rfl, by decide, by decide⟩ rfl rfl (by show 1 + 0 ≤ 8; decide) dL_law_643 (fun r2 h2 q2 => ?_)
  obtain ⟨rfl, q2⟩ := q2
  refine L_icmp_eq 977 dL_law_646 (by decide) (fun _ => ?_) (fun c => absurd rfl c)
  exact K _ _ _ iS q1 q2
set_option maxRecDepth 4000 in
theorem law_c15 (GA GB : GE) (eG : GB = (GA.1, GA.2.1, GA.2.2.1, GB.2.2.2)) (b L : Nat) (xs : Nat → Int32) (hL : L ≤ 3072) (i : Nat) (hi6 : i + 6 ≤ L) (S : St) (hA hB : Mem) (iS : Ok S) (ra : RA S hA) (rb : RB S hB) (K : ∀ (S : St) (hA hB : Mem), Ok S → RA S hA → RB S hB → LV GA GB b L xs RL cL_law 4 977 [some (.ref b), some (.ref (ad GA 0)), some (.ref (ad GB 100)), some (.int (nI i))] [] hA hB) : LV GA GB b L xs RL cL_law 4 651 [some (.ref b), some (.ref (ad GA 0)), some (.ref (ad GB 100)), some (.int (nI i))] [] hA hB := by
  refine L_aload1 dL_law_651 ?_
  refine L_aload0 dL_law_652 ?_
  refine L_iload3 dL_law_653 ?_
  refine L_iconst (nI 1) dL_law_654 (by decide) ?_
  refine L_iadd_n dL_law_655 ?_
  refine L_sld rfl (show i + 1 < L by omega) (by omega) dL_law_656 ?_
  refine L_aload0 dL_law_657 ?_
  refine L_iload3 dL_law_658 ?_
  refine L_iconst (nI 2) dL_law_659 (by decide) ?_
  refine L_iadd_n dL_law_660 ?_
  refine L_sld rfl (show i + 2 < L by omega) (by omega) dL_law_661 ?_
  refine L_aload0 dL_law_662 ?_
  refine L_iload3 dL_law_663 ?_
  refine L_iconst (nI 3) dL_law_664 (by decide) ?_
  refine L_iadd_n dL_law_665 ?_
  refine L_sld rfl (show i + 3 < L by omega) (by omega) dL_law_666 ?_
  refine L_callA (av := [.int (xs (i + 1)), .int (xs (i + 2)), .int (xs (i + 3))]) (rest := []) eG (m_X5_width GA hA S iS ra (xs (i + 1)) (xs (i + 2)) (xs (i + 3))) ml_L_79 imX5_width seX5_width in_X5 coX5_width (show mOK yX5_width 3 from (by unfold mOK; exact ⟨by decide +kernel, by decide +kernel, by decide +kernel⟩)) ⟨rfl, rfl, by decide, by decide⟩ rfl rfl (by decide) dL_law_667 (fun r1 h1 q1 => ?_)
  obtain ⟨rfl, q1⟩ := q1
  refine L_aload2 dL_law_670 ?_
  refine L_aload0 dL_law_671 ?_
  refine L_iload3 dL_law_672 ?_
  refine L_iconst (nI 1) dL_law_673 (by decide) ?_
  refine L_iadd_n dL_law_674 ?_
  refine L_sld rfl (show i + 1 < L by omega) (by omega) dL_law_675 ?_
  refine L_aload0 dL_law_676 ?_
  refine L_iload3 dL_law_677 ?_
  refine L_iconst (nI 2) dL_law_678 (by decide) ?_
  refine L_iadd_n dL_law_679 ?_
  refine L_sld rfl (show i + 2 < L by omega) (by omega) dL_law_680 ?_
  refine L_aload0 dL_law_681 ?_
  refine L_iload3 dL_law_682 ?_
  refine L_iconst (nI 3) dL_law_683 (by decide) ?_
  refine L_iadd_n dL_law_684 ?_
  refine L_sld rfl (show i + 3 < L by omega) (by omega) dL_law_685 ?_
  refine L_callB (av := [.int (xs (i + 1)), .int (xs (i + 2)), .int (xs (i + 3))]) (rest := [.int _]) eG (m_X6_width GB hB S iS rb (xs (i + 1)) (xs (i + 2)) (xs (i + 3))) ml_L_82 imX6_width seX6_width in_X6 coX6_width (show mOK yX6_width 3 from (by unfold mOK; exact ⟨by decide +kernel, by decide +kernel, by decide +kernel⟩)) ⟨rfl, rfl, by decide, by decide⟩ rfl rfl (by show 1 + 0 ≤ 8; decide) dL_law_686 (fun r2 h2 q2 => ?_)
  obtain ⟨rfl, q2⟩ := q2
  refine L_icmp_eq 977 dL_law_689 (by decide) (fun _ => ?_) (fun c => absurd rfl c)
  exact K _ _ _ iS q1 q2
set_option maxRecDepth 4000 in
theorem law_c16 (GA GB : GE) (eG : GB = (GA.1, GA.2.1, GA.2.2.1, GB.2.2.2)) (b L : Nat) (xs : Nat → Int32) (hL : L ≤ 3072) (i : Nat) (hi6 : i + 6 ≤ L) (S : St) (hA hB : Mem) (iS : Ok S) (ra : RA S hA) (rb : RB S hB) (K : ∀ (S : St) (hA hB : Mem), Ok S → RA S hA → RB S hB → LV GA GB b L xs RL cL_law 4 977 [some (.ref b), some (.ref (ad GA 0)), some (.ref (ad GB 100)), some (.int (nI i))] [] hA hB) : LV GA GB b L xs RL cL_law 4 694 [some (.ref b), some (.ref (ad GA 0)), some (.ref (ad GB 100)), some (.int (nI i))] [] hA hB := by
  refine L_aload1 dL_law_694 ?_
  refine L_aload0 dL_law_695 ?_
  refine L_iload3 dL_law_696 ?_
  refine L_iconst (nI 1) dL_law_697 (by decide) ?_
  refine L_iadd_n dL_law_698 ?_
  refine L_sld rfl (show i + 1 < L by omega) (by omega) dL_law_699 ?_
  refine L_callA (av := [.int (xs (i + 1))]) (rest := []) eG (m_X5_all GA hA S iS ra (xs (i + 1))) ml_L_83 imX5_all seX5_all in_X5 coX5_all (show mOK yX5_all 1 from (by unfold mOK; exact ⟨by decide +kernel, by decide +kernel, by decide +kernel⟩)) ⟨rfl, rfl, by decide, by decide⟩ rfl rfl (by decide) dL_law_700 (fun r1 h1 q1 => ?_)
  obtain ⟨rfl, q1⟩ := q1
  refine L_aload2 dL_law_703 ?_
  refine L_aload0 dL_law_704 ?_
  refine L_iload3 dL_law_705 ?_
  refine L_iconst (nI 1) dL_law_706 (by decide) ?_
  refine L_iadd_n dL_law_707 ?_
  refine L_sld rfl (show i + 1 < L by omega) (by omega) dL_law_708 ?_
  refine L_callB (av := [.int (xs (i + 1))]) (rest := [.int _]) eG (m_X6_all GB hB S iS rb (xs (i + 1))) ml_L_86 imX6_all seX6_all in_X6 coX6_all (show mOK yX6_all 1 from (by unfold mOK; exact ⟨by decide +kernel, by decide +kernel, by decide +kernel⟩)) ⟨rfl, rfl, by decide, by decide⟩ rfl rfl (by show 1 + 0 ≤ 8; decide) dL_law_709 (fun r2 h2 q2 => ?_)
  obtain ⟨rfl, q2⟩ := q2
  refine L_icmp_eq 977 dL_law_712 (by decide) (fun _ => ?_) (fun c => absurd rfl c)
  exact K _ _ _ iS q1 q2
set_option maxRecDepth 4000 in
theorem law_c17 (GA GB : GE) (eG : GB = (GA.1, GA.2.1, GA.2.2.1, GB.2.2.2)) (b L : Nat) (xs : Nat → Int32) (hL : L ≤ 3072) (i : Nat) (hi6 : i + 6 ≤ L) (S : St) (hA hB : Mem) (iS : Ok S) (ra : RA S hA) (rb : RB S hB) (K : ∀ (S : St) (hA hB : Mem), Ok S → RA S hA → RB S hB → LV GA GB b L xs RL cL_law 4 977 [some (.ref b), some (.ref (ad GA 0)), some (.ref (ad GB 100)), some (.int (nI i))] [] hA hB) : LV GA GB b L xs RL cL_law 4 717 [some (.ref b), some (.ref (ad GA 0)), some (.ref (ad GB 100)), some (.int (nI i))] [] hA hB := by
  refine L_aload1 dL_law_717 ?_
  refine L_aload0 dL_law_718 ?_
  refine L_iload3 dL_law_719 ?_
  refine L_iconst (nI 1) dL_law_720 (by decide) ?_
  refine L_iadd_n dL_law_721 ?_
  refine L_sld rfl (show i + 1 < L by omega) (by omega) dL_law_722 ?_
  refine L_callA (av := [.int (xs (i + 1))]) (rest := []) eG (m_X5_detour GA hA S iS ra (xs (i + 1))) ml_L_87 imX5_detour seX5_detour in_X5 coX5_detour (show mOK yX5_detour 1 from (by unfold mOK; exact ⟨by decide +kernel, by decide +kernel, by decide +kernel⟩)) ⟨rfl, rfl, by decide, by decide⟩ rfl rfl (by decide) dL_law_723 (fun r1 h1 q1 => ?_)
  obtain ⟨rfl, q1⟩ := q1
  refine L_aload2 dL_law_726 ?_
  refine L_aload0 dL_law_727 ?_
  refine L_iload3 dL_law_728 ?_
  refine L_iconst (nI 1) dL_law_729 (by decide) ?_
  refine L_iadd_n dL_law_730 ?_
  refine L_sld rfl (show i + 1 < L by omega) (by omega) dL_law_731 ?_
  refine L_callB (av := [.int (xs (i + 1))]) (rest := [.int _]) eG (m_X6_detour GB hB S iS rb (xs (i + 1))) ml_L_90 imX6_detour seX6_detour in_X6 coX6_detour (show mOK yX6_detour 1 from (by unfold mOK; exact ⟨by decide +kernel, by decide +kernel, by decide +kernel⟩)) ⟨rfl, rfl, by decide, by decide⟩ rfl rfl (by show 1 + 0 ≤ 8; decide) dL_law_732 (fun r2 h2 q2 => ?_)
  obtain ⟨rfl, q2⟩ := q2
  refine L_icmp_eq 977 dL_law_735 (by decide) (fun _ => ?_) (fun c => absurd rfl c)
  exact K _ _ _ iS q1 q2
set_option maxRecDepth 4000 in
theorem law_c18 (GA GB : GE) (eG : GB = (GA.1, GA.2.1, GA.2.2.1, GB.2.2.2)) (b L : Nat) (xs : Nat → Int32) (hL : L ≤ 3072) (i : Nat) (hi6 : i + 6 ≤ L) (S : St) (hA hB : Mem) (iS : Ok S) (ra : RA S hA) (rb : RB S hB) (K : ∀ (S : St) (hA hB : Mem), Ok S → RA S hA → RB S hB → LV GA GB b L xs RL cL_law 4 977 [some (.ref b), some (.ref (ad GA 0)), some (.ref (ad GB 100)), some (.int (nI i))] [] hA hB) : LV GA GB b L xs RL cL_law 4 740 [some (.ref b), some (.ref (ad GA 0)), some (.ref (ad GB 100)), some (.int (nI i))] [] hA hB := by
  refine L_aload1 dL_law_740 ?_
  refine L_aload0 dL_law_741 ?_
  refine L_iload3 dL_law_742 ?_
  refine L_iconst (nI 1) dL_law_743 (by decide) ?_
  refine L_iadd_n dL_law_744 ?_
  refine L_sld rfl (show i + 1 < L by omega) (by omega) dL_law_745 ?_
  refine L_aload0 dL_law_746 ?_
  refine L_iload3 dL_law_747 ?_
  refine L_iconst (nI 2) dL_law_748 (by decide) ?_
  refine L_iadd_n dL_law_749 ?_
  refine L_sld rfl (show i + 2 < L by omega) (by omega) dL_law_750 ?_
  refine L_callA (av := [.int (xs (i + 1)), .int (xs (i + 2))]) (rest := []) eG (m_X5_shared GA hA S iS ra (xs (i + 1)) (xs (i + 2))) ml_L_91 imX5_shared seX5_shared in_X5 coX5_shared (show mOK yX5_shared 2 from (by unfold mOK; exact ⟨by decide +kernel, by decide +kernel, by decide +kernel⟩)) ⟨rfl, rfl, by decide, by decide⟩ rfl rfl (by decide) dL_law_751 (fun r1 h1 q1 => ?_)
  obtain ⟨rfl, q1⟩ := q1
  refine L_aload2 dL_law_754 ?_
  refine L_aload0 dL_law_755 ?_
  refine L_iload3 dL_law_756 ?_
  refine L_iconst (nI 1) dL_law_757 (by decide) ?_
  refine L_iadd_n dL_law_758 ?_
  refine L_sld rfl (show i + 1 < L by omega) (by omega) dL_law_759 ?_
  refine L_aload0 dL_law_760 ?_
  refine L_iload3 dL_law_761 ?_
  refine L_iconst (nI 2) dL_law_762 (by decide) ?_
  refine L_iadd_n dL_law_763 ?_
  refine L_sld rfl (show i + 2 < L by omega) (by omega) dL_law_764 ?_
  refine L_callB (av := [.int (xs (i + 1)), .int (xs (i + 2))]) (rest := [.int _]) eG (m_X6_shared GB hB S iS rb (xs (i + 1)) (xs (i + 2))) ml_L_94 imX6_shared seX6_shared in_X6 coX6_shared (show mOK yX6_shared 2 from (by unfold mOK; exact ⟨by decide +kernel, by decide +kernel, by decide +kernel⟩)) ⟨rfl, rfl, by decide, by decide⟩ rfl rfl (by show 1 + 0 ≤ 8; decide) dL_law_765 (fun r2 h2 q2 => ?_)
  obtain ⟨rfl, q2⟩ := q2
  refine L_icmp_eq 977 dL_law_768 (by decide) (fun _ => ?_) (fun c => absurd rfl c)
  exact K _ _ _ iS q1 q2
set_option maxRecDepth 4000 in
theorem law_c19 (GA GB : GE) (eG : GB = (GA.1, GA.2.1, GA.2.2.1, GB.2.2.2)) (b L : Nat) (xs : Nat → Int32) (hL : L ≤ 3072) (i : Nat) (hi6 : i + 6 ≤ L) (S : St) (hA hB : Mem) (iS : Ok S) (ra : RA S hA) (rb : RB S hB) (K : ∀ (S : St) (hA hB : Mem), Ok S → RA S hA → RB S hB → LV GA GB b L xs RL cL_law 4 977 [some (.ref b), some (.ref (ad GA 0)), some (.ref (ad GB 100)), some (.int (nI i))] [] hA hB) : LV GA GB b L xs RL cL_law 4 773 [some (.ref b), some (.ref (ad GA 0)), some (.ref (ad GB 100)), some (.int (nI i))] [] hA hB := by
  refine L_aload1 dL_law_773 ?_
  refine L_aload0 dL_law_774 ?_
  refine L_iload3 dL_law_775 ?_
  refine L_iconst (nI 1) dL_law_776 (by decide) ?_
  refine L_iadd_n dL_law_777 ?_
  refine L_sld rfl (show i + 1 < L by omega) (by omega) dL_law_778 ?_
  refine L_callA (av := [.int (xs (i + 1))]) (rest := []) eG (m_X5_tint GA hA S iS ra (xs (i + 1))) ml_L_95 imX5_tint seX5_tint in_X5 coX5_tint (show mOK yX5_tint 1 from (by unfold mOK; exact ⟨by decide +kernel, by decide +kernel, by decide +kernel⟩)) ⟨rfl, rfl, by decide, by decide⟩ rfl rfl (by decide) dL_law_779 (fun r1 h1 q1 => ?_)
  obtain ⟨rfl, q1⟩ := q1
  refine L_aload2 dL_law_782 ?_
  refine L_aload0 dL_law_783 ?_
  refine L_iload3 dL_law_784 ?_
  refine L_iconst (nI 1) dL_law_785 (by decide) ?_
  refine L_iadd_n dL_law_786 ?_
  refine L_sld rfl (show i + 1 < L by omega) (by omega) dL_law_787 ?_
  refine L_callB (av := [.int (xs (i + 1))]) (rest := [.int _]) eG (m_X6_tint GB hB S iS rb (xs (i + 1))) ml_L_98 imX6_tint seX6_tint in_X6 coX6_tint (show mOK yX6_tint 1 from (by unfold mOK; exact ⟨by decide +kernel, by decide +kernel, by decide +kernel⟩)) ⟨rfl, rfl, by decide, by decide⟩ rfl rfl (by show 1 + 0 ≤ 8; decide) dL_law_788 (fun r2 h2 q2 => ?_)
  obtain ⟨rfl, q2⟩ := q2
  refine L_icmp_eq 977 dL_law_791 (by decide) (fun _ => ?_) (fun c => absurd rfl c)
  exact K _ _ _ iS q1 q2
set_option maxRecDepth 4000 in
theorem law_c20 (GA GB : GE) (eG : GB = (GA.1, GA.2.1, GA.2.2.1, GB.2.2.2)) (b L : Nat) (xs : Nat → Int32) (hL : L ≤ 3072) (i : Nat) (hi6 : i + 6 ≤ L) (S : St) (hA hB : Mem) (iS : Ok S) (ra : RA S hA) (rb : RB S hB) (K : ∀ (S : St) (hA hB : Mem), Ok S → RA S hA → RB S hB → LV GA GB b L xs RL cL_law 4 977 [some (.ref b), some (.ref (ad GA 0)), some (.ref (ad GB 100)), some (.int (nI i))] [] hA hB) : LV GA GB b L xs RL cL_law 4 796 [some (.ref b), some (.ref (ad GA 0)), some (.ref (ad GB 100)), some (.int (nI i))] [] hA hB := by
  refine L_aload1 dL_law_796 ?_
  refine L_aload0 dL_law_797 ?_
  refine L_iload3 dL_law_798 ?_
  refine L_iconst (nI 1) dL_law_799 (by decide) ?_
  refine L_iadd_n dL_law_800 ?_
  refine L_sld rfl (show i + 1 < L by omega) (by omega) dL_law_801 ?_
  refine L_aload0 dL_law_802 ?_
  refine L_iload3 dL_law_803 ?_
  refine L_iconst (nI 2) dL_law_804 (by decide) ?_
  refine L_iadd_n dL_law_805 ?_
  refine L_sld rfl (show i + 2 < L by omega) (by omega) dL_law_806 ?_
  refine L_callA (av := [.int (xs (i + 1)), .int (xs (i + 2))]) (rest := []) eG (m_X5_reads GA hA S iS ra (xs (i + 1)) (xs (i + 2))) ml_L_99 imX5_reads seX5_reads in_X5 coX5_reads (show mOK yX5_reads 2 from (by unfold mOK; exact ⟨by decide +kernel, by decide +kernel, by decide +kernel⟩)) ⟨rfl, rfl, by decide, by decide⟩ rfl rfl (by decide) dL_law_807 (fun r1 h1 q1 => ?_)
  obtain ⟨rfl, q1⟩ := q1
  refine L_aload2 dL_law_810 ?_
  refine L_aload0 dL_law_811 ?_
  refine L_iload3 dL_law_812 ?_
  refine L_iconst (nI 1) dL_law_813 (by decide) ?_
  refine L_iadd_n dL_law_814 ?_
  refine L_sld rfl (show i + 1 < L by omega) (by omega) dL_law_815 ?_
  refine L_aload0 dL_law_816 ?_
  refine L_iload3 dL_law_817 ?_
  refine L_iconst (nI 2) dL_law_818 (by decide) ?_
  refine L_iadd_n dL_law_819 ?_
  refine L_sld rfl (show i + 2 < L by omega) (by omega) dL_law_820 ?_
  refine L_callB (av := [.int (xs (i + 1)), .int (xs (i + 2))]) (rest := [.int _]) eG (m_X6_reads GB hB S iS rb (xs (i + 1)) (xs (i + 2))) ml_L_102 imX6_reads seX6_reads in_X6 coX6_reads (show mOK yX6_reads 2 from (by unfold mOK; exact ⟨by decide +kernel, by decide +kernel, by decide +kernel⟩)) ⟨rfl, rfl, by decide, by decide⟩ rfl rfl (by show 1 + 0 ≤ 8; decide) dL_law_821 (fun r2 h2 q2 => ?_)
  obtain ⟨rfl, q2⟩ := q2
  refine L_icmp_eq 977 dL_law_824 (by decide) (fun _ => ?_) (fun c => absurd rfl c)
  exact K _ _ _ iS q1 q2
set_option maxRecDepth 4000 in
theorem law_c21 (GA GB : GE) (eG : GB = (GA.1, GA.2.1, GA.2.2.1, GB.2.2.2)) (b L : Nat) (xs : Nat → Int32) (hL : L ≤ 3072) (i : Nat) (hi6 : i + 6 ≤ L) (S : St) (hA hB : Mem) (iS : Ok S) (ra : RA S hA) (rb : RB S hB) (K : ∀ (S : St) (hA hB : Mem), Ok S → RA S hA → RB S hB → LV GA GB b L xs RL cL_law 4 977 [some (.ref b), some (.ref (ad GA 0)), some (.ref (ad GB 100)), some (.int (nI i))] [] hA hB) : LV GA GB b L xs RL cL_law 4 829 [some (.ref b), some (.ref (ad GA 0)), some (.ref (ad GB 100)), some (.int (nI i))] [] hA hB := by
  refine L_aload1 dL_law_829 ?_
  refine L_aload0 dL_law_830 ?_
  refine L_iload3 dL_law_831 ?_
  refine L_iconst (nI 1) dL_law_832 (by decide) ?_
  refine L_iadd_n dL_law_833 ?_
  refine L_sld rfl (show i + 1 < L by omega) (by omega) dL_law_834 ?_
  refine L_callA (av := [.int (xs (i + 1))]) (rest := []) eG (m_X5_kind GA hA S iS ra (xs (i + 1))) ml_L_103 imX5_kind seX5_kind in_X5 coX5_kind (show mOK yX5_kind 1 from (by unfold mOK; exact ⟨by decide +kernel, by decide +kernel, by decide +kernel⟩)) ⟨rfl, rfl, by decide, by decide⟩ rfl rfl (by decide) dL_law_835 (fun r1 h1 q1 => ?_)
  obtain ⟨rfl, q1⟩ := q1
  refine L_aload2 dL_law_838 ?_
  refine L_aload0 dL_law_839 ?_
  refine L_iload3 dL_law_840 ?_
  refine L_iconst (nI 1) dL_law_841 (by decide) ?_
  refine L_iadd_n dL_law_842 ?_
  refine L_sld rfl (show i + 1 < L by omega) (by omega) dL_law_843 ?_
  refine L_callB (av := [.int (xs (i + 1))]) (rest := [.int _]) eG (m_X6_kind GB hB S iS rb (xs (i + 1))) ml_L_106 imX6_kind seX6_kind in_X6 coX6_kind (show mOK yX6_kind 1 from (by unfold mOK; exact ⟨by decide +kernel, by decide +kernel, by decide +kernel⟩)) ⟨rfl, rfl, by decide, by decide⟩ rfl rfl (by show 1 + 0 ≤ 8; decide) dL_law_844 (fun r2 h2 q2 => ?_)
  obtain ⟨rfl, q2⟩ := q2
  refine L_icmp_eq 977 dL_law_847 (by decide) (fun _ => ?_) (fun c => absurd rfl c)
  exact K _ _ _ iS q1 q2
set_option maxRecDepth 4000 in
theorem law_c22 (GA GB : GE) (eG : GB = (GA.1, GA.2.1, GA.2.2.1, GB.2.2.2)) (b L : Nat) (xs : Nat → Int32) (hL : L ≤ 3072) (i : Nat) (hi6 : i + 6 ≤ L) (S : St) (hA hB : Mem) (iS : Ok S) (ra : RA S hA) (rb : RB S hB) (K : ∀ (S : St) (hA hB : Mem), Ok S → RA S hA → RB S hB → LV GA GB b L xs RL cL_law 4 977 [some (.ref b), some (.ref (ad GA 0)), some (.ref (ad GB 100)), some (.int (nI i))] [] hA hB) : LV GA GB b L xs RL cL_law 4 852 [some (.ref b), some (.ref (ad GA 0)), some (.ref (ad GB 100)), some (.int (nI i))] [] hA hB := by
  refine L_aload1 dL_law_852 ?_
  refine L_aload0 dL_law_853 ?_
  refine L_iload3 dL_law_854 ?_
  refine L_iconst (nI 1) dL_law_855 (by decide) ?_
  refine L_iadd_n dL_law_856 ?_
  refine L_sld rfl (show i + 1 < L by omega) (by omega) dL_law_857 ?_
  refine L_aload0 dL_law_858 ?_
  refine L_iload3 dL_law_859 ?_
  refine L_iconst (nI 2) dL_law_860 (by decide) ?_
  refine L_iadd_n dL_law_861 ?_
  refine L_sld rfl (show i + 2 < L by omega) (by omega) dL_law_862 ?_
  refine L_callA (av := [.int (xs (i + 1)), .int (xs (i + 2))]) (rest := []) eG (m_X5_as GA hA S iS ra (xs (i + 1)) (xs (i + 2))) ml_L_107 imX5_as seX5_as in_X5 coX5_as (show mOK yX5_as 2 from (by unfold mOK; exact ⟨by decide +kernel, by decide +kernel, by decide +kernel⟩)) ⟨rfl, rfl, by decide, by decide⟩ rfl rfl (by decide) dL_law_863 (fun r1 h1 q1 => ?_)
  obtain ⟨rfl, q1⟩ := q1
  refine L_aload2 dL_law_866 ?_
  refine L_aload0 dL_law_867 ?_
  refine L_iload3 dL_law_868 ?_
  refine L_iconst (nI 1) dL_law_869 (by decide) ?_
  refine L_iadd_n dL_law_870 ?_
  refine L_sld rfl (show i + 1 < L by omega) (by omega) dL_law_871 ?_
  refine L_aload0 dL_law_872 ?_
  refine L_iload3 dL_law_873 ?_
  refine L_iconst (nI 2) dL_law_874 (by decide) ?_
  refine L_iadd_n dL_law_875 ?_
  refine L_sld rfl (show i + 2 < L by omega) (by omega) dL_law_876 ?_
  refine L_callB (av := [.int (xs (i + 1)), .int (xs (i + 2))]) (rest := [.int _]) eG (m_X6_as GB hB S iS rb (xs (i + 1)) (xs (i + 2))) ml_L_110 imX6_as seX6_as in_X6 coX6_as (show mOK yX6_as 2 from (by unfold mOK; exact ⟨by decide +kernel, by decide +kernel, by decide +kernel⟩)) ⟨rfl, rfl, by decide, by decide⟩ rfl rfl (by show 1 + 0 ≤ 8; decide) dL_law_877 (fun r2 h2 q2 => ?_)
  obtain ⟨rfl, q2⟩ := q2
  refine L_icmp_eq 977 dL_law_880 (by decide) (fun _ => ?_) (fun c => absurd rfl c)
  exact K _ _ _ (K_as iS (xs (i + 1)) (xs (i + 2))) q1 q2
set_option maxRecDepth 4000 in
theorem law_c23 (GA GB : GE) (eG : GB = (GA.1, GA.2.1, GA.2.2.1, GB.2.2.2)) (b L : Nat) (xs : Nat → Int32) (hL : L ≤ 3072) (i : Nat) (hi6 : i + 6 ≤ L) (S : St) (hA hB : Mem) (iS : Ok S) (ra : RA S hA) (rb : RB S hB) (K : ∀ (S : St) (hA hB : Mem), Ok S → RA S hA → RB S hB → LV GA GB b L xs RL cL_law 4 977 [some (.ref b), some (.ref (ad GA 0)), some (.ref (ad GB 100)), some (.int (nI i))] [] hA hB) : LV GA GB b L xs RL cL_law 4 885 [some (.ref b), some (.ref (ad GA 0)), some (.ref (ad GB 100)), some (.int (nI i))] [] hA hB := by
  refine L_aload1 dL_law_885 ?_
  refine L_aload0 dL_law_886 ?_
  refine L_iload3 dL_law_887 ?_
  refine L_iconst (nI 1) dL_law_888 (by decide) ?_
  refine L_iadd_n dL_law_889 ?_
  refine L_sld rfl (show i + 1 < L by omega) (by omega) dL_law_890 ?_
  refine L_aload0 dL_law_891 ?_
  refine L_iload3 dL_law_892 ?_
  refine L_iconst (nI 2) dL_law_893 (by decide) ?_
  refine L_iadd_n dL_law_894 ?_
  refine L_sld rfl (show i + 2 < L by omega) (by omega) dL_law_895 ?_
  refine L_callA (av := [.int (xs (i + 1)), .int (xs (i + 2))]) (rest := []) eG (m_X5_ask GA hA S iS ra (xs (i + 1)) (xs (i + 2))) ml_L_111 imX5_ask seX5_ask in_X5 coX5_ask (show mOK yX5_ask 2 from (by unfold mOK; exact ⟨by decide +kernel, by decide +kernel, by decide +kernel⟩)) ⟨rfl, rfl, by decide, by decide⟩ rfl rfl (by decide) dL_law_896 (fun r1 h1 q1 => ?_)
  obtain ⟨rfl, q1⟩ := q1
  refine L_aload2 dL_law_899 ?_
  refine L_aload0 dL_law_900 ?_
  refine L_iload3 dL_law_901 ?_
  refine L_iconst (nI 1) dL_law_902 (by decide) ?_
  refine L_iadd_n dL_law_903 ?_
  refine L_sld rfl (show i + 1 < L by omega) (by omega) dL_law_904 ?_
  refine L_aload0 dL_law_905 ?_
  refine L_iload3 dL_law_906 ?_
  refine L_iconst (nI 2) dL_law_907 (by decide) ?_
  refine L_iadd_n dL_law_908 ?_
  refine L_sld rfl (show i + 2 < L by omega) (by omega) dL_law_909 ?_
  refine L_callB (av := [.int (xs (i + 1)), .int (xs (i + 2))]) (rest := [.int _]) eG (m_X6_ask GB hB S iS rb (xs (i + 1)) (xs (i + 2))) ml_L_114 imX6_ask seX6_ask in_X6 coX6_ask (show mOK yX6_ask 2 from (by unfold mOK; exact ⟨by decide +kernel, by decide +kernel, by decide +kernel⟩)) ⟨rfl, rfl, by decide, by decide⟩ rfl rfl (by show 1 + 0 ≤ 8; decide) dL_law_910 (fun r2 h2 q2 => ?_)
  obtain ⟨rfl, q2⟩ := q2
  refine L_icmp_eq 977 dL_law_913 (by decide) (fun _ => ?_) (fun c => absurd rfl c)
  exact K _ _ _ (K_ask iS (xs (i + 1)) (xs (i + 2))) q1 q2
set_option maxRecDepth 4000 in
theorem law_c24 (GA GB : GE) (eG : GB = (GA.1, GA.2.1, GA.2.2.1, GB.2.2.2)) (b L : Nat) (xs : Nat → Int32) (hL : L ≤ 3072) (i : Nat) (hi6 : i + 6 ≤ L) (S : St) (hA hB : Mem) (iS : Ok S) (ra : RA S hA) (rb : RB S hB) (K : ∀ (S : St) (hA hB : Mem), Ok S → RA S hA → RB S hB → LV GA GB b L xs RL cL_law 4 977 [some (.ref b), some (.ref (ad GA 0)), some (.ref (ad GB 100)), some (.int (nI i))] [] hA hB) : LV GA GB b L xs RL cL_law 4 918 [some (.ref b), some (.ref (ad GA 0)), some (.ref (ad GB 100)), some (.int (nI i))] [] hA hB := by
  refine L_aload1 dL_law_918 ?_
  refine L_aload0 dL_law_919 ?_
  refine L_iload3 dL_law_920 ?_
  refine L_iconst (nI 1) dL_law_921 (by decide) ?_
  refine L_iadd_n dL_law_922 ?_
  refine L_sld rfl (show i + 1 < L by omega) (by omega) dL_law_923 ?_
  refine L_callA (av := [.int (xs (i + 1))]) (rest := []) eG (m_X5_trace GA hA S iS ra (xs (i + 1))) ml_L_115 imX5_trace seX5_trace in_X5 coX5_trace (show mOK yX5_trace 1 from (by unfold mOK; exact ⟨by decide +kernel, by decide +kernel, by decide +kernel⟩)) ⟨rfl, rfl, by decide, by decide⟩ rfl rfl (by decide) dL_law_924 (fun r1 h1 q1 => ?_)
  obtain ⟨rfl, q1⟩ := q1
  refine L_aload2 dL_law_927 ?_
  refine L_aload0 dL_law_928 ?_
  refine L_iload3 dL_law_929 ?_
  refine L_iconst (nI 1) dL_law_930 (by decide) ?_
  refine L_iadd_n dL_law_931 ?_
  refine L_sld rfl (show i + 1 < L by omega) (by omega) dL_law_932 ?_
  refine L_callB (av := [.int (xs (i + 1))]) (rest := [.int _]) eG (m_X6_trace GB hB S iS rb (xs (i + 1))) ml_L_118 imX6_trace seX6_trace in_X6 coX6_trace (show mOK yX6_trace 1 from (by unfold mOK; exact ⟨by decide +kernel, by decide +kernel, by decide +kernel⟩)) ⟨rfl, rfl, by decide, by decide⟩ rfl rfl (by show 1 + 0 ≤ 8; decide) dL_law_933 (fun r2 h2 q2 => ?_)
  obtain ⟨rfl, q2⟩ := q2
  refine L_icmp_eq 977 dL_law_936 (by decide) (fun _ => ?_) (fun c => absurd rfl c)
  exact K _ _ _ iS q1 q2
set_option maxRecDepth 4000 in
theorem law_c25 (GA GB : GE) (eG : GB = (GA.1, GA.2.1, GA.2.2.1, GB.2.2.2)) (b L : Nat) (xs : Nat → Int32) (hL : L ≤ 3072) (i : Nat) (hi6 : i + 6 ≤ L) (S : St) (hA hB : Mem) (iS : Ok S) (ra : RA S hA) (rb : RB S hB) (K : ∀ (S : St) (hA hB : Mem), Ok S → RA S hA → RB S hB → LV GA GB b L xs RL cL_law 4 977 [some (.ref b), some (.ref (ad GA 0)), some (.ref (ad GB 100)), some (.int (nI i))] [] hA hB) : LV GA GB b L xs RL cL_law 4 941 [some (.ref b), some (.ref (ad GA 0)), some (.ref (ad GB 100)), some (.int (nI i))] [] hA hB := by
  refine L_aload1 dL_law_941 ?_
  refine L_aload0 dL_law_942 ?_
  refine L_iload3 dL_law_943 ?_
  refine L_iconst (nI 1) dL_law_944 (by decide) ?_
  refine L_iadd_n dL_law_945 ?_
  refine L_sld rfl (show i + 1 < L by omega) (by omega) dL_law_946 ?_
  refine L_callA (av := [.int (xs (i + 1))]) (rest := []) eG (m_X5_count GA hA S iS ra (xs (i + 1))) ml_L_119 imX5_count seX5_count in_X5 coX5_count (show mOK yX5_count 1 from (by unfold mOK; exact ⟨by decide +kernel, by decide +kernel, by decide +kernel⟩)) ⟨rfl, rfl, by decide, by decide⟩ rfl rfl (by decide) dL_law_947 (fun r1 h1 q1 => ?_)
  obtain ⟨rfl, q1⟩ := q1
  refine L_aload2 dL_law_950 ?_
  refine L_aload0 dL_law_951 ?_
  refine L_iload3 dL_law_952 ?_
  refine L_iconst (nI 1) dL_law_953 (by decide) ?_
  refine L_iadd_n dL_law_954 ?_
  refine L_sld rfl (show i + 1 < L by omega) (by omega) dL_law_955 ?_
  refine L_callB (av := [.int (xs (i + 1))]) (rest := [.int _]) eG (m_X6_count GB hB S iS rb (xs (i + 1))) ml_L_122 imX6_count seX6_count in_X6 coX6_count (show mOK yX6_count 1 from (by unfold mOK; exact ⟨by decide +kernel, by decide +kernel, by decide +kernel⟩)) ⟨rfl, rfl, by decide, by decide⟩ rfl rfl (by show 1 + 0 ≤ 8; decide) dL_law_956 (fun r2 h2 q2 => ?_)
  obtain ⟨rfl, q2⟩ := q2
  refine L_icmp_eq 977 dL_law_959 (by decide) (fun _ => ?_) (fun c => absurd rfl c)
  exact K _ _ _ iS q1 q2
set_option maxRecDepth 4000 in
theorem law_c26 (GA GB : GE) (eG : GB = (GA.1, GA.2.1, GA.2.2.1, GB.2.2.2)) (b L : Nat) (xs : Nat → Int32) (hL : L ≤ 3072) (i : Nat) (hi6 : i + 6 ≤ L) (S : St) (hA hB : Mem) (iS : Ok S) (ra : RA S hA) (rb : RB S hB) (K : ∀ (S : St) (hA hB : Mem), Ok S → RA S hA → RB S hB → LV GA GB b L xs RL cL_law 4 977 [some (.ref b), some (.ref (ad GA 0)), some (.ref (ad GB 100)), some (.int (nI i))] [] hA hB) : LV GA GB b L xs RL cL_law 4 964 [some (.ref b), some (.ref (ad GA 0)), some (.ref (ad GB 100)), some (.int (nI i))] [] hA hB := by
  refine L_aload1 dL_law_964 ?_
  refine L_callA (av := []) (rest := []) eG (m_X5_status GA hA S iS ra) ml_L_123 imX5_status seX5_status in_X5 coX5_status (show mOK yX5_status 0 from (by unfold mOK; exact ⟨by decide +kernel, by decide +kernel, by decide +kernel⟩)) ⟨rfl, rfl, by decide, by decide⟩ rfl rfl (by decide) dL_law_965 (fun r1 h1 q1 => ?_)
  obtain ⟨rfl, q1⟩ := q1
  refine L_aload2 dL_law_968 ?_
  refine L_callB (av := []) (rest := [.int _]) eG (m_X6_status GB hB S iS rb) ml_L_126 imX6_status seX6_status in_X6 coX6_status (show mOK yX6_status 0 from (by unfold mOK; exact ⟨by decide +kernel, by decide +kernel, by decide +kernel⟩)) ⟨rfl, rfl, by decide, by decide⟩ rfl rfl (by show 1 + 0 ≤ 8; decide) dL_law_969 (fun r2 h2 q2 => ?_)
  obtain ⟨rfl, q2⟩ := q2
  refine L_icmp_eq 977 dL_law_972 (by decide) (fun _ => ?_) (fun c => absurd rfl c)
  exact K _ _ _ iS q1 q2
