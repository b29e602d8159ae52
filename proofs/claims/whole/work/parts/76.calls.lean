/-! ===== the law's twenty calls ===== -/
set_option maxRecDepth 100000 in
theorem jv_op_node {E : jp_E} {l : Launch} {b L : Nat} {xs : Nat → Int32} {X : jp_X} (cx : jv_C E l b L xs X) (hL : L < 2 ^ 31) {c i : Nat} {h : jp_H} (hr : jr c h.1) (hi : i + 3 < L) (k : ∀ h' : jp_H, jr (c + 50) h'.1 → X 660 [(0, .ref b), (1, .ref (E.2.1 0 0)), (2, .ref (E.2.1 7 0)), (3, .int (nI i))] [] h') : X 128 [(0, .ref b), (1, .ref (E.2.1 0 0)), (2, .ref (E.2.1 7 0)), (3, .int (nI i))] [] h := by
  obtain ⟨v, h1, h2, m1, m2, r2⟩ := jl_node E l hr (xs (i + 1)) (xs (i + 2)) (xs (i + 3))
  refine jv_aload_n cx dL_law_128 rfl ?_
  refine jv_arg cx (k := 1) dL_law_129 dL_law_130 dL_law_131 (by decide) dL_law_132 dL_law_133 rfl rfl (by omega) hL ?_
  refine jv_arg cx (k := 2) dL_law_134 dL_law_135 dL_law_136 (by decide) dL_law_137 dL_law_138 rfl rfl (by omega) hL ?_
  refine jv_arg cx (k := 3) dL_law_139 dL_law_140 dL_law_141 (by decide) dL_law_142 dL_law_143 rfl rfl (by omega) hL ?_
  refine jv_call cx (n := 3) m1 gL_law_X2_node rfl ⟨rfl, rfl⟩ ⟨(Nat.le_of_ble_eq_true rfl), (Nat.le_of_ble_eq_true rfl)⟩ (by decide +kernel) jp_js_o rfl rfl rfl (Nat.le_of_ble_eq_true rfl) dL_law_144 ?_
  refine jv_aload_n cx dL_law_147 rfl ?_
  refine jv_arg cx (k := 1) dL_law_148 dL_law_149 dL_law_150 (by decide) dL_law_151 dL_law_152 rfl rfl (by omega) hL ?_
  refine jv_arg cx (k := 2) dL_law_153 dL_law_154 dL_law_155 (by decide) dL_law_156 dL_law_157 rfl rfl (by omega) hL ?_
  refine jv_arg cx (k := 3) dL_law_158 dL_law_159 dL_law_160 (by decide) dL_law_161 dL_law_162 rfl rfl (by omega) hL ?_
  refine jv_call cx (n := 3) m2 gL_law_X3_node rfl ⟨rfl, rfl⟩ ⟨(Nat.le_of_ble_eq_true rfl), (Nat.le_of_ble_eq_true rfl)⟩ (by decide +kernel) jp_mo_o rfl rfl rfl (Nat.le_of_ble_eq_true rfl) dL_law_163 ?_
  exact jv_same cx dL_law_166 (by decide) (k h2 r2)
set_option maxRecDepth 100000 in
theorem jv_op_edge {E : jp_E} {l : Launch} {b L : Nat} {xs : Nat → Int32} {X : jp_X} (cx : jv_C E l b L xs X) (hL : L < 2 ^ 31) {c i : Nat} {h : jp_H} (hr : jr c h.1) (hi : i + 3 < L) (k : ∀ h' : jp_H, jr (c + 50) h'.1 → X 660 [(0, .ref b), (1, .ref (E.2.1 0 0)), (2, .ref (E.2.1 7 0)), (3, .int (nI i))] [] h') : X 171 [(0, .ref b), (1, .ref (E.2.1 0 0)), (2, .ref (E.2.1 7 0)), (3, .int (nI i))] [] h := by
  obtain ⟨v, h1, h2, m1, m2, r2⟩ := jl_edge E l hr (xs (i + 1)) (xs (i + 2)) (xs (i + 3))
  refine jv_aload_n cx dL_law_171 rfl ?_
  refine jv_arg cx (k := 1) dL_law_172 dL_law_173 dL_law_174 (by decide) dL_law_175 dL_law_176 rfl rfl (by omega) hL ?_
  refine jv_arg cx (k := 2) dL_law_177 dL_law_178 dL_law_179 (by decide) dL_law_180 dL_law_181 rfl rfl (by omega) hL ?_
  refine jv_arg cx (k := 3) dL_law_182 dL_law_183 dL_law_184 (by decide) dL_law_185 dL_law_186 rfl rfl (by omega) hL ?_
  refine jv_call cx (n := 3) m1 gL_law_X2_edge rfl ⟨rfl, rfl⟩ ⟨(Nat.le_of_ble_eq_true rfl), (Nat.le_of_ble_eq_true rfl)⟩ (by decide +kernel) jp_js_o rfl rfl rfl (Nat.le_of_ble_eq_true rfl) dL_law_187 ?_
  refine jv_aload_n cx dL_law_190 rfl ?_
  refine jv_arg cx (k := 1) dL_law_191 dL_law_192 dL_law_193 (by decide) dL_law_194 dL_law_195 rfl rfl (by omega) hL ?_
  refine jv_arg cx (k := 2) dL_law_196 dL_law_197 dL_law_198 (by decide) dL_law_199 dL_law_200 rfl rfl (by omega) hL ?_
  refine jv_arg cx (k := 3) dL_law_201 dL_law_202 dL_law_203 (by decide) dL_law_204 dL_law_205 rfl rfl (by omega) hL ?_
  refine jv_call cx (n := 3) m2 gL_law_X3_edge rfl ⟨rfl, rfl⟩ ⟨(Nat.le_of_ble_eq_true rfl), (Nat.le_of_ble_eq_true rfl)⟩ (by decide +kernel) jp_mo_o rfl rfl rfl (Nat.le_of_ble_eq_true rfl) dL_law_206 ?_
  exact jv_same cx dL_law_209 (by decide) (k h2 r2)
set_option maxRecDepth 100000 in
theorem jv_op_say {E : jp_E} {l : Launch} {b L : Nat} {xs : Nat → Int32} {X : jp_X} (cx : jv_C E l b L xs X) (hL : L < 2 ^ 31) {c i : Nat} {h : jp_H} (hr : jr c h.1) (hi : i + 3 < L) (k : ∀ h' : jp_H, jr (c + 50) h'.1 → X 660 [(0, .ref b), (1, .ref (E.2.1 0 0)), (2, .ref (E.2.1 7 0)), (3, .int (nI i))] [] h') : X 214 [(0, .ref b), (1, .ref (E.2.1 0 0)), (2, .ref (E.2.1 7 0)), (3, .int (nI i))] [] h := by
  obtain ⟨v, h1, h2, m1, m2, r2⟩ := jl_say E l hr (xs (i + 1))
  refine jv_aload_n cx dL_law_214 rfl ?_
  refine jv_arg cx (k := 1) dL_law_215 dL_law_216 dL_law_217 (by decide) dL_law_218 dL_law_219 rfl rfl (by omega) hL ?_
  refine jv_call cx (n := 1) m1 gL_law_X2_say rfl ⟨rfl, rfl⟩ ⟨(Nat.le_of_ble_eq_true rfl), (Nat.le_of_ble_eq_true rfl)⟩ (by decide +kernel) jp_js_o rfl rfl rfl (Nat.le_of_ble_eq_true rfl) dL_law_220 ?_
  refine jv_aload_n cx dL_law_223 rfl ?_
  refine jv_arg cx (k := 1) dL_law_224 dL_law_225 dL_law_226 (by decide) dL_law_227 dL_law_228 rfl rfl (by omega) hL ?_
  refine jv_call cx (n := 1) m2 gL_law_X3_say rfl ⟨rfl, rfl⟩ ⟨(Nat.le_of_ble_eq_true rfl), (Nat.le_of_ble_eq_true rfl)⟩ (by decide +kernel) jp_mo_o rfl rfl rfl (Nat.le_of_ble_eq_true rfl) dL_law_229 ?_
  exact jv_same cx dL_law_232 (by decide) (k h2 r2)
set_option maxRecDepth 100000 in
theorem jv_op_wipe {E : jp_E} {l : Launch} {b L : Nat} {xs : Nat → Int32} {X : jp_X} (cx : jv_C E l b L xs X) (hL : L < 2 ^ 31) {c i : Nat} {h : jp_H} (hr : jr c h.1) (hi : i + 3 < L) (k : ∀ h' : jp_H, jr (c + 50) h'.1 → X 660 [(0, .ref b), (1, .ref (E.2.1 0 0)), (2, .ref (E.2.1 7 0)), (3, .int (nI i))] [] h') : X 237 [(0, .ref b), (1, .ref (E.2.1 0 0)), (2, .ref (E.2.1 7 0)), (3, .int (nI i))] [] h := by
  obtain ⟨v, h1, h2, m1, m2, r2⟩ := jl_wipe E l hr
  refine jv_aload_n cx dL_law_237 rfl ?_
  refine jv_call cx (n := 0) m1 gL_law_X2_wipe rfl ⟨rfl, rfl⟩ ⟨(Nat.le_of_ble_eq_true rfl), (Nat.le_of_ble_eq_true rfl)⟩ (by decide +kernel) jp_js_o rfl rfl rfl (Nat.le_of_ble_eq_true rfl) dL_law_238 ?_
  refine jv_aload_n cx dL_law_241 rfl ?_
  refine jv_call cx (n := 0) m2 gL_law_X3_wipe rfl ⟨rfl, rfl⟩ ⟨(Nat.le_of_ble_eq_true rfl), (Nat.le_of_ble_eq_true rfl)⟩ (by decide +kernel) jp_mo_o rfl rfl rfl (Nat.le_of_ble_eq_true rfl) dL_law_242 ?_
  exact jv_same cx dL_law_245 (by decide) (k h2 r2)
set_option maxRecDepth 100000 in
theorem jv_op_fault {E : jp_E} {l : Launch} {b L : Nat} {xs : Nat → Int32} {X : jp_X} (cx : jv_C E l b L xs X) (hL : L < 2 ^ 31) {c i : Nat} {h : jp_H} (hr : jr c h.1) (hi : i + 3 < L) (k : ∀ h' : jp_H, jr (c + 50) h'.1 → X 660 [(0, .ref b), (1, .ref (E.2.1 0 0)), (2, .ref (E.2.1 7 0)), (3, .int (nI i))] [] h') : X 250 [(0, .ref b), (1, .ref (E.2.1 0 0)), (2, .ref (E.2.1 7 0)), (3, .int (nI i))] [] h := by
  obtain ⟨v, h1, h2, m1, m2, r2⟩ := jl_fault E l hr
  refine jv_aload_n cx dL_law_250 rfl ?_
  refine jv_call cx (n := 0) m1 gL_law_X2_fault rfl ⟨rfl, rfl⟩ ⟨(Nat.le_of_ble_eq_true rfl), (Nat.le_of_ble_eq_true rfl)⟩ (by decide +kernel) jp_js_o rfl rfl rfl (Nat.le_of_ble_eq_true rfl) dL_law_251 ?_
  refine jv_aload_n cx dL_law_254 rfl ?_
  refine jv_call cx (n := 0) m2 gL_law_X3_fault rfl ⟨rfl, rfl⟩ ⟨(Nat.le_of_ble_eq_true rfl), (Nat.le_of_ble_eq_true rfl)⟩ (by decide +kernel) jp_mo_o rfl rfl rfl (Nat.le_of_ble_eq_true rfl) dL_law_255 ?_
  exact jv_same cx dL_law_258 (by decide) (k h2 r2)
set_option maxRecDepth 100000 in
theorem jv_op_net {E : jp_E} {l : Launch} {b L : Nat} {xs : Nat → Int32} {X : jp_X} (cx : jv_C E l b L xs X) (hL : L < 2 ^ 31) {c i : Nat} {h : jp_H} (hr : jr c h.1) (hi : i + 3 < L) (k : ∀ h' : jp_H, jr (c + 50) h'.1 → X 660 [(0, .ref b), (1, .ref (E.2.1 0 0)), (2, .ref (E.2.1 7 0)), (3, .int (nI i))] [] h') : X 263 [(0, .ref b), (1, .ref (E.2.1 0 0)), (2, .ref (E.2.1 7 0)), (3, .int (nI i))] [] h := by
  obtain ⟨v, h1, h2, m1, m2, r2⟩ := jl_net E l hr
  refine jv_aload_n cx dL_law_263 rfl ?_
  refine jv_call cx (n := 0) m1 gL_law_X2_net rfl ⟨rfl, rfl⟩ ⟨(Nat.le_of_ble_eq_true rfl), (Nat.le_of_ble_eq_true rfl)⟩ (by decide +kernel) jp_js_o rfl rfl rfl (Nat.le_of_ble_eq_true rfl) dL_law_264 ?_
  refine jv_aload_n cx dL_law_267 rfl ?_
  refine jv_call cx (n := 0) m2 gL_law_X3_net rfl ⟨rfl, rfl⟩ ⟨(Nat.le_of_ble_eq_true rfl), (Nat.le_of_ble_eq_true rfl)⟩ (by decide +kernel) jp_mo_o rfl rfl rfl (Nat.le_of_ble_eq_true rfl) dL_law_268 ?_
  exact jv_same cx dL_law_271 (by decide) (k h2 r2)
set_option maxRecDepth 100000 in
theorem jv_op_jobs {E : jp_E} {l : Launch} {b L : Nat} {xs : Nat → Int32} {X : jp_X} (cx : jv_C E l b L xs X) (hL : L < 2 ^ 31) {c i : Nat} {h : jp_H} (hr : jr c h.1) (hi : i + 3 < L) (k : ∀ h' : jp_H, jr (c + 50) h'.1 → X 660 [(0, .ref b), (1, .ref (E.2.1 0 0)), (2, .ref (E.2.1 7 0)), (3, .int (nI i))] [] h') : X 276 [(0, .ref b), (1, .ref (E.2.1 0 0)), (2, .ref (E.2.1 7 0)), (3, .int (nI i))] [] h := by
  obtain ⟨v, h1, h2, m1, m2, r2⟩ := jl_jobs E l hr (xs (i + 1))
  refine jv_aload_n cx dL_law_276 rfl ?_
  refine jv_arg cx (k := 1) dL_law_277 dL_law_278 dL_law_279 (by decide) dL_law_280 dL_law_281 rfl rfl (by omega) hL ?_
  refine jv_call cx (n := 1) m1 gL_law_X2_jobs rfl ⟨rfl, rfl⟩ ⟨(Nat.le_of_ble_eq_true rfl), (Nat.le_of_ble_eq_true rfl)⟩ (by decide +kernel) jp_js_o rfl rfl rfl (Nat.le_of_ble_eq_true rfl) dL_law_282 ?_
  refine jv_aload_n cx dL_law_285 rfl ?_
  refine jv_arg cx (k := 1) dL_law_286 dL_law_287 dL_law_288 (by decide) dL_law_289 dL_law_290 rfl rfl (by omega) hL ?_
  refine jv_call cx (n := 1) m2 gL_law_X3_jobs rfl ⟨rfl, rfl⟩ ⟨(Nat.le_of_ble_eq_true rfl), (Nat.le_of_ble_eq_true rfl)⟩ (by decide +kernel) jp_mo_o rfl rfl rfl (Nat.le_of_ble_eq_true rfl) dL_law_291 ?_
  exact jv_same cx dL_law_294 (by decide) (k h2 r2)
set_option maxRecDepth 100000 in
theorem jv_op_told {E : jp_E} {l : Launch} {b L : Nat} {xs : Nat → Int32} {X : jp_X} (cx : jv_C E l b L xs X) (hL : L < 2 ^ 31) {c i : Nat} {h : jp_H} (hr : jr c h.1) (hi : i + 3 < L) (k : ∀ h' : jp_H, jr (c + 50) h'.1 → X 660 [(0, .ref b), (1, .ref (E.2.1 0 0)), (2, .ref (E.2.1 7 0)), (3, .int (nI i))] [] h') : X 299 [(0, .ref b), (1, .ref (E.2.1 0 0)), (2, .ref (E.2.1 7 0)), (3, .int (nI i))] [] h := by
  obtain ⟨v, h1, h2, m1, m2, r2⟩ := jl_told E l hr (xs (i + 1)) (xs (i + 2))
  refine jv_aload_n cx dL_law_299 rfl ?_
  refine jv_arg cx (k := 1) dL_law_300 dL_law_301 dL_law_302 (by decide) dL_law_303 dL_law_304 rfl rfl (by omega) hL ?_
  refine jv_arg cx (k := 2) dL_law_305 dL_law_306 dL_law_307 (by decide) dL_law_308 dL_law_309 rfl rfl (by omega) hL ?_
  refine jv_call cx (n := 2) m1 gL_law_X2_told rfl ⟨rfl, rfl⟩ ⟨(Nat.le_of_ble_eq_true rfl), (Nat.le_of_ble_eq_true rfl)⟩ (by decide +kernel) jp_js_o rfl rfl rfl (Nat.le_of_ble_eq_true rfl) dL_law_310 ?_
  refine jv_aload_n cx dL_law_313 rfl ?_
  refine jv_arg cx (k := 1) dL_law_314 dL_law_315 dL_law_316 (by decide) dL_law_317 dL_law_318 rfl rfl (by omega) hL ?_
  refine jv_arg cx (k := 2) dL_law_319 dL_law_320 dL_law_321 (by decide) dL_law_322 dL_law_323 rfl rfl (by omega) hL ?_
  refine jv_call cx (n := 2) m2 gL_law_X3_told rfl ⟨rfl, rfl⟩ ⟨(Nat.le_of_ble_eq_true rfl), (Nat.le_of_ble_eq_true rfl)⟩ (by decide +kernel) jp_mo_o rfl rfl rfl (Nat.le_of_ble_eq_true rfl) dL_law_324 ?_
  exact jv_same cx dL_law_327 (by decide) (k h2 r2)
set_option maxRecDepth 100000 in
theorem jv_op_carry {E : jp_E} {l : Launch} {b L : Nat} {xs : Nat → Int32} {X : jp_X} (cx : jv_C E l b L xs X) (hL : L < 2 ^ 31) {c i : Nat} {h : jp_H} (hr : jr c h.1) (hi : i + 3 < L) (k : ∀ h' : jp_H, jr (c + 50) h'.1 → X 660 [(0, .ref b), (1, .ref (E.2.1 0 0)), (2, .ref (E.2.1 7 0)), (3, .int (nI i))] [] h') : X 332 [(0, .ref b), (1, .ref (E.2.1 0 0)), (2, .ref (E.2.1 7 0)), (3, .int (nI i))] [] h := by
  obtain ⟨v, h1, h2, m1, m2, r2⟩ := jl_carry E l hr (xs (i + 1)) (xs (i + 2))
  refine jv_aload_n cx dL_law_332 rfl ?_
  refine jv_arg cx (k := 1) dL_law_333 dL_law_334 dL_law_335 (by decide) dL_law_336 dL_law_337 rfl rfl (by omega) hL ?_
  refine jv_arg cx (k := 2) dL_law_338 dL_law_339 dL_law_340 (by decide) dL_law_341 dL_law_342 rfl rfl (by omega) hL ?_
  refine jv_call cx (n := 2) m1 gL_law_X2_carry rfl ⟨rfl, rfl⟩ ⟨(Nat.le_of_ble_eq_true rfl), (Nat.le_of_ble_eq_true rfl)⟩ (by decide +kernel) jp_js_o rfl rfl rfl (Nat.le_of_ble_eq_true rfl) dL_law_343 ?_
  refine jv_aload_n cx dL_law_346 rfl ?_
  refine jv_arg cx (k := 1) dL_law_347 dL_law_348 dL_law_349 (by decide) dL_law_350 dL_law_351 rfl rfl (by omega) hL ?_
  refine jv_arg cx (k := 2) dL_law_352 dL_law_353 dL_law_354 (by decide) dL_law_355 dL_law_356 rfl rfl (by omega) hL ?_
  refine jv_call cx (n := 2) m2 gL_law_X3_carry rfl ⟨rfl, rfl⟩ ⟨(Nat.le_of_ble_eq_true rfl), (Nat.le_of_ble_eq_true rfl)⟩ (by decide +kernel) jp_mo_o rfl rfl rfl (Nat.le_of_ble_eq_true rfl) dL_law_357 ?_
  exact jv_same cx dL_law_360 (by decide) (k h2 r2)
set_option maxRecDepth 100000 in
theorem jv_op_run {E : jp_E} {l : Launch} {b L : Nat} {xs : Nat → Int32} {X : jp_X} (cx : jv_C E l b L xs X) (hL : L < 2 ^ 31) {c i : Nat} (hc : c ≤ 38000) {h : jp_H} (hr : jr c h.1) (hi : i + 3 < L) (k : ∀ h' : jp_H, jr (c + 50) h'.1 → X 660 [(0, .ref b), (1, .ref (E.2.1 0 0)), (2, .ref (E.2.1 7 0)), (3, .int (nI i))] [] h') : X 365 [(0, .ref b), (1, .ref (E.2.1 0 0)), (2, .ref (E.2.1 7 0)), (3, .int (nI i))] [] h := by
  obtain ⟨v, h1, h2, m1, m2, r2⟩ := jl_run E l hc hr (xs (i + 1)) (xs (i + 2))
  refine jv_aload_n cx dL_law_365 rfl ?_
  refine jv_arg cx (k := 1) dL_law_366 dL_law_367 dL_law_368 (by decide) dL_law_369 dL_law_370 rfl rfl (by omega) hL ?_
  refine jv_arg cx (k := 2) dL_law_371 dL_law_372 dL_law_373 (by decide) dL_law_374 dL_law_375 rfl rfl (by omega) hL ?_
  refine jv_call cx (n := 2) m1 gL_law_X2_run rfl ⟨rfl, rfl⟩ ⟨(Nat.le_of_ble_eq_true rfl), (Nat.le_of_ble_eq_true rfl)⟩ (by decide +kernel) jp_js_o rfl rfl rfl (Nat.le_of_ble_eq_true rfl) dL_law_376 ?_
  refine jv_aload_n cx dL_law_379 rfl ?_
  refine jv_arg cx (k := 1) dL_law_380 dL_law_381 dL_law_382 (by decide) dL_law_383 dL_law_384 rfl rfl (by omega) hL ?_
  refine jv_arg cx (k := 2) dL_law_385 dL_law_386 dL_law_387 (by decide) dL_law_388 dL_law_389 rfl rfl (by omega) hL ?_
  refine jv_call cx (n := 2) m2 gL_law_X3_run rfl ⟨rfl, rfl⟩ ⟨(Nat.le_of_ble_eq_true rfl), (Nat.le_of_ble_eq_true rfl)⟩ (by decide +kernel) jp_mo_o rfl rfl rfl (Nat.le_of_ble_eq_true rfl) dL_law_390 ?_
  exact jv_same cx dL_law_393 (by decide) (k h2 r2)
set_option maxRecDepth 100000 in
theorem jv_op_reset {E : jp_E} {l : Launch} {b L : Nat} {xs : Nat → Int32} {X : jp_X} (cx : jv_C E l b L xs X) (hL : L < 2 ^ 31) {c i : Nat} {h : jp_H} (hr : jr c h.1) (hi : i + 3 < L) (k : ∀ h' : jp_H, jr (c + 50) h'.1 → X 660 [(0, .ref b), (1, .ref (E.2.1 0 0)), (2, .ref (E.2.1 7 0)), (3, .int (nI i))] [] h') : X 398 [(0, .ref b), (1, .ref (E.2.1 0 0)), (2, .ref (E.2.1 7 0)), (3, .int (nI i))] [] h := by
  obtain ⟨v, h1, h2, m1, m2, r2⟩ := jl_reset E l hr
  refine jv_aload_n cx dL_law_398 rfl ?_
  refine jv_call cx (n := 0) m1 gL_law_X2_reset rfl ⟨rfl, rfl⟩ ⟨(Nat.le_of_ble_eq_true rfl), (Nat.le_of_ble_eq_true rfl)⟩ (by decide +kernel) jp_js_o rfl rfl rfl (Nat.le_of_ble_eq_true rfl) dL_law_399 ?_
  refine jv_aload_n cx dL_law_402 rfl ?_
  refine jv_call cx (n := 0) m2 gL_law_X3_reset rfl ⟨rfl, rfl⟩ ⟨(Nat.le_of_ble_eq_true rfl), (Nat.le_of_ble_eq_true rfl)⟩ (by decide +kernel) jp_mo_o rfl rfl rfl (Nat.le_of_ble_eq_true rfl) dL_law_403 ?_
  exact jv_same cx dL_law_406 (by decide) (k h2 r2)
set_option maxRecDepth 100000 in
theorem jv_op_uneven {E : jp_E} {l : Launch} {b L : Nat} {xs : Nat → Int32} {X : jp_X} (cx : jv_C E l b L xs X) (hL : L < 2 ^ 31) {c i : Nat} (hc : c ≤ 38000) {h : jp_H} (hr : jr c h.1) (hi : i + 3 < L) (k : ∀ h' : jp_H, jr (c + 50) h'.1 → X 660 [(0, .ref b), (1, .ref (E.2.1 0 0)), (2, .ref (E.2.1 7 0)), (3, .int (nI i))] [] h') : X 411 [(0, .ref b), (1, .ref (E.2.1 0 0)), (2, .ref (E.2.1 7 0)), (3, .int (nI i))] [] h := by
  obtain ⟨v, h1, h2, m1, m2, r2⟩ := jl_uneven E l hc hr (xs (i + 1))
  refine jv_aload_n cx dL_law_411 rfl ?_
  refine jv_arg cx (k := 1) dL_law_412 dL_law_413 dL_law_414 (by decide) dL_law_415 dL_law_416 rfl rfl (by omega) hL ?_
  refine jv_call cx (n := 1) m1 gL_law_X2_uneven rfl ⟨rfl, rfl⟩ ⟨(Nat.le_of_ble_eq_true rfl), (Nat.le_of_ble_eq_true rfl)⟩ (by decide +kernel) jp_js_o rfl rfl rfl (Nat.le_of_ble_eq_true rfl) dL_law_417 ?_
  refine jv_aload_n cx dL_law_420 rfl ?_
  refine jv_arg cx (k := 1) dL_law_421 dL_law_422 dL_law_423 (by decide) dL_law_424 dL_law_425 rfl rfl (by omega) hL ?_
  refine jv_call cx (n := 1) m2 gL_law_X3_uneven rfl ⟨rfl, rfl⟩ ⟨(Nat.le_of_ble_eq_true rfl), (Nat.le_of_ble_eq_true rfl)⟩ (by decide +kernel) jp_mo_o rfl rfl rfl (Nat.le_of_ble_eq_true rfl) dL_law_426 ?_
  exact jv_same cx dL_law_429 (by decide) (k h2 r2)
set_option maxRecDepth 100000 in
theorem jv_op_share {E : jp_E} {l : Launch} {b L : Nat} {xs : Nat → Int32} {X : jp_X} (cx : jv_C E l b L xs X) (hL : L < 2 ^ 31) {c i : Nat} (hc : c ≤ 38000) {h : jp_H} (hr : jr c h.1) (hi : i + 3 < L) (k : ∀ h' : jp_H, jr (c + 50) h'.1 → X 660 [(0, .ref b), (1, .ref (E.2.1 0 0)), (2, .ref (E.2.1 7 0)), (3, .int (nI i))] [] h') : X 434 [(0, .ref b), (1, .ref (E.2.1 0 0)), (2, .ref (E.2.1 7 0)), (3, .int (nI i))] [] h := by
  obtain ⟨v, h1, h2, m1, m2, r2⟩ := jl_share E l hc hr (xs (i + 1)) (xs (i + 2))
  refine jv_aload_n cx dL_law_434 rfl ?_
  refine jv_arg cx (k := 1) dL_law_435 dL_law_436 dL_law_437 (by decide) dL_law_438 dL_law_439 rfl rfl (by omega) hL ?_
  refine jv_arg cx (k := 2) dL_law_440 dL_law_441 dL_law_442 (by decide) dL_law_443 dL_law_444 rfl rfl (by omega) hL ?_
  refine jv_call cx (n := 2) m1 gL_law_X2_share rfl ⟨rfl, rfl⟩ ⟨(Nat.le_of_ble_eq_true rfl), (Nat.le_of_ble_eq_true rfl)⟩ (by decide +kernel) jp_js_o rfl rfl rfl (Nat.le_of_ble_eq_true rfl) dL_law_445 ?_
  refine jv_aload_n cx dL_law_448 rfl ?_
  refine jv_arg cx (k := 1) dL_law_449 dL_law_450 dL_law_451 (by decide) dL_law_452 dL_law_453 rfl rfl (by omega) hL ?_
  refine jv_arg cx (k := 2) dL_law_454 dL_law_455 dL_law_456 (by decide) dL_law_457 dL_law_458 rfl rfl (by omega) hL ?_
  refine jv_call cx (n := 2) m2 gL_law_X3_share rfl ⟨rfl, rfl⟩ ⟨(Nat.le_of_ble_eq_true rfl), (Nat.le_of_ble_eq_true rfl)⟩ (by decide +kernel) jp_mo_o rfl rfl rfl (Nat.le_of_ble_eq_true rfl) dL_law_459 ?_
  exact jv_same cx dL_law_462 (by decide) (k h2 r2)
set_option maxRecDepth 100000 in
theorem jv_op_potential {E : jp_E} {l : Launch} {b L : Nat} {xs : Nat → Int32} {X : jp_X} (cx : jv_C E l b L xs X) (hL : L < 2 ^ 31) {c i : Nat} (hc : c ≤ 38000) {h : jp_H} (hr : jr c h.1) (hi : i + 3 < L) (k : ∀ h' : jp_H, jr (c + 50) h'.1 → X 660 [(0, .ref b), (1, .ref (E.2.1 0 0)), (2, .ref (E.2.1 7 0)), (3, .int (nI i))] [] h') : X 467 [(0, .ref b), (1, .ref (E.2.1 0 0)), (2, .ref (E.2.1 7 0)), (3, .int (nI i))] [] h := by
  obtain ⟨v, h1, h2, m1, m2, r2⟩ := jl_potential E l hc hr
  refine jv_aload_n cx dL_law_467 rfl ?_
  refine jv_call cx (n := 0) m1 gL_law_X2_potential rfl ⟨rfl, rfl⟩ ⟨(Nat.le_of_ble_eq_true rfl), (Nat.le_of_ble_eq_true rfl)⟩ (by decide +kernel) jp_js_o rfl rfl rfl (Nat.le_of_ble_eq_true rfl) dL_law_468 ?_
  refine jv_aload_n cx dL_law_471 rfl ?_
  refine jv_call cx (n := 0) m2 gL_law_X3_potential rfl ⟨rfl, rfl⟩ ⟨(Nat.le_of_ble_eq_true rfl), (Nat.le_of_ble_eq_true rfl)⟩ (by decide +kernel) jp_mo_o rfl rfl rfl (Nat.le_of_ble_eq_true rfl) dL_law_472 ?_
  exact jv_sameL cx dL_law_475 dL_law_476 (by decide) (k h2 r2)
set_option maxRecDepth 100000 in
theorem jv_op_ideal {E : jp_E} {l : Launch} {b L : Nat} {xs : Nat → Int32} {X : jp_X} (cx : jv_C E l b L xs X) (hL : L < 2 ^ 31) {c i : Nat} (hc : c ≤ 38000) {h : jp_H} (hr : jr c h.1) (hi : i + 3 < L) (k : ∀ h' : jp_H, jr (c + 50) h'.1 → X 660 [(0, .ref b), (1, .ref (E.2.1 0 0)), (2, .ref (E.2.1 7 0)), (3, .int (nI i))] [] h') : X 481 [(0, .ref b), (1, .ref (E.2.1 0 0)), (2, .ref (E.2.1 7 0)), (3, .int (nI i))] [] h := by
  obtain ⟨v, h1, h2, m1, m2, r2⟩ := jl_ideal E l hc hr (xs (i + 1)) (xs (i + 2)) (xs (i + 3))
  refine jv_aload_n cx dL_law_481 rfl ?_
  refine jv_arg cx (k := 1) dL_law_482 dL_law_483 dL_law_484 (by decide) dL_law_485 dL_law_486 rfl rfl (by omega) hL ?_
  refine jv_arg cx (k := 2) dL_law_487 dL_law_488 dL_law_489 (by decide) dL_law_490 dL_law_491 rfl rfl (by omega) hL ?_
  refine jv_arg cx (k := 3) dL_law_492 dL_law_493 dL_law_494 (by decide) dL_law_495 dL_law_496 rfl rfl (by omega) hL ?_
  refine jv_call cx (n := 3) m1 gL_law_X2_ideal rfl ⟨rfl, rfl⟩ ⟨(Nat.le_of_ble_eq_true rfl), (Nat.le_of_ble_eq_true rfl)⟩ (by decide +kernel) jp_js_o rfl rfl rfl (Nat.le_of_ble_eq_true rfl) dL_law_497 ?_
  refine jv_aload_n cx dL_law_500 rfl ?_
  refine jv_arg cx (k := 1) dL_law_501 dL_law_502 dL_law_503 (by decide) dL_law_504 dL_law_505 rfl rfl (by omega) hL ?_
  refine jv_arg cx (k := 2) dL_law_506 dL_law_507 dL_law_508 (by decide) dL_law_509 dL_law_510 rfl rfl (by omega) hL ?_
  refine jv_arg cx (k := 3) dL_law_511 dL_law_512 dL_law_513 (by decide) dL_law_514 dL_law_515 rfl rfl (by omega) hL ?_
  refine jv_call cx (n := 3) m2 gL_law_X3_ideal rfl ⟨rfl, rfl⟩ ⟨(Nat.le_of_ble_eq_true rfl), (Nat.le_of_ble_eq_true rfl)⟩ (by decide +kernel) jp_mo_o rfl rfl rfl (Nat.le_of_ble_eq_true rfl) dL_law_516 ?_
  exact jv_sameL cx dL_law_519 dL_law_520 (by decide) (k h2 r2)
set_option maxRecDepth 100000 in
theorem jv_op_until {E : jp_E} {l : Launch} {b L : Nat} {xs : Nat → Int32} {X : jp_X} (cx : jv_C E l b L xs X) (hL : L < 2 ^ 31) {c i : Nat} (hc : c ≤ 38000) {h : jp_H} (hr : jr c h.1) (hi : i + 3 < L) (k : ∀ h' : jp_H, jr (c + 50) h'.1 → X 660 [(0, .ref b), (1, .ref (E.2.1 0 0)), (2, .ref (E.2.1 7 0)), (3, .int (nI i))] [] h') : X 525 [(0, .ref b), (1, .ref (E.2.1 0 0)), (2, .ref (E.2.1 7 0)), (3, .int (nI i))] [] h := by
  obtain ⟨v, h1, h2, m1, m2, r2⟩ := jl_until E l hc hr (xs (i + 1)) (xs (i + 2))
  refine jv_aload_n cx dL_law_525 rfl ?_
  refine jv_arg cx (k := 1) dL_law_526 dL_law_527 dL_law_528 (by decide) dL_law_529 dL_law_530 rfl rfl (by omega) hL ?_
  refine jv_arg cx (k := 2) dL_law_531 dL_law_532 dL_law_533 (by decide) dL_law_534 dL_law_535 rfl rfl (by omega) hL ?_
  refine jv_call cx (n := 2) m1 gL_law_X2_until rfl ⟨rfl, rfl⟩ ⟨(Nat.le_of_ble_eq_true rfl), (Nat.le_of_ble_eq_true rfl)⟩ (by decide +kernel) jp_js_o rfl rfl rfl (Nat.le_of_ble_eq_true rfl) dL_law_536 ?_
  refine jv_aload_n cx dL_law_539 rfl ?_
  refine jv_arg cx (k := 1) dL_law_540 dL_law_541 dL_law_542 (by decide) dL_law_543 dL_law_544 rfl rfl (by omega) hL ?_
  refine jv_arg cx (k := 2) dL_law_545 dL_law_546 dL_law_547 (by decide) dL_law_548 dL_law_549 rfl rfl (by omega) hL ?_
  refine jv_call cx (n := 2) m2 gL_law_X3_until rfl ⟨rfl, rfl⟩ ⟨(Nat.le_of_ble_eq_true rfl), (Nat.le_of_ble_eq_true rfl)⟩ (by decide +kernel) jp_mo_o rfl rfl rfl (Nat.le_of_ble_eq_true rfl) dL_law_550 ?_
  exact jv_same cx dL_law_553 (by decide) (k h2 r2)
set_option maxRecDepth 100000 in
theorem jv_op_ring {E : jp_E} {l : Launch} {b L : Nat} {xs : Nat → Int32} {X : jp_X} (cx : jv_C E l b L xs X) (hL : L < 2 ^ 31) {c i : Nat} (hc : c ≤ 38000) {h : jp_H} (hr : jr c h.1) (hi : i + 3 < L) (k : ∀ h' : jp_H, jr (c + 50) h'.1 → X 660 [(0, .ref b), (1, .ref (E.2.1 0 0)), (2, .ref (E.2.1 7 0)), (3, .int (nI i))] [] h') : X 558 [(0, .ref b), (1, .ref (E.2.1 0 0)), (2, .ref (E.2.1 7 0)), (3, .int (nI i))] [] h := by
  obtain ⟨v, h1, h2, m1, m2, r2⟩ := jl_ring E l hc hr (xs (i + 1)) (xs (i + 2))
  refine jv_aload_n cx dL_law_558 rfl ?_
  refine jv_arg cx (k := 1) dL_law_559 dL_law_560 dL_law_561 (by decide) dL_law_562 dL_law_563 rfl rfl (by omega) hL ?_
  refine jv_arg cx (k := 2) dL_law_564 dL_law_565 dL_law_566 (by decide) dL_law_567 dL_law_568 rfl rfl (by omega) hL ?_
  refine jv_call cx (n := 2) m1 gL_law_X2_ring rfl ⟨rfl, rfl⟩ ⟨(Nat.le_of_ble_eq_true rfl), (Nat.le_of_ble_eq_true rfl)⟩ (by decide +kernel) jp_js_o rfl rfl rfl (Nat.le_of_ble_eq_true rfl) dL_law_569 ?_
  refine jv_aload_n cx dL_law_572 rfl ?_
  refine jv_arg cx (k := 1) dL_law_573 dL_law_574 dL_law_575 (by decide) dL_law_576 dL_law_577 rfl rfl (by omega) hL ?_
  refine jv_arg cx (k := 2) dL_law_578 dL_law_579 dL_law_580 (by decide) dL_law_581 dL_law_582 rfl rfl (by omega) hL ?_
  refine jv_call cx (n := 2) m2 gL_law_X3_ring rfl ⟨rfl, rfl⟩ ⟨(Nat.le_of_ble_eq_true rfl), (Nat.le_of_ble_eq_true rfl)⟩ (by decide +kernel) jp_mo_o rfl rfl rfl (Nat.le_of_ble_eq_true rfl) dL_law_583 ?_
  exact jv_same cx dL_law_586 (by decide) (k h2 r2)
set_option maxRecDepth 100000 in
theorem jv_op_image {E : jp_E} {l : Launch} {b L : Nat} {xs : Nat → Int32} {X : jp_X} (cx : jv_C E l b L xs X) (hL : L < 2 ^ 31) {c i : Nat} {h : jp_H} (hr : jr c h.1) (hi : i + 3 < L) (k : ∀ h' : jp_H, jr (c + 50) h'.1 → X 660 [(0, .ref b), (1, .ref (E.2.1 0 0)), (2, .ref (E.2.1 7 0)), (3, .int (nI i))] [] h') : X 591 [(0, .ref b), (1, .ref (E.2.1 0 0)), (2, .ref (E.2.1 7 0)), (3, .int (nI i))] [] h := by
  obtain ⟨v, h1, h2, m1, m2, r2⟩ := jl_image E l hr (xs (i + 1))
  refine jv_aload_n cx dL_law_591 rfl ?_
  refine jv_arg cx (k := 1) dL_law_592 dL_law_593 dL_law_594 (by decide) dL_law_595 dL_law_596 rfl rfl (by omega) hL ?_
  refine jv_call cx (n := 1) m1 gL_law_X2_image rfl ⟨rfl, rfl⟩ ⟨(Nat.le_of_ble_eq_true rfl), (Nat.le_of_ble_eq_true rfl)⟩ (by decide +kernel) jp_js_o rfl rfl rfl (Nat.le_of_ble_eq_true rfl) dL_law_597 ?_
  refine jv_aload_n cx dL_law_600 rfl ?_
  refine jv_arg cx (k := 1) dL_law_601 dL_law_602 dL_law_603 (by decide) dL_law_604 dL_law_605 rfl rfl (by omega) hL ?_
  refine jv_call cx (n := 1) m2 gL_law_X3_image rfl ⟨rfl, rfl⟩ ⟨(Nat.le_of_ble_eq_true rfl), (Nat.le_of_ble_eq_true rfl)⟩ (by decide +kernel) jp_mo_o rfl rfl rfl (Nat.le_of_ble_eq_true rfl) dL_law_606 ?_
  exact jv_same cx dL_law_609 (by decide) (k h2 r2)
set_option maxRecDepth 100000 in
theorem jv_op_restore {E : jp_E} {l : Launch} {b L : Nat} {xs : Nat → Int32} {X : jp_X} (cx : jv_C E l b L xs X) (hL : L < 2 ^ 31) {c i : Nat} {h : jp_H} (hr : jr c h.1) (hi : i + 3 < L) (k : ∀ h' : jp_H, jr (c + 50) h'.1 → X 660 [(0, .ref b), (1, .ref (E.2.1 0 0)), (2, .ref (E.2.1 7 0)), (3, .int (nI i))] [] h') : X 614 [(0, .ref b), (1, .ref (E.2.1 0 0)), (2, .ref (E.2.1 7 0)), (3, .int (nI i))] [] h := by
  obtain ⟨v, h1, h2, m1, m2, r2⟩ := jl_restore E l hr (xs (i + 1))
  refine jv_aload_n cx dL_law_614 rfl ?_
  refine jv_arg cx (k := 1) dL_law_615 dL_law_616 dL_law_617 (by decide) dL_law_618 dL_law_619 rfl rfl (by omega) hL ?_
  refine jv_call cx (n := 1) m1 gL_law_X2_restore rfl ⟨rfl, rfl⟩ ⟨(Nat.le_of_ble_eq_true rfl), (Nat.le_of_ble_eq_true rfl)⟩ (by decide +kernel) jp_js_o rfl rfl rfl (Nat.le_of_ble_eq_true rfl) dL_law_620 ?_
  refine jv_aload_n cx dL_law_623 rfl ?_
  refine jv_arg cx (k := 1) dL_law_624 dL_law_625 dL_law_626 (by decide) dL_law_627 dL_law_628 rfl rfl (by omega) hL ?_
  refine jv_call cx (n := 1) m2 gL_law_X3_restore rfl ⟨rfl, rfl⟩ ⟨(Nat.le_of_ble_eq_true rfl), (Nat.le_of_ble_eq_true rfl)⟩ (by decide +kernel) jp_mo_o rfl rfl rfl (Nat.le_of_ble_eq_true rfl) dL_law_629 ?_
  exact jv_same cx dL_law_632 (by decide) (k h2 r2)
set_option maxRecDepth 100000 in
theorem jv_op_count {E : jp_E} {l : Launch} {b L : Nat} {xs : Nat → Int32} {X : jp_X} (cx : jv_C E l b L xs X) (hL : L < 2 ^ 31) {c i : Nat} (hc : c ≤ 38000) {h : jp_H} (hr : jr c h.1) (hi : i + 3 < L) (k : ∀ h' : jp_H, jr (c + 50) h'.1 → X 660 [(0, .ref b), (1, .ref (E.2.1 0 0)), (2, .ref (E.2.1 7 0)), (3, .int (nI i))] [] h') : X 637 [(0, .ref b), (1, .ref (E.2.1 0 0)), (2, .ref (E.2.1 7 0)), (3, .int (nI i))] [] h := by
  obtain ⟨v, h1, h2, m1, m2, r2⟩ := jl_count E l hc hr (xs (i + 1))
  refine jv_aload_n cx dL_law_637 rfl ?_
  refine jv_arg cx (k := 1) dL_law_638 dL_law_639 dL_law_640 (by decide) dL_law_641 dL_law_642 rfl rfl (by omega) hL ?_
  refine jv_call cx (n := 1) m1 gL_law_X2_count rfl ⟨rfl, rfl⟩ ⟨(Nat.le_of_ble_eq_true rfl), (Nat.le_of_ble_eq_true rfl)⟩ (by decide +kernel) jp_js_o rfl rfl rfl (Nat.le_of_ble_eq_true rfl) dL_law_643 ?_
  refine jv_aload_n cx dL_law_646 rfl ?_
  refine jv_arg cx (k := 1) dL_law_647 dL_law_648 dL_law_649 (by decide) dL_law_650 dL_law_651 rfl rfl (by omega) hL ?_
  refine jv_call cx (n := 1) m2 gL_law_X3_count rfl ⟨rfl, rfl⟩ ⟨(Nat.le_of_ble_eq_true rfl), (Nat.le_of_ble_eq_true rfl)⟩ (by decide +kernel) jp_mo_o rfl rfl rfl (Nat.le_of_ble_eq_true rfl) dL_law_652 ?_
  exact jv_same cx dL_law_655 (by decide) (k h2 r2)
