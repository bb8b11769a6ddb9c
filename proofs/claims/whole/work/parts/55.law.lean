set_option maxRecDepth 100000 in
set_option maxHeartbeats 4000000 in
theorem law_0 {X : jX} {bb L : Nat} {xs : Nat → Int32} (hw : jLw X bb L xs) (hL : L ≤ 384) {i : Nat} (hi : i + 6 ≤ L) {h : jH} {S : jS} (hc : CI h S) (hr : RI h S) (hg : SG S) (KN : ∀ (h' : jH) (S' : jS), CI h' S' → RI h' S' → SG S' → jV cL_law RL 8 X none 1246 [some (.ref 2000), some (.ref 0), some (.ref 218), some (.int (nI i))] [] h') : jV cL_law RL 8 X none 184 [some (.ref 2000), some (.ref 0), some (.ref 218), some (.int (nI i))] [] h := by
  refine e_al1 dL_law_184 ?_
  refine e_al0 dL_law_185 ?_
  refine e_il3 dL_law_186 ?_
  refine e_iconst (nI 1) dL_law_187 (by decide) ?_
  refine e_iaddN dL_law_188 ?_
  refine e_sld hw dL_law_189 (by omega) (by omega) ?_
  refine e_al0 dL_law_190 ?_
  refine e_il3 dL_law_191 ?_
  refine e_iconst (nI 2) dL_law_192 (by decide) ?_
  refine e_iaddN dL_law_193 ?_
  refine e_sld hw dL_law_194 (by omega) (by omega) ?_
  refine e_al0 dL_law_195 ?_
  refine e_il3 dL_law_196 ?_
  refine e_iconst (nI 3) dL_law_197 (by decide) ?_
  refine e_iaddN dL_law_198 ?_
  refine e_sld hw dL_law_199 (by omega) (by omega) ?_
  refine e_cv dL_law_200 vL_13 (c_row hc hg) (by decide) rfl rfl (Nat.le_of_ble_eq_true rfl) jBud0 rfl hc.1 ?_
  rintro _ h1 ⟨rfl, c1, E1⟩
  replace hr := RI.eq E1 hr (fun j q => q)
  refine e_al2 dL_law_203 ?_
  refine e_al0 dL_law_204 ?_
  refine e_il3 dL_law_205 ?_
  refine e_iconst (nI 1) dL_law_206 (by decide) ?_
  refine e_iaddN dL_law_207 ?_
  refine e_sld hw dL_law_208 (by omega) (by omega) ?_
  refine e_al0 dL_law_209 ?_
  refine e_il3 dL_law_210 ?_
  refine e_iconst (nI 2) dL_law_211 (by decide) ?_
  refine e_iaddN dL_law_212 ?_
  refine e_sld hw dL_law_213 (by omega) (by omega) ?_
  refine e_al0 dL_law_214 ?_
  refine e_il3 dL_law_215 ?_
  refine e_iconst (nI 3) dL_law_216 (by decide) ?_
  refine e_iaddN dL_law_217 ?_
  refine e_sld hw dL_law_218 (by omega) (by omega) ?_
  refine e_cv dL_law_219 vL_17 (r_row hr hg) (by decide) rfl rfl (Nat.le_of_ble_eq_true rfl) jBud0 rfl hr.1.choose_spec.1 ?_
  rintro _ h2 ⟨rfl, r1, E2⟩
  replace c1 := CI.eq E2 c1 (fun j q => q)
  refine e_ic_eq 1246 dL_law_222 (by decide) (fun _ => ?_) (fun z => absurd rfl z)
  exact KN _ _ c1 r1 (sg_row hg)
set_option maxRecDepth 100000 in
set_option maxHeartbeats 4000000 in
theorem law_1 {X : jX} {bb L : Nat} {xs : Nat → Int32} (hw : jLw X bb L xs) (hL : L ≤ 384) {i : Nat} (hi : i + 6 ≤ L) {h : jH} {S : jS} (hc : CI h S) (hr : RI h S) (hg : SG S) (KN : ∀ (h' : jH) (S' : jS), CI h' S' → RI h' S' → SG S' → jV cL_law RL 8 X none 1246 [some (.ref 2000), some (.ref 0), some (.ref 218), some (.int (nI i))] [] h') : jV cL_law RL 8 X none 227 [some (.ref 2000), some (.ref 0), some (.ref 218), some (.int (nI i))] [] h := by
  refine e_al1 dL_law_227 ?_
  refine e_al0 dL_law_228 ?_
  refine e_il3 dL_law_229 ?_
  refine e_iconst (nI 1) dL_law_230 (by decide) ?_
  refine e_iaddN dL_law_231 ?_
  refine e_sld hw dL_law_232 (by omega) (by omega) ?_
  refine e_al0 dL_law_233 ?_
  refine e_il3 dL_law_234 ?_
  refine e_iconst (nI 2) dL_law_235 (by decide) ?_
  refine e_iaddN dL_law_236 ?_
  refine e_sld hw dL_law_237 (by omega) (by omega) ?_
  refine e_al0 dL_law_238 ?_
  refine e_il3 dL_law_239 ?_
  refine e_iconst (nI 3) dL_law_240 (by decide) ?_
  refine e_iaddN dL_law_241 ?_
  refine e_sld hw dL_law_242 (by omega) (by omega) ?_
  refine e_cv dL_law_243 vL_18 (c_set hc hg) (by decide) rfl rfl (Nat.le_of_ble_eq_true rfl) jBud0 rfl hc.1 ?_
  rintro _ h1 ⟨rfl, c1, E1⟩
  replace hr := RI.eq E1 hr (fun j q => q)
  refine e_al2 dL_law_246 ?_
  refine e_al0 dL_law_247 ?_
  refine e_il3 dL_law_248 ?_
  refine e_iconst (nI 1) dL_law_249 (by decide) ?_
  refine e_iaddN dL_law_250 ?_
  refine e_sld hw dL_law_251 (by omega) (by omega) ?_
  refine e_al0 dL_law_252 ?_
  refine e_il3 dL_law_253 ?_
  refine e_iconst (nI 2) dL_law_254 (by decide) ?_
  refine e_iaddN dL_law_255 ?_
  refine e_sld hw dL_law_256 (by omega) (by omega) ?_
  refine e_al0 dL_law_257 ?_
  refine e_il3 dL_law_258 ?_
  refine e_iconst (nI 3) dL_law_259 (by decide) ?_
  refine e_iaddN dL_law_260 ?_
  refine e_sld hw dL_law_261 (by omega) (by omega) ?_
  refine e_cv dL_law_262 vL_21 (r_set hr hg) (by decide) rfl rfl (Nat.le_of_ble_eq_true rfl) jBud0 rfl hr.1.choose_spec.1 ?_
  rintro _ h2 ⟨rfl, r1, E2⟩
  replace c1 := CI.eq E2 c1 (fun j q => q)
  refine e_ic_eq 1246 dL_law_265 (by decide) (fun _ => ?_) (fun z => absurd rfl z)
  exact KN _ _ c1 r1 (sg_set hg)
set_option maxRecDepth 100000 in
set_option maxHeartbeats 4000000 in
theorem law_2 {X : jX} {bb L : Nat} {xs : Nat → Int32} (hw : jLw X bb L xs) (hL : L ≤ 384) {i : Nat} (hi : i + 6 ≤ L) {h : jH} {S : jS} (hc : CI h S) (hr : RI h S) (hg : SG S) (KN : ∀ (h' : jH) (S' : jS), CI h' S' → RI h' S' → SG S' → jV cL_law RL 8 X none 1246 [some (.ref 2000), some (.ref 0), some (.ref 218), some (.int (nI i))] [] h') : jV cL_law RL 8 X none 270 [some (.ref 2000), some (.ref 0), some (.ref 218), some (.int (nI i))] [] h := by
  refine e_al1 dL_law_270 ?_
  refine e_al0 dL_law_271 ?_
  refine e_il3 dL_law_272 ?_
  refine e_iconst (nI 1) dL_law_273 (by decide) ?_
  refine e_iaddN dL_law_274 ?_
  refine e_sld hw dL_law_275 (by omega) (by omega) ?_
  refine e_al0 dL_law_276 ?_
  refine e_il3 dL_law_277 ?_
  refine e_iconst (nI 2) dL_law_278 (by decide) ?_
  refine e_iaddN dL_law_279 ?_
  refine e_sld hw dL_law_280 (by omega) (by omega) ?_
  refine e_al0 dL_law_281 ?_
  refine e_il3 dL_law_282 ?_
  refine e_iconst (nI 3) dL_law_283 (by decide) ?_
  refine e_iaddN dL_law_284 ?_
  refine e_sld hw dL_law_285 (by omega) (by omega) ?_
  refine e_al0 dL_law_286 ?_
  refine e_il3 dL_law_287 ?_
  refine e_iconst (nI 4) dL_law_288 (by decide) ?_
  refine e_iaddN dL_law_289 ?_
  refine e_sld hw dL_law_290 (by omega) (by omega) ?_
  refine e_al0 dL_law_291 ?_
  refine e_il3 dL_law_292 ?_
  refine e_iconst (nI 5) dL_law_293 (by decide) ?_
  refine e_iaddN dL_law_294 ?_
  refine e_sld hw dL_law_295 (by omega) (by omega) ?_
  refine e_cv dL_law_296 vL_22 (c_copy hc hg) (by decide) rfl rfl (Nat.le_of_ble_eq_true rfl) jBud0 rfl hc.1 ?_
  rintro _ h1 ⟨rfl, c1, E1⟩
  replace hr := RI.eq E1 hr (fun j q => q)
  refine e_al2 dL_law_299 ?_
  refine e_al0 dL_law_300 ?_
  refine e_il3 dL_law_301 ?_
  refine e_iconst (nI 1) dL_law_302 (by decide) ?_
  refine e_iaddN dL_law_303 ?_
  refine e_sld hw dL_law_304 (by omega) (by omega) ?_
  refine e_al0 dL_law_305 ?_
  refine e_il3 dL_law_306 ?_
  refine e_iconst (nI 2) dL_law_307 (by decide) ?_
  refine e_iaddN dL_law_308 ?_
  refine e_sld hw dL_law_309 (by omega) (by omega) ?_
  refine e_al0 dL_law_310 ?_
  refine e_il3 dL_law_311 ?_
  refine e_iconst (nI 3) dL_law_312 (by decide) ?_
  refine e_iaddN dL_law_313 ?_
  refine e_sld hw dL_law_314 (by omega) (by omega) ?_
  refine e_al0 dL_law_315 ?_
  refine e_il3 dL_law_316 ?_
  refine e_iconst (nI 4) dL_law_317 (by decide) ?_
  refine e_iaddN dL_law_318 ?_
  refine e_sld hw dL_law_319 (by omega) (by omega) ?_
  refine e_al0 dL_law_320 ?_
  refine e_il3 dL_law_321 ?_
  refine e_iconst (nI 5) dL_law_322 (by decide) ?_
  refine e_iaddN dL_law_323 ?_
  refine e_sld hw dL_law_324 (by omega) (by omega) ?_
  refine e_cv dL_law_325 vL_26 (r_copy hr hg) (by decide) rfl rfl (Nat.le_of_ble_eq_true rfl) jBud0 rfl hr.1.choose_spec.1 ?_
  rintro _ h2 ⟨rfl, r1, E2⟩
  replace c1 := CI.eq E2 c1 (fun j q => q)
  refine e_ic_eq 1246 dL_law_328 (by decide) (fun _ => ?_) (fun z => absurd rfl z)
  exact KN _ _ c1 r1 (sg_copy hg)
set_option maxRecDepth 100000 in
set_option maxHeartbeats 4000000 in
theorem law_3 {X : jX} {bb L : Nat} {xs : Nat → Int32} (hw : jLw X bb L xs) (hL : L ≤ 384) {i : Nat} (hi : i + 6 ≤ L) {h : jH} {S : jS} (hc : CI h S) (hr : RI h S) (hg : SG S) (KN : ∀ (h' : jH) (S' : jS), CI h' S' → RI h' S' → SG S' → jV cL_law RL 8 X none 1246 [some (.ref 2000), some (.ref 0), some (.ref 218), some (.int (nI i))] [] h') : jV cL_law RL 8 X none 333 [some (.ref 2000), some (.ref 0), some (.ref 218), some (.int (nI i))] [] h := by
  refine e_al1 dL_law_333 ?_
  refine e_al0 dL_law_334 ?_
  refine e_il3 dL_law_335 ?_
  refine e_iconst (nI 1) dL_law_336 (by decide) ?_
  refine e_iaddN dL_law_337 ?_
  refine e_sld hw dL_law_338 (by omega) (by omega) ?_
  refine e_cv dL_law_339 vL_27 (c_drop hc hg) (by decide) rfl rfl (Nat.le_of_ble_eq_true rfl) jBud0 rfl hc.1 ?_
  rintro _ h1 ⟨rfl, c1, E1⟩
  replace hr := RI.eq E1 hr (fun j q => q)
  refine e_al2 dL_law_342 ?_
  refine e_al0 dL_law_343 ?_
  refine e_il3 dL_law_344 ?_
  refine e_iconst (nI 1) dL_law_345 (by decide) ?_
  refine e_iaddN dL_law_346 ?_
  refine e_sld hw dL_law_347 (by omega) (by omega) ?_
  refine e_cv dL_law_348 vL_31 (r_drop hr hg) (by decide) rfl rfl (Nat.le_of_ble_eq_true rfl) jBud0 rfl hr.1.choose_spec.1 ?_
  rintro _ h2 ⟨rfl, r1, E2⟩
  replace c1 := CI.eq E2 c1 (fun j q => q)
  refine e_ic_eq 1246 dL_law_351 (by decide) (fun _ => ?_) (fun z => absurd rfl z)
  exact KN _ _ c1 r1 (sg_drop hg)
set_option maxRecDepth 100000 in
set_option maxHeartbeats 4000000 in
theorem law_4 {X : jX} {bb L : Nat} {xs : Nat → Int32} (hw : jLw X bb L xs) (hL : L ≤ 384) {i : Nat} (hi : i + 6 ≤ L) {h : jH} {S : jS} (hc : CI h S) (hr : RI h S) (hg : SG S) (KN : ∀ (h' : jH) (S' : jS), CI h' S' → RI h' S' → SG S' → jV cL_law RL 8 X none 1246 [some (.ref 2000), some (.ref 0), some (.ref 218), some (.int (nI i))] [] h') : jV cL_law RL 8 X none 356 [some (.ref 2000), some (.ref 0), some (.ref 218), some (.int (nI i))] [] h := by
  refine e_al1 dL_law_356 ?_
  refine e_al0 dL_law_357 ?_
  refine e_il3 dL_law_358 ?_
  refine e_iconst (nI 1) dL_law_359 (by decide) ?_
  refine e_iaddN dL_law_360 ?_
  refine e_sld hw dL_law_361 (by omega) (by omega) ?_
  refine e_cv dL_law_362 vL_32 (c_feed hc hg) (by decide) rfl rfl (Nat.le_of_ble_eq_true rfl) jBud0 rfl hc.1 ?_
  rintro _ h1 ⟨rfl, c1, E1⟩
  replace hr := RI.eq E1 hr (fun j q => q)
  refine e_al2 dL_law_365 ?_
  refine e_al0 dL_law_366 ?_
  refine e_il3 dL_law_367 ?_
  refine e_iconst (nI 1) dL_law_368 (by decide) ?_
  refine e_iaddN dL_law_369 ?_
  refine e_sld hw dL_law_370 (by omega) (by omega) ?_
  refine e_cv dL_law_371 vL_35 (r_feed hr hg) (by decide) rfl rfl (Nat.le_of_ble_eq_true rfl) jBud0 rfl hr.1.choose_spec.1 ?_
  rintro _ h2 ⟨rfl, r1, E2⟩
  replace c1 := CI.eq E2 c1 (fun j q => q)
  refine e_ic_eq 1246 dL_law_374 (by decide) (fun _ => ?_) (fun z => absurd rfl z)
  exact KN _ _ c1 r1 (sg_feed hg)
set_option maxRecDepth 100000 in
set_option maxHeartbeats 4000000 in
theorem law_5 {X : jX} {bb L : Nat} {xs : Nat → Int32} (hw : jLw X bb L xs) (hL : L ≤ 384) {i : Nat} (hi : i + 6 ≤ L) {h : jH} {S : jS} (hc : CI h S) (hr : RI h S) (hg : SG S) (KN : ∀ (h' : jH) (S' : jS), CI h' S' → RI h' S' → SG S' → jV cL_law RL 8 X none 1246 [some (.ref 2000), some (.ref 0), some (.ref 218), some (.int (nI i))] [] h') : jV cL_law RL 8 X none 379 [some (.ref 2000), some (.ref 0), some (.ref 218), some (.int (nI i))] [] h := by
  refine e_al1 dL_law_379 ?_
  refine e_cv dL_law_380 vL_36 (c_house hc hg) (by decide) rfl rfl (Nat.le_of_ble_eq_true rfl) jBud0 rfl hc.1 ?_
  rintro _ h1 ⟨rfl, c1, E1⟩
  replace hr := RI.eq E1 hr (fun j q => q)
  refine e_al2 dL_law_383 ?_
  refine e_cv dL_law_384 vL_40 (r_house hr hg) (by decide) rfl rfl (Nat.le_of_ble_eq_true rfl) jBud0 rfl hr.1.choose_spec.1 ?_
  rintro _ h2 ⟨rfl, r1, E2⟩
  replace c1 := CI.eq E2 c1 (fun j q => q)
  refine e_ic_eq 1246 dL_law_387 (by decide) (fun _ => ?_) (fun z => absurd rfl z)
  exact KN _ _ c1 r1 (sg_house hg)
set_option maxRecDepth 100000 in
set_option maxHeartbeats 4000000 in
theorem law_6 {X : jX} {bb L : Nat} {xs : Nat → Int32} (hw : jLw X bb L xs) (hL : L ≤ 384) {i : Nat} (hi : i + 6 ≤ L) {h : jH} {S : jS} (hc : CI h S) (hr : RI h S) (hg : SG S) (KN : ∀ (h' : jH) (S' : jS), CI h' S' → RI h' S' → SG S' → jV cL_law RL 8 X none 1246 [some (.ref 2000), some (.ref 0), some (.ref 218), some (.int (nI i))] [] h') : jV cL_law RL 8 X none 392 [some (.ref 2000), some (.ref 0), some (.ref 218), some (.int (nI i))] [] h := by
  refine e_al1 dL_law_392 ?_
  refine e_cv dL_law_393 vL_41 (c_fault hc hg) (by decide) rfl rfl (Nat.le_of_ble_eq_true rfl) jBud0 rfl hc.1 ?_
  rintro _ h1 ⟨rfl, c1, E1⟩
  replace hr := RI.eq E1 hr (fun j q => q)
  refine e_al2 dL_law_396 ?_
  refine e_cv dL_law_397 vL_44 (r_fault hr hg) (by decide) rfl rfl (Nat.le_of_ble_eq_true rfl) jBud0 rfl hr.1.choose_spec.1 ?_
  rintro _ h2 ⟨rfl, r1, E2⟩
  replace c1 := CI.eq E2 c1 (fun j q => q)
  refine e_ic_eq 1246 dL_law_400 (by decide) (fun _ => ?_) (fun z => absurd rfl z)
  exact KN _ _ c1 r1 hg
set_option maxRecDepth 100000 in
set_option maxHeartbeats 4000000 in
theorem law_7 {X : jX} {bb L : Nat} {xs : Nat → Int32} (hw : jLw X bb L xs) (hL : L ≤ 384) {i : Nat} (hi : i + 6 ≤ L) {h : jH} {S : jS} (hc : CI h S) (hr : RI h S) (hg : SG S) (KN : ∀ (h' : jH) (S' : jS), CI h' S' → RI h' S' → SG S' → jV cL_law RL 8 X none 1246 [some (.ref 2000), some (.ref 0), some (.ref 218), some (.int (nI i))] [] h') : jV cL_law RL 8 X none 405 [some (.ref 2000), some (.ref 0), some (.ref 218), some (.int (nI i))] [] h := by
  refine e_al1 dL_law_405 ?_
  refine e_al0 dL_law_406 ?_
  refine e_il3 dL_law_407 ?_
  refine e_iconst (nI 1) dL_law_408 (by decide) ?_
  refine e_iaddN dL_law_409 ?_
  refine e_sld hw dL_law_410 (by omega) (by omega) ?_
  refine e_cv dL_law_411 vL_45 (c_days hc hg) (by decide) rfl rfl (Nat.le_of_ble_eq_true rfl) jBud0 rfl hc.1 ?_
  rintro _ h1 ⟨rfl, c1, E1⟩
  replace hr := RI.eq E1 hr (fun j q => q)
  refine e_al2 dL_law_414 ?_
  refine e_al0 dL_law_415 ?_
  refine e_il3 dL_law_416 ?_
  refine e_iconst (nI 1) dL_law_417 (by decide) ?_
  refine e_iaddN dL_law_418 ?_
  refine e_sld hw dL_law_419 (by omega) (by omega) ?_
  refine e_cv dL_law_420 vL_48 (r_days hr hg) (by decide) rfl rfl (Nat.le_of_ble_eq_true rfl) jBud0 rfl hr.1.choose_spec.1 ?_
  rintro _ h2 ⟨rfl, r1, E2⟩
  replace c1 := CI.eq E2 c1 (fun j q => q)
  refine e_ic_eq 1246 dL_law_423 (by decide) (fun _ => ?_) (fun z => absurd rfl z)
  exact KN _ _ c1 r1 (sg_days hg)
set_option maxRecDepth 100000 in
set_option maxHeartbeats 4000000 in
theorem law_8 {X : jX} {bb L : Nat} {xs : Nat → Int32} (hw : jLw X bb L xs) (hL : L ≤ 384) {i : Nat} (hi : i + 6 ≤ L) {h : jH} {S : jS} (hc : CI h S) (hr : RI h S) (hg : SG S) (KN : ∀ (h' : jH) (S' : jS), CI h' S' → RI h' S' → SG S' → jV cL_law RL 8 X none 1246 [some (.ref 2000), some (.ref 0), some (.ref 218), some (.int (nI i))] [] h') : jV cL_law RL 8 X none 428 [some (.ref 2000), some (.ref 0), some (.ref 218), some (.int (nI i))] [] h := by
  refine e_al1 dL_law_428 ?_
  refine e_al0 dL_law_429 ?_
  refine e_il3 dL_law_430 ?_
  refine e_iconst (nI 1) dL_law_431 (by decide) ?_
  refine e_iaddN dL_law_432 ?_
  refine e_sld hw dL_law_433 (by omega) (by omega) ?_
  refine e_al0 dL_law_434 ?_
  refine e_il3 dL_law_435 ?_
  refine e_iconst (nI 2) dL_law_436 (by decide) ?_
  refine e_iaddN dL_law_437 ?_
  refine e_sld hw dL_law_438 (by omega) (by omega) ?_
  refine e_cv dL_law_439 vL_49 (c_peg hc hg) (by decide) rfl rfl (Nat.le_of_ble_eq_true rfl) jBud0 rfl hc.1 ?_
  rintro _ h1 ⟨rfl, c1, E1⟩
  replace hr := RI.eq E1 hr (fun j q => q)
  refine e_al2 dL_law_442 ?_
  refine e_al0 dL_law_443 ?_
  refine e_il3 dL_law_444 ?_
  refine e_iconst (nI 1) dL_law_445 (by decide) ?_
  refine e_iaddN dL_law_446 ?_
  refine e_sld hw dL_law_447 (by omega) (by omega) ?_
  refine e_al0 dL_law_448 ?_
  refine e_il3 dL_law_449 ?_
  refine e_iconst (nI 2) dL_law_450 (by decide) ?_
  refine e_iaddN dL_law_451 ?_
  refine e_sld hw dL_law_452 (by omega) (by omega) ?_
  refine e_cv dL_law_453 vL_53 (r_peg hr hg) (by decide) rfl rfl (Nat.le_of_ble_eq_true rfl) jBud0 rfl hr.1.choose_spec.1 ?_
  rintro _ h2 ⟨rfl, r1, E2⟩
  replace c1 := CI.eq E2 c1 (fun j q => q)
  refine e_ic_eq 1246 dL_law_456 (by decide) (fun _ => ?_) (fun z => absurd rfl z)
  exact KN _ _ c1 r1 (sg_peg hg)
set_option maxRecDepth 100000 in
set_option maxHeartbeats 4000000 in
theorem law_9 {X : jX} {bb L : Nat} {xs : Nat → Int32} (hw : jLw X bb L xs) (hL : L ≤ 384) {i : Nat} (hi : i + 6 ≤ L) {h : jH} {S : jS} (hc : CI h S) (hr : RI h S) (hg : SG S) (KN : ∀ (h' : jH) (S' : jS), CI h' S' → RI h' S' → SG S' → jV cL_law RL 8 X none 1246 [some (.ref 2000), some (.ref 0), some (.ref 218), some (.int (nI i))] [] h') : jV cL_law RL 8 X none 461 [some (.ref 2000), some (.ref 0), some (.ref 218), some (.int (nI i))] [] h := by
  refine e_al1 dL_law_461 ?_
  refine e_al0 dL_law_462 ?_
  refine e_il3 dL_law_463 ?_
  refine e_iconst (nI 1) dL_law_464 (by decide) ?_
  refine e_iaddN dL_law_465 ?_
  refine e_sld hw dL_law_466 (by omega) (by omega) ?_
  refine e_al0 dL_law_467 ?_
  refine e_il3 dL_law_468 ?_
  refine e_iconst (nI 2) dL_law_469 (by decide) ?_
  refine e_iaddN dL_law_470 ?_
  refine e_sld hw dL_law_471 (by omega) (by omega) ?_
  refine e_cv dL_law_472 vL_54 (c_move hc hg) (by decide) rfl rfl (Nat.le_of_ble_eq_true rfl) jBud0 rfl hc.1 ?_
  rintro _ h1 ⟨rfl, c1, E1⟩
  replace hr := RI.eq E1 hr (fun j q => q)
  refine e_al2 dL_law_475 ?_
  refine e_al0 dL_law_476 ?_
  refine e_il3 dL_law_477 ?_
  refine e_iconst (nI 1) dL_law_478 (by decide) ?_
  refine e_iaddN dL_law_479 ?_
  refine e_sld hw dL_law_480 (by omega) (by omega) ?_
  refine e_al0 dL_law_481 ?_
  refine e_il3 dL_law_482 ?_
  refine e_iconst (nI 2) dL_law_483 (by decide) ?_
  refine e_iaddN dL_law_484 ?_
  refine e_sld hw dL_law_485 (by omega) (by omega) ?_
  refine e_cv dL_law_486 vL_57 (r_move hr hg) (by decide) rfl rfl (Nat.le_of_ble_eq_true rfl) jBud0 rfl hr.1.choose_spec.1 ?_
  rintro _ h2 ⟨rfl, r1, E2⟩
  replace c1 := CI.eq E2 c1 (fun j q => q)
  refine e_ic_eq 1246 dL_law_489 (by decide) (fun _ => ?_) (fun z => absurd rfl z)
  exact KN _ _ c1 r1 (sg_move hg)
set_option maxRecDepth 100000 in
set_option maxHeartbeats 4000000 in
theorem law_10 {X : jX} {bb L : Nat} {xs : Nat → Int32} (hw : jLw X bb L xs) (hL : L ≤ 384) {i : Nat} (hi : i + 6 ≤ L) {h : jH} {S : jS} (hc : CI h S) (hr : RI h S) (hg : SG S) (KN : ∀ (h' : jH) (S' : jS), CI h' S' → RI h' S' → SG S' → jV cL_law RL 8 X none 1246 [some (.ref 2000), some (.ref 0), some (.ref 218), some (.int (nI i))] [] h') : jV cL_law RL 8 X none 494 [some (.ref 2000), some (.ref 0), some (.ref 218), some (.int (nI i))] [] h := by
  refine e_al1 dL_law_494 ?_
  refine e_al0 dL_law_495 ?_
  refine e_il3 dL_law_496 ?_
  refine e_iconst (nI 1) dL_law_497 (by decide) ?_
  refine e_iaddN dL_law_498 ?_
  refine e_sld hw dL_law_499 (by omega) (by omega) ?_
  refine e_al0 dL_law_500 ?_
  refine e_il3 dL_law_501 ?_
  refine e_iconst (nI 2) dL_law_502 (by decide) ?_
  refine e_iaddN dL_law_503 ?_
  refine e_sld hw dL_law_504 (by omega) (by omega) ?_
  refine e_cv dL_law_505 vL_58 (c_light hc hg) (by decide) rfl rfl (Nat.le_of_ble_eq_true rfl) jBud0 rfl hc.1 ?_
  rintro _ h1 ⟨rfl, c1, E1⟩
  replace hr := RI.eq E1 hr (fun j q => q)
  refine e_al2 dL_law_508 ?_
  refine e_al0 dL_law_509 ?_
  refine e_il3 dL_law_510 ?_
  refine e_iconst (nI 1) dL_law_511 (by decide) ?_
  refine e_iaddN dL_law_512 ?_
  refine e_sld hw dL_law_513 (by omega) (by omega) ?_
  refine e_al0 dL_law_514 ?_
  refine e_il3 dL_law_515 ?_
  refine e_iconst (nI 2) dL_law_516 (by decide) ?_
  refine e_iaddN dL_law_517 ?_
  refine e_sld hw dL_law_518 (by omega) (by omega) ?_
  refine e_cv dL_law_519 vL_61 (r_light hr hg) (by decide) rfl rfl (Nat.le_of_ble_eq_true rfl) jBud0 rfl hr.1.choose_spec.1 ?_
  rintro _ h2 ⟨rfl, r1, E2⟩
  replace c1 := CI.eq E2 c1 (fun j q => q)
  refine e_ic_eq 1246 dL_law_522 (by decide) (fun _ => ?_) (fun z => absurd rfl z)
  exact KN _ _ c1 r1 (sg_light hg)
set_option maxRecDepth 100000 in
set_option maxHeartbeats 4000000 in
theorem law_11 {X : jX} {bb L : Nat} {xs : Nat → Int32} (hw : jLw X bb L xs) (hL : L ≤ 384) {i : Nat} (hi : i + 6 ≤ L) {h : jH} {S : jS} (hc : CI h S) (hr : RI h S) (hg : SG S) (KN : ∀ (h' : jH) (S' : jS), CI h' S' → RI h' S' → SG S' → jV cL_law RL 8 X none 1246 [some (.ref 2000), some (.ref 0), some (.ref 218), some (.int (nI i))] [] h') : jV cL_law RL 8 X none 527 [some (.ref 2000), some (.ref 0), some (.ref 218), some (.int (nI i))] [] h := by
  refine e_al1 dL_law_527 ?_
  refine e_al0 dL_law_528 ?_
  refine e_il3 dL_law_529 ?_
  refine e_iconst (nI 1) dL_law_530 (by decide) ?_
  refine e_iaddN dL_law_531 ?_
  refine e_sld hw dL_law_532 (by omega) (by omega) ?_
  refine e_cv dL_law_533 vL_62 (c_weather hc hg) (by decide) rfl rfl (Nat.le_of_ble_eq_true rfl) jBud0 rfl hc.1 ?_
  rintro _ h1 ⟨rfl, c1, E1⟩
  replace hr := RI.eq E1 hr (fun j q => q)
  refine e_al2 dL_law_536 ?_
  refine e_al0 dL_law_537 ?_
  refine e_il3 dL_law_538 ?_
  refine e_iconst (nI 1) dL_law_539 (by decide) ?_
  refine e_iaddN dL_law_540 ?_
  refine e_sld hw dL_law_541 (by omega) (by omega) ?_
  refine e_cv dL_law_542 vL_65 (r_weather hr hg) (by decide) rfl rfl (Nat.le_of_ble_eq_true rfl) jBud0 rfl hr.1.choose_spec.1 ?_
  rintro _ h2 ⟨rfl, r1, E2⟩
  replace c1 := CI.eq E2 c1 (fun j q => q)
  refine e_ic_eq 1246 dL_law_545 (by decide) (fun _ => ?_) (fun z => absurd rfl z)
  exact KN _ _ c1 r1 (sg_weather hg)
set_option maxRecDepth 100000 in
set_option maxHeartbeats 4000000 in
theorem law_12 {X : jX} {bb L : Nat} {xs : Nat → Int32} (hw : jLw X bb L xs) (hL : L ≤ 384) {i : Nat} (hi : i + 6 ≤ L) {h : jH} {S : jS} (hc : CI h S) (hr : RI h S) (hg : SG S) (KN : ∀ (h' : jH) (S' : jS), CI h' S' → RI h' S' → SG S' → jV cL_law RL 8 X none 1246 [some (.ref 2000), some (.ref 0), some (.ref 218), some (.int (nI i))] [] h') : jV cL_law RL 8 X none 550 [some (.ref 2000), some (.ref 0), some (.ref 218), some (.int (nI i))] [] h := by
  refine e_al1 dL_law_550 ?_
  refine e_cv dL_law_551 vL_66 (c_undo hc hg) (by decide) rfl rfl (Nat.le_of_ble_eq_true rfl) jBud0 rfl hc.1 ?_
  rintro _ h1 ⟨rfl, c1, E1⟩
  replace hr := RI.eq E1 hr (fun j q => q)
  refine e_al2 dL_law_554 ?_
  refine e_cv dL_law_555 vL_69 (r_undo hr hg) (by decide) rfl rfl (Nat.le_of_ble_eq_true rfl) jBud0 rfl hr.1.choose_spec.1 ?_
  rintro _ h2 ⟨rfl, r1, E2⟩
  replace c1 := CI.eq E2 c1 (fun j q => q)
  refine e_ic_eq 1246 dL_law_558 (by decide) (fun _ => ?_) (fun z => absurd rfl z)
  exact KN _ _ c1 r1 (sg_undo hg)
set_option maxRecDepth 100000 in
set_option maxHeartbeats 4000000 in
theorem law_13 {X : jX} {bb L : Nat} {xs : Nat → Int32} (hw : jLw X bb L xs) (hL : L ≤ 384) {i : Nat} (hi : i + 6 ≤ L) {h : jH} {S : jS} (hc : CI h S) (hr : RI h S) (hg : SG S) (KN : ∀ (h' : jH) (S' : jS), CI h' S' → RI h' S' → SG S' → jV cL_law RL 8 X none 1246 [some (.ref 2000), some (.ref 0), some (.ref 218), some (.int (nI i))] [] h') : jV cL_law RL 8 X none 563 [some (.ref 2000), some (.ref 0), some (.ref 218), some (.int (nI i))] [] h := by
  refine e_al1 dL_law_563 ?_
  refine e_al0 dL_law_564 ?_
  refine e_il3 dL_law_565 ?_
  refine e_iconst (nI 1) dL_law_566 (by decide) ?_
  refine e_iaddN dL_law_567 ?_
  refine e_sld hw dL_law_568 (by omega) (by omega) ?_
  refine e_al0 dL_law_569 ?_
  refine e_il3 dL_law_570 ?_
  refine e_iconst (nI 2) dL_law_571 (by decide) ?_
  refine e_iaddN dL_law_572 ?_
  refine e_sld hw dL_law_573 (by omega) (by omega) ?_
  refine e_cv dL_law_574 vL_70 (c_pair hc hg) (by decide) rfl rfl (Nat.le_of_ble_eq_true rfl) jBud0 rfl hc.1 ?_
  rintro _ h1 ⟨rfl, c1, E1⟩
  replace hr := RI.eq E1 hr (fun j q => q)
  refine e_al2 dL_law_577 ?_
  refine e_al0 dL_law_578 ?_
  refine e_il3 dL_law_579 ?_
  refine e_iconst (nI 1) dL_law_580 (by decide) ?_
  refine e_iaddN dL_law_581 ?_
  refine e_sld hw dL_law_582 (by omega) (by omega) ?_
  refine e_al0 dL_law_583 ?_
  refine e_il3 dL_law_584 ?_
  refine e_iconst (nI 2) dL_law_585 (by decide) ?_
  refine e_iaddN dL_law_586 ?_
  refine e_sld hw dL_law_587 (by omega) (by omega) ?_
  refine e_cv dL_law_588 vL_73 (r_pair hr hg) (by decide) rfl rfl (Nat.le_of_ble_eq_true rfl) jBud0 rfl hr.1.choose_spec.1 ?_
  rintro _ h2 ⟨rfl, r1, E2⟩
  replace c1 := CI.eq E2 c1 (fun j q => q)
  refine e_ic_eq 1246 dL_law_591 (by decide) (fun _ => ?_) (fun z => absurd rfl z)
  exact KN _ _ c1 r1 hg
set_option maxRecDepth 100000 in
set_option maxHeartbeats 4000000 in
theorem law_14 {X : jX} {bb L : Nat} {xs : Nat → Int32} (hw : jLw X bb L xs) (hL : L ≤ 384) {i : Nat} (hi : i + 6 ≤ L) {h : jH} {S : jS} (hc : CI h S) (hr : RI h S) (hg : SG S) (KN : ∀ (h' : jH) (S' : jS), CI h' S' → RI h' S' → SG S' → jV cL_law RL 8 X none 1246 [some (.ref 2000), some (.ref 0), some (.ref 218), some (.int (nI i))] [] h') : jV cL_law RL 8 X none 596 [some (.ref 2000), some (.ref 0), some (.ref 218), some (.int (nI i))] [] h := by
  refine e_al1 dL_law_596 ?_
  refine e_al0 dL_law_597 ?_
  refine e_il3 dL_law_598 ?_
  refine e_iconst (nI 1) dL_law_599 (by decide) ?_
  refine e_iaddN dL_law_600 ?_
  refine e_sld hw dL_law_601 (by omega) (by omega) ?_
  refine e_al0 dL_law_602 ?_
  refine e_il3 dL_law_603 ?_
  refine e_iconst (nI 2) dL_law_604 (by decide) ?_
  refine e_iaddN dL_law_605 ?_
  refine e_sld hw dL_law_606 (by omega) (by omega) ?_
  refine e_cv dL_law_607 vL_74 (c_hearth hc hg) (by decide) rfl rfl (Nat.le_of_ble_eq_true rfl) jBud0 rfl hc.1 ?_
  rintro _ h1 ⟨rfl, c1, E1⟩
  replace hr := RI.eq E1 hr (fun j q => q)
  refine e_al2 dL_law_610 ?_
  refine e_al0 dL_law_611 ?_
  refine e_il3 dL_law_612 ?_
  refine e_iconst (nI 1) dL_law_613 (by decide) ?_
  refine e_iaddN dL_law_614 ?_
  refine e_sld hw dL_law_615 (by omega) (by omega) ?_
  refine e_al0 dL_law_616 ?_
  refine e_il3 dL_law_617 ?_
  refine e_iconst (nI 2) dL_law_618 (by decide) ?_
  refine e_iaddN dL_law_619 ?_
  refine e_sld hw dL_law_620 (by omega) (by omega) ?_
  refine e_cv dL_law_621 vL_77 (r_hearth hr hg) (by decide) rfl rfl (Nat.le_of_ble_eq_true rfl) jBud0 rfl hr.1.choose_spec.1 ?_
  rintro _ h2 ⟨rfl, r1, E2⟩
  replace c1 := CI.eq E2 c1 (fun j q => q)
  refine e_ic_eq 1246 dL_law_624 (by decide) (fun _ => ?_) (fun z => absurd rfl z)
  exact KN _ _ c1 r1 hg
set_option maxRecDepth 100000 in
set_option maxHeartbeats 4000000 in
theorem law_15 {X : jX} {bb L : Nat} {xs : Nat → Int32} (hw : jLw X bb L xs) (hL : L ≤ 384) {i : Nat} (hi : i + 6 ≤ L) {h : jH} {S : jS} (hc : CI h S) (hr : RI h S) (hg : SG S) (KN : ∀ (h' : jH) (S' : jS), CI h' S' → RI h' S' → SG S' → jV cL_law RL 8 X none 1246 [some (.ref 2000), some (.ref 0), some (.ref 218), some (.int (nI i))] [] h') : jV cL_law RL 8 X none 629 [some (.ref 2000), some (.ref 0), some (.ref 218), some (.int (nI i))] [] h := by
  refine e_al1 dL_law_629 ?_
  refine e_al0 dL_law_630 ?_
  refine e_il3 dL_law_631 ?_
  refine e_iconst (nI 1) dL_law_632 (by decide) ?_
  refine e_iaddN dL_law_633 ?_
  refine e_sld hw dL_law_634 (by omega) (by omega) ?_
  refine e_al0 dL_law_635 ?_
  refine e_il3 dL_law_636 ?_
  refine e_iconst (nI 2) dL_law_637 (by decide) ?_
  refine e_iaddN dL_law_638 ?_
  refine e_sld hw dL_law_639 (by omega) (by omega) ?_
  refine e_cv dL_law_640 vL_78 (c_breath hc hg) (by decide) rfl rfl (Nat.le_of_ble_eq_true rfl) jBud0 rfl hc.1 ?_
  rintro _ h1 ⟨rfl, c1, E1⟩
  replace hr := RI.eq E1 hr (fun j q => q)
  refine e_al2 dL_law_643 ?_
  refine e_al0 dL_law_644 ?_
  refine e_il3 dL_law_645 ?_
  refine e_iconst (nI 1) dL_law_646 (by decide) ?_
  refine e_iaddN dL_law_647 ?_
  refine e_sld hw dL_law_648 (by omega) (by omega) ?_
  refine e_al0 dL_law_649 ?_
  refine e_il3 dL_law_650 ?_
  refine e_iconst (nI 2) dL_law_651 (by decide) ?_
  refine e_iaddN dL_law_652 ?_
  refine e_sld hw dL_law_653 (by omega) (by omega) ?_
  refine e_cv dL_law_654 vL_81 (r_breath hr hg) (by decide) rfl rfl (Nat.le_of_ble_eq_true rfl) jBud0 rfl hr.1.choose_spec.1 ?_
  rintro _ h2 ⟨rfl, r1, E2⟩
  replace c1 := CI.eq E2 c1 (fun j q => q)
  refine e_ic_eq 1246 dL_law_657 (by decide) (fun _ => ?_) (fun z => absurd rfl z)
  exact KN _ _ c1 r1 hg
set_option maxRecDepth 100000 in
set_option maxHeartbeats 4000000 in
theorem law_16 {X : jX} {bb L : Nat} {xs : Nat → Int32} (hw : jLw X bb L xs) (hL : L ≤ 384) {i : Nat} (hi : i + 6 ≤ L) {h : jH} {S : jS} (hc : CI h S) (hr : RI h S) (hg : SG S) (KN : ∀ (h' : jH) (S' : jS), CI h' S' → RI h' S' → SG S' → jV cL_law RL 8 X none 1246 [some (.ref 2000), some (.ref 0), some (.ref 218), some (.int (nI i))] [] h') : jV cL_law RL 8 X none 662 [some (.ref 2000), some (.ref 0), some (.ref 218), some (.int (nI i))] [] h := by
  refine e_al1 dL_law_662 ?_
  refine e_al0 dL_law_663 ?_
  refine e_il3 dL_law_664 ?_
  refine e_iconst (nI 1) dL_law_665 (by decide) ?_
  refine e_iaddN dL_law_666 ?_
  refine e_sld hw dL_law_667 (by omega) (by omega) ?_
  refine e_al0 dL_law_668 ?_
  refine e_il3 dL_law_669 ?_
  refine e_iconst (nI 2) dL_law_670 (by decide) ?_
  refine e_iaddN dL_law_671 ?_
  refine e_sld hw dL_law_672 (by omega) (by omega) ?_
  refine e_cv dL_law_673 vL_82 (c_fire hc hg) (by decide) rfl rfl (Nat.le_of_ble_eq_true rfl) jBud0 rfl hc.1 ?_
  rintro _ h1 ⟨rfl, c1, E1⟩
  replace hr := RI.eq E1 hr (fun j q => q)
  refine e_al2 dL_law_676 ?_
  refine e_al0 dL_law_677 ?_
  refine e_il3 dL_law_678 ?_
  refine e_iconst (nI 1) dL_law_679 (by decide) ?_
  refine e_iaddN dL_law_680 ?_
  refine e_sld hw dL_law_681 (by omega) (by omega) ?_
  refine e_al0 dL_law_682 ?_
  refine e_il3 dL_law_683 ?_
  refine e_iconst (nI 2) dL_law_684 (by decide) ?_
  refine e_iaddN dL_law_685 ?_
  refine e_sld hw dL_law_686 (by omega) (by omega) ?_
  refine e_cv dL_law_687 vL_85 (r_fire hr hg) (by decide) rfl rfl (Nat.le_of_ble_eq_true rfl) jBud0 rfl hr.1.choose_spec.1 ?_
  rintro _ h2 ⟨rfl, r1, E2⟩
  replace c1 := CI.eq E2 c1 (fun j q => q)
  refine e_ic_eq 1246 dL_law_690 (by decide) (fun _ => ?_) (fun z => absurd rfl z)
  exact KN _ _ c1 r1 hg
set_option maxRecDepth 100000 in
set_option maxHeartbeats 4000000 in
theorem law_17 {X : jX} {bb L : Nat} {xs : Nat → Int32} (hw : jLw X bb L xs) (hL : L ≤ 384) {i : Nat} (hi : i + 6 ≤ L) {h : jH} {S : jS} (hc : CI h S) (hr : RI h S) (hg : SG S) (KN : ∀ (h' : jH) (S' : jS), CI h' S' → RI h' S' → SG S' → jV cL_law RL 8 X none 1246 [some (.ref 2000), some (.ref 0), some (.ref 218), some (.int (nI i))] [] h') : jV cL_law RL 8 X none 695 [some (.ref 2000), some (.ref 0), some (.ref 218), some (.int (nI i))] [] h := by
  refine e_al1 dL_law_695 ?_
  refine e_al0 dL_law_696 ?_
  refine e_il3 dL_law_697 ?_
  refine e_iconst (nI 1) dL_law_698 (by decide) ?_
  refine e_iaddN dL_law_699 ?_
  refine e_sld hw dL_law_700 (by omega) (by omega) ?_
  refine e_cv dL_law_701 vL_86 (c_lit hc hg) (by decide) rfl rfl (Nat.le_of_ble_eq_true rfl) jBud0 rfl hc.1 ?_
  rintro _ h1 ⟨rfl, c1, E1⟩
  replace hr := RI.eq E1 hr (fun j q => q)
  refine e_al2 dL_law_704 ?_
  refine e_al0 dL_law_705 ?_
  refine e_il3 dL_law_706 ?_
  refine e_iconst (nI 1) dL_law_707 (by decide) ?_
  refine e_iaddN dL_law_708 ?_
  refine e_sld hw dL_law_709 (by omega) (by omega) ?_
  refine e_cv dL_law_710 vL_89 (r_lit hr hg) (by decide) rfl rfl (Nat.le_of_ble_eq_true rfl) jBud0 rfl hr.1.choose_spec.1 ?_
  rintro _ h2 ⟨rfl, r1, E2⟩
  replace c1 := CI.eq E2 c1 (fun j q => q)
  refine e_ic_eq 1246 dL_law_713 (by decide) (fun _ => ?_) (fun z => absurd rfl z)
  exact KN _ _ c1 r1 hg
set_option maxRecDepth 100000 in
set_option maxHeartbeats 4000000 in
theorem law_18 {X : jX} {bb L : Nat} {xs : Nat → Int32} (hw : jLw X bb L xs) (hL : L ≤ 384) {i : Nat} (hi : i + 6 ≤ L) {h : jH} {S : jS} (hc : CI h S) (hr : RI h S) (hg : SG S) (KN : ∀ (h' : jH) (S' : jS), CI h' S' → RI h' S' → SG S' → jV cL_law RL 8 X none 1246 [some (.ref 2000), some (.ref 0), some (.ref 218), some (.int (nI i))] [] h') : jV cL_law RL 8 X none 718 [some (.ref 2000), some (.ref 0), some (.ref 218), some (.int (nI i))] [] h := by
  refine e_al1 dL_law_718 ?_
  refine e_al0 dL_law_719 ?_
  refine e_il3 dL_law_720 ?_
  refine e_iconst (nI 1) dL_law_721 (by decide) ?_
  refine e_iaddN dL_law_722 ?_
  refine e_sld hw dL_law_723 (by omega) (by omega) ?_
  refine e_cv dL_law_724 vL_90 (c_empty hc hg) (by decide) rfl rfl (Nat.le_of_ble_eq_true rfl) jBud0 rfl hc.1 ?_
  rintro _ h1 ⟨rfl, c1, E1⟩
  replace hr := RI.eq E1 hr (fun j q => q)
  refine e_al2 dL_law_727 ?_
  refine e_al0 dL_law_728 ?_
  refine e_il3 dL_law_729 ?_
  refine e_iconst (nI 1) dL_law_730 (by decide) ?_
  refine e_iaddN dL_law_731 ?_
  refine e_sld hw dL_law_732 (by omega) (by omega) ?_
  refine e_cv dL_law_733 vL_93 (r_empty hr hg) (by decide) rfl rfl (Nat.le_of_ble_eq_true rfl) jBud0 rfl hr.1.choose_spec.1 ?_
  rintro _ h2 ⟨rfl, r1, E2⟩
  replace c1 := CI.eq E2 c1 (fun j q => q)
  refine e_ic_eq 1246 dL_law_736 (by decide) (fun _ => ?_) (fun z => absurd rfl z)
  exact KN _ _ c1 r1 hg
set_option maxRecDepth 100000 in
set_option maxHeartbeats 4000000 in
theorem law_19 {X : jX} {bb L : Nat} {xs : Nat → Int32} (hw : jLw X bb L xs) (hL : L ≤ 384) {i : Nat} (hi : i + 6 ≤ L) {h : jH} {S : jS} (hc : CI h S) (hr : RI h S) (hg : SG S) (KN : ∀ (h' : jH) (S' : jS), CI h' S' → RI h' S' → SG S' → jV cL_law RL 8 X none 1246 [some (.ref 2000), some (.ref 0), some (.ref 218), some (.int (nI i))] [] h') : jV cL_law RL 8 X none 741 [some (.ref 2000), some (.ref 0), some (.ref 218), some (.int (nI i))] [] h := by
  refine e_al1 dL_law_741 ?_
  refine e_al0 dL_law_742 ?_
  refine e_il3 dL_law_743 ?_
  refine e_iconst (nI 1) dL_law_744 (by decide) ?_
  refine e_iaddN dL_law_745 ?_
  refine e_sld hw dL_law_746 (by omega) (by omega) ?_
  refine e_cv dL_law_747 vL_94 (c_cold hc hg) (by decide) rfl rfl (Nat.le_of_ble_eq_true rfl) jBud0 rfl hc.1 ?_
  rintro _ h1 ⟨rfl, c1, E1⟩
  replace hr := RI.eq E1 hr (fun j q => q)
  refine e_al2 dL_law_750 ?_
  refine e_al0 dL_law_751 ?_
  refine e_il3 dL_law_752 ?_
  refine e_iconst (nI 1) dL_law_753 (by decide) ?_
  refine e_iaddN dL_law_754 ?_
  refine e_sld hw dL_law_755 (by omega) (by omega) ?_
  refine e_cv dL_law_756 vL_97 (r_cold hr hg) (by decide) rfl rfl (Nat.le_of_ble_eq_true rfl) jBud0 rfl hr.1.choose_spec.1 ?_
  rintro _ h2 ⟨rfl, r1, E2⟩
  replace c1 := CI.eq E2 c1 (fun j q => q)
  refine e_ic_eq 1246 dL_law_759 (by decide) (fun _ => ?_) (fun z => absurd rfl z)
  exact KN _ _ c1 r1 hg
set_option maxRecDepth 100000 in
set_option maxHeartbeats 4000000 in
theorem law_20 {X : jX} {bb L : Nat} {xs : Nat → Int32} (hw : jLw X bb L xs) (hL : L ≤ 384) {i : Nat} (hi : i + 6 ≤ L) {h : jH} {S : jS} (hc : CI h S) (hr : RI h S) (hg : SG S) (KN : ∀ (h' : jH) (S' : jS), CI h' S' → RI h' S' → SG S' → jV cL_law RL 8 X none 1246 [some (.ref 2000), some (.ref 0), some (.ref 218), some (.int (nI i))] [] h') : jV cL_law RL 8 X none 764 [some (.ref 2000), some (.ref 0), some (.ref 218), some (.int (nI i))] [] h := by
  refine e_al1 dL_law_764 ?_
  refine e_al0 dL_law_765 ?_
  refine e_il3 dL_law_766 ?_
  refine e_iconst (nI 1) dL_law_767 (by decide) ?_
  refine e_iaddN dL_law_768 ?_
  refine e_sld hw dL_law_769 (by omega) (by omega) ?_
  refine e_al0 dL_law_770 ?_
  refine e_il3 dL_law_771 ?_
  refine e_iconst (nI 2) dL_law_772 (by decide) ?_
  refine e_iaddN dL_law_773 ?_
  refine e_sld hw dL_law_774 (by omega) (by omega) ?_
  refine e_al0 dL_law_775 ?_
  refine e_il3 dL_law_776 ?_
  refine e_iconst (nI 3) dL_law_777 (by decide) ?_
  refine e_iaddN dL_law_778 ?_
  refine e_sld hw dL_law_779 (by omega) (by omega) ?_
  refine e_cv dL_law_780 vL_98 (c_best hc hg) (by decide) rfl rfl (Nat.le_of_ble_eq_true rfl) jBud0 rfl hc.1 ?_
  rintro _ h1 ⟨rfl, c1, E1⟩
  replace hr := RI.eq E1 hr (fun j q => q)
  refine e_al2 dL_law_783 ?_
  refine e_al0 dL_law_784 ?_
  refine e_il3 dL_law_785 ?_
  refine e_iconst (nI 1) dL_law_786 (by decide) ?_
  refine e_iaddN dL_law_787 ?_
  refine e_sld hw dL_law_788 (by omega) (by omega) ?_
  refine e_al0 dL_law_789 ?_
  refine e_il3 dL_law_790 ?_
  refine e_iconst (nI 2) dL_law_791 (by decide) ?_
  refine e_iaddN dL_law_792 ?_
  refine e_sld hw dL_law_793 (by omega) (by omega) ?_
  refine e_al0 dL_law_794 ?_
  refine e_il3 dL_law_795 ?_
  refine e_iconst (nI 3) dL_law_796 (by decide) ?_
  refine e_iaddN dL_law_797 ?_
  refine e_sld hw dL_law_798 (by omega) (by omega) ?_
  refine e_cv dL_law_799 vL_101 (r_best hr hg) (by decide) rfl rfl (Nat.le_of_ble_eq_true rfl) jBud0 rfl hr.1.choose_spec.1 ?_
  rintro _ h2 ⟨rfl, r1, E2⟩
  replace c1 := CI.eq E2 c1 (fun j q => q)
  refine e_ic_eq 1246 dL_law_802 (by decide) (fun _ => ?_) (fun z => absurd rfl z)
  exact KN _ _ c1 r1 hg
set_option maxRecDepth 100000 in
set_option maxHeartbeats 4000000 in
theorem law_21 {X : jX} {bb L : Nat} {xs : Nat → Int32} (hw : jLw X bb L xs) (hL : L ≤ 384) {i : Nat} (hi : i + 6 ≤ L) {h : jH} {S : jS} (hc : CI h S) (hr : RI h S) (hg : SG S) (KN : ∀ (h' : jH) (S' : jS), CI h' S' → RI h' S' → SG S' → jV cL_law RL 8 X none 1246 [some (.ref 2000), some (.ref 0), some (.ref 218), some (.int (nI i))] [] h') : jV cL_law RL 8 X none 807 [some (.ref 2000), some (.ref 0), some (.ref 218), some (.int (nI i))] [] h := by
  refine e_al1 dL_law_807 ?_
  refine e_al0 dL_law_808 ?_
  refine e_il3 dL_law_809 ?_
  refine e_iconst (nI 1) dL_law_810 (by decide) ?_
  refine e_iaddN dL_law_811 ?_
  refine e_sld hw dL_law_812 (by omega) (by omega) ?_
  refine e_al0 dL_law_813 ?_
  refine e_il3 dL_law_814 ?_
  refine e_iconst (nI 2) dL_law_815 (by decide) ?_
  refine e_iaddN dL_law_816 ?_
  refine e_sld hw dL_law_817 (by omega) (by omega) ?_
  refine e_cv dL_law_818 vL_102 (c_draw hc hg) (by decide) rfl rfl (Nat.le_of_ble_eq_true rfl) jBud0 rfl hc.1 ?_
  rintro _ h1 ⟨rfl, c1, E1⟩
  replace hr := RI.eq E1 hr (fun j q => q)
  refine e_al2 dL_law_821 ?_
  refine e_al0 dL_law_822 ?_
  refine e_il3 dL_law_823 ?_
  refine e_iconst (nI 1) dL_law_824 (by decide) ?_
  refine e_iaddN dL_law_825 ?_
  refine e_sld hw dL_law_826 (by omega) (by omega) ?_
  refine e_al0 dL_law_827 ?_
  refine e_il3 dL_law_828 ?_
  refine e_iconst (nI 2) dL_law_829 (by decide) ?_
  refine e_iaddN dL_law_830 ?_
  refine e_sld hw dL_law_831 (by omega) (by omega) ?_
  refine e_cv dL_law_832 vL_105 (r_draw hr hg) (by decide) rfl rfl (Nat.le_of_ble_eq_true rfl) jBud0 rfl hr.1.choose_spec.1 ?_
  rintro _ h2 ⟨rfl, r1, E2⟩
  replace c1 := CI.eq E2 c1 (fun j q => q)
  refine e_ic_eq 1246 dL_law_835 (by decide) (fun _ => ?_) (fun z => absurd rfl z)
  exact KN _ _ c1 r1 hg
set_option maxRecDepth 100000 in
set_option maxHeartbeats 4000000 in
theorem law_22 {X : jX} {bb L : Nat} {xs : Nat → Int32} (hw : jLw X bb L xs) (hL : L ≤ 384) {i : Nat} (hi : i + 6 ≤ L) {h : jH} {S : jS} (hc : CI h S) (hr : RI h S) (hg : SG S) (KN : ∀ (h' : jH) (S' : jS), CI h' S' → RI h' S' → SG S' → jV cL_law RL 8 X none 1246 [some (.ref 2000), some (.ref 0), some (.ref 218), some (.int (nI i))] [] h') : jV cL_law RL 8 X none 840 [some (.ref 2000), some (.ref 0), some (.ref 218), some (.int (nI i))] [] h := by
  refine e_al1 dL_law_840 ?_
  refine e_al0 dL_law_841 ?_
  refine e_il3 dL_law_842 ?_
  refine e_iconst (nI 1) dL_law_843 (by decide) ?_
  refine e_iaddN dL_law_844 ?_
  refine e_sld hw dL_law_845 (by omega) (by omega) ?_
  refine e_al0 dL_law_846 ?_
  refine e_il3 dL_law_847 ?_
  refine e_iconst (nI 2) dL_law_848 (by decide) ?_
  refine e_iaddN dL_law_849 ?_
  refine e_sld hw dL_law_850 (by omega) (by omega) ?_
  refine e_al0 dL_law_851 ?_
  refine e_il3 dL_law_852 ?_
  refine e_iconst (nI 3) dL_law_853 (by decide) ?_
  refine e_iaddN dL_law_854 ?_
  refine e_sld hw dL_law_855 (by omega) (by omega) ?_
  refine e_al0 dL_law_856 ?_
  refine e_il3 dL_law_857 ?_
  refine e_iconst (nI 4) dL_law_858 (by decide) ?_
  refine e_iaddN dL_law_859 ?_
  refine e_sld hw dL_law_860 (by omega) (by omega) ?_
  refine e_cv dL_law_861 vL_106 (c_rests hc hg) (by decide) rfl rfl (Nat.le_of_ble_eq_true rfl) jBud0 rfl hc.1 ?_
  rintro _ h1 ⟨rfl, c1, E1⟩
  replace hr := RI.eq E1 hr (fun j q => q)
  refine e_al2 dL_law_864 ?_
  refine e_al0 dL_law_865 ?_
  refine e_il3 dL_law_866 ?_
  refine e_iconst (nI 1) dL_law_867 (by decide) ?_
  refine e_iaddN dL_law_868 ?_
  refine e_sld hw dL_law_869 (by omega) (by omega) ?_
  refine e_al0 dL_law_870 ?_
  refine e_il3 dL_law_871 ?_
  refine e_iconst (nI 2) dL_law_872 (by decide) ?_
  refine e_iaddN dL_law_873 ?_
  refine e_sld hw dL_law_874 (by omega) (by omega) ?_
  refine e_al0 dL_law_875 ?_
  refine e_il3 dL_law_876 ?_
  refine e_iconst (nI 3) dL_law_877 (by decide) ?_
  refine e_iaddN dL_law_878 ?_
  refine e_sld hw dL_law_879 (by omega) (by omega) ?_
  refine e_al0 dL_law_880 ?_
  refine e_il3 dL_law_881 ?_
  refine e_iconst (nI 4) dL_law_882 (by decide) ?_
  refine e_iaddN dL_law_883 ?_
  refine e_sld hw dL_law_884 (by omega) (by omega) ?_
  refine e_cv dL_law_885 vL_110 (r_rests hr hg) (by decide) rfl rfl (Nat.le_of_ble_eq_true rfl) jBud0 rfl hr.1.choose_spec.1 ?_
  rintro _ h2 ⟨rfl, r1, E2⟩
  replace c1 := CI.eq E2 c1 (fun j q => q)
  refine e_ic_eq 1246 dL_law_888 (by decide) (fun _ => ?_) (fun z => absurd rfl z)
  exact KN _ _ c1 r1 hg
set_option maxRecDepth 100000 in
set_option maxHeartbeats 4000000 in
theorem law_23 {X : jX} {bb L : Nat} {xs : Nat → Int32} (hw : jLw X bb L xs) (hL : L ≤ 384) {i : Nat} (hi : i + 6 ≤ L) {h : jH} {S : jS} (hc : CI h S) (hr : RI h S) (hg : SG S) (KN : ∀ (h' : jH) (S' : jS), CI h' S' → RI h' S' → SG S' → jV cL_law RL 8 X none 1246 [some (.ref 2000), some (.ref 0), some (.ref 218), some (.int (nI i))] [] h') : jV cL_law RL 8 X none 893 [some (.ref 2000), some (.ref 0), some (.ref 218), some (.int (nI i))] [] h := by
  refine e_al1 dL_law_893 ?_
  refine e_al0 dL_law_894 ?_
  refine e_il3 dL_law_895 ?_
  refine e_iconst (nI 1) dL_law_896 (by decide) ?_
  refine e_iaddN dL_law_897 ?_
  refine e_sld hw dL_law_898 (by omega) (by omega) ?_
  refine e_al0 dL_law_899 ?_
  refine e_il3 dL_law_900 ?_
  refine e_iconst (nI 2) dL_law_901 (by decide) ?_
  refine e_iaddN dL_law_902 ?_
  refine e_sld hw dL_law_903 (by omega) (by omega) ?_
  refine e_al0 dL_law_904 ?_
  refine e_il3 dL_law_905 ?_
  refine e_iconst (nI 3) dL_law_906 (by decide) ?_
  refine e_iaddN dL_law_907 ?_
  refine e_sld hw dL_law_908 (by omega) (by omega) ?_
  refine e_al0 dL_law_909 ?_
  refine e_il3 dL_law_910 ?_
  refine e_iconst (nI 4) dL_law_911 (by decide) ?_
  refine e_iaddN dL_law_912 ?_
  refine e_sld hw dL_law_913 (by omega) (by omega) ?_
  refine e_al0 dL_law_914 ?_
  refine e_il3 dL_law_915 ?_
  refine e_iconst (nI 5) dL_law_916 (by decide) ?_
  refine e_iaddN dL_law_917 ?_
  refine e_sld hw dL_law_918 (by omega) (by omega) ?_
  refine e_cv dL_law_919 vL_111 (c_fits hc hg) (by decide) rfl rfl (Nat.le_of_ble_eq_true rfl) jBud0 rfl hc.1 ?_
  rintro _ h1 ⟨rfl, c1, E1⟩
  replace hr := RI.eq E1 hr (fun j q => q)
  refine e_al2 dL_law_922 ?_
  refine e_al0 dL_law_923 ?_
  refine e_il3 dL_law_924 ?_
  refine e_iconst (nI 1) dL_law_925 (by decide) ?_
  refine e_iaddN dL_law_926 ?_
  refine e_sld hw dL_law_927 (by omega) (by omega) ?_
  refine e_al0 dL_law_928 ?_
  refine e_il3 dL_law_929 ?_
  refine e_iconst (nI 2) dL_law_930 (by decide) ?_
  refine e_iaddN dL_law_931 ?_
  refine e_sld hw dL_law_932 (by omega) (by omega) ?_
  refine e_al0 dL_law_933 ?_
  refine e_il3 dL_law_934 ?_
  refine e_iconst (nI 3) dL_law_935 (by decide) ?_
  refine e_iaddN dL_law_936 ?_
  refine e_sld hw dL_law_937 (by omega) (by omega) ?_
  refine e_al0 dL_law_938 ?_
  refine e_il3 dL_law_939 ?_
  refine e_iconst (nI 4) dL_law_940 (by decide) ?_
  refine e_iaddN dL_law_941 ?_
  refine e_sld hw dL_law_942 (by omega) (by omega) ?_
  refine e_al0 dL_law_943 ?_
  refine e_il3 dL_law_944 ?_
  refine e_iconst (nI 5) dL_law_945 (by decide) ?_
  refine e_iaddN dL_law_946 ?_
  refine e_sld hw dL_law_947 (by omega) (by omega) ?_
  refine e_cv dL_law_948 vL_114 (r_fits hr hg) (by decide) rfl rfl (Nat.le_of_ble_eq_true rfl) jBud0 rfl hr.1.choose_spec.1 ?_
  rintro _ h2 ⟨rfl, r1, E2⟩
  replace c1 := CI.eq E2 c1 (fun j q => q)
  refine e_ic_eq 1246 dL_law_951 (by decide) (fun _ => ?_) (fun z => absurd rfl z)
  exact KN _ _ c1 r1 (sg_fits hg)
set_option maxRecDepth 100000 in
set_option maxHeartbeats 4000000 in
theorem law_24 {X : jX} {bb L : Nat} {xs : Nat → Int32} (hw : jLw X bb L xs) (hL : L ≤ 384) {i : Nat} (hi : i + 6 ≤ L) {h : jH} {S : jS} (hc : CI h S) (hr : RI h S) (hg : SG S) (KN : ∀ (h' : jH) (S' : jS), CI h' S' → RI h' S' → SG S' → jV cL_law RL 8 X none 1246 [some (.ref 2000), some (.ref 0), some (.ref 218), some (.int (nI i))] [] h') : jV cL_law RL 8 X none 956 [some (.ref 2000), some (.ref 0), some (.ref 218), some (.int (nI i))] [] h := by
  refine e_al1 dL_law_956 ?_
  refine e_al0 dL_law_957 ?_
  refine e_il3 dL_law_958 ?_
  refine e_iconst (nI 1) dL_law_959 (by decide) ?_
  refine e_iaddN dL_law_960 ?_
  refine e_sld hw dL_law_961 (by omega) (by omega) ?_
  refine e_al0 dL_law_962 ?_
  refine e_il3 dL_law_963 ?_
  refine e_iconst (nI 2) dL_law_964 (by decide) ?_
  refine e_iaddN dL_law_965 ?_
  refine e_sld hw dL_law_966 (by omega) (by omega) ?_
  refine e_al0 dL_law_967 ?_
  refine e_il3 dL_law_968 ?_
  refine e_iconst (nI 3) dL_law_969 (by decide) ?_
  refine e_iaddN dL_law_970 ?_
  refine e_sld hw dL_law_971 (by omega) (by omega) ?_
  refine e_al0 dL_law_972 ?_
  refine e_il3 dL_law_973 ?_
  refine e_iconst (nI 4) dL_law_974 (by decide) ?_
  refine e_iaddN dL_law_975 ?_
  refine e_sld hw dL_law_976 (by omega) (by omega) ?_
  refine e_cv dL_law_977 vL_115 (c_chance hc hg) (by decide) rfl rfl (Nat.le_of_ble_eq_true rfl) jBud0 rfl hc.1 ?_
  rintro _ h1 ⟨rfl, c1, E1⟩
  replace hr := RI.eq E1 hr (fun j q => q)
  refine e_al2 dL_law_980 ?_
  refine e_al0 dL_law_981 ?_
  refine e_il3 dL_law_982 ?_
  refine e_iconst (nI 1) dL_law_983 (by decide) ?_
  refine e_iaddN dL_law_984 ?_
  refine e_sld hw dL_law_985 (by omega) (by omega) ?_
  refine e_al0 dL_law_986 ?_
  refine e_il3 dL_law_987 ?_
  refine e_iconst (nI 2) dL_law_988 (by decide) ?_
  refine e_iaddN dL_law_989 ?_
  refine e_sld hw dL_law_990 (by omega) (by omega) ?_
  refine e_al0 dL_law_991 ?_
  refine e_il3 dL_law_992 ?_
  refine e_iconst (nI 3) dL_law_993 (by decide) ?_
  refine e_iaddN dL_law_994 ?_
  refine e_sld hw dL_law_995 (by omega) (by omega) ?_
  refine e_al0 dL_law_996 ?_
  refine e_il3 dL_law_997 ?_
  refine e_iconst (nI 4) dL_law_998 (by decide) ?_
  refine e_iaddN dL_law_999 ?_
  refine e_sld hw dL_law_1000 (by omega) (by omega) ?_
  refine e_cv dL_law_1001 vL_118 (r_chance hr hg) (by decide) rfl rfl (Nat.le_of_ble_eq_true rfl) jBud0 rfl hr.1.choose_spec.1 ?_
  rintro _ h2 ⟨rfl, r1, E2⟩
  replace c1 := CI.eq E2 c1 (fun j q => q)
  refine e_ic_eq 1246 dL_law_1004 (by decide) (fun _ => ?_) (fun z => absurd rfl z)
  exact KN _ _ c1 r1 hg
set_option maxRecDepth 100000 in
set_option maxHeartbeats 4000000 in
theorem law_25 {X : jX} {bb L : Nat} {xs : Nat → Int32} (hw : jLw X bb L xs) (hL : L ≤ 384) {i : Nat} (hi : i + 6 ≤ L) {h : jH} {S : jS} (hc : CI h S) (hr : RI h S) (hg : SG S) (KN : ∀ (h' : jH) (S' : jS), CI h' S' → RI h' S' → SG S' → jV cL_law RL 8 X none 1246 [some (.ref 2000), some (.ref 0), some (.ref 218), some (.int (nI i))] [] h') : jV cL_law RL 8 X none 1009 [some (.ref 2000), some (.ref 0), some (.ref 218), some (.int (nI i))] [] h := by
  refine e_al1 dL_law_1009 ?_
  refine e_al0 dL_law_1010 ?_
  refine e_il3 dL_law_1011 ?_
  refine e_iconst (nI 1) dL_law_1012 (by decide) ?_
  refine e_iaddN dL_law_1013 ?_
  refine e_sld hw dL_law_1014 (by omega) (by omega) ?_
  refine e_al0 dL_law_1015 ?_
  refine e_il3 dL_law_1016 ?_
  refine e_iconst (nI 2) dL_law_1017 (by decide) ?_
  refine e_iaddN dL_law_1018 ?_
  refine e_sld hw dL_law_1019 (by omega) (by omega) ?_
  refine e_al0 dL_law_1020 ?_
  refine e_il3 dL_law_1021 ?_
  refine e_iconst (nI 3) dL_law_1022 (by decide) ?_
  refine e_iaddN dL_law_1023 ?_
  refine e_sld hw dL_law_1024 (by omega) (by omega) ?_
  refine e_cv dL_law_1025 vL_119 (c_drawn hc hg) (by decide) rfl rfl (Nat.le_of_ble_eq_true rfl) jBud0 rfl hc.1 ?_
  rintro _ h1 ⟨rfl, c1, E1⟩
  replace hr := RI.eq E1 hr (fun j q => q)
  refine e_al2 dL_law_1028 ?_
  refine e_al0 dL_law_1029 ?_
  refine e_il3 dL_law_1030 ?_
  refine e_iconst (nI 1) dL_law_1031 (by decide) ?_
  refine e_iaddN dL_law_1032 ?_
  refine e_sld hw dL_law_1033 (by omega) (by omega) ?_
  refine e_al0 dL_law_1034 ?_
  refine e_il3 dL_law_1035 ?_
  refine e_iconst (nI 2) dL_law_1036 (by decide) ?_
  refine e_iaddN dL_law_1037 ?_
  refine e_sld hw dL_law_1038 (by omega) (by omega) ?_
  refine e_al0 dL_law_1039 ?_
  refine e_il3 dL_law_1040 ?_
  refine e_iconst (nI 3) dL_law_1041 (by decide) ?_
  refine e_iaddN dL_law_1042 ?_
  refine e_sld hw dL_law_1043 (by omega) (by omega) ?_
  refine e_cv dL_law_1044 vL_122 (r_drawn hr hg) (by decide) rfl rfl (Nat.le_of_ble_eq_true rfl) jBud0 rfl hr.1.choose_spec.1 ?_
  rintro _ h2 ⟨rfl, r1, E2⟩
  replace c1 := CI.eq E2 c1 (fun j q => q)
  refine e_ic_eq 1246 dL_law_1047 (by decide) (fun _ => ?_) (fun z => absurd rfl z)
  exact KN _ _ c1 r1 hg
set_option maxRecDepth 100000 in
set_option maxHeartbeats 4000000 in
theorem law_26 {X : jX} {bb L : Nat} {xs : Nat → Int32} (hw : jLw X bb L xs) (hL : L ≤ 384) {i : Nat} (hi : i + 6 ≤ L) {h : jH} {S : jS} (hc : CI h S) (hr : RI h S) (hg : SG S) (KN : ∀ (h' : jH) (S' : jS), CI h' S' → RI h' S' → SG S' → jV cL_law RL 8 X none 1246 [some (.ref 2000), some (.ref 0), some (.ref 218), some (.int (nI i))] [] h') : jV cL_law RL 8 X none 1052 [some (.ref 2000), some (.ref 0), some (.ref 218), some (.int (nI i))] [] h := by
  refine e_al1 dL_law_1052 ?_
  refine e_al0 dL_law_1053 ?_
  refine e_il3 dL_law_1054 ?_
  refine e_iconst (nI 1) dL_law_1055 (by decide) ?_
  refine e_iaddN dL_law_1056 ?_
  refine e_sld hw dL_law_1057 (by omega) (by omega) ?_
  refine e_cv dL_law_1058 vL_123 (c_image hc hg) (by decide) rfl rfl (Nat.le_of_ble_eq_true rfl) jBud0 rfl hc.1 ?_
  rintro _ h1 ⟨rfl, c1, E1⟩
  replace hr := RI.eq E1 hr (fun j q => q)
  refine e_al2 dL_law_1061 ?_
  refine e_al0 dL_law_1062 ?_
  refine e_il3 dL_law_1063 ?_
  refine e_iconst (nI 1) dL_law_1064 (by decide) ?_
  refine e_iaddN dL_law_1065 ?_
  refine e_sld hw dL_law_1066 (by omega) (by omega) ?_
  refine e_cv dL_law_1067 vL_126 (r_image hr hg) (by decide) rfl rfl (Nat.le_of_ble_eq_true rfl) jBud0 rfl hr.1.choose_spec.1 ?_
  rintro _ h2 ⟨rfl, r1, E2⟩
  replace c1 := CI.eq E2 c1 (fun j q => q)
  refine e_ic_eq 1246 dL_law_1070 (by decide) (fun _ => ?_) (fun z => absurd rfl z)
  exact KN _ _ c1 r1 (sg_image hg)
set_option maxRecDepth 100000 in
set_option maxHeartbeats 4000000 in
theorem law_27 {X : jX} {bb L : Nat} {xs : Nat → Int32} (hw : jLw X bb L xs) (hL : L ≤ 384) {i : Nat} (hi : i + 6 ≤ L) {h : jH} {S : jS} (hc : CI h S) (hr : RI h S) (hg : SG S) (KN : ∀ (h' : jH) (S' : jS), CI h' S' → RI h' S' → SG S' → jV cL_law RL 8 X none 1246 [some (.ref 2000), some (.ref 0), some (.ref 218), some (.int (nI i))] [] h') : jV cL_law RL 8 X none 1075 [some (.ref 2000), some (.ref 0), some (.ref 218), some (.int (nI i))] [] h := by
  refine e_al1 dL_law_1075 ?_
  refine e_al0 dL_law_1076 ?_
  refine e_il3 dL_law_1077 ?_
  refine e_iconst (nI 1) dL_law_1078 (by decide) ?_
  refine e_iaddN dL_law_1079 ?_
  refine e_sld hw dL_law_1080 (by omega) (by omega) ?_
  refine e_cv dL_law_1081 vL_127 (c_restore hc hg) (by decide) rfl rfl (Nat.le_of_ble_eq_true rfl) jBud0 rfl hc.1 ?_
  rintro _ h1 ⟨rfl, c1, E1⟩
  replace hr := RI.eq E1 hr (fun j q => q)
  refine e_al2 dL_law_1084 ?_
  refine e_al0 dL_law_1085 ?_
  refine e_il3 dL_law_1086 ?_
  refine e_iconst (nI 1) dL_law_1087 (by decide) ?_
  refine e_iaddN dL_law_1088 ?_
  refine e_sld hw dL_law_1089 (by omega) (by omega) ?_
  refine e_cv dL_law_1090 vL_130 (r_restore hr hg) (by decide) rfl rfl (Nat.le_of_ble_eq_true rfl) jBud0 rfl hr.1.choose_spec.1 ?_
  rintro _ h2 ⟨rfl, r1, E2⟩
  replace c1 := CI.eq E2 c1 (fun j q => q)
  refine e_ic_eq 1246 dL_law_1093 (by decide) (fun _ => ?_) (fun z => absurd rfl z)
  exact KN _ _ c1 r1 (sg_restore hg)
set_option maxRecDepth 100000 in
set_option maxHeartbeats 4000000 in
theorem law_28 {X : jX} {bb L : Nat} {xs : Nat → Int32} (hw : jLw X bb L xs) (hL : L ≤ 384) {i : Nat} (hi : i + 6 ≤ L) {h : jH} {S : jS} (hc : CI h S) (hr : RI h S) (hg : SG S) (KN : ∀ (h' : jH) (S' : jS), CI h' S' → RI h' S' → SG S' → jV cL_law RL 8 X none 1246 [some (.ref 2000), some (.ref 0), some (.ref 218), some (.int (nI i))] [] h') : jV cL_law RL 8 X none 1098 [some (.ref 2000), some (.ref 0), some (.ref 218), some (.int (nI i))] [] h := by
  refine e_al1 dL_law_1098 ?_
  refine e_al0 dL_law_1099 ?_
  refine e_il3 dL_law_1100 ?_
  refine e_iconst (nI 1) dL_law_1101 (by decide) ?_
  refine e_iaddN dL_law_1102 ?_
  refine e_sld hw dL_law_1103 (by omega) (by omega) ?_
  refine e_cv dL_law_1104 vL_131 (c_kind hc hg) (by decide) rfl rfl (Nat.le_of_ble_eq_true rfl) jBud0 rfl hc.1 ?_
  rintro _ h1 ⟨rfl, c1, E1⟩
  replace hr := RI.eq E1 hr (fun j q => q)
  refine e_al2 dL_law_1107 ?_
  refine e_al0 dL_law_1108 ?_
  refine e_il3 dL_law_1109 ?_
  refine e_iconst (nI 1) dL_law_1110 (by decide) ?_
  refine e_iaddN dL_law_1111 ?_
  refine e_sld hw dL_law_1112 (by omega) (by omega) ?_
  refine e_cv dL_law_1113 vL_134 (r_kind hr hg) (by decide) rfl rfl (Nat.le_of_ble_eq_true rfl) jBud0 rfl hr.1.choose_spec.1 ?_
  rintro _ h2 ⟨rfl, r1, E2⟩
  replace c1 := CI.eq E2 c1 (fun j q => q)
  refine e_ic_eq 1246 dL_law_1116 (by decide) (fun _ => ?_) (fun z => absurd rfl z)
  exact KN _ _ c1 r1 hg
set_option maxRecDepth 100000 in
set_option maxHeartbeats 4000000 in
theorem law_29 {X : jX} {bb L : Nat} {xs : Nat → Int32} (hw : jLw X bb L xs) (hL : L ≤ 384) {i : Nat} (hi : i + 6 ≤ L) {h : jH} {S : jS} (hc : CI h S) (hr : RI h S) (hg : SG S) (KN : ∀ (h' : jH) (S' : jS), CI h' S' → RI h' S' → SG S' → jV cL_law RL 8 X none 1246 [some (.ref 2000), some (.ref 0), some (.ref 218), some (.int (nI i))] [] h') : jV cL_law RL 8 X none 1121 [some (.ref 2000), some (.ref 0), some (.ref 218), some (.int (nI i))] [] h := by
  refine e_al1 dL_law_1121 ?_
  refine e_al0 dL_law_1122 ?_
  refine e_il3 dL_law_1123 ?_
  refine e_iconst (nI 1) dL_law_1124 (by decide) ?_
  refine e_iaddN dL_law_1125 ?_
  refine e_sld hw dL_law_1126 (by omega) (by omega) ?_
  refine e_al0 dL_law_1127 ?_
  refine e_il3 dL_law_1128 ?_
  refine e_iconst (nI 2) dL_law_1129 (by decide) ?_
  refine e_iaddN dL_law_1130 ?_
  refine e_sld hw dL_law_1131 (by omega) (by omega) ?_
  refine e_cv dL_law_1132 vL_135 (c_as hc hg) (by decide) rfl rfl (Nat.le_of_ble_eq_true rfl) jBud0 rfl hc.1 ?_
  rintro _ h1 ⟨rfl, c1, E1⟩
  replace hr := RI.eq E1 hr (fun j q => q)
  refine e_al2 dL_law_1135 ?_
  refine e_al0 dL_law_1136 ?_
  refine e_il3 dL_law_1137 ?_
  refine e_iconst (nI 1) dL_law_1138 (by decide) ?_
  refine e_iaddN dL_law_1139 ?_
  refine e_sld hw dL_law_1140 (by omega) (by omega) ?_
  refine e_al0 dL_law_1141 ?_
  refine e_il3 dL_law_1142 ?_
  refine e_iconst (nI 2) dL_law_1143 (by decide) ?_
  refine e_iaddN dL_law_1144 ?_
  refine e_sld hw dL_law_1145 (by omega) (by omega) ?_
  refine e_cv dL_law_1146 vL_138 (r_as hr hg) (by decide) rfl rfl (Nat.le_of_ble_eq_true rfl) jBud0 rfl hr.1.choose_spec.1 ?_
  rintro _ h2 ⟨rfl, r1, E2⟩
  replace c1 := CI.eq E2 c1 (fun j q => q)
  refine e_ic_eq 1246 dL_law_1149 (by decide) (fun _ => ?_) (fun z => absurd rfl z)
  exact KN _ _ c1 r1 (sg_as hg)
set_option maxRecDepth 100000 in
set_option maxHeartbeats 4000000 in
theorem law_30 {X : jX} {bb L : Nat} {xs : Nat → Int32} (hw : jLw X bb L xs) (hL : L ≤ 384) {i : Nat} (hi : i + 6 ≤ L) {h : jH} {S : jS} (hc : CI h S) (hr : RI h S) (hg : SG S) (KN : ∀ (h' : jH) (S' : jS), CI h' S' → RI h' S' → SG S' → jV cL_law RL 8 X none 1246 [some (.ref 2000), some (.ref 0), some (.ref 218), some (.int (nI i))] [] h') : jV cL_law RL 8 X none 1154 [some (.ref 2000), some (.ref 0), some (.ref 218), some (.int (nI i))] [] h := by
  refine e_al1 dL_law_1154 ?_
  refine e_al0 dL_law_1155 ?_
  refine e_il3 dL_law_1156 ?_
  refine e_iconst (nI 1) dL_law_1157 (by decide) ?_
  refine e_iaddN dL_law_1158 ?_
  refine e_sld hw dL_law_1159 (by omega) (by omega) ?_
  refine e_al0 dL_law_1160 ?_
  refine e_il3 dL_law_1161 ?_
  refine e_iconst (nI 2) dL_law_1162 (by decide) ?_
  refine e_iaddN dL_law_1163 ?_
  refine e_sld hw dL_law_1164 (by omega) (by omega) ?_
  refine e_cv dL_law_1165 vL_139 (c_ask hc hg) (by decide) rfl rfl (Nat.le_of_ble_eq_true rfl) jBud0 rfl hc.1 ?_
  rintro _ h1 ⟨rfl, c1, E1⟩
  replace hr := RI.eq E1 hr (fun j q => q)
  refine e_al2 dL_law_1168 ?_
  refine e_al0 dL_law_1169 ?_
  refine e_il3 dL_law_1170 ?_
  refine e_iconst (nI 1) dL_law_1171 (by decide) ?_
  refine e_iaddN dL_law_1172 ?_
  refine e_sld hw dL_law_1173 (by omega) (by omega) ?_
  refine e_al0 dL_law_1174 ?_
  refine e_il3 dL_law_1175 ?_
  refine e_iconst (nI 2) dL_law_1176 (by decide) ?_
  refine e_iaddN dL_law_1177 ?_
  refine e_sld hw dL_law_1178 (by omega) (by omega) ?_
  refine e_cv dL_law_1179 vL_142 (r_ask hr hg) (by decide) rfl rfl (Nat.le_of_ble_eq_true rfl) jBud0 rfl hr.1.choose_spec.1 ?_
  rintro _ h2 ⟨rfl, r1, E2⟩
  replace c1 := CI.eq E2 c1 (fun j q => q)
  refine e_ic_eq 1246 dL_law_1182 (by decide) (fun _ => ?_) (fun z => absurd rfl z)
  exact KN _ _ c1 r1 (sg_ask hg)
set_option maxRecDepth 100000 in
set_option maxHeartbeats 4000000 in
theorem law_31 {X : jX} {bb L : Nat} {xs : Nat → Int32} (hw : jLw X bb L xs) (hL : L ≤ 384) {i : Nat} (hi : i + 6 ≤ L) {h : jH} {S : jS} (hc : CI h S) (hr : RI h S) (hg : SG S) (KN : ∀ (h' : jH) (S' : jS), CI h' S' → RI h' S' → SG S' → jV cL_law RL 8 X none 1246 [some (.ref 2000), some (.ref 0), some (.ref 218), some (.int (nI i))] [] h') : jV cL_law RL 8 X none 1187 [some (.ref 2000), some (.ref 0), some (.ref 218), some (.int (nI i))] [] h := by
  refine e_al1 dL_law_1187 ?_
  refine e_al0 dL_law_1188 ?_
  refine e_il3 dL_law_1189 ?_
  refine e_iconst (nI 1) dL_law_1190 (by decide) ?_
  refine e_iaddN dL_law_1191 ?_
  refine e_sld hw dL_law_1192 (by omega) (by omega) ?_
  refine e_cv dL_law_1193 vL_143 (c_trace hc hg) (by decide) rfl rfl (Nat.le_of_ble_eq_true rfl) jBud0 rfl hc.1 ?_
  rintro _ h1 ⟨rfl, c1, E1⟩
  replace hr := RI.eq E1 hr (fun j q => q)
  refine e_al2 dL_law_1196 ?_
  refine e_al0 dL_law_1197 ?_
  refine e_il3 dL_law_1198 ?_
  refine e_iconst (nI 1) dL_law_1199 (by decide) ?_
  refine e_iaddN dL_law_1200 ?_
  refine e_sld hw dL_law_1201 (by omega) (by omega) ?_
  refine e_cv dL_law_1202 vL_146 (r_trace hr hg) (by decide) rfl rfl (Nat.le_of_ble_eq_true rfl) jBud0 rfl hr.1.choose_spec.1 ?_
  rintro _ h2 ⟨rfl, r1, E2⟩
  replace c1 := CI.eq E2 c1 (fun j q => q)
  refine e_ic_eq 1246 dL_law_1205 (by decide) (fun _ => ?_) (fun z => absurd rfl z)
  exact KN _ _ c1 r1 hg
set_option maxRecDepth 100000 in
set_option maxHeartbeats 4000000 in
theorem law_32 {X : jX} {bb L : Nat} {xs : Nat → Int32} (hw : jLw X bb L xs) (hL : L ≤ 384) {i : Nat} (hi : i + 6 ≤ L) {h : jH} {S : jS} (hc : CI h S) (hr : RI h S) (hg : SG S) (KN : ∀ (h' : jH) (S' : jS), CI h' S' → RI h' S' → SG S' → jV cL_law RL 8 X none 1246 [some (.ref 2000), some (.ref 0), some (.ref 218), some (.int (nI i))] [] h') : jV cL_law RL 8 X none 1210 [some (.ref 2000), some (.ref 0), some (.ref 218), some (.int (nI i))] [] h := by
  refine e_al1 dL_law_1210 ?_
  refine e_al0 dL_law_1211 ?_
  refine e_il3 dL_law_1212 ?_
  refine e_iconst (nI 1) dL_law_1213 (by decide) ?_
  refine e_iaddN dL_law_1214 ?_
  refine e_sld hw dL_law_1215 (by omega) (by omega) ?_
  refine e_cv dL_law_1216 vL_147 (c_count hc hg) (by decide) rfl rfl (Nat.le_of_ble_eq_true rfl) jBud0 rfl hc.1 ?_
  rintro _ h1 ⟨rfl, c1, E1⟩
  replace hr := RI.eq E1 hr (fun j q => q)
  refine e_al2 dL_law_1219 ?_
  refine e_al0 dL_law_1220 ?_
  refine e_il3 dL_law_1221 ?_
  refine e_iconst (nI 1) dL_law_1222 (by decide) ?_
  refine e_iaddN dL_law_1223 ?_
  refine e_sld hw dL_law_1224 (by omega) (by omega) ?_
  refine e_cv dL_law_1225 vL_150 (r_count hr hg) (by decide) rfl rfl (Nat.le_of_ble_eq_true rfl) jBud0 rfl hr.1.choose_spec.1 ?_
  rintro _ h2 ⟨rfl, r1, E2⟩
  replace c1 := CI.eq E2 c1 (fun j q => q)
  refine e_ic_eq 1246 dL_law_1228 (by decide) (fun _ => ?_) (fun z => absurd rfl z)
  exact KN _ _ c1 r1 hg
set_option maxRecDepth 100000 in
set_option maxHeartbeats 4000000 in
theorem law_33 {X : jX} {bb L : Nat} {xs : Nat → Int32} (hw : jLw X bb L xs) (hL : L ≤ 384) {i : Nat} (hi : i + 6 ≤ L) {h : jH} {S : jS} (hc : CI h S) (hr : RI h S) (hg : SG S) (KN : ∀ (h' : jH) (S' : jS), CI h' S' → RI h' S' → SG S' → jV cL_law RL 8 X none 1246 [some (.ref 2000), some (.ref 0), some (.ref 218), some (.int (nI i))] [] h') : jV cL_law RL 8 X none 1233 [some (.ref 2000), some (.ref 0), some (.ref 218), some (.int (nI i))] [] h := by
  refine e_al1 dL_law_1233 ?_
  refine e_cv dL_law_1234 vL_151 (c_status hc hg) (by decide) rfl rfl (Nat.le_of_ble_eq_true rfl) jBud0 rfl hc.1 ?_
  rintro _ h1 ⟨rfl, c1, E1⟩
  replace hr := RI.eq E1 hr (fun j q => q)
  refine e_al2 dL_law_1237 ?_
  refine e_cv dL_law_1238 vL_154 (r_status hr hg) (by decide) rfl rfl (Nat.le_of_ble_eq_true rfl) jBud0 rfl hr.1.choose_spec.1 ?_
  rintro _ h2 ⟨rfl, r1, E2⟩
  replace c1 := CI.eq E2 c1 (fun j q => q)
  refine e_ic_eq 1246 dL_law_1241 (by decide) (fun _ => ?_) (fun z => absurd rfl z)
  exact KN _ _ c1 r1 hg
set_option maxRecDepth 100000 in
set_option maxHeartbeats 4000000 in
theorem law_loop {X : jX} {bb L : Nat} {xs : Nat → Int32} (hw : jLw X bb L xs) (hL : L ≤ 384) : ∀ (n i : Nat) (h : jH) (S : jS), L - i < n → i ≤ L → CI h S → RI h S → SG S → jV cL_law RL 8 X none 18 [some (.ref 2000), some (.ref 0), some (.ref 218), some (.int (nI i))] [] h := by
  intro n
  induction n with
  | zero => intros; omega
  | succ n ih =>
    intro i h S hm hiL hc hr hg
    refine e_il3 dL_law_18 ?_
    refine e_al0 dL_law_19 ?_
    refine e_slen hw dL_law_20 ?_
    refine e_bipush (nI 6) dL_law_21 (by decide) ?_
    refine e_isub dL_law_23 ?_
    refine e_ic_gt 1252 dL_law_24 (by decide) (fun c_24 => ?_) (fun c_24 => ?_)
    · refine e_iconst (nI 1) dL_law_1252 (by decide) ?_
      exact e_lret hw dL_law_1253
    · have hi6 : i + 6 ≤ L := by
        rw [fa_lt, pk_sub_toInt (by omega) (by omega), nI_toInt (by omega)] at c_24
        omega
      have KN : ∀ (h' : jH) (S' : jS), CI h' S' → RI h' S' → SG S' → jV cL_law RL 8 X none 1246 [some (.ref 2000), some (.ref 0), some (.ref 218), some (.int (nI i))] [] h' := fun h' S' c1 r1 g1 => by
        refine e_inc3 6 dL_law_1246 (by decide) rfl ?_
        rw [nI6]
        refine e_goto 18 dL_law_1249 (by decide) ?_
        exact ih (i + 6) h' S' (by omega) (by omega) c1 r1 g1
      refine e_al0 dL_law_27 ?_
      refine e_il3 dL_law_28 ?_
      refine e_sld hw dL_law_29 (by omega) (by omega) ?_
      refine e_bipush (nI 63) dL_law_30 (by decide) ?_
      refine e_iand dL_law_32 ?_
      by_cases r : iN (xs i &&& nI 63) 34
      · obtain ⟨j, hj, ej⟩ := iN_of r (by omega)
        rw [ej]
        rcases (show j = 0 ∨ j = 1 ∨ j = 2 ∨ j = 3 ∨ j = 4 ∨ j = 5 ∨ j = 6 ∨ j = 7 ∨ j = 8 ∨ j = 9 ∨ j = 10 ∨ j = 11 ∨ j = 12 ∨ j = 13 ∨ j = 14 ∨ j = 15 ∨ j = 16 ∨ j = 17 ∨ j = 18 ∨ j = 19 ∨ j = 20 ∨ j = 21 ∨ j = 22 ∨ j = 23 ∨ j = 24 ∨ j = 25 ∨ j = 26 ∨ j = 27 ∨ j = 28 ∨ j = 29 ∨ j = 30 ∨ j = 31 ∨ j = 32 ∨ j = 33 by omega) with rfl | rfl | rfl | rfl | rfl | rfl | rfl | rfl | rfl | rfl | rfl | rfl | rfl | rfl | rfl | rfl | rfl | rfl | rfl | rfl | rfl | rfl | rfl | rfl | rfl | rfl | rfl | rfl | rfl | rfl | rfl | rfl | rfl | rfl
        · exact e_tin 184 dL_law_33 (by decide) (by decide) rfl (by decide) (law_0 hw hL hi6 hc hr hg KN)
        · exact e_tin 227 dL_law_33 (by decide) (by decide) rfl (by decide) (law_1 hw hL hi6 hc hr hg KN)
        · exact e_tin 270 dL_law_33 (by decide) (by decide) rfl (by decide) (law_2 hw hL hi6 hc hr hg KN)
        · exact e_tin 333 dL_law_33 (by decide) (by decide) rfl (by decide) (law_3 hw hL hi6 hc hr hg KN)
        · exact e_tin 356 dL_law_33 (by decide) (by decide) rfl (by decide) (law_4 hw hL hi6 hc hr hg KN)
        · exact e_tin 379 dL_law_33 (by decide) (by decide) rfl (by decide) (law_5 hw hL hi6 hc hr hg KN)
        · exact e_tin 392 dL_law_33 (by decide) (by decide) rfl (by decide) (law_6 hw hL hi6 hc hr hg KN)
        · exact e_tin 405 dL_law_33 (by decide) (by decide) rfl (by decide) (law_7 hw hL hi6 hc hr hg KN)
        · exact e_tin 428 dL_law_33 (by decide) (by decide) rfl (by decide) (law_8 hw hL hi6 hc hr hg KN)
        · exact e_tin 461 dL_law_33 (by decide) (by decide) rfl (by decide) (law_9 hw hL hi6 hc hr hg KN)
        · exact e_tin 494 dL_law_33 (by decide) (by decide) rfl (by decide) (law_10 hw hL hi6 hc hr hg KN)
        · exact e_tin 527 dL_law_33 (by decide) (by decide) rfl (by decide) (law_11 hw hL hi6 hc hr hg KN)
        · exact e_tin 550 dL_law_33 (by decide) (by decide) rfl (by decide) (law_12 hw hL hi6 hc hr hg KN)
        · exact e_tin 563 dL_law_33 (by decide) (by decide) rfl (by decide) (law_13 hw hL hi6 hc hr hg KN)
        · exact e_tin 596 dL_law_33 (by decide) (by decide) rfl (by decide) (law_14 hw hL hi6 hc hr hg KN)
        · exact e_tin 629 dL_law_33 (by decide) (by decide) rfl (by decide) (law_15 hw hL hi6 hc hr hg KN)
        · exact e_tin 662 dL_law_33 (by decide) (by decide) rfl (by decide) (law_16 hw hL hi6 hc hr hg KN)
        · exact e_tin 695 dL_law_33 (by decide) (by decide) rfl (by decide) (law_17 hw hL hi6 hc hr hg KN)
        · exact e_tin 718 dL_law_33 (by decide) (by decide) rfl (by decide) (law_18 hw hL hi6 hc hr hg KN)
        · exact e_tin 741 dL_law_33 (by decide) (by decide) rfl (by decide) (law_19 hw hL hi6 hc hr hg KN)
        · exact e_tin 764 dL_law_33 (by decide) (by decide) rfl (by decide) (law_20 hw hL hi6 hc hr hg KN)
        · exact e_tin 807 dL_law_33 (by decide) (by decide) rfl (by decide) (law_21 hw hL hi6 hc hr hg KN)
        · exact e_tin 840 dL_law_33 (by decide) (by decide) rfl (by decide) (law_22 hw hL hi6 hc hr hg KN)
        · exact e_tin 893 dL_law_33 (by decide) (by decide) rfl (by decide) (law_23 hw hL hi6 hc hr hg KN)
        · exact e_tin 956 dL_law_33 (by decide) (by decide) rfl (by decide) (law_24 hw hL hi6 hc hr hg KN)
        · exact e_tin 1009 dL_law_33 (by decide) (by decide) rfl (by decide) (law_25 hw hL hi6 hc hr hg KN)
        · exact e_tin 1052 dL_law_33 (by decide) (by decide) rfl (by decide) (law_26 hw hL hi6 hc hr hg KN)
        · exact e_tin 1075 dL_law_33 (by decide) (by decide) rfl (by decide) (law_27 hw hL hi6 hc hr hg KN)
        · exact e_tin 1098 dL_law_33 (by decide) (by decide) rfl (by decide) (law_28 hw hL hi6 hc hr hg KN)
        · exact e_tin 1121 dL_law_33 (by decide) (by decide) rfl (by decide) (law_29 hw hL hi6 hc hr hg KN)
        · exact e_tin 1154 dL_law_33 (by decide) (by decide) rfl (by decide) (law_30 hw hL hi6 hc hr hg KN)
        · exact e_tin 1187 dL_law_33 (by decide) (by decide) rfl (by decide) (law_31 hw hL hi6 hc hr hg KN)
        · exact e_tin 1210 dL_law_33 (by decide) (by decide) rfl (by decide) (law_32 hw hL hi6 hc hr hg KN)
        · exact e_tin 1233 dL_law_33 (by decide) (by decide) rfl (by decide) (law_33 hw hL hi6 hc hr hg KN)
      · refine e_tout 1246 dL_law_33 (by unfold iN at r; omega) (by decide) ?_
        exact KN h S hc hr hg
set_option maxRecDepth 100000 in
set_option maxHeartbeats 4000000 in
theorem law_start {X : jX} {bb L : Nat} {xs : Nat → Int32} (hw : jLw X bb L xs) (hL : L ≤ 384) : jV cL_law RL 8 X (some (235, 3922)) 0 [some (.ref 2000), none, none, none] [] [] := by
  refine e_new (K := 234) (M := 3914) [.null, .null, .null, .null, .null, .null, .null, .int 0] dL_law_0 clX6 lL_7 mkX6 iniX6 dfX6 (fun g => rfl) (by decide) ?_
  refine e_abs (fun h1 hh => ?_)
  have hl : h1.length = 1 := by rw [hh]; rfl
  have hO : h1[0]? = some (jO 6 [.null, .null, .null, .null, .null, .null, .null, .int 0]) := by rw [hh]; rfl
  clear hh
  refine e_dup dL_law_3 rfl ?_
  refine e_ci dL_law_4 iL_9 (m_X6_init hl hO) (by decide) rfl rfl (Nat.le_of_ble_eq_true rfl) (jBud1 (k := 17) (n := 1775) (mc := 217) (ms := 2139)) ?_
  rintro _ h2 ⟨rfl, hl2, hC⟩
  refine e_as1 dL_law_7 rfl ?_
  refine e_new (K := 16) (M := 1749) [.null, .null, .null, .null, .int 0, .null, .int 0, .int 0, .int 0, .int 0, .int 0, .int 0, .int 0, .null, .null, .null, .null, .int 0, .null, .null, .null, .null, .null, .null, .null, .int 0] dL_law_8 clX7 lL_10 mkX7 iniX7 dfX7 (fun g => rfl) (by omega) ?_
  rw [hl2]
  refine e_abs (fun h3 hh => ?_)
  have hO3 := jap_new hh hl2
  have hl3 : h3.length = 219 := by have := jap_len hh hl2; omega
  have Q3 : jP h2 h3 218 := jP.rf.ap hh hl2 (Nat.le_refl _)
  clear hh
  refine e_dup dL_law_11 rfl ?_
  refine e_ci dL_law_12 iL_12 (m_X7_init hl3 hO3) (by decide) rfl rfl (Nat.le_of_ble_eq_true rfl) (jBud1 (k := 0) (n := 0) (mc := 16) (ms := 1749)) ?_
  rintro _ h4 ⟨rfl, hl4, hR, Q4⟩
  have hc := hC h4 (Q3.tr Q4 (Nat.le_refl _))
  refine e_as2 dL_law_15 rfl ?_
  refine e_iconst (nI 0) dL_law_16 (by decide) ?_
  refine e_is3 dL_law_17 rfl ?_
  refine e_none ?_
  exact law_loop hw hL (L + 1) 0 h4 S0 (by omega) (by omega) hc hR S0_ok
