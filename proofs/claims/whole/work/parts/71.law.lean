/-! THE LAW, case by case (written by wip/whole/gen/law.py) -/
theorem law_0 {X : XT} {l : Launch} {Ln : Nat} {xs : Nat → Int32} (hX : Cx X l 12 mL_law) (hE : LE X Ln xs) {i : Int32} (hI : ∀ k, k < 6 → vp_in (i + nI k) Ln) {S : ST} {μ : Mem} (hC : CR μ S) (hM : MR μ S) (kk : ∀ (S : ST) (μ : Mem), CR μ S → MR μ S → TT X 1205 [.ref 200, .ref 0, .ref 24, .int i] [] μ) : TT X 200 [.ref 200, .ref 0, .ref 24, .int i] [] μ := by
  refine tt_al1 (q := 201) hX dL_law_200 rfl ?_
  refine tt_al0 (q := 202) hX dL_law_201 rfl ?_
  refine tt_il3 (q := 203) hX dL_law_202 rfl ?_
  refine tt_iconst (v := nI 1) (q := 204) hX rfl dL_law_203 rfl ?_
  refine tt_iadd (q := 205) hX dL_law_204 rfl ?_
  refine tt_sr (q := 206) hX hE (hI 1 (by decide)) dL_law_205 rfl ?_
  refine tt_cV1 (q := 209) hX (d' := 1) (by decide) kmX8_bodies ml_L_13 hoX8 rfl (Nat.le_of_ble_eq_true rfl) dL_law_206 rfl ?_
  refine c_X8_bodies hC (fun μ1 f1 hC1 => ?_)
  have hM1 := hM.cls f1.ol
  refine tt_al2 (q := 210) hX dL_law_209 rfl ?_
  refine tt_al0 (q := 211) hX dL_law_210 rfl ?_
  refine tt_il3 (q := 212) hX dL_law_211 rfl ?_
  refine tt_iconst (v := nI 1) (q := 213) hX rfl dL_law_212 rfl ?_
  refine tt_iadd (q := 214) hX dL_law_213 rfl ?_
  refine tt_sr (q := 215) hX hE (hI 1 (by decide)) dL_law_214 rfl ?_
  refine tt_cV1 (q := 218) hX (d' := 1) (by decide) kmX9_bodies ml_L_17 hoX9 rfl (Nat.le_of_ble_eq_true rfl) dL_law_215 rfl ?_
  refine c_X9_bodies hM1 (fun μ2 f2 hM2 => ?_)
  have hC2 := hC1.mdl f2
  refine tt_iceq (q := 221) (t := 1205) hX dL_law_218 rfl (by decide) (fun _ => ?_) (fun z => absurd rfl z)
  exact kk _ _ hC2 hM2
theorem law_1 {X : XT} {l : Launch} {Ln : Nat} {xs : Nat → Int32} (hX : Cx X l 12 mL_law) (hE : LE X Ln xs) {i : Int32} (hI : ∀ k, k < 6 → vp_in (i + nI k) Ln) {S : ST} {μ : Mem} (hC : CR μ S) (hM : MR μ S) (kk : ∀ (S : ST) (μ : Mem), CR μ S → MR μ S → TT X 1205 [.ref 200, .ref 0, .ref 24, .int i] [] μ) : TT X 223 [.ref 200, .ref 0, .ref 24, .int i] [] μ := by
  refine tt_al1 (q := 224) hX dL_law_223 rfl ?_
  refine tt_al0 (q := 225) hX dL_law_224 rfl ?_
  refine tt_il3 (q := 226) hX dL_law_225 rfl ?_
  refine tt_iconst (v := nI 1) (q := 227) hX rfl dL_law_226 rfl ?_
  refine tt_iadd (q := 228) hX dL_law_227 rfl ?_
  refine tt_sr (q := 229) hX hE (hI 1 (by decide)) dL_law_228 rfl ?_
  refine tt_cV1 (q := 232) hX (d' := 3) (by decide) kmX8_make ml_L_18 hoX8 rfl (Nat.le_of_ble_eq_true rfl) dL_law_229 rfl ?_
  refine c_X8_make hC (fun μ1 f1 hC1 => ?_)
  have hM1 := hM.cls f1.ol
  refine tt_al2 (q := 233) hX dL_law_232 rfl ?_
  refine tt_al0 (q := 234) hX dL_law_233 rfl ?_
  refine tt_il3 (q := 235) hX dL_law_234 rfl ?_
  refine tt_iconst (v := nI 1) (q := 236) hX rfl dL_law_235 rfl ?_
  refine tt_iadd (q := 237) hX dL_law_236 rfl ?_
  refine tt_sr (q := 238) hX hE (hI 1 (by decide)) dL_law_237 rfl ?_
  refine tt_cV1 (q := 241) hX (d' := 4) (by decide) kmX9_make ml_L_21 hoX9 rfl (Nat.le_of_ble_eq_true rfl) dL_law_238 rfl ?_
  refine c_X9_make hM1 (fun μ2 f2 hM2 => ?_)
  have hC2 := hC1.mdl f2
  refine tt_iceq (q := 244) (t := 1205) hX dL_law_241 rfl (by decide) (fun _ => ?_) (fun z => absurd rfl z)
  exact kk _ _ hC2 hM2
theorem law_2 {X : XT} {l : Launch} {Ln : Nat} {xs : Nat → Int32} (hX : Cx X l 12 mL_law) (hE : LE X Ln xs) {i : Int32} (hI : ∀ k, k < 6 → vp_in (i + nI k) Ln) {S : ST} {μ : Mem} (hC : CR μ S) (hM : MR μ S) (kk : ∀ (S : ST) (μ : Mem), CR μ S → MR μ S → TT X 1205 [.ref 200, .ref 0, .ref 24, .int i] [] μ) : TT X 246 [.ref 200, .ref 0, .ref 24, .int i] [] μ := by
  refine tt_al1 (q := 247) hX dL_law_246 rfl ?_
  refine tt_al0 (q := 248) hX dL_law_247 rfl ?_
  refine tt_il3 (q := 249) hX dL_law_248 rfl ?_
  refine tt_iconst (v := nI 1) (q := 250) hX rfl dL_law_249 rfl ?_
  refine tt_iadd (q := 251) hX dL_law_250 rfl ?_
  refine tt_sr (q := 252) hX hE (hI 1 (by decide)) dL_law_251 rfl ?_
  refine tt_cV1 (q := 255) hX (d' := 3) (by decide) kmX8_body ml_L_22 hoX8 rfl (Nat.le_of_ble_eq_true rfl) dL_law_252 rfl ?_
  refine c_X8_body hC (fun μ1 f1 hC1 => ?_)
  have hM1 := hM.cls f1.ol
  refine tt_al2 (q := 256) hX dL_law_255 rfl ?_
  refine tt_al0 (q := 257) hX dL_law_256 rfl ?_
  refine tt_il3 (q := 258) hX dL_law_257 rfl ?_
  refine tt_iconst (v := nI 1) (q := 259) hX rfl dL_law_258 rfl ?_
  refine tt_iadd (q := 260) hX dL_law_259 rfl ?_
  refine tt_sr (q := 261) hX hE (hI 1 (by decide)) dL_law_260 rfl ?_
  refine tt_cV1 (q := 264) hX (d' := 3) (by decide) kmX9_body ml_L_25 hoX9 rfl (Nat.le_of_ble_eq_true rfl) dL_law_261 rfl ?_
  refine c_X9_body hM1 (fun μ2 f2 hM2 => ?_)
  have hC2 := hC1.mdl f2
  refine tt_iceq (q := 267) (t := 1205) hX dL_law_264 rfl (by decide) (fun _ => ?_) (fun z => absurd rfl z)
  exact kk _ _ hC2 hM2
theorem law_3 {X : XT} {l : Launch} {Ln : Nat} {xs : Nat → Int32} (hX : Cx X l 12 mL_law) (hE : LE X Ln xs) {i : Int32} (hI : ∀ k, k < 6 → vp_in (i + nI k) Ln) {S : ST} {μ : Mem} (hC : CR μ S) (hM : MR μ S) (kk : ∀ (S : ST) (μ : Mem), CR μ S → MR μ S → TT X 1205 [.ref 200, .ref 0, .ref 24, .int i] [] μ) : TT X 269 [.ref 200, .ref 0, .ref 24, .int i] [] μ := by
  refine tt_al1 (q := 270) hX dL_law_269 rfl ?_
  refine tt_al0 (q := 271) hX dL_law_270 rfl ?_
  refine tt_il3 (q := 272) hX dL_law_271 rfl ?_
  refine tt_iconst (v := nI 1) (q := 273) hX rfl dL_law_272 rfl ?_
  refine tt_iadd (q := 274) hX dL_law_273 rfl ?_
  refine tt_sr (q := 275) hX hE (hI 1 (by decide)) dL_law_274 rfl ?_
  refine tt_cV1 (q := 278) hX (d' := 2) (by decide) kmX8_bodyOf ml_L_26 hoX8 rfl (Nat.le_of_ble_eq_true rfl) dL_law_275 rfl ?_
  refine c_X8_bodyOf hC (fun μ1 f1 hC1 => ?_)
  have hM1 := hM.cls f1
  refine tt_al2 (q := 279) hX dL_law_278 rfl ?_
  refine tt_al0 (q := 280) hX dL_law_279 rfl ?_
  refine tt_il3 (q := 281) hX dL_law_280 rfl ?_
  refine tt_iconst (v := nI 1) (q := 282) hX rfl dL_law_281 rfl ?_
  refine tt_iadd (q := 283) hX dL_law_282 rfl ?_
  refine tt_sr (q := 284) hX hE (hI 1 (by decide)) dL_law_283 rfl ?_
  refine tt_cV1 (q := 287) hX (d' := 0) (by decide) kmX9_bodyOf ml_L_29 hoX9 rfl (Nat.le_of_ble_eq_true rfl) dL_law_284 rfl ?_
  refine c_X9_bodyOf hM1 ?_
  refine tt_iceq (q := 290) (t := 1205) hX dL_law_287 rfl (by decide) (fun _ => ?_) (fun z => absurd rfl z)
  exact kk _ _ hC1 hM1
theorem law_4 {X : XT} {l : Launch} {Ln : Nat} {xs : Nat → Int32} (hX : Cx X l 12 mL_law) (hE : LE X Ln xs) {i : Int32} (hI : ∀ k, k < 6 → vp_in (i + nI k) Ln) {S : ST} {μ : Mem} (hC : CR μ S) (hM : MR μ S) (kk : ∀ (S : ST) (μ : Mem), CR μ S → MR μ S → TT X 1205 [.ref 200, .ref 0, .ref 24, .int i] [] μ) : TT X 292 [.ref 200, .ref 0, .ref 24, .int i] [] μ := by
  refine tt_al1 (q := 293) hX dL_law_292 rfl ?_
  refine tt_al0 (q := 294) hX dL_law_293 rfl ?_
  refine tt_il3 (q := 295) hX dL_law_294 rfl ?_
  refine tt_iconst (v := nI 1) (q := 296) hX rfl dL_law_295 rfl ?_
  refine tt_iadd (q := 297) hX dL_law_296 rfl ?_
  refine tt_sr (q := 298) hX hE (hI 1 (by decide)) dL_law_297 rfl ?_
  refine tt_cV1 (q := 301) hX (d' := 5) (by decide) kmX8_heap ml_L_30 hoX8 rfl (Nat.le_of_ble_eq_true rfl) dL_law_298 rfl ?_
  refine c_X8_heap hC (fun μ1 f1 hC1 => ?_)
  have hM1 := hM.cls f1
  refine tt_al2 (q := 302) hX dL_law_301 rfl ?_
  refine tt_al0 (q := 303) hX dL_law_302 rfl ?_
  refine tt_il3 (q := 304) hX dL_law_303 rfl ?_
  refine tt_iconst (v := nI 1) (q := 305) hX rfl dL_law_304 rfl ?_
  refine tt_iadd (q := 306) hX dL_law_305 rfl ?_
  refine tt_sr (q := 307) hX hE (hI 1 (by decide)) dL_law_306 rfl ?_
  refine tt_cV1 (q := 310) hX (d' := 6) (by decide) kmX9_heap ml_L_33 hoX9 rfl (Nat.le_of_ble_eq_true rfl) dL_law_307 rfl ?_
  refine c_X9_heap hM1 (fun μ2 f2 hM2 => ?_)
  have hC2 := hC1.mdl f2
  refine tt_iceq (q := 313) (t := 1205) hX dL_law_310 rfl (by decide) (fun _ => ?_) (fun z => absurd rfl z)
  exact kk _ _ hC2 hM2
theorem law_5 {X : XT} {l : Launch} {Ln : Nat} {xs : Nat → Int32} (hX : Cx X l 12 mL_law) (hE : LE X Ln xs) {i : Int32} (hI : ∀ k, k < 6 → vp_in (i + nI k) Ln) {S : ST} {μ : Mem} (hC : CR μ S) (hM : MR μ S) (kk : ∀ (S : ST) (μ : Mem), CR μ S → MR μ S → TT X 1205 [.ref 200, .ref 0, .ref 24, .int i] [] μ) : TT X 315 [.ref 200, .ref 0, .ref 24, .int i] [] μ := by
  refine tt_al1 (q := 316) hX dL_law_315 rfl ?_
  refine tt_al0 (q := 317) hX dL_law_316 rfl ?_
  refine tt_il3 (q := 318) hX dL_law_317 rfl ?_
  refine tt_iconst (v := nI 1) (q := 319) hX rfl dL_law_318 rfl ?_
  refine tt_iadd (q := 320) hX dL_law_319 rfl ?_
  refine tt_sr (q := 321) hX hE (hI 1 (by decide)) dL_law_320 rfl ?_
  refine tt_cV1 (q := 324) hX (d' := 2) (by decide) kmX8_faces ml_L_34 hoX8 rfl (Nat.le_of_ble_eq_true rfl) dL_law_321 rfl ?_
  refine c_X8_faces hC (fun μ1 f1 hC1 => ?_)
  have hM1 := hM.cls f1
  refine tt_al2 (q := 325) hX dL_law_324 rfl ?_
  refine tt_al0 (q := 326) hX dL_law_325 rfl ?_
  refine tt_il3 (q := 327) hX dL_law_326 rfl ?_
  refine tt_iconst (v := nI 1) (q := 328) hX rfl dL_law_327 rfl ?_
  refine tt_iadd (q := 329) hX dL_law_328 rfl ?_
  refine tt_sr (q := 330) hX hE (hI 1 (by decide)) dL_law_329 rfl ?_
  refine tt_cV1 (q := 333) hX (d' := 3) (by decide) kmX9_faces ml_L_37 hoX9 rfl (Nat.le_of_ble_eq_true rfl) dL_law_330 rfl ?_
  refine c_X9_faces hM1 (fun μ2 f2 hM2 => ?_)
  have hC2 := hC1.mdl f2
  refine tt_iceq (q := 336) (t := 1205) hX dL_law_333 rfl (by decide) (fun _ => ?_) (fun z => absurd rfl z)
  exact kk _ _ hC2 hM2
theorem law_6 {X : XT} {l : Launch} {Ln : Nat} {xs : Nat → Int32} (hX : Cx X l 12 mL_law) (hE : LE X Ln xs) {i : Int32} (hI : ∀ k, k < 6 → vp_in (i + nI k) Ln) {S : ST} {μ : Mem} (hC : CR μ S) (hM : MR μ S) (kk : ∀ (S : ST) (μ : Mem), CR μ S → MR μ S → TT X 1205 [.ref 200, .ref 0, .ref 24, .int i] [] μ) : TT X 338 [.ref 200, .ref 0, .ref 24, .int i] [] μ := by
  refine tt_al1 (q := 339) hX dL_law_338 rfl ?_
  refine tt_al0 (q := 340) hX dL_law_339 rfl ?_
  refine tt_il3 (q := 341) hX dL_law_340 rfl ?_
  refine tt_iconst (v := nI 1) (q := 342) hX rfl dL_law_341 rfl ?_
  refine tt_iadd (q := 343) hX dL_law_342 rfl ?_
  refine tt_sr (q := 344) hX hE (hI 1 (by decide)) dL_law_343 rfl ?_
  refine tt_al0 (q := 345) hX dL_law_344 rfl ?_
  refine tt_il3 (q := 346) hX dL_law_345 rfl ?_
  refine tt_iconst (v := nI 2) (q := 347) hX rfl dL_law_346 rfl ?_
  refine tt_iadd (q := 348) hX dL_law_347 rfl ?_
  refine tt_sr (q := 349) hX hE (hI 2 (by decide)) dL_law_348 rfl ?_
  refine tt_cV2 (q := 352) hX (d' := 1) (by decide) kmX8_face ml_L_38 hoX8 rfl (Nat.le_of_ble_eq_true rfl) dL_law_349 rfl ?_
  refine c_X8_face hC (fun μ1 f1 hC1 => ?_)
  have hM1 := hM.cls f1
  refine tt_al2 (q := 353) hX dL_law_352 rfl ?_
  refine tt_al0 (q := 354) hX dL_law_353 rfl ?_
  refine tt_il3 (q := 355) hX dL_law_354 rfl ?_
  refine tt_iconst (v := nI 1) (q := 356) hX rfl dL_law_355 rfl ?_
  refine tt_iadd (q := 357) hX dL_law_356 rfl ?_
  refine tt_sr (q := 358) hX hE (hI 1 (by decide)) dL_law_357 rfl ?_
  refine tt_al0 (q := 359) hX dL_law_358 rfl ?_
  refine tt_il3 (q := 360) hX dL_law_359 rfl ?_
  refine tt_iconst (v := nI 2) (q := 361) hX rfl dL_law_360 rfl ?_
  refine tt_iadd (q := 362) hX dL_law_361 rfl ?_
  refine tt_sr (q := 363) hX hE (hI 2 (by decide)) dL_law_362 rfl ?_
  refine tt_cV2 (q := 366) hX (d' := 3) (by decide) kmX9_face ml_L_42 hoX9 rfl (Nat.le_of_ble_eq_true rfl) dL_law_363 rfl ?_
  refine c_X9_face hM1 (fun μ2 f2 hM2 => ?_)
  have hC2 := hC1.mdl f2
  refine tt_iceq (q := 369) (t := 1205) hX dL_law_366 rfl (by decide) (fun _ => ?_) (fun z => absurd rfl z)
  exact kk _ _ hC2 hM2
theorem law_7 {X : XT} {l : Launch} {Ln : Nat} {xs : Nat → Int32} (hX : Cx X l 12 mL_law) (hE : LE X Ln xs) {i : Int32} (hI : ∀ k, k < 6 → vp_in (i + nI k) Ln) {S : ST} {μ : Mem} (hC : CR μ S) (hM : MR μ S) (kk : ∀ (S : ST) (μ : Mem), CR μ S → MR μ S → TT X 1205 [.ref 200, .ref 0, .ref 24, .int i] [] μ) : TT X 371 [.ref 200, .ref 0, .ref 24, .int i] [] μ := by
  refine tt_al1 (q := 372) hX dL_law_371 rfl ?_
  refine tt_al0 (q := 373) hX dL_law_372 rfl ?_
  refine tt_il3 (q := 374) hX dL_law_373 rfl ?_
  refine tt_iconst (v := nI 1) (q := 375) hX rfl dL_law_374 rfl ?_
  refine tt_iadd (q := 376) hX dL_law_375 rfl ?_
  refine tt_sr (q := 377) hX hE (hI 1 (by decide)) dL_law_376 rfl ?_
  refine tt_cV1 (q := 380) hX (d' := 2) (by decide) kmX8_wall ml_L_43 hoX8 rfl (Nat.le_of_ble_eq_true rfl) dL_law_377 rfl ?_
  refine c_X8_wall hC (fun μ1 f1 hC1 => ?_)
  have hM1 := hM.cls f1
  refine tt_al2 (q := 381) hX dL_law_380 rfl ?_
  refine tt_al0 (q := 382) hX dL_law_381 rfl ?_
  refine tt_il3 (q := 383) hX dL_law_382 rfl ?_
  refine tt_iconst (v := nI 1) (q := 384) hX rfl dL_law_383 rfl ?_
  refine tt_iadd (q := 385) hX dL_law_384 rfl ?_
  refine tt_sr (q := 386) hX hE (hI 1 (by decide)) dL_law_385 rfl ?_
  refine tt_cV1 (q := 389) hX (d' := 3) (by decide) kmX9_wall ml_L_46 hoX9 rfl (Nat.le_of_ble_eq_true rfl) dL_law_386 rfl ?_
  refine c_X9_wall hM1 (fun μ2 f2 hM2 => ?_)
  have hC2 := hC1.mdl f2
  refine tt_iceq (q := 392) (t := 1205) hX dL_law_389 rfl (by decide) (fun _ => ?_) (fun z => absurd rfl z)
  exact kk _ _ hC2 hM2
theorem law_8 {X : XT} {l : Launch} {Ln : Nat} {xs : Nat → Int32} (hX : Cx X l 12 mL_law) (hE : LE X Ln xs) {i : Int32} (hI : ∀ k, k < 6 → vp_in (i + nI k) Ln) {S : ST} {μ : Mem} (hC : CR μ S) (hM : MR μ S) (kk : ∀ (S : ST) (μ : Mem), CR μ S → MR μ S → TT X 1205 [.ref 200, .ref 0, .ref 24, .int i] [] μ) : TT X 394 [.ref 200, .ref 0, .ref 24, .int i] [] μ := by
  refine tt_al1 (q := 395) hX dL_law_394 rfl ?_
  refine tt_al0 (q := 396) hX dL_law_395 rfl ?_
  refine tt_il3 (q := 397) hX dL_law_396 rfl ?_
  refine tt_iconst (v := nI 1) (q := 398) hX rfl dL_law_397 rfl ?_
  refine tt_iadd (q := 399) hX dL_law_398 rfl ?_
  refine tt_sr (q := 400) hX hE (hI 1 (by decide)) dL_law_399 rfl ?_
  refine tt_al0 (q := 401) hX dL_law_400 rfl ?_
  refine tt_il3 (q := 402) hX dL_law_401 rfl ?_
  refine tt_iconst (v := nI 2) (q := 403) hX rfl dL_law_402 rfl ?_
  refine tt_iadd (q := 404) hX dL_law_403 rfl ?_
  refine tt_sr (q := 405) hX hE (hI 2 (by decide)) dL_law_404 rfl ?_
  refine tt_cV2 (q := 408) hX (d' := 4) (by decide) kmX8_apart ml_L_47 hoX8 rfl (Nat.le_of_ble_eq_true rfl) dL_law_405 rfl ?_
  refine c_X8_apart hC (fun μ1 f1 hC1 => ?_)
  have hM1 := hM.cls f1
  refine tt_al2 (q := 409) hX dL_law_408 rfl ?_
  refine tt_al0 (q := 410) hX dL_law_409 rfl ?_
  refine tt_il3 (q := 411) hX dL_law_410 rfl ?_
  refine tt_iconst (v := nI 1) (q := 412) hX rfl dL_law_411 rfl ?_
  refine tt_iadd (q := 413) hX dL_law_412 rfl ?_
  refine tt_sr (q := 414) hX hE (hI 1 (by decide)) dL_law_413 rfl ?_
  refine tt_al0 (q := 415) hX dL_law_414 rfl ?_
  refine tt_il3 (q := 416) hX dL_law_415 rfl ?_
  refine tt_iconst (v := nI 2) (q := 417) hX rfl dL_law_416 rfl ?_
  refine tt_iadd (q := 418) hX dL_law_417 rfl ?_
  refine tt_sr (q := 419) hX hE (hI 2 (by decide)) dL_law_418 rfl ?_
  refine tt_cV2 (q := 422) hX (d' := 4) (by decide) kmX9_apart ml_L_50 hoX9 rfl (Nat.le_of_ble_eq_true rfl) dL_law_419 rfl ?_
  refine c_X9_apart hM1 (fun μ2 f2 hM2 => ?_)
  have hC2 := hC1.mdl f2
  refine tt_iceq (q := 425) (t := 1205) hX dL_law_422 rfl (by decide) (fun _ => ?_) (fun z => absurd rfl z)
  exact kk _ _ hC2 hM2
theorem law_9 {X : XT} {l : Launch} {Ln : Nat} {xs : Nat → Int32} (hX : Cx X l 12 mL_law) (hE : LE X Ln xs) {i : Int32} (hI : ∀ k, k < 6 → vp_in (i + nI k) Ln) {S : ST} {μ : Mem} (hC : CR μ S) (hM : MR μ S) (kk : ∀ (S : ST) (μ : Mem), CR μ S → MR μ S → TT X 1205 [.ref 200, .ref 0, .ref 24, .int i] [] μ) : TT X 427 [.ref 200, .ref 0, .ref 24, .int i] [] μ := by
  refine tt_al1 (q := 428) hX dL_law_427 rfl ?_
  refine tt_al0 (q := 429) hX dL_law_428 rfl ?_
  refine tt_il3 (q := 430) hX dL_law_429 rfl ?_
  refine tt_iconst (v := nI 1) (q := 431) hX rfl dL_law_430 rfl ?_
  refine tt_iadd (q := 432) hX dL_law_431 rfl ?_
  refine tt_sr (q := 433) hX hE (hI 1 (by decide)) dL_law_432 rfl ?_
  refine tt_cV1 (q := 436) hX (d' := 3) (by decide) kmX8_shelled ml_L_51 hoX8 rfl (Nat.le_of_ble_eq_true rfl) dL_law_433 rfl ?_
  refine c_X8_shelled hC (fun μ1 f1 hC1 => ?_)
  have hM1 := hM.cls f1
  refine tt_al2 (q := 437) hX dL_law_436 rfl ?_
  refine tt_al0 (q := 438) hX dL_law_437 rfl ?_
  refine tt_il3 (q := 439) hX dL_law_438 rfl ?_
  refine tt_iconst (v := nI 1) (q := 440) hX rfl dL_law_439 rfl ?_
  refine tt_iadd (q := 441) hX dL_law_440 rfl ?_
  refine tt_sr (q := 442) hX hE (hI 1 (by decide)) dL_law_441 rfl ?_
  refine tt_cV1 (q := 445) hX (d' := 3) (by decide) kmX9_shelled ml_L_54 hoX9 rfl (Nat.le_of_ble_eq_true rfl) dL_law_442 rfl ?_
  refine c_X9_shelled hM1 (fun μ2 f2 hM2 => ?_)
  have hC2 := hC1.mdl f2
  refine tt_iceq (q := 448) (t := 1205) hX dL_law_445 rfl (by decide) (fun _ => ?_) (fun z => absurd rfl z)
  exact kk _ _ hC2 hM2
theorem law_10 {X : XT} {l : Launch} {Ln : Nat} {xs : Nat → Int32} (hX : Cx X l 12 mL_law) (hE : LE X Ln xs) {i : Int32} (hI : ∀ k, k < 6 → vp_in (i + nI k) Ln) {S : ST} {μ : Mem} (hC : CR μ S) (hM : MR μ S) (kk : ∀ (S : ST) (μ : Mem), CR μ S → MR μ S → TT X 1205 [.ref 200, .ref 0, .ref 24, .int i] [] μ) : TT X 450 [.ref 200, .ref 0, .ref 24, .int i] [] μ := by
  refine tt_al1 (q := 451) hX dL_law_450 rfl ?_
  refine tt_al0 (q := 452) hX dL_law_451 rfl ?_
  refine tt_il3 (q := 453) hX dL_law_452 rfl ?_
  refine tt_iconst (v := nI 1) (q := 454) hX rfl dL_law_453 rfl ?_
  refine tt_iadd (q := 455) hX dL_law_454 rfl ?_
  refine tt_sr (q := 456) hX hE (hI 1 (by decide)) dL_law_455 rfl ?_
  refine tt_cV1 (q := 459) hX (d' := 4) (by decide) kmX8_flips ml_L_55 hoX8 rfl (Nat.le_of_ble_eq_true rfl) dL_law_456 rfl ?_
  refine c_X8_flips hC (fun μ1 f1 hC1 => ?_)
  have hM1 := hM.cls f1
  refine tt_al2 (q := 460) hX dL_law_459 rfl ?_
  refine tt_al0 (q := 461) hX dL_law_460 rfl ?_
  refine tt_il3 (q := 462) hX dL_law_461 rfl ?_
  refine tt_iconst (v := nI 1) (q := 463) hX rfl dL_law_462 rfl ?_
  refine tt_iadd (q := 464) hX dL_law_463 rfl ?_
  refine tt_sr (q := 465) hX hE (hI 1 (by decide)) dL_law_464 rfl ?_
  refine tt_cV1 (q := 468) hX (d' := 4) (by decide) kmX9_flips ml_L_58 hoX9 rfl (Nat.le_of_ble_eq_true rfl) dL_law_465 rfl ?_
  refine c_X9_flips hM1 (fun μ2 f2 hM2 => ?_)
  have hC2 := hC1.mdl f2
  refine tt_iceq (q := 471) (t := 1205) hX dL_law_468 rfl (by decide) (fun _ => ?_) (fun z => absurd rfl z)
  exact kk _ _ hC2 hM2
theorem law_11 {X : XT} {l : Launch} {Ln : Nat} {xs : Nat → Int32} (hX : Cx X l 12 mL_law) (hE : LE X Ln xs) {i : Int32} (hI : ∀ k, k < 6 → vp_in (i + nI k) Ln) {S : ST} {μ : Mem} (hC : CR μ S) (hM : MR μ S) (kk : ∀ (S : ST) (μ : Mem), CR μ S → MR μ S → TT X 1205 [.ref 200, .ref 0, .ref 24, .int i] [] μ) : TT X 473 [.ref 200, .ref 0, .ref 24, .int i] [] μ := by
  refine tt_al1 (q := 474) hX dL_law_473 rfl ?_
  refine tt_al0 (q := 475) hX dL_law_474 rfl ?_
  refine tt_il3 (q := 476) hX dL_law_475 rfl ?_
  refine tt_iconst (v := nI 1) (q := 477) hX rfl dL_law_476 rfl ?_
  refine tt_iadd (q := 478) hX dL_law_477 rfl ?_
  refine tt_sr (q := 479) hX hE (hI 1 (by decide)) dL_law_478 rfl ?_
  refine tt_al0 (q := 480) hX dL_law_479 rfl ?_
  refine tt_il3 (q := 481) hX dL_law_480 rfl ?_
  refine tt_iconst (v := nI 2) (q := 482) hX rfl dL_law_481 rfl ?_
  refine tt_iadd (q := 483) hX dL_law_482 rfl ?_
  refine tt_sr (q := 484) hX hE (hI 2 (by decide)) dL_law_483 rfl ?_
  refine tt_cV2 (q := 487) hX (d' := 4) (by decide) kmX8_flipOf ml_L_59 hoX8 rfl (Nat.le_of_ble_eq_true rfl) dL_law_484 rfl ?_
  refine c_X8_flipOf hC (fun μ1 f1 hC1 => ?_)
  have hM1 := hM.cls f1
  refine tt_al2 (q := 488) hX dL_law_487 rfl ?_
  refine tt_al0 (q := 489) hX dL_law_488 rfl ?_
  refine tt_il3 (q := 490) hX dL_law_489 rfl ?_
  refine tt_iconst (v := nI 1) (q := 491) hX rfl dL_law_490 rfl ?_
  refine tt_iadd (q := 492) hX dL_law_491 rfl ?_
  refine tt_sr (q := 493) hX hE (hI 1 (by decide)) dL_law_492 rfl ?_
  refine tt_al0 (q := 494) hX dL_law_493 rfl ?_
  refine tt_il3 (q := 495) hX dL_law_494 rfl ?_
  refine tt_iconst (v := nI 2) (q := 496) hX rfl dL_law_495 rfl ?_
  refine tt_iadd (q := 497) hX dL_law_496 rfl ?_
  refine tt_sr (q := 498) hX hE (hI 2 (by decide)) dL_law_497 rfl ?_
  refine tt_cV2 (q := 501) hX (d' := 4) (by decide) kmX9_flipOf ml_L_62 hoX9 rfl (Nat.le_of_ble_eq_true rfl) dL_law_498 rfl ?_
  refine c_X9_flipOf hM1 (fun μ2 f2 hM2 => ?_)
  have hC2 := hC1.mdl f2
  refine tt_iceq (q := 504) (t := 1205) hX dL_law_501 rfl (by decide) (fun _ => ?_) (fun z => absurd rfl z)
  exact kk _ _ hC2 hM2
theorem law_12 {X : XT} {l : Launch} {Ln : Nat} {xs : Nat → Int32} (hX : Cx X l 12 mL_law) (hE : LE X Ln xs) {i : Int32} (hI : ∀ k, k < 6 → vp_in (i + nI k) Ln) {S : ST} {μ : Mem} (hC : CR μ S) (hM : MR μ S) (kk : ∀ (S : ST) (μ : Mem), CR μ S → MR μ S → TT X 1205 [.ref 200, .ref 0, .ref 24, .int i] [] μ) : TT X 506 [.ref 200, .ref 0, .ref 24, .int i] [] μ := by
  refine tt_al1 (q := 507) hX dL_law_506 rfl ?_
  refine tt_al0 (q := 508) hX dL_law_507 rfl ?_
  refine tt_il3 (q := 509) hX dL_law_508 rfl ?_
  refine tt_iconst (v := nI 1) (q := 510) hX rfl dL_law_509 rfl ?_
  refine tt_iadd (q := 511) hX dL_law_510 rfl ?_
  refine tt_sr (q := 512) hX hE (hI 1 (by decide)) dL_law_511 rfl ?_
  refine tt_cV1 (q := 515) hX (d' := 4) (by decide) kmX8_number ml_L_63 hoX8 rfl (Nat.le_of_ble_eq_true rfl) dL_law_512 rfl ?_
  refine c_X8_number hC (fun μ1 f1 hC1 => ?_)
  have hM1 := hM.cls f1
  refine tt_al2 (q := 516) hX dL_law_515 rfl ?_
  refine tt_al0 (q := 517) hX dL_law_516 rfl ?_
  refine tt_il3 (q := 518) hX dL_law_517 rfl ?_
  refine tt_iconst (v := nI 1) (q := 519) hX rfl dL_law_518 rfl ?_
  refine tt_iadd (q := 520) hX dL_law_519 rfl ?_
  refine tt_sr (q := 521) hX hE (hI 1 (by decide)) dL_law_520 rfl ?_
  refine tt_cV1 (q := 524) hX (d' := 4) (by decide) kmX9_number ml_L_66 hoX9 rfl (Nat.le_of_ble_eq_true rfl) dL_law_521 rfl ?_
  refine c_X9_number hM1 (fun μ2 f2 hM2 => ?_)
  have hC2 := hC1.mdl f2
  refine tt_iceq (q := 527) (t := 1205) hX dL_law_524 rfl (by decide) (fun _ => ?_) (fun z => absurd rfl z)
  exact kk _ _ hC2 hM2
theorem law_13 {X : XT} {l : Launch} {Ln : Nat} {xs : Nat → Int32} (hX : Cx X l 12 mL_law) (hE : LE X Ln xs) {i : Int32} (hI : ∀ k, k < 6 → vp_in (i + nI k) Ln) {S : ST} {μ : Mem} (hC : CR μ S) (hM : MR μ S) (kk : ∀ (S : ST) (μ : Mem), CR μ S → MR μ S → TT X 1205 [.ref 200, .ref 0, .ref 24, .int i] [] μ) : TT X 529 [.ref 200, .ref 0, .ref 24, .int i] [] μ := by
  refine tt_al1 (q := 530) hX dL_law_529 rfl ?_
  refine tt_al0 (q := 531) hX dL_law_530 rfl ?_
  refine tt_il3 (q := 532) hX dL_law_531 rfl ?_
  refine tt_iconst (v := nI 1) (q := 533) hX rfl dL_law_532 rfl ?_
  refine tt_iadd (q := 534) hX dL_law_533 rfl ?_
  refine tt_sr (q := 535) hX hE (hI 1 (by decide)) dL_law_534 rfl ?_
  refine tt_cV1 (q := 538) hX (d' := 4) (by decide) kmX8_flip ml_L_67 hoX8 rfl (Nat.le_of_ble_eq_true rfl) dL_law_535 rfl ?_
  refine c_X8_flip hC (fun μ1 f1 hC1 => ?_)
  have hM1 := hM.cls f1.ol
  refine tt_al2 (q := 539) hX dL_law_538 rfl ?_
  refine tt_al0 (q := 540) hX dL_law_539 rfl ?_
  refine tt_il3 (q := 541) hX dL_law_540 rfl ?_
  refine tt_iconst (v := nI 1) (q := 542) hX rfl dL_law_541 rfl ?_
  refine tt_iadd (q := 543) hX dL_law_542 rfl ?_
  refine tt_sr (q := 544) hX hE (hI 1 (by decide)) dL_law_543 rfl ?_
  refine tt_cV1 (q := 547) hX (d' := 4) (by decide) kmX9_flip ml_L_70 hoX9 rfl (Nat.le_of_ble_eq_true rfl) dL_law_544 rfl ?_
  refine c_X9_flip hM1 (fun μ2 f2 hM2 => ?_)
  have hC2 := hC1.mdl f2
  refine tt_iceq (q := 550) (t := 1205) hX dL_law_547 rfl (by decide) (fun _ => ?_) (fun z => absurd rfl z)
  exact kk _ _ hC2 hM2
theorem law_14 {X : XT} {l : Launch} {Ln : Nat} {xs : Nat → Int32} (hX : Cx X l 12 mL_law) (hE : LE X Ln xs) {i : Int32} (hI : ∀ k, k < 6 → vp_in (i + nI k) Ln) {S : ST} {μ : Mem} (hC : CR μ S) (hM : MR μ S) (kk : ∀ (S : ST) (μ : Mem), CR μ S → MR μ S → TT X 1205 [.ref 200, .ref 0, .ref 24, .int i] [] μ) : TT X 552 [.ref 200, .ref 0, .ref 24, .int i] [] μ := by
  refine tt_al1 (q := 553) hX dL_law_552 rfl ?_
  refine tt_al0 (q := 554) hX dL_law_553 rfl ?_
  refine tt_il3 (q := 555) hX dL_law_554 rfl ?_
  refine tt_iconst (v := nI 1) (q := 556) hX rfl dL_law_555 rfl ?_
  refine tt_iadd (q := 557) hX dL_law_556 rfl ?_
  refine tt_sr (q := 558) hX hE (hI 1 (by decide)) dL_law_557 rfl ?_
  refine tt_cV1 (q := 561) hX (d' := 4) (by decide) kmX8_other ml_L_71 hoX8 rfl (Nat.le_of_ble_eq_true rfl) dL_law_558 rfl ?_
  refine c_X8_other hC (fun μ1 f1 hC1 => ?_)
  have hM1 := hM.cls f1
  refine tt_al2 (q := 562) hX dL_law_561 rfl ?_
  refine tt_al0 (q := 563) hX dL_law_562 rfl ?_
  refine tt_il3 (q := 564) hX dL_law_563 rfl ?_
  refine tt_iconst (v := nI 1) (q := 565) hX rfl dL_law_564 rfl ?_
  refine tt_iadd (q := 566) hX dL_law_565 rfl ?_
  refine tt_sr (q := 567) hX hE (hI 1 (by decide)) dL_law_566 rfl ?_
  refine tt_cV1 (q := 570) hX (d' := 4) (by decide) kmX9_other ml_L_74 hoX9 rfl (Nat.le_of_ble_eq_true rfl) dL_law_567 rfl ?_
  refine c_X9_other hM1 (fun μ2 f2 hM2 => ?_)
  have hC2 := hC1.mdl f2
  refine tt_iceq (q := 573) (t := 1205) hX dL_law_570 rfl (by decide) (fun _ => ?_) (fun z => absurd rfl z)
  exact kk _ _ hC2 hM2
theorem law_15 {X : XT} {l : Launch} {Ln : Nat} {xs : Nat → Int32} (hX : Cx X l 12 mL_law) (hE : LE X Ln xs) {i : Int32} (hI : ∀ k, k < 6 → vp_in (i + nI k) Ln) {S : ST} {μ : Mem} (hC : CR μ S) (hM : MR μ S) (kk : ∀ (S : ST) (μ : Mem), CR μ S → MR μ S → TT X 1205 [.ref 200, .ref 0, .ref 24, .int i] [] μ) : TT X 575 [.ref 200, .ref 0, .ref 24, .int i] [] μ := by
  refine tt_al1 (q := 576) hX dL_law_575 rfl ?_
  refine tt_al0 (q := 577) hX dL_law_576 rfl ?_
  refine tt_il3 (q := 578) hX dL_law_577 rfl ?_
  refine tt_iconst (v := nI 1) (q := 579) hX rfl dL_law_578 rfl ?_
  refine tt_iadd (q := 580) hX dL_law_579 rfl ?_
  refine tt_sr (q := 581) hX hE (hI 1 (by decide)) dL_law_580 rfl ?_
  refine tt_al0 (q := 582) hX dL_law_581 rfl ?_
  refine tt_il3 (q := 583) hX dL_law_582 rfl ?_
  refine tt_iconst (v := nI 2) (q := 584) hX rfl dL_law_583 rfl ?_
  refine tt_iadd (q := 585) hX dL_law_584 rfl ?_
  refine tt_sr (q := 586) hX hE (hI 2 (by decide)) dL_law_585 rfl ?_
  refine tt_cV2 (q := 589) hX (d' := 4) (by decide) kmX8_plan ml_L_75 hoX8 rfl (Nat.le_of_ble_eq_true rfl) dL_law_586 rfl ?_
  refine c_X8_plan hC (fun μ1 f1 hC1 => ?_)
  have hM1 := hM.cls f1
  refine tt_al2 (q := 590) hX dL_law_589 rfl ?_
  refine tt_al0 (q := 591) hX dL_law_590 rfl ?_
  refine tt_il3 (q := 592) hX dL_law_591 rfl ?_
  refine tt_iconst (v := nI 1) (q := 593) hX rfl dL_law_592 rfl ?_
  refine tt_iadd (q := 594) hX dL_law_593 rfl ?_
  refine tt_sr (q := 595) hX hE (hI 1 (by decide)) dL_law_594 rfl ?_
  refine tt_al0 (q := 596) hX dL_law_595 rfl ?_
  refine tt_il3 (q := 597) hX dL_law_596 rfl ?_
  refine tt_iconst (v := nI 2) (q := 598) hX rfl dL_law_597 rfl ?_
  refine tt_iadd (q := 599) hX dL_law_598 rfl ?_
  refine tt_sr (q := 600) hX hE (hI 2 (by decide)) dL_law_599 rfl ?_
  refine tt_cV2 (q := 603) hX (d' := 4) (by decide) kmX9_plan ml_L_78 hoX9 rfl (Nat.le_of_ble_eq_true rfl) dL_law_600 rfl ?_
  refine c_X9_plan hM1 (fun μ2 f2 hM2 => ?_)
  have hC2 := hC1.mdl f2
  refine tt_iceq (q := 606) (t := 1205) hX dL_law_603 rfl (by decide) (fun _ => ?_) (fun z => absurd rfl z)
  exact kk _ _ hC2 hM2
theorem law_16 {X : XT} {l : Launch} {Ln : Nat} {xs : Nat → Int32} (hX : Cx X l 12 mL_law) (hE : LE X Ln xs) {i : Int32} (hI : ∀ k, k < 6 → vp_in (i + nI k) Ln) {S : ST} {μ : Mem} (hC : CR μ S) (hM : MR μ S) (kk : ∀ (S : ST) (μ : Mem), CR μ S → MR μ S → TT X 1205 [.ref 200, .ref 0, .ref 24, .int i] [] μ) : TT X 608 [.ref 200, .ref 0, .ref 24, .int i] [] μ := by
  refine tt_al1 (q := 609) hX dL_law_608 rfl ?_
  refine tt_al0 (q := 610) hX dL_law_609 rfl ?_
  refine tt_il3 (q := 611) hX dL_law_610 rfl ?_
  refine tt_iconst (v := nI 1) (q := 612) hX rfl dL_law_611 rfl ?_
  refine tt_iadd (q := 613) hX dL_law_612 rfl ?_
  refine tt_sr (q := 614) hX hE (hI 1 (by decide)) dL_law_613 rfl ?_
  refine tt_cV1 (q := 617) hX (d' := 3) (by decide) kmX8_cone ml_L_79 hoX8 rfl (Nat.le_of_ble_eq_true rfl) dL_law_614 rfl ?_
  refine c_X8_cone hC (fun μ1 f1 hC1 => ?_)
  have hM1 := hM.cls f1
  refine tt_al2 (q := 618) hX dL_law_617 rfl ?_
  refine tt_al0 (q := 619) hX dL_law_618 rfl ?_
  refine tt_il3 (q := 620) hX dL_law_619 rfl ?_
  refine tt_iconst (v := nI 1) (q := 621) hX rfl dL_law_620 rfl ?_
  refine tt_iadd (q := 622) hX dL_law_621 rfl ?_
  refine tt_sr (q := 623) hX hE (hI 1 (by decide)) dL_law_622 rfl ?_
  refine tt_cV1 (q := 626) hX (d' := 3) (by decide) kmX9_cone ml_L_82 hoX9 rfl (Nat.le_of_ble_eq_true rfl) dL_law_623 rfl ?_
  refine c_X9_cone hM1 (fun μ2 f2 hM2 => ?_)
  have hC2 := hC1.mdl f2
  refine tt_iceq (q := 629) (t := 1205) hX dL_law_626 rfl (by decide) (fun _ => ?_) (fun z => absurd rfl z)
  exact kk _ _ hC2 hM2
theorem law_17 {X : XT} {l : Launch} {Ln : Nat} {xs : Nat → Int32} (hX : Cx X l 12 mL_law) (hE : LE X Ln xs) {i : Int32} (hI : ∀ k, k < 6 → vp_in (i + nI k) Ln) {S : ST} {μ : Mem} (hC : CR μ S) (hM : MR μ S) (kk : ∀ (S : ST) (μ : Mem), CR μ S → MR μ S → TT X 1205 [.ref 200, .ref 0, .ref 24, .int i] [] μ) : TT X 631 [.ref 200, .ref 0, .ref 24, .int i] [] μ := by
  refine tt_al1 (q := 632) hX dL_law_631 rfl ?_
  refine tt_cV0 (q := 635) hX (d' := 4) (by decide) kmX8_back ml_L_83 hoX8 rfl (Nat.le_of_ble_eq_true rfl) dL_law_632 rfl ?_
  refine c_X8_back hC (fun μ1 f1 hC1 => ?_)
  have hM1 := hM.cls f1
  refine tt_al2 (q := 636) hX dL_law_635 rfl ?_
  refine tt_cV0 (q := 639) hX (d' := 2) (by decide) kmX9_back ml_L_87 hoX9 rfl (Nat.le_of_ble_eq_true rfl) dL_law_636 rfl ?_
  refine c_X9_back hM1 (fun μ2 f2 hM2 => ?_)
  have hC2 := hC1.mdl f2
  refine tt_iceq (q := 642) (t := 1205) hX dL_law_639 rfl (by decide) (fun _ => ?_) (fun z => absurd rfl z)
  exact kk _ _ hC2 hM2
theorem law_18 {X : XT} {l : Launch} {Ln : Nat} {xs : Nat → Int32} (hX : Cx X l 12 mL_law) (hE : LE X Ln xs) {i : Int32} (hI : ∀ k, k < 6 → vp_in (i + nI k) Ln) {S : ST} {μ : Mem} (hC : CR μ S) (hM : MR μ S) (kk : ∀ (S : ST) (μ : Mem), CR μ S → MR μ S → TT X 1205 [.ref 200, .ref 0, .ref 24, .int i] [] μ) : TT X 644 [.ref 200, .ref 0, .ref 24, .int i] [] μ := by
  refine tt_al1 (q := 645) hX dL_law_644 rfl ?_
  refine tt_cV0 (q := 648) hX (d' := 3) (by decide) kmX8_keep ml_L_88 hoX8 rfl (Nat.le_of_ble_eq_true rfl) dL_law_645 rfl ?_
  refine c_X8_keep hC (fun μ1 f1 hC1 => ?_)
  have hM1 := hM.cls f1.ol
  refine tt_al2 (q := 649) hX dL_law_648 rfl ?_
  refine tt_cV0 (q := 652) hX (d' := 2) (by decide) kmX9_keep ml_L_91 hoX9 rfl (Nat.le_of_ble_eq_true rfl) dL_law_649 rfl ?_
  refine c_X9_keep hM1 (fun μ2 f2 hM2 => ?_)
  have hC2 := hC1.mdl f2
  refine tt_iceq (q := 655) (t := 1205) hX dL_law_652 rfl (by decide) (fun _ => ?_) (fun z => absurd rfl z)
  exact kk _ _ hC2 hM2
theorem law_19 {X : XT} {l : Launch} {Ln : Nat} {xs : Nat → Int32} (hX : Cx X l 12 mL_law) (hE : LE X Ln xs) {i : Int32} (hI : ∀ k, k < 6 → vp_in (i + nI k) Ln) {S : ST} {μ : Mem} (hC : CR μ S) (hM : MR μ S) (kk : ∀ (S : ST) (μ : Mem), CR μ S → MR μ S → TT X 1205 [.ref 200, .ref 0, .ref 24, .int i] [] μ) : TT X 657 [.ref 200, .ref 0, .ref 24, .int i] [] μ := by
  refine tt_al1 (q := 658) hX dL_law_657 rfl ?_
  refine tt_al0 (q := 659) hX dL_law_658 rfl ?_
  refine tt_il3 (q := 660) hX dL_law_659 rfl ?_
  refine tt_iconst (v := nI 1) (q := 661) hX rfl dL_law_660 rfl ?_
  refine tt_iadd (q := 662) hX dL_law_661 rfl ?_
  refine tt_sr (q := 663) hX hE (hI 1 (by decide)) dL_law_662 rfl ?_
  refine tt_cV1 (q := 666) hX (d' := 3) (by decide) kmX8_take ml_L_92 hoX8 rfl (Nat.le_of_ble_eq_true rfl) dL_law_663 rfl ?_
  refine c_X8_take hC (fun μ1 f1 hC1 => ?_)
  have hM1 := hM.cls f1.ol
  refine tt_al2 (q := 667) hX dL_law_666 rfl ?_
  refine tt_al0 (q := 668) hX dL_law_667 rfl ?_
  refine tt_il3 (q := 669) hX dL_law_668 rfl ?_
  refine tt_iconst (v := nI 1) (q := 670) hX rfl dL_law_669 rfl ?_
  refine tt_iadd (q := 671) hX dL_law_670 rfl ?_
  refine tt_sr (q := 672) hX hE (hI 1 (by decide)) dL_law_671 rfl ?_
  refine tt_cV1 (q := 675) hX (d' := 2) (by decide) kmX9_take ml_L_95 hoX9 rfl (Nat.le_of_ble_eq_true rfl) dL_law_672 rfl ?_
  refine c_X9_take hM1 (fun μ2 f2 hM2 => ?_)
  have hC2 := hC1.mdl f2
  refine tt_iceq (q := 678) (t := 1205) hX dL_law_675 rfl (by decide) (fun _ => ?_) (fun z => absurd rfl z)
  exact kk _ _ hC2 hM2
theorem law_20 {X : XT} {l : Launch} {Ln : Nat} {xs : Nat → Int32} (hX : Cx X l 12 mL_law) (hE : LE X Ln xs) {i : Int32} (hI : ∀ k, k < 6 → vp_in (i + nI k) Ln) {S : ST} {μ : Mem} (hC : CR μ S) (hM : MR μ S) (kk : ∀ (S : ST) (μ : Mem), CR μ S → MR μ S → TT X 1205 [.ref 200, .ref 0, .ref 24, .int i] [] μ) : TT X 680 [.ref 200, .ref 0, .ref 24, .int i] [] μ := by
  refine tt_al1 (q := 681) hX dL_law_680 rfl ?_
  refine tt_al0 (q := 682) hX dL_law_681 rfl ?_
  refine tt_il3 (q := 683) hX dL_law_682 rfl ?_
  refine tt_iconst (v := nI 1) (q := 684) hX rfl dL_law_683 rfl ?_
  refine tt_iadd (q := 685) hX dL_law_684 rfl ?_
  refine tt_sr (q := 686) hX hE (hI 1 (by decide)) dL_law_685 rfl ?_
  refine tt_al0 (q := 687) hX dL_law_686 rfl ?_
  refine tt_il3 (q := 688) hX dL_law_687 rfl ?_
  refine tt_iconst (v := nI 2) (q := 689) hX rfl dL_law_688 rfl ?_
  refine tt_iadd (q := 690) hX dL_law_689 rfl ?_
  refine tt_sr (q := 691) hX hE (hI 2 (by decide)) dL_law_690 rfl ?_
  refine tt_cV2 (q := 694) hX (d' := 3) (by decide) kmX8_kept ml_L_96 hoX8 rfl (Nat.le_of_ble_eq_true rfl) dL_law_691 rfl ?_
  refine c_X8_kept hC (fun μ1 f1 hC1 => ?_)
  have hM1 := hM.cls f1
  refine tt_al2 (q := 695) hX dL_law_694 rfl ?_
  refine tt_al0 (q := 696) hX dL_law_695 rfl ?_
  refine tt_il3 (q := 697) hX dL_law_696 rfl ?_
  refine tt_iconst (v := nI 1) (q := 698) hX rfl dL_law_697 rfl ?_
  refine tt_iadd (q := 699) hX dL_law_698 rfl ?_
  refine tt_sr (q := 700) hX hE (hI 1 (by decide)) dL_law_699 rfl ?_
  refine tt_al0 (q := 701) hX dL_law_700 rfl ?_
  refine tt_il3 (q := 702) hX dL_law_701 rfl ?_
  refine tt_iconst (v := nI 2) (q := 703) hX rfl dL_law_702 rfl ?_
  refine tt_iadd (q := 704) hX dL_law_703 rfl ?_
  refine tt_sr (q := 705) hX hE (hI 2 (by decide)) dL_law_704 rfl ?_
  refine tt_cV2 (q := 708) hX (d' := 4) (by decide) kmX9_kept ml_L_99 hoX9 rfl (Nat.le_of_ble_eq_true rfl) dL_law_705 rfl ?_
  refine c_X9_kept hM1 (fun μ2 f2 hM2 => ?_)
  have hC2 := hC1.mdl f2
  refine tt_iceq (q := 711) (t := 1205) hX dL_law_708 rfl (by decide) (fun _ => ?_) (fun z => absurd rfl z)
  exact kk _ _ hC2 hM2
theorem law_21 {X : XT} {l : Launch} {Ln : Nat} {xs : Nat → Int32} (hX : Cx X l 12 mL_law) (hE : LE X Ln xs) {i : Int32} (hI : ∀ k, k < 6 → vp_in (i + nI k) Ln) {S : ST} {μ : Mem} (hC : CR μ S) (hM : MR μ S) (kk : ∀ (S : ST) (μ : Mem), CR μ S → MR μ S → TT X 1205 [.ref 200, .ref 0, .ref 24, .int i] [] μ) : TT X 713 [.ref 200, .ref 0, .ref 24, .int i] [] μ := by
  refine tt_al1 (q := 714) hX dL_law_713 rfl ?_
  refine tt_al0 (q := 715) hX dL_law_714 rfl ?_
  refine tt_il3 (q := 716) hX dL_law_715 rfl ?_
  refine tt_iconst (v := nI 1) (q := 717) hX rfl dL_law_716 rfl ?_
  refine tt_iadd (q := 718) hX dL_law_717 rfl ?_
  refine tt_sr (q := 719) hX hE (hI 1 (by decide)) dL_law_718 rfl ?_
  refine tt_al0 (q := 720) hX dL_law_719 rfl ?_
  refine tt_il3 (q := 721) hX dL_law_720 rfl ?_
  refine tt_iconst (v := nI 2) (q := 722) hX rfl dL_law_721 rfl ?_
  refine tt_iadd (q := 723) hX dL_law_722 rfl ?_
  refine tt_sr (q := 724) hX hE (hI 2 (by decide)) dL_law_723 rfl ?_
  refine tt_al0 (q := 725) hX dL_law_724 rfl ?_
  refine tt_il3 (q := 726) hX dL_law_725 rfl ?_
  refine tt_iconst (v := nI 3) (q := 727) hX rfl dL_law_726 rfl ?_
  refine tt_iadd (q := 728) hX dL_law_727 rfl ?_
  refine tt_sr (q := 729) hX hE (hI 3 (by decide)) dL_law_728 rfl ?_
  refine tt_cV3 (q := 732) hX (d' := 8) (by decide) kmX8_chain ml_L_100 hoX8 rfl (Nat.le_of_ble_eq_true rfl) dL_law_729 rfl ?_
  refine c_X8_chain hC (fun μ1 f1 hC1 => ?_)
  have hM1 := hM.cls f1
  refine tt_al2 (q := 733) hX dL_law_732 rfl ?_
  refine tt_al0 (q := 734) hX dL_law_733 rfl ?_
  refine tt_il3 (q := 735) hX dL_law_734 rfl ?_
  refine tt_iconst (v := nI 1) (q := 736) hX rfl dL_law_735 rfl ?_
  refine tt_iadd (q := 737) hX dL_law_736 rfl ?_
  refine tt_sr (q := 738) hX hE (hI 1 (by decide)) dL_law_737 rfl ?_
  refine tt_al0 (q := 739) hX dL_law_738 rfl ?_
  refine tt_il3 (q := 740) hX dL_law_739 rfl ?_
  refine tt_iconst (v := nI 2) (q := 741) hX rfl dL_law_740 rfl ?_
  refine tt_iadd (q := 742) hX dL_law_741 rfl ?_
  refine tt_sr (q := 743) hX hE (hI 2 (by decide)) dL_law_742 rfl ?_
  refine tt_al0 (q := 744) hX dL_law_743 rfl ?_
  refine tt_il3 (q := 745) hX dL_law_744 rfl ?_
  refine tt_iconst (v := nI 3) (q := 746) hX rfl dL_law_745 rfl ?_
  refine tt_iadd (q := 747) hX dL_law_746 rfl ?_
  refine tt_sr (q := 748) hX hE (hI 3 (by decide)) dL_law_747 rfl ?_
  refine tt_cV3 (q := 751) hX (d' := 8) (by decide) kmX9_chain ml_L_104 hoX9 rfl (Nat.le_of_ble_eq_true rfl) dL_law_748 rfl ?_
  refine c_X9_chain hM1 (fun μ2 f2 hM2 => ?_)
  have hC2 := hC1.mdl f2
  refine tt_iceq (q := 754) (t := 1205) hX dL_law_751 rfl (by decide) (fun _ => ?_) (fun z => absurd rfl z)
  exact kk _ _ hC2 hM2
theorem law_22 {X : XT} {l : Launch} {Ln : Nat} {xs : Nat → Int32} (hX : Cx X l 12 mL_law) (hE : LE X Ln xs) {i : Int32} (hI : ∀ k, k < 6 → vp_in (i + nI k) Ln) {S : ST} {μ : Mem} (hC : CR μ S) (hM : MR μ S) (kk : ∀ (S : ST) (μ : Mem), CR μ S → MR μ S → TT X 1205 [.ref 200, .ref 0, .ref 24, .int i] [] μ) : TT X 756 [.ref 200, .ref 0, .ref 24, .int i] [] μ := by
  refine tt_al1 (q := 757) hX dL_law_756 rfl ?_
  refine tt_al0 (q := 758) hX dL_law_757 rfl ?_
  refine tt_il3 (q := 759) hX dL_law_758 rfl ?_
  refine tt_iconst (v := nI 1) (q := 760) hX rfl dL_law_759 rfl ?_
  refine tt_iadd (q := 761) hX dL_law_760 rfl ?_
  refine tt_sr (q := 762) hX hE (hI 1 (by decide)) dL_law_761 rfl ?_
  refine tt_al0 (q := 763) hX dL_law_762 rfl ?_
  refine tt_il3 (q := 764) hX dL_law_763 rfl ?_
  refine tt_iconst (v := nI 2) (q := 765) hX rfl dL_law_764 rfl ?_
  refine tt_iadd (q := 766) hX dL_law_765 rfl ?_
  refine tt_sr (q := 767) hX hE (hI 2 (by decide)) dL_law_766 rfl ?_
  refine tt_cV2 (q := 770) hX (d' := 11) (by decide) kmX8_alike ml_L_105 hoX8 rfl (Nat.le_of_ble_eq_true rfl) dL_law_767 rfl ?_
  refine c_X8_alike hC (fun μ1 f1 hC1 => ?_)
  have hM1 := hM.cls f1
  refine tt_al2 (q := 771) hX dL_law_770 rfl ?_
  refine tt_al0 (q := 772) hX dL_law_771 rfl ?_
  refine tt_il3 (q := 773) hX dL_law_772 rfl ?_
  refine tt_iconst (v := nI 1) (q := 774) hX rfl dL_law_773 rfl ?_
  refine tt_iadd (q := 775) hX dL_law_774 rfl ?_
  refine tt_sr (q := 776) hX hE (hI 1 (by decide)) dL_law_775 rfl ?_
  refine tt_al0 (q := 777) hX dL_law_776 rfl ?_
  refine tt_il3 (q := 778) hX dL_law_777 rfl ?_
  refine tt_iconst (v := nI 2) (q := 779) hX rfl dL_law_778 rfl ?_
  refine tt_iadd (q := 780) hX dL_law_779 rfl ?_
  refine tt_sr (q := 781) hX hE (hI 2 (by decide)) dL_law_780 rfl ?_
  refine tt_cV2 (q := 784) hX (d' := 10) (by decide) kmX9_alike ml_L_108 hoX9 rfl (Nat.le_of_ble_eq_true rfl) dL_law_781 rfl ?_
  refine c_X9_alike hM1 (fun μ2 f2 hM2 => ?_)
  have hC2 := hC1.mdl f2
  refine tt_iceq (q := 787) (t := 1205) hX dL_law_784 rfl (by decide) (fun _ => ?_) (fun z => absurd rfl z)
  exact kk _ _ hC2 hM2
theorem law_23 {X : XT} {l : Launch} {Ln : Nat} {xs : Nat → Int32} (hX : Cx X l 12 mL_law) (hE : LE X Ln xs) {i : Int32} (hI : ∀ k, k < 6 → vp_in (i + nI k) Ln) {S : ST} {μ : Mem} (hC : CR μ S) (hM : MR μ S) (kk : ∀ (S : ST) (μ : Mem), CR μ S → MR μ S → TT X 1205 [.ref 200, .ref 0, .ref 24, .int i] [] μ) : TT X 789 [.ref 200, .ref 0, .ref 24, .int i] [] μ := by
  refine tt_al1 (q := 790) hX dL_law_789 rfl ?_
  refine tt_al0 (q := 791) hX dL_law_790 rfl ?_
  refine tt_il3 (q := 792) hX dL_law_791 rfl ?_
  refine tt_iconst (v := nI 1) (q := 793) hX rfl dL_law_792 rfl ?_
  refine tt_iadd (q := 794) hX dL_law_793 rfl ?_
  refine tt_sr (q := 795) hX hE (hI 1 (by decide)) dL_law_794 rfl ?_
  refine tt_al0 (q := 796) hX dL_law_795 rfl ?_
  refine tt_il3 (q := 797) hX dL_law_796 rfl ?_
  refine tt_iconst (v := nI 2) (q := 798) hX rfl dL_law_797 rfl ?_
  refine tt_iadd (q := 799) hX dL_law_798 rfl ?_
  refine tt_sr (q := 800) hX hE (hI 2 (by decide)) dL_law_799 rfl ?_
  refine tt_cV2 (q := 803) hX (d' := 3) (by decide) kmX8_common ml_L_109 hoX8 rfl (Nat.le_of_ble_eq_true rfl) dL_law_800 rfl ?_
  refine c_X8_common hC (fun μ1 f1 hC1 => ?_)
  have hM1 := hM.cls f1
  refine tt_al2 (q := 804) hX dL_law_803 rfl ?_
  refine tt_al0 (q := 805) hX dL_law_804 rfl ?_
  refine tt_il3 (q := 806) hX dL_law_805 rfl ?_
  refine tt_iconst (v := nI 1) (q := 807) hX rfl dL_law_806 rfl ?_
  refine tt_iadd (q := 808) hX dL_law_807 rfl ?_
  refine tt_sr (q := 809) hX hE (hI 1 (by decide)) dL_law_808 rfl ?_
  refine tt_al0 (q := 810) hX dL_law_809 rfl ?_
  refine tt_il3 (q := 811) hX dL_law_810 rfl ?_
  refine tt_iconst (v := nI 2) (q := 812) hX rfl dL_law_811 rfl ?_
  refine tt_iadd (q := 813) hX dL_law_812 rfl ?_
  refine tt_sr (q := 814) hX hE (hI 2 (by decide)) dL_law_813 rfl ?_
  refine tt_cV2 (q := 817) hX (d' := 2) (by decide) kmX9_common ml_L_112 hoX9 rfl (Nat.le_of_ble_eq_true rfl) dL_law_814 rfl ?_
  refine c_X9_common hM1 (fun μ2 f2 hM2 => ?_)
  have hC2 := hC1.mdl f2
  refine tt_iceq (q := 820) (t := 1205) hX dL_law_817 rfl (by decide) (fun _ => ?_) (fun z => absurd rfl z)
  exact kk _ _ hC2 hM2
theorem law_24 {X : XT} {l : Launch} {Ln : Nat} {xs : Nat → Int32} (hX : Cx X l 12 mL_law) (hE : LE X Ln xs) {i : Int32} (hI : ∀ k, k < 6 → vp_in (i + nI k) Ln) {S : ST} {μ : Mem} (hC : CR μ S) (hM : MR μ S) (kk : ∀ (S : ST) (μ : Mem), CR μ S → MR μ S → TT X 1205 [.ref 200, .ref 0, .ref 24, .int i] [] μ) : TT X 822 [.ref 200, .ref 0, .ref 24, .int i] [] μ := by
  refine tt_al1 (q := 823) hX dL_law_822 rfl ?_
  refine tt_al0 (q := 824) hX dL_law_823 rfl ?_
  refine tt_il3 (q := 825) hX dL_law_824 rfl ?_
  refine tt_iconst (v := nI 1) (q := 826) hX rfl dL_law_825 rfl ?_
  refine tt_iadd (q := 827) hX dL_law_826 rfl ?_
  refine tt_sr (q := 828) hX hE (hI 1 (by decide)) dL_law_827 rfl ?_
  refine tt_cV1 (q := 831) hX (d' := 4) (by decide) kmX8_fewer ml_L_113 hoX8 rfl (Nat.le_of_ble_eq_true rfl) dL_law_828 rfl ?_
  refine c_X8_fewer hC (fun μ1 f1 hC1 => ?_)
  have hM1 := hM.cls f1
  refine tt_al2 (q := 832) hX dL_law_831 rfl ?_
  refine tt_al0 (q := 833) hX dL_law_832 rfl ?_
  refine tt_il3 (q := 834) hX dL_law_833 rfl ?_
  refine tt_iconst (v := nI 1) (q := 835) hX rfl dL_law_834 rfl ?_
  refine tt_iadd (q := 836) hX dL_law_835 rfl ?_
  refine tt_sr (q := 837) hX hE (hI 1 (by decide)) dL_law_836 rfl ?_
  refine tt_cV1 (q := 840) hX (d' := 4) (by decide) kmX9_fewer ml_L_116 hoX9 rfl (Nat.le_of_ble_eq_true rfl) dL_law_837 rfl ?_
  refine c_X9_fewer hM1 (fun μ2 f2 hM2 => ?_)
  have hC2 := hC1.mdl f2
  refine tt_iceq (q := 843) (t := 1205) hX dL_law_840 rfl (by decide) (fun _ => ?_) (fun z => absurd rfl z)
  exact kk _ _ hC2 hM2
theorem law_25 {X : XT} {l : Launch} {Ln : Nat} {xs : Nat → Int32} (hX : Cx X l 12 mL_law) (hE : LE X Ln xs) {i : Int32} (hI : ∀ k, k < 6 → vp_in (i + nI k) Ln) {S : ST} {μ : Mem} (hC : CR μ S) (hM : MR μ S) (kk : ∀ (S : ST) (μ : Mem), CR μ S → MR μ S → TT X 1205 [.ref 200, .ref 0, .ref 24, .int i] [] μ) : TT X 845 [.ref 200, .ref 0, .ref 24, .int i] [] μ := by
  refine tt_al1 (q := 846) hX dL_law_845 rfl ?_
  refine tt_al0 (q := 847) hX dL_law_846 rfl ?_
  refine tt_il3 (q := 848) hX dL_law_847 rfl ?_
  refine tt_iconst (v := nI 1) (q := 849) hX rfl dL_law_848 rfl ?_
  refine tt_iadd (q := 850) hX dL_law_849 rfl ?_
  refine tt_sr (q := 851) hX hE (hI 1 (by decide)) dL_law_850 rfl ?_
  refine tt_al0 (q := 852) hX dL_law_851 rfl ?_
  refine tt_il3 (q := 853) hX dL_law_852 rfl ?_
  refine tt_iconst (v := nI 2) (q := 854) hX rfl dL_law_853 rfl ?_
  refine tt_iadd (q := 855) hX dL_law_854 rfl ?_
  refine tt_sr (q := 856) hX hE (hI 2 (by decide)) dL_law_855 rfl ?_
  refine tt_al0 (q := 857) hX dL_law_856 rfl ?_
  refine tt_il3 (q := 858) hX dL_law_857 rfl ?_
  refine tt_iconst (v := nI 3) (q := 859) hX rfl dL_law_858 rfl ?_
  refine tt_iadd (q := 860) hX dL_law_859 rfl ?_
  refine tt_sr (q := 861) hX hE (hI 3 (by decide)) dL_law_860 rfl ?_
  refine tt_cV3 (q := 864) hX (d' := 4) (by decide) kmX8_walk ml_L_117 hoX8 rfl (Nat.le_of_ble_eq_true rfl) dL_law_861 rfl ?_
  refine c_X8_walk hC (fun μ1 f1 hC1 => ?_)
  have hM1 := hM.cls f1
  refine tt_al2 (q := 865) hX dL_law_864 rfl ?_
  refine tt_al0 (q := 866) hX dL_law_865 rfl ?_
  refine tt_il3 (q := 867) hX dL_law_866 rfl ?_
  refine tt_iconst (v := nI 1) (q := 868) hX rfl dL_law_867 rfl ?_
  refine tt_iadd (q := 869) hX dL_law_868 rfl ?_
  refine tt_sr (q := 870) hX hE (hI 1 (by decide)) dL_law_869 rfl ?_
  refine tt_al0 (q := 871) hX dL_law_870 rfl ?_
  refine tt_il3 (q := 872) hX dL_law_871 rfl ?_
  refine tt_iconst (v := nI 2) (q := 873) hX rfl dL_law_872 rfl ?_
  refine tt_iadd (q := 874) hX dL_law_873 rfl ?_
  refine tt_sr (q := 875) hX hE (hI 2 (by decide)) dL_law_874 rfl ?_
  refine tt_al0 (q := 876) hX dL_law_875 rfl ?_
  refine tt_il3 (q := 877) hX dL_law_876 rfl ?_
  refine tt_iconst (v := nI 3) (q := 878) hX rfl dL_law_877 rfl ?_
  refine tt_iadd (q := 879) hX dL_law_878 rfl ?_
  refine tt_sr (q := 880) hX hE (hI 3 (by decide)) dL_law_879 rfl ?_
  refine tt_cV3 (q := 883) hX (d' := 4) (by decide) kmX9_walk ml_L_120 hoX9 rfl (Nat.le_of_ble_eq_true rfl) dL_law_880 rfl ?_
  refine c_X9_walk hM1 (fun μ2 f2 hM2 => ?_)
  have hC2 := hC1.mdl f2
  refine tt_iceq (q := 886) (t := 1205) hX dL_law_883 rfl (by decide) (fun _ => ?_) (fun z => absurd rfl z)
  exact kk _ _ hC2 hM2
theorem law_26 {X : XT} {l : Launch} {Ln : Nat} {xs : Nat → Int32} (hX : Cx X l 12 mL_law) (hE : LE X Ln xs) {i : Int32} (hI : ∀ k, k < 6 → vp_in (i + nI k) Ln) {S : ST} {μ : Mem} (hC : CR μ S) (hM : MR μ S) (kk : ∀ (S : ST) (μ : Mem), CR μ S → MR μ S → TT X 1205 [.ref 200, .ref 0, .ref 24, .int i] [] μ) : TT X 888 [.ref 200, .ref 0, .ref 24, .int i] [] μ := by
  refine tt_al1 (q := 889) hX dL_law_888 rfl ?_
  refine tt_al0 (q := 890) hX dL_law_889 rfl ?_
  refine tt_il3 (q := 891) hX dL_law_890 rfl ?_
  refine tt_iconst (v := nI 1) (q := 892) hX rfl dL_law_891 rfl ?_
  refine tt_iadd (q := 893) hX dL_law_892 rfl ?_
  refine tt_sr (q := 894) hX hE (hI 1 (by decide)) dL_law_893 rfl ?_
  refine tt_cV1 (q := 897) hX (d' := 1) (by decide) kmX8_feed ml_L_121 hoX8 rfl (Nat.le_of_ble_eq_true rfl) dL_law_894 rfl ?_
  refine c_X8_feed hC (fun μ1 f1 hC1 => ?_)
  have hM1 := hM.cls f1
  refine tt_al2 (q := 898) hX dL_law_897 rfl ?_
  refine tt_al0 (q := 899) hX dL_law_898 rfl ?_
  refine tt_il3 (q := 900) hX dL_law_899 rfl ?_
  refine tt_iconst (v := nI 1) (q := 901) hX rfl dL_law_900 rfl ?_
  refine tt_iadd (q := 902) hX dL_law_901 rfl ?_
  refine tt_sr (q := 903) hX hE (hI 1 (by decide)) dL_law_902 rfl ?_
  refine tt_cV1 (q := 906) hX (d' := 1) (by decide) kmX9_feed ml_L_124 hoX9 rfl (Nat.le_of_ble_eq_true rfl) dL_law_903 rfl ?_
  refine c_X9_feed hM1 (fun μ2 f2 hM2 => ?_)
  have hC2 := hC1.mdl f2
  refine tt_iceq (q := 909) (t := 1205) hX dL_law_906 rfl (by decide) (fun _ => ?_) (fun z => absurd rfl z)
  exact kk _ _ hC2 hM2
theorem law_27 {X : XT} {l : Launch} {Ln : Nat} {xs : Nat → Int32} (hX : Cx X l 12 mL_law) (hE : LE X Ln xs) {i : Int32} (hI : ∀ k, k < 6 → vp_in (i + nI k) Ln) {S : ST} {μ : Mem} (hC : CR μ S) (hM : MR μ S) (kk : ∀ (S : ST) (μ : Mem), CR μ S → MR μ S → TT X 1205 [.ref 200, .ref 0, .ref 24, .int i] [] μ) : TT X 911 [.ref 200, .ref 0, .ref 24, .int i] [] μ := by
  refine tt_al1 (q := 912) hX dL_law_911 rfl ?_
  refine tt_cV0 (q := 915) hX (d' := 7) (by decide) kmX8_read ml_L_125 hoX8 rfl (Nat.le_of_ble_eq_true rfl) dL_law_912 rfl ?_
  refine c_X8_read hC (fun μ1 f1 hC1 => ?_)
  have hM1 := hM.cls f1
  refine tt_al2 (q := 916) hX dL_law_915 rfl ?_
  refine tt_cV0 (q := 919) hX (d' := 7) (by decide) kmX9_read ml_L_128 hoX9 rfl (Nat.le_of_ble_eq_true rfl) dL_law_916 rfl ?_
  refine c_X9_read hM1 (fun μ2 f2 hM2 => ?_)
  have hC2 := hC1.mdl f2
  refine tt_iceq (q := 922) (t := 1205) hX dL_law_919 rfl (by decide) (fun _ => ?_) (fun z => absurd rfl z)
  exact kk _ _ hC2 hM2
theorem law_28 {X : XT} {l : Launch} {Ln : Nat} {xs : Nat → Int32} (hX : Cx X l 12 mL_law) (hE : LE X Ln xs) {i : Int32} (hI : ∀ k, k < 6 → vp_in (i + nI k) Ln) {S : ST} {μ : Mem} (hC : CR μ S) (hM : MR μ S) (kk : ∀ (S : ST) (μ : Mem), CR μ S → MR μ S → TT X 1205 [.ref 200, .ref 0, .ref 24, .int i] [] μ) : TT X 924 [.ref 200, .ref 0, .ref 24, .int i] [] μ := by
  refine tt_al1 (q := 925) hX dL_law_924 rfl ?_
  refine tt_cV0 (q := 928) hX (d' := 2) (by decide) kmX8_spell ml_L_129 hoX8 rfl (Nat.le_of_ble_eq_true rfl) dL_law_925 rfl ?_
  refine c_X8_spell hC (fun μ1 f1 hC1 => ?_)
  have hM1 := hM.cls f1
  refine tt_al2 (q := 929) hX dL_law_928 rfl ?_
  refine tt_cV0 (q := 932) hX (d' := 1) (by decide) kmX9_spell ml_L_132 hoX9 rfl (Nat.le_of_ble_eq_true rfl) dL_law_929 rfl ?_
  refine c_X9_spell hM1 (fun μ2 f2 hM2 => ?_)
  have hC2 := hC1.mdl f2
  refine tt_iceq (q := 935) (t := 1205) hX dL_law_932 rfl (by decide) (fun _ => ?_) (fun z => absurd rfl z)
  exact kk _ _ hC2 hM2
theorem law_29 {X : XT} {l : Launch} {Ln : Nat} {xs : Nat → Int32} (hX : Cx X l 12 mL_law) (hE : LE X Ln xs) {i : Int32} (hI : ∀ k, k < 6 → vp_in (i + nI k) Ln) {S : ST} {μ : Mem} (hC : CR μ S) (hM : MR μ S) (kk : ∀ (S : ST) (μ : Mem), CR μ S → MR μ S → TT X 1205 [.ref 200, .ref 0, .ref 24, .int i] [] μ) : TT X 937 [.ref 200, .ref 0, .ref 24, .int i] [] μ := by
  refine tt_al1 (q := 938) hX dL_law_937 rfl ?_
  refine tt_al0 (q := 939) hX dL_law_938 rfl ?_
  refine tt_il3 (q := 940) hX dL_law_939 rfl ?_
  refine tt_iconst (v := nI 1) (q := 941) hX rfl dL_law_940 rfl ?_
  refine tt_iadd (q := 942) hX dL_law_941 rfl ?_
  refine tt_sr (q := 943) hX hE (hI 1 (by decide)) dL_law_942 rfl ?_
  refine tt_cV1 (q := 946) hX (d' := 0) (by decide) kmX8_paper ml_L_133 hoX8 rfl (Nat.le_of_ble_eq_true rfl) dL_law_943 rfl ?_
  refine c_X8_paper hC (fun μ1 f1 hC1 => ?_)
  have hM1 := hM.cls f1
  refine tt_al2 (q := 947) hX dL_law_946 rfl ?_
  refine tt_al0 (q := 948) hX dL_law_947 rfl ?_
  refine tt_il3 (q := 949) hX dL_law_948 rfl ?_
  refine tt_iconst (v := nI 1) (q := 950) hX rfl dL_law_949 rfl ?_
  refine tt_iadd (q := 951) hX dL_law_950 rfl ?_
  refine tt_sr (q := 952) hX hE (hI 1 (by decide)) dL_law_951 rfl ?_
  refine tt_cV1 (q := 955) hX (d' := 1) (by decide) kmX9_paper ml_L_136 hoX9 rfl (Nat.le_of_ble_eq_true rfl) dL_law_952 rfl ?_
  refine c_X9_paper hM1 (fun μ2 f2 hM2 => ?_)
  have hC2 := hC1.mdl f2
  refine tt_iceq (q := 958) (t := 1205) hX dL_law_955 rfl (by decide) (fun _ => ?_) (fun z => absurd rfl z)
  exact kk _ _ hC2 hM2
theorem law_30 {X : XT} {l : Launch} {Ln : Nat} {xs : Nat → Int32} (hX : Cx X l 12 mL_law) (hE : LE X Ln xs) {i : Int32} (hI : ∀ k, k < 6 → vp_in (i + nI k) Ln) {S : ST} {μ : Mem} (hC : CR μ S) (hM : MR μ S) (kk : ∀ (S : ST) (μ : Mem), CR μ S → MR μ S → TT X 1205 [.ref 200, .ref 0, .ref 24, .int i] [] μ) : TT X 960 [.ref 200, .ref 0, .ref 24, .int i] [] μ := by
  refine tt_al1 (q := 961) hX dL_law_960 rfl ?_
  refine tt_al0 (q := 962) hX dL_law_961 rfl ?_
  refine tt_il3 (q := 963) hX dL_law_962 rfl ?_
  refine tt_iconst (v := nI 1) (q := 964) hX rfl dL_law_963 rfl ?_
  refine tt_iadd (q := 965) hX dL_law_964 rfl ?_
  refine tt_sr (q := 966) hX hE (hI 1 (by decide)) dL_law_965 rfl ?_
  refine tt_cV1 (q := 969) hX (d' := 2) (by decide) kmX8_judge ml_L_137 hoX8 rfl (Nat.le_of_ble_eq_true rfl) dL_law_966 rfl ?_
  refine c_X8_judge hC (fun μ1 f1 hC1 => ?_)
  have hM1 := hM.cls f1
  refine tt_al2 (q := 970) hX dL_law_969 rfl ?_
  refine tt_al0 (q := 971) hX dL_law_970 rfl ?_
  refine tt_il3 (q := 972) hX dL_law_971 rfl ?_
  refine tt_iconst (v := nI 1) (q := 973) hX rfl dL_law_972 rfl ?_
  refine tt_iadd (q := 974) hX dL_law_973 rfl ?_
  refine tt_sr (q := 975) hX hE (hI 1 (by decide)) dL_law_974 rfl ?_
  refine tt_cV1 (q := 978) hX (d' := 2) (by decide) kmX9_judge ml_L_140 hoX9 rfl (Nat.le_of_ble_eq_true rfl) dL_law_975 rfl ?_
  refine c_X9_judge hM1 (fun μ2 f2 hM2 => ?_)
  have hC2 := hC1.mdl f2
  refine tt_iceq (q := 981) (t := 1205) hX dL_law_978 rfl (by decide) (fun _ => ?_) (fun z => absurd rfl z)
  exact kk _ _ hC2 hM2
theorem law_31 {X : XT} {l : Launch} {Ln : Nat} {xs : Nat → Int32} (hX : Cx X l 12 mL_law) (hE : LE X Ln xs) {i : Int32} (hI : ∀ k, k < 6 → vp_in (i + nI k) Ln) {S : ST} {μ : Mem} (hC : CR μ S) (hM : MR μ S) (kk : ∀ (S : ST) (μ : Mem), CR μ S → MR μ S → TT X 1205 [.ref 200, .ref 0, .ref 24, .int i] [] μ) : TT X 983 [.ref 200, .ref 0, .ref 24, .int i] [] μ := by
  refine tt_al1 (q := 984) hX dL_law_983 rfl ?_
  refine tt_al0 (q := 985) hX dL_law_984 rfl ?_
  refine tt_il3 (q := 986) hX dL_law_985 rfl ?_
  refine tt_iconst (v := nI 1) (q := 987) hX rfl dL_law_986 rfl ?_
  refine tt_iadd (q := 988) hX dL_law_987 rfl ?_
  refine tt_sr (q := 989) hX hE (hI 1 (by decide)) dL_law_988 rfl ?_
  refine tt_al0 (q := 990) hX dL_law_989 rfl ?_
  refine tt_il3 (q := 991) hX dL_law_990 rfl ?_
  refine tt_iconst (v := nI 2) (q := 992) hX rfl dL_law_991 rfl ?_
  refine tt_iadd (q := 993) hX dL_law_992 rfl ?_
  refine tt_sr (q := 994) hX hE (hI 2 (by decide)) dL_law_993 rfl ?_
  refine tt_cV2 (q := 997) hX (d' := 2) (by decide) kmX8_list ml_L_141 hoX8 rfl (Nat.le_of_ble_eq_true rfl) dL_law_994 rfl ?_
  refine c_X8_list hC (fun μ1 f1 hC1 => ?_)
  have hM1 := hM.cls f1
  refine tt_al2 (q := 998) hX dL_law_997 rfl ?_
  refine tt_al0 (q := 999) hX dL_law_998 rfl ?_
  refine tt_il3 (q := 1000) hX dL_law_999 rfl ?_
  refine tt_iconst (v := nI 1) (q := 1001) hX rfl dL_law_1000 rfl ?_
  refine tt_iadd (q := 1002) hX dL_law_1001 rfl ?_
  refine tt_sr (q := 1003) hX hE (hI 1 (by decide)) dL_law_1002 rfl ?_
  refine tt_al0 (q := 1004) hX dL_law_1003 rfl ?_
  refine tt_il3 (q := 1005) hX dL_law_1004 rfl ?_
  refine tt_iconst (v := nI 2) (q := 1006) hX rfl dL_law_1005 rfl ?_
  refine tt_iadd (q := 1007) hX dL_law_1006 rfl ?_
  refine tt_sr (q := 1008) hX hE (hI 2 (by decide)) dL_law_1007 rfl ?_
  refine tt_cV2 (q := 1011) hX (d' := 2) (by decide) kmX9_list ml_L_144 hoX9 rfl (Nat.le_of_ble_eq_true rfl) dL_law_1008 rfl ?_
  refine c_X9_list hM1 (fun μ2 f2 hM2 => ?_)
  have hC2 := hC1.mdl f2
  refine tt_iceq (q := 1014) (t := 1205) hX dL_law_1011 rfl (by decide) (fun _ => ?_) (fun z => absurd rfl z)
  exact kk _ _ hC2 hM2
theorem law_32 {X : XT} {l : Launch} {Ln : Nat} {xs : Nat → Int32} (hX : Cx X l 12 mL_law) (hE : LE X Ln xs) {i : Int32} (hI : ∀ k, k < 6 → vp_in (i + nI k) Ln) {S : ST} {μ : Mem} (hC : CR μ S) (hM : MR μ S) (kk : ∀ (S : ST) (μ : Mem), CR μ S → MR μ S → TT X 1205 [.ref 200, .ref 0, .ref 24, .int i] [] μ) : TT X 1016 [.ref 200, .ref 0, .ref 24, .int i] [] μ := by
  refine tt_al1 (q := 1017) hX dL_law_1016 rfl ?_
  refine tt_al0 (q := 1018) hX dL_law_1017 rfl ?_
  refine tt_il3 (q := 1019) hX dL_law_1018 rfl ?_
  refine tt_iconst (v := nI 1) (q := 1020) hX rfl dL_law_1019 rfl ?_
  refine tt_iadd (q := 1021) hX dL_law_1020 rfl ?_
  refine tt_sr (q := 1022) hX hE (hI 1 (by decide)) dL_law_1021 rfl ?_
  refine tt_al0 (q := 1023) hX dL_law_1022 rfl ?_
  refine tt_il3 (q := 1024) hX dL_law_1023 rfl ?_
  refine tt_iconst (v := nI 2) (q := 1025) hX rfl dL_law_1024 rfl ?_
  refine tt_iadd (q := 1026) hX dL_law_1025 rfl ?_
  refine tt_sr (q := 1027) hX hE (hI 2 (by decide)) dL_law_1026 rfl ?_
  refine tt_al0 (q := 1028) hX dL_law_1027 rfl ?_
  refine tt_il3 (q := 1029) hX dL_law_1028 rfl ?_
  refine tt_iconst (v := nI 3) (q := 1030) hX rfl dL_law_1029 rfl ?_
  refine tt_iadd (q := 1031) hX dL_law_1030 rfl ?_
  refine tt_sr (q := 1032) hX hE (hI 3 (by decide)) dL_law_1031 rfl ?_
  refine tt_cV3 (q := 1035) hX (d' := 2) (by decide) kmX8_put ml_L_145 hoX8 rfl (Nat.le_of_ble_eq_true rfl) dL_law_1032 rfl ?_
  refine c_X8_put hC (fun μ1 f1 hC1 => ?_)
  have hM1 := hM.cls f1
  refine tt_al2 (q := 1036) hX dL_law_1035 rfl ?_
  refine tt_al0 (q := 1037) hX dL_law_1036 rfl ?_
  refine tt_il3 (q := 1038) hX dL_law_1037 rfl ?_
  refine tt_iconst (v := nI 1) (q := 1039) hX rfl dL_law_1038 rfl ?_
  refine tt_iadd (q := 1040) hX dL_law_1039 rfl ?_
  refine tt_sr (q := 1041) hX hE (hI 1 (by decide)) dL_law_1040 rfl ?_
  refine tt_al0 (q := 1042) hX dL_law_1041 rfl ?_
  refine tt_il3 (q := 1043) hX dL_law_1042 rfl ?_
  refine tt_iconst (v := nI 2) (q := 1044) hX rfl dL_law_1043 rfl ?_
  refine tt_iadd (q := 1045) hX dL_law_1044 rfl ?_
  refine tt_sr (q := 1046) hX hE (hI 2 (by decide)) dL_law_1045 rfl ?_
  refine tt_al0 (q := 1047) hX dL_law_1046 rfl ?_
  refine tt_il3 (q := 1048) hX dL_law_1047 rfl ?_
  refine tt_iconst (v := nI 3) (q := 1049) hX rfl dL_law_1048 rfl ?_
  refine tt_iadd (q := 1050) hX dL_law_1049 rfl ?_
  refine tt_sr (q := 1051) hX hE (hI 3 (by decide)) dL_law_1050 rfl ?_
  refine tt_cV3 (q := 1054) hX (d' := 2) (by decide) kmX9_put ml_L_148 hoX9 rfl (Nat.le_of_ble_eq_true rfl) dL_law_1051 rfl ?_
  refine c_X9_put hM1 (fun μ2 f2 hM2 => ?_)
  have hC2 := hC1.mdl f2
  refine tt_iceq (q := 1057) (t := 1205) hX dL_law_1054 rfl (by decide) (fun _ => ?_) (fun z => absurd rfl z)
  exact kk _ _ hC2 hM2
theorem law_33 {X : XT} {l : Launch} {Ln : Nat} {xs : Nat → Int32} (hX : Cx X l 12 mL_law) (hE : LE X Ln xs) {i : Int32} (hI : ∀ k, k < 6 → vp_in (i + nI k) Ln) {S : ST} {μ : Mem} (hC : CR μ S) (hM : MR μ S) (kk : ∀ (S : ST) (μ : Mem), CR μ S → MR μ S → TT X 1205 [.ref 200, .ref 0, .ref 24, .int i] [] μ) : TT X 1059 [.ref 200, .ref 0, .ref 24, .int i] [] μ := by
  refine tt_al1 (q := 1060) hX dL_law_1059 rfl ?_
  refine tt_al0 (q := 1061) hX dL_law_1060 rfl ?_
  refine tt_il3 (q := 1062) hX dL_law_1061 rfl ?_
  refine tt_iconst (v := nI 1) (q := 1063) hX rfl dL_law_1062 rfl ?_
  refine tt_iadd (q := 1064) hX dL_law_1063 rfl ?_
  refine tt_sr (q := 1065) hX hE (hI 1 (by decide)) dL_law_1064 rfl ?_
  refine tt_al0 (q := 1066) hX dL_law_1065 rfl ?_
  refine tt_il3 (q := 1067) hX dL_law_1066 rfl ?_
  refine tt_iconst (v := nI 2) (q := 1068) hX rfl dL_law_1067 rfl ?_
  refine tt_iadd (q := 1069) hX dL_law_1068 rfl ?_
  refine tt_sr (q := 1070) hX hE (hI 2 (by decide)) dL_law_1069 rfl ?_
  refine tt_cV2 (q := 1073) hX (d' := 2) (by decide) kmX8_get ml_L_149 hoX8 rfl (Nat.le_of_ble_eq_true rfl) dL_law_1070 rfl ?_
  refine c_X8_get hC (fun μ1 f1 hC1 => ?_)
  have hM1 := hM.cls f1
  refine tt_al2 (q := 1074) hX dL_law_1073 rfl ?_
  refine tt_al0 (q := 1075) hX dL_law_1074 rfl ?_
  refine tt_il3 (q := 1076) hX dL_law_1075 rfl ?_
  refine tt_iconst (v := nI 1) (q := 1077) hX rfl dL_law_1076 rfl ?_
  refine tt_iadd (q := 1078) hX dL_law_1077 rfl ?_
  refine tt_sr (q := 1079) hX hE (hI 1 (by decide)) dL_law_1078 rfl ?_
  refine tt_al0 (q := 1080) hX dL_law_1079 rfl ?_
  refine tt_il3 (q := 1081) hX dL_law_1080 rfl ?_
  refine tt_iconst (v := nI 2) (q := 1082) hX rfl dL_law_1081 rfl ?_
  refine tt_iadd (q := 1083) hX dL_law_1082 rfl ?_
  refine tt_sr (q := 1084) hX hE (hI 2 (by decide)) dL_law_1083 rfl ?_
  refine tt_cV2 (q := 1087) hX (d' := 2) (by decide) kmX9_get ml_L_153 hoX9 rfl (Nat.le_of_ble_eq_true rfl) dL_law_1084 rfl ?_
  refine c_X9_get hM1 (fun μ2 f2 hM2 => ?_)
  have hC2 := hC1.mdl f2
  refine tt_lcmpE (q := 1088) hX dL_law_1087 rfl ?_
  refine tt_ifeq (q := 1091) (t := 1205) hX dL_law_1088 rfl (by decide) (fun _ => ?_) (fun z => absurd rfl z)
  exact kk _ _ hC2 hM2
theorem law_34 {X : XT} {l : Launch} {Ln : Nat} {xs : Nat → Int32} (hX : Cx X l 12 mL_law) (hE : LE X Ln xs) {i : Int32} (hI : ∀ k, k < 6 → vp_in (i + nI k) Ln) {S : ST} {μ : Mem} (hC : CR μ S) (hM : MR μ S) (kk : ∀ (S : ST) (μ : Mem), CR μ S → MR μ S → TT X 1205 [.ref 200, .ref 0, .ref 24, .int i] [] μ) : TT X 1093 [.ref 200, .ref 0, .ref 24, .int i] [] μ := by
  refine tt_al1 (q := 1094) hX dL_law_1093 rfl ?_
  refine tt_al0 (q := 1095) hX dL_law_1094 rfl ?_
  refine tt_il3 (q := 1096) hX dL_law_1095 rfl ?_
  refine tt_iconst (v := nI 1) (q := 1097) hX rfl dL_law_1096 rfl ?_
  refine tt_iadd (q := 1098) hX dL_law_1097 rfl ?_
  refine tt_sr (q := 1099) hX hE (hI 1 (by decide)) dL_law_1098 rfl ?_
  refine tt_al0 (q := 1100) hX dL_law_1099 rfl ?_
  refine tt_il3 (q := 1101) hX dL_law_1100 rfl ?_
  refine tt_iconst (v := nI 2) (q := 1102) hX rfl dL_law_1101 rfl ?_
  refine tt_iadd (q := 1103) hX dL_law_1102 rfl ?_
  refine tt_sr (q := 1104) hX hE (hI 2 (by decide)) dL_law_1103 rfl ?_
  refine tt_al0 (q := 1105) hX dL_law_1104 rfl ?_
  refine tt_il3 (q := 1106) hX dL_law_1105 rfl ?_
  refine tt_iconst (v := nI 3) (q := 1107) hX rfl dL_law_1106 rfl ?_
  refine tt_iadd (q := 1108) hX dL_law_1107 rfl ?_
  refine tt_sr (q := 1109) hX hE (hI 3 (by decide)) dL_law_1108 rfl ?_
  refine tt_al0 (q := 1110) hX dL_law_1109 rfl ?_
  refine tt_il3 (q := 1111) hX dL_law_1110 rfl ?_
  refine tt_iconst (v := nI 4) (q := 1112) hX rfl dL_law_1111 rfl ?_
  refine tt_iadd (q := 1113) hX dL_law_1112 rfl ?_
  refine tt_sr (q := 1114) hX hE (hI 4 (by decide)) dL_law_1113 rfl ?_
  refine tt_al0 (q := 1115) hX dL_law_1114 rfl ?_
  refine tt_il3 (q := 1116) hX dL_law_1115 rfl ?_
  refine tt_iconst (v := nI 5) (q := 1117) hX rfl dL_law_1116 rfl ?_
  refine tt_iadd (q := 1118) hX dL_law_1117 rfl ?_
  refine tt_sr (q := 1119) hX hE (hI 5 (by decide)) dL_law_1118 rfl ?_
  refine tt_cV5 (q := 1122) hX (d' := 2) (by decide) kmX8_copy ml_L_154 hoX8 rfl (Nat.le_of_ble_eq_true rfl) dL_law_1119 rfl ?_
  refine c_X8_copy hC (fun μ1 f1 hC1 => ?_)
  have hM1 := hM.cls f1
  refine tt_al2 (q := 1123) hX dL_law_1122 rfl ?_
  refine tt_al0 (q := 1124) hX dL_law_1123 rfl ?_
  refine tt_il3 (q := 1125) hX dL_law_1124 rfl ?_
  refine tt_iconst (v := nI 1) (q := 1126) hX rfl dL_law_1125 rfl ?_
  refine tt_iadd (q := 1127) hX dL_law_1126 rfl ?_
  refine tt_sr (q := 1128) hX hE (hI 1 (by decide)) dL_law_1127 rfl ?_
  refine tt_al0 (q := 1129) hX dL_law_1128 rfl ?_
  refine tt_il3 (q := 1130) hX dL_law_1129 rfl ?_
  refine tt_iconst (v := nI 2) (q := 1131) hX rfl dL_law_1130 rfl ?_
  refine tt_iadd (q := 1132) hX dL_law_1131 rfl ?_
  refine tt_sr (q := 1133) hX hE (hI 2 (by decide)) dL_law_1132 rfl ?_
  refine tt_al0 (q := 1134) hX dL_law_1133 rfl ?_
  refine tt_il3 (q := 1135) hX dL_law_1134 rfl ?_
  refine tt_iconst (v := nI 3) (q := 1136) hX rfl dL_law_1135 rfl ?_
  refine tt_iadd (q := 1137) hX dL_law_1136 rfl ?_
  refine tt_sr (q := 1138) hX hE (hI 3 (by decide)) dL_law_1137 rfl ?_
  refine tt_al0 (q := 1139) hX dL_law_1138 rfl ?_
  refine tt_il3 (q := 1140) hX dL_law_1139 rfl ?_
  refine tt_iconst (v := nI 4) (q := 1141) hX rfl dL_law_1140 rfl ?_
  refine tt_iadd (q := 1142) hX dL_law_1141 rfl ?_
  refine tt_sr (q := 1143) hX hE (hI 4 (by decide)) dL_law_1142 rfl ?_
  refine tt_al0 (q := 1144) hX dL_law_1143 rfl ?_
  refine tt_il3 (q := 1145) hX dL_law_1144 rfl ?_
  refine tt_iconst (v := nI 5) (q := 1146) hX rfl dL_law_1145 rfl ?_
  refine tt_iadd (q := 1147) hX dL_law_1146 rfl ?_
  refine tt_sr (q := 1148) hX hE (hI 5 (by decide)) dL_law_1147 rfl ?_
  refine tt_cV5 (q := 1151) hX (d' := 2) (by decide) kmX9_copy ml_L_158 hoX9 rfl (Nat.le_of_ble_eq_true rfl) dL_law_1148 rfl ?_
  refine c_X9_copy hM1 (fun μ2 f2 hM2 => ?_)
  have hC2 := hC1.mdl f2
  refine tt_iceq (q := 1154) (t := 1205) hX dL_law_1151 rfl (by decide) (fun _ => ?_) (fun z => absurd rfl z)
  exact kk _ _ hC2 hM2
theorem law_35 {X : XT} {l : Launch} {Ln : Nat} {xs : Nat → Int32} (hX : Cx X l 12 mL_law) (hE : LE X Ln xs) {i : Int32} (hI : ∀ k, k < 6 → vp_in (i + nI k) Ln) {S : ST} {μ : Mem} (hC : CR μ S) (hM : MR μ S) (kk : ∀ (S : ST) (μ : Mem), CR μ S → MR μ S → TT X 1205 [.ref 200, .ref 0, .ref 24, .int i] [] μ) : TT X 1156 [.ref 200, .ref 0, .ref 24, .int i] [] μ := by
  refine tt_al1 (q := 1157) hX dL_law_1156 rfl ?_
  refine tt_cV0 (q := 1160) hX (d' := 3) (by decide) kmX8_image ml_L_159 hoX8 rfl (Nat.le_of_ble_eq_true rfl) dL_law_1157 rfl ?_
  refine c_X8_image hC (fun μ1 f1 hC1 => ?_)
  have hM1 := hM.cls f1
  refine tt_al2 (q := 1161) hX dL_law_1160 rfl ?_
  refine tt_cV0 (q := 1164) hX (d' := 2) (by decide) kmX9_image ml_L_162 hoX9 rfl (Nat.le_of_ble_eq_true rfl) dL_law_1161 rfl ?_
  refine c_X9_image hM1 (fun μ2 f2 hM2 => ?_)
  have hC2 := hC1.mdl f2
  refine tt_iceq (q := 1167) (t := 1205) hX dL_law_1164 rfl (by decide) (fun _ => ?_) (fun z => absurd rfl z)
  exact kk _ _ hC2 hM2
theorem law_36 {X : XT} {l : Launch} {Ln : Nat} {xs : Nat → Int32} (hX : Cx X l 12 mL_law) (hE : LE X Ln xs) {i : Int32} (hI : ∀ k, k < 6 → vp_in (i + nI k) Ln) {S : ST} {μ : Mem} (hC : CR μ S) (hM : MR μ S) (kk : ∀ (S : ST) (μ : Mem), CR μ S → MR μ S → TT X 1205 [.ref 200, .ref 0, .ref 24, .int i] [] μ) : TT X 1169 [.ref 200, .ref 0, .ref 24, .int i] [] μ := by
  refine tt_al1 (q := 1170) hX dL_law_1169 rfl ?_
  refine tt_cV0 (q := 1173) hX (d' := 4) (by decide) kmX8_undo ml_L_163 hoX8 rfl (Nat.le_of_ble_eq_true rfl) dL_law_1170 rfl ?_
  refine c_X8_undo hC (fun μ1 f1 hC1 => ?_)
  have hM1 := hM.cls f1
  refine tt_al2 (q := 1174) hX dL_law_1173 rfl ?_
  refine tt_cV0 (q := 1177) hX (d' := 2) (by decide) kmX9_undo ml_L_166 hoX9 rfl (Nat.le_of_ble_eq_true rfl) dL_law_1174 rfl ?_
  refine c_X9_undo hM1 (fun μ2 f2 hM2 => ?_)
  have hC2 := hC1.mdl f2
  refine tt_iceq (q := 1180) (t := 1205) hX dL_law_1177 rfl (by decide) (fun _ => ?_) (fun z => absurd rfl z)
  exact kk _ _ hC2 hM2
theorem law_37 {X : XT} {l : Launch} {Ln : Nat} {xs : Nat → Int32} (hX : Cx X l 12 mL_law) (hE : LE X Ln xs) {i : Int32} (hI : ∀ k, k < 6 → vp_in (i + nI k) Ln) {S : ST} {μ : Mem} (hC : CR μ S) (hM : MR μ S) (kk : ∀ (S : ST) (μ : Mem), CR μ S → MR μ S → TT X 1205 [.ref 200, .ref 0, .ref 24, .int i] [] μ) : TT X 1182 [.ref 200, .ref 0, .ref 24, .int i] [] μ := by
  refine tt_al1 (q := 1183) hX dL_law_1182 rfl ?_
  refine tt_al0 (q := 1184) hX dL_law_1183 rfl ?_
  refine tt_il3 (q := 1185) hX dL_law_1184 rfl ?_
  refine tt_iconst (v := nI 1) (q := 1186) hX rfl dL_law_1185 rfl ?_
  refine tt_iadd (q := 1187) hX dL_law_1186 rfl ?_
  refine tt_sr (q := 1188) hX hE (hI 1 (by decide)) dL_law_1187 rfl ?_
  refine tt_cV1 (q := 1191) hX (d' := 4) (by decide) kmX8_count ml_L_167 hoX8 rfl (Nat.le_of_ble_eq_true rfl) dL_law_1188 rfl ?_
  refine c_X8_count hC (fun μ1 f1 hC1 => ?_)
  have hM1 := hM.cls f1
  refine tt_al2 (q := 1192) hX dL_law_1191 rfl ?_
  refine tt_al0 (q := 1193) hX dL_law_1192 rfl ?_
  refine tt_il3 (q := 1194) hX dL_law_1193 rfl ?_
  refine tt_iconst (v := nI 1) (q := 1195) hX rfl dL_law_1194 rfl ?_
  refine tt_iadd (q := 1196) hX dL_law_1195 rfl ?_
  refine tt_sr (q := 1197) hX hE (hI 1 (by decide)) dL_law_1196 rfl ?_
  refine tt_cV1 (q := 1200) hX (d' := 1) (by decide) kmX9_count ml_L_170 hoX9 rfl (Nat.le_of_ble_eq_true rfl) dL_law_1197 rfl ?_
  refine c_X9_count hM1 (fun μ2 f2 hM2 => ?_)
  have hC2 := hC1.mdl f2
  refine tt_iceq (q := 1203) (t := 1205) hX dL_law_1200 rfl (by decide) (fun _ => ?_) (fun z => absurd rfl z)
  exact kk _ _ hC2 hM2
