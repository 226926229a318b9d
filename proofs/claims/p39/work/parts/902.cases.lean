/-! p35: THE LAW, case by case (written by wip/p35/q61.py) -/
set_option maxRecDepth 8000 in
theorem lc_corner {l : Launch} {b Ls : Nat} {xs : Nat → Int32} {M : Mem} {kc ks : Nat} {ab : Int} (hLs : Ls ≤ 3072) (hE : RE M ab) (hb0 : 0 ≤ ab) (hb1 : ab ≤ 100000) (i : Int) (h0 : 0 ≤ i) (h1 : i + 6 ≤ Ls) (hk1 : kc + 4 ≤ 600000) (hk2 : ks + 904 ≤ 7302250) (fin : ∀ (M2 : Mem) (kc2 ks2 : Nat), RE M2 (ab + 30) → kc2 ≤ kc + 4 → ks2 ≤ ks + 904 → VL l b Ls xs 1691 [none, some (aR 0), some (aR 54), some (aI i)] [] M2 kc2 ks2) : VL l b Ls xs 220 [none, some (aR 0), some (aR 54), some (aI i)] [] M kc ks := by
  have hR := hE.1
  have hB := hR.1
  refine vl_aload_n dL_law_220 rfl ?_
  refine vl_sk dL_law_221 dL_law_222 dL_law_223 dL_law_224 dL_law_225 rfl rfl (by omega) (by omega) hLs ?_
  refine vl_cI dL_law_226 (sfX11_cornerF hB ((xs (i + 1).toNat).toInt)) rfl okX11_corner viX11_corner lkL_13 (s_0 hB.1) cl_11 rfl (Nat.le_of_ble_eq_true rfl) (by show kc + 0 ≤ 600000; omega) (by show ks + 0 ≤ 7302250; omega) (Nat.le_of_ble_eq_true rfl) ?_
  rintro x1 M2 ⟨b3, h4⟩
  refine vl_pop dL_law_229 rfl ?_
  refine vl_aload_n dL_law_230 rfl ?_
  refine vl_sk dL_law_231 dL_law_232 dL_law_233 dL_law_234 dL_law_235 rfl rfl (by omega) (by omega) hLs ?_
  refine vl_cI dL_law_236 (sfX12_cornerF b3.1 ((xs (i + 1).toNat).toInt)) rfl okX12_corner viX12_corner lkL_17 (s_54 b3.1.1) cl_12 rfl (Nat.le_of_ble_eq_true rfl) (by show kc + 0 + 0 ≤ 600000; omega) (by show ks + 0 + 0 ≤ 7302250; omega) (Nat.le_of_ble_eq_true rfl) ?_
  rintro x5 M6 ⟨b7, kp9, h8⟩
  have htb := deed_RE (Sp := CornerS ((xs (i + 1).toNat).toInt)) hE b3 b7 h4 h8 (hR.as.corner (by omega) h4) h4.lk.j (hE.nt.corner hR.ar.1.2.2.2.2.2.2.2.1 h4)
  refine vl_pop dL_law_239 rfl ?_
  refine vl_goto dL_law_240 ?_
  exact fin _ _ _ (htb.1) (by show kc + 0 + 0 ≤ kc + 4; omega) (by show ks + 0 + 0 ≤ ks + 904; omega)
set_option maxRecDepth 8000 in
theorem lc_street {l : Launch} {b Ls : Nat} {xs : Nat → Int32} {M : Mem} {kc ks : Nat} {ab : Int} (hLs : Ls ≤ 3072) (hE : RE M ab) (hb0 : 0 ≤ ab) (hb1 : ab ≤ 100000) (i : Int) (h0 : 0 ≤ i) (h1 : i + 6 ≤ Ls) (hk1 : kc + 4 ≤ 600000) (hk2 : ks + 904 ≤ 7302250) (fin : ∀ (M2 : Mem) (kc2 ks2 : Nat), RE M2 (ab + 30) → kc2 ≤ kc + 4 → ks2 ≤ ks + 904 → VL l b Ls xs 1691 [none, some (aR 0), some (aR 54), some (aI i)] [] M2 kc2 ks2) : VL l b Ls xs 243 [none, some (aR 0), some (aR 54), some (aI i)] [] M kc ks := by
  have hR := hE.1
  have hB := hR.1
  refine vl_aload_n dL_law_243 rfl ?_
  refine vl_sk dL_law_244 dL_law_245 dL_law_246 dL_law_247 dL_law_248 rfl rfl (by omega) (by omega) hLs ?_
  refine vl_sk dL_law_249 dL_law_250 dL_law_251 dL_law_252 dL_law_253 rfl rfl (by omega) (by omega) hLs ?_
  refine vl_sk dL_law_254 dL_law_255 dL_law_256 dL_law_257 dL_law_258 rfl rfl (by omega) (by omega) hLs ?_
  refine vl_sk dL_law_259 dL_law_260 dL_law_261 dL_law_262 dL_law_263 rfl rfl (by omega) (by omega) hLs ?_
  refine vl_if_eq dL_law_264 (fun g0 => ?_) (fun g0 => ?_)
  · refine vl_iconst dL_law_271 rfl ?_
    refine vl_cI dL_law_272 (sfX11_streetF hB ((xs (i + 1).toNat).toInt) ((xs (i + 2).toNat).toInt) ((xs (i + 3).toNat).toInt) 0) rfl okX11_street viX11_street lkL_18 (s_0 hB.1) cl_11 rfl (Nat.le_of_ble_eq_true rfl) (by show kc + 0 ≤ 600000; omega) (by show ks + 0 ≤ 7302250; omega) (Nat.le_of_ble_eq_true rfl) ?_
    rintro x1 M2 ⟨b3, u5, v6, h4⟩
    refine vl_pop dL_law_275 rfl ?_
    refine vl_aload_n dL_law_276 rfl ?_
    refine vl_sk dL_law_277 dL_law_278 dL_law_279 dL_law_280 dL_law_281 rfl rfl (by omega) (by omega) hLs ?_
    refine vl_sk dL_law_282 dL_law_283 dL_law_284 dL_law_285 dL_law_286 rfl rfl (by omega) (by omega) hLs ?_
    refine vl_sk dL_law_287 dL_law_288 dL_law_289 dL_law_290 dL_law_291 rfl rfl (by omega) (by omega) hLs ?_
    refine vl_sk dL_law_292 dL_law_293 dL_law_294 dL_law_295 dL_law_296 rfl rfl (by omega) (by omega) hLs ?_
    refine vl_if_eq dL_law_297 (fun _ => ?_) (fun h9 => absurd g0 h9)
    refine vl_iconst dL_law_304 rfl ?_
    refine vl_cI dL_law_305 (sfX12_streetF b3.1 ((xs (i + 1).toNat).toInt) ((xs (i + 2).toNat).toInt) ((xs (i + 3).toNat).toInt) 0) rfl okX12_street viX12_street lkL_22 (s_54 b3.1.1) cl_12 rfl (Nat.le_of_ble_eq_true rfl) (by show kc + 0 + 0 ≤ 600000; omega) (by show ks + 0 + 0 ≤ 7302250; omega) (Nat.le_of_ble_eq_true rfl) ?_
    rintro x7 M8 ⟨b9, kp11, u12, v13, h10⟩
    have htb := deed_RE (Sp := StreetS ((xs (i + 1).toNat).toInt) ((xs (i + 2).toNat).toInt) ((xs (i + 3).toNat).toInt) (bl 0)) hE b3 b9 h4 h10 (hR.as.street (by omega) h4) h4.lk.j (hE.nt.street h4)
    refine vl_pop dL_law_308 rfl ?_
    refine vl_goto dL_law_309 ?_
    exact fin _ _ _ (htb.1) (by show kc + 0 + 0 ≤ kc + 4; omega) (by show ks + 0 + 0 ≤ ks + 904; omega)
  · refine vl_iconst dL_law_267 rfl ?_
    refine vl_goto dL_law_268 ?_
    refine vl_cI dL_law_272 (sfX11_streetF hB ((xs (i + 1).toNat).toInt) ((xs (i + 2).toNat).toInt) ((xs (i + 3).toNat).toInt) 1) rfl okX11_street viX11_street lkL_18 (s_0 hB.1) cl_11 rfl (Nat.le_of_ble_eq_true rfl) (by show kc + 0 ≤ 600000; omega) (by show ks + 0 ≤ 7302250; omega) (Nat.le_of_ble_eq_true rfl) ?_
    rintro x14 M15 ⟨b16, u18, v19, h17⟩
    refine vl_pop dL_law_275 rfl ?_
    refine vl_aload_n dL_law_276 rfl ?_
    refine vl_sk dL_law_277 dL_law_278 dL_law_279 dL_law_280 dL_law_281 rfl rfl (by omega) (by omega) hLs ?_
    refine vl_sk dL_law_282 dL_law_283 dL_law_284 dL_law_285 dL_law_286 rfl rfl (by omega) (by omega) hLs ?_
    refine vl_sk dL_law_287 dL_law_288 dL_law_289 dL_law_290 dL_law_291 rfl rfl (by omega) (by omega) hLs ?_
    refine vl_sk dL_law_292 dL_law_293 dL_law_294 dL_law_295 dL_law_296 rfl rfl (by omega) (by omega) hLs ?_
    refine vl_if_eq dL_law_297 (fun h9 => absurd h9 g0) (fun _ => ?_)
    refine vl_iconst dL_law_300 rfl ?_
    refine vl_goto dL_law_301 ?_
    refine vl_cI dL_law_305 (sfX12_streetF b16.1 ((xs (i + 1).toNat).toInt) ((xs (i + 2).toNat).toInt) ((xs (i + 3).toNat).toInt) 1) rfl okX12_street viX12_street lkL_22 (s_54 b16.1.1) cl_12 rfl (Nat.le_of_ble_eq_true rfl) (by show kc + 0 + 0 ≤ 600000; omega) (by show ks + 0 + 0 ≤ 7302250; omega) (Nat.le_of_ble_eq_true rfl) ?_
    rintro x20 M21 ⟨b22, kp24, u25, v26, h23⟩
    have htb := deed_RE (Sp := StreetS ((xs (i + 1).toNat).toInt) ((xs (i + 2).toNat).toInt) ((xs (i + 3).toNat).toInt) (bl 1)) hE b16 b22 h17 h23 (hR.as.street (by omega) h17) h17.lk.j (hE.nt.street h17)
    refine vl_pop dL_law_308 rfl ?_
    refine vl_goto dL_law_309 ?_
    exact fin _ _ _ (htb.1) (by show kc + 0 + 0 ≤ kc + 4; omega) (by show ks + 0 + 0 ≤ ks + 904; omega)
set_option maxRecDepth 8000 in
theorem lc_goal {l : Launch} {b Ls : Nat} {xs : Nat → Int32} {M : Mem} {kc ks : Nat} {ab : Int} (hLs : Ls ≤ 3072) (hE : RE M ab) (hb0 : 0 ≤ ab) (hb1 : ab ≤ 100000) (i : Int) (h0 : 0 ≤ i) (h1 : i + 6 ≤ Ls) (hk1 : kc + 4 ≤ 600000) (hk2 : ks + 904 ≤ 7302250) (fin : ∀ (M2 : Mem) (kc2 ks2 : Nat), RE M2 (ab + 30) → kc2 ≤ kc + 4 → ks2 ≤ ks + 904 → VL l b Ls xs 1691 [none, some (aR 0), some (aR 54), some (aI i)] [] M2 kc2 ks2) : VL l b Ls xs 312 [none, some (aR 0), some (aR 54), some (aI i)] [] M kc ks := by
  have hR := hE.1
  have hB := hR.1
  refine vl_aload_n dL_law_312 rfl ?_
  refine vl_sk dL_law_313 dL_law_314 dL_law_315 dL_law_316 dL_law_317 rfl rfl (by omega) (by omega) hLs ?_
  refine vl_cI dL_law_318 (sfX11_goalF hB ((xs (i + 1).toNat).toInt)) rfl okX11_goal viX11_goal lkL_23 (s_0 hB.1) cl_11 rfl (Nat.le_of_ble_eq_true rfl) (by show kc + 0 ≤ 600000; omega) (by show ks + 0 ≤ 7302250; omega) (Nat.le_of_ble_eq_true rfl) ?_
  rintro x1 M2 ⟨b3, u5, v6, h4⟩
  refine vl_pop dL_law_321 rfl ?_
  refine vl_aload_n dL_law_322 rfl ?_
  refine vl_sk dL_law_323 dL_law_324 dL_law_325 dL_law_326 dL_law_327 rfl rfl (by omega) (by omega) hLs ?_
  refine vl_cI dL_law_328 (sfX12_goalF b3.1 ((xs (i + 1).toNat).toInt)) rfl okX12_goal viX12_goal lkL_27 (s_54 b3.1.1) cl_12 rfl (Nat.le_of_ble_eq_true rfl) (by show kc + 0 + 0 ≤ 600000; omega) (by show ks + 0 + 0 ≤ 7302250; omega) (Nat.le_of_ble_eq_true rfl) ?_
  rintro x7 M8 ⟨b9, kp11, u12, v13, h10⟩
  have htb := deed_RE (Sp := GoalS ((xs (i + 1).toNat).toInt)) hE b3 b9 h4 h10 (hR.as.goal (by omega) h4) h4.lk.j (hE.nt.goal h4)
  refine vl_pop dL_law_331 rfl ?_
  refine vl_goto dL_law_332 ?_
  exact fin _ _ _ (htb.1) (by show kc + 0 + 0 ≤ kc + 4; omega) (by show ks + 0 + 0 ≤ ks + 904; omega)
set_option maxRecDepth 8000 in
theorem lc_teller {l : Launch} {b Ls : Nat} {xs : Nat → Int32} {M : Mem} {kc ks : Nat} {ab : Int} (hLs : Ls ≤ 3072) (hE : RE M ab) (hb0 : 0 ≤ ab) (hb1 : ab ≤ 100000) (i : Int) (h0 : 0 ≤ i) (h1 : i + 6 ≤ Ls) (hk1 : kc + 4 ≤ 600000) (hk2 : ks + 904 ≤ 7302250) (fin : ∀ (M2 : Mem) (kc2 ks2 : Nat), RE M2 (ab + 30) → kc2 ≤ kc + 4 → ks2 ≤ ks + 904 → VL l b Ls xs 1691 [none, some (aR 0), some (aR 54), some (aI i)] [] M2 kc2 ks2) : VL l b Ls xs 335 [none, some (aR 0), some (aR 54), some (aI i)] [] M kc ks := by
  have hR := hE.1
  have hB := hR.1
  refine vl_aload_n dL_law_335 rfl ?_
  refine vl_sk dL_law_336 dL_law_337 dL_law_338 dL_law_339 dL_law_340 rfl rfl (by omega) (by omega) hLs ?_
  refine vl_sk dL_law_341 dL_law_342 dL_law_343 dL_law_344 dL_law_345 rfl rfl (by omega) (by omega) hLs ?_
  refine vl_sk dL_law_346 dL_law_347 dL_law_348 dL_law_349 dL_law_350 rfl rfl (by omega) (by omega) hLs ?_
  refine vl_sk dL_law_351 dL_law_352 dL_law_353 dL_law_354 dL_law_355 rfl rfl (by omega) (by omega) hLs ?_
  refine vl_cI dL_law_356 (sfX11_tellerF hB ((xs (i + 1).toNat).toInt) ((xs (i + 2).toNat).toInt) ((xs (i + 3).toNat).toInt) ((xs (i + 4).toNat).toInt)) rfl okX11_teller viX11_teller lkL_28 (s_0 hB.1) cl_11 rfl (Nat.le_of_ble_eq_true rfl) (by show kc + 0 ≤ 600000; omega) (by show ks + 0 ≤ 7302250; omega) (Nat.le_of_ble_eq_true rfl) ?_
  rintro x1 M2 ⟨b3, h4⟩
  refine vl_pop dL_law_359 rfl ?_
  refine vl_aload_n dL_law_360 rfl ?_
  refine vl_sk dL_law_361 dL_law_362 dL_law_363 dL_law_364 dL_law_365 rfl rfl (by omega) (by omega) hLs ?_
  refine vl_sk dL_law_366 dL_law_367 dL_law_368 dL_law_369 dL_law_370 rfl rfl (by omega) (by omega) hLs ?_
  refine vl_sk dL_law_371 dL_law_372 dL_law_373 dL_law_374 dL_law_375 rfl rfl (by omega) (by omega) hLs ?_
  refine vl_sk dL_law_376 dL_law_377 dL_law_378 dL_law_379 dL_law_380 rfl rfl (by omega) (by omega) hLs ?_
  refine vl_cI dL_law_381 (sfX12_tellerF b3.1 ((xs (i + 1).toNat).toInt) ((xs (i + 2).toNat).toInt) ((xs (i + 3).toNat).toInt) ((xs (i + 4).toNat).toInt)) rfl okX12_teller viX12_teller lkL_32 (s_54 b3.1.1) cl_12 rfl (Nat.le_of_ble_eq_true rfl) (by show kc + 0 + 0 ≤ 600000; omega) (by show ks + 0 + 0 ≤ 7302250; omega) (Nat.le_of_ble_eq_true rfl) ?_
  rintro x5 M6 ⟨b7, kp9, h8⟩
  have htb := deed_RE (Sp := TellerS ((xs (i + 1).toNat).toInt) ((xs (i + 2).toNat).toInt) ((xs (i + 3).toNat).toInt) ((xs (i + 4).toNat).toInt)) hE b3 b7 h4 h8 (hR.as.teller (by omega) h4) h4.lk.j (hE.nt.teller hR.ar.w8.1 h4)
  refine vl_pop dL_law_384 rfl ?_
  refine vl_goto dL_law_385 ?_
  exact fin _ _ _ (htb.1) (by show kc + 0 + 0 ≤ kc + 4; omega) (by show ks + 0 + 0 ≤ ks + 904; omega)
set_option maxRecDepth 8000 in
theorem lc_telling {l : Launch} {b Ls : Nat} {xs : Nat → Int32} {M : Mem} {kc ks : Nat} {ab : Int} (hLs : Ls ≤ 3072) (hE : RE M ab) (hb0 : 0 ≤ ab) (hb1 : ab ≤ 100000) (i : Int) (h0 : 0 ≤ i) (h1 : i + 6 ≤ Ls) (hk1 : kc + 4 ≤ 600000) (hk2 : ks + 904 ≤ 7302250) (fin : ∀ (M2 : Mem) (kc2 ks2 : Nat), RE M2 (ab + 30) → kc2 ≤ kc + 4 → ks2 ≤ ks + 904 → VL l b Ls xs 1691 [none, some (aR 0), some (aR 54), some (aI i)] [] M2 kc2 ks2) : VL l b Ls xs 388 [none, some (aR 0), some (aR 54), some (aI i)] [] M kc ks := by
  have hR := hE.1
  have hB := hR.1
  refine vl_aload_n dL_law_388 rfl ?_
  refine vl_sk dL_law_389 dL_law_390 dL_law_391 dL_law_392 dL_law_393 rfl rfl (by omega) (by omega) hLs ?_
  refine vl_sk dL_law_394 dL_law_395 dL_law_396 dL_law_397 dL_law_398 rfl rfl (by omega) (by omega) hLs ?_
  refine vl_sk dL_law_399 dL_law_400 dL_law_401 dL_law_402 dL_law_403 rfl rfl (by omega) (by omega) hLs ?_
  refine vl_sk dL_law_404 dL_law_405 dL_law_406 dL_law_407 dL_law_408 rfl rfl (by omega) (by omega) hLs ?_
  refine vl_cI dL_law_409 (sfX11_tellingF hB ((xs (i + 1).toNat).toInt) ((xs (i + 2).toNat).toInt) ((xs (i + 3).toNat).toInt) ((xs (i + 4).toNat).toInt)) rfl okX11_telling viX11_telling lkL_33 (s_0 hB.1) cl_11 rfl (Nat.le_of_ble_eq_true rfl) (by show kc + 0 ≤ 600000; omega) (by show ks + 0 ≤ 7302250; omega) (Nat.le_of_ble_eq_true rfl) ?_
  rintro x1 M2 ⟨b3, h4⟩
  refine vl_pop dL_law_412 rfl ?_
  refine vl_aload_n dL_law_413 rfl ?_
  refine vl_sk dL_law_414 dL_law_415 dL_law_416 dL_law_417 dL_law_418 rfl rfl (by omega) (by omega) hLs ?_
  refine vl_sk dL_law_419 dL_law_420 dL_law_421 dL_law_422 dL_law_423 rfl rfl (by omega) (by omega) hLs ?_
  refine vl_sk dL_law_424 dL_law_425 dL_law_426 dL_law_427 dL_law_428 rfl rfl (by omega) (by omega) hLs ?_
  refine vl_sk dL_law_429 dL_law_430 dL_law_431 dL_law_432 dL_law_433 rfl rfl (by omega) (by omega) hLs ?_
  refine vl_cI dL_law_434 (sfX12_tellingF b3.1 ((xs (i + 1).toNat).toInt) ((xs (i + 2).toNat).toInt) ((xs (i + 3).toNat).toInt) ((xs (i + 4).toNat).toInt)) rfl okX12_telling viX12_telling lkL_36 (s_54 b3.1.1) cl_12 rfl (Nat.le_of_ble_eq_true rfl) (by show kc + 0 + 0 ≤ 600000; omega) (by show ks + 0 + 0 ≤ 7302250; omega) (Nat.le_of_ble_eq_true rfl) ?_
  rintro x5 M6 ⟨b7, h8⟩
  have htb := deed_RE (Sp := TellingS ((xs (i + 1).toNat).toInt) ((xs (i + 2).toNat).toInt) ((xs (i + 3).toNat).toInt) ((xs (i + 4).toNat).toInt)) hE b3 b7 h4 h8 (hR.as.telling (by omega) hR.ar.w9.1 h4) (h4.lk hR.ar.w9.1).j (hE.nt.telling hR.ar.w9.1 h4)
  refine vl_pop dL_law_437 rfl ?_
  refine vl_goto dL_law_438 ?_
  exact fin _ _ _ (htb.1) (by show kc + 0 + 0 ≤ kc + 4; omega) (by show ks + 0 + 0 ≤ ks + 904; omega)
set_option maxRecDepth 8000 in
theorem lc_feed {l : Launch} {b Ls : Nat} {xs : Nat → Int32} {M : Mem} {kc ks : Nat} {ab : Int} (hLs : Ls ≤ 3072) (hE : RE M ab) (hb0 : 0 ≤ ab) (hb1 : ab ≤ 100000) (i : Int) (h0 : 0 ≤ i) (h1 : i + 6 ≤ Ls) (hk1 : kc + 4 ≤ 600000) (hk2 : ks + 904 ≤ 7302250) (fin : ∀ (M2 : Mem) (kc2 ks2 : Nat), RE M2 (ab + 30) → kc2 ≤ kc + 4 → ks2 ≤ ks + 904 → VL l b Ls xs 1691 [none, some (aR 0), some (aR 54), some (aI i)] [] M2 kc2 ks2) : VL l b Ls xs 441 [none, some (aR 0), some (aR 54), some (aI i)] [] M kc ks := by
  have hR := hE.1
  have hB := hR.1
  refine vl_aload_n dL_law_441 rfl ?_
  refine vl_sk dL_law_442 dL_law_443 dL_law_444 dL_law_445 dL_law_446 rfl rfl (by omega) (by omega) hLs ?_
  refine vl_sk dL_law_447 dL_law_448 dL_law_449 dL_law_450 dL_law_451 rfl rfl (by omega) (by omega) hLs ?_
  refine vl_sk dL_law_452 dL_law_453 dL_law_454 dL_law_455 dL_law_456 rfl rfl (by omega) (by omega) hLs ?_
  refine vl_sk dL_law_457 dL_law_458 dL_law_459 dL_law_460 dL_law_461 rfl rfl (by omega) (by omega) hLs ?_
  refine vl_sk dL_law_462 dL_law_463 dL_law_464 dL_law_465 dL_law_466 rfl rfl (by omega) (by omega) hLs ?_
  refine vl_cF dL_law_467 (qX11_feed hB.1 (b0_13 hB) ((xs (i + 1).toNat).toInt) ((xs (i + 2).toNat).toInt) ((xs (i + 3).toNat).toInt) ((xs (i + 4).toNat).toInt) ((xs (i + 5).toNat).toInt)) rfl okX11_feed viX11_feed lkL_37 (s_0 hB.1) cl_11 rfl (Nat.le_of_ble_eq_true rfl) (by show kc + 0 ≤ 600000; omega) (by show ks + 0 ≤ 7302250; omega) (Nat.le_of_ble_eq_true rfl) ?_
  refine vl_pop dL_law_470 rfl ?_
  refine vl_aload_n dL_law_471 rfl ?_
  refine vl_sk dL_law_472 dL_law_473 dL_law_474 dL_law_475 dL_law_476 rfl rfl (by omega) (by omega) hLs ?_
  refine vl_sk dL_law_477 dL_law_478 dL_law_479 dL_law_480 dL_law_481 rfl rfl (by omega) (by omega) hLs ?_
  refine vl_sk dL_law_482 dL_law_483 dL_law_484 dL_law_485 dL_law_486 rfl rfl (by omega) (by omega) hLs ?_
  refine vl_sk dL_law_487 dL_law_488 dL_law_489 dL_law_490 dL_law_491 rfl rfl (by omega) (by omega) hLs ?_
  refine vl_sk dL_law_492 dL_law_493 dL_law_494 dL_law_495 dL_law_496 rfl rfl (by omega) (by omega) hLs ?_
  refine vl_cF dL_law_497 (qX12_feed (feed_box hB).1 (b54_6 (feed_box hB)) ((xs (i + 1).toNat).toInt) ((xs (i + 2).toNat).toInt) ((xs (i + 3).toNat).toInt) ((xs (i + 4).toNat).toInt) ((xs (i + 5).toNat).toInt)) rfl okX12_feed viX12_feed lkL_41 (s_54 (feed_box hB).1) cl_12 rfl (Nat.le_of_ble_eq_true rfl) (by show kc + 0 + 0 ≤ 600000; omega) (by show ks + 0 + 0 ≤ 7302250; omega) (Nat.le_of_ble_eq_true rfl) ?_
  have hfb := feed_RE (a := ((xs (i + 1).toNat).toInt)) (b := ((xs (i + 2).toNat).toInt)) (c := ((xs (i + 3).toNat).toInt)) (d := ((xs (i + 4).toNat).toInt)) (e := ((xs (i + 5).toNat).toInt)) hE
  refine vl_pop dL_law_500 rfl ?_
  refine vl_goto dL_law_501 ?_
  exact fin _ _ _ (hfb.1.le (by omega)) (by show kc + 0 + 0 ≤ kc + 4; omega) (by show ks + 0 + 0 ≤ ks + 904; omega)
set_option maxRecDepth 8000 in
theorem lc_end {l : Launch} {b Ls : Nat} {xs : Nat → Int32} {M : Mem} {kc ks : Nat} {ab : Int} (hLs : Ls ≤ 3072) (hE : RE M ab) (hb0 : 0 ≤ ab) (hb1 : ab ≤ 100000) (i : Int) (h0 : 0 ≤ i) (h1 : i + 6 ≤ Ls) (hk1 : kc + 4 ≤ 600000) (hk2 : ks + 904 ≤ 7302250) (fin : ∀ (M2 : Mem) (kc2 ks2 : Nat), RE M2 (ab + 30) → kc2 ≤ kc + 4 → ks2 ≤ ks + 904 → VL l b Ls xs 1691 [none, some (aR 0), some (aR 54), some (aI i)] [] M2 kc2 ks2) : VL l b Ls xs 504 [none, some (aR 0), some (aR 54), some (aI i)] [] M kc ks := by
  have hR := hE.1
  have hB := hR.1
  refine vl_aload_n dL_law_504 rfl ?_
  refine vl_sk dL_law_505 dL_law_506 dL_law_507 dL_law_508 dL_law_509 rfl rfl (by omega) (by omega) hLs ?_
  refine vl_cI dL_law_510 (sfX11_endF hB ((xs (i + 1).toNat).toInt)) rfl okX11_end viX11_end lkL_42 (s_0 hB.1) cl_11 rfl (Nat.le_of_ble_eq_true rfl) (by show kc + 0 ≤ 600000; omega) (by show ks + 0 ≤ 7302250; omega) (Nat.le_of_ble_eq_true rfl) ?_
  rintro x1 M4 ⟨b5, h2, h3⟩
  refine vl_pop dL_law_513 rfl ?_
  refine vl_aload_n dL_law_514 rfl ?_
  refine vl_sk dL_law_515 dL_law_516 dL_law_517 dL_law_518 dL_law_519 rfl rfl (by omega) (by omega) hLs ?_
  refine vl_cI dL_law_520 (sfX12_endF b5.1 ((xs (i + 1).toNat).toInt)) rfl okX12_end viX12_end lkL_45 (s_54 b5.1.1) cl_12 rfl (Nat.le_of_ble_eq_true rfl) (by show kc + 0 + 0 ≤ 600000; omega) (by show ks + 0 + 0 ≤ 7302250; omega) (Nat.le_of_ble_eq_true rfl) ?_
  rintro x6 M9 ⟨b10, h7, h8⟩
  have htb := end_RE hE b10.1 h2 h3 h7 h8
  refine vl_pop dL_law_523 rfl ?_
  refine vl_goto dL_law_524 ?_
  exact fin _ _ _ (htb.1.le (by omega)) (by show kc + 0 + 0 ≤ kc + 4; omega) (by show ks + 0 + 0 ≤ ks + 904; omega)
set_option maxRecDepth 8000 in
theorem lc_text {l : Launch} {b Ls : Nat} {xs : Nat → Int32} {M : Mem} {kc ks : Nat} {ab : Int} (hLs : Ls ≤ 3072) (hE : RE M ab) (hb0 : 0 ≤ ab) (hb1 : ab ≤ 100000) (i : Int) (h0 : 0 ≤ i) (h1 : i + 6 ≤ Ls) (hk1 : kc + 4 ≤ 600000) (hk2 : ks + 904 ≤ 7302250) (fin : ∀ (M2 : Mem) (kc2 ks2 : Nat), RE M2 (ab + 30) → kc2 ≤ kc + 4 → ks2 ≤ ks + 904 → VL l b Ls xs 1691 [none, some (aR 0), some (aR 54), some (aI i)] [] M2 kc2 ks2) : VL l b Ls xs 527 [none, some (aR 0), some (aR 54), some (aI i)] [] M kc ks := by
  have hR := hE.1
  have hB := hR.1
  refine vl_aload_n dL_law_527 rfl ?_
  refine vl_cI dL_law_528 (sfX11_textF hB  hR.2.1.1) rfl okX11_text viX11_text lkL_46 (s_0 hB.1) cl_11 rfl (Nat.le_of_ble_eq_true rfl) (by show kc + 4 ≤ 600000; omega) (by show ks + 904 ≤ 7302250; omega) (Nat.le_of_ble_eq_true rfl) ?_
  rintro x1 M4 ⟨b5, h2, h3, h6⟩
  refine vl_pop dL_law_531 rfl ?_
  refine vl_aload_n dL_law_532 rfl ?_
  refine vl_cI dL_law_533 (sfX12_textF b5.1  (text_byt hR.2.1 h2)) rfl okX12_text viX12_text lkL_50 (s_54 b5.1.1) cl_12 rfl (Nat.le_of_ble_eq_true rfl) (by show kc + 4 + 0 ≤ 600000; omega) (by show ks + 904 + 0 ≤ 7302250; omega) (Nat.le_of_ble_eq_true rfl) ?_
  rintro x7 M10 ⟨b11, h8, h9, h12⟩
  have htb := text_RE hE b5 h2 h3 h6 b11 h8 h9 h12
  refine vl_pop dL_law_536 rfl ?_
  refine vl_goto dL_law_537 ?_
  exact fin _ _ _ (htb.1.le (by omega)) (by show kc + 4 + 0 ≤ kc + 4; omega) (by show ks + 904 + 0 ≤ ks + 904; omega)
set_option maxRecDepth 8000 in
theorem lc_fault {l : Launch} {b Ls : Nat} {xs : Nat → Int32} {M : Mem} {kc ks : Nat} {ab : Int} (hLs : Ls ≤ 3072) (hE : RE M ab) (hb0 : 0 ≤ ab) (hb1 : ab ≤ 100000) (i : Int) (h0 : 0 ≤ i) (h1 : i + 6 ≤ Ls) (hk1 : kc + 4 ≤ 600000) (hk2 : ks + 904 ≤ 7302250) (fin : ∀ (M2 : Mem) (kc2 ks2 : Nat), RE M2 (ab + 30) → kc2 ≤ kc + 4 → ks2 ≤ ks + 904 → VL l b Ls xs 1691 [none, some (aR 0), some (aR 54), some (aI i)] [] M2 kc2 ks2) : VL l b Ls xs 540 [none, some (aR 0), some (aR 54), some (aI i)] [] M kc ks := by
  have hR := hE.1
  have hB := hR.1
  refine vl_aload_n dL_law_540 rfl ?_
  refine vl_sk dL_law_541 dL_law_542 dL_law_543 dL_law_544 dL_law_545 rfl rfl (by omega) (by omega) hLs ?_
  refine vl_cI dL_law_546 (sfX11_faultF hB ((xs (i + 1).toNat).toInt)) rfl okX11_fault viX11_fault lkL_51 (s_0 hB.1) cl_11 rfl (Nat.le_of_ble_eq_true rfl) (by show kc + 0 ≤ 600000; omega) (by show ks + 0 ≤ 7302250; omega) (Nat.le_of_ble_eq_true rfl) ?_
  rintro x1 _ ⟨rfl, h2⟩
  refine vl_pop dL_law_549 rfl ?_
  refine vl_aload_n dL_law_550 rfl ?_
  refine vl_sk dL_law_551 dL_law_552 dL_law_553 dL_law_554 dL_law_555 rfl rfl (by omega) (by omega) hLs ?_
  refine vl_cI dL_law_556 (sfX12_faultF hB ((xs (i + 1).toNat).toInt)) rfl okX12_fault viX12_fault lkL_54 (s_54 hB.1) cl_12 rfl (Nat.le_of_ble_eq_true rfl) (by show kc + 0 + 0 ≤ 600000; omega) (by show ks + 0 + 0 ≤ 7302250; omega) (Nat.le_of_ble_eq_true rfl) ?_
  rintro x4 _ ⟨rfl, h5⟩
  refine vl_pop dL_law_559 rfl ?_
  refine vl_goto dL_law_560 ?_
  exact fin _ _ _ (hE.le (by omega)) (by show kc + 0 + 0 ≤ kc + 4; omega) (by show ks + 0 + 0 ≤ ks + 904; omega)
set_option maxRecDepth 8000 in
theorem lc_by {l : Launch} {b Ls : Nat} {xs : Nat → Int32} {M : Mem} {kc ks : Nat} {ab : Int} (hLs : Ls ≤ 3072) (hE : RE M ab) (hb0 : 0 ≤ ab) (hb1 : ab ≤ 100000) (i : Int) (h0 : 0 ≤ i) (h1 : i + 6 ≤ Ls) (hk1 : kc + 4 ≤ 600000) (hk2 : ks + 904 ≤ 7302250) (fin : ∀ (M2 : Mem) (kc2 ks2 : Nat), RE M2 (ab + 30) → kc2 ≤ kc + 4 → ks2 ≤ ks + 904 → VL l b Ls xs 1691 [none, some (aR 0), some (aR 54), some (aI i)] [] M2 kc2 ks2) : VL l b Ls xs 563 [none, some (aR 0), some (aR 54), some (aI i)] [] M kc ks := by
  have hR := hE.1
  have hB := hR.1
  refine vl_aload_n dL_law_563 rfl ?_
  refine vl_sk dL_law_564 dL_law_565 dL_law_566 dL_law_567 dL_law_568 rfl rfl (by omega) (by omega) hLs ?_
  refine vl_cI dL_law_569 (sfX11_byF hB ((xs (i + 1).toNat).toInt)) rfl okX11_by viX11_by lkL_55 (s_0 hB.1) cl_11 rfl (Nat.le_of_ble_eq_true rfl) (by show kc + 0 ≤ 600000; omega) (by show ks + 0 ≤ 7302250; omega) (Nat.le_of_ble_eq_true rfl) ?_
  rintro x1 M2 ⟨b3, u5, v6, h4⟩
  refine vl_pop dL_law_572 rfl ?_
  refine vl_aload_n dL_law_573 rfl ?_
  refine vl_sk dL_law_574 dL_law_575 dL_law_576 dL_law_577 dL_law_578 rfl rfl (by omega) (by omega) hLs ?_
  refine vl_cI dL_law_579 (sfX12_byF b3.1 ((xs (i + 1).toNat).toInt)) rfl okX12_by viX12_by lkL_58 (s_54 b3.1.1) cl_12 rfl (Nat.le_of_ble_eq_true rfl) (by show kc + 0 + 0 ≤ 600000; omega) (by show ks + 0 + 0 ≤ 7302250; omega) (Nat.le_of_ble_eq_true rfl) ?_
  rintro x7 M8 ⟨b9, u11, v12, h10⟩
  have htb := deed_RE (Sp := ByS ((xs (i + 1).toNat).toInt)) hE b3 b9 h4 h10 (hR.as.by (by omega) h4) h4.lj (hE.nt.by h4)
  refine vl_pop dL_law_582 rfl ?_
  refine vl_goto dL_law_583 ?_
  exact fin _ _ _ (htb.1) (by show kc + 0 + 0 ≤ kc + 4; omega) (by show ks + 0 + 0 ≤ ks + 904; omega)
set_option maxRecDepth 8000 in
theorem lc_start {l : Launch} {b Ls : Nat} {xs : Nat → Int32} {M : Mem} {kc ks : Nat} {ab : Int} (hLs : Ls ≤ 3072) (hE : RE M ab) (hb0 : 0 ≤ ab) (hb1 : ab ≤ 100000) (i : Int) (h0 : 0 ≤ i) (h1 : i + 6 ≤ Ls) (hk1 : kc + 4 ≤ 600000) (hk2 : ks + 904 ≤ 7302250) (fin : ∀ (M2 : Mem) (kc2 ks2 : Nat), RE M2 (ab + 30) → kc2 ≤ kc + 4 → ks2 ≤ ks + 904 → VL l b Ls xs 1691 [none, some (aR 0), some (aR 54), some (aI i)] [] M2 kc2 ks2) : VL l b Ls xs 586 [none, some (aR 0), some (aR 54), some (aI i)] [] M kc ks := by
  have hR := hE.1
  have hB := hR.1
  refine vl_aload_n dL_law_586 rfl ?_
  refine vl_sk dL_law_587 dL_law_588 dL_law_589 dL_law_590 dL_law_591 rfl rfl (by omega) (by omega) hLs ?_
  refine vl_sk dL_law_592 dL_law_593 dL_law_594 dL_law_595 dL_law_596 rfl rfl (by omega) (by omega) hLs ?_
  refine vl_cI dL_law_597 (sfX11_startF hB ((xs (i + 1).toNat).toInt) ((xs (i + 2).toNat).toInt)) rfl okX11_start viX11_start lkL_59 (s_0 hB.1) cl_11 rfl (Nat.le_of_ble_eq_true rfl) (by show kc + 0 ≤ 600000; omega) (by show ks + 0 ≤ 7302250; omega) (Nat.le_of_ble_eq_true rfl) ?_
  rintro x1 M2 ⟨b3, u5, v6, h4⟩
  refine vl_pop dL_law_600 rfl ?_
  refine vl_aload_n dL_law_601 rfl ?_
  refine vl_sk dL_law_602 dL_law_603 dL_law_604 dL_law_605 dL_law_606 rfl rfl (by omega) (by omega) hLs ?_
  refine vl_sk dL_law_607 dL_law_608 dL_law_609 dL_law_610 dL_law_611 rfl rfl (by omega) (by omega) hLs ?_
  refine vl_cI dL_law_612 (sfX12_startF b3.1 ((xs (i + 1).toNat).toInt) ((xs (i + 2).toNat).toInt)) rfl okX12_start viX12_start lkL_63 (s_54 b3.1.1) cl_12 rfl (Nat.le_of_ble_eq_true rfl) (by show kc + 0 + 0 ≤ 600000; omega) (by show ks + 0 + 0 ≤ 7302250; omega) (Nat.le_of_ble_eq_true rfl) ?_
  rintro x7 M8 ⟨b9, kp11, u12, v13, h10⟩
  have htb := deed_RE (Sp := StartS ((xs (i + 1).toNat).toInt) ((xs (i + 2).toNat).toInt)) hE b3 b9 h4 h10 (hR.as.start (by omega) hR.ar.w3 h4) h4.lk.j (hE.nt.start h4)
  refine vl_pop dL_law_615 rfl ?_
  refine vl_goto dL_law_616 ?_
  exact fin _ _ _ (htb.1) (by show kc + 0 + 0 ≤ kc + 4; omega) (by show ks + 0 + 0 ≤ ks + 904; omega)
set_option maxRecDepth 8000 in
theorem lc_walk {l : Launch} {b Ls : Nat} {xs : Nat → Int32} {M : Mem} {kc ks : Nat} {ab : Int} (hLs : Ls ≤ 3072) (hE : RE M ab) (hb0 : 0 ≤ ab) (hb1 : ab ≤ 100000) (i : Int) (h0 : 0 ≤ i) (h1 : i + 6 ≤ Ls) (hk1 : kc + 4 ≤ 600000) (hk2 : ks + 904 ≤ 7302250) (fin : ∀ (M2 : Mem) (kc2 ks2 : Nat), RE M2 (ab + 30) → kc2 ≤ kc + 4 → ks2 ≤ ks + 904 → VL l b Ls xs 1691 [none, some (aR 0), some (aR 54), some (aI i)] [] M2 kc2 ks2) : VL l b Ls xs 619 [none, some (aR 0), some (aR 54), some (aI i)] [] M kc ks := by
  have hR := hE.1
  have hB := hR.1
  refine vl_aload_n dL_law_619 rfl ?_
  refine vl_sk dL_law_620 dL_law_621 dL_law_622 dL_law_623 dL_law_624 rfl rfl (by omega) (by omega) hLs ?_
  refine vl_cI dL_law_625 (sfX11_walkF hB ((xs (i + 1).toNat).toInt) hE.wl) rfl okX11_walk viX11_walk lkL_64 (s_0 hB.1) cl_11 rfl (Nat.le_of_ble_eq_true rfl) (by show kc + 0 ≤ 600000; omega) (by show ks + 0 ≤ 7302250; omega) (Nat.le_of_ble_eq_true rfl) ?_
  rintro x1 M2 ⟨b3, h4⟩
  refine vl_pop dL_law_628 rfl ?_
  refine vl_aload_n dL_law_629 rfl ?_
  refine vl_sk dL_law_630 dL_law_631 dL_law_632 dL_law_633 dL_law_634 rfl rfl (by omega) (by omega) hLs ?_
  refine vl_cI dL_law_635 (sfX12_walkF b3.1 (cS M) ((xs (i + 1).toNat).toInt) (hR.arN b3) (hE.lwN b3) hE.nt) rfl okX12_walk viX12_walk lkL_67 (s_54 b3.1.1) cl_12 rfl (Nat.le_of_ble_eq_true rfl) (by show kc + 0 + 0 ≤ 600000; omega) (by show ks + 0 + 0 ≤ 7302250; omega) (Nat.le_of_ble_eq_true rfl) ?_
  rintro x5 M6 ⟨b7, h8⟩
  have htb := deed2_RE (Sp := WalkS ((xs (i + 1).toNat).toInt) (cS M)) hE b3 b7 h4 h8 (hR.as.walk (by omega) hR.ar.w3 h4) h4.lk.j (hE.nt.walk h4)
  refine vl_pop dL_law_638 rfl ?_
  refine vl_goto dL_law_639 ?_
  exact fin _ _ _ (htb.1) (by show kc + 0 + 0 ≤ kc + 4; omega) (by show ks + 0 + 0 ≤ ks + 904; omega)
set_option maxRecDepth 8000 in
theorem lc_turn {l : Launch} {b Ls : Nat} {xs : Nat → Int32} {M : Mem} {kc ks : Nat} {ab : Int} (hLs : Ls ≤ 3072) (hE : RE M ab) (hb0 : 0 ≤ ab) (hb1 : ab ≤ 100000) (i : Int) (h0 : 0 ≤ i) (h1 : i + 6 ≤ Ls) (hk1 : kc + 4 ≤ 600000) (hk2 : ks + 904 ≤ 7302250) (fin : ∀ (M2 : Mem) (kc2 ks2 : Nat), RE M2 (ab + 30) → kc2 ≤ kc + 4 → ks2 ≤ ks + 904 → VL l b Ls xs 1691 [none, some (aR 0), some (aR 54), some (aI i)] [] M2 kc2 ks2) : VL l b Ls xs 642 [none, some (aR 0), some (aR 54), some (aI i)] [] M kc ks := by
  have hR := hE.1
  have hB := hR.1
  refine vl_aload_n dL_law_642 rfl ?_
  refine vl_sk dL_law_643 dL_law_644 dL_law_645 dL_law_646 dL_law_647 rfl rfl (by omega) (by omega) hLs ?_
  refine vl_cI dL_law_648 (sfX11_turnF hB ((xs (i + 1).toNat).toInt)) rfl okX11_turn viX11_turn lkL_68 (s_0 hB.1) cl_11 rfl (Nat.le_of_ble_eq_true rfl) (by show kc + 0 ≤ 600000; omega) (by show ks + 0 ≤ 7302250; omega) (Nat.le_of_ble_eq_true rfl) ?_
  rintro x1 M2 ⟨b3, h4⟩
  refine vl_pop dL_law_651 rfl ?_
  refine vl_aload_n dL_law_652 rfl ?_
  refine vl_sk dL_law_653 dL_law_654 dL_law_655 dL_law_656 dL_law_657 rfl rfl (by omega) (by omega) hLs ?_
  refine vl_cI dL_law_658 (sfX12_turnF b3.1 ((xs (i + 1).toNat).toInt)) rfl okX12_turn viX12_turn lkL_71 (s_54 b3.1.1) cl_12 rfl (Nat.le_of_ble_eq_true rfl) (by show kc + 0 + 0 ≤ 600000; omega) (by show ks + 0 + 0 ≤ 7302250; omega) (Nat.le_of_ble_eq_true rfl) ?_
  rintro x5 M6 ⟨b7, kp9, h8⟩
  have htb := deed_RE (Sp := TurnS ((xs (i + 1).toNat).toInt)) hE b3 b7 h4 h8 (hR.as.turn (by omega) hR.ar.w3 h4) h4.lk.j (hE.nt.turn h4)
  refine vl_pop dL_law_661 rfl ?_
  refine vl_goto dL_law_662 ?_
  exact fin _ _ _ (htb.1) (by show kc + 0 + 0 ≤ kc + 4; omega) (by show ks + 0 + 0 ≤ ks + 904; omega)
set_option maxRecDepth 8000 in
theorem lc_ask {l : Launch} {b Ls : Nat} {xs : Nat → Int32} {M : Mem} {kc ks : Nat} {ab : Int} (hLs : Ls ≤ 3072) (hE : RE M ab) (hb0 : 0 ≤ ab) (hb1 : ab ≤ 100000) (i : Int) (h0 : 0 ≤ i) (h1 : i + 6 ≤ Ls) (hk1 : kc + 4 ≤ 600000) (hk2 : ks + 904 ≤ 7302250) (fin : ∀ (M2 : Mem) (kc2 ks2 : Nat), RE M2 (ab + 30) → kc2 ≤ kc + 4 → ks2 ≤ ks + 904 → VL l b Ls xs 1691 [none, some (aR 0), some (aR 54), some (aI i)] [] M2 kc2 ks2) : VL l b Ls xs 665 [none, some (aR 0), some (aR 54), some (aI i)] [] M kc ks := by
  have hR := hE.1
  have hB := hR.1
  refine vl_aload_n dL_law_665 rfl ?_
  refine vl_sk dL_law_666 dL_law_667 dL_law_668 dL_law_669 dL_law_670 rfl rfl (by omega) (by omega) hLs ?_
  refine vl_cI dL_law_671 (sfX11_askF hB ((xs (i + 1).toNat).toInt) hE.wl) rfl okX11_ask viX11_ask lkL_72 (s_0 hB.1) cl_11 rfl (Nat.le_of_ble_eq_true rfl) (by show kc + 0 ≤ 600000; omega) (by show ks + 0 ≤ 7302250; omega) (Nat.le_of_ble_eq_true rfl) ?_
  rintro x1 M2 ⟨b3, h4⟩
  refine vl_pop dL_law_674 rfl ?_
  refine vl_aload_n dL_law_675 rfl ?_
  refine vl_sk dL_law_676 dL_law_677 dL_law_678 dL_law_679 dL_law_680 rfl rfl (by omega) (by omega) hLs ?_
  refine vl_cI dL_law_681 (sfX12_askF b3.1 (cS M) ((xs (i + 1).toNat).toInt) (hR.arN b3) (hE.lwN b3) (hR.as.le (by omega))) rfl okX12_ask viX12_ask lkL_75 (s_54 b3.1.1) cl_12 rfl (Nat.le_of_ble_eq_true rfl) (by show kc + 0 + 0 ≤ 600000; omega) (by show ks + 0 + 0 ≤ 7302250; omega) (Nat.le_of_ble_eq_true rfl) ?_
  rintro x5 M6 ⟨b7, kp9, h8⟩
  have htb := deed2_RE (Sp := AskS ((xs (i + 1).toNat).toInt) (cS M)) hE b3 b7 h4 h8 (hR.as.ask hb0 (by omega) (by omega) hR.ar.w3 hR.ar.w8.2 h4) h4.lk.j (hE.nt.ask h4)
  refine vl_pop dL_law_684 rfl ?_
  refine vl_goto dL_law_685 ?_
  exact fin _ _ _ (htb.1) (by show kc + 0 + 0 ≤ kc + 4; omega) (by show ks + 0 + 0 ≤ ks + 904; omega)
set_option maxRecDepth 8000 in
theorem lc_follow {l : Launch} {b Ls : Nat} {xs : Nat → Int32} {M : Mem} {kc ks : Nat} {ab : Int} (hLs : Ls ≤ 3072) (hE : RE M ab) (hb0 : 0 ≤ ab) (hb1 : ab ≤ 100000) (i : Int) (h0 : 0 ≤ i) (h1 : i + 6 ≤ Ls) (hk1 : kc + 4 ≤ 600000) (hk2 : ks + 904 ≤ 7302250) (fin : ∀ (M2 : Mem) (kc2 ks2 : Nat), RE M2 (ab + 30) → kc2 ≤ kc + 4 → ks2 ≤ ks + 904 → VL l b Ls xs 1691 [none, some (aR 0), some (aR 54), some (aI i)] [] M2 kc2 ks2) : VL l b Ls xs 688 [none, some (aR 0), some (aR 54), some (aI i)] [] M kc ks := by
  have hR := hE.1
  have hB := hR.1
  refine vl_aload_n dL_law_688 rfl ?_
  refine vl_sk dL_law_689 dL_law_690 dL_law_691 dL_law_692 dL_law_693 rfl rfl (by omega) (by omega) hLs ?_
  refine vl_cI dL_law_694 (sfX11_followF hB ((xs (i + 1).toNat).toInt) hR.wf hE.wl) rfl okX11_follow viX11_follow lkL_76 (s_0 hB.1) cl_11 rfl (Nat.le_of_ble_eq_true rfl) (by show kc + 0 ≤ 600000; omega) (by show ks + 0 ≤ 7302250; omega) (Nat.le_of_ble_eq_true rfl) ?_
  rintro x1 M2 ⟨b3, h4⟩
  refine vl_pop dL_law_697 rfl ?_
  refine vl_aload_n dL_law_698 rfl ?_
  refine vl_sk dL_law_699 dL_law_700 dL_law_701 dL_law_702 dL_law_703 rfl rfl (by omega) (by omega) hLs ?_
  refine vl_cI dL_law_704 (sfX12_followF b3.1 (cS M) ((xs (i + 1).toNat).toInt) (hR.arN b3) (hE.lwN b3) hE.nt) rfl okX12_follow viX12_follow lkL_79 (s_54 b3.1.1) cl_12 rfl (Nat.le_of_ble_eq_true rfl) (by show kc + 0 + 0 ≤ 600000; omega) (by show ks + 0 + 0 ≤ 7302250; omega) (Nat.le_of_ble_eq_true rfl) ?_
  rintro x5 M6 ⟨b7, kp9, h8⟩
  have htb := deed2_RE (Sp := FollowS ((xs (i + 1).toNat).toInt) (cS M)) hE b3 b7 h4 h8 (hR.as.follow (by omega) hR.ar.w3 h4) h4.lk.j (hE.nt.follow h4)
  refine vl_pop dL_law_707 rfl ?_
  refine vl_goto dL_law_708 ?_
  exact fin _ _ _ (htb.1) (by show kc + 0 + 0 ≤ kc + 4; omega) (by show ks + 0 + 0 ≤ ks + 904; omega)
set_option maxRecDepth 8000 in
theorem lc_played {l : Launch} {b Ls : Nat} {xs : Nat → Int32} {M : Mem} {kc ks : Nat} {ab : Int} (hLs : Ls ≤ 3072) (hE : RE M ab) (hb0 : 0 ≤ ab) (hb1 : ab ≤ 100000) (i : Int) (h0 : 0 ≤ i) (h1 : i + 6 ≤ Ls) (hk1 : kc + 4 ≤ 600000) (hk2 : ks + 904 ≤ 7302250) (fin : ∀ (M2 : Mem) (kc2 ks2 : Nat), RE M2 (ab + 30) → kc2 ≤ kc + 4 → ks2 ≤ ks + 904 → VL l b Ls xs 1691 [none, some (aR 0), some (aR 54), some (aI i)] [] M2 kc2 ks2) : VL l b Ls xs 711 [none, some (aR 0), some (aR 54), some (aI i)] [] M kc ks := by
  have hR := hE.1
  have hB := hR.1
  refine vl_aload_n dL_law_711 rfl ?_
  refine vl_sk dL_law_712 dL_law_713 dL_law_714 dL_law_715 dL_law_716 rfl rfl (by omega) (by omega) hLs ?_
  refine vl_cI dL_law_717 (sfX11_playedF hB ((xs (i + 1).toNat).toInt) hR.wf hR.tx hE.wl) rfl okX11_played viX11_played lkL_80 (s_0 hB.1) cl_11 rfl (Nat.le_of_ble_eq_true rfl) (by show kc + 0 ≤ 600000; omega) (by show ks + 0 ≤ 7302250; omega) (Nat.le_of_ble_eq_true rfl) ?_
  rintro x1 M2 ⟨b3, h4⟩
  refine vl_pop dL_law_720 rfl ?_
  refine vl_aload_n dL_law_721 rfl ?_
  refine vl_sk dL_law_722 dL_law_723 dL_law_724 dL_law_725 dL_law_726 rfl rfl (by omega) (by omega) hLs ?_
  refine vl_cI dL_law_727 (sfX12_playedF b3.1 (cS M) (cS M2) x1 ab (plF M ((xs (i + 1).toNat).toInt)) ((xs (i + 1).toNat).toInt) (hR.arN b3) hR.as (played_pre hR b3 h4) hb0 (by omega) (hE.lwN b3) hE.nt) rfl okX12_played viX12_played lkL_83 (s_54 b3.1.1) cl_12 rfl (Nat.le_of_ble_eq_true rfl) (by show kc + 0 + 0 ≤ 600000; omega) (by show ks + 0 + 0 ≤ 7302250; omega) (Nat.le_of_ble_eq_true rfl) ?_
  rintro x5 M6 ⟨b7, kp9, h8⟩
  have htb := played_RE hE b3 b7 h4 h8
  refine vl_pop dL_law_730 rfl ?_
  refine vl_goto dL_law_731 ?_
  exact fin _ _ _ (htb.1) (by show kc + 0 + 0 ≤ kc + 4; omega) (by show ks + 0 + 0 ≤ ks + 904; omega)
set_option maxRecDepth 8000 in
theorem lc_day {l : Launch} {b Ls : Nat} {xs : Nat → Int32} {M : Mem} {kc ks : Nat} {ab : Int} (hLs : Ls ≤ 3072) (hE : RE M ab) (hb0 : 0 ≤ ab) (hb1 : ab ≤ 100000) (i : Int) (h0 : 0 ≤ i) (h1 : i + 6 ≤ Ls) (hk1 : kc + 4 ≤ 600000) (hk2 : ks + 904 ≤ 7302250) (fin : ∀ (M2 : Mem) (kc2 ks2 : Nat), RE M2 (ab + 30) → kc2 ≤ kc + 4 → ks2 ≤ ks + 904 → VL l b Ls xs 1691 [none, some (aR 0), some (aR 54), some (aI i)] [] M2 kc2 ks2) : VL l b Ls xs 734 [none, some (aR 0), some (aR 54), some (aI i)] [] M kc ks := by
  have hR := hE.1
  have hB := hR.1
  refine vl_aload_n dL_law_734 rfl ?_
  refine vl_sk dL_law_735 dL_law_736 dL_law_737 dL_law_738 dL_law_739 rfl rfl (by omega) (by omega) hLs ?_
  refine vl_sk dL_law_740 dL_law_741 dL_law_742 dL_law_743 dL_law_744 rfl rfl (by omega) (by omega) hLs ?_
  refine vl_cI dL_law_745 (sfX11_dayF hB ((xs (i + 1).toNat).toInt) ((xs (i + 2).toNat).toInt) hE.wl) rfl okX11_day viX11_day lkL_84 (s_0 hB.1) cl_11 rfl (Nat.le_of_ble_eq_true rfl) (by show kc + 0 ≤ 600000; omega) (by show ks + 0 ≤ 7302250; omega) (Nat.le_of_ble_eq_true rfl) ?_
  rintro x1 M2 ⟨b3, h4⟩
  refine vl_pop dL_law_748 rfl ?_
  refine vl_aload_n dL_law_749 rfl ?_
  refine vl_sk dL_law_750 dL_law_751 dL_law_752 dL_law_753 dL_law_754 rfl rfl (by omega) (by omega) hLs ?_
  refine vl_sk dL_law_755 dL_law_756 dL_law_757 dL_law_758 dL_law_759 rfl rfl (by omega) (by omega) hLs ?_
  refine vl_cI dL_law_760 (sfX12_dayF b3.1 (cS M) ((xs (i + 1).toNat).toInt) ((xs (i + 2).toNat).toInt) (hR.arN b3) (hE.lwN b3) hE.nt (hR.as.le (by omega))) rfl okX12_day viX12_day lkL_88 (s_54 b3.1.1) cl_12 rfl (Nat.le_of_ble_eq_true rfl) (by show kc + 0 + 0 ≤ 600000; omega) (by show ks + 0 + 0 ≤ 7302250; omega) (Nat.le_of_ble_eq_true rfl) ?_
  rintro x5 M6 ⟨b7, kp9, h8⟩
  have htb := deed2_RE (Sp := DayS ((xs (i + 1).toNat).toInt) ((xs (i + 2).toNat).toInt) (cS M)) hE b3 b7 h4 h8 (hR.as.day hb0 (by omega) (by omega) hR.ar.w3 hR.ar.w8 h4) h4.lk.j (hE.nt.day h4)
  refine vl_pop dL_law_763 rfl ?_
  refine vl_goto dL_law_764 ?_
  exact fin _ _ _ (htb.1) (by show kc + 0 + 0 ≤ kc + 4; omega) (by show ks + 0 + 0 ≤ ks + 904; omega)
set_option maxRecDepth 8000 in
theorem lc_undo {l : Launch} {b Ls : Nat} {xs : Nat → Int32} {M : Mem} {kc ks : Nat} {ab : Int} (hLs : Ls ≤ 3072) (hE : RE M ab) (hb0 : 0 ≤ ab) (hb1 : ab ≤ 100000) (i : Int) (h0 : 0 ≤ i) (h1 : i + 6 ≤ Ls) (hk1 : kc + 4 ≤ 600000) (hk2 : ks + 904 ≤ 7302250) (fin : ∀ (M2 : Mem) (kc2 ks2 : Nat), RE M2 (ab + 30) → kc2 ≤ kc + 4 → ks2 ≤ ks + 904 → VL l b Ls xs 1691 [none, some (aR 0), some (aR 54), some (aI i)] [] M2 kc2 ks2) : VL l b Ls xs 767 [none, some (aR 0), some (aR 54), some (aI i)] [] M kc ks := by
  have hR := hE.1
  have hB := hR.1
  refine vl_aload_n dL_law_767 rfl ?_
  refine vl_cI dL_law_768 (sfX11_undoF hB ) rfl okX11_undo viX11_undo lkL_89 (s_0 hB.1) cl_11 rfl (Nat.le_of_ble_eq_true rfl) (by show kc + 0 ≤ 600000; omega) (by show ks + 0 ≤ 7302250; omega) (Nat.le_of_ble_eq_true rfl) ?_
  rintro x1 M2 ⟨b3, h4⟩
  refine vl_pop dL_law_771 rfl ?_
  refine vl_aload_n dL_law_772 rfl ?_
  refine vl_cI dL_law_773 (sfX12_undoF b3.1 ) rfl okX12_undo viX12_undo lkL_92 (s_54 b3.1.1) cl_12 rfl (Nat.le_of_ble_eq_true rfl) (by show kc + 0 + 0 ≤ 600000; omega) (by show ks + 0 + 0 ≤ 7302250; omega) (Nat.le_of_ble_eq_true rfl) ?_
  rintro x5 M6 ⟨b7, h8⟩
  have htb := deed_RE (Sp := UndoS) hE b3 b7 h4 h8 (undo_as hR.as (by omega) h4) h4.lk.j (hE.nt.undo h4)
  refine vl_pop dL_law_776 rfl ?_
  refine vl_goto dL_law_777 ?_
  exact fin _ _ _ (htb.1) (by show kc + 0 + 0 ≤ kc + 4; omega) (by show ks + 0 + 0 ≤ ks + 904; omega)
set_option maxRecDepth 8000 in
theorem lc_walker {l : Launch} {b Ls : Nat} {xs : Nat → Int32} {M : Mem} {kc ks : Nat} {ab : Int} (hLs : Ls ≤ 3072) (hE : RE M ab) (hb0 : 0 ≤ ab) (hb1 : ab ≤ 100000) (i : Int) (h0 : 0 ≤ i) (h1 : i + 6 ≤ Ls) (hk1 : kc + 4 ≤ 600000) (hk2 : ks + 904 ≤ 7302250) (fin : ∀ (M2 : Mem) (kc2 ks2 : Nat), RE M2 (ab + 30) → kc2 ≤ kc + 4 → ks2 ≤ ks + 904 → VL l b Ls xs 1691 [none, some (aR 0), some (aR 54), some (aI i)] [] M2 kc2 ks2) : VL l b Ls xs 780 [none, some (aR 0), some (aR 54), some (aI i)] [] M kc ks := by
  have hR := hE.1
  have hB := hR.1
  refine vl_aload_n dL_law_780 rfl ?_
  refine vl_sk dL_law_781 dL_law_782 dL_law_783 dL_law_784 dL_law_785 rfl rfl (by omega) (by omega) hLs ?_
  refine vl_cI dL_law_786 (sfX11_walkerF hB ((xs (i + 1).toNat).toInt)) rfl okX11_walker viX11_walker lkL_93 (s_0 hB.1) cl_11 rfl (Nat.le_of_ble_eq_true rfl) (by show kc + 0 ≤ 600000; omega) (by show ks + 0 ≤ 7302250; omega) (Nat.le_of_ble_eq_true rfl) ?_
  rintro x1 _ ⟨rfl, h2⟩
  refine vl_pop dL_law_789 rfl ?_
  refine vl_aload_n dL_law_790 rfl ?_
  refine vl_sk dL_law_791 dL_law_792 dL_law_793 dL_law_794 dL_law_795 rfl rfl (by omega) (by omega) hLs ?_
  refine vl_cI dL_law_796 (sfX12_walkerF hB ((xs (i + 1).toNat).toInt)) rfl okX12_walker viX12_walker lkL_96 (s_54 hB.1) cl_12 rfl (Nat.le_of_ble_eq_true rfl) (by show kc + 0 + 0 ≤ 600000; omega) (by show ks + 0 + 0 ≤ 7302250; omega) (Nat.le_of_ble_eq_true rfl) ?_
  rintro x3 _ ⟨rfl, h4⟩
  refine vl_pop dL_law_799 rfl ?_
  refine vl_goto dL_law_800 ?_
  exact fin _ _ _ (hE.le (by omega)) (by show kc + 0 + 0 ≤ kc + 4; omega) (by show ks + 0 + 0 ≤ ks + 904; omega)
set_option maxRecDepth 8000 in
theorem lc_ofCorner {l : Launch} {b Ls : Nat} {xs : Nat → Int32} {M : Mem} {kc ks : Nat} {ab : Int} (hLs : Ls ≤ 3072) (hE : RE M ab) (hb0 : 0 ≤ ab) (hb1 : ab ≤ 100000) (i : Int) (h0 : 0 ≤ i) (h1 : i + 6 ≤ Ls) (hk1 : kc + 4 ≤ 600000) (hk2 : ks + 904 ≤ 7302250) (fin : ∀ (M2 : Mem) (kc2 ks2 : Nat), RE M2 (ab + 30) → kc2 ≤ kc + 4 → ks2 ≤ ks + 904 → VL l b Ls xs 1691 [none, some (aR 0), some (aR 54), some (aI i)] [] M2 kc2 ks2) : VL l b Ls xs 803 [none, some (aR 0), some (aR 54), some (aI i)] [] M kc ks := by
  have hR := hE.1
  have hB := hR.1
  refine vl_aload_n dL_law_803 rfl ?_
  refine vl_sk dL_law_804 dL_law_805 dL_law_806 dL_law_807 dL_law_808 rfl rfl (by omega) (by omega) hLs ?_
  refine vl_sk dL_law_809 dL_law_810 dL_law_811 dL_law_812 dL_law_813 rfl rfl (by omega) (by omega) hLs ?_
  refine vl_cI dL_law_814 (sfX11_ofCornerF hB ((xs (i + 1).toNat).toInt) ((xs (i + 2).toNat).toInt)) rfl okX11_ofCorner viX11_ofCorner lkL_97 (s_0 hB.1) cl_11 rfl (Nat.le_of_ble_eq_true rfl) (by show kc + 0 ≤ 600000; omega) (by show ks + 0 ≤ 7302250; omega) (Nat.le_of_ble_eq_true rfl) ?_
  rintro x1 _ ⟨rfl, h2⟩
  refine vl_pop dL_law_817 rfl ?_
  refine vl_aload_n dL_law_818 rfl ?_
  refine vl_sk dL_law_819 dL_law_820 dL_law_821 dL_law_822 dL_law_823 rfl rfl (by omega) (by omega) hLs ?_
  refine vl_sk dL_law_824 dL_law_825 dL_law_826 dL_law_827 dL_law_828 rfl rfl (by omega) (by omega) hLs ?_
  refine vl_cI dL_law_829 (sfX12_ofCornerF hB ((xs (i + 1).toNat).toInt) ((xs (i + 2).toNat).toInt)) rfl okX12_ofCorner viX12_ofCorner lkL_100 (s_54 hB.1) cl_12 rfl (Nat.le_of_ble_eq_true rfl) (by show kc + 0 + 0 ≤ 600000; omega) (by show ks + 0 + 0 ≤ 7302250; omega) (Nat.le_of_ble_eq_true rfl) ?_
  rintro x3 _ ⟨rfl, h4⟩
  refine vl_pop dL_law_832 rfl ?_
  refine vl_goto dL_law_833 ?_
  exact fin _ _ _ (hE.le (by omega)) (by show kc + 0 + 0 ≤ kc + 4; omega) (by show ks + 0 + 0 ≤ ks + 904; omega)
set_option maxRecDepth 8000 in
theorem lc_ofTeller {l : Launch} {b Ls : Nat} {xs : Nat → Int32} {M : Mem} {kc ks : Nat} {ab : Int} (hLs : Ls ≤ 3072) (hE : RE M ab) (hb0 : 0 ≤ ab) (hb1 : ab ≤ 100000) (i : Int) (h0 : 0 ≤ i) (h1 : i + 6 ≤ Ls) (hk1 : kc + 4 ≤ 600000) (hk2 : ks + 904 ≤ 7302250) (fin : ∀ (M2 : Mem) (kc2 ks2 : Nat), RE M2 (ab + 30) → kc2 ≤ kc + 4 → ks2 ≤ ks + 904 → VL l b Ls xs 1691 [none, some (aR 0), some (aR 54), some (aI i)] [] M2 kc2 ks2) : VL l b Ls xs 836 [none, some (aR 0), some (aR 54), some (aI i)] [] M kc ks := by
  have hR := hE.1
  have hB := hR.1
  refine vl_aload_n dL_law_836 rfl ?_
  refine vl_sk dL_law_837 dL_law_838 dL_law_839 dL_law_840 dL_law_841 rfl rfl (by omega) (by omega) hLs ?_
  refine vl_sk dL_law_842 dL_law_843 dL_law_844 dL_law_845 dL_law_846 rfl rfl (by omega) (by omega) hLs ?_
  refine vl_cI dL_law_847 (sfX11_ofTellerF hB ((xs (i + 1).toNat).toInt) ((xs (i + 2).toNat).toInt)) rfl okX11_ofTeller viX11_ofTeller lkL_101 (s_0 hB.1) cl_11 rfl (Nat.le_of_ble_eq_true rfl) (by show kc + 0 ≤ 600000; omega) (by show ks + 0 ≤ 7302250; omega) (Nat.le_of_ble_eq_true rfl) ?_
  rintro x1 _ ⟨rfl, h2⟩
  refine vl_pop dL_law_850 rfl ?_
  refine vl_aload_n dL_law_851 rfl ?_
  refine vl_sk dL_law_852 dL_law_853 dL_law_854 dL_law_855 dL_law_856 rfl rfl (by omega) (by omega) hLs ?_
  refine vl_sk dL_law_857 dL_law_858 dL_law_859 dL_law_860 dL_law_861 rfl rfl (by omega) (by omega) hLs ?_
  refine vl_cI dL_law_862 (sfX12_ofTellerF hB ((xs (i + 1).toNat).toInt) ((xs (i + 2).toNat).toInt)) rfl okX12_ofTeller viX12_ofTeller lkL_104 (s_54 hB.1) cl_12 rfl (Nat.le_of_ble_eq_true rfl) (by show kc + 0 + 0 ≤ 600000; omega) (by show ks + 0 + 0 ≤ 7302250; omega) (Nat.le_of_ble_eq_true rfl) ?_
  rintro x3 _ ⟨rfl, h4⟩
  refine vl_pop dL_law_865 rfl ?_
  refine vl_goto dL_law_866 ?_
  exact fin _ _ _ (hE.le (by omega)) (by show kc + 0 + 0 ≤ kc + 4; omega) (by show ks + 0 + 0 ≤ ks + 904; omega)
set_option maxRecDepth 8000 in
theorem lc_ofTelling {l : Launch} {b Ls : Nat} {xs : Nat → Int32} {M : Mem} {kc ks : Nat} {ab : Int} (hLs : Ls ≤ 3072) (hE : RE M ab) (hb0 : 0 ≤ ab) (hb1 : ab ≤ 100000) (i : Int) (h0 : 0 ≤ i) (h1 : i + 6 ≤ Ls) (hk1 : kc + 4 ≤ 600000) (hk2 : ks + 904 ≤ 7302250) (fin : ∀ (M2 : Mem) (kc2 ks2 : Nat), RE M2 (ab + 30) → kc2 ≤ kc + 4 → ks2 ≤ ks + 904 → VL l b Ls xs 1691 [none, some (aR 0), some (aR 54), some (aI i)] [] M2 kc2 ks2) : VL l b Ls xs 869 [none, some (aR 0), some (aR 54), some (aI i)] [] M kc ks := by
  have hR := hE.1
  have hB := hR.1
  refine vl_aload_n dL_law_869 rfl ?_
  refine vl_sk dL_law_870 dL_law_871 dL_law_872 dL_law_873 dL_law_874 rfl rfl (by omega) (by omega) hLs ?_
  refine vl_sk dL_law_875 dL_law_876 dL_law_877 dL_law_878 dL_law_879 rfl rfl (by omega) (by omega) hLs ?_
  refine vl_cI dL_law_880 (sfX11_ofTelling hB ((xs (i + 1).toNat).toInt) ((xs (i + 2).toNat).toInt)) rfl okX11_ofTelling viX11_ofTelling lkL_105 (s_0 hB.1) cl_11 rfl (Nat.le_of_ble_eq_true rfl) (by show kc + 0 ≤ 600000; omega) (by show ks + 0 ≤ 7302250; omega) (Nat.le_of_ble_eq_true rfl) ?_
  rintro x1 M2 b3
  have hB4 : Box M2 := b3.1
  refine vl_pop dL_law_883 rfl ?_
  refine vl_aload_n dL_law_884 rfl ?_
  refine vl_sk dL_law_885 dL_law_886 dL_law_887 dL_law_888 dL_law_889 rfl rfl (by omega) (by omega) hLs ?_
  refine vl_sk dL_law_890 dL_law_891 dL_law_892 dL_law_893 dL_law_894 rfl rfl (by omega) (by omega) hLs ?_
  refine vl_cI dL_law_895 (sfX12_ofTelling hB4 ((xs (i + 1).toNat).toInt) ((xs (i + 2).toNat).toInt)) rfl okX12_ofTelling viX12_ofTelling lkL_108 (s_54 hB4.1) cl_12 rfl (Nat.le_of_ble_eq_true rfl) (by show kc + 0 + 0 ≤ 600000; omega) (by show ks + 0 + 0 ≤ 7302250; omega) (Nat.le_of_ble_eq_true rfl) ?_
  rintro x5 M6 b7
  have hB8 : Box M6 := b7.1
  refine vl_pop dL_law_898 rfl ?_
  refine vl_goto dL_law_899 ?_
  exact fin _ _ _ ((hE.q (BF.go b3 b7)).le (by omega)) (by show kc + 0 + 0 ≤ kc + 4; omega) (by show ks + 0 + 0 ≤ ks + 904; omega)
set_option maxRecDepth 8000 in
theorem lc_leads {l : Launch} {b Ls : Nat} {xs : Nat → Int32} {M : Mem} {kc ks : Nat} {ab : Int} (hLs : Ls ≤ 3072) (hE : RE M ab) (hb0 : 0 ≤ ab) (hb1 : ab ≤ 100000) (i : Int) (h0 : 0 ≤ i) (h1 : i + 6 ≤ Ls) (hk1 : kc + 4 ≤ 600000) (hk2 : ks + 904 ≤ 7302250) (fin : ∀ (M2 : Mem) (kc2 ks2 : Nat), RE M2 (ab + 30) → kc2 ≤ kc + 4 → ks2 ≤ ks + 904 → VL l b Ls xs 1691 [none, some (aR 0), some (aR 54), some (aI i)] [] M2 kc2 ks2) : VL l b Ls xs 902 [none, some (aR 0), some (aR 54), some (aI i)] [] M kc ks := by
  have hR := hE.1
  have hB := hR.1
  refine vl_aload_n dL_law_902 rfl ?_
  refine vl_sk dL_law_903 dL_law_904 dL_law_905 dL_law_906 dL_law_907 rfl rfl (by omega) (by omega) hLs ?_
  refine vl_sk dL_law_908 dL_law_909 dL_law_910 dL_law_911 dL_law_912 rfl rfl (by omega) (by omega) hLs ?_
  refine vl_cI dL_law_913 (sfX11_leadsF hB ((xs (i + 1).toNat).toInt) ((xs (i + 2).toNat).toInt) hR.wf hR.tg) rfl okX11_leads viX11_leads lkL_109 (s_0 hB.1) cl_11 rfl (Nat.le_of_ble_eq_true rfl) (by show kc + 0 ≤ 600000; omega) (by show ks + 0 ≤ 7302250; omega) (Nat.le_of_ble_eq_true rfl) ?_
  rintro x1 M3 ⟨b4, h2⟩
  refine vl_pop dL_law_916 rfl ?_
  refine vl_aload_n dL_law_917 rfl ?_
  refine vl_sk dL_law_918 dL_law_919 dL_law_920 dL_law_921 dL_law_922 rfl rfl (by omega) (by omega) hLs ?_
  refine vl_sk dL_law_923 dL_law_924 dL_law_925 dL_law_926 dL_law_927 rfl rfl (by omega) (by omega) hLs ?_
  refine vl_cI dL_law_928 (sfX12_leadsF b4.1 (cS M) ((xs (i + 1).toNat).toInt) ((xs (i + 2).toNat).toInt) (hR.arQ b4).1 (hE.lwN b4.c) hE.nt) rfl okX12_leads viX12_leads lkL_112 (s_54 b4.1.1) cl_12 rfl (Nat.le_of_ble_eq_true rfl) (by show kc + 0 + 0 ≤ 600000; omega) (by show ks + 0 + 0 ≤ 7302250; omega) (Nat.le_of_ble_eq_true rfl) ?_
  rintro x5 M7 ⟨b8, h6⟩
  refine vl_pop dL_law_931 rfl ?_
  refine vl_goto dL_law_932 ?_
  exact fin _ _ _ ((hE.q (BF.go b4 b8)).le (by omega)) (by show kc + 0 + 0 ≤ kc + 4; omega) (by show ks + 0 + 0 ≤ ks + 904; omega)
set_option maxRecDepth 8000 in
theorem lc_likely {l : Launch} {b Ls : Nat} {xs : Nat → Int32} {M : Mem} {kc ks : Nat} {ab : Int} (hLs : Ls ≤ 3072) (hE : RE M ab) (hb0 : 0 ≤ ab) (hb1 : ab ≤ 100000) (i : Int) (h0 : 0 ≤ i) (h1 : i + 6 ≤ Ls) (hk1 : kc + 4 ≤ 600000) (hk2 : ks + 904 ≤ 7302250) (fin : ∀ (M2 : Mem) (kc2 ks2 : Nat), RE M2 (ab + 30) → kc2 ≤ kc + 4 → ks2 ≤ ks + 904 → VL l b Ls xs 1691 [none, some (aR 0), some (aR 54), some (aI i)] [] M2 kc2 ks2) : VL l b Ls xs 935 [none, some (aR 0), some (aR 54), some (aI i)] [] M kc ks := by
  have hR := hE.1
  have hB := hR.1
  refine vl_aload_n dL_law_935 rfl ?_
  refine vl_sk dL_law_936 dL_law_937 dL_law_938 dL_law_939 dL_law_940 rfl rfl (by omega) (by omega) hLs ?_
  refine vl_sk dL_law_941 dL_law_942 dL_law_943 dL_law_944 dL_law_945 rfl rfl (by omega) (by omega) hLs ?_
  refine vl_cI dL_law_946 (sfX11_likely hB ((xs (i + 1).toNat).toInt) ((xs (i + 2).toNat).toInt)) rfl okX11_likely viX11_likely lkL_113 (s_0 hB.1) cl_11 rfl (Nat.le_of_ble_eq_true rfl) (by show kc + 0 ≤ 600000; omega) (by show ks + 0 ≤ 7302250; omega) (Nat.le_of_ble_eq_true rfl) ?_
  rintro x1 M2 b3
  have hB4 : Box M2 := b3.1
  refine vl_pop dL_law_949 rfl ?_
  refine vl_aload_n dL_law_950 rfl ?_
  refine vl_sk dL_law_951 dL_law_952 dL_law_953 dL_law_954 dL_law_955 rfl rfl (by omega) (by omega) hLs ?_
  refine vl_sk dL_law_956 dL_law_957 dL_law_958 dL_law_959 dL_law_960 rfl rfl (by omega) (by omega) hLs ?_
  refine vl_cI dL_law_961 (sfX12_likely hB4 ((xs (i + 1).toNat).toInt) ((xs (i + 2).toNat).toInt)) rfl okX12_likely viX12_likely lkL_116 (s_54 hB4.1) cl_12 rfl (Nat.le_of_ble_eq_true rfl) (by show kc + 0 + 0 ≤ 600000; omega) (by show ks + 0 + 0 ≤ 7302250; omega) (Nat.le_of_ble_eq_true rfl) ?_
  rintro x5 M6 b7
  have hB8 : Box M6 := b7.1
  refine vl_pop dL_law_964 rfl ?_
  refine vl_goto dL_law_965 ?_
  exact fin _ _ _ ((hE.q (BF.go b3 b7)).le (by omega)) (by show kc + 0 + 0 ≤ kc + 4; omega) (by show ks + 0 + 0 ≤ ks + 904; omega)
set_option maxRecDepth 8000 in
theorem lc_byAll {l : Launch} {b Ls : Nat} {xs : Nat → Int32} {M : Mem} {kc ks : Nat} {ab : Int} (hLs : Ls ≤ 3072) (hE : RE M ab) (hb0 : 0 ≤ ab) (hb1 : ab ≤ 100000) (i : Int) (h0 : 0 ≤ i) (h1 : i + 6 ≤ Ls) (hk1 : kc + 4 ≤ 600000) (hk2 : ks + 904 ≤ 7302250) (fin : ∀ (M2 : Mem) (kc2 ks2 : Nat), RE M2 (ab + 30) → kc2 ≤ kc + 4 → ks2 ≤ ks + 904 → VL l b Ls xs 1691 [none, some (aR 0), some (aR 54), some (aI i)] [] M2 kc2 ks2) : VL l b Ls xs 968 [none, some (aR 0), some (aR 54), some (aI i)] [] M kc ks := by
  have hR := hE.1
  have hB := hR.1
  refine vl_aload_n dL_law_968 rfl ?_
  refine vl_sk dL_law_969 dL_law_970 dL_law_971 dL_law_972 dL_law_973 rfl rfl (by omega) (by omega) hLs ?_
  refine vl_sk dL_law_974 dL_law_975 dL_law_976 dL_law_977 dL_law_978 rfl rfl (by omega) (by omega) hLs ?_
  refine vl_sk dL_law_979 dL_law_980 dL_law_981 dL_law_982 dL_law_983 rfl rfl (by omega) (by omega) hLs ?_
  refine vl_if_eq dL_law_984 (fun g0 => ?_) (fun g0 => ?_)
  · refine vl_iconst dL_law_991 rfl ?_
    refine vl_cL dL_law_992 (sfX11_byAll hB ((xs (i + 1).toNat).toInt) ((xs (i + 2).toNat).toInt) 0) rfl okX11_byAll viX11_byAll lkL_117 (s_0 hB.1) cl_11 rfl (Nat.le_of_ble_eq_true rfl) (by show kc + 0 ≤ 600000; omega) (by show ks + 0 ≤ 7302250; omega) (Nat.le_of_ble_eq_true rfl) ?_
    rintro x1 M2 b3
    have hB4 : Box M2 := b3.1
    refine vl_pop2 dL_law_995 ?_
    refine vl_aload_n dL_law_996 rfl ?_
    refine vl_sk dL_law_997 dL_law_998 dL_law_999 dL_law_1000 dL_law_1001 rfl rfl (by omega) (by omega) hLs ?_
    refine vl_sk dL_law_1002 dL_law_1003 dL_law_1004 dL_law_1005 dL_law_1006 rfl rfl (by omega) (by omega) hLs ?_
    refine vl_sk dL_law_1007 dL_law_1008 dL_law_1009 dL_law_1010 dL_law_1011 rfl rfl (by omega) (by omega) hLs ?_
    refine vl_if_eq dL_law_1012 (fun _ => ?_) (fun h9 => absurd g0 h9)
    refine vl_iconst dL_law_1019 rfl ?_
    refine vl_cL dL_law_1020 (sfX12_byAll hB4 ((xs (i + 1).toNat).toInt) ((xs (i + 2).toNat).toInt) 0) rfl okX12_byAll viX12_byAll lkL_121 (s_54 hB4.1) cl_12 rfl (Nat.le_of_ble_eq_true rfl) (by show kc + 0 + 0 ≤ 600000; omega) (by show ks + 0 + 0 ≤ 7302250; omega) (Nat.le_of_ble_eq_true rfl) ?_
    rintro x5 M6 b7
    have hB8 : Box M6 := b7.1
    refine vl_pop2 dL_law_1023 ?_
    refine vl_goto dL_law_1024 ?_
    exact fin _ _ _ ((hE.q (BF.go b3 b7)).le (by omega)) (by show kc + 0 + 0 ≤ kc + 4; omega) (by show ks + 0 + 0 ≤ ks + 904; omega)
  · refine vl_iconst dL_law_987 rfl ?_
    refine vl_goto dL_law_988 ?_
    refine vl_cL dL_law_992 (sfX11_byAll hB ((xs (i + 1).toNat).toInt) ((xs (i + 2).toNat).toInt) 1) rfl okX11_byAll viX11_byAll lkL_117 (s_0 hB.1) cl_11 rfl (Nat.le_of_ble_eq_true rfl) (by show kc + 0 ≤ 600000; omega) (by show ks + 0 ≤ 7302250; omega) (Nat.le_of_ble_eq_true rfl) ?_
    rintro x9 M10 b11
    have hB12 : Box M10 := b11.1
    refine vl_pop2 dL_law_995 ?_
    refine vl_aload_n dL_law_996 rfl ?_
    refine vl_sk dL_law_997 dL_law_998 dL_law_999 dL_law_1000 dL_law_1001 rfl rfl (by omega) (by omega) hLs ?_
    refine vl_sk dL_law_1002 dL_law_1003 dL_law_1004 dL_law_1005 dL_law_1006 rfl rfl (by omega) (by omega) hLs ?_
    refine vl_sk dL_law_1007 dL_law_1008 dL_law_1009 dL_law_1010 dL_law_1011 rfl rfl (by omega) (by omega) hLs ?_
    refine vl_if_eq dL_law_1012 (fun h9 => absurd h9 g0) (fun _ => ?_)
    refine vl_iconst dL_law_1015 rfl ?_
    refine vl_goto dL_law_1016 ?_
    refine vl_cL dL_law_1020 (sfX12_byAll hB12 ((xs (i + 1).toNat).toInt) ((xs (i + 2).toNat).toInt) 1) rfl okX12_byAll viX12_byAll lkL_121 (s_54 hB12.1) cl_12 rfl (Nat.le_of_ble_eq_true rfl) (by show kc + 0 + 0 ≤ 600000; omega) (by show ks + 0 + 0 ≤ 7302250; omega) (Nat.le_of_ble_eq_true rfl) ?_
    rintro x13 M14 b15
    have hB16 : Box M14 := b15.1
    refine vl_pop2 dL_law_1023 ?_
    refine vl_goto dL_law_1024 ?_
    exact fin _ _ _ ((hE.q (BF.go b11 b15)).le (by omega)) (by show kc + 0 + 0 ≤ kc + 4; omega) (by show ks + 0 + 0 ≤ ks + 904; omega)
set_option maxRecDepth 8000 in
theorem lc_clash {l : Launch} {b Ls : Nat} {xs : Nat → Int32} {M : Mem} {kc ks : Nat} {ab : Int} (hLs : Ls ≤ 3072) (hE : RE M ab) (hb0 : 0 ≤ ab) (hb1 : ab ≤ 100000) (i : Int) (h0 : 0 ≤ i) (h1 : i + 6 ≤ Ls) (hk1 : kc + 4 ≤ 600000) (hk2 : ks + 904 ≤ 7302250) (fin : ∀ (M2 : Mem) (kc2 ks2 : Nat), RE M2 (ab + 30) → kc2 ≤ kc + 4 → ks2 ≤ ks + 904 → VL l b Ls xs 1691 [none, some (aR 0), some (aR 54), some (aI i)] [] M2 kc2 ks2) : VL l b Ls xs 1027 [none, some (aR 0), some (aR 54), some (aI i)] [] M kc ks := by
  have hR := hE.1
  have hB := hR.1
  refine vl_aload_n dL_law_1027 rfl ?_
  refine vl_sk dL_law_1028 dL_law_1029 dL_law_1030 dL_law_1031 dL_law_1032 rfl rfl (by omega) (by omega) hLs ?_
  refine vl_cI dL_law_1033 (sfX11_clash hB ((xs (i + 1).toNat).toInt)) rfl okX11_clash viX11_clash lkL_122 (s_0 hB.1) cl_11 rfl (Nat.le_of_ble_eq_true rfl) (by show kc + 0 ≤ 600000; omega) (by show ks + 0 ≤ 7302250; omega) (Nat.le_of_ble_eq_true rfl) ?_
  rintro x1 M2 b3
  have hB4 : Box M2 := b3.1
  refine vl_pop dL_law_1036 rfl ?_
  refine vl_aload_n dL_law_1037 rfl ?_
  refine vl_sk dL_law_1038 dL_law_1039 dL_law_1040 dL_law_1041 dL_law_1042 rfl rfl (by omega) (by omega) hLs ?_
  refine vl_cI dL_law_1043 (sfX12_clash hB4 ((xs (i + 1).toNat).toInt)) rfl okX12_clash viX12_clash lkL_125 (s_54 hB4.1) cl_12 rfl (Nat.le_of_ble_eq_true rfl) (by show kc + 0 + 0 ≤ 600000; omega) (by show ks + 0 + 0 ≤ 7302250; omega) (Nat.le_of_ble_eq_true rfl) ?_
  rintro x5 M6 b7
  have hB8 : Box M6 := b7.1
  refine vl_pop dL_law_1046 rfl ?_
  refine vl_goto dL_law_1047 ?_
  exact fin _ _ _ ((hE.q (BF.go b3 b7)).le (by omega)) (by show kc + 0 + 0 ≤ kc + 4; omega) (by show ks + 0 + 0 ≤ ks + 904; omega)
set_option maxRecDepth 8000 in
theorem lc_wrong {l : Launch} {b Ls : Nat} {xs : Nat → Int32} {M : Mem} {kc ks : Nat} {ab : Int} (hLs : Ls ≤ 3072) (hE : RE M ab) (hb0 : 0 ≤ ab) (hb1 : ab ≤ 100000) (i : Int) (h0 : 0 ≤ i) (h1 : i + 6 ≤ Ls) (hk1 : kc + 4 ≤ 600000) (hk2 : ks + 904 ≤ 7302250) (fin : ∀ (M2 : Mem) (kc2 ks2 : Nat), RE M2 (ab + 30) → kc2 ≤ kc + 4 → ks2 ≤ ks + 904 → VL l b Ls xs 1691 [none, some (aR 0), some (aR 54), some (aI i)] [] M2 kc2 ks2) : VL l b Ls xs 1050 [none, some (aR 0), some (aR 54), some (aI i)] [] M kc ks := by
  have hR := hE.1
  have hB := hR.1
  refine vl_aload_n dL_law_1050 rfl ?_
  refine vl_sk dL_law_1051 dL_law_1052 dL_law_1053 dL_law_1054 dL_law_1055 rfl rfl (by omega) (by omega) hLs ?_
  refine vl_sk dL_law_1056 dL_law_1057 dL_law_1058 dL_law_1059 dL_law_1060 rfl rfl (by omega) (by omega) hLs ?_
  refine vl_if_eq dL_law_1061 (fun g0 => ?_) (fun g0 => ?_)
  · refine vl_iconst dL_law_1068 rfl ?_
    refine vl_cI dL_law_1069 (sfX11_wrong hB ((xs (i + 1).toNat).toInt) 0) rfl okX11_wrong viX11_wrong lkL_126 (s_0 hB.1) cl_11 rfl (Nat.le_of_ble_eq_true rfl) (by show kc + 0 ≤ 600000; omega) (by show ks + 0 ≤ 7302250; omega) (Nat.le_of_ble_eq_true rfl) ?_
    rintro x1 M2 b3
    have hB4 : Box M2 := b3.1
    refine vl_pop dL_law_1072 rfl ?_
    refine vl_aload_n dL_law_1073 rfl ?_
    refine vl_sk dL_law_1074 dL_law_1075 dL_law_1076 dL_law_1077 dL_law_1078 rfl rfl (by omega) (by omega) hLs ?_
    refine vl_sk dL_law_1079 dL_law_1080 dL_law_1081 dL_law_1082 dL_law_1083 rfl rfl (by omega) (by omega) hLs ?_
    refine vl_if_eq dL_law_1084 (fun _ => ?_) (fun h9 => absurd g0 h9)
    refine vl_iconst dL_law_1091 rfl ?_
    refine vl_cI dL_law_1092 (sfX12_wrong hB4 ((xs (i + 1).toNat).toInt) 0) rfl okX12_wrong viX12_wrong lkL_130 (s_54 hB4.1) cl_12 rfl (Nat.le_of_ble_eq_true rfl) (by show kc + 0 + 0 ≤ 600000; omega) (by show ks + 0 + 0 ≤ 7302250; omega) (Nat.le_of_ble_eq_true rfl) ?_
    rintro x5 M6 b7
    have hB8 : Box M6 := b7.1
    refine vl_pop dL_law_1095 rfl ?_
    refine vl_goto dL_law_1096 ?_
    exact fin _ _ _ ((hE.q (BF.go b3 b7)).le (by omega)) (by show kc + 0 + 0 ≤ kc + 4; omega) (by show ks + 0 + 0 ≤ ks + 904; omega)
  · refine vl_iconst dL_law_1064 rfl ?_
    refine vl_goto dL_law_1065 ?_
    refine vl_cI dL_law_1069 (sfX11_wrong hB ((xs (i + 1).toNat).toInt) 1) rfl okX11_wrong viX11_wrong lkL_126 (s_0 hB.1) cl_11 rfl (Nat.le_of_ble_eq_true rfl) (by show kc + 0 ≤ 600000; omega) (by show ks + 0 ≤ 7302250; omega) (Nat.le_of_ble_eq_true rfl) ?_
    rintro x9 M10 b11
    have hB12 : Box M10 := b11.1
    refine vl_pop dL_law_1072 rfl ?_
    refine vl_aload_n dL_law_1073 rfl ?_
    refine vl_sk dL_law_1074 dL_law_1075 dL_law_1076 dL_law_1077 dL_law_1078 rfl rfl (by omega) (by omega) hLs ?_
    refine vl_sk dL_law_1079 dL_law_1080 dL_law_1081 dL_law_1082 dL_law_1083 rfl rfl (by omega) (by omega) hLs ?_
    refine vl_if_eq dL_law_1084 (fun h9 => absurd h9 g0) (fun _ => ?_)
    refine vl_iconst dL_law_1087 rfl ?_
    refine vl_goto dL_law_1088 ?_
    refine vl_cI dL_law_1092 (sfX12_wrong hB12 ((xs (i + 1).toNat).toInt) 1) rfl okX12_wrong viX12_wrong lkL_130 (s_54 hB12.1) cl_12 rfl (Nat.le_of_ble_eq_true rfl) (by show kc + 0 + 0 ≤ 600000; omega) (by show ks + 0 + 0 ≤ 7302250; omega) (Nat.le_of_ble_eq_true rfl) ?_
    rintro x13 M14 b15
    have hB16 : Box M14 := b15.1
    refine vl_pop dL_law_1095 rfl ?_
    refine vl_goto dL_law_1096 ?_
    exact fin _ _ _ ((hE.q (BF.go b11 b15)).le (by omega)) (by show kc + 0 + 0 ≤ kc + 4; omega) (by show ks + 0 + 0 ≤ ks + 904; omega)
set_option maxRecDepth 8000 in
theorem lc_far {l : Launch} {b Ls : Nat} {xs : Nat → Int32} {M : Mem} {kc ks : Nat} {ab : Int} (hLs : Ls ≤ 3072) (hE : RE M ab) (hb0 : 0 ≤ ab) (hb1 : ab ≤ 100000) (i : Int) (h0 : 0 ≤ i) (h1 : i + 6 ≤ Ls) (hk1 : kc + 4 ≤ 600000) (hk2 : ks + 904 ≤ 7302250) (fin : ∀ (M2 : Mem) (kc2 ks2 : Nat), RE M2 (ab + 30) → kc2 ≤ kc + 4 → ks2 ≤ ks + 904 → VL l b Ls xs 1691 [none, some (aR 0), some (aR 54), some (aI i)] [] M2 kc2 ks2) : VL l b Ls xs 1099 [none, some (aR 0), some (aR 54), some (aI i)] [] M kc ks := by
  have hR := hE.1
  have hB := hR.1
  refine vl_aload_n dL_law_1099 rfl ?_
  refine vl_sk dL_law_1100 dL_law_1101 dL_law_1102 dL_law_1103 dL_law_1104 rfl rfl (by omega) (by omega) hLs ?_
  refine vl_sk dL_law_1105 dL_law_1106 dL_law_1107 dL_law_1108 dL_law_1109 rfl rfl (by omega) (by omega) hLs ?_
  refine vl_cI dL_law_1110 (sfX11_far hB ((xs (i + 1).toNat).toInt) ((xs (i + 2).toNat).toInt)) rfl okX11_far viX11_far lkL_131 (s_0 hB.1) cl_11 rfl (Nat.le_of_ble_eq_true rfl) (by show kc + 0 ≤ 600000; omega) (by show ks + 0 ≤ 7302250; omega) (Nat.le_of_ble_eq_true rfl) ?_
  rintro x1 M2 b3
  have hB4 : Box M2 := b3.1
  refine vl_pop dL_law_1113 rfl ?_
  refine vl_aload_n dL_law_1114 rfl ?_
  refine vl_sk dL_law_1115 dL_law_1116 dL_law_1117 dL_law_1118 dL_law_1119 rfl rfl (by omega) (by omega) hLs ?_
  refine vl_sk dL_law_1120 dL_law_1121 dL_law_1122 dL_law_1123 dL_law_1124 rfl rfl (by omega) (by omega) hLs ?_
  refine vl_cI dL_law_1125 (sfX12_far hB4 ((xs (i + 1).toNat).toInt) ((xs (i + 2).toNat).toInt)) rfl okX12_far viX12_far lkL_134 (s_54 hB4.1) cl_12 rfl (Nat.le_of_ble_eq_true rfl) (by show kc + 0 + 0 ≤ 600000; omega) (by show ks + 0 + 0 ≤ 7302250; omega) (Nat.le_of_ble_eq_true rfl) ?_
  rintro x5 M6 b7
  have hB8 : Box M6 := b7.1
  refine vl_pop dL_law_1128 rfl ?_
  refine vl_goto dL_law_1129 ?_
  exact fin _ _ _ ((hE.q (BF.go b3 b7)).le (by omega)) (by show kc + 0 + 0 ≤ kc + 4; omega) (by show ks + 0 + 0 ≤ ks + 904; omega)
set_option maxRecDepth 8000 in
theorem lc_see {l : Launch} {b Ls : Nat} {xs : Nat → Int32} {M : Mem} {kc ks : Nat} {ab : Int} (hLs : Ls ≤ 3072) (hE : RE M ab) (hb0 : 0 ≤ ab) (hb1 : ab ≤ 100000) (i : Int) (h0 : 0 ≤ i) (h1 : i + 6 ≤ Ls) (hk1 : kc + 4 ≤ 600000) (hk2 : ks + 904 ≤ 7302250) (fin : ∀ (M2 : Mem) (kc2 ks2 : Nat), RE M2 (ab + 30) → kc2 ≤ kc + 4 → ks2 ≤ ks + 904 → VL l b Ls xs 1691 [none, some (aR 0), some (aR 54), some (aI i)] [] M2 kc2 ks2) : VL l b Ls xs 1132 [none, some (aR 0), some (aR 54), some (aI i)] [] M kc ks := by
  have hR := hE.1
  have hB := hR.1
  refine vl_aload_n dL_law_1132 rfl ?_
  refine vl_sk dL_law_1133 dL_law_1134 dL_law_1135 dL_law_1136 dL_law_1137 rfl rfl (by omega) (by omega) hLs ?_
  refine vl_sk dL_law_1138 dL_law_1139 dL_law_1140 dL_law_1141 dL_law_1142 rfl rfl (by omega) (by omega) hLs ?_
  refine vl_cL dL_law_1143 (sfX11_see hB ((xs (i + 1).toNat).toInt) ((xs (i + 2).toNat).toInt)) rfl okX11_see viX11_see lkL_135 (s_0 hB.1) cl_11 rfl (Nat.le_of_ble_eq_true rfl) (by show kc + 0 ≤ 600000; omega) (by show ks + 0 ≤ 7302250; omega) (Nat.le_of_ble_eq_true rfl) ?_
  rintro x1 M2 b3
  have hB4 : Box M2 := b3.1
  refine vl_pop2 dL_law_1146 ?_
  refine vl_aload_n dL_law_1147 rfl ?_
  refine vl_sk dL_law_1148 dL_law_1149 dL_law_1150 dL_law_1151 dL_law_1152 rfl rfl (by omega) (by omega) hLs ?_
  refine vl_sk dL_law_1153 dL_law_1154 dL_law_1155 dL_law_1156 dL_law_1157 rfl rfl (by omega) (by omega) hLs ?_
  refine vl_cL dL_law_1158 (sfX12_see hB4 ((xs (i + 1).toNat).toInt) ((xs (i + 2).toNat).toInt)) rfl okX12_see viX12_see lkL_139 (s_54 hB4.1) cl_12 rfl (Nat.le_of_ble_eq_true rfl) (by show kc + 0 + 0 ≤ 600000; omega) (by show ks + 0 + 0 ≤ 7302250; omega) (Nat.le_of_ble_eq_true rfl) ?_
  rintro x5 M6 b7
  have hB8 : Box M6 := b7.1
  refine vl_pop2 dL_law_1161 ?_
  refine vl_goto dL_law_1162 ?_
  exact fin _ _ _ ((hE.q (BF.go b3 b7)).le (by omega)) (by show kc + 0 + 0 ≤ kc + 4; omega) (by show ks + 0 + 0 ≤ ks + 904; omega)
set_option maxRecDepth 8000 in
theorem lc_orAsk {l : Launch} {b Ls : Nat} {xs : Nat → Int32} {M : Mem} {kc ks : Nat} {ab : Int} (hLs : Ls ≤ 3072) (hE : RE M ab) (hb0 : 0 ≤ ab) (hb1 : ab ≤ 100000) (i : Int) (h0 : 0 ≤ i) (h1 : i + 6 ≤ Ls) (hk1 : kc + 4 ≤ 600000) (hk2 : ks + 904 ≤ 7302250) (fin : ∀ (M2 : Mem) (kc2 ks2 : Nat), RE M2 (ab + 30) → kc2 ≤ kc + 4 → ks2 ≤ ks + 904 → VL l b Ls xs 1691 [none, some (aR 0), some (aR 54), some (aI i)] [] M2 kc2 ks2) : VL l b Ls xs 1165 [none, some (aR 0), some (aR 54), some (aI i)] [] M kc ks := by
  have hR := hE.1
  have hB := hR.1
  refine vl_aload_n dL_law_1165 rfl ?_
  refine vl_sk dL_law_1166 dL_law_1167 dL_law_1168 dL_law_1169 dL_law_1170 rfl rfl (by omega) (by omega) hLs ?_
  refine vl_cI dL_law_1171 (sfX11_orAsk hB ((xs (i + 1).toNat).toInt)) rfl okX11_orAsk viX11_orAsk lkL_140 (s_0 hB.1) cl_11 rfl (Nat.le_of_ble_eq_true rfl) (by show kc + 0 ≤ 600000; omega) (by show ks + 0 ≤ 7302250; omega) (Nat.le_of_ble_eq_true rfl) ?_
  rintro x1 M2 b3
  have hB4 : Box M2 := b3.1
  refine vl_pop dL_law_1174 rfl ?_
  refine vl_aload_n dL_law_1175 rfl ?_
  refine vl_sk dL_law_1176 dL_law_1177 dL_law_1178 dL_law_1179 dL_law_1180 rfl rfl (by omega) (by omega) hLs ?_
  refine vl_cI dL_law_1181 (sfX12_orAsk hB4 ((xs (i + 1).toNat).toInt)) rfl okX12_orAsk viX12_orAsk lkL_143 (s_54 hB4.1) cl_12 rfl (Nat.le_of_ble_eq_true rfl) (by show kc + 0 + 0 ≤ 600000; omega) (by show ks + 0 + 0 ≤ 7302250; omega) (Nat.le_of_ble_eq_true rfl) ?_
  rintro x5 M6 b7
  have hB8 : Box M6 := b7.1
  refine vl_pop dL_law_1184 rfl ?_
  refine vl_goto dL_law_1185 ?_
  exact fin _ _ _ ((hE.q (BF.go b3 b7)).le (by omega)) (by show kc + 0 + 0 ≤ kc + 4; omega) (by show ks + 0 + 0 ≤ ks + 904; omega)
set_option maxRecDepth 8000 in
theorem lc_safeSoFar {l : Launch} {b Ls : Nat} {xs : Nat → Int32} {M : Mem} {kc ks : Nat} {ab : Int} (hLs : Ls ≤ 3072) (hE : RE M ab) (hb0 : 0 ≤ ab) (hb1 : ab ≤ 100000) (i : Int) (h0 : 0 ≤ i) (h1 : i + 6 ≤ Ls) (hk1 : kc + 4 ≤ 600000) (hk2 : ks + 904 ≤ 7302250) (fin : ∀ (M2 : Mem) (kc2 ks2 : Nat), RE M2 (ab + 30) → kc2 ≤ kc + 4 → ks2 ≤ ks + 904 → VL l b Ls xs 1691 [none, some (aR 0), some (aR 54), some (aI i)] [] M2 kc2 ks2) : VL l b Ls xs 1188 [none, some (aR 0), some (aR 54), some (aI i)] [] M kc ks := by
  have hR := hE.1
  have hB := hR.1
  refine vl_aload_n dL_law_1188 rfl ?_
  refine vl_sk dL_law_1189 dL_law_1190 dL_law_1191 dL_law_1192 dL_law_1193 rfl rfl (by omega) (by omega) hLs ?_
  refine vl_sk dL_law_1194 dL_law_1195 dL_law_1196 dL_law_1197 dL_law_1198 rfl rfl (by omega) (by omega) hLs ?_
  refine vl_sk dL_law_1199 dL_law_1200 dL_law_1201 dL_law_1202 dL_law_1203 rfl rfl (by omega) (by omega) hLs ?_
  refine vl_if_eq dL_law_1204 (fun g0 => ?_) (fun g0 => ?_)
  · refine vl_iconst dL_law_1211 rfl ?_
    refine vl_cI dL_law_1212 (sfX11_safeSoFar hB ((xs (i + 1).toNat).toInt) ((xs (i + 2).toNat).toInt) 0) rfl okX11_safeSoFar viX11_safeSoFar lkL_144 (s_0 hB.1) cl_11 rfl (Nat.le_of_ble_eq_true rfl) (by show kc + 0 ≤ 600000; omega) (by show ks + 0 ≤ 7302250; omega) (Nat.le_of_ble_eq_true rfl) ?_
    rintro x1 M2 b3
    have hB4 : Box M2 := b3.1
    refine vl_pop dL_law_1215 rfl ?_
    refine vl_aload_n dL_law_1216 rfl ?_
    refine vl_sk dL_law_1217 dL_law_1218 dL_law_1219 dL_law_1220 dL_law_1221 rfl rfl (by omega) (by omega) hLs ?_
    refine vl_sk dL_law_1222 dL_law_1223 dL_law_1224 dL_law_1225 dL_law_1226 rfl rfl (by omega) (by omega) hLs ?_
    refine vl_sk dL_law_1227 dL_law_1228 dL_law_1229 dL_law_1230 dL_law_1231 rfl rfl (by omega) (by omega) hLs ?_
    refine vl_if_eq dL_law_1232 (fun _ => ?_) (fun h9 => absurd g0 h9)
    refine vl_iconst dL_law_1239 rfl ?_
    refine vl_cI dL_law_1240 (sfX12_safeSoFar hB4 ((xs (i + 1).toNat).toInt) ((xs (i + 2).toNat).toInt) 0) rfl okX12_safeSoFar viX12_safeSoFar lkL_148 (s_54 hB4.1) cl_12 rfl (Nat.le_of_ble_eq_true rfl) (by show kc + 0 + 0 ≤ 600000; omega) (by show ks + 0 + 0 ≤ 7302250; omega) (Nat.le_of_ble_eq_true rfl) ?_
    rintro x5 M6 b7
    have hB8 : Box M6 := b7.1
    refine vl_pop dL_law_1243 rfl ?_
    refine vl_goto dL_law_1244 ?_
    exact fin _ _ _ ((hE.q (BF.go b3 b7)).le (by omega)) (by show kc + 0 + 0 ≤ kc + 4; omega) (by show ks + 0 + 0 ≤ ks + 904; omega)
  · refine vl_iconst dL_law_1207 rfl ?_
    refine vl_goto dL_law_1208 ?_
    refine vl_cI dL_law_1212 (sfX11_safeSoFar hB ((xs (i + 1).toNat).toInt) ((xs (i + 2).toNat).toInt) 1) rfl okX11_safeSoFar viX11_safeSoFar lkL_144 (s_0 hB.1) cl_11 rfl (Nat.le_of_ble_eq_true rfl) (by show kc + 0 ≤ 600000; omega) (by show ks + 0 ≤ 7302250; omega) (Nat.le_of_ble_eq_true rfl) ?_
    rintro x9 M10 b11
    have hB12 : Box M10 := b11.1
    refine vl_pop dL_law_1215 rfl ?_
    refine vl_aload_n dL_law_1216 rfl ?_
    refine vl_sk dL_law_1217 dL_law_1218 dL_law_1219 dL_law_1220 dL_law_1221 rfl rfl (by omega) (by omega) hLs ?_
    refine vl_sk dL_law_1222 dL_law_1223 dL_law_1224 dL_law_1225 dL_law_1226 rfl rfl (by omega) (by omega) hLs ?_
    refine vl_sk dL_law_1227 dL_law_1228 dL_law_1229 dL_law_1230 dL_law_1231 rfl rfl (by omega) (by omega) hLs ?_
    refine vl_if_eq dL_law_1232 (fun h9 => absurd h9 g0) (fun _ => ?_)
    refine vl_iconst dL_law_1235 rfl ?_
    refine vl_goto dL_law_1236 ?_
    refine vl_cI dL_law_1240 (sfX12_safeSoFar hB12 ((xs (i + 1).toNat).toInt) ((xs (i + 2).toNat).toInt) 1) rfl okX12_safeSoFar viX12_safeSoFar lkL_148 (s_54 hB12.1) cl_12 rfl (Nat.le_of_ble_eq_true rfl) (by show kc + 0 + 0 ≤ 600000; omega) (by show ks + 0 + 0 ≤ 7302250; omega) (Nat.le_of_ble_eq_true rfl) ?_
    rintro x13 M14 b15
    have hB16 : Box M14 := b15.1
    refine vl_pop dL_law_1243 rfl ?_
    refine vl_goto dL_law_1244 ?_
    exact fin _ _ _ ((hE.q (BF.go b11 b15)).le (by omega)) (by show kc + 0 + 0 ≤ kc + 4; omega) (by show ks + 0 + 0 ≤ ks + 904; omega)
set_option maxRecDepth 8000 in
theorem lc_howFar {l : Launch} {b Ls : Nat} {xs : Nat → Int32} {M : Mem} {kc ks : Nat} {ab : Int} (hLs : Ls ≤ 3072) (hE : RE M ab) (hb0 : 0 ≤ ab) (hb1 : ab ≤ 100000) (i : Int) (h0 : 0 ≤ i) (h1 : i + 6 ≤ Ls) (hk1 : kc + 4 ≤ 600000) (hk2 : ks + 904 ≤ 7302250) (fin : ∀ (M2 : Mem) (kc2 ks2 : Nat), RE M2 (ab + 30) → kc2 ≤ kc + 4 → ks2 ≤ ks + 904 → VL l b Ls xs 1691 [none, some (aR 0), some (aR 54), some (aI i)] [] M2 kc2 ks2) : VL l b Ls xs 1247 [none, some (aR 0), some (aR 54), some (aI i)] [] M kc ks := by
  have hR := hE.1
  have hB := hR.1
  refine vl_aload_n dL_law_1247 rfl ?_
  refine vl_sk dL_law_1248 dL_law_1249 dL_law_1250 dL_law_1251 dL_law_1252 rfl rfl (by omega) (by omega) hLs ?_
  refine vl_sk dL_law_1253 dL_law_1254 dL_law_1255 dL_law_1256 dL_law_1257 rfl rfl (by omega) (by omega) hLs ?_
  refine vl_cI dL_law_1258 (sfX11_howFar hB ((xs (i + 1).toNat).toInt) ((xs (i + 2).toNat).toInt)) rfl okX11_howFar viX11_howFar lkL_149 (s_0 hB.1) cl_11 rfl (Nat.le_of_ble_eq_true rfl) (by show kc + 0 ≤ 600000; omega) (by show ks + 0 ≤ 7302250; omega) (Nat.le_of_ble_eq_true rfl) ?_
  rintro x1 M2 b3
  have hB4 : Box M2 := b3.1
  refine vl_pop dL_law_1261 rfl ?_
  refine vl_aload_n dL_law_1262 rfl ?_
  refine vl_sk dL_law_1263 dL_law_1264 dL_law_1265 dL_law_1266 dL_law_1267 rfl rfl (by omega) (by omega) hLs ?_
  refine vl_sk dL_law_1268 dL_law_1269 dL_law_1270 dL_law_1271 dL_law_1272 rfl rfl (by omega) (by omega) hLs ?_
  refine vl_cI dL_law_1273 (sfX12_howFar hB4 ((xs (i + 1).toNat).toInt) ((xs (i + 2).toNat).toInt)) rfl okX12_howFar viX12_howFar lkL_152 (s_54 hB4.1) cl_12 rfl (Nat.le_of_ble_eq_true rfl) (by show kc + 0 + 0 ≤ 600000; omega) (by show ks + 0 + 0 ≤ 7302250; omega) (Nat.le_of_ble_eq_true rfl) ?_
  rintro x5 M6 b7
  have hB8 : Box M6 := b7.1
  refine vl_pop dL_law_1276 rfl ?_
  refine vl_goto dL_law_1277 ?_
  exact fin _ _ _ ((hE.q (BF.go b3 b7)).le (by omega)) (by show kc + 0 + 0 ≤ kc + 4; omega) (by show ks + 0 + 0 ≤ ks + 904; omega)
set_option maxRecDepth 8000 in
theorem lc_lost {l : Launch} {b Ls : Nat} {xs : Nat → Int32} {M : Mem} {kc ks : Nat} {ab : Int} (hLs : Ls ≤ 3072) (hE : RE M ab) (hb0 : 0 ≤ ab) (hb1 : ab ≤ 100000) (i : Int) (h0 : 0 ≤ i) (h1 : i + 6 ≤ Ls) (hk1 : kc + 4 ≤ 600000) (hk2 : ks + 904 ≤ 7302250) (fin : ∀ (M2 : Mem) (kc2 ks2 : Nat), RE M2 (ab + 30) → kc2 ≤ kc + 4 → ks2 ≤ ks + 904 → VL l b Ls xs 1691 [none, some (aR 0), some (aR 54), some (aI i)] [] M2 kc2 ks2) : VL l b Ls xs 1280 [none, some (aR 0), some (aR 54), some (aI i)] [] M kc ks := by
  have hR := hE.1
  have hB := hR.1
  refine vl_aload_n dL_law_1280 rfl ?_
  refine vl_sk dL_law_1281 dL_law_1282 dL_law_1283 dL_law_1284 dL_law_1285 rfl rfl (by omega) (by omega) hLs ?_
  refine vl_sk dL_law_1286 dL_law_1287 dL_law_1288 dL_law_1289 dL_law_1290 rfl rfl (by omega) (by omega) hLs ?_
  refine vl_cI dL_law_1291 (sfX11_lost hB ((xs (i + 1).toNat).toInt) ((xs (i + 2).toNat).toInt)) rfl okX11_lost viX11_lost lkL_153 (s_0 hB.1) cl_11 rfl (Nat.le_of_ble_eq_true rfl) (by show kc + 0 ≤ 600000; omega) (by show ks + 0 ≤ 7302250; omega) (Nat.le_of_ble_eq_true rfl) ?_
  rintro x1 M2 b3
  have hB4 : Box M2 := b3.1
  refine vl_pop dL_law_1294 rfl ?_
  refine vl_aload_n dL_law_1295 rfl ?_
  refine vl_sk dL_law_1296 dL_law_1297 dL_law_1298 dL_law_1299 dL_law_1300 rfl rfl (by omega) (by omega) hLs ?_
  refine vl_sk dL_law_1301 dL_law_1302 dL_law_1303 dL_law_1304 dL_law_1305 rfl rfl (by omega) (by omega) hLs ?_
  refine vl_cI dL_law_1306 (sfX12_lost hB4 ((xs (i + 1).toNat).toInt) ((xs (i + 2).toNat).toInt)) rfl okX12_lost viX12_lost lkL_156 (s_54 hB4.1) cl_12 rfl (Nat.le_of_ble_eq_true rfl) (by show kc + 0 + 0 ≤ 600000; omega) (by show ks + 0 + 0 ≤ 7302250; omega) (Nat.le_of_ble_eq_true rfl) ?_
  rintro x5 M6 b7
  have hB8 : Box M6 := b7.1
  refine vl_pop dL_law_1309 rfl ?_
  refine vl_goto dL_law_1310 ?_
  exact fin _ _ _ ((hE.q (BF.go b3 b7)).le (by omega)) (by show kc + 0 + 0 ≤ kc + 4; omega) (by show ks + 0 + 0 ≤ ks + 904; omega)
set_option maxRecDepth 8000 in
theorem lc_listen {l : Launch} {b Ls : Nat} {xs : Nat → Int32} {M : Mem} {kc ks : Nat} {ab : Int} (hLs : Ls ≤ 3072) (hE : RE M ab) (hb0 : 0 ≤ ab) (hb1 : ab ≤ 100000) (i : Int) (h0 : 0 ≤ i) (h1 : i + 6 ≤ Ls) (hk1 : kc + 4 ≤ 600000) (hk2 : ks + 904 ≤ 7302250) (fin : ∀ (M2 : Mem) (kc2 ks2 : Nat), RE M2 (ab + 30) → kc2 ≤ kc + 4 → ks2 ≤ ks + 904 → VL l b Ls xs 1691 [none, some (aR 0), some (aR 54), some (aI i)] [] M2 kc2 ks2) : VL l b Ls xs 1313 [none, some (aR 0), some (aR 54), some (aI i)] [] M kc ks := by
  have hR := hE.1
  have hB := hR.1
  refine vl_aload_n dL_law_1313 rfl ?_
  refine vl_sk dL_law_1314 dL_law_1315 dL_law_1316 dL_law_1317 dL_law_1318 rfl rfl (by omega) (by omega) hLs ?_
  refine vl_sk dL_law_1319 dL_law_1320 dL_law_1321 dL_law_1322 dL_law_1323 rfl rfl (by omega) (by omega) hLs ?_
  refine vl_sk dL_law_1324 dL_law_1325 dL_law_1326 dL_law_1327 dL_law_1328 rfl rfl (by omega) (by omega) hLs ?_
  refine vl_sk dL_law_1329 dL_law_1330 dL_law_1331 dL_law_1332 dL_law_1333 rfl rfl (by omega) (by omega) hLs ?_
  refine vl_sk dL_law_1334 dL_law_1335 dL_law_1336 dL_law_1337 dL_law_1338 rfl rfl (by omega) (by omega) hLs ?_
  refine vl_if_eq dL_law_1339 (fun g0 => ?_) (fun g0 => ?_)
  · refine vl_iconst dL_law_1346 rfl ?_
    refine vl_cF dL_law_1347 (qX11_listen hB.1 ((xs (i + 1).toNat).toInt) ((xs (i + 2).toNat).toInt) ((xs (i + 3).toNat).toInt) ((xs (i + 4).toNat).toInt) 0) rfl okX11_listen viX11_listen lkL_157 (s_0 hB.1) cl_11 rfl (Nat.le_of_ble_eq_true rfl) (by show kc + 0 ≤ 600000; omega) (by show ks + 0 ≤ 7302250; omega) (Nat.le_of_ble_eq_true rfl) ?_
    refine vl_pop2 dL_law_1350 ?_
    refine vl_aload_n dL_law_1351 rfl ?_
    refine vl_sk dL_law_1352 dL_law_1353 dL_law_1354 dL_law_1355 dL_law_1356 rfl rfl (by omega) (by omega) hLs ?_
    refine vl_sk dL_law_1357 dL_law_1358 dL_law_1359 dL_law_1360 dL_law_1361 rfl rfl (by omega) (by omega) hLs ?_
    refine vl_sk dL_law_1362 dL_law_1363 dL_law_1364 dL_law_1365 dL_law_1366 rfl rfl (by omega) (by omega) hLs ?_
    refine vl_sk dL_law_1367 dL_law_1368 dL_law_1369 dL_law_1370 dL_law_1371 rfl rfl (by omega) (by omega) hLs ?_
    refine vl_sk dL_law_1372 dL_law_1373 dL_law_1374 dL_law_1375 dL_law_1376 rfl rfl (by omega) (by omega) hLs ?_
    refine vl_if_eq dL_law_1377 (fun _ => ?_) (fun h9 => absurd g0 h9)
    refine vl_iconst dL_law_1384 rfl ?_
    refine vl_cF dL_law_1385 (qX12_listen hB.1 ((xs (i + 1).toNat).toInt) ((xs (i + 2).toNat).toInt) ((xs (i + 3).toNat).toInt) ((xs (i + 4).toNat).toInt) 0) rfl okX12_listen viX12_listen lkL_161 (s_54 hB.1) cl_12 rfl (Nat.le_of_ble_eq_true rfl) (by show kc + 0 + 0 ≤ 600000; omega) (by show ks + 0 + 0 ≤ 7302250; omega) (Nat.le_of_ble_eq_true rfl) ?_
    refine vl_pop2 dL_law_1388 ?_
    refine vl_goto dL_law_1389 ?_
    exact fin _ _ _ (hE.le (by omega)) (by show kc + 0 + 0 ≤ kc + 4; omega) (by show ks + 0 + 0 ≤ ks + 904; omega)
  · refine vl_iconst dL_law_1342 rfl ?_
    refine vl_goto dL_law_1343 ?_
    refine vl_cF dL_law_1347 (qX11_listen hB.1 ((xs (i + 1).toNat).toInt) ((xs (i + 2).toNat).toInt) ((xs (i + 3).toNat).toInt) ((xs (i + 4).toNat).toInt) 1) rfl okX11_listen viX11_listen lkL_157 (s_0 hB.1) cl_11 rfl (Nat.le_of_ble_eq_true rfl) (by show kc + 0 ≤ 600000; omega) (by show ks + 0 ≤ 7302250; omega) (Nat.le_of_ble_eq_true rfl) ?_
    refine vl_pop2 dL_law_1350 ?_
    refine vl_aload_n dL_law_1351 rfl ?_
    refine vl_sk dL_law_1352 dL_law_1353 dL_law_1354 dL_law_1355 dL_law_1356 rfl rfl (by omega) (by omega) hLs ?_
    refine vl_sk dL_law_1357 dL_law_1358 dL_law_1359 dL_law_1360 dL_law_1361 rfl rfl (by omega) (by omega) hLs ?_
    refine vl_sk dL_law_1362 dL_law_1363 dL_law_1364 dL_law_1365 dL_law_1366 rfl rfl (by omega) (by omega) hLs ?_
    refine vl_sk dL_law_1367 dL_law_1368 dL_law_1369 dL_law_1370 dL_law_1371 rfl rfl (by omega) (by omega) hLs ?_
    refine vl_sk dL_law_1372 dL_law_1373 dL_law_1374 dL_law_1375 dL_law_1376 rfl rfl (by omega) (by omega) hLs ?_
    refine vl_if_eq dL_law_1377 (fun h9 => absurd h9 g0) (fun _ => ?_)
    refine vl_iconst dL_law_1380 rfl ?_
    refine vl_goto dL_law_1381 ?_
    refine vl_cF dL_law_1385 (qX12_listen hB.1 ((xs (i + 1).toNat).toInt) ((xs (i + 2).toNat).toInt) ((xs (i + 3).toNat).toInt) ((xs (i + 4).toNat).toInt) 1) rfl okX12_listen viX12_listen lkL_161 (s_54 hB.1) cl_12 rfl (Nat.le_of_ble_eq_true rfl) (by show kc + 0 + 0 ≤ 600000; omega) (by show ks + 0 + 0 ≤ 7302250; omega) (Nat.le_of_ble_eq_true rfl) ?_
    refine vl_pop2 dL_law_1388 ?_
    refine vl_goto dL_law_1389 ?_
    exact fin _ _ _ (hE.le (by omega)) (by show kc + 0 + 0 ≤ kc + 4; omega) (by show ks + 0 + 0 ≤ ks + 904; omega)
set_option maxRecDepth 8000 in
theorem lc_tell {l : Launch} {b Ls : Nat} {xs : Nat → Int32} {M : Mem} {kc ks : Nat} {ab : Int} (hLs : Ls ≤ 3072) (hE : RE M ab) (hb0 : 0 ≤ ab) (hb1 : ab ≤ 100000) (i : Int) (h0 : 0 ≤ i) (h1 : i + 6 ≤ Ls) (hk1 : kc + 4 ≤ 600000) (hk2 : ks + 904 ≤ 7302250) (fin : ∀ (M2 : Mem) (kc2 ks2 : Nat), RE M2 (ab + 30) → kc2 ≤ kc + 4 → ks2 ≤ ks + 904 → VL l b Ls xs 1691 [none, some (aR 0), some (aR 54), some (aI i)] [] M2 kc2 ks2) : VL l b Ls xs 1392 [none, some (aR 0), some (aR 54), some (aI i)] [] M kc ks := by
  have hR := hE.1
  have hB := hR.1
  refine vl_aload_n dL_law_1392 rfl ?_
  refine vl_sk dL_law_1393 dL_law_1394 dL_law_1395 dL_law_1396 dL_law_1397 rfl rfl (by omega) (by omega) hLs ?_
  refine vl_sk dL_law_1398 dL_law_1399 dL_law_1400 dL_law_1401 dL_law_1402 rfl rfl (by omega) (by omega) hLs ?_
  refine vl_sk dL_law_1403 dL_law_1404 dL_law_1405 dL_law_1406 dL_law_1407 rfl rfl (by omega) (by omega) hLs ?_
  refine vl_sk dL_law_1408 dL_law_1409 dL_law_1410 dL_law_1411 dL_law_1412 rfl rfl (by omega) (by omega) hLs ?_
  refine vl_cI dL_law_1413 (sfX11_tell hB ((xs (i + 1).toNat).toInt) ((xs (i + 2).toNat).toInt) ((xs (i + 3).toNat).toInt) ((xs (i + 4).toNat).toInt)) rfl okX11_tell viX11_tell lkL_162 (s_0 hB.1) cl_11 rfl (Nat.le_of_ble_eq_true rfl) (by show kc + 0 ≤ 600000; omega) (by show ks + 0 ≤ 7302250; omega) (Nat.le_of_ble_eq_true rfl) ?_
  rintro x1 M2 b3
  have hB4 : Box M2 := b3.1
  refine vl_pop dL_law_1416 rfl ?_
  refine vl_aload_n dL_law_1417 rfl ?_
  refine vl_sk dL_law_1418 dL_law_1419 dL_law_1420 dL_law_1421 dL_law_1422 rfl rfl (by omega) (by omega) hLs ?_
  refine vl_sk dL_law_1423 dL_law_1424 dL_law_1425 dL_law_1426 dL_law_1427 rfl rfl (by omega) (by omega) hLs ?_
  refine vl_sk dL_law_1428 dL_law_1429 dL_law_1430 dL_law_1431 dL_law_1432 rfl rfl (by omega) (by omega) hLs ?_
  refine vl_sk dL_law_1433 dL_law_1434 dL_law_1435 dL_law_1436 dL_law_1437 rfl rfl (by omega) (by omega) hLs ?_
  refine vl_cI dL_law_1438 (sfX12_tell hB4 ((xs (i + 1).toNat).toInt) ((xs (i + 2).toNat).toInt) ((xs (i + 3).toNat).toInt) ((xs (i + 4).toNat).toInt)) rfl okX12_tell viX12_tell lkL_165 (s_54 hB4.1) cl_12 rfl (Nat.le_of_ble_eq_true rfl) (by show kc + 0 + 0 ≤ 600000; omega) (by show ks + 0 + 0 ≤ 7302250; omega) (Nat.le_of_ble_eq_true rfl) ?_
  rintro x5 M6 b7
  have hB8 : Box M6 := b7.1
  refine vl_pop dL_law_1441 rfl ?_
  refine vl_goto dL_law_1442 ?_
  exact fin _ _ _ ((hE.q (BF.go b3 b7)).le (by omega)) (by show kc + 0 + 0 ≤ kc + 4; omega) (by show ks + 0 + 0 ≤ ks + 904; omega)
set_option maxRecDepth 8000 in
theorem lc_where {l : Launch} {b Ls : Nat} {xs : Nat → Int32} {M : Mem} {kc ks : Nat} {ab : Int} (hLs : Ls ≤ 3072) (hE : RE M ab) (hb0 : 0 ≤ ab) (hb1 : ab ≤ 100000) (i : Int) (h0 : 0 ≤ i) (h1 : i + 6 ≤ Ls) (hk1 : kc + 4 ≤ 600000) (hk2 : ks + 904 ≤ 7302250) (fin : ∀ (M2 : Mem) (kc2 ks2 : Nat), RE M2 (ab + 30) → kc2 ≤ kc + 4 → ks2 ≤ ks + 904 → VL l b Ls xs 1691 [none, some (aR 0), some (aR 54), some (aI i)] [] M2 kc2 ks2) : VL l b Ls xs 1445 [none, some (aR 0), some (aR 54), some (aI i)] [] M kc ks := by
  have hR := hE.1
  have hB := hR.1
  refine vl_aload_n dL_law_1445 rfl ?_
  refine vl_sk dL_law_1446 dL_law_1447 dL_law_1448 dL_law_1449 dL_law_1450 rfl rfl (by omega) (by omega) hLs ?_
  refine vl_sk dL_law_1451 dL_law_1452 dL_law_1453 dL_law_1454 dL_law_1455 rfl rfl (by omega) (by omega) hLs ?_
  refine vl_if_eq dL_law_1456 (fun g0 => ?_) (fun g0 => ?_)
  · refine vl_iconst dL_law_1463 rfl ?_
    refine vl_cI dL_law_1464 (sfX11_where hB ((xs (i + 1).toNat).toInt) 0) rfl okX11_where viX11_where lkL_166 (s_0 hB.1) cl_11 rfl (Nat.le_of_ble_eq_true rfl) (by show kc + 0 ≤ 600000; omega) (by show ks + 0 ≤ 7302250; omega) (Nat.le_of_ble_eq_true rfl) ?_
    rintro x1 M2 b3
    have hB4 : Box M2 := b3.1
    refine vl_pop dL_law_1467 rfl ?_
    refine vl_aload_n dL_law_1468 rfl ?_
    refine vl_sk dL_law_1469 dL_law_1470 dL_law_1471 dL_law_1472 dL_law_1473 rfl rfl (by omega) (by omega) hLs ?_
    refine vl_sk dL_law_1474 dL_law_1475 dL_law_1476 dL_law_1477 dL_law_1478 rfl rfl (by omega) (by omega) hLs ?_
    refine vl_if_eq dL_law_1479 (fun _ => ?_) (fun h9 => absurd g0 h9)
    refine vl_iconst dL_law_1486 rfl ?_
    refine vl_cI dL_law_1487 (sfX12_where hB4 ((xs (i + 1).toNat).toInt) 0) rfl okX12_where viX12_where lkL_169 (s_54 hB4.1) cl_12 rfl (Nat.le_of_ble_eq_true rfl) (by show kc + 0 + 0 ≤ 600000; omega) (by show ks + 0 + 0 ≤ 7302250; omega) (Nat.le_of_ble_eq_true rfl) ?_
    rintro x5 M6 b7
    have hB8 : Box M6 := b7.1
    refine vl_pop dL_law_1490 rfl ?_
    refine vl_goto dL_law_1491 ?_
    exact fin _ _ _ ((hE.q (BF.go b3 b7)).le (by omega)) (by show kc + 0 + 0 ≤ kc + 4; omega) (by show ks + 0 + 0 ≤ ks + 904; omega)
  · refine vl_iconst dL_law_1459 rfl ?_
    refine vl_goto dL_law_1460 ?_
    refine vl_cI dL_law_1464 (sfX11_where hB ((xs (i + 1).toNat).toInt) 1) rfl okX11_where viX11_where lkL_166 (s_0 hB.1) cl_11 rfl (Nat.le_of_ble_eq_true rfl) (by show kc + 0 ≤ 600000; omega) (by show ks + 0 ≤ 7302250; omega) (Nat.le_of_ble_eq_true rfl) ?_
    rintro x9 M10 b11
    have hB12 : Box M10 := b11.1
    refine vl_pop dL_law_1467 rfl ?_
    refine vl_aload_n dL_law_1468 rfl ?_
    refine vl_sk dL_law_1469 dL_law_1470 dL_law_1471 dL_law_1472 dL_law_1473 rfl rfl (by omega) (by omega) hLs ?_
    refine vl_sk dL_law_1474 dL_law_1475 dL_law_1476 dL_law_1477 dL_law_1478 rfl rfl (by omega) (by omega) hLs ?_
    refine vl_if_eq dL_law_1479 (fun h9 => absurd h9 g0) (fun _ => ?_)
    refine vl_iconst dL_law_1482 rfl ?_
    refine vl_goto dL_law_1483 ?_
    refine vl_cI dL_law_1487 (sfX12_where hB12 ((xs (i + 1).toNat).toInt) 1) rfl okX12_where viX12_where lkL_169 (s_54 hB12.1) cl_12 rfl (Nat.le_of_ble_eq_true rfl) (by show kc + 0 + 0 ≤ 600000; omega) (by show ks + 0 + 0 ≤ 7302250; omega) (Nat.le_of_ble_eq_true rfl) ?_
    rintro x13 M14 b15
    have hB16 : Box M14 := b15.1
    refine vl_pop dL_law_1490 rfl ?_
    refine vl_goto dL_law_1491 ?_
    exact fin _ _ _ ((hE.q (BF.go b11 b15)).le (by omega)) (by show kc + 0 + 0 ≤ kc + 4; omega) (by show ks + 0 + 0 ≤ ks + 904; omega)
set_option maxRecDepth 8000 in
theorem lc_map {l : Launch} {b Ls : Nat} {xs : Nat → Int32} {M : Mem} {kc ks : Nat} {ab : Int} (hLs : Ls ≤ 3072) (hE : RE M ab) (hb0 : 0 ≤ ab) (hb1 : ab ≤ 100000) (i : Int) (h0 : 0 ≤ i) (h1 : i + 6 ≤ Ls) (hk1 : kc + 4 ≤ 600000) (hk2 : ks + 904 ≤ 7302250) (fin : ∀ (M2 : Mem) (kc2 ks2 : Nat), RE M2 (ab + 30) → kc2 ≤ kc + 4 → ks2 ≤ ks + 904 → VL l b Ls xs 1691 [none, some (aR 0), some (aR 54), some (aI i)] [] M2 kc2 ks2) : VL l b Ls xs 1494 [none, some (aR 0), some (aR 54), some (aI i)] [] M kc ks := by
  have hR := hE.1
  have hB := hR.1
  refine vl_aload_n dL_law_1494 rfl ?_
  refine vl_sk dL_law_1495 dL_law_1496 dL_law_1497 dL_law_1498 dL_law_1499 rfl rfl (by omega) (by omega) hLs ?_
  refine vl_sk dL_law_1500 dL_law_1501 dL_law_1502 dL_law_1503 dL_law_1504 rfl rfl (by omega) (by omega) hLs ?_
  refine vl_sk dL_law_1505 dL_law_1506 dL_law_1507 dL_law_1508 dL_law_1509 rfl rfl (by omega) (by omega) hLs ?_
  refine vl_cI dL_law_1510 (sfX11_map hB ((xs (i + 1).toNat).toInt) ((xs (i + 2).toNat).toInt) ((xs (i + 3).toNat).toInt)) rfl okX11_map viX11_map lkL_170 (s_0 hB.1) cl_11 rfl (Nat.le_of_ble_eq_true rfl) (by show kc + 0 ≤ 600000; omega) (by show ks + 0 ≤ 7302250; omega) (Nat.le_of_ble_eq_true rfl) ?_
  rintro x1 M2 b3
  have hB4 : Box M2 := b3.1
  refine vl_pop dL_law_1513 rfl ?_
  refine vl_aload_n dL_law_1514 rfl ?_
  refine vl_sk dL_law_1515 dL_law_1516 dL_law_1517 dL_law_1518 dL_law_1519 rfl rfl (by omega) (by omega) hLs ?_
  refine vl_sk dL_law_1520 dL_law_1521 dL_law_1522 dL_law_1523 dL_law_1524 rfl rfl (by omega) (by omega) hLs ?_
  refine vl_sk dL_law_1525 dL_law_1526 dL_law_1527 dL_law_1528 dL_law_1529 rfl rfl (by omega) (by omega) hLs ?_
  refine vl_cI dL_law_1530 (sfX12_map hB4 ((xs (i + 1).toNat).toInt) ((xs (i + 2).toNat).toInt) ((xs (i + 3).toNat).toInt)) rfl okX12_map viX12_map lkL_174 (s_54 hB4.1) cl_12 rfl (Nat.le_of_ble_eq_true rfl) (by show kc + 0 + 0 ≤ 600000; omega) (by show ks + 0 + 0 ≤ 7302250; omega) (Nat.le_of_ble_eq_true rfl) ?_
  rintro x5 M6 b7
  have hB8 : Box M6 := b7.1
  refine vl_pop dL_law_1533 rfl ?_
  refine vl_goto dL_law_1534 ?_
  exact fin _ _ _ ((hE.q (BF.go b3 b7)).le (by omega)) (by show kc + 0 + 0 ≤ kc + 4; omega) (by show ks + 0 + 0 ≤ ks + 904; omega)
set_option maxRecDepth 8000 in
theorem lc_signs {l : Launch} {b Ls : Nat} {xs : Nat → Int32} {M : Mem} {kc ks : Nat} {ab : Int} (hLs : Ls ≤ 3072) (hE : RE M ab) (hb0 : 0 ≤ ab) (hb1 : ab ≤ 100000) (i : Int) (h0 : 0 ≤ i) (h1 : i + 6 ≤ Ls) (hk1 : kc + 4 ≤ 600000) (hk2 : ks + 904 ≤ 7302250) (fin : ∀ (M2 : Mem) (kc2 ks2 : Nat), RE M2 (ab + 30) → kc2 ≤ kc + 4 → ks2 ≤ ks + 904 → VL l b Ls xs 1691 [none, some (aR 0), some (aR 54), some (aI i)] [] M2 kc2 ks2) : VL l b Ls xs 1537 [none, some (aR 0), some (aR 54), some (aI i)] [] M kc ks := by
  have hR := hE.1
  have hB := hR.1
  refine vl_aload_n dL_law_1537 rfl ?_
  refine vl_cI dL_law_1538 (sfX11_signsF hB  hR.ar.1.2.2.2.2.1 hR.ar.1.2.2.2.2.2.2.2) rfl okX11_signs viX11_signs lkL_175 (s_0 hB.1) cl_11 rfl (Nat.le_of_ble_eq_true rfl) (by show kc + 0 ≤ 600000; omega) (by show ks + 0 ≤ 7302250; omega) (Nat.le_of_ble_eq_true rfl) ?_
  rintro x1 M3 ⟨b4, h2⟩
  refine vl_aload_n dL_law_1541 rfl ?_
  refine vl_cI dL_law_1542 (sfX12_signsF b4.1 (cS M)  (hR.arQ b4).1) rfl okX12_signs viX12_signs lkL_178 (s_54 b4.1.1) cl_12 rfl (Nat.le_of_ble_eq_true rfl) (by show kc + 0 + 0 ≤ 600000; omega) (by show ks + 0 + 0 ≤ 7302250; omega) (Nat.le_of_ble_eq_true rfl) ?_
  rintro x5 M7 ⟨b8, h6⟩
  refine vl_icmp_eq dL_law_1545 (fun _ => ?_) (fun h9 => absurd (signs_one h2 h6) h9)
  exact fin _ _ _ ((hE.q (BF.go b4 b8)).le (by omega)) (by show kc + 0 + 0 ≤ kc + 4; omega) (by show ks + 0 + 0 ≤ ks + 904; omega)
set_option maxRecDepth 8000 in
theorem lc_whose {l : Launch} {b Ls : Nat} {xs : Nat → Int32} {M : Mem} {kc ks : Nat} {ab : Int} (hLs : Ls ≤ 3072) (hE : RE M ab) (hb0 : 0 ≤ ab) (hb1 : ab ≤ 100000) (i : Int) (h0 : 0 ≤ i) (h1 : i + 6 ≤ Ls) (hk1 : kc + 4 ≤ 600000) (hk2 : ks + 904 ≤ 7302250) (fin : ∀ (M2 : Mem) (kc2 ks2 : Nat), RE M2 (ab + 30) → kc2 ≤ kc + 4 → ks2 ≤ ks + 904 → VL l b Ls xs 1691 [none, some (aR 0), some (aR 54), some (aI i)] [] M2 kc2 ks2) : VL l b Ls xs 1550 [none, some (aR 0), some (aR 54), some (aI i)] [] M kc ks := by
  have hR := hE.1
  have hB := hR.1
  refine vl_aload_n dL_law_1550 rfl ?_
  refine vl_sk dL_law_1551 dL_law_1552 dL_law_1553 dL_law_1554 dL_law_1555 rfl rfl (by omega) (by omega) hLs ?_
  refine vl_sk dL_law_1556 dL_law_1557 dL_law_1558 dL_law_1559 dL_law_1560 rfl rfl (by omega) (by omega) hLs ?_
  refine vl_sk dL_law_1561 dL_law_1562 dL_law_1563 dL_law_1564 dL_law_1565 rfl rfl (by omega) (by omega) hLs ?_
  refine vl_sk dL_law_1566 dL_law_1567 dL_law_1568 dL_law_1569 dL_law_1570 rfl rfl (by omega) (by omega) hLs ?_
  refine vl_if_eq dL_law_1571 (fun g0 => ?_) (fun g0 => ?_)
  · refine vl_iconst dL_law_1578 rfl ?_
    refine vl_cI dL_law_1579 (sfX11_whose hB ((xs (i + 1).toNat).toInt) ((xs (i + 2).toNat).toInt) ((xs (i + 3).toNat).toInt) 0) rfl okX11_whose viX11_whose lkL_179 (s_0 hB.1) cl_11 rfl (Nat.le_of_ble_eq_true rfl) (by show kc + 0 ≤ 600000; omega) (by show ks + 0 ≤ 7302250; omega) (Nat.le_of_ble_eq_true rfl) ?_
    rintro x1 M2 b3
    have hB4 : Box M2 := b3.1
    refine vl_pop dL_law_1582 rfl ?_
    refine vl_aload_n dL_law_1583 rfl ?_
    refine vl_sk dL_law_1584 dL_law_1585 dL_law_1586 dL_law_1587 dL_law_1588 rfl rfl (by omega) (by omega) hLs ?_
    refine vl_sk dL_law_1589 dL_law_1590 dL_law_1591 dL_law_1592 dL_law_1593 rfl rfl (by omega) (by omega) hLs ?_
    refine vl_sk dL_law_1594 dL_law_1595 dL_law_1596 dL_law_1597 dL_law_1598 rfl rfl (by omega) (by omega) hLs ?_
    refine vl_sk dL_law_1599 dL_law_1600 dL_law_1601 dL_law_1602 dL_law_1603 rfl rfl (by omega) (by omega) hLs ?_
    refine vl_if_eq dL_law_1604 (fun _ => ?_) (fun h9 => absurd g0 h9)
    refine vl_iconst dL_law_1611 rfl ?_
    refine vl_cI dL_law_1612 (sfX12_whose hB4 ((xs (i + 1).toNat).toInt) ((xs (i + 2).toNat).toInt) ((xs (i + 3).toNat).toInt) 0) rfl okX12_whose viX12_whose lkL_183 (s_54 hB4.1) cl_12 rfl (Nat.le_of_ble_eq_true rfl) (by show kc + 0 + 0 ≤ 600000; omega) (by show ks + 0 + 0 ≤ 7302250; omega) (Nat.le_of_ble_eq_true rfl) ?_
    rintro x5 M6 b7
    have hB8 : Box M6 := b7.1
    refine vl_pop dL_law_1615 rfl ?_
    refine vl_goto dL_law_1616 ?_
    exact fin _ _ _ ((hE.q (BF.go b3 b7)).le (by omega)) (by show kc + 0 + 0 ≤ kc + 4; omega) (by show ks + 0 + 0 ≤ ks + 904; omega)
  · refine vl_iconst dL_law_1574 rfl ?_
    refine vl_goto dL_law_1575 ?_
    refine vl_cI dL_law_1579 (sfX11_whose hB ((xs (i + 1).toNat).toInt) ((xs (i + 2).toNat).toInt) ((xs (i + 3).toNat).toInt) 1) rfl okX11_whose viX11_whose lkL_179 (s_0 hB.1) cl_11 rfl (Nat.le_of_ble_eq_true rfl) (by show kc + 0 ≤ 600000; omega) (by show ks + 0 ≤ 7302250; omega) (Nat.le_of_ble_eq_true rfl) ?_
    rintro x9 M10 b11
    have hB12 : Box M10 := b11.1
    refine vl_pop dL_law_1582 rfl ?_
    refine vl_aload_n dL_law_1583 rfl ?_
    refine vl_sk dL_law_1584 dL_law_1585 dL_law_1586 dL_law_1587 dL_law_1588 rfl rfl (by omega) (by omega) hLs ?_
    refine vl_sk dL_law_1589 dL_law_1590 dL_law_1591 dL_law_1592 dL_law_1593 rfl rfl (by omega) (by omega) hLs ?_
    refine vl_sk dL_law_1594 dL_law_1595 dL_law_1596 dL_law_1597 dL_law_1598 rfl rfl (by omega) (by omega) hLs ?_
    refine vl_sk dL_law_1599 dL_law_1600 dL_law_1601 dL_law_1602 dL_law_1603 rfl rfl (by omega) (by omega) hLs ?_
    refine vl_if_eq dL_law_1604 (fun h9 => absurd h9 g0) (fun _ => ?_)
    refine vl_iconst dL_law_1607 rfl ?_
    refine vl_goto dL_law_1608 ?_
    refine vl_cI dL_law_1612 (sfX12_whose hB12 ((xs (i + 1).toNat).toInt) ((xs (i + 2).toNat).toInt) ((xs (i + 3).toNat).toInt) 1) rfl okX12_whose viX12_whose lkL_183 (s_54 hB12.1) cl_12 rfl (Nat.le_of_ble_eq_true rfl) (by show kc + 0 + 0 ≤ 600000; omega) (by show ks + 0 + 0 ≤ 7302250; omega) (Nat.le_of_ble_eq_true rfl) ?_
    rintro x13 M14 b15
    have hB16 : Box M14 := b15.1
    refine vl_pop dL_law_1615 rfl ?_
    refine vl_goto dL_law_1616 ?_
    exact fin _ _ _ ((hE.q (BF.go b11 b15)).le (by omega)) (by show kc + 0 + 0 ≤ kc + 4; omega) (by show ks + 0 + 0 ≤ ks + 904; omega)
set_option maxRecDepth 8000 in
theorem lc_heard {l : Launch} {b Ls : Nat} {xs : Nat → Int32} {M : Mem} {kc ks : Nat} {ab : Int} (hLs : Ls ≤ 3072) (hE : RE M ab) (hb0 : 0 ≤ ab) (hb1 : ab ≤ 100000) (i : Int) (h0 : 0 ≤ i) (h1 : i + 6 ≤ Ls) (hk1 : kc + 4 ≤ 600000) (hk2 : ks + 904 ≤ 7302250) (fin : ∀ (M2 : Mem) (kc2 ks2 : Nat), RE M2 (ab + 30) → kc2 ≤ kc + 4 → ks2 ≤ ks + 904 → VL l b Ls xs 1691 [none, some (aR 0), some (aR 54), some (aI i)] [] M2 kc2 ks2) : VL l b Ls xs 1619 [none, some (aR 0), some (aR 54), some (aI i)] [] M kc ks := by
  have hR := hE.1
  have hB := hR.1
  refine vl_aload_n dL_law_1619 rfl ?_
  refine vl_sk dL_law_1620 dL_law_1621 dL_law_1622 dL_law_1623 dL_law_1624 rfl rfl (by omega) (by omega) hLs ?_
  refine vl_cI dL_law_1625 (sfX11_heard hB ((xs (i + 1).toNat).toInt)) rfl okX11_heard viX11_heard lkL_184 (s_0 hB.1) cl_11 rfl (Nat.le_of_ble_eq_true rfl) (by show kc + 0 ≤ 600000; omega) (by show ks + 0 ≤ 7302250; omega) (Nat.le_of_ble_eq_true rfl) ?_
  rintro x1 M2 b3
  have hB4 : Box M2 := b3.1
  refine vl_pop dL_law_1628 rfl ?_
  refine vl_aload_n dL_law_1629 rfl ?_
  refine vl_sk dL_law_1630 dL_law_1631 dL_law_1632 dL_law_1633 dL_law_1634 rfl rfl (by omega) (by omega) hLs ?_
  refine vl_cI dL_law_1635 (sfX12_heard hB4 ((xs (i + 1).toNat).toInt)) rfl okX12_heard viX12_heard lkL_187 (s_54 hB4.1) cl_12 rfl (Nat.le_of_ble_eq_true rfl) (by show kc + 0 + 0 ≤ 600000; omega) (by show ks + 0 + 0 ≤ 7302250; omega) (Nat.le_of_ble_eq_true rfl) ?_
  rintro x5 M6 b7
  have hB8 : Box M6 := b7.1
  refine vl_pop dL_law_1638 rfl ?_
  refine vl_goto dL_law_1639 ?_
  exact fin _ _ _ ((hE.q (BF.go b3 b7)).le (by omega)) (by show kc + 0 + 0 ≤ kc + 4; omega) (by show ks + 0 + 0 ≤ ks + 904; omega)
set_option maxRecDepth 8000 in
theorem lc_image {l : Launch} {b Ls : Nat} {xs : Nat → Int32} {M : Mem} {kc ks : Nat} {ab : Int} (hLs : Ls ≤ 3072) (hE : RE M ab) (hb0 : 0 ≤ ab) (hb1 : ab ≤ 100000) (i : Int) (h0 : 0 ≤ i) (h1 : i + 6 ≤ Ls) (hk1 : kc + 4 ≤ 600000) (hk2 : ks + 904 ≤ 7302250) (fin : ∀ (M2 : Mem) (kc2 ks2 : Nat), RE M2 (ab + 30) → kc2 ≤ kc + 4 → ks2 ≤ ks + 904 → VL l b Ls xs 1691 [none, some (aR 0), some (aR 54), some (aI i)] [] M2 kc2 ks2) : VL l b Ls xs 1642 [none, some (aR 0), some (aR 54), some (aI i)] [] M kc ks := by
  have hR := hE.1
  have hB := hR.1
  refine vl_aload_n dL_law_1642 rfl ?_
  refine vl_cF dL_law_1643 (qX11_image hB.1 (Tx.of hB)) rfl okX11_image viX11_image lkL_188 (s_0 hB.1) cl_11 rfl (Nat.le_of_ble_eq_true rfl) (by show kc + 0 ≤ 600000; omega) (by show ks + 0 ≤ 7302250; omega) (Nat.le_of_ble_eq_true rfl) ?_
  refine vl_pop dL_law_1646 rfl ?_
  refine vl_aload_n dL_law_1647 rfl ?_
  refine vl_cF dL_law_1648 (qX12_image (image_bx hB).1.1) rfl okX12_image viX12_image lkL_191 (s_54 (image_bx hB).1.1) cl_12 rfl (Nat.le_of_ble_eq_true rfl) (by show kc + 0 + 0 ≤ 600000; omega) (by show ks + 0 + 0 ≤ 7302250; omega) (Nat.le_of_ble_eq_true rfl) ?_
  have hfb := img_RE hE
  refine vl_pop dL_law_1651 rfl ?_
  refine vl_goto dL_law_1652 ?_
  exact fin _ _ _ (hfb.1.le (by omega)) (by show kc + 0 + 0 ≤ kc + 4; omega) (by show ks + 0 + 0 ≤ ks + 904; omega)
set_option maxRecDepth 8000 in
theorem lc_back {l : Launch} {b Ls : Nat} {xs : Nat → Int32} {M : Mem} {kc ks : Nat} {ab : Int} (hLs : Ls ≤ 3072) (hE : RE M ab) (hb0 : 0 ≤ ab) (hb1 : ab ≤ 100000) (i : Int) (h0 : 0 ≤ i) (h1 : i + 6 ≤ Ls) (hk1 : kc + 4 ≤ 600000) (hk2 : ks + 904 ≤ 7302250) (fin : ∀ (M2 : Mem) (kc2 ks2 : Nat), RE M2 (ab + 30) → kc2 ≤ kc + 4 → ks2 ≤ ks + 904 → VL l b Ls xs 1691 [none, some (aR 0), some (aR 54), some (aI i)] [] M2 kc2 ks2) : VL l b Ls xs 1655 [none, some (aR 0), some (aR 54), some (aI i)] [] M kc ks := by
  have hR := hE.1
  have hB := hR.1
  refine vl_aload_n dL_law_1655 rfl ?_
  refine vl_cF dL_law_1656 (qX11_back hB.1 (Tx.of hB)) rfl okX11_back viX11_back lkL_192 (s_0 hB.1) cl_11 rfl (Nat.le_of_ble_eq_true rfl) (by show kc + 0 ≤ 600000; omega) (by show ks + 0 ≤ 7302250; omega) (Nat.le_of_ble_eq_true rfl) ?_
  refine vl_pop dL_law_1659 rfl ?_
  refine vl_aload_n dL_law_1660 rfl ?_
  refine vl_cF dL_law_1661 (qX12_back (back_bx hB).1.1) rfl okX12_back viX12_back lkL_195 (s_54 (back_bx hB).1.1) cl_12 rfl (Nat.le_of_ble_eq_true rfl) (by show kc + 0 + 0 ≤ 600000; omega) (by show ks + 0 + 0 ≤ 7302250; omega) (Nat.le_of_ble_eq_true rfl) ?_
  have hfb := bck_RE hE
  refine vl_pop dL_law_1664 rfl ?_
  refine vl_goto dL_law_1665 ?_
  exact fin _ _ _ (hfb.1.le (by omega)) (by show kc + 0 + 0 ≤ kc + 4; omega) (by show ks + 0 + 0 ≤ ks + 904; omega)
set_option maxRecDepth 8000 in
theorem lc_about {l : Launch} {b Ls : Nat} {xs : Nat → Int32} {M : Mem} {kc ks : Nat} {ab : Int} (hLs : Ls ≤ 3072) (hE : RE M ab) (hb0 : 0 ≤ ab) (hb1 : ab ≤ 100000) (i : Int) (h0 : 0 ≤ i) (h1 : i + 6 ≤ Ls) (hk1 : kc + 4 ≤ 600000) (hk2 : ks + 904 ≤ 7302250) (fin : ∀ (M2 : Mem) (kc2 ks2 : Nat), RE M2 (ab + 30) → kc2 ≤ kc + 4 → ks2 ≤ ks + 904 → VL l b Ls xs 1691 [none, some (aR 0), some (aR 54), some (aI i)] [] M2 kc2 ks2) : VL l b Ls xs 1668 [none, some (aR 0), some (aR 54), some (aI i)] [] M kc ks := by
  have hR := hE.1
  have hB := hR.1
  refine vl_aload_n dL_law_1668 rfl ?_
  refine vl_sk dL_law_1669 dL_law_1670 dL_law_1671 dL_law_1672 dL_law_1673 rfl rfl (by omega) (by omega) hLs ?_
  refine vl_cI dL_law_1674 (sfX11_aboutF hB ((xs (i + 1).toNat).toInt)) rfl okX11_about viX11_about lkL_196 (s_0 hB.1) cl_11 rfl (Nat.le_of_ble_eq_true rfl) (by show kc + 0 ≤ 600000; omega) (by show ks + 0 ≤ 7302250; omega) (Nat.le_of_ble_eq_true rfl) ?_
  rintro x1 _ ⟨rfl, h2⟩
  refine vl_pop dL_law_1677 rfl ?_
  refine vl_aload_n dL_law_1678 rfl ?_
  refine vl_sk dL_law_1679 dL_law_1680 dL_law_1681 dL_law_1682 dL_law_1683 rfl rfl (by omega) (by omega) hLs ?_
  refine vl_cI dL_law_1684 (sfX12_aboutF hB ((xs (i + 1).toNat).toInt)) rfl okX12_about viX12_about lkL_199 (s_54 hB.1) cl_12 rfl (Nat.le_of_ble_eq_true rfl) (by show kc + 0 + 0 ≤ 600000; omega) (by show ks + 0 + 0 ≤ 7302250; omega) (Nat.le_of_ble_eq_true rfl) ?_
  rintro x3 _ ⟨rfl, h4⟩
  refine vl_pop dL_law_1687 rfl ?_
  refine vl_goto dL_law_1688 ?_
  exact fin _ _ _ (hE.le (by omega)) (by show kc + 0 + 0 ≤ kc + 4; omega) (by show ks + 0 + 0 ≤ ks + 904; omega)
