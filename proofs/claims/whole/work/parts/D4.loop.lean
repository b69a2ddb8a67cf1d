-- the law's loop (written by wip/tools/specL2.py)
theorem l_0 (h : zHp) (H : Rel h) (N : nB h) (i : Nat) (hi : (i : Int) + 6 ≤ h 201 0) (hM : h 201 0 ≤ 3072) {Q : Option zV → Nat → zHp → Prop} (KK : ∀ g : zHp, Rel g → nB g → g 200 = h 200 → g 201 = h 201 → zRW mL_law 42 (0, 0) 1528 [zX, zA 0, zA 117, zI (i : Int)] [] 143 g Q) : zRW mL_law 42 (0, 0) 212 [zX, zA 0, zA 117, zI (i : Int)] [] 143 h Q := by
  refine z_al1 eL_law_212 ?_
  refine zc_vi0 eL_law_213 lL_13 tX11_status zs0 (by decide) (Nat.le_of_ble_eq_true rfl) (b_status h H) ?_
  rintro v1 h1 ⟨⟨e0, e1⟩, CM⟩ hv
  have e2 : h1 201 0 = h 201 0 := congrFun e1 0
  refine z_al2 eL_law_216 ?_
  refine zc_vi0 eL_law_217 lL_17 tX12_status zs117 (by decide) (Nat.le_of_ble_eq_true rfl) CM ?_
  rintro v2 h2 R hv2
  refine z_ceq eL_law_220 rfl (fun c220 => ?_) (fun c220 => ?_)
  · exact KK h2 R.2.1 (R.2.2.2.2 N) R.2.2.1 R.2.2.2.1
  · exact absurd R.1 c220
theorem l_1 (h : zHp) (H : Rel h) (N : nB h) (i : Nat) (hi : (i : Int) + 6 ≤ h 201 0) (hM : h 201 0 ≤ 3072) {Q : Option zV → Nat → zHp → Prop} (KK : ∀ g : zHp, Rel g → nB g → g 200 = h 200 → g 201 = h 201 → zRW mL_law 42 (0, 0) 1528 [zX, zA 0, zA 117, zI (i : Int)] [] 143 g Q) : zRW mL_law 42 (0, 0) 225 [zX, zA 0, zA 117, zI (i : Int)] [] 143 h Q := by
  refine z_al1 eL_law_225 ?_
  refine zc_vj0 eL_law_226 lL_18 tX11_top zs0 (by decide) (Nat.le_of_ble_eq_true rfl) (b_top h H) ?_
  rintro v1 h1 ⟨⟨e0, e1⟩, CM⟩ hv
  have e2 : h1 201 0 = h 201 0 := congrFun e1 0
  refine z_al2 eL_law_229 ?_
  refine zc_vj0 eL_law_230 lL_22 tX12_top zs117 (by decide) (Nat.le_of_ble_eq_true rfl) CM ?_
  rintro v2 h2 R hv2
  refine z_lcmp eL_law_233 ?_
  refine z_ieq eL_law_234 rfl (fun c234 => ?_) (fun c234 => ?_)
  · rw [zcmp_eq] at c234
    exact KK h2 R.2.1 (R.2.2.2.2 N) R.2.2.1 R.2.2.2.1
  · rw [zcmp_eq] at c234
    exact absurd R.1 c234
theorem l_2 (h : zHp) (H : Rel h) (N : nB h) (i : Nat) (hi : (i : Int) + 6 ≤ h 201 0) (hM : h 201 0 ≤ 3072) {Q : Option zV → Nat → zHp → Prop} (KK : ∀ g : zHp, Rel g → nB g → g 200 = h 200 → g 201 = h 201 → zRW mL_law 42 (0, 0) 1528 [zX, zA 0, zA 117, zI (i : Int)] [] 143 g Q) : zRW mL_law 42 (0, 0) 239 [zX, zA 0, zA 117, zI (i : Int)] [] 143 h Q := by
  refine z_al1 eL_law_239 ?_
  refine zc_vj0 eL_law_240 lL_23 tX11_bottom zs0 (by decide) (Nat.le_of_ble_eq_true rfl) (b_bottom h H) ?_
  rintro v1 h1 ⟨⟨e0, e1⟩, CM⟩ hv
  have e2 : h1 201 0 = h 201 0 := congrFun e1 0
  refine z_al2 eL_law_243 ?_
  refine zc_vj0 eL_law_244 lL_26 tX12_bottom zs117 (by decide) (Nat.le_of_ble_eq_true rfl) CM ?_
  rintro v2 h2 R hv2
  refine z_lcmp eL_law_247 ?_
  refine z_ieq eL_law_248 rfl (fun c248 => ?_) (fun c248 => ?_)
  · rw [zcmp_eq] at c248
    exact KK h2 R.2.1 (R.2.2.2.2 N) R.2.2.1 R.2.2.2.1
  · rw [zcmp_eq] at c248
    exact absurd R.1 c248
theorem l_3 (h : zHp) (H : Rel h) (N : nB h) (i : Nat) (hi : (i : Int) + 6 ≤ h 201 0) (hM : h 201 0 ≤ 3072) {Q : Option zV → Nat → zHp → Prop} (KK : ∀ g : zHp, Rel g → nB g → g 200 = h 200 → g 201 = h 201 → zRW mL_law 42 (0, 0) 1528 [zX, zA 0, zA 117, zI (i : Int)] [] 143 g Q) : zRW mL_law 42 (0, 0) 253 [zX, zA 0, zA 117, zI (i : Int)] [] 143 h Q := by
  refine z_al1 eL_law_253 ?_
  refine z_aldX eL_law_254 rfl ?_
  refine z_il3 eL_law_255 ?_
  refine z_ki eL_law_256 ?_
  refine z_iaddN eL_law_257 (by omega) (by omega) ?_
  refine z_sXN eL_law_258 (j := i + 1) (by omega) (by omega) ?_
  refine z_aldX eL_law_259 rfl ?_
  refine z_il3 eL_law_260 ?_
  refine z_ki eL_law_261 ?_
  refine z_iaddN eL_law_262 (by omega) (by omega) ?_
  refine z_sXN eL_law_263 (j := i + 2) (by omega) (by omega) ?_
  refine z_aldX eL_law_264 rfl ?_
  refine z_il3 eL_law_265 ?_
  refine z_ki eL_law_266 ?_
  refine z_iaddN eL_law_267 (by omega) (by omega) ?_
  refine z_sXN eL_law_268 (j := i + 3) (by omega) (by omega) ?_
  refine zc_vi3 eL_law_269 lL_27 tX11_tray zs0 (by decide) (Nat.le_of_ble_eq_true rfl) (b_tray h H _ _ _) ?_
  rintro v1 h1 ⟨⟨e0, e1⟩, CM⟩ hv
  have e2 : h1 201 0 = h 201 0 := congrFun e1 0
  refine z_al2 eL_law_272 ?_
  refine z_aldX eL_law_273 rfl ?_
  refine z_il3 eL_law_274 ?_
  refine z_ki eL_law_275 ?_
  refine z_iaddN eL_law_276 (by omega) (by omega) ?_
  refine z_sXN eL_law_277 (j := i + 1) (by omega) (by omega) ?_
  refine z_aldX eL_law_278 rfl ?_
  refine z_il3 eL_law_279 ?_
  refine z_ki eL_law_280 ?_
  refine z_iaddN eL_law_281 (by omega) (by omega) ?_
  refine z_sXN eL_law_282 (j := i + 2) (by omega) (by omega) ?_
  refine z_aldX eL_law_283 rfl ?_
  refine z_il3 eL_law_284 ?_
  refine z_ki eL_law_285 ?_
  refine z_iaddN eL_law_286 (by omega) (by omega) ?_
  refine z_sXN eL_law_287 (j := i + 3) (by omega) (by omega) ?_
  rw [e0]
  refine zc_vi3 eL_law_288 lL_31 tX12_tray zs117 (by decide) (Nat.le_of_ble_eq_true rfl) CM ?_
  rintro v2 h2 R hv2
  refine z_ceq eL_law_291 rfl (fun c291 => ?_) (fun c291 => ?_)
  · exact KK h2 R.2.1 (R.2.2.2.2 N) R.2.2.1 R.2.2.2.1
  · exact absurd R.1 c291
theorem l_4 (h : zHp) (H : Rel h) (N : nB h) (i : Nat) (hi : (i : Int) + 6 ≤ h 201 0) (hM : h 201 0 ≤ 3072) {Q : Option zV → Nat → zHp → Prop} (KK : ∀ g : zHp, Rel g → nB g → g 200 = h 200 → g 201 = h 201 → zRW mL_law 42 (0, 0) 1528 [zX, zA 0, zA 117, zI (i : Int)] [] 143 g Q) : zRW mL_law 42 (0, 0) 296 [zX, zA 0, zA 117, zI (i : Int)] [] 143 h Q := by
  refine z_al1 eL_law_296 ?_
  refine z_aldX eL_law_297 rfl ?_
  refine z_il3 eL_law_298 ?_
  refine z_ki eL_law_299 ?_
  refine z_iaddN eL_law_300 (by omega) (by omega) ?_
  refine z_sXN eL_law_301 (j := i + 1) (by omega) (by omega) ?_
  refine z_aldX eL_law_302 rfl ?_
  refine z_il3 eL_law_303 ?_
  refine z_ki eL_law_304 ?_
  refine z_iaddN eL_law_305 (by omega) (by omega) ?_
  refine z_sXN eL_law_306 (j := i + 2) (by omega) (by omega) ?_
  refine z_aldX eL_law_307 rfl ?_
  refine z_il3 eL_law_308 ?_
  refine z_ki eL_law_309 ?_
  refine z_iaddN eL_law_310 (by omega) (by omega) ?_
  refine z_sXN eL_law_311 (j := i + 3) (by omega) (by omega) ?_
  refine z_i2l eL_law_312 ?_
  refine z_ki eL_law_313 ?_
  refine z_lshl eL_law_315 ?_
  refine z_aldX eL_law_316 rfl ?_
  refine z_il3 eL_law_317 ?_
  refine z_ki eL_law_318 ?_
  refine z_iaddN eL_law_319 (by omega) (by omega) ?_
  refine z_sXN eL_law_320 (j := i + 4) (by omega) (by omega) ?_
  refine z_i2l eL_law_321 ?_
  refine z_kj eL_law_322 ?_
  refine z_land eL_law_325 ?_
  refine z_lor eL_law_326 ?_
  refine zc_vi3 eL_law_327 lL_34 tX11_write zs0 (by decide) (Nat.le_of_ble_eq_true rfl) (b_write h H _ _ _) ?_
  rintro v1 h1 ⟨⟨e0, e1⟩, CM⟩ hv
  have e2 : h1 201 0 = h 201 0 := congrFun e1 0
  refine z_al2 eL_law_330 ?_
  refine z_aldX eL_law_331 rfl ?_
  refine z_il3 eL_law_332 ?_
  refine z_ki eL_law_333 ?_
  refine z_iaddN eL_law_334 (by omega) (by omega) ?_
  refine z_sXN eL_law_335 (j := i + 1) (by omega) (by omega) ?_
  refine z_aldX eL_law_336 rfl ?_
  refine z_il3 eL_law_337 ?_
  refine z_ki eL_law_338 ?_
  refine z_iaddN eL_law_339 (by omega) (by omega) ?_
  refine z_sXN eL_law_340 (j := i + 2) (by omega) (by omega) ?_
  refine z_aldX eL_law_341 rfl ?_
  refine z_il3 eL_law_342 ?_
  refine z_ki eL_law_343 ?_
  refine z_iaddN eL_law_344 (by omega) (by omega) ?_
  refine z_sXN eL_law_345 (j := i + 3) (by omega) (by omega) ?_
  refine z_i2l eL_law_346 ?_
  refine z_ki eL_law_347 ?_
  refine z_lshl eL_law_349 ?_
  refine z_aldX eL_law_350 rfl ?_
  refine z_il3 eL_law_351 ?_
  refine z_ki eL_law_352 ?_
  refine z_iaddN eL_law_353 (by omega) (by omega) ?_
  refine z_sXN eL_law_354 (j := i + 4) (by omega) (by omega) ?_
  refine z_i2l eL_law_355 ?_
  refine z_kj eL_law_356 ?_
  refine z_land eL_law_359 ?_
  refine z_lor eL_law_360 ?_
  rw [e0]
  refine zc_vi3 eL_law_361 lL_38 tX12_write zs117 (by decide) (Nat.le_of_ble_eq_true rfl) CM ?_
  rintro v2 h2 R hv2
  refine z_ceq eL_law_364 rfl (fun c364 => ?_) (fun c364 => ?_)
  · exact KK h2 R.2.1 (R.2.2.2.2 N) R.2.2.1 R.2.2.2.1
  · exact absurd R.1 c364
theorem l_5 (h : zHp) (H : Rel h) (N : nB h) (i : Nat) (hi : (i : Int) + 6 ≤ h 201 0) (hM : h 201 0 ≤ 3072) {Q : Option zV → Nat → zHp → Prop} (KK : ∀ g : zHp, Rel g → nB g → g 200 = h 200 → g 201 = h 201 → zRW mL_law 42 (0, 0) 1528 [zX, zA 0, zA 117, zI (i : Int)] [] 143 g Q) : zRW mL_law 42 (0, 0) 369 [zX, zA 0, zA 117, zI (i : Int)] [] 143 h Q := by
  refine z_al1 eL_law_369 ?_
  refine z_aldX eL_law_370 rfl ?_
  refine z_il3 eL_law_371 ?_
  refine z_ki eL_law_372 ?_
  refine z_iaddN eL_law_373 (by omega) (by omega) ?_
  refine z_sXN eL_law_374 (j := i + 1) (by omega) (by omega) ?_
  refine z_aldX eL_law_375 rfl ?_
  refine z_il3 eL_law_376 ?_
  refine z_ki eL_law_377 ?_
  refine z_iaddN eL_law_378 (by omega) (by omega) ?_
  refine z_sXN eL_law_379 (j := i + 2) (by omega) (by omega) ?_
  refine zc_vj2 eL_law_380 lL_39 tX11_read zs0 (by decide) (Nat.le_of_ble_eq_true rfl) (b_read h H _ _) ?_
  rintro v1 h1 ⟨⟨e0, e1⟩, CM⟩ hv
  have e2 : h1 201 0 = h 201 0 := congrFun e1 0
  refine z_al2 eL_law_383 ?_
  refine z_aldX eL_law_384 rfl ?_
  refine z_il3 eL_law_385 ?_
  refine z_ki eL_law_386 ?_
  refine z_iaddN eL_law_387 (by omega) (by omega) ?_
  refine z_sXN eL_law_388 (j := i + 1) (by omega) (by omega) ?_
  refine z_aldX eL_law_389 rfl ?_
  refine z_il3 eL_law_390 ?_
  refine z_ki eL_law_391 ?_
  refine z_iaddN eL_law_392 (by omega) (by omega) ?_
  refine z_sXN eL_law_393 (j := i + 2) (by omega) (by omega) ?_
  rw [e0]
  refine zc_vj2 eL_law_394 lL_43 tX12_read zs117 (by decide) (Nat.le_of_ble_eq_true rfl) CM ?_
  rintro v2 h2 R hv2
  refine z_lcmp eL_law_397 ?_
  refine z_ieq eL_law_398 rfl (fun c398 => ?_) (fun c398 => ?_)
  · rw [zcmp_eq] at c398
    exact KK h2 R.2.1 (R.2.2.2.2 N) R.2.2.1 R.2.2.2.1
  · rw [zcmp_eq] at c398
    exact absurd R.1 c398
theorem l_6 (h : zHp) (H : Rel h) (N : nB h) (i : Nat) (hi : (i : Int) + 6 ≤ h 201 0) (hM : h 201 0 ≤ 3072) {Q : Option zV → Nat → zHp → Prop} (KK : ∀ g : zHp, Rel g → nB g → g 200 = h 200 → g 201 = h 201 → zRW mL_law 42 (0, 0) 1528 [zX, zA 0, zA 117, zI (i : Int)] [] 143 g Q) : zRW mL_law 42 (0, 0) 403 [zX, zA 0, zA 117, zI (i : Int)] [] 143 h Q := by
  refine z_al1 eL_law_403 ?_
  refine z_aldX eL_law_404 rfl ?_
  refine z_il3 eL_law_405 ?_
  refine z_ki eL_law_406 ?_
  refine z_iaddN eL_law_407 (by omega) (by omega) ?_
  refine z_sXN eL_law_408 (j := i + 1) (by omega) (by omega) ?_
  refine z_aldX eL_law_409 rfl ?_
  refine z_il3 eL_law_410 ?_
  refine z_ki eL_law_411 ?_
  refine z_iaddN eL_law_412 (by omega) (by omega) ?_
  refine z_sXN eL_law_413 (j := i + 2) (by omega) (by omega) ?_
  refine z_aldX eL_law_414 rfl ?_
  refine z_il3 eL_law_415 ?_
  refine z_ki eL_law_416 ?_
  refine z_iaddN eL_law_417 (by omega) (by omega) ?_
  refine z_sXN eL_law_418 (j := i + 3) (by omega) (by omega) ?_
  refine z_aldX eL_law_419 rfl ?_
  refine z_il3 eL_law_420 ?_
  refine z_ki eL_law_421 ?_
  refine z_iaddN eL_law_422 (by omega) (by omega) ?_
  refine z_sXN eL_law_423 (j := i + 4) (by omega) (by omega) ?_
  refine z_aldX eL_law_424 rfl ?_
  refine z_il3 eL_law_425 ?_
  refine z_ki eL_law_426 ?_
  refine z_iaddN eL_law_427 (by omega) (by omega) ?_
  refine z_sXN eL_law_428 (j := i + 5) (by omega) (by omega) ?_
  refine zc_vi5 eL_law_429 lL_44 tX11_pour zs0 (by decide) (Nat.le_of_ble_eq_true rfl) (b_pour h H _ _ _ _ _) ?_
  rintro v1 h1 ⟨⟨e0, e1⟩, CM⟩ hv
  have e2 : h1 201 0 = h 201 0 := congrFun e1 0
  refine z_al2 eL_law_432 ?_
  refine z_aldX eL_law_433 rfl ?_
  refine z_il3 eL_law_434 ?_
  refine z_ki eL_law_435 ?_
  refine z_iaddN eL_law_436 (by omega) (by omega) ?_
  refine z_sXN eL_law_437 (j := i + 1) (by omega) (by omega) ?_
  refine z_aldX eL_law_438 rfl ?_
  refine z_il3 eL_law_439 ?_
  refine z_ki eL_law_440 ?_
  refine z_iaddN eL_law_441 (by omega) (by omega) ?_
  refine z_sXN eL_law_442 (j := i + 2) (by omega) (by omega) ?_
  refine z_aldX eL_law_443 rfl ?_
  refine z_il3 eL_law_444 ?_
  refine z_ki eL_law_445 ?_
  refine z_iaddN eL_law_446 (by omega) (by omega) ?_
  refine z_sXN eL_law_447 (j := i + 3) (by omega) (by omega) ?_
  refine z_aldX eL_law_448 rfl ?_
  refine z_il3 eL_law_449 ?_
  refine z_ki eL_law_450 ?_
  refine z_iaddN eL_law_451 (by omega) (by omega) ?_
  refine z_sXN eL_law_452 (j := i + 4) (by omega) (by omega) ?_
  refine z_aldX eL_law_453 rfl ?_
  refine z_il3 eL_law_454 ?_
  refine z_ki eL_law_455 ?_
  refine z_iaddN eL_law_456 (by omega) (by omega) ?_
  refine z_sXN eL_law_457 (j := i + 5) (by omega) (by omega) ?_
  rw [e0]
  refine zc_vi5 eL_law_458 lL_48 tX12_pour zs117 (by decide) (Nat.le_of_ble_eq_true rfl) CM ?_
  rintro v2 h2 R hv2
  refine z_ceq eL_law_461 rfl (fun c461 => ?_) (fun c461 => ?_)
  · exact KK h2 R.2.1 (R.2.2.2.2 N) R.2.2.1 R.2.2.2.1
  · exact absurd R.1 c461
theorem l_7 (h : zHp) (H : Rel h) (N : nB h) (i : Nat) (hi : (i : Int) + 6 ≤ h 201 0) (hM : h 201 0 ≤ 3072) {Q : Option zV → Nat → zHp → Prop} (KK : ∀ g : zHp, Rel g → nB g → g 200 = h 200 → g 201 = h 201 → zRW mL_law 42 (0, 0) 1528 [zX, zA 0, zA 117, zI (i : Int)] [] 143 g Q) : zRW mL_law 42 (0, 0) 466 [zX, zA 0, zA 117, zI (i : Int)] [] 143 h Q := by
  refine z_al1 eL_law_466 ?_
  refine z_aldX eL_law_467 rfl ?_
  refine z_il3 eL_law_468 ?_
  refine z_ki eL_law_469 ?_
  refine z_iaddN eL_law_470 (by omega) (by omega) ?_
  refine z_sXN eL_law_471 (j := i + 1) (by omega) (by omega) ?_
  refine z_aldX eL_law_472 rfl ?_
  refine z_il3 eL_law_473 ?_
  refine z_ki eL_law_474 ?_
  refine z_iaddN eL_law_475 (by omega) (by omega) ?_
  refine z_sXN eL_law_476 (j := i + 2) (by omega) (by omega) ?_
  refine z_aldX eL_law_477 rfl ?_
  refine z_il3 eL_law_478 ?_
  refine z_ki eL_law_479 ?_
  refine z_iaddN eL_law_480 (by omega) (by omega) ?_
  refine z_sXN eL_law_481 (j := i + 3) (by omega) (by omega) ?_
  refine z_aldX eL_law_482 rfl ?_
  refine z_il3 eL_law_483 ?_
  refine z_ki eL_law_484 ?_
  refine z_iaddN eL_law_485 (by omega) (by omega) ?_
  refine z_sXN eL_law_486 (j := i + 4) (by omega) (by omega) ?_
  refine z_aldX eL_law_487 rfl ?_
  refine z_il3 eL_law_488 ?_
  refine z_ki eL_law_489 ?_
  refine z_iaddN eL_law_490 (by omega) (by omega) ?_
  refine z_sXN eL_law_491 (j := i + 5) (by omega) (by omega) ?_
  refine zc_vi5 eL_law_492 lL_49 tX11_feed zs0 (by decide) (Nat.le_of_ble_eq_true rfl) (b_feed h H _ _ _ _ _) ?_
  rintro v1 h1 ⟨⟨e0, e1⟩, CM⟩ hv
  have e2 : h1 201 0 = h 201 0 := congrFun e1 0
  refine z_al2 eL_law_495 ?_
  refine z_aldX eL_law_496 rfl ?_
  refine z_il3 eL_law_497 ?_
  refine z_ki eL_law_498 ?_
  refine z_iaddN eL_law_499 (by omega) (by omega) ?_
  refine z_sXN eL_law_500 (j := i + 1) (by omega) (by omega) ?_
  refine z_aldX eL_law_501 rfl ?_
  refine z_il3 eL_law_502 ?_
  refine z_ki eL_law_503 ?_
  refine z_iaddN eL_law_504 (by omega) (by omega) ?_
  refine z_sXN eL_law_505 (j := i + 2) (by omega) (by omega) ?_
  refine z_aldX eL_law_506 rfl ?_
  refine z_il3 eL_law_507 ?_
  refine z_ki eL_law_508 ?_
  refine z_iaddN eL_law_509 (by omega) (by omega) ?_
  refine z_sXN eL_law_510 (j := i + 3) (by omega) (by omega) ?_
  refine z_aldX eL_law_511 rfl ?_
  refine z_il3 eL_law_512 ?_
  refine z_ki eL_law_513 ?_
  refine z_iaddN eL_law_514 (by omega) (by omega) ?_
  refine z_sXN eL_law_515 (j := i + 4) (by omega) (by omega) ?_
  refine z_aldX eL_law_516 rfl ?_
  refine z_il3 eL_law_517 ?_
  refine z_ki eL_law_518 ?_
  refine z_iaddN eL_law_519 (by omega) (by omega) ?_
  refine z_sXN eL_law_520 (j := i + 5) (by omega) (by omega) ?_
  rw [e0]
  refine zc_vi5 eL_law_521 lL_53 tX12_feed zs117 (by decide) (Nat.le_of_ble_eq_true rfl) CM ?_
  rintro v2 h2 R hv2
  refine z_ceq eL_law_524 rfl (fun c524 => ?_) (fun c524 => ?_)
  · exact KK h2 R.2.1 (R.2.2.2.2 N) R.2.2.1 R.2.2.2.1
  · exact absurd R.1 c524
theorem l_8 (h : zHp) (H : Rel h) (N : nB h) (hby : ∀ i : Nat, i < 700 → -128 ≤ h 3 i ∧ h 3 i ≤ 127) (i : Nat) (hi : (i : Int) + 6 ≤ h 201 0) (hM : h 201 0 ≤ 3072) {Q : Option zV → Nat → zHp → Prop} (KK : ∀ g : zHp, Rel g → nB g → g 200 = h 200 → g 201 = h 201 → zRW mL_law 42 (0, 0) 1528 [zX, zA 0, zA 117, zI (i : Int)] [] 143 g Q) : zRW mL_law 42 (0, 0) 529 [zX, zA 0, zA 117, zI (i : Int)] [] 143 h Q := by
  refine z_al1 eL_law_529 ?_
  refine z_aldX eL_law_530 rfl ?_
  refine z_il3 eL_law_531 ?_
  refine z_ki eL_law_532 ?_
  refine z_iaddN eL_law_533 (by omega) (by omega) ?_
  refine z_sXN eL_law_534 (j := i + 1) (by omega) (by omega) ?_
  refine zc_vi1 eL_law_535 lL_54 tX11_hall zs0 (by decide) (Nat.le_of_ble_eq_true rfl) (b_hall h H N hby _) ?_
  rintro v1 h1 ⟨⟨e0, e1⟩, CM⟩ hv
  have e2 : h1 201 0 = h 201 0 := congrFun e1 0
  refine z_al2 eL_law_538 ?_
  refine z_aldX eL_law_539 rfl ?_
  refine z_il3 eL_law_540 ?_
  refine z_ki eL_law_541 ?_
  refine z_iaddN eL_law_542 (by omega) (by omega) ?_
  refine z_sXN eL_law_543 (j := i + 1) (by omega) (by omega) ?_
  rw [e0]
  refine zc_vi1 eL_law_544 lL_58 tX12_hall zs117 (by decide) (Nat.le_of_ble_eq_true rfl) CM ?_
  rintro v2 h2 R hv2
  refine z_ceq eL_law_547 rfl (fun c547 => ?_) (fun c547 => ?_)
  · exact KK h2 R.2.1 (R.2.2.2.2 N) R.2.2.1 R.2.2.2.1
  · exact absurd R.1 c547
theorem l_9 (h : zHp) (H : Rel h) (N : nB h) (hby : ∀ i : Nat, i < 700 → -128 ≤ h 3 i ∧ h 3 i ≤ 127) (i : Nat) (hi : (i : Int) + 6 ≤ h 201 0) (hM : h 201 0 ≤ 3072) {Q : Option zV → Nat → zHp → Prop} (KK : ∀ g : zHp, Rel g → nB g → g 200 = h 200 → g 201 = h 201 → zRW mL_law 42 (0, 0) 1528 [zX, zA 0, zA 117, zI (i : Int)] [] 143 g Q) : zRW mL_law 42 (0, 0) 552 [zX, zA 0, zA 117, zI (i : Int)] [] 143 h Q := by
  refine z_al1 eL_law_552 ?_
  refine z_aldX eL_law_553 rfl ?_
  refine z_il3 eL_law_554 ?_
  refine z_ki eL_law_555 ?_
  refine z_iaddN eL_law_556 (by omega) (by omega) ?_
  refine z_sXN eL_law_557 (j := i + 1) (by omega) (by omega) ?_
  refine zc_vi1 eL_law_558 lL_59 tX11_rule zs0 (by decide) (Nat.le_of_ble_eq_true rfl) (b_rule h H N hby _) ?_
  rintro v1 h1 ⟨⟨e0, e1⟩, CM⟩ hv
  have e2 : h1 201 0 = h 201 0 := congrFun e1 0
  refine z_al2 eL_law_561 ?_
  refine z_aldX eL_law_562 rfl ?_
  refine z_il3 eL_law_563 ?_
  refine z_ki eL_law_564 ?_
  refine z_iaddN eL_law_565 (by omega) (by omega) ?_
  refine z_sXN eL_law_566 (j := i + 1) (by omega) (by omega) ?_
  rw [e0]
  refine zc_vi1 eL_law_567 lL_62 tX12_rule zs117 (by decide) (Nat.le_of_ble_eq_true rfl) CM ?_
  rintro v2 h2 R hv2
  refine z_ceq eL_law_570 rfl (fun c570 => ?_) (fun c570 => ?_)
  · exact KK h2 R.2.1 (R.2.2.2.2 N) R.2.2.1 R.2.2.2.1
  · exact absurd R.1 c570
theorem l_10 (h : zHp) (H : Rel h) (N : nB h) (i : Nat) (hi : (i : Int) + 6 ≤ h 201 0) (hM : h 201 0 ≤ 3072) {Q : Option zV → Nat → zHp → Prop} (KK : ∀ g : zHp, Rel g → nB g → g 200 = h 200 → g 201 = h 201 → zRW mL_law 42 (0, 0) 1528 [zX, zA 0, zA 117, zI (i : Int)] [] 143 g Q) : zRW mL_law 42 (0, 0) 575 [zX, zA 0, zA 117, zI (i : Int)] [] 143 h Q := by
  refine z_al1 eL_law_575 ?_
  refine z_aldX eL_law_576 rfl ?_
  refine z_il3 eL_law_577 ?_
  refine z_ki eL_law_578 ?_
  refine z_iaddN eL_law_579 (by omega) (by omega) ?_
  refine z_sXN eL_law_580 (j := i + 1) (by omega) (by omega) ?_
  refine zc_vi1 eL_law_581 lL_63 tX11_fault zs0 (by decide) (Nat.le_of_ble_eq_true rfl) (b_fault h H _) ?_
  rintro v1 h1 ⟨⟨e0, e1⟩, CM⟩ hv
  have e2 : h1 201 0 = h 201 0 := congrFun e1 0
  refine z_al2 eL_law_584 ?_
  refine z_aldX eL_law_585 rfl ?_
  refine z_il3 eL_law_586 ?_
  refine z_ki eL_law_587 ?_
  refine z_iaddN eL_law_588 (by omega) (by omega) ?_
  refine z_sXN eL_law_589 (j := i + 1) (by omega) (by omega) ?_
  rw [e0]
  refine zc_vi1 eL_law_590 lL_66 tX12_fault zs117 (by decide) (Nat.le_of_ble_eq_true rfl) CM ?_
  rintro v2 h2 R hv2
  refine z_ceq eL_law_593 rfl (fun c593 => ?_) (fun c593 => ?_)
  · exact KK h2 R.2.1 (R.2.2.2.2 N) R.2.2.1 R.2.2.2.1
  · exact absurd R.1 c593
theorem l_11 (h : zHp) (H : Rel h) (N : nB h) (i : Nat) (hi : (i : Int) + 6 ≤ h 201 0) (hM : h 201 0 ≤ 3072) {Q : Option zV → Nat → zHp → Prop} (KK : ∀ g : zHp, Rel g → nB g → g 200 = h 200 → g 201 = h 201 → zRW mL_law 42 (0, 0) 1528 [zX, zA 0, zA 117, zI (i : Int)] [] 143 g Q) : zRW mL_law 42 (0, 0) 598 [zX, zA 0, zA 117, zI (i : Int)] [] 143 h Q := by
  refine z_al1 eL_law_598 ?_
  refine z_aldX eL_law_599 rfl ?_
  refine z_il3 eL_law_600 ?_
  refine z_ki eL_law_601 ?_
  refine z_iaddN eL_law_602 (by omega) (by omega) ?_
  refine z_sXN eL_law_603 (j := i + 1) (by omega) (by omega) ?_
  refine zc_vi1 eL_law_604 lL_67 tX11_many zs0 (by decide) (Nat.le_of_ble_eq_true rfl) (b_many h H _) ?_
  rintro v1 h1 ⟨⟨e0, e1⟩, CM⟩ hv
  have e2 : h1 201 0 = h 201 0 := congrFun e1 0
  refine z_al2 eL_law_607 ?_
  refine z_aldX eL_law_608 rfl ?_
  refine z_il3 eL_law_609 ?_
  refine z_ki eL_law_610 ?_
  refine z_iaddN eL_law_611 (by omega) (by omega) ?_
  refine z_sXN eL_law_612 (j := i + 1) (by omega) (by omega) ?_
  rw [e0]
  refine zc_vi1 eL_law_613 lL_70 tX12_many zs117 (by decide) (Nat.le_of_ble_eq_true rfl) CM ?_
  rintro v2 h2 R hv2
  refine z_ceq eL_law_616 rfl (fun c616 => ?_) (fun c616 => ?_)
  · exact KK h2 R.2.1 (R.2.2.2.2 N) R.2.2.1 R.2.2.2.1
  · exact absurd R.1 c616
theorem l_12 (h : zHp) (H : Rel h) (N : nB h) (i : Nat) (hi : (i : Int) + 6 ≤ h 201 0) (hM : h 201 0 ≤ 3072) {Q : Option zV → Nat → zHp → Prop} (KK : ∀ g : zHp, Rel g → nB g → g 200 = h 200 → g 201 = h 201 → zRW mL_law 42 (0, 0) 1528 [zX, zA 0, zA 117, zI (i : Int)] [] 143 g Q) : zRW mL_law 42 (0, 0) 621 [zX, zA 0, zA 117, zI (i : Int)] [] 143 h Q := by
  refine z_al1 eL_law_621 ?_
  refine z_aldX eL_law_622 rfl ?_
  refine z_il3 eL_law_623 ?_
  refine z_ki eL_law_624 ?_
  refine z_iaddN eL_law_625 (by omega) (by omega) ?_
  refine z_sXN eL_law_626 (j := i + 1) (by omega) (by omega) ?_
  refine z_aldX eL_law_627 rfl ?_
  refine z_il3 eL_law_628 ?_
  refine z_ki eL_law_629 ?_
  refine z_iaddN eL_law_630 (by omega) (by omega) ?_
  refine z_sXN eL_law_631 (j := i + 2) (by omega) (by omega) ?_
  refine zc_vi2 eL_law_632 lL_71 tX11_name zs0 (by decide) (Nat.le_of_ble_eq_true rfl) (b_name h H _ _) ?_
  rintro v1 h1 ⟨⟨e0, e1⟩, CM⟩ hv
  have e2 : h1 201 0 = h 201 0 := congrFun e1 0
  refine z_al2 eL_law_635 ?_
  refine z_aldX eL_law_636 rfl ?_
  refine z_il3 eL_law_637 ?_
  refine z_ki eL_law_638 ?_
  refine z_iaddN eL_law_639 (by omega) (by omega) ?_
  refine z_sXN eL_law_640 (j := i + 1) (by omega) (by omega) ?_
  refine z_aldX eL_law_641 rfl ?_
  refine z_il3 eL_law_642 ?_
  refine z_ki eL_law_643 ?_
  refine z_iaddN eL_law_644 (by omega) (by omega) ?_
  refine z_sXN eL_law_645 (j := i + 2) (by omega) (by omega) ?_
  rw [e0]
  refine zc_vi2 eL_law_646 lL_75 tX12_name zs117 (by decide) (Nat.le_of_ble_eq_true rfl) CM ?_
  rintro v2 h2 R hv2
  refine z_ceq eL_law_649 rfl (fun c649 => ?_) (fun c649 => ?_)
  · exact KK h2 R.2.1 (R.2.2.2.2 N) R.2.2.1 R.2.2.2.1
  · exact absurd R.1 c649
theorem l_13 (h : zHp) (H : Rel h) (N : nB h) (i : Nat) (hi : (i : Int) + 6 ≤ h 201 0) (hM : h 201 0 ≤ 3072) {Q : Option zV → Nat → zHp → Prop} (KK : ∀ g : zHp, Rel g → nB g → g 200 = h 200 → g 201 = h 201 → zRW mL_law 42 (0, 0) 1528 [zX, zA 0, zA 117, zI (i : Int)] [] 143 g Q) : zRW mL_law 42 (0, 0) 654 [zX, zA 0, zA 117, zI (i : Int)] [] 143 h Q := by
  refine z_al1 eL_law_654 ?_
  refine z_aldX eL_law_655 rfl ?_
  refine z_il3 eL_law_656 ?_
  refine z_ki eL_law_657 ?_
  refine z_iaddN eL_law_658 (by omega) (by omega) ?_
  refine z_sXN eL_law_659 (j := i + 1) (by omega) (by omega) ?_
  refine z_aldX eL_law_660 rfl ?_
  refine z_il3 eL_law_661 ?_
  refine z_ki eL_law_662 ?_
  refine z_iaddN eL_law_663 (by omega) (by omega) ?_
  refine z_sXN eL_law_664 (j := i + 2) (by omega) (by omega) ?_
  refine zc_vi2 eL_law_665 lL_76 tX11_sort zs0 (by decide) (Nat.le_of_ble_eq_true rfl) (b_sort h H _ _) ?_
  rintro v1 h1 ⟨⟨e0, e1⟩, CM⟩ hv
  have e2 : h1 201 0 = h 201 0 := congrFun e1 0
  refine z_al2 eL_law_668 ?_
  refine z_aldX eL_law_669 rfl ?_
  refine z_il3 eL_law_670 ?_
  refine z_ki eL_law_671 ?_
  refine z_iaddN eL_law_672 (by omega) (by omega) ?_
  refine z_sXN eL_law_673 (j := i + 1) (by omega) (by omega) ?_
  refine z_aldX eL_law_674 rfl ?_
  refine z_il3 eL_law_675 ?_
  refine z_ki eL_law_676 ?_
  refine z_iaddN eL_law_677 (by omega) (by omega) ?_
  refine z_sXN eL_law_678 (j := i + 2) (by omega) (by omega) ?_
  rw [e0]
  refine zc_vi2 eL_law_679 lL_79 tX12_sort zs117 (by decide) (Nat.le_of_ble_eq_true rfl) CM ?_
  rintro v2 h2 R hv2
  refine z_ceq eL_law_682 rfl (fun c682 => ?_) (fun c682 => ?_)
  · exact KK h2 R.2.1 (R.2.2.2.2 N) R.2.2.1 R.2.2.2.1
  · exact absurd R.1 c682
theorem l_14 (h : zHp) (H : Rel h) (N : nB h) (i : Nat) (hi : (i : Int) + 6 ≤ h 201 0) (hM : h 201 0 ≤ 3072) {Q : Option zV → Nat → zHp → Prop} (KK : ∀ g : zHp, Rel g → nB g → g 200 = h 200 → g 201 = h 201 → zRW mL_law 42 (0, 0) 1528 [zX, zA 0, zA 117, zI (i : Int)] [] 143 g Q) : zRW mL_law 42 (0, 0) 687 [zX, zA 0, zA 117, zI (i : Int)] [] 143 h Q := by
  refine z_al1 eL_law_687 ?_
  refine z_aldX eL_law_688 rfl ?_
  refine z_il3 eL_law_689 ?_
  refine z_ki eL_law_690 ?_
  refine z_iaddN eL_law_691 (by omega) (by omega) ?_
  refine z_sXN eL_law_692 (j := i + 1) (by omega) (by omega) ?_
  refine z_aldX eL_law_693 rfl ?_
  refine z_il3 eL_law_694 ?_
  refine z_ki eL_law_695 ?_
  refine z_iaddN eL_law_696 (by omega) (by omega) ?_
  refine z_sXN eL_law_697 (j := i + 2) (by omega) (by omega) ?_
  refine zc_vi2 eL_law_698 lL_80 tX11_order zs0 (by decide) (Nat.le_of_ble_eq_true rfl) (b_order h H _ _) ?_
  rintro v1 h1 ⟨⟨e0, e1⟩, CM⟩ hv
  have e2 : h1 201 0 = h 201 0 := congrFun e1 0
  refine z_al2 eL_law_701 ?_
  refine z_aldX eL_law_702 rfl ?_
  refine z_il3 eL_law_703 ?_
  refine z_ki eL_law_704 ?_
  refine z_iaddN eL_law_705 (by omega) (by omega) ?_
  refine z_sXN eL_law_706 (j := i + 1) (by omega) (by omega) ?_
  refine z_aldX eL_law_707 rfl ?_
  refine z_il3 eL_law_708 ?_
  refine z_ki eL_law_709 ?_
  refine z_iaddN eL_law_710 (by omega) (by omega) ?_
  refine z_sXN eL_law_711 (j := i + 2) (by omega) (by omega) ?_
  rw [e0]
  refine zc_vi2 eL_law_712 lL_83 tX12_order zs117 (by decide) (Nat.le_of_ble_eq_true rfl) CM ?_
  rintro v2 h2 R hv2
  refine z_ceq eL_law_715 rfl (fun c715 => ?_) (fun c715 => ?_)
  · exact KK h2 R.2.1 (R.2.2.2.2 N) R.2.2.1 R.2.2.2.1
  · exact absurd R.1 c715
theorem l_15 (h : zHp) (H : Rel h) (N : nB h) (i : Nat) (hi : (i : Int) + 6 ≤ h 201 0) (hM : h 201 0 ≤ 3072) {Q : Option zV → Nat → zHp → Prop} (KK : ∀ g : zHp, Rel g → nB g → g 200 = h 200 → g 201 = h 201 → zRW mL_law 42 (0, 0) 1528 [zX, zA 0, zA 117, zI (i : Int)] [] 143 g Q) : zRW mL_law 42 (0, 0) 720 [zX, zA 0, zA 117, zI (i : Int)] [] 143 h Q := by
  refine z_al1 eL_law_720 ?_
  refine z_aldX eL_law_721 rfl ?_
  refine z_il3 eL_law_722 ?_
  refine z_ki eL_law_723 ?_
  refine z_iaddN eL_law_724 (by omega) (by omega) ?_
  refine z_sXN eL_law_725 (j := i + 1) (by omega) (by omega) ?_
  refine z_aldX eL_law_726 rfl ?_
  refine z_il3 eL_law_727 ?_
  refine z_ki eL_law_728 ?_
  refine z_iaddN eL_law_729 (by omega) (by omega) ?_
  refine z_sXN eL_law_730 (j := i + 2) (by omega) (by omega) ?_
  refine z_ieq eL_law_731 rfl (fun c731 => ?_) (fun c731 => ?_)
  · refine z_ki eL_law_738 ?_
    refine zc_vi2 eL_law_739 lL_84 tX11_stand zs0 (by decide) (Nat.le_of_ble_eq_true rfl) (b_stand h H _ _) ?_
    rintro v1 h1 ⟨⟨e0, e1⟩, CM⟩ hv
    have e2 : h1 201 0 = h 201 0 := congrFun e1 0
    refine z_al2 eL_law_742 ?_
    refine z_aldX eL_law_743 rfl ?_
    refine z_il3 eL_law_744 ?_
    refine z_ki eL_law_745 ?_
    refine z_iaddN eL_law_746 (by omega) (by omega) ?_
    refine z_sXN eL_law_747 (j := i + 1) (by omega) (by omega) ?_
    refine z_aldX eL_law_748 rfl ?_
    refine z_il3 eL_law_749 ?_
    refine z_ki eL_law_750 ?_
    refine z_iaddN eL_law_751 (by omega) (by omega) ?_
    refine z_sXN eL_law_752 (j := i + 2) (by omega) (by omega) ?_
    rw [e0]
    refine z_ieq eL_law_753 rfl (fun c753 => ?_) (fun c753 => ?_)
    · refine z_ki eL_law_760 ?_
      try rw [e0]
      refine zc_vi2 eL_law_761 lL_88 tX12_stand zs117 (by decide) (Nat.le_of_ble_eq_true rfl) CM ?_
      rintro v2 h2 R hv2
      refine z_ceq eL_law_764 rfl (fun c764 => ?_) (fun c764 => ?_)
      · exact KK h2 R.2.1 (R.2.2.2.2 N) R.2.2.1 R.2.2.2.1
      · exact absurd R.1 c764
    · exact absurd c731 c753
  · refine z_ki eL_law_734 ?_
    refine z_goto eL_law_735 rfl ?_
    refine zc_vi2 eL_law_739 lL_84 tX11_stand zs0 (by decide) (Nat.le_of_ble_eq_true rfl) (b_stand h H _ _) ?_
    rintro v1 h1 ⟨⟨e0, e1⟩, CM⟩ hv
    have e2 : h1 201 0 = h 201 0 := congrFun e1 0
    refine z_al2 eL_law_742 ?_
    refine z_aldX eL_law_743 rfl ?_
    refine z_il3 eL_law_744 ?_
    refine z_ki eL_law_745 ?_
    refine z_iaddN eL_law_746 (by omega) (by omega) ?_
    refine z_sXN eL_law_747 (j := i + 1) (by omega) (by omega) ?_
    refine z_aldX eL_law_748 rfl ?_
    refine z_il3 eL_law_749 ?_
    refine z_ki eL_law_750 ?_
    refine z_iaddN eL_law_751 (by omega) (by omega) ?_
    refine z_sXN eL_law_752 (j := i + 2) (by omega) (by omega) ?_
    rw [e0]
    refine z_ieq eL_law_753 rfl (fun c753 => ?_) (fun c753 => ?_)
    · exact absurd c753 c731
    · refine z_ki eL_law_756 ?_
      refine z_goto eL_law_757 rfl ?_
      try rw [e0]
      refine zc_vi2 eL_law_761 lL_88 tX12_stand zs117 (by decide) (Nat.le_of_ble_eq_true rfl) CM ?_
      rintro v2 h2 R hv2
      refine z_ceq eL_law_764 rfl (fun c764 => ?_) (fun c764 => ?_)
      · exact KK h2 R.2.1 (R.2.2.2.2 N) R.2.2.1 R.2.2.2.1
      · exact absurd R.1 c764
theorem l_16 (h : zHp) (H : Rel h) (N : nB h) (i : Nat) (hi : (i : Int) + 6 ≤ h 201 0) (hM : h 201 0 ≤ 3072) {Q : Option zV → Nat → zHp → Prop} (KK : ∀ g : zHp, Rel g → nB g → g 200 = h 200 → g 201 = h 201 → zRW mL_law 42 (0, 0) 1528 [zX, zA 0, zA 117, zI (i : Int)] [] 143 g Q) : zRW mL_law 42 (0, 0) 769 [zX, zA 0, zA 117, zI (i : Int)] [] 143 h Q := by
  refine z_al1 eL_law_769 ?_
  refine z_aldX eL_law_770 rfl ?_
  refine z_il3 eL_law_771 ?_
  refine z_ki eL_law_772 ?_
  refine z_iaddN eL_law_773 (by omega) (by omega) ?_
  refine z_sXN eL_law_774 (j := i + 1) (by omega) (by omega) ?_
  refine z_aldX eL_law_775 rfl ?_
  refine z_il3 eL_law_776 ?_
  refine z_ki eL_law_777 ?_
  refine z_iaddN eL_law_778 (by omega) (by omega) ?_
  refine z_sXN eL_law_779 (j := i + 2) (by omega) (by omega) ?_
  refine z_aldX eL_law_780 rfl ?_
  refine z_il3 eL_law_781 ?_
  refine z_ki eL_law_782 ?_
  refine z_iaddN eL_law_783 (by omega) (by omega) ?_
  refine z_sXN eL_law_784 (j := i + 3) (by omega) (by omega) ?_
  refine zc_vi3 eL_law_785 lL_89 tX11_voters zs0 (by decide) (Nat.le_of_ble_eq_true rfl) (b_voters h H _ _ _) ?_
  rintro v1 h1 ⟨⟨e0, e1⟩, CM⟩ hv
  have e2 : h1 201 0 = h 201 0 := congrFun e1 0
  refine z_al2 eL_law_788 ?_
  refine z_aldX eL_law_789 rfl ?_
  refine z_il3 eL_law_790 ?_
  refine z_ki eL_law_791 ?_
  refine z_iaddN eL_law_792 (by omega) (by omega) ?_
  refine z_sXN eL_law_793 (j := i + 1) (by omega) (by omega) ?_
  refine z_aldX eL_law_794 rfl ?_
  refine z_il3 eL_law_795 ?_
  refine z_ki eL_law_796 ?_
  refine z_iaddN eL_law_797 (by omega) (by omega) ?_
  refine z_sXN eL_law_798 (j := i + 2) (by omega) (by omega) ?_
  refine z_aldX eL_law_799 rfl ?_
  refine z_il3 eL_law_800 ?_
  refine z_ki eL_law_801 ?_
  refine z_iaddN eL_law_802 (by omega) (by omega) ?_
  refine z_sXN eL_law_803 (j := i + 3) (by omega) (by omega) ?_
  rw [e0]
  refine zc_vi3 eL_law_804 lL_92 tX12_voters zs117 (by decide) (Nat.le_of_ble_eq_true rfl) CM ?_
  rintro v2 h2 R hv2
  refine z_ceq eL_law_807 rfl (fun c807 => ?_) (fun c807 => ?_)
  · exact KK h2 R.2.1 (R.2.2.2.2 N) R.2.2.1 R.2.2.2.1
  · exact absurd R.1 c807
theorem l_17 (h : zHp) (H : Rel h) (N : nB h) (i : Nat) (hi : (i : Int) + 6 ≤ h 201 0) (hM : h 201 0 ≤ 3072) {Q : Option zV → Nat → zHp → Prop} (KK : ∀ g : zHp, Rel g → nB g → g 200 = h 200 → g 201 = h 201 → zRW mL_law 42 (0, 0) 1528 [zX, zA 0, zA 117, zI (i : Int)] [] 143 g Q) : zRW mL_law 42 (0, 0) 812 [zX, zA 0, zA 117, zI (i : Int)] [] 143 h Q := by
  refine z_al1 eL_law_812 ?_
  refine zc_vi0 eL_law_813 lL_93 tX11_wins zs0 (by decide) (Nat.le_of_ble_eq_true rfl) (b_wins h H) ?_
  rintro v1 h1 ⟨⟨e0, e1⟩, CM⟩ hv
  have e2 : h1 201 0 = h 201 0 := congrFun e1 0
  refine z_al2 eL_law_816 ?_
  refine zc_vi0 eL_law_817 lL_96 tX12_wins zs117 (by decide) (Nat.le_of_ble_eq_true rfl) CM ?_
  rintro v2 h2 R hv2
  refine z_ceq eL_law_820 rfl (fun c820 => ?_) (fun c820 => ?_)
  · exact KK h2 R.2.1 (R.2.2.2.2 N) R.2.2.1 R.2.2.2.1
  · exact absurd R.1 c820
theorem l_18 (h : zHp) (H : Rel h) (N : nB h) (i : Nat) (hi : (i : Int) + 6 ≤ h 201 0) (hM : h 201 0 ≤ 3072) {Q : Option zV → Nat → zHp → Prop} (KK : ∀ g : zHp, Rel g → nB g → g 200 = h 200 → g 201 = h 201 → zRW mL_law 42 (0, 0) 1528 [zX, zA 0, zA 117, zI (i : Int)] [] 143 g Q) : zRW mL_law 42 (0, 0) 825 [zX, zA 0, zA 117, zI (i : Int)] [] 143 h Q := by
  refine z_al1 eL_law_825 ?_
  refine z_aldX eL_law_826 rfl ?_
  refine z_il3 eL_law_827 ?_
  refine z_ki eL_law_828 ?_
  refine z_iaddN eL_law_829 (by omega) (by omega) ?_
  refine z_sXN eL_law_830 (j := i + 1) (by omega) (by omega) ?_
  refine zc_vi1 eL_law_831 lL_97 tX11_firsts zs0 (by decide) (Nat.le_of_ble_eq_true rfl) (b_firsts h H _) ?_
  rintro v1 h1 ⟨⟨e0, e1⟩, CM⟩ hv
  have e2 : h1 201 0 = h 201 0 := congrFun e1 0
  refine z_al2 eL_law_834 ?_
  refine z_aldX eL_law_835 rfl ?_
  refine z_il3 eL_law_836 ?_
  refine z_ki eL_law_837 ?_
  refine z_iaddN eL_law_838 (by omega) (by omega) ?_
  refine z_sXN eL_law_839 (j := i + 1) (by omega) (by omega) ?_
  rw [e0]
  refine zc_vi1 eL_law_840 lL_100 tX12_firsts zs117 (by decide) (Nat.le_of_ble_eq_true rfl) CM ?_
  rintro v2 h2 R hv2
  refine z_ceq eL_law_843 rfl (fun c843 => ?_) (fun c843 => ?_)
  · exact KK h2 R.2.1 (R.2.2.2.2 N) R.2.2.1 R.2.2.2.1
  · exact absurd R.1 c843
theorem l_19 (h : zHp) (H : Rel h) (N : nB h) (i : Nat) (hi : (i : Int) + 6 ≤ h 201 0) (hM : h 201 0 ≤ 3072) {Q : Option zV → Nat → zHp → Prop} (KK : ∀ g : zHp, Rel g → nB g → g 200 = h 200 → g 201 = h 201 → zRW mL_law 42 (0, 0) 1528 [zX, zA 0, zA 117, zI (i : Int)] [] 143 g Q) : zRW mL_law 42 (0, 0) 848 [zX, zA 0, zA 117, zI (i : Int)] [] 143 h Q := by
  refine z_al1 eL_law_848 ?_
  refine z_aldX eL_law_849 rfl ?_
  refine z_il3 eL_law_850 ?_
  refine z_ki eL_law_851 ?_
  refine z_iaddN eL_law_852 (by omega) (by omega) ?_
  refine z_sXN eL_law_853 (j := i + 1) (by omega) (by omega) ?_
  refine z_aldX eL_law_854 rfl ?_
  refine z_il3 eL_law_855 ?_
  refine z_ki eL_law_856 ?_
  refine z_iaddN eL_law_857 (by omega) (by omega) ?_
  refine z_sXN eL_law_858 (j := i + 2) (by omega) (by omega) ?_
  refine zc_vi2 eL_law_859 lL_101 tX11_beats zs0 (by decide) (Nat.le_of_ble_eq_true rfl) (b_beats h H _ _) ?_
  rintro v1 h1 ⟨⟨e0, e1⟩, CM⟩ hv
  have e2 : h1 201 0 = h 201 0 := congrFun e1 0
  refine z_al2 eL_law_862 ?_
  refine z_aldX eL_law_863 rfl ?_
  refine z_il3 eL_law_864 ?_
  refine z_ki eL_law_865 ?_
  refine z_iaddN eL_law_866 (by omega) (by omega) ?_
  refine z_sXN eL_law_867 (j := i + 1) (by omega) (by omega) ?_
  refine z_aldX eL_law_868 rfl ?_
  refine z_il3 eL_law_869 ?_
  refine z_ki eL_law_870 ?_
  refine z_iaddN eL_law_871 (by omega) (by omega) ?_
  refine z_sXN eL_law_872 (j := i + 2) (by omega) (by omega) ?_
  rw [e0]
  refine zc_vi2 eL_law_873 lL_104 tX12_beats zs117 (by decide) (Nat.le_of_ble_eq_true rfl) CM ?_
  rintro v2 h2 R hv2
  refine z_ceq eL_law_876 rfl (fun c876 => ?_) (fun c876 => ?_)
  · exact KK h2 R.2.1 (R.2.2.2.2 N) R.2.2.1 R.2.2.2.1
  · exact absurd R.1 c876
theorem l_20 (h : zHp) (H : Rel h) (N : nB h) (i : Nat) (hi : (i : Int) + 6 ≤ h 201 0) (hM : h 201 0 ≤ 3072) {Q : Option zV → Nat → zHp → Prop} (KK : ∀ g : zHp, Rel g → nB g → g 200 = h 200 → g 201 = h 201 → zRW mL_law 42 (0, 0) 1528 [zX, zA 0, zA 117, zI (i : Int)] [] 143 g Q) : zRW mL_law 42 (0, 0) 881 [zX, zA 0, zA 117, zI (i : Int)] [] 143 h Q := by
  refine z_al1 eL_law_881 ?_
  refine z_aldX eL_law_882 rfl ?_
  refine z_il3 eL_law_883 ?_
  refine z_ki eL_law_884 ?_
  refine z_iaddN eL_law_885 (by omega) (by omega) ?_
  refine z_sXN eL_law_886 (j := i + 1) (by omega) (by omega) ?_
  refine zc_vi1 eL_law_887 lL_105 tX11_left zs0 (by decide) (Nat.le_of_ble_eq_true rfl) (b_left h H _) ?_
  rintro v1 h1 ⟨⟨e0, e1⟩, CM⟩ hv
  have e2 : h1 201 0 = h 201 0 := congrFun e1 0
  refine z_al2 eL_law_890 ?_
  refine z_aldX eL_law_891 rfl ?_
  refine z_il3 eL_law_892 ?_
  refine z_ki eL_law_893 ?_
  refine z_iaddN eL_law_894 (by omega) (by omega) ?_
  refine z_sXN eL_law_895 (j := i + 1) (by omega) (by omega) ?_
  rw [e0]
  refine zc_vi1 eL_law_896 lL_108 tX12_left zs117 (by decide) (Nat.le_of_ble_eq_true rfl) CM ?_
  rintro v2 h2 R hv2
  refine z_ceq eL_law_899 rfl (fun c899 => ?_) (fun c899 => ?_)
  · exact KK h2 R.2.1 (R.2.2.2.2 N) R.2.2.1 R.2.2.2.1
  · exact absurd R.1 c899
theorem l_21 (h : zHp) (H : Rel h) (N : nB h) (i : Nat) (hi : (i : Int) + 6 ≤ h 201 0) (hM : h 201 0 ≤ 3072) {Q : Option zV → Nat → zHp → Prop} (KK : ∀ g : zHp, Rel g → nB g → g 200 = h 200 → g 201 = h 201 → zRW mL_law 42 (0, 0) 1528 [zX, zA 0, zA 117, zI (i : Int)] [] 143 g Q) : zRW mL_law 42 (0, 0) 904 [zX, zA 0, zA 117, zI (i : Int)] [] 143 h Q := by
  refine z_al1 eL_law_904 ?_
  refine z_aldX eL_law_905 rfl ?_
  refine z_il3 eL_law_906 ?_
  refine z_ki eL_law_907 ?_
  refine z_iaddN eL_law_908 (by omega) (by omega) ?_
  refine z_sXN eL_law_909 (j := i + 1) (by omega) (by omega) ?_
  refine z_aldX eL_law_910 rfl ?_
  refine z_il3 eL_law_911 ?_
  refine z_ki eL_law_912 ?_
  refine z_iaddN eL_law_913 (by omega) (by omega) ?_
  refine z_sXN eL_law_914 (j := i + 2) (by omega) (by omega) ?_
  refine zc_vi2 eL_law_915 lL_109 tX11_told zs0 (by decide) (Nat.le_of_ble_eq_true rfl) (b_told h H _ _) ?_
  rintro v1 h1 ⟨⟨e0, e1⟩, CM⟩ hv
  have e2 : h1 201 0 = h 201 0 := congrFun e1 0
  refine z_al2 eL_law_918 ?_
  refine z_aldX eL_law_919 rfl ?_
  refine z_il3 eL_law_920 ?_
  refine z_ki eL_law_921 ?_
  refine z_iaddN eL_law_922 (by omega) (by omega) ?_
  refine z_sXN eL_law_923 (j := i + 1) (by omega) (by omega) ?_
  refine z_aldX eL_law_924 rfl ?_
  refine z_il3 eL_law_925 ?_
  refine z_ki eL_law_926 ?_
  refine z_iaddN eL_law_927 (by omega) (by omega) ?_
  refine z_sXN eL_law_928 (j := i + 2) (by omega) (by omega) ?_
  rw [e0]
  refine zc_vi2 eL_law_929 lL_112 tX12_told zs117 (by decide) (Nat.le_of_ble_eq_true rfl) CM ?_
  rintro v2 h2 R hv2
  refine z_ceq eL_law_932 rfl (fun c932 => ?_) (fun c932 => ?_)
  · exact KK h2 R.2.1 (R.2.2.2.2 N) R.2.2.1 R.2.2.2.1
  · exact absurd R.1 c932
theorem l_22 (h : zHp) (H : Rel h) (N : nB h) (i : Nat) (hi : (i : Int) + 6 ≤ h 201 0) (hM : h 201 0 ≤ 3072) {Q : Option zV → Nat → zHp → Prop} (KK : ∀ g : zHp, Rel g → nB g → g 200 = h 200 → g 201 = h 201 → zRW mL_law 42 (0, 0) 1528 [zX, zA 0, zA 117, zI (i : Int)] [] 143 g Q) : zRW mL_law 42 (0, 0) 937 [zX, zA 0, zA 117, zI (i : Int)] [] 143 h Q := by
  refine z_al1 eL_law_937 ?_
  refine z_aldX eL_law_938 rfl ?_
  refine z_il3 eL_law_939 ?_
  refine z_ki eL_law_940 ?_
  refine z_iaddN eL_law_941 (by omega) (by omega) ?_
  refine z_sXN eL_law_942 (j := i + 1) (by omega) (by omega) ?_
  refine z_aldX eL_law_943 rfl ?_
  refine z_il3 eL_law_944 ?_
  refine z_ki eL_law_945 ?_
  refine z_iaddN eL_law_946 (by omega) (by omega) ?_
  refine z_sXN eL_law_947 (j := i + 2) (by omega) (by omega) ?_
  refine zc_vi2 eL_law_948 lL_113 tX11_cost zs0 (by decide) (Nat.le_of_ble_eq_true rfl) (b_cost h H _ _) ?_
  rintro v1 h1 ⟨⟨e0, e1⟩, CM⟩ hv
  have e2 : h1 201 0 = h 201 0 := congrFun e1 0
  refine z_al2 eL_law_951 ?_
  refine z_aldX eL_law_952 rfl ?_
  refine z_il3 eL_law_953 ?_
  refine z_ki eL_law_954 ?_
  refine z_iaddN eL_law_955 (by omega) (by omega) ?_
  refine z_sXN eL_law_956 (j := i + 1) (by omega) (by omega) ?_
  refine z_aldX eL_law_957 rfl ?_
  refine z_il3 eL_law_958 ?_
  refine z_ki eL_law_959 ?_
  refine z_iaddN eL_law_960 (by omega) (by omega) ?_
  refine z_sXN eL_law_961 (j := i + 2) (by omega) (by omega) ?_
  rw [e0]
  refine zc_vi2 eL_law_962 lL_116 tX12_cost zs117 (by decide) (Nat.le_of_ble_eq_true rfl) CM ?_
  rintro v2 h2 R hv2
  refine z_ceq eL_law_965 rfl (fun c965 => ?_) (fun c965 => ?_)
  · exact KK h2 R.2.1 (R.2.2.2.2 N) R.2.2.1 R.2.2.2.1
  · exact absurd R.1 c965
theorem l_23 (h : zHp) (H : Rel h) (N : nB h) (i : Nat) (hi : (i : Int) + 6 ≤ h 201 0) (hM : h 201 0 ≤ 3072) {Q : Option zV → Nat → zHp → Prop} (KK : ∀ g : zHp, Rel g → nB g → g 200 = h 200 → g 201 = h 201 → zRW mL_law 42 (0, 0) 1528 [zX, zA 0, zA 117, zI (i : Int)] [] 143 g Q) : zRW mL_law 42 (0, 0) 970 [zX, zA 0, zA 117, zI (i : Int)] [] 143 h Q := by
  refine z_al1 eL_law_970 ?_
  refine z_aldX eL_law_971 rfl ?_
  refine z_il3 eL_law_972 ?_
  refine z_ki eL_law_973 ?_
  refine z_iaddN eL_law_974 (by omega) (by omega) ?_
  refine z_sXN eL_law_975 (j := i + 1) (by omega) (by omega) ?_
  refine z_aldX eL_law_976 rfl ?_
  refine z_il3 eL_law_977 ?_
  refine z_ki eL_law_978 ?_
  refine z_iaddN eL_law_979 (by omega) (by omega) ?_
  refine z_sXN eL_law_980 (j := i + 2) (by omega) (by omega) ?_
  refine z_ieq eL_law_981 rfl (fun c981 => ?_) (fun c981 => ?_)
  · refine z_ki eL_law_988 ?_
    refine z_aldX eL_law_989 rfl ?_
    refine z_il3 eL_law_990 ?_
    refine z_ki eL_law_991 ?_
    refine z_iaddN eL_law_992 (by omega) (by omega) ?_
    refine z_sXN eL_law_993 (j := i + 3) (by omega) (by omega) ?_
    refine z_aldX eL_law_994 rfl ?_
    refine z_il3 eL_law_995 ?_
    refine z_ki eL_law_996 ?_
    refine z_iaddN eL_law_997 (by omega) (by omega) ?_
    refine z_sXN eL_law_998 (j := i + 4) (by omega) (by omega) ?_
    refine z_ieq eL_law_999 rfl (fun c999 => ?_) (fun c999 => ?_)
    · refine z_ki eL_law_1006 ?_
      refine zc_vi4 eL_law_1007 lL_117 tX11_names zs0 (by decide) (Nat.le_of_ble_eq_true rfl) (b_names h H _ _ _ _ (by decide) (by decide)) ?_
      rintro v1 h1 ⟨⟨e0, e1⟩, CM⟩ hv
      have e2 : h1 201 0 = h 201 0 := congrFun e1 0
      refine z_al2 eL_law_1010 ?_
      refine z_aldX eL_law_1011 rfl ?_
      refine z_il3 eL_law_1012 ?_
      refine z_ki eL_law_1013 ?_
      refine z_iaddN eL_law_1014 (by omega) (by omega) ?_
      refine z_sXN eL_law_1015 (j := i + 1) (by omega) (by omega) ?_
      refine z_aldX eL_law_1016 rfl ?_
      refine z_il3 eL_law_1017 ?_
      refine z_ki eL_law_1018 ?_
      refine z_iaddN eL_law_1019 (by omega) (by omega) ?_
      refine z_sXN eL_law_1020 (j := i + 2) (by omega) (by omega) ?_
      rw [e0]
      refine z_ieq eL_law_1021 rfl (fun c1021 => ?_) (fun c1021 => ?_)
      · refine z_ki eL_law_1028 ?_
        refine z_aldX eL_law_1029 rfl ?_
        refine z_il3 eL_law_1030 ?_
        refine z_ki eL_law_1031 ?_
        refine z_iaddN eL_law_1032 (by omega) (by omega) ?_
        refine z_sXN eL_law_1033 (j := i + 3) (by omega) (by omega) ?_
        refine z_aldX eL_law_1034 rfl ?_
        refine z_il3 eL_law_1035 ?_
        refine z_ki eL_law_1036 ?_
        refine z_iaddN eL_law_1037 (by omega) (by omega) ?_
        refine z_sXN eL_law_1038 (j := i + 4) (by omega) (by omega) ?_
        rw [e0]
        refine z_ieq eL_law_1039 rfl (fun c1039 => ?_) (fun c1039 => ?_)
        · refine z_ki eL_law_1046 ?_
          try rw [e0]
          refine zc_vi4 eL_law_1047 lL_121 tX12_names zs117 (by decide) (Nat.le_of_ble_eq_true rfl) CM ?_
          rintro v2 h2 R hv2
          refine z_ceq eL_law_1050 rfl (fun c1050 => ?_) (fun c1050 => ?_)
          · exact KK h2 R.2.1 (R.2.2.2.2 N) R.2.2.1 R.2.2.2.1
          · exact absurd R.1 c1050
        · exact absurd c999 c1039
      · exact absurd c981 c1021
    · refine z_ki eL_law_1002 ?_
      refine z_goto eL_law_1003 rfl ?_
      refine zc_vi4 eL_law_1007 lL_117 tX11_names zs0 (by decide) (Nat.le_of_ble_eq_true rfl) (b_names h H _ _ _ _ (by decide) (by decide)) ?_
      rintro v1 h1 ⟨⟨e0, e1⟩, CM⟩ hv
      have e2 : h1 201 0 = h 201 0 := congrFun e1 0
      refine z_al2 eL_law_1010 ?_
      refine z_aldX eL_law_1011 rfl ?_
      refine z_il3 eL_law_1012 ?_
      refine z_ki eL_law_1013 ?_
      refine z_iaddN eL_law_1014 (by omega) (by omega) ?_
      refine z_sXN eL_law_1015 (j := i + 1) (by omega) (by omega) ?_
      refine z_aldX eL_law_1016 rfl ?_
      refine z_il3 eL_law_1017 ?_
      refine z_ki eL_law_1018 ?_
      refine z_iaddN eL_law_1019 (by omega) (by omega) ?_
      refine z_sXN eL_law_1020 (j := i + 2) (by omega) (by omega) ?_
      rw [e0]
      refine z_ieq eL_law_1021 rfl (fun c1021 => ?_) (fun c1021 => ?_)
      · refine z_ki eL_law_1028 ?_
        refine z_aldX eL_law_1029 rfl ?_
        refine z_il3 eL_law_1030 ?_
        refine z_ki eL_law_1031 ?_
        refine z_iaddN eL_law_1032 (by omega) (by omega) ?_
        refine z_sXN eL_law_1033 (j := i + 3) (by omega) (by omega) ?_
        refine z_aldX eL_law_1034 rfl ?_
        refine z_il3 eL_law_1035 ?_
        refine z_ki eL_law_1036 ?_
        refine z_iaddN eL_law_1037 (by omega) (by omega) ?_
        refine z_sXN eL_law_1038 (j := i + 4) (by omega) (by omega) ?_
        rw [e0]
        refine z_ieq eL_law_1039 rfl (fun c1039 => ?_) (fun c1039 => ?_)
        · exact absurd c1039 c999
        · refine z_ki eL_law_1042 ?_
          refine z_goto eL_law_1043 rfl ?_
          try rw [e0]
          refine zc_vi4 eL_law_1047 lL_121 tX12_names zs117 (by decide) (Nat.le_of_ble_eq_true rfl) CM ?_
          rintro v2 h2 R hv2
          refine z_ceq eL_law_1050 rfl (fun c1050 => ?_) (fun c1050 => ?_)
          · exact KK h2 R.2.1 (R.2.2.2.2 N) R.2.2.1 R.2.2.2.1
          · exact absurd R.1 c1050
      · exact absurd c981 c1021
  · refine z_ki eL_law_984 ?_
    refine z_goto eL_law_985 rfl ?_
    refine z_aldX eL_law_989 rfl ?_
    refine z_il3 eL_law_990 ?_
    refine z_ki eL_law_991 ?_
    refine z_iaddN eL_law_992 (by omega) (by omega) ?_
    refine z_sXN eL_law_993 (j := i + 3) (by omega) (by omega) ?_
    refine z_aldX eL_law_994 rfl ?_
    refine z_il3 eL_law_995 ?_
    refine z_ki eL_law_996 ?_
    refine z_iaddN eL_law_997 (by omega) (by omega) ?_
    refine z_sXN eL_law_998 (j := i + 4) (by omega) (by omega) ?_
    refine z_ieq eL_law_999 rfl (fun c999 => ?_) (fun c999 => ?_)
    · refine z_ki eL_law_1006 ?_
      refine zc_vi4 eL_law_1007 lL_117 tX11_names zs0 (by decide) (Nat.le_of_ble_eq_true rfl) (b_names h H _ _ _ _ (by decide) (by decide)) ?_
      rintro v1 h1 ⟨⟨e0, e1⟩, CM⟩ hv
      have e2 : h1 201 0 = h 201 0 := congrFun e1 0
      refine z_al2 eL_law_1010 ?_
      refine z_aldX eL_law_1011 rfl ?_
      refine z_il3 eL_law_1012 ?_
      refine z_ki eL_law_1013 ?_
      refine z_iaddN eL_law_1014 (by omega) (by omega) ?_
      refine z_sXN eL_law_1015 (j := i + 1) (by omega) (by omega) ?_
      refine z_aldX eL_law_1016 rfl ?_
      refine z_il3 eL_law_1017 ?_
      refine z_ki eL_law_1018 ?_
      refine z_iaddN eL_law_1019 (by omega) (by omega) ?_
      refine z_sXN eL_law_1020 (j := i + 2) (by omega) (by omega) ?_
      rw [e0]
      refine z_ieq eL_law_1021 rfl (fun c1021 => ?_) (fun c1021 => ?_)
      · exact absurd c1021 c981
      · refine z_ki eL_law_1024 ?_
        refine z_goto eL_law_1025 rfl ?_
        refine z_aldX eL_law_1029 rfl ?_
        refine z_il3 eL_law_1030 ?_
        refine z_ki eL_law_1031 ?_
        refine z_iaddN eL_law_1032 (by omega) (by omega) ?_
        refine z_sXN eL_law_1033 (j := i + 3) (by omega) (by omega) ?_
        refine z_aldX eL_law_1034 rfl ?_
        refine z_il3 eL_law_1035 ?_
        refine z_ki eL_law_1036 ?_
        refine z_iaddN eL_law_1037 (by omega) (by omega) ?_
        refine z_sXN eL_law_1038 (j := i + 4) (by omega) (by omega) ?_
        rw [e0]
        refine z_ieq eL_law_1039 rfl (fun c1039 => ?_) (fun c1039 => ?_)
        · refine z_ki eL_law_1046 ?_
          try rw [e0]
          refine zc_vi4 eL_law_1047 lL_121 tX12_names zs117 (by decide) (Nat.le_of_ble_eq_true rfl) CM ?_
          rintro v2 h2 R hv2
          refine z_ceq eL_law_1050 rfl (fun c1050 => ?_) (fun c1050 => ?_)
          · exact KK h2 R.2.1 (R.2.2.2.2 N) R.2.2.1 R.2.2.2.1
          · exact absurd R.1 c1050
        · exact absurd c999 c1039
    · refine z_ki eL_law_1002 ?_
      refine z_goto eL_law_1003 rfl ?_
      refine zc_vi4 eL_law_1007 lL_117 tX11_names zs0 (by decide) (Nat.le_of_ble_eq_true rfl) (b_names h H _ _ _ _ (by decide) (by decide)) ?_
      rintro v1 h1 ⟨⟨e0, e1⟩, CM⟩ hv
      have e2 : h1 201 0 = h 201 0 := congrFun e1 0
      refine z_al2 eL_law_1010 ?_
      refine z_aldX eL_law_1011 rfl ?_
      refine z_il3 eL_law_1012 ?_
      refine z_ki eL_law_1013 ?_
      refine z_iaddN eL_law_1014 (by omega) (by omega) ?_
      refine z_sXN eL_law_1015 (j := i + 1) (by omega) (by omega) ?_
      refine z_aldX eL_law_1016 rfl ?_
      refine z_il3 eL_law_1017 ?_
      refine z_ki eL_law_1018 ?_
      refine z_iaddN eL_law_1019 (by omega) (by omega) ?_
      refine z_sXN eL_law_1020 (j := i + 2) (by omega) (by omega) ?_
      rw [e0]
      refine z_ieq eL_law_1021 rfl (fun c1021 => ?_) (fun c1021 => ?_)
      · exact absurd c1021 c981
      · refine z_ki eL_law_1024 ?_
        refine z_goto eL_law_1025 rfl ?_
        refine z_aldX eL_law_1029 rfl ?_
        refine z_il3 eL_law_1030 ?_
        refine z_ki eL_law_1031 ?_
        refine z_iaddN eL_law_1032 (by omega) (by omega) ?_
        refine z_sXN eL_law_1033 (j := i + 3) (by omega) (by omega) ?_
        refine z_aldX eL_law_1034 rfl ?_
        refine z_il3 eL_law_1035 ?_
        refine z_ki eL_law_1036 ?_
        refine z_iaddN eL_law_1037 (by omega) (by omega) ?_
        refine z_sXN eL_law_1038 (j := i + 4) (by omega) (by omega) ?_
        rw [e0]
        refine z_ieq eL_law_1039 rfl (fun c1039 => ?_) (fun c1039 => ?_)
        · exact absurd c1039 c999
        · refine z_ki eL_law_1042 ?_
          refine z_goto eL_law_1043 rfl ?_
          try rw [e0]
          refine zc_vi4 eL_law_1047 lL_121 tX12_names zs117 (by decide) (Nat.le_of_ble_eq_true rfl) CM ?_
          rintro v2 h2 R hv2
          refine z_ceq eL_law_1050 rfl (fun c1050 => ?_) (fun c1050 => ?_)
          · exact KK h2 R.2.1 (R.2.2.2.2 N) R.2.2.1 R.2.2.2.1
          · exact absurd R.1 c1050
theorem l_24 (h : zHp) (H : Rel h) (N : nB h) (i : Nat) (hi : (i : Int) + 6 ≤ h 201 0) (hM : h 201 0 ≤ 3072) {Q : Option zV → Nat → zHp → Prop} (KK : ∀ g : zHp, Rel g → nB g → g 200 = h 200 → g 201 = h 201 → zRW mL_law 42 (0, 0) 1528 [zX, zA 0, zA 117, zI (i : Int)] [] 143 g Q) : zRW mL_law 42 (0, 0) 1055 [zX, zA 0, zA 117, zI (i : Int)] [] 143 h Q := by
  refine z_al1 eL_law_1055 ?_
  refine z_aldX eL_law_1056 rfl ?_
  refine z_il3 eL_law_1057 ?_
  refine z_ki eL_law_1058 ?_
  refine z_iaddN eL_law_1059 (by omega) (by omega) ?_
  refine z_sXN eL_law_1060 (j := i + 1) (by omega) (by omega) ?_
  refine z_aldX eL_law_1061 rfl ?_
  refine z_il3 eL_law_1062 ?_
  refine z_ki eL_law_1063 ?_
  refine z_iaddN eL_law_1064 (by omega) (by omega) ?_
  refine z_sXN eL_law_1065 (j := i + 2) (by omega) (by omega) ?_
  refine z_ieq eL_law_1066 rfl (fun c1066 => ?_) (fun c1066 => ?_)
  · refine z_ki eL_law_1073 ?_
    refine z_aldX eL_law_1074 rfl ?_
    refine z_il3 eL_law_1075 ?_
    refine z_ki eL_law_1076 ?_
    refine z_iaddN eL_law_1077 (by omega) (by omega) ?_
    refine z_sXN eL_law_1078 (j := i + 3) (by omega) (by omega) ?_
    refine z_aldX eL_law_1079 rfl ?_
    refine z_il3 eL_law_1080 ?_
    refine z_ki eL_law_1081 ?_
    refine z_iaddN eL_law_1082 (by omega) (by omega) ?_
    refine z_sXN eL_law_1083 (j := i + 4) (by omega) (by omega) ?_
    refine z_aldX eL_law_1084 rfl ?_
    refine z_il3 eL_law_1085 ?_
    refine z_ki eL_law_1086 ?_
    refine z_iaddN eL_law_1087 (by omega) (by omega) ?_
    refine z_sXN eL_law_1088 (j := i + 5) (by omega) (by omega) ?_
    refine z_ieq eL_law_1089 rfl (fun c1089 => ?_) (fun c1089 => ?_)
    · refine z_ki eL_law_1096 ?_
      refine zc_vi5 eL_law_1097 lL_122 tX11_people zs0 (by decide) (Nat.le_of_ble_eq_true rfl) (b_people h H _ _ _ _ _ (by decide) (by decide)) ?_
      rintro v1 h1 ⟨⟨e0, e1⟩, CM⟩ hv
      have e2 : h1 201 0 = h 201 0 := congrFun e1 0
      refine z_al2 eL_law_1100 ?_
      refine z_aldX eL_law_1101 rfl ?_
      refine z_il3 eL_law_1102 ?_
      refine z_ki eL_law_1103 ?_
      refine z_iaddN eL_law_1104 (by omega) (by omega) ?_
      refine z_sXN eL_law_1105 (j := i + 1) (by omega) (by omega) ?_
      refine z_aldX eL_law_1106 rfl ?_
      refine z_il3 eL_law_1107 ?_
      refine z_ki eL_law_1108 ?_
      refine z_iaddN eL_law_1109 (by omega) (by omega) ?_
      refine z_sXN eL_law_1110 (j := i + 2) (by omega) (by omega) ?_
      rw [e0]
      refine z_ieq eL_law_1111 rfl (fun c1111 => ?_) (fun c1111 => ?_)
      · refine z_ki eL_law_1118 ?_
        refine z_aldX eL_law_1119 rfl ?_
        refine z_il3 eL_law_1120 ?_
        refine z_ki eL_law_1121 ?_
        refine z_iaddN eL_law_1122 (by omega) (by omega) ?_
        refine z_sXN eL_law_1123 (j := i + 3) (by omega) (by omega) ?_
        refine z_aldX eL_law_1124 rfl ?_
        refine z_il3 eL_law_1125 ?_
        refine z_ki eL_law_1126 ?_
        refine z_iaddN eL_law_1127 (by omega) (by omega) ?_
        refine z_sXN eL_law_1128 (j := i + 4) (by omega) (by omega) ?_
        refine z_aldX eL_law_1129 rfl ?_
        refine z_il3 eL_law_1130 ?_
        refine z_ki eL_law_1131 ?_
        refine z_iaddN eL_law_1132 (by omega) (by omega) ?_
        refine z_sXN eL_law_1133 (j := i + 5) (by omega) (by omega) ?_
        rw [e0]
        refine z_ieq eL_law_1134 rfl (fun c1134 => ?_) (fun c1134 => ?_)
        · refine z_ki eL_law_1141 ?_
          try rw [e0]
          refine zc_vi5 eL_law_1142 lL_126 tX12_people zs117 (by decide) (Nat.le_of_ble_eq_true rfl) CM ?_
          rintro v2 h2 R hv2
          refine z_ceq eL_law_1145 rfl (fun c1145 => ?_) (fun c1145 => ?_)
          · exact KK h2 R.2.1 (R.2.2.2.2 N) R.2.2.1 R.2.2.2.1
          · exact absurd R.1 c1145
        · exact absurd c1089 c1134
      · exact absurd c1066 c1111
    · refine z_ki eL_law_1092 ?_
      refine z_goto eL_law_1093 rfl ?_
      refine zc_vi5 eL_law_1097 lL_122 tX11_people zs0 (by decide) (Nat.le_of_ble_eq_true rfl) (b_people h H _ _ _ _ _ (by decide) (by decide)) ?_
      rintro v1 h1 ⟨⟨e0, e1⟩, CM⟩ hv
      have e2 : h1 201 0 = h 201 0 := congrFun e1 0
      refine z_al2 eL_law_1100 ?_
      refine z_aldX eL_law_1101 rfl ?_
      refine z_il3 eL_law_1102 ?_
      refine z_ki eL_law_1103 ?_
      refine z_iaddN eL_law_1104 (by omega) (by omega) ?_
      refine z_sXN eL_law_1105 (j := i + 1) (by omega) (by omega) ?_
      refine z_aldX eL_law_1106 rfl ?_
      refine z_il3 eL_law_1107 ?_
      refine z_ki eL_law_1108 ?_
      refine z_iaddN eL_law_1109 (by omega) (by omega) ?_
      refine z_sXN eL_law_1110 (j := i + 2) (by omega) (by omega) ?_
      rw [e0]
      refine z_ieq eL_law_1111 rfl (fun c1111 => ?_) (fun c1111 => ?_)
      · refine z_ki eL_law_1118 ?_
        refine z_aldX eL_law_1119 rfl ?_
        refine z_il3 eL_law_1120 ?_
        refine z_ki eL_law_1121 ?_
        refine z_iaddN eL_law_1122 (by omega) (by omega) ?_
        refine z_sXN eL_law_1123 (j := i + 3) (by omega) (by omega) ?_
        refine z_aldX eL_law_1124 rfl ?_
        refine z_il3 eL_law_1125 ?_
        refine z_ki eL_law_1126 ?_
        refine z_iaddN eL_law_1127 (by omega) (by omega) ?_
        refine z_sXN eL_law_1128 (j := i + 4) (by omega) (by omega) ?_
        refine z_aldX eL_law_1129 rfl ?_
        refine z_il3 eL_law_1130 ?_
        refine z_ki eL_law_1131 ?_
        refine z_iaddN eL_law_1132 (by omega) (by omega) ?_
        refine z_sXN eL_law_1133 (j := i + 5) (by omega) (by omega) ?_
        rw [e0]
        refine z_ieq eL_law_1134 rfl (fun c1134 => ?_) (fun c1134 => ?_)
        · exact absurd c1134 c1089
        · refine z_ki eL_law_1137 ?_
          refine z_goto eL_law_1138 rfl ?_
          try rw [e0]
          refine zc_vi5 eL_law_1142 lL_126 tX12_people zs117 (by decide) (Nat.le_of_ble_eq_true rfl) CM ?_
          rintro v2 h2 R hv2
          refine z_ceq eL_law_1145 rfl (fun c1145 => ?_) (fun c1145 => ?_)
          · exact KK h2 R.2.1 (R.2.2.2.2 N) R.2.2.1 R.2.2.2.1
          · exact absurd R.1 c1145
      · exact absurd c1066 c1111
  · refine z_ki eL_law_1069 ?_
    refine z_goto eL_law_1070 rfl ?_
    refine z_aldX eL_law_1074 rfl ?_
    refine z_il3 eL_law_1075 ?_
    refine z_ki eL_law_1076 ?_
    refine z_iaddN eL_law_1077 (by omega) (by omega) ?_
    refine z_sXN eL_law_1078 (j := i + 3) (by omega) (by omega) ?_
    refine z_aldX eL_law_1079 rfl ?_
    refine z_il3 eL_law_1080 ?_
    refine z_ki eL_law_1081 ?_
    refine z_iaddN eL_law_1082 (by omega) (by omega) ?_
    refine z_sXN eL_law_1083 (j := i + 4) (by omega) (by omega) ?_
    refine z_aldX eL_law_1084 rfl ?_
    refine z_il3 eL_law_1085 ?_
    refine z_ki eL_law_1086 ?_
    refine z_iaddN eL_law_1087 (by omega) (by omega) ?_
    refine z_sXN eL_law_1088 (j := i + 5) (by omega) (by omega) ?_
    refine z_ieq eL_law_1089 rfl (fun c1089 => ?_) (fun c1089 => ?_)
    · refine z_ki eL_law_1096 ?_
      refine zc_vi5 eL_law_1097 lL_122 tX11_people zs0 (by decide) (Nat.le_of_ble_eq_true rfl) (b_people h H _ _ _ _ _ (by decide) (by decide)) ?_
      rintro v1 h1 ⟨⟨e0, e1⟩, CM⟩ hv
      have e2 : h1 201 0 = h 201 0 := congrFun e1 0
      refine z_al2 eL_law_1100 ?_
      refine z_aldX eL_law_1101 rfl ?_
      refine z_il3 eL_law_1102 ?_
      refine z_ki eL_law_1103 ?_
      refine z_iaddN eL_law_1104 (by omega) (by omega) ?_
      refine z_sXN eL_law_1105 (j := i + 1) (by omega) (by omega) ?_
      refine z_aldX eL_law_1106 rfl ?_
      refine z_il3 eL_law_1107 ?_
      refine z_ki eL_law_1108 ?_
      refine z_iaddN eL_law_1109 (by omega) (by omega) ?_
      refine z_sXN eL_law_1110 (j := i + 2) (by omega) (by omega) ?_
      rw [e0]
      refine z_ieq eL_law_1111 rfl (fun c1111 => ?_) (fun c1111 => ?_)
      · exact absurd c1111 c1066
      · refine z_ki eL_law_1114 ?_
        refine z_goto eL_law_1115 rfl ?_
        refine z_aldX eL_law_1119 rfl ?_
        refine z_il3 eL_law_1120 ?_
        refine z_ki eL_law_1121 ?_
        refine z_iaddN eL_law_1122 (by omega) (by omega) ?_
        refine z_sXN eL_law_1123 (j := i + 3) (by omega) (by omega) ?_
        refine z_aldX eL_law_1124 rfl ?_
        refine z_il3 eL_law_1125 ?_
        refine z_ki eL_law_1126 ?_
        refine z_iaddN eL_law_1127 (by omega) (by omega) ?_
        refine z_sXN eL_law_1128 (j := i + 4) (by omega) (by omega) ?_
        refine z_aldX eL_law_1129 rfl ?_
        refine z_il3 eL_law_1130 ?_
        refine z_ki eL_law_1131 ?_
        refine z_iaddN eL_law_1132 (by omega) (by omega) ?_
        refine z_sXN eL_law_1133 (j := i + 5) (by omega) (by omega) ?_
        rw [e0]
        refine z_ieq eL_law_1134 rfl (fun c1134 => ?_) (fun c1134 => ?_)
        · refine z_ki eL_law_1141 ?_
          try rw [e0]
          refine zc_vi5 eL_law_1142 lL_126 tX12_people zs117 (by decide) (Nat.le_of_ble_eq_true rfl) CM ?_
          rintro v2 h2 R hv2
          refine z_ceq eL_law_1145 rfl (fun c1145 => ?_) (fun c1145 => ?_)
          · exact KK h2 R.2.1 (R.2.2.2.2 N) R.2.2.1 R.2.2.2.1
          · exact absurd R.1 c1145
        · exact absurd c1089 c1134
    · refine z_ki eL_law_1092 ?_
      refine z_goto eL_law_1093 rfl ?_
      refine zc_vi5 eL_law_1097 lL_122 tX11_people zs0 (by decide) (Nat.le_of_ble_eq_true rfl) (b_people h H _ _ _ _ _ (by decide) (by decide)) ?_
      rintro v1 h1 ⟨⟨e0, e1⟩, CM⟩ hv
      have e2 : h1 201 0 = h 201 0 := congrFun e1 0
      refine z_al2 eL_law_1100 ?_
      refine z_aldX eL_law_1101 rfl ?_
      refine z_il3 eL_law_1102 ?_
      refine z_ki eL_law_1103 ?_
      refine z_iaddN eL_law_1104 (by omega) (by omega) ?_
      refine z_sXN eL_law_1105 (j := i + 1) (by omega) (by omega) ?_
      refine z_aldX eL_law_1106 rfl ?_
      refine z_il3 eL_law_1107 ?_
      refine z_ki eL_law_1108 ?_
      refine z_iaddN eL_law_1109 (by omega) (by omega) ?_
      refine z_sXN eL_law_1110 (j := i + 2) (by omega) (by omega) ?_
      rw [e0]
      refine z_ieq eL_law_1111 rfl (fun c1111 => ?_) (fun c1111 => ?_)
      · exact absurd c1111 c1066
      · refine z_ki eL_law_1114 ?_
        refine z_goto eL_law_1115 rfl ?_
        refine z_aldX eL_law_1119 rfl ?_
        refine z_il3 eL_law_1120 ?_
        refine z_ki eL_law_1121 ?_
        refine z_iaddN eL_law_1122 (by omega) (by omega) ?_
        refine z_sXN eL_law_1123 (j := i + 3) (by omega) (by omega) ?_
        refine z_aldX eL_law_1124 rfl ?_
        refine z_il3 eL_law_1125 ?_
        refine z_ki eL_law_1126 ?_
        refine z_iaddN eL_law_1127 (by omega) (by omega) ?_
        refine z_sXN eL_law_1128 (j := i + 4) (by omega) (by omega) ?_
        refine z_aldX eL_law_1129 rfl ?_
        refine z_il3 eL_law_1130 ?_
        refine z_ki eL_law_1131 ?_
        refine z_iaddN eL_law_1132 (by omega) (by omega) ?_
        refine z_sXN eL_law_1133 (j := i + 5) (by omega) (by omega) ?_
        rw [e0]
        refine z_ieq eL_law_1134 rfl (fun c1134 => ?_) (fun c1134 => ?_)
        · exact absurd c1134 c1089
        · refine z_ki eL_law_1137 ?_
          refine z_goto eL_law_1138 rfl ?_
          try rw [e0]
          refine zc_vi5 eL_law_1142 lL_126 tX12_people zs117 (by decide) (Nat.le_of_ble_eq_true rfl) CM ?_
          rintro v2 h2 R hv2
          refine z_ceq eL_law_1145 rfl (fun c1145 => ?_) (fun c1145 => ?_)
          · exact KK h2 R.2.1 (R.2.2.2.2 N) R.2.2.1 R.2.2.2.1
          · exact absurd R.1 c1145
theorem l_25 (h : zHp) (H : Rel h) (N : nB h) (i : Nat) (hi : (i : Int) + 6 ≤ h 201 0) (hM : h 201 0 ≤ 3072) {Q : Option zV → Nat → zHp → Prop} (KK : ∀ g : zHp, Rel g → nB g → g 200 = h 200 → g 201 = h 201 → zRW mL_law 42 (0, 0) 1528 [zX, zA 0, zA 117, zI (i : Int)] [] 143 g Q) : zRW mL_law 42 (0, 0) 1150 [zX, zA 0, zA 117, zI (i : Int)] [] 143 h Q := by
  refine z_al1 eL_law_1150 ?_
  refine z_aldX eL_law_1151 rfl ?_
  refine z_il3 eL_law_1152 ?_
  refine z_ki eL_law_1153 ?_
  refine z_iaddN eL_law_1154 (by omega) (by omega) ?_
  refine z_sXN eL_law_1155 (j := i + 1) (by omega) (by omega) ?_
  refine zc_vi1 eL_law_1156 lL_127 tX11_found zs0 (by decide) (Nat.le_of_ble_eq_true rfl) (b_found h H _) ?_
  rintro v1 h1 ⟨⟨e0, e1⟩, CM⟩ hv
  have e2 : h1 201 0 = h 201 0 := congrFun e1 0
  refine z_al2 eL_law_1159 ?_
  refine z_aldX eL_law_1160 rfl ?_
  refine z_il3 eL_law_1161 ?_
  refine z_ki eL_law_1162 ?_
  refine z_iaddN eL_law_1163 (by omega) (by omega) ?_
  refine z_sXN eL_law_1164 (j := i + 1) (by omega) (by omega) ?_
  rw [e0]
  refine zc_vi1 eL_law_1165 lL_130 tX12_found zs117 (by decide) (Nat.le_of_ble_eq_true rfl) CM ?_
  rintro v2 h2 R hv2
  refine z_ceq eL_law_1168 rfl (fun c1168 => ?_) (fun c1168 => ?_)
  · exact KK h2 R.2.1 (R.2.2.2.2 N) R.2.2.1 R.2.2.2.1
  · exact absurd R.1 c1168
theorem l_26 (h : zHp) (H : Rel h) (N : nB h) (i : Nat) (hi : (i : Int) + 6 ≤ h 201 0) (hM : h 201 0 ≤ 3072) {Q : Option zV → Nat → zHp → Prop} (KK : ∀ g : zHp, Rel g → nB g → g 200 = h 200 → g 201 = h 201 → zRW mL_law 42 (0, 0) 1528 [zX, zA 0, zA 117, zI (i : Int)] [] 143 g Q) : zRW mL_law 42 (0, 0) 1173 [zX, zA 0, zA 117, zI (i : Int)] [] 143 h Q := by
  refine z_al1 eL_law_1173 ?_
  refine z_aldX eL_law_1174 rfl ?_
  refine z_il3 eL_law_1175 ?_
  refine z_ki eL_law_1176 ?_
  refine z_iaddN eL_law_1177 (by omega) (by omega) ?_
  refine z_sXN eL_law_1178 (j := i + 1) (by omega) (by omega) ?_
  refine zc_vi1 eL_law_1179 lL_131 tX11_moved zs0 (by decide) (Nat.le_of_ble_eq_true rfl) (b_moved h H _) ?_
  rintro v1 h1 ⟨⟨e0, e1⟩, CM⟩ hv
  have e2 : h1 201 0 = h 201 0 := congrFun e1 0
  refine z_al2 eL_law_1182 ?_
  refine z_aldX eL_law_1183 rfl ?_
  refine z_il3 eL_law_1184 ?_
  refine z_ki eL_law_1185 ?_
  refine z_iaddN eL_law_1186 (by omega) (by omega) ?_
  refine z_sXN eL_law_1187 (j := i + 1) (by omega) (by omega) ?_
  rw [e0]
  refine zc_vi1 eL_law_1188 lL_134 tX12_moved zs117 (by decide) (Nat.le_of_ble_eq_true rfl) CM ?_
  rintro v2 h2 R hv2
  refine z_ceq eL_law_1191 rfl (fun c1191 => ?_) (fun c1191 => ?_)
  · exact KK h2 R.2.1 (R.2.2.2.2 N) R.2.2.1 R.2.2.2.1
  · exact absurd R.1 c1191
theorem l_27 (h : zHp) (H : Rel h) (N : nB h) (i : Nat) (hi : (i : Int) + 6 ≤ h 201 0) (hM : h 201 0 ≤ 3072) {Q : Option zV → Nat → zHp → Prop} (KK : ∀ g : zHp, Rel g → nB g → g 200 = h 200 → g 201 = h 201 → zRW mL_law 42 (0, 0) 1528 [zX, zA 0, zA 117, zI (i : Int)] [] 143 g Q) : zRW mL_law 42 (0, 0) 1196 [zX, zA 0, zA 117, zI (i : Int)] [] 143 h Q := by
  refine z_al1 eL_law_1196 ?_
  refine z_aldX eL_law_1197 rfl ?_
  refine z_il3 eL_law_1198 ?_
  refine z_ki eL_law_1199 ?_
  refine z_iaddN eL_law_1200 (by omega) (by omega) ?_
  refine z_sXN eL_law_1201 (j := i + 1) (by omega) (by omega) ?_
  refine zc_vi1 eL_law_1202 lL_135 tX11_safe zs0 (by decide) (Nat.le_of_ble_eq_true rfl) (b_safe h H _) ?_
  rintro v1 h1 ⟨⟨e0, e1⟩, CM⟩ hv
  have e2 : h1 201 0 = h 201 0 := congrFun e1 0
  refine z_al2 eL_law_1205 ?_
  refine z_aldX eL_law_1206 rfl ?_
  refine z_il3 eL_law_1207 ?_
  refine z_ki eL_law_1208 ?_
  refine z_iaddN eL_law_1209 (by omega) (by omega) ?_
  refine z_sXN eL_law_1210 (j := i + 1) (by omega) (by omega) ?_
  rw [e0]
  refine zc_vi1 eL_law_1211 lL_138 tX12_safe zs117 (by decide) (Nat.le_of_ble_eq_true rfl) CM ?_
  rintro v2 h2 R hv2
  refine z_ceq eL_law_1214 rfl (fun c1214 => ?_) (fun c1214 => ?_)
  · exact KK h2 R.2.1 (R.2.2.2.2 N) R.2.2.1 R.2.2.2.1
  · exact absurd R.1 c1214
theorem l_28 (h : zHp) (H : Rel h) (N : nB h) (i : Nat) (hi : (i : Int) + 6 ≤ h 201 0) (hM : h 201 0 ≤ 3072) {Q : Option zV → Nat → zHp → Prop} (KK : ∀ g : zHp, Rel g → nB g → g 200 = h 200 → g 201 = h 201 → zRW mL_law 42 (0, 0) 1528 [zX, zA 0, zA 117, zI (i : Int)] [] 143 g Q) : zRW mL_law 42 (0, 0) 1219 [zX, zA 0, zA 117, zI (i : Int)] [] 143 h Q := by
  refine z_al1 eL_law_1219 ?_
  refine z_aldX eL_law_1220 rfl ?_
  refine z_il3 eL_law_1221 ?_
  refine z_ki eL_law_1222 ?_
  refine z_iaddN eL_law_1223 (by omega) (by omega) ?_
  refine z_sXN eL_law_1224 (j := i + 1) (by omega) (by omega) ?_
  refine zc_vi1 eL_law_1225 lL_139 tX11_parted zs0 (by decide) (Nat.le_of_ble_eq_true rfl) (b_parted h H _) ?_
  rintro v1 h1 ⟨⟨e0, e1⟩, CM⟩ hv
  have e2 : h1 201 0 = h 201 0 := congrFun e1 0
  refine z_al2 eL_law_1228 ?_
  refine z_aldX eL_law_1229 rfl ?_
  refine z_il3 eL_law_1230 ?_
  refine z_ki eL_law_1231 ?_
  refine z_iaddN eL_law_1232 (by omega) (by omega) ?_
  refine z_sXN eL_law_1233 (j := i + 1) (by omega) (by omega) ?_
  rw [e0]
  refine zc_vi1 eL_law_1234 lL_142 tX12_parted zs117 (by decide) (Nat.le_of_ble_eq_true rfl) CM ?_
  rintro v2 h2 R hv2
  refine z_ceq eL_law_1237 rfl (fun c1237 => ?_) (fun c1237 => ?_)
  · exact KK h2 R.2.1 (R.2.2.2.2 N) R.2.2.1 R.2.2.2.1
  · exact absurd R.1 c1237
theorem l_29 (h : zHp) (H : Rel h) (N : nB h) (i : Nat) (hi : (i : Int) + 6 ≤ h 201 0) (hM : h 201 0 ≤ 3072) {Q : Option zV → Nat → zHp → Prop} (KK : ∀ g : zHp, Rel g → nB g → g 200 = h 200 → g 201 = h 201 → zRW mL_law 42 (0, 0) 1528 [zX, zA 0, zA 117, zI (i : Int)] [] 143 g Q) : zRW mL_law 42 (0, 0) 1242 [zX, zA 0, zA 117, zI (i : Int)] [] 143 h Q := by
  refine z_al1 eL_law_1242 ?_
  refine z_aldX eL_law_1243 rfl ?_
  refine z_il3 eL_law_1244 ?_
  refine z_ki eL_law_1245 ?_
  refine z_iaddN eL_law_1246 (by omega) (by omega) ?_
  refine z_sXN eL_law_1247 (j := i + 1) (by omega) (by omega) ?_
  refine zc_vi1 eL_law_1248 lL_143 tX11_parting zs0 (by decide) (Nat.le_of_ble_eq_true rfl) (b_parting h H _) ?_
  rintro v1 h1 ⟨⟨e0, e1⟩, CM⟩ hv
  have e2 : h1 201 0 = h 201 0 := congrFun e1 0
  refine z_al2 eL_law_1251 ?_
  refine z_aldX eL_law_1252 rfl ?_
  refine z_il3 eL_law_1253 ?_
  refine z_ki eL_law_1254 ?_
  refine z_iaddN eL_law_1255 (by omega) (by omega) ?_
  refine z_sXN eL_law_1256 (j := i + 1) (by omega) (by omega) ?_
  rw [e0]
  refine zc_vi1 eL_law_1257 lL_146 tX12_parting zs117 (by decide) (Nat.le_of_ble_eq_true rfl) CM ?_
  rintro v2 h2 R hv2
  refine z_ceq eL_law_1260 rfl (fun c1260 => ?_) (fun c1260 => ?_)
  · exact KK h2 R.2.1 (R.2.2.2.2 N) R.2.2.1 R.2.2.2.1
  · exact absurd R.1 c1260
theorem l_30 (h : zHp) (H : Rel h) (N : nB h) (i : Nat) (hi : (i : Int) + 6 ≤ h 201 0) (hM : h 201 0 ≤ 3072) {Q : Option zV → Nat → zHp → Prop} (KK : ∀ g : zHp, Rel g → nB g → g 200 = h 200 → g 201 = h 201 → zRW mL_law 42 (0, 0) 1528 [zX, zA 0, zA 117, zI (i : Int)] [] 143 g Q) : zRW mL_law 42 (0, 0) 1265 [zX, zA 0, zA 117, zI (i : Int)] [] 143 h Q := by
  refine z_al1 eL_law_1265 ?_
  refine zc_vi0 eL_law_1266 lL_147 tX11_cousins zs0 (by decide) (Nat.le_of_ble_eq_true rfl) (b_cousins h H) ?_
  rintro v1 h1 ⟨⟨e0, e1⟩, CM⟩ hv
  have e2 : h1 201 0 = h 201 0 := congrFun e1 0
  refine z_al2 eL_law_1269 ?_
  refine zc_vi0 eL_law_1270 lL_150 tX12_cousins zs117 (by decide) (Nat.le_of_ble_eq_true rfl) CM ?_
  rintro v2 h2 R hv2
  refine z_ceq eL_law_1273 rfl (fun c1273 => ?_) (fun c1273 => ?_)
  · exact KK h2 R.2.1 (R.2.2.2.2 N) R.2.2.1 R.2.2.2.1
  · exact absurd R.1 c1273
theorem l_31 (h : zHp) (H : Rel h) (N : nB h) (i : Nat) (hi : (i : Int) + 6 ≤ h 201 0) (hM : h 201 0 ≤ 3072) {Q : Option zV → Nat → zHp → Prop} (KK : ∀ g : zHp, Rel g → nB g → g 200 = h 200 → g 201 = h 201 → zRW mL_law 42 (0, 0) 1528 [zX, zA 0, zA 117, zI (i : Int)] [] 143 g Q) : zRW mL_law 42 (0, 0) 1278 [zX, zA 0, zA 117, zI (i : Int)] [] 143 h Q := by
  refine z_al1 eL_law_1278 ?_
  refine z_aldX eL_law_1279 rfl ?_
  refine z_il3 eL_law_1280 ?_
  refine z_ki eL_law_1281 ?_
  refine z_iaddN eL_law_1282 (by omega) (by omega) ?_
  refine z_sXN eL_law_1283 (j := i + 1) (by omega) (by omega) ?_
  refine z_aldX eL_law_1284 rfl ?_
  refine z_il3 eL_law_1285 ?_
  refine z_ki eL_law_1286 ?_
  refine z_iaddN eL_law_1287 (by omega) (by omega) ?_
  refine z_sXN eL_law_1288 (j := i + 2) (by omega) (by omega) ?_
  refine zc_vi2 eL_law_1289 lL_151 tX11_alike zs0 (by decide) (Nat.le_of_ble_eq_true rfl) (b_alike h H _ _) ?_
  rintro v1 h1 ⟨⟨e0, e1⟩, CM⟩ hv
  have e2 : h1 201 0 = h 201 0 := congrFun e1 0
  refine z_al2 eL_law_1292 ?_
  refine z_aldX eL_law_1293 rfl ?_
  refine z_il3 eL_law_1294 ?_
  refine z_ki eL_law_1295 ?_
  refine z_iaddN eL_law_1296 (by omega) (by omega) ?_
  refine z_sXN eL_law_1297 (j := i + 1) (by omega) (by omega) ?_
  refine z_aldX eL_law_1298 rfl ?_
  refine z_il3 eL_law_1299 ?_
  refine z_ki eL_law_1300 ?_
  refine z_iaddN eL_law_1301 (by omega) (by omega) ?_
  refine z_sXN eL_law_1302 (j := i + 2) (by omega) (by omega) ?_
  rw [e0]
  refine zc_vi2 eL_law_1303 lL_154 tX12_alike zs117 (by decide) (Nat.le_of_ble_eq_true rfl) CM ?_
  rintro v2 h2 R hv2
  refine z_ceq eL_law_1306 rfl (fun c1306 => ?_) (fun c1306 => ?_)
  · exact KK h2 R.2.1 (R.2.2.2.2 N) R.2.2.1 R.2.2.2.1
  · exact absurd R.1 c1306
theorem l_32 (h : zHp) (H : Rel h) (N : nB h) (i : Nat) (hi : (i : Int) + 6 ≤ h 201 0) (hM : h 201 0 ≤ 3072) {Q : Option zV → Nat → zHp → Prop} (KK : ∀ g : zHp, Rel g → nB g → g 200 = h 200 → g 201 = h 201 → zRW mL_law 42 (0, 0) 1528 [zX, zA 0, zA 117, zI (i : Int)] [] 143 g Q) : zRW mL_law 42 (0, 0) 1311 [zX, zA 0, zA 117, zI (i : Int)] [] 143 h Q := by
  refine z_al1 eL_law_1311 ?_
  refine z_aldX eL_law_1312 rfl ?_
  refine z_il3 eL_law_1313 ?_
  refine z_ki eL_law_1314 ?_
  refine z_iaddN eL_law_1315 (by omega) (by omega) ?_
  refine z_sXN eL_law_1316 (j := i + 1) (by omega) (by omega) ?_
  refine z_aldX eL_law_1317 rfl ?_
  refine z_il3 eL_law_1318 ?_
  refine z_ki eL_law_1319 ?_
  refine z_iaddN eL_law_1320 (by omega) (by omega) ?_
  refine z_sXN eL_law_1321 (j := i + 2) (by omega) (by omega) ?_
  refine z_aldX eL_law_1322 rfl ?_
  refine z_il3 eL_law_1323 ?_
  refine z_ki eL_law_1324 ?_
  refine z_iaddN eL_law_1325 (by omega) (by omega) ?_
  refine z_sXN eL_law_1326 (j := i + 3) (by omega) (by omega) ?_
  refine z_aldX eL_law_1327 rfl ?_
  refine z_il3 eL_law_1328 ?_
  refine z_ki eL_law_1329 ?_
  refine z_iaddN eL_law_1330 (by omega) (by omega) ?_
  refine z_sXN eL_law_1331 (j := i + 4) (by omega) (by omega) ?_
  refine zc_vi4 eL_law_1332 lL_155 tX11_game zs0 (by decide) (Nat.le_of_ble_eq_true rfl) (b_game h H _ _ _ _) ?_
  rintro v1 h1 ⟨⟨e0, e1⟩, CM⟩ hv
  have e2 : h1 201 0 = h 201 0 := congrFun e1 0
  refine z_al2 eL_law_1335 ?_
  refine z_aldX eL_law_1336 rfl ?_
  refine z_il3 eL_law_1337 ?_
  refine z_ki eL_law_1338 ?_
  refine z_iaddN eL_law_1339 (by omega) (by omega) ?_
  refine z_sXN eL_law_1340 (j := i + 1) (by omega) (by omega) ?_
  refine z_aldX eL_law_1341 rfl ?_
  refine z_il3 eL_law_1342 ?_
  refine z_ki eL_law_1343 ?_
  refine z_iaddN eL_law_1344 (by omega) (by omega) ?_
  refine z_sXN eL_law_1345 (j := i + 2) (by omega) (by omega) ?_
  refine z_aldX eL_law_1346 rfl ?_
  refine z_il3 eL_law_1347 ?_
  refine z_ki eL_law_1348 ?_
  refine z_iaddN eL_law_1349 (by omega) (by omega) ?_
  refine z_sXN eL_law_1350 (j := i + 3) (by omega) (by omega) ?_
  refine z_aldX eL_law_1351 rfl ?_
  refine z_il3 eL_law_1352 ?_
  refine z_ki eL_law_1353 ?_
  refine z_iaddN eL_law_1354 (by omega) (by omega) ?_
  refine z_sXN eL_law_1355 (j := i + 4) (by omega) (by omega) ?_
  rw [e0]
  refine zc_vi4 eL_law_1356 lL_159 tX12_game zs117 (by decide) (Nat.le_of_ble_eq_true rfl) CM ?_
  rintro v2 h2 R hv2
  refine z_ceq eL_law_1359 rfl (fun c1359 => ?_) (fun c1359 => ?_)
  · exact KK h2 R.2.1 (R.2.2.2.2 N) R.2.2.1 R.2.2.2.1
  · exact absurd R.1 c1359
theorem l_33 (h : zHp) (H : Rel h) (N : nB h) (hz : h 117 62 = 0 ∨ h 117 62 = 1) (i : Nat) (hi : (i : Int) + 6 ≤ h 201 0) (hM : h 201 0 ≤ 3072) {Q : Option zV → Nat → zHp → Prop} (KK : ∀ g : zHp, Rel g → nB g → g 200 = h 200 → g 201 = h 201 → zRW mL_law 42 (0, 0) 1528 [zX, zA 0, zA 117, zI (i : Int)] [] 143 g Q) : zRW mL_law 42 (0, 0) 1364 [zX, zA 0, zA 117, zI (i : Int)] [] 143 h Q := by
  refine z_al1 eL_law_1364 ?_
  refine zc_vi0 eL_law_1365 lL_160 tX11_opening zs0 (by decide) (Nat.le_of_ble_eq_true rfl) (b_opening h H hz) ?_
  rintro v1 h1 ⟨⟨e0, e1⟩, CM⟩ hv
  have e2 : h1 201 0 = h 201 0 := congrFun e1 0
  refine z_al2 eL_law_1368 ?_
  refine zc_vi0 eL_law_1369 lL_163 tX12_opening zs117 (by decide) (Nat.le_of_ble_eq_true rfl) CM ?_
  rintro v2 h2 R hv2
  refine z_ceq eL_law_1372 rfl (fun c1372 => ?_) (fun c1372 => ?_)
  · exact KK h2 R.2.1 (R.2.2.2.2 N) R.2.2.1 R.2.2.2.1
  · exact absurd R.1 c1372
theorem l_34 (h : zHp) (H : Rel h) (N : nB h) (i : Nat) (hi : (i : Int) + 6 ≤ h 201 0) (hM : h 201 0 ≤ 3072) {Q : Option zV → Nat → zHp → Prop} (KK : ∀ g : zHp, Rel g → nB g → g 200 = h 200 → g 201 = h 201 → zRW mL_law 42 (0, 0) 1528 [zX, zA 0, zA 117, zI (i : Int)] [] 143 g Q) : zRW mL_law 42 (0, 0) 1377 [zX, zA 0, zA 117, zI (i : Int)] [] 143 h Q := by
  refine z_al1 eL_law_1377 ?_
  refine z_aldX eL_law_1378 rfl ?_
  refine z_il3 eL_law_1379 ?_
  refine z_ki eL_law_1380 ?_
  refine z_iaddN eL_law_1381 (by omega) (by omega) ?_
  refine z_sXN eL_law_1382 (j := i + 1) (by omega) (by omega) ?_
  refine z_aldX eL_law_1383 rfl ?_
  refine z_il3 eL_law_1384 ?_
  refine z_ki eL_law_1385 ?_
  refine z_iaddN eL_law_1386 (by omega) (by omega) ?_
  refine z_sXN eL_law_1387 (j := i + 2) (by omega) (by omega) ?_
  refine zc_vi2 eL_law_1388 lL_164 tX11_doubt zs0 (by decide) (Nat.le_of_ble_eq_true rfl) (b_doubt h H _ _) ?_
  rintro v1 h1 ⟨⟨e0, e1⟩, CM⟩ hv
  have e2 : h1 201 0 = h 201 0 := congrFun e1 0
  refine z_al2 eL_law_1391 ?_
  refine z_aldX eL_law_1392 rfl ?_
  refine z_il3 eL_law_1393 ?_
  refine z_ki eL_law_1394 ?_
  refine z_iaddN eL_law_1395 (by omega) (by omega) ?_
  refine z_sXN eL_law_1396 (j := i + 1) (by omega) (by omega) ?_
  refine z_aldX eL_law_1397 rfl ?_
  refine z_il3 eL_law_1398 ?_
  refine z_ki eL_law_1399 ?_
  refine z_iaddN eL_law_1400 (by omega) (by omega) ?_
  refine z_sXN eL_law_1401 (j := i + 2) (by omega) (by omega) ?_
  rw [e0]
  refine zc_vi2 eL_law_1402 lL_168 tX12_doubt zs117 (by decide) (Nat.le_of_ble_eq_true rfl) CM ?_
  rintro v2 h2 R hv2
  refine z_ceq eL_law_1405 rfl (fun c1405 => ?_) (fun c1405 => ?_)
  · exact KK h2 R.2.1 (R.2.2.2.2 N) R.2.2.1 R.2.2.2.1
  · exact absurd R.1 c1405
theorem l_35 (h : zHp) (H : Rel h) (N : nB h) (i : Nat) (hi : (i : Int) + 6 ≤ h 201 0) (hM : h 201 0 ≤ 3072) {Q : Option zV → Nat → zHp → Prop} (KK : ∀ g : zHp, Rel g → nB g → g 200 = h 200 → g 201 = h 201 → zRW mL_law 42 (0, 0) 1528 [zX, zA 0, zA 117, zI (i : Int)] [] 143 g Q) : zRW mL_law 42 (0, 0) 1410 [zX, zA 0, zA 117, zI (i : Int)] [] 143 h Q := by
  refine z_al1 eL_law_1410 ?_
  refine z_aldX eL_law_1411 rfl ?_
  refine z_il3 eL_law_1412 ?_
  refine z_ki eL_law_1413 ?_
  refine z_iaddN eL_law_1414 (by omega) (by omega) ?_
  refine z_sXN eL_law_1415 (j := i + 1) (by omega) (by omega) ?_
  refine z_aldX eL_law_1416 rfl ?_
  refine z_il3 eL_law_1417 ?_
  refine z_ki eL_law_1418 ?_
  refine z_iaddN eL_law_1419 (by omega) (by omega) ?_
  refine z_sXN eL_law_1420 (j := i + 2) (by omega) (by omega) ?_
  refine zc_vi2 eL_law_1421 lL_169 tX11_seldom zs0 (by decide) (Nat.le_of_ble_eq_true rfl) (b_seldom h H _ _) ?_
  rintro v1 h1 ⟨⟨e0, e1⟩, CM⟩ hv
  have e2 : h1 201 0 = h 201 0 := congrFun e1 0
  refine z_al2 eL_law_1424 ?_
  refine z_aldX eL_law_1425 rfl ?_
  refine z_il3 eL_law_1426 ?_
  refine z_ki eL_law_1427 ?_
  refine z_iaddN eL_law_1428 (by omega) (by omega) ?_
  refine z_sXN eL_law_1429 (j := i + 1) (by omega) (by omega) ?_
  refine z_aldX eL_law_1430 rfl ?_
  refine z_il3 eL_law_1431 ?_
  refine z_ki eL_law_1432 ?_
  refine z_iaddN eL_law_1433 (by omega) (by omega) ?_
  refine z_sXN eL_law_1434 (j := i + 2) (by omega) (by omega) ?_
  rw [e0]
  refine zc_vi2 eL_law_1435 lL_172 tX12_seldom zs117 (by decide) (Nat.le_of_ble_eq_true rfl) CM ?_
  rintro v2 h2 R hv2
  refine z_ceq eL_law_1438 rfl (fun c1438 => ?_) (fun c1438 => ?_)
  · exact KK h2 R.2.1 (R.2.2.2.2 N) R.2.2.1 R.2.2.2.1
  · exact absurd R.1 c1438
theorem l_36 (h : zHp) (H : Rel h) (N : nB h) (hby : ∀ i : Nat, i < 700 → -128 ≤ h 3 i ∧ h 3 i ≤ 127) (i : Nat) (hi : (i : Int) + 6 ≤ h 201 0) (hM : h 201 0 ≤ 3072) {Q : Option zV → Nat → zHp → Prop} (KK : ∀ g : zHp, Rel g → nB g → g 200 = h 200 → g 201 = h 201 → zRW mL_law 42 (0, 0) 1528 [zX, zA 0, zA 117, zI (i : Int)] [] 143 g Q) : zRW mL_law 42 (0, 0) 1443 [zX, zA 0, zA 117, zI (i : Int)] [] 143 h Q := by
  refine z_al1 eL_law_1443 ?_
  refine z_aldX eL_law_1444 rfl ?_
  refine z_il3 eL_law_1445 ?_
  refine z_ki eL_law_1446 ?_
  refine z_iaddN eL_law_1447 (by omega) (by omega) ?_
  refine z_sXN eL_law_1448 (j := i + 1) (by omega) (by omega) ?_
  refine zc_vi1 eL_law_1449 lL_173 tX11_acts zs0 (by decide) (Nat.le_of_ble_eq_true rfl) (b_acts h H N hby _) ?_
  rintro v1 h1 ⟨⟨e0, e1⟩, CM⟩ hv
  have e2 : h1 201 0 = h 201 0 := congrFun e1 0
  refine z_al2 eL_law_1452 ?_
  refine z_aldX eL_law_1453 rfl ?_
  refine z_il3 eL_law_1454 ?_
  refine z_ki eL_law_1455 ?_
  refine z_iaddN eL_law_1456 (by omega) (by omega) ?_
  refine z_sXN eL_law_1457 (j := i + 1) (by omega) (by omega) ?_
  rw [e0]
  refine zc_vi1 eL_law_1458 lL_176 tX12_acts zs117 (by decide) (Nat.le_of_ble_eq_true rfl) CM ?_
  rintro v2 h2 R hv2
  refine z_ceq eL_law_1461 rfl (fun c1461 => ?_) (fun c1461 => ?_)
  · exact KK h2 R.2.1 (R.2.2.2.2 N) R.2.2.1 R.2.2.2.1
  · exact absurd R.1 c1461
theorem l_37 (h : zHp) (H : Rel h) (N : nB h) (i : Nat) (hi : (i : Int) + 6 ≤ h 201 0) (hM : h 201 0 ≤ 3072) {Q : Option zV → Nat → zHp → Prop} (KK : ∀ g : zHp, Rel g → nB g → g 200 = h 200 → g 201 = h 201 → zRW mL_law 42 (0, 0) 1528 [zX, zA 0, zA 117, zI (i : Int)] [] 143 g Q) : zRW mL_law 42 (0, 0) 1466 [zX, zA 0, zA 117, zI (i : Int)] [] 143 h Q := by
  refine z_al1 eL_law_1466 ?_
  refine zc_vi0 eL_law_1467 lL_177 tX11_act zs0 (by decide) (Nat.le_of_ble_eq_true rfl) (b_act h H) ?_
  rintro v1 h1 ⟨⟨e0, e1⟩, CM⟩ hv
  have e2 : h1 201 0 = h 201 0 := congrFun e1 0
  refine z_al2 eL_law_1470 ?_
  refine zc_vi0 eL_law_1471 lL_180 tX12_act zs117 (by decide) (Nat.le_of_ble_eq_true rfl) CM ?_
  rintro v2 h2 R hv2
  refine z_ceq eL_law_1474 rfl (fun c1474 => ?_) (fun c1474 => ?_)
  · exact KK h2 R.2.1 (R.2.2.2.2 N) R.2.2.1 R.2.2.2.1
  · exact absurd R.1 c1474
theorem l_38 (h : zHp) (H : Rel h) (N : nB h) (h35 : h 117 35 = 0 ∨ h 117 35 = 1) (i : Nat) (hi : (i : Int) + 6 ≤ h 201 0) (hM : h 201 0 ≤ 3072) {Q : Option zV → Nat → zHp → Prop} (KK : ∀ g : zHp, Rel g → nB g → g 200 = h 200 → g 201 = h 201 → zRW mL_law 42 (0, 0) 1528 [zX, zA 0, zA 117, zI (i : Int)] [] 143 g Q) : zRW mL_law 42 (0, 0) 1479 [zX, zA 0, zA 117, zI (i : Int)] [] 143 h Q := by
  refine z_al1 eL_law_1479 ?_
  refine z_aldX eL_law_1480 rfl ?_
  refine z_il3 eL_law_1481 ?_
  refine z_ki eL_law_1482 ?_
  refine z_iaddN eL_law_1483 (by omega) (by omega) ?_
  refine z_sXN eL_law_1484 (j := i + 1) (by omega) (by omega) ?_
  refine zc_vi1 eL_law_1485 lL_181 tX11_acted zs0 (by decide) (Nat.le_of_ble_eq_true rfl) (b_acted h H h35 _) ?_
  rintro v1 h1 ⟨⟨e0, e1⟩, CM⟩ hv
  have e2 : h1 201 0 = h 201 0 := congrFun e1 0
  refine z_al2 eL_law_1488 ?_
  refine z_aldX eL_law_1489 rfl ?_
  refine z_il3 eL_law_1490 ?_
  refine z_ki eL_law_1491 ?_
  refine z_iaddN eL_law_1492 (by omega) (by omega) ?_
  refine z_sXN eL_law_1493 (j := i + 1) (by omega) (by omega) ?_
  rw [e0]
  refine zc_vi1 eL_law_1494 lL_184 tX12_acted zs117 (by decide) (Nat.le_of_ble_eq_true rfl) CM ?_
  rintro v2 h2 R hv2
  refine z_ceq eL_law_1497 rfl (fun c1497 => ?_) (fun c1497 => ?_)
  · exact KK h2 R.2.1 (R.2.2.2.2 N) R.2.2.1 R.2.2.2.1
  · exact absurd R.1 c1497
theorem l_39 (h : zHp) (H : Rel h) (N : nB h) (i : Nat) (hi : (i : Int) + 6 ≤ h 201 0) (hM : h 201 0 ≤ 3072) {Q : Option zV → Nat → zHp → Prop} (KK : ∀ g : zHp, Rel g → nB g → g 200 = h 200 → g 201 = h 201 → zRW mL_law 42 (0, 0) 1528 [zX, zA 0, zA 117, zI (i : Int)] [] 143 g Q) : zRW mL_law 42 (0, 0) 1502 [zX, zA 0, zA 117, zI (i : Int)] [] 143 h Q := by
  refine z_al1 eL_law_1502 ?_
  refine zc_vi0 eL_law_1503 lL_185 tX11_mark zs0 (by decide) (Nat.le_of_ble_eq_true rfl) (b_mark h H) ?_
  rintro v1 h1 ⟨⟨e0, e1⟩, CM⟩ hv
  have e2 : h1 201 0 = h 201 0 := congrFun e1 0
  refine z_al2 eL_law_1506 ?_
  refine zc_vi0 eL_law_1507 lL_188 tX12_mark zs117 (by decide) (Nat.le_of_ble_eq_true rfl) CM ?_
  rintro v2 h2 R hv2
  refine z_ceq eL_law_1510 rfl (fun c1510 => ?_) (fun c1510 => ?_)
  · exact KK h2 R.2.1 (R.2.2.2.2 N) R.2.2.1 R.2.2.2.1
  · exact absurd R.1 c1510
theorem l_40 (h : zHp) (H : Rel h) (N : nB h) (i : Nat) (hi : (i : Int) + 6 ≤ h 201 0) (hM : h 201 0 ≤ 3072) {Q : Option zV → Nat → zHp → Prop} (KK : ∀ g : zHp, Rel g → nB g → g 200 = h 200 → g 201 = h 201 → zRW mL_law 42 (0, 0) 1528 [zX, zA 0, zA 117, zI (i : Int)] [] 143 g Q) : zRW mL_law 42 (0, 0) 1515 [zX, zA 0, zA 117, zI (i : Int)] [] 143 h Q := by
  refine z_al1 eL_law_1515 ?_
  refine zc_vi0 eL_law_1516 lL_189 tX11_back zs0 (by decide) (Nat.le_of_ble_eq_true rfl) (b_back h H) ?_
  rintro v1 h1 ⟨⟨e0, e1⟩, CM⟩ hv
  have e2 : h1 201 0 = h 201 0 := congrFun e1 0
  refine z_al2 eL_law_1519 ?_
  refine zc_vi0 eL_law_1520 lL_192 tX12_back zs117 (by decide) (Nat.le_of_ble_eq_true rfl) CM ?_
  rintro v2 h2 R hv2
  refine z_ceq eL_law_1523 rfl (fun c1523 => ?_) (fun c1523 => ?_)
  · exact KK h2 R.2.1 (R.2.2.2.2 N) R.2.2.1 R.2.2.2.1
  · exact absurd R.1 c1523
theorem l_loop : ∀ (f : Nat) (h : zHp), Rel h → nB h → ∀ i : Nat, h 201 0 - (i : Int) ≤ (f : Int) → 0 ≤ h 201 0 ∧ h 201 0 ≤ 3072 → i ≤ 3100 → zRW mL_law 42 (0, 0) 18 [zX, zA 0, zA 117, zI (i : Int)] [] 143 h (zqi (fun v _ => v = 1)) := by
  intro f
  induction f with
  | zero =>
    intro h H N i hf hM hi3
    refine z_il3 eL_law_18 ?_
    refine z_aldX eL_law_19 rfl ?_
    refine z_lX eL_law_20 (by omega) ?_
    refine z_ki eL_law_21 ?_
    refine z_isubN eL_law_23 (by omega) (by omega) ?_
    refine z_cgt eL_law_24 rfl (fun c24 => ?_) (fun c24 => ?_)
    · refine z_ki eL_law_1534 ?_
      refine ze_z eL_law_1535 rfl (by omega) ?_
      exact rfl
    · exfalso; omega
  | succ f ih =>
    intro h H N i hf hM hi3
    refine z_rg fun hrg _ _ => ?_
    have hby : ∀ i : Nat, i < 700 → -128 ≤ h 3 i ∧ h 3 i ≤ 127 := fun i hi => hrg 3 i 22 700 (by decide) rfl hi
    have hz : h 117 62 = 0 ∨ h 117 62 = 1 := by
      have q := hrg 117 62 12 74 (by decide) rfl (by omega)
      have q2 : 0 ≤ h 117 62 ∧ h 117 62 ≤ 1 := q
      omega
    have h35 : h 117 35 = 0 ∨ h 117 35 = 1 := by
      have q := hrg 117 35 12 74 (by decide) rfl (by omega)
      have q2 : 0 ≤ h 117 35 ∧ h 117 35 ≤ 1 := q
      omega
    by_cases hi : (i : Int) + 6 ≤ h 201 0
    · have KK : ∀ g : zHp, Rel g → nB g → g 200 = h 200 → g 201 = h 201 → zRW mL_law 42 (0, 0) 1528 [zX, zA 0, zA 117, zI (i : Int)] [] 143 g (zqi (fun v _ => v = 1)) := by
        intro g Hg Ng g0 g1
        have g2 : g 201 0 = h 201 0 := congrFun g1 0
        refine z_incN3 eL_law_1528 zn2 (by omega) (by omega) ?_
        refine z_goto eL_law_1531 rfl ?_
        have e6 : (i : Int) + 6 = ((i + 6 : Nat) : Int) := by omega
        rw [e6]
        exact ih g Hg Ng (i + 6) (by rw [g2]; omega) (by rw [g2]; exact hM) (by omega)
      refine z_il3 eL_law_18 ?_
      refine z_aldX eL_law_19 rfl ?_
      refine z_lX eL_law_20 (by omega) ?_
      refine z_ki eL_law_21 ?_
      refine z_isubN eL_law_23 (by omega) (by omega) ?_
      refine z_cgt eL_law_24 rfl (fun c24 => ?_) (fun c24 => ?_)
      · exfalso; omega
      · refine z_aldX eL_law_27 rfl ?_
        refine z_il3 eL_law_28 ?_
        refine z_sXN eL_law_29 (j := i) (by omega) (by omega) ?_
        refine z_ki eL_law_30 ?_
        refine z_iand eL_law_32 ?_
        generalize zand (h 200 i) 63 = x
        by_cases q33_0 : x = 0
        · refine zt_in 0 eL_law_33 (by omega) (by decide) rfl (na := 212) rfl ?_
          exact l_0 h H N i (by omega) hM.2 KK
        by_cases q33_1 : x = 1
        · refine zt_in 1 eL_law_33 (by omega) (by decide) rfl (na := 225) rfl ?_
          exact l_1 h H N i (by omega) hM.2 KK
        by_cases q33_2 : x = 2
        · refine zt_in 2 eL_law_33 (by omega) (by decide) rfl (na := 239) rfl ?_
          exact l_2 h H N i (by omega) hM.2 KK
        by_cases q33_3 : x = 3
        · refine zt_in 3 eL_law_33 (by omega) (by decide) rfl (na := 253) rfl ?_
          exact l_3 h H N i (by omega) hM.2 KK
        by_cases q33_4 : x = 4
        · refine zt_in 4 eL_law_33 (by omega) (by decide) rfl (na := 296) rfl ?_
          exact l_4 h H N i (by omega) hM.2 KK
        by_cases q33_5 : x = 5
        · refine zt_in 5 eL_law_33 (by omega) (by decide) rfl (na := 369) rfl ?_
          exact l_5 h H N i (by omega) hM.2 KK
        by_cases q33_6 : x = 6
        · refine zt_in 6 eL_law_33 (by omega) (by decide) rfl (na := 403) rfl ?_
          exact l_6 h H N i (by omega) hM.2 KK
        by_cases q33_7 : x = 7
        · refine zt_in 7 eL_law_33 (by omega) (by decide) rfl (na := 466) rfl ?_
          exact l_7 h H N i (by omega) hM.2 KK
        by_cases q33_8 : x = 8
        · refine zt_in 8 eL_law_33 (by omega) (by decide) rfl (na := 529) rfl ?_
          exact l_8 h H N hby i (by omega) hM.2 KK
        by_cases q33_9 : x = 9
        · refine zt_in 9 eL_law_33 (by omega) (by decide) rfl (na := 552) rfl ?_
          exact l_9 h H N hby i (by omega) hM.2 KK
        by_cases q33_10 : x = 10
        · refine zt_in 10 eL_law_33 (by omega) (by decide) rfl (na := 575) rfl ?_
          exact l_10 h H N i (by omega) hM.2 KK
        by_cases q33_11 : x = 11
        · refine zt_in 11 eL_law_33 (by omega) (by decide) rfl (na := 598) rfl ?_
          exact l_11 h H N i (by omega) hM.2 KK
        by_cases q33_12 : x = 12
        · refine zt_in 12 eL_law_33 (by omega) (by decide) rfl (na := 621) rfl ?_
          exact l_12 h H N i (by omega) hM.2 KK
        by_cases q33_13 : x = 13
        · refine zt_in 13 eL_law_33 (by omega) (by decide) rfl (na := 654) rfl ?_
          exact l_13 h H N i (by omega) hM.2 KK
        by_cases q33_14 : x = 14
        · refine zt_in 14 eL_law_33 (by omega) (by decide) rfl (na := 687) rfl ?_
          exact l_14 h H N i (by omega) hM.2 KK
        by_cases q33_15 : x = 15
        · refine zt_in 15 eL_law_33 (by omega) (by decide) rfl (na := 720) rfl ?_
          exact l_15 h H N i (by omega) hM.2 KK
        by_cases q33_16 : x = 16
        · refine zt_in 16 eL_law_33 (by omega) (by decide) rfl (na := 769) rfl ?_
          exact l_16 h H N i (by omega) hM.2 KK
        by_cases q33_17 : x = 17
        · refine zt_in 17 eL_law_33 (by omega) (by decide) rfl (na := 812) rfl ?_
          exact l_17 h H N i (by omega) hM.2 KK
        by_cases q33_18 : x = 18
        · refine zt_in 18 eL_law_33 (by omega) (by decide) rfl (na := 825) rfl ?_
          exact l_18 h H N i (by omega) hM.2 KK
        by_cases q33_19 : x = 19
        · refine zt_in 19 eL_law_33 (by omega) (by decide) rfl (na := 848) rfl ?_
          exact l_19 h H N i (by omega) hM.2 KK
        by_cases q33_20 : x = 20
        · refine zt_in 20 eL_law_33 (by omega) (by decide) rfl (na := 881) rfl ?_
          exact l_20 h H N i (by omega) hM.2 KK
        by_cases q33_21 : x = 21
        · refine zt_in 21 eL_law_33 (by omega) (by decide) rfl (na := 904) rfl ?_
          exact l_21 h H N i (by omega) hM.2 KK
        by_cases q33_22 : x = 22
        · refine zt_in 22 eL_law_33 (by omega) (by decide) rfl (na := 937) rfl ?_
          exact l_22 h H N i (by omega) hM.2 KK
        by_cases q33_23 : x = 23
        · refine zt_in 23 eL_law_33 (by omega) (by decide) rfl (na := 970) rfl ?_
          exact l_23 h H N i (by omega) hM.2 KK
        by_cases q33_24 : x = 24
        · refine zt_in 24 eL_law_33 (by omega) (by decide) rfl (na := 1055) rfl ?_
          exact l_24 h H N i (by omega) hM.2 KK
        by_cases q33_25 : x = 25
        · refine zt_in 25 eL_law_33 (by omega) (by decide) rfl (na := 1150) rfl ?_
          exact l_25 h H N i (by omega) hM.2 KK
        by_cases q33_26 : x = 26
        · refine zt_in 26 eL_law_33 (by omega) (by decide) rfl (na := 1173) rfl ?_
          exact l_26 h H N i (by omega) hM.2 KK
        by_cases q33_27 : x = 27
        · refine zt_in 27 eL_law_33 (by omega) (by decide) rfl (na := 1196) rfl ?_
          exact l_27 h H N i (by omega) hM.2 KK
        by_cases q33_28 : x = 28
        · refine zt_in 28 eL_law_33 (by omega) (by decide) rfl (na := 1219) rfl ?_
          exact l_28 h H N i (by omega) hM.2 KK
        by_cases q33_29 : x = 29
        · refine zt_in 29 eL_law_33 (by omega) (by decide) rfl (na := 1242) rfl ?_
          exact l_29 h H N i (by omega) hM.2 KK
        by_cases q33_30 : x = 30
        · refine zt_in 30 eL_law_33 (by omega) (by decide) rfl (na := 1265) rfl ?_
          exact l_30 h H N i (by omega) hM.2 KK
        by_cases q33_31 : x = 31
        · refine zt_in 31 eL_law_33 (by omega) (by decide) rfl (na := 1278) rfl ?_
          exact l_31 h H N i (by omega) hM.2 KK
        by_cases q33_32 : x = 32
        · refine zt_in 32 eL_law_33 (by omega) (by decide) rfl (na := 1311) rfl ?_
          exact l_32 h H N i (by omega) hM.2 KK
        by_cases q33_33 : x = 33
        · refine zt_in 33 eL_law_33 (by omega) (by decide) rfl (na := 1364) rfl ?_
          exact l_33 h H N hz i (by omega) hM.2 KK
        by_cases q33_34 : x = 34
        · refine zt_in 34 eL_law_33 (by omega) (by decide) rfl (na := 1377) rfl ?_
          exact l_34 h H N i (by omega) hM.2 KK
        by_cases q33_35 : x = 35
        · refine zt_in 35 eL_law_33 (by omega) (by decide) rfl (na := 1410) rfl ?_
          exact l_35 h H N i (by omega) hM.2 KK
        by_cases q33_36 : x = 36
        · refine zt_in 36 eL_law_33 (by omega) (by decide) rfl (na := 1443) rfl ?_
          exact l_36 h H N hby i (by omega) hM.2 KK
        by_cases q33_37 : x = 37
        · refine zt_in 37 eL_law_33 (by omega) (by decide) rfl (na := 1466) rfl ?_
          exact l_37 h H N i (by omega) hM.2 KK
        by_cases q33_38 : x = 38
        · refine zt_in 38 eL_law_33 (by omega) (by decide) rfl (na := 1479) rfl ?_
          exact l_38 h H N h35 i (by omega) hM.2 KK
        by_cases q33_39 : x = 39
        · refine zt_in 39 eL_law_33 (by omega) (by decide) rfl (na := 1502) rfl ?_
          exact l_39 h H N i (by omega) hM.2 KK
        by_cases q33_40 : x = 40
        · refine zt_in 40 eL_law_33 (by omega) (by decide) rfl (na := 1515) rfl ?_
          exact l_40 h H N i (by omega) hM.2 KK
        refine zt_out eL_law_33 (by omega) (na := 1528) rfl ?_
        exact KK h H N rfl rfl
    · refine z_il3 eL_law_18 ?_
      refine z_aldX eL_law_19 rfl ?_
      refine z_lX eL_law_20 (by omega) ?_
      refine z_ki eL_law_21 ?_
      refine z_isubN eL_law_23 (by omega) (by omega) ?_
      refine z_cgt eL_law_24 rfl (fun c24 => ?_) (fun c24 => ?_)
      · refine z_ki eL_law_1534 ?_
        refine ze_z eL_law_1535 rfl (by omega) ?_
        exact rfl
      · exfalso; omega

