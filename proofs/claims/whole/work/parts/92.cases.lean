/-! the law: its cases (by program) -/
theorem mo_X11_person : hh_mok hm_X11_person 2 := ⟨by decide, hh_in 576 (by decide +kernel) (by decide +kernel), hh_in 70 (by decide +kernel) (by decide +kernel), ⟨by decide, by decide, (by decide +kernel)⟩, by decide⟩
theorem lkL_13 : hh_lkV "HourHouseLaw" 13 hm_X11_person := ⟨hh_in 573 (by decide +kernel) (by decide +kernel), hh_in 574 (by decide +kernel) (by decide +kernel), hh_in 575 (by decide +kernel) (by decide +kernel)⟩
theorem mo_X12_person : hh_mok hm_X12_person 2 := ⟨by decide, hh_in 1337 (by decide +kernel) (by decide +kernel), hh_in 82 (by decide +kernel) (by decide +kernel), ⟨by decide, by decide, (by decide +kernel)⟩, by decide⟩
theorem lkL_17 : hh_lkV "HourHouseLaw" 17 hm_X12_person := ⟨hh_in 1334 (by decide +kernel) (by decide +kernel), hh_in 1335 (by decide +kernel) (by decide +kernel), hh_in 1336 (by decide +kernel) (by decide +kernel)⟩
theorem lw_case0 {X : hl_X} {i : Int} {σ : hh_S} (hX : hl_ok X) (h : hr_R σ) (hi : 0 ≤ i ∧ i + 5 < hl_L X) (kk : ∀ σ2 : hh_S, hr_R σ2 → hl_J X 1649 i [] σ2) : hl_J X 220 i [] σ := by
  refine hl_aload1 hX dL_law_220 ?_
  refine hl_arg (a := 1) hX dL_law_221 dL_law_222 dL_law_223 dL_law_224 dL_law_225 (by decide) hi ?_
  refine hl_arg (a := 2) hX dL_law_226 dL_law_227 dL_law_228 dL_law_229 dL_law_230 (by decide) hi ?_
  refine hl_call (as := [hh_I (hl_v X (i + 1)), hh_I (hl_v X (i + 2))]) (st := []) hX dL_law_231 lkL_13 mo_X11_person rc_0 (Nat.le_of_ble_eq_true rfl) (o_person h) (fun r1 σ1 h1 => ?_)
  refine hl_aload2 hX dL_law_234 ?_
  refine hl_arg (a := 1) hX dL_law_235 dL_law_236 dL_law_237 dL_law_238 dL_law_239 (by decide) hi ?_
  refine hl_arg (a := 2) hX dL_law_240 dL_law_241 dL_law_242 dL_law_243 dL_law_244 (by decide) hi ?_
  refine hl_call (as := [hh_I (hl_v X (i + 1)), hh_I (hl_v X (i + 2))]) (st := [hh_I r1]) hX dL_law_245 lkL_17 mo_X12_person rc_128 (Nat.le_of_ble_eq_true rfl) h1 (fun r2 σ2 h2 => ?_)
  exact hl_eq (tgt := 1649) hX dL_law_248 (by decide) h2.1 (kk σ2 h2.2)
theorem mo_X11_is : hh_mok hm_X11_is 2 := ⟨by decide, hh_in 585 (by decide +kernel) (by decide +kernel), hh_in 70 (by decide +kernel) (by decide +kernel), ⟨by decide, by decide, (by decide +kernel)⟩, by decide⟩
theorem lkL_18 : hh_lkV "HourHouseLaw" 18 hm_X11_is := ⟨hh_in 582 (by decide +kernel) (by decide +kernel), hh_in 583 (by decide +kernel) (by decide +kernel), hh_in 584 (by decide +kernel) (by decide +kernel)⟩
theorem mo_X12_is : hh_mok hm_X12_is 2 := ⟨by decide, hh_in 1346 (by decide +kernel) (by decide +kernel), hh_in 82 (by decide +kernel) (by decide +kernel), ⟨by decide, by decide, (by decide +kernel)⟩, by decide⟩
theorem lkL_21 : hh_lkV "HourHouseLaw" 21 hm_X12_is := ⟨hh_in 1343 (by decide +kernel) (by decide +kernel), hh_in 1344 (by decide +kernel) (by decide +kernel), hh_in 1345 (by decide +kernel) (by decide +kernel)⟩
theorem lw_case1 {X : hl_X} {i : Int} {σ : hh_S} (hX : hl_ok X) (h : hr_R σ) (hi : 0 ≤ i ∧ i + 5 < hl_L X) (kk : ∀ σ2 : hh_S, hr_R σ2 → hl_J X 1649 i [] σ2) : hl_J X 253 i [] σ := by
  refine hl_aload1 hX dL_law_253 ?_
  refine hl_arg (a := 1) hX dL_law_254 dL_law_255 dL_law_256 dL_law_257 dL_law_258 (by decide) hi ?_
  refine hl_arg (a := 2) hX dL_law_259 dL_law_260 dL_law_261 dL_law_262 dL_law_263 (by decide) hi ?_
  refine hl_call (as := [hh_I (hl_v X (i + 1)), hh_I (hl_v X (i + 2))]) (st := []) hX dL_law_264 lkL_18 mo_X11_is rc_0 (Nat.le_of_ble_eq_true rfl) (o_is h) (fun r1 σ1 h1 => ?_)
  refine hl_aload2 hX dL_law_267 ?_
  refine hl_arg (a := 1) hX dL_law_268 dL_law_269 dL_law_270 dL_law_271 dL_law_272 (by decide) hi ?_
  refine hl_arg (a := 2) hX dL_law_273 dL_law_274 dL_law_275 dL_law_276 dL_law_277 (by decide) hi ?_
  refine hl_call (as := [hh_I (hl_v X (i + 1)), hh_I (hl_v X (i + 2))]) (st := [hh_I r1]) hX dL_law_278 lkL_21 mo_X12_is rc_128 (Nat.le_of_ble_eq_true rfl) h1 (fun r2 σ2 h2 => ?_)
  exact hl_eq (tgt := 1649) hX dL_law_281 (by decide) h2.1 (kk σ2 h2.2)
theorem mo_X11_client : hh_mok hm_X11_client 0 := ⟨by decide, hh_in 598 (by decide +kernel) (by decide +kernel), hh_in 70 (by decide +kernel) (by decide +kernel), ⟨by decide, by decide, (by decide +kernel)⟩, by decide⟩
theorem lkL_22 : hh_lkV "HourHouseLaw" 22 hm_X11_client := ⟨hh_in 595 (by decide +kernel) (by decide +kernel), hh_in 596 (by decide +kernel) (by decide +kernel), hh_in 597 (by decide +kernel) (by decide +kernel)⟩
theorem mo_X12_client : hh_mok hm_X12_client 0 := ⟨by decide, hh_in 1354 (by decide +kernel) (by decide +kernel), hh_in 82 (by decide +kernel) (by decide +kernel), ⟨by decide, by decide, (by decide +kernel)⟩, by decide⟩
theorem lkL_26 : hh_lkV "HourHouseLaw" 26 hm_X12_client := ⟨hh_in 1351 (by decide +kernel) (by decide +kernel), hh_in 1352 (by decide +kernel) (by decide +kernel), hh_in 1353 (by decide +kernel) (by decide +kernel)⟩
theorem lw_case2 {X : hl_X} {i : Int} {σ : hh_S} (hX : hl_ok X) (h : hr_R σ) (hi : 0 ≤ i ∧ i + 5 < hl_L X) (kk : ∀ σ2 : hh_S, hr_R σ2 → hl_J X 1649 i [] σ2) : hl_J X 286 i [] σ := by
  refine hl_aload1 hX dL_law_286 ?_
  refine hl_call (as := []) (st := []) hX dL_law_287 lkL_22 mo_X11_client rc_0 (Nat.le_of_ble_eq_true rfl) (o_client h) (fun r1 σ1 h1 => ?_)
  refine hl_aload2 hX dL_law_290 ?_
  refine hl_call (as := []) (st := [hh_I r1]) hX dL_law_291 lkL_26 mo_X12_client rc_128 (Nat.le_of_ble_eq_true rfl) h1 (fun r2 σ2 h2 => ?_)
  exact hl_eq (tgt := 1649) hX dL_law_294 (by decide) h2.1 (kk σ2 h2.2)
theorem mo_X11_matter : hh_mok hm_X11_matter 3 := ⟨by decide, hh_in 602 (by decide +kernel) (by decide +kernel), hh_in 70 (by decide +kernel) (by decide +kernel), ⟨by decide, by decide, (by decide +kernel)⟩, by decide⟩
theorem lkL_27 : hh_lkV "HourHouseLaw" 27 hm_X11_matter := ⟨hh_in 599 (by decide +kernel) (by decide +kernel), hh_in 600 (by decide +kernel) (by decide +kernel), hh_in 601 (by decide +kernel) (by decide +kernel)⟩
theorem mo_X12_matter : hh_mok hm_X12_matter 3 := ⟨by decide, hh_in 1358 (by decide +kernel) (by decide +kernel), hh_in 82 (by decide +kernel) (by decide +kernel), ⟨by decide, by decide, (by decide +kernel)⟩, by decide⟩
theorem lkL_31 : hh_lkV "HourHouseLaw" 31 hm_X12_matter := ⟨hh_in 1355 (by decide +kernel) (by decide +kernel), hh_in 1356 (by decide +kernel) (by decide +kernel), hh_in 1357 (by decide +kernel) (by decide +kernel)⟩
theorem lw_case3 {X : hl_X} {i : Int} {σ : hh_S} (hX : hl_ok X) (h : hr_R σ) (hi : 0 ≤ i ∧ i + 5 < hl_L X) (kk : ∀ σ2 : hh_S, hr_R σ2 → hl_J X 1649 i [] σ2) : hl_J X 299 i [] σ := by
  refine hl_aload1 hX dL_law_299 ?_
  refine hl_arg (a := 1) hX dL_law_300 dL_law_301 dL_law_302 dL_law_303 dL_law_304 (by decide) hi ?_
  refine hl_arg (a := 2) hX dL_law_305 dL_law_306 dL_law_307 dL_law_308 dL_law_309 (by decide) hi ?_
  refine hl_arg (a := 3) hX dL_law_310 dL_law_311 dL_law_312 dL_law_313 dL_law_314 (by decide) hi ?_
  refine hl_call (as := [hh_I (hl_v X (i + 1)), hh_I (hl_v X (i + 2)), hh_I (hl_v X (i + 3))]) (st := []) hX dL_law_315 lkL_27 mo_X11_matter rc_0 (Nat.le_of_ble_eq_true rfl) (o_matter h) (fun r1 σ1 h1 => ?_)
  refine hl_aload2 hX dL_law_318 ?_
  refine hl_arg (a := 1) hX dL_law_319 dL_law_320 dL_law_321 dL_law_322 dL_law_323 (by decide) hi ?_
  refine hl_arg (a := 2) hX dL_law_324 dL_law_325 dL_law_326 dL_law_327 dL_law_328 (by decide) hi ?_
  refine hl_arg (a := 3) hX dL_law_329 dL_law_330 dL_law_331 dL_law_332 dL_law_333 (by decide) hi ?_
  refine hl_call (as := [hh_I (hl_v X (i + 1)), hh_I (hl_v X (i + 2)), hh_I (hl_v X (i + 3))]) (st := [hh_I r1]) hX dL_law_334 lkL_31 mo_X12_matter rc_128 (Nat.le_of_ble_eq_true rfl) h1 (fun r2 σ2 h2 => ?_)
  exact hl_eq (tgt := 1649) hX dL_law_337 (by decide) h2.1 (kk σ2 h2.2)
theorem mo_X11_isOf : hh_mok hm_X11_isOf 2 := ⟨by decide, hh_in 620 (by decide +kernel) (by decide +kernel), hh_in 70 (by decide +kernel) (by decide +kernel), ⟨by decide, by decide, (by decide +kernel)⟩, by decide⟩
theorem lkL_32 : hh_lkV "HourHouseLaw" 32 hm_X11_isOf := ⟨hh_in 617 (by decide +kernel) (by decide +kernel), hh_in 618 (by decide +kernel) (by decide +kernel), hh_in 619 (by decide +kernel) (by decide +kernel)⟩
theorem mo_X12_isOf : hh_mok hm_X12_isOf 2 := ⟨by decide, hh_in 1367 (by decide +kernel) (by decide +kernel), hh_in 82 (by decide +kernel) (by decide +kernel), ⟨by decide, by decide, (by decide +kernel)⟩, by decide⟩
theorem lkL_35 : hh_lkV "HourHouseLaw" 35 hm_X12_isOf := ⟨hh_in 1364 (by decide +kernel) (by decide +kernel), hh_in 1365 (by decide +kernel) (by decide +kernel), hh_in 1366 (by decide +kernel) (by decide +kernel)⟩
theorem lw_case4 {X : hl_X} {i : Int} {σ : hh_S} (hX : hl_ok X) (h : hr_R σ) (hi : 0 ≤ i ∧ i + 5 < hl_L X) (kk : ∀ σ2 : hh_S, hr_R σ2 → hl_J X 1649 i [] σ2) : hl_J X 342 i [] σ := by
  refine hl_aload1 hX dL_law_342 ?_
  refine hl_arg (a := 1) hX dL_law_343 dL_law_344 dL_law_345 dL_law_346 dL_law_347 (by decide) hi ?_
  refine hl_arg (a := 2) hX dL_law_348 dL_law_349 dL_law_350 dL_law_351 dL_law_352 (by decide) hi ?_
  refine hl_call (as := [hh_I (hl_v X (i + 1)), hh_I (hl_v X (i + 2))]) (st := []) hX dL_law_353 lkL_32 mo_X11_isOf rc_0 (Nat.le_of_ble_eq_true rfl) (o_isOf h) (fun r1 σ1 h1 => ?_)
  refine hl_aload2 hX dL_law_356 ?_
  refine hl_arg (a := 1) hX dL_law_357 dL_law_358 dL_law_359 dL_law_360 dL_law_361 (by decide) hi ?_
  refine hl_arg (a := 2) hX dL_law_362 dL_law_363 dL_law_364 dL_law_365 dL_law_366 (by decide) hi ?_
  refine hl_call (as := [hh_I (hl_v X (i + 1)), hh_I (hl_v X (i + 2))]) (st := [hh_I r1]) hX dL_law_367 lkL_35 mo_X12_isOf rc_128 (Nat.le_of_ble_eq_true rfl) h1 (fun r2 σ2 h2 => ?_)
  exact hl_eq (tgt := 1649) hX dL_law_370 (by decide) h2.1 (kk σ2 h2.2)
theorem mo_X11_payers : hh_mok hm_X11_payers 4 := ⟨by decide, hh_in 633 (by decide +kernel) (by decide +kernel), hh_in 70 (by decide +kernel) (by decide +kernel), ⟨by decide, by decide, (by decide +kernel)⟩, by decide⟩
theorem lkL_36 : hh_lkV "HourHouseLaw" 36 hm_X11_payers := ⟨hh_in 630 (by decide +kernel) (by decide +kernel), hh_in 631 (by decide +kernel) (by decide +kernel), hh_in 632 (by decide +kernel) (by decide +kernel)⟩
theorem mo_X12_payers : hh_mok hm_X12_payers 4 := ⟨by decide, hh_in 1375 (by decide +kernel) (by decide +kernel), hh_in 82 (by decide +kernel) (by decide +kernel), ⟨by decide, by decide, (by decide +kernel)⟩, by decide⟩
theorem lkL_40 : hh_lkV "HourHouseLaw" 40 hm_X12_payers := ⟨hh_in 1372 (by decide +kernel) (by decide +kernel), hh_in 1373 (by decide +kernel) (by decide +kernel), hh_in 1374 (by decide +kernel) (by decide +kernel)⟩
theorem lw_case5 {X : hl_X} {i : Int} {σ : hh_S} (hX : hl_ok X) (h : hr_R σ) (hi : 0 ≤ i ∧ i + 5 < hl_L X) (kk : ∀ σ2 : hh_S, hr_R σ2 → hl_J X 1649 i [] σ2) : hl_J X 375 i [] σ := by
  refine hl_aload1 hX dL_law_375 ?_
  refine hl_arg (a := 1) hX dL_law_376 dL_law_377 dL_law_378 dL_law_379 dL_law_380 (by decide) hi ?_
  refine hl_arg (a := 2) hX dL_law_381 dL_law_382 dL_law_383 dL_law_384 dL_law_385 (by decide) hi ?_
  refine hl_arg (a := 3) hX dL_law_386 dL_law_387 dL_law_388 dL_law_389 dL_law_390 (by decide) hi ?_
  refine hl_arg (a := 4) hX dL_law_391 dL_law_392 dL_law_393 dL_law_394 dL_law_395 (by decide) hi ?_
  refine hl_call (as := [hh_I (hl_v X (i + 1)), hh_I (hl_v X (i + 2)), hh_I (hl_v X (i + 3)), hh_I (hl_v X (i + 4))]) (st := []) hX dL_law_396 lkL_36 mo_X11_payers rc_0 (Nat.le_of_ble_eq_true rfl) (o_payers h) (fun r1 σ1 h1 => ?_)
  refine hl_aload2 hX dL_law_399 ?_
  refine hl_arg (a := 1) hX dL_law_400 dL_law_401 dL_law_402 dL_law_403 dL_law_404 (by decide) hi ?_
  refine hl_arg (a := 2) hX dL_law_405 dL_law_406 dL_law_407 dL_law_408 dL_law_409 (by decide) hi ?_
  refine hl_arg (a := 3) hX dL_law_410 dL_law_411 dL_law_412 dL_law_413 dL_law_414 (by decide) hi ?_
  refine hl_arg (a := 4) hX dL_law_415 dL_law_416 dL_law_417 dL_law_418 dL_law_419 (by decide) hi ?_
  refine hl_call (as := [hh_I (hl_v X (i + 1)), hh_I (hl_v X (i + 2)), hh_I (hl_v X (i + 3)), hh_I (hl_v X (i + 4))]) (st := [hh_I r1]) hX dL_law_420 lkL_40 mo_X12_payers rc_128 (Nat.le_of_ble_eq_true rfl) h1 (fun r2 σ2 h2 => ?_)
  exact hl_eq (tgt := 1649) hX dL_law_423 (by decide) h2.1 (kk σ2 h2.2)
theorem mo_X11_wall : hh_mok hm_X11_wall 3 := ⟨by decide, hh_in 648 (by decide +kernel) (by decide +kernel), hh_in 70 (by decide +kernel) (by decide +kernel), ⟨by decide, by decide, (by decide +kernel)⟩, by decide⟩
theorem lkL_41 : hh_lkV "HourHouseLaw" 41 hm_X11_wall := ⟨hh_in 645 (by decide +kernel) (by decide +kernel), hh_in 646 (by decide +kernel) (by decide +kernel), hh_in 647 (by decide +kernel) (by decide +kernel)⟩
theorem mo_X12_wall : hh_mok hm_X12_wall 3 := ⟨by decide, hh_in 1389 (by decide +kernel) (by decide +kernel), hh_in 82 (by decide +kernel) (by decide +kernel), ⟨by decide, by decide, (by decide +kernel)⟩, by decide⟩
theorem lkL_44 : hh_lkV "HourHouseLaw" 44 hm_X12_wall := ⟨hh_in 1386 (by decide +kernel) (by decide +kernel), hh_in 1387 (by decide +kernel) (by decide +kernel), hh_in 1388 (by decide +kernel) (by decide +kernel)⟩
theorem lw_case6 {X : hl_X} {i : Int} {σ : hh_S} (hX : hl_ok X) (h : hr_R σ) (hi : 0 ≤ i ∧ i + 5 < hl_L X) (kk : ∀ σ2 : hh_S, hr_R σ2 → hl_J X 1649 i [] σ2) : hl_J X 428 i [] σ := by
  refine hl_aload1 hX dL_law_428 ?_
  refine hl_arg (a := 1) hX dL_law_429 dL_law_430 dL_law_431 dL_law_432 dL_law_433 (by decide) hi ?_
  refine hl_arg (a := 2) hX dL_law_434 dL_law_435 dL_law_436 dL_law_437 dL_law_438 (by decide) hi ?_
  refine hl_arg (a := 3) hX dL_law_439 dL_law_440 dL_law_441 dL_law_442 dL_law_443 (by decide) hi ?_
  refine hl_call (as := [hh_I (hl_v X (i + 1)), hh_I (hl_v X (i + 2)), hh_I (hl_v X (i + 3))]) (st := []) hX dL_law_444 lkL_41 mo_X11_wall rc_0 (Nat.le_of_ble_eq_true rfl) (o_wall h) (fun r1 σ1 h1 => ?_)
  refine hl_aload2 hX dL_law_447 ?_
  refine hl_arg (a := 1) hX dL_law_448 dL_law_449 dL_law_450 dL_law_451 dL_law_452 (by decide) hi ?_
  refine hl_arg (a := 2) hX dL_law_453 dL_law_454 dL_law_455 dL_law_456 dL_law_457 (by decide) hi ?_
  refine hl_arg (a := 3) hX dL_law_458 dL_law_459 dL_law_460 dL_law_461 dL_law_462 (by decide) hi ?_
  refine hl_call (as := [hh_I (hl_v X (i + 1)), hh_I (hl_v X (i + 2)), hh_I (hl_v X (i + 3))]) (st := [hh_I r1]) hX dL_law_463 lkL_44 mo_X12_wall rc_128 (Nat.le_of_ble_eq_true rfl) h1 (fun r2 σ2 h2 => ?_)
  exact hl_eq (tgt := 1649) hX dL_law_466 (by decide) h2.1 (kk σ2 h2.2)
theorem mo_X11_days : hh_mok hm_X11_days 1 := ⟨by decide, hh_in 652 (by decide +kernel) (by decide +kernel), hh_in 70 (by decide +kernel) (by decide +kernel), ⟨by decide, by decide, (by decide +kernel)⟩, by decide⟩
theorem lkL_45 : hh_lkV "HourHouseLaw" 45 hm_X11_days := ⟨hh_in 649 (by decide +kernel) (by decide +kernel), hh_in 650 (by decide +kernel) (by decide +kernel), hh_in 651 (by decide +kernel) (by decide +kernel)⟩
theorem mo_X12_days : hh_mok hm_X12_days 1 := ⟨by decide, hh_in 1393 (by decide +kernel) (by decide +kernel), hh_in 82 (by decide +kernel) (by decide +kernel), ⟨by decide, by decide, (by decide +kernel)⟩, by decide⟩
theorem lkL_49 : hh_lkV "HourHouseLaw" 49 hm_X12_days := ⟨hh_in 1390 (by decide +kernel) (by decide +kernel), hh_in 1391 (by decide +kernel) (by decide +kernel), hh_in 1392 (by decide +kernel) (by decide +kernel)⟩
theorem lw_case7 {X : hl_X} {i : Int} {σ : hh_S} (hX : hl_ok X) (h : hr_R σ) (hi : 0 ≤ i ∧ i + 5 < hl_L X) (kk : ∀ σ2 : hh_S, hr_R σ2 → hl_J X 1649 i [] σ2) : hl_J X 471 i [] σ := by
  refine hl_aload1 hX dL_law_471 ?_
  refine hl_arg (a := 1) hX dL_law_472 dL_law_473 dL_law_474 dL_law_475 dL_law_476 (by decide) hi ?_
  refine hl_call (as := [hh_I (hl_v X (i + 1))]) (st := []) hX dL_law_477 lkL_45 mo_X11_days rc_0 (Nat.le_of_ble_eq_true rfl) (o_days h) (fun r1 σ1 h1 => ?_)
  refine hl_aload2 hX dL_law_480 ?_
  refine hl_arg (a := 1) hX dL_law_481 dL_law_482 dL_law_483 dL_law_484 dL_law_485 (by decide) hi ?_
  refine hl_call (as := [hh_I (hl_v X (i + 1))]) (st := [hh_I r1]) hX dL_law_486 lkL_49 mo_X12_days rc_128 (Nat.le_of_ble_eq_true rfl) h1 (fun r2 σ2 h2 => ?_)
  exact hl_eq (tgt := 1649) hX dL_law_489 (by decide) h2.1 (kk σ2 h2.2)
theorem mo_X11_rule : hh_mok hm_X11_rule 2 := ⟨by decide, hh_in 656 (by decide +kernel) (by decide +kernel), hh_in 70 (by decide +kernel) (by decide +kernel), ⟨by decide, by decide, (by decide +kernel)⟩, by decide⟩
theorem lkL_50 : hh_lkV "HourHouseLaw" 50 hm_X11_rule := ⟨hh_in 653 (by decide +kernel) (by decide +kernel), hh_in 654 (by decide +kernel) (by decide +kernel), hh_in 655 (by decide +kernel) (by decide +kernel)⟩
theorem mo_X12_rule : hh_mok hm_X12_rule 2 := ⟨by decide, hh_in 1397 (by decide +kernel) (by decide +kernel), hh_in 82 (by decide +kernel) (by decide +kernel), ⟨by decide, by decide, (by decide +kernel)⟩, by decide⟩
theorem lkL_53 : hh_lkV "HourHouseLaw" 53 hm_X12_rule := ⟨hh_in 1394 (by decide +kernel) (by decide +kernel), hh_in 1395 (by decide +kernel) (by decide +kernel), hh_in 1396 (by decide +kernel) (by decide +kernel)⟩
theorem lw_case8 {X : hl_X} {i : Int} {σ : hh_S} (hX : hl_ok X) (h : hr_R σ) (hi : 0 ≤ i ∧ i + 5 < hl_L X) (kk : ∀ σ2 : hh_S, hr_R σ2 → hl_J X 1649 i [] σ2) : hl_J X 494 i [] σ := by
  refine hl_aload1 hX dL_law_494 ?_
  refine hl_arg (a := 1) hX dL_law_495 dL_law_496 dL_law_497 dL_law_498 dL_law_499 (by decide) hi ?_
  refine hl_arg (a := 2) hX dL_law_500 dL_law_501 dL_law_502 dL_law_503 dL_law_504 (by decide) hi ?_
  refine hl_call (as := [hh_I (hl_v X (i + 1)), hh_I (hl_v X (i + 2))]) (st := []) hX dL_law_505 lkL_50 mo_X11_rule rc_0 (Nat.le_of_ble_eq_true rfl) (o_rule h) (fun r1 σ1 h1 => ?_)
  refine hl_aload2 hX dL_law_508 ?_
  refine hl_arg (a := 1) hX dL_law_509 dL_law_510 dL_law_511 dL_law_512 dL_law_513 (by decide) hi ?_
  refine hl_arg (a := 2) hX dL_law_514 dL_law_515 dL_law_516 dL_law_517 dL_law_518 (by decide) hi ?_
  refine hl_call (as := [hh_I (hl_v X (i + 1)), hh_I (hl_v X (i + 2))]) (st := [hh_I r1]) hX dL_law_519 lkL_53 mo_X12_rule rc_128 (Nat.le_of_ble_eq_true rfl) h1 (fun r2 σ2 h2 => ?_)
  exact hl_eq (tgt := 1649) hX dL_law_522 (by decide) h2.1 (kk σ2 h2.2)
theorem mo_X11_entry : hh_mok hm_X11_entry 5 := ⟨by decide, hh_in 663 (by decide +kernel) (by decide +kernel), hh_in 70 (by decide +kernel) (by decide +kernel), ⟨by decide, by decide, (by decide +kernel)⟩, by decide⟩
theorem lkL_54 : hh_lkV "HourHouseLaw" 54 hm_X11_entry := ⟨hh_in 660 (by decide +kernel) (by decide +kernel), hh_in 661 (by decide +kernel) (by decide +kernel), hh_in 662 (by decide +kernel) (by decide +kernel)⟩
theorem mo_X12_entry : hh_mok hm_X12_entry 5 := ⟨by decide, hh_in 1401 (by decide +kernel) (by decide +kernel), hh_in 82 (by decide +kernel) (by decide +kernel), ⟨by decide, by decide, (by decide +kernel)⟩, by decide⟩
theorem lkL_58 : hh_lkV "HourHouseLaw" 58 hm_X12_entry := ⟨hh_in 1398 (by decide +kernel) (by decide +kernel), hh_in 1399 (by decide +kernel) (by decide +kernel), hh_in 1400 (by decide +kernel) (by decide +kernel)⟩
theorem lw_case9 {X : hl_X} {i : Int} {σ : hh_S} (hX : hl_ok X) (h : hr_R σ) (hi : 0 ≤ i ∧ i + 5 < hl_L X) (kk : ∀ σ2 : hh_S, hr_R σ2 → hl_J X 1649 i [] σ2) : hl_J X 527 i [] σ := by
  refine hl_aload1 hX dL_law_527 ?_
  refine hl_arg (a := 1) hX dL_law_528 dL_law_529 dL_law_530 dL_law_531 dL_law_532 (by decide) hi ?_
  refine hl_arg (a := 2) hX dL_law_533 dL_law_534 dL_law_535 dL_law_536 dL_law_537 (by decide) hi ?_
  refine hl_arg (a := 3) hX dL_law_538 dL_law_539 dL_law_540 dL_law_541 dL_law_542 (by decide) hi ?_
  refine hl_arg (a := 4) hX dL_law_543 dL_law_544 dL_law_545 dL_law_546 dL_law_547 (by decide) hi ?_
  refine hl_arg (a := 5) hX dL_law_548 dL_law_549 dL_law_550 dL_law_551 dL_law_552 (by decide) hi ?_
  refine hl_call (as := [hh_I (hl_v X (i + 1)), hh_I (hl_v X (i + 2)), hh_I (hl_v X (i + 3)), hh_I (hl_v X (i + 4)), hh_I (hl_v X (i + 5))]) (st := []) hX dL_law_553 lkL_54 mo_X11_entry rc_0 (Nat.le_of_ble_eq_true rfl) (o_entry h) (fun r1 σ1 h1 => ?_)
  refine hl_aload2 hX dL_law_556 ?_
  refine hl_arg (a := 1) hX dL_law_557 dL_law_558 dL_law_559 dL_law_560 dL_law_561 (by decide) hi ?_
  refine hl_arg (a := 2) hX dL_law_562 dL_law_563 dL_law_564 dL_law_565 dL_law_566 (by decide) hi ?_
  refine hl_arg (a := 3) hX dL_law_567 dL_law_568 dL_law_569 dL_law_570 dL_law_571 (by decide) hi ?_
  refine hl_arg (a := 4) hX dL_law_572 dL_law_573 dL_law_574 dL_law_575 dL_law_576 (by decide) hi ?_
  refine hl_arg (a := 5) hX dL_law_577 dL_law_578 dL_law_579 dL_law_580 dL_law_581 (by decide) hi ?_
  refine hl_call (as := [hh_I (hl_v X (i + 1)), hh_I (hl_v X (i + 2)), hh_I (hl_v X (i + 3)), hh_I (hl_v X (i + 4)), hh_I (hl_v X (i + 5))]) (st := [hh_I r1]) hX dL_law_582 lkL_58 mo_X12_entry rc_128 (Nat.le_of_ble_eq_true rfl) h1 (fun r2 σ2 h2 => ?_)
  exact hl_eq (tgt := 1649) hX dL_law_585 (by decide) h2.1 (kk σ2 h2.2)
theorem mo_X11_withdraw : hh_mok hm_X11_withdraw 1 := ⟨by decide, hh_in 678 (by decide +kernel) (by decide +kernel), hh_in 70 (by decide +kernel) (by decide +kernel), ⟨by decide, by decide, (by decide +kernel)⟩, by decide⟩
theorem lkL_59 : hh_lkV "HourHouseLaw" 59 hm_X11_withdraw := ⟨hh_in 675 (by decide +kernel) (by decide +kernel), hh_in 676 (by decide +kernel) (by decide +kernel), hh_in 677 (by decide +kernel) (by decide +kernel)⟩
theorem mo_X12_withdraw : hh_mok hm_X12_withdraw 1 := ⟨by decide, hh_in 1412 (by decide +kernel) (by decide +kernel), hh_in 82 (by decide +kernel) (by decide +kernel), ⟨by decide, by decide, (by decide +kernel)⟩, by decide⟩
theorem lkL_62 : hh_lkV "HourHouseLaw" 62 hm_X12_withdraw := ⟨hh_in 1409 (by decide +kernel) (by decide +kernel), hh_in 1410 (by decide +kernel) (by decide +kernel), hh_in 1411 (by decide +kernel) (by decide +kernel)⟩
theorem lw_case10 {X : hl_X} {i : Int} {σ : hh_S} (hX : hl_ok X) (h : hr_R σ) (hi : 0 ≤ i ∧ i + 5 < hl_L X) (kk : ∀ σ2 : hh_S, hr_R σ2 → hl_J X 1649 i [] σ2) : hl_J X 590 i [] σ := by
  refine hl_aload1 hX dL_law_590 ?_
  refine hl_arg (a := 1) hX dL_law_591 dL_law_592 dL_law_593 dL_law_594 dL_law_595 (by decide) hi ?_
  refine hl_call (as := [hh_I (hl_v X (i + 1))]) (st := []) hX dL_law_596 lkL_59 mo_X11_withdraw rc_0 (Nat.le_of_ble_eq_true rfl) (o_withdraw h) (fun r1 σ1 h1 => ?_)
  refine hl_aload2 hX dL_law_599 ?_
  refine hl_arg (a := 1) hX dL_law_600 dL_law_601 dL_law_602 dL_law_603 dL_law_604 (by decide) hi ?_
  refine hl_call (as := [hh_I (hl_v X (i + 1))]) (st := [hh_I r1]) hX dL_law_605 lkL_62 mo_X12_withdraw rc_128 (Nat.le_of_ble_eq_true rfl) h1 (fun r2 σ2 h2 => ?_)
  exact hl_eq (tgt := 1649) hX dL_law_608 (by decide) h2.1 (kk σ2 h2.2)
theorem mo_X11_door : hh_mok hm_X11_door 3 := ⟨by decide, hh_in 687 (by decide +kernel) (by decide +kernel), hh_in 70 (by decide +kernel) (by decide +kernel), ⟨by decide, by decide, (by decide +kernel)⟩, by decide⟩
theorem lkL_63 : hh_lkV "HourHouseLaw" 63 hm_X11_door := ⟨hh_in 684 (by decide +kernel) (by decide +kernel), hh_in 685 (by decide +kernel) (by decide +kernel), hh_in 686 (by decide +kernel) (by decide +kernel)⟩
theorem mo_X12_door : hh_mok hm_X12_door 3 := ⟨by decide, hh_in 1420 (by decide +kernel) (by decide +kernel), hh_in 82 (by decide +kernel) (by decide +kernel), ⟨by decide, by decide, (by decide +kernel)⟩, by decide⟩
theorem lkL_66 : hh_lkV "HourHouseLaw" 66 hm_X12_door := ⟨hh_in 1417 (by decide +kernel) (by decide +kernel), hh_in 1418 (by decide +kernel) (by decide +kernel), hh_in 1419 (by decide +kernel) (by decide +kernel)⟩
theorem lw_case11 {X : hl_X} {i : Int} {σ : hh_S} (hX : hl_ok X) (h : hr_R σ) (hi : 0 ≤ i ∧ i + 5 < hl_L X) (kk : ∀ σ2 : hh_S, hr_R σ2 → hl_J X 1649 i [] σ2) : hl_J X 613 i [] σ := by
  refine hl_aload1 hX dL_law_613 ?_
  refine hl_arg (a := 1) hX dL_law_614 dL_law_615 dL_law_616 dL_law_617 dL_law_618 (by decide) hi ?_
  refine hl_arg (a := 2) hX dL_law_619 dL_law_620 dL_law_621 dL_law_622 dL_law_623 (by decide) hi ?_
  refine hl_arg (a := 3) hX dL_law_624 dL_law_625 dL_law_626 dL_law_627 dL_law_628 (by decide) hi ?_
  refine hl_call (as := [hh_I (hl_v X (i + 1)), hh_I (hl_v X (i + 2)), hh_I (hl_v X (i + 3))]) (st := []) hX dL_law_629 lkL_63 mo_X11_door rc_0 (Nat.le_of_ble_eq_true rfl) (o_door h) (fun r1 σ1 h1 => ?_)
  refine hl_aload2 hX dL_law_632 ?_
  refine hl_arg (a := 1) hX dL_law_633 dL_law_634 dL_law_635 dL_law_636 dL_law_637 (by decide) hi ?_
  refine hl_arg (a := 2) hX dL_law_638 dL_law_639 dL_law_640 dL_law_641 dL_law_642 (by decide) hi ?_
  refine hl_arg (a := 3) hX dL_law_643 dL_law_644 dL_law_645 dL_law_646 dL_law_647 (by decide) hi ?_
  refine hl_call (as := [hh_I (hl_v X (i + 1)), hh_I (hl_v X (i + 2)), hh_I (hl_v X (i + 3))]) (st := [hh_I r1]) hX dL_law_648 lkL_66 mo_X12_door rc_128 (Nat.le_of_ble_eq_true rfl) h1 (fun r2 σ2 h2 => ?_)
  exact hl_eq (tgt := 1649) hX dL_law_651 (by decide) h2.1 (kk σ2 h2.2)
theorem mo_X11_written : hh_mok hm_X11_written 4 := ⟨by decide, hh_in 691 (by decide +kernel) (by decide +kernel), hh_in 70 (by decide +kernel) (by decide +kernel), ⟨by decide, by decide, (by decide +kernel)⟩, by decide⟩
theorem lkL_67 : hh_lkV "HourHouseLaw" 67 hm_X11_written := ⟨hh_in 688 (by decide +kernel) (by decide +kernel), hh_in 689 (by decide +kernel) (by decide +kernel), hh_in 690 (by decide +kernel) (by decide +kernel)⟩
theorem mo_X12_written : hh_mok hm_X12_written 4 := ⟨by decide, hh_in 1424 (by decide +kernel) (by decide +kernel), hh_in 82 (by decide +kernel) (by decide +kernel), ⟨by decide, by decide, (by decide +kernel)⟩, by decide⟩
theorem lkL_70 : hh_lkV "HourHouseLaw" 70 hm_X12_written := ⟨hh_in 1421 (by decide +kernel) (by decide +kernel), hh_in 1422 (by decide +kernel) (by decide +kernel), hh_in 1423 (by decide +kernel) (by decide +kernel)⟩
theorem lw_case12 {X : hl_X} {i : Int} {σ : hh_S} (hX : hl_ok X) (h : hr_R σ) (hi : 0 ≤ i ∧ i + 5 < hl_L X) (kk : ∀ σ2 : hh_S, hr_R σ2 → hl_J X 1649 i [] σ2) : hl_J X 656 i [] σ := by
  refine hl_aload1 hX dL_law_656 ?_
  refine hl_arg (a := 1) hX dL_law_657 dL_law_658 dL_law_659 dL_law_660 dL_law_661 (by decide) hi ?_
  refine hl_arg (a := 2) hX dL_law_662 dL_law_663 dL_law_664 dL_law_665 dL_law_666 (by decide) hi ?_
  refine hl_arg (a := 3) hX dL_law_667 dL_law_668 dL_law_669 dL_law_670 dL_law_671 (by decide) hi ?_
  refine hl_arg (a := 4) hX dL_law_672 dL_law_673 dL_law_674 dL_law_675 dL_law_676 (by decide) hi ?_
  refine hl_call (as := [hh_I (hl_v X (i + 1)), hh_I (hl_v X (i + 2)), hh_I (hl_v X (i + 3)), hh_I (hl_v X (i + 4))]) (st := []) hX dL_law_677 lkL_67 mo_X11_written rc_0 (Nat.le_of_ble_eq_true rfl) (o_written h) (fun r1 σ1 h1 => ?_)
  refine hl_aload2 hX dL_law_680 ?_
  refine hl_arg (a := 1) hX dL_law_681 dL_law_682 dL_law_683 dL_law_684 dL_law_685 (by decide) hi ?_
  refine hl_arg (a := 2) hX dL_law_686 dL_law_687 dL_law_688 dL_law_689 dL_law_690 (by decide) hi ?_
  refine hl_arg (a := 3) hX dL_law_691 dL_law_692 dL_law_693 dL_law_694 dL_law_695 (by decide) hi ?_
  refine hl_arg (a := 4) hX dL_law_696 dL_law_697 dL_law_698 dL_law_699 dL_law_700 (by decide) hi ?_
  refine hl_call (as := [hh_I (hl_v X (i + 1)), hh_I (hl_v X (i + 2)), hh_I (hl_v X (i + 3)), hh_I (hl_v X (i + 4))]) (st := [hh_I r1]) hX dL_law_701 lkL_70 mo_X12_written rc_128 (Nat.le_of_ble_eq_true rfl) h1 (fun r2 σ2 h2 => ?_)
  exact hl_eq (tgt := 1649) hX dL_law_704 (by decide) h2.1 (kk σ2 h2.2)
theorem mo_X11_told : hh_mok hm_X11_told 2 := ⟨by decide, hh_in 722 (by decide +kernel) (by decide +kernel), hh_in 70 (by decide +kernel) (by decide +kernel), ⟨by decide, by decide, (by decide +kernel)⟩, by decide⟩
theorem lkL_71 : hh_lkV "HourHouseLaw" 71 hm_X11_told := ⟨hh_in 719 (by decide +kernel) (by decide +kernel), hh_in 720 (by decide +kernel) (by decide +kernel), hh_in 721 (by decide +kernel) (by decide +kernel)⟩
theorem mo_X12_told : hh_mok hm_X12_told 2 := ⟨by decide, hh_in 1435 (by decide +kernel) (by decide +kernel), hh_in 82 (by decide +kernel) (by decide +kernel), ⟨by decide, by decide, (by decide +kernel)⟩, by decide⟩
theorem lkL_74 : hh_lkV "HourHouseLaw" 74 hm_X12_told := ⟨hh_in 1432 (by decide +kernel) (by decide +kernel), hh_in 1433 (by decide +kernel) (by decide +kernel), hh_in 1434 (by decide +kernel) (by decide +kernel)⟩
theorem lw_case13 {X : hl_X} {i : Int} {σ : hh_S} (hX : hl_ok X) (h : hr_R σ) (hi : 0 ≤ i ∧ i + 5 < hl_L X) (kk : ∀ σ2 : hh_S, hr_R σ2 → hl_J X 1649 i [] σ2) : hl_J X 709 i [] σ := by
  refine hl_aload1 hX dL_law_709 ?_
  refine hl_arg (a := 1) hX dL_law_710 dL_law_711 dL_law_712 dL_law_713 dL_law_714 (by decide) hi ?_
  refine hl_arg (a := 2) hX dL_law_715 dL_law_716 dL_law_717 dL_law_718 dL_law_719 (by decide) hi ?_
  refine hl_call (as := [hh_I (hl_v X (i + 1)), hh_I (hl_v X (i + 2))]) (st := []) hX dL_law_720 lkL_71 mo_X11_told rc_0 (Nat.le_of_ble_eq_true rfl) (o_told h) (fun r1 σ1 h1 => ?_)
  refine hl_aload2 hX dL_law_723 ?_
  refine hl_arg (a := 1) hX dL_law_724 dL_law_725 dL_law_726 dL_law_727 dL_law_728 (by decide) hi ?_
  refine hl_arg (a := 2) hX dL_law_729 dL_law_730 dL_law_731 dL_law_732 dL_law_733 (by decide) hi ?_
  refine hl_call (as := [hh_I (hl_v X (i + 1)), hh_I (hl_v X (i + 2))]) (st := [hh_I r1]) hX dL_law_734 lkL_74 mo_X12_told rc_128 (Nat.le_of_ble_eq_true rfl) h1 (fun r2 σ2 h2 => ?_)
  exact hl_eq (tgt := 1649) hX dL_law_737 (by decide) h2.1 (kk σ2 h2.2)
theorem mo_X11_worth : hh_mok hm_X11_worth 3 := ⟨by decide, hh_in 726 (by decide +kernel) (by decide +kernel), hh_in 70 (by decide +kernel) (by decide +kernel), ⟨by decide, by decide, (by decide +kernel)⟩, by decide⟩
theorem lkL_75 : hh_lkV "HourHouseLaw" 75 hm_X11_worth := ⟨hh_in 723 (by decide +kernel) (by decide +kernel), hh_in 724 (by decide +kernel) (by decide +kernel), hh_in 725 (by decide +kernel) (by decide +kernel)⟩
theorem mo_X12_worth : hh_mok hm_X12_worth 3 := ⟨by decide, hh_in 1513 (by decide +kernel) (by decide +kernel), hh_in 82 (by decide +kernel) (by decide +kernel), ⟨by decide, by decide, (by decide +kernel)⟩, by decide⟩
theorem lkL_78 : hh_lkV "HourHouseLaw" 78 hm_X12_worth := ⟨hh_in 1510 (by decide +kernel) (by decide +kernel), hh_in 1511 (by decide +kernel) (by decide +kernel), hh_in 1512 (by decide +kernel) (by decide +kernel)⟩
theorem lw_case14 {X : hl_X} {i : Int} {σ : hh_S} (hX : hl_ok X) (h : hr_R σ) (hi : 0 ≤ i ∧ i + 5 < hl_L X) (kk : ∀ σ2 : hh_S, hr_R σ2 → hl_J X 1649 i [] σ2) : hl_J X 742 i [] σ := by
  refine hl_aload1 hX dL_law_742 ?_
  refine hl_arg (a := 1) hX dL_law_743 dL_law_744 dL_law_745 dL_law_746 dL_law_747 (by decide) hi ?_
  refine hl_arg (a := 2) hX dL_law_748 dL_law_749 dL_law_750 dL_law_751 dL_law_752 (by decide) hi ?_
  refine hl_arg (a := 3) hX dL_law_753 dL_law_754 dL_law_755 dL_law_756 dL_law_757 (by decide) hi ?_
  refine hl_call (as := [hh_I (hl_v X (i + 1)), hh_I (hl_v X (i + 2)), hh_I (hl_v X (i + 3))]) (st := []) hX dL_law_758 lkL_75 mo_X11_worth rc_0 (Nat.le_of_ble_eq_true rfl) (o_worth h) (fun r1 σ1 h1 => ?_)
  refine hl_aload2 hX dL_law_761 ?_
  refine hl_arg (a := 1) hX dL_law_762 dL_law_763 dL_law_764 dL_law_765 dL_law_766 (by decide) hi ?_
  refine hl_arg (a := 2) hX dL_law_767 dL_law_768 dL_law_769 dL_law_770 dL_law_771 (by decide) hi ?_
  refine hl_arg (a := 3) hX dL_law_772 dL_law_773 dL_law_774 dL_law_775 dL_law_776 (by decide) hi ?_
  refine hl_call (as := [hh_I (hl_v X (i + 1)), hh_I (hl_v X (i + 2)), hh_I (hl_v X (i + 3))]) (st := [hh_I r1]) hX dL_law_777 lkL_78 mo_X12_worth rc_128 (Nat.le_of_ble_eq_true rfl) h1 (fun r2 σ2 h2 => ?_)
  exact hl_eq (tgt := 1649) hX dL_law_780 (by decide) h2.1 (kk σ2 h2.2)
theorem mo_X11_feed : hh_mok hm_X11_feed 3 := ⟨by decide, hh_in 794 (by decide +kernel) (by decide +kernel), hh_in 70 (by decide +kernel) (by decide +kernel), ⟨by decide, by decide, (by decide +kernel)⟩, by decide⟩
theorem lkL_79 : hh_lkV "HourHouseLaw" 79 hm_X11_feed := ⟨hh_in 791 (by decide +kernel) (by decide +kernel), hh_in 792 (by decide +kernel) (by decide +kernel), hh_in 793 (by decide +kernel) (by decide +kernel)⟩
theorem mo_X12_feed : hh_mok hm_X12_feed 3 := ⟨by decide, hh_in 1442 (by decide +kernel) (by decide +kernel), hh_in 82 (by decide +kernel) (by decide +kernel), ⟨by decide, by decide, (by decide +kernel)⟩, by decide⟩
theorem lkL_82 : hh_lkV "HourHouseLaw" 82 hm_X12_feed := ⟨hh_in 1439 (by decide +kernel) (by decide +kernel), hh_in 1440 (by decide +kernel) (by decide +kernel), hh_in 1441 (by decide +kernel) (by decide +kernel)⟩
theorem lw_case15 {X : hl_X} {i : Int} {σ : hh_S} (hX : hl_ok X) (h : hr_R σ) (hi : 0 ≤ i ∧ i + 5 < hl_L X) (kk : ∀ σ2 : hh_S, hr_R σ2 → hl_J X 1649 i [] σ2) : hl_J X 785 i [] σ := by
  refine hl_aload1 hX dL_law_785 ?_
  refine hl_arg (a := 1) hX dL_law_786 dL_law_787 dL_law_788 dL_law_789 dL_law_790 (by decide) hi ?_
  refine hl_arg (a := 2) hX dL_law_791 dL_law_792 dL_law_793 dL_law_794 dL_law_795 (by decide) hi ?_
  refine hl_arg (a := 3) hX dL_law_796 dL_law_797 dL_law_798 dL_law_799 dL_law_800 (by decide) hi ?_
  refine hl_call (as := [hh_I (hl_v X (i + 1)), hh_I (hl_v X (i + 2)), hh_I (hl_v X (i + 3))]) (st := []) hX dL_law_801 lkL_79 mo_X11_feed rc_0 (Nat.le_of_ble_eq_true rfl) (o_feed h) (fun r1 σ1 h1 => ?_)
  refine hl_aload2 hX dL_law_804 ?_
  refine hl_arg (a := 1) hX dL_law_805 dL_law_806 dL_law_807 dL_law_808 dL_law_809 (by decide) hi ?_
  refine hl_arg (a := 2) hX dL_law_810 dL_law_811 dL_law_812 dL_law_813 dL_law_814 (by decide) hi ?_
  refine hl_arg (a := 3) hX dL_law_815 dL_law_816 dL_law_817 dL_law_818 dL_law_819 (by decide) hi ?_
  refine hl_call (as := [hh_I (hl_v X (i + 1)), hh_I (hl_v X (i + 2)), hh_I (hl_v X (i + 3))]) (st := [hh_I r1]) hX dL_law_820 lkL_82 mo_X12_feed rc_128 (Nat.le_of_ble_eq_true rfl) h1 (fun r2 σ2 h2 => ?_)
  exact hl_eq (tgt := 1649) hX dL_law_823 (by decide) h2.1 (kk σ2 h2.2)
theorem mo_X11_trim : hh_mok hm_X11_trim 1 := ⟨by decide, hh_in 802 (by decide +kernel) (by decide +kernel), hh_in 70 (by decide +kernel) (by decide +kernel), ⟨by decide, by decide, (by decide +kernel)⟩, by decide⟩
theorem lkL_83 : hh_lkV "HourHouseLaw" 83 hm_X11_trim := ⟨hh_in 799 (by decide +kernel) (by decide +kernel), hh_in 800 (by decide +kernel) (by decide +kernel), hh_in 801 (by decide +kernel) (by decide +kernel)⟩
theorem mo_X12_trim : hh_mok hm_X12_trim 1 := ⟨by decide, hh_in 1446 (by decide +kernel) (by decide +kernel), hh_in 82 (by decide +kernel) (by decide +kernel), ⟨by decide, by decide, (by decide +kernel)⟩, by decide⟩
theorem lkL_86 : hh_lkV "HourHouseLaw" 86 hm_X12_trim := ⟨hh_in 1443 (by decide +kernel) (by decide +kernel), hh_in 1444 (by decide +kernel) (by decide +kernel), hh_in 1445 (by decide +kernel) (by decide +kernel)⟩
theorem lw_case16 {X : hl_X} {i : Int} {σ : hh_S} (hX : hl_ok X) (h : hr_R σ) (hi : 0 ≤ i ∧ i + 5 < hl_L X) (kk : ∀ σ2 : hh_S, hr_R σ2 → hl_J X 1649 i [] σ2) : hl_J X 828 i [] σ := by
  refine hl_aload1 hX dL_law_828 ?_
  refine hl_arg (a := 1) hX dL_law_829 dL_law_830 dL_law_831 dL_law_832 dL_law_833 (by decide) hi ?_
  refine hl_call (as := [hh_I (hl_v X (i + 1))]) (st := []) hX dL_law_834 lkL_83 mo_X11_trim rc_0 (Nat.le_of_ble_eq_true rfl) (o_trim h) (fun r1 σ1 h1 => ?_)
  refine hl_aload2 hX dL_law_837 ?_
  refine hl_arg (a := 1) hX dL_law_838 dL_law_839 dL_law_840 dL_law_841 dL_law_842 (by decide) hi ?_
  refine hl_call (as := [hh_I (hl_v X (i + 1))]) (st := [hh_I r1]) hX dL_law_843 lkL_86 mo_X12_trim rc_128 (Nat.le_of_ble_eq_true rfl) h1 (fun r2 σ2 h2 => ?_)
  exact hl_eq (tgt := 1649) hX dL_law_846 (by decide) h2.1 (kk σ2 h2.2)
theorem mo_X11_terms : hh_mok hm_X11_terms 2 := ⟨by decide, hh_in 806 (by decide +kernel) (by decide +kernel), hh_in 70 (by decide +kernel) (by decide +kernel), ⟨by decide, by decide, (by decide +kernel)⟩, by decide⟩
theorem lkL_87 : hh_lkV "HourHouseLaw" 87 hm_X11_terms := ⟨hh_in 803 (by decide +kernel) (by decide +kernel), hh_in 804 (by decide +kernel) (by decide +kernel), hh_in 805 (by decide +kernel) (by decide +kernel)⟩
theorem mo_X12_terms : hh_mok hm_X12_terms 2 := ⟨by decide, hh_in 1450 (by decide +kernel) (by decide +kernel), hh_in 82 (by decide +kernel) (by decide +kernel), ⟨by decide, by decide, (by decide +kernel)⟩, by decide⟩
theorem lkL_90 : hh_lkV "HourHouseLaw" 90 hm_X12_terms := ⟨hh_in 1447 (by decide +kernel) (by decide +kernel), hh_in 1448 (by decide +kernel) (by decide +kernel), hh_in 1449 (by decide +kernel) (by decide +kernel)⟩
theorem lw_case17 {X : hl_X} {i : Int} {σ : hh_S} (hX : hl_ok X) (h : hr_R σ) (hi : 0 ≤ i ∧ i + 5 < hl_L X) (kk : ∀ σ2 : hh_S, hr_R σ2 → hl_J X 1649 i [] σ2) : hl_J X 851 i [] σ := by
  refine hl_aload1 hX dL_law_851 ?_
  refine hl_arg (a := 1) hX dL_law_852 dL_law_853 dL_law_854 dL_law_855 dL_law_856 (by decide) hi ?_
  refine hl_arg (a := 2) hX dL_law_857 dL_law_858 dL_law_859 dL_law_860 dL_law_861 (by decide) hi ?_
  refine hl_call (as := [hh_I (hl_v X (i + 1)), hh_I (hl_v X (i + 2))]) (st := []) hX dL_law_862 lkL_87 mo_X11_terms rc_0 (Nat.le_of_ble_eq_true rfl) (o_terms h) (fun r1 σ1 h1 => ?_)
  refine hl_aload2 hX dL_law_865 ?_
  refine hl_arg (a := 1) hX dL_law_866 dL_law_867 dL_law_868 dL_law_869 dL_law_870 (by decide) hi ?_
  refine hl_arg (a := 2) hX dL_law_871 dL_law_872 dL_law_873 dL_law_874 dL_law_875 (by decide) hi ?_
  refine hl_call (as := [hh_I (hl_v X (i + 1)), hh_I (hl_v X (i + 2))]) (st := [hh_I r1]) hX dL_law_876 lkL_90 mo_X12_terms rc_128 (Nat.le_of_ble_eq_true rfl) h1 (fun r2 σ2 h2 => ?_)
  exact hl_eq (tgt := 1649) hX dL_law_879 (by decide) h2.1 (kk σ2 h2.2)
theorem mo_X11_bill : hh_mok hm_X11_bill 3 := ⟨by decide, hh_in 995 (by decide +kernel) (by decide +kernel), hh_in 70 (by decide +kernel) (by decide +kernel), ⟨by decide, by decide, (by decide +kernel)⟩, by decide⟩
theorem lkL_91 : hh_lkV "HourHouseLaw" 91 hm_X11_bill := ⟨hh_in 992 (by decide +kernel) (by decide +kernel), hh_in 993 (by decide +kernel) (by decide +kernel), hh_in 994 (by decide +kernel) (by decide +kernel)⟩
theorem mo_X12_bill : hh_mok hm_X12_bill 3 := ⟨by decide, hh_in 1547 (by decide +kernel) (by decide +kernel), hh_in 82 (by decide +kernel) (by decide +kernel), ⟨by decide, by decide, (by decide +kernel)⟩, by decide⟩
theorem lkL_94 : hh_lkV "HourHouseLaw" 94 hm_X12_bill := ⟨hh_in 1544 (by decide +kernel) (by decide +kernel), hh_in 1545 (by decide +kernel) (by decide +kernel), hh_in 1546 (by decide +kernel) (by decide +kernel)⟩
theorem lw_case18 {X : hl_X} {i : Int} {σ : hh_S} (hX : hl_ok X) (h : hr_R σ) (hi : 0 ≤ i ∧ i + 5 < hl_L X) (kk : ∀ σ2 : hh_S, hr_R σ2 → hl_J X 1649 i [] σ2) : hl_J X 884 i [] σ := by
  refine hl_aload1 hX dL_law_884 ?_
  refine hl_arg (a := 1) hX dL_law_885 dL_law_886 dL_law_887 dL_law_888 dL_law_889 (by decide) hi ?_
  refine hl_arg (a := 2) hX dL_law_890 dL_law_891 dL_law_892 dL_law_893 dL_law_894 (by decide) hi ?_
  refine hl_arg (a := 3) hX dL_law_895 dL_law_896 dL_law_897 dL_law_898 dL_law_899 (by decide) hi ?_
  refine hl_call (as := [hh_I (hl_v X (i + 1)), hh_I (hl_v X (i + 2)), hh_I (hl_v X (i + 3))]) (st := []) hX dL_law_900 lkL_91 mo_X11_bill rc_0 (Nat.le_of_ble_eq_true rfl) (o_bill h) (fun r1 σ1 h1 => ?_)
  refine hl_aload2 hX dL_law_903 ?_
  refine hl_arg (a := 1) hX dL_law_904 dL_law_905 dL_law_906 dL_law_907 dL_law_908 (by decide) hi ?_
  refine hl_arg (a := 2) hX dL_law_909 dL_law_910 dL_law_911 dL_law_912 dL_law_913 (by decide) hi ?_
  refine hl_arg (a := 3) hX dL_law_914 dL_law_915 dL_law_916 dL_law_917 dL_law_918 (by decide) hi ?_
  refine hl_call (as := [hh_I (hl_v X (i + 1)), hh_I (hl_v X (i + 2)), hh_I (hl_v X (i + 3))]) (st := [hh_I r1]) hX dL_law_919 lkL_94 mo_X12_bill rc_128 (Nat.le_of_ble_eq_true rfl) h1 (fun r2 σ2 h2 => ?_)
  exact hl_eq (tgt := 1649) hX dL_law_922 (by decide) h2.1 (kk σ2 h2.2)
theorem mo_X11_about : hh_mok hm_X11_about 2 := ⟨by decide, hh_in 1010 (by decide +kernel) (by decide +kernel), hh_in 70 (by decide +kernel) (by decide +kernel), ⟨by decide, by decide, (by decide +kernel)⟩, by decide⟩
theorem lkL_95 : hh_lkV "HourHouseLaw" 95 hm_X11_about := ⟨hh_in 1007 (by decide +kernel) (by decide +kernel), hh_in 1008 (by decide +kernel) (by decide +kernel), hh_in 1009 (by decide +kernel) (by decide +kernel)⟩
theorem mo_X12_about : hh_mok hm_X12_about 2 := ⟨by decide, hh_in 1556 (by decide +kernel) (by decide +kernel), hh_in 82 (by decide +kernel) (by decide +kernel), ⟨by decide, by decide, (by decide +kernel)⟩, by decide⟩
theorem lkL_98 : hh_lkV "HourHouseLaw" 98 hm_X12_about := ⟨hh_in 1553 (by decide +kernel) (by decide +kernel), hh_in 1554 (by decide +kernel) (by decide +kernel), hh_in 1555 (by decide +kernel) (by decide +kernel)⟩
theorem lw_case19 {X : hl_X} {i : Int} {σ : hh_S} (hX : hl_ok X) (h : hr_R σ) (hi : 0 ≤ i ∧ i + 5 < hl_L X) (kk : ∀ σ2 : hh_S, hr_R σ2 → hl_J X 1649 i [] σ2) : hl_J X 927 i [] σ := by
  refine hl_aload1 hX dL_law_927 ?_
  refine hl_arg (a := 1) hX dL_law_928 dL_law_929 dL_law_930 dL_law_931 dL_law_932 (by decide) hi ?_
  refine hl_arg (a := 2) hX dL_law_933 dL_law_934 dL_law_935 dL_law_936 dL_law_937 (by decide) hi ?_
  refine hl_call (as := [hh_I (hl_v X (i + 1)), hh_I (hl_v X (i + 2))]) (st := []) hX dL_law_938 lkL_95 mo_X11_about rc_0 (Nat.le_of_ble_eq_true rfl) (o_about h) (fun r1 σ1 h1 => ?_)
  refine hl_aload2 hX dL_law_941 ?_
  refine hl_arg (a := 1) hX dL_law_942 dL_law_943 dL_law_944 dL_law_945 dL_law_946 (by decide) hi ?_
  refine hl_arg (a := 2) hX dL_law_947 dL_law_948 dL_law_949 dL_law_950 dL_law_951 (by decide) hi ?_
  refine hl_call (as := [hh_I (hl_v X (i + 1)), hh_I (hl_v X (i + 2))]) (st := [hh_I r1]) hX dL_law_952 lkL_98 mo_X12_about rc_128 (Nat.le_of_ble_eq_true rfl) h1 (fun r2 σ2 h2 => ?_)
  exact hl_eq (tgt := 1649) hX dL_law_955 (by decide) h2.1 (kk σ2 h2.2)
theorem mo_X11_owes : hh_mok hm_X11_owes 3 := ⟨by decide, hh_in 1023 (by decide +kernel) (by decide +kernel), hh_in 70 (by decide +kernel) (by decide +kernel), ⟨by decide, by decide, (by decide +kernel)⟩, by decide⟩
theorem lkL_99 : hh_lkV "HourHouseLaw" 99 hm_X11_owes := ⟨hh_in 1020 (by decide +kernel) (by decide +kernel), hh_in 1021 (by decide +kernel) (by decide +kernel), hh_in 1022 (by decide +kernel) (by decide +kernel)⟩
theorem mo_X12_owes : hh_mok hm_X12_owes 3 := ⟨by decide, hh_in 1564 (by decide +kernel) (by decide +kernel), hh_in 82 (by decide +kernel) (by decide +kernel), ⟨by decide, by decide, (by decide +kernel)⟩, by decide⟩
theorem lkL_102 : hh_lkV "HourHouseLaw" 102 hm_X12_owes := ⟨hh_in 1561 (by decide +kernel) (by decide +kernel), hh_in 1562 (by decide +kernel) (by decide +kernel), hh_in 1563 (by decide +kernel) (by decide +kernel)⟩
theorem lw_case20 {X : hl_X} {i : Int} {σ : hh_S} (hX : hl_ok X) (h : hr_R σ) (hi : 0 ≤ i ∧ i + 5 < hl_L X) (kk : ∀ σ2 : hh_S, hr_R σ2 → hl_J X 1649 i [] σ2) : hl_J X 960 i [] σ := by
  refine hl_aload1 hX dL_law_960 ?_
  refine hl_arg (a := 1) hX dL_law_961 dL_law_962 dL_law_963 dL_law_964 dL_law_965 (by decide) hi ?_
  refine hl_arg (a := 2) hX dL_law_966 dL_law_967 dL_law_968 dL_law_969 dL_law_970 (by decide) hi ?_
  refine hl_arg (a := 3) hX dL_law_971 dL_law_972 dL_law_973 dL_law_974 dL_law_975 (by decide) hi ?_
  refine hl_call (as := [hh_I (hl_v X (i + 1)), hh_I (hl_v X (i + 2)), hh_I (hl_v X (i + 3))]) (st := []) hX dL_law_976 lkL_99 mo_X11_owes rc_0 (Nat.le_of_ble_eq_true rfl) (o_owes h) (fun r1 σ1 h1 => ?_)
  refine hl_aload2 hX dL_law_979 ?_
  refine hl_arg (a := 1) hX dL_law_980 dL_law_981 dL_law_982 dL_law_983 dL_law_984 (by decide) hi ?_
  refine hl_arg (a := 2) hX dL_law_985 dL_law_986 dL_law_987 dL_law_988 dL_law_989 (by decide) hi ?_
  refine hl_arg (a := 3) hX dL_law_990 dL_law_991 dL_law_992 dL_law_993 dL_law_994 (by decide) hi ?_
  refine hl_call (as := [hh_I (hl_v X (i + 1)), hh_I (hl_v X (i + 2)), hh_I (hl_v X (i + 3))]) (st := [hh_I r1]) hX dL_law_995 lkL_102 mo_X12_owes rc_128 (Nat.le_of_ble_eq_true rfl) h1 (fun r2 σ2 h2 => ?_)
  exact hl_eq (tgt := 1649) hX dL_law_998 (by decide) h2.1 (kk σ2 h2.2)
theorem mo_X11_retain : hh_mok hm_X11_retain 2 := ⟨by decide, hh_in 1040 (by decide +kernel) (by decide +kernel), hh_in 70 (by decide +kernel) (by decide +kernel), ⟨by decide, by decide, (by decide +kernel)⟩, by decide⟩
theorem lkL_103 : hh_lkV "HourHouseLaw" 103 hm_X11_retain := ⟨hh_in 1037 (by decide +kernel) (by decide +kernel), hh_in 1038 (by decide +kernel) (by decide +kernel), hh_in 1039 (by decide +kernel) (by decide +kernel)⟩
theorem mo_X12_retain : hh_mok hm_X12_retain 2 := ⟨by decide, hh_in 1569 (by decide +kernel) (by decide +kernel), hh_in 82 (by decide +kernel) (by decide +kernel), ⟨by decide, by decide, (by decide +kernel)⟩, by decide⟩
theorem lkL_106 : hh_lkV "HourHouseLaw" 106 hm_X12_retain := ⟨hh_in 1566 (by decide +kernel) (by decide +kernel), hh_in 1567 (by decide +kernel) (by decide +kernel), hh_in 1568 (by decide +kernel) (by decide +kernel)⟩
theorem lw_case21 {X : hl_X} {i : Int} {σ : hh_S} (hX : hl_ok X) (h : hr_R σ) (hi : 0 ≤ i ∧ i + 5 < hl_L X) (kk : ∀ σ2 : hh_S, hr_R σ2 → hl_J X 1649 i [] σ2) : hl_J X 1003 i [] σ := by
  refine hl_aload1 hX dL_law_1003 ?_
  refine hl_arg (a := 1) hX dL_law_1004 dL_law_1005 dL_law_1006 dL_law_1007 dL_law_1008 (by decide) hi ?_
  refine hl_arg (a := 2) hX dL_law_1009 dL_law_1010 dL_law_1011 dL_law_1012 dL_law_1013 (by decide) hi ?_
  refine hl_call (as := [hh_I (hl_v X (i + 1)), hh_I (hl_v X (i + 2))]) (st := []) hX dL_law_1014 lkL_103 mo_X11_retain rc_0 (Nat.le_of_ble_eq_true rfl) (o_retain h) (fun r1 σ1 h1 => ?_)
  refine hl_aload2 hX dL_law_1017 ?_
  refine hl_arg (a := 1) hX dL_law_1018 dL_law_1019 dL_law_1020 dL_law_1021 dL_law_1022 (by decide) hi ?_
  refine hl_arg (a := 2) hX dL_law_1023 dL_law_1024 dL_law_1025 dL_law_1026 dL_law_1027 (by decide) hi ?_
  refine hl_call (as := [hh_I (hl_v X (i + 1)), hh_I (hl_v X (i + 2))]) (st := [hh_I r1]) hX dL_law_1028 lkL_106 mo_X12_retain rc_128 (Nat.le_of_ble_eq_true rfl) h1 (fun r2 σ2 h2 => ?_)
  exact hl_eq (tgt := 1649) hX dL_law_1031 (by decide) h2.1 (kk σ2 h2.2)
theorem mo_X11_trust : hh_mok hm_X11_trust 2 := ⟨by decide, hh_in 1045 (by decide +kernel) (by decide +kernel), hh_in 70 (by decide +kernel) (by decide +kernel), ⟨by decide, by decide, (by decide +kernel)⟩, by decide⟩
theorem lkL_107 : hh_lkV "HourHouseLaw" 107 hm_X11_trust := ⟨hh_in 1042 (by decide +kernel) (by decide +kernel), hh_in 1043 (by decide +kernel) (by decide +kernel), hh_in 1044 (by decide +kernel) (by decide +kernel)⟩
theorem mo_X12_trust : hh_mok hm_X12_trust 2 := ⟨by decide, hh_in 1574 (by decide +kernel) (by decide +kernel), hh_in 82 (by decide +kernel) (by decide +kernel), ⟨by decide, by decide, (by decide +kernel)⟩, by decide⟩
theorem lkL_110 : hh_lkV "HourHouseLaw" 110 hm_X12_trust := ⟨hh_in 1571 (by decide +kernel) (by decide +kernel), hh_in 1572 (by decide +kernel) (by decide +kernel), hh_in 1573 (by decide +kernel) (by decide +kernel)⟩
theorem lw_case22 {X : hl_X} {i : Int} {σ : hh_S} (hX : hl_ok X) (h : hr_R σ) (hi : 0 ≤ i ∧ i + 5 < hl_L X) (kk : ∀ σ2 : hh_S, hr_R σ2 → hl_J X 1649 i [] σ2) : hl_J X 1036 i [] σ := by
  refine hl_aload1 hX dL_law_1036 ?_
  refine hl_arg (a := 1) hX dL_law_1037 dL_law_1038 dL_law_1039 dL_law_1040 dL_law_1041 (by decide) hi ?_
  refine hl_arg (a := 2) hX dL_law_1042 dL_law_1043 dL_law_1044 dL_law_1045 dL_law_1046 (by decide) hi ?_
  refine hl_call (as := [hh_I (hl_v X (i + 1)), hh_I (hl_v X (i + 2))]) (st := []) hX dL_law_1047 lkL_107 mo_X11_trust rc_0 (Nat.le_of_ble_eq_true rfl) (o_trust h) (fun r1 σ1 h1 => ?_)
  refine hl_aload2 hX dL_law_1050 ?_
  refine hl_arg (a := 1) hX dL_law_1051 dL_law_1052 dL_law_1053 dL_law_1054 dL_law_1055 (by decide) hi ?_
  refine hl_arg (a := 2) hX dL_law_1056 dL_law_1057 dL_law_1058 dL_law_1059 dL_law_1060 (by decide) hi ?_
  refine hl_call (as := [hh_I (hl_v X (i + 1)), hh_I (hl_v X (i + 2))]) (st := [hh_I r1]) hX dL_law_1061 lkL_110 mo_X12_trust rc_128 (Nat.le_of_ble_eq_true rfl) h1 (fun r2 σ2 h2 => ?_)
  exact hl_eq (tgt := 1649) hX dL_law_1064 (by decide) h2.1 (kk σ2 h2.2)
theorem mo_X11_draw : hh_mok hm_X11_draw 2 := ⟨by decide, hh_in 1050 (by decide +kernel) (by decide +kernel), hh_in 70 (by decide +kernel) (by decide +kernel), ⟨by decide, by decide, (by decide +kernel)⟩, by decide⟩
theorem lkL_111 : hh_lkV "HourHouseLaw" 111 hm_X11_draw := ⟨hh_in 1047 (by decide +kernel) (by decide +kernel), hh_in 1048 (by decide +kernel) (by decide +kernel), hh_in 1049 (by decide +kernel) (by decide +kernel)⟩
theorem mo_X12_draw : hh_mok hm_X12_draw 2 := ⟨by decide, hh_in 1579 (by decide +kernel) (by decide +kernel), hh_in 82 (by decide +kernel) (by decide +kernel), ⟨by decide, by decide, (by decide +kernel)⟩, by decide⟩
theorem lkL_114 : hh_lkV "HourHouseLaw" 114 hm_X12_draw := ⟨hh_in 1576 (by decide +kernel) (by decide +kernel), hh_in 1577 (by decide +kernel) (by decide +kernel), hh_in 1578 (by decide +kernel) (by decide +kernel)⟩
theorem lw_case23 {X : hl_X} {i : Int} {σ : hh_S} (hX : hl_ok X) (h : hr_R σ) (hi : 0 ≤ i ∧ i + 5 < hl_L X) (kk : ∀ σ2 : hh_S, hr_R σ2 → hl_J X 1649 i [] σ2) : hl_J X 1069 i [] σ := by
  refine hl_aload1 hX dL_law_1069 ?_
  refine hl_arg (a := 1) hX dL_law_1070 dL_law_1071 dL_law_1072 dL_law_1073 dL_law_1074 (by decide) hi ?_
  refine hl_arg (a := 2) hX dL_law_1075 dL_law_1076 dL_law_1077 dL_law_1078 dL_law_1079 (by decide) hi ?_
  refine hl_call (as := [hh_I (hl_v X (i + 1)), hh_I (hl_v X (i + 2))]) (st := []) hX dL_law_1080 lkL_111 mo_X11_draw rc_0 (Nat.le_of_ble_eq_true rfl) (o_draw h) (fun r1 σ1 h1 => ?_)
  refine hl_aload2 hX dL_law_1083 ?_
  refine hl_arg (a := 1) hX dL_law_1084 dL_law_1085 dL_law_1086 dL_law_1087 dL_law_1088 (by decide) hi ?_
  refine hl_arg (a := 2) hX dL_law_1089 dL_law_1090 dL_law_1091 dL_law_1092 dL_law_1093 (by decide) hi ?_
  refine hl_call (as := [hh_I (hl_v X (i + 1)), hh_I (hl_v X (i + 2))]) (st := [hh_I r1]) hX dL_law_1094 lkL_114 mo_X12_draw rc_128 (Nat.le_of_ble_eq_true rfl) h1 (fun r2 σ2 h2 => ?_)
  exact hl_eq (tgt := 1649) hX dL_law_1097 (by decide) h2.1 (kk σ2 h2.2)
theorem mo_X11_pay : hh_mok hm_X11_pay 3 := ⟨by decide, hh_in 1054 (by decide +kernel) (by decide +kernel), hh_in 70 (by decide +kernel) (by decide +kernel), ⟨by decide, by decide, (by decide +kernel)⟩, by decide⟩
theorem lkL_115 : hh_lkV "HourHouseLaw" 115 hm_X11_pay := ⟨hh_in 1051 (by decide +kernel) (by decide +kernel), hh_in 1052 (by decide +kernel) (by decide +kernel), hh_in 1053 (by decide +kernel) (by decide +kernel)⟩
theorem mo_X12_pay : hh_mok hm_X12_pay 3 := ⟨by decide, hh_in 1583 (by decide +kernel) (by decide +kernel), hh_in 82 (by decide +kernel) (by decide +kernel), ⟨by decide, by decide, (by decide +kernel)⟩, by decide⟩
theorem lkL_118 : hh_lkV "HourHouseLaw" 118 hm_X12_pay := ⟨hh_in 1580 (by decide +kernel) (by decide +kernel), hh_in 1581 (by decide +kernel) (by decide +kernel), hh_in 1582 (by decide +kernel) (by decide +kernel)⟩
theorem lw_case24 {X : hl_X} {i : Int} {σ : hh_S} (hX : hl_ok X) (h : hr_R σ) (hi : 0 ≤ i ∧ i + 5 < hl_L X) (kk : ∀ σ2 : hh_S, hr_R σ2 → hl_J X 1649 i [] σ2) : hl_J X 1102 i [] σ := by
  refine hl_aload1 hX dL_law_1102 ?_
  refine hl_arg (a := 1) hX dL_law_1103 dL_law_1104 dL_law_1105 dL_law_1106 dL_law_1107 (by decide) hi ?_
  refine hl_arg (a := 2) hX dL_law_1108 dL_law_1109 dL_law_1110 dL_law_1111 dL_law_1112 (by decide) hi ?_
  refine hl_arg (a := 3) hX dL_law_1113 dL_law_1114 dL_law_1115 dL_law_1116 dL_law_1117 (by decide) hi ?_
  refine hl_call (as := [hh_I (hl_v X (i + 1)), hh_I (hl_v X (i + 2)), hh_I (hl_v X (i + 3))]) (st := []) hX dL_law_1118 lkL_115 mo_X11_pay rc_0 (Nat.le_of_ble_eq_true rfl) (o_pay h) (fun r1 σ1 h1 => ?_)
  refine hl_aload2 hX dL_law_1121 ?_
  refine hl_arg (a := 1) hX dL_law_1122 dL_law_1123 dL_law_1124 dL_law_1125 dL_law_1126 (by decide) hi ?_
  refine hl_arg (a := 2) hX dL_law_1127 dL_law_1128 dL_law_1129 dL_law_1130 dL_law_1131 (by decide) hi ?_
  refine hl_arg (a := 3) hX dL_law_1132 dL_law_1133 dL_law_1134 dL_law_1135 dL_law_1136 (by decide) hi ?_
  refine hl_call (as := [hh_I (hl_v X (i + 1)), hh_I (hl_v X (i + 2)), hh_I (hl_v X (i + 3))]) (st := [hh_I r1]) hX dL_law_1137 lkL_118 mo_X12_pay rc_128 (Nat.le_of_ble_eq_true rfl) h1 (fun r2 σ2 h2 => ?_)
  exact hl_eq (tgt := 1649) hX dL_law_1140 (by decide) h2.1 (kk σ2 h2.2)
theorem mo_X11_contest : hh_mok hm_X11_contest 1 := ⟨by decide, hh_in 1058 (by decide +kernel) (by decide +kernel), hh_in 70 (by decide +kernel) (by decide +kernel), ⟨by decide, by decide, (by decide +kernel)⟩, by decide⟩
theorem lkL_119 : hh_lkV "HourHouseLaw" 119 hm_X11_contest := ⟨hh_in 1055 (by decide +kernel) (by decide +kernel), hh_in 1056 (by decide +kernel) (by decide +kernel), hh_in 1057 (by decide +kernel) (by decide +kernel)⟩
theorem mo_X12_contest : hh_mok hm_X12_contest 1 := ⟨by decide, hh_in 1599 (by decide +kernel) (by decide +kernel), hh_in 82 (by decide +kernel) (by decide +kernel), ⟨by decide, by decide, (by decide +kernel)⟩, by decide⟩
theorem lkL_122 : hh_lkV "HourHouseLaw" 122 hm_X12_contest := ⟨hh_in 1596 (by decide +kernel) (by decide +kernel), hh_in 1597 (by decide +kernel) (by decide +kernel), hh_in 1598 (by decide +kernel) (by decide +kernel)⟩
theorem lw_case25 {X : hl_X} {i : Int} {σ : hh_S} (hX : hl_ok X) (h : hr_R σ) (hi : 0 ≤ i ∧ i + 5 < hl_L X) (kk : ∀ σ2 : hh_S, hr_R σ2 → hl_J X 1649 i [] σ2) : hl_J X 1145 i [] σ := by
  refine hl_aload1 hX dL_law_1145 ?_
  refine hl_arg (a := 1) hX dL_law_1146 dL_law_1147 dL_law_1148 dL_law_1149 dL_law_1150 (by decide) hi ?_
  refine hl_call (as := [hh_I (hl_v X (i + 1))]) (st := []) hX dL_law_1151 lkL_119 mo_X11_contest rc_0 (Nat.le_of_ble_eq_true rfl) (o_contest h) (fun r1 σ1 h1 => ?_)
  refine hl_aload2 hX dL_law_1154 ?_
  refine hl_arg (a := 1) hX dL_law_1155 dL_law_1156 dL_law_1157 dL_law_1158 dL_law_1159 (by decide) hi ?_
  refine hl_call (as := [hh_I (hl_v X (i + 1))]) (st := [hh_I r1]) hX dL_law_1160 lkL_122 mo_X12_contest rc_128 (Nat.le_of_ble_eq_true rfl) h1 (fun r2 σ2 h2 => ?_)
  exact hl_eq (tgt := 1649) hX dL_law_1163 (by decide) h2.1 (kk σ2 h2.2)
theorem mo_X11_middle : hh_mok hm_X11_middle 1 := ⟨by decide, hh_in 1079 (by decide +kernel) (by decide +kernel), hh_in 70 (by decide +kernel) (by decide +kernel), ⟨by decide, by decide, (by decide +kernel)⟩, by decide⟩
theorem lkL_123 : hh_lkV "HourHouseLaw" 123 hm_X11_middle := ⟨hh_in 1076 (by decide +kernel) (by decide +kernel), hh_in 1077 (by decide +kernel) (by decide +kernel), hh_in 1078 (by decide +kernel) (by decide +kernel)⟩
theorem mo_X12_middle : hh_mok hm_X12_middle 1 := ⟨by decide, hh_in 1591 (by decide +kernel) (by decide +kernel), hh_in 82 (by decide +kernel) (by decide +kernel), ⟨by decide, by decide, (by decide +kernel)⟩, by decide⟩
theorem lkL_126 : hh_lkV "HourHouseLaw" 126 hm_X12_middle := ⟨hh_in 1588 (by decide +kernel) (by decide +kernel), hh_in 1589 (by decide +kernel) (by decide +kernel), hh_in 1590 (by decide +kernel) (by decide +kernel)⟩
theorem lw_case26 {X : hl_X} {i : Int} {σ : hh_S} (hX : hl_ok X) (h : hr_R σ) (hi : 0 ≤ i ∧ i + 5 < hl_L X) (kk : ∀ σ2 : hh_S, hr_R σ2 → hl_J X 1649 i [] σ2) : hl_J X 1168 i [] σ := by
  refine hl_aload1 hX dL_law_1168 ?_
  refine hl_arg (a := 1) hX dL_law_1169 dL_law_1170 dL_law_1171 dL_law_1172 dL_law_1173 (by decide) hi ?_
  refine hl_call (as := [hh_I (hl_v X (i + 1))]) (st := []) hX dL_law_1174 lkL_123 mo_X11_middle rc_0 (Nat.le_of_ble_eq_true rfl) (o_middle h) (fun r1 σ1 h1 => ?_)
  refine hl_aload2 hX dL_law_1177 ?_
  refine hl_arg (a := 1) hX dL_law_1178 dL_law_1179 dL_law_1180 dL_law_1181 dL_law_1182 (by decide) hi ?_
  refine hl_call (as := [hh_I (hl_v X (i + 1))]) (st := [hh_I r1]) hX dL_law_1183 lkL_126 mo_X12_middle rc_128 (Nat.le_of_ble_eq_true rfl) h1 (fun r2 σ2 h2 => ?_)
  exact hl_eq (tgt := 1649) hX dL_law_1186 (by decide) h2.1 (kk σ2 h2.2)
theorem mo_X11_stage : hh_mok hm_X11_stage 2 := ⟨by decide, hh_in 1083 (by decide +kernel) (by decide +kernel), hh_in 70 (by decide +kernel) (by decide +kernel), ⟨by decide, by decide, (by decide +kernel)⟩, by decide⟩
theorem lkL_127 : hh_lkV "HourHouseLaw" 127 hm_X11_stage := ⟨hh_in 1080 (by decide +kernel) (by decide +kernel), hh_in 1081 (by decide +kernel) (by decide +kernel), hh_in 1082 (by decide +kernel) (by decide +kernel)⟩
theorem mo_X12_stage : hh_mok hm_X12_stage 2 := ⟨by decide, hh_in 1603 (by decide +kernel) (by decide +kernel), hh_in 82 (by decide +kernel) (by decide +kernel), ⟨by decide, by decide, (by decide +kernel)⟩, by decide⟩
theorem lkL_130 : hh_lkV "HourHouseLaw" 130 hm_X12_stage := ⟨hh_in 1600 (by decide +kernel) (by decide +kernel), hh_in 1601 (by decide +kernel) (by decide +kernel), hh_in 1602 (by decide +kernel) (by decide +kernel)⟩
theorem lw_case27 {X : hl_X} {i : Int} {σ : hh_S} (hX : hl_ok X) (h : hr_R σ) (hi : 0 ≤ i ∧ i + 5 < hl_L X) (kk : ∀ σ2 : hh_S, hr_R σ2 → hl_J X 1649 i [] σ2) : hl_J X 1191 i [] σ := by
  refine hl_aload1 hX dL_law_1191 ?_
  refine hl_arg (a := 1) hX dL_law_1192 dL_law_1193 dL_law_1194 dL_law_1195 dL_law_1196 (by decide) hi ?_
  refine hl_arg (a := 2) hX dL_law_1197 dL_law_1198 dL_law_1199 dL_law_1200 dL_law_1201 (by decide) hi ?_
  refine hl_call (as := [hh_I (hl_v X (i + 1)), hh_I (hl_v X (i + 2))]) (st := []) hX dL_law_1202 lkL_127 mo_X11_stage rc_0 (Nat.le_of_ble_eq_true rfl) (o_stage h) (fun r1 σ1 h1 => ?_)
  refine hl_aload2 hX dL_law_1205 ?_
  refine hl_arg (a := 1) hX dL_law_1206 dL_law_1207 dL_law_1208 dL_law_1209 dL_law_1210 (by decide) hi ?_
  refine hl_arg (a := 2) hX dL_law_1211 dL_law_1212 dL_law_1213 dL_law_1214 dL_law_1215 (by decide) hi ?_
  refine hl_call (as := [hh_I (hl_v X (i + 1)), hh_I (hl_v X (i + 2))]) (st := [hh_I r1]) hX dL_law_1216 lkL_130 mo_X12_stage rc_128 (Nat.le_of_ble_eq_true rfl) h1 (fun r2 σ2 h2 => ?_)
  exact hl_eq (tgt := 1649) hX dL_law_1219 (by decide) h2.1 (kk σ2 h2.2)
theorem mo_X11_foretold : hh_mok hm_X11_foretold 2 := ⟨by decide, hh_in 1087 (by decide +kernel) (by decide +kernel), hh_in 70 (by decide +kernel) (by decide +kernel), ⟨by decide, by decide, (by decide +kernel)⟩, by decide⟩
theorem lkL_131 : hh_lkV "HourHouseLaw" 131 hm_X11_foretold := ⟨hh_in 1084 (by decide +kernel) (by decide +kernel), hh_in 1085 (by decide +kernel) (by decide +kernel), hh_in 1086 (by decide +kernel) (by decide +kernel)⟩
theorem mo_X12_foretold : hh_mok hm_X12_foretold 2 := ⟨by decide, hh_in 1607 (by decide +kernel) (by decide +kernel), hh_in 82 (by decide +kernel) (by decide +kernel), ⟨by decide, by decide, (by decide +kernel)⟩, by decide⟩
theorem lkL_134 : hh_lkV "HourHouseLaw" 134 hm_X12_foretold := ⟨hh_in 1604 (by decide +kernel) (by decide +kernel), hh_in 1605 (by decide +kernel) (by decide +kernel), hh_in 1606 (by decide +kernel) (by decide +kernel)⟩
theorem lw_case28 {X : hl_X} {i : Int} {σ : hh_S} (hX : hl_ok X) (h : hr_R σ) (hi : 0 ≤ i ∧ i + 5 < hl_L X) (kk : ∀ σ2 : hh_S, hr_R σ2 → hl_J X 1649 i [] σ2) : hl_J X 1224 i [] σ := by
  refine hl_aload1 hX dL_law_1224 ?_
  refine hl_arg (a := 1) hX dL_law_1225 dL_law_1226 dL_law_1227 dL_law_1228 dL_law_1229 (by decide) hi ?_
  refine hl_arg (a := 2) hX dL_law_1230 dL_law_1231 dL_law_1232 dL_law_1233 dL_law_1234 (by decide) hi ?_
  refine hl_call (as := [hh_I (hl_v X (i + 1)), hh_I (hl_v X (i + 2))]) (st := []) hX dL_law_1235 lkL_131 mo_X11_foretold rc_0 (Nat.le_of_ble_eq_true rfl) (o_foretold h) (fun r1 σ1 h1 => ?_)
  refine hl_aload2 hX dL_law_1238 ?_
  refine hl_arg (a := 1) hX dL_law_1239 dL_law_1240 dL_law_1241 dL_law_1242 dL_law_1243 (by decide) hi ?_
  refine hl_arg (a := 2) hX dL_law_1244 dL_law_1245 dL_law_1246 dL_law_1247 dL_law_1248 (by decide) hi ?_
  refine hl_call (as := [hh_I (hl_v X (i + 1)), hh_I (hl_v X (i + 2))]) (st := [hh_I r1]) hX dL_law_1249 lkL_134 mo_X12_foretold rc_128 (Nat.le_of_ble_eq_true rfl) h1 (fun r2 σ2 h2 => ?_)
  exact hl_eq (tgt := 1649) hX dL_law_1252 (by decide) h2.1 (kk σ2 h2.2)
theorem mo_X11_task : hh_mok hm_X11_task 3 := ⟨by decide, hh_in 1095 (by decide +kernel) (by decide +kernel), hh_in 70 (by decide +kernel) (by decide +kernel), ⟨by decide, by decide, (by decide +kernel)⟩, by decide⟩
theorem lkL_135 : hh_lkV "HourHouseLaw" 135 hm_X11_task := ⟨hh_in 1092 (by decide +kernel) (by decide +kernel), hh_in 1093 (by decide +kernel) (by decide +kernel), hh_in 1094 (by decide +kernel) (by decide +kernel)⟩
theorem mo_X12_task : hh_mok hm_X12_task 3 := ⟨by decide, hh_in 1614 (by decide +kernel) (by decide +kernel), hh_in 82 (by decide +kernel) (by decide +kernel), ⟨by decide, by decide, (by decide +kernel)⟩, by decide⟩
theorem lkL_138 : hh_lkV "HourHouseLaw" 138 hm_X12_task := ⟨hh_in 1611 (by decide +kernel) (by decide +kernel), hh_in 1612 (by decide +kernel) (by decide +kernel), hh_in 1613 (by decide +kernel) (by decide +kernel)⟩
theorem lw_case29 {X : hl_X} {i : Int} {σ : hh_S} (hX : hl_ok X) (h : hr_R σ) (hi : 0 ≤ i ∧ i + 5 < hl_L X) (kk : ∀ σ2 : hh_S, hr_R σ2 → hl_J X 1649 i [] σ2) : hl_J X 1257 i [] σ := by
  refine hl_aload1 hX dL_law_1257 ?_
  refine hl_arg (a := 1) hX dL_law_1258 dL_law_1259 dL_law_1260 dL_law_1261 dL_law_1262 (by decide) hi ?_
  refine hl_arg (a := 2) hX dL_law_1263 dL_law_1264 dL_law_1265 dL_law_1266 dL_law_1267 (by decide) hi ?_
  refine hl_arg (a := 3) hX dL_law_1268 dL_law_1269 dL_law_1270 dL_law_1271 dL_law_1272 (by decide) hi ?_
  refine hl_call (as := [hh_I (hl_v X (i + 1)), hh_I (hl_v X (i + 2)), hh_I (hl_v X (i + 3))]) (st := []) hX dL_law_1273 lkL_135 mo_X11_task rc_0 (Nat.le_of_ble_eq_true rfl) (o_task h) (fun r1 σ1 h1 => ?_)
  refine hl_aload2 hX dL_law_1276 ?_
  refine hl_arg (a := 1) hX dL_law_1277 dL_law_1278 dL_law_1279 dL_law_1280 dL_law_1281 (by decide) hi ?_
  refine hl_arg (a := 2) hX dL_law_1282 dL_law_1283 dL_law_1284 dL_law_1285 dL_law_1286 (by decide) hi ?_
  refine hl_arg (a := 3) hX dL_law_1287 dL_law_1288 dL_law_1289 dL_law_1290 dL_law_1291 (by decide) hi ?_
  refine hl_call (as := [hh_I (hl_v X (i + 1)), hh_I (hl_v X (i + 2)), hh_I (hl_v X (i + 3))]) (st := [hh_I r1]) hX dL_law_1292 lkL_138 mo_X12_task rc_128 (Nat.le_of_ble_eq_true rfl) h1 (fun r2 σ2 h2 => ?_)
  exact hl_eq (tgt := 1649) hX dL_law_1295 (by decide) h2.1 (kk σ2 h2.2)
theorem mo_X11_clear : hh_mok hm_X11_clear 0 := ⟨by decide, hh_in 1099 (by decide +kernel) (by decide +kernel), hh_in 70 (by decide +kernel) (by decide +kernel), ⟨by decide, by decide, (by decide +kernel)⟩, by decide⟩
theorem lkL_139 : hh_lkV "HourHouseLaw" 139 hm_X11_clear := ⟨hh_in 1096 (by decide +kernel) (by decide +kernel), hh_in 1097 (by decide +kernel) (by decide +kernel), hh_in 1098 (by decide +kernel) (by decide +kernel)⟩
theorem mo_X12_clear : hh_mok hm_X12_clear 0 := ⟨by decide, hh_in 1618 (by decide +kernel) (by decide +kernel), hh_in 82 (by decide +kernel) (by decide +kernel), ⟨by decide, by decide, (by decide +kernel)⟩, by decide⟩
theorem lkL_142 : hh_lkV "HourHouseLaw" 142 hm_X12_clear := ⟨hh_in 1615 (by decide +kernel) (by decide +kernel), hh_in 1616 (by decide +kernel) (by decide +kernel), hh_in 1617 (by decide +kernel) (by decide +kernel)⟩
theorem lw_case30 {X : hl_X} {i : Int} {σ : hh_S} (hX : hl_ok X) (h : hr_R σ) (hi : 0 ≤ i ∧ i + 5 < hl_L X) (kk : ∀ σ2 : hh_S, hr_R σ2 → hl_J X 1649 i [] σ2) : hl_J X 1300 i [] σ := by
  refine hl_aload1 hX dL_law_1300 ?_
  refine hl_call (as := []) (st := []) hX dL_law_1301 lkL_139 mo_X11_clear rc_0 (Nat.le_of_ble_eq_true rfl) (o_clear h) (fun r1 σ1 h1 => ?_)
  refine hl_aload2 hX dL_law_1304 ?_
  refine hl_call (as := []) (st := [hh_I r1]) hX dL_law_1305 lkL_142 mo_X12_clear rc_128 (Nat.le_of_ble_eq_true rfl) h1 (fun r2 σ2 h2 => ?_)
  exact hl_eq (tgt := 1649) hX dL_law_1308 (by decide) h2.1 (kk σ2 h2.2)
theorem mo_X11_free : hh_mok hm_X11_free 2 := ⟨by decide, hh_in 1103 (by decide +kernel) (by decide +kernel), hh_in 70 (by decide +kernel) (by decide +kernel), ⟨by decide, by decide, (by decide +kernel)⟩, by decide⟩
theorem lkL_143 : hh_lkV "HourHouseLaw" 143 hm_X11_free := ⟨hh_in 1100 (by decide +kernel) (by decide +kernel), hh_in 1101 (by decide +kernel) (by decide +kernel), hh_in 1102 (by decide +kernel) (by decide +kernel)⟩
theorem mo_X12_free : hh_mok hm_X12_free 2 := ⟨by decide, hh_in 1622 (by decide +kernel) (by decide +kernel), hh_in 82 (by decide +kernel) (by decide +kernel), ⟨by decide, by decide, (by decide +kernel)⟩, by decide⟩
theorem lkL_146 : hh_lkV "HourHouseLaw" 146 hm_X12_free := ⟨hh_in 1619 (by decide +kernel) (by decide +kernel), hh_in 1620 (by decide +kernel) (by decide +kernel), hh_in 1621 (by decide +kernel) (by decide +kernel)⟩
theorem lw_case31 {X : hl_X} {i : Int} {σ : hh_S} (hX : hl_ok X) (h : hr_R σ) (hi : 0 ≤ i ∧ i + 5 < hl_L X) (kk : ∀ σ2 : hh_S, hr_R σ2 → hl_J X 1649 i [] σ2) : hl_J X 1313 i [] σ := by
  refine hl_aload1 hX dL_law_1313 ?_
  refine hl_arg (a := 1) hX dL_law_1314 dL_law_1315 dL_law_1316 dL_law_1317 dL_law_1318 (by decide) hi ?_
  refine hl_arg (a := 2) hX dL_law_1319 dL_law_1320 dL_law_1321 dL_law_1322 dL_law_1323 (by decide) hi ?_
  refine hl_call (as := [hh_I (hl_v X (i + 1)), hh_I (hl_v X (i + 2))]) (st := []) hX dL_law_1324 lkL_143 mo_X11_free rc_0 (Nat.le_of_ble_eq_true rfl) (o_free h) (fun r1 σ1 h1 => ?_)
  refine hl_aload2 hX dL_law_1327 ?_
  refine hl_arg (a := 1) hX dL_law_1328 dL_law_1329 dL_law_1330 dL_law_1331 dL_law_1332 (by decide) hi ?_
  refine hl_arg (a := 2) hX dL_law_1333 dL_law_1334 dL_law_1335 dL_law_1336 dL_law_1337 (by decide) hi ?_
  refine hl_call (as := [hh_I (hl_v X (i + 1)), hh_I (hl_v X (i + 2))]) (st := [hh_I r1]) hX dL_law_1338 lkL_146 mo_X12_free rc_128 (Nat.le_of_ble_eq_true rfl) h1 (fun r2 σ2 h2 => ?_)
  exact hl_eq (tgt := 1649) hX dL_law_1341 (by decide) h2.1 (kk σ2 h2.2)
theorem mo_X11_lay : hh_mok hm_X11_lay 1 := ⟨by decide, hh_in 1107 (by decide +kernel) (by decide +kernel), hh_in 70 (by decide +kernel) (by decide +kernel), ⟨by decide, by decide, (by decide +kernel)⟩, by decide⟩
theorem lkL_147 : hh_lkV "HourHouseLaw" 147 hm_X11_lay := ⟨hh_in 1104 (by decide +kernel) (by decide +kernel), hh_in 1105 (by decide +kernel) (by decide +kernel), hh_in 1106 (by decide +kernel) (by decide +kernel)⟩
theorem mo_X12_lay : hh_mok hm_X12_lay 1 := ⟨by decide, hh_in 1626 (by decide +kernel) (by decide +kernel), hh_in 82 (by decide +kernel) (by decide +kernel), ⟨by decide, by decide, (by decide +kernel)⟩, by decide⟩
theorem lkL_150 : hh_lkV "HourHouseLaw" 150 hm_X12_lay := ⟨hh_in 1623 (by decide +kernel) (by decide +kernel), hh_in 1624 (by decide +kernel) (by decide +kernel), hh_in 1625 (by decide +kernel) (by decide +kernel)⟩
theorem lw_case32 {X : hl_X} {i : Int} {σ : hh_S} (hX : hl_ok X) (h : hr_R σ) (hi : 0 ≤ i ∧ i + 5 < hl_L X) (kk : ∀ σ2 : hh_S, hr_R σ2 → hl_J X 1649 i [] σ2) : hl_J X 1346 i [] σ := by
  refine hl_aload1 hX dL_law_1346 ?_
  refine hl_arg (a := 1) hX dL_law_1347 dL_law_1348 dL_law_1349 dL_law_1350 dL_law_1351 (by decide) hi ?_
  refine hl_call (as := [hh_I (hl_v X (i + 1))]) (st := []) hX dL_law_1352 lkL_147 mo_X11_lay rc_0 (Nat.le_of_ble_eq_true rfl) (o_lay h) (fun r1 σ1 h1 => ?_)
  refine hl_aload2 hX dL_law_1355 ?_
  refine hl_arg (a := 1) hX dL_law_1356 dL_law_1357 dL_law_1358 dL_law_1359 dL_law_1360 (by decide) hi ?_
  refine hl_call (as := [hh_I (hl_v X (i + 1))]) (st := [hh_I r1]) hX dL_law_1361 lkL_150 mo_X12_lay rc_128 (Nat.le_of_ble_eq_true rfl) h1 (fun r2 σ2 h2 => ?_)
  exact hl_eq (tgt := 1649) hX dL_law_1364 (by decide) h2.1 (kk σ2 h2.2)
theorem mo_X11_plan : hh_mok hm_X11_plan 1 := ⟨by decide, hh_in 1112 (by decide +kernel) (by decide +kernel), hh_in 70 (by decide +kernel) (by decide +kernel), ⟨by decide, by decide, (by decide +kernel)⟩, by decide⟩
theorem lkL_151 : hh_lkV "HourHouseLaw" 151 hm_X11_plan := ⟨hh_in 1109 (by decide +kernel) (by decide +kernel), hh_in 1110 (by decide +kernel) (by decide +kernel), hh_in 1111 (by decide +kernel) (by decide +kernel)⟩
theorem mo_X12_plan : hh_mok hm_X12_plan 1 := ⟨by decide, hh_in 1631 (by decide +kernel) (by decide +kernel), hh_in 82 (by decide +kernel) (by decide +kernel), ⟨by decide, by decide, (by decide +kernel)⟩, by decide⟩
theorem lkL_154 : hh_lkV "HourHouseLaw" 154 hm_X12_plan := ⟨hh_in 1628 (by decide +kernel) (by decide +kernel), hh_in 1629 (by decide +kernel) (by decide +kernel), hh_in 1630 (by decide +kernel) (by decide +kernel)⟩
theorem lw_case33 {X : hl_X} {i : Int} {σ : hh_S} (hX : hl_ok X) (h : hr_R σ) (hi : 0 ≤ i ∧ i + 5 < hl_L X) (kk : ∀ σ2 : hh_S, hr_R σ2 → hl_J X 1649 i [] σ2) : hl_J X 1369 i [] σ := by
  refine hl_aload1 hX dL_law_1369 ?_
  refine hl_arg (a := 1) hX dL_law_1370 dL_law_1371 dL_law_1372 dL_law_1373 dL_law_1374 (by decide) hi ?_
  refine hl_call (as := [hh_I (hl_v X (i + 1))]) (st := []) hX dL_law_1375 lkL_151 mo_X11_plan rc_0 (Nat.le_of_ble_eq_true rfl) (o_plan h) (fun r1 σ1 h1 => ?_)
  refine hl_aload2 hX dL_law_1378 ?_
  refine hl_arg (a := 1) hX dL_law_1379 dL_law_1380 dL_law_1381 dL_law_1382 dL_law_1383 (by decide) hi ?_
  refine hl_call (as := [hh_I (hl_v X (i + 1))]) (st := [hh_I r1]) hX dL_law_1384 lkL_154 mo_X12_plan rc_128 (Nat.le_of_ble_eq_true rfl) h1 (fun r2 σ2 h2 => ?_)
  exact hl_eq (tgt := 1649) hX dL_law_1387 (by decide) h2.1 (kk σ2 h2.2)
theorem mo_X11_planned : hh_mok hm_X11_planned 2 := ⟨by decide, hh_in 1139 (by decide +kernel) (by decide +kernel), hh_in 70 (by decide +kernel) (by decide +kernel), ⟨by decide, by decide, (by decide +kernel)⟩, by decide⟩
theorem lkL_155 : hh_lkV "HourHouseLaw" 155 hm_X11_planned := ⟨hh_in 1136 (by decide +kernel) (by decide +kernel), hh_in 1137 (by decide +kernel) (by decide +kernel), hh_in 1138 (by decide +kernel) (by decide +kernel)⟩
theorem mo_X12_planned : hh_mok hm_X12_planned 2 := ⟨by decide, hh_in 1648 (by decide +kernel) (by decide +kernel), hh_in 82 (by decide +kernel) (by decide +kernel), ⟨by decide, by decide, (by decide +kernel)⟩, by decide⟩
theorem lkL_158 : hh_lkV "HourHouseLaw" 158 hm_X12_planned := ⟨hh_in 1645 (by decide +kernel) (by decide +kernel), hh_in 1646 (by decide +kernel) (by decide +kernel), hh_in 1647 (by decide +kernel) (by decide +kernel)⟩
theorem lw_case34 {X : hl_X} {i : Int} {σ : hh_S} (hX : hl_ok X) (h : hr_R σ) (hi : 0 ≤ i ∧ i + 5 < hl_L X) (kk : ∀ σ2 : hh_S, hr_R σ2 → hl_J X 1649 i [] σ2) : hl_J X 1392 i [] σ := by
  refine hl_aload1 hX dL_law_1392 ?_
  refine hl_arg (a := 1) hX dL_law_1393 dL_law_1394 dL_law_1395 dL_law_1396 dL_law_1397 (by decide) hi ?_
  refine hl_arg (a := 2) hX dL_law_1398 dL_law_1399 dL_law_1400 dL_law_1401 dL_law_1402 (by decide) hi ?_
  refine hl_call (as := [hh_I (hl_v X (i + 1)), hh_I (hl_v X (i + 2))]) (st := []) hX dL_law_1403 lkL_155 mo_X11_planned rc_0 (Nat.le_of_ble_eq_true rfl) (o_planned h) (fun r1 σ1 h1 => ?_)
  refine hl_aload2 hX dL_law_1406 ?_
  refine hl_arg (a := 1) hX dL_law_1407 dL_law_1408 dL_law_1409 dL_law_1410 dL_law_1411 (by decide) hi ?_
  refine hl_arg (a := 2) hX dL_law_1412 dL_law_1413 dL_law_1414 dL_law_1415 dL_law_1416 (by decide) hi ?_
  refine hl_call (as := [hh_I (hl_v X (i + 1)), hh_I (hl_v X (i + 2))]) (st := [hh_I r1]) hX dL_law_1417 lkL_158 mo_X12_planned rc_128 (Nat.le_of_ble_eq_true rfl) h1 (fun r2 σ2 h2 => ?_)
  exact hl_eq (tgt := 1649) hX dL_law_1420 (by decide) h2.1 (kk σ2 h2.2)
theorem mo_X11_tell : hh_mok hm_X11_tell 1 := ⟨by decide, hh_in 1143 (by decide +kernel) (by decide +kernel), hh_in 70 (by decide +kernel) (by decide +kernel), ⟨by decide, by decide, (by decide +kernel)⟩, by decide⟩
theorem lkL_159 : hh_lkV "HourHouseLaw" 159 hm_X11_tell := ⟨hh_in 1140 (by decide +kernel) (by decide +kernel), hh_in 1141 (by decide +kernel) (by decide +kernel), hh_in 1142 (by decide +kernel) (by decide +kernel)⟩
theorem mo_X12_tell : hh_mok hm_X12_tell 1 := ⟨by decide, hh_in 1652 (by decide +kernel) (by decide +kernel), hh_in 82 (by decide +kernel) (by decide +kernel), ⟨by decide, by decide, (by decide +kernel)⟩, by decide⟩
theorem lkL_162 : hh_lkV "HourHouseLaw" 162 hm_X12_tell := ⟨hh_in 1649 (by decide +kernel) (by decide +kernel), hh_in 1650 (by decide +kernel) (by decide +kernel), hh_in 1651 (by decide +kernel) (by decide +kernel)⟩
theorem lw_case35 {X : hl_X} {i : Int} {σ : hh_S} (hX : hl_ok X) (h : hr_R σ) (hi : 0 ≤ i ∧ i + 5 < hl_L X) (kk : ∀ σ2 : hh_S, hr_R σ2 → hl_J X 1649 i [] σ2) : hl_J X 1425 i [] σ := by
  refine hl_aload1 hX dL_law_1425 ?_
  refine hl_arg (a := 1) hX dL_law_1426 dL_law_1427 dL_law_1428 dL_law_1429 dL_law_1430 (by decide) hi ?_
  refine hl_call (as := [hh_I (hl_v X (i + 1))]) (st := []) hX dL_law_1431 lkL_159 mo_X11_tell rc_0 (Nat.le_of_ble_eq_true rfl) (o_tell h) (fun r1 σ1 h1 => ?_)
  refine hl_aload2 hX dL_law_1434 ?_
  refine hl_arg (a := 1) hX dL_law_1435 dL_law_1436 dL_law_1437 dL_law_1438 dL_law_1439 (by decide) hi ?_
  refine hl_call (as := [hh_I (hl_v X (i + 1))]) (st := [hh_I r1]) hX dL_law_1440 lkL_162 mo_X12_tell rc_128 (Nat.le_of_ble_eq_true rfl) h1 (fun r2 σ2 h2 => ?_)
  exact hl_eq (tgt := 1649) hX dL_law_1443 (by decide) h2.1 (kk σ2 h2.2)
theorem mo_X11_check : hh_mok hm_X11_check 0 := ⟨by decide, hh_in 1147 (by decide +kernel) (by decide +kernel), hh_in 70 (by decide +kernel) (by decide +kernel), ⟨by decide, by decide, (by decide +kernel)⟩, by decide⟩
theorem lkL_163 : hh_lkV "HourHouseLaw" 163 hm_X11_check := ⟨hh_in 1144 (by decide +kernel) (by decide +kernel), hh_in 1145 (by decide +kernel) (by decide +kernel), hh_in 1146 (by decide +kernel) (by decide +kernel)⟩
theorem mo_X12_check : hh_mok hm_X12_check 0 := ⟨by decide, hh_in 1656 (by decide +kernel) (by decide +kernel), hh_in 82 (by decide +kernel) (by decide +kernel), ⟨by decide, by decide, (by decide +kernel)⟩, by decide⟩
theorem lkL_166 : hh_lkV "HourHouseLaw" 166 hm_X12_check := ⟨hh_in 1653 (by decide +kernel) (by decide +kernel), hh_in 1654 (by decide +kernel) (by decide +kernel), hh_in 1655 (by decide +kernel) (by decide +kernel)⟩
theorem lw_case36 {X : hl_X} {i : Int} {σ : hh_S} (hX : hl_ok X) (h : hr_R σ) (hi : 0 ≤ i ∧ i + 5 < hl_L X) (kk : ∀ σ2 : hh_S, hr_R σ2 → hl_J X 1649 i [] σ2) : hl_J X 1448 i [] σ := by
  refine hl_aload1 hX dL_law_1448 ?_
  refine hl_call (as := []) (st := []) hX dL_law_1449 lkL_163 mo_X11_check rc_0 (Nat.le_of_ble_eq_true rfl) (o_check h) (fun r1 σ1 h1 => ?_)
  refine hl_aload2 hX dL_law_1452 ?_
  refine hl_call (as := []) (st := [hh_I r1]) hX dL_law_1453 lkL_166 mo_X12_check rc_128 (Nat.le_of_ble_eq_true rfl) h1 (fun r2 σ2 h2 => ?_)
  exact hl_eq (tgt := 1649) hX dL_law_1456 (by decide) h2.1 (kk σ2 h2.2)
theorem mo_X11_keep : hh_mok hm_X11_keep 0 := ⟨by decide, hh_in 1152 (by decide +kernel) (by decide +kernel), hh_in 70 (by decide +kernel) (by decide +kernel), ⟨by decide, by decide, (by decide +kernel)⟩, by decide⟩
theorem lkL_167 : hh_lkV "HourHouseLaw" 167 hm_X11_keep := ⟨hh_in 1149 (by decide +kernel) (by decide +kernel), hh_in 1150 (by decide +kernel) (by decide +kernel), hh_in 1151 (by decide +kernel) (by decide +kernel)⟩
theorem mo_X12_keep : hh_mok hm_X12_keep 0 := ⟨by decide, hh_in 1660 (by decide +kernel) (by decide +kernel), hh_in 82 (by decide +kernel) (by decide +kernel), ⟨by decide, by decide, (by decide +kernel)⟩, by decide⟩
theorem lkL_170 : hh_lkV "HourHouseLaw" 170 hm_X12_keep := ⟨hh_in 1657 (by decide +kernel) (by decide +kernel), hh_in 1658 (by decide +kernel) (by decide +kernel), hh_in 1659 (by decide +kernel) (by decide +kernel)⟩
theorem lw_case37 {X : hl_X} {i : Int} {σ : hh_S} (hX : hl_ok X) (h : hr_R σ) (hi : 0 ≤ i ∧ i + 5 < hl_L X) (kk : ∀ σ2 : hh_S, hr_R σ2 → hl_J X 1649 i [] σ2) : hl_J X 1461 i [] σ := by
  refine hl_aload1 hX dL_law_1461 ?_
  refine hl_call (as := []) (st := []) hX dL_law_1462 lkL_167 mo_X11_keep rc_0 (Nat.le_of_ble_eq_true rfl) (o_keep h) (fun r1 σ1 h1 => ?_)
  refine hl_aload2 hX dL_law_1465 ?_
  refine hl_call (as := []) (st := [hh_I r1]) hX dL_law_1466 lkL_170 mo_X12_keep rc_128 (Nat.le_of_ble_eq_true rfl) h1 (fun r2 σ2 h2 => ?_)
  exact hl_eq (tgt := 1649) hX dL_law_1469 (by decide) h2.1 (kk σ2 h2.2)
theorem mo_X11_back : hh_mok hm_X11_back 0 := ⟨by decide, hh_in 1196 (by decide +kernel) (by decide +kernel), hh_in 70 (by decide +kernel) (by decide +kernel), ⟨by decide, by decide, (by decide +kernel)⟩, by decide⟩
theorem lkL_171 : hh_lkV "HourHouseLaw" 171 hm_X11_back := ⟨hh_in 1193 (by decide +kernel) (by decide +kernel), hh_in 1194 (by decide +kernel) (by decide +kernel), hh_in 1195 (by decide +kernel) (by decide +kernel)⟩
theorem mo_X12_back : hh_mok hm_X12_back 0 := ⟨by decide, hh_in 1664 (by decide +kernel) (by decide +kernel), hh_in 82 (by decide +kernel) (by decide +kernel), ⟨by decide, by decide, (by decide +kernel)⟩, by decide⟩
theorem lkL_174 : hh_lkV "HourHouseLaw" 174 hm_X12_back := ⟨hh_in 1661 (by decide +kernel) (by decide +kernel), hh_in 1662 (by decide +kernel) (by decide +kernel), hh_in 1663 (by decide +kernel) (by decide +kernel)⟩
theorem lw_case38 {X : hl_X} {i : Int} {σ : hh_S} (hX : hl_ok X) (h : hr_R σ) (hi : 0 ≤ i ∧ i + 5 < hl_L X) (kk : ∀ σ2 : hh_S, hr_R σ2 → hl_J X 1649 i [] σ2) : hl_J X 1474 i [] σ := by
  refine hl_aload1 hX dL_law_1474 ?_
  refine hl_call (as := []) (st := []) hX dL_law_1475 lkL_171 mo_X11_back rc_0 (Nat.le_of_ble_eq_true rfl) (o_back h) (fun r1 σ1 h1 => ?_)
  refine hl_aload2 hX dL_law_1478 ?_
  refine hl_call (as := []) (st := [hh_I r1]) hX dL_law_1479 lkL_174 mo_X12_back rc_128 (Nat.le_of_ble_eq_true rfl) h1 (fun r2 σ2 h2 => ?_)
  exact hl_eq (tgt := 1649) hX dL_law_1482 (by decide) h2.1 (kk σ2 h2.2)
theorem mo_X11_sheet : hh_mok hm_X11_sheet 2 := ⟨by decide, hh_in 1200 (by decide +kernel) (by decide +kernel), hh_in 70 (by decide +kernel) (by decide +kernel), ⟨by decide, by decide, (by decide +kernel)⟩, by decide⟩
theorem lkL_175 : hh_lkV "HourHouseLaw" 175 hm_X11_sheet := ⟨hh_in 1197 (by decide +kernel) (by decide +kernel), hh_in 1198 (by decide +kernel) (by decide +kernel), hh_in 1199 (by decide +kernel) (by decide +kernel)⟩
theorem mo_X12_sheet : hh_mok hm_X12_sheet 2 := ⟨by decide, hh_in 1668 (by decide +kernel) (by decide +kernel), hh_in 82 (by decide +kernel) (by decide +kernel), ⟨by decide, by decide, (by decide +kernel)⟩, by decide⟩
theorem lkL_178 : hh_lkV "HourHouseLaw" 178 hm_X12_sheet := ⟨hh_in 1665 (by decide +kernel) (by decide +kernel), hh_in 1666 (by decide +kernel) (by decide +kernel), hh_in 1667 (by decide +kernel) (by decide +kernel)⟩
theorem lw_case39 {X : hl_X} {i : Int} {σ : hh_S} (hX : hl_ok X) (h : hr_R σ) (hi : 0 ≤ i ∧ i + 5 < hl_L X) (kk : ∀ σ2 : hh_S, hr_R σ2 → hl_J X 1649 i [] σ2) : hl_J X 1487 i [] σ := by
  refine hl_aload1 hX dL_law_1487 ?_
  refine hl_arg (a := 1) hX dL_law_1488 dL_law_1489 dL_law_1490 dL_law_1491 dL_law_1492 (by decide) hi ?_
  refine hl_arg (a := 2) hX dL_law_1493 dL_law_1494 dL_law_1495 dL_law_1496 dL_law_1497 (by decide) hi ?_
  refine hl_call (as := [hh_I (hl_v X (i + 1)), hh_I (hl_v X (i + 2))]) (st := []) hX dL_law_1498 lkL_175 mo_X11_sheet rc_0 (Nat.le_of_ble_eq_true rfl) (o_sheet h) (fun r1 σ1 h1 => ?_)
  refine hl_aload2 hX dL_law_1501 ?_
  refine hl_arg (a := 1) hX dL_law_1502 dL_law_1503 dL_law_1504 dL_law_1505 dL_law_1506 (by decide) hi ?_
  refine hl_arg (a := 2) hX dL_law_1507 dL_law_1508 dL_law_1509 dL_law_1510 dL_law_1511 (by decide) hi ?_
  refine hl_call (as := [hh_I (hl_v X (i + 1)), hh_I (hl_v X (i + 2))]) (st := [hh_I r1]) hX dL_law_1512 lkL_178 mo_X12_sheet rc_128 (Nat.le_of_ble_eq_true rfl) h1 (fun r2 σ2 h2 => ?_)
  exact hl_eq (tgt := 1649) hX dL_law_1515 (by decide) h2.1 (kk σ2 h2.2)
theorem mo_X11_mark : hh_mok hm_X11_mark 3 := ⟨by decide, hh_in 1205 (by decide +kernel) (by decide +kernel), hh_in 70 (by decide +kernel) (by decide +kernel), ⟨by decide, by decide, (by decide +kernel)⟩, by decide⟩
theorem lkL_179 : hh_lkV "HourHouseLaw" 179 hm_X11_mark := ⟨hh_in 1202 (by decide +kernel) (by decide +kernel), hh_in 1203 (by decide +kernel) (by decide +kernel), hh_in 1204 (by decide +kernel) (by decide +kernel)⟩
theorem mo_X12_mark : hh_mok hm_X12_mark 3 := ⟨by decide, hh_in 1673 (by decide +kernel) (by decide +kernel), hh_in 82 (by decide +kernel) (by decide +kernel), ⟨by decide, by decide, (by decide +kernel)⟩, by decide⟩
theorem lkL_182 : hh_lkV "HourHouseLaw" 182 hm_X12_mark := ⟨hh_in 1670 (by decide +kernel) (by decide +kernel), hh_in 1671 (by decide +kernel) (by decide +kernel), hh_in 1672 (by decide +kernel) (by decide +kernel)⟩
theorem lw_case40 {X : hl_X} {i : Int} {σ : hh_S} (hX : hl_ok X) (h : hr_R σ) (hi : 0 ≤ i ∧ i + 5 < hl_L X) (kk : ∀ σ2 : hh_S, hr_R σ2 → hl_J X 1649 i [] σ2) : hl_J X 1520 i [] σ := by
  refine hl_aload1 hX dL_law_1520 ?_
  refine hl_arg (a := 1) hX dL_law_1521 dL_law_1522 dL_law_1523 dL_law_1524 dL_law_1525 (by decide) hi ?_
  refine hl_arg (a := 2) hX dL_law_1526 dL_law_1527 dL_law_1528 dL_law_1529 dL_law_1530 (by decide) hi ?_
  refine hl_arg (a := 3) hX dL_law_1531 dL_law_1532 dL_law_1533 dL_law_1534 dL_law_1535 (by decide) hi ?_
  refine hl_call (as := [hh_I (hl_v X (i + 1)), hh_I (hl_v X (i + 2)), hh_I (hl_v X (i + 3))]) (st := []) hX dL_law_1536 lkL_179 mo_X11_mark rc_0 (Nat.le_of_ble_eq_true rfl) (o_mark h) (fun r1 σ1 h1 => ?_)
  refine hl_aload2 hX dL_law_1539 ?_
  refine hl_arg (a := 1) hX dL_law_1540 dL_law_1541 dL_law_1542 dL_law_1543 dL_law_1544 (by decide) hi ?_
  refine hl_arg (a := 2) hX dL_law_1545 dL_law_1546 dL_law_1547 dL_law_1548 dL_law_1549 (by decide) hi ?_
  refine hl_arg (a := 3) hX dL_law_1550 dL_law_1551 dL_law_1552 dL_law_1553 dL_law_1554 (by decide) hi ?_
  refine hl_call (as := [hh_I (hl_v X (i + 1)), hh_I (hl_v X (i + 2)), hh_I (hl_v X (i + 3))]) (st := [hh_I r1]) hX dL_law_1555 lkL_182 mo_X12_mark rc_128 (Nat.le_of_ble_eq_true rfl) h1 (fun r2 σ2 h2 => ?_)
  exact hl_eq (tgt := 1649) hX dL_law_1558 (by decide) h2.1 (kk σ2 h2.2)
theorem mo_X11_copy : hh_mok hm_X11_copy 5 := ⟨by decide, hh_in 1210 (by decide +kernel) (by decide +kernel), hh_in 70 (by decide +kernel) (by decide +kernel), ⟨by decide, by decide, (by decide +kernel)⟩, by decide⟩
theorem lkL_183 : hh_lkV "HourHouseLaw" 183 hm_X11_copy := ⟨hh_in 1207 (by decide +kernel) (by decide +kernel), hh_in 1208 (by decide +kernel) (by decide +kernel), hh_in 1209 (by decide +kernel) (by decide +kernel)⟩
theorem mo_X12_copy : hh_mok hm_X12_copy 5 := ⟨by decide, hh_in 1678 (by decide +kernel) (by decide +kernel), hh_in 82 (by decide +kernel) (by decide +kernel), ⟨by decide, by decide, (by decide +kernel)⟩, by decide⟩
theorem lkL_186 : hh_lkV "HourHouseLaw" 186 hm_X12_copy := ⟨hh_in 1675 (by decide +kernel) (by decide +kernel), hh_in 1676 (by decide +kernel) (by decide +kernel), hh_in 1677 (by decide +kernel) (by decide +kernel)⟩
theorem lw_case41 {X : hl_X} {i : Int} {σ : hh_S} (hX : hl_ok X) (h : hr_R σ) (hi : 0 ≤ i ∧ i + 5 < hl_L X) (kk : ∀ σ2 : hh_S, hr_R σ2 → hl_J X 1649 i [] σ2) : hl_J X 1563 i [] σ := by
  refine hl_aload1 hX dL_law_1563 ?_
  refine hl_arg (a := 1) hX dL_law_1564 dL_law_1565 dL_law_1566 dL_law_1567 dL_law_1568 (by decide) hi ?_
  refine hl_arg (a := 2) hX dL_law_1569 dL_law_1570 dL_law_1571 dL_law_1572 dL_law_1573 (by decide) hi ?_
  refine hl_arg (a := 3) hX dL_law_1574 dL_law_1575 dL_law_1576 dL_law_1577 dL_law_1578 (by decide) hi ?_
  refine hl_arg (a := 4) hX dL_law_1579 dL_law_1580 dL_law_1581 dL_law_1582 dL_law_1583 (by decide) hi ?_
  refine hl_arg (a := 5) hX dL_law_1584 dL_law_1585 dL_law_1586 dL_law_1587 dL_law_1588 (by decide) hi ?_
  refine hl_call (as := [hh_I (hl_v X (i + 1)), hh_I (hl_v X (i + 2)), hh_I (hl_v X (i + 3)), hh_I (hl_v X (i + 4)), hh_I (hl_v X (i + 5))]) (st := []) hX dL_law_1589 lkL_183 mo_X11_copy rc_0 (Nat.le_of_ble_eq_true rfl) (o_copy h) (fun r1 σ1 h1 => ?_)
  refine hl_aload2 hX dL_law_1592 ?_
  refine hl_arg (a := 1) hX dL_law_1593 dL_law_1594 dL_law_1595 dL_law_1596 dL_law_1597 (by decide) hi ?_
  refine hl_arg (a := 2) hX dL_law_1598 dL_law_1599 dL_law_1600 dL_law_1601 dL_law_1602 (by decide) hi ?_
  refine hl_arg (a := 3) hX dL_law_1603 dL_law_1604 dL_law_1605 dL_law_1606 dL_law_1607 (by decide) hi ?_
  refine hl_arg (a := 4) hX dL_law_1608 dL_law_1609 dL_law_1610 dL_law_1611 dL_law_1612 (by decide) hi ?_
  refine hl_arg (a := 5) hX dL_law_1613 dL_law_1614 dL_law_1615 dL_law_1616 dL_law_1617 (by decide) hi ?_
  refine hl_call (as := [hh_I (hl_v X (i + 1)), hh_I (hl_v X (i + 2)), hh_I (hl_v X (i + 3)), hh_I (hl_v X (i + 4)), hh_I (hl_v X (i + 5))]) (st := [hh_I r1]) hX dL_law_1618 lkL_186 mo_X12_copy rc_128 (Nat.le_of_ble_eq_true rfl) h1 (fun r2 σ2 h2 => ?_)
  exact hl_eq (tgt := 1649) hX dL_law_1621 (by decide) h2.1 (kk σ2 h2.2)
theorem mo_X11_count : hh_mok hm_X11_count 1 := ⟨by decide, hh_in 1218 (by decide +kernel) (by decide +kernel), hh_in 70 (by decide +kernel) (by decide +kernel), ⟨by decide, by decide, (by decide +kernel)⟩, by decide⟩
theorem lkL_187 : hh_lkV "HourHouseLaw" 187 hm_X11_count := ⟨hh_in 1215 (by decide +kernel) (by decide +kernel), hh_in 1216 (by decide +kernel) (by decide +kernel), hh_in 1217 (by decide +kernel) (by decide +kernel)⟩
theorem mo_X12_count : hh_mok hm_X12_count 1 := ⟨by decide, hh_in 1682 (by decide +kernel) (by decide +kernel), hh_in 82 (by decide +kernel) (by decide +kernel), ⟨by decide, by decide, (by decide +kernel)⟩, by decide⟩
theorem lkL_190 : hh_lkV "HourHouseLaw" 190 hm_X12_count := ⟨hh_in 1679 (by decide +kernel) (by decide +kernel), hh_in 1680 (by decide +kernel) (by decide +kernel), hh_in 1681 (by decide +kernel) (by decide +kernel)⟩
theorem lw_case42 {X : hl_X} {i : Int} {σ : hh_S} (hX : hl_ok X) (h : hr_R σ) (hi : 0 ≤ i ∧ i + 5 < hl_L X) (kk : ∀ σ2 : hh_S, hr_R σ2 → hl_J X 1649 i [] σ2) : hl_J X 1626 i [] σ := by
  refine hl_aload1 hX dL_law_1626 ?_
  refine hl_arg (a := 1) hX dL_law_1627 dL_law_1628 dL_law_1629 dL_law_1630 dL_law_1631 (by decide) hi ?_
  refine hl_call (as := [hh_I (hl_v X (i + 1))]) (st := []) hX dL_law_1632 lkL_187 mo_X11_count rc_0 (Nat.le_of_ble_eq_true rfl) (o_count h) (fun r1 σ1 h1 => ?_)
  refine hl_aload2 hX dL_law_1635 ?_
  refine hl_arg (a := 1) hX dL_law_1636 dL_law_1637 dL_law_1638 dL_law_1639 dL_law_1640 (by decide) hi ?_
  refine hl_call (as := [hh_I (hl_v X (i + 1))]) (st := [hh_I r1]) hX dL_law_1641 lkL_190 mo_X12_count rc_128 (Nat.le_of_ble_eq_true rfl) h1 (fun r2 σ2 h2 => ?_)
  exact hl_eq (tgt := 1649) hX dL_law_1644 (by decide) h2.1 (kk σ2 h2.2)
/-- wherever the switch leads -/
theorem lw_cases {X : hl_X} {i : Int} {σ : hh_S} (hX : hl_ok X) (h : hr_R σ) (hi : 0 ≤ i ∧ i + 5 < hl_L X) (kk : ∀ σ2 : hh_S, hr_R σ2 → hl_J X 1649 i [] σ2) (v : Int) (h0 : 0 ≤ v) (h1 : v ≤ 42) : ∃ (off : Int) (tgt : Nat), (#[187, 220, 253, 266, 309, 342, 395, 438, 461, 494, 557, 580, 623, 676, 709, 752, 795, 818, 851, 894, 927, 970, 1003, 1036, 1069, 1112, 1135, 1158, 1191, 1224, 1267, 1280, 1313, 1336, 1359, 1392, 1415, 1428, 1441, 1454, 1487, 1530, 1593] : Array Int)[(v - 0).toNat]? = some off ∧ ((33 : Nat) : Int) + off = (tgt : Int) ∧ hl_J X tgt i [] σ := by
  rcases (show v = 0 ∨ v = 1 ∨ v = 2 ∨ v = 3 ∨ v = 4 ∨ v = 5 ∨ v = 6 ∨ v = 7 ∨ v = 8 ∨ v = 9 ∨ v = 10 ∨ v = 11 ∨ v = 12 ∨ v = 13 ∨ v = 14 ∨ v = 15 ∨ v = 16 ∨ v = 17 ∨ v = 18 ∨ v = 19 ∨ v = 20 ∨ v = 21 ∨ v = 22 ∨ v = 23 ∨ v = 24 ∨ v = 25 ∨ v = 26 ∨ v = 27 ∨ v = 28 ∨ v = 29 ∨ v = 30 ∨ v = 31 ∨ v = 32 ∨ v = 33 ∨ v = 34 ∨ v = 35 ∨ v = 36 ∨ v = 37 ∨ v = 38 ∨ v = 39 ∨ v = 40 ∨ v = 41 ∨ v = 42 by omega) with z | z | z | z | z | z | z | z | z | z | z | z | z | z | z | z | z | z | z | z | z | z | z | z | z | z | z | z | z | z | z | z | z | z | z | z | z | z | z | z | z | z | z <;> subst z
  · exact ⟨187, 220, rfl, by decide, lw_case0 hX h hi kk⟩
  · exact ⟨220, 253, rfl, by decide, lw_case1 hX h hi kk⟩
  · exact ⟨253, 286, rfl, by decide, lw_case2 hX h hi kk⟩
  · exact ⟨266, 299, rfl, by decide, lw_case3 hX h hi kk⟩
  · exact ⟨309, 342, rfl, by decide, lw_case4 hX h hi kk⟩
  · exact ⟨342, 375, rfl, by decide, lw_case5 hX h hi kk⟩
  · exact ⟨395, 428, rfl, by decide, lw_case6 hX h hi kk⟩
  · exact ⟨438, 471, rfl, by decide, lw_case7 hX h hi kk⟩
  · exact ⟨461, 494, rfl, by decide, lw_case8 hX h hi kk⟩
  · exact ⟨494, 527, rfl, by decide, lw_case9 hX h hi kk⟩
  · exact ⟨557, 590, rfl, by decide, lw_case10 hX h hi kk⟩
  · exact ⟨580, 613, rfl, by decide, lw_case11 hX h hi kk⟩
  · exact ⟨623, 656, rfl, by decide, lw_case12 hX h hi kk⟩
  · exact ⟨676, 709, rfl, by decide, lw_case13 hX h hi kk⟩
  · exact ⟨709, 742, rfl, by decide, lw_case14 hX h hi kk⟩
  · exact ⟨752, 785, rfl, by decide, lw_case15 hX h hi kk⟩
  · exact ⟨795, 828, rfl, by decide, lw_case16 hX h hi kk⟩
  · exact ⟨818, 851, rfl, by decide, lw_case17 hX h hi kk⟩
  · exact ⟨851, 884, rfl, by decide, lw_case18 hX h hi kk⟩
  · exact ⟨894, 927, rfl, by decide, lw_case19 hX h hi kk⟩
  · exact ⟨927, 960, rfl, by decide, lw_case20 hX h hi kk⟩
  · exact ⟨970, 1003, rfl, by decide, lw_case21 hX h hi kk⟩
  · exact ⟨1003, 1036, rfl, by decide, lw_case22 hX h hi kk⟩
  · exact ⟨1036, 1069, rfl, by decide, lw_case23 hX h hi kk⟩
  · exact ⟨1069, 1102, rfl, by decide, lw_case24 hX h hi kk⟩
  · exact ⟨1112, 1145, rfl, by decide, lw_case25 hX h hi kk⟩
  · exact ⟨1135, 1168, rfl, by decide, lw_case26 hX h hi kk⟩
  · exact ⟨1158, 1191, rfl, by decide, lw_case27 hX h hi kk⟩
  · exact ⟨1191, 1224, rfl, by decide, lw_case28 hX h hi kk⟩
  · exact ⟨1224, 1257, rfl, by decide, lw_case29 hX h hi kk⟩
  · exact ⟨1267, 1300, rfl, by decide, lw_case30 hX h hi kk⟩
  · exact ⟨1280, 1313, rfl, by decide, lw_case31 hX h hi kk⟩
  · exact ⟨1313, 1346, rfl, by decide, lw_case32 hX h hi kk⟩
  · exact ⟨1336, 1369, rfl, by decide, lw_case33 hX h hi kk⟩
  · exact ⟨1359, 1392, rfl, by decide, lw_case34 hX h hi kk⟩
  · exact ⟨1392, 1425, rfl, by decide, lw_case35 hX h hi kk⟩
  · exact ⟨1415, 1448, rfl, by decide, lw_case36 hX h hi kk⟩
  · exact ⟨1428, 1461, rfl, by decide, lw_case37 hX h hi kk⟩
  · exact ⟨1441, 1474, rfl, by decide, lw_case38 hX h hi kk⟩
  · exact ⟨1454, 1487, rfl, by decide, lw_case39 hX h hi kk⟩
  · exact ⟨1487, 1520, rfl, by decide, lw_case40 hX h hi kk⟩
  · exact ⟨1530, 1563, rfl, by decide, lw_case41 hX h hi kk⟩
  · exact ⟨1593, 1626, rfl, by decide, lw_case42 hX h hi kk⟩
