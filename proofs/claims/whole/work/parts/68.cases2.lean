/-! the law's cases -/
section CASES
variable (g : GG) {A A0 : Nat → Nat → Nat} {B : Nat} {σ : ST} {x : XT} {M : Mem}
theorem case_addConversion (hI : INV B σ) (hB : 2000000 ≤ B ∧ B + 1000 < 2147483648) (hA : AK A0 A) (hW : W2 g A σ σ x M) (hb : rbk σ x.rb) {bk bn i : Nat} {PL : PO} (hK : LK g A0 B bk bn PL i) (hi : i + 3 < g.L) (hL : g.L ≤ 2048) : tri g mL_law (bk + 16) (bn + 1000) PL M 256 [(0, .ref g.b), (1, .ref (A0 0 0)), (2, .ref (A0 20 0)), (3, .ref (A0 22 0)), (4, .int (nI i))] [] := by
  have hl := l_addConversion g hI hB hW (g.xs (i + 1)) (g.xs (i + 2)) (g.xs (i + 3))
  rw [hA.c, hA.o] at hl
  have hoc := oc_addConversion σ (g.xs (i + 1)) (g.xs (i + 2)) (g.xs (i + 3))
  refine z_aload_n dL_law_256 rfl rfl ?_
  refine z_aload_n dL_law_257 rfl rfl ?_
  refine z_iload dL_law_258 rfl ?_
  refine z_ic ki_1 dL_law_260 ?_
  refine z_iadd dL_law_261 ?_
  refine z_sld dL_law_262 (nI_add i 1) (by omega) hL ?_
  refine z_aload_n dL_law_263 rfl rfl ?_
  refine z_iload dL_law_264 rfl ?_
  refine z_ic ki_2 dL_law_266 ?_
  refine z_iadd dL_law_267 ?_
  refine z_sld dL_law_268 (nI_add i 2) (by omega) hL ?_
  refine z_aload_n dL_law_269 rfl rfl ?_
  refine z_iload dL_law_270 rfl ?_
  refine z_ic ki_3 dL_law_272 ?_
  refine z_iadd dL_law_273 ?_
  refine z_sld dL_law_274 (nI_add i 3) (by omega) hL ?_
  refine z_aload_n dL_law_275 rfl rfl ?_
  refine z_isXQ (dd := mL_addConversion) dL_law_276 cw_RL_89 rfl ⟨by decide, by decide⟩ (n := 5) (by decide +kernel) hl ⟨⟨by decide, by decide⟩, by omega, by omega⟩ rfl rfl (Nat.le_of_ble_eq_true rfl) (fun M276 hQ276 => ?_)
  refine z_istore dL_law_279 (by decide) ?_
  refine z_aload_n dL_law_281 rfl rfl ?_
  refine z_aload_n dL_law_282 rfl rfl ?_
  refine z_iload dL_law_283 rfl ?_
  refine z_ic ki_1 dL_law_285 ?_
  refine z_iadd dL_law_286 ?_
  refine z_sld dL_law_287 (nI_add i 1) (by omega) hL ?_
  refine z_aload_n dL_law_288 rfl rfl ?_
  refine z_iload dL_law_289 rfl ?_
  refine z_ic ki_2 dL_law_291 ?_
  refine z_iadd dL_law_292 ?_
  refine z_sld dL_law_293 (nI_add i 2) (by omega) hL ?_
  refine z_aload_n dL_law_294 rfl rfl ?_
  refine z_iload dL_law_295 rfl ?_
  refine z_ic ki_3 dL_law_297 ?_
  refine z_iadd dL_law_298 ?_
  refine z_sld dL_law_299 (nI_add i 3) (by omega) hL ?_
  obtain ⟨A2, τ, rc, f, hA2, ⟨hI2, hs2, hr2⟩, hf2, hW2⟩ := hQ276
  have hMm := hW2.m
  have hmc := m_addConversion g (x := (x.srch rc).sout f) hI hb hW2 (g.xs (i + 1)) (g.xs (i + 2)) (g.xs (i + 3))
  rw [hA2.m, hA.m] at hMm hmc
  refine z_ivQ dL_law_300 cv_RL_92 hMm (hmc) ⟨⟨by decide, by decide⟩, (by first | exact Nat.zero_le _ | decide | omega), (by first | exact Nat.zero_le _ | decide | omega)⟩ rfl rfl (Nat.le_of_ble_eq_true rfl) (fun M300 hQ300 => ?_)
  refine z_istore dL_law_303 (by decide) ?_
  refine z_aload_n dL_law_305 rfl rfl ?_
  obtain ⟨x2, hW3, ht3, ho3, hr3⟩ := hQ300
  have hM3 := hW3.m
  have hth := c_X6_thrown g hW3
  rw [hA2.m, hA.m] at hM3 hth
  rw [ht3] at hth
  refine z_ivI dL_law_306 cv_RL_81 hM3 (hth) ⟨⟨by decide, by decide⟩, (by first | exact Nat.zero_le _ | decide | omega), (by first | exact Nat.zero_le _ | decide | omega)⟩ rfl rfl (Nat.le_of_ble_eq_true rfl) ?_
  refine z_iload dL_law_309 rfl ?_
  refine z_icmp_eq (tgt := 316) dL_law_311 (by decide) (fun h311 => ?_) (fun h311 => absurd rfl h311)
  refine z_iload dL_law_316 rfl ?_
  refine z_if_ne (tgt := 333) dL_law_318 (by decide) (fun h318 => ?_) (fun h318 => ?_)
  · refine z_goto (tgt := 1314) dL_law_333 (by decide) ?_
    refine tri.take 5 ?_
    exact hK.go (hA.trans hA2) hI2 hs2 hr2 hb rfl hW3 hr3 (by omega) (by omega)
  · refine z_aload_n dL_law_321 rfl rfl ?_
    refine z_ic ki_0 dL_law_322 ?_
    have h0 := nz0 (by omega) h318
    have hO3 := hW3.out_
    rw [hA2.o, hA.o] at hO3
    have hans := (congrFun ho3 0).trans (hf2 h0)
    refine z_laload dL_law_323 hO3 rfl (by decide) (by decide) ?_
    refine z_iload dL_law_324 rfl ?_
    refine z_i2l dL_law_326 ?_
    refine z_lcmp dL_law_327 ?_
    refine z_if_eq (tgt := 333) dL_law_328 (by decide) (fun h328 => ?_) (fun h328 => absurd (by rw [hans]; exact lg_self _) h328)
    refine z_goto (tgt := 1314) dL_law_333 (by decide) ?_
    refine tri.take 5 ?_
    exact hK.go (hA.trans hA2) hI2 hs2 hr2 hb rfl hW3 hr3 (by omega) (by omega)
theorem case_bestWay (hI : INV B σ) (hB : 2000000 ≤ B ∧ B + 1000 < 2147483648) (hA : AK A0 A) (hW : W2 g A σ σ x M) (hb : rbk σ x.rb) {bk bn i : Nat} {PL : PO} (hK : LK g A0 B bk bn PL i) (hi : i + 3 < g.L) (hL : g.L ≤ 2048) : tri g mL_law (bk + 16) (bn + 1000) PL M 336 [(0, .ref g.b), (1, .ref (A0 0 0)), (2, .ref (A0 20 0)), (3, .ref (A0 22 0)), (4, .int (nI i))] [] := by
  have hl := l_bestWay g hI hB hW (g.xs (i + 1)) (g.xs (i + 2))
  rw [hA.c, hA.o] at hl
  have hoc := oc_bestWay σ (g.xs (i + 1)) (g.xs (i + 2))
  refine z_aload_n dL_law_336 rfl rfl ?_
  refine z_aload_n dL_law_337 rfl rfl ?_
  refine z_iload dL_law_338 rfl ?_
  refine z_ic ki_1 dL_law_340 ?_
  refine z_iadd dL_law_341 ?_
  refine z_sld dL_law_342 (nI_add i 1) (by omega) hL ?_
  refine z_aload_n dL_law_343 rfl rfl ?_
  refine z_iload dL_law_344 rfl ?_
  refine z_ic ki_2 dL_law_346 ?_
  refine z_iadd dL_law_347 ?_
  refine z_sld dL_law_348 (nI_add i 2) (by omega) hL ?_
  refine z_aload_n dL_law_349 rfl rfl ?_
  refine z_isXQ (dd := mL_bestWay) dL_law_350 cw_RL_93 rfl ⟨by decide, by decide⟩ (n := 4) (by decide +kernel) hl ⟨⟨by decide, by decide⟩, by omega, by omega⟩ rfl rfl (Nat.le_of_ble_eq_true rfl) (fun M350 hQ350 => ?_)
  refine z_istore dL_law_353 (by decide) ?_
  refine z_aload_n dL_law_355 rfl rfl ?_
  refine z_aload_n dL_law_356 rfl rfl ?_
  refine z_iload dL_law_357 rfl ?_
  refine z_ic ki_1 dL_law_359 ?_
  refine z_iadd dL_law_360 ?_
  refine z_sld dL_law_361 (nI_add i 1) (by omega) hL ?_
  refine z_aload_n dL_law_362 rfl rfl ?_
  refine z_iload dL_law_363 rfl ?_
  refine z_ic ki_2 dL_law_365 ?_
  refine z_iadd dL_law_366 ?_
  refine z_sld dL_law_367 (nI_add i 2) (by omega) hL ?_
  obtain ⟨A2, τ, rc, f, hA2, ⟨hI2, hs2, hr2⟩, hf2, hW2⟩ := hQ350
  have hMm := hW2.m
  have hmc := m_bestWay g (x := (x.srch rc).sout f) hI hb hW2 (g.xs (i + 1)) (g.xs (i + 2))
  rw [hA2.m, hA.m] at hMm hmc
  refine z_ivQ dL_law_368 cv_RL_95 hMm (hmc) ⟨⟨by decide, by decide⟩, (by first | exact Nat.zero_le _ | decide | omega), (by first | exact Nat.zero_le _ | decide | omega)⟩ rfl rfl (Nat.le_of_ble_eq_true rfl) (fun M368 hQ368 => ?_)
  refine z_istore dL_law_371 (by decide) ?_
  refine z_aload_n dL_law_373 rfl rfl ?_
  obtain ⟨x2, hW3, ht3, ho3, hr3⟩ := hQ368
  have hM3 := hW3.m
  have hth := c_X6_thrown g hW3
  rw [hA2.m, hA.m] at hM3 hth
  rw [ht3] at hth
  refine z_ivI dL_law_374 cv_RL_81 hM3 (hth) ⟨⟨by decide, by decide⟩, (by first | exact Nat.zero_le _ | decide | omega), (by first | exact Nat.zero_le _ | decide | omega)⟩ rfl rfl (Nat.le_of_ble_eq_true rfl) ?_
  refine z_iload dL_law_377 rfl ?_
  refine z_icmp_eq (tgt := 384) dL_law_379 (by decide) (fun h379 => ?_) (fun h379 => absurd rfl h379)
  refine z_iload dL_law_384 rfl ?_
  refine z_if_ne (tgt := 401) dL_law_386 (by decide) (fun h386 => ?_) (fun h386 => ?_)
  · refine z_goto (tgt := 1314) dL_law_401 (by decide) ?_
    refine tri.take 5 ?_
    exact hK.go (hA.trans hA2) hI2 hs2 hr2 hb rfl hW3 hr3 (by omega) (by omega)
  · refine z_aload_n dL_law_389 rfl rfl ?_
    refine z_ic ki_0 dL_law_390 ?_
    have h0 := nz0 (by omega) h386
    have hO3 := hW3.out_
    rw [hA2.o, hA.o] at hO3
    have hans := (congrFun ho3 0).trans (hf2 h0)
    refine z_laload dL_law_391 hO3 rfl (by decide) (by decide) ?_
    refine z_iload dL_law_392 rfl ?_
    refine z_i2l dL_law_394 ?_
    refine z_lcmp dL_law_395 ?_
    refine z_if_eq (tgt := 401) dL_law_396 (by decide) (fun h396 => ?_) (fun h396 => absurd (by rw [hans]; exact lg_self _) h396)
    refine z_goto (tgt := 1314) dL_law_401 (by decide) ?_
    refine tri.take 5 ?_
    exact hK.go (hA.trans hA2) hI2 hs2 hr2 hb rfl hW3 hr3 (by omega) (by omega)
theorem case_deposit (hI : INV B σ) (hB : 2000000 ≤ B ∧ B + 1000 < 2147483648) (hA : AK A0 A) (hW : W2 g A σ σ x M) (hb : rbk σ x.rb) {bk bn i : Nat} {PL : PO} (hK : LK g A0 B bk bn PL i) (hi : i + 3 < g.L) (hL : g.L ≤ 2048) : tri g mL_law (bk + 16) (bn + 1000) PL M 404 [(0, .ref g.b), (1, .ref (A0 0 0)), (2, .ref (A0 20 0)), (3, .ref (A0 22 0)), (4, .int (nI i))] [] := by
  have hl := l_deposit g hI hB hW (g.xs (i + 1)) (g.xs (i + 2)) (g.xs (i + 3))
  rw [hA.c, hA.o] at hl
  have hoc := oc_deposit σ (g.xs (i + 1)) (g.xs (i + 2)) (g.xs (i + 3))
  refine z_aload_n dL_law_404 rfl rfl ?_
  refine z_aload_n dL_law_405 rfl rfl ?_
  refine z_iload dL_law_406 rfl ?_
  refine z_ic ki_1 dL_law_408 ?_
  refine z_iadd dL_law_409 ?_
  refine z_sld dL_law_410 (nI_add i 1) (by omega) hL ?_
  refine z_aload_n dL_law_411 rfl rfl ?_
  refine z_iload dL_law_412 rfl ?_
  refine z_ic ki_2 dL_law_414 ?_
  refine z_iadd dL_law_415 ?_
  refine z_sld dL_law_416 (nI_add i 2) (by omega) hL ?_
  refine z_aload_n dL_law_417 rfl rfl ?_
  refine z_iload dL_law_418 rfl ?_
  refine z_ic ki_3 dL_law_420 ?_
  refine z_iadd dL_law_421 ?_
  refine z_sld dL_law_422 (nI_add i 3) (by omega) hL ?_
  refine z_aload_n dL_law_423 rfl rfl ?_
  refine z_isXQ (dd := mL_deposit) dL_law_424 cw_RL_96 rfl ⟨by decide, by decide⟩ (n := 5) (by decide +kernel) hl ⟨⟨by decide, by decide⟩, by omega, by omega⟩ rfl rfl (Nat.le_of_ble_eq_true rfl) (fun M424 hQ424 => ?_)
  refine z_istore dL_law_427 (by decide) ?_
  refine z_aload_n dL_law_429 rfl rfl ?_
  refine z_aload_n dL_law_430 rfl rfl ?_
  refine z_iload dL_law_431 rfl ?_
  refine z_ic ki_1 dL_law_433 ?_
  refine z_iadd dL_law_434 ?_
  refine z_sld dL_law_435 (nI_add i 1) (by omega) hL ?_
  refine z_aload_n dL_law_436 rfl rfl ?_
  refine z_iload dL_law_437 rfl ?_
  refine z_ic ki_2 dL_law_439 ?_
  refine z_iadd dL_law_440 ?_
  refine z_sld dL_law_441 (nI_add i 2) (by omega) hL ?_
  refine z_aload_n dL_law_442 rfl rfl ?_
  refine z_iload dL_law_443 rfl ?_
  refine z_ic ki_3 dL_law_445 ?_
  refine z_iadd dL_law_446 ?_
  refine z_sld dL_law_447 (nI_add i 3) (by omega) hL ?_
  obtain ⟨A2, τ, rc, f, hA2, ⟨hI2, hs2, hr2⟩, hf2, hW2⟩ := hQ424
  have hMm := hW2.m
  have hmc := m_deposit g (x := (x.srch rc).sout f) hI hb hW2 (g.xs (i + 1)) (g.xs (i + 2)) (g.xs (i + 3))
  rw [hA2.m, hA.m] at hMm hmc
  refine z_ivQ dL_law_448 cv_RL_98 hMm (hmc) ⟨⟨by decide, by decide⟩, (by first | exact Nat.zero_le _ | decide | omega), (by first | exact Nat.zero_le _ | decide | omega)⟩ rfl rfl (Nat.le_of_ble_eq_true rfl) (fun M448 hQ448 => ?_)
  refine z_istore dL_law_451 (by decide) ?_
  refine z_aload_n dL_law_453 rfl rfl ?_
  obtain ⟨x2, hW3, ht3, ho3, hr3⟩ := hQ448
  have hM3 := hW3.m
  have hth := c_X6_thrown g hW3
  rw [hA2.m, hA.m] at hM3 hth
  rw [ht3] at hth
  refine z_ivI dL_law_454 cv_RL_81 hM3 (hth) ⟨⟨by decide, by decide⟩, (by first | exact Nat.zero_le _ | decide | omega), (by first | exact Nat.zero_le _ | decide | omega)⟩ rfl rfl (Nat.le_of_ble_eq_true rfl) ?_
  refine z_iload dL_law_457 rfl ?_
  refine z_icmp_eq (tgt := 464) dL_law_459 (by decide) (fun h459 => ?_) (fun h459 => absurd rfl h459)
  refine z_iload dL_law_464 rfl ?_
  refine z_if_ne (tgt := 481) dL_law_466 (by decide) (fun h466 => ?_) (fun h466 => ?_)
  · refine z_goto (tgt := 1314) dL_law_481 (by decide) ?_
    refine tri.take 5 ?_
    exact hK.go (hA.trans hA2) hI2 hs2 hr2 hb rfl hW3 hr3 (by omega) (by omega)
  · refine z_aload_n dL_law_469 rfl rfl ?_
    refine z_ic ki_0 dL_law_470 ?_
    have h0 := nz0 (by omega) h466
    have hO3 := hW3.out_
    rw [hA2.o, hA.o] at hO3
    have hans := (congrFun ho3 0).trans (hf2 h0)
    refine z_laload dL_law_471 hO3 rfl (by decide) (by decide) ?_
    refine z_iload dL_law_472 rfl ?_
    refine z_i2l dL_law_474 ?_
    refine z_lcmp dL_law_475 ?_
    refine z_if_eq (tgt := 481) dL_law_476 (by decide) (fun h476 => ?_) (fun h476 => absurd (by rw [hans]; exact lg_self _) h476)
    refine z_goto (tgt := 1314) dL_law_481 (by decide) ?_
    refine tri.take 5 ?_
    exact hK.go (hA.trans hA2) hI2 hs2 hr2 hb rfl hW3 hr3 (by omega) (by omega)
theorem case_revise (hI : INV B σ) (hB : 2000000 ≤ B ∧ B + 1000 < 2147483648) (hA : AK A0 A) (hW : W2 g A σ σ x M) (hb : rbk σ x.rb) {bk bn i : Nat} {PL : PO} (hK : LK g A0 B bk bn PL i) (hi : i + 3 < g.L) (hL : g.L ≤ 2048) : tri g mL_law (bk + 16) (bn + 1000) PL M 484 [(0, .ref g.b), (1, .ref (A0 0 0)), (2, .ref (A0 20 0)), (3, .ref (A0 22 0)), (4, .int (nI i))] [] := by
  refine z_aload_n dL_law_484 rfl rfl ?_
  refine z_aload_n dL_law_485 rfl rfl ?_
  refine z_iload dL_law_486 rfl ?_
  refine z_ic ki_1 dL_law_488 ?_
  refine z_iadd dL_law_489 ?_
  refine z_sld dL_law_490 (nI_add i 1) (by omega) hL ?_
  refine z_aload_n dL_law_491 rfl rfl ?_
  refine z_iload dL_law_492 rfl ?_
  refine z_ic ki_2 dL_law_494 ?_
  refine z_iadd dL_law_495 ?_
  refine z_sld dL_law_496 (nI_add i 2) (by omega) hL ?_
  refine z_aload_n dL_law_497 rfl rfl ?_
  refine z_iload dL_law_498 rfl ?_
  refine z_ic ki_3 dL_law_500 ?_
  refine z_iadd dL_law_501 ?_
  refine z_sld dL_law_502 (nI_add i 3) (by omega) hL ?_
  refine z_if_eq (tgt := 510) dL_law_503 (by decide) (fun h503 => ?_) (fun h503 => ?_)
  · refine z_ic ki_0 dL_law_510 ?_
    refine z_aload_n dL_law_511 rfl rfl ?_
    have hl := l_revise g hI hB hW (g.xs (i + 1)) (g.xs (i + 2)) false
    have hoc := oc_revise σ (g.xs (i + 1)) (g.xs (i + 2)) false
    rw [hA.c, hA.o] at hl
    refine z_isXQ (dd := mL_revise) dL_law_512 cw_RL_99 rfl ⟨by decide, by decide⟩ (n := 5) (by decide +kernel) hl ⟨⟨by decide, by decide⟩, by omega, by omega⟩ rfl rfl (Nat.le_of_ble_eq_true rfl) (fun M512 hQ512 => ?_)
    refine z_istore dL_law_515 (by decide) ?_
    refine z_aload_n dL_law_517 rfl rfl ?_
    refine z_aload_n dL_law_518 rfl rfl ?_
    refine z_iload dL_law_519 rfl ?_
    refine z_ic ki_1 dL_law_521 ?_
    refine z_iadd dL_law_522 ?_
    refine z_sld dL_law_523 (nI_add i 1) (by omega) hL ?_
    refine z_aload_n dL_law_524 rfl rfl ?_
    refine z_iload dL_law_525 rfl ?_
    refine z_ic ki_2 dL_law_527 ?_
    refine z_iadd dL_law_528 ?_
    refine z_sld dL_law_529 (nI_add i 2) (by omega) hL ?_
    refine z_aload_n dL_law_530 rfl rfl ?_
    refine z_iload dL_law_531 rfl ?_
    refine z_ic ki_3 dL_law_533 ?_
    refine z_iadd dL_law_534 ?_
    refine z_sld dL_law_535 (nI_add i 3) (by omega) hL ?_
    refine z_if_eq (tgt := 543) dL_law_536 (by decide) (fun h536 => ?_) (fun h536 => absurd h503 h536)
    refine z_ic ki_0 dL_law_543 ?_
    obtain ⟨A2, τ, rc, f, hA2, ⟨hI2, hs2, hr2⟩, hf2, hW2⟩ := hQ512
    have hMm := hW2.m
    have hmc := m_revise g (x := (x.srch rc).sout f) hI hb hW2 (g.xs (i + 1)) (g.xs (i + 2)) false
    rw [hA2.m, hA.m] at hMm hmc
    refine z_ivQ dL_law_544 cv_RL_102 hMm (hmc) ⟨⟨by decide, by decide⟩, (by first | exact Nat.zero_le _ | decide | omega), (by first | exact Nat.zero_le _ | decide | omega)⟩ rfl rfl (Nat.le_of_ble_eq_true rfl) (fun M544 hQ544 => ?_)
    refine z_istore dL_law_547 (by decide) ?_
    refine z_aload_n dL_law_549 rfl rfl ?_
    obtain ⟨x2, hW3, ht3, ho3, hr3⟩ := hQ544
    have hM3 := hW3.m
    have hth := c_X6_thrown g hW3
    rw [hA2.m, hA.m] at hM3 hth
    rw [ht3] at hth
    refine z_ivI dL_law_550 cv_RL_81 hM3 (hth) ⟨⟨by decide, by decide⟩, (by first | exact Nat.zero_le _ | decide | omega), (by first | exact Nat.zero_le _ | decide | omega)⟩ rfl rfl (Nat.le_of_ble_eq_true rfl) ?_
    refine z_iload dL_law_553 rfl ?_
    refine z_icmp_eq (tgt := 560) dL_law_555 (by decide) (fun h555 => ?_) (fun h555 => absurd rfl h555)
    refine z_iload dL_law_560 rfl ?_
    refine z_if_ne (tgt := 577) dL_law_562 (by decide) (fun h562 => ?_) (fun h562 => ?_)
    · refine z_goto (tgt := 1314) dL_law_577 (by decide) ?_
      refine tri.take 5 ?_
      exact hK.go (hA.trans hA2) hI2 hs2 hr2 hb rfl hW3 hr3 (by omega) (by omega)
    · refine z_aload_n dL_law_565 rfl rfl ?_
      refine z_ic ki_0 dL_law_566 ?_
      have h0 := nz0 (by omega) h562
      have hO3 := hW3.out_
      rw [hA2.o, hA.o] at hO3
      have hans := (congrFun ho3 0).trans (hf2 h0)
      refine z_laload dL_law_567 hO3 rfl (by decide) (by decide) ?_
      refine z_iload dL_law_568 rfl ?_
      refine z_i2l dL_law_570 ?_
      refine z_lcmp dL_law_571 ?_
      refine z_if_eq (tgt := 577) dL_law_572 (by decide) (fun h572 => ?_) (fun h572 => absurd (by rw [hans]; exact lg_self _) h572)
      refine z_goto (tgt := 1314) dL_law_577 (by decide) ?_
      refine tri.take 5 ?_
      exact hK.go (hA.trans hA2) hI2 hs2 hr2 hb rfl hW3 hr3 (by omega) (by omega)
  · refine z_ic ki_1 dL_law_506 ?_
    refine z_goto (tgt := 511) dL_law_507 (by decide) ?_
    refine z_aload_n dL_law_511 rfl rfl ?_
    have hl := l_revise g hI hB hW (g.xs (i + 1)) (g.xs (i + 2)) true
    have hoc := oc_revise σ (g.xs (i + 1)) (g.xs (i + 2)) true
    rw [hA.c, hA.o] at hl
    refine z_isXQ (dd := mL_revise) dL_law_512 cw_RL_99 rfl ⟨by decide, by decide⟩ (n := 5) (by decide +kernel) hl ⟨⟨by decide, by decide⟩, by omega, by omega⟩ rfl rfl (Nat.le_of_ble_eq_true rfl) (fun M512 hQ512 => ?_)
    refine z_istore dL_law_515 (by decide) ?_
    refine z_aload_n dL_law_517 rfl rfl ?_
    refine z_aload_n dL_law_518 rfl rfl ?_
    refine z_iload dL_law_519 rfl ?_
    refine z_ic ki_1 dL_law_521 ?_
    refine z_iadd dL_law_522 ?_
    refine z_sld dL_law_523 (nI_add i 1) (by omega) hL ?_
    refine z_aload_n dL_law_524 rfl rfl ?_
    refine z_iload dL_law_525 rfl ?_
    refine z_ic ki_2 dL_law_527 ?_
    refine z_iadd dL_law_528 ?_
    refine z_sld dL_law_529 (nI_add i 2) (by omega) hL ?_
    refine z_aload_n dL_law_530 rfl rfl ?_
    refine z_iload dL_law_531 rfl ?_
    refine z_ic ki_3 dL_law_533 ?_
    refine z_iadd dL_law_534 ?_
    refine z_sld dL_law_535 (nI_add i 3) (by omega) hL ?_
    refine z_if_eq (tgt := 543) dL_law_536 (by decide) (fun h536 => absurd h536 h503) (fun h536 => ?_)
    refine z_ic ki_1 dL_law_539 ?_
    refine z_goto (tgt := 544) dL_law_540 (by decide) ?_
    obtain ⟨A2, τ, rc, f, hA2, ⟨hI2, hs2, hr2⟩, hf2, hW2⟩ := hQ512
    have hMm := hW2.m
    have hmc := m_revise g (x := (x.srch rc).sout f) hI hb hW2 (g.xs (i + 1)) (g.xs (i + 2)) true
    rw [hA2.m, hA.m] at hMm hmc
    refine z_ivQ dL_law_544 cv_RL_102 hMm (hmc) ⟨⟨by decide, by decide⟩, (by first | exact Nat.zero_le _ | decide | omega), (by first | exact Nat.zero_le _ | decide | omega)⟩ rfl rfl (Nat.le_of_ble_eq_true rfl) (fun M544 hQ544 => ?_)
    refine z_istore dL_law_547 (by decide) ?_
    refine z_aload_n dL_law_549 rfl rfl ?_
    obtain ⟨x2, hW3, ht3, ho3, hr3⟩ := hQ544
    have hM3 := hW3.m
    have hth := c_X6_thrown g hW3
    rw [hA2.m, hA.m] at hM3 hth
    rw [ht3] at hth
    refine z_ivI dL_law_550 cv_RL_81 hM3 (hth) ⟨⟨by decide, by decide⟩, (by first | exact Nat.zero_le _ | decide | omega), (by first | exact Nat.zero_le _ | decide | omega)⟩ rfl rfl (Nat.le_of_ble_eq_true rfl) ?_
    refine z_iload dL_law_553 rfl ?_
    refine z_icmp_eq (tgt := 560) dL_law_555 (by decide) (fun h555 => ?_) (fun h555 => absurd rfl h555)
    refine z_iload dL_law_560 rfl ?_
    refine z_if_ne (tgt := 577) dL_law_562 (by decide) (fun h562 => ?_) (fun h562 => ?_)
    · refine z_goto (tgt := 1314) dL_law_577 (by decide) ?_
      refine tri.take 5 ?_
      exact hK.go (hA.trans hA2) hI2 hs2 hr2 hb rfl hW3 hr3 (by omega) (by omega)
    · refine z_aload_n dL_law_565 rfl rfl ?_
      refine z_ic ki_0 dL_law_566 ?_
      have h0 := nz0 (by omega) h562
      have hO3 := hW3.out_
      rw [hA2.o, hA.o] at hO3
      have hans := (congrFun ho3 0).trans (hf2 h0)
      refine z_laload dL_law_567 hO3 rfl (by decide) (by decide) ?_
      refine z_iload dL_law_568 rfl ?_
      refine z_i2l dL_law_570 ?_
      refine z_lcmp dL_law_571 ?_
      refine z_if_eq (tgt := 577) dL_law_572 (by decide) (fun h572 => ?_) (fun h572 => absurd (by rw [hans]; exact lg_self _) h572)
      refine z_goto (tgt := 1314) dL_law_577 (by decide) ?_
      refine tri.take 5 ?_
      exact hK.go (hA.trans hA2) hI2 hs2 hr2 hb rfl hW3 hr3 (by omega) (by omega)
theorem case_convert (hI : INV B σ) (hB : 2000000 ≤ B ∧ B + 1000 < 2147483648) (hA : AK A0 A) (hW : W2 g A σ σ x M) (hb : rbk σ x.rb) {bk bn i : Nat} {PL : PO} (hK : LK g A0 B bk bn PL i) (hi : i + 3 < g.L) (hL : g.L ≤ 2048) : tri g mL_law (bk + 16) (bn + 1000) PL M 580 [(0, .ref g.b), (1, .ref (A0 0 0)), (2, .ref (A0 20 0)), (3, .ref (A0 22 0)), (4, .int (nI i))] [] := by
  have hl := l_convert g hI hB hW (g.xs (i + 1)) (g.xs (i + 2))
  rw [hA.c, hA.o] at hl
  have hoc := oc_convert σ (g.xs (i + 1)) (g.xs (i + 2))
  refine z_aload_n dL_law_580 rfl rfl ?_
  refine z_aload_n dL_law_581 rfl rfl ?_
  refine z_iload dL_law_582 rfl ?_
  refine z_ic ki_1 dL_law_584 ?_
  refine z_iadd dL_law_585 ?_
  refine z_sld dL_law_586 (nI_add i 1) (by omega) hL ?_
  refine z_aload_n dL_law_587 rfl rfl ?_
  refine z_iload dL_law_588 rfl ?_
  refine z_ic ki_2 dL_law_590 ?_
  refine z_iadd dL_law_591 ?_
  refine z_sld dL_law_592 (nI_add i 2) (by omega) hL ?_
  refine z_aload_n dL_law_593 rfl rfl ?_
  refine z_isXQ (dd := mL_convert) dL_law_594 cw_RL_103 rfl ⟨by decide, by decide⟩ (n := 4) (by decide +kernel) hl ⟨⟨by decide, by decide⟩, by omega, by omega⟩ rfl rfl (Nat.le_of_ble_eq_true rfl) (fun M594 hQ594 => ?_)
  refine z_istore dL_law_597 (by decide) ?_
  refine z_aload_n dL_law_599 rfl rfl ?_
  refine z_aload_n dL_law_600 rfl rfl ?_
  refine z_iload dL_law_601 rfl ?_
  refine z_ic ki_1 dL_law_603 ?_
  refine z_iadd dL_law_604 ?_
  refine z_sld dL_law_605 (nI_add i 1) (by omega) hL ?_
  refine z_aload_n dL_law_606 rfl rfl ?_
  refine z_iload dL_law_607 rfl ?_
  refine z_ic ki_2 dL_law_609 ?_
  refine z_iadd dL_law_610 ?_
  refine z_sld dL_law_611 (nI_add i 2) (by omega) hL ?_
  obtain ⟨A2, τ, rc, f, hA2, ⟨hI2, hs2, hr2⟩, hf2, hW2⟩ := hQ594
  have hMm := hW2.m
  have hmc := m_convert g (x := (x.srch rc).sout f) hI hb hW2 (g.xs (i + 1)) (g.xs (i + 2))
  rw [hA2.m, hA.m] at hMm hmc
  refine z_ivQ dL_law_612 cv_RL_105 hMm (hmc) ⟨⟨by decide, by decide⟩, (by first | exact Nat.zero_le _ | decide | omega), (by first | exact Nat.zero_le _ | decide | omega)⟩ rfl rfl (Nat.le_of_ble_eq_true rfl) (fun M612 hQ612 => ?_)
  refine z_istore dL_law_615 (by decide) ?_
  refine z_aload_n dL_law_617 rfl rfl ?_
  obtain ⟨x2, hW3, ht3, ho3, hr3⟩ := hQ612
  have hM3 := hW3.m
  have hth := c_X6_thrown g hW3
  rw [hA2.m, hA.m] at hM3 hth
  rw [ht3] at hth
  refine z_ivI dL_law_618 cv_RL_81 hM3 (hth) ⟨⟨by decide, by decide⟩, (by first | exact Nat.zero_le _ | decide | omega), (by first | exact Nat.zero_le _ | decide | omega)⟩ rfl rfl (Nat.le_of_ble_eq_true rfl) ?_
  refine z_iload dL_law_621 rfl ?_
  refine z_icmp_eq (tgt := 628) dL_law_623 (by decide) (fun h623 => ?_) (fun h623 => absurd rfl h623)
  refine z_iload dL_law_628 rfl ?_
  refine z_if_ne (tgt := 645) dL_law_630 (by decide) (fun h630 => ?_) (fun h630 => ?_)
  · refine z_goto (tgt := 1314) dL_law_645 (by decide) ?_
    refine tri.take 5 ?_
    exact hK.go (hA.trans hA2) hI2 hs2 hr2 hb rfl hW3 hr3 (by omega) (by omega)
  · refine z_aload_n dL_law_633 rfl rfl ?_
    refine z_ic ki_0 dL_law_634 ?_
    have h0 := nz0 (by omega) h630
    have hO3 := hW3.out_
    rw [hA2.o, hA.o] at hO3
    have hans := (congrFun ho3 0).trans (hf2 h0)
    refine z_laload dL_law_635 hO3 rfl (by decide) (by decide) ?_
    refine z_iload dL_law_636 rfl ?_
    refine z_i2l dL_law_638 ?_
    refine z_lcmp dL_law_639 ?_
    refine z_if_eq (tgt := 645) dL_law_640 (by decide) (fun h640 => ?_) (fun h640 => absurd (by rw [hans]; exact lg_self _) h640)
    refine z_goto (tgt := 1314) dL_law_645 (by decide) ?_
    refine tri.take 5 ?_
    exact hK.go (hA.trans hA2) hI2 hs2 hr2 hb rfl hW3 hr3 (by omega) (by omega)
end CASES
