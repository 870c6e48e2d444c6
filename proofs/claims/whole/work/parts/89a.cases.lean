theorem lc_0 {K : KT} {L : Nat} {xs : Nat → Int32} {i : Nat} {h : Hp} (hi : i + 6 ≤ L) (hL : L ≤ 384) (R : RLL h h) (nx : ∀ h2 : Hp, RLL h2 h2 → LWK K L xs 1391 i [] h2) : LWK K L xs 192 i [] h := by
  refine AW.known (fun H => ?_)
  obtain ⟨v, F1, m1, k1⟩ := sim_runner (K := K) (show 130 ≤ 999 by decide) H R (in32 (xs (i + 1))) (in32 (xs (i + 2)))
  refine AW.aload_n dL_192 rfl ?_
  refine AW.sarg 1 dL_193 dL_194 dL_195 dL_196 dL_197 hi hL ?_
  refine AW.sarg 2 dL_198 dL_199 dL_200 dL_201 dL_202 hi hL ?_
  refine AW.invQ2 dL_203 mlL_13 mX11_runner ly_0 rfl m1 (fun h1 s1 => AW.known (fun H1 => ?_))
  obtain ⟨F2, m2, k2⟩ := k1 h1 s1 H1
  refine AW.aload_n dL_206 rfl ?_
  refine AW.sarg 1 dL_207 dL_208 dL_209 dL_210 dL_211 hi hL ?_
  refine AW.sarg 2 dL_212 dL_213 dL_214 dL_215 dL_216 hi hL ?_
  refine AW.invQ2 dL_217 mlL_17 mX12_runner ly_57 rfl m2 (fun h2 s2 => ?_)
  exact AW.icmpS dL_220 (nx h2 (k2 h2 s2))
theorem lc_1 {K : KT} {L : Nat} {xs : Nat → Int32} {i : Nat} {h : Hp} (hi : i + 6 ≤ L) (hL : L ≤ 384) (R : RLL h h) (nx : ∀ h2 : Hp, RLL h2 h2 → LWK K L xs 1391 i [] h2) : LWK K L xs 225 i [] h := by
  refine AW.known (fun H => ?_)
  obtain ⟨v, F1, m1, k1⟩ := sim_shoe (K := K) (show 130 ≤ 999 by decide) H R (in32 (xs (i + 1))) (in32 (xs (i + 2))) (in32 (xs (i + 3)))
  refine AW.aload_n dL_225 rfl ?_
  refine AW.sarg 1 dL_226 dL_227 dL_228 dL_229 dL_230 hi hL ?_
  refine AW.sarg 2 dL_231 dL_232 dL_233 dL_234 dL_235 hi hL ?_
  refine AW.sarg 3 dL_236 dL_237 dL_238 dL_239 dL_240 hi hL ?_
  refine AW.invQ3 dL_241 mlL_18 mX11_shoe ly_0 rfl m1 (fun h1 s1 => AW.known (fun H1 => ?_))
  obtain ⟨F2, m2, k2⟩ := k1 h1 s1 H1
  refine AW.aload_n dL_244 rfl ?_
  refine AW.sarg 1 dL_245 dL_246 dL_247 dL_248 dL_249 hi hL ?_
  refine AW.sarg 2 dL_250 dL_251 dL_252 dL_253 dL_254 hi hL ?_
  refine AW.sarg 3 dL_255 dL_256 dL_257 dL_258 dL_259 hi hL ?_
  refine AW.invQ3 dL_260 mlL_22 mX12_shoe ly_57 rfl m2 (fun h2 s2 => ?_)
  exact AW.icmpS dL_263 (nx h2 (k2 h2 s2))
theorem lc_2 {K : KT} {L : Nat} {xs : Nat → Int32} {i : Nat} {h : Hp} (hi : i + 6 ≤ L) (hL : L ≤ 384) (R : RLL h h) (nx : ∀ h2 : Hp, RLL h2 h2 → LWK K L xs 1391 i [] h2) : LWK K L xs 268 i [] h := by
  refine AW.known (fun H => ?_)
  obtain ⟨v, F1, m1, k1⟩ := sim_course (K := K) (show 130 ≤ 999 by decide) H R (in32 (xs (i + 1)))
  refine AW.aload_n dL_268 rfl ?_
  refine AW.sarg 1 dL_269 dL_270 dL_271 dL_272 dL_273 hi hL ?_
  refine AW.invQ1 dL_274 mlL_23 mX11_course ly_0 rfl m1 (fun h1 s1 => AW.known (fun H1 => ?_))
  obtain ⟨F2, m2, k2⟩ := k1 h1 s1 H1
  refine AW.aload_n dL_277 rfl ?_
  refine AW.sarg 1 dL_278 dL_279 dL_280 dL_281 dL_282 hi hL ?_
  refine AW.invQ1 dL_283 mlL_27 mX12_course ly_57 rfl m2 (fun h2 s2 => ?_)
  exact AW.icmpS dL_286 (nx h2 (k2 h2 s2))
theorem lc_3 {K : KT} {L : Nat} {xs : Nat → Int32} {i : Nat} {h : Hp} (hi : i + 6 ≤ L) (hL : L ≤ 384) (R : RLL h h) (nx : ∀ h2 : Hp, RLL h2 h2 → LWK K L xs 1391 i [] h2) : LWK K L xs 291 i [] h := by
  refine AW.known (fun H => ?_)
  obtain ⟨v, F1, m1, k1⟩ := sim_ran (K := K) (show 130 ≤ 999 by decide) H R (in32 (xs (i + 1))) (in32 (xs (i + 2))) (in32 (xs (i + 3)))
  refine AW.aload_n dL_291 rfl ?_
  refine AW.sarg 1 dL_292 dL_293 dL_294 dL_295 dL_296 hi hL ?_
  refine AW.sarg 2 dL_297 dL_298 dL_299 dL_300 dL_301 hi hL ?_
  refine AW.sarg 3 dL_302 dL_303 dL_304 dL_305 dL_306 hi hL ?_
  refine AW.invQ3 dL_307 mlL_28 mX11_ran ly_0 rfl m1 (fun h1 s1 => AW.known (fun H1 => ?_))
  obtain ⟨F2, m2, k2⟩ := k1 h1 s1 H1
  refine AW.aload_n dL_310 rfl ?_
  refine AW.sarg 1 dL_311 dL_312 dL_313 dL_314 dL_315 hi hL ?_
  refine AW.sarg 2 dL_316 dL_317 dL_318 dL_319 dL_320 hi hL ?_
  refine AW.sarg 3 dL_321 dL_322 dL_323 dL_324 dL_325 hi hL ?_
  refine AW.invQ3 dL_326 mlL_31 mX12_ran ly_57 rfl m2 (fun h2 s2 => ?_)
  exact AW.icmpS dL_329 (nx h2 (k2 h2 s2))
theorem lc_4 {K : KT} {L : Nat} {xs : Nat → Int32} {i : Nat} {h : Hp} (hi : i + 6 ≤ L) (hL : L ≤ 384) (R : RLL h h) (nx : ∀ h2 : Hp, RLL h2 h2 → LWK K L xs 1391 i [] h2) : LWK K L xs 334 i [] h := by
  refine AW.known (fun H => ?_)
  obtain ⟨v, F1, m1, k1⟩ := sim_runs (K := K) (show 130 ≤ 999 by decide) H R (in32 (xs (i + 1))) (in32 (xs (i + 2))) (in32 (xs (i + 3)))
  refine AW.aload_n dL_334 rfl ?_
  refine AW.sarg 1 dL_335 dL_336 dL_337 dL_338 dL_339 hi hL ?_
  refine AW.sarg 2 dL_340 dL_341 dL_342 dL_343 dL_344 hi hL ?_
  refine AW.sarg 3 dL_345 dL_346 dL_347 dL_348 dL_349 hi hL ?_
  refine AW.invQ3 dL_350 mlL_32 mX11_runs ly_0 rfl m1 (fun h1 s1 => AW.known (fun H1 => ?_))
  obtain ⟨F2, m2, k2⟩ := k1 h1 s1 H1
  refine AW.aload_n dL_353 rfl ?_
  refine AW.sarg 1 dL_354 dL_355 dL_356 dL_357 dL_358 hi hL ?_
  refine AW.sarg 2 dL_359 dL_360 dL_361 dL_362 dL_363 hi hL ?_
  refine AW.sarg 3 dL_364 dL_365 dL_366 dL_367 dL_368 hi hL ?_
  refine AW.invQ3 dL_369 mlL_35 mX12_runs ly_57 rfl m2 (fun h2 s2 => ?_)
  exact AW.icmpS dL_372 (nx h2 (k2 h2 s2))
theorem lc_5 {K : KT} {L : Nat} {xs : Nat → Int32} {i : Nat} {h : Hp} (hi : i + 6 ≤ L) (hL : L ≤ 384) (R : RLL h h) (nx : ∀ h2 : Hp, RLL h2 h2 → LWK K L xs 1391 i [] h2) : LWK K L xs 377 i [] h := by
  refine AW.known (fun H => ?_)
  obtain ⟨v, F1, m1, k1⟩ := sim_of (K := K) (show 130 ≤ 999 by decide) H R (in32 (xs (i + 1))) (in32 (xs (i + 2)))
  refine AW.aload_n dL_377 rfl ?_
  refine AW.sarg 1 dL_378 dL_379 dL_380 dL_381 dL_382 hi hL ?_
  refine AW.sarg 2 dL_383 dL_384 dL_385 dL_386 dL_387 hi hL ?_
  refine AW.invQ2 dL_388 mlL_36 mX11_of ly_0 rfl m1 (fun h1 s1 => AW.known (fun H1 => ?_))
  obtain ⟨F2, m2, k2⟩ := k1 h1 s1 H1
  refine AW.aload_n dL_391 rfl ?_
  refine AW.sarg 1 dL_392 dL_393 dL_394 dL_395 dL_396 hi hL ?_
  refine AW.sarg 2 dL_397 dL_398 dL_399 dL_400 dL_401 hi hL ?_
  refine AW.invQ2 dL_402 mlL_39 mX12_of ly_57 rfl m2 (fun h2 s2 => ?_)
  exact AW.icmpS dL_405 (nx h2 (k2 h2 s2))
theorem lc_6 {K : KT} {L : Nat} {xs : Nat → Int32} {i : Nat} {h : Hp} (hi : i + 6 ≤ L) (hL : L ≤ 384) (R : RLL h h) (nx : ∀ h2 : Hp, RLL h2 h2 → LWK K L xs 1391 i [] h2) : LWK K L xs 410 i [] h := by
  refine AW.known (fun H => ?_)
  obtain ⟨v, F1, m1, k1⟩ := sim_mend (K := K) (show 130 ≤ 999 by decide) H R (in32 (xs (i + 1))) (in32 (xs (i + 2))) (in32 (xs (i + 3)))
  refine AW.aload_n dL_410 rfl ?_
  refine AW.sarg 1 dL_411 dL_412 dL_413 dL_414 dL_415 hi hL ?_
  refine AW.sarg 2 dL_416 dL_417 dL_418 dL_419 dL_420 hi hL ?_
  refine AW.sarg 3 dL_421 dL_422 dL_423 dL_424 dL_425 hi hL ?_
  refine AW.invQ3 dL_426 mlL_40 mX11_mend ly_0 rfl m1 (fun h1 s1 => AW.known (fun H1 => ?_))
  obtain ⟨F2, m2, k2⟩ := k1 h1 s1 H1
  refine AW.aload_n dL_429 rfl ?_
  refine AW.sarg 1 dL_430 dL_431 dL_432 dL_433 dL_434 hi hL ?_
  refine AW.sarg 2 dL_435 dL_436 dL_437 dL_438 dL_439 hi hL ?_
  refine AW.sarg 3 dL_440 dL_441 dL_442 dL_443 dL_444 hi hL ?_
  refine AW.invQ3 dL_445 mlL_43 mX12_mend ly_57 rfl m2 (fun h2 s2 => ?_)
  exact AW.icmpS dL_448 (nx h2 (k2 h2 s2))
theorem lc_7 {K : KT} {L : Nat} {xs : Nat → Int32} {i : Nat} {h : Hp} (hi : i + 6 ≤ L) (hL : L ≤ 384) (R : RLL h h) (nx : ∀ h2 : Hp, RLL h2 h2 → LWK K L xs 1391 i [] h2) : LWK K L xs 453 i [] h := by
  refine AW.known (fun H => ?_)
  obtain ⟨v, F1, m1, k1⟩ := sim_feed (K := K) (show 130 ≤ 999 by decide) H R (in32 (xs (i + 1))) (in32 (xs (i + 2)))
  refine AW.aload_n dL_453 rfl ?_
  refine AW.sarg 1 dL_454 dL_455 dL_456 dL_457 dL_458 hi hL ?_
  refine AW.sarg 2 dL_459 dL_460 dL_461 dL_462 dL_463 hi hL ?_
  refine AW.invQ2 dL_464 mlL_44 mX11_feed ly_0 rfl m1 (fun h1 s1 => AW.known (fun H1 => ?_))
  obtain ⟨F2, m2, k2⟩ := k1 h1 s1 H1
  refine AW.aload_n dL_467 rfl ?_
  refine AW.sarg 1 dL_468 dL_469 dL_470 dL_471 dL_472 hi hL ?_
  refine AW.sarg 2 dL_473 dL_474 dL_475 dL_476 dL_477 hi hL ?_
  refine AW.invQ2 dL_478 mlL_47 mX12_feed ly_57 rfl m2 (fun h2 s2 => ?_)
  exact AW.icmpS dL_481 (nx h2 (k2 h2 s2))
theorem lc_8 {K : KT} {L : Nat} {xs : Nat → Int32} {i : Nat} {h : Hp} (hi : i + 6 ≤ L) (hL : L ≤ 384) (R : RLL h h) (nx : ∀ h2 : Hp, RLL h2 h2 → LWK K L xs 1391 i [] h2) : LWK K L xs 486 i [] h := by
  refine AW.known (fun H => ?_)
  obtain ⟨v, F1, m1, k1⟩ := sim_law (K := K) (show 130 ≤ 999 by decide) H R 
  refine AW.aload_n dL_486 rfl ?_
  refine AW.invQ0 dL_487 mlL_48 mX11_law ly_0 rfl m1 (fun h1 s1 => AW.known (fun H1 => ?_))
  obtain ⟨F2, m2, k2⟩ := k1 h1 s1 H1
  refine AW.aload_n dL_490 rfl ?_
  refine AW.invQ0 dL_491 mlL_52 mX12_law ly_57 rfl m2 (fun h2 s2 => ?_)
  exact AW.icmpS dL_494 (nx h2 (k2 h2 s2))
theorem lc_9 {K : KT} {L : Nat} {xs : Nat → Int32} {i : Nat} {h : Hp} (hi : i + 6 ≤ L) (hL : L ≤ 384) (R : RLL h h) (nx : ∀ h2 : Hp, RLL h2 h2 → LWK K L xs 1391 i [] h2) : LWK K L xs 499 i [] h := by
  refine AW.known (fun H => ?_)
  obtain ⟨v, F1, m1, k1⟩ := sim_eyes (K := K) (show 130 ≤ 999 by decide) H R (in32 (xs (i + 1)))
  refine AW.aload_n dL_499 rfl ?_
  refine AW.sarg 1 dL_500 dL_501 dL_502 dL_503 dL_504 hi hL ?_
  refine AW.invQ1 dL_505 mlL_53 mX11_eyes ly_0 rfl m1 (fun h1 s1 => AW.known (fun H1 => ?_))
  obtain ⟨F2, m2, k2⟩ := k1 h1 s1 H1
  refine AW.aload_n dL_508 rfl ?_
  refine AW.sarg 1 dL_509 dL_510 dL_511 dL_512 dL_513 hi hL ?_
  refine AW.invQ1 dL_514 mlL_56 mX12_eyes ly_57 rfl m2 (fun h2 s2 => ?_)
  exact AW.icmpS dL_517 (nx h2 (k2 h2 s2))
theorem lc_10 {K : KT} {L : Nat} {xs : Nat → Int32} {i : Nat} {h : Hp} (hi : i + 6 ≤ L) (hL : L ≤ 384) (R : RLL h h) (nx : ∀ h2 : Hp, RLL h2 h2 → LWK K L xs 1391 i [] h2) : LWK K L xs 522 i [] h := by
  refine AW.known (fun H => ?_)
  obtain ⟨v, F1, m1, k1⟩ := sim_race (K := K) (show 130 ≤ 999 by decide) H R (in32 (xs (i + 1))) (in32 (xs (i + 2))) (in32 (xs (i + 3))) (in32 (xs (i + 4)))
  refine AW.aload_n dL_522 rfl ?_
  refine AW.sarg 1 dL_523 dL_524 dL_525 dL_526 dL_527 hi hL ?_
  refine AW.sarg 2 dL_528 dL_529 dL_530 dL_531 dL_532 hi hL ?_
  refine AW.sarg 3 dL_533 dL_534 dL_535 dL_536 dL_537 hi hL ?_
  refine AW.sarg 4 dL_538 dL_539 dL_540 dL_541 dL_542 hi hL ?_
  refine AW.invQ4 dL_543 mlL_57 mX11_race ly_0 rfl m1 (fun h1 s1 => AW.known (fun H1 => ?_))
  obtain ⟨F2, m2, k2⟩ := k1 h1 s1 H1
  refine AW.aload_n dL_546 rfl ?_
  refine AW.sarg 1 dL_547 dL_548 dL_549 dL_550 dL_551 hi hL ?_
  refine AW.sarg 2 dL_552 dL_553 dL_554 dL_555 dL_556 hi hL ?_
  refine AW.sarg 3 dL_557 dL_558 dL_559 dL_560 dL_561 hi hL ?_
  refine AW.sarg 4 dL_562 dL_563 dL_564 dL_565 dL_566 hi hL ?_
  refine AW.invQ4 dL_567 mlL_61 mX12_race ly_57 rfl m2 (fun h2 s2 => ?_)
  exact AW.icmpS dL_570 (nx h2 (k2 h2 s2))
theorem lc_11 {K : KT} {L : Nat} {xs : Nat → Int32} {i : Nat} {h : Hp} (hi : i + 6 ≤ L) (hL : L ≤ 384) (R : RLL h h) (nx : ∀ h2 : Hp, RLL h2 h2 → LWK K L xs 1391 i [] h2) : LWK K L xs 575 i [] h := by
  refine AW.known (fun H => ?_)
  obtain ⟨v, F1, m1, k1⟩ := sim_changed (K := K) (show 130 ≤ 999 by decide) H R (in32 (xs (i + 1))) (in32 (xs (i + 2)))
  refine AW.aload_n dL_575 rfl ?_
  refine AW.sarg 1 dL_576 dL_577 dL_578 dL_579 dL_580 hi hL ?_
  refine AW.sarg 2 dL_581 dL_582 dL_583 dL_584 dL_585 hi hL ?_
  refine AW.invQ2 dL_586 mlL_62 mX11_changed ly_0 rfl m1 (fun h1 s1 => AW.known (fun H1 => ?_))
  obtain ⟨F2, m2, k2⟩ := k1 h1 s1 H1
  refine AW.aload_n dL_589 rfl ?_
  refine AW.sarg 1 dL_590 dL_591 dL_592 dL_593 dL_594 hi hL ?_
  refine AW.sarg 2 dL_595 dL_596 dL_597 dL_598 dL_599 hi hL ?_
  refine AW.invQ2 dL_600 mlL_65 mX12_changed ly_57 rfl m2 (fun h2 s2 => ?_)
  exact AW.icmpS dL_603 (nx h2 (k2 h2 s2))
