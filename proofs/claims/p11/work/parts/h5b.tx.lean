theorem va_OF_inj {o n d : String} {v w : Value} {a : Nat} {A : Nat → Prop} {U : State} {H : Heap} (h1 : va_OF o n d v a A U H) (h2 : va_OF o n d w a A U H) : v = w := by
  obtain ⟨cf, k, fi, f, cell, a1, a2, a3, a4, a5, a6⟩ := h1
  obtain ⟨cf2, k2, fi2, f2, cell2, b1, b2, b3, b4, b5, b6⟩ := h2
  cases a1.symm.trans b1
  cases a3.symm.trans b3
  have hv := a5.symm.trans b5
  injection hv
theorem va_T_inj {ty : FieldType} {t N M : Nat} {f g : Nat → Value} {A : Nat → Prop} {U : State} {H : Heap} (hN : N < 2 ^ 31) (hM : M < 2 ^ 31) (h1 : va_T ty t N f A U H) (h2 : va_T ty t M g A U H) : N = M ∧ ∀ j, j < N → f j = g j := by
  obtain ⟨cell, a1, a2, a3, a4, a5, a6, a7⟩ := h1
  obtain ⟨cell2, b1, b2, b3, b4, b5, b6, b7⟩ := h2
  cases a1.symm.trans b1
  have e : N = M := nI_inj hN hM (a5.symm.trans b5)
  refine ⟨e, fun j hj => ?_⟩
  have hv := (a6 j hj).symm.trans (b6 j (by omega))
  injection hv
/-- texts that are told by their octets are others where their octets are -/
theorem vk_Sof2 {args : Array Value} {s : State} {N : Nat} {tm : Nat → Term} {len : List Nat} {byt : List (List Int32)} {A : Nat → Prop} (hN : ∀ i : Nat, i < N → len.getD i 0 < 2 ^ 31) (hex : ∀ i : Nat, i < N → (Cond.exactly (tm i) "java/lang/String").before args s = true) (hco : ∀ i : Nat, i < N → (Cond.eq (.field (tm i) "java/lang/String" "coder" "B") (.int 0)).before args s = true)
    (har : ∀ i : Nat, i < N → (Cond.arrayOf (.field (tm i) "java/lang/String" "value" "[B") .byte).before args s = true) (hle : ∀ i : Nat, i < N → (Cond.eq (.length (.field (tm i) "java/lang/String" "value" "[B")) (.int (Int32.ofNat (len.getD i 0)))).before args s = true)
    (hel : ∀ i : Nat, i < N → ∀ j : Nat, j < len.getD i 0 → (Cond.eq (.elem (.field (tm i) "java/lang/String" "value" "[B") (.int (Int32.ofNat j))) (.int ((byt.getD i []).getD j 0))).before args s = true)
    (hne : ∀ i j : Nat, i < N → j < N → len.getD i 0 = len.getD j 0 → (∀ q, q < len.getD i 0 → (byt.getD i []).getD q 0 = (byt.getD j []).getD q 0) → i = j) (hA : ∀ a : Nat, a < s.heap.size → ¬ A a) :
    ∃ adK adV : Nat → Nat, vk_S N len byt adK adV A s s.heap ∧ ∀ i : Nat, i < N → (tm i).eval args s none [] s = some (.ref (adK i)) := by
  have h0 : ∀ i : Nat, ∃ q : Nat × Nat, i < N → (tm i).eval args s none [] s = some (.ref q.1) ∧ va_O "java/lang/String" q.1 A s s.heap ∧ va_OF "java/lang/String" "coder" "B" (.int 0) q.1 A s s.heap ∧ va_OF "java/lang/String" "value" "[B" (.ref q.2) q.1 A s s.heap ∧ va_T .byte q.2 (len.getD i 0) (fun j => .int ((byt.getD i []).getD j 0)) A s s.heap := by
    intro i
    by_cases hi : i < N
    · obtain ⟨a, c, cA, kA, q1, q2, q3, q4, q5, q6, -⟩ := Cond.exactly_spec (args := args) (first := s) (o := none) (s := s) (idx := []) (t := tm i) (cls := "java/lang/String") (hex i hi)
      obtain ⟨t, ht, hT⟩ := va_Tof (f := fun j => .int ((byt.getD i []).getD j 0)) (A := A) (hN i hi) (har i hi) (va_eqt (hle i hi)) (fun j hj => va_eqt (hel i hi j hj)) hA
      exact ⟨(a, t), fun _ => ⟨q1, ⟨cA, q3, q5, by rw [q6]; exact q2, hA a (Array.getElem?_eq_some_iff.mp q3).1⟩, vk_OFof q1 (va_eqt (hco i hi)) hA, vk_OFof q1 ht hA, hT⟩⟩
    · exact ⟨(0, 0), fun h => absurd h hi⟩
  obtain ⟨ad, had⟩ := Classical.axiomOfChoice h0
  refine ⟨fun i => (ad i).1, fun i => (ad i).2, ⟨fun i hi => (had i hi).2, fun i j hi hj e => ?_⟩, fun i hi => (had i hi).1⟩
  obtain ⟨-, -, -, x1, x2⟩ := had i hi
  obtain ⟨-, -, -, y1, y2⟩ := had j hj
  have e2 : (ad i).1 = (ad j).1 := e
  rw [e2] at x1
  have hv := va_OF_inj x1 y1
  injection hv with hv
  rw [hv] at x2
  obtain ⟨z1, z2⟩ := va_T_inj (hN i hi) (hN j hj) x2 y2
  refine hne i j hi hj z1 (fun q hq => ?_)
  have := z2 q hq
  injection this
def sidL : List Nat := [160, 169, 172, 175, 178, 181, 184, 187, 190, 193, 196, 199, 202, 205, 208, 211, 214, 217, 220, 223, 226, 229, 232, 235, 238, 241, 244, 247, 250, 253, 256, 259]
theorem ty_ne : ∀ i, i < 32 → ∀ j, j < 32 → tyLn.getD i 0 = tyLn.getD j 0 → (∀ q, q < tyLn.getD i 0 → (tyBy.getD i []).getD q 0 = (tyBy.getD j []).getD q 0) → i = j := by decide +kernel
theorem ty_lt : ∀ i, i < 32 → tyLn.getD i 0 < 2 ^ 31 := by decide +kernel
set_option maxRecDepth 100000 in
set_option maxHeartbeats 4000000 in
theorem TX_1 {b : Nat} {s : State} (hs : ∀ w ∈ flatC (Jvm.Cond.and given_1 narrow_1), w.before #[Value.ref b] s = true) : ∃ adK adV : Nat → Nat, vk_S 32 tyLn tyBy adK adV (fun q : Nat => s.heap.size ≤ q) s s.heap ∧ ∀ i : Nat, i < 32 → (Term.string "DescribeText$Token" (sidL.getD i 0)).eval #[Value.ref b] s none [] s = some (.ref (adK i)) := by
  have hA : ∀ a : Nat, a < s.heap.size → ¬ (fun q : Nat => s.heap.size ≤ q) a := fun a ha => Nat.not_le.mpr ha
  refine vk_Sof2 (tm := fun i => Term.string "DescribeText$Token" (sidL.getD i 0)) ty_lt ?_ ?_ ?_ ?_ ?_ (fun i j hi hj => ty_ne i hi j hj) hA
  · intro i hi
    match i, hi with
    | 0, _ => exact hs _ nwt_284
    | 1, _ => exact hs _ nwt_303
    | 2, _ => exact hs _ nwt_313
    | 3, _ => exact hs _ nwt_308
    | 4, _ => exact hs _ nwt_381
    | 5, _ => exact hs _ nwt_288
    | 6, _ => exact hs _ nwt_342
    | 7, _ => exact hs _ nwt_337
    | 8, _ => exact hs _ nwt_434
    | 9, _ => exact hs _ nwt_293
    | 10, _ => exact hs _ nwt_318
    | 11, _ => exact hs _ nwt_328
    | 12, _ => exact hs _ nwt_347
    | 13, _ => exact hs _ nwt_444
    | 14, _ => exact hs _ nwt_355
    | 15, _ => exact hs _ nwt_361
    | 16, _ => exact hs _ nwt_372
    | 17, _ => exact hs _ nwt_386
    | 18, _ => exact hs _ nwt_394
    | 19, _ => exact hs _ nwt_453
    | 20, _ => exact hs _ nwt_461
    | 21, _ => exact hs _ nwt_472
    | 22, _ => exact hs _ nwt_412
    | 23, _ => exact hs _ nwt_419
    | 24, _ => exact hs _ nwt_479
    | 25, _ => exact hs _ nwt_486
    | 26, _ => exact hs _ nwt_493
    | 27, _ => exact hs _ nwt_500
    | 28, _ => exact hs _ nwt_507
    | 29, _ => exact hs _ nwt_515
    | 30, _ => exact hs _ nwt_426
    | 31, _ => exact hs _ nwt_403
    | i + 32, hz => exact absurd (show i + 32 < 32 from hz) (by omega)
  · intro i hi
    match i, hi with
    | 0, _ => exact hs _ nwt_285
    | 1, _ => exact hs _ nwt_304
    | 2, _ => exact hs _ nwt_314
    | 3, _ => exact hs _ nwt_309
    | 4, _ => exact hs _ nwt_382
    | 5, _ => exact hs _ nwt_289
    | 6, _ => exact hs _ nwt_343
    | 7, _ => exact hs _ nwt_338
    | 8, _ => exact hs _ nwt_435
    | 9, _ => exact hs _ nwt_294
    | 10, _ => exact hs _ nwt_319
    | 11, _ => exact hs _ nwt_329
    | 12, _ => exact hs _ nwt_348
    | 13, _ => exact hs _ nwt_445
    | 14, _ => exact hs _ nwt_356
    | 15, _ => exact hs _ nwt_362
    | 16, _ => exact hs _ nwt_373
    | 17, _ => exact hs _ nwt_387
    | 18, _ => exact hs _ nwt_395
    | 19, _ => exact hs _ nwt_454
    | 20, _ => exact hs _ nwt_462
    | 21, _ => exact hs _ nwt_473
    | 22, _ => exact hs _ nwt_413
    | 23, _ => exact hs _ nwt_420
    | 24, _ => exact hs _ nwt_480
    | 25, _ => exact hs _ nwt_487
    | 26, _ => exact hs _ nwt_494
    | 27, _ => exact hs _ nwt_501
    | 28, _ => exact hs _ nwt_508
    | 29, _ => exact hs _ nwt_516
    | 30, _ => exact hs _ nwt_427
    | 31, _ => exact hs _ nwt_404
    | i + 32, hz => exact absurd (show i + 32 < 32 from hz) (by omega)
  · intro i hi
    match i, hi with
    | 0, _ => exact hs _ nwt_286
    | 1, _ => exact hs _ nwt_305
    | 2, _ => exact hs _ nwt_315
    | 3, _ => exact hs _ nwt_310
    | 4, _ => exact hs _ nwt_383
    | 5, _ => exact hs _ nwt_290
    | 6, _ => exact hs _ nwt_344
    | 7, _ => exact hs _ nwt_339
    | 8, _ => exact hs _ nwt_436
    | 9, _ => exact hs _ nwt_295
    | 10, _ => exact hs _ nwt_320
    | 11, _ => exact hs _ nwt_330
    | 12, _ => exact hs _ nwt_349
    | 13, _ => exact hs _ nwt_446
    | 14, _ => exact hs _ nwt_357
    | 15, _ => exact hs _ nwt_363
    | 16, _ => exact hs _ nwt_374
    | 17, _ => exact hs _ nwt_388
    | 18, _ => exact hs _ nwt_396
    | 19, _ => exact hs _ nwt_455
    | 20, _ => exact hs _ nwt_463
    | 21, _ => exact hs _ nwt_474
    | 22, _ => exact hs _ nwt_414
    | 23, _ => exact hs _ nwt_421
    | 24, _ => exact hs _ nwt_481
    | 25, _ => exact hs _ nwt_488
    | 26, _ => exact hs _ nwt_495
    | 27, _ => exact hs _ nwt_502
    | 28, _ => exact hs _ nwt_509
    | 29, _ => exact hs _ nwt_517
    | 30, _ => exact hs _ nwt_428
    | 31, _ => exact hs _ nwt_405
    | i + 32, hz => exact absurd (show i + 32 < 32 from hz) (by omega)
  · intro i hi
    match i, hi with
    | 0, _ => exact hs _ nwt_287
    | 1, _ => exact hs _ nwt_306
    | 2, _ => exact hs _ nwt_316
    | 3, _ => exact hs _ nwt_311
    | 4, _ => exact hs _ nwt_384
    | 5, _ => exact hs _ nwt_291
    | 6, _ => exact hs _ nwt_345
    | 7, _ => exact hs _ nwt_340
    | 8, _ => exact hs _ nwt_437
    | 9, _ => exact hs _ nwt_296
    | 10, _ => exact hs _ nwt_321
    | 11, _ => exact hs _ nwt_331
    | 12, _ => exact hs _ nwt_350
    | 13, _ => exact hs _ nwt_447
    | 14, _ => exact hs _ nwt_358
    | 15, _ => exact hs _ nwt_364
    | 16, _ => exact hs _ nwt_375
    | 17, _ => exact hs _ nwt_389
    | 18, _ => exact hs _ nwt_397
    | 19, _ => exact hs _ nwt_456
    | 20, _ => exact hs _ nwt_464
    | 21, _ => exact hs _ nwt_475
    | 22, _ => exact hs _ nwt_415
    | 23, _ => exact hs _ nwt_422
    | 24, _ => exact hs _ nwt_482
    | 25, _ => exact hs _ nwt_489
    | 26, _ => exact hs _ nwt_496
    | 27, _ => exact hs _ nwt_503
    | 28, _ => exact hs _ nwt_510
    | 29, _ => exact hs _ nwt_518
    | 30, _ => exact hs _ nwt_429
    | 31, _ => exact hs _ nwt_406
    | i + 32, hz => exact absurd (show i + 32 < 32 from hz) (by omega)
  · intro i hi
    match i, hi with
    | 0, _ =>
      intro j hj
      exact absurd hj (Nat.not_lt_zero j)
    | 1, _ =>
      intro j hj
      match j, hj with
      | 0, _ => exact hs _ nwt_307
      | j + 1, hz => exact absurd (show j + 1 < 1 from hz) (by omega)
    | 2, _ =>
      intro j hj
      match j, hj with
      | 0, _ => exact hs _ nwt_317
      | j + 1, hz => exact absurd (show j + 1 < 1 from hz) (by omega)
    | 3, _ =>
      intro j hj
      match j, hj with
      | 0, _ => exact hs _ nwt_312
      | j + 1, hz => exact absurd (show j + 1 < 1 from hz) (by omega)
    | 4, _ =>
      intro j hj
      match j, hj with
      | 0, _ => exact hs _ nwt_385
      | j + 1, hz => exact absurd (show j + 1 < 1 from hz) (by omega)
    | 5, _ =>
      intro j hj
      match j, hj with
      | 0, _ => exact hs _ nwt_292
      | j + 1, hz => exact absurd (show j + 1 < 1 from hz) (by omega)
    | 6, _ =>
      intro j hj
      match j, hj with
      | 0, _ => exact hs _ nwt_346
      | j + 1, hz => exact absurd (show j + 1 < 1 from hz) (by omega)
    | 7, _ =>
      intro j hj
      match j, hj with
      | 0, _ => exact hs _ nwt_341
      | j + 1, hz => exact absurd (show j + 1 < 1 from hz) (by omega)
    | 8, _ =>
      intro j hj
      match j, hj with
      | 0, _ => exact hs _ nwt_438
      | 1, _ => exact hs _ nwt_439
      | 2, _ => exact hs _ nwt_440
      | 3, _ => exact hs _ nwt_441
      | 4, _ => exact hs _ nwt_442
      | 5, _ => exact hs _ nwt_443
      | j + 6, hz => exact absurd (show j + 6 < 6 from hz) (by omega)
    | 9, _ =>
      intro j hj
      match j, hj with
      | 0, _ => exact hs _ nwt_297
      | 1, _ => exact hs _ nwt_298
      | 2, _ => exact hs _ nwt_299
      | 3, _ => exact hs _ nwt_300
      | 4, _ => exact hs _ nwt_301
      | 5, _ => exact hs _ nwt_302
      | j + 6, hz => exact absurd (show j + 6 < 6 from hz) (by omega)
    | 10, _ =>
      intro j hj
      match j, hj with
      | 0, _ => exact hs _ nwt_322
      | 1, _ => exact hs _ nwt_323
      | 2, _ => exact hs _ nwt_324
      | 3, _ => exact hs _ nwt_325
      | 4, _ => exact hs _ nwt_326
      | 5, _ => exact hs _ nwt_327
      | j + 6, hz => exact absurd (show j + 6 < 6 from hz) (by omega)
    | 11, _ =>
      intro j hj
      match j, hj with
      | 0, _ => exact hs _ nwt_332
      | 1, _ => exact hs _ nwt_333
      | 2, _ => exact hs _ nwt_334
      | 3, _ => exact hs _ nwt_335
      | 4, _ => exact hs _ nwt_336
      | j + 5, hz => exact absurd (show j + 5 < 5 from hz) (by omega)
    | 12, _ =>
      intro j hj
      match j, hj with
      | 0, _ => exact hs _ nwt_351
      | 1, _ => exact hs _ nwt_352
      | 2, _ => exact hs _ nwt_353
      | 3, _ => exact hs _ nwt_354
      | j + 4, hz => exact absurd (show j + 4 < 4 from hz) (by omega)
    | 13, _ =>
      intro j hj
      match j, hj with
      | 0, _ => exact hs _ nwt_448
      | 1, _ => exact hs _ nwt_449
      | 2, _ => exact hs _ nwt_450
      | 3, _ => exact hs _ nwt_451
      | 4, _ => exact hs _ nwt_452
      | j + 5, hz => exact absurd (show j + 5 < 5 from hz) (by omega)
    | 14, _ =>
      intro j hj
      match j, hj with
      | 0, _ => exact hs _ nwt_359
      | 1, _ => exact hs _ nwt_360
      | j + 2, hz => exact absurd (show j + 2 < 2 from hz) (by omega)
    | 15, _ =>
      intro j hj
      match j, hj with
      | 0, _ => exact hs _ nwt_365
      | 1, _ => exact hs _ nwt_366
      | 2, _ => exact hs _ nwt_367
      | 3, _ => exact hs _ nwt_368
      | 4, _ => exact hs _ nwt_369
      | 5, _ => exact hs _ nwt_370
      | 6, _ => exact hs _ nwt_371
      | j + 7, hz => exact absurd (show j + 7 < 7 from hz) (by omega)
    | 16, _ =>
      intro j hj
      match j, hj with
      | 0, _ => exact hs _ nwt_376
      | 1, _ => exact hs _ nwt_377
      | 2, _ => exact hs _ nwt_378
      | 3, _ => exact hs _ nwt_379
      | 4, _ => exact hs _ nwt_380
      | j + 5, hz => exact absurd (show j + 5 < 5 from hz) (by omega)
    | 17, _ =>
      intro j hj
      match j, hj with
      | 0, _ => exact hs _ nwt_390
      | 1, _ => exact hs _ nwt_391
      | 2, _ => exact hs _ nwt_392
      | 3, _ => exact hs _ nwt_393
      | j + 4, hz => exact absurd (show j + 4 < 4 from hz) (by omega)
    | 18, _ =>
      intro j hj
      match j, hj with
      | 0, _ => exact hs _ nwt_398
      | 1, _ => exact hs _ nwt_399
      | 2, _ => exact hs _ nwt_400
      | 3, _ => exact hs _ nwt_401
      | 4, _ => exact hs _ nwt_402
      | j + 5, hz => exact absurd (show j + 5 < 5 from hz) (by omega)
    | 19, _ =>
      intro j hj
      match j, hj with
      | 0, _ => exact hs _ nwt_457
      | 1, _ => exact hs _ nwt_458
      | 2, _ => exact hs _ nwt_459
      | 3, _ => exact hs _ nwt_460
      | j + 4, hz => exact absurd (show j + 4 < 4 from hz) (by omega)
    | 20, _ =>
      intro j hj
      match j, hj with
      | 0, _ => exact hs _ nwt_465
      | 1, _ => exact hs _ nwt_466
      | 2, _ => exact hs _ nwt_467
      | 3, _ => exact hs _ nwt_468
      | 4, _ => exact hs _ nwt_469
      | 5, _ => exact hs _ nwt_470
      | 6, _ => exact hs _ nwt_471
      | j + 7, hz => exact absurd (show j + 7 < 7 from hz) (by omega)
    | 21, _ =>
      intro j hj
      match j, hj with
      | 0, _ => exact hs _ nwt_476
      | 1, _ => exact hs _ nwt_477
      | 2, _ => exact hs _ nwt_478
      | j + 3, hz => exact absurd (show j + 3 < 3 from hz) (by omega)
    | 22, _ =>
      intro j hj
      match j, hj with
      | 0, _ => exact hs _ nwt_416
      | 1, _ => exact hs _ nwt_417
      | 2, _ => exact hs _ nwt_418
      | j + 3, hz => exact absurd (show j + 3 < 3 from hz) (by omega)
    | 23, _ =>
      intro j hj
      match j, hj with
      | 0, _ => exact hs _ nwt_423
      | 1, _ => exact hs _ nwt_424
      | 2, _ => exact hs _ nwt_425
      | j + 3, hz => exact absurd (show j + 3 < 3 from hz) (by omega)
    | 24, _ =>
      intro j hj
      match j, hj with
      | 0, _ => exact hs _ nwt_483
      | 1, _ => exact hs _ nwt_484
      | 2, _ => exact hs _ nwt_485
      | j + 3, hz => exact absurd (show j + 3 < 3 from hz) (by omega)
    | 25, _ =>
      intro j hj
      match j, hj with
      | 0, _ => exact hs _ nwt_490
      | 1, _ => exact hs _ nwt_491
      | 2, _ => exact hs _ nwt_492
      | j + 3, hz => exact absurd (show j + 3 < 3 from hz) (by omega)
    | 26, _ =>
      intro j hj
      match j, hj with
      | 0, _ => exact hs _ nwt_497
      | 1, _ => exact hs _ nwt_498
      | 2, _ => exact hs _ nwt_499
      | j + 3, hz => exact absurd (show j + 3 < 3 from hz) (by omega)
    | 27, _ =>
      intro j hj
      match j, hj with
      | 0, _ => exact hs _ nwt_504
      | 1, _ => exact hs _ nwt_505
      | 2, _ => exact hs _ nwt_506
      | j + 3, hz => exact absurd (show j + 3 < 3 from hz) (by omega)
    | 28, _ =>
      intro j hj
      match j, hj with
      | 0, _ => exact hs _ nwt_511
      | 1, _ => exact hs _ nwt_512
      | 2, _ => exact hs _ nwt_513
      | 3, _ => exact hs _ nwt_514
      | j + 4, hz => exact absurd (show j + 4 < 4 from hz) (by omega)
    | 29, _ =>
      intro j hj
      match j, hj with
      | 0, _ => exact hs _ nwt_519
      | 1, _ => exact hs _ nwt_520
      | 2, _ => exact hs _ nwt_521
      | 3, _ => exact hs _ nwt_522
      | j + 4, hz => exact absurd (show j + 4 < 4 from hz) (by omega)
    | 30, _ =>
      intro j hj
      match j, hj with
      | 0, _ => exact hs _ nwt_430
      | 1, _ => exact hs _ nwt_431
      | 2, _ => exact hs _ nwt_432
      | 3, _ => exact hs _ nwt_433
      | j + 4, hz => exact absurd (show j + 4 < 4 from hz) (by omega)
    | 31, _ =>
      intro j hj
      match j, hj with
      | 0, _ => exact hs _ nwt_407
      | 1, _ => exact hs _ nwt_408
      | 2, _ => exact hs _ nwt_409
      | 3, _ => exact hs _ nwt_410
      | 4, _ => exact hs _ nwt_411
      | j + 5, hz => exact absurd (show j + 5 < 5 from hz) (by omega)
    | i + 32, hz => exact absurd (show i + 32 < 32 from hz) (by omega)
theorem ES_ev {b e0 : Nat} {tk : Nat → Nat} {s : State} (hE : ES e0 tk (fun q : Nat => s.heap.size ≤ q) s) (i : Nat) (hi : i < 35) : (Term.static "DescribeText$Token" (tkNm.getD i "") "LDescribeText$Token;").eval #[Value.ref b] s none [] s = some (.ref (tk i)) := va_Z_eval (hE.2.1 i hi).1
set_option maxRecDepth 100000 in
set_option maxHeartbeats 4000000 in
theorem TX_2 {e0 : Nat} {tk adK : Nat → Nat} {b : Nat} {s : State} (hs : ∀ w ∈ flatC (Jvm.Cond.and given_1 narrow_1), w.before #[Value.ref b] s = true) (hE : ES e0 tk (fun q : Nat => s.heap.size ≤ q) s) (hK : ∀ i : Nat, i < 32 → (Term.string "DescribeText$Token" (sidL.getD i 0)).eval #[Value.ref b] s none [] s = some (.ref (adK i))) : va_Ef 35 "DescribeText$Token" "text" "Ljava/lang/String;" (fun i => .ref (adK (tix i))) tk (fun q : Nat => s.heap.size ≤ q) s s.heap := by
  have hA : ∀ a : Nat, a < s.heap.size → ¬ (fun q : Nat => s.heap.size ≤ q) a := fun a ha => Nat.not_le.mpr ha
  refine va_Efof (N := 35) (E := "DescribeText$Token") (d0 := "LDescribeText$Token;") (nm := tkNm) (v := fun i => .ref (adK (tix i))) (tm := fun i => Term.string "DescribeText$Token" (sidL.getD (tix i) 0)) (ES_ev hE) ?_ (fun i hi => hK _ (tix_lt i hi)) hA
  intro i hi
  match i, hi with
  | 0, _ => exact hs _ nwt_60
  | 1, _ => exact hs _ nwt_65
  | 2, _ => exact hs _ nwt_70
  | 3, _ => exact hs _ nwt_10
  | 4, _ => exact hs _ nwt_123
  | 5, _ => exact hs _ nwt_133
  | 6, _ => exact hs _ nwt_128
  | 7, _ => exact hs _ nwt_178
  | 8, _ => exact hs _ nwt_113
  | 9, _ => exact hs _ nwt_153
  | 10, _ => exact hs _ nwt_148
  | 11, _ => exact hs _ nwt_215
  | 12, _ => exact hs _ nwt_118
  | 13, _ => exact hs _ nwt_138
  | 14, _ => exact hs _ nwt_143
  | 15, _ => exact hs _ nwt_158
  | 16, _ => exact hs _ nwt_220
  | 17, _ => exact hs _ nwt_163
  | 18, _ => exact hs _ nwt_168
  | 19, _ => exact hs _ nwt_173
  | 20, _ => exact hs _ nwt_183
  | 21, _ => exact hs _ nwt_188
  | 22, _ => exact hs _ nwt_225
  | 23, _ => exact hs _ nwt_230
  | 24, _ => exact hs _ nwt_235
  | 25, _ => exact hs _ nwt_198
  | 26, _ => exact hs _ nwt_203
  | 27, _ => exact hs _ nwt_240
  | 28, _ => exact hs _ nwt_245
  | 29, _ => exact hs _ nwt_250
  | 30, _ => exact hs _ nwt_255
  | 31, _ => exact hs _ nwt_260
  | 32, _ => exact hs _ nwt_265
  | 33, _ => exact hs _ nwt_208
  | 34, _ => exact hs _ nwt_193
  | i + 35, hz => exact absurd (show i + 35 < 35 from hz) (by omega)
set_option maxRecDepth 100000 in
set_option maxHeartbeats 4000000 in
theorem TX_3 {e0 : Nat} {tk : Nat → Nat} {b : Nat} {s : State} (hs : ∀ w ∈ flatC (Jvm.Cond.and given_1 narrow_1), w.before #[Value.ref b] s = true) (hE : ES e0 tk (fun q : Nat => s.heap.size ≤ q) s) : ∃ t : Nat, (Term.static "DescribeText$Token" "ALL" "[LDescribeText$Token;").eval #[Value.ref b] s none [] s = some (.ref t) ∧ va_T (.object "DescribeText$Token") t 35 (fun j => .ref (tk j)) (fun q : Nat => s.heap.size ≤ q) s s.heap := by
  have hA : ∀ a : Nat, a < s.heap.size → ¬ (fun q : Nat => s.heap.size ≤ q) a := fun a ha => Nat.not_le.mpr ha
  refine va_Tof (N := 35) (f := fun j => .ref (tk j)) (by decide) (hs _ nwt_15) (va_eqt (hs _ nwt_16)) ?_ hA
  intro j hj
  have hv := ES_ev (b := b) hE j hj
  match j, hj, hv with
  | 0, _, hv => exact va_eqv (hs _ nwt_18) hv
  | 1, _, hv => exact va_eqv (hs _ nwt_19) hv
  | 2, _, hv => exact va_eqv (hs _ nwt_20) hv
  | 3, _, hv => exact va_eqv (hs _ nwt_21) hv
  | 4, _, hv => exact va_eqv (hs _ nwt_22) hv
  | 5, _, hv => exact va_eqv (hs _ nwt_23) hv
  | 6, _, hv => exact va_eqv (hs _ nwt_24) hv
  | 7, _, hv => exact va_eqv (hs _ nwt_25) hv
  | 8, _, hv => exact va_eqv (hs _ nwt_26) hv
  | 9, _, hv => exact va_eqv (hs _ nwt_27) hv
  | 10, _, hv => exact va_eqv (hs _ nwt_28) hv
  | 11, _, hv => exact va_eqv (hs _ nwt_29) hv
  | 12, _, hv => exact va_eqv (hs _ nwt_30) hv
  | 13, _, hv => exact va_eqv (hs _ nwt_31) hv
  | 14, _, hv => exact va_eqv (hs _ nwt_32) hv
  | 15, _, hv => exact va_eqv (hs _ nwt_33) hv
  | 16, _, hv => exact va_eqv (hs _ nwt_34) hv
  | 17, _, hv => exact va_eqv (hs _ nwt_35) hv
  | 18, _, hv => exact va_eqv (hs _ nwt_36) hv
  | 19, _, hv => exact va_eqv (hs _ nwt_37) hv
  | 20, _, hv => exact va_eqv (hs _ nwt_38) hv
  | 21, _, hv => exact va_eqv (hs _ nwt_39) hv
  | 22, _, hv => exact va_eqv (hs _ nwt_40) hv
  | 23, _, hv => exact va_eqv (hs _ nwt_41) hv
  | 24, _, hv => exact va_eqv (hs _ nwt_42) hv
  | 25, _, hv => exact va_eqv (hs _ nwt_43) hv
  | 26, _, hv => exact va_eqv (hs _ nwt_44) hv
  | 27, _, hv => exact va_eqv (hs _ nwt_45) hv
  | 28, _, hv => exact va_eqv (hs _ nwt_46) hv
  | 29, _, hv => exact va_eqv (hs _ nwt_47) hv
  | 30, _, hv => exact va_eqv (hs _ nwt_48) hv
  | 31, _, hv => exact va_eqv (hs _ nwt_49) hv
  | 32, _, hv => exact va_eqv (hs _ nwt_50) hv
  | 33, _, hv => exact va_eqv (hs _ nwt_51) hv
  | 34, _, hv => exact va_eqv (hs _ nwt_52) hv
  | j + 35, hz, _ => exact absurd hz (by omega)
set_option maxRecDepth 100000 in
set_option maxHeartbeats 4000000 in
theorem TX_4 {b : Nat} {s : State} (hs : ∀ w ∈ flatC (Jvm.Cond.and given_1 narrow_1), w.before #[Value.ref b] s = true) : ∃ t : Nat, (Term.static "DescribeText$1" "$SwitchMap$DescribeText$Token" "[I").eval #[Value.ref b] s none [] s = some (.ref t) ∧ va_T .int t 35 (fun j => .int (swL.getD j 0)) (fun q : Nat => s.heap.size ≤ q) s s.heap := by
  have hA : ∀ a : Nat, a < s.heap.size → ¬ (fun q : Nat => s.heap.size ≤ q) a := fun a ha => Nat.not_le.mpr ha
  refine va_Tof (N := 35) (f := fun j => .int (swL.getD j 0)) (by decide) (hs _ nwt_74) (va_eqt (hs _ nwt_75)) ?_ hA
  intro j hj
  match j, hj with
  | 0, _ => exact va_eqt (hs _ nwt_76)
  | 1, _ => exact va_eqt (hs _ nwt_77)
  | 2, _ => exact va_eqt (hs _ nwt_78)
  | 3, _ => exact va_eqt (hs _ nwt_79)
  | 4, _ => exact va_eqt (hs _ nwt_80)
  | 5, _ => exact va_eqt (hs _ nwt_81)
  | 6, _ => exact va_eqt (hs _ nwt_82)
  | 7, _ => exact va_eqt (hs _ nwt_83)
  | 8, _ => exact va_eqt (hs _ nwt_84)
  | 9, _ => exact va_eqt (hs _ nwt_85)
  | 10, _ => exact va_eqt (hs _ nwt_86)
  | 11, _ => exact va_eqt (hs _ nwt_87)
  | 12, _ => exact va_eqt (hs _ nwt_88)
  | 13, _ => exact va_eqt (hs _ nwt_89)
  | 14, _ => exact va_eqt (hs _ nwt_90)
  | 15, _ => exact va_eqt (hs _ nwt_91)
  | 16, _ => exact va_eqt (hs _ nwt_92)
  | 17, _ => exact va_eqt (hs _ nwt_93)
  | 18, _ => exact va_eqt (hs _ nwt_94)
  | 19, _ => exact va_eqt (hs _ nwt_95)
  | 20, _ => exact va_eqt (hs _ nwt_96)
  | 21, _ => exact va_eqt (hs _ nwt_97)
  | 22, _ => exact va_eqt (hs _ nwt_98)
  | 23, _ => exact va_eqt (hs _ nwt_99)
  | 24, _ => exact va_eqt (hs _ nwt_100)
  | 25, _ => exact va_eqt (hs _ nwt_101)
  | 26, _ => exact va_eqt (hs _ nwt_102)
  | 27, _ => exact va_eqt (hs _ nwt_103)
  | 28, _ => exact va_eqt (hs _ nwt_104)
  | 29, _ => exact va_eqt (hs _ nwt_105)
  | 30, _ => exact va_eqt (hs _ nwt_106)
  | 31, _ => exact va_eqt (hs _ nwt_107)
  | 32, _ => exact va_eqt (hs _ nwt_108)
  | 33, _ => exact va_eqt (hs _ nwt_109)
  | 34, _ => exact va_eqt (hs _ nwt_110)
  | i + 35, hz => exact absurd (show i + 35 < 35 from hz) (by omega)
theorem TX_of {b e0 : Nat} {tk : Nat → Nat} {s : State} (h : ∀ w ∈ lw_tbl, w.before #[Value.ref b] s = true) (hg : (Jvm.Cond.and given_1 narrow_1).before #[Value.ref b] s = true) (hE : ES e0 tk (fun q : Nat => s.heap.size ≤ q) s) : ∃ ax adK adV : Nat → Nat, TX ax adK adV tk (fun q : Nat => s.heap.size ≤ q) s := by
  have hs := flat_of_before _ hg
  have hA : ∀ a : Nat, a < s.heap.size → ¬ (fun q : Nat => s.heap.size ≤ q) a := fun a ha => Nat.not_le.mpr ha
  obtain ⟨adK, adV, h1, hK⟩ := TX_1 hs
  obtain ⟨t0, e1, h3⟩ := TX_3 hs hE
  obtain ⟨t1, e2, h4⟩ := TX_4 hs
  exact ⟨fun k => if k = 0 then t0 else t1, adK, adV, h1, TX_2 hs hE hK, va_Zref (h _ tw_368) (h _ tw_116) e1 hA, h3, va_Zref (h _ tw_443) (h _ tw_121) e2 hA, h4, va_Zof (h _ tw_383) (h _ tw_117) (va_eqt (hs _ nwt_53)) hA, va_Zqof (h _ tw_399) (h _ tw_119) (hs _ nwt_54) hA⟩
