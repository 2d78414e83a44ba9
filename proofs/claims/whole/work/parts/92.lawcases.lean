/-! THE LAW: its calls. -/
theorem lc_0 {p : Program} {l : Launch} {e : Env} {s : State} {m : MethodId} {below : List Frame} {meth : Method} {c : Code} {b L : Nat} {xs : Nat → Int32} {G : Gx} {a2 : Nat → Nat} {cc ss : Nat} {C D : Mm} {i : Nat} (F : LF p s m meth c b L xs G a2 cc ss) (hi : i + 6 ≤ L) (hR : Rel C D) (kk : ∀ C2 D2, Rel C2 D2 → LW p l e s m below meth c b G a2 cc ss 1371 (lvI b G a2 i) [] C2 D2) : LW p l e s m below meth c b G a2 cc ss 204 (lvI b G a2 i) [] C D := by
  obtain ⟨r, C2, D2, e1, e2, h2⟩ := op_cast hR (xs (i + 1)) (xs (i + 2)) (xs (i + 3))
  refine w_aload 2 F dl_204 rfl rfl ?_
  refine w_arg (k := 1) F dl_205 dl_206 dl_207 dl_208 dl_209 (by decide +kernel) (by omega) ?_
  refine w_arg (k := 2) F dl_210 dl_211 dl_212 dl_213 dl_214 (by decide +kernel) (by omega) ?_
  refine w_arg (k := 3) F dl_215 dl_216 dl_217 dl_218 dl_219 (by decide +kernel) (by omega) ?_
  refine w_callC F (mX9_cast l G (xs (i + 1)) (xs (i + 2)) (xs (i + 3)) C) okl_X9_cast kl_13 rfl rfl rfl rfl dl_220 e1 ?_
  refine w_aload 1 F dl_223 rfl rfl ?_
  refine w_arg (k := 1) F dl_224 dl_225 dl_226 dl_227 dl_228 (by decide +kernel) (by omega) ?_
  refine w_arg (k := 2) F dl_229 dl_230 dl_231 dl_232 dl_233 (by decide +kernel) (by omega) ?_
  refine w_arg (k := 3) F dl_234 dl_235 dl_236 dl_237 dl_238 (by decide +kernel) (by omega) ?_
  refine w_callM F (mX10_cast l (gA G a2) (xs (i + 1)) (xs (i + 2)) (xs (i + 3)) D) okl_X10_cast kl_17 rfl rfl rfl rfl dl_239 e2 ?_
  exact w_eq (tgt := 1371) F dl_242 (by decide) (kk C2 D2 h2)
theorem lc_1 {p : Program} {l : Launch} {e : Env} {s : State} {m : MethodId} {below : List Frame} {meth : Method} {c : Code} {b L : Nat} {xs : Nat → Int32} {G : Gx} {a2 : Nat → Nat} {cc ss : Nat} {C D : Mm} {i : Nat} (F : LF p s m meth c b L xs G a2 cc ss) (hi : i + 6 ≤ L) (hR : Rel C D) (kk : ∀ C2 D2, Rel C2 D2 → LW p l e s m below meth c b G a2 cc ss 1371 (lvI b G a2 i) [] C2 D2) : LW p l e s m below meth c b G a2 cc ss 247 (lvI b G a2 i) [] C D := by
  obtain ⟨r, C2, D2, e1, e2, h2⟩ := op_letterIs hR (xs (i + 1)) (xs (i + 2))
  refine w_aload 2 F dl_247 rfl rfl ?_
  refine w_arg (k := 1) F dl_248 dl_249 dl_250 dl_251 dl_252 (by decide +kernel) (by omega) ?_
  refine w_arg (k := 2) F dl_253 dl_254 dl_255 dl_256 dl_257 (by decide +kernel) (by omega) ?_
  refine w_callC F (mX9_letterIs l G (xs (i + 1)) (xs (i + 2)) C) okl_X9_letterIs kl_18 rfl rfl rfl rfl dl_258 e1 ?_
  refine w_aload 1 F dl_261 rfl rfl ?_
  refine w_arg (k := 1) F dl_262 dl_263 dl_264 dl_265 dl_266 (by decide +kernel) (by omega) ?_
  refine w_arg (k := 2) F dl_267 dl_268 dl_269 dl_270 dl_271 (by decide +kernel) (by omega) ?_
  refine w_callM F (mX10_letterIs l (gA G a2) (xs (i + 1)) (xs (i + 2)) D) okl_X10_letterIs kl_22 rfl rfl rfl rfl dl_272 e2 ?_
  exact w_eq (tgt := 1371) F dl_275 (by decide) (kk C2 D2 h2)
theorem lc_2 {p : Program} {l : Launch} {e : Env} {s : State} {m : MethodId} {below : List Frame} {meth : Method} {c : Code} {b L : Nat} {xs : Nat → Int32} {G : Gx} {a2 : Nat → Nat} {cc ss : Nat} {C D : Mm} {i : Nat} (F : LF p s m meth c b L xs G a2 cc ss) (hi : i + 6 ≤ L) (hR : Rel C D) (kk : ∀ C2 D2, Rel C2 D2 → LW p l e s m below meth c b G a2 cc ss 1371 (lvI b G a2 i) [] C2 D2) : LW p l e s m below meth c b G a2 cc ss 280 (lvI b G a2 i) [] C D := by
  obtain ⟨r, C2, D2, e1, e2, h2⟩ := op_as hR (xs (i + 1)) (xs (i + 2))
  refine w_aload 2 F dl_280 rfl rfl ?_
  refine w_arg (k := 1) F dl_281 dl_282 dl_283 dl_284 dl_285 (by decide +kernel) (by omega) ?_
  refine w_arg (k := 2) F dl_286 dl_287 dl_288 dl_289 dl_290 (by decide +kernel) (by omega) ?_
  refine w_callC F (mX9_as l G (xs (i + 1)) (xs (i + 2)) C) okl_X9_as kl_23 rfl rfl rfl rfl dl_291 e1 ?_
  refine w_aload 1 F dl_294 rfl rfl ?_
  refine w_arg (k := 1) F dl_295 dl_296 dl_297 dl_298 dl_299 (by decide +kernel) (by omega) ?_
  refine w_arg (k := 2) F dl_300 dl_301 dl_302 dl_303 dl_304 (by decide +kernel) (by omega) ?_
  refine w_callM F (mX10_as l (gA G a2) (xs (i + 1)) (xs (i + 2)) D) okl_X10_as kl_26 rfl rfl rfl rfl dl_305 e2 ?_
  exact w_eq (tgt := 1371) F dl_308 (by decide) (kk C2 D2 h2)
theorem lc_3 {p : Program} {l : Launch} {e : Env} {s : State} {m : MethodId} {below : List Frame} {meth : Method} {c : Code} {b L : Nat} {xs : Nat → Int32} {G : Gx} {a2 : Nat → Nat} {cc ss : Nat} {C D : Mm} {i : Nat} (F : LF p s m meth c b L xs G a2 cc ss) (hi : i + 6 ≤ L) (hR : Rel C D) (kk : ∀ C2 D2, Rel C2 D2 → LW p l e s m below meth c b G a2 cc ss 1371 (lvI b G a2 i) [] C2 D2) : LW p l e s m below meth c b G a2 cc ss 313 (lvI b G a2 i) [] C D := by
  obtain ⟨r, C2, D2, e1, e2, h2⟩ := op_set hR (xs (i + 1)) (xs (i + 2)) (xs (i + 3))
  refine w_aload 2 F dl_313 rfl rfl ?_
  refine w_arg (k := 1) F dl_314 dl_315 dl_316 dl_317 dl_318 (by decide +kernel) (by omega) ?_
  refine w_arg (k := 2) F dl_319 dl_320 dl_321 dl_322 dl_323 (by decide +kernel) (by omega) ?_
  refine w_arg (k := 3) F dl_324 dl_325 dl_326 dl_327 dl_328 (by decide +kernel) (by omega) ?_
  refine w_callC F (mX9_set l G (xs (i + 1)) (xs (i + 2)) (xs (i + 3)) C) okl_X9_set kl_27 rfl rfl rfl rfl dl_329 e1 ?_
  refine w_aload 1 F dl_332 rfl rfl ?_
  refine w_arg (k := 1) F dl_333 dl_334 dl_335 dl_336 dl_337 (by decide +kernel) (by omega) ?_
  refine w_arg (k := 2) F dl_338 dl_339 dl_340 dl_341 dl_342 (by decide +kernel) (by omega) ?_
  refine w_arg (k := 3) F dl_343 dl_344 dl_345 dl_346 dl_347 (by decide +kernel) (by omega) ?_
  refine w_callM F (mX10_set l (gA G a2) (xs (i + 1)) (xs (i + 2)) (xs (i + 3)) D) okl_X10_set kl_30 rfl rfl rfl rfl dl_348 e2 ?_
  exact w_eq (tgt := 1371) F dl_351 (by decide) (kk C2 D2 h2)
theorem lc_4 {p : Program} {l : Launch} {e : Env} {s : State} {m : MethodId} {below : List Frame} {meth : Method} {c : Code} {b L : Nat} {xs : Nat → Int32} {G : Gx} {a2 : Nat → Nat} {cc ss : Nat} {C D : Mm} {i : Nat} (F : LF p s m meth c b L xs G a2 cc ss) (hi : i + 6 ≤ L) (hR : Rel C D) (kk : ∀ C2 D2, Rel C2 D2 → LW p l e s m below meth c b G a2 cc ss 1371 (lvI b G a2 i) [] C2 D2) : LW p l e s m below meth c b G a2 cc ss 356 (lvI b G a2 i) [] C D := by
  obtain ⟨r, C2, D2, e1, e2, h2⟩ := op_melt hR (xs (i + 1))
  refine w_aload 2 F dl_356 rfl rfl ?_
  refine w_arg (k := 1) F dl_357 dl_358 dl_359 dl_360 dl_361 (by decide +kernel) (by omega) ?_
  refine w_callC F (mX9_melt l G (xs (i + 1)) C) okl_X9_melt kl_31 rfl rfl rfl rfl dl_362 e1 ?_
  refine w_aload 1 F dl_365 rfl rfl ?_
  refine w_arg (k := 1) F dl_366 dl_367 dl_368 dl_369 dl_370 (by decide +kernel) (by omega) ?_
  refine w_callM F (mX10_melt l (gA G a2) (xs (i + 1)) D) okl_X10_melt kl_35 rfl rfl rfl rfl dl_371 e2 ?_
  exact w_eq (tgt := 1371) F dl_374 (by decide) (kk C2 D2 h2)
theorem lc_5 {p : Program} {l : Launch} {e : Env} {s : State} {m : MethodId} {below : List Frame} {meth : Method} {c : Code} {b L : Nat} {xs : Nat → Int32} {G : Gx} {a2 : Nat → Nat} {cc ss : Nat} {C D : Mm} {i : Nat} (F : LF p s m meth c b L xs G a2 cc ss) (hi : i + 6 ≤ L) (hR : Rel C D) (kk : ∀ C2 D2, Rel C2 D2 → LW p l e s m below meth c b G a2 cc ss 1371 (lvI b G a2 i) [] C2 D2) : LW p l e s m below meth c b G a2 cc ss 379 (lvI b G a2 i) [] C D := by
  obtain ⟨r, C2, D2, e1, e2, h2⟩ := op_drink hR (xs (i + 1))
  refine w_aload 2 F dl_379 rfl rfl ?_
  refine w_arg (k := 1) F dl_380 dl_381 dl_382 dl_383 dl_384 (by decide +kernel) (by omega) ?_
  refine w_callC F (mX9_drink l G (xs (i + 1)) C) okl_X9_drink kl_36 rfl rfl rfl rfl dl_385 e1 ?_
  refine w_aload 1 F dl_388 rfl rfl ?_
  refine w_arg (k := 1) F dl_389 dl_390 dl_391 dl_392 dl_393 (by decide +kernel) (by omega) ?_
  refine w_callM F (mX10_drink l (gA G a2) (xs (i + 1)) D) okl_X10_drink kl_39 rfl rfl rfl rfl dl_394 e2 ?_
  exact w_eq (tgt := 1371) F dl_397 (by decide) (kk C2 D2 h2)
theorem lc_6 {p : Program} {l : Launch} {e : Env} {s : State} {m : MethodId} {below : List Frame} {meth : Method} {c : Code} {b L : Nat} {xs : Nat → Int32} {G : Gx} {a2 : Nat → Nat} {cc ss : Nat} {C D : Mm} {i : Nat} (F : LF p s m meth c b L xs G a2 cc ss) (hi : i + 6 ≤ L) (hR : Rel C D) (kk : ∀ C2 D2, Rel C2 D2 → LW p l e s m below meth c b G a2 cc ss 1371 (lvI b G a2 i) [] C2 D2) : LW p l e s m below meth c b G a2 cc ss 402 (lvI b G a2 i) [] C D := by
  obtain ⟨r, C2, D2, e1, e2, h2⟩ := op_have hR (xs (i + 1)) (xs (i + 2))
  refine w_aload 2 F dl_402 rfl rfl ?_
  refine w_arg (k := 1) F dl_403 dl_404 dl_405 dl_406 dl_407 (by decide +kernel) (by omega) ?_
  refine w_arg (k := 2) F dl_408 dl_409 dl_410 dl_411 dl_412 (by decide +kernel) (by omega) ?_
  refine w_callC F (mX9_have l G (xs (i + 1)) (xs (i + 2)) C) okl_X9_have kl_40 rfl rfl rfl rfl dl_413 e1 ?_
  refine w_aload 1 F dl_416 rfl rfl ?_
  refine w_arg (k := 1) F dl_417 dl_418 dl_419 dl_420 dl_421 (by decide +kernel) (by omega) ?_
  refine w_arg (k := 2) F dl_422 dl_423 dl_424 dl_425 dl_426 (by decide +kernel) (by omega) ?_
  refine w_callM F (mX10_have l (gA G a2) (xs (i + 1)) (xs (i + 2)) D) okl_X10_have kl_43 rfl rfl rfl rfl dl_427 e2 ?_
  exact w_eq (tgt := 1371) F dl_430 (by decide) (kk C2 D2 h2)
theorem lc_7 {p : Program} {l : Launch} {e : Env} {s : State} {m : MethodId} {below : List Frame} {meth : Method} {c : Code} {b L : Nat} {xs : Nat → Int32} {G : Gx} {a2 : Nat → Nat} {cc ss : Nat} {C D : Mm} {i : Nat} (F : LF p s m meth c b L xs G a2 cc ss) (hi : i + 6 ≤ L) (hR : Rel C D) (kk : ∀ C2 D2, Rel C2 D2 → LW p l e s m below meth c b G a2 cc ss 1371 (lvI b G a2 i) [] C2 D2) : LW p l e s m below meth c b G a2 cc ss 435 (lvI b G a2 i) [] C D := by
  obtain ⟨r, C2, D2, e1, e2, h2⟩ := op_feed hR ((((xs (i + 1)).toInt64) <<< ((32 : Int32).toInt64 &&& 63)) ||| (((xs (i + 2)).toInt64) &&& (4294967295 : Int64))) (xs (i + 3))
  refine w_aload 2 F dl_435 rfl rfl ?_
  refine w_arg (k := 1) F dl_436 dl_437 dl_438 dl_439 dl_440 (by decide +kernel) (by omega) ?_
  refine w_i2l F dl_441 ?_
  refine w_bipush (v := 32) F dl_442 (by decide +kernel) ?_
  refine w_lshl F dl_444 ?_
  refine w_arg (k := 2) F dl_445 dl_446 dl_447 dl_448 dl_449 (by decide +kernel) (by omega) ?_
  refine w_i2l F dl_450 ?_
  refine w_ldc2 F dl_451 lq_1443 ?_
  refine w_land F dl_454 ?_
  refine w_lor F dl_455 ?_
  refine w_arg (k := 3) F dl_456 dl_457 dl_458 dl_459 dl_460 (by decide +kernel) (by omega) ?_
  refine w_callC F (mX9_feed l G ((((xs (i + 1)).toInt64) <<< ((32 : Int32).toInt64 &&& 63)) ||| (((xs (i + 2)).toInt64) &&& (4294967295 : Int64))) (xs (i + 3)) C) okl_X9_feed kl_46 rfl rfl rfl rfl dl_461 e1 ?_
  refine w_aload 1 F dl_464 rfl rfl ?_
  refine w_arg (k := 1) F dl_465 dl_466 dl_467 dl_468 dl_469 (by decide +kernel) (by omega) ?_
  refine w_i2l F dl_470 ?_
  refine w_bipush (v := 32) F dl_471 (by decide +kernel) ?_
  refine w_lshl F dl_473 ?_
  refine w_arg (k := 2) F dl_474 dl_475 dl_476 dl_477 dl_478 (by decide +kernel) (by omega) ?_
  refine w_i2l F dl_479 ?_
  refine w_ldc2 F dl_480 lq_1443 ?_
  refine w_land F dl_483 ?_
  refine w_lor F dl_484 ?_
  refine w_arg (k := 3) F dl_485 dl_486 dl_487 dl_488 dl_489 (by decide +kernel) (by omega) ?_
  refine w_callM F (mX10_feed l (gA G a2) ((((xs (i + 1)).toInt64) <<< ((32 : Int32).toInt64 &&& 63)) ||| (((xs (i + 2)).toInt64) &&& (4294967295 : Int64))) (xs (i + 3)) D) okl_X10_feed kl_50 rfl rfl rfl rfl dl_490 e2 ?_
  exact w_eq (tgt := 1371) F dl_493 (by decide) (kk C2 D2 h2)
theorem lc_8 {p : Program} {l : Launch} {e : Env} {s : State} {m : MethodId} {below : List Frame} {meth : Method} {c : Code} {b L : Nat} {xs : Nat → Int32} {G : Gx} {a2 : Nat → Nat} {cc ss : Nat} {C D : Mm} {i : Nat} (F : LF p s m meth c b L xs G a2 cc ss) (hi : i + 6 ≤ L) (hR : Rel C D) (kk : ∀ C2 D2, Rel C2 D2 → LW p l e s m below meth c b G a2 cc ss 1371 (lvI b G a2 i) [] C2 D2) : LW p l e s m below meth c b G a2 cc ss 498 (lvI b G a2 i) [] C D := by
  obtain ⟨r, C2, D2, e1, e2, h2⟩ := op_text hR (xs (i + 1))
  refine w_aload 2 F dl_498 rfl rfl ?_
  refine w_arg (k := 1) F dl_499 dl_500 dl_501 dl_502 dl_503 (by decide +kernel) (by omega) ?_
  refine w_callC F (mX9_text l G (xs (i + 1)) C) okl_X9_text kl_51 rfl rfl rfl rfl dl_504 e1 ?_
  refine w_aload 1 F dl_507 rfl rfl ?_
  refine w_arg (k := 1) F dl_508 dl_509 dl_510 dl_511 dl_512 (by decide +kernel) (by omega) ?_
  refine w_callM F (mX10_text l (gA G a2) (xs (i + 1)) D) okl_X10_text kl_54 rfl rfl rfl rfl dl_513 e2 ?_
  exact w_eq (tgt := 1371) F dl_516 (by decide) (kk C2 D2 h2)
theorem lc_9 {p : Program} {l : Launch} {e : Env} {s : State} {m : MethodId} {below : List Frame} {meth : Method} {c : Code} {b L : Nat} {xs : Nat → Int32} {G : Gx} {a2 : Nat → Nat} {cc ss : Nat} {C D : Mm} {i : Nat} (F : LF p s m meth c b L xs G a2 cc ss) (hi : i + 6 ≤ L) (hR : Rel C D) (kk : ∀ C2 D2, Rel C2 D2 → LW p l e s m below meth c b G a2 cc ss 1371 (lvI b G a2 i) [] C2 D2) : LW p l e s m below meth c b G a2 cc ss 521 (lvI b G a2 i) [] C D := by
  obtain ⟨r, C2, D2, e1, e2, h2⟩ := op_untell hR (xs (i + 1))
  refine w_aload 2 F dl_521 rfl rfl ?_
  refine w_arg (k := 1) F dl_522 dl_523 dl_524 dl_525 dl_526 (by decide +kernel) (by omega) ?_
  refine w_callC F (mX9_untell l G (xs (i + 1)) C) okl_X9_untell kl_55 rfl rfl rfl rfl dl_527 e1 ?_
  refine w_aload 1 F dl_530 rfl rfl ?_
  refine w_arg (k := 1) F dl_531 dl_532 dl_533 dl_534 dl_535 (by decide +kernel) (by omega) ?_
  refine w_callM F (mX10_untell l (gA G a2) (xs (i + 1)) D) okl_X10_untell kl_58 rfl rfl rfl rfl dl_536 e2 ?_
  exact w_eq (tgt := 1371) F dl_539 (by decide) (kk C2 D2 h2)
theorem lc_10 {p : Program} {l : Launch} {e : Env} {s : State} {m : MethodId} {below : List Frame} {meth : Method} {c : Code} {b L : Nat} {xs : Nat → Int32} {G : Gx} {a2 : Nat → Nat} {cc ss : Nat} {C D : Mm} {i : Nat} (F : LF p s m meth c b L xs G a2 cc ss) (hi : i + 6 ≤ L) (hR : Rel C D) (kk : ∀ C2 D2, Rel C2 D2 → LW p l e s m below meth c b G a2 cc ss 1371 (lvI b G a2 i) [] C2 D2) : LW p l e s m below meth c b G a2 cc ss 544 (lvI b G a2 i) [] C D := by
  obtain ⟨r, C2, D2, e1, e2, h2⟩ := op_word hR 
  refine w_aload 2 F dl_544 rfl rfl ?_
  refine w_callC F (mX9_word l G  C) okl_X9_word kl_59 rfl rfl rfl rfl dl_545 e1 ?_
  refine w_aload 1 F dl_548 rfl rfl ?_
  refine w_callM F (mX10_word l (gA G a2)  D) okl_X10_word kl_63 rfl rfl rfl rfl dl_549 e2 ?_
  exact w_eq (tgt := 1371) F dl_552 (by decide) (kk C2 D2 h2)
theorem lc_11 {p : Program} {l : Launch} {e : Env} {s : State} {m : MethodId} {below : List Frame} {meth : Method} {c : Code} {b L : Nat} {xs : Nat → Int32} {G : Gx} {a2 : Nat → Nat} {cc ss : Nat} {C D : Mm} {i : Nat} (F : LF p s m meth c b L xs G a2 cc ss) (hi : i + 6 ≤ L) (hR : Rel C D) (kk : ∀ C2 D2, Rel C2 D2 → LW p l e s m below meth c b G a2 cc ss 1371 (lvI b G a2 i) [] C2 D2) : LW p l e s m below meth c b G a2 cc ss 557 (lvI b G a2 i) [] C D := by
  obtain ⟨r, C2, D2, e1, e2, h2⟩ := op_decree hR 
  refine w_aload 2 F dl_557 rfl rfl ?_
  refine w_callC F (mX9_decree l G  C) okl_X9_decree kl_64 rfl rfl rfl rfl dl_558 e1 ?_
  refine w_aload 1 F dl_561 rfl rfl ?_
  refine w_callM F (mX10_decree l (gA G a2)  D) okl_X10_decree kl_67 rfl rfl rfl rfl dl_562 e2 ?_
  exact w_eq (tgt := 1371) F dl_565 (by decide) (kk C2 D2 h2)
theorem lc_12 {p : Program} {l : Launch} {e : Env} {s : State} {m : MethodId} {below : List Frame} {meth : Method} {c : Code} {b L : Nat} {xs : Nat → Int32} {G : Gx} {a2 : Nat → Nat} {cc ss : Nat} {C D : Mm} {i : Nat} (F : LF p s m meth c b L xs G a2 cc ss) (hi : i + 6 ≤ L) (hR : Rel C D) (kk : ∀ C2 D2, Rel C2 D2 → LW p l e s m below meth c b G a2 cc ss 1371 (lvI b G a2 i) [] C2 D2) : LW p l e s m below meth c b G a2 cc ss 570 (lvI b G a2 i) [] C D := by
  obtain ⟨r, C2, D2, e1, e2, h2⟩ := op_lay hR (xs (i + 1)) (xs (i + 2))
  refine w_aload 2 F dl_570 rfl rfl ?_
  refine w_arg (k := 1) F dl_571 dl_572 dl_573 dl_574 dl_575 (by decide +kernel) (by omega) ?_
  refine w_arg (k := 2) F dl_576 dl_577 dl_578 dl_579 dl_580 (by decide +kernel) (by omega) ?_
  refine w_callC F (mX9_lay l G (xs (i + 1)) (xs (i + 2)) C) okl_X9_lay kl_68 rfl rfl rfl rfl dl_581 e1 ?_
  refine w_aload 1 F dl_584 rfl rfl ?_
  refine w_arg (k := 1) F dl_585 dl_586 dl_587 dl_588 dl_589 (by decide +kernel) (by omega) ?_
  refine w_arg (k := 2) F dl_590 dl_591 dl_592 dl_593 dl_594 (by decide +kernel) (by omega) ?_
  refine w_callM F (mX10_lay l (gA G a2) (xs (i + 1)) (xs (i + 2)) D) okl_X10_lay kl_71 rfl rfl rfl rfl dl_595 e2 ?_
  exact w_eq (tgt := 1371) F dl_598 (by decide) (kk C2 D2 h2)
theorem lc_13 {p : Program} {l : Launch} {e : Env} {s : State} {m : MethodId} {below : List Frame} {meth : Method} {c : Code} {b L : Nat} {xs : Nat → Int32} {G : Gx} {a2 : Nat → Nat} {cc ss : Nat} {C D : Mm} {i : Nat} (F : LF p s m meth c b L xs G a2 cc ss) (hi : i + 6 ≤ L) (hR : Rel C D) (kk : ∀ C2 D2, Rel C2 D2 → LW p l e s m below meth c b G a2 cc ss 1371 (lvI b G a2 i) [] C2 D2) : LW p l e s m below meth c b G a2 cc ss 603 (lvI b G a2 i) [] C D := by
  obtain ⟨r, C2, D2, e1, e2, h2⟩ := op_sort hR (xs (i + 1))
  refine w_aload 2 F dl_603 rfl rfl ?_
  refine w_arg (k := 1) F dl_604 dl_605 dl_606 dl_607 dl_608 (by decide +kernel) (by omega) ?_
  refine w_callC F (mX9_sort l G (xs (i + 1)) C) okl_X9_sort kl_72 rfl rfl rfl rfl dl_609 e1 ?_
  refine w_aload 1 F dl_612 rfl rfl ?_
  refine w_arg (k := 1) F dl_613 dl_614 dl_615 dl_616 dl_617 (by decide +kernel) (by omega) ?_
  refine w_callM F (mX10_sort l (gA G a2) (xs (i + 1)) D) okl_X10_sort kl_75 rfl rfl rfl rfl dl_618 e2 ?_
  exact w_eq (tgt := 1371) F dl_621 (by decide) (kk C2 D2 h2)
theorem lc_14 {p : Program} {l : Launch} {e : Env} {s : State} {m : MethodId} {below : List Frame} {meth : Method} {c : Code} {b L : Nat} {xs : Nat → Int32} {G : Gx} {a2 : Nat → Nat} {cc ss : Nat} {C D : Mm} {i : Nat} (F : LF p s m meth c b L xs G a2 cc ss) (hi : i + 6 ≤ L) (hR : Rel C D) (kk : ∀ C2 D2, Rel C2 D2 → LW p l e s m below meth c b G a2 cc ss 1371 (lvI b G a2 i) [] C2 D2) : LW p l e s m below meth c b G a2 cc ss 626 (lvI b G a2 i) [] C D := by
  obtain ⟨r, C2, D2, e1, e2, h2⟩ := op_pageIs hR (xs (i + 1)) (xs (i + 2))
  refine w_aload 2 F dl_626 rfl rfl ?_
  refine w_arg (k := 1) F dl_627 dl_628 dl_629 dl_630 dl_631 (by decide +kernel) (by omega) ?_
  refine w_arg (k := 2) F dl_632 dl_633 dl_634 dl_635 dl_636 (by decide +kernel) (by omega) ?_
  refine w_callC F (mX9_pageIs l G (xs (i + 1)) (xs (i + 2)) C) okl_X9_pageIs kl_76 rfl rfl rfl rfl dl_637 e1 ?_
  refine w_aload 1 F dl_640 rfl rfl ?_
  refine w_arg (k := 1) F dl_641 dl_642 dl_643 dl_644 dl_645 (by decide +kernel) (by omega) ?_
  refine w_arg (k := 2) F dl_646 dl_647 dl_648 dl_649 dl_650 (by decide +kernel) (by omega) ?_
  refine w_callM F (mX10_pageIs l (gA G a2) (xs (i + 1)) (xs (i + 2)) D) okl_X10_pageIs kl_79 rfl rfl rfl rfl dl_651 e2 ?_
  exact w_eq (tgt := 1371) F dl_654 (by decide) (kk C2 D2 h2)
theorem lc_15 {p : Program} {l : Launch} {e : Env} {s : State} {m : MethodId} {below : List Frame} {meth : Method} {c : Code} {b L : Nat} {xs : Nat → Int32} {G : Gx} {a2 : Nat → Nat} {cc ss : Nat} {C D : Mm} {i : Nat} (F : LF p s m meth c b L xs G a2 cc ss) (hi : i + 6 ≤ L) (hR : Rel C D) (kk : ∀ C2 D2, Rel C2 D2 → LW p l e s m below meth c b G a2 cc ss 1371 (lvI b G a2 i) [] C2 D2) : LW p l e s m below meth c b G a2 cc ss 659 (lvI b G a2 i) [] C D := by
  obtain ⟨r, C2, D2, e1, e2, h2⟩ := op_press hR (xs (i + 1)) (xs (i + 2))
  refine w_aload 2 F dl_659 rfl rfl ?_
  refine w_arg (k := 1) F dl_660 dl_661 dl_662 dl_663 dl_664 (by decide +kernel) (by omega) ?_
  refine w_arg (k := 2) F dl_665 dl_666 dl_667 dl_668 dl_669 (by decide +kernel) (by omega) ?_
  refine w_callC F (mX9_press l G (xs (i + 1)) (xs (i + 2)) C) okl_X9_press kl_80 rfl rfl rfl rfl dl_670 e1 ?_
  refine w_aload 1 F dl_673 rfl rfl ?_
  refine w_arg (k := 1) F dl_674 dl_675 dl_676 dl_677 dl_678 (by decide +kernel) (by omega) ?_
  refine w_arg (k := 2) F dl_679 dl_680 dl_681 dl_682 dl_683 (by decide +kernel) (by omega) ?_
  refine w_callM F (mX10_press l (gA G a2) (xs (i + 1)) (xs (i + 2)) D) okl_X10_press kl_83 rfl rfl rfl rfl dl_684 e2 ?_
  exact w_eq (tgt := 1371) F dl_687 (by decide) (kk C2 D2 h2)
theorem lc_16 {p : Program} {l : Launch} {e : Env} {s : State} {m : MethodId} {below : List Frame} {meth : Method} {c : Code} {b L : Nat} {xs : Nat → Int32} {G : Gx} {a2 : Nat → Nat} {cc ss : Nat} {C D : Mm} {i : Nat} (F : LF p s m meth c b L xs G a2 cc ss) (hi : i + 6 ≤ L) (hR : Rel C D) (kk : ∀ C2 D2, Rel C2 D2 → LW p l e s m below meth c b G a2 cc ss 1371 (lvI b G a2 i) [] C2 D2) : LW p l e s m below meth c b G a2 cc ss 692 (lvI b G a2 i) [] C D := by
  obtain ⟨r, C2, D2, e1, e2, h2⟩ := op_run hR (xs (i + 1)) (xs (i + 2))
  refine w_aload 2 F dl_692 rfl rfl ?_
  refine w_arg (k := 1) F dl_693 dl_694 dl_695 dl_696 dl_697 (by decide +kernel) (by omega) ?_
  refine w_arg (k := 2) F dl_698 dl_699 dl_700 dl_701 dl_702 (by decide +kernel) (by omega) ?_
  refine w_callC F (mX9_run l G (xs (i + 1)) (xs (i + 2)) C) okl_X9_run kl_84 rfl rfl rfl rfl dl_703 e1 ?_
  refine w_aload 1 F dl_706 rfl rfl ?_
  refine w_arg (k := 1) F dl_707 dl_708 dl_709 dl_710 dl_711 (by decide +kernel) (by omega) ?_
  refine w_arg (k := 2) F dl_712 dl_713 dl_714 dl_715 dl_716 (by decide +kernel) (by omega) ?_
  refine w_callM F (mX10_run l (gA G a2) (xs (i + 1)) (xs (i + 2)) D) okl_X10_run kl_87 rfl rfl rfl rfl dl_717 e2 ?_
  exact w_eq (tgt := 1371) F dl_720 (by decide) (kk C2 D2 h2)
theorem lc_17 {p : Program} {l : Launch} {e : Env} {s : State} {m : MethodId} {below : List Frame} {meth : Method} {c : Code} {b L : Nat} {xs : Nat → Int32} {G : Gx} {a2 : Nat → Nat} {cc ss : Nat} {C D : Mm} {i : Nat} (F : LF p s m meth c b L xs G a2 cc ss) (hi : i + 6 ≤ L) (hR : Rel C D) (kk : ∀ C2 D2, Rel C2 D2 → LW p l e s m below meth c b G a2 cc ss 1371 (lvI b G a2 i) [] C2 D2) : LW p l e s m below meth c b G a2 cc ss 725 (lvI b G a2 i) [] C D := by
  obtain ⟨r, C2, D2, e1, e2, h2⟩ := op_lost hR (xs (i + 1))
  refine w_aload 2 F dl_725 rfl rfl ?_
  refine w_arg (k := 1) F dl_726 dl_727 dl_728 dl_729 dl_730 (by decide +kernel) (by omega) ?_
  refine w_callC F (mX9_lost l G (xs (i + 1)) C) okl_X9_lost kl_88 rfl rfl rfl rfl dl_731 e1 ?_
  refine w_aload 1 F dl_734 rfl rfl ?_
  refine w_arg (k := 1) F dl_735 dl_736 dl_737 dl_738 dl_739 (by decide +kernel) (by omega) ?_
  refine w_callM F (mX10_lost l (gA G a2) (xs (i + 1)) D) okl_X10_lost kl_91 rfl rfl rfl rfl dl_740 e2 ?_
  exact w_eq (tgt := 1371) F dl_743 (by decide) (kk C2 D2 h2)
theorem lc_18 {p : Program} {l : Launch} {e : Env} {s : State} {m : MethodId} {below : List Frame} {meth : Method} {c : Code} {b L : Nat} {xs : Nat → Int32} {G : Gx} {a2 : Nat → Nat} {cc ss : Nat} {C D : Mm} {i : Nat} (F : LF p s m meth c b L xs G a2 cc ss) (hi : i + 6 ≤ L) (hR : Rel C D) (kk : ∀ C2 D2, Rel C2 D2 → LW p l e s m below meth c b G a2 cc ss 1371 (lvI b G a2 i) [] C2 D2) : LW p l e s m below meth c b G a2 cc ss 748 (lvI b G a2 i) [] C D := by
  obtain ⟨r, C2, D2, e1, e2, h2⟩ := op_then hR (xs (i + 1)) (xs (i + 2)) (xs (i + 3))
  refine w_aload 2 F dl_748 rfl rfl ?_
  refine w_arg (k := 1) F dl_749 dl_750 dl_751 dl_752 dl_753 (by decide +kernel) (by omega) ?_
  refine w_arg (k := 2) F dl_754 dl_755 dl_756 dl_757 dl_758 (by decide +kernel) (by omega) ?_
  refine w_arg (k := 3) F dl_759 dl_760 dl_761 dl_762 dl_763 (by decide +kernel) (by omega) ?_
  refine w_callC F (mX9_then l G (xs (i + 1)) (xs (i + 2)) (xs (i + 3)) C) okl_X9_then kl_92 rfl rfl rfl rfl dl_764 e1 ?_
  refine w_aload 1 F dl_767 rfl rfl ?_
  refine w_arg (k := 1) F dl_768 dl_769 dl_770 dl_771 dl_772 (by decide +kernel) (by omega) ?_
  refine w_arg (k := 2) F dl_773 dl_774 dl_775 dl_776 dl_777 (by decide +kernel) (by omega) ?_
  refine w_arg (k := 3) F dl_778 dl_779 dl_780 dl_781 dl_782 (by decide +kernel) (by omega) ?_
  refine w_callM F (mX10_then l (gA G a2) (xs (i + 1)) (xs (i + 2)) (xs (i + 3)) D) okl_X10_then kl_95 rfl rfl rfl rfl dl_783 e2 ?_
  exact w_eq (tgt := 1371) F dl_786 (by decide) (kk C2 D2 h2)
theorem lc_19 {p : Program} {l : Launch} {e : Env} {s : State} {m : MethodId} {below : List Frame} {meth : Method} {c : Code} {b L : Nat} {xs : Nat → Int32} {G : Gx} {a2 : Nat → Nat} {cc ss : Nat} {C D : Mm} {i : Nat} (F : LF p s m meth c b L xs G a2 cc ss) (hi : i + 6 ≤ L) (hR : Rel C D) (kk : ∀ C2 D2, Rel C2 D2 → LW p l e s m below meth c b G a2 cc ss 1371 (lvI b G a2 i) [] C2 D2) : LW p l e s m below meth c b G a2 cc ss 791 (lvI b G a2 i) [] C D := by
  obtain ⟨r, C2, D2, e1, e2, h2⟩ := op_order hR (xs (i + 1)) (xs (i + 2))
  refine w_aload 2 F dl_791 rfl rfl ?_
  refine w_arg (k := 1) F dl_792 dl_793 dl_794 dl_795 dl_796 (by decide +kernel) (by omega) ?_
  refine w_arg (k := 2) F dl_797 dl_798 dl_799 dl_800 dl_801 (by decide +kernel) (by omega) ?_
  refine w_callC F (mX9_order l G (xs (i + 1)) (xs (i + 2)) C) okl_X9_order kl_96 rfl rfl rfl rfl dl_802 e1 ?_
  refine w_aload 1 F dl_805 rfl rfl ?_
  refine w_arg (k := 1) F dl_806 dl_807 dl_808 dl_809 dl_810 (by decide +kernel) (by omega) ?_
  refine w_arg (k := 2) F dl_811 dl_812 dl_813 dl_814 dl_815 (by decide +kernel) (by omega) ?_
  refine w_callM F (mX10_order l (gA G a2) (xs (i + 1)) (xs (i + 2)) D) okl_X10_order kl_99 rfl rfl rfl rfl dl_816 e2 ?_
  exact w_eq (tgt := 1371) F dl_819 (by decide) (kk C2 D2 h2)
theorem lc_20 {p : Program} {l : Launch} {e : Env} {s : State} {m : MethodId} {below : List Frame} {meth : Method} {c : Code} {b L : Nat} {xs : Nat → Int32} {G : Gx} {a2 : Nat → Nat} {cc ss : Nat} {C D : Mm} {i : Nat} (F : LF p s m meth c b L xs G a2 cc ss) (hi : i + 6 ≤ L) (hR : Rel C D) (kk : ∀ C2 D2, Rel C2 D2 → LW p l e s m below meth c b G a2 cc ss 1371 (lvI b G a2 i) [] C2 D2) : LW p l e s m below meth c b G a2 cc ss 824 (lvI b G a2 i) [] C D := by
  obtain ⟨r, C2, D2, e1, e2, h2⟩ := op_room hR (xs (i + 1)) (xs (i + 2))
  refine w_aload 2 F dl_824 rfl rfl ?_
  refine w_arg (k := 1) F dl_825 dl_826 dl_827 dl_828 dl_829 (by decide +kernel) (by omega) ?_
  refine w_arg (k := 2) F dl_830 dl_831 dl_832 dl_833 dl_834 (by decide +kernel) (by omega) ?_
  refine w_callC F (mX9_room l G (xs (i + 1)) (xs (i + 2)) C) okl_X9_room kl_100 rfl rfl rfl rfl dl_835 e1 ?_
  refine w_aload 1 F dl_838 rfl rfl ?_
  refine w_arg (k := 1) F dl_839 dl_840 dl_841 dl_842 dl_843 (by decide +kernel) (by omega) ?_
  refine w_arg (k := 2) F dl_844 dl_845 dl_846 dl_847 dl_848 (by decide +kernel) (by omega) ?_
  refine w_callM F (mX10_room l (gA G a2) (xs (i + 1)) (xs (i + 2)) D) okl_X10_room kl_103 rfl rfl rfl rfl dl_849 e2 ?_
  exact w_eq (tgt := 1371) F dl_852 (by decide) (kk C2 D2 h2)
theorem lc_21 {p : Program} {l : Launch} {e : Env} {s : State} {m : MethodId} {below : List Frame} {meth : Method} {c : Code} {b L : Nat} {xs : Nat → Int32} {G : Gx} {a2 : Nat → Nat} {cc ss : Nat} {C D : Mm} {i : Nat} (F : LF p s m meth c b L xs G a2 cc ss) (hi : i + 6 ≤ L) (hR : Rel C D) (kk : ∀ C2 D2, Rel C2 D2 → LW p l e s m below meth c b G a2 cc ss 1371 (lvI b G a2 i) [] C2 D2) : LW p l e s m below meth c b G a2 cc ss 857 (lvI b G a2 i) [] C D := by
  obtain ⟨r, C2, D2, e1, e2, h2⟩ := op_needs hR (xs (i + 1)) (xs (i + 2))
  refine w_aload 2 F dl_857 rfl rfl ?_
  refine w_arg (k := 1) F dl_858 dl_859 dl_860 dl_861 dl_862 (by decide +kernel) (by omega) ?_
  refine w_arg (k := 2) F dl_863 dl_864 dl_865 dl_866 dl_867 (by decide +kernel) (by omega) ?_
  refine w_callC F (mX9_needs l G (xs (i + 1)) (xs (i + 2)) C) okl_X9_needs kl_104 rfl rfl rfl rfl dl_868 e1 ?_
  refine w_aload 1 F dl_871 rfl rfl ?_
  refine w_arg (k := 1) F dl_872 dl_873 dl_874 dl_875 dl_876 (by decide +kernel) (by omega) ?_
  refine w_arg (k := 2) F dl_877 dl_878 dl_879 dl_880 dl_881 (by decide +kernel) (by omega) ?_
  refine w_callM F (mX10_needs l (gA G a2) (xs (i + 1)) (xs (i + 2)) D) okl_X10_needs kl_107 rfl rfl rfl rfl dl_882 e2 ?_
  exact w_eq (tgt := 1371) F dl_885 (by decide) (kk C2 D2 h2)
theorem lc_22 {p : Program} {l : Launch} {e : Env} {s : State} {m : MethodId} {below : List Frame} {meth : Method} {c : Code} {b L : Nat} {xs : Nat → Int32} {G : Gx} {a2 : Nat → Nat} {cc ss : Nat} {C D : Mm} {i : Nat} (F : LF p s m meth c b L xs G a2 cc ss) (hi : i + 6 ≤ L) (hR : Rel C D) (kk : ∀ C2 D2, Rel C2 D2 → LW p l e s m below meth c b G a2 cc ss 1371 (lvI b G a2 i) [] C2 D2) : LW p l e s m below meth c b G a2 cc ss 890 (lvI b G a2 i) [] C D := by
  obtain ⟨r, C2, D2, e1, e2, h2⟩ := op_said hR (xs (i + 1))
  refine w_aload 2 F dl_890 rfl rfl ?_
  refine w_arg (k := 1) F dl_891 dl_892 dl_893 dl_894 dl_895 (by decide +kernel) (by omega) ?_
  refine w_callC F (mX9_said l G (xs (i + 1)) C) okl_X9_said kl_108 rfl rfl rfl rfl dl_896 e1 ?_
  refine w_aload 1 F dl_899 rfl rfl ?_
  refine w_arg (k := 1) F dl_900 dl_901 dl_902 dl_903 dl_904 (by decide +kernel) (by omega) ?_
  refine w_callM F (mX10_said l (gA G a2) (xs (i + 1)) D) okl_X10_said kl_111 rfl rfl rfl rfl dl_905 e2 ?_
  exact w_eq (tgt := 1371) F dl_908 (by decide) (kk C2 D2 h2)
theorem lc_23 {p : Program} {l : Launch} {e : Env} {s : State} {m : MethodId} {below : List Frame} {meth : Method} {c : Code} {b L : Nat} {xs : Nat → Int32} {G : Gx} {a2 : Nat → Nat} {cc ss : Nat} {C D : Mm} {i : Nat} (F : LF p s m meth c b L xs G a2 cc ss) (hi : i + 6 ≤ L) (hR : Rel C D) (kk : ∀ C2 D2, Rel C2 D2 → LW p l e s m below meth c b G a2 cc ss 1371 (lvI b G a2 i) [] C2 D2) : LW p l e s m below meth c b G a2 cc ss 913 (lvI b G a2 i) [] C D := by
  obtain ⟨r, C2, D2, e1, e2, h2⟩ := op_inCase hR (xs (i + 1))
  refine w_aload 2 F dl_913 rfl rfl ?_
  refine w_arg (k := 1) F dl_914 dl_915 dl_916 dl_917 dl_918 (by decide +kernel) (by omega) ?_
  refine w_callC F (mX9_inCase l G (xs (i + 1)) C) okl_X9_inCase kl_112 rfl rfl rfl rfl dl_919 e1 ?_
  refine w_aload 1 F dl_922 rfl rfl ?_
  refine w_arg (k := 1) F dl_923 dl_924 dl_925 dl_926 dl_927 (by decide +kernel) (by omega) ?_
  refine w_callM F (mX10_inCase l (gA G a2) (xs (i + 1)) D) okl_X10_inCase kl_115 rfl rfl rfl rfl dl_928 e2 ?_
  exact w_eq (tgt := 1371) F dl_931 (by decide) (kk C2 D2 h2)
theorem lc_24 {p : Program} {l : Launch} {e : Env} {s : State} {m : MethodId} {below : List Frame} {meth : Method} {c : Code} {b L : Nat} {xs : Nat → Int32} {G : Gx} {a2 : Nat → Nat} {cc ss : Nat} {C D : Mm} {i : Nat} (F : LF p s m meth c b L xs G a2 cc ss) (hi : i + 6 ≤ L) (hR : Rel C D) (kk : ∀ C2 D2, Rel C2 D2 → LW p l e s m below meth c b G a2 cc ss 1371 (lvI b G a2 i) [] C2 D2) : LW p l e s m below meth c b G a2 cc ss 936 (lvI b G a2 i) [] C D := by
  obtain ⟨r, C2, D2, e1, e2, h2⟩ := op_days hR (xs (i + 1))
  refine w_aload 2 F dl_936 rfl rfl ?_
  refine w_arg (k := 1) F dl_937 dl_938 dl_939 dl_940 dl_941 (by decide +kernel) (by omega) ?_
  refine w_callC F (mX9_days l G (xs (i + 1)) C) okl_X9_days kl_116 rfl rfl rfl rfl dl_942 e1 ?_
  refine w_aload 1 F dl_945 rfl rfl ?_
  refine w_arg (k := 1) F dl_946 dl_947 dl_948 dl_949 dl_950 (by decide +kernel) (by omega) ?_
  refine w_callM F (mX10_days l (gA G a2) (xs (i + 1)) D) okl_X10_days kl_119 rfl rfl rfl rfl dl_951 e2 ?_
  exact w_eq (tgt := 1371) F dl_954 (by decide) (kk C2 D2 h2)
theorem lc_25 {p : Program} {l : Launch} {e : Env} {s : State} {m : MethodId} {below : List Frame} {meth : Method} {c : Code} {b L : Nat} {xs : Nat → Int32} {G : Gx} {a2 : Nat → Nat} {cc ss : Nat} {C D : Mm} {i : Nat} (F : LF p s m meth c b L xs G a2 cc ss) (hi : i + 6 ≤ L) (hR : Rel C D) (kk : ∀ C2 D2, Rel C2 D2 → LW p l e s m below meth c b G a2 cc ss 1371 (lvI b G a2 i) [] C2 D2) : LW p l e s m below meth c b G a2 cc ss 959 (lvI b G a2 i) [] C D := by
  obtain ⟨r, C2, D2, e1, e2, h2⟩ := op_seed hR (xs (i + 1))
  refine w_aload 2 F dl_959 rfl rfl ?_
  refine w_arg (k := 1) F dl_960 dl_961 dl_962 dl_963 dl_964 (by decide +kernel) (by omega) ?_
  refine w_callC F (mX9_seed l G (xs (i + 1)) C) okl_X9_seed kl_120 rfl rfl rfl rfl dl_965 e1 ?_
  refine w_aload 1 F dl_968 rfl rfl ?_
  refine w_arg (k := 1) F dl_969 dl_970 dl_971 dl_972 dl_973 (by decide +kernel) (by omega) ?_
  refine w_callM F (mX10_seed l (gA G a2) (xs (i + 1)) D) okl_X10_seed kl_123 rfl rfl rfl rfl dl_974 e2 ?_
  exact w_eq (tgt := 1371) F dl_977 (by decide) (kk C2 D2 h2)
theorem lc_26 {p : Program} {l : Launch} {e : Env} {s : State} {m : MethodId} {below : List Frame} {meth : Method} {c : Code} {b L : Nat} {xs : Nat → Int32} {G : Gx} {a2 : Nat → Nat} {cc ss : Nat} {C D : Mm} {i : Nat} (F : LF p s m meth c b L xs G a2 cc ss) (hi : i + 6 ≤ L) (hR : Rel C D) (kk : ∀ C2 D2, Rel C2 D2 → LW p l e s m below meth c b G a2 cc ss 1371 (lvI b G a2 i) [] C2 D2) : LW p l e s m below meth c b G a2 cc ss 982 (lvI b G a2 i) [] C D := by
  obtain ⟨r, C2, D2, e1, e2, h2⟩ := op_voice hR (xs (i + 1)) (xs (i + 2)) (xs (i + 3))
  refine w_aload 2 F dl_982 rfl rfl ?_
  refine w_arg (k := 1) F dl_983 dl_984 dl_985 dl_986 dl_987 (by decide +kernel) (by omega) ?_
  refine w_arg (k := 2) F dl_988 dl_989 dl_990 dl_991 dl_992 (by decide +kernel) (by omega) ?_
  refine w_arg (k := 3) F dl_993 dl_994 dl_995 dl_996 dl_997 (by decide +kernel) (by omega) ?_
  refine w_callC F (mX9_voice l G (xs (i + 1)) (xs (i + 2)) (xs (i + 3)) C) okl_X9_voice kl_124 rfl rfl rfl rfl dl_998 e1 ?_
  refine w_aload 1 F dl_1001 rfl rfl ?_
  refine w_arg (k := 1) F dl_1002 dl_1003 dl_1004 dl_1005 dl_1006 (by decide +kernel) (by omega) ?_
  refine w_arg (k := 2) F dl_1007 dl_1008 dl_1009 dl_1010 dl_1011 (by decide +kernel) (by omega) ?_
  refine w_arg (k := 3) F dl_1012 dl_1013 dl_1014 dl_1015 dl_1016 (by decide +kernel) (by omega) ?_
  refine w_callM F (mX10_voice l (gA G a2) (xs (i + 1)) (xs (i + 2)) (xs (i + 3)) D) okl_X10_voice kl_127 rfl rfl rfl rfl dl_1017 e2 ?_
  exact w_eq (tgt := 1371) F dl_1020 (by decide) (kk C2 D2 h2)
theorem lc_27 {p : Program} {l : Launch} {e : Env} {s : State} {m : MethodId} {below : List Frame} {meth : Method} {c : Code} {b L : Nat} {xs : Nat → Int32} {G : Gx} {a2 : Nat → Nat} {cc ss : Nat} {C D : Mm} {i : Nat} (F : LF p s m meth c b L xs G a2 cc ss) (hi : i + 6 ≤ L) (hR : Rel C D) (kk : ∀ C2 D2, Rel C2 D2 → LW p l e s m below meth c b G a2 cc ss 1371 (lvI b G a2 i) [] C2 D2) : LW p l e s m below meth c b G a2 cc ss 1025 (lvI b G a2 i) [] C D := by
  obtain ⟨r, C2, D2, e1, e2, h2⟩ := op_body hR (xs (i + 1))
  refine w_aload 2 F dl_1025 rfl rfl ?_
  refine w_arg (k := 1) F dl_1026 dl_1027 dl_1028 dl_1029 dl_1030 (by decide +kernel) (by omega) ?_
  refine w_callC F (mX9_body l G (xs (i + 1)) C) okl_X9_body kl_128 rfl rfl rfl rfl dl_1031 e1 ?_
  refine w_aload 1 F dl_1034 rfl rfl ?_
  refine w_arg (k := 1) F dl_1035 dl_1036 dl_1037 dl_1038 dl_1039 (by decide +kernel) (by omega) ?_
  refine w_callM F (mX10_body l (gA G a2) (xs (i + 1)) D) okl_X10_body kl_131 rfl rfl rfl rfl dl_1040 e2 ?_
  exact w_eq (tgt := 1371) F dl_1043 (by decide) (kk C2 D2 h2)
theorem lc_28 {p : Program} {l : Launch} {e : Env} {s : State} {m : MethodId} {below : List Frame} {meth : Method} {c : Code} {b L : Nat} {xs : Nat → Int32} {G : Gx} {a2 : Nat → Nat} {cc ss : Nat} {C D : Mm} {i : Nat} (F : LF p s m meth c b L xs G a2 cc ss) (hi : i + 6 ≤ L) (hR : Rel C D) (kk : ∀ C2 D2, Rel C2 D2 → LW p l e s m below meth c b G a2 cc ss 1371 (lvI b G a2 i) [] C2 D2) : LW p l e s m below meth c b G a2 cc ss 1048 (lvI b G a2 i) [] C D := by
  obtain ⟨r, C2, D2, e1, e2, h2⟩ := op_sheet hR (xs (i + 1)) (xs (i + 2)) (xs (i + 3))
  refine w_aload 2 F dl_1048 rfl rfl ?_
  refine w_arg (k := 1) F dl_1049 dl_1050 dl_1051 dl_1052 dl_1053 (by decide +kernel) (by omega) ?_
  refine w_arg (k := 2) F dl_1054 dl_1055 dl_1056 dl_1057 dl_1058 (by decide +kernel) (by omega) ?_
  refine w_arg (k := 3) F dl_1059 dl_1060 dl_1061 dl_1062 dl_1063 (by decide +kernel) (by omega) ?_
  refine w_callC F (mX9_sheet l G (xs (i + 1)) (xs (i + 2)) (xs (i + 3)) C) okl_X9_sheet kl_132 rfl rfl rfl rfl dl_1064 e1 ?_
  refine w_aload 1 F dl_1067 rfl rfl ?_
  refine w_arg (k := 1) F dl_1068 dl_1069 dl_1070 dl_1071 dl_1072 (by decide +kernel) (by omega) ?_
  refine w_arg (k := 2) F dl_1073 dl_1074 dl_1075 dl_1076 dl_1077 (by decide +kernel) (by omega) ?_
  refine w_arg (k := 3) F dl_1078 dl_1079 dl_1080 dl_1081 dl_1082 (by decide +kernel) (by omega) ?_
  refine w_callM F (mX10_sheet l (gA G a2) (xs (i + 1)) (xs (i + 2)) (xs (i + 3)) D) okl_X10_sheet kl_135 rfl rfl rfl rfl dl_1083 e2 ?_
  exact w_eq (tgt := 1371) F dl_1086 (by decide) (kk C2 D2 h2)
theorem lc_29 {p : Program} {l : Launch} {e : Env} {s : State} {m : MethodId} {below : List Frame} {meth : Method} {c : Code} {b L : Nat} {xs : Nat → Int32} {G : Gx} {a2 : Nat → Nat} {cc ss : Nat} {C D : Mm} {i : Nat} (F : LF p s m meth c b L xs G a2 cc ss) (hi : i + 6 ≤ L) (hR : Rel C D) (kk : ∀ C2 D2, Rel C2 D2 → LW p l e s m below meth c b G a2 cc ss 1371 (lvI b G a2 i) [] C2 D2) : LW p l e s m below meth c b G a2 cc ss 1091 (lvI b G a2 i) [] C D := by
  obtain ⟨r, C2, D2, e1, e2, h2⟩ := op_put hR (xs (i + 1)) (xs (i + 2)) (xs (i + 3))
  refine w_aload 2 F dl_1091 rfl rfl ?_
  refine w_arg (k := 1) F dl_1092 dl_1093 dl_1094 dl_1095 dl_1096 (by decide +kernel) (by omega) ?_
  refine w_arg (k := 2) F dl_1097 dl_1098 dl_1099 dl_1100 dl_1101 (by decide +kernel) (by omega) ?_
  refine w_arg (k := 3) F dl_1102 dl_1103 dl_1104 dl_1105 dl_1106 (by decide +kernel) (by omega) ?_
  refine w_callC F (mX9_put l G (xs (i + 1)) (xs (i + 2)) (xs (i + 3)) C) okl_X9_put kl_136 rfl rfl rfl rfl dl_1107 e1 ?_
  refine w_aload 1 F dl_1110 rfl rfl ?_
  refine w_arg (k := 1) F dl_1111 dl_1112 dl_1113 dl_1114 dl_1115 (by decide +kernel) (by omega) ?_
  refine w_arg (k := 2) F dl_1116 dl_1117 dl_1118 dl_1119 dl_1120 (by decide +kernel) (by omega) ?_
  refine w_arg (k := 3) F dl_1121 dl_1122 dl_1123 dl_1124 dl_1125 (by decide +kernel) (by omega) ?_
  refine w_callM F (mX10_put l (gA G a2) (xs (i + 1)) (xs (i + 2)) (xs (i + 3)) D) okl_X10_put kl_139 rfl rfl rfl rfl dl_1126 e2 ?_
  exact w_eq (tgt := 1371) F dl_1129 (by decide) (kk C2 D2 h2)
theorem lc_30 {p : Program} {l : Launch} {e : Env} {s : State} {m : MethodId} {below : List Frame} {meth : Method} {c : Code} {b L : Nat} {xs : Nat → Int32} {G : Gx} {a2 : Nat → Nat} {cc ss : Nat} {C D : Mm} {i : Nat} (F : LF p s m meth c b L xs G a2 cc ss) (hi : i + 6 ≤ L) (hR : Rel C D) (kk : ∀ C2 D2, Rel C2 D2 → LW p l e s m below meth c b G a2 cc ss 1371 (lvI b G a2 i) [] C2 D2) : LW p l e s m below meth c b G a2 cc ss 1134 (lvI b G a2 i) [] C D := by
  obtain ⟨r, C2, D2, e1, e2, h2⟩ := op_move hR (xs (i + 1)) (xs (i + 2)) (xs (i + 3)) (xs (i + 4)) (xs (i + 5))
  refine w_aload 2 F dl_1134 rfl rfl ?_
  refine w_arg (k := 1) F dl_1135 dl_1136 dl_1137 dl_1138 dl_1139 (by decide +kernel) (by omega) ?_
  refine w_arg (k := 2) F dl_1140 dl_1141 dl_1142 dl_1143 dl_1144 (by decide +kernel) (by omega) ?_
  refine w_arg (k := 3) F dl_1145 dl_1146 dl_1147 dl_1148 dl_1149 (by decide +kernel) (by omega) ?_
  refine w_arg (k := 4) F dl_1150 dl_1151 dl_1152 dl_1153 dl_1154 (by decide +kernel) (by omega) ?_
  refine w_arg (k := 5) F dl_1155 dl_1156 dl_1157 dl_1158 dl_1159 (by decide +kernel) (by omega) ?_
  refine w_callC F (mX9_move l G (xs (i + 1)) (xs (i + 2)) (xs (i + 3)) (xs (i + 4)) (xs (i + 5)) C) okl_X9_move kl_140 rfl rfl rfl rfl dl_1160 e1 ?_
  refine w_aload 1 F dl_1163 rfl rfl ?_
  refine w_arg (k := 1) F dl_1164 dl_1165 dl_1166 dl_1167 dl_1168 (by decide +kernel) (by omega) ?_
  refine w_arg (k := 2) F dl_1169 dl_1170 dl_1171 dl_1172 dl_1173 (by decide +kernel) (by omega) ?_
  refine w_arg (k := 3) F dl_1174 dl_1175 dl_1176 dl_1177 dl_1178 (by decide +kernel) (by omega) ?_
  refine w_arg (k := 4) F dl_1179 dl_1180 dl_1181 dl_1182 dl_1183 (by decide +kernel) (by omega) ?_
  refine w_arg (k := 5) F dl_1184 dl_1185 dl_1186 dl_1187 dl_1188 (by decide +kernel) (by omega) ?_
  refine w_callM F (mX10_move l (gA G a2) (xs (i + 1)) (xs (i + 2)) (xs (i + 3)) (xs (i + 4)) (xs (i + 5)) D) okl_X10_move kl_144 rfl rfl rfl rfl dl_1189 e2 ?_
  exact w_eq (tgt := 1371) F dl_1192 (by decide) (kk C2 D2 h2)
theorem lc_31 {p : Program} {l : Launch} {e : Env} {s : State} {m : MethodId} {below : List Frame} {meth : Method} {c : Code} {b L : Nat} {xs : Nat → Int32} {G : Gx} {a2 : Nat → Nat} {cc ss : Nat} {C D : Mm} {i : Nat} (F : LF p s m meth c b L xs G a2 cc ss) (hi : i + 6 ≤ L) (hR : Rel C D) (kk : ∀ C2 D2, Rel C2 D2 → LW p l e s m below meth c b G a2 cc ss 1371 (lvI b G a2 i) [] C2 D2) : LW p l e s m below meth c b G a2 cc ss 1197 (lvI b G a2 i) [] C D := by
  obtain ⟨r, C2, D2, e1, e2, h2⟩ := op_casts hR (xs (i + 1))
  refine w_aload 2 F dl_1197 rfl rfl ?_
  refine w_arg (k := 1) F dl_1198 dl_1199 dl_1200 dl_1201 dl_1202 (by decide +kernel) (by omega) ?_
  refine w_callC F (mX9_casts l G (xs (i + 1)) C) okl_X9_casts kl_145 rfl rfl rfl rfl dl_1203 e1 ?_
  refine w_aload 1 F dl_1206 rfl rfl ?_
  refine w_arg (k := 1) F dl_1207 dl_1208 dl_1209 dl_1210 dl_1211 (by decide +kernel) (by omega) ?_
  refine w_callM F (mX10_casts l (gA G a2) (xs (i + 1)) D) okl_X10_casts kl_148 rfl rfl rfl rfl dl_1212 e2 ?_
  exact w_eq (tgt := 1371) F dl_1215 (by decide) (kk C2 D2 h2)
theorem lc_32 {p : Program} {l : Launch} {e : Env} {s : State} {m : MethodId} {below : List Frame} {meth : Method} {c : Code} {b L : Nat} {xs : Nat → Int32} {G : Gx} {a2 : Nat → Nat} {cc ss : Nat} {C D : Mm} {i : Nat} (F : LF p s m meth c b L xs G a2 cc ss) (hi : i + 6 ≤ L) (hR : Rel C D) (kk : ∀ C2 D2, Rel C2 D2 → LW p l e s m below meth c b G a2 cc ss 1371 (lvI b G a2 i) [] C2 D2) : LW p l e s m below meth c b G a2 cc ss 1220 (lvI b G a2 i) [] C D := by
  obtain ⟨r, C2, D2, e1, e2, h2⟩ := op_judge hR (xs (i + 1)) (xs (i + 2))
  refine w_aload 2 F dl_1220 rfl rfl ?_
  refine w_arg (k := 1) F dl_1221 dl_1222 dl_1223 dl_1224 dl_1225 (by decide +kernel) (by omega) ?_
  refine w_arg (k := 2) F dl_1226 dl_1227 dl_1228 dl_1229 dl_1230 (by decide +kernel) (by omega) ?_
  refine w_callC F (mX9_judge l G (xs (i + 1)) (xs (i + 2)) C) okl_X9_judge kl_149 rfl rfl rfl rfl dl_1231 e1 ?_
  refine w_aload 1 F dl_1234 rfl rfl ?_
  refine w_arg (k := 1) F dl_1235 dl_1236 dl_1237 dl_1238 dl_1239 (by decide +kernel) (by omega) ?_
  refine w_arg (k := 2) F dl_1240 dl_1241 dl_1242 dl_1243 dl_1244 (by decide +kernel) (by omega) ?_
  refine w_callM F (mX10_judge l (gA G a2) (xs (i + 1)) (xs (i + 2)) D) okl_X10_judge kl_152 rfl rfl rfl rfl dl_1245 e2 ?_
  exact w_eq (tgt := 1371) F dl_1248 (by decide) (kk C2 D2 h2)
theorem lc_33 {p : Program} {l : Launch} {e : Env} {s : State} {m : MethodId} {below : List Frame} {meth : Method} {c : Code} {b L : Nat} {xs : Nat → Int32} {G : Gx} {a2 : Nat → Nat} {cc ss : Nat} {C D : Mm} {i : Nat} (F : LF p s m meth c b L xs G a2 cc ss) (hi : i + 6 ≤ L) (hR : Rel C D) (kk : ∀ C2 D2, Rel C2 D2 → LW p l e s m below meth c b G a2 cc ss 1371 (lvI b G a2 i) [] C2 D2) : LW p l e s m below meth c b G a2 cc ss 1253 (lvI b G a2 i) [] C D := by
  obtain ⟨r, C2, D2, e1, e2, h2⟩ := op_image hR 
  refine w_aload 2 F dl_1253 rfl rfl ?_
  refine w_callC F (mX9_image l G  C) okl_X9_image kl_153 rfl rfl rfl rfl dl_1254 e1 ?_
  refine w_aload 1 F dl_1257 rfl rfl ?_
  refine w_callM F (mX10_image l (gA G a2)  D) okl_X10_image kl_156 rfl rfl rfl rfl dl_1258 e2 ?_
  exact w_eq (tgt := 1371) F dl_1261 (by decide) (kk C2 D2 h2)
theorem lc_34 {p : Program} {l : Launch} {e : Env} {s : State} {m : MethodId} {below : List Frame} {meth : Method} {c : Code} {b L : Nat} {xs : Nat → Int32} {G : Gx} {a2 : Nat → Nat} {cc ss : Nat} {C D : Mm} {i : Nat} (F : LF p s m meth c b L xs G a2 cc ss) (hi : i + 6 ≤ L) (hR : Rel C D) (kk : ∀ C2 D2, Rel C2 D2 → LW p l e s m below meth c b G a2 cc ss 1371 (lvI b G a2 i) [] C2 D2) : LW p l e s m below meth c b G a2 cc ss 1266 (lvI b G a2 i) [] C D := by
  obtain ⟨r, C2, D2, e1, e2, h2⟩ := op_restore hR 
  refine w_aload 2 F dl_1266 rfl rfl ?_
  refine w_callC F (mX9_restore l G  C) okl_X9_restore kl_157 rfl rfl rfl rfl dl_1267 e1 ?_
  refine w_aload 1 F dl_1270 rfl rfl ?_
  refine w_callM F (mX10_restore l (gA G a2)  D) okl_X10_restore kl_160 rfl rfl rfl rfl dl_1271 e2 ?_
  exact w_eq (tgt := 1371) F dl_1274 (by decide) (kk C2 D2 h2)
theorem lc_35 {p : Program} {l : Launch} {e : Env} {s : State} {m : MethodId} {below : List Frame} {meth : Method} {c : Code} {b L : Nat} {xs : Nat → Int32} {G : Gx} {a2 : Nat → Nat} {cc ss : Nat} {C D : Mm} {i : Nat} (F : LF p s m meth c b L xs G a2 cc ss) (hi : i + 6 ≤ L) (hR : Rel C D) (kk : ∀ C2 D2, Rel C2 D2 → LW p l e s m below meth c b G a2 cc ss 1371 (lvI b G a2 i) [] C2 D2) : LW p l e s m below meth c b G a2 cc ss 1279 (lvI b G a2 i) [] C D := by
  obtain ⟨r, C2, D2, e1, e2, h2⟩ := op_tell hR (xs (i + 1))
  refine w_aload 2 F dl_1279 rfl rfl ?_
  refine w_arg (k := 1) F dl_1280 dl_1281 dl_1282 dl_1283 dl_1284 (by decide +kernel) (by omega) ?_
  refine w_callC F (mX9_tell l G (xs (i + 1)) C) okl_X9_tell kl_161 rfl rfl rfl rfl dl_1285 e1 ?_
  refine w_aload 1 F dl_1288 rfl rfl ?_
  refine w_arg (k := 1) F dl_1289 dl_1290 dl_1291 dl_1292 dl_1293 (by decide +kernel) (by omega) ?_
  refine w_callM F (mX10_tell l (gA G a2) (xs (i + 1)) D) okl_X10_tell kl_164 rfl rfl rfl rfl dl_1294 e2 ?_
  exact w_eq (tgt := 1371) F dl_1297 (by decide) (kk C2 D2 h2)
theorem lc_36 {p : Program} {l : Launch} {e : Env} {s : State} {m : MethodId} {below : List Frame} {meth : Method} {c : Code} {b L : Nat} {xs : Nat → Int32} {G : Gx} {a2 : Nat → Nat} {cc ss : Nat} {C D : Mm} {i : Nat} (F : LF p s m meth c b L xs G a2 cc ss) (hi : i + 6 ≤ L) (hR : Rel C D) (kk : ∀ C2 D2, Rel C2 D2 → LW p l e s m below meth c b G a2 cc ss 1371 (lvI b G a2 i) [] C2 D2) : LW p l e s m below meth c b G a2 cc ss 1302 (lvI b G a2 i) [] C D := by
  obtain ⟨r, C2, D2, e1, e2, h2⟩ := op_check hR (xs (i + 1))
  refine w_aload 2 F dl_1302 rfl rfl ?_
  refine w_arg (k := 1) F dl_1303 dl_1304 dl_1305 dl_1306 dl_1307 (by decide +kernel) (by omega) ?_
  refine w_callC F (mX9_check l G (xs (i + 1)) C) okl_X9_check kl_165 rfl rfl rfl rfl dl_1308 e1 ?_
  refine w_aload 1 F dl_1311 rfl rfl ?_
  refine w_arg (k := 1) F dl_1312 dl_1313 dl_1314 dl_1315 dl_1316 (by decide +kernel) (by omega) ?_
  refine w_callM F (mX10_check l (gA G a2) (xs (i + 1)) D) okl_X10_check kl_168 rfl rfl rfl rfl dl_1317 e2 ?_
  exact w_eq (tgt := 1371) F dl_1320 (by decide) (kk C2 D2 h2)
theorem lc_37 {p : Program} {l : Launch} {e : Env} {s : State} {m : MethodId} {below : List Frame} {meth : Method} {c : Code} {b L : Nat} {xs : Nat → Int32} {G : Gx} {a2 : Nat → Nat} {cc ss : Nat} {C D : Mm} {i : Nat} (F : LF p s m meth c b L xs G a2 cc ss) (hi : i + 6 ≤ L) (hR : Rel C D) (kk : ∀ C2 D2, Rel C2 D2 → LW p l e s m below meth c b G a2 cc ss 1371 (lvI b G a2 i) [] C2 D2) : LW p l e s m below meth c b G a2 cc ss 1325 (lvI b G a2 i) [] C D := by
  obtain ⟨r, C2, D2, e1, e2, h2⟩ := op_count hR (xs (i + 1))
  refine w_aload 2 F dl_1325 rfl rfl ?_
  refine w_arg (k := 1) F dl_1326 dl_1327 dl_1328 dl_1329 dl_1330 (by decide +kernel) (by omega) ?_
  refine w_callC F (mX9_count l G (xs (i + 1)) C) okl_X9_count kl_169 rfl rfl rfl rfl dl_1331 e1 ?_
  refine w_aload 1 F dl_1334 rfl rfl ?_
  refine w_arg (k := 1) F dl_1335 dl_1336 dl_1337 dl_1338 dl_1339 (by decide +kernel) (by omega) ?_
  refine w_callM F (mX10_count l (gA G a2) (xs (i + 1)) D) okl_X10_count kl_172 rfl rfl rfl rfl dl_1340 e2 ?_
  exact w_eq (tgt := 1371) F dl_1343 (by decide) (kk C2 D2 h2)
theorem lc_38 {p : Program} {l : Launch} {e : Env} {s : State} {m : MethodId} {below : List Frame} {meth : Method} {c : Code} {b L : Nat} {xs : Nat → Int32} {G : Gx} {a2 : Nat → Nat} {cc ss : Nat} {C D : Mm} {i : Nat} (F : LF p s m meth c b L xs G a2 cc ss) (hi : i + 6 ≤ L) (hR : Rel C D) (kk : ∀ C2 D2, Rel C2 D2 → LW p l e s m below meth c b G a2 cc ss 1371 (lvI b G a2 i) [] C2 D2) : LW p l e s m below meth c b G a2 cc ss 1348 (lvI b G a2 i) [] C D := by
  obtain ⟨r, C2, D2, e1, e2, h2⟩ := op_told hR (xs (i + 1))
  refine w_aload 2 F dl_1348 rfl rfl ?_
  refine w_arg (k := 1) F dl_1349 dl_1350 dl_1351 dl_1352 dl_1353 (by decide +kernel) (by omega) ?_
  refine w_callC F (mX9_told l G (xs (i + 1)) C) okl_X9_told kl_173 rfl rfl rfl rfl dl_1354 e1 ?_
  refine w_aload 1 F dl_1357 rfl rfl ?_
  refine w_arg (k := 1) F dl_1358 dl_1359 dl_1360 dl_1361 dl_1362 (by decide +kernel) (by omega) ?_
  refine w_callM F (mX10_told l (gA G a2) (xs (i + 1)) D) okl_X10_told kl_176 rfl rfl rfl rfl dl_1363 e2 ?_
  exact w_eq (tgt := 1371) F dl_1366 (by decide) (kk C2 D2 h2)
