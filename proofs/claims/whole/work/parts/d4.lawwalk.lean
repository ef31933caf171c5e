/-! by program (wip/whole/gen_law.py): the law: predicates and rows -/
set_option maxRecDepth 100000
def LC_0 (L : Nat) (xs : Nat → Int32) (Z : az_T) : az_T := (s_la 1 (s_ar L xs 1 (s_ar L xs 2 (s_la 3 (s_cw6 603072 7186538 4 FL_size (s_si 6 (s_la 2 (s_ar L xs 1 (s_ar L xs 2 (s_cv 2 13 FX12_size (lt_tail Z)))))))))))
theorem okLC_0 {X : az_X} {Q : Option Value → az_M → Prop} {L : Nat} {xs : Nat → Int32} (C : az_C X cL_law 9 RL lw_tbl room_1 ret Q) (LX : az_LX X L xs) {Z : az_T} (hZ : az_ok X 2044 Z) : az_ok X 180 (LC_0 L xs Z) := by
  have h245 := az_goto (tgt := 2044) C dL_law_245 (by decide) hZ
  have h245 := az_goto (tgt := 2044) C dL_law_245 (by decide) hZ
  have h240 := az_if_eq (tgt := 245) C dL_law_240 (by decide) h245 az_sF
  have h239 := az_lcmp C dL_law_239 h240
  have h238 := az_i2l C dL_law_238 h239
  have h236 := az_iload C dL_law_236 h238
  have h235 := az_lald C dL_law_235 h236
  have h234 := az_iconst (x := (nI 0)) C dL_law_234 (by decide +kernel) h235
  have h233 := az_aload_n C 3 rfl dL_law_233 h234
  have h230 := az_if_ne (tgt := 245) C dL_law_230 (by decide) h245 h233
  have h228 := az_iload C dL_law_228 h230
  have h223 := az_icmp_eq (tgt := 228) C dL_law_223 (by decide) h228 az_sF
  have h221 := az_iload C dL_law_221 h223
  have h218 := az_callV (ci := 13) C okX12_thrown knX12_thrown imX12_thrown seX12_thrown mLRL_121 rfl (by decide) ⟨rfl, rfl, by decide +kernel, by decide +kernel⟩ dL_law_218 h221
  have h217 := az_aload_n C 2 rfl dL_law_217 h218
  have h215 := az_istore C (by decide) dL_law_215 h217
  have h212 := az_callV (ci := 13) C okX12_size knX12_size imX12_size seX12_size mLRL_120 rfl (by decide) ⟨rfl, rfl, by decide +kernel, by decide +kernel⟩ dL_law_212 h215
  have h206 := az_ar (j := 2) C LX dL_law_206 dL_law_207 dL_law_209 (by decide +kernel) dL_law_210 dL_law_211 h212
  have h200 := az_ar (j := 1) C LX dL_law_200 dL_law_201 dL_law_203 (by decide +kernel) dL_law_204 dL_law_205 h206
  have h199 := az_aload_n C 2 rfl dL_law_199 h200
  have h197 := az_istore C (by decide) dL_law_197 h199
  have h194 := az_callW6 (n := 4) (cm := 603072) (sm := 7186538) C LX (by decide +kernel) (by decide +kernel) okL_size ⟨cwL_size, iniRL, stL_size, mLRL_115⟩ ⟨by decide +kernel, by decide +kernel, by decide +kernel⟩ (by decide +kernel) ⟨rfl, rfl, by decide +kernel, by decide +kernel⟩ dL_law_194 h197
  have h193 := az_aload_n C 3 rfl dL_law_193 h194
  have h187 := az_ar (j := 2) C LX dL_law_187 dL_law_188 dL_law_190 (by decide +kernel) dL_law_191 dL_law_192 h193
  have h181 := az_ar (j := 1) C LX dL_law_181 dL_law_182 dL_law_184 (by decide +kernel) dL_law_185 dL_law_186 h187
  have h180 := az_aload_n C 1 rfl dL_law_180 h181
  exact h180
def LC_1 (L : Nat) (xs : Nat → Int32) (Z : az_T) : az_T := (s_la 1 (s_ar L xs 1 (s_ar L xs 2 (s_ar L xs 3 (s_la 3 (s_cw6 603072 7186538 5 FL_setDemand (s_si 6 (s_la 2 (s_ar L xs 1 (s_ar L xs 2 (s_ar L xs 3 (s_cv 3 13 FX12_setDemand (lt_tail Z)))))))))))))
theorem okLC_1 {X : az_X} {Q : Option Value → az_M → Prop} {L : Nat} {xs : Nat → Int32} (C : az_C X cL_law 9 RL lw_tbl room_1 ret Q) (LX : az_LX X L xs) {Z : az_T} (hZ : az_ok X 2044 Z) : az_ok X 248 (LC_1 L xs Z) := by
  have h325 := az_goto (tgt := 2044) C dL_law_325 (by decide) hZ
  have h325 := az_goto (tgt := 2044) C dL_law_325 (by decide) hZ
  have h320 := az_if_eq (tgt := 325) C dL_law_320 (by decide) h325 az_sF
  have h319 := az_lcmp C dL_law_319 h320
  have h318 := az_i2l C dL_law_318 h319
  have h316 := az_iload C dL_law_316 h318
  have h315 := az_lald C dL_law_315 h316
  have h314 := az_iconst (x := (nI 0)) C dL_law_314 (by decide +kernel) h315
  have h313 := az_aload_n C 3 rfl dL_law_313 h314
  have h310 := az_if_ne (tgt := 325) C dL_law_310 (by decide) h325 h313
  have h308 := az_iload C dL_law_308 h310
  have h303 := az_icmp_eq (tgt := 308) C dL_law_303 (by decide) h308 az_sF
  have h301 := az_iload C dL_law_301 h303
  have h298 := az_callV (ci := 13) C okX12_thrown knX12_thrown imX12_thrown seX12_thrown mLRL_121 rfl (by decide) ⟨rfl, rfl, by decide +kernel, by decide +kernel⟩ dL_law_298 h301
  have h297 := az_aload_n C 2 rfl dL_law_297 h298
  have h295 := az_istore C (by decide) dL_law_295 h297
  have h292 := az_callV (ci := 13) C okX12_setDemand knX12_setDemand imX12_setDemand seX12_setDemand mLRL_127 rfl (by decide) ⟨rfl, rfl, by decide +kernel, by decide +kernel⟩ dL_law_292 h295
  have h286 := az_ar (j := 3) C LX dL_law_286 dL_law_287 dL_law_289 (by decide +kernel) dL_law_290 dL_law_291 h292
  have h280 := az_ar (j := 2) C LX dL_law_280 dL_law_281 dL_law_283 (by decide +kernel) dL_law_284 dL_law_285 h286
  have h274 := az_ar (j := 1) C LX dL_law_274 dL_law_275 dL_law_277 (by decide +kernel) dL_law_278 dL_law_279 h280
  have h273 := az_aload_n C 2 rfl dL_law_273 h274
  have h271 := az_istore C (by decide) dL_law_271 h273
  have h268 := az_callW6 (n := 5) (cm := 603072) (sm := 7186538) C LX (by decide +kernel) (by decide +kernel) okL_setDemand ⟨cwL_setDemand, iniRL, stL_setDemand, mLRL_124⟩ ⟨by decide +kernel, by decide +kernel, by decide +kernel⟩ (by decide +kernel) ⟨rfl, rfl, by decide +kernel, by decide +kernel⟩ dL_law_268 h271
  have h267 := az_aload_n C 3 rfl dL_law_267 h268
  have h261 := az_ar (j := 3) C LX dL_law_261 dL_law_262 dL_law_264 (by decide +kernel) dL_law_265 dL_law_266 h267
  have h255 := az_ar (j := 2) C LX dL_law_255 dL_law_256 dL_law_258 (by decide +kernel) dL_law_259 dL_law_260 h261
  have h249 := az_ar (j := 1) C LX dL_law_249 dL_law_250 dL_law_252 (by decide +kernel) dL_law_253 dL_law_254 h255
  have h248 := az_aload_n C 1 rfl dL_law_248 h249
  exact h248
def LC_2 (L : Nat) (xs : Nat → Int32) (Z : az_T) : az_T := (s_la 1 (s_ar L xs 1 (s_ar L xs 2 (s_la 3 (s_cw6 603072 7186538 4 FL_setReserve (s_si 6 (s_la 2 (s_ar L xs 1 (s_ar L xs 2 (s_cv 2 13 FX12_setReserve (lt_tail Z)))))))))))
theorem okLC_2 {X : az_X} {Q : Option Value → az_M → Prop} {L : Nat} {xs : Nat → Int32} (C : az_C X cL_law 9 RL lw_tbl room_1 ret Q) (LX : az_LX X L xs) {Z : az_T} (hZ : az_ok X 2044 Z) : az_ok X 328 (LC_2 L xs Z) := by
  have h393 := az_goto (tgt := 2044) C dL_law_393 (by decide) hZ
  have h393 := az_goto (tgt := 2044) C dL_law_393 (by decide) hZ
  have h388 := az_if_eq (tgt := 393) C dL_law_388 (by decide) h393 az_sF
  have h387 := az_lcmp C dL_law_387 h388
  have h386 := az_i2l C dL_law_386 h387
  have h384 := az_iload C dL_law_384 h386
  have h383 := az_lald C dL_law_383 h384
  have h382 := az_iconst (x := (nI 0)) C dL_law_382 (by decide +kernel) h383
  have h381 := az_aload_n C 3 rfl dL_law_381 h382
  have h378 := az_if_ne (tgt := 393) C dL_law_378 (by decide) h393 h381
  have h376 := az_iload C dL_law_376 h378
  have h371 := az_icmp_eq (tgt := 376) C dL_law_371 (by decide) h376 az_sF
  have h369 := az_iload C dL_law_369 h371
  have h366 := az_callV (ci := 13) C okX12_thrown knX12_thrown imX12_thrown seX12_thrown mLRL_121 rfl (by decide) ⟨rfl, rfl, by decide +kernel, by decide +kernel⟩ dL_law_366 h369
  have h365 := az_aload_n C 2 rfl dL_law_365 h366
  have h363 := az_istore C (by decide) dL_law_363 h365
  have h360 := az_callV (ci := 13) C okX12_setReserve knX12_setReserve imX12_setReserve seX12_setReserve mLRL_130 rfl (by decide) ⟨rfl, rfl, by decide +kernel, by decide +kernel⟩ dL_law_360 h363
  have h354 := az_ar (j := 2) C LX dL_law_354 dL_law_355 dL_law_357 (by decide +kernel) dL_law_358 dL_law_359 h360
  have h348 := az_ar (j := 1) C LX dL_law_348 dL_law_349 dL_law_351 (by decide +kernel) dL_law_352 dL_law_353 h354
  have h347 := az_aload_n C 2 rfl dL_law_347 h348
  have h345 := az_istore C (by decide) dL_law_345 h347
  have h342 := az_callW6 (n := 4) (cm := 603072) (sm := 7186538) C LX (by decide +kernel) (by decide +kernel) okL_setReserve ⟨cwL_setReserve, iniRL, stL_setReserve, mLRL_128⟩ ⟨by decide +kernel, by decide +kernel, by decide +kernel⟩ (by decide +kernel) ⟨rfl, rfl, by decide +kernel, by decide +kernel⟩ dL_law_342 h345
  have h341 := az_aload_n C 3 rfl dL_law_341 h342
  have h335 := az_ar (j := 2) C LX dL_law_335 dL_law_336 dL_law_338 (by decide +kernel) dL_law_339 dL_law_340 h341
  have h329 := az_ar (j := 1) C LX dL_law_329 dL_law_330 dL_law_332 (by decide +kernel) dL_law_333 dL_law_334 h335
  have h328 := az_aload_n C 1 rfl dL_law_328 h329
  exact h328
def LC_3 (L : Nat) (xs : Nat → Int32) (Z : az_T) : az_T := (s_la 1 (s_ar L xs 1 (s_ar L xs 2 (s_ar L xs 3 (s_la 3 (s_cw6 603072 7186538 5 FL_setLine (s_si 6 (s_la 2 (s_ar L xs 1 (s_ar L xs 2 (s_ar L xs 3 (s_cv 3 13 FX12_setLine (lt_tail Z)))))))))))))
theorem okLC_3 {X : az_X} {Q : Option Value → az_M → Prop} {L : Nat} {xs : Nat → Int32} (C : az_C X cL_law 9 RL lw_tbl room_1 ret Q) (LX : az_LX X L xs) {Z : az_T} (hZ : az_ok X 2044 Z) : az_ok X 396 (LC_3 L xs Z) := by
  have h473 := az_goto (tgt := 2044) C dL_law_473 (by decide) hZ
  have h473 := az_goto (tgt := 2044) C dL_law_473 (by decide) hZ
  have h468 := az_if_eq (tgt := 473) C dL_law_468 (by decide) h473 az_sF
  have h467 := az_lcmp C dL_law_467 h468
  have h466 := az_i2l C dL_law_466 h467
  have h464 := az_iload C dL_law_464 h466
  have h463 := az_lald C dL_law_463 h464
  have h462 := az_iconst (x := (nI 0)) C dL_law_462 (by decide +kernel) h463
  have h461 := az_aload_n C 3 rfl dL_law_461 h462
  have h458 := az_if_ne (tgt := 473) C dL_law_458 (by decide) h473 h461
  have h456 := az_iload C dL_law_456 h458
  have h451 := az_icmp_eq (tgt := 456) C dL_law_451 (by decide) h456 az_sF
  have h449 := az_iload C dL_law_449 h451
  have h446 := az_callV (ci := 13) C okX12_thrown knX12_thrown imX12_thrown seX12_thrown mLRL_121 rfl (by decide) ⟨rfl, rfl, by decide +kernel, by decide +kernel⟩ dL_law_446 h449
  have h445 := az_aload_n C 2 rfl dL_law_445 h446
  have h443 := az_istore C (by decide) dL_law_443 h445
  have h440 := az_callV (ci := 13) C okX12_setLine knX12_setLine imX12_setLine seX12_setLine mLRL_133 rfl (by decide) ⟨rfl, rfl, by decide +kernel, by decide +kernel⟩ dL_law_440 h443
  have h434 := az_ar (j := 3) C LX dL_law_434 dL_law_435 dL_law_437 (by decide +kernel) dL_law_438 dL_law_439 h440
  have h428 := az_ar (j := 2) C LX dL_law_428 dL_law_429 dL_law_431 (by decide +kernel) dL_law_432 dL_law_433 h434
  have h422 := az_ar (j := 1) C LX dL_law_422 dL_law_423 dL_law_425 (by decide +kernel) dL_law_426 dL_law_427 h428
  have h421 := az_aload_n C 2 rfl dL_law_421 h422
  have h419 := az_istore C (by decide) dL_law_419 h421
  have h416 := az_callW6 (n := 5) (cm := 603072) (sm := 7186538) C LX (by decide +kernel) (by decide +kernel) okL_setLine ⟨cwL_setLine, iniRL, stL_setLine, mLRL_131⟩ ⟨by decide +kernel, by decide +kernel, by decide +kernel⟩ (by decide +kernel) ⟨rfl, rfl, by decide +kernel, by decide +kernel⟩ dL_law_416 h419
  have h415 := az_aload_n C 3 rfl dL_law_415 h416
  have h409 := az_ar (j := 3) C LX dL_law_409 dL_law_410 dL_law_412 (by decide +kernel) dL_law_413 dL_law_414 h415
  have h403 := az_ar (j := 2) C LX dL_law_403 dL_law_404 dL_law_406 (by decide +kernel) dL_law_407 dL_law_408 h409
  have h397 := az_ar (j := 1) C LX dL_law_397 dL_law_398 dL_law_400 (by decide +kernel) dL_law_401 dL_law_402 h403
  have h396 := az_aload_n C 1 rfl dL_law_396 h397
  exact h396
def LC_4 (L : Nat) (xs : Nat → Int32) (Z : az_T) : az_T := (s_la 1 (s_ar L xs 1 (s_ar L xs 2 (s_ar L xs 3 (s_ar L xs 4 (s_ar L xs 5 (s_la 3 (s_cw6 603072 7186538 7 FL_addUnit (s_si 6 (s_la 2 (s_ar L xs 1 (s_ar L xs 2 (s_ar L xs 3 (s_ar L xs 4 (s_ar L xs 5 (s_cv 5 13 FX12_addUnit (lt_tail Z)))))))))))))))))
theorem okLC_4 {X : az_X} {Q : Option Value → az_M → Prop} {L : Nat} {xs : Nat → Int32} (C : az_C X cL_law 9 RL lw_tbl room_1 ret Q) (LX : az_LX X L xs) {Z : az_T} (hZ : az_ok X 2044 Z) : az_ok X 476 (LC_4 L xs Z) := by
  have h577 := az_goto (tgt := 2044) C dL_law_577 (by decide) hZ
  have h577 := az_goto (tgt := 2044) C dL_law_577 (by decide) hZ
  have h572 := az_if_eq (tgt := 577) C dL_law_572 (by decide) h577 az_sF
  have h571 := az_lcmp C dL_law_571 h572
  have h570 := az_i2l C dL_law_570 h571
  have h568 := az_iload C dL_law_568 h570
  have h567 := az_lald C dL_law_567 h568
  have h566 := az_iconst (x := (nI 0)) C dL_law_566 (by decide +kernel) h567
  have h565 := az_aload_n C 3 rfl dL_law_565 h566
  have h562 := az_if_ne (tgt := 577) C dL_law_562 (by decide) h577 h565
  have h560 := az_iload C dL_law_560 h562
  have h555 := az_icmp_eq (tgt := 560) C dL_law_555 (by decide) h560 az_sF
  have h553 := az_iload C dL_law_553 h555
  have h550 := az_callV (ci := 13) C okX12_thrown knX12_thrown imX12_thrown seX12_thrown mLRL_121 rfl (by decide) ⟨rfl, rfl, by decide +kernel, by decide +kernel⟩ dL_law_550 h553
  have h549 := az_aload_n C 2 rfl dL_law_549 h550
  have h547 := az_istore C (by decide) dL_law_547 h549
  have h544 := az_callV (ci := 13) C okX12_addUnit knX12_addUnit imX12_addUnit seX12_addUnit mLRL_137 rfl (by decide) ⟨rfl, rfl, by decide +kernel, by decide +kernel⟩ dL_law_544 h547
  have h538 := az_ar (j := 5) C LX dL_law_538 dL_law_539 dL_law_541 (by decide +kernel) dL_law_542 dL_law_543 h544
  have h532 := az_ar (j := 4) C LX dL_law_532 dL_law_533 dL_law_535 (by decide +kernel) dL_law_536 dL_law_537 h538
  have h526 := az_ar (j := 3) C LX dL_law_526 dL_law_527 dL_law_529 (by decide +kernel) dL_law_530 dL_law_531 h532
  have h520 := az_ar (j := 2) C LX dL_law_520 dL_law_521 dL_law_523 (by decide +kernel) dL_law_524 dL_law_525 h526
  have h514 := az_ar (j := 1) C LX dL_law_514 dL_law_515 dL_law_517 (by decide +kernel) dL_law_518 dL_law_519 h520
  have h513 := az_aload_n C 2 rfl dL_law_513 h514
  have h511 := az_istore C (by decide) dL_law_511 h513
  have h508 := az_callW6 (n := 7) (cm := 603072) (sm := 7186538) C LX (by decide +kernel) (by decide +kernel) okL_addUnit ⟨cwL_addUnit, iniRL, stL_addUnit, mLRL_134⟩ ⟨by decide +kernel, by decide +kernel, by decide +kernel⟩ (by decide +kernel) ⟨rfl, rfl, by decide +kernel, by decide +kernel⟩ dL_law_508 h511
  have h507 := az_aload_n C 3 rfl dL_law_507 h508
  have h501 := az_ar (j := 5) C LX dL_law_501 dL_law_502 dL_law_504 (by decide +kernel) dL_law_505 dL_law_506 h507
  have h495 := az_ar (j := 4) C LX dL_law_495 dL_law_496 dL_law_498 (by decide +kernel) dL_law_499 dL_law_500 h501
  have h489 := az_ar (j := 3) C LX dL_law_489 dL_law_490 dL_law_492 (by decide +kernel) dL_law_493 dL_law_494 h495
  have h483 := az_ar (j := 2) C LX dL_law_483 dL_law_484 dL_law_486 (by decide +kernel) dL_law_487 dL_law_488 h489
  have h477 := az_ar (j := 1) C LX dL_law_477 dL_law_478 dL_law_480 (by decide +kernel) dL_law_481 dL_law_482 h483
  have h476 := az_aload_n C 1 rfl dL_law_476 h477
  exact h476
def LC_5 (L : Nat) (xs : Nat → Int32) (Z : az_T) : az_T := (s_la 1 (s_ar L xs 1 (s_ar L xs 2 (s_ar L xs 3 (s_la 3 (s_cw6 603072 7186538 5 FL_setUnit (s_si 6 (s_la 2 (s_ar L xs 1 (s_ar L xs 2 (s_ar L xs 3 (s_cv 3 13 FX12_setUnit (lt_tail Z)))))))))))))
theorem okLC_5 {X : az_X} {Q : Option Value → az_M → Prop} {L : Nat} {xs : Nat → Int32} (C : az_C X cL_law 9 RL lw_tbl room_1 ret Q) (LX : az_LX X L xs) {Z : az_T} (hZ : az_ok X 2044 Z) : az_ok X 580 (LC_5 L xs Z) := by
  have h657 := az_goto (tgt := 2044) C dL_law_657 (by decide) hZ
  have h657 := az_goto (tgt := 2044) C dL_law_657 (by decide) hZ
  have h652 := az_if_eq (tgt := 657) C dL_law_652 (by decide) h657 az_sF
  have h651 := az_lcmp C dL_law_651 h652
  have h650 := az_i2l C dL_law_650 h651
  have h648 := az_iload C dL_law_648 h650
  have h647 := az_lald C dL_law_647 h648
  have h646 := az_iconst (x := (nI 0)) C dL_law_646 (by decide +kernel) h647
  have h645 := az_aload_n C 3 rfl dL_law_645 h646
  have h642 := az_if_ne (tgt := 657) C dL_law_642 (by decide) h657 h645
  have h640 := az_iload C dL_law_640 h642
  have h635 := az_icmp_eq (tgt := 640) C dL_law_635 (by decide) h640 az_sF
  have h633 := az_iload C dL_law_633 h635
  have h630 := az_callV (ci := 13) C okX12_thrown knX12_thrown imX12_thrown seX12_thrown mLRL_121 rfl (by decide) ⟨rfl, rfl, by decide +kernel, by decide +kernel⟩ dL_law_630 h633
  have h629 := az_aload_n C 2 rfl dL_law_629 h630
  have h627 := az_istore C (by decide) dL_law_627 h629
  have h624 := az_callV (ci := 13) C okX12_setUnit knX12_setUnit imX12_setUnit seX12_setUnit mLRL_140 rfl (by decide) ⟨rfl, rfl, by decide +kernel, by decide +kernel⟩ dL_law_624 h627
  have h618 := az_ar (j := 3) C LX dL_law_618 dL_law_619 dL_law_621 (by decide +kernel) dL_law_622 dL_law_623 h624
  have h612 := az_ar (j := 2) C LX dL_law_612 dL_law_613 dL_law_615 (by decide +kernel) dL_law_616 dL_law_617 h618
  have h606 := az_ar (j := 1) C LX dL_law_606 dL_law_607 dL_law_609 (by decide +kernel) dL_law_610 dL_law_611 h612
  have h605 := az_aload_n C 2 rfl dL_law_605 h606
  have h603 := az_istore C (by decide) dL_law_603 h605
  have h600 := az_callW6 (n := 5) (cm := 603072) (sm := 7186538) C LX (by decide +kernel) (by decide +kernel) okL_setUnit ⟨cwL_setUnit, iniRL, stL_setUnit, mLRL_138⟩ ⟨by decide +kernel, by decide +kernel, by decide +kernel⟩ (by decide +kernel) ⟨rfl, rfl, by decide +kernel, by decide +kernel⟩ dL_law_600 h603
  have h599 := az_aload_n C 3 rfl dL_law_599 h600
  have h593 := az_ar (j := 3) C LX dL_law_593 dL_law_594 dL_law_596 (by decide +kernel) dL_law_597 dL_law_598 h599
  have h587 := az_ar (j := 2) C LX dL_law_587 dL_law_588 dL_law_590 (by decide +kernel) dL_law_591 dL_law_592 h593
  have h581 := az_ar (j := 1) C LX dL_law_581 dL_law_582 dL_law_584 (by decide +kernel) dL_law_585 dL_law_586 h587
  have h580 := az_aload_n C 1 rfl dL_law_580 h581
  exact h580
def LC_6 (L : Nat) (xs : Nat → Int32) (Z : az_T) : az_T := (s_la 1 (s_ar L xs 1 (s_ar L xs 2 (s_la 3 (s_cw6 603072 7186538 4 FL_unit (s_si 6 (s_la 2 (s_ar L xs 1 (s_ar L xs 2 (s_cv 2 13 FX12_unit (lt_tail Z)))))))))))
theorem okLC_6 {X : az_X} {Q : Option Value → az_M → Prop} {L : Nat} {xs : Nat → Int32} (C : az_C X cL_law 9 RL lw_tbl room_1 ret Q) (LX : az_LX X L xs) {Z : az_T} (hZ : az_ok X 2044 Z) : az_ok X 660 (LC_6 L xs Z) := by
  have h725 := az_goto (tgt := 2044) C dL_law_725 (by decide) hZ
  have h725 := az_goto (tgt := 2044) C dL_law_725 (by decide) hZ
  have h720 := az_if_eq (tgt := 725) C dL_law_720 (by decide) h725 az_sF
  have h719 := az_lcmp C dL_law_719 h720
  have h718 := az_i2l C dL_law_718 h719
  have h716 := az_iload C dL_law_716 h718
  have h715 := az_lald C dL_law_715 h716
  have h714 := az_iconst (x := (nI 0)) C dL_law_714 (by decide +kernel) h715
  have h713 := az_aload_n C 3 rfl dL_law_713 h714
  have h710 := az_if_ne (tgt := 725) C dL_law_710 (by decide) h725 h713
  have h708 := az_iload C dL_law_708 h710
  have h703 := az_icmp_eq (tgt := 708) C dL_law_703 (by decide) h708 az_sF
  have h701 := az_iload C dL_law_701 h703
  have h698 := az_callV (ci := 13) C okX12_thrown knX12_thrown imX12_thrown seX12_thrown mLRL_121 rfl (by decide) ⟨rfl, rfl, by decide +kernel, by decide +kernel⟩ dL_law_698 h701
  have h697 := az_aload_n C 2 rfl dL_law_697 h698
  have h695 := az_istore C (by decide) dL_law_695 h697
  have h692 := az_callV (ci := 13) C okX12_unit knX12_unit imX12_unit seX12_unit mLRL_143 rfl (by decide) ⟨rfl, rfl, by decide +kernel, by decide +kernel⟩ dL_law_692 h695
  have h686 := az_ar (j := 2) C LX dL_law_686 dL_law_687 dL_law_689 (by decide +kernel) dL_law_690 dL_law_691 h692
  have h680 := az_ar (j := 1) C LX dL_law_680 dL_law_681 dL_law_683 (by decide +kernel) dL_law_684 dL_law_685 h686
  have h679 := az_aload_n C 2 rfl dL_law_679 h680
  have h677 := az_istore C (by decide) dL_law_677 h679
  have h674 := az_callW6 (n := 4) (cm := 603072) (sm := 7186538) C LX (by decide +kernel) (by decide +kernel) okL_unit ⟨cwL_unit, iniRL, stL_unit, mLRL_141⟩ ⟨by decide +kernel, by decide +kernel, by decide +kernel⟩ (by decide +kernel) ⟨rfl, rfl, by decide +kernel, by decide +kernel⟩ dL_law_674 h677
  have h673 := az_aload_n C 3 rfl dL_law_673 h674
  have h667 := az_ar (j := 2) C LX dL_law_667 dL_law_668 dL_law_670 (by decide +kernel) dL_law_671 dL_law_672 h673
  have h661 := az_ar (j := 1) C LX dL_law_661 dL_law_662 dL_law_664 (by decide +kernel) dL_law_665 dL_law_666 h667
  have h660 := az_aload_n C 1 rfl dL_law_660 h661
  exact h660
def LL_800 (L : Nat) (xs : Nat → Int32) (Z : az_T) : az_T := (s_cv 4 13 FX12_commit (lt_tail Z))
theorem okLL_800 {X : az_X} {Q : Option Value → az_M → Prop} {L : Nat} {xs : Nat → Int32} (C : az_C X cL_law 9 RL lw_tbl room_1 ret Q) (LX : az_LX X L xs) {Z : az_T} (hZ : az_ok X 2044 Z) : az_ok X 800 (LL_800 L xs Z) := by
  have h833 := az_goto (tgt := 2044) C dL_law_833 (by decide) hZ
  have h833 := az_goto (tgt := 2044) C dL_law_833 (by decide) hZ
  have h828 := az_if_eq (tgt := 833) C dL_law_828 (by decide) h833 az_sF
  have h827 := az_lcmp C dL_law_827 h828
  have h826 := az_i2l C dL_law_826 h827
  have h824 := az_iload C dL_law_824 h826
  have h823 := az_lald C dL_law_823 h824
  have h822 := az_iconst (x := (nI 0)) C dL_law_822 (by decide +kernel) h823
  have h821 := az_aload_n C 3 rfl dL_law_821 h822
  have h818 := az_if_ne (tgt := 833) C dL_law_818 (by decide) h833 h821
  have h816 := az_iload C dL_law_816 h818
  have h811 := az_icmp_eq (tgt := 816) C dL_law_811 (by decide) h816 az_sF
  have h809 := az_iload C dL_law_809 h811
  have h806 := az_callV (ci := 13) C okX12_thrown knX12_thrown imX12_thrown seX12_thrown mLRL_121 rfl (by decide) ⟨rfl, rfl, by decide +kernel, by decide +kernel⟩ dL_law_806 h809
  have h805 := az_aload_n C 2 rfl dL_law_805 h806
  have h803 := az_istore C (by decide) dL_law_803 h805
  have h800 := az_callV (ci := 13) C okX12_commit knX12_commit imX12_commit seX12_commit mLRL_147 rfl (by decide) ⟨rfl, rfl, by decide +kernel, by decide +kernel⟩ dL_law_800 h803
  exact h800
def LL_761 (L : Nat) (xs : Nat → Int32) (Z : az_T) : az_T := (s_la 3 (s_cw6 603072 7186538 6 FL_commit (s_si 6 (s_la 2 (s_ar L xs 1 (s_ar L xs 2 (s_ar L xs 3 (s_ar L xs 4 (s_if c_eq (s_ic (nI 0) (LL_800 L xs Z)) (s_ic (nI 1) (LL_800 L xs Z)))))))))))
theorem okLL_761 {X : az_X} {Q : Option Value → az_M → Prop} {L : Nat} {xs : Nat → Int32} (C : az_C X cL_law 9 RL lw_tbl room_1 ret Q) (LX : az_LX X L xs) {Z : az_T} (hZ : az_ok X 2044 Z) : az_ok X 761 (LL_761 L xs Z) := by
  have h799 := az_iconst (x := (nI 0)) C dL_law_799 (by decide +kernel) (okLL_800 C LX hZ)
  have h796 := az_goto (tgt := 800) C dL_law_796 (by decide) (okLL_800 C LX hZ)
  have h795 := az_iconst (x := (nI 1)) C dL_law_795 (by decide +kernel) h796
  have h792 := az_if_eq (tgt := 799) C dL_law_792 (by decide) h799 h795
  have h786 := az_ar (j := 4) C LX dL_law_786 dL_law_787 dL_law_789 (by decide +kernel) dL_law_790 dL_law_791 h792
  have h780 := az_ar (j := 3) C LX dL_law_780 dL_law_781 dL_law_783 (by decide +kernel) dL_law_784 dL_law_785 h786
  have h774 := az_ar (j := 2) C LX dL_law_774 dL_law_775 dL_law_777 (by decide +kernel) dL_law_778 dL_law_779 h780
  have h768 := az_ar (j := 1) C LX dL_law_768 dL_law_769 dL_law_771 (by decide +kernel) dL_law_772 dL_law_773 h774
  have h767 := az_aload_n C 2 rfl dL_law_767 h768
  have h765 := az_istore C (by decide) dL_law_765 h767
  have h762 := az_callW6 (n := 6) (cm := 603072) (sm := 7186538) C LX (by decide +kernel) (by decide +kernel) okL_commit ⟨cwL_commit, iniRL, stL_commit, mLRL_144⟩ ⟨by decide +kernel, by decide +kernel, by decide +kernel⟩ (by decide +kernel) ⟨rfl, rfl, by decide +kernel, by decide +kernel⟩ dL_law_762 h765
  have h761 := az_aload_n C 3 rfl dL_law_761 h762
  exact h761
def LC_7 (L : Nat) (xs : Nat → Int32) (Z : az_T) : az_T := (s_la 1 (s_ar L xs 1 (s_ar L xs 2 (s_ar L xs 3 (s_ar L xs 4 (s_if c_eq (s_ic (nI 0) (LL_761 L xs Z)) (s_ic (nI 1) (LL_761 L xs Z))))))))
theorem okLC_7 {X : az_X} {Q : Option Value → az_M → Prop} {L : Nat} {xs : Nat → Int32} (C : az_C X cL_law 9 RL lw_tbl room_1 ret Q) (LX : az_LX X L xs) {Z : az_T} (hZ : az_ok X 2044 Z) : az_ok X 728 (LC_7 L xs Z) := by
  have h760 := az_iconst (x := (nI 0)) C dL_law_760 (by decide +kernel) (okLL_761 C LX hZ)
  have h757 := az_goto (tgt := 761) C dL_law_757 (by decide) (okLL_761 C LX hZ)
  have h756 := az_iconst (x := (nI 1)) C dL_law_756 (by decide +kernel) h757
  have h753 := az_if_eq (tgt := 760) C dL_law_753 (by decide) h760 h756
  have h747 := az_ar (j := 4) C LX dL_law_747 dL_law_748 dL_law_750 (by decide +kernel) dL_law_751 dL_law_752 h753
  have h741 := az_ar (j := 3) C LX dL_law_741 dL_law_742 dL_law_744 (by decide +kernel) dL_law_745 dL_law_746 h747
  have h735 := az_ar (j := 2) C LX dL_law_735 dL_law_736 dL_law_738 (by decide +kernel) dL_law_739 dL_law_740 h741
  have h729 := az_ar (j := 1) C LX dL_law_729 dL_law_730 dL_law_732 (by decide +kernel) dL_law_733 dL_law_734 h735
  have h728 := az_aload_n C 1 rfl dL_law_728 h729
  exact h728
def LC_8 (L : Nat) (xs : Nat → Int32) (Z : az_T) : az_T := (s_la 1 (s_ar L xs 1 (s_ar L xs 2 (s_ar L xs 3 (s_la 3 (s_cw6 603072 7186538 5 FL_addOutage (s_si 6 (s_la 2 (s_ar L xs 1 (s_ar L xs 2 (s_ar L xs 3 (s_cv 3 13 FX12_addOutage (lt_tail Z)))))))))))))
theorem okLC_8 {X : az_X} {Q : Option Value → az_M → Prop} {L : Nat} {xs : Nat → Int32} (C : az_C X cL_law 9 RL lw_tbl room_1 ret Q) (LX : az_LX X L xs) {Z : az_T} (hZ : az_ok X 2044 Z) : az_ok X 836 (LC_8 L xs Z) := by
  have h913 := az_goto (tgt := 2044) C dL_law_913 (by decide) hZ
  have h913 := az_goto (tgt := 2044) C dL_law_913 (by decide) hZ
  have h908 := az_if_eq (tgt := 913) C dL_law_908 (by decide) h913 az_sF
  have h907 := az_lcmp C dL_law_907 h908
  have h906 := az_i2l C dL_law_906 h907
  have h904 := az_iload C dL_law_904 h906
  have h903 := az_lald C dL_law_903 h904
  have h902 := az_iconst (x := (nI 0)) C dL_law_902 (by decide +kernel) h903
  have h901 := az_aload_n C 3 rfl dL_law_901 h902
  have h898 := az_if_ne (tgt := 913) C dL_law_898 (by decide) h913 h901
  have h896 := az_iload C dL_law_896 h898
  have h891 := az_icmp_eq (tgt := 896) C dL_law_891 (by decide) h896 az_sF
  have h889 := az_iload C dL_law_889 h891
  have h886 := az_callV (ci := 13) C okX12_thrown knX12_thrown imX12_thrown seX12_thrown mLRL_121 rfl (by decide) ⟨rfl, rfl, by decide +kernel, by decide +kernel⟩ dL_law_886 h889
  have h885 := az_aload_n C 2 rfl dL_law_885 h886
  have h883 := az_istore C (by decide) dL_law_883 h885
  have h880 := az_callV (ci := 13) C okX12_addOutage knX12_addOutage imX12_addOutage seX12_addOutage mLRL_150 rfl (by decide) ⟨rfl, rfl, by decide +kernel, by decide +kernel⟩ dL_law_880 h883
  have h874 := az_ar (j := 3) C LX dL_law_874 dL_law_875 dL_law_877 (by decide +kernel) dL_law_878 dL_law_879 h880
  have h868 := az_ar (j := 2) C LX dL_law_868 dL_law_869 dL_law_871 (by decide +kernel) dL_law_872 dL_law_873 h874
  have h862 := az_ar (j := 1) C LX dL_law_862 dL_law_863 dL_law_865 (by decide +kernel) dL_law_866 dL_law_867 h868
  have h861 := az_aload_n C 2 rfl dL_law_861 h862
  have h859 := az_istore C (by decide) dL_law_859 h861
  have h856 := az_callW6 (n := 5) (cm := 603072) (sm := 7186538) C LX (by decide +kernel) (by decide +kernel) okL_addOutage ⟨cwL_addOutage, iniRL, stL_addOutage, mLRL_148⟩ ⟨by decide +kernel, by decide +kernel, by decide +kernel⟩ (by decide +kernel) ⟨rfl, rfl, by decide +kernel, by decide +kernel⟩ dL_law_856 h859
  have h855 := az_aload_n C 3 rfl dL_law_855 h856
  have h849 := az_ar (j := 3) C LX dL_law_849 dL_law_850 dL_law_852 (by decide +kernel) dL_law_853 dL_law_854 h855
  have h843 := az_ar (j := 2) C LX dL_law_843 dL_law_844 dL_law_846 (by decide +kernel) dL_law_847 dL_law_848 h849
  have h837 := az_ar (j := 1) C LX dL_law_837 dL_law_838 dL_law_840 (by decide +kernel) dL_law_841 dL_law_842 h843
  have h836 := az_aload_n C 1 rfl dL_law_836 h837
  exact h836
def LC_9 (L : Nat) (xs : Nat → Int32) (Z : az_T) : az_T := (s_la 1 (s_ar L xs 1 (s_la 3 (s_cw6 603072 7186538 3 FL_removeOutage (s_si 6 (s_la 2 (s_ar L xs 1 (s_cv 1 13 FX12_removeOutage (lt_tail Z)))))))))
theorem okLC_9 {X : az_X} {Q : Option Value → az_M → Prop} {L : Nat} {xs : Nat → Int32} (C : az_C X cL_law 9 RL lw_tbl room_1 ret Q) (LX : az_LX X L xs) {Z : az_T} (hZ : az_ok X 2044 Z) : az_ok X 916 (LC_9 L xs Z) := by
  have h969 := az_goto (tgt := 2044) C dL_law_969 (by decide) hZ
  have h969 := az_goto (tgt := 2044) C dL_law_969 (by decide) hZ
  have h964 := az_if_eq (tgt := 969) C dL_law_964 (by decide) h969 az_sF
  have h963 := az_lcmp C dL_law_963 h964
  have h962 := az_i2l C dL_law_962 h963
  have h960 := az_iload C dL_law_960 h962
  have h959 := az_lald C dL_law_959 h960
  have h958 := az_iconst (x := (nI 0)) C dL_law_958 (by decide +kernel) h959
  have h957 := az_aload_n C 3 rfl dL_law_957 h958
  have h954 := az_if_ne (tgt := 969) C dL_law_954 (by decide) h969 h957
  have h952 := az_iload C dL_law_952 h954
  have h947 := az_icmp_eq (tgt := 952) C dL_law_947 (by decide) h952 az_sF
  have h945 := az_iload C dL_law_945 h947
  have h942 := az_callV (ci := 13) C okX12_thrown knX12_thrown imX12_thrown seX12_thrown mLRL_121 rfl (by decide) ⟨rfl, rfl, by decide +kernel, by decide +kernel⟩ dL_law_942 h945
  have h941 := az_aload_n C 2 rfl dL_law_941 h942
  have h939 := az_istore C (by decide) dL_law_939 h941
  have h936 := az_callV (ci := 13) C okX12_removeOutage knX12_removeOutage imX12_removeOutage seX12_removeOutage mLRL_154 rfl (by decide) ⟨rfl, rfl, by decide +kernel, by decide +kernel⟩ dL_law_936 h939
  have h930 := az_ar (j := 1) C LX dL_law_930 dL_law_931 dL_law_933 (by decide +kernel) dL_law_934 dL_law_935 h936
  have h929 := az_aload_n C 2 rfl dL_law_929 h930
  have h927 := az_istore C (by decide) dL_law_927 h929
  have h924 := az_callW6 (n := 3) (cm := 603072) (sm := 7186538) C LX (by decide +kernel) (by decide +kernel) okL_removeOutage ⟨cwL_removeOutage, iniRL, stL_removeOutage, mLRL_151⟩ ⟨by decide +kernel, by decide +kernel, by decide +kernel⟩ (by decide +kernel) ⟨rfl, rfl, by decide +kernel, by decide +kernel⟩ dL_law_924 h927
  have h923 := az_aload_n C 3 rfl dL_law_923 h924
  have h917 := az_ar (j := 1) C LX dL_law_917 dL_law_918 dL_law_920 (by decide +kernel) dL_law_921 dL_law_922 h923
  have h916 := az_aload_n C 1 rfl dL_law_916 h917
  exact h916
def LC_10 (L : Nat) (xs : Nat → Int32) (Z : az_T) : az_T := (s_la 1 (s_ar L xs 1 (s_la 3 (s_cw6 603072 7186538 3 FL_setPolicy (s_si 6 (s_la 2 (s_ar L xs 1 (s_cv 1 13 FX12_setPolicy (lt_tail Z)))))))))
theorem okLC_10 {X : az_X} {Q : Option Value → az_M → Prop} {L : Nat} {xs : Nat → Int32} (C : az_C X cL_law 9 RL lw_tbl room_1 ret Q) (LX : az_LX X L xs) {Z : az_T} (hZ : az_ok X 2044 Z) : az_ok X 972 (LC_10 L xs Z) := by
  have h1025 := az_goto (tgt := 2044) C dL_law_1025 (by decide) hZ
  have h1025 := az_goto (tgt := 2044) C dL_law_1025 (by decide) hZ
  have h1020 := az_if_eq (tgt := 1025) C dL_law_1020 (by decide) h1025 az_sF
  have h1019 := az_lcmp C dL_law_1019 h1020
  have h1018 := az_i2l C dL_law_1018 h1019
  have h1016 := az_iload C dL_law_1016 h1018
  have h1015 := az_lald C dL_law_1015 h1016
  have h1014 := az_iconst (x := (nI 0)) C dL_law_1014 (by decide +kernel) h1015
  have h1013 := az_aload_n C 3 rfl dL_law_1013 h1014
  have h1010 := az_if_ne (tgt := 1025) C dL_law_1010 (by decide) h1025 h1013
  have h1008 := az_iload C dL_law_1008 h1010
  have h1003 := az_icmp_eq (tgt := 1008) C dL_law_1003 (by decide) h1008 az_sF
  have h1001 := az_iload C dL_law_1001 h1003
  have h998 := az_callV (ci := 13) C okX12_thrown knX12_thrown imX12_thrown seX12_thrown mLRL_121 rfl (by decide) ⟨rfl, rfl, by decide +kernel, by decide +kernel⟩ dL_law_998 h1001
  have h997 := az_aload_n C 2 rfl dL_law_997 h998
  have h995 := az_istore C (by decide) dL_law_995 h997
  have h992 := az_callV (ci := 13) C okX12_setPolicy knX12_setPolicy imX12_setPolicy seX12_setPolicy mLRL_157 rfl (by decide) ⟨rfl, rfl, by decide +kernel, by decide +kernel⟩ dL_law_992 h995
  have h986 := az_ar (j := 1) C LX dL_law_986 dL_law_987 dL_law_989 (by decide +kernel) dL_law_990 dL_law_991 h992
  have h985 := az_aload_n C 2 rfl dL_law_985 h986
  have h983 := az_istore C (by decide) dL_law_983 h985
  have h980 := az_callW6 (n := 3) (cm := 603072) (sm := 7186538) C LX (by decide +kernel) (by decide +kernel) okL_setPolicy ⟨cwL_setPolicy, iniRL, stL_setPolicy, mLRL_155⟩ ⟨by decide +kernel, by decide +kernel, by decide +kernel⟩ (by decide +kernel) ⟨rfl, rfl, by decide +kernel, by decide +kernel⟩ dL_law_980 h983
  have h979 := az_aload_n C 3 rfl dL_law_979 h980
  have h973 := az_ar (j := 1) C LX dL_law_973 dL_law_974 dL_law_976 (by decide +kernel) dL_law_977 dL_law_978 h979
  have h972 := az_aload_n C 1 rfl dL_law_972 h973
  exact h972
def LC_11 (L : Nat) (xs : Nat → Int32) (Z : az_T) : az_T := (s_la 1 (s_ar L xs 1 (s_ar L xs 2 (s_la 3 (s_cw6 603072 7186538 4 FL_outage (s_si 6 (s_la 2 (s_ar L xs 1 (s_ar L xs 2 (s_cv 2 13 FX12_outage (lt_tail Z)))))))))))
theorem okLC_11 {X : az_X} {Q : Option Value → az_M → Prop} {L : Nat} {xs : Nat → Int32} (C : az_C X cL_law 9 RL lw_tbl room_1 ret Q) (LX : az_LX X L xs) {Z : az_T} (hZ : az_ok X 2044 Z) : az_ok X 1028 (LC_11 L xs Z) := by
  have h1093 := az_goto (tgt := 2044) C dL_law_1093 (by decide) hZ
  have h1093 := az_goto (tgt := 2044) C dL_law_1093 (by decide) hZ
  have h1088 := az_if_eq (tgt := 1093) C dL_law_1088 (by decide) h1093 az_sF
  have h1087 := az_lcmp C dL_law_1087 h1088
  have h1086 := az_i2l C dL_law_1086 h1087
  have h1084 := az_iload C dL_law_1084 h1086
  have h1083 := az_lald C dL_law_1083 h1084
  have h1082 := az_iconst (x := (nI 0)) C dL_law_1082 (by decide +kernel) h1083
  have h1081 := az_aload_n C 3 rfl dL_law_1081 h1082
  have h1078 := az_if_ne (tgt := 1093) C dL_law_1078 (by decide) h1093 h1081
  have h1076 := az_iload C dL_law_1076 h1078
  have h1071 := az_icmp_eq (tgt := 1076) C dL_law_1071 (by decide) h1076 az_sF
  have h1069 := az_iload C dL_law_1069 h1071
  have h1066 := az_callV (ci := 13) C okX12_thrown knX12_thrown imX12_thrown seX12_thrown mLRL_121 rfl (by decide) ⟨rfl, rfl, by decide +kernel, by decide +kernel⟩ dL_law_1066 h1069
  have h1065 := az_aload_n C 2 rfl dL_law_1065 h1066
  have h1063 := az_istore C (by decide) dL_law_1063 h1065
  have h1060 := az_callV (ci := 13) C okX12_outage knX12_outage imX12_outage seX12_outage mLRL_160 rfl (by decide) ⟨rfl, rfl, by decide +kernel, by decide +kernel⟩ dL_law_1060 h1063
  have h1054 := az_ar (j := 2) C LX dL_law_1054 dL_law_1055 dL_law_1057 (by decide +kernel) dL_law_1058 dL_law_1059 h1060
  have h1048 := az_ar (j := 1) C LX dL_law_1048 dL_law_1049 dL_law_1051 (by decide +kernel) dL_law_1052 dL_law_1053 h1054
  have h1047 := az_aload_n C 2 rfl dL_law_1047 h1048
  have h1045 := az_istore C (by decide) dL_law_1045 h1047
  have h1042 := az_callW6 (n := 4) (cm := 603072) (sm := 7186538) C LX (by decide +kernel) (by decide +kernel) okL_outage ⟨cwL_outage, iniRL, stL_outage, mLRL_158⟩ ⟨by decide +kernel, by decide +kernel, by decide +kernel⟩ (by decide +kernel) ⟨rfl, rfl, by decide +kernel, by decide +kernel⟩ dL_law_1042 h1045
  have h1041 := az_aload_n C 3 rfl dL_law_1041 h1042
  have h1035 := az_ar (j := 2) C LX dL_law_1035 dL_law_1036 dL_law_1038 (by decide +kernel) dL_law_1039 dL_law_1040 h1041
  have h1029 := az_ar (j := 1) C LX dL_law_1029 dL_law_1030 dL_law_1032 (by decide +kernel) dL_law_1033 dL_law_1034 h1035
  have h1028 := az_aload_n C 1 rfl dL_law_1028 h1029
  exact h1028
def LC_12 (L : Nat) (xs : Nat → Int32) (Z : az_T) : az_T := (s_la 1 (s_cv 0 12 FX11_planByMerit (s_la 2 (s_cv 0 13 FX12_planByMerit (s_if2 d_eq Z sF)))))
theorem okLC_12 {X : az_X} {Q : Option Value → az_M → Prop} {L : Nat} {xs : Nat → Int32} (C : az_C X cL_law 9 RL lw_tbl room_1 ret Q) (LX : az_LX X L xs) {Z : az_T} (hZ : az_ok X 2044 Z) : az_ok X 1096 (LC_12 L xs Z) := by
  have h1104 := az_icmp_eq (tgt := 2044) C dL_law_1104 (by decide) hZ az_sF
  have h1101 := az_callV (ci := 13) C okX12_planByMerit knX12_planByMerit imX12_planByMerit seX12_planByMerit mLRL_164 rfl (by decide) ⟨rfl, rfl, by decide +kernel, by decide +kernel⟩ dL_law_1101 h1104
  have h1100 := az_aload_n C 2 rfl dL_law_1100 h1101
  have h1097 := az_callV (ci := 12) C okX11_planByMerit knX11_planByMerit imX11_planByMerit seX11_planByMerit mLRL_161 rfl (by decide) ⟨rfl, rfl, by decide +kernel, by decide +kernel⟩ dL_law_1097 h1100
  have h1096 := az_aload_n C 1 rfl dL_law_1096 h1097
  exact h1096
def LC_13 (L : Nat) (xs : Nat → Int32) (Z : az_T) : az_T := (s_la 1 (s_la 3 (s_cw6 603072 7186538 2 FL_search (s_si 6 (s_la 2 (s_cv 0 13 FX12_search (lt_tail Z)))))))
theorem okLC_13 {X : az_X} {Q : Option Value → az_M → Prop} {L : Nat} {xs : Nat → Int32} (C : az_C X cL_law 9 RL lw_tbl room_1 ret Q) (LX : az_LX X L xs) {Z : az_T} (hZ : az_ok X 2044 Z) : az_ok X 1109 (LC_13 L xs Z) := by
  have h1150 := az_goto (tgt := 2044) C dL_law_1150 (by decide) hZ
  have h1150 := az_goto (tgt := 2044) C dL_law_1150 (by decide) hZ
  have h1145 := az_if_eq (tgt := 1150) C dL_law_1145 (by decide) h1150 az_sF
  have h1144 := az_lcmp C dL_law_1144 h1145
  have h1143 := az_i2l C dL_law_1143 h1144
  have h1141 := az_iload C dL_law_1141 h1143
  have h1140 := az_lald C dL_law_1140 h1141
  have h1139 := az_iconst (x := (nI 0)) C dL_law_1139 (by decide +kernel) h1140
  have h1138 := az_aload_n C 3 rfl dL_law_1138 h1139
  have h1135 := az_if_ne (tgt := 1150) C dL_law_1135 (by decide) h1150 h1138
  have h1133 := az_iload C dL_law_1133 h1135
  have h1128 := az_icmp_eq (tgt := 1133) C dL_law_1128 (by decide) h1133 az_sF
  have h1126 := az_iload C dL_law_1126 h1128
  have h1123 := az_callV (ci := 13) C okX12_thrown knX12_thrown imX12_thrown seX12_thrown mLRL_121 rfl (by decide) ⟨rfl, rfl, by decide +kernel, by decide +kernel⟩ dL_law_1123 h1126
  have h1122 := az_aload_n C 2 rfl dL_law_1122 h1123
  have h1120 := az_istore C (by decide) dL_law_1120 h1122
  have h1117 := az_callV (ci := 13) C okX12_search knX12_search imX12_search seX12_search mLRL_168 rfl (by decide) ⟨rfl, rfl, by decide +kernel, by decide +kernel⟩ dL_law_1117 h1120
  have h1116 := az_aload_n C 2 rfl dL_law_1116 h1117
  have h1114 := az_istore C (by decide) dL_law_1114 h1116
  have h1111 := az_callW6 (n := 2) (cm := 603072) (sm := 7186538) C LX (by decide +kernel) (by decide +kernel) okL_search ⟨cwL_search, iniRL, stL_search, mLRL_165⟩ ⟨by decide +kernel, by decide +kernel, by decide +kernel⟩ (by decide +kernel) ⟨rfl, rfl, by decide +kernel, by decide +kernel⟩ dL_law_1111 h1114
  have h1110 := az_aload_n C 3 rfl dL_law_1110 h1111
  have h1109 := az_aload_n C 1 rfl dL_law_1109 h1110
  exact h1109
def LC_14 (L : Nat) (xs : Nat → Int32) (Z : az_T) : az_T := (s_la 1 (s_ar L xs 1 (s_un f_i2c (s_la 3 (s_cw6 603072 7186538 3 FL_append (s_si 6 (s_la 2 (s_ar L xs 1 (s_un f_i2c (s_cv 1 13 FX12_append (lt_tail Z)))))))))))
theorem okLC_14 {X : az_X} {Q : Option Value → az_M → Prop} {L : Nat} {xs : Nat → Int32} (C : az_C X cL_law 9 RL lw_tbl room_1 ret Q) (LX : az_LX X L xs) {Z : az_T} (hZ : az_ok X 2044 Z) : az_ok X 1153 (LC_14 L xs Z) := by
  have h1208 := az_goto (tgt := 2044) C dL_law_1208 (by decide) hZ
  have h1208 := az_goto (tgt := 2044) C dL_law_1208 (by decide) hZ
  have h1203 := az_if_eq (tgt := 1208) C dL_law_1203 (by decide) h1208 az_sF
  have h1202 := az_lcmp C dL_law_1202 h1203
  have h1201 := az_i2l C dL_law_1201 h1202
  have h1199 := az_iload C dL_law_1199 h1201
  have h1198 := az_lald C dL_law_1198 h1199
  have h1197 := az_iconst (x := (nI 0)) C dL_law_1197 (by decide +kernel) h1198
  have h1196 := az_aload_n C 3 rfl dL_law_1196 h1197
  have h1193 := az_if_ne (tgt := 1208) C dL_law_1193 (by decide) h1208 h1196
  have h1191 := az_iload C dL_law_1191 h1193
  have h1186 := az_icmp_eq (tgt := 1191) C dL_law_1186 (by decide) h1191 az_sF
  have h1184 := az_iload C dL_law_1184 h1186
  have h1181 := az_callV (ci := 13) C okX12_thrown knX12_thrown imX12_thrown seX12_thrown mLRL_121 rfl (by decide) ⟨rfl, rfl, by decide +kernel, by decide +kernel⟩ dL_law_1181 h1184
  have h1180 := az_aload_n C 2 rfl dL_law_1180 h1181
  have h1178 := az_istore C (by decide) dL_law_1178 h1180
  have h1175 := az_callV (ci := 13) C okX12_append knX12_append imX12_append seX12_append mLRL_172 rfl (by decide) ⟨rfl, rfl, by decide +kernel, by decide +kernel⟩ dL_law_1175 h1178
  have h1174 := az_i2c C dL_law_1174 h1175
  have h1168 := az_ar (j := 1) C LX dL_law_1168 dL_law_1169 dL_law_1171 (by decide +kernel) dL_law_1172 dL_law_1173 h1174
  have h1167 := az_aload_n C 2 rfl dL_law_1167 h1168
  have h1165 := az_istore C (by decide) dL_law_1165 h1167
  have h1162 := az_callW6 (n := 3) (cm := 603072) (sm := 7186538) C LX (by decide +kernel) (by decide +kernel) okL_append ⟨cwL_append, iniRL, stL_append, mLRL_169⟩ ⟨by decide +kernel, by decide +kernel, by decide +kernel⟩ (by decide +kernel) ⟨rfl, rfl, by decide +kernel, by decide +kernel⟩ dL_law_1162 h1165
  have h1161 := az_aload_n C 3 rfl dL_law_1161 h1162
  have h1160 := az_i2c C dL_law_1160 h1161
  have h1154 := az_ar (j := 1) C LX dL_law_1154 dL_law_1155 dL_law_1157 (by decide +kernel) dL_law_1158 dL_law_1159 h1160
  have h1153 := az_aload_n C 1 rfl dL_law_1153 h1154
  exact h1153
def LC_15 (L : Nat) (xs : Nat → Int32) (Z : az_T) : az_T := (s_la 1 (s_la 3 (s_cw6 603072 7186538 2 FL_readPlan (s_si 6 (s_la 2 (s_cv 0 13 FX12_readPlan (lt_tail Z)))))))
theorem okLC_15 {X : az_X} {Q : Option Value → az_M → Prop} {L : Nat} {xs : Nat → Int32} (C : az_C X cL_law 9 RL lw_tbl room_1 ret Q) (LX : az_LX X L xs) {Z : az_T} (hZ : az_ok X 2044 Z) : az_ok X 1211 (LC_15 L xs Z) := by
  have h1252 := az_goto (tgt := 2044) C dL_law_1252 (by decide) hZ
  have h1252 := az_goto (tgt := 2044) C dL_law_1252 (by decide) hZ
  have h1247 := az_if_eq (tgt := 1252) C dL_law_1247 (by decide) h1252 az_sF
  have h1246 := az_lcmp C dL_law_1246 h1247
  have h1245 := az_i2l C dL_law_1245 h1246
  have h1243 := az_iload C dL_law_1243 h1245
  have h1242 := az_lald C dL_law_1242 h1243
  have h1241 := az_iconst (x := (nI 0)) C dL_law_1241 (by decide +kernel) h1242
  have h1240 := az_aload_n C 3 rfl dL_law_1240 h1241
  have h1237 := az_if_ne (tgt := 1252) C dL_law_1237 (by decide) h1252 h1240
  have h1235 := az_iload C dL_law_1235 h1237
  have h1230 := az_icmp_eq (tgt := 1235) C dL_law_1230 (by decide) h1235 az_sF
  have h1228 := az_iload C dL_law_1228 h1230
  have h1225 := az_callV (ci := 13) C okX12_thrown knX12_thrown imX12_thrown seX12_thrown mLRL_121 rfl (by decide) ⟨rfl, rfl, by decide +kernel, by decide +kernel⟩ dL_law_1225 h1228
  have h1224 := az_aload_n C 2 rfl dL_law_1224 h1225
  have h1222 := az_istore C (by decide) dL_law_1222 h1224
  have h1219 := az_callV (ci := 13) C okX12_readPlan knX12_readPlan imX12_readPlan seX12_readPlan mLRL_175 rfl (by decide) ⟨rfl, rfl, by decide +kernel, by decide +kernel⟩ dL_law_1219 h1222
  have h1218 := az_aload_n C 2 rfl dL_law_1218 h1219
  have h1216 := az_istore C (by decide) dL_law_1216 h1218
  have h1213 := az_callW6 (n := 2) (cm := 603072) (sm := 7186538) C LX (by decide +kernel) (by decide +kernel) okL_readPlan ⟨cwL_readPlan, iniRL, stL_readPlan, mLRL_173⟩ ⟨by decide +kernel, by decide +kernel, by decide +kernel⟩ (by decide +kernel) ⟨rfl, rfl, by decide +kernel, by decide +kernel⟩ dL_law_1213 h1216
  have h1212 := az_aload_n C 3 rfl dL_law_1212 h1213
  have h1211 := az_aload_n C 1 rfl dL_law_1211 h1212
  exact h1211
def LC_16 (L : Nat) (xs : Nat → Int32) (Z : az_T) : az_T := (s_la 1 (s_la 3 (s_cw6 603072 7186538 2 FL_errorPosition (s_si 6 (s_la 2 (s_cv 0 13 FX12_errorPosition (lt_tail Z)))))))
theorem okLC_16 {X : az_X} {Q : Option Value → az_M → Prop} {L : Nat} {xs : Nat → Int32} (C : az_C X cL_law 9 RL lw_tbl room_1 ret Q) (LX : az_LX X L xs) {Z : az_T} (hZ : az_ok X 2044 Z) : az_ok X 1255 (LC_16 L xs Z) := by
  have h1296 := az_goto (tgt := 2044) C dL_law_1296 (by decide) hZ
  have h1296 := az_goto (tgt := 2044) C dL_law_1296 (by decide) hZ
  have h1291 := az_if_eq (tgt := 1296) C dL_law_1291 (by decide) h1296 az_sF
  have h1290 := az_lcmp C dL_law_1290 h1291
  have h1289 := az_i2l C dL_law_1289 h1290
  have h1287 := az_iload C dL_law_1287 h1289
  have h1286 := az_lald C dL_law_1286 h1287
  have h1285 := az_iconst (x := (nI 0)) C dL_law_1285 (by decide +kernel) h1286
  have h1284 := az_aload_n C 3 rfl dL_law_1284 h1285
  have h1281 := az_if_ne (tgt := 1296) C dL_law_1281 (by decide) h1296 h1284
  have h1279 := az_iload C dL_law_1279 h1281
  have h1274 := az_icmp_eq (tgt := 1279) C dL_law_1274 (by decide) h1279 az_sF
  have h1272 := az_iload C dL_law_1272 h1274
  have h1269 := az_callV (ci := 13) C okX12_thrown knX12_thrown imX12_thrown seX12_thrown mLRL_121 rfl (by decide) ⟨rfl, rfl, by decide +kernel, by decide +kernel⟩ dL_law_1269 h1272
  have h1268 := az_aload_n C 2 rfl dL_law_1268 h1269
  have h1266 := az_istore C (by decide) dL_law_1266 h1268
  have h1263 := az_callV (ci := 13) C okX12_errorPosition knX12_errorPosition imX12_errorPosition seX12_errorPosition mLRL_178 rfl (by decide) ⟨rfl, rfl, by decide +kernel, by decide +kernel⟩ dL_law_1263 h1266
  have h1262 := az_aload_n C 2 rfl dL_law_1262 h1263
  have h1260 := az_istore C (by decide) dL_law_1260 h1262
  have h1257 := az_callW6 (n := 2) (cm := 603072) (sm := 7186538) C LX (by decide +kernel) (by decide +kernel) okL_errorPosition ⟨cwL_errorPosition, iniRL, stL_errorPosition, mLRL_176⟩ ⟨by decide +kernel, by decide +kernel, by decide +kernel⟩ (by decide +kernel) ⟨rfl, rfl, by decide +kernel, by decide +kernel⟩ dL_law_1257 h1260
  have h1256 := az_aload_n C 3 rfl dL_law_1256 h1257
  have h1255 := az_aload_n C 1 rfl dL_law_1255 h1256
  exact h1255
def LC_17 (L : Nat) (xs : Nat → Int32) (Z : az_T) : az_T := (s_la 1 (s_ar L xs 1 (s_ar L xs 2 (s_ar L xs 3 (s_la 3 (s_cw6 603072 7186538 5 FL_output (s_si 6 (s_la 2 (s_ar L xs 1 (s_ar L xs 2 (s_ar L xs 3 (s_cv 3 13 FX12_output (lt_tail Z)))))))))))))
theorem okLC_17 {X : az_X} {Q : Option Value → az_M → Prop} {L : Nat} {xs : Nat → Int32} (C : az_C X cL_law 9 RL lw_tbl room_1 ret Q) (LX : az_LX X L xs) {Z : az_T} (hZ : az_ok X 2044 Z) : az_ok X 1299 (LC_17 L xs Z) := by
  have h1376 := az_goto (tgt := 2044) C dL_law_1376 (by decide) hZ
  have h1376 := az_goto (tgt := 2044) C dL_law_1376 (by decide) hZ
  have h1371 := az_if_eq (tgt := 1376) C dL_law_1371 (by decide) h1376 az_sF
  have h1370 := az_lcmp C dL_law_1370 h1371
  have h1369 := az_i2l C dL_law_1369 h1370
  have h1367 := az_iload C dL_law_1367 h1369
  have h1366 := az_lald C dL_law_1366 h1367
  have h1365 := az_iconst (x := (nI 0)) C dL_law_1365 (by decide +kernel) h1366
  have h1364 := az_aload_n C 3 rfl dL_law_1364 h1365
  have h1361 := az_if_ne (tgt := 1376) C dL_law_1361 (by decide) h1376 h1364
  have h1359 := az_iload C dL_law_1359 h1361
  have h1354 := az_icmp_eq (tgt := 1359) C dL_law_1354 (by decide) h1359 az_sF
  have h1352 := az_iload C dL_law_1352 h1354
  have h1349 := az_callV (ci := 13) C okX12_thrown knX12_thrown imX12_thrown seX12_thrown mLRL_121 rfl (by decide) ⟨rfl, rfl, by decide +kernel, by decide +kernel⟩ dL_law_1349 h1352
  have h1348 := az_aload_n C 2 rfl dL_law_1348 h1349
  have h1346 := az_istore C (by decide) dL_law_1346 h1348
  have h1343 := az_callV (ci := 13) C okX12_output knX12_output imX12_output seX12_output mLRL_181 rfl (by decide) ⟨rfl, rfl, by decide +kernel, by decide +kernel⟩ dL_law_1343 h1346
  have h1337 := az_ar (j := 3) C LX dL_law_1337 dL_law_1338 dL_law_1340 (by decide +kernel) dL_law_1341 dL_law_1342 h1343
  have h1331 := az_ar (j := 2) C LX dL_law_1331 dL_law_1332 dL_law_1334 (by decide +kernel) dL_law_1335 dL_law_1336 h1337
  have h1325 := az_ar (j := 1) C LX dL_law_1325 dL_law_1326 dL_law_1328 (by decide +kernel) dL_law_1329 dL_law_1330 h1331
  have h1324 := az_aload_n C 2 rfl dL_law_1324 h1325
  have h1322 := az_istore C (by decide) dL_law_1322 h1324
  have h1319 := az_callW6 (n := 5) (cm := 603072) (sm := 7186538) C LX (by decide +kernel) (by decide +kernel) okL_output ⟨cwL_output, iniRL, stL_output, mLRL_179⟩ ⟨by decide +kernel, by decide +kernel, by decide +kernel⟩ (by decide +kernel) ⟨rfl, rfl, by decide +kernel, by decide +kernel⟩ dL_law_1319 h1322
  have h1318 := az_aload_n C 3 rfl dL_law_1318 h1319
  have h1312 := az_ar (j := 3) C LX dL_law_1312 dL_law_1313 dL_law_1315 (by decide +kernel) dL_law_1316 dL_law_1317 h1318
  have h1306 := az_ar (j := 2) C LX dL_law_1306 dL_law_1307 dL_law_1309 (by decide +kernel) dL_law_1310 dL_law_1311 h1312
  have h1300 := az_ar (j := 1) C LX dL_law_1300 dL_law_1301 dL_law_1303 (by decide +kernel) dL_law_1304 dL_law_1305 h1306
  have h1299 := az_aload_n C 1 rfl dL_law_1299 h1300
  exact h1299
def LC_18 (L : Nat) (xs : Nat → Int32) (Z : az_T) : az_T := (s_la 1 (s_ar L xs 1 (s_ar L xs 2 (s_ar L xs 3 (s_la 3 (s_cw6 603072 7186538 5 FL_delivered (s_si 6 (s_la 2 (s_ar L xs 1 (s_ar L xs 2 (s_ar L xs 3 (s_cv 3 13 FX12_delivered (lt_tail Z)))))))))))))
theorem okLC_18 {X : az_X} {Q : Option Value → az_M → Prop} {L : Nat} {xs : Nat → Int32} (C : az_C X cL_law 9 RL lw_tbl room_1 ret Q) (LX : az_LX X L xs) {Z : az_T} (hZ : az_ok X 2044 Z) : az_ok X 1379 (LC_18 L xs Z) := by
  have h1456 := az_goto (tgt := 2044) C dL_law_1456 (by decide) hZ
  have h1456 := az_goto (tgt := 2044) C dL_law_1456 (by decide) hZ
  have h1451 := az_if_eq (tgt := 1456) C dL_law_1451 (by decide) h1456 az_sF
  have h1450 := az_lcmp C dL_law_1450 h1451
  have h1449 := az_i2l C dL_law_1449 h1450
  have h1447 := az_iload C dL_law_1447 h1449
  have h1446 := az_lald C dL_law_1446 h1447
  have h1445 := az_iconst (x := (nI 0)) C dL_law_1445 (by decide +kernel) h1446
  have h1444 := az_aload_n C 3 rfl dL_law_1444 h1445
  have h1441 := az_if_ne (tgt := 1456) C dL_law_1441 (by decide) h1456 h1444
  have h1439 := az_iload C dL_law_1439 h1441
  have h1434 := az_icmp_eq (tgt := 1439) C dL_law_1434 (by decide) h1439 az_sF
  have h1432 := az_iload C dL_law_1432 h1434
  have h1429 := az_callV (ci := 13) C okX12_thrown knX12_thrown imX12_thrown seX12_thrown mLRL_121 rfl (by decide) ⟨rfl, rfl, by decide +kernel, by decide +kernel⟩ dL_law_1429 h1432
  have h1428 := az_aload_n C 2 rfl dL_law_1428 h1429
  have h1426 := az_istore C (by decide) dL_law_1426 h1428
  have h1423 := az_callV (ci := 13) C okX12_delivered knX12_delivered imX12_delivered seX12_delivered mLRL_184 rfl (by decide) ⟨rfl, rfl, by decide +kernel, by decide +kernel⟩ dL_law_1423 h1426
  have h1417 := az_ar (j := 3) C LX dL_law_1417 dL_law_1418 dL_law_1420 (by decide +kernel) dL_law_1421 dL_law_1422 h1423
  have h1411 := az_ar (j := 2) C LX dL_law_1411 dL_law_1412 dL_law_1414 (by decide +kernel) dL_law_1415 dL_law_1416 h1417
  have h1405 := az_ar (j := 1) C LX dL_law_1405 dL_law_1406 dL_law_1408 (by decide +kernel) dL_law_1409 dL_law_1410 h1411
  have h1404 := az_aload_n C 2 rfl dL_law_1404 h1405
  have h1402 := az_istore C (by decide) dL_law_1402 h1404
  have h1399 := az_callW6 (n := 5) (cm := 603072) (sm := 7186538) C LX (by decide +kernel) (by decide +kernel) okL_delivered ⟨cwL_delivered, iniRL, stL_delivered, mLRL_182⟩ ⟨by decide +kernel, by decide +kernel, by decide +kernel⟩ (by decide +kernel) ⟨rfl, rfl, by decide +kernel, by decide +kernel⟩ dL_law_1399 h1402
  have h1398 := az_aload_n C 3 rfl dL_law_1398 h1399
  have h1392 := az_ar (j := 3) C LX dL_law_1392 dL_law_1393 dL_law_1395 (by decide +kernel) dL_law_1396 dL_law_1397 h1398
  have h1386 := az_ar (j := 2) C LX dL_law_1386 dL_law_1387 dL_law_1389 (by decide +kernel) dL_law_1390 dL_law_1391 h1392
  have h1380 := az_ar (j := 1) C LX dL_law_1380 dL_law_1381 dL_law_1383 (by decide +kernel) dL_law_1384 dL_law_1385 h1386
  have h1379 := az_aload_n C 1 rfl dL_law_1379 h1380
  exact h1379
def LC_19 (L : Nat) (xs : Nat → Int32) (Z : az_T) : az_T := (s_la 1 (s_ar L xs 1 (s_ar L xs 2 (s_ar L xs 3 (s_la 3 (s_cw6 603072 7186538 5 FL_bus (s_si 6 (s_la 2 (s_ar L xs 1 (s_ar L xs 2 (s_ar L xs 3 (s_cv 3 13 FX12_bus (lt_tail Z)))))))))))))
theorem okLC_19 {X : az_X} {Q : Option Value → az_M → Prop} {L : Nat} {xs : Nat → Int32} (C : az_C X cL_law 9 RL lw_tbl room_1 ret Q) (LX : az_LX X L xs) {Z : az_T} (hZ : az_ok X 2044 Z) : az_ok X 1459 (LC_19 L xs Z) := by
  have h1536 := az_goto (tgt := 2044) C dL_law_1536 (by decide) hZ
  have h1536 := az_goto (tgt := 2044) C dL_law_1536 (by decide) hZ
  have h1531 := az_if_eq (tgt := 1536) C dL_law_1531 (by decide) h1536 az_sF
  have h1530 := az_lcmp C dL_law_1530 h1531
  have h1529 := az_i2l C dL_law_1529 h1530
  have h1527 := az_iload C dL_law_1527 h1529
  have h1526 := az_lald C dL_law_1526 h1527
  have h1525 := az_iconst (x := (nI 0)) C dL_law_1525 (by decide +kernel) h1526
  have h1524 := az_aload_n C 3 rfl dL_law_1524 h1525
  have h1521 := az_if_ne (tgt := 1536) C dL_law_1521 (by decide) h1536 h1524
  have h1519 := az_iload C dL_law_1519 h1521
  have h1514 := az_icmp_eq (tgt := 1519) C dL_law_1514 (by decide) h1519 az_sF
  have h1512 := az_iload C dL_law_1512 h1514
  have h1509 := az_callV (ci := 13) C okX12_thrown knX12_thrown imX12_thrown seX12_thrown mLRL_121 rfl (by decide) ⟨rfl, rfl, by decide +kernel, by decide +kernel⟩ dL_law_1509 h1512
  have h1508 := az_aload_n C 2 rfl dL_law_1508 h1509
  have h1506 := az_istore C (by decide) dL_law_1506 h1508
  have h1503 := az_callV (ci := 13) C okX12_bus knX12_bus imX12_bus seX12_bus mLRL_187 rfl (by decide) ⟨rfl, rfl, by decide +kernel, by decide +kernel⟩ dL_law_1503 h1506
  have h1497 := az_ar (j := 3) C LX dL_law_1497 dL_law_1498 dL_law_1500 (by decide +kernel) dL_law_1501 dL_law_1502 h1503
  have h1491 := az_ar (j := 2) C LX dL_law_1491 dL_law_1492 dL_law_1494 (by decide +kernel) dL_law_1495 dL_law_1496 h1497
  have h1485 := az_ar (j := 1) C LX dL_law_1485 dL_law_1486 dL_law_1488 (by decide +kernel) dL_law_1489 dL_law_1490 h1491
  have h1484 := az_aload_n C 2 rfl dL_law_1484 h1485
  have h1482 := az_istore C (by decide) dL_law_1482 h1484
  have h1479 := az_callW6 (n := 5) (cm := 603072) (sm := 7186538) C LX (by decide +kernel) (by decide +kernel) okL_bus ⟨cwL_bus, iniRL, stL_bus, mLRL_185⟩ ⟨by decide +kernel, by decide +kernel, by decide +kernel⟩ (by decide +kernel) ⟨rfl, rfl, by decide +kernel, by decide +kernel⟩ dL_law_1479 h1482
  have h1478 := az_aload_n C 3 rfl dL_law_1478 h1479
  have h1472 := az_ar (j := 3) C LX dL_law_1472 dL_law_1473 dL_law_1475 (by decide +kernel) dL_law_1476 dL_law_1477 h1478
  have h1466 := az_ar (j := 2) C LX dL_law_1466 dL_law_1467 dL_law_1469 (by decide +kernel) dL_law_1470 dL_law_1471 h1472
  have h1460 := az_ar (j := 1) C LX dL_law_1460 dL_law_1461 dL_law_1463 (by decide +kernel) dL_law_1464 dL_law_1465 h1466
  have h1459 := az_aload_n C 1 rfl dL_law_1459 h1460
  exact h1459
def LC_20 (L : Nat) (xs : Nat → Int32) (Z : az_T) : az_T := (s_la 1 (s_ar L xs 1 (s_ar L xs 2 (s_la 3 (s_cw6 603072 7186538 4 FL_hour (s_si 6 (s_la 2 (s_ar L xs 1 (s_ar L xs 2 (s_cv 2 13 FX12_hour (lt_tail Z)))))))))))
theorem okLC_20 {X : az_X} {Q : Option Value → az_M → Prop} {L : Nat} {xs : Nat → Int32} (C : az_C X cL_law 9 RL lw_tbl room_1 ret Q) (LX : az_LX X L xs) {Z : az_T} (hZ : az_ok X 2044 Z) : az_ok X 1539 (LC_20 L xs Z) := by
  have h1604 := az_goto (tgt := 2044) C dL_law_1604 (by decide) hZ
  have h1604 := az_goto (tgt := 2044) C dL_law_1604 (by decide) hZ
  have h1599 := az_if_eq (tgt := 1604) C dL_law_1599 (by decide) h1604 az_sF
  have h1598 := az_lcmp C dL_law_1598 h1599
  have h1597 := az_i2l C dL_law_1597 h1598
  have h1595 := az_iload C dL_law_1595 h1597
  have h1594 := az_lald C dL_law_1594 h1595
  have h1593 := az_iconst (x := (nI 0)) C dL_law_1593 (by decide +kernel) h1594
  have h1592 := az_aload_n C 3 rfl dL_law_1592 h1593
  have h1589 := az_if_ne (tgt := 1604) C dL_law_1589 (by decide) h1604 h1592
  have h1587 := az_iload C dL_law_1587 h1589
  have h1582 := az_icmp_eq (tgt := 1587) C dL_law_1582 (by decide) h1587 az_sF
  have h1580 := az_iload C dL_law_1580 h1582
  have h1577 := az_callV (ci := 13) C okX12_thrown knX12_thrown imX12_thrown seX12_thrown mLRL_121 rfl (by decide) ⟨rfl, rfl, by decide +kernel, by decide +kernel⟩ dL_law_1577 h1580
  have h1576 := az_aload_n C 2 rfl dL_law_1576 h1577
  have h1574 := az_istore C (by decide) dL_law_1574 h1576
  have h1571 := az_callV (ci := 13) C okX12_hour knX12_hour imX12_hour seX12_hour mLRL_190 rfl (by decide) ⟨rfl, rfl, by decide +kernel, by decide +kernel⟩ dL_law_1571 h1574
  have h1565 := az_ar (j := 2) C LX dL_law_1565 dL_law_1566 dL_law_1568 (by decide +kernel) dL_law_1569 dL_law_1570 h1571
  have h1559 := az_ar (j := 1) C LX dL_law_1559 dL_law_1560 dL_law_1562 (by decide +kernel) dL_law_1563 dL_law_1564 h1565
  have h1558 := az_aload_n C 2 rfl dL_law_1558 h1559
  have h1556 := az_istore C (by decide) dL_law_1556 h1558
  have h1553 := az_callW6 (n := 4) (cm := 603072) (sm := 7186538) C LX (by decide +kernel) (by decide +kernel) okL_hour ⟨cwL_hour, iniRL, stL_hour, mLRL_188⟩ ⟨by decide +kernel, by decide +kernel, by decide +kernel⟩ (by decide +kernel) ⟨rfl, rfl, by decide +kernel, by decide +kernel⟩ dL_law_1553 h1556
  have h1552 := az_aload_n C 3 rfl dL_law_1552 h1553
  have h1546 := az_ar (j := 2) C LX dL_law_1546 dL_law_1547 dL_law_1549 (by decide +kernel) dL_law_1550 dL_law_1551 h1552
  have h1540 := az_ar (j := 1) C LX dL_law_1540 dL_law_1541 dL_law_1543 (by decide +kernel) dL_law_1544 dL_law_1545 h1546
  have h1539 := az_aload_n C 1 rfl dL_law_1539 h1540
  exact h1539
def LC_21 (L : Nat) (xs : Nat → Int32) (Z : az_T) : az_T := (s_la 1 (s_ar L xs 1 (s_la 3 (s_cw6 603072 7186538 3 FL_total (s_si 6 (s_la 2 (s_ar L xs 1 (s_cv 1 13 FX12_total (lt_tail Z)))))))))
theorem okLC_21 {X : az_X} {Q : Option Value → az_M → Prop} {L : Nat} {xs : Nat → Int32} (C : az_C X cL_law 9 RL lw_tbl room_1 ret Q) (LX : az_LX X L xs) {Z : az_T} (hZ : az_ok X 2044 Z) : az_ok X 1607 (LC_21 L xs Z) := by
  have h1660 := az_goto (tgt := 2044) C dL_law_1660 (by decide) hZ
  have h1660 := az_goto (tgt := 2044) C dL_law_1660 (by decide) hZ
  have h1655 := az_if_eq (tgt := 1660) C dL_law_1655 (by decide) h1660 az_sF
  have h1654 := az_lcmp C dL_law_1654 h1655
  have h1653 := az_i2l C dL_law_1653 h1654
  have h1651 := az_iload C dL_law_1651 h1653
  have h1650 := az_lald C dL_law_1650 h1651
  have h1649 := az_iconst (x := (nI 0)) C dL_law_1649 (by decide +kernel) h1650
  have h1648 := az_aload_n C 3 rfl dL_law_1648 h1649
  have h1645 := az_if_ne (tgt := 1660) C dL_law_1645 (by decide) h1660 h1648
  have h1643 := az_iload C dL_law_1643 h1645
  have h1638 := az_icmp_eq (tgt := 1643) C dL_law_1638 (by decide) h1643 az_sF
  have h1636 := az_iload C dL_law_1636 h1638
  have h1633 := az_callV (ci := 13) C okX12_thrown knX12_thrown imX12_thrown seX12_thrown mLRL_121 rfl (by decide) ⟨rfl, rfl, by decide +kernel, by decide +kernel⟩ dL_law_1633 h1636
  have h1632 := az_aload_n C 2 rfl dL_law_1632 h1633
  have h1630 := az_istore C (by decide) dL_law_1630 h1632
  have h1627 := az_callV (ci := 13) C okX12_total knX12_total imX12_total seX12_total mLRL_193 rfl (by decide) ⟨rfl, rfl, by decide +kernel, by decide +kernel⟩ dL_law_1627 h1630
  have h1621 := az_ar (j := 1) C LX dL_law_1621 dL_law_1622 dL_law_1624 (by decide +kernel) dL_law_1625 dL_law_1626 h1627
  have h1620 := az_aload_n C 2 rfl dL_law_1620 h1621
  have h1618 := az_istore C (by decide) dL_law_1618 h1620
  have h1615 := az_callW6 (n := 3) (cm := 603072) (sm := 7186538) C LX (by decide +kernel) (by decide +kernel) okL_total ⟨cwL_total, iniRL, stL_total, mLRL_191⟩ ⟨by decide +kernel, by decide +kernel, by decide +kernel⟩ (by decide +kernel) ⟨rfl, rfl, by decide +kernel, by decide +kernel⟩ dL_law_1615 h1618
  have h1614 := az_aload_n C 3 rfl dL_law_1614 h1615
  have h1608 := az_ar (j := 1) C LX dL_law_1608 dL_law_1609 dL_law_1611 (by decide +kernel) dL_law_1612 dL_law_1613 h1614
  have h1607 := az_aload_n C 1 rfl dL_law_1607 h1608
  exact h1607
def LC_22 (L : Nat) (xs : Nat → Int32) (Z : az_T) : az_T := (s_la 1 (s_ar L xs 1 (s_la 3 (s_cw6 603072 7186538 3 FL_violationCount (s_si 6 (s_la 2 (s_ar L xs 1 (s_cv 1 13 FX12_violationCount (lt_tail Z)))))))))
theorem okLC_22 {X : az_X} {Q : Option Value → az_M → Prop} {L : Nat} {xs : Nat → Int32} (C : az_C X cL_law 9 RL lw_tbl room_1 ret Q) (LX : az_LX X L xs) {Z : az_T} (hZ : az_ok X 2044 Z) : az_ok X 1663 (LC_22 L xs Z) := by
  have h1716 := az_goto (tgt := 2044) C dL_law_1716 (by decide) hZ
  have h1716 := az_goto (tgt := 2044) C dL_law_1716 (by decide) hZ
  have h1711 := az_if_eq (tgt := 1716) C dL_law_1711 (by decide) h1716 az_sF
  have h1710 := az_lcmp C dL_law_1710 h1711
  have h1709 := az_i2l C dL_law_1709 h1710
  have h1707 := az_iload C dL_law_1707 h1709
  have h1706 := az_lald C dL_law_1706 h1707
  have h1705 := az_iconst (x := (nI 0)) C dL_law_1705 (by decide +kernel) h1706
  have h1704 := az_aload_n C 3 rfl dL_law_1704 h1705
  have h1701 := az_if_ne (tgt := 1716) C dL_law_1701 (by decide) h1716 h1704
  have h1699 := az_iload C dL_law_1699 h1701
  have h1694 := az_icmp_eq (tgt := 1699) C dL_law_1694 (by decide) h1699 az_sF
  have h1692 := az_iload C dL_law_1692 h1694
  have h1689 := az_callV (ci := 13) C okX12_thrown knX12_thrown imX12_thrown seX12_thrown mLRL_121 rfl (by decide) ⟨rfl, rfl, by decide +kernel, by decide +kernel⟩ dL_law_1689 h1692
  have h1688 := az_aload_n C 2 rfl dL_law_1688 h1689
  have h1686 := az_istore C (by decide) dL_law_1686 h1688
  have h1683 := az_callV (ci := 13) C okX12_violationCount knX12_violationCount imX12_violationCount seX12_violationCount mLRL_196 rfl (by decide) ⟨rfl, rfl, by decide +kernel, by decide +kernel⟩ dL_law_1683 h1686
  have h1677 := az_ar (j := 1) C LX dL_law_1677 dL_law_1678 dL_law_1680 (by decide +kernel) dL_law_1681 dL_law_1682 h1683
  have h1676 := az_aload_n C 2 rfl dL_law_1676 h1677
  have h1674 := az_istore C (by decide) dL_law_1674 h1676
  have h1671 := az_callW6 (n := 3) (cm := 603072) (sm := 7186538) C LX (by decide +kernel) (by decide +kernel) okL_violationCount ⟨cwL_violationCount, iniRL, stL_violationCount, mLRL_194⟩ ⟨by decide +kernel, by decide +kernel, by decide +kernel⟩ (by decide +kernel) ⟨rfl, rfl, by decide +kernel, by decide +kernel⟩ dL_law_1671 h1674
  have h1670 := az_aload_n C 3 rfl dL_law_1670 h1671
  have h1664 := az_ar (j := 1) C LX dL_law_1664 dL_law_1665 dL_law_1667 (by decide +kernel) dL_law_1668 dL_law_1669 h1670
  have h1663 := az_aload_n C 1 rfl dL_law_1663 h1664
  exact h1663
def LC_23 (L : Nat) (xs : Nat → Int32) (Z : az_T) : az_T := (s_la 1 (s_ar L xs 1 (s_ar L xs 2 (s_la 3 (s_cw6 603072 7186538 4 FL_violation (s_si 6 (s_la 2 (s_ar L xs 1 (s_ar L xs 2 (s_cv 2 13 FX12_violation (lt_tail Z)))))))))))
theorem okLC_23 {X : az_X} {Q : Option Value → az_M → Prop} {L : Nat} {xs : Nat → Int32} (C : az_C X cL_law 9 RL lw_tbl room_1 ret Q) (LX : az_LX X L xs) {Z : az_T} (hZ : az_ok X 2044 Z) : az_ok X 1719 (LC_23 L xs Z) := by
  have h1784 := az_goto (tgt := 2044) C dL_law_1784 (by decide) hZ
  have h1784 := az_goto (tgt := 2044) C dL_law_1784 (by decide) hZ
  have h1779 := az_if_eq (tgt := 1784) C dL_law_1779 (by decide) h1784 az_sF
  have h1778 := az_lcmp C dL_law_1778 h1779
  have h1777 := az_i2l C dL_law_1777 h1778
  have h1775 := az_iload C dL_law_1775 h1777
  have h1774 := az_lald C dL_law_1774 h1775
  have h1773 := az_iconst (x := (nI 0)) C dL_law_1773 (by decide +kernel) h1774
  have h1772 := az_aload_n C 3 rfl dL_law_1772 h1773
  have h1769 := az_if_ne (tgt := 1784) C dL_law_1769 (by decide) h1784 h1772
  have h1767 := az_iload C dL_law_1767 h1769
  have h1762 := az_icmp_eq (tgt := 1767) C dL_law_1762 (by decide) h1767 az_sF
  have h1760 := az_iload C dL_law_1760 h1762
  have h1757 := az_callV (ci := 13) C okX12_thrown knX12_thrown imX12_thrown seX12_thrown mLRL_121 rfl (by decide) ⟨rfl, rfl, by decide +kernel, by decide +kernel⟩ dL_law_1757 h1760
  have h1756 := az_aload_n C 2 rfl dL_law_1756 h1757
  have h1754 := az_istore C (by decide) dL_law_1754 h1756
  have h1751 := az_callV (ci := 13) C okX12_violation knX12_violation imX12_violation seX12_violation mLRL_199 rfl (by decide) ⟨rfl, rfl, by decide +kernel, by decide +kernel⟩ dL_law_1751 h1754
  have h1745 := az_ar (j := 2) C LX dL_law_1745 dL_law_1746 dL_law_1748 (by decide +kernel) dL_law_1749 dL_law_1750 h1751
  have h1739 := az_ar (j := 1) C LX dL_law_1739 dL_law_1740 dL_law_1742 (by decide +kernel) dL_law_1743 dL_law_1744 h1745
  have h1738 := az_aload_n C 2 rfl dL_law_1738 h1739
  have h1736 := az_istore C (by decide) dL_law_1736 h1738
  have h1733 := az_callW6 (n := 4) (cm := 603072) (sm := 7186538) C LX (by decide +kernel) (by decide +kernel) okL_violation ⟨cwL_violation, iniRL, stL_violation, mLRL_197⟩ ⟨by decide +kernel, by decide +kernel, by decide +kernel⟩ (by decide +kernel) ⟨rfl, rfl, by decide +kernel, by decide +kernel⟩ dL_law_1733 h1736
  have h1732 := az_aload_n C 3 rfl dL_law_1732 h1733
  have h1726 := az_ar (j := 2) C LX dL_law_1726 dL_law_1727 dL_law_1729 (by decide +kernel) dL_law_1730 dL_law_1731 h1732
  have h1720 := az_ar (j := 1) C LX dL_law_1720 dL_law_1721 dL_law_1723 (by decide +kernel) dL_law_1724 dL_law_1725 h1726
  have h1719 := az_aload_n C 1 rfl dL_law_1719 h1720
  exact h1719
def LC_24 (L : Nat) (xs : Nat → Int32) (Z : az_T) : az_T := (s_la 1 (s_la 4 (s_cw6 603072 7186538 2 FL_meanCost (s_si 6 (s_la 2 (s_cv 0 13 FX12_meanCost (s_mean Z)))))))
theorem okLC_24 {X : az_X} {Q : Option Value → az_M → Prop} {L : Nat} {xs : Nat → Int32} (C : az_C X cL_law 9 RL lw_tbl room_1 ret Q) (LX : az_LX X L xs) {Z : az_T} (hZ : az_ok X 2044 Z) : az_ok X 1787 (LC_24 L xs Z) := by
  have h1799 := az_mean C hZ
  have h1796 := az_callV (ci := 13) C okX12_meanCost knX12_meanCost imX12_meanCost seX12_meanCost mLRL_203 rfl (by decide) ⟨rfl, rfl, by decide +kernel, by decide +kernel⟩ dL_law_1796 h1799
  have h1795 := az_aload_n C 2 rfl dL_law_1795 h1796
  have h1793 := az_istore C (by decide) dL_law_1793 h1795
  have h1790 := az_callW6 (n := 2) (cm := 603072) (sm := 7186538) C LX (by decide +kernel) (by decide +kernel) okL_meanCost ⟨cwL_meanCost, iniRL, stL_meanCost, mLRL_200⟩ ⟨by decide +kernel, by decide +kernel, by decide +kernel⟩ (by decide +kernel) ⟨rfl, rfl, by decide +kernel, by decide +kernel⟩ dL_law_1790 h1793
  have h1788 := az_aload C dL_law_1788 h1790
  have h1787 := az_aload_n C 1 rfl dL_law_1787 h1788
  exact h1787
def LC_25 (L : Nat) (xs : Nat → Int32) (Z : az_T) : az_T := (s_la 1 (s_ar L xs 1 (s_la 4 (s_cw6 603072 7186538 3 FL_load (s_si 6 (s_la 2 (s_ar L xs 1 (s_cv 1 13 FX12_load (lt_tailF Z)))))))))
theorem okLC_25 {X : az_X} {Q : Option Value → az_M → Prop} {L : Nat} {xs : Nat → Int32} (C : az_C X cL_law 9 RL lw_tbl room_1 ret Q) (LX : az_LX X L xs) {Z : az_T} (hZ : az_ok X 2044 Z) : az_ok X 1852 (LC_25 L xs Z) := by
  have h1927 := az_goto (tgt := 2044) C dL_law_1927 (by decide) hZ
  have h1927 := az_goto (tgt := 2044) C dL_law_1927 (by decide) hZ
  have h1902 := az_if_eq (tgt := 1927) C dL_law_1902 (by decide) h1927 az_sF
  have h1901 := az_dcmp C dL_law_1901 h1902
  have h1900 := az_f2d C dL_law_1900 h1901
  have h1898 := az_fload C dL_law_1898 h1900
  have h1897 := az_dald C dL_law_1897 h1898
  have h1896 := az_iconst (x := (nI 0)) C dL_law_1896 (by decide +kernel) h1897
  have h1894 := az_aload C dL_law_1894 h1896
  have h1891 := az_if_ne (tgt := 1927) C dL_law_1891 (by decide) h1927 h1894
  have h1889 := az_iload C dL_law_1889 h1891
  have h1884 := az_icmp_eq (tgt := 1889) C dL_law_1884 (by decide) h1889 az_sF
  have h1882 := az_iload C dL_law_1882 h1884
  have h1879 := az_callV (ci := 13) C okX12_thrown knX12_thrown imX12_thrown seX12_thrown mLRL_121 rfl (by decide) ⟨rfl, rfl, by decide +kernel, by decide +kernel⟩ dL_law_1879 h1882
  have h1878 := az_aload_n C 2 rfl dL_law_1878 h1879
  have h1876 := az_fstore C (by decide) dL_law_1876 h1878
  have h1873 := az_callV (ci := 13) C okX12_load knX12_load imX12_load seX12_load mLRL_207 rfl (by decide) ⟨rfl, rfl, by decide +kernel, by decide +kernel⟩ dL_law_1873 h1876
  have h1867 := az_ar (j := 1) C LX dL_law_1867 dL_law_1868 dL_law_1870 (by decide +kernel) dL_law_1871 dL_law_1872 h1873
  have h1866 := az_aload_n C 2 rfl dL_law_1866 h1867
  have h1864 := az_istore C (by decide) dL_law_1864 h1866
  have h1861 := az_callW6 (n := 3) (cm := 603072) (sm := 7186538) C LX (by decide +kernel) (by decide +kernel) okL_load ⟨cwL_load, iniRL, stL_load, mLRL_204⟩ ⟨by decide +kernel, by decide +kernel, by decide +kernel⟩ (by decide +kernel) ⟨rfl, rfl, by decide +kernel, by decide +kernel⟩ dL_law_1861 h1864
  have h1859 := az_aload C dL_law_1859 h1861
  have h1853 := az_ar (j := 1) C LX dL_law_1853 dL_law_1854 dL_law_1856 (by decide +kernel) dL_law_1857 dL_law_1858 h1859
  have h1852 := az_aload_n C 1 rfl dL_law_1852 h1853
  exact h1852
def LC_26 (L : Nat) (xs : Nat → Int32) (Z : az_T) : az_T := (s_la 1 (s_cv 0 12 FX11_isConsistent (s_la 2 (s_cv 0 13 FX12_isConsistent (s_if2 d_eq Z sF)))))
theorem okLC_26 {X : az_X} {Q : Option Value → az_M → Prop} {L : Nat} {xs : Nat → Int32} (C : az_C X cL_law 9 RL lw_tbl room_1 ret Q) (LX : az_LX X L xs) {Z : az_T} (hZ : az_ok X 2044 Z) : az_ok X 1930 (LC_26 L xs Z) := by
  have h1938 := az_icmp_eq (tgt := 2044) C dL_law_1938 (by decide) hZ az_sF
  have h1935 := az_callV (ci := 13) C okX12_isConsistent knX12_isConsistent imX12_isConsistent seX12_isConsistent mLRL_212 rfl (by decide) ⟨rfl, rfl, by decide +kernel, by decide +kernel⟩ dL_law_1935 h1938
  have h1934 := az_aload_n C 2 rfl dL_law_1934 h1935
  have h1931 := az_callV (ci := 12) C okX11_isConsistent knX11_isConsistent imX11_isConsistent seX11_isConsistent mLRL_208 rfl (by decide) ⟨rfl, rfl, by decide +kernel, by decide +kernel⟩ dL_law_1931 h1934
  have h1930 := az_aload_n C 1 rfl dL_law_1930 h1931
  exact h1930
def LC_27 (L : Nat) (xs : Nat → Int32) (Z : az_T) : az_T := (s_la 1 (s_la 3 (s_cw6 603072 7186538 2 FL_undo (s_si 6 (s_la 2 (s_cv 0 13 FX12_undo (lt_tail Z)))))))
theorem okLC_27 {X : az_X} {Q : Option Value → az_M → Prop} {L : Nat} {xs : Nat → Int32} (C : az_C X cL_law 9 RL lw_tbl room_1 ret Q) (LX : az_LX X L xs) {Z : az_T} (hZ : az_ok X 2044 Z) : az_ok X 1943 (LC_27 L xs Z) := by
  have h1984 := az_goto (tgt := 2044) C dL_law_1984 (by decide) hZ
  have h1984 := az_goto (tgt := 2044) C dL_law_1984 (by decide) hZ
  have h1979 := az_if_eq (tgt := 1984) C dL_law_1979 (by decide) h1984 az_sF
  have h1978 := az_lcmp C dL_law_1978 h1979
  have h1977 := az_i2l C dL_law_1977 h1978
  have h1975 := az_iload C dL_law_1975 h1977
  have h1974 := az_lald C dL_law_1974 h1975
  have h1973 := az_iconst (x := (nI 0)) C dL_law_1973 (by decide +kernel) h1974
  have h1972 := az_aload_n C 3 rfl dL_law_1972 h1973
  have h1969 := az_if_ne (tgt := 1984) C dL_law_1969 (by decide) h1984 h1972
  have h1967 := az_iload C dL_law_1967 h1969
  have h1962 := az_icmp_eq (tgt := 1967) C dL_law_1962 (by decide) h1967 az_sF
  have h1960 := az_iload C dL_law_1960 h1962
  have h1957 := az_callV (ci := 13) C okX12_thrown knX12_thrown imX12_thrown seX12_thrown mLRL_121 rfl (by decide) ⟨rfl, rfl, by decide +kernel, by decide +kernel⟩ dL_law_1957 h1960
  have h1956 := az_aload_n C 2 rfl dL_law_1956 h1957
  have h1954 := az_istore C (by decide) dL_law_1954 h1956
  have h1951 := az_callV (ci := 13) C okX12_undo knX12_undo imX12_undo seX12_undo mLRL_215 rfl (by decide) ⟨rfl, rfl, by decide +kernel, by decide +kernel⟩ dL_law_1951 h1954
  have h1950 := az_aload_n C 2 rfl dL_law_1950 h1951
  have h1948 := az_istore C (by decide) dL_law_1948 h1950
  have h1945 := az_callW6 (n := 2) (cm := 603072) (sm := 7186538) C LX (by decide +kernel) (by decide +kernel) okL_undo ⟨cwL_undo, iniRL, stL_undo, mLRL_213⟩ ⟨by decide +kernel, by decide +kernel, by decide +kernel⟩ (by decide +kernel) ⟨rfl, rfl, by decide +kernel, by decide +kernel⟩ dL_law_1945 h1948
  have h1944 := az_aload_n C 3 rfl dL_law_1944 h1945
  have h1943 := az_aload_n C 1 rfl dL_law_1943 h1944
  exact h1943
def LC_28 (L : Nat) (xs : Nat → Int32) (Z : az_T) : az_T := (s_la 1 (s_cv 0 12 FX11_snapshot (s_la 2 (s_cv 0 13 FX12_snapshot (s_if2 d_eq Z sF)))))
theorem okLC_28 {X : az_X} {Q : Option Value → az_M → Prop} {L : Nat} {xs : Nat → Int32} (C : az_C X cL_law 9 RL lw_tbl room_1 ret Q) (LX : az_LX X L xs) {Z : az_T} (hZ : az_ok X 2044 Z) : az_ok X 1987 (LC_28 L xs Z) := by
  have h1995 := az_icmp_eq (tgt := 2044) C dL_law_1995 (by decide) hZ az_sF
  have h1992 := az_callV (ci := 13) C okX12_snapshot knX12_snapshot imX12_snapshot seX12_snapshot mLRL_219 rfl (by decide) ⟨rfl, rfl, by decide +kernel, by decide +kernel⟩ dL_law_1992 h1995
  have h1991 := az_aload_n C 2 rfl dL_law_1991 h1992
  have h1988 := az_callV (ci := 12) C okX11_snapshot knX11_snapshot imX11_snapshot seX11_snapshot mLRL_216 rfl (by decide) ⟨rfl, rfl, by decide +kernel, by decide +kernel⟩ dL_law_1988 h1991
  have h1987 := az_aload_n C 1 rfl dL_law_1987 h1988
  exact h1987
def LC_29 (L : Nat) (xs : Nat → Int32) (Z : az_T) : az_T := (s_la 1 (s_la 3 (s_cw6 603072 7186538 2 FL_restore (s_si 6 (s_la 2 (s_cv 0 13 FX12_restore (lt_tail Z)))))))
theorem okLC_29 {X : az_X} {Q : Option Value → az_M → Prop} {L : Nat} {xs : Nat → Int32} (C : az_C X cL_law 9 RL lw_tbl room_1 ret Q) (LX : az_LX X L xs) {Z : az_T} (hZ : az_ok X 2044 Z) : az_ok X 2000 (LC_29 L xs Z) := by
  have h2041 := az_goto (tgt := 2044) C dL_law_2041 (by decide) hZ
  have h2041 := az_goto (tgt := 2044) C dL_law_2041 (by decide) hZ
  have h2036 := az_if_eq (tgt := 2041) C dL_law_2036 (by decide) h2041 az_sF
  have h2035 := az_lcmp C dL_law_2035 h2036
  have h2034 := az_i2l C dL_law_2034 h2035
  have h2032 := az_iload C dL_law_2032 h2034
  have h2031 := az_lald C dL_law_2031 h2032
  have h2030 := az_iconst (x := (nI 0)) C dL_law_2030 (by decide +kernel) h2031
  have h2029 := az_aload_n C 3 rfl dL_law_2029 h2030
  have h2026 := az_if_ne (tgt := 2041) C dL_law_2026 (by decide) h2041 h2029
  have h2024 := az_iload C dL_law_2024 h2026
  have h2019 := az_icmp_eq (tgt := 2024) C dL_law_2019 (by decide) h2024 az_sF
  have h2017 := az_iload C dL_law_2017 h2019
  have h2014 := az_callV (ci := 13) C okX12_thrown knX12_thrown imX12_thrown seX12_thrown mLRL_121 rfl (by decide) ⟨rfl, rfl, by decide +kernel, by decide +kernel⟩ dL_law_2014 h2017
  have h2013 := az_aload_n C 2 rfl dL_law_2013 h2014
  have h2011 := az_istore C (by decide) dL_law_2011 h2013
  have h2008 := az_callV (ci := 13) C okX12_restore knX12_restore imX12_restore seX12_restore mLRL_222 rfl (by decide) ⟨rfl, rfl, by decide +kernel, by decide +kernel⟩ dL_law_2008 h2011
  have h2007 := az_aload_n C 2 rfl dL_law_2007 h2008
  have h2005 := az_istore C (by decide) dL_law_2005 h2007
  have h2002 := az_callW6 (n := 2) (cm := 603072) (sm := 7186538) C LX (by decide +kernel) (by decide +kernel) okL_restore ⟨cwL_restore, iniRL, stL_restore, mLRL_220⟩ ⟨by decide +kernel, by decide +kernel, by decide +kernel⟩ (by decide +kernel) ⟨rfl, rfl, by decide +kernel, by decide +kernel⟩ dL_law_2002 h2005
  have h2001 := az_aload_n C 3 rfl dL_law_2001 h2002
  have h2000 := az_aload_n C 1 rfl dL_law_2000 h2001
  exact h2000
def lw_mk : List Bool := [true, true, true, true, true, true, false, false, false]
def BL_28 (L : Nat) (xs : Nat → Int32) (Q : Option Value → az_M → Prop) (Z : az_T) : az_T := (s_li 5 (s_la 0 (s_sln L (s_ic (nI 6) (s_bin f_sub (s_if2 d_gt (s_ic (nI 1) (s_rz Q)) (s_la 0 (s_li 5 (s_sx L xs (s_ic (nI 31) (s_bin f_and (s_sw 0 [(LC_0 L xs (s_inc 5 (nI 6) (s_kp lw_mk Z))), (LC_1 L xs (s_inc 5 (nI 6) (s_kp lw_mk Z))), (LC_2 L xs (s_inc 5 (nI 6) (s_kp lw_mk Z))), (LC_3 L xs (s_inc 5 (nI 6) (s_kp lw_mk Z))), (LC_4 L xs (s_inc 5 (nI 6) (s_kp lw_mk Z))), (LC_5 L xs (s_inc 5 (nI 6) (s_kp lw_mk Z))), (LC_6 L xs (s_inc 5 (nI 6) (s_kp lw_mk Z))), (LC_7 L xs (s_inc 5 (nI 6) (s_kp lw_mk Z))), (LC_8 L xs (s_inc 5 (nI 6) (s_kp lw_mk Z))), (LC_9 L xs (s_inc 5 (nI 6) (s_kp lw_mk Z))), (LC_10 L xs (s_inc 5 (nI 6) (s_kp lw_mk Z))), (LC_11 L xs (s_inc 5 (nI 6) (s_kp lw_mk Z))), (LC_12 L xs (s_inc 5 (nI 6) (s_kp lw_mk Z))), (LC_13 L xs (s_inc 5 (nI 6) (s_kp lw_mk Z))), (LC_14 L xs (s_inc 5 (nI 6) (s_kp lw_mk Z))), (LC_15 L xs (s_inc 5 (nI 6) (s_kp lw_mk Z))), (LC_16 L xs (s_inc 5 (nI 6) (s_kp lw_mk Z))), (LC_17 L xs (s_inc 5 (nI 6) (s_kp lw_mk Z))), (LC_18 L xs (s_inc 5 (nI 6) (s_kp lw_mk Z))), (LC_19 L xs (s_inc 5 (nI 6) (s_kp lw_mk Z))), (LC_20 L xs (s_inc 5 (nI 6) (s_kp lw_mk Z))), (LC_21 L xs (s_inc 5 (nI 6) (s_kp lw_mk Z))), (LC_22 L xs (s_inc 5 (nI 6) (s_kp lw_mk Z))), (LC_23 L xs (s_inc 5 (nI 6) (s_kp lw_mk Z))), (LC_24 L xs (s_inc 5 (nI 6) (s_kp lw_mk Z))), (LC_25 L xs (s_inc 5 (nI 6) (s_kp lw_mk Z))), (LC_26 L xs (s_inc 5 (nI 6) (s_kp lw_mk Z))), (LC_27 L xs (s_inc 5 (nI 6) (s_kp lw_mk Z))), (LC_28 L xs (s_inc 5 (nI 6) (s_kp lw_mk Z))), (LC_29 L xs (s_inc 5 (nI 6) (s_kp lw_mk Z)))] (s_inc 5 (nI 6) (s_kp lw_mk Z))))))))))))))
theorem okBL_28 {X : az_X} {Q : Option Value → az_M → Prop} {L : Nat} {xs : Nat → Int32} (C : az_C X cL_law 9 RL lw_tbl room_1 ret Q) (LX : az_LX X L xs) {Z : az_T} (hZ : az_ok X 28 Z) : az_ok X 28 (BL_28 L xs Q Z) := by
  have hk := az_keep lw_mk hZ
  have h2047 := az_goto (tgt := 28) C dL_law_2047 (by decide) hk
  have hZ2 := az_iinc (v := nI 6) C (by decide) (by decide +kernel) dL_law_2044 h2047
  have h45 := az_tsw (td := 2044) (tgts := [180, 248, 328, 396, 476, 580, 660, 728, 836, 916, 972, 1028, 1096, 1109, 1153, 1211, 1255, 1299, 1379, 1459, 1539, 1607, 1663, 1719, 1787, 1852, 1930, 1943, 1987, 2000]) (lo := 0) C dL_law_45 (by decide) (by decide +kernel) (by decide) hZ2 (az_all_cons (okLC_0 C LX hZ2) (az_all_cons (okLC_1 C LX hZ2) (az_all_cons (okLC_2 C LX hZ2) (az_all_cons (okLC_3 C LX hZ2) (az_all_cons (okLC_4 C LX hZ2) (az_all_cons (okLC_5 C LX hZ2) (az_all_cons (okLC_6 C LX hZ2) (az_all_cons (okLC_7 C LX hZ2) (az_all_cons (okLC_8 C LX hZ2) (az_all_cons (okLC_9 C LX hZ2) (az_all_cons (okLC_10 C LX hZ2) (az_all_cons (okLC_11 C LX hZ2) (az_all_cons (okLC_12 C LX hZ2) (az_all_cons (okLC_13 C LX hZ2) (az_all_cons (okLC_14 C LX hZ2) (az_all_cons (okLC_15 C LX hZ2) (az_all_cons (okLC_16 C LX hZ2) (az_all_cons (okLC_17 C LX hZ2) (az_all_cons (okLC_18 C LX hZ2) (az_all_cons (okLC_19 C LX hZ2) (az_all_cons (okLC_20 C LX hZ2) (az_all_cons (okLC_21 C LX hZ2) (az_all_cons (okLC_22 C LX hZ2) (az_all_cons (okLC_23 C LX hZ2) (az_all_cons (okLC_24 C LX hZ2) (az_all_cons (okLC_25 C LX hZ2) (az_all_cons (okLC_26 C LX hZ2) (az_all_cons (okLC_27 C LX hZ2) (az_all_cons (okLC_28 C LX hZ2) (az_all_cons (okLC_29 C LX hZ2) az_all_nil))))))))))))))))))))))))))))))
  have h2051 := az_zreturn C rfl dL_law_2051
  have h2050 := az_iconst (x := (nI 1)) C dL_law_2050 (by decide +kernel) h2051
  have h44 := az_iand C dL_law_44 h45
  have h42 := az_bipush (x := (nI 31)) C dL_law_42 (by decide +kernel) h44
  have h41 := az_sx C LX dL_law_41 h42
  have h39 := az_iload C dL_law_39 h41
  have h38 := az_aload_n C 0 rfl dL_law_38 h39
  have h35 := az_icmp_gt (tgt := 2050) C dL_law_35 (by decide) h2050 h38
  have h34 := az_isub C dL_law_34 h35
  have h32 := az_bipush (x := (nI 6)) C dL_law_32 (by decide +kernel) h34
  have h31 := az_sln C LX dL_law_31 h32
  have h30 := az_aload_n C 0 rfl dL_law_30 h31
  have h28 := az_iload C dL_law_28 h30
  exact h28
def LL_28 (L : Nat) (xs : Nat → Int32) (Q : Option Value → az_M → Prop) : az_T := s_lp (fun Z => BL_28 L xs Q Z)
theorem okLL_28 {X : az_X} {Q : Option Value → az_M → Prop} {L : Nat} {xs : Nat → Int32} (C : az_C X cL_law 9 RL lw_tbl room_1 ret Q) (LX : az_LX X L xs) : az_ok X 28 (LL_28 L xs Q) := az_loop (F := fun Z => BL_28 L xs Q Z) (fun _ hZ => okBL_28 C LX hZ)
def PL_law (L : Nat) (xs : Nat → Int32) (Q : Option Value → az_M → Prop) : az_T := (s_new 0 603072 7186538 12 10 (s_dup (s_ci 0 603072 7186538 353 5696 0 12 FX11_init (s_sa 1 (s_new 0 603072 7186538 13 33 (s_dup (s_ci 0 603072 7186538 23 6248 0 13 FX12_init (s_sa 2 (s_ic (nI 1) (s_nar 0 603072 7186538 23 (s_sa 3 (s_ic (nI 1) (s_nar 0 603072 7186538 24 (s_sa 4 (s_ic (nI 0) (s_si 5 (s_kp lw_mk (LL_28 L xs Q))))))))))))))))))
theorem okPL_law {X : az_X} {Q : Option Value → az_M → Prop} {L : Nat} {xs : Nat → Int32} (C : az_C X cL_law 9 RL lw_tbl room_1 ret Q) (LX : az_LX X L xs) (G : az_G X 0) (O : az_O X) : az_ok X 0 (PL_law L xs Q) := by
  have h26 := az_istore C (by decide) dL_law_26 (az_keep lw_mk (okLL_28 C LX))
  have h25 := az_iconst (x := (nI 0)) C dL_law_25 (by decide +kernel) h26
  have h23 := az_astore C (by decide) dL_law_23 h25
  have h21 := az_nar (n0 := 0) (cm := 603072) (sm := 7186538) (kd := 24) (atype := .double) (ty := .double) C G (by decide +kernel) (by decide +kernel) rfl (by decide) (fun _ => rfl) (fun _ _ h => h) (by decide) az_zD acl_double dL_law_21 h23
  have h20 := az_iconst (x := (nI 1)) C dL_law_20 (by decide +kernel) h21
  have h19 := az_astore_n C 3 rfl (by decide) dL_law_19 h20
  have h17 := az_nar (n0 := 0) (cm := 603072) (sm := 7186538) (kd := 23) (atype := .long) (ty := .long) C G (by decide +kernel) (by decide +kernel) rfl (by decide) (fun _ => rfl) (fun _ _ h => h) (by decide) az_zL acl_long dL_law_17 h19
  have h16 := az_iconst (x := (nI 1)) C dL_law_16 (by decide +kernel) h17
  have h15 := az_astore_n C 2 rfl (by decide) dL_law_15 h16
  have h12 := az_callI (n0 := 0) (cm := 603072) (sm := 7186538) (ci := 13) C G (by decide +kernel) (by decide +kernel) O okX12_init knX12_init rfl imX12_init mLRL_114 ⟨by decide +kernel, by decide +kernel⟩ dL_law_12 h15
  have h11 := az_dup C dL_law_11 h12
  have h8 := az_new (n0 := 0) (cm := 603072) (sm := 7186538) (T := TX12) (N := 33) (ci := 13) C G (by decide +kernel) (by decide +kernel) gwRX12 rfl (by decide) tyX12 tyX12_ok (by decide +kernel) ckRL_112 cinRX12 ciniRX12 dL_law_8 h11
  have h7 := az_astore_n C 1 rfl (by decide) dL_law_7 h8
  have h4 := az_callI (n0 := 0) (cm := 603072) (sm := 7186538) (ci := 12) C G (by decide +kernel) (by decide +kernel) O okX11_init knX11_init rfl imX11_init mLRL_111 ⟨by decide +kernel, by decide +kernel⟩ dL_law_4 h7
  have h3 := az_dup C dL_law_3 h4
  have h0 := az_new (n0 := 0) (cm := 603072) (sm := 7186538) (T := TX11) (N := 10) (ci := 12) C G (by decide +kernel) (by decide +kernel) gwRX11 rfl (by decide) tyX11 tyX11_ok (by decide +kernel) ckRL_8 cinRX11 ciniRX11 dL_law_0 h3
  exact h0
