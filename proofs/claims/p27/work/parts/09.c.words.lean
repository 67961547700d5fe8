/-! the words of the tables, by their places -/
theorem m_341 : Cond.selects RX3 yX3_isSigned yX3_isSigned ∈ big := big_i 341 (by decide +kernel) rfl
theorem m_342 : Cond.code yX3_isSigned cX3_isSigned 3 (some .boolean) ∈ big := big_i 342 (by decide +kernel) rfl
theorem m_343 : Cond.methodLink RL 127 yL_likely ∈ big := big_i 343 (by decide +kernel) rfl
theorem m_344 : Cond.static yL_likely ∈ big := big_i 344 (by decide +kernel) rfl
theorem m_345 : Cond.codeWith yL_likely cL_likely 4 (some .int) [(0, 6, 7, 16)] ∈ big := big_i 345 (by decide +kernel) rfl
theorem m_346 : Cond.methodLink RL 83 yX3_likely ∈ big := big_i 346 (by decide +kernel) rfl
theorem m_347 : Cond.instanceMethod yX3_likely ∈ big := big_i 347 (by decide +kernel) rfl
theorem m_348 : Cond.selects RX3 yX3_likely yX3_likely ∈ big := big_i 348 (by decide +kernel) rfl
theorem m_349 : Cond.code yX3_likely cX3_likely 4 (some .int) ∈ big := big_i 349 (by decide +kernel) rfl
theorem m_350 : Cond.methodLink RX3 141 yX3_canBeSettled ∈ big := big_i 350 (by decide +kernel) rfl
theorem m_352 : Cond.instanceMethod yX3_canBeSettled ∈ big := big_i 352 (by decide +kernel) rfl
theorem m_353 : Cond.code yX3_canBeSettled cX3_canBeSettled 5 (some .boolean) ∈ big := big_i 353 (by decide +kernel) rfl
theorem m_354 : Cond.methodLink RX3 123 yX3_isSignable ∈ big := big_i 354 (by decide +kernel) rfl
theorem m_356 : Cond.instanceMethod yX3_isSignable ∈ big := big_i 356 (by decide +kernel) rfl
theorem m_357 : Cond.code yX3_isSignable cX3_isSignable 4 (some .boolean) ∈ big := big_i 357 (by decide +kernel) rfl
theorem n_358 : Cond.methodLinkNest RX3 101 yX0_agrees "CountSheets" ∈ lw_tbl := List.mem_of_getElem? (i := 358) (by decide +kernel)
theorem m_360 : Cond.instanceMethod yX0_agrees ∈ big := big_i 360 (by decide +kernel) rfl
theorem m_361 : Cond.code yX0_agrees cX0_agrees 2 (some .boolean) ∈ big := big_i 361 (by decide +kernel) rfl
theorem m_362 : Cond.methodLink RX3 128 yX3_gapOf ∈ big := big_i 362 (by decide +kernel) rfl
theorem m_364 : Cond.instanceMethod yX3_gapOf ∈ big := big_i 364 (by decide +kernel) rfl
theorem m_365 : Cond.code yX3_gapOf cX3_gapOf 4 (some .int) ∈ big := big_i 365 (by decide +kernel) rfl
theorem m_366 : Cond.methodLink RL 129 yL_gap ∈ big := big_i 366 (by decide +kernel) rfl
theorem m_367 : Cond.static yL_gap ∈ big := big_i 367 (by decide +kernel) rfl
theorem m_368 : Cond.codeWith yL_gap cL_gap 4 (some .int) [(0, 6, 7, 16), (0, 6, 11, 50)] ∈ big := big_i 368 (by decide +kernel) rfl
theorem m_369 : Cond.classLink RL 50 "java/util/NoSuchElementException" ∈ big := big_i 369 (by decide +kernel) rfl
theorem m_370 : Cond.methodLink RL 76 yX3_gap ∈ big := big_i 370 (by decide +kernel) rfl
theorem m_371 : Cond.instanceMethod yX3_gap ∈ big := big_i 371 (by decide +kernel) rfl
theorem m_372 : Cond.selects RX3 yX3_gap yX3_gap ∈ big := big_i 372 (by decide +kernel) rfl
theorem m_373 : Cond.code yX3_gap cX3_gap 3 (some .int) ∈ big := big_i 373 (by decide +kernel) rfl
theorem m_374 : Cond.methodLink RX3 120 yX3_checkAgrees ∈ big := big_i 374 (by decide +kernel) rfl
theorem m_376 : Cond.instanceMethod yX3_checkAgrees ∈ big := big_i 376 (by decide +kernel) rfl
theorem m_377 : Cond.code yX3_checkAgrees cX3_checkAgrees 3 none ∈ big := big_i 377 (by decide +kernel) rfl
theorem m_378 : Cond.classLink RX3 183 "java/util/NoSuchElementException" ∈ big := big_i 378 (by decide +kernel) rfl
theorem m_379 : Cond.instantiable "java/util/NoSuchElementException" 6 ∈ big := big_i 379 (by decide +kernel) rfl
theorem n_380 : Cond.castable "java/util/NoSuchElementException" "java/util/NoSuchElementException" ∈ lw_tbl := List.mem_of_getElem? (i := 380) (by decide +kernel)
theorem n_387 : Cond.stringRef RX3 185 "the counts do not agree, or there are none" ∈ lw_tbl := List.mem_of_getElem? (i := 387) (by decide +kernel)
theorem m_394 : Cond.constant RL 21 (-1000002) ∈ big := big_i 394 (by decide +kernel) rfl
theorem m_395 : Cond.methodLink RL 131 yL_sign ∈ big := big_i 395 (by decide +kernel) rfl
theorem m_396 : Cond.static yL_sign ∈ big := big_i 396 (by decide +kernel) rfl
theorem m_397 : Cond.codeWith yL_sign cL_sign 5 (some .int) [(0, 7, 8, 16), (0, 7, 13, 50), (0, 7, 18, 29)] ∈ big := big_i 397 (by decide +kernel) rfl
theorem m_398 : Cond.classLink RL 29 "java/lang/IllegalStateException" ∈ big := big_i 398 (by decide +kernel) rfl
theorem m_399 : Cond.methodLink RL 46 yX3_sign ∈ big := big_i 399 (by decide +kernel) rfl
theorem m_400 : Cond.instanceMethod yX3_sign ∈ big := big_i 400 (by decide +kernel) rfl
theorem m_401 : Cond.selects RX3 yX3_sign yX3_sign ∈ big := big_i 401 (by decide +kernel) rfl
theorem m_402 : Cond.code yX3_sign cX3_sign 5 (some .int) ∈ big := big_i 402 (by decide +kernel) rfl
theorem m_403 : Cond.classLink RX3 70 "java/lang/IllegalStateException" ∈ big := big_i 403 (by decide +kernel) rfl
theorem m_404 : Cond.instantiable "java/lang/IllegalStateException" 6 ∈ big := big_i 404 (by decide +kernel) rfl
theorem n_405 : Cond.castable "java/lang/IllegalStateException" "java/lang/IllegalStateException" ∈ lw_tbl := List.mem_of_getElem? (i := 405) (by decide +kernel)
theorem n_412 : Cond.stringRef RX3 126 "the sheet is not CLOSED, or the article is signed on it" ∈ lw_tbl := List.mem_of_getElem? (i := 412) (by decide +kernel)
theorem m_419 : Cond.methodLink RX3 131 yJ9_abs_0f7a4 ∈ big := big_i 419 (by decide +kernel) rfl
theorem m_420 : Cond.static yJ9_abs_0f7a4 ∈ big := big_i 420 (by decide +kernel) rfl
theorem m_421 : Cond.code yJ9_abs_0f7a4 cJ9_abs_0f7a4 1 (some .int) ∈ big := big_i 421 (by decide +kernel) rfl
theorem n_422 : Cond.stringRef RX3 136 "the person's bound is too low" ∈ lw_tbl := List.mem_of_getElem? (i := 422) (by decide +kernel)
theorem n_423 : Cond.methodLinkNest RX3 138 yX0_write "CountSheets" ∈ lw_tbl := List.mem_of_getElem? (i := 423) (by decide +kernel)
theorem m_425 : Cond.instanceMethod yX0_write ∈ big := big_i 425 (by decide +kernel) rfl
theorem m_426 : Cond.code yX0_write cX0_write 3 none ∈ big := big_i 426 (by decide +kernel) rfl
theorem m_427 : Cond.constant RL 31 (-1000003) ∈ big := big_i 427 (by decide +kernel) rfl
theorem m_428 : Cond.methodLink RL 105 yL_cutOf ∈ big := big_i 428 (by decide +kernel) rfl
theorem m_429 : Cond.static yL_cutOf ∈ big := big_i 429 (by decide +kernel) rfl
theorem m_430 : Cond.codeWith yL_cutOf cL_cutOf 3 (some .int) [(0, 5, 6, 16)] ∈ big := big_i 430 (by decide +kernel) rfl
theorem m_431 : Cond.methodLink RL 67 yX3_cutOf ∈ big := big_i 431 (by decide +kernel) rfl
theorem m_432 : Cond.instanceMethod yX3_cutOf ∈ big := big_i 432 (by decide +kernel) rfl
theorem m_433 : Cond.selects RX3 yX3_cutOf yX3_cutOf ∈ big := big_i 433 (by decide +kernel) rfl
theorem m_434 : Cond.code yX3_cutOf cX3_cutOf 2 (some .int) ∈ big := big_i 434 (by decide +kernel) rfl
theorem m_435 : Cond.methodLink RL 102 yL_bookAt ∈ big := big_i 435 (by decide +kernel) rfl
theorem m_436 : Cond.static yL_bookAt ∈ big := big_i 436 (by decide +kernel) rfl
theorem m_437 : Cond.codeWith yL_bookAt cL_bookAt 5 (some .int) [(0, 7, 8, 16), (0, 7, 13, 19)] ∈ big := big_i 437 (by decide +kernel) rfl
theorem m_438 : Cond.classLink RL 19 "java/lang/IllegalArgumentException" ∈ big := big_i 438 (by decide +kernel) rfl
theorem m_439 : Cond.methodLink RL 58 yX3_bookAt ∈ big := big_i 439 (by decide +kernel) rfl
theorem m_440 : Cond.instanceMethod yX3_bookAt ∈ big := big_i 440 (by decide +kernel) rfl
theorem m_441 : Cond.selects RX3 yX3_bookAt yX3_bookAt ∈ big := big_i 441 (by decide +kernel) rfl
theorem m_442 : Cond.code yX3_bookAt cX3_bookAt 4 (some .int) ∈ big := big_i 442 (by decide +kernel) rfl
theorem m_443 : Cond.methodLink RX3 51 yX3_checkRange ∈ big := big_i 443 (by decide +kernel) rfl
theorem m_444 : Cond.static yX3_checkRange ∈ big := big_i 444 (by decide +kernel) rfl
theorem m_445 : Cond.code yX3_checkRange cX3_checkRange 3 none ∈ big := big_i 445 (by decide +kernel) rfl
theorem m_446 : Cond.classLink RX3 60 "java/lang/IllegalArgumentException" ∈ big := big_i 446 (by decide +kernel) rfl
theorem m_447 : Cond.instantiable "java/lang/IllegalArgumentException" 6 ∈ big := big_i 447 (by decide +kernel) rfl
theorem n_448 : Cond.castable "java/lang/IllegalArgumentException" "java/lang/IllegalArgumentException" ∈ lw_tbl := List.mem_of_getElem? (i := 448) (by decide +kernel)
theorem n_455 : Cond.stringRef RX3 181 "an argument is out of its range" ∈ lw_tbl := List.mem_of_getElem? (i := 455) (by decide +kernel)
theorem m_462 : Cond.methodLink RL 108 yL_stateOf ∈ big := big_i 462 (by decide +kernel) rfl
theorem m_463 : Cond.static yL_stateOf ∈ big := big_i 463 (by decide +kernel) rfl
theorem m_464 : Cond.codeWith yL_stateOf cL_stateOf 3 (some .int) [(0, 5, 6, 16)] ∈ big := big_i 464 (by decide +kernel) rfl
theorem m_465 : Cond.methodLink RL 64 yX3_stateOf ∈ big := big_i 465 (by decide +kernel) rfl
theorem m_466 : Cond.instanceMethod yX3_stateOf ∈ big := big_i 466 (by decide +kernel) rfl
theorem m_467 : Cond.selects RX3 yX3_stateOf yX3_stateOf ∈ big := big_i 467 (by decide +kernel) rfl
theorem m_468 : Cond.code yX3_stateOf cX3_stateOf 2 (some .int) ∈ big := big_i 468 (by decide +kernel) rfl
theorem m_469 : Cond.methodLink RL 139 yL_places ∈ big := big_i 469 (by decide +kernel) rfl
theorem m_470 : Cond.static yL_places ∈ big := big_i 470 (by decide +kernel) rfl
set_option maxRecDepth 100000 in
theorem m_471 : Cond.code yL_places cL_places 13 (some .boolean) ∈ big := big_i 471 rfl rfl
theorem m_472 : Cond.constantLong RL 100 (-1) ∈ big := big_i 472 (by decide +kernel) rfl
theorem m_473 : Cond.methodLink RL 110 yL_worth ∈ big := big_i 473 (by decide +kernel) rfl
theorem m_474 : Cond.static yL_worth ∈ big := big_i 474 (by decide +kernel) rfl
theorem m_475 : Cond.codeWith yL_worth cL_worth 3 (some .int) [(0, 5, 6, 16)] ∈ big := big_i 475 (by decide +kernel) rfl
theorem m_476 : Cond.methodLink RL 61 yX3_worth ∈ big := big_i 476 (by decide +kernel) rfl
theorem m_477 : Cond.instanceMethod yX3_worth ∈ big := big_i 477 (by decide +kernel) rfl
theorem m_478 : Cond.selects RX3 yX3_worth yX3_worth ∈ big := big_i 478 (by decide +kernel) rfl
theorem m_479 : Cond.code yX3_worth cX3_worth 2 (some .int) ∈ big := big_i 479 (by decide +kernel) rfl
theorem m_480 : Cond.methodLink RL 115 yX3_moves ∈ big := big_i 480 (by decide +kernel) rfl
theorem m_481 : Cond.instanceMethod yX3_moves ∈ big := big_i 481 (by decide +kernel) rfl
theorem m_482 : Cond.selects RX3 yX3_moves yX3_moves ∈ big := big_i 482 (by decide +kernel) rfl
theorem m_483 : Cond.code yX3_moves cX3_moves 1 (some .int) ∈ big := big_i 483 (by decide +kernel) rfl
theorem m_484 : Cond.methodLink RL 185 yL_acts ∈ big := big_i 484 (by decide +kernel) rfl
theorem m_485 : Cond.static yL_acts ∈ big := big_i 485 (by decide +kernel) rfl
set_option maxRecDepth 100000 in
theorem m_486 : Cond.code yL_acts cL_acts 17 (some .boolean) ∈ big := big_i 486 rfl rfl
theorem m_487 : Cond.methodLink RL 143 yL_low ∈ big := big_i 487 (by decide +kernel) rfl
theorem m_488 : Cond.static yL_low ∈ big := big_i 488 (by decide +kernel) rfl
theorem m_489 : Cond.code yL_low cL_low 2 (some .int) ∈ big := big_i 489 (by decide +kernel) rfl
theorem m_490 : Cond.constant RL 9 (2147483647) ∈ big := big_i 490 (by decide +kernel) rfl
theorem m_491 : Cond.methodLink RL 154 yL_moves ∈ big := big_i 491 (by decide +kernel) rfl
theorem m_492 : Cond.static yL_moves ∈ big := big_i 492 (by decide +kernel) rfl
set_option maxRecDepth 100000 in
theorem m_493 : Cond.code yL_moves cL_moves 18 (some .boolean) ∈ big := big_i 493 rfl rfl
theorem m_494 : Cond.methodLink RL 146 yL_move ∈ big := big_i 494 (by decide +kernel) rfl
