/-! the words of the tables, by their places -/
theorem m_495 : Cond.static yL_move ∈ big := big_i 495 (by decide +kernel) rfl
theorem m_496 : Cond.codeWith yL_move cL_move 7 (some .int) [(0, 11, 12, 16), (0, 11, 17, 19), (0, 11, 22, 29)] ∈ big := big_i 496 (by decide +kernel) rfl
theorem m_497 : Cond.methodLink RL 25 yX3_move ∈ big := big_i 497 (by decide +kernel) rfl
theorem m_498 : Cond.instanceMethod yX3_move ∈ big := big_i 498 (by decide +kernel) rfl
theorem m_499 : Cond.selects RX3 yX3_move yX3_move ∈ big := big_i 499 (by decide +kernel) rfl
theorem m_500 : Cond.code yX3_move cX3_move 6 (some .int) ∈ big := big_i 500 (by decide +kernel) rfl
theorem m_501 : Cond.methodLink RX3 56 yX3_checkPlaceOrOutside ∈ big := big_i 501 (by decide +kernel) rfl
theorem m_502 : Cond.static yX3_checkPlaceOrOutside ∈ big := big_i 502 (by decide +kernel) rfl
theorem m_503 : Cond.code yX3_checkPlaceOrOutside cX3_checkPlaceOrOutside 1 none ∈ big := big_i 503 (by decide +kernel) rfl
theorem n_504 : Cond.stringRef RX3 62 "from and to are the same" ∈ lw_tbl := List.mem_of_getElem? (i := 504) (by decide +kernel)
theorem n_505 : Cond.stringRef RX3 72 "there are 200 moves" ∈ lw_tbl := List.mem_of_getElem? (i := 505) (by decide +kernel)
theorem n_506 : Cond.methodLinkNest RX3 75 yX1_add "CountSheets" ∈ lw_tbl := List.mem_of_getElem? (i := 506) (by decide +kernel)
theorem m_508 : Cond.instanceMethod yX1_add ∈ big := big_i 508 (by decide +kernel) rfl
theorem m_509 : Cond.code yX1_add cX1_add 7 (some .int) ∈ big := big_i 509 (by decide +kernel) rfl
theorem m_510 : Cond.methodLink RL 157 yL_pass ∈ big := big_i 510 (by decide +kernel) rfl
theorem m_511 : Cond.static yL_pass ∈ big := big_i 511 (by decide +kernel) rfl
theorem m_512 : Cond.codeWith yL_pass cL_pass 3 (some .int) [(0, 5, 6, 19)] ∈ big := big_i 512 (by decide +kernel) rfl
theorem m_513 : Cond.methodLink RL 32 yX3_pass ∈ big := big_i 513 (by decide +kernel) rfl
theorem m_514 : Cond.instanceMethod yX3_pass ∈ big := big_i 514 (by decide +kernel) rfl
theorem m_515 : Cond.selects RX3 yX3_pass yX3_pass ∈ big := big_i 515 (by decide +kernel) rfl
theorem m_516 : Cond.code yX3_pass cX3_pass 2 (some .int) ∈ big := big_i 516 (by decide +kernel) rfl
theorem m_517 : Cond.methodLink RL 159 yL_setPrice ∈ big := big_i 517 (by decide +kernel) rfl
theorem m_518 : Cond.static yL_setPrice ∈ big := big_i 518 (by decide +kernel) rfl
theorem m_519 : Cond.codeWith yL_setPrice cL_setPrice 4 (some .int) [(0, 6, 7, 16), (0, 6, 11, 19)] ∈ big := big_i 519 (by decide +kernel) rfl
theorem m_520 : Cond.methodLink RL 10 yX3_setPrice ∈ big := big_i 520 (by decide +kernel) rfl
theorem m_521 : Cond.instanceMethod yX3_setPrice ∈ big := big_i 521 (by decide +kernel) rfl
theorem m_522 : Cond.selects RX3 yX3_setPrice yX3_setPrice ∈ big := big_i 522 (by decide +kernel) rfl
theorem m_523 : Cond.code yX3_setPrice cX3_setPrice 4 (some .int) ∈ big := big_i 523 (by decide +kernel) rfl
theorem m_524 : Cond.methodLink RL 161 yL_setBound ∈ big := big_i 524 (by decide +kernel) rfl
theorem m_525 : Cond.static yL_setBound ∈ big := big_i 525 (by decide +kernel) rfl
theorem m_526 : Cond.codeWith yL_setBound cL_setBound 4 (some .int) [(0, 6, 7, 16), (0, 6, 11, 19)] ∈ big := big_i 526 (by decide +kernel) rfl
theorem m_527 : Cond.methodLink RL 22 yX3_setBound ∈ big := big_i 527 (by decide +kernel) rfl
theorem m_528 : Cond.instanceMethod yX3_setBound ∈ big := big_i 528 (by decide +kernel) rfl
theorem m_529 : Cond.selects RX3 yX3_setBound yX3_setBound ∈ big := big_i 529 (by decide +kernel) rfl
theorem m_530 : Cond.code yX3_setBound cX3_setBound 4 (some .int) ∈ big := big_i 530 (by decide +kernel) rfl
theorem m_531 : Cond.constant RX3 55 (1000000) ∈ big := big_i 531 (by decide +kernel) rfl
theorem m_532 : Cond.constant RL 163 (1000001) ∈ big := big_i 532 (by decide +kernel) rfl
theorem m_533 : Cond.methodLink RL 164 yL_open ∈ big := big_i 533 (by decide +kernel) rfl
theorem m_534 : Cond.static yL_open ∈ big := big_i 534 (by decide +kernel) rfl
theorem m_535 : Cond.codeWith yL_open cL_open 3 (some .int) [(0, 5, 6, 16), (0, 5, 10, 29)] ∈ big := big_i 535 (by decide +kernel) rfl
theorem m_536 : Cond.methodLink RL 36 yX3_open ∈ big := big_i 536 (by decide +kernel) rfl
theorem m_537 : Cond.instanceMethod yX3_open ∈ big := big_i 537 (by decide +kernel) rfl
theorem m_538 : Cond.selects RX3 yX3_open yX3_open ∈ big := big_i 538 (by decide +kernel) rfl
theorem m_539 : Cond.code yX3_open cX3_open 2 (some .int) ∈ big := big_i 539 (by decide +kernel) rfl
theorem n_540 : Cond.stringRef RX3 83 "there is an OPEN sheet for the place" ∈ lw_tbl := List.mem_of_getElem? (i := 540) (by decide +kernel)
theorem n_541 : Cond.stringRef RX3 86 "there are 40 sheets" ∈ lw_tbl := List.mem_of_getElem? (i := 541) (by decide +kernel)
theorem n_542 : Cond.methodLinkNest RX3 88 yX2_add "CountSheets" ∈ lw_tbl := List.mem_of_getElem? (i := 542) (by decide +kernel)
theorem m_544 : Cond.instanceMethod yX2_add ∈ big := big_i 544 (by decide +kernel) rfl
theorem m_545 : Cond.code yX2_add cX2_add 4 (some .int) ∈ big := big_i 545 (by decide +kernel) rfl
theorem m_546 : Cond.methodLink RL 166 yL_count ∈ big := big_i 546 (by decide +kernel) rfl
theorem m_547 : Cond.static yL_count ∈ big := big_i 547 (by decide +kernel) rfl
theorem m_548 : Cond.codeWith yL_count cL_count 6 (some .int) [(0, 17, 18, 16), (0, 17, 23, 19), (0, 17, 28, 29)] ∈ big := big_i 548 (by decide +kernel) rfl
theorem m_549 : Cond.methodLink RL 39 yX3_count ∈ big := big_i 549 (by decide +kernel) rfl
theorem m_550 : Cond.instanceMethod yX3_count ∈ big := big_i 550 (by decide +kernel) rfl
theorem m_551 : Cond.selects RX3 yX3_count yX3_count ∈ big := big_i 551 (by decide +kernel) rfl
theorem m_552 : Cond.code yX3_count cX3_count 6 (some .boolean) ∈ big := big_i 552 (by decide +kernel) rfl
theorem m_553 : Cond.constant RX3 91 (100000) ∈ big := big_i 553 (by decide +kernel) rfl
theorem n_554 : Cond.stringRef RX3 99 "the sheet is not OPEN" ∈ lw_tbl := List.mem_of_getElem? (i := 554) (by decide +kernel)
theorem n_555 : Cond.stringRef RX3 104 "the counts agree already" ∈ lw_tbl := List.mem_of_getElem? (i := 555) (by decide +kernel)
theorem n_556 : Cond.methodLinkNest RX3 106 yX0_isCountedBy "CountSheets" ∈ lw_tbl := List.mem_of_getElem? (i := 556) (by decide +kernel)
theorem m_558 : Cond.instanceMethod yX0_isCountedBy ∈ big := big_i 558 (by decide +kernel) rfl
theorem m_559 : Cond.code yX0_isCountedBy cX0_isCountedBy 3 (some .boolean) ∈ big := big_i 559 (by decide +kernel) rfl
theorem n_560 : Cond.stringRef RX3 110 "the person has counted the article on the sheet" ∈ lw_tbl := List.mem_of_getElem? (i := 560) (by decide +kernel)
theorem n_561 : Cond.methodLinkNest RX3 112 yX0_add "CountSheets" ∈ lw_tbl := List.mem_of_getElem? (i := 561) (by decide +kernel)
theorem m_563 : Cond.instanceMethod yX0_add ∈ big := big_i 563 (by decide +kernel) rfl
theorem m_564 : Cond.code yX0_add cX0_add 5 none ∈ big := big_i 564 (by decide +kernel) rfl
theorem m_565 : Cond.methodLink RX0 46 yX0_countsOn ∈ big := big_i 565 (by decide +kernel) rfl
theorem m_566 : Cond.methodLink RX0 49 yX0_middleOf ∈ big := big_i 566 (by decide +kernel) rfl
theorem m_567 : Cond.static yX0_middleOf ∈ big := big_i 567 (by decide +kernel) rfl
theorem m_568 : Cond.code yX0_middleOf cX0_middleOf 3 (some .int) ∈ big := big_i 568 (by decide +kernel) rfl
theorem m_569 : Cond.methodLink RX0 53 yJ9_min_7cf53 ∈ big := big_i 569 (by decide +kernel) rfl
theorem m_570 : Cond.static yJ9_min_7cf53 ∈ big := big_i 570 (by decide +kernel) rfl
theorem m_571 : Cond.code yJ9_min_7cf53 cJ9_min_7cf53 2 (some .int) ∈ big := big_i 571 (by decide +kernel) rfl
theorem m_572 : Cond.methodLink RX0 59 yJ9_max_7cf53 ∈ big := big_i 572 (by decide +kernel) rfl
theorem m_573 : Cond.methodLink RL 169 yL_close ∈ big := big_i 573 (by decide +kernel) rfl
theorem m_574 : Cond.static yL_close ∈ big := big_i 574 (by decide +kernel) rfl
theorem m_575 : Cond.codeWith yL_close cL_close 3 (some .int) [(0, 5, 6, 16), (0, 5, 10, 29)] ∈ big := big_i 575 (by decide +kernel) rfl
theorem m_576 : Cond.methodLink RL 43 yX3_close ∈ big := big_i 576 (by decide +kernel) rfl
theorem m_577 : Cond.instanceMethod yX3_close ∈ big := big_i 577 (by decide +kernel) rfl
theorem m_578 : Cond.selects RX3 yX3_close yX3_close ∈ big := big_i 578 (by decide +kernel) rfl
theorem m_579 : Cond.code yX3_close cX3_close 5 (some .int) ∈ big := big_i 579 (by decide +kernel) rfl
theorem n_580 : Cond.stringRef RX3 118 "an article was counted on the sheet without agreement" ∈ lw_tbl := List.mem_of_getElem? (i := 580) (by decide +kernel)
theorem m_581 : Cond.methodLink RL 149 yL_size ∈ big := big_i 581 (by decide +kernel) rfl
theorem m_582 : Cond.static yL_size ∈ big := big_i 582 (by decide +kernel) rfl
theorem m_583 : Cond.code yL_size cL_size 1 (some .int) ∈ big := big_i 583 (by decide +kernel) rfl
theorem m_584 : Cond.constant RL 171 (100001) ∈ big := big_i 584 (by decide +kernel) rfl
theorem m_585 : Cond.constant RL 172 (100000) ∈ big := big_i 585 (by decide +kernel) rfl
theorem m_586 : Cond.methodLink RL 173 yL_signs ∈ big := big_i 586 (by decide +kernel) rfl
theorem m_587 : Cond.static yL_signs ∈ big := big_i 587 (by decide +kernel) rfl
set_option maxRecDepth 100000 in
theorem m_588 : Cond.code yL_signs cL_signs 13 (some .boolean) ∈ big := big_i 588 rfl rfl
theorem m_589 : Cond.methodLink RL 177 yL_settles ∈ big := big_i 589 (by decide +kernel) rfl
theorem m_590 : Cond.static yL_settles ∈ big := big_i 590 (by decide +kernel) rfl
set_option maxRecDepth 100000 in
theorem m_591 : Cond.code yL_settles cL_settles 12 (some .boolean) ∈ big := big_i 591 rfl rfl
theorem m_592 : Cond.methodLink RL 152 yL_settle ∈ big := big_i 592 (by decide +kernel) rfl
theorem m_593 : Cond.static yL_settle ∈ big := big_i 593 (by decide +kernel) rfl
theorem m_594 : Cond.codeWith yL_settle cL_settle 5 (some .int) [(0, 7, 8, 16), (0, 7, 13, 50), (0, 7, 18, 29)] ∈ big := big_i 594 (by decide +kernel) rfl
theorem m_595 : Cond.methodLink RL 52 yX3_settle ∈ big := big_i 595 (by decide +kernel) rfl
theorem m_596 : Cond.instanceMethod yX3_settle ∈ big := big_i 596 (by decide +kernel) rfl
theorem m_597 : Cond.selects RX3 yX3_settle yX3_settle ∈ big := big_i 597 (by decide +kernel) rfl
theorem m_598 : Cond.code yX3_settle cX3_settle 5 (some .int) ∈ big := big_i 598 (by decide +kernel) rfl
theorem n_599 : Cond.stringRef RX3 145 "the gaps cannot be settled" ∈ lw_tbl := List.mem_of_getElem? (i := 599) (by decide +kernel)
theorem n_601 : Cond.castable "CountSheets" "java/lang/Object" ∈ lw_tbl := List.mem_of_getElem? (i := 601) (by decide +kernel)
theorem n_602 : Cond.castable "CountSheets$MoveRows" "java/lang/Object" ∈ lw_tbl := List.mem_of_getElem? (i := 602) (by decide +kernel)
theorem n_603 : Cond.castable "CountSheets$SheetRows" "java/lang/Object" ∈ lw_tbl := List.mem_of_getElem? (i := 603) (by decide +kernel)
theorem n_604 : Cond.castable "CountSheets$LineRows" "java/lang/Object" ∈ lw_tbl := List.mem_of_getElem? (i := 604) (by decide +kernel)
theorem n_605 : Cond.castable "java/lang/IndexOutOfBoundsException" "java/lang/Object" ∈ lw_tbl := List.mem_of_getElem? (i := 605) (by decide +kernel)
theorem n_606 : Cond.castable "java/lang/IllegalArgumentException" "java/lang/Object" ∈ lw_tbl := List.mem_of_getElem? (i := 606) (by decide +kernel)
theorem n_607 : Cond.castable "java/lang/IllegalStateException" "java/lang/Object" ∈ lw_tbl := List.mem_of_getElem? (i := 607) (by decide +kernel)
theorem n_608 : Cond.castable "java/util/NoSuchElementException" "java/lang/Object" ∈ lw_tbl := List.mem_of_getElem? (i := 608) (by decide +kernel)
theorem n_609 : Cond.castable "java/lang/Throwable" "java/lang/Object" ∈ lw_tbl := List.mem_of_getElem? (i := 609) (by decide +kernel)
theorem n_610 : Cond.castable "java/lang/String" "java/lang/Object" ∈ lw_tbl := List.mem_of_getElem? (i := 610) (by decide +kernel)
theorem at_IO : ∀ w ∈ vx_atS RX3 180 "java/lang/IndexOutOfBoundsException" names2, w ∈ lw_tbl ∧ (w.onTables && w.keepsFace) = true := fun w h => by
  have h1 : (vx_atS RX3 180 "java/lang/IndexOutOfBoundsException" names2).all (fun w => decide (w ∈ lw_tbl) && (w.onTables && w.keepsFace)) = true := by decide +kernel
  have h2 := List.all_eq_true.mp h1 w h
  rw [Bool.and_eq_true, decide_eq_true_eq] at h2
  exact h2
theorem at_IA : ∀ w ∈ vx_atS RX3 64 "java/lang/IllegalArgumentException" names2, w ∈ lw_tbl ∧ (w.onTables && w.keepsFace) = true := fun w h => by
  have h1 : (vx_atS RX3 64 "java/lang/IllegalArgumentException" names2).all (fun w => decide (w ∈ lw_tbl) && (w.onTables && w.keepsFace)) = true := by decide +kernel
  have h2 := List.all_eq_true.mp h1 w h
  rw [Bool.and_eq_true, decide_eq_true_eq] at h2
  exact h2
theorem at_IS : ∀ w ∈ vx_atS RX3 74 "java/lang/IllegalStateException" names2, w ∈ lw_tbl ∧ (w.onTables && w.keepsFace) = true := fun w h => by
  have h1 : (vx_atS RX3 74 "java/lang/IllegalStateException" names2).all (fun w => decide (w ∈ lw_tbl) && (w.onTables && w.keepsFace)) = true := by decide +kernel
  have h2 := List.all_eq_true.mp h1 w h
  rw [Bool.and_eq_true, decide_eq_true_eq] at h2
  exact h2
