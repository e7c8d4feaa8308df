set_option maxRecDepth 100000 in
theorem tw_487 : Cond.instanceMethod yX10_rate ∈ lw_tbl := List.mem_of_getElem? (i := 487) (by decide +kernel)
set_option maxRecDepth 100000 in
theorem tw_488 : Cond.selects RX10 yX10_rate yX10_rate ∈ lw_tbl := List.mem_of_getElem? (i := 488) (by decide +kernel)
set_option maxRecDepth 100000 in
theorem tw_489 : Cond.code yX10_rate cX10_rate 3 (some .boolean) ∈ lw_tbl := List.mem_of_getElem? (i := 489) (by decide +kernel)
set_option maxRecDepth 100000 in
theorem tw_490 : Cond.methodLink RL 28 yX10_feed ∈ lw_tbl := List.mem_of_getElem? (i := 490) (by decide +kernel)
set_option maxRecDepth 100000 in
theorem tw_491 : Cond.instanceMethod yX10_feed ∈ lw_tbl := List.mem_of_getElem? (i := 491) (by decide +kernel)
set_option maxRecDepth 100000 in
theorem tw_492 : Cond.selects RX10 yX10_feed yX10_feed ∈ lw_tbl := List.mem_of_getElem? (i := 492) (by decide +kernel)
set_option maxRecDepth 100000 in
theorem tw_493 : Cond.code yX10_feed cX10_feed 7 (some .int) ∈ lw_tbl := List.mem_of_getElem? (i := 493) (by decide +kernel)
set_option maxRecDepth 100000 in
theorem tw_494 : Cond.methodLink RX10 97 yX8_add ∈ lw_tbl := List.mem_of_getElem? (i := 494) (by decide +kernel)
set_option maxRecDepth 100000 in
theorem tw_495 : Cond.instanceMethod yX8_add ∈ lw_tbl := List.mem_of_getElem? (i := 495) (by decide +kernel)
set_option maxRecDepth 100000 in
theorem tw_496 : Cond.selects RX8 yX8_add yX8_add ∈ lw_tbl := List.mem_of_getElem? (i := 496) (by decide +kernel)
set_option maxRecDepth 100000 in
theorem tw_497 : Cond.code yX8_add cX8_add 3 none ∈ lw_tbl := List.mem_of_getElem? (i := 497) (by decide +kernel)
set_option maxRecDepth 100000 in
theorem tw_498 : Cond.methodLink RL 33 yX10_end ∈ lw_tbl := List.mem_of_getElem? (i := 498) (by decide +kernel)
set_option maxRecDepth 100000 in
theorem tw_499 : Cond.instanceMethod yX10_end ∈ lw_tbl := List.mem_of_getElem? (i := 499) (by decide +kernel)
set_option maxRecDepth 100000 in
theorem tw_500 : Cond.selects RX10 yX10_end yX10_end ∈ lw_tbl := List.mem_of_getElem? (i := 500) (by decide +kernel)
set_option maxRecDepth 100000 in
theorem tw_501 : Cond.code yX10_end cX10_end 3 (some .boolean) ∈ lw_tbl := List.mem_of_getElem? (i := 501) (by decide +kernel)
set_option maxRecDepth 100000 in
theorem tw_502 : Cond.methodLink RL 38 yX10_load ∈ lw_tbl := List.mem_of_getElem? (i := 502) (by decide +kernel)
set_option maxRecDepth 100000 in
theorem tw_503 : Cond.instanceMethod yX10_load ∈ lw_tbl := List.mem_of_getElem? (i := 503) (by decide +kernel)
set_option maxRecDepth 100000 in
theorem tw_504 : Cond.selects RX10 yX10_load yX10_load ∈ lw_tbl := List.mem_of_getElem? (i := 504) (by decide +kernel)
set_option maxRecDepth 100000 in
theorem tw_505 : Cond.code yX10_load cX10_load 2 (some .int) ∈ lw_tbl := List.mem_of_getElem? (i := 505) (by decide +kernel)
set_option maxRecDepth 100000 in
theorem tw_506 : Cond.methodLink RX10 101 yX2_readTape ∈ lw_tbl := List.mem_of_getElem? (i := 506) (by decide +kernel)
set_option maxRecDepth 100000 in
theorem tw_507 : Cond.instanceMethod yX2_readTape ∈ lw_tbl := List.mem_of_getElem? (i := 507) (by decide +kernel)
set_option maxRecDepth 100000 in
theorem tw_508 : Cond.selects RX2 yX2_readTape yX2_readTape ∈ lw_tbl := List.mem_of_getElem? (i := 508) (by decide +kernel)
set_option maxRecDepth 100000 in
theorem tw_509 : Cond.code yX2_readTape cX2_readTape 3 none ∈ lw_tbl := List.mem_of_getElem? (i := 509) (by decide +kernel)
set_option maxRecDepth 100000 in
theorem tw_510 : Cond.methodLink RX2 52 yX8_rewind ∈ lw_tbl := List.mem_of_getElem? (i := 510) (by decide +kernel)
set_option maxRecDepth 100000 in
theorem tw_511 : Cond.instanceMethod yX8_rewind ∈ lw_tbl := List.mem_of_getElem? (i := 511) (by decide +kernel)
set_option maxRecDepth 100000 in
theorem tw_512 : Cond.selects RX8 yX8_rewind yX8_rewind ∈ lw_tbl := List.mem_of_getElem? (i := 512) (by decide +kernel)
set_option maxRecDepth 100000 in
theorem tw_513 : Cond.code yX8_rewind cX8_rewind 1 none ∈ lw_tbl := List.mem_of_getElem? (i := 513) (by decide +kernel)
set_option maxRecDepth 100000 in
theorem tw_514 : Cond.methodLink RX2 55 yX8_readToken ∈ lw_tbl := List.mem_of_getElem? (i := 514) (by decide +kernel)
set_option maxRecDepth 100000 in
theorem tw_515 : Cond.instanceMethod yX8_readToken ∈ lw_tbl := List.mem_of_getElem? (i := 515) (by decide +kernel)
set_option maxRecDepth 100000 in
theorem tw_516 : Cond.selects RX8 yX8_readToken yX8_readToken ∈ lw_tbl := List.mem_of_getElem? (i := 516) (by decide +kernel)
set_option maxRecDepth 100000 in
theorem tw_517 : Cond.code yX8_readToken cX8_readToken 1 none ∈ lw_tbl := List.mem_of_getElem? (i := 517) (by decide +kernel)
set_option maxRecDepth 100000 in
theorem tw_518 : Cond.methodLink RX8 34 yX8_isBlank ∈ lw_tbl := List.mem_of_getElem? (i := 518) (by decide +kernel)
set_option maxRecDepth 100000 in
theorem tw_519 : Cond.static yX8_isBlank ∈ lw_tbl := List.mem_of_getElem? (i := 519) (by decide +kernel)
set_option maxRecDepth 100000 in
theorem tw_520 : Cond.code yX8_isBlank cX8_isBlank 1 (some .boolean) ∈ lw_tbl := List.mem_of_getElem? (i := 520) (by decide +kernel)
set_option maxRecDepth 100000 in
theorem tw_521 : Cond.methodLink RX8 38 yX8_isLetter ∈ lw_tbl := List.mem_of_getElem? (i := 521) (by decide +kernel)
set_option maxRecDepth 100000 in
theorem tw_522 : Cond.static yX8_isLetter ∈ lw_tbl := List.mem_of_getElem? (i := 522) (by decide +kernel)
set_option maxRecDepth 100000 in
theorem tw_523 : Cond.code yX8_isLetter cX8_isLetter 1 (some .boolean) ∈ lw_tbl := List.mem_of_getElem? (i := 523) (by decide +kernel)
set_option maxRecDepth 100000 in
theorem tw_524 : Cond.methodLink RX8 41 yX8_readLetters ∈ lw_tbl := List.mem_of_getElem? (i := 524) (by decide +kernel)
set_option maxRecDepth 100000 in
theorem tw_526 : Cond.instanceMethod yX8_readLetters ∈ lw_tbl := List.mem_of_getElem? (i := 526) (by decide +kernel)
set_option maxRecDepth 100000 in
theorem tw_527 : Cond.code yX8_readLetters cX8_readLetters 2 none ∈ lw_tbl := List.mem_of_getElem? (i := 527) (by decide +kernel)
set_option maxRecDepth 100000 in
theorem tw_528 : Cond.methodLink RX8 54 yX8_wordToken ∈ lw_tbl := List.mem_of_getElem? (i := 528) (by decide +kernel)
set_option maxRecDepth 100000 in
theorem tw_530 : Cond.instanceMethod yX8_wordToken ∈ lw_tbl := List.mem_of_getElem? (i := 530) (by decide +kernel)
set_option maxRecDepth 100000 in
theorem tw_531 : Cond.code yX8_wordToken cX8_wordToken 1 (some .int) ∈ lw_tbl := List.mem_of_getElem? (i := 531) (by decide +kernel)
set_option maxRecDepth 100000 in
theorem tw_533 : Cond.methodLink RX8 60 yX8_isWord ∈ lw_tbl := List.mem_of_getElem? (i := 533) (by decide +kernel)
set_option maxRecDepth 100000 in
theorem tw_535 : Cond.instanceMethod yX8_isWord ∈ lw_tbl := List.mem_of_getElem? (i := 535) (by decide +kernel)
set_option maxRecDepth 100000 in
theorem tw_536 : Cond.code yX8_isWord cX8_isWord 3 (some .boolean) ∈ lw_tbl := List.mem_of_getElem? (i := 536) (by decide +kernel)
set_option maxRecDepth 100000 in
theorem tw_537 : Cond.methodLink RX8 74 yJ0_length_8abf5 ∈ lw_tbl := List.mem_of_getElem? (i := 537) (by decide +kernel)
set_option maxRecDepth 100000 in
theorem tw_538 : Cond.instanceMethod yJ0_length_8abf5 ∈ lw_tbl := List.mem_of_getElem? (i := 538) (by decide +kernel)
set_option maxRecDepth 100000 in
theorem tw_539 : Cond.selects RJ0 yJ0_length_8abf5 yJ0_length_8abf5 ∈ lw_tbl := List.mem_of_getElem? (i := 539) (by decide +kernel)
set_option maxRecDepth 100000 in
theorem tw_540 : Cond.code yJ0_length_8abf5 cJ0_length_8abf5 1 (some .int) ∈ lw_tbl := List.mem_of_getElem? (i := 540) (by decide +kernel)
set_option maxRecDepth 100000 in
theorem tw_541 : Cond.methodLink RJ0 335 yJ0_coder_7d493 ∈ lw_tbl := List.mem_of_getElem? (i := 541) (by decide +kernel)
set_option maxRecDepth 100000 in
theorem tw_542 : Cond.instanceMethod yJ0_coder_7d493 ∈ lw_tbl := List.mem_of_getElem? (i := 542) (by decide +kernel)
set_option maxRecDepth 100000 in
theorem tw_543 : Cond.selects RJ0 yJ0_coder_7d493 yJ0_coder_7d493 ∈ lw_tbl := List.mem_of_getElem? (i := 543) (by decide +kernel)
set_option maxRecDepth 100000 in
theorem tw_544 : Cond.code yJ0_coder_7d493 cJ0_coder_7d493 1 (some .byte) ∈ lw_tbl := List.mem_of_getElem? (i := 544) (by decide +kernel)
set_option maxRecDepth 100000 in
theorem tw_545 : Cond.fieldLink RJ0 38 "java/lang/String" "COMPACT_STRINGS" "Z" ∈ lw_tbl := List.mem_of_getElem? (i := 545) (by decide +kernel)
set_option maxRecDepth 100000 in
theorem tw_547 : Cond.methodLink RX8 78 yJ0_charAt_5068e ∈ lw_tbl := List.mem_of_getElem? (i := 547) (by decide +kernel)
set_option maxRecDepth 100000 in
theorem tw_548 : Cond.instanceMethod yJ0_charAt_5068e ∈ lw_tbl := List.mem_of_getElem? (i := 548) (by decide +kernel)
set_option maxRecDepth 100000 in
theorem tw_549 : Cond.selects RJ0 yJ0_charAt_5068e yJ0_charAt_5068e ∈ lw_tbl := List.mem_of_getElem? (i := 549) (by decide +kernel)
set_option maxRecDepth 100000 in
theorem tw_550 : Cond.code yJ0_charAt_5068e cJ0_charAt_5068e 2 (some .char) ∈ lw_tbl := List.mem_of_getElem? (i := 550) (by decide +kernel)
set_option maxRecDepth 100000 in
theorem tw_551 : Cond.methodLink RJ0 492 yJ0_isLatin1_aae02 ∈ lw_tbl := List.mem_of_getElem? (i := 551) (by decide +kernel)
set_option maxRecDepth 100000 in
theorem tw_552 : Cond.instanceMethod yJ0_isLatin1_aae02 ∈ lw_tbl := List.mem_of_getElem? (i := 552) (by decide +kernel)
set_option maxRecDepth 100000 in
theorem tw_553 : Cond.selects RJ0 yJ0_isLatin1_aae02 yJ0_isLatin1_aae02 ∈ lw_tbl := List.mem_of_getElem? (i := 553) (by decide +kernel)
set_option maxRecDepth 100000 in
theorem tw_554 : Cond.code yJ0_isLatin1_aae02 cJ0_isLatin1_aae02 1 (some .boolean) ∈ lw_tbl := List.mem_of_getElem? (i := 554) (by decide +kernel)
set_option maxRecDepth 100000 in
theorem tw_555 : Cond.methodLink RJ0 495 yJ1_charAt_3b067 ∈ lw_tbl := List.mem_of_getElem? (i := 555) (by decide +kernel)
set_option maxRecDepth 100000 in
theorem tw_556 : Cond.static yJ1_charAt_3b067 ∈ lw_tbl := List.mem_of_getElem? (i := 556) (by decide +kernel)
set_option maxRecDepth 100000 in
theorem tw_557 : Cond.code yJ1_charAt_3b067 cJ1_charAt_3b067 2 (some .char) ∈ lw_tbl := List.mem_of_getElem? (i := 557) (by decide +kernel)
set_option maxRecDepth 100000 in
theorem tw_558 : Cond.methodLink RJ1 9 yJ0_checkIndex_df160 ∈ lw_tbl := List.mem_of_getElem? (i := 558) (by decide +kernel)
set_option maxRecDepth 100000 in
theorem tw_559 : Cond.static yJ0_checkIndex_df160 ∈ lw_tbl := List.mem_of_getElem? (i := 559) (by decide +kernel)
set_option maxRecDepth 100000 in
theorem tw_560 : Cond.code yJ0_checkIndex_df160 cJ0_checkIndex_df160 2 none ∈ lw_tbl := List.mem_of_getElem? (i := 560) (by decide +kernel)
set_option maxRecDepth 100000 in
theorem tw_561 : Cond.fieldLink RJ0 1053 "jdk/internal/util/Preconditions" "SIOOBE_FORMATTER" "Ljava/util/function/BiFunction;" ∈ lw_tbl := List.mem_of_getElem? (i := 561) (by decide +kernel)
set_option maxRecDepth 100000 in
theorem tw_563 : Cond.methodLink RJ0 1059 yJ3_checkIndex_8e157 ∈ lw_tbl := List.mem_of_getElem? (i := 563) (by decide +kernel)
set_option maxRecDepth 100000 in
theorem tw_564 : Cond.static yJ3_checkIndex_8e157 ∈ lw_tbl := List.mem_of_getElem? (i := 564) (by decide +kernel)
set_option maxRecDepth 100000 in
theorem tw_565 : Cond.code yJ3_checkIndex_8e157 cJ3_checkIndex_8e157 3 (some .int) ∈ lw_tbl := List.mem_of_getElem? (i := 565) (by decide +kernel)
set_option maxRecDepth 100000 in
theorem tw_566 : Cond.methodLink RJ0 498 yJ2_charAt_3b067 ∈ lw_tbl := List.mem_of_getElem? (i := 566) (by decide +kernel)
set_option maxRecDepth 100000 in
theorem tw_567 : Cond.static yJ2_charAt_3b067 ∈ lw_tbl := List.mem_of_getElem? (i := 567) (by decide +kernel)
set_option maxRecDepth 100000 in
theorem tw_568 : Cond.code yJ2_charAt_3b067 cJ2_charAt_3b067 2 (some .char) ∈ lw_tbl := List.mem_of_getElem? (i := 568) (by decide +kernel)
set_option maxRecDepth 100000 in
theorem tw_569 : Cond.methodLink RJ2 67 yJ2_checkIndex_2214a ∈ lw_tbl := List.mem_of_getElem? (i := 569) (by decide +kernel)
set_option maxRecDepth 100000 in
theorem tw_570 : Cond.static yJ2_checkIndex_2214a ∈ lw_tbl := List.mem_of_getElem? (i := 570) (by decide +kernel)
set_option maxRecDepth 100000 in
theorem tw_571 : Cond.code yJ2_checkIndex_2214a cJ2_checkIndex_2214a 2 none ∈ lw_tbl := List.mem_of_getElem? (i := 571) (by decide +kernel)
set_option maxRecDepth 100000 in
theorem tw_572 : Cond.methodLink RJ2 48 yJ2_length_9d52b ∈ lw_tbl := List.mem_of_getElem? (i := 572) (by decide +kernel)
set_option maxRecDepth 100000 in
theorem tw_573 : Cond.static yJ2_length_9d52b ∈ lw_tbl := List.mem_of_getElem? (i := 573) (by decide +kernel)
set_option maxRecDepth 100000 in
theorem tw_574 : Cond.code yJ2_length_9d52b cJ2_length_9d52b 1 (some .int) ∈ lw_tbl := List.mem_of_getElem? (i := 574) (by decide +kernel)
set_option maxRecDepth 100000 in
theorem tw_575 : Cond.methodLink RJ2 414 yJ0_checkIndex_df160 ∈ lw_tbl := List.mem_of_getElem? (i := 575) (by decide +kernel)
set_option maxRecDepth 100000 in
theorem tw_576 : Cond.methodLink RJ2 71 yJ2_getChar_3b067 ∈ lw_tbl := List.mem_of_getElem? (i := 576) (by decide +kernel)
set_option maxRecDepth 100000 in
theorem tw_577 : Cond.static yJ2_getChar_3b067 ∈ lw_tbl := List.mem_of_getElem? (i := 577) (by decide +kernel)
set_option maxRecDepth 100000 in
theorem tw_578 : Cond.code yJ2_getChar_3b067 cJ2_getChar_3b067 2 (some .char) ∈ lw_tbl := List.mem_of_getElem? (i := 578) (by decide +kernel)
set_option maxRecDepth 100000 in
theorem tw_579 : Cond.fieldLink RJ2 44 "java/lang/StringUTF16" "$assertionsDisabled" "Z" ∈ lw_tbl := List.mem_of_getElem? (i := 579) (by decide +kernel)
set_option maxRecDepth 100000 in
theorem tw_581 : Cond.fieldLink RJ2 59 "java/lang/StringUTF16" "HI_BYTE_SHIFT" "I" ∈ lw_tbl := List.mem_of_getElem? (i := 581) (by decide +kernel)
set_option maxRecDepth 100000 in
theorem tw_583 : Cond.fieldLink RJ2 63 "java/lang/StringUTF16" "LO_BYTE_SHIFT" "I" ∈ lw_tbl := List.mem_of_getElem? (i := 583) (by decide +kernel)
set_option maxRecDepth 100000 in
theorem tw_590 : Cond.methodLink RX8 44 yX8_isDigit ∈ lw_tbl := List.mem_of_getElem? (i := 590) (by decide +kernel)
set_option maxRecDepth 100000 in
theorem tw_591 : Cond.static yX8_isDigit ∈ lw_tbl := List.mem_of_getElem? (i := 591) (by decide +kernel)
set_option maxRecDepth 100000 in
theorem tw_592 : Cond.code yX8_isDigit cX8_isDigit 1 (some .boolean) ∈ lw_tbl := List.mem_of_getElem? (i := 592) (by decide +kernel)
set_option maxRecDepth 100000 in
theorem tw_593 : Cond.methodLink RX8 47 yX8_readDigits ∈ lw_tbl := List.mem_of_getElem? (i := 593) (by decide +kernel)
set_option maxRecDepth 100000 in
theorem tw_595 : Cond.instanceMethod yX8_readDigits ∈ lw_tbl := List.mem_of_getElem? (i := 595) (by decide +kernel)
set_option maxRecDepth 100000 in
theorem tw_596 : Cond.code yX8_readDigits cX8_readDigits 1 none ∈ lw_tbl := List.mem_of_getElem? (i := 596) (by decide +kernel)
set_option maxRecDepth 100000 in
theorem tw_597 : Cond.methodLink RX8 50 yX8_signToken ∈ lw_tbl := List.mem_of_getElem? (i := 597) (by decide +kernel)
set_option maxRecDepth 100000 in
theorem tw_598 : Cond.static yX8_signToken ∈ lw_tbl := List.mem_of_getElem? (i := 598) (by decide +kernel)
set_option maxRecDepth 100000 in
theorem tw_599 : Cond.code yX8_signToken cX8_signToken 1 (some .int) ∈ lw_tbl := List.mem_of_getElem? (i := 599) (by decide +kernel)
set_option maxRecDepth 100000 in
theorem tw_600 : Cond.methodLink RX2 61 yX2_take ∈ lw_tbl := List.mem_of_getElem? (i := 600) (by decide +kernel)
set_option maxRecDepth 100000 in
theorem tw_602 : Cond.instanceMethod yX2_take ∈ lw_tbl := List.mem_of_getElem? (i := 602) (by decide +kernel)
set_option maxRecDepth 100000 in
theorem tw_603 : Cond.code yX2_take cX2_take 2 none ∈ lw_tbl := List.mem_of_getElem? (i := 603) (by decide +kernel)
set_option maxRecDepth 100000 in
theorem tw_604 : Cond.methodLink RX2 68 yX2_takeCure ∈ lw_tbl := List.mem_of_getElem? (i := 604) (by decide +kernel)
set_option maxRecDepth 100000 in
theorem tw_606 : Cond.instanceMethod yX2_takeCure ∈ lw_tbl := List.mem_of_getElem? (i := 606) (by decide +kernel)
set_option maxRecDepth 100000 in
theorem tw_607 : Cond.code yX2_takeCure cX2_takeCure 2 none ∈ lw_tbl := List.mem_of_getElem? (i := 607) (by decide +kernel)
set_option maxRecDepth 100000 in
theorem tw_608 : Cond.methodLink RX2 92 yX2_fail ∈ lw_tbl := List.mem_of_getElem? (i := 608) (by decide +kernel)
set_option maxRecDepth 100000 in
theorem tw_610 : Cond.instanceMethod yX2_fail ∈ lw_tbl := List.mem_of_getElem? (i := 610) (by decide +kernel)
set_option maxRecDepth 100000 in
theorem tw_611 : Cond.code yX2_fail cX2_fail 2 none ∈ lw_tbl := List.mem_of_getElem? (i := 611) (by decide +kernel)
set_option maxRecDepth 100000 in
theorem tw_612 : Cond.methodLink RX2 71 yX2_takeName ∈ lw_tbl := List.mem_of_getElem? (i := 612) (by decide +kernel)
set_option maxRecDepth 100000 in
theorem tw_614 : Cond.instanceMethod yX2_takeName ∈ lw_tbl := List.mem_of_getElem? (i := 614) (by decide +kernel)
set_option maxRecDepth 100000 in
theorem tw_615 : Cond.code yX2_takeName cX2_takeName 2 none ∈ lw_tbl := List.mem_of_getElem? (i := 615) (by decide +kernel)
set_option maxRecDepth 100000 in
theorem tw_616 : Cond.methodLink RX2 98 yX2_isTold ∈ lw_tbl := List.mem_of_getElem? (i := 616) (by decide +kernel)
set_option maxRecDepth 100000 in
theorem tw_618 : Cond.instanceMethod yX2_isTold ∈ lw_tbl := List.mem_of_getElem? (i := 618) (by decide +kernel)
set_option maxRecDepth 100000 in
theorem tw_619 : Cond.code yX2_isTold cX2_isTold 3 (some .boolean) ∈ lw_tbl := List.mem_of_getElem? (i := 619) (by decide +kernel)
set_option maxRecDepth 100000 in
theorem tw_620 : Cond.methodLink RX2 102 yX6_begin ∈ lw_tbl := List.mem_of_getElem? (i := 620) (by decide +kernel)
set_option maxRecDepth 100000 in
theorem tw_621 : Cond.instanceMethod yX6_begin ∈ lw_tbl := List.mem_of_getElem? (i := 621) (by decide +kernel)
set_option maxRecDepth 100000 in
theorem tw_622 : Cond.selects RX6 yX6_begin yX6_begin ∈ lw_tbl := List.mem_of_getElem? (i := 622) (by decide +kernel)
set_option maxRecDepth 100000 in
theorem tw_623 : Cond.code yX6_begin cX6_begin 2 none ∈ lw_tbl := List.mem_of_getElem? (i := 623) (by decide +kernel)
set_option maxRecDepth 100000 in
theorem tw_624 : Cond.methodLink RX2 74 yX2_takeColon ∈ lw_tbl := List.mem_of_getElem? (i := 624) (by decide +kernel)
set_option maxRecDepth 100000 in
theorem tw_626 : Cond.instanceMethod yX2_takeColon ∈ lw_tbl := List.mem_of_getElem? (i := 626) (by decide +kernel)
set_option maxRecDepth 100000 in
theorem tw_627 : Cond.code yX2_takeColon cX2_takeColon 2 none ∈ lw_tbl := List.mem_of_getElem? (i := 627) (by decide +kernel)
set_option maxRecDepth 100000 in
theorem tw_628 : Cond.methodLink RX2 77 yX2_takeAct ∈ lw_tbl := List.mem_of_getElem? (i := 628) (by decide +kernel)
set_option maxRecDepth 100000 in
theorem tw_630 : Cond.instanceMethod yX2_takeAct ∈ lw_tbl := List.mem_of_getElem? (i := 630) (by decide +kernel)
set_option maxRecDepth 100000 in
theorem tw_631 : Cond.code yX2_takeAct cX2_takeAct 2 none ∈ lw_tbl := List.mem_of_getElem? (i := 631) (by decide +kernel)
set_option maxRecDepth 100000 in
theorem tw_632 : Cond.methodLink RX2 106 yX2_beginAct ∈ lw_tbl := List.mem_of_getElem? (i := 632) (by decide +kernel)
set_option maxRecDepth 100000 in
theorem tw_634 : Cond.instanceMethod yX2_beginAct ∈ lw_tbl := List.mem_of_getElem? (i := 634) (by decide +kernel)
set_option maxRecDepth 100000 in
theorem tw_635 : Cond.code yX2_beginAct cX2_beginAct 2 none ∈ lw_tbl := List.mem_of_getElem? (i := 635) (by decide +kernel)
set_option maxRecDepth 100000 in
theorem tw_636 : Cond.methodLink RX2 113 yX6_add ∈ lw_tbl := List.mem_of_getElem? (i := 636) (by decide +kernel)
set_option maxRecDepth 100000 in
theorem tw_637 : Cond.instanceMethod yX6_add ∈ lw_tbl := List.mem_of_getElem? (i := 637) (by decide +kernel)
set_option maxRecDepth 100000 in
theorem tw_638 : Cond.selects RX6 yX6_add yX6_add ∈ lw_tbl := List.mem_of_getElem? (i := 638) (by decide +kernel)
set_option maxRecDepth 100000 in
theorem tw_639 : Cond.code yX6_add cX6_add 2 none ∈ lw_tbl := List.mem_of_getElem? (i := 639) (by decide +kernel)
set_option maxRecDepth 100000 in
theorem tw_640 : Cond.methodLink RX2 80 yX2_takeFirst ∈ lw_tbl := List.mem_of_getElem? (i := 640) (by decide +kernel)
set_option maxRecDepth 100000 in
theorem tw_642 : Cond.instanceMethod yX2_takeFirst ∈ lw_tbl := List.mem_of_getElem? (i := 642) (by decide +kernel)
set_option maxRecDepth 100000 in
theorem tw_643 : Cond.code yX2_takeFirst cX2_takeFirst 4 none ∈ lw_tbl := List.mem_of_getElem? (i := 643) (by decide +kernel)
set_option maxRecDepth 100000 in
theorem tw_648 : Cond.methodLink RX2 125 yX2_canStand ∈ lw_tbl := List.mem_of_getElem? (i := 648) (by decide +kernel)
set_option maxRecDepth 100000 in
theorem tw_650 : Cond.instanceMethod yX2_canStand ∈ lw_tbl := List.mem_of_getElem? (i := 650) (by decide +kernel)
set_option maxRecDepth 100000 in
theorem tw_651 : Cond.code yX2_canStand cX2_canStand 4 (some .boolean) ∈ lw_tbl := List.mem_of_getElem? (i := 651) (by decide +kernel)
set_option maxRecDepth 100000 in
theorem tw_652 : Cond.methodLink RX2 83 yX2_takeSecond ∈ lw_tbl := List.mem_of_getElem? (i := 652) (by decide +kernel)
set_option maxRecDepth 100000 in
theorem tw_654 : Cond.instanceMethod yX2_takeSecond ∈ lw_tbl := List.mem_of_getElem? (i := 654) (by decide +kernel)
set_option maxRecDepth 100000 in
theorem tw_655 : Cond.code yX2_takeSecond cX2_takeSecond 2 none ∈ lw_tbl := List.mem_of_getElem? (i := 655) (by decide +kernel)
set_option maxRecDepth 100000 in
theorem tw_656 : Cond.methodLink RX2 86 yX2_takeBracket ∈ lw_tbl := List.mem_of_getElem? (i := 656) (by decide +kernel)
set_option maxRecDepth 100000 in
theorem tw_658 : Cond.instanceMethod yX2_takeBracket ∈ lw_tbl := List.mem_of_getElem? (i := 658) (by decide +kernel)
set_option maxRecDepth 100000 in
theorem tw_659 : Cond.code yX2_takeBracket cX2_takeBracket 2 none ∈ lw_tbl := List.mem_of_getElem? (i := 659) (by decide +kernel)
set_option maxRecDepth 100000 in
theorem tw_660 : Cond.methodLink RL 43 yX10_fault ∈ lw_tbl := List.mem_of_getElem? (i := 660) (by decide +kernel)
set_option maxRecDepth 100000 in
theorem tw_661 : Cond.instanceMethod yX10_fault ∈ lw_tbl := List.mem_of_getElem? (i := 661) (by decide +kernel)
set_option maxRecDepth 100000 in
theorem tw_662 : Cond.selects RX10 yX10_fault yX10_fault ∈ lw_tbl := List.mem_of_getElem? (i := 662) (by decide +kernel)
set_option maxRecDepth 100000 in
theorem tw_663 : Cond.code yX10_fault cX10_fault 2 (some .int) ∈ lw_tbl := List.mem_of_getElem? (i := 663) (by decide +kernel)
set_option maxRecDepth 100000 in
theorem tw_664 : Cond.methodLink RL 48 yX10_guest ∈ lw_tbl := List.mem_of_getElem? (i := 664) (by decide +kernel)
set_option maxRecDepth 100000 in
theorem tw_665 : Cond.instanceMethod yX10_guest ∈ lw_tbl := List.mem_of_getElem? (i := 665) (by decide +kernel)
set_option maxRecDepth 100000 in
theorem tw_666 : Cond.selects RX10 yX10_guest yX10_guest ∈ lw_tbl := List.mem_of_getElem? (i := 666) (by decide +kernel)
set_option maxRecDepth 100000 in
theorem tw_667 : Cond.code yX10_guest cX10_guest 7 (some .int) ∈ lw_tbl := List.mem_of_getElem? (i := 667) (by decide +kernel)
