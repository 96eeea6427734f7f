theorem dL_isDevice_429 : decode cL_isDevice 429 = .ok (.iconst 0, 1) := by decide +kernel
theorem dL_isDevice_430 : decode cL_isDevice 430 = .ok (.istore 17, 2) := by decide +kernel
theorem dL_isDevice_432 : decode cL_isDevice 432 = .ok (.iload 17, 2) := by decide +kernel
theorem dL_isDevice_434 : decode cL_isDevice 434 = .ok (.aload 8, 2) := by decide +kernel
theorem dL_isDevice_436 : decode cL_isDevice 436 = .ok (.iconst 2, 1) := by decide +kernel
theorem dL_isDevice_437 : decode cL_isDevice 437 = .ok (.iaload, 1) := by decide +kernel
theorem dL_isDevice_438 : decode cL_isDevice 438 = .ok (.if_icmp .ge 67, 3) := by decide +kernel
theorem dL_isDevice_441 : decode cL_isDevice 441 = .ok (.aload 7, 2) := by decide +kernel
theorem dL_isDevice_443 : decode cL_isDevice 443 = .ok (.iload 17, 2) := by decide +kernel
theorem dL_isDevice_445 : decode cL_isDevice 445 = .ok (.iaload, 1) := by decide +kernel
theorem dL_isDevice_446 : decode cL_isDevice 446 = .ok (.iload 13, 2) := by decide +kernel
theorem dL_isDevice_448 : decode cL_isDevice 448 = .ok (.if_icmp .ne 17, 3) := by decide +kernel
theorem dL_isDevice_451 : decode cL_isDevice 451 = .ok (.aload 6, 2) := by decide +kernel
theorem dL_isDevice_453 : decode cL_isDevice 453 = .ok (.bipush 6, 2) := by decide +kernel
theorem dL_isDevice_455 : decode cL_isDevice 455 = .ok (.iload 17, 2) := by decide +kernel
theorem dL_isDevice_457 : decode cL_isDevice 457 = .ok (.imul, 1) := by decide +kernel
theorem dL_isDevice_458 : decode cL_isDevice 458 = .ok (.iload 9, 2) := by decide +kernel
theorem dL_isDevice_460 : decode cL_isDevice 460 = .ok (.iadd, 1) := by decide +kernel
theorem dL_isDevice_461 : decode cL_isDevice 461 = .ok (.iaload, 1) := by decide +kernel
theorem dL_isDevice_462 : decode cL_isDevice 462 = .ok (.goto 4, 3) := by decide +kernel
theorem dL_isDevice_465 : decode cL_isDevice 465 = .ok (.iconst 0, 1) := by decide +kernel
theorem dL_isDevice_466 : decode cL_isDevice 466 = .ok (.istore 18, 2) := by decide +kernel
theorem dL_isDevice_468 : decode cL_isDevice 468 = .ok (.iload 15, 2) := by decide +kernel
theorem dL_isDevice_470 : decode cL_isDevice 470 = .ok (.iload 18, 2) := by decide +kernel
theorem dL_isDevice_472 : decode cL_isDevice 472 = .ok (.ifCond .le 7, 3) := by decide +kernel
theorem dL_isDevice_475 : decode cL_isDevice 475 = .ok (.iconst 1, 1) := by decide +kernel
theorem dL_isDevice_476 : decode cL_isDevice 476 = .ok (.goto 4, 3) := by decide +kernel
theorem dL_isDevice_479 : decode cL_isDevice 479 = .ok (.iconst 0, 1) := by decide +kernel
theorem dL_isDevice_480 : decode cL_isDevice 480 = .ok (.iadd, 1) := by decide +kernel
theorem dL_isDevice_481 : decode cL_isDevice 481 = .ok (.istore 15, 2) := by decide +kernel
theorem dL_isDevice_483 : decode cL_isDevice 483 = .ok (.iload 18, 2) := by decide +kernel
theorem dL_isDevice_485 : decode cL_isDevice 485 = .ok (.iload 16, 2) := by decide +kernel
theorem dL_isDevice_487 : decode cL_isDevice 487 = .ok (.if_icmp .le 8, 3) := by decide +kernel
theorem dL_isDevice_490 : decode cL_isDevice 490 = .ok (.iload 18, 2) := by decide +kernel
theorem dL_isDevice_492 : decode cL_isDevice 492 = .ok (.goto 5, 3) := by decide +kernel
theorem dL_isDevice_495 : decode cL_isDevice 495 = .ok (.iload 16, 2) := by decide +kernel
theorem dL_isDevice_497 : decode cL_isDevice 497 = .ok (.istore 16, 2) := by decide +kernel
theorem dL_isDevice_499 : decode cL_isDevice 499 = .ok (.iinc 17 1, 3) := by decide +kernel
theorem dL_isDevice_502 : decode cL_isDevice 502 = .ok (.goto (-70), 3) := by decide +kernel
theorem dL_isDevice_505 : decode cL_isDevice 505 = .ok (.aload 8, 2) := by decide +kernel
theorem dL_isDevice_507 : decode cL_isDevice 507 = .ok (.iconst 1, 1) := by decide +kernel
theorem dL_isDevice_508 : decode cL_isDevice 508 = .ok (.iaload, 1) := by decide +kernel
theorem dL_isDevice_509 : decode cL_isDevice 509 = .ok (.iconst 1, 1) := by decide +kernel
theorem dL_isDevice_510 : decode cL_isDevice 510 = .ok (.iadd, 1) := by decide +kernel
theorem dL_isDevice_511 : decode cL_isDevice 511 = .ok (.iload 16, 2) := by decide +kernel
theorem dL_isDevice_513 : decode cL_isDevice 513 = .ok (.isub, 1) := by decide +kernel
theorem dL_isDevice_514 : decode cL_isDevice 514 = .ok (.bipush 99, 2) := by decide +kernel
theorem dL_isDevice_516 : decode cL_isDevice 516 = .ok (.if_icmp .le 8, 3) := by decide +kernel
theorem dL_isDevice_519 : decode cL_isDevice 519 = .ok (.bipush 99, 2) := by decide +kernel
theorem dL_isDevice_521 : decode cL_isDevice 521 = .ok (.goto 12, 3) := by decide +kernel
theorem dL_isDevice_524 : decode cL_isDevice 524 = .ok (.aload 8, 2) := by decide +kernel
theorem dL_isDevice_526 : decode cL_isDevice 526 = .ok (.iconst 1, 1) := by decide +kernel
theorem dL_isDevice_527 : decode cL_isDevice 527 = .ok (.iaload, 1) := by decide +kernel
theorem dL_isDevice_528 : decode cL_isDevice 528 = .ok (.iconst 1, 1) := by decide +kernel
theorem dL_isDevice_529 : decode cL_isDevice 529 = .ok (.iadd, 1) := by decide +kernel
theorem dL_isDevice_530 : decode cL_isDevice 530 = .ok (.iload 16, 2) := by decide +kernel
theorem dL_isDevice_532 : decode cL_isDevice 532 = .ok (.isub, 1) := by decide +kernel
theorem dL_isDevice_533 : decode cL_isDevice 533 = .ok (.istore 17, 2) := by decide +kernel
theorem dL_isDevice_535 : decode cL_isDevice 535 = .ok (.iload 12, 2) := by decide +kernel
theorem dL_isDevice_537 : decode cL_isDevice 537 = .ok (.ifCond .eq 40, 3) := by decide +kernel
theorem dL_isDevice_540 : decode cL_isDevice 540 = .ok (.iload 14, 2) := by decide +kernel
theorem dL_isDevice_542 : decode cL_isDevice 542 = .ok (.ifCond .eq 31, 3) := by decide +kernel
theorem dL_isDevice_545 : decode cL_isDevice 545 = .ok (.aload_n 0, 1) := by decide +kernel
theorem dL_isDevice_546 : decode cL_isDevice 546 = .ok (.iload 9, 2) := by decide +kernel
theorem dL_isDevice_548 : decode cL_isDevice 548 = .ok (.iload 13, 2) := by decide +kernel
theorem dL_isDevice_550 : decode cL_isDevice 550 = .ok (.invokevirtual 53, 3) := by decide +kernel
theorem dL_isDevice_553 : decode cL_isDevice 553 = .ok (.iload 15, 2) := by decide +kernel
theorem dL_isDevice_555 : decode cL_isDevice 555 = .ok (.ifCond .ne 7, 3) := by decide +kernel
theorem dL_isDevice_558 : decode cL_isDevice 558 = .ok (.iconst 0, 1) := by decide +kernel
theorem dL_isDevice_559 : decode cL_isDevice 559 = .ok (.goto 11, 3) := by decide +kernel
theorem dL_isDevice_562 : decode cL_isDevice 562 = .ok (.bipush 100, 2) := by decide +kernel
theorem dL_isDevice_564 : decode cL_isDevice 564 = .ok (.iload 15, 2) := by decide +kernel
theorem dL_isDevice_566 : decode cL_isDevice 566 = .ok (.imul, 1) := by decide +kernel
theorem dL_isDevice_567 : decode cL_isDevice 567 = .ok (.iload 17, 2) := by decide +kernel
theorem dL_isDevice_569 : decode cL_isDevice 569 = .ok (.iadd, 1) := by decide +kernel
theorem dL_isDevice_570 : decode cL_isDevice 570 = .ok (.if_icmp .ne 7, 3) := by decide +kernel
theorem dL_isDevice_573 : decode cL_isDevice 573 = .ok (.iconst 1, 1) := by decide +kernel
theorem dL_isDevice_574 : decode cL_isDevice 574 = .ok (.goto 4, 3) := by decide +kernel
theorem dL_isDevice_577 : decode cL_isDevice 577 = .ok (.iconst 0, 1) := by decide +kernel
theorem dL_isDevice_578 : decode cL_isDevice 578 = .ok (.istore 12, 2) := by decide +kernel
theorem dL_isDevice_580 : decode cL_isDevice 580 = .ok (.iinc 13 1, 3) := by decide +kernel
theorem dL_isDevice_583 : decode cL_isDevice 583 = .ok (.goto (-574), 3) := by decide +kernel
theorem dL_isDevice_586 : decode cL_isDevice 586 = .ok (.iload 12, 2) := by decide +kernel
theorem dL_isDevice_588 : decode cL_isDevice 588 = .ok (.ifCond .eq 18, 3) := by decide +kernel
theorem dL_isDevice_591 : decode cL_isDevice 591 = .ok (.aload_n 0, 1) := by decide +kernel
theorem dL_isDevice_592 : decode cL_isDevice 592 = .ok (.iload 9, 2) := by decide +kernel
theorem dL_isDevice_594 : decode cL_isDevice 594 = .ok (.invokevirtual 56, 3) := by decide +kernel
theorem dL_isDevice_597 : decode cL_isDevice 597 = .ok (.iload 11, 2) := by decide +kernel
theorem dL_isDevice_599 : decode cL_isDevice 599 = .ok (.if_icmp .ne 7, 3) := by decide +kernel
theorem dL_isDevice_602 : decode cL_isDevice 602 = .ok (.iconst 1, 1) := by decide +kernel
theorem dL_isDevice_603 : decode cL_isDevice 603 = .ok (.goto 4, 3) := by decide +kernel
theorem dL_isDevice_606 : decode cL_isDevice 606 = .ok (.iconst 0, 1) := by decide +kernel
theorem dL_isDevice_607 : decode cL_isDevice 607 = .ok (.ireturn, 1) := by decide +kernel
theorem dL_isPair_0 : decode cL_isPair 0 = .ok (.iconst 0, 1) := by decide +kernel
theorem dL_isPair_1 : decode cL_isPair 1 = .ok (.istore 10, 2) := by decide +kernel
theorem dL_isPair_3 : decode cL_isPair 3 = .ok (.iconst 0, 1) := by decide +kernel
theorem dL_isPair_4 : decode cL_isPair 4 = .ok (.istore 11, 2) := by decide +kernel
theorem dL_isPair_6 : decode cL_isPair 6 = .ok (.iconst 0, 1) := by decide +kernel
theorem dL_isPair_7 : decode cL_isPair 7 = .ok (.istore 12, 2) := by decide +kernel
theorem dL_isPair_9 : decode cL_isPair 9 = .ok (.iload 12, 2) := by decide +kernel
theorem dL_isPair_11 : decode cL_isPair 11 = .ok (.aload 7, 2) := by decide +kernel
theorem dL_isPair_13 : decode cL_isPair 13 = .ok (.iconst 0, 1) := by decide +kernel
theorem dL_isPair_14 : decode cL_isPair 14 = .ok (.iaload, 1) := by decide +kernel
theorem dL_isPair_15 : decode cL_isPair 15 = .ok (.if_icmp .ge 143, 3) := by decide +kernel
theorem dL_isPair_18 : decode cL_isPair 18 = .ok (.aload_n 1, 1) := by decide +kernel
theorem dL_isPair_19 : decode cL_isPair 19 = .ok (.aload_n 2, 1) := by decide +kernel
theorem dL_isPair_20 : decode cL_isPair 20 = .ok (.aload 4, 2) := by decide +kernel
theorem dL_isPair_22 : decode cL_isPair 22 = .ok (.aload 5, 2) := by decide +kernel
theorem dL_isPair_24 : decode cL_isPair 24 = .ok (.aload 6, 2) := by decide +kernel
theorem dL_isPair_26 : decode cL_isPair 26 = .ok (.aload 7, 2) := by decide +kernel
theorem dL_isPair_28 : decode cL_isPair 28 = .ok (.iload 8, 2) := by decide +kernel
theorem dL_isPair_30 : decode cL_isPair 30 = .ok (.iload 12, 2) := by decide +kernel
theorem dL_isPair_32 : decode cL_isPair 32 = .ok (.invokestatic 90, 3) := by decide +kernel
theorem dL_isPair_35 : decode cL_isPair 35 = .ok (.iconst 1, 1) := by decide +kernel
theorem dL_isPair_36 : decode cL_isPair 36 = .ok (.if_icmp .eq 24, 3) := by decide +kernel
theorem dL_isPair_39 : decode cL_isPair 39 = .ok (.aload_n 1, 1) := by decide +kernel
theorem dL_isPair_40 : decode cL_isPair 40 = .ok (.aload_n 2, 1) := by decide +kernel
theorem dL_isPair_41 : decode cL_isPair 41 = .ok (.aload 4, 2) := by decide +kernel
theorem dL_isPair_43 : decode cL_isPair 43 = .ok (.aload 5, 2) := by decide +kernel
theorem dL_isPair_45 : decode cL_isPair 45 = .ok (.aload 6, 2) := by decide +kernel
theorem dL_isPair_47 : decode cL_isPair 47 = .ok (.aload 7, 2) := by decide +kernel
theorem dL_isPair_49 : decode cL_isPair 49 = .ok (.iload 9, 2) := by decide +kernel
theorem dL_isPair_51 : decode cL_isPair 51 = .ok (.iload 12, 2) := by decide +kernel
theorem dL_isPair_53 : decode cL_isPair 53 = .ok (.invokestatic 90, 3) := by decide +kernel
theorem dL_isPair_56 : decode cL_isPair 56 = .ok (.iconst 1, 1) := by decide +kernel
theorem dL_isPair_57 : decode cL_isPair 57 = .ok (.if_icmp .ne 7, 3) := by decide +kernel
theorem dL_isPair_60 : decode cL_isPair 60 = .ok (.iconst 1, 1) := by decide +kernel
theorem dL_isPair_61 : decode cL_isPair 61 = .ok (.goto 4, 3) := by decide +kernel
theorem dL_isPair_64 : decode cL_isPair 64 = .ok (.iconst 0, 1) := by decide +kernel
theorem dL_isPair_65 : decode cL_isPair 65 = .ok (.istore 13, 2) := by decide +kernel
theorem dL_isPair_67 : decode cL_isPair 67 = .ok (.iconst 0, 1) := by decide +kernel
theorem dL_isPair_68 : decode cL_isPair 68 = .ok (.istore 14, 2) := by decide +kernel
theorem dL_isPair_70 : decode cL_isPair 70 = .ok (.iload 14, 2) := by decide +kernel
theorem dL_isPair_72 : decode cL_isPair 72 = .ok (.iconst 4, 1) := by decide +kernel
theorem dL_isPair_73 : decode cL_isPair 73 = .ok (.if_icmp .ge 79, 3) := by decide +kernel
theorem dL_isPair_76 : decode cL_isPair 76 = .ok (.iload 13, 2) := by decide +kernel
theorem dL_isPair_78 : decode cL_isPair 78 = .ok (.ifCond .eq 68, 3) := by decide +kernel
theorem dL_isPair_81 : decode cL_isPair 81 = .ok (.aload_n 3, 1) := by decide +kernel
theorem dL_isPair_82 : decode cL_isPair 82 = .ok (.iload 8, 2) := by decide +kernel
theorem dL_isPair_84 : decode cL_isPair 84 = .ok (.iload 12, 2) := by decide +kernel
theorem dL_isPair_86 : decode cL_isPair 86 = .ok (.iload 14, 2) := by decide +kernel
theorem dL_isPair_88 : decode cL_isPair 88 = .ok (.invokestatic 99, 3) := by decide +kernel
theorem dL_isPair_91 : decode cL_isPair 91 = .ok (.ifCond .eq 55, 3) := by decide +kernel
theorem dL_isPair_94 : decode cL_isPair 94 = .ok (.aload_n 3, 1) := by decide +kernel
theorem dL_isPair_95 : decode cL_isPair 95 = .ok (.iload 9, 2) := by decide +kernel
theorem dL_isPair_97 : decode cL_isPair 97 = .ok (.iload 12, 2) := by decide +kernel
theorem dL_isPair_99 : decode cL_isPair 99 = .ok (.iload 14, 2) := by decide +kernel
theorem dL_isPair_101 : decode cL_isPair 101 = .ok (.invokestatic 99, 3) := by decide +kernel
theorem dL_isPair_104 : decode cL_isPair 104 = .ok (.ifCond .eq 42, 3) := by decide +kernel
theorem dL_isPair_107 : decode cL_isPair 107 = .ok (.iinc 10 1, 3) := by decide +kernel
theorem dL_isPair_110 : decode cL_isPair 110 = .ok (.iload 11, 2) := by decide +kernel
theorem dL_isPair_112 : decode cL_isPair 112 = .ok (.aload_n 1, 1) := by decide +kernel
theorem dL_isPair_113 : decode cL_isPair 113 = .ok (.iload 8, 2) := by decide +kernel
theorem dL_isPair_115 : decode cL_isPair 115 = .ok (.iload 12, 2) := by decide +kernel
theorem dL_isPair_117 : decode cL_isPair 117 = .ok (.iload 14, 2) := by decide +kernel
theorem dL_isPair_119 : decode cL_isPair 119 = .ok (.invokestatic 71, 3) := by decide +kernel
theorem dL_isPair_122 : decode cL_isPair 122 = .ok (.laload, 1) := by decide +kernel
theorem dL_isPair_123 : decode cL_isPair 123 = .ok (.aload_n 1, 1) := by decide +kernel
theorem dL_isPair_124 : decode cL_isPair 124 = .ok (.iload 9, 2) := by decide +kernel
theorem dL_isPair_126 : decode cL_isPair 126 = .ok (.iload 12, 2) := by decide +kernel
theorem dL_isPair_128 : decode cL_isPair 128 = .ok (.iload 14, 2) := by decide +kernel
theorem dL_isPair_130 : decode cL_isPair 130 = .ok (.invokestatic 71, 3) := by decide +kernel
theorem dL_isPair_133 : decode cL_isPair 133 = .ok (.laload, 1) := by decide +kernel
theorem dL_isPair_134 : decode cL_isPair 134 = .ok (.lcmp, 1) := by decide +kernel
theorem dL_isPair_135 : decode cL_isPair 135 = .ok (.ifCond .ne 7, 3) := by decide +kernel
theorem dL_isPair_138 : decode cL_isPair 138 = .ok (.iconst 1, 1) := by decide +kernel
theorem dL_isPair_139 : decode cL_isPair 139 = .ok (.goto 4, 3) := by decide +kernel
theorem dL_isPair_142 : decode cL_isPair 142 = .ok (.iconst 0, 1) := by decide +kernel
theorem dL_isPair_143 : decode cL_isPair 143 = .ok (.iadd, 1) := by decide +kernel
theorem dL_isPair_144 : decode cL_isPair 144 = .ok (.istore 11, 2) := by decide +kernel
theorem dL_isPair_146 : decode cL_isPair 146 = .ok (.iinc 14 1, 3) := by decide +kernel
theorem dL_isPair_149 : decode cL_isPair 149 = .ok (.goto (-79), 3) := by decide +kernel
theorem dL_isPair_152 : decode cL_isPair 152 = .ok (.iinc 12 1, 3) := by decide +kernel
theorem dL_isPair_155 : decode cL_isPair 155 = .ok (.goto (-146), 3) := by decide +kernel
theorem dL_isPair_158 : decode cL_isPair 158 = .ok (.aload_n 0, 1) := by decide +kernel
theorem dL_isPair_159 : decode cL_isPair 159 = .ok (.iload 8, 2) := by decide +kernel
theorem dL_isPair_161 : decode cL_isPair 161 = .ok (.iload 9, 2) := by decide +kernel
theorem dL_isPair_163 : decode cL_isPair 163 = .ok (.invokevirtual 59, 3) := by decide +kernel
theorem dL_isPair_166 : decode cL_isPair 166 = .ok (.iload 10, 2) := by decide +kernel
theorem dL_isPair_168 : decode cL_isPair 168 = .ok (.ifCond .ne 7, 3) := by decide +kernel
theorem dL_isPair_171 : decode cL_isPair 171 = .ok (.fconst 1, 1) := by decide +kernel
theorem dL_isPair_172 : decode cL_isPair 172 = .ok (.goto 10, 3) := by decide +kernel
theorem dL_isPair_175 : decode cL_isPair 175 = .ok (.iload 11, 2) := by decide +kernel
theorem dL_isPair_177 : decode cL_isPair 177 = .ok (.i2f, 1) := by decide +kernel
theorem dL_isPair_178 : decode cL_isPair 178 = .ok (.iload 10, 2) := by decide +kernel
theorem dL_isPair_180 : decode cL_isPair 180 = .ok (.i2f, 1) := by decide +kernel
theorem dL_isPair_181 : decode cL_isPair 181 = .ok (.fdiv, 1) := by decide +kernel
theorem dL_isPair_182 : decode cL_isPair 182 = .ok (.fcmp .l, 1) := by decide +kernel
theorem dL_isPair_183 : decode cL_isPair 183 = .ok (.ifCond .ne 7, 3) := by decide +kernel
theorem dL_isPair_186 : decode cL_isPair 186 = .ok (.iconst 1, 1) := by decide +kernel
theorem dL_isPair_187 : decode cL_isPair 187 = .ok (.goto 4, 3) := by decide +kernel
theorem dL_isPair_190 : decode cL_isPair 190 = .ok (.iconst 0, 1) := by decide +kernel
theorem dL_isPair_191 : decode cL_isPair 191 = .ok (.ireturn, 1) := by decide +kernel
theorem dL_forgets_0 : decode cL_forgets 0 = .ok (.iconst 0, 1) := by decide +kernel
theorem dL_forgets_1 : decode cL_forgets 1 = .ok (.istore 10, 2) := by decide +kernel
theorem dL_forgets_3 : decode cL_forgets 3 = .ok (.iload 10, 2) := by decide +kernel
theorem dL_forgets_5 : decode cL_forgets 5 = .ok (.iconst 4, 1) := by decide +kernel
theorem dL_forgets_6 : decode cL_forgets 6 = .ok (.if_icmp .ge 115, 3) := by decide +kernel
theorem dL_forgets_9 : decode cL_forgets 9 = .ok (.iload 8, 2) := by decide +kernel
theorem dL_forgets_11 : decode cL_forgets 11 = .ok (.iload 9, 2) := by decide +kernel
theorem dL_forgets_13 : decode cL_forgets 13 = .ok (.iload 10, 2) := by decide +kernel
theorem dL_forgets_15 : decode cL_forgets 15 = .ok (.invokestatic 71, 3) := by decide +kernel
theorem dL_forgets_18 : decode cL_forgets 18 = .ok (.istore 11, 2) := by decide +kernel
theorem dL_forgets_20 : decode cL_forgets 20 = .ok (.aload_n 2, 1) := by decide +kernel
theorem dL_forgets_21 : decode cL_forgets 21 = .ok (.iload 11, 2) := by decide +kernel
theorem dL_forgets_23 : decode cL_forgets 23 = .ok (.aload_n 2, 1) := by decide +kernel
theorem dL_forgets_24 : decode cL_forgets 24 = .ok (.iload 11, 2) := by decide +kernel
theorem dL_forgets_26 : decode cL_forgets 26 = .ok (.laload, 1) := by decide +kernel
theorem dL_forgets_27 : decode cL_forgets 27 = .ok (.aload_n 1, 1) := by decide +kernel
theorem dL_forgets_28 : decode cL_forgets 28 = .ok (.iload 11, 2) := by decide +kernel
theorem dL_forgets_30 : decode cL_forgets 30 = .ok (.laload, 1) := by decide +kernel
theorem dL_forgets_31 : decode cL_forgets 31 = .ok (.invokestatic 103, 3) := by decide +kernel
theorem dL_forgets_34 : decode cL_forgets 34 = .ok (.lastore, 1) := by decide +kernel
theorem dL_forgets_35 : decode cL_forgets 35 = .ok (.iconst 0, 1) := by decide +kernel
theorem dL_forgets_36 : decode cL_forgets 36 = .ok (.istore 12, 2) := by decide +kernel
theorem dL_forgets_38 : decode cL_forgets 38 = .ok (.iload 12, 2) := by decide +kernel
theorem dL_forgets_40 : decode cL_forgets 40 = .ok (.aload 7, 2) := by decide +kernel
theorem dL_forgets_42 : decode cL_forgets 42 = .ok (.iconst 2, 1) := by decide +kernel
theorem dL_forgets_43 : decode cL_forgets 43 = .ok (.iaload, 1) := by decide +kernel
theorem dL_forgets_44 : decode cL_forgets 44 = .ok (.if_icmp .ge 61, 3) := by decide +kernel
theorem dL_forgets_47 : decode cL_forgets 47 = .ok (.aload_n 2, 1) := by decide +kernel
theorem dL_forgets_48 : decode cL_forgets 48 = .ok (.iload 11, 2) := by decide +kernel
theorem dL_forgets_50 : decode cL_forgets 50 = .ok (.aload 6, 2) := by decide +kernel
theorem dL_forgets_52 : decode cL_forgets 52 = .ok (.iload 12, 2) := by decide +kernel
theorem dL_forgets_54 : decode cL_forgets 54 = .ok (.iaload, 1) := by decide +kernel
theorem dL_forgets_55 : decode cL_forgets 55 = .ok (.iload 9, 2) := by decide +kernel
theorem dL_forgets_57 : decode cL_forgets 57 = .ok (.if_icmp .ne 37, 3) := by decide +kernel
theorem dL_forgets_60 : decode cL_forgets 60 = .ok (.aload 5, 2) := by decide +kernel
theorem dL_forgets_62 : decode cL_forgets 62 = .ok (.bipush 6, 2) := by decide +kernel
theorem dL_forgets_64 : decode cL_forgets 64 = .ok (.iload 12, 2) := by decide +kernel
theorem dL_forgets_66 : decode cL_forgets 66 = .ok (.imul, 1) := by decide +kernel
theorem dL_forgets_67 : decode cL_forgets 67 = .ok (.iload 8, 2) := by decide +kernel
theorem dL_forgets_69 : decode cL_forgets 69 = .ok (.iadd, 1) := by decide +kernel
theorem dL_forgets_70 : decode cL_forgets 70 = .ok (.iaload, 1) := by decide +kernel
theorem dL_forgets_71 : decode cL_forgets 71 = .ok (.ifCond .le 23, 3) := by decide +kernel
theorem dL_forgets_74 : decode cL_forgets 74 = .ok (.aload_n 2, 1) := by decide +kernel
theorem dL_forgets_75 : decode cL_forgets 75 = .ok (.iload 11, 2) := by decide +kernel
theorem dL_forgets_77 : decode cL_forgets 77 = .ok (.laload, 1) := by decide +kernel
theorem dL_forgets_78 : decode cL_forgets 78 = .ok (.aload 4, 2) := by decide +kernel
theorem dL_forgets_80 : decode cL_forgets 80 = .ok (.iconst 4, 1) := by decide +kernel
theorem dL_forgets_81 : decode cL_forgets 81 = .ok (.iload 12, 2) := by decide +kernel
theorem dL_forgets_83 : decode cL_forgets 83 = .ok (.imul, 1) := by decide +kernel
theorem dL_forgets_84 : decode cL_forgets 84 = .ok (.iload 10, 2) := by decide +kernel
theorem dL_forgets_86 : decode cL_forgets 86 = .ok (.iadd, 1) := by decide +kernel
theorem dL_forgets_87 : decode cL_forgets 87 = .ok (.laload, 1) := by decide +kernel
theorem dL_forgets_88 : decode cL_forgets 88 = .ok (.invokestatic 103, 3) := by decide +kernel
theorem dL_forgets_91 : decode cL_forgets 91 = .ok (.goto 7, 3) := by decide +kernel
theorem dL_forgets_94 : decode cL_forgets 94 = .ok (.aload_n 2, 1) := by decide +kernel
theorem dL_forgets_95 : decode cL_forgets 95 = .ok (.iload 11, 2) := by decide +kernel
theorem dL_forgets_97 : decode cL_forgets 97 = .ok (.laload, 1) := by decide +kernel
theorem dL_forgets_98 : decode cL_forgets 98 = .ok (.lastore, 1) := by decide +kernel
theorem dL_forgets_99 : decode cL_forgets 99 = .ok (.iinc 12 1, 3) := by decide +kernel
theorem dL_forgets_102 : decode cL_forgets 102 = .ok (.goto (-64), 3) := by decide +kernel
theorem dL_forgets_105 : decode cL_forgets 105 = .ok (.aload_n 0, 1) := by decide +kernel
theorem dL_forgets_106 : decode cL_forgets 106 = .ok (.iload 11, 2) := by decide +kernel
theorem dL_forgets_108 : decode cL_forgets 108 = .ok (.lconst 0, 1) := by decide +kernel
theorem dL_forgets_109 : decode cL_forgets 109 = .ok (.lastore, 1) := by decide +kernel
theorem dL_forgets_110 : decode cL_forgets 110 = .ok (.aload_n 1, 1) := by decide +kernel
theorem dL_forgets_111 : decode cL_forgets 111 = .ok (.iload 11, 2) := by decide +kernel
theorem dL_forgets_113 : decode cL_forgets 113 = .ok (.lconst 0, 1) := by decide +kernel
theorem dL_forgets_114 : decode cL_forgets 114 = .ok (.lastore, 1) := by decide +kernel
theorem dL_forgets_115 : decode cL_forgets 115 = .ok (.iinc 10 1, 3) := by decide +kernel
theorem dL_forgets_118 : decode cL_forgets 118 = .ok (.goto (-115), 3) := by decide +kernel
theorem dL_forgets_121 : decode cL_forgets 121 = .ok (.iconst 0, 1) := by decide +kernel
theorem dL_forgets_122 : decode cL_forgets 122 = .ok (.istore 10, 2) := by decide +kernel
theorem dL_forgets_124 : decode cL_forgets 124 = .ok (.iload 10, 2) := by decide +kernel
theorem dL_forgets_126 : decode cL_forgets 126 = .ok (.aload 7, 2) := by decide +kernel
theorem dL_forgets_128 : decode cL_forgets 128 = .ok (.iconst 2, 1) := by decide +kernel
theorem dL_forgets_129 : decode cL_forgets 129 = .ok (.iaload, 1) := by decide +kernel
theorem dL_forgets_130 : decode cL_forgets 130 = .ok (.if_icmp .ge 45, 3) := by decide +kernel
theorem dL_forgets_133 : decode cL_forgets 133 = .ok (.aload 5, 2) := by decide +kernel
theorem dL_forgets_135 : decode cL_forgets 135 = .ok (.bipush 6, 2) := by decide +kernel
theorem dL_forgets_137 : decode cL_forgets 137 = .ok (.iload 10, 2) := by decide +kernel
theorem dL_forgets_139 : decode cL_forgets 139 = .ok (.imul, 1) := by decide +kernel
theorem dL_forgets_140 : decode cL_forgets 140 = .ok (.iload 8, 2) := by decide +kernel
theorem dL_forgets_142 : decode cL_forgets 142 = .ok (.iadd, 1) := by decide +kernel
theorem dL_forgets_143 : decode cL_forgets 143 = .ok (.aload 6, 2) := by decide +kernel
theorem dL_forgets_145 : decode cL_forgets 145 = .ok (.iload 10, 2) := by decide +kernel
theorem dL_forgets_147 : decode cL_forgets 147 = .ok (.iaload, 1) := by decide +kernel
theorem dL_forgets_148 : decode cL_forgets 148 = .ok (.iload 9, 2) := by decide +kernel
theorem dL_forgets_150 : decode cL_forgets 150 = .ok (.if_icmp .ne 7, 3) := by decide +kernel
theorem dL_forgets_153 : decode cL_forgets 153 = .ok (.iconst 0, 1) := by decide +kernel
theorem dL_forgets_154 : decode cL_forgets 154 = .ok (.goto 14, 3) := by decide +kernel
theorem dL_forgets_157 : decode cL_forgets 157 = .ok (.aload 5, 2) := by decide +kernel
theorem dL_forgets_159 : decode cL_forgets 159 = .ok (.bipush 6, 2) := by decide +kernel
theorem dL_forgets_161 : decode cL_forgets 161 = .ok (.iload 10, 2) := by decide +kernel
theorem dL_forgets_163 : decode cL_forgets 163 = .ok (.imul, 1) := by decide +kernel
theorem dL_forgets_164 : decode cL_forgets 164 = .ok (.iload 8, 2) := by decide +kernel
theorem dL_forgets_166 : decode cL_forgets 166 = .ok (.iadd, 1) := by decide +kernel
theorem dL_forgets_167 : decode cL_forgets 167 = .ok (.iaload, 1) := by decide +kernel
theorem dL_forgets_168 : decode cL_forgets 168 = .ok (.iastore, 1) := by decide +kernel
theorem dL_forgets_169 : decode cL_forgets 169 = .ok (.iinc 10 1, 3) := by decide +kernel
theorem dL_forgets_172 : decode cL_forgets 172 = .ok (.goto (-48), 3) := by decide +kernel
theorem dL_forgets_175 : decode cL_forgets 175 = .ok (.aload_n 3, 1) := by decide +kernel
theorem dL_forgets_176 : decode cL_forgets 176 = .ok (.iconst 2, 1) := by decide +kernel
theorem dL_forgets_177 : decode cL_forgets 177 = .ok (.iload 8, 2) := by decide +kernel
theorem dL_forgets_179 : decode cL_forgets 179 = .ok (.imul, 1) := by decide +kernel
theorem dL_forgets_180 : decode cL_forgets 180 = .ok (.iload 9, 2) := by decide +kernel
theorem dL_forgets_182 : decode cL_forgets 182 = .ok (.iadd, 1) := by decide +kernel
theorem dL_forgets_183 : decode cL_forgets 183 = .ok (.iconst 2, 1) := by decide +kernel
theorem dL_forgets_184 : decode cL_forgets 184 = .ok (.iastore, 1) := by decide +kernel
theorem dL_forgets_185 : decode cL_forgets 185 = .ok (.return_, 1) := by decide +kernel
theorem dL_isOld_0 : decode cL_isOld 0 = .ok (.aload_n 2, 1) := by decide +kernel
theorem dL_isOld_1 : decode cL_isOld 1 = .ok (.iconst 2, 1) := by decide +kernel
theorem dL_isOld_2 : decode cL_isOld 2 = .ok (.iload_n 3, 1) := by decide +kernel
theorem dL_isOld_3 : decode cL_isOld 3 = .ok (.imul, 1) := by decide +kernel
theorem dL_isOld_4 : decode cL_isOld 4 = .ok (.iload 5, 2) := by decide +kernel
theorem dL_isOld_6 : decode cL_isOld 6 = .ok (.iadd, 1) := by decide +kernel
theorem dL_isOld_7 : decode cL_isOld 7 = .ok (.iaload, 1) := by decide +kernel
theorem dL_isOld_8 : decode cL_isOld 8 = .ok (.iconst 1, 1) := by decide +kernel
theorem dL_isOld_9 : decode cL_isOld 9 = .ok (.if_icmp .le 7, 3) := by decide +kernel
theorem dL_isOld_12 : decode cL_isOld 12 = .ok (.iconst 1, 1) := by decide +kernel
theorem dL_isOld_13 : decode cL_isOld 13 = .ok (.goto 4, 3) := by decide +kernel
theorem dL_isOld_16 : decode cL_isOld 16 = .ok (.iconst 0, 1) := by decide +kernel
theorem dL_isOld_17 : decode cL_isOld 17 = .ok (.istore 6, 2) := by decide +kernel
theorem dL_isOld_19 : decode cL_isOld 19 = .ok (.iconst 0, 1) := by decide +kernel
theorem dL_isOld_20 : decode cL_isOld 20 = .ok (.istore 7, 2) := by decide +kernel
theorem dL_isOld_22 : decode cL_isOld 22 = .ok (.iload 7, 2) := by decide +kernel
theorem dL_isOld_24 : decode cL_isOld 24 = .ok (.iconst 4, 1) := by decide +kernel
theorem dL_isOld_25 : decode cL_isOld 25 = .ok (.if_icmp .ge 48, 3) := by decide +kernel
theorem dL_isOld_28 : decode cL_isOld 28 = .ok (.iload 6, 2) := by decide +kernel
theorem dL_isOld_30 : decode cL_isOld 30 = .ok (.ifCond .eq 34, 3) := by decide +kernel
theorem dL_isOld_33 : decode cL_isOld 33 = .ok (.aload_n 1, 1) := by decide +kernel
theorem dL_isOld_34 : decode cL_isOld 34 = .ok (.iload_n 3, 1) := by decide +kernel
theorem dL_isOld_35 : decode cL_isOld 35 = .ok (.iload 5, 2) := by decide +kernel
theorem dL_isOld_37 : decode cL_isOld 37 = .ok (.iload 7, 2) := by decide +kernel
theorem dL_isOld_39 : decode cL_isOld 39 = .ok (.invokestatic 71, 3) := by decide +kernel
theorem dL_isOld_42 : decode cL_isOld 42 = .ok (.laload, 1) := by decide +kernel
theorem dL_isOld_43 : decode cL_isOld 43 = .ok (.aload_n 0, 1) := by decide +kernel
theorem dL_isOld_44 : decode cL_isOld 44 = .ok (.iload 4, 2) := by decide +kernel
theorem dL_isOld_46 : decode cL_isOld 46 = .ok (.iload 5, 2) := by decide +kernel
theorem dL_isOld_48 : decode cL_isOld 48 = .ok (.iload 7, 2) := by decide +kernel
theorem dL_isOld_50 : decode cL_isOld 50 = .ok (.invokestatic 71, 3) := by decide +kernel
theorem dL_isOld_53 : decode cL_isOld 53 = .ok (.laload, 1) := by decide +kernel
theorem dL_isOld_54 : decode cL_isOld 54 = .ok (.invokestatic 78, 3) := by decide +kernel
theorem dL_isOld_57 : decode cL_isOld 57 = .ok (.ifCond .eq 7, 3) := by decide +kernel
theorem dL_isOld_60 : decode cL_isOld 60 = .ok (.iconst 1, 1) := by decide +kernel
theorem dL_isOld_61 : decode cL_isOld 61 = .ok (.goto 4, 3) := by decide +kernel
theorem dL_isOld_64 : decode cL_isOld 64 = .ok (.iconst 0, 1) := by decide +kernel
theorem dL_isOld_65 : decode cL_isOld 65 = .ok (.istore 6, 2) := by decide +kernel
theorem dL_isOld_67 : decode cL_isOld 67 = .ok (.iinc 7 1, 3) := by decide +kernel
theorem dL_isOld_70 : decode cL_isOld 70 = .ok (.goto (-48), 3) := by decide +kernel
theorem dL_isOld_73 : decode cL_isOld 73 = .ok (.iload 6, 2) := by decide +kernel
theorem dL_isOld_75 : decode cL_isOld 75 = .ok (.ireturn, 1) := by decide +kernel
theorem dL_joined_0 : decode cL_joined 0 = .ok (.lconst 0, 1) := by decide +kernel
theorem dL_joined_1 : decode cL_joined 1 = .ok (.lstore 8, 2) := by decide +kernel
theorem dL_joined_3 : decode cL_joined 3 = .ok (.iconst 0, 1) := by decide +kernel
theorem dL_joined_4 : decode cL_joined 4 = .ok (.istore 10, 2) := by decide +kernel
theorem dL_joined_6 : decode cL_joined 6 = .ok (.iload 10, 2) := by decide +kernel
theorem dL_joined_8 : decode cL_joined 8 = .ok (.bipush 6, 2) := by decide +kernel
theorem dL_joined_10 : decode cL_joined 10 = .ok (.if_icmp .ge 88, 3) := by decide +kernel
theorem dL_joined_13 : decode cL_joined 13 = .ok (.lload_n 0, 1) := by decide +kernel
theorem dL_joined_14 : decode cL_joined 14 = .ok (.iload 10, 2) := by decide +kernel
theorem dL_joined_16 : decode cL_joined 16 = .ok (.invokestatic 65, 3) := by decide +kernel
theorem dL_joined_19 : decode cL_joined 19 = .ok (.istore 11, 2) := by decide +kernel
theorem dL_joined_21 : decode cL_joined 21 = .ok (.lload_n 2, 1) := by decide +kernel
theorem dL_joined_22 : decode cL_joined 22 = .ok (.iload 10, 2) := by decide +kernel
theorem dL_joined_24 : decode cL_joined 24 = .ok (.invokestatic 65, 3) := by decide +kernel
theorem dL_joined_27 : decode cL_joined 27 = .ok (.istore 12, 2) := by decide +kernel
theorem dL_joined_29 : decode cL_joined 29 = .ok (.iload 11, 2) := by decide +kernel
theorem dL_joined_31 : decode cL_joined 31 = .ok (.iload 12, 2) := by decide +kernel
theorem dL_joined_33 : decode cL_joined 33 = .ok (.if_icmp .ne 8, 3) := by decide +kernel
theorem dL_joined_36 : decode cL_joined 36 = .ok (.iload 11, 2) := by decide +kernel
theorem dL_joined_38 : decode cL_joined 38 = .ok (.goto 38, 3) := by decide +kernel
theorem dL_joined_41 : decode cL_joined 41 = .ok (.iload 11, 2) := by decide +kernel
theorem dL_joined_43 : decode cL_joined 43 = .ok (.lload 6, 2) := by decide +kernel
theorem dL_joined_45 : decode cL_joined 45 = .ok (.iload 10, 2) := by decide +kernel
theorem dL_joined_47 : decode cL_joined 47 = .ok (.invokestatic 65, 3) := by decide +kernel
theorem dL_joined_50 : decode cL_joined 50 = .ok (.if_icmp .le 8, 3) := by decide +kernel
theorem dL_joined_53 : decode cL_joined 53 = .ok (.iload 11, 2) := by decide +kernel
theorem dL_joined_55 : decode cL_joined 55 = .ok (.goto 21, 3) := by decide +kernel
theorem dL_joined_58 : decode cL_joined 58 = .ok (.iload 12, 2) := by decide +kernel
theorem dL_joined_60 : decode cL_joined 60 = .ok (.lload 4, 2) := by decide +kernel
theorem dL_joined_62 : decode cL_joined 62 = .ok (.iload 10, 2) := by decide +kernel
theorem dL_joined_64 : decode cL_joined 64 = .ok (.invokestatic 65, 3) := by decide +kernel
theorem dL_joined_67 : decode cL_joined 67 = .ok (.if_icmp .le 8, 3) := by decide +kernel
theorem dL_joined_70 : decode cL_joined 70 = .ok (.iload 12, 2) := by decide +kernel
theorem dL_joined_72 : decode cL_joined 72 = .ok (.goto 4, 3) := by decide +kernel
theorem dL_joined_75 : decode cL_joined 75 = .ok (.iconst 0, 1) := by decide +kernel
theorem dL_joined_76 : decode cL_joined 76 = .ok (.istore 13, 2) := by decide +kernel
theorem dL_joined_78 : decode cL_joined 78 = .ok (.lload 8, 2) := by decide +kernel
theorem dL_joined_80 : decode cL_joined 80 = .ok (.iload 13, 2) := by decide +kernel
theorem dL_joined_82 : decode cL_joined 82 = .ok (.i2l, 1) := by decide +kernel
theorem dL_joined_83 : decode cL_joined 83 = .ok (.bipush 6, 2) := by decide +kernel
theorem dL_joined_85 : decode cL_joined 85 = .ok (.iload 10, 2) := by decide +kernel
theorem dL_joined_87 : decode cL_joined 87 = .ok (.imul, 1) := by decide +kernel
theorem dL_joined_88 : decode cL_joined 88 = .ok (.lshl, 1) := by decide +kernel
theorem dL_joined_89 : decode cL_joined 89 = .ok (.lor, 1) := by decide +kernel
theorem dL_joined_90 : decode cL_joined 90 = .ok (.lstore 8, 2) := by decide +kernel
theorem dL_joined_92 : decode cL_joined 92 = .ok (.iinc 10 1, 3) := by decide +kernel
theorem dL_joined_95 : decode cL_joined 95 = .ok (.goto (-89), 3) := by decide +kernel
theorem dL_joined_98 : decode cL_joined 98 = .ok (.lload 8, 2) := by decide +kernel
theorem dL_joined_100 : decode cL_joined 100 = .ok (.lreturn, 1) := by decide +kernel
theorem dL_fresh_0 : decode cL_fresh 0 = .ok (.iconst 0, 1) := by decide +kernel
theorem dL_fresh_1 : decode cL_fresh 1 = .ok (.istore 4, 2) := by decide +kernel
theorem dL_fresh_3 : decode cL_fresh 3 = .ok (.iconst 0, 1) := by decide +kernel
theorem dL_fresh_4 : decode cL_fresh 4 = .ok (.istore 5, 2) := by decide +kernel
theorem dL_fresh_6 : decode cL_fresh 6 = .ok (.iload 5, 2) := by decide +kernel
theorem dL_fresh_8 : decode cL_fresh 8 = .ok (.bipush 6, 2) := by decide +kernel
theorem dL_fresh_10 : decode cL_fresh 10 = .ok (.if_icmp .ge 43, 3) := by decide +kernel
theorem dL_fresh_13 : decode cL_fresh 13 = .ok (.iload 4, 2) := by decide +kernel
theorem dL_fresh_15 : decode cL_fresh 15 = .ok (.lload_n 2, 1) := by decide +kernel
theorem dL_fresh_16 : decode cL_fresh 16 = .ok (.iload 5, 2) := by decide +kernel
theorem dL_fresh_18 : decode cL_fresh 18 = .ok (.invokestatic 65, 3) := by decide +kernel
theorem dL_fresh_21 : decode cL_fresh 21 = .ok (.ifCond .le 22, 3) := by decide +kernel
theorem dL_fresh_24 : decode cL_fresh 24 = .ok (.lload_n 2, 1) := by decide +kernel
theorem dL_fresh_25 : decode cL_fresh 25 = .ok (.iload 5, 2) := by decide +kernel
theorem dL_fresh_27 : decode cL_fresh 27 = .ok (.invokestatic 65, 3) := by decide +kernel
theorem dL_fresh_30 : decode cL_fresh 30 = .ok (.lload_n 0, 1) := by decide +kernel
theorem dL_fresh_31 : decode cL_fresh 31 = .ok (.iload 5, 2) := by decide +kernel
theorem dL_fresh_33 : decode cL_fresh 33 = .ok (.invokestatic 65, 3) := by decide +kernel
theorem dL_fresh_36 : decode cL_fresh 36 = .ok (.if_icmp .eq 7, 3) := by decide +kernel
theorem dL_fresh_39 : decode cL_fresh 39 = .ok (.iconst 1, 1) := by decide +kernel
theorem dL_fresh_40 : decode cL_fresh 40 = .ok (.goto 4, 3) := by decide +kernel
theorem dL_fresh_43 : decode cL_fresh 43 = .ok (.iconst 0, 1) := by decide +kernel
theorem dL_fresh_44 : decode cL_fresh 44 = .ok (.iadd, 1) := by decide +kernel
theorem dL_fresh_45 : decode cL_fresh 45 = .ok (.istore 4, 2) := by decide +kernel
theorem dL_fresh_47 : decode cL_fresh 47 = .ok (.iinc 5 1, 3) := by decide +kernel
theorem dL_fresh_50 : decode cL_fresh 50 = .ok (.goto (-44), 3) := by decide +kernel
theorem dL_fresh_53 : decode cL_fresh 53 = .ok (.iload 4, 2) := by decide +kernel
theorem dL_fresh_55 : decode cL_fresh 55 = .ok (.ireturn, 1) := by decide +kernel
theorem dL_joins_0 : decode cL_joins 0 = .ok (.iconst 0, 1) := by decide +kernel
theorem dL_joins_1 : decode cL_joins 1 = .ok (.istore 10, 2) := by decide +kernel
theorem dL_joins_3 : decode cL_joins 3 = .ok (.iconst 0, 1) := by decide +kernel
theorem dL_joins_4 : decode cL_joins 4 = .ok (.istore 11, 2) := by decide +kernel
theorem dL_joins_6 : decode cL_joins 6 = .ok (.iload 11, 2) := by decide +kernel
theorem dL_joins_8 : decode cL_joins 8 = .ok (.iconst 4, 1) := by decide +kernel
theorem dL_joins_9 : decode cL_joins 9 = .ok (.if_icmp .ge 137, 3) := by decide +kernel
theorem dL_joins_12 : decode cL_joins 12 = .ok (.aload_n 3, 1) := by decide +kernel
theorem dL_joins_13 : decode cL_joins 13 = .ok (.iload 7, 2) := by decide +kernel
theorem dL_joins_15 : decode cL_joins 15 = .ok (.iload 9, 2) := by decide +kernel
theorem dL_joins_17 : decode cL_joins 17 = .ok (.iload 11, 2) := by decide +kernel
theorem dL_joins_19 : decode cL_joins 19 = .ok (.invokestatic 99, 3) := by decide +kernel
theorem dL_joins_22 : decode cL_joins 22 = .ok (.ifCond .eq 118, 3) := by decide +kernel
theorem dL_joins_25 : decode cL_joins 25 = .ok (.aload_n 3, 1) := by decide +kernel
theorem dL_joins_26 : decode cL_joins 26 = .ok (.iload 8, 2) := by decide +kernel
theorem dL_joins_28 : decode cL_joins 28 = .ok (.iload 9, 2) := by decide +kernel
theorem dL_joins_30 : decode cL_joins 30 = .ok (.iload 11, 2) := by decide +kernel
theorem dL_joins_32 : decode cL_joins 32 = .ok (.invokestatic 99, 3) := by decide +kernel
theorem dL_joins_35 : decode cL_joins 35 = .ok (.ifCond .eq 105, 3) := by decide +kernel
theorem dL_joins_38 : decode cL_joins 38 = .ok (.iload 7, 2) := by decide +kernel
theorem dL_joins_40 : decode cL_joins 40 = .ok (.iload 9, 2) := by decide +kernel
theorem dL_joins_42 : decode cL_joins 42 = .ok (.iload 11, 2) := by decide +kernel
theorem dL_joins_44 : decode cL_joins 44 = .ok (.invokestatic 71, 3) := by decide +kernel
theorem dL_joins_47 : decode cL_joins 47 = .ok (.istore 12, 2) := by decide +kernel
theorem dL_joins_49 : decode cL_joins 49 = .ok (.iload 8, 2) := by decide +kernel
theorem dL_joins_51 : decode cL_joins 51 = .ok (.iload 9, 2) := by decide +kernel
theorem dL_joins_53 : decode cL_joins 53 = .ok (.iload 11, 2) := by decide +kernel
theorem dL_joins_55 : decode cL_joins 55 = .ok (.invokestatic 71, 3) := by decide +kernel
theorem dL_joins_58 : decode cL_joins 58 = .ok (.istore 13, 2) := by decide +kernel
theorem dL_joins_60 : decode cL_joins 60 = .ok (.aload_n 0, 1) := by decide +kernel
theorem dL_joins_61 : decode cL_joins 61 = .ok (.iload 12, 2) := by decide +kernel
theorem dL_joins_63 : decode cL_joins 63 = .ok (.laload, 1) := by decide +kernel
theorem dL_joins_64 : decode cL_joins 64 = .ok (.aload_n 0, 1) := by decide +kernel
theorem dL_joins_65 : decode cL_joins 65 = .ok (.iload 13, 2) := by decide +kernel
theorem dL_joins_67 : decode cL_joins 67 = .ok (.laload, 1) := by decide +kernel
theorem dL_joins_68 : decode cL_joins 68 = .ok (.aload_n 1, 1) := by decide +kernel
theorem dL_joins_69 : decode cL_joins 69 = .ok (.iload 12, 2) := by decide +kernel
theorem dL_joins_71 : decode cL_joins 71 = .ok (.laload, 1) := by decide +kernel
theorem dL_joins_72 : decode cL_joins 72 = .ok (.aload_n 1, 1) := by decide +kernel
theorem dL_joins_73 : decode cL_joins 73 = .ok (.iload 13, 2) := by decide +kernel
theorem dL_joins_75 : decode cL_joins 75 = .ok (.laload, 1) := by decide +kernel
theorem dL_joins_76 : decode cL_joins 76 = .ok (.invokestatic 107, 3) := by decide +kernel
theorem dL_joins_79 : decode cL_joins 79 = .ok (.lstore 14, 2) := by decide +kernel
theorem dL_joins_81 : decode cL_joins 81 = .ok (.iload 10, 2) := by decide +kernel
theorem dL_joins_83 : decode cL_joins 83 = .ok (.aload_n 0, 1) := by decide +kernel
theorem dL_joins_84 : decode cL_joins 84 = .ok (.iload 12, 2) := by decide +kernel
theorem dL_joins_86 : decode cL_joins 86 = .ok (.laload, 1) := by decide +kernel
theorem dL_joins_87 : decode cL_joins 87 = .ok (.lload 14, 2) := by decide +kernel
theorem dL_joins_89 : decode cL_joins 89 = .ok (.invokestatic 111, 3) := by decide +kernel
theorem dL_joins_92 : decode cL_joins 92 = .ok (.aload_n 0, 1) := by decide +kernel
theorem dL_joins_93 : decode cL_joins 93 = .ok (.iload 13, 2) := by decide +kernel
theorem dL_joins_95 : decode cL_joins 95 = .ok (.laload, 1) := by decide +kernel
theorem dL_joins_96 : decode cL_joins 96 = .ok (.lload 14, 2) := by decide +kernel
theorem dL_joins_98 : decode cL_joins 98 = .ok (.invokestatic 111, 3) := by decide +kernel
theorem dL_joins_101 : decode cL_joins 101 = .ok (.iadd, 1) := by decide +kernel
theorem dL_joins_102 : decode cL_joins 102 = .ok (.iadd, 1) := by decide +kernel
theorem dL_joins_103 : decode cL_joins 103 = .ok (.istore 10, 2) := by decide +kernel
theorem dL_joins_105 : decode cL_joins 105 = .ok (.aload_n 0, 1) := by decide +kernel
theorem dL_joins_106 : decode cL_joins 106 = .ok (.iload 12, 2) := by decide +kernel
theorem dL_joins_108 : decode cL_joins 108 = .ok (.lload 14, 2) := by decide +kernel
theorem dL_joins_110 : decode cL_joins 110 = .ok (.lastore, 1) := by decide +kernel
theorem dL_joins_111 : decode cL_joins 111 = .ok (.aload_n 0, 1) := by decide +kernel
theorem dL_joins_112 : decode cL_joins 112 = .ok (.iload 13, 2) := by decide +kernel
theorem dL_joins_114 : decode cL_joins 114 = .ok (.lload 14, 2) := by decide +kernel
theorem dL_joins_116 : decode cL_joins 116 = .ok (.lastore, 1) := by decide +kernel
theorem dL_joins_117 : decode cL_joins 117 = .ok (.aload_n 1, 1) := by decide +kernel
theorem dL_joins_118 : decode cL_joins 118 = .ok (.iload 12, 2) := by decide +kernel
theorem dL_joins_120 : decode cL_joins 120 = .ok (.aload_n 1, 1) := by decide +kernel
theorem dL_joins_121 : decode cL_joins 121 = .ok (.iload 12, 2) := by decide +kernel
theorem dL_joins_123 : decode cL_joins 123 = .ok (.laload, 1) := by decide +kernel
theorem dL_joins_124 : decode cL_joins 124 = .ok (.aload_n 1, 1) := by decide +kernel
theorem dL_joins_125 : decode cL_joins 125 = .ok (.iload 13, 2) := by decide +kernel
theorem dL_joins_127 : decode cL_joins 127 = .ok (.laload, 1) := by decide +kernel
theorem dL_joins_128 : decode cL_joins 128 = .ok (.invokestatic 103, 3) := by decide +kernel
theorem dL_joins_131 : decode cL_joins 131 = .ok (.lastore, 1) := by decide +kernel
theorem dL_joins_132 : decode cL_joins 132 = .ok (.aload_n 1, 1) := by decide +kernel
theorem dL_joins_133 : decode cL_joins 133 = .ok (.iload 13, 2) := by decide +kernel
theorem dL_joins_135 : decode cL_joins 135 = .ok (.aload_n 1, 1) := by decide +kernel
theorem dL_joins_136 : decode cL_joins 136 = .ok (.iload 12, 2) := by decide +kernel
theorem dL_joins_138 : decode cL_joins 138 = .ok (.laload, 1) := by decide +kernel
theorem dL_joins_139 : decode cL_joins 139 = .ok (.lastore, 1) := by decide +kernel
theorem dL_joins_140 : decode cL_joins 140 = .ok (.iinc 11 1, 3) := by decide +kernel
theorem dL_joins_143 : decode cL_joins 143 = .ok (.goto (-137), 3) := by decide +kernel
theorem dL_joins_146 : decode cL_joins 146 = .ok (.iconst 0, 1) := by decide +kernel
theorem dL_joins_147 : decode cL_joins 147 = .ok (.istore 11, 2) := by decide +kernel
theorem dL_joins_149 : decode cL_joins 149 = .ok (.iload 11, 2) := by decide +kernel
theorem dL_joins_151 : decode cL_joins 151 = .ok (.aload 6, 2) := by decide +kernel
theorem dL_joins_153 : decode cL_joins 153 = .ok (.iconst 2, 1) := by decide +kernel
theorem dL_joins_154 : decode cL_joins 154 = .ok (.iaload, 1) := by decide +kernel
theorem dL_joins_155 : decode cL_joins 155 = .ok (.if_icmp .ge 152, 3) := by decide +kernel
theorem dL_joins_158 : decode cL_joins 158 = .ok (.aload 5, 2) := by decide +kernel
theorem dL_joins_160 : decode cL_joins 160 = .ok (.iload 11, 2) := by decide +kernel
theorem dL_joins_162 : decode cL_joins 162 = .ok (.iaload, 1) := by decide +kernel
theorem dL_joins_163 : decode cL_joins 163 = .ok (.iload 9, 2) := by decide +kernel
theorem dL_joins_165 : decode cL_joins 165 = .ok (.if_icmp .ne 33, 3) := by decide +kernel
theorem dL_joins_168 : decode cL_joins 168 = .ok (.aload 4, 2) := by decide +kernel
theorem dL_joins_170 : decode cL_joins 170 = .ok (.bipush 6, 2) := by decide +kernel
theorem dL_joins_172 : decode cL_joins 172 = .ok (.iload 11, 2) := by decide +kernel
theorem dL_joins_174 : decode cL_joins 174 = .ok (.imul, 1) := by decide +kernel
theorem dL_joins_175 : decode cL_joins 175 = .ok (.iload 7, 2) := by decide +kernel
theorem dL_joins_177 : decode cL_joins 177 = .ok (.iadd, 1) := by decide +kernel
theorem dL_joins_178 : decode cL_joins 178 = .ok (.iaload, 1) := by decide +kernel
theorem dL_joins_179 : decode cL_joins 179 = .ok (.aload 4, 2) := by decide +kernel
theorem dL_joins_181 : decode cL_joins 181 = .ok (.bipush 6, 2) := by decide +kernel
theorem dL_joins_183 : decode cL_joins 183 = .ok (.iload 11, 2) := by decide +kernel
theorem dL_joins_185 : decode cL_joins 185 = .ok (.imul, 1) := by decide +kernel
theorem dL_joins_186 : decode cL_joins 186 = .ok (.iload 8, 2) := by decide +kernel
theorem dL_joins_188 : decode cL_joins 188 = .ok (.iadd, 1) := by decide +kernel
theorem dL_joins_189 : decode cL_joins 189 = .ok (.iaload, 1) := by decide +kernel
theorem dL_joins_190 : decode cL_joins 190 = .ok (.iadd, 1) := by decide +kernel
theorem dL_joins_191 : decode cL_joins 191 = .ok (.ifCond .le 7, 3) := by decide +kernel
theorem dL_joins_194 : decode cL_joins 194 = .ok (.iconst 1, 1) := by decide +kernel
theorem dL_joins_195 : decode cL_joins 195 = .ok (.goto 4, 3) := by decide +kernel
theorem dL_joins_198 : decode cL_joins 198 = .ok (.iconst 0, 1) := by decide +kernel
theorem dL_joins_199 : decode cL_joins 199 = .ok (.istore 12, 2) := by decide +kernel
theorem dL_joins_201 : decode cL_joins 201 = .ok (.aload 4, 2) := by decide +kernel
theorem dL_joins_203 : decode cL_joins 203 = .ok (.bipush 6, 2) := by decide +kernel
theorem dL_joins_205 : decode cL_joins 205 = .ok (.iload 11, 2) := by decide +kernel
theorem dL_joins_207 : decode cL_joins 207 = .ok (.imul, 1) := by decide +kernel
theorem dL_joins_208 : decode cL_joins 208 = .ok (.iload 7, 2) := by decide +kernel
theorem dL_joins_210 : decode cL_joins 210 = .ok (.iadd, 1) := by decide +kernel
theorem dL_joins_211 : decode cL_joins 211 = .ok (.iload 12, 2) := by decide +kernel
theorem dL_joins_213 : decode cL_joins 213 = .ok (.ifCond .eq 26, 3) := by decide +kernel
theorem dL_joins_216 : decode cL_joins 216 = .ok (.aload 4, 2) := by decide +kernel
theorem dL_joins_218 : decode cL_joins 218 = .ok (.bipush 6, 2) := by decide +kernel
theorem dL_joins_220 : decode cL_joins 220 = .ok (.iload 11, 2) := by decide +kernel
theorem dL_joins_222 : decode cL_joins 222 = .ok (.imul, 1) := by decide +kernel
theorem dL_joins_223 : decode cL_joins 223 = .ok (.iload 7, 2) := by decide +kernel
theorem dL_joins_225 : decode cL_joins 225 = .ok (.iadd, 1) := by decide +kernel
theorem dL_joins_226 : decode cL_joins 226 = .ok (.iaload, 1) := by decide +kernel
theorem dL_joins_227 : decode cL_joins 227 = .ok (.ifCond .ne 12, 3) := by decide +kernel
theorem dL_joins_230 : decode cL_joins 230 = .ok (.aload 6, 2) := by decide +kernel
theorem dL_joins_232 : decode cL_joins 232 = .ok (.iconst 1, 1) := by decide +kernel
theorem dL_joins_233 : decode cL_joins 233 = .ok (.iaload, 1) := by decide +kernel
theorem dL_joins_234 : decode cL_joins 234 = .ok (.iconst 1, 1) := by decide +kernel
theorem dL_joins_235 : decode cL_joins 235 = .ok (.iadd, 1) := by decide +kernel
theorem dL_joins_236 : decode cL_joins 236 = .ok (.goto 14, 3) := by decide +kernel
theorem dL_joins_239 : decode cL_joins 239 = .ok (.aload 4, 2) := by decide +kernel
theorem dL_joins_241 : decode cL_joins 241 = .ok (.bipush 6, 2) := by decide +kernel
theorem dL_joins_243 : decode cL_joins 243 = .ok (.iload 11, 2) := by decide +kernel
theorem dL_joins_245 : decode cL_joins 245 = .ok (.imul, 1) := by decide +kernel
theorem dL_joins_246 : decode cL_joins 246 = .ok (.iload 7, 2) := by decide +kernel
theorem dL_joins_248 : decode cL_joins 248 = .ok (.iadd, 1) := by decide +kernel
theorem dL_joins_249 : decode cL_joins 249 = .ok (.iaload, 1) := by decide +kernel
theorem dL_joins_250 : decode cL_joins 250 = .ok (.iastore, 1) := by decide +kernel
theorem dL_joins_251 : decode cL_joins 251 = .ok (.aload 4, 2) := by decide +kernel
theorem dL_joins_253 : decode cL_joins 253 = .ok (.bipush 6, 2) := by decide +kernel
theorem dL_joins_255 : decode cL_joins 255 = .ok (.iload 11, 2) := by decide +kernel
theorem dL_joins_257 : decode cL_joins 257 = .ok (.imul, 1) := by decide +kernel
theorem dL_joins_258 : decode cL_joins 258 = .ok (.iload 8, 2) := by decide +kernel
theorem dL_joins_260 : decode cL_joins 260 = .ok (.iadd, 1) := by decide +kernel
theorem dL_joins_261 : decode cL_joins 261 = .ok (.iload 12, 2) := by decide +kernel
theorem dL_joins_263 : decode cL_joins 263 = .ok (.ifCond .eq 26, 3) := by decide +kernel
theorem dL_joins_266 : decode cL_joins 266 = .ok (.aload 4, 2) := by decide +kernel
theorem dL_joins_268 : decode cL_joins 268 = .ok (.bipush 6, 2) := by decide +kernel
theorem dL_joins_270 : decode cL_joins 270 = .ok (.iload 11, 2) := by decide +kernel
theorem dL_joins_272 : decode cL_joins 272 = .ok (.imul, 1) := by decide +kernel
theorem dL_joins_273 : decode cL_joins 273 = .ok (.iload 8, 2) := by decide +kernel
theorem dL_joins_275 : decode cL_joins 275 = .ok (.iadd, 1) := by decide +kernel
theorem dL_joins_276 : decode cL_joins 276 = .ok (.iaload, 1) := by decide +kernel
theorem dL_joins_277 : decode cL_joins 277 = .ok (.ifCond .ne 12, 3) := by decide +kernel
theorem dL_joins_280 : decode cL_joins 280 = .ok (.aload 6, 2) := by decide +kernel
theorem dL_joins_282 : decode cL_joins 282 = .ok (.iconst 1, 1) := by decide +kernel
theorem dL_joins_283 : decode cL_joins 283 = .ok (.iaload, 1) := by decide +kernel
theorem dL_joins_284 : decode cL_joins 284 = .ok (.iconst 1, 1) := by decide +kernel
theorem dL_joins_285 : decode cL_joins 285 = .ok (.iadd, 1) := by decide +kernel
theorem dL_joins_286 : decode cL_joins 286 = .ok (.goto 14, 3) := by decide +kernel
theorem dL_joins_289 : decode cL_joins 289 = .ok (.aload 4, 2) := by decide +kernel
theorem dL_joins_291 : decode cL_joins 291 = .ok (.bipush 6, 2) := by decide +kernel
theorem dL_joins_293 : decode cL_joins 293 = .ok (.iload 11, 2) := by decide +kernel
theorem dL_joins_295 : decode cL_joins 295 = .ok (.imul, 1) := by decide +kernel
theorem dL_joins_296 : decode cL_joins 296 = .ok (.iload 8, 2) := by decide +kernel
theorem dL_joins_298 : decode cL_joins 298 = .ok (.iadd, 1) := by decide +kernel
theorem dL_joins_299 : decode cL_joins 299 = .ok (.iaload, 1) := by decide +kernel
theorem dL_joins_300 : decode cL_joins 300 = .ok (.iastore, 1) := by decide +kernel
theorem dL_joins_301 : decode cL_joins 301 = .ok (.iinc 11 1, 3) := by decide +kernel
theorem dL_joins_304 : decode cL_joins 304 = .ok (.goto (-155), 3) := by decide +kernel
theorem dL_joins_307 : decode cL_joins 307 = .ok (.aload_n 2, 1) := by decide +kernel
theorem dL_joins_308 : decode cL_joins 308 = .ok (.iconst 2, 1) := by decide +kernel
theorem dL_joins_309 : decode cL_joins 309 = .ok (.iload 7, 2) := by decide +kernel
theorem dL_joins_311 : decode cL_joins 311 = .ok (.imul, 1) := by decide +kernel
theorem dL_joins_312 : decode cL_joins 312 = .ok (.iload 9, 2) := by decide +kernel
theorem dL_joins_314 : decode cL_joins 314 = .ok (.iadd, 1) := by decide +kernel
theorem dL_joins_315 : decode cL_joins 315 = .ok (.dup2, 1) := by decide +kernel
theorem dL_joins_316 : decode cL_joins 316 = .ok (.iaload, 1) := by decide +kernel
theorem dL_joins_317 : decode cL_joins 317 = .ok (.iconst 1, 1) := by decide +kernel
theorem dL_joins_318 : decode cL_joins 318 = .ok (.ior, 1) := by decide +kernel
theorem dL_joins_319 : decode cL_joins 319 = .ok (.iastore, 1) := by decide +kernel
theorem dL_joins_320 : decode cL_joins 320 = .ok (.aload_n 2, 1) := by decide +kernel
theorem dL_joins_321 : decode cL_joins 321 = .ok (.iconst 2, 1) := by decide +kernel
theorem dL_joins_322 : decode cL_joins 322 = .ok (.iload 8, 2) := by decide +kernel
theorem dL_joins_324 : decode cL_joins 324 = .ok (.imul, 1) := by decide +kernel
theorem dL_joins_325 : decode cL_joins 325 = .ok (.iload 9, 2) := by decide +kernel
theorem dL_joins_327 : decode cL_joins 327 = .ok (.iadd, 1) := by decide +kernel
theorem dL_joins_328 : decode cL_joins 328 = .ok (.dup2, 1) := by decide +kernel
theorem dL_joins_329 : decode cL_joins 329 = .ok (.iaload, 1) := by decide +kernel
theorem dL_joins_330 : decode cL_joins 330 = .ok (.iconst 1, 1) := by decide +kernel
theorem dL_joins_331 : decode cL_joins 331 = .ok (.ior, 1) := by decide +kernel
theorem dL_joins_332 : decode cL_joins 332 = .ok (.iastore, 1) := by decide +kernel
theorem dL_joins_333 : decode cL_joins 333 = .ok (.iload 10, 2) := by decide +kernel
theorem dL_joins_335 : decode cL_joins 335 = .ok (.ireturn, 1) := by decide +kernel
theorem dL_isMerged_0 : decode cL_isMerged 0 = .ok (.iload 10, 2) := by decide +kernel
theorem dL_isMerged_2 : decode cL_isMerged 2 = .ok (.iconst 5, 1) := by decide +kernel
theorem dL_isMerged_3 : decode cL_isMerged 3 = .ok (.if_icmp .gt 16, 3) := by decide +kernel
theorem dL_isMerged_6 : decode cL_isMerged 6 = .ok (.iload 11, 2) := by decide +kernel
theorem dL_isMerged_8 : decode cL_isMerged 8 = .ok (.iconst 5, 1) := by decide +kernel
theorem dL_isMerged_9 : decode cL_isMerged 9 = .ok (.if_icmp .gt 10, 3) := by decide +kernel
theorem dL_isMerged_12 : decode cL_isMerged 12 = .ok (.iload 10, 2) := by decide +kernel
theorem dL_isMerged_14 : decode cL_isMerged 14 = .ok (.iload 11, 2) := by decide +kernel
theorem dL_isMerged_16 : decode cL_isMerged 16 = .ok (.if_icmp .ne 44, 3) := by decide +kernel
