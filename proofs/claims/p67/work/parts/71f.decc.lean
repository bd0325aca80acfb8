theorem dL_debts_423 : decode cL_debts 423 = .ok (.invokevirtual 275, 3) := by decide +kernel
theorem dL_debts_426 : decode cL_debts 426 = .ok (.aload 8, 2) := by decide +kernel
theorem dL_debts_428 : decode cL_debts 428 = .ok (.getfield 190, 3) := by decide +kernel
theorem dL_debts_431 : decode cL_debts 431 = .ok (.getfield 175, 3) := by decide +kernel
theorem dL_debts_434 : decode cL_debts 434 = .ok (.invokevirtual 278, 3) := by decide +kernel
theorem dL_debts_437 : decode cL_debts 437 = .ok (.pop, 1) := by decide +kernel
theorem dL_debts_438 : decode cL_debts 438 = .ok (.iinc 2 1, 3) := by decide +kernel
theorem dL_debts_441 : decode cL_debts 441 = .ok (.iinc 7 1, 3) := by decide +kernel
theorem dL_debts_444 : decode cL_debts 444 = .ok (.goto (-422), 3) := by decide +kernel
theorem dL_debts_447 : decode cL_debts 447 = .ok (.iload_n 2, 1) := by decide +kernel
theorem dL_debts_448 : decode cL_debts 448 = .ok (.ifCond .ne 11, 3) := by decide +kernel
theorem dL_debts_451 : decode cL_debts 451 = .ok (.aload 5, 2) := by decide +kernel
theorem dL_debts_453 : decode cL_debts 453 = .ok (.bipush 45, 2) := by decide +kernel
theorem dL_debts_455 : decode cL_debts 455 = .ok (.invokevirtual 275, 3) := by decide +kernel
theorem dL_debts_458 : decode cL_debts 458 = .ok (.pop, 1) := by decide +kernel
theorem dL_debts_459 : decode cL_debts 459 = .ok (.aload_n 1, 1) := by decide +kernel
theorem dL_debts_460 : decode cL_debts 460 = .ok (.invokevirtual 281, 3) := by decide +kernel
theorem dL_debts_463 : decode cL_debts 463 = .ok (.astore 7, 2) := by decide +kernel
theorem dL_debts_465 : decode cL_debts 465 = .ok (.aload_n 0, 1) := by decide +kernel
theorem dL_debts_466 : decode cL_debts 466 = .ok (.invokevirtual 283, 3) := by decide +kernel
theorem dL_debts_469 : decode cL_debts 469 = .ok (.iload_n 2, 1) := by decide +kernel
theorem dL_debts_470 : decode cL_debts 470 = .ok (.if_icmp .ne 83, 3) := by decide +kernel
theorem dL_debts_473 : decode cL_debts 473 = .ok (.aload_n 0, 1) := by decide +kernel
theorem dL_debts_474 : decode cL_debts 474 = .ok (.invokevirtual 286, 3) := by decide +kernel
theorem dL_debts_477 : decode cL_debts 477 = .ok (.iload_n 3, 1) := by decide +kernel
theorem dL_debts_478 : decode cL_debts 478 = .ok (.if_icmp .ne 75, 3) := by decide +kernel
theorem dL_debts_481 : decode cL_debts 481 = .ok (.aload_n 0, 1) := by decide +kernel
theorem dL_debts_482 : decode cL_debts 482 = .ok (.invokevirtual 289, 3) := by decide +kernel
theorem dL_debts_485 : decode cL_debts 485 = .ok (.iload 4, 2) := by decide +kernel
theorem dL_debts_487 : decode cL_debts 487 = .ok (.if_icmp .ne 66, 3) := by decide +kernel
theorem dL_debts_490 : decode cL_debts 490 = .ok (.aload_n 0, 1) := by decide +kernel
theorem dL_debts_491 : decode cL_debts 491 = .ok (.invokevirtual 292, 3) := by decide +kernel
theorem dL_debts_494 : decode cL_debts 494 = .ok (.aload 6, 2) := by decide +kernel
theorem dL_debts_496 : decode cL_debts 496 = .ok (.ifnonnull 7, 3) := by decide +kernel
theorem dL_debts_499 : decode cL_debts 499 = .ok (.iconst (-1), 1) := by decide +kernel
theorem dL_debts_500 : decode cL_debts 500 = .ok (.goto 8, 3) := by decide +kernel
theorem dL_debts_503 : decode cL_debts 503 = .ok (.aload 6, 2) := by decide +kernel
theorem dL_debts_505 : decode cL_debts 505 = .ok (.getfield 175, 3) := by decide +kernel
theorem dL_debts_508 : decode cL_debts 508 = .ok (.if_icmp .ne 45, 3) := by decide +kernel
theorem dL_debts_511 : decode cL_debts 511 = .ok (.aload_n 0, 1) := by decide +kernel
theorem dL_debts_512 : decode cL_debts 512 = .ok (.invokevirtual 295, 3) := by decide +kernel
theorem dL_debts_515 : decode cL_debts 515 = .ok (.aload 6, 2) := by decide +kernel
theorem dL_debts_517 : decode cL_debts 517 = .ok (.ifnonnull 7, 3) := by decide +kernel
theorem dL_debts_520 : decode cL_debts 520 = .ok (.iconst 0, 1) := by decide +kernel
theorem dL_debts_521 : decode cL_debts 521 = .ok (.goto 8, 3) := by decide +kernel
theorem dL_debts_524 : decode cL_debts 524 = .ok (.aload 6, 2) := by decide +kernel
theorem dL_debts_526 : decode cL_debts 526 = .ok (.invokevirtual 209, 3) := by decide +kernel
theorem dL_debts_529 : decode cL_debts 529 = .ok (.if_icmp .ne 24, 3) := by decide +kernel
theorem dL_debts_532 : decode cL_debts 532 = .ok (.aload_n 0, 1) := by decide +kernel
theorem dL_debts_533 : decode cL_debts 533 = .ok (.invokevirtual 298, 3) := by decide +kernel
theorem dL_debts_536 : decode cL_debts 536 = .ok (.aload 7, 2) := by decide +kernel
theorem dL_debts_538 : decode cL_debts 538 = .ok (.ifnonnull 7, 3) := by decide +kernel
theorem dL_debts_541 : decode cL_debts 541 = .ok (.iconst (-1), 1) := by decide +kernel
theorem dL_debts_542 : decode cL_debts 542 = .ok (.goto 8, 3) := by decide +kernel
theorem dL_debts_545 : decode cL_debts 545 = .ok (.aload 7, 2) := by decide +kernel
theorem dL_debts_547 : decode cL_debts 547 = .ok (.getfield 175, 3) := by decide +kernel
theorem dL_debts_550 : decode cL_debts 550 = .ok (.if_icmp .eq 5, 3) := by decide +kernel
theorem dL_debts_553 : decode cL_debts 553 = .ok (.iconst 0, 1) := by decide +kernel
theorem dL_debts_554 : decode cL_debts 554 = .ok (.ireturn, 1) := by decide +kernel
theorem dL_debts_555 : decode cL_debts 555 = .ok (.aload_n 0, 1) := by decide +kernel
theorem dL_debts_556 : decode cL_debts 556 = .ok (.invokevirtual 300, 3) := by decide +kernel
theorem dL_debts_559 : decode cL_debts 559 = .ok (.aload 5, 2) := by decide +kernel
theorem dL_debts_561 : decode cL_debts 561 = .ok (.invokevirtual 303, 3) := by decide +kernel
theorem dL_debts_564 : decode cL_debts 564 = .ok (.if_icmp .ne 28, 3) := by decide +kernel
theorem dL_debts_567 : decode cL_debts 567 = .ok (.aload_n 0, 1) := by decide +kernel
theorem dL_debts_568 : decode cL_debts 568 = .ok (.aload 5, 2) := by decide +kernel
theorem dL_debts_570 : decode cL_debts 570 = .ok (.invokestatic 304, 3) := by decide +kernel
theorem dL_debts_573 : decode cL_debts 573 = .ok (.ifCond .eq 19, 3) := by decide +kernel
theorem dL_debts_576 : decode cL_debts 576 = .ok (.aload_n 0, 1) := by decide +kernel
theorem dL_debts_577 : decode cL_debts 577 = .ok (.iconst 3, 1) := by decide +kernel
theorem dL_debts_578 : decode cL_debts 578 = .ok (.iload_n 2, 1) := by decide +kernel
theorem dL_debts_579 : decode cL_debts 579 = .ok (.iconst 0, 1) := by decide +kernel
theorem dL_debts_580 : decode cL_debts 580 = .ok (.iconst 0, 1) := by decide +kernel
theorem dL_debts_581 : decode cL_debts 581 = .ok (.invokestatic 226, 3) := by decide +kernel
theorem dL_debts_584 : decode cL_debts 584 = .ok (.iconst 2, 1) := by decide +kernel
theorem dL_debts_585 : decode cL_debts 585 = .ok (.if_icmp .ne 7, 3) := by decide +kernel
theorem dL_debts_588 : decode cL_debts 588 = .ok (.iconst 1, 1) := by decide +kernel
theorem dL_debts_589 : decode cL_debts 589 = .ok (.goto 4, 3) := by decide +kernel
theorem dL_debts_592 : decode cL_debts 592 = .ok (.iconst 0, 1) := by decide +kernel
theorem dL_debts_593 : decode cL_debts 593 = .ok (.ireturn, 1) := by decide +kernel
theorem dL_goesOn_0 : decode cL_goesOn 0 = .ok (.aload_n 1, 1) := by decide +kernel
theorem dL_goesOn_1 : decode cL_goesOn 1 = .ok (.getfield 190, 3) := by decide +kernel
theorem dL_goesOn_4 : decode cL_goesOn 4 = .ok (.ifnull 44, 3) := by decide +kernel
theorem dL_goesOn_7 : decode cL_goesOn 7 = .ok (.aload_n 0, 1) := by decide +kernel
theorem dL_goesOn_8 : decode cL_goesOn 8 = .ok (.getfield 190, 3) := by decide +kernel
theorem dL_goesOn_11 : decode cL_goesOn 11 = .ok (.ifnull 37, 3) := by decide +kernel
theorem dL_goesOn_14 : decode cL_goesOn 14 = .ok (.aload_n 1, 1) := by decide +kernel
theorem dL_goesOn_15 : decode cL_goesOn 15 = .ok (.getfield 196, 3) := by decide +kernel
theorem dL_goesOn_18 : decode cL_goesOn 18 = .ok (.aload_n 0, 1) := by decide +kernel
theorem dL_goesOn_19 : decode cL_goesOn 19 = .ok (.getfield 196, 3) := by decide +kernel
theorem dL_goesOn_22 : decode cL_goesOn 22 = .ok (.if_icmp .ne 26, 3) := by decide +kernel
theorem dL_goesOn_25 : decode cL_goesOn 25 = .ok (.aload_n 1, 1) := by decide +kernel
theorem dL_goesOn_26 : decode cL_goesOn 26 = .ok (.getfield 190, 3) := by decide +kernel
theorem dL_goesOn_29 : decode cL_goesOn 29 = .ok (.getfield 175, 3) := by decide +kernel
theorem dL_goesOn_32 : decode cL_goesOn 32 = .ok (.aload_n 0, 1) := by decide +kernel
theorem dL_goesOn_33 : decode cL_goesOn 33 = .ok (.getfield 190, 3) := by decide +kernel
theorem dL_goesOn_36 : decode cL_goesOn 36 = .ok (.getfield 175, 3) := by decide +kernel
theorem dL_goesOn_39 : decode cL_goesOn 39 = .ok (.iconst 1, 1) := by decide +kernel
theorem dL_goesOn_40 : decode cL_goesOn 40 = .ok (.iadd, 1) := by decide +kernel
theorem dL_goesOn_41 : decode cL_goesOn 41 = .ok (.if_icmp .ne 7, 3) := by decide +kernel
theorem dL_goesOn_44 : decode cL_goesOn 44 = .ok (.iconst 1, 1) := by decide +kernel
theorem dL_goesOn_45 : decode cL_goesOn 45 = .ok (.goto 4, 3) := by decide +kernel
theorem dL_goesOn_48 : decode cL_goesOn 48 = .ok (.iconst 0, 1) := by decide +kernel
theorem dL_goesOn_49 : decode cL_goesOn 49 = .ok (.ireturn, 1) := by decide +kernel
theorem dL_isText_0 : decode cL_isText 0 = .ok (.iconst 0, 1) := by decide +kernel
theorem dL_isText_1 : decode cL_isText 1 = .ok (.istore_n 2, 1) := by decide +kernel
theorem dL_isText_2 : decode cL_isText 2 = .ok (.iload_n 2, 1) := by decide +kernel
theorem dL_isText_3 : decode cL_isText 3 = .ok (.aload_n 1, 1) := by decide +kernel
theorem dL_isText_4 : decode cL_isText 4 = .ok (.invokevirtual 303, 3) := by decide +kernel
theorem dL_isText_7 : decode cL_isText 7 = .ok (.if_icmp .ge 24, 3) := by decide +kernel
theorem dL_isText_10 : decode cL_isText 10 = .ok (.aload_n 0, 1) := by decide +kernel
theorem dL_isText_11 : decode cL_isText 11 = .ok (.iload_n 2, 1) := by decide +kernel
theorem dL_isText_12 : decode cL_isText 12 = .ok (.invokevirtual 79, 3) := by decide +kernel
theorem dL_isText_15 : decode cL_isText 15 = .ok (.aload_n 1, 1) := by decide +kernel
theorem dL_isText_16 : decode cL_isText 16 = .ok (.iload_n 2, 1) := by decide +kernel
theorem dL_isText_17 : decode cL_isText 17 = .ok (.invokevirtual 308, 3) := by decide +kernel
theorem dL_isText_20 : decode cL_isText 20 = .ok (.if_icmp .eq 5, 3) := by decide +kernel
theorem dL_isText_23 : decode cL_isText 23 = .ok (.iconst 0, 1) := by decide +kernel
theorem dL_isText_24 : decode cL_isText 24 = .ok (.ireturn, 1) := by decide +kernel
theorem dL_isText_25 : decode cL_isText 25 = .ok (.iinc 2 1, 3) := by decide +kernel
theorem dL_isText_28 : decode cL_isText 28 = .ok (.goto (-26), 3) := by decide +kernel
theorem dL_isText_31 : decode cL_isText 31 = .ok (.aload_n 0, 1) := by decide +kernel
theorem dL_isText_32 : decode cL_isText 32 = .ok (.bipush 14, 2) := by decide +kernel
theorem dL_isText_34 : decode cL_isText 34 = .ok (.aload_n 1, 1) := by decide +kernel
theorem dL_isText_35 : decode cL_isText 35 = .ok (.invokevirtual 303, 3) := by decide +kernel
theorem dL_isText_38 : decode cL_isText 38 = .ok (.iconst 0, 1) := by decide +kernel
theorem dL_isText_39 : decode cL_isText 39 = .ok (.iconst 0, 1) := by decide +kernel
theorem dL_isText_40 : decode cL_isText 40 = .ok (.invokestatic 226, 3) := by decide +kernel
theorem dL_isText_43 : decode cL_isText 43 = .ok (.iconst 2, 1) := by decide +kernel
theorem dL_isText_44 : decode cL_isText 44 = .ok (.if_icmp .ne 7, 3) := by decide +kernel
theorem dL_isText_47 : decode cL_isText 47 = .ok (.iconst 1, 1) := by decide +kernel
theorem dL_isText_48 : decode cL_isText 48 = .ok (.goto 4, 3) := by decide +kernel
theorem dL_isText_51 : decode cL_isText 51 = .ok (.iconst 0, 1) := by decide +kernel
theorem dL_isText_52 : decode cL_isText 52 = .ok (.ireturn, 1) := by decide +kernel
theorem dL_values_0 : decode cL_values 0 = .ok (.aload_n 1, 1) := by decide +kernel
theorem dL_values_1 : decode cL_values 1 = .ok (.getfield 154, 3) := by decide +kernel
theorem dL_values_4 : decode cL_values 4 = .ok (.arraylength, 1) := by decide +kernel
theorem dL_values_5 : decode cL_values 5 = .ok (.istore_n 3, 1) := by decide +kernel
theorem dL_values_6 : decode cL_values 6 = .ok (.aload_n 2, 1) := by decide +kernel
theorem dL_values_7 : decode cL_values 7 = .ok (.iconst 0, 1) := by decide +kernel
theorem dL_values_8 : decode cL_values 8 = .ok (.iload_n 3, 1) := by decide +kernel
theorem dL_values_9 : decode cL_values 9 = .ok (.iconst 1, 1) := by decide +kernel
theorem dL_values_10 : decode cL_values 10 = .ok (.isub, 1) := by decide +kernel
theorem dL_values_11 : decode cL_values 11 = .ok (.invokevirtual 217, 3) := by decide +kernel
theorem dL_values_14 : decode cL_values 14 = .ok (.istore 4, 2) := by decide +kernel
theorem dL_values_16 : decode cL_values 16 = .ok (.aload_n 2, 1) := by decide +kernel
theorem dL_values_17 : decode cL_values 17 = .ok (.iload 4, 2) := by decide +kernel
theorem dL_values_19 : decode cL_values 19 = .ok (.iload_n 3, 1) := by decide +kernel
theorem dL_values_20 : decode cL_values 20 = .ok (.iconst 1, 1) := by decide +kernel
theorem dL_values_21 : decode cL_values 21 = .ok (.isub, 1) := by decide +kernel
theorem dL_values_22 : decode cL_values 22 = .ok (.invokevirtual 217, 3) := by decide +kernel
theorem dL_values_25 : decode cL_values 25 = .ok (.istore 5, 2) := by decide +kernel
theorem dL_values_27 : decode cL_values 27 = .ok (.iconst 0, 1) := by decide +kernel
theorem dL_values_28 : decode cL_values 28 = .ok (.istore 6, 2) := by decide +kernel
theorem dL_values_30 : decode cL_values 30 = .ok (.aload_n 2, 1) := by decide +kernel
theorem dL_values_31 : decode cL_values 31 = .ok (.iconst 0, 1) := by decide +kernel
theorem dL_values_32 : decode cL_values 32 = .ok (.sipush 255, 3) := by decide +kernel
theorem dL_values_35 : decode cL_values 35 = .ok (.invokevirtual 217, 3) := by decide +kernel
theorem dL_values_38 : decode cL_values 38 = .ok (.istore 7, 2) := by decide +kernel
theorem dL_values_40 : decode cL_values 40 = .ok (.aload_n 2, 1) := by decide +kernel
theorem dL_values_41 : decode cL_values 41 = .ok (.iconst 0, 1) := by decide +kernel
theorem dL_values_42 : decode cL_values 42 = .ok (.iload_n 3, 1) := by decide +kernel
theorem dL_values_43 : decode cL_values 43 = .ok (.iconst 1, 1) := by decide +kernel
theorem dL_values_44 : decode cL_values 44 = .ok (.isub, 1) := by decide +kernel
theorem dL_values_45 : decode cL_values 45 = .ok (.invokevirtual 217, 3) := by decide +kernel
theorem dL_values_48 : decode cL_values 48 = .ok (.istore 8, 2) := by decide +kernel
theorem dL_values_50 : decode cL_values 50 = .ok (.iconst (-1), 1) := by decide +kernel
theorem dL_values_51 : decode cL_values 51 = .ok (.istore 9, 2) := by decide +kernel
theorem dL_values_53 : decode cL_values 53 = .ok (.ldc2_w 309, 3) := by decide +kernel
theorem dL_values_56 : decode cL_values 56 = .ok (.lstore 10, 2) := by decide +kernel
theorem dL_values_58 : decode cL_values 58 = .ok (.aload_n 1, 1) := by decide +kernel
theorem dL_values_59 : decode cL_values 59 = .ok (.getfield 154, 3) := by decide +kernel
theorem dL_values_62 : decode cL_values 62 = .ok (.astore 12, 2) := by decide +kernel
theorem dL_values_64 : decode cL_values 64 = .ok (.aload 12, 2) := by decide +kernel
theorem dL_values_66 : decode cL_values 66 = .ok (.arraylength, 1) := by decide +kernel
theorem dL_values_67 : decode cL_values 67 = .ok (.istore 13, 2) := by decide +kernel
theorem dL_values_69 : decode cL_values 69 = .ok (.iconst 0, 1) := by decide +kernel
theorem dL_values_70 : decode cL_values 70 = .ok (.istore 14, 2) := by decide +kernel
theorem dL_values_72 : decode cL_values 72 = .ok (.iload 14, 2) := by decide +kernel
theorem dL_values_74 : decode cL_values 74 = .ok (.iload 13, 2) := by decide +kernel
theorem dL_values_76 : decode cL_values 76 = .ok (.if_icmp .ge 31, 3) := by decide +kernel
theorem dL_values_79 : decode cL_values 79 = .ok (.aload 12, 2) := by decide +kernel
theorem dL_values_81 : decode cL_values 81 = .ok (.iload 14, 2) := by decide +kernel
theorem dL_values_83 : decode cL_values 83 = .ok (.aaload, 1) := by decide +kernel
theorem dL_values_84 : decode cL_values 84 = .ok (.astore 15, 2) := by decide +kernel
theorem dL_values_86 : decode cL_values 86 = .ok (.lload 10, 2) := by decide +kernel
theorem dL_values_88 : decode cL_values 88 = .ok (.ldc2_w 311, 3) := by decide +kernel
theorem dL_values_91 : decode cL_values 91 = .ok (.lmul, 1) := by decide +kernel
theorem dL_values_92 : decode cL_values 92 = .ok (.aload 15, 2) := by decide +kernel
theorem dL_values_94 : decode cL_values 94 = .ok (.invokevirtual 185, 3) := by decide +kernel
theorem dL_values_97 : decode cL_values 97 = .ok (.i2l, 1) := by decide +kernel
theorem dL_values_98 : decode cL_values 98 = .ok (.ladd, 1) := by decide +kernel
theorem dL_values_99 : decode cL_values 99 = .ok (.lstore 10, 2) := by decide +kernel
theorem dL_values_101 : decode cL_values 101 = .ok (.iinc 14 1, 3) := by decide +kernel
theorem dL_values_104 : decode cL_values 104 = .ok (.goto (-32), 3) := by decide +kernel
theorem dL_values_107 : decode cL_values 107 = .ok (.iload 4, 2) := by decide +kernel
theorem dL_values_109 : decode cL_values 109 = .ok (.istore 12, 2) := by decide +kernel
theorem dL_values_111 : decode cL_values 111 = .ok (.iload 12, 2) := by decide +kernel
theorem dL_values_113 : decode cL_values 113 = .ok (.iload 5, 2) := by decide +kernel
theorem dL_values_115 : decode cL_values 115 = .ok (.if_icmp .gt 24, 3) := by decide +kernel
theorem dL_values_118 : decode cL_values 118 = .ok (.iload 6, 2) := by decide +kernel
theorem dL_values_120 : decode cL_values 120 = .ok (.aload_n 1, 1) := by decide +kernel
theorem dL_values_121 : decode cL_values 121 = .ok (.getfield 154, 3) := by decide +kernel
theorem dL_values_124 : decode cL_values 124 = .ok (.iload 12, 2) := by decide +kernel
theorem dL_values_126 : decode cL_values 126 = .ok (.aaload, 1) := by decide +kernel
theorem dL_values_127 : decode cL_values 127 = .ok (.invokevirtual 185, 3) := by decide +kernel
theorem dL_values_130 : decode cL_values 130 = .ok (.iadd, 1) := by decide +kernel
theorem dL_values_131 : decode cL_values 131 = .ok (.istore 6, 2) := by decide +kernel
theorem dL_values_133 : decode cL_values 133 = .ok (.iinc 12 1, 3) := by decide +kernel
theorem dL_values_136 : decode cL_values 136 = .ok (.goto (-25), 3) := by decide +kernel
theorem dL_values_139 : decode cL_values 139 = .ok (.iload_n 3, 1) := by decide +kernel
theorem dL_values_140 : decode cL_values 140 = .ok (.iconst 1, 1) := by decide +kernel
theorem dL_values_141 : decode cL_values 141 = .ok (.isub, 1) := by decide +kernel
theorem dL_values_142 : decode cL_values 142 = .ok (.istore 12, 2) := by decide +kernel
theorem dL_values_144 : decode cL_values 144 = .ok (.iload 12, 2) := by decide +kernel
theorem dL_values_146 : decode cL_values 146 = .ok (.iload 4, 2) := by decide +kernel
theorem dL_values_148 : decode cL_values 148 = .ok (.if_icmp .lt 33, 3) := by decide +kernel
theorem dL_values_151 : decode cL_values 151 = .ok (.aload_n 1, 1) := by decide +kernel
theorem dL_values_152 : decode cL_values 152 = .ok (.getfield 154, 3) := by decide +kernel
theorem dL_values_155 : decode cL_values 155 = .ok (.iload 12, 2) := by decide +kernel
theorem dL_values_157 : decode cL_values 157 = .ok (.aaload, 1) := by decide +kernel
theorem dL_values_158 : decode cL_values 158 = .ok (.invokevirtual 185, 3) := by decide +kernel
theorem dL_values_161 : decode cL_values 161 = .ok (.iload 7, 2) := by decide +kernel
theorem dL_values_163 : decode cL_values 163 = .ok (.if_icmp .ne 8, 3) := by decide +kernel
theorem dL_values_166 : decode cL_values 166 = .ok (.iload 12, 2) := by decide +kernel
theorem dL_values_168 : decode cL_values 168 = .ok (.goto 5, 3) := by decide +kernel
theorem dL_values_171 : decode cL_values 171 = .ok (.iload 9, 2) := by decide +kernel
theorem dL_values_173 : decode cL_values 173 = .ok (.istore 9, 2) := by decide +kernel
theorem dL_values_175 : decode cL_values 175 = .ok (.iinc 12 (-1), 3) := by decide +kernel
theorem dL_values_178 : decode cL_values 178 = .ok (.goto (-34), 3) := by decide +kernel
theorem dL_values_181 : decode cL_values 181 = .ok (.aload_n 0, 1) := by decide +kernel
theorem dL_values_182 : decode cL_values 182 = .ok (.invokevirtual 313, 3) := by decide +kernel
theorem dL_values_185 : decode cL_values 185 = .ok (.lload 10, 2) := by decide +kernel
theorem dL_values_187 : decode cL_values 187 = .ok (.lcmp, 1) := by decide +kernel
theorem dL_values_188 : decode cL_values 188 = .ok (.ifCond .ne 29, 3) := by decide +kernel
theorem dL_values_191 : decode cL_values 191 = .ok (.aload_n 0, 1) := by decide +kernel
theorem dL_values_192 : decode cL_values 192 = .ok (.iload 4, 2) := by decide +kernel
theorem dL_values_194 : decode cL_values 194 = .ok (.iload 5, 2) := by decide +kernel
theorem dL_values_196 : decode cL_values 196 = .ok (.invokevirtual 47, 3) := by decide +kernel
theorem dL_values_199 : decode cL_values 199 = .ok (.iload 6, 2) := by decide +kernel
theorem dL_values_201 : decode cL_values 201 = .ok (.if_icmp .ne 16, 3) := by decide +kernel
theorem dL_values_204 : decode cL_values 204 = .ok (.aload_n 0, 1) := by decide +kernel
theorem dL_values_205 : decode cL_values 205 = .ok (.iload 7, 2) := by decide +kernel
theorem dL_values_207 : decode cL_values 207 = .ok (.iload 4, 2) := by decide +kernel
theorem dL_values_209 : decode cL_values 209 = .ok (.invokevirtual 50, 3) := by decide +kernel
theorem dL_values_212 : decode cL_values 212 = .ok (.iload 9, 2) := by decide +kernel
theorem dL_values_214 : decode cL_values 214 = .ok (.if_icmp .eq 5, 3) := by decide +kernel
theorem dL_values_217 : decode cL_values 217 = .ok (.iconst 0, 1) := by decide +kernel
theorem dL_values_218 : decode cL_values 218 = .ok (.ireturn, 1) := by decide +kernel
theorem dL_values_219 : decode cL_values 219 = .ok (.iconst 0, 1) := by decide +kernel
theorem dL_values_220 : decode cL_values 220 = .ok (.istore 12, 2) := by decide +kernel
theorem dL_values_222 : decode cL_values 222 = .ok (.iconst (-1), 1) := by decide +kernel
theorem dL_values_223 : decode cL_values 223 = .ok (.istore 13, 2) := by decide +kernel
theorem dL_values_225 : decode cL_values 225 = .ok (.iload_n 3, 1) := by decide +kernel
theorem dL_values_226 : decode cL_values 226 = .ok (.iconst 1, 1) := by decide +kernel
theorem dL_values_227 : decode cL_values 227 = .ok (.isub, 1) := by decide +kernel
theorem dL_values_228 : decode cL_values 228 = .ok (.istore 14, 2) := by decide +kernel
theorem dL_values_230 : decode cL_values 230 = .ok (.iload 14, 2) := by decide +kernel
theorem dL_values_232 : decode cL_values 232 = .ok (.iload 4, 2) := by decide +kernel
theorem dL_values_234 : decode cL_values 234 = .ok (.if_icmp .lt 61, 3) := by decide +kernel
theorem dL_values_237 : decode cL_values 237 = .ok (.aload_n 1, 1) := by decide +kernel
theorem dL_values_238 : decode cL_values 238 = .ok (.getfield 154, 3) := by decide +kernel
theorem dL_values_241 : decode cL_values 241 = .ok (.iload 14, 2) := by decide +kernel
theorem dL_values_243 : decode cL_values 243 = .ok (.aaload, 1) := by decide +kernel
theorem dL_values_244 : decode cL_values 244 = .ok (.getfield 190, 3) := by decide +kernel
theorem dL_values_247 : decode cL_values 247 = .ok (.ifnonnull 8, 3) := by decide +kernel
theorem dL_values_250 : decode cL_values 250 = .ok (.iload 13, 2) := by decide +kernel
theorem dL_values_252 : decode cL_values 252 = .ok (.goto 5, 3) := by decide +kernel
theorem dL_values_255 : decode cL_values 255 = .ok (.iload 14, 2) := by decide +kernel
theorem dL_values_257 : decode cL_values 257 = .ok (.istore 13, 2) := by decide +kernel
theorem dL_values_259 : decode cL_values 259 = .ok (.iload 12, 2) := by decide +kernel
theorem dL_values_261 : decode cL_values 261 = .ok (.aload_n 1, 1) := by decide +kernel
theorem dL_values_262 : decode cL_values 262 = .ok (.getfield 154, 3) := by decide +kernel
theorem dL_values_265 : decode cL_values 265 = .ok (.iload 14, 2) := by decide +kernel
theorem dL_values_267 : decode cL_values 267 = .ok (.aaload, 1) := by decide +kernel
theorem dL_values_268 : decode cL_values 268 = .ok (.getfield 190, 3) := by decide +kernel
theorem dL_values_271 : decode cL_values 271 = .ok (.ifnull 14, 3) := by decide +kernel
theorem dL_values_274 : decode cL_values 274 = .ok (.iload 14, 2) := by decide +kernel
theorem dL_values_276 : decode cL_values 276 = .ok (.iload 5, 2) := by decide +kernel
theorem dL_values_278 : decode cL_values 278 = .ok (.if_icmp .gt 7, 3) := by decide +kernel
theorem dL_values_281 : decode cL_values 281 = .ok (.iconst 1, 1) := by decide +kernel
theorem dL_values_282 : decode cL_values 282 = .ok (.goto 4, 3) := by decide +kernel
theorem dL_values_285 : decode cL_values 285 = .ok (.iconst 0, 1) := by decide +kernel
theorem dL_values_286 : decode cL_values 286 = .ok (.iadd, 1) := by decide +kernel
theorem dL_values_287 : decode cL_values 287 = .ok (.istore 12, 2) := by decide +kernel
theorem dL_values_289 : decode cL_values 289 = .ok (.iinc 14 (-1), 3) := by decide +kernel
theorem dL_values_292 : decode cL_values 292 = .ok (.goto (-62), 3) := by decide +kernel
theorem dL_values_295 : decode cL_values 295 = .ok (.iconst (-1), 1) := by decide +kernel
theorem dL_values_296 : decode cL_values 296 = .ok (.istore 14, 2) := by decide +kernel
theorem dL_values_298 : decode cL_values 298 = .ok (.iconst 0, 1) := by decide +kernel
theorem dL_values_299 : decode cL_values 299 = .ok (.istore 15, 2) := by decide +kernel
theorem dL_values_301 : decode cL_values 301 = .ok (.iconst 0, 1) := by decide +kernel
theorem dL_values_302 : decode cL_values 302 = .ok (.istore 16, 2) := by decide +kernel
theorem dL_values_304 : decode cL_values 304 = .ok (.aload_n 1, 1) := by decide +kernel
theorem dL_values_305 : decode cL_values 305 = .ok (.getfield 154, 3) := by decide +kernel
theorem dL_values_308 : decode cL_values 308 = .ok (.iload 5, 2) := by decide +kernel
theorem dL_values_310 : decode cL_values 310 = .ok (.aaload, 1) := by decide +kernel
theorem dL_values_311 : decode cL_values 311 = .ok (.astore 17, 2) := by decide +kernel
theorem dL_values_313 : decode cL_values 313 = .ok (.aload 17, 2) := by decide +kernel
theorem dL_values_315 : decode cL_values 315 = .ok (.ifnull 26, 3) := by decide +kernel
theorem dL_values_318 : decode cL_values 318 = .ok (.aload 17, 2) := by decide +kernel
theorem dL_values_320 : decode cL_values 320 = .ok (.getfield 175, 3) := by decide +kernel
theorem dL_values_323 : decode cL_values 323 = .ok (.iload 8, 2) := by decide +kernel
theorem dL_values_325 : decode cL_values 325 = .ok (.if_icmp .eq 16, 3) := by decide +kernel
theorem dL_values_328 : decode cL_values 328 = .ok (.iinc 15 1, 3) := by decide +kernel
theorem dL_values_331 : decode cL_values 331 = .ok (.aload 17, 2) := by decide +kernel
theorem dL_values_333 : decode cL_values 333 = .ok (.getfield 190, 3) := by decide +kernel
theorem dL_values_336 : decode cL_values 336 = .ok (.astore 17, 2) := by decide +kernel
theorem dL_values_338 : decode cL_values 338 = .ok (.goto (-25), 3) := by decide +kernel
theorem dL_values_341 : decode cL_values 341 = .ok (.aload_n 1, 1) := by decide +kernel
theorem dL_values_342 : decode cL_values 342 = .ok (.getfield 154, 3) := by decide +kernel
theorem dL_values_345 : decode cL_values 345 = .ok (.astore 18, 2) := by decide +kernel
theorem dL_values_347 : decode cL_values 347 = .ok (.aload 18, 2) := by decide +kernel
theorem dL_values_349 : decode cL_values 349 = .ok (.arraylength, 1) := by decide +kernel
theorem dL_values_350 : decode cL_values 350 = .ok (.istore 19, 2) := by decide +kernel
theorem dL_values_352 : decode cL_values 352 = .ok (.iconst 0, 1) := by decide +kernel
theorem dL_values_353 : decode cL_values 353 = .ok (.istore 20, 2) := by decide +kernel
theorem dL_values_355 : decode cL_values 355 = .ok (.iload 20, 2) := by decide +kernel
theorem dL_values_357 : decode cL_values 357 = .ok (.iload 19, 2) := by decide +kernel
theorem dL_values_359 : decode cL_values 359 = .ok (.if_icmp .ge 108, 3) := by decide +kernel
theorem dL_values_362 : decode cL_values 362 = .ok (.aload 18, 2) := by decide +kernel
theorem dL_values_364 : decode cL_values 364 = .ok (.iload 20, 2) := by decide +kernel
theorem dL_values_366 : decode cL_values 366 = .ok (.aaload, 1) := by decide +kernel
theorem dL_values_367 : decode cL_values 367 = .ok (.astore 21, 2) := by decide +kernel
theorem dL_values_369 : decode cL_values 369 = .ok (.aload 21, 2) := by decide +kernel
theorem dL_values_371 : decode cL_values 371 = .ok (.getfield 190, 3) := by decide +kernel
theorem dL_values_374 : decode cL_values 374 = .ok (.ifnonnull 6, 3) := by decide +kernel
theorem dL_values_377 : decode cL_values 377 = .ok (.goto 84, 3) := by decide +kernel
theorem dL_values_380 : decode cL_values 380 = .ok (.iload 14, 2) := by decide +kernel
theorem dL_values_382 : decode cL_values 382 = .ok (.ifCond .ge 11, 3) := by decide +kernel
theorem dL_values_385 : decode cL_values 385 = .ok (.aload 21, 2) := by decide +kernel
theorem dL_values_387 : decode cL_values 387 = .ok (.getfield 196, 3) := by decide +kernel
theorem dL_values_390 : decode cL_values 390 = .ok (.goto 13, 3) := by decide +kernel
theorem dL_values_393 : decode cL_values 393 = .ok (.iload 14, 2) := by decide +kernel
theorem dL_values_395 : decode cL_values 395 = .ok (.aload 21, 2) := by decide +kernel
theorem dL_values_397 : decode cL_values 397 = .ok (.getfield 196, 3) := by decide +kernel
theorem dL_values_400 : decode cL_values 400 = .ok (.invokestatic 240, 3) := by decide +kernel
theorem dL_values_403 : decode cL_values 403 = .ok (.istore 14, 2) := by decide +kernel
theorem dL_values_405 : decode cL_values 405 = .ok (.iload 16, 2) := by decide +kernel
theorem dL_values_407 : decode cL_values 407 = .ok (.aload 21, 2) := by decide +kernel
theorem dL_values_409 : decode cL_values 409 = .ok (.getfield 175, 3) := by decide +kernel
theorem dL_values_412 : decode cL_values 412 = .ok (.iload 4, 2) := by decide +kernel
theorem dL_values_414 : decode cL_values 414 = .ok (.if_icmp .lt 13, 3) := by decide +kernel
theorem dL_values_417 : decode cL_values 417 = .ok (.aload 21, 2) := by decide +kernel
theorem dL_values_419 : decode cL_values 419 = .ok (.getfield 175, 3) := by decide +kernel
theorem dL_values_422 : decode cL_values 422 = .ok (.iload 5, 2) := by decide +kernel
theorem dL_values_424 : decode cL_values 424 = .ok (.if_icmp .le 33, 3) := by decide +kernel
theorem dL_values_427 : decode cL_values 427 = .ok (.aload 21, 2) := by decide +kernel
theorem dL_values_429 : decode cL_values 429 = .ok (.getfield 190, 3) := by decide +kernel
theorem dL_values_432 : decode cL_values 432 = .ok (.getfield 175, 3) := by decide +kernel
theorem dL_values_435 : decode cL_values 435 = .ok (.iload 4, 2) := by decide +kernel
theorem dL_values_437 : decode cL_values 437 = .ok (.if_icmp .lt 20, 3) := by decide +kernel
theorem dL_values_440 : decode cL_values 440 = .ok (.aload 21, 2) := by decide +kernel
theorem dL_values_442 : decode cL_values 442 = .ok (.getfield 190, 3) := by decide +kernel
theorem dL_values_445 : decode cL_values 445 = .ok (.getfield 175, 3) := by decide +kernel
theorem dL_values_448 : decode cL_values 448 = .ok (.iload 5, 2) := by decide +kernel
theorem dL_values_450 : decode cL_values 450 = .ok (.if_icmp .gt 7, 3) := by decide +kernel
theorem dL_values_453 : decode cL_values 453 = .ok (.iconst 1, 1) := by decide +kernel
theorem dL_values_454 : decode cL_values 454 = .ok (.goto 4, 3) := by decide +kernel
theorem dL_values_457 : decode cL_values 457 = .ok (.iconst 0, 1) := by decide +kernel
theorem dL_values_458 : decode cL_values 458 = .ok (.iadd, 1) := by decide +kernel
theorem dL_values_459 : decode cL_values 459 = .ok (.istore 16, 2) := by decide +kernel
theorem dL_values_461 : decode cL_values 461 = .ok (.iinc 20 1, 3) := by decide +kernel
theorem dL_values_464 : decode cL_values 464 = .ok (.goto (-109), 3) := by decide +kernel
theorem dL_values_467 : decode cL_values 467 = .ok (.aload_n 0, 1) := by decide +kernel
theorem dL_values_468 : decode cL_values 468 = .ok (.iload 4, 2) := by decide +kernel
theorem dL_values_470 : decode cL_values 470 = .ok (.iload 5, 2) := by decide +kernel
theorem dL_values_472 : decode cL_values 472 = .ok (.invokevirtual 317, 3) := by decide +kernel
theorem dL_values_475 : decode cL_values 475 = .ok (.iload 12, 2) := by decide +kernel
theorem dL_values_477 : decode cL_values 477 = .ok (.if_icmp .ne 45, 3) := by decide +kernel
theorem dL_values_480 : decode cL_values 480 = .ok (.aload_n 0, 1) := by decide +kernel
theorem dL_values_481 : decode cL_values 481 = .ok (.iload 4, 2) := by decide +kernel
theorem dL_values_483 : decode cL_values 483 = .ok (.invokevirtual 320, 3) := by decide +kernel
theorem dL_values_486 : decode cL_values 486 = .ok (.iload 13, 2) := by decide +kernel
theorem dL_values_488 : decode cL_values 488 = .ok (.if_icmp .ne 34, 3) := by decide +kernel
theorem dL_values_491 : decode cL_values 491 = .ok (.aload_n 0, 1) := by decide +kernel
theorem dL_values_492 : decode cL_values 492 = .ok (.invokevirtual 323, 3) := by decide +kernel
theorem dL_values_495 : decode cL_values 495 = .ok (.iload 14, 2) := by decide +kernel
theorem dL_values_497 : decode cL_values 497 = .ok (.if_icmp .ne 25, 3) := by decide +kernel
theorem dL_values_500 : decode cL_values 500 = .ok (.aload_n 0, 1) := by decide +kernel
theorem dL_values_501 : decode cL_values 501 = .ok (.iload 5, 2) := by decide +kernel
theorem dL_values_503 : decode cL_values 503 = .ok (.iload 8, 2) := by decide +kernel
theorem dL_values_505 : decode cL_values 505 = .ok (.invokevirtual 133, 3) := by decide +kernel
theorem dL_values_508 : decode cL_values 508 = .ok (.aload 17, 2) := by decide +kernel
theorem dL_values_510 : decode cL_values 510 = .ok (.ifnonnull 7, 3) := by decide +kernel
theorem dL_values_513 : decode cL_values 513 = .ok (.iconst (-1), 1) := by decide +kernel
theorem dL_values_514 : decode cL_values 514 = .ok (.goto 5, 3) := by decide +kernel
theorem dL_values_517 : decode cL_values 517 = .ok (.iload 15, 2) := by decide +kernel
theorem dL_values_519 : decode cL_values 519 = .ok (.if_icmp .eq 5, 3) := by decide +kernel
theorem dL_values_522 : decode cL_values 522 = .ok (.iconst 0, 1) := by decide +kernel
theorem dL_values_523 : decode cL_values 523 = .ok (.ireturn, 1) := by decide +kernel
theorem dL_values_524 : decode cL_values 524 = .ok (.aload_n 1, 1) := by decide +kernel
theorem dL_values_525 : decode cL_values 525 = .ok (.iload 4, 2) := by decide +kernel
theorem dL_values_527 : decode cL_values 527 = .ok (.iload 5, 2) := by decide +kernel
theorem dL_values_529 : decode cL_values 529 = .ok (.invokevirtual 265, 3) := by decide +kernel
theorem dL_values_532 : decode cL_values 532 = .ok (.ifCond .eq 21, 3) := by decide +kernel
theorem dL_values_535 : decode cL_values 535 = .ok (.aload_n 0, 1) := by decide +kernel
theorem dL_values_536 : decode cL_values 536 = .ok (.bipush 33, 2) := by decide +kernel
theorem dL_values_538 : decode cL_values 538 = .ok (.iload 4, 2) := by decide +kernel
theorem dL_values_540 : decode cL_values 540 = .ok (.iload 5, 2) := by decide +kernel
theorem dL_values_542 : decode cL_values 542 = .ok (.iconst 0, 1) := by decide +kernel
theorem dL_values_543 : decode cL_values 543 = .ok (.invokestatic 226, 3) := by decide +kernel
theorem dL_values_546 : decode cL_values 546 = .ok (.iconst 3, 1) := by decide +kernel
theorem dL_values_547 : decode cL_values 547 = .ok (.if_icmp .eq 21, 3) := by decide +kernel
theorem dL_values_550 : decode cL_values 550 = .ok (.goto 16, 3) := by decide +kernel
theorem dL_values_553 : decode cL_values 553 = .ok (.aload_n 0, 1) := by decide +kernel
theorem dL_values_554 : decode cL_values 554 = .ok (.iload 4, 2) := by decide +kernel
theorem dL_values_556 : decode cL_values 556 = .ok (.iload 5, 2) := by decide +kernel
theorem dL_values_558 : decode cL_values 558 = .ok (.invokevirtual 130, 3) := by decide +kernel
theorem dL_values_561 : decode cL_values 561 = .ok (.iload 16, 2) := by decide +kernel
theorem dL_values_563 : decode cL_values 563 = .ok (.if_icmp .eq 5, 3) := by decide +kernel
theorem dL_values_566 : decode cL_values 566 = .ok (.iconst 0, 1) := by decide +kernel
theorem dL_values_567 : decode cL_values 567 = .ok (.ireturn, 1) := by decide +kernel
theorem dL_values_568 : decode cL_values 568 = .ok (.iload_n 3, 1) := by decide +kernel
theorem dL_values_569 : decode cL_values 569 = .ok (.iload 4, 2) := by decide +kernel
theorem dL_values_571 : decode cL_values 571 = .ok (.iload 8, 2) := by decide +kernel
theorem dL_values_573 : decode cL_values 573 = .ok (.invokestatic 326, 3) := by decide +kernel
theorem dL_values_576 : decode cL_values 576 = .ok (.isub, 1) := by decide +kernel
theorem dL_values_577 : decode cL_values 577 = .ok (.istore 18, 2) := by decide +kernel
theorem dL_values_579 : decode cL_values 579 = .ok (.iconst 1, 1) := by decide +kernel
theorem dL_values_580 : decode cL_values 580 = .ok (.istore 19, 2) := by decide +kernel
theorem dL_values_582 : decode cL_values 582 = .ok (.iconst 0, 1) := by decide +kernel
theorem dL_values_583 : decode cL_values 583 = .ok (.istore 20, 2) := by decide +kernel
theorem dL_values_585 : decode cL_values 585 = .ok (.iload 20, 2) := by decide +kernel
theorem dL_values_587 : decode cL_values 587 = .ok (.iload 18, 2) := by decide +kernel
theorem dL_values_589 : decode cL_values 589 = .ok (.if_icmp .ge 48, 3) := by decide +kernel
theorem dL_values_592 : decode cL_values 592 = .ok (.iload 19, 2) := by decide +kernel
theorem dL_values_594 : decode cL_values 594 = .ok (.aload_n 1, 1) := by decide +kernel
theorem dL_values_595 : decode cL_values 595 = .ok (.getfield 154, 3) := by decide +kernel
theorem dL_values_598 : decode cL_values 598 = .ok (.iload 4, 2) := by decide +kernel
theorem dL_values_600 : decode cL_values 600 = .ok (.iload 20, 2) := by decide +kernel
theorem dL_values_602 : decode cL_values 602 = .ok (.iadd, 1) := by decide +kernel
theorem dL_values_603 : decode cL_values 603 = .ok (.aaload, 1) := by decide +kernel
theorem dL_values_604 : decode cL_values 604 = .ok (.invokevirtual 185, 3) := by decide +kernel
theorem dL_values_607 : decode cL_values 607 = .ok (.aload_n 1, 1) := by decide +kernel
theorem dL_values_608 : decode cL_values 608 = .ok (.getfield 154, 3) := by decide +kernel
theorem dL_values_611 : decode cL_values 611 = .ok (.iload 8, 2) := by decide +kernel
theorem dL_values_613 : decode cL_values 613 = .ok (.iload 20, 2) := by decide +kernel
theorem dL_values_615 : decode cL_values 615 = .ok (.iadd, 1) := by decide +kernel
theorem dL_values_616 : decode cL_values 616 = .ok (.aaload, 1) := by decide +kernel
theorem dL_values_617 : decode cL_values 617 = .ok (.invokevirtual 185, 3) := by decide +kernel
theorem dL_values_620 : decode cL_values 620 = .ok (.if_icmp .ne 7, 3) := by decide +kernel
theorem dL_values_623 : decode cL_values 623 = .ok (.iconst 1, 1) := by decide +kernel
theorem dL_values_624 : decode cL_values 624 = .ok (.goto 4, 3) := by decide +kernel
theorem dL_values_627 : decode cL_values 627 = .ok (.iconst 0, 1) := by decide +kernel
theorem dL_values_628 : decode cL_values 628 = .ok (.iand, 1) := by decide +kernel
theorem dL_values_629 : decode cL_values 629 = .ok (.istore 19, 2) := by decide +kernel
theorem dL_values_631 : decode cL_values 631 = .ok (.iinc 20 1, 3) := by decide +kernel
theorem dL_values_634 : decode cL_values 634 = .ok (.goto (-49), 3) := by decide +kernel
theorem dL_values_637 : decode cL_values 637 = .ok (.aload_n 0, 1) := by decide +kernel
theorem dL_values_638 : decode cL_values 638 = .ok (.iload 4, 2) := by decide +kernel
theorem dL_values_640 : decode cL_values 640 = .ok (.iload 8, 2) := by decide +kernel
theorem dL_values_642 : decode cL_values 642 = .ok (.iload 18, 2) := by decide +kernel
theorem dL_values_644 : decode cL_values 644 = .ok (.invokevirtual 53, 3) := by decide +kernel
theorem dL_values_647 : decode cL_values 647 = .ok (.iload 19, 2) := by decide +kernel
theorem dL_values_649 : decode cL_values 649 = .ok (.if_icmp .ne 36, 3) := by decide +kernel
theorem dL_values_652 : decode cL_values 652 = .ok (.aload_n 0, 1) := by decide +kernel
theorem dL_values_653 : decode cL_values 653 = .ok (.bipush 6, 2) := by decide +kernel
theorem dL_values_655 : decode cL_values 655 = .ok (.iload 4, 2) := by decide +kernel
theorem dL_values_657 : decode cL_values 657 = .ok (.iload 8, 2) := by decide +kernel
theorem dL_values_659 : decode cL_values 659 = .ok (.iload 18, 2) := by decide +kernel
theorem dL_values_661 : decode cL_values 661 = .ok (.iconst 1, 1) := by decide +kernel
theorem dL_values_662 : decode cL_values 662 = .ok (.iadd, 1) := by decide +kernel
theorem dL_values_663 : decode cL_values 663 = .ok (.invokestatic 226, 3) := by decide +kernel
theorem dL_values_666 : decode cL_values 666 = .ok (.iconst 3, 1) := by decide +kernel
theorem dL_values_667 : decode cL_values 667 = .ok (.if_icmp .ne 18, 3) := by decide +kernel
theorem dL_values_670 : decode cL_values 670 = .ok (.aload_n 0, 1) := by decide +kernel
theorem dL_values_671 : decode cL_values 671 = .ok (.bipush 6, 2) := by decide +kernel
theorem dL_values_673 : decode cL_values 673 = .ok (.iload 4, 2) := by decide +kernel
theorem dL_values_675 : decode cL_values 675 = .ok (.iload 8, 2) := by decide +kernel
theorem dL_values_677 : decode cL_values 677 = .ok (.iconst 0, 1) := by decide +kernel
theorem dL_values_678 : decode cL_values 678 = .ok (.invokestatic 226, 3) := by decide +kernel
theorem dL_values_681 : decode cL_values 681 = .ok (.iconst 3, 1) := by decide +kernel
theorem dL_values_682 : decode cL_values 682 = .ok (.if_icmp .eq 5, 3) := by decide +kernel
theorem dL_values_685 : decode cL_values 685 = .ok (.iconst 0, 1) := by decide +kernel
theorem dL_values_686 : decode cL_values 686 = .ok (.ireturn, 1) := by decide +kernel
theorem dL_values_687 : decode cL_values 687 = .ok (.new 268, 3) := by decide +kernel
theorem dL_values_690 : decode cL_values 690 = .ok (.dup, 1) := by decide +kernel
theorem dL_values_691 : decode cL_values 691 = .ok (.invokespecial 270, 3) := by decide +kernel
theorem dL_values_694 : decode cL_values 694 = .ok (.iload 5, 2) := by decide +kernel
theorem dL_values_696 : decode cL_values 696 = .ok (.invokevirtual 278, 3) := by decide +kernel
theorem dL_values_699 : decode cL_values 699 = .ok (.astore 20, 2) := by decide +kernel
theorem dL_values_701 : decode cL_values 701 = .ok (.aload_n 1, 1) := by decide +kernel
theorem dL_values_702 : decode cL_values 702 = .ok (.getfield 154, 3) := by decide +kernel
theorem dL_values_705 : decode cL_values 705 = .ok (.iload 5, 2) := by decide +kernel
theorem dL_values_707 : decode cL_values 707 = .ok (.aaload, 1) := by decide +kernel
theorem dL_values_708 : decode cL_values 708 = .ok (.astore 21, 2) := by decide +kernel
theorem dL_values_710 : decode cL_values 710 = .ok (.aload 21, 2) := by decide +kernel
theorem dL_values_712 : decode cL_values 712 = .ok (.getfield 190, 3) := by decide +kernel
theorem dL_values_715 : decode cL_values 715 = .ok (.ifnull 32, 3) := by decide +kernel
theorem dL_values_718 : decode cL_values 718 = .ok (.aload 20, 2) := by decide +kernel
theorem dL_values_720 : decode cL_values 720 = .ok (.bipush 60, 2) := by decide +kernel
theorem dL_values_722 : decode cL_values 722 = .ok (.invokevirtual 275, 3) := by decide +kernel
theorem dL_values_725 : decode cL_values 725 = .ok (.aload 21, 2) := by decide +kernel
theorem dL_values_727 : decode cL_values 727 = .ok (.getfield 190, 3) := by decide +kernel
theorem dL_values_730 : decode cL_values 730 = .ok (.getfield 175, 3) := by decide +kernel
theorem dL_values_733 : decode cL_values 733 = .ok (.invokevirtual 278, 3) := by decide +kernel
theorem dL_values_736 : decode cL_values 736 = .ok (.pop, 1) := by decide +kernel
theorem dL_values_737 : decode cL_values 737 = .ok (.aload 21, 2) := by decide +kernel
theorem dL_values_739 : decode cL_values 739 = .ok (.getfield 190, 3) := by decide +kernel
theorem dL_values_742 : decode cL_values 742 = .ok (.astore 21, 2) := by decide +kernel
theorem dL_values_744 : decode cL_values 744 = .ok (.goto (-34), 3) := by decide +kernel
theorem dL_values_747 : decode cL_values 747 = .ok (.aload 20, 2) := by decide +kernel
theorem dL_values_749 : decode cL_values 749 = .ok (.bipush 61, 2) := by decide +kernel
theorem dL_values_751 : decode cL_values 751 = .ok (.invokevirtual 275, 3) := by decide +kernel
theorem dL_values_754 : decode cL_values 754 = .ok (.aload_n 1, 1) := by decide +kernel
theorem dL_values_755 : decode cL_values 755 = .ok (.getfield 154, 3) := by decide +kernel
theorem dL_values_758 : decode cL_values 758 = .ok (.iload 5, 2) := by decide +kernel
theorem dL_values_760 : decode cL_values 760 = .ok (.aaload, 1) := by decide +kernel
theorem dL_values_761 : decode cL_values 761 = .ok (.invokevirtual 185, 3) := by decide +kernel
theorem dL_values_764 : decode cL_values 764 = .ok (.invokevirtual 278, 3) := by decide +kernel
theorem dL_values_767 : decode cL_values 767 = .ok (.pop, 1) := by decide +kernel
theorem dL_values_768 : decode cL_values 768 = .ok (.aload_n 0, 1) := by decide +kernel
theorem dL_values_769 : decode cL_values 769 = .ok (.iload 5, 2) := by decide +kernel
theorem dL_values_771 : decode cL_values 771 = .ok (.invokevirtual 76, 3) := by decide +kernel
theorem dL_values_774 : decode cL_values 774 = .ok (.aload 20, 2) := by decide +kernel
theorem dL_values_776 : decode cL_values 776 = .ok (.invokevirtual 303, 3) := by decide +kernel
theorem dL_values_779 : decode cL_values 779 = .ok (.if_icmp .ne 12, 3) := by decide +kernel
theorem dL_values_782 : decode cL_values 782 = .ok (.aload_n 0, 1) := by decide +kernel
theorem dL_values_783 : decode cL_values 783 = .ok (.aload 20, 2) := by decide +kernel
theorem dL_values_785 : decode cL_values 785 = .ok (.invokestatic 304, 3) := by decide +kernel
theorem dL_values_788 : decode cL_values 788 = .ok (.ifCond .ne 5, 3) := by decide +kernel
theorem dL_values_791 : decode cL_values 791 = .ok (.iconst 0, 1) := by decide +kernel
theorem dL_values_792 : decode cL_values 792 = .ok (.ireturn, 1) := by decide +kernel
theorem dL_values_793 : decode cL_values 793 = .ok (.iconst 0, 1) := by decide +kernel
theorem dL_values_794 : decode cL_values 794 = .ok (.istore 21, 2) := by decide +kernel
theorem dL_values_796 : decode cL_values 796 = .ok (.iload 21, 2) := by decide +kernel
theorem dL_values_798 : decode cL_values 798 = .ok (.aload_n 1, 1) := by decide +kernel
theorem dL_values_799 : decode cL_values 799 = .ok (.getfield 164, 3) := by decide +kernel
theorem dL_values_802 : decode cL_values 802 = .ok (.if_icmp .ge 47, 3) := by decide +kernel
theorem dL_values_805 : decode cL_values 805 = .ok (.iconst 0, 1) := by decide +kernel
theorem dL_values_806 : decode cL_values 806 = .ok (.istore 22, 2) := by decide +kernel
theorem dL_values_808 : decode cL_values 808 = .ok (.iload 22, 2) := by decide +kernel
theorem dL_values_810 : decode cL_values 810 = .ok (.iconst 3, 1) := by decide +kernel
theorem dL_values_811 : decode cL_values 811 = .ok (.if_icmp .ge 32, 3) := by decide +kernel
theorem dL_values_814 : decode cL_values 814 = .ok (.aload_n 0, 1) := by decide +kernel
theorem dL_values_815 : decode cL_values 815 = .ok (.iload 21, 2) := by decide +kernel
theorem dL_values_817 : decode cL_values 817 = .ok (.iload 22, 2) := by decide +kernel
theorem dL_values_819 : decode cL_values 819 = .ok (.invokevirtual 73, 3) := by decide +kernel
theorem dL_values_822 : decode cL_values 822 = .ok (.aload_n 1, 1) := by decide +kernel
theorem dL_values_823 : decode cL_values 823 = .ok (.getfield 329, 3) := by decide +kernel
theorem dL_values_826 : decode cL_values 826 = .ok (.iload 21, 2) := by decide +kernel
theorem dL_values_828 : decode cL_values 828 = .ok (.aaload, 1) := by decide +kernel
theorem dL_values_829 : decode cL_values 829 = .ok (.iload 22, 2) := by decide +kernel
theorem dL_values_831 : decode cL_values 831 = .ok (.iaload, 1) := by decide +kernel
theorem dL_values_832 : decode cL_values 832 = .ok (.if_icmp .eq 5, 3) := by decide +kernel
theorem dL_values_835 : decode cL_values 835 = .ok (.iconst 0, 1) := by decide +kernel
theorem dL_values_836 : decode cL_values 836 = .ok (.ireturn, 1) := by decide +kernel
theorem dL_values_837 : decode cL_values 837 = .ok (.iinc 22 1, 3) := by decide +kernel
theorem dL_values_840 : decode cL_values 840 = .ok (.goto (-32), 3) := by decide +kernel
theorem dL_values_843 : decode cL_values 843 = .ok (.iinc 21 1, 3) := by decide +kernel
theorem dL_values_846 : decode cL_values 846 = .ok (.goto (-50), 3) := by decide +kernel
theorem dL_values_849 : decode cL_values 849 = .ok (.aload_n 1, 1) := by decide +kernel
theorem dL_values_850 : decode cL_values 850 = .ok (.getfield 172, 3) := by decide +kernel
theorem dL_values_853 : decode cL_values 853 = .ok (.iconst 2, 1) := by decide +kernel
theorem dL_values_854 : decode cL_values 854 = .ok (.iaload, 1) := by decide +kernel
theorem dL_values_855 : decode cL_values 855 = .ok (.aload_n 1, 1) := by decide +kernel
theorem dL_values_856 : decode cL_values 856 = .ok (.getfield 172, 3) := by decide +kernel
theorem dL_values_859 : decode cL_values 859 = .ok (.iconst 3, 1) := by decide +kernel
theorem dL_values_860 : decode cL_values 860 = .ok (.iaload, 1) := by decide +kernel
theorem dL_values_861 : decode cL_values 861 = .ok (.iadd, 1) := by decide +kernel
theorem dL_values_862 : decode cL_values 862 = .ok (.aload_n 1, 1) := by decide +kernel
theorem dL_values_863 : decode cL_values 863 = .ok (.getfield 172, 3) := by decide +kernel
theorem dL_values_866 : decode cL_values 866 = .ok (.iconst 4, 1) := by decide +kernel
theorem dL_values_867 : decode cL_values 867 = .ok (.iaload, 1) := by decide +kernel
theorem dL_values_868 : decode cL_values 868 = .ok (.iadd, 1) := by decide +kernel
theorem dL_values_869 : decode cL_values 869 = .ok (.istore 21, 2) := by decide +kernel
theorem dL_values_871 : decode cL_values 871 = .ok (.iload 21, 2) := by decide +kernel
theorem dL_values_873 : decode cL_values 873 = .ok (.ifCond .ne 7, 3) := by decide +kernel
theorem dL_values_876 : decode cL_values 876 = .ok (.fconst 0, 1) := by decide +kernel
theorem dL_values_877 : decode cL_values 877 = .ok (.goto 14, 3) := by decide +kernel
theorem dL_values_880 : decode cL_values 880 = .ok (.aload_n 1, 1) := by decide +kernel
theorem dL_values_881 : decode cL_values 881 = .ok (.getfield 172, 3) := by decide +kernel
theorem dL_values_884 : decode cL_values 884 = .ok (.iconst 2, 1) := by decide +kernel
theorem dL_values_885 : decode cL_values 885 = .ok (.iaload, 1) := by decide +kernel
theorem dL_values_886 : decode cL_values 886 = .ok (.i2f, 1) := by decide +kernel
theorem dL_values_887 : decode cL_values 887 = .ok (.iload 21, 2) := by decide +kernel
theorem dL_values_889 : decode cL_values 889 = .ok (.i2f, 1) := by decide +kernel
theorem dL_values_890 : decode cL_values 890 = .ok (.fdiv, 1) := by decide +kernel
theorem dL_values_891 : decode cL_values 891 = .ok (.fstore 22, 2) := by decide +kernel
theorem dL_values_893 : decode cL_values 893 = .ok (.aload_n 1, 1) := by decide +kernel
theorem dL_values_894 : decode cL_values 894 = .ok (.getfield 172, 3) := by decide +kernel
theorem dL_values_897 : decode cL_values 897 = .ok (.bipush 8, 2) := by decide +kernel
theorem dL_values_899 : decode cL_values 899 = .ok (.iaload, 1) := by decide +kernel
theorem dL_values_900 : decode cL_values 900 = .ok (.ifCond .ne 7, 3) := by decide +kernel
theorem dL_values_903 : decode cL_values 903 = .ok (.dconst 0, 1) := by decide +kernel
theorem dL_values_904 : decode cL_values 904 = .ok (.goto 20, 3) := by decide +kernel
theorem dL_values_907 : decode cL_values 907 = .ok (.aload_n 1, 1) := by decide +kernel
theorem dL_values_908 : decode cL_values 908 = .ok (.getfield 172, 3) := by decide +kernel
theorem dL_values_911 : decode cL_values 911 = .ok (.bipush 6, 2) := by decide +kernel
theorem dL_values_913 : decode cL_values 913 = .ok (.iaload, 1) := by decide +kernel
theorem dL_values_914 : decode cL_values 914 = .ok (.i2d, 1) := by decide +kernel
theorem dL_values_915 : decode cL_values 915 = .ok (.aload_n 1, 1) := by decide +kernel
theorem dL_values_916 : decode cL_values 916 = .ok (.getfield 172, 3) := by decide +kernel
theorem dL_values_919 : decode cL_values 919 = .ok (.bipush 8, 2) := by decide +kernel
theorem dL_values_921 : decode cL_values 921 = .ok (.iaload, 1) := by decide +kernel
theorem dL_values_922 : decode cL_values 922 = .ok (.i2d, 1) := by decide +kernel
theorem dL_values_923 : decode cL_values 923 = .ok (.ddiv, 1) := by decide +kernel
theorem dL_values_924 : decode cL_values 924 = .ok (.dstore 23, 2) := by decide +kernel
theorem dL_values_926 : decode cL_values 926 = .ok (.aload_n 0, 1) := by decide +kernel
theorem dL_values_927 : decode cL_values 927 = .ok (.invokevirtual 332, 3) := by decide +kernel
theorem dL_values_930 : decode cL_values 930 = .ok (.fload 22, 2) := by decide +kernel
theorem dL_values_932 : decode cL_values 932 = .ok (.fcmp .l, 1) := by decide +kernel
theorem dL_values_933 : decode cL_values 933 = .ok (.ifCond .ne 33, 3) := by decide +kernel
theorem dL_values_936 : decode cL_values 936 = .ok (.aload_n 0, 1) := by decide +kernel
theorem dL_values_937 : decode cL_values 937 = .ok (.invokevirtual 336, 3) := by decide +kernel
theorem dL_values_940 : decode cL_values 940 = .ok (.dload 23, 2) := by decide +kernel
theorem dL_values_942 : decode cL_values 942 = .ok (.dcmp .l, 1) := by decide +kernel
theorem dL_values_943 : decode cL_values 943 = .ok (.ifCond .ne 23, 3) := by decide +kernel
theorem dL_values_946 : decode cL_values 946 = .ok (.aload_n 0, 1) := by decide +kernel
theorem dL_values_947 : decode cL_values 947 = .ok (.bipush 12, 2) := by decide +kernel
theorem dL_values_949 : decode cL_values 949 = .ok (.aload_n 1, 1) := by decide +kernel
theorem dL_values_950 : decode cL_values 950 = .ok (.getfield 164, 3) := by decide +kernel
theorem dL_values_953 : decode cL_values 953 = .ok (.iconst 0, 1) := by decide +kernel
theorem dL_values_954 : decode cL_values 954 = .ok (.iconst 0, 1) := by decide +kernel
theorem dL_values_955 : decode cL_values 955 = .ok (.invokestatic 226, 3) := by decide +kernel
theorem dL_values_958 : decode cL_values 958 = .ok (.iconst 2, 1) := by decide +kernel
theorem dL_values_959 : decode cL_values 959 = .ok (.if_icmp .ne 7, 3) := by decide +kernel
theorem dL_values_962 : decode cL_values 962 = .ok (.iconst 1, 1) := by decide +kernel
theorem dL_values_963 : decode cL_values 963 = .ok (.goto 4, 3) := by decide +kernel
theorem dL_values_966 : decode cL_values 966 = .ok (.iconst 0, 1) := by decide +kernel
theorem dL_values_967 : decode cL_values 967 = .ok (.ireturn, 1) := by decide +kernel
