theorem dL_sums_431 : decode cL_sums 431 = .ok (.invokevirtual 29, 3) := by decide +kernel
theorem dL_sums_434 : decode cL_sums 434 = .ok (.istore 7, 2) := by decide +kernel
theorem dL_sums_436 : decode cL_sums 436 = .ok (.iload 7, 2) := by decide +kernel
theorem dL_sums_438 : decode cL_sums 438 = .ok (.ifCond .lt 49, 3) := by decide +kernel
theorem dL_sums_441 : decode cL_sums 441 = .ok (.iload 7, 2) := by decide +kernel
theorem dL_sums_443 : decode cL_sums 443 = .ok (.iload 4, 2) := by decide +kernel
theorem dL_sums_445 : decode cL_sums 445 = .ok (.if_icmp .lt 40, 3) := by decide +kernel
theorem dL_sums_448 : decode cL_sums 448 = .ok (.aload_n 0, 1) := by decide +kernel
theorem dL_sums_449 : decode cL_sums 449 = .ok (.iload 7, 2) := by decide +kernel
theorem dL_sums_451 : decode cL_sums 451 = .ok (.iconst 0, 1) := by decide +kernel
theorem dL_sums_452 : decode cL_sums 452 = .ok (.invokevirtual 26, 3) := by decide +kernel
theorem dL_sums_455 : decode cL_sums 455 = .ok (.iconst 1, 1) := by decide +kernel
theorem dL_sums_456 : decode cL_sums 456 = .ok (.if_icmp .lt 29, 3) := by decide +kernel
theorem dL_sums_459 : decode cL_sums 459 = .ok (.iload 7, 2) := by decide +kernel
theorem dL_sums_461 : decode cL_sums 461 = .ok (.iload 4, 2) := by decide +kernel
theorem dL_sums_463 : decode cL_sums 463 = .ok (.if_icmp .le 24, 3) := by decide +kernel
theorem dL_sums_466 : decode cL_sums 466 = .ok (.aload_n 0, 1) := by decide +kernel
theorem dL_sums_467 : decode cL_sums 467 = .ok (.iload 7, 2) := by decide +kernel
theorem dL_sums_469 : decode cL_sums 469 = .ok (.iconst 1, 1) := by decide +kernel
theorem dL_sums_470 : decode cL_sums 470 = .ok (.isub, 1) := by decide +kernel
theorem dL_sums_471 : decode cL_sums 471 = .ok (.iconst 0, 1) := by decide +kernel
theorem dL_sums_472 : decode cL_sums 472 = .ok (.invokevirtual 26, 3) := by decide +kernel
theorem dL_sums_475 : decode cL_sums 475 = .ok (.aload_n 0, 1) := by decide +kernel
theorem dL_sums_476 : decode cL_sums 476 = .ok (.iload 7, 2) := by decide +kernel
theorem dL_sums_478 : decode cL_sums 478 = .ok (.iconst 0, 1) := by decide +kernel
theorem dL_sums_479 : decode cL_sums 479 = .ok (.invokevirtual 26, 3) := by decide +kernel
theorem dL_sums_482 : decode cL_sums 482 = .ok (.if_icmp .lt 5, 3) := by decide +kernel
theorem dL_sums_485 : decode cL_sums 485 = .ok (.iconst 0, 1) := by decide +kernel
theorem dL_sums_486 : decode cL_sums 486 = .ok (.ireturn, 1) := by decide +kernel
theorem dL_sums_487 : decode cL_sums 487 = .ok (.aload_n 0, 1) := by decide +kernel
theorem dL_sums_488 : decode cL_sums 488 = .ok (.iload 4, 2) := by decide +kernel
theorem dL_sums_490 : decode cL_sums 490 = .ok (.iload 4, 2) := by decide +kernel
theorem dL_sums_492 : decode cL_sums 492 = .ok (.invokevirtual 33, 3) := by decide +kernel
theorem dL_sums_495 : decode cL_sums 495 = .ok (.dstore 8, 2) := by decide +kernel
theorem dL_sums_497 : decode cL_sums 497 = .ok (.iload_n 1, 1) := by decide +kernel
theorem dL_sums_498 : decode cL_sums 498 = .ok (.aload_n 0, 1) := by decide +kernel
theorem dL_sums_499 : decode cL_sums 499 = .ok (.bipush 7, 2) := by decide +kernel
theorem dL_sums_501 : decode cL_sums 501 = .ok (.invokevirtual 9, 3) := by decide +kernel
theorem dL_sums_504 : decode cL_sums 504 = .ok (.if_icmp .ne 105, 3) := by decide +kernel
theorem dL_sums_507 : decode cL_sums 507 = .ok (.iload 6, 2) := by decide +kernel
theorem dL_sums_509 : decode cL_sums 509 = .ok (.aload_n 0, 1) := by decide +kernel
theorem dL_sums_510 : decode cL_sums 510 = .ok (.bipush 8, 2) := by decide +kernel
theorem dL_sums_512 : decode cL_sums 512 = .ok (.invokevirtual 9, 3) := by decide +kernel
theorem dL_sums_515 : decode cL_sums 515 = .ok (.if_icmp .ne 94, 3) := by decide +kernel
theorem dL_sums_518 : decode cL_sums 518 = .ok (.iload_n 2, 1) := by decide +kernel
theorem dL_sums_519 : decode cL_sums 519 = .ok (.aload_n 0, 1) := by decide +kernel
theorem dL_sums_520 : decode cL_sums 520 = .ok (.iconst 1, 1) := by decide +kernel
theorem dL_sums_521 : decode cL_sums 521 = .ok (.invokevirtual 15, 3) := by decide +kernel
theorem dL_sums_524 : decode cL_sums 524 = .ok (.if_icmp .ne 85, 3) := by decide +kernel
theorem dL_sums_527 : decode cL_sums 527 = .ok (.iload 5, 2) := by decide +kernel
theorem dL_sums_529 : decode cL_sums 529 = .ok (.aload_n 0, 1) := by decide +kernel
theorem dL_sums_530 : decode cL_sums 530 = .ok (.iconst 1, 1) := by decide +kernel
theorem dL_sums_531 : decode cL_sums 531 = .ok (.invokevirtual 9, 3) := by decide +kernel
theorem dL_sums_534 : decode cL_sums 534 = .ok (.if_icmp .ne 75, 3) := by decide +kernel
theorem dL_sums_537 : decode cL_sums 537 = .ok (.aload_n 0, 1) := by decide +kernel
theorem dL_sums_538 : decode cL_sums 538 = .ok (.bipush 16, 2) := by decide +kernel
theorem dL_sums_540 : decode cL_sums 540 = .ok (.invokevirtual 9, 3) := by decide +kernel
theorem dL_sums_543 : decode cL_sums 543 = .ok (.aload_n 0, 1) := by decide +kernel
theorem dL_sums_544 : decode cL_sums 544 = .ok (.bipush 17, 2) := by decide +kernel
theorem dL_sums_546 : decode cL_sums 546 = .ok (.invokevirtual 9, 3) := by decide +kernel
theorem dL_sums_549 : decode cL_sums 549 = .ok (.aload_n 0, 1) := by decide +kernel
theorem dL_sums_550 : decode cL_sums 550 = .ok (.bipush 18, 2) := by decide +kernel
theorem dL_sums_552 : decode cL_sums 552 = .ok (.invokevirtual 9, 3) := by decide +kernel
theorem dL_sums_555 : decode cL_sums 555 = .ok (.iadd, 1) := by decide +kernel
theorem dL_sums_556 : decode cL_sums 556 = .ok (.aload_n 0, 1) := by decide +kernel
theorem dL_sums_557 : decode cL_sums 557 = .ok (.bipush 9, 2) := by decide +kernel
theorem dL_sums_559 : decode cL_sums 559 = .ok (.invokevirtual 9, 3) := by decide +kernel
theorem dL_sums_562 : decode cL_sums 562 = .ok (.iadd, 1) := by decide +kernel
theorem dL_sums_563 : decode cL_sums 563 = .ok (.aload_n 0, 1) := by decide +kernel
theorem dL_sums_564 : decode cL_sums 564 = .ok (.bipush 10, 2) := by decide +kernel
theorem dL_sums_566 : decode cL_sums 566 = .ok (.invokevirtual 9, 3) := by decide +kernel
theorem dL_sums_569 : decode cL_sums 569 = .ok (.iadd, 1) := by decide +kernel
theorem dL_sums_570 : decode cL_sums 570 = .ok (.if_icmp .ne 39, 3) := by decide +kernel
theorem dL_sums_573 : decode cL_sums 573 = .ok (.aload_n 0, 1) := by decide +kernel
theorem dL_sums_574 : decode cL_sums 574 = .ok (.bipush 21, 2) := by decide +kernel
theorem dL_sums_576 : decode cL_sums 576 = .ok (.invokevirtual 9, 3) := by decide +kernel
theorem dL_sums_579 : decode cL_sums 579 = .ok (.aload_n 0, 1) := by decide +kernel
theorem dL_sums_580 : decode cL_sums 580 = .ok (.bipush 20, 2) := by decide +kernel
theorem dL_sums_582 : decode cL_sums 582 = .ok (.invokevirtual 9, 3) := by decide +kernel
theorem dL_sums_585 : decode cL_sums 585 = .ok (.if_icmp .lt 24, 3) := by decide +kernel
theorem dL_sums_588 : decode cL_sums 588 = .ok (.dload 8, 2) := by decide +kernel
theorem dL_sums_590 : decode cL_sums 590 = .ok (.aload_n 0, 1) := by decide +kernel
theorem dL_sums_591 : decode cL_sums 591 = .ok (.iload 4, 2) := by decide +kernel
theorem dL_sums_593 : decode cL_sums 593 = .ok (.iconst 0, 1) := by decide +kernel
theorem dL_sums_594 : decode cL_sums 594 = .ok (.invokevirtual 26, 3) := by decide +kernel
theorem dL_sums_597 : decode cL_sums 597 = .ok (.i2d, 1) := by decide +kernel
theorem dL_sums_598 : decode cL_sums 598 = .ok (.iload_n 3, 1) := by decide +kernel
theorem dL_sums_599 : decode cL_sums 599 = .ok (.i2d, 1) := by decide +kernel
theorem dL_sums_600 : decode cL_sums 600 = .ok (.ddiv, 1) := by decide +kernel
theorem dL_sums_601 : decode cL_sums 601 = .ok (.dcmp .l, 1) := by decide +kernel
theorem dL_sums_602 : decode cL_sums 602 = .ok (.ifCond .ne 7, 3) := by decide +kernel
theorem dL_sums_605 : decode cL_sums 605 = .ok (.iconst 1, 1) := by decide +kernel
theorem dL_sums_606 : decode cL_sums 606 = .ok (.goto 4, 3) := by decide +kernel
theorem dL_sums_609 : decode cL_sums 609 = .ok (.iconst 0, 1) := by decide +kernel
theorem dL_sums_610 : decode cL_sums 610 = .ok (.ireturn, 1) := by decide +kernel
theorem dL_would_0 : decode cL_would 0 = .ok (.iconst 1, 1) := by decide +kernel
theorem dL_would_1 : decode cL_would 1 = .ok (.iload_n 1, 1) := by decide +kernel
theorem dL_would_2 : decode cL_would 2 = .ok (.bipush 9, 2) := by decide +kernel
theorem dL_would_4 : decode cL_would 4 = .ok (.invokestatic 37, 3) := by decide +kernel
theorem dL_would_7 : decode cL_would 7 = .ok (.iadd, 1) := by decide +kernel
theorem dL_would_8 : decode cL_would 8 = .ok (.istore_n 2, 1) := by decide +kernel
theorem dL_would_9 : decode cL_would 9 = .ok (.iconst 1, 1) := by decide +kernel
theorem dL_would_10 : decode cL_would 10 = .ok (.iload_n 1, 1) := by decide +kernel
theorem dL_would_11 : decode cL_would 11 = .ok (.iconst 4, 1) := by decide +kernel
theorem dL_would_12 : decode cL_would 12 = .ok (.ishr, 1) := by decide +kernel
theorem dL_would_13 : decode cL_would 13 = .ok (.bipush 9, 2) := by decide +kernel
theorem dL_would_15 : decode cL_would 15 = .ok (.invokestatic 37, 3) := by decide +kernel
theorem dL_would_18 : decode cL_would 18 = .ok (.iadd, 1) := by decide +kernel
theorem dL_would_19 : decode cL_would 19 = .ok (.istore_n 3, 1) := by decide +kernel
theorem dL_would_20 : decode cL_would 20 = .ok (.aload_n 0, 1) := by decide +kernel
theorem dL_would_21 : decode cL_would 21 = .ok (.iload_n 2, 1) := by decide +kernel
theorem dL_would_22 : decode cL_would 22 = .ok (.iload_n 3, 1) := by decide +kernel
theorem dL_would_23 : decode cL_would 23 = .ok (.invokevirtual 42, 3) := by decide +kernel
theorem dL_would_26 : decode cL_would 26 = .ok (.istore 4, 2) := by decide +kernel
theorem dL_would_28 : decode cL_would 28 = .ok (.iload 4, 2) := by decide +kernel
theorem dL_would_30 : decode cL_would 30 = .ok (.ifCond .lt 84, 3) := by decide +kernel
theorem dL_would_33 : decode cL_would 33 = .ok (.aload_n 0, 1) := by decide +kernel
theorem dL_would_34 : decode cL_would 34 = .ok (.iload 4, 2) := by decide +kernel
theorem dL_would_36 : decode cL_would 36 = .ok (.iload_n 2, 1) := by decide +kernel
theorem dL_would_37 : decode cL_would 37 = .ok (.iload_n 3, 1) := by decide +kernel
theorem dL_would_38 : decode cL_would 38 = .ok (.invokevirtual 45, 3) := by decide +kernel
theorem dL_would_41 : decode cL_would 41 = .ok (.istore 5, 2) := by decide +kernel
theorem dL_would_43 : decode cL_would 43 = .ok (.aload_n 0, 1) := by decide +kernel
theorem dL_would_44 : decode cL_would 44 = .ok (.iconst 1, 1) := by decide +kernel
theorem dL_would_45 : decode cL_would 45 = .ok (.invokevirtual 9, 3) := by decide +kernel
theorem dL_would_48 : decode cL_would 48 = .ok (.bipush 80, 2) := by decide +kernel
theorem dL_would_50 : decode cL_would 50 = .ok (.if_icmp .ge 8, 3) := by decide +kernel
theorem dL_would_53 : decode cL_would 53 = .ok (.iload 5, 2) := by decide +kernel
theorem dL_would_55 : decode cL_would 55 = .ok (.ifCond .lt 20, 3) := by decide +kernel
theorem dL_would_58 : decode cL_would 58 = .ok (.iload 5, 2) := by decide +kernel
theorem dL_would_60 : decode cL_would 60 = .ok (.ifCond .lt 17, 3) := by decide +kernel
theorem dL_would_63 : decode cL_would 63 = .ok (.aload_n 0, 1) := by decide +kernel
theorem dL_would_64 : decode cL_would 64 = .ok (.iload 5, 2) := by decide +kernel
theorem dL_would_66 : decode cL_would 66 = .ok (.iconst 1, 1) := by decide +kernel
theorem dL_would_67 : decode cL_would 67 = .ok (.invokevirtual 18, 3) := by decide +kernel
theorem dL_would_70 : decode cL_would 70 = .ok (.iload 4, 2) := by decide +kernel
theorem dL_would_72 : decode cL_would 72 = .ok (.if_icmp .eq 5, 3) := by decide +kernel
theorem dL_would_75 : decode cL_would 75 = .ok (.iconst 0, 1) := by decide +kernel
theorem dL_would_76 : decode cL_would 76 = .ok (.ireturn, 1) := by decide +kernel
theorem dL_would_77 : decode cL_would 77 = .ok (.iload 5, 2) := by decide +kernel
theorem dL_would_79 : decode cL_would 79 = .ok (.ifCond .lt 8, 3) := by decide +kernel
theorem dL_would_82 : decode cL_would 82 = .ok (.aload_n 0, 1) := by decide +kernel
theorem dL_would_83 : decode cL_would 83 = .ok (.invokevirtual 49, 3) := by decide +kernel
theorem dL_would_86 : decode cL_would 86 = .ok (.pop, 1) := by decide +kernel
theorem dL_would_87 : decode cL_would 87 = .ok (.iload 4, 2) := by decide +kernel
theorem dL_would_89 : decode cL_would 89 = .ok (.aload_n 0, 1) := by decide +kernel
theorem dL_would_90 : decode cL_would 90 = .ok (.iconst 0, 1) := by decide +kernel
theorem dL_would_91 : decode cL_would 91 = .ok (.invokevirtual 9, 3) := by decide +kernel
theorem dL_would_94 : decode cL_would 94 = .ok (.if_icmp .le 20, 3) := by decide +kernel
theorem dL_would_97 : decode cL_would 97 = .ok (.aload_n 0, 1) := by decide +kernel
theorem dL_would_98 : decode cL_would 98 = .ok (.iload 4, 2) := by decide +kernel
theorem dL_would_100 : decode cL_would 100 = .ok (.iconst 1, 1) := by decide +kernel
theorem dL_would_101 : decode cL_would 101 = .ok (.isub, 1) := by decide +kernel
theorem dL_would_102 : decode cL_would 102 = .ok (.iload_n 2, 1) := by decide +kernel
theorem dL_would_103 : decode cL_would 103 = .ok (.iload_n 3, 1) := by decide +kernel
theorem dL_would_104 : decode cL_would 104 = .ok (.invokevirtual 45, 3) := by decide +kernel
theorem dL_would_107 : decode cL_would 107 = .ok (.ldc 25, 2) := by decide +kernel
theorem dL_would_109 : decode cL_would 109 = .ok (.if_icmp .eq 5, 3) := by decide +kernel
theorem dL_would_112 : decode cL_would 112 = .ok (.iconst 0, 1) := by decide +kernel
theorem dL_would_113 : decode cL_would 113 = .ok (.ireturn, 1) := by decide +kernel
theorem dL_would_114 : decode cL_would 114 = .ok (.iconst 1, 1) := by decide +kernel
theorem dL_would_115 : decode cL_would 115 = .ok (.iload_n 1, 1) := by decide +kernel
theorem dL_would_116 : decode cL_would 116 = .ok (.bipush 8, 2) := by decide +kernel
theorem dL_would_118 : decode cL_would 118 = .ok (.ishr, 1) := by decide +kernel
theorem dL_would_119 : decode cL_would 119 = .ok (.bipush 9, 2) := by decide +kernel
theorem dL_would_121 : decode cL_would 121 = .ok (.invokestatic 37, 3) := by decide +kernel
theorem dL_would_124 : decode cL_would 124 = .ok (.iadd, 1) := by decide +kernel
theorem dL_would_125 : decode cL_would 125 = .ok (.istore 5, 2) := by decide +kernel
theorem dL_would_127 : decode cL_would 127 = .ok (.aload_n 0, 1) := by decide +kernel
theorem dL_would_128 : decode cL_would 128 = .ok (.invokevirtual 52, 3) := by decide +kernel
theorem dL_would_131 : decode cL_would 131 = .ok (.istore 6, 2) := by decide +kernel
theorem dL_would_133 : decode cL_would 133 = .ok (.aload_n 0, 1) := by decide +kernel
theorem dL_would_134 : decode cL_would 134 = .ok (.iload 5, 2) := by decide +kernel
theorem dL_would_136 : decode cL_would 136 = .ok (.invokevirtual 55, 3) := by decide +kernel
theorem dL_would_139 : decode cL_would 139 = .ok (.istore 7, 2) := by decide +kernel
theorem dL_would_141 : decode cL_would 141 = .ok (.aload_n 0, 1) := by decide +kernel
theorem dL_would_142 : decode cL_would 142 = .ok (.iload 5, 2) := by decide +kernel
theorem dL_would_144 : decode cL_would 144 = .ok (.invokevirtual 58, 3) := by decide +kernel
theorem dL_would_147 : decode cL_would 147 = .ok (.istore 8, 2) := by decide +kernel
theorem dL_would_149 : decode cL_would 149 = .ok (.iload 6, 2) := by decide +kernel
theorem dL_would_151 : decode cL_would 151 = .ok (.ifCond .le 18, 3) := by decide +kernel
theorem dL_would_154 : decode cL_would 154 = .ok (.iload 6, 2) := by decide +kernel
theorem dL_would_156 : decode cL_would 156 = .ok (.iload 5, 2) := by decide +kernel
theorem dL_would_158 : decode cL_would 158 = .ok (.if_icmp .gt 11, 3) := by decide +kernel
theorem dL_would_161 : decode cL_would 161 = .ok (.iload 7, 2) := by decide +kernel
theorem dL_would_163 : decode cL_would 163 = .ok (.ifCond .ne 13, 3) := by decide +kernel
theorem dL_would_166 : decode cL_would 166 = .ok (.goto 8, 3) := by decide +kernel
theorem dL_would_169 : decode cL_would 169 = .ok (.iload 7, 2) := by decide +kernel
theorem dL_would_171 : decode cL_would 171 = .ok (.ifCond .eq 5, 3) := by decide +kernel
theorem dL_would_174 : decode cL_would 174 = .ok (.iconst 0, 1) := by decide +kernel
theorem dL_would_175 : decode cL_would 175 = .ok (.ireturn, 1) := by decide +kernel
theorem dL_would_176 : decode cL_would 176 = .ok (.iload_n 1, 1) := by decide +kernel
theorem dL_would_177 : decode cL_would 177 = .ok (.iconst 3, 1) := by decide +kernel
theorem dL_would_178 : decode cL_would 178 = .ok (.ishr, 1) := by decide +kernel
theorem dL_would_179 : decode cL_would 179 = .ok (.aload_n 0, 1) := by decide +kernel
theorem dL_would_180 : decode cL_would 180 = .ok (.iconst 1, 1) := by decide +kernel
theorem dL_would_181 : decode cL_would 181 = .ok (.invokevirtual 9, 3) := by decide +kernel
theorem dL_would_184 : decode cL_would 184 = .ok (.iconst 1, 1) := by decide +kernel
theorem dL_would_185 : decode cL_would 185 = .ok (.iadd, 1) := by decide +kernel
theorem dL_would_186 : decode cL_would 186 = .ok (.invokestatic 37, 3) := by decide +kernel
theorem dL_would_189 : decode cL_would 189 = .ok (.istore 9, 2) := by decide +kernel
theorem dL_would_191 : decode cL_would 191 = .ok (.aload_n 0, 1) := by decide +kernel
theorem dL_would_192 : decode cL_would 192 = .ok (.iload 9, 2) := by decide +kernel
theorem dL_would_194 : decode cL_would 194 = .ok (.invokevirtual 61, 3) := by decide +kernel
theorem dL_would_197 : decode cL_would 197 = .ok (.istore 10, 2) := by decide +kernel
theorem dL_would_199 : decode cL_would 199 = .ok (.aload_n 0, 1) := by decide +kernel
theorem dL_would_200 : decode cL_would 200 = .ok (.invokevirtual 64, 3) := by decide +kernel
theorem dL_would_203 : decode cL_would 203 = .ok (.istore 11, 2) := by decide +kernel
theorem dL_would_205 : decode cL_would 205 = .ok (.iload 11, 2) := by decide +kernel
theorem dL_would_207 : decode cL_would 207 = .ok (.bipush 30, 2) := by decide +kernel
theorem dL_would_209 : decode cL_would 209 = .ok (.if_icmp .gt 18, 3) := by decide +kernel
theorem dL_would_212 : decode cL_would 212 = .ok (.iload 11, 2) := by decide +kernel
theorem dL_would_214 : decode cL_would 214 = .ok (.ifCond .lt 15, 3) := by decide +kernel
theorem dL_would_217 : decode cL_would 217 = .ok (.aload_n 0, 1) := by decide +kernel
theorem dL_would_218 : decode cL_would 218 = .ok (.bipush 13, 2) := by decide +kernel
theorem dL_would_220 : decode cL_would 220 = .ok (.invokevirtual 9, 3) := by decide +kernel
theorem dL_would_223 : decode cL_would 223 = .ok (.iconst 1, 1) := by decide +kernel
theorem dL_would_224 : decode cL_would 224 = .ok (.if_icmp .ne 5, 3) := by decide +kernel
theorem dL_would_227 : decode cL_would 227 = .ok (.iconst 0, 1) := by decide +kernel
theorem dL_would_228 : decode cL_would 228 = .ok (.ireturn, 1) := by decide +kernel
theorem dL_would_229 : decode cL_would 229 = .ok (.aload_n 0, 1) := by decide +kernel
theorem dL_would_230 : decode cL_would 230 = .ok (.iconst 0, 1) := by decide +kernel
theorem dL_would_231 : decode cL_would 231 = .ok (.invokevirtual 9, 3) := by decide +kernel
theorem dL_would_234 : decode cL_would 234 = .ok (.iload 5, 2) := by decide +kernel
theorem dL_would_236 : decode cL_would 236 = .ok (.iadd, 1) := by decide +kernel
theorem dL_would_237 : decode cL_would 237 = .ok (.sipush 999, 3) := by decide +kernel
theorem dL_would_240 : decode cL_would 240 = .ok (.if_icmp .le 5, 3) := by decide +kernel
theorem dL_would_243 : decode cL_would 243 = .ok (.iconst 1, 1) := by decide +kernel
theorem dL_would_244 : decode cL_would 244 = .ok (.ireturn, 1) := by decide +kernel
theorem dL_would_245 : decode cL_would 245 = .ok (.aload_n 0, 1) := by decide +kernel
theorem dL_would_246 : decode cL_would 246 = .ok (.bipush 19, 2) := by decide +kernel
theorem dL_would_248 : decode cL_would 248 = .ok (.invokevirtual 9, 3) := by decide +kernel
theorem dL_would_251 : decode cL_would 251 = .ok (.istore 12, 2) := by decide +kernel
theorem dL_would_253 : decode cL_would 253 = .ok (.aload_n 0, 1) := by decide +kernel
theorem dL_would_254 : decode cL_would 254 = .ok (.bipush 22, 2) := by decide +kernel
theorem dL_would_256 : decode cL_would 256 = .ok (.invokevirtual 9, 3) := by decide +kernel
theorem dL_would_259 : decode cL_would 259 = .ok (.istore 13, 2) := by decide +kernel
theorem dL_would_261 : decode cL_would 261 = .ok (.aload_n 0, 1) := by decide +kernel
theorem dL_would_262 : decode cL_would 262 = .ok (.iload 5, 2) := by decide +kernel
theorem dL_would_264 : decode cL_would 264 = .ok (.invokevirtual 67, 3) := by decide +kernel
theorem dL_would_267 : decode cL_would 267 = .ok (.aload_n 0, 1) := by decide +kernel
theorem dL_would_268 : decode cL_would 268 = .ok (.iconst 0, 1) := by decide +kernel
theorem dL_would_269 : decode cL_would 269 = .ok (.invokevirtual 9, 3) := by decide +kernel
theorem dL_would_272 : decode cL_would 272 = .ok (.if_icmp .ne 31, 3) := by decide +kernel
theorem dL_would_275 : decode cL_would 275 = .ok (.aload_n 0, 1) := by decide +kernel
theorem dL_would_276 : decode cL_would 276 = .ok (.bipush 19, 2) := by decide +kernel
theorem dL_would_278 : decode cL_would 278 = .ok (.invokevirtual 9, 3) := by decide +kernel
theorem dL_would_281 : decode cL_would 281 = .ok (.iload 12, 2) := by decide +kernel
theorem dL_would_283 : decode cL_would 283 = .ok (.isub, 1) := by decide +kernel
theorem dL_would_284 : decode cL_would 284 = .ok (.iload 7, 2) := by decide +kernel
theorem dL_would_286 : decode cL_would 286 = .ok (.if_icmp .ne 17, 3) := by decide +kernel
theorem dL_would_289 : decode cL_would 289 = .ok (.aload_n 0, 1) := by decide +kernel
theorem dL_would_290 : decode cL_would 290 = .ok (.bipush 22, 2) := by decide +kernel
theorem dL_would_292 : decode cL_would 292 = .ok (.invokevirtual 9, 3) := by decide +kernel
theorem dL_would_295 : decode cL_would 295 = .ok (.iload 13, 2) := by decide +kernel
theorem dL_would_297 : decode cL_would 297 = .ok (.isub, 1) := by decide +kernel
theorem dL_would_298 : decode cL_would 298 = .ok (.iload 8, 2) := by decide +kernel
theorem dL_would_300 : decode cL_would 300 = .ok (.if_icmp .eq 5, 3) := by decide +kernel
theorem dL_would_303 : decode cL_would 303 = .ok (.iconst 0, 1) := by decide +kernel
theorem dL_would_304 : decode cL_would 304 = .ok (.ireturn, 1) := by decide +kernel
theorem dL_would_305 : decode cL_would 305 = .ok (.iload 10, 2) := by decide +kernel
theorem dL_would_307 : decode cL_would 307 = .ok (.ifCond .le 36, 3) := by decide +kernel
theorem dL_would_310 : decode cL_would 310 = .ok (.aload_n 0, 1) := by decide +kernel
theorem dL_would_311 : decode cL_would 311 = .ok (.iload 9, 2) := by decide +kernel
theorem dL_would_313 : decode cL_would 313 = .ok (.iconst 0, 1) := by decide +kernel
theorem dL_would_314 : decode cL_would 314 = .ok (.invokevirtual 18, 3) := by decide +kernel
theorem dL_would_317 : decode cL_would 317 = .ok (.iconst 2, 1) := by decide +kernel
theorem dL_would_318 : decode cL_would 318 = .ok (.if_icmp .ne 7, 3) := by decide +kernel
theorem dL_would_321 : decode cL_would 321 = .ok (.iconst 1, 1) := by decide +kernel
theorem dL_would_322 : decode cL_would 322 = .ok (.goto 4, 3) := by decide +kernel
theorem dL_would_325 : decode cL_would 325 = .ok (.iconst 0, 1) := by decide +kernel
theorem dL_would_326 : decode cL_would 326 = .ok (.iload 10, 2) := by decide +kernel
theorem dL_would_328 : decode cL_would 328 = .ok (.iload 5, 2) := by decide +kernel
theorem dL_would_330 : decode cL_would 330 = .ok (.if_icmp .gt 7, 3) := by decide +kernel
theorem dL_would_333 : decode cL_would 333 = .ok (.iconst 1, 1) := by decide +kernel
theorem dL_would_334 : decode cL_would 334 = .ok (.goto 4, 3) := by decide +kernel
theorem dL_would_337 : decode cL_would 337 = .ok (.iconst 0, 1) := by decide +kernel
theorem dL_would_338 : decode cL_would 338 = .ok (.if_icmp .eq 5, 3) := by decide +kernel
theorem dL_would_341 : decode cL_would 341 = .ok (.iconst 0, 1) := by decide +kernel
theorem dL_would_342 : decode cL_would 342 = .ok (.ireturn, 1) := by decide +kernel
theorem dL_would_343 : decode cL_would 343 = .ok (.aload_n 0, 1) := by decide +kernel
theorem dL_would_344 : decode cL_would 344 = .ok (.invokevirtual 49, 3) := by decide +kernel
theorem dL_would_347 : decode cL_would 347 = .ok (.pop, 1) := by decide +kernel
theorem dL_would_348 : decode cL_would 348 = .ok (.aload_n 0, 1) := by decide +kernel
theorem dL_would_349 : decode cL_would 349 = .ok (.bipush 19, 2) := by decide +kernel
theorem dL_would_351 : decode cL_would 351 = .ok (.invokevirtual 9, 3) := by decide +kernel
theorem dL_would_354 : decode cL_would 354 = .ok (.iload 12, 2) := by decide +kernel
theorem dL_would_356 : decode cL_would 356 = .ok (.if_icmp .ne 30, 3) := by decide +kernel
theorem dL_would_359 : decode cL_would 359 = .ok (.aload_n 0, 1) := by decide +kernel
theorem dL_would_360 : decode cL_would 360 = .ok (.iconst 0, 1) := by decide +kernel
theorem dL_would_361 : decode cL_would 361 = .ok (.invokevirtual 55, 3) := by decide +kernel
theorem dL_would_364 : decode cL_would 364 = .ok (.ldc 70, 2) := by decide +kernel
theorem dL_would_366 : decode cL_would 366 = .ok (.if_icmp .ne 20, 3) := by decide +kernel
theorem dL_would_369 : decode cL_would 369 = .ok (.aload_n 0, 1) := by decide +kernel
theorem dL_would_370 : decode cL_would 370 = .ok (.iconst 3, 1) := by decide +kernel
theorem dL_would_371 : decode cL_would 371 = .ok (.iconst 2, 1) := by decide +kernel
theorem dL_would_372 : decode cL_would 372 = .ok (.invokevirtual 33, 3) := by decide +kernel
theorem dL_would_375 : decode cL_would 375 = .ok (.ldc2_w 71, 3) := by decide +kernel
theorem dL_would_378 : decode cL_would 378 = .ok (.dcmp .l, 1) := by decide +kernel
theorem dL_would_379 : decode cL_would 379 = .ok (.ifCond .ne 7, 3) := by decide +kernel
theorem dL_would_382 : decode cL_would 382 = .ok (.iconst 1, 1) := by decide +kernel
theorem dL_would_383 : decode cL_would 383 = .ok (.goto 4, 3) := by decide +kernel
theorem dL_would_386 : decode cL_would 386 = .ok (.iconst 0, 1) := by decide +kernel
theorem dL_would_387 : decode cL_would 387 = .ok (.ireturn, 1) := by decide +kernel
theorem dL_act_0 : decode cL_act 0 = .ok (.iload_n 1, 1) := by decide +kernel
theorem dL_act_1 : decode cL_act 1 = .ok (.iconst 3, 1) := by decide +kernel
theorem dL_act_2 : decode cL_act 2 = .ok (.ishr, 1) := by decide +kernel
theorem dL_act_3 : decode cL_act 3 = .ok (.bipush 14, 2) := by decide +kernel
theorem dL_act_5 : decode cL_act 5 = .ok (.invokestatic 37, 3) := by decide +kernel
theorem dL_act_8 : decode cL_act 8 = .ok (.istore_n 3, 1) := by decide +kernel
theorem dL_act_9 : decode cL_act 9 = .ok (.aload_n 0, 1) := by decide +kernel
theorem dL_act_10 : decode cL_act 10 = .ok (.iconst 0, 1) := by decide +kernel
theorem dL_act_11 : decode cL_act 11 = .ok (.invokevirtual 9, 3) := by decide +kernel
theorem dL_act_14 : decode cL_act 14 = .ok (.istore 4, 2) := by decide +kernel
theorem dL_act_16 : decode cL_act 16 = .ok (.iload_n 2, 1) := by decide +kernel
theorem dL_act_17 : decode cL_act 17 = .ok (.aload_n 0, 1) := by decide +kernel
theorem dL_act_18 : decode cL_act 18 = .ok (.iconst 1, 1) := by decide +kernel
theorem dL_act_19 : decode cL_act 19 = .ok (.invokevirtual 9, 3) := by decide +kernel
theorem dL_act_22 : decode cL_act 22 = .ok (.iconst 1, 1) := by decide +kernel
theorem dL_act_23 : decode cL_act 23 = .ok (.iadd, 1) := by decide +kernel
theorem dL_act_24 : decode cL_act 24 = .ok (.invokestatic 37, 3) := by decide +kernel
theorem dL_act_27 : decode cL_act 27 = .ok (.istore 5, 2) := by decide +kernel
theorem dL_act_29 : decode cL_act 29 = .ok (.iload_n 3, 1) := by decide +kernel
theorem dL_act_30 : decode cL_act 30 = .ok (.iconst 4, 1) := by decide +kernel
theorem dL_act_31 : decode cL_act 31 = .ok (.if_icmp .ge 50, 3) := by decide +kernel
theorem dL_act_34 : decode cL_act 34 = .ok (.aload_n 0, 1) := by decide +kernel
theorem dL_act_35 : decode cL_act 35 = .ok (.iload 4, 2) := by decide +kernel
theorem dL_act_37 : decode cL_act 37 = .ok (.iload_n 2, 1) := by decide +kernel
theorem dL_act_38 : decode cL_act 38 = .ok (.bipush 6, 2) := by decide +kernel
theorem dL_act_40 : decode cL_act 40 = .ok (.invokestatic 37, 3) := by decide +kernel
theorem dL_act_43 : decode cL_act 43 = .ok (.iadd, 1) := by decide +kernel
theorem dL_act_44 : decode cL_act 44 = .ok (.iload_n 2, 1) := by decide +kernel
theorem dL_act_45 : decode cL_act 45 = .ok (.iconst 3, 1) := by decide +kernel
theorem dL_act_46 : decode cL_act 46 = .ok (.ishr, 1) := by decide +kernel
theorem dL_act_47 : decode cL_act 47 = .ok (.bipush 8, 2) := by decide +kernel
theorem dL_act_49 : decode cL_act 49 = .ok (.invokestatic 37, 3) := by decide +kernel
theorem dL_act_52 : decode cL_act 52 = .ok (.bipush 7, 2) := by decide +kernel
theorem dL_act_54 : decode cL_act 54 = .ok (.idiv, 1) := by decide +kernel
theorem dL_act_55 : decode cL_act 55 = .ok (.isub, 1) := by decide +kernel
theorem dL_act_56 : decode cL_act 56 = .ok (.iconst 1, 1) := by decide +kernel
theorem dL_act_57 : decode cL_act 57 = .ok (.iload_n 2, 1) := by decide +kernel
theorem dL_act_58 : decode cL_act 58 = .ok (.iconst 4, 1) := by decide +kernel
theorem dL_act_59 : decode cL_act 59 = .ok (.ishr, 1) := by decide +kernel
theorem dL_act_60 : decode cL_act 60 = .ok (.bipush 6, 2) := by decide +kernel
theorem dL_act_62 : decode cL_act 62 = .ok (.invokestatic 37, 3) := by decide +kernel
theorem dL_act_65 : decode cL_act 65 = .ok (.iadd, 1) := by decide +kernel
theorem dL_act_66 : decode cL_act 66 = .ok (.iconst 1, 1) := by decide +kernel
theorem dL_act_67 : decode cL_act 67 = .ok (.iload_n 2, 1) := by decide +kernel
theorem dL_act_68 : decode cL_act 68 = .ok (.bipush 7, 2) := by decide +kernel
theorem dL_act_70 : decode cL_act 70 = .ok (.ishr, 1) := by decide +kernel
theorem dL_act_71 : decode cL_act 71 = .ok (.bipush 6, 2) := by decide +kernel
theorem dL_act_73 : decode cL_act 73 = .ok (.invokestatic 37, 3) := by decide +kernel
theorem dL_act_76 : decode cL_act 76 = .ok (.iadd, 1) := by decide +kernel
theorem dL_act_77 : decode cL_act 77 = .ok (.invokevirtual 45, 3) := by decide +kernel
theorem dL_act_80 : decode cL_act 80 = .ok (.ireturn, 1) := by decide +kernel
theorem dL_act_81 : decode cL_act 81 = .ok (.iload_n 3, 1) := by decide +kernel
theorem dL_act_82 : decode cL_act 82 = .ok (.iconst 4, 1) := by decide +kernel
theorem dL_act_83 : decode cL_act 83 = .ok (.if_icmp .ne 39, 3) := by decide +kernel
theorem dL_act_86 : decode cL_act 86 = .ok (.iload_n 1, 1) := by decide +kernel
theorem dL_act_87 : decode cL_act 87 = .ok (.bipush 9, 2) := by decide +kernel
theorem dL_act_89 : decode cL_act 89 = .ok (.ishr, 1) := by decide +kernel
theorem dL_act_90 : decode cL_act 90 = .ok (.iconst 2, 1) := by decide +kernel
theorem dL_act_91 : decode cL_act 91 = .ok (.invokestatic 37, 3) := by decide +kernel
theorem dL_act_94 : decode cL_act 94 = .ok (.ifCond .ne 12, 3) := by decide +kernel
theorem dL_act_97 : decode cL_act 97 = .ok (.aload_n 0, 1) := by decide +kernel
theorem dL_act_98 : decode cL_act 98 = .ok (.iload 5, 2) := by decide +kernel
theorem dL_act_100 : decode cL_act 100 = .ok (.invokevirtual 73, 3) := by decide +kernel
theorem dL_act_103 : decode cL_act 103 = .ok (.goto 18, 3) := by decide +kernel
theorem dL_act_106 : decode cL_act 106 = .ok (.aload_n 0, 1) := by decide +kernel
theorem dL_act_107 : decode cL_act 107 = .ok (.iload 5, 2) := by decide +kernel
theorem dL_act_109 : decode cL_act 109 = .ok (.iconst 1, 1) := by decide +kernel
theorem dL_act_110 : decode cL_act 110 = .ok (.iload_n 2, 1) := by decide +kernel
theorem dL_act_111 : decode cL_act 111 = .ok (.iconst 5, 1) := by decide +kernel
theorem dL_act_112 : decode cL_act 112 = .ok (.ishr, 1) := by decide +kernel
theorem dL_act_113 : decode cL_act 113 = .ok (.iconst 4, 1) := by decide +kernel
theorem dL_act_114 : decode cL_act 114 = .ok (.invokestatic 37, 3) := by decide +kernel
theorem dL_act_117 : decode cL_act 117 = .ok (.iadd, 1) := by decide +kernel
theorem dL_act_118 : decode cL_act 118 = .ok (.invokevirtual 76, 3) := by decide +kernel
theorem dL_act_121 : decode cL_act 121 = .ok (.ireturn, 1) := by decide +kernel
theorem dL_act_122 : decode cL_act 122 = .ok (.iload_n 3, 1) := by decide +kernel
theorem dL_act_123 : decode cL_act 123 = .ok (.bipush 7, 2) := by decide +kernel
theorem dL_act_125 : decode cL_act 125 = .ok (.if_icmp .ge 40, 3) := by decide +kernel
theorem dL_act_128 : decode cL_act 128 = .ok (.aload_n 0, 1) := by decide +kernel
theorem dL_act_129 : decode cL_act 129 = .ok (.iload 4, 2) := by decide +kernel
theorem dL_act_131 : decode cL_act 131 = .ok (.iload_n 2, 1) := by decide +kernel
theorem dL_act_132 : decode cL_act 132 = .ok (.iconst 4, 1) := by decide +kernel
theorem dL_act_133 : decode cL_act 133 = .ok (.invokestatic 37, 3) := by decide +kernel
theorem dL_act_136 : decode cL_act 136 = .ok (.iadd, 1) := by decide +kernel
theorem dL_act_137 : decode cL_act 137 = .ok (.iload 4, 2) := by decide +kernel
theorem dL_act_139 : decode cL_act 139 = .ok (.iload_n 2, 1) := by decide +kernel
theorem dL_act_140 : decode cL_act 140 = .ok (.iconst 4, 1) := by decide +kernel
theorem dL_act_141 : decode cL_act 141 = .ok (.invokestatic 37, 3) := by decide +kernel
theorem dL_act_144 : decode cL_act 144 = .ok (.iadd, 1) := by decide +kernel
theorem dL_act_145 : decode cL_act 145 = .ok (.iload_n 2, 1) := by decide +kernel
theorem dL_act_146 : decode cL_act 146 = .ok (.iconst 2, 1) := by decide +kernel
theorem dL_act_147 : decode cL_act 147 = .ok (.ishr, 1) := by decide +kernel
theorem dL_act_148 : decode cL_act 148 = .ok (.iconst 4, 1) := by decide +kernel
theorem dL_act_149 : decode cL_act 149 = .ok (.invokestatic 37, 3) := by decide +kernel
theorem dL_act_152 : decode cL_act 152 = .ok (.iadd, 1) := by decide +kernel
theorem dL_act_153 : decode cL_act 153 = .ok (.iload_n 2, 1) := by decide +kernel
theorem dL_act_154 : decode cL_act 154 = .ok (.iconst 4, 1) := by decide +kernel
theorem dL_act_155 : decode cL_act 155 = .ok (.ishr, 1) := by decide +kernel
theorem dL_act_156 : decode cL_act 156 = .ok (.bipush 8, 2) := by decide +kernel
theorem dL_act_158 : decode cL_act 158 = .ok (.invokestatic 37, 3) := by decide +kernel
theorem dL_act_161 : decode cL_act 161 = .ok (.invokevirtual 79, 3) := by decide +kernel
theorem dL_act_164 : decode cL_act 164 = .ok (.ireturn, 1) := by decide +kernel
theorem dL_act_165 : decode cL_act 165 = .ok (.iload_n 3, 1) := by decide +kernel
theorem dL_act_166 : decode cL_act 166 = .ok (.bipush 7, 2) := by decide +kernel
theorem dL_act_168 : decode cL_act 168 = .ok (.if_icmp .ne 23, 3) := by decide +kernel
theorem dL_act_171 : decode cL_act 171 = .ok (.aload_n 0, 1) := by decide +kernel
theorem dL_act_172 : decode cL_act 172 = .ok (.iload_n 2, 1) := by decide +kernel
theorem dL_act_173 : decode cL_act 173 = .ok (.iconst 2, 1) := by decide +kernel
theorem dL_act_174 : decode cL_act 174 = .ok (.invokestatic 37, 3) := by decide +kernel
theorem dL_act_177 : decode cL_act 177 = .ok (.iconst 1, 1) := by decide +kernel
theorem dL_act_178 : decode cL_act 178 = .ok (.iload_n 2, 1) := by decide +kernel
theorem dL_act_179 : decode cL_act 179 = .ok (.iconst 1, 1) := by decide +kernel
theorem dL_act_180 : decode cL_act 180 = .ok (.ishr, 1) := by decide +kernel
theorem dL_act_181 : decode cL_act 181 = .ok (.bipush 40, 2) := by decide +kernel
theorem dL_act_183 : decode cL_act 183 = .ok (.invokestatic 37, 3) := by decide +kernel
theorem dL_act_186 : decode cL_act 186 = .ok (.iadd, 1) := by decide +kernel
theorem dL_act_187 : decode cL_act 187 = .ok (.invokevirtual 82, 3) := by decide +kernel
theorem dL_act_190 : decode cL_act 190 = .ok (.ireturn, 1) := by decide +kernel
theorem dL_act_191 : decode cL_act 191 = .ok (.iload_n 3, 1) := by decide +kernel
theorem dL_act_192 : decode cL_act 192 = .ok (.bipush 8, 2) := by decide +kernel
theorem dL_act_194 : decode cL_act 194 = .ok (.if_icmp .ne 36, 3) := by decide +kernel
theorem dL_act_197 : decode cL_act 197 = .ok (.iload_n 2, 1) := by decide +kernel
theorem dL_act_198 : decode cL_act 198 = .ok (.iconst 4, 1) := by decide +kernel
theorem dL_act_199 : decode cL_act 199 = .ok (.invokestatic 37, 3) := by decide +kernel
theorem dL_act_202 : decode cL_act 202 = .ok (.ifCond .ne 10, 3) := by decide +kernel
theorem dL_act_205 : decode cL_act 205 = .ok (.aload_n 0, 1) := by decide +kernel
theorem dL_act_206 : decode cL_act 206 = .ok (.invokevirtual 85, 3) := by decide +kernel
theorem dL_act_209 : decode cL_act 209 = .ok (.goto 20, 3) := by decide +kernel
theorem dL_act_212 : decode cL_act 212 = .ok (.aload_n 0, 1) := by decide +kernel
theorem dL_act_213 : decode cL_act 213 = .ok (.iload_n 2, 1) := by decide +kernel
theorem dL_act_214 : decode cL_act 214 = .ok (.iconst 3, 1) := by decide +kernel
theorem dL_act_215 : decode cL_act 215 = .ok (.invokestatic 37, 3) := by decide +kernel
theorem dL_act_218 : decode cL_act 218 = .ok (.ifCond .le 7, 3) := by decide +kernel
theorem dL_act_221 : decode cL_act 221 = .ok (.iconst 1, 1) := by decide +kernel
theorem dL_act_222 : decode cL_act 222 = .ok (.goto 4, 3) := by decide +kernel
theorem dL_act_225 : decode cL_act 225 = .ok (.iconst 0, 1) := by decide +kernel
theorem dL_act_226 : decode cL_act 226 = .ok (.invokevirtual 88, 3) := by decide +kernel
theorem dL_act_229 : decode cL_act 229 = .ok (.ireturn, 1) := by decide +kernel
theorem dL_act_230 : decode cL_act 230 = .ok (.iload_n 3, 1) := by decide +kernel
theorem dL_act_231 : decode cL_act 231 = .ok (.bipush 12, 2) := by decide +kernel
theorem dL_act_233 : decode cL_act 233 = .ok (.if_icmp .ge 15, 3) := by decide +kernel
theorem dL_act_236 : decode cL_act 236 = .ok (.aload_n 0, 1) := by decide +kernel
theorem dL_act_237 : decode cL_act 237 = .ok (.iconst 1, 1) := by decide +kernel
theorem dL_act_238 : decode cL_act 238 = .ok (.iload_n 2, 1) := by decide +kernel
theorem dL_act_239 : decode cL_act 239 = .ok (.iconst 3, 1) := by decide +kernel
theorem dL_act_240 : decode cL_act 240 = .ok (.invokestatic 37, 3) := by decide +kernel
theorem dL_act_243 : decode cL_act 243 = .ok (.iadd, 1) := by decide +kernel
theorem dL_act_244 : decode cL_act 244 = .ok (.invokevirtual 67, 3) := by decide +kernel
theorem dL_act_247 : decode cL_act 247 = .ok (.ireturn, 1) := by decide +kernel
theorem dL_act_248 : decode cL_act 248 = .ok (.iload_n 3, 1) := by decide +kernel
theorem dL_act_249 : decode cL_act 249 = .ok (.bipush 12, 2) := by decide +kernel
theorem dL_act_251 : decode cL_act 251 = .ok (.if_icmp .ne 22, 3) := by decide +kernel
theorem dL_act_254 : decode cL_act 254 = .ok (.aload_n 0, 1) := by decide +kernel
theorem dL_act_255 : decode cL_act 255 = .ok (.iload_n 2, 1) := by decide +kernel
theorem dL_act_256 : decode cL_act 256 = .ok (.bipush 10, 2) := by decide +kernel
theorem dL_act_258 : decode cL_act 258 = .ok (.invokestatic 37, 3) := by decide +kernel
theorem dL_act_261 : decode cL_act 261 = .ok (.iload_n 2, 1) := by decide +kernel
theorem dL_act_262 : decode cL_act 262 = .ok (.iconst 4, 1) := by decide +kernel
theorem dL_act_263 : decode cL_act 263 = .ok (.ishr, 1) := by decide +kernel
theorem dL_act_264 : decode cL_act 264 = .ok (.bipush 30, 2) := by decide +kernel
theorem dL_act_266 : decode cL_act 266 = .ok (.invokestatic 37, 3) := by decide +kernel
theorem dL_act_269 : decode cL_act 269 = .ok (.invokevirtual 92, 3) := by decide +kernel
theorem dL_act_272 : decode cL_act 272 = .ok (.ireturn, 1) := by decide +kernel
theorem dL_act_273 : decode cL_act 273 = .ok (.aload_n 0, 1) := by decide +kernel
theorem dL_act_274 : decode cL_act 274 = .ok (.invokevirtual 95, 3) := by decide +kernel
theorem dL_act_277 : decode cL_act 277 = .ok (.pop, 1) := by decide +kernel
theorem dL_act_278 : decode cL_act 278 = .ok (.aload_n 0, 1) := by decide +kernel
theorem dL_act_279 : decode cL_act 279 = .ok (.bipush 48, 2) := by decide +kernel
theorem dL_act_281 : decode cL_act 281 = .ok (.iload_n 2, 1) := by decide +kernel
theorem dL_act_282 : decode cL_act 282 = .ok (.bipush 10, 2) := by decide +kernel
theorem dL_act_284 : decode cL_act 284 = .ok (.invokestatic 37, 3) := by decide +kernel
theorem dL_act_287 : decode cL_act 287 = .ok (.iadd, 1) := by decide +kernel
theorem dL_act_288 : decode cL_act 288 = .ok (.i2c, 1) := by decide +kernel
theorem dL_act_289 : decode cL_act 289 = .ok (.invokevirtual 98, 3) := by decide +kernel
theorem dL_act_292 : decode cL_act 292 = .ok (.pop, 1) := by decide +kernel
theorem dL_act_293 : decode cL_act 293 = .ok (.aload_n 0, 1) := by decide +kernel
theorem dL_act_294 : decode cL_act 294 = .ok (.bipush 43, 2) := by decide +kernel
theorem dL_act_296 : decode cL_act 296 = .ok (.invokevirtual 98, 3) := by decide +kernel
theorem dL_act_299 : decode cL_act 299 = .ok (.pop, 1) := by decide +kernel
theorem dL_act_300 : decode cL_act 300 = .ok (.aload_n 0, 1) := by decide +kernel
theorem dL_act_301 : decode cL_act 301 = .ok (.bipush 49, 2) := by decide +kernel
theorem dL_act_303 : decode cL_act 303 = .ok (.iload_n 2, 1) := by decide +kernel
theorem dL_act_304 : decode cL_act 304 = .ok (.iconst 4, 1) := by decide +kernel
theorem dL_act_305 : decode cL_act 305 = .ok (.ishr, 1) := by decide +kernel
theorem dL_act_306 : decode cL_act 306 = .ok (.bipush 9, 2) := by decide +kernel
theorem dL_act_308 : decode cL_act 308 = .ok (.invokestatic 37, 3) := by decide +kernel
theorem dL_act_311 : decode cL_act 311 = .ok (.iadd, 1) := by decide +kernel
theorem dL_act_312 : decode cL_act 312 = .ok (.i2c, 1) := by decide +kernel
theorem dL_act_313 : decode cL_act 313 = .ok (.invokevirtual 98, 3) := by decide +kernel
theorem dL_act_316 : decode cL_act 316 = .ok (.pop, 1) := by decide +kernel
theorem dL_act_317 : decode cL_act 317 = .ok (.aload_n 0, 1) := by decide +kernel
theorem dL_act_318 : decode cL_act 318 = .ok (.bipush 120, 2) := by decide +kernel
theorem dL_act_320 : decode cL_act 320 = .ok (.invokevirtual 98, 3) := by decide +kernel
theorem dL_act_323 : decode cL_act 323 = .ok (.pop, 1) := by decide +kernel
theorem dL_act_324 : decode cL_act 324 = .ok (.aload_n 0, 1) := by decide +kernel
theorem dL_act_325 : decode cL_act 325 = .ok (.bipush 49, 2) := by decide +kernel
theorem dL_act_327 : decode cL_act 327 = .ok (.iload_n 2, 1) := by decide +kernel
theorem dL_act_328 : decode cL_act 328 = .ok (.bipush 8, 2) := by decide +kernel
theorem dL_act_330 : decode cL_act 330 = .ok (.ishr, 1) := by decide +kernel
theorem dL_act_331 : decode cL_act 331 = .ok (.iconst 4, 1) := by decide +kernel
theorem dL_act_332 : decode cL_act 332 = .ok (.invokestatic 37, 3) := by decide +kernel
theorem dL_act_335 : decode cL_act 335 = .ok (.iadd, 1) := by decide +kernel
theorem dL_act_336 : decode cL_act 336 = .ok (.i2c, 1) := by decide +kernel
theorem dL_act_337 : decode cL_act 337 = .ok (.invokevirtual 98, 3) := by decide +kernel
theorem dL_act_340 : decode cL_act 340 = .ok (.pop, 1) := by decide +kernel
theorem dL_act_341 : decode cL_act 341 = .ok (.aload_n 0, 1) := by decide +kernel
theorem dL_act_342 : decode cL_act 342 = .ok (.invokevirtual 102, 3) := by decide +kernel
theorem dL_act_345 : decode cL_act 345 = .ok (.ireturn, 1) := by decide +kernel
theorem dL_law_0 : decode cL_law 0 = .ok (.new 10, 3) := by decide +kernel
theorem dL_law_3 : decode cL_law 3 = .ok (.dup, 1) := by decide +kernel
theorem dL_law_4 : decode cL_law 4 = .ok (.invokespecial 105, 3) := by decide +kernel
theorem dL_law_7 : decode cL_law 7 = .ok (.astore_n 1, 1) := by decide +kernel
theorem dL_law_8 : decode cL_law 8 = .ok (.iconst 0, 1) := by decide +kernel
theorem dL_law_9 : decode cL_law 9 = .ok (.istore_n 2, 1) := by decide +kernel
theorem dL_law_10 : decode cL_law 10 = .ok (.iload_n 2, 1) := by decide +kernel
theorem dL_law_11 : decode cL_law 11 = .ok (.bipush 24, 2) := by decide +kernel
theorem dL_law_13 : decode cL_law 13 = .ok (.if_icmp .ge 186, 3) := by decide +kernel
theorem dL_law_16 : decode cL_law 16 = .ok (.aload_n 0, 1) := by decide +kernel
theorem dL_law_17 : decode cL_law 17 = .ok (.iconst 2, 1) := by decide +kernel
theorem dL_law_18 : decode cL_law 18 = .ok (.iload_n 2, 1) := by decide +kernel
theorem dL_law_19 : decode cL_law 19 = .ok (.imul, 1) := by decide +kernel
theorem dL_law_20 : decode cL_law 20 = .ok (.invokestatic 106, 3) := by decide +kernel
theorem dL_law_23 : decode cL_law 23 = .ok (.istore_n 3, 1) := by decide +kernel
theorem dL_law_24 : decode cL_law 24 = .ok (.aload_n 0, 1) := by decide +kernel
theorem dL_law_25 : decode cL_law 25 = .ok (.iconst 2, 1) := by decide +kernel
theorem dL_law_26 : decode cL_law 26 = .ok (.iload_n 2, 1) := by decide +kernel
theorem dL_law_27 : decode cL_law 27 = .ok (.imul, 1) := by decide +kernel
theorem dL_law_28 : decode cL_law 28 = .ok (.iconst 1, 1) := by decide +kernel
theorem dL_law_29 : decode cL_law 29 = .ok (.iadd, 1) := by decide +kernel
theorem dL_law_30 : decode cL_law 30 = .ok (.invokestatic 106, 3) := by decide +kernel
theorem dL_law_33 : decode cL_law 33 = .ok (.istore 4, 2) := by decide +kernel
theorem dL_law_35 : decode cL_law 35 = .ok (.aload_n 1, 1) := by decide +kernel
theorem dL_law_36 : decode cL_law 36 = .ok (.invokestatic 110, 3) := by decide +kernel
theorem dL_law_39 : decode cL_law 39 = .ok (.astore 5, 2) := by decide +kernel
theorem dL_law_41 : decode cL_law 41 = .ok (.aload_n 1, 1) := by decide +kernel
theorem dL_law_42 : decode cL_law 42 = .ok (.bipush 23, 2) := by decide +kernel
theorem dL_law_44 : decode cL_law 44 = .ok (.invokevirtual 9, 3) := by decide +kernel
theorem dL_law_47 : decode cL_law 47 = .ok (.istore 6, 2) := by decide +kernel
theorem dL_law_49 : decode cL_law 49 = .ok (.aload_n 1, 1) := by decide +kernel
theorem dL_law_50 : decode cL_law 50 = .ok (.iload_n 3, 1) := by decide +kernel
theorem dL_law_51 : decode cL_law 51 = .ok (.iload 4, 2) := by decide +kernel
theorem dL_law_53 : decode cL_law 53 = .ok (.invokestatic 114, 3) := by decide +kernel
theorem dL_law_56 : decode cL_law 56 = .ok (.istore 7, 2) := by decide +kernel
theorem dL_law_58 : decode cL_law 58 = .ok (.aload_n 1, 1) := by decide +kernel
theorem dL_law_59 : decode cL_law 59 = .ok (.invokestatic 110, 3) := by decide +kernel
theorem dL_law_62 : decode cL_law 62 = .ok (.astore 8, 2) := by decide +kernel
theorem dL_law_64 : decode cL_law 64 = .ok (.iload 7, 2) := by decide +kernel
theorem dL_law_66 : decode cL_law 66 = .ok (.ifCond .ge 26, 3) := by decide +kernel
theorem dL_law_69 : decode cL_law 69 = .ok (.aload 5, 2) := by decide +kernel
theorem dL_law_71 : decode cL_law 71 = .ok (.aload 8, 2) := by decide +kernel
theorem dL_law_73 : decode cL_law 73 = .ok (.invokestatic 118, 3) := by decide +kernel
theorem dL_law_76 : decode cL_law 76 = .ok (.ifCond .eq 14, 3) := by decide +kernel
theorem dL_law_79 : decode cL_law 79 = .ok (.aload_n 1, 1) := by decide +kernel
theorem dL_law_80 : decode cL_law 80 = .ok (.bipush 23, 2) := by decide +kernel
theorem dL_law_82 : decode cL_law 82 = .ok (.invokevirtual 9, 3) := by decide +kernel
theorem dL_law_85 : decode cL_law 85 = .ok (.iload 6, 2) := by decide +kernel
theorem dL_law_87 : decode cL_law 87 = .ok (.if_icmp .eq 5, 3) := by decide +kernel
theorem dL_law_90 : decode cL_law 90 = .ok (.iconst 0, 1) := by decide +kernel
theorem dL_law_91 : decode cL_law 91 = .ok (.ireturn, 1) := by decide +kernel
theorem dL_law_92 : decode cL_law 92 = .ok (.iload 7, 2) := by decide +kernel
theorem dL_law_94 : decode cL_law 94 = .ok (.ifCond .lt 72, 3) := by decide +kernel
theorem dL_law_97 : decode cL_law 97 = .ok (.iload_n 3, 1) := by decide +kernel
theorem dL_law_98 : decode cL_law 98 = .ok (.iconst 4, 1) := by decide +kernel
theorem dL_law_99 : decode cL_law 99 = .ok (.invokestatic 37, 3) := by decide +kernel
theorem dL_law_102 : decode cL_law 102 = .ok (.ifCond .ne 64, 3) := by decide +kernel
theorem dL_law_105 : decode cL_law 105 = .ok (.aload_n 1, 1) := by decide +kernel
theorem dL_law_106 : decode cL_law 106 = .ok (.invokevirtual 49, 3) := by decide +kernel
theorem dL_law_109 : decode cL_law 109 = .ok (.istore 9, 2) := by decide +kernel
theorem dL_law_111 : decode cL_law 111 = .ok (.aload_n 1, 1) := by decide +kernel
theorem dL_law_112 : decode cL_law 112 = .ok (.invokestatic 110, 3) := by decide +kernel
theorem dL_law_115 : decode cL_law 115 = .ok (.aload 5, 2) := by decide +kernel
theorem dL_law_117 : decode cL_law 117 = .ok (.invokestatic 118, 3) := by decide +kernel
theorem dL_law_120 : decode cL_law 120 = .ok (.ifCond .eq 44, 3) := by decide +kernel
theorem dL_law_123 : decode cL_law 123 = .ok (.iload 9, 2) := by decide +kernel
theorem dL_law_125 : decode cL_law 125 = .ok (.iload 6, 2) := by decide +kernel
theorem dL_law_127 : decode cL_law 127 = .ok (.iconst 4, 1) := by decide +kernel
theorem dL_law_128 : decode cL_law 128 = .ok (.if_icmp .ne 7, 3) := by decide +kernel
theorem dL_law_131 : decode cL_law 131 = .ok (.iconst 3, 1) := by decide +kernel
theorem dL_law_132 : decode cL_law 132 = .ok (.goto 5, 3) := by decide +kernel
theorem dL_law_135 : decode cL_law 135 = .ok (.iload 6, 2) := by decide +kernel
theorem dL_law_137 : decode cL_law 137 = .ok (.if_icmp .ne 27, 3) := by decide +kernel
theorem dL_law_140 : decode cL_law 140 = .ok (.aload_n 1, 1) := by decide +kernel
theorem dL_law_141 : decode cL_law 141 = .ok (.iload_n 3, 1) := by decide +kernel
theorem dL_law_142 : decode cL_law 142 = .ok (.iload 4, 2) := by decide +kernel
theorem dL_law_144 : decode cL_law 144 = .ok (.invokestatic 114, 3) := by decide +kernel
theorem dL_law_147 : decode cL_law 147 = .ok (.iload 7, 2) := by decide +kernel
theorem dL_law_149 : decode cL_law 149 = .ok (.if_icmp .ne 15, 3) := by decide +kernel
theorem dL_law_152 : decode cL_law 152 = .ok (.aload_n 1, 1) := by decide +kernel
theorem dL_law_153 : decode cL_law 153 = .ok (.invokestatic 110, 3) := by decide +kernel
theorem dL_law_156 : decode cL_law 156 = .ok (.aload 8, 2) := by decide +kernel
theorem dL_law_158 : decode cL_law 158 = .ok (.invokestatic 118, 3) := by decide +kernel
theorem dL_law_161 : decode cL_law 161 = .ok (.ifCond .ne 5, 3) := by decide +kernel
theorem dL_law_164 : decode cL_law 164 = .ok (.iconst 0, 1) := by decide +kernel
theorem dL_law_165 : decode cL_law 165 = .ok (.ireturn, 1) := by decide +kernel
theorem dL_law_166 : decode cL_law 166 = .ok (.aload_n 1, 1) := by decide +kernel
theorem dL_law_167 : decode cL_law 167 = .ok (.invokestatic 122, 3) := by decide +kernel
theorem dL_law_170 : decode cL_law 170 = .ok (.ifCond .eq 21, 3) := by decide +kernel
theorem dL_law_173 : decode cL_law 173 = .ok (.iload_n 2, 1) := by decide +kernel
theorem dL_law_174 : decode cL_law 174 = .ok (.iconst 4, 1) := by decide +kernel
theorem dL_law_175 : decode cL_law 175 = .ok (.irem, 1) := by decide +kernel
theorem dL_law_176 : decode cL_law 176 = .ok (.iconst 3, 1) := by decide +kernel
theorem dL_law_177 : decode cL_law 177 = .ok (.if_icmp .ne 16, 3) := by decide +kernel
theorem dL_law_180 : decode cL_law 180 = .ok (.aload_n 1, 1) := by decide +kernel
theorem dL_law_181 : decode cL_law 181 = .ok (.iload 4, 2) := by decide +kernel
theorem dL_law_183 : decode cL_law 183 = .ok (.iconst 1, 1) := by decide +kernel
theorem dL_law_184 : decode cL_law 184 = .ok (.ishr, 1) := by decide +kernel
theorem dL_law_185 : decode cL_law 185 = .ok (.invokestatic 126, 3) := by decide +kernel
theorem dL_law_188 : decode cL_law 188 = .ok (.ifCond .ne 5, 3) := by decide +kernel
theorem dL_law_191 : decode cL_law 191 = .ok (.iconst 0, 1) := by decide +kernel
theorem dL_law_192 : decode cL_law 192 = .ok (.ireturn, 1) := by decide +kernel
theorem dL_law_193 : decode cL_law 193 = .ok (.iinc 2 1, 3) := by decide +kernel
theorem dL_law_196 : decode cL_law 196 = .ok (.goto (-186), 3) := by decide +kernel
theorem dL_law_199 : decode cL_law 199 = .ok (.iconst 1, 1) := by decide +kernel
theorem dL_law_200 : decode cL_law 200 = .ok (.ireturn, 1) := by decide +kernel
