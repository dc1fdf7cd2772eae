/-! decode rows (printed) -/
set_option maxRecDepth 100000 in
theorem dL_clock_376 : decode cL_clock 376 = .ok (.iconst 1, 1) := by decide +kernel
set_option maxRecDepth 100000 in
theorem dL_clock_377 : decode cL_clock 377 = .ok (.iload_n 2, 1) := by decide +kernel
set_option maxRecDepth 100000 in
theorem dL_clock_378 : decode cL_clock 378 = .ok (.iconst 2, 1) := by decide +kernel
set_option maxRecDepth 100000 in
theorem dL_clock_379 : decode cL_clock 379 = .ok (.iload 8, 2) := by decide +kernel
set_option maxRecDepth 100000 in
theorem dL_clock_381 : decode cL_clock 381 = .ok (.imul, 1) := by decide +kernel
set_option maxRecDepth 100000 in
theorem dL_clock_382 : decode cL_clock 382 = .ok (.ishr, 1) := by decide +kernel
set_option maxRecDepth 100000 in
theorem dL_clock_383 : decode cL_clock 383 = .ok (.bipush 15, 2) := by decide +kernel
set_option maxRecDepth 100000 in
theorem dL_clock_385 : decode cL_clock 385 = .ok (.iand, 1) := by decide +kernel
set_option maxRecDepth 100000 in
theorem dL_clock_386 : decode cL_clock 386 = .ok (.bipush 8, 2) := by decide +kernel
set_option maxRecDepth 100000 in
theorem dL_clock_388 : decode cL_clock 388 = .ok (.irem, 1) := by decide +kernel
set_option maxRecDepth 100000 in
theorem dL_clock_389 : decode cL_clock 389 = .ok (.iadd, 1) := by decide +kernel
set_option maxRecDepth 100000 in
theorem dL_clock_390 : decode cL_clock 390 = .ok (.iadd, 1) := by decide +kernel
set_option maxRecDepth 100000 in
theorem dL_clock_391 : decode cL_clock 391 = .ok (.istore 7, 2) := by decide +kernel
set_option maxRecDepth 100000 in
theorem dL_clock_393 : decode cL_clock 393 = .ok (.aload 5, 2) := by decide +kernel
set_option maxRecDepth 100000 in
theorem dL_clock_395 : decode cL_clock 395 = .ok (.bipush 14, 2) := by decide +kernel
set_option maxRecDepth 100000 in
theorem dL_clock_397 : decode cL_clock 397 = .ok (.iload 8, 2) := by decide +kernel
set_option maxRecDepth 100000 in
theorem dL_clock_399 : decode cL_clock 399 = .ok (.iadd, 1) := by decide +kernel
set_option maxRecDepth 100000 in
theorem dL_clock_400 : decode cL_clock 400 = .ok (.iload 7, 2) := by decide +kernel
set_option maxRecDepth 100000 in
theorem dL_clock_402 : decode cL_clock 402 = .ok (.iastore, 1) := by decide +kernel
set_option maxRecDepth 100000 in
theorem dL_clock_403 : decode cL_clock 403 = .ok (.iload 6, 2) := by decide +kernel
set_option maxRecDepth 100000 in
theorem dL_clock_405 : decode cL_clock 405 = .ok (.ifCond .eq 30, 3) := by decide +kernel
set_option maxRecDepth 100000 in
theorem dL_clock_408 : decode cL_clock 408 = .ok (.iload 8, 2) := by decide +kernel
set_option maxRecDepth 100000 in
theorem dL_clock_410 : decode cL_clock 410 = .ok (.ifCond .eq 12, 3) := by decide +kernel
set_option maxRecDepth 100000 in
theorem dL_clock_413 : decode cL_clock 413 = .ok (.aload_n 0, 1) := by decide +kernel
set_option maxRecDepth 100000 in
theorem dL_clock_414 : decode cL_clock 414 = .ok (.bipush 44, 2) := by decide +kernel
set_option maxRecDepth 100000 in
theorem dL_clock_416 : decode cL_clock 416 = .ok (.invokestatic 14, 3) := by decide +kernel
set_option maxRecDepth 100000 in
theorem dL_clock_419 : decode cL_clock 419 = .ok (.ifCond .eq 16, 3) := by decide +kernel
set_option maxRecDepth 100000 in
theorem dL_clock_422 : decode cL_clock 422 = .ok (.aload_n 0, 1) := by decide +kernel
set_option maxRecDepth 100000 in
theorem dL_clock_423 : decode cL_clock 423 = .ok (.iload 7, 2) := by decide +kernel
set_option maxRecDepth 100000 in
theorem dL_clock_425 : decode cL_clock 425 = .ok (.invokestatic 21, 3) := by decide +kernel
set_option maxRecDepth 100000 in
theorem dL_clock_428 : decode cL_clock 428 = .ok (.ifCond .eq 7, 3) := by decide +kernel
set_option maxRecDepth 100000 in
theorem dL_clock_431 : decode cL_clock 431 = .ok (.iconst 1, 1) := by decide +kernel
set_option maxRecDepth 100000 in
theorem dL_clock_432 : decode cL_clock 432 = .ok (.goto 4, 3) := by decide +kernel
set_option maxRecDepth 100000 in
theorem dL_clock_435 : decode cL_clock 435 = .ok (.iconst 0, 1) := by decide +kernel
set_option maxRecDepth 100000 in
theorem dL_clock_436 : decode cL_clock 436 = .ok (.istore 6, 2) := by decide +kernel
set_option maxRecDepth 100000 in
theorem dL_clock_438 : decode cL_clock 438 = .ok (.iinc 8 1, 3) := by decide +kernel
set_option maxRecDepth 100000 in
theorem dL_clock_441 : decode cL_clock 441 = .ok (.goto (-76), 3) := by decide +kernel
set_option maxRecDepth 100000 in
theorem dL_clock_444 : decode cL_clock 444 = .ok (.iload 6, 2) := by decide +kernel
set_option maxRecDepth 100000 in
theorem dL_clock_446 : decode cL_clock 446 = .ok (.ifCond .eq 28, 3) := by decide +kernel
set_option maxRecDepth 100000 in
theorem dL_clock_449 : decode cL_clock 449 = .ok (.aload_n 0, 1) := by decide +kernel
set_option maxRecDepth 100000 in
theorem dL_clock_450 : decode cL_clock 450 = .ok (.invokevirtual 24, 3) := by decide +kernel
set_option maxRecDepth 100000 in
theorem dL_clock_453 : decode cL_clock 453 = .ok (.aload_n 0, 1) := by decide +kernel
set_option maxRecDepth 100000 in
theorem dL_clock_454 : decode cL_clock 454 = .ok (.iconst 3, 1) := by decide +kernel
set_option maxRecDepth 100000 in
theorem dL_clock_455 : decode cL_clock 455 = .ok (.invokevirtual 28, 3) := by decide +kernel
set_option maxRecDepth 100000 in
theorem dL_clock_458 : decode cL_clock 458 = .ok (.if_icmp .ne 16, 3) := by decide +kernel
set_option maxRecDepth 100000 in
theorem dL_clock_461 : decode cL_clock 461 = .ok (.aload_n 0, 1) := by decide +kernel
set_option maxRecDepth 100000 in
theorem dL_clock_462 : decode cL_clock 462 = .ok (.invokevirtual 32, 3) := by decide +kernel
set_option maxRecDepth 100000 in
theorem dL_clock_465 : decode cL_clock 465 = .ok (.iload 4, 2) := by decide +kernel
set_option maxRecDepth 100000 in
theorem dL_clock_467 : decode cL_clock 467 = .ok (.if_icmp .ne 7, 3) := by decide +kernel
set_option maxRecDepth 100000 in
theorem dL_clock_470 : decode cL_clock 470 = .ok (.iconst 1, 1) := by decide +kernel
set_option maxRecDepth 100000 in
theorem dL_clock_471 : decode cL_clock 471 = .ok (.goto 4, 3) := by decide +kernel
set_option maxRecDepth 100000 in
theorem dL_clock_474 : decode cL_clock 474 = .ok (.iconst 0, 1) := by decide +kernel
set_option maxRecDepth 100000 in
theorem dL_clock_475 : decode cL_clock 475 = .ok (.ireturn, 1) := by decide +kernel
set_option maxRecDepth 100000 in
theorem dL_run_0 : decode cL_run 0 = .ok (.iconst 3, 1) := by decide +kernel
set_option maxRecDepth 100000 in
theorem dL_run_1 : decode cL_run 1 = .ok (.newarray .int, 2) := by decide +kernel
set_option maxRecDepth 100000 in
theorem dL_run_3 : decode cL_run 3 = .ok (.astore 8, 2) := by decide +kernel
set_option maxRecDepth 100000 in
theorem dL_run_5 : decode cL_run 5 = .ok (.iconst 0, 1) := by decide +kernel
set_option maxRecDepth 100000 in
theorem dL_run_6 : decode cL_run 6 = .ok (.istore 9, 2) := by decide +kernel
set_option maxRecDepth 100000 in
theorem dL_run_8 : decode cL_run 8 = .ok (.iload 9, 2) := by decide +kernel
set_option maxRecDepth 100000 in
theorem dL_run_10 : decode cL_run 10 = .ok (.aload_n 0, 1) := by decide +kernel
set_option maxRecDepth 100000 in
theorem dL_run_11 : decode cL_run 11 = .ok (.iconst 0, 1) := by decide +kernel
set_option maxRecDepth 100000 in
theorem dL_run_12 : decode cL_run 12 = .ok (.iaload, 1) := by decide +kernel
set_option maxRecDepth 100000 in
theorem dL_run_13 : decode cL_run 13 = .ok (.if_icmp .ge 32, 3) := by decide +kernel
set_option maxRecDepth 100000 in
theorem dL_run_16 : decode cL_run 16 = .ok (.aload 8, 2) := by decide +kernel
set_option maxRecDepth 100000 in
theorem dL_run_18 : decode cL_run 18 = .ok (.iload 9, 2) := by decide +kernel
set_option maxRecDepth 100000 in
theorem dL_run_20 : decode cL_run 20 = .ok (.aload_n 0, 1) := by decide +kernel
set_option maxRecDepth 100000 in
theorem dL_run_21 : decode cL_run 21 = .ok (.iconst 5, 1) := by decide +kernel
set_option maxRecDepth 100000 in
theorem dL_run_22 : decode cL_run 22 = .ok (.iconst 3, 1) := by decide +kernel
set_option maxRecDepth 100000 in
theorem dL_run_23 : decode cL_run 23 = .ok (.iload 9, 2) := by decide +kernel
set_option maxRecDepth 100000 in
theorem dL_run_25 : decode cL_run 25 = .ok (.imul, 1) := by decide +kernel
set_option maxRecDepth 100000 in
theorem dL_run_26 : decode cL_run 26 = .ok (.iadd, 1) := by decide +kernel
set_option maxRecDepth 100000 in
theorem dL_run_27 : decode cL_run 27 = .ok (.iaload, 1) := by decide +kernel
set_option maxRecDepth 100000 in
theorem dL_run_28 : decode cL_run 28 = .ok (.aload_n 0, 1) := by decide +kernel
set_option maxRecDepth 100000 in
theorem dL_run_29 : decode cL_run 29 = .ok (.bipush 6, 2) := by decide +kernel
set_option maxRecDepth 100000 in
theorem dL_run_31 : decode cL_run 31 = .ok (.iconst 3, 1) := by decide +kernel
set_option maxRecDepth 100000 in
theorem dL_run_32 : decode cL_run 32 = .ok (.iload 9, 2) := by decide +kernel
set_option maxRecDepth 100000 in
theorem dL_run_34 : decode cL_run 34 = .ok (.imul, 1) := by decide +kernel
set_option maxRecDepth 100000 in
theorem dL_run_35 : decode cL_run 35 = .ok (.iadd, 1) := by decide +kernel
set_option maxRecDepth 100000 in
theorem dL_run_36 : decode cL_run 36 = .ok (.iaload, 1) := by decide +kernel
set_option maxRecDepth 100000 in
theorem dL_run_37 : decode cL_run 37 = .ok (.imul, 1) := by decide +kernel
set_option maxRecDepth 100000 in
theorem dL_run_38 : decode cL_run 38 = .ok (.iastore, 1) := by decide +kernel
set_option maxRecDepth 100000 in
theorem dL_run_39 : decode cL_run 39 = .ok (.iinc 9 1, 3) := by decide +kernel
set_option maxRecDepth 100000 in
theorem dL_run_42 : decode cL_run 42 = .ok (.goto (-34), 3) := by decide +kernel
set_option maxRecDepth 100000 in
theorem dL_run_45 : decode cL_run 45 = .ok (.iconst 0, 1) := by decide +kernel
set_option maxRecDepth 100000 in
theorem dL_run_46 : decode cL_run 46 = .ok (.istore 9, 2) := by decide +kernel
set_option maxRecDepth 100000 in
theorem dL_run_48 : decode cL_run 48 = .ok (.iload 9, 2) := by decide +kernel
set_option maxRecDepth 100000 in
theorem dL_run_50 : decode cL_run 50 = .ok (.bipush 12, 2) := by decide +kernel
set_option maxRecDepth 100000 in
theorem dL_run_52 : decode cL_run 52 = .ok (.if_icmp .ge 16, 3) := by decide +kernel
set_option maxRecDepth 100000 in
theorem dL_run_55 : decode cL_run 55 = .ok (.aload 7, 2) := by decide +kernel
set_option maxRecDepth 100000 in
theorem dL_run_57 : decode cL_run 57 = .ok (.iload 9, 2) := by decide +kernel
set_option maxRecDepth 100000 in
theorem dL_run_59 : decode cL_run 59 = .ok (.bipush 96, 2) := by decide +kernel
set_option maxRecDepth 100000 in
theorem dL_run_61 : decode cL_run 61 = .ok (.iastore, 1) := by decide +kernel
set_option maxRecDepth 100000 in
theorem dL_run_62 : decode cL_run 62 = .ok (.iinc 9 1, 3) := by decide +kernel
set_option maxRecDepth 100000 in
theorem dL_run_65 : decode cL_run 65 = .ok (.goto (-17), 3) := by decide +kernel
set_option maxRecDepth 100000 in
theorem dL_run_68 : decode cL_run 68 = .ok (.aload 7, 2) := by decide +kernel
set_option maxRecDepth 100000 in
theorem dL_run_70 : decode cL_run 70 = .ok (.bipush 20, 2) := by decide +kernel
set_option maxRecDepth 100000 in
theorem dL_run_72 : decode cL_run 72 = .ok (.ldc 35, 2) := by decide +kernel
set_option maxRecDepth 100000 in
theorem dL_run_74 : decode cL_run 74 = .ok (.iastore, 1) := by decide +kernel
set_option maxRecDepth 100000 in
theorem dL_run_75 : decode cL_run 75 = .ok (.aload 7, 2) := by decide +kernel
set_option maxRecDepth 100000 in
theorem dL_run_77 : decode cL_run 77 = .ok (.bipush 21, 2) := by decide +kernel
set_option maxRecDepth 100000 in
theorem dL_run_79 : decode cL_run 79 = .ok (.iconst 0, 1) := by decide +kernel
set_option maxRecDepth 100000 in
theorem dL_run_80 : decode cL_run 80 = .ok (.iastore, 1) := by decide +kernel
set_option maxRecDepth 100000 in
theorem dL_run_81 : decode cL_run 81 = .ok (.iconst 0, 1) := by decide +kernel
set_option maxRecDepth 100000 in
theorem dL_run_82 : decode cL_run 82 = .ok (.istore 9, 2) := by decide +kernel
set_option maxRecDepth 100000 in
theorem dL_run_84 : decode cL_run 84 = .ok (.iconst 0, 1) := by decide +kernel
set_option maxRecDepth 100000 in
theorem dL_run_85 : decode cL_run 85 = .ok (.istore 10, 2) := by decide +kernel
set_option maxRecDepth 100000 in
theorem dL_run_87 : decode cL_run 87 = .ok (.iconst 0, 1) := by decide +kernel
set_option maxRecDepth 100000 in
theorem dL_run_88 : decode cL_run 88 = .ok (.istore 11, 2) := by decide +kernel
set_option maxRecDepth 100000 in
theorem dL_run_90 : decode cL_run 90 = .ok (.iconst 0, 1) := by decide +kernel
set_option maxRecDepth 100000 in
theorem dL_run_91 : decode cL_run 91 = .ok (.istore 12, 2) := by decide +kernel
set_option maxRecDepth 100000 in
theorem dL_run_93 : decode cL_run 93 = .ok (.iconst 0, 1) := by decide +kernel
set_option maxRecDepth 100000 in
theorem dL_run_94 : decode cL_run 94 = .ok (.istore 13, 2) := by decide +kernel
set_option maxRecDepth 100000 in
theorem dL_run_96 : decode cL_run 96 = .ok (.iconst 0, 1) := by decide +kernel
set_option maxRecDepth 100000 in
theorem dL_run_97 : decode cL_run 97 = .ok (.istore 14, 2) := by decide +kernel
set_option maxRecDepth 100000 in
theorem dL_run_99 : decode cL_run 99 = .ok (.iload 14, 2) := by decide +kernel
set_option maxRecDepth 100000 in
theorem dL_run_101 : decode cL_run 101 = .ok (.bipush 96, 2) := by decide +kernel
set_option maxRecDepth 100000 in
theorem dL_run_103 : decode cL_run 103 = .ok (.if_icmp .ge 529, 3) := by decide +kernel
set_option maxRecDepth 100000 in
theorem dL_run_106 : decode cL_run 106 = .ok (.iload 14, 2) := by decide +kernel
set_option maxRecDepth 100000 in
theorem dL_run_108 : decode cL_run 108 = .ok (.iload 5, 2) := by decide +kernel
set_option maxRecDepth 100000 in
theorem dL_run_110 : decode cL_run 110 = .ok (.if_icmp .lt 7, 3) := by decide +kernel
set_option maxRecDepth 100000 in
theorem dL_run_113 : decode cL_run 113 = .ok (.iconst 1, 1) := by decide +kernel
set_option maxRecDepth 100000 in
theorem dL_run_114 : decode cL_run 114 = .ok (.goto 4, 3) := by decide +kernel
set_option maxRecDepth 100000 in
theorem dL_run_117 : decode cL_run 117 = .ok (.iconst 0, 1) := by decide +kernel
set_option maxRecDepth 100000 in
theorem dL_run_118 : decode cL_run 118 = .ok (.istore 15, 2) := by decide +kernel
set_option maxRecDepth 100000 in
theorem dL_run_120 : decode cL_run 120 = .ok (.aload_n 0, 1) := by decide +kernel
set_option maxRecDepth 100000 in
theorem dL_run_121 : decode cL_run 121 = .ok (.iconst 3, 1) := by decide +kernel
set_option maxRecDepth 100000 in
theorem dL_run_122 : decode cL_run 122 = .ok (.iaload, 1) := by decide +kernel
set_option maxRecDepth 100000 in
theorem dL_run_123 : decode cL_run 123 = .ok (.istore 16, 2) := by decide +kernel
set_option maxRecDepth 100000 in
theorem dL_run_125 : decode cL_run 125 = .ok (.iconst 0, 1) := by decide +kernel
set_option maxRecDepth 100000 in
theorem dL_run_126 : decode cL_run 126 = .ok (.istore 17, 2) := by decide +kernel
set_option maxRecDepth 100000 in
theorem dL_run_128 : decode cL_run 128 = .ok (.iload 17, 2) := by decide +kernel
set_option maxRecDepth 100000 in
theorem dL_run_130 : decode cL_run 130 = .ok (.aload_n 0, 1) := by decide +kernel
set_option maxRecDepth 100000 in
theorem dL_run_131 : decode cL_run 131 = .ok (.iconst 0, 1) := by decide +kernel
set_option maxRecDepth 100000 in
theorem dL_run_132 : decode cL_run 132 = .ok (.iaload, 1) := by decide +kernel
set_option maxRecDepth 100000 in
theorem dL_run_133 : decode cL_run 133 = .ok (.if_icmp .ge 238, 3) := by decide +kernel
set_option maxRecDepth 100000 in
theorem dL_run_136 : decode cL_run 136 = .ok (.aload_n 0, 1) := by decide +kernel
set_option maxRecDepth 100000 in
theorem dL_run_137 : decode cL_run 137 = .ok (.iconst 5, 1) := by decide +kernel
set_option maxRecDepth 100000 in
theorem dL_run_138 : decode cL_run 138 = .ok (.iconst 3, 1) := by decide +kernel
set_option maxRecDepth 100000 in
theorem dL_run_139 : decode cL_run 139 = .ok (.iload 17, 2) := by decide +kernel
set_option maxRecDepth 100000 in
theorem dL_run_141 : decode cL_run 141 = .ok (.imul, 1) := by decide +kernel
set_option maxRecDepth 100000 in
theorem dL_run_142 : decode cL_run 142 = .ok (.iadd, 1) := by decide +kernel
set_option maxRecDepth 100000 in
theorem dL_run_143 : decode cL_run 143 = .ok (.iaload, 1) := by decide +kernel
set_option maxRecDepth 100000 in
theorem dL_run_144 : decode cL_run 144 = .ok (.aload_n 0, 1) := by decide +kernel
set_option maxRecDepth 100000 in
theorem dL_run_145 : decode cL_run 145 = .ok (.bipush 6, 2) := by decide +kernel
set_option maxRecDepth 100000 in
theorem dL_run_147 : decode cL_run 147 = .ok (.iconst 3, 1) := by decide +kernel
set_option maxRecDepth 100000 in
theorem dL_run_148 : decode cL_run 148 = .ok (.iload 17, 2) := by decide +kernel
set_option maxRecDepth 100000 in
theorem dL_run_150 : decode cL_run 150 = .ok (.imul, 1) := by decide +kernel
set_option maxRecDepth 100000 in
theorem dL_run_151 : decode cL_run 151 = .ok (.iadd, 1) := by decide +kernel
set_option maxRecDepth 100000 in
theorem dL_run_152 : decode cL_run 152 = .ok (.iaload, 1) := by decide +kernel
set_option maxRecDepth 100000 in
theorem dL_run_153 : decode cL_run 153 = .ok (.imul, 1) := by decide +kernel
set_option maxRecDepth 100000 in
theorem dL_run_154 : decode cL_run 154 = .ok (.istore 18, 2) := by decide +kernel
set_option maxRecDepth 100000 in
theorem dL_run_156 : decode cL_run 156 = .ok (.aload 8, 2) := by decide +kernel
set_option maxRecDepth 100000 in
theorem dL_run_158 : decode cL_run 158 = .ok (.iload 17, 2) := by decide +kernel
set_option maxRecDepth 100000 in
theorem dL_run_160 : decode cL_run 160 = .ok (.dup2, 1) := by decide +kernel
set_option maxRecDepth 100000 in
theorem dL_run_161 : decode cL_run 161 = .ok (.iaload, 1) := by decide +kernel
set_option maxRecDepth 100000 in
theorem dL_run_162 : decode cL_run 162 = .ok (.iload 16, 2) := by decide +kernel
set_option maxRecDepth 100000 in
theorem dL_run_164 : decode cL_run 164 = .ok (.iadd, 1) := by decide +kernel
set_option maxRecDepth 100000 in
theorem dL_run_165 : decode cL_run 165 = .ok (.iastore, 1) := by decide +kernel
set_option maxRecDepth 100000 in
theorem dL_run_166 : decode cL_run 166 = .ok (.iload 11, 2) := by decide +kernel
set_option maxRecDepth 100000 in
theorem dL_run_168 : decode cL_run 168 = .ok (.aload 8, 2) := by decide +kernel
set_option maxRecDepth 100000 in
theorem dL_run_170 : decode cL_run 170 = .ok (.iload 17, 2) := by decide +kernel
set_option maxRecDepth 100000 in
theorem dL_run_172 : decode cL_run 172 = .ok (.iaload, 1) := by decide +kernel
set_option maxRecDepth 100000 in
theorem dL_run_173 : decode cL_run 173 = .ok (.iload 18, 2) := by decide +kernel
set_option maxRecDepth 100000 in
theorem dL_run_175 : decode cL_run 175 = .ok (.if_icmp .le 14, 3) := by decide +kernel
set_option maxRecDepth 100000 in
theorem dL_run_178 : decode cL_run 178 = .ok (.aload 8, 2) := by decide +kernel
set_option maxRecDepth 100000 in
theorem dL_run_180 : decode cL_run 180 = .ok (.iload 17, 2) := by decide +kernel
set_option maxRecDepth 100000 in
theorem dL_run_182 : decode cL_run 182 = .ok (.iaload, 1) := by decide +kernel
set_option maxRecDepth 100000 in
theorem dL_run_183 : decode cL_run 183 = .ok (.iload 18, 2) := by decide +kernel
set_option maxRecDepth 100000 in
theorem dL_run_185 : decode cL_run 185 = .ok (.isub, 1) := by decide +kernel
set_option maxRecDepth 100000 in
theorem dL_run_186 : decode cL_run 186 = .ok (.goto 4, 3) := by decide +kernel
set_option maxRecDepth 100000 in
theorem dL_run_189 : decode cL_run 189 = .ok (.iconst 0, 1) := by decide +kernel
set_option maxRecDepth 100000 in
theorem dL_run_190 : decode cL_run 190 = .ok (.iadd, 1) := by decide +kernel
set_option maxRecDepth 100000 in
theorem dL_run_191 : decode cL_run 191 = .ok (.istore 11, 2) := by decide +kernel
set_option maxRecDepth 100000 in
theorem dL_run_193 : decode cL_run 193 = .ok (.aload 8, 2) := by decide +kernel
set_option maxRecDepth 100000 in
theorem dL_run_195 : decode cL_run 195 = .ok (.iload 17, 2) := by decide +kernel
set_option maxRecDepth 100000 in
theorem dL_run_197 : decode cL_run 197 = .ok (.aload 8, 2) := by decide +kernel
set_option maxRecDepth 100000 in
theorem dL_run_199 : decode cL_run 199 = .ok (.iload 17, 2) := by decide +kernel
set_option maxRecDepth 100000 in
theorem dL_run_201 : decode cL_run 201 = .ok (.iaload, 1) := by decide +kernel
set_option maxRecDepth 100000 in
theorem dL_run_202 : decode cL_run 202 = .ok (.iload 18, 2) := by decide +kernel
set_option maxRecDepth 100000 in
theorem dL_run_204 : decode cL_run 204 = .ok (.if_icmp .le 8, 3) := by decide +kernel
set_option maxRecDepth 100000 in
theorem dL_run_207 : decode cL_run 207 = .ok (.iload 18, 2) := by decide +kernel
set_option maxRecDepth 100000 in
theorem dL_run_209 : decode cL_run 209 = .ok (.goto 8, 3) := by decide +kernel
set_option maxRecDepth 100000 in
theorem dL_run_212 : decode cL_run 212 = .ok (.aload 8, 2) := by decide +kernel
set_option maxRecDepth 100000 in
theorem dL_run_214 : decode cL_run 214 = .ok (.iload 17, 2) := by decide +kernel
set_option maxRecDepth 100000 in
theorem dL_run_216 : decode cL_run 216 = .ok (.iaload, 1) := by decide +kernel
set_option maxRecDepth 100000 in
theorem dL_run_217 : decode cL_run 217 = .ok (.iastore, 1) := by decide +kernel
set_option maxRecDepth 100000 in
theorem dL_run_218 : decode cL_run 218 = .ok (.aload_n 0, 1) := by decide +kernel
set_option maxRecDepth 100000 in
theorem dL_run_219 : decode cL_run 219 = .ok (.bipush 7, 2) := by decide +kernel
set_option maxRecDepth 100000 in
theorem dL_run_221 : decode cL_run 221 = .ok (.iconst 3, 1) := by decide +kernel
set_option maxRecDepth 100000 in
theorem dL_run_222 : decode cL_run 222 = .ok (.iload 17, 2) := by decide +kernel
set_option maxRecDepth 100000 in
theorem dL_run_224 : decode cL_run 224 = .ok (.imul, 1) := by decide +kernel
set_option maxRecDepth 100000 in
theorem dL_run_225 : decode cL_run 225 = .ok (.iadd, 1) := by decide +kernel
set_option maxRecDepth 100000 in
theorem dL_run_226 : decode cL_run 226 = .ok (.iaload, 1) := by decide +kernel
set_option maxRecDepth 100000 in
theorem dL_run_227 : decode cL_run 227 = .ok (.istore 19, 2) := by decide +kernel
set_option maxRecDepth 100000 in
theorem dL_run_229 : decode cL_run 229 = .ok (.iload 19, 2) := by decide +kernel
set_option maxRecDepth 100000 in
theorem dL_run_231 : decode cL_run 231 = .ok (.iload_n 2, 1) := by decide +kernel
set_option maxRecDepth 100000 in
theorem dL_run_232 : decode cL_run 232 = .ok (.iconst 1, 1) := by decide +kernel
set_option maxRecDepth 100000 in
theorem dL_run_233 : decode cL_run 233 = .ok (.if_icmp .ne 20, 3) := by decide +kernel
set_option maxRecDepth 100000 in
theorem dL_run_236 : decode cL_run 236 = .ok (.iload 15, 2) := by decide +kernel
set_option maxRecDepth 100000 in
theorem dL_run_238 : decode cL_run 238 = .ok (.ifCond .eq 15, 3) := by decide +kernel
set_option maxRecDepth 100000 in
theorem dL_run_241 : decode cL_run 241 = .ok (.iload 17, 2) := by decide +kernel
set_option maxRecDepth 100000 in
theorem dL_run_243 : decode cL_run 243 = .ok (.iload_n 3, 1) := by decide +kernel
set_option maxRecDepth 100000 in
theorem dL_run_244 : decode cL_run 244 = .ok (.if_icmp .ne 9, 3) := by decide +kernel
set_option maxRecDepth 100000 in
theorem dL_run_247 : decode cL_run 247 = .ok (.iload 4, 2) := by decide +kernel
set_option maxRecDepth 100000 in
theorem dL_run_249 : decode cL_run 249 = .ok (.ineg, 1) := by decide +kernel
set_option maxRecDepth 100000 in
theorem dL_run_250 : decode cL_run 250 = .ok (.goto 25, 3) := by decide +kernel
set_option maxRecDepth 100000 in
theorem dL_run_253 : decode cL_run 253 = .ok (.iload_n 2, 1) := by decide +kernel
set_option maxRecDepth 100000 in
theorem dL_run_254 : decode cL_run 254 = .ok (.iconst 2, 1) := by decide +kernel
set_option maxRecDepth 100000 in
theorem dL_run_255 : decode cL_run 255 = .ok (.if_icmp .ne 19, 3) := by decide +kernel
set_option maxRecDepth 100000 in
theorem dL_run_258 : decode cL_run 258 = .ok (.iload 15, 2) := by decide +kernel
set_option maxRecDepth 100000 in
theorem dL_run_260 : decode cL_run 260 = .ok (.ifCond .eq 14, 3) := by decide +kernel
set_option maxRecDepth 100000 in
theorem dL_run_263 : decode cL_run 263 = .ok (.iload 17, 2) := by decide +kernel
set_option maxRecDepth 100000 in
theorem dL_run_265 : decode cL_run 265 = .ok (.iload_n 3, 1) := by decide +kernel
set_option maxRecDepth 100000 in
theorem dL_run_266 : decode cL_run 266 = .ok (.if_icmp .ne 8, 3) := by decide +kernel
set_option maxRecDepth 100000 in
theorem dL_run_269 : decode cL_run 269 = .ok (.iload 4, 2) := by decide +kernel
set_option maxRecDepth 100000 in
theorem dL_run_271 : decode cL_run 271 = .ok (.goto 4, 3) := by decide +kernel
set_option maxRecDepth 100000 in
theorem dL_run_274 : decode cL_run 274 = .ok (.iconst 0, 1) := by decide +kernel
set_option maxRecDepth 100000 in
theorem dL_run_275 : decode cL_run 275 = .ok (.iadd, 1) := by decide +kernel
set_option maxRecDepth 100000 in
theorem dL_run_276 : decode cL_run 276 = .ok (.istore 19, 2) := by decide +kernel
set_option maxRecDepth 100000 in
theorem dL_run_278 : decode cL_run 278 = .ok (.iload 19, 2) := by decide +kernel
set_option maxRecDepth 100000 in
theorem dL_run_280 : decode cL_run 280 = .ok (.ifCond .ge 7, 3) := by decide +kernel
set_option maxRecDepth 100000 in
theorem dL_run_283 : decode cL_run 283 = .ok (.iconst 0, 1) := by decide +kernel
set_option maxRecDepth 100000 in
theorem dL_run_284 : decode cL_run 284 = .ok (.goto 5, 3) := by decide +kernel
set_option maxRecDepth 100000 in
theorem dL_run_287 : decode cL_run 287 = .ok (.iload 19, 2) := by decide +kernel
set_option maxRecDepth 100000 in
theorem dL_run_289 : decode cL_run 289 = .ok (.istore 19, 2) := by decide +kernel
set_option maxRecDepth 100000 in
theorem dL_run_291 : decode cL_run 291 = .ok (.iload 19, 2) := by decide +kernel
set_option maxRecDepth 100000 in
theorem dL_run_293 : decode cL_run 293 = .ok (.aload 8, 2) := by decide +kernel
set_option maxRecDepth 100000 in
theorem dL_run_295 : decode cL_run 295 = .ok (.iload 17, 2) := by decide +kernel
set_option maxRecDepth 100000 in
theorem dL_run_297 : decode cL_run 297 = .ok (.iaload, 1) := by decide +kernel
set_option maxRecDepth 100000 in
theorem dL_run_298 : decode cL_run 298 = .ok (.aload_n 0, 1) := by decide +kernel
set_option maxRecDepth 100000 in
theorem dL_run_299 : decode cL_run 299 = .ok (.iconst 5, 1) := by decide +kernel
set_option maxRecDepth 100000 in
theorem dL_run_300 : decode cL_run 300 = .ok (.iconst 3, 1) := by decide +kernel
set_option maxRecDepth 100000 in
theorem dL_run_301 : decode cL_run 301 = .ok (.iload 17, 2) := by decide +kernel
set_option maxRecDepth 100000 in
theorem dL_run_303 : decode cL_run 303 = .ok (.imul, 1) := by decide +kernel
set_option maxRecDepth 100000 in
theorem dL_run_304 : decode cL_run 304 = .ok (.iadd, 1) := by decide +kernel
set_option maxRecDepth 100000 in
theorem dL_run_305 : decode cL_run 305 = .ok (.iaload, 1) := by decide +kernel
set_option maxRecDepth 100000 in
theorem dL_run_306 : decode cL_run 306 = .ok (.idiv, 1) := by decide +kernel
set_option maxRecDepth 100000 in
theorem dL_run_307 : decode cL_run 307 = .ok (.imul, 1) := by decide +kernel
set_option maxRecDepth 100000 in
theorem dL_run_308 : decode cL_run 308 = .ok (.iload_n 2, 1) := by decide +kernel
set_option maxRecDepth 100000 in
theorem dL_run_309 : decode cL_run 309 = .ok (.iconst 4, 1) := by decide +kernel
set_option maxRecDepth 100000 in
theorem dL_run_310 : decode cL_run 310 = .ok (.if_icmp .ne 15, 3) := by decide +kernel
set_option maxRecDepth 100000 in
theorem dL_run_313 : decode cL_run 313 = .ok (.iload 15, 2) := by decide +kernel
set_option maxRecDepth 100000 in
theorem dL_run_315 : decode cL_run 315 = .ok (.ifCond .eq 10, 3) := by decide +kernel
set_option maxRecDepth 100000 in
theorem dL_run_318 : decode cL_run 318 = .ok (.iload_n 1, 1) := by decide +kernel
set_option maxRecDepth 100000 in
theorem dL_run_319 : decode cL_run 319 = .ok (.iload 4, 2) := by decide +kernel
set_option maxRecDepth 100000 in
theorem dL_run_321 : decode cL_run 321 = .ok (.isub, 1) := by decide +kernel
set_option maxRecDepth 100000 in
theorem dL_run_322 : decode cL_run 322 = .ok (.goto 4, 3) := by decide +kernel
set_option maxRecDepth 100000 in
theorem dL_run_325 : decode cL_run 325 = .ok (.iload_n 1, 1) := by decide +kernel
set_option maxRecDepth 100000 in
theorem dL_run_326 : decode cL_run 326 = .ok (.imul, 1) := by decide +kernel
set_option maxRecDepth 100000 in
theorem dL_run_327 : decode cL_run 327 = .ok (.sipush 1000, 3) := by decide +kernel
set_option maxRecDepth 100000 in
theorem dL_run_330 : decode cL_run 330 = .ok (.idiv, 1) := by decide +kernel
set_option maxRecDepth 100000 in
theorem dL_run_331 : decode cL_run 331 = .ok (.istore 20, 2) := by decide +kernel
set_option maxRecDepth 100000 in
theorem dL_run_333 : decode cL_run 333 = .ok (.iload 20, 2) := by decide +kernel
set_option maxRecDepth 100000 in
theorem dL_run_335 : decode cL_run 335 = .ok (.aload 8, 2) := by decide +kernel
set_option maxRecDepth 100000 in
theorem dL_run_337 : decode cL_run 337 = .ok (.iload 17, 2) := by decide +kernel
set_option maxRecDepth 100000 in
theorem dL_run_339 : decode cL_run 339 = .ok (.iaload, 1) := by decide +kernel
set_option maxRecDepth 100000 in
theorem dL_run_340 : decode cL_run 340 = .ok (.if_icmp .le 11, 3) := by decide +kernel
set_option maxRecDepth 100000 in
theorem dL_run_343 : decode cL_run 343 = .ok (.aload 8, 2) := by decide +kernel
set_option maxRecDepth 100000 in
theorem dL_run_345 : decode cL_run 345 = .ok (.iload 17, 2) := by decide +kernel
set_option maxRecDepth 100000 in
theorem dL_run_347 : decode cL_run 347 = .ok (.iaload, 1) := by decide +kernel
set_option maxRecDepth 100000 in
theorem dL_run_348 : decode cL_run 348 = .ok (.goto 5, 3) := by decide +kernel
set_option maxRecDepth 100000 in
theorem dL_run_351 : decode cL_run 351 = .ok (.iload 20, 2) := by decide +kernel
set_option maxRecDepth 100000 in
theorem dL_run_353 : decode cL_run 353 = .ok (.istore 16, 2) := by decide +kernel
set_option maxRecDepth 100000 in
theorem dL_run_355 : decode cL_run 355 = .ok (.aload 8, 2) := by decide +kernel
set_option maxRecDepth 100000 in
theorem dL_run_357 : decode cL_run 357 = .ok (.iload 17, 2) := by decide +kernel
set_option maxRecDepth 100000 in
theorem dL_run_359 : decode cL_run 359 = .ok (.dup2, 1) := by decide +kernel
set_option maxRecDepth 100000 in
theorem dL_run_360 : decode cL_run 360 = .ok (.iaload, 1) := by decide +kernel
set_option maxRecDepth 100000 in
theorem dL_run_361 : decode cL_run 361 = .ok (.iload 16, 2) := by decide +kernel
set_option maxRecDepth 100000 in
theorem dL_run_363 : decode cL_run 363 = .ok (.isub, 1) := by decide +kernel
set_option maxRecDepth 100000 in
theorem dL_run_364 : decode cL_run 364 = .ok (.iastore, 1) := by decide +kernel
set_option maxRecDepth 100000 in
theorem dL_run_365 : decode cL_run 365 = .ok (.iinc 17 1, 3) := by decide +kernel
set_option maxRecDepth 100000 in
theorem dL_run_368 : decode cL_run 368 = .ok (.goto (-240), 3) := by decide +kernel
set_option maxRecDepth 100000 in
theorem dL_run_371 : decode cL_run 371 = .ok (.iload 9, 2) := by decide +kernel
set_option maxRecDepth 100000 in
theorem dL_run_373 : decode cL_run 373 = .ok (.iload 16, 2) := by decide +kernel
set_option maxRecDepth 100000 in
theorem dL_run_375 : decode cL_run 375 = .ok (.iadd, 1) := by decide +kernel
