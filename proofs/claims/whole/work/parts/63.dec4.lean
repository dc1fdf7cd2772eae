/-! decode rows (printed) -/
set_option maxRecDepth 100000 in
theorem dX9_asTick_6 : decode cX9_asTick 6 = .ok (.iconst (-1), 1) := by decide +kernel
set_option maxRecDepth 100000 in
theorem dX9_asTick_7 : decode cX9_asTick 7 = .ok (.goto 4, 3) := by decide +kernel
set_option maxRecDepth 100000 in
theorem dX9_asTick_10 : decode cX9_asTick 10 = .ok (.iload_n 0, 1) := by decide +kernel
set_option maxRecDepth 100000 in
theorem dX9_asTick_11 : decode cX9_asTick 11 = .ok (.ireturn, 1) := by decide +kernel
set_option maxRecDepth 100000 in
theorem dX9_drops_0 : decode cX9_drops 0 = .ok (.aload_n 0, 1) := by decide +kernel
set_option maxRecDepth 100000 in
theorem dX9_drops_1 : decode cX9_drops 1 = .ok (.iload_n 1, 1) := by decide +kernel
set_option maxRecDepth 100000 in
theorem dX9_drops_2 : decode cX9_drops 2 = .ok (.iload_n 2, 1) := by decide +kernel
set_option maxRecDepth 100000 in
theorem dX9_drops_3 : decode cX9_drops 3 = .ok (.iload_n 3, 1) := by decide +kernel
set_option maxRecDepth 100000 in
theorem dX9_drops_4 : decode cX9_drops 4 = .ok (.invokevirtual 277, 3) := by decide +kernel
set_option maxRecDepth 100000 in
theorem dX9_drops_7 : decode cX9_drops 7 = .ok (.ifCond .eq 13, 3) := by decide +kernel
set_option maxRecDepth 100000 in
theorem dX9_drops_10 : decode cX9_drops 10 = .ok (.aload_n 0, 1) := by decide +kernel
set_option maxRecDepth 100000 in
theorem dX9_drops_11 : decode cX9_drops 11 = .ok (.iload_n 1, 1) := by decide +kernel
set_option maxRecDepth 100000 in
theorem dX9_drops_12 : decode cX9_drops 12 = .ok (.iload 4, 2) := by decide +kernel
set_option maxRecDepth 100000 in
theorem dX9_drops_14 : decode cX9_drops 14 = .ok (.invokevirtual 194, 3) := by decide +kernel
set_option maxRecDepth 100000 in
theorem dX9_drops_17 : decode cX9_drops 17 = .ok (.ifCond .ne 6, 3) := by decide +kernel
set_option maxRecDepth 100000 in
theorem dX9_drops_20 : decode cX9_drops 20 = .ok (.bipush (-101), 2) := by decide +kernel
set_option maxRecDepth 100000 in
theorem dX9_drops_22 : decode cX9_drops 22 = .ok (.ireturn, 1) := by decide +kernel
set_option maxRecDepth 100000 in
theorem dX9_drops_23 : decode cX9_drops 23 = .ok (.aload_n 0, 1) := by decide +kernel
set_option maxRecDepth 100000 in
theorem dX9_drops_24 : decode cX9_drops 24 = .ok (.iload_n 1, 1) := by decide +kernel
set_option maxRecDepth 100000 in
theorem dX9_drops_25 : decode cX9_drops 25 = .ok (.iload_n 2, 1) := by decide +kernel
set_option maxRecDepth 100000 in
theorem dX9_drops_26 : decode cX9_drops 26 = .ok (.iload_n 3, 1) := by decide +kernel
set_option maxRecDepth 100000 in
theorem dX9_drops_27 : decode cX9_drops 27 = .ok (.invokevirtual 280, 3) := by decide +kernel
set_option maxRecDepth 100000 in
theorem dX9_drops_30 : decode cX9_drops 30 = .ok (.aload_n 0, 1) := by decide +kernel
set_option maxRecDepth 100000 in
theorem dX9_drops_31 : decode cX9_drops 31 = .ok (.getfield 102, 3) := by decide +kernel
set_option maxRecDepth 100000 in
theorem dX9_drops_34 : decode cX9_drops 34 = .ok (.iload 4, 2) := by decide +kernel
set_option maxRecDepth 100000 in
theorem dX9_drops_36 : decode cX9_drops 36 = .ok (.iaload, 1) := by decide +kernel
set_option maxRecDepth 100000 in
theorem dX9_drops_37 : decode cX9_drops 37 = .ok (.invokestatic 283, 3) := by decide +kernel
set_option maxRecDepth 100000 in
theorem dX9_drops_40 : decode cX9_drops 40 = .ok (.ireturn, 1) := by decide +kernel
set_option maxRecDepth 100000 in
theorem dX9_error_0 : decode cX9_error 0 = .ok (.aload_n 0, 1) := by decide +kernel
set_option maxRecDepth 100000 in
theorem dX9_error_1 : decode cX9_error 1 = .ok (.iload_n 1, 1) := by decide +kernel
set_option maxRecDepth 100000 in
theorem dX9_error_2 : decode cX9_error 2 = .ok (.iload_n 2, 1) := by decide +kernel
set_option maxRecDepth 100000 in
theorem dX9_error_3 : decode cX9_error 3 = .ok (.iload_n 3, 1) := by decide +kernel
set_option maxRecDepth 100000 in
theorem dX9_error_4 : decode cX9_error 4 = .ok (.invokevirtual 277, 3) := by decide +kernel
set_option maxRecDepth 100000 in
theorem dX9_error_7 : decode cX9_error 7 = .ok (.ifCond .eq 13, 3) := by decide +kernel
set_option maxRecDepth 100000 in
theorem dX9_error_10 : decode cX9_error 10 = .ok (.aload_n 0, 1) := by decide +kernel
set_option maxRecDepth 100000 in
theorem dX9_error_11 : decode cX9_error 11 = .ok (.iload_n 1, 1) := by decide +kernel
set_option maxRecDepth 100000 in
theorem dX9_error_12 : decode cX9_error 12 = .ok (.iload 4, 2) := by decide +kernel
set_option maxRecDepth 100000 in
theorem dX9_error_14 : decode cX9_error 14 = .ok (.invokevirtual 194, 3) := by decide +kernel
set_option maxRecDepth 100000 in
theorem dX9_error_17 : decode cX9_error 17 = .ok (.ifCond .ne 7, 3) := by decide +kernel
set_option maxRecDepth 100000 in
theorem dX9_error_20 : decode cX9_error 20 = .ok (.sipush (-1001), 3) := by decide +kernel
set_option maxRecDepth 100000 in
theorem dX9_error_23 : decode cX9_error 23 = .ok (.ireturn, 1) := by decide +kernel
set_option maxRecDepth 100000 in
theorem dX9_error_24 : decode cX9_error 24 = .ok (.aload_n 0, 1) := by decide +kernel
set_option maxRecDepth 100000 in
theorem dX9_error_25 : decode cX9_error 25 = .ok (.iload_n 1, 1) := by decide +kernel
set_option maxRecDepth 100000 in
theorem dX9_error_26 : decode cX9_error 26 = .ok (.iload_n 2, 1) := by decide +kernel
set_option maxRecDepth 100000 in
theorem dX9_error_27 : decode cX9_error 27 = .ok (.iload_n 3, 1) := by decide +kernel
set_option maxRecDepth 100000 in
theorem dX9_error_28 : decode cX9_error 28 = .ok (.invokevirtual 280, 3) := by decide +kernel
set_option maxRecDepth 100000 in
theorem dX9_error_31 : decode cX9_error 31 = .ok (.aload_n 0, 1) := by decide +kernel
set_option maxRecDepth 100000 in
theorem dX9_error_32 : decode cX9_error 32 = .ok (.iload_n 1, 1) := by decide +kernel
set_option maxRecDepth 100000 in
theorem dX9_error_33 : decode cX9_error 33 = .ok (.iload_n 2, 1) := by decide +kernel
set_option maxRecDepth 100000 in
theorem dX9_error_34 : decode cX9_error 34 = .ok (.iload 4, 2) := by decide +kernel
set_option maxRecDepth 100000 in
theorem dX9_error_36 : decode cX9_error 36 = .ok (.invokevirtual 286, 3) := by decide +kernel
set_option maxRecDepth 100000 in
theorem dX9_error_39 : decode cX9_error 39 = .ok (.ireturn, 1) := by decide +kernel
set_option maxRecDepth 100000 in
theorem dX9_at_0 : decode cX9_at 0 = .ok (.aload_n 0, 1) := by decide +kernel
set_option maxRecDepth 100000 in
theorem dX9_at_1 : decode cX9_at 1 = .ok (.iload_n 1, 1) := by decide +kernel
set_option maxRecDepth 100000 in
theorem dX9_at_2 : decode cX9_at 2 = .ok (.iload_n 2, 1) := by decide +kernel
set_option maxRecDepth 100000 in
theorem dX9_at_3 : decode cX9_at 3 = .ok (.iload_n 3, 1) := by decide +kernel
set_option maxRecDepth 100000 in
theorem dX9_at_4 : decode cX9_at 4 = .ok (.invokevirtual 277, 3) := by decide +kernel
set_option maxRecDepth 100000 in
theorem dX9_at_7 : decode cX9_at 7 = .ok (.ifCond .ne 6, 3) := by decide +kernel
set_option maxRecDepth 100000 in
theorem dX9_at_10 : decode cX9_at 10 = .ok (.bipush (-101), 2) := by decide +kernel
set_option maxRecDepth 100000 in
theorem dX9_at_12 : decode cX9_at 12 = .ok (.ireturn, 1) := by decide +kernel
set_option maxRecDepth 100000 in
theorem dX9_at_13 : decode cX9_at 13 = .ok (.iload 4, 2) := by decide +kernel
set_option maxRecDepth 100000 in
theorem dX9_at_15 : decode cX9_at 15 = .ok (.iconst 0, 1) := by decide +kernel
set_option maxRecDepth 100000 in
theorem dX9_at_16 : decode cX9_at 16 = .ok (.bipush 95, 2) := by decide +kernel
set_option maxRecDepth 100000 in
theorem dX9_at_18 : decode cX9_at 18 = .ok (.invokestatic 132, 3) := by decide +kernel
set_option maxRecDepth 100000 in
theorem dX9_at_21 : decode cX9_at 21 = .ok (.ifCond .eq 14, 3) := by decide +kernel
set_option maxRecDepth 100000 in
theorem dX9_at_24 : decode cX9_at 24 = .ok (.iload 5, 2) := by decide +kernel
set_option maxRecDepth 100000 in
theorem dX9_at_26 : decode cX9_at 26 = .ok (.iconst 0, 1) := by decide +kernel
set_option maxRecDepth 100000 in
theorem dX9_at_27 : decode cX9_at 27 = .ok (.bipush 7, 2) := by decide +kernel
set_option maxRecDepth 100000 in
theorem dX9_at_29 : decode cX9_at 29 = .ok (.invokestatic 132, 3) := by decide +kernel
set_option maxRecDepth 100000 in
theorem dX9_at_32 : decode cX9_at 32 = .ok (.ifCond .ne 6, 3) := by decide +kernel
set_option maxRecDepth 100000 in
theorem dX9_at_35 : decode cX9_at 35 = .ok (.bipush (-102), 2) := by decide +kernel
set_option maxRecDepth 100000 in
theorem dX9_at_37 : decode cX9_at 37 = .ok (.ireturn, 1) := by decide +kernel
set_option maxRecDepth 100000 in
theorem dX9_at_38 : decode cX9_at 38 = .ok (.aload_n 0, 1) := by decide +kernel
set_option maxRecDepth 100000 in
theorem dX9_at_39 : decode cX9_at 39 = .ok (.iload_n 1, 1) := by decide +kernel
set_option maxRecDepth 100000 in
theorem dX9_at_40 : decode cX9_at 40 = .ok (.iload_n 3, 1) := by decide +kernel
set_option maxRecDepth 100000 in
theorem dX9_at_41 : decode cX9_at 41 = .ok (.invokevirtual 270, 3) := by decide +kernel
set_option maxRecDepth 100000 in
theorem dX9_at_44 : decode cX9_at 44 = .ok (.aload_n 0, 1) := by decide +kernel
set_option maxRecDepth 100000 in
theorem dX9_at_45 : decode cX9_at 45 = .ok (.iload_n 1, 1) := by decide +kernel
set_option maxRecDepth 100000 in
theorem dX9_at_46 : decode cX9_at 46 = .ok (.iload_n 2, 1) := by decide +kernel
set_option maxRecDepth 100000 in
theorem dX9_at_47 : decode cX9_at 47 = .ok (.iload 4, 2) := by decide +kernel
set_option maxRecDepth 100000 in
theorem dX9_at_49 : decode cX9_at 49 = .ok (.invokevirtual 274, 3) := by decide +kernel
set_option maxRecDepth 100000 in
theorem dX9_at_52 : decode cX9_at 52 = .ok (.iload 5, 2) := by decide +kernel
set_option maxRecDepth 100000 in
theorem dX9_at_54 : decode cX9_at 54 = .ok (.tableswitch 59 3 7 #[34, 39, 44, 49, 54], 34) := by decide +kernel
set_option maxRecDepth 100000 in
theorem dX9_at_88 : decode cX9_at 88 = .ok (.aload_n 0, 1) := by decide +kernel
set_option maxRecDepth 100000 in
theorem dX9_at_89 : decode cX9_at 89 = .ok (.getfield 249, 3) := by decide +kernel
set_option maxRecDepth 100000 in
theorem dX9_at_92 : decode cX9_at 92 = .ok (.ireturn, 1) := by decide +kernel
set_option maxRecDepth 100000 in
theorem dX9_at_93 : decode cX9_at 93 = .ok (.aload_n 0, 1) := by decide +kernel
set_option maxRecDepth 100000 in
theorem dX9_at_94 : decode cX9_at 94 = .ok (.getfield 258, 3) := by decide +kernel
set_option maxRecDepth 100000 in
theorem dX9_at_97 : decode cX9_at 97 = .ok (.ireturn, 1) := by decide +kernel
set_option maxRecDepth 100000 in
theorem dX9_at_98 : decode cX9_at 98 = .ok (.aload_n 0, 1) := by decide +kernel
set_option maxRecDepth 100000 in
theorem dX9_at_99 : decode cX9_at 99 = .ok (.getfield 236, 3) := by decide +kernel
set_option maxRecDepth 100000 in
theorem dX9_at_102 : decode cX9_at 102 = .ok (.ireturn, 1) := by decide +kernel
set_option maxRecDepth 100000 in
theorem dX9_at_103 : decode cX9_at 103 = .ok (.aload_n 0, 1) := by decide +kernel
set_option maxRecDepth 100000 in
theorem dX9_at_104 : decode cX9_at 104 = .ok (.getfield 261, 3) := by decide +kernel
set_option maxRecDepth 100000 in
theorem dX9_at_107 : decode cX9_at 107 = .ok (.ireturn, 1) := by decide +kernel
set_option maxRecDepth 100000 in
theorem dX9_at_108 : decode cX9_at 108 = .ok (.aload_n 0, 1) := by decide +kernel
set_option maxRecDepth 100000 in
theorem dX9_at_109 : decode cX9_at 109 = .ok (.getfield 264, 3) := by decide +kernel
set_option maxRecDepth 100000 in
theorem dX9_at_112 : decode cX9_at 112 = .ok (.ireturn, 1) := by decide +kernel
set_option maxRecDepth 100000 in
theorem dX9_at_113 : decode cX9_at 113 = .ok (.iload 5, 2) := by decide +kernel
set_option maxRecDepth 100000 in
theorem dX9_at_115 : decode cX9_at 115 = .ok (.aload_n 0, 1) := by decide +kernel
set_option maxRecDepth 100000 in
theorem dX9_at_116 : decode cX9_at 116 = .ok (.getfield 7, 3) := by decide +kernel
set_option maxRecDepth 100000 in
theorem dX9_at_119 : decode cX9_at 119 = .ok (.iload_n 1, 1) := by decide +kernel
set_option maxRecDepth 100000 in
theorem dX9_at_120 : decode cX9_at 120 = .ok (.iaload, 1) := by decide +kernel
set_option maxRecDepth 100000 in
theorem dX9_at_121 : decode cX9_at 121 = .ok (.if_icmp .ge 13, 3) := by decide +kernel
set_option maxRecDepth 100000 in
theorem dX9_at_124 : decode cX9_at 124 = .ok (.aload_n 0, 1) := by decide +kernel
set_option maxRecDepth 100000 in
theorem dX9_at_125 : decode cX9_at 125 = .ok (.getfield 99, 3) := by decide +kernel
set_option maxRecDepth 100000 in
theorem dX9_at_128 : decode cX9_at 128 = .ok (.iload 5, 2) := by decide +kernel
set_option maxRecDepth 100000 in
theorem dX9_at_130 : decode cX9_at 130 = .ok (.iaload, 1) := by decide +kernel
set_option maxRecDepth 100000 in
theorem dX9_at_131 : decode cX9_at 131 = .ok (.goto 4, 3) := by decide +kernel
set_option maxRecDepth 100000 in
theorem dX9_at_134 : decode cX9_at 134 = .ok (.iconst (-1), 1) := by decide +kernel
set_option maxRecDepth 100000 in
theorem dX9_at_135 : decode cX9_at 135 = .ok (.ireturn, 1) := by decide +kernel
set_option maxRecDepth 100000 in
theorem dX9_even_0 : decode cX9_even 0 = .ok (.aload_n 0, 1) := by decide +kernel
set_option maxRecDepth 100000 in
theorem dX9_even_1 : decode cX9_even 1 = .ok (.iload_n 1, 1) := by decide +kernel
set_option maxRecDepth 100000 in
theorem dX9_even_2 : decode cX9_even 2 = .ok (.iload_n 2, 1) := by decide +kernel
set_option maxRecDepth 100000 in
theorem dX9_even_3 : decode cX9_even 3 = .ok (.iload_n 3, 1) := by decide +kernel
set_option maxRecDepth 100000 in
theorem dX9_even_4 : decode cX9_even 4 = .ok (.invokevirtual 277, 3) := by decide +kernel
set_option maxRecDepth 100000 in
theorem dX9_even_7 : decode cX9_even 7 = .ok (.ifCond .ne 6, 3) := by decide +kernel
set_option maxRecDepth 100000 in
theorem dX9_even_10 : decode cX9_even 10 = .ok (.bipush (-101), 2) := by decide +kernel
set_option maxRecDepth 100000 in
theorem dX9_even_12 : decode cX9_even 12 = .ok (.ireturn, 1) := by decide +kernel
set_option maxRecDepth 100000 in
theorem dX9_even_13 : decode cX9_even 13 = .ok (.iload 4, 2) := by decide +kernel
set_option maxRecDepth 100000 in
theorem dX9_even_15 : decode cX9_even 15 = .ok (.iconst 0, 1) := by decide +kernel
set_option maxRecDepth 100000 in
theorem dX9_even_16 : decode cX9_even 16 = .ok (.iconst 1, 1) := by decide +kernel
set_option maxRecDepth 100000 in
theorem dX9_even_17 : decode cX9_even 17 = .ok (.invokestatic 132, 3) := by decide +kernel
set_option maxRecDepth 100000 in
theorem dX9_even_20 : decode cX9_even 20 = .ok (.ifCond .ne 6, 3) := by decide +kernel
set_option maxRecDepth 100000 in
theorem dX9_even_23 : decode cX9_even 23 = .ok (.bipush (-102), 2) := by decide +kernel
set_option maxRecDepth 100000 in
theorem dX9_even_25 : decode cX9_even 25 = .ok (.ireturn, 1) := by decide +kernel
set_option maxRecDepth 100000 in
theorem dX9_even_26 : decode cX9_even 26 = .ok (.aload_n 0, 1) := by decide +kernel
set_option maxRecDepth 100000 in
theorem dX9_even_27 : decode cX9_even 27 = .ok (.iload_n 1, 1) := by decide +kernel
set_option maxRecDepth 100000 in
theorem dX9_even_28 : decode cX9_even 28 = .ok (.iload_n 2, 1) := by decide +kernel
set_option maxRecDepth 100000 in
theorem dX9_even_29 : decode cX9_even 29 = .ok (.iload_n 3, 1) := by decide +kernel
set_option maxRecDepth 100000 in
theorem dX9_even_30 : decode cX9_even 30 = .ok (.invokevirtual 280, 3) := by decide +kernel
set_option maxRecDepth 100000 in
theorem dX9_even_33 : decode cX9_even 33 = .ok (.iload 4, 2) := by decide +kernel
set_option maxRecDepth 100000 in
theorem dX9_even_35 : decode cX9_even 35 = .ok (.ifCond .ne 10, 3) := by decide +kernel
set_option maxRecDepth 100000 in
theorem dX9_even_38 : decode cX9_even 38 = .ok (.aload_n 0, 1) := by decide +kernel
set_option maxRecDepth 100000 in
theorem dX9_even_39 : decode cX9_even 39 = .ok (.getfield 252, 3) := by decide +kernel
set_option maxRecDepth 100000 in
theorem dX9_even_42 : decode cX9_even 42 = .ok (.goto 7, 3) := by decide +kernel
set_option maxRecDepth 100000 in
theorem dX9_even_45 : decode cX9_even 45 = .ok (.aload_n 0, 1) := by decide +kernel
set_option maxRecDepth 100000 in
theorem dX9_even_46 : decode cX9_even 46 = .ok (.getfield 255, 3) := by decide +kernel
set_option maxRecDepth 100000 in
theorem dX9_even_49 : decode cX9_even 49 = .ok (.ireturn, 1) := by decide +kernel
set_option maxRecDepth 100000 in
theorem dX9_errors_0 : decode cX9_errors 0 = .ok (.iconst 0, 1) := by decide +kernel
set_option maxRecDepth 100000 in
theorem dX9_errors_1 : decode cX9_errors 1 = .ok (.istore_n 3, 1) := by decide +kernel
set_option maxRecDepth 100000 in
theorem dX9_errors_2 : decode cX9_errors 2 = .ok (.iconst 0, 1) := by decide +kernel
set_option maxRecDepth 100000 in
theorem dX9_errors_3 : decode cX9_errors 3 = .ok (.istore 4, 2) := by decide +kernel
set_option maxRecDepth 100000 in
theorem dX9_errors_5 : decode cX9_errors 5 = .ok (.iload 4, 2) := by decide +kernel
set_option maxRecDepth 100000 in
theorem dX9_errors_7 : decode cX9_errors 7 = .ok (.aload_n 0, 1) := by decide +kernel
set_option maxRecDepth 100000 in
theorem dX9_errors_8 : decode cX9_errors 8 = .ok (.getfield 31, 3) := by decide +kernel
set_option maxRecDepth 100000 in
theorem dX9_errors_11 : decode cX9_errors 11 = .ok (.iload_n 1, 1) := by decide +kernel
set_option maxRecDepth 100000 in
theorem dX9_errors_12 : decode cX9_errors 12 = .ok (.iaload, 1) := by decide +kernel
set_option maxRecDepth 100000 in
theorem dX9_errors_13 : decode cX9_errors 13 = .ok (.if_icmp .ge 23, 3) := by decide +kernel
set_option maxRecDepth 100000 in
theorem dX9_errors_16 : decode cX9_errors 16 = .ok (.iload_n 3, 1) := by decide +kernel
set_option maxRecDepth 100000 in
theorem dX9_errors_17 : decode cX9_errors 17 = .ok (.aload_n 0, 1) := by decide +kernel
set_option maxRecDepth 100000 in
theorem dX9_errors_18 : decode cX9_errors 18 = .ok (.iload_n 1, 1) := by decide +kernel
set_option maxRecDepth 100000 in
theorem dX9_errors_19 : decode cX9_errors 19 = .ok (.iload_n 2, 1) := by decide +kernel
set_option maxRecDepth 100000 in
theorem dX9_errors_20 : decode cX9_errors 20 = .ok (.iload 4, 2) := by decide +kernel
set_option maxRecDepth 100000 in
theorem dX9_errors_22 : decode cX9_errors 22 = .ok (.invokevirtual 286, 3) := by decide +kernel
set_option maxRecDepth 100000 in
theorem dX9_errors_25 : decode cX9_errors 25 = .ok (.invokestatic 290, 3) := by decide +kernel
set_option maxRecDepth 100000 in
theorem dX9_errors_28 : decode cX9_errors 28 = .ok (.iadd, 1) := by decide +kernel
set_option maxRecDepth 100000 in
theorem dX9_errors_29 : decode cX9_errors 29 = .ok (.istore_n 3, 1) := by decide +kernel
set_option maxRecDepth 100000 in
theorem dX9_errors_30 : decode cX9_errors 30 = .ok (.iinc 4 1, 3) := by decide +kernel
set_option maxRecDepth 100000 in
theorem dX9_errors_33 : decode cX9_errors 33 = .ok (.goto (-28), 3) := by decide +kernel
set_option maxRecDepth 100000 in
theorem dX9_errors_36 : decode cX9_errors 36 = .ok (.iload_n 3, 1) := by decide +kernel
set_option maxRecDepth 100000 in
theorem dX9_errors_37 : decode cX9_errors 37 = .ok (.ireturn, 1) := by decide +kernel
set_option maxRecDepth 100000 in
theorem dX9_mean_0 : decode cX9_mean 0 = .ok (.aload_n 0, 1) := by decide +kernel
set_option maxRecDepth 100000 in
theorem dX9_mean_1 : decode cX9_mean 1 = .ok (.iload_n 1, 1) := by decide +kernel
set_option maxRecDepth 100000 in
theorem dX9_mean_2 : decode cX9_mean 2 = .ok (.iload_n 2, 1) := by decide +kernel
set_option maxRecDepth 100000 in
theorem dX9_mean_3 : decode cX9_mean 3 = .ok (.iload_n 3, 1) := by decide +kernel
set_option maxRecDepth 100000 in
theorem dX9_mean_4 : decode cX9_mean 4 = .ok (.invokevirtual 277, 3) := by decide +kernel
set_option maxRecDepth 100000 in
theorem dX9_mean_7 : decode cX9_mean 7 = .ok (.ifCond .ne 6, 3) := by decide +kernel
set_option maxRecDepth 100000 in
theorem dX9_mean_10 : decode cX9_mean 10 = .ok (.bipush (-101), 2) := by decide +kernel
set_option maxRecDepth 100000 in
theorem dX9_mean_12 : decode cX9_mean 12 = .ok (.ireturn, 1) := by decide +kernel
set_option maxRecDepth 100000 in
theorem dX9_mean_13 : decode cX9_mean 13 = .ok (.iload 4, 2) := by decide +kernel
set_option maxRecDepth 100000 in
theorem dX9_mean_15 : decode cX9_mean 15 = .ok (.iconst 0, 1) := by decide +kernel
set_option maxRecDepth 100000 in
theorem dX9_mean_16 : decode cX9_mean 16 = .ok (.iconst 1, 1) := by decide +kernel
set_option maxRecDepth 100000 in
theorem dX9_mean_17 : decode cX9_mean 17 = .ok (.invokestatic 132, 3) := by decide +kernel
set_option maxRecDepth 100000 in
theorem dX9_mean_20 : decode cX9_mean 20 = .ok (.ifCond .ne 6, 3) := by decide +kernel
set_option maxRecDepth 100000 in
theorem dX9_mean_23 : decode cX9_mean 23 = .ok (.bipush (-102), 2) := by decide +kernel
set_option maxRecDepth 100000 in
theorem dX9_mean_25 : decode cX9_mean 25 = .ok (.ireturn, 1) := by decide +kernel
set_option maxRecDepth 100000 in
theorem dX9_mean_26 : decode cX9_mean 26 = .ok (.aload_n 0, 1) := by decide +kernel
set_option maxRecDepth 100000 in
theorem dX9_mean_27 : decode cX9_mean 27 = .ok (.iload_n 1, 1) := by decide +kernel
set_option maxRecDepth 100000 in
theorem dX9_mean_28 : decode cX9_mean 28 = .ok (.iload_n 2, 1) := by decide +kernel
set_option maxRecDepth 100000 in
theorem dX9_mean_29 : decode cX9_mean 29 = .ok (.iload_n 3, 1) := by decide +kernel
set_option maxRecDepth 100000 in
theorem dX9_mean_30 : decode cX9_mean 30 = .ok (.invokevirtual 280, 3) := by decide +kernel
set_option maxRecDepth 100000 in
theorem dX9_mean_33 : decode cX9_mean 33 = .ok (.aload_n 0, 1) := by decide +kernel
set_option maxRecDepth 100000 in
theorem dX9_mean_34 : decode cX9_mean 34 = .ok (.iload_n 1, 1) := by decide +kernel
set_option maxRecDepth 100000 in
theorem dX9_mean_35 : decode cX9_mean 35 = .ok (.iload_n 2, 1) := by decide +kernel
set_option maxRecDepth 100000 in
theorem dX9_mean_36 : decode cX9_mean 36 = .ok (.invokevirtual 293, 3) := by decide +kernel
set_option maxRecDepth 100000 in
theorem dX9_mean_39 : decode cX9_mean 39 = .ok (.istore 5, 2) := by decide +kernel
set_option maxRecDepth 100000 in
theorem dX9_mean_41 : decode cX9_mean 41 = .ok (.iload 5, 2) := by decide +kernel
set_option maxRecDepth 100000 in
theorem dX9_mean_43 : decode cX9_mean 43 = .ok (.istore 6, 2) := by decide +kernel
set_option maxRecDepth 100000 in
theorem dX9_mean_45 : decode cX9_mean 45 = .ok (.aload_n 0, 1) := by decide +kernel
set_option maxRecDepth 100000 in
theorem dX9_mean_46 : decode cX9_mean 46 = .ok (.getfield 31, 3) := by decide +kernel
set_option maxRecDepth 100000 in
theorem dX9_mean_49 : decode cX9_mean 49 = .ok (.iload_n 1, 1) := by decide +kernel
set_option maxRecDepth 100000 in
theorem dX9_mean_50 : decode cX9_mean 50 = .ok (.iaload, 1) := by decide +kernel
set_option maxRecDepth 100000 in
theorem dX9_mean_51 : decode cX9_mean 51 = .ok (.istore 7, 2) := by decide +kernel
set_option maxRecDepth 100000 in
theorem dX9_mean_53 : decode cX9_mean 53 = .ok (.iload 7, 2) := by decide +kernel
set_option maxRecDepth 100000 in
theorem dX9_mean_55 : decode cX9_mean 55 = .ok (.ifCond .eq 21, 3) := by decide +kernel
set_option maxRecDepth 100000 in
theorem dX9_mean_58 : decode cX9_mean 58 = .ok (.iload 6, 2) := by decide +kernel
set_option maxRecDepth 100000 in
theorem dX9_mean_60 : decode cX9_mean 60 = .ok (.iload 7, 2) := by decide +kernel
set_option maxRecDepth 100000 in
theorem dX9_mean_62 : decode cX9_mean 62 = .ok (.irem, 1) := by decide +kernel
set_option maxRecDepth 100000 in
theorem dX9_mean_63 : decode cX9_mean 63 = .ok (.istore 8, 2) := by decide +kernel
set_option maxRecDepth 100000 in
theorem dX9_mean_65 : decode cX9_mean 65 = .ok (.iload 7, 2) := by decide +kernel
set_option maxRecDepth 100000 in
theorem dX9_mean_67 : decode cX9_mean 67 = .ok (.istore 6, 2) := by decide +kernel
set_option maxRecDepth 100000 in
theorem dX9_mean_69 : decode cX9_mean 69 = .ok (.iload 8, 2) := by decide +kernel
set_option maxRecDepth 100000 in
theorem dX9_mean_71 : decode cX9_mean 71 = .ok (.istore 7, 2) := by decide +kernel
set_option maxRecDepth 100000 in
theorem dX9_mean_73 : decode cX9_mean 73 = .ok (.goto (-20), 3) := by decide +kernel
set_option maxRecDepth 100000 in
theorem dX9_mean_76 : decode cX9_mean 76 = .ok (.iload 4, 2) := by decide +kernel
set_option maxRecDepth 100000 in
theorem dX9_mean_78 : decode cX9_mean 78 = .ok (.ifCond .ne 11, 3) := by decide +kernel
set_option maxRecDepth 100000 in
theorem dX9_mean_81 : decode cX9_mean 81 = .ok (.iload 5, 2) := by decide +kernel
set_option maxRecDepth 100000 in
theorem dX9_mean_83 : decode cX9_mean 83 = .ok (.iload 6, 2) := by decide +kernel
set_option maxRecDepth 100000 in
theorem dX9_mean_85 : decode cX9_mean 85 = .ok (.idiv, 1) := by decide +kernel
set_option maxRecDepth 100000 in
theorem dX9_mean_86 : decode cX9_mean 86 = .ok (.goto 12, 3) := by decide +kernel
set_option maxRecDepth 100000 in
theorem dX9_mean_89 : decode cX9_mean 89 = .ok (.aload_n 0, 1) := by decide +kernel
set_option maxRecDepth 100000 in
theorem dX9_mean_90 : decode cX9_mean 90 = .ok (.getfield 31, 3) := by decide +kernel
set_option maxRecDepth 100000 in
theorem dX9_mean_93 : decode cX9_mean 93 = .ok (.iload_n 1, 1) := by decide +kernel
set_option maxRecDepth 100000 in
theorem dX9_mean_94 : decode cX9_mean 94 = .ok (.iaload, 1) := by decide +kernel
set_option maxRecDepth 100000 in
theorem dX9_mean_95 : decode cX9_mean 95 = .ok (.iload 6, 2) := by decide +kernel
set_option maxRecDepth 100000 in
theorem dX9_mean_97 : decode cX9_mean 97 = .ok (.idiv, 1) := by decide +kernel
set_option maxRecDepth 100000 in
theorem dX9_mean_98 : decode cX9_mean 98 = .ok (.ireturn, 1) := by decide +kernel
set_option maxRecDepth 100000 in
theorem dX9_strike_0 : decode cX9_strike 0 = .ok (.iload_n 1, 1) := by decide +kernel
set_option maxRecDepth 100000 in
theorem dX9_strike_1 : decode cX9_strike 1 = .ok (.istore_n 3, 1) := by decide +kernel
set_option maxRecDepth 100000 in
theorem dX9_strike_2 : decode cX9_strike 2 = .ok (.iload_n 3, 1) := by decide +kernel
set_option maxRecDepth 100000 in
theorem dX9_strike_3 : decode cX9_strike 3 = .ok (.iconst (-1), 1) := by decide +kernel
set_option maxRecDepth 100000 in
theorem dX9_strike_4 : decode cX9_strike 4 = .ok (.if_icmp .eq 13, 3) := by decide +kernel
set_option maxRecDepth 100000 in
theorem dX9_strike_7 : decode cX9_strike 7 = .ok (.aload_n 0, 1) := by decide +kernel
set_option maxRecDepth 100000 in
theorem dX9_strike_8 : decode cX9_strike 8 = .ok (.iload_n 3, 1) := by decide +kernel
set_option maxRecDepth 100000 in
theorem dX9_strike_9 : decode cX9_strike 9 = .ok (.iload_n 2, 1) := by decide +kernel
set_option maxRecDepth 100000 in
theorem dX9_strike_10 : decode cX9_strike 10 = .ok (.invokevirtual 296, 3) := by decide +kernel
set_option maxRecDepth 100000 in
theorem dX9_strike_13 : decode cX9_strike 13 = .ok (.istore_n 3, 1) := by decide +kernel
set_option maxRecDepth 100000 in
theorem dX9_strike_14 : decode cX9_strike 14 = .ok (.goto (-12), 3) := by decide +kernel
set_option maxRecDepth 100000 in
theorem dX9_strike_17 : decode cX9_strike 17 = .ok (.return_, 1) := by decide +kernel
set_option maxRecDepth 100000 in
theorem dX9_struck_0 : decode cX9_struck 0 = .ok (.aload_n 0, 1) := by decide +kernel
set_option maxRecDepth 100000 in
theorem dX9_struck_1 : decode cX9_struck 1 = .ok (.getfield 58, 3) := by decide +kernel
set_option maxRecDepth 100000 in
theorem dX9_struck_4 : decode cX9_struck 4 = .ok (.iload_n 1, 1) := by decide +kernel
set_option maxRecDepth 100000 in
theorem dX9_struck_5 : decode cX9_struck 5 = .ok (.iaload, 1) := by decide +kernel
set_option maxRecDepth 100000 in
theorem dX9_struck_6 : decode cX9_struck 6 = .ok (.istore_n 3, 1) := by decide +kernel
set_option maxRecDepth 100000 in
theorem dX9_struck_7 : decode cX9_struck 7 = .ok (.aload_n 0, 1) := by decide +kernel
set_option maxRecDepth 100000 in
theorem dX9_struck_8 : decode cX9_struck 8 = .ok (.getfield 61, 3) := by decide +kernel
set_option maxRecDepth 100000 in
theorem dX9_struck_11 : decode cX9_struck 11 = .ok (.iload_n 1, 1) := by decide +kernel
set_option maxRecDepth 100000 in
theorem dX9_struck_12 : decode cX9_struck 12 = .ok (.iaload, 1) := by decide +kernel
set_option maxRecDepth 100000 in
theorem dX9_struck_13 : decode cX9_struck 13 = .ok (.istore 4, 2) := by decide +kernel
set_option maxRecDepth 100000 in
theorem dX9_struck_15 : decode cX9_struck 15 = .ok (.aload_n 0, 1) := by decide +kernel
set_option maxRecDepth 100000 in
theorem dX9_struck_16 : decode cX9_struck 16 = .ok (.getfield 111, 3) := by decide +kernel
set_option maxRecDepth 100000 in
theorem dX9_struck_19 : decode cX9_struck 19 = .ok (.iload_n 1, 1) := by decide +kernel
set_option maxRecDepth 100000 in
theorem dX9_struck_20 : decode cX9_struck 20 = .ok (.baload, 1) := by decide +kernel
set_option maxRecDepth 100000 in
theorem dX9_struck_21 : decode cX9_struck 21 = .ok (.ifCond .eq 5, 3) := by decide +kernel
set_option maxRecDepth 100000 in
theorem dX9_struck_24 : decode cX9_struck 24 = .ok (.iconst (-1), 1) := by decide +kernel
set_option maxRecDepth 100000 in
theorem dX9_struck_25 : decode cX9_struck 25 = .ok (.ireturn, 1) := by decide +kernel
set_option maxRecDepth 100000 in
theorem dX9_struck_26 : decode cX9_struck 26 = .ok (.aload_n 0, 1) := by decide +kernel
set_option maxRecDepth 100000 in
theorem dX9_struck_27 : decode cX9_struck 27 = .ok (.getfield 55, 3) := by decide +kernel
set_option maxRecDepth 100000 in
theorem dX9_struck_30 : decode cX9_struck 30 = .ok (.iload_n 1, 1) := by decide +kernel
set_option maxRecDepth 100000 in
theorem dX9_struck_31 : decode cX9_struck 31 = .ok (.iaload, 1) := by decide +kernel
set_option maxRecDepth 100000 in
theorem dX9_struck_32 : decode cX9_struck 32 = .ok (.tableswitch 218 1 4 #[32, 50, 141, 190], 32) := by decide +kernel
set_option maxRecDepth 100000 in
theorem dX9_struck_64 : decode cX9_struck 64 = .ok (.aload_n 0, 1) := by decide +kernel
set_option maxRecDepth 100000 in
theorem dX9_struck_65 : decode cX9_struck 65 = .ok (.dup, 1) := by decide +kernel
set_option maxRecDepth 100000 in
theorem dX9_struck_66 : decode cX9_struck 66 = .ok (.getfield 299, 3) := by decide +kernel
set_option maxRecDepth 100000 in
theorem dX9_struck_69 : decode cX9_struck 69 = .ok (.aload_n 0, 1) := by decide +kernel
set_option maxRecDepth 100000 in
theorem dX9_struck_70 : decode cX9_struck 70 = .ok (.getfield 302, 3) := by decide +kernel
set_option maxRecDepth 100000 in
theorem dX9_struck_73 : decode cX9_struck 73 = .ok (.iload_n 3, 1) := by decide +kernel
set_option maxRecDepth 100000 in
theorem dX9_struck_74 : decode cX9_struck 74 = .ok (.iadd, 1) := by decide +kernel
set_option maxRecDepth 100000 in
theorem dX9_struck_75 : decode cX9_struck 75 = .ok (.iadd, 1) := by decide +kernel
set_option maxRecDepth 100000 in
theorem dX9_struck_76 : decode cX9_struck 76 = .ok (.putfield 299, 3) := by decide +kernel
set_option maxRecDepth 100000 in
theorem dX9_struck_79 : decode cX9_struck 79 = .ok (.iload 4, 2) := by decide +kernel
set_option maxRecDepth 100000 in
theorem dX9_struck_81 : decode cX9_struck 81 = .ok (.ireturn, 1) := by decide +kernel
set_option maxRecDepth 100000 in
theorem dX9_struck_82 : decode cX9_struck 82 = .ok (.aload_n 0, 1) := by decide +kernel
set_option maxRecDepth 100000 in
theorem dX9_struck_83 : decode cX9_struck 83 = .ok (.getfield 118, 3) := by decide +kernel
set_option maxRecDepth 100000 in
theorem dX9_struck_86 : decode cX9_struck 86 = .ok (.iload_n 3, 1) := by decide +kernel
set_option maxRecDepth 100000 in
theorem dX9_struck_87 : decode cX9_struck 87 = .ok (.iaload, 1) := by decide +kernel
set_option maxRecDepth 100000 in
theorem dX9_struck_88 : decode cX9_struck 88 = .ok (.iload_n 2, 1) := by decide +kernel
set_option maxRecDepth 100000 in
theorem dX9_struck_89 : decode cX9_struck 89 = .ok (.if_icmp .lt 52, 3) := by decide +kernel
set_option maxRecDepth 100000 in
theorem dX9_struck_92 : decode cX9_struck 92 = .ok (.aload_n 0, 1) := by decide +kernel
set_option maxRecDepth 100000 in
theorem dX9_struck_93 : decode cX9_struck 93 = .ok (.getfield 111, 3) := by decide +kernel
set_option maxRecDepth 100000 in
theorem dX9_struck_96 : decode cX9_struck 96 = .ok (.iload_n 1, 1) := by decide +kernel
set_option maxRecDepth 100000 in
theorem dX9_struck_97 : decode cX9_struck 97 = .ok (.iconst 1, 1) := by decide +kernel
set_option maxRecDepth 100000 in
theorem dX9_struck_98 : decode cX9_struck 98 = .ok (.bastore, 1) := by decide +kernel
set_option maxRecDepth 100000 in
theorem dX9_struck_99 : decode cX9_struck 99 = .ok (.aload_n 0, 1) := by decide +kernel
set_option maxRecDepth 100000 in
theorem dX9_struck_100 : decode cX9_struck 100 = .ok (.aload_n 0, 1) := by decide +kernel
set_option maxRecDepth 100000 in
theorem dX9_struck_101 : decode cX9_struck 101 = .ok (.getfield 305, 3) := by decide +kernel
set_option maxRecDepth 100000 in
theorem dX9_struck_104 : decode cX9_struck 104 = .ok (.iconst (-1), 1) := by decide +kernel
set_option maxRecDepth 100000 in
theorem dX9_struck_105 : decode cX9_struck 105 = .ok (.if_icmp .ne 7, 3) := by decide +kernel
set_option maxRecDepth 100000 in
theorem dX9_struck_108 : decode cX9_struck 108 = .ok (.iload_n 2, 1) := by decide +kernel
set_option maxRecDepth 100000 in
theorem dX9_struck_109 : decode cX9_struck 109 = .ok (.goto 7, 3) := by decide +kernel
set_option maxRecDepth 100000 in
theorem dX9_struck_112 : decode cX9_struck 112 = .ok (.aload_n 0, 1) := by decide +kernel
set_option maxRecDepth 100000 in
theorem dX9_struck_113 : decode cX9_struck 113 = .ok (.getfield 308, 3) := by decide +kernel
set_option maxRecDepth 100000 in
theorem dX9_struck_116 : decode cX9_struck 116 = .ok (.putfield 308, 3) := by decide +kernel
set_option maxRecDepth 100000 in
theorem dX9_struck_119 : decode cX9_struck 119 = .ok (.aload_n 0, 1) := by decide +kernel
set_option maxRecDepth 100000 in
theorem dX9_struck_120 : decode cX9_struck 120 = .ok (.aload_n 0, 1) := by decide +kernel
set_option maxRecDepth 100000 in
theorem dX9_struck_121 : decode cX9_struck 121 = .ok (.getfield 305, 3) := by decide +kernel
set_option maxRecDepth 100000 in
theorem dX9_struck_124 : decode cX9_struck 124 = .ok (.iconst (-1), 1) := by decide +kernel
set_option maxRecDepth 100000 in
theorem dX9_struck_125 : decode cX9_struck 125 = .ok (.if_icmp .ne 7, 3) := by decide +kernel
set_option maxRecDepth 100000 in
theorem dX9_struck_128 : decode cX9_struck 128 = .ok (.iload_n 1, 1) := by decide +kernel
set_option maxRecDepth 100000 in
theorem dX9_struck_129 : decode cX9_struck 129 = .ok (.goto 7, 3) := by decide +kernel
set_option maxRecDepth 100000 in
theorem dX9_struck_132 : decode cX9_struck 132 = .ok (.aload_n 0, 1) := by decide +kernel
set_option maxRecDepth 100000 in
theorem dX9_struck_133 : decode cX9_struck 133 = .ok (.getfield 305, 3) := by decide +kernel
set_option maxRecDepth 100000 in
theorem dX9_struck_136 : decode cX9_struck 136 = .ok (.putfield 305, 3) := by decide +kernel
set_option maxRecDepth 100000 in
theorem dX9_struck_139 : decode cX9_struck 139 = .ok (.iconst (-1), 1) := by decide +kernel
set_option maxRecDepth 100000 in
theorem dX9_struck_140 : decode cX9_struck 140 = .ok (.ireturn, 1) := by decide +kernel
set_option maxRecDepth 100000 in
theorem dX9_struck_141 : decode cX9_struck 141 = .ok (.aload_n 0, 1) := by decide +kernel
set_option maxRecDepth 100000 in
theorem dX9_struck_142 : decode cX9_struck 142 = .ok (.getfield 118, 3) := by decide +kernel
set_option maxRecDepth 100000 in
theorem dX9_struck_145 : decode cX9_struck 145 = .ok (.iload_n 3, 1) := by decide +kernel
set_option maxRecDepth 100000 in
theorem dX9_struck_146 : decode cX9_struck 146 = .ok (.iload_n 2, 1) := by decide +kernel
set_option maxRecDepth 100000 in
theorem dX9_struck_147 : decode cX9_struck 147 = .ok (.iconst 2, 1) := by decide +kernel
set_option maxRecDepth 100000 in
theorem dX9_struck_148 : decode cX9_struck 148 = .ok (.iadd, 1) := by decide +kernel
set_option maxRecDepth 100000 in
theorem dX9_struck_149 : decode cX9_struck 149 = .ok (.iastore, 1) := by decide +kernel
set_option maxRecDepth 100000 in
theorem dX9_struck_150 : decode cX9_struck 150 = .ok (.aload_n 0, 1) := by decide +kernel
set_option maxRecDepth 100000 in
theorem dX9_struck_151 : decode cX9_struck 151 = .ok (.getfield 108, 3) := by decide +kernel
set_option maxRecDepth 100000 in
theorem dX9_struck_154 : decode cX9_struck 154 = .ok (.aload_n 0, 1) := by decide +kernel
set_option maxRecDepth 100000 in
theorem dX9_struck_155 : decode cX9_struck 155 = .ok (.getfield 311, 3) := by decide +kernel
set_option maxRecDepth 100000 in
theorem dX9_struck_158 : decode cX9_struck 158 = .ok (.iload_n 1, 1) := by decide +kernel
set_option maxRecDepth 100000 in
theorem dX9_struck_159 : decode cX9_struck 159 = .ok (.iastore, 1) := by decide +kernel
set_option maxRecDepth 100000 in
theorem dX9_struck_160 : decode cX9_struck 160 = .ok (.aload_n 0, 1) := by decide +kernel
set_option maxRecDepth 100000 in
theorem dX9_struck_161 : decode cX9_struck 161 = .ok (.dup, 1) := by decide +kernel
set_option maxRecDepth 100000 in
theorem dX9_struck_162 : decode cX9_struck 162 = .ok (.getfield 311, 3) := by decide +kernel
set_option maxRecDepth 100000 in
theorem dX9_struck_165 : decode cX9_struck 165 = .ok (.iconst 1, 1) := by decide +kernel
set_option maxRecDepth 100000 in
theorem dX9_struck_166 : decode cX9_struck 166 = .ok (.iadd, 1) := by decide +kernel
set_option maxRecDepth 100000 in
theorem dX9_struck_167 : decode cX9_struck 167 = .ok (.putfield 311, 3) := by decide +kernel
set_option maxRecDepth 100000 in
theorem dX9_struck_170 : decode cX9_struck 170 = .ok (.iload 4, 2) := by decide +kernel
set_option maxRecDepth 100000 in
theorem dX9_struck_172 : decode cX9_struck 172 = .ok (.ireturn, 1) := by decide +kernel
set_option maxRecDepth 100000 in
theorem dX9_struck_173 : decode cX9_struck 173 = .ok (.iload 4, 2) := by decide +kernel
set_option maxRecDepth 100000 in
theorem dX9_struck_175 : decode cX9_struck 175 = .ok (.iconst (-1), 1) := by decide +kernel
set_option maxRecDepth 100000 in
theorem dX9_struck_176 : decode cX9_struck 176 = .ok (.if_icmp .eq 44, 3) := by decide +kernel
set_option maxRecDepth 100000 in
theorem dX9_struck_179 : decode cX9_struck 179 = .ok (.iload_n 2, 1) := by decide +kernel
set_option maxRecDepth 100000 in
theorem dX9_struck_180 : decode cX9_struck 180 = .ok (.iload_n 3, 1) := by decide +kernel
set_option maxRecDepth 100000 in
theorem dX9_struck_181 : decode cX9_struck 181 = .ok (.iadd, 1) := by decide +kernel
set_option maxRecDepth 100000 in
theorem dX9_struck_182 : decode cX9_struck 182 = .ok (.bipush 96, 2) := by decide +kernel
set_option maxRecDepth 100000 in
theorem dX9_struck_184 : decode cX9_struck 184 = .ok (.if_icmp .ge 36, 3) := by decide +kernel
set_option maxRecDepth 100000 in
theorem dX9_struck_187 : decode cX9_struck 187 = .ok (.aload_n 0, 1) := by decide +kernel
set_option maxRecDepth 100000 in
theorem dX9_struck_188 : decode cX9_struck 188 = .ok (.getfield 121, 3) := by decide +kernel
set_option maxRecDepth 100000 in
theorem dX9_struck_191 : decode cX9_struck 191 = .ok (.aload_n 0, 1) := by decide +kernel
set_option maxRecDepth 100000 in
theorem dX9_struck_192 : decode cX9_struck 192 = .ok (.getfield 314, 3) := by decide +kernel
set_option maxRecDepth 100000 in
theorem dX9_struck_195 : decode cX9_struck 195 = .ok (.iload_n 2, 1) := by decide +kernel
set_option maxRecDepth 100000 in
theorem dX9_struck_196 : decode cX9_struck 196 = .ok (.iload_n 3, 1) := by decide +kernel
set_option maxRecDepth 100000 in
theorem dX9_struck_197 : decode cX9_struck 197 = .ok (.iadd, 1) := by decide +kernel
set_option maxRecDepth 100000 in
theorem dX9_struck_198 : decode cX9_struck 198 = .ok (.iastore, 1) := by decide +kernel
set_option maxRecDepth 100000 in
theorem dX9_struck_199 : decode cX9_struck 199 = .ok (.aload_n 0, 1) := by decide +kernel
set_option maxRecDepth 100000 in
theorem dX9_struck_200 : decode cX9_struck 200 = .ok (.getfield 124, 3) := by decide +kernel
set_option maxRecDepth 100000 in
theorem dX9_struck_203 : decode cX9_struck 203 = .ok (.aload_n 0, 1) := by decide +kernel
set_option maxRecDepth 100000 in
theorem dX9_struck_204 : decode cX9_struck 204 = .ok (.getfield 314, 3) := by decide +kernel
set_option maxRecDepth 100000 in
theorem dX9_struck_207 : decode cX9_struck 207 = .ok (.iload 4, 2) := by decide +kernel
set_option maxRecDepth 100000 in
theorem dX9_struck_209 : decode cX9_struck 209 = .ok (.iastore, 1) := by decide +kernel
set_option maxRecDepth 100000 in
theorem dX9_struck_210 : decode cX9_struck 210 = .ok (.aload_n 0, 1) := by decide +kernel
set_option maxRecDepth 100000 in
theorem dX9_struck_211 : decode cX9_struck 211 = .ok (.dup, 1) := by decide +kernel
set_option maxRecDepth 100000 in
theorem dX9_struck_212 : decode cX9_struck 212 = .ok (.getfield 314, 3) := by decide +kernel
set_option maxRecDepth 100000 in
theorem dX9_struck_215 : decode cX9_struck 215 = .ok (.iconst 1, 1) := by decide +kernel
set_option maxRecDepth 100000 in
theorem dX9_struck_216 : decode cX9_struck 216 = .ok (.iadd, 1) := by decide +kernel
set_option maxRecDepth 100000 in
theorem dX9_struck_217 : decode cX9_struck 217 = .ok (.putfield 314, 3) := by decide +kernel
set_option maxRecDepth 100000 in
theorem dX9_struck_220 : decode cX9_struck 220 = .ok (.iconst (-1), 1) := by decide +kernel
set_option maxRecDepth 100000 in
theorem dX9_struck_221 : decode cX9_struck 221 = .ok (.ireturn, 1) := by decide +kernel
set_option maxRecDepth 100000 in
theorem dX9_struck_222 : decode cX9_struck 222 = .ok (.aload_n 0, 1) := by decide +kernel
set_option maxRecDepth 100000 in
theorem dX9_struck_223 : decode cX9_struck 223 = .ok (.getfield 115, 3) := by decide +kernel
set_option maxRecDepth 100000 in
theorem dX9_struck_226 : decode cX9_struck 226 = .ok (.iload_n 1, 1) := by decide +kernel
set_option maxRecDepth 100000 in
theorem dX9_struck_227 : decode cX9_struck 227 = .ok (.dup2, 1) := by decide +kernel
set_option maxRecDepth 100000 in
theorem dX9_struck_228 : decode cX9_struck 228 = .ok (.iaload, 1) := by decide +kernel
set_option maxRecDepth 100000 in
theorem dX9_struck_229 : decode cX9_struck 229 = .ok (.iconst 1, 1) := by decide +kernel
set_option maxRecDepth 100000 in
theorem dX9_struck_230 : decode cX9_struck 230 = .ok (.iadd, 1) := by decide +kernel
set_option maxRecDepth 100000 in
theorem dX9_struck_231 : decode cX9_struck 231 = .ok (.iastore, 1) := by decide +kernel
set_option maxRecDepth 100000 in
theorem dX9_struck_232 : decode cX9_struck 232 = .ok (.aload_n 0, 1) := by decide +kernel
set_option maxRecDepth 100000 in
theorem dX9_struck_233 : decode cX9_struck 233 = .ok (.getfield 115, 3) := by decide +kernel
set_option maxRecDepth 100000 in
theorem dX9_struck_236 : decode cX9_struck 236 = .ok (.iload_n 1, 1) := by decide +kernel
set_option maxRecDepth 100000 in
theorem dX9_struck_237 : decode cX9_struck 237 = .ok (.iaload, 1) := by decide +kernel
set_option maxRecDepth 100000 in
theorem dX9_struck_238 : decode cX9_struck 238 = .ok (.iload_n 3, 1) := by decide +kernel
set_option maxRecDepth 100000 in
theorem dX9_struck_239 : decode cX9_struck 239 = .ok (.irem, 1) := by decide +kernel
set_option maxRecDepth 100000 in
theorem dX9_struck_240 : decode cX9_struck 240 = .ok (.ifCond .ne 8, 3) := by decide +kernel
set_option maxRecDepth 100000 in
theorem dX9_struck_243 : decode cX9_struck 243 = .ok (.iload 4, 2) := by decide +kernel
set_option maxRecDepth 100000 in
theorem dX9_struck_245 : decode cX9_struck 245 = .ok (.goto 4, 3) := by decide +kernel
set_option maxRecDepth 100000 in
theorem dX9_struck_248 : decode cX9_struck 248 = .ok (.iconst (-1), 1) := by decide +kernel
set_option maxRecDepth 100000 in
theorem dX9_struck_249 : decode cX9_struck 249 = .ok (.ireturn, 1) := by decide +kernel
set_option maxRecDepth 100000 in
theorem dX9_struck_250 : decode cX9_struck 250 = .ok (.iload 4, 2) := by decide +kernel
set_option maxRecDepth 100000 in
theorem dX9_struck_252 : decode cX9_struck 252 = .ok (.ireturn, 1) := by decide +kernel
set_option maxRecDepth 100000 in
theorem dX9_show_0 : decode cX9_show 0 = .ok (.aload_n 0, 1) := by decide +kernel
set_option maxRecDepth 100000 in
theorem dX9_show_1 : decode cX9_show 1 = .ok (.iconst 0, 1) := by decide +kernel
set_option maxRecDepth 100000 in
theorem dX9_show_2 : decode cX9_show 2 = .ok (.putfield 299, 3) := by decide +kernel
set_option maxRecDepth 100000 in
theorem dX9_show_5 : decode cX9_show 5 = .ok (.aload_n 0, 1) := by decide +kernel
set_option maxRecDepth 100000 in
theorem dX9_show_6 : decode cX9_show 6 = .ok (.iconst 0, 1) := by decide +kernel
set_option maxRecDepth 100000 in
theorem dX9_show_7 : decode cX9_show 7 = .ok (.putfield 302, 3) := by decide +kernel
set_option maxRecDepth 100000 in
theorem dX9_show_10 : decode cX9_show 10 = .ok (.aload_n 0, 1) := by decide +kernel
set_option maxRecDepth 100000 in
theorem dX9_show_11 : decode cX9_show 11 = .ok (.iconst 0, 1) := by decide +kernel
set_option maxRecDepth 100000 in
theorem dX9_show_12 : decode cX9_show 12 = .ok (.putfield 311, 3) := by decide +kernel
set_option maxRecDepth 100000 in
theorem dX9_show_15 : decode cX9_show 15 = .ok (.aload_n 0, 1) := by decide +kernel
set_option maxRecDepth 100000 in
theorem dX9_show_16 : decode cX9_show 16 = .ok (.iconst (-1), 1) := by decide +kernel
set_option maxRecDepth 100000 in
theorem dX9_show_17 : decode cX9_show 17 = .ok (.putfield 305, 3) := by decide +kernel
set_option maxRecDepth 100000 in
theorem dX9_show_20 : decode cX9_show 20 = .ok (.aload_n 0, 1) := by decide +kernel
set_option maxRecDepth 100000 in
theorem dX9_show_21 : decode cX9_show 21 = .ok (.iconst (-1), 1) := by decide +kernel
set_option maxRecDepth 100000 in
theorem dX9_show_22 : decode cX9_show 22 = .ok (.putfield 308, 3) := by decide +kernel
set_option maxRecDepth 100000 in
theorem dX9_show_25 : decode cX9_show 25 = .ok (.aload_n 0, 1) := by decide +kernel
set_option maxRecDepth 100000 in
theorem dX9_show_26 : decode cX9_show 26 = .ok (.iconst 0, 1) := by decide +kernel
set_option maxRecDepth 100000 in
theorem dX9_show_27 : decode cX9_show 27 = .ok (.putfield 314, 3) := by decide +kernel
set_option maxRecDepth 100000 in
theorem dX9_show_30 : decode cX9_show 30 = .ok (.iconst 0, 1) := by decide +kernel
set_option maxRecDepth 100000 in
theorem dX9_show_31 : decode cX9_show 31 = .ok (.istore_n 2, 1) := by decide +kernel
set_option maxRecDepth 100000 in
theorem dX9_show_32 : decode cX9_show 32 = .ok (.iload_n 2, 1) := by decide +kernel
set_option maxRecDepth 100000 in
theorem dX9_show_33 : decode cX9_show 33 = .ok (.aload_n 0, 1) := by decide +kernel
set_option maxRecDepth 100000 in
theorem dX9_show_34 : decode cX9_show 34 = .ok (.getfield 209, 3) := by decide +kernel
set_option maxRecDepth 100000 in
theorem dX9_show_37 : decode cX9_show 37 = .ok (.if_icmp .ge 23, 3) := by decide +kernel
set_option maxRecDepth 100000 in
theorem dX9_show_40 : decode cX9_show 40 = .ok (.aload_n 0, 1) := by decide +kernel
set_option maxRecDepth 100000 in
theorem dX9_show_41 : decode cX9_show 41 = .ok (.getfield 111, 3) := by decide +kernel
set_option maxRecDepth 100000 in
theorem dX9_show_44 : decode cX9_show 44 = .ok (.iload_n 2, 1) := by decide +kernel
set_option maxRecDepth 100000 in
theorem dX9_show_45 : decode cX9_show 45 = .ok (.iconst 0, 1) := by decide +kernel
set_option maxRecDepth 100000 in
theorem dX9_show_46 : decode cX9_show 46 = .ok (.bastore, 1) := by decide +kernel
set_option maxRecDepth 100000 in
theorem dX9_show_47 : decode cX9_show 47 = .ok (.aload_n 0, 1) := by decide +kernel
set_option maxRecDepth 100000 in
theorem dX9_show_48 : decode cX9_show 48 = .ok (.getfield 115, 3) := by decide +kernel
set_option maxRecDepth 100000 in
theorem dX9_show_51 : decode cX9_show 51 = .ok (.iload_n 2, 1) := by decide +kernel
set_option maxRecDepth 100000 in
theorem dX9_show_52 : decode cX9_show 52 = .ok (.iconst 0, 1) := by decide +kernel
set_option maxRecDepth 100000 in
theorem dX9_show_53 : decode cX9_show 53 = .ok (.iastore, 1) := by decide +kernel
set_option maxRecDepth 100000 in
theorem dX9_show_54 : decode cX9_show 54 = .ok (.iinc 2 1, 3) := by decide +kernel
set_option maxRecDepth 100000 in
theorem dX9_show_57 : decode cX9_show 57 = .ok (.goto (-25), 3) := by decide +kernel
set_option maxRecDepth 100000 in
theorem dX9_show_60 : decode cX9_show 60 = .ok (.iconst 0, 1) := by decide +kernel
set_option maxRecDepth 100000 in
theorem dX9_show_61 : decode cX9_show 61 = .ok (.istore_n 2, 1) := by decide +kernel
set_option maxRecDepth 100000 in
theorem dX9_show_62 : decode cX9_show 62 = .ok (.iload_n 2, 1) := by decide +kernel
set_option maxRecDepth 100000 in
theorem dX9_show_63 : decode cX9_show 63 = .ok (.iconst 4, 1) := by decide +kernel
set_option maxRecDepth 100000 in
theorem dX9_show_64 : decode cX9_show 64 = .ok (.if_icmp .ge 16, 3) := by decide +kernel
set_option maxRecDepth 100000 in
theorem dX9_show_67 : decode cX9_show 67 = .ok (.aload_n 0, 1) := by decide +kernel
set_option maxRecDepth 100000 in
theorem dX9_show_68 : decode cX9_show 68 = .ok (.getfield 118, 3) := by decide +kernel
set_option maxRecDepth 100000 in
theorem dX9_show_71 : decode cX9_show 71 = .ok (.iload_n 2, 1) := by decide +kernel
set_option maxRecDepth 100000 in
theorem dX9_show_72 : decode cX9_show 72 = .ok (.iconst (-1), 1) := by decide +kernel
set_option maxRecDepth 100000 in
theorem dX9_show_73 : decode cX9_show 73 = .ok (.iastore, 1) := by decide +kernel
set_option maxRecDepth 100000 in
theorem dX9_show_74 : decode cX9_show 74 = .ok (.iinc 2 1, 3) := by decide +kernel
set_option maxRecDepth 100000 in
theorem dX9_show_77 : decode cX9_show 77 = .ok (.goto (-15), 3) := by decide +kernel
set_option maxRecDepth 100000 in
theorem dX9_show_80 : decode cX9_show 80 = .ok (.iconst 0, 1) := by decide +kernel
set_option maxRecDepth 100000 in
theorem dX9_show_81 : decode cX9_show 81 = .ok (.istore_n 2, 1) := by decide +kernel
set_option maxRecDepth 100000 in
theorem dX9_show_82 : decode cX9_show 82 = .ok (.iload_n 2, 1) := by decide +kernel
set_option maxRecDepth 100000 in
theorem dX9_show_83 : decode cX9_show 83 = .ok (.bipush 96, 2) := by decide +kernel
set_option maxRecDepth 100000 in
theorem dX9_show_85 : decode cX9_show 85 = .ok (.if_icmp .ge 110, 3) := by decide +kernel
set_option maxRecDepth 100000 in
theorem dX9_show_88 : decode cX9_show 88 = .ok (.aload_n 0, 1) := by decide +kernel
set_option maxRecDepth 100000 in
theorem dX9_show_89 : decode cX9_show 89 = .ok (.getfield 314, 3) := by decide +kernel
set_option maxRecDepth 100000 in
theorem dX9_show_92 : decode cX9_show 92 = .ok (.istore_n 3, 1) := by decide +kernel
set_option maxRecDepth 100000 in
theorem dX9_show_93 : decode cX9_show 93 = .ok (.iconst 0, 1) := by decide +kernel
set_option maxRecDepth 100000 in
theorem dX9_show_94 : decode cX9_show 94 = .ok (.istore 4, 2) := by decide +kernel
set_option maxRecDepth 100000 in
theorem dX9_show_96 : decode cX9_show 96 = .ok (.iload 4, 2) := by decide +kernel
set_option maxRecDepth 100000 in
theorem dX9_show_98 : decode cX9_show 98 = .ok (.iload_n 3, 1) := by decide +kernel
set_option maxRecDepth 100000 in
theorem dX9_show_99 : decode cX9_show 99 = .ok (.if_icmp .ge 32, 3) := by decide +kernel
set_option maxRecDepth 100000 in
theorem dX9_show_102 : decode cX9_show 102 = .ok (.aload_n 0, 1) := by decide +kernel
set_option maxRecDepth 100000 in
theorem dX9_show_103 : decode cX9_show 103 = .ok (.getfield 121, 3) := by decide +kernel
set_option maxRecDepth 100000 in
theorem dX9_show_106 : decode cX9_show 106 = .ok (.iload 4, 2) := by decide +kernel
set_option maxRecDepth 100000 in
theorem dX9_show_108 : decode cX9_show 108 = .ok (.iaload, 1) := by decide +kernel
set_option maxRecDepth 100000 in
theorem dX9_show_109 : decode cX9_show 109 = .ok (.iload_n 2, 1) := by decide +kernel
set_option maxRecDepth 100000 in
theorem dX9_show_110 : decode cX9_show 110 = .ok (.if_icmp .ne 15, 3) := by decide +kernel
set_option maxRecDepth 100000 in
theorem dX9_show_113 : decode cX9_show 113 = .ok (.aload_n 0, 1) := by decide +kernel
set_option maxRecDepth 100000 in
theorem dX9_show_114 : decode cX9_show 114 = .ok (.aload_n 0, 1) := by decide +kernel
set_option maxRecDepth 100000 in
theorem dX9_show_115 : decode cX9_show 115 = .ok (.getfield 124, 3) := by decide +kernel
set_option maxRecDepth 100000 in
theorem dX9_show_118 : decode cX9_show 118 = .ok (.iload 4, 2) := by decide +kernel
set_option maxRecDepth 100000 in
theorem dX9_show_120 : decode cX9_show 120 = .ok (.iaload, 1) := by decide +kernel
set_option maxRecDepth 100000 in
theorem dX9_show_121 : decode cX9_show 121 = .ok (.iload_n 2, 1) := by decide +kernel
set_option maxRecDepth 100000 in
theorem dX9_show_122 : decode cX9_show 122 = .ok (.invokevirtual 317, 3) := by decide +kernel
set_option maxRecDepth 100000 in
theorem dX9_show_125 : decode cX9_show 125 = .ok (.iinc 4 1, 3) := by decide +kernel
set_option maxRecDepth 100000 in
theorem dX9_show_128 : decode cX9_show 128 = .ok (.goto (-32), 3) := by decide +kernel
set_option maxRecDepth 100000 in
theorem dX9_show_131 : decode cX9_show 131 = .ok (.iconst 0, 1) := by decide +kernel
set_option maxRecDepth 100000 in
theorem dX9_show_132 : decode cX9_show 132 = .ok (.istore 4, 2) := by decide +kernel
set_option maxRecDepth 100000 in
theorem dX9_show_134 : decode cX9_show 134 = .ok (.iload 4, 2) := by decide +kernel
set_option maxRecDepth 100000 in
theorem dX9_show_136 : decode cX9_show 136 = .ok (.aload_n 0, 1) := by decide +kernel
set_option maxRecDepth 100000 in
theorem dX9_show_137 : decode cX9_show 137 = .ok (.getfield 31, 3) := by decide +kernel
set_option maxRecDepth 100000 in
theorem dX9_show_140 : decode cX9_show 140 = .ok (.iload_n 1, 1) := by decide +kernel
set_option maxRecDepth 100000 in
theorem dX9_show_141 : decode cX9_show 141 = .ok (.iaload, 1) := by decide +kernel
set_option maxRecDepth 100000 in
theorem dX9_show_142 : decode cX9_show 142 = .ok (.if_icmp .ge 47, 3) := by decide +kernel
set_option maxRecDepth 100000 in
theorem dX9_show_145 : decode cX9_show 145 = .ok (.aload_n 0, 1) := by decide +kernel
set_option maxRecDepth 100000 in
theorem dX9_show_146 : decode cX9_show 146 = .ok (.getfield 64, 3) := by decide +kernel
set_option maxRecDepth 100000 in
theorem dX9_show_149 : decode cX9_show 149 = .ok (.iconst (-1), 1) := by decide +kernel
set_option maxRecDepth 100000 in
theorem dX9_show_150 : decode cX9_show 150 = .ok (.if_icmp .eq 39, 3) := by decide +kernel
set_option maxRecDepth 100000 in
theorem dX9_show_153 : decode cX9_show 153 = .ok (.aload_n 0, 1) := by decide +kernel
set_option maxRecDepth 100000 in
theorem dX9_show_154 : decode cX9_show 154 = .ok (.getfield 102, 3) := by decide +kernel
set_option maxRecDepth 100000 in
theorem dX9_show_157 : decode cX9_show 157 = .ok (.iload 4, 2) := by decide +kernel
set_option maxRecDepth 100000 in
theorem dX9_show_159 : decode cX9_show 159 = .ok (.iaload, 1) := by decide +kernel
set_option maxRecDepth 100000 in
theorem dX9_show_160 : decode cX9_show 160 = .ok (.iload_n 2, 1) := by decide +kernel
set_option maxRecDepth 100000 in
theorem dX9_show_161 : decode cX9_show 161 = .ok (.if_icmp .ne 22, 3) := by decide +kernel
set_option maxRecDepth 100000 in
theorem dX9_show_164 : decode cX9_show 164 = .ok (.aload_n 0, 1) := by decide +kernel
set_option maxRecDepth 100000 in
theorem dX9_show_165 : decode cX9_show 165 = .ok (.dup, 1) := by decide +kernel
set_option maxRecDepth 100000 in
theorem dX9_show_166 : decode cX9_show 166 = .ok (.getfield 302, 3) := by decide +kernel
set_option maxRecDepth 100000 in
theorem dX9_show_169 : decode cX9_show 169 = .ok (.iconst 1, 1) := by decide +kernel
set_option maxRecDepth 100000 in
theorem dX9_show_170 : decode cX9_show 170 = .ok (.iadd, 1) := by decide +kernel
set_option maxRecDepth 100000 in
theorem dX9_show_171 : decode cX9_show 171 = .ok (.putfield 302, 3) := by decide +kernel
set_option maxRecDepth 100000 in
theorem dX9_show_174 : decode cX9_show 174 = .ok (.aload_n 0, 1) := by decide +kernel
set_option maxRecDepth 100000 in
theorem dX9_show_175 : decode cX9_show 175 = .ok (.aload_n 0, 1) := by decide +kernel
set_option maxRecDepth 100000 in
theorem dX9_show_176 : decode cX9_show 176 = .ok (.getfield 64, 3) := by decide +kernel
set_option maxRecDepth 100000 in
theorem dX9_show_179 : decode cX9_show 179 = .ok (.iload_n 2, 1) := by decide +kernel
set_option maxRecDepth 100000 in
theorem dX9_show_180 : decode cX9_show 180 = .ok (.invokevirtual 317, 3) := by decide +kernel
set_option maxRecDepth 100000 in
theorem dX9_show_183 : decode cX9_show 183 = .ok (.iinc 4 1, 3) := by decide +kernel
set_option maxRecDepth 100000 in
theorem dX9_show_186 : decode cX9_show 186 = .ok (.goto (-52), 3) := by decide +kernel
set_option maxRecDepth 100000 in
theorem dX9_show_189 : decode cX9_show 189 = .ok (.iinc 2 1, 3) := by decide +kernel
set_option maxRecDepth 100000 in
theorem dX9_show_192 : decode cX9_show 192 = .ok (.goto (-110), 3) := by decide +kernel
set_option maxRecDepth 100000 in
theorem dX9_show_195 : decode cX9_show 195 = .ok (.return_, 1) := by decide +kernel
set_option maxRecDepth 100000 in
theorem dX9_shown_0 : decode cX9_shown 0 = .ok (.iload_n 1, 1) := by decide +kernel
set_option maxRecDepth 100000 in
theorem dX9_shown_1 : decode cX9_shown 1 = .ok (.tableswitch 51 0 3 #[31, 36, 41, 46], 31) := by decide +kernel
set_option maxRecDepth 100000 in
theorem dX9_shown_32 : decode cX9_shown 32 = .ok (.aload_n 0, 1) := by decide +kernel
set_option maxRecDepth 100000 in
theorem dX9_shown_33 : decode cX9_shown 33 = .ok (.getfield 299, 3) := by decide +kernel
set_option maxRecDepth 100000 in
theorem dX9_shown_36 : decode cX9_shown 36 = .ok (.ireturn, 1) := by decide +kernel
set_option maxRecDepth 100000 in
theorem dX9_shown_37 : decode cX9_shown 37 = .ok (.aload_n 0, 1) := by decide +kernel
set_option maxRecDepth 100000 in
theorem dX9_shown_38 : decode cX9_shown 38 = .ok (.getfield 311, 3) := by decide +kernel
set_option maxRecDepth 100000 in
theorem dX9_shown_41 : decode cX9_shown 41 = .ok (.ireturn, 1) := by decide +kernel
set_option maxRecDepth 100000 in
theorem dX9_shown_42 : decode cX9_shown 42 = .ok (.aload_n 0, 1) := by decide +kernel
set_option maxRecDepth 100000 in
theorem dX9_shown_43 : decode cX9_shown 43 = .ok (.getfield 305, 3) := by decide +kernel
set_option maxRecDepth 100000 in
theorem dX9_shown_46 : decode cX9_shown 46 = .ok (.ireturn, 1) := by decide +kernel
set_option maxRecDepth 100000 in
theorem dX9_shown_47 : decode cX9_shown 47 = .ok (.aload_n 0, 1) := by decide +kernel
set_option maxRecDepth 100000 in
theorem dX9_shown_48 : decode cX9_shown 48 = .ok (.getfield 308, 3) := by decide +kernel
set_option maxRecDepth 100000 in
theorem dX9_shown_51 : decode cX9_shown 51 = .ok (.ireturn, 1) := by decide +kernel
set_option maxRecDepth 100000 in
theorem dX9_shown_52 : decode cX9_shown 52 = .ok (.iload_n 1, 1) := by decide +kernel
set_option maxRecDepth 100000 in
theorem dX9_shown_53 : decode cX9_shown 53 = .ok (.bipush 10, 2) := by decide +kernel
set_option maxRecDepth 100000 in
theorem dX9_shown_55 : decode cX9_shown 55 = .ok (.isub, 1) := by decide +kernel
set_option maxRecDepth 100000 in
theorem dX9_shown_56 : decode cX9_shown 56 = .ok (.aload_n 0, 1) := by decide +kernel
set_option maxRecDepth 100000 in
theorem dX9_shown_57 : decode cX9_shown 57 = .ok (.getfield 311, 3) := by decide +kernel
set_option maxRecDepth 100000 in
theorem dX9_shown_60 : decode cX9_shown 60 = .ok (.if_icmp .ge 15, 3) := by decide +kernel
set_option maxRecDepth 100000 in
theorem dX9_shown_63 : decode cX9_shown 63 = .ok (.aload_n 0, 1) := by decide +kernel
set_option maxRecDepth 100000 in
theorem dX9_shown_64 : decode cX9_shown 64 = .ok (.getfield 108, 3) := by decide +kernel
set_option maxRecDepth 100000 in
theorem dX9_shown_67 : decode cX9_shown 67 = .ok (.iload_n 1, 1) := by decide +kernel
set_option maxRecDepth 100000 in
theorem dX9_shown_68 : decode cX9_shown 68 = .ok (.bipush 10, 2) := by decide +kernel
set_option maxRecDepth 100000 in
theorem dX9_shown_70 : decode cX9_shown 70 = .ok (.isub, 1) := by decide +kernel
set_option maxRecDepth 100000 in
theorem dX9_shown_71 : decode cX9_shown 71 = .ok (.iaload, 1) := by decide +kernel
set_option maxRecDepth 100000 in
theorem dX9_shown_72 : decode cX9_shown 72 = .ok (.goto 4, 3) := by decide +kernel
set_option maxRecDepth 100000 in
theorem dX9_shown_75 : decode cX9_shown 75 = .ok (.iconst (-1), 1) := by decide +kernel
set_option maxRecDepth 100000 in
theorem dX9_shown_76 : decode cX9_shown 76 = .ok (.ireturn, 1) := by decide +kernel
set_option maxRecDepth 100000 in
theorem dX9_shows_0 : decode cX9_shows 0 = .ok (.aload_n 0, 1) := by decide +kernel
set_option maxRecDepth 100000 in
theorem dX9_shows_1 : decode cX9_shows 1 = .ok (.iload_n 1, 1) := by decide +kernel
set_option maxRecDepth 100000 in
theorem dX9_shows_2 : decode cX9_shows 2 = .ok (.iload_n 2, 1) := by decide +kernel
set_option maxRecDepth 100000 in
theorem dX9_shows_3 : decode cX9_shows 3 = .ok (.iload_n 3, 1) := by decide +kernel
set_option maxRecDepth 100000 in
theorem dX9_shows_4 : decode cX9_shows 4 = .ok (.invokevirtual 277, 3) := by decide +kernel
set_option maxRecDepth 100000 in
theorem dX9_shows_7 : decode cX9_shows 7 = .ok (.ifCond .ne 6, 3) := by decide +kernel
set_option maxRecDepth 100000 in
theorem dX9_shows_10 : decode cX9_shows 10 = .ok (.bipush (-101), 2) := by decide +kernel
set_option maxRecDepth 100000 in
theorem dX9_shows_12 : decode cX9_shows 12 = .ok (.ireturn, 1) := by decide +kernel
set_option maxRecDepth 100000 in
theorem dX9_shows_13 : decode cX9_shows 13 = .ok (.iload 4, 2) := by decide +kernel
set_option maxRecDepth 100000 in
theorem dX9_shows_15 : decode cX9_shows 15 = .ok (.iconst 0, 1) := by decide +kernel
set_option maxRecDepth 100000 in
theorem dX9_shows_16 : decode cX9_shows 16 = .ok (.iconst 3, 1) := by decide +kernel
set_option maxRecDepth 100000 in
theorem dX9_shows_17 : decode cX9_shows 17 = .ok (.invokestatic 132, 3) := by decide +kernel
set_option maxRecDepth 100000 in
theorem dX9_shows_20 : decode cX9_shows 20 = .ok (.ifCond .ne 18, 3) := by decide +kernel
set_option maxRecDepth 100000 in
theorem dX9_shows_23 : decode cX9_shows 23 = .ok (.iload 4, 2) := by decide +kernel
set_option maxRecDepth 100000 in
theorem dX9_shows_25 : decode cX9_shows 25 = .ok (.bipush 10, 2) := by decide +kernel
set_option maxRecDepth 100000 in
theorem dX9_shows_27 : decode cX9_shows 27 = .ok (.bipush 29, 2) := by decide +kernel
set_option maxRecDepth 100000 in
theorem dX9_shows_29 : decode cX9_shows 29 = .ok (.invokestatic 132, 3) := by decide +kernel
set_option maxRecDepth 100000 in
theorem dX9_shows_32 : decode cX9_shows 32 = .ok (.ifCond .ne 6, 3) := by decide +kernel
set_option maxRecDepth 100000 in
theorem dX9_shows_35 : decode cX9_shows 35 = .ok (.bipush (-102), 2) := by decide +kernel
set_option maxRecDepth 100000 in
theorem dX9_shows_37 : decode cX9_shows 37 = .ok (.ireturn, 1) := by decide +kernel
set_option maxRecDepth 100000 in
theorem dX9_shows_38 : decode cX9_shows 38 = .ok (.aload_n 0, 1) := by decide +kernel
set_option maxRecDepth 100000 in
theorem dX9_shows_39 : decode cX9_shows 39 = .ok (.iload_n 1, 1) := by decide +kernel
set_option maxRecDepth 100000 in
theorem dX9_shows_40 : decode cX9_shows 40 = .ok (.iload_n 2, 1) := by decide +kernel
set_option maxRecDepth 100000 in
theorem dX9_shows_41 : decode cX9_shows 41 = .ok (.iload_n 3, 1) := by decide +kernel
set_option maxRecDepth 100000 in
theorem dX9_shows_42 : decode cX9_shows 42 = .ok (.invokevirtual 280, 3) := by decide +kernel
set_option maxRecDepth 100000 in
theorem dX9_shows_45 : decode cX9_shows 45 = .ok (.aload_n 0, 1) := by decide +kernel
set_option maxRecDepth 100000 in
theorem dX9_shows_46 : decode cX9_shows 46 = .ok (.iload_n 1, 1) := by decide +kernel
set_option maxRecDepth 100000 in
theorem dX9_shows_47 : decode cX9_shows 47 = .ok (.invokevirtual 320, 3) := by decide +kernel
set_option maxRecDepth 100000 in
theorem dX9_shows_50 : decode cX9_shows 50 = .ok (.aload_n 0, 1) := by decide +kernel
set_option maxRecDepth 100000 in
theorem dX9_shows_51 : decode cX9_shows 51 = .ok (.iload 4, 2) := by decide +kernel
set_option maxRecDepth 100000 in
theorem dX9_shows_53 : decode cX9_shows 53 = .ok (.invokevirtual 323, 3) := by decide +kernel
set_option maxRecDepth 100000 in
theorem dX9_shows_56 : decode cX9_shows 56 = .ok (.ireturn, 1) := by decide +kernel
set_option maxRecDepth 100000 in
theorem dX9_layWorst_0 : decode cX9_layWorst 0 = .ok (.aload_n 0, 1) := by decide +kernel
set_option maxRecDepth 100000 in
theorem dX9_layWorst_1 : decode cX9_layWorst 1 = .ok (.iconst (-1), 1) := by decide +kernel
set_option maxRecDepth 100000 in
theorem dX9_layWorst_2 : decode cX9_layWorst 2 = .ok (.putfield 326, 3) := by decide +kernel
set_option maxRecDepth 100000 in
theorem dX9_layWorst_5 : decode cX9_layWorst 5 = .ok (.iconst 0, 1) := by decide +kernel
set_option maxRecDepth 100000 in
theorem dX9_layWorst_6 : decode cX9_layWorst 6 = .ok (.istore_n 2, 1) := by decide +kernel
set_option maxRecDepth 100000 in
theorem dX9_layWorst_7 : decode cX9_layWorst 7 = .ok (.iload_n 2, 1) := by decide +kernel
set_option maxRecDepth 100000 in
theorem dX9_layWorst_8 : decode cX9_layWorst 8 = .ok (.iconst 4, 1) := by decide +kernel
set_option maxRecDepth 100000 in
theorem dX9_layWorst_9 : decode cX9_layWorst 9 = .ok (.if_icmp .ge 71, 3) := by decide +kernel
set_option maxRecDepth 100000 in
theorem dX9_layWorst_12 : decode cX9_layWorst 12 = .ok (.aload_n 0, 1) := by decide +kernel
set_option maxRecDepth 100000 in
theorem dX9_layWorst_13 : decode cX9_layWorst 13 = .ok (.iload_n 1, 1) := by decide +kernel
set_option maxRecDepth 100000 in
theorem dX9_layWorst_14 : decode cX9_layWorst 14 = .ok (.iload_n 2, 1) := by decide +kernel
set_option maxRecDepth 100000 in
theorem dX9_layWorst_15 : decode cX9_layWorst 15 = .ok (.iconst (-1), 1) := by decide +kernel
set_option maxRecDepth 100000 in
theorem dX9_layWorst_16 : decode cX9_layWorst 16 = .ok (.invokevirtual 280, 3) := by decide +kernel
set_option maxRecDepth 100000 in
theorem dX9_layWorst_19 : decode cX9_layWorst 19 = .ok (.iconst 0, 1) := by decide +kernel
set_option maxRecDepth 100000 in
theorem dX9_layWorst_20 : decode cX9_layWorst 20 = .ok (.istore_n 3, 1) := by decide +kernel
set_option maxRecDepth 100000 in
theorem dX9_layWorst_21 : decode cX9_layWorst 21 = .ok (.iload_n 3, 1) := by decide +kernel
set_option maxRecDepth 100000 in
theorem dX9_layWorst_22 : decode cX9_layWorst 22 = .ok (.aload_n 0, 1) := by decide +kernel
set_option maxRecDepth 100000 in
theorem dX9_layWorst_23 : decode cX9_layWorst 23 = .ok (.getfield 31, 3) := by decide +kernel
set_option maxRecDepth 100000 in
theorem dX9_layWorst_26 : decode cX9_layWorst 26 = .ok (.iload_n 1, 1) := by decide +kernel
set_option maxRecDepth 100000 in
theorem dX9_layWorst_27 : decode cX9_layWorst 27 = .ok (.iaload, 1) := by decide +kernel
set_option maxRecDepth 100000 in
theorem dX9_layWorst_28 : decode cX9_layWorst 28 = .ok (.if_icmp .ge 46, 3) := by decide +kernel
set_option maxRecDepth 100000 in
theorem dX9_layWorst_31 : decode cX9_layWorst 31 = .ok (.aload_n 0, 1) := by decide +kernel
set_option maxRecDepth 100000 in
theorem dX9_layWorst_32 : decode cX9_layWorst 32 = .ok (.iload_n 1, 1) := by decide +kernel
set_option maxRecDepth 100000 in
theorem dX9_layWorst_33 : decode cX9_layWorst 33 = .ok (.iload_n 2, 1) := by decide +kernel
set_option maxRecDepth 100000 in
theorem dX9_layWorst_34 : decode cX9_layWorst 34 = .ok (.iload_n 3, 1) := by decide +kernel
set_option maxRecDepth 100000 in
theorem dX9_layWorst_35 : decode cX9_layWorst 35 = .ok (.invokevirtual 286, 3) := by decide +kernel
set_option maxRecDepth 100000 in
theorem dX9_layWorst_38 : decode cX9_layWorst 38 = .ok (.invokestatic 290, 3) := by decide +kernel
set_option maxRecDepth 100000 in
theorem dX9_layWorst_41 : decode cX9_layWorst 41 = .ok (.istore 4, 2) := by decide +kernel
set_option maxRecDepth 100000 in
theorem dX9_layWorst_43 : decode cX9_layWorst 43 = .ok (.iload 4, 2) := by decide +kernel
set_option maxRecDepth 100000 in
theorem dX9_layWorst_45 : decode cX9_layWorst 45 = .ok (.aload_n 0, 1) := by decide +kernel
set_option maxRecDepth 100000 in
theorem dX9_layWorst_46 : decode cX9_layWorst 46 = .ok (.getfield 326, 3) := by decide +kernel
set_option maxRecDepth 100000 in
theorem dX9_layWorst_49 : decode cX9_layWorst 49 = .ok (.if_icmp .le 19, 3) := by decide +kernel
set_option maxRecDepth 100000 in
theorem dX9_layWorst_52 : decode cX9_layWorst 52 = .ok (.aload_n 0, 1) := by decide +kernel
set_option maxRecDepth 100000 in
theorem dX9_layWorst_53 : decode cX9_layWorst 53 = .ok (.iload 4, 2) := by decide +kernel
set_option maxRecDepth 100000 in
theorem dX9_layWorst_55 : decode cX9_layWorst 55 = .ok (.putfield 326, 3) := by decide +kernel
set_option maxRecDepth 100000 in
theorem dX9_layWorst_58 : decode cX9_layWorst 58 = .ok (.aload_n 0, 1) := by decide +kernel
set_option maxRecDepth 100000 in
theorem dX9_layWorst_59 : decode cX9_layWorst 59 = .ok (.iload_n 2, 1) := by decide +kernel
set_option maxRecDepth 100000 in
theorem dX9_layWorst_60 : decode cX9_layWorst 60 = .ok (.putfield 329, 3) := by decide +kernel
set_option maxRecDepth 100000 in
theorem dX9_layWorst_63 : decode cX9_layWorst 63 = .ok (.aload_n 0, 1) := by decide +kernel
set_option maxRecDepth 100000 in
theorem dX9_layWorst_64 : decode cX9_layWorst 64 = .ok (.iload_n 3, 1) := by decide +kernel
set_option maxRecDepth 100000 in
theorem dX9_layWorst_65 : decode cX9_layWorst 65 = .ok (.putfield 332, 3) := by decide +kernel
set_option maxRecDepth 100000 in
theorem dX9_layWorst_68 : decode cX9_layWorst 68 = .ok (.iinc 3 1, 3) := by decide +kernel
set_option maxRecDepth 100000 in
theorem dX9_layWorst_71 : decode cX9_layWorst 71 = .ok (.goto (-50), 3) := by decide +kernel
set_option maxRecDepth 100000 in
theorem dX9_layWorst_74 : decode cX9_layWorst 74 = .ok (.iinc 2 1, 3) := by decide +kernel
set_option maxRecDepth 100000 in
theorem dX9_layWorst_77 : decode cX9_layWorst 77 = .ok (.goto (-70), 3) := by decide +kernel
set_option maxRecDepth 100000 in
theorem dX9_layWorst_80 : decode cX9_layWorst 80 = .ok (.return_, 1) := by decide +kernel
set_option maxRecDepth 100000 in
theorem dX9_worst_0 : decode cX9_worst 0 = .ok (.aload_n 0, 1) := by decide +kernel
set_option maxRecDepth 100000 in
theorem dX9_worst_1 : decode cX9_worst 1 = .ok (.iload_n 1, 1) := by decide +kernel
set_option maxRecDepth 100000 in
theorem dX9_worst_2 : decode cX9_worst 2 = .ok (.invokevirtual 197, 3) := by decide +kernel
set_option maxRecDepth 100000 in
theorem dX9_worst_5 : decode cX9_worst 5 = .ok (.ifCond .ne 6, 3) := by decide +kernel
set_option maxRecDepth 100000 in
theorem dX9_worst_8 : decode cX9_worst 8 = .ok (.bipush (-101), 2) := by decide +kernel
set_option maxRecDepth 100000 in
theorem dX9_worst_10 : decode cX9_worst 10 = .ok (.ireturn, 1) := by decide +kernel
set_option maxRecDepth 100000 in
theorem dX9_worst_11 : decode cX9_worst 11 = .ok (.iload_n 2, 1) := by decide +kernel
set_option maxRecDepth 100000 in
theorem dX9_worst_12 : decode cX9_worst 12 = .ok (.iconst 0, 1) := by decide +kernel
set_option maxRecDepth 100000 in
theorem dX9_worst_13 : decode cX9_worst 13 = .ok (.iconst 2, 1) := by decide +kernel
set_option maxRecDepth 100000 in
theorem dX9_worst_14 : decode cX9_worst 14 = .ok (.invokestatic 132, 3) := by decide +kernel
set_option maxRecDepth 100000 in
theorem dX9_worst_17 : decode cX9_worst 17 = .ok (.ifCond .ne 6, 3) := by decide +kernel
set_option maxRecDepth 100000 in
theorem dX9_worst_20 : decode cX9_worst 20 = .ok (.bipush (-102), 2) := by decide +kernel
set_option maxRecDepth 100000 in
theorem dX9_worst_22 : decode cX9_worst 22 = .ok (.ireturn, 1) := by decide +kernel
set_option maxRecDepth 100000 in
theorem dX9_worst_23 : decode cX9_worst 23 = .ok (.aload_n 0, 1) := by decide +kernel
set_option maxRecDepth 100000 in
theorem dX9_worst_24 : decode cX9_worst 24 = .ok (.iload_n 1, 1) := by decide +kernel
set_option maxRecDepth 100000 in
theorem dX9_worst_25 : decode cX9_worst 25 = .ok (.invokevirtual 335, 3) := by decide +kernel
set_option maxRecDepth 100000 in
theorem dX9_worst_28 : decode cX9_worst 28 = .ok (.iload_n 2, 1) := by decide +kernel
set_option maxRecDepth 100000 in
theorem dX9_worst_29 : decode cX9_worst 29 = .ok (.ifCond .ne 10, 3) := by decide +kernel
set_option maxRecDepth 100000 in
theorem dX9_worst_32 : decode cX9_worst 32 = .ok (.aload_n 0, 1) := by decide +kernel
set_option maxRecDepth 100000 in
theorem dX9_worst_33 : decode cX9_worst 33 = .ok (.getfield 326, 3) := by decide +kernel
set_option maxRecDepth 100000 in
theorem dX9_worst_36 : decode cX9_worst 36 = .ok (.goto 19, 3) := by decide +kernel
set_option maxRecDepth 100000 in
theorem dX9_worst_39 : decode cX9_worst 39 = .ok (.iload_n 2, 1) := by decide +kernel
set_option maxRecDepth 100000 in
theorem dX9_worst_40 : decode cX9_worst 40 = .ok (.iconst 1, 1) := by decide +kernel
set_option maxRecDepth 100000 in
theorem dX9_worst_41 : decode cX9_worst 41 = .ok (.if_icmp .ne 10, 3) := by decide +kernel
set_option maxRecDepth 100000 in
theorem dX9_worst_44 : decode cX9_worst 44 = .ok (.aload_n 0, 1) := by decide +kernel
set_option maxRecDepth 100000 in
theorem dX9_worst_45 : decode cX9_worst 45 = .ok (.getfield 329, 3) := by decide +kernel
set_option maxRecDepth 100000 in
theorem dX9_worst_48 : decode cX9_worst 48 = .ok (.goto 7, 3) := by decide +kernel
set_option maxRecDepth 100000 in
theorem dX9_worst_51 : decode cX9_worst 51 = .ok (.aload_n 0, 1) := by decide +kernel
set_option maxRecDepth 100000 in
theorem dX9_worst_52 : decode cX9_worst 52 = .ok (.getfield 332, 3) := by decide +kernel
set_option maxRecDepth 100000 in
theorem dX9_worst_55 : decode cX9_worst 55 = .ok (.ireturn, 1) := by decide +kernel
set_option maxRecDepth 100000 in
theorem dX9_better_0 : decode cX9_better 0 = .ok (.aload_n 0, 1) := by decide +kernel
set_option maxRecDepth 100000 in
theorem dX9_better_1 : decode cX9_better 1 = .ok (.iload_n 1, 1) := by decide +kernel
set_option maxRecDepth 100000 in
theorem dX9_better_2 : decode cX9_better 2 = .ok (.invokevirtual 197, 3) := by decide +kernel
set_option maxRecDepth 100000 in
theorem dX9_better_5 : decode cX9_better 5 = .ok (.ifCond .eq 11, 3) := by decide +kernel
set_option maxRecDepth 100000 in
theorem dX9_better_8 : decode cX9_better 8 = .ok (.aload_n 0, 1) := by decide +kernel
set_option maxRecDepth 100000 in
theorem dX9_better_9 : decode cX9_better 9 = .ok (.iload_n 2, 1) := by decide +kernel
set_option maxRecDepth 100000 in
theorem dX9_better_10 : decode cX9_better 10 = .ok (.invokevirtual 197, 3) := by decide +kernel
set_option maxRecDepth 100000 in
theorem dX9_better_13 : decode cX9_better 13 = .ok (.ifCond .ne 6, 3) := by decide +kernel
set_option maxRecDepth 100000 in
theorem dX9_better_16 : decode cX9_better 16 = .ok (.bipush (-101), 2) := by decide +kernel
set_option maxRecDepth 100000 in
theorem dX9_better_18 : decode cX9_better 18 = .ok (.ireturn, 1) := by decide +kernel
set_option maxRecDepth 100000 in
theorem dX9_better_19 : decode cX9_better 19 = .ok (.aload_n 0, 1) := by decide +kernel
set_option maxRecDepth 100000 in
theorem dX9_better_20 : decode cX9_better 20 = .ok (.iload_n 1, 1) := by decide +kernel
set_option maxRecDepth 100000 in
theorem dX9_better_21 : decode cX9_better 21 = .ok (.invokevirtual 335, 3) := by decide +kernel
set_option maxRecDepth 100000 in
theorem dX9_better_24 : decode cX9_better 24 = .ok (.aload_n 0, 1) := by decide +kernel
set_option maxRecDepth 100000 in
theorem dX9_better_25 : decode cX9_better 25 = .ok (.getfield 326, 3) := by decide +kernel
set_option maxRecDepth 100000 in
theorem dX9_better_28 : decode cX9_better 28 = .ok (.istore_n 3, 1) := by decide +kernel
set_option maxRecDepth 100000 in
theorem dX9_better_29 : decode cX9_better 29 = .ok (.aload_n 0, 1) := by decide +kernel
set_option maxRecDepth 100000 in
theorem dX9_better_30 : decode cX9_better 30 = .ok (.iload_n 2, 1) := by decide +kernel
set_option maxRecDepth 100000 in
theorem dX9_better_31 : decode cX9_better 31 = .ok (.invokevirtual 335, 3) := by decide +kernel
set_option maxRecDepth 100000 in
theorem dX9_better_34 : decode cX9_better 34 = .ok (.aload_n 0, 1) := by decide +kernel
set_option maxRecDepth 100000 in
theorem dX9_better_35 : decode cX9_better 35 = .ok (.getfield 326, 3) := by decide +kernel
set_option maxRecDepth 100000 in
theorem dX9_better_38 : decode cX9_better 38 = .ok (.iload_n 3, 1) := by decide +kernel
set_option maxRecDepth 100000 in
theorem dX9_better_39 : decode cX9_better 39 = .ok (.if_icmp .ge 7, 3) := by decide +kernel
set_option maxRecDepth 100000 in
theorem dX9_better_42 : decode cX9_better 42 = .ok (.iload_n 2, 1) := by decide +kernel
set_option maxRecDepth 100000 in
theorem dX9_better_43 : decode cX9_better 43 = .ok (.goto 4, 3) := by decide +kernel
set_option maxRecDepth 100000 in
theorem dX9_better_46 : decode cX9_better 46 = .ok (.iload_n 1, 1) := by decide +kernel
set_option maxRecDepth 100000 in
theorem dX9_better_47 : decode cX9_better 47 = .ok (.ireturn, 1) := by decide +kernel
set_option maxRecDepth 100000 in
theorem dX9_mark_0 : decode cX9_mark 0 = .ok (.aload_n 0, 1) := by decide +kernel
set_option maxRecDepth 100000 in
theorem dX9_mark_1 : decode cX9_mark 1 = .ok (.iload_n 1, 1) := by decide +kernel
set_option maxRecDepth 100000 in
theorem dX9_mark_2 : decode cX9_mark 2 = .ok (.invokevirtual 197, 3) := by decide +kernel
set_option maxRecDepth 100000 in
theorem dX9_mark_5 : decode cX9_mark 5 = .ok (.ifCond .eq 19, 3) := by decide +kernel
set_option maxRecDepth 100000 in
theorem dX9_mark_8 : decode cX9_mark 8 = .ok (.iload_n 2, 1) := by decide +kernel
set_option maxRecDepth 100000 in
theorem dX9_mark_9 : decode cX9_mark 9 = .ok (.invokestatic 203, 3) := by decide +kernel
set_option maxRecDepth 100000 in
theorem dX9_mark_12 : decode cX9_mark 12 = .ok (.ifCond .eq 12, 3) := by decide +kernel
set_option maxRecDepth 100000 in
theorem dX9_mark_15 : decode cX9_mark 15 = .ok (.aload_n 0, 1) := by decide +kernel
set_option maxRecDepth 100000 in
theorem dX9_mark_16 : decode cX9_mark 16 = .ok (.iload_n 1, 1) := by decide +kernel
set_option maxRecDepth 100000 in
theorem dX9_mark_17 : decode cX9_mark 17 = .ok (.iload_n 3, 1) := by decide +kernel
set_option maxRecDepth 100000 in
theorem dX9_mark_18 : decode cX9_mark 18 = .ok (.invokevirtual 194, 3) := by decide +kernel
set_option maxRecDepth 100000 in
theorem dX9_mark_21 : decode cX9_mark 21 = .ok (.ifCond .ne 6, 3) := by decide +kernel
set_option maxRecDepth 100000 in
theorem dX9_mark_24 : decode cX9_mark 24 = .ok (.bipush (-101), 2) := by decide +kernel
set_option maxRecDepth 100000 in
theorem dX9_mark_26 : decode cX9_mark 26 = .ok (.ireturn, 1) := by decide +kernel
set_option maxRecDepth 100000 in
theorem dX9_mark_27 : decode cX9_mark 27 = .ok (.aload_n 0, 1) := by decide +kernel
set_option maxRecDepth 100000 in
theorem dX9_mark_28 : decode cX9_mark 28 = .ok (.iload_n 1, 1) := by decide +kernel
set_option maxRecDepth 100000 in
theorem dX9_mark_29 : decode cX9_mark 29 = .ok (.iconst (-1), 1) := by decide +kernel
set_option maxRecDepth 100000 in
theorem dX9_mark_30 : decode cX9_mark 30 = .ok (.invokevirtual 270, 3) := by decide +kernel
set_option maxRecDepth 100000 in
theorem dX9_mark_33 : decode cX9_mark 33 = .ok (.aload_n 0, 1) := by decide +kernel
set_option maxRecDepth 100000 in
theorem dX9_mark_34 : decode cX9_mark 34 = .ok (.iconst 0, 1) := by decide +kernel
set_option maxRecDepth 100000 in
theorem dX9_mark_35 : decode cX9_mark 35 = .ok (.putfield 221, 3) := by decide +kernel
set_option maxRecDepth 100000 in
theorem dX9_mark_38 : decode cX9_mark 38 = .ok (.aload_n 0, 1) := by decide +kernel
set_option maxRecDepth 100000 in
theorem dX9_mark_39 : decode cX9_mark 39 = .ok (.iload_n 1, 1) := by decide +kernel
set_option maxRecDepth 100000 in
theorem dX9_mark_40 : decode cX9_mark 40 = .ok (.iload_n 2, 1) := by decide +kernel
set_option maxRecDepth 100000 in
theorem dX9_mark_41 : decode cX9_mark 41 = .ok (.bipush 95, 2) := by decide +kernel
set_option maxRecDepth 100000 in
theorem dX9_mark_43 : decode cX9_mark 43 = .ok (.invokevirtual 274, 3) := by decide +kernel
set_option maxRecDepth 100000 in
theorem dX9_mark_46 : decode cX9_mark 46 = .ok (.iload_n 3, 1) := by decide +kernel
set_option maxRecDepth 100000 in
theorem dX9_mark_47 : decode cX9_mark 47 = .ok (.iconst 1, 1) := by decide +kernel
set_option maxRecDepth 100000 in
theorem dX9_mark_48 : decode cX9_mark 48 = .ok (.iadd, 1) := by decide +kernel
set_option maxRecDepth 100000 in
theorem dX9_mark_49 : decode cX9_mark 49 = .ok (.aload_n 0, 1) := by decide +kernel
set_option maxRecDepth 100000 in
theorem dX9_mark_50 : decode cX9_mark 50 = .ok (.getfield 40, 3) := by decide +kernel
set_option maxRecDepth 100000 in
theorem dX9_mark_53 : decode cX9_mark 53 = .ok (.iload_n 2, 1) := by decide +kernel
set_option maxRecDepth 100000 in
theorem dX9_mark_54 : decode cX9_mark 54 = .ok (.iaload, 1) := by decide +kernel
set_option maxRecDepth 100000 in
theorem dX9_mark_55 : decode cX9_mark 55 = .ok (.imul, 1) := by decide +kernel
set_option maxRecDepth 100000 in
theorem dX9_mark_56 : decode cX9_mark 56 = .ok (.aload_n 0, 1) := by decide +kernel
set_option maxRecDepth 100000 in
theorem dX9_mark_57 : decode cX9_mark 57 = .ok (.getfield 31, 3) := by decide +kernel
set_option maxRecDepth 100000 in
theorem dX9_mark_60 : decode cX9_mark 60 = .ok (.iload_n 1, 1) := by decide +kernel
set_option maxRecDepth 100000 in
theorem dX9_mark_61 : decode cX9_mark 61 = .ok (.iaload, 1) := by decide +kernel
set_option maxRecDepth 100000 in
theorem dX9_mark_62 : decode cX9_mark 62 = .ok (.idiv, 1) := by decide +kernel
set_option maxRecDepth 100000 in
theorem dX9_mark_63 : decode cX9_mark 63 = .ok (.istore 4, 2) := by decide +kernel
set_option maxRecDepth 100000 in
theorem dX9_mark_65 : decode cX9_mark 65 = .ok (.iload 4, 2) := by decide +kernel
set_option maxRecDepth 100000 in
theorem dX9_mark_67 : decode cX9_mark 67 = .ok (.ifCond .ne 7, 3) := by decide +kernel
set_option maxRecDepth 100000 in
theorem dX9_mark_70 : decode cX9_mark 70 = .ok (.iconst 0, 1) := by decide +kernel
set_option maxRecDepth 100000 in
theorem dX9_mark_71 : decode cX9_mark 71 = .ok (.goto 12, 3) := by decide +kernel
set_option maxRecDepth 100000 in
theorem dX9_mark_74 : decode cX9_mark 74 = .ok (.aload_n 0, 1) := by decide +kernel
set_option maxRecDepth 100000 in
theorem dX9_mark_75 : decode cX9_mark 75 = .ok (.getfield 105, 3) := by decide +kernel
set_option maxRecDepth 100000 in
theorem dX9_mark_78 : decode cX9_mark 78 = .ok (.iload 4, 2) := by decide +kernel
set_option maxRecDepth 100000 in
theorem dX9_mark_80 : decode cX9_mark 80 = .ok (.iconst 1, 1) := by decide +kernel
set_option maxRecDepth 100000 in
theorem dX9_mark_81 : decode cX9_mark 81 = .ok (.isub, 1) := by decide +kernel
set_option maxRecDepth 100000 in
theorem dX9_mark_82 : decode cX9_mark 82 = .ok (.iaload, 1) := by decide +kernel
set_option maxRecDepth 100000 in
theorem dX9_mark_83 : decode cX9_mark 83 = .ok (.iconst 1, 1) := by decide +kernel
set_option maxRecDepth 100000 in
theorem dX9_mark_84 : decode cX9_mark 84 = .ok (.iadd, 1) := by decide +kernel
set_option maxRecDepth 100000 in
theorem dX9_mark_85 : decode cX9_mark 85 = .ok (.istore 5, 2) := by decide +kernel
set_option maxRecDepth 100000 in
theorem dX9_mark_87 : decode cX9_mark 87 = .ok (.iload 5, 2) := by decide +kernel
set_option maxRecDepth 100000 in
theorem dX9_mark_89 : decode cX9_mark 89 = .ok (.aload_n 0, 1) := by decide +kernel
set_option maxRecDepth 100000 in
theorem dX9_mark_90 : decode cX9_mark 90 = .ok (.getfield 105, 3) := by decide +kernel
set_option maxRecDepth 100000 in
theorem dX9_mark_93 : decode cX9_mark 93 = .ok (.iload 4, 2) := by decide +kernel
set_option maxRecDepth 100000 in
theorem dX9_mark_95 : decode cX9_mark 95 = .ok (.iaload, 1) := by decide +kernel
set_option maxRecDepth 100000 in
theorem dX9_mark_96 : decode cX9_mark 96 = .ok (.if_icmp .gt 15, 3) := by decide +kernel
set_option maxRecDepth 100000 in
theorem dX9_mark_99 : decode cX9_mark 99 = .ok (.iload 5, 2) := by decide +kernel
set_option maxRecDepth 100000 in
theorem dX9_mark_101 : decode cX9_mark 101 = .ok (.bipush 99, 2) := by decide +kernel
set_option maxRecDepth 100000 in
theorem dX9_mark_103 : decode cX9_mark 103 = .ok (.if_icmp .gt 8, 3) := by decide +kernel
set_option maxRecDepth 100000 in
theorem dX9_mark_106 : decode cX9_mark 106 = .ok (.iload 5, 2) := by decide +kernel
set_option maxRecDepth 100000 in
theorem dX9_mark_108 : decode cX9_mark 108 = .ok (.goto 4, 3) := by decide +kernel
set_option maxRecDepth 100000 in
theorem dX9_mark_111 : decode cX9_mark 111 = .ok (.iconst (-1), 1) := by decide +kernel
set_option maxRecDepth 100000 in
theorem dX9_mark_112 : decode cX9_mark 112 = .ok (.ireturn, 1) := by decide +kernel
set_option maxRecDepth 100000 in
theorem dX9_mended_0 : decode cX9_mended 0 = .ok (.aload_n 0, 1) := by decide +kernel
set_option maxRecDepth 100000 in
theorem dX9_mended_1 : decode cX9_mended 1 = .ok (.iload_n 1, 1) := by decide +kernel
set_option maxRecDepth 100000 in
theorem dX9_mended_2 : decode cX9_mended 2 = .ok (.invokevirtual 197, 3) := by decide +kernel
set_option maxRecDepth 100000 in
theorem dX9_mended_5 : decode cX9_mended 5 = .ok (.ifCond .eq 10, 3) := by decide +kernel
set_option maxRecDepth 100000 in
theorem dX9_mended_8 : decode cX9_mended 8 = .ok (.iload_n 2, 1) := by decide +kernel
set_option maxRecDepth 100000 in
theorem dX9_mended_9 : decode cX9_mended 9 = .ok (.invokestatic 203, 3) := by decide +kernel
set_option maxRecDepth 100000 in
theorem dX9_mended_12 : decode cX9_mended 12 = .ok (.ifCond .ne 6, 3) := by decide +kernel
set_option maxRecDepth 100000 in
theorem dX9_mended_15 : decode cX9_mended 15 = .ok (.bipush (-101), 2) := by decide +kernel
set_option maxRecDepth 100000 in
theorem dX9_mended_17 : decode cX9_mended 17 = .ok (.ireturn, 1) := by decide +kernel
set_option maxRecDepth 100000 in
theorem dX9_mended_18 : decode cX9_mended 18 = .ok (.iload_n 3, 1) := by decide +kernel
set_option maxRecDepth 100000 in
theorem dX9_mended_19 : decode cX9_mended 19 = .ok (.iconst 0, 1) := by decide +kernel
set_option maxRecDepth 100000 in
theorem dX9_mended_20 : decode cX9_mended 20 = .ok (.iconst 2, 1) := by decide +kernel
set_option maxRecDepth 100000 in
theorem dX9_mended_21 : decode cX9_mended 21 = .ok (.invokestatic 132, 3) := by decide +kernel
set_option maxRecDepth 100000 in
theorem dX9_mended_24 : decode cX9_mended 24 = .ok (.ifCond .eq 25, 3) := by decide +kernel
set_option maxRecDepth 100000 in
theorem dX9_mended_27 : decode cX9_mended 27 = .ok (.iload 4, 2) := by decide +kernel
set_option maxRecDepth 100000 in
theorem dX9_mended_29 : decode cX9_mended 29 = .ok (.iconst 1, 1) := by decide +kernel
set_option maxRecDepth 100000 in
theorem dX9_mended_30 : decode cX9_mended 30 = .ok (.bipush 30, 2) := by decide +kernel
set_option maxRecDepth 100000 in
theorem dX9_mended_32 : decode cX9_mended 32 = .ok (.invokestatic 132, 3) := by decide +kernel
set_option maxRecDepth 100000 in
theorem dX9_mended_35 : decode cX9_mended 35 = .ok (.ifCond .eq 14, 3) := by decide +kernel
set_option maxRecDepth 100000 in
theorem dX9_mended_38 : decode cX9_mended 38 = .ok (.iload 5, 2) := by decide +kernel
set_option maxRecDepth 100000 in
theorem dX9_mended_40 : decode cX9_mended 40 = .ok (.iconst 0, 1) := by decide +kernel
set_option maxRecDepth 100000 in
theorem dX9_mended_41 : decode cX9_mended 41 = .ok (.bipush 96, 2) := by decide +kernel
set_option maxRecDepth 100000 in
theorem dX9_mended_43 : decode cX9_mended 43 = .ok (.invokestatic 132, 3) := by decide +kernel
set_option maxRecDepth 100000 in
theorem dX9_mended_46 : decode cX9_mended 46 = .ok (.ifCond .ne 6, 3) := by decide +kernel
set_option maxRecDepth 100000 in
theorem dX9_mended_49 : decode cX9_mended 49 = .ok (.bipush (-102), 2) := by decide +kernel
set_option maxRecDepth 100000 in
theorem dX9_mended_51 : decode cX9_mended 51 = .ok (.ireturn, 1) := by decide +kernel
set_option maxRecDepth 100000 in
theorem dX9_mended_52 : decode cX9_mended 52 = .ok (.iconst 0, 1) := by decide +kernel
set_option maxRecDepth 100000 in
theorem dX9_mended_53 : decode cX9_mended 53 = .ok (.istore 6, 2) := by decide +kernel
set_option maxRecDepth 100000 in
theorem dX9_mended_55 : decode cX9_mended 55 = .ok (.iload 6, 2) := by decide +kernel
set_option maxRecDepth 100000 in
theorem dX9_mended_57 : decode cX9_mended 57 = .ok (.bipush 60, 2) := by decide +kernel
set_option maxRecDepth 100000 in
theorem dX9_mended_59 : decode cX9_mended 59 = .ok (.if_icmp .gt 106, 3) := by decide +kernel
set_option maxRecDepth 100000 in
theorem dX9_mended_62 : decode cX9_mended 62 = .ok (.aload_n 0, 1) := by decide +kernel
set_option maxRecDepth 100000 in
theorem dX9_mended_63 : decode cX9_mended 63 = .ok (.iload_n 1, 1) := by decide +kernel
set_option maxRecDepth 100000 in
theorem dX9_mended_64 : decode cX9_mended 64 = .ok (.iconst (-1), 1) := by decide +kernel
set_option maxRecDepth 100000 in
theorem dX9_mended_65 : decode cX9_mended 65 = .ok (.invokevirtual 270, 3) := by decide +kernel
set_option maxRecDepth 100000 in
theorem dX9_mended_68 : decode cX9_mended 68 = .ok (.iload_n 3, 1) := by decide +kernel
set_option maxRecDepth 100000 in
theorem dX9_mended_69 : decode cX9_mended 69 = .ok (.aload_n 0, 1) := by decide +kernel
set_option maxRecDepth 100000 in
theorem dX9_mended_70 : decode cX9_mended 70 = .ok (.getfield 7, 3) := by decide +kernel
set_option maxRecDepth 100000 in
theorem dX9_mended_73 : decode cX9_mended 73 = .ok (.iload_n 1, 1) := by decide +kernel
set_option maxRecDepth 100000 in
theorem dX9_mended_74 : decode cX9_mended 74 = .ok (.iaload, 1) := by decide +kernel
set_option maxRecDepth 100000 in
theorem dX9_mended_75 : decode cX9_mended 75 = .ok (.if_icmp .ge 17, 3) := by decide +kernel
set_option maxRecDepth 100000 in
theorem dX9_mended_78 : decode cX9_mended 78 = .ok (.aload_n 0, 1) := by decide +kernel
set_option maxRecDepth 100000 in
theorem dX9_mended_79 : decode cX9_mended 79 = .ok (.getfield 96, 3) := by decide +kernel
set_option maxRecDepth 100000 in
theorem dX9_mended_82 : decode cX9_mended 82 = .ok (.iload_n 3, 1) := by decide +kernel
set_option maxRecDepth 100000 in
theorem dX9_mended_83 : decode cX9_mended 83 = .ok (.dup2, 1) := by decide +kernel
set_option maxRecDepth 100000 in
theorem dX9_mended_84 : decode cX9_mended 84 = .ok (.iaload, 1) := by decide +kernel
set_option maxRecDepth 100000 in
theorem dX9_mended_85 : decode cX9_mended 85 = .ok (.iload 6, 2) := by decide +kernel
set_option maxRecDepth 100000 in
theorem dX9_mended_87 : decode cX9_mended 87 = .ok (.iload 4, 2) := by decide +kernel
set_option maxRecDepth 100000 in
theorem dX9_mended_89 : decode cX9_mended 89 = .ok (.idiv, 1) := by decide +kernel
set_option maxRecDepth 100000 in
theorem dX9_mended_90 : decode cX9_mended 90 = .ok (.iadd, 1) := by decide +kernel
set_option maxRecDepth 100000 in
theorem dX9_mended_91 : decode cX9_mended 91 = .ok (.iastore, 1) := by decide +kernel
set_option maxRecDepth 100000 in
theorem dX9_mended_92 : decode cX9_mended 92 = .ok (.aload_n 0, 1) := by decide +kernel
set_option maxRecDepth 100000 in
theorem dX9_mended_93 : decode cX9_mended 93 = .ok (.iload_n 1, 1) := by decide +kernel
set_option maxRecDepth 100000 in
theorem dX9_mended_94 : decode cX9_mended 94 = .ok (.iload_n 2, 1) := by decide +kernel
set_option maxRecDepth 100000 in
theorem dX9_mended_95 : decode cX9_mended 95 = .ok (.bipush 95, 2) := by decide +kernel
set_option maxRecDepth 100000 in
theorem dX9_mended_97 : decode cX9_mended 97 = .ok (.invokevirtual 274, 3) := by decide +kernel
set_option maxRecDepth 100000 in
theorem dX9_mended_100 : decode cX9_mended 100 = .ok (.iconst 0, 1) := by decide +kernel
set_option maxRecDepth 100000 in
theorem dX9_mended_101 : decode cX9_mended 101 = .ok (.istore 7, 2) := by decide +kernel
set_option maxRecDepth 100000 in
theorem dX9_mended_103 : decode cX9_mended 103 = .ok (.iconst 0, 1) := by decide +kernel
set_option maxRecDepth 100000 in
theorem dX9_mended_104 : decode cX9_mended 104 = .ok (.istore 8, 2) := by decide +kernel
set_option maxRecDepth 100000 in
theorem dX9_mended_106 : decode cX9_mended 106 = .ok (.iload 8, 2) := by decide +kernel
set_option maxRecDepth 100000 in
theorem dX9_mended_108 : decode cX9_mended 108 = .ok (.aload_n 0, 1) := by decide +kernel
set_option maxRecDepth 100000 in
theorem dX9_mended_109 : decode cX9_mended 109 = .ok (.getfield 31, 3) := by decide +kernel
set_option maxRecDepth 100000 in
theorem dX9_mended_112 : decode cX9_mended 112 = .ok (.iload_n 1, 1) := by decide +kernel
set_option maxRecDepth 100000 in
theorem dX9_mended_113 : decode cX9_mended 113 = .ok (.iaload, 1) := by decide +kernel
set_option maxRecDepth 100000 in
theorem dX9_mended_114 : decode cX9_mended 114 = .ok (.if_icmp .ge 37, 3) := by decide +kernel
set_option maxRecDepth 100000 in
theorem dX9_mended_117 : decode cX9_mended 117 = .ok (.iload 7, 2) := by decide +kernel
set_option maxRecDepth 100000 in
theorem dX9_mended_119 : decode cX9_mended 119 = .ok (.ifCond .ne 19, 3) := by decide +kernel
set_option maxRecDepth 100000 in
theorem dX9_mended_122 : decode cX9_mended 122 = .ok (.aload_n 0, 1) := by decide +kernel
set_option maxRecDepth 100000 in
theorem dX9_mended_123 : decode cX9_mended 123 = .ok (.iload_n 1, 1) := by decide +kernel
set_option maxRecDepth 100000 in
theorem dX9_mended_124 : decode cX9_mended 124 = .ok (.iload_n 2, 1) := by decide +kernel
set_option maxRecDepth 100000 in
theorem dX9_mended_125 : decode cX9_mended 125 = .ok (.iload 8, 2) := by decide +kernel
set_option maxRecDepth 100000 in
theorem dX9_mended_127 : decode cX9_mended 127 = .ok (.invokevirtual 286, 3) := by decide +kernel
set_option maxRecDepth 100000 in
theorem dX9_mended_130 : decode cX9_mended 130 = .ok (.invokestatic 290, 3) := by decide +kernel
set_option maxRecDepth 100000 in
theorem dX9_mended_133 : decode cX9_mended 133 = .ok (.iload 5, 2) := by decide +kernel
set_option maxRecDepth 100000 in
theorem dX9_mended_135 : decode cX9_mended 135 = .ok (.if_icmp .le 7, 3) := by decide +kernel
set_option maxRecDepth 100000 in
theorem dX9_mended_138 : decode cX9_mended 138 = .ok (.iconst 1, 1) := by decide +kernel
set_option maxRecDepth 100000 in
theorem dX9_mended_139 : decode cX9_mended 139 = .ok (.goto 4, 3) := by decide +kernel
set_option maxRecDepth 100000 in
theorem dX9_mended_142 : decode cX9_mended 142 = .ok (.iconst 0, 1) := by decide +kernel
set_option maxRecDepth 100000 in
theorem dX9_mended_143 : decode cX9_mended 143 = .ok (.istore 7, 2) := by decide +kernel
set_option maxRecDepth 100000 in
theorem dX9_mended_145 : decode cX9_mended 145 = .ok (.iinc 8 1, 3) := by decide +kernel
set_option maxRecDepth 100000 in
theorem dX9_mended_148 : decode cX9_mended 148 = .ok (.goto (-42), 3) := by decide +kernel
set_option maxRecDepth 100000 in
theorem dX9_mended_151 : decode cX9_mended 151 = .ok (.iload 7, 2) := by decide +kernel
set_option maxRecDepth 100000 in
theorem dX9_mended_153 : decode cX9_mended 153 = .ok (.ifCond .eq 6, 3) := by decide +kernel
set_option maxRecDepth 100000 in
theorem dX9_mended_156 : decode cX9_mended 156 = .ok (.iload 6, 2) := by decide +kernel
set_option maxRecDepth 100000 in
theorem dX9_mended_158 : decode cX9_mended 158 = .ok (.ireturn, 1) := by decide +kernel
set_option maxRecDepth 100000 in
theorem dX9_mended_159 : decode cX9_mended 159 = .ok (.iinc 6 1, 3) := by decide +kernel
set_option maxRecDepth 100000 in
theorem dX9_mended_162 : decode cX9_mended 162 = .ok (.goto (-107), 3) := by decide +kernel
set_option maxRecDepth 100000 in
theorem dX9_mended_165 : decode cX9_mended 165 = .ok (.iconst (-1), 1) := by decide +kernel
set_option maxRecDepth 100000 in
theorem dX9_mended_166 : decode cX9_mended 166 = .ok (.ireturn, 1) := by decide +kernel
set_option maxRecDepth 100000 in
theorem dX9_log_0 : decode cX9_log 0 = .ok (.iload_n 1, 1) := by decide +kernel
set_option maxRecDepth 100000 in
theorem dX9_log_1 : decode cX9_log 1 = .ok (.iconst 0, 1) := by decide +kernel
set_option maxRecDepth 100000 in
theorem dX9_log_2 : decode cX9_log 2 = .ok (.bipush 11, 2) := by decide +kernel
set_option maxRecDepth 100000 in
theorem dX9_log_4 : decode cX9_log 4 = .ok (.invokestatic 132, 3) := by decide +kernel
set_option maxRecDepth 100000 in
theorem dX9_log_7 : decode cX9_log 7 = .ok (.ifCond .ne 6, 3) := by decide +kernel
set_option maxRecDepth 100000 in
theorem dX9_log_10 : decode cX9_log 10 = .ok (.bipush (-101), 2) := by decide +kernel
set_option maxRecDepth 100000 in
theorem dX9_log_12 : decode cX9_log 12 = .ok (.ireturn, 1) := by decide +kernel
set_option maxRecDepth 100000 in
theorem dX9_log_13 : decode cX9_log 13 = .ok (.iload_n 2, 1) := by decide +kernel
set_option maxRecDepth 100000 in
theorem dX9_log_14 : decode cX9_log 14 = .ok (.iconst (-1), 1) := by decide +kernel
set_option maxRecDepth 100000 in
theorem dX9_log_15 : decode cX9_log 15 = .ok (.bipush 96, 2) := by decide +kernel
set_option maxRecDepth 100000 in
theorem dX9_log_17 : decode cX9_log 17 = .ok (.invokestatic 132, 3) := by decide +kernel
set_option maxRecDepth 100000 in
theorem dX9_log_20 : decode cX9_log 20 = .ok (.ifCond .ne 6, 3) := by decide +kernel
set_option maxRecDepth 100000 in
theorem dX9_log_23 : decode cX9_log 23 = .ok (.bipush (-102), 2) := by decide +kernel
set_option maxRecDepth 100000 in
theorem dX9_log_25 : decode cX9_log 25 = .ok (.ireturn, 1) := by decide +kernel
set_option maxRecDepth 100000 in
theorem dX9_log_26 : decode cX9_log 26 = .ok (.aload_n 0, 1) := by decide +kernel
set_option maxRecDepth 100000 in
theorem dX9_log_27 : decode cX9_log 27 = .ok (.getfield 68, 3) := by decide +kernel
set_option maxRecDepth 100000 in
theorem dX9_log_30 : decode cX9_log 30 = .ok (.iload_n 1, 1) := by decide +kernel
set_option maxRecDepth 100000 in
theorem dX9_log_31 : decode cX9_log 31 = .ok (.iaload, 1) := by decide +kernel
set_option maxRecDepth 100000 in
theorem dX9_log_32 : decode cX9_log 32 = .ok (.istore_n 3, 1) := by decide +kernel
set_option maxRecDepth 100000 in
theorem dX9_log_33 : decode cX9_log 33 = .ok (.aload_n 0, 1) := by decide +kernel
set_option maxRecDepth 100000 in
theorem dX9_log_34 : decode cX9_log 34 = .ok (.getfield 68, 3) := by decide +kernel
set_option maxRecDepth 100000 in
theorem dX9_log_37 : decode cX9_log 37 = .ok (.iload_n 1, 1) := by decide +kernel
set_option maxRecDepth 100000 in
theorem dX9_log_38 : decode cX9_log 38 = .ok (.iload_n 2, 1) := by decide +kernel
set_option maxRecDepth 100000 in
theorem dX9_log_39 : decode cX9_log 39 = .ok (.iastore, 1) := by decide +kernel
set_option maxRecDepth 100000 in
theorem dX9_log_40 : decode cX9_log 40 = .ok (.iload_n 3, 1) := by decide +kernel
set_option maxRecDepth 100000 in
theorem dX9_log_41 : decode cX9_log 41 = .ok (.ireturn, 1) := by decide +kernel
set_option maxRecDepth 100000 in
theorem dX9_agreesNow_0 : decode cX9_agreesNow 0 = .ok (.iconst 1, 1) := by decide +kernel
set_option maxRecDepth 100000 in
theorem dX9_agreesNow_1 : decode cX9_agreesNow 1 = .ok (.istore_n 2, 1) := by decide +kernel
set_option maxRecDepth 100000 in
theorem dX9_agreesNow_2 : decode cX9_agreesNow 2 = .ok (.iconst 0, 1) := by decide +kernel
set_option maxRecDepth 100000 in
theorem dX9_agreesNow_3 : decode cX9_agreesNow 3 = .ok (.istore_n 3, 1) := by decide +kernel
set_option maxRecDepth 100000 in
theorem dX9_agreesNow_4 : decode cX9_agreesNow 4 = .ok (.iload_n 3, 1) := by decide +kernel
set_option maxRecDepth 100000 in
theorem dX9_agreesNow_5 : decode cX9_agreesNow 5 = .ok (.bipush 12, 2) := by decide +kernel
set_option maxRecDepth 100000 in
theorem dX9_agreesNow_7 : decode cX9_agreesNow 7 = .ok (.if_icmp .ge 54, 3) := by decide +kernel
set_option maxRecDepth 100000 in
theorem dX9_agreesNow_10 : decode cX9_agreesNow 10 = .ok (.iload_n 2, 1) := by decide +kernel
set_option maxRecDepth 100000 in
theorem dX9_agreesNow_11 : decode cX9_agreesNow 11 = .ok (.ifCond .eq 42, 3) := by decide +kernel
set_option maxRecDepth 100000 in
theorem dX9_agreesNow_14 : decode cX9_agreesNow 14 = .ok (.aload_n 0, 1) := by decide +kernel
set_option maxRecDepth 100000 in
theorem dX9_agreesNow_15 : decode cX9_agreesNow 15 = .ok (.getfield 68, 3) := by decide +kernel
set_option maxRecDepth 100000 in
theorem dX9_agreesNow_18 : decode cX9_agreesNow 18 = .ok (.iload_n 3, 1) := by decide +kernel
set_option maxRecDepth 100000 in
theorem dX9_agreesNow_19 : decode cX9_agreesNow 19 = .ok (.iaload, 1) := by decide +kernel
set_option maxRecDepth 100000 in
theorem dX9_agreesNow_20 : decode cX9_agreesNow 20 = .ok (.iconst (-1), 1) := by decide +kernel
set_option maxRecDepth 100000 in
theorem dX9_agreesNow_21 : decode cX9_agreesNow 21 = .ok (.if_icmp .eq 28, 3) := by decide +kernel
set_option maxRecDepth 100000 in
theorem dX9_agreesNow_24 : decode cX9_agreesNow 24 = .ok (.iload_n 3, 1) := by decide +kernel
set_option maxRecDepth 100000 in
theorem dX9_agreesNow_25 : decode cX9_agreesNow 25 = .ok (.aload_n 0, 1) := by decide +kernel
set_option maxRecDepth 100000 in
theorem dX9_agreesNow_26 : decode cX9_agreesNow 26 = .ok (.getfield 31, 3) := by decide +kernel
set_option maxRecDepth 100000 in
theorem dX9_agreesNow_29 : decode cX9_agreesNow 29 = .ok (.iload_n 1, 1) := by decide +kernel
set_option maxRecDepth 100000 in
theorem dX9_agreesNow_30 : decode cX9_agreesNow 30 = .ok (.iaload, 1) := by decide +kernel
set_option maxRecDepth 100000 in
theorem dX9_agreesNow_31 : decode cX9_agreesNow 31 = .ok (.if_icmp .ge 22, 3) := by decide +kernel
set_option maxRecDepth 100000 in
theorem dX9_agreesNow_34 : decode cX9_agreesNow 34 = .ok (.aload_n 0, 1) := by decide +kernel
set_option maxRecDepth 100000 in
theorem dX9_agreesNow_35 : decode cX9_agreesNow 35 = .ok (.getfield 102, 3) := by decide +kernel
set_option maxRecDepth 100000 in
theorem dX9_agreesNow_38 : decode cX9_agreesNow 38 = .ok (.iload_n 3, 1) := by decide +kernel
set_option maxRecDepth 100000 in
theorem dX9_agreesNow_39 : decode cX9_agreesNow 39 = .ok (.iaload, 1) := by decide +kernel
set_option maxRecDepth 100000 in
theorem dX9_agreesNow_40 : decode cX9_agreesNow 40 = .ok (.aload_n 0, 1) := by decide +kernel
set_option maxRecDepth 100000 in
theorem dX9_agreesNow_41 : decode cX9_agreesNow 41 = .ok (.getfield 68, 3) := by decide +kernel
set_option maxRecDepth 100000 in
theorem dX9_agreesNow_44 : decode cX9_agreesNow 44 = .ok (.iload_n 3, 1) := by decide +kernel
set_option maxRecDepth 100000 in
theorem dX9_agreesNow_45 : decode cX9_agreesNow 45 = .ok (.iaload, 1) := by decide +kernel
set_option maxRecDepth 100000 in
theorem dX9_agreesNow_46 : decode cX9_agreesNow 46 = .ok (.if_icmp .ne 7, 3) := by decide +kernel
set_option maxRecDepth 100000 in
theorem dX9_agreesNow_49 : decode cX9_agreesNow 49 = .ok (.iconst 1, 1) := by decide +kernel
set_option maxRecDepth 100000 in
theorem dX9_agreesNow_50 : decode cX9_agreesNow 50 = .ok (.goto 4, 3) := by decide +kernel
set_option maxRecDepth 100000 in
theorem dX9_agreesNow_53 : decode cX9_agreesNow 53 = .ok (.iconst 0, 1) := by decide +kernel
set_option maxRecDepth 100000 in
theorem dX9_agreesNow_54 : decode cX9_agreesNow 54 = .ok (.istore_n 2, 1) := by decide +kernel
set_option maxRecDepth 100000 in
theorem dX9_agreesNow_55 : decode cX9_agreesNow 55 = .ok (.iinc 3 1, 3) := by decide +kernel
set_option maxRecDepth 100000 in
theorem dX9_agreesNow_58 : decode cX9_agreesNow 58 = .ok (.goto (-54), 3) := by decide +kernel
set_option maxRecDepth 100000 in
theorem dX9_agreesNow_61 : decode cX9_agreesNow 61 = .ok (.iload_n 2, 1) := by decide +kernel
set_option maxRecDepth 100000 in
theorem dX9_agreesNow_62 : decode cX9_agreesNow 62 = .ok (.ireturn, 1) := by decide +kernel
set_option maxRecDepth 100000 in
theorem dX9_agrees_0 : decode cX9_agrees 0 = .ok (.aload_n 0, 1) := by decide +kernel
set_option maxRecDepth 100000 in
theorem dX9_agrees_1 : decode cX9_agrees 1 = .ok (.iload_n 1, 1) := by decide +kernel
set_option maxRecDepth 100000 in
theorem dX9_agrees_2 : decode cX9_agrees 2 = .ok (.iload_n 2, 1) := by decide +kernel
set_option maxRecDepth 100000 in
theorem dX9_agrees_3 : decode cX9_agrees 3 = .ok (.iload_n 3, 1) := by decide +kernel
set_option maxRecDepth 100000 in
theorem dX9_agrees_4 : decode cX9_agrees 4 = .ok (.invokevirtual 277, 3) := by decide +kernel
set_option maxRecDepth 100000 in
theorem dX9_agrees_7 : decode cX9_agrees 7 = .ok (.ifCond .ne 6, 3) := by decide +kernel
set_option maxRecDepth 100000 in
theorem dX9_agrees_10 : decode cX9_agrees 10 = .ok (.bipush (-101), 2) := by decide +kernel
set_option maxRecDepth 100000 in
theorem dX9_agrees_12 : decode cX9_agrees 12 = .ok (.ireturn, 1) := by decide +kernel
set_option maxRecDepth 100000 in
theorem dX9_agrees_13 : decode cX9_agrees 13 = .ok (.aload_n 0, 1) := by decide +kernel
set_option maxRecDepth 100000 in
theorem dX9_agrees_14 : decode cX9_agrees 14 = .ok (.iload_n 1, 1) := by decide +kernel
set_option maxRecDepth 100000 in
theorem dX9_agrees_15 : decode cX9_agrees 15 = .ok (.iload_n 2, 1) := by decide +kernel
set_option maxRecDepth 100000 in
theorem dX9_agrees_16 : decode cX9_agrees 16 = .ok (.iload_n 3, 1) := by decide +kernel
set_option maxRecDepth 100000 in
theorem dX9_agrees_17 : decode cX9_agrees 17 = .ok (.invokevirtual 280, 3) := by decide +kernel
set_option maxRecDepth 100000 in
theorem dX9_agrees_20 : decode cX9_agrees 20 = .ok (.aload_n 0, 1) := by decide +kernel
set_option maxRecDepth 100000 in
theorem dX9_agrees_21 : decode cX9_agrees 21 = .ok (.iload_n 1, 1) := by decide +kernel
set_option maxRecDepth 100000 in
theorem dX9_agrees_22 : decode cX9_agrees 22 = .ok (.invokevirtual 338, 3) := by decide +kernel
set_option maxRecDepth 100000 in
theorem dX9_agrees_25 : decode cX9_agrees 25 = .ok (.ifCond .eq 7, 3) := by decide +kernel
set_option maxRecDepth 100000 in
theorem dX9_agrees_28 : decode cX9_agrees 28 = .ok (.iconst 1, 1) := by decide +kernel
set_option maxRecDepth 100000 in
theorem dX9_agrees_29 : decode cX9_agrees 29 = .ok (.goto 4, 3) := by decide +kernel
set_option maxRecDepth 100000 in
theorem dX9_agrees_32 : decode cX9_agrees 32 = .ok (.iconst 0, 1) := by decide +kernel
set_option maxRecDepth 100000 in
theorem dX9_agrees_33 : decode cX9_agrees 33 = .ok (.ireturn, 1) := by decide +kernel
set_option maxRecDepth 100000 in
theorem dX9_which_0 : decode cX9_which 0 = .ok (.aload_n 0, 1) := by decide +kernel
set_option maxRecDepth 100000 in
theorem dX9_which_1 : decode cX9_which 1 = .ok (.iload_n 1, 1) := by decide +kernel
set_option maxRecDepth 100000 in
theorem dX9_which_2 : decode cX9_which 2 = .ok (.iload_n 2, 1) := by decide +kernel
set_option maxRecDepth 100000 in
theorem dX9_which_3 : decode cX9_which 3 = .ok (.iconst (-1), 1) := by decide +kernel
set_option maxRecDepth 100000 in
theorem dX9_which_4 : decode cX9_which 4 = .ok (.invokevirtual 277, 3) := by decide +kernel
set_option maxRecDepth 100000 in
theorem dX9_which_7 : decode cX9_which 7 = .ok (.ifCond .ne 6, 3) := by decide +kernel
set_option maxRecDepth 100000 in
theorem dX9_which_10 : decode cX9_which 10 = .ok (.bipush (-101), 2) := by decide +kernel
set_option maxRecDepth 100000 in
theorem dX9_which_12 : decode cX9_which 12 = .ok (.ireturn, 1) := by decide +kernel
set_option maxRecDepth 100000 in
theorem dX9_which_13 : decode cX9_which 13 = .ok (.aload_n 0, 1) := by decide +kernel
set_option maxRecDepth 100000 in
theorem dX9_which_14 : decode cX9_which 14 = .ok (.iload_n 1, 1) := by decide +kernel
set_option maxRecDepth 100000 in
theorem dX9_which_15 : decode cX9_which 15 = .ok (.iload_n 2, 1) := by decide +kernel
set_option maxRecDepth 100000 in
theorem dX9_which_16 : decode cX9_which 16 = .ok (.iconst (-1), 1) := by decide +kernel
set_option maxRecDepth 100000 in
theorem dX9_which_17 : decode cX9_which 17 = .ok (.invokevirtual 280, 3) := by decide +kernel
set_option maxRecDepth 100000 in
theorem dX9_which_20 : decode cX9_which 20 = .ok (.aload_n 0, 1) := by decide +kernel
set_option maxRecDepth 100000 in
theorem dX9_which_21 : decode cX9_which 21 = .ok (.iload_n 1, 1) := by decide +kernel
set_option maxRecDepth 100000 in
theorem dX9_which_22 : decode cX9_which 22 = .ok (.invokevirtual 338, 3) := by decide +kernel
set_option maxRecDepth 100000 in
theorem dX9_which_25 : decode cX9_which 25 = .ok (.ifCond .eq 9, 3) := by decide +kernel
set_option maxRecDepth 100000 in
theorem dX9_which_28 : decode cX9_which 28 = .ok (.sipush 256, 3) := by decide +kernel
set_option maxRecDepth 100000 in
theorem dX9_which_31 : decode cX9_which 31 = .ok (.goto 4, 3) := by decide +kernel
set_option maxRecDepth 100000 in
theorem dX9_which_34 : decode cX9_which 34 = .ok (.iconst 0, 1) := by decide +kernel
set_option maxRecDepth 100000 in
theorem dX9_which_35 : decode cX9_which 35 = .ok (.istore_n 3, 1) := by decide +kernel
set_option maxRecDepth 100000 in
theorem dX9_which_36 : decode cX9_which 36 = .ok (.iconst 0, 1) := by decide +kernel
set_option maxRecDepth 100000 in
theorem dX9_which_37 : decode cX9_which 37 = .ok (.istore 4, 2) := by decide +kernel
set_option maxRecDepth 100000 in
theorem dX9_which_39 : decode cX9_which 39 = .ok (.iload 4, 2) := by decide +kernel
set_option maxRecDepth 100000 in
theorem dX9_which_41 : decode cX9_which 41 = .ok (.aload_n 0, 1) := by decide +kernel
set_option maxRecDepth 100000 in
theorem dX9_which_42 : decode cX9_which 42 = .ok (.getfield 191, 3) := by decide +kernel
set_option maxRecDepth 100000 in
theorem dX9_which_45 : decode cX9_which 45 = .ok (.if_icmp .ge 36, 3) := by decide +kernel
set_option maxRecDepth 100000 in
theorem dX9_which_48 : decode cX9_which 48 = .ok (.aload_n 0, 1) := by decide +kernel
set_option maxRecDepth 100000 in
theorem dX9_which_49 : decode cX9_which 49 = .ok (.iload_n 1, 1) := by decide +kernel
set_option maxRecDepth 100000 in
theorem dX9_which_50 : decode cX9_which 50 = .ok (.iload_n 2, 1) := by decide +kernel
set_option maxRecDepth 100000 in
theorem dX9_which_51 : decode cX9_which 51 = .ok (.iload 4, 2) := by decide +kernel
set_option maxRecDepth 100000 in
theorem dX9_which_53 : decode cX9_which 53 = .ok (.invokevirtual 280, 3) := by decide +kernel
set_option maxRecDepth 100000 in
theorem dX9_which_56 : decode cX9_which 56 = .ok (.iload_n 3, 1) := by decide +kernel
set_option maxRecDepth 100000 in
theorem dX9_which_57 : decode cX9_which 57 = .ok (.aload_n 0, 1) := by decide +kernel
set_option maxRecDepth 100000 in
theorem dX9_which_58 : decode cX9_which 58 = .ok (.iload_n 1, 1) := by decide +kernel
set_option maxRecDepth 100000 in
theorem dX9_which_59 : decode cX9_which 59 = .ok (.invokevirtual 338, 3) := by decide +kernel
set_option maxRecDepth 100000 in
theorem dX9_which_62 : decode cX9_which 62 = .ok (.ifCond .eq 10, 3) := by decide +kernel
set_option maxRecDepth 100000 in
theorem dX9_which_65 : decode cX9_which 65 = .ok (.iconst 1, 1) := by decide +kernel
set_option maxRecDepth 100000 in
theorem dX9_which_66 : decode cX9_which 66 = .ok (.iload 4, 2) := by decide +kernel
set_option maxRecDepth 100000 in
theorem dX9_which_68 : decode cX9_which 68 = .ok (.ishl, 1) := by decide +kernel
set_option maxRecDepth 100000 in
theorem dX9_which_69 : decode cX9_which 69 = .ok (.goto 4, 3) := by decide +kernel
set_option maxRecDepth 100000 in
theorem dX9_which_72 : decode cX9_which 72 = .ok (.iconst 0, 1) := by decide +kernel
set_option maxRecDepth 100000 in
theorem dX9_which_73 : decode cX9_which 73 = .ok (.ior, 1) := by decide +kernel
set_option maxRecDepth 100000 in
theorem dX9_which_74 : decode cX9_which 74 = .ok (.istore_n 3, 1) := by decide +kernel
set_option maxRecDepth 100000 in
theorem dX9_which_75 : decode cX9_which 75 = .ok (.iinc 4 1, 3) := by decide +kernel
set_option maxRecDepth 100000 in
theorem dX9_which_78 : decode cX9_which 78 = .ok (.goto (-39), 3) := by decide +kernel
set_option maxRecDepth 100000 in
theorem dX9_which_81 : decode cX9_which 81 = .ok (.iload_n 3, 1) := by decide +kernel
set_option maxRecDepth 100000 in
theorem dX9_which_82 : decode cX9_which 82 = .ok (.ireturn, 1) := by decide +kernel
set_option maxRecDepth 100000 in
theorem dX9_sought_0 : decode cX9_sought 0 = .ok (.aload_n 0, 1) := by decide +kernel
set_option maxRecDepth 100000 in
theorem dX9_sought_1 : decode cX9_sought 1 = .ok (.iload_n 1, 1) := by decide +kernel
set_option maxRecDepth 100000 in
theorem dX9_sought_2 : decode cX9_sought 2 = .ok (.iload_n 2, 1) := by decide +kernel
set_option maxRecDepth 100000 in
theorem dX9_sought_3 : decode cX9_sought 3 = .ok (.iconst (-1), 1) := by decide +kernel
set_option maxRecDepth 100000 in
theorem dX9_sought_4 : decode cX9_sought 4 = .ok (.invokevirtual 277, 3) := by decide +kernel
set_option maxRecDepth 100000 in
theorem dX9_sought_7 : decode cX9_sought 7 = .ok (.ifCond .ne 6, 3) := by decide +kernel
set_option maxRecDepth 100000 in
theorem dX9_sought_10 : decode cX9_sought 10 = .ok (.bipush (-101), 2) := by decide +kernel
set_option maxRecDepth 100000 in
theorem dX9_sought_12 : decode cX9_sought 12 = .ok (.ireturn, 1) := by decide +kernel
set_option maxRecDepth 100000 in
theorem dX9_sought_13 : decode cX9_sought 13 = .ok (.iload_n 3, 1) := by decide +kernel
set_option maxRecDepth 100000 in
theorem dX9_sought_14 : decode cX9_sought 14 = .ok (.iconst 1, 1) := by decide +kernel
set_option maxRecDepth 100000 in
theorem dX9_sought_15 : decode cX9_sought 15 = .ok (.iconst 4, 1) := by decide +kernel
set_option maxRecDepth 100000 in
theorem dX9_sought_16 : decode cX9_sought 16 = .ok (.invokestatic 132, 3) := by decide +kernel
set_option maxRecDepth 100000 in
theorem dX9_sought_19 : decode cX9_sought 19 = .ok (.ifCond .eq 23, 3) := by decide +kernel
set_option maxRecDepth 100000 in
theorem dX9_sought_22 : decode cX9_sought 22 = .ok (.iload 4, 2) := by decide +kernel
set_option maxRecDepth 100000 in
theorem dX9_sought_24 : decode cX9_sought 24 = .ok (.iconst 0, 1) := by decide +kernel
set_option maxRecDepth 100000 in
theorem dX9_sought_25 : decode cX9_sought 25 = .ok (.iconst 2, 1) := by decide +kernel
set_option maxRecDepth 100000 in
theorem dX9_sought_26 : decode cX9_sought 26 = .ok (.invokestatic 132, 3) := by decide +kernel
set_option maxRecDepth 100000 in
theorem dX9_sought_29 : decode cX9_sought 29 = .ok (.ifCond .eq 13, 3) := by decide +kernel
set_option maxRecDepth 100000 in
theorem dX9_sought_32 : decode cX9_sought 32 = .ok (.iload 5, 2) := by decide +kernel
set_option maxRecDepth 100000 in
theorem dX9_sought_34 : decode cX9_sought 34 = .ok (.iconst 0, 1) := by decide +kernel
set_option maxRecDepth 100000 in
theorem dX9_sought_35 : decode cX9_sought 35 = .ok (.iconst 3, 1) := by decide +kernel
set_option maxRecDepth 100000 in
theorem dX9_sought_36 : decode cX9_sought 36 = .ok (.invokestatic 132, 3) := by decide +kernel
set_option maxRecDepth 100000 in
theorem dX9_sought_39 : decode cX9_sought 39 = .ok (.ifCond .ne 6, 3) := by decide +kernel
set_option maxRecDepth 100000 in
theorem dX9_sought_42 : decode cX9_sought 42 = .ok (.bipush (-102), 2) := by decide +kernel
set_option maxRecDepth 100000 in
theorem dX9_sought_44 : decode cX9_sought 44 = .ok (.ireturn, 1) := by decide +kernel
set_option maxRecDepth 100000 in
theorem dX9_sought_45 : decode cX9_sought 45 = .ok (.aload_n 0, 1) := by decide +kernel
set_option maxRecDepth 100000 in
theorem dX9_sought_46 : decode cX9_sought 46 = .ok (.getfield 341, 3) := by decide +kernel
set_option maxRecDepth 100000 in
theorem dX9_sought_49 : decode cX9_sought 49 = .ok (.bipush 20, 2) := by decide +kernel
set_option maxRecDepth 100000 in
theorem dX9_sought_51 : decode cX9_sought 51 = .ok (.if_icmp .ne 6, 3) := by decide +kernel
set_option maxRecDepth 100000 in
theorem dX9_sought_54 : decode cX9_sought 54 = .ok (.bipush (-103), 2) := by decide +kernel
set_option maxRecDepth 100000 in
theorem dX9_sought_56 : decode cX9_sought 56 = .ok (.ireturn, 1) := by decide +kernel
set_option maxRecDepth 100000 in
theorem dX9_sought_57 : decode cX9_sought 57 = .ok (.aload_n 0, 1) := by decide +kernel
set_option maxRecDepth 100000 in
theorem dX9_sought_58 : decode cX9_sought 58 = .ok (.dup, 1) := by decide +kernel
set_option maxRecDepth 100000 in
theorem dX9_sought_59 : decode cX9_sought 59 = .ok (.getfield 341, 3) := by decide +kernel
set_option maxRecDepth 100000 in
theorem dX9_sought_62 : decode cX9_sought 62 = .ok (.iconst 1, 1) := by decide +kernel
set_option maxRecDepth 100000 in
theorem dX9_sought_63 : decode cX9_sought 63 = .ok (.iadd, 1) := by decide +kernel
set_option maxRecDepth 100000 in
theorem dX9_sought_64 : decode cX9_sought 64 = .ok (.putfield 341, 3) := by decide +kernel
set_option maxRecDepth 100000 in
theorem dX9_sought_67 : decode cX9_sought 67 = .ok (.iconst 0, 1) := by decide +kernel
set_option maxRecDepth 100000 in
theorem dX9_sought_68 : decode cX9_sought 68 = .ok (.istore 6, 2) := by decide +kernel
set_option maxRecDepth 100000 in
theorem dX9_sought_70 : decode cX9_sought 70 = .ok (.iconst (-1), 1) := by decide +kernel
set_option maxRecDepth 100000 in
theorem dX9_sought_71 : decode cX9_sought 71 = .ok (.istore 7, 2) := by decide +kernel
set_option maxRecDepth 100000 in
theorem dX9_sought_73 : decode cX9_sought 73 = .ok (.iconst (-1), 1) := by decide +kernel
set_option maxRecDepth 100000 in
theorem dX9_sought_74 : decode cX9_sought 74 = .ok (.istore 8, 2) := by decide +kernel
set_option maxRecDepth 100000 in
theorem dX9_sought_76 : decode cX9_sought 76 = .ok (.iconst (-1), 1) := by decide +kernel
set_option maxRecDepth 100000 in
theorem dX9_sought_77 : decode cX9_sought 77 = .ok (.istore 9, 2) := by decide +kernel
set_option maxRecDepth 100000 in
theorem dX9_sought_79 : decode cX9_sought 79 = .ok (.iconst 1, 1) := by decide +kernel
set_option maxRecDepth 100000 in
theorem dX9_sought_80 : decode cX9_sought 80 = .ok (.istore 10, 2) := by decide +kernel
set_option maxRecDepth 100000 in
theorem dX9_sought_82 : decode cX9_sought 82 = .ok (.iload 10, 2) := by decide +kernel
set_option maxRecDepth 100000 in
theorem dX9_sought_84 : decode cX9_sought 84 = .ok (.bipush 20, 2) := by decide +kernel
set_option maxRecDepth 100000 in
theorem dX9_sought_86 : decode cX9_sought 86 = .ok (.if_icmp .gt 105, 3) := by decide +kernel
set_option maxRecDepth 100000 in
theorem dX9_sought_89 : decode cX9_sought 89 = .ok (.iconst 0, 1) := by decide +kernel
set_option maxRecDepth 100000 in
theorem dX9_sought_90 : decode cX9_sought 90 = .ok (.istore 11, 2) := by decide +kernel
set_option maxRecDepth 100000 in
theorem dX9_sought_92 : decode cX9_sought 92 = .ok (.iload 11, 2) := by decide +kernel
set_option maxRecDepth 100000 in
theorem dX9_sought_94 : decode cX9_sought 94 = .ok (.bipush 96, 2) := by decide +kernel
set_option maxRecDepth 100000 in
theorem dX9_sought_96 : decode cX9_sought 96 = .ok (.if_icmp .ge 89, 3) := by decide +kernel
set_option maxRecDepth 100000 in
theorem dX9_sought_99 : decode cX9_sought 99 = .ok (.aload_n 0, 1) := by decide +kernel
set_option maxRecDepth 100000 in
theorem dX9_sought_100 : decode cX9_sought 100 = .ok (.iload_n 1, 1) := by decide +kernel
set_option maxRecDepth 100000 in
theorem dX9_sought_101 : decode cX9_sought 101 = .ok (.iconst (-1), 1) := by decide +kernel
set_option maxRecDepth 100000 in
theorem dX9_sought_102 : decode cX9_sought 102 = .ok (.invokevirtual 270, 3) := by decide +kernel
set_option maxRecDepth 100000 in
theorem dX9_sought_105 : decode cX9_sought 105 = .ok (.aload_n 0, 1) := by decide +kernel
set_option maxRecDepth 100000 in
theorem dX9_sought_106 : decode cX9_sought 106 = .ok (.iload_n 3, 1) := by decide +kernel
set_option maxRecDepth 100000 in
theorem dX9_sought_107 : decode cX9_sought 107 = .ok (.putfield 224, 3) := by decide +kernel
set_option maxRecDepth 100000 in
theorem dX9_sought_110 : decode cX9_sought 110 = .ok (.aload_n 0, 1) := by decide +kernel
set_option maxRecDepth 100000 in
theorem dX9_sought_111 : decode cX9_sought 111 = .ok (.iload 4, 2) := by decide +kernel
set_option maxRecDepth 100000 in
theorem dX9_sought_113 : decode cX9_sought 113 = .ok (.putfield 227, 3) := by decide +kernel
set_option maxRecDepth 100000 in
theorem dX9_sought_116 : decode cX9_sought 116 = .ok (.aload_n 0, 1) := by decide +kernel
set_option maxRecDepth 100000 in
theorem dX9_sought_117 : decode cX9_sought 117 = .ok (.iload 10, 2) := by decide +kernel
set_option maxRecDepth 100000 in
theorem dX9_sought_119 : decode cX9_sought 119 = .ok (.putfield 230, 3) := by decide +kernel
set_option maxRecDepth 100000 in
theorem dX9_sought_122 : decode cX9_sought 122 = .ok (.aload_n 0, 1) := by decide +kernel
set_option maxRecDepth 100000 in
theorem dX9_sought_123 : decode cX9_sought 123 = .ok (.iload 11, 2) := by decide +kernel
set_option maxRecDepth 100000 in
theorem dX9_sought_125 : decode cX9_sought 125 = .ok (.putfield 233, 3) := by decide +kernel
set_option maxRecDepth 100000 in
theorem dX9_sought_128 : decode cX9_sought 128 = .ok (.aload_n 0, 1) := by decide +kernel
set_option maxRecDepth 100000 in
theorem dX9_sought_129 : decode cX9_sought 129 = .ok (.iload_n 1, 1) := by decide +kernel
set_option maxRecDepth 100000 in
theorem dX9_sought_130 : decode cX9_sought 130 = .ok (.iload_n 2, 1) := by decide +kernel
set_option maxRecDepth 100000 in
theorem dX9_sought_131 : decode cX9_sought 131 = .ok (.bipush 95, 2) := by decide +kernel
set_option maxRecDepth 100000 in
theorem dX9_sought_133 : decode cX9_sought 133 = .ok (.invokevirtual 274, 3) := by decide +kernel
set_option maxRecDepth 100000 in
theorem dX9_sought_136 : decode cX9_sought 136 = .ok (.aload_n 0, 1) := by decide +kernel
set_option maxRecDepth 100000 in
theorem dX9_sought_137 : decode cX9_sought 137 = .ok (.iload_n 1, 1) := by decide +kernel
set_option maxRecDepth 100000 in
theorem dX9_sought_138 : decode cX9_sought 138 = .ok (.invokevirtual 338, 3) := by decide +kernel
set_option maxRecDepth 100000 in
theorem dX9_sought_141 : decode cX9_sought 141 = .ok (.ifCond .eq 38, 3) := by decide +kernel
set_option maxRecDepth 100000 in
theorem dX9_sought_144 : decode cX9_sought 144 = .ok (.iload 6, 2) := by decide +kernel
set_option maxRecDepth 100000 in
theorem dX9_sought_146 : decode cX9_sought 146 = .ok (.ifCond .ne 8, 3) := by decide +kernel
set_option maxRecDepth 100000 in
theorem dX9_sought_149 : decode cX9_sought 149 = .ok (.iload 11, 2) := by decide +kernel
set_option maxRecDepth 100000 in
theorem dX9_sought_151 : decode cX9_sought 151 = .ok (.goto 5, 3) := by decide +kernel
set_option maxRecDepth 100000 in
theorem dX9_sought_154 : decode cX9_sought 154 = .ok (.iload 8, 2) := by decide +kernel
set_option maxRecDepth 100000 in
theorem dX9_sought_156 : decode cX9_sought 156 = .ok (.istore 8, 2) := by decide +kernel
set_option maxRecDepth 100000 in
theorem dX9_sought_158 : decode cX9_sought 158 = .ok (.iload 6, 2) := by decide +kernel
set_option maxRecDepth 100000 in
theorem dX9_sought_160 : decode cX9_sought 160 = .ok (.ifCond .ne 8, 3) := by decide +kernel
set_option maxRecDepth 100000 in
theorem dX9_sought_163 : decode cX9_sought 163 = .ok (.iload 10, 2) := by decide +kernel
set_option maxRecDepth 100000 in
theorem dX9_sought_165 : decode cX9_sought 165 = .ok (.goto 5, 3) := by decide +kernel
set_option maxRecDepth 100000 in
theorem dX9_sought_168 : decode cX9_sought 168 = .ok (.iload 7, 2) := by decide +kernel
set_option maxRecDepth 100000 in
theorem dX9_sought_170 : decode cX9_sought 170 = .ok (.istore 7, 2) := by decide +kernel
set_option maxRecDepth 100000 in
theorem dX9_sought_172 : decode cX9_sought 172 = .ok (.iload 10, 2) := by decide +kernel
set_option maxRecDepth 100000 in
theorem dX9_sought_174 : decode cX9_sought 174 = .ok (.istore 9, 2) := by decide +kernel
set_option maxRecDepth 100000 in
theorem dX9_sought_176 : decode cX9_sought 176 = .ok (.iinc 6 1, 3) := by decide +kernel
set_option maxRecDepth 100000 in
theorem dX9_sought_179 : decode cX9_sought 179 = .ok (.iinc 11 1, 3) := by decide +kernel
set_option maxRecDepth 100000 in
theorem dX9_sought_182 : decode cX9_sought 182 = .ok (.goto (-90), 3) := by decide +kernel
set_option maxRecDepth 100000 in
theorem dX9_sought_185 : decode cX9_sought 185 = .ok (.iinc 10 1, 3) := by decide +kernel
set_option maxRecDepth 100000 in
theorem dX9_sought_188 : decode cX9_sought 188 = .ok (.goto (-106), 3) := by decide +kernel
set_option maxRecDepth 100000 in
theorem dX9_sought_191 : decode cX9_sought 191 = .ok (.iload 5, 2) := by decide +kernel
set_option maxRecDepth 100000 in
theorem dX9_sought_193 : decode cX9_sought 193 = .ok (.ifCond .ne 8, 3) := by decide +kernel
set_option maxRecDepth 100000 in
theorem dX9_sought_196 : decode cX9_sought 196 = .ok (.iload 6, 2) := by decide +kernel
set_option maxRecDepth 100000 in
theorem dX9_sought_198 : decode cX9_sought 198 = .ok (.goto 27, 3) := by decide +kernel
set_option maxRecDepth 100000 in
theorem dX9_sought_201 : decode cX9_sought 201 = .ok (.iload 5, 2) := by decide +kernel
set_option maxRecDepth 100000 in
theorem dX9_sought_203 : decode cX9_sought 203 = .ok (.iconst 1, 1) := by decide +kernel
set_option maxRecDepth 100000 in
theorem dX9_sought_204 : decode cX9_sought 204 = .ok (.if_icmp .ne 8, 3) := by decide +kernel
set_option maxRecDepth 100000 in
theorem dX9_sought_207 : decode cX9_sought 207 = .ok (.iload 7, 2) := by decide +kernel
set_option maxRecDepth 100000 in
theorem dX9_sought_209 : decode cX9_sought 209 = .ok (.goto 16, 3) := by decide +kernel
set_option maxRecDepth 100000 in
theorem dX9_sought_212 : decode cX9_sought 212 = .ok (.iload 5, 2) := by decide +kernel
set_option maxRecDepth 100000 in
theorem dX9_sought_214 : decode cX9_sought 214 = .ok (.iconst 2, 1) := by decide +kernel
set_option maxRecDepth 100000 in
theorem dX9_sought_215 : decode cX9_sought 215 = .ok (.if_icmp .ne 8, 3) := by decide +kernel
set_option maxRecDepth 100000 in
theorem dX9_sought_218 : decode cX9_sought 218 = .ok (.iload 8, 2) := by decide +kernel
set_option maxRecDepth 100000 in
theorem dX9_sought_220 : decode cX9_sought 220 = .ok (.goto 5, 3) := by decide +kernel
set_option maxRecDepth 100000 in
theorem dX9_sought_223 : decode cX9_sought 223 = .ok (.iload 9, 2) := by decide +kernel
set_option maxRecDepth 100000 in
theorem dX9_sought_225 : decode cX9_sought 225 = .ok (.ireturn, 1) := by decide +kernel
set_option maxRecDepth 100000 in
theorem dX9_lost_0 : decode cX9_lost 0 = .ok (.aload_n 0, 1) := by decide +kernel
set_option maxRecDepth 100000 in
theorem dX9_lost_1 : decode cX9_lost 1 = .ok (.iload_n 1, 1) := by decide +kernel
set_option maxRecDepth 100000 in
theorem dX9_lost_2 : decode cX9_lost 2 = .ok (.iload_n 2, 1) := by decide +kernel
set_option maxRecDepth 100000 in
theorem dX9_lost_3 : decode cX9_lost 3 = .ok (.iconst (-1), 1) := by decide +kernel
set_option maxRecDepth 100000 in
theorem dX9_lost_4 : decode cX9_lost 4 = .ok (.invokevirtual 277, 3) := by decide +kernel
set_option maxRecDepth 100000 in
theorem dX9_lost_7 : decode cX9_lost 7 = .ok (.ifCond .ne 6, 3) := by decide +kernel
set_option maxRecDepth 100000 in
theorem dX9_lost_10 : decode cX9_lost 10 = .ok (.bipush (-101), 2) := by decide +kernel
set_option maxRecDepth 100000 in
theorem dX9_lost_12 : decode cX9_lost 12 = .ok (.ireturn, 1) := by decide +kernel
set_option maxRecDepth 100000 in
theorem dX9_lost_13 : decode cX9_lost 13 = .ok (.iload_n 3, 1) := by decide +kernel
set_option maxRecDepth 100000 in
theorem dX9_lost_14 : decode cX9_lost 14 = .ok (.iconst 0, 1) := by decide +kernel
set_option maxRecDepth 100000 in
theorem dX9_lost_15 : decode cX9_lost 15 = .ok (.aload_n 0, 1) := by decide +kernel
set_option maxRecDepth 100000 in
theorem dX9_lost_16 : decode cX9_lost 16 = .ok (.getfield 7, 3) := by decide +kernel
set_option maxRecDepth 100000 in
theorem dX9_lost_19 : decode cX9_lost 19 = .ok (.iload_n 1, 1) := by decide +kernel
set_option maxRecDepth 100000 in
theorem dX9_lost_20 : decode cX9_lost 20 = .ok (.iaload, 1) := by decide +kernel
set_option maxRecDepth 100000 in
theorem dX9_lost_21 : decode cX9_lost 21 = .ok (.iconst 1, 1) := by decide +kernel
set_option maxRecDepth 100000 in
theorem dX9_lost_22 : decode cX9_lost 22 = .ok (.isub, 1) := by decide +kernel
set_option maxRecDepth 100000 in
theorem dX9_lost_23 : decode cX9_lost 23 = .ok (.invokestatic 132, 3) := by decide +kernel
set_option maxRecDepth 100000 in
theorem dX9_lost_26 : decode cX9_lost 26 = .ok (.ifCond .eq 13, 3) := by decide +kernel
set_option maxRecDepth 100000 in
theorem dX9_lost_29 : decode cX9_lost 29 = .ok (.iload 4, 2) := by decide +kernel
set_option maxRecDepth 100000 in
theorem dX9_lost_31 : decode cX9_lost 31 = .ok (.iconst 0, 1) := by decide +kernel
set_option maxRecDepth 100000 in
theorem dX9_lost_32 : decode cX9_lost 32 = .ok (.iconst 2, 1) := by decide +kernel
set_option maxRecDepth 100000 in
theorem dX9_lost_33 : decode cX9_lost 33 = .ok (.invokestatic 132, 3) := by decide +kernel
set_option maxRecDepth 100000 in
theorem dX9_lost_36 : decode cX9_lost 36 = .ok (.ifCond .ne 6, 3) := by decide +kernel
set_option maxRecDepth 100000 in
theorem dX9_lost_39 : decode cX9_lost 39 = .ok (.bipush (-102), 2) := by decide +kernel
set_option maxRecDepth 100000 in
theorem dX9_lost_41 : decode cX9_lost 41 = .ok (.ireturn, 1) := by decide +kernel
set_option maxRecDepth 100000 in
theorem dX9_lost_42 : decode cX9_lost 42 = .ok (.aload_n 0, 1) := by decide +kernel
set_option maxRecDepth 100000 in
theorem dX9_lost_43 : decode cX9_lost 43 = .ok (.getfield 341, 3) := by decide +kernel
set_option maxRecDepth 100000 in
theorem dX9_lost_46 : decode cX9_lost 46 = .ok (.bipush 20, 2) := by decide +kernel
set_option maxRecDepth 100000 in
theorem dX9_lost_48 : decode cX9_lost 48 = .ok (.if_icmp .ne 6, 3) := by decide +kernel
set_option maxRecDepth 100000 in
theorem dX9_lost_51 : decode cX9_lost 51 = .ok (.bipush (-103), 2) := by decide +kernel
set_option maxRecDepth 100000 in
theorem dX9_lost_53 : decode cX9_lost 53 = .ok (.ireturn, 1) := by decide +kernel
set_option maxRecDepth 100000 in
theorem dX9_lost_54 : decode cX9_lost 54 = .ok (.aload_n 0, 1) := by decide +kernel
set_option maxRecDepth 100000 in
theorem dX9_lost_55 : decode cX9_lost 55 = .ok (.dup, 1) := by decide +kernel
set_option maxRecDepth 100000 in
theorem dX9_lost_56 : decode cX9_lost 56 = .ok (.getfield 341, 3) := by decide +kernel
set_option maxRecDepth 100000 in
theorem dX9_lost_59 : decode cX9_lost 59 = .ok (.iconst 1, 1) := by decide +kernel
set_option maxRecDepth 100000 in
theorem dX9_lost_60 : decode cX9_lost 60 = .ok (.iadd, 1) := by decide +kernel
set_option maxRecDepth 100000 in
theorem dX9_lost_61 : decode cX9_lost 61 = .ok (.putfield 341, 3) := by decide +kernel
set_option maxRecDepth 100000 in
theorem dX9_lost_64 : decode cX9_lost 64 = .ok (.iconst 0, 1) := by decide +kernel
set_option maxRecDepth 100000 in
theorem dX9_lost_65 : decode cX9_lost 65 = .ok (.istore 5, 2) := by decide +kernel
set_option maxRecDepth 100000 in
theorem dX9_lost_67 : decode cX9_lost 67 = .ok (.iconst (-1), 1) := by decide +kernel
set_option maxRecDepth 100000 in
theorem dX9_lost_68 : decode cX9_lost 68 = .ok (.istore 6, 2) := by decide +kernel
set_option maxRecDepth 100000 in
theorem dX9_lost_70 : decode cX9_lost 70 = .ok (.iconst (-1), 1) := by decide +kernel
set_option maxRecDepth 100000 in
theorem dX9_lost_71 : decode cX9_lost 71 = .ok (.istore 7, 2) := by decide +kernel
set_option maxRecDepth 100000 in
theorem dX9_lost_73 : decode cX9_lost 73 = .ok (.iconst 1, 1) := by decide +kernel
set_option maxRecDepth 100000 in
theorem dX9_lost_74 : decode cX9_lost 74 = .ok (.istore 8, 2) := by decide +kernel
set_option maxRecDepth 100000 in
theorem dX9_lost_76 : decode cX9_lost 76 = .ok (.iload 8, 2) := by decide +kernel
set_option maxRecDepth 100000 in
theorem dX9_lost_78 : decode cX9_lost 78 = .ok (.bipush 40, 2) := by decide +kernel
set_option maxRecDepth 100000 in
theorem dX9_lost_80 : decode cX9_lost 80 = .ok (.if_icmp .gt 92, 3) := by decide +kernel
set_option maxRecDepth 100000 in
theorem dX9_lost_83 : decode cX9_lost 83 = .ok (.iconst 0, 1) := by decide +kernel
set_option maxRecDepth 100000 in
theorem dX9_lost_84 : decode cX9_lost 84 = .ok (.istore 9, 2) := by decide +kernel
set_option maxRecDepth 100000 in
theorem dX9_lost_86 : decode cX9_lost 86 = .ok (.iload 9, 2) := by decide +kernel
set_option maxRecDepth 100000 in
theorem dX9_lost_88 : decode cX9_lost 88 = .ok (.bipush 60, 2) := by decide +kernel
set_option maxRecDepth 100000 in
theorem dX9_lost_90 : decode cX9_lost 90 = .ok (.if_icmp .gt 76, 3) := by decide +kernel
set_option maxRecDepth 100000 in
theorem dX9_lost_93 : decode cX9_lost 93 = .ok (.aload_n 0, 1) := by decide +kernel
set_option maxRecDepth 100000 in
theorem dX9_lost_94 : decode cX9_lost 94 = .ok (.iload_n 1, 1) := by decide +kernel
set_option maxRecDepth 100000 in
theorem dX9_lost_95 : decode cX9_lost 95 = .ok (.iconst (-1), 1) := by decide +kernel
set_option maxRecDepth 100000 in
theorem dX9_lost_96 : decode cX9_lost 96 = .ok (.invokevirtual 270, 3) := by decide +kernel
set_option maxRecDepth 100000 in
theorem dX9_lost_99 : decode cX9_lost 99 = .ok (.aload_n 0, 1) := by decide +kernel
set_option maxRecDepth 100000 in
theorem dX9_lost_100 : decode cX9_lost 100 = .ok (.getfield 96, 3) := by decide +kernel
set_option maxRecDepth 100000 in
theorem dX9_lost_103 : decode cX9_lost 103 = .ok (.iload_n 3, 1) := by decide +kernel
set_option maxRecDepth 100000 in
theorem dX9_lost_104 : decode cX9_lost 104 = .ok (.iload 8, 2) := by decide +kernel
set_option maxRecDepth 100000 in
theorem dX9_lost_106 : decode cX9_lost 106 = .ok (.iastore, 1) := by decide +kernel
set_option maxRecDepth 100000 in
theorem dX9_lost_107 : decode cX9_lost 107 = .ok (.aload_n 0, 1) := by decide +kernel
set_option maxRecDepth 100000 in
theorem dX9_lost_108 : decode cX9_lost 108 = .ok (.iload 9, 2) := by decide +kernel
set_option maxRecDepth 100000 in
theorem dX9_lost_110 : decode cX9_lost 110 = .ok (.putfield 218, 3) := by decide +kernel
set_option maxRecDepth 100000 in
theorem dX9_lost_113 : decode cX9_lost 113 = .ok (.aload_n 0, 1) := by decide +kernel
set_option maxRecDepth 100000 in
theorem dX9_lost_114 : decode cX9_lost 114 = .ok (.iload_n 1, 1) := by decide +kernel
set_option maxRecDepth 100000 in
theorem dX9_lost_115 : decode cX9_lost 115 = .ok (.iload_n 2, 1) := by decide +kernel
set_option maxRecDepth 100000 in
theorem dX9_lost_116 : decode cX9_lost 116 = .ok (.bipush 95, 2) := by decide +kernel
set_option maxRecDepth 100000 in
theorem dX9_lost_118 : decode cX9_lost 118 = .ok (.invokevirtual 274, 3) := by decide +kernel
set_option maxRecDepth 100000 in
theorem dX9_lost_121 : decode cX9_lost 121 = .ok (.aload_n 0, 1) := by decide +kernel
set_option maxRecDepth 100000 in
theorem dX9_lost_122 : decode cX9_lost 122 = .ok (.iload_n 1, 1) := by decide +kernel
set_option maxRecDepth 100000 in
theorem dX9_lost_123 : decode cX9_lost 123 = .ok (.invokevirtual 338, 3) := by decide +kernel
set_option maxRecDepth 100000 in
theorem dX9_lost_126 : decode cX9_lost 126 = .ok (.ifCond .eq 34, 3) := by decide +kernel
set_option maxRecDepth 100000 in
theorem dX9_lost_129 : decode cX9_lost 129 = .ok (.iload 5, 2) := by decide +kernel
set_option maxRecDepth 100000 in
theorem dX9_lost_131 : decode cX9_lost 131 = .ok (.ifCond .ne 8, 3) := by decide +kernel
set_option maxRecDepth 100000 in
theorem dX9_lost_134 : decode cX9_lost 134 = .ok (.iload 8, 2) := by decide +kernel
set_option maxRecDepth 100000 in
theorem dX9_lost_136 : decode cX9_lost 136 = .ok (.goto 5, 3) := by decide +kernel
set_option maxRecDepth 100000 in
theorem dX9_lost_139 : decode cX9_lost 139 = .ok (.iload 6, 2) := by decide +kernel
set_option maxRecDepth 100000 in
theorem dX9_lost_141 : decode cX9_lost 141 = .ok (.istore 6, 2) := by decide +kernel
set_option maxRecDepth 100000 in
theorem dX9_lost_143 : decode cX9_lost 143 = .ok (.iload 5, 2) := by decide +kernel
set_option maxRecDepth 100000 in
theorem dX9_lost_145 : decode cX9_lost 145 = .ok (.ifCond .ne 8, 3) := by decide +kernel
set_option maxRecDepth 100000 in
theorem dX9_lost_148 : decode cX9_lost 148 = .ok (.iload 9, 2) := by decide +kernel
set_option maxRecDepth 100000 in
theorem dX9_lost_150 : decode cX9_lost 150 = .ok (.goto 5, 3) := by decide +kernel
set_option maxRecDepth 100000 in
theorem dX9_lost_153 : decode cX9_lost 153 = .ok (.iload 7, 2) := by decide +kernel
set_option maxRecDepth 100000 in
theorem dX9_lost_155 : decode cX9_lost 155 = .ok (.istore 7, 2) := by decide +kernel
set_option maxRecDepth 100000 in
theorem dX9_lost_157 : decode cX9_lost 157 = .ok (.iinc 5 1, 3) := by decide +kernel
set_option maxRecDepth 100000 in
theorem dX9_lost_160 : decode cX9_lost 160 = .ok (.iinc 9 1, 3) := by decide +kernel
set_option maxRecDepth 100000 in
theorem dX9_lost_163 : decode cX9_lost 163 = .ok (.goto (-77), 3) := by decide +kernel
set_option maxRecDepth 100000 in
theorem dX9_lost_166 : decode cX9_lost 166 = .ok (.iinc 8 1, 3) := by decide +kernel
set_option maxRecDepth 100000 in
theorem dX9_lost_169 : decode cX9_lost 169 = .ok (.goto (-93), 3) := by decide +kernel
set_option maxRecDepth 100000 in
theorem dX9_lost_172 : decode cX9_lost 172 = .ok (.iload 4, 2) := by decide +kernel
set_option maxRecDepth 100000 in
theorem dX9_lost_174 : decode cX9_lost 174 = .ok (.ifCond .ne 8, 3) := by decide +kernel
set_option maxRecDepth 100000 in
theorem dX9_lost_177 : decode cX9_lost 177 = .ok (.iload 5, 2) := by decide +kernel
set_option maxRecDepth 100000 in
theorem dX9_lost_179 : decode cX9_lost 179 = .ok (.goto 16, 3) := by decide +kernel
set_option maxRecDepth 100000 in
theorem dX9_lost_182 : decode cX9_lost 182 = .ok (.iload 4, 2) := by decide +kernel
set_option maxRecDepth 100000 in
theorem dX9_lost_184 : decode cX9_lost 184 = .ok (.iconst 1, 1) := by decide +kernel
set_option maxRecDepth 100000 in
theorem dX9_lost_185 : decode cX9_lost 185 = .ok (.if_icmp .ne 8, 3) := by decide +kernel
set_option maxRecDepth 100000 in
theorem dX9_lost_188 : decode cX9_lost 188 = .ok (.iload 6, 2) := by decide +kernel
set_option maxRecDepth 100000 in
theorem dX9_lost_190 : decode cX9_lost 190 = .ok (.goto 5, 3) := by decide +kernel
set_option maxRecDepth 100000 in
theorem dX9_lost_193 : decode cX9_lost 193 = .ok (.iload 7, 2) := by decide +kernel
set_option maxRecDepth 100000 in
theorem dX9_lost_195 : decode cX9_lost 195 = .ok (.ireturn, 1) := by decide +kernel
set_option maxRecDepth 100000 in
theorem dX9_spanFrom_0 : decode cX9_spanFrom 0 = .ok (.iload_n 1, 1) := by decide +kernel
set_option maxRecDepth 100000 in
theorem dX9_spanFrom_1 : decode cX9_spanFrom 1 = .ok (.iconst (-1), 1) := by decide +kernel
set_option maxRecDepth 100000 in
theorem dX9_spanFrom_2 : decode cX9_spanFrom 2 = .ok (.if_icmp .ne 7, 3) := by decide +kernel
set_option maxRecDepth 100000 in
theorem dX9_spanFrom_5 : decode cX9_spanFrom 5 = .ok (.iconst 0, 1) := by decide +kernel
set_option maxRecDepth 100000 in
theorem dX9_spanFrom_6 : decode cX9_spanFrom 6 = .ok (.goto 9, 3) := by decide +kernel
set_option maxRecDepth 100000 in
theorem dX9_spanFrom_9 : decode cX9_spanFrom 9 = .ok (.aload_n 0, 1) := by decide +kernel
set_option maxRecDepth 100000 in
theorem dX9_spanFrom_10 : decode cX9_spanFrom 10 = .ok (.getfield 102, 3) := by decide +kernel
set_option maxRecDepth 100000 in
theorem dX9_spanFrom_13 : decode cX9_spanFrom 13 = .ok (.iload_n 1, 1) := by decide +kernel
set_option maxRecDepth 100000 in
theorem dX9_spanFrom_14 : decode cX9_spanFrom 14 = .ok (.iaload, 1) := by decide +kernel
set_option maxRecDepth 100000 in
theorem dX9_spanFrom_15 : decode cX9_spanFrom 15 = .ok (.ireturn, 1) := by decide +kernel
set_option maxRecDepth 100000 in
theorem dX9_spanTo_0 : decode cX9_spanTo 0 = .ok (.iload_n 2, 1) := by decide +kernel
set_option maxRecDepth 100000 in
theorem dX9_spanTo_1 : decode cX9_spanTo 1 = .ok (.iconst 1, 1) := by decide +kernel
set_option maxRecDepth 100000 in
theorem dX9_spanTo_2 : decode cX9_spanTo 2 = .ok (.iadd, 1) := by decide +kernel
set_option maxRecDepth 100000 in
theorem dX9_spanTo_3 : decode cX9_spanTo 3 = .ok (.aload_n 0, 1) := by decide +kernel
set_option maxRecDepth 100000 in
theorem dX9_spanTo_4 : decode cX9_spanTo 4 = .ok (.getfield 31, 3) := by decide +kernel
set_option maxRecDepth 100000 in
theorem dX9_spanTo_7 : decode cX9_spanTo 7 = .ok (.iload_n 1, 1) := by decide +kernel
set_option maxRecDepth 100000 in
theorem dX9_spanTo_8 : decode cX9_spanTo 8 = .ok (.iaload, 1) := by decide +kernel
set_option maxRecDepth 100000 in
theorem dX9_spanTo_9 : decode cX9_spanTo 9 = .ok (.if_icmp .ge 16, 3) := by decide +kernel
set_option maxRecDepth 100000 in
theorem dX9_spanTo_12 : decode cX9_spanTo 12 = .ok (.aload_n 0, 1) := by decide +kernel
set_option maxRecDepth 100000 in
theorem dX9_spanTo_13 : decode cX9_spanTo 13 = .ok (.getfield 102, 3) := by decide +kernel
set_option maxRecDepth 100000 in
theorem dX9_spanTo_16 : decode cX9_spanTo 16 = .ok (.iload_n 2, 1) := by decide +kernel
set_option maxRecDepth 100000 in
theorem dX9_spanTo_17 : decode cX9_spanTo 17 = .ok (.iconst 1, 1) := by decide +kernel
set_option maxRecDepth 100000 in
theorem dX9_spanTo_18 : decode cX9_spanTo 18 = .ok (.iadd, 1) := by decide +kernel
set_option maxRecDepth 100000 in
theorem dX9_spanTo_19 : decode cX9_spanTo 19 = .ok (.iaload, 1) := by decide +kernel
set_option maxRecDepth 100000 in
theorem dX9_spanTo_20 : decode cX9_spanTo 20 = .ok (.iconst 1, 1) := by decide +kernel
set_option maxRecDepth 100000 in
theorem dX9_spanTo_21 : decode cX9_spanTo 21 = .ok (.isub, 1) := by decide +kernel
set_option maxRecDepth 100000 in
theorem dX9_spanTo_22 : decode cX9_spanTo 22 = .ok (.goto 5, 3) := by decide +kernel
set_option maxRecDepth 100000 in
theorem dX9_spanTo_25 : decode cX9_spanTo 25 = .ok (.bipush 95, 2) := by decide +kernel
set_option maxRecDepth 100000 in
theorem dX9_spanTo_27 : decode cX9_spanTo 27 = .ok (.ireturn, 1) := by decide +kernel
set_option maxRecDepth 100000 in
theorem dX9_isRecord_0 : decode cX9_isRecord 0 = .ok (.iload_n 2, 1) := by decide +kernel
set_option maxRecDepth 100000 in
theorem dX9_isRecord_1 : decode cX9_isRecord 1 = .ok (.iconst (-1), 1) := by decide +kernel
set_option maxRecDepth 100000 in
theorem dX9_isRecord_2 : decode cX9_isRecord 2 = .ok (.if_icmp .eq 12, 3) := by decide +kernel
set_option maxRecDepth 100000 in
theorem dX9_isRecord_5 : decode cX9_isRecord 5 = .ok (.aload_n 0, 1) := by decide +kernel
set_option maxRecDepth 100000 in
theorem dX9_isRecord_6 : decode cX9_isRecord 6 = .ok (.iload_n 1, 1) := by decide +kernel
set_option maxRecDepth 100000 in
theorem dX9_isRecord_7 : decode cX9_isRecord 7 = .ok (.iload_n 2, 1) := by decide +kernel
set_option maxRecDepth 100000 in
theorem dX9_isRecord_8 : decode cX9_isRecord 8 = .ok (.invokevirtual 194, 3) := by decide +kernel
set_option maxRecDepth 100000 in
theorem dX9_isRecord_11 : decode cX9_isRecord 11 = .ok (.ifCond .eq 7, 3) := by decide +kernel
set_option maxRecDepth 100000 in
theorem dX9_isRecord_14 : decode cX9_isRecord 14 = .ok (.iconst 1, 1) := by decide +kernel
set_option maxRecDepth 100000 in
theorem dX9_isRecord_15 : decode cX9_isRecord 15 = .ok (.goto 4, 3) := by decide +kernel
set_option maxRecDepth 100000 in
theorem dX9_isRecord_18 : decode cX9_isRecord 18 = .ok (.iconst 0, 1) := by decide +kernel
set_option maxRecDepth 100000 in
theorem dX9_isRecord_19 : decode cX9_isRecord 19 = .ok (.ireturn, 1) := by decide +kernel
set_option maxRecDepth 100000 in
theorem dX9_span_0 : decode cX9_span 0 = .ok (.aload_n 0, 1) := by decide +kernel
set_option maxRecDepth 100000 in
theorem dX9_span_1 : decode cX9_span 1 = .ok (.iload_n 1, 1) := by decide +kernel
set_option maxRecDepth 100000 in
theorem dX9_span_2 : decode cX9_span 2 = .ok (.iload_n 2, 1) := by decide +kernel
set_option maxRecDepth 100000 in
theorem dX9_span_3 : decode cX9_span 3 = .ok (.iload_n 3, 1) := by decide +kernel
set_option maxRecDepth 100000 in
theorem dX9_span_4 : decode cX9_span 4 = .ok (.invokevirtual 277, 3) := by decide +kernel
set_option maxRecDepth 100000 in
theorem dX9_span_7 : decode cX9_span 7 = .ok (.ifCond .eq 13, 3) := by decide +kernel
set_option maxRecDepth 100000 in
theorem dX9_span_10 : decode cX9_span 10 = .ok (.aload_n 0, 1) := by decide +kernel
set_option maxRecDepth 100000 in
theorem dX9_span_11 : decode cX9_span 11 = .ok (.iload_n 1, 1) := by decide +kernel
set_option maxRecDepth 100000 in
theorem dX9_span_12 : decode cX9_span 12 = .ok (.iload 4, 2) := by decide +kernel
set_option maxRecDepth 100000 in
theorem dX9_span_14 : decode cX9_span 14 = .ok (.invokevirtual 344, 3) := by decide +kernel
set_option maxRecDepth 100000 in
theorem dX9_span_17 : decode cX9_span 17 = .ok (.ifCond .ne 6, 3) := by decide +kernel
set_option maxRecDepth 100000 in
theorem dX9_span_20 : decode cX9_span 20 = .ok (.bipush (-101), 2) := by decide +kernel
set_option maxRecDepth 100000 in
theorem dX9_span_22 : decode cX9_span 22 = .ok (.ireturn, 1) := by decide +kernel
set_option maxRecDepth 100000 in
theorem dX9_span_23 : decode cX9_span 23 = .ok (.iload 5, 2) := by decide +kernel
set_option maxRecDepth 100000 in
theorem dX9_span_25 : decode cX9_span 25 = .ok (.iconst 0, 1) := by decide +kernel
set_option maxRecDepth 100000 in
theorem dX9_span_26 : decode cX9_span 26 = .ok (.iconst 1, 1) := by decide +kernel
set_option maxRecDepth 100000 in
theorem dX9_span_27 : decode cX9_span 27 = .ok (.invokestatic 132, 3) := by decide +kernel
set_option maxRecDepth 100000 in
theorem dX9_span_30 : decode cX9_span 30 = .ok (.ifCond .ne 6, 3) := by decide +kernel
set_option maxRecDepth 100000 in
theorem dX9_span_33 : decode cX9_span 33 = .ok (.bipush (-102), 2) := by decide +kernel
set_option maxRecDepth 100000 in
theorem dX9_span_35 : decode cX9_span 35 = .ok (.ireturn, 1) := by decide +kernel
set_option maxRecDepth 100000 in
theorem dX9_span_36 : decode cX9_span 36 = .ok (.aload_n 0, 1) := by decide +kernel
set_option maxRecDepth 100000 in
theorem dX9_span_37 : decode cX9_span 37 = .ok (.iload_n 1, 1) := by decide +kernel
set_option maxRecDepth 100000 in
theorem dX9_span_38 : decode cX9_span 38 = .ok (.iload_n 2, 1) := by decide +kernel
set_option maxRecDepth 100000 in
theorem dX9_span_39 : decode cX9_span 39 = .ok (.iload_n 3, 1) := by decide +kernel
set_option maxRecDepth 100000 in
theorem dX9_span_40 : decode cX9_span 40 = .ok (.invokevirtual 280, 3) := by decide +kernel
set_option maxRecDepth 100000 in
theorem dX9_span_43 : decode cX9_span 43 = .ok (.aload_n 0, 1) := by decide +kernel
set_option maxRecDepth 100000 in
theorem dX9_span_44 : decode cX9_span 44 = .ok (.iload 4, 2) := by decide +kernel
set_option maxRecDepth 100000 in
theorem dX9_span_46 : decode cX9_span 46 = .ok (.invokevirtual 347, 3) := by decide +kernel
set_option maxRecDepth 100000 in
theorem dX9_span_49 : decode cX9_span 49 = .ok (.istore 6, 2) := by decide +kernel
set_option maxRecDepth 100000 in
theorem dX9_span_51 : decode cX9_span 51 = .ok (.aload_n 0, 1) := by decide +kernel
set_option maxRecDepth 100000 in
theorem dX9_span_52 : decode cX9_span 52 = .ok (.iload_n 1, 1) := by decide +kernel
set_option maxRecDepth 100000 in
theorem dX9_span_53 : decode cX9_span 53 = .ok (.iload 4, 2) := by decide +kernel
set_option maxRecDepth 100000 in
theorem dX9_span_55 : decode cX9_span 55 = .ok (.invokevirtual 350, 3) := by decide +kernel
set_option maxRecDepth 100000 in
theorem dX9_span_58 : decode cX9_span 58 = .ok (.istore 7, 2) := by decide +kernel
set_option maxRecDepth 100000 in
theorem dX9_span_60 : decode cX9_span 60 = .ok (.iload 6, 2) := by decide +kernel
set_option maxRecDepth 100000 in
theorem dX9_span_62 : decode cX9_span 62 = .ok (.iload 7, 2) := by decide +kernel
set_option maxRecDepth 100000 in
theorem dX9_span_64 : decode cX9_span 64 = .ok (.if_icmp .le 7, 3) := by decide +kernel
set_option maxRecDepth 100000 in
theorem dX9_span_67 : decode cX9_span 67 = .ok (.iconst (-1), 1) := by decide +kernel
set_option maxRecDepth 100000 in
theorem dX9_span_68 : decode cX9_span 68 = .ok (.goto 15, 3) := by decide +kernel
set_option maxRecDepth 100000 in
theorem dX9_span_71 : decode cX9_span 71 = .ok (.iload 5, 2) := by decide +kernel
set_option maxRecDepth 100000 in
theorem dX9_span_73 : decode cX9_span 73 = .ok (.ifCond .ne 8, 3) := by decide +kernel
set_option maxRecDepth 100000 in
theorem dX9_span_76 : decode cX9_span 76 = .ok (.iload 6, 2) := by decide +kernel
set_option maxRecDepth 100000 in
theorem dX9_span_78 : decode cX9_span 78 = .ok (.goto 5, 3) := by decide +kernel
set_option maxRecDepth 100000 in
theorem dX9_span_81 : decode cX9_span 81 = .ok (.iload 7, 2) := by decide +kernel
set_option maxRecDepth 100000 in
theorem dX9_span_83 : decode cX9_span 83 = .ok (.ireturn, 1) := by decide +kernel
set_option maxRecDepth 100000 in
theorem dX9_holds_0 : decode cX9_holds 0 = .ok (.aload_n 0, 1) := by decide +kernel
set_option maxRecDepth 100000 in
theorem dX9_holds_1 : decode cX9_holds 1 = .ok (.iload_n 1, 1) := by decide +kernel
set_option maxRecDepth 100000 in
theorem dX9_holds_2 : decode cX9_holds 2 = .ok (.iload_n 2, 1) := by decide +kernel
set_option maxRecDepth 100000 in
theorem dX9_holds_3 : decode cX9_holds 3 = .ok (.iload_n 3, 1) := by decide +kernel
set_option maxRecDepth 100000 in
theorem dX9_holds_4 : decode cX9_holds 4 = .ok (.invokevirtual 280, 3) := by decide +kernel
set_option maxRecDepth 100000 in
theorem dX9_holds_7 : decode cX9_holds 7 = .ok (.iload 5, 2) := by decide +kernel
set_option maxRecDepth 100000 in
theorem dX9_holds_9 : decode cX9_holds 9 = .ok (.aload_n 0, 1) := by decide +kernel
set_option maxRecDepth 100000 in
theorem dX9_holds_10 : decode cX9_holds 10 = .ok (.iload 4, 2) := by decide +kernel
set_option maxRecDepth 100000 in
theorem dX9_holds_12 : decode cX9_holds 12 = .ok (.invokevirtual 347, 3) := by decide +kernel
set_option maxRecDepth 100000 in
theorem dX9_holds_15 : decode cX9_holds 15 = .ok (.aload_n 0, 1) := by decide +kernel
set_option maxRecDepth 100000 in
theorem dX9_holds_16 : decode cX9_holds 16 = .ok (.iload_n 1, 1) := by decide +kernel
set_option maxRecDepth 100000 in
theorem dX9_holds_17 : decode cX9_holds 17 = .ok (.iload 4, 2) := by decide +kernel
set_option maxRecDepth 100000 in
theorem dX9_holds_19 : decode cX9_holds 19 = .ok (.invokevirtual 350, 3) := by decide +kernel
set_option maxRecDepth 100000 in
theorem dX9_holds_22 : decode cX9_holds 22 = .ok (.invokestatic 132, 3) := by decide +kernel
set_option maxRecDepth 100000 in
theorem dX9_holds_25 : decode cX9_holds 25 = .ok (.ireturn, 1) := by decide +kernel
set_option maxRecDepth 100000 in
theorem dX9_record_0 : decode cX9_record 0 = .ok (.aload_n 0, 1) := by decide +kernel
set_option maxRecDepth 100000 in
theorem dX9_record_1 : decode cX9_record 1 = .ok (.iload_n 1, 1) := by decide +kernel
set_option maxRecDepth 100000 in
theorem dX9_record_2 : decode cX9_record 2 = .ok (.iload_n 2, 1) := by decide +kernel
set_option maxRecDepth 100000 in
theorem dX9_record_3 : decode cX9_record 3 = .ok (.iconst (-1), 1) := by decide +kernel
set_option maxRecDepth 100000 in
theorem dX9_record_4 : decode cX9_record 4 = .ok (.invokevirtual 277, 3) := by decide +kernel
set_option maxRecDepth 100000 in
theorem dX9_record_7 : decode cX9_record 7 = .ok (.ifCond .eq 12, 3) := by decide +kernel
set_option maxRecDepth 100000 in
theorem dX9_record_10 : decode cX9_record 10 = .ok (.aload_n 0, 1) := by decide +kernel
set_option maxRecDepth 100000 in
theorem dX9_record_11 : decode cX9_record 11 = .ok (.iload_n 1, 1) := by decide +kernel
set_option maxRecDepth 100000 in
theorem dX9_record_12 : decode cX9_record 12 = .ok (.iload_n 3, 1) := by decide +kernel
set_option maxRecDepth 100000 in
theorem dX9_record_13 : decode cX9_record 13 = .ok (.invokevirtual 344, 3) := by decide +kernel
set_option maxRecDepth 100000 in
theorem dX9_record_16 : decode cX9_record 16 = .ok (.ifCond .ne 6, 3) := by decide +kernel
set_option maxRecDepth 100000 in
theorem dX9_record_19 : decode cX9_record 19 = .ok (.bipush (-101), 2) := by decide +kernel
set_option maxRecDepth 100000 in
theorem dX9_record_21 : decode cX9_record 21 = .ok (.ireturn, 1) := by decide +kernel
set_option maxRecDepth 100000 in
theorem dX9_record_22 : decode cX9_record 22 = .ok (.iload 4, 2) := by decide +kernel
set_option maxRecDepth 100000 in
theorem dX9_record_24 : decode cX9_record 24 = .ok (.iconst 0, 1) := by decide +kernel
set_option maxRecDepth 100000 in
theorem dX9_record_25 : decode cX9_record 25 = .ok (.bipush 95, 2) := by decide +kernel
set_option maxRecDepth 100000 in
theorem dX9_record_27 : decode cX9_record 27 = .ok (.invokestatic 132, 3) := by decide +kernel
set_option maxRecDepth 100000 in
theorem dX9_record_30 : decode cX9_record 30 = .ok (.ifCond .eq 13, 3) := by decide +kernel
set_option maxRecDepth 100000 in
theorem dX9_record_33 : decode cX9_record 33 = .ok (.iload 5, 2) := by decide +kernel
set_option maxRecDepth 100000 in
theorem dX9_record_35 : decode cX9_record 35 = .ok (.iconst 0, 1) := by decide +kernel
set_option maxRecDepth 100000 in
theorem dX9_record_36 : decode cX9_record 36 = .ok (.iconst 1, 1) := by decide +kernel
set_option maxRecDepth 100000 in
theorem dX9_record_37 : decode cX9_record 37 = .ok (.invokestatic 132, 3) := by decide +kernel
set_option maxRecDepth 100000 in
theorem dX9_record_40 : decode cX9_record 40 = .ok (.ifCond .ne 6, 3) := by decide +kernel
set_option maxRecDepth 100000 in
theorem dX9_record_43 : decode cX9_record 43 = .ok (.bipush (-102), 2) := by decide +kernel
set_option maxRecDepth 100000 in
theorem dX9_record_45 : decode cX9_record 45 = .ok (.ireturn, 1) := by decide +kernel
set_option maxRecDepth 100000 in
theorem dX9_record_46 : decode cX9_record 46 = .ok (.iload 5, 2) := by decide +kernel
set_option maxRecDepth 100000 in
theorem dX9_record_48 : decode cX9_record 48 = .ok (.ifCond .ne 22, 3) := by decide +kernel
set_option maxRecDepth 100000 in
theorem dX9_record_51 : decode cX9_record 51 = .ok (.aload_n 0, 1) := by decide +kernel
set_option maxRecDepth 100000 in
theorem dX9_record_52 : decode cX9_record 52 = .ok (.iload_n 1, 1) := by decide +kernel
set_option maxRecDepth 100000 in
theorem dX9_record_53 : decode cX9_record 53 = .ok (.iload_n 2, 1) := by decide +kernel
set_option maxRecDepth 100000 in
theorem dX9_record_54 : decode cX9_record 54 = .ok (.iconst (-1), 1) := by decide +kernel
set_option maxRecDepth 100000 in
theorem dX9_record_55 : decode cX9_record 55 = .ok (.iload_n 3, 1) := by decide +kernel
set_option maxRecDepth 100000 in
theorem dX9_record_56 : decode cX9_record 56 = .ok (.iload 4, 2) := by decide +kernel
set_option maxRecDepth 100000 in
theorem dX9_record_58 : decode cX9_record 58 = .ok (.invokevirtual 353, 3) := by decide +kernel
set_option maxRecDepth 100000 in
theorem dX9_record_61 : decode cX9_record 61 = .ok (.ifCond .eq 7, 3) := by decide +kernel
set_option maxRecDepth 100000 in
theorem dX9_record_64 : decode cX9_record 64 = .ok (.iconst 1, 1) := by decide +kernel
set_option maxRecDepth 100000 in
theorem dX9_record_65 : decode cX9_record 65 = .ok (.goto 4, 3) := by decide +kernel
set_option maxRecDepth 100000 in
theorem dX9_record_68 : decode cX9_record 68 = .ok (.iconst 0, 1) := by decide +kernel
set_option maxRecDepth 100000 in
theorem dX9_record_69 : decode cX9_record 69 = .ok (.ireturn, 1) := by decide +kernel
set_option maxRecDepth 100000 in
theorem dX9_record_70 : decode cX9_record 70 = .ok (.iconst 0, 1) := by decide +kernel
set_option maxRecDepth 100000 in
theorem dX9_record_71 : decode cX9_record 71 = .ok (.istore 6, 2) := by decide +kernel
set_option maxRecDepth 100000 in
theorem dX9_record_73 : decode cX9_record 73 = .ok (.iload 6, 2) := by decide +kernel
set_option maxRecDepth 100000 in
theorem dX9_record_75 : decode cX9_record 75 = .ok (.aload_n 0, 1) := by decide +kernel
set_option maxRecDepth 100000 in
theorem dX9_record_76 : decode cX9_record 76 = .ok (.getfield 191, 3) := by decide +kernel
set_option maxRecDepth 100000 in
theorem dX9_record_79 : decode cX9_record 79 = .ok (.if_icmp .ge 26, 3) := by decide +kernel
set_option maxRecDepth 100000 in
theorem dX9_record_82 : decode cX9_record 82 = .ok (.aload_n 0, 1) := by decide +kernel
set_option maxRecDepth 100000 in
theorem dX9_record_83 : decode cX9_record 83 = .ok (.iload_n 1, 1) := by decide +kernel
set_option maxRecDepth 100000 in
theorem dX9_record_84 : decode cX9_record 84 = .ok (.iload_n 2, 1) := by decide +kernel
set_option maxRecDepth 100000 in
theorem dX9_record_85 : decode cX9_record 85 = .ok (.iload 6, 2) := by decide +kernel
set_option maxRecDepth 100000 in
theorem dX9_record_87 : decode cX9_record 87 = .ok (.iload_n 3, 1) := by decide +kernel
set_option maxRecDepth 100000 in
theorem dX9_record_88 : decode cX9_record 88 = .ok (.iload 4, 2) := by decide +kernel
set_option maxRecDepth 100000 in
theorem dX9_record_90 : decode cX9_record 90 = .ok (.invokevirtual 353, 3) := by decide +kernel
set_option maxRecDepth 100000 in
theorem dX9_record_93 : decode cX9_record 93 = .ok (.ifCond .eq 6, 3) := by decide +kernel
set_option maxRecDepth 100000 in
theorem dX9_record_96 : decode cX9_record 96 = .ok (.iload 6, 2) := by decide +kernel
set_option maxRecDepth 100000 in
theorem dX9_record_98 : decode cX9_record 98 = .ok (.ireturn, 1) := by decide +kernel
set_option maxRecDepth 100000 in
theorem dX9_record_99 : decode cX9_record 99 = .ok (.iinc 6 1, 3) := by decide +kernel
set_option maxRecDepth 100000 in
theorem dX9_record_102 : decode cX9_record 102 = .ok (.goto (-29), 3) := by decide +kernel
set_option maxRecDepth 100000 in
theorem dX9_record_105 : decode cX9_record 105 = .ok (.iconst (-1), 1) := by decide +kernel
set_option maxRecDepth 100000 in
theorem dX9_record_106 : decode cX9_record 106 = .ok (.ireturn, 1) := by decide +kernel
set_option maxRecDepth 100000 in
theorem dX9_logMany_0 : decode cX9_logMany 0 = .ok (.iconst 0, 1) := by decide +kernel
set_option maxRecDepth 100000 in
theorem dX9_logMany_1 : decode cX9_logMany 1 = .ok (.istore_n 1, 1) := by decide +kernel
set_option maxRecDepth 100000 in
theorem dX9_logMany_2 : decode cX9_logMany 2 = .ok (.iconst 0, 1) := by decide +kernel
set_option maxRecDepth 100000 in
theorem dX9_logMany_3 : decode cX9_logMany 3 = .ok (.istore_n 2, 1) := by decide +kernel
set_option maxRecDepth 100000 in
theorem dX9_logMany_4 : decode cX9_logMany 4 = .ok (.iload_n 2, 1) := by decide +kernel
set_option maxRecDepth 100000 in
theorem dX9_logMany_5 : decode cX9_logMany 5 = .ok (.bipush 12, 2) := by decide +kernel
set_option maxRecDepth 100000 in
theorem dX9_logMany_7 : decode cX9_logMany 7 = .ok (.if_icmp .ge 27, 3) := by decide +kernel
set_option maxRecDepth 100000 in
theorem dX9_logMany_10 : decode cX9_logMany 10 = .ok (.iload_n 1, 1) := by decide +kernel
set_option maxRecDepth 100000 in
theorem dX9_logMany_11 : decode cX9_logMany 11 = .ok (.aload_n 0, 1) := by decide +kernel
set_option maxRecDepth 100000 in
theorem dX9_logMany_12 : decode cX9_logMany 12 = .ok (.getfield 68, 3) := by decide +kernel
set_option maxRecDepth 100000 in
theorem dX9_logMany_15 : decode cX9_logMany 15 = .ok (.iload_n 2, 1) := by decide +kernel
set_option maxRecDepth 100000 in
theorem dX9_logMany_16 : decode cX9_logMany 16 = .ok (.iaload, 1) := by decide +kernel
set_option maxRecDepth 100000 in
theorem dX9_logMany_17 : decode cX9_logMany 17 = .ok (.iconst (-1), 1) := by decide +kernel
set_option maxRecDepth 100000 in
theorem dX9_logMany_18 : decode cX9_logMany 18 = .ok (.if_icmp .ne 7, 3) := by decide +kernel
set_option maxRecDepth 100000 in
theorem dX9_logMany_21 : decode cX9_logMany 21 = .ok (.iconst 0, 1) := by decide +kernel
set_option maxRecDepth 100000 in
theorem dX9_logMany_22 : decode cX9_logMany 22 = .ok (.goto 4, 3) := by decide +kernel
set_option maxRecDepth 100000 in
theorem dX9_logMany_25 : decode cX9_logMany 25 = .ok (.iconst 1, 1) := by decide +kernel
set_option maxRecDepth 100000 in
theorem dX9_logMany_26 : decode cX9_logMany 26 = .ok (.iadd, 1) := by decide +kernel
set_option maxRecDepth 100000 in
theorem dX9_logMany_27 : decode cX9_logMany 27 = .ok (.istore_n 1, 1) := by decide +kernel
set_option maxRecDepth 100000 in
theorem dX9_logMany_28 : decode cX9_logMany 28 = .ok (.iinc 2 1, 3) := by decide +kernel
set_option maxRecDepth 100000 in
theorem dX9_logMany_31 : decode cX9_logMany 31 = .ok (.goto (-27), 3) := by decide +kernel
set_option maxRecDepth 100000 in
theorem dX9_logMany_34 : decode cX9_logMany 34 = .ok (.iload_n 1, 1) := by decide +kernel
set_option maxRecDepth 100000 in
theorem dX9_logMany_35 : decode cX9_logMany 35 = .ok (.ireturn, 1) := by decide +kernel
set_option maxRecDepth 100000 in
theorem dX9_image_0 : decode cX9_image 0 = .ok (.aload_n 0, 1) := by decide +kernel
set_option maxRecDepth 100000 in
theorem dX9_image_1 : decode cX9_image 1 = .ok (.iconst 1, 1) := by decide +kernel
set_option maxRecDepth 100000 in
theorem dX9_image_2 : decode cX9_image 2 = .ok (.putfield 357, 3) := by decide +kernel
set_option maxRecDepth 100000 in
theorem dX9_image_5 : decode cX9_image 5 = .ok (.aload_n 0, 1) := by decide +kernel
set_option maxRecDepth 100000 in
theorem dX9_image_6 : decode cX9_image 6 = .ok (.aload_n 0, 1) := by decide +kernel
set_option maxRecDepth 100000 in
theorem dX9_image_7 : decode cX9_image 7 = .ok (.getfield 64, 3) := by decide +kernel
set_option maxRecDepth 100000 in
theorem dX9_image_10 : decode cX9_image 10 = .ok (.putfield 360, 3) := by decide +kernel
set_option maxRecDepth 100000 in
theorem dX9_image_13 : decode cX9_image 13 = .ok (.iconst 0, 1) := by decide +kernel
set_option maxRecDepth 100000 in
theorem dX9_image_14 : decode cX9_image 14 = .ok (.istore_n 1, 1) := by decide +kernel
set_option maxRecDepth 100000 in
theorem dX9_image_15 : decode cX9_image 15 = .ok (.iload_n 1, 1) := by decide +kernel
set_option maxRecDepth 100000 in
theorem dX9_image_16 : decode cX9_image 16 = .ok (.iconst 4, 1) := by decide +kernel
set_option maxRecDepth 100000 in
theorem dX9_image_17 : decode cX9_image 17 = .ok (.if_icmp .ge 33, 3) := by decide +kernel
set_option maxRecDepth 100000 in
theorem dX9_image_20 : decode cX9_image 20 = .ok (.aload_n 0, 1) := by decide +kernel
set_option maxRecDepth 100000 in
theorem dX9_image_21 : decode cX9_image 21 = .ok (.getfield 75, 3) := by decide +kernel
set_option maxRecDepth 100000 in
theorem dX9_image_24 : decode cX9_image 24 = .ok (.iload_n 1, 1) := by decide +kernel
set_option maxRecDepth 100000 in
theorem dX9_image_25 : decode cX9_image 25 = .ok (.aload_n 0, 1) := by decide +kernel
set_option maxRecDepth 100000 in
theorem dX9_image_26 : decode cX9_image 26 = .ok (.getfield 37, 3) := by decide +kernel
set_option maxRecDepth 100000 in
theorem dX9_image_29 : decode cX9_image 29 = .ok (.iload_n 1, 1) := by decide +kernel
set_option maxRecDepth 100000 in
theorem dX9_image_30 : decode cX9_image 30 = .ok (.iaload, 1) := by decide +kernel
set_option maxRecDepth 100000 in
theorem dX9_image_31 : decode cX9_image 31 = .ok (.iastore, 1) := by decide +kernel
set_option maxRecDepth 100000 in
theorem dX9_image_32 : decode cX9_image 32 = .ok (.aload_n 0, 1) := by decide +kernel
set_option maxRecDepth 100000 in
theorem dX9_image_33 : decode cX9_image 33 = .ok (.getfield 78, 3) := by decide +kernel
set_option maxRecDepth 100000 in
theorem dX9_image_36 : decode cX9_image 36 = .ok (.iload_n 1, 1) := by decide +kernel
set_option maxRecDepth 100000 in
theorem dX9_image_37 : decode cX9_image 37 = .ok (.aload_n 0, 1) := by decide +kernel
set_option maxRecDepth 100000 in
theorem dX9_image_38 : decode cX9_image 38 = .ok (.getfield 40, 3) := by decide +kernel
set_option maxRecDepth 100000 in
theorem dX9_image_41 : decode cX9_image 41 = .ok (.iload_n 1, 1) := by decide +kernel
set_option maxRecDepth 100000 in
theorem dX9_image_42 : decode cX9_image 42 = .ok (.iaload, 1) := by decide +kernel
set_option maxRecDepth 100000 in
theorem dX9_image_43 : decode cX9_image 43 = .ok (.iastore, 1) := by decide +kernel
set_option maxRecDepth 100000 in
theorem dX9_image_44 : decode cX9_image 44 = .ok (.iinc 1 1, 3) := by decide +kernel
set_option maxRecDepth 100000 in
theorem dX9_image_47 : decode cX9_image 47 = .ok (.goto (-32), 3) := by decide +kernel
set_option maxRecDepth 100000 in
theorem dX9_image_50 : decode cX9_image 50 = .ok (.iconst 0, 1) := by decide +kernel
set_option maxRecDepth 100000 in
theorem dX9_image_51 : decode cX9_image 51 = .ok (.istore_n 1, 1) := by decide +kernel
set_option maxRecDepth 100000 in
theorem dX9_image_52 : decode cX9_image 52 = .ok (.iload_n 1, 1) := by decide +kernel
set_option maxRecDepth 100000 in
theorem dX9_image_53 : decode cX9_image 53 = .ok (.bipush 12, 2) := by decide +kernel
set_option maxRecDepth 100000 in
theorem dX9_image_55 : decode cX9_image 55 = .ok (.if_icmp .ge 21, 3) := by decide +kernel
set_option maxRecDepth 100000 in
theorem dX9_image_58 : decode cX9_image 58 = .ok (.aload_n 0, 1) := by decide +kernel
set_option maxRecDepth 100000 in
theorem dX9_image_59 : decode cX9_image 59 = .ok (.getfield 81, 3) := by decide +kernel
set_option maxRecDepth 100000 in
theorem dX9_image_62 : decode cX9_image 62 = .ok (.iload_n 1, 1) := by decide +kernel
set_option maxRecDepth 100000 in
theorem dX9_image_63 : decode cX9_image 63 = .ok (.aload_n 0, 1) := by decide +kernel
set_option maxRecDepth 100000 in
theorem dX9_image_64 : decode cX9_image 64 = .ok (.getfield 68, 3) := by decide +kernel
set_option maxRecDepth 100000 in
theorem dX9_image_67 : decode cX9_image 67 = .ok (.iload_n 1, 1) := by decide +kernel
set_option maxRecDepth 100000 in
theorem dX9_image_68 : decode cX9_image 68 = .ok (.iaload, 1) := by decide +kernel
set_option maxRecDepth 100000 in
theorem dX9_image_69 : decode cX9_image 69 = .ok (.iastore, 1) := by decide +kernel
set_option maxRecDepth 100000 in
theorem dX9_image_70 : decode cX9_image 70 = .ok (.iinc 1 1, 3) := by decide +kernel
set_option maxRecDepth 100000 in
theorem dX9_image_73 : decode cX9_image 73 = .ok (.goto (-21), 3) := by decide +kernel
set_option maxRecDepth 100000 in
theorem dX9_image_76 : decode cX9_image 76 = .ok (.aload_n 0, 1) := by decide +kernel
set_option maxRecDepth 100000 in
theorem dX9_image_77 : decode cX9_image 77 = .ok (.invokevirtual 363, 3) := by decide +kernel
set_option maxRecDepth 100000 in
theorem dX9_image_80 : decode cX9_image 80 = .ok (.ireturn, 1) := by decide +kernel
set_option maxRecDepth 100000 in
theorem dX9_restore_0 : decode cX9_restore 0 = .ok (.aload_n 0, 1) := by decide +kernel
set_option maxRecDepth 100000 in
theorem dX9_restore_1 : decode cX9_restore 1 = .ok (.getfield 357, 3) := by decide +kernel
set_option maxRecDepth 100000 in
theorem dX9_restore_4 : decode cX9_restore 4 = .ok (.ifCond .ne 6, 3) := by decide +kernel
set_option maxRecDepth 100000 in
theorem dX9_restore_7 : decode cX9_restore 7 = .ok (.bipush (-103), 2) := by decide +kernel
set_option maxRecDepth 100000 in
theorem dX9_restore_9 : decode cX9_restore 9 = .ok (.ireturn, 1) := by decide +kernel
set_option maxRecDepth 100000 in
theorem dX9_restore_10 : decode cX9_restore 10 = .ok (.aload_n 0, 1) := by decide +kernel
set_option maxRecDepth 100000 in
theorem dX9_restore_11 : decode cX9_restore 11 = .ok (.aload_n 0, 1) := by decide +kernel
set_option maxRecDepth 100000 in
theorem dX9_restore_12 : decode cX9_restore 12 = .ok (.getfield 360, 3) := by decide +kernel
set_option maxRecDepth 100000 in
theorem dX9_restore_15 : decode cX9_restore 15 = .ok (.putfield 64, 3) := by decide +kernel
set_option maxRecDepth 100000 in
theorem dX9_restore_18 : decode cX9_restore 18 = .ok (.iconst 0, 1) := by decide +kernel
set_option maxRecDepth 100000 in
theorem dX9_restore_19 : decode cX9_restore 19 = .ok (.istore_n 1, 1) := by decide +kernel
set_option maxRecDepth 100000 in
theorem dX9_restore_20 : decode cX9_restore 20 = .ok (.iload_n 1, 1) := by decide +kernel
set_option maxRecDepth 100000 in
theorem dX9_restore_21 : decode cX9_restore 21 = .ok (.iconst 4, 1) := by decide +kernel
set_option maxRecDepth 100000 in
theorem dX9_restore_22 : decode cX9_restore 22 = .ok (.if_icmp .ge 33, 3) := by decide +kernel
set_option maxRecDepth 100000 in
theorem dX9_restore_25 : decode cX9_restore 25 = .ok (.aload_n 0, 1) := by decide +kernel
set_option maxRecDepth 100000 in
theorem dX9_restore_26 : decode cX9_restore 26 = .ok (.getfield 37, 3) := by decide +kernel
set_option maxRecDepth 100000 in
theorem dX9_restore_29 : decode cX9_restore 29 = .ok (.iload_n 1, 1) := by decide +kernel
set_option maxRecDepth 100000 in
theorem dX9_restore_30 : decode cX9_restore 30 = .ok (.aload_n 0, 1) := by decide +kernel
set_option maxRecDepth 100000 in
theorem dX9_restore_31 : decode cX9_restore 31 = .ok (.getfield 75, 3) := by decide +kernel
set_option maxRecDepth 100000 in
theorem dX9_restore_34 : decode cX9_restore 34 = .ok (.iload_n 1, 1) := by decide +kernel
set_option maxRecDepth 100000 in
theorem dX9_restore_35 : decode cX9_restore 35 = .ok (.iaload, 1) := by decide +kernel
set_option maxRecDepth 100000 in
theorem dX9_restore_36 : decode cX9_restore 36 = .ok (.iastore, 1) := by decide +kernel
set_option maxRecDepth 100000 in
theorem dX9_restore_37 : decode cX9_restore 37 = .ok (.aload_n 0, 1) := by decide +kernel
set_option maxRecDepth 100000 in
theorem dX9_restore_38 : decode cX9_restore 38 = .ok (.getfield 40, 3) := by decide +kernel
set_option maxRecDepth 100000 in
theorem dX9_restore_41 : decode cX9_restore 41 = .ok (.iload_n 1, 1) := by decide +kernel
set_option maxRecDepth 100000 in
theorem dX9_restore_42 : decode cX9_restore 42 = .ok (.aload_n 0, 1) := by decide +kernel
set_option maxRecDepth 100000 in
theorem dX9_restore_43 : decode cX9_restore 43 = .ok (.getfield 78, 3) := by decide +kernel
set_option maxRecDepth 100000 in
theorem dX9_restore_46 : decode cX9_restore 46 = .ok (.iload_n 1, 1) := by decide +kernel
set_option maxRecDepth 100000 in
theorem dX9_restore_47 : decode cX9_restore 47 = .ok (.iaload, 1) := by decide +kernel
set_option maxRecDepth 100000 in
theorem dX9_restore_48 : decode cX9_restore 48 = .ok (.iastore, 1) := by decide +kernel
set_option maxRecDepth 100000 in
theorem dX9_restore_49 : decode cX9_restore 49 = .ok (.iinc 1 1, 3) := by decide +kernel
set_option maxRecDepth 100000 in
theorem dX9_restore_52 : decode cX9_restore 52 = .ok (.goto (-32), 3) := by decide +kernel
set_option maxRecDepth 100000 in
theorem dX9_restore_55 : decode cX9_restore 55 = .ok (.iconst 0, 1) := by decide +kernel
set_option maxRecDepth 100000 in
theorem dX9_restore_56 : decode cX9_restore 56 = .ok (.istore_n 1, 1) := by decide +kernel
set_option maxRecDepth 100000 in
theorem dX9_restore_57 : decode cX9_restore 57 = .ok (.iload_n 1, 1) := by decide +kernel
set_option maxRecDepth 100000 in
theorem dX9_restore_58 : decode cX9_restore 58 = .ok (.bipush 12, 2) := by decide +kernel
set_option maxRecDepth 100000 in
theorem dX9_restore_60 : decode cX9_restore 60 = .ok (.if_icmp .ge 21, 3) := by decide +kernel
set_option maxRecDepth 100000 in
theorem dX9_restore_63 : decode cX9_restore 63 = .ok (.aload_n 0, 1) := by decide +kernel
set_option maxRecDepth 100000 in
theorem dX9_restore_64 : decode cX9_restore 64 = .ok (.getfield 68, 3) := by decide +kernel
set_option maxRecDepth 100000 in
theorem dX9_restore_67 : decode cX9_restore 67 = .ok (.iload_n 1, 1) := by decide +kernel
set_option maxRecDepth 100000 in
theorem dX9_restore_68 : decode cX9_restore 68 = .ok (.aload_n 0, 1) := by decide +kernel
set_option maxRecDepth 100000 in
theorem dX9_restore_69 : decode cX9_restore 69 = .ok (.getfield 81, 3) := by decide +kernel
set_option maxRecDepth 100000 in
theorem dX9_restore_72 : decode cX9_restore 72 = .ok (.iload_n 1, 1) := by decide +kernel
set_option maxRecDepth 100000 in
theorem dX9_restore_73 : decode cX9_restore 73 = .ok (.iaload, 1) := by decide +kernel
set_option maxRecDepth 100000 in
theorem dX9_restore_74 : decode cX9_restore 74 = .ok (.iastore, 1) := by decide +kernel
set_option maxRecDepth 100000 in
theorem dX9_restore_75 : decode cX9_restore 75 = .ok (.iinc 1 1, 3) := by decide +kernel
set_option maxRecDepth 100000 in
theorem dX9_restore_78 : decode cX9_restore 78 = .ok (.goto (-21), 3) := by decide +kernel
set_option maxRecDepth 100000 in
theorem dX9_restore_81 : decode cX9_restore 81 = .ok (.aload_n 0, 1) := by decide +kernel
set_option maxRecDepth 100000 in
theorem dX9_restore_82 : decode cX9_restore 82 = .ok (.invokevirtual 363, 3) := by decide +kernel
set_option maxRecDepth 100000 in
theorem dX9_restore_85 : decode cX9_restore 85 = .ok (.ireturn, 1) := by decide +kernel
set_option maxRecDepth 100000 in
theorem dX9_howMany_0 : decode cX9_howMany 0 = .ok (.iload_n 1, 1) := by decide +kernel
set_option maxRecDepth 100000 in
theorem dX9_howMany_1 : decode cX9_howMany 1 = .ok (.tableswitch 69 0 5 #[39, 44, 49, 54, 59, 64], 39) := by decide +kernel
set_option maxRecDepth 100000 in
theorem dX9_howMany_40 : decode cX9_howMany 40 = .ok (.aload_n 0, 1) := by decide +kernel
set_option maxRecDepth 100000 in
theorem dX9_howMany_41 : decode cX9_howMany 41 = .ok (.getfield 188, 3) := by decide +kernel
set_option maxRecDepth 100000 in
theorem dX9_howMany_44 : decode cX9_howMany 44 = .ok (.ireturn, 1) := by decide +kernel
set_option maxRecDepth 100000 in
theorem dX9_howMany_45 : decode cX9_howMany 45 = .ok (.aload_n 0, 1) := by decide +kernel
set_option maxRecDepth 100000 in
theorem dX9_howMany_46 : decode cX9_howMany 46 = .ok (.getfield 191, 3) := by decide +kernel
set_option maxRecDepth 100000 in
theorem dX9_howMany_49 : decode cX9_howMany 49 = .ok (.ireturn, 1) := by decide +kernel
set_option maxRecDepth 100000 in
theorem dX9_howMany_50 : decode cX9_howMany 50 = .ok (.aload_n 0, 1) := by decide +kernel
set_option maxRecDepth 100000 in
theorem dX9_howMany_51 : decode cX9_howMany 51 = .ok (.getfield 209, 3) := by decide +kernel
set_option maxRecDepth 100000 in
theorem dX9_howMany_54 : decode cX9_howMany 54 = .ok (.ireturn, 1) := by decide +kernel
set_option maxRecDepth 100000 in
theorem dX9_howMany_55 : decode cX9_howMany 55 = .ok (.aload_n 0, 1) := by decide +kernel
set_option maxRecDepth 100000 in
theorem dX9_howMany_56 : decode cX9_howMany 56 = .ok (.getfield 129, 3) := by decide +kernel
set_option maxRecDepth 100000 in
theorem dX9_howMany_59 : decode cX9_howMany 59 = .ok (.ireturn, 1) := by decide +kernel
set_option maxRecDepth 100000 in
theorem dX9_howMany_60 : decode cX9_howMany 60 = .ok (.aload_n 0, 1) := by decide +kernel
set_option maxRecDepth 100000 in
theorem dX9_howMany_61 : decode cX9_howMany 61 = .ok (.invokevirtual 363, 3) := by decide +kernel
set_option maxRecDepth 100000 in
theorem dX9_howMany_64 : decode cX9_howMany 64 = .ok (.ireturn, 1) := by decide +kernel
set_option maxRecDepth 100000 in
theorem dX9_howMany_65 : decode cX9_howMany 65 = .ok (.aload_n 0, 1) := by decide +kernel
set_option maxRecDepth 100000 in
theorem dX9_howMany_66 : decode cX9_howMany 66 = .ok (.getfield 341, 3) := by decide +kernel
set_option maxRecDepth 100000 in
theorem dX9_howMany_69 : decode cX9_howMany 69 = .ok (.ireturn, 1) := by decide +kernel
set_option maxRecDepth 100000 in
theorem dX9_howMany_70 : decode cX9_howMany 70 = .ok (.bipush (-102), 2) := by decide +kernel
set_option maxRecDepth 100000 in
theorem dX9_howMany_72 : decode cX9_howMany 72 = .ok (.ireturn, 1) := by decide +kernel
set_option maxRecDepth 100000 in
theorem dX9_count_0 : decode cX9_count 0 = .ok (.aload_n 0, 1) := by decide +kernel
set_option maxRecDepth 100000 in
theorem dX9_count_1 : decode cX9_count 1 = .ok (.iload_n 1, 1) := by decide +kernel
set_option maxRecDepth 100000 in
theorem dX9_count_2 : decode cX9_count 2 = .ok (.invokevirtual 366, 3) := by decide +kernel
set_option maxRecDepth 100000 in
theorem dX9_count_5 : decode cX9_count 5 = .ok (.ireturn, 1) := by decide +kernel
set_option maxRecDepth 100000 in
theorem dX9_mix_0 : decode cX9_mix 0 = .ok (.aload_n 0, 1) := by decide +kernel
set_option maxRecDepth 100000 in
theorem dX9_mix_1 : decode cX9_mix 1 = .ok (.ldc2_w 369, 3) := by decide +kernel
set_option maxRecDepth 100000 in
theorem dX9_mix_4 : decode cX9_mix 4 = .ok (.aload_n 0, 1) := by decide +kernel
set_option maxRecDepth 100000 in
theorem dX9_mix_5 : decode cX9_mix 5 = .ok (.getfield 371, 3) := by decide +kernel
set_option maxRecDepth 100000 in
theorem dX9_mix_8 : decode cX9_mix 8 = .ok (.lmul, 1) := by decide +kernel
set_option maxRecDepth 100000 in
theorem dX9_mix_9 : decode cX9_mix 9 = .ok (.lload_n 1, 1) := by decide +kernel
set_option maxRecDepth 100000 in
theorem dX9_mix_10 : decode cX9_mix 10 = .ok (.ladd, 1) := by decide +kernel
set_option maxRecDepth 100000 in
theorem dX9_mix_11 : decode cX9_mix 11 = .ok (.putfield 371, 3) := by decide +kernel
set_option maxRecDepth 100000 in
theorem dX9_mix_14 : decode cX9_mix 14 = .ok (.return_, 1) := by decide +kernel
set_option maxRecDepth 100000 in
theorem dX9_mixClock_0 : decode cX9_mixClock 0 = .ok (.iconst 0, 1) := by decide +kernel
set_option maxRecDepth 100000 in
theorem dX9_mixClock_1 : decode cX9_mixClock 1 = .ok (.istore_n 2, 1) := by decide +kernel
set_option maxRecDepth 100000 in
theorem dX9_mixClock_2 : decode cX9_mixClock 2 = .ok (.iload_n 2, 1) := by decide +kernel
set_option maxRecDepth 100000 in
theorem dX9_mixClock_3 : decode cX9_mixClock 3 = .ok (.iconst 5, 1) := by decide +kernel
set_option maxRecDepth 100000 in
theorem dX9_mixClock_4 : decode cX9_mixClock 4 = .ok (.if_icmp .ge 20, 3) := by decide +kernel
set_option maxRecDepth 100000 in
theorem dX9_mixClock_7 : decode cX9_mixClock 7 = .ok (.aload_n 0, 1) := by decide +kernel
set_option maxRecDepth 100000 in
theorem dX9_mixClock_8 : decode cX9_mixClock 8 = .ok (.aload_n 0, 1) := by decide +kernel
set_option maxRecDepth 100000 in
theorem dX9_mixClock_9 : decode cX9_mixClock 9 = .ok (.iload_n 1, 1) := by decide +kernel
set_option maxRecDepth 100000 in
theorem dX9_mixClock_10 : decode cX9_mixClock 10 = .ok (.iload_n 2, 1) := by decide +kernel
set_option maxRecDepth 100000 in
theorem dX9_mixClock_11 : decode cX9_mixClock 11 = .ok (.invokevirtual 200, 3) := by decide +kernel
set_option maxRecDepth 100000 in
theorem dX9_mixClock_14 : decode cX9_mixClock 14 = .ok (.i2l, 1) := by decide +kernel
set_option maxRecDepth 100000 in
theorem dX9_mixClock_15 : decode cX9_mixClock 15 = .ok (.invokevirtual 375, 3) := by decide +kernel
set_option maxRecDepth 100000 in
theorem dX9_mixClock_18 : decode cX9_mixClock 18 = .ok (.iinc 2 1, 3) := by decide +kernel
set_option maxRecDepth 100000 in
theorem dX9_mixClock_21 : decode cX9_mixClock 21 = .ok (.goto (-19), 3) := by decide +kernel
set_option maxRecDepth 100000 in
theorem dX9_mixClock_24 : decode cX9_mixClock 24 = .ok (.iconst 0, 1) := by decide +kernel
set_option maxRecDepth 100000 in
theorem dX9_mixClock_25 : decode cX9_mixClock 25 = .ok (.istore_n 2, 1) := by decide +kernel
set_option maxRecDepth 100000 in
theorem dX9_mixClock_26 : decode cX9_mixClock 26 = .ok (.iload_n 2, 1) := by decide +kernel
set_option maxRecDepth 100000 in
theorem dX9_mixClock_27 : decode cX9_mixClock 27 = .ok (.aload_n 0, 1) := by decide +kernel
set_option maxRecDepth 100000 in
theorem dX9_mixClock_28 : decode cX9_mixClock 28 = .ok (.getfield 7, 3) := by decide +kernel
set_option maxRecDepth 100000 in
theorem dX9_mixClock_31 : decode cX9_mixClock 31 = .ok (.iload_n 1, 1) := by decide +kernel
set_option maxRecDepth 100000 in
theorem dX9_mixClock_32 : decode cX9_mixClock 32 = .ok (.iaload, 1) := by decide +kernel
set_option maxRecDepth 100000 in
theorem dX9_mixClock_33 : decode cX9_mixClock 33 = .ok (.if_icmp .ge 54, 3) := by decide +kernel
set_option maxRecDepth 100000 in
theorem dX9_mixClock_36 : decode cX9_mixClock 36 = .ok (.aload_n 0, 1) := by decide +kernel
set_option maxRecDepth 100000 in
theorem dX9_mixClock_37 : decode cX9_mixClock 37 = .ok (.aload_n 0, 1) := by decide +kernel
set_option maxRecDepth 100000 in
theorem dX9_mixClock_38 : decode cX9_mixClock 38 = .ok (.getfield 13, 3) := by decide +kernel
set_option maxRecDepth 100000 in
theorem dX9_mixClock_41 : decode cX9_mixClock 41 = .ok (.iconst 3, 1) := by decide +kernel
set_option maxRecDepth 100000 in
theorem dX9_mixClock_42 : decode cX9_mixClock 42 = .ok (.iload_n 1, 1) := by decide +kernel
set_option maxRecDepth 100000 in
theorem dX9_mixClock_43 : decode cX9_mixClock 43 = .ok (.imul, 1) := by decide +kernel
set_option maxRecDepth 100000 in
theorem dX9_mixClock_44 : decode cX9_mixClock 44 = .ok (.iload_n 2, 1) := by decide +kernel
set_option maxRecDepth 100000 in
theorem dX9_mixClock_45 : decode cX9_mixClock 45 = .ok (.iadd, 1) := by decide +kernel
set_option maxRecDepth 100000 in
theorem dX9_mixClock_46 : decode cX9_mixClock 46 = .ok (.iaload, 1) := by decide +kernel
set_option maxRecDepth 100000 in
theorem dX9_mixClock_47 : decode cX9_mixClock 47 = .ok (.i2l, 1) := by decide +kernel
set_option maxRecDepth 100000 in
theorem dX9_mixClock_48 : decode cX9_mixClock 48 = .ok (.invokevirtual 375, 3) := by decide +kernel
set_option maxRecDepth 100000 in
theorem dX9_mixClock_51 : decode cX9_mixClock 51 = .ok (.aload_n 0, 1) := by decide +kernel
set_option maxRecDepth 100000 in
theorem dX9_mixClock_52 : decode cX9_mixClock 52 = .ok (.aload_n 0, 1) := by decide +kernel
set_option maxRecDepth 100000 in
theorem dX9_mixClock_53 : decode cX9_mixClock 53 = .ok (.getfield 16, 3) := by decide +kernel
set_option maxRecDepth 100000 in
theorem dX9_mixClock_56 : decode cX9_mixClock 56 = .ok (.iconst 3, 1) := by decide +kernel
set_option maxRecDepth 100000 in
theorem dX9_mixClock_57 : decode cX9_mixClock 57 = .ok (.iload_n 1, 1) := by decide +kernel
set_option maxRecDepth 100000 in
theorem dX9_mixClock_58 : decode cX9_mixClock 58 = .ok (.imul, 1) := by decide +kernel
set_option maxRecDepth 100000 in
theorem dX9_mixClock_59 : decode cX9_mixClock 59 = .ok (.iload_n 2, 1) := by decide +kernel
set_option maxRecDepth 100000 in
theorem dX9_mixClock_60 : decode cX9_mixClock 60 = .ok (.iadd, 1) := by decide +kernel
set_option maxRecDepth 100000 in
theorem dX9_mixClock_61 : decode cX9_mixClock 61 = .ok (.iaload, 1) := by decide +kernel
set_option maxRecDepth 100000 in
theorem dX9_mixClock_62 : decode cX9_mixClock 62 = .ok (.i2l, 1) := by decide +kernel
set_option maxRecDepth 100000 in
theorem dX9_mixClock_63 : decode cX9_mixClock 63 = .ok (.invokevirtual 375, 3) := by decide +kernel
set_option maxRecDepth 100000 in
theorem dX9_mixClock_66 : decode cX9_mixClock 66 = .ok (.aload_n 0, 1) := by decide +kernel
set_option maxRecDepth 100000 in
theorem dX9_mixClock_67 : decode cX9_mixClock 67 = .ok (.aload_n 0, 1) := by decide +kernel
set_option maxRecDepth 100000 in
theorem dX9_mixClock_68 : decode cX9_mixClock 68 = .ok (.getfield 19, 3) := by decide +kernel
set_option maxRecDepth 100000 in
theorem dX9_mixClock_71 : decode cX9_mixClock 71 = .ok (.iconst 3, 1) := by decide +kernel
set_option maxRecDepth 100000 in
theorem dX9_mixClock_72 : decode cX9_mixClock 72 = .ok (.iload_n 1, 1) := by decide +kernel
set_option maxRecDepth 100000 in
theorem dX9_mixClock_73 : decode cX9_mixClock 73 = .ok (.imul, 1) := by decide +kernel
set_option maxRecDepth 100000 in
theorem dX9_mixClock_74 : decode cX9_mixClock 74 = .ok (.iload_n 2, 1) := by decide +kernel
set_option maxRecDepth 100000 in
theorem dX9_mixClock_75 : decode cX9_mixClock 75 = .ok (.iadd, 1) := by decide +kernel
set_option maxRecDepth 100000 in
theorem dX9_mixClock_76 : decode cX9_mixClock 76 = .ok (.iaload, 1) := by decide +kernel
set_option maxRecDepth 100000 in
theorem dX9_mixClock_77 : decode cX9_mixClock 77 = .ok (.i2l, 1) := by decide +kernel
set_option maxRecDepth 100000 in
theorem dX9_mixClock_78 : decode cX9_mixClock 78 = .ok (.invokevirtual 375, 3) := by decide +kernel
set_option maxRecDepth 100000 in
theorem dX9_mixClock_81 : decode cX9_mixClock 81 = .ok (.iinc 2 1, 3) := by decide +kernel
set_option maxRecDepth 100000 in
theorem dX9_mixClock_84 : decode cX9_mixClock 84 = .ok (.goto (-58), 3) := by decide +kernel
set_option maxRecDepth 100000 in
theorem dX9_mixClock_87 : decode cX9_mixClock 87 = .ok (.iconst 0, 1) := by decide +kernel
set_option maxRecDepth 100000 in
theorem dX9_mixClock_88 : decode cX9_mixClock 88 = .ok (.istore_n 2, 1) := by decide +kernel
set_option maxRecDepth 100000 in
theorem dX9_mixClock_89 : decode cX9_mixClock 89 = .ok (.iload_n 2, 1) := by decide +kernel
set_option maxRecDepth 100000 in
theorem dX9_mixClock_90 : decode cX9_mixClock 90 = .ok (.aload_n 0, 1) := by decide +kernel
set_option maxRecDepth 100000 in
theorem dX9_mixClock_91 : decode cX9_mixClock 91 = .ok (.getfield 31, 3) := by decide +kernel
set_option maxRecDepth 100000 in
theorem dX9_mixClock_94 : decode cX9_mixClock 94 = .ok (.iload_n 1, 1) := by decide +kernel
set_option maxRecDepth 100000 in
theorem dX9_mixClock_95 : decode cX9_mixClock 95 = .ok (.iaload, 1) := by decide +kernel
set_option maxRecDepth 100000 in
theorem dX9_mixClock_96 : decode cX9_mixClock 96 = .ok (.if_icmp .ge 25, 3) := by decide +kernel
set_option maxRecDepth 100000 in
theorem dX9_mixClock_99 : decode cX9_mixClock 99 = .ok (.aload_n 0, 1) := by decide +kernel
set_option maxRecDepth 100000 in
theorem dX9_mixClock_100 : decode cX9_mixClock 100 = .ok (.aload_n 0, 1) := by decide +kernel
set_option maxRecDepth 100000 in
theorem dX9_mixClock_101 : decode cX9_mixClock 101 = .ok (.getfield 34, 3) := by decide +kernel
set_option maxRecDepth 100000 in
theorem dX9_mixClock_104 : decode cX9_mixClock 104 = .ok (.bipush 12, 2) := by decide +kernel
set_option maxRecDepth 100000 in
theorem dX9_mixClock_106 : decode cX9_mixClock 106 = .ok (.iload_n 1, 1) := by decide +kernel
set_option maxRecDepth 100000 in
theorem dX9_mixClock_107 : decode cX9_mixClock 107 = .ok (.imul, 1) := by decide +kernel
set_option maxRecDepth 100000 in
theorem dX9_mixClock_108 : decode cX9_mixClock 108 = .ok (.iload_n 2, 1) := by decide +kernel
set_option maxRecDepth 100000 in
theorem dX9_mixClock_109 : decode cX9_mixClock 109 = .ok (.iadd, 1) := by decide +kernel
set_option maxRecDepth 100000 in
theorem dX9_mixClock_110 : decode cX9_mixClock 110 = .ok (.iaload, 1) := by decide +kernel
set_option maxRecDepth 100000 in
theorem dX9_mixClock_111 : decode cX9_mixClock 111 = .ok (.i2l, 1) := by decide +kernel
set_option maxRecDepth 100000 in
theorem dX9_mixClock_112 : decode cX9_mixClock 112 = .ok (.invokevirtual 375, 3) := by decide +kernel
set_option maxRecDepth 100000 in
theorem dX9_mixClock_115 : decode cX9_mixClock 115 = .ok (.iinc 2 1, 3) := by decide +kernel
set_option maxRecDepth 100000 in
theorem dX9_mixClock_118 : decode cX9_mixClock 118 = .ok (.goto (-29), 3) := by decide +kernel
set_option maxRecDepth 100000 in
theorem dX9_mixClock_121 : decode cX9_mixClock 121 = .ok (.aload_n 0, 1) := by decide +kernel
set_option maxRecDepth 100000 in
theorem dX9_mixClock_122 : decode cX9_mixClock 122 = .ok (.iload_n 1, 1) := by decide +kernel
set_option maxRecDepth 100000 in
theorem dX9_mixClock_123 : decode cX9_mixClock 123 = .ok (.iconst 0, 1) := by decide +kernel
set_option maxRecDepth 100000 in
theorem dX9_mixClock_124 : decode cX9_mixClock 124 = .ok (.iconst (-1), 1) := by decide +kernel
set_option maxRecDepth 100000 in
theorem dX9_mixClock_125 : decode cX9_mixClock 125 = .ok (.invokevirtual 280, 3) := by decide +kernel
set_option maxRecDepth 100000 in
theorem dX9_mixClock_128 : decode cX9_mixClock 128 = .ok (.iconst 0, 1) := by decide +kernel
set_option maxRecDepth 100000 in
theorem dX9_mixClock_129 : decode cX9_mixClock 129 = .ok (.istore_n 2, 1) := by decide +kernel
set_option maxRecDepth 100000 in
theorem dX9_mixClock_130 : decode cX9_mixClock 130 = .ok (.iload_n 2, 1) := by decide +kernel
set_option maxRecDepth 100000 in
theorem dX9_mixClock_131 : decode cX9_mixClock 131 = .ok (.aload_n 0, 1) := by decide +kernel
set_option maxRecDepth 100000 in
theorem dX9_mixClock_132 : decode cX9_mixClock 132 = .ok (.getfield 31, 3) := by decide +kernel
set_option maxRecDepth 100000 in
theorem dX9_mixClock_135 : decode cX9_mixClock 135 = .ok (.iload_n 1, 1) := by decide +kernel
set_option maxRecDepth 100000 in
theorem dX9_mixClock_136 : decode cX9_mixClock 136 = .ok (.iaload, 1) := by decide +kernel
set_option maxRecDepth 100000 in
theorem dX9_mixClock_137 : decode cX9_mixClock 137 = .ok (.if_icmp .ge 23, 3) := by decide +kernel
set_option maxRecDepth 100000 in
theorem dX9_mixClock_140 : decode cX9_mixClock 140 = .ok (.aload_n 0, 1) := by decide +kernel
set_option maxRecDepth 100000 in
theorem dX9_mixClock_141 : decode cX9_mixClock 141 = .ok (.aload_n 0, 1) := by decide +kernel
set_option maxRecDepth 100000 in
theorem dX9_mixClock_142 : decode cX9_mixClock 142 = .ok (.getfield 102, 3) := by decide +kernel
set_option maxRecDepth 100000 in
theorem dX9_mixClock_145 : decode cX9_mixClock 145 = .ok (.iload_n 2, 1) := by decide +kernel
set_option maxRecDepth 100000 in
theorem dX9_mixClock_146 : decode cX9_mixClock 146 = .ok (.iaload, 1) := by decide +kernel
set_option maxRecDepth 100000 in
theorem dX9_mixClock_147 : decode cX9_mixClock 147 = .ok (.invokestatic 283, 3) := by decide +kernel
set_option maxRecDepth 100000 in
theorem dX9_mixClock_150 : decode cX9_mixClock 150 = .ok (.i2l, 1) := by decide +kernel
set_option maxRecDepth 100000 in
theorem dX9_mixClock_151 : decode cX9_mixClock 151 = .ok (.invokevirtual 375, 3) := by decide +kernel
set_option maxRecDepth 100000 in
theorem dX9_mixClock_154 : decode cX9_mixClock 154 = .ok (.iinc 2 1, 3) := by decide +kernel
set_option maxRecDepth 100000 in
theorem dX9_mixClock_157 : decode cX9_mixClock 157 = .ok (.goto (-27), 3) := by decide +kernel
set_option maxRecDepth 100000 in
theorem dX9_mixClock_160 : decode cX9_mixClock 160 = .ok (.aload_n 0, 1) := by decide +kernel
set_option maxRecDepth 100000 in
theorem dX9_mixClock_161 : decode cX9_mixClock 161 = .ok (.iload_n 1, 1) := by decide +kernel
set_option maxRecDepth 100000 in
theorem dX9_mixClock_162 : decode cX9_mixClock 162 = .ok (.invokevirtual 320, 3) := by decide +kernel
set_option maxRecDepth 100000 in
theorem dX9_mixClock_165 : decode cX9_mixClock 165 = .ok (.iconst 0, 1) := by decide +kernel
set_option maxRecDepth 100000 in
theorem dX9_mixClock_166 : decode cX9_mixClock 166 = .ok (.istore_n 2, 1) := by decide +kernel
set_option maxRecDepth 100000 in
theorem dX9_mixClock_167 : decode cX9_mixClock 167 = .ok (.iload_n 2, 1) := by decide +kernel
set_option maxRecDepth 100000 in
theorem dX9_mixClock_168 : decode cX9_mixClock 168 = .ok (.iconst 4, 1) := by decide +kernel
set_option maxRecDepth 100000 in
theorem dX9_mixClock_169 : decode cX9_mixClock 169 = .ok (.if_icmp .ge 19, 3) := by decide +kernel
set_option maxRecDepth 100000 in
theorem dX9_mixClock_172 : decode cX9_mixClock 172 = .ok (.aload_n 0, 1) := by decide +kernel
set_option maxRecDepth 100000 in
theorem dX9_mixClock_173 : decode cX9_mixClock 173 = .ok (.aload_n 0, 1) := by decide +kernel
set_option maxRecDepth 100000 in
theorem dX9_mixClock_174 : decode cX9_mixClock 174 = .ok (.iload_n 2, 1) := by decide +kernel
set_option maxRecDepth 100000 in
theorem dX9_mixClock_175 : decode cX9_mixClock 175 = .ok (.invokevirtual 323, 3) := by decide +kernel
set_option maxRecDepth 100000 in
theorem dX9_mixClock_178 : decode cX9_mixClock 178 = .ok (.i2l, 1) := by decide +kernel
set_option maxRecDepth 100000 in
theorem dX9_mixClock_179 : decode cX9_mixClock 179 = .ok (.invokevirtual 375, 3) := by decide +kernel
set_option maxRecDepth 100000 in
theorem dX9_mixClock_182 : decode cX9_mixClock 182 = .ok (.iinc 2 1, 3) := by decide +kernel
set_option maxRecDepth 100000 in
theorem dX9_mixClock_185 : decode cX9_mixClock 185 = .ok (.goto (-18), 3) := by decide +kernel
set_option maxRecDepth 100000 in
theorem dX9_mixClock_188 : decode cX9_mixClock 188 = .ok (.return_, 1) := by decide +kernel
set_option maxRecDepth 100000 in
theorem dX9_digest_0 : decode cX9_digest 0 = .ok (.aload_n 0, 1) := by decide +kernel
set_option maxRecDepth 100000 in
theorem dX9_digest_1 : decode cX9_digest 1 = .ok (.ldc2_w 379, 3) := by decide +kernel
set_option maxRecDepth 100000 in
theorem dX9_digest_4 : decode cX9_digest 4 = .ok (.putfield 371, 3) := by decide +kernel
set_option maxRecDepth 100000 in
theorem dX9_digest_7 : decode cX9_digest 7 = .ok (.iconst 0, 1) := by decide +kernel
set_option maxRecDepth 100000 in
theorem dX9_digest_8 : decode cX9_digest 8 = .ok (.istore_n 1, 1) := by decide +kernel
set_option maxRecDepth 100000 in
theorem dX9_digest_9 : decode cX9_digest 9 = .ok (.iload_n 1, 1) := by decide +kernel
set_option maxRecDepth 100000 in
theorem dX9_digest_10 : decode cX9_digest 10 = .ok (.iconst 4, 1) := by decide +kernel
set_option maxRecDepth 100000 in
theorem dX9_digest_11 : decode cX9_digest 11 = .ok (.if_icmp .ge 31, 3) := by decide +kernel
set_option maxRecDepth 100000 in
theorem dX9_digest_14 : decode cX9_digest 14 = .ok (.aload_n 0, 1) := by decide +kernel
set_option maxRecDepth 100000 in
theorem dX9_digest_15 : decode cX9_digest 15 = .ok (.aload_n 0, 1) := by decide +kernel
set_option maxRecDepth 100000 in
theorem dX9_digest_16 : decode cX9_digest 16 = .ok (.getfield 37, 3) := by decide +kernel
set_option maxRecDepth 100000 in
theorem dX9_digest_19 : decode cX9_digest 19 = .ok (.iload_n 1, 1) := by decide +kernel
set_option maxRecDepth 100000 in
theorem dX9_digest_20 : decode cX9_digest 20 = .ok (.iaload, 1) := by decide +kernel
set_option maxRecDepth 100000 in
theorem dX9_digest_21 : decode cX9_digest 21 = .ok (.i2l, 1) := by decide +kernel
set_option maxRecDepth 100000 in
theorem dX9_digest_22 : decode cX9_digest 22 = .ok (.invokevirtual 375, 3) := by decide +kernel
set_option maxRecDepth 100000 in
theorem dX9_digest_25 : decode cX9_digest 25 = .ok (.aload_n 0, 1) := by decide +kernel
set_option maxRecDepth 100000 in
theorem dX9_digest_26 : decode cX9_digest 26 = .ok (.aload_n 0, 1) := by decide +kernel
set_option maxRecDepth 100000 in
theorem dX9_digest_27 : decode cX9_digest 27 = .ok (.getfield 40, 3) := by decide +kernel
set_option maxRecDepth 100000 in
theorem dX9_digest_30 : decode cX9_digest 30 = .ok (.iload_n 1, 1) := by decide +kernel
set_option maxRecDepth 100000 in
theorem dX9_digest_31 : decode cX9_digest 31 = .ok (.iaload, 1) := by decide +kernel
set_option maxRecDepth 100000 in
theorem dX9_digest_32 : decode cX9_digest 32 = .ok (.i2l, 1) := by decide +kernel
set_option maxRecDepth 100000 in
theorem dX9_digest_33 : decode cX9_digest 33 = .ok (.invokevirtual 375, 3) := by decide +kernel
set_option maxRecDepth 100000 in
theorem dX9_digest_36 : decode cX9_digest 36 = .ok (.iinc 1 1, 3) := by decide +kernel
set_option maxRecDepth 100000 in
theorem dX9_digest_39 : decode cX9_digest 39 = .ok (.goto (-30), 3) := by decide +kernel
set_option maxRecDepth 100000 in
theorem dX9_digest_42 : decode cX9_digest 42 = .ok (.iconst 0, 1) := by decide +kernel
set_option maxRecDepth 100000 in
theorem dX9_digest_43 : decode cX9_digest 43 = .ok (.istore_n 1, 1) := by decide +kernel
set_option maxRecDepth 100000 in
theorem dX9_digest_44 : decode cX9_digest 44 = .ok (.iload_n 1, 1) := by decide +kernel
set_option maxRecDepth 100000 in
theorem dX9_digest_45 : decode cX9_digest 45 = .ok (.aload_n 0, 1) := by decide +kernel
set_option maxRecDepth 100000 in
theorem dX9_digest_46 : decode cX9_digest 46 = .ok (.getfield 188, 3) := by decide +kernel
set_option maxRecDepth 100000 in
theorem dX9_digest_49 : decode cX9_digest 49 = .ok (.if_icmp .ge 14, 3) := by decide +kernel
set_option maxRecDepth 100000 in
theorem dX9_digest_52 : decode cX9_digest 52 = .ok (.aload_n 0, 1) := by decide +kernel
set_option maxRecDepth 100000 in
theorem dX9_digest_53 : decode cX9_digest 53 = .ok (.iload_n 1, 1) := by decide +kernel
set_option maxRecDepth 100000 in
theorem dX9_digest_54 : decode cX9_digest 54 = .ok (.invokevirtual 381, 3) := by decide +kernel
set_option maxRecDepth 100000 in
theorem dX9_digest_57 : decode cX9_digest 57 = .ok (.iinc 1 1, 3) := by decide +kernel
set_option maxRecDepth 100000 in
theorem dX9_digest_60 : decode cX9_digest 60 = .ok (.goto (-16), 3) := by decide +kernel
set_option maxRecDepth 100000 in
theorem dX9_digest_63 : decode cX9_digest 63 = .ok (.iconst 0, 1) := by decide +kernel
set_option maxRecDepth 100000 in
theorem dX9_digest_64 : decode cX9_digest 64 = .ok (.istore_n 1, 1) := by decide +kernel
set_option maxRecDepth 100000 in
theorem dX9_digest_65 : decode cX9_digest 65 = .ok (.iload_n 1, 1) := by decide +kernel
set_option maxRecDepth 100000 in
theorem dX9_digest_66 : decode cX9_digest 66 = .ok (.aload_n 0, 1) := by decide +kernel
set_option maxRecDepth 100000 in
theorem dX9_digest_67 : decode cX9_digest 67 = .ok (.getfield 191, 3) := by decide +kernel
set_option maxRecDepth 100000 in
theorem dX9_digest_70 : decode cX9_digest 70 = .ok (.if_icmp .ge 53, 3) := by decide +kernel
set_option maxRecDepth 100000 in
theorem dX9_digest_73 : decode cX9_digest 73 = .ok (.aload_n 0, 1) := by decide +kernel
set_option maxRecDepth 100000 in
theorem dX9_digest_74 : decode cX9_digest 74 = .ok (.aload_n 0, 1) := by decide +kernel
set_option maxRecDepth 100000 in
theorem dX9_digest_75 : decode cX9_digest 75 = .ok (.getfield 43, 3) := by decide +kernel
set_option maxRecDepth 100000 in
theorem dX9_digest_78 : decode cX9_digest 78 = .ok (.iload_n 1, 1) := by decide +kernel
set_option maxRecDepth 100000 in
theorem dX9_digest_79 : decode cX9_digest 79 = .ok (.iaload, 1) := by decide +kernel
set_option maxRecDepth 100000 in
theorem dX9_digest_80 : decode cX9_digest 80 = .ok (.i2l, 1) := by decide +kernel
set_option maxRecDepth 100000 in
theorem dX9_digest_81 : decode cX9_digest 81 = .ok (.invokevirtual 375, 3) := by decide +kernel
set_option maxRecDepth 100000 in
theorem dX9_digest_84 : decode cX9_digest 84 = .ok (.aload_n 0, 1) := by decide +kernel
set_option maxRecDepth 100000 in
theorem dX9_digest_85 : decode cX9_digest 85 = .ok (.aload_n 0, 1) := by decide +kernel
set_option maxRecDepth 100000 in
theorem dX9_digest_86 : decode cX9_digest 86 = .ok (.getfield 46, 3) := by decide +kernel
set_option maxRecDepth 100000 in
theorem dX9_digest_89 : decode cX9_digest 89 = .ok (.iload_n 1, 1) := by decide +kernel
set_option maxRecDepth 100000 in
theorem dX9_digest_90 : decode cX9_digest 90 = .ok (.iaload, 1) := by decide +kernel
set_option maxRecDepth 100000 in
theorem dX9_digest_91 : decode cX9_digest 91 = .ok (.i2l, 1) := by decide +kernel
set_option maxRecDepth 100000 in
theorem dX9_digest_92 : decode cX9_digest 92 = .ok (.invokevirtual 375, 3) := by decide +kernel
set_option maxRecDepth 100000 in
theorem dX9_digest_95 : decode cX9_digest 95 = .ok (.aload_n 0, 1) := by decide +kernel
set_option maxRecDepth 100000 in
theorem dX9_digest_96 : decode cX9_digest 96 = .ok (.aload_n 0, 1) := by decide +kernel
set_option maxRecDepth 100000 in
theorem dX9_digest_97 : decode cX9_digest 97 = .ok (.getfield 49, 3) := by decide +kernel
set_option maxRecDepth 100000 in
theorem dX9_digest_100 : decode cX9_digest 100 = .ok (.iload_n 1, 1) := by decide +kernel
set_option maxRecDepth 100000 in
theorem dX9_digest_101 : decode cX9_digest 101 = .ok (.iaload, 1) := by decide +kernel
set_option maxRecDepth 100000 in
theorem dX9_digest_102 : decode cX9_digest 102 = .ok (.i2l, 1) := by decide +kernel
set_option maxRecDepth 100000 in
theorem dX9_digest_103 : decode cX9_digest 103 = .ok (.invokevirtual 375, 3) := by decide +kernel
set_option maxRecDepth 100000 in
theorem dX9_digest_106 : decode cX9_digest 106 = .ok (.aload_n 0, 1) := by decide +kernel
set_option maxRecDepth 100000 in
theorem dX9_digest_107 : decode cX9_digest 107 = .ok (.aload_n 0, 1) := by decide +kernel
set_option maxRecDepth 100000 in
theorem dX9_digest_108 : decode cX9_digest 108 = .ok (.getfield 52, 3) := by decide +kernel
set_option maxRecDepth 100000 in
theorem dX9_digest_111 : decode cX9_digest 111 = .ok (.iload_n 1, 1) := by decide +kernel
set_option maxRecDepth 100000 in
theorem dX9_digest_112 : decode cX9_digest 112 = .ok (.iaload, 1) := by decide +kernel
set_option maxRecDepth 100000 in
theorem dX9_digest_113 : decode cX9_digest 113 = .ok (.i2l, 1) := by decide +kernel
set_option maxRecDepth 100000 in
theorem dX9_digest_114 : decode cX9_digest 114 = .ok (.invokevirtual 375, 3) := by decide +kernel
set_option maxRecDepth 100000 in
theorem dX9_digest_117 : decode cX9_digest 117 = .ok (.iinc 1 1, 3) := by decide +kernel
set_option maxRecDepth 100000 in
theorem dX9_digest_120 : decode cX9_digest 120 = .ok (.goto (-55), 3) := by decide +kernel
set_option maxRecDepth 100000 in
theorem dX9_digest_123 : decode cX9_digest 123 = .ok (.iconst 0, 1) := by decide +kernel
set_option maxRecDepth 100000 in
theorem dX9_digest_124 : decode cX9_digest 124 = .ok (.istore_n 1, 1) := by decide +kernel
set_option maxRecDepth 100000 in
theorem dX9_digest_125 : decode cX9_digest 125 = .ok (.iload_n 1, 1) := by decide +kernel
set_option maxRecDepth 100000 in
theorem dX9_digest_126 : decode cX9_digest 126 = .ok (.aload_n 0, 1) := by decide +kernel
set_option maxRecDepth 100000 in
theorem dX9_digest_127 : decode cX9_digest 127 = .ok (.getfield 209, 3) := by decide +kernel
set_option maxRecDepth 100000 in
theorem dX9_digest_130 : decode cX9_digest 130 = .ok (.if_icmp .ge 42, 3) := by decide +kernel
set_option maxRecDepth 100000 in
theorem dX9_digest_133 : decode cX9_digest 133 = .ok (.aload_n 0, 1) := by decide +kernel
set_option maxRecDepth 100000 in
theorem dX9_digest_134 : decode cX9_digest 134 = .ok (.aload_n 0, 1) := by decide +kernel
set_option maxRecDepth 100000 in
theorem dX9_digest_135 : decode cX9_digest 135 = .ok (.getfield 55, 3) := by decide +kernel
set_option maxRecDepth 100000 in
theorem dX9_digest_138 : decode cX9_digest 138 = .ok (.iload_n 1, 1) := by decide +kernel
set_option maxRecDepth 100000 in
theorem dX9_digest_139 : decode cX9_digest 139 = .ok (.iaload, 1) := by decide +kernel
set_option maxRecDepth 100000 in
theorem dX9_digest_140 : decode cX9_digest 140 = .ok (.i2l, 1) := by decide +kernel
set_option maxRecDepth 100000 in
theorem dX9_digest_141 : decode cX9_digest 141 = .ok (.invokevirtual 375, 3) := by decide +kernel
set_option maxRecDepth 100000 in
theorem dX9_digest_144 : decode cX9_digest 144 = .ok (.aload_n 0, 1) := by decide +kernel
set_option maxRecDepth 100000 in
theorem dX9_digest_145 : decode cX9_digest 145 = .ok (.aload_n 0, 1) := by decide +kernel
set_option maxRecDepth 100000 in
theorem dX9_digest_146 : decode cX9_digest 146 = .ok (.getfield 58, 3) := by decide +kernel
set_option maxRecDepth 100000 in
theorem dX9_digest_149 : decode cX9_digest 149 = .ok (.iload_n 1, 1) := by decide +kernel
set_option maxRecDepth 100000 in
theorem dX9_digest_150 : decode cX9_digest 150 = .ok (.iaload, 1) := by decide +kernel
set_option maxRecDepth 100000 in
theorem dX9_digest_151 : decode cX9_digest 151 = .ok (.i2l, 1) := by decide +kernel
set_option maxRecDepth 100000 in
theorem dX9_digest_152 : decode cX9_digest 152 = .ok (.invokevirtual 375, 3) := by decide +kernel
set_option maxRecDepth 100000 in
theorem dX9_digest_155 : decode cX9_digest 155 = .ok (.aload_n 0, 1) := by decide +kernel
set_option maxRecDepth 100000 in
theorem dX9_digest_156 : decode cX9_digest 156 = .ok (.aload_n 0, 1) := by decide +kernel
set_option maxRecDepth 100000 in
theorem dX9_digest_157 : decode cX9_digest 157 = .ok (.getfield 61, 3) := by decide +kernel
set_option maxRecDepth 100000 in
theorem dX9_digest_160 : decode cX9_digest 160 = .ok (.iload_n 1, 1) := by decide +kernel
set_option maxRecDepth 100000 in
theorem dX9_digest_161 : decode cX9_digest 161 = .ok (.iaload, 1) := by decide +kernel
set_option maxRecDepth 100000 in
theorem dX9_digest_162 : decode cX9_digest 162 = .ok (.i2l, 1) := by decide +kernel
set_option maxRecDepth 100000 in
theorem dX9_digest_163 : decode cX9_digest 163 = .ok (.invokevirtual 375, 3) := by decide +kernel
set_option maxRecDepth 100000 in
theorem dX9_digest_166 : decode cX9_digest 166 = .ok (.iinc 1 1, 3) := by decide +kernel
set_option maxRecDepth 100000 in
theorem dX9_digest_169 : decode cX9_digest 169 = .ok (.goto (-44), 3) := by decide +kernel
set_option maxRecDepth 100000 in
theorem dX9_digest_172 : decode cX9_digest 172 = .ok (.aload_n 0, 1) := by decide +kernel
set_option maxRecDepth 100000 in
theorem dX9_digest_173 : decode cX9_digest 173 = .ok (.aload_n 0, 1) := by decide +kernel
set_option maxRecDepth 100000 in
theorem dX9_digest_174 : decode cX9_digest 174 = .ok (.getfield 64, 3) := by decide +kernel
set_option maxRecDepth 100000 in
theorem dX9_digest_177 : decode cX9_digest 177 = .ok (.i2l, 1) := by decide +kernel
set_option maxRecDepth 100000 in
theorem dX9_digest_178 : decode cX9_digest 178 = .ok (.invokevirtual 375, 3) := by decide +kernel
set_option maxRecDepth 100000 in
theorem dX9_digest_181 : decode cX9_digest 181 = .ok (.iconst 0, 1) := by decide +kernel
set_option maxRecDepth 100000 in
theorem dX9_digest_182 : decode cX9_digest 182 = .ok (.istore_n 1, 1) := by decide +kernel
set_option maxRecDepth 100000 in
theorem dX9_digest_183 : decode cX9_digest 183 = .ok (.iload_n 1, 1) := by decide +kernel
set_option maxRecDepth 100000 in
theorem dX9_digest_184 : decode cX9_digest 184 = .ok (.bipush 12, 2) := by decide +kernel
set_option maxRecDepth 100000 in
theorem dX9_digest_186 : decode cX9_digest 186 = .ok (.if_icmp .ge 20, 3) := by decide +kernel
set_option maxRecDepth 100000 in
theorem dX9_digest_189 : decode cX9_digest 189 = .ok (.aload_n 0, 1) := by decide +kernel
set_option maxRecDepth 100000 in
theorem dX9_digest_190 : decode cX9_digest 190 = .ok (.aload_n 0, 1) := by decide +kernel
set_option maxRecDepth 100000 in
theorem dX9_digest_191 : decode cX9_digest 191 = .ok (.getfield 68, 3) := by decide +kernel
set_option maxRecDepth 100000 in
theorem dX9_digest_194 : decode cX9_digest 194 = .ok (.iload_n 1, 1) := by decide +kernel
set_option maxRecDepth 100000 in
theorem dX9_digest_195 : decode cX9_digest 195 = .ok (.iaload, 1) := by decide +kernel
set_option maxRecDepth 100000 in
theorem dX9_digest_196 : decode cX9_digest 196 = .ok (.i2l, 1) := by decide +kernel
set_option maxRecDepth 100000 in
theorem dX9_digest_197 : decode cX9_digest 197 = .ok (.invokevirtual 375, 3) := by decide +kernel
set_option maxRecDepth 100000 in
theorem dX9_digest_200 : decode cX9_digest 200 = .ok (.iinc 1 1, 3) := by decide +kernel
set_option maxRecDepth 100000 in
theorem dX9_digest_203 : decode cX9_digest 203 = .ok (.goto (-20), 3) := by decide +kernel
set_option maxRecDepth 100000 in
theorem dX9_digest_206 : decode cX9_digest 206 = .ok (.iconst 0, 1) := by decide +kernel
set_option maxRecDepth 100000 in
theorem dX9_digest_207 : decode cX9_digest 207 = .ok (.istore_n 1, 1) := by decide +kernel
set_option maxRecDepth 100000 in
theorem dX9_digest_208 : decode cX9_digest 208 = .ok (.iload_n 1, 1) := by decide +kernel
set_option maxRecDepth 100000 in
theorem dX9_digest_209 : decode cX9_digest 209 = .ok (.aload_n 0, 1) := by decide +kernel
set_option maxRecDepth 100000 in
theorem dX9_digest_210 : decode cX9_digest 210 = .ok (.getfield 129, 3) := by decide +kernel
set_option maxRecDepth 100000 in
theorem dX9_digest_213 : decode cX9_digest 213 = .ok (.if_icmp .ge 20, 3) := by decide +kernel
set_option maxRecDepth 100000 in
theorem dX9_digest_216 : decode cX9_digest 216 = .ok (.aload_n 0, 1) := by decide +kernel
set_option maxRecDepth 100000 in
theorem dX9_digest_217 : decode cX9_digest 217 = .ok (.aload_n 0, 1) := by decide +kernel
set_option maxRecDepth 100000 in
theorem dX9_digest_218 : decode cX9_digest 218 = .ok (.getfield 71, 3) := by decide +kernel
set_option maxRecDepth 100000 in
theorem dX9_digest_221 : decode cX9_digest 221 = .ok (.iload_n 1, 1) := by decide +kernel
set_option maxRecDepth 100000 in
theorem dX9_digest_222 : decode cX9_digest 222 = .ok (.baload, 1) := by decide +kernel
set_option maxRecDepth 100000 in
theorem dX9_digest_223 : decode cX9_digest 223 = .ok (.i2l, 1) := by decide +kernel
set_option maxRecDepth 100000 in
theorem dX9_digest_224 : decode cX9_digest 224 = .ok (.invokevirtual 375, 3) := by decide +kernel
set_option maxRecDepth 100000 in
theorem dX9_digest_227 : decode cX9_digest 227 = .ok (.iinc 1 1, 3) := by decide +kernel
set_option maxRecDepth 100000 in
theorem dX9_digest_230 : decode cX9_digest 230 = .ok (.goto (-22), 3) := by decide +kernel
set_option maxRecDepth 100000 in
theorem dX9_digest_233 : decode cX9_digest 233 = .ok (.iconst 0, 1) := by decide +kernel
set_option maxRecDepth 100000 in
theorem dX9_digest_234 : decode cX9_digest 234 = .ok (.istore_n 1, 1) := by decide +kernel
set_option maxRecDepth 100000 in
theorem dX9_digest_235 : decode cX9_digest 235 = .ok (.iload_n 1, 1) := by decide +kernel
set_option maxRecDepth 100000 in
theorem dX9_digest_236 : decode cX9_digest 236 = .ok (.bipush 6, 2) := by decide +kernel
set_option maxRecDepth 100000 in
theorem dX9_digest_238 : decode cX9_digest 238 = .ok (.if_icmp .ge 19, 3) := by decide +kernel
set_option maxRecDepth 100000 in
theorem dX9_digest_241 : decode cX9_digest 241 = .ok (.aload_n 0, 1) := by decide +kernel
set_option maxRecDepth 100000 in
theorem dX9_digest_242 : decode cX9_digest 242 = .ok (.aload_n 0, 1) := by decide +kernel
set_option maxRecDepth 100000 in
theorem dX9_digest_243 : decode cX9_digest 243 = .ok (.iload_n 1, 1) := by decide +kernel
set_option maxRecDepth 100000 in
theorem dX9_digest_244 : decode cX9_digest 244 = .ok (.invokevirtual 366, 3) := by decide +kernel
set_option maxRecDepth 100000 in
theorem dX9_digest_247 : decode cX9_digest 247 = .ok (.i2l, 1) := by decide +kernel
set_option maxRecDepth 100000 in
theorem dX9_digest_248 : decode cX9_digest 248 = .ok (.invokevirtual 375, 3) := by decide +kernel
set_option maxRecDepth 100000 in
theorem dX9_digest_251 : decode cX9_digest 251 = .ok (.iinc 1 1, 3) := by decide +kernel
set_option maxRecDepth 100000 in
theorem dX9_digest_254 : decode cX9_digest 254 = .ok (.goto (-19), 3) := by decide +kernel
set_option maxRecDepth 100000 in
theorem dX9_digest_257 : decode cX9_digest 257 = .ok (.aload_n 0, 1) := by decide +kernel
set_option maxRecDepth 100000 in
theorem dX9_digest_258 : decode cX9_digest 258 = .ok (.getfield 371, 3) := by decide +kernel
set_option maxRecDepth 100000 in
theorem dX9_digest_261 : decode cX9_digest 261 = .ok (.lreturn, 1) := by decide +kernel
