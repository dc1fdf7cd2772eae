/-! decode rows (printed) -/
set_option maxRecDepth 100000 in
theorem dL_cell_0 : decode cL_cell 0 = .ok (.iload_n 1, 1) := by decide +kernel
set_option maxRecDepth 100000 in
theorem dL_cell_1 : decode cL_cell 1 = .ok (.aload_n 0, 1) := by decide +kernel
set_option maxRecDepth 100000 in
theorem dL_cell_2 : decode cL_cell 2 = .ok (.arraylength, 1) := by decide +kernel
set_option maxRecDepth 100000 in
theorem dL_cell_3 : decode cL_cell 3 = .ok (.if_icmp .ge 9, 3) := by decide +kernel
set_option maxRecDepth 100000 in
theorem dL_cell_6 : decode cL_cell 6 = .ok (.aload_n 0, 1) := by decide +kernel
set_option maxRecDepth 100000 in
theorem dL_cell_7 : decode cL_cell 7 = .ok (.iload_n 1, 1) := by decide +kernel
set_option maxRecDepth 100000 in
theorem dL_cell_8 : decode cL_cell 8 = .ok (.iaload, 1) := by decide +kernel
set_option maxRecDepth 100000 in
theorem dL_cell_9 : decode cL_cell 9 = .ok (.goto 11, 3) := by decide +kernel
set_option maxRecDepth 100000 in
theorem dL_cell_12 : decode cL_cell 12 = .ok (.sipush 7919, 3) := by decide +kernel
set_option maxRecDepth 100000 in
theorem dL_cell_15 : decode cL_cell 15 = .ok (.iload_n 1, 1) := by decide +kernel
set_option maxRecDepth 100000 in
theorem dL_cell_16 : decode cL_cell 16 = .ok (.imul, 1) := by decide +kernel
set_option maxRecDepth 100000 in
theorem dL_cell_17 : decode cL_cell 17 = .ok (.bipush 13, 2) := by decide +kernel
set_option maxRecDepth 100000 in
theorem dL_cell_19 : decode cL_cell 19 = .ok (.iadd, 1) := by decide +kernel
set_option maxRecDepth 100000 in
theorem dL_cell_20 : decode cL_cell 20 = .ok (.ldc 7, 2) := by decide +kernel
set_option maxRecDepth 100000 in
theorem dL_cell_22 : decode cL_cell 22 = .ok (.iand, 1) := by decide +kernel
set_option maxRecDepth 100000 in
theorem dL_cell_23 : decode cL_cell 23 = .ok (.ireturn, 1) := by decide +kernel
set_option maxRecDepth 100000 in
theorem dL_put_0 : decode cL_put 0 = .ok (.aload_n 0, 1) := by decide +kernel
set_option maxRecDepth 100000 in
theorem dL_put_1 : decode cL_put 1 = .ok (.iload_n 1, 1) := by decide +kernel
set_option maxRecDepth 100000 in
theorem dL_put_2 : decode cL_put 2 = .ok (.i2l, 1) := by decide +kernel
set_option maxRecDepth 100000 in
theorem dL_put_3 : decode cL_put 3 = .ok (.invokevirtual 8, 3) := by decide +kernel
set_option maxRecDepth 100000 in
theorem dL_put_6 : decode cL_put 6 = .ok (.ifCond .le 7, 3) := by decide +kernel
set_option maxRecDepth 100000 in
theorem dL_put_9 : decode cL_put 9 = .ok (.iconst 1, 1) := by decide +kernel
set_option maxRecDepth 100000 in
theorem dL_put_10 : decode cL_put 10 = .ok (.goto 4, 3) := by decide +kernel
set_option maxRecDepth 100000 in
theorem dL_put_13 : decode cL_put 13 = .ok (.iconst 0, 1) := by decide +kernel
set_option maxRecDepth 100000 in
theorem dL_put_14 : decode cL_put 14 = .ok (.ireturn, 1) := by decide +kernel
set_option maxRecDepth 100000 in
theorem dL_number_0 : decode cL_number 0 = .ok (.iload_n 1, 1) := by decide +kernel
set_option maxRecDepth 100000 in
theorem dL_number_1 : decode cL_number 1 = .ok (.bipush 10, 2) := by decide +kernel
set_option maxRecDepth 100000 in
theorem dL_number_3 : decode cL_number 3 = .ok (.if_icmp .lt 17, 3) := by decide +kernel
set_option maxRecDepth 100000 in
theorem dL_number_6 : decode cL_number 6 = .ok (.aload_n 0, 1) := by decide +kernel
set_option maxRecDepth 100000 in
theorem dL_number_7 : decode cL_number 7 = .ok (.bipush 48, 2) := by decide +kernel
set_option maxRecDepth 100000 in
theorem dL_number_9 : decode cL_number 9 = .ok (.iload_n 1, 1) := by decide +kernel
set_option maxRecDepth 100000 in
theorem dL_number_10 : decode cL_number 10 = .ok (.bipush 10, 2) := by decide +kernel
set_option maxRecDepth 100000 in
theorem dL_number_12 : decode cL_number 12 = .ok (.idiv, 1) := by decide +kernel
set_option maxRecDepth 100000 in
theorem dL_number_13 : decode cL_number 13 = .ok (.iadd, 1) := by decide +kernel
set_option maxRecDepth 100000 in
theorem dL_number_14 : decode cL_number 14 = .ok (.invokestatic 14, 3) := by decide +kernel
set_option maxRecDepth 100000 in
theorem dL_number_17 : decode cL_number 17 = .ok (.ifCond .eq 21, 3) := by decide +kernel
set_option maxRecDepth 100000 in
theorem dL_number_20 : decode cL_number 20 = .ok (.aload_n 0, 1) := by decide +kernel
set_option maxRecDepth 100000 in
theorem dL_number_21 : decode cL_number 21 = .ok (.bipush 48, 2) := by decide +kernel
set_option maxRecDepth 100000 in
theorem dL_number_23 : decode cL_number 23 = .ok (.iload_n 1, 1) := by decide +kernel
set_option maxRecDepth 100000 in
theorem dL_number_24 : decode cL_number 24 = .ok (.bipush 10, 2) := by decide +kernel
set_option maxRecDepth 100000 in
theorem dL_number_26 : decode cL_number 26 = .ok (.irem, 1) := by decide +kernel
set_option maxRecDepth 100000 in
theorem dL_number_27 : decode cL_number 27 = .ok (.iadd, 1) := by decide +kernel
set_option maxRecDepth 100000 in
theorem dL_number_28 : decode cL_number 28 = .ok (.invokestatic 14, 3) := by decide +kernel
set_option maxRecDepth 100000 in
theorem dL_number_31 : decode cL_number 31 = .ok (.ifCond .eq 7, 3) := by decide +kernel
set_option maxRecDepth 100000 in
theorem dL_number_34 : decode cL_number 34 = .ok (.iconst 1, 1) := by decide +kernel
set_option maxRecDepth 100000 in
theorem dL_number_35 : decode cL_number 35 = .ok (.goto 4, 3) := by decide +kernel
set_option maxRecDepth 100000 in
theorem dL_number_38 : decode cL_number 38 = .ok (.iconst 0, 1) := by decide +kernel
set_option maxRecDepth 100000 in
theorem dL_number_39 : decode cL_number 39 = .ok (.ireturn, 1) := by decide +kernel
set_option maxRecDepth 100000 in
theorem dL_clock_0 : decode cL_clock 0 = .ok (.aload 5, 2) := by decide +kernel
set_option maxRecDepth 100000 in
theorem dL_clock_2 : decode cL_clock 2 = .ok (.iconst 0, 1) := by decide +kernel
set_option maxRecDepth 100000 in
theorem dL_clock_3 : decode cL_clock 3 = .ok (.iconst 1, 1) := by decide +kernel
set_option maxRecDepth 100000 in
theorem dL_clock_4 : decode cL_clock 4 = .ok (.iload_n 1, 1) := by decide +kernel
set_option maxRecDepth 100000 in
theorem dL_clock_5 : decode cL_clock 5 = .ok (.iconst 3, 1) := by decide +kernel
set_option maxRecDepth 100000 in
theorem dL_clock_6 : decode cL_clock 6 = .ok (.irem, 1) := by decide +kernel
set_option maxRecDepth 100000 in
theorem dL_clock_7 : decode cL_clock 7 = .ok (.iadd, 1) := by decide +kernel
set_option maxRecDepth 100000 in
theorem dL_clock_8 : decode cL_clock 8 = .ok (.iastore, 1) := by decide +kernel
set_option maxRecDepth 100000 in
theorem dL_clock_9 : decode cL_clock 9 = .ok (.aload 5, 2) := by decide +kernel
set_option maxRecDepth 100000 in
theorem dL_clock_11 : decode cL_clock 11 = .ok (.iconst 1, 1) := by decide +kernel
set_option maxRecDepth 100000 in
theorem dL_clock_12 : decode cL_clock 12 = .ok (.iconst 1, 1) := by decide +kernel
set_option maxRecDepth 100000 in
theorem dL_clock_13 : decode cL_clock 13 = .ok (.iload_n 1, 1) := by decide +kernel
set_option maxRecDepth 100000 in
theorem dL_clock_14 : decode cL_clock 14 = .ok (.iconst 4, 1) := by decide +kernel
set_option maxRecDepth 100000 in
theorem dL_clock_15 : decode cL_clock 15 = .ok (.idiv, 1) := by decide +kernel
set_option maxRecDepth 100000 in
theorem dL_clock_16 : decode cL_clock 16 = .ok (.iload_n 1, 1) := by decide +kernel
set_option maxRecDepth 100000 in
theorem dL_clock_17 : decode cL_clock 17 = .ok (.iconst 5, 1) := by decide +kernel
set_option maxRecDepth 100000 in
theorem dL_clock_18 : decode cL_clock 18 = .ok (.irem, 1) := by decide +kernel
set_option maxRecDepth 100000 in
theorem dL_clock_19 : decode cL_clock 19 = .ok (.ifCond .ne 8, 3) := by decide +kernel
set_option maxRecDepth 100000 in
theorem dL_clock_22 : decode cL_clock 22 = .ok (.bipush 99, 2) := by decide +kernel
set_option maxRecDepth 100000 in
theorem dL_clock_24 : decode cL_clock 24 = .ok (.goto 5, 3) := by decide +kernel
set_option maxRecDepth 100000 in
theorem dL_clock_27 : decode cL_clock 27 = .ok (.bipush 30, 2) := by decide +kernel
set_option maxRecDepth 100000 in
theorem dL_clock_29 : decode cL_clock 29 = .ok (.irem, 1) := by decide +kernel
set_option maxRecDepth 100000 in
theorem dL_clock_30 : decode cL_clock 30 = .ok (.iadd, 1) := by decide +kernel
set_option maxRecDepth 100000 in
theorem dL_clock_31 : decode cL_clock 31 = .ok (.iastore, 1) := by decide +kernel
set_option maxRecDepth 100000 in
theorem dL_clock_32 : decode cL_clock 32 = .ok (.aload 5, 2) := by decide +kernel
set_option maxRecDepth 100000 in
theorem dL_clock_34 : decode cL_clock 34 = .ok (.iconst 2, 1) := by decide +kernel
set_option maxRecDepth 100000 in
theorem dL_clock_35 : decode cL_clock 35 = .ok (.iconst 1, 1) := by decide +kernel
set_option maxRecDepth 100000 in
theorem dL_clock_36 : decode cL_clock 36 = .ok (.iload_n 1, 1) := by decide +kernel
set_option maxRecDepth 100000 in
theorem dL_clock_37 : decode cL_clock 37 = .ok (.sipush 512, 3) := by decide +kernel
set_option maxRecDepth 100000 in
theorem dL_clock_40 : decode cL_clock 40 = .ok (.idiv, 1) := by decide +kernel
set_option maxRecDepth 100000 in
theorem dL_clock_41 : decode cL_clock 41 = .ok (.bipush 99, 2) := by decide +kernel
set_option maxRecDepth 100000 in
theorem dL_clock_43 : decode cL_clock 43 = .ok (.irem, 1) := by decide +kernel
set_option maxRecDepth 100000 in
theorem dL_clock_44 : decode cL_clock 44 = .ok (.iadd, 1) := by decide +kernel
set_option maxRecDepth 100000 in
theorem dL_clock_45 : decode cL_clock 45 = .ok (.iastore, 1) := by decide +kernel
set_option maxRecDepth 100000 in
theorem dL_clock_46 : decode cL_clock 46 = .ok (.aload 5, 2) := by decide +kernel
set_option maxRecDepth 100000 in
theorem dL_clock_48 : decode cL_clock 48 = .ok (.iconst 3, 1) := by decide +kernel
set_option maxRecDepth 100000 in
theorem dL_clock_49 : decode cL_clock 49 = .ok (.iload_n 1, 1) := by decide +kernel
set_option maxRecDepth 100000 in
theorem dL_clock_50 : decode cL_clock 50 = .ok (.ldc 20, 2) := by decide +kernel
set_option maxRecDepth 100000 in
theorem dL_clock_52 : decode cL_clock 52 = .ok (.idiv, 1) := by decide +kernel
set_option maxRecDepth 100000 in
theorem dL_clock_53 : decode cL_clock 53 = .ok (.bipush 61, 2) := by decide +kernel
set_option maxRecDepth 100000 in
theorem dL_clock_55 : decode cL_clock 55 = .ok (.irem, 1) := by decide +kernel
set_option maxRecDepth 100000 in
theorem dL_clock_56 : decode cL_clock 56 = .ok (.iastore, 1) := by decide +kernel
set_option maxRecDepth 100000 in
theorem dL_clock_57 : decode cL_clock 57 = .ok (.aload 5, 2) := by decide +kernel
set_option maxRecDepth 100000 in
theorem dL_clock_59 : decode cL_clock 59 = .ok (.iconst 4, 1) := by decide +kernel
set_option maxRecDepth 100000 in
theorem dL_clock_60 : decode cL_clock 60 = .ok (.iconst 1, 1) := by decide +kernel
set_option maxRecDepth 100000 in
theorem dL_clock_61 : decode cL_clock 61 = .ok (.iload_n 2, 1) := by decide +kernel
set_option maxRecDepth 100000 in
theorem dL_clock_62 : decode cL_clock 62 = .ok (.bipush 12, 2) := by decide +kernel
set_option maxRecDepth 100000 in
theorem dL_clock_64 : decode cL_clock 64 = .ok (.irem, 1) := by decide +kernel
set_option maxRecDepth 100000 in
theorem dL_clock_65 : decode cL_clock 65 = .ok (.iadd, 1) := by decide +kernel
set_option maxRecDepth 100000 in
theorem dL_clock_66 : decode cL_clock 66 = .ok (.iastore, 1) := by decide +kernel
set_option maxRecDepth 100000 in
theorem dL_clock_67 : decode cL_clock 67 = .ok (.iconst 1, 1) := by decide +kernel
set_option maxRecDepth 100000 in
theorem dL_clock_68 : decode cL_clock 68 = .ok (.istore 6, 2) := by decide +kernel
set_option maxRecDepth 100000 in
theorem dL_clock_70 : decode cL_clock 70 = .ok (.iconst 0, 1) := by decide +kernel
set_option maxRecDepth 100000 in
theorem dL_clock_71 : decode cL_clock 71 = .ok (.istore 7, 2) := by decide +kernel
set_option maxRecDepth 100000 in
theorem dL_clock_73 : decode cL_clock 73 = .ok (.iload 7, 2) := by decide +kernel
set_option maxRecDepth 100000 in
theorem dL_clock_75 : decode cL_clock 75 = .ok (.aload 5, 2) := by decide +kernel
set_option maxRecDepth 100000 in
theorem dL_clock_77 : decode cL_clock 77 = .ok (.iconst 0, 1) := by decide +kernel
set_option maxRecDepth 100000 in
theorem dL_clock_78 : decode cL_clock 78 = .ok (.iaload, 1) := by decide +kernel
set_option maxRecDepth 100000 in
theorem dL_clock_79 : decode cL_clock 79 = .ok (.if_icmp .ge 181, 3) := by decide +kernel
set_option maxRecDepth 100000 in
theorem dL_clock_82 : decode cL_clock 82 = .ok (.aload 5, 2) := by decide +kernel
set_option maxRecDepth 100000 in
theorem dL_clock_84 : decode cL_clock 84 = .ok (.iconst 5, 1) := by decide +kernel
set_option maxRecDepth 100000 in
theorem dL_clock_85 : decode cL_clock 85 = .ok (.iconst 3, 1) := by decide +kernel
set_option maxRecDepth 100000 in
theorem dL_clock_86 : decode cL_clock 86 = .ok (.iload 7, 2) := by decide +kernel
set_option maxRecDepth 100000 in
theorem dL_clock_88 : decode cL_clock 88 = .ok (.imul, 1) := by decide +kernel
set_option maxRecDepth 100000 in
theorem dL_clock_89 : decode cL_clock 89 = .ok (.iadd, 1) := by decide +kernel
set_option maxRecDepth 100000 in
theorem dL_clock_90 : decode cL_clock 90 = .ok (.iconst 1, 1) := by decide +kernel
set_option maxRecDepth 100000 in
theorem dL_clock_91 : decode cL_clock 91 = .ok (.iload_n 2, 1) := by decide +kernel
set_option maxRecDepth 100000 in
theorem dL_clock_92 : decode cL_clock 92 = .ok (.iconst 4, 1) := by decide +kernel
set_option maxRecDepth 100000 in
theorem dL_clock_93 : decode cL_clock 93 = .ok (.iconst 5, 1) := by decide +kernel
set_option maxRecDepth 100000 in
theorem dL_clock_94 : decode cL_clock 94 = .ok (.iload 7, 2) := by decide +kernel
set_option maxRecDepth 100000 in
theorem dL_clock_96 : decode cL_clock 96 = .ok (.imul, 1) := by decide +kernel
set_option maxRecDepth 100000 in
theorem dL_clock_97 : decode cL_clock 97 = .ok (.iadd, 1) := by decide +kernel
set_option maxRecDepth 100000 in
theorem dL_clock_98 : decode cL_clock 98 = .ok (.ishr, 1) := by decide +kernel
set_option maxRecDepth 100000 in
theorem dL_clock_99 : decode cL_clock 99 = .ok (.bipush 31, 2) := by decide +kernel
set_option maxRecDepth 100000 in
theorem dL_clock_101 : decode cL_clock 101 = .ok (.iand, 1) := by decide +kernel
set_option maxRecDepth 100000 in
theorem dL_clock_102 : decode cL_clock 102 = .ok (.bipush 30, 2) := by decide +kernel
set_option maxRecDepth 100000 in
theorem dL_clock_104 : decode cL_clock 104 = .ok (.irem, 1) := by decide +kernel
set_option maxRecDepth 100000 in
theorem dL_clock_105 : decode cL_clock 105 = .ok (.iadd, 1) := by decide +kernel
set_option maxRecDepth 100000 in
theorem dL_clock_106 : decode cL_clock 106 = .ok (.iastore, 1) := by decide +kernel
set_option maxRecDepth 100000 in
theorem dL_clock_107 : decode cL_clock 107 = .ok (.aload 5, 2) := by decide +kernel
set_option maxRecDepth 100000 in
theorem dL_clock_109 : decode cL_clock 109 = .ok (.bipush 6, 2) := by decide +kernel
set_option maxRecDepth 100000 in
theorem dL_clock_111 : decode cL_clock 111 = .ok (.iconst 3, 1) := by decide +kernel
set_option maxRecDepth 100000 in
theorem dL_clock_112 : decode cL_clock 112 = .ok (.iload 7, 2) := by decide +kernel
set_option maxRecDepth 100000 in
theorem dL_clock_114 : decode cL_clock 114 = .ok (.imul, 1) := by decide +kernel
set_option maxRecDepth 100000 in
theorem dL_clock_115 : decode cL_clock 115 = .ok (.iadd, 1) := by decide +kernel
set_option maxRecDepth 100000 in
theorem dL_clock_116 : decode cL_clock 116 = .ok (.iconst 1, 1) := by decide +kernel
set_option maxRecDepth 100000 in
theorem dL_clock_117 : decode cL_clock 117 = .ok (.iload_n 3, 1) := by decide +kernel
set_option maxRecDepth 100000 in
theorem dL_clock_118 : decode cL_clock 118 = .ok (.bipush 6, 2) := by decide +kernel
set_option maxRecDepth 100000 in
theorem dL_clock_120 : decode cL_clock 120 = .ok (.iload 7, 2) := by decide +kernel
set_option maxRecDepth 100000 in
theorem dL_clock_122 : decode cL_clock 122 = .ok (.imul, 1) := by decide +kernel
set_option maxRecDepth 100000 in
theorem dL_clock_123 : decode cL_clock 123 = .ok (.ishr, 1) := by decide +kernel
set_option maxRecDepth 100000 in
theorem dL_clock_124 : decode cL_clock 124 = .ok (.bipush 63, 2) := by decide +kernel
set_option maxRecDepth 100000 in
theorem dL_clock_126 : decode cL_clock 126 = .ok (.iand, 1) := by decide +kernel
set_option maxRecDepth 100000 in
theorem dL_clock_127 : decode cL_clock 127 = .ok (.bipush 60, 2) := by decide +kernel
set_option maxRecDepth 100000 in
theorem dL_clock_129 : decode cL_clock 129 = .ok (.irem, 1) := by decide +kernel
set_option maxRecDepth 100000 in
theorem dL_clock_130 : decode cL_clock 130 = .ok (.iadd, 1) := by decide +kernel
set_option maxRecDepth 100000 in
theorem dL_clock_131 : decode cL_clock 131 = .ok (.iastore, 1) := by decide +kernel
set_option maxRecDepth 100000 in
theorem dL_clock_132 : decode cL_clock 132 = .ok (.aload 5, 2) := by decide +kernel
set_option maxRecDepth 100000 in
theorem dL_clock_134 : decode cL_clock 134 = .ok (.bipush 7, 2) := by decide +kernel
set_option maxRecDepth 100000 in
theorem dL_clock_136 : decode cL_clock 136 = .ok (.iconst 3, 1) := by decide +kernel
set_option maxRecDepth 100000 in
theorem dL_clock_137 : decode cL_clock 137 = .ok (.iload 7, 2) := by decide +kernel
set_option maxRecDepth 100000 in
theorem dL_clock_139 : decode cL_clock 139 = .ok (.imul, 1) := by decide +kernel
set_option maxRecDepth 100000 in
theorem dL_clock_140 : decode cL_clock 140 = .ok (.iadd, 1) := by decide +kernel
set_option maxRecDepth 100000 in
theorem dL_clock_141 : decode cL_clock 141 = .ok (.iconst 1, 1) := by decide +kernel
set_option maxRecDepth 100000 in
theorem dL_clock_142 : decode cL_clock 142 = .ok (.iload_n 3, 1) := by decide +kernel
set_option maxRecDepth 100000 in
theorem dL_clock_143 : decode cL_clock 143 = .ok (.bipush 10, 2) := by decide +kernel
set_option maxRecDepth 100000 in
theorem dL_clock_145 : decode cL_clock 145 = .ok (.bipush 6, 2) := by decide +kernel
set_option maxRecDepth 100000 in
theorem dL_clock_147 : decode cL_clock 147 = .ok (.iload 7, 2) := by decide +kernel
set_option maxRecDepth 100000 in
theorem dL_clock_149 : decode cL_clock 149 = .ok (.imul, 1) := by decide +kernel
set_option maxRecDepth 100000 in
theorem dL_clock_150 : decode cL_clock 150 = .ok (.iadd, 1) := by decide +kernel
set_option maxRecDepth 100000 in
theorem dL_clock_151 : decode cL_clock 151 = .ok (.ishr, 1) := by decide +kernel
set_option maxRecDepth 100000 in
theorem dL_clock_152 : decode cL_clock 152 = .ok (.bipush 63, 2) := by decide +kernel
set_option maxRecDepth 100000 in
theorem dL_clock_154 : decode cL_clock 154 = .ok (.iand, 1) := by decide +kernel
set_option maxRecDepth 100000 in
theorem dL_clock_155 : decode cL_clock 155 = .ok (.bipush 40, 2) := by decide +kernel
set_option maxRecDepth 100000 in
theorem dL_clock_157 : decode cL_clock 157 = .ok (.irem, 1) := by decide +kernel
set_option maxRecDepth 100000 in
theorem dL_clock_158 : decode cL_clock 158 = .ok (.iadd, 1) := by decide +kernel
set_option maxRecDepth 100000 in
theorem dL_clock_159 : decode cL_clock 159 = .ok (.iastore, 1) := by decide +kernel
set_option maxRecDepth 100000 in
theorem dL_clock_160 : decode cL_clock 160 = .ok (.iload 6, 2) := by decide +kernel
set_option maxRecDepth 100000 in
theorem dL_clock_162 : decode cL_clock 162 = .ok (.ifCond .eq 89, 3) := by decide +kernel
set_option maxRecDepth 100000 in
theorem dL_clock_165 : decode cL_clock 165 = .ok (.iload 7, 2) := by decide +kernel
set_option maxRecDepth 100000 in
theorem dL_clock_167 : decode cL_clock 167 = .ok (.ifCond .eq 12, 3) := by decide +kernel
set_option maxRecDepth 100000 in
theorem dL_clock_170 : decode cL_clock 170 = .ok (.aload_n 0, 1) := by decide +kernel
set_option maxRecDepth 100000 in
theorem dL_clock_171 : decode cL_clock 171 = .ok (.bipush 62, 2) := by decide +kernel
set_option maxRecDepth 100000 in
theorem dL_clock_173 : decode cL_clock 173 = .ok (.invokestatic 14, 3) := by decide +kernel
set_option maxRecDepth 100000 in
theorem dL_clock_176 : decode cL_clock 176 = .ok (.ifCond .eq 75, 3) := by decide +kernel
set_option maxRecDepth 100000 in
theorem dL_clock_179 : decode cL_clock 179 = .ok (.aload_n 0, 1) := by decide +kernel
set_option maxRecDepth 100000 in
theorem dL_clock_180 : decode cL_clock 180 = .ok (.aload 5, 2) := by decide +kernel
set_option maxRecDepth 100000 in
theorem dL_clock_182 : decode cL_clock 182 = .ok (.iconst 5, 1) := by decide +kernel
set_option maxRecDepth 100000 in
theorem dL_clock_183 : decode cL_clock 183 = .ok (.iconst 3, 1) := by decide +kernel
set_option maxRecDepth 100000 in
theorem dL_clock_184 : decode cL_clock 184 = .ok (.iload 7, 2) := by decide +kernel
set_option maxRecDepth 100000 in
theorem dL_clock_186 : decode cL_clock 186 = .ok (.imul, 1) := by decide +kernel
set_option maxRecDepth 100000 in
theorem dL_clock_187 : decode cL_clock 187 = .ok (.iadd, 1) := by decide +kernel
set_option maxRecDepth 100000 in
theorem dL_clock_188 : decode cL_clock 188 = .ok (.iaload, 1) := by decide +kernel
set_option maxRecDepth 100000 in
theorem dL_clock_189 : decode cL_clock 189 = .ok (.invokestatic 21, 3) := by decide +kernel
set_option maxRecDepth 100000 in
theorem dL_clock_192 : decode cL_clock 192 = .ok (.ifCond .eq 59, 3) := by decide +kernel
set_option maxRecDepth 100000 in
theorem dL_clock_195 : decode cL_clock 195 = .ok (.aload_n 0, 1) := by decide +kernel
set_option maxRecDepth 100000 in
theorem dL_clock_196 : decode cL_clock 196 = .ok (.bipush 120, 2) := by decide +kernel
set_option maxRecDepth 100000 in
theorem dL_clock_198 : decode cL_clock 198 = .ok (.invokestatic 14, 3) := by decide +kernel
set_option maxRecDepth 100000 in
theorem dL_clock_201 : decode cL_clock 201 = .ok (.ifCond .eq 50, 3) := by decide +kernel
set_option maxRecDepth 100000 in
theorem dL_clock_204 : decode cL_clock 204 = .ok (.aload_n 0, 1) := by decide +kernel
set_option maxRecDepth 100000 in
theorem dL_clock_205 : decode cL_clock 205 = .ok (.aload 5, 2) := by decide +kernel
set_option maxRecDepth 100000 in
theorem dL_clock_207 : decode cL_clock 207 = .ok (.bipush 6, 2) := by decide +kernel
set_option maxRecDepth 100000 in
theorem dL_clock_209 : decode cL_clock 209 = .ok (.iconst 3, 1) := by decide +kernel
set_option maxRecDepth 100000 in
theorem dL_clock_210 : decode cL_clock 210 = .ok (.iload 7, 2) := by decide +kernel
set_option maxRecDepth 100000 in
theorem dL_clock_212 : decode cL_clock 212 = .ok (.imul, 1) := by decide +kernel
set_option maxRecDepth 100000 in
theorem dL_clock_213 : decode cL_clock 213 = .ok (.iadd, 1) := by decide +kernel
set_option maxRecDepth 100000 in
theorem dL_clock_214 : decode cL_clock 214 = .ok (.iaload, 1) := by decide +kernel
set_option maxRecDepth 100000 in
theorem dL_clock_215 : decode cL_clock 215 = .ok (.invokestatic 21, 3) := by decide +kernel
set_option maxRecDepth 100000 in
theorem dL_clock_218 : decode cL_clock 218 = .ok (.ifCond .eq 33, 3) := by decide +kernel
set_option maxRecDepth 100000 in
theorem dL_clock_221 : decode cL_clock 221 = .ok (.aload_n 0, 1) := by decide +kernel
set_option maxRecDepth 100000 in
theorem dL_clock_222 : decode cL_clock 222 = .ok (.bipush 104, 2) := by decide +kernel
set_option maxRecDepth 100000 in
theorem dL_clock_224 : decode cL_clock 224 = .ok (.invokestatic 14, 3) := by decide +kernel
set_option maxRecDepth 100000 in
theorem dL_clock_227 : decode cL_clock 227 = .ok (.ifCond .eq 24, 3) := by decide +kernel
set_option maxRecDepth 100000 in
theorem dL_clock_230 : decode cL_clock 230 = .ok (.aload_n 0, 1) := by decide +kernel
set_option maxRecDepth 100000 in
theorem dL_clock_231 : decode cL_clock 231 = .ok (.aload 5, 2) := by decide +kernel
set_option maxRecDepth 100000 in
theorem dL_clock_233 : decode cL_clock 233 = .ok (.bipush 7, 2) := by decide +kernel
set_option maxRecDepth 100000 in
theorem dL_clock_235 : decode cL_clock 235 = .ok (.iconst 3, 1) := by decide +kernel
set_option maxRecDepth 100000 in
theorem dL_clock_236 : decode cL_clock 236 = .ok (.iload 7, 2) := by decide +kernel
set_option maxRecDepth 100000 in
theorem dL_clock_238 : decode cL_clock 238 = .ok (.imul, 1) := by decide +kernel
set_option maxRecDepth 100000 in
theorem dL_clock_239 : decode cL_clock 239 = .ok (.iadd, 1) := by decide +kernel
set_option maxRecDepth 100000 in
theorem dL_clock_240 : decode cL_clock 240 = .ok (.iaload, 1) := by decide +kernel
set_option maxRecDepth 100000 in
theorem dL_clock_241 : decode cL_clock 241 = .ok (.invokestatic 21, 3) := by decide +kernel
set_option maxRecDepth 100000 in
theorem dL_clock_244 : decode cL_clock 244 = .ok (.ifCond .eq 7, 3) := by decide +kernel
set_option maxRecDepth 100000 in
theorem dL_clock_247 : decode cL_clock 247 = .ok (.iconst 1, 1) := by decide +kernel
set_option maxRecDepth 100000 in
theorem dL_clock_248 : decode cL_clock 248 = .ok (.goto 4, 3) := by decide +kernel
set_option maxRecDepth 100000 in
theorem dL_clock_251 : decode cL_clock 251 = .ok (.iconst 0, 1) := by decide +kernel
set_option maxRecDepth 100000 in
theorem dL_clock_252 : decode cL_clock 252 = .ok (.istore 6, 2) := by decide +kernel
set_option maxRecDepth 100000 in
theorem dL_clock_254 : decode cL_clock 254 = .ok (.iinc 7 1, 3) := by decide +kernel
set_option maxRecDepth 100000 in
theorem dL_clock_257 : decode cL_clock 257 = .ok (.goto (-184), 3) := by decide +kernel
set_option maxRecDepth 100000 in
theorem dL_clock_260 : decode cL_clock 260 = .ok (.iload 6, 2) := by decide +kernel
set_option maxRecDepth 100000 in
theorem dL_clock_262 : decode cL_clock 262 = .ok (.ifCond .eq 94, 3) := by decide +kernel
set_option maxRecDepth 100000 in
theorem dL_clock_265 : decode cL_clock 265 = .ok (.aload_n 0, 1) := by decide +kernel
set_option maxRecDepth 100000 in
theorem dL_clock_266 : decode cL_clock 266 = .ok (.bipush 61, 2) := by decide +kernel
set_option maxRecDepth 100000 in
theorem dL_clock_268 : decode cL_clock 268 = .ok (.invokestatic 14, 3) := by decide +kernel
set_option maxRecDepth 100000 in
theorem dL_clock_271 : decode cL_clock 271 = .ok (.ifCond .eq 85, 3) := by decide +kernel
set_option maxRecDepth 100000 in
theorem dL_clock_274 : decode cL_clock 274 = .ok (.aload_n 0, 1) := by decide +kernel
set_option maxRecDepth 100000 in
theorem dL_clock_275 : decode cL_clock 275 = .ok (.aload 5, 2) := by decide +kernel
set_option maxRecDepth 100000 in
theorem dL_clock_277 : decode cL_clock 277 = .ok (.iconst 1, 1) := by decide +kernel
set_option maxRecDepth 100000 in
theorem dL_clock_278 : decode cL_clock 278 = .ok (.iaload, 1) := by decide +kernel
set_option maxRecDepth 100000 in
theorem dL_clock_279 : decode cL_clock 279 = .ok (.invokestatic 21, 3) := by decide +kernel
set_option maxRecDepth 100000 in
theorem dL_clock_282 : decode cL_clock 282 = .ok (.ifCond .eq 74, 3) := by decide +kernel
set_option maxRecDepth 100000 in
theorem dL_clock_285 : decode cL_clock 285 = .ok (.aload_n 0, 1) := by decide +kernel
set_option maxRecDepth 100000 in
theorem dL_clock_286 : decode cL_clock 286 = .ok (.bipush 120, 2) := by decide +kernel
set_option maxRecDepth 100000 in
theorem dL_clock_288 : decode cL_clock 288 = .ok (.invokestatic 14, 3) := by decide +kernel
set_option maxRecDepth 100000 in
theorem dL_clock_291 : decode cL_clock 291 = .ok (.ifCond .eq 65, 3) := by decide +kernel
set_option maxRecDepth 100000 in
theorem dL_clock_294 : decode cL_clock 294 = .ok (.aload_n 0, 1) := by decide +kernel
set_option maxRecDepth 100000 in
theorem dL_clock_295 : decode cL_clock 295 = .ok (.aload 5, 2) := by decide +kernel
set_option maxRecDepth 100000 in
theorem dL_clock_297 : decode cL_clock 297 = .ok (.iconst 2, 1) := by decide +kernel
set_option maxRecDepth 100000 in
theorem dL_clock_298 : decode cL_clock 298 = .ok (.iaload, 1) := by decide +kernel
set_option maxRecDepth 100000 in
theorem dL_clock_299 : decode cL_clock 299 = .ok (.invokestatic 21, 3) := by decide +kernel
set_option maxRecDepth 100000 in
theorem dL_clock_302 : decode cL_clock 302 = .ok (.ifCond .eq 54, 3) := by decide +kernel
set_option maxRecDepth 100000 in
theorem dL_clock_305 : decode cL_clock 305 = .ok (.aload_n 0, 1) := by decide +kernel
set_option maxRecDepth 100000 in
theorem dL_clock_306 : decode cL_clock 306 = .ok (.bipush 59, 2) := by decide +kernel
set_option maxRecDepth 100000 in
theorem dL_clock_308 : decode cL_clock 308 = .ok (.invokestatic 14, 3) := by decide +kernel
set_option maxRecDepth 100000 in
theorem dL_clock_311 : decode cL_clock 311 = .ok (.ifCond .eq 45, 3) := by decide +kernel
set_option maxRecDepth 100000 in
theorem dL_clock_314 : decode cL_clock 314 = .ok (.aload_n 0, 1) := by decide +kernel
set_option maxRecDepth 100000 in
theorem dL_clock_315 : decode cL_clock 315 = .ok (.bipush 115, 2) := by decide +kernel
set_option maxRecDepth 100000 in
theorem dL_clock_317 : decode cL_clock 317 = .ok (.invokestatic 14, 3) := by decide +kernel
set_option maxRecDepth 100000 in
theorem dL_clock_320 : decode cL_clock 320 = .ok (.ifCond .eq 36, 3) := by decide +kernel
set_option maxRecDepth 100000 in
theorem dL_clock_323 : decode cL_clock 323 = .ok (.aload_n 0, 1) := by decide +kernel
set_option maxRecDepth 100000 in
theorem dL_clock_324 : decode cL_clock 324 = .ok (.aload 5, 2) := by decide +kernel
set_option maxRecDepth 100000 in
theorem dL_clock_326 : decode cL_clock 326 = .ok (.iconst 3, 1) := by decide +kernel
set_option maxRecDepth 100000 in
theorem dL_clock_327 : decode cL_clock 327 = .ok (.iaload, 1) := by decide +kernel
set_option maxRecDepth 100000 in
theorem dL_clock_328 : decode cL_clock 328 = .ok (.invokestatic 21, 3) := by decide +kernel
set_option maxRecDepth 100000 in
theorem dL_clock_331 : decode cL_clock 331 = .ok (.ifCond .eq 25, 3) := by decide +kernel
set_option maxRecDepth 100000 in
theorem dL_clock_334 : decode cL_clock 334 = .ok (.aload_n 0, 1) := by decide +kernel
set_option maxRecDepth 100000 in
theorem dL_clock_335 : decode cL_clock 335 = .ok (.bipush 59, 2) := by decide +kernel
set_option maxRecDepth 100000 in
theorem dL_clock_337 : decode cL_clock 337 = .ok (.invokestatic 14, 3) := by decide +kernel
set_option maxRecDepth 100000 in
theorem dL_clock_340 : decode cL_clock 340 = .ok (.ifCond .eq 16, 3) := by decide +kernel
set_option maxRecDepth 100000 in
theorem dL_clock_343 : decode cL_clock 343 = .ok (.aload_n 0, 1) := by decide +kernel
set_option maxRecDepth 100000 in
theorem dL_clock_344 : decode cL_clock 344 = .ok (.bipush 109, 2) := by decide +kernel
set_option maxRecDepth 100000 in
theorem dL_clock_346 : decode cL_clock 346 = .ok (.invokestatic 14, 3) := by decide +kernel
set_option maxRecDepth 100000 in
theorem dL_clock_349 : decode cL_clock 349 = .ok (.ifCond .eq 7, 3) := by decide +kernel
set_option maxRecDepth 100000 in
theorem dL_clock_352 : decode cL_clock 352 = .ok (.iconst 1, 1) := by decide +kernel
set_option maxRecDepth 100000 in
theorem dL_clock_353 : decode cL_clock 353 = .ok (.goto 4, 3) := by decide +kernel
set_option maxRecDepth 100000 in
theorem dL_clock_356 : decode cL_clock 356 = .ok (.iconst 0, 1) := by decide +kernel
set_option maxRecDepth 100000 in
theorem dL_clock_357 : decode cL_clock 357 = .ok (.istore 6, 2) := by decide +kernel
set_option maxRecDepth 100000 in
theorem dL_clock_359 : decode cL_clock 359 = .ok (.iconst 0, 1) := by decide +kernel
set_option maxRecDepth 100000 in
theorem dL_clock_360 : decode cL_clock 360 = .ok (.istore 7, 2) := by decide +kernel
set_option maxRecDepth 100000 in
theorem dL_clock_362 : decode cL_clock 362 = .ok (.iconst 0, 1) := by decide +kernel
set_option maxRecDepth 100000 in
theorem dL_clock_363 : decode cL_clock 363 = .ok (.istore 8, 2) := by decide +kernel
set_option maxRecDepth 100000 in
theorem dL_clock_365 : decode cL_clock 365 = .ok (.iload 8, 2) := by decide +kernel
set_option maxRecDepth 100000 in
theorem dL_clock_367 : decode cL_clock 367 = .ok (.aload 5, 2) := by decide +kernel
set_option maxRecDepth 100000 in
theorem dL_clock_369 : decode cL_clock 369 = .ok (.iconst 4, 1) := by decide +kernel
set_option maxRecDepth 100000 in
theorem dL_clock_370 : decode cL_clock 370 = .ok (.iaload, 1) := by decide +kernel
set_option maxRecDepth 100000 in
theorem dL_clock_371 : decode cL_clock 371 = .ok (.if_icmp .ge 73, 3) := by decide +kernel
set_option maxRecDepth 100000 in
theorem dL_clock_374 : decode cL_clock 374 = .ok (.iload 7, 2) := by decide +kernel
