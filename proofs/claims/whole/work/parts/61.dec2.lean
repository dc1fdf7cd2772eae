/-! decode rows (printed) -/
set_option maxRecDepth 100000 in
theorem dX8_init_0 : decode cX8_init 0 = .ok (.aload_n 0, 1) := by decide +kernel
set_option maxRecDepth 100000 in
theorem dX8_init_1 : decode cX8_init 1 = .ok (.invokespecial 1, 3) := by decide +kernel
set_option maxRecDepth 100000 in
theorem dX8_init_4 : decode cX8_init 4 = .ok (.aload_n 0, 1) := by decide +kernel
set_option maxRecDepth 100000 in
theorem dX8_init_5 : decode cX8_init 5 = .ok (.iconst 4, 1) := by decide +kernel
set_option maxRecDepth 100000 in
theorem dX8_init_6 : decode cX8_init 6 = .ok (.anewarray 9, 3) := by decide +kernel
set_option maxRecDepth 100000 in
theorem dX8_init_9 : decode cX8_init 9 = .ok (.putfield 11, 3) := by decide +kernel
set_option maxRecDepth 100000 in
theorem dX8_init_12 : decode cX8_init 12 = .ok (.aload_n 0, 1) := by decide +kernel
set_option maxRecDepth 100000 in
theorem dX8_init_13 : decode cX8_init 13 = .ok (.bipush 8, 2) := by decide +kernel
set_option maxRecDepth 100000 in
theorem dX8_init_15 : decode cX8_init 15 = .ok (.anewarray 15, 3) := by decide +kernel
set_option maxRecDepth 100000 in
theorem dX8_init_18 : decode cX8_init 18 = .ok (.putfield 17, 3) := by decide +kernel
set_option maxRecDepth 100000 in
theorem dX8_init_21 : decode cX8_init 21 = .ok (.aload_n 0, 1) := by decide +kernel
set_option maxRecDepth 100000 in
theorem dX8_init_22 : decode cX8_init 22 = .ok (.bipush 10, 2) := by decide +kernel
set_option maxRecDepth 100000 in
theorem dX8_init_24 : decode cX8_init 24 = .ok (.anewarray 21, 3) := by decide +kernel
set_option maxRecDepth 100000 in
theorem dX8_init_27 : decode cX8_init 27 = .ok (.putfield 23, 3) := by decide +kernel
set_option maxRecDepth 100000 in
theorem dX8_init_30 : decode cX8_init 30 = .ok (.aload_n 0, 1) := by decide +kernel
set_option maxRecDepth 100000 in
theorem dX8_init_31 : decode cX8_init 31 = .ok (.new 27, 3) := by decide +kernel
set_option maxRecDepth 100000 in
theorem dX8_init_34 : decode cX8_init 34 = .ok (.dup, 1) := by decide +kernel
set_option maxRecDepth 100000 in
theorem dX8_init_35 : decode cX8_init 35 = .ok (.invokespecial 29, 3) := by decide +kernel
set_option maxRecDepth 100000 in
theorem dX8_init_38 : decode cX8_init 38 = .ok (.putfield 30, 3) := by decide +kernel
set_option maxRecDepth 100000 in
theorem dX8_init_41 : decode cX8_init 41 = .ok (.aload_n 0, 1) := by decide +kernel
set_option maxRecDepth 100000 in
theorem dX8_init_42 : decode cX8_init 42 = .ok (.new 34, 3) := by decide +kernel
set_option maxRecDepth 100000 in
theorem dX8_init_45 : decode cX8_init 45 = .ok (.dup, 1) := by decide +kernel
set_option maxRecDepth 100000 in
theorem dX8_init_46 : decode cX8_init 46 = .ok (.invokespecial 36, 3) := by decide +kernel
set_option maxRecDepth 100000 in
theorem dX8_init_49 : decode cX8_init 49 = .ok (.putfield 37, 3) := by decide +kernel
set_option maxRecDepth 100000 in
theorem dX8_init_52 : decode cX8_init 52 = .ok (.aload_n 0, 1) := by decide +kernel
set_option maxRecDepth 100000 in
theorem dX8_init_53 : decode cX8_init 53 = .ok (.new 34, 3) := by decide +kernel
set_option maxRecDepth 100000 in
theorem dX8_init_56 : decode cX8_init 56 = .ok (.dup, 1) := by decide +kernel
set_option maxRecDepth 100000 in
theorem dX8_init_57 : decode cX8_init 57 = .ok (.invokespecial 36, 3) := by decide +kernel
set_option maxRecDepth 100000 in
theorem dX8_init_60 : decode cX8_init 60 = .ok (.putfield 41, 3) := by decide +kernel
set_option maxRecDepth 100000 in
theorem dX8_init_63 : decode cX8_init 63 = .ok (.aload_n 0, 1) := by decide +kernel
set_option maxRecDepth 100000 in
theorem dX8_init_64 : decode cX8_init 64 = .ok (.new 9, 3) := by decide +kernel
set_option maxRecDepth 100000 in
theorem dX8_init_67 : decode cX8_init 67 = .ok (.dup, 1) := by decide +kernel
set_option maxRecDepth 100000 in
theorem dX8_init_68 : decode cX8_init 68 = .ok (.invokespecial 44, 3) := by decide +kernel
set_option maxRecDepth 100000 in
theorem dX8_init_71 : decode cX8_init 71 = .ok (.putfield 45, 3) := by decide +kernel
set_option maxRecDepth 100000 in
theorem dX8_init_74 : decode cX8_init 74 = .ok (.aload_n 0, 1) := by decide +kernel
set_option maxRecDepth 100000 in
theorem dX8_init_75 : decode cX8_init 75 = .ok (.new 15, 3) := by decide +kernel
set_option maxRecDepth 100000 in
theorem dX8_init_78 : decode cX8_init 78 = .ok (.dup, 1) := by decide +kernel
set_option maxRecDepth 100000 in
theorem dX8_init_79 : decode cX8_init 79 = .ok (.invokespecial 49, 3) := by decide +kernel
set_option maxRecDepth 100000 in
theorem dX8_init_82 : decode cX8_init 82 = .ok (.putfield 50, 3) := by decide +kernel
set_option maxRecDepth 100000 in
theorem dX8_init_85 : decode cX8_init 85 = .ok (.aload_n 0, 1) := by decide +kernel
set_option maxRecDepth 100000 in
theorem dX8_init_86 : decode cX8_init 86 = .ok (.new 15, 3) := by decide +kernel
set_option maxRecDepth 100000 in
theorem dX8_init_89 : decode cX8_init 89 = .ok (.dup, 1) := by decide +kernel
set_option maxRecDepth 100000 in
theorem dX8_init_90 : decode cX8_init 90 = .ok (.invokespecial 49, 3) := by decide +kernel
set_option maxRecDepth 100000 in
theorem dX8_init_93 : decode cX8_init 93 = .ok (.putfield 54, 3) := by decide +kernel
set_option maxRecDepth 100000 in
theorem dX8_init_96 : decode cX8_init 96 = .ok (.aload_n 0, 1) := by decide +kernel
set_option maxRecDepth 100000 in
theorem dX8_init_97 : decode cX8_init 97 = .ok (.new 57, 3) := by decide +kernel
set_option maxRecDepth 100000 in
theorem dX8_init_100 : decode cX8_init 100 = .ok (.dup, 1) := by decide +kernel
set_option maxRecDepth 100000 in
theorem dX8_init_101 : decode cX8_init 101 = .ok (.aload_n 0, 1) := by decide +kernel
set_option maxRecDepth 100000 in
theorem dX8_init_102 : decode cX8_init 102 = .ok (.getfield 45, 3) := by decide +kernel
set_option maxRecDepth 100000 in
theorem dX8_init_105 : decode cX8_init 105 = .ok (.aload_n 0, 1) := by decide +kernel
set_option maxRecDepth 100000 in
theorem dX8_init_106 : decode cX8_init 106 = .ok (.getfield 50, 3) := by decide +kernel
set_option maxRecDepth 100000 in
theorem dX8_init_109 : decode cX8_init 109 = .ok (.invokespecial 59, 3) := by decide +kernel
set_option maxRecDepth 100000 in
theorem dX8_init_112 : decode cX8_init 112 = .ok (.putfield 62, 3) := by decide +kernel
set_option maxRecDepth 100000 in
theorem dX8_init_115 : decode cX8_init 115 = .ok (.aload_n 0, 1) := by decide +kernel
set_option maxRecDepth 100000 in
theorem dX8_init_116 : decode cX8_init 116 = .ok (.new 57, 3) := by decide +kernel
set_option maxRecDepth 100000 in
theorem dX8_init_119 : decode cX8_init 119 = .ok (.dup, 1) := by decide +kernel
set_option maxRecDepth 100000 in
theorem dX8_init_120 : decode cX8_init 120 = .ok (.aload_n 0, 1) := by decide +kernel
set_option maxRecDepth 100000 in
theorem dX8_init_121 : decode cX8_init 121 = .ok (.getfield 45, 3) := by decide +kernel
set_option maxRecDepth 100000 in
theorem dX8_init_124 : decode cX8_init 124 = .ok (.aload_n 0, 1) := by decide +kernel
set_option maxRecDepth 100000 in
theorem dX8_init_125 : decode cX8_init 125 = .ok (.getfield 50, 3) := by decide +kernel
set_option maxRecDepth 100000 in
theorem dX8_init_128 : decode cX8_init 128 = .ok (.invokespecial 59, 3) := by decide +kernel
set_option maxRecDepth 100000 in
theorem dX8_init_131 : decode cX8_init 131 = .ok (.putfield 66, 3) := by decide +kernel
set_option maxRecDepth 100000 in
theorem dX8_init_134 : decode cX8_init 134 = .ok (.aload_n 0, 1) := by decide +kernel
set_option maxRecDepth 100000 in
theorem dX8_init_135 : decode cX8_init 135 = .ok (.new 69, 3) := by decide +kernel
set_option maxRecDepth 100000 in
theorem dX8_init_138 : decode cX8_init 138 = .ok (.dup, 1) := by decide +kernel
set_option maxRecDepth 100000 in
theorem dX8_init_139 : decode cX8_init 139 = .ok (.invokespecial 71, 3) := by decide +kernel
set_option maxRecDepth 100000 in
theorem dX8_init_142 : decode cX8_init 142 = .ok (.putfield 72, 3) := by decide +kernel
set_option maxRecDepth 100000 in
theorem dX8_init_145 : decode cX8_init 145 = .ok (.aload_n 0, 1) := by decide +kernel
set_option maxRecDepth 100000 in
theorem dX8_init_146 : decode cX8_init 146 = .ok (.new 76, 3) := by decide +kernel
set_option maxRecDepth 100000 in
theorem dX8_init_149 : decode cX8_init 149 = .ok (.dup, 1) := by decide +kernel
set_option maxRecDepth 100000 in
theorem dX8_init_150 : decode cX8_init 150 = .ok (.invokespecial 78, 3) := by decide +kernel
set_option maxRecDepth 100000 in
theorem dX8_init_153 : decode cX8_init 153 = .ok (.putfield 79, 3) := by decide +kernel
set_option maxRecDepth 100000 in
theorem dX8_init_156 : decode cX8_init 156 = .ok (.aload_n 0, 1) := by decide +kernel
set_option maxRecDepth 100000 in
theorem dX8_init_157 : decode cX8_init 157 = .ok (.iconst 3, 1) := by decide +kernel
set_option maxRecDepth 100000 in
theorem dX8_init_158 : decode cX8_init 158 = .ok (.newarray .int, 2) := by decide +kernel
set_option maxRecDepth 100000 in
theorem dX8_init_160 : decode cX8_init 160 = .ok (.putfield 83, 3) := by decide +kernel
set_option maxRecDepth 100000 in
theorem dX8_init_163 : decode cX8_init 163 = .ok (.return_, 1) := by decide +kernel
set_option maxRecDepth 100000 in
theorem dX8_letters_0 : decode cX8_letters 0 = .ok (.lload_n 1, 1) := by decide +kernel
set_option maxRecDepth 100000 in
theorem dX8_letters_1 : decode cX8_letters 1 = .ok (.invokestatic 87, 3) := by decide +kernel
set_option maxRecDepth 100000 in
theorem dX8_letters_4 : decode cX8_letters 4 = .ok (.istore_n 3, 1) := by decide +kernel
set_option maxRecDepth 100000 in
theorem dX8_letters_5 : decode cX8_letters 5 = .ok (.iload_n 3, 1) := by decide +kernel
set_option maxRecDepth 100000 in
theorem dX8_letters_6 : decode cX8_letters 6 = .ok (.iconst (-1), 1) := by decide +kernel
set_option maxRecDepth 100000 in
theorem dX8_letters_7 : decode cX8_letters 7 = .ok (.if_icmp .ne 6, 3) := by decide +kernel
set_option maxRecDepth 100000 in
theorem dX8_letters_10 : decode cX8_letters 10 = .ok (.bipush (-102), 2) := by decide +kernel
set_option maxRecDepth 100000 in
theorem dX8_letters_12 : decode cX8_letters 12 = .ok (.ireturn, 1) := by decide +kernel
set_option maxRecDepth 100000 in
theorem dX8_letters_13 : decode cX8_letters 13 = .ok (.aload_n 0, 1) := by decide +kernel
set_option maxRecDepth 100000 in
theorem dX8_letters_14 : decode cX8_letters 14 = .ok (.getfield 30, 3) := by decide +kernel
set_option maxRecDepth 100000 in
theorem dX8_letters_17 : decode cX8_letters 17 = .ok (.getfield 91, 3) := by decide +kernel
set_option maxRecDepth 100000 in
theorem dX8_letters_20 : decode cX8_letters 20 = .ok (.iload_n 3, 1) := by decide +kernel
set_option maxRecDepth 100000 in
theorem dX8_letters_21 : decode cX8_letters 21 = .ok (.iadd, 1) := by decide +kernel
set_option maxRecDepth 100000 in
theorem dX8_letters_22 : decode cX8_letters 22 = .ok (.bipush 80, 2) := by decide +kernel
set_option maxRecDepth 100000 in
theorem dX8_letters_24 : decode cX8_letters 24 = .ok (.if_icmp .le 6, 3) := by decide +kernel
set_option maxRecDepth 100000 in
theorem dX8_letters_27 : decode cX8_letters 27 = .ok (.bipush (-104), 2) := by decide +kernel
set_option maxRecDepth 100000 in
theorem dX8_letters_29 : decode cX8_letters 29 = .ok (.ireturn, 1) := by decide +kernel
set_option maxRecDepth 100000 in
theorem dX8_letters_30 : decode cX8_letters 30 = .ok (.iconst 0, 1) := by decide +kernel
set_option maxRecDepth 100000 in
theorem dX8_letters_31 : decode cX8_letters 31 = .ok (.istore 4, 2) := by decide +kernel
set_option maxRecDepth 100000 in
theorem dX8_letters_33 : decode cX8_letters 33 = .ok (.iload 4, 2) := by decide +kernel
set_option maxRecDepth 100000 in
theorem dX8_letters_35 : decode cX8_letters 35 = .ok (.iload_n 3, 1) := by decide +kernel
set_option maxRecDepth 100000 in
theorem dX8_letters_36 : decode cX8_letters 36 = .ok (.if_icmp .ge 23, 3) := by decide +kernel
set_option maxRecDepth 100000 in
theorem dX8_letters_39 : decode cX8_letters 39 = .ok (.aload_n 0, 1) := by decide +kernel
set_option maxRecDepth 100000 in
theorem dX8_letters_40 : decode cX8_letters 40 = .ok (.getfield 30, 3) := by decide +kernel
set_option maxRecDepth 100000 in
theorem dX8_letters_43 : decode cX8_letters 43 = .ok (.lload_n 1, 1) := by decide +kernel
set_option maxRecDepth 100000 in
theorem dX8_letters_44 : decode cX8_letters 44 = .ok (.iload 4, 2) := by decide +kernel
set_option maxRecDepth 100000 in
theorem dX8_letters_46 : decode cX8_letters 46 = .ok (.invokestatic 95, 3) := by decide +kernel
set_option maxRecDepth 100000 in
theorem dX8_letters_49 : decode cX8_letters 49 = .ok (.i2c, 1) := by decide +kernel
set_option maxRecDepth 100000 in
theorem dX8_letters_50 : decode cX8_letters 50 = .ok (.invokevirtual 99, 3) := by decide +kernel
set_option maxRecDepth 100000 in
theorem dX8_letters_53 : decode cX8_letters 53 = .ok (.iinc 4 1, 3) := by decide +kernel
set_option maxRecDepth 100000 in
theorem dX8_letters_56 : decode cX8_letters 56 = .ok (.goto (-23), 3) := by decide +kernel
set_option maxRecDepth 100000 in
theorem dX8_letters_59 : decode cX8_letters 59 = .ok (.aload_n 0, 1) := by decide +kernel
set_option maxRecDepth 100000 in
theorem dX8_letters_60 : decode cX8_letters 60 = .ok (.getfield 30, 3) := by decide +kernel
set_option maxRecDepth 100000 in
theorem dX8_letters_63 : decode cX8_letters 63 = .ok (.getfield 91, 3) := by decide +kernel
set_option maxRecDepth 100000 in
theorem dX8_letters_66 : decode cX8_letters 66 = .ok (.ireturn, 1) := by decide +kernel
set_option maxRecDepth 100000 in
theorem dX8_blank_0 : decode cX8_blank 0 = .ok (.aload_n 0, 1) := by decide +kernel
set_option maxRecDepth 100000 in
theorem dX8_blank_1 : decode cX8_blank 1 = .ok (.getfield 30, 3) := by decide +kernel
set_option maxRecDepth 100000 in
theorem dX8_blank_4 : decode cX8_blank 4 = .ok (.getfield 91, 3) := by decide +kernel
set_option maxRecDepth 100000 in
theorem dX8_blank_7 : decode cX8_blank 7 = .ok (.istore_n 1, 1) := by decide +kernel
set_option maxRecDepth 100000 in
theorem dX8_blank_8 : decode cX8_blank 8 = .ok (.aload_n 0, 1) := by decide +kernel
set_option maxRecDepth 100000 in
theorem dX8_blank_9 : decode cX8_blank 9 = .ok (.getfield 30, 3) := by decide +kernel
set_option maxRecDepth 100000 in
theorem dX8_blank_12 : decode cX8_blank 12 = .ok (.iconst 0, 1) := by decide +kernel
set_option maxRecDepth 100000 in
theorem dX8_blank_13 : decode cX8_blank 13 = .ok (.putfield 91, 3) := by decide +kernel
set_option maxRecDepth 100000 in
theorem dX8_blank_16 : decode cX8_blank 16 = .ok (.iload_n 1, 1) := by decide +kernel
set_option maxRecDepth 100000 in
theorem dX8_blank_17 : decode cX8_blank 17 = .ok (.ireturn, 1) := by decide +kernel
set_option maxRecDepth 100000 in
theorem dX8_fault_0 : decode cX8_fault 0 = .ok (.aload_n 0, 1) := by decide +kernel
set_option maxRecDepth 100000 in
theorem dX8_fault_1 : decode cX8_fault 1 = .ok (.getfield 30, 3) := by decide +kernel
set_option maxRecDepth 100000 in
theorem dX8_fault_4 : decode cX8_fault 4 = .ok (.aload_n 0, 1) := by decide +kernel
set_option maxRecDepth 100000 in
theorem dX8_fault_5 : decode cX8_fault 5 = .ok (.getfield 45, 3) := by decide +kernel
set_option maxRecDepth 100000 in
theorem dX8_fault_8 : decode cX8_fault 8 = .ok (.invokevirtual 103, 3) := by decide +kernel
set_option maxRecDepth 100000 in
theorem dX8_fault_11 : decode cX8_fault 11 = .ok (.pop, 1) := by decide +kernel
set_option maxRecDepth 100000 in
theorem dX8_fault_12 : decode cX8_fault 12 = .ok (.aload_n 0, 1) := by decide +kernel
set_option maxRecDepth 100000 in
theorem dX8_fault_13 : decode cX8_fault 13 = .ok (.getfield 30, 3) := by decide +kernel
set_option maxRecDepth 100000 in
theorem dX8_fault_16 : decode cX8_fault 16 = .ok (.getfield 107, 3) := by decide +kernel
set_option maxRecDepth 100000 in
theorem dX8_fault_19 : decode cX8_fault 19 = .ok (.ireturn, 1) := by decide +kernel
set_option maxRecDepth 100000 in
theorem dX8_clock_0 : decode cX8_clock 0 = .ok (.aload_n 0, 1) := by decide +kernel
set_option maxRecDepth 100000 in
theorem dX8_clock_1 : decode cX8_clock 1 = .ok (.getfield 30, 3) := by decide +kernel
set_option maxRecDepth 100000 in
theorem dX8_clock_4 : decode cX8_clock 4 = .ok (.aload_n 0, 1) := by decide +kernel
set_option maxRecDepth 100000 in
theorem dX8_clock_5 : decode cX8_clock 5 = .ok (.getfield 45, 3) := by decide +kernel
set_option maxRecDepth 100000 in
theorem dX8_clock_8 : decode cX8_clock 8 = .ok (.invokevirtual 103, 3) := by decide +kernel
set_option maxRecDepth 100000 in
theorem dX8_clock_11 : decode cX8_clock 11 = .ok (.ifCond .ne 6, 3) := by decide +kernel
set_option maxRecDepth 100000 in
theorem dX8_clock_14 : decode cX8_clock 14 = .ok (.bipush (-103), 2) := by decide +kernel
set_option maxRecDepth 100000 in
theorem dX8_clock_16 : decode cX8_clock 16 = .ok (.ireturn, 1) := by decide +kernel
set_option maxRecDepth 100000 in
theorem dX8_clock_17 : decode cX8_clock 17 = .ok (.aload_n 0, 1) := by decide +kernel
set_option maxRecDepth 100000 in
theorem dX8_clock_18 : decode cX8_clock 18 = .ok (.getfield 110, 3) := by decide +kernel
set_option maxRecDepth 100000 in
theorem dX8_clock_21 : decode cX8_clock 21 = .ok (.iconst 4, 1) := by decide +kernel
set_option maxRecDepth 100000 in
theorem dX8_clock_22 : decode cX8_clock 22 = .ok (.if_icmp .lt 6, 3) := by decide +kernel
set_option maxRecDepth 100000 in
theorem dX8_clock_25 : decode cX8_clock 25 = .ok (.bipush (-104), 2) := by decide +kernel
set_option maxRecDepth 100000 in
theorem dX8_clock_27 : decode cX8_clock 27 = .ok (.ireturn, 1) := by decide +kernel
set_option maxRecDepth 100000 in
theorem dX8_clock_28 : decode cX8_clock 28 = .ok (.new 9, 3) := by decide +kernel
set_option maxRecDepth 100000 in
theorem dX8_clock_31 : decode cX8_clock 31 = .ok (.dup, 1) := by decide +kernel
set_option maxRecDepth 100000 in
theorem dX8_clock_32 : decode cX8_clock 32 = .ok (.invokespecial 44, 3) := by decide +kernel
set_option maxRecDepth 100000 in
theorem dX8_clock_35 : decode cX8_clock 35 = .ok (.astore_n 1, 1) := by decide +kernel
set_option maxRecDepth 100000 in
theorem dX8_clock_36 : decode cX8_clock 36 = .ok (.aload_n 1, 1) := by decide +kernel
set_option maxRecDepth 100000 in
theorem dX8_clock_37 : decode cX8_clock 37 = .ok (.aload_n 0, 1) := by decide +kernel
set_option maxRecDepth 100000 in
theorem dX8_clock_38 : decode cX8_clock 38 = .ok (.getfield 45, 3) := by decide +kernel
set_option maxRecDepth 100000 in
theorem dX8_clock_41 : decode cX8_clock 41 = .ok (.invokevirtual 113, 3) := by decide +kernel
set_option maxRecDepth 100000 in
theorem dX8_clock_44 : decode cX8_clock 44 = .ok (.aload_n 0, 1) := by decide +kernel
set_option maxRecDepth 100000 in
theorem dX8_clock_45 : decode cX8_clock 45 = .ok (.getfield 11, 3) := by decide +kernel
set_option maxRecDepth 100000 in
theorem dX8_clock_48 : decode cX8_clock 48 = .ok (.aload_n 0, 1) := by decide +kernel
set_option maxRecDepth 100000 in
theorem dX8_clock_49 : decode cX8_clock 49 = .ok (.getfield 110, 3) := by decide +kernel
set_option maxRecDepth 100000 in
theorem dX8_clock_52 : decode cX8_clock 52 = .ok (.aload_n 1, 1) := by decide +kernel
set_option maxRecDepth 100000 in
theorem dX8_clock_53 : decode cX8_clock 53 = .ok (.aastore, 1) := by decide +kernel
set_option maxRecDepth 100000 in
theorem dX8_clock_54 : decode cX8_clock 54 = .ok (.aload_n 0, 1) := by decide +kernel
set_option maxRecDepth 100000 in
theorem dX8_clock_55 : decode cX8_clock 55 = .ok (.dup, 1) := by decide +kernel
set_option maxRecDepth 100000 in
theorem dX8_clock_56 : decode cX8_clock 56 = .ok (.getfield 110, 3) := by decide +kernel
set_option maxRecDepth 100000 in
theorem dX8_clock_59 : decode cX8_clock 59 = .ok (.iconst 1, 1) := by decide +kernel
set_option maxRecDepth 100000 in
theorem dX8_clock_60 : decode cX8_clock 60 = .ok (.iadd, 1) := by decide +kernel
set_option maxRecDepth 100000 in
theorem dX8_clock_61 : decode cX8_clock 61 = .ok (.putfield 110, 3) := by decide +kernel
set_option maxRecDepth 100000 in
theorem dX8_clock_64 : decode cX8_clock 64 = .ok (.aload_n 0, 1) := by decide +kernel
set_option maxRecDepth 100000 in
theorem dX8_clock_65 : decode cX8_clock 65 = .ok (.getfield 30, 3) := by decide +kernel
set_option maxRecDepth 100000 in
theorem dX8_clock_68 : decode cX8_clock 68 = .ok (.iconst 0, 1) := by decide +kernel
set_option maxRecDepth 100000 in
theorem dX8_clock_69 : decode cX8_clock 69 = .ok (.putfield 91, 3) := by decide +kernel
set_option maxRecDepth 100000 in
theorem dX8_clock_72 : decode cX8_clock 72 = .ok (.aload_n 0, 1) := by decide +kernel
set_option maxRecDepth 100000 in
theorem dX8_clock_73 : decode cX8_clock 73 = .ok (.getfield 110, 3) := by decide +kernel
set_option maxRecDepth 100000 in
theorem dX8_clock_76 : decode cX8_clock 76 = .ok (.iconst 1, 1) := by decide +kernel
set_option maxRecDepth 100000 in
theorem dX8_clock_77 : decode cX8_clock 77 = .ok (.isub, 1) := by decide +kernel
set_option maxRecDepth 100000 in
theorem dX8_clock_78 : decode cX8_clock 78 = .ok (.ireturn, 1) := by decide +kernel
set_option maxRecDepth 100000 in
theorem dX8_told_0 : decode cX8_told 0 = .ok (.aload_n 0, 1) := by decide +kernel
set_option maxRecDepth 100000 in
theorem dX8_told_1 : decode cX8_told 1 = .ok (.iload_n 1, 1) := by decide +kernel
set_option maxRecDepth 100000 in
theorem dX8_told_2 : decode cX8_told 2 = .ok (.invokevirtual 117, 3) := by decide +kernel
set_option maxRecDepth 100000 in
theorem dX8_told_5 : decode cX8_told 5 = .ok (.astore_n 3, 1) := by decide +kernel
set_option maxRecDepth 100000 in
theorem dX8_told_6 : decode cX8_told 6 = .ok (.aload_n 3, 1) := by decide +kernel
set_option maxRecDepth 100000 in
theorem dX8_told_7 : decode cX8_told 7 = .ok (.ifnonnull 6, 3) := by decide +kernel
set_option maxRecDepth 100000 in
theorem dX8_told_10 : decode cX8_told 10 = .ok (.bipush (-101), 2) := by decide +kernel
set_option maxRecDepth 100000 in
theorem dX8_told_12 : decode cX8_told 12 = .ok (.ireturn, 1) := by decide +kernel
set_option maxRecDepth 100000 in
theorem dX8_told_13 : decode cX8_told 13 = .ok (.iload_n 2, 1) := by decide +kernel
set_option maxRecDepth 100000 in
theorem dX8_told_14 : decode cX8_told 14 = .ok (.iconst 0, 1) := by decide +kernel
set_option maxRecDepth 100000 in
theorem dX8_told_15 : decode cX8_told 15 = .ok (.iconst 4, 1) := by decide +kernel
set_option maxRecDepth 100000 in
theorem dX8_told_16 : decode cX8_told 16 = .ok (.invokestatic 121, 3) := by decide +kernel
set_option maxRecDepth 100000 in
theorem dX8_told_19 : decode cX8_told 19 = .ok (.ifCond .eq 9, 3) := by decide +kernel
set_option maxRecDepth 100000 in
theorem dX8_told_22 : decode cX8_told 22 = .ok (.aload_n 3, 1) := by decide +kernel
set_option maxRecDepth 100000 in
theorem dX8_told_23 : decode cX8_told 23 = .ok (.iload_n 2, 1) := by decide +kernel
set_option maxRecDepth 100000 in
theorem dX8_told_24 : decode cX8_told 24 = .ok (.invokevirtual 125, 3) := by decide +kernel
set_option maxRecDepth 100000 in
theorem dX8_told_27 : decode cX8_told 27 = .ok (.ireturn, 1) := by decide +kernel
set_option maxRecDepth 100000 in
theorem dX8_told_28 : decode cX8_told 28 = .ok (.iload_n 2, 1) := by decide +kernel
set_option maxRecDepth 100000 in
theorem dX8_told_29 : decode cX8_told 29 = .ok (.bipush 40, 2) := by decide +kernel
set_option maxRecDepth 100000 in
theorem dX8_told_31 : decode cX8_told 31 = .ok (.bipush 51, 2) := by decide +kernel
set_option maxRecDepth 100000 in
theorem dX8_told_33 : decode cX8_told 33 = .ok (.invokestatic 121, 3) := by decide +kernel
set_option maxRecDepth 100000 in
theorem dX8_told_36 : decode cX8_told 36 = .ok (.ifCond .eq 12, 3) := by decide +kernel
set_option maxRecDepth 100000 in
theorem dX8_told_39 : decode cX8_told 39 = .ok (.aload_n 3, 1) := by decide +kernel
set_option maxRecDepth 100000 in
theorem dX8_told_40 : decode cX8_told 40 = .ok (.iload_n 2, 1) := by decide +kernel
set_option maxRecDepth 100000 in
theorem dX8_told_41 : decode cX8_told 41 = .ok (.bipush 40, 2) := by decide +kernel
set_option maxRecDepth 100000 in
theorem dX8_told_43 : decode cX8_told 43 = .ok (.isub, 1) := by decide +kernel
set_option maxRecDepth 100000 in
theorem dX8_told_44 : decode cX8_told 44 = .ok (.invokevirtual 129, 3) := by decide +kernel
set_option maxRecDepth 100000 in
theorem dX8_told_47 : decode cX8_told 47 = .ok (.ireturn, 1) := by decide +kernel
set_option maxRecDepth 100000 in
theorem dX8_told_48 : decode cX8_told 48 = .ok (.iload_n 2, 1) := by decide +kernel
set_option maxRecDepth 100000 in
theorem dX8_told_49 : decode cX8_told 49 = .ok (.bipush 10, 2) := by decide +kernel
set_option maxRecDepth 100000 in
theorem dX8_told_51 : decode cX8_told 51 = .ok (.bipush 32, 2) := by decide +kernel
set_option maxRecDepth 100000 in
theorem dX8_told_53 : decode cX8_told 53 = .ok (.invokestatic 121, 3) := by decide +kernel
set_option maxRecDepth 100000 in
theorem dX8_told_56 : decode cX8_told 56 = .ok (.ifCond .eq 11, 3) := by decide +kernel
set_option maxRecDepth 100000 in
theorem dX8_told_59 : decode cX8_told 59 = .ok (.iload_n 2, 1) := by decide +kernel
set_option maxRecDepth 100000 in
theorem dX8_told_60 : decode cX8_told 60 = .ok (.bipush 10, 2) := by decide +kernel
set_option maxRecDepth 100000 in
theorem dX8_told_62 : decode cX8_told 62 = .ok (.irem, 1) := by decide +kernel
set_option maxRecDepth 100000 in
theorem dX8_told_63 : decode cX8_told 63 = .ok (.iconst 2, 1) := by decide +kernel
set_option maxRecDepth 100000 in
theorem dX8_told_64 : decode cX8_told 64 = .ok (.if_icmp .le 6, 3) := by decide +kernel
set_option maxRecDepth 100000 in
theorem dX8_told_67 : decode cX8_told 67 = .ok (.bipush (-102), 2) := by decide +kernel
set_option maxRecDepth 100000 in
theorem dX8_told_69 : decode cX8_told 69 = .ok (.ireturn, 1) := by decide +kernel
set_option maxRecDepth 100000 in
theorem dX8_told_70 : decode cX8_told 70 = .ok (.aload_n 3, 1) := by decide +kernel
set_option maxRecDepth 100000 in
theorem dX8_told_71 : decode cX8_told 71 = .ok (.iload_n 2, 1) := by decide +kernel
set_option maxRecDepth 100000 in
theorem dX8_told_72 : decode cX8_told 72 = .ok (.bipush 10, 2) := by decide +kernel
set_option maxRecDepth 100000 in
theorem dX8_told_74 : decode cX8_told 74 = .ok (.idiv, 1) := by decide +kernel
set_option maxRecDepth 100000 in
theorem dX8_told_75 : decode cX8_told 75 = .ok (.iconst 1, 1) := by decide +kernel
set_option maxRecDepth 100000 in
theorem dX8_told_76 : decode cX8_told 76 = .ok (.isub, 1) := by decide +kernel
set_option maxRecDepth 100000 in
theorem dX8_told_77 : decode cX8_told 77 = .ok (.iload_n 2, 1) := by decide +kernel
set_option maxRecDepth 100000 in
theorem dX8_told_78 : decode cX8_told 78 = .ok (.bipush 10, 2) := by decide +kernel
set_option maxRecDepth 100000 in
theorem dX8_told_80 : decode cX8_told 80 = .ok (.irem, 1) := by decide +kernel
set_option maxRecDepth 100000 in
theorem dX8_told_81 : decode cX8_told 81 = .ok (.invokevirtual 132, 3) := by decide +kernel
set_option maxRecDepth 100000 in
theorem dX8_told_84 : decode cX8_told 84 = .ok (.ireturn, 1) := by decide +kernel
set_option maxRecDepth 100000 in
theorem dX8_season_0 : decode cX8_season 0 = .ok (.iload_n 1, 1) := by decide +kernel
set_option maxRecDepth 100000 in
theorem dX8_season_1 : decode cX8_season 1 = .ok (.invokestatic 136, 3) := by decide +kernel
set_option maxRecDepth 100000 in
theorem dX8_season_4 : decode cX8_season 4 = .ok (.ifCond .ne 6, 3) := by decide +kernel
set_option maxRecDepth 100000 in
theorem dX8_season_7 : decode cX8_season 7 = .ok (.bipush (-101), 2) := by decide +kernel
set_option maxRecDepth 100000 in
theorem dX8_season_9 : decode cX8_season 9 = .ok (.ireturn, 1) := by decide +kernel
set_option maxRecDepth 100000 in
theorem dX8_season_10 : decode cX8_season 10 = .ok (.iload_n 2, 1) := by decide +kernel
set_option maxRecDepth 100000 in
theorem dX8_season_11 : decode cX8_season 11 = .ok (.ifCond .ne 28, 3) := by decide +kernel
set_option maxRecDepth 100000 in
theorem dX8_season_14 : decode cX8_season 14 = .ok (.iload_n 3, 1) := by decide +kernel
set_option maxRecDepth 100000 in
theorem dX8_season_15 : decode cX8_season 15 = .ok (.bipush 50, 2) := by decide +kernel
set_option maxRecDepth 100000 in
theorem dX8_season_17 : decode cX8_season 17 = .ok (.sipush 150, 3) := by decide +kernel
set_option maxRecDepth 100000 in
theorem dX8_season_20 : decode cX8_season 20 = .ok (.invokestatic 121, 3) := by decide +kernel
set_option maxRecDepth 100000 in
theorem dX8_season_23 : decode cX8_season 23 = .ok (.ifCond .eq 16, 3) := by decide +kernel
set_option maxRecDepth 100000 in
theorem dX8_season_26 : decode cX8_season 26 = .ok (.aload_n 0, 1) := by decide +kernel
set_option maxRecDepth 100000 in
theorem dX8_season_27 : decode cX8_season 27 = .ok (.getfield 37, 3) := by decide +kernel
set_option maxRecDepth 100000 in
theorem dX8_season_30 : decode cX8_season 30 = .ok (.getfield 140, 3) := by decide +kernel
set_option maxRecDepth 100000 in
theorem dX8_season_33 : decode cX8_season 33 = .ok (.iload_n 1, 1) := by decide +kernel
set_option maxRecDepth 100000 in
theorem dX8_season_34 : decode cX8_season 34 = .ok (.iload_n 3, 1) := by decide +kernel
set_option maxRecDepth 100000 in
theorem dX8_season_35 : decode cX8_season 35 = .ok (.invokestatic 143, 3) := by decide +kernel
set_option maxRecDepth 100000 in
theorem dX8_season_38 : decode cX8_season 38 = .ok (.ireturn, 1) := by decide +kernel
set_option maxRecDepth 100000 in
theorem dX8_season_39 : decode cX8_season 39 = .ok (.iload_n 2, 1) := by decide +kernel
set_option maxRecDepth 100000 in
theorem dX8_season_40 : decode cX8_season 40 = .ok (.iconst 1, 1) := by decide +kernel
set_option maxRecDepth 100000 in
theorem dX8_season_41 : decode cX8_season 41 = .ok (.if_icmp .ne 27, 3) := by decide +kernel
set_option maxRecDepth 100000 in
theorem dX8_season_44 : decode cX8_season 44 = .ok (.iload_n 3, 1) := by decide +kernel
set_option maxRecDepth 100000 in
theorem dX8_season_45 : decode cX8_season 45 = .ok (.bipush 24, 2) := by decide +kernel
set_option maxRecDepth 100000 in
theorem dX8_season_47 : decode cX8_season 47 = .ok (.bipush 72, 2) := by decide +kernel
set_option maxRecDepth 100000 in
theorem dX8_season_49 : decode cX8_season 49 = .ok (.invokestatic 121, 3) := by decide +kernel
set_option maxRecDepth 100000 in
theorem dX8_season_52 : decode cX8_season 52 = .ok (.ifCond .eq 16, 3) := by decide +kernel
set_option maxRecDepth 100000 in
theorem dX8_season_55 : decode cX8_season 55 = .ok (.aload_n 0, 1) := by decide +kernel
set_option maxRecDepth 100000 in
theorem dX8_season_56 : decode cX8_season 56 = .ok (.getfield 37, 3) := by decide +kernel
set_option maxRecDepth 100000 in
theorem dX8_season_59 : decode cX8_season 59 = .ok (.getfield 147, 3) := by decide +kernel
set_option maxRecDepth 100000 in
theorem dX8_season_62 : decode cX8_season 62 = .ok (.iload_n 1, 1) := by decide +kernel
set_option maxRecDepth 100000 in
theorem dX8_season_63 : decode cX8_season 63 = .ok (.iload_n 3, 1) := by decide +kernel
set_option maxRecDepth 100000 in
theorem dX8_season_64 : decode cX8_season 64 = .ok (.invokestatic 143, 3) := by decide +kernel
set_option maxRecDepth 100000 in
theorem dX8_season_67 : decode cX8_season 67 = .ok (.ireturn, 1) := by decide +kernel
set_option maxRecDepth 100000 in
theorem dX8_season_68 : decode cX8_season 68 = .ok (.bipush (-102), 2) := by decide +kernel
set_option maxRecDepth 100000 in
theorem dX8_season_70 : decode cX8_season 70 = .ok (.ireturn, 1) := by decide +kernel
set_option maxRecDepth 100000 in
theorem dX8_faulty_0 : decode cX8_faulty 0 = .ok (.iload_n 1, 1) := by decide +kernel
set_option maxRecDepth 100000 in
theorem dX8_faulty_1 : decode cX8_faulty 1 = .ok (.invokestatic 150, 3) := by decide +kernel
set_option maxRecDepth 100000 in
theorem dX8_faulty_4 : decode cX8_faulty 4 = .ok (.ifCond .eq 30, 3) := by decide +kernel
set_option maxRecDepth 100000 in
theorem dX8_faulty_7 : decode cX8_faulty 7 = .ok (.iload_n 2, 1) := by decide +kernel
set_option maxRecDepth 100000 in
theorem dX8_faulty_8 : decode cX8_faulty 8 = .ok (.iconst 0, 1) := by decide +kernel
set_option maxRecDepth 100000 in
theorem dX8_faulty_9 : decode cX8_faulty 9 = .ok (.iconst 2, 1) := by decide +kernel
set_option maxRecDepth 100000 in
theorem dX8_faulty_10 : decode cX8_faulty 10 = .ok (.invokestatic 121, 3) := by decide +kernel
set_option maxRecDepth 100000 in
theorem dX8_faulty_13 : decode cX8_faulty 13 = .ok (.ifCond .eq 21, 3) := by decide +kernel
set_option maxRecDepth 100000 in
theorem dX8_faulty_16 : decode cX8_faulty 16 = .ok (.iload_n 3, 1) := by decide +kernel
set_option maxRecDepth 100000 in
theorem dX8_faulty_17 : decode cX8_faulty 17 = .ok (.iconst 1, 1) := by decide +kernel
set_option maxRecDepth 100000 in
theorem dX8_faulty_18 : decode cX8_faulty 18 = .ok (.bipush 20, 2) := by decide +kernel
set_option maxRecDepth 100000 in
theorem dX8_faulty_20 : decode cX8_faulty 20 = .ok (.invokestatic 121, 3) := by decide +kernel
set_option maxRecDepth 100000 in
theorem dX8_faulty_23 : decode cX8_faulty 23 = .ok (.ifCond .eq 11, 3) := by decide +kernel
set_option maxRecDepth 100000 in
theorem dX8_faulty_26 : decode cX8_faulty 26 = .ok (.iload 4, 2) := by decide +kernel
set_option maxRecDepth 100000 in
theorem dX8_faulty_28 : decode cX8_faulty 28 = .ok (.invokestatic 153, 3) := by decide +kernel
set_option maxRecDepth 100000 in
theorem dX8_faulty_31 : decode cX8_faulty 31 = .ok (.ifCond .ne 6, 3) := by decide +kernel
set_option maxRecDepth 100000 in
theorem dX8_faulty_34 : decode cX8_faulty 34 = .ok (.bipush (-102), 2) := by decide +kernel
set_option maxRecDepth 100000 in
theorem dX8_faulty_36 : decode cX8_faulty 36 = .ok (.ireturn, 1) := by decide +kernel
set_option maxRecDepth 100000 in
theorem dX8_faulty_37 : decode cX8_faulty 37 = .ok (.aload_n 0, 1) := by decide +kernel
set_option maxRecDepth 100000 in
theorem dX8_faulty_38 : decode cX8_faulty 38 = .ok (.getfield 156, 3) := by decide +kernel
set_option maxRecDepth 100000 in
theorem dX8_faulty_41 : decode cX8_faulty 41 = .ok (.bipush 8, 2) := by decide +kernel
set_option maxRecDepth 100000 in
theorem dX8_faulty_43 : decode cX8_faulty 43 = .ok (.if_icmp .lt 6, 3) := by decide +kernel
set_option maxRecDepth 100000 in
theorem dX8_faulty_46 : decode cX8_faulty 46 = .ok (.bipush (-104), 2) := by decide +kernel
set_option maxRecDepth 100000 in
theorem dX8_faulty_48 : decode cX8_faulty 48 = .ok (.ireturn, 1) := by decide +kernel
set_option maxRecDepth 100000 in
theorem dX8_faulty_49 : decode cX8_faulty 49 = .ok (.new 15, 3) := by decide +kernel
set_option maxRecDepth 100000 in
theorem dX8_faulty_52 : decode cX8_faulty 52 = .ok (.dup, 1) := by decide +kernel
set_option maxRecDepth 100000 in
theorem dX8_faulty_53 : decode cX8_faulty 53 = .ok (.invokespecial 49, 3) := by decide +kernel
set_option maxRecDepth 100000 in
theorem dX8_faulty_56 : decode cX8_faulty 56 = .ok (.astore 5, 2) := by decide +kernel
set_option maxRecDepth 100000 in
theorem dX8_faulty_58 : decode cX8_faulty 58 = .ok (.aload 5, 2) := by decide +kernel
set_option maxRecDepth 100000 in
theorem dX8_faulty_60 : decode cX8_faulty 60 = .ok (.iload_n 1, 1) := by decide +kernel
set_option maxRecDepth 100000 in
theorem dX8_faulty_61 : decode cX8_faulty 61 = .ok (.iload_n 2, 1) := by decide +kernel
set_option maxRecDepth 100000 in
theorem dX8_faulty_62 : decode cX8_faulty 62 = .ok (.iload_n 3, 1) := by decide +kernel
set_option maxRecDepth 100000 in
theorem dX8_faulty_63 : decode cX8_faulty 63 = .ok (.iload 4, 2) := by decide +kernel
set_option maxRecDepth 100000 in
theorem dX8_faulty_65 : decode cX8_faulty 65 = .ok (.invokevirtual 159, 3) := by decide +kernel
set_option maxRecDepth 100000 in
theorem dX8_faulty_68 : decode cX8_faulty 68 = .ok (.aload_n 0, 1) := by decide +kernel
set_option maxRecDepth 100000 in
theorem dX8_faulty_69 : decode cX8_faulty 69 = .ok (.getfield 17, 3) := by decide +kernel
set_option maxRecDepth 100000 in
theorem dX8_faulty_72 : decode cX8_faulty 72 = .ok (.aload_n 0, 1) := by decide +kernel
set_option maxRecDepth 100000 in
theorem dX8_faulty_73 : decode cX8_faulty 73 = .ok (.getfield 156, 3) := by decide +kernel
set_option maxRecDepth 100000 in
theorem dX8_faulty_76 : decode cX8_faulty 76 = .ok (.aload 5, 2) := by decide +kernel
set_option maxRecDepth 100000 in
theorem dX8_faulty_78 : decode cX8_faulty 78 = .ok (.aastore, 1) := by decide +kernel
set_option maxRecDepth 100000 in
theorem dX8_faulty_79 : decode cX8_faulty 79 = .ok (.aload_n 0, 1) := by decide +kernel
set_option maxRecDepth 100000 in
theorem dX8_faulty_80 : decode cX8_faulty 80 = .ok (.dup, 1) := by decide +kernel
set_option maxRecDepth 100000 in
theorem dX8_faulty_81 : decode cX8_faulty 81 = .ok (.getfield 156, 3) := by decide +kernel
set_option maxRecDepth 100000 in
theorem dX8_faulty_84 : decode cX8_faulty 84 = .ok (.iconst 1, 1) := by decide +kernel
set_option maxRecDepth 100000 in
theorem dX8_faulty_85 : decode cX8_faulty 85 = .ok (.iadd, 1) := by decide +kernel
set_option maxRecDepth 100000 in
theorem dX8_faulty_86 : decode cX8_faulty 86 = .ok (.putfield 156, 3) := by decide +kernel
set_option maxRecDepth 100000 in
theorem dX8_faulty_89 : decode cX8_faulty 89 = .ok (.aload_n 0, 1) := by decide +kernel
set_option maxRecDepth 100000 in
theorem dX8_faulty_90 : decode cX8_faulty 90 = .ok (.getfield 156, 3) := by decide +kernel
set_option maxRecDepth 100000 in
theorem dX8_faulty_93 : decode cX8_faulty 93 = .ok (.iconst 1, 1) := by decide +kernel
set_option maxRecDepth 100000 in
theorem dX8_faulty_94 : decode cX8_faulty 94 = .ok (.isub, 1) := by decide +kernel
set_option maxRecDepth 100000 in
theorem dX8_faulty_95 : decode cX8_faulty 95 = .ok (.ireturn, 1) := by decide +kernel
set_option maxRecDepth 100000 in
theorem dX8_as_0 : decode cX8_as 0 = .ok (.iload_n 1, 1) := by decide +kernel
set_option maxRecDepth 100000 in
theorem dX8_as_1 : decode cX8_as 1 = .ok (.iconst 0, 1) := by decide +kernel
set_option maxRecDepth 100000 in
theorem dX8_as_2 : decode cX8_as 2 = .ok (.aload_n 0, 1) := by decide +kernel
set_option maxRecDepth 100000 in
theorem dX8_as_3 : decode cX8_as 3 = .ok (.getfield 156, 3) := by decide +kernel
set_option maxRecDepth 100000 in
theorem dX8_as_6 : decode cX8_as 6 = .ok (.iconst 1, 1) := by decide +kernel
set_option maxRecDepth 100000 in
theorem dX8_as_7 : decode cX8_as 7 = .ok (.isub, 1) := by decide +kernel
set_option maxRecDepth 100000 in
theorem dX8_as_8 : decode cX8_as 8 = .ok (.invokestatic 121, 3) := by decide +kernel
set_option maxRecDepth 100000 in
theorem dX8_as_11 : decode cX8_as 11 = .ok (.ifCond .ne 6, 3) := by decide +kernel
set_option maxRecDepth 100000 in
theorem dX8_as_14 : decode cX8_as 14 = .ok (.bipush (-101), 2) := by decide +kernel
set_option maxRecDepth 100000 in
theorem dX8_as_16 : decode cX8_as 16 = .ok (.ireturn, 1) := by decide +kernel
set_option maxRecDepth 100000 in
theorem dX8_as_17 : decode cX8_as 17 = .ok (.iload_n 2, 1) := by decide +kernel
set_option maxRecDepth 100000 in
theorem dX8_as_18 : decode cX8_as 18 = .ok (.invokestatic 150, 3) := by decide +kernel
set_option maxRecDepth 100000 in
theorem dX8_as_21 : decode cX8_as 21 = .ok (.ifCond .ne 6, 3) := by decide +kernel
set_option maxRecDepth 100000 in
theorem dX8_as_24 : decode cX8_as 24 = .ok (.bipush (-102), 2) := by decide +kernel
set_option maxRecDepth 100000 in
theorem dX8_as_26 : decode cX8_as 26 = .ok (.ireturn, 1) := by decide +kernel
set_option maxRecDepth 100000 in
theorem dX8_as_27 : decode cX8_as 27 = .ok (.aload_n 0, 1) := by decide +kernel
set_option maxRecDepth 100000 in
theorem dX8_as_28 : decode cX8_as 28 = .ok (.iload_n 1, 1) := by decide +kernel
set_option maxRecDepth 100000 in
theorem dX8_as_29 : decode cX8_as 29 = .ok (.invokevirtual 163, 3) := by decide +kernel
set_option maxRecDepth 100000 in
theorem dX8_as_32 : decode cX8_as 32 = .ok (.astore_n 3, 1) := by decide +kernel
set_option maxRecDepth 100000 in
theorem dX8_as_33 : decode cX8_as 33 = .ok (.aload_n 3, 1) := by decide +kernel
set_option maxRecDepth 100000 in
theorem dX8_as_34 : decode cX8_as 34 = .ok (.ifnull 18, 3) := by decide +kernel
set_option maxRecDepth 100000 in
theorem dX8_as_37 : decode cX8_as 37 = .ok (.aload_n 3, 1) := by decide +kernel
set_option maxRecDepth 100000 in
theorem dX8_as_38 : decode cX8_as 38 = .ok (.getfield 167, 3) := by decide +kernel
set_option maxRecDepth 100000 in
theorem dX8_as_41 : decode cX8_as 41 = .ok (.iload_n 2, 1) := by decide +kernel
set_option maxRecDepth 100000 in
theorem dX8_as_42 : decode cX8_as 42 = .ok (.invokestatic 170, 3) := by decide +kernel
set_option maxRecDepth 100000 in
theorem dX8_as_45 : decode cX8_as 45 = .ok (.ifCond .eq 7, 3) := by decide +kernel
set_option maxRecDepth 100000 in
theorem dX8_as_48 : decode cX8_as 48 = .ok (.iload_n 1, 1) := by decide +kernel
set_option maxRecDepth 100000 in
theorem dX8_as_49 : decode cX8_as 49 = .ok (.goto 4, 3) := by decide +kernel
set_option maxRecDepth 100000 in
theorem dX8_as_52 : decode cX8_as 52 = .ok (.iconst (-1), 1) := by decide +kernel
set_option maxRecDepth 100000 in
theorem dX8_as_53 : decode cX8_as 53 = .ok (.ireturn, 1) := by decide +kernel
set_option maxRecDepth 100000 in
theorem dX8_work_0 : decode cX8_work 0 = .ok (.iload_n 1, 1) := by decide +kernel
set_option maxRecDepth 100000 in
theorem dX8_work_1 : decode cX8_work 1 = .ok (.invokestatic 150, 3) := by decide +kernel
set_option maxRecDepth 100000 in
theorem dX8_work_4 : decode cX8_work 4 = .ok (.ifCond .eq 18, 3) := by decide +kernel
set_option maxRecDepth 100000 in
theorem dX8_work_7 : decode cX8_work 7 = .ok (.iload_n 2, 1) := by decide +kernel
set_option maxRecDepth 100000 in
theorem dX8_work_8 : decode cX8_work 8 = .ok (.iload_n 1, 1) := by decide +kernel
set_option maxRecDepth 100000 in
theorem dX8_work_9 : decode cX8_work 9 = .ok (.invokestatic 174, 3) := by decide +kernel
set_option maxRecDepth 100000 in
theorem dX8_work_12 : decode cX8_work 12 = .ok (.iload_n 1, 1) := by decide +kernel
set_option maxRecDepth 100000 in
theorem dX8_work_13 : decode cX8_work 13 = .ok (.invokestatic 177, 3) := by decide +kernel
set_option maxRecDepth 100000 in
theorem dX8_work_16 : decode cX8_work 16 = .ok (.invokestatic 121, 3) := by decide +kernel
set_option maxRecDepth 100000 in
theorem dX8_work_19 : decode cX8_work 19 = .ok (.ifCond .ne 6, 3) := by decide +kernel
set_option maxRecDepth 100000 in
theorem dX8_work_22 : decode cX8_work 22 = .ok (.bipush (-102), 2) := by decide +kernel
set_option maxRecDepth 100000 in
theorem dX8_work_24 : decode cX8_work 24 = .ok (.ireturn, 1) := by decide +kernel
set_option maxRecDepth 100000 in
theorem dX8_work_25 : decode cX8_work 25 = .ok (.aload_n 0, 1) := by decide +kernel
set_option maxRecDepth 100000 in
theorem dX8_work_26 : decode cX8_work 26 = .ok (.iload_n 3, 1) := by decide +kernel
set_option maxRecDepth 100000 in
theorem dX8_work_27 : decode cX8_work 27 = .ok (.invokevirtual 180, 3) := by decide +kernel
set_option maxRecDepth 100000 in
theorem dX8_work_30 : decode cX8_work 30 = .ok (.ifCond .ne 6, 3) := by decide +kernel
set_option maxRecDepth 100000 in
theorem dX8_work_33 : decode cX8_work 33 = .ok (.bipush (-101), 2) := by decide +kernel
set_option maxRecDepth 100000 in
theorem dX8_work_35 : decode cX8_work 35 = .ok (.ireturn, 1) := by decide +kernel
set_option maxRecDepth 100000 in
theorem dX8_work_36 : decode cX8_work 36 = .ok (.aload_n 0, 1) := by decide +kernel
set_option maxRecDepth 100000 in
theorem dX8_work_37 : decode cX8_work 37 = .ok (.getfield 183, 3) := by decide +kernel
set_option maxRecDepth 100000 in
theorem dX8_work_40 : decode cX8_work 40 = .ok (.bipush 10, 2) := by decide +kernel
set_option maxRecDepth 100000 in
theorem dX8_work_42 : decode cX8_work 42 = .ok (.if_icmp .lt 6, 3) := by decide +kernel
set_option maxRecDepth 100000 in
theorem dX8_work_45 : decode cX8_work 45 = .ok (.bipush (-104), 2) := by decide +kernel
set_option maxRecDepth 100000 in
theorem dX8_work_47 : decode cX8_work 47 = .ok (.ireturn, 1) := by decide +kernel
set_option maxRecDepth 100000 in
theorem dX8_work_48 : decode cX8_work 48 = .ok (.aload_n 0, 1) := by decide +kernel
set_option maxRecDepth 100000 in
theorem dX8_work_49 : decode cX8_work 49 = .ok (.getfield 23, 3) := by decide +kernel
set_option maxRecDepth 100000 in
theorem dX8_work_52 : decode cX8_work 52 = .ok (.aload_n 0, 1) := by decide +kernel
set_option maxRecDepth 100000 in
theorem dX8_work_53 : decode cX8_work 53 = .ok (.getfield 183, 3) := by decide +kernel
set_option maxRecDepth 100000 in
theorem dX8_work_56 : decode cX8_work 56 = .ok (.new 21, 3) := by decide +kernel
set_option maxRecDepth 100000 in
theorem dX8_work_59 : decode cX8_work 59 = .ok (.dup, 1) := by decide +kernel
set_option maxRecDepth 100000 in
theorem dX8_work_60 : decode cX8_work 60 = .ok (.aload_n 0, 1) := by decide +kernel
set_option maxRecDepth 100000 in
theorem dX8_work_61 : decode cX8_work 61 = .ok (.getfield 183, 3) := by decide +kernel
set_option maxRecDepth 100000 in
theorem dX8_work_64 : decode cX8_work 64 = .ok (.iload_n 1, 1) := by decide +kernel
set_option maxRecDepth 100000 in
theorem dX8_work_65 : decode cX8_work 65 = .ok (.iload_n 2, 1) := by decide +kernel
set_option maxRecDepth 100000 in
theorem dX8_work_66 : decode cX8_work 66 = .ok (.aload_n 0, 1) := by decide +kernel
set_option maxRecDepth 100000 in
theorem dX8_work_67 : decode cX8_work 67 = .ok (.iload_n 3, 1) := by decide +kernel
set_option maxRecDepth 100000 in
theorem dX8_work_68 : decode cX8_work 68 = .ok (.invokevirtual 186, 3) := by decide +kernel
set_option maxRecDepth 100000 in
theorem dX8_work_71 : decode cX8_work 71 = .ok (.invokespecial 190, 3) := by decide +kernel
set_option maxRecDepth 100000 in
theorem dX8_work_74 : decode cX8_work 74 = .ok (.aastore, 1) := by decide +kernel
set_option maxRecDepth 100000 in
theorem dX8_work_75 : decode cX8_work 75 = .ok (.aload_n 0, 1) := by decide +kernel
set_option maxRecDepth 100000 in
theorem dX8_work_76 : decode cX8_work 76 = .ok (.dup, 1) := by decide +kernel
set_option maxRecDepth 100000 in
theorem dX8_work_77 : decode cX8_work 77 = .ok (.getfield 183, 3) := by decide +kernel
set_option maxRecDepth 100000 in
theorem dX8_work_80 : decode cX8_work 80 = .ok (.iconst 1, 1) := by decide +kernel
set_option maxRecDepth 100000 in
theorem dX8_work_81 : decode cX8_work 81 = .ok (.iadd, 1) := by decide +kernel
set_option maxRecDepth 100000 in
theorem dX8_work_82 : decode cX8_work 82 = .ok (.putfield 183, 3) := by decide +kernel
set_option maxRecDepth 100000 in
theorem dX8_work_85 : decode cX8_work 85 = .ok (.aload_n 0, 1) := by decide +kernel
set_option maxRecDepth 100000 in
theorem dX8_work_86 : decode cX8_work 86 = .ok (.getfield 183, 3) := by decide +kernel
set_option maxRecDepth 100000 in
theorem dX8_work_89 : decode cX8_work 89 = .ok (.iconst 1, 1) := by decide +kernel
set_option maxRecDepth 100000 in
theorem dX8_work_90 : decode cX8_work 90 = .ok (.isub, 1) := by decide +kernel
set_option maxRecDepth 100000 in
theorem dX8_work_91 : decode cX8_work 91 = .ok (.ireturn, 1) := by decide +kernel
set_option maxRecDepth 100000 in
theorem dX8_workAs_0 : decode cX8_workAs 0 = .ok (.aload_n 0, 1) := by decide +kernel
set_option maxRecDepth 100000 in
theorem dX8_workAs_1 : decode cX8_workAs 1 = .ok (.iload_n 1, 1) := by decide +kernel
set_option maxRecDepth 100000 in
theorem dX8_workAs_2 : decode cX8_workAs 2 = .ok (.invokevirtual 186, 3) := by decide +kernel
set_option maxRecDepth 100000 in
theorem dX8_workAs_5 : decode cX8_workAs 5 = .ok (.astore_n 3, 1) := by decide +kernel
set_option maxRecDepth 100000 in
theorem dX8_workAs_6 : decode cX8_workAs 6 = .ok (.aload_n 3, 1) := by decide +kernel
set_option maxRecDepth 100000 in
theorem dX8_workAs_7 : decode cX8_workAs 7 = .ok (.ifnonnull 6, 3) := by decide +kernel
set_option maxRecDepth 100000 in
theorem dX8_workAs_10 : decode cX8_workAs 10 = .ok (.bipush (-101), 2) := by decide +kernel
set_option maxRecDepth 100000 in
theorem dX8_workAs_12 : decode cX8_workAs 12 = .ok (.ireturn, 1) := by decide +kernel
set_option maxRecDepth 100000 in
theorem dX8_workAs_13 : decode cX8_workAs 13 = .ok (.iload_n 2, 1) := by decide +kernel
set_option maxRecDepth 100000 in
theorem dX8_workAs_14 : decode cX8_workAs 14 = .ok (.invokestatic 150, 3) := by decide +kernel
set_option maxRecDepth 100000 in
theorem dX8_workAs_17 : decode cX8_workAs 17 = .ok (.ifCond .ne 6, 3) := by decide +kernel
set_option maxRecDepth 100000 in
theorem dX8_workAs_20 : decode cX8_workAs 20 = .ok (.bipush (-102), 2) := by decide +kernel
set_option maxRecDepth 100000 in
theorem dX8_workAs_22 : decode cX8_workAs 22 = .ok (.ireturn, 1) := by decide +kernel
set_option maxRecDepth 100000 in
theorem dX8_workAs_23 : decode cX8_workAs 23 = .ok (.aload_n 3, 1) := by decide +kernel
set_option maxRecDepth 100000 in
theorem dX8_workAs_24 : decode cX8_workAs 24 = .ok (.getfield 193, 3) := by decide +kernel
set_option maxRecDepth 100000 in
theorem dX8_workAs_27 : decode cX8_workAs 27 = .ok (.iload_n 2, 1) := by decide +kernel
set_option maxRecDepth 100000 in
theorem dX8_workAs_28 : decode cX8_workAs 28 = .ok (.invokestatic 194, 3) := by decide +kernel
set_option maxRecDepth 100000 in
theorem dX8_workAs_31 : decode cX8_workAs 31 = .ok (.ifCond .eq 7, 3) := by decide +kernel
set_option maxRecDepth 100000 in
theorem dX8_workAs_34 : decode cX8_workAs 34 = .ok (.iload_n 1, 1) := by decide +kernel
set_option maxRecDepth 100000 in
theorem dX8_workAs_35 : decode cX8_workAs 35 = .ok (.goto 4, 3) := by decide +kernel
set_option maxRecDepth 100000 in
theorem dX8_workAs_38 : decode cX8_workAs 38 = .ok (.iconst (-1), 1) := by decide +kernel
set_option maxRecDepth 100000 in
theorem dX8_workAs_39 : decode cX8_workAs 39 = .ok (.ireturn, 1) := by decide +kernel
set_option maxRecDepth 100000 in
theorem dX8_head_0 : decode cX8_head 0 = .ok (.aload_n 0, 1) := by decide +kernel
set_option maxRecDepth 100000 in
theorem dX8_head_1 : decode cX8_head 1 = .ok (.iload_n 1, 1) := by decide +kernel
set_option maxRecDepth 100000 in
theorem dX8_head_2 : decode cX8_head 2 = .ok (.invokevirtual 180, 3) := by decide +kernel
set_option maxRecDepth 100000 in
theorem dX8_head_5 : decode cX8_head 5 = .ok (.ifCond .ne 6, 3) := by decide +kernel
set_option maxRecDepth 100000 in
theorem dX8_head_8 : decode cX8_head 8 = .ok (.bipush (-101), 2) := by decide +kernel
set_option maxRecDepth 100000 in
theorem dX8_head_10 : decode cX8_head 10 = .ok (.ireturn, 1) := by decide +kernel
set_option maxRecDepth 100000 in
theorem dX8_head_11 : decode cX8_head 11 = .ok (.aload_n 0, 1) := by decide +kernel
set_option maxRecDepth 100000 in
theorem dX8_head_12 : decode cX8_head 12 = .ok (.getfield 37, 3) := by decide +kernel
set_option maxRecDepth 100000 in
theorem dX8_head_15 : decode cX8_head 15 = .ok (.getfield 197, 3) := by decide +kernel
set_option maxRecDepth 100000 in
theorem dX8_head_18 : decode cX8_head 18 = .ok (.istore_n 2, 1) := by decide +kernel
set_option maxRecDepth 100000 in
theorem dX8_head_19 : decode cX8_head 19 = .ok (.aload_n 0, 1) := by decide +kernel
set_option maxRecDepth 100000 in
theorem dX8_head_20 : decode cX8_head 20 = .ok (.getfield 37, 3) := by decide +kernel
set_option maxRecDepth 100000 in
theorem dX8_head_23 : decode cX8_head 23 = .ok (.iload_n 1, 1) := by decide +kernel
set_option maxRecDepth 100000 in
theorem dX8_head_24 : decode cX8_head 24 = .ok (.putfield 197, 3) := by decide +kernel
set_option maxRecDepth 100000 in
theorem dX8_head_27 : decode cX8_head 27 = .ok (.iload_n 2, 1) := by decide +kernel
set_option maxRecDepth 100000 in
theorem dX8_head_28 : decode cX8_head 28 = .ok (.ireturn, 1) := by decide +kernel
set_option maxRecDepth 100000 in
theorem dX8_drops_0 : decode cX8_drops 0 = .ok (.aload_n 0, 1) := by decide +kernel
set_option maxRecDepth 100000 in
theorem dX8_drops_1 : decode cX8_drops 1 = .ok (.iload_n 1, 1) := by decide +kernel
set_option maxRecDepth 100000 in
theorem dX8_drops_2 : decode cX8_drops 2 = .ok (.iload_n 2, 1) := by decide +kernel
set_option maxRecDepth 100000 in
theorem dX8_drops_3 : decode cX8_drops 3 = .ok (.iload_n 3, 1) := by decide +kernel
set_option maxRecDepth 100000 in
theorem dX8_drops_4 : decode cX8_drops 4 = .ok (.invokevirtual 200, 3) := by decide +kernel
set_option maxRecDepth 100000 in
theorem dX8_drops_7 : decode cX8_drops 7 = .ok (.ifCond .eq 18, 3) := by decide +kernel
set_option maxRecDepth 100000 in
theorem dX8_drops_10 : decode cX8_drops 10 = .ok (.aload_n 0, 1) := by decide +kernel
set_option maxRecDepth 100000 in
theorem dX8_drops_11 : decode cX8_drops 11 = .ok (.getfield 62, 3) := by decide +kernel
set_option maxRecDepth 100000 in
theorem dX8_drops_14 : decode cX8_drops 14 = .ok (.getfield 203, 3) := by decide +kernel
set_option maxRecDepth 100000 in
theorem dX8_drops_17 : decode cX8_drops 17 = .ok (.iload 4, 2) := by decide +kernel
set_option maxRecDepth 100000 in
theorem dX8_drops_19 : decode cX8_drops 19 = .ok (.invokevirtual 206, 3) := by decide +kernel
set_option maxRecDepth 100000 in
theorem dX8_drops_22 : decode cX8_drops 22 = .ok (.ifCond .ne 6, 3) := by decide +kernel
set_option maxRecDepth 100000 in
theorem dX8_drops_25 : decode cX8_drops 25 = .ok (.bipush (-101), 2) := by decide +kernel
set_option maxRecDepth 100000 in
theorem dX8_drops_27 : decode cX8_drops 27 = .ok (.ireturn, 1) := by decide +kernel
set_option maxRecDepth 100000 in
theorem dX8_drops_28 : decode cX8_drops 28 = .ok (.aload_n 0, 1) := by decide +kernel
set_option maxRecDepth 100000 in
theorem dX8_drops_29 : decode cX8_drops 29 = .ok (.getfield 62, 3) := by decide +kernel
set_option maxRecDepth 100000 in
theorem dX8_drops_32 : decode cX8_drops 32 = .ok (.bipush 96, 2) := by decide +kernel
set_option maxRecDepth 100000 in
theorem dX8_drops_34 : decode cX8_drops 34 = .ok (.invokevirtual 209, 3) := by decide +kernel
set_option maxRecDepth 100000 in
theorem dX8_drops_37 : decode cX8_drops 37 = .ok (.aload_n 0, 1) := by decide +kernel
set_option maxRecDepth 100000 in
theorem dX8_drops_38 : decode cX8_drops 38 = .ok (.getfield 62, 3) := by decide +kernel
set_option maxRecDepth 100000 in
theorem dX8_drops_41 : decode cX8_drops 41 = .ok (.iload 4, 2) := by decide +kernel
set_option maxRecDepth 100000 in
theorem dX8_drops_43 : decode cX8_drops 43 = .ok (.invokevirtual 213, 3) := by decide +kernel
set_option maxRecDepth 100000 in
theorem dX8_drops_46 : decode cX8_drops 46 = .ok (.ireturn, 1) := by decide +kernel
set_option maxRecDepth 100000 in
theorem dX8_error_0 : decode cX8_error 0 = .ok (.aload_n 0, 1) := by decide +kernel
set_option maxRecDepth 100000 in
theorem dX8_error_1 : decode cX8_error 1 = .ok (.iload_n 1, 1) := by decide +kernel
set_option maxRecDepth 100000 in
theorem dX8_error_2 : decode cX8_error 2 = .ok (.iload_n 2, 1) := by decide +kernel
set_option maxRecDepth 100000 in
theorem dX8_error_3 : decode cX8_error 3 = .ok (.iload_n 3, 1) := by decide +kernel
set_option maxRecDepth 100000 in
theorem dX8_error_4 : decode cX8_error 4 = .ok (.invokevirtual 200, 3) := by decide +kernel
set_option maxRecDepth 100000 in
theorem dX8_error_7 : decode cX8_error 7 = .ok (.ifCond .eq 18, 3) := by decide +kernel
set_option maxRecDepth 100000 in
theorem dX8_error_10 : decode cX8_error 10 = .ok (.aload_n 0, 1) := by decide +kernel
set_option maxRecDepth 100000 in
theorem dX8_error_11 : decode cX8_error 11 = .ok (.getfield 62, 3) := by decide +kernel
set_option maxRecDepth 100000 in
theorem dX8_error_14 : decode cX8_error 14 = .ok (.getfield 203, 3) := by decide +kernel
set_option maxRecDepth 100000 in
theorem dX8_error_17 : decode cX8_error 17 = .ok (.iload 4, 2) := by decide +kernel
set_option maxRecDepth 100000 in
theorem dX8_error_19 : decode cX8_error 19 = .ok (.invokevirtual 206, 3) := by decide +kernel
set_option maxRecDepth 100000 in
theorem dX8_error_22 : decode cX8_error 22 = .ok (.ifCond .ne 7, 3) := by decide +kernel
set_option maxRecDepth 100000 in
theorem dX8_error_25 : decode cX8_error 25 = .ok (.sipush (-1001), 3) := by decide +kernel
set_option maxRecDepth 100000 in
theorem dX8_error_28 : decode cX8_error 28 = .ok (.ireturn, 1) := by decide +kernel
set_option maxRecDepth 100000 in
theorem dX8_error_29 : decode cX8_error 29 = .ok (.aload_n 0, 1) := by decide +kernel
set_option maxRecDepth 100000 in
theorem dX8_error_30 : decode cX8_error 30 = .ok (.getfield 62, 3) := by decide +kernel
set_option maxRecDepth 100000 in
theorem dX8_error_33 : decode cX8_error 33 = .ok (.bipush 96, 2) := by decide +kernel
set_option maxRecDepth 100000 in
theorem dX8_error_35 : decode cX8_error 35 = .ok (.invokevirtual 209, 3) := by decide +kernel
set_option maxRecDepth 100000 in
theorem dX8_error_38 : decode cX8_error 38 = .ok (.aload_n 0, 1) := by decide +kernel
set_option maxRecDepth 100000 in
theorem dX8_error_39 : decode cX8_error 39 = .ok (.getfield 62, 3) := by decide +kernel
set_option maxRecDepth 100000 in
theorem dX8_error_42 : decode cX8_error 42 = .ok (.iload 4, 2) := by decide +kernel
set_option maxRecDepth 100000 in
theorem dX8_error_44 : decode cX8_error 44 = .ok (.aload_n 0, 1) := by decide +kernel
set_option maxRecDepth 100000 in
theorem dX8_error_45 : decode cX8_error 45 = .ok (.iload_n 2, 1) := by decide +kernel
set_option maxRecDepth 100000 in
theorem dX8_error_46 : decode cX8_error 46 = .ok (.invokevirtual 216, 3) := by decide +kernel
set_option maxRecDepth 100000 in
theorem dX8_error_49 : decode cX8_error 49 = .ok (.invokevirtual 219, 3) := by decide +kernel
set_option maxRecDepth 100000 in
theorem dX8_error_52 : decode cX8_error 52 = .ok (.ireturn, 1) := by decide +kernel
set_option maxRecDepth 100000 in
theorem dX8_at_0 : decode cX8_at 0 = .ok (.aload_n 0, 1) := by decide +kernel
set_option maxRecDepth 100000 in
theorem dX8_at_1 : decode cX8_at 1 = .ok (.iload_n 1, 1) := by decide +kernel
set_option maxRecDepth 100000 in
theorem dX8_at_2 : decode cX8_at 2 = .ok (.iload_n 2, 1) := by decide +kernel
set_option maxRecDepth 100000 in
theorem dX8_at_3 : decode cX8_at 3 = .ok (.iload_n 3, 1) := by decide +kernel
set_option maxRecDepth 100000 in
theorem dX8_at_4 : decode cX8_at 4 = .ok (.invokevirtual 200, 3) := by decide +kernel
set_option maxRecDepth 100000 in
theorem dX8_at_7 : decode cX8_at 7 = .ok (.ifCond .ne 6, 3) := by decide +kernel
set_option maxRecDepth 100000 in
theorem dX8_at_10 : decode cX8_at 10 = .ok (.bipush (-101), 2) := by decide +kernel
set_option maxRecDepth 100000 in
theorem dX8_at_12 : decode cX8_at 12 = .ok (.ireturn, 1) := by decide +kernel
set_option maxRecDepth 100000 in
theorem dX8_at_13 : decode cX8_at 13 = .ok (.iload 4, 2) := by decide +kernel
set_option maxRecDepth 100000 in
theorem dX8_at_15 : decode cX8_at 15 = .ok (.invokestatic 153, 3) := by decide +kernel
set_option maxRecDepth 100000 in
theorem dX8_at_18 : decode cX8_at 18 = .ok (.ifCond .eq 14, 3) := by decide +kernel
set_option maxRecDepth 100000 in
theorem dX8_at_21 : decode cX8_at 21 = .ok (.iload 5, 2) := by decide +kernel
set_option maxRecDepth 100000 in
theorem dX8_at_23 : decode cX8_at 23 = .ok (.iconst 0, 1) := by decide +kernel
set_option maxRecDepth 100000 in
theorem dX8_at_24 : decode cX8_at 24 = .ok (.bipush 7, 2) := by decide +kernel
set_option maxRecDepth 100000 in
theorem dX8_at_26 : decode cX8_at 26 = .ok (.invokestatic 121, 3) := by decide +kernel
set_option maxRecDepth 100000 in
theorem dX8_at_29 : decode cX8_at 29 = .ok (.ifCond .ne 6, 3) := by decide +kernel
set_option maxRecDepth 100000 in
theorem dX8_at_32 : decode cX8_at 32 = .ok (.bipush (-102), 2) := by decide +kernel
set_option maxRecDepth 100000 in
theorem dX8_at_34 : decode cX8_at 34 = .ok (.ireturn, 1) := by decide +kernel
set_option maxRecDepth 100000 in
theorem dX8_at_35 : decode cX8_at 35 = .ok (.aload_n 0, 1) := by decide +kernel
set_option maxRecDepth 100000 in
theorem dX8_at_36 : decode cX8_at 36 = .ok (.getfield 62, 3) := by decide +kernel
set_option maxRecDepth 100000 in
theorem dX8_at_39 : decode cX8_at 39 = .ok (.iload 4, 2) := by decide +kernel
set_option maxRecDepth 100000 in
theorem dX8_at_41 : decode cX8_at 41 = .ok (.iconst 1, 1) := by decide +kernel
set_option maxRecDepth 100000 in
theorem dX8_at_42 : decode cX8_at 42 = .ok (.iadd, 1) := by decide +kernel
set_option maxRecDepth 100000 in
theorem dX8_at_43 : decode cX8_at 43 = .ok (.invokevirtual 209, 3) := by decide +kernel
set_option maxRecDepth 100000 in
theorem dX8_at_46 : decode cX8_at 46 = .ok (.aload_n 0, 1) := by decide +kernel
set_option maxRecDepth 100000 in
theorem dX8_at_47 : decode cX8_at 47 = .ok (.getfield 62, 3) := by decide +kernel
set_option maxRecDepth 100000 in
theorem dX8_at_50 : decode cX8_at 50 = .ok (.iload 5, 2) := by decide +kernel
set_option maxRecDepth 100000 in
theorem dX8_at_52 : decode cX8_at 52 = .ok (.invokevirtual 222, 3) := by decide +kernel
set_option maxRecDepth 100000 in
theorem dX8_at_55 : decode cX8_at 55 = .ok (.ireturn, 1) := by decide +kernel
set_option maxRecDepth 100000 in
theorem dX8_even_0 : decode cX8_even 0 = .ok (.aload_n 0, 1) := by decide +kernel
set_option maxRecDepth 100000 in
theorem dX8_even_1 : decode cX8_even 1 = .ok (.iload_n 1, 1) := by decide +kernel
set_option maxRecDepth 100000 in
theorem dX8_even_2 : decode cX8_even 2 = .ok (.iload_n 2, 1) := by decide +kernel
set_option maxRecDepth 100000 in
theorem dX8_even_3 : decode cX8_even 3 = .ok (.iload_n 3, 1) := by decide +kernel
set_option maxRecDepth 100000 in
theorem dX8_even_4 : decode cX8_even 4 = .ok (.invokevirtual 200, 3) := by decide +kernel
set_option maxRecDepth 100000 in
theorem dX8_even_7 : decode cX8_even 7 = .ok (.ifCond .ne 6, 3) := by decide +kernel
set_option maxRecDepth 100000 in
theorem dX8_even_10 : decode cX8_even 10 = .ok (.bipush (-101), 2) := by decide +kernel
set_option maxRecDepth 100000 in
theorem dX8_even_12 : decode cX8_even 12 = .ok (.ireturn, 1) := by decide +kernel
set_option maxRecDepth 100000 in
theorem dX8_even_13 : decode cX8_even 13 = .ok (.iload 4, 2) := by decide +kernel
set_option maxRecDepth 100000 in
theorem dX8_even_15 : decode cX8_even 15 = .ok (.iconst 0, 1) := by decide +kernel
set_option maxRecDepth 100000 in
theorem dX8_even_16 : decode cX8_even 16 = .ok (.iconst 1, 1) := by decide +kernel
set_option maxRecDepth 100000 in
theorem dX8_even_17 : decode cX8_even 17 = .ok (.invokestatic 121, 3) := by decide +kernel
set_option maxRecDepth 100000 in
theorem dX8_even_20 : decode cX8_even 20 = .ok (.ifCond .ne 6, 3) := by decide +kernel
set_option maxRecDepth 100000 in
theorem dX8_even_23 : decode cX8_even 23 = .ok (.bipush (-102), 2) := by decide +kernel
set_option maxRecDepth 100000 in
theorem dX8_even_25 : decode cX8_even 25 = .ok (.ireturn, 1) := by decide +kernel
set_option maxRecDepth 100000 in
theorem dX8_even_26 : decode cX8_even 26 = .ok (.aload_n 0, 1) := by decide +kernel
set_option maxRecDepth 100000 in
theorem dX8_even_27 : decode cX8_even 27 = .ok (.getfield 62, 3) := by decide +kernel
set_option maxRecDepth 100000 in
theorem dX8_even_30 : decode cX8_even 30 = .ok (.bipush 96, 2) := by decide +kernel
set_option maxRecDepth 100000 in
theorem dX8_even_32 : decode cX8_even 32 = .ok (.invokevirtual 209, 3) := by decide +kernel
set_option maxRecDepth 100000 in
theorem dX8_even_35 : decode cX8_even 35 = .ok (.iload 4, 2) := by decide +kernel
set_option maxRecDepth 100000 in
theorem dX8_even_37 : decode cX8_even 37 = .ok (.ifCond .ne 13, 3) := by decide +kernel
set_option maxRecDepth 100000 in
theorem dX8_even_40 : decode cX8_even 40 = .ok (.aload_n 0, 1) := by decide +kernel
set_option maxRecDepth 100000 in
theorem dX8_even_41 : decode cX8_even 41 = .ok (.getfield 62, 3) := by decide +kernel
set_option maxRecDepth 100000 in
theorem dX8_even_44 : decode cX8_even 44 = .ok (.getfield 223, 3) := by decide +kernel
set_option maxRecDepth 100000 in
theorem dX8_even_47 : decode cX8_even 47 = .ok (.goto 10, 3) := by decide +kernel
set_option maxRecDepth 100000 in
theorem dX8_even_50 : decode cX8_even 50 = .ok (.aload_n 0, 1) := by decide +kernel
set_option maxRecDepth 100000 in
theorem dX8_even_51 : decode cX8_even 51 = .ok (.getfield 62, 3) := by decide +kernel
set_option maxRecDepth 100000 in
theorem dX8_even_54 : decode cX8_even 54 = .ok (.getfield 226, 3) := by decide +kernel
set_option maxRecDepth 100000 in
theorem dX8_even_57 : decode cX8_even 57 = .ok (.ireturn, 1) := by decide +kernel
set_option maxRecDepth 100000 in
theorem dX8_mean_0 : decode cX8_mean 0 = .ok (.aload_n 0, 1) := by decide +kernel
set_option maxRecDepth 100000 in
theorem dX8_mean_1 : decode cX8_mean 1 = .ok (.iload_n 1, 1) := by decide +kernel
set_option maxRecDepth 100000 in
theorem dX8_mean_2 : decode cX8_mean 2 = .ok (.iload_n 2, 1) := by decide +kernel
set_option maxRecDepth 100000 in
theorem dX8_mean_3 : decode cX8_mean 3 = .ok (.iload_n 3, 1) := by decide +kernel
set_option maxRecDepth 100000 in
theorem dX8_mean_4 : decode cX8_mean 4 = .ok (.invokevirtual 200, 3) := by decide +kernel
set_option maxRecDepth 100000 in
theorem dX8_mean_7 : decode cX8_mean 7 = .ok (.ifCond .ne 6, 3) := by decide +kernel
set_option maxRecDepth 100000 in
theorem dX8_mean_10 : decode cX8_mean 10 = .ok (.bipush (-101), 2) := by decide +kernel
set_option maxRecDepth 100000 in
theorem dX8_mean_12 : decode cX8_mean 12 = .ok (.ireturn, 1) := by decide +kernel
set_option maxRecDepth 100000 in
theorem dX8_mean_13 : decode cX8_mean 13 = .ok (.iload 4, 2) := by decide +kernel
set_option maxRecDepth 100000 in
theorem dX8_mean_15 : decode cX8_mean 15 = .ok (.iconst 0, 1) := by decide +kernel
set_option maxRecDepth 100000 in
theorem dX8_mean_16 : decode cX8_mean 16 = .ok (.iconst 1, 1) := by decide +kernel
set_option maxRecDepth 100000 in
theorem dX8_mean_17 : decode cX8_mean 17 = .ok (.invokestatic 121, 3) := by decide +kernel
set_option maxRecDepth 100000 in
theorem dX8_mean_20 : decode cX8_mean 20 = .ok (.ifCond .ne 6, 3) := by decide +kernel
set_option maxRecDepth 100000 in
theorem dX8_mean_23 : decode cX8_mean 23 = .ok (.bipush (-102), 2) := by decide +kernel
set_option maxRecDepth 100000 in
theorem dX8_mean_25 : decode cX8_mean 25 = .ok (.ireturn, 1) := by decide +kernel
set_option maxRecDepth 100000 in
theorem dX8_mean_26 : decode cX8_mean 26 = .ok (.aload_n 0, 1) := by decide +kernel
set_option maxRecDepth 100000 in
theorem dX8_mean_27 : decode cX8_mean 27 = .ok (.getfield 62, 3) := by decide +kernel
set_option maxRecDepth 100000 in
theorem dX8_mean_30 : decode cX8_mean 30 = .ok (.bipush 96, 2) := by decide +kernel
set_option maxRecDepth 100000 in
theorem dX8_mean_32 : decode cX8_mean 32 = .ok (.invokevirtual 209, 3) := by decide +kernel
set_option maxRecDepth 100000 in
theorem dX8_mean_35 : decode cX8_mean 35 = .ok (.iconst 0, 1) := by decide +kernel
set_option maxRecDepth 100000 in
theorem dX8_mean_36 : decode cX8_mean 36 = .ok (.istore 5, 2) := by decide +kernel
set_option maxRecDepth 100000 in
theorem dX8_mean_38 : decode cX8_mean 38 = .ok (.iconst 0, 1) := by decide +kernel
set_option maxRecDepth 100000 in
theorem dX8_mean_39 : decode cX8_mean 39 = .ok (.istore 6, 2) := by decide +kernel
set_option maxRecDepth 100000 in
theorem dX8_mean_41 : decode cX8_mean 41 = .ok (.iload 6, 2) := by decide +kernel
set_option maxRecDepth 100000 in
theorem dX8_mean_43 : decode cX8_mean 43 = .ok (.aload_n 0, 1) := by decide +kernel
set_option maxRecDepth 100000 in
theorem dX8_mean_44 : decode cX8_mean 44 = .ok (.getfield 62, 3) := by decide +kernel
set_option maxRecDepth 100000 in
theorem dX8_mean_47 : decode cX8_mean 47 = .ok (.getfield 203, 3) := by decide +kernel
set_option maxRecDepth 100000 in
theorem dX8_mean_50 : decode cX8_mean 50 = .ok (.getfield 229, 3) := by decide +kernel
set_option maxRecDepth 100000 in
theorem dX8_mean_53 : decode cX8_mean 53 = .ok (.if_icmp .ge 28, 3) := by decide +kernel
set_option maxRecDepth 100000 in
theorem dX8_mean_56 : decode cX8_mean 56 = .ok (.iload 5, 2) := by decide +kernel
set_option maxRecDepth 100000 in
theorem dX8_mean_58 : decode cX8_mean 58 = .ok (.aload_n 0, 1) := by decide +kernel
set_option maxRecDepth 100000 in
theorem dX8_mean_59 : decode cX8_mean 59 = .ok (.getfield 62, 3) := by decide +kernel
set_option maxRecDepth 100000 in
theorem dX8_mean_62 : decode cX8_mean 62 = .ok (.iload 6, 2) := by decide +kernel
set_option maxRecDepth 100000 in
theorem dX8_mean_64 : decode cX8_mean 64 = .ok (.aload_n 0, 1) := by decide +kernel
set_option maxRecDepth 100000 in
theorem dX8_mean_65 : decode cX8_mean 65 = .ok (.iload_n 2, 1) := by decide +kernel
set_option maxRecDepth 100000 in
theorem dX8_mean_66 : decode cX8_mean 66 = .ok (.invokevirtual 216, 3) := by decide +kernel
set_option maxRecDepth 100000 in
theorem dX8_mean_69 : decode cX8_mean 69 = .ok (.invokevirtual 232, 3) := by decide +kernel
set_option maxRecDepth 100000 in
theorem dX8_mean_72 : decode cX8_mean 72 = .ok (.iadd, 1) := by decide +kernel
set_option maxRecDepth 100000 in
theorem dX8_mean_73 : decode cX8_mean 73 = .ok (.istore 5, 2) := by decide +kernel
set_option maxRecDepth 100000 in
theorem dX8_mean_75 : decode cX8_mean 75 = .ok (.iinc 6 1, 3) := by decide +kernel
set_option maxRecDepth 100000 in
theorem dX8_mean_78 : decode cX8_mean 78 = .ok (.goto (-37), 3) := by decide +kernel
set_option maxRecDepth 100000 in
theorem dX8_mean_81 : decode cX8_mean 81 = .ok (.aload_n 0, 1) := by decide +kernel
set_option maxRecDepth 100000 in
theorem dX8_mean_82 : decode cX8_mean 82 = .ok (.getfield 62, 3) := by decide +kernel
set_option maxRecDepth 100000 in
theorem dX8_mean_85 : decode cX8_mean 85 = .ok (.getfield 203, 3) := by decide +kernel
set_option maxRecDepth 100000 in
theorem dX8_mean_88 : decode cX8_mean 88 = .ok (.getfield 229, 3) := by decide +kernel
set_option maxRecDepth 100000 in
theorem dX8_mean_91 : decode cX8_mean 91 = .ok (.istore 6, 2) := by decide +kernel
set_option maxRecDepth 100000 in
theorem dX8_mean_93 : decode cX8_mean 93 = .ok (.iload 4, 2) := by decide +kernel
set_option maxRecDepth 100000 in
theorem dX8_mean_95 : decode cX8_mean 95 = .ok (.ifCond .ne 8, 3) := by decide +kernel
set_option maxRecDepth 100000 in
theorem dX8_mean_98 : decode cX8_mean 98 = .ok (.iload 5, 2) := by decide +kernel
set_option maxRecDepth 100000 in
theorem dX8_mean_100 : decode cX8_mean 100 = .ok (.goto 5, 3) := by decide +kernel
set_option maxRecDepth 100000 in
theorem dX8_mean_103 : decode cX8_mean 103 = .ok (.iload 6, 2) := by decide +kernel
set_option maxRecDepth 100000 in
theorem dX8_mean_105 : decode cX8_mean 105 = .ok (.iload 5, 2) := by decide +kernel
set_option maxRecDepth 100000 in
theorem dX8_mean_107 : decode cX8_mean 107 = .ok (.iload 6, 2) := by decide +kernel
set_option maxRecDepth 100000 in
theorem dX8_mean_109 : decode cX8_mean 109 = .ok (.invokestatic 235, 3) := by decide +kernel
set_option maxRecDepth 100000 in
theorem dX8_mean_112 : decode cX8_mean 112 = .ok (.invokestatic 238, 3) := by decide +kernel
set_option maxRecDepth 100000 in
theorem dX8_mean_115 : decode cX8_mean 115 = .ok (.ireturn, 1) := by decide +kernel
set_option maxRecDepth 100000 in
theorem dX8_shows_0 : decode cX8_shows 0 = .ok (.aload_n 0, 1) := by decide +kernel
set_option maxRecDepth 100000 in
theorem dX8_shows_1 : decode cX8_shows 1 = .ok (.iload_n 1, 1) := by decide +kernel
set_option maxRecDepth 100000 in
theorem dX8_shows_2 : decode cX8_shows 2 = .ok (.iload_n 2, 1) := by decide +kernel
set_option maxRecDepth 100000 in
theorem dX8_shows_3 : decode cX8_shows 3 = .ok (.iload_n 3, 1) := by decide +kernel
set_option maxRecDepth 100000 in
theorem dX8_shows_4 : decode cX8_shows 4 = .ok (.invokevirtual 200, 3) := by decide +kernel
set_option maxRecDepth 100000 in
theorem dX8_shows_7 : decode cX8_shows 7 = .ok (.ifCond .ne 6, 3) := by decide +kernel
set_option maxRecDepth 100000 in
theorem dX8_shows_10 : decode cX8_shows 10 = .ok (.bipush (-101), 2) := by decide +kernel
set_option maxRecDepth 100000 in
theorem dX8_shows_12 : decode cX8_shows 12 = .ok (.ireturn, 1) := by decide +kernel
set_option maxRecDepth 100000 in
theorem dX8_shows_13 : decode cX8_shows 13 = .ok (.iload 4, 2) := by decide +kernel
set_option maxRecDepth 100000 in
theorem dX8_shows_15 : decode cX8_shows 15 = .ok (.iconst 0, 1) := by decide +kernel
set_option maxRecDepth 100000 in
theorem dX8_shows_16 : decode cX8_shows 16 = .ok (.iconst 3, 1) := by decide +kernel
set_option maxRecDepth 100000 in
theorem dX8_shows_17 : decode cX8_shows 17 = .ok (.invokestatic 121, 3) := by decide +kernel
set_option maxRecDepth 100000 in
theorem dX8_shows_20 : decode cX8_shows 20 = .ok (.ifCond .ne 18, 3) := by decide +kernel
set_option maxRecDepth 100000 in
theorem dX8_shows_23 : decode cX8_shows 23 = .ok (.iload 4, 2) := by decide +kernel
set_option maxRecDepth 100000 in
theorem dX8_shows_25 : decode cX8_shows 25 = .ok (.bipush 10, 2) := by decide +kernel
set_option maxRecDepth 100000 in
theorem dX8_shows_27 : decode cX8_shows 27 = .ok (.bipush 29, 2) := by decide +kernel
set_option maxRecDepth 100000 in
theorem dX8_shows_29 : decode cX8_shows 29 = .ok (.invokestatic 121, 3) := by decide +kernel
set_option maxRecDepth 100000 in
theorem dX8_shows_32 : decode cX8_shows 32 = .ok (.ifCond .ne 6, 3) := by decide +kernel
set_option maxRecDepth 100000 in
theorem dX8_shows_35 : decode cX8_shows 35 = .ok (.bipush (-102), 2) := by decide +kernel
set_option maxRecDepth 100000 in
theorem dX8_shows_37 : decode cX8_shows 37 = .ok (.ireturn, 1) := by decide +kernel
set_option maxRecDepth 100000 in
theorem dX8_shows_38 : decode cX8_shows 38 = .ok (.aload_n 0, 1) := by decide +kernel
set_option maxRecDepth 100000 in
theorem dX8_shows_39 : decode cX8_shows 39 = .ok (.invokevirtual 241, 3) := by decide +kernel
set_option maxRecDepth 100000 in
theorem dX8_shows_42 : decode cX8_shows 42 = .ok (.iload 4, 2) := by decide +kernel
set_option maxRecDepth 100000 in
theorem dX8_shows_44 : decode cX8_shows 44 = .ok (.bipush 10, 2) := by decide +kernel
set_option maxRecDepth 100000 in
theorem dX8_shows_46 : decode cX8_shows 46 = .ok (.if_icmp .ge 15, 3) := by decide +kernel
set_option maxRecDepth 100000 in
theorem dX8_shows_49 : decode cX8_shows 49 = .ok (.aload_n 0, 1) := by decide +kernel
set_option maxRecDepth 100000 in
theorem dX8_shows_50 : decode cX8_shows 50 = .ok (.getfield 72, 3) := by decide +kernel
set_option maxRecDepth 100000 in
theorem dX8_shows_53 : decode cX8_shows 53 = .ok (.iload 4, 2) := by decide +kernel
set_option maxRecDepth 100000 in
theorem dX8_shows_55 : decode cX8_shows 55 = .ok (.invokevirtual 244, 3) := by decide +kernel
set_option maxRecDepth 100000 in
theorem dX8_shows_58 : decode cX8_shows 58 = .ok (.goto 15, 3) := by decide +kernel
set_option maxRecDepth 100000 in
theorem dX8_shows_61 : decode cX8_shows 61 = .ok (.aload_n 0, 1) := by decide +kernel
set_option maxRecDepth 100000 in
theorem dX8_shows_62 : decode cX8_shows 62 = .ok (.getfield 72, 3) := by decide +kernel
set_option maxRecDepth 100000 in
theorem dX8_shows_65 : decode cX8_shows 65 = .ok (.iload 4, 2) := by decide +kernel
set_option maxRecDepth 100000 in
theorem dX8_shows_67 : decode cX8_shows 67 = .ok (.bipush 10, 2) := by decide +kernel
set_option maxRecDepth 100000 in
theorem dX8_shows_69 : decode cX8_shows 69 = .ok (.isub, 1) := by decide +kernel
set_option maxRecDepth 100000 in
theorem dX8_shows_70 : decode cX8_shows 70 = .ok (.invokevirtual 245, 3) := by decide +kernel
set_option maxRecDepth 100000 in
theorem dX8_shows_73 : decode cX8_shows 73 = .ok (.ireturn, 1) := by decide +kernel
set_option maxRecDepth 100000 in
theorem dX8_worst_0 : decode cX8_worst 0 = .ok (.aload_n 0, 1) := by decide +kernel
set_option maxRecDepth 100000 in
theorem dX8_worst_1 : decode cX8_worst 1 = .ok (.iload_n 1, 1) := by decide +kernel
set_option maxRecDepth 100000 in
theorem dX8_worst_2 : decode cX8_worst 2 = .ok (.invokevirtual 117, 3) := by decide +kernel
set_option maxRecDepth 100000 in
theorem dX8_worst_5 : decode cX8_worst 5 = .ok (.astore_n 3, 1) := by decide +kernel
set_option maxRecDepth 100000 in
theorem dX8_worst_6 : decode cX8_worst 6 = .ok (.aload_n 3, 1) := by decide +kernel
set_option maxRecDepth 100000 in
theorem dX8_worst_7 : decode cX8_worst 7 = .ok (.ifnonnull 6, 3) := by decide +kernel
set_option maxRecDepth 100000 in
theorem dX8_worst_10 : decode cX8_worst 10 = .ok (.bipush (-101), 2) := by decide +kernel
set_option maxRecDepth 100000 in
theorem dX8_worst_12 : decode cX8_worst 12 = .ok (.ireturn, 1) := by decide +kernel
set_option maxRecDepth 100000 in
theorem dX8_worst_13 : decode cX8_worst 13 = .ok (.iload_n 2, 1) := by decide +kernel
set_option maxRecDepth 100000 in
theorem dX8_worst_14 : decode cX8_worst 14 = .ok (.iconst 0, 1) := by decide +kernel
set_option maxRecDepth 100000 in
theorem dX8_worst_15 : decode cX8_worst 15 = .ok (.iconst 2, 1) := by decide +kernel
set_option maxRecDepth 100000 in
theorem dX8_worst_16 : decode cX8_worst 16 = .ok (.invokestatic 121, 3) := by decide +kernel
set_option maxRecDepth 100000 in
theorem dX8_worst_19 : decode cX8_worst 19 = .ok (.ifCond .ne 6, 3) := by decide +kernel
set_option maxRecDepth 100000 in
theorem dX8_worst_22 : decode cX8_worst 22 = .ok (.bipush (-102), 2) := by decide +kernel
set_option maxRecDepth 100000 in
theorem dX8_worst_24 : decode cX8_worst 24 = .ok (.ireturn, 1) := by decide +kernel
set_option maxRecDepth 100000 in
theorem dX8_worst_25 : decode cX8_worst 25 = .ok (.aload_n 0, 1) := by decide +kernel
set_option maxRecDepth 100000 in
theorem dX8_worst_26 : decode cX8_worst 26 = .ok (.aload_n 3, 1) := by decide +kernel
set_option maxRecDepth 100000 in
theorem dX8_worst_27 : decode cX8_worst 27 = .ok (.invokevirtual 248, 3) := by decide +kernel
set_option maxRecDepth 100000 in
theorem dX8_worst_30 : decode cX8_worst 30 = .ok (.aload_n 0, 1) := by decide +kernel
set_option maxRecDepth 100000 in
theorem dX8_worst_31 : decode cX8_worst 31 = .ok (.getfield 83, 3) := by decide +kernel
set_option maxRecDepth 100000 in
theorem dX8_worst_34 : decode cX8_worst 34 = .ok (.iload_n 2, 1) := by decide +kernel
set_option maxRecDepth 100000 in
theorem dX8_worst_35 : decode cX8_worst 35 = .ok (.iaload, 1) := by decide +kernel
set_option maxRecDepth 100000 in
theorem dX8_worst_36 : decode cX8_worst 36 = .ok (.ireturn, 1) := by decide +kernel
set_option maxRecDepth 100000 in
theorem dX8_better_0 : decode cX8_better 0 = .ok (.aload_n 0, 1) := by decide +kernel
set_option maxRecDepth 100000 in
theorem dX8_better_1 : decode cX8_better 1 = .ok (.iload_n 1, 1) := by decide +kernel
set_option maxRecDepth 100000 in
theorem dX8_better_2 : decode cX8_better 2 = .ok (.invokevirtual 117, 3) := by decide +kernel
set_option maxRecDepth 100000 in
theorem dX8_better_5 : decode cX8_better 5 = .ok (.astore_n 3, 1) := by decide +kernel
set_option maxRecDepth 100000 in
theorem dX8_better_6 : decode cX8_better 6 = .ok (.aload_n 0, 1) := by decide +kernel
set_option maxRecDepth 100000 in
theorem dX8_better_7 : decode cX8_better 7 = .ok (.iload_n 2, 1) := by decide +kernel
set_option maxRecDepth 100000 in
theorem dX8_better_8 : decode cX8_better 8 = .ok (.invokevirtual 117, 3) := by decide +kernel
set_option maxRecDepth 100000 in
theorem dX8_better_11 : decode cX8_better 11 = .ok (.astore 4, 2) := by decide +kernel
set_option maxRecDepth 100000 in
theorem dX8_better_13 : decode cX8_better 13 = .ok (.aload_n 3, 1) := by decide +kernel
set_option maxRecDepth 100000 in
theorem dX8_better_14 : decode cX8_better 14 = .ok (.ifnull 8, 3) := by decide +kernel
set_option maxRecDepth 100000 in
theorem dX8_better_17 : decode cX8_better 17 = .ok (.aload 4, 2) := by decide +kernel
set_option maxRecDepth 100000 in
theorem dX8_better_19 : decode cX8_better 19 = .ok (.ifnonnull 6, 3) := by decide +kernel
set_option maxRecDepth 100000 in
theorem dX8_better_22 : decode cX8_better 22 = .ok (.bipush (-101), 2) := by decide +kernel
set_option maxRecDepth 100000 in
theorem dX8_better_24 : decode cX8_better 24 = .ok (.ireturn, 1) := by decide +kernel
set_option maxRecDepth 100000 in
theorem dX8_better_25 : decode cX8_better 25 = .ok (.aload_n 0, 1) := by decide +kernel
set_option maxRecDepth 100000 in
theorem dX8_better_26 : decode cX8_better 26 = .ok (.aload_n 3, 1) := by decide +kernel
set_option maxRecDepth 100000 in
theorem dX8_better_27 : decode cX8_better 27 = .ok (.invokevirtual 248, 3) := by decide +kernel
set_option maxRecDepth 100000 in
theorem dX8_better_30 : decode cX8_better 30 = .ok (.aload_n 0, 1) := by decide +kernel
set_option maxRecDepth 100000 in
theorem dX8_better_31 : decode cX8_better 31 = .ok (.getfield 83, 3) := by decide +kernel
set_option maxRecDepth 100000 in
theorem dX8_better_34 : decode cX8_better 34 = .ok (.iconst 0, 1) := by decide +kernel
set_option maxRecDepth 100000 in
theorem dX8_better_35 : decode cX8_better 35 = .ok (.iaload, 1) := by decide +kernel
set_option maxRecDepth 100000 in
theorem dX8_better_36 : decode cX8_better 36 = .ok (.istore 5, 2) := by decide +kernel
set_option maxRecDepth 100000 in
theorem dX8_better_38 : decode cX8_better 38 = .ok (.aload_n 0, 1) := by decide +kernel
set_option maxRecDepth 100000 in
theorem dX8_better_39 : decode cX8_better 39 = .ok (.aload 4, 2) := by decide +kernel
set_option maxRecDepth 100000 in
theorem dX8_better_41 : decode cX8_better 41 = .ok (.invokevirtual 248, 3) := by decide +kernel
set_option maxRecDepth 100000 in
theorem dX8_better_44 : decode cX8_better 44 = .ok (.aload_n 0, 1) := by decide +kernel
set_option maxRecDepth 100000 in
theorem dX8_better_45 : decode cX8_better 45 = .ok (.getfield 83, 3) := by decide +kernel
set_option maxRecDepth 100000 in
theorem dX8_better_48 : decode cX8_better 48 = .ok (.iconst 0, 1) := by decide +kernel
set_option maxRecDepth 100000 in
theorem dX8_better_49 : decode cX8_better 49 = .ok (.iaload, 1) := by decide +kernel
set_option maxRecDepth 100000 in
theorem dX8_better_50 : decode cX8_better 50 = .ok (.iload 5, 2) := by decide +kernel
set_option maxRecDepth 100000 in
theorem dX8_better_52 : decode cX8_better 52 = .ok (.if_icmp .ge 7, 3) := by decide +kernel
set_option maxRecDepth 100000 in
theorem dX8_better_55 : decode cX8_better 55 = .ok (.iload_n 2, 1) := by decide +kernel
set_option maxRecDepth 100000 in
theorem dX8_better_56 : decode cX8_better 56 = .ok (.goto 4, 3) := by decide +kernel
set_option maxRecDepth 100000 in
theorem dX8_better_59 : decode cX8_better 59 = .ok (.iload_n 1, 1) := by decide +kernel
set_option maxRecDepth 100000 in
theorem dX8_better_60 : decode cX8_better 60 = .ok (.ireturn, 1) := by decide +kernel
set_option maxRecDepth 100000 in
theorem dX8_mark_0 : decode cX8_mark 0 = .ok (.aload_n 0, 1) := by decide +kernel
set_option maxRecDepth 100000 in
theorem dX8_mark_1 : decode cX8_mark 1 = .ok (.iload_n 1, 1) := by decide +kernel
set_option maxRecDepth 100000 in
theorem dX8_mark_2 : decode cX8_mark 2 = .ok (.iload_n 2, 1) := by decide +kernel
set_option maxRecDepth 100000 in
theorem dX8_mark_3 : decode cX8_mark 3 = .ok (.iconst (-1), 1) := by decide +kernel
set_option maxRecDepth 100000 in
theorem dX8_mark_4 : decode cX8_mark 4 = .ok (.invokevirtual 200, 3) := by decide +kernel
set_option maxRecDepth 100000 in
theorem dX8_mark_7 : decode cX8_mark 7 = .ok (.ifCond .eq 17, 3) := by decide +kernel
set_option maxRecDepth 100000 in
theorem dX8_mark_10 : decode cX8_mark 10 = .ok (.aload_n 0, 1) := by decide +kernel
set_option maxRecDepth 100000 in
theorem dX8_mark_11 : decode cX8_mark 11 = .ok (.getfield 62, 3) := by decide +kernel
set_option maxRecDepth 100000 in
theorem dX8_mark_14 : decode cX8_mark 14 = .ok (.getfield 203, 3) := by decide +kernel
set_option maxRecDepth 100000 in
theorem dX8_mark_17 : decode cX8_mark 17 = .ok (.iload_n 3, 1) := by decide +kernel
set_option maxRecDepth 100000 in
theorem dX8_mark_18 : decode cX8_mark 18 = .ok (.invokevirtual 206, 3) := by decide +kernel
set_option maxRecDepth 100000 in
theorem dX8_mark_21 : decode cX8_mark 21 = .ok (.ifCond .ne 6, 3) := by decide +kernel
set_option maxRecDepth 100000 in
theorem dX8_mark_24 : decode cX8_mark 24 = .ok (.bipush (-101), 2) := by decide +kernel
set_option maxRecDepth 100000 in
theorem dX8_mark_26 : decode cX8_mark 26 = .ok (.ireturn, 1) := by decide +kernel
set_option maxRecDepth 100000 in
theorem dX8_mark_27 : decode cX8_mark 27 = .ok (.aload_n 0, 1) := by decide +kernel
set_option maxRecDepth 100000 in
theorem dX8_mark_28 : decode cX8_mark 28 = .ok (.getfield 62, 3) := by decide +kernel
set_option maxRecDepth 100000 in
theorem dX8_mark_31 : decode cX8_mark 31 = .ok (.getfield 203, 3) := by decide +kernel
set_option maxRecDepth 100000 in
theorem dX8_mark_34 : decode cX8_mark 34 = .ok (.iload_n 3, 1) := by decide +kernel
set_option maxRecDepth 100000 in
theorem dX8_mark_35 : decode cX8_mark 35 = .ok (.aload_n 0, 1) := by decide +kernel
set_option maxRecDepth 100000 in
theorem dX8_mark_36 : decode cX8_mark 36 = .ok (.iload_n 2, 1) := by decide +kernel
set_option maxRecDepth 100000 in
theorem dX8_mark_37 : decode cX8_mark 37 = .ok (.invokevirtual 216, 3) := by decide +kernel
set_option maxRecDepth 100000 in
theorem dX8_mark_40 : decode cX8_mark 40 = .ok (.invokevirtual 251, 3) := by decide +kernel
set_option maxRecDepth 100000 in
theorem dX8_mark_43 : decode cX8_mark 43 = .ok (.istore 4, 2) := by decide +kernel
set_option maxRecDepth 100000 in
theorem dX8_mark_45 : decode cX8_mark 45 = .ok (.aload_n 0, 1) := by decide +kernel
set_option maxRecDepth 100000 in
theorem dX8_mark_46 : decode cX8_mark 46 = .ok (.getfield 62, 3) := by decide +kernel
set_option maxRecDepth 100000 in
theorem dX8_mark_49 : decode cX8_mark 49 = .ok (.iload 4, 2) := by decide +kernel
set_option maxRecDepth 100000 in
theorem dX8_mark_51 : decode cX8_mark 51 = .ok (.invokevirtual 209, 3) := by decide +kernel
set_option maxRecDepth 100000 in
theorem dX8_mark_54 : decode cX8_mark 54 = .ok (.aload_n 0, 1) := by decide +kernel
set_option maxRecDepth 100000 in
theorem dX8_mark_55 : decode cX8_mark 55 = .ok (.getfield 62, 3) := by decide +kernel
set_option maxRecDepth 100000 in
theorem dX8_mark_58 : decode cX8_mark 58 = .ok (.invokevirtual 254, 3) := by decide +kernel
set_option maxRecDepth 100000 in
theorem dX8_mark_61 : decode cX8_mark 61 = .ok (.istore 5, 2) := by decide +kernel
set_option maxRecDepth 100000 in
theorem dX8_mark_63 : decode cX8_mark 63 = .ok (.aload_n 0, 1) := by decide +kernel
set_option maxRecDepth 100000 in
theorem dX8_mark_64 : decode cX8_mark 64 = .ok (.getfield 62, 3) := by decide +kernel
set_option maxRecDepth 100000 in
theorem dX8_mark_67 : decode cX8_mark 67 = .ok (.iload 4, 2) := by decide +kernel
set_option maxRecDepth 100000 in
theorem dX8_mark_69 : decode cX8_mark 69 = .ok (.iconst 1, 1) := by decide +kernel
set_option maxRecDepth 100000 in
theorem dX8_mark_70 : decode cX8_mark 70 = .ok (.iadd, 1) := by decide +kernel
set_option maxRecDepth 100000 in
theorem dX8_mark_71 : decode cX8_mark 71 = .ok (.invokevirtual 209, 3) := by decide +kernel
set_option maxRecDepth 100000 in
theorem dX8_mark_74 : decode cX8_mark 74 = .ok (.aload_n 0, 1) := by decide +kernel
set_option maxRecDepth 100000 in
theorem dX8_mark_75 : decode cX8_mark 75 = .ok (.getfield 62, 3) := by decide +kernel
set_option maxRecDepth 100000 in
theorem dX8_mark_78 : decode cX8_mark 78 = .ok (.invokevirtual 254, 3) := by decide +kernel
set_option maxRecDepth 100000 in
theorem dX8_mark_81 : decode cX8_mark 81 = .ok (.iload 5, 2) := by decide +kernel
set_option maxRecDepth 100000 in
theorem dX8_mark_83 : decode cX8_mark 83 = .ok (.if_icmp .le 7, 3) := by decide +kernel
set_option maxRecDepth 100000 in
theorem dX8_mark_86 : decode cX8_mark 86 = .ok (.iconst 1, 1) := by decide +kernel
set_option maxRecDepth 100000 in
theorem dX8_mark_87 : decode cX8_mark 87 = .ok (.goto 4, 3) := by decide +kernel
set_option maxRecDepth 100000 in
theorem dX8_mark_90 : decode cX8_mark 90 = .ok (.iconst 0, 1) := by decide +kernel
set_option maxRecDepth 100000 in
theorem dX8_mark_91 : decode cX8_mark 91 = .ok (.istore 6, 2) := by decide +kernel
set_option maxRecDepth 100000 in
theorem dX8_mark_93 : decode cX8_mark 93 = .ok (.iload 6, 2) := by decide +kernel
set_option maxRecDepth 100000 in
theorem dX8_mark_95 : decode cX8_mark 95 = .ok (.ifCond .eq 17, 3) := by decide +kernel
set_option maxRecDepth 100000 in
theorem dX8_mark_98 : decode cX8_mark 98 = .ok (.iload 5, 2) := by decide +kernel
set_option maxRecDepth 100000 in
theorem dX8_mark_100 : decode cX8_mark 100 = .ok (.bipush 99, 2) := by decide +kernel
set_option maxRecDepth 100000 in
theorem dX8_mark_102 : decode cX8_mark 102 = .ok (.if_icmp .ge 10, 3) := by decide +kernel
set_option maxRecDepth 100000 in
theorem dX8_mark_105 : decode cX8_mark 105 = .ok (.iload 5, 2) := by decide +kernel
set_option maxRecDepth 100000 in
theorem dX8_mark_107 : decode cX8_mark 107 = .ok (.iconst 1, 1) := by decide +kernel
set_option maxRecDepth 100000 in
theorem dX8_mark_108 : decode cX8_mark 108 = .ok (.iadd, 1) := by decide +kernel
set_option maxRecDepth 100000 in
theorem dX8_mark_109 : decode cX8_mark 109 = .ok (.goto 4, 3) := by decide +kernel
set_option maxRecDepth 100000 in
theorem dX8_mark_112 : decode cX8_mark 112 = .ok (.iconst (-1), 1) := by decide +kernel
set_option maxRecDepth 100000 in
theorem dX8_mark_113 : decode cX8_mark 113 = .ok (.ireturn, 1) := by decide +kernel
set_option maxRecDepth 100000 in
theorem dX8_mended_0 : decode cX8_mended 0 = .ok (.aload_n 0, 1) := by decide +kernel
set_option maxRecDepth 100000 in
theorem dX8_mended_1 : decode cX8_mended 1 = .ok (.iload_n 1, 1) := by decide +kernel
set_option maxRecDepth 100000 in
theorem dX8_mended_2 : decode cX8_mended 2 = .ok (.invokevirtual 117, 3) := by decide +kernel
set_option maxRecDepth 100000 in
theorem dX8_mended_5 : decode cX8_mended 5 = .ok (.astore 6, 2) := by decide +kernel
set_option maxRecDepth 100000 in
theorem dX8_mended_7 : decode cX8_mended 7 = .ok (.aload 6, 2) := by decide +kernel
set_option maxRecDepth 100000 in
theorem dX8_mended_9 : decode cX8_mended 9 = .ok (.ifnull 10, 3) := by decide +kernel
set_option maxRecDepth 100000 in
theorem dX8_mended_12 : decode cX8_mended 12 = .ok (.iload_n 2, 1) := by decide +kernel
set_option maxRecDepth 100000 in
theorem dX8_mended_13 : decode cX8_mended 13 = .ok (.invokestatic 136, 3) := by decide +kernel
set_option maxRecDepth 100000 in
theorem dX8_mended_16 : decode cX8_mended 16 = .ok (.ifCond .ne 6, 3) := by decide +kernel
set_option maxRecDepth 100000 in
theorem dX8_mended_19 : decode cX8_mended 19 = .ok (.bipush (-101), 2) := by decide +kernel
set_option maxRecDepth 100000 in
theorem dX8_mended_21 : decode cX8_mended 21 = .ok (.ireturn, 1) := by decide +kernel
set_option maxRecDepth 100000 in
theorem dX8_mended_22 : decode cX8_mended 22 = .ok (.iload_n 3, 1) := by decide +kernel
set_option maxRecDepth 100000 in
theorem dX8_mended_23 : decode cX8_mended 23 = .ok (.iconst 0, 1) := by decide +kernel
set_option maxRecDepth 100000 in
theorem dX8_mended_24 : decode cX8_mended 24 = .ok (.iconst 2, 1) := by decide +kernel
set_option maxRecDepth 100000 in
theorem dX8_mended_25 : decode cX8_mended 25 = .ok (.invokestatic 121, 3) := by decide +kernel
set_option maxRecDepth 100000 in
theorem dX8_mended_28 : decode cX8_mended 28 = .ok (.ifCond .eq 25, 3) := by decide +kernel
set_option maxRecDepth 100000 in
theorem dX8_mended_31 : decode cX8_mended 31 = .ok (.iload 4, 2) := by decide +kernel
set_option maxRecDepth 100000 in
theorem dX8_mended_33 : decode cX8_mended 33 = .ok (.iconst 1, 1) := by decide +kernel
set_option maxRecDepth 100000 in
theorem dX8_mended_34 : decode cX8_mended 34 = .ok (.bipush 30, 2) := by decide +kernel
set_option maxRecDepth 100000 in
theorem dX8_mended_36 : decode cX8_mended 36 = .ok (.invokestatic 121, 3) := by decide +kernel
set_option maxRecDepth 100000 in
theorem dX8_mended_39 : decode cX8_mended 39 = .ok (.ifCond .eq 14, 3) := by decide +kernel
set_option maxRecDepth 100000 in
theorem dX8_mended_42 : decode cX8_mended 42 = .ok (.iload 5, 2) := by decide +kernel
set_option maxRecDepth 100000 in
theorem dX8_mended_44 : decode cX8_mended 44 = .ok (.iconst 0, 1) := by decide +kernel
set_option maxRecDepth 100000 in
theorem dX8_mended_45 : decode cX8_mended 45 = .ok (.bipush 96, 2) := by decide +kernel
set_option maxRecDepth 100000 in
theorem dX8_mended_47 : decode cX8_mended 47 = .ok (.invokestatic 121, 3) := by decide +kernel
set_option maxRecDepth 100000 in
theorem dX8_mended_50 : decode cX8_mended 50 = .ok (.ifCond .ne 6, 3) := by decide +kernel
set_option maxRecDepth 100000 in
theorem dX8_mended_53 : decode cX8_mended 53 = .ok (.bipush (-102), 2) := by decide +kernel
set_option maxRecDepth 100000 in
theorem dX8_mended_55 : decode cX8_mended 55 = .ok (.ireturn, 1) := by decide +kernel
set_option maxRecDepth 100000 in
theorem dX8_mended_56 : decode cX8_mended 56 = .ok (.aload_n 0, 1) := by decide +kernel
set_option maxRecDepth 100000 in
theorem dX8_mended_57 : decode cX8_mended 57 = .ok (.getfield 45, 3) := by decide +kernel
set_option maxRecDepth 100000 in
theorem dX8_mended_60 : decode cX8_mended 60 = .ok (.aload 6, 2) := by decide +kernel
set_option maxRecDepth 100000 in
theorem dX8_mended_62 : decode cX8_mended 62 = .ok (.invokevirtual 113, 3) := by decide +kernel
set_option maxRecDepth 100000 in
theorem dX8_mended_65 : decode cX8_mended 65 = .ok (.iconst 0, 1) := by decide +kernel
set_option maxRecDepth 100000 in
theorem dX8_mended_66 : decode cX8_mended 66 = .ok (.istore 7, 2) := by decide +kernel
set_option maxRecDepth 100000 in
theorem dX8_mended_68 : decode cX8_mended 68 = .ok (.iload 7, 2) := by decide +kernel
set_option maxRecDepth 100000 in
theorem dX8_mended_70 : decode cX8_mended 70 = .ok (.bipush 60, 2) := by decide +kernel
set_option maxRecDepth 100000 in
theorem dX8_mended_72 : decode cX8_mended 72 = .ok (.if_icmp .gt 79, 3) := by decide +kernel
set_option maxRecDepth 100000 in
theorem dX8_mended_75 : decode cX8_mended 75 = .ok (.iload 7, 2) := by decide +kernel
set_option maxRecDepth 100000 in
theorem dX8_mended_77 : decode cX8_mended 77 = .ok (.iload 4, 2) := by decide +kernel
set_option maxRecDepth 100000 in
theorem dX8_mended_79 : decode cX8_mended 79 = .ok (.imul, 1) := by decide +kernel
set_option maxRecDepth 100000 in
theorem dX8_mended_80 : decode cX8_mended 80 = .ok (.bipush 60, 2) := by decide +kernel
set_option maxRecDepth 100000 in
theorem dX8_mended_82 : decode cX8_mended 82 = .ok (.if_icmp .gt 69, 3) := by decide +kernel
set_option maxRecDepth 100000 in
theorem dX8_mended_85 : decode cX8_mended 85 = .ok (.aload_n 0, 1) := by decide +kernel
set_option maxRecDepth 100000 in
theorem dX8_mended_86 : decode cX8_mended 86 = .ok (.getfield 62, 3) := by decide +kernel
set_option maxRecDepth 100000 in
theorem dX8_mended_89 : decode cX8_mended 89 = .ok (.aload_n 0, 1) := by decide +kernel
set_option maxRecDepth 100000 in
theorem dX8_mended_90 : decode cX8_mended 90 = .ok (.getfield 45, 3) := by decide +kernel
set_option maxRecDepth 100000 in
theorem dX8_mended_93 : decode cX8_mended 93 = .ok (.aload_n 0, 1) := by decide +kernel
set_option maxRecDepth 100000 in
theorem dX8_mended_94 : decode cX8_mended 94 = .ok (.iload_n 2, 1) := by decide +kernel
set_option maxRecDepth 100000 in
theorem dX8_mended_95 : decode cX8_mended 95 = .ok (.invokevirtual 258, 3) := by decide +kernel
set_option maxRecDepth 100000 in
theorem dX8_mended_98 : decode cX8_mended 98 = .ok (.aload_n 0, 1) := by decide +kernel
set_option maxRecDepth 100000 in
theorem dX8_mended_99 : decode cX8_mended 99 = .ok (.getfield 50, 3) := by decide +kernel
set_option maxRecDepth 100000 in
theorem dX8_mended_102 : decode cX8_mended 102 = .ok (.invokevirtual 261, 3) := by decide +kernel
set_option maxRecDepth 100000 in
theorem dX8_mended_105 : decode cX8_mended 105 = .ok (.aload_n 0, 1) := by decide +kernel
set_option maxRecDepth 100000 in
theorem dX8_mended_106 : decode cX8_mended 106 = .ok (.getfield 62, 3) := by decide +kernel
set_option maxRecDepth 100000 in
theorem dX8_mended_109 : decode cX8_mended 109 = .ok (.bipush 96, 2) := by decide +kernel
set_option maxRecDepth 100000 in
theorem dX8_mended_111 : decode cX8_mended 111 = .ok (.invokevirtual 209, 3) := by decide +kernel
set_option maxRecDepth 100000 in
theorem dX8_mended_114 : decode cX8_mended 114 = .ok (.aload_n 0, 1) := by decide +kernel
set_option maxRecDepth 100000 in
theorem dX8_mended_115 : decode cX8_mended 115 = .ok (.getfield 62, 3) := by decide +kernel
set_option maxRecDepth 100000 in
theorem dX8_mended_118 : decode cX8_mended 118 = .ok (.iload 5, 2) := by decide +kernel
set_option maxRecDepth 100000 in
theorem dX8_mended_120 : decode cX8_mended 120 = .ok (.aload_n 0, 1) := by decide +kernel
set_option maxRecDepth 100000 in
theorem dX8_mended_121 : decode cX8_mended 121 = .ok (.iload_n 2, 1) := by decide +kernel
set_option maxRecDepth 100000 in
theorem dX8_mended_122 : decode cX8_mended 122 = .ok (.invokevirtual 216, 3) := by decide +kernel
set_option maxRecDepth 100000 in
theorem dX8_mended_125 : decode cX8_mended 125 = .ok (.invokevirtual 265, 3) := by decide +kernel
set_option maxRecDepth 100000 in
theorem dX8_mended_128 : decode cX8_mended 128 = .ok (.ifCond .eq 9, 3) := by decide +kernel
set_option maxRecDepth 100000 in
theorem dX8_mended_131 : decode cX8_mended 131 = .ok (.iload 7, 2) := by decide +kernel
set_option maxRecDepth 100000 in
theorem dX8_mended_133 : decode cX8_mended 133 = .ok (.iload 4, 2) := by decide +kernel
set_option maxRecDepth 100000 in
theorem dX8_mended_135 : decode cX8_mended 135 = .ok (.imul, 1) := by decide +kernel
set_option maxRecDepth 100000 in
theorem dX8_mended_136 : decode cX8_mended 136 = .ok (.ireturn, 1) := by decide +kernel
set_option maxRecDepth 100000 in
theorem dX8_mended_137 : decode cX8_mended 137 = .ok (.aload_n 0, 1) := by decide +kernel
set_option maxRecDepth 100000 in
theorem dX8_mended_138 : decode cX8_mended 138 = .ok (.getfield 45, 3) := by decide +kernel
set_option maxRecDepth 100000 in
theorem dX8_mended_141 : decode cX8_mended 141 = .ok (.iload_n 3, 1) := by decide +kernel
set_option maxRecDepth 100000 in
theorem dX8_mended_142 : decode cX8_mended 142 = .ok (.invokevirtual 268, 3) := by decide +kernel
set_option maxRecDepth 100000 in
theorem dX8_mended_145 : decode cX8_mended 145 = .ok (.iinc 7 1, 3) := by decide +kernel
set_option maxRecDepth 100000 in
theorem dX8_mended_148 : decode cX8_mended 148 = .ok (.goto (-80), 3) := by decide +kernel
set_option maxRecDepth 100000 in
theorem dX8_mended_151 : decode cX8_mended 151 = .ok (.iconst (-1), 1) := by decide +kernel
set_option maxRecDepth 100000 in
theorem dX8_mended_152 : decode cX8_mended 152 = .ok (.ireturn, 1) := by decide +kernel
set_option maxRecDepth 100000 in
theorem dX8_log_0 : decode cX8_log 0 = .ok (.iload_n 1, 1) := by decide +kernel
set_option maxRecDepth 100000 in
theorem dX8_log_1 : decode cX8_log 1 = .ok (.iconst 0, 1) := by decide +kernel
set_option maxRecDepth 100000 in
theorem dX8_log_2 : decode cX8_log 2 = .ok (.bipush 11, 2) := by decide +kernel
set_option maxRecDepth 100000 in
theorem dX8_log_4 : decode cX8_log 4 = .ok (.invokestatic 121, 3) := by decide +kernel
set_option maxRecDepth 100000 in
theorem dX8_log_7 : decode cX8_log 7 = .ok (.ifCond .ne 6, 3) := by decide +kernel
set_option maxRecDepth 100000 in
theorem dX8_log_10 : decode cX8_log 10 = .ok (.bipush (-101), 2) := by decide +kernel
set_option maxRecDepth 100000 in
theorem dX8_log_12 : decode cX8_log 12 = .ok (.ireturn, 1) := by decide +kernel
set_option maxRecDepth 100000 in
theorem dX8_log_13 : decode cX8_log 13 = .ok (.iload_n 2, 1) := by decide +kernel
set_option maxRecDepth 100000 in
theorem dX8_log_14 : decode cX8_log 14 = .ok (.iconst (-1), 1) := by decide +kernel
set_option maxRecDepth 100000 in
theorem dX8_log_15 : decode cX8_log 15 = .ok (.bipush 96, 2) := by decide +kernel
set_option maxRecDepth 100000 in
theorem dX8_log_17 : decode cX8_log 17 = .ok (.invokestatic 121, 3) := by decide +kernel
set_option maxRecDepth 100000 in
theorem dX8_log_20 : decode cX8_log 20 = .ok (.ifCond .ne 6, 3) := by decide +kernel
set_option maxRecDepth 100000 in
theorem dX8_log_23 : decode cX8_log 23 = .ok (.bipush (-102), 2) := by decide +kernel
set_option maxRecDepth 100000 in
theorem dX8_log_25 : decode cX8_log 25 = .ok (.ireturn, 1) := by decide +kernel
set_option maxRecDepth 100000 in
theorem dX8_log_26 : decode cX8_log 26 = .ok (.aload_n 0, 1) := by decide +kernel
set_option maxRecDepth 100000 in
theorem dX8_log_27 : decode cX8_log 27 = .ok (.getfield 37, 3) := by decide +kernel
set_option maxRecDepth 100000 in
theorem dX8_log_30 : decode cX8_log 30 = .ok (.getfield 271, 3) := by decide +kernel
set_option maxRecDepth 100000 in
theorem dX8_log_33 : decode cX8_log 33 = .ok (.iload_n 1, 1) := by decide +kernel
set_option maxRecDepth 100000 in
theorem dX8_log_34 : decode cX8_log 34 = .ok (.iload_n 2, 1) := by decide +kernel
set_option maxRecDepth 100000 in
theorem dX8_log_35 : decode cX8_log 35 = .ok (.invokestatic 143, 3) := by decide +kernel
set_option maxRecDepth 100000 in
theorem dX8_log_38 : decode cX8_log 38 = .ok (.ireturn, 1) := by decide +kernel
set_option maxRecDepth 100000 in
theorem dX8_agrees_0 : decode cX8_agrees 0 = .ok (.aload_n 0, 1) := by decide +kernel
set_option maxRecDepth 100000 in
theorem dX8_agrees_1 : decode cX8_agrees 1 = .ok (.iload_n 1, 1) := by decide +kernel
set_option maxRecDepth 100000 in
theorem dX8_agrees_2 : decode cX8_agrees 2 = .ok (.iload_n 2, 1) := by decide +kernel
set_option maxRecDepth 100000 in
theorem dX8_agrees_3 : decode cX8_agrees 3 = .ok (.iload_n 3, 1) := by decide +kernel
set_option maxRecDepth 100000 in
theorem dX8_agrees_4 : decode cX8_agrees 4 = .ok (.invokevirtual 200, 3) := by decide +kernel
set_option maxRecDepth 100000 in
theorem dX8_agrees_7 : decode cX8_agrees 7 = .ok (.ifCond .ne 6, 3) := by decide +kernel
set_option maxRecDepth 100000 in
theorem dX8_agrees_10 : decode cX8_agrees 10 = .ok (.bipush (-101), 2) := by decide +kernel
set_option maxRecDepth 100000 in
theorem dX8_agrees_12 : decode cX8_agrees 12 = .ok (.ireturn, 1) := by decide +kernel
set_option maxRecDepth 100000 in
theorem dX8_agrees_13 : decode cX8_agrees 13 = .ok (.aload_n 0, 1) := by decide +kernel
set_option maxRecDepth 100000 in
theorem dX8_agrees_14 : decode cX8_agrees 14 = .ok (.getfield 79, 3) := by decide +kernel
set_option maxRecDepth 100000 in
theorem dX8_agrees_17 : decode cX8_agrees 17 = .ok (.aload_n 0, 1) := by decide +kernel
set_option maxRecDepth 100000 in
theorem dX8_agrees_18 : decode cX8_agrees 18 = .ok (.getfield 37, 3) := by decide +kernel
set_option maxRecDepth 100000 in
theorem dX8_agrees_21 : decode cX8_agrees 21 = .ok (.getfield 271, 3) := by decide +kernel
set_option maxRecDepth 100000 in
theorem dX8_agrees_24 : decode cX8_agrees 24 = .ok (.aload_n 0, 1) := by decide +kernel
set_option maxRecDepth 100000 in
theorem dX8_agrees_25 : decode cX8_agrees 25 = .ok (.getfield 62, 3) := by decide +kernel
set_option maxRecDepth 100000 in
theorem dX8_agrees_28 : decode cX8_agrees 28 = .ok (.getfield 203, 3) := by decide +kernel
set_option maxRecDepth 100000 in
theorem dX8_agrees_31 : decode cX8_agrees 31 = .ok (.getfield 229, 3) := by decide +kernel
set_option maxRecDepth 100000 in
theorem dX8_agrees_34 : decode cX8_agrees 34 = .ok (.invokevirtual 274, 3) := by decide +kernel
set_option maxRecDepth 100000 in
theorem dX8_agrees_37 : decode cX8_agrees 37 = .ok (.aload_n 0, 1) := by decide +kernel
set_option maxRecDepth 100000 in
theorem dX8_agrees_38 : decode cX8_agrees 38 = .ok (.aload_n 0, 1) := by decide +kernel
set_option maxRecDepth 100000 in
theorem dX8_agrees_39 : decode cX8_agrees 39 = .ok (.getfield 62, 3) := by decide +kernel
set_option maxRecDepth 100000 in
theorem dX8_agrees_42 : decode cX8_agrees 42 = .ok (.invokevirtual 278, 3) := by decide +kernel
set_option maxRecDepth 100000 in
theorem dX8_agrees_45 : decode cX8_agrees 45 = .ok (.ifCond .eq 7, 3) := by decide +kernel
set_option maxRecDepth 100000 in
theorem dX8_agrees_48 : decode cX8_agrees 48 = .ok (.iconst 1, 1) := by decide +kernel
set_option maxRecDepth 100000 in
theorem dX8_agrees_49 : decode cX8_agrees 49 = .ok (.goto 4, 3) := by decide +kernel
set_option maxRecDepth 100000 in
theorem dX8_agrees_52 : decode cX8_agrees 52 = .ok (.iconst 0, 1) := by decide +kernel
set_option maxRecDepth 100000 in
theorem dX8_agrees_53 : decode cX8_agrees 53 = .ok (.ireturn, 1) := by decide +kernel
set_option maxRecDepth 100000 in
theorem dX8_which_0 : decode cX8_which 0 = .ok (.aload_n 0, 1) := by decide +kernel
set_option maxRecDepth 100000 in
theorem dX8_which_1 : decode cX8_which 1 = .ok (.iload_n 1, 1) := by decide +kernel
set_option maxRecDepth 100000 in
theorem dX8_which_2 : decode cX8_which 2 = .ok (.iload_n 2, 1) := by decide +kernel
set_option maxRecDepth 100000 in
theorem dX8_which_3 : decode cX8_which 3 = .ok (.iconst (-1), 1) := by decide +kernel
set_option maxRecDepth 100000 in
theorem dX8_which_4 : decode cX8_which 4 = .ok (.invokevirtual 200, 3) := by decide +kernel
set_option maxRecDepth 100000 in
theorem dX8_which_7 : decode cX8_which 7 = .ok (.ifCond .ne 6, 3) := by decide +kernel
set_option maxRecDepth 100000 in
theorem dX8_which_10 : decode cX8_which 10 = .ok (.bipush (-101), 2) := by decide +kernel
set_option maxRecDepth 100000 in
theorem dX8_which_12 : decode cX8_which 12 = .ok (.ireturn, 1) := by decide +kernel
set_option maxRecDepth 100000 in
theorem dX8_which_13 : decode cX8_which 13 = .ok (.aload_n 0, 1) := by decide +kernel
set_option maxRecDepth 100000 in
theorem dX8_which_14 : decode cX8_which 14 = .ok (.getfield 79, 3) := by decide +kernel
set_option maxRecDepth 100000 in
theorem dX8_which_17 : decode cX8_which 17 = .ok (.aload_n 0, 1) := by decide +kernel
set_option maxRecDepth 100000 in
theorem dX8_which_18 : decode cX8_which 18 = .ok (.getfield 37, 3) := by decide +kernel
set_option maxRecDepth 100000 in
theorem dX8_which_21 : decode cX8_which 21 = .ok (.getfield 271, 3) := by decide +kernel
set_option maxRecDepth 100000 in
theorem dX8_which_24 : decode cX8_which 24 = .ok (.aload_n 0, 1) := by decide +kernel
set_option maxRecDepth 100000 in
theorem dX8_which_25 : decode cX8_which 25 = .ok (.getfield 62, 3) := by decide +kernel
set_option maxRecDepth 100000 in
theorem dX8_which_28 : decode cX8_which 28 = .ok (.getfield 203, 3) := by decide +kernel
set_option maxRecDepth 100000 in
theorem dX8_which_31 : decode cX8_which 31 = .ok (.getfield 229, 3) := by decide +kernel
set_option maxRecDepth 100000 in
theorem dX8_which_34 : decode cX8_which 34 = .ok (.invokevirtual 274, 3) := by decide +kernel
set_option maxRecDepth 100000 in
theorem dX8_which_37 : decode cX8_which 37 = .ok (.aload_n 0, 1) := by decide +kernel
set_option maxRecDepth 100000 in
theorem dX8_which_38 : decode cX8_which 38 = .ok (.aload_n 0, 1) := by decide +kernel
set_option maxRecDepth 100000 in
theorem dX8_which_39 : decode cX8_which 39 = .ok (.getfield 62, 3) := by decide +kernel
set_option maxRecDepth 100000 in
theorem dX8_which_42 : decode cX8_which 42 = .ok (.invokevirtual 278, 3) := by decide +kernel
set_option maxRecDepth 100000 in
theorem dX8_which_45 : decode cX8_which 45 = .ok (.ifCond .eq 9, 3) := by decide +kernel
set_option maxRecDepth 100000 in
theorem dX8_which_48 : decode cX8_which 48 = .ok (.sipush 256, 3) := by decide +kernel
set_option maxRecDepth 100000 in
theorem dX8_which_51 : decode cX8_which 51 = .ok (.goto 4, 3) := by decide +kernel
set_option maxRecDepth 100000 in
theorem dX8_which_54 : decode cX8_which 54 = .ok (.iconst 0, 1) := by decide +kernel
set_option maxRecDepth 100000 in
theorem dX8_which_55 : decode cX8_which 55 = .ok (.istore_n 3, 1) := by decide +kernel
set_option maxRecDepth 100000 in
theorem dX8_which_56 : decode cX8_which 56 = .ok (.iconst 0, 1) := by decide +kernel
set_option maxRecDepth 100000 in
theorem dX8_which_57 : decode cX8_which 57 = .ok (.istore 4, 2) := by decide +kernel
set_option maxRecDepth 100000 in
theorem dX8_which_59 : decode cX8_which 59 = .ok (.iload 4, 2) := by decide +kernel
set_option maxRecDepth 100000 in
theorem dX8_which_61 : decode cX8_which 61 = .ok (.aload_n 0, 1) := by decide +kernel
set_option maxRecDepth 100000 in
theorem dX8_which_62 : decode cX8_which 62 = .ok (.getfield 156, 3) := by decide +kernel
set_option maxRecDepth 100000 in
theorem dX8_which_65 : decode cX8_which 65 = .ok (.if_icmp .ge 38, 3) := by decide +kernel
set_option maxRecDepth 100000 in
theorem dX8_which_68 : decode cX8_which 68 = .ok (.aload_n 0, 1) := by decide +kernel
set_option maxRecDepth 100000 in
theorem dX8_which_69 : decode cX8_which 69 = .ok (.iload_n 1, 1) := by decide +kernel
set_option maxRecDepth 100000 in
theorem dX8_which_70 : decode cX8_which 70 = .ok (.iload_n 2, 1) := by decide +kernel
set_option maxRecDepth 100000 in
theorem dX8_which_71 : decode cX8_which 71 = .ok (.iload 4, 2) := by decide +kernel
set_option maxRecDepth 100000 in
theorem dX8_which_73 : decode cX8_which 73 = .ok (.invokevirtual 200, 3) := by decide +kernel
set_option maxRecDepth 100000 in
theorem dX8_which_76 : decode cX8_which 76 = .ok (.ifCond .eq 21, 3) := by decide +kernel
set_option maxRecDepth 100000 in
theorem dX8_which_79 : decode cX8_which 79 = .ok (.aload_n 0, 1) := by decide +kernel
set_option maxRecDepth 100000 in
theorem dX8_which_80 : decode cX8_which 80 = .ok (.aload_n 0, 1) := by decide +kernel
set_option maxRecDepth 100000 in
theorem dX8_which_81 : decode cX8_which 81 = .ok (.getfield 62, 3) := by decide +kernel
set_option maxRecDepth 100000 in
theorem dX8_which_84 : decode cX8_which 84 = .ok (.invokevirtual 278, 3) := by decide +kernel
set_option maxRecDepth 100000 in
theorem dX8_which_87 : decode cX8_which 87 = .ok (.ifCond .eq 10, 3) := by decide +kernel
set_option maxRecDepth 100000 in
theorem dX8_which_90 : decode cX8_which 90 = .ok (.iload_n 3, 1) := by decide +kernel
set_option maxRecDepth 100000 in
theorem dX8_which_91 : decode cX8_which 91 = .ok (.iconst 1, 1) := by decide +kernel
set_option maxRecDepth 100000 in
theorem dX8_which_92 : decode cX8_which 92 = .ok (.iload 4, 2) := by decide +kernel
set_option maxRecDepth 100000 in
theorem dX8_which_94 : decode cX8_which 94 = .ok (.ishl, 1) := by decide +kernel
set_option maxRecDepth 100000 in
theorem dX8_which_95 : decode cX8_which 95 = .ok (.ior, 1) := by decide +kernel
set_option maxRecDepth 100000 in
theorem dX8_which_96 : decode cX8_which 96 = .ok (.istore_n 3, 1) := by decide +kernel
set_option maxRecDepth 100000 in
theorem dX8_which_97 : decode cX8_which 97 = .ok (.iinc 4 1, 3) := by decide +kernel
set_option maxRecDepth 100000 in
theorem dX8_which_100 : decode cX8_which 100 = .ok (.goto (-41), 3) := by decide +kernel
set_option maxRecDepth 100000 in
theorem dX8_which_103 : decode cX8_which 103 = .ok (.iload_n 3, 1) := by decide +kernel
set_option maxRecDepth 100000 in
theorem dX8_which_104 : decode cX8_which 104 = .ok (.ireturn, 1) := by decide +kernel
set_option maxRecDepth 100000 in
theorem dX8_sought_0 : decode cX8_sought 0 = .ok (.aload_n 0, 1) := by decide +kernel
set_option maxRecDepth 100000 in
theorem dX8_sought_1 : decode cX8_sought 1 = .ok (.iload_n 1, 1) := by decide +kernel
set_option maxRecDepth 100000 in
theorem dX8_sought_2 : decode cX8_sought 2 = .ok (.iload_n 2, 1) := by decide +kernel
set_option maxRecDepth 100000 in
theorem dX8_sought_3 : decode cX8_sought 3 = .ok (.iconst (-1), 1) := by decide +kernel
set_option maxRecDepth 100000 in
theorem dX8_sought_4 : decode cX8_sought 4 = .ok (.invokevirtual 200, 3) := by decide +kernel
set_option maxRecDepth 100000 in
theorem dX8_sought_7 : decode cX8_sought 7 = .ok (.ifCond .ne 6, 3) := by decide +kernel
set_option maxRecDepth 100000 in
theorem dX8_sought_10 : decode cX8_sought 10 = .ok (.bipush (-101), 2) := by decide +kernel
set_option maxRecDepth 100000 in
theorem dX8_sought_12 : decode cX8_sought 12 = .ok (.ireturn, 1) := by decide +kernel
set_option maxRecDepth 100000 in
theorem dX8_sought_13 : decode cX8_sought 13 = .ok (.iload_n 3, 1) := by decide +kernel
set_option maxRecDepth 100000 in
theorem dX8_sought_14 : decode cX8_sought 14 = .ok (.iconst 1, 1) := by decide +kernel
set_option maxRecDepth 100000 in
theorem dX8_sought_15 : decode cX8_sought 15 = .ok (.iconst 4, 1) := by decide +kernel
set_option maxRecDepth 100000 in
theorem dX8_sought_16 : decode cX8_sought 16 = .ok (.invokestatic 121, 3) := by decide +kernel
set_option maxRecDepth 100000 in
theorem dX8_sought_19 : decode cX8_sought 19 = .ok (.ifCond .eq 23, 3) := by decide +kernel
set_option maxRecDepth 100000 in
theorem dX8_sought_22 : decode cX8_sought 22 = .ok (.iload 4, 2) := by decide +kernel
set_option maxRecDepth 100000 in
theorem dX8_sought_24 : decode cX8_sought 24 = .ok (.iconst 0, 1) := by decide +kernel
set_option maxRecDepth 100000 in
theorem dX8_sought_25 : decode cX8_sought 25 = .ok (.iconst 2, 1) := by decide +kernel
set_option maxRecDepth 100000 in
theorem dX8_sought_26 : decode cX8_sought 26 = .ok (.invokestatic 121, 3) := by decide +kernel
set_option maxRecDepth 100000 in
theorem dX8_sought_29 : decode cX8_sought 29 = .ok (.ifCond .eq 13, 3) := by decide +kernel
set_option maxRecDepth 100000 in
theorem dX8_sought_32 : decode cX8_sought 32 = .ok (.iload 5, 2) := by decide +kernel
set_option maxRecDepth 100000 in
theorem dX8_sought_34 : decode cX8_sought 34 = .ok (.iconst 0, 1) := by decide +kernel
set_option maxRecDepth 100000 in
theorem dX8_sought_35 : decode cX8_sought 35 = .ok (.iconst 3, 1) := by decide +kernel
set_option maxRecDepth 100000 in
theorem dX8_sought_36 : decode cX8_sought 36 = .ok (.invokestatic 121, 3) := by decide +kernel
set_option maxRecDepth 100000 in
theorem dX8_sought_39 : decode cX8_sought 39 = .ok (.ifCond .ne 6, 3) := by decide +kernel
set_option maxRecDepth 100000 in
theorem dX8_sought_42 : decode cX8_sought 42 = .ok (.bipush (-102), 2) := by decide +kernel
set_option maxRecDepth 100000 in
theorem dX8_sought_44 : decode cX8_sought 44 = .ok (.ireturn, 1) := by decide +kernel
set_option maxRecDepth 100000 in
theorem dX8_sought_45 : decode cX8_sought 45 = .ok (.aload_n 0, 1) := by decide +kernel
set_option maxRecDepth 100000 in
theorem dX8_sought_46 : decode cX8_sought 46 = .ok (.getfield 282, 3) := by decide +kernel
set_option maxRecDepth 100000 in
theorem dX8_sought_49 : decode cX8_sought 49 = .ok (.bipush 20, 2) := by decide +kernel
set_option maxRecDepth 100000 in
theorem dX8_sought_51 : decode cX8_sought 51 = .ok (.if_icmp .lt 6, 3) := by decide +kernel
set_option maxRecDepth 100000 in
theorem dX8_sought_54 : decode cX8_sought 54 = .ok (.bipush (-103), 2) := by decide +kernel
set_option maxRecDepth 100000 in
theorem dX8_sought_56 : decode cX8_sought 56 = .ok (.ireturn, 1) := by decide +kernel
set_option maxRecDepth 100000 in
theorem dX8_sought_57 : decode cX8_sought 57 = .ok (.aload_n 0, 1) := by decide +kernel
set_option maxRecDepth 100000 in
theorem dX8_sought_58 : decode cX8_sought 58 = .ok (.dup, 1) := by decide +kernel
set_option maxRecDepth 100000 in
theorem dX8_sought_59 : decode cX8_sought 59 = .ok (.getfield 282, 3) := by decide +kernel
set_option maxRecDepth 100000 in
theorem dX8_sought_62 : decode cX8_sought 62 = .ok (.iconst 1, 1) := by decide +kernel
set_option maxRecDepth 100000 in
theorem dX8_sought_63 : decode cX8_sought 63 = .ok (.iadd, 1) := by decide +kernel
set_option maxRecDepth 100000 in
theorem dX8_sought_64 : decode cX8_sought 64 = .ok (.putfield 282, 3) := by decide +kernel
set_option maxRecDepth 100000 in
theorem dX8_sought_67 : decode cX8_sought 67 = .ok (.aload_n 0, 1) := by decide +kernel
set_option maxRecDepth 100000 in
theorem dX8_sought_68 : decode cX8_sought 68 = .ok (.getfield 79, 3) := by decide +kernel
set_option maxRecDepth 100000 in
theorem dX8_sought_71 : decode cX8_sought 71 = .ok (.aload_n 0, 1) := by decide +kernel
set_option maxRecDepth 100000 in
theorem dX8_sought_72 : decode cX8_sought 72 = .ok (.getfield 37, 3) := by decide +kernel
set_option maxRecDepth 100000 in
theorem dX8_sought_75 : decode cX8_sought 75 = .ok (.getfield 271, 3) := by decide +kernel
set_option maxRecDepth 100000 in
theorem dX8_sought_78 : decode cX8_sought 78 = .ok (.aload_n 0, 1) := by decide +kernel
set_option maxRecDepth 100000 in
theorem dX8_sought_79 : decode cX8_sought 79 = .ok (.getfield 62, 3) := by decide +kernel
set_option maxRecDepth 100000 in
theorem dX8_sought_82 : decode cX8_sought 82 = .ok (.getfield 203, 3) := by decide +kernel
set_option maxRecDepth 100000 in
theorem dX8_sought_85 : decode cX8_sought 85 = .ok (.getfield 229, 3) := by decide +kernel
set_option maxRecDepth 100000 in
theorem dX8_sought_88 : decode cX8_sought 88 = .ok (.invokevirtual 274, 3) := by decide +kernel
set_option maxRecDepth 100000 in
theorem dX8_sought_91 : decode cX8_sought 91 = .ok (.aload_n 0, 1) := by decide +kernel
set_option maxRecDepth 100000 in
theorem dX8_sought_92 : decode cX8_sought 92 = .ok (.iload_n 3, 1) := by decide +kernel
set_option maxRecDepth 100000 in
theorem dX8_sought_93 : decode cX8_sought 93 = .ok (.iload 4, 2) := by decide +kernel
set_option maxRecDepth 100000 in
theorem dX8_sought_95 : decode cX8_sought 95 = .ok (.iload 5, 2) := by decide +kernel
set_option maxRecDepth 100000 in
theorem dX8_sought_97 : decode cX8_sought 97 = .ok (.invokevirtual 285, 3) := by decide +kernel
set_option maxRecDepth 100000 in
theorem dX8_sought_100 : decode cX8_sought 100 = .ok (.ireturn, 1) := by decide +kernel
set_option maxRecDepth 100000 in
theorem dX8_lost_0 : decode cX8_lost 0 = .ok (.aload_n 0, 1) := by decide +kernel
set_option maxRecDepth 100000 in
theorem dX8_lost_1 : decode cX8_lost 1 = .ok (.iload_n 1, 1) := by decide +kernel
set_option maxRecDepth 100000 in
theorem dX8_lost_2 : decode cX8_lost 2 = .ok (.invokevirtual 117, 3) := by decide +kernel
set_option maxRecDepth 100000 in
theorem dX8_lost_5 : decode cX8_lost 5 = .ok (.astore 5, 2) := by decide +kernel
set_option maxRecDepth 100000 in
theorem dX8_lost_7 : decode cX8_lost 7 = .ok (.aload 5, 2) := by decide +kernel
set_option maxRecDepth 100000 in
theorem dX8_lost_9 : decode cX8_lost 9 = .ok (.ifnull 10, 3) := by decide +kernel
set_option maxRecDepth 100000 in
theorem dX8_lost_12 : decode cX8_lost 12 = .ok (.iload_n 2, 1) := by decide +kernel
set_option maxRecDepth 100000 in
theorem dX8_lost_13 : decode cX8_lost 13 = .ok (.invokestatic 136, 3) := by decide +kernel
set_option maxRecDepth 100000 in
theorem dX8_lost_16 : decode cX8_lost 16 = .ok (.ifCond .ne 6, 3) := by decide +kernel
set_option maxRecDepth 100000 in
theorem dX8_lost_19 : decode cX8_lost 19 = .ok (.bipush (-101), 2) := by decide +kernel
set_option maxRecDepth 100000 in
theorem dX8_lost_21 : decode cX8_lost 21 = .ok (.ireturn, 1) := by decide +kernel
set_option maxRecDepth 100000 in
theorem dX8_lost_22 : decode cX8_lost 22 = .ok (.aload 5, 2) := by decide +kernel
set_option maxRecDepth 100000 in
theorem dX8_lost_24 : decode cX8_lost 24 = .ok (.iload_n 3, 1) := by decide +kernel
set_option maxRecDepth 100000 in
theorem dX8_lost_25 : decode cX8_lost 25 = .ok (.invokevirtual 289, 3) := by decide +kernel
set_option maxRecDepth 100000 in
theorem dX8_lost_28 : decode cX8_lost 28 = .ok (.ifCond .eq 13, 3) := by decide +kernel
set_option maxRecDepth 100000 in
theorem dX8_lost_31 : decode cX8_lost 31 = .ok (.iload 4, 2) := by decide +kernel
set_option maxRecDepth 100000 in
theorem dX8_lost_33 : decode cX8_lost 33 = .ok (.iconst 0, 1) := by decide +kernel
set_option maxRecDepth 100000 in
theorem dX8_lost_34 : decode cX8_lost 34 = .ok (.iconst 2, 1) := by decide +kernel
set_option maxRecDepth 100000 in
theorem dX8_lost_35 : decode cX8_lost 35 = .ok (.invokestatic 121, 3) := by decide +kernel
set_option maxRecDepth 100000 in
theorem dX8_lost_38 : decode cX8_lost 38 = .ok (.ifCond .ne 6, 3) := by decide +kernel
set_option maxRecDepth 100000 in
theorem dX8_lost_41 : decode cX8_lost 41 = .ok (.bipush (-102), 2) := by decide +kernel
set_option maxRecDepth 100000 in
theorem dX8_lost_43 : decode cX8_lost 43 = .ok (.ireturn, 1) := by decide +kernel
set_option maxRecDepth 100000 in
theorem dX8_lost_44 : decode cX8_lost 44 = .ok (.aload_n 0, 1) := by decide +kernel
set_option maxRecDepth 100000 in
theorem dX8_lost_45 : decode cX8_lost 45 = .ok (.getfield 282, 3) := by decide +kernel
set_option maxRecDepth 100000 in
theorem dX8_lost_48 : decode cX8_lost 48 = .ok (.bipush 20, 2) := by decide +kernel
set_option maxRecDepth 100000 in
theorem dX8_lost_50 : decode cX8_lost 50 = .ok (.if_icmp .lt 6, 3) := by decide +kernel
set_option maxRecDepth 100000 in
theorem dX8_lost_53 : decode cX8_lost 53 = .ok (.bipush (-103), 2) := by decide +kernel
set_option maxRecDepth 100000 in
theorem dX8_lost_55 : decode cX8_lost 55 = .ok (.ireturn, 1) := by decide +kernel
set_option maxRecDepth 100000 in
theorem dX8_lost_56 : decode cX8_lost 56 = .ok (.aload_n 0, 1) := by decide +kernel
set_option maxRecDepth 100000 in
theorem dX8_lost_57 : decode cX8_lost 57 = .ok (.dup, 1) := by decide +kernel
set_option maxRecDepth 100000 in
theorem dX8_lost_58 : decode cX8_lost 58 = .ok (.getfield 282, 3) := by decide +kernel
set_option maxRecDepth 100000 in
theorem dX8_lost_61 : decode cX8_lost 61 = .ok (.iconst 1, 1) := by decide +kernel
set_option maxRecDepth 100000 in
theorem dX8_lost_62 : decode cX8_lost 62 = .ok (.iadd, 1) := by decide +kernel
set_option maxRecDepth 100000 in
theorem dX8_lost_63 : decode cX8_lost 63 = .ok (.putfield 282, 3) := by decide +kernel
set_option maxRecDepth 100000 in
theorem dX8_lost_66 : decode cX8_lost 66 = .ok (.aload_n 0, 1) := by decide +kernel
set_option maxRecDepth 100000 in
theorem dX8_lost_67 : decode cX8_lost 67 = .ok (.getfield 79, 3) := by decide +kernel
set_option maxRecDepth 100000 in
theorem dX8_lost_70 : decode cX8_lost 70 = .ok (.aload_n 0, 1) := by decide +kernel
set_option maxRecDepth 100000 in
theorem dX8_lost_71 : decode cX8_lost 71 = .ok (.getfield 37, 3) := by decide +kernel
set_option maxRecDepth 100000 in
theorem dX8_lost_74 : decode cX8_lost 74 = .ok (.getfield 271, 3) := by decide +kernel
set_option maxRecDepth 100000 in
theorem dX8_lost_77 : decode cX8_lost 77 = .ok (.aload 5, 2) := by decide +kernel
set_option maxRecDepth 100000 in
theorem dX8_lost_79 : decode cX8_lost 79 = .ok (.getfield 229, 3) := by decide +kernel
set_option maxRecDepth 100000 in
theorem dX8_lost_82 : decode cX8_lost 82 = .ok (.invokevirtual 274, 3) := by decide +kernel
set_option maxRecDepth 100000 in
theorem dX8_lost_85 : decode cX8_lost 85 = .ok (.aload_n 0, 1) := by decide +kernel
set_option maxRecDepth 100000 in
theorem dX8_lost_86 : decode cX8_lost 86 = .ok (.getfield 45, 3) := by decide +kernel
set_option maxRecDepth 100000 in
theorem dX8_lost_89 : decode cX8_lost 89 = .ok (.aload 5, 2) := by decide +kernel
set_option maxRecDepth 100000 in
theorem dX8_lost_91 : decode cX8_lost 91 = .ok (.invokevirtual 113, 3) := by decide +kernel
set_option maxRecDepth 100000 in
theorem dX8_lost_94 : decode cX8_lost 94 = .ok (.aload_n 0, 1) := by decide +kernel
set_option maxRecDepth 100000 in
theorem dX8_lost_95 : decode cX8_lost 95 = .ok (.aload_n 0, 1) := by decide +kernel
set_option maxRecDepth 100000 in
theorem dX8_lost_96 : decode cX8_lost 96 = .ok (.iload_n 2, 1) := by decide +kernel
set_option maxRecDepth 100000 in
theorem dX8_lost_97 : decode cX8_lost 97 = .ok (.invokevirtual 258, 3) := by decide +kernel
set_option maxRecDepth 100000 in
theorem dX8_lost_100 : decode cX8_lost 100 = .ok (.iload_n 3, 1) := by decide +kernel
set_option maxRecDepth 100000 in
theorem dX8_lost_101 : decode cX8_lost 101 = .ok (.iload 4, 2) := by decide +kernel
set_option maxRecDepth 100000 in
theorem dX8_lost_103 : decode cX8_lost 103 = .ok (.invokevirtual 292, 3) := by decide +kernel
set_option maxRecDepth 100000 in
theorem dX8_lost_106 : decode cX8_lost 106 = .ok (.ireturn, 1) := by decide +kernel
set_option maxRecDepth 100000 in
theorem dX8_span_0 : decode cX8_span 0 = .ok (.aload_n 0, 1) := by decide +kernel
set_option maxRecDepth 100000 in
theorem dX8_span_1 : decode cX8_span 1 = .ok (.iload_n 1, 1) := by decide +kernel
set_option maxRecDepth 100000 in
theorem dX8_span_2 : decode cX8_span 2 = .ok (.iload_n 2, 1) := by decide +kernel
set_option maxRecDepth 100000 in
theorem dX8_span_3 : decode cX8_span 3 = .ok (.iload_n 3, 1) := by decide +kernel
set_option maxRecDepth 100000 in
theorem dX8_span_4 : decode cX8_span 4 = .ok (.invokevirtual 200, 3) := by decide +kernel
set_option maxRecDepth 100000 in
theorem dX8_span_7 : decode cX8_span 7 = .ok (.ifCond .eq 18, 3) := by decide +kernel
set_option maxRecDepth 100000 in
theorem dX8_span_10 : decode cX8_span 10 = .ok (.aload_n 0, 1) := by decide +kernel
set_option maxRecDepth 100000 in
theorem dX8_span_11 : decode cX8_span 11 = .ok (.getfield 62, 3) := by decide +kernel
set_option maxRecDepth 100000 in
theorem dX8_span_14 : decode cX8_span 14 = .ok (.getfield 203, 3) := by decide +kernel
set_option maxRecDepth 100000 in
theorem dX8_span_17 : decode cX8_span 17 = .ok (.iload 4, 2) := by decide +kernel
set_option maxRecDepth 100000 in
theorem dX8_span_19 : decode cX8_span 19 = .ok (.invokestatic 295, 3) := by decide +kernel
set_option maxRecDepth 100000 in
theorem dX8_span_22 : decode cX8_span 22 = .ok (.ifCond .ne 6, 3) := by decide +kernel
set_option maxRecDepth 100000 in
theorem dX8_span_25 : decode cX8_span 25 = .ok (.bipush (-101), 2) := by decide +kernel
set_option maxRecDepth 100000 in
theorem dX8_span_27 : decode cX8_span 27 = .ok (.ireturn, 1) := by decide +kernel
set_option maxRecDepth 100000 in
theorem dX8_span_28 : decode cX8_span 28 = .ok (.iload 5, 2) := by decide +kernel
set_option maxRecDepth 100000 in
theorem dX8_span_30 : decode cX8_span 30 = .ok (.iconst 0, 1) := by decide +kernel
set_option maxRecDepth 100000 in
theorem dX8_span_31 : decode cX8_span 31 = .ok (.iconst 1, 1) := by decide +kernel
set_option maxRecDepth 100000 in
theorem dX8_span_32 : decode cX8_span 32 = .ok (.invokestatic 121, 3) := by decide +kernel
set_option maxRecDepth 100000 in
theorem dX8_span_35 : decode cX8_span 35 = .ok (.ifCond .ne 6, 3) := by decide +kernel
set_option maxRecDepth 100000 in
theorem dX8_span_38 : decode cX8_span 38 = .ok (.bipush (-102), 2) := by decide +kernel
set_option maxRecDepth 100000 in
theorem dX8_span_40 : decode cX8_span 40 = .ok (.ireturn, 1) := by decide +kernel
set_option maxRecDepth 100000 in
theorem dX8_span_41 : decode cX8_span 41 = .ok (.aload_n 0, 1) := by decide +kernel
set_option maxRecDepth 100000 in
theorem dX8_span_42 : decode cX8_span 42 = .ok (.getfield 62, 3) := by decide +kernel
set_option maxRecDepth 100000 in
theorem dX8_span_45 : decode cX8_span 45 = .ok (.bipush 96, 2) := by decide +kernel
set_option maxRecDepth 100000 in
theorem dX8_span_47 : decode cX8_span 47 = .ok (.invokevirtual 209, 3) := by decide +kernel
set_option maxRecDepth 100000 in
theorem dX8_span_50 : decode cX8_span 50 = .ok (.aload_n 0, 1) := by decide +kernel
set_option maxRecDepth 100000 in
theorem dX8_span_51 : decode cX8_span 51 = .ok (.getfield 62, 3) := by decide +kernel
set_option maxRecDepth 100000 in
theorem dX8_span_54 : decode cX8_span 54 = .ok (.iload 4, 2) := by decide +kernel
set_option maxRecDepth 100000 in
theorem dX8_span_56 : decode cX8_span 56 = .ok (.invokevirtual 299, 3) := by decide +kernel
set_option maxRecDepth 100000 in
theorem dX8_span_59 : decode cX8_span 59 = .ok (.ifCond .ne 5, 3) := by decide +kernel
set_option maxRecDepth 100000 in
theorem dX8_span_62 : decode cX8_span 62 = .ok (.iconst (-1), 1) := by decide +kernel
set_option maxRecDepth 100000 in
theorem dX8_span_63 : decode cX8_span 63 = .ok (.ireturn, 1) := by decide +kernel
set_option maxRecDepth 100000 in
theorem dX8_span_64 : decode cX8_span 64 = .ok (.iload 5, 2) := by decide +kernel
set_option maxRecDepth 100000 in
theorem dX8_span_66 : decode cX8_span 66 = .ok (.ifCond .ne 15, 3) := by decide +kernel
set_option maxRecDepth 100000 in
theorem dX8_span_69 : decode cX8_span 69 = .ok (.aload_n 0, 1) := by decide +kernel
set_option maxRecDepth 100000 in
theorem dX8_span_70 : decode cX8_span 70 = .ok (.getfield 62, 3) := by decide +kernel
set_option maxRecDepth 100000 in
theorem dX8_span_73 : decode cX8_span 73 = .ok (.iload 4, 2) := by decide +kernel
set_option maxRecDepth 100000 in
theorem dX8_span_75 : decode cX8_span 75 = .ok (.invokevirtual 302, 3) := by decide +kernel
set_option maxRecDepth 100000 in
theorem dX8_span_78 : decode cX8_span 78 = .ok (.goto 12, 3) := by decide +kernel
set_option maxRecDepth 100000 in
theorem dX8_span_81 : decode cX8_span 81 = .ok (.aload_n 0, 1) := by decide +kernel
set_option maxRecDepth 100000 in
theorem dX8_span_82 : decode cX8_span 82 = .ok (.getfield 62, 3) := by decide +kernel
set_option maxRecDepth 100000 in
theorem dX8_span_85 : decode cX8_span 85 = .ok (.iload 4, 2) := by decide +kernel
set_option maxRecDepth 100000 in
theorem dX8_span_87 : decode cX8_span 87 = .ok (.invokevirtual 305, 3) := by decide +kernel
set_option maxRecDepth 100000 in
theorem dX8_span_90 : decode cX8_span 90 = .ok (.ireturn, 1) := by decide +kernel
set_option maxRecDepth 100000 in
theorem dX8_record_0 : decode cX8_record 0 = .ok (.aload_n 0, 1) := by decide +kernel
set_option maxRecDepth 100000 in
theorem dX8_record_1 : decode cX8_record 1 = .ok (.iload_n 1, 1) := by decide +kernel
set_option maxRecDepth 100000 in
theorem dX8_record_2 : decode cX8_record 2 = .ok (.iload_n 2, 1) := by decide +kernel
set_option maxRecDepth 100000 in
theorem dX8_record_3 : decode cX8_record 3 = .ok (.iconst (-1), 1) := by decide +kernel
set_option maxRecDepth 100000 in
theorem dX8_record_4 : decode cX8_record 4 = .ok (.invokevirtual 200, 3) := by decide +kernel
set_option maxRecDepth 100000 in
theorem dX8_record_7 : decode cX8_record 7 = .ok (.ifCond .eq 17, 3) := by decide +kernel
set_option maxRecDepth 100000 in
theorem dX8_record_10 : decode cX8_record 10 = .ok (.aload_n 0, 1) := by decide +kernel
set_option maxRecDepth 100000 in
theorem dX8_record_11 : decode cX8_record 11 = .ok (.getfield 62, 3) := by decide +kernel
set_option maxRecDepth 100000 in
theorem dX8_record_14 : decode cX8_record 14 = .ok (.getfield 203, 3) := by decide +kernel
set_option maxRecDepth 100000 in
theorem dX8_record_17 : decode cX8_record 17 = .ok (.iload_n 3, 1) := by decide +kernel
set_option maxRecDepth 100000 in
theorem dX8_record_18 : decode cX8_record 18 = .ok (.invokestatic 295, 3) := by decide +kernel
set_option maxRecDepth 100000 in
theorem dX8_record_21 : decode cX8_record 21 = .ok (.ifCond .ne 6, 3) := by decide +kernel
set_option maxRecDepth 100000 in
theorem dX8_record_24 : decode cX8_record 24 = .ok (.bipush (-101), 2) := by decide +kernel
set_option maxRecDepth 100000 in
theorem dX8_record_26 : decode cX8_record 26 = .ok (.ireturn, 1) := by decide +kernel
set_option maxRecDepth 100000 in
theorem dX8_record_27 : decode cX8_record 27 = .ok (.iload 4, 2) := by decide +kernel
set_option maxRecDepth 100000 in
theorem dX8_record_29 : decode cX8_record 29 = .ok (.invokestatic 153, 3) := by decide +kernel
set_option maxRecDepth 100000 in
theorem dX8_record_32 : decode cX8_record 32 = .ok (.ifCond .eq 13, 3) := by decide +kernel
set_option maxRecDepth 100000 in
theorem dX8_record_35 : decode cX8_record 35 = .ok (.iload 5, 2) := by decide +kernel
set_option maxRecDepth 100000 in
theorem dX8_record_37 : decode cX8_record 37 = .ok (.iconst 0, 1) := by decide +kernel
set_option maxRecDepth 100000 in
theorem dX8_record_38 : decode cX8_record 38 = .ok (.iconst 1, 1) := by decide +kernel
set_option maxRecDepth 100000 in
theorem dX8_record_39 : decode cX8_record 39 = .ok (.invokestatic 121, 3) := by decide +kernel
set_option maxRecDepth 100000 in
theorem dX8_record_42 : decode cX8_record 42 = .ok (.ifCond .ne 6, 3) := by decide +kernel
set_option maxRecDepth 100000 in
theorem dX8_record_45 : decode cX8_record 45 = .ok (.bipush (-102), 2) := by decide +kernel
set_option maxRecDepth 100000 in
theorem dX8_record_47 : decode cX8_record 47 = .ok (.ireturn, 1) := by decide +kernel
set_option maxRecDepth 100000 in
theorem dX8_record_48 : decode cX8_record 48 = .ok (.iload 5, 2) := by decide +kernel
set_option maxRecDepth 100000 in
theorem dX8_record_50 : decode cX8_record 50 = .ok (.ifCond .ne 19, 3) := by decide +kernel
set_option maxRecDepth 100000 in
theorem dX8_record_53 : decode cX8_record 53 = .ok (.aload_n 0, 1) := by decide +kernel
set_option maxRecDepth 100000 in
theorem dX8_record_54 : decode cX8_record 54 = .ok (.iload_n 3, 1) := by decide +kernel
set_option maxRecDepth 100000 in
theorem dX8_record_55 : decode cX8_record 55 = .ok (.iload 4, 2) := by decide +kernel
set_option maxRecDepth 100000 in
theorem dX8_record_57 : decode cX8_record 57 = .ok (.invokevirtual 308, 3) := by decide +kernel
set_option maxRecDepth 100000 in
theorem dX8_record_60 : decode cX8_record 60 = .ok (.ifCond .eq 7, 3) := by decide +kernel
set_option maxRecDepth 100000 in
theorem dX8_record_63 : decode cX8_record 63 = .ok (.iconst 1, 1) := by decide +kernel
set_option maxRecDepth 100000 in
theorem dX8_record_64 : decode cX8_record 64 = .ok (.goto 4, 3) := by decide +kernel
set_option maxRecDepth 100000 in
theorem dX8_record_67 : decode cX8_record 67 = .ok (.iconst 0, 1) := by decide +kernel
set_option maxRecDepth 100000 in
theorem dX8_record_68 : decode cX8_record 68 = .ok (.ireturn, 1) := by decide +kernel
set_option maxRecDepth 100000 in
theorem dX8_record_69 : decode cX8_record 69 = .ok (.iconst 0, 1) := by decide +kernel
set_option maxRecDepth 100000 in
theorem dX8_record_70 : decode cX8_record 70 = .ok (.istore 6, 2) := by decide +kernel
set_option maxRecDepth 100000 in
theorem dX8_record_72 : decode cX8_record 72 = .ok (.iload 6, 2) := by decide +kernel
set_option maxRecDepth 100000 in
theorem dX8_record_74 : decode cX8_record 74 = .ok (.aload_n 0, 1) := by decide +kernel
set_option maxRecDepth 100000 in
theorem dX8_record_75 : decode cX8_record 75 = .ok (.getfield 156, 3) := by decide +kernel
set_option maxRecDepth 100000 in
theorem dX8_record_78 : decode cX8_record 78 = .ok (.if_icmp .ge 33, 3) := by decide +kernel
set_option maxRecDepth 100000 in
theorem dX8_record_81 : decode cX8_record 81 = .ok (.aload_n 0, 1) := by decide +kernel
set_option maxRecDepth 100000 in
theorem dX8_record_82 : decode cX8_record 82 = .ok (.iload_n 1, 1) := by decide +kernel
set_option maxRecDepth 100000 in
theorem dX8_record_83 : decode cX8_record 83 = .ok (.iload_n 2, 1) := by decide +kernel
set_option maxRecDepth 100000 in
theorem dX8_record_84 : decode cX8_record 84 = .ok (.iload 6, 2) := by decide +kernel
set_option maxRecDepth 100000 in
theorem dX8_record_86 : decode cX8_record 86 = .ok (.invokevirtual 200, 3) := by decide +kernel
set_option maxRecDepth 100000 in
theorem dX8_record_89 : decode cX8_record 89 = .ok (.ifCond .eq 16, 3) := by decide +kernel
set_option maxRecDepth 100000 in
theorem dX8_record_92 : decode cX8_record 92 = .ok (.aload_n 0, 1) := by decide +kernel
set_option maxRecDepth 100000 in
theorem dX8_record_93 : decode cX8_record 93 = .ok (.iload_n 3, 1) := by decide +kernel
set_option maxRecDepth 100000 in
theorem dX8_record_94 : decode cX8_record 94 = .ok (.iload 4, 2) := by decide +kernel
set_option maxRecDepth 100000 in
theorem dX8_record_96 : decode cX8_record 96 = .ok (.invokevirtual 308, 3) := by decide +kernel
set_option maxRecDepth 100000 in
theorem dX8_record_99 : decode cX8_record 99 = .ok (.ifCond .eq 6, 3) := by decide +kernel
set_option maxRecDepth 100000 in
theorem dX8_record_102 : decode cX8_record 102 = .ok (.iload 6, 2) := by decide +kernel
set_option maxRecDepth 100000 in
theorem dX8_record_104 : decode cX8_record 104 = .ok (.ireturn, 1) := by decide +kernel
set_option maxRecDepth 100000 in
theorem dX8_record_105 : decode cX8_record 105 = .ok (.iinc 6 1, 3) := by decide +kernel
set_option maxRecDepth 100000 in
theorem dX8_record_108 : decode cX8_record 108 = .ok (.goto (-36), 3) := by decide +kernel
set_option maxRecDepth 100000 in
theorem dX8_record_111 : decode cX8_record 111 = .ok (.iconst (-1), 1) := by decide +kernel
set_option maxRecDepth 100000 in
theorem dX8_record_112 : decode cX8_record 112 = .ok (.ireturn, 1) := by decide +kernel
set_option maxRecDepth 100000 in
theorem dX8_image_0 : decode cX8_image 0 = .ok (.aload_n 0, 1) := by decide +kernel
set_option maxRecDepth 100000 in
theorem dX8_image_1 : decode cX8_image 1 = .ok (.getfield 41, 3) := by decide +kernel
set_option maxRecDepth 100000 in
theorem dX8_image_4 : decode cX8_image 4 = .ok (.aload_n 0, 1) := by decide +kernel
set_option maxRecDepth 100000 in
theorem dX8_image_5 : decode cX8_image 5 = .ok (.getfield 37, 3) := by decide +kernel
set_option maxRecDepth 100000 in
theorem dX8_image_8 : decode cX8_image 8 = .ok (.invokevirtual 311, 3) := by decide +kernel
set_option maxRecDepth 100000 in
theorem dX8_image_11 : decode cX8_image 11 = .ok (.aload_n 0, 1) := by decide +kernel
set_option maxRecDepth 100000 in
theorem dX8_image_12 : decode cX8_image 12 = .ok (.iconst 1, 1) := by decide +kernel
set_option maxRecDepth 100000 in
theorem dX8_image_13 : decode cX8_image 13 = .ok (.putfield 314, 3) := by decide +kernel
set_option maxRecDepth 100000 in
theorem dX8_image_16 : decode cX8_image 16 = .ok (.aload_n 0, 1) := by decide +kernel
set_option maxRecDepth 100000 in
theorem dX8_image_17 : decode cX8_image 17 = .ok (.getfield 37, 3) := by decide +kernel
set_option maxRecDepth 100000 in
theorem dX8_image_20 : decode cX8_image 20 = .ok (.invokevirtual 318, 3) := by decide +kernel
set_option maxRecDepth 100000 in
theorem dX8_image_23 : decode cX8_image 23 = .ok (.ireturn, 1) := by decide +kernel
set_option maxRecDepth 100000 in
theorem dX8_restore_0 : decode cX8_restore 0 = .ok (.aload_n 0, 1) := by decide +kernel
set_option maxRecDepth 100000 in
theorem dX8_restore_1 : decode cX8_restore 1 = .ok (.getfield 314, 3) := by decide +kernel
set_option maxRecDepth 100000 in
theorem dX8_restore_4 : decode cX8_restore 4 = .ok (.ifCond .ne 6, 3) := by decide +kernel
set_option maxRecDepth 100000 in
theorem dX8_restore_7 : decode cX8_restore 7 = .ok (.bipush (-103), 2) := by decide +kernel
set_option maxRecDepth 100000 in
theorem dX8_restore_9 : decode cX8_restore 9 = .ok (.ireturn, 1) := by decide +kernel
set_option maxRecDepth 100000 in
theorem dX8_restore_10 : decode cX8_restore 10 = .ok (.aload_n 0, 1) := by decide +kernel
set_option maxRecDepth 100000 in
theorem dX8_restore_11 : decode cX8_restore 11 = .ok (.getfield 37, 3) := by decide +kernel
set_option maxRecDepth 100000 in
theorem dX8_restore_14 : decode cX8_restore 14 = .ok (.aload_n 0, 1) := by decide +kernel
set_option maxRecDepth 100000 in
theorem dX8_restore_15 : decode cX8_restore 15 = .ok (.getfield 41, 3) := by decide +kernel
set_option maxRecDepth 100000 in
theorem dX8_restore_18 : decode cX8_restore 18 = .ok (.invokevirtual 311, 3) := by decide +kernel
set_option maxRecDepth 100000 in
theorem dX8_restore_21 : decode cX8_restore 21 = .ok (.aload_n 0, 1) := by decide +kernel
set_option maxRecDepth 100000 in
theorem dX8_restore_22 : decode cX8_restore 22 = .ok (.getfield 37, 3) := by decide +kernel
set_option maxRecDepth 100000 in
theorem dX8_restore_25 : decode cX8_restore 25 = .ok (.invokevirtual 318, 3) := by decide +kernel
set_option maxRecDepth 100000 in
theorem dX8_restore_28 : decode cX8_restore 28 = .ok (.ireturn, 1) := by decide +kernel
set_option maxRecDepth 100000 in
theorem dX8_count_0 : decode cX8_count 0 = .ok (.iload_n 1, 1) := by decide +kernel
set_option maxRecDepth 100000 in
theorem dX8_count_1 : decode cX8_count 1 = .ok (.tableswitch 75 0 5 #[39, 44, 49, 54, 62, 70], 39) := by decide +kernel
set_option maxRecDepth 100000 in
theorem dX8_count_40 : decode cX8_count 40 = .ok (.aload_n 0, 1) := by decide +kernel
set_option maxRecDepth 100000 in
theorem dX8_count_41 : decode cX8_count 41 = .ok (.getfield 110, 3) := by decide +kernel
set_option maxRecDepth 100000 in
theorem dX8_count_44 : decode cX8_count 44 = .ok (.ireturn, 1) := by decide +kernel
set_option maxRecDepth 100000 in
theorem dX8_count_45 : decode cX8_count 45 = .ok (.aload_n 0, 1) := by decide +kernel
set_option maxRecDepth 100000 in
theorem dX8_count_46 : decode cX8_count 46 = .ok (.getfield 156, 3) := by decide +kernel
set_option maxRecDepth 100000 in
theorem dX8_count_49 : decode cX8_count 49 = .ok (.ireturn, 1) := by decide +kernel
set_option maxRecDepth 100000 in
theorem dX8_count_50 : decode cX8_count 50 = .ok (.aload_n 0, 1) := by decide +kernel
set_option maxRecDepth 100000 in
theorem dX8_count_51 : decode cX8_count 51 = .ok (.getfield 183, 3) := by decide +kernel
set_option maxRecDepth 100000 in
theorem dX8_count_54 : decode cX8_count 54 = .ok (.ireturn, 1) := by decide +kernel
set_option maxRecDepth 100000 in
theorem dX8_count_55 : decode cX8_count 55 = .ok (.aload_n 0, 1) := by decide +kernel
set_option maxRecDepth 100000 in
theorem dX8_count_56 : decode cX8_count 56 = .ok (.getfield 30, 3) := by decide +kernel
set_option maxRecDepth 100000 in
theorem dX8_count_59 : decode cX8_count 59 = .ok (.getfield 91, 3) := by decide +kernel
set_option maxRecDepth 100000 in
theorem dX8_count_62 : decode cX8_count 62 = .ok (.ireturn, 1) := by decide +kernel
set_option maxRecDepth 100000 in
theorem dX8_count_63 : decode cX8_count 63 = .ok (.aload_n 0, 1) := by decide +kernel
set_option maxRecDepth 100000 in
theorem dX8_count_64 : decode cX8_count 64 = .ok (.getfield 37, 3) := by decide +kernel
set_option maxRecDepth 100000 in
theorem dX8_count_67 : decode cX8_count 67 = .ok (.invokevirtual 318, 3) := by decide +kernel
set_option maxRecDepth 100000 in
theorem dX8_count_70 : decode cX8_count 70 = .ok (.ireturn, 1) := by decide +kernel
set_option maxRecDepth 100000 in
theorem dX8_count_71 : decode cX8_count 71 = .ok (.aload_n 0, 1) := by decide +kernel
set_option maxRecDepth 100000 in
theorem dX8_count_72 : decode cX8_count 72 = .ok (.getfield 282, 3) := by decide +kernel
set_option maxRecDepth 100000 in
theorem dX8_count_75 : decode cX8_count 75 = .ok (.ireturn, 1) := by decide +kernel
set_option maxRecDepth 100000 in
theorem dX8_count_76 : decode cX8_count 76 = .ok (.bipush (-102), 2) := by decide +kernel
set_option maxRecDepth 100000 in
theorem dX8_count_78 : decode cX8_count 78 = .ok (.ireturn, 1) := by decide +kernel
set_option maxRecDepth 100000 in
theorem dX8_digest_0 : decode cX8_digest 0 = .ok (.ldc2_w 321, 3) := by decide +kernel
set_option maxRecDepth 100000 in
theorem dX8_digest_3 : decode cX8_digest 3 = .ok (.lstore_n 1, 1) := by decide +kernel
set_option maxRecDepth 100000 in
theorem dX8_digest_4 : decode cX8_digest 4 = .ok (.iconst 0, 1) := by decide +kernel
set_option maxRecDepth 100000 in
theorem dX8_digest_5 : decode cX8_digest 5 = .ok (.istore_n 3, 1) := by decide +kernel
set_option maxRecDepth 100000 in
theorem dX8_digest_6 : decode cX8_digest 6 = .ok (.iload_n 3, 1) := by decide +kernel
set_option maxRecDepth 100000 in
theorem dX8_digest_7 : decode cX8_digest 7 = .ok (.iconst 4, 1) := by decide +kernel
set_option maxRecDepth 100000 in
theorem dX8_digest_8 : decode cX8_digest 8 = .ok (.if_icmp .ge 29, 3) := by decide +kernel
set_option maxRecDepth 100000 in
theorem dX8_digest_11 : decode cX8_digest 11 = .ok (.lload_n 1, 1) := by decide +kernel
set_option maxRecDepth 100000 in
theorem dX8_digest_12 : decode cX8_digest 12 = .ok (.aload_n 0, 1) := by decide +kernel
set_option maxRecDepth 100000 in
theorem dX8_digest_13 : decode cX8_digest 13 = .ok (.iload_n 3, 1) := by decide +kernel
set_option maxRecDepth 100000 in
theorem dX8_digest_14 : decode cX8_digest 14 = .ok (.invokevirtual 258, 3) := by decide +kernel
set_option maxRecDepth 100000 in
theorem dX8_digest_17 : decode cX8_digest 17 = .ok (.i2l, 1) := by decide +kernel
set_option maxRecDepth 100000 in
theorem dX8_digest_18 : decode cX8_digest 18 = .ok (.invokestatic 323, 3) := by decide +kernel
set_option maxRecDepth 100000 in
theorem dX8_digest_21 : decode cX8_digest 21 = .ok (.aload_n 0, 1) := by decide +kernel
set_option maxRecDepth 100000 in
theorem dX8_digest_22 : decode cX8_digest 22 = .ok (.iload_n 3, 1) := by decide +kernel
set_option maxRecDepth 100000 in
theorem dX8_digest_23 : decode cX8_digest 23 = .ok (.invokevirtual 216, 3) := by decide +kernel
set_option maxRecDepth 100000 in
theorem dX8_digest_26 : decode cX8_digest 26 = .ok (.i2l, 1) := by decide +kernel
set_option maxRecDepth 100000 in
theorem dX8_digest_27 : decode cX8_digest 27 = .ok (.invokestatic 323, 3) := by decide +kernel
set_option maxRecDepth 100000 in
theorem dX8_digest_30 : decode cX8_digest 30 = .ok (.lstore_n 1, 1) := by decide +kernel
set_option maxRecDepth 100000 in
theorem dX8_digest_31 : decode cX8_digest 31 = .ok (.iinc 3 1, 3) := by decide +kernel
set_option maxRecDepth 100000 in
theorem dX8_digest_34 : decode cX8_digest 34 = .ok (.goto (-28), 3) := by decide +kernel
set_option maxRecDepth 100000 in
theorem dX8_digest_37 : decode cX8_digest 37 = .ok (.iconst 0, 1) := by decide +kernel
set_option maxRecDepth 100000 in
theorem dX8_digest_38 : decode cX8_digest 38 = .ok (.istore_n 3, 1) := by decide +kernel
set_option maxRecDepth 100000 in
theorem dX8_digest_39 : decode cX8_digest 39 = .ok (.iload_n 3, 1) := by decide +kernel
set_option maxRecDepth 100000 in
theorem dX8_digest_40 : decode cX8_digest 40 = .ok (.aload_n 0, 1) := by decide +kernel
set_option maxRecDepth 100000 in
theorem dX8_digest_41 : decode cX8_digest 41 = .ok (.getfield 110, 3) := by decide +kernel
set_option maxRecDepth 100000 in
theorem dX8_digest_44 : decode cX8_digest 44 = .ok (.if_icmp .ge 16, 3) := by decide +kernel
set_option maxRecDepth 100000 in
theorem dX8_digest_47 : decode cX8_digest 47 = .ok (.aload_n 0, 1) := by decide +kernel
set_option maxRecDepth 100000 in
theorem dX8_digest_48 : decode cX8_digest 48 = .ok (.lload_n 1, 1) := by decide +kernel
set_option maxRecDepth 100000 in
theorem dX8_digest_49 : decode cX8_digest 49 = .ok (.iload_n 3, 1) := by decide +kernel
set_option maxRecDepth 100000 in
theorem dX8_digest_50 : decode cX8_digest 50 = .ok (.invokevirtual 327, 3) := by decide +kernel
set_option maxRecDepth 100000 in
theorem dX8_digest_53 : decode cX8_digest 53 = .ok (.lstore_n 1, 1) := by decide +kernel
set_option maxRecDepth 100000 in
theorem dX8_digest_54 : decode cX8_digest 54 = .ok (.iinc 3 1, 3) := by decide +kernel
set_option maxRecDepth 100000 in
theorem dX8_digest_57 : decode cX8_digest 57 = .ok (.goto (-18), 3) := by decide +kernel
set_option maxRecDepth 100000 in
theorem dX8_digest_60 : decode cX8_digest 60 = .ok (.iconst 0, 1) := by decide +kernel
set_option maxRecDepth 100000 in
theorem dX8_digest_61 : decode cX8_digest 61 = .ok (.istore_n 3, 1) := by decide +kernel
set_option maxRecDepth 100000 in
theorem dX8_digest_62 : decode cX8_digest 62 = .ok (.iload_n 3, 1) := by decide +kernel
set_option maxRecDepth 100000 in
theorem dX8_digest_63 : decode cX8_digest 63 = .ok (.aload_n 0, 1) := by decide +kernel
set_option maxRecDepth 100000 in
theorem dX8_digest_64 : decode cX8_digest 64 = .ok (.getfield 156, 3) := by decide +kernel
set_option maxRecDepth 100000 in
theorem dX8_digest_67 : decode cX8_digest 67 = .ok (.if_icmp .ge 19, 3) := by decide +kernel
set_option maxRecDepth 100000 in
theorem dX8_digest_70 : decode cX8_digest 70 = .ok (.lload_n 1, 1) := by decide +kernel
set_option maxRecDepth 100000 in
theorem dX8_digest_71 : decode cX8_digest 71 = .ok (.aload_n 0, 1) := by decide +kernel
set_option maxRecDepth 100000 in
theorem dX8_digest_72 : decode cX8_digest 72 = .ok (.iload_n 3, 1) := by decide +kernel
set_option maxRecDepth 100000 in
theorem dX8_digest_73 : decode cX8_digest 73 = .ok (.invokevirtual 163, 3) := by decide +kernel
set_option maxRecDepth 100000 in
theorem dX8_digest_76 : decode cX8_digest 76 = .ok (.invokestatic 331, 3) := by decide +kernel
set_option maxRecDepth 100000 in
theorem dX8_digest_79 : decode cX8_digest 79 = .ok (.lstore_n 1, 1) := by decide +kernel
set_option maxRecDepth 100000 in
theorem dX8_digest_80 : decode cX8_digest 80 = .ok (.iinc 3 1, 3) := by decide +kernel
set_option maxRecDepth 100000 in
theorem dX8_digest_83 : decode cX8_digest 83 = .ok (.goto (-21), 3) := by decide +kernel
set_option maxRecDepth 100000 in
theorem dX8_digest_86 : decode cX8_digest 86 = .ok (.iconst 0, 1) := by decide +kernel
set_option maxRecDepth 100000 in
theorem dX8_digest_87 : decode cX8_digest 87 = .ok (.istore_n 3, 1) := by decide +kernel
set_option maxRecDepth 100000 in
theorem dX8_digest_88 : decode cX8_digest 88 = .ok (.iload_n 3, 1) := by decide +kernel
set_option maxRecDepth 100000 in
theorem dX8_digest_89 : decode cX8_digest 89 = .ok (.aload_n 0, 1) := by decide +kernel
set_option maxRecDepth 100000 in
theorem dX8_digest_90 : decode cX8_digest 90 = .ok (.getfield 183, 3) := by decide +kernel
set_option maxRecDepth 100000 in
theorem dX8_digest_93 : decode cX8_digest 93 = .ok (.if_icmp .ge 19, 3) := by decide +kernel
set_option maxRecDepth 100000 in
theorem dX8_digest_96 : decode cX8_digest 96 = .ok (.lload_n 1, 1) := by decide +kernel
set_option maxRecDepth 100000 in
theorem dX8_digest_97 : decode cX8_digest 97 = .ok (.aload_n 0, 1) := by decide +kernel
set_option maxRecDepth 100000 in
theorem dX8_digest_98 : decode cX8_digest 98 = .ok (.iload_n 3, 1) := by decide +kernel
set_option maxRecDepth 100000 in
theorem dX8_digest_99 : decode cX8_digest 99 = .ok (.invokevirtual 186, 3) := by decide +kernel
set_option maxRecDepth 100000 in
theorem dX8_digest_102 : decode cX8_digest 102 = .ok (.invokestatic 335, 3) := by decide +kernel
set_option maxRecDepth 100000 in
theorem dX8_digest_105 : decode cX8_digest 105 = .ok (.lstore_n 1, 1) := by decide +kernel
set_option maxRecDepth 100000 in
theorem dX8_digest_106 : decode cX8_digest 106 = .ok (.iinc 3 1, 3) := by decide +kernel
set_option maxRecDepth 100000 in
theorem dX8_digest_109 : decode cX8_digest 109 = .ok (.goto (-21), 3) := by decide +kernel
set_option maxRecDepth 100000 in
theorem dX8_digest_112 : decode cX8_digest 112 = .ok (.lload_n 1, 1) := by decide +kernel
set_option maxRecDepth 100000 in
theorem dX8_digest_113 : decode cX8_digest 113 = .ok (.aload_n 0, 1) := by decide +kernel
set_option maxRecDepth 100000 in
theorem dX8_digest_114 : decode cX8_digest 114 = .ok (.getfield 37, 3) := by decide +kernel
set_option maxRecDepth 100000 in
theorem dX8_digest_117 : decode cX8_digest 117 = .ok (.getfield 197, 3) := by decide +kernel
set_option maxRecDepth 100000 in
theorem dX8_digest_120 : decode cX8_digest 120 = .ok (.i2l, 1) := by decide +kernel
set_option maxRecDepth 100000 in
theorem dX8_digest_121 : decode cX8_digest 121 = .ok (.invokestatic 323, 3) := by decide +kernel
set_option maxRecDepth 100000 in
theorem dX8_digest_124 : decode cX8_digest 124 = .ok (.lstore_n 1, 1) := by decide +kernel
set_option maxRecDepth 100000 in
theorem dX8_digest_125 : decode cX8_digest 125 = .ok (.iconst 0, 1) := by decide +kernel
set_option maxRecDepth 100000 in
theorem dX8_digest_126 : decode cX8_digest 126 = .ok (.istore_n 3, 1) := by decide +kernel
set_option maxRecDepth 100000 in
theorem dX8_digest_127 : decode cX8_digest 127 = .ok (.iload_n 3, 1) := by decide +kernel
set_option maxRecDepth 100000 in
theorem dX8_digest_128 : decode cX8_digest 128 = .ok (.bipush 12, 2) := by decide +kernel
set_option maxRecDepth 100000 in
theorem dX8_digest_130 : decode cX8_digest 130 = .ok (.if_icmp .ge 24, 3) := by decide +kernel
set_option maxRecDepth 100000 in
theorem dX8_digest_133 : decode cX8_digest 133 = .ok (.lload_n 1, 1) := by decide +kernel
set_option maxRecDepth 100000 in
theorem dX8_digest_134 : decode cX8_digest 134 = .ok (.aload_n 0, 1) := by decide +kernel
set_option maxRecDepth 100000 in
theorem dX8_digest_135 : decode cX8_digest 135 = .ok (.getfield 37, 3) := by decide +kernel
set_option maxRecDepth 100000 in
theorem dX8_digest_138 : decode cX8_digest 138 = .ok (.getfield 271, 3) := by decide +kernel
set_option maxRecDepth 100000 in
theorem dX8_digest_141 : decode cX8_digest 141 = .ok (.iload_n 3, 1) := by decide +kernel
set_option maxRecDepth 100000 in
theorem dX8_digest_142 : decode cX8_digest 142 = .ok (.iaload, 1) := by decide +kernel
set_option maxRecDepth 100000 in
theorem dX8_digest_143 : decode cX8_digest 143 = .ok (.i2l, 1) := by decide +kernel
set_option maxRecDepth 100000 in
theorem dX8_digest_144 : decode cX8_digest 144 = .ok (.invokestatic 323, 3) := by decide +kernel
set_option maxRecDepth 100000 in
theorem dX8_digest_147 : decode cX8_digest 147 = .ok (.lstore_n 1, 1) := by decide +kernel
set_option maxRecDepth 100000 in
theorem dX8_digest_148 : decode cX8_digest 148 = .ok (.iinc 3 1, 3) := by decide +kernel
set_option maxRecDepth 100000 in
theorem dX8_digest_151 : decode cX8_digest 151 = .ok (.goto (-24), 3) := by decide +kernel
set_option maxRecDepth 100000 in
theorem dX8_digest_154 : decode cX8_digest 154 = .ok (.iconst 0, 1) := by decide +kernel
set_option maxRecDepth 100000 in
theorem dX8_digest_155 : decode cX8_digest 155 = .ok (.istore_n 3, 1) := by decide +kernel
set_option maxRecDepth 100000 in
theorem dX8_digest_156 : decode cX8_digest 156 = .ok (.iload_n 3, 1) := by decide +kernel
set_option maxRecDepth 100000 in
theorem dX8_digest_157 : decode cX8_digest 157 = .ok (.aload_n 0, 1) := by decide +kernel
set_option maxRecDepth 100000 in
theorem dX8_digest_158 : decode cX8_digest 158 = .ok (.getfield 30, 3) := by decide +kernel
set_option maxRecDepth 100000 in
theorem dX8_digest_161 : decode cX8_digest 161 = .ok (.getfield 91, 3) := by decide +kernel
set_option maxRecDepth 100000 in
theorem dX8_digest_164 : decode cX8_digest 164 = .ok (.if_icmp .ge 23, 3) := by decide +kernel
set_option maxRecDepth 100000 in
theorem dX8_digest_167 : decode cX8_digest 167 = .ok (.lload_n 1, 1) := by decide +kernel
set_option maxRecDepth 100000 in
theorem dX8_digest_168 : decode cX8_digest 168 = .ok (.aload_n 0, 1) := by decide +kernel
set_option maxRecDepth 100000 in
theorem dX8_digest_169 : decode cX8_digest 169 = .ok (.getfield 30, 3) := by decide +kernel
set_option maxRecDepth 100000 in
theorem dX8_digest_172 : decode cX8_digest 172 = .ok (.iload_n 3, 1) := by decide +kernel
set_option maxRecDepth 100000 in
theorem dX8_digest_173 : decode cX8_digest 173 = .ok (.invokevirtual 339, 3) := by decide +kernel
set_option maxRecDepth 100000 in
theorem dX8_digest_176 : decode cX8_digest 176 = .ok (.i2l, 1) := by decide +kernel
set_option maxRecDepth 100000 in
theorem dX8_digest_177 : decode cX8_digest 177 = .ok (.invokestatic 323, 3) := by decide +kernel
set_option maxRecDepth 100000 in
theorem dX8_digest_180 : decode cX8_digest 180 = .ok (.lstore_n 1, 1) := by decide +kernel
set_option maxRecDepth 100000 in
theorem dX8_digest_181 : decode cX8_digest 181 = .ok (.iinc 3 1, 3) := by decide +kernel
set_option maxRecDepth 100000 in
theorem dX8_digest_184 : decode cX8_digest 184 = .ok (.goto (-28), 3) := by decide +kernel
set_option maxRecDepth 100000 in
theorem dX8_digest_187 : decode cX8_digest 187 = .ok (.iconst 0, 1) := by decide +kernel
set_option maxRecDepth 100000 in
theorem dX8_digest_188 : decode cX8_digest 188 = .ok (.istore_n 3, 1) := by decide +kernel
set_option maxRecDepth 100000 in
theorem dX8_digest_189 : decode cX8_digest 189 = .ok (.iload_n 3, 1) := by decide +kernel
set_option maxRecDepth 100000 in
theorem dX8_digest_190 : decode cX8_digest 190 = .ok (.iconst 5, 1) := by decide +kernel
set_option maxRecDepth 100000 in
theorem dX8_digest_191 : decode cX8_digest 191 = .ok (.if_icmp .gt 20, 3) := by decide +kernel
set_option maxRecDepth 100000 in
theorem dX8_digest_194 : decode cX8_digest 194 = .ok (.lload_n 1, 1) := by decide +kernel
set_option maxRecDepth 100000 in
theorem dX8_digest_195 : decode cX8_digest 195 = .ok (.aload_n 0, 1) := by decide +kernel
set_option maxRecDepth 100000 in
theorem dX8_digest_196 : decode cX8_digest 196 = .ok (.iload_n 3, 1) := by decide +kernel
set_option maxRecDepth 100000 in
theorem dX8_digest_197 : decode cX8_digest 197 = .ok (.invokevirtual 342, 3) := by decide +kernel
set_option maxRecDepth 100000 in
theorem dX8_digest_200 : decode cX8_digest 200 = .ok (.i2l, 1) := by decide +kernel
set_option maxRecDepth 100000 in
theorem dX8_digest_201 : decode cX8_digest 201 = .ok (.invokestatic 323, 3) := by decide +kernel
set_option maxRecDepth 100000 in
theorem dX8_digest_204 : decode cX8_digest 204 = .ok (.lstore_n 1, 1) := by decide +kernel
set_option maxRecDepth 100000 in
theorem dX8_digest_205 : decode cX8_digest 205 = .ok (.iinc 3 1, 3) := by decide +kernel
set_option maxRecDepth 100000 in
theorem dX8_digest_208 : decode cX8_digest 208 = .ok (.goto (-19), 3) := by decide +kernel
set_option maxRecDepth 100000 in
theorem dX8_digest_211 : decode cX8_digest 211 = .ok (.lload_n 1, 1) := by decide +kernel
set_option maxRecDepth 100000 in
theorem dX8_digest_212 : decode cX8_digest 212 = .ok (.lreturn, 1) := by decide +kernel
set_option maxRecDepth 100000 in
theorem dX8_mixed_0 : decode cX8_mixed 0 = .ok (.ldc2_w 345, 3) := by decide +kernel
set_option maxRecDepth 100000 in
theorem dX8_mixed_3 : decode cX8_mixed 3 = .ok (.lload_n 0, 1) := by decide +kernel
set_option maxRecDepth 100000 in
theorem dX8_mixed_4 : decode cX8_mixed 4 = .ok (.lmul, 1) := by decide +kernel
set_option maxRecDepth 100000 in
theorem dX8_mixed_5 : decode cX8_mixed 5 = .ok (.lload_n 2, 1) := by decide +kernel
set_option maxRecDepth 100000 in
theorem dX8_mixed_6 : decode cX8_mixed 6 = .ok (.ladd, 1) := by decide +kernel
set_option maxRecDepth 100000 in
theorem dX8_mixed_7 : decode cX8_mixed 7 = .ok (.lreturn, 1) := by decide +kernel
set_option maxRecDepth 100000 in
theorem dX8_mixedClock_0 : decode cX8_mixedClock 0 = .ok (.aload_n 0, 1) := by decide +kernel
set_option maxRecDepth 100000 in
theorem dX8_mixedClock_1 : decode cX8_mixedClock 1 = .ok (.iload_n 3, 1) := by decide +kernel
set_option maxRecDepth 100000 in
theorem dX8_mixedClock_2 : decode cX8_mixedClock 2 = .ok (.iconst 0, 1) := by decide +kernel
set_option maxRecDepth 100000 in
theorem dX8_mixedClock_3 : decode cX8_mixedClock 3 = .ok (.iconst (-1), 1) := by decide +kernel
set_option maxRecDepth 100000 in
theorem dX8_mixedClock_4 : decode cX8_mixedClock 4 = .ok (.invokevirtual 200, 3) := by decide +kernel
set_option maxRecDepth 100000 in
theorem dX8_mixedClock_7 : decode cX8_mixedClock 7 = .ok (.ifCond .ne 5, 3) := by decide +kernel
set_option maxRecDepth 100000 in
theorem dX8_mixedClock_10 : decode cX8_mixedClock 10 = .ok (.lload_n 1, 1) := by decide +kernel
set_option maxRecDepth 100000 in
theorem dX8_mixedClock_11 : decode cX8_mixedClock 11 = .ok (.lreturn, 1) := by decide +kernel
set_option maxRecDepth 100000 in
theorem dX8_mixedClock_12 : decode cX8_mixedClock 12 = .ok (.aload_n 0, 1) := by decide +kernel
set_option maxRecDepth 100000 in
theorem dX8_mixedClock_13 : decode cX8_mixedClock 13 = .ok (.getfield 62, 3) := by decide +kernel
set_option maxRecDepth 100000 in
theorem dX8_mixedClock_16 : decode cX8_mixedClock 16 = .ok (.getfield 203, 3) := by decide +kernel
set_option maxRecDepth 100000 in
theorem dX8_mixedClock_19 : decode cX8_mixedClock 19 = .ok (.astore 4, 2) := by decide +kernel
set_option maxRecDepth 100000 in
theorem dX8_mixedClock_21 : decode cX8_mixedClock 21 = .ok (.iconst 0, 1) := by decide +kernel
set_option maxRecDepth 100000 in
theorem dX8_mixedClock_22 : decode cX8_mixedClock 22 = .ok (.istore 5, 2) := by decide +kernel
set_option maxRecDepth 100000 in
theorem dX8_mixedClock_24 : decode cX8_mixedClock 24 = .ok (.iload 5, 2) := by decide +kernel
set_option maxRecDepth 100000 in
theorem dX8_mixedClock_26 : decode cX8_mixedClock 26 = .ok (.iconst 4, 1) := by decide +kernel
set_option maxRecDepth 100000 in
theorem dX8_mixedClock_27 : decode cX8_mixedClock 27 = .ok (.if_icmp .gt 22, 3) := by decide +kernel
set_option maxRecDepth 100000 in
theorem dX8_mixedClock_30 : decode cX8_mixedClock 30 = .ok (.lload_n 1, 1) := by decide +kernel
set_option maxRecDepth 100000 in
theorem dX8_mixedClock_31 : decode cX8_mixedClock 31 = .ok (.aload 4, 2) := by decide +kernel
set_option maxRecDepth 100000 in
theorem dX8_mixedClock_33 : decode cX8_mixedClock 33 = .ok (.iload 5, 2) := by decide +kernel
set_option maxRecDepth 100000 in
theorem dX8_mixedClock_35 : decode cX8_mixedClock 35 = .ok (.invokevirtual 125, 3) := by decide +kernel
set_option maxRecDepth 100000 in
theorem dX8_mixedClock_38 : decode cX8_mixedClock 38 = .ok (.i2l, 1) := by decide +kernel
set_option maxRecDepth 100000 in
theorem dX8_mixedClock_39 : decode cX8_mixedClock 39 = .ok (.invokestatic 323, 3) := by decide +kernel
set_option maxRecDepth 100000 in
theorem dX8_mixedClock_42 : decode cX8_mixedClock 42 = .ok (.lstore_n 1, 1) := by decide +kernel
set_option maxRecDepth 100000 in
theorem dX8_mixedClock_43 : decode cX8_mixedClock 43 = .ok (.iinc 5 1, 3) := by decide +kernel
set_option maxRecDepth 100000 in
theorem dX8_mixedClock_46 : decode cX8_mixedClock 46 = .ok (.goto (-22), 3) := by decide +kernel
set_option maxRecDepth 100000 in
theorem dX8_mixedClock_49 : decode cX8_mixedClock 49 = .ok (.iconst 0, 1) := by decide +kernel
set_option maxRecDepth 100000 in
theorem dX8_mixedClock_50 : decode cX8_mixedClock 50 = .ok (.istore 5, 2) := by decide +kernel
set_option maxRecDepth 100000 in
theorem dX8_mixedClock_52 : decode cX8_mixedClock 52 = .ok (.iload 5, 2) := by decide +kernel
set_option maxRecDepth 100000 in
theorem dX8_mixedClock_54 : decode cX8_mixedClock 54 = .ok (.aload 4, 2) := by decide +kernel
set_option maxRecDepth 100000 in
theorem dX8_mixedClock_56 : decode cX8_mixedClock 56 = .ok (.getfield 347, 3) := by decide +kernel
set_option maxRecDepth 100000 in
theorem dX8_mixedClock_59 : decode cX8_mixedClock 59 = .ok (.if_icmp .ge 39, 3) := by decide +kernel
set_option maxRecDepth 100000 in
theorem dX8_mixedClock_62 : decode cX8_mixedClock 62 = .ok (.iconst 0, 1) := by decide +kernel
set_option maxRecDepth 100000 in
theorem dX8_mixedClock_63 : decode cX8_mixedClock 63 = .ok (.istore 6, 2) := by decide +kernel
set_option maxRecDepth 100000 in
theorem dX8_mixedClock_65 : decode cX8_mixedClock 65 = .ok (.iload 6, 2) := by decide +kernel
set_option maxRecDepth 100000 in
theorem dX8_mixedClock_67 : decode cX8_mixedClock 67 = .ok (.iconst 2, 1) := by decide +kernel
set_option maxRecDepth 100000 in
theorem dX8_mixedClock_68 : decode cX8_mixedClock 68 = .ok (.if_icmp .gt 24, 3) := by decide +kernel
set_option maxRecDepth 100000 in
theorem dX8_mixedClock_71 : decode cX8_mixedClock 71 = .ok (.lload_n 1, 1) := by decide +kernel
set_option maxRecDepth 100000 in
theorem dX8_mixedClock_72 : decode cX8_mixedClock 72 = .ok (.aload 4, 2) := by decide +kernel
set_option maxRecDepth 100000 in
theorem dX8_mixedClock_74 : decode cX8_mixedClock 74 = .ok (.iload 5, 2) := by decide +kernel
set_option maxRecDepth 100000 in
theorem dX8_mixedClock_76 : decode cX8_mixedClock 76 = .ok (.iload 6, 2) := by decide +kernel
set_option maxRecDepth 100000 in
theorem dX8_mixedClock_78 : decode cX8_mixedClock 78 = .ok (.invokevirtual 132, 3) := by decide +kernel
set_option maxRecDepth 100000 in
theorem dX8_mixedClock_81 : decode cX8_mixedClock 81 = .ok (.i2l, 1) := by decide +kernel
set_option maxRecDepth 100000 in
theorem dX8_mixedClock_82 : decode cX8_mixedClock 82 = .ok (.invokestatic 323, 3) := by decide +kernel
set_option maxRecDepth 100000 in
theorem dX8_mixedClock_85 : decode cX8_mixedClock 85 = .ok (.lstore_n 1, 1) := by decide +kernel
set_option maxRecDepth 100000 in
theorem dX8_mixedClock_86 : decode cX8_mixedClock 86 = .ok (.iinc 6 1, 3) := by decide +kernel
set_option maxRecDepth 100000 in
theorem dX8_mixedClock_89 : decode cX8_mixedClock 89 = .ok (.goto (-24), 3) := by decide +kernel
set_option maxRecDepth 100000 in
theorem dX8_mixedClock_92 : decode cX8_mixedClock 92 = .ok (.iinc 5 1, 3) := by decide +kernel
set_option maxRecDepth 100000 in
theorem dX8_mixedClock_95 : decode cX8_mixedClock 95 = .ok (.goto (-43), 3) := by decide +kernel
set_option maxRecDepth 100000 in
theorem dX8_mixedClock_98 : decode cX8_mixedClock 98 = .ok (.iconst 0, 1) := by decide +kernel
set_option maxRecDepth 100000 in
theorem dX8_mixedClock_99 : decode cX8_mixedClock 99 = .ok (.istore 5, 2) := by decide +kernel
set_option maxRecDepth 100000 in
theorem dX8_mixedClock_101 : decode cX8_mixedClock 101 = .ok (.iload 5, 2) := by decide +kernel
set_option maxRecDepth 100000 in
theorem dX8_mixedClock_103 : decode cX8_mixedClock 103 = .ok (.aload 4, 2) := by decide +kernel
set_option maxRecDepth 100000 in
theorem dX8_mixedClock_105 : decode cX8_mixedClock 105 = .ok (.getfield 229, 3) := by decide +kernel
set_option maxRecDepth 100000 in
theorem dX8_mixedClock_108 : decode cX8_mixedClock 108 = .ok (.if_icmp .ge 22, 3) := by decide +kernel
set_option maxRecDepth 100000 in
theorem dX8_mixedClock_111 : decode cX8_mixedClock 111 = .ok (.lload_n 1, 1) := by decide +kernel
set_option maxRecDepth 100000 in
theorem dX8_mixedClock_112 : decode cX8_mixedClock 112 = .ok (.aload 4, 2) := by decide +kernel
set_option maxRecDepth 100000 in
theorem dX8_mixedClock_114 : decode cX8_mixedClock 114 = .ok (.iload 5, 2) := by decide +kernel
set_option maxRecDepth 100000 in
theorem dX8_mixedClock_116 : decode cX8_mixedClock 116 = .ok (.invokevirtual 129, 3) := by decide +kernel
set_option maxRecDepth 100000 in
theorem dX8_mixedClock_119 : decode cX8_mixedClock 119 = .ok (.i2l, 1) := by decide +kernel
set_option maxRecDepth 100000 in
theorem dX8_mixedClock_120 : decode cX8_mixedClock 120 = .ok (.invokestatic 323, 3) := by decide +kernel
set_option maxRecDepth 100000 in
theorem dX8_mixedClock_123 : decode cX8_mixedClock 123 = .ok (.lstore_n 1, 1) := by decide +kernel
set_option maxRecDepth 100000 in
theorem dX8_mixedClock_124 : decode cX8_mixedClock 124 = .ok (.iinc 5 1, 3) := by decide +kernel
set_option maxRecDepth 100000 in
theorem dX8_mixedClock_127 : decode cX8_mixedClock 127 = .ok (.goto (-26), 3) := by decide +kernel
set_option maxRecDepth 100000 in
theorem dX8_mixedClock_130 : decode cX8_mixedClock 130 = .ok (.aload_n 0, 1) := by decide +kernel
set_option maxRecDepth 100000 in
theorem dX8_mixedClock_131 : decode cX8_mixedClock 131 = .ok (.invokevirtual 241, 3) := by decide +kernel
set_option maxRecDepth 100000 in
theorem dX8_mixedClock_134 : decode cX8_mixedClock 134 = .ok (.iconst 0, 1) := by decide +kernel
set_option maxRecDepth 100000 in
theorem dX8_mixedClock_135 : decode cX8_mixedClock 135 = .ok (.istore 5, 2) := by decide +kernel
set_option maxRecDepth 100000 in
theorem dX8_mixedClock_137 : decode cX8_mixedClock 137 = .ok (.iload 5, 2) := by decide +kernel
set_option maxRecDepth 100000 in
theorem dX8_mixedClock_139 : decode cX8_mixedClock 139 = .ok (.aload 4, 2) := by decide +kernel
set_option maxRecDepth 100000 in
theorem dX8_mixedClock_141 : decode cX8_mixedClock 141 = .ok (.getfield 229, 3) := by decide +kernel
set_option maxRecDepth 100000 in
theorem dX8_mixedClock_144 : decode cX8_mixedClock 144 = .ok (.if_icmp .ge 24, 3) := by decide +kernel
set_option maxRecDepth 100000 in
theorem dX8_mixedClock_147 : decode cX8_mixedClock 147 = .ok (.lload_n 1, 1) := by decide +kernel
set_option maxRecDepth 100000 in
theorem dX8_mixedClock_148 : decode cX8_mixedClock 148 = .ok (.aload_n 0, 1) := by decide +kernel
set_option maxRecDepth 100000 in
theorem dX8_mixedClock_149 : decode cX8_mixedClock 149 = .ok (.getfield 62, 3) := by decide +kernel
set_option maxRecDepth 100000 in
theorem dX8_mixedClock_152 : decode cX8_mixedClock 152 = .ok (.iload 5, 2) := by decide +kernel
set_option maxRecDepth 100000 in
theorem dX8_mixedClock_154 : decode cX8_mixedClock 154 = .ok (.invokevirtual 213, 3) := by decide +kernel
set_option maxRecDepth 100000 in
theorem dX8_mixedClock_157 : decode cX8_mixedClock 157 = .ok (.i2l, 1) := by decide +kernel
set_option maxRecDepth 100000 in
theorem dX8_mixedClock_158 : decode cX8_mixedClock 158 = .ok (.invokestatic 323, 3) := by decide +kernel
set_option maxRecDepth 100000 in
theorem dX8_mixedClock_161 : decode cX8_mixedClock 161 = .ok (.lstore_n 1, 1) := by decide +kernel
set_option maxRecDepth 100000 in
theorem dX8_mixedClock_162 : decode cX8_mixedClock 162 = .ok (.iinc 5 1, 3) := by decide +kernel
set_option maxRecDepth 100000 in
theorem dX8_mixedClock_165 : decode cX8_mixedClock 165 = .ok (.goto (-28), 3) := by decide +kernel
set_option maxRecDepth 100000 in
theorem dX8_mixedClock_168 : decode cX8_mixedClock 168 = .ok (.iconst 0, 1) := by decide +kernel
set_option maxRecDepth 100000 in
theorem dX8_mixedClock_169 : decode cX8_mixedClock 169 = .ok (.istore 5, 2) := by decide +kernel
set_option maxRecDepth 100000 in
theorem dX8_mixedClock_171 : decode cX8_mixedClock 171 = .ok (.iload 5, 2) := by decide +kernel
set_option maxRecDepth 100000 in
theorem dX8_mixedClock_173 : decode cX8_mixedClock 173 = .ok (.iconst 3, 1) := by decide +kernel
set_option maxRecDepth 100000 in
theorem dX8_mixedClock_174 : decode cX8_mixedClock 174 = .ok (.if_icmp .gt 24, 3) := by decide +kernel
set_option maxRecDepth 100000 in
theorem dX8_mixedClock_177 : decode cX8_mixedClock 177 = .ok (.lload_n 1, 1) := by decide +kernel
set_option maxRecDepth 100000 in
theorem dX8_mixedClock_178 : decode cX8_mixedClock 178 = .ok (.aload_n 0, 1) := by decide +kernel
set_option maxRecDepth 100000 in
theorem dX8_mixedClock_179 : decode cX8_mixedClock 179 = .ok (.getfield 72, 3) := by decide +kernel
set_option maxRecDepth 100000 in
theorem dX8_mixedClock_182 : decode cX8_mixedClock 182 = .ok (.iload 5, 2) := by decide +kernel
set_option maxRecDepth 100000 in
theorem dX8_mixedClock_184 : decode cX8_mixedClock 184 = .ok (.invokevirtual 244, 3) := by decide +kernel
set_option maxRecDepth 100000 in
theorem dX8_mixedClock_187 : decode cX8_mixedClock 187 = .ok (.i2l, 1) := by decide +kernel
set_option maxRecDepth 100000 in
theorem dX8_mixedClock_188 : decode cX8_mixedClock 188 = .ok (.invokestatic 323, 3) := by decide +kernel
set_option maxRecDepth 100000 in
theorem dX8_mixedClock_191 : decode cX8_mixedClock 191 = .ok (.lstore_n 1, 1) := by decide +kernel
set_option maxRecDepth 100000 in
theorem dX8_mixedClock_192 : decode cX8_mixedClock 192 = .ok (.iinc 5 1, 3) := by decide +kernel
set_option maxRecDepth 100000 in
theorem dX8_mixedClock_195 : decode cX8_mixedClock 195 = .ok (.goto (-24), 3) := by decide +kernel
set_option maxRecDepth 100000 in
theorem dX8_mixedClock_198 : decode cX8_mixedClock 198 = .ok (.lload_n 1, 1) := by decide +kernel
set_option maxRecDepth 100000 in
theorem dX8_mixedClock_199 : decode cX8_mixedClock 199 = .ok (.lreturn, 1) := by decide +kernel
set_option maxRecDepth 100000 in
theorem dX8_mixedFault_0 : decode cX8_mixedFault 0 = .ok (.aload_n 2, 1) := by decide +kernel
set_option maxRecDepth 100000 in
theorem dX8_mixedFault_1 : decode cX8_mixedFault 1 = .ok (.ifnonnull 5, 3) := by decide +kernel
set_option maxRecDepth 100000 in
theorem dX8_mixedFault_4 : decode cX8_mixedFault 4 = .ok (.lload_n 0, 1) := by decide +kernel
set_option maxRecDepth 100000 in
theorem dX8_mixedFault_5 : decode cX8_mixedFault 5 = .ok (.lreturn, 1) := by decide +kernel
set_option maxRecDepth 100000 in
theorem dX8_mixedFault_6 : decode cX8_mixedFault 6 = .ok (.lload_n 0, 1) := by decide +kernel
set_option maxRecDepth 100000 in
theorem dX8_mixedFault_7 : decode cX8_mixedFault 7 = .ok (.aload_n 2, 1) := by decide +kernel
set_option maxRecDepth 100000 in
theorem dX8_mixedFault_8 : decode cX8_mixedFault 8 = .ok (.getfield 167, 3) := by decide +kernel
set_option maxRecDepth 100000 in
theorem dX8_mixedFault_11 : decode cX8_mixedFault 11 = .ok (.i2l, 1) := by decide +kernel
set_option maxRecDepth 100000 in
theorem dX8_mixedFault_12 : decode cX8_mixedFault 12 = .ok (.invokestatic 323, 3) := by decide +kernel
set_option maxRecDepth 100000 in
theorem dX8_mixedFault_15 : decode cX8_mixedFault 15 = .ok (.aload_n 2, 1) := by decide +kernel
set_option maxRecDepth 100000 in
theorem dX8_mixedFault_16 : decode cX8_mixedFault 16 = .ok (.getfield 350, 3) := by decide +kernel
set_option maxRecDepth 100000 in
theorem dX8_mixedFault_19 : decode cX8_mixedFault 19 = .ok (.i2l, 1) := by decide +kernel
set_option maxRecDepth 100000 in
theorem dX8_mixedFault_20 : decode cX8_mixedFault 20 = .ok (.invokestatic 323, 3) := by decide +kernel
set_option maxRecDepth 100000 in
theorem dX8_mixedFault_23 : decode cX8_mixedFault 23 = .ok (.aload_n 2, 1) := by decide +kernel
set_option maxRecDepth 100000 in
theorem dX8_mixedFault_24 : decode cX8_mixedFault 24 = .ok (.getfield 353, 3) := by decide +kernel
set_option maxRecDepth 100000 in
theorem dX8_mixedFault_27 : decode cX8_mixedFault 27 = .ok (.i2l, 1) := by decide +kernel
set_option maxRecDepth 100000 in
theorem dX8_mixedFault_28 : decode cX8_mixedFault 28 = .ok (.invokestatic 323, 3) := by decide +kernel
set_option maxRecDepth 100000 in
theorem dX8_mixedFault_31 : decode cX8_mixedFault 31 = .ok (.aload_n 2, 1) := by decide +kernel
set_option maxRecDepth 100000 in
theorem dX8_mixedFault_32 : decode cX8_mixedFault 32 = .ok (.getfield 356, 3) := by decide +kernel
set_option maxRecDepth 100000 in
theorem dX8_mixedFault_35 : decode cX8_mixedFault 35 = .ok (.i2l, 1) := by decide +kernel
set_option maxRecDepth 100000 in
theorem dX8_mixedFault_36 : decode cX8_mixedFault 36 = .ok (.invokestatic 323, 3) := by decide +kernel
set_option maxRecDepth 100000 in
theorem dX8_mixedFault_39 : decode cX8_mixedFault 39 = .ok (.lreturn, 1) := by decide +kernel
set_option maxRecDepth 100000 in
theorem dX8_mixedWork_0 : decode cX8_mixedWork 0 = .ok (.aload_n 2, 1) := by decide +kernel
set_option maxRecDepth 100000 in
theorem dX8_mixedWork_1 : decode cX8_mixedWork 1 = .ok (.ifnonnull 5, 3) := by decide +kernel
set_option maxRecDepth 100000 in
theorem dX8_mixedWork_4 : decode cX8_mixedWork 4 = .ok (.lload_n 0, 1) := by decide +kernel
set_option maxRecDepth 100000 in
theorem dX8_mixedWork_5 : decode cX8_mixedWork 5 = .ok (.lreturn, 1) := by decide +kernel
set_option maxRecDepth 100000 in
theorem dX8_mixedWork_6 : decode cX8_mixedWork 6 = .ok (.lload_n 0, 1) := by decide +kernel
set_option maxRecDepth 100000 in
theorem dX8_mixedWork_7 : decode cX8_mixedWork 7 = .ok (.aload_n 2, 1) := by decide +kernel
set_option maxRecDepth 100000 in
theorem dX8_mixedWork_8 : decode cX8_mixedWork 8 = .ok (.getfield 193, 3) := by decide +kernel
set_option maxRecDepth 100000 in
theorem dX8_mixedWork_11 : decode cX8_mixedWork 11 = .ok (.i2l, 1) := by decide +kernel
set_option maxRecDepth 100000 in
theorem dX8_mixedWork_12 : decode cX8_mixedWork 12 = .ok (.invokestatic 323, 3) := by decide +kernel
set_option maxRecDepth 100000 in
theorem dX8_mixedWork_15 : decode cX8_mixedWork 15 = .ok (.aload_n 2, 1) := by decide +kernel
set_option maxRecDepth 100000 in
theorem dX8_mixedWork_16 : decode cX8_mixedWork 16 = .ok (.getfield 359, 3) := by decide +kernel
set_option maxRecDepth 100000 in
theorem dX8_mixedWork_19 : decode cX8_mixedWork 19 = .ok (.i2l, 1) := by decide +kernel
set_option maxRecDepth 100000 in
theorem dX8_mixedWork_20 : decode cX8_mixedWork 20 = .ok (.invokestatic 323, 3) := by decide +kernel
set_option maxRecDepth 100000 in
theorem dX8_mixedWork_23 : decode cX8_mixedWork 23 = .ok (.aload_n 2, 1) := by decide +kernel
set_option maxRecDepth 100000 in
theorem dX8_mixedWork_24 : decode cX8_mixedWork 24 = .ok (.getfield 360, 3) := by decide +kernel
set_option maxRecDepth 100000 in
theorem dX8_mixedWork_27 : decode cX8_mixedWork 27 = .ok (.ifnonnull 9, 3) := by decide +kernel
set_option maxRecDepth 100000 in
theorem dX8_mixedWork_30 : decode cX8_mixedWork 30 = .ok (.ldc2_w 364, 3) := by decide +kernel
set_option maxRecDepth 100000 in
theorem dX8_mixedWork_33 : decode cX8_mixedWork 33 = .ok (.goto 11, 3) := by decide +kernel
set_option maxRecDepth 100000 in
theorem dX8_mixedWork_36 : decode cX8_mixedWork 36 = .ok (.aload_n 2, 1) := by decide +kernel
set_option maxRecDepth 100000 in
theorem dX8_mixedWork_37 : decode cX8_mixedWork 37 = .ok (.getfield 360, 3) := by decide +kernel
set_option maxRecDepth 100000 in
theorem dX8_mixedWork_40 : decode cX8_mixedWork 40 = .ok (.getfield 366, 3) := by decide +kernel
set_option maxRecDepth 100000 in
theorem dX8_mixedWork_43 : decode cX8_mixedWork 43 = .ok (.i2l, 1) := by decide +kernel
set_option maxRecDepth 100000 in
theorem dX8_mixedWork_44 : decode cX8_mixedWork 44 = .ok (.invokestatic 323, 3) := by decide +kernel
set_option maxRecDepth 100000 in
theorem dX8_mixedWork_47 : decode cX8_mixedWork 47 = .ok (.lreturn, 1) := by decide +kernel
set_option maxRecDepth 100000 in
theorem dX8_startRun_0 : decode cX8_startRun 0 = .ok (.aload_n 0, 1) := by decide +kernel
set_option maxRecDepth 100000 in
theorem dX8_startRun_1 : decode cX8_startRun 1 = .ok (.iload_n 1, 1) := by decide +kernel
set_option maxRecDepth 100000 in
theorem dX8_startRun_2 : decode cX8_startRun 2 = .ok (.invokevirtual 117, 3) := by decide +kernel
set_option maxRecDepth 100000 in
theorem dX8_startRun_5 : decode cX8_startRun 5 = .ok (.astore 4, 2) := by decide +kernel
set_option maxRecDepth 100000 in
theorem dX8_startRun_7 : decode cX8_startRun 7 = .ok (.iload_n 3, 1) := by decide +kernel
set_option maxRecDepth 100000 in
theorem dX8_startRun_8 : decode cX8_startRun 8 = .ok (.iconst (-1), 1) := by decide +kernel
set_option maxRecDepth 100000 in
theorem dX8_startRun_9 : decode cX8_startRun 9 = .ok (.if_icmp .ne 10, 3) := by decide +kernel
set_option maxRecDepth 100000 in
theorem dX8_startRun_12 : decode cX8_startRun 12 = .ok (.aload_n 0, 1) := by decide +kernel
set_option maxRecDepth 100000 in
theorem dX8_startRun_13 : decode cX8_startRun 13 = .ok (.getfield 50, 3) := by decide +kernel
set_option maxRecDepth 100000 in
theorem dX8_startRun_16 : decode cX8_startRun 16 = .ok (.goto 8, 3) := by decide +kernel
set_option maxRecDepth 100000 in
theorem dX8_startRun_19 : decode cX8_startRun 19 = .ok (.aload_n 0, 1) := by decide +kernel
set_option maxRecDepth 100000 in
theorem dX8_startRun_20 : decode cX8_startRun 20 = .ok (.iload_n 3, 1) := by decide +kernel
set_option maxRecDepth 100000 in
theorem dX8_startRun_21 : decode cX8_startRun 21 = .ok (.invokevirtual 163, 3) := by decide +kernel
set_option maxRecDepth 100000 in
theorem dX8_startRun_24 : decode cX8_startRun 24 = .ok (.astore 5, 2) := by decide +kernel
set_option maxRecDepth 100000 in
theorem dX8_startRun_26 : decode cX8_startRun 26 = .ok (.aload 4, 2) := by decide +kernel
set_option maxRecDepth 100000 in
theorem dX8_startRun_28 : decode cX8_startRun 28 = .ok (.ifnull 15, 3) := by decide +kernel
set_option maxRecDepth 100000 in
theorem dX8_startRun_31 : decode cX8_startRun 31 = .ok (.aload 5, 2) := by decide +kernel
set_option maxRecDepth 100000 in
theorem dX8_startRun_33 : decode cX8_startRun 33 = .ok (.ifnull 10, 3) := by decide +kernel
set_option maxRecDepth 100000 in
theorem dX8_startRun_36 : decode cX8_startRun 36 = .ok (.iload_n 2, 1) := by decide +kernel
set_option maxRecDepth 100000 in
theorem dX8_startRun_37 : decode cX8_startRun 37 = .ok (.invokestatic 136, 3) := by decide +kernel
set_option maxRecDepth 100000 in
theorem dX8_startRun_40 : decode cX8_startRun 40 = .ok (.ifCond .ne 5, 3) := by decide +kernel
set_option maxRecDepth 100000 in
theorem dX8_startRun_43 : decode cX8_startRun 43 = .ok (.iconst 0, 1) := by decide +kernel
set_option maxRecDepth 100000 in
theorem dX8_startRun_44 : decode cX8_startRun 44 = .ok (.ireturn, 1) := by decide +kernel
set_option maxRecDepth 100000 in
theorem dX8_startRun_45 : decode cX8_startRun 45 = .ok (.aload_n 0, 1) := by decide +kernel
set_option maxRecDepth 100000 in
theorem dX8_startRun_46 : decode cX8_startRun 46 = .ok (.getfield 62, 3) := by decide +kernel
set_option maxRecDepth 100000 in
theorem dX8_startRun_49 : decode cX8_startRun 49 = .ok (.aload 4, 2) := by decide +kernel
set_option maxRecDepth 100000 in
theorem dX8_startRun_51 : decode cX8_startRun 51 = .ok (.aload_n 0, 1) := by decide +kernel
set_option maxRecDepth 100000 in
theorem dX8_startRun_52 : decode cX8_startRun 52 = .ok (.iload_n 2, 1) := by decide +kernel
set_option maxRecDepth 100000 in
theorem dX8_startRun_53 : decode cX8_startRun 53 = .ok (.invokevirtual 258, 3) := by decide +kernel
set_option maxRecDepth 100000 in
theorem dX8_startRun_56 : decode cX8_startRun 56 = .ok (.aload 5, 2) := by decide +kernel
set_option maxRecDepth 100000 in
theorem dX8_startRun_58 : decode cX8_startRun 58 = .ok (.invokevirtual 261, 3) := by decide +kernel
set_option maxRecDepth 100000 in
theorem dX8_startRun_61 : decode cX8_startRun 61 = .ok (.iconst 1, 1) := by decide +kernel
set_option maxRecDepth 100000 in
theorem dX8_startRun_62 : decode cX8_startRun 62 = .ok (.ireturn, 1) := by decide +kernel
set_option maxRecDepth 100000 in
theorem dX8_playRun_0 : decode cX8_playRun 0 = .ok (.aload_n 0, 1) := by decide +kernel
set_option maxRecDepth 100000 in
theorem dX8_playRun_1 : decode cX8_playRun 1 = .ok (.aload_n 0, 1) := by decide +kernel
set_option maxRecDepth 100000 in
theorem dX8_playRun_2 : decode cX8_playRun 2 = .ok (.getfield 37, 3) := by decide +kernel
set_option maxRecDepth 100000 in
theorem dX8_playRun_5 : decode cX8_playRun 5 = .ok (.getfield 197, 3) := by decide +kernel
set_option maxRecDepth 100000 in
theorem dX8_playRun_8 : decode cX8_playRun 8 = .ok (.invokevirtual 186, 3) := by decide +kernel
set_option maxRecDepth 100000 in
theorem dX8_playRun_11 : decode cX8_playRun 11 = .ok (.astore_n 1, 1) := by decide +kernel
set_option maxRecDepth 100000 in
theorem dX8_playRun_12 : decode cX8_playRun 12 = .ok (.aload_n 0, 1) := by decide +kernel
set_option maxRecDepth 100000 in
theorem dX8_playRun_13 : decode cX8_playRun 13 = .ok (.getfield 72, 3) := by decide +kernel
set_option maxRecDepth 100000 in
theorem dX8_playRun_16 : decode cX8_playRun 16 = .ok (.invokevirtual 369, 3) := by decide +kernel
set_option maxRecDepth 100000 in
theorem dX8_playRun_19 : decode cX8_playRun 19 = .ok (.iconst 0, 1) := by decide +kernel
set_option maxRecDepth 100000 in
theorem dX8_playRun_20 : decode cX8_playRun 20 = .ok (.istore_n 2, 1) := by decide +kernel
set_option maxRecDepth 100000 in
theorem dX8_playRun_21 : decode cX8_playRun 21 = .ok (.iload_n 2, 1) := by decide +kernel
set_option maxRecDepth 100000 in
theorem dX8_playRun_22 : decode cX8_playRun 22 = .ok (.bipush 96, 2) := by decide +kernel
set_option maxRecDepth 100000 in
theorem dX8_playRun_24 : decode cX8_playRun 24 = .ok (.if_icmp .ge 42, 3) := by decide +kernel
set_option maxRecDepth 100000 in
theorem dX8_playRun_27 : decode cX8_playRun 27 = .ok (.aload_n 0, 1) := by decide +kernel
set_option maxRecDepth 100000 in
theorem dX8_playRun_28 : decode cX8_playRun 28 = .ok (.getfield 62, 3) := by decide +kernel
set_option maxRecDepth 100000 in
theorem dX8_playRun_31 : decode cX8_playRun 31 = .ok (.getfield 371, 3) := by decide +kernel
set_option maxRecDepth 100000 in
theorem dX8_playRun_34 : decode cX8_playRun 34 = .ok (.istore_n 3, 1) := by decide +kernel
set_option maxRecDepth 100000 in
theorem dX8_playRun_35 : decode cX8_playRun 35 = .ok (.aload_n 0, 1) := by decide +kernel
set_option maxRecDepth 100000 in
theorem dX8_playRun_36 : decode cX8_playRun 36 = .ok (.getfield 62, 3) := by decide +kernel
set_option maxRecDepth 100000 in
theorem dX8_playRun_39 : decode cX8_playRun 39 = .ok (.invokevirtual 374, 3) := by decide +kernel
set_option maxRecDepth 100000 in
theorem dX8_playRun_42 : decode cX8_playRun 42 = .ok (.aload_n 0, 1) := by decide +kernel
set_option maxRecDepth 100000 in
theorem dX8_playRun_43 : decode cX8_playRun 43 = .ok (.getfield 72, 3) := by decide +kernel
set_option maxRecDepth 100000 in
theorem dX8_playRun_46 : decode cX8_playRun 46 = .ok (.iload_n 2, 1) := by decide +kernel
set_option maxRecDepth 100000 in
theorem dX8_playRun_47 : decode cX8_playRun 47 = .ok (.aload_n 0, 1) := by decide +kernel
set_option maxRecDepth 100000 in
theorem dX8_playRun_48 : decode cX8_playRun 48 = .ok (.getfield 62, 3) := by decide +kernel
set_option maxRecDepth 100000 in
theorem dX8_playRun_51 : decode cX8_playRun 51 = .ok (.getfield 371, 3) := by decide +kernel
set_option maxRecDepth 100000 in
theorem dX8_playRun_54 : decode cX8_playRun 54 = .ok (.iload_n 3, 1) := by decide +kernel
set_option maxRecDepth 100000 in
theorem dX8_playRun_55 : decode cX8_playRun 55 = .ok (.isub, 1) := by decide +kernel
set_option maxRecDepth 100000 in
theorem dX8_playRun_56 : decode cX8_playRun 56 = .ok (.aload_n 1, 1) := by decide +kernel
set_option maxRecDepth 100000 in
theorem dX8_playRun_57 : decode cX8_playRun 57 = .ok (.invokevirtual 377, 3) := by decide +kernel
set_option maxRecDepth 100000 in
theorem dX8_playRun_60 : decode cX8_playRun 60 = .ok (.iinc 2 1, 3) := by decide +kernel
set_option maxRecDepth 100000 in
theorem dX8_playRun_63 : decode cX8_playRun 63 = .ok (.goto (-42), 3) := by decide +kernel
set_option maxRecDepth 100000 in
theorem dX8_playRun_66 : decode cX8_playRun 66 = .ok (.return_, 1) := by decide +kernel
set_option maxRecDepth 100000 in
theorem dX8_findWorst_0 : decode cX8_findWorst 0 = .ok (.aload_n 0, 1) := by decide +kernel
set_option maxRecDepth 100000 in
theorem dX8_findWorst_1 : decode cX8_findWorst 1 = .ok (.getfield 83, 3) := by decide +kernel
set_option maxRecDepth 100000 in
theorem dX8_findWorst_4 : decode cX8_findWorst 4 = .ok (.iconst 0, 1) := by decide +kernel
set_option maxRecDepth 100000 in
theorem dX8_findWorst_5 : decode cX8_findWorst 5 = .ok (.iconst (-1), 1) := by decide +kernel
set_option maxRecDepth 100000 in
theorem dX8_findWorst_6 : decode cX8_findWorst 6 = .ok (.iastore, 1) := by decide +kernel
set_option maxRecDepth 100000 in
theorem dX8_findWorst_7 : decode cX8_findWorst 7 = .ok (.iconst 0, 1) := by decide +kernel
set_option maxRecDepth 100000 in
theorem dX8_findWorst_8 : decode cX8_findWorst 8 = .ok (.istore_n 2, 1) := by decide +kernel
set_option maxRecDepth 100000 in
theorem dX8_findWorst_9 : decode cX8_findWorst 9 = .ok (.iload_n 2, 1) := by decide +kernel
set_option maxRecDepth 100000 in
theorem dX8_findWorst_10 : decode cX8_findWorst 10 = .ok (.iconst 4, 1) := by decide +kernel
set_option maxRecDepth 100000 in
theorem dX8_findWorst_11 : decode cX8_findWorst 11 = .ok (.if_icmp .ge 99, 3) := by decide +kernel
set_option maxRecDepth 100000 in
theorem dX8_findWorst_14 : decode cX8_findWorst 14 = .ok (.aload_n 0, 1) := by decide +kernel
set_option maxRecDepth 100000 in
theorem dX8_findWorst_15 : decode cX8_findWorst 15 = .ok (.getfield 62, 3) := by decide +kernel
set_option maxRecDepth 100000 in
theorem dX8_findWorst_18 : decode cX8_findWorst 18 = .ok (.aload_n 1, 1) := by decide +kernel
set_option maxRecDepth 100000 in
theorem dX8_findWorst_19 : decode cX8_findWorst 19 = .ok (.aload_n 0, 1) := by decide +kernel
set_option maxRecDepth 100000 in
theorem dX8_findWorst_20 : decode cX8_findWorst 20 = .ok (.iload_n 2, 1) := by decide +kernel
set_option maxRecDepth 100000 in
theorem dX8_findWorst_21 : decode cX8_findWorst 21 = .ok (.invokevirtual 258, 3) := by decide +kernel
set_option maxRecDepth 100000 in
theorem dX8_findWorst_24 : decode cX8_findWorst 24 = .ok (.aload_n 0, 1) := by decide +kernel
set_option maxRecDepth 100000 in
theorem dX8_findWorst_25 : decode cX8_findWorst 25 = .ok (.getfield 50, 3) := by decide +kernel
set_option maxRecDepth 100000 in
theorem dX8_findWorst_28 : decode cX8_findWorst 28 = .ok (.invokevirtual 261, 3) := by decide +kernel
set_option maxRecDepth 100000 in
theorem dX8_findWorst_31 : decode cX8_findWorst 31 = .ok (.aload_n 0, 1) := by decide +kernel
set_option maxRecDepth 100000 in
theorem dX8_findWorst_32 : decode cX8_findWorst 32 = .ok (.getfield 62, 3) := by decide +kernel
set_option maxRecDepth 100000 in
theorem dX8_findWorst_35 : decode cX8_findWorst 35 = .ok (.bipush 96, 2) := by decide +kernel
set_option maxRecDepth 100000 in
theorem dX8_findWorst_37 : decode cX8_findWorst 37 = .ok (.invokevirtual 209, 3) := by decide +kernel
set_option maxRecDepth 100000 in
theorem dX8_findWorst_40 : decode cX8_findWorst 40 = .ok (.iconst 0, 1) := by decide +kernel
set_option maxRecDepth 100000 in
theorem dX8_findWorst_41 : decode cX8_findWorst 41 = .ok (.istore_n 3, 1) := by decide +kernel
set_option maxRecDepth 100000 in
theorem dX8_findWorst_42 : decode cX8_findWorst 42 = .ok (.iload_n 3, 1) := by decide +kernel
set_option maxRecDepth 100000 in
theorem dX8_findWorst_43 : decode cX8_findWorst 43 = .ok (.aload_n 1, 1) := by decide +kernel
set_option maxRecDepth 100000 in
theorem dX8_findWorst_44 : decode cX8_findWorst 44 = .ok (.getfield 229, 3) := by decide +kernel
set_option maxRecDepth 100000 in
theorem dX8_findWorst_47 : decode cX8_findWorst 47 = .ok (.if_icmp .ge 57, 3) := by decide +kernel
set_option maxRecDepth 100000 in
theorem dX8_findWorst_50 : decode cX8_findWorst 50 = .ok (.aload_n 0, 1) := by decide +kernel
set_option maxRecDepth 100000 in
theorem dX8_findWorst_51 : decode cX8_findWorst 51 = .ok (.getfield 62, 3) := by decide +kernel
set_option maxRecDepth 100000 in
theorem dX8_findWorst_54 : decode cX8_findWorst 54 = .ok (.iload_n 3, 1) := by decide +kernel
set_option maxRecDepth 100000 in
theorem dX8_findWorst_55 : decode cX8_findWorst 55 = .ok (.aload_n 0, 1) := by decide +kernel
set_option maxRecDepth 100000 in
theorem dX8_findWorst_56 : decode cX8_findWorst 56 = .ok (.iload_n 2, 1) := by decide +kernel
set_option maxRecDepth 100000 in
theorem dX8_findWorst_57 : decode cX8_findWorst 57 = .ok (.invokevirtual 216, 3) := by decide +kernel
set_option maxRecDepth 100000 in
theorem dX8_findWorst_60 : decode cX8_findWorst 60 = .ok (.invokevirtual 232, 3) := by decide +kernel
set_option maxRecDepth 100000 in
theorem dX8_findWorst_63 : decode cX8_findWorst 63 = .ok (.istore 4, 2) := by decide +kernel
set_option maxRecDepth 100000 in
theorem dX8_findWorst_65 : decode cX8_findWorst 65 = .ok (.iload 4, 2) := by decide +kernel
set_option maxRecDepth 100000 in
theorem dX8_findWorst_67 : decode cX8_findWorst 67 = .ok (.aload_n 0, 1) := by decide +kernel
set_option maxRecDepth 100000 in
theorem dX8_findWorst_68 : decode cX8_findWorst 68 = .ok (.getfield 83, 3) := by decide +kernel
set_option maxRecDepth 100000 in
theorem dX8_findWorst_71 : decode cX8_findWorst 71 = .ok (.iconst 0, 1) := by decide +kernel
set_option maxRecDepth 100000 in
theorem dX8_findWorst_72 : decode cX8_findWorst 72 = .ok (.iaload, 1) := by decide +kernel
set_option maxRecDepth 100000 in
theorem dX8_findWorst_73 : decode cX8_findWorst 73 = .ok (.if_icmp .le 25, 3) := by decide +kernel
set_option maxRecDepth 100000 in
theorem dX8_findWorst_76 : decode cX8_findWorst 76 = .ok (.aload_n 0, 1) := by decide +kernel
set_option maxRecDepth 100000 in
theorem dX8_findWorst_77 : decode cX8_findWorst 77 = .ok (.getfield 83, 3) := by decide +kernel
set_option maxRecDepth 100000 in
theorem dX8_findWorst_80 : decode cX8_findWorst 80 = .ok (.iconst 0, 1) := by decide +kernel
set_option maxRecDepth 100000 in
theorem dX8_findWorst_81 : decode cX8_findWorst 81 = .ok (.iload 4, 2) := by decide +kernel
set_option maxRecDepth 100000 in
theorem dX8_findWorst_83 : decode cX8_findWorst 83 = .ok (.iastore, 1) := by decide +kernel
set_option maxRecDepth 100000 in
theorem dX8_findWorst_84 : decode cX8_findWorst 84 = .ok (.aload_n 0, 1) := by decide +kernel
set_option maxRecDepth 100000 in
theorem dX8_findWorst_85 : decode cX8_findWorst 85 = .ok (.getfield 83, 3) := by decide +kernel
set_option maxRecDepth 100000 in
theorem dX8_findWorst_88 : decode cX8_findWorst 88 = .ok (.iconst 1, 1) := by decide +kernel
set_option maxRecDepth 100000 in
theorem dX8_findWorst_89 : decode cX8_findWorst 89 = .ok (.iload_n 2, 1) := by decide +kernel
set_option maxRecDepth 100000 in
theorem dX8_findWorst_90 : decode cX8_findWorst 90 = .ok (.iastore, 1) := by decide +kernel
set_option maxRecDepth 100000 in
theorem dX8_findWorst_91 : decode cX8_findWorst 91 = .ok (.aload_n 0, 1) := by decide +kernel
set_option maxRecDepth 100000 in
theorem dX8_findWorst_92 : decode cX8_findWorst 92 = .ok (.getfield 83, 3) := by decide +kernel
set_option maxRecDepth 100000 in
theorem dX8_findWorst_95 : decode cX8_findWorst 95 = .ok (.iconst 2, 1) := by decide +kernel
set_option maxRecDepth 100000 in
theorem dX8_findWorst_96 : decode cX8_findWorst 96 = .ok (.iload_n 3, 1) := by decide +kernel
set_option maxRecDepth 100000 in
theorem dX8_findWorst_97 : decode cX8_findWorst 97 = .ok (.iastore, 1) := by decide +kernel
set_option maxRecDepth 100000 in
theorem dX8_findWorst_98 : decode cX8_findWorst 98 = .ok (.iinc 3 1, 3) := by decide +kernel
set_option maxRecDepth 100000 in
theorem dX8_findWorst_101 : decode cX8_findWorst 101 = .ok (.goto (-59), 3) := by decide +kernel
set_option maxRecDepth 100000 in
theorem dX8_findWorst_104 : decode cX8_findWorst 104 = .ok (.iinc 2 1, 3) := by decide +kernel
set_option maxRecDepth 100000 in
theorem dX8_findWorst_107 : decode cX8_findWorst 107 = .ok (.goto (-98), 3) := by decide +kernel
set_option maxRecDepth 100000 in
theorem dX8_findWorst_110 : decode cX8_findWorst 110 = .ok (.return_, 1) := by decide +kernel
set_option maxRecDepth 100000 in
theorem dX8_holdsInRun_0 : decode cX8_holdsInRun 0 = .ok (.aload_n 0, 1) := by decide +kernel
set_option maxRecDepth 100000 in
theorem dX8_holdsInRun_1 : decode cX8_holdsInRun 1 = .ok (.getfield 62, 3) := by decide +kernel
set_option maxRecDepth 100000 in
theorem dX8_holdsInRun_4 : decode cX8_holdsInRun 4 = .ok (.bipush 96, 2) := by decide +kernel
set_option maxRecDepth 100000 in
theorem dX8_holdsInRun_6 : decode cX8_holdsInRun 6 = .ok (.invokevirtual 209, 3) := by decide +kernel
set_option maxRecDepth 100000 in
theorem dX8_holdsInRun_9 : decode cX8_holdsInRun 9 = .ok (.aload_n 0, 1) := by decide +kernel
set_option maxRecDepth 100000 in
theorem dX8_holdsInRun_10 : decode cX8_holdsInRun 10 = .ok (.getfield 62, 3) := by decide +kernel
set_option maxRecDepth 100000 in
theorem dX8_holdsInRun_13 : decode cX8_holdsInRun 13 = .ok (.iload_n 1, 1) := by decide +kernel
set_option maxRecDepth 100000 in
theorem dX8_holdsInRun_14 : decode cX8_holdsInRun 14 = .ok (.invokevirtual 299, 3) := by decide +kernel
set_option maxRecDepth 100000 in
theorem dX8_holdsInRun_17 : decode cX8_holdsInRun 17 = .ok (.ifCond .eq 30, 3) := by decide +kernel
set_option maxRecDepth 100000 in
theorem dX8_holdsInRun_20 : decode cX8_holdsInRun 20 = .ok (.iload_n 2, 1) := by decide +kernel
set_option maxRecDepth 100000 in
theorem dX8_holdsInRun_21 : decode cX8_holdsInRun 21 = .ok (.aload_n 0, 1) := by decide +kernel
set_option maxRecDepth 100000 in
theorem dX8_holdsInRun_22 : decode cX8_holdsInRun 22 = .ok (.getfield 62, 3) := by decide +kernel
set_option maxRecDepth 100000 in
theorem dX8_holdsInRun_25 : decode cX8_holdsInRun 25 = .ok (.iload_n 1, 1) := by decide +kernel
set_option maxRecDepth 100000 in
theorem dX8_holdsInRun_26 : decode cX8_holdsInRun 26 = .ok (.invokevirtual 302, 3) := by decide +kernel
set_option maxRecDepth 100000 in
theorem dX8_holdsInRun_29 : decode cX8_holdsInRun 29 = .ok (.aload_n 0, 1) := by decide +kernel
set_option maxRecDepth 100000 in
theorem dX8_holdsInRun_30 : decode cX8_holdsInRun 30 = .ok (.getfield 62, 3) := by decide +kernel
set_option maxRecDepth 100000 in
theorem dX8_holdsInRun_33 : decode cX8_holdsInRun 33 = .ok (.iload_n 1, 1) := by decide +kernel
set_option maxRecDepth 100000 in
theorem dX8_holdsInRun_34 : decode cX8_holdsInRun 34 = .ok (.invokevirtual 305, 3) := by decide +kernel
set_option maxRecDepth 100000 in
theorem dX8_holdsInRun_37 : decode cX8_holdsInRun 37 = .ok (.invokestatic 121, 3) := by decide +kernel
set_option maxRecDepth 100000 in
theorem dX8_holdsInRun_40 : decode cX8_holdsInRun 40 = .ok (.ifCond .eq 7, 3) := by decide +kernel
set_option maxRecDepth 100000 in
theorem dX8_holdsInRun_43 : decode cX8_holdsInRun 43 = .ok (.iconst 1, 1) := by decide +kernel
set_option maxRecDepth 100000 in
theorem dX8_holdsInRun_44 : decode cX8_holdsInRun 44 = .ok (.goto 4, 3) := by decide +kernel
set_option maxRecDepth 100000 in
theorem dX8_holdsInRun_47 : decode cX8_holdsInRun 47 = .ok (.iconst 0, 1) := by decide +kernel
set_option maxRecDepth 100000 in
theorem dX8_holdsInRun_48 : decode cX8_holdsInRun 48 = .ok (.ireturn, 1) := by decide +kernel
set_option maxRecDepth 100000 in
theorem dX8_agreesFromHere_0 : decode cX8_agreesFromHere 0 = .ok (.aload_n 0, 1) := by decide +kernel
set_option maxRecDepth 100000 in
theorem dX8_agreesFromHere_1 : decode cX8_agreesFromHere 1 = .ok (.getfield 79, 3) := by decide +kernel
set_option maxRecDepth 100000 in
theorem dX8_agreesFromHere_4 : decode cX8_agreesFromHere 4 = .ok (.getfield 381, 3) := by decide +kernel
set_option maxRecDepth 100000 in
theorem dX8_agreesFromHere_7 : decode cX8_agreesFromHere 7 = .ok (.ifCond .eq 5, 3) := by decide +kernel
set_option maxRecDepth 100000 in
theorem dX8_agreesFromHere_10 : decode cX8_agreesFromHere 10 = .ok (.iconst 0, 1) := by decide +kernel
set_option maxRecDepth 100000 in
theorem dX8_agreesFromHere_11 : decode cX8_agreesFromHere 11 = .ok (.ireturn, 1) := by decide +kernel
set_option maxRecDepth 100000 in
theorem dX8_agreesFromHere_12 : decode cX8_agreesFromHere 12 = .ok (.aload_n 1, 1) := by decide +kernel
set_option maxRecDepth 100000 in
theorem dX8_agreesFromHere_13 : decode cX8_agreesFromHere 13 = .ok (.getfield 384, 3) := by decide +kernel
set_option maxRecDepth 100000 in
theorem dX8_agreesFromHere_16 : decode cX8_agreesFromHere 16 = .ok (.istore_n 2, 1) := by decide +kernel
set_option maxRecDepth 100000 in
theorem dX8_agreesFromHere_17 : decode cX8_agreesFromHere 17 = .ok (.iload_n 2, 1) := by decide +kernel
set_option maxRecDepth 100000 in
theorem dX8_agreesFromHere_18 : decode cX8_agreesFromHere 18 = .ok (.aload_n 0, 1) := by decide +kernel
set_option maxRecDepth 100000 in
theorem dX8_agreesFromHere_19 : decode cX8_agreesFromHere 19 = .ok (.getfield 79, 3) := by decide +kernel
set_option maxRecDepth 100000 in
theorem dX8_agreesFromHere_22 : decode cX8_agreesFromHere 22 = .ok (.getfield 387, 3) := by decide +kernel
set_option maxRecDepth 100000 in
theorem dX8_agreesFromHere_25 : decode cX8_agreesFromHere 25 = .ok (.if_icmp .gt 30, 3) := by decide +kernel
set_option maxRecDepth 100000 in
theorem dX8_agreesFromHere_28 : decode cX8_agreesFromHere 28 = .ok (.aload_n 1, 1) := by decide +kernel
set_option maxRecDepth 100000 in
theorem dX8_agreesFromHere_29 : decode cX8_agreesFromHere 29 = .ok (.invokevirtual 374, 3) := by decide +kernel
set_option maxRecDepth 100000 in
theorem dX8_agreesFromHere_32 : decode cX8_agreesFromHere 32 = .ok (.aload_n 0, 1) := by decide +kernel
set_option maxRecDepth 100000 in
theorem dX8_agreesFromHere_33 : decode cX8_agreesFromHere 33 = .ok (.getfield 79, 3) := by decide +kernel
set_option maxRecDepth 100000 in
theorem dX8_agreesFromHere_36 : decode cX8_agreesFromHere 36 = .ok (.iload_n 2, 1) := by decide +kernel
set_option maxRecDepth 100000 in
theorem dX8_agreesFromHere_37 : decode cX8_agreesFromHere 37 = .ok (.aload_n 1, 1) := by decide +kernel
set_option maxRecDepth 100000 in
theorem dX8_agreesFromHere_38 : decode cX8_agreesFromHere 38 = .ok (.getfield 371, 3) := by decide +kernel
set_option maxRecDepth 100000 in
theorem dX8_agreesFromHere_41 : decode cX8_agreesFromHere 41 = .ok (.invokevirtual 390, 3) := by decide +kernel
set_option maxRecDepth 100000 in
theorem dX8_agreesFromHere_44 : decode cX8_agreesFromHere 44 = .ok (.ifCond .ne 5, 3) := by decide +kernel
set_option maxRecDepth 100000 in
theorem dX8_agreesFromHere_47 : decode cX8_agreesFromHere 47 = .ok (.iconst 0, 1) := by decide +kernel
set_option maxRecDepth 100000 in
theorem dX8_agreesFromHere_48 : decode cX8_agreesFromHere 48 = .ok (.ireturn, 1) := by decide +kernel
set_option maxRecDepth 100000 in
theorem dX8_agreesFromHere_49 : decode cX8_agreesFromHere 49 = .ok (.iinc 2 1, 3) := by decide +kernel
set_option maxRecDepth 100000 in
theorem dX8_agreesFromHere_52 : decode cX8_agreesFromHere 52 = .ok (.goto (-35), 3) := by decide +kernel
set_option maxRecDepth 100000 in
theorem dX8_agreesFromHere_55 : decode cX8_agreesFromHere 55 = .ok (.iconst 1, 1) := by decide +kernel
set_option maxRecDepth 100000 in
theorem dX8_agreesFromHere_56 : decode cX8_agreesFromHere 56 = .ok (.ireturn, 1) := by decide +kernel
set_option maxRecDepth 100000 in
theorem dX8_seekFault_0 : decode cX8_seekFault 0 = .ok (.iconst 0, 1) := by decide +kernel
set_option maxRecDepth 100000 in
theorem dX8_seekFault_1 : decode cX8_seekFault 1 = .ok (.istore 4, 2) := by decide +kernel
set_option maxRecDepth 100000 in
theorem dX8_seekFault_3 : decode cX8_seekFault 3 = .ok (.iconst (-1), 1) := by decide +kernel
set_option maxRecDepth 100000 in
theorem dX8_seekFault_4 : decode cX8_seekFault 4 = .ok (.istore 5, 2) := by decide +kernel
set_option maxRecDepth 100000 in
theorem dX8_seekFault_6 : decode cX8_seekFault 6 = .ok (.iconst (-1), 1) := by decide +kernel
set_option maxRecDepth 100000 in
theorem dX8_seekFault_7 : decode cX8_seekFault 7 = .ok (.istore 6, 2) := by decide +kernel
set_option maxRecDepth 100000 in
theorem dX8_seekFault_9 : decode cX8_seekFault 9 = .ok (.iconst (-1), 1) := by decide +kernel
set_option maxRecDepth 100000 in
theorem dX8_seekFault_10 : decode cX8_seekFault 10 = .ok (.istore 7, 2) := by decide +kernel
set_option maxRecDepth 100000 in
theorem dX8_seekFault_12 : decode cX8_seekFault 12 = .ok (.aload_n 0, 1) := by decide +kernel
set_option maxRecDepth 100000 in
theorem dX8_seekFault_13 : decode cX8_seekFault 13 = .ok (.getfield 79, 3) := by decide +kernel
set_option maxRecDepth 100000 in
theorem dX8_seekFault_16 : decode cX8_seekFault 16 = .ok (.getfield 381, 3) := by decide +kernel
set_option maxRecDepth 100000 in
theorem dX8_seekFault_19 : decode cX8_seekFault 19 = .ok (.ifCond .ne 7, 3) := by decide +kernel
set_option maxRecDepth 100000 in
theorem dX8_seekFault_22 : decode cX8_seekFault 22 = .ok (.iconst 1, 1) := by decide +kernel
set_option maxRecDepth 100000 in
theorem dX8_seekFault_23 : decode cX8_seekFault 23 = .ok (.goto 4, 3) := by decide +kernel
set_option maxRecDepth 100000 in
theorem dX8_seekFault_26 : decode cX8_seekFault 26 = .ok (.iconst 0, 1) := by decide +kernel
set_option maxRecDepth 100000 in
theorem dX8_seekFault_27 : decode cX8_seekFault 27 = .ok (.istore 8, 2) := by decide +kernel
set_option maxRecDepth 100000 in
theorem dX8_seekFault_29 : decode cX8_seekFault 29 = .ok (.iconst 0, 1) := by decide +kernel
set_option maxRecDepth 100000 in
theorem dX8_seekFault_30 : decode cX8_seekFault 30 = .ok (.istore 9, 2) := by decide +kernel
set_option maxRecDepth 100000 in
theorem dX8_seekFault_32 : decode cX8_seekFault 32 = .ok (.iload 9, 2) := by decide +kernel
set_option maxRecDepth 100000 in
theorem dX8_seekFault_34 : decode cX8_seekFault 34 = .ok (.bipush 96, 2) := by decide +kernel
set_option maxRecDepth 100000 in
theorem dX8_seekFault_36 : decode cX8_seekFault 36 = .ok (.if_icmp .ge 147, 3) := by decide +kernel
set_option maxRecDepth 100000 in
theorem dX8_seekFault_39 : decode cX8_seekFault 39 = .ok (.iload 8, 2) := by decide +kernel
set_option maxRecDepth 100000 in
theorem dX8_seekFault_41 : decode cX8_seekFault 41 = .ok (.ifCond .eq 142, 3) := by decide +kernel
set_option maxRecDepth 100000 in
theorem dX8_seekFault_44 : decode cX8_seekFault 44 = .ok (.iconst 1, 1) := by decide +kernel
set_option maxRecDepth 100000 in
theorem dX8_seekFault_45 : decode cX8_seekFault 45 = .ok (.istore 10, 2) := by decide +kernel
set_option maxRecDepth 100000 in
theorem dX8_seekFault_47 : decode cX8_seekFault 47 = .ok (.iload 10, 2) := by decide +kernel
set_option maxRecDepth 100000 in
theorem dX8_seekFault_49 : decode cX8_seekFault 49 = .ok (.bipush 20, 2) := by decide +kernel
set_option maxRecDepth 100000 in
theorem dX8_seekFault_51 : decode cX8_seekFault 51 = .ok (.if_icmp .gt 81, 3) := by decide +kernel
set_option maxRecDepth 100000 in
theorem dX8_seekFault_54 : decode cX8_seekFault 54 = .ok (.aload_n 0, 1) := by decide +kernel
set_option maxRecDepth 100000 in
theorem dX8_seekFault_55 : decode cX8_seekFault 55 = .ok (.getfield 54, 3) := by decide +kernel
set_option maxRecDepth 100000 in
theorem dX8_seekFault_58 : decode cX8_seekFault 58 = .ok (.iload_n 1, 1) := by decide +kernel
set_option maxRecDepth 100000 in
theorem dX8_seekFault_59 : decode cX8_seekFault 59 = .ok (.iload_n 2, 1) := by decide +kernel
set_option maxRecDepth 100000 in
theorem dX8_seekFault_60 : decode cX8_seekFault 60 = .ok (.iload 10, 2) := by decide +kernel
set_option maxRecDepth 100000 in
theorem dX8_seekFault_62 : decode cX8_seekFault 62 = .ok (.iload 9, 2) := by decide +kernel
set_option maxRecDepth 100000 in
theorem dX8_seekFault_64 : decode cX8_seekFault 64 = .ok (.invokevirtual 159, 3) := by decide +kernel
set_option maxRecDepth 100000 in
theorem dX8_seekFault_67 : decode cX8_seekFault 67 = .ok (.aload_n 0, 1) := by decide +kernel
set_option maxRecDepth 100000 in
theorem dX8_seekFault_68 : decode cX8_seekFault 68 = .ok (.getfield 66, 3) := by decide +kernel
set_option maxRecDepth 100000 in
theorem dX8_seekFault_71 : decode cX8_seekFault 71 = .ok (.aload_n 0, 1) := by decide +kernel
set_option maxRecDepth 100000 in
theorem dX8_seekFault_72 : decode cX8_seekFault 72 = .ok (.getfield 62, 3) := by decide +kernel
set_option maxRecDepth 100000 in
theorem dX8_seekFault_75 : decode cX8_seekFault 75 = .ok (.aload_n 0, 1) := by decide +kernel
set_option maxRecDepth 100000 in
theorem dX8_seekFault_76 : decode cX8_seekFault 76 = .ok (.getfield 54, 3) := by decide +kernel
set_option maxRecDepth 100000 in
theorem dX8_seekFault_79 : decode cX8_seekFault 79 = .ok (.invokevirtual 393, 3) := by decide +kernel
set_option maxRecDepth 100000 in
theorem dX8_seekFault_82 : decode cX8_seekFault 82 = .ok (.aload_n 0, 1) := by decide +kernel
set_option maxRecDepth 100000 in
theorem dX8_seekFault_83 : decode cX8_seekFault 83 = .ok (.aload_n 0, 1) := by decide +kernel
set_option maxRecDepth 100000 in
theorem dX8_seekFault_84 : decode cX8_seekFault 84 = .ok (.getfield 66, 3) := by decide +kernel
set_option maxRecDepth 100000 in
theorem dX8_seekFault_87 : decode cX8_seekFault 87 = .ok (.invokevirtual 278, 3) := by decide +kernel
set_option maxRecDepth 100000 in
theorem dX8_seekFault_90 : decode cX8_seekFault 90 = .ok (.ifCond .eq 36, 3) := by decide +kernel
set_option maxRecDepth 100000 in
theorem dX8_seekFault_93 : decode cX8_seekFault 93 = .ok (.iinc 4 1, 3) := by decide +kernel
set_option maxRecDepth 100000 in
theorem dX8_seekFault_96 : decode cX8_seekFault 96 = .ok (.iload 7, 2) := by decide +kernel
set_option maxRecDepth 100000 in
theorem dX8_seekFault_98 : decode cX8_seekFault 98 = .ok (.iload 10, 2) := by decide +kernel
set_option maxRecDepth 100000 in
theorem dX8_seekFault_100 : decode cX8_seekFault 100 = .ok (.invokestatic 397, 3) := by decide +kernel
set_option maxRecDepth 100000 in
theorem dX8_seekFault_103 : decode cX8_seekFault 103 = .ok (.istore 7, 2) := by decide +kernel
set_option maxRecDepth 100000 in
theorem dX8_seekFault_105 : decode cX8_seekFault 105 = .ok (.iload 5, 2) := by decide +kernel
set_option maxRecDepth 100000 in
theorem dX8_seekFault_107 : decode cX8_seekFault 107 = .ok (.iconst (-1), 1) := by decide +kernel
set_option maxRecDepth 100000 in
theorem dX8_seekFault_108 : decode cX8_seekFault 108 = .ok (.if_icmp .eq 10, 3) := by decide +kernel
set_option maxRecDepth 100000 in
theorem dX8_seekFault_111 : decode cX8_seekFault 111 = .ok (.iload 10, 2) := by decide +kernel
set_option maxRecDepth 100000 in
theorem dX8_seekFault_113 : decode cX8_seekFault 113 = .ok (.iload 5, 2) := by decide +kernel
set_option maxRecDepth 100000 in
theorem dX8_seekFault_115 : decode cX8_seekFault 115 = .ok (.if_icmp .ge 11, 3) := by decide +kernel
set_option maxRecDepth 100000 in
theorem dX8_seekFault_118 : decode cX8_seekFault 118 = .ok (.iload 10, 2) := by decide +kernel
set_option maxRecDepth 100000 in
theorem dX8_seekFault_120 : decode cX8_seekFault 120 = .ok (.istore 5, 2) := by decide +kernel
set_option maxRecDepth 100000 in
theorem dX8_seekFault_122 : decode cX8_seekFault 122 = .ok (.iload 9, 2) := by decide +kernel
set_option maxRecDepth 100000 in
theorem dX8_seekFault_124 : decode cX8_seekFault 124 = .ok (.istore 6, 2) := by decide +kernel
set_option maxRecDepth 100000 in
theorem dX8_seekFault_126 : decode cX8_seekFault 126 = .ok (.iinc 10 1, 3) := by decide +kernel
set_option maxRecDepth 100000 in
theorem dX8_seekFault_129 : decode cX8_seekFault 129 = .ok (.goto (-82), 3) := by decide +kernel
set_option maxRecDepth 100000 in
theorem dX8_seekFault_132 : decode cX8_seekFault 132 = .ok (.aload_n 0, 1) := by decide +kernel
set_option maxRecDepth 100000 in
theorem dX8_seekFault_133 : decode cX8_seekFault 133 = .ok (.getfield 62, 3) := by decide +kernel
set_option maxRecDepth 100000 in
theorem dX8_seekFault_136 : decode cX8_seekFault 136 = .ok (.invokevirtual 374, 3) := by decide +kernel
set_option maxRecDepth 100000 in
theorem dX8_seekFault_139 : decode cX8_seekFault 139 = .ok (.iload 9, 2) := by decide +kernel
set_option maxRecDepth 100000 in
theorem dX8_seekFault_141 : decode cX8_seekFault 141 = .ok (.aload_n 0, 1) := by decide +kernel
set_option maxRecDepth 100000 in
theorem dX8_seekFault_142 : decode cX8_seekFault 142 = .ok (.getfield 79, 3) := by decide +kernel
set_option maxRecDepth 100000 in
theorem dX8_seekFault_145 : decode cX8_seekFault 145 = .ok (.getfield 387, 3) := by decide +kernel
set_option maxRecDepth 100000 in
theorem dX8_seekFault_148 : decode cX8_seekFault 148 = .ok (.if_icmp .gt 22, 3) := by decide +kernel
set_option maxRecDepth 100000 in
theorem dX8_seekFault_151 : decode cX8_seekFault 151 = .ok (.aload_n 0, 1) := by decide +kernel
set_option maxRecDepth 100000 in
theorem dX8_seekFault_152 : decode cX8_seekFault 152 = .ok (.getfield 79, 3) := by decide +kernel
set_option maxRecDepth 100000 in
theorem dX8_seekFault_155 : decode cX8_seekFault 155 = .ok (.iload 9, 2) := by decide +kernel
set_option maxRecDepth 100000 in
theorem dX8_seekFault_157 : decode cX8_seekFault 157 = .ok (.aload_n 0, 1) := by decide +kernel
set_option maxRecDepth 100000 in
theorem dX8_seekFault_158 : decode cX8_seekFault 158 = .ok (.getfield 62, 3) := by decide +kernel
set_option maxRecDepth 100000 in
theorem dX8_seekFault_161 : decode cX8_seekFault 161 = .ok (.getfield 371, 3) := by decide +kernel
set_option maxRecDepth 100000 in
theorem dX8_seekFault_164 : decode cX8_seekFault 164 = .ok (.invokevirtual 390, 3) := by decide +kernel
set_option maxRecDepth 100000 in
theorem dX8_seekFault_167 : decode cX8_seekFault 167 = .ok (.ifCond .eq 7, 3) := by decide +kernel
set_option maxRecDepth 100000 in
theorem dX8_seekFault_170 : decode cX8_seekFault 170 = .ok (.iconst 1, 1) := by decide +kernel
set_option maxRecDepth 100000 in
theorem dX8_seekFault_171 : decode cX8_seekFault 171 = .ok (.goto 4, 3) := by decide +kernel
set_option maxRecDepth 100000 in
theorem dX8_seekFault_174 : decode cX8_seekFault 174 = .ok (.iconst 0, 1) := by decide +kernel
set_option maxRecDepth 100000 in
theorem dX8_seekFault_175 : decode cX8_seekFault 175 = .ok (.istore 8, 2) := by decide +kernel
set_option maxRecDepth 100000 in
theorem dX8_seekFault_177 : decode cX8_seekFault 177 = .ok (.iinc 9 1, 3) := by decide +kernel
set_option maxRecDepth 100000 in
theorem dX8_seekFault_180 : decode cX8_seekFault 180 = .ok (.goto (-148), 3) := by decide +kernel
set_option maxRecDepth 100000 in
theorem dX8_seekFault_183 : decode cX8_seekFault 183 = .ok (.iload_n 3, 1) := by decide +kernel
set_option maxRecDepth 100000 in
theorem dX8_seekFault_184 : decode cX8_seekFault 184 = .ok (.tableswitch 37 0 2 #[28, 31, 34], 28) := by decide +kernel
set_option maxRecDepth 100000 in
theorem dX8_seekFault_212 : decode cX8_seekFault 212 = .ok (.iload 4, 2) := by decide +kernel
set_option maxRecDepth 100000 in
theorem dX8_seekFault_214 : decode cX8_seekFault 214 = .ok (.ireturn, 1) := by decide +kernel
set_option maxRecDepth 100000 in
theorem dX8_seekFault_215 : decode cX8_seekFault 215 = .ok (.iload 5, 2) := by decide +kernel
set_option maxRecDepth 100000 in
theorem dX8_seekFault_217 : decode cX8_seekFault 217 = .ok (.ireturn, 1) := by decide +kernel
set_option maxRecDepth 100000 in
theorem dX8_seekFault_218 : decode cX8_seekFault 218 = .ok (.iload 6, 2) := by decide +kernel
set_option maxRecDepth 100000 in
theorem dX8_seekFault_220 : decode cX8_seekFault 220 = .ok (.ireturn, 1) := by decide +kernel
set_option maxRecDepth 100000 in
theorem dX8_seekFault_221 : decode cX8_seekFault 221 = .ok (.iload 7, 2) := by decide +kernel
set_option maxRecDepth 100000 in
theorem dX8_seekFault_223 : decode cX8_seekFault 223 = .ok (.ireturn, 1) := by decide +kernel
set_option maxRecDepth 100000 in
theorem dX8_seekClock_0 : decode cX8_seekClock 0 = .ok (.iconst 0, 1) := by decide +kernel
set_option maxRecDepth 100000 in
theorem dX8_seekClock_1 : decode cX8_seekClock 1 = .ok (.istore 4, 2) := by decide +kernel
set_option maxRecDepth 100000 in
theorem dX8_seekClock_3 : decode cX8_seekClock 3 = .ok (.iconst (-1), 1) := by decide +kernel
set_option maxRecDepth 100000 in
theorem dX8_seekClock_4 : decode cX8_seekClock 4 = .ok (.istore 5, 2) := by decide +kernel
set_option maxRecDepth 100000 in
theorem dX8_seekClock_6 : decode cX8_seekClock 6 = .ok (.iconst (-1), 1) := by decide +kernel
set_option maxRecDepth 100000 in
theorem dX8_seekClock_7 : decode cX8_seekClock 7 = .ok (.istore 6, 2) := by decide +kernel
set_option maxRecDepth 100000 in
theorem dX8_seekClock_9 : decode cX8_seekClock 9 = .ok (.iconst 1, 1) := by decide +kernel
set_option maxRecDepth 100000 in
theorem dX8_seekClock_10 : decode cX8_seekClock 10 = .ok (.istore 7, 2) := by decide +kernel
set_option maxRecDepth 100000 in
theorem dX8_seekClock_12 : decode cX8_seekClock 12 = .ok (.iload 7, 2) := by decide +kernel
set_option maxRecDepth 100000 in
theorem dX8_seekClock_14 : decode cX8_seekClock 14 = .ok (.bipush 40, 2) := by decide +kernel
set_option maxRecDepth 100000 in
theorem dX8_seekClock_16 : decode cX8_seekClock 16 = .ok (.if_icmp .gt 80, 3) := by decide +kernel
set_option maxRecDepth 100000 in
theorem dX8_seekClock_19 : decode cX8_seekClock 19 = .ok (.iconst 0, 1) := by decide +kernel
set_option maxRecDepth 100000 in
theorem dX8_seekClock_20 : decode cX8_seekClock 20 = .ok (.istore 8, 2) := by decide +kernel
set_option maxRecDepth 100000 in
theorem dX8_seekClock_22 : decode cX8_seekClock 22 = .ok (.iload 8, 2) := by decide +kernel
set_option maxRecDepth 100000 in
theorem dX8_seekClock_24 : decode cX8_seekClock 24 = .ok (.bipush 60, 2) := by decide +kernel
set_option maxRecDepth 100000 in
theorem dX8_seekClock_26 : decode cX8_seekClock 26 = .ok (.if_icmp .gt 64, 3) := by decide +kernel
set_option maxRecDepth 100000 in
theorem dX8_seekClock_29 : decode cX8_seekClock 29 = .ok (.aload_n 0, 1) := by decide +kernel
set_option maxRecDepth 100000 in
theorem dX8_seekClock_30 : decode cX8_seekClock 30 = .ok (.getfield 45, 3) := by decide +kernel
set_option maxRecDepth 100000 in
theorem dX8_seekClock_33 : decode cX8_seekClock 33 = .ok (.iload_n 2, 1) := by decide +kernel
set_option maxRecDepth 100000 in
theorem dX8_seekClock_34 : decode cX8_seekClock 34 = .ok (.iload 7, 2) := by decide +kernel
set_option maxRecDepth 100000 in
theorem dX8_seekClock_36 : decode cX8_seekClock 36 = .ok (.iload 8, 2) := by decide +kernel
set_option maxRecDepth 100000 in
theorem dX8_seekClock_38 : decode cX8_seekClock 38 = .ok (.invokevirtual 402, 3) := by decide +kernel
set_option maxRecDepth 100000 in
theorem dX8_seekClock_41 : decode cX8_seekClock 41 = .ok (.aload_n 0, 1) := by decide +kernel
set_option maxRecDepth 100000 in
theorem dX8_seekClock_42 : decode cX8_seekClock 42 = .ok (.getfield 62, 3) := by decide +kernel
set_option maxRecDepth 100000 in
theorem dX8_seekClock_45 : decode cX8_seekClock 45 = .ok (.aload_n 0, 1) := by decide +kernel
set_option maxRecDepth 100000 in
theorem dX8_seekClock_46 : decode cX8_seekClock 46 = .ok (.getfield 45, 3) := by decide +kernel
set_option maxRecDepth 100000 in
theorem dX8_seekClock_49 : decode cX8_seekClock 49 = .ok (.iload_n 1, 1) := by decide +kernel
set_option maxRecDepth 100000 in
theorem dX8_seekClock_50 : decode cX8_seekClock 50 = .ok (.aload_n 0, 1) := by decide +kernel
set_option maxRecDepth 100000 in
theorem dX8_seekClock_51 : decode cX8_seekClock 51 = .ok (.getfield 50, 3) := by decide +kernel
set_option maxRecDepth 100000 in
theorem dX8_seekClock_54 : decode cX8_seekClock 54 = .ok (.invokevirtual 261, 3) := by decide +kernel
set_option maxRecDepth 100000 in
theorem dX8_seekClock_57 : decode cX8_seekClock 57 = .ok (.aload_n 0, 1) := by decide +kernel
set_option maxRecDepth 100000 in
theorem dX8_seekClock_58 : decode cX8_seekClock 58 = .ok (.aload_n 0, 1) := by decide +kernel
set_option maxRecDepth 100000 in
theorem dX8_seekClock_59 : decode cX8_seekClock 59 = .ok (.getfield 62, 3) := by decide +kernel
set_option maxRecDepth 100000 in
theorem dX8_seekClock_62 : decode cX8_seekClock 62 = .ok (.invokevirtual 278, 3) := by decide +kernel
set_option maxRecDepth 100000 in
theorem dX8_seekClock_65 : decode cX8_seekClock 65 = .ok (.ifCond .eq 19, 3) := by decide +kernel
set_option maxRecDepth 100000 in
theorem dX8_seekClock_68 : decode cX8_seekClock 68 = .ok (.iload 4, 2) := by decide +kernel
set_option maxRecDepth 100000 in
theorem dX8_seekClock_70 : decode cX8_seekClock 70 = .ok (.ifCond .ne 11, 3) := by decide +kernel
set_option maxRecDepth 100000 in
theorem dX8_seekClock_73 : decode cX8_seekClock 73 = .ok (.iload 7, 2) := by decide +kernel
set_option maxRecDepth 100000 in
theorem dX8_seekClock_75 : decode cX8_seekClock 75 = .ok (.istore 5, 2) := by decide +kernel
set_option maxRecDepth 100000 in
theorem dX8_seekClock_77 : decode cX8_seekClock 77 = .ok (.iload 8, 2) := by decide +kernel
set_option maxRecDepth 100000 in
theorem dX8_seekClock_79 : decode cX8_seekClock 79 = .ok (.istore 6, 2) := by decide +kernel
set_option maxRecDepth 100000 in
theorem dX8_seekClock_81 : decode cX8_seekClock 81 = .ok (.iinc 4 1, 3) := by decide +kernel
set_option maxRecDepth 100000 in
theorem dX8_seekClock_84 : decode cX8_seekClock 84 = .ok (.iinc 8 1, 3) := by decide +kernel
set_option maxRecDepth 100000 in
theorem dX8_seekClock_87 : decode cX8_seekClock 87 = .ok (.goto (-65), 3) := by decide +kernel
set_option maxRecDepth 100000 in
theorem dX8_seekClock_90 : decode cX8_seekClock 90 = .ok (.iinc 7 1, 3) := by decide +kernel
set_option maxRecDepth 100000 in
theorem dX8_seekClock_93 : decode cX8_seekClock 93 = .ok (.goto (-81), 3) := by decide +kernel
set_option maxRecDepth 100000 in
theorem dX8_seekClock_96 : decode cX8_seekClock 96 = .ok (.iload_n 3, 1) := by decide +kernel
set_option maxRecDepth 100000 in
theorem dX8_seekClock_97 : decode cX8_seekClock 97 = .ok (.lookupswitch 33 #[(0, 27), (1, 30)], 27) := by decide +kernel
set_option maxRecDepth 100000 in
theorem dX8_seekClock_124 : decode cX8_seekClock 124 = .ok (.iload 4, 2) := by decide +kernel
set_option maxRecDepth 100000 in
theorem dX8_seekClock_126 : decode cX8_seekClock 126 = .ok (.ireturn, 1) := by decide +kernel
set_option maxRecDepth 100000 in
theorem dX8_seekClock_127 : decode cX8_seekClock 127 = .ok (.iload 5, 2) := by decide +kernel
set_option maxRecDepth 100000 in
theorem dX8_seekClock_129 : decode cX8_seekClock 129 = .ok (.ireturn, 1) := by decide +kernel
set_option maxRecDepth 100000 in
theorem dX8_seekClock_130 : decode cX8_seekClock 130 = .ok (.iload 6, 2) := by decide +kernel
set_option maxRecDepth 100000 in
theorem dX8_seekClock_132 : decode cX8_seekClock 132 = .ok (.ireturn, 1) := by decide +kernel
set_option maxRecDepth 100000 in
theorem dX8_isIn_0 : decode cX8_isIn 0 = .ok (.iload_n 0, 1) := by decide +kernel
set_option maxRecDepth 100000 in
theorem dX8_isIn_1 : decode cX8_isIn 1 = .ok (.iload_n 1, 1) := by decide +kernel
set_option maxRecDepth 100000 in
theorem dX8_isIn_2 : decode cX8_isIn 2 = .ok (.if_icmp .lt 12, 3) := by decide +kernel
set_option maxRecDepth 100000 in
theorem dX8_isIn_5 : decode cX8_isIn 5 = .ok (.iload_n 0, 1) := by decide +kernel
set_option maxRecDepth 100000 in
theorem dX8_isIn_6 : decode cX8_isIn 6 = .ok (.iload_n 2, 1) := by decide +kernel
set_option maxRecDepth 100000 in
theorem dX8_isIn_7 : decode cX8_isIn 7 = .ok (.if_icmp .gt 7, 3) := by decide +kernel
set_option maxRecDepth 100000 in
theorem dX8_isIn_10 : decode cX8_isIn 10 = .ok (.iconst 1, 1) := by decide +kernel
set_option maxRecDepth 100000 in
theorem dX8_isIn_11 : decode cX8_isIn 11 = .ok (.goto 4, 3) := by decide +kernel
set_option maxRecDepth 100000 in
theorem dX8_isIn_14 : decode cX8_isIn 14 = .ok (.iconst 0, 1) := by decide +kernel
set_option maxRecDepth 100000 in
theorem dX8_isIn_15 : decode cX8_isIn 15 = .ok (.ireturn, 1) := by decide +kernel
set_option maxRecDepth 100000 in
theorem dX8_isSeason_0 : decode cX8_isSeason 0 = .ok (.iload_n 0, 1) := by decide +kernel
set_option maxRecDepth 100000 in
theorem dX8_isSeason_1 : decode cX8_isSeason 1 = .ok (.iconst 0, 1) := by decide +kernel
set_option maxRecDepth 100000 in
theorem dX8_isSeason_2 : decode cX8_isSeason 2 = .ok (.iconst 3, 1) := by decide +kernel
set_option maxRecDepth 100000 in
theorem dX8_isSeason_3 : decode cX8_isSeason 3 = .ok (.invokestatic 121, 3) := by decide +kernel
set_option maxRecDepth 100000 in
theorem dX8_isSeason_6 : decode cX8_isSeason 6 = .ok (.ireturn, 1) := by decide +kernel
set_option maxRecDepth 100000 in
theorem dX8_isTick_0 : decode cX8_isTick 0 = .ok (.iload_n 0, 1) := by decide +kernel
set_option maxRecDepth 100000 in
theorem dX8_isTick_1 : decode cX8_isTick 1 = .ok (.iconst 0, 1) := by decide +kernel
set_option maxRecDepth 100000 in
theorem dX8_isTick_2 : decode cX8_isTick 2 = .ok (.bipush 95, 2) := by decide +kernel
set_option maxRecDepth 100000 in
theorem dX8_isTick_4 : decode cX8_isTick 4 = .ok (.invokestatic 121, 3) := by decide +kernel
set_option maxRecDepth 100000 in
theorem dX8_isTick_7 : decode cX8_isTick 7 = .ok (.ireturn, 1) := by decide +kernel
set_option maxRecDepth 100000 in
theorem dX8_isKind_0 : decode cX8_isKind 0 = .ok (.iload_n 0, 1) := by decide +kernel
set_option maxRecDepth 100000 in
theorem dX8_isKind_1 : decode cX8_isKind 1 = .ok (.iconst 0, 1) := by decide +kernel
set_option maxRecDepth 100000 in
theorem dX8_isKind_2 : decode cX8_isKind 2 = .ok (.iconst 4, 1) := by decide +kernel
set_option maxRecDepth 100000 in
theorem dX8_isKind_3 : decode cX8_isKind 3 = .ok (.invokestatic 121, 3) := by decide +kernel
set_option maxRecDepth 100000 in
theorem dX8_isKind_6 : decode cX8_isKind 6 = .ok (.ireturn, 1) := by decide +kernel
set_option maxRecDepth 100000 in
theorem dX8_isWorkOrNone_0 : decode cX8_isWorkOrNone 0 = .ok (.iload_n 1, 1) := by decide +kernel
set_option maxRecDepth 100000 in
theorem dX8_isWorkOrNone_1 : decode cX8_isWorkOrNone 1 = .ok (.iconst (-1), 1) := by decide +kernel
set_option maxRecDepth 100000 in
theorem dX8_isWorkOrNone_2 : decode cX8_isWorkOrNone 2 = .ok (.aload_n 0, 1) := by decide +kernel
set_option maxRecDepth 100000 in
theorem dX8_isWorkOrNone_3 : decode cX8_isWorkOrNone 3 = .ok (.getfield 183, 3) := by decide +kernel
set_option maxRecDepth 100000 in
theorem dX8_isWorkOrNone_6 : decode cX8_isWorkOrNone 6 = .ok (.iconst 1, 1) := by decide +kernel
set_option maxRecDepth 100000 in
theorem dX8_isWorkOrNone_7 : decode cX8_isWorkOrNone 7 = .ok (.isub, 1) := by decide +kernel
set_option maxRecDepth 100000 in
theorem dX8_isWorkOrNone_8 : decode cX8_isWorkOrNone 8 = .ok (.invokestatic 121, 3) := by decide +kernel
set_option maxRecDepth 100000 in
theorem dX8_isWorkOrNone_11 : decode cX8_isWorkOrNone 11 = .ok (.ireturn, 1) := by decide +kernel
set_option maxRecDepth 100000 in
theorem dX8_isBallOrNone_0 : decode cX8_isBallOrNone 0 = .ok (.iload_n 1, 1) := by decide +kernel
set_option maxRecDepth 100000 in
theorem dX8_isBallOrNone_1 : decode cX8_isBallOrNone 1 = .ok (.iconst (-1), 1) := by decide +kernel
set_option maxRecDepth 100000 in
theorem dX8_isBallOrNone_2 : decode cX8_isBallOrNone 2 = .ok (.if_icmp .eq 11, 3) := by decide +kernel
set_option maxRecDepth 100000 in
theorem dX8_isBallOrNone_5 : decode cX8_isBallOrNone 5 = .ok (.aload_n 0, 1) := by decide +kernel
set_option maxRecDepth 100000 in
theorem dX8_isBallOrNone_6 : decode cX8_isBallOrNone 6 = .ok (.iload_n 1, 1) := by decide +kernel
set_option maxRecDepth 100000 in
theorem dX8_isBallOrNone_7 : decode cX8_isBallOrNone 7 = .ok (.invokevirtual 206, 3) := by decide +kernel
set_option maxRecDepth 100000 in
theorem dX8_isBallOrNone_10 : decode cX8_isBallOrNone 10 = .ok (.ifCond .eq 7, 3) := by decide +kernel
set_option maxRecDepth 100000 in
theorem dX8_isBallOrNone_13 : decode cX8_isBallOrNone 13 = .ok (.iconst 1, 1) := by decide +kernel
set_option maxRecDepth 100000 in
theorem dX8_isBallOrNone_14 : decode cX8_isBallOrNone 14 = .ok (.goto 4, 3) := by decide +kernel
set_option maxRecDepth 100000 in
theorem dX8_isBallOrNone_17 : decode cX8_isBallOrNone 17 = .ok (.iconst 0, 1) := by decide +kernel
set_option maxRecDepth 100000 in
theorem dX8_isBallOrNone_18 : decode cX8_isBallOrNone 18 = .ok (.ireturn, 1) := by decide +kernel
set_option maxRecDepth 100000 in
theorem dX8_clockOf_0 : decode cX8_clockOf 0 = .ok (.iload_n 1, 1) := by decide +kernel
set_option maxRecDepth 100000 in
theorem dX8_clockOf_1 : decode cX8_clockOf 1 = .ok (.iconst 0, 1) := by decide +kernel
set_option maxRecDepth 100000 in
theorem dX8_clockOf_2 : decode cX8_clockOf 2 = .ok (.aload_n 0, 1) := by decide +kernel
set_option maxRecDepth 100000 in
theorem dX8_clockOf_3 : decode cX8_clockOf 3 = .ok (.getfield 110, 3) := by decide +kernel
set_option maxRecDepth 100000 in
theorem dX8_clockOf_6 : decode cX8_clockOf 6 = .ok (.iconst 1, 1) := by decide +kernel
set_option maxRecDepth 100000 in
theorem dX8_clockOf_7 : decode cX8_clockOf 7 = .ok (.isub, 1) := by decide +kernel
set_option maxRecDepth 100000 in
theorem dX8_clockOf_8 : decode cX8_clockOf 8 = .ok (.invokestatic 121, 3) := by decide +kernel
set_option maxRecDepth 100000 in
theorem dX8_clockOf_11 : decode cX8_clockOf 11 = .ok (.ifCond .eq 17, 3) := by decide +kernel
set_option maxRecDepth 100000 in
theorem dX8_clockOf_14 : decode cX8_clockOf 14 = .ok (.iload_n 1, 1) := by decide +kernel
set_option maxRecDepth 100000 in
theorem dX8_clockOf_15 : decode cX8_clockOf 15 = .ok (.iconst 4, 1) := by decide +kernel
set_option maxRecDepth 100000 in
theorem dX8_clockOf_16 : decode cX8_clockOf 16 = .ok (.if_icmp .ge 12, 3) := by decide +kernel
set_option maxRecDepth 100000 in
theorem dX8_clockOf_19 : decode cX8_clockOf 19 = .ok (.aload_n 0, 1) := by decide +kernel
set_option maxRecDepth 100000 in
theorem dX8_clockOf_20 : decode cX8_clockOf 20 = .ok (.getfield 11, 3) := by decide +kernel
set_option maxRecDepth 100000 in
theorem dX8_clockOf_23 : decode cX8_clockOf 23 = .ok (.iload_n 1, 1) := by decide +kernel
set_option maxRecDepth 100000 in
theorem dX8_clockOf_24 : decode cX8_clockOf 24 = .ok (.aaload, 1) := by decide +kernel
set_option maxRecDepth 100000 in
theorem dX8_clockOf_25 : decode cX8_clockOf 25 = .ok (.goto 4, 3) := by decide +kernel
set_option maxRecDepth 100000 in
theorem dX8_clockOf_28 : decode cX8_clockOf 28 = .ok (.aconst_null, 1) := by decide +kernel
set_option maxRecDepth 100000 in
theorem dX8_clockOf_29 : decode cX8_clockOf 29 = .ok (.areturn, 1) := by decide +kernel
set_option maxRecDepth 100000 in
theorem dX8_faultOf_0 : decode cX8_faultOf 0 = .ok (.iload_n 1, 1) := by decide +kernel
set_option maxRecDepth 100000 in
theorem dX8_faultOf_1 : decode cX8_faultOf 1 = .ok (.iconst 0, 1) := by decide +kernel
set_option maxRecDepth 100000 in
theorem dX8_faultOf_2 : decode cX8_faultOf 2 = .ok (.aload_n 0, 1) := by decide +kernel
set_option maxRecDepth 100000 in
theorem dX8_faultOf_3 : decode cX8_faultOf 3 = .ok (.getfield 156, 3) := by decide +kernel
set_option maxRecDepth 100000 in
theorem dX8_faultOf_6 : decode cX8_faultOf 6 = .ok (.iconst 1, 1) := by decide +kernel
set_option maxRecDepth 100000 in
theorem dX8_faultOf_7 : decode cX8_faultOf 7 = .ok (.isub, 1) := by decide +kernel
set_option maxRecDepth 100000 in
theorem dX8_faultOf_8 : decode cX8_faultOf 8 = .ok (.invokestatic 121, 3) := by decide +kernel
set_option maxRecDepth 100000 in
theorem dX8_faultOf_11 : decode cX8_faultOf 11 = .ok (.ifCond .eq 18, 3) := by decide +kernel
set_option maxRecDepth 100000 in
theorem dX8_faultOf_14 : decode cX8_faultOf 14 = .ok (.iload_n 1, 1) := by decide +kernel
set_option maxRecDepth 100000 in
theorem dX8_faultOf_15 : decode cX8_faultOf 15 = .ok (.bipush 8, 2) := by decide +kernel
set_option maxRecDepth 100000 in
theorem dX8_faultOf_17 : decode cX8_faultOf 17 = .ok (.if_icmp .ge 12, 3) := by decide +kernel
set_option maxRecDepth 100000 in
theorem dX8_faultOf_20 : decode cX8_faultOf 20 = .ok (.aload_n 0, 1) := by decide +kernel
set_option maxRecDepth 100000 in
theorem dX8_faultOf_21 : decode cX8_faultOf 21 = .ok (.getfield 17, 3) := by decide +kernel
set_option maxRecDepth 100000 in
theorem dX8_faultOf_24 : decode cX8_faultOf 24 = .ok (.iload_n 1, 1) := by decide +kernel
set_option maxRecDepth 100000 in
theorem dX8_faultOf_25 : decode cX8_faultOf 25 = .ok (.aaload, 1) := by decide +kernel
set_option maxRecDepth 100000 in
theorem dX8_faultOf_26 : decode cX8_faultOf 26 = .ok (.goto 4, 3) := by decide +kernel
set_option maxRecDepth 100000 in
theorem dX8_faultOf_29 : decode cX8_faultOf 29 = .ok (.aconst_null, 1) := by decide +kernel
set_option maxRecDepth 100000 in
theorem dX8_faultOf_30 : decode cX8_faultOf 30 = .ok (.areturn, 1) := by decide +kernel
set_option maxRecDepth 100000 in
theorem dX8_workOf_0 : decode cX8_workOf 0 = .ok (.iload_n 1, 1) := by decide +kernel
set_option maxRecDepth 100000 in
theorem dX8_workOf_1 : decode cX8_workOf 1 = .ok (.iconst 0, 1) := by decide +kernel
set_option maxRecDepth 100000 in
theorem dX8_workOf_2 : decode cX8_workOf 2 = .ok (.aload_n 0, 1) := by decide +kernel
set_option maxRecDepth 100000 in
theorem dX8_workOf_3 : decode cX8_workOf 3 = .ok (.getfield 183, 3) := by decide +kernel
set_option maxRecDepth 100000 in
theorem dX8_workOf_6 : decode cX8_workOf 6 = .ok (.iconst 1, 1) := by decide +kernel
set_option maxRecDepth 100000 in
theorem dX8_workOf_7 : decode cX8_workOf 7 = .ok (.isub, 1) := by decide +kernel
set_option maxRecDepth 100000 in
theorem dX8_workOf_8 : decode cX8_workOf 8 = .ok (.invokestatic 121, 3) := by decide +kernel
set_option maxRecDepth 100000 in
theorem dX8_workOf_11 : decode cX8_workOf 11 = .ok (.ifCond .eq 18, 3) := by decide +kernel
set_option maxRecDepth 100000 in
theorem dX8_workOf_14 : decode cX8_workOf 14 = .ok (.iload_n 1, 1) := by decide +kernel
set_option maxRecDepth 100000 in
theorem dX8_workOf_15 : decode cX8_workOf 15 = .ok (.bipush 10, 2) := by decide +kernel
set_option maxRecDepth 100000 in
theorem dX8_workOf_17 : decode cX8_workOf 17 = .ok (.if_icmp .ge 12, 3) := by decide +kernel
set_option maxRecDepth 100000 in
theorem dX8_workOf_20 : decode cX8_workOf 20 = .ok (.aload_n 0, 1) := by decide +kernel
set_option maxRecDepth 100000 in
theorem dX8_workOf_21 : decode cX8_workOf 21 = .ok (.getfield 23, 3) := by decide +kernel
set_option maxRecDepth 100000 in
theorem dX8_workOf_24 : decode cX8_workOf 24 = .ok (.iload_n 1, 1) := by decide +kernel
set_option maxRecDepth 100000 in
theorem dX8_workOf_25 : decode cX8_workOf 25 = .ok (.aaload, 1) := by decide +kernel
set_option maxRecDepth 100000 in
theorem dX8_workOf_26 : decode cX8_workOf 26 = .ok (.goto 4, 3) := by decide +kernel
set_option maxRecDepth 100000 in
theorem dX8_workOf_29 : decode cX8_workOf 29 = .ok (.aconst_null, 1) := by decide +kernel
set_option maxRecDepth 100000 in
theorem dX8_workOf_30 : decode cX8_workOf 30 = .ok (.areturn, 1) := by decide +kernel
set_option maxRecDepth 100000 in
theorem dX8_warmthOf_0 : decode cX8_warmthOf 0 = .ok (.iload_n 1, 1) := by decide +kernel
set_option maxRecDepth 100000 in
theorem dX8_warmthOf_1 : decode cX8_warmthOf 1 = .ok (.invokestatic 136, 3) := by decide +kernel
set_option maxRecDepth 100000 in
theorem dX8_warmthOf_4 : decode cX8_warmthOf 4 = .ok (.ifCond .eq 15, 3) := by decide +kernel
set_option maxRecDepth 100000 in
theorem dX8_warmthOf_7 : decode cX8_warmthOf 7 = .ok (.aload_n 0, 1) := by decide +kernel
set_option maxRecDepth 100000 in
theorem dX8_warmthOf_8 : decode cX8_warmthOf 8 = .ok (.getfield 37, 3) := by decide +kernel
set_option maxRecDepth 100000 in
theorem dX8_warmthOf_11 : decode cX8_warmthOf 11 = .ok (.getfield 140, 3) := by decide +kernel
set_option maxRecDepth 100000 in
theorem dX8_warmthOf_14 : decode cX8_warmthOf 14 = .ok (.iload_n 1, 1) := by decide +kernel
set_option maxRecDepth 100000 in
theorem dX8_warmthOf_15 : decode cX8_warmthOf 15 = .ok (.iaload, 1) := by decide +kernel
set_option maxRecDepth 100000 in
theorem dX8_warmthOf_16 : decode cX8_warmthOf 16 = .ok (.goto 5, 3) := by decide +kernel
set_option maxRecDepth 100000 in
theorem dX8_warmthOf_19 : decode cX8_warmthOf 19 = .ok (.bipush 100, 2) := by decide +kernel
set_option maxRecDepth 100000 in
theorem dX8_warmthOf_21 : decode cX8_warmthOf 21 = .ok (.ireturn, 1) := by decide +kernel
set_option maxRecDepth 100000 in
theorem dX8_daylightOf_0 : decode cX8_daylightOf 0 = .ok (.iload_n 1, 1) := by decide +kernel
set_option maxRecDepth 100000 in
theorem dX8_daylightOf_1 : decode cX8_daylightOf 1 = .ok (.invokestatic 136, 3) := by decide +kernel
set_option maxRecDepth 100000 in
theorem dX8_daylightOf_4 : decode cX8_daylightOf 4 = .ok (.ifCond .eq 15, 3) := by decide +kernel
set_option maxRecDepth 100000 in
theorem dX8_daylightOf_7 : decode cX8_daylightOf 7 = .ok (.aload_n 0, 1) := by decide +kernel
set_option maxRecDepth 100000 in
theorem dX8_daylightOf_8 : decode cX8_daylightOf 8 = .ok (.getfield 37, 3) := by decide +kernel
set_option maxRecDepth 100000 in
theorem dX8_daylightOf_11 : decode cX8_daylightOf 11 = .ok (.getfield 147, 3) := by decide +kernel
set_option maxRecDepth 100000 in
theorem dX8_daylightOf_14 : decode cX8_daylightOf 14 = .ok (.iload_n 1, 1) := by decide +kernel
set_option maxRecDepth 100000 in
theorem dX8_daylightOf_15 : decode cX8_daylightOf 15 = .ok (.iaload, 1) := by decide +kernel
set_option maxRecDepth 100000 in
theorem dX8_daylightOf_16 : decode cX8_daylightOf 16 = .ok (.goto 5, 3) := by decide +kernel
set_option maxRecDepth 100000 in
theorem dX8_daylightOf_19 : decode cX8_daylightOf 19 = .ok (.bipush 48, 2) := by decide +kernel
set_option maxRecDepth 100000 in
theorem dX8_daylightOf_21 : decode cX8_daylightOf 21 = .ok (.ireturn, 1) := by decide +kernel
set_option maxRecDepth 100000 in
theorem dX8_isFaultOfKind_0 : decode cX8_isFaultOfKind 0 = .ok (.iload_n 1, 1) := by decide +kernel
set_option maxRecDepth 100000 in
theorem dX8_isFaultOfKind_1 : decode cX8_isFaultOfKind 1 = .ok (.ifCond .eq 18, 3) := by decide +kernel
set_option maxRecDepth 100000 in
theorem dX8_isFaultOfKind_4 : decode cX8_isFaultOfKind 4 = .ok (.iload_n 1, 1) := by decide +kernel
set_option maxRecDepth 100000 in
theorem dX8_isFaultOfKind_5 : decode cX8_isFaultOfKind 5 = .ok (.iload_n 0, 1) := by decide +kernel
set_option maxRecDepth 100000 in
theorem dX8_isFaultOfKind_6 : decode cX8_isFaultOfKind 6 = .ok (.if_icmp .eq 13, 3) := by decide +kernel
set_option maxRecDepth 100000 in
theorem dX8_isFaultOfKind_9 : decode cX8_isFaultOfKind 9 = .ok (.iload_n 0, 1) := by decide +kernel
set_option maxRecDepth 100000 in
theorem dX8_isFaultOfKind_10 : decode cX8_isFaultOfKind 10 = .ok (.iconst 2, 1) := by decide +kernel
set_option maxRecDepth 100000 in
theorem dX8_isFaultOfKind_11 : decode cX8_isFaultOfKind 11 = .ok (.if_icmp .ne 12, 3) := by decide +kernel
set_option maxRecDepth 100000 in
theorem dX8_isFaultOfKind_14 : decode cX8_isFaultOfKind 14 = .ok (.iload_n 1, 1) := by decide +kernel
set_option maxRecDepth 100000 in
theorem dX8_isFaultOfKind_15 : decode cX8_isFaultOfKind 15 = .ok (.iconst 1, 1) := by decide +kernel
set_option maxRecDepth 100000 in
theorem dX8_isFaultOfKind_16 : decode cX8_isFaultOfKind 16 = .ok (.if_icmp .ne 7, 3) := by decide +kernel
set_option maxRecDepth 100000 in
theorem dX8_isFaultOfKind_19 : decode cX8_isFaultOfKind 19 = .ok (.iconst 1, 1) := by decide +kernel
set_option maxRecDepth 100000 in
theorem dX8_isFaultOfKind_20 : decode cX8_isFaultOfKind 20 = .ok (.goto 4, 3) := by decide +kernel
set_option maxRecDepth 100000 in
theorem dX8_isFaultOfKind_23 : decode cX8_isFaultOfKind 23 = .ok (.iconst 0, 1) := by decide +kernel
set_option maxRecDepth 100000 in
theorem dX8_isFaultOfKind_24 : decode cX8_isFaultOfKind 24 = .ok (.ireturn, 1) := by decide +kernel
set_option maxRecDepth 100000 in
theorem dX8_isWorkOfKind_0 : decode cX8_isWorkOfKind 0 = .ok (.iload_n 1, 1) := by decide +kernel
set_option maxRecDepth 100000 in
theorem dX8_isWorkOfKind_1 : decode cX8_isWorkOfKind 1 = .ok (.ifCond .eq 18, 3) := by decide +kernel
set_option maxRecDepth 100000 in
theorem dX8_isWorkOfKind_4 : decode cX8_isWorkOfKind 4 = .ok (.iload_n 1, 1) := by decide +kernel
set_option maxRecDepth 100000 in
theorem dX8_isWorkOfKind_5 : decode cX8_isWorkOfKind 5 = .ok (.iload_n 0, 1) := by decide +kernel
set_option maxRecDepth 100000 in
theorem dX8_isWorkOfKind_6 : decode cX8_isWorkOfKind 6 = .ok (.if_icmp .eq 13, 3) := by decide +kernel
set_option maxRecDepth 100000 in
theorem dX8_isWorkOfKind_9 : decode cX8_isWorkOfKind 9 = .ok (.iload_n 0, 1) := by decide +kernel
set_option maxRecDepth 100000 in
theorem dX8_isWorkOfKind_10 : decode cX8_isWorkOfKind 10 = .ok (.iconst 4, 1) := by decide +kernel
set_option maxRecDepth 100000 in
theorem dX8_isWorkOfKind_11 : decode cX8_isWorkOfKind 11 = .ok (.if_icmp .ne 12, 3) := by decide +kernel
set_option maxRecDepth 100000 in
theorem dX8_isWorkOfKind_14 : decode cX8_isWorkOfKind 14 = .ok (.iload_n 1, 1) := by decide +kernel
set_option maxRecDepth 100000 in
theorem dX8_isWorkOfKind_15 : decode cX8_isWorkOfKind 15 = .ok (.iconst 3, 1) := by decide +kernel
set_option maxRecDepth 100000 in
theorem dX8_isWorkOfKind_16 : decode cX8_isWorkOfKind 16 = .ok (.if_icmp .ne 7, 3) := by decide +kernel
set_option maxRecDepth 100000 in
theorem dX8_isWorkOfKind_19 : decode cX8_isWorkOfKind 19 = .ok (.iconst 1, 1) := by decide +kernel
set_option maxRecDepth 100000 in
theorem dX8_isWorkOfKind_20 : decode cX8_isWorkOfKind 20 = .ok (.goto 4, 3) := by decide +kernel
set_option maxRecDepth 100000 in
theorem dX8_isWorkOfKind_23 : decode cX8_isWorkOfKind 23 = .ok (.iconst 0, 1) := by decide +kernel
set_option maxRecDepth 100000 in
theorem dX8_isWorkOfKind_24 : decode cX8_isWorkOfKind 24 = .ok (.ireturn, 1) := by decide +kernel
set_option maxRecDepth 100000 in
theorem dX8_leastNumber_0 : decode cX8_leastNumber 0 = .ok (.iload_n 0, 1) := by decide +kernel
set_option maxRecDepth 100000 in
theorem dX8_leastNumber_1 : decode cX8_leastNumber 1 = .ok (.lookupswitch 31 #[(3, 27), (4, 29)], 27) := by decide +kernel
set_option maxRecDepth 100000 in
theorem dX8_leastNumber_28 : decode cX8_leastNumber 28 = .ok (.iconst 1, 1) := by decide +kernel
set_option maxRecDepth 100000 in
theorem dX8_leastNumber_29 : decode cX8_leastNumber 29 = .ok (.ireturn, 1) := by decide +kernel
set_option maxRecDepth 100000 in
theorem dX8_leastNumber_30 : decode cX8_leastNumber 30 = .ok (.iconst 2, 1) := by decide +kernel
set_option maxRecDepth 100000 in
theorem dX8_leastNumber_31 : decode cX8_leastNumber 31 = .ok (.ireturn, 1) := by decide +kernel
set_option maxRecDepth 100000 in
theorem dX8_leastNumber_32 : decode cX8_leastNumber 32 = .ok (.iconst 0, 1) := by decide +kernel
set_option maxRecDepth 100000 in
theorem dX8_leastNumber_33 : decode cX8_leastNumber 33 = .ok (.ireturn, 1) := by decide +kernel
set_option maxRecDepth 100000 in
theorem dX8_mostNumber_0 : decode cX8_mostNumber 0 = .ok (.iload_n 0, 1) := by decide +kernel
set_option maxRecDepth 100000 in
theorem dX8_mostNumber_1 : decode cX8_mostNumber 1 = .ok (.tableswitch 41 1 4 #[31, 34, 36, 39], 31) := by decide +kernel
set_option maxRecDepth 100000 in
theorem dX8_mostNumber_32 : decode cX8_mostNumber 32 = .ok (.bipush 9, 2) := by decide +kernel
set_option maxRecDepth 100000 in
theorem dX8_mostNumber_34 : decode cX8_mostNumber 34 = .ok (.ireturn, 1) := by decide +kernel
set_option maxRecDepth 100000 in
theorem dX8_mostNumber_35 : decode cX8_mostNumber 35 = .ok (.iconst 3, 1) := by decide +kernel
set_option maxRecDepth 100000 in
theorem dX8_mostNumber_36 : decode cX8_mostNumber 36 = .ok (.ireturn, 1) := by decide +kernel
set_option maxRecDepth 100000 in
theorem dX8_mostNumber_37 : decode cX8_mostNumber 37 = .ok (.bipush 9, 2) := by decide +kernel
set_option maxRecDepth 100000 in
theorem dX8_mostNumber_39 : decode cX8_mostNumber 39 = .ok (.ireturn, 1) := by decide +kernel
set_option maxRecDepth 100000 in
theorem dX8_mostNumber_40 : decode cX8_mostNumber 40 = .ok (.iconst 5, 1) := by decide +kernel
set_option maxRecDepth 100000 in
theorem dX8_mostNumber_41 : decode cX8_mostNumber 41 = .ok (.ireturn, 1) := by decide +kernel
set_option maxRecDepth 100000 in
theorem dX8_mostNumber_42 : decode cX8_mostNumber 42 = .ok (.iconst 0, 1) := by decide +kernel
set_option maxRecDepth 100000 in
theorem dX8_mostNumber_43 : decode cX8_mostNumber 43 = .ok (.ireturn, 1) := by decide +kernel
set_option maxRecDepth 100000 in
theorem dX8_quotient_0 : decode cX8_quotient 0 = .ok (.iload_n 1, 1) := by decide +kernel
set_option maxRecDepth 100000 in
theorem dX8_quotient_1 : decode cX8_quotient 1 = .ok (.iconst 1, 1) := by decide +kernel
set_option maxRecDepth 100000 in
theorem dX8_quotient_2 : decode cX8_quotient 2 = .ok (.if_icmp .ge 7, 3) := by decide +kernel
set_option maxRecDepth 100000 in
theorem dX8_quotient_5 : decode cX8_quotient 5 = .ok (.iconst 0, 1) := by decide +kernel
set_option maxRecDepth 100000 in
theorem dX8_quotient_6 : decode cX8_quotient 6 = .ok (.goto 6, 3) := by decide +kernel
set_option maxRecDepth 100000 in
theorem dX8_quotient_9 : decode cX8_quotient 9 = .ok (.iload_n 0, 1) := by decide +kernel
set_option maxRecDepth 100000 in
theorem dX8_quotient_10 : decode cX8_quotient 10 = .ok (.iload_n 1, 1) := by decide +kernel
set_option maxRecDepth 100000 in
theorem dX8_quotient_11 : decode cX8_quotient 11 = .ok (.idiv, 1) := by decide +kernel
set_option maxRecDepth 100000 in
theorem dX8_quotient_12 : decode cX8_quotient 12 = .ok (.ireturn, 1) := by decide +kernel
set_option maxRecDepth 100000 in
theorem dX8_commonMeasure_0 : decode cX8_commonMeasure 0 = .ok (.iload_n 0, 1) := by decide +kernel
set_option maxRecDepth 100000 in
theorem dX8_commonMeasure_1 : decode cX8_commonMeasure 1 = .ok (.istore_n 2, 1) := by decide +kernel
set_option maxRecDepth 100000 in
theorem dX8_commonMeasure_2 : decode cX8_commonMeasure 2 = .ok (.iload_n 1, 1) := by decide +kernel
set_option maxRecDepth 100000 in
theorem dX8_commonMeasure_3 : decode cX8_commonMeasure 3 = .ok (.istore_n 3, 1) := by decide +kernel
set_option maxRecDepth 100000 in
theorem dX8_commonMeasure_4 : decode cX8_commonMeasure 4 = .ok (.iconst 0, 1) := by decide +kernel
set_option maxRecDepth 100000 in
theorem dX8_commonMeasure_5 : decode cX8_commonMeasure 5 = .ok (.istore 4, 2) := by decide +kernel
set_option maxRecDepth 100000 in
theorem dX8_commonMeasure_7 : decode cX8_commonMeasure 7 = .ok (.iload 4, 2) := by decide +kernel
set_option maxRecDepth 100000 in
theorem dX8_commonMeasure_9 : decode cX8_commonMeasure 9 = .ok (.bipush 100, 2) := by decide +kernel
set_option maxRecDepth 100000 in
theorem dX8_commonMeasure_11 : decode cX8_commonMeasure 11 = .ok (.if_icmp .ge 23, 3) := by decide +kernel
set_option maxRecDepth 100000 in
theorem dX8_commonMeasure_14 : decode cX8_commonMeasure 14 = .ok (.iload_n 3, 1) := by decide +kernel
set_option maxRecDepth 100000 in
theorem dX8_commonMeasure_15 : decode cX8_commonMeasure 15 = .ok (.ifCond .le 19, 3) := by decide +kernel
set_option maxRecDepth 100000 in
theorem dX8_commonMeasure_18 : decode cX8_commonMeasure 18 = .ok (.iload_n 2, 1) := by decide +kernel
set_option maxRecDepth 100000 in
theorem dX8_commonMeasure_19 : decode cX8_commonMeasure 19 = .ok (.iload_n 3, 1) := by decide +kernel
set_option maxRecDepth 100000 in
theorem dX8_commonMeasure_20 : decode cX8_commonMeasure 20 = .ok (.irem, 1) := by decide +kernel
set_option maxRecDepth 100000 in
theorem dX8_commonMeasure_21 : decode cX8_commonMeasure 21 = .ok (.istore 5, 2) := by decide +kernel
set_option maxRecDepth 100000 in
theorem dX8_commonMeasure_23 : decode cX8_commonMeasure 23 = .ok (.iload_n 3, 1) := by decide +kernel
set_option maxRecDepth 100000 in
theorem dX8_commonMeasure_24 : decode cX8_commonMeasure 24 = .ok (.istore_n 2, 1) := by decide +kernel
set_option maxRecDepth 100000 in
theorem dX8_commonMeasure_25 : decode cX8_commonMeasure 25 = .ok (.iload 5, 2) := by decide +kernel
set_option maxRecDepth 100000 in
theorem dX8_commonMeasure_27 : decode cX8_commonMeasure 27 = .ok (.istore_n 3, 1) := by decide +kernel
set_option maxRecDepth 100000 in
theorem dX8_commonMeasure_28 : decode cX8_commonMeasure 28 = .ok (.iinc 4 1, 3) := by decide +kernel
set_option maxRecDepth 100000 in
theorem dX8_commonMeasure_31 : decode cX8_commonMeasure 31 = .ok (.goto (-24), 3) := by decide +kernel
set_option maxRecDepth 100000 in
theorem dX8_commonMeasure_34 : decode cX8_commonMeasure 34 = .ok (.iload_n 2, 1) := by decide +kernel
set_option maxRecDepth 100000 in
theorem dX8_commonMeasure_35 : decode cX8_commonMeasure 35 = .ok (.ireturn, 1) := by decide +kernel
set_option maxRecDepth 100000 in
theorem dX8_exchange_0 : decode cX8_exchange 0 = .ok (.iload_n 1, 1) := by decide +kernel
set_option maxRecDepth 100000 in
theorem dX8_exchange_1 : decode cX8_exchange 1 = .ok (.iconst 0, 1) := by decide +kernel
set_option maxRecDepth 100000 in
theorem dX8_exchange_2 : decode cX8_exchange 2 = .ok (.aload_n 0, 1) := by decide +kernel
set_option maxRecDepth 100000 in
theorem dX8_exchange_3 : decode cX8_exchange 3 = .ok (.arraylength, 1) := by decide +kernel
set_option maxRecDepth 100000 in
theorem dX8_exchange_4 : decode cX8_exchange 4 = .ok (.iconst 1, 1) := by decide +kernel
set_option maxRecDepth 100000 in
theorem dX8_exchange_5 : decode cX8_exchange 5 = .ok (.isub, 1) := by decide +kernel
set_option maxRecDepth 100000 in
theorem dX8_exchange_6 : decode cX8_exchange 6 = .ok (.invokestatic 121, 3) := by decide +kernel
set_option maxRecDepth 100000 in
theorem dX8_exchange_9 : decode cX8_exchange 9 = .ok (.ifCond .ne 5, 3) := by decide +kernel
set_option maxRecDepth 100000 in
theorem dX8_exchange_12 : decode cX8_exchange 12 = .ok (.iconst (-1), 1) := by decide +kernel
set_option maxRecDepth 100000 in
theorem dX8_exchange_13 : decode cX8_exchange 13 = .ok (.ireturn, 1) := by decide +kernel
set_option maxRecDepth 100000 in
theorem dX8_exchange_14 : decode cX8_exchange 14 = .ok (.aload_n 0, 1) := by decide +kernel
set_option maxRecDepth 100000 in
theorem dX8_exchange_15 : decode cX8_exchange 15 = .ok (.iload_n 1, 1) := by decide +kernel
set_option maxRecDepth 100000 in
theorem dX8_exchange_16 : decode cX8_exchange 16 = .ok (.iaload, 1) := by decide +kernel
set_option maxRecDepth 100000 in
theorem dX8_exchange_17 : decode cX8_exchange 17 = .ok (.istore_n 3, 1) := by decide +kernel
set_option maxRecDepth 100000 in
theorem dX8_exchange_18 : decode cX8_exchange 18 = .ok (.aload_n 0, 1) := by decide +kernel
set_option maxRecDepth 100000 in
theorem dX8_exchange_19 : decode cX8_exchange 19 = .ok (.iload_n 1, 1) := by decide +kernel
set_option maxRecDepth 100000 in
theorem dX8_exchange_20 : decode cX8_exchange 20 = .ok (.iload_n 2, 1) := by decide +kernel
set_option maxRecDepth 100000 in
theorem dX8_exchange_21 : decode cX8_exchange 21 = .ok (.iastore, 1) := by decide +kernel
set_option maxRecDepth 100000 in
theorem dX8_exchange_22 : decode cX8_exchange 22 = .ok (.iload_n 3, 1) := by decide +kernel
set_option maxRecDepth 100000 in
theorem dX8_exchange_23 : decode cX8_exchange 23 = .ok (.ireturn, 1) := by decide +kernel
set_option maxRecDepth 100000 in
theorem dX8_byteOf_0 : decode cX8_byteOf 0 = .ok (.lload_n 0, 1) := by decide +kernel
set_option maxRecDepth 100000 in
theorem dX8_byteOf_1 : decode cX8_byteOf 1 = .ok (.bipush 8, 2) := by decide +kernel
set_option maxRecDepth 100000 in
theorem dX8_byteOf_3 : decode cX8_byteOf 3 = .ok (.iload_n 2, 1) := by decide +kernel
set_option maxRecDepth 100000 in
theorem dX8_byteOf_4 : decode cX8_byteOf 4 = .ok (.imul, 1) := by decide +kernel
set_option maxRecDepth 100000 in
theorem dX8_byteOf_5 : decode cX8_byteOf 5 = .ok (.lushr, 1) := by decide +kernel
set_option maxRecDepth 100000 in
theorem dX8_byteOf_6 : decode cX8_byteOf 6 = .ok (.l2i, 1) := by decide +kernel
set_option maxRecDepth 100000 in
theorem dX8_byteOf_7 : decode cX8_byteOf 7 = .ok (.sipush 255, 3) := by decide +kernel
set_option maxRecDepth 100000 in
theorem dX8_byteOf_10 : decode cX8_byteOf 10 = .ok (.iand, 1) := by decide +kernel
set_option maxRecDepth 100000 in
theorem dX8_byteOf_11 : decode cX8_byteOf 11 = .ok (.ireturn, 1) := by decide +kernel
set_option maxRecDepth 100000 in
theorem dX8_lettersIn_0 : decode cX8_lettersIn 0 = .ok (.iconst 0, 1) := by decide +kernel
set_option maxRecDepth 100000 in
theorem dX8_lettersIn_1 : decode cX8_lettersIn 1 = .ok (.istore_n 2, 1) := by decide +kernel
set_option maxRecDepth 100000 in
theorem dX8_lettersIn_2 : decode cX8_lettersIn 2 = .ok (.iconst 0, 1) := by decide +kernel
set_option maxRecDepth 100000 in
theorem dX8_lettersIn_3 : decode cX8_lettersIn 3 = .ok (.istore_n 3, 1) := by decide +kernel
set_option maxRecDepth 100000 in
theorem dX8_lettersIn_4 : decode cX8_lettersIn 4 = .ok (.iload_n 3, 1) := by decide +kernel
set_option maxRecDepth 100000 in
theorem dX8_lettersIn_5 : decode cX8_lettersIn 5 = .ok (.bipush 8, 2) := by decide +kernel
set_option maxRecDepth 100000 in
theorem dX8_lettersIn_7 : decode cX8_lettersIn 7 = .ok (.if_icmp .ge 55, 3) := by decide +kernel
set_option maxRecDepth 100000 in
theorem dX8_lettersIn_10 : decode cX8_lettersIn 10 = .ok (.lload_n 0, 1) := by decide +kernel
set_option maxRecDepth 100000 in
theorem dX8_lettersIn_11 : decode cX8_lettersIn 11 = .ok (.iload_n 3, 1) := by decide +kernel
set_option maxRecDepth 100000 in
theorem dX8_lettersIn_12 : decode cX8_lettersIn 12 = .ok (.invokestatic 95, 3) := by decide +kernel
set_option maxRecDepth 100000 in
theorem dX8_lettersIn_15 : decode cX8_lettersIn 15 = .ok (.istore 4, 2) := by decide +kernel
set_option maxRecDepth 100000 in
theorem dX8_lettersIn_17 : decode cX8_lettersIn 17 = .ok (.iload 4, 2) := by decide +kernel
set_option maxRecDepth 100000 in
theorem dX8_lettersIn_19 : decode cX8_lettersIn 19 = .ok (.ifCond .eq 12, 3) := by decide +kernel
set_option maxRecDepth 100000 in
theorem dX8_lettersIn_22 : decode cX8_lettersIn 22 = .ok (.iload_n 2, 1) := by decide +kernel
set_option maxRecDepth 100000 in
theorem dX8_lettersIn_23 : decode cX8_lettersIn 23 = .ok (.iload_n 3, 1) := by decide +kernel
set_option maxRecDepth 100000 in
theorem dX8_lettersIn_24 : decode cX8_lettersIn 24 = .ok (.if_icmp .ge 7, 3) := by decide +kernel
set_option maxRecDepth 100000 in
theorem dX8_lettersIn_27 : decode cX8_lettersIn 27 = .ok (.iconst 1, 1) := by decide +kernel
set_option maxRecDepth 100000 in
theorem dX8_lettersIn_28 : decode cX8_lettersIn 28 = .ok (.goto 4, 3) := by decide +kernel
set_option maxRecDepth 100000 in
theorem dX8_lettersIn_31 : decode cX8_lettersIn 31 = .ok (.iconst 0, 1) := by decide +kernel
set_option maxRecDepth 100000 in
theorem dX8_lettersIn_32 : decode cX8_lettersIn 32 = .ok (.istore 5, 2) := by decide +kernel
set_option maxRecDepth 100000 in
theorem dX8_lettersIn_34 : decode cX8_lettersIn 34 = .ok (.iload 4, 2) := by decide +kernel
set_option maxRecDepth 100000 in
theorem dX8_lettersIn_36 : decode cX8_lettersIn 36 = .ok (.bipush 126, 2) := by decide +kernel
set_option maxRecDepth 100000 in
theorem dX8_lettersIn_38 : decode cX8_lettersIn 38 = .ok (.if_icmp .gt 8, 3) := by decide +kernel
set_option maxRecDepth 100000 in
theorem dX8_lettersIn_41 : decode cX8_lettersIn 41 = .ok (.iload 5, 2) := by decide +kernel
set_option maxRecDepth 100000 in
theorem dX8_lettersIn_43 : decode cX8_lettersIn 43 = .ok (.ifCond .eq 5, 3) := by decide +kernel
set_option maxRecDepth 100000 in
theorem dX8_lettersIn_46 : decode cX8_lettersIn 46 = .ok (.iconst (-1), 1) := by decide +kernel
set_option maxRecDepth 100000 in
theorem dX8_lettersIn_47 : decode cX8_lettersIn 47 = .ok (.ireturn, 1) := by decide +kernel
set_option maxRecDepth 100000 in
theorem dX8_lettersIn_48 : decode cX8_lettersIn 48 = .ok (.iload 4, 2) := by decide +kernel
set_option maxRecDepth 100000 in
theorem dX8_lettersIn_50 : decode cX8_lettersIn 50 = .ok (.ifCond .eq 6, 3) := by decide +kernel
set_option maxRecDepth 100000 in
theorem dX8_lettersIn_53 : decode cX8_lettersIn 53 = .ok (.iinc 2 1, 3) := by decide +kernel
set_option maxRecDepth 100000 in
theorem dX8_lettersIn_56 : decode cX8_lettersIn 56 = .ok (.iinc 3 1, 3) := by decide +kernel
set_option maxRecDepth 100000 in
theorem dX8_lettersIn_59 : decode cX8_lettersIn 59 = .ok (.goto (-55), 3) := by decide +kernel
set_option maxRecDepth 100000 in
theorem dX8_lettersIn_62 : decode cX8_lettersIn 62 = .ok (.iload_n 2, 1) := by decide +kernel
set_option maxRecDepth 100000 in
theorem dX8_lettersIn_63 : decode cX8_lettersIn 63 = .ok (.ireturn, 1) := by decide +kernel
