/-! decode rows (printed) -/
set_option maxRecDepth 100000 in
theorem dX8_init_0 : decode cX8_init 0 = .ok (.aload_n 0, 1) := by decide +kernel
set_option maxRecDepth 100000 in
theorem dX8_init_1 : decode cX8_init 1 = .ok (.invokespecial 1, 3) := by decide +kernel
set_option maxRecDepth 100000 in
theorem dX8_init_4 : decode cX8_init 4 = .ok (.aload_n 0, 1) := by decide +kernel
set_option maxRecDepth 100000 in
theorem dX8_init_5 : decode cX8_init 5 = .ok (.iconst 4, 1) := by decide +kernel
set_option maxRecDepth 100000 in
theorem dX8_init_6 : decode cX8_init 6 = .ok (.anewarray 9, 3) := by decide +kernel
set_option maxRecDepth 100000 in
theorem dX8_init_9 : decode cX8_init 9 = .ok (.putfield 11, 3) := by decide +kernel
set_option maxRecDepth 100000 in
theorem dX8_init_12 : decode cX8_init 12 = .ok (.aload_n 0, 1) := by decide +kernel
set_option maxRecDepth 100000 in
theorem dX8_init_13 : decode cX8_init 13 = .ok (.bipush 8, 2) := by decide +kernel
set_option maxRecDepth 100000 in
theorem dX8_init_15 : decode cX8_init 15 = .ok (.anewarray 15, 3) := by decide +kernel
set_option maxRecDepth 100000 in
theorem dX8_init_18 : decode cX8_init 18 = .ok (.putfield 17, 3) := by decide +kernel
set_option maxRecDepth 100000 in
theorem dX8_init_21 : decode cX8_init 21 = .ok (.aload_n 0, 1) := by decide +kernel
set_option maxRecDepth 100000 in
theorem dX8_init_22 : decode cX8_init 22 = .ok (.bipush 10, 2) := by decide +kernel
set_option maxRecDepth 100000 in
theorem dX8_init_24 : decode cX8_init 24 = .ok (.anewarray 21, 3) := by decide +kernel
set_option maxRecDepth 100000 in
theorem dX8_init_27 : decode cX8_init 27 = .ok (.putfield 23, 3) := by decide +kernel
set_option maxRecDepth 100000 in
theorem dX8_init_30 : decode cX8_init 30 = .ok (.aload_n 0, 1) := by decide +kernel
set_option maxRecDepth 100000 in
theorem dX8_init_31 : decode cX8_init 31 = .ok (.new 27, 3) := by decide +kernel
set_option maxRecDepth 100000 in
theorem dX8_init_34 : decode cX8_init 34 = .ok (.dup, 1) := by decide +kernel
set_option maxRecDepth 100000 in
theorem dX8_init_35 : decode cX8_init 35 = .ok (.invokespecial 29, 3) := by decide +kernel
set_option maxRecDepth 100000 in
theorem dX8_init_38 : decode cX8_init 38 = .ok (.putfield 30, 3) := by decide +kernel
set_option maxRecDepth 100000 in
theorem dX8_init_41 : decode cX8_init 41 = .ok (.aload_n 0, 1) := by decide +kernel
set_option maxRecDepth 100000 in
theorem dX8_init_42 : decode cX8_init 42 = .ok (.new 34, 3) := by decide +kernel
set_option maxRecDepth 100000 in
theorem dX8_init_45 : decode cX8_init 45 = .ok (.dup, 1) := by decide +kernel
set_option maxRecDepth 100000 in
theorem dX8_init_46 : decode cX8_init 46 = .ok (.invokespecial 36, 3) := by decide +kernel
set_option maxRecDepth 100000 in
theorem dX8_init_49 : decode cX8_init 49 = .ok (.putfield 37, 3) := by decide +kernel
set_option maxRecDepth 100000 in
theorem dX8_init_52 : decode cX8_init 52 = .ok (.aload_n 0, 1) := by decide +kernel
set_option maxRecDepth 100000 in
theorem dX8_init_53 : decode cX8_init 53 = .ok (.new 34, 3) := by decide +kernel
set_option maxRecDepth 100000 in
theorem dX8_init_56 : decode cX8_init 56 = .ok (.dup, 1) := by decide +kernel
set_option maxRecDepth 100000 in
theorem dX8_init_57 : decode cX8_init 57 = .ok (.invokespecial 36, 3) := by decide +kernel
set_option maxRecDepth 100000 in
theorem dX8_init_60 : decode cX8_init 60 = .ok (.putfield 41, 3) := by decide +kernel
set_option maxRecDepth 100000 in
theorem dX8_init_63 : decode cX8_init 63 = .ok (.aload_n 0, 1) := by decide +kernel
set_option maxRecDepth 100000 in
theorem dX8_init_64 : decode cX8_init 64 = .ok (.new 9, 3) := by decide +kernel
set_option maxRecDepth 100000 in
theorem dX8_init_67 : decode cX8_init 67 = .ok (.dup, 1) := by decide +kernel
set_option maxRecDepth 100000 in
theorem dX8_init_68 : decode cX8_init 68 = .ok (.invokespecial 44, 3) := by decide +kernel
set_option maxRecDepth 100000 in
theorem dX8_init_71 : decode cX8_init 71 = .ok (.putfield 45, 3) := by decide +kernel
set_option maxRecDepth 100000 in
theorem dX8_init_74 : decode cX8_init 74 = .ok (.aload_n 0, 1) := by decide +kernel
set_option maxRecDepth 100000 in
theorem dX8_init_75 : decode cX8_init 75 = .ok (.new 15, 3) := by decide +kernel
set_option maxRecDepth 100000 in
theorem dX8_init_78 : decode cX8_init 78 = .ok (.dup, 1) := by decide +kernel
set_option maxRecDepth 100000 in
theorem dX8_init_79 : decode cX8_init 79 = .ok (.invokespecial 49, 3) := by decide +kernel
set_option maxRecDepth 100000 in
theorem dX8_init_82 : decode cX8_init 82 = .ok (.putfield 50, 3) := by decide +kernel
set_option maxRecDepth 100000 in
theorem dX8_init_85 : decode cX8_init 85 = .ok (.aload_n 0, 1) := by decide +kernel
set_option maxRecDepth 100000 in
theorem dX8_init_86 : decode cX8_init 86 = .ok (.new 15, 3) := by decide +kernel
set_option maxRecDepth 100000 in
theorem dX8_init_89 : decode cX8_init 89 = .ok (.dup, 1) := by decide +kernel
set_option maxRecDepth 100000 in
theorem dX8_init_90 : decode cX8_init 90 = .ok (.invokespecial 49, 3) := by decide +kernel
set_option maxRecDepth 100000 in
theorem dX8_init_93 : decode cX8_init 93 = .ok (.putfield 54, 3) := by decide +kernel
set_option maxRecDepth 100000 in
theorem dX8_init_96 : decode cX8_init 96 = .ok (.aload_n 0, 1) := by decide +kernel
set_option maxRecDepth 100000 in
theorem dX8_init_97 : decode cX8_init 97 = .ok (.new 57, 3) := by decide +kernel
set_option maxRecDepth 100000 in
theorem dX8_init_100 : decode cX8_init 100 = .ok (.dup, 1) := by decide +kernel
set_option maxRecDepth 100000 in
theorem dX8_init_101 : decode cX8_init 101 = .ok (.aload_n 0, 1) := by decide +kernel
set_option maxRecDepth 100000 in
theorem dX8_init_102 : decode cX8_init 102 = .ok (.getfield 45, 3) := by decide +kernel
set_option maxRecDepth 100000 in
theorem dX8_init_105 : decode cX8_init 105 = .ok (.aload_n 0, 1) := by decide +kernel
set_option maxRecDepth 100000 in
theorem dX8_init_106 : decode cX8_init 106 = .ok (.getfield 50, 3) := by decide +kernel
set_option maxRecDepth 100000 in
theorem dX8_init_109 : decode cX8_init 109 = .ok (.invokespecial 59, 3) := by decide +kernel
set_option maxRecDepth 100000 in
theorem dX8_init_112 : decode cX8_init 112 = .ok (.putfield 62, 3) := by decide +kernel
set_option maxRecDepth 100000 in
theorem dX8_init_115 : decode cX8_init 115 = .ok (.aload_n 0, 1) := by decide +kernel
set_option maxRecDepth 100000 in
theorem dX8_init_116 : decode cX8_init 116 = .ok (.new 57, 3) := by decide +kernel
set_option maxRecDepth 100000 in
theorem dX8_init_119 : decode cX8_init 119 = .ok (.dup, 1) := by decide +kernel
set_option maxRecDepth 100000 in
theorem dX8_init_120 : decode cX8_init 120 = .ok (.aload_n 0, 1) := by decide +kernel
set_option maxRecDepth 100000 in
theorem dX8_init_121 : decode cX8_init 121 = .ok (.getfield 45, 3) := by decide +kernel
set_option maxRecDepth 100000 in
theorem dX8_init_124 : decode cX8_init 124 = .ok (.aload_n 0, 1) := by decide +kernel
set_option maxRecDepth 100000 in
theorem dX8_init_125 : decode cX8_init 125 = .ok (.getfield 50, 3) := by decide +kernel
set_option maxRecDepth 100000 in
theorem dX8_init_128 : decode cX8_init 128 = .ok (.invokespecial 59, 3) := by decide +kernel
set_option maxRecDepth 100000 in
theorem dX8_init_131 : decode cX8_init 131 = .ok (.putfield 66, 3) := by decide +kernel
set_option maxRecDepth 100000 in
theorem dX8_init_134 : decode cX8_init 134 = .ok (.aload_n 0, 1) := by decide +kernel
set_option maxRecDepth 100000 in
theorem dX8_init_135 : decode cX8_init 135 = .ok (.new 69, 3) := by decide +kernel
set_option maxRecDepth 100000 in
theorem dX8_init_138 : decode cX8_init 138 = .ok (.dup, 1) := by decide +kernel
set_option maxRecDepth 100000 in
theorem dX8_init_139 : decode cX8_init 139 = .ok (.invokespecial 71, 3) := by decide +kernel
set_option maxRecDepth 100000 in
theorem dX8_init_142 : decode cX8_init 142 = .ok (.putfield 72, 3) := by decide +kernel
set_option maxRecDepth 100000 in
theorem dX8_init_145 : decode cX8_init 145 = .ok (.aload_n 0, 1) := by decide +kernel
set_option maxRecDepth 100000 in
theorem dX8_init_146 : decode cX8_init 146 = .ok (.new 76, 3) := by decide +kernel
set_option maxRecDepth 100000 in
theorem dX8_init_149 : decode cX8_init 149 = .ok (.dup, 1) := by decide +kernel
set_option maxRecDepth 100000 in
theorem dX8_init_150 : decode cX8_init 150 = .ok (.invokespecial 78, 3) := by decide +kernel
set_option maxRecDepth 100000 in
theorem dX8_init_153 : decode cX8_init 153 = .ok (.putfield 79, 3) := by decide +kernel
set_option maxRecDepth 100000 in
theorem dX8_init_156 : decode cX8_init 156 = .ok (.aload_n 0, 1) := by decide +kernel
set_option maxRecDepth 100000 in
theorem dX8_init_157 : decode cX8_init 157 = .ok (.iconst 3, 1) := by decide +kernel
set_option maxRecDepth 100000 in
theorem dX8_init_158 : decode cX8_init 158 = .ok (.newarray .int, 2) := by decide +kernel
set_option maxRecDepth 100000 in
theorem dX8_init_160 : decode cX8_init 160 = .ok (.putfield 83, 3) := by decide +kernel
set_option maxRecDepth 100000 in
theorem dX8_init_163 : decode cX8_init 163 = .ok (.return_, 1) := by decide +kernel
set_option maxRecDepth 100000 in
theorem dX8_letters_0 : decode cX8_letters 0 = .ok (.lload_n 1, 1) := by decide +kernel
set_option maxRecDepth 100000 in
theorem dX8_letters_1 : decode cX8_letters 1 = .ok (.invokestatic 87, 3) := by decide +kernel
set_option maxRecDepth 100000 in
theorem dX8_letters_4 : decode cX8_letters 4 = .ok (.istore_n 3, 1) := by decide +kernel
set_option maxRecDepth 100000 in
theorem dX8_letters_5 : decode cX8_letters 5 = .ok (.iload_n 3, 1) := by decide +kernel
set_option maxRecDepth 100000 in
theorem dX8_letters_6 : decode cX8_letters 6 = .ok (.iconst (-1), 1) := by decide +kernel
set_option maxRecDepth 100000 in
theorem dX8_letters_7 : decode cX8_letters 7 = .ok (.if_icmp .ne 6, 3) := by decide +kernel
set_option maxRecDepth 100000 in
theorem dX8_letters_10 : decode cX8_letters 10 = .ok (.bipush (-102), 2) := by decide +kernel
set_option maxRecDepth 100000 in
theorem dX8_letters_12 : decode cX8_letters 12 = .ok (.ireturn, 1) := by decide +kernel
set_option maxRecDepth 100000 in
theorem dX8_letters_13 : decode cX8_letters 13 = .ok (.aload_n 0, 1) := by decide +kernel
set_option maxRecDepth 100000 in
theorem dX8_letters_14 : decode cX8_letters 14 = .ok (.getfield 30, 3) := by decide +kernel
set_option maxRecDepth 100000 in
theorem dX8_letters_17 : decode cX8_letters 17 = .ok (.getfield 91, 3) := by decide +kernel
set_option maxRecDepth 100000 in
theorem dX8_letters_20 : decode cX8_letters 20 = .ok (.iload_n 3, 1) := by decide +kernel
set_option maxRecDepth 100000 in
theorem dX8_letters_21 : decode cX8_letters 21 = .ok (.iadd, 1) := by decide +kernel
set_option maxRecDepth 100000 in
theorem dX8_letters_22 : decode cX8_letters 22 = .ok (.bipush 80, 2) := by decide +kernel
set_option maxRecDepth 100000 in
theorem dX8_letters_24 : decode cX8_letters 24 = .ok (.if_icmp .le 6, 3) := by decide +kernel
set_option maxRecDepth 100000 in
theorem dX8_letters_27 : decode cX8_letters 27 = .ok (.bipush (-104), 2) := by decide +kernel
set_option maxRecDepth 100000 in
theorem dX8_letters_29 : decode cX8_letters 29 = .ok (.ireturn, 1) := by decide +kernel
set_option maxRecDepth 100000 in
theorem dX8_letters_30 : decode cX8_letters 30 = .ok (.iconst 0, 1) := by decide +kernel
set_option maxRecDepth 100000 in
theorem dX8_letters_31 : decode cX8_letters 31 = .ok (.istore 4, 2) := by decide +kernel
set_option maxRecDepth 100000 in
theorem dX8_letters_33 : decode cX8_letters 33 = .ok (.iload 4, 2) := by decide +kernel
set_option maxRecDepth 100000 in
theorem dX8_letters_35 : decode cX8_letters 35 = .ok (.iload_n 3, 1) := by decide +kernel
set_option maxRecDepth 100000 in
theorem dX8_letters_36 : decode cX8_letters 36 = .ok (.if_icmp .ge 23, 3) := by decide +kernel
set_option maxRecDepth 100000 in
theorem dX8_letters_39 : decode cX8_letters 39 = .ok (.aload_n 0, 1) := by decide +kernel
set_option maxRecDepth 100000 in
theorem dX8_letters_40 : decode cX8_letters 40 = .ok (.getfield 30, 3) := by decide +kernel
set_option maxRecDepth 100000 in
theorem dX8_letters_43 : decode cX8_letters 43 = .ok (.lload_n 1, 1) := by decide +kernel
set_option maxRecDepth 100000 in
theorem dX8_letters_44 : decode cX8_letters 44 = .ok (.iload 4, 2) := by decide +kernel
set_option maxRecDepth 100000 in
theorem dX8_letters_46 : decode cX8_letters 46 = .ok (.invokestatic 95, 3) := by decide +kernel
set_option maxRecDepth 100000 in
theorem dX8_letters_49 : decode cX8_letters 49 = .ok (.i2c, 1) := by decide +kernel
set_option maxRecDepth 100000 in
theorem dX8_letters_50 : decode cX8_letters 50 = .ok (.invokevirtual 99, 3) := by decide +kernel
set_option maxRecDepth 100000 in
theorem dX8_letters_53 : decode cX8_letters 53 = .ok (.iinc 4 1, 3) := by decide +kernel
set_option maxRecDepth 100000 in
theorem dX8_letters_56 : decode cX8_letters 56 = .ok (.goto (-23), 3) := by decide +kernel
set_option maxRecDepth 100000 in
theorem dX8_letters_59 : decode cX8_letters 59 = .ok (.aload_n 0, 1) := by decide +kernel
set_option maxRecDepth 100000 in
theorem dX8_letters_60 : decode cX8_letters 60 = .ok (.getfield 30, 3) := by decide +kernel
set_option maxRecDepth 100000 in
theorem dX8_letters_63 : decode cX8_letters 63 = .ok (.getfield 91, 3) := by decide +kernel
set_option maxRecDepth 100000 in
theorem dX8_letters_66 : decode cX8_letters 66 = .ok (.ireturn, 1) := by decide +kernel
set_option maxRecDepth 100000 in
theorem dX8_fault_0 : decode cX8_fault 0 = .ok (.aload_n 0, 1) := by decide +kernel
set_option maxRecDepth 100000 in
theorem dX8_fault_1 : decode cX8_fault 1 = .ok (.getfield 30, 3) := by decide +kernel
set_option maxRecDepth 100000 in
theorem dX8_fault_4 : decode cX8_fault 4 = .ok (.aload_n 0, 1) := by decide +kernel
set_option maxRecDepth 100000 in
theorem dX8_fault_5 : decode cX8_fault 5 = .ok (.getfield 45, 3) := by decide +kernel
set_option maxRecDepth 100000 in
theorem dX8_fault_8 : decode cX8_fault 8 = .ok (.invokevirtual 103, 3) := by decide +kernel
set_option maxRecDepth 100000 in
theorem dX8_fault_11 : decode cX8_fault 11 = .ok (.pop, 1) := by decide +kernel
set_option maxRecDepth 100000 in
theorem dX8_fault_12 : decode cX8_fault 12 = .ok (.aload_n 0, 1) := by decide +kernel
set_option maxRecDepth 100000 in
theorem dX8_fault_13 : decode cX8_fault 13 = .ok (.getfield 30, 3) := by decide +kernel
set_option maxRecDepth 100000 in
theorem dX8_fault_16 : decode cX8_fault 16 = .ok (.getfield 107, 3) := by decide +kernel
set_option maxRecDepth 100000 in
theorem dX8_fault_19 : decode cX8_fault 19 = .ok (.ireturn, 1) := by decide +kernel
set_option maxRecDepth 100000 in
theorem dX8_clock_0 : decode cX8_clock 0 = .ok (.aload_n 0, 1) := by decide +kernel
set_option maxRecDepth 100000 in
theorem dX8_clock_1 : decode cX8_clock 1 = .ok (.getfield 30, 3) := by decide +kernel
set_option maxRecDepth 100000 in
theorem dX8_clock_4 : decode cX8_clock 4 = .ok (.aload_n 0, 1) := by decide +kernel
set_option maxRecDepth 100000 in
theorem dX8_clock_5 : decode cX8_clock 5 = .ok (.getfield 45, 3) := by decide +kernel
set_option maxRecDepth 100000 in
theorem dX8_clock_8 : decode cX8_clock 8 = .ok (.invokevirtual 103, 3) := by decide +kernel
set_option maxRecDepth 100000 in
theorem dX8_clock_11 : decode cX8_clock 11 = .ok (.ifCond .ne 6, 3) := by decide +kernel
set_option maxRecDepth 100000 in
theorem dX8_clock_14 : decode cX8_clock 14 = .ok (.bipush (-103), 2) := by decide +kernel
set_option maxRecDepth 100000 in
theorem dX8_clock_16 : decode cX8_clock 16 = .ok (.ireturn, 1) := by decide +kernel
set_option maxRecDepth 100000 in
theorem dX8_clock_17 : decode cX8_clock 17 = .ok (.aload_n 0, 1) := by decide +kernel
set_option maxRecDepth 100000 in
theorem dX8_clock_18 : decode cX8_clock 18 = .ok (.getfield 110, 3) := by decide +kernel
set_option maxRecDepth 100000 in
theorem dX8_clock_21 : decode cX8_clock 21 = .ok (.iconst 4, 1) := by decide +kernel
set_option maxRecDepth 100000 in
theorem dX8_clock_22 : decode cX8_clock 22 = .ok (.if_icmp .lt 6, 3) := by decide +kernel
set_option maxRecDepth 100000 in
theorem dX8_clock_25 : decode cX8_clock 25 = .ok (.bipush (-104), 2) := by decide +kernel
set_option maxRecDepth 100000 in
theorem dX8_clock_27 : decode cX8_clock 27 = .ok (.ireturn, 1) := by decide +kernel
set_option maxRecDepth 100000 in
theorem dX8_clock_28 : decode cX8_clock 28 = .ok (.new 9, 3) := by decide +kernel
set_option maxRecDepth 100000 in
theorem dX8_clock_31 : decode cX8_clock 31 = .ok (.dup, 1) := by decide +kernel
set_option maxRecDepth 100000 in
theorem dX8_clock_32 : decode cX8_clock 32 = .ok (.invokespecial 44, 3) := by decide +kernel
set_option maxRecDepth 100000 in
theorem dX8_clock_35 : decode cX8_clock 35 = .ok (.astore_n 1, 1) := by decide +kernel
set_option maxRecDepth 100000 in
theorem dX8_clock_36 : decode cX8_clock 36 = .ok (.aload_n 1, 1) := by decide +kernel
set_option maxRecDepth 100000 in
theorem dX8_clock_37 : decode cX8_clock 37 = .ok (.aload_n 0, 1) := by decide +kernel
set_option maxRecDepth 100000 in
theorem dX8_clock_38 : decode cX8_clock 38 = .ok (.getfield 45, 3) := by decide +kernel
set_option maxRecDepth 100000 in
theorem dX8_clock_41 : decode cX8_clock 41 = .ok (.invokevirtual 113, 3) := by decide +kernel
set_option maxRecDepth 100000 in
theorem dX8_clock_44 : decode cX8_clock 44 = .ok (.aload_n 0, 1) := by decide +kernel
set_option maxRecDepth 100000 in
theorem dX8_clock_45 : decode cX8_clock 45 = .ok (.getfield 11, 3) := by decide +kernel
set_option maxRecDepth 100000 in
theorem dX8_clock_48 : decode cX8_clock 48 = .ok (.aload_n 0, 1) := by decide +kernel
set_option maxRecDepth 100000 in
theorem dX8_clock_49 : decode cX8_clock 49 = .ok (.getfield 110, 3) := by decide +kernel
set_option maxRecDepth 100000 in
theorem dX8_clock_52 : decode cX8_clock 52 = .ok (.aload_n 1, 1) := by decide +kernel
set_option maxRecDepth 100000 in
theorem dX8_clock_53 : decode cX8_clock 53 = .ok (.aastore, 1) := by decide +kernel
set_option maxRecDepth 100000 in
theorem dX8_clock_54 : decode cX8_clock 54 = .ok (.aload_n 0, 1) := by decide +kernel
set_option maxRecDepth 100000 in
theorem dX8_clock_55 : decode cX8_clock 55 = .ok (.dup, 1) := by decide +kernel
set_option maxRecDepth 100000 in
theorem dX8_clock_56 : decode cX8_clock 56 = .ok (.getfield 110, 3) := by decide +kernel
set_option maxRecDepth 100000 in
theorem dX8_clock_59 : decode cX8_clock 59 = .ok (.iconst 1, 1) := by decide +kernel
set_option maxRecDepth 100000 in
theorem dX8_clock_60 : decode cX8_clock 60 = .ok (.iadd, 1) := by decide +kernel
set_option maxRecDepth 100000 in
theorem dX8_clock_61 : decode cX8_clock 61 = .ok (.putfield 110, 3) := by decide +kernel
set_option maxRecDepth 100000 in
theorem dX8_clock_64 : decode cX8_clock 64 = .ok (.aload_n 0, 1) := by decide +kernel
set_option maxRecDepth 100000 in
theorem dX8_clock_65 : decode cX8_clock 65 = .ok (.getfield 30, 3) := by decide +kernel
set_option maxRecDepth 100000 in
theorem dX8_clock_68 : decode cX8_clock 68 = .ok (.iconst 0, 1) := by decide +kernel
set_option maxRecDepth 100000 in
theorem dX8_clock_69 : decode cX8_clock 69 = .ok (.putfield 91, 3) := by decide +kernel
set_option maxRecDepth 100000 in
theorem dX8_clock_72 : decode cX8_clock 72 = .ok (.aload_n 0, 1) := by decide +kernel
set_option maxRecDepth 100000 in
theorem dX8_clock_73 : decode cX8_clock 73 = .ok (.getfield 110, 3) := by decide +kernel
set_option maxRecDepth 100000 in
theorem dX8_clock_76 : decode cX8_clock 76 = .ok (.iconst 1, 1) := by decide +kernel
set_option maxRecDepth 100000 in
theorem dX8_clock_77 : decode cX8_clock 77 = .ok (.isub, 1) := by decide +kernel
set_option maxRecDepth 100000 in
theorem dX8_clock_78 : decode cX8_clock 78 = .ok (.ireturn, 1) := by decide +kernel
set_option maxRecDepth 100000 in
theorem dX8_season_0 : decode cX8_season 0 = .ok (.iload_n 1, 1) := by decide +kernel
set_option maxRecDepth 100000 in
theorem dX8_season_1 : decode cX8_season 1 = .ok (.invokestatic 136, 3) := by decide +kernel
set_option maxRecDepth 100000 in
theorem dX8_season_4 : decode cX8_season 4 = .ok (.ifCond .ne 6, 3) := by decide +kernel
set_option maxRecDepth 100000 in
theorem dX8_season_7 : decode cX8_season 7 = .ok (.bipush (-101), 2) := by decide +kernel
set_option maxRecDepth 100000 in
theorem dX8_season_9 : decode cX8_season 9 = .ok (.ireturn, 1) := by decide +kernel
set_option maxRecDepth 100000 in
theorem dX8_season_10 : decode cX8_season 10 = .ok (.iload_n 2, 1) := by decide +kernel
set_option maxRecDepth 100000 in
theorem dX8_season_11 : decode cX8_season 11 = .ok (.ifCond .ne 28, 3) := by decide +kernel
set_option maxRecDepth 100000 in
theorem dX8_season_14 : decode cX8_season 14 = .ok (.iload_n 3, 1) := by decide +kernel
set_option maxRecDepth 100000 in
theorem dX8_season_15 : decode cX8_season 15 = .ok (.bipush 50, 2) := by decide +kernel
set_option maxRecDepth 100000 in
theorem dX8_season_17 : decode cX8_season 17 = .ok (.sipush 150, 3) := by decide +kernel
set_option maxRecDepth 100000 in
theorem dX8_season_20 : decode cX8_season 20 = .ok (.invokestatic 121, 3) := by decide +kernel
set_option maxRecDepth 100000 in
theorem dX8_season_23 : decode cX8_season 23 = .ok (.ifCond .eq 16, 3) := by decide +kernel
set_option maxRecDepth 100000 in
theorem dX8_season_26 : decode cX8_season 26 = .ok (.aload_n 0, 1) := by decide +kernel
set_option maxRecDepth 100000 in
theorem dX8_season_27 : decode cX8_season 27 = .ok (.getfield 37, 3) := by decide +kernel
set_option maxRecDepth 100000 in
theorem dX8_season_30 : decode cX8_season 30 = .ok (.getfield 140, 3) := by decide +kernel
set_option maxRecDepth 100000 in
theorem dX8_season_33 : decode cX8_season 33 = .ok (.iload_n 1, 1) := by decide +kernel
set_option maxRecDepth 100000 in
theorem dX8_season_34 : decode cX8_season 34 = .ok (.iload_n 3, 1) := by decide +kernel
set_option maxRecDepth 100000 in
theorem dX8_season_35 : decode cX8_season 35 = .ok (.invokestatic 143, 3) := by decide +kernel
set_option maxRecDepth 100000 in
theorem dX8_season_38 : decode cX8_season 38 = .ok (.ireturn, 1) := by decide +kernel
set_option maxRecDepth 100000 in
theorem dX8_season_39 : decode cX8_season 39 = .ok (.iload_n 2, 1) := by decide +kernel
set_option maxRecDepth 100000 in
theorem dX8_season_40 : decode cX8_season 40 = .ok (.iconst 1, 1) := by decide +kernel
set_option maxRecDepth 100000 in
theorem dX8_season_41 : decode cX8_season 41 = .ok (.if_icmp .ne 27, 3) := by decide +kernel
set_option maxRecDepth 100000 in
theorem dX8_season_44 : decode cX8_season 44 = .ok (.iload_n 3, 1) := by decide +kernel
set_option maxRecDepth 100000 in
theorem dX8_season_45 : decode cX8_season 45 = .ok (.bipush 24, 2) := by decide +kernel
set_option maxRecDepth 100000 in
theorem dX8_season_47 : decode cX8_season 47 = .ok (.bipush 72, 2) := by decide +kernel
set_option maxRecDepth 100000 in
theorem dX8_season_49 : decode cX8_season 49 = .ok (.invokestatic 121, 3) := by decide +kernel
set_option maxRecDepth 100000 in
theorem dX8_season_52 : decode cX8_season 52 = .ok (.ifCond .eq 16, 3) := by decide +kernel
set_option maxRecDepth 100000 in
theorem dX8_season_55 : decode cX8_season 55 = .ok (.aload_n 0, 1) := by decide +kernel
set_option maxRecDepth 100000 in
theorem dX8_season_56 : decode cX8_season 56 = .ok (.getfield 37, 3) := by decide +kernel
set_option maxRecDepth 100000 in
theorem dX8_season_59 : decode cX8_season 59 = .ok (.getfield 147, 3) := by decide +kernel
set_option maxRecDepth 100000 in
theorem dX8_season_62 : decode cX8_season 62 = .ok (.iload_n 1, 1) := by decide +kernel
set_option maxRecDepth 100000 in
theorem dX8_season_63 : decode cX8_season 63 = .ok (.iload_n 3, 1) := by decide +kernel
set_option maxRecDepth 100000 in
theorem dX8_season_64 : decode cX8_season 64 = .ok (.invokestatic 143, 3) := by decide +kernel
set_option maxRecDepth 100000 in
theorem dX8_season_67 : decode cX8_season 67 = .ok (.ireturn, 1) := by decide +kernel
set_option maxRecDepth 100000 in
theorem dX8_season_68 : decode cX8_season 68 = .ok (.bipush (-102), 2) := by decide +kernel
set_option maxRecDepth 100000 in
theorem dX8_season_70 : decode cX8_season 70 = .ok (.ireturn, 1) := by decide +kernel
set_option maxRecDepth 100000 in
theorem dX8_faulty_0 : decode cX8_faulty 0 = .ok (.iload_n 1, 1) := by decide +kernel
set_option maxRecDepth 100000 in
theorem dX8_faulty_1 : decode cX8_faulty 1 = .ok (.invokestatic 150, 3) := by decide +kernel
set_option maxRecDepth 100000 in
theorem dX8_faulty_4 : decode cX8_faulty 4 = .ok (.ifCond .eq 30, 3) := by decide +kernel
set_option maxRecDepth 100000 in
theorem dX8_faulty_7 : decode cX8_faulty 7 = .ok (.iload_n 2, 1) := by decide +kernel
set_option maxRecDepth 100000 in
theorem dX8_faulty_8 : decode cX8_faulty 8 = .ok (.iconst 0, 1) := by decide +kernel
set_option maxRecDepth 100000 in
theorem dX8_faulty_9 : decode cX8_faulty 9 = .ok (.iconst 2, 1) := by decide +kernel
set_option maxRecDepth 100000 in
theorem dX8_faulty_10 : decode cX8_faulty 10 = .ok (.invokestatic 121, 3) := by decide +kernel
set_option maxRecDepth 100000 in
theorem dX8_faulty_13 : decode cX8_faulty 13 = .ok (.ifCond .eq 21, 3) := by decide +kernel
set_option maxRecDepth 100000 in
theorem dX8_faulty_16 : decode cX8_faulty 16 = .ok (.iload_n 3, 1) := by decide +kernel
set_option maxRecDepth 100000 in
theorem dX8_faulty_17 : decode cX8_faulty 17 = .ok (.iconst 1, 1) := by decide +kernel
set_option maxRecDepth 100000 in
theorem dX8_faulty_18 : decode cX8_faulty 18 = .ok (.bipush 20, 2) := by decide +kernel
set_option maxRecDepth 100000 in
theorem dX8_faulty_20 : decode cX8_faulty 20 = .ok (.invokestatic 121, 3) := by decide +kernel
set_option maxRecDepth 100000 in
theorem dX8_faulty_23 : decode cX8_faulty 23 = .ok (.ifCond .eq 11, 3) := by decide +kernel
set_option maxRecDepth 100000 in
theorem dX8_faulty_26 : decode cX8_faulty 26 = .ok (.iload 4, 2) := by decide +kernel
set_option maxRecDepth 100000 in
theorem dX8_faulty_28 : decode cX8_faulty 28 = .ok (.invokestatic 153, 3) := by decide +kernel
set_option maxRecDepth 100000 in
theorem dX8_faulty_31 : decode cX8_faulty 31 = .ok (.ifCond .ne 6, 3) := by decide +kernel
set_option maxRecDepth 100000 in
theorem dX8_faulty_34 : decode cX8_faulty 34 = .ok (.bipush (-102), 2) := by decide +kernel
set_option maxRecDepth 100000 in
theorem dX8_faulty_36 : decode cX8_faulty 36 = .ok (.ireturn, 1) := by decide +kernel
set_option maxRecDepth 100000 in
theorem dX8_faulty_37 : decode cX8_faulty 37 = .ok (.aload_n 0, 1) := by decide +kernel
set_option maxRecDepth 100000 in
theorem dX8_faulty_38 : decode cX8_faulty 38 = .ok (.getfield 156, 3) := by decide +kernel
set_option maxRecDepth 100000 in
theorem dX8_faulty_41 : decode cX8_faulty 41 = .ok (.bipush 8, 2) := by decide +kernel
set_option maxRecDepth 100000 in
theorem dX8_faulty_43 : decode cX8_faulty 43 = .ok (.if_icmp .lt 6, 3) := by decide +kernel
set_option maxRecDepth 100000 in
theorem dX8_faulty_46 : decode cX8_faulty 46 = .ok (.bipush (-104), 2) := by decide +kernel
set_option maxRecDepth 100000 in
theorem dX8_faulty_48 : decode cX8_faulty 48 = .ok (.ireturn, 1) := by decide +kernel
set_option maxRecDepth 100000 in
theorem dX8_faulty_49 : decode cX8_faulty 49 = .ok (.new 15, 3) := by decide +kernel
set_option maxRecDepth 100000 in
theorem dX8_faulty_52 : decode cX8_faulty 52 = .ok (.dup, 1) := by decide +kernel
set_option maxRecDepth 100000 in
theorem dX8_faulty_53 : decode cX8_faulty 53 = .ok (.invokespecial 49, 3) := by decide +kernel
set_option maxRecDepth 100000 in
theorem dX8_faulty_56 : decode cX8_faulty 56 = .ok (.astore 5, 2) := by decide +kernel
set_option maxRecDepth 100000 in
theorem dX8_faulty_58 : decode cX8_faulty 58 = .ok (.aload 5, 2) := by decide +kernel
set_option maxRecDepth 100000 in
theorem dX8_faulty_60 : decode cX8_faulty 60 = .ok (.iload_n 1, 1) := by decide +kernel
set_option maxRecDepth 100000 in
theorem dX8_faulty_61 : decode cX8_faulty 61 = .ok (.iload_n 2, 1) := by decide +kernel
set_option maxRecDepth 100000 in
theorem dX8_faulty_62 : decode cX8_faulty 62 = .ok (.iload_n 3, 1) := by decide +kernel
set_option maxRecDepth 100000 in
theorem dX8_faulty_63 : decode cX8_faulty 63 = .ok (.iload 4, 2) := by decide +kernel
set_option maxRecDepth 100000 in
theorem dX8_faulty_65 : decode cX8_faulty 65 = .ok (.invokevirtual 159, 3) := by decide +kernel
set_option maxRecDepth 100000 in
theorem dX8_faulty_68 : decode cX8_faulty 68 = .ok (.aload_n 0, 1) := by decide +kernel
set_option maxRecDepth 100000 in
theorem dX8_faulty_69 : decode cX8_faulty 69 = .ok (.getfield 17, 3) := by decide +kernel
set_option maxRecDepth 100000 in
theorem dX8_faulty_72 : decode cX8_faulty 72 = .ok (.aload_n 0, 1) := by decide +kernel
set_option maxRecDepth 100000 in
theorem dX8_faulty_73 : decode cX8_faulty 73 = .ok (.getfield 156, 3) := by decide +kernel
set_option maxRecDepth 100000 in
theorem dX8_faulty_76 : decode cX8_faulty 76 = .ok (.aload 5, 2) := by decide +kernel
set_option maxRecDepth 100000 in
theorem dX8_faulty_78 : decode cX8_faulty 78 = .ok (.aastore, 1) := by decide +kernel
set_option maxRecDepth 100000 in
theorem dX8_faulty_79 : decode cX8_faulty 79 = .ok (.aload_n 0, 1) := by decide +kernel
set_option maxRecDepth 100000 in
theorem dX8_faulty_80 : decode cX8_faulty 80 = .ok (.dup, 1) := by decide +kernel
set_option maxRecDepth 100000 in
theorem dX8_faulty_81 : decode cX8_faulty 81 = .ok (.getfield 156, 3) := by decide +kernel
set_option maxRecDepth 100000 in
theorem dX8_faulty_84 : decode cX8_faulty 84 = .ok (.iconst 1, 1) := by decide +kernel
set_option maxRecDepth 100000 in
theorem dX8_faulty_85 : decode cX8_faulty 85 = .ok (.iadd, 1) := by decide +kernel
set_option maxRecDepth 100000 in
theorem dX8_faulty_86 : decode cX8_faulty 86 = .ok (.putfield 156, 3) := by decide +kernel
set_option maxRecDepth 100000 in
theorem dX8_faulty_89 : decode cX8_faulty 89 = .ok (.aload_n 0, 1) := by decide +kernel
set_option maxRecDepth 100000 in
theorem dX8_faulty_90 : decode cX8_faulty 90 = .ok (.getfield 156, 3) := by decide +kernel
set_option maxRecDepth 100000 in
theorem dX8_faulty_93 : decode cX8_faulty 93 = .ok (.iconst 1, 1) := by decide +kernel
set_option maxRecDepth 100000 in
theorem dX8_faulty_94 : decode cX8_faulty 94 = .ok (.isub, 1) := by decide +kernel
set_option maxRecDepth 100000 in
theorem dX8_faulty_95 : decode cX8_faulty 95 = .ok (.ireturn, 1) := by decide +kernel
set_option maxRecDepth 100000 in
theorem dX8_as_0 : decode cX8_as 0 = .ok (.iload_n 1, 1) := by decide +kernel
set_option maxRecDepth 100000 in
theorem dX8_as_1 : decode cX8_as 1 = .ok (.iconst 0, 1) := by decide +kernel
set_option maxRecDepth 100000 in
theorem dX8_as_2 : decode cX8_as 2 = .ok (.aload_n 0, 1) := by decide +kernel
set_option maxRecDepth 100000 in
theorem dX8_as_3 : decode cX8_as 3 = .ok (.getfield 156, 3) := by decide +kernel
set_option maxRecDepth 100000 in
theorem dX8_as_6 : decode cX8_as 6 = .ok (.iconst 1, 1) := by decide +kernel
set_option maxRecDepth 100000 in
theorem dX8_as_7 : decode cX8_as 7 = .ok (.isub, 1) := by decide +kernel
set_option maxRecDepth 100000 in
theorem dX8_as_8 : decode cX8_as 8 = .ok (.invokestatic 121, 3) := by decide +kernel
set_option maxRecDepth 100000 in
theorem dX8_as_11 : decode cX8_as 11 = .ok (.ifCond .ne 6, 3) := by decide +kernel
set_option maxRecDepth 100000 in
theorem dX8_as_14 : decode cX8_as 14 = .ok (.bipush (-101), 2) := by decide +kernel
set_option maxRecDepth 100000 in
theorem dX8_as_16 : decode cX8_as 16 = .ok (.ireturn, 1) := by decide +kernel
set_option maxRecDepth 100000 in
theorem dX8_as_17 : decode cX8_as 17 = .ok (.iload_n 2, 1) := by decide +kernel
set_option maxRecDepth 100000 in
theorem dX8_as_18 : decode cX8_as 18 = .ok (.invokestatic 150, 3) := by decide +kernel
set_option maxRecDepth 100000 in
theorem dX8_as_21 : decode cX8_as 21 = .ok (.ifCond .ne 6, 3) := by decide +kernel
set_option maxRecDepth 100000 in
theorem dX8_as_24 : decode cX8_as 24 = .ok (.bipush (-102), 2) := by decide +kernel
set_option maxRecDepth 100000 in
theorem dX8_as_26 : decode cX8_as 26 = .ok (.ireturn, 1) := by decide +kernel
set_option maxRecDepth 100000 in
theorem dX8_as_27 : decode cX8_as 27 = .ok (.aload_n 0, 1) := by decide +kernel
set_option maxRecDepth 100000 in
theorem dX8_as_28 : decode cX8_as 28 = .ok (.iload_n 1, 1) := by decide +kernel
set_option maxRecDepth 100000 in
theorem dX8_as_29 : decode cX8_as 29 = .ok (.invokevirtual 163, 3) := by decide +kernel
set_option maxRecDepth 100000 in
theorem dX8_as_32 : decode cX8_as 32 = .ok (.astore_n 3, 1) := by decide +kernel
set_option maxRecDepth 100000 in
theorem dX8_as_33 : decode cX8_as 33 = .ok (.aload_n 3, 1) := by decide +kernel
set_option maxRecDepth 100000 in
theorem dX8_as_34 : decode cX8_as 34 = .ok (.ifnull 18, 3) := by decide +kernel
set_option maxRecDepth 100000 in
theorem dX8_as_37 : decode cX8_as 37 = .ok (.aload_n 3, 1) := by decide +kernel
set_option maxRecDepth 100000 in
theorem dX8_as_38 : decode cX8_as 38 = .ok (.getfield 167, 3) := by decide +kernel
set_option maxRecDepth 100000 in
theorem dX8_as_41 : decode cX8_as 41 = .ok (.iload_n 2, 1) := by decide +kernel
set_option maxRecDepth 100000 in
theorem dX8_as_42 : decode cX8_as 42 = .ok (.invokestatic 170, 3) := by decide +kernel
set_option maxRecDepth 100000 in
theorem dX8_as_45 : decode cX8_as 45 = .ok (.ifCond .eq 7, 3) := by decide +kernel
set_option maxRecDepth 100000 in
theorem dX8_as_48 : decode cX8_as 48 = .ok (.iload_n 1, 1) := by decide +kernel
set_option maxRecDepth 100000 in
theorem dX8_as_49 : decode cX8_as 49 = .ok (.goto 4, 3) := by decide +kernel
set_option maxRecDepth 100000 in
theorem dX8_as_52 : decode cX8_as 52 = .ok (.iconst (-1), 1) := by decide +kernel
set_option maxRecDepth 100000 in
theorem dX8_as_53 : decode cX8_as 53 = .ok (.ireturn, 1) := by decide +kernel
set_option maxRecDepth 100000 in
theorem dX8_work_0 : decode cX8_work 0 = .ok (.iload_n 1, 1) := by decide +kernel
set_option maxRecDepth 100000 in
theorem dX8_work_1 : decode cX8_work 1 = .ok (.invokestatic 150, 3) := by decide +kernel
set_option maxRecDepth 100000 in
theorem dX8_work_4 : decode cX8_work 4 = .ok (.ifCond .eq 18, 3) := by decide +kernel
set_option maxRecDepth 100000 in
theorem dX8_work_7 : decode cX8_work 7 = .ok (.iload_n 2, 1) := by decide +kernel
set_option maxRecDepth 100000 in
theorem dX8_work_8 : decode cX8_work 8 = .ok (.iload_n 1, 1) := by decide +kernel
set_option maxRecDepth 100000 in
theorem dX8_work_9 : decode cX8_work 9 = .ok (.invokestatic 174, 3) := by decide +kernel
set_option maxRecDepth 100000 in
theorem dX8_work_12 : decode cX8_work 12 = .ok (.iload_n 1, 1) := by decide +kernel
set_option maxRecDepth 100000 in
theorem dX8_work_13 : decode cX8_work 13 = .ok (.invokestatic 177, 3) := by decide +kernel
set_option maxRecDepth 100000 in
theorem dX8_work_16 : decode cX8_work 16 = .ok (.invokestatic 121, 3) := by decide +kernel
set_option maxRecDepth 100000 in
theorem dX8_work_19 : decode cX8_work 19 = .ok (.ifCond .ne 6, 3) := by decide +kernel
set_option maxRecDepth 100000 in
theorem dX8_work_22 : decode cX8_work 22 = .ok (.bipush (-102), 2) := by decide +kernel
set_option maxRecDepth 100000 in
theorem dX8_work_24 : decode cX8_work 24 = .ok (.ireturn, 1) := by decide +kernel
set_option maxRecDepth 100000 in
theorem dX8_work_25 : decode cX8_work 25 = .ok (.aload_n 0, 1) := by decide +kernel
set_option maxRecDepth 100000 in
theorem dX8_work_26 : decode cX8_work 26 = .ok (.iload_n 3, 1) := by decide +kernel
set_option maxRecDepth 100000 in
theorem dX8_work_27 : decode cX8_work 27 = .ok (.invokevirtual 180, 3) := by decide +kernel
set_option maxRecDepth 100000 in
theorem dX8_work_30 : decode cX8_work 30 = .ok (.ifCond .ne 6, 3) := by decide +kernel
set_option maxRecDepth 100000 in
theorem dX8_work_33 : decode cX8_work 33 = .ok (.bipush (-101), 2) := by decide +kernel
set_option maxRecDepth 100000 in
theorem dX8_work_35 : decode cX8_work 35 = .ok (.ireturn, 1) := by decide +kernel
set_option maxRecDepth 100000 in
theorem dX8_work_36 : decode cX8_work 36 = .ok (.aload_n 0, 1) := by decide +kernel
set_option maxRecDepth 100000 in
theorem dX8_work_37 : decode cX8_work 37 = .ok (.getfield 183, 3) := by decide +kernel
set_option maxRecDepth 100000 in
theorem dX8_work_40 : decode cX8_work 40 = .ok (.bipush 10, 2) := by decide +kernel
set_option maxRecDepth 100000 in
theorem dX8_work_42 : decode cX8_work 42 = .ok (.if_icmp .lt 6, 3) := by decide +kernel
set_option maxRecDepth 100000 in
theorem dX8_work_45 : decode cX8_work 45 = .ok (.bipush (-104), 2) := by decide +kernel
set_option maxRecDepth 100000 in
theorem dX8_work_47 : decode cX8_work 47 = .ok (.ireturn, 1) := by decide +kernel
set_option maxRecDepth 100000 in
theorem dX8_work_48 : decode cX8_work 48 = .ok (.aload_n 0, 1) := by decide +kernel
set_option maxRecDepth 100000 in
theorem dX8_work_49 : decode cX8_work 49 = .ok (.getfield 23, 3) := by decide +kernel
set_option maxRecDepth 100000 in
theorem dX8_work_52 : decode cX8_work 52 = .ok (.aload_n 0, 1) := by decide +kernel
set_option maxRecDepth 100000 in
theorem dX8_work_53 : decode cX8_work 53 = .ok (.getfield 183, 3) := by decide +kernel
set_option maxRecDepth 100000 in
theorem dX8_work_56 : decode cX8_work 56 = .ok (.new 21, 3) := by decide +kernel
set_option maxRecDepth 100000 in
theorem dX8_work_59 : decode cX8_work 59 = .ok (.dup, 1) := by decide +kernel
set_option maxRecDepth 100000 in
theorem dX8_work_60 : decode cX8_work 60 = .ok (.aload_n 0, 1) := by decide +kernel
set_option maxRecDepth 100000 in
theorem dX8_work_61 : decode cX8_work 61 = .ok (.getfield 183, 3) := by decide +kernel
set_option maxRecDepth 100000 in
theorem dX8_work_64 : decode cX8_work 64 = .ok (.iload_n 1, 1) := by decide +kernel
set_option maxRecDepth 100000 in
theorem dX8_work_65 : decode cX8_work 65 = .ok (.iload_n 2, 1) := by decide +kernel
set_option maxRecDepth 100000 in
theorem dX8_work_66 : decode cX8_work 66 = .ok (.aload_n 0, 1) := by decide +kernel
set_option maxRecDepth 100000 in
theorem dX8_work_67 : decode cX8_work 67 = .ok (.iload_n 3, 1) := by decide +kernel
set_option maxRecDepth 100000 in
theorem dX8_work_68 : decode cX8_work 68 = .ok (.invokevirtual 186, 3) := by decide +kernel
set_option maxRecDepth 100000 in
theorem dX8_work_71 : decode cX8_work 71 = .ok (.invokespecial 190, 3) := by decide +kernel
set_option maxRecDepth 100000 in
theorem dX8_work_74 : decode cX8_work 74 = .ok (.aastore, 1) := by decide +kernel
set_option maxRecDepth 100000 in
theorem dX8_work_75 : decode cX8_work 75 = .ok (.aload_n 0, 1) := by decide +kernel
set_option maxRecDepth 100000 in
theorem dX8_work_76 : decode cX8_work 76 = .ok (.dup, 1) := by decide +kernel
set_option maxRecDepth 100000 in
theorem dX8_work_77 : decode cX8_work 77 = .ok (.getfield 183, 3) := by decide +kernel
set_option maxRecDepth 100000 in
theorem dX8_work_80 : decode cX8_work 80 = .ok (.iconst 1, 1) := by decide +kernel
set_option maxRecDepth 100000 in
theorem dX8_work_81 : decode cX8_work 81 = .ok (.iadd, 1) := by decide +kernel
set_option maxRecDepth 100000 in
theorem dX8_work_82 : decode cX8_work 82 = .ok (.putfield 183, 3) := by decide +kernel
set_option maxRecDepth 100000 in
theorem dX8_work_85 : decode cX8_work 85 = .ok (.aload_n 0, 1) := by decide +kernel
set_option maxRecDepth 100000 in
theorem dX8_work_86 : decode cX8_work 86 = .ok (.getfield 183, 3) := by decide +kernel
set_option maxRecDepth 100000 in
theorem dX8_work_89 : decode cX8_work 89 = .ok (.iconst 1, 1) := by decide +kernel
set_option maxRecDepth 100000 in
theorem dX8_work_90 : decode cX8_work 90 = .ok (.isub, 1) := by decide +kernel
set_option maxRecDepth 100000 in
theorem dX8_work_91 : decode cX8_work 91 = .ok (.ireturn, 1) := by decide +kernel
set_option maxRecDepth 100000 in
theorem dX8_workAs_0 : decode cX8_workAs 0 = .ok (.aload_n 0, 1) := by decide +kernel
set_option maxRecDepth 100000 in
theorem dX8_workAs_1 : decode cX8_workAs 1 = .ok (.iload_n 1, 1) := by decide +kernel
set_option maxRecDepth 100000 in
theorem dX8_workAs_2 : decode cX8_workAs 2 = .ok (.invokevirtual 186, 3) := by decide +kernel
set_option maxRecDepth 100000 in
theorem dX8_workAs_5 : decode cX8_workAs 5 = .ok (.astore_n 3, 1) := by decide +kernel
set_option maxRecDepth 100000 in
theorem dX8_workAs_6 : decode cX8_workAs 6 = .ok (.aload_n 3, 1) := by decide +kernel
set_option maxRecDepth 100000 in
theorem dX8_workAs_7 : decode cX8_workAs 7 = .ok (.ifnonnull 6, 3) := by decide +kernel
set_option maxRecDepth 100000 in
theorem dX8_workAs_10 : decode cX8_workAs 10 = .ok (.bipush (-101), 2) := by decide +kernel
set_option maxRecDepth 100000 in
theorem dX8_workAs_12 : decode cX8_workAs 12 = .ok (.ireturn, 1) := by decide +kernel
set_option maxRecDepth 100000 in
theorem dX8_workAs_13 : decode cX8_workAs 13 = .ok (.iload_n 2, 1) := by decide +kernel
set_option maxRecDepth 100000 in
theorem dX8_workAs_14 : decode cX8_workAs 14 = .ok (.invokestatic 150, 3) := by decide +kernel
set_option maxRecDepth 100000 in
theorem dX8_workAs_17 : decode cX8_workAs 17 = .ok (.ifCond .ne 6, 3) := by decide +kernel
set_option maxRecDepth 100000 in
theorem dX8_workAs_20 : decode cX8_workAs 20 = .ok (.bipush (-102), 2) := by decide +kernel
set_option maxRecDepth 100000 in
theorem dX8_workAs_22 : decode cX8_workAs 22 = .ok (.ireturn, 1) := by decide +kernel
set_option maxRecDepth 100000 in
theorem dX8_workAs_23 : decode cX8_workAs 23 = .ok (.aload_n 3, 1) := by decide +kernel
set_option maxRecDepth 100000 in
theorem dX8_workAs_24 : decode cX8_workAs 24 = .ok (.getfield 193, 3) := by decide +kernel
set_option maxRecDepth 100000 in
theorem dX8_workAs_27 : decode cX8_workAs 27 = .ok (.iload_n 2, 1) := by decide +kernel
set_option maxRecDepth 100000 in
theorem dX8_workAs_28 : decode cX8_workAs 28 = .ok (.invokestatic 194, 3) := by decide +kernel
set_option maxRecDepth 100000 in
theorem dX8_workAs_31 : decode cX8_workAs 31 = .ok (.ifCond .eq 7, 3) := by decide +kernel
set_option maxRecDepth 100000 in
theorem dX8_workAs_34 : decode cX8_workAs 34 = .ok (.iload_n 1, 1) := by decide +kernel
set_option maxRecDepth 100000 in
theorem dX8_workAs_35 : decode cX8_workAs 35 = .ok (.goto 4, 3) := by decide +kernel
set_option maxRecDepth 100000 in
theorem dX8_workAs_38 : decode cX8_workAs 38 = .ok (.iconst (-1), 1) := by decide +kernel
set_option maxRecDepth 100000 in
theorem dX8_workAs_39 : decode cX8_workAs 39 = .ok (.ireturn, 1) := by decide +kernel
set_option maxRecDepth 100000 in
theorem dX8_head_0 : decode cX8_head 0 = .ok (.aload_n 0, 1) := by decide +kernel
set_option maxRecDepth 100000 in
theorem dX8_head_1 : decode cX8_head 1 = .ok (.iload_n 1, 1) := by decide +kernel
set_option maxRecDepth 100000 in
theorem dX8_head_2 : decode cX8_head 2 = .ok (.invokevirtual 180, 3) := by decide +kernel
set_option maxRecDepth 100000 in
theorem dX8_head_5 : decode cX8_head 5 = .ok (.ifCond .ne 6, 3) := by decide +kernel
set_option maxRecDepth 100000 in
theorem dX8_head_8 : decode cX8_head 8 = .ok (.bipush (-101), 2) := by decide +kernel
set_option maxRecDepth 100000 in
theorem dX8_head_10 : decode cX8_head 10 = .ok (.ireturn, 1) := by decide +kernel
set_option maxRecDepth 100000 in
theorem dX8_head_11 : decode cX8_head 11 = .ok (.aload_n 0, 1) := by decide +kernel
set_option maxRecDepth 100000 in
theorem dX8_head_12 : decode cX8_head 12 = .ok (.getfield 37, 3) := by decide +kernel
set_option maxRecDepth 100000 in
theorem dX8_head_15 : decode cX8_head 15 = .ok (.getfield 197, 3) := by decide +kernel
set_option maxRecDepth 100000 in
theorem dX8_head_18 : decode cX8_head 18 = .ok (.istore_n 2, 1) := by decide +kernel
set_option maxRecDepth 100000 in
theorem dX8_head_19 : decode cX8_head 19 = .ok (.aload_n 0, 1) := by decide +kernel
set_option maxRecDepth 100000 in
theorem dX8_head_20 : decode cX8_head 20 = .ok (.getfield 37, 3) := by decide +kernel
set_option maxRecDepth 100000 in
theorem dX8_head_23 : decode cX8_head 23 = .ok (.iload_n 1, 1) := by decide +kernel
set_option maxRecDepth 100000 in
theorem dX8_head_24 : decode cX8_head 24 = .ok (.putfield 197, 3) := by decide +kernel
set_option maxRecDepth 100000 in
theorem dX8_head_27 : decode cX8_head 27 = .ok (.iload_n 2, 1) := by decide +kernel
set_option maxRecDepth 100000 in
theorem dX8_head_28 : decode cX8_head 28 = .ok (.ireturn, 1) := by decide +kernel
set_option maxRecDepth 100000 in
theorem dX8_drops_0 : decode cX8_drops 0 = .ok (.aload_n 0, 1) := by decide +kernel
set_option maxRecDepth 100000 in
theorem dX8_drops_1 : decode cX8_drops 1 = .ok (.iload_n 1, 1) := by decide +kernel
set_option maxRecDepth 100000 in
theorem dX8_drops_2 : decode cX8_drops 2 = .ok (.iload_n 2, 1) := by decide +kernel
set_option maxRecDepth 100000 in
theorem dX8_drops_3 : decode cX8_drops 3 = .ok (.iload_n 3, 1) := by decide +kernel
set_option maxRecDepth 100000 in
theorem dX8_drops_4 : decode cX8_drops 4 = .ok (.invokevirtual 200, 3) := by decide +kernel
set_option maxRecDepth 100000 in
theorem dX8_drops_7 : decode cX8_drops 7 = .ok (.ifCond .eq 18, 3) := by decide +kernel
set_option maxRecDepth 100000 in
theorem dX8_drops_10 : decode cX8_drops 10 = .ok (.aload_n 0, 1) := by decide +kernel
set_option maxRecDepth 100000 in
theorem dX8_drops_11 : decode cX8_drops 11 = .ok (.getfield 62, 3) := by decide +kernel
set_option maxRecDepth 100000 in
theorem dX8_drops_14 : decode cX8_drops 14 = .ok (.getfield 203, 3) := by decide +kernel
set_option maxRecDepth 100000 in
theorem dX8_drops_17 : decode cX8_drops 17 = .ok (.iload 4, 2) := by decide +kernel
set_option maxRecDepth 100000 in
theorem dX8_drops_19 : decode cX8_drops 19 = .ok (.invokevirtual 206, 3) := by decide +kernel
set_option maxRecDepth 100000 in
theorem dX8_drops_22 : decode cX8_drops 22 = .ok (.ifCond .ne 6, 3) := by decide +kernel
set_option maxRecDepth 100000 in
theorem dX8_drops_25 : decode cX8_drops 25 = .ok (.bipush (-101), 2) := by decide +kernel
set_option maxRecDepth 100000 in
theorem dX8_drops_27 : decode cX8_drops 27 = .ok (.ireturn, 1) := by decide +kernel
set_option maxRecDepth 100000 in
theorem dX8_drops_28 : decode cX8_drops 28 = .ok (.aload_n 0, 1) := by decide +kernel
set_option maxRecDepth 100000 in
theorem dX8_drops_29 : decode cX8_drops 29 = .ok (.getfield 62, 3) := by decide +kernel
set_option maxRecDepth 100000 in
theorem dX8_drops_32 : decode cX8_drops 32 = .ok (.bipush 96, 2) := by decide +kernel
set_option maxRecDepth 100000 in
theorem dX8_drops_34 : decode cX8_drops 34 = .ok (.invokevirtual 209, 3) := by decide +kernel
set_option maxRecDepth 100000 in
theorem dX8_drops_37 : decode cX8_drops 37 = .ok (.aload_n 0, 1) := by decide +kernel
set_option maxRecDepth 100000 in
theorem dX8_drops_38 : decode cX8_drops 38 = .ok (.getfield 62, 3) := by decide +kernel
set_option maxRecDepth 100000 in
theorem dX8_drops_41 : decode cX8_drops 41 = .ok (.iload 4, 2) := by decide +kernel
set_option maxRecDepth 100000 in
theorem dX8_drops_43 : decode cX8_drops 43 = .ok (.invokevirtual 213, 3) := by decide +kernel
set_option maxRecDepth 100000 in
theorem dX8_drops_46 : decode cX8_drops 46 = .ok (.ireturn, 1) := by decide +kernel
set_option maxRecDepth 100000 in
theorem dX8_error_0 : decode cX8_error 0 = .ok (.aload_n 0, 1) := by decide +kernel
set_option maxRecDepth 100000 in
theorem dX8_error_1 : decode cX8_error 1 = .ok (.iload_n 1, 1) := by decide +kernel
set_option maxRecDepth 100000 in
theorem dX8_error_2 : decode cX8_error 2 = .ok (.iload_n 2, 1) := by decide +kernel
set_option maxRecDepth 100000 in
theorem dX8_error_3 : decode cX8_error 3 = .ok (.iload_n 3, 1) := by decide +kernel
set_option maxRecDepth 100000 in
theorem dX8_error_4 : decode cX8_error 4 = .ok (.invokevirtual 200, 3) := by decide +kernel
set_option maxRecDepth 100000 in
theorem dX8_error_7 : decode cX8_error 7 = .ok (.ifCond .eq 18, 3) := by decide +kernel
set_option maxRecDepth 100000 in
theorem dX8_error_10 : decode cX8_error 10 = .ok (.aload_n 0, 1) := by decide +kernel
set_option maxRecDepth 100000 in
theorem dX8_error_11 : decode cX8_error 11 = .ok (.getfield 62, 3) := by decide +kernel
set_option maxRecDepth 100000 in
theorem dX8_error_14 : decode cX8_error 14 = .ok (.getfield 203, 3) := by decide +kernel
set_option maxRecDepth 100000 in
theorem dX8_error_17 : decode cX8_error 17 = .ok (.iload 4, 2) := by decide +kernel
set_option maxRecDepth 100000 in
theorem dX8_error_19 : decode cX8_error 19 = .ok (.invokevirtual 206, 3) := by decide +kernel
set_option maxRecDepth 100000 in
theorem dX8_error_22 : decode cX8_error 22 = .ok (.ifCond .ne 7, 3) := by decide +kernel
set_option maxRecDepth 100000 in
theorem dX8_error_25 : decode cX8_error 25 = .ok (.sipush (-1001), 3) := by decide +kernel
set_option maxRecDepth 100000 in
theorem dX8_error_28 : decode cX8_error 28 = .ok (.ireturn, 1) := by decide +kernel
set_option maxRecDepth 100000 in
theorem dX8_error_29 : decode cX8_error 29 = .ok (.aload_n 0, 1) := by decide +kernel
set_option maxRecDepth 100000 in
theorem dX8_error_30 : decode cX8_error 30 = .ok (.getfield 62, 3) := by decide +kernel
set_option maxRecDepth 100000 in
theorem dX8_error_33 : decode cX8_error 33 = .ok (.bipush 96, 2) := by decide +kernel
set_option maxRecDepth 100000 in
theorem dX8_error_35 : decode cX8_error 35 = .ok (.invokevirtual 209, 3) := by decide +kernel
set_option maxRecDepth 100000 in
theorem dX8_error_38 : decode cX8_error 38 = .ok (.aload_n 0, 1) := by decide +kernel
set_option maxRecDepth 100000 in
theorem dX8_error_39 : decode cX8_error 39 = .ok (.getfield 62, 3) := by decide +kernel
set_option maxRecDepth 100000 in
theorem dX8_error_42 : decode cX8_error 42 = .ok (.iload 4, 2) := by decide +kernel
set_option maxRecDepth 100000 in
theorem dX8_error_44 : decode cX8_error 44 = .ok (.aload_n 0, 1) := by decide +kernel
set_option maxRecDepth 100000 in
theorem dX8_error_45 : decode cX8_error 45 = .ok (.iload_n 2, 1) := by decide +kernel
set_option maxRecDepth 100000 in
theorem dX8_error_46 : decode cX8_error 46 = .ok (.invokevirtual 216, 3) := by decide +kernel
set_option maxRecDepth 100000 in
theorem dX8_error_49 : decode cX8_error 49 = .ok (.invokevirtual 219, 3) := by decide +kernel
set_option maxRecDepth 100000 in
theorem dX8_error_52 : decode cX8_error 52 = .ok (.ireturn, 1) := by decide +kernel
set_option maxRecDepth 100000 in
theorem dX8_at_0 : decode cX8_at 0 = .ok (.aload_n 0, 1) := by decide +kernel
set_option maxRecDepth 100000 in
theorem dX8_at_1 : decode cX8_at 1 = .ok (.iload_n 1, 1) := by decide +kernel
set_option maxRecDepth 100000 in
theorem dX8_at_2 : decode cX8_at 2 = .ok (.iload_n 2, 1) := by decide +kernel
set_option maxRecDepth 100000 in
theorem dX8_at_3 : decode cX8_at 3 = .ok (.iload_n 3, 1) := by decide +kernel
set_option maxRecDepth 100000 in
theorem dX8_at_4 : decode cX8_at 4 = .ok (.invokevirtual 200, 3) := by decide +kernel
set_option maxRecDepth 100000 in
theorem dX8_at_7 : decode cX8_at 7 = .ok (.ifCond .ne 6, 3) := by decide +kernel
set_option maxRecDepth 100000 in
theorem dX8_at_10 : decode cX8_at 10 = .ok (.bipush (-101), 2) := by decide +kernel
set_option maxRecDepth 100000 in
theorem dX8_at_12 : decode cX8_at 12 = .ok (.ireturn, 1) := by decide +kernel
set_option maxRecDepth 100000 in
theorem dX8_at_13 : decode cX8_at 13 = .ok (.iload 4, 2) := by decide +kernel
set_option maxRecDepth 100000 in
theorem dX8_at_15 : decode cX8_at 15 = .ok (.invokestatic 153, 3) := by decide +kernel
set_option maxRecDepth 100000 in
theorem dX8_at_18 : decode cX8_at 18 = .ok (.ifCond .eq 14, 3) := by decide +kernel
set_option maxRecDepth 100000 in
theorem dX8_at_21 : decode cX8_at 21 = .ok (.iload 5, 2) := by decide +kernel
set_option maxRecDepth 100000 in
theorem dX8_at_23 : decode cX8_at 23 = .ok (.iconst 0, 1) := by decide +kernel
set_option maxRecDepth 100000 in
theorem dX8_at_24 : decode cX8_at 24 = .ok (.bipush 7, 2) := by decide +kernel
set_option maxRecDepth 100000 in
theorem dX8_at_26 : decode cX8_at 26 = .ok (.invokestatic 121, 3) := by decide +kernel
set_option maxRecDepth 100000 in
theorem dX8_at_29 : decode cX8_at 29 = .ok (.ifCond .ne 6, 3) := by decide +kernel
set_option maxRecDepth 100000 in
theorem dX8_at_32 : decode cX8_at 32 = .ok (.bipush (-102), 2) := by decide +kernel
set_option maxRecDepth 100000 in
theorem dX8_at_34 : decode cX8_at 34 = .ok (.ireturn, 1) := by decide +kernel
set_option maxRecDepth 100000 in
theorem dX8_at_35 : decode cX8_at 35 = .ok (.aload_n 0, 1) := by decide +kernel
set_option maxRecDepth 100000 in
theorem dX8_at_36 : decode cX8_at 36 = .ok (.getfield 62, 3) := by decide +kernel
set_option maxRecDepth 100000 in
theorem dX8_at_39 : decode cX8_at 39 = .ok (.iload 4, 2) := by decide +kernel
set_option maxRecDepth 100000 in
theorem dX8_at_41 : decode cX8_at 41 = .ok (.iconst 1, 1) := by decide +kernel
set_option maxRecDepth 100000 in
theorem dX8_at_42 : decode cX8_at 42 = .ok (.iadd, 1) := by decide +kernel
set_option maxRecDepth 100000 in
theorem dX8_at_43 : decode cX8_at 43 = .ok (.invokevirtual 209, 3) := by decide +kernel
set_option maxRecDepth 100000 in
theorem dX8_at_46 : decode cX8_at 46 = .ok (.aload_n 0, 1) := by decide +kernel
set_option maxRecDepth 100000 in
theorem dX8_at_47 : decode cX8_at 47 = .ok (.getfield 62, 3) := by decide +kernel
set_option maxRecDepth 100000 in
theorem dX8_at_50 : decode cX8_at 50 = .ok (.iload 5, 2) := by decide +kernel
set_option maxRecDepth 100000 in
theorem dX8_at_52 : decode cX8_at 52 = .ok (.invokevirtual 222, 3) := by decide +kernel
set_option maxRecDepth 100000 in
theorem dX8_at_55 : decode cX8_at 55 = .ok (.ireturn, 1) := by decide +kernel
set_option maxRecDepth 100000 in
theorem dX8_even_0 : decode cX8_even 0 = .ok (.aload_n 0, 1) := by decide +kernel
set_option maxRecDepth 100000 in
theorem dX8_even_1 : decode cX8_even 1 = .ok (.iload_n 1, 1) := by decide +kernel
set_option maxRecDepth 100000 in
theorem dX8_even_2 : decode cX8_even 2 = .ok (.iload_n 2, 1) := by decide +kernel
set_option maxRecDepth 100000 in
theorem dX8_even_3 : decode cX8_even 3 = .ok (.iload_n 3, 1) := by decide +kernel
set_option maxRecDepth 100000 in
theorem dX8_even_4 : decode cX8_even 4 = .ok (.invokevirtual 200, 3) := by decide +kernel
set_option maxRecDepth 100000 in
theorem dX8_even_7 : decode cX8_even 7 = .ok (.ifCond .ne 6, 3) := by decide +kernel
set_option maxRecDepth 100000 in
theorem dX8_even_10 : decode cX8_even 10 = .ok (.bipush (-101), 2) := by decide +kernel
set_option maxRecDepth 100000 in
theorem dX8_even_12 : decode cX8_even 12 = .ok (.ireturn, 1) := by decide +kernel
set_option maxRecDepth 100000 in
theorem dX8_even_13 : decode cX8_even 13 = .ok (.iload 4, 2) := by decide +kernel
set_option maxRecDepth 100000 in
theorem dX8_even_15 : decode cX8_even 15 = .ok (.iconst 0, 1) := by decide +kernel
set_option maxRecDepth 100000 in
theorem dX8_even_16 : decode cX8_even 16 = .ok (.iconst 1, 1) := by decide +kernel
set_option maxRecDepth 100000 in
theorem dX8_even_17 : decode cX8_even 17 = .ok (.invokestatic 121, 3) := by decide +kernel
set_option maxRecDepth 100000 in
theorem dX8_even_20 : decode cX8_even 20 = .ok (.ifCond .ne 6, 3) := by decide +kernel
set_option maxRecDepth 100000 in
theorem dX8_even_23 : decode cX8_even 23 = .ok (.bipush (-102), 2) := by decide +kernel
set_option maxRecDepth 100000 in
theorem dX8_even_25 : decode cX8_even 25 = .ok (.ireturn, 1) := by decide +kernel
set_option maxRecDepth 100000 in
theorem dX8_even_26 : decode cX8_even 26 = .ok (.aload_n 0, 1) := by decide +kernel
set_option maxRecDepth 100000 in
theorem dX8_even_27 : decode cX8_even 27 = .ok (.getfield 62, 3) := by decide +kernel
set_option maxRecDepth 100000 in
theorem dX8_even_30 : decode cX8_even 30 = .ok (.bipush 96, 2) := by decide +kernel
set_option maxRecDepth 100000 in
theorem dX8_even_32 : decode cX8_even 32 = .ok (.invokevirtual 209, 3) := by decide +kernel
set_option maxRecDepth 100000 in
theorem dX8_even_35 : decode cX8_even 35 = .ok (.iload 4, 2) := by decide +kernel
set_option maxRecDepth 100000 in
theorem dX8_even_37 : decode cX8_even 37 = .ok (.ifCond .ne 13, 3) := by decide +kernel
set_option maxRecDepth 100000 in
theorem dX8_even_40 : decode cX8_even 40 = .ok (.aload_n 0, 1) := by decide +kernel
set_option maxRecDepth 100000 in
theorem dX8_even_41 : decode cX8_even 41 = .ok (.getfield 62, 3) := by decide +kernel
set_option maxRecDepth 100000 in
theorem dX8_even_44 : decode cX8_even 44 = .ok (.getfield 223, 3) := by decide +kernel
set_option maxRecDepth 100000 in
theorem dX8_even_47 : decode cX8_even 47 = .ok (.goto 10, 3) := by decide +kernel
set_option maxRecDepth 100000 in
theorem dX8_even_50 : decode cX8_even 50 = .ok (.aload_n 0, 1) := by decide +kernel
set_option maxRecDepth 100000 in
theorem dX8_even_51 : decode cX8_even 51 = .ok (.getfield 62, 3) := by decide +kernel
set_option maxRecDepth 100000 in
theorem dX8_even_54 : decode cX8_even 54 = .ok (.getfield 226, 3) := by decide +kernel
set_option maxRecDepth 100000 in
theorem dX8_even_57 : decode cX8_even 57 = .ok (.ireturn, 1) := by decide +kernel
set_option maxRecDepth 100000 in
theorem dX8_mean_0 : decode cX8_mean 0 = .ok (.aload_n 0, 1) := by decide +kernel
set_option maxRecDepth 100000 in
theorem dX8_mean_1 : decode cX8_mean 1 = .ok (.iload_n 1, 1) := by decide +kernel
set_option maxRecDepth 100000 in
theorem dX8_mean_2 : decode cX8_mean 2 = .ok (.iload_n 2, 1) := by decide +kernel
set_option maxRecDepth 100000 in
theorem dX8_mean_3 : decode cX8_mean 3 = .ok (.iload_n 3, 1) := by decide +kernel
set_option maxRecDepth 100000 in
theorem dX8_mean_4 : decode cX8_mean 4 = .ok (.invokevirtual 200, 3) := by decide +kernel
set_option maxRecDepth 100000 in
theorem dX8_mean_7 : decode cX8_mean 7 = .ok (.ifCond .ne 6, 3) := by decide +kernel
set_option maxRecDepth 100000 in
theorem dX8_mean_10 : decode cX8_mean 10 = .ok (.bipush (-101), 2) := by decide +kernel
set_option maxRecDepth 100000 in
theorem dX8_mean_12 : decode cX8_mean 12 = .ok (.ireturn, 1) := by decide +kernel
set_option maxRecDepth 100000 in
theorem dX8_mean_13 : decode cX8_mean 13 = .ok (.iload 4, 2) := by decide +kernel
set_option maxRecDepth 100000 in
theorem dX8_mean_15 : decode cX8_mean 15 = .ok (.iconst 0, 1) := by decide +kernel
set_option maxRecDepth 100000 in
theorem dX8_mean_16 : decode cX8_mean 16 = .ok (.iconst 1, 1) := by decide +kernel
set_option maxRecDepth 100000 in
theorem dX8_mean_17 : decode cX8_mean 17 = .ok (.invokestatic 121, 3) := by decide +kernel
set_option maxRecDepth 100000 in
theorem dX8_mean_20 : decode cX8_mean 20 = .ok (.ifCond .ne 6, 3) := by decide +kernel
set_option maxRecDepth 100000 in
theorem dX8_mean_23 : decode cX8_mean 23 = .ok (.bipush (-102), 2) := by decide +kernel
set_option maxRecDepth 100000 in
theorem dX8_mean_25 : decode cX8_mean 25 = .ok (.ireturn, 1) := by decide +kernel
set_option maxRecDepth 100000 in
theorem dX8_mean_26 : decode cX8_mean 26 = .ok (.aload_n 0, 1) := by decide +kernel
set_option maxRecDepth 100000 in
theorem dX8_mean_27 : decode cX8_mean 27 = .ok (.getfield 62, 3) := by decide +kernel
set_option maxRecDepth 100000 in
theorem dX8_mean_30 : decode cX8_mean 30 = .ok (.bipush 96, 2) := by decide +kernel
set_option maxRecDepth 100000 in
theorem dX8_mean_32 : decode cX8_mean 32 = .ok (.invokevirtual 209, 3) := by decide +kernel
set_option maxRecDepth 100000 in
theorem dX8_mean_35 : decode cX8_mean 35 = .ok (.iconst 0, 1) := by decide +kernel
set_option maxRecDepth 100000 in
theorem dX8_mean_36 : decode cX8_mean 36 = .ok (.istore 5, 2) := by decide +kernel
set_option maxRecDepth 100000 in
theorem dX8_mean_38 : decode cX8_mean 38 = .ok (.iconst 0, 1) := by decide +kernel
set_option maxRecDepth 100000 in
theorem dX8_mean_39 : decode cX8_mean 39 = .ok (.istore 6, 2) := by decide +kernel
set_option maxRecDepth 100000 in
theorem dX8_mean_41 : decode cX8_mean 41 = .ok (.iload 6, 2) := by decide +kernel
set_option maxRecDepth 100000 in
theorem dX8_mean_43 : decode cX8_mean 43 = .ok (.aload_n 0, 1) := by decide +kernel
set_option maxRecDepth 100000 in
theorem dX8_mean_44 : decode cX8_mean 44 = .ok (.getfield 62, 3) := by decide +kernel
set_option maxRecDepth 100000 in
theorem dX8_mean_47 : decode cX8_mean 47 = .ok (.getfield 203, 3) := by decide +kernel
set_option maxRecDepth 100000 in
theorem dX8_mean_50 : decode cX8_mean 50 = .ok (.getfield 229, 3) := by decide +kernel
set_option maxRecDepth 100000 in
theorem dX8_mean_53 : decode cX8_mean 53 = .ok (.if_icmp .ge 28, 3) := by decide +kernel
set_option maxRecDepth 100000 in
theorem dX8_mean_56 : decode cX8_mean 56 = .ok (.iload 5, 2) := by decide +kernel
set_option maxRecDepth 100000 in
theorem dX8_mean_58 : decode cX8_mean 58 = .ok (.aload_n 0, 1) := by decide +kernel
set_option maxRecDepth 100000 in
theorem dX8_mean_59 : decode cX8_mean 59 = .ok (.getfield 62, 3) := by decide +kernel
set_option maxRecDepth 100000 in
theorem dX8_mean_62 : decode cX8_mean 62 = .ok (.iload 6, 2) := by decide +kernel
set_option maxRecDepth 100000 in
theorem dX8_mean_64 : decode cX8_mean 64 = .ok (.aload_n 0, 1) := by decide +kernel
set_option maxRecDepth 100000 in
theorem dX8_mean_65 : decode cX8_mean 65 = .ok (.iload_n 2, 1) := by decide +kernel
set_option maxRecDepth 100000 in
theorem dX8_mean_66 : decode cX8_mean 66 = .ok (.invokevirtual 216, 3) := by decide +kernel
set_option maxRecDepth 100000 in
theorem dX8_mean_69 : decode cX8_mean 69 = .ok (.invokevirtual 232, 3) := by decide +kernel
set_option maxRecDepth 100000 in
theorem dX8_mean_72 : decode cX8_mean 72 = .ok (.iadd, 1) := by decide +kernel
set_option maxRecDepth 100000 in
theorem dX8_mean_73 : decode cX8_mean 73 = .ok (.istore 5, 2) := by decide +kernel
set_option maxRecDepth 100000 in
theorem dX8_mean_75 : decode cX8_mean 75 = .ok (.iinc 6 1, 3) := by decide +kernel
set_option maxRecDepth 100000 in
theorem dX8_mean_78 : decode cX8_mean 78 = .ok (.goto (-37), 3) := by decide +kernel
set_option maxRecDepth 100000 in
theorem dX8_mean_81 : decode cX8_mean 81 = .ok (.aload_n 0, 1) := by decide +kernel
set_option maxRecDepth 100000 in
theorem dX8_mean_82 : decode cX8_mean 82 = .ok (.getfield 62, 3) := by decide +kernel
set_option maxRecDepth 100000 in
theorem dX8_mean_85 : decode cX8_mean 85 = .ok (.getfield 203, 3) := by decide +kernel
set_option maxRecDepth 100000 in
theorem dX8_mean_88 : decode cX8_mean 88 = .ok (.getfield 229, 3) := by decide +kernel
set_option maxRecDepth 100000 in
theorem dX8_mean_91 : decode cX8_mean 91 = .ok (.istore 6, 2) := by decide +kernel
set_option maxRecDepth 100000 in
theorem dX8_mean_93 : decode cX8_mean 93 = .ok (.iload 4, 2) := by decide +kernel
set_option maxRecDepth 100000 in
theorem dX8_mean_95 : decode cX8_mean 95 = .ok (.ifCond .ne 8, 3) := by decide +kernel
set_option maxRecDepth 100000 in
theorem dX8_mean_98 : decode cX8_mean 98 = .ok (.iload 5, 2) := by decide +kernel
set_option maxRecDepth 100000 in
theorem dX8_mean_100 : decode cX8_mean 100 = .ok (.goto 5, 3) := by decide +kernel
set_option maxRecDepth 100000 in
theorem dX8_mean_103 : decode cX8_mean 103 = .ok (.iload 6, 2) := by decide +kernel
set_option maxRecDepth 100000 in
theorem dX8_mean_105 : decode cX8_mean 105 = .ok (.iload 5, 2) := by decide +kernel
set_option maxRecDepth 100000 in
theorem dX8_mean_107 : decode cX8_mean 107 = .ok (.iload 6, 2) := by decide +kernel
set_option maxRecDepth 100000 in
theorem dX8_mean_109 : decode cX8_mean 109 = .ok (.invokestatic 235, 3) := by decide +kernel
set_option maxRecDepth 100000 in
theorem dX8_mean_112 : decode cX8_mean 112 = .ok (.invokestatic 238, 3) := by decide +kernel
set_option maxRecDepth 100000 in
theorem dX8_mean_115 : decode cX8_mean 115 = .ok (.ireturn, 1) := by decide +kernel
set_option maxRecDepth 100000 in
theorem dX8_shows_0 : decode cX8_shows 0 = .ok (.aload_n 0, 1) := by decide +kernel
set_option maxRecDepth 100000 in
theorem dX8_shows_1 : decode cX8_shows 1 = .ok (.iload_n 1, 1) := by decide +kernel
set_option maxRecDepth 100000 in
theorem dX8_shows_2 : decode cX8_shows 2 = .ok (.iload_n 2, 1) := by decide +kernel
set_option maxRecDepth 100000 in
theorem dX8_shows_3 : decode cX8_shows 3 = .ok (.iload_n 3, 1) := by decide +kernel
set_option maxRecDepth 100000 in
theorem dX8_shows_4 : decode cX8_shows 4 = .ok (.invokevirtual 200, 3) := by decide +kernel
set_option maxRecDepth 100000 in
theorem dX8_shows_7 : decode cX8_shows 7 = .ok (.ifCond .ne 6, 3) := by decide +kernel
set_option maxRecDepth 100000 in
theorem dX8_shows_10 : decode cX8_shows 10 = .ok (.bipush (-101), 2) := by decide +kernel
set_option maxRecDepth 100000 in
theorem dX8_shows_12 : decode cX8_shows 12 = .ok (.ireturn, 1) := by decide +kernel
set_option maxRecDepth 100000 in
theorem dX8_shows_13 : decode cX8_shows 13 = .ok (.iload 4, 2) := by decide +kernel
set_option maxRecDepth 100000 in
theorem dX8_shows_15 : decode cX8_shows 15 = .ok (.iconst 0, 1) := by decide +kernel
set_option maxRecDepth 100000 in
theorem dX8_shows_16 : decode cX8_shows 16 = .ok (.iconst 3, 1) := by decide +kernel
set_option maxRecDepth 100000 in
theorem dX8_shows_17 : decode cX8_shows 17 = .ok (.invokestatic 121, 3) := by decide +kernel
set_option maxRecDepth 100000 in
theorem dX8_shows_20 : decode cX8_shows 20 = .ok (.ifCond .ne 18, 3) := by decide +kernel
set_option maxRecDepth 100000 in
theorem dX8_shows_23 : decode cX8_shows 23 = .ok (.iload 4, 2) := by decide +kernel
set_option maxRecDepth 100000 in
theorem dX8_shows_25 : decode cX8_shows 25 = .ok (.bipush 10, 2) := by decide +kernel
set_option maxRecDepth 100000 in
theorem dX8_shows_27 : decode cX8_shows 27 = .ok (.bipush 29, 2) := by decide +kernel
set_option maxRecDepth 100000 in
theorem dX8_shows_29 : decode cX8_shows 29 = .ok (.invokestatic 121, 3) := by decide +kernel
set_option maxRecDepth 100000 in
theorem dX8_shows_32 : decode cX8_shows 32 = .ok (.ifCond .ne 6, 3) := by decide +kernel
set_option maxRecDepth 100000 in
theorem dX8_shows_35 : decode cX8_shows 35 = .ok (.bipush (-102), 2) := by decide +kernel
set_option maxRecDepth 100000 in
theorem dX8_shows_37 : decode cX8_shows 37 = .ok (.ireturn, 1) := by decide +kernel
set_option maxRecDepth 100000 in
theorem dX8_shows_38 : decode cX8_shows 38 = .ok (.aload_n 0, 1) := by decide +kernel
set_option maxRecDepth 100000 in
theorem dX8_shows_39 : decode cX8_shows 39 = .ok (.invokevirtual 241, 3) := by decide +kernel
set_option maxRecDepth 100000 in
theorem dX8_shows_42 : decode cX8_shows 42 = .ok (.iload 4, 2) := by decide +kernel
set_option maxRecDepth 100000 in
theorem dX8_shows_44 : decode cX8_shows 44 = .ok (.bipush 10, 2) := by decide +kernel
set_option maxRecDepth 100000 in
theorem dX8_shows_46 : decode cX8_shows 46 = .ok (.if_icmp .ge 15, 3) := by decide +kernel
set_option maxRecDepth 100000 in
theorem dX8_shows_49 : decode cX8_shows 49 = .ok (.aload_n 0, 1) := by decide +kernel
set_option maxRecDepth 100000 in
theorem dX8_shows_50 : decode cX8_shows 50 = .ok (.getfield 72, 3) := by decide +kernel
set_option maxRecDepth 100000 in
theorem dX8_shows_53 : decode cX8_shows 53 = .ok (.iload 4, 2) := by decide +kernel
set_option maxRecDepth 100000 in
theorem dX8_shows_55 : decode cX8_shows 55 = .ok (.invokevirtual 244, 3) := by decide +kernel
set_option maxRecDepth 100000 in
theorem dX8_shows_58 : decode cX8_shows 58 = .ok (.goto 15, 3) := by decide +kernel
set_option maxRecDepth 100000 in
theorem dX8_shows_61 : decode cX8_shows 61 = .ok (.aload_n 0, 1) := by decide +kernel
set_option maxRecDepth 100000 in
theorem dX8_shows_62 : decode cX8_shows 62 = .ok (.getfield 72, 3) := by decide +kernel
set_option maxRecDepth 100000 in
theorem dX8_shows_65 : decode cX8_shows 65 = .ok (.iload 4, 2) := by decide +kernel
set_option maxRecDepth 100000 in
theorem dX8_shows_67 : decode cX8_shows 67 = .ok (.bipush 10, 2) := by decide +kernel
set_option maxRecDepth 100000 in
theorem dX8_shows_69 : decode cX8_shows 69 = .ok (.isub, 1) := by decide +kernel
set_option maxRecDepth 100000 in
theorem dX8_shows_70 : decode cX8_shows 70 = .ok (.invokevirtual 245, 3) := by decide +kernel
set_option maxRecDepth 100000 in
theorem dX8_shows_73 : decode cX8_shows 73 = .ok (.ireturn, 1) := by decide +kernel
set_option maxRecDepth 100000 in
theorem dX8_worst_0 : decode cX8_worst 0 = .ok (.aload_n 0, 1) := by decide +kernel
set_option maxRecDepth 100000 in
theorem dX8_worst_1 : decode cX8_worst 1 = .ok (.iload_n 1, 1) := by decide +kernel
set_option maxRecDepth 100000 in
theorem dX8_worst_2 : decode cX8_worst 2 = .ok (.invokevirtual 117, 3) := by decide +kernel
set_option maxRecDepth 100000 in
theorem dX8_worst_5 : decode cX8_worst 5 = .ok (.astore_n 3, 1) := by decide +kernel
set_option maxRecDepth 100000 in
theorem dX8_worst_6 : decode cX8_worst 6 = .ok (.aload_n 3, 1) := by decide +kernel
set_option maxRecDepth 100000 in
theorem dX8_worst_7 : decode cX8_worst 7 = .ok (.ifnonnull 6, 3) := by decide +kernel
set_option maxRecDepth 100000 in
theorem dX8_worst_10 : decode cX8_worst 10 = .ok (.bipush (-101), 2) := by decide +kernel
set_option maxRecDepth 100000 in
theorem dX8_worst_12 : decode cX8_worst 12 = .ok (.ireturn, 1) := by decide +kernel
set_option maxRecDepth 100000 in
theorem dX8_worst_13 : decode cX8_worst 13 = .ok (.iload_n 2, 1) := by decide +kernel
set_option maxRecDepth 100000 in
theorem dX8_worst_14 : decode cX8_worst 14 = .ok (.iconst 0, 1) := by decide +kernel
set_option maxRecDepth 100000 in
theorem dX8_worst_15 : decode cX8_worst 15 = .ok (.iconst 2, 1) := by decide +kernel
set_option maxRecDepth 100000 in
theorem dX8_worst_16 : decode cX8_worst 16 = .ok (.invokestatic 121, 3) := by decide +kernel
set_option maxRecDepth 100000 in
theorem dX8_worst_19 : decode cX8_worst 19 = .ok (.ifCond .ne 6, 3) := by decide +kernel
set_option maxRecDepth 100000 in
theorem dX8_worst_22 : decode cX8_worst 22 = .ok (.bipush (-102), 2) := by decide +kernel
set_option maxRecDepth 100000 in
theorem dX8_worst_24 : decode cX8_worst 24 = .ok (.ireturn, 1) := by decide +kernel
set_option maxRecDepth 100000 in
theorem dX8_worst_25 : decode cX8_worst 25 = .ok (.aload_n 0, 1) := by decide +kernel
set_option maxRecDepth 100000 in
theorem dX8_worst_26 : decode cX8_worst 26 = .ok (.aload_n 3, 1) := by decide +kernel
set_option maxRecDepth 100000 in
theorem dX8_worst_27 : decode cX8_worst 27 = .ok (.invokevirtual 248, 3) := by decide +kernel
set_option maxRecDepth 100000 in
theorem dX8_worst_30 : decode cX8_worst 30 = .ok (.aload_n 0, 1) := by decide +kernel
set_option maxRecDepth 100000 in
theorem dX8_worst_31 : decode cX8_worst 31 = .ok (.getfield 83, 3) := by decide +kernel
set_option maxRecDepth 100000 in
theorem dX8_worst_34 : decode cX8_worst 34 = .ok (.iload_n 2, 1) := by decide +kernel
set_option maxRecDepth 100000 in
theorem dX8_worst_35 : decode cX8_worst 35 = .ok (.iaload, 1) := by decide +kernel
set_option maxRecDepth 100000 in
theorem dX8_worst_36 : decode cX8_worst 36 = .ok (.ireturn, 1) := by decide +kernel
set_option maxRecDepth 100000 in
theorem dX8_better_0 : decode cX8_better 0 = .ok (.aload_n 0, 1) := by decide +kernel
set_option maxRecDepth 100000 in
theorem dX8_better_1 : decode cX8_better 1 = .ok (.iload_n 1, 1) := by decide +kernel
set_option maxRecDepth 100000 in
theorem dX8_better_2 : decode cX8_better 2 = .ok (.invokevirtual 117, 3) := by decide +kernel
set_option maxRecDepth 100000 in
theorem dX8_better_5 : decode cX8_better 5 = .ok (.astore_n 3, 1) := by decide +kernel
set_option maxRecDepth 100000 in
theorem dX8_better_6 : decode cX8_better 6 = .ok (.aload_n 0, 1) := by decide +kernel
set_option maxRecDepth 100000 in
theorem dX8_better_7 : decode cX8_better 7 = .ok (.iload_n 2, 1) := by decide +kernel
set_option maxRecDepth 100000 in
theorem dX8_better_8 : decode cX8_better 8 = .ok (.invokevirtual 117, 3) := by decide +kernel
set_option maxRecDepth 100000 in
theorem dX8_better_11 : decode cX8_better 11 = .ok (.astore 4, 2) := by decide +kernel
set_option maxRecDepth 100000 in
theorem dX8_better_13 : decode cX8_better 13 = .ok (.aload_n 3, 1) := by decide +kernel
set_option maxRecDepth 100000 in
theorem dX8_better_14 : decode cX8_better 14 = .ok (.ifnull 8, 3) := by decide +kernel
set_option maxRecDepth 100000 in
theorem dX8_better_17 : decode cX8_better 17 = .ok (.aload 4, 2) := by decide +kernel
set_option maxRecDepth 100000 in
theorem dX8_better_19 : decode cX8_better 19 = .ok (.ifnonnull 6, 3) := by decide +kernel
set_option maxRecDepth 100000 in
theorem dX8_better_22 : decode cX8_better 22 = .ok (.bipush (-101), 2) := by decide +kernel
set_option maxRecDepth 100000 in
theorem dX8_better_24 : decode cX8_better 24 = .ok (.ireturn, 1) := by decide +kernel
set_option maxRecDepth 100000 in
theorem dX8_better_25 : decode cX8_better 25 = .ok (.aload_n 0, 1) := by decide +kernel
set_option maxRecDepth 100000 in
theorem dX8_better_26 : decode cX8_better 26 = .ok (.aload_n 3, 1) := by decide +kernel
set_option maxRecDepth 100000 in
theorem dX8_better_27 : decode cX8_better 27 = .ok (.invokevirtual 248, 3) := by decide +kernel
set_option maxRecDepth 100000 in
theorem dX8_better_30 : decode cX8_better 30 = .ok (.aload_n 0, 1) := by decide +kernel
set_option maxRecDepth 100000 in
theorem dX8_better_31 : decode cX8_better 31 = .ok (.getfield 83, 3) := by decide +kernel
set_option maxRecDepth 100000 in
theorem dX8_better_34 : decode cX8_better 34 = .ok (.iconst 0, 1) := by decide +kernel
set_option maxRecDepth 100000 in
theorem dX8_better_35 : decode cX8_better 35 = .ok (.iaload, 1) := by decide +kernel
set_option maxRecDepth 100000 in
theorem dX8_better_36 : decode cX8_better 36 = .ok (.istore 5, 2) := by decide +kernel
set_option maxRecDepth 100000 in
theorem dX8_better_38 : decode cX8_better 38 = .ok (.aload_n 0, 1) := by decide +kernel
set_option maxRecDepth 100000 in
theorem dX8_better_39 : decode cX8_better 39 = .ok (.aload 4, 2) := by decide +kernel
set_option maxRecDepth 100000 in
theorem dX8_better_41 : decode cX8_better 41 = .ok (.invokevirtual 248, 3) := by decide +kernel
set_option maxRecDepth 100000 in
theorem dX8_better_44 : decode cX8_better 44 = .ok (.aload_n 0, 1) := by decide +kernel
set_option maxRecDepth 100000 in
theorem dX8_better_45 : decode cX8_better 45 = .ok (.getfield 83, 3) := by decide +kernel
set_option maxRecDepth 100000 in
theorem dX8_better_48 : decode cX8_better 48 = .ok (.iconst 0, 1) := by decide +kernel
set_option maxRecDepth 100000 in
theorem dX8_better_49 : decode cX8_better 49 = .ok (.iaload, 1) := by decide +kernel
set_option maxRecDepth 100000 in
theorem dX8_better_50 : decode cX8_better 50 = .ok (.iload 5, 2) := by decide +kernel
set_option maxRecDepth 100000 in
theorem dX8_better_52 : decode cX8_better 52 = .ok (.if_icmp .ge 7, 3) := by decide +kernel
set_option maxRecDepth 100000 in
theorem dX8_better_55 : decode cX8_better 55 = .ok (.iload_n 2, 1) := by decide +kernel
set_option maxRecDepth 100000 in
theorem dX8_better_56 : decode cX8_better 56 = .ok (.goto 4, 3) := by decide +kernel
set_option maxRecDepth 100000 in
theorem dX8_better_59 : decode cX8_better 59 = .ok (.iload_n 1, 1) := by decide +kernel
set_option maxRecDepth 100000 in
theorem dX8_better_60 : decode cX8_better 60 = .ok (.ireturn, 1) := by decide +kernel
set_option maxRecDepth 100000 in
theorem dX8_count_0 : decode cX8_count 0 = .ok (.iload_n 1, 1) := by decide +kernel
set_option maxRecDepth 100000 in
theorem dX8_count_1 : decode cX8_count 1 = .ok (.tableswitch 75 0 5 #[39, 44, 49, 54, 62, 70], 39) := by decide +kernel
set_option maxRecDepth 100000 in
theorem dX8_count_40 : decode cX8_count 40 = .ok (.aload_n 0, 1) := by decide +kernel
set_option maxRecDepth 100000 in
theorem dX8_count_41 : decode cX8_count 41 = .ok (.getfield 110, 3) := by decide +kernel
set_option maxRecDepth 100000 in
theorem dX8_count_44 : decode cX8_count 44 = .ok (.ireturn, 1) := by decide +kernel
set_option maxRecDepth 100000 in
theorem dX8_count_45 : decode cX8_count 45 = .ok (.aload_n 0, 1) := by decide +kernel
set_option maxRecDepth 100000 in
theorem dX8_count_46 : decode cX8_count 46 = .ok (.getfield 156, 3) := by decide +kernel
set_option maxRecDepth 100000 in
theorem dX8_count_49 : decode cX8_count 49 = .ok (.ireturn, 1) := by decide +kernel
set_option maxRecDepth 100000 in
theorem dX8_count_50 : decode cX8_count 50 = .ok (.aload_n 0, 1) := by decide +kernel
set_option maxRecDepth 100000 in
theorem dX8_count_51 : decode cX8_count 51 = .ok (.getfield 183, 3) := by decide +kernel
set_option maxRecDepth 100000 in
theorem dX8_count_54 : decode cX8_count 54 = .ok (.ireturn, 1) := by decide +kernel
set_option maxRecDepth 100000 in
theorem dX8_count_55 : decode cX8_count 55 = .ok (.aload_n 0, 1) := by decide +kernel
set_option maxRecDepth 100000 in
theorem dX8_count_56 : decode cX8_count 56 = .ok (.getfield 30, 3) := by decide +kernel
set_option maxRecDepth 100000 in
theorem dX8_count_59 : decode cX8_count 59 = .ok (.getfield 91, 3) := by decide +kernel
set_option maxRecDepth 100000 in
theorem dX8_count_62 : decode cX8_count 62 = .ok (.ireturn, 1) := by decide +kernel
set_option maxRecDepth 100000 in
theorem dX8_count_63 : decode cX8_count 63 = .ok (.aload_n 0, 1) := by decide +kernel
set_option maxRecDepth 100000 in
theorem dX8_count_64 : decode cX8_count 64 = .ok (.getfield 37, 3) := by decide +kernel
set_option maxRecDepth 100000 in
theorem dX8_count_67 : decode cX8_count 67 = .ok (.invokevirtual 318, 3) := by decide +kernel
set_option maxRecDepth 100000 in
theorem dX8_count_70 : decode cX8_count 70 = .ok (.ireturn, 1) := by decide +kernel
set_option maxRecDepth 100000 in
theorem dX8_count_71 : decode cX8_count 71 = .ok (.aload_n 0, 1) := by decide +kernel
set_option maxRecDepth 100000 in
theorem dX8_count_72 : decode cX8_count 72 = .ok (.getfield 282, 3) := by decide +kernel
set_option maxRecDepth 100000 in
theorem dX8_count_75 : decode cX8_count 75 = .ok (.ireturn, 1) := by decide +kernel
set_option maxRecDepth 100000 in
theorem dX8_count_76 : decode cX8_count 76 = .ok (.bipush (-102), 2) := by decide +kernel
set_option maxRecDepth 100000 in
theorem dX8_count_78 : decode cX8_count 78 = .ok (.ireturn, 1) := by decide +kernel
set_option maxRecDepth 100000 in
theorem dX8_startRun_0 : decode cX8_startRun 0 = .ok (.aload_n 0, 1) := by decide +kernel
set_option maxRecDepth 100000 in
theorem dX8_startRun_1 : decode cX8_startRun 1 = .ok (.iload_n 1, 1) := by decide +kernel
set_option maxRecDepth 100000 in
theorem dX8_startRun_2 : decode cX8_startRun 2 = .ok (.invokevirtual 117, 3) := by decide +kernel
set_option maxRecDepth 100000 in
theorem dX8_startRun_5 : decode cX8_startRun 5 = .ok (.astore 4, 2) := by decide +kernel
set_option maxRecDepth 100000 in
theorem dX8_startRun_7 : decode cX8_startRun 7 = .ok (.iload_n 3, 1) := by decide +kernel
set_option maxRecDepth 100000 in
theorem dX8_startRun_8 : decode cX8_startRun 8 = .ok (.iconst (-1), 1) := by decide +kernel
set_option maxRecDepth 100000 in
theorem dX8_startRun_9 : decode cX8_startRun 9 = .ok (.if_icmp .ne 10, 3) := by decide +kernel
set_option maxRecDepth 100000 in
theorem dX8_startRun_12 : decode cX8_startRun 12 = .ok (.aload_n 0, 1) := by decide +kernel
set_option maxRecDepth 100000 in
theorem dX8_startRun_13 : decode cX8_startRun 13 = .ok (.getfield 50, 3) := by decide +kernel
set_option maxRecDepth 100000 in
theorem dX8_startRun_16 : decode cX8_startRun 16 = .ok (.goto 8, 3) := by decide +kernel
set_option maxRecDepth 100000 in
theorem dX8_startRun_19 : decode cX8_startRun 19 = .ok (.aload_n 0, 1) := by decide +kernel
set_option maxRecDepth 100000 in
theorem dX8_startRun_20 : decode cX8_startRun 20 = .ok (.iload_n 3, 1) := by decide +kernel
set_option maxRecDepth 100000 in
theorem dX8_startRun_21 : decode cX8_startRun 21 = .ok (.invokevirtual 163, 3) := by decide +kernel
set_option maxRecDepth 100000 in
theorem dX8_startRun_24 : decode cX8_startRun 24 = .ok (.astore 5, 2) := by decide +kernel
set_option maxRecDepth 100000 in
theorem dX8_startRun_26 : decode cX8_startRun 26 = .ok (.aload 4, 2) := by decide +kernel
set_option maxRecDepth 100000 in
theorem dX8_startRun_28 : decode cX8_startRun 28 = .ok (.ifnull 15, 3) := by decide +kernel
set_option maxRecDepth 100000 in
theorem dX8_startRun_31 : decode cX8_startRun 31 = .ok (.aload 5, 2) := by decide +kernel
set_option maxRecDepth 100000 in
theorem dX8_startRun_33 : decode cX8_startRun 33 = .ok (.ifnull 10, 3) := by decide +kernel
set_option maxRecDepth 100000 in
theorem dX8_startRun_36 : decode cX8_startRun 36 = .ok (.iload_n 2, 1) := by decide +kernel
set_option maxRecDepth 100000 in
theorem dX8_startRun_37 : decode cX8_startRun 37 = .ok (.invokestatic 136, 3) := by decide +kernel
set_option maxRecDepth 100000 in
theorem dX8_startRun_40 : decode cX8_startRun 40 = .ok (.ifCond .ne 5, 3) := by decide +kernel
set_option maxRecDepth 100000 in
theorem dX8_startRun_43 : decode cX8_startRun 43 = .ok (.iconst 0, 1) := by decide +kernel
set_option maxRecDepth 100000 in
theorem dX8_startRun_44 : decode cX8_startRun 44 = .ok (.ireturn, 1) := by decide +kernel
set_option maxRecDepth 100000 in
theorem dX8_startRun_45 : decode cX8_startRun 45 = .ok (.aload_n 0, 1) := by decide +kernel
set_option maxRecDepth 100000 in
theorem dX8_startRun_46 : decode cX8_startRun 46 = .ok (.getfield 62, 3) := by decide +kernel
set_option maxRecDepth 100000 in
theorem dX8_startRun_49 : decode cX8_startRun 49 = .ok (.aload 4, 2) := by decide +kernel
set_option maxRecDepth 100000 in
theorem dX8_startRun_51 : decode cX8_startRun 51 = .ok (.aload_n 0, 1) := by decide +kernel
set_option maxRecDepth 100000 in
theorem dX8_startRun_52 : decode cX8_startRun 52 = .ok (.iload_n 2, 1) := by decide +kernel
set_option maxRecDepth 100000 in
theorem dX8_startRun_53 : decode cX8_startRun 53 = .ok (.invokevirtual 258, 3) := by decide +kernel
set_option maxRecDepth 100000 in
theorem dX8_startRun_56 : decode cX8_startRun 56 = .ok (.aload 5, 2) := by decide +kernel
set_option maxRecDepth 100000 in
theorem dX8_startRun_58 : decode cX8_startRun 58 = .ok (.invokevirtual 261, 3) := by decide +kernel
set_option maxRecDepth 100000 in
theorem dX8_startRun_61 : decode cX8_startRun 61 = .ok (.iconst 1, 1) := by decide +kernel
set_option maxRecDepth 100000 in
theorem dX8_startRun_62 : decode cX8_startRun 62 = .ok (.ireturn, 1) := by decide +kernel
set_option maxRecDepth 100000 in
theorem dX8_playRun_0 : decode cX8_playRun 0 = .ok (.aload_n 0, 1) := by decide +kernel
set_option maxRecDepth 100000 in
theorem dX8_playRun_1 : decode cX8_playRun 1 = .ok (.aload_n 0, 1) := by decide +kernel
set_option maxRecDepth 100000 in
theorem dX8_playRun_2 : decode cX8_playRun 2 = .ok (.getfield 37, 3) := by decide +kernel
set_option maxRecDepth 100000 in
theorem dX8_playRun_5 : decode cX8_playRun 5 = .ok (.getfield 197, 3) := by decide +kernel
set_option maxRecDepth 100000 in
theorem dX8_playRun_8 : decode cX8_playRun 8 = .ok (.invokevirtual 186, 3) := by decide +kernel
set_option maxRecDepth 100000 in
theorem dX8_playRun_11 : decode cX8_playRun 11 = .ok (.astore_n 1, 1) := by decide +kernel
set_option maxRecDepth 100000 in
theorem dX8_playRun_12 : decode cX8_playRun 12 = .ok (.aload_n 0, 1) := by decide +kernel
set_option maxRecDepth 100000 in
theorem dX8_playRun_13 : decode cX8_playRun 13 = .ok (.getfield 72, 3) := by decide +kernel
set_option maxRecDepth 100000 in
theorem dX8_playRun_16 : decode cX8_playRun 16 = .ok (.invokevirtual 369, 3) := by decide +kernel
set_option maxRecDepth 100000 in
theorem dX8_playRun_19 : decode cX8_playRun 19 = .ok (.iconst 0, 1) := by decide +kernel
set_option maxRecDepth 100000 in
theorem dX8_playRun_20 : decode cX8_playRun 20 = .ok (.istore_n 2, 1) := by decide +kernel
set_option maxRecDepth 100000 in
theorem dX8_playRun_21 : decode cX8_playRun 21 = .ok (.iload_n 2, 1) := by decide +kernel
set_option maxRecDepth 100000 in
theorem dX8_playRun_22 : decode cX8_playRun 22 = .ok (.bipush 96, 2) := by decide +kernel
set_option maxRecDepth 100000 in
theorem dX8_playRun_24 : decode cX8_playRun 24 = .ok (.if_icmp .ge 42, 3) := by decide +kernel
set_option maxRecDepth 100000 in
theorem dX8_playRun_27 : decode cX8_playRun 27 = .ok (.aload_n 0, 1) := by decide +kernel
set_option maxRecDepth 100000 in
theorem dX8_playRun_28 : decode cX8_playRun 28 = .ok (.getfield 62, 3) := by decide +kernel
set_option maxRecDepth 100000 in
theorem dX8_playRun_31 : decode cX8_playRun 31 = .ok (.getfield 371, 3) := by decide +kernel
set_option maxRecDepth 100000 in
theorem dX8_playRun_34 : decode cX8_playRun 34 = .ok (.istore_n 3, 1) := by decide +kernel
set_option maxRecDepth 100000 in
theorem dX8_playRun_35 : decode cX8_playRun 35 = .ok (.aload_n 0, 1) := by decide +kernel
set_option maxRecDepth 100000 in
theorem dX8_playRun_36 : decode cX8_playRun 36 = .ok (.getfield 62, 3) := by decide +kernel
set_option maxRecDepth 100000 in
theorem dX8_playRun_39 : decode cX8_playRun 39 = .ok (.invokevirtual 374, 3) := by decide +kernel
set_option maxRecDepth 100000 in
theorem dX8_playRun_42 : decode cX8_playRun 42 = .ok (.aload_n 0, 1) := by decide +kernel
set_option maxRecDepth 100000 in
theorem dX8_playRun_43 : decode cX8_playRun 43 = .ok (.getfield 72, 3) := by decide +kernel
set_option maxRecDepth 100000 in
theorem dX8_playRun_46 : decode cX8_playRun 46 = .ok (.iload_n 2, 1) := by decide +kernel
set_option maxRecDepth 100000 in
theorem dX8_playRun_47 : decode cX8_playRun 47 = .ok (.aload_n 0, 1) := by decide +kernel
set_option maxRecDepth 100000 in
theorem dX8_playRun_48 : decode cX8_playRun 48 = .ok (.getfield 62, 3) := by decide +kernel
set_option maxRecDepth 100000 in
theorem dX8_playRun_51 : decode cX8_playRun 51 = .ok (.getfield 371, 3) := by decide +kernel
set_option maxRecDepth 100000 in
theorem dX8_playRun_54 : decode cX8_playRun 54 = .ok (.iload_n 3, 1) := by decide +kernel
set_option maxRecDepth 100000 in
theorem dX8_playRun_55 : decode cX8_playRun 55 = .ok (.isub, 1) := by decide +kernel
set_option maxRecDepth 100000 in
theorem dX8_playRun_56 : decode cX8_playRun 56 = .ok (.aload_n 1, 1) := by decide +kernel
set_option maxRecDepth 100000 in
theorem dX8_playRun_57 : decode cX8_playRun 57 = .ok (.invokevirtual 377, 3) := by decide +kernel
set_option maxRecDepth 100000 in
theorem dX8_playRun_60 : decode cX8_playRun 60 = .ok (.iinc 2 1, 3) := by decide +kernel
set_option maxRecDepth 100000 in
theorem dX8_playRun_63 : decode cX8_playRun 63 = .ok (.goto (-42), 3) := by decide +kernel
set_option maxRecDepth 100000 in
theorem dX8_playRun_66 : decode cX8_playRun 66 = .ok (.return_, 1) := by decide +kernel
set_option maxRecDepth 100000 in
theorem dX8_findWorst_0 : decode cX8_findWorst 0 = .ok (.aload_n 0, 1) := by decide +kernel
set_option maxRecDepth 100000 in
theorem dX8_findWorst_1 : decode cX8_findWorst 1 = .ok (.getfield 83, 3) := by decide +kernel
set_option maxRecDepth 100000 in
theorem dX8_findWorst_4 : decode cX8_findWorst 4 = .ok (.iconst 0, 1) := by decide +kernel
set_option maxRecDepth 100000 in
theorem dX8_findWorst_5 : decode cX8_findWorst 5 = .ok (.iconst (-1), 1) := by decide +kernel
set_option maxRecDepth 100000 in
theorem dX8_findWorst_6 : decode cX8_findWorst 6 = .ok (.iastore, 1) := by decide +kernel
set_option maxRecDepth 100000 in
theorem dX8_findWorst_7 : decode cX8_findWorst 7 = .ok (.iconst 0, 1) := by decide +kernel
set_option maxRecDepth 100000 in
theorem dX8_findWorst_8 : decode cX8_findWorst 8 = .ok (.istore_n 2, 1) := by decide +kernel
set_option maxRecDepth 100000 in
theorem dX8_findWorst_9 : decode cX8_findWorst 9 = .ok (.iload_n 2, 1) := by decide +kernel
set_option maxRecDepth 100000 in
theorem dX8_findWorst_10 : decode cX8_findWorst 10 = .ok (.iconst 4, 1) := by decide +kernel
set_option maxRecDepth 100000 in
theorem dX8_findWorst_11 : decode cX8_findWorst 11 = .ok (.if_icmp .ge 99, 3) := by decide +kernel
set_option maxRecDepth 100000 in
theorem dX8_findWorst_14 : decode cX8_findWorst 14 = .ok (.aload_n 0, 1) := by decide +kernel
set_option maxRecDepth 100000 in
theorem dX8_findWorst_15 : decode cX8_findWorst 15 = .ok (.getfield 62, 3) := by decide +kernel
set_option maxRecDepth 100000 in
theorem dX8_findWorst_18 : decode cX8_findWorst 18 = .ok (.aload_n 1, 1) := by decide +kernel
set_option maxRecDepth 100000 in
theorem dX8_findWorst_19 : decode cX8_findWorst 19 = .ok (.aload_n 0, 1) := by decide +kernel
set_option maxRecDepth 100000 in
theorem dX8_findWorst_20 : decode cX8_findWorst 20 = .ok (.iload_n 2, 1) := by decide +kernel
set_option maxRecDepth 100000 in
theorem dX8_findWorst_21 : decode cX8_findWorst 21 = .ok (.invokevirtual 258, 3) := by decide +kernel
set_option maxRecDepth 100000 in
theorem dX8_findWorst_24 : decode cX8_findWorst 24 = .ok (.aload_n 0, 1) := by decide +kernel
set_option maxRecDepth 100000 in
theorem dX8_findWorst_25 : decode cX8_findWorst 25 = .ok (.getfield 50, 3) := by decide +kernel
set_option maxRecDepth 100000 in
theorem dX8_findWorst_28 : decode cX8_findWorst 28 = .ok (.invokevirtual 261, 3) := by decide +kernel
set_option maxRecDepth 100000 in
theorem dX8_findWorst_31 : decode cX8_findWorst 31 = .ok (.aload_n 0, 1) := by decide +kernel
set_option maxRecDepth 100000 in
theorem dX8_findWorst_32 : decode cX8_findWorst 32 = .ok (.getfield 62, 3) := by decide +kernel
set_option maxRecDepth 100000 in
theorem dX8_findWorst_35 : decode cX8_findWorst 35 = .ok (.bipush 96, 2) := by decide +kernel
set_option maxRecDepth 100000 in
theorem dX8_findWorst_37 : decode cX8_findWorst 37 = .ok (.invokevirtual 209, 3) := by decide +kernel
set_option maxRecDepth 100000 in
theorem dX8_findWorst_40 : decode cX8_findWorst 40 = .ok (.iconst 0, 1) := by decide +kernel
set_option maxRecDepth 100000 in
theorem dX8_findWorst_41 : decode cX8_findWorst 41 = .ok (.istore_n 3, 1) := by decide +kernel
set_option maxRecDepth 100000 in
theorem dX8_findWorst_42 : decode cX8_findWorst 42 = .ok (.iload_n 3, 1) := by decide +kernel
set_option maxRecDepth 100000 in
theorem dX8_findWorst_43 : decode cX8_findWorst 43 = .ok (.aload_n 1, 1) := by decide +kernel
set_option maxRecDepth 100000 in
theorem dX8_findWorst_44 : decode cX8_findWorst 44 = .ok (.getfield 229, 3) := by decide +kernel
set_option maxRecDepth 100000 in
theorem dX8_findWorst_47 : decode cX8_findWorst 47 = .ok (.if_icmp .ge 57, 3) := by decide +kernel
set_option maxRecDepth 100000 in
theorem dX8_findWorst_50 : decode cX8_findWorst 50 = .ok (.aload_n 0, 1) := by decide +kernel
set_option maxRecDepth 100000 in
theorem dX8_findWorst_51 : decode cX8_findWorst 51 = .ok (.getfield 62, 3) := by decide +kernel
set_option maxRecDepth 100000 in
theorem dX8_findWorst_54 : decode cX8_findWorst 54 = .ok (.iload_n 3, 1) := by decide +kernel
set_option maxRecDepth 100000 in
theorem dX8_findWorst_55 : decode cX8_findWorst 55 = .ok (.aload_n 0, 1) := by decide +kernel
set_option maxRecDepth 100000 in
theorem dX8_findWorst_56 : decode cX8_findWorst 56 = .ok (.iload_n 2, 1) := by decide +kernel
set_option maxRecDepth 100000 in
theorem dX8_findWorst_57 : decode cX8_findWorst 57 = .ok (.invokevirtual 216, 3) := by decide +kernel
set_option maxRecDepth 100000 in
theorem dX8_findWorst_60 : decode cX8_findWorst 60 = .ok (.invokevirtual 232, 3) := by decide +kernel
set_option maxRecDepth 100000 in
theorem dX8_findWorst_63 : decode cX8_findWorst 63 = .ok (.istore 4, 2) := by decide +kernel
set_option maxRecDepth 100000 in
theorem dX8_findWorst_65 : decode cX8_findWorst 65 = .ok (.iload 4, 2) := by decide +kernel
set_option maxRecDepth 100000 in
theorem dX8_findWorst_67 : decode cX8_findWorst 67 = .ok (.aload_n 0, 1) := by decide +kernel
set_option maxRecDepth 100000 in
theorem dX8_findWorst_68 : decode cX8_findWorst 68 = .ok (.getfield 83, 3) := by decide +kernel
set_option maxRecDepth 100000 in
theorem dX8_findWorst_71 : decode cX8_findWorst 71 = .ok (.iconst 0, 1) := by decide +kernel
set_option maxRecDepth 100000 in
theorem dX8_findWorst_72 : decode cX8_findWorst 72 = .ok (.iaload, 1) := by decide +kernel
set_option maxRecDepth 100000 in
theorem dX8_findWorst_73 : decode cX8_findWorst 73 = .ok (.if_icmp .le 25, 3) := by decide +kernel
set_option maxRecDepth 100000 in
theorem dX8_findWorst_76 : decode cX8_findWorst 76 = .ok (.aload_n 0, 1) := by decide +kernel
set_option maxRecDepth 100000 in
theorem dX8_findWorst_77 : decode cX8_findWorst 77 = .ok (.getfield 83, 3) := by decide +kernel
set_option maxRecDepth 100000 in
theorem dX8_findWorst_80 : decode cX8_findWorst 80 = .ok (.iconst 0, 1) := by decide +kernel
set_option maxRecDepth 100000 in
theorem dX8_findWorst_81 : decode cX8_findWorst 81 = .ok (.iload 4, 2) := by decide +kernel
set_option maxRecDepth 100000 in
theorem dX8_findWorst_83 : decode cX8_findWorst 83 = .ok (.iastore, 1) := by decide +kernel
set_option maxRecDepth 100000 in
theorem dX8_findWorst_84 : decode cX8_findWorst 84 = .ok (.aload_n 0, 1) := by decide +kernel
set_option maxRecDepth 100000 in
theorem dX8_findWorst_85 : decode cX8_findWorst 85 = .ok (.getfield 83, 3) := by decide +kernel
set_option maxRecDepth 100000 in
theorem dX8_findWorst_88 : decode cX8_findWorst 88 = .ok (.iconst 1, 1) := by decide +kernel
set_option maxRecDepth 100000 in
theorem dX8_findWorst_89 : decode cX8_findWorst 89 = .ok (.iload_n 2, 1) := by decide +kernel
set_option maxRecDepth 100000 in
theorem dX8_findWorst_90 : decode cX8_findWorst 90 = .ok (.iastore, 1) := by decide +kernel
set_option maxRecDepth 100000 in
theorem dX8_findWorst_91 : decode cX8_findWorst 91 = .ok (.aload_n 0, 1) := by decide +kernel
set_option maxRecDepth 100000 in
theorem dX8_findWorst_92 : decode cX8_findWorst 92 = .ok (.getfield 83, 3) := by decide +kernel
set_option maxRecDepth 100000 in
theorem dX8_findWorst_95 : decode cX8_findWorst 95 = .ok (.iconst 2, 1) := by decide +kernel
set_option maxRecDepth 100000 in
theorem dX8_findWorst_96 : decode cX8_findWorst 96 = .ok (.iload_n 3, 1) := by decide +kernel
set_option maxRecDepth 100000 in
theorem dX8_findWorst_97 : decode cX8_findWorst 97 = .ok (.iastore, 1) := by decide +kernel
set_option maxRecDepth 100000 in
theorem dX8_findWorst_98 : decode cX8_findWorst 98 = .ok (.iinc 3 1, 3) := by decide +kernel
set_option maxRecDepth 100000 in
theorem dX8_findWorst_101 : decode cX8_findWorst 101 = .ok (.goto (-59), 3) := by decide +kernel
set_option maxRecDepth 100000 in
theorem dX8_findWorst_104 : decode cX8_findWorst 104 = .ok (.iinc 2 1, 3) := by decide +kernel
set_option maxRecDepth 100000 in
theorem dX8_findWorst_107 : decode cX8_findWorst 107 = .ok (.goto (-98), 3) := by decide +kernel
set_option maxRecDepth 100000 in
theorem dX8_findWorst_110 : decode cX8_findWorst 110 = .ok (.return_, 1) := by decide +kernel
set_option maxRecDepth 100000 in
theorem dX8_isIn_0 : decode cX8_isIn 0 = .ok (.iload_n 0, 1) := by decide +kernel
set_option maxRecDepth 100000 in
theorem dX8_isIn_1 : decode cX8_isIn 1 = .ok (.iload_n 1, 1) := by decide +kernel
set_option maxRecDepth 100000 in
theorem dX8_isIn_2 : decode cX8_isIn 2 = .ok (.if_icmp .lt 12, 3) := by decide +kernel
set_option maxRecDepth 100000 in
theorem dX8_isIn_5 : decode cX8_isIn 5 = .ok (.iload_n 0, 1) := by decide +kernel
set_option maxRecDepth 100000 in
theorem dX8_isIn_6 : decode cX8_isIn 6 = .ok (.iload_n 2, 1) := by decide +kernel
set_option maxRecDepth 100000 in
theorem dX8_isIn_7 : decode cX8_isIn 7 = .ok (.if_icmp .gt 7, 3) := by decide +kernel
set_option maxRecDepth 100000 in
theorem dX8_isIn_10 : decode cX8_isIn 10 = .ok (.iconst 1, 1) := by decide +kernel
set_option maxRecDepth 100000 in
theorem dX8_isIn_11 : decode cX8_isIn 11 = .ok (.goto 4, 3) := by decide +kernel
set_option maxRecDepth 100000 in
theorem dX8_isIn_14 : decode cX8_isIn 14 = .ok (.iconst 0, 1) := by decide +kernel
set_option maxRecDepth 100000 in
theorem dX8_isIn_15 : decode cX8_isIn 15 = .ok (.ireturn, 1) := by decide +kernel
set_option maxRecDepth 100000 in
theorem dX8_isSeason_0 : decode cX8_isSeason 0 = .ok (.iload_n 0, 1) := by decide +kernel
set_option maxRecDepth 100000 in
theorem dX8_isSeason_1 : decode cX8_isSeason 1 = .ok (.iconst 0, 1) := by decide +kernel
set_option maxRecDepth 100000 in
theorem dX8_isSeason_2 : decode cX8_isSeason 2 = .ok (.iconst 3, 1) := by decide +kernel
set_option maxRecDepth 100000 in
theorem dX8_isSeason_3 : decode cX8_isSeason 3 = .ok (.invokestatic 121, 3) := by decide +kernel
set_option maxRecDepth 100000 in
theorem dX8_isSeason_6 : decode cX8_isSeason 6 = .ok (.ireturn, 1) := by decide +kernel
set_option maxRecDepth 100000 in
theorem dX8_isTick_0 : decode cX8_isTick 0 = .ok (.iload_n 0, 1) := by decide +kernel
set_option maxRecDepth 100000 in
theorem dX8_isTick_1 : decode cX8_isTick 1 = .ok (.iconst 0, 1) := by decide +kernel
set_option maxRecDepth 100000 in
theorem dX8_isTick_2 : decode cX8_isTick 2 = .ok (.bipush 95, 2) := by decide +kernel
set_option maxRecDepth 100000 in
theorem dX8_isTick_4 : decode cX8_isTick 4 = .ok (.invokestatic 121, 3) := by decide +kernel
set_option maxRecDepth 100000 in
theorem dX8_isTick_7 : decode cX8_isTick 7 = .ok (.ireturn, 1) := by decide +kernel
set_option maxRecDepth 100000 in
theorem dX8_isKind_0 : decode cX8_isKind 0 = .ok (.iload_n 0, 1) := by decide +kernel
set_option maxRecDepth 100000 in
theorem dX8_isKind_1 : decode cX8_isKind 1 = .ok (.iconst 0, 1) := by decide +kernel
set_option maxRecDepth 100000 in
theorem dX8_isKind_2 : decode cX8_isKind 2 = .ok (.iconst 4, 1) := by decide +kernel
set_option maxRecDepth 100000 in
theorem dX8_isKind_3 : decode cX8_isKind 3 = .ok (.invokestatic 121, 3) := by decide +kernel
set_option maxRecDepth 100000 in
theorem dX8_isKind_6 : decode cX8_isKind 6 = .ok (.ireturn, 1) := by decide +kernel
set_option maxRecDepth 100000 in
theorem dX8_isWorkOrNone_0 : decode cX8_isWorkOrNone 0 = .ok (.iload_n 1, 1) := by decide +kernel
set_option maxRecDepth 100000 in
theorem dX8_isWorkOrNone_1 : decode cX8_isWorkOrNone 1 = .ok (.iconst (-1), 1) := by decide +kernel
set_option maxRecDepth 100000 in
theorem dX8_isWorkOrNone_2 : decode cX8_isWorkOrNone 2 = .ok (.aload_n 0, 1) := by decide +kernel
set_option maxRecDepth 100000 in
theorem dX8_isWorkOrNone_3 : decode cX8_isWorkOrNone 3 = .ok (.getfield 183, 3) := by decide +kernel
set_option maxRecDepth 100000 in
theorem dX8_isWorkOrNone_6 : decode cX8_isWorkOrNone 6 = .ok (.iconst 1, 1) := by decide +kernel
set_option maxRecDepth 100000 in
theorem dX8_isWorkOrNone_7 : decode cX8_isWorkOrNone 7 = .ok (.isub, 1) := by decide +kernel
set_option maxRecDepth 100000 in
theorem dX8_isWorkOrNone_8 : decode cX8_isWorkOrNone 8 = .ok (.invokestatic 121, 3) := by decide +kernel
set_option maxRecDepth 100000 in
theorem dX8_isWorkOrNone_11 : decode cX8_isWorkOrNone 11 = .ok (.ireturn, 1) := by decide +kernel
set_option maxRecDepth 100000 in
theorem dX8_clockOf_0 : decode cX8_clockOf 0 = .ok (.iload_n 1, 1) := by decide +kernel
set_option maxRecDepth 100000 in
theorem dX8_clockOf_1 : decode cX8_clockOf 1 = .ok (.iconst 0, 1) := by decide +kernel
set_option maxRecDepth 100000 in
theorem dX8_clockOf_2 : decode cX8_clockOf 2 = .ok (.aload_n 0, 1) := by decide +kernel
set_option maxRecDepth 100000 in
theorem dX8_clockOf_3 : decode cX8_clockOf 3 = .ok (.getfield 110, 3) := by decide +kernel
set_option maxRecDepth 100000 in
theorem dX8_clockOf_6 : decode cX8_clockOf 6 = .ok (.iconst 1, 1) := by decide +kernel
set_option maxRecDepth 100000 in
theorem dX8_clockOf_7 : decode cX8_clockOf 7 = .ok (.isub, 1) := by decide +kernel
set_option maxRecDepth 100000 in
theorem dX8_clockOf_8 : decode cX8_clockOf 8 = .ok (.invokestatic 121, 3) := by decide +kernel
set_option maxRecDepth 100000 in
theorem dX8_clockOf_11 : decode cX8_clockOf 11 = .ok (.ifCond .eq 17, 3) := by decide +kernel
set_option maxRecDepth 100000 in
theorem dX8_clockOf_14 : decode cX8_clockOf 14 = .ok (.iload_n 1, 1) := by decide +kernel
set_option maxRecDepth 100000 in
theorem dX8_clockOf_15 : decode cX8_clockOf 15 = .ok (.iconst 4, 1) := by decide +kernel
set_option maxRecDepth 100000 in
theorem dX8_clockOf_16 : decode cX8_clockOf 16 = .ok (.if_icmp .ge 12, 3) := by decide +kernel
set_option maxRecDepth 100000 in
theorem dX8_clockOf_19 : decode cX8_clockOf 19 = .ok (.aload_n 0, 1) := by decide +kernel
set_option maxRecDepth 100000 in
theorem dX8_clockOf_20 : decode cX8_clockOf 20 = .ok (.getfield 11, 3) := by decide +kernel
set_option maxRecDepth 100000 in
theorem dX8_clockOf_23 : decode cX8_clockOf 23 = .ok (.iload_n 1, 1) := by decide +kernel
set_option maxRecDepth 100000 in
theorem dX8_clockOf_24 : decode cX8_clockOf 24 = .ok (.aaload, 1) := by decide +kernel
set_option maxRecDepth 100000 in
theorem dX8_clockOf_25 : decode cX8_clockOf 25 = .ok (.goto 4, 3) := by decide +kernel
set_option maxRecDepth 100000 in
theorem dX8_clockOf_28 : decode cX8_clockOf 28 = .ok (.aconst_null, 1) := by decide +kernel
set_option maxRecDepth 100000 in
theorem dX8_clockOf_29 : decode cX8_clockOf 29 = .ok (.areturn, 1) := by decide +kernel
set_option maxRecDepth 100000 in
theorem dX8_faultOf_0 : decode cX8_faultOf 0 = .ok (.iload_n 1, 1) := by decide +kernel
set_option maxRecDepth 100000 in
theorem dX8_faultOf_1 : decode cX8_faultOf 1 = .ok (.iconst 0, 1) := by decide +kernel
set_option maxRecDepth 100000 in
theorem dX8_faultOf_2 : decode cX8_faultOf 2 = .ok (.aload_n 0, 1) := by decide +kernel
set_option maxRecDepth 100000 in
theorem dX8_faultOf_3 : decode cX8_faultOf 3 = .ok (.getfield 156, 3) := by decide +kernel
set_option maxRecDepth 100000 in
theorem dX8_faultOf_6 : decode cX8_faultOf 6 = .ok (.iconst 1, 1) := by decide +kernel
set_option maxRecDepth 100000 in
theorem dX8_faultOf_7 : decode cX8_faultOf 7 = .ok (.isub, 1) := by decide +kernel
set_option maxRecDepth 100000 in
theorem dX8_faultOf_8 : decode cX8_faultOf 8 = .ok (.invokestatic 121, 3) := by decide +kernel
set_option maxRecDepth 100000 in
theorem dX8_faultOf_11 : decode cX8_faultOf 11 = .ok (.ifCond .eq 18, 3) := by decide +kernel
set_option maxRecDepth 100000 in
theorem dX8_faultOf_14 : decode cX8_faultOf 14 = .ok (.iload_n 1, 1) := by decide +kernel
set_option maxRecDepth 100000 in
theorem dX8_faultOf_15 : decode cX8_faultOf 15 = .ok (.bipush 8, 2) := by decide +kernel
set_option maxRecDepth 100000 in
theorem dX8_faultOf_17 : decode cX8_faultOf 17 = .ok (.if_icmp .ge 12, 3) := by decide +kernel
set_option maxRecDepth 100000 in
theorem dX8_faultOf_20 : decode cX8_faultOf 20 = .ok (.aload_n 0, 1) := by decide +kernel
set_option maxRecDepth 100000 in
theorem dX8_faultOf_21 : decode cX8_faultOf 21 = .ok (.getfield 17, 3) := by decide +kernel
set_option maxRecDepth 100000 in
theorem dX8_faultOf_24 : decode cX8_faultOf 24 = .ok (.iload_n 1, 1) := by decide +kernel
set_option maxRecDepth 100000 in
theorem dX8_faultOf_25 : decode cX8_faultOf 25 = .ok (.aaload, 1) := by decide +kernel
set_option maxRecDepth 100000 in
theorem dX8_faultOf_26 : decode cX8_faultOf 26 = .ok (.goto 4, 3) := by decide +kernel
set_option maxRecDepth 100000 in
theorem dX8_faultOf_29 : decode cX8_faultOf 29 = .ok (.aconst_null, 1) := by decide +kernel
set_option maxRecDepth 100000 in
theorem dX8_faultOf_30 : decode cX8_faultOf 30 = .ok (.areturn, 1) := by decide +kernel
set_option maxRecDepth 100000 in
theorem dX8_workOf_0 : decode cX8_workOf 0 = .ok (.iload_n 1, 1) := by decide +kernel
set_option maxRecDepth 100000 in
theorem dX8_workOf_1 : decode cX8_workOf 1 = .ok (.iconst 0, 1) := by decide +kernel
set_option maxRecDepth 100000 in
theorem dX8_workOf_2 : decode cX8_workOf 2 = .ok (.aload_n 0, 1) := by decide +kernel
set_option maxRecDepth 100000 in
theorem dX8_workOf_3 : decode cX8_workOf 3 = .ok (.getfield 183, 3) := by decide +kernel
set_option maxRecDepth 100000 in
theorem dX8_workOf_6 : decode cX8_workOf 6 = .ok (.iconst 1, 1) := by decide +kernel
set_option maxRecDepth 100000 in
theorem dX8_workOf_7 : decode cX8_workOf 7 = .ok (.isub, 1) := by decide +kernel
set_option maxRecDepth 100000 in
theorem dX8_workOf_8 : decode cX8_workOf 8 = .ok (.invokestatic 121, 3) := by decide +kernel
set_option maxRecDepth 100000 in
theorem dX8_workOf_11 : decode cX8_workOf 11 = .ok (.ifCond .eq 18, 3) := by decide +kernel
set_option maxRecDepth 100000 in
theorem dX8_workOf_14 : decode cX8_workOf 14 = .ok (.iload_n 1, 1) := by decide +kernel
set_option maxRecDepth 100000 in
theorem dX8_workOf_15 : decode cX8_workOf 15 = .ok (.bipush 10, 2) := by decide +kernel
set_option maxRecDepth 100000 in
theorem dX8_workOf_17 : decode cX8_workOf 17 = .ok (.if_icmp .ge 12, 3) := by decide +kernel
set_option maxRecDepth 100000 in
theorem dX8_workOf_20 : decode cX8_workOf 20 = .ok (.aload_n 0, 1) := by decide +kernel
set_option maxRecDepth 100000 in
theorem dX8_workOf_21 : decode cX8_workOf 21 = .ok (.getfield 23, 3) := by decide +kernel
set_option maxRecDepth 100000 in
theorem dX8_workOf_24 : decode cX8_workOf 24 = .ok (.iload_n 1, 1) := by decide +kernel
set_option maxRecDepth 100000 in
theorem dX8_workOf_25 : decode cX8_workOf 25 = .ok (.aaload, 1) := by decide +kernel
set_option maxRecDepth 100000 in
theorem dX8_workOf_26 : decode cX8_workOf 26 = .ok (.goto 4, 3) := by decide +kernel
set_option maxRecDepth 100000 in
theorem dX8_workOf_29 : decode cX8_workOf 29 = .ok (.aconst_null, 1) := by decide +kernel
set_option maxRecDepth 100000 in
theorem dX8_workOf_30 : decode cX8_workOf 30 = .ok (.areturn, 1) := by decide +kernel
set_option maxRecDepth 100000 in
theorem dX8_warmthOf_0 : decode cX8_warmthOf 0 = .ok (.iload_n 1, 1) := by decide +kernel
set_option maxRecDepth 100000 in
theorem dX8_warmthOf_1 : decode cX8_warmthOf 1 = .ok (.invokestatic 136, 3) := by decide +kernel
set_option maxRecDepth 100000 in
theorem dX8_warmthOf_4 : decode cX8_warmthOf 4 = .ok (.ifCond .eq 15, 3) := by decide +kernel
set_option maxRecDepth 100000 in
theorem dX8_warmthOf_7 : decode cX8_warmthOf 7 = .ok (.aload_n 0, 1) := by decide +kernel
set_option maxRecDepth 100000 in
theorem dX8_warmthOf_8 : decode cX8_warmthOf 8 = .ok (.getfield 37, 3) := by decide +kernel
set_option maxRecDepth 100000 in
theorem dX8_warmthOf_11 : decode cX8_warmthOf 11 = .ok (.getfield 140, 3) := by decide +kernel
set_option maxRecDepth 100000 in
theorem dX8_warmthOf_14 : decode cX8_warmthOf 14 = .ok (.iload_n 1, 1) := by decide +kernel
set_option maxRecDepth 100000 in
theorem dX8_warmthOf_15 : decode cX8_warmthOf 15 = .ok (.iaload, 1) := by decide +kernel
set_option maxRecDepth 100000 in
theorem dX8_warmthOf_16 : decode cX8_warmthOf 16 = .ok (.goto 5, 3) := by decide +kernel
set_option maxRecDepth 100000 in
theorem dX8_warmthOf_19 : decode cX8_warmthOf 19 = .ok (.bipush 100, 2) := by decide +kernel
set_option maxRecDepth 100000 in
theorem dX8_warmthOf_21 : decode cX8_warmthOf 21 = .ok (.ireturn, 1) := by decide +kernel
set_option maxRecDepth 100000 in
theorem dX8_daylightOf_0 : decode cX8_daylightOf 0 = .ok (.iload_n 1, 1) := by decide +kernel
set_option maxRecDepth 100000 in
theorem dX8_daylightOf_1 : decode cX8_daylightOf 1 = .ok (.invokestatic 136, 3) := by decide +kernel
set_option maxRecDepth 100000 in
theorem dX8_daylightOf_4 : decode cX8_daylightOf 4 = .ok (.ifCond .eq 15, 3) := by decide +kernel
set_option maxRecDepth 100000 in
theorem dX8_daylightOf_7 : decode cX8_daylightOf 7 = .ok (.aload_n 0, 1) := by decide +kernel
set_option maxRecDepth 100000 in
theorem dX8_daylightOf_8 : decode cX8_daylightOf 8 = .ok (.getfield 37, 3) := by decide +kernel
set_option maxRecDepth 100000 in
theorem dX8_daylightOf_11 : decode cX8_daylightOf 11 = .ok (.getfield 147, 3) := by decide +kernel
set_option maxRecDepth 100000 in
theorem dX8_daylightOf_14 : decode cX8_daylightOf 14 = .ok (.iload_n 1, 1) := by decide +kernel
set_option maxRecDepth 100000 in
theorem dX8_daylightOf_15 : decode cX8_daylightOf 15 = .ok (.iaload, 1) := by decide +kernel
set_option maxRecDepth 100000 in
theorem dX8_daylightOf_16 : decode cX8_daylightOf 16 = .ok (.goto 5, 3) := by decide +kernel
set_option maxRecDepth 100000 in
theorem dX8_daylightOf_19 : decode cX8_daylightOf 19 = .ok (.bipush 48, 2) := by decide +kernel
set_option maxRecDepth 100000 in
theorem dX8_daylightOf_21 : decode cX8_daylightOf 21 = .ok (.ireturn, 1) := by decide +kernel
set_option maxRecDepth 100000 in
theorem dX8_isFaultOfKind_0 : decode cX8_isFaultOfKind 0 = .ok (.iload_n 1, 1) := by decide +kernel
set_option maxRecDepth 100000 in
theorem dX8_isFaultOfKind_1 : decode cX8_isFaultOfKind 1 = .ok (.ifCond .eq 18, 3) := by decide +kernel
set_option maxRecDepth 100000 in
theorem dX8_isFaultOfKind_4 : decode cX8_isFaultOfKind 4 = .ok (.iload_n 1, 1) := by decide +kernel
set_option maxRecDepth 100000 in
theorem dX8_isFaultOfKind_5 : decode cX8_isFaultOfKind 5 = .ok (.iload_n 0, 1) := by decide +kernel
set_option maxRecDepth 100000 in
theorem dX8_isFaultOfKind_6 : decode cX8_isFaultOfKind 6 = .ok (.if_icmp .eq 13, 3) := by decide +kernel
set_option maxRecDepth 100000 in
theorem dX8_isFaultOfKind_9 : decode cX8_isFaultOfKind 9 = .ok (.iload_n 0, 1) := by decide +kernel
set_option maxRecDepth 100000 in
theorem dX8_isFaultOfKind_10 : decode cX8_isFaultOfKind 10 = .ok (.iconst 2, 1) := by decide +kernel
set_option maxRecDepth 100000 in
theorem dX8_isFaultOfKind_11 : decode cX8_isFaultOfKind 11 = .ok (.if_icmp .ne 12, 3) := by decide +kernel
set_option maxRecDepth 100000 in
theorem dX8_isFaultOfKind_14 : decode cX8_isFaultOfKind 14 = .ok (.iload_n 1, 1) := by decide +kernel
set_option maxRecDepth 100000 in
theorem dX8_isFaultOfKind_15 : decode cX8_isFaultOfKind 15 = .ok (.iconst 1, 1) := by decide +kernel
set_option maxRecDepth 100000 in
theorem dX8_isFaultOfKind_16 : decode cX8_isFaultOfKind 16 = .ok (.if_icmp .ne 7, 3) := by decide +kernel
set_option maxRecDepth 100000 in
theorem dX8_isFaultOfKind_19 : decode cX8_isFaultOfKind 19 = .ok (.iconst 1, 1) := by decide +kernel
set_option maxRecDepth 100000 in
theorem dX8_isFaultOfKind_20 : decode cX8_isFaultOfKind 20 = .ok (.goto 4, 3) := by decide +kernel
set_option maxRecDepth 100000 in
theorem dX8_isFaultOfKind_23 : decode cX8_isFaultOfKind 23 = .ok (.iconst 0, 1) := by decide +kernel
set_option maxRecDepth 100000 in
theorem dX8_isFaultOfKind_24 : decode cX8_isFaultOfKind 24 = .ok (.ireturn, 1) := by decide +kernel
set_option maxRecDepth 100000 in
theorem dX8_isWorkOfKind_0 : decode cX8_isWorkOfKind 0 = .ok (.iload_n 1, 1) := by decide +kernel
set_option maxRecDepth 100000 in
theorem dX8_isWorkOfKind_1 : decode cX8_isWorkOfKind 1 = .ok (.ifCond .eq 18, 3) := by decide +kernel
set_option maxRecDepth 100000 in
theorem dX8_isWorkOfKind_4 : decode cX8_isWorkOfKind 4 = .ok (.iload_n 1, 1) := by decide +kernel
set_option maxRecDepth 100000 in
theorem dX8_isWorkOfKind_5 : decode cX8_isWorkOfKind 5 = .ok (.iload_n 0, 1) := by decide +kernel
set_option maxRecDepth 100000 in
theorem dX8_isWorkOfKind_6 : decode cX8_isWorkOfKind 6 = .ok (.if_icmp .eq 13, 3) := by decide +kernel
set_option maxRecDepth 100000 in
theorem dX8_isWorkOfKind_9 : decode cX8_isWorkOfKind 9 = .ok (.iload_n 0, 1) := by decide +kernel
set_option maxRecDepth 100000 in
theorem dX8_isWorkOfKind_10 : decode cX8_isWorkOfKind 10 = .ok (.iconst 4, 1) := by decide +kernel
set_option maxRecDepth 100000 in
theorem dX8_isWorkOfKind_11 : decode cX8_isWorkOfKind 11 = .ok (.if_icmp .ne 12, 3) := by decide +kernel
set_option maxRecDepth 100000 in
theorem dX8_isWorkOfKind_14 : decode cX8_isWorkOfKind 14 = .ok (.iload_n 1, 1) := by decide +kernel
set_option maxRecDepth 100000 in
theorem dX8_isWorkOfKind_15 : decode cX8_isWorkOfKind 15 = .ok (.iconst 3, 1) := by decide +kernel
set_option maxRecDepth 100000 in
theorem dX8_isWorkOfKind_16 : decode cX8_isWorkOfKind 16 = .ok (.if_icmp .ne 7, 3) := by decide +kernel
set_option maxRecDepth 100000 in
theorem dX8_isWorkOfKind_19 : decode cX8_isWorkOfKind 19 = .ok (.iconst 1, 1) := by decide +kernel
set_option maxRecDepth 100000 in
theorem dX8_isWorkOfKind_20 : decode cX8_isWorkOfKind 20 = .ok (.goto 4, 3) := by decide +kernel
set_option maxRecDepth 100000 in
theorem dX8_isWorkOfKind_23 : decode cX8_isWorkOfKind 23 = .ok (.iconst 0, 1) := by decide +kernel
set_option maxRecDepth 100000 in
theorem dX8_isWorkOfKind_24 : decode cX8_isWorkOfKind 24 = .ok (.ireturn, 1) := by decide +kernel
set_option maxRecDepth 100000 in
theorem dX8_leastNumber_0 : decode cX8_leastNumber 0 = .ok (.iload_n 0, 1) := by decide +kernel
set_option maxRecDepth 100000 in
theorem dX8_leastNumber_1 : decode cX8_leastNumber 1 = .ok (.lookupswitch 31 #[(3, 27), (4, 29)], 27) := by decide +kernel
set_option maxRecDepth 100000 in
theorem dX8_leastNumber_28 : decode cX8_leastNumber 28 = .ok (.iconst 1, 1) := by decide +kernel
set_option maxRecDepth 100000 in
theorem dX8_leastNumber_29 : decode cX8_leastNumber 29 = .ok (.ireturn, 1) := by decide +kernel
set_option maxRecDepth 100000 in
theorem dX8_leastNumber_30 : decode cX8_leastNumber 30 = .ok (.iconst 2, 1) := by decide +kernel
set_option maxRecDepth 100000 in
theorem dX8_leastNumber_31 : decode cX8_leastNumber 31 = .ok (.ireturn, 1) := by decide +kernel
set_option maxRecDepth 100000 in
theorem dX8_leastNumber_32 : decode cX8_leastNumber 32 = .ok (.iconst 0, 1) := by decide +kernel
set_option maxRecDepth 100000 in
theorem dX8_leastNumber_33 : decode cX8_leastNumber 33 = .ok (.ireturn, 1) := by decide +kernel
set_option maxRecDepth 100000 in
theorem dX8_mostNumber_0 : decode cX8_mostNumber 0 = .ok (.iload_n 0, 1) := by decide +kernel
set_option maxRecDepth 100000 in
theorem dX8_mostNumber_1 : decode cX8_mostNumber 1 = .ok (.tableswitch 41 1 4 #[31, 34, 36, 39], 31) := by decide +kernel
set_option maxRecDepth 100000 in
theorem dX8_mostNumber_32 : decode cX8_mostNumber 32 = .ok (.bipush 9, 2) := by decide +kernel
set_option maxRecDepth 100000 in
theorem dX8_mostNumber_34 : decode cX8_mostNumber 34 = .ok (.ireturn, 1) := by decide +kernel
set_option maxRecDepth 100000 in
theorem dX8_mostNumber_35 : decode cX8_mostNumber 35 = .ok (.iconst 3, 1) := by decide +kernel
set_option maxRecDepth 100000 in
theorem dX8_mostNumber_36 : decode cX8_mostNumber 36 = .ok (.ireturn, 1) := by decide +kernel
set_option maxRecDepth 100000 in
theorem dX8_mostNumber_37 : decode cX8_mostNumber 37 = .ok (.bipush 9, 2) := by decide +kernel
set_option maxRecDepth 100000 in
theorem dX8_mostNumber_39 : decode cX8_mostNumber 39 = .ok (.ireturn, 1) := by decide +kernel
set_option maxRecDepth 100000 in
theorem dX8_mostNumber_40 : decode cX8_mostNumber 40 = .ok (.iconst 5, 1) := by decide +kernel
set_option maxRecDepth 100000 in
theorem dX8_mostNumber_41 : decode cX8_mostNumber 41 = .ok (.ireturn, 1) := by decide +kernel
set_option maxRecDepth 100000 in
theorem dX8_mostNumber_42 : decode cX8_mostNumber 42 = .ok (.iconst 0, 1) := by decide +kernel
set_option maxRecDepth 100000 in
theorem dX8_mostNumber_43 : decode cX8_mostNumber 43 = .ok (.ireturn, 1) := by decide +kernel
set_option maxRecDepth 100000 in
theorem dX8_quotient_0 : decode cX8_quotient 0 = .ok (.iload_n 1, 1) := by decide +kernel
set_option maxRecDepth 100000 in
theorem dX8_quotient_1 : decode cX8_quotient 1 = .ok (.iconst 1, 1) := by decide +kernel
set_option maxRecDepth 100000 in
theorem dX8_quotient_2 : decode cX8_quotient 2 = .ok (.if_icmp .ge 7, 3) := by decide +kernel
set_option maxRecDepth 100000 in
theorem dX8_quotient_5 : decode cX8_quotient 5 = .ok (.iconst 0, 1) := by decide +kernel
set_option maxRecDepth 100000 in
theorem dX8_quotient_6 : decode cX8_quotient 6 = .ok (.goto 6, 3) := by decide +kernel
set_option maxRecDepth 100000 in
theorem dX8_quotient_9 : decode cX8_quotient 9 = .ok (.iload_n 0, 1) := by decide +kernel
set_option maxRecDepth 100000 in
theorem dX8_quotient_10 : decode cX8_quotient 10 = .ok (.iload_n 1, 1) := by decide +kernel
set_option maxRecDepth 100000 in
theorem dX8_quotient_11 : decode cX8_quotient 11 = .ok (.idiv, 1) := by decide +kernel
set_option maxRecDepth 100000 in
theorem dX8_quotient_12 : decode cX8_quotient 12 = .ok (.ireturn, 1) := by decide +kernel
set_option maxRecDepth 100000 in
theorem dX8_commonMeasure_0 : decode cX8_commonMeasure 0 = .ok (.iload_n 0, 1) := by decide +kernel
set_option maxRecDepth 100000 in
theorem dX8_commonMeasure_1 : decode cX8_commonMeasure 1 = .ok (.istore_n 2, 1) := by decide +kernel
set_option maxRecDepth 100000 in
theorem dX8_commonMeasure_2 : decode cX8_commonMeasure 2 = .ok (.iload_n 1, 1) := by decide +kernel
set_option maxRecDepth 100000 in
theorem dX8_commonMeasure_3 : decode cX8_commonMeasure 3 = .ok (.istore_n 3, 1) := by decide +kernel
set_option maxRecDepth 100000 in
theorem dX8_commonMeasure_4 : decode cX8_commonMeasure 4 = .ok (.iconst 0, 1) := by decide +kernel
set_option maxRecDepth 100000 in
theorem dX8_commonMeasure_5 : decode cX8_commonMeasure 5 = .ok (.istore 4, 2) := by decide +kernel
set_option maxRecDepth 100000 in
theorem dX8_commonMeasure_7 : decode cX8_commonMeasure 7 = .ok (.iload 4, 2) := by decide +kernel
set_option maxRecDepth 100000 in
theorem dX8_commonMeasure_9 : decode cX8_commonMeasure 9 = .ok (.bipush 100, 2) := by decide +kernel
set_option maxRecDepth 100000 in
theorem dX8_commonMeasure_11 : decode cX8_commonMeasure 11 = .ok (.if_icmp .ge 23, 3) := by decide +kernel
set_option maxRecDepth 100000 in
theorem dX8_commonMeasure_14 : decode cX8_commonMeasure 14 = .ok (.iload_n 3, 1) := by decide +kernel
set_option maxRecDepth 100000 in
theorem dX8_commonMeasure_15 : decode cX8_commonMeasure 15 = .ok (.ifCond .le 19, 3) := by decide +kernel
set_option maxRecDepth 100000 in
theorem dX8_commonMeasure_18 : decode cX8_commonMeasure 18 = .ok (.iload_n 2, 1) := by decide +kernel
set_option maxRecDepth 100000 in
theorem dX8_commonMeasure_19 : decode cX8_commonMeasure 19 = .ok (.iload_n 3, 1) := by decide +kernel
set_option maxRecDepth 100000 in
theorem dX8_commonMeasure_20 : decode cX8_commonMeasure 20 = .ok (.irem, 1) := by decide +kernel
set_option maxRecDepth 100000 in
theorem dX8_commonMeasure_21 : decode cX8_commonMeasure 21 = .ok (.istore 5, 2) := by decide +kernel
set_option maxRecDepth 100000 in
theorem dX8_commonMeasure_23 : decode cX8_commonMeasure 23 = .ok (.iload_n 3, 1) := by decide +kernel
set_option maxRecDepth 100000 in
theorem dX8_commonMeasure_24 : decode cX8_commonMeasure 24 = .ok (.istore_n 2, 1) := by decide +kernel
set_option maxRecDepth 100000 in
theorem dX8_commonMeasure_25 : decode cX8_commonMeasure 25 = .ok (.iload 5, 2) := by decide +kernel
set_option maxRecDepth 100000 in
theorem dX8_commonMeasure_27 : decode cX8_commonMeasure 27 = .ok (.istore_n 3, 1) := by decide +kernel
set_option maxRecDepth 100000 in
theorem dX8_commonMeasure_28 : decode cX8_commonMeasure 28 = .ok (.iinc 4 1, 3) := by decide +kernel
set_option maxRecDepth 100000 in
theorem dX8_commonMeasure_31 : decode cX8_commonMeasure 31 = .ok (.goto (-24), 3) := by decide +kernel
set_option maxRecDepth 100000 in
theorem dX8_commonMeasure_34 : decode cX8_commonMeasure 34 = .ok (.iload_n 2, 1) := by decide +kernel
set_option maxRecDepth 100000 in
theorem dX8_commonMeasure_35 : decode cX8_commonMeasure 35 = .ok (.ireturn, 1) := by decide +kernel
set_option maxRecDepth 100000 in
theorem dX8_exchange_0 : decode cX8_exchange 0 = .ok (.iload_n 1, 1) := by decide +kernel
set_option maxRecDepth 100000 in
theorem dX8_exchange_1 : decode cX8_exchange 1 = .ok (.iconst 0, 1) := by decide +kernel
set_option maxRecDepth 100000 in
theorem dX8_exchange_2 : decode cX8_exchange 2 = .ok (.aload_n 0, 1) := by decide +kernel
set_option maxRecDepth 100000 in
theorem dX8_exchange_3 : decode cX8_exchange 3 = .ok (.arraylength, 1) := by decide +kernel
set_option maxRecDepth 100000 in
theorem dX8_exchange_4 : decode cX8_exchange 4 = .ok (.iconst 1, 1) := by decide +kernel
set_option maxRecDepth 100000 in
theorem dX8_exchange_5 : decode cX8_exchange 5 = .ok (.isub, 1) := by decide +kernel
set_option maxRecDepth 100000 in
theorem dX8_exchange_6 : decode cX8_exchange 6 = .ok (.invokestatic 121, 3) := by decide +kernel
set_option maxRecDepth 100000 in
theorem dX8_exchange_9 : decode cX8_exchange 9 = .ok (.ifCond .ne 5, 3) := by decide +kernel
set_option maxRecDepth 100000 in
theorem dX8_exchange_12 : decode cX8_exchange 12 = .ok (.iconst (-1), 1) := by decide +kernel
set_option maxRecDepth 100000 in
theorem dX8_exchange_13 : decode cX8_exchange 13 = .ok (.ireturn, 1) := by decide +kernel
set_option maxRecDepth 100000 in
theorem dX8_exchange_14 : decode cX8_exchange 14 = .ok (.aload_n 0, 1) := by decide +kernel
set_option maxRecDepth 100000 in
theorem dX8_exchange_15 : decode cX8_exchange 15 = .ok (.iload_n 1, 1) := by decide +kernel
set_option maxRecDepth 100000 in
theorem dX8_exchange_16 : decode cX8_exchange 16 = .ok (.iaload, 1) := by decide +kernel
set_option maxRecDepth 100000 in
theorem dX8_exchange_17 : decode cX8_exchange 17 = .ok (.istore_n 3, 1) := by decide +kernel
set_option maxRecDepth 100000 in
theorem dX8_exchange_18 : decode cX8_exchange 18 = .ok (.aload_n 0, 1) := by decide +kernel
set_option maxRecDepth 100000 in
theorem dX8_exchange_19 : decode cX8_exchange 19 = .ok (.iload_n 1, 1) := by decide +kernel
set_option maxRecDepth 100000 in
theorem dX8_exchange_20 : decode cX8_exchange 20 = .ok (.iload_n 2, 1) := by decide +kernel
set_option maxRecDepth 100000 in
theorem dX8_exchange_21 : decode cX8_exchange 21 = .ok (.iastore, 1) := by decide +kernel
set_option maxRecDepth 100000 in
theorem dX8_exchange_22 : decode cX8_exchange 22 = .ok (.iload_n 3, 1) := by decide +kernel
set_option maxRecDepth 100000 in
theorem dX8_exchange_23 : decode cX8_exchange 23 = .ok (.ireturn, 1) := by decide +kernel
set_option maxRecDepth 100000 in
theorem dX8_byteOf_0 : decode cX8_byteOf 0 = .ok (.lload_n 0, 1) := by decide +kernel
set_option maxRecDepth 100000 in
theorem dX8_byteOf_1 : decode cX8_byteOf 1 = .ok (.bipush 8, 2) := by decide +kernel
set_option maxRecDepth 100000 in
theorem dX8_byteOf_3 : decode cX8_byteOf 3 = .ok (.iload_n 2, 1) := by decide +kernel
set_option maxRecDepth 100000 in
theorem dX8_byteOf_4 : decode cX8_byteOf 4 = .ok (.imul, 1) := by decide +kernel
set_option maxRecDepth 100000 in
theorem dX8_byteOf_5 : decode cX8_byteOf 5 = .ok (.lushr, 1) := by decide +kernel
set_option maxRecDepth 100000 in
theorem dX8_byteOf_6 : decode cX8_byteOf 6 = .ok (.l2i, 1) := by decide +kernel
set_option maxRecDepth 100000 in
theorem dX8_byteOf_7 : decode cX8_byteOf 7 = .ok (.sipush 255, 3) := by decide +kernel
set_option maxRecDepth 100000 in
theorem dX8_byteOf_10 : decode cX8_byteOf 10 = .ok (.iand, 1) := by decide +kernel
set_option maxRecDepth 100000 in
theorem dX8_byteOf_11 : decode cX8_byteOf 11 = .ok (.ireturn, 1) := by decide +kernel
set_option maxRecDepth 100000 in
theorem dX8_lettersIn_0 : decode cX8_lettersIn 0 = .ok (.iconst 0, 1) := by decide +kernel
set_option maxRecDepth 100000 in
theorem dX8_lettersIn_1 : decode cX8_lettersIn 1 = .ok (.istore_n 2, 1) := by decide +kernel
set_option maxRecDepth 100000 in
theorem dX8_lettersIn_2 : decode cX8_lettersIn 2 = .ok (.iconst 0, 1) := by decide +kernel
set_option maxRecDepth 100000 in
theorem dX8_lettersIn_3 : decode cX8_lettersIn 3 = .ok (.istore_n 3, 1) := by decide +kernel
set_option maxRecDepth 100000 in
theorem dX8_lettersIn_4 : decode cX8_lettersIn 4 = .ok (.iload_n 3, 1) := by decide +kernel
set_option maxRecDepth 100000 in
theorem dX8_lettersIn_5 : decode cX8_lettersIn 5 = .ok (.bipush 8, 2) := by decide +kernel
set_option maxRecDepth 100000 in
theorem dX8_lettersIn_7 : decode cX8_lettersIn 7 = .ok (.if_icmp .ge 55, 3) := by decide +kernel
set_option maxRecDepth 100000 in
theorem dX8_lettersIn_10 : decode cX8_lettersIn 10 = .ok (.lload_n 0, 1) := by decide +kernel
set_option maxRecDepth 100000 in
theorem dX8_lettersIn_11 : decode cX8_lettersIn 11 = .ok (.iload_n 3, 1) := by decide +kernel
set_option maxRecDepth 100000 in
theorem dX8_lettersIn_12 : decode cX8_lettersIn 12 = .ok (.invokestatic 95, 3) := by decide +kernel
set_option maxRecDepth 100000 in
theorem dX8_lettersIn_15 : decode cX8_lettersIn 15 = .ok (.istore 4, 2) := by decide +kernel
set_option maxRecDepth 100000 in
theorem dX8_lettersIn_17 : decode cX8_lettersIn 17 = .ok (.iload 4, 2) := by decide +kernel
set_option maxRecDepth 100000 in
theorem dX8_lettersIn_19 : decode cX8_lettersIn 19 = .ok (.ifCond .eq 12, 3) := by decide +kernel
set_option maxRecDepth 100000 in
theorem dX8_lettersIn_22 : decode cX8_lettersIn 22 = .ok (.iload_n 2, 1) := by decide +kernel
set_option maxRecDepth 100000 in
theorem dX8_lettersIn_23 : decode cX8_lettersIn 23 = .ok (.iload_n 3, 1) := by decide +kernel
set_option maxRecDepth 100000 in
theorem dX8_lettersIn_24 : decode cX8_lettersIn 24 = .ok (.if_icmp .ge 7, 3) := by decide +kernel
set_option maxRecDepth 100000 in
theorem dX8_lettersIn_27 : decode cX8_lettersIn 27 = .ok (.iconst 1, 1) := by decide +kernel
set_option maxRecDepth 100000 in
theorem dX8_lettersIn_28 : decode cX8_lettersIn 28 = .ok (.goto 4, 3) := by decide +kernel
set_option maxRecDepth 100000 in
theorem dX8_lettersIn_31 : decode cX8_lettersIn 31 = .ok (.iconst 0, 1) := by decide +kernel
set_option maxRecDepth 100000 in
theorem dX8_lettersIn_32 : decode cX8_lettersIn 32 = .ok (.istore 5, 2) := by decide +kernel
set_option maxRecDepth 100000 in
theorem dX8_lettersIn_34 : decode cX8_lettersIn 34 = .ok (.iload 4, 2) := by decide +kernel
set_option maxRecDepth 100000 in
theorem dX8_lettersIn_36 : decode cX8_lettersIn 36 = .ok (.bipush 126, 2) := by decide +kernel
set_option maxRecDepth 100000 in
theorem dX8_lettersIn_38 : decode cX8_lettersIn 38 = .ok (.if_icmp .gt 8, 3) := by decide +kernel
set_option maxRecDepth 100000 in
theorem dX8_lettersIn_41 : decode cX8_lettersIn 41 = .ok (.iload 5, 2) := by decide +kernel
set_option maxRecDepth 100000 in
theorem dX8_lettersIn_43 : decode cX8_lettersIn 43 = .ok (.ifCond .eq 5, 3) := by decide +kernel
set_option maxRecDepth 100000 in
theorem dX8_lettersIn_46 : decode cX8_lettersIn 46 = .ok (.iconst (-1), 1) := by decide +kernel
set_option maxRecDepth 100000 in
theorem dX8_lettersIn_47 : decode cX8_lettersIn 47 = .ok (.ireturn, 1) := by decide +kernel
set_option maxRecDepth 100000 in
theorem dX8_lettersIn_48 : decode cX8_lettersIn 48 = .ok (.iload 4, 2) := by decide +kernel
set_option maxRecDepth 100000 in
theorem dX8_lettersIn_50 : decode cX8_lettersIn 50 = .ok (.ifCond .eq 6, 3) := by decide +kernel
set_option maxRecDepth 100000 in
theorem dX8_lettersIn_53 : decode cX8_lettersIn 53 = .ok (.iinc 2 1, 3) := by decide +kernel
set_option maxRecDepth 100000 in
theorem dX8_lettersIn_56 : decode cX8_lettersIn 56 = .ok (.iinc 3 1, 3) := by decide +kernel
set_option maxRecDepth 100000 in
theorem dX8_lettersIn_59 : decode cX8_lettersIn 59 = .ok (.goto (-55), 3) := by decide +kernel
set_option maxRecDepth 100000 in
theorem dX8_lettersIn_62 : decode cX8_lettersIn 62 = .ok (.iload_n 2, 1) := by decide +kernel
set_option maxRecDepth 100000 in
theorem dX8_lettersIn_63 : decode cX8_lettersIn 63 = .ok (.ireturn, 1) := by decide +kernel
