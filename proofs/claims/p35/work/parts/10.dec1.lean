/-! decode rows (printed) -/
set_option maxRecDepth 100000 in
theorem dX0_init_0 : decode cX0_init 0 = .ok (.aload_n 0, 1) := by decide +kernel
set_option maxRecDepth 100000 in
theorem dX0_init_1 : decode cX0_init 1 = .ok (.invokespecial 3, 3) := by decide +kernel
set_option maxRecDepth 100000 in
theorem dX0_init_4 : decode cX0_init 4 = .ok (.aload_n 0, 1) := by decide +kernel
set_option maxRecDepth 100000 in
theorem dX0_init_5 : decode cX0_init 5 = .ok (.iconst 3, 1) := by decide +kernel
set_option maxRecDepth 100000 in
theorem dX0_init_6 : decode cX0_init 6 = .ok (.newarray .int, 2) := by decide +kernel
set_option maxRecDepth 100000 in
theorem dX0_init_8 : decode cX0_init 8 = .ok (.putfield 9, 3) := by decide +kernel
set_option maxRecDepth 100000 in
theorem dX0_init_11 : decode cX0_init 11 = .ok (.aload_n 0, 1) := by decide +kernel
set_option maxRecDepth 100000 in
theorem dX0_init_12 : decode cX0_init 12 = .ok (.iconst 3, 1) := by decide +kernel
set_option maxRecDepth 100000 in
theorem dX0_init_13 : decode cX0_init 13 = .ok (.newarray .int, 2) := by decide +kernel
set_option maxRecDepth 100000 in
theorem dX0_init_15 : decode cX0_init 15 = .ok (.putfield 15, 3) := by decide +kernel
set_option maxRecDepth 100000 in
theorem dX0_init_18 : decode cX0_init 18 = .ok (.aload_n 0, 1) := by decide +kernel
set_option maxRecDepth 100000 in
theorem dX0_init_19 : decode cX0_init 19 = .ok (.iconst 3, 1) := by decide +kernel
set_option maxRecDepth 100000 in
theorem dX0_init_20 : decode cX0_init 20 = .ok (.newarray .int, 2) := by decide +kernel
set_option maxRecDepth 100000 in
theorem dX0_init_22 : decode cX0_init 22 = .ok (.putfield 18, 3) := by decide +kernel
set_option maxRecDepth 100000 in
theorem dX0_init_25 : decode cX0_init 25 = .ok (.aload_n 0, 1) := by decide +kernel
set_option maxRecDepth 100000 in
theorem dX0_init_26 : decode cX0_init 26 = .ok (.iconst 3, 1) := by decide +kernel
set_option maxRecDepth 100000 in
theorem dX0_init_27 : decode cX0_init 27 = .ok (.newarray .int, 2) := by decide +kernel
set_option maxRecDepth 100000 in
theorem dX0_init_29 : decode cX0_init 29 = .ok (.putfield 21, 3) := by decide +kernel
set_option maxRecDepth 100000 in
theorem dX0_init_32 : decode cX0_init 32 = .ok (.aload_n 0, 1) := by decide +kernel
set_option maxRecDepth 100000 in
theorem dX0_init_33 : decode cX0_init 33 = .ok (.bipush 12, 2) := by decide +kernel
set_option maxRecDepth 100000 in
theorem dX0_init_35 : decode cX0_init 35 = .ok (.newarray .int, 2) := by decide +kernel
set_option maxRecDepth 100000 in
theorem dX0_init_37 : decode cX0_init 37 = .ok (.putfield 24, 3) := by decide +kernel
set_option maxRecDepth 100000 in
theorem dX0_init_40 : decode cX0_init 40 = .ok (.return_, 1) := by decide +kernel
set_option maxRecDepth 100000 in
theorem dX0_copyFrom_0 : decode cX0_copyFrom 0 = .ok (.aload_n 0, 1) := by decide +kernel
set_option maxRecDepth 100000 in
theorem dX0_copyFrom_1 : decode cX0_copyFrom 1 = .ok (.aload_n 1, 1) := by decide +kernel
set_option maxRecDepth 100000 in
theorem dX0_copyFrom_2 : decode cX0_copyFrom 2 = .ok (.getfield 27, 3) := by decide +kernel
set_option maxRecDepth 100000 in
theorem dX0_copyFrom_5 : decode cX0_copyFrom 5 = .ok (.putfield 27, 3) := by decide +kernel
set_option maxRecDepth 100000 in
theorem dX0_copyFrom_8 : decode cX0_copyFrom 8 = .ok (.iconst 0, 1) := by decide +kernel
set_option maxRecDepth 100000 in
theorem dX0_copyFrom_9 : decode cX0_copyFrom 9 = .ok (.istore_n 2, 1) := by decide +kernel
set_option maxRecDepth 100000 in
theorem dX0_copyFrom_10 : decode cX0_copyFrom 10 = .ok (.iload_n 2, 1) := by decide +kernel
set_option maxRecDepth 100000 in
theorem dX0_copyFrom_11 : decode cX0_copyFrom 11 = .ok (.iconst 3, 1) := by decide +kernel
set_option maxRecDepth 100000 in
theorem dX0_copyFrom_12 : decode cX0_copyFrom 12 = .ok (.if_icmp .ge 57, 3) := by decide +kernel
set_option maxRecDepth 100000 in
theorem dX0_copyFrom_15 : decode cX0_copyFrom 15 = .ok (.aload_n 0, 1) := by decide +kernel
set_option maxRecDepth 100000 in
theorem dX0_copyFrom_16 : decode cX0_copyFrom 16 = .ok (.getfield 9, 3) := by decide +kernel
set_option maxRecDepth 100000 in
theorem dX0_copyFrom_19 : decode cX0_copyFrom 19 = .ok (.iload_n 2, 1) := by decide +kernel
set_option maxRecDepth 100000 in
theorem dX0_copyFrom_20 : decode cX0_copyFrom 20 = .ok (.aload_n 1, 1) := by decide +kernel
set_option maxRecDepth 100000 in
theorem dX0_copyFrom_21 : decode cX0_copyFrom 21 = .ok (.getfield 9, 3) := by decide +kernel
set_option maxRecDepth 100000 in
theorem dX0_copyFrom_24 : decode cX0_copyFrom 24 = .ok (.iload_n 2, 1) := by decide +kernel
set_option maxRecDepth 100000 in
theorem dX0_copyFrom_25 : decode cX0_copyFrom 25 = .ok (.iaload, 1) := by decide +kernel
set_option maxRecDepth 100000 in
theorem dX0_copyFrom_26 : decode cX0_copyFrom 26 = .ok (.iastore, 1) := by decide +kernel
set_option maxRecDepth 100000 in
theorem dX0_copyFrom_27 : decode cX0_copyFrom 27 = .ok (.aload_n 0, 1) := by decide +kernel
set_option maxRecDepth 100000 in
theorem dX0_copyFrom_28 : decode cX0_copyFrom 28 = .ok (.getfield 15, 3) := by decide +kernel
set_option maxRecDepth 100000 in
theorem dX0_copyFrom_31 : decode cX0_copyFrom 31 = .ok (.iload_n 2, 1) := by decide +kernel
set_option maxRecDepth 100000 in
theorem dX0_copyFrom_32 : decode cX0_copyFrom 32 = .ok (.aload_n 1, 1) := by decide +kernel
set_option maxRecDepth 100000 in
theorem dX0_copyFrom_33 : decode cX0_copyFrom 33 = .ok (.getfield 15, 3) := by decide +kernel
set_option maxRecDepth 100000 in
theorem dX0_copyFrom_36 : decode cX0_copyFrom 36 = .ok (.iload_n 2, 1) := by decide +kernel
set_option maxRecDepth 100000 in
theorem dX0_copyFrom_37 : decode cX0_copyFrom 37 = .ok (.iaload, 1) := by decide +kernel
set_option maxRecDepth 100000 in
theorem dX0_copyFrom_38 : decode cX0_copyFrom 38 = .ok (.iastore, 1) := by decide +kernel
set_option maxRecDepth 100000 in
theorem dX0_copyFrom_39 : decode cX0_copyFrom 39 = .ok (.aload_n 0, 1) := by decide +kernel
set_option maxRecDepth 100000 in
theorem dX0_copyFrom_40 : decode cX0_copyFrom 40 = .ok (.getfield 18, 3) := by decide +kernel
set_option maxRecDepth 100000 in
theorem dX0_copyFrom_43 : decode cX0_copyFrom 43 = .ok (.iload_n 2, 1) := by decide +kernel
set_option maxRecDepth 100000 in
theorem dX0_copyFrom_44 : decode cX0_copyFrom 44 = .ok (.aload_n 1, 1) := by decide +kernel
set_option maxRecDepth 100000 in
theorem dX0_copyFrom_45 : decode cX0_copyFrom 45 = .ok (.getfield 18, 3) := by decide +kernel
set_option maxRecDepth 100000 in
theorem dX0_copyFrom_48 : decode cX0_copyFrom 48 = .ok (.iload_n 2, 1) := by decide +kernel
set_option maxRecDepth 100000 in
theorem dX0_copyFrom_49 : decode cX0_copyFrom 49 = .ok (.iaload, 1) := by decide +kernel
set_option maxRecDepth 100000 in
theorem dX0_copyFrom_50 : decode cX0_copyFrom 50 = .ok (.iastore, 1) := by decide +kernel
set_option maxRecDepth 100000 in
theorem dX0_copyFrom_51 : decode cX0_copyFrom 51 = .ok (.aload_n 0, 1) := by decide +kernel
set_option maxRecDepth 100000 in
theorem dX0_copyFrom_52 : decode cX0_copyFrom 52 = .ok (.getfield 21, 3) := by decide +kernel
set_option maxRecDepth 100000 in
theorem dX0_copyFrom_55 : decode cX0_copyFrom 55 = .ok (.iload_n 2, 1) := by decide +kernel
set_option maxRecDepth 100000 in
theorem dX0_copyFrom_56 : decode cX0_copyFrom 56 = .ok (.aload_n 1, 1) := by decide +kernel
set_option maxRecDepth 100000 in
theorem dX0_copyFrom_57 : decode cX0_copyFrom 57 = .ok (.getfield 21, 3) := by decide +kernel
set_option maxRecDepth 100000 in
theorem dX0_copyFrom_60 : decode cX0_copyFrom 60 = .ok (.iload_n 2, 1) := by decide +kernel
set_option maxRecDepth 100000 in
theorem dX0_copyFrom_61 : decode cX0_copyFrom 61 = .ok (.iaload, 1) := by decide +kernel
set_option maxRecDepth 100000 in
theorem dX0_copyFrom_62 : decode cX0_copyFrom 62 = .ok (.iastore, 1) := by decide +kernel
set_option maxRecDepth 100000 in
theorem dX0_copyFrom_63 : decode cX0_copyFrom 63 = .ok (.iinc 2 1, 3) := by decide +kernel
set_option maxRecDepth 100000 in
theorem dX0_copyFrom_66 : decode cX0_copyFrom 66 = .ok (.goto (-56), 3) := by decide +kernel
set_option maxRecDepth 100000 in
theorem dX0_copyFrom_69 : decode cX0_copyFrom 69 = .ok (.aload_n 0, 1) := by decide +kernel
set_option maxRecDepth 100000 in
theorem dX0_copyFrom_70 : decode cX0_copyFrom 70 = .ok (.aload_n 1, 1) := by decide +kernel
set_option maxRecDepth 100000 in
theorem dX0_copyFrom_71 : decode cX0_copyFrom 71 = .ok (.getfield 31, 3) := by decide +kernel
set_option maxRecDepth 100000 in
theorem dX0_copyFrom_74 : decode cX0_copyFrom 74 = .ok (.putfield 31, 3) := by decide +kernel
set_option maxRecDepth 100000 in
theorem dX0_copyFrom_77 : decode cX0_copyFrom 77 = .ok (.aload_n 0, 1) := by decide +kernel
set_option maxRecDepth 100000 in
theorem dX0_copyFrom_78 : decode cX0_copyFrom 78 = .ok (.aload_n 1, 1) := by decide +kernel
set_option maxRecDepth 100000 in
theorem dX0_copyFrom_79 : decode cX0_copyFrom 79 = .ok (.getfield 34, 3) := by decide +kernel
set_option maxRecDepth 100000 in
theorem dX0_copyFrom_82 : decode cX0_copyFrom 82 = .ok (.putfield 34, 3) := by decide +kernel
set_option maxRecDepth 100000 in
theorem dX0_copyFrom_85 : decode cX0_copyFrom 85 = .ok (.aload_n 0, 1) := by decide +kernel
set_option maxRecDepth 100000 in
theorem dX0_copyFrom_86 : decode cX0_copyFrom 86 = .ok (.aload_n 1, 1) := by decide +kernel
set_option maxRecDepth 100000 in
theorem dX0_copyFrom_87 : decode cX0_copyFrom 87 = .ok (.getfield 37, 3) := by decide +kernel
set_option maxRecDepth 100000 in
theorem dX0_copyFrom_90 : decode cX0_copyFrom 90 = .ok (.putfield 37, 3) := by decide +kernel
set_option maxRecDepth 100000 in
theorem dX0_copyFrom_93 : decode cX0_copyFrom 93 = .ok (.aload_n 0, 1) := by decide +kernel
set_option maxRecDepth 100000 in
theorem dX0_copyFrom_94 : decode cX0_copyFrom 94 = .ok (.aload_n 1, 1) := by decide +kernel
set_option maxRecDepth 100000 in
theorem dX0_copyFrom_95 : decode cX0_copyFrom 95 = .ok (.getfield 40, 3) := by decide +kernel
set_option maxRecDepth 100000 in
theorem dX0_copyFrom_98 : decode cX0_copyFrom 98 = .ok (.putfield 40, 3) := by decide +kernel
set_option maxRecDepth 100000 in
theorem dX0_copyFrom_101 : decode cX0_copyFrom 101 = .ok (.iconst 0, 1) := by decide +kernel
set_option maxRecDepth 100000 in
theorem dX0_copyFrom_102 : decode cX0_copyFrom 102 = .ok (.istore_n 2, 1) := by decide +kernel
set_option maxRecDepth 100000 in
theorem dX0_copyFrom_103 : decode cX0_copyFrom 103 = .ok (.iload_n 2, 1) := by decide +kernel
set_option maxRecDepth 100000 in
theorem dX0_copyFrom_104 : decode cX0_copyFrom 104 = .ok (.bipush 12, 2) := by decide +kernel
set_option maxRecDepth 100000 in
theorem dX0_copyFrom_106 : decode cX0_copyFrom 106 = .ok (.if_icmp .ge 21, 3) := by decide +kernel
set_option maxRecDepth 100000 in
theorem dX0_copyFrom_109 : decode cX0_copyFrom 109 = .ok (.aload_n 0, 1) := by decide +kernel
set_option maxRecDepth 100000 in
theorem dX0_copyFrom_110 : decode cX0_copyFrom 110 = .ok (.getfield 24, 3) := by decide +kernel
set_option maxRecDepth 100000 in
theorem dX0_copyFrom_113 : decode cX0_copyFrom 113 = .ok (.iload_n 2, 1) := by decide +kernel
set_option maxRecDepth 100000 in
theorem dX0_copyFrom_114 : decode cX0_copyFrom 114 = .ok (.aload_n 1, 1) := by decide +kernel
set_option maxRecDepth 100000 in
theorem dX0_copyFrom_115 : decode cX0_copyFrom 115 = .ok (.getfield 24, 3) := by decide +kernel
set_option maxRecDepth 100000 in
theorem dX0_copyFrom_118 : decode cX0_copyFrom 118 = .ok (.iload_n 2, 1) := by decide +kernel
set_option maxRecDepth 100000 in
theorem dX0_copyFrom_119 : decode cX0_copyFrom 119 = .ok (.iaload, 1) := by decide +kernel
set_option maxRecDepth 100000 in
theorem dX0_copyFrom_120 : decode cX0_copyFrom 120 = .ok (.iastore, 1) := by decide +kernel
set_option maxRecDepth 100000 in
theorem dX0_copyFrom_121 : decode cX0_copyFrom 121 = .ok (.iinc 2 1, 3) := by decide +kernel
set_option maxRecDepth 100000 in
theorem dX0_copyFrom_124 : decode cX0_copyFrom 124 = .ok (.goto (-21), 3) := by decide +kernel
set_option maxRecDepth 100000 in
theorem dX0_copyFrom_127 : decode cX0_copyFrom 127 = .ok (.return_, 1) := by decide +kernel
set_option maxRecDepth 100000 in
theorem dX0_hasVessel_0 : decode cX0_hasVessel 0 = .ok (.iload_n 1, 1) := by decide +kernel
set_option maxRecDepth 100000 in
theorem dX0_hasVessel_1 : decode cX0_hasVessel 1 = .ok (.ifCond .lt 20, 3) := by decide +kernel
set_option maxRecDepth 100000 in
theorem dX0_hasVessel_4 : decode cX0_hasVessel 4 = .ok (.iload_n 1, 1) := by decide +kernel
set_option maxRecDepth 100000 in
theorem dX0_hasVessel_5 : decode cX0_hasVessel 5 = .ok (.aload_n 0, 1) := by decide +kernel
set_option maxRecDepth 100000 in
theorem dX0_hasVessel_6 : decode cX0_hasVessel 6 = .ok (.getfield 27, 3) := by decide +kernel
set_option maxRecDepth 100000 in
theorem dX0_hasVessel_9 : decode cX0_hasVessel 9 = .ok (.if_icmp .ge 12, 3) := by decide +kernel
set_option maxRecDepth 100000 in
theorem dX0_hasVessel_12 : decode cX0_hasVessel 12 = .ok (.iload_n 1, 1) := by decide +kernel
set_option maxRecDepth 100000 in
theorem dX0_hasVessel_13 : decode cX0_hasVessel 13 = .ok (.iconst 3, 1) := by decide +kernel
set_option maxRecDepth 100000 in
theorem dX0_hasVessel_14 : decode cX0_hasVessel 14 = .ok (.if_icmp .ge 7, 3) := by decide +kernel
set_option maxRecDepth 100000 in
theorem dX0_hasVessel_17 : decode cX0_hasVessel 17 = .ok (.iconst 1, 1) := by decide +kernel
set_option maxRecDepth 100000 in
theorem dX0_hasVessel_18 : decode cX0_hasVessel 18 = .ok (.goto 4, 3) := by decide +kernel
set_option maxRecDepth 100000 in
theorem dX0_hasVessel_21 : decode cX0_hasVessel 21 = .ok (.iconst 0, 1) := by decide +kernel
set_option maxRecDepth 100000 in
theorem dX0_hasVessel_22 : decode cX0_hasVessel 22 = .ok (.ireturn, 1) := by decide +kernel
set_option maxRecDepth 100000 in
theorem dX0_hasBall_0 : decode cX0_hasBall 0 = .ok (.iload_n 1, 1) := by decide +kernel
set_option maxRecDepth 100000 in
theorem dX0_hasBall_1 : decode cX0_hasBall 1 = .ok (.ifCond .lt 21, 3) := by decide +kernel
set_option maxRecDepth 100000 in
theorem dX0_hasBall_4 : decode cX0_hasBall 4 = .ok (.iload_n 1, 1) := by decide +kernel
set_option maxRecDepth 100000 in
theorem dX0_hasBall_5 : decode cX0_hasBall 5 = .ok (.aload_n 0, 1) := by decide +kernel
set_option maxRecDepth 100000 in
theorem dX0_hasBall_6 : decode cX0_hasBall 6 = .ok (.getfield 40, 3) := by decide +kernel
set_option maxRecDepth 100000 in
theorem dX0_hasBall_9 : decode cX0_hasBall 9 = .ok (.if_icmp .ge 13, 3) := by decide +kernel
set_option maxRecDepth 100000 in
theorem dX0_hasBall_12 : decode cX0_hasBall 12 = .ok (.iload_n 1, 1) := by decide +kernel
set_option maxRecDepth 100000 in
theorem dX0_hasBall_13 : decode cX0_hasBall 13 = .ok (.bipush 12, 2) := by decide +kernel
set_option maxRecDepth 100000 in
theorem dX0_hasBall_15 : decode cX0_hasBall 15 = .ok (.if_icmp .ge 7, 3) := by decide +kernel
set_option maxRecDepth 100000 in
theorem dX0_hasBall_18 : decode cX0_hasBall 18 = .ok (.iconst 1, 1) := by decide +kernel
set_option maxRecDepth 100000 in
theorem dX0_hasBall_19 : decode cX0_hasBall 19 = .ok (.goto 4, 3) := by decide +kernel
set_option maxRecDepth 100000 in
theorem dX0_hasBall_22 : decode cX0_hasBall 22 = .ok (.iconst 0, 1) := by decide +kernel
set_option maxRecDepth 100000 in
theorem dX0_hasBall_23 : decode cX0_hasBall 23 = .ok (.ireturn, 1) := by decide +kernel
set_option maxRecDepth 100000 in
theorem dX0_addVessel_0 : decode cX0_addVessel 0 = .ok (.aload_n 0, 1) := by decide +kernel
set_option maxRecDepth 100000 in
theorem dX0_addVessel_1 : decode cX0_addVessel 1 = .ok (.getfield 27, 3) := by decide +kernel
set_option maxRecDepth 100000 in
theorem dX0_addVessel_4 : decode cX0_addVessel 4 = .ok (.iconst 3, 1) := by decide +kernel
set_option maxRecDepth 100000 in
theorem dX0_addVessel_5 : decode cX0_addVessel 5 = .ok (.if_icmp .ge 55, 3) := by decide +kernel
set_option maxRecDepth 100000 in
theorem dX0_addVessel_8 : decode cX0_addVessel 8 = .ok (.aload_n 0, 1) := by decide +kernel
set_option maxRecDepth 100000 in
theorem dX0_addVessel_9 : decode cX0_addVessel 9 = .ok (.getfield 9, 3) := by decide +kernel
set_option maxRecDepth 100000 in
theorem dX0_addVessel_12 : decode cX0_addVessel 12 = .ok (.aload_n 0, 1) := by decide +kernel
set_option maxRecDepth 100000 in
theorem dX0_addVessel_13 : decode cX0_addVessel 13 = .ok (.getfield 27, 3) := by decide +kernel
set_option maxRecDepth 100000 in
theorem dX0_addVessel_16 : decode cX0_addVessel 16 = .ok (.iload_n 1, 1) := by decide +kernel
set_option maxRecDepth 100000 in
theorem dX0_addVessel_17 : decode cX0_addVessel 17 = .ok (.iastore, 1) := by decide +kernel
set_option maxRecDepth 100000 in
theorem dX0_addVessel_18 : decode cX0_addVessel 18 = .ok (.aload_n 0, 1) := by decide +kernel
set_option maxRecDepth 100000 in
theorem dX0_addVessel_19 : decode cX0_addVessel 19 = .ok (.getfield 15, 3) := by decide +kernel
set_option maxRecDepth 100000 in
theorem dX0_addVessel_22 : decode cX0_addVessel 22 = .ok (.aload_n 0, 1) := by decide +kernel
set_option maxRecDepth 100000 in
theorem dX0_addVessel_23 : decode cX0_addVessel 23 = .ok (.getfield 27, 3) := by decide +kernel
set_option maxRecDepth 100000 in
theorem dX0_addVessel_26 : decode cX0_addVessel 26 = .ok (.iload_n 2, 1) := by decide +kernel
set_option maxRecDepth 100000 in
theorem dX0_addVessel_27 : decode cX0_addVessel 27 = .ok (.iastore, 1) := by decide +kernel
set_option maxRecDepth 100000 in
theorem dX0_addVessel_28 : decode cX0_addVessel 28 = .ok (.aload_n 0, 1) := by decide +kernel
set_option maxRecDepth 100000 in
theorem dX0_addVessel_29 : decode cX0_addVessel 29 = .ok (.getfield 18, 3) := by decide +kernel
set_option maxRecDepth 100000 in
theorem dX0_addVessel_32 : decode cX0_addVessel 32 = .ok (.aload_n 0, 1) := by decide +kernel
set_option maxRecDepth 100000 in
theorem dX0_addVessel_33 : decode cX0_addVessel 33 = .ok (.getfield 27, 3) := by decide +kernel
set_option maxRecDepth 100000 in
theorem dX0_addVessel_36 : decode cX0_addVessel 36 = .ok (.iload_n 3, 1) := by decide +kernel
set_option maxRecDepth 100000 in
theorem dX0_addVessel_37 : decode cX0_addVessel 37 = .ok (.iastore, 1) := by decide +kernel
set_option maxRecDepth 100000 in
theorem dX0_addVessel_38 : decode cX0_addVessel 38 = .ok (.aload_n 0, 1) := by decide +kernel
set_option maxRecDepth 100000 in
theorem dX0_addVessel_39 : decode cX0_addVessel 39 = .ok (.getfield 21, 3) := by decide +kernel
set_option maxRecDepth 100000 in
theorem dX0_addVessel_42 : decode cX0_addVessel 42 = .ok (.aload_n 0, 1) := by decide +kernel
set_option maxRecDepth 100000 in
theorem dX0_addVessel_43 : decode cX0_addVessel 43 = .ok (.getfield 27, 3) := by decide +kernel
set_option maxRecDepth 100000 in
theorem dX0_addVessel_46 : decode cX0_addVessel 46 = .ok (.iload_n 1, 1) := by decide +kernel
set_option maxRecDepth 100000 in
theorem dX0_addVessel_47 : decode cX0_addVessel 47 = .ok (.iload_n 2, 1) := by decide +kernel
set_option maxRecDepth 100000 in
theorem dX0_addVessel_48 : decode cX0_addVessel 48 = .ok (.imul, 1) := by decide +kernel
set_option maxRecDepth 100000 in
theorem dX0_addVessel_49 : decode cX0_addVessel 49 = .ok (.iastore, 1) := by decide +kernel
set_option maxRecDepth 100000 in
theorem dX0_addVessel_50 : decode cX0_addVessel 50 = .ok (.aload_n 0, 1) := by decide +kernel
set_option maxRecDepth 100000 in
theorem dX0_addVessel_51 : decode cX0_addVessel 51 = .ok (.dup, 1) := by decide +kernel
set_option maxRecDepth 100000 in
theorem dX0_addVessel_52 : decode cX0_addVessel 52 = .ok (.getfield 27, 3) := by decide +kernel
set_option maxRecDepth 100000 in
theorem dX0_addVessel_55 : decode cX0_addVessel 55 = .ok (.iconst 1, 1) := by decide +kernel
set_option maxRecDepth 100000 in
theorem dX0_addVessel_56 : decode cX0_addVessel 56 = .ok (.iadd, 1) := by decide +kernel
set_option maxRecDepth 100000 in
theorem dX0_addVessel_57 : decode cX0_addVessel 57 = .ok (.putfield 27, 3) := by decide +kernel
set_option maxRecDepth 100000 in
theorem dX0_addVessel_60 : decode cX0_addVessel 60 = .ok (.return_, 1) := by decide +kernel
set_option maxRecDepth 100000 in
theorem dX0_addMark_0 : decode cX0_addMark 0 = .ok (.aload_n 0, 1) := by decide +kernel
set_option maxRecDepth 100000 in
theorem dX0_addMark_1 : decode cX0_addMark 1 = .ok (.getfield 40, 3) := by decide +kernel
set_option maxRecDepth 100000 in
theorem dX0_addMark_4 : decode cX0_addMark 4 = .ok (.bipush 12, 2) := by decide +kernel
set_option maxRecDepth 100000 in
theorem dX0_addMark_6 : decode cX0_addMark 6 = .ok (.if_icmp .ge 23, 3) := by decide +kernel
set_option maxRecDepth 100000 in
theorem dX0_addMark_9 : decode cX0_addMark 9 = .ok (.aload_n 0, 1) := by decide +kernel
set_option maxRecDepth 100000 in
theorem dX0_addMark_10 : decode cX0_addMark 10 = .ok (.getfield 24, 3) := by decide +kernel
set_option maxRecDepth 100000 in
theorem dX0_addMark_13 : decode cX0_addMark 13 = .ok (.aload_n 0, 1) := by decide +kernel
set_option maxRecDepth 100000 in
theorem dX0_addMark_14 : decode cX0_addMark 14 = .ok (.getfield 40, 3) := by decide +kernel
set_option maxRecDepth 100000 in
theorem dX0_addMark_17 : decode cX0_addMark 17 = .ok (.iload_n 1, 1) := by decide +kernel
set_option maxRecDepth 100000 in
theorem dX0_addMark_18 : decode cX0_addMark 18 = .ok (.iastore, 1) := by decide +kernel
set_option maxRecDepth 100000 in
theorem dX0_addMark_19 : decode cX0_addMark 19 = .ok (.aload_n 0, 1) := by decide +kernel
set_option maxRecDepth 100000 in
theorem dX0_addMark_20 : decode cX0_addMark 20 = .ok (.dup, 1) := by decide +kernel
set_option maxRecDepth 100000 in
theorem dX0_addMark_21 : decode cX0_addMark 21 = .ok (.getfield 40, 3) := by decide +kernel
set_option maxRecDepth 100000 in
theorem dX0_addMark_24 : decode cX0_addMark 24 = .ok (.iconst 1, 1) := by decide +kernel
set_option maxRecDepth 100000 in
theorem dX0_addMark_25 : decode cX0_addMark 25 = .ok (.iadd, 1) := by decide +kernel
set_option maxRecDepth 100000 in
theorem dX0_addMark_26 : decode cX0_addMark 26 = .ok (.putfield 40, 3) := by decide +kernel
set_option maxRecDepth 100000 in
theorem dX0_addMark_29 : decode cX0_addMark 29 = .ok (.return_, 1) := by decide +kernel
set_option maxRecDepth 100000 in
theorem dX0_trueTick_0 : decode cX0_trueTick 0 = .ok (.iload_n 1, 1) := by decide +kernel
set_option maxRecDepth 100000 in
theorem dX0_trueTick_1 : decode cX0_trueTick 1 = .ok (.iconst 1, 1) := by decide +kernel
set_option maxRecDepth 100000 in
theorem dX0_trueTick_2 : decode cX0_trueTick 2 = .ok (.iadd, 1) := by decide +kernel
set_option maxRecDepth 100000 in
theorem dX0_trueTick_3 : decode cX0_trueTick 3 = .ok (.iload_n 2, 1) := by decide +kernel
set_option maxRecDepth 100000 in
theorem dX0_trueTick_4 : decode cX0_trueTick 4 = .ok (.imul, 1) := by decide +kernel
set_option maxRecDepth 100000 in
theorem dX0_trueTick_5 : decode cX0_trueTick 5 = .ok (.aload_n 0, 1) := by decide +kernel
set_option maxRecDepth 100000 in
theorem dX0_trueTick_6 : decode cX0_trueTick 6 = .ok (.getfield 40, 3) := by decide +kernel
set_option maxRecDepth 100000 in
theorem dX0_trueTick_9 : decode cX0_trueTick 9 = .ok (.invokestatic 50, 3) := by decide +kernel
set_option maxRecDepth 100000 in
theorem dX0_trueTick_12 : decode cX0_trueTick 12 = .ok (.ireturn, 1) := by decide +kernel
set_option maxRecDepth 100000 in
theorem dX1_init_0 : decode cX1_init 0 = .ok (.aload_n 0, 1) := by decide +kernel
set_option maxRecDepth 100000 in
theorem dX1_init_1 : decode cX1_init 1 = .ok (.invokespecial 3, 3) := by decide +kernel
set_option maxRecDepth 100000 in
theorem dX1_init_4 : decode cX1_init 4 = .ok (.aload_n 0, 1) := by decide +kernel
set_option maxRecDepth 100000 in
theorem dX1_init_5 : decode cX1_init 5 = .ok (.bipush 96, 2) := by decide +kernel
set_option maxRecDepth 100000 in
theorem dX1_init_7 : decode cX1_init 7 = .ok (.newarray .int, 2) := by decide +kernel
set_option maxRecDepth 100000 in
theorem dX1_init_9 : decode cX1_init 9 = .ok (.putfield 9, 3) := by decide +kernel
set_option maxRecDepth 100000 in
theorem dX1_init_12 : decode cX1_init 12 = .ok (.aload_n 0, 1) := by decide +kernel
set_option maxRecDepth 100000 in
theorem dX1_init_13 : decode cX1_init 13 = .ok (.bipush 96, 2) := by decide +kernel
set_option maxRecDepth 100000 in
theorem dX1_init_15 : decode cX1_init 15 = .ok (.newarray .int, 2) := by decide +kernel
set_option maxRecDepth 100000 in
theorem dX1_init_17 : decode cX1_init 17 = .ok (.putfield 15, 3) := by decide +kernel
set_option maxRecDepth 100000 in
theorem dX1_init_20 : decode cX1_init 20 = .ok (.return_, 1) := by decide +kernel
set_option maxRecDepth 100000 in
theorem dX2_init_0 : decode cX2_init 0 = .ok (.aload_n 0, 1) := by decide +kernel
set_option maxRecDepth 100000 in
theorem dX2_init_1 : decode cX2_init 1 = .ok (.invokespecial 3, 3) := by decide +kernel
set_option maxRecDepth 100000 in
theorem dX2_init_4 : decode cX2_init 4 = .ok (.aload_n 0, 1) := by decide +kernel
set_option maxRecDepth 100000 in
theorem dX2_init_5 : decode cX2_init 5 = .ok (.iconst 0, 1) := by decide +kernel
set_option maxRecDepth 100000 in
theorem dX2_init_6 : decode cX2_init 6 = .ok (.putfield 9, 3) := by decide +kernel
set_option maxRecDepth 100000 in
theorem dX2_init_9 : decode cX2_init 9 = .ok (.return_, 1) := by decide +kernel
set_option maxRecDepth 100000 in
theorem dX2_become_0 : decode cX2_become 0 = .ok (.aload_n 0, 1) := by decide +kernel
set_option maxRecDepth 100000 in
theorem dX2_become_1 : decode cX2_become 1 = .ok (.iload_n 1, 1) := by decide +kernel
set_option maxRecDepth 100000 in
theorem dX2_become_2 : decode cX2_become 2 = .ok (.putfield 9, 3) := by decide +kernel
set_option maxRecDepth 100000 in
theorem dX2_become_5 : decode cX2_become 5 = .ok (.aload_n 0, 1) := by decide +kernel
set_option maxRecDepth 100000 in
theorem dX2_become_6 : decode cX2_become 6 = .ok (.iload_n 2, 1) := by decide +kernel
set_option maxRecDepth 100000 in
theorem dX2_become_7 : decode cX2_become 7 = .ok (.putfield 15, 3) := by decide +kernel
set_option maxRecDepth 100000 in
theorem dX2_become_10 : decode cX2_become 10 = .ok (.aload_n 0, 1) := by decide +kernel
set_option maxRecDepth 100000 in
theorem dX2_become_11 : decode cX2_become 11 = .ok (.iload_n 3, 1) := by decide +kernel
set_option maxRecDepth 100000 in
theorem dX2_become_12 : decode cX2_become 12 = .ok (.putfield 18, 3) := by decide +kernel
set_option maxRecDepth 100000 in
theorem dX2_become_15 : decode cX2_become 15 = .ok (.aload_n 0, 1) := by decide +kernel
set_option maxRecDepth 100000 in
theorem dX2_become_16 : decode cX2_become 16 = .ok (.iload 4, 2) := by decide +kernel
set_option maxRecDepth 100000 in
theorem dX2_become_18 : decode cX2_become 18 = .ok (.putfield 21, 3) := by decide +kernel
set_option maxRecDepth 100000 in
theorem dX2_become_21 : decode cX2_become 21 = .ok (.return_, 1) := by decide +kernel
set_option maxRecDepth 100000 in
theorem dX2_holeOf_0 : decode cX2_holeOf 0 = .ok (.aload_n 0, 1) := by decide +kernel
set_option maxRecDepth 100000 in
theorem dX2_holeOf_1 : decode cX2_holeOf 1 = .ok (.getfield 15, 3) := by decide +kernel
set_option maxRecDepth 100000 in
theorem dX2_holeOf_4 : decode cX2_holeOf 4 = .ok (.iload_n 2, 1) := by decide +kernel
set_option maxRecDepth 100000 in
theorem dX2_holeOf_5 : decode cX2_holeOf 5 = .ok (.if_icmp .ne 11, 3) := by decide +kernel
set_option maxRecDepth 100000 in
theorem dX2_holeOf_8 : decode cX2_holeOf 8 = .ok (.iload_n 3, 1) := by decide +kernel
set_option maxRecDepth 100000 in
theorem dX2_holeOf_9 : decode cX2_holeOf 9 = .ok (.aload_n 0, 1) := by decide +kernel
set_option maxRecDepth 100000 in
theorem dX2_holeOf_10 : decode cX2_holeOf 10 = .ok (.getfield 21, 3) := by decide +kernel
set_option maxRecDepth 100000 in
theorem dX2_holeOf_13 : decode cX2_holeOf 13 = .ok (.if_icmp .ge 5, 3) := by decide +kernel
set_option maxRecDepth 100000 in
theorem dX2_holeOf_16 : decode cX2_holeOf 16 = .ok (.iload_n 1, 1) := by decide +kernel
set_option maxRecDepth 100000 in
theorem dX2_holeOf_17 : decode cX2_holeOf 17 = .ok (.ireturn, 1) := by decide +kernel
set_option maxRecDepth 100000 in
theorem dX2_holeOf_18 : decode cX2_holeOf 18 = .ok (.aload_n 0, 1) := by decide +kernel
set_option maxRecDepth 100000 in
theorem dX2_holeOf_19 : decode cX2_holeOf 19 = .ok (.getfield 9, 3) := by decide +kernel
set_option maxRecDepth 100000 in
theorem dX2_holeOf_22 : decode cX2_holeOf 22 = .ok (.lookupswitch 44 #[(1, 26), (2, 37)], 26) := by decide +kernel
set_option maxRecDepth 100000 in
theorem dX2_holeOf_48 : decode cX2_holeOf 48 = .ok (.iconst 0, 1) := by decide +kernel
set_option maxRecDepth 100000 in
theorem dX2_holeOf_49 : decode cX2_holeOf 49 = .ok (.iload_n 1, 1) := by decide +kernel
set_option maxRecDepth 100000 in
theorem dX2_holeOf_50 : decode cX2_holeOf 50 = .ok (.aload_n 0, 1) := by decide +kernel
set_option maxRecDepth 100000 in
theorem dX2_holeOf_51 : decode cX2_holeOf 51 = .ok (.getfield 18, 3) := by decide +kernel
set_option maxRecDepth 100000 in
theorem dX2_holeOf_54 : decode cX2_holeOf 54 = .ok (.isub, 1) := by decide +kernel
set_option maxRecDepth 100000 in
theorem dX2_holeOf_55 : decode cX2_holeOf 55 = .ok (.invokestatic 24, 3) := by decide +kernel
set_option maxRecDepth 100000 in
theorem dX2_holeOf_58 : decode cX2_holeOf 58 = .ok (.ireturn, 1) := by decide +kernel
set_option maxRecDepth 100000 in
theorem dX2_holeOf_59 : decode cX2_holeOf 59 = .ok (.iload_n 1, 1) := by decide +kernel
set_option maxRecDepth 100000 in
theorem dX2_holeOf_60 : decode cX2_holeOf 60 = .ok (.aload_n 0, 1) := by decide +kernel
set_option maxRecDepth 100000 in
theorem dX2_holeOf_61 : decode cX2_holeOf 61 = .ok (.getfield 18, 3) := by decide +kernel
set_option maxRecDepth 100000 in
theorem dX2_holeOf_64 : decode cX2_holeOf 64 = .ok (.iadd, 1) := by decide +kernel
set_option maxRecDepth 100000 in
theorem dX2_holeOf_65 : decode cX2_holeOf 65 = .ok (.ireturn, 1) := by decide +kernel
set_option maxRecDepth 100000 in
theorem dX2_holeOf_66 : decode cX2_holeOf 66 = .ok (.iload_n 1, 1) := by decide +kernel
set_option maxRecDepth 100000 in
theorem dX2_holeOf_67 : decode cX2_holeOf 67 = .ok (.ireturn, 1) := by decide +kernel
set_option maxRecDepth 100000 in
theorem dX2_warmthOf_0 : decode cX2_warmthOf 0 = .ok (.aload_n 0, 1) := by decide +kernel
set_option maxRecDepth 100000 in
theorem dX2_warmthOf_1 : decode cX2_warmthOf 1 = .ok (.getfield 9, 3) := by decide +kernel
set_option maxRecDepth 100000 in
theorem dX2_warmthOf_4 : decode cX2_warmthOf 4 = .ok (.iconst 4, 1) := by decide +kernel
set_option maxRecDepth 100000 in
theorem dX2_warmthOf_5 : decode cX2_warmthOf 5 = .ok (.if_icmp .ne 20, 3) := by decide +kernel
set_option maxRecDepth 100000 in
theorem dX2_warmthOf_8 : decode cX2_warmthOf 8 = .ok (.iload_n 2, 1) := by decide +kernel
set_option maxRecDepth 100000 in
theorem dX2_warmthOf_9 : decode cX2_warmthOf 9 = .ok (.aload_n 0, 1) := by decide +kernel
set_option maxRecDepth 100000 in
theorem dX2_warmthOf_10 : decode cX2_warmthOf 10 = .ok (.getfield 21, 3) := by decide +kernel
set_option maxRecDepth 100000 in
theorem dX2_warmthOf_13 : decode cX2_warmthOf 13 = .ok (.if_icmp .lt 12, 3) := by decide +kernel
set_option maxRecDepth 100000 in
theorem dX2_warmthOf_16 : decode cX2_warmthOf 16 = .ok (.iload_n 1, 1) := by decide +kernel
set_option maxRecDepth 100000 in
theorem dX2_warmthOf_17 : decode cX2_warmthOf 17 = .ok (.aload_n 0, 1) := by decide +kernel
set_option maxRecDepth 100000 in
theorem dX2_warmthOf_18 : decode cX2_warmthOf 18 = .ok (.getfield 18, 3) := by decide +kernel
set_option maxRecDepth 100000 in
theorem dX2_warmthOf_21 : decode cX2_warmthOf 21 = .ok (.isub, 1) := by decide +kernel
set_option maxRecDepth 100000 in
theorem dX2_warmthOf_22 : decode cX2_warmthOf 22 = .ok (.goto 4, 3) := by decide +kernel
set_option maxRecDepth 100000 in
theorem dX2_warmthOf_25 : decode cX2_warmthOf 25 = .ok (.iload_n 1, 1) := by decide +kernel
set_option maxRecDepth 100000 in
theorem dX2_warmthOf_26 : decode cX2_warmthOf 26 = .ok (.ireturn, 1) := by decide +kernel
set_option maxRecDepth 100000 in
theorem dX2_leakAt_0 : decode cX2_leakAt 0 = .ok (.aload_n 0, 1) := by decide +kernel
set_option maxRecDepth 100000 in
theorem dX2_leakAt_1 : decode cX2_leakAt 1 = .ok (.getfield 9, 3) := by decide +kernel
set_option maxRecDepth 100000 in
theorem dX2_leakAt_4 : decode cX2_leakAt 4 = .ok (.iconst 3, 1) := by decide +kernel
set_option maxRecDepth 100000 in
theorem dX2_leakAt_5 : decode cX2_leakAt 5 = .ok (.if_icmp .ne 18, 3) := by decide +kernel
set_option maxRecDepth 100000 in
theorem dX2_leakAt_8 : decode cX2_leakAt 8 = .ok (.iload_n 1, 1) := by decide +kernel
set_option maxRecDepth 100000 in
theorem dX2_leakAt_9 : decode cX2_leakAt 9 = .ok (.aload_n 0, 1) := by decide +kernel
set_option maxRecDepth 100000 in
theorem dX2_leakAt_10 : decode cX2_leakAt 10 = .ok (.getfield 21, 3) := by decide +kernel
set_option maxRecDepth 100000 in
theorem dX2_leakAt_13 : decode cX2_leakAt 13 = .ok (.if_icmp .lt 10, 3) := by decide +kernel
set_option maxRecDepth 100000 in
theorem dX2_leakAt_16 : decode cX2_leakAt 16 = .ok (.aload_n 0, 1) := by decide +kernel
set_option maxRecDepth 100000 in
theorem dX2_leakAt_17 : decode cX2_leakAt 17 = .ok (.getfield 18, 3) := by decide +kernel
set_option maxRecDepth 100000 in
theorem dX2_leakAt_20 : decode cX2_leakAt 20 = .ok (.goto 4, 3) := by decide +kernel
set_option maxRecDepth 100000 in
theorem dX2_leakAt_23 : decode cX2_leakAt 23 = .ok (.iconst 0, 1) := by decide +kernel
set_option maxRecDepth 100000 in
theorem dX2_leakAt_24 : decode cX2_leakAt 24 = .ok (.ireturn, 1) := by decide +kernel
set_option maxRecDepth 100000 in
theorem dX3_init_0 : decode cX3_init 0 = .ok (.aload_n 0, 1) := by decide +kernel
set_option maxRecDepth 100000 in
theorem dX3_init_1 : decode cX3_init 1 = .ok (.invokespecial 3, 3) := by decide +kernel
set_option maxRecDepth 100000 in
theorem dX3_init_4 : decode cX3_init 4 = .ok (.aload_n 0, 1) := by decide +kernel
set_option maxRecDepth 100000 in
theorem dX3_init_5 : decode cX3_init 5 = .ok (.bipush 80, 2) := by decide +kernel
set_option maxRecDepth 100000 in
theorem dX3_init_7 : decode cX3_init 7 = .ok (.newarray .char, 2) := by decide +kernel
set_option maxRecDepth 100000 in
theorem dX3_init_9 : decode cX3_init 9 = .ok (.putfield 9, 3) := by decide +kernel
set_option maxRecDepth 100000 in
theorem dX3_init_12 : decode cX3_init 12 = .ok (.return_, 1) := by decide +kernel
set_option maxRecDepth 100000 in
theorem dX3_add_0 : decode cX3_add 0 = .ok (.aload_n 0, 1) := by decide +kernel
set_option maxRecDepth 100000 in
theorem dX3_add_1 : decode cX3_add 1 = .ok (.getfield 15, 3) := by decide +kernel
set_option maxRecDepth 100000 in
theorem dX3_add_4 : decode cX3_add 4 = .ok (.ifCond .lt 32, 3) := by decide +kernel
set_option maxRecDepth 100000 in
theorem dX3_add_7 : decode cX3_add 7 = .ok (.aload_n 0, 1) := by decide +kernel
set_option maxRecDepth 100000 in
theorem dX3_add_8 : decode cX3_add 8 = .ok (.getfield 15, 3) := by decide +kernel
set_option maxRecDepth 100000 in
theorem dX3_add_11 : decode cX3_add 11 = .ok (.bipush 80, 2) := by decide +kernel
set_option maxRecDepth 100000 in
theorem dX3_add_13 : decode cX3_add 13 = .ok (.if_icmp .ge 23, 3) := by decide +kernel
set_option maxRecDepth 100000 in
theorem dX3_add_16 : decode cX3_add 16 = .ok (.aload_n 0, 1) := by decide +kernel
set_option maxRecDepth 100000 in
theorem dX3_add_17 : decode cX3_add 17 = .ok (.getfield 9, 3) := by decide +kernel
set_option maxRecDepth 100000 in
theorem dX3_add_20 : decode cX3_add 20 = .ok (.aload_n 0, 1) := by decide +kernel
set_option maxRecDepth 100000 in
theorem dX3_add_21 : decode cX3_add 21 = .ok (.getfield 15, 3) := by decide +kernel
set_option maxRecDepth 100000 in
theorem dX3_add_24 : decode cX3_add 24 = .ok (.iload_n 1, 1) := by decide +kernel
set_option maxRecDepth 100000 in
theorem dX3_add_25 : decode cX3_add 25 = .ok (.castore, 1) := by decide +kernel
set_option maxRecDepth 100000 in
theorem dX3_add_26 : decode cX3_add 26 = .ok (.aload_n 0, 1) := by decide +kernel
set_option maxRecDepth 100000 in
theorem dX3_add_27 : decode cX3_add 27 = .ok (.dup, 1) := by decide +kernel
set_option maxRecDepth 100000 in
theorem dX3_add_28 : decode cX3_add 28 = .ok (.getfield 15, 3) := by decide +kernel
set_option maxRecDepth 100000 in
theorem dX3_add_31 : decode cX3_add 31 = .ok (.iconst 1, 1) := by decide +kernel
set_option maxRecDepth 100000 in
theorem dX3_add_32 : decode cX3_add 32 = .ok (.iadd, 1) := by decide +kernel
set_option maxRecDepth 100000 in
theorem dX3_add_33 : decode cX3_add 33 = .ok (.putfield 15, 3) := by decide +kernel
set_option maxRecDepth 100000 in
theorem dX3_add_36 : decode cX3_add 36 = .ok (.return_, 1) := by decide +kernel
set_option maxRecDepth 100000 in
theorem dX3_codeAt_0 : decode cX3_codeAt 0 = .ok (.iload_n 1, 1) := by decide +kernel
set_option maxRecDepth 100000 in
theorem dX3_codeAt_1 : decode cX3_codeAt 1 = .ok (.ifCond .lt 26, 3) := by decide +kernel
set_option maxRecDepth 100000 in
theorem dX3_codeAt_4 : decode cX3_codeAt 4 = .ok (.iload_n 1, 1) := by decide +kernel
set_option maxRecDepth 100000 in
theorem dX3_codeAt_5 : decode cX3_codeAt 5 = .ok (.aload_n 0, 1) := by decide +kernel
set_option maxRecDepth 100000 in
theorem dX3_codeAt_6 : decode cX3_codeAt 6 = .ok (.getfield 15, 3) := by decide +kernel
set_option maxRecDepth 100000 in
theorem dX3_codeAt_9 : decode cX3_codeAt 9 = .ok (.if_icmp .ge 18, 3) := by decide +kernel
set_option maxRecDepth 100000 in
theorem dX3_codeAt_12 : decode cX3_codeAt 12 = .ok (.iload_n 1, 1) := by decide +kernel
set_option maxRecDepth 100000 in
theorem dX3_codeAt_13 : decode cX3_codeAt 13 = .ok (.bipush 80, 2) := by decide +kernel
set_option maxRecDepth 100000 in
theorem dX3_codeAt_15 : decode cX3_codeAt 15 = .ok (.if_icmp .ge 12, 3) := by decide +kernel
set_option maxRecDepth 100000 in
theorem dX3_codeAt_18 : decode cX3_codeAt 18 = .ok (.aload_n 0, 1) := by decide +kernel
set_option maxRecDepth 100000 in
theorem dX3_codeAt_19 : decode cX3_codeAt 19 = .ok (.getfield 9, 3) := by decide +kernel
set_option maxRecDepth 100000 in
theorem dX3_codeAt_22 : decode cX3_codeAt 22 = .ok (.iload_n 1, 1) := by decide +kernel
set_option maxRecDepth 100000 in
theorem dX3_codeAt_23 : decode cX3_codeAt 23 = .ok (.caload, 1) := by decide +kernel
set_option maxRecDepth 100000 in
theorem dX3_codeAt_24 : decode cX3_codeAt 24 = .ok (.goto 4, 3) := by decide +kernel
set_option maxRecDepth 100000 in
theorem dX3_codeAt_27 : decode cX3_codeAt 27 = .ok (.iconst (-1), 1) := by decide +kernel
set_option maxRecDepth 100000 in
theorem dX3_codeAt_28 : decode cX3_codeAt 28 = .ok (.ireturn, 1) := by decide +kernel
set_option maxRecDepth 100000 in
theorem dX3_readClock_0 : decode cX3_readClock 0 = .ok (.aload_n 0, 1) := by decide +kernel
set_option maxRecDepth 100000 in
theorem dX3_readClock_1 : decode cX3_readClock 1 = .ok (.iconst 0, 1) := by decide +kernel
set_option maxRecDepth 100000 in
theorem dX3_readClock_2 : decode cX3_readClock 2 = .ok (.putfield 19, 3) := by decide +kernel
set_option maxRecDepth 100000 in
theorem dX3_readClock_5 : decode cX3_readClock 5 = .ok (.aload_n 1, 1) := by decide +kernel
set_option maxRecDepth 100000 in
theorem dX3_readClock_6 : decode cX3_readClock 6 = .ok (.iconst 0, 1) := by decide +kernel
set_option maxRecDepth 100000 in
theorem dX3_readClock_7 : decode cX3_readClock 7 = .ok (.putfield 22, 3) := by decide +kernel
set_option maxRecDepth 100000 in
theorem dX3_readClock_10 : decode cX3_readClock 10 = .ok (.aload_n 1, 1) := by decide +kernel
set_option maxRecDepth 100000 in
theorem dX3_readClock_11 : decode cX3_readClock 11 = .ok (.iconst 0, 1) := by decide +kernel
set_option maxRecDepth 100000 in
theorem dX3_readClock_12 : decode cX3_readClock 12 = .ok (.putfield 27, 3) := by decide +kernel
set_option maxRecDepth 100000 in
theorem dX3_readClock_15 : decode cX3_readClock 15 = .ok (.aload_n 0, 1) := by decide +kernel
set_option maxRecDepth 100000 in
theorem dX3_readClock_16 : decode cX3_readClock 16 = .ok (.aload_n 1, 1) := by decide +kernel
set_option maxRecDepth 100000 in
theorem dX3_readClock_17 : decode cX3_readClock 17 = .ok (.invokevirtual 30, 3) := by decide +kernel
set_option maxRecDepth 100000 in
theorem dX3_readClock_20 : decode cX3_readClock 20 = .ok (.ifCond .eq 42, 3) := by decide +kernel
set_option maxRecDepth 100000 in
theorem dX3_readClock_23 : decode cX3_readClock 23 = .ok (.aload_n 0, 1) := by decide +kernel
set_option maxRecDepth 100000 in
theorem dX3_readClock_24 : decode cX3_readClock 24 = .ok (.aload_n 1, 1) := by decide +kernel
set_option maxRecDepth 100000 in
theorem dX3_readClock_25 : decode cX3_readClock 25 = .ok (.invokevirtual 34, 3) := by decide +kernel
set_option maxRecDepth 100000 in
theorem dX3_readClock_28 : decode cX3_readClock 28 = .ok (.ifCond .eq 34, 3) := by decide +kernel
set_option maxRecDepth 100000 in
theorem dX3_readClock_31 : decode cX3_readClock 31 = .ok (.aload_n 0, 1) := by decide +kernel
set_option maxRecDepth 100000 in
theorem dX3_readClock_32 : decode cX3_readClock 32 = .ok (.aload_n 1, 1) := by decide +kernel
set_option maxRecDepth 100000 in
theorem dX3_readClock_33 : decode cX3_readClock 33 = .ok (.invokevirtual 37, 3) := by decide +kernel
set_option maxRecDepth 100000 in
theorem dX3_readClock_36 : decode cX3_readClock 36 = .ok (.ifCond .eq 26, 3) := by decide +kernel
set_option maxRecDepth 100000 in
theorem dX3_readClock_39 : decode cX3_readClock 39 = .ok (.aload_n 0, 1) := by decide +kernel
set_option maxRecDepth 100000 in
theorem dX3_readClock_40 : decode cX3_readClock 40 = .ok (.aload_n 1, 1) := by decide +kernel
set_option maxRecDepth 100000 in
theorem dX3_readClock_41 : decode cX3_readClock 41 = .ok (.invokevirtual 40, 3) := by decide +kernel
set_option maxRecDepth 100000 in
theorem dX3_readClock_44 : decode cX3_readClock 44 = .ok (.ifCond .eq 18, 3) := by decide +kernel
set_option maxRecDepth 100000 in
theorem dX3_readClock_47 : decode cX3_readClock 47 = .ok (.aload_n 0, 1) := by decide +kernel
set_option maxRecDepth 100000 in
theorem dX3_readClock_48 : decode cX3_readClock 48 = .ok (.getfield 19, 3) := by decide +kernel
set_option maxRecDepth 100000 in
theorem dX3_readClock_51 : decode cX3_readClock 51 = .ok (.aload_n 0, 1) := by decide +kernel
set_option maxRecDepth 100000 in
theorem dX3_readClock_52 : decode cX3_readClock 52 = .ok (.getfield 15, 3) := by decide +kernel
set_option maxRecDepth 100000 in
theorem dX3_readClock_55 : decode cX3_readClock 55 = .ok (.if_icmp .ne 7, 3) := by decide +kernel
set_option maxRecDepth 100000 in
theorem dX3_readClock_58 : decode cX3_readClock 58 = .ok (.iconst 1, 1) := by decide +kernel
set_option maxRecDepth 100000 in
theorem dX3_readClock_59 : decode cX3_readClock 59 = .ok (.goto 4, 3) := by decide +kernel
set_option maxRecDepth 100000 in
theorem dX3_readClock_62 : decode cX3_readClock 62 = .ok (.iconst 0, 1) := by decide +kernel
set_option maxRecDepth 100000 in
theorem dX3_readClock_63 : decode cX3_readClock 63 = .ok (.ireturn, 1) := by decide +kernel
set_option maxRecDepth 100000 in
theorem dX3_readVessels_0 : decode cX3_readVessels 0 = .ok (.iconst 1, 1) := by decide +kernel
set_option maxRecDepth 100000 in
theorem dX3_readVessels_1 : decode cX3_readVessels 1 = .ok (.istore_n 2, 1) := by decide +kernel
set_option maxRecDepth 100000 in
theorem dX3_readVessels_2 : decode cX3_readVessels 2 = .ok (.iconst 0, 1) := by decide +kernel
set_option maxRecDepth 100000 in
theorem dX3_readVessels_3 : decode cX3_readVessels 3 = .ok (.istore_n 3, 1) := by decide +kernel
set_option maxRecDepth 100000 in
theorem dX3_readVessels_4 : decode cX3_readVessels 4 = .ok (.iload_n 3, 1) := by decide +kernel
set_option maxRecDepth 100000 in
theorem dX3_readVessels_5 : decode cX3_readVessels 5 = .ok (.iconst 3, 1) := by decide +kernel
set_option maxRecDepth 100000 in
theorem dX3_readVessels_6 : decode cX3_readVessels 6 = .ok (.if_icmp .ge 45, 3) := by decide +kernel
set_option maxRecDepth 100000 in
theorem dX3_readVessels_9 : decode cX3_readVessels 9 = .ok (.iload_n 2, 1) := by decide +kernel
set_option maxRecDepth 100000 in
theorem dX3_readVessels_10 : decode cX3_readVessels 10 = .ok (.ifCond .eq 41, 3) := by decide +kernel
set_option maxRecDepth 100000 in
theorem dX3_readVessels_13 : decode cX3_readVessels 13 = .ok (.aload_n 0, 1) := by decide +kernel
set_option maxRecDepth 100000 in
theorem dX3_readVessels_14 : decode cX3_readVessels 14 = .ok (.aload_n 1, 1) := by decide +kernel
set_option maxRecDepth 100000 in
theorem dX3_readVessels_15 : decode cX3_readVessels 15 = .ok (.invokevirtual 43, 3) := by decide +kernel
set_option maxRecDepth 100000 in
theorem dX3_readVessels_18 : decode cX3_readVessels 18 = .ok (.ifCond .ne 5, 3) := by decide +kernel
set_option maxRecDepth 100000 in
theorem dX3_readVessels_21 : decode cX3_readVessels 21 = .ok (.iconst 0, 1) := by decide +kernel
set_option maxRecDepth 100000 in
theorem dX3_readVessels_22 : decode cX3_readVessels 22 = .ok (.ireturn, 1) := by decide +kernel
set_option maxRecDepth 100000 in
theorem dX3_readVessels_23 : decode cX3_readVessels 23 = .ok (.iload_n 3, 1) := by decide +kernel
set_option maxRecDepth 100000 in
theorem dX3_readVessels_24 : decode cX3_readVessels 24 = .ok (.iconst 1, 1) := by decide +kernel
set_option maxRecDepth 100000 in
theorem dX3_readVessels_25 : decode cX3_readVessels 25 = .ok (.iadd, 1) := by decide +kernel
set_option maxRecDepth 100000 in
theorem dX3_readVessels_26 : decode cX3_readVessels 26 = .ok (.iconst 3, 1) := by decide +kernel
set_option maxRecDepth 100000 in
theorem dX3_readVessels_27 : decode cX3_readVessels 27 = .ok (.if_icmp .ge 16, 3) := by decide +kernel
set_option maxRecDepth 100000 in
theorem dX3_readVessels_30 : decode cX3_readVessels 30 = .ok (.aload_n 0, 1) := by decide +kernel
set_option maxRecDepth 100000 in
theorem dX3_readVessels_31 : decode cX3_readVessels 31 = .ok (.bipush 62, 2) := by decide +kernel
set_option maxRecDepth 100000 in
theorem dX3_readVessels_33 : decode cX3_readVessels 33 = .ok (.invokevirtual 46, 3) := by decide +kernel
set_option maxRecDepth 100000 in
theorem dX3_readVessels_36 : decode cX3_readVessels 36 = .ok (.ifCond .eq 7, 3) := by decide +kernel
set_option maxRecDepth 100000 in
theorem dX3_readVessels_39 : decode cX3_readVessels 39 = .ok (.iconst 1, 1) := by decide +kernel
set_option maxRecDepth 100000 in
theorem dX3_readVessels_40 : decode cX3_readVessels 40 = .ok (.goto 4, 3) := by decide +kernel
set_option maxRecDepth 100000 in
theorem dX3_readVessels_43 : decode cX3_readVessels 43 = .ok (.iconst 0, 1) := by decide +kernel
set_option maxRecDepth 100000 in
theorem dX3_readVessels_44 : decode cX3_readVessels 44 = .ok (.istore_n 2, 1) := by decide +kernel
set_option maxRecDepth 100000 in
theorem dX3_readVessels_45 : decode cX3_readVessels 45 = .ok (.iinc 3 1, 3) := by decide +kernel
set_option maxRecDepth 100000 in
theorem dX3_readVessels_48 : decode cX3_readVessels 48 = .ok (.goto (-44), 3) := by decide +kernel
set_option maxRecDepth 100000 in
theorem dX3_readVessels_51 : decode cX3_readVessels 51 = .ok (.iconst 1, 1) := by decide +kernel
set_option maxRecDepth 100000 in
theorem dX3_readVessels_52 : decode cX3_readVessels 52 = .ok (.ireturn, 1) := by decide +kernel
set_option maxRecDepth 100000 in
theorem dX3_readVessel_0 : decode cX3_readVessel 0 = .ok (.aload_n 0, 1) := by decide +kernel
set_option maxRecDepth 100000 in
theorem dX3_readVessel_1 : decode cX3_readVessel 1 = .ok (.iconst 1, 1) := by decide +kernel
set_option maxRecDepth 100000 in
theorem dX3_readVessel_2 : decode cX3_readVessel 2 = .ok (.bipush 30, 2) := by decide +kernel
set_option maxRecDepth 100000 in
theorem dX3_readVessel_4 : decode cX3_readVessel 4 = .ok (.invokevirtual 50, 3) := by decide +kernel
set_option maxRecDepth 100000 in
theorem dX3_readVessel_7 : decode cX3_readVessel 7 = .ok (.istore_n 2, 1) := by decide +kernel
set_option maxRecDepth 100000 in
theorem dX3_readVessel_8 : decode cX3_readVessel 8 = .ok (.iload_n 2, 1) := by decide +kernel
set_option maxRecDepth 100000 in
theorem dX3_readVessel_9 : decode cX3_readVessel 9 = .ok (.iconst (-1), 1) := by decide +kernel
set_option maxRecDepth 100000 in
theorem dX3_readVessel_10 : decode cX3_readVessel 10 = .ok (.if_icmp .eq 12, 3) := by decide +kernel
set_option maxRecDepth 100000 in
theorem dX3_readVessel_13 : decode cX3_readVessel 13 = .ok (.aload_n 0, 1) := by decide +kernel
set_option maxRecDepth 100000 in
theorem dX3_readVessel_14 : decode cX3_readVessel 14 = .ok (.bipush 120, 2) := by decide +kernel
set_option maxRecDepth 100000 in
theorem dX3_readVessel_16 : decode cX3_readVessel 16 = .ok (.invokevirtual 46, 3) := by decide +kernel
set_option maxRecDepth 100000 in
theorem dX3_readVessel_19 : decode cX3_readVessel 19 = .ok (.ifCond .ne 5, 3) := by decide +kernel
set_option maxRecDepth 100000 in
theorem dX3_readVessel_22 : decode cX3_readVessel 22 = .ok (.iconst 0, 1) := by decide +kernel
set_option maxRecDepth 100000 in
theorem dX3_readVessel_23 : decode cX3_readVessel 23 = .ok (.ireturn, 1) := by decide +kernel
set_option maxRecDepth 100000 in
theorem dX3_readVessel_24 : decode cX3_readVessel 24 = .ok (.aload_n 0, 1) := by decide +kernel
set_option maxRecDepth 100000 in
theorem dX3_readVessel_25 : decode cX3_readVessel 25 = .ok (.iconst 1, 1) := by decide +kernel
set_option maxRecDepth 100000 in
theorem dX3_readVessel_26 : decode cX3_readVessel 26 = .ok (.bipush 60, 2) := by decide +kernel
set_option maxRecDepth 100000 in
theorem dX3_readVessel_28 : decode cX3_readVessel 28 = .ok (.invokevirtual 50, 3) := by decide +kernel
set_option maxRecDepth 100000 in
theorem dX3_readVessel_31 : decode cX3_readVessel 31 = .ok (.istore_n 3, 1) := by decide +kernel
set_option maxRecDepth 100000 in
theorem dX3_readVessel_32 : decode cX3_readVessel 32 = .ok (.iload_n 3, 1) := by decide +kernel
set_option maxRecDepth 100000 in
theorem dX3_readVessel_33 : decode cX3_readVessel 33 = .ok (.iconst (-1), 1) := by decide +kernel
set_option maxRecDepth 100000 in
theorem dX3_readVessel_34 : decode cX3_readVessel 34 = .ok (.if_icmp .eq 12, 3) := by decide +kernel
set_option maxRecDepth 100000 in
theorem dX3_readVessel_37 : decode cX3_readVessel 37 = .ok (.aload_n 0, 1) := by decide +kernel
set_option maxRecDepth 100000 in
theorem dX3_readVessel_38 : decode cX3_readVessel 38 = .ok (.bipush 104, 2) := by decide +kernel
set_option maxRecDepth 100000 in
theorem dX3_readVessel_40 : decode cX3_readVessel 40 = .ok (.invokevirtual 46, 3) := by decide +kernel
set_option maxRecDepth 100000 in
theorem dX3_readVessel_43 : decode cX3_readVessel 43 = .ok (.ifCond .ne 5, 3) := by decide +kernel
set_option maxRecDepth 100000 in
theorem dX3_readVessel_46 : decode cX3_readVessel 46 = .ok (.iconst 0, 1) := by decide +kernel
set_option maxRecDepth 100000 in
theorem dX3_readVessel_47 : decode cX3_readVessel 47 = .ok (.ireturn, 1) := by decide +kernel
set_option maxRecDepth 100000 in
theorem dX3_readVessel_48 : decode cX3_readVessel 48 = .ok (.aload_n 0, 1) := by decide +kernel
set_option maxRecDepth 100000 in
theorem dX3_readVessel_49 : decode cX3_readVessel 49 = .ok (.iconst 1, 1) := by decide +kernel
set_option maxRecDepth 100000 in
theorem dX3_readVessel_50 : decode cX3_readVessel 50 = .ok (.bipush 40, 2) := by decide +kernel
set_option maxRecDepth 100000 in
theorem dX3_readVessel_52 : decode cX3_readVessel 52 = .ok (.invokevirtual 50, 3) := by decide +kernel
set_option maxRecDepth 100000 in
theorem dX3_readVessel_55 : decode cX3_readVessel 55 = .ok (.istore 4, 2) := by decide +kernel
set_option maxRecDepth 100000 in
theorem dX3_readVessel_57 : decode cX3_readVessel 57 = .ok (.iload 4, 2) := by decide +kernel
set_option maxRecDepth 100000 in
theorem dX3_readVessel_59 : decode cX3_readVessel 59 = .ok (.iconst (-1), 1) := by decide +kernel
set_option maxRecDepth 100000 in
theorem dX3_readVessel_60 : decode cX3_readVessel 60 = .ok (.if_icmp .ne 5, 3) := by decide +kernel
set_option maxRecDepth 100000 in
theorem dX3_readVessel_63 : decode cX3_readVessel 63 = .ok (.iconst 0, 1) := by decide +kernel
set_option maxRecDepth 100000 in
theorem dX3_readVessel_64 : decode cX3_readVessel 64 = .ok (.ireturn, 1) := by decide +kernel
set_option maxRecDepth 100000 in
theorem dX3_readVessel_65 : decode cX3_readVessel 65 = .ok (.aload_n 1, 1) := by decide +kernel
set_option maxRecDepth 100000 in
theorem dX3_readVessel_66 : decode cX3_readVessel 66 = .ok (.iload_n 2, 1) := by decide +kernel
set_option maxRecDepth 100000 in
theorem dX3_readVessel_67 : decode cX3_readVessel 67 = .ok (.iload_n 3, 1) := by decide +kernel
set_option maxRecDepth 100000 in
theorem dX3_readVessel_68 : decode cX3_readVessel 68 = .ok (.iload 4, 2) := by decide +kernel
set_option maxRecDepth 100000 in
theorem dX3_readVessel_70 : decode cX3_readVessel 70 = .ok (.invokevirtual 54, 3) := by decide +kernel
set_option maxRecDepth 100000 in
theorem dX3_readVessel_73 : decode cX3_readVessel 73 = .ok (.iconst 1, 1) := by decide +kernel
set_option maxRecDepth 100000 in
theorem dX3_readVessel_74 : decode cX3_readVessel 74 = .ok (.ireturn, 1) := by decide +kernel
set_option maxRecDepth 100000 in
theorem dX3_readCylinder_0 : decode cX3_readCylinder 0 = .ok (.aload_n 0, 1) := by decide +kernel
set_option maxRecDepth 100000 in
theorem dX3_readCylinder_1 : decode cX3_readCylinder 1 = .ok (.bipush 61, 2) := by decide +kernel
set_option maxRecDepth 100000 in
theorem dX3_readCylinder_3 : decode cX3_readCylinder 3 = .ok (.invokevirtual 46, 3) := by decide +kernel
set_option maxRecDepth 100000 in
theorem dX3_readCylinder_6 : decode cX3_readCylinder 6 = .ok (.ifCond .ne 5, 3) := by decide +kernel
set_option maxRecDepth 100000 in
theorem dX3_readCylinder_9 : decode cX3_readCylinder 9 = .ok (.iconst 0, 1) := by decide +kernel
set_option maxRecDepth 100000 in
theorem dX3_readCylinder_10 : decode cX3_readCylinder 10 = .ok (.ireturn, 1) := by decide +kernel
set_option maxRecDepth 100000 in
theorem dX3_readCylinder_11 : decode cX3_readCylinder 11 = .ok (.aload_n 1, 1) := by decide +kernel
set_option maxRecDepth 100000 in
theorem dX3_readCylinder_12 : decode cX3_readCylinder 12 = .ok (.aload_n 0, 1) := by decide +kernel
set_option maxRecDepth 100000 in
theorem dX3_readCylinder_13 : decode cX3_readCylinder 13 = .ok (.iconst 1, 1) := by decide +kernel
set_option maxRecDepth 100000 in
theorem dX3_readCylinder_14 : decode cX3_readCylinder 14 = .ok (.bipush 99, 2) := by decide +kernel
set_option maxRecDepth 100000 in
theorem dX3_readCylinder_16 : decode cX3_readCylinder 16 = .ok (.invokevirtual 50, 3) := by decide +kernel
set_option maxRecDepth 100000 in
theorem dX3_readCylinder_19 : decode cX3_readCylinder 19 = .ok (.putfield 58, 3) := by decide +kernel
set_option maxRecDepth 100000 in
theorem dX3_readCylinder_22 : decode cX3_readCylinder 22 = .ok (.aload_n 1, 1) := by decide +kernel
set_option maxRecDepth 100000 in
theorem dX3_readCylinder_23 : decode cX3_readCylinder 23 = .ok (.getfield 58, 3) := by decide +kernel
set_option maxRecDepth 100000 in
theorem dX3_readCylinder_26 : decode cX3_readCylinder 26 = .ok (.iconst (-1), 1) := by decide +kernel
set_option maxRecDepth 100000 in
theorem dX3_readCylinder_27 : decode cX3_readCylinder 27 = .ok (.if_icmp .eq 12, 3) := by decide +kernel
set_option maxRecDepth 100000 in
theorem dX3_readCylinder_30 : decode cX3_readCylinder 30 = .ok (.aload_n 0, 1) := by decide +kernel
set_option maxRecDepth 100000 in
theorem dX3_readCylinder_31 : decode cX3_readCylinder 31 = .ok (.bipush 120, 2) := by decide +kernel
set_option maxRecDepth 100000 in
theorem dX3_readCylinder_33 : decode cX3_readCylinder 33 = .ok (.invokevirtual 46, 3) := by decide +kernel
set_option maxRecDepth 100000 in
theorem dX3_readCylinder_36 : decode cX3_readCylinder 36 = .ok (.ifCond .ne 5, 3) := by decide +kernel
set_option maxRecDepth 100000 in
theorem dX3_readCylinder_39 : decode cX3_readCylinder 39 = .ok (.iconst 0, 1) := by decide +kernel
set_option maxRecDepth 100000 in
theorem dX3_readCylinder_40 : decode cX3_readCylinder 40 = .ok (.ireturn, 1) := by decide +kernel
set_option maxRecDepth 100000 in
theorem dX3_readCylinder_41 : decode cX3_readCylinder 41 = .ok (.aload_n 1, 1) := by decide +kernel
set_option maxRecDepth 100000 in
theorem dX3_readCylinder_42 : decode cX3_readCylinder 42 = .ok (.aload_n 0, 1) := by decide +kernel
set_option maxRecDepth 100000 in
theorem dX3_readCylinder_43 : decode cX3_readCylinder 43 = .ok (.iconst 1, 1) := by decide +kernel
set_option maxRecDepth 100000 in
theorem dX3_readCylinder_44 : decode cX3_readCylinder 44 = .ok (.bipush 99, 2) := by decide +kernel
set_option maxRecDepth 100000 in
theorem dX3_readCylinder_46 : decode cX3_readCylinder 46 = .ok (.invokevirtual 50, 3) := by decide +kernel
set_option maxRecDepth 100000 in
theorem dX3_readCylinder_49 : decode cX3_readCylinder 49 = .ok (.putfield 61, 3) := by decide +kernel
set_option maxRecDepth 100000 in
theorem dX3_readCylinder_52 : decode cX3_readCylinder 52 = .ok (.aload_n 1, 1) := by decide +kernel
set_option maxRecDepth 100000 in
theorem dX3_readCylinder_53 : decode cX3_readCylinder 53 = .ok (.getfield 61, 3) := by decide +kernel
set_option maxRecDepth 100000 in
theorem dX3_readCylinder_56 : decode cX3_readCylinder 56 = .ok (.iconst (-1), 1) := by decide +kernel
set_option maxRecDepth 100000 in
theorem dX3_readCylinder_57 : decode cX3_readCylinder 57 = .ok (.if_icmp .eq 7, 3) := by decide +kernel
set_option maxRecDepth 100000 in
theorem dX3_readCylinder_60 : decode cX3_readCylinder 60 = .ok (.iconst 1, 1) := by decide +kernel
set_option maxRecDepth 100000 in
theorem dX3_readCylinder_61 : decode cX3_readCylinder 61 = .ok (.goto 4, 3) := by decide +kernel
set_option maxRecDepth 100000 in
theorem dX3_readCylinder_64 : decode cX3_readCylinder 64 = .ok (.iconst 0, 1) := by decide +kernel
set_option maxRecDepth 100000 in
theorem dX3_readCylinder_65 : decode cX3_readCylinder 65 = .ok (.ireturn, 1) := by decide +kernel
set_option maxRecDepth 100000 in
theorem dX3_readSupply_0 : decode cX3_readSupply 0 = .ok (.aload_n 0, 1) := by decide +kernel
set_option maxRecDepth 100000 in
theorem dX3_readSupply_1 : decode cX3_readSupply 1 = .ok (.bipush 59, 2) := by decide +kernel
set_option maxRecDepth 100000 in
theorem dX3_readSupply_3 : decode cX3_readSupply 3 = .ok (.invokevirtual 46, 3) := by decide +kernel
set_option maxRecDepth 100000 in
theorem dX3_readSupply_6 : decode cX3_readSupply 6 = .ok (.ifCond .eq 12, 3) := by decide +kernel
set_option maxRecDepth 100000 in
theorem dX3_readSupply_9 : decode cX3_readSupply 9 = .ok (.aload_n 0, 1) := by decide +kernel
set_option maxRecDepth 100000 in
theorem dX3_readSupply_10 : decode cX3_readSupply 10 = .ok (.bipush 115, 2) := by decide +kernel
set_option maxRecDepth 100000 in
theorem dX3_readSupply_12 : decode cX3_readSupply 12 = .ok (.invokevirtual 46, 3) := by decide +kernel
set_option maxRecDepth 100000 in
theorem dX3_readSupply_15 : decode cX3_readSupply 15 = .ok (.ifCond .ne 5, 3) := by decide +kernel
set_option maxRecDepth 100000 in
theorem dX3_readSupply_18 : decode cX3_readSupply 18 = .ok (.iconst 0, 1) := by decide +kernel
set_option maxRecDepth 100000 in
theorem dX3_readSupply_19 : decode cX3_readSupply 19 = .ok (.ireturn, 1) := by decide +kernel
set_option maxRecDepth 100000 in
theorem dX3_readSupply_20 : decode cX3_readSupply 20 = .ok (.aload_n 1, 1) := by decide +kernel
set_option maxRecDepth 100000 in
theorem dX3_readSupply_21 : decode cX3_readSupply 21 = .ok (.aload_n 0, 1) := by decide +kernel
set_option maxRecDepth 100000 in
theorem dX3_readSupply_22 : decode cX3_readSupply 22 = .ok (.iconst 0, 1) := by decide +kernel
set_option maxRecDepth 100000 in
theorem dX3_readSupply_23 : decode cX3_readSupply 23 = .ok (.bipush 60, 2) := by decide +kernel
set_option maxRecDepth 100000 in
theorem dX3_readSupply_25 : decode cX3_readSupply 25 = .ok (.invokevirtual 50, 3) := by decide +kernel
set_option maxRecDepth 100000 in
theorem dX3_readSupply_28 : decode cX3_readSupply 28 = .ok (.putfield 64, 3) := by decide +kernel
set_option maxRecDepth 100000 in
theorem dX3_readSupply_31 : decode cX3_readSupply 31 = .ok (.aload_n 1, 1) := by decide +kernel
set_option maxRecDepth 100000 in
theorem dX3_readSupply_32 : decode cX3_readSupply 32 = .ok (.getfield 64, 3) := by decide +kernel
set_option maxRecDepth 100000 in
theorem dX3_readSupply_35 : decode cX3_readSupply 35 = .ok (.iconst (-1), 1) := by decide +kernel
set_option maxRecDepth 100000 in
theorem dX3_readSupply_36 : decode cX3_readSupply 36 = .ok (.if_icmp .eq 7, 3) := by decide +kernel
set_option maxRecDepth 100000 in
theorem dX3_readSupply_39 : decode cX3_readSupply 39 = .ok (.iconst 1, 1) := by decide +kernel
set_option maxRecDepth 100000 in
theorem dX3_readSupply_40 : decode cX3_readSupply 40 = .ok (.goto 4, 3) := by decide +kernel
set_option maxRecDepth 100000 in
theorem dX3_readSupply_43 : decode cX3_readSupply 43 = .ok (.iconst 0, 1) := by decide +kernel
set_option maxRecDepth 100000 in
theorem dX3_readSupply_44 : decode cX3_readSupply 44 = .ok (.ireturn, 1) := by decide +kernel
set_option maxRecDepth 100000 in
theorem dX3_readMarks_0 : decode cX3_readMarks 0 = .ok (.aload_n 0, 1) := by decide +kernel
set_option maxRecDepth 100000 in
theorem dX3_readMarks_1 : decode cX3_readMarks 1 = .ok (.bipush 59, 2) := by decide +kernel
set_option maxRecDepth 100000 in
theorem dX3_readMarks_3 : decode cX3_readMarks 3 = .ok (.invokevirtual 46, 3) := by decide +kernel
set_option maxRecDepth 100000 in
theorem dX3_readMarks_6 : decode cX3_readMarks 6 = .ok (.ifCond .eq 12, 3) := by decide +kernel
set_option maxRecDepth 100000 in
theorem dX3_readMarks_9 : decode cX3_readMarks 9 = .ok (.aload_n 0, 1) := by decide +kernel
set_option maxRecDepth 100000 in
theorem dX3_readMarks_10 : decode cX3_readMarks 10 = .ok (.bipush 109, 2) := by decide +kernel
set_option maxRecDepth 100000 in
theorem dX3_readMarks_12 : decode cX3_readMarks 12 = .ok (.invokevirtual 46, 3) := by decide +kernel
set_option maxRecDepth 100000 in
theorem dX3_readMarks_15 : decode cX3_readMarks 15 = .ok (.ifCond .ne 5, 3) := by decide +kernel
set_option maxRecDepth 100000 in
theorem dX3_readMarks_18 : decode cX3_readMarks 18 = .ok (.iconst 0, 1) := by decide +kernel
set_option maxRecDepth 100000 in
theorem dX3_readMarks_19 : decode cX3_readMarks 19 = .ok (.ireturn, 1) := by decide +kernel
set_option maxRecDepth 100000 in
theorem dX3_readMarks_20 : decode cX3_readMarks 20 = .ok (.iconst 0, 1) := by decide +kernel
set_option maxRecDepth 100000 in
theorem dX3_readMarks_21 : decode cX3_readMarks 21 = .ok (.istore_n 2, 1) := by decide +kernel
set_option maxRecDepth 100000 in
theorem dX3_readMarks_22 : decode cX3_readMarks 22 = .ok (.iconst 1, 1) := by decide +kernel
set_option maxRecDepth 100000 in
theorem dX3_readMarks_23 : decode cX3_readMarks 23 = .ok (.istore_n 3, 1) := by decide +kernel
set_option maxRecDepth 100000 in
theorem dX3_readMarks_24 : decode cX3_readMarks 24 = .ok (.iconst 0, 1) := by decide +kernel
set_option maxRecDepth 100000 in
theorem dX3_readMarks_25 : decode cX3_readMarks 25 = .ok (.istore 4, 2) := by decide +kernel
set_option maxRecDepth 100000 in
theorem dX3_readMarks_27 : decode cX3_readMarks 27 = .ok (.iload 4, 2) := by decide +kernel
set_option maxRecDepth 100000 in
theorem dX3_readMarks_29 : decode cX3_readMarks 29 = .ok (.bipush 12, 2) := by decide +kernel
set_option maxRecDepth 100000 in
theorem dX3_readMarks_31 : decode cX3_readMarks 31 = .ok (.if_icmp .ge 65, 3) := by decide +kernel
set_option maxRecDepth 100000 in
theorem dX3_readMarks_34 : decode cX3_readMarks 34 = .ok (.iload_n 3, 1) := by decide +kernel
set_option maxRecDepth 100000 in
theorem dX3_readMarks_35 : decode cX3_readMarks 35 = .ok (.ifCond .eq 61, 3) := by decide +kernel
set_option maxRecDepth 100000 in
theorem dX3_readMarks_38 : decode cX3_readMarks 38 = .ok (.aload_n 0, 1) := by decide +kernel
set_option maxRecDepth 100000 in
theorem dX3_readMarks_39 : decode cX3_readMarks 39 = .ok (.iload_n 2, 1) := by decide +kernel
set_option maxRecDepth 100000 in
theorem dX3_readMarks_40 : decode cX3_readMarks 40 = .ok (.iconst 1, 1) := by decide +kernel
set_option maxRecDepth 100000 in
theorem dX3_readMarks_41 : decode cX3_readMarks 41 = .ok (.iadd, 1) := by decide +kernel
set_option maxRecDepth 100000 in
theorem dX3_readMarks_42 : decode cX3_readMarks 42 = .ok (.bipush 99, 2) := by decide +kernel
set_option maxRecDepth 100000 in
theorem dX3_readMarks_44 : decode cX3_readMarks 44 = .ok (.invokevirtual 50, 3) := by decide +kernel
set_option maxRecDepth 100000 in
theorem dX3_readMarks_47 : decode cX3_readMarks 47 = .ok (.istore_n 2, 1) := by decide +kernel
set_option maxRecDepth 100000 in
theorem dX3_readMarks_48 : decode cX3_readMarks 48 = .ok (.iload_n 2, 1) := by decide +kernel
set_option maxRecDepth 100000 in
theorem dX3_readMarks_49 : decode cX3_readMarks 49 = .ok (.iconst (-1), 1) := by decide +kernel
set_option maxRecDepth 100000 in
theorem dX3_readMarks_50 : decode cX3_readMarks 50 = .ok (.if_icmp .ne 5, 3) := by decide +kernel
set_option maxRecDepth 100000 in
theorem dX3_readMarks_53 : decode cX3_readMarks 53 = .ok (.iconst 0, 1) := by decide +kernel
set_option maxRecDepth 100000 in
theorem dX3_readMarks_54 : decode cX3_readMarks 54 = .ok (.ireturn, 1) := by decide +kernel
set_option maxRecDepth 100000 in
theorem dX3_readMarks_55 : decode cX3_readMarks 55 = .ok (.aload_n 1, 1) := by decide +kernel
set_option maxRecDepth 100000 in
theorem dX3_readMarks_56 : decode cX3_readMarks 56 = .ok (.iload_n 2, 1) := by decide +kernel
set_option maxRecDepth 100000 in
theorem dX3_readMarks_57 : decode cX3_readMarks 57 = .ok (.invokevirtual 67, 3) := by decide +kernel
set_option maxRecDepth 100000 in
theorem dX3_readMarks_60 : decode cX3_readMarks 60 = .ok (.iload 4, 2) := by decide +kernel
set_option maxRecDepth 100000 in
theorem dX3_readMarks_62 : decode cX3_readMarks 62 = .ok (.iconst 1, 1) := by decide +kernel
set_option maxRecDepth 100000 in
theorem dX3_readMarks_63 : decode cX3_readMarks 63 = .ok (.iadd, 1) := by decide +kernel
set_option maxRecDepth 100000 in
theorem dX3_readMarks_64 : decode cX3_readMarks 64 = .ok (.bipush 12, 2) := by decide +kernel
set_option maxRecDepth 100000 in
theorem dX3_readMarks_66 : decode cX3_readMarks 66 = .ok (.if_icmp .ge 22, 3) := by decide +kernel
set_option maxRecDepth 100000 in
theorem dX3_readMarks_69 : decode cX3_readMarks 69 = .ok (.iload_n 2, 1) := by decide +kernel
set_option maxRecDepth 100000 in
theorem dX3_readMarks_70 : decode cX3_readMarks 70 = .ok (.bipush 99, 2) := by decide +kernel
set_option maxRecDepth 100000 in
theorem dX3_readMarks_72 : decode cX3_readMarks 72 = .ok (.if_icmp .ge 16, 3) := by decide +kernel
set_option maxRecDepth 100000 in
theorem dX3_readMarks_75 : decode cX3_readMarks 75 = .ok (.aload_n 0, 1) := by decide +kernel
set_option maxRecDepth 100000 in
theorem dX3_readMarks_76 : decode cX3_readMarks 76 = .ok (.bipush 44, 2) := by decide +kernel
set_option maxRecDepth 100000 in
theorem dX3_readMarks_78 : decode cX3_readMarks 78 = .ok (.invokevirtual 46, 3) := by decide +kernel
set_option maxRecDepth 100000 in
theorem dX3_readMarks_81 : decode cX3_readMarks 81 = .ok (.ifCond .eq 7, 3) := by decide +kernel
set_option maxRecDepth 100000 in
theorem dX3_readMarks_84 : decode cX3_readMarks 84 = .ok (.iconst 1, 1) := by decide +kernel
set_option maxRecDepth 100000 in
theorem dX3_readMarks_85 : decode cX3_readMarks 85 = .ok (.goto 4, 3) := by decide +kernel
set_option maxRecDepth 100000 in
theorem dX3_readMarks_88 : decode cX3_readMarks 88 = .ok (.iconst 0, 1) := by decide +kernel
set_option maxRecDepth 100000 in
theorem dX3_readMarks_89 : decode cX3_readMarks 89 = .ok (.istore_n 3, 1) := by decide +kernel
set_option maxRecDepth 100000 in
theorem dX3_readMarks_90 : decode cX3_readMarks 90 = .ok (.iinc 4 1, 3) := by decide +kernel
set_option maxRecDepth 100000 in
theorem dX3_readMarks_93 : decode cX3_readMarks 93 = .ok (.goto (-66), 3) := by decide +kernel
set_option maxRecDepth 100000 in
theorem dX3_readMarks_96 : decode cX3_readMarks 96 = .ok (.iconst 1, 1) := by decide +kernel
set_option maxRecDepth 100000 in
theorem dX3_readMarks_97 : decode cX3_readMarks 97 = .ok (.ireturn, 1) := by decide +kernel
set_option maxRecDepth 100000 in
theorem dX3_readSign_0 : decode cX3_readSign 0 = .ok (.aload_n 0, 1) := by decide +kernel
set_option maxRecDepth 100000 in
theorem dX3_readSign_1 : decode cX3_readSign 1 = .ok (.aload_n 0, 1) := by decide +kernel
set_option maxRecDepth 100000 in
theorem dX3_readSign_2 : decode cX3_readSign 2 = .ok (.getfield 19, 3) := by decide +kernel
set_option maxRecDepth 100000 in
theorem dX3_readSign_5 : decode cX3_readSign 5 = .ok (.invokevirtual 71, 3) := by decide +kernel
set_option maxRecDepth 100000 in
theorem dX3_readSign_8 : decode cX3_readSign 8 = .ok (.iload_n 1, 1) := by decide +kernel
set_option maxRecDepth 100000 in
theorem dX3_readSign_9 : decode cX3_readSign 9 = .ok (.if_icmp .eq 5, 3) := by decide +kernel
set_option maxRecDepth 100000 in
theorem dX3_readSign_12 : decode cX3_readSign 12 = .ok (.iconst 0, 1) := by decide +kernel
set_option maxRecDepth 100000 in
theorem dX3_readSign_13 : decode cX3_readSign 13 = .ok (.ireturn, 1) := by decide +kernel
set_option maxRecDepth 100000 in
theorem dX3_readSign_14 : decode cX3_readSign 14 = .ok (.aload_n 0, 1) := by decide +kernel
set_option maxRecDepth 100000 in
theorem dX3_readSign_15 : decode cX3_readSign 15 = .ok (.dup, 1) := by decide +kernel
set_option maxRecDepth 100000 in
theorem dX3_readSign_16 : decode cX3_readSign 16 = .ok (.getfield 19, 3) := by decide +kernel
set_option maxRecDepth 100000 in
theorem dX3_readSign_19 : decode cX3_readSign 19 = .ok (.iconst 1, 1) := by decide +kernel
set_option maxRecDepth 100000 in
theorem dX3_readSign_20 : decode cX3_readSign 20 = .ok (.iadd, 1) := by decide +kernel
set_option maxRecDepth 100000 in
theorem dX3_readSign_21 : decode cX3_readSign 21 = .ok (.putfield 19, 3) := by decide +kernel
set_option maxRecDepth 100000 in
theorem dX3_readSign_24 : decode cX3_readSign 24 = .ok (.iconst 1, 1) := by decide +kernel
set_option maxRecDepth 100000 in
theorem dX3_readSign_25 : decode cX3_readSign 25 = .ok (.ireturn, 1) := by decide +kernel
set_option maxRecDepth 100000 in
theorem dX3_readNumber_0 : decode cX3_readNumber 0 = .ok (.aload_n 0, 1) := by decide +kernel
set_option maxRecDepth 100000 in
theorem dX3_readNumber_1 : decode cX3_readNumber 1 = .ok (.invokevirtual 75, 3) := by decide +kernel
set_option maxRecDepth 100000 in
theorem dX3_readNumber_4 : decode cX3_readNumber 4 = .ok (.istore_n 3, 1) := by decide +kernel
set_option maxRecDepth 100000 in
theorem dX3_readNumber_5 : decode cX3_readNumber 5 = .ok (.iload_n 3, 1) := by decide +kernel
set_option maxRecDepth 100000 in
theorem dX3_readNumber_6 : decode cX3_readNumber 6 = .ok (.iconst (-1), 1) := by decide +kernel
set_option maxRecDepth 100000 in
theorem dX3_readNumber_7 : decode cX3_readNumber 7 = .ok (.if_icmp .eq 12, 3) := by decide +kernel
set_option maxRecDepth 100000 in
theorem dX3_readNumber_10 : decode cX3_readNumber 10 = .ok (.iload_n 3, 1) := by decide +kernel
set_option maxRecDepth 100000 in
theorem dX3_readNumber_11 : decode cX3_readNumber 11 = .ok (.iload_n 1, 1) := by decide +kernel
set_option maxRecDepth 100000 in
theorem dX3_readNumber_12 : decode cX3_readNumber 12 = .ok (.iload_n 2, 1) := by decide +kernel
set_option maxRecDepth 100000 in
theorem dX3_readNumber_13 : decode cX3_readNumber 13 = .ok (.invokestatic 79, 3) := by decide +kernel
set_option maxRecDepth 100000 in
theorem dX3_readNumber_16 : decode cX3_readNumber 16 = .ok (.ifCond .ne 5, 3) := by decide +kernel
set_option maxRecDepth 100000 in
theorem dX3_readNumber_19 : decode cX3_readNumber 19 = .ok (.iconst (-1), 1) := by decide +kernel
set_option maxRecDepth 100000 in
theorem dX3_readNumber_20 : decode cX3_readNumber 20 = .ok (.ireturn, 1) := by decide +kernel
set_option maxRecDepth 100000 in
theorem dX3_readNumber_21 : decode cX3_readNumber 21 = .ok (.aload_n 0, 1) := by decide +kernel
set_option maxRecDepth 100000 in
theorem dX3_readNumber_22 : decode cX3_readNumber 22 = .ok (.dup, 1) := by decide +kernel
set_option maxRecDepth 100000 in
theorem dX3_readNumber_23 : decode cX3_readNumber 23 = .ok (.getfield 19, 3) := by decide +kernel
set_option maxRecDepth 100000 in
theorem dX3_readNumber_26 : decode cX3_readNumber 26 = .ok (.iconst 1, 1) := by decide +kernel
set_option maxRecDepth 100000 in
theorem dX3_readNumber_27 : decode cX3_readNumber 27 = .ok (.iadd, 1) := by decide +kernel
set_option maxRecDepth 100000 in
theorem dX3_readNumber_28 : decode cX3_readNumber 28 = .ok (.putfield 19, 3) := by decide +kernel
set_option maxRecDepth 100000 in
theorem dX3_readNumber_31 : decode cX3_readNumber 31 = .ok (.aload_n 0, 1) := by decide +kernel
set_option maxRecDepth 100000 in
theorem dX3_readNumber_32 : decode cX3_readNumber 32 = .ok (.invokevirtual 75, 3) := by decide +kernel
set_option maxRecDepth 100000 in
theorem dX3_readNumber_35 : decode cX3_readNumber 35 = .ok (.istore 4, 2) := by decide +kernel
set_option maxRecDepth 100000 in
theorem dX3_readNumber_37 : decode cX3_readNumber 37 = .ok (.bipush 10, 2) := by decide +kernel
set_option maxRecDepth 100000 in
theorem dX3_readNumber_39 : decode cX3_readNumber 39 = .ok (.iload_n 3, 1) := by decide +kernel
set_option maxRecDepth 100000 in
theorem dX3_readNumber_40 : decode cX3_readNumber 40 = .ok (.imul, 1) := by decide +kernel
set_option maxRecDepth 100000 in
theorem dX3_readNumber_41 : decode cX3_readNumber 41 = .ok (.iload 4, 2) := by decide +kernel
set_option maxRecDepth 100000 in
theorem dX3_readNumber_43 : decode cX3_readNumber 43 = .ok (.iadd, 1) := by decide +kernel
set_option maxRecDepth 100000 in
theorem dX3_readNumber_44 : decode cX3_readNumber 44 = .ok (.istore 5, 2) := by decide +kernel
set_option maxRecDepth 100000 in
theorem dX3_readNumber_46 : decode cX3_readNumber 46 = .ok (.iload_n 3, 1) := by decide +kernel
set_option maxRecDepth 100000 in
theorem dX3_readNumber_47 : decode cX3_readNumber 47 = .ok (.ifCond .le 32, 3) := by decide +kernel
set_option maxRecDepth 100000 in
theorem dX3_readNumber_50 : decode cX3_readNumber 50 = .ok (.iload 4, 2) := by decide +kernel
set_option maxRecDepth 100000 in
theorem dX3_readNumber_52 : decode cX3_readNumber 52 = .ok (.iconst (-1), 1) := by decide +kernel
set_option maxRecDepth 100000 in
theorem dX3_readNumber_53 : decode cX3_readNumber 53 = .ok (.if_icmp .eq 26, 3) := by decide +kernel
set_option maxRecDepth 100000 in
theorem dX3_readNumber_56 : decode cX3_readNumber 56 = .ok (.iload 5, 2) := by decide +kernel
set_option maxRecDepth 100000 in
theorem dX3_readNumber_58 : decode cX3_readNumber 58 = .ok (.iload_n 1, 1) := by decide +kernel
set_option maxRecDepth 100000 in
theorem dX3_readNumber_59 : decode cX3_readNumber 59 = .ok (.iload_n 2, 1) := by decide +kernel
set_option maxRecDepth 100000 in
theorem dX3_readNumber_60 : decode cX3_readNumber 60 = .ok (.invokestatic 83, 3) := by decide +kernel
set_option maxRecDepth 100000 in
theorem dX3_readNumber_63 : decode cX3_readNumber 63 = .ok (.ifCond .eq 16, 3) := by decide +kernel
set_option maxRecDepth 100000 in
theorem dX3_readNumber_66 : decode cX3_readNumber 66 = .ok (.aload_n 0, 1) := by decide +kernel
set_option maxRecDepth 100000 in
theorem dX3_readNumber_67 : decode cX3_readNumber 67 = .ok (.dup, 1) := by decide +kernel
set_option maxRecDepth 100000 in
theorem dX3_readNumber_68 : decode cX3_readNumber 68 = .ok (.getfield 19, 3) := by decide +kernel
set_option maxRecDepth 100000 in
theorem dX3_readNumber_71 : decode cX3_readNumber 71 = .ok (.iconst 1, 1) := by decide +kernel
set_option maxRecDepth 100000 in
theorem dX3_readNumber_72 : decode cX3_readNumber 72 = .ok (.iadd, 1) := by decide +kernel
set_option maxRecDepth 100000 in
theorem dX3_readNumber_73 : decode cX3_readNumber 73 = .ok (.putfield 19, 3) := by decide +kernel
set_option maxRecDepth 100000 in
theorem dX3_readNumber_76 : decode cX3_readNumber 76 = .ok (.iload 5, 2) := by decide +kernel
set_option maxRecDepth 100000 in
theorem dX3_readNumber_78 : decode cX3_readNumber 78 = .ok (.ireturn, 1) := by decide +kernel
set_option maxRecDepth 100000 in
theorem dX3_readNumber_79 : decode cX3_readNumber 79 = .ok (.iload_n 3, 1) := by decide +kernel
set_option maxRecDepth 100000 in
theorem dX3_readNumber_80 : decode cX3_readNumber 80 = .ok (.iload_n 1, 1) := by decide +kernel
set_option maxRecDepth 100000 in
theorem dX3_readNumber_81 : decode cX3_readNumber 81 = .ok (.if_icmp .lt 7, 3) := by decide +kernel
set_option maxRecDepth 100000 in
theorem dX3_readNumber_84 : decode cX3_readNumber 84 = .ok (.iload_n 3, 1) := by decide +kernel
set_option maxRecDepth 100000 in
theorem dX3_readNumber_85 : decode cX3_readNumber 85 = .ok (.goto 4, 3) := by decide +kernel
set_option maxRecDepth 100000 in
theorem dX3_readNumber_88 : decode cX3_readNumber 88 = .ok (.iconst (-1), 1) := by decide +kernel
set_option maxRecDepth 100000 in
theorem dX3_readNumber_89 : decode cX3_readNumber 89 = .ok (.ireturn, 1) := by decide +kernel
set_option maxRecDepth 100000 in
theorem dX3_canStart_0 : decode cX3_canStart 0 = .ok (.iload_n 0, 1) := by decide +kernel
set_option maxRecDepth 100000 in
theorem dX3_canStart_1 : decode cX3_canStart 1 = .ok (.iload_n 1, 1) := by decide +kernel
set_option maxRecDepth 100000 in
theorem dX3_canStart_2 : decode cX3_canStart 2 = .ok (.iload_n 2, 1) := by decide +kernel
set_option maxRecDepth 100000 in
theorem dX3_canStart_3 : decode cX3_canStart 3 = .ok (.invokestatic 83, 3) := by decide +kernel
set_option maxRecDepth 100000 in
theorem dX3_canStart_6 : decode cX3_canStart 6 = .ok (.istore_n 3, 1) := by decide +kernel
set_option maxRecDepth 100000 in
theorem dX3_canStart_7 : decode cX3_canStart 7 = .ok (.iload_n 0, 1) := by decide +kernel
set_option maxRecDepth 100000 in
theorem dX3_canStart_8 : decode cX3_canStart 8 = .ok (.ifCond .le 26, 3) := by decide +kernel
set_option maxRecDepth 100000 in
theorem dX3_canStart_11 : decode cX3_canStart 11 = .ok (.bipush 10, 2) := by decide +kernel
set_option maxRecDepth 100000 in
theorem dX3_canStart_13 : decode cX3_canStart 13 = .ok (.iload_n 0, 1) := by decide +kernel
set_option maxRecDepth 100000 in
theorem dX3_canStart_14 : decode cX3_canStart 14 = .ok (.imul, 1) := by decide +kernel
set_option maxRecDepth 100000 in
theorem dX3_canStart_15 : decode cX3_canStart 15 = .ok (.iload_n 2, 1) := by decide +kernel
set_option maxRecDepth 100000 in
theorem dX3_canStart_16 : decode cX3_canStart 16 = .ok (.if_icmp .gt 18, 3) := by decide +kernel
set_option maxRecDepth 100000 in
theorem dX3_canStart_19 : decode cX3_canStart 19 = .ok (.bipush 10, 2) := by decide +kernel
set_option maxRecDepth 100000 in
theorem dX3_canStart_21 : decode cX3_canStart 21 = .ok (.iload_n 0, 1) := by decide +kernel
set_option maxRecDepth 100000 in
theorem dX3_canStart_22 : decode cX3_canStart 22 = .ok (.imul, 1) := by decide +kernel
set_option maxRecDepth 100000 in
theorem dX3_canStart_23 : decode cX3_canStart 23 = .ok (.bipush 9, 2) := by decide +kernel
set_option maxRecDepth 100000 in
theorem dX3_canStart_25 : decode cX3_canStart 25 = .ok (.iadd, 1) := by decide +kernel
set_option maxRecDepth 100000 in
theorem dX3_canStart_26 : decode cX3_canStart 26 = .ok (.iload_n 1, 1) := by decide +kernel
set_option maxRecDepth 100000 in
theorem dX3_canStart_27 : decode cX3_canStart 27 = .ok (.if_icmp .lt 7, 3) := by decide +kernel
set_option maxRecDepth 100000 in
theorem dX3_canStart_30 : decode cX3_canStart 30 = .ok (.iconst 1, 1) := by decide +kernel
set_option maxRecDepth 100000 in
theorem dX3_canStart_31 : decode cX3_canStart 31 = .ok (.goto 4, 3) := by decide +kernel
set_option maxRecDepth 100000 in
theorem dX3_canStart_34 : decode cX3_canStart 34 = .ok (.iconst 0, 1) := by decide +kernel
set_option maxRecDepth 100000 in
theorem dX3_canStart_35 : decode cX3_canStart 35 = .ok (.istore 4, 2) := by decide +kernel
set_option maxRecDepth 100000 in
theorem dX3_canStart_37 : decode cX3_canStart 37 = .ok (.iload_n 3, 1) := by decide +kernel
set_option maxRecDepth 100000 in
theorem dX3_canStart_38 : decode cX3_canStart 38 = .ok (.ifCond .ne 8, 3) := by decide +kernel
set_option maxRecDepth 100000 in
theorem dX3_canStart_41 : decode cX3_canStart 41 = .ok (.iload 4, 2) := by decide +kernel
set_option maxRecDepth 100000 in
theorem dX3_canStart_43 : decode cX3_canStart 43 = .ok (.ifCond .eq 7, 3) := by decide +kernel
set_option maxRecDepth 100000 in
theorem dX3_canStart_46 : decode cX3_canStart 46 = .ok (.iconst 1, 1) := by decide +kernel
set_option maxRecDepth 100000 in
theorem dX3_canStart_47 : decode cX3_canStart 47 = .ok (.goto 4, 3) := by decide +kernel
set_option maxRecDepth 100000 in
theorem dX3_canStart_50 : decode cX3_canStart 50 = .ok (.iconst 0, 1) := by decide +kernel
set_option maxRecDepth 100000 in
theorem dX3_canStart_51 : decode cX3_canStart 51 = .ok (.ireturn, 1) := by decide +kernel
set_option maxRecDepth 100000 in
theorem dX3_figureHere_0 : decode cX3_figureHere 0 = .ok (.aload_n 0, 1) := by decide +kernel
set_option maxRecDepth 100000 in
theorem dX3_figureHere_1 : decode cX3_figureHere 1 = .ok (.aload_n 0, 1) := by decide +kernel
set_option maxRecDepth 100000 in
theorem dX3_figureHere_2 : decode cX3_figureHere 2 = .ok (.getfield 19, 3) := by decide +kernel
set_option maxRecDepth 100000 in
theorem dX3_figureHere_5 : decode cX3_figureHere 5 = .ok (.invokevirtual 71, 3) := by decide +kernel
set_option maxRecDepth 100000 in
theorem dX3_figureHere_8 : decode cX3_figureHere 8 = .ok (.istore_n 1, 1) := by decide +kernel
set_option maxRecDepth 100000 in
theorem dX3_figureHere_9 : decode cX3_figureHere 9 = .ok (.iload_n 1, 1) := by decide +kernel
set_option maxRecDepth 100000 in
theorem dX3_figureHere_10 : decode cX3_figureHere 10 = .ok (.bipush 48, 2) := by decide +kernel
set_option maxRecDepth 100000 in
theorem dX3_figureHere_12 : decode cX3_figureHere 12 = .ok (.bipush 57, 2) := by decide +kernel
set_option maxRecDepth 100000 in
theorem dX3_figureHere_14 : decode cX3_figureHere 14 = .ok (.invokestatic 83, 3) := by decide +kernel
set_option maxRecDepth 100000 in
theorem dX3_figureHere_17 : decode cX3_figureHere 17 = .ok (.ifCond .eq 10, 3) := by decide +kernel
set_option maxRecDepth 100000 in
theorem dX3_figureHere_20 : decode cX3_figureHere 20 = .ok (.iload_n 1, 1) := by decide +kernel
set_option maxRecDepth 100000 in
theorem dX3_figureHere_21 : decode cX3_figureHere 21 = .ok (.bipush 48, 2) := by decide +kernel
set_option maxRecDepth 100000 in
theorem dX3_figureHere_23 : decode cX3_figureHere 23 = .ok (.isub, 1) := by decide +kernel
set_option maxRecDepth 100000 in
theorem dX3_figureHere_24 : decode cX3_figureHere 24 = .ok (.goto 4, 3) := by decide +kernel
set_option maxRecDepth 100000 in
theorem dX3_figureHere_27 : decode cX3_figureHere 27 = .ok (.iconst (-1), 1) := by decide +kernel
set_option maxRecDepth 100000 in
theorem dX3_figureHere_28 : decode cX3_figureHere 28 = .ok (.ireturn, 1) := by decide +kernel
set_option maxRecDepth 100000 in
theorem dX4_init_0 : decode cX4_init 0 = .ok (.aload_n 0, 1) := by decide +kernel
set_option maxRecDepth 100000 in
theorem dX4_init_1 : decode cX4_init 1 = .ok (.invokespecial 3, 3) := by decide +kernel
set_option maxRecDepth 100000 in
theorem dX4_init_4 : decode cX4_init 4 = .ok (.aload_n 0, 1) := by decide +kernel
set_option maxRecDepth 100000 in
theorem dX4_init_5 : decode cX4_init 5 = .ok (.bipush 10, 2) := by decide +kernel
set_option maxRecDepth 100000 in
theorem dX4_init_7 : decode cX4_init 7 = .ok (.newarray .int, 2) := by decide +kernel
set_option maxRecDepth 100000 in
theorem dX4_init_9 : decode cX4_init 9 = .ok (.putfield 9, 3) := by decide +kernel
set_option maxRecDepth 100000 in
theorem dX4_init_12 : decode cX4_init 12 = .ok (.aload_n 0, 1) := by decide +kernel
set_option maxRecDepth 100000 in
theorem dX4_init_13 : decode cX4_init 13 = .ok (.bipush 10, 2) := by decide +kernel
set_option maxRecDepth 100000 in
theorem dX4_init_15 : decode cX4_init 15 = .ok (.newarray .boolean, 2) := by decide +kernel
set_option maxRecDepth 100000 in
theorem dX4_init_17 : decode cX4_init 17 = .ok (.putfield 15, 3) := by decide +kernel
set_option maxRecDepth 100000 in
theorem dX4_init_20 : decode cX4_init 20 = .ok (.aload_n 0, 1) := by decide +kernel
set_option maxRecDepth 100000 in
theorem dX4_init_21 : decode cX4_init 21 = .ok (.iconst 4, 1) := by decide +kernel
set_option maxRecDepth 100000 in
theorem dX4_init_22 : decode cX4_init 22 = .ok (.newarray .int, 2) := by decide +kernel
set_option maxRecDepth 100000 in
theorem dX4_init_24 : decode cX4_init 24 = .ok (.putfield 19, 3) := by decide +kernel
set_option maxRecDepth 100000 in
theorem dX4_init_27 : decode cX4_init 27 = .ok (.aload_n 0, 1) := by decide +kernel
set_option maxRecDepth 100000 in
theorem dX4_init_28 : decode cX4_init 28 = .ok (.bipush 120, 2) := by decide +kernel
set_option maxRecDepth 100000 in
theorem dX4_init_30 : decode cX4_init 30 = .ok (.anewarray 22, 3) := by decide +kernel
set_option maxRecDepth 100000 in
theorem dX4_init_33 : decode cX4_init 33 = .ok (.putfield 24, 3) := by decide +kernel
set_option maxRecDepth 100000 in
theorem dX4_init_36 : decode cX4_init 36 = .ok (.aload_n 0, 1) := by decide +kernel
set_option maxRecDepth 100000 in
theorem dX4_init_37 : decode cX4_init 37 = .ok (.bipush 120, 2) := by decide +kernel
set_option maxRecDepth 100000 in
theorem dX4_init_39 : decode cX4_init 39 = .ok (.newarray .int, 2) := by decide +kernel
set_option maxRecDepth 100000 in
theorem dX4_init_41 : decode cX4_init 41 = .ok (.putfield 28, 3) := by decide +kernel
set_option maxRecDepth 100000 in
theorem dX4_init_44 : decode cX4_init 44 = .ok (.aload_n 0, 1) := by decide +kernel
set_option maxRecDepth 100000 in
theorem dX4_init_45 : decode cX4_init 45 = .ok (.bipush 20, 2) := by decide +kernel
set_option maxRecDepth 100000 in
theorem dX4_init_47 : decode cX4_init 47 = .ok (.newarray .int, 2) := by decide +kernel
set_option maxRecDepth 100000 in
theorem dX4_init_49 : decode cX4_init 49 = .ok (.putfield 31, 3) := by decide +kernel
set_option maxRecDepth 100000 in
theorem dX4_init_52 : decode cX4_init 52 = .ok (.return_, 1) := by decide +kernel
set_option maxRecDepth 100000 in
theorem dX4_start_0 : decode cX4_start 0 = .ok (.iconst 0, 1) := by decide +kernel
set_option maxRecDepth 100000 in
theorem dX4_start_1 : decode cX4_start 1 = .ok (.istore_n 1, 1) := by decide +kernel
set_option maxRecDepth 100000 in
theorem dX4_start_2 : decode cX4_start 2 = .ok (.iload_n 1, 1) := by decide +kernel
set_option maxRecDepth 100000 in
theorem dX4_start_3 : decode cX4_start 3 = .ok (.bipush 10, 2) := by decide +kernel
set_option maxRecDepth 100000 in
theorem dX4_start_5 : decode cX4_start 5 = .ok (.if_icmp .ge 23, 3) := by decide +kernel
set_option maxRecDepth 100000 in
theorem dX4_start_8 : decode cX4_start 8 = .ok (.aload_n 0, 1) := by decide +kernel
set_option maxRecDepth 100000 in
theorem dX4_start_9 : decode cX4_start 9 = .ok (.getfield 9, 3) := by decide +kernel
set_option maxRecDepth 100000 in
theorem dX4_start_12 : decode cX4_start 12 = .ok (.iload_n 1, 1) := by decide +kernel
set_option maxRecDepth 100000 in
theorem dX4_start_13 : decode cX4_start 13 = .ok (.iconst 0, 1) := by decide +kernel
set_option maxRecDepth 100000 in
theorem dX4_start_14 : decode cX4_start 14 = .ok (.iastore, 1) := by decide +kernel
set_option maxRecDepth 100000 in
theorem dX4_start_15 : decode cX4_start 15 = .ok (.aload_n 0, 1) := by decide +kernel
set_option maxRecDepth 100000 in
theorem dX4_start_16 : decode cX4_start 16 = .ok (.getfield 15, 3) := by decide +kernel
set_option maxRecDepth 100000 in
theorem dX4_start_19 : decode cX4_start 19 = .ok (.iload_n 1, 1) := by decide +kernel
set_option maxRecDepth 100000 in
theorem dX4_start_20 : decode cX4_start 20 = .ok (.iconst 0, 1) := by decide +kernel
set_option maxRecDepth 100000 in
theorem dX4_start_21 : decode cX4_start 21 = .ok (.bastore, 1) := by decide +kernel
set_option maxRecDepth 100000 in
theorem dX4_start_22 : decode cX4_start 22 = .ok (.iinc 1 1, 3) := by decide +kernel
set_option maxRecDepth 100000 in
theorem dX4_start_25 : decode cX4_start 25 = .ok (.goto (-23), 3) := by decide +kernel
set_option maxRecDepth 100000 in
theorem dX4_start_28 : decode cX4_start 28 = .ok (.aload_n 0, 1) := by decide +kernel
set_option maxRecDepth 100000 in
theorem dX4_start_29 : decode cX4_start 29 = .ok (.getfield 19, 3) := by decide +kernel
set_option maxRecDepth 100000 in
theorem dX4_start_32 : decode cX4_start 32 = .ok (.iconst 0, 1) := by decide +kernel
set_option maxRecDepth 100000 in
theorem dX4_start_33 : decode cX4_start 33 = .ok (.invokestatic 34, 3) := by decide +kernel
set_option maxRecDepth 100000 in
theorem dX4_start_36 : decode cX4_start 36 = .ok (.aload_n 0, 1) := by decide +kernel
set_option maxRecDepth 100000 in
theorem dX4_start_37 : decode cX4_start 37 = .ok (.getfield 31, 3) := by decide +kernel
set_option maxRecDepth 100000 in
theorem dX4_start_40 : decode cX4_start 40 = .ok (.iconst (-1), 1) := by decide +kernel
set_option maxRecDepth 100000 in
theorem dX4_start_41 : decode cX4_start 41 = .ok (.invokestatic 34, 3) := by decide +kernel
set_option maxRecDepth 100000 in
theorem dX4_start_44 : decode cX4_start 44 = .ok (.aload_n 0, 1) := by decide +kernel
set_option maxRecDepth 100000 in
theorem dX4_start_45 : decode cX4_start 45 = .ok (.iconst 0, 1) := by decide +kernel
set_option maxRecDepth 100000 in
theorem dX4_start_46 : decode cX4_start 46 = .ok (.putfield 40, 3) := by decide +kernel
set_option maxRecDepth 100000 in
theorem dX4_start_49 : decode cX4_start 49 = .ok (.aload_n 0, 1) := by decide +kernel
set_option maxRecDepth 100000 in
theorem dX4_start_50 : decode cX4_start 50 = .ok (.iconst 0, 1) := by decide +kernel
set_option maxRecDepth 100000 in
theorem dX4_start_51 : decode cX4_start 51 = .ok (.putfield 44, 3) := by decide +kernel
set_option maxRecDepth 100000 in
theorem dX4_start_54 : decode cX4_start 54 = .ok (.aload_n 0, 1) := by decide +kernel
set_option maxRecDepth 100000 in
theorem dX4_start_55 : decode cX4_start 55 = .ok (.iconst 0, 1) := by decide +kernel
set_option maxRecDepth 100000 in
theorem dX4_start_56 : decode cX4_start 56 = .ok (.putfield 47, 3) := by decide +kernel
set_option maxRecDepth 100000 in
theorem dX4_start_59 : decode cX4_start 59 = .ok (.aload_n 0, 1) := by decide +kernel
set_option maxRecDepth 100000 in
theorem dX4_start_60 : decode cX4_start 60 = .ok (.iconst 0, 1) := by decide +kernel
set_option maxRecDepth 100000 in
theorem dX4_start_61 : decode cX4_start 61 = .ok (.putfield 50, 3) := by decide +kernel
set_option maxRecDepth 100000 in
theorem dX4_start_64 : decode cX4_start 64 = .ok (.aload_n 0, 1) := by decide +kernel
set_option maxRecDepth 100000 in
theorem dX4_start_65 : decode cX4_start 65 = .ok (.iconst (-1), 1) := by decide +kernel
set_option maxRecDepth 100000 in
theorem dX4_start_66 : decode cX4_start 66 = .ok (.putfield 53, 3) := by decide +kernel
set_option maxRecDepth 100000 in
theorem dX4_start_69 : decode cX4_start 69 = .ok (.aload_n 0, 1) := by decide +kernel
set_option maxRecDepth 100000 in
theorem dX4_start_70 : decode cX4_start 70 = .ok (.iconst (-1), 1) := by decide +kernel
set_option maxRecDepth 100000 in
theorem dX4_start_71 : decode cX4_start 71 = .ok (.putfield 56, 3) := by decide +kernel
set_option maxRecDepth 100000 in
theorem dX4_start_74 : decode cX4_start 74 = .ok (.return_, 1) := by decide +kernel
set_option maxRecDepth 100000 in
theorem dX4_goThrough_0 : decode cX4_goThrough 0 = .ok (.aload_n 0, 1) := by decide +kernel
set_option maxRecDepth 100000 in
theorem dX4_goThrough_1 : decode cX4_goThrough 1 = .ok (.getfield 40, 3) := by decide +kernel
set_option maxRecDepth 100000 in
theorem dX4_goThrough_4 : decode cX4_goThrough 4 = .ok (.istore 4, 2) := by decide +kernel
set_option maxRecDepth 100000 in
theorem dX4_goThrough_6 : decode cX4_goThrough 6 = .ok (.iconst 0, 1) := by decide +kernel
set_option maxRecDepth 100000 in
theorem dX4_goThrough_7 : decode cX4_goThrough 7 = .ok (.istore 5, 2) := by decide +kernel
set_option maxRecDepth 100000 in
theorem dX4_goThrough_9 : decode cX4_goThrough 9 = .ok (.iload 5, 2) := by decide +kernel
set_option maxRecDepth 100000 in
theorem dX4_goThrough_11 : decode cX4_goThrough 11 = .ok (.iload 4, 2) := by decide +kernel
set_option maxRecDepth 100000 in
theorem dX4_goThrough_13 : decode cX4_goThrough 13 = .ok (.if_icmp .ge 65, 3) := by decide +kernel
set_option maxRecDepth 100000 in
theorem dX4_goThrough_16 : decode cX4_goThrough 16 = .ok (.iload 5, 2) := by decide +kernel
set_option maxRecDepth 100000 in
theorem dX4_goThrough_18 : decode cX4_goThrough 18 = .ok (.aload_n 0, 1) := by decide +kernel
set_option maxRecDepth 100000 in
theorem dX4_goThrough_19 : decode cX4_goThrough 19 = .ok (.getfield 24, 3) := by decide +kernel
set_option maxRecDepth 100000 in
theorem dX4_goThrough_22 : decode cX4_goThrough 22 = .ok (.arraylength, 1) := by decide +kernel
set_option maxRecDepth 100000 in
theorem dX4_goThrough_23 : decode cX4_goThrough 23 = .ok (.if_icmp .ge 55, 3) := by decide +kernel
set_option maxRecDepth 100000 in
theorem dX4_goThrough_26 : decode cX4_goThrough 26 = .ok (.iload 5, 2) := by decide +kernel
set_option maxRecDepth 100000 in
theorem dX4_goThrough_28 : decode cX4_goThrough 28 = .ok (.aload_n 0, 1) := by decide +kernel
set_option maxRecDepth 100000 in
theorem dX4_goThrough_29 : decode cX4_goThrough 29 = .ok (.getfield 28, 3) := by decide +kernel
set_option maxRecDepth 100000 in
theorem dX4_goThrough_32 : decode cX4_goThrough 32 = .ok (.arraylength, 1) := by decide +kernel
set_option maxRecDepth 100000 in
theorem dX4_goThrough_33 : decode cX4_goThrough 33 = .ok (.if_icmp .ge 45, 3) := by decide +kernel
set_option maxRecDepth 100000 in
theorem dX4_goThrough_36 : decode cX4_goThrough 36 = .ok (.aload_n 0, 1) := by decide +kernel
set_option maxRecDepth 100000 in
theorem dX4_goThrough_37 : decode cX4_goThrough 37 = .ok (.getfield 28, 3) := by decide +kernel
set_option maxRecDepth 100000 in
theorem dX4_goThrough_40 : decode cX4_goThrough 40 = .ok (.iload 5, 2) := by decide +kernel
set_option maxRecDepth 100000 in
theorem dX4_goThrough_42 : decode cX4_goThrough 42 = .ok (.iaload, 1) := by decide +kernel
set_option maxRecDepth 100000 in
theorem dX4_goThrough_43 : decode cX4_goThrough 43 = .ok (.iload_n 1, 1) := by decide +kernel
set_option maxRecDepth 100000 in
theorem dX4_goThrough_44 : decode cX4_goThrough 44 = .ok (.if_icmp .ne 28, 3) := by decide +kernel
set_option maxRecDepth 100000 in
theorem dX4_goThrough_47 : decode cX4_goThrough 47 = .ok (.aload_n 0, 1) := by decide +kernel
set_option maxRecDepth 100000 in
theorem dX4_goThrough_48 : decode cX4_goThrough 48 = .ok (.getfield 24, 3) := by decide +kernel
set_option maxRecDepth 100000 in
theorem dX4_goThrough_51 : decode cX4_goThrough 51 = .ok (.iload 5, 2) := by decide +kernel
set_option maxRecDepth 100000 in
theorem dX4_goThrough_53 : decode cX4_goThrough 53 = .ok (.aaload, 1) := by decide +kernel
set_option maxRecDepth 100000 in
theorem dX4_goThrough_54 : decode cX4_goThrough 54 = .ok (.ifnull 18, 3) := by decide +kernel
set_option maxRecDepth 100000 in
theorem dX4_goThrough_57 : decode cX4_goThrough 57 = .ok (.aload_n 0, 1) := by decide +kernel
set_option maxRecDepth 100000 in
theorem dX4_goThrough_58 : decode cX4_goThrough 58 = .ok (.aload_n 0, 1) := by decide +kernel
set_option maxRecDepth 100000 in
theorem dX4_goThrough_59 : decode cX4_goThrough 59 = .ok (.getfield 24, 3) := by decide +kernel
set_option maxRecDepth 100000 in
theorem dX4_goThrough_62 : decode cX4_goThrough 62 = .ok (.iload 5, 2) := by decide +kernel
set_option maxRecDepth 100000 in
theorem dX4_goThrough_64 : decode cX4_goThrough 64 = .ok (.aaload, 1) := by decide +kernel
set_option maxRecDepth 100000 in
theorem dX4_goThrough_65 : decode cX4_goThrough 65 = .ok (.getfield 59, 3) := by decide +kernel
set_option maxRecDepth 100000 in
theorem dX4_goThrough_68 : decode cX4_goThrough 68 = .ok (.iload_n 1, 1) := by decide +kernel
set_option maxRecDepth 100000 in
theorem dX4_goThrough_69 : decode cX4_goThrough 69 = .ok (.invokevirtual 63, 3) := by decide +kernel
set_option maxRecDepth 100000 in
theorem dX4_goThrough_72 : decode cX4_goThrough 72 = .ok (.iinc 5 1, 3) := by decide +kernel
set_option maxRecDepth 100000 in
theorem dX4_goThrough_75 : decode cX4_goThrough 75 = .ok (.goto (-66), 3) := by decide +kernel
set_option maxRecDepth 100000 in
theorem dX4_goThrough_78 : decode cX4_goThrough 78 = .ok (.iconst 0, 1) := by decide +kernel
set_option maxRecDepth 100000 in
theorem dX4_goThrough_79 : decode cX4_goThrough 79 = .ok (.istore 5, 2) := by decide +kernel
set_option maxRecDepth 100000 in
theorem dX4_goThrough_81 : decode cX4_goThrough 81 = .ok (.iload 5, 2) := by decide +kernel
set_option maxRecDepth 100000 in
theorem dX4_goThrough_83 : decode cX4_goThrough 83 = .ok (.iload_n 2, 1) := by decide +kernel
set_option maxRecDepth 100000 in
theorem dX4_goThrough_84 : decode cX4_goThrough 84 = .ok (.if_icmp .ge 25, 3) := by decide +kernel
set_option maxRecDepth 100000 in
theorem dX4_goThrough_87 : decode cX4_goThrough 87 = .ok (.aload_n 0, 1) := by decide +kernel
set_option maxRecDepth 100000 in
theorem dX4_goThrough_88 : decode cX4_goThrough 88 = .ok (.dup, 1) := by decide +kernel
set_option maxRecDepth 100000 in
theorem dX4_goThrough_89 : decode cX4_goThrough 89 = .ok (.getfield 47, 3) := by decide +kernel
set_option maxRecDepth 100000 in
theorem dX4_goThrough_92 : decode cX4_goThrough 92 = .ok (.iconst 1, 1) := by decide +kernel
set_option maxRecDepth 100000 in
theorem dX4_goThrough_93 : decode cX4_goThrough 93 = .ok (.iadd, 1) := by decide +kernel
set_option maxRecDepth 100000 in
theorem dX4_goThrough_94 : decode cX4_goThrough 94 = .ok (.putfield 47, 3) := by decide +kernel
set_option maxRecDepth 100000 in
theorem dX4_goThrough_97 : decode cX4_goThrough 97 = .ok (.aload_n 0, 1) := by decide +kernel
set_option maxRecDepth 100000 in
theorem dX4_goThrough_98 : decode cX4_goThrough 98 = .ok (.aload_n 3, 1) := by decide +kernel
set_option maxRecDepth 100000 in
theorem dX4_goThrough_99 : decode cX4_goThrough 99 = .ok (.iload_n 1, 1) := by decide +kernel
set_option maxRecDepth 100000 in
theorem dX4_goThrough_100 : decode cX4_goThrough 100 = .ok (.invokevirtual 63, 3) := by decide +kernel
set_option maxRecDepth 100000 in
theorem dX4_goThrough_103 : decode cX4_goThrough 103 = .ok (.iinc 5 1, 3) := by decide +kernel
set_option maxRecDepth 100000 in
theorem dX4_goThrough_106 : decode cX4_goThrough 106 = .ok (.goto (-25), 3) := by decide +kernel
set_option maxRecDepth 100000 in
theorem dX4_goThrough_109 : decode cX4_goThrough 109 = .ok (.return_, 1) := by decide +kernel
set_option maxRecDepth 100000 in
theorem dX4_strike_0 : decode cX4_strike 0 = .ok (.aload_n 1, 1) := by decide +kernel
set_option maxRecDepth 100000 in
theorem dX4_strike_1 : decode cX4_strike 1 = .ok (.astore_n 3, 1) := by decide +kernel
set_option maxRecDepth 100000 in
theorem dX4_strike_2 : decode cX4_strike 2 = .ok (.aload_n 3, 1) := by decide +kernel
set_option maxRecDepth 100000 in
theorem dX4_strike_3 : decode cX4_strike 3 = .ok (.ifnull 20, 3) := by decide +kernel
set_option maxRecDepth 100000 in
theorem dX4_strike_6 : decode cX4_strike 6 = .ok (.aload_n 0, 1) := by decide +kernel
set_option maxRecDepth 100000 in
theorem dX4_strike_7 : decode cX4_strike 7 = .ok (.aload_n 3, 1) := by decide +kernel
set_option maxRecDepth 100000 in
theorem dX4_strike_8 : decode cX4_strike 8 = .ok (.iload_n 2, 1) := by decide +kernel
set_option maxRecDepth 100000 in
theorem dX4_strike_9 : decode cX4_strike 9 = .ok (.invokevirtual 67, 3) := by decide +kernel
set_option maxRecDepth 100000 in
theorem dX4_strike_12 : decode cX4_strike 12 = .ok (.ifCond .eq 11, 3) := by decide +kernel
set_option maxRecDepth 100000 in
theorem dX4_strike_15 : decode cX4_strike 15 = .ok (.aload_n 3, 1) := by decide +kernel
set_option maxRecDepth 100000 in
theorem dX4_strike_16 : decode cX4_strike 16 = .ok (.getfield 59, 3) := by decide +kernel
set_option maxRecDepth 100000 in
theorem dX4_strike_19 : decode cX4_strike 19 = .ok (.astore_n 3, 1) := by decide +kernel
set_option maxRecDepth 100000 in
theorem dX4_strike_20 : decode cX4_strike 20 = .ok (.goto (-18), 3) := by decide +kernel
set_option maxRecDepth 100000 in
theorem dX4_strike_23 : decode cX4_strike 23 = .ok (.return_, 1) := by decide +kernel
set_option maxRecDepth 100000 in
theorem dX4_strikesOn_0 : decode cX4_strikesOn 0 = .ok (.aload_n 1, 1) := by decide +kernel
set_option maxRecDepth 100000 in
theorem dX4_strikesOn_1 : decode cX4_strikesOn 1 = .ok (.getfield 71, 3) := by decide +kernel
set_option maxRecDepth 100000 in
theorem dX4_strikesOn_4 : decode cX4_strikesOn 4 = .ok (.tableswitch 73 1 4 #[32, 52, 59, 67], 32) := by decide +kernel
set_option maxRecDepth 100000 in
theorem dX4_strikesOn_36 : decode cX4_strikesOn 36 = .ok (.aload_n 0, 1) := by decide +kernel
set_option maxRecDepth 100000 in
theorem dX4_strikesOn_37 : decode cX4_strikesOn 37 = .ok (.dup, 1) := by decide +kernel
set_option maxRecDepth 100000 in
theorem dX4_strikesOn_38 : decode cX4_strikesOn 38 = .ok (.getfield 50, 3) := by decide +kernel
set_option maxRecDepth 100000 in
theorem dX4_strikesOn_41 : decode cX4_strikesOn 41 = .ok (.aload_n 0, 1) := by decide +kernel
set_option maxRecDepth 100000 in
theorem dX4_strikesOn_42 : decode cX4_strikesOn 42 = .ok (.getfield 47, 3) := by decide +kernel
set_option maxRecDepth 100000 in
theorem dX4_strikesOn_45 : decode cX4_strikesOn 45 = .ok (.aload_n 1, 1) := by decide +kernel
set_option maxRecDepth 100000 in
theorem dX4_strikesOn_46 : decode cX4_strikesOn 46 = .ok (.getfield 74, 3) := by decide +kernel
set_option maxRecDepth 100000 in
theorem dX4_strikesOn_49 : decode cX4_strikesOn 49 = .ok (.iadd, 1) := by decide +kernel
set_option maxRecDepth 100000 in
theorem dX4_strikesOn_50 : decode cX4_strikesOn 50 = .ok (.iadd, 1) := by decide +kernel
set_option maxRecDepth 100000 in
theorem dX4_strikesOn_51 : decode cX4_strikesOn 51 = .ok (.putfield 50, 3) := by decide +kernel
set_option maxRecDepth 100000 in
theorem dX4_strikesOn_54 : decode cX4_strikesOn 54 = .ok (.iconst 1, 1) := by decide +kernel
set_option maxRecDepth 100000 in
theorem dX4_strikesOn_55 : decode cX4_strikesOn 55 = .ok (.ireturn, 1) := by decide +kernel
set_option maxRecDepth 100000 in
theorem dX4_strikesOn_56 : decode cX4_strikesOn 56 = .ok (.aload_n 0, 1) := by decide +kernel
set_option maxRecDepth 100000 in
theorem dX4_strikesOn_57 : decode cX4_strikesOn 57 = .ok (.aload_n 1, 1) := by decide +kernel
set_option maxRecDepth 100000 in
theorem dX4_strikesOn_58 : decode cX4_strikesOn 58 = .ok (.iload_n 2, 1) := by decide +kernel
set_option maxRecDepth 100000 in
theorem dX4_strikesOn_59 : decode cX4_strikesOn 59 = .ok (.invokevirtual 77, 3) := by decide +kernel
set_option maxRecDepth 100000 in
theorem dX4_strikesOn_62 : decode cX4_strikesOn 62 = .ok (.ireturn, 1) := by decide +kernel
set_option maxRecDepth 100000 in
theorem dX4_strikesOn_63 : decode cX4_strikesOn 63 = .ok (.aload_n 0, 1) := by decide +kernel
set_option maxRecDepth 100000 in
theorem dX4_strikesOn_64 : decode cX4_strikesOn 64 = .ok (.aload_n 1, 1) := by decide +kernel
set_option maxRecDepth 100000 in
theorem dX4_strikesOn_65 : decode cX4_strikesOn 65 = .ok (.iload_n 2, 1) := by decide +kernel
set_option maxRecDepth 100000 in
theorem dX4_strikesOn_66 : decode cX4_strikesOn 66 = .ok (.invokevirtual 80, 3) := by decide +kernel
set_option maxRecDepth 100000 in
theorem dX4_strikesOn_69 : decode cX4_strikesOn 69 = .ok (.iconst 0, 1) := by decide +kernel
set_option maxRecDepth 100000 in
theorem dX4_strikesOn_70 : decode cX4_strikesOn 70 = .ok (.ireturn, 1) := by decide +kernel
set_option maxRecDepth 100000 in
theorem dX4_strikesOn_71 : decode cX4_strikesOn 71 = .ok (.aload_n 0, 1) := by decide +kernel
set_option maxRecDepth 100000 in
theorem dX4_strikesOn_72 : decode cX4_strikesOn 72 = .ok (.aload_n 1, 1) := by decide +kernel
set_option maxRecDepth 100000 in
theorem dX4_strikesOn_73 : decode cX4_strikesOn 73 = .ok (.invokevirtual 83, 3) := by decide +kernel
set_option maxRecDepth 100000 in
theorem dX4_strikesOn_76 : decode cX4_strikesOn 76 = .ok (.ireturn, 1) := by decide +kernel
set_option maxRecDepth 100000 in
theorem dX4_strikesOn_77 : decode cX4_strikesOn 77 = .ok (.iconst 1, 1) := by decide +kernel
set_option maxRecDepth 100000 in
theorem dX4_strikesOn_78 : decode cX4_strikesOn 78 = .ok (.ireturn, 1) := by decide +kernel
set_option maxRecDepth 100000 in
theorem dX4_comesOut_0 : decode cX4_comesOut 0 = .ok (.aload_n 1, 1) := by decide +kernel
set_option maxRecDepth 100000 in
theorem dX4_comesOut_1 : decode cX4_comesOut 1 = .ok (.getfield 87, 3) := by decide +kernel
set_option maxRecDepth 100000 in
theorem dX4_comesOut_4 : decode cX4_comesOut 4 = .ok (.istore_n 3, 1) := by decide +kernel
set_option maxRecDepth 100000 in
theorem dX4_comesOut_5 : decode cX4_comesOut 5 = .ok (.aload_n 1, 1) := by decide +kernel
set_option maxRecDepth 100000 in
theorem dX4_comesOut_6 : decode cX4_comesOut 6 = .ok (.getfield 74, 3) := by decide +kernel
set_option maxRecDepth 100000 in
theorem dX4_comesOut_9 : decode cX4_comesOut 9 = .ok (.istore 4, 2) := by decide +kernel
set_option maxRecDepth 100000 in
theorem dX4_comesOut_11 : decode cX4_comesOut 11 = .ok (.iload_n 3, 1) := by decide +kernel
set_option maxRecDepth 100000 in
theorem dX4_comesOut_12 : decode cX4_comesOut 12 = .ok (.ifCond .lt 29, 3) := by decide +kernel
set_option maxRecDepth 100000 in
theorem dX4_comesOut_15 : decode cX4_comesOut 15 = .ok (.iload_n 3, 1) := by decide +kernel
set_option maxRecDepth 100000 in
theorem dX4_comesOut_16 : decode cX4_comesOut 16 = .ok (.bipush 10, 2) := by decide +kernel
set_option maxRecDepth 100000 in
theorem dX4_comesOut_18 : decode cX4_comesOut 18 = .ok (.if_icmp .ge 23, 3) := by decide +kernel
set_option maxRecDepth 100000 in
theorem dX4_comesOut_21 : decode cX4_comesOut 21 = .ok (.iload 4, 2) := by decide +kernel
set_option maxRecDepth 100000 in
theorem dX4_comesOut_23 : decode cX4_comesOut 23 = .ok (.ifCond .lt 18, 3) := by decide +kernel
set_option maxRecDepth 100000 in
theorem dX4_comesOut_26 : decode cX4_comesOut 26 = .ok (.iload 4, 2) := by decide +kernel
set_option maxRecDepth 100000 in
theorem dX4_comesOut_28 : decode cX4_comesOut 28 = .ok (.iconst 4, 1) := by decide +kernel
set_option maxRecDepth 100000 in
theorem dX4_comesOut_29 : decode cX4_comesOut 29 = .ok (.if_icmp .ge 12, 3) := by decide +kernel
set_option maxRecDepth 100000 in
theorem dX4_comesOut_32 : decode cX4_comesOut 32 = .ok (.aload_n 0, 1) := by decide +kernel
set_option maxRecDepth 100000 in
theorem dX4_comesOut_33 : decode cX4_comesOut 33 = .ok (.getfield 15, 3) := by decide +kernel
set_option maxRecDepth 100000 in
theorem dX4_comesOut_36 : decode cX4_comesOut 36 = .ok (.iload_n 3, 1) := by decide +kernel
set_option maxRecDepth 100000 in
theorem dX4_comesOut_37 : decode cX4_comesOut 37 = .ok (.baload, 1) := by decide +kernel
set_option maxRecDepth 100000 in
theorem dX4_comesOut_38 : decode cX4_comesOut 38 = .ok (.ifCond .eq 5, 3) := by decide +kernel
set_option maxRecDepth 100000 in
theorem dX4_comesOut_41 : decode cX4_comesOut 41 = .ok (.iconst 0, 1) := by decide +kernel
set_option maxRecDepth 100000 in
theorem dX4_comesOut_42 : decode cX4_comesOut 42 = .ok (.ireturn, 1) := by decide +kernel
set_option maxRecDepth 100000 in
theorem dX4_comesOut_43 : decode cX4_comesOut 43 = .ok (.iload_n 2, 1) := by decide +kernel
set_option maxRecDepth 100000 in
theorem dX4_comesOut_44 : decode cX4_comesOut 44 = .ok (.aload_n 0, 1) := by decide +kernel
set_option maxRecDepth 100000 in
theorem dX4_comesOut_45 : decode cX4_comesOut 45 = .ok (.getfield 19, 3) := by decide +kernel
set_option maxRecDepth 100000 in
theorem dX4_comesOut_48 : decode cX4_comesOut 48 = .ok (.iload 4, 2) := by decide +kernel
set_option maxRecDepth 100000 in
theorem dX4_comesOut_50 : decode cX4_comesOut 50 = .ok (.iaload, 1) := by decide +kernel
set_option maxRecDepth 100000 in
theorem dX4_comesOut_51 : decode cX4_comesOut 51 = .ok (.if_icmp .ge 52, 3) := by decide +kernel
set_option maxRecDepth 100000 in
theorem dX4_comesOut_54 : decode cX4_comesOut 54 = .ok (.aload_n 0, 1) := by decide +kernel
set_option maxRecDepth 100000 in
theorem dX4_comesOut_55 : decode cX4_comesOut 55 = .ok (.getfield 15, 3) := by decide +kernel
set_option maxRecDepth 100000 in
theorem dX4_comesOut_58 : decode cX4_comesOut 58 = .ok (.iload_n 3, 1) := by decide +kernel
set_option maxRecDepth 100000 in
theorem dX4_comesOut_59 : decode cX4_comesOut 59 = .ok (.iconst 1, 1) := by decide +kernel
set_option maxRecDepth 100000 in
theorem dX4_comesOut_60 : decode cX4_comesOut 60 = .ok (.bastore, 1) := by decide +kernel
set_option maxRecDepth 100000 in
theorem dX4_comesOut_61 : decode cX4_comesOut 61 = .ok (.aload_n 0, 1) := by decide +kernel
set_option maxRecDepth 100000 in
theorem dX4_comesOut_62 : decode cX4_comesOut 62 = .ok (.aload_n 0, 1) := by decide +kernel
set_option maxRecDepth 100000 in
theorem dX4_comesOut_63 : decode cX4_comesOut 63 = .ok (.getfield 53, 3) := by decide +kernel
set_option maxRecDepth 100000 in
theorem dX4_comesOut_66 : decode cX4_comesOut 66 = .ok (.iconst (-1), 1) := by decide +kernel
set_option maxRecDepth 100000 in
theorem dX4_comesOut_67 : decode cX4_comesOut 67 = .ok (.if_icmp .ne 7, 3) := by decide +kernel
set_option maxRecDepth 100000 in
theorem dX4_comesOut_70 : decode cX4_comesOut 70 = .ok (.iload_n 2, 1) := by decide +kernel
set_option maxRecDepth 100000 in
theorem dX4_comesOut_71 : decode cX4_comesOut 71 = .ok (.goto 7, 3) := by decide +kernel
set_option maxRecDepth 100000 in
theorem dX4_comesOut_74 : decode cX4_comesOut 74 = .ok (.aload_n 0, 1) := by decide +kernel
set_option maxRecDepth 100000 in
theorem dX4_comesOut_75 : decode cX4_comesOut 75 = .ok (.getfield 56, 3) := by decide +kernel
set_option maxRecDepth 100000 in
theorem dX4_comesOut_78 : decode cX4_comesOut 78 = .ok (.putfield 56, 3) := by decide +kernel
set_option maxRecDepth 100000 in
theorem dX4_comesOut_81 : decode cX4_comesOut 81 = .ok (.aload_n 0, 1) := by decide +kernel
set_option maxRecDepth 100000 in
theorem dX4_comesOut_82 : decode cX4_comesOut 82 = .ok (.aload_n 0, 1) := by decide +kernel
set_option maxRecDepth 100000 in
theorem dX4_comesOut_83 : decode cX4_comesOut 83 = .ok (.getfield 53, 3) := by decide +kernel
set_option maxRecDepth 100000 in
theorem dX4_comesOut_86 : decode cX4_comesOut 86 = .ok (.iconst (-1), 1) := by decide +kernel
set_option maxRecDepth 100000 in
theorem dX4_comesOut_87 : decode cX4_comesOut 87 = .ok (.if_icmp .ne 7, 3) := by decide +kernel
set_option maxRecDepth 100000 in
theorem dX4_comesOut_90 : decode cX4_comesOut 90 = .ok (.iload_n 3, 1) := by decide +kernel
set_option maxRecDepth 100000 in
theorem dX4_comesOut_91 : decode cX4_comesOut 91 = .ok (.goto 7, 3) := by decide +kernel
set_option maxRecDepth 100000 in
theorem dX4_comesOut_94 : decode cX4_comesOut 94 = .ok (.aload_n 0, 1) := by decide +kernel
set_option maxRecDepth 100000 in
theorem dX4_comesOut_95 : decode cX4_comesOut 95 = .ok (.getfield 53, 3) := by decide +kernel
set_option maxRecDepth 100000 in
theorem dX4_comesOut_98 : decode cX4_comesOut 98 = .ok (.putfield 53, 3) := by decide +kernel
set_option maxRecDepth 100000 in
theorem dX4_comesOut_101 : decode cX4_comesOut 101 = .ok (.iconst 0, 1) := by decide +kernel
set_option maxRecDepth 100000 in
theorem dX4_comesOut_102 : decode cX4_comesOut 102 = .ok (.ireturn, 1) := by decide +kernel
set_option maxRecDepth 100000 in
theorem dX4_comesOut_103 : decode cX4_comesOut 103 = .ok (.aload_n 0, 1) := by decide +kernel
set_option maxRecDepth 100000 in
theorem dX4_comesOut_104 : decode cX4_comesOut 104 = .ok (.getfield 19, 3) := by decide +kernel
set_option maxRecDepth 100000 in
theorem dX4_comesOut_107 : decode cX4_comesOut 107 = .ok (.iload 4, 2) := by decide +kernel
set_option maxRecDepth 100000 in
theorem dX4_comesOut_109 : decode cX4_comesOut 109 = .ok (.iload_n 2, 1) := by decide +kernel
set_option maxRecDepth 100000 in
theorem dX4_comesOut_110 : decode cX4_comesOut 110 = .ok (.iconst 3, 1) := by decide +kernel
set_option maxRecDepth 100000 in
theorem dX4_comesOut_111 : decode cX4_comesOut 111 = .ok (.iadd, 1) := by decide +kernel
set_option maxRecDepth 100000 in
theorem dX4_comesOut_112 : decode cX4_comesOut 112 = .ok (.iastore, 1) := by decide +kernel
set_option maxRecDepth 100000 in
theorem dX4_comesOut_113 : decode cX4_comesOut 113 = .ok (.aload_n 0, 1) := by decide +kernel
set_option maxRecDepth 100000 in
theorem dX4_comesOut_114 : decode cX4_comesOut 114 = .ok (.getfield 44, 3) := by decide +kernel
set_option maxRecDepth 100000 in
theorem dX4_comesOut_117 : decode cX4_comesOut 117 = .ok (.bipush 20, 2) := by decide +kernel
set_option maxRecDepth 100000 in
theorem dX4_comesOut_119 : decode cX4_comesOut 119 = .ok (.if_icmp .ge 13, 3) := by decide +kernel
set_option maxRecDepth 100000 in
theorem dX4_comesOut_122 : decode cX4_comesOut 122 = .ok (.aload_n 0, 1) := by decide +kernel
set_option maxRecDepth 100000 in
theorem dX4_comesOut_123 : decode cX4_comesOut 123 = .ok (.getfield 31, 3) := by decide +kernel
set_option maxRecDepth 100000 in
theorem dX4_comesOut_126 : decode cX4_comesOut 126 = .ok (.aload_n 0, 1) := by decide +kernel
set_option maxRecDepth 100000 in
theorem dX4_comesOut_127 : decode cX4_comesOut 127 = .ok (.getfield 44, 3) := by decide +kernel
set_option maxRecDepth 100000 in
theorem dX4_comesOut_130 : decode cX4_comesOut 130 = .ok (.iload_n 3, 1) := by decide +kernel
set_option maxRecDepth 100000 in
theorem dX4_comesOut_131 : decode cX4_comesOut 131 = .ok (.iastore, 1) := by decide +kernel
set_option maxRecDepth 100000 in
theorem dX4_comesOut_132 : decode cX4_comesOut 132 = .ok (.aload_n 0, 1) := by decide +kernel
set_option maxRecDepth 100000 in
theorem dX4_comesOut_133 : decode cX4_comesOut 133 = .ok (.dup, 1) := by decide +kernel
set_option maxRecDepth 100000 in
theorem dX4_comesOut_134 : decode cX4_comesOut 134 = .ok (.getfield 44, 3) := by decide +kernel
set_option maxRecDepth 100000 in
theorem dX4_comesOut_137 : decode cX4_comesOut 137 = .ok (.iconst 1, 1) := by decide +kernel
set_option maxRecDepth 100000 in
theorem dX4_comesOut_138 : decode cX4_comesOut 138 = .ok (.iadd, 1) := by decide +kernel
set_option maxRecDepth 100000 in
theorem dX4_comesOut_139 : decode cX4_comesOut 139 = .ok (.putfield 44, 3) := by decide +kernel
set_option maxRecDepth 100000 in
theorem dX4_comesOut_142 : decode cX4_comesOut 142 = .ok (.iconst 1, 1) := by decide +kernel
set_option maxRecDepth 100000 in
theorem dX4_comesOut_143 : decode cX4_comesOut 143 = .ok (.ireturn, 1) := by decide +kernel
set_option maxRecDepth 100000 in
theorem dX4_turn_0 : decode cX4_turn 0 = .ok (.aload_n 0, 1) := by decide +kernel
set_option maxRecDepth 100000 in
theorem dX4_turn_1 : decode cX4_turn 1 = .ok (.getfield 40, 3) := by decide +kernel
set_option maxRecDepth 100000 in
theorem dX4_turn_4 : decode cX4_turn 4 = .ok (.aload_n 0, 1) := by decide +kernel
set_option maxRecDepth 100000 in
theorem dX4_turn_5 : decode cX4_turn 5 = .ok (.getfield 24, 3) := by decide +kernel
set_option maxRecDepth 100000 in
theorem dX4_turn_8 : decode cX4_turn 8 = .ok (.arraylength, 1) := by decide +kernel
set_option maxRecDepth 100000 in
theorem dX4_turn_9 : decode cX4_turn 9 = .ok (.if_icmp .ge 50, 3) := by decide +kernel
set_option maxRecDepth 100000 in
theorem dX4_turn_12 : decode cX4_turn 12 = .ok (.aload_n 0, 1) := by decide +kernel
set_option maxRecDepth 100000 in
theorem dX4_turn_13 : decode cX4_turn 13 = .ok (.getfield 40, 3) := by decide +kernel
set_option maxRecDepth 100000 in
theorem dX4_turn_16 : decode cX4_turn 16 = .ok (.aload_n 0, 1) := by decide +kernel
set_option maxRecDepth 100000 in
theorem dX4_turn_17 : decode cX4_turn 17 = .ok (.getfield 28, 3) := by decide +kernel
set_option maxRecDepth 100000 in
theorem dX4_turn_20 : decode cX4_turn 20 = .ok (.arraylength, 1) := by decide +kernel
set_option maxRecDepth 100000 in
theorem dX4_turn_21 : decode cX4_turn 21 = .ok (.if_icmp .ge 38, 3) := by decide +kernel
set_option maxRecDepth 100000 in
theorem dX4_turn_24 : decode cX4_turn 24 = .ok (.aload_n 0, 1) := by decide +kernel
set_option maxRecDepth 100000 in
theorem dX4_turn_25 : decode cX4_turn 25 = .ok (.getfield 24, 3) := by decide +kernel
set_option maxRecDepth 100000 in
theorem dX4_turn_28 : decode cX4_turn 28 = .ok (.aload_n 0, 1) := by decide +kernel
set_option maxRecDepth 100000 in
theorem dX4_turn_29 : decode cX4_turn 29 = .ok (.getfield 40, 3) := by decide +kernel
set_option maxRecDepth 100000 in
theorem dX4_turn_32 : decode cX4_turn 32 = .ok (.aload_n 1, 1) := by decide +kernel
set_option maxRecDepth 100000 in
theorem dX4_turn_33 : decode cX4_turn 33 = .ok (.aastore, 1) := by decide +kernel
set_option maxRecDepth 100000 in
theorem dX4_turn_34 : decode cX4_turn 34 = .ok (.aload_n 0, 1) := by decide +kernel
set_option maxRecDepth 100000 in
theorem dX4_turn_35 : decode cX4_turn 35 = .ok (.getfield 28, 3) := by decide +kernel
set_option maxRecDepth 100000 in
theorem dX4_turn_38 : decode cX4_turn 38 = .ok (.aload_n 0, 1) := by decide +kernel
set_option maxRecDepth 100000 in
theorem dX4_turn_39 : decode cX4_turn 39 = .ok (.getfield 40, 3) := by decide +kernel
set_option maxRecDepth 100000 in
theorem dX4_turn_42 : decode cX4_turn 42 = .ok (.iload_n 2, 1) := by decide +kernel
set_option maxRecDepth 100000 in
theorem dX4_turn_43 : decode cX4_turn 43 = .ok (.aload_n 1, 1) := by decide +kernel
set_option maxRecDepth 100000 in
theorem dX4_turn_44 : decode cX4_turn 44 = .ok (.getfield 74, 3) := by decide +kernel
set_option maxRecDepth 100000 in
theorem dX4_turn_47 : decode cX4_turn 47 = .ok (.iadd, 1) := by decide +kernel
set_option maxRecDepth 100000 in
theorem dX4_turn_48 : decode cX4_turn 48 = .ok (.iastore, 1) := by decide +kernel
set_option maxRecDepth 100000 in
theorem dX4_turn_49 : decode cX4_turn 49 = .ok (.aload_n 0, 1) := by decide +kernel
set_option maxRecDepth 100000 in
theorem dX4_turn_50 : decode cX4_turn 50 = .ok (.dup, 1) := by decide +kernel
set_option maxRecDepth 100000 in
theorem dX4_turn_51 : decode cX4_turn 51 = .ok (.getfield 40, 3) := by decide +kernel
set_option maxRecDepth 100000 in
theorem dX4_turn_54 : decode cX4_turn 54 = .ok (.iconst 1, 1) := by decide +kernel
set_option maxRecDepth 100000 in
theorem dX4_turn_55 : decode cX4_turn 55 = .ok (.iadd, 1) := by decide +kernel
set_option maxRecDepth 100000 in
theorem dX4_turn_56 : decode cX4_turn 56 = .ok (.putfield 40, 3) := by decide +kernel
set_option maxRecDepth 100000 in
theorem dX4_turn_59 : decode cX4_turn 59 = .ok (.return_, 1) := by decide +kernel
set_option maxRecDepth 100000 in
theorem dX4_isCountedOut_0 : decode cX4_isCountedOut 0 = .ok (.aload_n 1, 1) := by decide +kernel
set_option maxRecDepth 100000 in
theorem dX4_isCountedOut_1 : decode cX4_isCountedOut 1 = .ok (.getfield 87, 3) := by decide +kernel
set_option maxRecDepth 100000 in
theorem dX4_isCountedOut_4 : decode cX4_isCountedOut 4 = .ok (.istore_n 2, 1) := by decide +kernel
set_option maxRecDepth 100000 in
theorem dX4_isCountedOut_5 : decode cX4_isCountedOut 5 = .ok (.iload_n 2, 1) := by decide +kernel
set_option maxRecDepth 100000 in
theorem dX4_isCountedOut_6 : decode cX4_isCountedOut 6 = .ok (.ifCond .lt 17, 3) := by decide +kernel
set_option maxRecDepth 100000 in
theorem dX4_isCountedOut_9 : decode cX4_isCountedOut 9 = .ok (.iload_n 2, 1) := by decide +kernel
set_option maxRecDepth 100000 in
theorem dX4_isCountedOut_10 : decode cX4_isCountedOut 10 = .ok (.bipush 10, 2) := by decide +kernel
set_option maxRecDepth 100000 in
theorem dX4_isCountedOut_12 : decode cX4_isCountedOut 12 = .ok (.if_icmp .ge 11, 3) := by decide +kernel
set_option maxRecDepth 100000 in
theorem dX4_isCountedOut_15 : decode cX4_isCountedOut 15 = .ok (.aload_n 1, 1) := by decide +kernel
set_option maxRecDepth 100000 in
theorem dX4_isCountedOut_16 : decode cX4_isCountedOut 16 = .ok (.getfield 74, 3) := by decide +kernel
set_option maxRecDepth 100000 in
theorem dX4_isCountedOut_19 : decode cX4_isCountedOut 19 = .ok (.iconst 1, 1) := by decide +kernel
set_option maxRecDepth 100000 in
theorem dX4_isCountedOut_20 : decode cX4_isCountedOut 20 = .ok (.if_icmp .ge 5, 3) := by decide +kernel
set_option maxRecDepth 100000 in
theorem dX4_isCountedOut_23 : decode cX4_isCountedOut 23 = .ok (.iconst 0, 1) := by decide +kernel
set_option maxRecDepth 100000 in
theorem dX4_isCountedOut_24 : decode cX4_isCountedOut 24 = .ok (.ireturn, 1) := by decide +kernel
set_option maxRecDepth 100000 in
theorem dX4_isCountedOut_25 : decode cX4_isCountedOut 25 = .ok (.aload_n 0, 1) := by decide +kernel
set_option maxRecDepth 100000 in
theorem dX4_isCountedOut_26 : decode cX4_isCountedOut 26 = .ok (.getfield 9, 3) := by decide +kernel
set_option maxRecDepth 100000 in
theorem dX4_isCountedOut_29 : decode cX4_isCountedOut 29 = .ok (.iload_n 2, 1) := by decide +kernel
set_option maxRecDepth 100000 in
theorem dX4_isCountedOut_30 : decode cX4_isCountedOut 30 = .ok (.dup2, 1) := by decide +kernel
set_option maxRecDepth 100000 in
theorem dX4_isCountedOut_31 : decode cX4_isCountedOut 31 = .ok (.iaload, 1) := by decide +kernel
set_option maxRecDepth 100000 in
theorem dX4_isCountedOut_32 : decode cX4_isCountedOut 32 = .ok (.iconst 1, 1) := by decide +kernel
set_option maxRecDepth 100000 in
theorem dX4_isCountedOut_33 : decode cX4_isCountedOut 33 = .ok (.iadd, 1) := by decide +kernel
set_option maxRecDepth 100000 in
theorem dX4_isCountedOut_34 : decode cX4_isCountedOut 34 = .ok (.iastore, 1) := by decide +kernel
set_option maxRecDepth 100000 in
theorem dX4_isCountedOut_35 : decode cX4_isCountedOut 35 = .ok (.aload_n 0, 1) := by decide +kernel
set_option maxRecDepth 100000 in
theorem dX4_isCountedOut_36 : decode cX4_isCountedOut 36 = .ok (.getfield 9, 3) := by decide +kernel
set_option maxRecDepth 100000 in
theorem dX4_isCountedOut_39 : decode cX4_isCountedOut 39 = .ok (.iload_n 2, 1) := by decide +kernel
set_option maxRecDepth 100000 in
theorem dX4_isCountedOut_40 : decode cX4_isCountedOut 40 = .ok (.iaload, 1) := by decide +kernel
set_option maxRecDepth 100000 in
theorem dX4_isCountedOut_41 : decode cX4_isCountedOut 41 = .ok (.aload_n 1, 1) := by decide +kernel
set_option maxRecDepth 100000 in
theorem dX4_isCountedOut_42 : decode cX4_isCountedOut 42 = .ok (.getfield 74, 3) := by decide +kernel
set_option maxRecDepth 100000 in
theorem dX4_isCountedOut_45 : decode cX4_isCountedOut 45 = .ok (.irem, 1) := by decide +kernel
set_option maxRecDepth 100000 in
theorem dX4_isCountedOut_46 : decode cX4_isCountedOut 46 = .ok (.ifCond .ne 7, 3) := by decide +kernel
set_option maxRecDepth 100000 in
theorem dX4_isCountedOut_49 : decode cX4_isCountedOut 49 = .ok (.iconst 1, 1) := by decide +kernel
set_option maxRecDepth 100000 in
theorem dX4_isCountedOut_50 : decode cX4_isCountedOut 50 = .ok (.goto 4, 3) := by decide +kernel
set_option maxRecDepth 100000 in
theorem dX4_isCountedOut_53 : decode cX4_isCountedOut 53 = .ok (.iconst 0, 1) := by decide +kernel
set_option maxRecDepth 100000 in
theorem dX4_isCountedOut_54 : decode cX4_isCountedOut 54 = .ok (.ireturn, 1) := by decide +kernel
set_option maxRecDepth 100000 in
theorem dX4_measure_0 : decode cX4_measure 0 = .ok (.iload_n 1, 1) := by decide +kernel
set_option maxRecDepth 100000 in
theorem dX4_measure_1 : decode cX4_measure 1 = .ok (.tableswitch 42 0 2 #[27, 32, 37], 27) := by decide +kernel
set_option maxRecDepth 100000 in
theorem dX4_measure_28 : decode cX4_measure 28 = .ok (.aload_n 0, 1) := by decide +kernel
set_option maxRecDepth 100000 in
theorem dX4_measure_29 : decode cX4_measure 29 = .ok (.getfield 50, 3) := by decide +kernel
set_option maxRecDepth 100000 in
theorem dX4_measure_32 : decode cX4_measure 32 = .ok (.ireturn, 1) := by decide +kernel
set_option maxRecDepth 100000 in
theorem dX4_measure_33 : decode cX4_measure 33 = .ok (.aload_n 0, 1) := by decide +kernel
set_option maxRecDepth 100000 in
theorem dX4_measure_34 : decode cX4_measure 34 = .ok (.getfield 44, 3) := by decide +kernel
set_option maxRecDepth 100000 in
theorem dX4_measure_37 : decode cX4_measure 37 = .ok (.ireturn, 1) := by decide +kernel
set_option maxRecDepth 100000 in
theorem dX4_measure_38 : decode cX4_measure 38 = .ok (.aload_n 0, 1) := by decide +kernel
set_option maxRecDepth 100000 in
theorem dX4_measure_39 : decode cX4_measure 39 = .ok (.getfield 53, 3) := by decide +kernel
set_option maxRecDepth 100000 in
theorem dX4_measure_42 : decode cX4_measure 42 = .ok (.ireturn, 1) := by decide +kernel
set_option maxRecDepth 100000 in
theorem dX4_measure_43 : decode cX4_measure 43 = .ok (.aload_n 0, 1) := by decide +kernel
set_option maxRecDepth 100000 in
theorem dX4_measure_44 : decode cX4_measure 44 = .ok (.getfield 56, 3) := by decide +kernel
set_option maxRecDepth 100000 in
theorem dX4_measure_47 : decode cX4_measure 47 = .ok (.ireturn, 1) := by decide +kernel
set_option maxRecDepth 100000 in
theorem dX4_figureOf_0 : decode cX4_figureOf 0 = .ok (.iload_n 1, 1) := by decide +kernel
set_option maxRecDepth 100000 in
theorem dX4_figureOf_1 : decode cX4_figureOf 1 = .ok (.iconst 0, 1) := by decide +kernel
set_option maxRecDepth 100000 in
theorem dX4_figureOf_2 : decode cX4_figureOf 2 = .ok (.bipush 19, 2) := by decide +kernel
set_option maxRecDepth 100000 in
theorem dX4_figureOf_4 : decode cX4_figureOf 4 = .ok (.invokestatic 90, 3) := by decide +kernel
set_option maxRecDepth 100000 in
theorem dX4_figureOf_7 : decode cX4_figureOf 7 = .ok (.ifCond .eq 12, 3) := by decide +kernel
set_option maxRecDepth 100000 in
theorem dX4_figureOf_10 : decode cX4_figureOf 10 = .ok (.aload_n 0, 1) := by decide +kernel
set_option maxRecDepth 100000 in
theorem dX4_figureOf_11 : decode cX4_figureOf 11 = .ok (.getfield 31, 3) := by decide +kernel
set_option maxRecDepth 100000 in
theorem dX4_figureOf_14 : decode cX4_figureOf 14 = .ok (.iload_n 1, 1) := by decide +kernel
set_option maxRecDepth 100000 in
theorem dX4_figureOf_15 : decode cX4_figureOf 15 = .ok (.iaload, 1) := by decide +kernel
set_option maxRecDepth 100000 in
theorem dX4_figureOf_16 : decode cX4_figureOf 16 = .ok (.goto 4, 3) := by decide +kernel
set_option maxRecDepth 100000 in
theorem dX4_figureOf_19 : decode cX4_figureOf 19 = .ok (.iconst (-1), 1) := by decide +kernel
set_option maxRecDepth 100000 in
theorem dX4_figureOf_20 : decode cX4_figureOf 20 = .ok (.ireturn, 1) := by decide +kernel
set_option maxRecDepth 100000 in
theorem dX5_init_0 : decode cX5_init 0 = .ok (.aload_n 0, 1) := by decide +kernel
set_option maxRecDepth 100000 in
theorem dX5_init_1 : decode cX5_init 1 = .ok (.invokespecial 3, 3) := by decide +kernel
set_option maxRecDepth 100000 in
theorem dX5_init_4 : decode cX5_init 4 = .ok (.aload_n 0, 1) := by decide +kernel
set_option maxRecDepth 100000 in
theorem dX5_init_5 : decode cX5_init 5 = .ok (.iconst 3, 1) := by decide +kernel
set_option maxRecDepth 100000 in
theorem dX5_init_6 : decode cX5_init 6 = .ok (.newarray .int, 2) := by decide +kernel
set_option maxRecDepth 100000 in
theorem dX5_init_8 : decode cX5_init 8 = .ok (.putfield 9, 3) := by decide +kernel
set_option maxRecDepth 100000 in
theorem dX5_init_11 : decode cX5_init 11 = .ok (.aload_n 0, 1) := by decide +kernel
set_option maxRecDepth 100000 in
theorem dX5_init_12 : decode cX5_init 12 = .ok (.bipush 12, 2) := by decide +kernel
set_option maxRecDepth 100000 in
theorem dX5_init_14 : decode cX5_init 14 = .ok (.newarray .int, 2) := by decide +kernel
set_option maxRecDepth 100000 in
theorem dX5_init_16 : decode cX5_init 16 = .ok (.putfield 15, 3) := by decide +kernel
set_option maxRecDepth 100000 in
theorem dX5_init_19 : decode cX5_init 19 = .ok (.aload_n 0, 1) := by decide +kernel
set_option maxRecDepth 100000 in
theorem dX5_init_20 : decode cX5_init 20 = .ok (.aload_n 1, 1) := by decide +kernel
set_option maxRecDepth 100000 in
theorem dX5_init_21 : decode cX5_init 21 = .ok (.putfield 18, 3) := by decide +kernel
set_option maxRecDepth 100000 in
theorem dX5_init_24 : decode cX5_init 24 = .ok (.aload_n 0, 1) := by decide +kernel
set_option maxRecDepth 100000 in
theorem dX5_init_25 : decode cX5_init 25 = .ok (.aload_n 2, 1) := by decide +kernel
set_option maxRecDepth 100000 in
theorem dX5_init_26 : decode cX5_init 26 = .ok (.putfield 22, 3) := by decide +kernel
set_option maxRecDepth 100000 in
theorem dX5_init_29 : decode cX5_init 29 = .ok (.return_, 1) := by decide +kernel
set_option maxRecDepth 100000 in
theorem dX5_start_0 : decode cX5_start 0 = .ok (.aload_n 0, 1) := by decide +kernel
set_option maxRecDepth 100000 in
theorem dX5_start_1 : decode cX5_start 1 = .ok (.aload_n 1, 1) := by decide +kernel
set_option maxRecDepth 100000 in
theorem dX5_start_2 : decode cX5_start 2 = .ok (.putfield 18, 3) := by decide +kernel
set_option maxRecDepth 100000 in
theorem dX5_start_5 : decode cX5_start 5 = .ok (.aload_n 0, 1) := by decide +kernel
set_option maxRecDepth 100000 in
theorem dX5_start_6 : decode cX5_start 6 = .ok (.aload_n 3, 1) := by decide +kernel
set_option maxRecDepth 100000 in
theorem dX5_start_7 : decode cX5_start 7 = .ok (.putfield 22, 3) := by decide +kernel
set_option maxRecDepth 100000 in
theorem dX5_start_10 : decode cX5_start 10 = .ok (.aload_n 0, 1) := by decide +kernel
set_option maxRecDepth 100000 in
theorem dX5_start_11 : decode cX5_start 11 = .ok (.iload_n 2, 1) := by decide +kernel
set_option maxRecDepth 100000 in
theorem dX5_start_12 : decode cX5_start 12 = .ok (.putfield 26, 3) := by decide +kernel
set_option maxRecDepth 100000 in
theorem dX5_start_15 : decode cX5_start 15 = .ok (.aload_n 0, 1) := by decide +kernel
set_option maxRecDepth 100000 in
theorem dX5_start_16 : decode cX5_start 16 = .ok (.iconst 0, 1) := by decide +kernel
set_option maxRecDepth 100000 in
theorem dX5_start_17 : decode cX5_start 17 = .ok (.putfield 30, 3) := by decide +kernel
set_option maxRecDepth 100000 in
theorem dX5_start_20 : decode cX5_start 20 = .ok (.iconst 0, 1) := by decide +kernel
set_option maxRecDepth 100000 in
theorem dX5_start_21 : decode cX5_start 21 = .ok (.istore 4, 2) := by decide +kernel
set_option maxRecDepth 100000 in
theorem dX5_start_23 : decode cX5_start 23 = .ok (.iload 4, 2) := by decide +kernel
set_option maxRecDepth 100000 in
theorem dX5_start_25 : decode cX5_start 25 = .ok (.iconst 3, 1) := by decide +kernel
set_option maxRecDepth 100000 in
theorem dX5_start_26 : decode cX5_start 26 = .ok (.if_icmp .ge 26, 3) := by decide +kernel
set_option maxRecDepth 100000 in
theorem dX5_start_29 : decode cX5_start 29 = .ok (.aload_n 0, 1) := by decide +kernel
set_option maxRecDepth 100000 in
theorem dX5_start_30 : decode cX5_start 30 = .ok (.getfield 9, 3) := by decide +kernel
set_option maxRecDepth 100000 in
theorem dX5_start_33 : decode cX5_start 33 = .ok (.iload 4, 2) := by decide +kernel
set_option maxRecDepth 100000 in
theorem dX5_start_35 : decode cX5_start 35 = .ok (.aload_n 0, 1) := by decide +kernel
set_option maxRecDepth 100000 in
theorem dX5_start_36 : decode cX5_start 36 = .ok (.getfield 18, 3) := by decide +kernel
set_option maxRecDepth 100000 in
theorem dX5_start_39 : decode cX5_start 39 = .ok (.getfield 33, 3) := by decide +kernel
set_option maxRecDepth 100000 in
theorem dX5_start_42 : decode cX5_start 42 = .ok (.iload 4, 2) := by decide +kernel
set_option maxRecDepth 100000 in
theorem dX5_start_44 : decode cX5_start 44 = .ok (.iaload, 1) := by decide +kernel
set_option maxRecDepth 100000 in
theorem dX5_start_45 : decode cX5_start 45 = .ok (.iastore, 1) := by decide +kernel
set_option maxRecDepth 100000 in
theorem dX5_start_46 : decode cX5_start 46 = .ok (.iinc 4 1, 3) := by decide +kernel
set_option maxRecDepth 100000 in
theorem dX5_start_49 : decode cX5_start 49 = .ok (.goto (-26), 3) := by decide +kernel
set_option maxRecDepth 100000 in
theorem dX5_start_52 : decode cX5_start 52 = .ok (.aload_n 0, 1) := by decide +kernel
set_option maxRecDepth 100000 in
theorem dX5_start_53 : decode cX5_start 53 = .ok (.iconst 0, 1) := by decide +kernel
set_option maxRecDepth 100000 in
theorem dX5_start_54 : decode cX5_start 54 = .ok (.putfield 38, 3) := by decide +kernel
set_option maxRecDepth 100000 in
theorem dX5_start_57 : decode cX5_start 57 = .ok (.aload_n 0, 1) := by decide +kernel
set_option maxRecDepth 100000 in
theorem dX5_start_58 : decode cX5_start 58 = .ok (.iconst 0, 1) := by decide +kernel
set_option maxRecDepth 100000 in
theorem dX5_start_59 : decode cX5_start 59 = .ok (.putfield 41, 3) := by decide +kernel
set_option maxRecDepth 100000 in
theorem dX5_start_62 : decode cX5_start 62 = .ok (.aload_n 0, 1) := by decide +kernel
set_option maxRecDepth 100000 in
theorem dX5_start_63 : decode cX5_start 63 = .ok (.iconst 0, 1) := by decide +kernel
set_option maxRecDepth 100000 in
theorem dX5_start_64 : decode cX5_start 64 = .ok (.putfield 44, 3) := by decide +kernel
set_option maxRecDepth 100000 in
theorem dX5_start_67 : decode cX5_start 67 = .ok (.aload_n 0, 1) := by decide +kernel
set_option maxRecDepth 100000 in
theorem dX5_start_68 : decode cX5_start 68 = .ok (.iconst 0, 1) := by decide +kernel
set_option maxRecDepth 100000 in
theorem dX5_start_69 : decode cX5_start 69 = .ok (.putfield 47, 3) := by decide +kernel
set_option maxRecDepth 100000 in
theorem dX5_start_72 : decode cX5_start 72 = .ok (.aload_n 0, 1) := by decide +kernel
set_option maxRecDepth 100000 in
theorem dX5_start_73 : decode cX5_start 73 = .ok (.iconst 0, 1) := by decide +kernel
set_option maxRecDepth 100000 in
theorem dX5_start_74 : decode cX5_start 74 = .ok (.putfield 50, 3) := by decide +kernel
set_option maxRecDepth 100000 in
theorem dX5_start_77 : decode cX5_start 77 = .ok (.aload_n 0, 1) := by decide +kernel
set_option maxRecDepth 100000 in
theorem dX5_start_78 : decode cX5_start 78 = .ok (.iconst 0, 1) := by decide +kernel
set_option maxRecDepth 100000 in
theorem dX5_start_79 : decode cX5_start 79 = .ok (.putfield 53, 3) := by decide +kernel
set_option maxRecDepth 100000 in
theorem dX5_start_82 : decode cX5_start 82 = .ok (.aload_n 0, 1) := by decide +kernel
set_option maxRecDepth 100000 in
theorem dX5_start_83 : decode cX5_start 83 = .ok (.getfield 15, 3) := by decide +kernel
set_option maxRecDepth 100000 in
theorem dX5_start_86 : decode cX5_start 86 = .ok (.iconst (-1), 1) := by decide +kernel
set_option maxRecDepth 100000 in
theorem dX5_start_87 : decode cX5_start 87 = .ok (.invokestatic 56, 3) := by decide +kernel
set_option maxRecDepth 100000 in
theorem dX5_start_90 : decode cX5_start 90 = .ok (.aload_n 0, 1) := by decide +kernel
set_option maxRecDepth 100000 in
theorem dX5_start_91 : decode cX5_start 91 = .ok (.iconst 0, 1) := by decide +kernel
set_option maxRecDepth 100000 in
theorem dX5_start_92 : decode cX5_start 92 = .ok (.putfield 62, 3) := by decide +kernel
set_option maxRecDepth 100000 in
theorem dX5_start_95 : decode cX5_start 95 = .ok (.aload_n 0, 1) := by decide +kernel
set_option maxRecDepth 100000 in
theorem dX5_start_96 : decode cX5_start 96 = .ok (.iconst 0, 1) := by decide +kernel
set_option maxRecDepth 100000 in
theorem dX5_start_97 : decode cX5_start 97 = .ok (.putfield 65, 3) := by decide +kernel
set_option maxRecDepth 100000 in
theorem dX5_start_100 : decode cX5_start 100 = .ok (.return_, 1) := by decide +kernel
set_option maxRecDepth 100000 in
theorem dX5_goOnTo_0 : decode cX5_goOnTo 0 = .ok (.aload_n 0, 1) := by decide +kernel
set_option maxRecDepth 100000 in
theorem dX5_goOnTo_1 : decode cX5_goOnTo 1 = .ok (.getfield 30, 3) := by decide +kernel
set_option maxRecDepth 100000 in
theorem dX5_goOnTo_4 : decode cX5_goOnTo 4 = .ok (.istore_n 2, 1) := by decide +kernel
set_option maxRecDepth 100000 in
theorem dX5_goOnTo_5 : decode cX5_goOnTo 5 = .ok (.iload_n 2, 1) := by decide +kernel
set_option maxRecDepth 100000 in
theorem dX5_goOnTo_6 : decode cX5_goOnTo 6 = .ok (.iload_n 1, 1) := by decide +kernel
set_option maxRecDepth 100000 in
theorem dX5_goOnTo_7 : decode cX5_goOnTo 7 = .ok (.if_icmp .ge 13, 3) := by decide +kernel
set_option maxRecDepth 100000 in
theorem dX5_goOnTo_10 : decode cX5_goOnTo 10 = .ok (.aload_n 0, 1) := by decide +kernel
set_option maxRecDepth 100000 in
theorem dX5_goOnTo_11 : decode cX5_goOnTo 11 = .ok (.invokevirtual 68, 3) := by decide +kernel
set_option maxRecDepth 100000 in
theorem dX5_goOnTo_14 : decode cX5_goOnTo 14 = .ok (.iinc 2 1, 3) := by decide +kernel
set_option maxRecDepth 100000 in
theorem dX5_goOnTo_17 : decode cX5_goOnTo 17 = .ok (.goto (-12), 3) := by decide +kernel
set_option maxRecDepth 100000 in
theorem dX5_goOnTo_20 : decode cX5_goOnTo 20 = .ok (.return_, 1) := by decide +kernel
set_option maxRecDepth 100000 in
theorem dX5_advance_0 : decode cX5_advance 0 = .ok (.aload_n 0, 1) := by decide +kernel
set_option maxRecDepth 100000 in
theorem dX5_advance_1 : decode cX5_advance 1 = .ok (.invokevirtual 71, 3) := by decide +kernel
set_option maxRecDepth 100000 in
theorem dX5_advance_4 : decode cX5_advance 4 = .ok (.aload_n 0, 1) := by decide +kernel
set_option maxRecDepth 100000 in
theorem dX5_advance_5 : decode cX5_advance 5 = .ok (.invokevirtual 74, 3) := by decide +kernel
set_option maxRecDepth 100000 in
theorem dX5_advance_8 : decode cX5_advance 8 = .ok (.aload_n 0, 1) := by decide +kernel
set_option maxRecDepth 100000 in
theorem dX5_advance_9 : decode cX5_advance 9 = .ok (.invokevirtual 77, 3) := by decide +kernel
set_option maxRecDepth 100000 in
theorem dX5_advance_12 : decode cX5_advance 12 = .ok (.aload_n 0, 1) := by decide +kernel
set_option maxRecDepth 100000 in
theorem dX5_advance_13 : decode cX5_advance 13 = .ok (.invokevirtual 80, 3) := by decide +kernel
set_option maxRecDepth 100000 in
theorem dX5_advance_16 : decode cX5_advance 16 = .ok (.aload_n 0, 1) := by decide +kernel
set_option maxRecDepth 100000 in
theorem dX5_advance_17 : decode cX5_advance 17 = .ok (.dup, 1) := by decide +kernel
set_option maxRecDepth 100000 in
theorem dX5_advance_18 : decode cX5_advance 18 = .ok (.getfield 30, 3) := by decide +kernel
set_option maxRecDepth 100000 in
theorem dX5_advance_21 : decode cX5_advance 21 = .ok (.iconst 1, 1) := by decide +kernel
set_option maxRecDepth 100000 in
theorem dX5_advance_22 : decode cX5_advance 22 = .ok (.iadd, 1) := by decide +kernel
set_option maxRecDepth 100000 in
theorem dX5_advance_23 : decode cX5_advance 23 = .ok (.putfield 30, 3) := by decide +kernel
set_option maxRecDepth 100000 in
theorem dX5_advance_26 : decode cX5_advance 26 = .ok (.return_, 1) := by decide +kernel
set_option maxRecDepth 100000 in
theorem dX5_drip_0 : decode cX5_drip 0 = .ok (.aload_n 0, 1) := by decide +kernel
set_option maxRecDepth 100000 in
theorem dX5_drip_1 : decode cX5_drip 1 = .ok (.getfield 22, 3) := by decide +kernel
set_option maxRecDepth 100000 in
theorem dX5_drip_4 : decode cX5_drip 4 = .ok (.aload_n 0, 1) := by decide +kernel
set_option maxRecDepth 100000 in
theorem dX5_drip_5 : decode cX5_drip 5 = .ok (.getfield 26, 3) := by decide +kernel
set_option maxRecDepth 100000 in
theorem dX5_drip_8 : decode cX5_drip 8 = .ok (.aload_n 0, 1) := by decide +kernel
set_option maxRecDepth 100000 in
theorem dX5_drip_9 : decode cX5_drip 9 = .ok (.getfield 30, 3) := by decide +kernel
set_option maxRecDepth 100000 in
theorem dX5_drip_12 : decode cX5_drip 12 = .ok (.invokevirtual 83, 3) := by decide +kernel
set_option maxRecDepth 100000 in
theorem dX5_drip_15 : decode cX5_drip 15 = .ok (.istore_n 1, 1) := by decide +kernel
set_option maxRecDepth 100000 in
theorem dX5_drip_16 : decode cX5_drip 16 = .ok (.aload_n 0, 1) := by decide +kernel
set_option maxRecDepth 100000 in
theorem dX5_drip_17 : decode cX5_drip 17 = .ok (.getfield 18, 3) := by decide +kernel
set_option maxRecDepth 100000 in
theorem dX5_drip_20 : decode cX5_drip 20 = .ok (.getfield 89, 3) := by decide +kernel
set_option maxRecDepth 100000 in
theorem dX5_drip_23 : decode cX5_drip 23 = .ok (.istore_n 2, 1) := by decide +kernel
set_option maxRecDepth 100000 in
theorem dX5_drip_24 : decode cX5_drip 24 = .ok (.iconst 0, 1) := by decide +kernel
set_option maxRecDepth 100000 in
theorem dX5_drip_25 : decode cX5_drip 25 = .ok (.istore_n 3, 1) := by decide +kernel
set_option maxRecDepth 100000 in
theorem dX5_drip_26 : decode cX5_drip 26 = .ok (.iload_n 3, 1) := by decide +kernel
set_option maxRecDepth 100000 in
theorem dX5_drip_27 : decode cX5_drip 27 = .ok (.aload_n 0, 1) := by decide +kernel
set_option maxRecDepth 100000 in
theorem dX5_drip_28 : decode cX5_drip 28 = .ok (.getfield 18, 3) := by decide +kernel
set_option maxRecDepth 100000 in
theorem dX5_drip_31 : decode cX5_drip 31 = .ok (.getfield 92, 3) := by decide +kernel
set_option maxRecDepth 100000 in
theorem dX5_drip_34 : decode cX5_drip 34 = .ok (.if_icmp .ge 136, 3) := by decide +kernel
set_option maxRecDepth 100000 in
theorem dX5_drip_37 : decode cX5_drip 37 = .ok (.iload_n 3, 1) := by decide +kernel
set_option maxRecDepth 100000 in
theorem dX5_drip_38 : decode cX5_drip 38 = .ok (.iconst 3, 1) := by decide +kernel
set_option maxRecDepth 100000 in
theorem dX5_drip_39 : decode cX5_drip 39 = .ok (.if_icmp .ge 131, 3) := by decide +kernel
set_option maxRecDepth 100000 in
theorem dX5_drip_42 : decode cX5_drip 42 = .ok (.aload_n 0, 1) := by decide +kernel
set_option maxRecDepth 100000 in
theorem dX5_drip_43 : decode cX5_drip 43 = .ok (.getfield 9, 3) := by decide +kernel
set_option maxRecDepth 100000 in
theorem dX5_drip_46 : decode cX5_drip 46 = .ok (.iload_n 3, 1) := by decide +kernel
set_option maxRecDepth 100000 in
theorem dX5_drip_47 : decode cX5_drip 47 = .ok (.iaload, 1) := by decide +kernel
set_option maxRecDepth 100000 in
theorem dX5_drip_48 : decode cX5_drip 48 = .ok (.iload_n 2, 1) := by decide +kernel
set_option maxRecDepth 100000 in
theorem dX5_drip_49 : decode cX5_drip 49 = .ok (.iadd, 1) := by decide +kernel
set_option maxRecDepth 100000 in
theorem dX5_drip_50 : decode cX5_drip 50 = .ok (.istore 4, 2) := by decide +kernel
set_option maxRecDepth 100000 in
theorem dX5_drip_52 : decode cX5_drip 52 = .ok (.iload 4, 2) := by decide +kernel
set_option maxRecDepth 100000 in
theorem dX5_drip_54 : decode cX5_drip 54 = .ok (.aload_n 0, 1) := by decide +kernel
set_option maxRecDepth 100000 in
theorem dX5_drip_55 : decode cX5_drip 55 = .ok (.getfield 18, 3) := by decide +kernel
set_option maxRecDepth 100000 in
theorem dX5_drip_58 : decode cX5_drip 58 = .ok (.getfield 33, 3) := by decide +kernel
set_option maxRecDepth 100000 in
theorem dX5_drip_61 : decode cX5_drip 61 = .ok (.iload_n 3, 1) := by decide +kernel
set_option maxRecDepth 100000 in
theorem dX5_drip_62 : decode cX5_drip 62 = .ok (.iaload, 1) := by decide +kernel
set_option maxRecDepth 100000 in
theorem dX5_drip_63 : decode cX5_drip 63 = .ok (.if_icmp .le 35, 3) := by decide +kernel
set_option maxRecDepth 100000 in
theorem dX5_drip_66 : decode cX5_drip 66 = .ok (.aload_n 0, 1) := by decide +kernel
set_option maxRecDepth 100000 in
theorem dX5_drip_67 : decode cX5_drip 67 = .ok (.dup, 1) := by decide +kernel
set_option maxRecDepth 100000 in
theorem dX5_drip_68 : decode cX5_drip 68 = .ok (.getfield 44, 3) := by decide +kernel
set_option maxRecDepth 100000 in
theorem dX5_drip_71 : decode cX5_drip 71 = .ok (.iload 4, 2) := by decide +kernel
set_option maxRecDepth 100000 in
theorem dX5_drip_73 : decode cX5_drip 73 = .ok (.aload_n 0, 1) := by decide +kernel
set_option maxRecDepth 100000 in
theorem dX5_drip_74 : decode cX5_drip 74 = .ok (.getfield 18, 3) := by decide +kernel
set_option maxRecDepth 100000 in
theorem dX5_drip_77 : decode cX5_drip 77 = .ok (.getfield 33, 3) := by decide +kernel
set_option maxRecDepth 100000 in
theorem dX5_drip_80 : decode cX5_drip 80 = .ok (.iload_n 3, 1) := by decide +kernel
set_option maxRecDepth 100000 in
theorem dX5_drip_81 : decode cX5_drip 81 = .ok (.iaload, 1) := by decide +kernel
set_option maxRecDepth 100000 in
theorem dX5_drip_82 : decode cX5_drip 82 = .ok (.isub, 1) := by decide +kernel
set_option maxRecDepth 100000 in
theorem dX5_drip_83 : decode cX5_drip 83 = .ok (.iadd, 1) := by decide +kernel
set_option maxRecDepth 100000 in
theorem dX5_drip_84 : decode cX5_drip 84 = .ok (.putfield 44, 3) := by decide +kernel
set_option maxRecDepth 100000 in
theorem dX5_drip_87 : decode cX5_drip 87 = .ok (.aload_n 0, 1) := by decide +kernel
set_option maxRecDepth 100000 in
theorem dX5_drip_88 : decode cX5_drip 88 = .ok (.getfield 18, 3) := by decide +kernel
set_option maxRecDepth 100000 in
theorem dX5_drip_91 : decode cX5_drip 91 = .ok (.getfield 33, 3) := by decide +kernel
set_option maxRecDepth 100000 in
theorem dX5_drip_94 : decode cX5_drip 94 = .ok (.iload_n 3, 1) := by decide +kernel
set_option maxRecDepth 100000 in
theorem dX5_drip_95 : decode cX5_drip 95 = .ok (.iaload, 1) := by decide +kernel
set_option maxRecDepth 100000 in
theorem dX5_drip_96 : decode cX5_drip 96 = .ok (.istore 4, 2) := by decide +kernel
set_option maxRecDepth 100000 in
theorem dX5_drip_98 : decode cX5_drip 98 = .ok (.iload 4, 2) := by decide +kernel
set_option maxRecDepth 100000 in
theorem dX5_drip_100 : decode cX5_drip 100 = .ok (.aload_n 0, 1) := by decide +kernel
set_option maxRecDepth 100000 in
theorem dX5_drip_101 : decode cX5_drip 101 = .ok (.getfield 18, 3) := by decide +kernel
set_option maxRecDepth 100000 in
theorem dX5_drip_104 : decode cX5_drip 104 = .ok (.getfield 95, 3) := by decide +kernel
set_option maxRecDepth 100000 in
theorem dX5_drip_107 : decode cX5_drip 107 = .ok (.iload_n 3, 1) := by decide +kernel
set_option maxRecDepth 100000 in
theorem dX5_drip_108 : decode cX5_drip 108 = .ok (.iaload, 1) := by decide +kernel
set_option maxRecDepth 100000 in
theorem dX5_drip_109 : decode cX5_drip 109 = .ok (.invokestatic 98, 3) := by decide +kernel
set_option maxRecDepth 100000 in
theorem dX5_drip_112 : decode cX5_drip 112 = .ok (.istore 5, 2) := by decide +kernel
set_option maxRecDepth 100000 in
theorem dX5_drip_114 : decode cX5_drip 114 = .ok (.aload_n 0, 1) := by decide +kernel
set_option maxRecDepth 100000 in
theorem dX5_drip_115 : decode cX5_drip 115 = .ok (.getfield 22, 3) := by decide +kernel
set_option maxRecDepth 100000 in
theorem dX5_drip_118 : decode cX5_drip 118 = .ok (.aload_n 0, 1) := by decide +kernel
set_option maxRecDepth 100000 in
theorem dX5_drip_119 : decode cX5_drip 119 = .ok (.getfield 18, 3) := by decide +kernel
set_option maxRecDepth 100000 in
theorem dX5_drip_122 : decode cX5_drip 122 = .ok (.getfield 101, 3) := by decide +kernel
set_option maxRecDepth 100000 in
theorem dX5_drip_125 : decode cX5_drip 125 = .ok (.iload_n 3, 1) := by decide +kernel
set_option maxRecDepth 100000 in
theorem dX5_drip_126 : decode cX5_drip 126 = .ok (.iaload, 1) := by decide +kernel
set_option maxRecDepth 100000 in
theorem dX5_drip_127 : decode cX5_drip 127 = .ok (.iload_n 3, 1) := by decide +kernel
set_option maxRecDepth 100000 in
theorem dX5_drip_128 : decode cX5_drip 128 = .ok (.aload_n 0, 1) := by decide +kernel
set_option maxRecDepth 100000 in
theorem dX5_drip_129 : decode cX5_drip 129 = .ok (.getfield 30, 3) := by decide +kernel
set_option maxRecDepth 100000 in
theorem dX5_drip_132 : decode cX5_drip 132 = .ok (.invokevirtual 104, 3) := by decide +kernel
set_option maxRecDepth 100000 in
theorem dX5_drip_135 : decode cX5_drip 135 = .ok (.istore 6, 2) := by decide +kernel
set_option maxRecDepth 100000 in
theorem dX5_drip_137 : decode cX5_drip 137 = .ok (.iload 4, 2) := by decide +kernel
set_option maxRecDepth 100000 in
theorem dX5_drip_139 : decode cX5_drip 139 = .ok (.iload 6, 2) := by decide +kernel
set_option maxRecDepth 100000 in
theorem dX5_drip_141 : decode cX5_drip 141 = .ok (.iload 5, 2) := by decide +kernel
set_option maxRecDepth 100000 in
theorem dX5_drip_143 : decode cX5_drip 143 = .ok (.imul, 1) := by decide +kernel
set_option maxRecDepth 100000 in
theorem dX5_drip_144 : decode cX5_drip 144 = .ok (.iload_n 1, 1) := by decide +kernel
set_option maxRecDepth 100000 in
theorem dX5_drip_145 : decode cX5_drip 145 = .ok (.imul, 1) := by decide +kernel
set_option maxRecDepth 100000 in
theorem dX5_drip_146 : decode cX5_drip 146 = .ok (.sipush 1000, 3) := by decide +kernel
set_option maxRecDepth 100000 in
theorem dX5_drip_149 : decode cX5_drip 149 = .ok (.idiv, 1) := by decide +kernel
set_option maxRecDepth 100000 in
theorem dX5_drip_150 : decode cX5_drip 150 = .ok (.invokestatic 108, 3) := by decide +kernel
set_option maxRecDepth 100000 in
theorem dX5_drip_153 : decode cX5_drip 153 = .ok (.istore_n 2, 1) := by decide +kernel
set_option maxRecDepth 100000 in
theorem dX5_drip_154 : decode cX5_drip 154 = .ok (.aload_n 0, 1) := by decide +kernel
set_option maxRecDepth 100000 in
theorem dX5_drip_155 : decode cX5_drip 155 = .ok (.getfield 9, 3) := by decide +kernel
set_option maxRecDepth 100000 in
theorem dX5_drip_158 : decode cX5_drip 158 = .ok (.iload_n 3, 1) := by decide +kernel
set_option maxRecDepth 100000 in
theorem dX5_drip_159 : decode cX5_drip 159 = .ok (.iload 4, 2) := by decide +kernel
set_option maxRecDepth 100000 in
theorem dX5_drip_161 : decode cX5_drip 161 = .ok (.iload_n 2, 1) := by decide +kernel
set_option maxRecDepth 100000 in
theorem dX5_drip_162 : decode cX5_drip 162 = .ok (.isub, 1) := by decide +kernel
set_option maxRecDepth 100000 in
theorem dX5_drip_163 : decode cX5_drip 163 = .ok (.iastore, 1) := by decide +kernel
set_option maxRecDepth 100000 in
theorem dX5_drip_164 : decode cX5_drip 164 = .ok (.iinc 3 1, 3) := by decide +kernel
set_option maxRecDepth 100000 in
theorem dX5_drip_167 : decode cX5_drip 167 = .ok (.goto (-141), 3) := by decide +kernel
set_option maxRecDepth 100000 in
theorem dX5_drip_170 : decode cX5_drip 170 = .ok (.aload_n 0, 1) := by decide +kernel
set_option maxRecDepth 100000 in
theorem dX5_drip_171 : decode cX5_drip 171 = .ok (.dup, 1) := by decide +kernel
set_option maxRecDepth 100000 in
theorem dX5_drip_172 : decode cX5_drip 172 = .ok (.getfield 38, 3) := by decide +kernel
set_option maxRecDepth 100000 in
theorem dX5_drip_175 : decode cX5_drip 175 = .ok (.iload_n 2, 1) := by decide +kernel
set_option maxRecDepth 100000 in
theorem dX5_drip_176 : decode cX5_drip 176 = .ok (.iadd, 1) := by decide +kernel
set_option maxRecDepth 100000 in
theorem dX5_drip_177 : decode cX5_drip 177 = .ok (.putfield 38, 3) := by decide +kernel
set_option maxRecDepth 100000 in
theorem dX5_drip_180 : decode cX5_drip 180 = .ok (.aload_n 0, 1) := by decide +kernel
set_option maxRecDepth 100000 in
theorem dX5_drip_181 : decode cX5_drip 181 = .ok (.dup, 1) := by decide +kernel
set_option maxRecDepth 100000 in
theorem dX5_drip_182 : decode cX5_drip 182 = .ok (.getfield 41, 3) := by decide +kernel
set_option maxRecDepth 100000 in
theorem dX5_drip_185 : decode cX5_drip 185 = .ok (.iload_n 2, 1) := by decide +kernel
set_option maxRecDepth 100000 in
theorem dX5_drip_186 : decode cX5_drip 186 = .ok (.iadd, 1) := by decide +kernel
set_option maxRecDepth 100000 in
theorem dX5_drip_187 : decode cX5_drip 187 = .ok (.putfield 41, 3) := by decide +kernel
set_option maxRecDepth 100000 in
theorem dX5_drip_190 : decode cX5_drip 190 = .ok (.aload_n 0, 1) := by decide +kernel
set_option maxRecDepth 100000 in
theorem dX5_drip_191 : decode cX5_drip 191 = .ok (.aload_n 0, 1) := by decide +kernel
set_option maxRecDepth 100000 in
theorem dX5_drip_192 : decode cX5_drip 192 = .ok (.getfield 30, 3) := by decide +kernel
set_option maxRecDepth 100000 in
theorem dX5_drip_195 : decode cX5_drip 195 = .ok (.ifCond .ne 7, 3) := by decide +kernel
set_option maxRecDepth 100000 in
theorem dX5_drip_198 : decode cX5_drip 198 = .ok (.iload_n 2, 1) := by decide +kernel
set_option maxRecDepth 100000 in
theorem dX5_drip_199 : decode cX5_drip 199 = .ok (.goto 11, 3) := by decide +kernel
set_option maxRecDepth 100000 in
theorem dX5_drip_202 : decode cX5_drip 202 = .ok (.aload_n 0, 1) := by decide +kernel
set_option maxRecDepth 100000 in
theorem dX5_drip_203 : decode cX5_drip 203 = .ok (.getfield 62, 3) := by decide +kernel
set_option maxRecDepth 100000 in
theorem dX5_drip_206 : decode cX5_drip 206 = .ok (.iload_n 2, 1) := by decide +kernel
set_option maxRecDepth 100000 in
theorem dX5_drip_207 : decode cX5_drip 207 = .ok (.invokestatic 108, 3) := by decide +kernel
set_option maxRecDepth 100000 in
theorem dX5_drip_210 : decode cX5_drip 210 = .ok (.putfield 62, 3) := by decide +kernel
set_option maxRecDepth 100000 in
theorem dX5_drip_213 : decode cX5_drip 213 = .ok (.aload_n 0, 1) := by decide +kernel
set_option maxRecDepth 100000 in
theorem dX5_drip_214 : decode cX5_drip 214 = .ok (.aload_n 0, 1) := by decide +kernel
set_option maxRecDepth 100000 in
theorem dX5_drip_215 : decode cX5_drip 215 = .ok (.getfield 65, 3) := by decide +kernel
set_option maxRecDepth 100000 in
theorem dX5_drip_218 : decode cX5_drip 218 = .ok (.iload_n 2, 1) := by decide +kernel
set_option maxRecDepth 100000 in
theorem dX5_drip_219 : decode cX5_drip 219 = .ok (.invokestatic 113, 3) := by decide +kernel
set_option maxRecDepth 100000 in
theorem dX5_drip_222 : decode cX5_drip 222 = .ok (.putfield 65, 3) := by decide +kernel
set_option maxRecDepth 100000 in
theorem dX5_drip_225 : decode cX5_drip 225 = .ok (.return_, 1) := by decide +kernel
set_option maxRecDepth 100000 in
theorem dX5_leak_0 : decode cX5_leak 0 = .ok (.aload_n 0, 1) := by decide +kernel
set_option maxRecDepth 100000 in
theorem dX5_leak_1 : decode cX5_leak 1 = .ok (.getfield 22, 3) := by decide +kernel
set_option maxRecDepth 100000 in
theorem dX5_leak_4 : decode cX5_leak 4 = .ok (.getfield 116, 3) := by decide +kernel
set_option maxRecDepth 100000 in
theorem dX5_leak_7 : decode cX5_leak 7 = .ok (.istore_n 1, 1) := by decide +kernel
set_option maxRecDepth 100000 in
theorem dX5_leak_8 : decode cX5_leak 8 = .ok (.aload_n 0, 1) := by decide +kernel
set_option maxRecDepth 100000 in
theorem dX5_leak_9 : decode cX5_leak 9 = .ok (.getfield 18, 3) := by decide +kernel
set_option maxRecDepth 100000 in
theorem dX5_leak_12 : decode cX5_leak 12 = .ok (.iload_n 1, 1) := by decide +kernel
set_option maxRecDepth 100000 in
theorem dX5_leak_13 : decode cX5_leak 13 = .ok (.invokevirtual 119, 3) := by decide +kernel
set_option maxRecDepth 100000 in
theorem dX5_leak_16 : decode cX5_leak 16 = .ok (.ifCond .eq 44, 3) := by decide +kernel
set_option maxRecDepth 100000 in
theorem dX5_leak_19 : decode cX5_leak 19 = .ok (.aload_n 0, 1) := by decide +kernel
set_option maxRecDepth 100000 in
theorem dX5_leak_20 : decode cX5_leak 20 = .ok (.getfield 9, 3) := by decide +kernel
set_option maxRecDepth 100000 in
theorem dX5_leak_23 : decode cX5_leak 23 = .ok (.iload_n 1, 1) := by decide +kernel
set_option maxRecDepth 100000 in
theorem dX5_leak_24 : decode cX5_leak 24 = .ok (.iaload, 1) := by decide +kernel
set_option maxRecDepth 100000 in
theorem dX5_leak_25 : decode cX5_leak 25 = .ok (.aload_n 0, 1) := by decide +kernel
set_option maxRecDepth 100000 in
theorem dX5_leak_26 : decode cX5_leak 26 = .ok (.getfield 22, 3) := by decide +kernel
set_option maxRecDepth 100000 in
theorem dX5_leak_29 : decode cX5_leak 29 = .ok (.aload_n 0, 1) := by decide +kernel
set_option maxRecDepth 100000 in
theorem dX5_leak_30 : decode cX5_leak 30 = .ok (.getfield 30, 3) := by decide +kernel
set_option maxRecDepth 100000 in
theorem dX5_leak_33 : decode cX5_leak 33 = .ok (.invokevirtual 123, 3) := by decide +kernel
set_option maxRecDepth 100000 in
theorem dX5_leak_36 : decode cX5_leak 36 = .ok (.invokestatic 108, 3) := by decide +kernel
set_option maxRecDepth 100000 in
theorem dX5_leak_39 : decode cX5_leak 39 = .ok (.istore_n 2, 1) := by decide +kernel
set_option maxRecDepth 100000 in
theorem dX5_leak_40 : decode cX5_leak 40 = .ok (.aload_n 0, 1) := by decide +kernel
set_option maxRecDepth 100000 in
theorem dX5_leak_41 : decode cX5_leak 41 = .ok (.getfield 9, 3) := by decide +kernel
set_option maxRecDepth 100000 in
theorem dX5_leak_44 : decode cX5_leak 44 = .ok (.iload_n 1, 1) := by decide +kernel
set_option maxRecDepth 100000 in
theorem dX5_leak_45 : decode cX5_leak 45 = .ok (.dup2, 1) := by decide +kernel
set_option maxRecDepth 100000 in
theorem dX5_leak_46 : decode cX5_leak 46 = .ok (.iaload, 1) := by decide +kernel
set_option maxRecDepth 100000 in
theorem dX5_leak_47 : decode cX5_leak 47 = .ok (.iload_n 2, 1) := by decide +kernel
set_option maxRecDepth 100000 in
theorem dX5_leak_48 : decode cX5_leak 48 = .ok (.isub, 1) := by decide +kernel
set_option maxRecDepth 100000 in
theorem dX5_leak_49 : decode cX5_leak 49 = .ok (.iastore, 1) := by decide +kernel
set_option maxRecDepth 100000 in
theorem dX5_leak_50 : decode cX5_leak 50 = .ok (.aload_n 0, 1) := by decide +kernel
set_option maxRecDepth 100000 in
theorem dX5_leak_51 : decode cX5_leak 51 = .ok (.dup, 1) := by decide +kernel
set_option maxRecDepth 100000 in
theorem dX5_leak_52 : decode cX5_leak 52 = .ok (.getfield 47, 3) := by decide +kernel
set_option maxRecDepth 100000 in
theorem dX5_leak_55 : decode cX5_leak 55 = .ok (.iload_n 2, 1) := by decide +kernel
set_option maxRecDepth 100000 in
theorem dX5_leak_56 : decode cX5_leak 56 = .ok (.iadd, 1) := by decide +kernel
set_option maxRecDepth 100000 in
theorem dX5_leak_57 : decode cX5_leak 57 = .ok (.putfield 47, 3) := by decide +kernel
set_option maxRecDepth 100000 in
theorem dX5_leak_60 : decode cX5_leak 60 = .ok (.return_, 1) := by decide +kernel
set_option maxRecDepth 100000 in
theorem dX5_dropBalls_0 : decode cX5_dropBalls 0 = .ok (.aload_n 0, 1) := by decide +kernel
set_option maxRecDepth 100000 in
theorem dX5_dropBalls_1 : decode cX5_dropBalls 1 = .ok (.getfield 38, 3) := by decide +kernel
set_option maxRecDepth 100000 in
theorem dX5_dropBalls_4 : decode cX5_dropBalls 4 = .ok (.aload_n 0, 1) := by decide +kernel
set_option maxRecDepth 100000 in
theorem dX5_dropBalls_5 : decode cX5_dropBalls 5 = .ok (.getfield 18, 3) := by decide +kernel
set_option maxRecDepth 100000 in
theorem dX5_dropBalls_8 : decode cX5_dropBalls 8 = .ok (.getfield 127, 3) := by decide +kernel
set_option maxRecDepth 100000 in
theorem dX5_dropBalls_11 : decode cX5_dropBalls 11 = .ok (.invokestatic 98, 3) := by decide +kernel
set_option maxRecDepth 100000 in
theorem dX5_dropBalls_14 : decode cX5_dropBalls 14 = .ok (.istore_n 1, 1) := by decide +kernel
set_option maxRecDepth 100000 in
theorem dX5_dropBalls_15 : decode cX5_dropBalls 15 = .ok (.aload_n 0, 1) := by decide +kernel
set_option maxRecDepth 100000 in
theorem dX5_dropBalls_16 : decode cX5_dropBalls 16 = .ok (.getfield 53, 3) := by decide +kernel
set_option maxRecDepth 100000 in
theorem dX5_dropBalls_19 : decode cX5_dropBalls 19 = .ok (.istore_n 2, 1) := by decide +kernel
set_option maxRecDepth 100000 in
theorem dX5_dropBalls_20 : decode cX5_dropBalls 20 = .ok (.iload_n 2, 1) := by decide +kernel
set_option maxRecDepth 100000 in
theorem dX5_dropBalls_21 : decode cX5_dropBalls 21 = .ok (.aload_n 0, 1) := by decide +kernel
set_option maxRecDepth 100000 in
theorem dX5_dropBalls_22 : decode cX5_dropBalls 22 = .ok (.getfield 18, 3) := by decide +kernel
set_option maxRecDepth 100000 in
theorem dX5_dropBalls_25 : decode cX5_dropBalls 25 = .ok (.getfield 130, 3) := by decide +kernel
set_option maxRecDepth 100000 in
theorem dX5_dropBalls_28 : decode cX5_dropBalls 28 = .ok (.if_icmp .ge 49, 3) := by decide +kernel
set_option maxRecDepth 100000 in
theorem dX5_dropBalls_31 : decode cX5_dropBalls 31 = .ok (.iload_n 2, 1) := by decide +kernel
set_option maxRecDepth 100000 in
theorem dX5_dropBalls_32 : decode cX5_dropBalls 32 = .ok (.bipush 12, 2) := by decide +kernel
set_option maxRecDepth 100000 in
theorem dX5_dropBalls_34 : decode cX5_dropBalls 34 = .ok (.if_icmp .ge 43, 3) := by decide +kernel
set_option maxRecDepth 100000 in
theorem dX5_dropBalls_37 : decode cX5_dropBalls 37 = .ok (.aload_n 0, 1) := by decide +kernel
set_option maxRecDepth 100000 in
theorem dX5_dropBalls_38 : decode cX5_dropBalls 38 = .ok (.getfield 18, 3) := by decide +kernel
set_option maxRecDepth 100000 in
theorem dX5_dropBalls_41 : decode cX5_dropBalls 41 = .ok (.getfield 133, 3) := by decide +kernel
set_option maxRecDepth 100000 in
theorem dX5_dropBalls_44 : decode cX5_dropBalls 44 = .ok (.iload_n 2, 1) := by decide +kernel
set_option maxRecDepth 100000 in
theorem dX5_dropBalls_45 : decode cX5_dropBalls 45 = .ok (.iaload, 1) := by decide +kernel
set_option maxRecDepth 100000 in
theorem dX5_dropBalls_46 : decode cX5_dropBalls 46 = .ok (.iload_n 1, 1) := by decide +kernel
set_option maxRecDepth 100000 in
theorem dX5_dropBalls_47 : decode cX5_dropBalls 47 = .ok (.if_icmp .le 4, 3) := by decide +kernel
set_option maxRecDepth 100000 in
theorem dX5_dropBalls_50 : decode cX5_dropBalls 50 = .ok (.return_, 1) := by decide +kernel
set_option maxRecDepth 100000 in
theorem dX5_dropBalls_51 : decode cX5_dropBalls 51 = .ok (.aload_n 0, 1) := by decide +kernel
set_option maxRecDepth 100000 in
theorem dX5_dropBalls_52 : decode cX5_dropBalls 52 = .ok (.getfield 15, 3) := by decide +kernel
set_option maxRecDepth 100000 in
theorem dX5_dropBalls_55 : decode cX5_dropBalls 55 = .ok (.iload_n 2, 1) := by decide +kernel
set_option maxRecDepth 100000 in
theorem dX5_dropBalls_56 : decode cX5_dropBalls 56 = .ok (.aload_n 0, 1) := by decide +kernel
set_option maxRecDepth 100000 in
theorem dX5_dropBalls_57 : decode cX5_dropBalls 57 = .ok (.getfield 30, 3) := by decide +kernel
set_option maxRecDepth 100000 in
theorem dX5_dropBalls_60 : decode cX5_dropBalls 60 = .ok (.iastore, 1) := by decide +kernel
set_option maxRecDepth 100000 in
theorem dX5_dropBalls_61 : decode cX5_dropBalls 61 = .ok (.aload_n 0, 1) := by decide +kernel
set_option maxRecDepth 100000 in
theorem dX5_dropBalls_62 : decode cX5_dropBalls 62 = .ok (.dup, 1) := by decide +kernel
set_option maxRecDepth 100000 in
theorem dX5_dropBalls_63 : decode cX5_dropBalls 63 = .ok (.getfield 53, 3) := by decide +kernel
set_option maxRecDepth 100000 in
theorem dX5_dropBalls_66 : decode cX5_dropBalls 66 = .ok (.iconst 1, 1) := by decide +kernel
set_option maxRecDepth 100000 in
theorem dX5_dropBalls_67 : decode cX5_dropBalls 67 = .ok (.iadd, 1) := by decide +kernel
set_option maxRecDepth 100000 in
theorem dX5_dropBalls_68 : decode cX5_dropBalls 68 = .ok (.putfield 53, 3) := by decide +kernel
set_option maxRecDepth 100000 in
theorem dX5_dropBalls_71 : decode cX5_dropBalls 71 = .ok (.iinc 2 1, 3) := by decide +kernel
set_option maxRecDepth 100000 in
theorem dX5_dropBalls_74 : decode cX5_dropBalls 74 = .ok (.goto (-54), 3) := by decide +kernel
set_option maxRecDepth 100000 in
theorem dX5_dropBalls_77 : decode cX5_dropBalls 77 = .ok (.return_, 1) := by decide +kernel
set_option maxRecDepth 100000 in
theorem dX5_siphon_0 : decode cX5_siphon 0 = .ok (.aload_n 0, 1) := by decide +kernel
set_option maxRecDepth 100000 in
theorem dX5_siphon_1 : decode cX5_siphon 1 = .ok (.getfield 38, 3) := by decide +kernel
set_option maxRecDepth 100000 in
theorem dX5_siphon_4 : decode cX5_siphon 4 = .ok (.aload_n 0, 1) := by decide +kernel
set_option maxRecDepth 100000 in
theorem dX5_siphon_5 : decode cX5_siphon 5 = .ok (.getfield 18, 3) := by decide +kernel
set_option maxRecDepth 100000 in
theorem dX5_siphon_8 : decode cX5_siphon 8 = .ok (.getfield 127, 3) := by decide +kernel
set_option maxRecDepth 100000 in
theorem dX5_siphon_11 : decode cX5_siphon 11 = .ok (.invokestatic 98, 3) := by decide +kernel
set_option maxRecDepth 100000 in
theorem dX5_siphon_14 : decode cX5_siphon 14 = .ok (.istore_n 1, 1) := by decide +kernel
set_option maxRecDepth 100000 in
theorem dX5_siphon_15 : decode cX5_siphon 15 = .ok (.iload_n 1, 1) := by decide +kernel
set_option maxRecDepth 100000 in
theorem dX5_siphon_16 : decode cX5_siphon 16 = .ok (.aload_n 0, 1) := by decide +kernel
set_option maxRecDepth 100000 in
theorem dX5_siphon_17 : decode cX5_siphon 17 = .ok (.getfield 18, 3) := by decide +kernel
set_option maxRecDepth 100000 in
theorem dX5_siphon_20 : decode cX5_siphon 20 = .ok (.getfield 136, 3) := by decide +kernel
set_option maxRecDepth 100000 in
theorem dX5_siphon_23 : decode cX5_siphon 23 = .ok (.if_icmp .lt 32, 3) := by decide +kernel
set_option maxRecDepth 100000 in
theorem dX5_siphon_26 : decode cX5_siphon 26 = .ok (.aload_n 0, 1) := by decide +kernel
set_option maxRecDepth 100000 in
theorem dX5_siphon_27 : decode cX5_siphon 27 = .ok (.getfield 53, 3) := by decide +kernel
set_option maxRecDepth 100000 in
theorem dX5_siphon_30 : decode cX5_siphon 30 = .ok (.aload_n 0, 1) := by decide +kernel
set_option maxRecDepth 100000 in
theorem dX5_siphon_31 : decode cX5_siphon 31 = .ok (.getfield 18, 3) := by decide +kernel
set_option maxRecDepth 100000 in
theorem dX5_siphon_34 : decode cX5_siphon 34 = .ok (.getfield 130, 3) := by decide +kernel
set_option maxRecDepth 100000 in
theorem dX5_siphon_37 : decode cX5_siphon 37 = .ok (.if_icmp .lt 18, 3) := by decide +kernel
set_option maxRecDepth 100000 in
theorem dX5_siphon_40 : decode cX5_siphon 40 = .ok (.aload_n 0, 1) := by decide +kernel
set_option maxRecDepth 100000 in
theorem dX5_siphon_41 : decode cX5_siphon 41 = .ok (.iconst 0, 1) := by decide +kernel
set_option maxRecDepth 100000 in
theorem dX5_siphon_42 : decode cX5_siphon 42 = .ok (.putfield 38, 3) := by decide +kernel
set_option maxRecDepth 100000 in
theorem dX5_siphon_45 : decode cX5_siphon 45 = .ok (.aload_n 0, 1) := by decide +kernel
set_option maxRecDepth 100000 in
theorem dX5_siphon_46 : decode cX5_siphon 46 = .ok (.dup, 1) := by decide +kernel
set_option maxRecDepth 100000 in
theorem dX5_siphon_47 : decode cX5_siphon 47 = .ok (.getfield 50, 3) := by decide +kernel
set_option maxRecDepth 100000 in
theorem dX5_siphon_50 : decode cX5_siphon 50 = .ok (.iconst 1, 1) := by decide +kernel
set_option maxRecDepth 100000 in
theorem dX5_siphon_51 : decode cX5_siphon 51 = .ok (.iadd, 1) := by decide +kernel
set_option maxRecDepth 100000 in
theorem dX5_siphon_52 : decode cX5_siphon 52 = .ok (.putfield 50, 3) := by decide +kernel
set_option maxRecDepth 100000 in
theorem dX5_siphon_55 : decode cX5_siphon 55 = .ok (.return_, 1) := by decide +kernel
set_option maxRecDepth 100000 in
theorem dX5_tickOf_0 : decode cX5_tickOf 0 = .ok (.aload_n 0, 1) := by decide +kernel
set_option maxRecDepth 100000 in
theorem dX5_tickOf_1 : decode cX5_tickOf 1 = .ok (.getfield 18, 3) := by decide +kernel
set_option maxRecDepth 100000 in
theorem dX5_tickOf_4 : decode cX5_tickOf 4 = .ok (.iload_n 1, 1) := by decide +kernel
set_option maxRecDepth 100000 in
theorem dX5_tickOf_5 : decode cX5_tickOf 5 = .ok (.invokevirtual 139, 3) := by decide +kernel
set_option maxRecDepth 100000 in
theorem dX5_tickOf_8 : decode cX5_tickOf 8 = .ok (.ifCond .eq 12, 3) := by decide +kernel
set_option maxRecDepth 100000 in
theorem dX5_tickOf_11 : decode cX5_tickOf 11 = .ok (.aload_n 0, 1) := by decide +kernel
set_option maxRecDepth 100000 in
theorem dX5_tickOf_12 : decode cX5_tickOf 12 = .ok (.getfield 15, 3) := by decide +kernel
set_option maxRecDepth 100000 in
theorem dX5_tickOf_15 : decode cX5_tickOf 15 = .ok (.iload_n 1, 1) := by decide +kernel
set_option maxRecDepth 100000 in
theorem dX5_tickOf_16 : decode cX5_tickOf 16 = .ok (.iaload, 1) := by decide +kernel
set_option maxRecDepth 100000 in
theorem dX5_tickOf_17 : decode cX5_tickOf 17 = .ok (.goto 4, 3) := by decide +kernel
set_option maxRecDepth 100000 in
theorem dX5_tickOf_20 : decode cX5_tickOf 20 = .ok (.iconst (-1), 1) := by decide +kernel
set_option maxRecDepth 100000 in
theorem dX5_tickOf_21 : decode cX5_tickOf 21 = .ok (.ireturn, 1) := by decide +kernel
set_option maxRecDepth 100000 in
theorem dX5_errorOf_0 : decode cX5_errorOf 0 = .ok (.aload_n 0, 1) := by decide +kernel
set_option maxRecDepth 100000 in
theorem dX5_errorOf_1 : decode cX5_errorOf 1 = .ok (.iload_n 1, 1) := by decide +kernel
set_option maxRecDepth 100000 in
theorem dX5_errorOf_2 : decode cX5_errorOf 2 = .ok (.invokevirtual 142, 3) := by decide +kernel
set_option maxRecDepth 100000 in
theorem dX5_errorOf_5 : decode cX5_errorOf 5 = .ok (.istore_n 3, 1) := by decide +kernel
set_option maxRecDepth 100000 in
theorem dX5_errorOf_6 : decode cX5_errorOf 6 = .ok (.iload_n 3, 1) := by decide +kernel
set_option maxRecDepth 100000 in
theorem dX5_errorOf_7 : decode cX5_errorOf 7 = .ok (.iconst (-1), 1) := by decide +kernel
set_option maxRecDepth 100000 in
theorem dX5_errorOf_8 : decode cX5_errorOf 8 = .ok (.if_icmp .ne 8, 3) := by decide +kernel
set_option maxRecDepth 100000 in
theorem dX5_errorOf_11 : decode cX5_errorOf 11 = .ok (.bipush 96, 2) := by decide +kernel
set_option maxRecDepth 100000 in
theorem dX5_errorOf_13 : decode cX5_errorOf 13 = .ok (.goto 4, 3) := by decide +kernel
set_option maxRecDepth 100000 in
theorem dX5_errorOf_16 : decode cX5_errorOf 16 = .ok (.iload_n 3, 1) := by decide +kernel
set_option maxRecDepth 100000 in
theorem dX5_errorOf_17 : decode cX5_errorOf 17 = .ok (.aload_n 0, 1) := by decide +kernel
set_option maxRecDepth 100000 in
theorem dX5_errorOf_18 : decode cX5_errorOf 18 = .ok (.getfield 18, 3) := by decide +kernel
set_option maxRecDepth 100000 in
theorem dX5_errorOf_21 : decode cX5_errorOf 21 = .ok (.iload_n 1, 1) := by decide +kernel
set_option maxRecDepth 100000 in
theorem dX5_errorOf_22 : decode cX5_errorOf 22 = .ok (.iload_n 2, 1) := by decide +kernel
set_option maxRecDepth 100000 in
theorem dX5_errorOf_23 : decode cX5_errorOf 23 = .ok (.invokevirtual 145, 3) := by decide +kernel
set_option maxRecDepth 100000 in
theorem dX5_errorOf_26 : decode cX5_errorOf 26 = .ok (.isub, 1) := by decide +kernel
set_option maxRecDepth 100000 in
theorem dX5_errorOf_27 : decode cX5_errorOf 27 = .ok (.ireturn, 1) := by decide +kernel
set_option maxRecDepth 100000 in
theorem dX5_errorSize_0 : decode cX5_errorSize 0 = .ok (.aload_n 0, 1) := by decide +kernel
set_option maxRecDepth 100000 in
theorem dX5_errorSize_1 : decode cX5_errorSize 1 = .ok (.iload_n 1, 1) := by decide +kernel
set_option maxRecDepth 100000 in
theorem dX5_errorSize_2 : decode cX5_errorSize 2 = .ok (.iload_n 2, 1) := by decide +kernel
set_option maxRecDepth 100000 in
theorem dX5_errorSize_3 : decode cX5_errorSize 3 = .ok (.invokevirtual 148, 3) := by decide +kernel
set_option maxRecDepth 100000 in
theorem dX5_errorSize_6 : decode cX5_errorSize 6 = .ok (.invokestatic 151, 3) := by decide +kernel
set_option maxRecDepth 100000 in
theorem dX5_errorSize_9 : decode cX5_errorSize 9 = .ok (.ireturn, 1) := by decide +kernel
set_option maxRecDepth 100000 in
theorem dX5_measure_0 : decode cX5_measure 0 = .ok (.iload_n 1, 1) := by decide +kernel
set_option maxRecDepth 100000 in
theorem dX5_measure_1 : decode cX5_measure 1 = .ok (.tableswitch 60 3 7 #[35, 40, 45, 50, 55], 35) := by decide +kernel
set_option maxRecDepth 100000 in
theorem dX5_measure_36 : decode cX5_measure 36 = .ok (.aload_n 0, 1) := by decide +kernel
set_option maxRecDepth 100000 in
theorem dX5_measure_37 : decode cX5_measure 37 = .ok (.getfield 38, 3) := by decide +kernel
set_option maxRecDepth 100000 in
theorem dX5_measure_40 : decode cX5_measure 40 = .ok (.ireturn, 1) := by decide +kernel
set_option maxRecDepth 100000 in
theorem dX5_measure_41 : decode cX5_measure 41 = .ok (.aload_n 0, 1) := by decide +kernel
set_option maxRecDepth 100000 in
theorem dX5_measure_42 : decode cX5_measure 42 = .ok (.getfield 53, 3) := by decide +kernel
set_option maxRecDepth 100000 in
theorem dX5_measure_45 : decode cX5_measure 45 = .ok (.ireturn, 1) := by decide +kernel
set_option maxRecDepth 100000 in
theorem dX5_measure_46 : decode cX5_measure 46 = .ok (.aload_n 0, 1) := by decide +kernel
set_option maxRecDepth 100000 in
theorem dX5_measure_47 : decode cX5_measure 47 = .ok (.getfield 44, 3) := by decide +kernel
set_option maxRecDepth 100000 in
theorem dX5_measure_50 : decode cX5_measure 50 = .ok (.ireturn, 1) := by decide +kernel
set_option maxRecDepth 100000 in
theorem dX5_measure_51 : decode cX5_measure 51 = .ok (.aload_n 0, 1) := by decide +kernel
set_option maxRecDepth 100000 in
theorem dX5_measure_52 : decode cX5_measure 52 = .ok (.getfield 47, 3) := by decide +kernel
set_option maxRecDepth 100000 in
theorem dX5_measure_55 : decode cX5_measure 55 = .ok (.ireturn, 1) := by decide +kernel
set_option maxRecDepth 100000 in
theorem dX5_measure_56 : decode cX5_measure 56 = .ok (.aload_n 0, 1) := by decide +kernel
set_option maxRecDepth 100000 in
theorem dX5_measure_57 : decode cX5_measure 57 = .ok (.getfield 50, 3) := by decide +kernel
set_option maxRecDepth 100000 in
theorem dX5_measure_60 : decode cX5_measure 60 = .ok (.ireturn, 1) := by decide +kernel
set_option maxRecDepth 100000 in
theorem dX5_measure_61 : decode cX5_measure 61 = .ok (.aload_n 0, 1) := by decide +kernel
set_option maxRecDepth 100000 in
theorem dX5_measure_62 : decode cX5_measure 62 = .ok (.getfield 18, 3) := by decide +kernel
set_option maxRecDepth 100000 in
theorem dX5_measure_65 : decode cX5_measure 65 = .ok (.iload_n 1, 1) := by decide +kernel
set_option maxRecDepth 100000 in
theorem dX5_measure_66 : decode cX5_measure 66 = .ok (.invokevirtual 119, 3) := by decide +kernel
set_option maxRecDepth 100000 in
theorem dX5_measure_69 : decode cX5_measure 69 = .ok (.ifCond .eq 12, 3) := by decide +kernel
set_option maxRecDepth 100000 in
theorem dX5_measure_72 : decode cX5_measure 72 = .ok (.aload_n 0, 1) := by decide +kernel
set_option maxRecDepth 100000 in
theorem dX5_measure_73 : decode cX5_measure 73 = .ok (.getfield 9, 3) := by decide +kernel
set_option maxRecDepth 100000 in
theorem dX5_measure_76 : decode cX5_measure 76 = .ok (.iload_n 1, 1) := by decide +kernel
set_option maxRecDepth 100000 in
theorem dX5_measure_77 : decode cX5_measure 77 = .ok (.iaload, 1) := by decide +kernel
set_option maxRecDepth 100000 in
theorem dX5_measure_78 : decode cX5_measure 78 = .ok (.goto 4, 3) := by decide +kernel
set_option maxRecDepth 100000 in
theorem dX5_measure_81 : decode cX5_measure 81 = .ok (.iconst (-1), 1) := by decide +kernel
set_option maxRecDepth 100000 in
theorem dX5_measure_82 : decode cX5_measure 82 = .ok (.ireturn, 1) := by decide +kernel
set_option maxRecDepth 100000 in
theorem dX6_init_0 : decode cX6_init 0 = .ok (.aload_n 0, 1) := by decide +kernel
set_option maxRecDepth 100000 in
theorem dX6_init_1 : decode cX6_init 1 = .ok (.invokespecial 3, 3) := by decide +kernel
set_option maxRecDepth 100000 in
theorem dX6_init_4 : decode cX6_init 4 = .ok (.aload_n 0, 1) := by decide +kernel
set_option maxRecDepth 100000 in
theorem dX6_init_5 : decode cX6_init 5 = .ok (.iconst 4, 1) := by decide +kernel
set_option maxRecDepth 100000 in
theorem dX6_init_6 : decode cX6_init 6 = .ok (.newarray .int, 2) := by decide +kernel
set_option maxRecDepth 100000 in
theorem dX6_init_8 : decode cX6_init 8 = .ok (.putfield 9, 3) := by decide +kernel
set_option maxRecDepth 100000 in
theorem dX6_init_11 : decode cX6_init 11 = .ok (.aload_n 0, 1) := by decide +kernel
set_option maxRecDepth 100000 in
theorem dX6_init_12 : decode cX6_init 12 = .ok (.iconst 4, 1) := by decide +kernel
set_option maxRecDepth 100000 in
theorem dX6_init_13 : decode cX6_init 13 = .ok (.newarray .int, 2) := by decide +kernel
set_option maxRecDepth 100000 in
theorem dX6_init_15 : decode cX6_init 15 = .ok (.putfield 15, 3) := by decide +kernel
set_option maxRecDepth 100000 in
theorem dX6_init_18 : decode cX6_init 18 = .ok (.aload_n 0, 1) := by decide +kernel
set_option maxRecDepth 100000 in
theorem dX6_init_19 : decode cX6_init 19 = .ok (.bipush 12, 2) := by decide +kernel
set_option maxRecDepth 100000 in
theorem dX6_init_21 : decode cX6_init 21 = .ok (.newarray .int, 2) := by decide +kernel
set_option maxRecDepth 100000 in
theorem dX6_init_23 : decode cX6_init 23 = .ok (.putfield 18, 3) := by decide +kernel
set_option maxRecDepth 100000 in
theorem dX6_init_26 : decode cX6_init 26 = .ok (.aload_n 0, 1) := by decide +kernel
set_option maxRecDepth 100000 in
theorem dX6_init_27 : decode cX6_init 27 = .ok (.iconst (-1), 1) := by decide +kernel
set_option maxRecDepth 100000 in
theorem dX6_init_28 : decode cX6_init 28 = .ok (.putfield 21, 3) := by decide +kernel
set_option maxRecDepth 100000 in
theorem dX6_init_31 : decode cX6_init 31 = .ok (.aload_n 0, 1) := by decide +kernel
set_option maxRecDepth 100000 in
theorem dX6_init_32 : decode cX6_init 32 = .ok (.getfield 9, 3) := by decide +kernel
set_option maxRecDepth 100000 in
theorem dX6_init_35 : decode cX6_init 35 = .ok (.bipush 100, 2) := by decide +kernel
set_option maxRecDepth 100000 in
theorem dX6_init_37 : decode cX6_init 37 = .ok (.invokestatic 25, 3) := by decide +kernel
set_option maxRecDepth 100000 in
theorem dX6_init_40 : decode cX6_init 40 = .ok (.aload_n 0, 1) := by decide +kernel
set_option maxRecDepth 100000 in
theorem dX6_init_41 : decode cX6_init 41 = .ok (.getfield 15, 3) := by decide +kernel
set_option maxRecDepth 100000 in
theorem dX6_init_44 : decode cX6_init 44 = .ok (.bipush 48, 2) := by decide +kernel
set_option maxRecDepth 100000 in
theorem dX6_init_46 : decode cX6_init 46 = .ok (.invokestatic 25, 3) := by decide +kernel
set_option maxRecDepth 100000 in
theorem dX6_init_49 : decode cX6_init 49 = .ok (.aload_n 0, 1) := by decide +kernel
set_option maxRecDepth 100000 in
theorem dX6_init_50 : decode cX6_init 50 = .ok (.getfield 18, 3) := by decide +kernel
set_option maxRecDepth 100000 in
theorem dX6_init_53 : decode cX6_init 53 = .ok (.iconst (-1), 1) := by decide +kernel
set_option maxRecDepth 100000 in
theorem dX6_init_54 : decode cX6_init 54 = .ok (.invokestatic 25, 3) := by decide +kernel
set_option maxRecDepth 100000 in
theorem dX6_init_57 : decode cX6_init 57 = .ok (.return_, 1) := by decide +kernel
set_option maxRecDepth 100000 in
theorem dX6_ballsTold_0 : decode cX6_ballsTold 0 = .ok (.iconst 0, 1) := by decide +kernel
set_option maxRecDepth 100000 in
theorem dX6_ballsTold_1 : decode cX6_ballsTold 1 = .ok (.istore_n 1, 1) := by decide +kernel
set_option maxRecDepth 100000 in
theorem dX6_ballsTold_2 : decode cX6_ballsTold 2 = .ok (.iconst 0, 1) := by decide +kernel
set_option maxRecDepth 100000 in
theorem dX6_ballsTold_3 : decode cX6_ballsTold 3 = .ok (.istore_n 2, 1) := by decide +kernel
set_option maxRecDepth 100000 in
theorem dX6_ballsTold_4 : decode cX6_ballsTold 4 = .ok (.iload_n 2, 1) := by decide +kernel
set_option maxRecDepth 100000 in
theorem dX6_ballsTold_5 : decode cX6_ballsTold 5 = .ok (.bipush 12, 2) := by decide +kernel
set_option maxRecDepth 100000 in
theorem dX6_ballsTold_7 : decode cX6_ballsTold 7 = .ok (.if_icmp .ge 22, 3) := by decide +kernel
set_option maxRecDepth 100000 in
theorem dX6_ballsTold_10 : decode cX6_ballsTold 10 = .ok (.aload_n 0, 1) := by decide +kernel
set_option maxRecDepth 100000 in
theorem dX6_ballsTold_11 : decode cX6_ballsTold 11 = .ok (.getfield 18, 3) := by decide +kernel
set_option maxRecDepth 100000 in
theorem dX6_ballsTold_14 : decode cX6_ballsTold 14 = .ok (.iload_n 2, 1) := by decide +kernel
set_option maxRecDepth 100000 in
theorem dX6_ballsTold_15 : decode cX6_ballsTold 15 = .ok (.iaload, 1) := by decide +kernel
set_option maxRecDepth 100000 in
theorem dX6_ballsTold_16 : decode cX6_ballsTold 16 = .ok (.iconst (-1), 1) := by decide +kernel
set_option maxRecDepth 100000 in
theorem dX6_ballsTold_17 : decode cX6_ballsTold 17 = .ok (.if_icmp .eq 6, 3) := by decide +kernel
set_option maxRecDepth 100000 in
theorem dX6_ballsTold_20 : decode cX6_ballsTold 20 = .ok (.iinc 1 1, 3) := by decide +kernel
set_option maxRecDepth 100000 in
theorem dX6_ballsTold_23 : decode cX6_ballsTold 23 = .ok (.iinc 2 1, 3) := by decide +kernel
set_option maxRecDepth 100000 in
theorem dX6_ballsTold_26 : decode cX6_ballsTold 26 = .ok (.goto (-22), 3) := by decide +kernel
set_option maxRecDepth 100000 in
theorem dX6_ballsTold_29 : decode cX6_ballsTold 29 = .ok (.iload_n 1, 1) := by decide +kernel
set_option maxRecDepth 100000 in
theorem dX6_ballsTold_30 : decode cX6_ballsTold 30 = .ok (.ireturn, 1) := by decide +kernel
set_option maxRecDepth 100000 in
theorem dX7_init_0 : decode cX7_init 0 = .ok (.aload_n 0, 1) := by decide +kernel
set_option maxRecDepth 100000 in
theorem dX7_init_1 : decode cX7_init 1 = .ok (.invokespecial 1, 3) := by decide +kernel
set_option maxRecDepth 100000 in
theorem dX7_init_4 : decode cX7_init 4 = .ok (.aload_n 0, 1) := by decide +kernel
set_option maxRecDepth 100000 in
theorem dX7_init_5 : decode cX7_init 5 = .ok (.iload_n 1, 1) := by decide +kernel
set_option maxRecDepth 100000 in
theorem dX7_init_6 : decode cX7_init 6 = .ok (.putfield 7, 3) := by decide +kernel
set_option maxRecDepth 100000 in
theorem dX7_init_9 : decode cX7_init 9 = .ok (.aload_n 0, 1) := by decide +kernel
set_option maxRecDepth 100000 in
theorem dX7_init_10 : decode cX7_init 10 = .ok (.iload_n 2, 1) := by decide +kernel
set_option maxRecDepth 100000 in
theorem dX7_init_11 : decode cX7_init 11 = .ok (.putfield 13, 3) := by decide +kernel
set_option maxRecDepth 100000 in
theorem dX7_init_14 : decode cX7_init 14 = .ok (.aload_n 0, 1) := by decide +kernel
set_option maxRecDepth 100000 in
theorem dX7_init_15 : decode cX7_init 15 = .ok (.iload_n 3, 1) := by decide +kernel
set_option maxRecDepth 100000 in
theorem dX7_init_16 : decode cX7_init 16 = .ok (.putfield 16, 3) := by decide +kernel
set_option maxRecDepth 100000 in
theorem dX7_init_19 : decode cX7_init 19 = .ok (.aload_n 0, 1) := by decide +kernel
set_option maxRecDepth 100000 in
theorem dX7_init_20 : decode cX7_init 20 = .ok (.aload 4, 2) := by decide +kernel
set_option maxRecDepth 100000 in
theorem dX7_init_22 : decode cX7_init 22 = .ok (.putfield 19, 3) := by decide +kernel
set_option maxRecDepth 100000 in
theorem dX7_init_25 : decode cX7_init 25 = .ok (.return_, 1) := by decide +kernel
set_option maxRecDepth 100000 in
theorem dJ7_fill_53178_0 : decode cJ7_fill_53178 0 = .ok (.iconst 0, 1) := by decide +kernel
set_option maxRecDepth 100000 in
theorem dJ7_fill_53178_1 : decode cJ7_fill_53178 1 = .ok (.istore_n 2, 1) := by decide +kernel
set_option maxRecDepth 100000 in
theorem dJ7_fill_53178_2 : decode cJ7_fill_53178 2 = .ok (.aload_n 0, 1) := by decide +kernel
set_option maxRecDepth 100000 in
theorem dJ7_fill_53178_3 : decode cJ7_fill_53178 3 = .ok (.arraylength, 1) := by decide +kernel
set_option maxRecDepth 100000 in
theorem dJ7_fill_53178_4 : decode cJ7_fill_53178 4 = .ok (.istore_n 3, 1) := by decide +kernel
set_option maxRecDepth 100000 in
theorem dJ7_fill_53178_5 : decode cJ7_fill_53178 5 = .ok (.iload_n 2, 1) := by decide +kernel
set_option maxRecDepth 100000 in
theorem dJ7_fill_53178_6 : decode cJ7_fill_53178 6 = .ok (.iload_n 3, 1) := by decide +kernel
set_option maxRecDepth 100000 in
theorem dJ7_fill_53178_7 : decode cJ7_fill_53178 7 = .ok (.if_icmp .ge 13, 3) := by decide +kernel
set_option maxRecDepth 100000 in
theorem dJ7_fill_53178_10 : decode cJ7_fill_53178 10 = .ok (.aload_n 0, 1) := by decide +kernel
set_option maxRecDepth 100000 in
theorem dJ7_fill_53178_11 : decode cJ7_fill_53178 11 = .ok (.iload_n 2, 1) := by decide +kernel
set_option maxRecDepth 100000 in
theorem dJ7_fill_53178_12 : decode cJ7_fill_53178 12 = .ok (.iload_n 1, 1) := by decide +kernel
set_option maxRecDepth 100000 in
theorem dJ7_fill_53178_13 : decode cJ7_fill_53178 13 = .ok (.iastore, 1) := by decide +kernel
set_option maxRecDepth 100000 in
theorem dJ7_fill_53178_14 : decode cJ7_fill_53178 14 = .ok (.iinc 2 1, 3) := by decide +kernel
set_option maxRecDepth 100000 in
theorem dJ7_fill_53178_17 : decode cJ7_fill_53178 17 = .ok (.goto (-12), 3) := by decide +kernel
set_option maxRecDepth 100000 in
theorem dJ7_fill_53178_20 : decode cJ7_fill_53178 20 = .ok (.return_, 1) := by decide +kernel
