-- ===== PART A: goes FIRST, ahead of the names: the tables' words, and 'selects' of the private methods out of them =====
/-- a private method of a class that the tables say can be made, by its rows of tables_1 -/
def lw_okq (q : MethodName × Nat) : Prop := (q.1.cls ≠ "java/lang/invoke/MethodHandle" ∧ q.1.cls ≠ "java/lang/invoke/VarHandle") ∧ Cond.instantiable q.1.cls q.2 ∈ tables_1 ∧ Cond.privateMethod q.1 ∈ tables_1 ∧ Cond.instanceMethod q.1 ∈ tables_1
theorem lw_p0 : lw_okq (⟨"DroppingBalls$Page", "readVessels", "(LDroppingBalls$Clock;)Z"⟩, 3) := ⟨⟨by decide +kernel, by decide +kernel⟩, List.mem_of_getElem? (i := 28) (by decide +kernel), List.mem_of_getElem? (i := 353) (by decide +kernel), List.mem_of_getElem? (i := 354) (by decide +kernel)⟩
theorem lw_p1 : lw_okq (⟨"DroppingBalls$Page", "readVessel", "(LDroppingBalls$Clock;)Z"⟩, 3) := ⟨⟨by decide +kernel, by decide +kernel⟩, List.mem_of_getElem? (i := 28) (by decide +kernel), List.mem_of_getElem? (i := 357) (by decide +kernel), List.mem_of_getElem? (i := 358) (by decide +kernel)⟩
theorem lw_p2 : lw_okq (⟨"DroppingBalls$Page", "readNumber", "(II)I"⟩, 3) := ⟨⟨by decide +kernel, by decide +kernel⟩, List.mem_of_getElem? (i := 28) (by decide +kernel), List.mem_of_getElem? (i := 361) (by decide +kernel), List.mem_of_getElem? (i := 362) (by decide +kernel)⟩
theorem lw_p3 : lw_okq (⟨"DroppingBalls$Page", "figureHere", "()I"⟩, 3) := ⟨⟨by decide +kernel, by decide +kernel⟩, List.mem_of_getElem? (i := 28) (by decide +kernel), List.mem_of_getElem? (i := 365) (by decide +kernel), List.mem_of_getElem? (i := 366) (by decide +kernel)⟩
theorem lw_p4 : lw_okq (⟨"DroppingBalls$Page", "readSign", "(C)Z"⟩, 3) := ⟨⟨by decide +kernel, by decide +kernel⟩, List.mem_of_getElem? (i := 28) (by decide +kernel), List.mem_of_getElem? (i := 379) (by decide +kernel), List.mem_of_getElem? (i := 380) (by decide +kernel)⟩
theorem lw_p5 : lw_okq (⟨"DroppingBalls$Page", "readCylinder", "(LDroppingBalls$Clock;)Z"⟩, 3) := ⟨⟨by decide +kernel, by decide +kernel⟩, List.mem_of_getElem? (i := 28) (by decide +kernel), List.mem_of_getElem? (i := 387) (by decide +kernel), List.mem_of_getElem? (i := 388) (by decide +kernel)⟩
theorem lw_p6 : lw_okq (⟨"DroppingBalls$Page", "readSupply", "(LDroppingBalls$Clock;)Z"⟩, 3) := ⟨⟨by decide +kernel, by decide +kernel⟩, List.mem_of_getElem? (i := 28) (by decide +kernel), List.mem_of_getElem? (i := 391) (by decide +kernel), List.mem_of_getElem? (i := 392) (by decide +kernel)⟩
theorem lw_p7 : lw_okq (⟨"DroppingBalls$Page", "readMarks", "(LDroppingBalls$Clock;)Z"⟩, 3) := ⟨⟨by decide +kernel, by decide +kernel⟩, List.mem_of_getElem? (i := 28) (by decide +kernel), List.mem_of_getElem? (i := 395) (by decide +kernel), List.mem_of_getElem? (i := 396) (by decide +kernel)⟩
theorem lw_p8 : lw_okq (⟨"DroppingBalls", "clockOf", "(I)LDroppingBalls$Clock;"⟩, 19) := ⟨⟨by decide +kernel, by decide +kernel⟩, List.mem_of_getElem? (i := 14) (by decide +kernel), List.mem_of_getElem? (i := 415) (by decide +kernel), List.mem_of_getElem? (i := 416) (by decide +kernel)⟩
theorem lw_p9 : lw_okq (⟨"DroppingBalls", "faultOf", "(I)LDroppingBalls$Fault;"⟩, 19) := ⟨⟨by decide +kernel, by decide +kernel⟩, List.mem_of_getElem? (i := 14) (by decide +kernel), List.mem_of_getElem? (i := 468) (by decide +kernel), List.mem_of_getElem? (i := 469) (by decide +kernel)⟩
theorem lw_p10 : lw_okq (⟨"DroppingBalls", "isWorkOrNone", "(I)Z"⟩, 19) := ⟨⟨by decide +kernel, by decide +kernel⟩, List.mem_of_getElem? (i := 14) (by decide +kernel), List.mem_of_getElem? (i := 485) (by decide +kernel), List.mem_of_getElem? (i := 486) (by decide +kernel)⟩
theorem lw_p11 : lw_okq (⟨"DroppingBalls", "workOf", "(I)LDroppingBalls$Work;"⟩, 19) := ⟨⟨by decide +kernel, by decide +kernel⟩, List.mem_of_getElem? (i := 14) (by decide +kernel), List.mem_of_getElem? (i := 490) (by decide +kernel), List.mem_of_getElem? (i := 491) (by decide +kernel)⟩
theorem lw_p12 : lw_okq (⟨"DroppingBalls", "startRun", "(III)Z"⟩, 19) := ⟨⟨by decide +kernel, by decide +kernel⟩, List.mem_of_getElem? (i := 14) (by decide +kernel), List.mem_of_getElem? (i := 534) (by decide +kernel), List.mem_of_getElem? (i := 535) (by decide +kernel)⟩
theorem lw_p13 : lw_okq (⟨"DroppingBalls", "warmthOf", "(I)I"⟩, 19) := ⟨⟨by decide +kernel, by decide +kernel⟩, List.mem_of_getElem? (i := 14) (by decide +kernel), List.mem_of_getElem? (i := 538) (by decide +kernel), List.mem_of_getElem? (i := 539) (by decide +kernel)⟩
theorem lw_p14 : lw_okq (⟨"DroppingBalls$Run", "drip", "()V"⟩, 14) := ⟨⟨by decide +kernel, by decide +kernel⟩, List.mem_of_getElem? (i := 149) (by decide +kernel), List.mem_of_getElem? (i := 556) (by decide +kernel), List.mem_of_getElem? (i := 557) (by decide +kernel)⟩
theorem lw_p15 : lw_okq (⟨"DroppingBalls$Run", "leak", "()V"⟩, 14) := ⟨⟨by decide +kernel, by decide +kernel⟩, List.mem_of_getElem? (i := 149) (by decide +kernel), List.mem_of_getElem? (i := 578) (by decide +kernel), List.mem_of_getElem? (i := 579) (by decide +kernel)⟩
def lw_privs_1 : List (MethodName × Nat) := [(⟨"DroppingBalls$Page", "readVessels", "(LDroppingBalls$Clock;)Z"⟩, 3), (⟨"DroppingBalls$Page", "readVessel", "(LDroppingBalls$Clock;)Z"⟩, 3), (⟨"DroppingBalls$Page", "readNumber", "(II)I"⟩, 3), (⟨"DroppingBalls$Page", "figureHere", "()I"⟩, 3), (⟨"DroppingBalls$Page", "readSign", "(C)Z"⟩, 3), (⟨"DroppingBalls$Page", "readCylinder", "(LDroppingBalls$Clock;)Z"⟩, 3), (⟨"DroppingBalls$Page", "readSupply", "(LDroppingBalls$Clock;)Z"⟩, 3), (⟨"DroppingBalls$Page", "readMarks", "(LDroppingBalls$Clock;)Z"⟩, 3), (⟨"DroppingBalls", "clockOf", "(I)LDroppingBalls$Clock;"⟩, 19), (⟨"DroppingBalls", "faultOf", "(I)LDroppingBalls$Fault;"⟩, 19), (⟨"DroppingBalls", "isWorkOrNone", "(I)Z"⟩, 19), (⟨"DroppingBalls", "workOf", "(I)LDroppingBalls$Work;"⟩, 19), (⟨"DroppingBalls", "startRun", "(III)Z"⟩, 19), (⟨"DroppingBalls", "warmthOf", "(I)I"⟩, 19), (⟨"DroppingBalls$Run", "drip", "()V"⟩, 14), (⟨"DroppingBalls$Run", "leak", "()V"⟩, 14)]
theorem lw_r1 : ∀ q ∈ lw_privs_1, lw_okq q := List.forall_mem_cons.mpr ⟨lw_p0, List.forall_mem_cons.mpr ⟨lw_p1, List.forall_mem_cons.mpr ⟨lw_p2, List.forall_mem_cons.mpr ⟨lw_p3, List.forall_mem_cons.mpr ⟨lw_p4, List.forall_mem_cons.mpr ⟨lw_p5, List.forall_mem_cons.mpr ⟨lw_p6, List.forall_mem_cons.mpr ⟨lw_p7, List.forall_mem_cons.mpr ⟨lw_p8, List.forall_mem_cons.mpr ⟨lw_p9, List.forall_mem_cons.mpr ⟨lw_p10, List.forall_mem_cons.mpr ⟨lw_p11, List.forall_mem_cons.mpr ⟨lw_p12, List.forall_mem_cons.mpr ⟨lw_p13, List.forall_mem_cons.mpr ⟨lw_p14, List.forall_mem_cons.mpr ⟨lw_p15, fun _ h => absurd h List.not_mem_nil⟩⟩⟩⟩⟩⟩⟩⟩⟩⟩⟩⟩⟩⟩⟩⟩
theorem lw_p16 : lw_okq (⟨"DroppingBalls$Run", "dropBalls", "()V"⟩, 14) := ⟨⟨by decide +kernel, by decide +kernel⟩, List.mem_of_getElem? (i := 149) (by decide +kernel), List.mem_of_getElem? (i := 587) (by decide +kernel), List.mem_of_getElem? (i := 588) (by decide +kernel)⟩
theorem lw_p17 : lw_okq (⟨"DroppingBalls$Run", "siphon", "()V"⟩, 14) := ⟨⟨by decide +kernel, by decide +kernel⟩, List.mem_of_getElem? (i := 149) (by decide +kernel), List.mem_of_getElem? (i := 591) (by decide +kernel), List.mem_of_getElem? (i := 592) (by decide +kernel)⟩
theorem lw_p18 : lw_okq (⟨"DroppingBalls", "daylightOf", "(I)I"⟩, 19) := ⟨⟨by decide +kernel, by decide +kernel⟩, List.mem_of_getElem? (i := 14) (by decide +kernel), List.mem_of_getElem? (i := 604) (by decide +kernel), List.mem_of_getElem? (i := 605) (by decide +kernel)⟩
theorem lw_p19 : lw_okq (⟨"DroppingBalls", "playRun", "()V"⟩, 19) := ⟨⟨by decide +kernel, by decide +kernel⟩, List.mem_of_getElem? (i := 14) (by decide +kernel), List.mem_of_getElem? (i := 650) (by decide +kernel), List.mem_of_getElem? (i := 651) (by decide +kernel)⟩
theorem lw_p20 : lw_okq (⟨"DroppingBalls$Play", "strike", "(LDroppingBalls$Work;I)V"⟩, 12) := ⟨⟨by decide +kernel, by decide +kernel⟩, List.mem_of_getElem? (i := 203) (by decide +kernel), List.mem_of_getElem? (i := 664) (by decide +kernel), List.mem_of_getElem? (i := 665) (by decide +kernel)⟩
theorem lw_p21 : lw_okq (⟨"DroppingBalls$Play", "strikesOn", "(LDroppingBalls$Work;I)Z"⟩, 12) := ⟨⟨by decide +kernel, by decide +kernel⟩, List.mem_of_getElem? (i := 203) (by decide +kernel), List.mem_of_getElem? (i := 668) (by decide +kernel), List.mem_of_getElem? (i := 669) (by decide +kernel)⟩
theorem lw_p22 : lw_okq (⟨"DroppingBalls$Play", "comesOut", "(LDroppingBalls$Work;I)Z"⟩, 12) := ⟨⟨by decide +kernel, by decide +kernel⟩, List.mem_of_getElem? (i := 203) (by decide +kernel), List.mem_of_getElem? (i := 672) (by decide +kernel), List.mem_of_getElem? (i := 673) (by decide +kernel)⟩
theorem lw_p23 : lw_okq (⟨"DroppingBalls$Play", "turn", "(LDroppingBalls$Work;I)V"⟩, 12) := ⟨⟨by decide +kernel, by decide +kernel⟩, List.mem_of_getElem? (i := 203) (by decide +kernel), List.mem_of_getElem? (i := 676) (by decide +kernel), List.mem_of_getElem? (i := 677) (by decide +kernel)⟩
theorem lw_p24 : lw_okq (⟨"DroppingBalls$Play", "isCountedOut", "(LDroppingBalls$Work;)Z"⟩, 12) := ⟨⟨by decide +kernel, by decide +kernel⟩, List.mem_of_getElem? (i := 203) (by decide +kernel), List.mem_of_getElem? (i := 680) (by decide +kernel), List.mem_of_getElem? (i := 681) (by decide +kernel)⟩
theorem lw_p25 : lw_okq (⟨"DroppingBalls", "findWorst", "(LDroppingBalls$Clock;)V"⟩, 19) := ⟨⟨by decide +kernel, by decide +kernel⟩, List.mem_of_getElem? (i := 14) (by decide +kernel), List.mem_of_getElem? (i := 697) (by decide +kernel), List.mem_of_getElem? (i := 698) (by decide +kernel)⟩
theorem lw_p26 : lw_okq (⟨"DroppingBalls$Evidence", "ask", "(II)V"⟩, 4) := ⟨⟨by decide +kernel, by decide +kernel⟩, List.mem_of_getElem? (i := 248) (by decide +kernel), List.mem_of_getElem? (i := 742) (by decide +kernel), List.mem_of_getElem? (i := 743) (by decide +kernel)⟩
theorem lw_p27 : lw_okq (⟨"DroppingBalls", "agreesFromHere", "(LDroppingBalls$Run;)Z"⟩, 19) := ⟨⟨by decide +kernel, by decide +kernel⟩, List.mem_of_getElem? (i := 14) (by decide +kernel), List.mem_of_getElem? (i := 746) (by decide +kernel), List.mem_of_getElem? (i := 747) (by decide +kernel)⟩
theorem lw_p28 : lw_okq (⟨"DroppingBalls", "seekFault", "(III)I"⟩, 19) := ⟨⟨by decide +kernel, by decide +kernel⟩, List.mem_of_getElem? (i := 14) (by decide +kernel), List.mem_of_getElem? (i := 764) (by decide +kernel), List.mem_of_getElem? (i := 765) (by decide +kernel)⟩
theorem lw_p29 : lw_okq (⟨"DroppingBalls", "seekClock", "(III)I"⟩, 19) := ⟨⟨by decide +kernel, by decide +kernel⟩, List.mem_of_getElem? (i := 14) (by decide +kernel), List.mem_of_getElem? (i := 778) (by decide +kernel), List.mem_of_getElem? (i := 779) (by decide +kernel)⟩
theorem lw_p30 : lw_okq (⟨"DroppingBalls", "holdsInRun", "(II)Z"⟩, 19) := ⟨⟨by decide +kernel, by decide +kernel⟩, List.mem_of_getElem? (i := 14) (by decide +kernel), List.mem_of_getElem? (i := 811) (by decide +kernel), List.mem_of_getElem? (i := 812) (by decide +kernel)⟩
theorem lw_p31 : lw_okq (⟨"DroppingBalls", "mixedClock", "(JI)J"⟩, 19) := ⟨⟨by decide +kernel, by decide +kernel⟩, List.mem_of_getElem? (i := 14) (by decide +kernel), List.mem_of_getElem? (i := 844) (by decide +kernel), List.mem_of_getElem? (i := 845) (by decide +kernel)⟩
def lw_privs_2 : List (MethodName × Nat) := [(⟨"DroppingBalls$Run", "dropBalls", "()V"⟩, 14), (⟨"DroppingBalls$Run", "siphon", "()V"⟩, 14), (⟨"DroppingBalls", "daylightOf", "(I)I"⟩, 19), (⟨"DroppingBalls", "playRun", "()V"⟩, 19), (⟨"DroppingBalls$Play", "strike", "(LDroppingBalls$Work;I)V"⟩, 12), (⟨"DroppingBalls$Play", "strikesOn", "(LDroppingBalls$Work;I)Z"⟩, 12), (⟨"DroppingBalls$Play", "comesOut", "(LDroppingBalls$Work;I)Z"⟩, 12), (⟨"DroppingBalls$Play", "turn", "(LDroppingBalls$Work;I)V"⟩, 12), (⟨"DroppingBalls$Play", "isCountedOut", "(LDroppingBalls$Work;)Z"⟩, 12), (⟨"DroppingBalls", "findWorst", "(LDroppingBalls$Clock;)V"⟩, 19), (⟨"DroppingBalls$Evidence", "ask", "(II)V"⟩, 4), (⟨"DroppingBalls", "agreesFromHere", "(LDroppingBalls$Run;)Z"⟩, 19), (⟨"DroppingBalls", "seekFault", "(III)I"⟩, 19), (⟨"DroppingBalls", "seekClock", "(III)I"⟩, 19), (⟨"DroppingBalls", "holdsInRun", "(II)Z"⟩, 19), (⟨"DroppingBalls", "mixedClock", "(JI)J"⟩, 19)]
theorem lw_r2 : ∀ q ∈ lw_privs_2, lw_okq q := List.forall_mem_cons.mpr ⟨lw_p16, List.forall_mem_cons.mpr ⟨lw_p17, List.forall_mem_cons.mpr ⟨lw_p18, List.forall_mem_cons.mpr ⟨lw_p19, List.forall_mem_cons.mpr ⟨lw_p20, List.forall_mem_cons.mpr ⟨lw_p21, List.forall_mem_cons.mpr ⟨lw_p22, List.forall_mem_cons.mpr ⟨lw_p23, List.forall_mem_cons.mpr ⟨lw_p24, List.forall_mem_cons.mpr ⟨lw_p25, List.forall_mem_cons.mpr ⟨lw_p26, List.forall_mem_cons.mpr ⟨lw_p27, List.forall_mem_cons.mpr ⟨lw_p28, List.forall_mem_cons.mpr ⟨lw_p29, List.forall_mem_cons.mpr ⟨lw_p30, List.forall_mem_cons.mpr ⟨lw_p31, fun _ h => absurd h List.not_mem_nil⟩⟩⟩⟩⟩⟩⟩⟩⟩⟩⟩⟩⟩⟩⟩⟩
theorem lw_p32 : lw_okq (⟨"DroppingBallsModel", "readPage", "()V"⟩, 76) := ⟨⟨by decide +kernel, by decide +kernel⟩, List.mem_of_getElem? (i := 857) (by decide +kernel), List.mem_of_getElem? (i := 1106) (by decide +kernel), List.mem_of_getElem? (i := 1107) (by decide +kernel)⟩
theorem lw_p33 : lw_okq (⟨"DroppingBallsModel", "fits", "(II)Z"⟩, 76) := ⟨⟨by decide +kernel, by decide +kernel⟩, List.mem_of_getElem? (i := 857) (by decide +kernel), List.mem_of_getElem? (i := 1116) (by decide +kernel), List.mem_of_getElem? (i := 1117) (by decide +kernel)⟩
theorem lw_p34 : lw_okq (⟨"DroppingBallsModel", "markAhead", "()I"⟩, 76) := ⟨⟨by decide +kernel, by decide +kernel⟩, List.mem_of_getElem? (i := 857) (by decide +kernel), List.mem_of_getElem? (i := 1120) (by decide +kernel), List.mem_of_getElem? (i := 1121) (by decide +kernel)⟩
theorem lw_p35 : lw_okq (⟨"DroppingBallsModel", "behind", "(II)I"⟩, 76) := ⟨⟨by decide +kernel, by decide +kernel⟩, List.mem_of_getElem? (i := 857) (by decide +kernel), List.mem_of_getElem? (i := 1127) (by decide +kernel), List.mem_of_getElem? (i := 1128) (by decide +kernel)⟩
theorem lw_p36 : lw_okq (⟨"DroppingBallsModel", "keep", "(I)V"⟩, 76) := ⟨⟨by decide +kernel, by decide +kernel⟩, List.mem_of_getElem? (i := 857) (by decide +kernel), List.mem_of_getElem? (i := 1131) (by decide +kernel), List.mem_of_getElem? (i := 1132) (by decide +kernel)⟩
theorem lw_p37 : lw_okq (⟨"DroppingBallsModel", "isClock", "(I)Z"⟩, 76) := ⟨⟨by decide +kernel, by decide +kernel⟩, List.mem_of_getElem? (i := 857) (by decide +kernel), List.mem_of_getElem? (i := 1143) (by decide +kernel), List.mem_of_getElem? (i := 1144) (by decide +kernel)⟩
theorem lw_p38 : lw_okq (⟨"DroppingBallsModel", "toldOf", "(II)I"⟩, 76) := ⟨⟨by decide +kernel, by decide +kernel⟩, List.mem_of_getElem? (i := 857) (by decide +kernel), List.mem_of_getElem? (i := 1147) (by decide +kernel), List.mem_of_getElem? (i := 1148) (by decide +kernel)⟩
theorem lw_p39 : lw_okq (⟨"DroppingBallsModel", "isBall", "(II)Z"⟩, 76) := ⟨⟨by decide +kernel, by decide +kernel⟩, List.mem_of_getElem? (i := 857) (by decide +kernel), List.mem_of_getElem? (i := 1151) (by decide +kernel), List.mem_of_getElem? (i := 1152) (by decide +kernel)⟩
theorem lw_p40 : lw_okq (⟨"DroppingBallsModel", "isFault", "(I)Z"⟩, 76) := ⟨⟨by decide +kernel, by decide +kernel⟩, List.mem_of_getElem? (i := 857) (by decide +kernel), List.mem_of_getElem? (i := 1170) (by decide +kernel), List.mem_of_getElem? (i := 1171) (by decide +kernel)⟩
theorem lw_p41 : lw_okq (⟨"DroppingBallsModel", "isWork", "(I)Z"⟩, 76) := ⟨⟨by decide +kernel, by decide +kernel⟩, List.mem_of_getElem? (i := 857) (by decide +kernel), List.mem_of_getElem? (i := 1181) (by decide +kernel), List.mem_of_getElem? (i := 1182) (by decide +kernel)⟩
theorem lw_p42 : lw_okq (⟨"DroppingBallsModel", "isRun", "(III)Z"⟩, 76) := ⟨⟨by decide +kernel, by decide +kernel⟩, List.mem_of_getElem? (i := 857) (by decide +kernel), List.mem_of_getElem? (i := 1197) (by decide +kernel), List.mem_of_getElem? (i := 1198) (by decide +kernel)⟩
theorem lw_p43 : lw_okq (⟨"DroppingBallsModel", "runAll", "(III)V"⟩, 76) := ⟨⟨by decide +kernel, by decide +kernel⟩, List.mem_of_getElem? (i := 857) (by decide +kernel), List.mem_of_getElem? (i := 1201) (by decide +kernel), List.mem_of_getElem? (i := 1202) (by decide +kernel)⟩
theorem lw_p44 : lw_okq (⟨"DroppingBallsModel", "load", "(II)V"⟩, 76) := ⟨⟨by decide +kernel, by decide +kernel⟩, List.mem_of_getElem? (i := 857) (by decide +kernel), List.mem_of_getElem? (i := 1205) (by decide +kernel), List.mem_of_getElem? (i := 1206) (by decide +kernel)⟩
theorem lw_p45 : lw_okq (⟨"DroppingBallsModel", "run", "(III)V"⟩, 76) := ⟨⟨by decide +kernel, by decide +kernel⟩, List.mem_of_getElem? (i := 857) (by decide +kernel), List.mem_of_getElem? (i := 1209) (by decide +kernel), List.mem_of_getElem? (i := 1210) (by decide +kernel)⟩
theorem lw_p46 : lw_okq (⟨"DroppingBallsModel", "tick", "(III)V"⟩, 76) := ⟨⟨by decide +kernel, by decide +kernel⟩, List.mem_of_getElem? (i := 857) (by decide +kernel), List.mem_of_getElem? (i := 1213) (by decide +kernel), List.mem_of_getElem? (i := 1214) (by decide +kernel)⟩
theorem lw_p47 : lw_okq (⟨"DroppingBallsModel", "come", "(III)V"⟩, 76) := ⟨⟨by decide +kernel, by decide +kernel⟩, List.mem_of_getElem? (i := 857) (by decide +kernel), List.mem_of_getElem? (i := 1217) (by decide +kernel), List.mem_of_getElem? (i := 1218) (by decide +kernel)⟩
def lw_privs_3 : List (MethodName × Nat) := [(⟨"DroppingBallsModel", "readPage", "()V"⟩, 76), (⟨"DroppingBallsModel", "fits", "(II)Z"⟩, 76), (⟨"DroppingBallsModel", "markAhead", "()I"⟩, 76), (⟨"DroppingBallsModel", "behind", "(II)I"⟩, 76), (⟨"DroppingBallsModel", "keep", "(I)V"⟩, 76), (⟨"DroppingBallsModel", "isClock", "(I)Z"⟩, 76), (⟨"DroppingBallsModel", "toldOf", "(II)I"⟩, 76), (⟨"DroppingBallsModel", "isBall", "(II)Z"⟩, 76), (⟨"DroppingBallsModel", "isFault", "(I)Z"⟩, 76), (⟨"DroppingBallsModel", "isWork", "(I)Z"⟩, 76), (⟨"DroppingBallsModel", "isRun", "(III)Z"⟩, 76), (⟨"DroppingBallsModel", "runAll", "(III)V"⟩, 76), (⟨"DroppingBallsModel", "load", "(II)V"⟩, 76), (⟨"DroppingBallsModel", "run", "(III)V"⟩, 76), (⟨"DroppingBallsModel", "tick", "(III)V"⟩, 76), (⟨"DroppingBallsModel", "come", "(III)V"⟩, 76)]
theorem lw_r3 : ∀ q ∈ lw_privs_3, lw_okq q := List.forall_mem_cons.mpr ⟨lw_p32, List.forall_mem_cons.mpr ⟨lw_p33, List.forall_mem_cons.mpr ⟨lw_p34, List.forall_mem_cons.mpr ⟨lw_p35, List.forall_mem_cons.mpr ⟨lw_p36, List.forall_mem_cons.mpr ⟨lw_p37, List.forall_mem_cons.mpr ⟨lw_p38, List.forall_mem_cons.mpr ⟨lw_p39, List.forall_mem_cons.mpr ⟨lw_p40, List.forall_mem_cons.mpr ⟨lw_p41, List.forall_mem_cons.mpr ⟨lw_p42, List.forall_mem_cons.mpr ⟨lw_p43, List.forall_mem_cons.mpr ⟨lw_p44, List.forall_mem_cons.mpr ⟨lw_p45, List.forall_mem_cons.mpr ⟨lw_p46, List.forall_mem_cons.mpr ⟨lw_p47, fun _ h => absurd h List.not_mem_nil⟩⟩⟩⟩⟩⟩⟩⟩⟩⟩⟩⟩⟩⟩⟩⟩
theorem lw_p48 : lw_okq (⟨"DroppingBallsModel", "hole", "(II)I"⟩, 76) := ⟨⟨by decide +kernel, by decide +kernel⟩, List.mem_of_getElem? (i := 857) (by decide +kernel), List.mem_of_getElem? (i := 1224) (by decide +kernel), List.mem_of_getElem? (i := 1225) (by decide +kernel)⟩
theorem lw_p49 : lw_okq (⟨"DroppingBallsModel", "errorOf", "(III)I"⟩, 76) := ⟨⟨by decide +kernel, by decide +kernel⟩, List.mem_of_getElem? (i := 857) (by decide +kernel), List.mem_of_getElem? (i := 1235) (by decide +kernel), List.mem_of_getElem? (i := 1236) (by decide +kernel)⟩
theorem lw_p50 : lw_okq (⟨"DroppingBallsModel", "errors", "(II)I"⟩, 76) := ⟨⟨by decide +kernel, by decide +kernel⟩, List.mem_of_getElem? (i := 857) (by decide +kernel), List.mem_of_getElem? (i := 1251) (by decide +kernel), List.mem_of_getElem? (i := 1252) (by decide +kernel)⟩
theorem lw_p51 : lw_okq (⟨"DroppingBallsModel", "show", "(I)V"⟩, 76) := ⟨⟨by decide +kernel, by decide +kernel⟩, List.mem_of_getElem? (i := 857) (by decide +kernel), List.mem_of_getElem? (i := 1262) (by decide +kernel), List.mem_of_getElem? (i := 1263) (by decide +kernel)⟩
theorem lw_p52 : lw_okq (⟨"DroppingBallsModel", "strike", "(II)V"⟩, 76) := ⟨⟨by decide +kernel, by decide +kernel⟩, List.mem_of_getElem? (i := 857) (by decide +kernel), List.mem_of_getElem? (i := 1266) (by decide +kernel), List.mem_of_getElem? (i := 1267) (by decide +kernel)⟩
theorem lw_p53 : lw_okq (⟨"DroppingBallsModel", "struck", "(II)I"⟩, 76) := ⟨⟨by decide +kernel, by decide +kernel⟩, List.mem_of_getElem? (i := 857) (by decide +kernel), List.mem_of_getElem? (i := 1270) (by decide +kernel), List.mem_of_getElem? (i := 1271) (by decide +kernel)⟩
theorem lw_p54 : lw_okq (⟨"DroppingBallsModel", "shown", "(I)I"⟩, 76) := ⟨⟨by decide +kernel, by decide +kernel⟩, List.mem_of_getElem? (i := 857) (by decide +kernel), List.mem_of_getElem? (i := 1274) (by decide +kernel), List.mem_of_getElem? (i := 1275) (by decide +kernel)⟩
theorem lw_p55 : lw_okq (⟨"DroppingBallsModel", "layWorst", "(I)V"⟩, 76) := ⟨⟨by decide +kernel, by decide +kernel⟩, List.mem_of_getElem? (i := 857) (by decide +kernel), List.mem_of_getElem? (i := 1282) (by decide +kernel), List.mem_of_getElem? (i := 1283) (by decide +kernel)⟩
theorem lw_p56 : lw_okq (⟨"DroppingBallsModel", "agreesNow", "(I)Z"⟩, 76) := ⟨⟨by decide +kernel, by decide +kernel⟩, List.mem_of_getElem? (i := 857) (by decide +kernel), List.mem_of_getElem? (i := 1306) (by decide +kernel), List.mem_of_getElem? (i := 1307) (by decide +kernel)⟩
theorem lw_p57 : lw_okq (⟨"DroppingBallsModel", "isRecord", "(II)Z"⟩, 76) := ⟨⟨by decide +kernel, by decide +kernel⟩, List.mem_of_getElem? (i := 857) (by decide +kernel), List.mem_of_getElem? (i := 1326) (by decide +kernel), List.mem_of_getElem? (i := 1327) (by decide +kernel)⟩
theorem lw_p58 : lw_okq (⟨"DroppingBallsModel", "spanFrom", "(I)I"⟩, 76) := ⟨⟨by decide +kernel, by decide +kernel⟩, List.mem_of_getElem? (i := 857) (by decide +kernel), List.mem_of_getElem? (i := 1330) (by decide +kernel), List.mem_of_getElem? (i := 1331) (by decide +kernel)⟩
theorem lw_p59 : lw_okq (⟨"DroppingBallsModel", "spanTo", "(II)I"⟩, 76) := ⟨⟨by decide +kernel, by decide +kernel⟩, List.mem_of_getElem? (i := 857) (by decide +kernel), List.mem_of_getElem? (i := 1334) (by decide +kernel), List.mem_of_getElem? (i := 1335) (by decide +kernel)⟩
theorem lw_p60 : lw_okq (⟨"DroppingBallsModel", "holds", "(IIIII)Z"⟩, 76) := ⟨⟨by decide +kernel, by decide +kernel⟩, List.mem_of_getElem? (i := 857) (by decide +kernel), List.mem_of_getElem? (i := 1342) (by decide +kernel), List.mem_of_getElem? (i := 1343) (by decide +kernel)⟩
theorem lw_p61 : lw_okq (⟨"DroppingBallsModel", "logMany", "()I"⟩, 76) := ⟨⟨by decide +kernel, by decide +kernel⟩, List.mem_of_getElem? (i := 857) (by decide +kernel), List.mem_of_getElem? (i := 1350) (by decide +kernel), List.mem_of_getElem? (i := 1351) (by decide +kernel)⟩
theorem lw_p62 : lw_okq (⟨"DroppingBallsModel", "howMany", "(I)I"⟩, 76) := ⟨⟨by decide +kernel, by decide +kernel⟩, List.mem_of_getElem? (i := 857) (by decide +kernel), List.mem_of_getElem? (i := 1362) (by decide +kernel), List.mem_of_getElem? (i := 1363) (by decide +kernel)⟩
theorem lw_p63 : lw_okq (⟨"DroppingBallsModel", "mix", "(J)V"⟩, 76) := ⟨⟨by decide +kernel, by decide +kernel⟩, List.mem_of_getElem? (i := 857) (by decide +kernel), List.mem_of_getElem? (i := 1371) (by decide +kernel), List.mem_of_getElem? (i := 1372) (by decide +kernel)⟩
def lw_privs_4 : List (MethodName × Nat) := [(⟨"DroppingBallsModel", "hole", "(II)I"⟩, 76), (⟨"DroppingBallsModel", "errorOf", "(III)I"⟩, 76), (⟨"DroppingBallsModel", "errors", "(II)I"⟩, 76), (⟨"DroppingBallsModel", "show", "(I)V"⟩, 76), (⟨"DroppingBallsModel", "strike", "(II)V"⟩, 76), (⟨"DroppingBallsModel", "struck", "(II)I"⟩, 76), (⟨"DroppingBallsModel", "shown", "(I)I"⟩, 76), (⟨"DroppingBallsModel", "layWorst", "(I)V"⟩, 76), (⟨"DroppingBallsModel", "agreesNow", "(I)Z"⟩, 76), (⟨"DroppingBallsModel", "isRecord", "(II)Z"⟩, 76), (⟨"DroppingBallsModel", "spanFrom", "(I)I"⟩, 76), (⟨"DroppingBallsModel", "spanTo", "(II)I"⟩, 76), (⟨"DroppingBallsModel", "holds", "(IIIII)Z"⟩, 76), (⟨"DroppingBallsModel", "logMany", "()I"⟩, 76), (⟨"DroppingBallsModel", "howMany", "(I)I"⟩, 76), (⟨"DroppingBallsModel", "mix", "(J)V"⟩, 76)]
theorem lw_r4 : ∀ q ∈ lw_privs_4, lw_okq q := List.forall_mem_cons.mpr ⟨lw_p48, List.forall_mem_cons.mpr ⟨lw_p49, List.forall_mem_cons.mpr ⟨lw_p50, List.forall_mem_cons.mpr ⟨lw_p51, List.forall_mem_cons.mpr ⟨lw_p52, List.forall_mem_cons.mpr ⟨lw_p53, List.forall_mem_cons.mpr ⟨lw_p54, List.forall_mem_cons.mpr ⟨lw_p55, List.forall_mem_cons.mpr ⟨lw_p56, List.forall_mem_cons.mpr ⟨lw_p57, List.forall_mem_cons.mpr ⟨lw_p58, List.forall_mem_cons.mpr ⟨lw_p59, List.forall_mem_cons.mpr ⟨lw_p60, List.forall_mem_cons.mpr ⟨lw_p61, List.forall_mem_cons.mpr ⟨lw_p62, List.forall_mem_cons.mpr ⟨lw_p63, fun _ h => absurd h List.not_mem_nil⟩⟩⟩⟩⟩⟩⟩⟩⟩⟩⟩⟩⟩⟩⟩⟩
theorem lw_p64 : lw_okq (⟨"DroppingBallsModel", "mixClock", "(I)V"⟩, 76) := ⟨⟨by decide +kernel, by decide +kernel⟩, List.mem_of_getElem? (i := 857) (by decide +kernel), List.mem_of_getElem? (i := 1376) (by decide +kernel), List.mem_of_getElem? (i := 1377) (by decide +kernel)⟩
def lw_privs_5 : List (MethodName × Nat) := [(⟨"DroppingBallsModel", "mixClock", "(I)V"⟩, 76)]
theorem lw_r5 : ∀ q ∈ lw_privs_5, lw_okq q := List.forall_mem_cons.mpr ⟨lw_p64, fun _ h => absurd h List.not_mem_nil⟩
def lw_privs : List (MethodName × Nat) := lw_privs_1 ++ (lw_privs_2 ++ (lw_privs_3 ++ (lw_privs_4 ++ (lw_privs_5))))
def lw_tbl : List Cond := k2_sels lw_privs ++ tables_1
theorem lw_privs_ok : ∀ q ∈ lw_privs, lw_okq q := by
  show ∀ q ∈ lw_privs_1 ++ (lw_privs_2 ++ (lw_privs_3 ++ (lw_privs_4 ++ (lw_privs_5)))), lw_okq q
  exact List.forall_mem_append.mpr ⟨lw_r1, List.forall_mem_append.mpr ⟨lw_r2, List.forall_mem_append.mpr ⟨lw_r3, List.forall_mem_append.mpr ⟨lw_r4, lw_r5⟩⟩⟩⟩
-- ===== end of PART A; then your names; then what follows =====
/-! ===== BEGIN printed: names, fields, word lists, decode rows ===== -/
def RX0 : String := "DroppingBalls$Clock"
def TX0 : u_T := fun k => match k with
  | 0 => ("DroppingBalls$Clock", "vesselCount", "I", false)
  | 1 => ("DroppingBalls$Clock", "area", "[I", true)
  | 2 => ("DroppingBalls$Clock", "height", "[I", true)
  | 3 => ("DroppingBalls$Clock", "hole", "[I", true)
  | 4 => ("DroppingBalls$Clock", "full", "[I", true)
  | 5 => ("DroppingBalls$Clock", "cylinderArea", "I", false)
  | 6 => ("DroppingBalls$Clock", "cylinderHeight", "I", false)
  | 7 => ("DroppingBalls$Clock", "supply", "I", false)
  | 8 => ("DroppingBalls$Clock", "ballCount", "I", false)
  | _ => ("DroppingBalls$Clock", "marks", "[I", true)
def tyX0 : Nat → FieldType := fun k => match k with
  | 0 => .int
  | 1 => .array .int
  | 2 => .array .int
  | 3 => .array .int
  | 4 => .array .int
  | 5 => .int
  | 6 => .int
  | 7 => .int
  | 8 => .int
  | _ => .array .int
abbrev wsX00 : List Cond := u_ws RX0 TX0 10
theorem nmX0 : ∀ a, a < 10 → ∀ b, b < 10 → a ≠ b → (TX0 a).2.1 ≠ (TX0 b).2.1 := by decide +kernel
theorem tyX0_ok : ∀ k, k < 10 → parseFieldDescriptor (TX0 k).2.2.1 = some (tyX0 k) := by decide +kernel
abbrev cX0_init : ByteArray := prog_2_method_1_code
def yX0_init : MethodName := ⟨RX0, "<init>", "()V"⟩
abbrev cX0_copyFrom : ByteArray := prog_2_method_2_code
def yX0_copyFrom : MethodName := ⟨RX0, "copyFrom", "(LDroppingBalls$Clock;)V"⟩
abbrev cX0_hasVessel : ByteArray := prog_2_method_3_code
def yX0_hasVessel : MethodName := ⟨RX0, "hasVessel", "(I)Z"⟩
abbrev cX0_hasBall : ByteArray := prog_2_method_4_code
def yX0_hasBall : MethodName := ⟨RX0, "hasBall", "(I)Z"⟩
abbrev cX0_addVessel : ByteArray := prog_2_method_5_code
def yX0_addVessel : MethodName := ⟨RX0, "addVessel", "(III)V"⟩
abbrev cX0_addMark : ByteArray := prog_2_method_6_code
def yX0_addMark : MethodName := ⟨RX0, "addMark", "(I)V"⟩
abbrev cX0_widen : ByteArray := prog_2_method_7_code
def yX0_widen : MethodName := ⟨RX0, "widen", "(I)V"⟩
abbrev cX0_guess : ByteArray := prog_2_method_8_code
def yX0_guess : MethodName := ⟨RX0, "guess", "(III)V"⟩
abbrev cX0_measure : ByteArray := prog_2_method_9_code
def yX0_measure : MethodName := ⟨RX0, "measure", "(I)I"⟩
abbrev cX0_vesselMeasure : ByteArray := prog_2_method_10_code
def yX0_vesselMeasure : MethodName := ⟨RX0, "vesselMeasure", "(II)I"⟩
abbrev cX0_markOf : ByteArray := prog_2_method_11_code
def yX0_markOf : MethodName := ⟨RX0, "markOf", "(I)I"⟩
abbrev cX0_trueTick : ByteArray := prog_2_method_12_code
def yX0_trueTick : MethodName := ⟨RX0, "trueTick", "(II)I"⟩
def RX1 : String := "DroppingBalls$Evidence"
def TX1 : u_T := fun k => match k with
  | 0 => ("DroppingBalls$Evidence", "least", "[I", true)
  | 1 => ("DroppingBalls$Evidence", "most", "[I", true)
  | 2 => ("DroppingBalls$Evidence", "lastTick", "I", false)
  | _ => ("DroppingBalls$Evidence", "isImpossible", "Z", false)
def tyX1 : Nat → FieldType := fun k => match k with
  | 0 => .array .int
  | 1 => .array .int
  | 2 => .int
  | _ => .boolean
abbrev wsX10 : List Cond := u_ws RX1 TX1 4
theorem nmX1 : ∀ a, a < 4 → ∀ b, b < 4 → a ≠ b → (TX1 a).2.1 ≠ (TX1 b).2.1 := by decide +kernel
theorem tyX1_ok : ∀ k, k < 4 → parseFieldDescriptor (TX1 k).2.2.1 = some (tyX1 k) := by decide +kernel
abbrev cX1_init : ByteArray := prog_3_method_1_code
def yX1_init : MethodName := ⟨RX1, "<init>", "()V"⟩
abbrev cX1_gather : ByteArray := prog_3_method_2_code
def yX1_gather : MethodName := ⟨RX1, "gather", "([II)V"⟩
abbrev cX1_ask : ByteArray := prog_3_method_3_code
def yX1_ask : MethodName := ⟨RX1, "ask", "(II)V"⟩
abbrev cX1_allows : ByteArray := prog_3_method_4_code
def yX1_allows : MethodName := ⟨RX1, "allows", "(II)Z"⟩
def RX2 : String := "DroppingBalls$Fault"
def TX2 : u_T := fun k => match k with
  | 0 => ("DroppingBalls$Fault", "kind", "I", false)
  | 1 => ("DroppingBalls$Fault", "vessel", "I", false)
  | 2 => ("DroppingBalls$Fault", "n", "I", false)
  | _ => ("DroppingBalls$Fault", "from", "I", false)
def tyX2 : Nat → FieldType := fun k => match k with
  | 0 => .int
  | 1 => .int
  | 2 => .int
  | _ => .int
abbrev wsX20 : List Cond := u_ws RX2 TX2 4
theorem nmX2 : ∀ a, a < 4 → ∀ b, b < 4 → a ≠ b → (TX2 a).2.1 ≠ (TX2 b).2.1 := by decide +kernel
theorem tyX2_ok : ∀ k, k < 4 → parseFieldDescriptor (TX2 k).2.2.1 = some (tyX2 k) := by decide +kernel
abbrev cX2_init : ByteArray := prog_4_method_1_code
def yX2_init : MethodName := ⟨RX2, "<init>", "()V"⟩
abbrev cX2_become : ByteArray := prog_4_method_2_code
def yX2_become : MethodName := ⟨RX2, "become", "(IIII)V"⟩
abbrev cX2_holeOf : ByteArray := prog_4_method_3_code
def yX2_holeOf : MethodName := ⟨RX2, "holeOf", "(III)I"⟩
abbrev cX2_warmthOf : ByteArray := prog_4_method_4_code
def yX2_warmthOf : MethodName := ⟨RX2, "warmthOf", "(II)I"⟩
abbrev cX2_leakAt : ByteArray := prog_4_method_5_code
def yX2_leakAt : MethodName := ⟨RX2, "leakAt", "(I)I"⟩
def RX3 : String := "DroppingBalls$Page"
def TX3 : u_T := fun k => match k with
  | 0 => ("DroppingBalls$Page", "letters", "[C", true)
  | 1 => ("DroppingBalls$Page", "length", "I", false)
  | _ => ("DroppingBalls$Page", "place", "I", false)
def tyX3 : Nat → FieldType := fun k => match k with
  | 0 => .array .char
  | 1 => .int
  | _ => .int
abbrev wsX30 : List Cond := u_ws RX3 TX3 3
theorem nmX3 : ∀ a, a < 3 → ∀ b, b < 3 → a ≠ b → (TX3 a).2.1 ≠ (TX3 b).2.1 := by decide +kernel
theorem tyX3_ok : ∀ k, k < 3 → parseFieldDescriptor (TX3 k).2.2.1 = some (tyX3 k) := by decide +kernel
abbrev cX3_init : ByteArray := prog_5_method_1_code
def yX3_init : MethodName := ⟨RX3, "<init>", "()V"⟩
abbrev cX3_add : ByteArray := prog_5_method_2_code
def yX3_add : MethodName := ⟨RX3, "add", "(C)V"⟩
abbrev cX3_codeAt : ByteArray := prog_5_method_3_code
def yX3_codeAt : MethodName := ⟨RX3, "codeAt", "(I)I"⟩
abbrev cX3_readClock : ByteArray := prog_5_method_4_code
def yX3_readClock : MethodName := ⟨RX3, "readClock", "(LDroppingBalls$Clock;)Z"⟩
abbrev cX3_readVessels : ByteArray := prog_5_method_5_code
def yX3_readVessels : MethodName := ⟨RX3, "readVessels", "(LDroppingBalls$Clock;)Z"⟩
abbrev cX3_readVessel : ByteArray := prog_5_method_6_code
def yX3_readVessel : MethodName := ⟨RX3, "readVessel", "(LDroppingBalls$Clock;)Z"⟩
abbrev cX3_readCylinder : ByteArray := prog_5_method_7_code
def yX3_readCylinder : MethodName := ⟨RX3, "readCylinder", "(LDroppingBalls$Clock;)Z"⟩
abbrev cX3_readSupply : ByteArray := prog_5_method_8_code
def yX3_readSupply : MethodName := ⟨RX3, "readSupply", "(LDroppingBalls$Clock;)Z"⟩
abbrev cX3_readMarks : ByteArray := prog_5_method_9_code
def yX3_readMarks : MethodName := ⟨RX3, "readMarks", "(LDroppingBalls$Clock;)Z"⟩
abbrev cX3_readSign : ByteArray := prog_5_method_10_code
def yX3_readSign : MethodName := ⟨RX3, "readSign", "(C)Z"⟩
abbrev cX3_readNumber : ByteArray := prog_5_method_11_code
def yX3_readNumber : MethodName := ⟨RX3, "readNumber", "(II)I"⟩
abbrev cX3_canStart : ByteArray := prog_5_method_12_code
def yX3_canStart : MethodName := ⟨RX3, "canStart", "(III)Z"⟩
abbrev cX3_figureHere : ByteArray := prog_5_method_13_code
def yX3_figureHere : MethodName := ⟨RX3, "figureHere", "()I"⟩
def RX4 : String := "DroppingBalls$Play"
def TX4 : u_T := fun k => match k with
  | 0 => ("DroppingBalls$Play", "timesStruck", "[I", true)
  | 1 => ("DroppingBalls$Play", "stuck", "[Z", true)
  | 2 => ("DroppingBalls$Play", "doorFreeFrom", "[I", true)
  | 3 => ("DroppingBalls$Play", "cranks", "[LDroppingBalls$Work;", true)
  | 4 => ("DroppingBalls$Play", "crankTicks", "[I", true)
  | 5 => ("DroppingBalls$Play", "crankCount", "I", false)
  | 6 => ("DroppingBalls$Play", "cameOut", "[I", true)
  | 7 => ("DroppingBalls$Play", "outCount", "I", false)
  | 8 => ("DroppingBalls$Play", "ballsStruck", "I", false)
  | 9 => ("DroppingBalls$Play", "strokes", "I", false)
  | 10 => ("DroppingBalls$Play", "firstStuck", "I", false)
  | _ => ("DroppingBalls$Play", "stuckTick", "I", false)
def tyX4 : Nat → FieldType := fun k => match k with
  | 0 => .array .int
  | 1 => .array .boolean
  | 2 => .array .int
  | 3 => .array (.object "DroppingBalls$Work")
  | 4 => .array .int
  | 5 => .int
  | 6 => .array .int
  | 7 => .int
  | 8 => .int
  | 9 => .int
  | 10 => .int
  | _ => .int
abbrev wsX40 : List Cond := u_ws RX4 TX4 12
theorem nmX4 : ∀ a, a < 12 → ∀ b, b < 12 → a ≠ b → (TX4 a).2.1 ≠ (TX4 b).2.1 := by decide +kernel
theorem tyX4_ok : ∀ k, k < 12 → parseFieldDescriptor (TX4 k).2.2.1 = some (tyX4 k) := by decide +kernel
abbrev cX4_init : ByteArray := prog_6_method_1_code
def yX4_init : MethodName := ⟨RX4, "<init>", "()V"⟩
abbrev cX4_start : ByteArray := prog_6_method_2_code
def yX4_start : MethodName := ⟨RX4, "start", "()V"⟩
abbrev cX4_goThrough : ByteArray := prog_6_method_3_code
def yX4_goThrough : MethodName := ⟨RX4, "goThrough", "(IILDroppingBalls$Work;)V"⟩
abbrev cX4_strike : ByteArray := prog_6_method_4_code
def yX4_strike : MethodName := ⟨RX4, "strike", "(LDroppingBalls$Work;I)V"⟩
abbrev cX4_strikesOn : ByteArray := prog_6_method_5_code
def yX4_strikesOn : MethodName := ⟨RX4, "strikesOn", "(LDroppingBalls$Work;I)Z"⟩
abbrev cX4_comesOut : ByteArray := prog_6_method_6_code
def yX4_comesOut : MethodName := ⟨RX4, "comesOut", "(LDroppingBalls$Work;I)Z"⟩
abbrev cX4_turn : ByteArray := prog_6_method_7_code
def yX4_turn : MethodName := ⟨RX4, "turn", "(LDroppingBalls$Work;I)V"⟩
abbrev cX4_isCountedOut : ByteArray := prog_6_method_8_code
def yX4_isCountedOut : MethodName := ⟨RX4, "isCountedOut", "(LDroppingBalls$Work;)Z"⟩
abbrev cX4_measure : ByteArray := prog_6_method_9_code
def yX4_measure : MethodName := ⟨RX4, "measure", "(I)I"⟩
abbrev cX4_figureOf : ByteArray := prog_6_method_10_code
def yX4_figureOf : MethodName := ⟨RX4, "figureOf", "(I)I"⟩
def RX5 : String := "DroppingBalls$Run"
def TX5 : u_T := fun k => match k with
  | 0 => ("DroppingBalls$Run", "clock", "LDroppingBalls$Clock;", false)
  | 1 => ("DroppingBalls$Run", "fault", "LDroppingBalls$Fault;", false)
  | 2 => ("DroppingBalls$Run", "warmth", "I", false)
  | 3 => ("DroppingBalls$Run", "tick", "I", false)
  | 4 => ("DroppingBalls$Run", "water", "[I", true)
  | 5 => ("DroppingBalls$Run", "cylinder", "I", false)
  | 6 => ("DroppingBalls$Run", "poured", "I", false)
  | 7 => ("DroppingBalls$Run", "ranOver", "I", false)
  | 8 => ("DroppingBalls$Run", "leaked", "I", false)
  | 9 => ("DroppingBalls$Run", "emptied", "I", false)
  | 10 => ("DroppingBalls$Run", "dropped", "I", false)
  | 11 => ("DroppingBalls$Run", "dropTicks", "[I", true)
  | 12 => ("DroppingBalls$Run", "leastIn", "I", false)
  | _ => ("DroppingBalls$Run", "mostIn", "I", false)
def tyX5 : Nat → FieldType := fun k => match k with
  | 0 => .object "DroppingBalls$Clock"
  | 1 => .object "DroppingBalls$Fault"
  | 2 => .int
  | 3 => .int
  | 4 => .array .int
  | 5 => .int
  | 6 => .int
  | 7 => .int
  | 8 => .int
  | 9 => .int
  | 10 => .int
  | 11 => .array .int
  | 12 => .int
  | _ => .int
abbrev wsX50 : List Cond := u_ws RX5 TX5 14
theorem nmX5 : ∀ a, a < 14 → ∀ b, b < 14 → a ≠ b → (TX5 a).2.1 ≠ (TX5 b).2.1 := by decide +kernel
theorem tyX5_ok : ∀ k, k < 14 → parseFieldDescriptor (TX5 k).2.2.1 = some (tyX5 k) := by decide +kernel
abbrev cX5_init : ByteArray := prog_7_method_1_code
def yX5_init : MethodName := ⟨RX5, "<init>", "(LDroppingBalls$Clock;LDroppingBalls$Fault;)V"⟩
abbrev cX5_start : ByteArray := prog_7_method_2_code
def yX5_start : MethodName := ⟨RX5, "start", "(LDroppingBalls$Clock;ILDroppingBalls$Fault;)V"⟩
abbrev cX5_branchFrom : ByteArray := prog_7_method_3_code
def yX5_branchFrom : MethodName := ⟨RX5, "branchFrom", "(LDroppingBalls$Run;LDroppingBalls$Fault;)V"⟩
abbrev cX5_goOnTo : ByteArray := prog_7_method_4_code
def yX5_goOnTo : MethodName := ⟨RX5, "goOnTo", "(I)V"⟩
abbrev cX5_advance : ByteArray := prog_7_method_5_code
def yX5_advance : MethodName := ⟨RX5, "advance", "()V"⟩
abbrev cX5_drip : ByteArray := prog_7_method_6_code
def yX5_drip : MethodName := ⟨RX5, "drip", "()V"⟩
abbrev cX5_leak : ByteArray := prog_7_method_7_code
def yX5_leak : MethodName := ⟨RX5, "leak", "()V"⟩
abbrev cX5_dropBalls : ByteArray := prog_7_method_8_code
def yX5_dropBalls : MethodName := ⟨RX5, "dropBalls", "()V"⟩
abbrev cX5_siphon : ByteArray := prog_7_method_9_code
def yX5_siphon : MethodName := ⟨RX5, "siphon", "()V"⟩
abbrev cX5_levelWithoutSiphon : ByteArray := prog_7_method_10_code
def yX5_levelWithoutSiphon : MethodName := ⟨RX5, "levelWithoutSiphon", "()I"⟩
abbrev cX5_tickOf : ByteArray := prog_7_method_11_code
def yX5_tickOf : MethodName := ⟨RX5, "tickOf", "(I)I"⟩
abbrev cX5_errorOf : ByteArray := prog_7_method_12_code
def yX5_errorOf : MethodName := ⟨RX5, "errorOf", "(II)I"⟩
abbrev cX5_errorSize : ByteArray := prog_7_method_13_code
def yX5_errorSize : MethodName := ⟨RX5, "errorSize", "(II)I"⟩
abbrev cX5_hasErrorAbove : ByteArray := prog_7_method_14_code
def yX5_hasErrorAbove : MethodName := ⟨RX5, "hasErrorAbove", "(II)Z"⟩
abbrev cX5_spanFirst : ByteArray := prog_7_method_15_code
def yX5_spanFirst : MethodName := ⟨RX5, "spanFirst", "(I)I"⟩
abbrev cX5_spanLast : ByteArray := prog_7_method_16_code
def yX5_spanLast : MethodName := ⟨RX5, "spanLast", "(I)I"⟩
abbrev cX5_hasSpan : ByteArray := prog_7_method_17_code
def yX5_hasSpan : MethodName := ⟨RX5, "hasSpan", "(I)Z"⟩
abbrev cX5_measure : ByteArray := prog_7_method_18_code
def yX5_measure : MethodName := ⟨RX5, "measure", "(I)I"⟩
def RX6 : String := "DroppingBalls$Setting"
def TX6 : u_T := fun k => match k with
  | 0 => ("DroppingBalls$Setting", "warmth", "[I", true)
  | 1 => ("DroppingBalls$Setting", "daylight", "[I", true)
  | 2 => ("DroppingBalls$Setting", "log", "[I", true)
  | _ => ("DroppingBalls$Setting", "head", "I", false)
def tyX6 : Nat → FieldType := fun k => match k with
  | 0 => .array .int
  | 1 => .array .int
  | 2 => .array .int
  | _ => .int
abbrev wsX60 : List Cond := u_ws RX6 TX6 4
theorem nmX6 : ∀ a, a < 4 → ∀ b, b < 4 → a ≠ b → (TX6 a).2.1 ≠ (TX6 b).2.1 := by decide +kernel
theorem tyX6_ok : ∀ k, k < 4 → parseFieldDescriptor (TX6 k).2.2.1 = some (tyX6 k) := by decide +kernel
abbrev cX6_init : ByteArray := prog_8_method_1_code
def yX6_init : MethodName := ⟨RX6, "<init>", "()V"⟩
abbrev cX6_copyFrom : ByteArray := prog_8_method_2_code
def yX6_copyFrom : MethodName := ⟨RX6, "copyFrom", "(LDroppingBalls$Setting;)V"⟩
abbrev cX6_ballsTold : ByteArray := prog_8_method_3_code
def yX6_ballsTold : MethodName := ⟨RX6, "ballsTold", "()I"⟩
def RX7 : String := "DroppingBalls$Work"
def TX7 : u_T := fun k => match k with
  | 0 => ("DroppingBalls$Work", "number", "I", true)
  | 1 => ("DroppingBalls$Work", "kind", "I", true)
  | 2 => ("DroppingBalls$Work", "n", "I", true)
  | _ => ("DroppingBalls$Work", "next", "LDroppingBalls$Work;", true)
def tyX7 : Nat → FieldType := fun k => match k with
  | 0 => .int
  | 1 => .int
  | 2 => .int
  | _ => .object "DroppingBalls$Work"
abbrev wsX70 : List Cond := u_ws RX7 TX7 4
theorem nmX7 : ∀ a, a < 4 → ∀ b, b < 4 → a ≠ b → (TX7 a).2.1 ≠ (TX7 b).2.1 := by decide +kernel
theorem tyX7_ok : ∀ k, k < 4 → parseFieldDescriptor (TX7 k).2.2.1 = some (tyX7 k) := by decide +kernel
abbrev cX7_init : ByteArray := prog_9_method_1_code
def yX7_init : MethodName := ⟨RX7, "<init>", "(IIILDroppingBalls$Work;)V"⟩
def RX8 : String := "DroppingBalls"
def TX8 : u_T := fun k => match k with
  | 0 => ("DroppingBalls", "clocks", "[LDroppingBalls$Clock;", true)
  | 1 => ("DroppingBalls", "faults", "[LDroppingBalls$Fault;", true)
  | 2 => ("DroppingBalls", "works", "[LDroppingBalls$Work;", true)
  | 3 => ("DroppingBalls", "clockCount", "I", false)
  | 4 => ("DroppingBalls", "faultCount", "I", false)
  | 5 => ("DroppingBalls", "workCount", "I", false)
  | 6 => ("DroppingBalls", "page", "LDroppingBalls$Page;", true)
  | 7 => ("DroppingBalls", "setting", "LDroppingBalls$Setting;", true)
  | 8 => ("DroppingBalls", "image", "LDroppingBalls$Setting;", true)
  | 9 => ("DroppingBalls", "hasImage", "Z", false)
  | 10 => ("DroppingBalls", "searches", "I", false)
  | 11 => ("DroppingBalls", "spareClock", "LDroppingBalls$Clock;", true)
  | 12 => ("DroppingBalls", "noFault", "LDroppingBalls$Fault;", true)
  | 13 => ("DroppingBalls", "trialFault", "LDroppingBalls$Fault;", true)
  | 14 => ("DroppingBalls", "run", "LDroppingBalls$Run;", true)
  | 15 => ("DroppingBalls", "trialRun", "LDroppingBalls$Run;", true)
  | 16 => ("DroppingBalls", "play", "LDroppingBalls$Play;", true)
  | 17 => ("DroppingBalls", "evidence", "LDroppingBalls$Evidence;", true)
  | _ => ("DroppingBalls", "worstFound", "[I", true)
def tyX8 : Nat → FieldType := fun k => match k with
  | 0 => .array (.object "DroppingBalls$Clock")
  | 1 => .array (.object "DroppingBalls$Fault")
  | 2 => .array (.object "DroppingBalls$Work")
  | 3 => .int
  | 4 => .int
  | 5 => .int
  | 6 => .object "DroppingBalls$Page"
  | 7 => .object "DroppingBalls$Setting"
  | 8 => .object "DroppingBalls$Setting"
  | 9 => .boolean
  | 10 => .int
  | 11 => .object "DroppingBalls$Clock"
  | 12 => .object "DroppingBalls$Fault"
  | 13 => .object "DroppingBalls$Fault"
  | 14 => .object "DroppingBalls$Run"
  | 15 => .object "DroppingBalls$Run"
  | 16 => .object "DroppingBalls$Play"
  | 17 => .object "DroppingBalls$Evidence"
  | _ => .array .int
abbrev wsX80 : List Cond := u_ws RX8 TX8 19
theorem nmX8 : ∀ a, a < 19 → ∀ b, b < 19 → a ≠ b → (TX8 a).2.1 ≠ (TX8 b).2.1 := by decide +kernel
theorem tyX8_ok : ∀ k, k < 19 → parseFieldDescriptor (TX8 k).2.2.1 = some (tyX8 k) := by decide +kernel
abbrev cX8_init : ByteArray := prog_1_method_1_code
def yX8_init : MethodName := ⟨RX8, "<init>", "()V"⟩
abbrev cX8_letters : ByteArray := prog_1_method_2_code
def yX8_letters : MethodName := ⟨RX8, "letters", "(J)I"⟩
abbrev cX8_blank : ByteArray := prog_1_method_3_code
def yX8_blank : MethodName := ⟨RX8, "blank", "()I"⟩
abbrev cX8_fault : ByteArray := prog_1_method_4_code
def yX8_fault : MethodName := ⟨RX8, "fault", "()I"⟩
abbrev cX8_clock : ByteArray := prog_1_method_5_code
def yX8_clock : MethodName := ⟨RX8, "clock", "()I"⟩
abbrev cX8_told : ByteArray := prog_1_method_6_code
def yX8_told : MethodName := ⟨RX8, "told", "(II)I"⟩
abbrev cX8_season : ByteArray := prog_1_method_7_code
def yX8_season : MethodName := ⟨RX8, "season", "(III)I"⟩
abbrev cX8_faulty : ByteArray := prog_1_method_8_code
def yX8_faulty : MethodName := ⟨RX8, "faulty", "(IIII)I"⟩
abbrev cX8_as : ByteArray := prog_1_method_9_code
def yX8_as : MethodName := ⟨RX8, "as", "(II)I"⟩
abbrev cX8_work : ByteArray := prog_1_method_10_code
def yX8_work : MethodName := ⟨RX8, "work", "(III)I"⟩
abbrev cX8_workAs : ByteArray := prog_1_method_11_code
def yX8_workAs : MethodName := ⟨RX8, "workAs", "(II)I"⟩
abbrev cX8_head : ByteArray := prog_1_method_12_code
def yX8_head : MethodName := ⟨RX8, "head", "(I)I"⟩
abbrev cX8_drops : ByteArray := prog_1_method_13_code
def yX8_drops : MethodName := ⟨RX8, "drops", "(IIII)I"⟩
abbrev cX8_error : ByteArray := prog_1_method_14_code
def yX8_error : MethodName := ⟨RX8, "error", "(IIII)I"⟩
abbrev cX8_at : ByteArray := prog_1_method_15_code
def yX8_at : MethodName := ⟨RX8, "at", "(IIIII)I"⟩
abbrev cX8_even : ByteArray := prog_1_method_16_code
def yX8_even : MethodName := ⟨RX8, "even", "(IIII)I"⟩
abbrev cX8_mean : ByteArray := prog_1_method_17_code
def yX8_mean : MethodName := ⟨RX8, "mean", "(IIII)I"⟩
abbrev cX8_shows : ByteArray := prog_1_method_18_code
def yX8_shows : MethodName := ⟨RX8, "shows", "(IIII)I"⟩
abbrev cX8_worst : ByteArray := prog_1_method_19_code
def yX8_worst : MethodName := ⟨RX8, "worst", "(II)I"⟩
abbrev cX8_better : ByteArray := prog_1_method_20_code
def yX8_better : MethodName := ⟨RX8, "better", "(II)I"⟩
abbrev cX8_mark : ByteArray := prog_1_method_21_code
def yX8_mark : MethodName := ⟨RX8, "mark", "(III)I"⟩
abbrev cX8_mended : ByteArray := prog_1_method_22_code
def yX8_mended : MethodName := ⟨RX8, "mended", "(IIIII)I"⟩
abbrev cX8_log : ByteArray := prog_1_method_23_code
def yX8_log : MethodName := ⟨RX8, "log", "(II)I"⟩
abbrev cX8_agrees : ByteArray := prog_1_method_24_code
def yX8_agrees : MethodName := ⟨RX8, "agrees", "(III)I"⟩
abbrev cX8_which : ByteArray := prog_1_method_25_code
def yX8_which : MethodName := ⟨RX8, "which", "(II)I"⟩
abbrev cX8_sought : ByteArray := prog_1_method_26_code
def yX8_sought : MethodName := ⟨RX8, "sought", "(IIIII)I"⟩
abbrev cX8_lost : ByteArray := prog_1_method_27_code
def yX8_lost : MethodName := ⟨RX8, "lost", "(IIII)I"⟩
abbrev cX8_span : ByteArray := prog_1_method_28_code
def yX8_span : MethodName := ⟨RX8, "span", "(IIIII)I"⟩
abbrev cX8_record : ByteArray := prog_1_method_29_code
def yX8_record : MethodName := ⟨RX8, "record", "(IIIII)I"⟩
abbrev cX8_image : ByteArray := prog_1_method_30_code
def yX8_image : MethodName := ⟨RX8, "image", "()I"⟩
abbrev cX8_restore : ByteArray := prog_1_method_31_code
def yX8_restore : MethodName := ⟨RX8, "restore", "()I"⟩
abbrev cX8_count : ByteArray := prog_1_method_32_code
def yX8_count : MethodName := ⟨RX8, "count", "(I)I"⟩
abbrev cX8_digest : ByteArray := prog_1_method_33_code
def yX8_digest : MethodName := ⟨RX8, "digest", "()J"⟩
abbrev cX8_mixed : ByteArray := prog_1_method_34_code
def yX8_mixed : MethodName := ⟨RX8, "mixed", "(JJ)J"⟩
abbrev cX8_mixedClock : ByteArray := prog_1_method_35_code
def yX8_mixedClock : MethodName := ⟨RX8, "mixedClock", "(JI)J"⟩
abbrev cX8_mixedFault : ByteArray := prog_1_method_36_code
def yX8_mixedFault : MethodName := ⟨RX8, "mixedFault", "(JLDroppingBalls$Fault;)J"⟩
abbrev cX8_mixedWork : ByteArray := prog_1_method_37_code
def yX8_mixedWork : MethodName := ⟨RX8, "mixedWork", "(JLDroppingBalls$Work;)J"⟩
abbrev cX8_startRun : ByteArray := prog_1_method_38_code
def yX8_startRun : MethodName := ⟨RX8, "startRun", "(III)Z"⟩
abbrev cX8_playRun : ByteArray := prog_1_method_39_code
def yX8_playRun : MethodName := ⟨RX8, "playRun", "()V"⟩
abbrev cX8_findWorst : ByteArray := prog_1_method_40_code
def yX8_findWorst : MethodName := ⟨RX8, "findWorst", "(LDroppingBalls$Clock;)V"⟩
abbrev cX8_holdsInRun : ByteArray := prog_1_method_41_code
def yX8_holdsInRun : MethodName := ⟨RX8, "holdsInRun", "(II)Z"⟩
abbrev cX8_agreesFromHere : ByteArray := prog_1_method_42_code
def yX8_agreesFromHere : MethodName := ⟨RX8, "agreesFromHere", "(LDroppingBalls$Run;)Z"⟩
abbrev cX8_seekFault : ByteArray := prog_1_method_43_code
def yX8_seekFault : MethodName := ⟨RX8, "seekFault", "(III)I"⟩
abbrev cX8_seekClock : ByteArray := prog_1_method_44_code
def yX8_seekClock : MethodName := ⟨RX8, "seekClock", "(III)I"⟩
abbrev cX8_isIn : ByteArray := prog_1_method_45_code
def yX8_isIn : MethodName := ⟨RX8, "isIn", "(III)Z"⟩
abbrev cX8_isSeason : ByteArray := prog_1_method_46_code
def yX8_isSeason : MethodName := ⟨RX8, "isSeason", "(I)Z"⟩
abbrev cX8_isTick : ByteArray := prog_1_method_47_code
def yX8_isTick : MethodName := ⟨RX8, "isTick", "(I)Z"⟩
abbrev cX8_isKind : ByteArray := prog_1_method_48_code
def yX8_isKind : MethodName := ⟨RX8, "isKind", "(I)Z"⟩
abbrev cX8_isWorkOrNone : ByteArray := prog_1_method_49_code
def yX8_isWorkOrNone : MethodName := ⟨RX8, "isWorkOrNone", "(I)Z"⟩
abbrev cX8_isBallOrNone : ByteArray := prog_1_method_50_code
def yX8_isBallOrNone : MethodName := ⟨RX8, "isBallOrNone", "(LDroppingBalls$Clock;I)Z"⟩
abbrev cX8_clockOf : ByteArray := prog_1_method_51_code
def yX8_clockOf : MethodName := ⟨RX8, "clockOf", "(I)LDroppingBalls$Clock;"⟩
abbrev cX8_faultOf : ByteArray := prog_1_method_52_code
def yX8_faultOf : MethodName := ⟨RX8, "faultOf", "(I)LDroppingBalls$Fault;"⟩
abbrev cX8_workOf : ByteArray := prog_1_method_53_code
def yX8_workOf : MethodName := ⟨RX8, "workOf", "(I)LDroppingBalls$Work;"⟩
abbrev cX8_warmthOf : ByteArray := prog_1_method_54_code
def yX8_warmthOf : MethodName := ⟨RX8, "warmthOf", "(I)I"⟩
abbrev cX8_daylightOf : ByteArray := prog_1_method_55_code
def yX8_daylightOf : MethodName := ⟨RX8, "daylightOf", "(I)I"⟩
abbrev cX8_isFaultOfKind : ByteArray := prog_1_method_56_code
def yX8_isFaultOfKind : MethodName := ⟨RX8, "isFaultOfKind", "(II)Z"⟩
abbrev cX8_isWorkOfKind : ByteArray := prog_1_method_57_code
def yX8_isWorkOfKind : MethodName := ⟨RX8, "isWorkOfKind", "(II)Z"⟩
abbrev cX8_leastNumber : ByteArray := prog_1_method_58_code
def yX8_leastNumber : MethodName := ⟨RX8, "leastNumber", "(I)I"⟩
abbrev cX8_mostNumber : ByteArray := prog_1_method_59_code
def yX8_mostNumber : MethodName := ⟨RX8, "mostNumber", "(I)I"⟩
abbrev cX8_quotient : ByteArray := prog_1_method_60_code
def yX8_quotient : MethodName := ⟨RX8, "quotient", "(II)I"⟩
abbrev cX8_commonMeasure : ByteArray := prog_1_method_61_code
def yX8_commonMeasure : MethodName := ⟨RX8, "commonMeasure", "(II)I"⟩
abbrev cX8_exchange : ByteArray := prog_1_method_62_code
def yX8_exchange : MethodName := ⟨RX8, "exchange", "([III)I"⟩
abbrev cX8_byteOf : ByteArray := prog_1_method_63_code
def yX8_byteOf : MethodName := ⟨RX8, "byteOf", "(JI)I"⟩
abbrev cX8_lettersIn : ByteArray := prog_1_method_64_code
def yX8_lettersIn : MethodName := ⟨RX8, "lettersIn", "(J)I"⟩
def RX9 : String := "DroppingBallsModel"
def TX9 : u_T := fun k => match k with
  | 0 => ("DroppingBallsModel", "clocks", "I", false)
  | 1 => ("DroppingBallsModel", "vesselMany", "[I", true)
  | 2 => ("DroppingBallsModel", "areaOf", "[I", true)
  | 3 => ("DroppingBallsModel", "heightOf", "[I", true)
  | 4 => ("DroppingBallsModel", "holeOf", "[I", true)
  | 5 => ("DroppingBallsModel", "cylinderArea", "[I", true)
  | 6 => ("DroppingBallsModel", "cylinderHeight", "[I", true)
  | 7 => ("DroppingBallsModel", "supplyOf", "[I", true)
  | 8 => ("DroppingBallsModel", "markMany", "[I", true)
  | 9 => ("DroppingBallsModel", "markOf", "[I", true)
  | 10 => ("DroppingBallsModel", "warmth", "[I", true)
  | 11 => ("DroppingBallsModel", "daylight", "[I", true)
  | 12 => ("DroppingBallsModel", "faults", "I", false)
  | 13 => ("DroppingBallsModel", "faultKind", "[I", true)
  | 14 => ("DroppingBallsModel", "faultVessel", "[I", true)
  | 15 => ("DroppingBallsModel", "faultN", "[I", true)
  | 16 => ("DroppingBallsModel", "faultFrom", "[I", true)
  | 17 => ("DroppingBallsModel", "works", "I", false)
  | 18 => ("DroppingBallsModel", "workKind", "[I", true)
  | 19 => ("DroppingBallsModel", "workN", "[I", true)
  | 20 => ("DroppingBallsModel", "workNext", "[I", true)
  | 21 => ("DroppingBallsModel", "headNow", "I", false)
  | 22 => ("DroppingBallsModel", "logOf", "[I", true)
  | 23 => ("DroppingBallsModel", "asks", "I", false)
  | 24 => ("DroppingBallsModel", "pageLength", "I", false)
  | 25 => ("DroppingBallsModel", "page", "[B", true)
  | 26 => ("DroppingBallsModel", "isKept", "Z", false)
  | 27 => ("DroppingBallsModel", "keptHead", "I", false)
  | 28 => ("DroppingBallsModel", "keptWarmth", "[I", true)
  | 29 => ("DroppingBallsModel", "keptDaylight", "[I", true)
  | 30 => ("DroppingBallsModel", "keptLog", "[I", true)
  | 31 => ("DroppingBallsModel", "faultAt", "I", false)
  | 32 => ("DroppingBallsModel", "isWhole", "Z", false)
  | 33 => ("DroppingBallsModel", "newVessels", "I", false)
  | 34 => ("DroppingBallsModel", "newArea", "[I", true)
  | 35 => ("DroppingBallsModel", "newHeight", "[I", true)
  | 36 => ("DroppingBallsModel", "newHole", "[I", true)
  | 37 => ("DroppingBallsModel", "newCylinderArea", "I", false)
  | 38 => ("DroppingBallsModel", "newCylinderHeight", "I", false)
  | 39 => ("DroppingBallsModel", "newSupply", "I", false)
  | 40 => ("DroppingBallsModel", "newMarks", "I", false)
  | 41 => ("DroppingBallsModel", "newMark", "[I", true)
  | 42 => ("DroppingBallsModel", "value", "I", false)
  | 43 => ("DroppingBallsModel", "holeNow", "[I", true)
  | 44 => ("DroppingBallsModel", "supplyNow", "I", false)
  | 45 => ("DroppingBallsModel", "hasSiphon", "Z", false)
  | 46 => ("DroppingBallsModel", "kindNow", "I", false)
  | 47 => ("DroppingBallsModel", "vesselNow", "I", false)
  | 48 => ("DroppingBallsModel", "nNow", "I", false)
  | 49 => ("DroppingBallsModel", "fromNow", "I", false)
  | 50 => ("DroppingBallsModel", "drops", "[I", true)
  | 51 => ("DroppingBallsModel", "cylinder", "I", false)
  | 52 => ("DroppingBallsModel", "over", "I", false)
  | 53 => ("DroppingBallsModel", "leaked", "I", false)
  | 54 => ("DroppingBallsModel", "emptied", "I", false)
  | 55 => ("DroppingBallsModel", "dropped", "I", false)
  | 56 => ("DroppingBallsModel", "dropAt", "[I", true)
  | 57 => ("DroppingBallsModel", "leastIn", "I", false)
  | 58 => ("DroppingBallsModel", "mostIn", "I", false)
  | 59 => ("DroppingBallsModel", "levelAt", "[I", true)
  | 60 => ("DroppingBallsModel", "strokes", "I", false)
  | 61 => ("DroppingBallsModel", "struckHead", "I", false)
  | 62 => ("DroppingBallsModel", "figures", "I", false)
  | 63 => ("DroppingBallsModel", "figureOf", "[I", true)
  | 64 => ("DroppingBallsModel", "stuckWork", "I", false)
  | 65 => ("DroppingBallsModel", "stuckAt", "I", false)
  | 66 => ("DroppingBallsModel", "isStuck", "[Z", true)
  | 67 => ("DroppingBallsModel", "struckMany", "[I", true)
  | 68 => ("DroppingBallsModel", "outUntil", "[I", true)
  | 69 => ("DroppingBallsModel", "dueMany", "I", false)
  | 70 => ("DroppingBallsModel", "dueAt", "[I", true)
  | 71 => ("DroppingBallsModel", "dueWork", "[I", true)
  | 72 => ("DroppingBallsModel", "worstSize", "I", false)
  | 73 => ("DroppingBallsModel", "worstSeason", "I", false)
  | 74 => ("DroppingBallsModel", "worstBall", "I", false)
  | _ => ("DroppingBallsModel", "h", "J", false)
def tyX9 : Nat → FieldType := fun k => match k with
  | 0 => .int
  | 1 => .array .int
  | 2 => .array .int
  | 3 => .array .int
  | 4 => .array .int
  | 5 => .array .int
  | 6 => .array .int
  | 7 => .array .int
  | 8 => .array .int
  | 9 => .array .int
  | 10 => .array .int
  | 11 => .array .int
  | 12 => .int
  | 13 => .array .int
  | 14 => .array .int
  | 15 => .array .int
  | 16 => .array .int
  | 17 => .int
  | 18 => .array .int
  | 19 => .array .int
  | 20 => .array .int
  | 21 => .int
  | 22 => .array .int
  | 23 => .int
  | 24 => .int
  | 25 => .array .byte
  | 26 => .boolean
  | 27 => .int
  | 28 => .array .int
  | 29 => .array .int
  | 30 => .array .int
  | 31 => .int
  | 32 => .boolean
  | 33 => .int
  | 34 => .array .int
  | 35 => .array .int
  | 36 => .array .int
  | 37 => .int
  | 38 => .int
  | 39 => .int
  | 40 => .int
  | 41 => .array .int
  | 42 => .int
  | 43 => .array .int
  | 44 => .int
  | 45 => .boolean
  | 46 => .int
  | 47 => .int
  | 48 => .int
  | 49 => .int
  | 50 => .array .int
  | 51 => .int
  | 52 => .int
  | 53 => .int
  | 54 => .int
  | 55 => .int
  | 56 => .array .int
  | 57 => .int
  | 58 => .int
  | 59 => .array .int
  | 60 => .int
  | 61 => .int
  | 62 => .int
  | 63 => .array .int
  | 64 => .int
  | 65 => .int
  | 66 => .array .boolean
  | 67 => .array .int
  | 68 => .array .int
  | 69 => .int
  | 70 => .array .int
  | 71 => .array .int
  | 72 => .int
  | 73 => .int
  | 74 => .int
  | _ => .long
abbrev wsX90 : List Cond := u_ws RX9 TX9 76
theorem nmX9 : ∀ a, a < 76 → ∀ b, b < 76 → a ≠ b → (TX9 a).2.1 ≠ (TX9 b).2.1 := by decide +kernel
theorem tyX9_ok : ∀ k, k < 76 → parseFieldDescriptor (TX9 k).2.2.1 = some (tyX9 k) := by decide +kernel
abbrev cX9_init : ByteArray := prog_11_method_1_code
def yX9_init : MethodName := ⟨RX9, "<init>", "()V"⟩
abbrev cX9_within : ByteArray := prog_11_method_3_code
def yX9_within : MethodName := ⟨RX9, "within", "(III)Z"⟩
abbrev cX9_size : ByteArray := prog_11_method_4_code
def yX9_size : MethodName := ⟨RX9, "size", "(I)I"⟩
abbrev cX9_lesser : ByteArray := prog_11_method_5_code
def yX9_lesser : MethodName := ⟨RX9, "lesser", "(II)I"⟩
abbrev cX9_letters : ByteArray := prog_11_method_6_code
def yX9_letters : MethodName := ⟨RX9, "letters", "(J)I"⟩
abbrev cX9_blank : ByteArray := prog_11_method_7_code
def yX9_blank : MethodName := ⟨RX9, "blank", "()I"⟩
abbrev cX9_isDigit : ByteArray := prog_11_method_8_code
def yX9_isDigit : MethodName := ⟨RX9, "isDigit", "(I)Z"⟩
abbrev cX9_most : ByteArray := prog_11_method_9_code
def yX9_most : MethodName := ⟨RX9, "most", "(I)I"⟩
abbrev cX9_markAhead : ByteArray := prog_11_method_10_code
def yX9_markAhead : MethodName := ⟨RX9, "markAhead", "()I"⟩
abbrev cX9_fits : ByteArray := prog_11_method_11_code
def yX9_fits : MethodName := ⟨RX9, "fits", "(II)Z"⟩
abbrev cX9_keep : ByteArray := prog_11_method_12_code
def yX9_keep : MethodName := ⟨RX9, "keep", "(I)V"⟩
abbrev cX9_behind : ByteArray := prog_11_method_13_code
def yX9_behind : MethodName := ⟨RX9, "behind", "(II)I"⟩
abbrev cX9_readPage : ByteArray := prog_11_method_14_code
def yX9_readPage : MethodName := ⟨RX9, "readPage", "()V"⟩
abbrev cX9_fault : ByteArray := prog_11_method_15_code
def yX9_fault : MethodName := ⟨RX9, "fault", "()I"⟩
abbrev cX9_clock : ByteArray := prog_11_method_16_code
def yX9_clock : MethodName := ⟨RX9, "clock", "()I"⟩
abbrev cX9_isClock : ByteArray := prog_11_method_17_code
def yX9_isClock : MethodName := ⟨RX9, "isClock", "(I)Z"⟩
abbrev cX9_isSeason : ByteArray := prog_11_method_18_code
def yX9_isSeason : MethodName := ⟨RX9, "isSeason", "(I)Z"⟩
abbrev cX9_isFault : ByteArray := prog_11_method_19_code
def yX9_isFault : MethodName := ⟨RX9, "isFault", "(I)Z"⟩
abbrev cX9_isBall : ByteArray := prog_11_method_20_code
def yX9_isBall : MethodName := ⟨RX9, "isBall", "(II)Z"⟩
abbrev cX9_toldOf : ByteArray := prog_11_method_21_code
def yX9_toldOf : MethodName := ⟨RX9, "toldOf", "(II)I"⟩
abbrev cX9_told : ByteArray := prog_11_method_22_code
def yX9_told : MethodName := ⟨RX9, "told", "(II)I"⟩
abbrev cX9_season : ByteArray := prog_11_method_23_code
def yX9_season : MethodName := ⟨RX9, "season", "(III)I"⟩
abbrev cX9_faulty : ByteArray := prog_11_method_24_code
def yX9_faulty : MethodName := ⟨RX9, "faulty", "(IIII)I"⟩
abbrev cX9_as : ByteArray := prog_11_method_25_code
def yX9_as : MethodName := ⟨RX9, "as", "(II)I"⟩
abbrev cX9_isWork : ByteArray := prog_11_method_26_code
def yX9_isWork : MethodName := ⟨RX9, "isWork", "(I)Z"⟩
abbrev cX9_isNumber : ByteArray := prog_11_method_27_code
def yX9_isNumber : MethodName := ⟨RX9, "isNumber", "(II)Z"⟩
abbrev cX9_work : ByteArray := prog_11_method_28_code
def yX9_work : MethodName := ⟨RX9, "work", "(III)I"⟩
abbrev cX9_workAs : ByteArray := prog_11_method_29_code
def yX9_workAs : MethodName := ⟨RX9, "workAs", "(II)I"⟩
abbrev cX9_head : ByteArray := prog_11_method_30_code
def yX9_head : MethodName := ⟨RX9, "head", "(I)I"⟩
abbrev cX9_load : ByteArray := prog_11_method_31_code
def yX9_load : MethodName := ⟨RX9, "load", "(II)V"⟩
abbrev cX9_come : ByteArray := prog_11_method_32_code
def yX9_come : MethodName := ⟨RX9, "come", "(III)V"⟩
abbrev cX9_hole : ByteArray := prog_11_method_33_code
def yX9_hole : MethodName := ⟨RX9, "hole", "(II)I"⟩
abbrev cX9_tick : ByteArray := prog_11_method_34_code
def yX9_tick : MethodName := ⟨RX9, "tick", "(III)V"⟩
abbrev cX9_run : ByteArray := prog_11_method_35_code
def yX9_run : MethodName := ⟨RX9, "run", "(III)V"⟩
abbrev cX9_runAll : ByteArray := prog_11_method_36_code
def yX9_runAll : MethodName := ⟨RX9, "runAll", "(III)V"⟩
abbrev cX9_isRun : ByteArray := prog_11_method_37_code
def yX9_isRun : MethodName := ⟨RX9, "isRun", "(III)Z"⟩
abbrev cX9_errorOf : ByteArray := prog_11_method_38_code
def yX9_errorOf : MethodName := ⟨RX9, "errorOf", "(III)I"⟩
abbrev cX9_asTick : ByteArray := prog_11_method_39_code
def yX9_asTick : MethodName := ⟨RX9, "asTick", "(I)I"⟩
abbrev cX9_drops : ByteArray := prog_11_method_40_code
def yX9_drops : MethodName := ⟨RX9, "drops", "(IIII)I"⟩
abbrev cX9_error : ByteArray := prog_11_method_41_code
def yX9_error : MethodName := ⟨RX9, "error", "(IIII)I"⟩
abbrev cX9_at : ByteArray := prog_11_method_42_code
def yX9_at : MethodName := ⟨RX9, "at", "(IIIII)I"⟩
abbrev cX9_even : ByteArray := prog_11_method_43_code
def yX9_even : MethodName := ⟨RX9, "even", "(IIII)I"⟩
abbrev cX9_errors : ByteArray := prog_11_method_44_code
def yX9_errors : MethodName := ⟨RX9, "errors", "(II)I"⟩
abbrev cX9_mean : ByteArray := prog_11_method_45_code
def yX9_mean : MethodName := ⟨RX9, "mean", "(IIII)I"⟩
abbrev cX9_strike : ByteArray := prog_11_method_46_code
def yX9_strike : MethodName := ⟨RX9, "strike", "(II)V"⟩
abbrev cX9_struck : ByteArray := prog_11_method_47_code
def yX9_struck : MethodName := ⟨RX9, "struck", "(II)I"⟩
abbrev cX9_show : ByteArray := prog_11_method_48_code
def yX9_show : MethodName := ⟨RX9, "show", "(I)V"⟩
abbrev cX9_shown : ByteArray := prog_11_method_49_code
def yX9_shown : MethodName := ⟨RX9, "shown", "(I)I"⟩
abbrev cX9_shows : ByteArray := prog_11_method_50_code
def yX9_shows : MethodName := ⟨RX9, "shows", "(IIII)I"⟩
abbrev cX9_layWorst : ByteArray := prog_11_method_51_code
def yX9_layWorst : MethodName := ⟨RX9, "layWorst", "(I)V"⟩
abbrev cX9_worst : ByteArray := prog_11_method_52_code
def yX9_worst : MethodName := ⟨RX9, "worst", "(II)I"⟩
abbrev cX9_better : ByteArray := prog_11_method_53_code
def yX9_better : MethodName := ⟨RX9, "better", "(II)I"⟩
abbrev cX9_mark : ByteArray := prog_11_method_54_code
def yX9_mark : MethodName := ⟨RX9, "mark", "(III)I"⟩
abbrev cX9_mended : ByteArray := prog_11_method_55_code
def yX9_mended : MethodName := ⟨RX9, "mended", "(IIIII)I"⟩
abbrev cX9_log : ByteArray := prog_11_method_56_code
def yX9_log : MethodName := ⟨RX9, "log", "(II)I"⟩
abbrev cX9_agreesNow : ByteArray := prog_11_method_57_code
def yX9_agreesNow : MethodName := ⟨RX9, "agreesNow", "(I)Z"⟩
abbrev cX9_agrees : ByteArray := prog_11_method_58_code
def yX9_agrees : MethodName := ⟨RX9, "agrees", "(III)I"⟩
abbrev cX9_which : ByteArray := prog_11_method_59_code
def yX9_which : MethodName := ⟨RX9, "which", "(II)I"⟩
abbrev cX9_sought : ByteArray := prog_11_method_60_code
def yX9_sought : MethodName := ⟨RX9, "sought", "(IIIII)I"⟩
abbrev cX9_lost : ByteArray := prog_11_method_61_code
def yX9_lost : MethodName := ⟨RX9, "lost", "(IIII)I"⟩
abbrev cX9_spanFrom : ByteArray := prog_11_method_62_code
def yX9_spanFrom : MethodName := ⟨RX9, "spanFrom", "(I)I"⟩
abbrev cX9_spanTo : ByteArray := prog_11_method_63_code
def yX9_spanTo : MethodName := ⟨RX9, "spanTo", "(II)I"⟩
abbrev cX9_isRecord : ByteArray := prog_11_method_64_code
def yX9_isRecord : MethodName := ⟨RX9, "isRecord", "(II)Z"⟩
abbrev cX9_span : ByteArray := prog_11_method_65_code
def yX9_span : MethodName := ⟨RX9, "span", "(IIIII)I"⟩
abbrev cX9_holds : ByteArray := prog_11_method_66_code
def yX9_holds : MethodName := ⟨RX9, "holds", "(IIIII)Z"⟩
abbrev cX9_record : ByteArray := prog_11_method_67_code
def yX9_record : MethodName := ⟨RX9, "record", "(IIIII)I"⟩
abbrev cX9_logMany : ByteArray := prog_11_method_68_code
def yX9_logMany : MethodName := ⟨RX9, "logMany", "()I"⟩
abbrev cX9_image : ByteArray := prog_11_method_69_code
def yX9_image : MethodName := ⟨RX9, "image", "()I"⟩
abbrev cX9_restore : ByteArray := prog_11_method_70_code
def yX9_restore : MethodName := ⟨RX9, "restore", "()I"⟩
abbrev cX9_howMany : ByteArray := prog_11_method_71_code
def yX9_howMany : MethodName := ⟨RX9, "howMany", "(I)I"⟩
abbrev cX9_count : ByteArray := prog_11_method_72_code
def yX9_count : MethodName := ⟨RX9, "count", "(I)I"⟩
abbrev cX9_mix : ByteArray := prog_11_method_73_code
def yX9_mix : MethodName := ⟨RX9, "mix", "(J)V"⟩
abbrev cX9_mixClock : ByteArray := prog_11_method_74_code
def yX9_mixClock : MethodName := ⟨RX9, "mixClock", "(I)V"⟩
abbrev cX9_digest : ByteArray := prog_11_method_75_code
def yX9_digest : MethodName := ⟨RX9, "digest", "()J"⟩
def RJ9 : String := "java/lang/Math"
def TJ9 : u_T := fun k => match k with
  | _ => ("", "", "", false)
def tyJ9 : Nat → FieldType := fun k => match k with
  | _ => .int
abbrev wsJ90 : List Cond := u_ws RJ9 TJ9 0
theorem nmJ9 : ∀ a, a < 0 → ∀ b, b < 0 → a ≠ b → (TJ9 a).2.1 ≠ (TJ9 b).2.1 := by decide +kernel
theorem tyJ9_ok : ∀ k, k < 0 → parseFieldDescriptor (TJ9 k).2.2.1 = some (tyJ9 k) := by decide +kernel
abbrev cJ9_abs_0f7a4 : ByteArray := prog_12_method_59_code
def yJ9_abs_0f7a4 : MethodName := ⟨RJ9, "abs", "(I)I"⟩
abbrev cJ9_max_7cf53 : ByteArray := prog_12_method_65_code
def yJ9_max_7cf53 : MethodName := ⟨RJ9, "max", "(II)I"⟩
abbrev cJ9_min_7cf53 : ByteArray := prog_12_method_69_code
def yJ9_min_7cf53 : MethodName := ⟨RJ9, "min", "(II)I"⟩
def RJ7 : String := "java/util/Arrays"
def TJ7 : u_T := fun k => match k with
  | _ => ("", "", "", false)
def tyJ7 : Nat → FieldType := fun k => match k with
  | _ => .int
abbrev wsJ70 : List Cond := u_ws RJ7 TJ7 0
theorem nmJ7 : ∀ a, a < 0 → ∀ b, b < 0 → a ≠ b → (TJ7 a).2.1 ≠ (TJ7 b).2.1 := by decide +kernel
theorem tyJ7_ok : ∀ k, k < 0 → parseFieldDescriptor (TJ7 k).2.2.1 = some (tyJ7 k) := by decide +kernel
abbrev cJ7_fill_53178 : ByteArray := prog_13_method_103_code
def yJ7_fill_53178 : MethodName := ⟨RJ7, "fill", "([II)V"⟩
def RL : String := "DroppingBallsLaw"
abbrev cL_law : ByteArray := code
def yL_law : MethodName := ⟨RL, "law", "([I)Z"⟩
abbrev vwCl : List vw_C := [(RX0, TX0, 10), (RX1, TX1, 4), (RX2, TX2, 4), (RX3, TX3, 3), (RX4, TX4, 12), (RX5, TX5, 14), (RX6, TX6, 4), (RX7, TX7, 4), (RX8, TX8, 19), (RX9, TX9, 76)]
