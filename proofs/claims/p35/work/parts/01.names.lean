-- ===== PART A: goes FIRST, ahead of the names: the tables' words, and 'selects' of the private methods out of them =====
/-- a private method of a class that the tables say can be made, by its rows of tables_1 -/
def lw_okq (q : MethodName × Nat) : Prop := (q.1.cls ≠ "java/lang/invoke/MethodHandle" ∧ q.1.cls ≠ "java/lang/invoke/VarHandle") ∧ Cond.instantiable q.1.cls q.2 ∈ tables_1 ∧ Cond.privateMethod q.1 ∈ tables_1 ∧ Cond.instanceMethod q.1 ∈ tables_1
theorem lw_p0 : lw_okq (⟨"DroppingBalls", "faultOf", "(I)LDroppingBalls$Fault;"⟩, 19) := ⟨⟨by decide +kernel, by decide +kernel⟩, List.mem_of_getElem? (i := 13) (by decide +kernel), List.mem_of_getElem? (i := 346) (by decide +kernel), List.mem_of_getElem? (i := 347) (by decide +kernel)⟩
theorem lw_p1 : lw_okq (⟨"DroppingBalls", "isWorkOrNone", "(I)Z"⟩, 19) := ⟨⟨by decide +kernel, by decide +kernel⟩, List.mem_of_getElem? (i := 13) (by decide +kernel), List.mem_of_getElem? (i := 363) (by decide +kernel), List.mem_of_getElem? (i := 364) (by decide +kernel)⟩
theorem lw_p2 : lw_okq (⟨"DroppingBalls", "workOf", "(I)LDroppingBalls$Work;"⟩, 19) := ⟨⟨by decide +kernel, by decide +kernel⟩, List.mem_of_getElem? (i := 13) (by decide +kernel), List.mem_of_getElem? (i := 368) (by decide +kernel), List.mem_of_getElem? (i := 369) (by decide +kernel)⟩
theorem lw_p3 : lw_okq (⟨"DroppingBalls", "startRun", "(III)Z"⟩, 19) := ⟨⟨by decide +kernel, by decide +kernel⟩, List.mem_of_getElem? (i := 13) (by decide +kernel), List.mem_of_getElem? (i := 409) (by decide +kernel), List.mem_of_getElem? (i := 410) (by decide +kernel)⟩
theorem lw_p4 : lw_okq (⟨"DroppingBalls", "clockOf", "(I)LDroppingBalls$Clock;"⟩, 19) := ⟨⟨by decide +kernel, by decide +kernel⟩, List.mem_of_getElem? (i := 13) (by decide +kernel), List.mem_of_getElem? (i := 413) (by decide +kernel), List.mem_of_getElem? (i := 414) (by decide +kernel)⟩
theorem lw_p5 : lw_okq (⟨"DroppingBalls", "warmthOf", "(I)I"⟩, 19) := ⟨⟨by decide +kernel, by decide +kernel⟩, List.mem_of_getElem? (i := 13) (by decide +kernel), List.mem_of_getElem? (i := 417) (by decide +kernel), List.mem_of_getElem? (i := 418) (by decide +kernel)⟩
theorem lw_p6 : lw_okq (⟨"DroppingBalls$Run", "drip", "()V"⟩, 14) := ⟨⟨by decide +kernel, by decide +kernel⟩, List.mem_of_getElem? (i := 143) (by decide +kernel), List.mem_of_getElem? (i := 438) (by decide +kernel), List.mem_of_getElem? (i := 439) (by decide +kernel)⟩
theorem lw_p7 : lw_okq (⟨"DroppingBalls$Run", "leak", "()V"⟩, 14) := ⟨⟨by decide +kernel, by decide +kernel⟩, List.mem_of_getElem? (i := 143) (by decide +kernel), List.mem_of_getElem? (i := 460) (by decide +kernel), List.mem_of_getElem? (i := 461) (by decide +kernel)⟩
theorem lw_p8 : lw_okq (⟨"DroppingBalls$Run", "dropBalls", "()V"⟩, 14) := ⟨⟨by decide +kernel, by decide +kernel⟩, List.mem_of_getElem? (i := 143) (by decide +kernel), List.mem_of_getElem? (i := 472) (by decide +kernel), List.mem_of_getElem? (i := 473) (by decide +kernel)⟩
theorem lw_p9 : lw_okq (⟨"DroppingBalls$Run", "siphon", "()V"⟩, 14) := ⟨⟨by decide +kernel, by decide +kernel⟩, List.mem_of_getElem? (i := 143) (by decide +kernel), List.mem_of_getElem? (i := 476) (by decide +kernel), List.mem_of_getElem? (i := 477) (by decide +kernel)⟩
theorem lw_p10 : lw_okq (⟨"DroppingBalls", "daylightOf", "(I)I"⟩, 19) := ⟨⟨by decide +kernel, by decide +kernel⟩, List.mem_of_getElem? (i := 13) (by decide +kernel), List.mem_of_getElem? (i := 489) (by decide +kernel), List.mem_of_getElem? (i := 490) (by decide +kernel)⟩
theorem lw_p11 : lw_okq (⟨"DroppingBalls", "playRun", "()V"⟩, 19) := ⟨⟨by decide +kernel, by decide +kernel⟩, List.mem_of_getElem? (i := 13) (by decide +kernel), List.mem_of_getElem? (i := 535) (by decide +kernel), List.mem_of_getElem? (i := 536) (by decide +kernel)⟩
theorem lw_p12 : lw_okq (⟨"DroppingBalls$Play", "strike", "(LDroppingBalls$Work;I)V"⟩, 12) := ⟨⟨by decide +kernel, by decide +kernel⟩, List.mem_of_getElem? (i := 196) (by decide +kernel), List.mem_of_getElem? (i := 549) (by decide +kernel), List.mem_of_getElem? (i := 550) (by decide +kernel)⟩
theorem lw_p13 : lw_okq (⟨"DroppingBalls$Play", "strikesOn", "(LDroppingBalls$Work;I)Z"⟩, 12) := ⟨⟨by decide +kernel, by decide +kernel⟩, List.mem_of_getElem? (i := 196) (by decide +kernel), List.mem_of_getElem? (i := 553) (by decide +kernel), List.mem_of_getElem? (i := 554) (by decide +kernel)⟩
theorem lw_p14 : lw_okq (⟨"DroppingBalls$Play", "comesOut", "(LDroppingBalls$Work;I)Z"⟩, 12) := ⟨⟨by decide +kernel, by decide +kernel⟩, List.mem_of_getElem? (i := 196) (by decide +kernel), List.mem_of_getElem? (i := 557) (by decide +kernel), List.mem_of_getElem? (i := 558) (by decide +kernel)⟩
theorem lw_p15 : lw_okq (⟨"DroppingBalls$Play", "turn", "(LDroppingBalls$Work;I)V"⟩, 12) := ⟨⟨by decide +kernel, by decide +kernel⟩, List.mem_of_getElem? (i := 196) (by decide +kernel), List.mem_of_getElem? (i := 561) (by decide +kernel), List.mem_of_getElem? (i := 562) (by decide +kernel)⟩
def lw_privs_1 : List (MethodName × Nat) := [(⟨"DroppingBalls", "faultOf", "(I)LDroppingBalls$Fault;"⟩, 19), (⟨"DroppingBalls", "isWorkOrNone", "(I)Z"⟩, 19), (⟨"DroppingBalls", "workOf", "(I)LDroppingBalls$Work;"⟩, 19), (⟨"DroppingBalls", "startRun", "(III)Z"⟩, 19), (⟨"DroppingBalls", "clockOf", "(I)LDroppingBalls$Clock;"⟩, 19), (⟨"DroppingBalls", "warmthOf", "(I)I"⟩, 19), (⟨"DroppingBalls$Run", "drip", "()V"⟩, 14), (⟨"DroppingBalls$Run", "leak", "()V"⟩, 14), (⟨"DroppingBalls$Run", "dropBalls", "()V"⟩, 14), (⟨"DroppingBalls$Run", "siphon", "()V"⟩, 14), (⟨"DroppingBalls", "daylightOf", "(I)I"⟩, 19), (⟨"DroppingBalls", "playRun", "()V"⟩, 19), (⟨"DroppingBalls$Play", "strike", "(LDroppingBalls$Work;I)V"⟩, 12), (⟨"DroppingBalls$Play", "strikesOn", "(LDroppingBalls$Work;I)Z"⟩, 12), (⟨"DroppingBalls$Play", "comesOut", "(LDroppingBalls$Work;I)Z"⟩, 12), (⟨"DroppingBalls$Play", "turn", "(LDroppingBalls$Work;I)V"⟩, 12)]
theorem lw_r1 : ∀ q ∈ lw_privs_1, lw_okq q := List.forall_mem_cons.mpr ⟨lw_p0, List.forall_mem_cons.mpr ⟨lw_p1, List.forall_mem_cons.mpr ⟨lw_p2, List.forall_mem_cons.mpr ⟨lw_p3, List.forall_mem_cons.mpr ⟨lw_p4, List.forall_mem_cons.mpr ⟨lw_p5, List.forall_mem_cons.mpr ⟨lw_p6, List.forall_mem_cons.mpr ⟨lw_p7, List.forall_mem_cons.mpr ⟨lw_p8, List.forall_mem_cons.mpr ⟨lw_p9, List.forall_mem_cons.mpr ⟨lw_p10, List.forall_mem_cons.mpr ⟨lw_p11, List.forall_mem_cons.mpr ⟨lw_p12, List.forall_mem_cons.mpr ⟨lw_p13, List.forall_mem_cons.mpr ⟨lw_p14, List.forall_mem_cons.mpr ⟨lw_p15, fun _ h => absurd h List.not_mem_nil⟩⟩⟩⟩⟩⟩⟩⟩⟩⟩⟩⟩⟩⟩⟩⟩
theorem lw_p16 : lw_okq (⟨"DroppingBalls$Play", "isCountedOut", "(LDroppingBalls$Work;)Z"⟩, 12) := ⟨⟨by decide +kernel, by decide +kernel⟩, List.mem_of_getElem? (i := 196) (by decide +kernel), List.mem_of_getElem? (i := 565) (by decide +kernel), List.mem_of_getElem? (i := 566) (by decide +kernel)⟩
theorem lw_p17 : lw_okq (⟨"DroppingBalls", "findWorst", "(LDroppingBalls$Clock;)V"⟩, 19) := ⟨⟨by decide +kernel, by decide +kernel⟩, List.mem_of_getElem? (i := 13) (by decide +kernel), List.mem_of_getElem? (i := 582) (by decide +kernel), List.mem_of_getElem? (i := 583) (by decide +kernel)⟩
theorem lw_p18 : lw_okq (⟨"DroppingBalls$Page", "readVessels", "(LDroppingBalls$Clock;)Z"⟩, 3) := ⟨⟨by decide +kernel, by decide +kernel⟩, List.mem_of_getElem? (i := 27) (by decide +kernel), List.mem_of_getElem? (i := 626) (by decide +kernel), List.mem_of_getElem? (i := 627) (by decide +kernel)⟩
theorem lw_p19 : lw_okq (⟨"DroppingBalls$Page", "readVessel", "(LDroppingBalls$Clock;)Z"⟩, 3) := ⟨⟨by decide +kernel, by decide +kernel⟩, List.mem_of_getElem? (i := 27) (by decide +kernel), List.mem_of_getElem? (i := 630) (by decide +kernel), List.mem_of_getElem? (i := 631) (by decide +kernel)⟩
theorem lw_p20 : lw_okq (⟨"DroppingBalls$Page", "readNumber", "(II)I"⟩, 3) := ⟨⟨by decide +kernel, by decide +kernel⟩, List.mem_of_getElem? (i := 27) (by decide +kernel), List.mem_of_getElem? (i := 634) (by decide +kernel), List.mem_of_getElem? (i := 635) (by decide +kernel)⟩
theorem lw_p21 : lw_okq (⟨"DroppingBalls$Page", "figureHere", "()I"⟩, 3) := ⟨⟨by decide +kernel, by decide +kernel⟩, List.mem_of_getElem? (i := 27) (by decide +kernel), List.mem_of_getElem? (i := 638) (by decide +kernel), List.mem_of_getElem? (i := 639) (by decide +kernel)⟩
theorem lw_p22 : lw_okq (⟨"DroppingBalls$Page", "readSign", "(C)Z"⟩, 3) := ⟨⟨by decide +kernel, by decide +kernel⟩, List.mem_of_getElem? (i := 27) (by decide +kernel), List.mem_of_getElem? (i := 650) (by decide +kernel), List.mem_of_getElem? (i := 651) (by decide +kernel)⟩
theorem lw_p23 : lw_okq (⟨"DroppingBalls$Page", "readCylinder", "(LDroppingBalls$Clock;)Z"⟩, 3) := ⟨⟨by decide +kernel, by decide +kernel⟩, List.mem_of_getElem? (i := 27) (by decide +kernel), List.mem_of_getElem? (i := 658) (by decide +kernel), List.mem_of_getElem? (i := 659) (by decide +kernel)⟩
theorem lw_p24 : lw_okq (⟨"DroppingBalls$Page", "readSupply", "(LDroppingBalls$Clock;)Z"⟩, 3) := ⟨⟨by decide +kernel, by decide +kernel⟩, List.mem_of_getElem? (i := 27) (by decide +kernel), List.mem_of_getElem? (i := 662) (by decide +kernel), List.mem_of_getElem? (i := 663) (by decide +kernel)⟩
theorem lw_p25 : lw_okq (⟨"DroppingBalls$Page", "readMarks", "(LDroppingBalls$Clock;)Z"⟩, 3) := ⟨⟨by decide +kernel, by decide +kernel⟩, List.mem_of_getElem? (i := 27) (by decide +kernel), List.mem_of_getElem? (i := 666) (by decide +kernel), List.mem_of_getElem? (i := 667) (by decide +kernel)⟩
def lw_privs_2 : List (MethodName × Nat) := [(⟨"DroppingBalls$Play", "isCountedOut", "(LDroppingBalls$Work;)Z"⟩, 12), (⟨"DroppingBalls", "findWorst", "(LDroppingBalls$Clock;)V"⟩, 19), (⟨"DroppingBalls$Page", "readVessels", "(LDroppingBalls$Clock;)Z"⟩, 3), (⟨"DroppingBalls$Page", "readVessel", "(LDroppingBalls$Clock;)Z"⟩, 3), (⟨"DroppingBalls$Page", "readNumber", "(II)I"⟩, 3), (⟨"DroppingBalls$Page", "figureHere", "()I"⟩, 3), (⟨"DroppingBalls$Page", "readSign", "(C)Z"⟩, 3), (⟨"DroppingBalls$Page", "readCylinder", "(LDroppingBalls$Clock;)Z"⟩, 3), (⟨"DroppingBalls$Page", "readSupply", "(LDroppingBalls$Clock;)Z"⟩, 3), (⟨"DroppingBalls$Page", "readMarks", "(LDroppingBalls$Clock;)Z"⟩, 3)]
theorem lw_r2 : ∀ q ∈ lw_privs_2, lw_okq q := List.forall_mem_cons.mpr ⟨lw_p16, List.forall_mem_cons.mpr ⟨lw_p17, List.forall_mem_cons.mpr ⟨lw_p18, List.forall_mem_cons.mpr ⟨lw_p19, List.forall_mem_cons.mpr ⟨lw_p20, List.forall_mem_cons.mpr ⟨lw_p21, List.forall_mem_cons.mpr ⟨lw_p22, List.forall_mem_cons.mpr ⟨lw_p23, List.forall_mem_cons.mpr ⟨lw_p24, List.forall_mem_cons.mpr ⟨lw_p25, fun _ h => absurd h List.not_mem_nil⟩⟩⟩⟩⟩⟩⟩⟩⟩⟩
def lw_privs : List (MethodName × Nat) := lw_privs_1 ++ (lw_privs_2)
def lw_tbl : List Cond := k2_sels lw_privs ++ tables_1
theorem lw_privs_ok : ∀ q ∈ lw_privs, lw_okq q := by
  show ∀ q ∈ lw_privs_1 ++ (lw_privs_2), lw_okq q
  exact List.forall_mem_append.mpr ⟨lw_r1, lw_r2⟩
-- ===== end of PART A; then your names; then what follows =====
/-! ===== BEGIN printed: names, fields, word lists, decode rows ===== -/
def RX0 : String := "DroppingBalls$Clock"
def TX0 : u_T := fun k => match k with
  | 0 => ("DroppingBalls$Clock", "vesselCount", "I", false)
  | 1 => ("DroppingBalls$Clock", "area", "[I", true)
  | 2 => ("DroppingBalls$Clock", "height", "[I", true)
  | 3 => ("DroppingBalls$Clock", "hole", "[I", true)
  | 4 => ("DroppingBalls$Clock", "full", "[I", true)
  | 5 => ("DroppingBalls$Clock", "cylinderArea", "I", false)
  | 6 => ("DroppingBalls$Clock", "cylinderHeight", "I", false)
  | 7 => ("DroppingBalls$Clock", "supply", "I", false)
  | 8 => ("DroppingBalls$Clock", "ballCount", "I", false)
  | _ => ("DroppingBalls$Clock", "marks", "[I", true)
def tyX0 : Nat → FieldType := fun k => match k with
  | 0 => .int
  | 1 => .array .int
  | 2 => .array .int
  | 3 => .array .int
  | 4 => .array .int
  | 5 => .int
  | 6 => .int
  | 7 => .int
  | 8 => .int
  | _ => .array .int
abbrev wsX00 : List Cond := u_ws RX0 TX0 10
theorem nmX0 : ∀ a, a < 10 → ∀ b, b < 10 → a ≠ b → (TX0 a).2.1 ≠ (TX0 b).2.1 := by decide +kernel
theorem tyX0_ok : ∀ k, k < 10 → parseFieldDescriptor (TX0 k).2.2.1 = some (tyX0 k) := by decide +kernel
abbrev cX0_init : ByteArray := prog_2_method_1_code
def yX0_init : MethodName := ⟨RX0, "<init>", "()V"⟩
abbrev cX0_copyFrom : ByteArray := prog_2_method_2_code
def yX0_copyFrom : MethodName := ⟨RX0, "copyFrom", "(LDroppingBalls$Clock;)V"⟩
abbrev cX0_hasVessel : ByteArray := prog_2_method_3_code
def yX0_hasVessel : MethodName := ⟨RX0, "hasVessel", "(I)Z"⟩
abbrev cX0_hasBall : ByteArray := prog_2_method_4_code
def yX0_hasBall : MethodName := ⟨RX0, "hasBall", "(I)Z"⟩
abbrev cX0_addVessel : ByteArray := prog_2_method_5_code
def yX0_addVessel : MethodName := ⟨RX0, "addVessel", "(III)V"⟩
abbrev cX0_addMark : ByteArray := prog_2_method_6_code
def yX0_addMark : MethodName := ⟨RX0, "addMark", "(I)V"⟩
abbrev cX0_trueTick : ByteArray := prog_2_method_12_code
def yX0_trueTick : MethodName := ⟨RX0, "trueTick", "(II)I"⟩
def RX1 : String := "DroppingBalls$Evidence"
def TX1 : u_T := fun k => match k with
  | 0 => ("DroppingBalls$Evidence", "least", "[I", true)
  | 1 => ("DroppingBalls$Evidence", "most", "[I", true)
  | 2 => ("DroppingBalls$Evidence", "lastTick", "I", false)
  | _ => ("DroppingBalls$Evidence", "isImpossible", "Z", false)
def tyX1 : Nat → FieldType := fun k => match k with
  | 0 => .array .int
  | 1 => .array .int
  | 2 => .int
  | _ => .boolean
abbrev wsX10 : List Cond := u_ws RX1 TX1 4
theorem nmX1 : ∀ a, a < 4 → ∀ b, b < 4 → a ≠ b → (TX1 a).2.1 ≠ (TX1 b).2.1 := by decide +kernel
theorem tyX1_ok : ∀ k, k < 4 → parseFieldDescriptor (TX1 k).2.2.1 = some (tyX1 k) := by decide +kernel
abbrev cX1_init : ByteArray := prog_3_method_1_code
def yX1_init : MethodName := ⟨RX1, "<init>", "()V"⟩
def RX2 : String := "DroppingBalls$Fault"
def TX2 : u_T := fun k => match k with
  | 0 => ("DroppingBalls$Fault", "kind", "I", false)
  | 1 => ("DroppingBalls$Fault", "vessel", "I", false)
  | 2 => ("DroppingBalls$Fault", "n", "I", false)
  | _ => ("DroppingBalls$Fault", "from", "I", false)
def tyX2 : Nat → FieldType := fun k => match k with
  | 0 => .int
  | 1 => .int
  | 2 => .int
  | _ => .int
abbrev wsX20 : List Cond := u_ws RX2 TX2 4
theorem nmX2 : ∀ a, a < 4 → ∀ b, b < 4 → a ≠ b → (TX2 a).2.1 ≠ (TX2 b).2.1 := by decide +kernel
theorem tyX2_ok : ∀ k, k < 4 → parseFieldDescriptor (TX2 k).2.2.1 = some (tyX2 k) := by decide +kernel
abbrev cX2_init : ByteArray := prog_4_method_1_code
def yX2_init : MethodName := ⟨RX2, "<init>", "()V"⟩
abbrev cX2_become : ByteArray := prog_4_method_2_code
def yX2_become : MethodName := ⟨RX2, "become", "(IIII)V"⟩
abbrev cX2_holeOf : ByteArray := prog_4_method_3_code
def yX2_holeOf : MethodName := ⟨RX2, "holeOf", "(III)I"⟩
abbrev cX2_warmthOf : ByteArray := prog_4_method_4_code
def yX2_warmthOf : MethodName := ⟨RX2, "warmthOf", "(II)I"⟩
abbrev cX2_leakAt : ByteArray := prog_4_method_5_code
def yX2_leakAt : MethodName := ⟨RX2, "leakAt", "(I)I"⟩
def RX3 : String := "DroppingBalls$Page"
def TX3 : u_T := fun k => match k with
  | 0 => ("DroppingBalls$Page", "letters", "[C", true)
  | 1 => ("DroppingBalls$Page", "length", "I", false)
  | _ => ("DroppingBalls$Page", "place", "I", false)
def tyX3 : Nat → FieldType := fun k => match k with
  | 0 => .array .char
  | 1 => .int
  | _ => .int
abbrev wsX30 : List Cond := u_ws RX3 TX3 3
theorem nmX3 : ∀ a, a < 3 → ∀ b, b < 3 → a ≠ b → (TX3 a).2.1 ≠ (TX3 b).2.1 := by decide +kernel
theorem tyX3_ok : ∀ k, k < 3 → parseFieldDescriptor (TX3 k).2.2.1 = some (tyX3 k) := by decide +kernel
abbrev cX3_init : ByteArray := prog_5_method_1_code
def yX3_init : MethodName := ⟨RX3, "<init>", "()V"⟩
abbrev cX3_add : ByteArray := prog_5_method_2_code
def yX3_add : MethodName := ⟨RX3, "add", "(C)V"⟩
abbrev cX3_codeAt : ByteArray := prog_5_method_3_code
def yX3_codeAt : MethodName := ⟨RX3, "codeAt", "(I)I"⟩
abbrev cX3_readClock : ByteArray := prog_5_method_4_code
def yX3_readClock : MethodName := ⟨RX3, "readClock", "(LDroppingBalls$Clock;)Z"⟩
abbrev cX3_readVessels : ByteArray := prog_5_method_5_code
def yX3_readVessels : MethodName := ⟨RX3, "readVessels", "(LDroppingBalls$Clock;)Z"⟩
abbrev cX3_readVessel : ByteArray := prog_5_method_6_code
def yX3_readVessel : MethodName := ⟨RX3, "readVessel", "(LDroppingBalls$Clock;)Z"⟩
abbrev cX3_readCylinder : ByteArray := prog_5_method_7_code
def yX3_readCylinder : MethodName := ⟨RX3, "readCylinder", "(LDroppingBalls$Clock;)Z"⟩
abbrev cX3_readSupply : ByteArray := prog_5_method_8_code
def yX3_readSupply : MethodName := ⟨RX3, "readSupply", "(LDroppingBalls$Clock;)Z"⟩
abbrev cX3_readMarks : ByteArray := prog_5_method_9_code
def yX3_readMarks : MethodName := ⟨RX3, "readMarks", "(LDroppingBalls$Clock;)Z"⟩
abbrev cX3_readSign : ByteArray := prog_5_method_10_code
def yX3_readSign : MethodName := ⟨RX3, "readSign", "(C)Z"⟩
abbrev cX3_readNumber : ByteArray := prog_5_method_11_code
def yX3_readNumber : MethodName := ⟨RX3, "readNumber", "(II)I"⟩
abbrev cX3_canStart : ByteArray := prog_5_method_12_code
def yX3_canStart : MethodName := ⟨RX3, "canStart", "(III)Z"⟩
abbrev cX3_figureHere : ByteArray := prog_5_method_13_code
def yX3_figureHere : MethodName := ⟨RX3, "figureHere", "()I"⟩
def RX4 : String := "DroppingBalls$Play"
def TX4 : u_T := fun k => match k with
  | 0 => ("DroppingBalls$Play", "timesStruck", "[I", true)
  | 1 => ("DroppingBalls$Play", "stuck", "[Z", true)
  | 2 => ("DroppingBalls$Play", "doorFreeFrom", "[I", true)
  | 3 => ("DroppingBalls$Play", "cranks", "[LDroppingBalls$Work;", true)
  | 4 => ("DroppingBalls$Play", "crankTicks", "[I", true)
  | 5 => ("DroppingBalls$Play", "crankCount", "I", false)
  | 6 => ("DroppingBalls$Play", "cameOut", "[I", true)
  | 7 => ("DroppingBalls$Play", "outCount", "I", false)
  | 8 => ("DroppingBalls$Play", "ballsStruck", "I", false)
  | 9 => ("DroppingBalls$Play", "strokes", "I", false)
  | 10 => ("DroppingBalls$Play", "firstStuck", "I", false)
  | _ => ("DroppingBalls$Play", "stuckTick", "I", false)
def tyX4 : Nat → FieldType := fun k => match k with
  | 0 => .array .int
  | 1 => .array .boolean
  | 2 => .array .int
  | 3 => .array (.object "DroppingBalls$Work")
  | 4 => .array .int
  | 5 => .int
  | 6 => .array .int
  | 7 => .int
  | 8 => .int
  | 9 => .int
  | 10 => .int
  | _ => .int
abbrev wsX40 : List Cond := u_ws RX4 TX4 12
theorem nmX4 : ∀ a, a < 12 → ∀ b, b < 12 → a ≠ b → (TX4 a).2.1 ≠ (TX4 b).2.1 := by decide +kernel
theorem tyX4_ok : ∀ k, k < 12 → parseFieldDescriptor (TX4 k).2.2.1 = some (tyX4 k) := by decide +kernel
abbrev cX4_init : ByteArray := prog_6_method_1_code
def yX4_init : MethodName := ⟨RX4, "<init>", "()V"⟩
abbrev cX4_start : ByteArray := prog_6_method_2_code
def yX4_start : MethodName := ⟨RX4, "start", "()V"⟩
abbrev cX4_goThrough : ByteArray := prog_6_method_3_code
def yX4_goThrough : MethodName := ⟨RX4, "goThrough", "(IILDroppingBalls$Work;)V"⟩
abbrev cX4_strike : ByteArray := prog_6_method_4_code
def yX4_strike : MethodName := ⟨RX4, "strike", "(LDroppingBalls$Work;I)V"⟩
abbrev cX4_strikesOn : ByteArray := prog_6_method_5_code
def yX4_strikesOn : MethodName := ⟨RX4, "strikesOn", "(LDroppingBalls$Work;I)Z"⟩
abbrev cX4_comesOut : ByteArray := prog_6_method_6_code
def yX4_comesOut : MethodName := ⟨RX4, "comesOut", "(LDroppingBalls$Work;I)Z"⟩
abbrev cX4_turn : ByteArray := prog_6_method_7_code
def yX4_turn : MethodName := ⟨RX4, "turn", "(LDroppingBalls$Work;I)V"⟩
abbrev cX4_isCountedOut : ByteArray := prog_6_method_8_code
def yX4_isCountedOut : MethodName := ⟨RX4, "isCountedOut", "(LDroppingBalls$Work;)Z"⟩
abbrev cX4_measure : ByteArray := prog_6_method_9_code
def yX4_measure : MethodName := ⟨RX4, "measure", "(I)I"⟩
abbrev cX4_figureOf : ByteArray := prog_6_method_10_code
def yX4_figureOf : MethodName := ⟨RX4, "figureOf", "(I)I"⟩
def RX5 : String := "DroppingBalls$Run"
def TX5 : u_T := fun k => match k with
  | 0 => ("DroppingBalls$Run", "clock", "LDroppingBalls$Clock;", false)
  | 1 => ("DroppingBalls$Run", "fault", "LDroppingBalls$Fault;", false)
  | 2 => ("DroppingBalls$Run", "warmth", "I", false)
  | 3 => ("DroppingBalls$Run", "tick", "I", false)
  | 4 => ("DroppingBalls$Run", "water", "[I", true)
  | 5 => ("DroppingBalls$Run", "cylinder", "I", false)
  | 6 => ("DroppingBalls$Run", "poured", "I", false)
  | 7 => ("DroppingBalls$Run", "ranOver", "I", false)
  | 8 => ("DroppingBalls$Run", "leaked", "I", false)
  | 9 => ("DroppingBalls$Run", "emptied", "I", false)
  | 10 => ("DroppingBalls$Run", "dropped", "I", false)
  | 11 => ("DroppingBalls$Run", "dropTicks", "[I", true)
  | 12 => ("DroppingBalls$Run", "leastIn", "I", false)
  | _ => ("DroppingBalls$Run", "mostIn", "I", false)
def tyX5 : Nat → FieldType := fun k => match k with
  | 0 => .object "DroppingBalls$Clock"
  | 1 => .object "DroppingBalls$Fault"
  | 2 => .int
  | 3 => .int
  | 4 => .array .int
  | 5 => .int
  | 6 => .int
  | 7 => .int
  | 8 => .int
  | 9 => .int
  | 10 => .int
  | 11 => .array .int
  | 12 => .int
  | _ => .int
abbrev wsX50 : List Cond := u_ws RX5 TX5 14
theorem nmX5 : ∀ a, a < 14 → ∀ b, b < 14 → a ≠ b → (TX5 a).2.1 ≠ (TX5 b).2.1 := by decide +kernel
theorem tyX5_ok : ∀ k, k < 14 → parseFieldDescriptor (TX5 k).2.2.1 = some (tyX5 k) := by decide +kernel
abbrev cX5_init : ByteArray := prog_7_method_1_code
def yX5_init : MethodName := ⟨RX5, "<init>", "(LDroppingBalls$Clock;LDroppingBalls$Fault;)V"⟩
abbrev cX5_start : ByteArray := prog_7_method_2_code
def yX5_start : MethodName := ⟨RX5, "start", "(LDroppingBalls$Clock;ILDroppingBalls$Fault;)V"⟩
abbrev cX5_goOnTo : ByteArray := prog_7_method_4_code
def yX5_goOnTo : MethodName := ⟨RX5, "goOnTo", "(I)V"⟩
abbrev cX5_advance : ByteArray := prog_7_method_5_code
def yX5_advance : MethodName := ⟨RX5, "advance", "()V"⟩
abbrev cX5_drip : ByteArray := prog_7_method_6_code
def yX5_drip : MethodName := ⟨RX5, "drip", "()V"⟩
abbrev cX5_leak : ByteArray := prog_7_method_7_code
def yX5_leak : MethodName := ⟨RX5, "leak", "()V"⟩
abbrev cX5_dropBalls : ByteArray := prog_7_method_8_code
def yX5_dropBalls : MethodName := ⟨RX5, "dropBalls", "()V"⟩
abbrev cX5_siphon : ByteArray := prog_7_method_9_code
def yX5_siphon : MethodName := ⟨RX5, "siphon", "()V"⟩
abbrev cX5_tickOf : ByteArray := prog_7_method_11_code
def yX5_tickOf : MethodName := ⟨RX5, "tickOf", "(I)I"⟩
abbrev cX5_errorOf : ByteArray := prog_7_method_12_code
def yX5_errorOf : MethodName := ⟨RX5, "errorOf", "(II)I"⟩
abbrev cX5_errorSize : ByteArray := prog_7_method_13_code
def yX5_errorSize : MethodName := ⟨RX5, "errorSize", "(II)I"⟩
abbrev cX5_measure : ByteArray := prog_7_method_18_code
def yX5_measure : MethodName := ⟨RX5, "measure", "(I)I"⟩
def RX6 : String := "DroppingBalls$Setting"
def TX6 : u_T := fun k => match k with
  | 0 => ("DroppingBalls$Setting", "warmth", "[I", true)
  | 1 => ("DroppingBalls$Setting", "daylight", "[I", true)
  | 2 => ("DroppingBalls$Setting", "log", "[I", true)
  | _ => ("DroppingBalls$Setting", "head", "I", false)
def tyX6 : Nat → FieldType := fun k => match k with
  | 0 => .array .int
  | 1 => .array .int
  | 2 => .array .int
  | _ => .int
abbrev wsX60 : List Cond := u_ws RX6 TX6 4
theorem nmX6 : ∀ a, a < 4 → ∀ b, b < 4 → a ≠ b → (TX6 a).2.1 ≠ (TX6 b).2.1 := by decide +kernel
theorem tyX6_ok : ∀ k, k < 4 → parseFieldDescriptor (TX6 k).2.2.1 = some (tyX6 k) := by decide +kernel
abbrev cX6_init : ByteArray := prog_8_method_1_code
def yX6_init : MethodName := ⟨RX6, "<init>", "()V"⟩
abbrev cX6_ballsTold : ByteArray := prog_8_method_3_code
def yX6_ballsTold : MethodName := ⟨RX6, "ballsTold", "()I"⟩
def RX7 : String := "DroppingBalls$Work"
def TX7 : u_T := fun k => match k with
  | 0 => ("DroppingBalls$Work", "number", "I", true)
  | 1 => ("DroppingBalls$Work", "kind", "I", true)
  | 2 => ("DroppingBalls$Work", "n", "I", true)
  | _ => ("DroppingBalls$Work", "next", "LDroppingBalls$Work;", true)
def tyX7 : Nat → FieldType := fun k => match k with
  | 0 => .int
  | 1 => .int
  | 2 => .int
  | _ => .object "DroppingBalls$Work"
abbrev wsX70 : List Cond := u_ws RX7 TX7 4
theorem nmX7 : ∀ a, a < 4 → ∀ b, b < 4 → a ≠ b → (TX7 a).2.1 ≠ (TX7 b).2.1 := by decide +kernel
theorem tyX7_ok : ∀ k, k < 4 → parseFieldDescriptor (TX7 k).2.2.1 = some (tyX7 k) := by decide +kernel
abbrev cX7_init : ByteArray := prog_9_method_1_code
def yX7_init : MethodName := ⟨RX7, "<init>", "(IIILDroppingBalls$Work;)V"⟩
def RX8 : String := "DroppingBalls"
def TX8 : u_T := fun k => match k with
  | 0 => ("DroppingBalls", "clocks", "[LDroppingBalls$Clock;", true)
  | 1 => ("DroppingBalls", "faults", "[LDroppingBalls$Fault;", true)
  | 2 => ("DroppingBalls", "works", "[LDroppingBalls$Work;", true)
  | 3 => ("DroppingBalls", "clockCount", "I", false)
  | 4 => ("DroppingBalls", "faultCount", "I", false)
  | 5 => ("DroppingBalls", "workCount", "I", false)
  | 6 => ("DroppingBalls", "page", "LDroppingBalls$Page;", true)
  | 7 => ("DroppingBalls", "setting", "LDroppingBalls$Setting;", true)
  | 8 => ("DroppingBalls", "image", "LDroppingBalls$Setting;", true)
  | 9 => ("DroppingBalls", "hasImage", "Z", false)
  | 10 => ("DroppingBalls", "searches", "I", false)
  | 11 => ("DroppingBalls", "spareClock", "LDroppingBalls$Clock;", true)
  | 12 => ("DroppingBalls", "noFault", "LDroppingBalls$Fault;", true)
  | 13 => ("DroppingBalls", "trialFault", "LDroppingBalls$Fault;", true)
  | 14 => ("DroppingBalls", "run", "LDroppingBalls$Run;", true)
  | 15 => ("DroppingBalls", "trialRun", "LDroppingBalls$Run;", true)
  | 16 => ("DroppingBalls", "play", "LDroppingBalls$Play;", true)
  | 17 => ("DroppingBalls", "evidence", "LDroppingBalls$Evidence;", true)
  | _ => ("DroppingBalls", "worstFound", "[I", true)
def tyX8 : Nat → FieldType := fun k => match k with
  | 0 => .array (.object "DroppingBalls$Clock")
  | 1 => .array (.object "DroppingBalls$Fault")
  | 2 => .array (.object "DroppingBalls$Work")
  | 3 => .int
  | 4 => .int
  | 5 => .int
  | 6 => .object "DroppingBalls$Page"
  | 7 => .object "DroppingBalls$Setting"
  | 8 => .object "DroppingBalls$Setting"
  | 9 => .boolean
  | 10 => .int
  | 11 => .object "DroppingBalls$Clock"
  | 12 => .object "DroppingBalls$Fault"
  | 13 => .object "DroppingBalls$Fault"
  | 14 => .object "DroppingBalls$Run"
  | 15 => .object "DroppingBalls$Run"
  | 16 => .object "DroppingBalls$Play"
  | 17 => .object "DroppingBalls$Evidence"
  | _ => .array .int
abbrev wsX80 : List Cond := u_ws RX8 TX8 19
theorem nmX8 : ∀ a, a < 19 → ∀ b, b < 19 → a ≠ b → (TX8 a).2.1 ≠ (TX8 b).2.1 := by decide +kernel
theorem tyX8_ok : ∀ k, k < 19 → parseFieldDescriptor (TX8 k).2.2.1 = some (tyX8 k) := by decide +kernel
abbrev cX8_init : ByteArray := prog_1_method_1_code
def yX8_init : MethodName := ⟨RX8, "<init>", "()V"⟩
abbrev cX8_letters : ByteArray := prog_1_method_2_code
def yX8_letters : MethodName := ⟨RX8, "letters", "(J)I"⟩
abbrev cX8_fault : ByteArray := prog_1_method_4_code
def yX8_fault : MethodName := ⟨RX8, "fault", "()I"⟩
abbrev cX8_clock : ByteArray := prog_1_method_5_code
def yX8_clock : MethodName := ⟨RX8, "clock", "()I"⟩
abbrev cX8_season : ByteArray := prog_1_method_7_code
def yX8_season : MethodName := ⟨RX8, "season", "(III)I"⟩
abbrev cX8_faulty : ByteArray := prog_1_method_8_code
def yX8_faulty : MethodName := ⟨RX8, "faulty", "(IIII)I"⟩
abbrev cX8_as : ByteArray := prog_1_method_9_code
def yX8_as : MethodName := ⟨RX8, "as", "(II)I"⟩
abbrev cX8_work : ByteArray := prog_1_method_10_code
def yX8_work : MethodName := ⟨RX8, "work", "(III)I"⟩
abbrev cX8_workAs : ByteArray := prog_1_method_11_code
def yX8_workAs : MethodName := ⟨RX8, "workAs", "(II)I"⟩
abbrev cX8_head : ByteArray := prog_1_method_12_code
def yX8_head : MethodName := ⟨RX8, "head", "(I)I"⟩
abbrev cX8_drops : ByteArray := prog_1_method_13_code
def yX8_drops : MethodName := ⟨RX8, "drops", "(IIII)I"⟩
abbrev cX8_error : ByteArray := prog_1_method_14_code
def yX8_error : MethodName := ⟨RX8, "error", "(IIII)I"⟩
abbrev cX8_at : ByteArray := prog_1_method_15_code
def yX8_at : MethodName := ⟨RX8, "at", "(IIIII)I"⟩
abbrev cX8_even : ByteArray := prog_1_method_16_code
def yX8_even : MethodName := ⟨RX8, "even", "(IIII)I"⟩
abbrev cX8_mean : ByteArray := prog_1_method_17_code
def yX8_mean : MethodName := ⟨RX8, "mean", "(IIII)I"⟩
abbrev cX8_shows : ByteArray := prog_1_method_18_code
def yX8_shows : MethodName := ⟨RX8, "shows", "(IIII)I"⟩
abbrev cX8_worst : ByteArray := prog_1_method_19_code
def yX8_worst : MethodName := ⟨RX8, "worst", "(II)I"⟩
abbrev cX8_better : ByteArray := prog_1_method_20_code
def yX8_better : MethodName := ⟨RX8, "better", "(II)I"⟩
abbrev cX8_count : ByteArray := prog_1_method_32_code
def yX8_count : MethodName := ⟨RX8, "count", "(I)I"⟩
abbrev cX8_startRun : ByteArray := prog_1_method_38_code
def yX8_startRun : MethodName := ⟨RX8, "startRun", "(III)Z"⟩
abbrev cX8_playRun : ByteArray := prog_1_method_39_code
def yX8_playRun : MethodName := ⟨RX8, "playRun", "()V"⟩
abbrev cX8_findWorst : ByteArray := prog_1_method_40_code
def yX8_findWorst : MethodName := ⟨RX8, "findWorst", "(LDroppingBalls$Clock;)V"⟩
abbrev cX8_isIn : ByteArray := prog_1_method_45_code
def yX8_isIn : MethodName := ⟨RX8, "isIn", "(III)Z"⟩
abbrev cX8_isSeason : ByteArray := prog_1_method_46_code
def yX8_isSeason : MethodName := ⟨RX8, "isSeason", "(I)Z"⟩
abbrev cX8_isTick : ByteArray := prog_1_method_47_code
def yX8_isTick : MethodName := ⟨RX8, "isTick", "(I)Z"⟩
abbrev cX8_isKind : ByteArray := prog_1_method_48_code
def yX8_isKind : MethodName := ⟨RX8, "isKind", "(I)Z"⟩
abbrev cX8_isWorkOrNone : ByteArray := prog_1_method_49_code
def yX8_isWorkOrNone : MethodName := ⟨RX8, "isWorkOrNone", "(I)Z"⟩
abbrev cX8_clockOf : ByteArray := prog_1_method_51_code
def yX8_clockOf : MethodName := ⟨RX8, "clockOf", "(I)LDroppingBalls$Clock;"⟩
abbrev cX8_faultOf : ByteArray := prog_1_method_52_code
def yX8_faultOf : MethodName := ⟨RX8, "faultOf", "(I)LDroppingBalls$Fault;"⟩
abbrev cX8_workOf : ByteArray := prog_1_method_53_code
def yX8_workOf : MethodName := ⟨RX8, "workOf", "(I)LDroppingBalls$Work;"⟩
abbrev cX8_warmthOf : ByteArray := prog_1_method_54_code
def yX8_warmthOf : MethodName := ⟨RX8, "warmthOf", "(I)I"⟩
abbrev cX8_daylightOf : ByteArray := prog_1_method_55_code
def yX8_daylightOf : MethodName := ⟨RX8, "daylightOf", "(I)I"⟩
abbrev cX8_isFaultOfKind : ByteArray := prog_1_method_56_code
def yX8_isFaultOfKind : MethodName := ⟨RX8, "isFaultOfKind", "(II)Z"⟩
abbrev cX8_isWorkOfKind : ByteArray := prog_1_method_57_code
def yX8_isWorkOfKind : MethodName := ⟨RX8, "isWorkOfKind", "(II)Z"⟩
abbrev cX8_leastNumber : ByteArray := prog_1_method_58_code
def yX8_leastNumber : MethodName := ⟨RX8, "leastNumber", "(I)I"⟩
abbrev cX8_mostNumber : ByteArray := prog_1_method_59_code
def yX8_mostNumber : MethodName := ⟨RX8, "mostNumber", "(I)I"⟩
abbrev cX8_quotient : ByteArray := prog_1_method_60_code
def yX8_quotient : MethodName := ⟨RX8, "quotient", "(II)I"⟩
abbrev cX8_commonMeasure : ByteArray := prog_1_method_61_code
def yX8_commonMeasure : MethodName := ⟨RX8, "commonMeasure", "(II)I"⟩
abbrev cX8_exchange : ByteArray := prog_1_method_62_code
def yX8_exchange : MethodName := ⟨RX8, "exchange", "([III)I"⟩
abbrev cX8_byteOf : ByteArray := prog_1_method_63_code
def yX8_byteOf : MethodName := ⟨RX8, "byteOf", "(JI)I"⟩
abbrev cX8_lettersIn : ByteArray := prog_1_method_64_code
def yX8_lettersIn : MethodName := ⟨RX8, "lettersIn", "(J)I"⟩
def RX9 : String := "DroppingBallsModel"
def TX9 : u_T := fun k => match k with
  | _ => ("", "", "", false)
def tyX9 : Nat → FieldType := fun k => match k with
  | _ => .int
abbrev wsX90 : List Cond := u_ws RX9 TX9 0
theorem nmX9 : ∀ a, a < 0 → ∀ b, b < 0 → a ≠ b → (TX9 a).2.1 ≠ (TX9 b).2.1 := by decide +kernel
theorem tyX9_ok : ∀ k, k < 0 → parseFieldDescriptor (TX9 k).2.2.1 = some (tyX9 k) := by decide +kernel
def RJ9 : String := "java/lang/Math"
def TJ9 : u_T := fun k => match k with
  | _ => ("", "", "", false)
def tyJ9 : Nat → FieldType := fun k => match k with
  | _ => .int
abbrev wsJ90 : List Cond := u_ws RJ9 TJ9 0
theorem nmJ9 : ∀ a, a < 0 → ∀ b, b < 0 → a ≠ b → (TJ9 a).2.1 ≠ (TJ9 b).2.1 := by decide +kernel
theorem tyJ9_ok : ∀ k, k < 0 → parseFieldDescriptor (TJ9 k).2.2.1 = some (tyJ9 k) := by decide +kernel
abbrev cJ9_abs_0f7a4 : ByteArray := prog_12_method_59_code
def yJ9_abs_0f7a4 : MethodName := ⟨RJ9, "abs", "(I)I"⟩
abbrev cJ9_max_7cf53 : ByteArray := prog_12_method_65_code
def yJ9_max_7cf53 : MethodName := ⟨RJ9, "max", "(II)I"⟩
abbrev cJ9_min_7cf53 : ByteArray := prog_12_method_69_code
def yJ9_min_7cf53 : MethodName := ⟨RJ9, "min", "(II)I"⟩
def RJ7 : String := "java/util/Arrays"
def TJ7 : u_T := fun k => match k with
  | _ => ("", "", "", false)
def tyJ7 : Nat → FieldType := fun k => match k with
  | _ => .int
abbrev wsJ70 : List Cond := u_ws RJ7 TJ7 0
theorem nmJ7 : ∀ a, a < 0 → ∀ b, b < 0 → a ≠ b → (TJ7 a).2.1 ≠ (TJ7 b).2.1 := by decide +kernel
theorem tyJ7_ok : ∀ k, k < 0 → parseFieldDescriptor (TJ7 k).2.2.1 = some (tyJ7 k) := by decide +kernel
abbrev cJ7_fill_53178 : ByteArray := prog_13_method_103_code
def yJ7_fill_53178 : MethodName := ⟨RJ7, "fill", "([II)V"⟩
def RL : String := "DroppingBallsLaw"
abbrev cL_cell : ByteArray := method_2_code
def yL_cell : MethodName := ⟨RL, "cell", "([II)I"⟩
abbrev cL_put : ByteArray := method_3_code
def yL_put : MethodName := ⟨RL, "put", "(LDroppingBalls;I)Z"⟩
abbrev cL_number : ByteArray := method_4_code
def yL_number : MethodName := ⟨RL, "number", "(LDroppingBalls;I)Z"⟩
abbrev cL_clock : ByteArray := method_5_code
def yL_clock : MethodName := ⟨RL, "clock", "(LDroppingBalls;IIII[I)Z"⟩
abbrev cL_run : ByteArray := method_6_code
def yL_run : MethodName := ⟨RL, "run", "([IIIIIII[I)V"⟩
abbrev cL_size : ByteArray := method_7_code
def yL_size : MethodName := ⟨RL, "size", "(I)I"⟩
abbrev cL_law : ByteArray := code
def yL_law : MethodName := ⟨RL, "law", "([I)Z"⟩
abbrev vwCl : List vw_C := [(RX0, TX0, 10), (RX1, TX1, 4), (RX2, TX2, 4), (RX3, TX3, 3), (RX4, TX4, 12), (RX5, TX5, 14), (RX6, TX6, 4), (RX7, TX7, 4), (RX8, TX8, 19)]
