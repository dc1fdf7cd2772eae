/-! tables of the printed functions: methods, links, classes -/
theorem am_c1 (q : Option Nat) : (va_rf q).category = 1 := by cases q <;> rfl
abbrev miX3_init : am_M := (yX3_init, cX3_init, 1, none, 1, 20)
set_option maxRecDepth 100000 in
theorem mokX3_init : am_mok miX3_init 0 := ⟨am_inW 56 (by rfl) rfl, am_inW 28 (by decide +kernel) rfl, ⟨by decide +kernel, by decide +kernel, by decide +kernel⟩, by decide +kernel⟩
abbrev miJ7_fill_53178 : am_M := (yJ7_fill_53178, cJ7_fill_53178, 4, none, 0, 0)
set_option maxRecDepth 100000 in
theorem mokJ7_fill_53178 : am_mok miJ7_fill_53178 2 := ⟨am_inW 79 (by rfl) rfl, am_inW 30 (by decide +kernel) rfl, ⟨by decide +kernel, by decide +kernel, by decide +kernel⟩, by decide +kernel⟩
abbrev miX6_init : am_M := (yX6_init, cX6_init, 1, none, 1, 23)
set_option maxRecDepth 100000 in
theorem mokX6_init : am_mok miX6_init 0 := ⟨am_inW 75 (by rfl) rfl, am_inW 29 (by decide +kernel) rfl, ⟨by decide +kernel, by decide +kernel, by decide +kernel⟩, by decide +kernel⟩
abbrev miX0_init : am_M := (yX0_init, cX0_init, 1, none, 1, 20)
set_option maxRecDepth 100000 in
theorem mokX0_init : am_mok miX0_init 0 := ⟨am_inW 100 (by rfl) rfl, am_inW 31 (by decide +kernel) rfl, ⟨by decide +kernel, by decide +kernel, by decide +kernel⟩, by decide +kernel⟩
abbrev miX2_init : am_M := (yX2_init, cX2_init, 1, none, 1, 20)
set_option maxRecDepth 100000 in
theorem mokX2_init : am_mok miX2_init 0 := ⟨am_inW 151 (by rfl) rfl, am_inW 32 (by decide +kernel) rfl, ⟨by decide +kernel, by decide +kernel, by decide +kernel⟩, by decide +kernel⟩
abbrev miX5_init : am_M := (yX5_init, cX5_init, 3, none, 1, 20)
set_option maxRecDepth 100000 in
theorem mokX5_init : am_mok miX5_init 2 := ⟨am_inW 172 (by rfl) rfl, am_inW 33 (by decide +kernel) rfl, ⟨by decide +kernel, by decide +kernel, by decide +kernel⟩, by decide +kernel⟩
abbrev miX4_init : am_M := (yX4_init, cX4_init, 1, none, 1, 20)
set_option maxRecDepth 100000 in
theorem mokX4_init : am_mok miX4_init 0 := ⟨am_inW 225 (by rfl) rfl, am_inW 34 (by decide +kernel) rfl, ⟨by decide +kernel, by decide +kernel, by decide +kernel⟩, by decide +kernel⟩
abbrev miX1_init : am_M := (yX1_init, cX1_init, 1, none, 1, 20)
set_option maxRecDepth 100000 in
theorem mokX1_init : am_mok miX1_init 0 := ⟨am_inW 270 (by rfl) rfl, am_inW 35 (by decide +kernel) rfl, ⟨by decide +kernel, by decide +kernel, by decide +kernel⟩, by decide +kernel⟩
abbrev miX8_init : am_M := (yX8_init, cX8_init, 1, none, 2, 43)
set_option maxRecDepth 100000 in
theorem mokX8_init : am_mok miX8_init 0 := ⟨am_inW 42 (by rfl) rfl, am_inW 27 (by decide +kernel) rfl, ⟨by decide +kernel, by decide +kernel, by decide +kernel⟩, by decide +kernel⟩
abbrev miL_cell : am_M := (yL_cell, cL_cell, 2, some (.int), 0, 0)
set_option maxRecDepth 100000 in
theorem mokL_cell : am_mok miL_cell 2 := ⟨am_inW 617 (by rfl) rfl, am_inW 26 (by decide +kernel) rfl, ⟨by decide +kernel, by decide +kernel, by decide +kernel⟩, by decide +kernel⟩
abbrev miX8_byteOf : am_M := (yX8_byteOf, cX8_byteOf, 3, some (.int), 0, 0)
set_option maxRecDepth 100000 in
theorem mokX8_byteOf : am_mok miX8_byteOf 2 := ⟨am_inW 635 (by rfl) rfl, am_inW 27 (by decide +kernel) rfl, ⟨by decide +kernel, by decide +kernel, by decide +kernel⟩, by decide +kernel⟩
abbrev miX8_lettersIn : am_M := (yX8_lettersIn, cX8_lettersIn, 6, some (.int), 1, 22)
set_option maxRecDepth 100000 in
theorem mokX8_lettersIn : am_mok miX8_lettersIn 1 := ⟨am_inW 632 (by rfl) rfl, am_inW 27 (by decide +kernel) rfl, ⟨by decide +kernel, by decide +kernel, by decide +kernel⟩, by decide +kernel⟩
abbrev miX3_add : am_M := (yX3_add, cX3_add, 2, none, 0, 0)
set_option maxRecDepth 100000 in
theorem mokX3_add : am_mok miX3_add 1 := ⟨am_inW 639 (by rfl) rfl, am_inW 28 (by decide +kernel) rfl, ⟨by decide +kernel, by decide +kernel, by decide +kernel⟩, by decide +kernel⟩
abbrev miX8_letters : am_M := (yX8_letters, cX8_letters, 5, some (.int), 2, 47)
set_option maxRecDepth 100000 in
theorem mokX8_letters : am_mok miX8_letters 1 := ⟨am_inW 629 (by rfl) rfl, am_inW 27 (by decide +kernel) rfl, ⟨by decide +kernel, by decide +kernel, by decide +kernel⟩, by decide +kernel⟩
abbrev miL_put : am_M := (yL_put, cL_put, 2, some (.boolean), 3, 71)
set_option maxRecDepth 100000 in
theorem mokL_put : am_mok miL_put 2 := ⟨am_inW 625 (by rfl) rfl, am_inW 26 (by decide +kernel) rfl, ⟨by decide +kernel, by decide +kernel, by decide +kernel⟩, by decide +kernel⟩
abbrev miL_number : am_M := (yL_number, cL_number, 2, some (.boolean), 4, 92)
set_option maxRecDepth 100000 in
theorem mokL_number : am_mok miL_number 2 := ⟨am_inW 642 (by rfl) rfl, am_inW 26 (by decide +kernel) rfl, ⟨by decide +kernel, by decide +kernel, by decide +kernel⟩, by decide +kernel⟩
abbrev miX3_codeAt : am_M := (yX3_codeAt, cX3_codeAt, 2, some (.int), 0, 0)
set_option maxRecDepth 100000 in
theorem mokX3_codeAt : am_mok miX3_codeAt 1 := ⟨am_inW 670 (by rfl) rfl, am_inW 28 (by decide +kernel) rfl, ⟨by decide +kernel, by decide +kernel, by decide +kernel⟩, by decide +kernel⟩
abbrev miX8_isIn : am_M := (yX8_isIn, cX8_isIn, 3, some (.boolean), 0, 0)
set_option maxRecDepth 100000 in
theorem mokX8_isIn : am_mok miX8_isIn 3 := ⟨am_inW 349 (by rfl) rfl, am_inW 27 (by decide +kernel) rfl, ⟨by decide +kernel, by decide +kernel, by decide +kernel⟩, by decide +kernel⟩
abbrev miX3_figureHere : am_M := (yX3_figureHere, cX3_figureHere, 2, some (.int), 1, 22)
set_option maxRecDepth 100000 in
theorem mokX3_figureHere : am_mok miX3_figureHere 0 := ⟨am_inW 666 (by rfl) rfl, am_inW 28 (by decide +kernel) rfl, ⟨by decide +kernel, by decide +kernel, by decide +kernel⟩, by decide +kernel⟩
abbrev miX3_canStart : am_M := (yX3_canStart, cX3_canStart, 5, some (.boolean), 1, 22)
set_option maxRecDepth 100000 in
theorem mokX3_canStart : am_mok miX3_canStart 3 := ⟨am_inW 674 (by rfl) rfl, am_inW 28 (by decide +kernel) rfl, ⟨by decide +kernel, by decide +kernel, by decide +kernel⟩, by decide +kernel⟩
abbrev miX3_readNumber : am_M := (yX3_readNumber, cX3_readNumber, 6, some (.int), 2, 46)
set_option maxRecDepth 100000 in
theorem mokX3_readNumber : am_mok miX3_readNumber 2 := ⟨am_inW 662 (by rfl) rfl, am_inW 28 (by decide +kernel) rfl, ⟨by decide +kernel, by decide +kernel, by decide +kernel⟩, by decide +kernel⟩
abbrev miX3_readSign : am_M := (yX3_readSign, cX3_readSign, 2, some (.boolean), 1, 21)
set_option maxRecDepth 100000 in
theorem mokX3_readSign : am_mok miX3_readSign 1 := ⟨am_inW 678 (by rfl) rfl, am_inW 28 (by decide +kernel) rfl, ⟨by decide +kernel, by decide +kernel, by decide +kernel⟩, by decide +kernel⟩
abbrev miX0_addVessel : am_M := (yX0_addVessel, cX0_addVessel, 4, none, 0, 0)
set_option maxRecDepth 100000 in
theorem mokX0_addVessel : am_mok miX0_addVessel 3 := ⟨am_inW 682 (by rfl) rfl, am_inW 31 (by decide +kernel) rfl, ⟨by decide +kernel, by decide +kernel, by decide +kernel⟩, by decide +kernel⟩
abbrev miX3_readVessel : am_M := (yX3_readVessel, cX3_readVessel, 5, some (.boolean), 3, 71)
set_option maxRecDepth 100000 in
theorem mokX3_readVessel : am_mok miX3_readVessel 1 := ⟨am_inW 658 (by rfl) rfl, am_inW 28 (by decide +kernel) rfl, ⟨by decide +kernel, by decide +kernel, by decide +kernel⟩, by decide +kernel⟩
abbrev miX3_readVessels : am_M := (yX3_readVessels, cX3_readVessels, 4, some (.boolean), 4, 95)
set_option maxRecDepth 100000 in
theorem mokX3_readVessels : am_mok miX3_readVessels 1 := ⟨am_inW 654 (by rfl) rfl, am_inW 28 (by decide +kernel) rfl, ⟨by decide +kernel, by decide +kernel, by decide +kernel⟩, by decide +kernel⟩
abbrev miX3_readCylinder : am_M := (yX3_readCylinder, cX3_readCylinder, 2, some (.boolean), 3, 71)
set_option maxRecDepth 100000 in
theorem mokX3_readCylinder : am_mok miX3_readCylinder 1 := ⟨am_inW 686 (by rfl) rfl, am_inW 28 (by decide +kernel) rfl, ⟨by decide +kernel, by decide +kernel, by decide +kernel⟩, by decide +kernel⟩
abbrev miX3_readSupply : am_M := (yX3_readSupply, cX3_readSupply, 2, some (.boolean), 3, 71)
set_option maxRecDepth 100000 in
theorem mokX3_readSupply : am_mok miX3_readSupply 1 := ⟨am_inW 690 (by rfl) rfl, am_inW 28 (by decide +kernel) rfl, ⟨by decide +kernel, by decide +kernel, by decide +kernel⟩, by decide +kernel⟩
abbrev miX0_addMark : am_M := (yX0_addMark, cX0_addMark, 2, none, 0, 0)
set_option maxRecDepth 100000 in
theorem mokX0_addMark : am_mok miX0_addMark 1 := ⟨am_inW 698 (by rfl) rfl, am_inW 31 (by decide +kernel) rfl, ⟨by decide +kernel, by decide +kernel, by decide +kernel⟩, by decide +kernel⟩
abbrev miX3_readMarks : am_M := (yX3_readMarks, cX3_readMarks, 5, some (.boolean), 3, 71)
set_option maxRecDepth 100000 in
theorem mokX3_readMarks : am_mok miX3_readMarks 1 := ⟨am_inW 694 (by rfl) rfl, am_inW 28 (by decide +kernel) rfl, ⟨by decide +kernel, by decide +kernel, by decide +kernel⟩, by decide +kernel⟩
abbrev miX3_readClock : am_M := (yX3_readClock, cX3_readClock, 2, some (.boolean), 5, 118)
set_option maxRecDepth 100000 in
theorem mokX3_readClock : am_mok miX3_readClock 1 := ⟨am_inW 650 (by rfl) rfl, am_inW 28 (by decide +kernel) rfl, ⟨by decide +kernel, by decide +kernel, by decide +kernel⟩, by decide +kernel⟩
abbrev miX8_fault : am_M := (yX8_fault, cX8_fault, 1, some (.int), 6, 139)
set_option maxRecDepth 100000 in
theorem mokX8_fault : am_mok miX8_fault 0 := ⟨am_inW 646 (by rfl) rfl, am_inW 27 (by decide +kernel) rfl, ⟨by decide +kernel, by decide +kernel, by decide +kernel⟩, by decide +kernel⟩
abbrev miX6_ballsTold : am_M := (yX6_ballsTold, cX6_ballsTold, 3, some (.int), 0, 0)
set_option maxRecDepth 100000 in
theorem mokX6_ballsTold : am_mok miX6_ballsTold 0 := ⟨am_inW 706 (by rfl) rfl, am_inW 29 (by decide +kernel) rfl, ⟨by decide +kernel, by decide +kernel, by decide +kernel⟩, by decide +kernel⟩
abbrev miX8_count : am_M := (yX8_count, cX8_count, 2, some (.int), 1, 22)
set_option maxRecDepth 100000 in
theorem mokX8_count : am_mok miX8_count 1 := ⟨am_inW 702 (by rfl) rfl, am_inW 27 (by decide +kernel) rfl, ⟨by decide +kernel, by decide +kernel, by decide +kernel⟩, by decide +kernel⟩
abbrev miX0_copyFrom : am_M := (yX0_copyFrom, cX0_copyFrom, 3, none, 0, 0)
set_option maxRecDepth 100000 in
theorem mokX0_copyFrom : am_mok miX0_copyFrom 1 := ⟨am_inW 714 (by rfl) rfl, am_inW 31 (by decide +kernel) rfl, ⟨by decide +kernel, by decide +kernel, by decide +kernel⟩, by decide +kernel⟩
abbrev miX8_clock : am_M := (yX8_clock, cX8_clock, 2, some (.int), 6, 139)
set_option maxRecDepth 100000 in
theorem mokX8_clock : am_mok miX8_clock 0 := ⟨am_inW 710 (by rfl) rfl, am_inW 27 (by decide +kernel) rfl, ⟨by decide +kernel, by decide +kernel, by decide +kernel⟩, by decide +kernel⟩
abbrev miL_clock : am_M := (yL_clock, cL_clock, 9, some (.boolean), 7, 160)
set_option maxRecDepth 100000 in
theorem mokL_clock : am_mok miL_clock 6 := ⟨am_inW 621 (by rfl) rfl, am_inW 26 (by decide +kernel) rfl, ⟨by decide +kernel, by decide +kernel, by decide +kernel⟩, by decide +kernel⟩
abbrev miX8_isSeason : am_M := (yX8_isSeason, cX8_isSeason, 1, some (.boolean), 1, 22)
set_option maxRecDepth 100000 in
theorem mokX8_isSeason : am_mok miX8_isSeason 1 := ⟨am_inW 346 (by rfl) rfl, am_inW 27 (by decide +kernel) rfl, ⟨by decide +kernel, by decide +kernel, by decide +kernel⟩, by decide +kernel⟩
abbrev miX8_exchange : am_M := (yX8_exchange, cX8_exchange, 4, some (.int), 1, 22)
set_option maxRecDepth 100000 in
theorem mokX8_exchange : am_mok miX8_exchange 3 := ⟨am_inW 352 (by rfl) rfl, am_inW 27 (by decide +kernel) rfl, ⟨by decide +kernel, by decide +kernel, by decide +kernel⟩, by decide +kernel⟩
abbrev miX8_season : am_M := (yX8_season, cX8_season, 4, some (.int), 2, 45)
set_option maxRecDepth 100000 in
theorem mokX8_season : am_mok miX8_season 3 := ⟨am_inW 343 (by rfl) rfl, am_inW 27 (by decide +kernel) rfl, ⟨by decide +kernel, by decide +kernel, by decide +kernel⟩, by decide +kernel⟩
abbrev miX8_isKind : am_M := (yX8_isKind, cX8_isKind, 1, some (.boolean), 1, 22)
set_option maxRecDepth 100000 in
theorem mokX8_isKind : am_mok miX8_isKind 1 := ⟨am_inW 359 (by rfl) rfl, am_inW 27 (by decide +kernel) rfl, ⟨by decide +kernel, by decide +kernel, by decide +kernel⟩, by decide +kernel⟩
abbrev miX8_leastNumber : am_M := (yX8_leastNumber, cX8_leastNumber, 1, some (.int), 0, 0)
set_option maxRecDepth 100000 in
theorem mokX8_leastNumber : am_mok miX8_leastNumber 1 := ⟨am_inW 384 (by rfl) rfl, am_inW 27 (by decide +kernel) rfl, ⟨by decide +kernel, by decide +kernel, by decide +kernel⟩, by decide +kernel⟩
abbrev miX8_mostNumber : am_M := (yX8_mostNumber, cX8_mostNumber, 1, some (.int), 0, 0)
set_option maxRecDepth 100000 in
theorem mokX8_mostNumber : am_mok miX8_mostNumber 1 := ⟨am_inW 387 (by rfl) rfl, am_inW 27 (by decide +kernel) rfl, ⟨by decide +kernel, by decide +kernel, by decide +kernel⟩, by decide +kernel⟩
abbrev miX8_isWorkOrNone : am_M := (yX8_isWorkOrNone, cX8_isWorkOrNone, 2, some (.boolean), 1, 22)
set_option maxRecDepth 100000 in
theorem mokX8_isWorkOrNone : am_mok miX8_isWorkOrNone 1 := ⟨am_inW 391 (by rfl) rfl, am_inW 27 (by decide +kernel) rfl, ⟨by decide +kernel, by decide +kernel, by decide +kernel⟩, by decide +kernel⟩
abbrev miX8_workOf : am_M := (yX8_workOf, cX8_workOf, 2, some (.object "DroppingBalls$Work"), 1, 22)
set_option maxRecDepth 100000 in
theorem mokX8_workOf : am_mok miX8_workOf 1 := ⟨am_inW 396 (by rfl) rfl, am_inW 27 (by decide +kernel) rfl, ⟨by decide +kernel, by decide +kernel, by decide +kernel⟩, by decide +kernel⟩
abbrev miX7_init : am_M := (yX7_init, cX7_init, 5, none, 1, 20)
set_option maxRecDepth 100000 in
theorem mokX7_init : am_mok miX7_init 4 := ⟨am_inW 399 (by rfl) rfl, am_inW 36 (by decide +kernel) rfl, ⟨by decide +kernel, by decide +kernel, by decide +kernel⟩, by decide +kernel⟩
abbrev miX8_work : am_M := (yX8_work, cX8_work, 4, some (.int), 2, 44)
set_option maxRecDepth 100000 in
theorem mokX8_work : am_mok miX8_work 3 := ⟨am_inW 381 (by rfl) rfl, am_inW 27 (by decide +kernel) rfl, ⟨by decide +kernel, by decide +kernel, by decide +kernel⟩, by decide +kernel⟩
abbrev miX8_isWorkOfKind : am_M := (yX8_isWorkOfKind, cX8_isWorkOfKind, 2, some (.boolean), 0, 0)
set_option maxRecDepth 100000 in
theorem mokX8_isWorkOfKind : am_mok miX8_isWorkOfKind 2 := ⟨am_inW 425 (by rfl) rfl, am_inW 27 (by decide +kernel) rfl, ⟨by decide +kernel, by decide +kernel, by decide +kernel⟩, by decide +kernel⟩
abbrev miX8_workAs : am_M := (yX8_workAs, cX8_workAs, 4, some (.int), 2, 43)
set_option maxRecDepth 100000 in
theorem mokX8_workAs : am_mok miX8_workAs 2 := ⟨am_inW 422 (by rfl) rfl, am_inW 27 (by decide +kernel) rfl, ⟨by decide +kernel, by decide +kernel, by decide +kernel⟩, by decide +kernel⟩
abbrev miX8_head : am_M := (yX8_head, cX8_head, 3, some (.int), 2, 43)
set_option maxRecDepth 100000 in
theorem mokX8_head : am_mok miX8_head 1 := ⟨am_inW 429 (by rfl) rfl, am_inW 27 (by decide +kernel) rfl, ⟨by decide +kernel, by decide +kernel, by decide +kernel⟩, by decide +kernel⟩
abbrev miX8_isTick : am_M := (yX8_isTick, cX8_isTick, 1, some (.boolean), 1, 22)
set_option maxRecDepth 100000 in
theorem mokX8_isTick : am_mok miX8_isTick 1 := ⟨am_inW 362 (by rfl) rfl, am_inW 27 (by decide +kernel) rfl, ⟨by decide +kernel, by decide +kernel, by decide +kernel⟩, by decide +kernel⟩
abbrev miX2_become : am_M := (yX2_become, cX2_become, 5, none, 0, 0)
set_option maxRecDepth 100000 in
theorem mokX2_become : am_mok miX2_become 4 := ⟨am_inW 366 (by rfl) rfl, am_inW 32 (by decide +kernel) rfl, ⟨by decide +kernel, by decide +kernel, by decide +kernel⟩, by decide +kernel⟩
abbrev miX8_faulty : am_M := (yX8_faulty, cX8_faulty, 6, some (.int), 2, 42)
set_option maxRecDepth 100000 in
theorem mokX8_faulty : am_mok miX8_faulty 4 := ⟨am_inW 356 (by rfl) rfl, am_inW 27 (by decide +kernel) rfl, ⟨by decide +kernel, by decide +kernel, by decide +kernel⟩, by decide +kernel⟩
abbrev miX8_faultOf : am_M := (yX8_faultOf, cX8_faultOf, 2, some (.object "DroppingBalls$Fault"), 1, 22)
set_option maxRecDepth 100000 in
theorem mokX8_faultOf : am_mok miX8_faultOf 1 := ⟨am_inW 374 (by rfl) rfl, am_inW 27 (by decide +kernel) rfl, ⟨by decide +kernel, by decide +kernel, by decide +kernel⟩, by decide +kernel⟩
abbrev miX8_isFaultOfKind : am_M := (yX8_isFaultOfKind, cX8_isFaultOfKind, 2, some (.boolean), 0, 0)
set_option maxRecDepth 100000 in
theorem mokX8_isFaultOfKind : am_mok miX8_isFaultOfKind 2 := ⟨am_inW 377 (by rfl) rfl, am_inW 27 (by decide +kernel) rfl, ⟨by decide +kernel, by decide +kernel, by decide +kernel⟩, by decide +kernel⟩
abbrev miX8_as : am_M := (yX8_as, cX8_as, 4, some (.int), 2, 43)
set_option maxRecDepth 100000 in
theorem mokX8_as : am_mok miX8_as 2 := ⟨am_inW 370 (by rfl) rfl, am_inW 27 (by decide +kernel) rfl, ⟨by decide +kernel, by decide +kernel, by decide +kernel⟩, by decide +kernel⟩
abbrev miL_run : am_M := (yL_run, cL_run, 21, none, 0, 0)
set_option maxRecDepth 100000 in
theorem mokL_run : am_mok miL_run 8 := ⟨am_inW 717 (by rfl) rfl, am_inW 26 (by decide +kernel) rfl, ⟨by decide +kernel, by decide +kernel, by decide +kernel⟩, by decide +kernel⟩
abbrev miX8_clockOf : am_M := (yX8_clockOf, cX8_clockOf, 2, some (.object "DroppingBalls$Clock"), 1, 22)
set_option maxRecDepth 100000 in
theorem mokX8_clockOf : am_mok miX8_clockOf 1 := ⟨am_inW 441 (by rfl) rfl, am_inW 27 (by decide +kernel) rfl, ⟨by decide +kernel, by decide +kernel, by decide +kernel⟩, by decide +kernel⟩
abbrev miX8_warmthOf : am_M := (yX8_warmthOf, cX8_warmthOf, 2, some (.int), 2, 42)
set_option maxRecDepth 100000 in
theorem mokX8_warmthOf : am_mok miX8_warmthOf 1 := ⟨am_inW 445 (by rfl) rfl, am_inW 27 (by decide +kernel) rfl, ⟨by decide +kernel, by decide +kernel, by decide +kernel⟩, by decide +kernel⟩
abbrev miX5_start : am_M := (yX5_start, cX5_start, 5, none, 1, 23)
set_option maxRecDepth 100000 in
theorem mokX5_start : am_mok miX5_start 3 := ⟨am_inW 449 (by rfl) rfl, am_inW 33 (by decide +kernel) rfl, ⟨by decide +kernel, by decide +kernel, by decide +kernel⟩, by decide +kernel⟩
abbrev miX8_startRun : am_M := (yX8_startRun, cX8_startRun, 6, some (.boolean), 3, 63)
set_option maxRecDepth 100000 in
theorem mokX8_startRun : am_mok miX8_startRun 3 := ⟨am_inW 437 (by rfl) rfl, am_inW 27 (by decide +kernel) rfl, ⟨by decide +kernel, by decide +kernel, by decide +kernel⟩, by decide +kernel⟩
abbrev miX2_warmthOf : am_M := (yX2_warmthOf, cX2_warmthOf, 3, some (.int), 0, 0)
set_option maxRecDepth 100000 in
theorem mokX2_warmthOf : am_mok miX2_warmthOf 2 := ⟨am_inW 470 (by rfl) rfl, am_inW 32 (by decide +kernel) rfl, ⟨by decide +kernel, by decide +kernel, by decide +kernel⟩, by decide +kernel⟩
abbrev miX8_quotient : am_M := (yX8_quotient, cX8_quotient, 2, some (.int), 0, 0)
set_option maxRecDepth 100000 in
theorem mokX8_quotient : am_mok miX8_quotient 2 := ⟨am_inW 473 (by rfl) rfl, am_inW 27 (by decide +kernel) rfl, ⟨by decide +kernel, by decide +kernel, by decide +kernel⟩, by decide +kernel⟩
abbrev miX2_holeOf : am_M := (yX2_holeOf, cX2_holeOf, 4, some (.int), 1, 21)
set_option maxRecDepth 100000 in
theorem mokX2_holeOf : am_mok miX2_holeOf 3 := ⟨am_inW 477 (by rfl) rfl, am_inW 32 (by decide +kernel) rfl, ⟨by decide +kernel, by decide +kernel, by decide +kernel⟩, by decide +kernel⟩
abbrev miX5_drip : am_M := (yX5_drip, cX5_drip, 7, none, 2, 44)
set_option maxRecDepth 100000 in
theorem mokX5_drip : am_mok miX5_drip 0 := ⟨am_inW 466 (by rfl) rfl, am_inW 33 (by decide +kernel) rfl, ⟨by decide +kernel, by decide +kernel, by decide +kernel⟩, by decide +kernel⟩
abbrev miX0_hasVessel : am_M := (yX0_hasVessel, cX0_hasVessel, 2, some (.boolean), 0, 0)
set_option maxRecDepth 100000 in
theorem mokX0_hasVessel : am_mok miX0_hasVessel 1 := ⟨am_inW 492 (by rfl) rfl, am_inW 31 (by decide +kernel) rfl, ⟨by decide +kernel, by decide +kernel, by decide +kernel⟩, by decide +kernel⟩
abbrev miX2_leakAt : am_M := (yX2_leakAt, cX2_leakAt, 2, some (.int), 0, 0)
set_option maxRecDepth 100000 in
theorem mokX2_leakAt : am_mok miX2_leakAt 1 := ⟨am_inW 496 (by rfl) rfl, am_inW 32 (by decide +kernel) rfl, ⟨by decide +kernel, by decide +kernel, by decide +kernel⟩, by decide +kernel⟩
abbrev miX5_leak : am_M := (yX5_leak, cX5_leak, 3, none, 1, 21)
set_option maxRecDepth 100000 in
theorem mokX5_leak : am_mok miX5_leak 0 := ⟨am_inW 488 (by rfl) rfl, am_inW 33 (by decide +kernel) rfl, ⟨by decide +kernel, by decide +kernel, by decide +kernel⟩, by decide +kernel⟩
abbrev miX5_dropBalls : am_M := (yX5_dropBalls, cX5_dropBalls, 3, none, 1, 21)
set_option maxRecDepth 100000 in
theorem mokX5_dropBalls : am_mok miX5_dropBalls 0 := ⟨am_inW 500 (by rfl) rfl, am_inW 33 (by decide +kernel) rfl, ⟨by decide +kernel, by decide +kernel, by decide +kernel⟩, by decide +kernel⟩
abbrev miX5_siphon : am_M := (yX5_siphon, cX5_siphon, 2, none, 1, 21)
set_option maxRecDepth 100000 in
theorem mokX5_siphon : am_mok miX5_siphon 0 := ⟨am_inW 504 (by rfl) rfl, am_inW 33 (by decide +kernel) rfl, ⟨by decide +kernel, by decide +kernel, by decide +kernel⟩, by decide +kernel⟩
abbrev miX5_advance : am_M := (yX5_advance, cX5_advance, 1, none, 3, 70)
set_option maxRecDepth 100000 in
theorem mokX5_advance : am_mok miX5_advance 0 := ⟨am_inW 462 (by rfl) rfl, am_inW 33 (by decide +kernel) rfl, ⟨by decide +kernel, by decide +kernel, by decide +kernel⟩, by decide +kernel⟩
abbrev miX5_goOnTo : am_M := (yX5_goOnTo, cX5_goOnTo, 3, none, 4, 90)
set_option maxRecDepth 100000 in
theorem mokX5_goOnTo : am_mok miX5_goOnTo 1 := ⟨am_inW 458 (by rfl) rfl, am_inW 33 (by decide +kernel) rfl, ⟨by decide +kernel, by decide +kernel, by decide +kernel⟩, by decide +kernel⟩
abbrev miX5_measure : am_M := (yX5_measure, cX5_measure, 2, some (.int), 1, 21)
set_option maxRecDepth 100000 in
theorem mokX5_measure : am_mok miX5_measure 1 := ⟨am_inW 535 (by rfl) rfl, am_inW 33 (by decide +kernel) rfl, ⟨by decide +kernel, by decide +kernel, by decide +kernel⟩, by decide +kernel⟩
abbrev miX8_at : am_M := (yX8_at, cX8_at, 6, some (.int), 5, 112)
set_option maxRecDepth 100000 in
theorem mokX8_at : am_mok miX8_at 5 := ⟨am_inW 531 (by rfl) rfl, am_inW 27 (by decide +kernel) rfl, ⟨by decide +kernel, by decide +kernel, by decide +kernel⟩, by decide +kernel⟩
abbrev miX8_even : am_M := (yX8_even, cX8_even, 5, some (.int), 5, 112)
set_option maxRecDepth 100000 in
theorem mokX8_even : am_mok miX8_even 4 := ⟨am_inW 539 (by rfl) rfl, am_inW 27 (by decide +kernel) rfl, ⟨by decide +kernel, by decide +kernel, by decide +kernel⟩, by decide +kernel⟩
abbrev miL_size : am_M := (yL_size, cL_size, 1, some (.int), 0, 0)
set_option maxRecDepth 100000 in
theorem mokL_size : am_mok miL_size 1 := ⟨am_inW 721 (by rfl) rfl, am_inW 26 (by decide +kernel) rfl, ⟨by decide +kernel, by decide +kernel, by decide +kernel⟩, by decide +kernel⟩
abbrev miX0_hasBall : am_M := (yX0_hasBall, cX0_hasBall, 2, some (.boolean), 0, 0)
set_option maxRecDepth 100000 in
theorem mokX0_hasBall : am_mok miX0_hasBall 1 := ⟨am_inW 454 (by rfl) rfl, am_inW 31 (by decide +kernel) rfl, ⟨by decide +kernel, by decide +kernel, by decide +kernel⟩, by decide +kernel⟩
abbrev miX5_tickOf : am_M := (yX5_tickOf, cX5_tickOf, 2, some (.int), 1, 21)
set_option maxRecDepth 100000 in
theorem mokX5_tickOf : am_mok miX5_tickOf 1 := ⟨am_inW 508 (by rfl) rfl, am_inW 33 (by decide +kernel) rfl, ⟨by decide +kernel, by decide +kernel, by decide +kernel⟩, by decide +kernel⟩
abbrev miX8_drops : am_M := (yX8_drops, cX8_drops, 5, some (.int), 5, 112)
set_option maxRecDepth 100000 in
theorem mokX8_drops : am_mok miX8_drops 4 := ⟨am_inW 433 (by rfl) rfl, am_inW 27 (by decide +kernel) rfl, ⟨by decide +kernel, by decide +kernel, by decide +kernel⟩, by decide +kernel⟩
abbrev miX8_daylightOf : am_M := (yX8_daylightOf, cX8_daylightOf, 2, some (.int), 2, 42)
set_option maxRecDepth 100000 in
theorem mokX8_daylightOf : am_mok miX8_daylightOf 1 := ⟨am_inW 517 (by rfl) rfl, am_inW 27 (by decide +kernel) rfl, ⟨by decide +kernel, by decide +kernel, by decide +kernel⟩, by decide +kernel⟩
abbrev miX0_trueTick : am_M := (yX0_trueTick, cX0_trueTick, 3, some (.int), 1, 21)
set_option maxRecDepth 100000 in
theorem mokX0_trueTick : am_mok miX0_trueTick 2 := ⟨am_inW 526 (by rfl) rfl, am_inW 31 (by decide +kernel) rfl, ⟨by decide +kernel, by decide +kernel, by decide +kernel⟩, by decide +kernel⟩
abbrev miX5_errorOf : am_M := (yX5_errorOf, cX5_errorOf, 4, some (.int), 2, 43)
set_option maxRecDepth 100000 in
theorem mokX5_errorOf : am_mok miX5_errorOf 2 := ⟨am_inW 521 (by rfl) rfl, am_inW 33 (by decide +kernel) rfl, ⟨by decide +kernel, by decide +kernel, by decide +kernel⟩, by decide +kernel⟩
abbrev miX8_error : am_M := (yX8_error, cX8_error, 5, some (.int), 5, 112)
set_option maxRecDepth 100000 in
theorem mokX8_error : am_mok miX8_error 4 := ⟨am_inW 513 (by rfl) rfl, am_inW 27 (by decide +kernel) rfl, ⟨by decide +kernel, by decide +kernel, by decide +kernel⟩, by decide +kernel⟩
abbrev miX5_errorSize : am_M := (yX5_errorSize, cX5_errorSize, 3, some (.int), 3, 66)
set_option maxRecDepth 100000 in
theorem mokX5_errorSize : am_mok miX5_errorSize 2 := ⟨am_inW 547 (by rfl) rfl, am_inW 33 (by decide +kernel) rfl, ⟨by decide +kernel, by decide +kernel, by decide +kernel⟩, by decide +kernel⟩
abbrev miX8_commonMeasure : am_M := (yX8_commonMeasure, cX8_commonMeasure, 6, some (.int), 0, 0)
set_option maxRecDepth 100000 in
theorem mokX8_commonMeasure : am_mok miX8_commonMeasure 2 := ⟨am_inW 554 (by rfl) rfl, am_inW 27 (by decide +kernel) rfl, ⟨by decide +kernel, by decide +kernel, by decide +kernel⟩, by decide +kernel⟩
abbrev miX8_mean : am_M := (yX8_mean, cX8_mean, 7, some (.int), 5, 112)
set_option maxRecDepth 100000 in
theorem mokX8_mean : am_mok miX8_mean 4 := ⟨am_inW 543 (by rfl) rfl, am_inW 27 (by decide +kernel) rfl, ⟨by decide +kernel, by decide +kernel, by decide +kernel⟩, by decide +kernel⟩
abbrev miX4_start : am_M := (yX4_start, cX4_start, 2, none, 1, 23)
set_option maxRecDepth 100000 in
theorem mokX4_start : am_mok miX4_start 0 := ⟨am_inW 567 (by rfl) rfl, am_inW 34 (by decide +kernel) rfl, ⟨by decide +kernel, by decide +kernel, by decide +kernel⟩, by decide +kernel⟩
abbrev miX4_comesOut : am_M := (yX4_comesOut, cX4_comesOut, 5, some (.boolean), 0, 0)
set_option maxRecDepth 100000 in
theorem mokX4_comesOut : am_mok miX4_comesOut 2 := ⟨am_inW 585 (by rfl) rfl, am_inW 34 (by decide +kernel) rfl, ⟨by decide +kernel, by decide +kernel, by decide +kernel⟩, by decide +kernel⟩
abbrev miX4_turn : am_M := (yX4_turn, cX4_turn, 3, none, 0, 0)
set_option maxRecDepth 100000 in
theorem mokX4_turn : am_mok miX4_turn 2 := ⟨am_inW 589 (by rfl) rfl, am_inW 34 (by decide +kernel) rfl, ⟨by decide +kernel, by decide +kernel, by decide +kernel⟩, by decide +kernel⟩
abbrev miX4_isCountedOut : am_M := (yX4_isCountedOut, cX4_isCountedOut, 3, some (.boolean), 0, 0)
set_option maxRecDepth 100000 in
theorem mokX4_isCountedOut : am_mok miX4_isCountedOut 1 := ⟨am_inW 593 (by rfl) rfl, am_inW 34 (by decide +kernel) rfl, ⟨by decide +kernel, by decide +kernel, by decide +kernel⟩, by decide +kernel⟩
abbrev miX4_strikesOn : am_M := (yX4_strikesOn, cX4_strikesOn, 3, some (.boolean), 1, 24)
set_option maxRecDepth 100000 in
theorem mokX4_strikesOn : am_mok miX4_strikesOn 2 := ⟨am_inW 581 (by rfl) rfl, am_inW 34 (by decide +kernel) rfl, ⟨by decide +kernel, by decide +kernel, by decide +kernel⟩, by decide +kernel⟩
abbrev miX4_strike : am_M := (yX4_strike, cX4_strike, 4, none, 2, 46)
set_option maxRecDepth 100000 in
theorem mokX4_strike : am_mok miX4_strike 2 := ⟨am_inW 577 (by rfl) rfl, am_inW 34 (by decide +kernel) rfl, ⟨by decide +kernel, by decide +kernel, by decide +kernel⟩, by decide +kernel⟩
abbrev miX4_goThrough : am_M := (yX4_goThrough, cX4_goThrough, 6, none, 3, 69)
set_option maxRecDepth 100000 in
theorem mokX4_goThrough : am_mok miX4_goThrough 3 := ⟨am_inW 573 (by rfl) rfl, am_inW 34 (by decide +kernel) rfl, ⟨by decide +kernel, by decide +kernel, by decide +kernel⟩, by decide +kernel⟩
abbrev miX8_playRun : am_M := (yX8_playRun, cX8_playRun, 4, none, 4, 94)
set_option maxRecDepth 100000 in
theorem mokX8_playRun : am_mok miX8_playRun 0 := ⟨am_inW 563 (by rfl) rfl, am_inW 27 (by decide +kernel) rfl, ⟨by decide +kernel, by decide +kernel, by decide +kernel⟩, by decide +kernel⟩
abbrev miX4_measure : am_M := (yX4_measure, cX4_measure, 2, some (.int), 0, 0)
set_option maxRecDepth 100000 in
theorem mokX4_measure : am_mok miX4_measure 1 := ⟨am_inW 597 (by rfl) rfl, am_inW 34 (by decide +kernel) rfl, ⟨by decide +kernel, by decide +kernel, by decide +kernel⟩, by decide +kernel⟩
abbrev miX4_figureOf : am_M := (yX4_figureOf, cX4_figureOf, 2, some (.int), 1, 22)
set_option maxRecDepth 100000 in
theorem mokX4_figureOf : am_mok miX4_figureOf 1 := ⟨am_inW 601 (by rfl) rfl, am_inW 34 (by decide +kernel) rfl, ⟨by decide +kernel, by decide +kernel, by decide +kernel⟩, by decide +kernel⟩
abbrev miX8_shows : am_M := (yX8_shows, cX8_shows, 5, some (.int), 5, 117)
set_option maxRecDepth 100000 in
theorem mokX8_shows : am_mok miX8_shows 4 := ⟨am_inW 559 (by rfl) rfl, am_inW 27 (by decide +kernel) rfl, ⟨by decide +kernel, by decide +kernel, by decide +kernel⟩, by decide +kernel⟩
abbrev miX8_findWorst : am_M := (yX8_findWorst, cX8_findWorst, 5, none, 5, 112)
set_option maxRecDepth 100000 in
theorem mokX8_findWorst : am_mok miX8_findWorst 1 := ⟨am_inW 610 (by rfl) rfl, am_inW 27 (by decide +kernel) rfl, ⟨by decide +kernel, by decide +kernel, by decide +kernel⟩, by decide +kernel⟩
abbrev miX8_worst : am_M := (yX8_worst, cX8_worst, 4, some (.int), 6, 136)
set_option maxRecDepth 100000 in
theorem mokX8_worst : am_mok miX8_worst 2 := ⟨am_inW 606 (by rfl) rfl, am_inW 27 (by decide +kernel) rfl, ⟨by decide +kernel, by decide +kernel, by decide +kernel⟩, by decide +kernel⟩
abbrev miX8_better : am_M := (yX8_better, cX8_better, 6, some (.int), 6, 136)
set_option maxRecDepth 100000 in
theorem mokX8_better : am_mok miX8_better 2 := ⟨am_inW 614 (by rfl) rfl, am_inW 27 (by decide +kernel) rfl, ⟨by decide +kernel, by decide +kernel, by decide +kernel⟩, by decide +kernel⟩
abbrev miL_law : am_M := (yL_law, cL_law, 38, some (.boolean), 8, 188)
theorem fl_X8_11 : am_fl RX8 11 8 0 := ⟨_, _, _, rfl, by decide, by decide +kernel, am_inW 283 (by decide +kernel) rfl⟩
theorem fl_X8_17 : am_fl RX8 17 8 1 := ⟨_, _, _, rfl, by decide, by decide +kernel, am_inW 284 (by decide +kernel) rfl⟩
theorem fl_X8_23 : am_fl RX8 23 8 2 := ⟨_, _, _, rfl, by decide, by decide +kernel, am_inW 285 (by decide +kernel) rfl⟩
theorem fl_X8_30 : am_fl RX8 30 8 6 := ⟨_, _, _, rfl, by decide, by decide +kernel, am_inW 289 (by decide +kernel) rfl⟩
theorem fl_X8_37 : am_fl RX8 37 8 7 := ⟨_, _, _, rfl, by decide, by decide +kernel, am_inW 290 (by decide +kernel) rfl⟩
theorem fl_X8_41 : am_fl RX8 41 8 8 := ⟨_, _, _, rfl, by decide, by decide +kernel, am_inW 291 (by decide +kernel) rfl⟩
theorem fl_X8_45 : am_fl RX8 45 8 11 := ⟨_, _, _, rfl, by decide, by decide +kernel, am_inW 293 (by decide +kernel) rfl⟩
theorem fl_X8_50 : am_fl RX8 50 8 12 := ⟨_, _, _, rfl, by decide, by decide +kernel, am_inW 294 (by decide +kernel) rfl⟩
theorem fl_X8_54 : am_fl RX8 54 8 13 := ⟨_, _, _, rfl, by decide, by decide +kernel, am_inW 295 (by decide +kernel) rfl⟩
theorem fl_X8_62 : am_fl RX8 62 8 14 := ⟨_, _, _, rfl, by decide, by decide +kernel, am_inW 296 (by decide +kernel) rfl⟩
theorem fl_X8_66 : am_fl RX8 66 8 15 := ⟨_, _, _, rfl, by decide, by decide +kernel, am_inW 297 (by decide +kernel) rfl⟩
theorem fl_X8_72 : am_fl RX8 72 8 16 := ⟨_, _, _, rfl, by decide, by decide +kernel, am_inW 298 (by decide +kernel) rfl⟩
theorem fl_X8_79 : am_fl RX8 79 8 17 := ⟨_, _, _, rfl, by decide, by decide +kernel, am_inW 299 (by decide +kernel) rfl⟩
theorem fl_X8_83 : am_fl RX8 83 8 18 := ⟨_, _, _, rfl, by decide, by decide +kernel, am_inW 300 (by decide +kernel) rfl⟩
theorem fl_X8_91 : am_fl RX8 91 3 1 := ⟨_, _, _, rfl, by decide, by decide +kernel, am_inW 60 (by decide +kernel) rfl⟩
theorem fl_X8_107 : am_fl RX8 107 3 2 := ⟨_, _, _, rfl, by decide, by decide +kernel, am_inW 62 (by decide +kernel) rfl⟩
theorem fl_X8_110 : am_fl RX8 110 8 3 := ⟨_, _, _, rfl, by decide, by decide +kernel, am_inW 286 (by decide +kernel) rfl⟩
theorem fl_X8_140 : am_fl RX8 140 6 0 := ⟨_, _, _, rfl, by decide, by decide +kernel, am_inW 81 (by decide +kernel) rfl⟩
theorem fl_X8_147 : am_fl RX8 147 6 1 := ⟨_, _, _, rfl, by decide, by decide +kernel, am_inW 83 (by decide +kernel) rfl⟩
theorem fl_X8_156 : am_fl RX8 156 8 4 := ⟨_, _, _, rfl, by decide, by decide +kernel, am_inW 287 (by decide +kernel) rfl⟩
theorem fl_X8_167 : am_fl RX8 167 2 0 := ⟨_, _, _, rfl, by decide, by decide +kernel, am_inW 154 (by decide +kernel) rfl⟩
theorem fl_X8_183 : am_fl RX8 183 8 5 := ⟨_, _, _, rfl, by decide, by decide +kernel, am_inW 288 (by decide +kernel) rfl⟩
theorem fl_X8_193 : am_fl RX8 193 7 1 := ⟨_, _, _, rfl, by decide, by decide +kernel, am_inW 405 (by decide +kernel) rfl⟩
theorem fl_X8_197 : am_fl RX8 197 6 3 := ⟨_, _, _, rfl, by decide, by decide +kernel, am_inW 86 (by decide +kernel) rfl⟩
theorem fl_X8_203 : am_fl RX8 203 5 0 := ⟨_, _, _, rfl, by decide, by decide +kernel, am_inW 175 (by decide +kernel) rfl⟩
theorem fl_X8_223 : am_fl RX8 223 5 12 := ⟨_, _, _, rfl, by decide, by decide +kernel, am_inW 189 (by decide +kernel) rfl⟩
theorem fl_X8_226 : am_fl RX8 226 5 13 := ⟨_, _, _, rfl, by decide, by decide +kernel, am_inW 191 (by decide +kernel) rfl⟩
theorem fl_X8_229 : am_fl RX8 229 0 8 := ⟨_, _, _, rfl, by decide, by decide +kernel, am_inW 124 (by decide +kernel) rfl⟩
theorem fl_X8_282 : am_fl RX8 282 8 10 := ⟨_, _, _, rfl, by decide, by decide +kernel, am_inW 292 (by decide +kernel) rfl⟩
theorem fl_X8_371 : am_fl RX8 371 5 10 := ⟨_, _, _, rfl, by decide, by decide +kernel, am_inW 186 (by decide +kernel) rfl⟩
theorem fl_X0_9 : am_fl RX0 9 0 1 := ⟨_, _, _, rfl, by decide, by decide +kernel, am_inW 105 (by decide +kernel) rfl⟩
theorem fl_X0_15 : am_fl RX0 15 0 2 := ⟨_, _, _, rfl, by decide, by decide +kernel, am_inW 107 (by decide +kernel) rfl⟩
theorem fl_X0_18 : am_fl RX0 18 0 3 := ⟨_, _, _, rfl, by decide, by decide +kernel, am_inW 108 (by decide +kernel) rfl⟩
theorem fl_X0_21 : am_fl RX0 21 0 4 := ⟨_, _, _, rfl, by decide, by decide +kernel, am_inW 110 (by decide +kernel) rfl⟩
theorem fl_X0_24 : am_fl RX0 24 0 9 := ⟨_, _, _, rfl, by decide, by decide +kernel, am_inW 125 (by decide +kernel) rfl⟩
theorem fl_X0_27 : am_fl RX0 27 0 0 := ⟨_, _, _, rfl, by decide, by decide +kernel, am_inW 102 (by decide +kernel) rfl⟩
theorem fl_X0_31 : am_fl RX0 31 0 5 := ⟨_, _, _, rfl, by decide, by decide +kernel, am_inW 112 (by decide +kernel) rfl⟩
theorem fl_X0_34 : am_fl RX0 34 0 6 := ⟨_, _, _, rfl, by decide, by decide +kernel, am_inW 115 (by decide +kernel) rfl⟩
theorem fl_X0_37 : am_fl RX0 37 0 7 := ⟨_, _, _, rfl, by decide, by decide +kernel, am_inW 118 (by decide +kernel) rfl⟩
theorem fl_X0_40 : am_fl RX0 40 0 8 := ⟨_, _, _, rfl, by decide, by decide +kernel, am_inW 121 (by decide +kernel) rfl⟩
theorem fl_X1_9 : am_fl RX1 9 1 0 := ⟨_, _, _, rfl, by decide, by decide +kernel, am_inW 272 (by decide +kernel) rfl⟩
theorem fl_X1_15 : am_fl RX1 15 1 1 := ⟨_, _, _, rfl, by decide, by decide +kernel, am_inW 273 (by decide +kernel) rfl⟩
theorem fl_X2_9 : am_fl RX2 9 2 0 := ⟨_, _, _, rfl, by decide, by decide +kernel, am_inW 153 (by decide +kernel) rfl⟩
theorem fl_X2_15 : am_fl RX2 15 2 1 := ⟨_, _, _, rfl, by decide, by decide +kernel, am_inW 155 (by decide +kernel) rfl⟩
theorem fl_X2_18 : am_fl RX2 18 2 2 := ⟨_, _, _, rfl, by decide, by decide +kernel, am_inW 157 (by decide +kernel) rfl⟩
theorem fl_X2_21 : am_fl RX2 21 2 3 := ⟨_, _, _, rfl, by decide, by decide +kernel, am_inW 158 (by decide +kernel) rfl⟩
theorem fl_X3_9 : am_fl RX3 9 3 0 := ⟨_, _, _, rfl, by decide, by decide +kernel, am_inW 58 (by decide +kernel) rfl⟩
theorem fl_X3_15 : am_fl RX3 15 3 1 := ⟨_, _, _, rfl, by decide, by decide +kernel, am_inW 59 (by decide +kernel) rfl⟩
theorem fl_X3_19 : am_fl RX3 19 3 2 := ⟨_, _, _, rfl, by decide, by decide +kernel, am_inW 61 (by decide +kernel) rfl⟩
theorem fl_X3_22 : am_fl RX3 22 0 0 := ⟨_, _, _, rfl, by decide, by decide +kernel, am_inW 103 (by decide +kernel) rfl⟩
theorem fl_X3_27 : am_fl RX3 27 0 8 := ⟨_, _, _, rfl, by decide, by decide +kernel, am_inW 122 (by decide +kernel) rfl⟩
theorem fl_X3_58 : am_fl RX3 58 0 5 := ⟨_, _, _, rfl, by decide, by decide +kernel, am_inW 113 (by decide +kernel) rfl⟩
theorem fl_X3_61 : am_fl RX3 61 0 6 := ⟨_, _, _, rfl, by decide, by decide +kernel, am_inW 116 (by decide +kernel) rfl⟩
theorem fl_X3_64 : am_fl RX3 64 0 7 := ⟨_, _, _, rfl, by decide, by decide +kernel, am_inW 120 (by decide +kernel) rfl⟩
theorem fl_X4_9 : am_fl RX4 9 4 0 := ⟨_, _, _, rfl, by decide, by decide +kernel, am_inW 228 (by decide +kernel) rfl⟩
theorem fl_X4_15 : am_fl RX4 15 4 1 := ⟨_, _, _, rfl, by decide, by decide +kernel, am_inW 229 (by decide +kernel) rfl⟩
theorem fl_X4_19 : am_fl RX4 19 4 2 := ⟨_, _, _, rfl, by decide, by decide +kernel, am_inW 230 (by decide +kernel) rfl⟩
theorem fl_X4_24 : am_fl RX4 24 4 3 := ⟨_, _, _, rfl, by decide, by decide +kernel, am_inW 231 (by decide +kernel) rfl⟩
theorem fl_X4_28 : am_fl RX4 28 4 4 := ⟨_, _, _, rfl, by decide, by decide +kernel, am_inW 232 (by decide +kernel) rfl⟩
theorem fl_X4_31 : am_fl RX4 31 4 6 := ⟨_, _, _, rfl, by decide, by decide +kernel, am_inW 234 (by decide +kernel) rfl⟩
theorem fl_X4_40 : am_fl RX4 40 4 5 := ⟨_, _, _, rfl, by decide, by decide +kernel, am_inW 233 (by decide +kernel) rfl⟩
theorem fl_X4_44 : am_fl RX4 44 4 7 := ⟨_, _, _, rfl, by decide, by decide +kernel, am_inW 235 (by decide +kernel) rfl⟩
theorem fl_X4_47 : am_fl RX4 47 4 8 := ⟨_, _, _, rfl, by decide, by decide +kernel, am_inW 236 (by decide +kernel) rfl⟩
theorem fl_X4_50 : am_fl RX4 50 4 9 := ⟨_, _, _, rfl, by decide, by decide +kernel, am_inW 237 (by decide +kernel) rfl⟩
theorem fl_X4_53 : am_fl RX4 53 4 10 := ⟨_, _, _, rfl, by decide, by decide +kernel, am_inW 238 (by decide +kernel) rfl⟩
theorem fl_X4_56 : am_fl RX4 56 4 11 := ⟨_, _, _, rfl, by decide, by decide +kernel, am_inW 239 (by decide +kernel) rfl⟩
theorem fl_X4_59 : am_fl RX4 59 7 3 := ⟨_, _, _, rfl, by decide, by decide +kernel, am_inW 409 (by decide +kernel) rfl⟩
theorem fl_X4_71 : am_fl RX4 71 7 1 := ⟨_, _, _, rfl, by decide, by decide +kernel, am_inW 404 (by decide +kernel) rfl⟩
theorem fl_X4_74 : am_fl RX4 74 7 2 := ⟨_, _, _, rfl, by decide, by decide +kernel, am_inW 407 (by decide +kernel) rfl⟩
theorem fl_X4_87 : am_fl RX4 87 7 0 := ⟨_, _, _, rfl, by decide, by decide +kernel, am_inW 402 (by decide +kernel) rfl⟩
theorem fl_X5_9 : am_fl RX5 9 5 4 := ⟨_, _, _, rfl, by decide, by decide +kernel, am_inW 179 (by decide +kernel) rfl⟩
theorem fl_X5_15 : am_fl RX5 15 5 11 := ⟨_, _, _, rfl, by decide, by decide +kernel, am_inW 187 (by decide +kernel) rfl⟩
theorem fl_X5_18 : am_fl RX5 18 5 0 := ⟨_, _, _, rfl, by decide, by decide +kernel, am_inW 174 (by decide +kernel) rfl⟩
theorem fl_X5_22 : am_fl RX5 22 5 1 := ⟨_, _, _, rfl, by decide, by decide +kernel, am_inW 176 (by decide +kernel) rfl⟩
theorem fl_X5_26 : am_fl RX5 26 5 2 := ⟨_, _, _, rfl, by decide, by decide +kernel, am_inW 177 (by decide +kernel) rfl⟩
theorem fl_X5_30 : am_fl RX5 30 5 3 := ⟨_, _, _, rfl, by decide, by decide +kernel, am_inW 178 (by decide +kernel) rfl⟩
theorem fl_X5_33 : am_fl RX5 33 0 4 := ⟨_, _, _, rfl, by decide, by decide +kernel, am_inW 111 (by decide +kernel) rfl⟩
theorem fl_X5_38 : am_fl RX5 38 5 5 := ⟨_, _, _, rfl, by decide, by decide +kernel, am_inW 180 (by decide +kernel) rfl⟩
theorem fl_X5_41 : am_fl RX5 41 5 6 := ⟨_, _, _, rfl, by decide, by decide +kernel, am_inW 181 (by decide +kernel) rfl⟩
theorem fl_X5_44 : am_fl RX5 44 5 7 := ⟨_, _, _, rfl, by decide, by decide +kernel, am_inW 182 (by decide +kernel) rfl⟩
theorem fl_X5_47 : am_fl RX5 47 5 8 := ⟨_, _, _, rfl, by decide, by decide +kernel, am_inW 183 (by decide +kernel) rfl⟩
theorem fl_X5_50 : am_fl RX5 50 5 9 := ⟨_, _, _, rfl, by decide, by decide +kernel, am_inW 184 (by decide +kernel) rfl⟩
theorem fl_X5_53 : am_fl RX5 53 5 10 := ⟨_, _, _, rfl, by decide, by decide +kernel, am_inW 185 (by decide +kernel) rfl⟩
theorem fl_X5_62 : am_fl RX5 62 5 12 := ⟨_, _, _, rfl, by decide, by decide +kernel, am_inW 188 (by decide +kernel) rfl⟩
theorem fl_X5_65 : am_fl RX5 65 5 13 := ⟨_, _, _, rfl, by decide, by decide +kernel, am_inW 190 (by decide +kernel) rfl⟩
theorem fl_X5_89 : am_fl RX5 89 0 7 := ⟨_, _, _, rfl, by decide, by decide +kernel, am_inW 119 (by decide +kernel) rfl⟩
theorem fl_X5_92 : am_fl RX5 92 0 0 := ⟨_, _, _, rfl, by decide, by decide +kernel, am_inW 104 (by decide +kernel) rfl⟩
theorem fl_X5_95 : am_fl RX5 95 0 1 := ⟨_, _, _, rfl, by decide, by decide +kernel, am_inW 106 (by decide +kernel) rfl⟩
theorem fl_X5_101 : am_fl RX5 101 0 3 := ⟨_, _, _, rfl, by decide, by decide +kernel, am_inW 109 (by decide +kernel) rfl⟩
theorem fl_X5_116 : am_fl RX5 116 2 1 := ⟨_, _, _, rfl, by decide, by decide +kernel, am_inW 156 (by decide +kernel) rfl⟩
theorem fl_X5_127 : am_fl RX5 127 0 5 := ⟨_, _, _, rfl, by decide, by decide +kernel, am_inW 114 (by decide +kernel) rfl⟩
theorem fl_X5_130 : am_fl RX5 130 0 8 := ⟨_, _, _, rfl, by decide, by decide +kernel, am_inW 123 (by decide +kernel) rfl⟩
theorem fl_X5_133 : am_fl RX5 133 0 9 := ⟨_, _, _, rfl, by decide, by decide +kernel, am_inW 126 (by decide +kernel) rfl⟩
theorem fl_X5_136 : am_fl RX5 136 0 6 := ⟨_, _, _, rfl, by decide, by decide +kernel, am_inW 117 (by decide +kernel) rfl⟩
theorem fl_X6_9 : am_fl RX6 9 6 0 := ⟨_, _, _, rfl, by decide, by decide +kernel, am_inW 80 (by decide +kernel) rfl⟩
theorem fl_X6_15 : am_fl RX6 15 6 1 := ⟨_, _, _, rfl, by decide, by decide +kernel, am_inW 82 (by decide +kernel) rfl⟩
theorem fl_X6_18 : am_fl RX6 18 6 2 := ⟨_, _, _, rfl, by decide, by decide +kernel, am_inW 84 (by decide +kernel) rfl⟩
theorem fl_X6_21 : am_fl RX6 21 6 3 := ⟨_, _, _, rfl, by decide, by decide +kernel, am_inW 85 (by decide +kernel) rfl⟩
theorem fl_X7_7 : am_fl RX7 7 7 0 := ⟨_, _, _, rfl, by decide, by decide +kernel, am_inW 401 (by decide +kernel) rfl⟩
theorem fl_X7_13 : am_fl RX7 13 7 1 := ⟨_, _, _, rfl, by decide, by decide +kernel, am_inW 403 (by decide +kernel) rfl⟩
theorem fl_X7_16 : am_fl RX7 16 7 2 := ⟨_, _, _, rfl, by decide, by decide +kernel, am_inW 406 (by decide +kernel) rfl⟩
theorem fl_X7_19 : am_fl RX7 19 7 3 := ⟨_, _, _, rfl, by decide, by decide +kernel, am_inW 408 (by decide +kernel) rfl⟩
theorem fp_8_0 : am_fp 8 0 true (.array (.object "DroppingBalls$Clock")) := ⟨_, _, _, rfl, by decide +kernel, by decide +kernel⟩
theorem fp_8_1 : am_fp 8 1 true (.array (.object "DroppingBalls$Fault")) := ⟨_, _, _, rfl, by decide +kernel, by decide +kernel⟩
theorem fp_8_2 : am_fp 8 2 true (.array (.object "DroppingBalls$Work")) := ⟨_, _, _, rfl, by decide +kernel, by decide +kernel⟩
theorem fp_8_6 : am_fp 8 6 true (.object "DroppingBalls$Page") := ⟨_, _, _, rfl, by decide +kernel, by decide +kernel⟩
theorem fp_8_7 : am_fp 8 7 true (.object "DroppingBalls$Setting") := ⟨_, _, _, rfl, by decide +kernel, by decide +kernel⟩
theorem fp_8_8 : am_fp 8 8 true (.object "DroppingBalls$Setting") := ⟨_, _, _, rfl, by decide +kernel, by decide +kernel⟩
theorem fp_8_11 : am_fp 8 11 true (.object "DroppingBalls$Clock") := ⟨_, _, _, rfl, by decide +kernel, by decide +kernel⟩
theorem fp_8_12 : am_fp 8 12 true (.object "DroppingBalls$Fault") := ⟨_, _, _, rfl, by decide +kernel, by decide +kernel⟩
theorem fp_8_13 : am_fp 8 13 true (.object "DroppingBalls$Fault") := ⟨_, _, _, rfl, by decide +kernel, by decide +kernel⟩
theorem fp_8_14 : am_fp 8 14 true (.object "DroppingBalls$Run") := ⟨_, _, _, rfl, by decide +kernel, by decide +kernel⟩
theorem fp_8_15 : am_fp 8 15 true (.object "DroppingBalls$Run") := ⟨_, _, _, rfl, by decide +kernel, by decide +kernel⟩
theorem fp_8_16 : am_fp 8 16 true (.object "DroppingBalls$Play") := ⟨_, _, _, rfl, by decide +kernel, by decide +kernel⟩
theorem fp_8_17 : am_fp 8 17 true (.object "DroppingBalls$Evidence") := ⟨_, _, _, rfl, by decide +kernel, by decide +kernel⟩
theorem fp_8_18 : am_fp 8 18 true (.array (.int)) := ⟨_, _, _, rfl, by decide +kernel, by decide +kernel⟩
theorem fp_3_1 : am_fp 3 1 false (.int) := ⟨_, _, _, rfl, by decide +kernel, by decide +kernel⟩
theorem fp_3_2 : am_fp 3 2 false (.int) := ⟨_, _, _, rfl, by decide +kernel, by decide +kernel⟩
theorem fp_8_3 : am_fp 8 3 false (.int) := ⟨_, _, _, rfl, by decide +kernel, by decide +kernel⟩
theorem fp_6_0 : am_fp 6 0 true (.array (.int)) := ⟨_, _, _, rfl, by decide +kernel, by decide +kernel⟩
theorem fp_6_1 : am_fp 6 1 true (.array (.int)) := ⟨_, _, _, rfl, by decide +kernel, by decide +kernel⟩
theorem fp_8_4 : am_fp 8 4 false (.int) := ⟨_, _, _, rfl, by decide +kernel, by decide +kernel⟩
theorem fp_2_0 : am_fp 2 0 false (.int) := ⟨_, _, _, rfl, by decide +kernel, by decide +kernel⟩
theorem fp_8_5 : am_fp 8 5 false (.int) := ⟨_, _, _, rfl, by decide +kernel, by decide +kernel⟩
theorem fp_7_1 : am_fp 7 1 true (.int) := ⟨_, _, _, rfl, by decide +kernel, by decide +kernel⟩
theorem fp_6_3 : am_fp 6 3 false (.int) := ⟨_, _, _, rfl, by decide +kernel, by decide +kernel⟩
theorem fp_5_0 : am_fp 5 0 false (.object "DroppingBalls$Clock") := ⟨_, _, _, rfl, by decide +kernel, by decide +kernel⟩
theorem fp_5_12 : am_fp 5 12 false (.int) := ⟨_, _, _, rfl, by decide +kernel, by decide +kernel⟩
theorem fp_5_13 : am_fp 5 13 false (.int) := ⟨_, _, _, rfl, by decide +kernel, by decide +kernel⟩
theorem fp_0_8 : am_fp 0 8 false (.int) := ⟨_, _, _, rfl, by decide +kernel, by decide +kernel⟩
theorem fp_8_10 : am_fp 8 10 false (.int) := ⟨_, _, _, rfl, by decide +kernel, by decide +kernel⟩
theorem fp_5_10 : am_fp 5 10 false (.int) := ⟨_, _, _, rfl, by decide +kernel, by decide +kernel⟩
theorem fp_0_1 : am_fp 0 1 true (.array (.int)) := ⟨_, _, _, rfl, by decide +kernel, by decide +kernel⟩
theorem fp_0_2 : am_fp 0 2 true (.array (.int)) := ⟨_, _, _, rfl, by decide +kernel, by decide +kernel⟩
theorem fp_0_3 : am_fp 0 3 true (.array (.int)) := ⟨_, _, _, rfl, by decide +kernel, by decide +kernel⟩
theorem fp_0_4 : am_fp 0 4 true (.array (.int)) := ⟨_, _, _, rfl, by decide +kernel, by decide +kernel⟩
theorem fp_0_9 : am_fp 0 9 true (.array (.int)) := ⟨_, _, _, rfl, by decide +kernel, by decide +kernel⟩
theorem fp_0_0 : am_fp 0 0 false (.int) := ⟨_, _, _, rfl, by decide +kernel, by decide +kernel⟩
theorem fp_0_5 : am_fp 0 5 false (.int) := ⟨_, _, _, rfl, by decide +kernel, by decide +kernel⟩
theorem fp_0_6 : am_fp 0 6 false (.int) := ⟨_, _, _, rfl, by decide +kernel, by decide +kernel⟩
theorem fp_0_7 : am_fp 0 7 false (.int) := ⟨_, _, _, rfl, by decide +kernel, by decide +kernel⟩
theorem fp_1_0 : am_fp 1 0 true (.array (.int)) := ⟨_, _, _, rfl, by decide +kernel, by decide +kernel⟩
theorem fp_1_1 : am_fp 1 1 true (.array (.int)) := ⟨_, _, _, rfl, by decide +kernel, by decide +kernel⟩
theorem fp_2_1 : am_fp 2 1 false (.int) := ⟨_, _, _, rfl, by decide +kernel, by decide +kernel⟩
theorem fp_2_2 : am_fp 2 2 false (.int) := ⟨_, _, _, rfl, by decide +kernel, by decide +kernel⟩
theorem fp_2_3 : am_fp 2 3 false (.int) := ⟨_, _, _, rfl, by decide +kernel, by decide +kernel⟩
theorem fp_3_0 : am_fp 3 0 true (.array (.char)) := ⟨_, _, _, rfl, by decide +kernel, by decide +kernel⟩
theorem fp_4_0 : am_fp 4 0 true (.array (.int)) := ⟨_, _, _, rfl, by decide +kernel, by decide +kernel⟩
theorem fp_4_1 : am_fp 4 1 true (.array (.boolean)) := ⟨_, _, _, rfl, by decide +kernel, by decide +kernel⟩
theorem fp_4_2 : am_fp 4 2 true (.array (.int)) := ⟨_, _, _, rfl, by decide +kernel, by decide +kernel⟩
theorem fp_4_3 : am_fp 4 3 true (.array (.object "DroppingBalls$Work")) := ⟨_, _, _, rfl, by decide +kernel, by decide +kernel⟩
theorem fp_4_4 : am_fp 4 4 true (.array (.int)) := ⟨_, _, _, rfl, by decide +kernel, by decide +kernel⟩
theorem fp_4_6 : am_fp 4 6 true (.array (.int)) := ⟨_, _, _, rfl, by decide +kernel, by decide +kernel⟩
theorem fp_4_5 : am_fp 4 5 false (.int) := ⟨_, _, _, rfl, by decide +kernel, by decide +kernel⟩
theorem fp_4_7 : am_fp 4 7 false (.int) := ⟨_, _, _, rfl, by decide +kernel, by decide +kernel⟩
theorem fp_4_8 : am_fp 4 8 false (.int) := ⟨_, _, _, rfl, by decide +kernel, by decide +kernel⟩
theorem fp_4_9 : am_fp 4 9 false (.int) := ⟨_, _, _, rfl, by decide +kernel, by decide +kernel⟩
theorem fp_4_10 : am_fp 4 10 false (.int) := ⟨_, _, _, rfl, by decide +kernel, by decide +kernel⟩
theorem fp_4_11 : am_fp 4 11 false (.int) := ⟨_, _, _, rfl, by decide +kernel, by decide +kernel⟩
theorem fp_7_3 : am_fp 7 3 true (.object "DroppingBalls$Work") := ⟨_, _, _, rfl, by decide +kernel, by decide +kernel⟩
theorem fp_7_2 : am_fp 7 2 true (.int) := ⟨_, _, _, rfl, by decide +kernel, by decide +kernel⟩
theorem fp_7_0 : am_fp 7 0 true (.int) := ⟨_, _, _, rfl, by decide +kernel, by decide +kernel⟩
theorem fp_5_4 : am_fp 5 4 true (.array (.int)) := ⟨_, _, _, rfl, by decide +kernel, by decide +kernel⟩
theorem fp_5_11 : am_fp 5 11 true (.array (.int)) := ⟨_, _, _, rfl, by decide +kernel, by decide +kernel⟩
theorem fp_5_1 : am_fp 5 1 false (.object "DroppingBalls$Fault") := ⟨_, _, _, rfl, by decide +kernel, by decide +kernel⟩
theorem fp_5_2 : am_fp 5 2 false (.int) := ⟨_, _, _, rfl, by decide +kernel, by decide +kernel⟩
theorem fp_5_3 : am_fp 5 3 false (.int) := ⟨_, _, _, rfl, by decide +kernel, by decide +kernel⟩
theorem fp_5_5 : am_fp 5 5 false (.int) := ⟨_, _, _, rfl, by decide +kernel, by decide +kernel⟩
theorem fp_5_6 : am_fp 5 6 false (.int) := ⟨_, _, _, rfl, by decide +kernel, by decide +kernel⟩
theorem fp_5_7 : am_fp 5 7 false (.int) := ⟨_, _, _, rfl, by decide +kernel, by decide +kernel⟩
theorem fp_5_8 : am_fp 5 8 false (.int) := ⟨_, _, _, rfl, by decide +kernel, by decide +kernel⟩
theorem fp_5_9 : am_fp 5 9 false (.int) := ⟨_, _, _, rfl, by decide +kernel, by decide +kernel⟩
theorem fp_6_2 : am_fp 6 2 true (.array (.int)) := ⟨_, _, _, rfl, by decide +kernel, by decide +kernel⟩
theorem ci_L_7 : Jvm.Cond.constant RL 7 (2147483647) ∈ am_W := am_inW 618 (by decide +kernel) rfl
theorem ci_L_20 : Jvm.Cond.constant RL 20 (65536) ∈ am_W := am_inW 622 (by decide +kernel) rfl
theorem ci_L_35 : Jvm.Cond.constant RL 35 (1000000) ∈ am_W := am_inW 718 (by decide +kernel) rfl
theorem ac_0 : Cond.arrayClass (newarray.typeOf .int) ∈ am_W := am_inW 96 (by decide +kernel) rfl
theorem ac_2 : Cond.arrayClass (newarray.typeOf .char) ∈ am_W := am_inW 70 (by decide +kernel) rfl
theorem ac_3 : Cond.arrayClass (newarray.typeOf .boolean) ∈ am_W := am_inW 265 (by decide +kernel) rfl
theorem cn_X8_9 : Cond.classLink RX8 9 RX0 ∈ am_W := am_inW 46 (by decide +kernel) rfl
theorem cn_X8_15 : Cond.classLink RX8 15 RX2 ∈ am_W := am_inW 48 (by decide +kernel) rfl
theorem cn_X8_21 : Cond.classLink RX8 21 RX7 ∈ am_W := am_inW 50 (by decide +kernel) rfl
theorem cn_X4_22 : Cond.classLink RX4 22 RX7 ∈ am_W := am_inW 227 (by decide +kernel) rfl
theorem st_max : Cond.static Lib.Math.max.name ∈ am_W := am_inW 479 (by decide +kernel) rfl
theorem co_max : Cond.code Lib.Math.max.name Lib.Math.max.code 2 (some .int) ∈ am_W := am_inW 480 (by decide +kernel) rfl
theorem st_min : Cond.static Lib.Math.min.name ∈ am_W := am_inW 482 (by decide +kernel) rfl
theorem co_min : Cond.code Lib.Math.min.name Lib.Math.min.code 2 (some .int) ∈ am_W := am_inW 483 (by decide +kernel) rfl
theorem st_abs : Cond.static Lib.Math.abs.name ∈ am_W := am_inW 550 (by decide +kernel) rfl
theorem co_abs : Cond.code Lib.Math.abs.name Lib.Math.abs.code 1 (some .int) ∈ am_W := am_inW 551 (by decide +kernel) rfl
theorem in_Math : Cond.initialized "java/lang/Math" ∈ am_W := am_inW 37 (by decide +kernel) rfl
theorem im_ob : Cond.instanceMethod objectInit ∈ am_W := am_inW 44 (by decide +kernel) rfl
theorem co_ob : Cond.code objectInit ⟨#[0xb1]⟩ 1 none ∈ am_W := am_inW 45 (by decide +kernel) rfl
theorem ml_X3_3 : Cond.methodLink RX3 3 objectInit ∈ am_W := am_inW 57 (by decide +kernel) rfl
theorem ml_X6_3 : Cond.methodLink RX6 3 objectInit ∈ am_W := am_inW 76 (by decide +kernel) rfl
theorem sm_J7_fill_53178 : Cond.static yJ7_fill_53178 ∈ am_W := am_inW 78 (by decide +kernel) rfl
theorem lk_X6_init_25 : am_lkS miX6_init 25 miJ7_fill_53178 2 := ⟨mokJ7_fill_53178, sm_J7_fill_53178, am_inW 77 (by decide +kernel) rfl, ⟨by decide, by decide⟩⟩
theorem ml_X0_3 : Cond.methodLink RX0 3 objectInit ∈ am_W := am_inW 101 (by decide +kernel) rfl
theorem ml_X2_3 : Cond.methodLink RX2 3 objectInit ∈ am_W := am_inW 152 (by decide +kernel) rfl
theorem ml_X5_3 : Cond.methodLink RX5 3 objectInit ∈ am_W := am_inW 173 (by decide +kernel) rfl
theorem ml_X4_3 : Cond.methodLink RX4 3 objectInit ∈ am_W := am_inW 226 (by decide +kernel) rfl
theorem ml_X1_3 : Cond.methodLink RX1 3 objectInit ∈ am_W := am_inW 271 (by decide +kernel) rfl
theorem ml_X8_1 : Cond.methodLink RX8 1 objectInit ∈ am_W := am_inW 43 (by decide +kernel) rfl
theorem im_X3_init : Cond.instanceMethod yX3_init ∈ am_W := am_inW 55 (by decide +kernel) rfl
theorem lk_X8_init_29 : am_lkI miX8_init 29 miX3_init 0 := ⟨mokX3_init, rfl, rfl, im_X3_init, Or.inr ⟨_, List.mem_of_getElem? (i := 0) rfl⟩, ⟨by decide, by decide⟩⟩
theorem im_X6_init : Cond.instanceMethod yX6_init ∈ am_W := am_inW 74 (by decide +kernel) rfl
theorem lk_X8_init_36 : am_lkI miX8_init 36 miX6_init 0 := ⟨mokX6_init, rfl, rfl, im_X6_init, Or.inl (am_inW 73 (by decide +kernel) rfl), ⟨by decide, by decide⟩⟩
theorem im_X0_init : Cond.instanceMethod yX0_init ∈ am_W := am_inW 99 (by decide +kernel) rfl
theorem lk_X8_init_44 : am_lkI miX8_init 44 miX0_init 0 := ⟨mokX0_init, rfl, rfl, im_X0_init, Or.inr ⟨_, List.mem_of_getElem? (i := 1) rfl⟩, ⟨by decide, by decide⟩⟩
theorem im_X2_init : Cond.instanceMethod yX2_init ∈ am_W := am_inW 150 (by decide +kernel) rfl
theorem lk_X8_init_49 : am_lkI miX8_init 49 miX2_init 0 := ⟨mokX2_init, rfl, rfl, im_X2_init, Or.inr ⟨_, List.mem_of_getElem? (i := 2) rfl⟩, ⟨by decide, by decide⟩⟩
theorem im_X5_init : Cond.instanceMethod yX5_init ∈ am_W := am_inW 171 (by decide +kernel) rfl
theorem lk_X8_init_59 : am_lkI miX8_init 59 miX5_init 2 := ⟨mokX5_init, rfl, rfl, im_X5_init, Or.inl (am_inW 170 (by decide +kernel) rfl), ⟨by decide, by decide⟩⟩
theorem im_X4_init : Cond.instanceMethod yX4_init ∈ am_W := am_inW 224 (by decide +kernel) rfl
theorem lk_X8_init_71 : am_lkI miX8_init 71 miX4_init 0 := ⟨mokX4_init, rfl, rfl, im_X4_init, Or.inr ⟨_, List.mem_of_getElem? (i := 3) rfl⟩, ⟨by decide, by decide⟩⟩
theorem im_X1_init : Cond.instanceMethod yX1_init ∈ am_W := am_inW 269 (by decide +kernel) rfl
theorem lk_X8_init_78 : am_lkI miX8_init 78 miX1_init 0 := ⟨mokX1_init, rfl, rfl, im_X1_init, Or.inr ⟨_, List.mem_of_getElem? (i := 4) rfl⟩, ⟨by decide, by decide⟩⟩
theorem sm_X8_byteOf : Cond.static yX8_byteOf ∈ am_W := am_inW 634 (by decide +kernel) rfl
theorem lk_X8_lettersIn_95 : am_lkS miX8_lettersIn 95 miX8_byteOf 2 := ⟨mokX8_byteOf, sm_X8_byteOf, am_inW 633 (by decide +kernel) rfl, ⟨by decide, by decide⟩⟩
theorem sm_X8_lettersIn : Cond.static yX8_lettersIn ∈ am_W := am_inW 631 (by decide +kernel) rfl
theorem lk_X8_letters_87 : am_lkS miX8_letters 87 miX8_lettersIn 1 := ⟨mokX8_lettersIn, sm_X8_lettersIn, am_inW 630 (by decide +kernel) rfl, ⟨by decide, by decide⟩⟩
theorem lk_X8_letters_95 : am_lkS miX8_letters 95 miX8_byteOf 2 := ⟨mokX8_byteOf, sm_X8_byteOf, am_inW 633 (by decide +kernel) rfl, ⟨by decide, by decide⟩⟩
theorem im_X3_add : Cond.instanceMethod yX3_add ∈ am_W := am_inW 637 (by decide +kernel) rfl
theorem se_X3_add : Cond.selects yX3_add.cls yX3_add yX3_add ∈ am_W := am_inW 638 (by decide +kernel) rfl
theorem lk_X8_letters_99 : am_lkV miX8_letters 99 miX3_add 1 3 := ⟨mokX3_add, im_X3_add, se_X3_add, am_inW 636 (by decide +kernel) rfl, ⟨by decide, by decide⟩, _, rfl, rfl⟩
theorem im_X8_letters : Cond.instanceMethod yX8_letters ∈ am_W := am_inW 627 (by decide +kernel) rfl
theorem se_X8_letters : Cond.selects yX8_letters.cls yX8_letters yX8_letters ∈ am_W := am_inW 628 (by decide +kernel) rfl
theorem lk_L_put_8 : am_lkV miL_put 8 miX8_letters 1 8 := ⟨mokX8_letters, im_X8_letters, se_X8_letters, am_inW 626 (by decide +kernel) rfl, ⟨by decide, by decide⟩, _, rfl, rfl⟩
theorem sm_L_put : Cond.static yL_put ∈ am_W := am_inW 624 (by decide +kernel) rfl
theorem lk_L_number_14 : am_lkS miL_number 14 miL_put 2 := ⟨mokL_put, sm_L_put, am_inW 623 (by decide +kernel) rfl, ⟨by decide, by decide⟩⟩
theorem im_X3_codeAt : Cond.instanceMethod yX3_codeAt ∈ am_W := am_inW 668 (by decide +kernel) rfl
theorem se_X3_codeAt : Cond.selects yX3_codeAt.cls yX3_codeAt yX3_codeAt ∈ am_W := am_inW 669 (by decide +kernel) rfl
theorem lk_X3_figureHere_71 : am_lkV miX3_figureHere 71 miX3_codeAt 1 3 := ⟨mokX3_codeAt, im_X3_codeAt, se_X3_codeAt, am_inW 667 (by decide +kernel) rfl, ⟨by decide, by decide⟩, _, rfl, rfl⟩
theorem sm_X8_isIn : Cond.static yX8_isIn ∈ am_W := am_inW 348 (by decide +kernel) rfl
theorem lk_X3_figureHere_83 : am_lkT miX3_figureHere 83 miX8_isIn 3 := ⟨mokX8_isIn, sm_X8_isIn, ⟨_, List.mem_of_getElem? (i := 8) rfl⟩, ⟨by decide, by decide⟩⟩
theorem lk_X3_canStart_83 : am_lkT miX3_canStart 83 miX8_isIn 3 := ⟨mokX8_isIn, sm_X8_isIn, ⟨_, List.mem_of_getElem? (i := 8) rfl⟩, ⟨by decide, by decide⟩⟩
theorem im_X3_figureHere : Cond.instanceMethod yX3_figureHere ∈ am_W := am_inW 665 (by decide +kernel) rfl
theorem se_X3_figureHere : Cond.selects yX3_figureHere.cls yX3_figureHere yX3_figureHere ∈ am_W := am_inW 21 (by decide +kernel) rfl
theorem lk_X3_readNumber_75 : am_lkV miX3_readNumber 75 miX3_figureHere 0 3 := ⟨mokX3_figureHere, im_X3_figureHere, se_X3_figureHere, am_inW 663 (by decide +kernel) rfl, ⟨by decide, by decide⟩, _, rfl, rfl⟩
theorem sm_X3_canStart : Cond.static yX3_canStart ∈ am_W := am_inW 673 (by decide +kernel) rfl
theorem lk_X3_readNumber_79 : am_lkS miX3_readNumber 79 miX3_canStart 3 := ⟨mokX3_canStart, sm_X3_canStart, am_inW 672 (by decide +kernel) rfl, ⟨by decide, by decide⟩⟩
theorem lk_X3_readNumber_83 : am_lkT miX3_readNumber 83 miX8_isIn 3 := ⟨mokX8_isIn, sm_X8_isIn, ⟨_, List.mem_of_getElem? (i := 8) rfl⟩, ⟨by decide, by decide⟩⟩
theorem lk_X3_readSign_71 : am_lkV miX3_readSign 71 miX3_codeAt 1 3 := ⟨mokX3_codeAt, im_X3_codeAt, se_X3_codeAt, am_inW 667 (by decide +kernel) rfl, ⟨by decide, by decide⟩, _, rfl, rfl⟩
theorem im_X3_readNumber : Cond.instanceMethod yX3_readNumber ∈ am_W := am_inW 661 (by decide +kernel) rfl
theorem se_X3_readNumber : Cond.selects yX3_readNumber.cls yX3_readNumber yX3_readNumber ∈ am_W := am_inW 20 (by decide +kernel) rfl
theorem lk_X3_readVessel_50 : am_lkV miX3_readVessel 50 miX3_readNumber 2 3 := ⟨mokX3_readNumber, im_X3_readNumber, se_X3_readNumber, am_inW 659 (by decide +kernel) rfl, ⟨by decide, by decide⟩, _, rfl, rfl⟩
theorem im_X3_readSign : Cond.instanceMethod yX3_readSign ∈ am_W := am_inW 677 (by decide +kernel) rfl
theorem se_X3_readSign : Cond.selects yX3_readSign.cls yX3_readSign yX3_readSign ∈ am_W := am_inW 22 (by decide +kernel) rfl
theorem lk_X3_readVessel_46 : am_lkV miX3_readVessel 46 miX3_readSign 1 3 := ⟨mokX3_readSign, im_X3_readSign, se_X3_readSign, am_inW 675 (by decide +kernel) rfl, ⟨by decide, by decide⟩, _, rfl, rfl⟩
theorem im_X0_addVessel : Cond.instanceMethod yX0_addVessel ∈ am_W := am_inW 680 (by decide +kernel) rfl
theorem se_X0_addVessel : Cond.selects yX0_addVessel.cls yX0_addVessel yX0_addVessel ∈ am_W := am_inW 681 (by decide +kernel) rfl
theorem lk_X3_readVessel_54 : am_lkV miX3_readVessel 54 miX0_addVessel 3 0 := ⟨mokX0_addVessel, im_X0_addVessel, se_X0_addVessel, am_inW 679 (by decide +kernel) rfl, ⟨by decide, by decide⟩, _, rfl, rfl⟩
theorem im_X3_readVessel : Cond.instanceMethod yX3_readVessel ∈ am_W := am_inW 657 (by decide +kernel) rfl
theorem se_X3_readVessel : Cond.selects yX3_readVessel.cls yX3_readVessel yX3_readVessel ∈ am_W := am_inW 19 (by decide +kernel) rfl
theorem lk_X3_readVessels_43 : am_lkV miX3_readVessels 43 miX3_readVessel 1 3 := ⟨mokX3_readVessel, im_X3_readVessel, se_X3_readVessel, am_inW 655 (by decide +kernel) rfl, ⟨by decide, by decide⟩, _, rfl, rfl⟩
theorem lk_X3_readVessels_46 : am_lkV miX3_readVessels 46 miX3_readSign 1 3 := ⟨mokX3_readSign, im_X3_readSign, se_X3_readSign, am_inW 675 (by decide +kernel) rfl, ⟨by decide, by decide⟩, _, rfl, rfl⟩
theorem lk_X3_readCylinder_46 : am_lkV miX3_readCylinder 46 miX3_readSign 1 3 := ⟨mokX3_readSign, im_X3_readSign, se_X3_readSign, am_inW 675 (by decide +kernel) rfl, ⟨by decide, by decide⟩, _, rfl, rfl⟩
theorem lk_X3_readCylinder_50 : am_lkV miX3_readCylinder 50 miX3_readNumber 2 3 := ⟨mokX3_readNumber, im_X3_readNumber, se_X3_readNumber, am_inW 659 (by decide +kernel) rfl, ⟨by decide, by decide⟩, _, rfl, rfl⟩
theorem lk_X3_readSupply_46 : am_lkV miX3_readSupply 46 miX3_readSign 1 3 := ⟨mokX3_readSign, im_X3_readSign, se_X3_readSign, am_inW 675 (by decide +kernel) rfl, ⟨by decide, by decide⟩, _, rfl, rfl⟩
theorem lk_X3_readSupply_50 : am_lkV miX3_readSupply 50 miX3_readNumber 2 3 := ⟨mokX3_readNumber, im_X3_readNumber, se_X3_readNumber, am_inW 659 (by decide +kernel) rfl, ⟨by decide, by decide⟩, _, rfl, rfl⟩
theorem lk_X3_readMarks_46 : am_lkV miX3_readMarks 46 miX3_readSign 1 3 := ⟨mokX3_readSign, im_X3_readSign, se_X3_readSign, am_inW 675 (by decide +kernel) rfl, ⟨by decide, by decide⟩, _, rfl, rfl⟩
theorem lk_X3_readMarks_50 : am_lkV miX3_readMarks 50 miX3_readNumber 2 3 := ⟨mokX3_readNumber, im_X3_readNumber, se_X3_readNumber, am_inW 659 (by decide +kernel) rfl, ⟨by decide, by decide⟩, _, rfl, rfl⟩
theorem im_X0_addMark : Cond.instanceMethod yX0_addMark ∈ am_W := am_inW 696 (by decide +kernel) rfl
theorem se_X0_addMark : Cond.selects yX0_addMark.cls yX0_addMark yX0_addMark ∈ am_W := am_inW 697 (by decide +kernel) rfl
theorem lk_X3_readMarks_67 : am_lkV miX3_readMarks 67 miX0_addMark 1 0 := ⟨mokX0_addMark, im_X0_addMark, se_X0_addMark, am_inW 695 (by decide +kernel) rfl, ⟨by decide, by decide⟩, _, rfl, rfl⟩
theorem im_X3_readVessels : Cond.instanceMethod yX3_readVessels ∈ am_W := am_inW 653 (by decide +kernel) rfl
theorem se_X3_readVessels : Cond.selects yX3_readVessels.cls yX3_readVessels yX3_readVessels ∈ am_W := am_inW 18 (by decide +kernel) rfl
theorem lk_X3_readClock_30 : am_lkV miX3_readClock 30 miX3_readVessels 1 3 := ⟨mokX3_readVessels, im_X3_readVessels, se_X3_readVessels, am_inW 651 (by decide +kernel) rfl, ⟨by decide, by decide⟩, _, rfl, rfl⟩
theorem im_X3_readCylinder : Cond.instanceMethod yX3_readCylinder ∈ am_W := am_inW 685 (by decide +kernel) rfl
theorem se_X3_readCylinder : Cond.selects yX3_readCylinder.cls yX3_readCylinder yX3_readCylinder ∈ am_W := am_inW 23 (by decide +kernel) rfl
theorem lk_X3_readClock_34 : am_lkV miX3_readClock 34 miX3_readCylinder 1 3 := ⟨mokX3_readCylinder, im_X3_readCylinder, se_X3_readCylinder, am_inW 683 (by decide +kernel) rfl, ⟨by decide, by decide⟩, _, rfl, rfl⟩
theorem im_X3_readSupply : Cond.instanceMethod yX3_readSupply ∈ am_W := am_inW 689 (by decide +kernel) rfl
theorem se_X3_readSupply : Cond.selects yX3_readSupply.cls yX3_readSupply yX3_readSupply ∈ am_W := am_inW 24 (by decide +kernel) rfl
theorem lk_X3_readClock_37 : am_lkV miX3_readClock 37 miX3_readSupply 1 3 := ⟨mokX3_readSupply, im_X3_readSupply, se_X3_readSupply, am_inW 687 (by decide +kernel) rfl, ⟨by decide, by decide⟩, _, rfl, rfl⟩
theorem im_X3_readMarks : Cond.instanceMethod yX3_readMarks ∈ am_W := am_inW 693 (by decide +kernel) rfl
theorem se_X3_readMarks : Cond.selects yX3_readMarks.cls yX3_readMarks yX3_readMarks ∈ am_W := am_inW 25 (by decide +kernel) rfl
theorem lk_X3_readClock_40 : am_lkV miX3_readClock 40 miX3_readMarks 1 3 := ⟨mokX3_readMarks, im_X3_readMarks, se_X3_readMarks, am_inW 691 (by decide +kernel) rfl, ⟨by decide, by decide⟩, _, rfl, rfl⟩
theorem im_X3_readClock : Cond.instanceMethod yX3_readClock ∈ am_W := am_inW 648 (by decide +kernel) rfl
theorem se_X3_readClock : Cond.selects yX3_readClock.cls yX3_readClock yX3_readClock ∈ am_W := am_inW 649 (by decide +kernel) rfl
theorem lk_X8_fault_103 : am_lkV miX8_fault 103 miX3_readClock 1 3 := ⟨mokX3_readClock, im_X3_readClock, se_X3_readClock, am_inW 647 (by decide +kernel) rfl, ⟨by decide, by decide⟩, _, rfl, rfl⟩
theorem im_X6_ballsTold : Cond.instanceMethod yX6_ballsTold ∈ am_W := am_inW 704 (by decide +kernel) rfl
theorem se_X6_ballsTold : Cond.selects yX6_ballsTold.cls yX6_ballsTold yX6_ballsTold ∈ am_W := am_inW 705 (by decide +kernel) rfl
theorem lk_X8_count_318 : am_lkV miX8_count 318 miX6_ballsTold 0 6 := ⟨mokX6_ballsTold, im_X6_ballsTold, se_X6_ballsTold, am_inW 703 (by decide +kernel) rfl, ⟨by decide, by decide⟩, _, rfl, rfl⟩
theorem lk_X8_clock_103 : am_lkV miX8_clock 103 miX3_readClock 1 3 := ⟨mokX3_readClock, im_X3_readClock, se_X3_readClock, am_inW 647 (by decide +kernel) rfl, ⟨by decide, by decide⟩, _, rfl, rfl⟩
theorem lk_X8_clock_44 : am_lkI miX8_clock 44 miX0_init 0 := ⟨mokX0_init, rfl, rfl, im_X0_init, Or.inr ⟨_, List.mem_of_getElem? (i := 1) rfl⟩, ⟨by decide, by decide⟩⟩
theorem im_X0_copyFrom : Cond.instanceMethod yX0_copyFrom ∈ am_W := am_inW 712 (by decide +kernel) rfl
theorem se_X0_copyFrom : Cond.selects yX0_copyFrom.cls yX0_copyFrom yX0_copyFrom ∈ am_W := am_inW 713 (by decide +kernel) rfl
theorem lk_X8_clock_113 : am_lkV miX8_clock 113 miX0_copyFrom 1 0 := ⟨mokX0_copyFrom, im_X0_copyFrom, se_X0_copyFrom, am_inW 711 (by decide +kernel) rfl, ⟨by decide, by decide⟩, _, rfl, rfl⟩
theorem lk_L_clock_14 : am_lkS miL_clock 14 miL_put 2 := ⟨mokL_put, sm_L_put, am_inW 623 (by decide +kernel) rfl, ⟨by decide, by decide⟩⟩
theorem sm_L_number : Cond.static yL_number ∈ am_W := am_inW 641 (by decide +kernel) rfl
theorem lk_L_clock_21 : am_lkS miL_clock 21 miL_number 2 := ⟨mokL_number, sm_L_number, am_inW 640 (by decide +kernel) rfl, ⟨by decide, by decide⟩⟩
theorem im_X8_fault : Cond.instanceMethod yX8_fault ∈ am_W := am_inW 644 (by decide +kernel) rfl
theorem se_X8_fault : Cond.selects yX8_fault.cls yX8_fault yX8_fault ∈ am_W := am_inW 645 (by decide +kernel) rfl
theorem lk_L_clock_24 : am_lkV miL_clock 24 miX8_fault 0 8 := ⟨mokX8_fault, im_X8_fault, se_X8_fault, am_inW 643 (by decide +kernel) rfl, ⟨by decide, by decide⟩, _, rfl, rfl⟩
theorem im_X8_count : Cond.instanceMethod yX8_count ∈ am_W := am_inW 700 (by decide +kernel) rfl
theorem se_X8_count : Cond.selects yX8_count.cls yX8_count yX8_count ∈ am_W := am_inW 701 (by decide +kernel) rfl
theorem lk_L_clock_28 : am_lkV miL_clock 28 miX8_count 1 8 := ⟨mokX8_count, im_X8_count, se_X8_count, am_inW 699 (by decide +kernel) rfl, ⟨by decide, by decide⟩, _, rfl, rfl⟩
theorem im_X8_clock : Cond.instanceMethod yX8_clock ∈ am_W := am_inW 708 (by decide +kernel) rfl
theorem se_X8_clock : Cond.selects yX8_clock.cls yX8_clock yX8_clock ∈ am_W := am_inW 709 (by decide +kernel) rfl
theorem lk_L_clock_32 : am_lkV miL_clock 32 miX8_clock 0 8 := ⟨mokX8_clock, im_X8_clock, se_X8_clock, am_inW 707 (by decide +kernel) rfl, ⟨by decide, by decide⟩, _, rfl, rfl⟩
theorem lk_X8_isSeason_121 : am_lkS miX8_isSeason 121 miX8_isIn 3 := ⟨mokX8_isIn, sm_X8_isIn, am_inW 347 (by decide +kernel) rfl, ⟨by decide, by decide⟩⟩
theorem lk_X8_exchange_121 : am_lkS miX8_exchange 121 miX8_isIn 3 := ⟨mokX8_isIn, sm_X8_isIn, am_inW 347 (by decide +kernel) rfl, ⟨by decide, by decide⟩⟩
theorem sm_X8_isSeason : Cond.static yX8_isSeason ∈ am_W := am_inW 345 (by decide +kernel) rfl
theorem lk_X8_season_136 : am_lkS miX8_season 136 miX8_isSeason 1 := ⟨mokX8_isSeason, sm_X8_isSeason, am_inW 344 (by decide +kernel) rfl, ⟨by decide, by decide⟩⟩
theorem lk_X8_season_121 : am_lkS miX8_season 121 miX8_isIn 3 := ⟨mokX8_isIn, sm_X8_isIn, am_inW 347 (by decide +kernel) rfl, ⟨by decide, by decide⟩⟩
theorem sm_X8_exchange : Cond.static yX8_exchange ∈ am_W := am_inW 351 (by decide +kernel) rfl
theorem lk_X8_season_143 : am_lkS miX8_season 143 miX8_exchange 3 := ⟨mokX8_exchange, sm_X8_exchange, am_inW 350 (by decide +kernel) rfl, ⟨by decide, by decide⟩⟩
theorem lk_X8_isKind_121 : am_lkS miX8_isKind 121 miX8_isIn 3 := ⟨mokX8_isIn, sm_X8_isIn, am_inW 347 (by decide +kernel) rfl, ⟨by decide, by decide⟩⟩
theorem lk_X8_isWorkOrNone_121 : am_lkS miX8_isWorkOrNone 121 miX8_isIn 3 := ⟨mokX8_isIn, sm_X8_isIn, am_inW 347 (by decide +kernel) rfl, ⟨by decide, by decide⟩⟩
theorem lk_X8_workOf_121 : am_lkS miX8_workOf 121 miX8_isIn 3 := ⟨mokX8_isIn, sm_X8_isIn, am_inW 347 (by decide +kernel) rfl, ⟨by decide, by decide⟩⟩
theorem ml_X7_1 : Cond.methodLink RX7 1 objectInit ∈ am_W := am_inW 400 (by decide +kernel) rfl
theorem sm_X8_isKind : Cond.static yX8_isKind ∈ am_W := am_inW 358 (by decide +kernel) rfl
theorem lk_X8_work_150 : am_lkS miX8_work 150 miX8_isKind 1 := ⟨mokX8_isKind, sm_X8_isKind, am_inW 357 (by decide +kernel) rfl, ⟨by decide, by decide⟩⟩
theorem sm_X8_leastNumber : Cond.static yX8_leastNumber ∈ am_W := am_inW 383 (by decide +kernel) rfl
theorem lk_X8_work_174 : am_lkS miX8_work 174 miX8_leastNumber 1 := ⟨mokX8_leastNumber, sm_X8_leastNumber, am_inW 382 (by decide +kernel) rfl, ⟨by decide, by decide⟩⟩
theorem sm_X8_mostNumber : Cond.static yX8_mostNumber ∈ am_W := am_inW 386 (by decide +kernel) rfl
theorem lk_X8_work_177 : am_lkS miX8_work 177 miX8_mostNumber 1 := ⟨mokX8_mostNumber, sm_X8_mostNumber, am_inW 385 (by decide +kernel) rfl, ⟨by decide, by decide⟩⟩
theorem lk_X8_work_121 : am_lkS miX8_work 121 miX8_isIn 3 := ⟨mokX8_isIn, sm_X8_isIn, am_inW 347 (by decide +kernel) rfl, ⟨by decide, by decide⟩⟩
theorem im_X8_isWorkOrNone : Cond.instanceMethod yX8_isWorkOrNone ∈ am_W := am_inW 390 (by decide +kernel) rfl
theorem se_X8_isWorkOrNone : Cond.selects yX8_isWorkOrNone.cls yX8_isWorkOrNone yX8_isWorkOrNone ∈ am_W := am_inW 1 (by decide +kernel) rfl
theorem lk_X8_work_180 : am_lkV miX8_work 180 miX8_isWorkOrNone 1 8 := ⟨mokX8_isWorkOrNone, im_X8_isWorkOrNone, se_X8_isWorkOrNone, am_inW 388 (by decide +kernel) rfl, ⟨by decide, by decide⟩, _, rfl, rfl⟩
theorem im_X8_workOf : Cond.instanceMethod yX8_workOf ∈ am_W := am_inW 395 (by decide +kernel) rfl
theorem se_X8_workOf : Cond.selects yX8_workOf.cls yX8_workOf yX8_workOf ∈ am_W := am_inW 2 (by decide +kernel) rfl
theorem lk_X8_work_186 : am_lkV miX8_work 186 miX8_workOf 1 8 := ⟨mokX8_workOf, im_X8_workOf, se_X8_workOf, am_inW 393 (by decide +kernel) rfl, ⟨by decide, by decide⟩, _, rfl, rfl⟩
theorem im_X7_init : Cond.instanceMethod yX7_init ∈ am_W := am_inW 398 (by decide +kernel) rfl
theorem lk_X8_work_190 : am_lkI miX8_work 190 miX7_init 4 := ⟨mokX7_init, rfl, rfl, im_X7_init, Or.inl (am_inW 397 (by decide +kernel) rfl), ⟨by decide, by decide⟩⟩
theorem lk_X8_workAs_186 : am_lkV miX8_workAs 186 miX8_workOf 1 8 := ⟨mokX8_workOf, im_X8_workOf, se_X8_workOf, am_inW 393 (by decide +kernel) rfl, ⟨by decide, by decide⟩, _, rfl, rfl⟩
theorem lk_X8_workAs_150 : am_lkS miX8_workAs 150 miX8_isKind 1 := ⟨mokX8_isKind, sm_X8_isKind, am_inW 357 (by decide +kernel) rfl, ⟨by decide, by decide⟩⟩
theorem sm_X8_isWorkOfKind : Cond.static yX8_isWorkOfKind ∈ am_W := am_inW 424 (by decide +kernel) rfl
theorem lk_X8_workAs_194 : am_lkS miX8_workAs 194 miX8_isWorkOfKind 2 := ⟨mokX8_isWorkOfKind, sm_X8_isWorkOfKind, am_inW 423 (by decide +kernel) rfl, ⟨by decide, by decide⟩⟩
theorem lk_X8_head_180 : am_lkV miX8_head 180 miX8_isWorkOrNone 1 8 := ⟨mokX8_isWorkOrNone, im_X8_isWorkOrNone, se_X8_isWorkOrNone, am_inW 388 (by decide +kernel) rfl, ⟨by decide, by decide⟩, _, rfl, rfl⟩
theorem lk_X8_isTick_121 : am_lkS miX8_isTick 121 miX8_isIn 3 := ⟨mokX8_isIn, sm_X8_isIn, am_inW 347 (by decide +kernel) rfl, ⟨by decide, by decide⟩⟩
theorem lk_X8_faulty_150 : am_lkS miX8_faulty 150 miX8_isKind 1 := ⟨mokX8_isKind, sm_X8_isKind, am_inW 357 (by decide +kernel) rfl, ⟨by decide, by decide⟩⟩
theorem lk_X8_faulty_121 : am_lkS miX8_faulty 121 miX8_isIn 3 := ⟨mokX8_isIn, sm_X8_isIn, am_inW 347 (by decide +kernel) rfl, ⟨by decide, by decide⟩⟩
theorem sm_X8_isTick : Cond.static yX8_isTick ∈ am_W := am_inW 361 (by decide +kernel) rfl
theorem lk_X8_faulty_153 : am_lkS miX8_faulty 153 miX8_isTick 1 := ⟨mokX8_isTick, sm_X8_isTick, am_inW 360 (by decide +kernel) rfl, ⟨by decide, by decide⟩⟩
theorem lk_X8_faulty_49 : am_lkI miX8_faulty 49 miX2_init 0 := ⟨mokX2_init, rfl, rfl, im_X2_init, Or.inr ⟨_, List.mem_of_getElem? (i := 2) rfl⟩, ⟨by decide, by decide⟩⟩
theorem im_X2_become : Cond.instanceMethod yX2_become ∈ am_W := am_inW 364 (by decide +kernel) rfl
theorem se_X2_become : Cond.selects yX2_become.cls yX2_become yX2_become ∈ am_W := am_inW 365 (by decide +kernel) rfl
theorem lk_X8_faulty_159 : am_lkV miX8_faulty 159 miX2_become 4 2 := ⟨mokX2_become, im_X2_become, se_X2_become, am_inW 363 (by decide +kernel) rfl, ⟨by decide, by decide⟩, _, rfl, rfl⟩
theorem lk_X8_faultOf_121 : am_lkS miX8_faultOf 121 miX8_isIn 3 := ⟨mokX8_isIn, sm_X8_isIn, am_inW 347 (by decide +kernel) rfl, ⟨by decide, by decide⟩⟩
theorem lk_X8_as_121 : am_lkS miX8_as 121 miX8_isIn 3 := ⟨mokX8_isIn, sm_X8_isIn, am_inW 347 (by decide +kernel) rfl, ⟨by decide, by decide⟩⟩
theorem lk_X8_as_150 : am_lkS miX8_as 150 miX8_isKind 1 := ⟨mokX8_isKind, sm_X8_isKind, am_inW 357 (by decide +kernel) rfl, ⟨by decide, by decide⟩⟩
theorem im_X8_faultOf : Cond.instanceMethod yX8_faultOf ∈ am_W := am_inW 373 (by decide +kernel) rfl
theorem se_X8_faultOf : Cond.selects yX8_faultOf.cls yX8_faultOf yX8_faultOf ∈ am_W := am_inW 0 (by decide +kernel) rfl
theorem lk_X8_as_163 : am_lkV miX8_as 163 miX8_faultOf 1 8 := ⟨mokX8_faultOf, im_X8_faultOf, se_X8_faultOf, am_inW 371 (by decide +kernel) rfl, ⟨by decide, by decide⟩, _, rfl, rfl⟩
theorem sm_X8_isFaultOfKind : Cond.static yX8_isFaultOfKind ∈ am_W := am_inW 376 (by decide +kernel) rfl
theorem lk_X8_as_170 : am_lkS miX8_as 170 miX8_isFaultOfKind 2 := ⟨mokX8_isFaultOfKind, sm_X8_isFaultOfKind, am_inW 375 (by decide +kernel) rfl, ⟨by decide, by decide⟩⟩
theorem lk_X8_clockOf_121 : am_lkS miX8_clockOf 121 miX8_isIn 3 := ⟨mokX8_isIn, sm_X8_isIn, am_inW 347 (by decide +kernel) rfl, ⟨by decide, by decide⟩⟩
theorem lk_X8_warmthOf_136 : am_lkS miX8_warmthOf 136 miX8_isSeason 1 := ⟨mokX8_isSeason, sm_X8_isSeason, am_inW 344 (by decide +kernel) rfl, ⟨by decide, by decide⟩⟩
theorem lk_X5_start_56 : am_lkS miX5_start 56 miJ7_fill_53178 2 := ⟨mokJ7_fill_53178, sm_J7_fill_53178, am_inW 450 (by decide +kernel) rfl, ⟨by decide, by decide⟩⟩
theorem im_X8_clockOf : Cond.instanceMethod yX8_clockOf ∈ am_W := am_inW 440 (by decide +kernel) rfl
theorem se_X8_clockOf : Cond.selects yX8_clockOf.cls yX8_clockOf yX8_clockOf ∈ am_W := am_inW 4 (by decide +kernel) rfl
theorem lk_X8_startRun_117 : am_lkV miX8_startRun 117 miX8_clockOf 1 8 := ⟨mokX8_clockOf, im_X8_clockOf, se_X8_clockOf, am_inW 438 (by decide +kernel) rfl, ⟨by decide, by decide⟩, _, rfl, rfl⟩
theorem lk_X8_startRun_163 : am_lkV miX8_startRun 163 miX8_faultOf 1 8 := ⟨mokX8_faultOf, im_X8_faultOf, se_X8_faultOf, am_inW 371 (by decide +kernel) rfl, ⟨by decide, by decide⟩, _, rfl, rfl⟩
theorem lk_X8_startRun_136 : am_lkS miX8_startRun 136 miX8_isSeason 1 := ⟨mokX8_isSeason, sm_X8_isSeason, am_inW 344 (by decide +kernel) rfl, ⟨by decide, by decide⟩⟩
theorem im_X8_warmthOf : Cond.instanceMethod yX8_warmthOf ∈ am_W := am_inW 444 (by decide +kernel) rfl
theorem se_X8_warmthOf : Cond.selects yX8_warmthOf.cls yX8_warmthOf yX8_warmthOf ∈ am_W := am_inW 5 (by decide +kernel) rfl
theorem lk_X8_startRun_258 : am_lkV miX8_startRun 258 miX8_warmthOf 1 8 := ⟨mokX8_warmthOf, im_X8_warmthOf, se_X8_warmthOf, am_inW 442 (by decide +kernel) rfl, ⟨by decide, by decide⟩, _, rfl, rfl⟩
theorem im_X5_start : Cond.instanceMethod yX5_start ∈ am_W := am_inW 447 (by decide +kernel) rfl
theorem se_X5_start : Cond.selects yX5_start.cls yX5_start yX5_start ∈ am_W := am_inW 448 (by decide +kernel) rfl
theorem lk_X8_startRun_261 : am_lkV miX8_startRun 261 miX5_start 3 5 := ⟨mokX5_start, im_X5_start, se_X5_start, am_inW 446 (by decide +kernel) rfl, ⟨by decide, by decide⟩, _, rfl, rfl⟩
theorem ml_X2_24 : Cond.methodLink RX2 24 Lib.Math.max.name ∈ am_W := am_inW 478 (by decide +kernel) rfl
theorem im_X2_warmthOf : Cond.instanceMethod yX2_warmthOf ∈ am_W := am_inW 468 (by decide +kernel) rfl
theorem se_X2_warmthOf : Cond.selects yX2_warmthOf.cls yX2_warmthOf yX2_warmthOf ∈ am_W := am_inW 469 (by decide +kernel) rfl
theorem lk_X5_drip_83 : am_lkV miX5_drip 83 miX2_warmthOf 2 2 := ⟨mokX2_warmthOf, im_X2_warmthOf, se_X2_warmthOf, am_inW 467 (by decide +kernel) rfl, ⟨by decide, by decide⟩, _, rfl, rfl⟩
theorem sm_X8_quotient : Cond.static yX8_quotient ∈ am_W := am_inW 472 (by decide +kernel) rfl
theorem lk_X5_drip_98 : am_lkT miX5_drip 98 miX8_quotient 2 := ⟨mokX8_quotient, sm_X8_quotient, ⟨_, List.mem_of_getElem? (i := 5) rfl⟩, ⟨by decide, by decide⟩⟩
theorem im_X2_holeOf : Cond.instanceMethod yX2_holeOf ∈ am_W := am_inW 475 (by decide +kernel) rfl
theorem se_X2_holeOf : Cond.selects yX2_holeOf.cls yX2_holeOf yX2_holeOf ∈ am_W := am_inW 476 (by decide +kernel) rfl
theorem lk_X5_drip_104 : am_lkV miX5_drip 104 miX2_holeOf 3 2 := ⟨mokX2_holeOf, im_X2_holeOf, se_X2_holeOf, am_inW 474 (by decide +kernel) rfl, ⟨by decide, by decide⟩, _, rfl, rfl⟩
theorem ml_X5_108 : Cond.methodLink RX5 108 Lib.Math.min.name ∈ am_W := am_inW 481 (by decide +kernel) rfl
theorem ml_X5_113 : Cond.methodLink RX5 113 Lib.Math.max.name ∈ am_W := am_inW 484 (by decide +kernel) rfl
theorem im_X0_hasVessel : Cond.instanceMethod yX0_hasVessel ∈ am_W := am_inW 490 (by decide +kernel) rfl
theorem se_X0_hasVessel : Cond.selects yX0_hasVessel.cls yX0_hasVessel yX0_hasVessel ∈ am_W := am_inW 491 (by decide +kernel) rfl
theorem lk_X5_leak_119 : am_lkV miX5_leak 119 miX0_hasVessel 1 0 := ⟨mokX0_hasVessel, im_X0_hasVessel, se_X0_hasVessel, am_inW 489 (by decide +kernel) rfl, ⟨by decide, by decide⟩, _, rfl, rfl⟩
theorem im_X2_leakAt : Cond.instanceMethod yX2_leakAt ∈ am_W := am_inW 494 (by decide +kernel) rfl
theorem se_X2_leakAt : Cond.selects yX2_leakAt.cls yX2_leakAt yX2_leakAt ∈ am_W := am_inW 495 (by decide +kernel) rfl
theorem lk_X5_leak_123 : am_lkV miX5_leak 123 miX2_leakAt 1 2 := ⟨mokX2_leakAt, im_X2_leakAt, se_X2_leakAt, am_inW 493 (by decide +kernel) rfl, ⟨by decide, by decide⟩, _, rfl, rfl⟩
theorem lk_X5_dropBalls_98 : am_lkT miX5_dropBalls 98 miX8_quotient 2 := ⟨mokX8_quotient, sm_X8_quotient, ⟨_, List.mem_of_getElem? (i := 5) rfl⟩, ⟨by decide, by decide⟩⟩
theorem lk_X5_siphon_98 : am_lkT miX5_siphon 98 miX8_quotient 2 := ⟨mokX8_quotient, sm_X8_quotient, ⟨_, List.mem_of_getElem? (i := 5) rfl⟩, ⟨by decide, by decide⟩⟩
theorem im_X5_drip : Cond.instanceMethod yX5_drip ∈ am_W := am_inW 465 (by decide +kernel) rfl
theorem se_X5_drip : Cond.selects yX5_drip.cls yX5_drip yX5_drip ∈ am_W := am_inW 6 (by decide +kernel) rfl
theorem lk_X5_advance_71 : am_lkV miX5_advance 71 miX5_drip 0 5 := ⟨mokX5_drip, im_X5_drip, se_X5_drip, am_inW 463 (by decide +kernel) rfl, ⟨by decide, by decide⟩, _, rfl, rfl⟩
theorem im_X5_leak : Cond.instanceMethod yX5_leak ∈ am_W := am_inW 487 (by decide +kernel) rfl
theorem se_X5_leak : Cond.selects yX5_leak.cls yX5_leak yX5_leak ∈ am_W := am_inW 7 (by decide +kernel) rfl
theorem lk_X5_advance_74 : am_lkV miX5_advance 74 miX5_leak 0 5 := ⟨mokX5_leak, im_X5_leak, se_X5_leak, am_inW 485 (by decide +kernel) rfl, ⟨by decide, by decide⟩, _, rfl, rfl⟩
theorem im_X5_dropBalls : Cond.instanceMethod yX5_dropBalls ∈ am_W := am_inW 499 (by decide +kernel) rfl
theorem se_X5_dropBalls : Cond.selects yX5_dropBalls.cls yX5_dropBalls yX5_dropBalls ∈ am_W := am_inW 8 (by decide +kernel) rfl
theorem lk_X5_advance_77 : am_lkV miX5_advance 77 miX5_dropBalls 0 5 := ⟨mokX5_dropBalls, im_X5_dropBalls, se_X5_dropBalls, am_inW 497 (by decide +kernel) rfl, ⟨by decide, by decide⟩, _, rfl, rfl⟩
theorem im_X5_siphon : Cond.instanceMethod yX5_siphon ∈ am_W := am_inW 503 (by decide +kernel) rfl
theorem se_X5_siphon : Cond.selects yX5_siphon.cls yX5_siphon yX5_siphon ∈ am_W := am_inW 9 (by decide +kernel) rfl
theorem lk_X5_advance_80 : am_lkV miX5_advance 80 miX5_siphon 0 5 := ⟨mokX5_siphon, im_X5_siphon, se_X5_siphon, am_inW 501 (by decide +kernel) rfl, ⟨by decide, by decide⟩, _, rfl, rfl⟩
theorem im_X5_advance : Cond.instanceMethod yX5_advance ∈ am_W := am_inW 460 (by decide +kernel) rfl
theorem se_X5_advance : Cond.selects yX5_advance.cls yX5_advance yX5_advance ∈ am_W := am_inW 461 (by decide +kernel) rfl
theorem lk_X5_goOnTo_68 : am_lkV miX5_goOnTo 68 miX5_advance 0 5 := ⟨mokX5_advance, im_X5_advance, se_X5_advance, am_inW 459 (by decide +kernel) rfl, ⟨by decide, by decide⟩, _, rfl, rfl⟩
theorem lk_X5_measure_119 : am_lkV miX5_measure 119 miX0_hasVessel 1 0 := ⟨mokX0_hasVessel, im_X0_hasVessel, se_X0_hasVessel, am_inW 489 (by decide +kernel) rfl, ⟨by decide, by decide⟩, _, rfl, rfl⟩
theorem im_X8_startRun : Cond.instanceMethod yX8_startRun ∈ am_W := am_inW 436 (by decide +kernel) rfl
theorem se_X8_startRun : Cond.selects yX8_startRun.cls yX8_startRun yX8_startRun ∈ am_W := am_inW 3 (by decide +kernel) rfl
theorem lk_X8_at_200 : am_lkV miX8_at 200 miX8_startRun 3 8 := ⟨mokX8_startRun, im_X8_startRun, se_X8_startRun, am_inW 434 (by decide +kernel) rfl, ⟨by decide, by decide⟩, _, rfl, rfl⟩
theorem lk_X8_at_153 : am_lkS miX8_at 153 miX8_isTick 1 := ⟨mokX8_isTick, sm_X8_isTick, am_inW 360 (by decide +kernel) rfl, ⟨by decide, by decide⟩⟩
theorem lk_X8_at_121 : am_lkS miX8_at 121 miX8_isIn 3 := ⟨mokX8_isIn, sm_X8_isIn, am_inW 347 (by decide +kernel) rfl, ⟨by decide, by decide⟩⟩
theorem im_X5_goOnTo : Cond.instanceMethod yX5_goOnTo ∈ am_W := am_inW 456 (by decide +kernel) rfl
theorem se_X5_goOnTo : Cond.selects yX5_goOnTo.cls yX5_goOnTo yX5_goOnTo ∈ am_W := am_inW 457 (by decide +kernel) rfl
theorem lk_X8_at_209 : am_lkV miX8_at 209 miX5_goOnTo 1 5 := ⟨mokX5_goOnTo, im_X5_goOnTo, se_X5_goOnTo, am_inW 455 (by decide +kernel) rfl, ⟨by decide, by decide⟩, _, rfl, rfl⟩
theorem im_X5_measure : Cond.instanceMethod yX5_measure ∈ am_W := am_inW 533 (by decide +kernel) rfl
theorem se_X5_measure : Cond.selects yX5_measure.cls yX5_measure yX5_measure ∈ am_W := am_inW 534 (by decide +kernel) rfl
theorem lk_X8_at_222 : am_lkV miX8_at 222 miX5_measure 1 5 := ⟨mokX5_measure, im_X5_measure, se_X5_measure, am_inW 532 (by decide +kernel) rfl, ⟨by decide, by decide⟩, _, rfl, rfl⟩
theorem lk_X8_even_200 : am_lkV miX8_even 200 miX8_startRun 3 8 := ⟨mokX8_startRun, im_X8_startRun, se_X8_startRun, am_inW 434 (by decide +kernel) rfl, ⟨by decide, by decide⟩, _, rfl, rfl⟩
theorem lk_X8_even_121 : am_lkS miX8_even 121 miX8_isIn 3 := ⟨mokX8_isIn, sm_X8_isIn, am_inW 347 (by decide +kernel) rfl, ⟨by decide, by decide⟩⟩
theorem lk_X8_even_209 : am_lkV miX8_even 209 miX5_goOnTo 1 5 := ⟨mokX5_goOnTo, im_X5_goOnTo, se_X5_goOnTo, am_inW 455 (by decide +kernel) rfl, ⟨by decide, by decide⟩, _, rfl, rfl⟩
theorem im_X0_hasBall : Cond.instanceMethod yX0_hasBall ∈ am_W := am_inW 452 (by decide +kernel) rfl
theorem se_X0_hasBall : Cond.selects yX0_hasBall.cls yX0_hasBall yX0_hasBall ∈ am_W := am_inW 453 (by decide +kernel) rfl
theorem lk_X5_tickOf_139 : am_lkV miX5_tickOf 139 miX0_hasBall 1 0 := ⟨mokX0_hasBall, im_X0_hasBall, se_X0_hasBall, am_inW 509 (by decide +kernel) rfl, ⟨by decide, by decide⟩, _, rfl, rfl⟩
theorem lk_X8_drops_200 : am_lkV miX8_drops 200 miX8_startRun 3 8 := ⟨mokX8_startRun, im_X8_startRun, se_X8_startRun, am_inW 434 (by decide +kernel) rfl, ⟨by decide, by decide⟩, _, rfl, rfl⟩
theorem lk_X8_drops_206 : am_lkV miX8_drops 206 miX0_hasBall 1 0 := ⟨mokX0_hasBall, im_X0_hasBall, se_X0_hasBall, am_inW 451 (by decide +kernel) rfl, ⟨by decide, by decide⟩, _, rfl, rfl⟩
theorem lk_X8_drops_209 : am_lkV miX8_drops 209 miX5_goOnTo 1 5 := ⟨mokX5_goOnTo, im_X5_goOnTo, se_X5_goOnTo, am_inW 455 (by decide +kernel) rfl, ⟨by decide, by decide⟩, _, rfl, rfl⟩
theorem im_X5_tickOf : Cond.instanceMethod yX5_tickOf ∈ am_W := am_inW 506 (by decide +kernel) rfl
theorem se_X5_tickOf : Cond.selects yX5_tickOf.cls yX5_tickOf yX5_tickOf ∈ am_W := am_inW 507 (by decide +kernel) rfl
theorem lk_X8_drops_213 : am_lkV miX8_drops 213 miX5_tickOf 1 5 := ⟨mokX5_tickOf, im_X5_tickOf, se_X5_tickOf, am_inW 505 (by decide +kernel) rfl, ⟨by decide, by decide⟩, _, rfl, rfl⟩
theorem lk_X8_daylightOf_136 : am_lkS miX8_daylightOf 136 miX8_isSeason 1 := ⟨mokX8_isSeason, sm_X8_isSeason, am_inW 344 (by decide +kernel) rfl, ⟨by decide, by decide⟩⟩
theorem lk_X0_trueTick_50 : am_lkT miX0_trueTick 50 miX8_quotient 2 := ⟨mokX8_quotient, sm_X8_quotient, ⟨_, List.mem_of_getElem? (i := 6) rfl⟩, ⟨by decide, by decide⟩⟩
theorem lk_X5_errorOf_142 : am_lkV miX5_errorOf 142 miX5_tickOf 1 5 := ⟨mokX5_tickOf, im_X5_tickOf, se_X5_tickOf, am_inW 522 (by decide +kernel) rfl, ⟨by decide, by decide⟩, _, rfl, rfl⟩
theorem im_X0_trueTick : Cond.instanceMethod yX0_trueTick ∈ am_W := am_inW 524 (by decide +kernel) rfl
theorem se_X0_trueTick : Cond.selects yX0_trueTick.cls yX0_trueTick yX0_trueTick ∈ am_W := am_inW 525 (by decide +kernel) rfl
theorem lk_X5_errorOf_145 : am_lkV miX5_errorOf 145 miX0_trueTick 2 0 := ⟨mokX0_trueTick, im_X0_trueTick, se_X0_trueTick, am_inW 523 (by decide +kernel) rfl, ⟨by decide, by decide⟩, _, rfl, rfl⟩
theorem lk_X8_error_200 : am_lkV miX8_error 200 miX8_startRun 3 8 := ⟨mokX8_startRun, im_X8_startRun, se_X8_startRun, am_inW 434 (by decide +kernel) rfl, ⟨by decide, by decide⟩, _, rfl, rfl⟩
theorem lk_X8_error_206 : am_lkV miX8_error 206 miX0_hasBall 1 0 := ⟨mokX0_hasBall, im_X0_hasBall, se_X0_hasBall, am_inW 451 (by decide +kernel) rfl, ⟨by decide, by decide⟩, _, rfl, rfl⟩
theorem lk_X8_error_209 : am_lkV miX8_error 209 miX5_goOnTo 1 5 := ⟨mokX5_goOnTo, im_X5_goOnTo, se_X5_goOnTo, am_inW 455 (by decide +kernel) rfl, ⟨by decide, by decide⟩, _, rfl, rfl⟩
theorem im_X8_daylightOf : Cond.instanceMethod yX8_daylightOf ∈ am_W := am_inW 516 (by decide +kernel) rfl
theorem se_X8_daylightOf : Cond.selects yX8_daylightOf.cls yX8_daylightOf yX8_daylightOf ∈ am_W := am_inW 10 (by decide +kernel) rfl
theorem lk_X8_error_216 : am_lkV miX8_error 216 miX8_daylightOf 1 8 := ⟨mokX8_daylightOf, im_X8_daylightOf, se_X8_daylightOf, am_inW 514 (by decide +kernel) rfl, ⟨by decide, by decide⟩, _, rfl, rfl⟩
theorem im_X5_errorOf : Cond.instanceMethod yX5_errorOf ∈ am_W := am_inW 519 (by decide +kernel) rfl
theorem se_X5_errorOf : Cond.selects yX5_errorOf.cls yX5_errorOf yX5_errorOf ∈ am_W := am_inW 520 (by decide +kernel) rfl
theorem lk_X8_error_219 : am_lkV miX8_error 219 miX5_errorOf 2 5 := ⟨mokX5_errorOf, im_X5_errorOf, se_X5_errorOf, am_inW 518 (by decide +kernel) rfl, ⟨by decide, by decide⟩, _, rfl, rfl⟩
theorem lk_X5_errorSize_148 : am_lkV miX5_errorSize 148 miX5_errorOf 2 5 := ⟨mokX5_errorOf, im_X5_errorOf, se_X5_errorOf, am_inW 548 (by decide +kernel) rfl, ⟨by decide, by decide⟩, _, rfl, rfl⟩
theorem ml_X5_151 : Cond.methodLink RX5 151 Lib.Math.abs.name ∈ am_W := am_inW 549 (by decide +kernel) rfl
theorem lk_X8_mean_200 : am_lkV miX8_mean 200 miX8_startRun 3 8 := ⟨mokX8_startRun, im_X8_startRun, se_X8_startRun, am_inW 434 (by decide +kernel) rfl, ⟨by decide, by decide⟩, _, rfl, rfl⟩
theorem lk_X8_mean_121 : am_lkS miX8_mean 121 miX8_isIn 3 := ⟨mokX8_isIn, sm_X8_isIn, am_inW 347 (by decide +kernel) rfl, ⟨by decide, by decide⟩⟩
theorem lk_X8_mean_209 : am_lkV miX8_mean 209 miX5_goOnTo 1 5 := ⟨mokX5_goOnTo, im_X5_goOnTo, se_X5_goOnTo, am_inW 455 (by decide +kernel) rfl, ⟨by decide, by decide⟩, _, rfl, rfl⟩
theorem lk_X8_mean_216 : am_lkV miX8_mean 216 miX8_daylightOf 1 8 := ⟨mokX8_daylightOf, im_X8_daylightOf, se_X8_daylightOf, am_inW 514 (by decide +kernel) rfl, ⟨by decide, by decide⟩, _, rfl, rfl⟩
theorem im_X5_errorSize : Cond.instanceMethod yX5_errorSize ∈ am_W := am_inW 545 (by decide +kernel) rfl
theorem se_X5_errorSize : Cond.selects yX5_errorSize.cls yX5_errorSize yX5_errorSize ∈ am_W := am_inW 546 (by decide +kernel) rfl
theorem lk_X8_mean_232 : am_lkV miX8_mean 232 miX5_errorSize 2 5 := ⟨mokX5_errorSize, im_X5_errorSize, se_X5_errorSize, am_inW 544 (by decide +kernel) rfl, ⟨by decide, by decide⟩, _, rfl, rfl⟩
theorem sm_X8_commonMeasure : Cond.static yX8_commonMeasure ∈ am_W := am_inW 553 (by decide +kernel) rfl
theorem lk_X8_mean_235 : am_lkS miX8_mean 235 miX8_commonMeasure 2 := ⟨mokX8_commonMeasure, sm_X8_commonMeasure, am_inW 552 (by decide +kernel) rfl, ⟨by decide, by decide⟩⟩
theorem lk_X8_mean_238 : am_lkS miX8_mean 238 miX8_quotient 2 := ⟨mokX8_quotient, sm_X8_quotient, am_inW 555 (by decide +kernel) rfl, ⟨by decide, by decide⟩⟩
theorem lk_X4_start_34 : am_lkS miX4_start 34 miJ7_fill_53178 2 := ⟨mokJ7_fill_53178, sm_J7_fill_53178, am_inW 568 (by decide +kernel) rfl, ⟨by decide, by decide⟩⟩
theorem im_X4_comesOut : Cond.instanceMethod yX4_comesOut ∈ am_W := am_inW 584 (by decide +kernel) rfl
theorem se_X4_comesOut : Cond.selects yX4_comesOut.cls yX4_comesOut yX4_comesOut ∈ am_W := am_inW 14 (by decide +kernel) rfl
theorem lk_X4_strikesOn_77 : am_lkV miX4_strikesOn 77 miX4_comesOut 2 4 := ⟨mokX4_comesOut, im_X4_comesOut, se_X4_comesOut, am_inW 582 (by decide +kernel) rfl, ⟨by decide, by decide⟩, _, rfl, rfl⟩
theorem im_X4_turn : Cond.instanceMethod yX4_turn ∈ am_W := am_inW 588 (by decide +kernel) rfl
theorem se_X4_turn : Cond.selects yX4_turn.cls yX4_turn yX4_turn ∈ am_W := am_inW 15 (by decide +kernel) rfl
theorem lk_X4_strikesOn_80 : am_lkV miX4_strikesOn 80 miX4_turn 2 4 := ⟨mokX4_turn, im_X4_turn, se_X4_turn, am_inW 586 (by decide +kernel) rfl, ⟨by decide, by decide⟩, _, rfl, rfl⟩
theorem im_X4_isCountedOut : Cond.instanceMethod yX4_isCountedOut ∈ am_W := am_inW 592 (by decide +kernel) rfl
theorem se_X4_isCountedOut : Cond.selects yX4_isCountedOut.cls yX4_isCountedOut yX4_isCountedOut ∈ am_W := am_inW 16 (by decide +kernel) rfl
theorem lk_X4_strikesOn_83 : am_lkV miX4_strikesOn 83 miX4_isCountedOut 1 4 := ⟨mokX4_isCountedOut, im_X4_isCountedOut, se_X4_isCountedOut, am_inW 590 (by decide +kernel) rfl, ⟨by decide, by decide⟩, _, rfl, rfl⟩
theorem im_X4_strikesOn : Cond.instanceMethod yX4_strikesOn ∈ am_W := am_inW 580 (by decide +kernel) rfl
theorem se_X4_strikesOn : Cond.selects yX4_strikesOn.cls yX4_strikesOn yX4_strikesOn ∈ am_W := am_inW 13 (by decide +kernel) rfl
theorem lk_X4_strike_67 : am_lkV miX4_strike 67 miX4_strikesOn 2 4 := ⟨mokX4_strikesOn, im_X4_strikesOn, se_X4_strikesOn, am_inW 578 (by decide +kernel) rfl, ⟨by decide, by decide⟩, _, rfl, rfl⟩
theorem im_X4_strike : Cond.instanceMethod yX4_strike ∈ am_W := am_inW 576 (by decide +kernel) rfl
theorem se_X4_strike : Cond.selects yX4_strike.cls yX4_strike yX4_strike ∈ am_W := am_inW 12 (by decide +kernel) rfl
theorem lk_X4_goThrough_63 : am_lkV miX4_goThrough 63 miX4_strike 2 4 := ⟨mokX4_strike, im_X4_strike, se_X4_strike, am_inW 574 (by decide +kernel) rfl, ⟨by decide, by decide⟩, _, rfl, rfl⟩
theorem lk_X8_playRun_186 : am_lkV miX8_playRun 186 miX8_workOf 1 8 := ⟨mokX8_workOf, im_X8_workOf, se_X8_workOf, am_inW 393 (by decide +kernel) rfl, ⟨by decide, by decide⟩, _, rfl, rfl⟩
theorem im_X4_start : Cond.instanceMethod yX4_start ∈ am_W := am_inW 565 (by decide +kernel) rfl
theorem se_X4_start : Cond.selects yX4_start.cls yX4_start yX4_start ∈ am_W := am_inW 566 (by decide +kernel) rfl
theorem lk_X8_playRun_369 : am_lkV miX8_playRun 369 miX4_start 0 4 := ⟨mokX4_start, im_X4_start, se_X4_start, am_inW 564 (by decide +kernel) rfl, ⟨by decide, by decide⟩, _, rfl, rfl⟩
theorem lk_X8_playRun_374 : am_lkV miX8_playRun 374 miX5_advance 0 5 := ⟨mokX5_advance, im_X5_advance, se_X5_advance, am_inW 569 (by decide +kernel) rfl, ⟨by decide, by decide⟩, _, rfl, rfl⟩
theorem im_X4_goThrough : Cond.instanceMethod yX4_goThrough ∈ am_W := am_inW 571 (by decide +kernel) rfl
theorem se_X4_goThrough : Cond.selects yX4_goThrough.cls yX4_goThrough yX4_goThrough ∈ am_W := am_inW 572 (by decide +kernel) rfl
theorem lk_X8_playRun_377 : am_lkV miX8_playRun 377 miX4_goThrough 3 4 := ⟨mokX4_goThrough, im_X4_goThrough, se_X4_goThrough, am_inW 570 (by decide +kernel) rfl, ⟨by decide, by decide⟩, _, rfl, rfl⟩
theorem lk_X4_figureOf_90 : am_lkT miX4_figureOf 90 miX8_isIn 3 := ⟨mokX8_isIn, sm_X8_isIn, ⟨_, List.mem_of_getElem? (i := 7) rfl⟩, ⟨by decide, by decide⟩⟩
theorem lk_X8_shows_200 : am_lkV miX8_shows 200 miX8_startRun 3 8 := ⟨mokX8_startRun, im_X8_startRun, se_X8_startRun, am_inW 434 (by decide +kernel) rfl, ⟨by decide, by decide⟩, _, rfl, rfl⟩
theorem lk_X8_shows_121 : am_lkS miX8_shows 121 miX8_isIn 3 := ⟨mokX8_isIn, sm_X8_isIn, am_inW 347 (by decide +kernel) rfl, ⟨by decide, by decide⟩⟩
theorem im_X8_playRun : Cond.instanceMethod yX8_playRun ∈ am_W := am_inW 562 (by decide +kernel) rfl
theorem se_X8_playRun : Cond.selects yX8_playRun.cls yX8_playRun yX8_playRun ∈ am_W := am_inW 11 (by decide +kernel) rfl
theorem lk_X8_shows_241 : am_lkV miX8_shows 241 miX8_playRun 0 8 := ⟨mokX8_playRun, im_X8_playRun, se_X8_playRun, am_inW 560 (by decide +kernel) rfl, ⟨by decide, by decide⟩, _, rfl, rfl⟩
theorem im_X4_measure : Cond.instanceMethod yX4_measure ∈ am_W := am_inW 595 (by decide +kernel) rfl
theorem se_X4_measure : Cond.selects yX4_measure.cls yX4_measure yX4_measure ∈ am_W := am_inW 596 (by decide +kernel) rfl
theorem lk_X8_shows_244 : am_lkV miX8_shows 244 miX4_measure 1 4 := ⟨mokX4_measure, im_X4_measure, se_X4_measure, am_inW 594 (by decide +kernel) rfl, ⟨by decide, by decide⟩, _, rfl, rfl⟩
theorem im_X4_figureOf : Cond.instanceMethod yX4_figureOf ∈ am_W := am_inW 599 (by decide +kernel) rfl
theorem se_X4_figureOf : Cond.selects yX4_figureOf.cls yX4_figureOf yX4_figureOf ∈ am_W := am_inW 600 (by decide +kernel) rfl
theorem lk_X8_shows_245 : am_lkV miX8_shows 245 miX4_figureOf 1 4 := ⟨mokX4_figureOf, im_X4_figureOf, se_X4_figureOf, am_inW 598 (by decide +kernel) rfl, ⟨by decide, by decide⟩, _, rfl, rfl⟩
theorem lk_X8_findWorst_258 : am_lkV miX8_findWorst 258 miX8_warmthOf 1 8 := ⟨mokX8_warmthOf, im_X8_warmthOf, se_X8_warmthOf, am_inW 442 (by decide +kernel) rfl, ⟨by decide, by decide⟩, _, rfl, rfl⟩
theorem lk_X8_findWorst_261 : am_lkV miX8_findWorst 261 miX5_start 3 5 := ⟨mokX5_start, im_X5_start, se_X5_start, am_inW 446 (by decide +kernel) rfl, ⟨by decide, by decide⟩, _, rfl, rfl⟩
theorem lk_X8_findWorst_209 : am_lkV miX8_findWorst 209 miX5_goOnTo 1 5 := ⟨mokX5_goOnTo, im_X5_goOnTo, se_X5_goOnTo, am_inW 455 (by decide +kernel) rfl, ⟨by decide, by decide⟩, _, rfl, rfl⟩
theorem lk_X8_findWorst_216 : am_lkV miX8_findWorst 216 miX8_daylightOf 1 8 := ⟨mokX8_daylightOf, im_X8_daylightOf, se_X8_daylightOf, am_inW 514 (by decide +kernel) rfl, ⟨by decide, by decide⟩, _, rfl, rfl⟩
theorem lk_X8_findWorst_232 : am_lkV miX8_findWorst 232 miX5_errorSize 2 5 := ⟨mokX5_errorSize, im_X5_errorSize, se_X5_errorSize, am_inW 544 (by decide +kernel) rfl, ⟨by decide, by decide⟩, _, rfl, rfl⟩
theorem lk_X8_worst_117 : am_lkV miX8_worst 117 miX8_clockOf 1 8 := ⟨mokX8_clockOf, im_X8_clockOf, se_X8_clockOf, am_inW 438 (by decide +kernel) rfl, ⟨by decide, by decide⟩, _, rfl, rfl⟩
theorem lk_X8_worst_121 : am_lkS miX8_worst 121 miX8_isIn 3 := ⟨mokX8_isIn, sm_X8_isIn, am_inW 347 (by decide +kernel) rfl, ⟨by decide, by decide⟩⟩
theorem im_X8_findWorst : Cond.instanceMethod yX8_findWorst ∈ am_W := am_inW 609 (by decide +kernel) rfl
theorem se_X8_findWorst : Cond.selects yX8_findWorst.cls yX8_findWorst yX8_findWorst ∈ am_W := am_inW 17 (by decide +kernel) rfl
theorem lk_X8_worst_248 : am_lkV miX8_worst 248 miX8_findWorst 1 8 := ⟨mokX8_findWorst, im_X8_findWorst, se_X8_findWorst, am_inW 607 (by decide +kernel) rfl, ⟨by decide, by decide⟩, _, rfl, rfl⟩
theorem lk_X8_better_117 : am_lkV miX8_better 117 miX8_clockOf 1 8 := ⟨mokX8_clockOf, im_X8_clockOf, se_X8_clockOf, am_inW 438 (by decide +kernel) rfl, ⟨by decide, by decide⟩, _, rfl, rfl⟩
theorem lk_X8_better_248 : am_lkV miX8_better 248 miX8_findWorst 1 8 := ⟨mokX8_findWorst, im_X8_findWorst, se_X8_findWorst, am_inW 607 (by decide +kernel) rfl, ⟨by decide, by decide⟩, _, rfl, rfl⟩
theorem im_X8_init : Cond.instanceMethod yX8_init ∈ am_W := am_inW 41 (by decide +kernel) rfl
theorem lk_L_law_36 : am_lkI miL_law 36 miX8_init 0 := ⟨mokX8_init, rfl, rfl, im_X8_init, Or.inl (am_inW 40 (by decide +kernel) rfl), ⟨by decide, by decide⟩⟩
theorem sm_L_cell : Cond.static yL_cell ∈ am_W := am_inW 616 (by decide +kernel) rfl
theorem lk_L_law_37 : am_lkS miL_law 37 miL_cell 2 := ⟨mokL_cell, sm_L_cell, am_inW 615 (by decide +kernel) rfl, ⟨by decide, by decide⟩⟩
theorem sm_L_clock : Cond.static yL_clock ∈ am_W := am_inW 620 (by decide +kernel) rfl
theorem lk_L_law_41 : am_lkS miL_law 41 miL_clock 6 := ⟨mokL_clock, sm_L_clock, am_inW 619 (by decide +kernel) rfl, ⟨by decide, by decide⟩⟩
theorem im_X8_season : Cond.instanceMethod yX8_season ∈ am_W := am_inW 341 (by decide +kernel) rfl
theorem se_X8_season : Cond.selects yX8_season.cls yX8_season yX8_season ∈ am_W := am_inW 342 (by decide +kernel) rfl
theorem lk_L_law_44 : am_lkV miL_law 44 miX8_season 3 8 := ⟨mokX8_season, im_X8_season, se_X8_season, am_inW 340 (by decide +kernel) rfl, ⟨by decide, by decide⟩, _, rfl, rfl⟩
theorem im_X8_work : Cond.instanceMethod yX8_work ∈ am_W := am_inW 379 (by decide +kernel) rfl
theorem se_X8_work : Cond.selects yX8_work.cls yX8_work yX8_work ∈ am_W := am_inW 380 (by decide +kernel) rfl
theorem lk_L_law_48 : am_lkV miL_law 48 miX8_work 3 8 := ⟨mokX8_work, im_X8_work, se_X8_work, am_inW 378 (by decide +kernel) rfl, ⟨by decide, by decide⟩, _, rfl, rfl⟩
theorem im_X8_workAs : Cond.instanceMethod yX8_workAs ∈ am_W := am_inW 420 (by decide +kernel) rfl
theorem se_X8_workAs : Cond.selects yX8_workAs.cls yX8_workAs yX8_workAs ∈ am_W := am_inW 421 (by decide +kernel) rfl
theorem lk_L_law_51 : am_lkV miL_law 51 miX8_workAs 2 8 := ⟨mokX8_workAs, im_X8_workAs, se_X8_workAs, am_inW 419 (by decide +kernel) rfl, ⟨by decide, by decide⟩, _, rfl, rfl⟩
theorem im_X8_head : Cond.instanceMethod yX8_head ∈ am_W := am_inW 427 (by decide +kernel) rfl
theorem se_X8_head : Cond.selects yX8_head.cls yX8_head yX8_head ∈ am_W := am_inW 428 (by decide +kernel) rfl
theorem lk_L_law_55 : am_lkV miL_law 55 miX8_head 1 8 := ⟨mokX8_head, im_X8_head, se_X8_head, am_inW 426 (by decide +kernel) rfl, ⟨by decide, by decide⟩, _, rfl, rfl⟩
theorem im_X8_faulty : Cond.instanceMethod yX8_faulty ∈ am_W := am_inW 354 (by decide +kernel) rfl
theorem se_X8_faulty : Cond.selects yX8_faulty.cls yX8_faulty yX8_faulty ∈ am_W := am_inW 355 (by decide +kernel) rfl
theorem lk_L_law_58 : am_lkV miL_law 58 miX8_faulty 4 8 := ⟨mokX8_faulty, im_X8_faulty, se_X8_faulty, am_inW 353 (by decide +kernel) rfl, ⟨by decide, by decide⟩, _, rfl, rfl⟩
theorem im_X8_as : Cond.instanceMethod yX8_as ∈ am_W := am_inW 368 (by decide +kernel) rfl
theorem se_X8_as : Cond.selects yX8_as.cls yX8_as yX8_as ∈ am_W := am_inW 369 (by decide +kernel) rfl
theorem lk_L_law_62 : am_lkV miL_law 62 miX8_as 2 8 := ⟨mokX8_as, im_X8_as, se_X8_as, am_inW 367 (by decide +kernel) rfl, ⟨by decide, by decide⟩, _, rfl, rfl⟩
theorem sm_L_run : Cond.static yL_run ∈ am_W := am_inW 716 (by decide +kernel) rfl
theorem lk_L_law_65 : am_lkS miL_law 65 miL_run 8 := ⟨mokL_run, sm_L_run, am_inW 715 (by decide +kernel) rfl, ⟨by decide, by decide⟩⟩
theorem im_X8_at : Cond.instanceMethod yX8_at ∈ am_W := am_inW 529 (by decide +kernel) rfl
theorem se_X8_at : Cond.selects yX8_at.cls yX8_at yX8_at ∈ am_W := am_inW 530 (by decide +kernel) rfl
theorem lk_L_law_69 : am_lkV miL_law 69 miX8_at 5 8 := ⟨mokX8_at, im_X8_at, se_X8_at, am_inW 528 (by decide +kernel) rfl, ⟨by decide, by decide⟩, _, rfl, rfl⟩
theorem im_X8_even : Cond.instanceMethod yX8_even ∈ am_W := am_inW 537 (by decide +kernel) rfl
theorem se_X8_even : Cond.selects yX8_even.cls yX8_even yX8_even ∈ am_W := am_inW 538 (by decide +kernel) rfl
theorem lk_L_law_73 : am_lkV miL_law 73 miX8_even 4 8 := ⟨mokX8_even, im_X8_even, se_X8_even, am_inW 536 (by decide +kernel) rfl, ⟨by decide, by decide⟩, _, rfl, rfl⟩
theorem sm_L_size : Cond.static yL_size ∈ am_W := am_inW 720 (by decide +kernel) rfl
theorem lk_L_law_76 : am_lkS miL_law 76 miL_size 1 := ⟨mokL_size, sm_L_size, am_inW 719 (by decide +kernel) rfl, ⟨by decide, by decide⟩⟩
theorem im_X8_drops : Cond.instanceMethod yX8_drops ∈ am_W := am_inW 431 (by decide +kernel) rfl
theorem se_X8_drops : Cond.selects yX8_drops.cls yX8_drops yX8_drops ∈ am_W := am_inW 432 (by decide +kernel) rfl
theorem lk_L_law_79 : am_lkV miL_law 79 miX8_drops 4 8 := ⟨mokX8_drops, im_X8_drops, se_X8_drops, am_inW 430 (by decide +kernel) rfl, ⟨by decide, by decide⟩, _, rfl, rfl⟩
theorem im_X8_error : Cond.instanceMethod yX8_error ∈ am_W := am_inW 511 (by decide +kernel) rfl
theorem se_X8_error : Cond.selects yX8_error.cls yX8_error yX8_error ∈ am_W := am_inW 512 (by decide +kernel) rfl
theorem lk_L_law_82 : am_lkV miL_law 82 miX8_error 4 8 := ⟨mokX8_error, im_X8_error, se_X8_error, am_inW 510 (by decide +kernel) rfl, ⟨by decide, by decide⟩, _, rfl, rfl⟩
theorem im_X8_mean : Cond.instanceMethod yX8_mean ∈ am_W := am_inW 541 (by decide +kernel) rfl
theorem se_X8_mean : Cond.selects yX8_mean.cls yX8_mean yX8_mean ∈ am_W := am_inW 542 (by decide +kernel) rfl
theorem lk_L_law_85 : am_lkV miL_law 85 miX8_mean 4 8 := ⟨mokX8_mean, im_X8_mean, se_X8_mean, am_inW 540 (by decide +kernel) rfl, ⟨by decide, by decide⟩, _, rfl, rfl⟩
theorem im_X8_shows : Cond.instanceMethod yX8_shows ∈ am_W := am_inW 557 (by decide +kernel) rfl
theorem se_X8_shows : Cond.selects yX8_shows.cls yX8_shows yX8_shows ∈ am_W := am_inW 558 (by decide +kernel) rfl
theorem lk_L_law_88 : am_lkV miL_law 88 miX8_shows 4 8 := ⟨mokX8_shows, im_X8_shows, se_X8_shows, am_inW 556 (by decide +kernel) rfl, ⟨by decide, by decide⟩, _, rfl, rfl⟩
theorem im_X8_worst : Cond.instanceMethod yX8_worst ∈ am_W := am_inW 604 (by decide +kernel) rfl
theorem se_X8_worst : Cond.selects yX8_worst.cls yX8_worst yX8_worst ∈ am_W := am_inW 605 (by decide +kernel) rfl
theorem lk_L_law_91 : am_lkV miL_law 91 miX8_worst 2 8 := ⟨mokX8_worst, im_X8_worst, se_X8_worst, am_inW 603 (by decide +kernel) rfl, ⟨by decide, by decide⟩, _, rfl, rfl⟩
theorem im_X8_better : Cond.instanceMethod yX8_better ∈ am_W := am_inW 612 (by decide +kernel) rfl
theorem se_X8_better : Cond.selects yX8_better.cls yX8_better yX8_better ∈ am_W := am_inW 613 (by decide +kernel) rfl
theorem lk_L_law_94 : am_lkV miL_law 94 miX8_better 2 8 := ⟨mokX8_better, im_X8_better, se_X8_better, am_inW 611 (by decide +kernel) rfl, ⟨by decide, by decide⟩, _, rfl, rfl⟩
