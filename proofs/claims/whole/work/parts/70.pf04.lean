/-! printed proofs of the printed functions, 4 -/
set_option maxRecDepth 20000 in
set_option maxHeartbeats 4000000 in
theorem sfX8_clockOf {G : am_G}  (v0 : Nat) (v1 : Int32) (h : am_H) (y : Option Nat × am_H) (hf : fX8_clockOf v0 v1 h = some y) : am_Cn G miX8_clockOf [va_rf (some v0), .int v1] h (some (va_rf y.1)) y.2 := by
  refine am_beg (ls := [some (va_rf (some v0)), some (.int v1)]) (by simp only [am_en, am_e1_r, am_e1_i, am_e1_l, am_e1_n]; rfl) ?_
  unfold fX8_clockOf at hf
  refine am_iload_n dX8_clockOf_0 rfl rfl ?_
  refine am_iconst (v := 0) dX8_clockOf_1 rfl rfl ?_
  refine am_aload_n dX8_clockOf_2 rfl rfl ?_
  refine am_gi_ dX8_clockOf_3 fl_X8_110 rfl hf (fun x1 _ hf => ?_)
  refine am_iconst (v := 1) dX8_clockOf_6 rfl rfl ?_
  refine am_isub dX8_clockOf_7 rfl ?_
  refine am_cSi (As := [.int v1, .int (0 : Int32), .int (x1 - (1 : Int32))]) (st := []) lk_X8_clockOf_121 rfl (Nat.le_of_ble_eq_true rfl) (Nat.le_of_ble_eq_true rfl) rfl dX8_clockOf_8 rfl hf (fun y2 hf => sfX8_isIn _ _ _ _ y2 hf) (fun y2 _ hf => ?_)
  refine am_if_eq (tgt := 28) dX8_clockOf_11 (by decide) rfl hf (fun hf => ?_) (fun hf => ?_)
  · refine am_null dX8_clockOf_28 rfl ?_
    exact am_aret rfl dX8_clockOf_29 hf
  refine am_iload_n dX8_clockOf_14 rfl rfl ?_
  refine am_iconst (v := 4) dX8_clockOf_15 rfl rfl ?_
  refine am_icmp_ge (tgt := 28) dX8_clockOf_16 (by decide) rfl hf (fun hf => ?_) (fun hf => ?_)
  · refine am_null dX8_clockOf_28 rfl ?_
    exact am_aret rfl dX8_clockOf_29 hf
  refine am_aload_n dX8_clockOf_19 rfl rfl ?_
  refine am_gr_ dX8_clockOf_20 fl_X8_11 rfl hf (fun x3 _ hf => ?_)
  refine am_iload_n dX8_clockOf_23 rfl rfl ?_
  refine am_alr_ (t := 4) rfl (by decide) dX8_clockOf_24 rfl hf (fun x4 _ hf => ?_)
  refine am_goto (pc' := 29) dX8_clockOf_25 (by decide) ?_
  exact am_aret rfl dX8_clockOf_29 hf
set_option maxRecDepth 20000 in
set_option maxHeartbeats 4000000 in
theorem sfX0_measure {G : am_G}  (v0 : Nat) (v1 : Int32) (h : am_H) (y : Int32 × am_H) (hf : fX0_measure v0 v1 h = some y) : am_Cn G miX0_measure [va_rf (some v0), .int v1] h (some (.int y.1)) y.2 := by
  refine am_beg (ls := [some (va_rf (some v0)), some (.int v1)]) (by simp only [am_en, am_e1_r, am_e1_i, am_e1_l, am_e1_n]; rfl) ?_
  unfold fX0_measure at hf
  refine am_iload_n dX0_measure_0 rfl rfl ?_
  refine am_tsw (d := 52) (l := [(0, 32), (1, 37), (2, 42), (3, 47)]) dX0_measure_1 (by decide) (by decide) (by decide) ?_
  refine am_swc hf (fun hf => ?_) (fun hf => ?_)
  · refine am_aload_n dX0_measure_32 rfl rfl ?_
    refine am_gi_ dX0_measure_33 fl_X0_27 rfl hf (fun x1 _ hf => ?_)
    exact am_iret rfl dX0_measure_36 hf
  refine am_swc hf (fun hf => ?_) (fun hf => ?_)
  · refine am_aload_n dX0_measure_37 rfl rfl ?_
    refine am_gi_ dX0_measure_38 fl_X0_31 rfl hf (fun x2 _ hf => ?_)
    exact am_iret rfl dX0_measure_41 hf
  refine am_swc hf (fun hf => ?_) (fun hf => ?_)
  · refine am_aload_n dX0_measure_42 rfl rfl ?_
    refine am_gi_ dX0_measure_43 fl_X0_34 rfl hf (fun x3 _ hf => ?_)
    exact am_iret rfl dX0_measure_46 hf
  refine am_swc hf (fun hf => ?_) (fun hf => ?_)
  · refine am_aload_n dX0_measure_47 rfl rfl ?_
    refine am_gi_ dX0_measure_48 fl_X0_37 rfl hf (fun x4 _ hf => ?_)
    exact am_iret rfl dX0_measure_51 hf
  show am_S _ _ 52 _ _ _ _ _
  refine am_aload_n dX0_measure_52 rfl rfl ?_
  refine am_gi_ dX0_measure_53 fl_X0_40 rfl hf (fun x5 _ hf => ?_)
  exact am_iret rfl dX0_measure_56 hf
set_option maxRecDepth 20000 in
set_option maxHeartbeats 4000000 in
theorem sfX0_hasBall {G : am_G}  (v0 : Nat) (v1 : Int32) (h : am_H) (y : Int32 × am_H) (hf : fX0_hasBall v0 v1 h = some y) : am_Cn G miX0_hasBall [va_rf (some v0), .int v1] h (some (.int y.1)) y.2 := by
  refine am_beg (ls := [some (va_rf (some v0)), some (.int v1)]) (by simp only [am_en, am_e1_r, am_e1_i, am_e1_l, am_e1_n]; rfl) ?_
  unfold fX0_hasBall at hf
  refine am_iload_n dX0_hasBall_0 rfl rfl ?_
  refine am_if_lt (tgt := 22) dX0_hasBall_1 (by decide) rfl hf (fun hf => ?_) (fun hf => ?_)
  · refine am_iconst (v := 0) dX0_hasBall_22 rfl rfl ?_
    exact am_zret rfl dX0_hasBall_23 hf
  refine am_iload_n dX0_hasBall_4 rfl rfl ?_
  refine am_aload_n dX0_hasBall_5 rfl rfl ?_
  refine am_gi_ dX0_hasBall_6 fl_X0_40 rfl hf (fun x1 _ hf => ?_)
  refine am_icmp_ge (tgt := 22) dX0_hasBall_9 (by decide) rfl hf (fun hf => ?_) (fun hf => ?_)
  · refine am_iconst (v := 0) dX0_hasBall_22 rfl rfl ?_
    exact am_zret rfl dX0_hasBall_23 hf
  refine am_iload_n dX0_hasBall_12 rfl rfl ?_
  refine am_bipush (v := 12) dX0_hasBall_13 (by decide) rfl ?_
  refine am_icmp_ge (tgt := 22) dX0_hasBall_15 (by decide) rfl hf (fun hf => ?_) (fun hf => ?_)
  · refine am_iconst (v := 0) dX0_hasBall_22 rfl rfl ?_
    exact am_zret rfl dX0_hasBall_23 hf
  refine am_iconst (v := 1) dX0_hasBall_18 rfl rfl ?_
  refine am_goto (pc' := 23) dX0_hasBall_19 (by decide) ?_
  exact am_zret rfl dX0_hasBall_23 hf
set_option maxRecDepth 20000 in
set_option maxHeartbeats 4000000 in
theorem sfX0_markOf {G : am_G}  (v0 : Nat) (v1 : Int32) (h : am_H) (y : Int32 × am_H) (hf : fX0_markOf v0 v1 h = some y) : am_Cn G miX0_markOf [va_rf (some v0), .int v1] h (some (.int y.1)) y.2 := by
  refine am_beg (ls := [some (va_rf (some v0)), some (.int v1)]) (by simp only [am_en, am_e1_r, am_e1_i, am_e1_l, am_e1_n]; rfl) ?_
  unfold fX0_markOf at hf
  refine am_aload_n dX0_markOf_0 rfl rfl ?_
  refine am_iload_n dX0_markOf_1 rfl rfl ?_
  refine am_cVi (As := [.int v1]) (st := []) lk_X0_markOf_47 rfl (Nat.le_of_ble_eq_true rfl) (Nat.le_of_ble_eq_true rfl) rfl dX0_markOf_2 rfl hf (fun b2 y1 hf => sfX0_hasBall b2 _ _ y1 hf) (fun b2 y1 _ _ hf => ?_)
  refine am_if_eq (tgt := 17) dX0_markOf_5 (by decide) rfl hf (fun hf => ?_) (fun hf => ?_)
  · refine am_iconst (v := -1) dX0_markOf_17 rfl rfl ?_
    exact am_iret rfl dX0_markOf_18 hf
  refine am_aload_n dX0_markOf_8 rfl rfl ?_
  refine am_gr_ dX0_markOf_9 fl_X0_24 rfl hf (fun x3 _ hf => ?_)
  refine am_iload_n dX0_markOf_12 rfl rfl ?_
  refine am_iald dX0_markOf_13 rfl hf (fun x4 _ hf => ?_)
  refine am_goto (pc' := 18) dX0_markOf_14 (by decide) ?_
  exact am_iret rfl dX0_markOf_18 hf
set_option maxRecDepth 20000 in
set_option maxHeartbeats 4000000 in
theorem sfX0_hasVessel {G : am_G}  (v0 : Nat) (v1 : Int32) (h : am_H) (y : Int32 × am_H) (hf : fX0_hasVessel v0 v1 h = some y) : am_Cn G miX0_hasVessel [va_rf (some v0), .int v1] h (some (.int y.1)) y.2 := by
  refine am_beg (ls := [some (va_rf (some v0)), some (.int v1)]) (by simp only [am_en, am_e1_r, am_e1_i, am_e1_l, am_e1_n]; rfl) ?_
  unfold fX0_hasVessel at hf
  refine am_iload_n dX0_hasVessel_0 rfl rfl ?_
  refine am_if_lt (tgt := 21) dX0_hasVessel_1 (by decide) rfl hf (fun hf => ?_) (fun hf => ?_)
  · refine am_iconst (v := 0) dX0_hasVessel_21 rfl rfl ?_
    exact am_zret rfl dX0_hasVessel_22 hf
  refine am_iload_n dX0_hasVessel_4 rfl rfl ?_
  refine am_aload_n dX0_hasVessel_5 rfl rfl ?_
  refine am_gi_ dX0_hasVessel_6 fl_X0_27 rfl hf (fun x1 _ hf => ?_)
  refine am_icmp_ge (tgt := 21) dX0_hasVessel_9 (by decide) rfl hf (fun hf => ?_) (fun hf => ?_)
  · refine am_iconst (v := 0) dX0_hasVessel_21 rfl rfl ?_
    exact am_zret rfl dX0_hasVessel_22 hf
  refine am_iload_n dX0_hasVessel_12 rfl rfl ?_
  refine am_iconst (v := 3) dX0_hasVessel_13 rfl rfl ?_
  refine am_icmp_ge (tgt := 21) dX0_hasVessel_14 (by decide) rfl hf (fun hf => ?_) (fun hf => ?_)
  · refine am_iconst (v := 0) dX0_hasVessel_21 rfl rfl ?_
    exact am_zret rfl dX0_hasVessel_22 hf
  refine am_iconst (v := 1) dX0_hasVessel_17 rfl rfl ?_
  refine am_goto (pc' := 22) dX0_hasVessel_18 (by decide) ?_
  exact am_zret rfl dX0_hasVessel_22 hf
set_option maxRecDepth 20000 in
set_option maxHeartbeats 4000000 in
theorem sfX0_vesselMeasure {G : am_G}  (v0 : Nat) (v1 : Int32) (v2 : Int32) (h : am_H) (y : Int32 × am_H) (hf : fX0_vesselMeasure v0 v1 v2 h = some y) : am_Cn G miX0_vesselMeasure [va_rf (some v0), .int v1, .int v2] h (some (.int y.1)) y.2 := by
  refine am_beg (ls := [some (va_rf (some v0)), some (.int v1), some (.int v2)]) (by simp only [am_en, am_e1_r, am_e1_i, am_e1_l, am_e1_n]; rfl) ?_
  unfold fX0_vesselMeasure at hf
  refine am_aload_n dX0_vesselMeasure_0 rfl rfl ?_
  refine am_iload_n dX0_vesselMeasure_1 rfl rfl ?_
  refine am_cVi (As := [.int v1]) (st := []) lk_X0_vesselMeasure_43 rfl (Nat.le_of_ble_eq_true rfl) (Nat.le_of_ble_eq_true rfl) rfl dX0_vesselMeasure_2 rfl hf (fun b2 y1 hf => sfX0_hasVessel b2 _ _ y1 hf) (fun b2 y1 _ _ hf => ?_)
  refine am_if_ne (tgt := 10) dX0_vesselMeasure_5 (by decide) rfl hf (fun hf => ?_) (fun hf => ?_)
  · refine am_iload_n dX0_vesselMeasure_10 rfl rfl ?_
    refine am_lsw (d := 50) (l := [(0, 36), (1, 43)]) dX0_vesselMeasure_11 (by decide) (by decide) (by decide) ?_
    refine am_swc hf (fun hf => ?_) (fun hf => ?_)
    · refine am_aload_n dX0_vesselMeasure_36 rfl rfl ?_
      refine am_gr_ dX0_vesselMeasure_37 fl_X0_9 rfl hf (fun x3 _ hf => ?_)
      refine am_iload_n dX0_vesselMeasure_40 rfl rfl ?_
      refine am_iald dX0_vesselMeasure_41 rfl hf (fun x4 _ hf => ?_)
      exact am_iret rfl dX0_vesselMeasure_42 hf
    refine am_swc hf (fun hf => ?_) (fun hf => ?_)
    · refine am_aload_n dX0_vesselMeasure_43 rfl rfl ?_
      refine am_gr_ dX0_vesselMeasure_44 fl_X0_15 rfl hf (fun x5 _ hf => ?_)
      refine am_iload_n dX0_vesselMeasure_47 rfl rfl ?_
      refine am_iald dX0_vesselMeasure_48 rfl hf (fun x6 _ hf => ?_)
      exact am_iret rfl dX0_vesselMeasure_49 hf
    show am_S _ _ 50 _ _ _ _ _
    refine am_aload_n dX0_vesselMeasure_50 rfl rfl ?_
    refine am_gr_ dX0_vesselMeasure_51 fl_X0_18 rfl hf (fun x7 _ hf => ?_)
    refine am_iload_n dX0_vesselMeasure_54 rfl rfl ?_
    refine am_iald dX0_vesselMeasure_55 rfl hf (fun x8 _ hf => ?_)
    exact am_iret rfl dX0_vesselMeasure_56 hf
  refine am_iconst (v := -1) dX0_vesselMeasure_8 rfl rfl ?_
  exact am_iret rfl dX0_vesselMeasure_9 hf
set_option maxRecDepth 20000 in
set_option maxHeartbeats 4000000 in
theorem sfX8_told {G : am_G}  (v0 : Nat) (v1 : Int32) (v2 : Int32) (h : am_H) (y : Int32 × am_H) (hf : fX8_told v0 v1 v2 h = some y) : am_Cn G miX8_told [va_rf (some v0), .int v1, .int v2] h (some (.int y.1)) y.2 := by
  refine am_beg (ls := [some (va_rf (some v0)), some (.int v1), some (.int v2), none]) (by simp only [am_en, am_e1_r, am_e1_i, am_e1_l, am_e1_n]; rfl) ?_
  unfold fX8_told at hf
  refine am_aload_n dX8_told_0 rfl rfl ?_
  refine am_iload_n dX8_told_1 rfl rfl ?_
  refine am_cVr (As := [.int v1]) (st := []) lk_X8_told_117 rfl (Nat.le_of_ble_eq_true rfl) (Nat.le_of_ble_eq_true rfl) rfl dX8_told_2 rfl hf (fun b2 y1 hf => sfX8_clockOf b2 _ _ y1 hf) (fun b2 y1 _ _ hf => ?_)
  refine am_astore_n (ls' := [some (va_rf (some v0)), some (.int v1), some (.int v2), some (va_rf y1.1)]) dX8_told_5 (by decide) rfl rfl ?_
  refine am_aload_n dX8_told_6 rfl rfl ?_
  refine am_ifnonnull (tgt := 13) dX8_told_7 (by decide) rfl hf (fun hf => ?_) (fun hf => ?_)
  · refine am_iload_n dX8_told_13 rfl rfl ?_
    refine am_iconst (v := 0) dX8_told_14 rfl rfl ?_
    refine am_iconst (v := 4) dX8_told_15 rfl rfl ?_
    refine am_cSi (As := [.int v2, .int (0 : Int32), .int (4 : Int32)]) (st := []) lk_X8_told_121 rfl (Nat.le_of_ble_eq_true rfl) (Nat.le_of_ble_eq_true rfl) rfl dX8_told_16 rfl hf (fun y3 hf => sfX8_isIn _ _ _ _ y3 hf) (fun y3 _ hf => ?_)
    refine am_if_eq (tgt := 28) dX8_told_19 (by decide) rfl hf (fun hf => ?_) (fun hf => ?_)
    · refine am_iload_n dX8_told_28 rfl rfl ?_
      refine am_bipush (v := 40) dX8_told_29 (by decide) rfl ?_
      refine am_bipush (v := 51) dX8_told_31 (by decide) rfl ?_
      refine am_cSi (As := [.int v2, .int (40 : Int32), .int (51 : Int32)]) (st := []) lk_X8_told_121 rfl (Nat.le_of_ble_eq_true rfl) (Nat.le_of_ble_eq_true rfl) rfl dX8_told_33 rfl hf (fun y4 hf => sfX8_isIn _ _ _ _ y4 hf) (fun y4 _ hf => ?_)
      refine am_if_eq (tgt := 48) dX8_told_36 (by decide) rfl hf (fun hf => ?_) (fun hf => ?_)
      · refine am_iload_n dX8_told_48 rfl rfl ?_
        refine am_bipush (v := 10) dX8_told_49 (by decide) rfl ?_
        refine am_bipush (v := 32) dX8_told_51 (by decide) rfl ?_
        refine am_cSi (As := [.int v2, .int (10 : Int32), .int (32 : Int32)]) (st := []) lk_X8_told_121 rfl (Nat.le_of_ble_eq_true rfl) (Nat.le_of_ble_eq_true rfl) rfl dX8_told_53 rfl hf (fun y5 hf => sfX8_isIn _ _ _ _ y5 hf) (fun y5 _ hf => ?_)
        refine am_if_eq (tgt := 67) dX8_told_56 (by decide) rfl hf (fun hf => ?_) (fun hf => ?_)
        · refine am_bipush (v := -102) dX8_told_67 (by decide) rfl ?_
          exact am_iret rfl dX8_told_69 hf
        refine am_iload_n dX8_told_59 rfl rfl ?_
        refine am_bipush (v := 10) dX8_told_60 (by decide) rfl ?_
        refine am_irem dX8_told_62 rfl hf (fun hf => ?_)
        refine am_iconst (v := 2) dX8_told_63 rfl rfl ?_
        refine am_icmp_le (tgt := 70) dX8_told_64 (by decide) rfl hf (fun hf => ?_) (fun hf => ?_)
        · refine am_aload_n dX8_told_70 rfl rfl ?_
          refine am_iload_n dX8_told_71 rfl rfl ?_
          refine am_bipush (v := 10) dX8_told_72 (by decide) rfl ?_
          refine am_idiv dX8_told_74 rfl hf (fun hf => ?_)
          refine am_iconst (v := 1) dX8_told_75 rfl rfl ?_
          refine am_isub dX8_told_76 rfl ?_
          refine am_iload_n dX8_told_77 rfl rfl ?_
          refine am_bipush (v := 10) dX8_told_78 (by decide) rfl ?_
          refine am_irem dX8_told_80 rfl hf (fun hf => ?_)
          refine am_cVi (As := [.int ((v2 / (10 : Int32)) - (1 : Int32)), .int (v2 - v2 / (10 : Int32) * (10 : Int32))]) (st := []) lk_X8_told_132 rfl (Nat.le_of_ble_eq_true rfl) (Nat.le_of_ble_eq_true rfl) rfl dX8_told_81 rfl hf (fun b7 y6 hf => sfX0_vesselMeasure b7 _ _ _ y6 hf) (fun b7 y6 _ _ hf => ?_)
          exact am_iret rfl dX8_told_84 hf
        refine am_bipush (v := -102) dX8_told_67 (by decide) rfl ?_
        exact am_iret rfl dX8_told_69 hf
      refine am_aload_n dX8_told_39 rfl rfl ?_
      refine am_iload_n dX8_told_40 rfl rfl ?_
      refine am_bipush (v := 40) dX8_told_41 (by decide) rfl ?_
      refine am_isub dX8_told_43 rfl ?_
      refine am_cVi (As := [.int (v2 - (40 : Int32))]) (st := []) lk_X8_told_129 rfl (Nat.le_of_ble_eq_true rfl) (Nat.le_of_ble_eq_true rfl) rfl dX8_told_44 rfl hf (fun b9 y8 hf => sfX0_markOf b9 _ _ y8 hf) (fun b9 y8 _ _ hf => ?_)
      exact am_iret rfl dX8_told_47 hf
    refine am_aload_n dX8_told_22 rfl rfl ?_
    refine am_iload_n dX8_told_23 rfl rfl ?_
    refine am_cVi (As := [.int v2]) (st := []) lk_X8_told_125 rfl (Nat.le_of_ble_eq_true rfl) (Nat.le_of_ble_eq_true rfl) rfl dX8_told_24 rfl hf (fun b11 y10 hf => sfX0_measure b11 _ _ y10 hf) (fun b11 y10 _ _ hf => ?_)
    exact am_iret rfl dX8_told_27 hf
  refine am_bipush (v := -101) dX8_told_10 (by decide) rfl ?_
  exact am_iret rfl dX8_told_12 hf
set_option maxRecDepth 20000 in
set_option maxHeartbeats 4000000 in
theorem sfX9_isClock {G : am_G}  (v0 : Nat) (v1 : Int32) (h : am_H) (y : Int32 × am_H) (hf : fX9_isClock v0 v1 h = some y) : am_Cn G miX9_isClock [va_rf (some v0), .int v1] h (some (.int y.1)) y.2 := by
  refine am_beg (ls := [some (va_rf (some v0)), some (.int v1)]) (by simp only [am_en, am_e1_r, am_e1_i, am_e1_l, am_e1_n]; rfl) ?_
  unfold fX9_isClock at hf
  refine am_iload_n dX9_isClock_0 rfl rfl ?_
  refine am_iconst (v := 0) dX9_isClock_1 rfl rfl ?_
  refine am_aload_n dX9_isClock_2 rfl rfl ?_
  refine am_gi_ dX9_isClock_3 fl_X9_188 rfl hf (fun x1 _ hf => ?_)
  refine am_iconst (v := 1) dX9_isClock_6 rfl rfl ?_
  refine am_isub dX9_isClock_7 rfl ?_
  refine am_cSi (As := [.int v1, .int (0 : Int32), .int (x1 - (1 : Int32))]) (st := []) lk_X9_isClock_132 rfl (Nat.le_of_ble_eq_true rfl) (Nat.le_of_ble_eq_true rfl) rfl dX9_isClock_8 rfl hf (fun y2 hf => sfX9_within _ _ _ _ y2 hf) (fun y2 _ hf => ?_)
  exact am_zret rfl dX9_isClock_11 hf
set_option maxRecDepth 20000 in
set_option maxHeartbeats 4000000 in
theorem sfX9_isBall {G : am_G}  (v0 : Nat) (v1 : Int32) (v2 : Int32) (h : am_H) (y : Int32 × am_H) (hf : fX9_isBall v0 v1 v2 h = some y) : am_Cn G miX9_isBall [va_rf (some v0), .int v1, .int v2] h (some (.int y.1)) y.2 := by
  refine am_beg (ls := [some (va_rf (some v0)), some (.int v1), some (.int v2)]) (by simp only [am_en, am_e1_r, am_e1_i, am_e1_l, am_e1_n]; rfl) ?_
  unfold fX9_isBall at hf
  refine am_iload_n dX9_isBall_0 rfl rfl ?_
  refine am_iconst (v := 0) dX9_isBall_1 rfl rfl ?_
  refine am_aload_n dX9_isBall_2 rfl rfl ?_
  refine am_gr_ dX9_isBall_3 fl_X9_31 rfl hf (fun x1 _ hf => ?_)
  refine am_iload_n dX9_isBall_6 rfl rfl ?_
  refine am_iald dX9_isBall_7 rfl hf (fun x2 _ hf => ?_)
  refine am_iconst (v := 1) dX9_isBall_8 rfl rfl ?_
  refine am_isub dX9_isBall_9 rfl ?_
  refine am_cSi (As := [.int v2, .int (0 : Int32), .int (x2 - (1 : Int32))]) (st := []) lk_X9_isBall_132 rfl (Nat.le_of_ble_eq_true rfl) (Nat.le_of_ble_eq_true rfl) rfl dX9_isBall_10 rfl hf (fun y3 hf => sfX9_within _ _ _ _ y3 hf) (fun y3 _ hf => ?_)
  exact am_zret rfl dX9_isBall_13 hf
set_option maxRecDepth 20000 in
set_option maxHeartbeats 4000000 in
theorem sfX9_toldOf {G : am_G}  (v0 : Nat) (v1 : Int32) (v2 : Int32) (h : am_H) (y : Int32 × am_H) (hf : fX9_toldOf v0 v1 v2 h = some y) : am_Cn G miX9_toldOf [va_rf (some v0), .int v1, .int v2] h (some (.int y.1)) y.2 := by
  refine am_beg (ls := [some (va_rf (some v0)), some (.int v1), some (.int v2), none]) (by simp only [am_en, am_e1_r, am_e1_i, am_e1_l, am_e1_n]; rfl) ?_
  unfold fX9_toldOf at hf
  refine am_iload_n dX9_toldOf_0 rfl rfl ?_
  refine am_iconst (v := 5) dX9_toldOf_1 rfl rfl ?_
  refine am_icmp_ge (tgt := 67) dX9_toldOf_2 (by decide) rfl hf (fun hf => ?_) (fun hf => ?_)
  · refine am_iload_n dX9_toldOf_67 rfl rfl ?_
    refine am_bipush (v := 39) dX9_toldOf_68 (by decide) rfl ?_
    refine am_icmp_le (tgt := 104) dX9_toldOf_70 (by decide) rfl hf (fun hf => ?_) (fun hf => ?_)
    · refine am_iload_n dX9_toldOf_104 rfl rfl ?_
      refine am_bipush (v := 10) dX9_toldOf_105 (by decide) rfl ?_
      refine am_idiv dX9_toldOf_107 rfl hf (fun hf => ?_)
      refine am_iconst (v := 1) dX9_toldOf_108 rfl rfl ?_
      refine am_isub dX9_toldOf_109 rfl ?_
      refine am_istore_n (ls' := [some (va_rf (some v0)), some (.int v1), some (.int v2), some (.int ((v2 / (10 : Int32)) - (1 : Int32)))]) dX9_toldOf_110 (by decide) rfl rfl ?_
      refine am_iload_n dX9_toldOf_111 rfl rfl ?_
      refine am_aload_n dX9_toldOf_112 rfl rfl ?_
      refine am_gr_ dX9_toldOf_113 fl_X9_7 rfl hf (fun x1 _ hf => ?_)
      refine am_iload_n dX9_toldOf_116 rfl rfl ?_
      refine am_iald dX9_toldOf_117 rfl hf (fun x2 _ hf => ?_)
      refine am_icmp_lt (tgt := 123) dX9_toldOf_118 (by decide) rfl hf (fun hf => ?_) (fun hf => ?_)
      · refine am_iload_n dX9_toldOf_123 rfl rfl ?_
        refine am_bipush (v := 10) dX9_toldOf_124 (by decide) rfl ?_
        refine am_irem dX9_toldOf_126 rfl hf (fun hf => ?_)
        refine am_if_ne (tgt := 143) dX9_toldOf_127 (by decide) rfl hf (fun hf => ?_) (fun hf => ?_)
        · refine am_iload_n dX9_toldOf_143 rfl rfl ?_
          refine am_bipush (v := 10) dX9_toldOf_144 (by decide) rfl ?_
          refine am_irem dX9_toldOf_146 rfl hf (fun hf => ?_)
          refine am_iconst (v := 1) dX9_toldOf_147 rfl rfl ?_
          refine am_icmp_ne (tgt := 164) dX9_toldOf_148 (by decide) rfl hf (fun hf => ?_) (fun hf => ?_)
          · refine am_aload_n dX9_toldOf_164 rfl rfl ?_
            refine am_gr_ dX9_toldOf_165 fl_X9_19 rfl hf (fun x3 _ hf => ?_)
            refine am_iconst (v := 3) dX9_toldOf_168 rfl rfl ?_
            refine am_iload_n dX9_toldOf_169 rfl rfl ?_
            refine am_imul dX9_toldOf_170 rfl ?_
            refine am_iload_n dX9_toldOf_171 rfl rfl ?_
            refine am_iadd dX9_toldOf_172 rfl ?_
            refine am_iald dX9_toldOf_173 rfl hf (fun x4 _ hf => ?_)
            exact am_iret rfl dX9_toldOf_174 hf
          refine am_aload_n dX9_toldOf_151 rfl rfl ?_
          refine am_gr_ dX9_toldOf_152 fl_X9_16 rfl hf (fun x5 _ hf => ?_)
          refine am_iconst (v := 3) dX9_toldOf_155 rfl rfl ?_
          refine am_iload_n dX9_toldOf_156 rfl rfl ?_
          refine am_imul dX9_toldOf_157 rfl ?_
          refine am_iload_n dX9_toldOf_158 rfl rfl ?_
          refine am_iadd dX9_toldOf_159 rfl ?_
          refine am_iald dX9_toldOf_160 rfl hf (fun x6 _ hf => ?_)
          refine am_goto (pc' := 174) dX9_toldOf_161 (by decide) ?_
          exact am_iret rfl dX9_toldOf_174 hf
        refine am_aload_n dX9_toldOf_130 rfl rfl ?_
        refine am_gr_ dX9_toldOf_131 fl_X9_13 rfl hf (fun x7 _ hf => ?_)
        refine am_iconst (v := 3) dX9_toldOf_134 rfl rfl ?_
        refine am_iload_n dX9_toldOf_135 rfl rfl ?_
        refine am_imul dX9_toldOf_136 rfl ?_
        refine am_iload_n dX9_toldOf_137 rfl rfl ?_
        refine am_iadd dX9_toldOf_138 rfl ?_
        refine am_iald dX9_toldOf_139 rfl hf (fun x8 _ hf => ?_)
        refine am_goto (pc' := 174) dX9_toldOf_140 (by decide) ?_
        exact am_iret rfl dX9_toldOf_174 hf
      refine am_iconst (v := -1) dX9_toldOf_121 rfl rfl ?_
      exact am_iret rfl dX9_toldOf_122 hf
    refine am_aload_n dX9_toldOf_73 rfl rfl ?_
    refine am_iload_n dX9_toldOf_74 rfl rfl ?_
    refine am_iload_n dX9_toldOf_75 rfl rfl ?_
    refine am_bipush (v := 40) dX9_toldOf_76 (by decide) rfl ?_
    refine am_isub dX9_toldOf_78 rfl ?_
    refine am_cVi (As := [.int v1, .int (v2 - (40 : Int32))]) (st := []) lk_X9_toldOf_194 rfl (Nat.le_of_ble_eq_true rfl) (Nat.le_of_ble_eq_true rfl) rfl dX9_toldOf_79 rfl hf (fun b10 y9 hf => sfX9_isBall b10 _ _ _ y9 hf) (fun b10 y9 _ _ hf => ?_)
    refine am_if_eq (tgt := 102) dX9_toldOf_82 (by decide) rfl hf (fun hf => ?_) (fun hf => ?_)
    · refine am_iconst (v := -1) dX9_toldOf_102 rfl rfl ?_
      exact am_iret rfl dX9_toldOf_103 hf
    refine am_aload_n dX9_toldOf_85 rfl rfl ?_
    refine am_gr_ dX9_toldOf_86 fl_X9_34 rfl hf (fun x11 _ hf => ?_)
    refine am_bipush (v := 12) dX9_toldOf_89 (by decide) rfl ?_
    refine am_iload_n dX9_toldOf_91 rfl rfl ?_
    refine am_imul dX9_toldOf_92 rfl ?_
    refine am_iload_n dX9_toldOf_93 rfl rfl ?_
    refine am_iadd dX9_toldOf_94 rfl ?_
    refine am_bipush (v := 40) dX9_toldOf_95 (by decide) rfl ?_
    refine am_isub dX9_toldOf_97 rfl ?_
    refine am_iald dX9_toldOf_98 rfl hf (fun x12 _ hf => ?_)
    refine am_goto (pc' := 103) dX9_toldOf_99 (by decide) ?_
    exact am_iret rfl dX9_toldOf_103 hf
  refine am_iload_n dX9_toldOf_5 rfl rfl ?_
  refine am_if_ne (tgt := 18) dX9_toldOf_6 (by decide) rfl hf (fun hf => ?_) (fun hf => ?_)
  · refine am_iload_n dX9_toldOf_18 rfl rfl ?_
    refine am_iconst (v := 1) dX9_toldOf_19 rfl rfl ?_
    refine am_icmp_ne (tgt := 32) dX9_toldOf_20 (by decide) rfl hf (fun hf => ?_) (fun hf => ?_)
    · refine am_iload_n dX9_toldOf_32 rfl rfl ?_
      refine am_iconst (v := 2) dX9_toldOf_33 rfl rfl ?_
      refine am_icmp_ne (tgt := 46) dX9_toldOf_34 (by decide) rfl hf (fun hf => ?_) (fun hf => ?_)
      · refine am_iload_n dX9_toldOf_46 rfl rfl ?_
        refine am_iconst (v := 3) dX9_toldOf_47 rfl rfl ?_
        refine am_icmp_ne (tgt := 60) dX9_toldOf_48 (by decide) rfl hf (fun hf => ?_) (fun hf => ?_)
        · refine am_aload_n dX9_toldOf_60 rfl rfl ?_
          refine am_gr_ dX9_toldOf_61 fl_X9_31 rfl hf (fun x13 _ hf => ?_)
          refine am_iload_n dX9_toldOf_64 rfl rfl ?_
          refine am_iald dX9_toldOf_65 rfl hf (fun x14 _ hf => ?_)
          exact am_iret rfl dX9_toldOf_66 hf
        refine am_aload_n dX9_toldOf_51 rfl rfl ?_
        refine am_gr_ dX9_toldOf_52 fl_X9_28 rfl hf (fun x15 _ hf => ?_)
        refine am_iload_n dX9_toldOf_55 rfl rfl ?_
        refine am_iald dX9_toldOf_56 rfl hf (fun x16 _ hf => ?_)
        refine am_goto (pc' := 66) dX9_toldOf_57 (by decide) ?_
        exact am_iret rfl dX9_toldOf_66 hf
      refine am_aload_n dX9_toldOf_37 rfl rfl ?_
      refine am_gr_ dX9_toldOf_38 fl_X9_25 rfl hf (fun x17 _ hf => ?_)
      refine am_iload_n dX9_toldOf_41 rfl rfl ?_
      refine am_iald dX9_toldOf_42 rfl hf (fun x18 _ hf => ?_)
      refine am_goto (pc' := 66) dX9_toldOf_43 (by decide) ?_
      exact am_iret rfl dX9_toldOf_66 hf
    refine am_aload_n dX9_toldOf_23 rfl rfl ?_
    refine am_gr_ dX9_toldOf_24 fl_X9_22 rfl hf (fun x19 _ hf => ?_)
    refine am_iload_n dX9_toldOf_27 rfl rfl ?_
    refine am_iald dX9_toldOf_28 rfl hf (fun x20 _ hf => ?_)
    refine am_goto (pc' := 66) dX9_toldOf_29 (by decide) ?_
    exact am_iret rfl dX9_toldOf_66 hf
  refine am_aload_n dX9_toldOf_9 rfl rfl ?_
  refine am_gr_ dX9_toldOf_10 fl_X9_7 rfl hf (fun x21 _ hf => ?_)
  refine am_iload_n dX9_toldOf_13 rfl rfl ?_
  refine am_iald dX9_toldOf_14 rfl hf (fun x22 _ hf => ?_)
  refine am_goto (pc' := 66) dX9_toldOf_15 (by decide) ?_
  exact am_iret rfl dX9_toldOf_66 hf
set_option maxRecDepth 20000 in
set_option maxHeartbeats 4000000 in
theorem sfX9_told_55 {G : am_G}  (v0 : Option Nat) (v1 : Int32) (v2 : Int32) (s0 : Int32) (h : am_H) (y : Int32 × am_H) (hf : fX9_told_55  v0 v1 v2 s0 h = some y) : am_S G miX9_told 55 [some (va_rf v0), some (.int v1), some (.int v2), none] [.int s0] h (some (.int y.1)) y.2 := by
  unfold fX9_told_55 at hf
  refine am_istore_n (ls' := [some (va_rf v0), some (.int v1), some (.int v2), some (.int s0)]) dX9_told_55 (by decide) rfl rfl ?_
  refine am_iload_n dX9_told_56 rfl rfl ?_
  refine am_if_eq (tgt := 69) dX9_told_57 (by decide) rfl hf (fun hf => ?_) (fun hf => ?_)
  · refine am_bipush (v := -102) dX9_told_69 (by decide) rfl ?_
    exact am_iret rfl dX9_told_71 hf
  refine am_aload_n dX9_told_60 rfl rfl ?_
  refine am_iload_n dX9_told_61 rfl rfl ?_
  refine am_iload_n dX9_told_62 rfl rfl ?_
  refine am_cVi (As := [.int v1, .int v2]) (st := []) lk_X9_told_200 rfl (Nat.le_of_ble_eq_true rfl) (Nat.le_of_ble_eq_true rfl) rfl dX9_told_63 rfl hf (fun b2 y1 hf => sfX9_toldOf b2 _ _ _ y1 hf) (fun b2 y1 _ _ hf => ?_)
  refine am_goto (pc' := 71) dX9_told_66 (by decide) ?_
  exact am_iret rfl dX9_told_71 hf
set_option maxRecDepth 20000 in
set_option maxHeartbeats 4000000 in
theorem sfX9_told_50 {G : am_G}  {k55 : Option Nat → Int32 → Int32 → Int32 → am_H → Option (Int32 × am_H)} (hk55 : ∀ (v0 : Option Nat) (v1 : Int32) (v2 : Int32) (s0 : Int32) (h : am_H) (y : Int32 × am_H), k55 v0 v1 v2 s0 h = some y → am_S G miX9_told 55 [some (va_rf v0), some (.int v1), some (.int v2), none] [.int s0] h (some (.int y.1)) y.2) (v0 : Option Nat) (v1 : Int32) (v2 : Int32) (h : am_H) (y : Int32 × am_H) (hf : fX9_told_50 k55 v0 v1 v2 h = some y) : am_S G miX9_told 50 [some (va_rf v0), some (.int v1), some (.int v2), none] [] h (some (.int y.1)) y.2 := by
  unfold fX9_told_50 at hf
  refine am_iconst (v := 1) dX9_told_50 rfl rfl ?_
  refine am_goto (pc' := 55) dX9_told_51 (by decide) ?_
  exact hk55 _ _ _ _ _ _ hf
set_option maxRecDepth 20000 in
set_option maxHeartbeats 4000000 in
theorem sfX9_told_39 {G : am_G}  {k50 : Option Nat → Int32 → Int32 → am_H → Option (Int32 × am_H)} (hk50 : ∀ (v0 : Option Nat) (v1 : Int32) (v2 : Int32) (h : am_H) (y : Int32 × am_H), k50 v0 v1 v2 h = some y → am_S G miX9_told 50 [some (va_rf v0), some (.int v1), some (.int v2), none] [] h (some (.int y.1)) y.2) {k55 : Option Nat → Int32 → Int32 → Int32 → am_H → Option (Int32 × am_H)} (hk55 : ∀ (v0 : Option Nat) (v1 : Int32) (v2 : Int32) (s0 : Int32) (h : am_H) (y : Int32 × am_H), k55 v0 v1 v2 s0 h = some y → am_S G miX9_told 55 [some (va_rf v0), some (.int v1), some (.int v2), none] [.int s0] h (some (.int y.1)) y.2) (v0 : Option Nat) (v1 : Int32) (v2 : Int32) (h : am_H) (y : Int32 × am_H) (hf : fX9_told_39 k50 k55 v0 v1 v2 h = some y) : am_S G miX9_told 39 [some (va_rf v0), some (.int v1), some (.int v2), none] [] h (some (.int y.1)) y.2 := by
  unfold fX9_told_39 at hf
  refine am_iload_n dX9_told_39 rfl rfl ?_
  refine am_bipush (v := 40) dX9_told_40 (by decide) rfl ?_
  refine am_bipush (v := 51) dX9_told_42 (by decide) rfl ?_
  refine am_cSi (As := [.int v2, .int (40 : Int32), .int (51 : Int32)]) (st := []) lk_X9_told_132 rfl (Nat.le_of_ble_eq_true rfl) (Nat.le_of_ble_eq_true rfl) rfl dX9_told_44 rfl hf (fun y1 hf => sfX9_within _ _ _ _ y1 hf) (fun y1 _ hf => ?_)
  refine am_if_eq (tgt := 54) dX9_told_47 (by decide) rfl hf (fun hf => ?_) (fun hf => ?_)
  · refine am_iconst (v := 0) dX9_told_54 rfl rfl ?_
    exact hk55 _ _ _ _ _ _ hf
  exact hk50 _ _ _ _ _ hf
set_option maxRecDepth 20000 in
set_option maxHeartbeats 4000000 in
theorem sfX9_told {G : am_G}  (v0 : Nat) (v1 : Int32) (v2 : Int32) (h : am_H) (y : Int32 × am_H) (hf : fX9_told v0 v1 v2 h = some y) : am_Cn G miX9_told [va_rf (some v0), .int v1, .int v2] h (some (.int y.1)) y.2 := by
  refine am_beg (ls := [some (va_rf (some v0)), some (.int v1), some (.int v2), none]) (by simp only [am_en, am_e1_r, am_e1_i, am_e1_l, am_e1_n]; rfl) ?_
  unfold fX9_told at hf
  refine am_aload_n dX9_told_0 rfl rfl ?_
  refine am_iload_n dX9_told_1 rfl rfl ?_
  refine am_cVi (As := [.int v1]) (st := []) lk_X9_told_197 rfl (Nat.le_of_ble_eq_true rfl) (Nat.le_of_ble_eq_true rfl) rfl dX9_told_2 rfl hf (fun b2 y1 hf => sfX9_isClock b2 _ _ y1 hf) (fun b2 y1 _ _ hf => ?_)
  refine am_if_ne (tgt := 11) dX9_told_5 (by decide) rfl hf (fun hf => ?_) (fun hf => ?_)
  · refine am_iload_n dX9_told_11 rfl rfl ?_
    refine am_iconst (v := 0) dX9_told_12 rfl rfl ?_
    refine am_iconst (v := 4) dX9_told_13 rfl rfl ?_
    refine am_cSi (As := [.int v2, .int (0 : Int32), .int (4 : Int32)]) (st := []) lk_X9_told_132 rfl (Nat.le_of_ble_eq_true rfl) (Nat.le_of_ble_eq_true rfl) rfl dX9_told_14 rfl hf (fun y3 hf => sfX9_within _ _ _ _ y3 hf) (fun y3 _ hf => ?_)
    refine am_if_ne (tgt := 50) dX9_told_17 (by decide) rfl hf (fun hf => ?_) (fun hf => ?_)
    · exact (sfX9_told_50 sfX9_told_55) _ _ _ _ _ hf
    refine am_iload_n dX9_told_20 rfl rfl ?_
    refine am_bipush (v := 10) dX9_told_21 (by decide) rfl ?_
    refine am_bipush (v := 32) dX9_told_23 (by decide) rfl ?_
    refine am_cSi (As := [.int v2, .int (10 : Int32), .int (32 : Int32)]) (st := []) lk_X9_told_132 rfl (Nat.le_of_ble_eq_true rfl) (Nat.le_of_ble_eq_true rfl) rfl dX9_told_25 rfl hf (fun y4 hf => sfX9_within _ _ _ _ y4 hf) (fun y4 _ hf => ?_)
    refine am_if_eq (tgt := 39) dX9_told_28 (by decide) rfl hf (fun hf => ?_) (fun hf => ?_)
    · exact (sfX9_told_39 (sfX9_told_50 sfX9_told_55) sfX9_told_55) _ _ _ _ _ hf
    refine am_iload_n dX9_told_31 rfl rfl ?_
    refine am_bipush (v := 10) dX9_told_32 (by decide) rfl ?_
    refine am_irem dX9_told_34 rfl hf (fun hf => ?_)
    refine am_iconst (v := 3) dX9_told_35 rfl rfl ?_
    refine am_icmp_lt (tgt := 50) dX9_told_36 (by decide) rfl hf (fun hf => ?_) (fun hf => ?_)
    · exact (sfX9_told_50 sfX9_told_55) _ _ _ _ _ hf
    exact (sfX9_told_39 (sfX9_told_50 sfX9_told_55) sfX9_told_55) _ _ _ _ _ hf
  refine am_bipush (v := -101) dX9_told_8 (by decide) rfl ?_
  exact am_iret rfl dX9_told_10 hf
set_option maxRecDepth 20000 in
set_option maxHeartbeats 4000000 in
theorem sfX8_isSeason {G : am_G}  (v0 : Int32) (h : am_H) (y : Int32 × am_H) (hf : fX8_isSeason v0 h = some y) : am_Cn G miX8_isSeason [.int v0] h (some (.int y.1)) y.2 := by
  refine am_beg (ls := [some (.int v0)]) (by simp only [am_en, am_e1_r, am_e1_i, am_e1_l, am_e1_n]; rfl) ?_
  unfold fX8_isSeason at hf
  refine am_iload_n dX8_isSeason_0 rfl rfl ?_
  refine am_iconst (v := 0) dX8_isSeason_1 rfl rfl ?_
  refine am_iconst (v := 3) dX8_isSeason_2 rfl rfl ?_
  refine am_cSi (As := [.int v0, .int (0 : Int32), .int (3 : Int32)]) (st := []) lk_X8_isSeason_121 rfl (Nat.le_of_ble_eq_true rfl) (Nat.le_of_ble_eq_true rfl) rfl dX8_isSeason_3 rfl hf (fun y1 hf => sfX8_isIn _ _ _ _ y1 hf) (fun y1 _ hf => ?_)
  exact am_zret rfl dX8_isSeason_6 hf
set_option maxRecDepth 20000 in
set_option maxHeartbeats 4000000 in
theorem sfX8_exchange {G : am_G}  (v0 : Option Nat) (v1 : Int32) (v2 : Int32) (h : am_H) (y : Int32 × am_H) (hf : fX8_exchange v0 v1 v2 h = some y) : am_Cn G miX8_exchange [va_rf v0, .int v1, .int v2] h (some (.int y.1)) y.2 := by
  refine am_beg (ls := [some (va_rf v0), some (.int v1), some (.int v2), none]) (by simp only [am_en, am_e1_r, am_e1_i, am_e1_l, am_e1_n]; rfl) ?_
  unfold fX8_exchange at hf
  refine am_iload_n dX8_exchange_0 rfl rfl ?_
  refine am_iconst (v := 0) dX8_exchange_1 rfl rfl ?_
  refine am_aload_n dX8_exchange_2 rfl rfl ?_
  refine am_an_ dX8_exchange_3 rfl hf (fun x1 _ hf => ?_)
  refine am_iconst (v := 1) dX8_exchange_4 rfl rfl ?_
  refine am_isub dX8_exchange_5 rfl ?_
  refine am_cSi (As := [.int v1, .int (0 : Int32), .int (x1 - (1 : Int32))]) (st := []) lk_X8_exchange_121 rfl (Nat.le_of_ble_eq_true rfl) (Nat.le_of_ble_eq_true rfl) rfl dX8_exchange_6 rfl hf (fun y2 hf => sfX8_isIn _ _ _ _ y2 hf) (fun y2 _ hf => ?_)
  refine am_if_ne (tgt := 14) dX8_exchange_9 (by decide) rfl hf (fun hf => ?_) (fun hf => ?_)
  · refine am_aload_n dX8_exchange_14 rfl rfl ?_
    refine am_iload_n dX8_exchange_15 rfl rfl ?_
    refine am_iald dX8_exchange_16 rfl hf (fun x3 _ hf => ?_)
    refine am_istore_n (ls' := [some (va_rf v0), some (.int v1), some (.int v2), some (.int x3)]) dX8_exchange_17 (by decide) rfl rfl ?_
    refine am_aload_n dX8_exchange_18 rfl rfl ?_
    refine am_iload_n dX8_exchange_19 rfl rfl ?_
    refine am_iload_n dX8_exchange_20 rfl rfl ?_
    refine am_iast dX8_exchange_21 rfl hf (fun h4 _ hf => ?_)
    refine am_iload_n dX8_exchange_22 rfl rfl ?_
    exact am_iret rfl dX8_exchange_23 hf
  refine am_iconst (v := -1) dX8_exchange_12 rfl rfl ?_
  exact am_iret rfl dX8_exchange_13 hf
set_option maxRecDepth 20000 in
set_option maxHeartbeats 4000000 in
theorem sfX8_season_39 {G : am_G}  (v0 : Option Nat) (v1 : Int32) (v2 : Int32) (v3 : Int32) (h : am_H) (y : Int32 × am_H) (hf : fX8_season_39  v0 v1 v2 v3 h = some y) : am_S G miX8_season 39 [some (va_rf v0), some (.int v1), some (.int v2), some (.int v3)] [] h (some (.int y.1)) y.2 := by
  unfold fX8_season_39 at hf
  refine am_iload_n dX8_season_39 rfl rfl ?_
  refine am_iconst (v := 1) dX8_season_40 rfl rfl ?_
  refine am_icmp_ne (tgt := 68) dX8_season_41 (by decide) rfl hf (fun hf => ?_) (fun hf => ?_)
  · refine am_bipush (v := -102) dX8_season_68 (by decide) rfl ?_
    exact am_iret rfl dX8_season_70 hf
  refine am_iload_n dX8_season_44 rfl rfl ?_
  refine am_bipush (v := 24) dX8_season_45 (by decide) rfl ?_
  refine am_bipush (v := 72) dX8_season_47 (by decide) rfl ?_
  refine am_cSi (As := [.int v3, .int (24 : Int32), .int (72 : Int32)]) (st := []) lk_X8_season_121 rfl (Nat.le_of_ble_eq_true rfl) (Nat.le_of_ble_eq_true rfl) rfl dX8_season_49 rfl hf (fun y1 hf => sfX8_isIn _ _ _ _ y1 hf) (fun y1 _ hf => ?_)
  refine am_if_eq (tgt := 68) dX8_season_52 (by decide) rfl hf (fun hf => ?_) (fun hf => ?_)
  · refine am_bipush (v := -102) dX8_season_68 (by decide) rfl ?_
    exact am_iret rfl dX8_season_70 hf
  refine am_aload_n dX8_season_55 rfl rfl ?_
  refine am_gr_ dX8_season_56 fl_X8_37 rfl hf (fun x2 _ hf => ?_)
  refine am_gr_ dX8_season_59 fl_X8_147 rfl hf (fun x3 _ hf => ?_)
  refine am_iload_n dX8_season_62 rfl rfl ?_
  refine am_iload_n dX8_season_63 rfl rfl ?_
  refine am_cSi (As := [va_rf x3, .int v1, .int v3]) (st := []) lk_X8_season_143 rfl (by simp only [am_e1_r, am_e1_i, am_e1_l, am_e1_n]; exact Nat.le_of_ble_eq_true rfl) (Nat.le_of_ble_eq_true rfl) rfl dX8_season_64 rfl hf (fun y4 hf => sfX8_exchange _ _ _ _ y4 hf) (fun y4 _ hf => ?_)
  exact am_iret rfl dX8_season_67 hf
set_option maxRecDepth 20000 in
set_option maxHeartbeats 4000000 in
theorem sfX8_season {G : am_G}  (v0 : Nat) (v1 : Int32) (v2 : Int32) (v3 : Int32) (h : am_H) (y : Int32 × am_H) (hf : fX8_season v0 v1 v2 v3 h = some y) : am_Cn G miX8_season [va_rf (some v0), .int v1, .int v2, .int v3] h (some (.int y.1)) y.2 := by
  refine am_beg (ls := [some (va_rf (some v0)), some (.int v1), some (.int v2), some (.int v3)]) (by simp only [am_en, am_e1_r, am_e1_i, am_e1_l, am_e1_n]; rfl) ?_
  unfold fX8_season at hf
  refine am_iload_n dX8_season_0 rfl rfl ?_
  refine am_cSi (As := [.int v1]) (st := []) lk_X8_season_136 rfl (Nat.le_of_ble_eq_true rfl) (Nat.le_of_ble_eq_true rfl) rfl dX8_season_1 rfl hf (fun y1 hf => sfX8_isSeason _ _ y1 hf) (fun y1 _ hf => ?_)
  refine am_if_ne (tgt := 10) dX8_season_4 (by decide) rfl hf (fun hf => ?_) (fun hf => ?_)
  · refine am_iload_n dX8_season_10 rfl rfl ?_
    refine am_if_ne (tgt := 39) dX8_season_11 (by decide) rfl hf (fun hf => ?_) (fun hf => ?_)
    · exact sfX8_season_39 _ _ _ _ _ _ hf
    refine am_iload_n dX8_season_14 rfl rfl ?_
    refine am_bipush (v := 50) dX8_season_15 (by decide) rfl ?_
    refine am_sipush (v := 150) dX8_season_17 (by decide) rfl ?_
    refine am_cSi (As := [.int v3, .int (50 : Int32), .int (150 : Int32)]) (st := []) lk_X8_season_121 rfl (Nat.le_of_ble_eq_true rfl) (Nat.le_of_ble_eq_true rfl) rfl dX8_season_20 rfl hf (fun y2 hf => sfX8_isIn _ _ _ _ y2 hf) (fun y2 _ hf => ?_)
    refine am_if_eq (tgt := 39) dX8_season_23 (by decide) rfl hf (fun hf => ?_) (fun hf => ?_)
    · exact sfX8_season_39 _ _ _ _ _ _ hf
    refine am_aload_n dX8_season_26 rfl rfl ?_
    refine am_gr_ dX8_season_27 fl_X8_37 rfl hf (fun x3 _ hf => ?_)
    refine am_gr_ dX8_season_30 fl_X8_140 rfl hf (fun x4 _ hf => ?_)
    refine am_iload_n dX8_season_33 rfl rfl ?_
    refine am_iload_n dX8_season_34 rfl rfl ?_
    refine am_cSi (As := [va_rf x4, .int v1, .int v3]) (st := []) lk_X8_season_143 rfl (by simp only [am_e1_r, am_e1_i, am_e1_l, am_e1_n]; exact Nat.le_of_ble_eq_true rfl) (Nat.le_of_ble_eq_true rfl) rfl dX8_season_35 rfl hf (fun y5 hf => sfX8_exchange _ _ _ _ y5 hf) (fun y5 _ hf => ?_)
    exact am_iret rfl dX8_season_38 hf
  refine am_bipush (v := -101) dX8_season_7 (by decide) rfl ?_
  exact am_iret rfl dX8_season_9 hf
set_option maxRecDepth 20000 in
set_option maxHeartbeats 4000000 in
theorem sfX9_isSeason {G : am_G}  (v0 : Int32) (h : am_H) (y : Int32 × am_H) (hf : fX9_isSeason v0 h = some y) : am_Cn G miX9_isSeason [.int v0] h (some (.int y.1)) y.2 := by
  refine am_beg (ls := [some (.int v0)]) (by simp only [am_en, am_e1_r, am_e1_i, am_e1_l, am_e1_n]; rfl) ?_
  unfold fX9_isSeason at hf
  refine am_iload_n dX9_isSeason_0 rfl rfl ?_
  refine am_iconst (v := 0) dX9_isSeason_1 rfl rfl ?_
  refine am_iconst (v := 3) dX9_isSeason_2 rfl rfl ?_
  refine am_cSi (As := [.int v0, .int (0 : Int32), .int (3 : Int32)]) (st := []) lk_X9_isSeason_132 rfl (Nat.le_of_ble_eq_true rfl) (Nat.le_of_ble_eq_true rfl) rfl dX9_isSeason_3 rfl hf (fun y1 hf => sfX9_within _ _ _ _ y1 hf) (fun y1 _ hf => ?_)
  exact am_zret rfl dX9_isSeason_6 hf
set_option maxRecDepth 20000 in
set_option maxHeartbeats 4000000 in
theorem sfX9_season_71 {G : am_G}  (v0 : Option Nat) (v1 : Int32) (v2 : Int32) (v3 : Int32) (s0 : Int32) (h : am_H) (y : Int32 × am_H) (hf : fX9_season_71  v0 v1 v2 v3 s0 h = some y) : am_S G miX9_season 71 [some (va_rf v0), some (.int v1), some (.int v2), some (.int v3), none] [.int s0] h (some (.int y.1)) y.2 := by
  unfold fX9_season_71 at hf
  refine am_istore (ls' := [some (va_rf v0), some (.int v1), some (.int v2), some (.int v3), some (.int s0)]) dX9_season_71 (by decide) rfl rfl ?_
  refine am_iload_n dX9_season_73 rfl rfl ?_
  refine am_if_ne (tgt := 87) dX9_season_74 (by decide) rfl hf (fun hf => ?_) (fun hf => ?_)
  · refine am_aload_n dX9_season_87 rfl rfl ?_
    refine am_gr_ dX9_season_88 fl_X9_40 rfl hf (fun x1 _ hf => ?_)
    refine am_iload_n dX9_season_91 rfl rfl ?_
    refine am_iload_n dX9_season_92 rfl rfl ?_
    refine am_iast dX9_season_93 rfl hf (fun h2 _ hf => ?_)
    refine am_iload dX9_season_94 rfl rfl ?_
    exact am_iret rfl dX9_season_96 hf
  refine am_aload_n dX9_season_77 rfl rfl ?_
  refine am_gr_ dX9_season_78 fl_X9_37 rfl hf (fun x3 _ hf => ?_)
  refine am_iload_n dX9_season_81 rfl rfl ?_
  refine am_iload_n dX9_season_82 rfl rfl ?_
  refine am_iast dX9_season_83 rfl hf (fun h4 _ hf => ?_)
  refine am_goto (pc' := 94) dX9_season_84 (by decide) ?_
  refine am_iload dX9_season_94 rfl rfl ?_
  exact am_iret rfl dX9_season_96 hf
set_option maxRecDepth 20000 in
set_option maxHeartbeats 4000000 in
theorem sfX9_season_43 {G : am_G}  (v0 : Option Nat) (v1 : Int32) (v2 : Int32) (v3 : Int32) (s0 : Int32) (s1 : Int32) (s2 : Int32) (h : am_H) (y : Int32 × am_H) (hf : fX9_season_43  v0 v1 v2 v3 s0 s1 s2 h = some y) : am_S G miX9_season 43 [some (va_rf v0), some (.int v1), some (.int v2), some (.int v3), none] [.int s2, .int s1, .int s0] h (some (.int y.1)) y.2 := by
  unfold fX9_season_43 at hf
  refine am_cSi (As := [.int s0, .int s1, .int s2]) (st := []) lk_X9_season_132 rfl (Nat.le_of_ble_eq_true rfl) (Nat.le_of_ble_eq_true rfl) rfl dX9_season_43 rfl hf (fun y1 hf => sfX9_within _ _ _ _ y1 hf) (fun y1 _ hf => ?_)
  refine am_if_ne (tgt := 52) dX9_season_46 (by decide) rfl hf (fun hf => ?_) (fun hf => ?_)
  · refine am_iload_n dX9_season_52 rfl rfl ?_
    refine am_if_ne (tgt := 65) dX9_season_53 (by decide) rfl hf (fun hf => ?_) (fun hf => ?_)
    · refine am_aload_n dX9_season_65 rfl rfl ?_
      refine am_gr_ dX9_season_66 fl_X9_40 rfl hf (fun x2 _ hf => ?_)
      refine am_iload_n dX9_season_69 rfl rfl ?_
      refine am_iald dX9_season_70 rfl hf (fun x3 _ hf => ?_)
      exact sfX9_season_71 _ _ _ _ _ _ _ hf
    refine am_aload_n dX9_season_56 rfl rfl ?_
    refine am_gr_ dX9_season_57 fl_X9_37 rfl hf (fun x4 _ hf => ?_)
    refine am_iload_n dX9_season_60 rfl rfl ?_
    refine am_iald dX9_season_61 rfl hf (fun x5 _ hf => ?_)
    refine am_goto (pc' := 71) dX9_season_62 (by decide) ?_
    exact sfX9_season_71 _ _ _ _ _ _ _ hf
  refine am_bipush (v := -102) dX9_season_49 (by decide) rfl ?_
  exact am_iret rfl dX9_season_51 hf
set_option maxRecDepth 20000 in
set_option maxHeartbeats 4000000 in
theorem sfX9_season_31 {G : am_G}  (v0 : Option Nat) (v1 : Int32) (v2 : Int32) (v3 : Int32) (s0 : Int32) (s1 : Int32) (h : am_H) (y : Int32 × am_H) (hf : fX9_season_31  v0 v1 v2 v3 s0 s1 h = some y) : am_S G miX9_season 31 [some (va_rf v0), some (.int v1), some (.int v2), some (.int v3), none] [.int s1, .int s0] h (some (.int y.1)) y.2 := by
  unfold fX9_season_31 at hf
  refine am_iload_n dX9_season_31 rfl rfl ?_
  refine am_if_ne (tgt := 41) dX9_season_32 (by decide) rfl hf (fun hf => ?_) (fun hf => ?_)
  · refine am_bipush (v := 72) dX9_season_41 (by decide) rfl ?_
    exact sfX9_season_43 _ _ _ _ _ _ _ _ _ hf
  refine am_sipush (v := 150) dX9_season_35 (by decide) rfl ?_
  refine am_goto (pc' := 43) dX9_season_38 (by decide) ?_
  exact sfX9_season_43 _ _ _ _ _ _ _ _ _ hf
set_option maxRecDepth 20000 in
set_option maxHeartbeats 4000000 in
theorem sfX9_season {G : am_G}  (v0 : Nat) (v1 : Int32) (v2 : Int32) (v3 : Int32) (h : am_H) (y : Int32 × am_H) (hf : fX9_season v0 v1 v2 v3 h = some y) : am_Cn G miX9_season [va_rf (some v0), .int v1, .int v2, .int v3] h (some (.int y.1)) y.2 := by
  refine am_beg (ls := [some (va_rf (some v0)), some (.int v1), some (.int v2), some (.int v3), none]) (by simp only [am_en, am_e1_r, am_e1_i, am_e1_l, am_e1_n]; rfl) ?_
  unfold fX9_season at hf
  refine am_iload_n dX9_season_0 rfl rfl ?_
  refine am_cSi (As := [.int v1]) (st := []) lk_X9_season_203 rfl (Nat.le_of_ble_eq_true rfl) (Nat.le_of_ble_eq_true rfl) rfl dX9_season_1 rfl hf (fun y1 hf => sfX9_isSeason _ _ y1 hf) (fun y1 _ hf => ?_)
  refine am_if_ne (tgt := 10) dX9_season_4 (by decide) rfl hf (fun hf => ?_) (fun hf => ?_)
  · refine am_iload_n dX9_season_10 rfl rfl ?_
    refine am_iconst (v := 0) dX9_season_11 rfl rfl ?_
    refine am_iconst (v := 1) dX9_season_12 rfl rfl ?_
    refine am_cSi (As := [.int v2, .int (0 : Int32), .int (1 : Int32)]) (st := []) lk_X9_season_132 rfl (Nat.le_of_ble_eq_true rfl) (Nat.le_of_ble_eq_true rfl) rfl dX9_season_13 rfl hf (fun y2 hf => sfX9_within _ _ _ _ y2 hf) (fun y2 _ hf => ?_)
    refine am_if_eq (tgt := 49) dX9_season_16 (by decide) rfl hf (fun hf => ?_) (fun hf => ?_)
    · refine am_bipush (v := -102) dX9_season_49 (by decide) rfl ?_
      exact am_iret rfl dX9_season_51 hf
    refine am_iload_n dX9_season_19 rfl rfl ?_
    refine am_iload_n dX9_season_20 rfl rfl ?_
    refine am_if_ne (tgt := 29) dX9_season_21 (by decide) rfl hf (fun hf => ?_) (fun hf => ?_)
    · refine am_bipush (v := 24) dX9_season_29 (by decide) rfl ?_
      exact sfX9_season_31 _ _ _ _ _ _ _ _ hf
    refine am_bipush (v := 50) dX9_season_24 (by decide) rfl ?_
    refine am_goto (pc' := 31) dX9_season_26 (by decide) ?_
    exact sfX9_season_31 _ _ _ _ _ _ _ _ hf
  refine am_bipush (v := -101) dX9_season_7 (by decide) rfl ?_
  exact am_iret rfl dX9_season_9 hf
set_option maxRecDepth 20000 in
set_option maxHeartbeats 4000000 in
theorem sfX8_isKind {G : am_G}  (v0 : Int32) (h : am_H) (y : Int32 × am_H) (hf : fX8_isKind v0 h = some y) : am_Cn G miX8_isKind [.int v0] h (some (.int y.1)) y.2 := by
  refine am_beg (ls := [some (.int v0)]) (by simp only [am_en, am_e1_r, am_e1_i, am_e1_l, am_e1_n]; rfl) ?_
  unfold fX8_isKind at hf
  refine am_iload_n dX8_isKind_0 rfl rfl ?_
  refine am_iconst (v := 0) dX8_isKind_1 rfl rfl ?_
  refine am_iconst (v := 4) dX8_isKind_2 rfl rfl ?_
  refine am_cSi (As := [.int v0, .int (0 : Int32), .int (4 : Int32)]) (st := []) lk_X8_isKind_121 rfl (Nat.le_of_ble_eq_true rfl) (Nat.le_of_ble_eq_true rfl) rfl dX8_isKind_3 rfl hf (fun y1 hf => sfX8_isIn _ _ _ _ y1 hf) (fun y1 _ hf => ?_)
  exact am_zret rfl dX8_isKind_6 hf
set_option maxRecDepth 20000 in
set_option maxHeartbeats 4000000 in
theorem sfX8_isTick {G : am_G}  (v0 : Int32) (h : am_H) (y : Int32 × am_H) (hf : fX8_isTick v0 h = some y) : am_Cn G miX8_isTick [.int v0] h (some (.int y.1)) y.2 := by
  refine am_beg (ls := [some (.int v0)]) (by simp only [am_en, am_e1_r, am_e1_i, am_e1_l, am_e1_n]; rfl) ?_
  unfold fX8_isTick at hf
  refine am_iload_n dX8_isTick_0 rfl rfl ?_
  refine am_iconst (v := 0) dX8_isTick_1 rfl rfl ?_
  refine am_bipush (v := 95) dX8_isTick_2 (by decide) rfl ?_
  refine am_cSi (As := [.int v0, .int (0 : Int32), .int (95 : Int32)]) (st := []) lk_X8_isTick_121 rfl (Nat.le_of_ble_eq_true rfl) (Nat.le_of_ble_eq_true rfl) rfl dX8_isTick_4 rfl hf (fun y1 hf => sfX8_isIn _ _ _ _ y1 hf) (fun y1 _ hf => ?_)
  exact am_zret rfl dX8_isTick_7 hf
set_option maxRecDepth 20000 in
set_option maxHeartbeats 4000000 in
theorem sfX2_become {G : am_G}  (v0 : Nat) (v1 : Int32) (v2 : Int32) (v3 : Int32) (v4 : Int32) (h : am_H) (y : am_H) (hf : fX2_become v0 v1 v2 v3 v4 h = some y) : am_Cn G miX2_become [va_rf (some v0), .int v1, .int v2, .int v3, .int v4] h none y := by
  refine am_beg (ls := [some (va_rf (some v0)), some (.int v1), some (.int v2), some (.int v3), some (.int v4)]) (by simp only [am_en, am_e1_r, am_e1_i, am_e1_l, am_e1_n]; rfl) ?_
  unfold fX2_become at hf
  refine am_aload_n dX2_become_0 rfl rfl ?_
  refine am_iload_n dX2_become_1 rfl rfl ?_
  refine am_pi_ dX2_become_2 fl_X2_9 fp_2_0 (fun z => by cases z) rfl hf (fun h1 _ hf => ?_)
  refine am_aload_n dX2_become_5 rfl rfl ?_
  refine am_iload_n dX2_become_6 rfl rfl ?_
  refine am_pi_ dX2_become_7 fl_X2_15 fp_2_1 (fun z => by cases z) rfl hf (fun h2 _ hf => ?_)
  refine am_aload_n dX2_become_10 rfl rfl ?_
  refine am_iload_n dX2_become_11 rfl rfl ?_
  refine am_pi_ dX2_become_12 fl_X2_18 fp_2_2 (fun z => by cases z) rfl hf (fun h3 _ hf => ?_)
  refine am_aload_n dX2_become_15 rfl rfl ?_
  refine am_iload dX2_become_16 rfl rfl ?_
  refine am_pi_ dX2_become_18 fl_X2_21 fp_2_3 (fun z => by cases z) rfl hf (fun h4 _ hf => ?_)
  exact am_vret rfl dX2_become_21 hf
set_option maxRecDepth 20000 in
set_option maxHeartbeats 4000000 in
theorem sfX8_faulty {G : am_G}  (v0 : Nat) (v1 : Int32) (v2 : Int32) (v3 : Int32) (v4 : Int32) (h : am_H) (y : Int32 × am_H) (hf : fX8_faulty v0 v1 v2 v3 v4 h = some y) : am_Cn G miX8_faulty [va_rf (some v0), .int v1, .int v2, .int v3, .int v4] h (some (.int y.1)) y.2 := by
  refine am_beg (ls := [some (va_rf (some v0)), some (.int v1), some (.int v2), some (.int v3), some (.int v4), none]) (by simp only [am_en, am_e1_r, am_e1_i, am_e1_l, am_e1_n]; rfl) ?_
  unfold fX8_faulty at hf
  refine am_iload_n dX8_faulty_0 rfl rfl ?_
  refine am_cSi (As := [.int v1]) (st := []) lk_X8_faulty_150 rfl (Nat.le_of_ble_eq_true rfl) (Nat.le_of_ble_eq_true rfl) rfl dX8_faulty_1 rfl hf (fun y1 hf => sfX8_isKind _ _ y1 hf) (fun y1 _ hf => ?_)
  refine am_if_eq (tgt := 34) dX8_faulty_4 (by decide) rfl hf (fun hf => ?_) (fun hf => ?_)
  · refine am_bipush (v := -102) dX8_faulty_34 (by decide) rfl ?_
    exact am_iret rfl dX8_faulty_36 hf
  refine am_iload_n dX8_faulty_7 rfl rfl ?_
  refine am_iconst (v := 0) dX8_faulty_8 rfl rfl ?_
  refine am_iconst (v := 2) dX8_faulty_9 rfl rfl ?_
  refine am_cSi (As := [.int v2, .int (0 : Int32), .int (2 : Int32)]) (st := []) lk_X8_faulty_121 rfl (Nat.le_of_ble_eq_true rfl) (Nat.le_of_ble_eq_true rfl) rfl dX8_faulty_10 rfl hf (fun y2 hf => sfX8_isIn _ _ _ _ y2 hf) (fun y2 _ hf => ?_)
  refine am_if_eq (tgt := 34) dX8_faulty_13 (by decide) rfl hf (fun hf => ?_) (fun hf => ?_)
  · refine am_bipush (v := -102) dX8_faulty_34 (by decide) rfl ?_
    exact am_iret rfl dX8_faulty_36 hf
  refine am_iload_n dX8_faulty_16 rfl rfl ?_
  refine am_iconst (v := 1) dX8_faulty_17 rfl rfl ?_
  refine am_bipush (v := 20) dX8_faulty_18 (by decide) rfl ?_
  refine am_cSi (As := [.int v3, .int (1 : Int32), .int (20 : Int32)]) (st := []) lk_X8_faulty_121 rfl (Nat.le_of_ble_eq_true rfl) (Nat.le_of_ble_eq_true rfl) rfl dX8_faulty_20 rfl hf (fun y3 hf => sfX8_isIn _ _ _ _ y3 hf) (fun y3 _ hf => ?_)
  refine am_if_eq (tgt := 34) dX8_faulty_23 (by decide) rfl hf (fun hf => ?_) (fun hf => ?_)
  · refine am_bipush (v := -102) dX8_faulty_34 (by decide) rfl ?_
    exact am_iret rfl dX8_faulty_36 hf
  refine am_iload dX8_faulty_26 rfl rfl ?_
  refine am_cSi (As := [.int v4]) (st := []) lk_X8_faulty_153 rfl (Nat.le_of_ble_eq_true rfl) (Nat.le_of_ble_eq_true rfl) rfl dX8_faulty_28 rfl hf (fun y4 hf => sfX8_isTick _ _ y4 hf) (fun y4 _ hf => ?_)
  refine am_if_ne (tgt := 37) dX8_faulty_31 (by decide) rfl hf (fun hf => ?_) (fun hf => ?_)
  · refine am_aload_n dX8_faulty_37 rfl rfl ?_
    refine am_gi_ dX8_faulty_38 fl_X8_156 rfl hf (fun x5 _ hf => ?_)
    refine am_bipush (v := 8) dX8_faulty_41 (by decide) rfl ?_
    refine am_icmp_lt (tgt := 49) dX8_faulty_43 (by decide) rfl hf (fun hf => ?_) (fun hf => ?_)
    · refine am_new_ nw_X8_15 dX8_faulty_49 rfl hf (fun y6 _ hf => ?_)
      refine am_dup dX8_faulty_52 (am_c1 _) rfl ?_
      refine am_ini (As := []) (st := [va_rf (some y6.1)]) (b := y6.1) lk_X8_faulty_49 rfl (Nat.le_of_ble_eq_true rfl) (by simp only [List.map_cons, List.map_nil, am_c1, am_ci, am_cl]; exact Nat.le_of_ble_eq_true rfl) rfl dX8_faulty_53 rfl hf (fun y7 hf => sfX2_init _  _ y7 hf) (fun y7 _ hf => ?_)
      refine am_astore (ls' := [some (va_rf (some v0)), some (.int v1), some (.int v2), some (.int v3), some (.int v4), some (va_rf (some y6.1))]) dX8_faulty_56 (by decide) rfl rfl ?_
      refine am_aload dX8_faulty_58 rfl rfl ?_
      refine am_iload_n dX8_faulty_60 rfl rfl ?_
      refine am_iload_n dX8_faulty_61 rfl rfl ?_
      refine am_iload_n dX8_faulty_62 rfl rfl ?_
      refine am_iload dX8_faulty_63 rfl rfl ?_
      refine am_cVv (As := [.int v1, .int v2, .int v3, .int v4]) (st := []) lk_X8_faulty_159 rfl (Nat.le_of_ble_eq_true rfl) (Nat.le_of_ble_eq_true rfl) rfl dX8_faulty_65 rfl hf (fun b9 y8 hf => sfX2_become b9 _ _ _ _ _ y8 hf) (fun b9 y8 _ _ hf => ?_)
      refine am_aload_n dX8_faulty_68 rfl rfl ?_
      refine am_gr_ dX8_faulty_69 fl_X8_17 rfl hf (fun x10 _ hf => ?_)
      refine am_aload_n dX8_faulty_72 rfl rfl ?_
      refine am_gi_ dX8_faulty_73 fl_X8_156 rfl hf (fun x11 _ hf => ?_)
      refine am_aload dX8_faulty_76 rfl rfl ?_
      refine am_asr_ (t := 5) rfl rfl (by decide) dX8_faulty_78 rfl hf (fun h12 _ hf => ?_)
      refine am_aload_n dX8_faulty_79 rfl rfl ?_
      refine am_dup dX8_faulty_80 (am_c1 _) rfl ?_
      refine am_gi_ dX8_faulty_81 fl_X8_156 rfl hf (fun x13 _ hf => ?_)
      refine am_iconst (v := 1) dX8_faulty_84 rfl rfl ?_
      refine am_iadd dX8_faulty_85 rfl ?_
      refine am_pi_ dX8_faulty_86 fl_X8_156 fp_8_4 (fun z => by cases z) rfl hf (fun h14 _ hf => ?_)
      refine am_aload_n dX8_faulty_89 rfl rfl ?_
      refine am_gi_ dX8_faulty_90 fl_X8_156 rfl hf (fun x15 _ hf => ?_)
      refine am_iconst (v := 1) dX8_faulty_93 rfl rfl ?_
      refine am_isub dX8_faulty_94 rfl ?_
      exact am_iret rfl dX8_faulty_95 hf
    refine am_bipush (v := -104) dX8_faulty_46 (by decide) rfl ?_
    exact am_iret rfl dX8_faulty_48 hf
  refine am_bipush (v := -102) dX8_faulty_34 (by decide) rfl ?_
  exact am_iret rfl dX8_faulty_36 hf
set_option maxRecDepth 20000 in
set_option maxHeartbeats 4000000 in
theorem sfX9_faulty {G : am_G}  (v0 : Nat) (v1 : Int32) (v2 : Int32) (v3 : Int32) (v4 : Int32) (h : am_H) (y : Int32 × am_H) (hf : fX9_faulty v0 v1 v2 v3 v4 h = some y) : am_Cn G miX9_faulty [va_rf (some v0), .int v1, .int v2, .int v3, .int v4] h (some (.int y.1)) y.2 := by
  refine am_beg (ls := [some (va_rf (some v0)), some (.int v1), some (.int v2), some (.int v3), some (.int v4)]) (by simp only [am_en, am_e1_r, am_e1_i, am_e1_l, am_e1_n]; rfl) ?_
  unfold fX9_faulty at hf
  refine am_iload_n dX9_faulty_0 rfl rfl ?_
  refine am_iconst (v := 0) dX9_faulty_1 rfl rfl ?_
  refine am_iconst (v := 4) dX9_faulty_2 rfl rfl ?_
  refine am_cSi (As := [.int v1, .int (0 : Int32), .int (4 : Int32)]) (st := []) lk_X9_faulty_132 rfl (Nat.le_of_ble_eq_true rfl) (Nat.le_of_ble_eq_true rfl) rfl dX9_faulty_3 rfl hf (fun y1 hf => sfX9_within _ _ _ _ y1 hf) (fun y1 _ hf => ?_)
  refine am_if_eq (tgt := 39) dX9_faulty_6 (by decide) rfl hf (fun hf => ?_) (fun hf => ?_)
  · refine am_bipush (v := -102) dX9_faulty_39 (by decide) rfl ?_
    exact am_iret rfl dX9_faulty_41 hf
  refine am_iload_n dX9_faulty_9 rfl rfl ?_
  refine am_iconst (v := 0) dX9_faulty_10 rfl rfl ?_
  refine am_iconst (v := 2) dX9_faulty_11 rfl rfl ?_
  refine am_cSi (As := [.int v2, .int (0 : Int32), .int (2 : Int32)]) (st := []) lk_X9_faulty_132 rfl (Nat.le_of_ble_eq_true rfl) (Nat.le_of_ble_eq_true rfl) rfl dX9_faulty_12 rfl hf (fun y2 hf => sfX9_within _ _ _ _ y2 hf) (fun y2 _ hf => ?_)
  refine am_if_eq (tgt := 39) dX9_faulty_15 (by decide) rfl hf (fun hf => ?_) (fun hf => ?_)
  · refine am_bipush (v := -102) dX9_faulty_39 (by decide) rfl ?_
    exact am_iret rfl dX9_faulty_41 hf
  refine am_iload_n dX9_faulty_18 rfl rfl ?_
  refine am_iconst (v := 1) dX9_faulty_19 rfl rfl ?_
  refine am_bipush (v := 20) dX9_faulty_20 (by decide) rfl ?_
  refine am_cSi (As := [.int v3, .int (1 : Int32), .int (20 : Int32)]) (st := []) lk_X9_faulty_132 rfl (Nat.le_of_ble_eq_true rfl) (Nat.le_of_ble_eq_true rfl) rfl dX9_faulty_22 rfl hf (fun y3 hf => sfX9_within _ _ _ _ y3 hf) (fun y3 _ hf => ?_)
  refine am_if_eq (tgt := 39) dX9_faulty_25 (by decide) rfl hf (fun hf => ?_) (fun hf => ?_)
  · refine am_bipush (v := -102) dX9_faulty_39 (by decide) rfl ?_
    exact am_iret rfl dX9_faulty_41 hf
  refine am_iload dX9_faulty_28 rfl rfl ?_
  refine am_iconst (v := 0) dX9_faulty_30 rfl rfl ?_
  refine am_bipush (v := 95) dX9_faulty_31 (by decide) rfl ?_
  refine am_cSi (As := [.int v4, .int (0 : Int32), .int (95 : Int32)]) (st := []) lk_X9_faulty_132 rfl (Nat.le_of_ble_eq_true rfl) (Nat.le_of_ble_eq_true rfl) rfl dX9_faulty_33 rfl hf (fun y4 hf => sfX9_within _ _ _ _ y4 hf) (fun y4 _ hf => ?_)
  refine am_if_ne (tgt := 42) dX9_faulty_36 (by decide) rfl hf (fun hf => ?_) (fun hf => ?_)
  · refine am_aload_n dX9_faulty_42 rfl rfl ?_
    refine am_gi_ dX9_faulty_43 fl_X9_191 rfl hf (fun x5 _ hf => ?_)
    refine am_bipush (v := 8) dX9_faulty_46 (by decide) rfl ?_
    refine am_icmp_ne (tgt := 54) dX9_faulty_48 (by decide) rfl hf (fun hf => ?_) (fun hf => ?_)
    · refine am_aload_n dX9_faulty_54 rfl rfl ?_
      refine am_gr_ dX9_faulty_55 fl_X9_43 rfl hf (fun x6 _ hf => ?_)
      refine am_aload_n dX9_faulty_58 rfl rfl ?_
      refine am_gi_ dX9_faulty_59 fl_X9_191 rfl hf (fun x7 _ hf => ?_)
      refine am_iload_n dX9_faulty_62 rfl rfl ?_
      refine am_iast dX9_faulty_63 rfl hf (fun h8 _ hf => ?_)
      refine am_aload_n dX9_faulty_64 rfl rfl ?_
      refine am_gr_ dX9_faulty_65 fl_X9_46 rfl hf (fun x9 _ hf => ?_)
      refine am_aload_n dX9_faulty_68 rfl rfl ?_
      refine am_gi_ dX9_faulty_69 fl_X9_191 rfl hf (fun x10 _ hf => ?_)
      refine am_iload_n dX9_faulty_72 rfl rfl ?_
      refine am_iast dX9_faulty_73 rfl hf (fun h11 _ hf => ?_)
      refine am_aload_n dX9_faulty_74 rfl rfl ?_
      refine am_gr_ dX9_faulty_75 fl_X9_49 rfl hf (fun x12 _ hf => ?_)
      refine am_aload_n dX9_faulty_78 rfl rfl ?_
      refine am_gi_ dX9_faulty_79 fl_X9_191 rfl hf (fun x13 _ hf => ?_)
      refine am_iload_n dX9_faulty_82 rfl rfl ?_
      refine am_iast dX9_faulty_83 rfl hf (fun h14 _ hf => ?_)
      refine am_aload_n dX9_faulty_84 rfl rfl ?_
      refine am_gr_ dX9_faulty_85 fl_X9_52 rfl hf (fun x15 _ hf => ?_)
      refine am_aload_n dX9_faulty_88 rfl rfl ?_
      refine am_gi_ dX9_faulty_89 fl_X9_191 rfl hf (fun x16 _ hf => ?_)
      refine am_iload dX9_faulty_92 rfl rfl ?_
      refine am_iast dX9_faulty_94 rfl hf (fun h17 _ hf => ?_)
      refine am_aload_n dX9_faulty_95 rfl rfl ?_
      refine am_dup dX9_faulty_96 (am_c1 _) rfl ?_
      refine am_gi_ dX9_faulty_97 fl_X9_191 rfl hf (fun x18 _ hf => ?_)
      refine am_iconst (v := 1) dX9_faulty_100 rfl rfl ?_
      refine am_iadd dX9_faulty_101 rfl ?_
      refine am_pi_ dX9_faulty_102 fl_X9_191 fp_9_12 (fun z => by cases z) rfl hf (fun h19 _ hf => ?_)
      refine am_aload_n dX9_faulty_105 rfl rfl ?_
      refine am_gi_ dX9_faulty_106 fl_X9_191 rfl hf (fun x20 _ hf => ?_)
      refine am_iconst (v := 1) dX9_faulty_109 rfl rfl ?_
      refine am_isub dX9_faulty_110 rfl ?_
      exact am_iret rfl dX9_faulty_111 hf
    refine am_bipush (v := -104) dX9_faulty_51 (by decide) rfl ?_
    exact am_iret rfl dX9_faulty_53 hf
  refine am_bipush (v := -102) dX9_faulty_39 (by decide) rfl ?_
  exact am_iret rfl dX9_faulty_41 hf
set_option maxRecDepth 20000 in
set_option maxHeartbeats 4000000 in
theorem sfX8_faultOf {G : am_G}  (v0 : Nat) (v1 : Int32) (h : am_H) (y : Option Nat × am_H) (hf : fX8_faultOf v0 v1 h = some y) : am_Cn G miX8_faultOf [va_rf (some v0), .int v1] h (some (va_rf y.1)) y.2 := by
  refine am_beg (ls := [some (va_rf (some v0)), some (.int v1)]) (by simp only [am_en, am_e1_r, am_e1_i, am_e1_l, am_e1_n]; rfl) ?_
  unfold fX8_faultOf at hf
  refine am_iload_n dX8_faultOf_0 rfl rfl ?_
  refine am_iconst (v := 0) dX8_faultOf_1 rfl rfl ?_
  refine am_aload_n dX8_faultOf_2 rfl rfl ?_
  refine am_gi_ dX8_faultOf_3 fl_X8_156 rfl hf (fun x1 _ hf => ?_)
  refine am_iconst (v := 1) dX8_faultOf_6 rfl rfl ?_
  refine am_isub dX8_faultOf_7 rfl ?_
  refine am_cSi (As := [.int v1, .int (0 : Int32), .int (x1 - (1 : Int32))]) (st := []) lk_X8_faultOf_121 rfl (Nat.le_of_ble_eq_true rfl) (Nat.le_of_ble_eq_true rfl) rfl dX8_faultOf_8 rfl hf (fun y2 hf => sfX8_isIn _ _ _ _ y2 hf) (fun y2 _ hf => ?_)
  refine am_if_eq (tgt := 29) dX8_faultOf_11 (by decide) rfl hf (fun hf => ?_) (fun hf => ?_)
  · refine am_null dX8_faultOf_29 rfl ?_
    exact am_aret rfl dX8_faultOf_30 hf
  refine am_iload_n dX8_faultOf_14 rfl rfl ?_
  refine am_bipush (v := 8) dX8_faultOf_15 (by decide) rfl ?_
  refine am_icmp_ge (tgt := 29) dX8_faultOf_17 (by decide) rfl hf (fun hf => ?_) (fun hf => ?_)
  · refine am_null dX8_faultOf_29 rfl ?_
    exact am_aret rfl dX8_faultOf_30 hf
  refine am_aload_n dX8_faultOf_20 rfl rfl ?_
  refine am_gr_ dX8_faultOf_21 fl_X8_17 rfl hf (fun x3 _ hf => ?_)
  refine am_iload_n dX8_faultOf_24 rfl rfl ?_
  refine am_alr_ (t := 5) rfl (by decide) dX8_faultOf_25 rfl hf (fun x4 _ hf => ?_)
  refine am_goto (pc' := 30) dX8_faultOf_26 (by decide) ?_
  exact am_aret rfl dX8_faultOf_30 hf
set_option maxRecDepth 20000 in
set_option maxHeartbeats 4000000 in
theorem sfX8_isFaultOfKind {G : am_G}  (v0 : Int32) (v1 : Int32) (h : am_H) (y : Int32 × am_H) (hf : fX8_isFaultOfKind v0 v1 h = some y) : am_Cn G miX8_isFaultOfKind [.int v0, .int v1] h (some (.int y.1)) y.2 := by
  refine am_beg (ls := [some (.int v0), some (.int v1)]) (by simp only [am_en, am_e1_r, am_e1_i, am_e1_l, am_e1_n]; rfl) ?_
  unfold fX8_isFaultOfKind at hf
  refine am_iload_n dX8_isFaultOfKind_0 rfl rfl ?_
  refine am_if_eq (tgt := 19) dX8_isFaultOfKind_1 (by decide) rfl hf (fun hf => ?_) (fun hf => ?_)
  · refine am_iconst (v := 1) dX8_isFaultOfKind_19 rfl rfl ?_
    refine am_goto (pc' := 24) dX8_isFaultOfKind_20 (by decide) ?_
    exact am_zret rfl dX8_isFaultOfKind_24 hf
  refine am_iload_n dX8_isFaultOfKind_4 rfl rfl ?_
  refine am_iload_n dX8_isFaultOfKind_5 rfl rfl ?_
  refine am_icmp_eq (tgt := 19) dX8_isFaultOfKind_6 (by decide) rfl hf (fun hf => ?_) (fun hf => ?_)
  · refine am_iconst (v := 1) dX8_isFaultOfKind_19 rfl rfl ?_
    refine am_goto (pc' := 24) dX8_isFaultOfKind_20 (by decide) ?_
    exact am_zret rfl dX8_isFaultOfKind_24 hf
  refine am_iload_n dX8_isFaultOfKind_9 rfl rfl ?_
  refine am_iconst (v := 2) dX8_isFaultOfKind_10 rfl rfl ?_
  refine am_icmp_ne (tgt := 23) dX8_isFaultOfKind_11 (by decide) rfl hf (fun hf => ?_) (fun hf => ?_)
  · refine am_iconst (v := 0) dX8_isFaultOfKind_23 rfl rfl ?_
    exact am_zret rfl dX8_isFaultOfKind_24 hf
  refine am_iload_n dX8_isFaultOfKind_14 rfl rfl ?_
  refine am_iconst (v := 1) dX8_isFaultOfKind_15 rfl rfl ?_
  refine am_icmp_ne (tgt := 23) dX8_isFaultOfKind_16 (by decide) rfl hf (fun hf => ?_) (fun hf => ?_)
  · refine am_iconst (v := 0) dX8_isFaultOfKind_23 rfl rfl ?_
    exact am_zret rfl dX8_isFaultOfKind_24 hf
  refine am_iconst (v := 1) dX8_isFaultOfKind_19 rfl rfl ?_
  refine am_goto (pc' := 24) dX8_isFaultOfKind_20 (by decide) ?_
  exact am_zret rfl dX8_isFaultOfKind_24 hf
