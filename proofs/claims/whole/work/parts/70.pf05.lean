/-! printed proofs of the printed functions, 5 -/
set_option maxRecDepth 20000 in
set_option maxHeartbeats 4000000 in
theorem sfX8_as {G : am_G}  (v0 : Nat) (v1 : Int32) (v2 : Int32) (h : am_H) (y : Int32 × am_H) (hf : fX8_as v0 v1 v2 h = some y) : am_Cn G miX8_as [va_rf (some v0), .int v1, .int v2] h (some (.int y.1)) y.2 := by
  refine am_beg (ls := [some (va_rf (some v0)), some (.int v1), some (.int v2), none]) (by simp only [am_en, am_e1_r, am_e1_i, am_e1_l, am_e1_n]; rfl) ?_
  unfold fX8_as at hf
  refine am_iload_n dX8_as_0 rfl rfl ?_
  refine am_iconst (v := 0) dX8_as_1 rfl rfl ?_
  refine am_aload_n dX8_as_2 rfl rfl ?_
  refine am_gi_ dX8_as_3 fl_X8_156 rfl hf (fun x1 _ hf => ?_)
  refine am_iconst (v := 1) dX8_as_6 rfl rfl ?_
  refine am_isub dX8_as_7 rfl ?_
  refine am_cSi (As := [.int v1, .int (0 : Int32), .int (x1 - (1 : Int32))]) (st := []) lk_X8_as_121 rfl (Nat.le_of_ble_eq_true rfl) (Nat.le_of_ble_eq_true rfl) rfl dX8_as_8 rfl hf (fun y2 hf => sfX8_isIn _ _ _ _ y2 hf) (fun y2 _ hf => ?_)
  refine am_if_ne (tgt := 17) dX8_as_11 (by decide) rfl hf (fun hf => ?_) (fun hf => ?_)
  · refine am_iload_n dX8_as_17 rfl rfl ?_
    refine am_cSi (As := [.int v2]) (st := []) lk_X8_as_150 rfl (Nat.le_of_ble_eq_true rfl) (Nat.le_of_ble_eq_true rfl) rfl dX8_as_18 rfl hf (fun y3 hf => sfX8_isKind _ _ y3 hf) (fun y3 _ hf => ?_)
    refine am_if_ne (tgt := 27) dX8_as_21 (by decide) rfl hf (fun hf => ?_) (fun hf => ?_)
    · refine am_aload_n dX8_as_27 rfl rfl ?_
      refine am_iload_n dX8_as_28 rfl rfl ?_
      refine am_cVr (As := [.int v1]) (st := []) lk_X8_as_163 rfl (Nat.le_of_ble_eq_true rfl) (Nat.le_of_ble_eq_true rfl) rfl dX8_as_29 rfl hf (fun b5 y4 hf => sfX8_faultOf b5 _ _ y4 hf) (fun b5 y4 _ _ hf => ?_)
      refine am_astore_n (ls' := [some (va_rf (some v0)), some (.int v1), some (.int v2), some (va_rf y4.1)]) dX8_as_32 (by decide) rfl rfl ?_
      refine am_aload_n dX8_as_33 rfl rfl ?_
      refine am_ifnull (tgt := 52) dX8_as_34 (by decide) rfl hf (fun hf => ?_) (fun hf => ?_)
      · refine am_iconst (v := -1) dX8_as_52 rfl rfl ?_
        exact am_iret rfl dX8_as_53 hf
      refine am_aload_n dX8_as_37 rfl rfl ?_
      refine am_gi_ dX8_as_38 fl_X8_167 rfl hf (fun x6 _ hf => ?_)
      refine am_iload_n dX8_as_41 rfl rfl ?_
      refine am_cSi (As := [.int x6, .int v2]) (st := []) lk_X8_as_170 rfl (Nat.le_of_ble_eq_true rfl) (Nat.le_of_ble_eq_true rfl) rfl dX8_as_42 rfl hf (fun y7 hf => sfX8_isFaultOfKind _ _ _ y7 hf) (fun y7 _ hf => ?_)
      refine am_if_eq (tgt := 52) dX8_as_45 (by decide) rfl hf (fun hf => ?_) (fun hf => ?_)
      · refine am_iconst (v := -1) dX8_as_52 rfl rfl ?_
        exact am_iret rfl dX8_as_53 hf
      refine am_iload_n dX8_as_48 rfl rfl ?_
      refine am_goto (pc' := 53) dX8_as_49 (by decide) ?_
      exact am_iret rfl dX8_as_53 hf
    refine am_bipush (v := -102) dX8_as_24 (by decide) rfl ?_
    exact am_iret rfl dX8_as_26 hf
  refine am_bipush (v := -101) dX8_as_14 (by decide) rfl ?_
  exact am_iret rfl dX8_as_16 hf
set_option maxRecDepth 20000 in
set_option maxHeartbeats 4000000 in
theorem sfX9_isFault {G : am_G}  (v0 : Nat) (v1 : Int32) (h : am_H) (y : Int32 × am_H) (hf : fX9_isFault v0 v1 h = some y) : am_Cn G miX9_isFault [va_rf (some v0), .int v1] h (some (.int y.1)) y.2 := by
  refine am_beg (ls := [some (va_rf (some v0)), some (.int v1)]) (by simp only [am_en, am_e1_r, am_e1_i, am_e1_l, am_e1_n]; rfl) ?_
  unfold fX9_isFault at hf
  refine am_iload_n dX9_isFault_0 rfl rfl ?_
  refine am_iconst (v := 0) dX9_isFault_1 rfl rfl ?_
  refine am_aload_n dX9_isFault_2 rfl rfl ?_
  refine am_gi_ dX9_isFault_3 fl_X9_191 rfl hf (fun x1 _ hf => ?_)
  refine am_iconst (v := 1) dX9_isFault_6 rfl rfl ?_
  refine am_isub dX9_isFault_7 rfl ?_
  refine am_cSi (As := [.int v1, .int (0 : Int32), .int (x1 - (1 : Int32))]) (st := []) lk_X9_isFault_132 rfl (Nat.le_of_ble_eq_true rfl) (Nat.le_of_ble_eq_true rfl) rfl dX9_isFault_8 rfl hf (fun y2 hf => sfX9_within _ _ _ _ y2 hf) (fun y2 _ hf => ?_)
  exact am_zret rfl dX9_isFault_11 hf
set_option maxRecDepth 20000 in
set_option maxHeartbeats 4000000 in
theorem sfX9_as {G : am_G}  (v0 : Nat) (v1 : Int32) (v2 : Int32) (h : am_H) (y : Int32 × am_H) (hf : fX9_as v0 v1 v2 h = some y) : am_Cn G miX9_as [va_rf (some v0), .int v1, .int v2] h (some (.int y.1)) y.2 := by
  refine am_beg (ls := [some (va_rf (some v0)), some (.int v1), some (.int v2), none]) (by simp only [am_en, am_e1_r, am_e1_i, am_e1_l, am_e1_n]; rfl) ?_
  unfold fX9_as at hf
  refine am_aload_n dX9_as_0 rfl rfl ?_
  refine am_iload_n dX9_as_1 rfl rfl ?_
  refine am_cVi (As := [.int v1]) (st := []) lk_X9_as_206 rfl (Nat.le_of_ble_eq_true rfl) (Nat.le_of_ble_eq_true rfl) rfl dX9_as_2 rfl hf (fun b2 y1 hf => sfX9_isFault b2 _ _ y1 hf) (fun b2 y1 _ _ hf => ?_)
  refine am_if_ne (tgt := 11) dX9_as_5 (by decide) rfl hf (fun hf => ?_) (fun hf => ?_)
  · refine am_iload_n dX9_as_11 rfl rfl ?_
    refine am_iconst (v := 0) dX9_as_12 rfl rfl ?_
    refine am_iconst (v := 4) dX9_as_13 rfl rfl ?_
    refine am_cSi (As := [.int v2, .int (0 : Int32), .int (4 : Int32)]) (st := []) lk_X9_as_132 rfl (Nat.le_of_ble_eq_true rfl) (Nat.le_of_ble_eq_true rfl) rfl dX9_as_14 rfl hf (fun y3 hf => sfX9_within _ _ _ _ y3 hf) (fun y3 _ hf => ?_)
    refine am_if_ne (tgt := 23) dX9_as_17 (by decide) rfl hf (fun hf => ?_) (fun hf => ?_)
    · refine am_aload_n dX9_as_23 rfl rfl ?_
      refine am_gr_ dX9_as_24 fl_X9_43 rfl hf (fun x4 _ hf => ?_)
      refine am_iload_n dX9_as_27 rfl rfl ?_
      refine am_iald dX9_as_28 rfl hf (fun x5 _ hf => ?_)
      refine am_istore_n (ls' := [some (va_rf (some v0)), some (.int v1), some (.int v2), some (.int x5)]) dX9_as_29 (by decide) rfl rfl ?_
      refine am_iload_n dX9_as_30 rfl rfl ?_
      refine am_if_eq (tgt := 49) dX9_as_31 (by decide) rfl hf (fun hf => ?_) (fun hf => ?_)
      · refine am_iload_n dX9_as_49 rfl rfl ?_
        refine am_goto (pc' := 54) dX9_as_50 (by decide) ?_
        exact am_iret rfl dX9_as_54 hf
      refine am_iload_n dX9_as_34 rfl rfl ?_
      refine am_iload_n dX9_as_35 rfl rfl ?_
      refine am_icmp_eq (tgt := 49) dX9_as_36 (by decide) rfl hf (fun hf => ?_) (fun hf => ?_)
      · refine am_iload_n dX9_as_49 rfl rfl ?_
        refine am_goto (pc' := 54) dX9_as_50 (by decide) ?_
        exact am_iret rfl dX9_as_54 hf
      refine am_iload_n dX9_as_39 rfl rfl ?_
      refine am_iconst (v := 1) dX9_as_40 rfl rfl ?_
      refine am_icmp_ne (tgt := 53) dX9_as_41 (by decide) rfl hf (fun hf => ?_) (fun hf => ?_)
      · refine am_iconst (v := -1) dX9_as_53 rfl rfl ?_
        exact am_iret rfl dX9_as_54 hf
      refine am_iload_n dX9_as_44 rfl rfl ?_
      refine am_iconst (v := 2) dX9_as_45 rfl rfl ?_
      refine am_icmp_ne (tgt := 53) dX9_as_46 (by decide) rfl hf (fun hf => ?_) (fun hf => ?_)
      · refine am_iconst (v := -1) dX9_as_53 rfl rfl ?_
        exact am_iret rfl dX9_as_54 hf
      refine am_iload_n dX9_as_49 rfl rfl ?_
      refine am_goto (pc' := 54) dX9_as_50 (by decide) ?_
      exact am_iret rfl dX9_as_54 hf
    refine am_bipush (v := -102) dX9_as_20 (by decide) rfl ?_
    exact am_iret rfl dX9_as_22 hf
  refine am_bipush (v := -101) dX9_as_8 (by decide) rfl ?_
  exact am_iret rfl dX9_as_10 hf
set_option maxRecDepth 20000 in
set_option maxHeartbeats 4000000 in
theorem sfX8_leastNumber {G : am_G}  (v0 : Int32) (h : am_H) (y : Int32 × am_H) (hf : fX8_leastNumber v0 h = some y) : am_Cn G miX8_leastNumber [.int v0] h (some (.int y.1)) y.2 := by
  refine am_beg (ls := [some (.int v0)]) (by simp only [am_en, am_e1_r, am_e1_i, am_e1_l, am_e1_n]; rfl) ?_
  unfold fX8_leastNumber at hf
  refine am_iload_n dX8_leastNumber_0 rfl rfl ?_
  refine am_lsw (d := 32) (l := [(3, 28), (4, 30)]) dX8_leastNumber_1 (by decide) (by decide) (by decide) ?_
  refine am_swc hf (fun hf => ?_) (fun hf => ?_)
  · refine am_iconst (v := 1) dX8_leastNumber_28 rfl rfl ?_
    exact am_iret rfl dX8_leastNumber_29 hf
  refine am_swc hf (fun hf => ?_) (fun hf => ?_)
  · refine am_iconst (v := 2) dX8_leastNumber_30 rfl rfl ?_
    exact am_iret rfl dX8_leastNumber_31 hf
  show am_S _ _ 32 _ _ _ _ _
  refine am_iconst (v := 0) dX8_leastNumber_32 rfl rfl ?_
  exact am_iret rfl dX8_leastNumber_33 hf
set_option maxRecDepth 20000 in
set_option maxHeartbeats 4000000 in
theorem sfX8_mostNumber {G : am_G}  (v0 : Int32) (h : am_H) (y : Int32 × am_H) (hf : fX8_mostNumber v0 h = some y) : am_Cn G miX8_mostNumber [.int v0] h (some (.int y.1)) y.2 := by
  refine am_beg (ls := [some (.int v0)]) (by simp only [am_en, am_e1_r, am_e1_i, am_e1_l, am_e1_n]; rfl) ?_
  unfold fX8_mostNumber at hf
  refine am_iload_n dX8_mostNumber_0 rfl rfl ?_
  refine am_tsw (d := 42) (l := [(1, 32), (2, 35), (3, 37), (4, 40)]) dX8_mostNumber_1 (by decide) (by decide) (by decide) ?_
  refine am_swc hf (fun hf => ?_) (fun hf => ?_)
  · refine am_bipush (v := 9) dX8_mostNumber_32 (by decide) rfl ?_
    exact am_iret rfl dX8_mostNumber_34 hf
  refine am_swc hf (fun hf => ?_) (fun hf => ?_)
  · refine am_iconst (v := 3) dX8_mostNumber_35 rfl rfl ?_
    exact am_iret rfl dX8_mostNumber_36 hf
  refine am_swc hf (fun hf => ?_) (fun hf => ?_)
  · refine am_bipush (v := 9) dX8_mostNumber_37 (by decide) rfl ?_
    exact am_iret rfl dX8_mostNumber_39 hf
  refine am_swc hf (fun hf => ?_) (fun hf => ?_)
  · refine am_iconst (v := 5) dX8_mostNumber_40 rfl rfl ?_
    exact am_iret rfl dX8_mostNumber_41 hf
  show am_S _ _ 42 _ _ _ _ _
  refine am_iconst (v := 0) dX8_mostNumber_42 rfl rfl ?_
  exact am_iret rfl dX8_mostNumber_43 hf
set_option maxRecDepth 20000 in
set_option maxHeartbeats 4000000 in
theorem sfX8_isWorkOrNone {G : am_G}  (v0 : Nat) (v1 : Int32) (h : am_H) (y : Int32 × am_H) (hf : fX8_isWorkOrNone v0 v1 h = some y) : am_Cn G miX8_isWorkOrNone [va_rf (some v0), .int v1] h (some (.int y.1)) y.2 := by
  refine am_beg (ls := [some (va_rf (some v0)), some (.int v1)]) (by simp only [am_en, am_e1_r, am_e1_i, am_e1_l, am_e1_n]; rfl) ?_
  unfold fX8_isWorkOrNone at hf
  refine am_iload_n dX8_isWorkOrNone_0 rfl rfl ?_
  refine am_iconst (v := -1) dX8_isWorkOrNone_1 rfl rfl ?_
  refine am_aload_n dX8_isWorkOrNone_2 rfl rfl ?_
  refine am_gi_ dX8_isWorkOrNone_3 fl_X8_183 rfl hf (fun x1 _ hf => ?_)
  refine am_iconst (v := 1) dX8_isWorkOrNone_6 rfl rfl ?_
  refine am_isub dX8_isWorkOrNone_7 rfl ?_
  refine am_cSi (As := [.int v1, .int (-1 : Int32), .int (x1 - (1 : Int32))]) (st := []) lk_X8_isWorkOrNone_121 rfl (Nat.le_of_ble_eq_true rfl) (Nat.le_of_ble_eq_true rfl) rfl dX8_isWorkOrNone_8 rfl hf (fun y2 hf => sfX8_isIn _ _ _ _ y2 hf) (fun y2 _ hf => ?_)
  exact am_zret rfl dX8_isWorkOrNone_11 hf
set_option maxRecDepth 20000 in
set_option maxHeartbeats 4000000 in
theorem sfX8_workOf {G : am_G}  (v0 : Nat) (v1 : Int32) (h : am_H) (y : Option Nat × am_H) (hf : fX8_workOf v0 v1 h = some y) : am_Cn G miX8_workOf [va_rf (some v0), .int v1] h (some (va_rf y.1)) y.2 := by
  refine am_beg (ls := [some (va_rf (some v0)), some (.int v1)]) (by simp only [am_en, am_e1_r, am_e1_i, am_e1_l, am_e1_n]; rfl) ?_
  unfold fX8_workOf at hf
  refine am_iload_n dX8_workOf_0 rfl rfl ?_
  refine am_iconst (v := 0) dX8_workOf_1 rfl rfl ?_
  refine am_aload_n dX8_workOf_2 rfl rfl ?_
  refine am_gi_ dX8_workOf_3 fl_X8_183 rfl hf (fun x1 _ hf => ?_)
  refine am_iconst (v := 1) dX8_workOf_6 rfl rfl ?_
  refine am_isub dX8_workOf_7 rfl ?_
  refine am_cSi (As := [.int v1, .int (0 : Int32), .int (x1 - (1 : Int32))]) (st := []) lk_X8_workOf_121 rfl (Nat.le_of_ble_eq_true rfl) (Nat.le_of_ble_eq_true rfl) rfl dX8_workOf_8 rfl hf (fun y2 hf => sfX8_isIn _ _ _ _ y2 hf) (fun y2 _ hf => ?_)
  refine am_if_eq (tgt := 29) dX8_workOf_11 (by decide) rfl hf (fun hf => ?_) (fun hf => ?_)
  · refine am_null dX8_workOf_29 rfl ?_
    exact am_aret rfl dX8_workOf_30 hf
  refine am_iload_n dX8_workOf_14 rfl rfl ?_
  refine am_bipush (v := 10) dX8_workOf_15 (by decide) rfl ?_
  refine am_icmp_ge (tgt := 29) dX8_workOf_17 (by decide) rfl hf (fun hf => ?_) (fun hf => ?_)
  · refine am_null dX8_workOf_29 rfl ?_
    exact am_aret rfl dX8_workOf_30 hf
  refine am_aload_n dX8_workOf_20 rfl rfl ?_
  refine am_gr_ dX8_workOf_21 fl_X8_23 rfl hf (fun x3 _ hf => ?_)
  refine am_iload_n dX8_workOf_24 rfl rfl ?_
  refine am_alr_ (t := 6) rfl (by decide) dX8_workOf_25 rfl hf (fun x4 _ hf => ?_)
  refine am_goto (pc' := 30) dX8_workOf_26 (by decide) ?_
  exact am_aret rfl dX8_workOf_30 hf
set_option maxRecDepth 20000 in
set_option maxHeartbeats 4000000 in
theorem sfX7_init {G : am_G}  (v0 : Nat) (v1 : Int32) (v2 : Int32) (v3 : Int32) (v4 : Option Nat) (h : am_H) (y : am_H) (hf : fX7_init v0 v1 v2 v3 v4 h = some y) : am_Cn G miX7_init [va_rf (some v0), .int v1, .int v2, .int v3, va_rf v4] h none y := by
  refine am_beg (ls := [some (va_rf (some v0)), some (.int v1), some (.int v2), some (.int v3), some (va_rf v4)]) (by simp only [am_en, am_e1_r, am_e1_i, am_e1_l, am_e1_n]; rfl) ?_
  unfold fX7_init at hf
  refine am_aload_n dX7_init_0 rfl rfl ?_
  refine am_obinit ml_X7_1 im_ob co_ob (by decide) (Nat.le_of_ble_eq_true rfl) dX7_init_1 rfl ?_
  refine am_aload_n dX7_init_4 rfl rfl ?_
  refine am_iload_n dX7_init_5 rfl rfl ?_
  refine am_pi_ dX7_init_6 fl_X7_7 fp_7_0 (fun _ => ⟨rfl, rfl⟩) rfl hf (fun h1 _ hf => ?_)
  refine am_aload_n dX7_init_9 rfl rfl ?_
  refine am_iload_n dX7_init_10 rfl rfl ?_
  refine am_pi_ dX7_init_11 fl_X7_13 fp_7_1 (fun _ => ⟨rfl, rfl⟩) rfl hf (fun h2 _ hf => ?_)
  refine am_aload_n dX7_init_14 rfl rfl ?_
  refine am_iload_n dX7_init_15 rfl rfl ?_
  refine am_pi_ dX7_init_16 fl_X7_16 fp_7_2 (fun _ => ⟨rfl, rfl⟩) rfl hf (fun h3 _ hf => ?_)
  refine am_aload_n dX7_init_19 rfl rfl ?_
  refine am_aload dX7_init_20 rfl rfl ?_
  refine am_pr_ rfl dX7_init_22 fl_X7_19 fp_7_3 (fun _ => ⟨rfl, rfl⟩) rfl hf (fun h4 _ hf => ?_)
  exact am_vret rfl dX7_init_25 hf
set_option maxRecDepth 20000 in
set_option maxHeartbeats 4000000 in
theorem sfX8_work {G : am_G}  (v0 : Nat) (v1 : Int32) (v2 : Int32) (v3 : Int32) (h : am_H) (y : Int32 × am_H) (hf : fX8_work v0 v1 v2 v3 h = some y) : am_Cn G miX8_work [va_rf (some v0), .int v1, .int v2, .int v3] h (some (.int y.1)) y.2 := by
  refine am_beg (ls := [some (va_rf (some v0)), some (.int v1), some (.int v2), some (.int v3)]) (by simp only [am_en, am_e1_r, am_e1_i, am_e1_l, am_e1_n]; rfl) ?_
  unfold fX8_work at hf
  refine am_iload_n dX8_work_0 rfl rfl ?_
  refine am_cSi (As := [.int v1]) (st := []) lk_X8_work_150 rfl (Nat.le_of_ble_eq_true rfl) (Nat.le_of_ble_eq_true rfl) rfl dX8_work_1 rfl hf (fun y1 hf => sfX8_isKind _ _ y1 hf) (fun y1 _ hf => ?_)
  refine am_if_eq (tgt := 22) dX8_work_4 (by decide) rfl hf (fun hf => ?_) (fun hf => ?_)
  · refine am_bipush (v := -102) dX8_work_22 (by decide) rfl ?_
    exact am_iret rfl dX8_work_24 hf
  refine am_iload_n dX8_work_7 rfl rfl ?_
  refine am_iload_n dX8_work_8 rfl rfl ?_
  refine am_cSi (As := [.int v1]) (st := [.int v2]) lk_X8_work_174 rfl (Nat.le_of_ble_eq_true rfl) (Nat.le_of_ble_eq_true rfl) rfl dX8_work_9 rfl hf (fun y2 hf => sfX8_leastNumber _ _ y2 hf) (fun y2 _ hf => ?_)
  refine am_iload_n dX8_work_12 rfl rfl ?_
  refine am_cSi (As := [.int v1]) (st := [.int y2.1, .int v2]) lk_X8_work_177 rfl (Nat.le_of_ble_eq_true rfl) (Nat.le_of_ble_eq_true rfl) rfl dX8_work_13 rfl hf (fun y3 hf => sfX8_mostNumber _ _ y3 hf) (fun y3 _ hf => ?_)
  refine am_cSi (As := [.int v2, .int y2.1, .int y3.1]) (st := []) lk_X8_work_121 rfl (Nat.le_of_ble_eq_true rfl) (Nat.le_of_ble_eq_true rfl) rfl dX8_work_16 rfl hf (fun y4 hf => sfX8_isIn _ _ _ _ y4 hf) (fun y4 _ hf => ?_)
  refine am_if_ne (tgt := 25) dX8_work_19 (by decide) rfl hf (fun hf => ?_) (fun hf => ?_)
  · refine am_aload_n dX8_work_25 rfl rfl ?_
    refine am_iload_n dX8_work_26 rfl rfl ?_
    refine am_cVi (As := [.int v3]) (st := []) lk_X8_work_180 rfl (Nat.le_of_ble_eq_true rfl) (Nat.le_of_ble_eq_true rfl) rfl dX8_work_27 rfl hf (fun b6 y5 hf => sfX8_isWorkOrNone b6 _ _ y5 hf) (fun b6 y5 _ _ hf => ?_)
    refine am_if_ne (tgt := 36) dX8_work_30 (by decide) rfl hf (fun hf => ?_) (fun hf => ?_)
    · refine am_aload_n dX8_work_36 rfl rfl ?_
      refine am_gi_ dX8_work_37 fl_X8_183 rfl hf (fun x7 _ hf => ?_)
      refine am_bipush (v := 10) dX8_work_40 (by decide) rfl ?_
      refine am_icmp_lt (tgt := 48) dX8_work_42 (by decide) rfl hf (fun hf => ?_) (fun hf => ?_)
      · refine am_aload_n dX8_work_48 rfl rfl ?_
        refine am_gr_ dX8_work_49 fl_X8_23 rfl hf (fun x8 _ hf => ?_)
        refine am_aload_n dX8_work_52 rfl rfl ?_
        refine am_gi_ dX8_work_53 fl_X8_183 rfl hf (fun x9 _ hf => ?_)
        refine am_new_ nw_X8_21 dX8_work_56 rfl hf (fun y10 _ hf => ?_)
        refine am_dup dX8_work_59 (am_c1 _) rfl ?_
        refine am_aload_n dX8_work_60 rfl rfl ?_
        refine am_gi_ dX8_work_61 fl_X8_183 rfl hf (fun x11 _ hf => ?_)
        refine am_iload_n dX8_work_64 rfl rfl ?_
        refine am_iload_n dX8_work_65 rfl rfl ?_
        refine am_aload_n dX8_work_66 rfl rfl ?_
        refine am_iload_n dX8_work_67 rfl rfl ?_
        refine am_cVr (As := [.int v3]) (st := [.int v2, .int v1, .int x11, va_rf (some y10.1), va_rf (some y10.1), .int x9, va_rf x8]) lk_X8_work_186 rfl (Nat.le_of_ble_eq_true rfl) (by simp only [List.map_cons, List.map_nil, am_c1, am_ci, am_cl]; exact Nat.le_of_ble_eq_true rfl) rfl dX8_work_68 rfl hf (fun b13 y12 hf => sfX8_workOf b13 _ _ y12 hf) (fun b13 y12 _ _ hf => ?_)
        refine am_ini (As := [.int x11, .int v1, .int v2, va_rf y12.1]) (st := [va_rf (some y10.1), .int x9, va_rf x8]) (b := y10.1) lk_X8_work_190 rfl (by simp only [am_e1_r, am_e1_i, am_e1_l, am_e1_n]; exact Nat.le_of_ble_eq_true rfl) (by simp only [List.map_cons, List.map_nil, am_c1, am_ci, am_cl]; exact Nat.le_of_ble_eq_true rfl) rfl dX8_work_71 rfl hf (fun y14 hf => sfX7_init _ _ _ _ _ _ y14 hf) (fun y14 _ hf => ?_)
        refine am_asr_ (t := 6) rfl rfl (by decide) dX8_work_74 rfl hf (fun h15 _ hf => ?_)
        refine am_aload_n dX8_work_75 rfl rfl ?_
        refine am_dup dX8_work_76 (am_c1 _) rfl ?_
        refine am_gi_ dX8_work_77 fl_X8_183 rfl hf (fun x16 _ hf => ?_)
        refine am_iconst (v := 1) dX8_work_80 rfl rfl ?_
        refine am_iadd dX8_work_81 rfl ?_
        refine am_pi_ dX8_work_82 fl_X8_183 fp_8_5 (fun z => by cases z) rfl hf (fun h17 _ hf => ?_)
        refine am_aload_n dX8_work_85 rfl rfl ?_
        refine am_gi_ dX8_work_86 fl_X8_183 rfl hf (fun x18 _ hf => ?_)
        refine am_iconst (v := 1) dX8_work_89 rfl rfl ?_
        refine am_isub dX8_work_90 rfl ?_
        exact am_iret rfl dX8_work_91 hf
      refine am_bipush (v := -104) dX8_work_45 (by decide) rfl ?_
      exact am_iret rfl dX8_work_47 hf
    refine am_bipush (v := -101) dX8_work_33 (by decide) rfl ?_
    exact am_iret rfl dX8_work_35 hf
  refine am_bipush (v := -102) dX8_work_22 (by decide) rfl ?_
  exact am_iret rfl dX8_work_24 hf
set_option maxRecDepth 20000 in
set_option maxHeartbeats 4000000 in
theorem sfX9_isNumber {G : am_G}  (v0 : Int32) (v1 : Int32) (h : am_H) (y : Int32 × am_H) (hf : fX9_isNumber v0 v1 h = some y) : am_Cn G miX9_isNumber [.int v0, .int v1] h (some (.int y.1)) y.2 := by
  refine am_beg (ls := [some (.int v0), some (.int v1)]) (by simp only [am_en, am_e1_r, am_e1_i, am_e1_l, am_e1_n]; rfl) ?_
  unfold fX9_isNumber at hf
  refine am_iload_n dX9_isNumber_0 rfl rfl ?_
  refine am_tsw (d := 62) (l := [(1, 32), (2, 40), (3, 47), (4, 55)]) dX9_isNumber_1 (by decide) (by decide) (by decide) ?_
  refine am_swc hf (fun hf => ?_) (fun hf => ?_)
  · refine am_iload_n dX9_isNumber_32 rfl rfl ?_
    refine am_iconst (v := 0) dX9_isNumber_33 rfl rfl ?_
    refine am_bipush (v := 9) dX9_isNumber_34 (by decide) rfl ?_
    refine am_cSi (As := [.int v1, .int (0 : Int32), .int (9 : Int32)]) (st := []) lk_X9_isNumber_132 rfl (Nat.le_of_ble_eq_true rfl) (Nat.le_of_ble_eq_true rfl) rfl dX9_isNumber_36 rfl hf (fun y1 hf => sfX9_within _ _ _ _ y1 hf) (fun y1 _ hf => ?_)
    exact am_zret rfl dX9_isNumber_39 hf
  refine am_swc hf (fun hf => ?_) (fun hf => ?_)
  · refine am_iload_n dX9_isNumber_40 rfl rfl ?_
    refine am_iconst (v := 0) dX9_isNumber_41 rfl rfl ?_
    refine am_iconst (v := 3) dX9_isNumber_42 rfl rfl ?_
    refine am_cSi (As := [.int v1, .int (0 : Int32), .int (3 : Int32)]) (st := []) lk_X9_isNumber_132 rfl (Nat.le_of_ble_eq_true rfl) (Nat.le_of_ble_eq_true rfl) rfl dX9_isNumber_43 rfl hf (fun y2 hf => sfX9_within _ _ _ _ y2 hf) (fun y2 _ hf => ?_)
    exact am_zret rfl dX9_isNumber_46 hf
  refine am_swc hf (fun hf => ?_) (fun hf => ?_)
  · refine am_iload_n dX9_isNumber_47 rfl rfl ?_
    refine am_iconst (v := 1) dX9_isNumber_48 rfl rfl ?_
    refine am_bipush (v := 9) dX9_isNumber_49 (by decide) rfl ?_
    refine am_cSi (As := [.int v1, .int (1 : Int32), .int (9 : Int32)]) (st := []) lk_X9_isNumber_132 rfl (Nat.le_of_ble_eq_true rfl) (Nat.le_of_ble_eq_true rfl) rfl dX9_isNumber_51 rfl hf (fun y3 hf => sfX9_within _ _ _ _ y3 hf) (fun y3 _ hf => ?_)
    exact am_zret rfl dX9_isNumber_54 hf
  refine am_swc hf (fun hf => ?_) (fun hf => ?_)
  · refine am_iload_n dX9_isNumber_55 rfl rfl ?_
    refine am_iconst (v := 2) dX9_isNumber_56 rfl rfl ?_
    refine am_iconst (v := 5) dX9_isNumber_57 rfl rfl ?_
    refine am_cSi (As := [.int v1, .int (2 : Int32), .int (5 : Int32)]) (st := []) lk_X9_isNumber_132 rfl (Nat.le_of_ble_eq_true rfl) (Nat.le_of_ble_eq_true rfl) rfl dX9_isNumber_58 rfl hf (fun y4 hf => sfX9_within _ _ _ _ y4 hf) (fun y4 _ hf => ?_)
    exact am_zret rfl dX9_isNumber_61 hf
  show am_S _ _ 62 _ _ _ _ _
  refine am_iload_n dX9_isNumber_62 rfl rfl ?_
  refine am_if_ne (tgt := 70) dX9_isNumber_63 (by decide) rfl hf (fun hf => ?_) (fun hf => ?_)
  · refine am_iconst (v := 0) dX9_isNumber_70 rfl rfl ?_
    exact am_zret rfl dX9_isNumber_71 hf
  refine am_iconst (v := 1) dX9_isNumber_66 rfl rfl ?_
  refine am_goto (pc' := 71) dX9_isNumber_67 (by decide) ?_
  exact am_zret rfl dX9_isNumber_71 hf
set_option maxRecDepth 20000 in
set_option maxHeartbeats 4000000 in
theorem sfX9_isWork {G : am_G}  (v0 : Nat) (v1 : Int32) (h : am_H) (y : Int32 × am_H) (hf : fX9_isWork v0 v1 h = some y) : am_Cn G miX9_isWork [va_rf (some v0), .int v1] h (some (.int y.1)) y.2 := by
  refine am_beg (ls := [some (va_rf (some v0)), some (.int v1)]) (by simp only [am_en, am_e1_r, am_e1_i, am_e1_l, am_e1_n]; rfl) ?_
  unfold fX9_isWork at hf
  refine am_iload_n dX9_isWork_0 rfl rfl ?_
  refine am_iconst (v := 0) dX9_isWork_1 rfl rfl ?_
  refine am_aload_n dX9_isWork_2 rfl rfl ?_
  refine am_gi_ dX9_isWork_3 fl_X9_209 rfl hf (fun x1 _ hf => ?_)
  refine am_iconst (v := 1) dX9_isWork_6 rfl rfl ?_
  refine am_isub dX9_isWork_7 rfl ?_
  refine am_cSi (As := [.int v1, .int (0 : Int32), .int (x1 - (1 : Int32))]) (st := []) lk_X9_isWork_132 rfl (Nat.le_of_ble_eq_true rfl) (Nat.le_of_ble_eq_true rfl) rfl dX9_isWork_8 rfl hf (fun y2 hf => sfX9_within _ _ _ _ y2 hf) (fun y2 _ hf => ?_)
  exact am_zret rfl dX9_isWork_11 hf
set_option maxRecDepth 20000 in
set_option maxHeartbeats 4000000 in
theorem sfX9_work_36 {G : am_G}  (v0 : Option Nat) (v1 : Int32) (v2 : Int32) (v3 : Int32) (h : am_H) (y : Int32 × am_H) (hf : fX9_work_36  v0 v1 v2 v3 h = some y) : am_S G miX9_work 36 [some (va_rf v0), some (.int v1), some (.int v2), some (.int v3)] [] h (some (.int y.1)) y.2 := by
  unfold fX9_work_36 at hf
  refine am_aload_n dX9_work_36 rfl rfl ?_
  refine am_gi_ dX9_work_37 fl_X9_209 rfl hf (fun x1 _ hf => ?_)
  refine am_bipush (v := 10) dX9_work_40 (by decide) rfl ?_
  refine am_icmp_ne (tgt := 48) dX9_work_42 (by decide) rfl hf (fun hf => ?_) (fun hf => ?_)
  · refine am_aload_n dX9_work_48 rfl rfl ?_
    refine am_gr_ dX9_work_49 fl_X9_55 rfl hf (fun x2 _ hf => ?_)
    refine am_aload_n dX9_work_52 rfl rfl ?_
    refine am_gi_ dX9_work_53 fl_X9_209 rfl hf (fun x3 _ hf => ?_)
    refine am_iload_n dX9_work_56 rfl rfl ?_
    refine am_iast dX9_work_57 rfl hf (fun h4 _ hf => ?_)
    refine am_aload_n dX9_work_58 rfl rfl ?_
    refine am_gr_ dX9_work_59 fl_X9_58 rfl hf (fun x5 _ hf => ?_)
    refine am_aload_n dX9_work_62 rfl rfl ?_
    refine am_gi_ dX9_work_63 fl_X9_209 rfl hf (fun x6 _ hf => ?_)
    refine am_iload_n dX9_work_66 rfl rfl ?_
    refine am_iast dX9_work_67 rfl hf (fun h7 _ hf => ?_)
    refine am_aload_n dX9_work_68 rfl rfl ?_
    refine am_gr_ dX9_work_69 fl_X9_61 rfl hf (fun x8 _ hf => ?_)
    refine am_aload_n dX9_work_72 rfl rfl ?_
    refine am_gi_ dX9_work_73 fl_X9_209 rfl hf (fun x9 _ hf => ?_)
    refine am_iload_n dX9_work_76 rfl rfl ?_
    refine am_iast dX9_work_77 rfl hf (fun h10 _ hf => ?_)
    refine am_aload_n dX9_work_78 rfl rfl ?_
    refine am_dup dX9_work_79 (am_c1 _) rfl ?_
    refine am_gi_ dX9_work_80 fl_X9_209 rfl hf (fun x11 _ hf => ?_)
    refine am_iconst (v := 1) dX9_work_83 rfl rfl ?_
    refine am_iadd dX9_work_84 rfl ?_
    refine am_pi_ dX9_work_85 fl_X9_209 fp_9_17 (fun z => by cases z) rfl hf (fun h12 _ hf => ?_)
    refine am_aload_n dX9_work_88 rfl rfl ?_
    refine am_gi_ dX9_work_89 fl_X9_209 rfl hf (fun x13 _ hf => ?_)
    refine am_iconst (v := 1) dX9_work_92 rfl rfl ?_
    refine am_isub dX9_work_93 rfl ?_
    exact am_iret rfl dX9_work_94 hf
  refine am_bipush (v := -104) dX9_work_45 (by decide) rfl ?_
  exact am_iret rfl dX9_work_47 hf
set_option maxRecDepth 20000 in
set_option maxHeartbeats 4000000 in
theorem sfX9_work {G : am_G}  (v0 : Nat) (v1 : Int32) (v2 : Int32) (v3 : Int32) (h : am_H) (y : Int32 × am_H) (hf : fX9_work v0 v1 v2 v3 h = some y) : am_Cn G miX9_work [va_rf (some v0), .int v1, .int v2, .int v3] h (some (.int y.1)) y.2 := by
  refine am_beg (ls := [some (va_rf (some v0)), some (.int v1), some (.int v2), some (.int v3)]) (by simp only [am_en, am_e1_r, am_e1_i, am_e1_l, am_e1_n]; rfl) ?_
  unfold fX9_work at hf
  refine am_iload_n dX9_work_0 rfl rfl ?_
  refine am_iconst (v := 0) dX9_work_1 rfl rfl ?_
  refine am_iconst (v := 4) dX9_work_2 rfl rfl ?_
  refine am_cSi (As := [.int v1, .int (0 : Int32), .int (4 : Int32)]) (st := []) lk_X9_work_132 rfl (Nat.le_of_ble_eq_true rfl) (Nat.le_of_ble_eq_true rfl) rfl dX9_work_3 rfl hf (fun y1 hf => sfX9_within _ _ _ _ y1 hf) (fun y1 _ hf => ?_)
  refine am_if_eq (tgt := 17) dX9_work_6 (by decide) rfl hf (fun hf => ?_) (fun hf => ?_)
  · refine am_bipush (v := -102) dX9_work_17 (by decide) rfl ?_
    exact am_iret rfl dX9_work_19 hf
  refine am_iload_n dX9_work_9 rfl rfl ?_
  refine am_iload_n dX9_work_10 rfl rfl ?_
  refine am_cSi (As := [.int v1, .int v2]) (st := []) lk_X9_work_212 rfl (Nat.le_of_ble_eq_true rfl) (Nat.le_of_ble_eq_true rfl) rfl dX9_work_11 rfl hf (fun y2 hf => sfX9_isNumber _ _ _ y2 hf) (fun y2 _ hf => ?_)
  refine am_if_ne (tgt := 20) dX9_work_14 (by decide) rfl hf (fun hf => ?_) (fun hf => ?_)
  · refine am_iload_n dX9_work_20 rfl rfl ?_
    refine am_iconst (v := -1) dX9_work_21 rfl rfl ?_
    refine am_icmp_eq (tgt := 36) dX9_work_22 (by decide) rfl hf (fun hf => ?_) (fun hf => ?_)
    · exact sfX9_work_36 _ _ _ _ _ _ hf
    refine am_aload_n dX9_work_25 rfl rfl ?_
    refine am_iload_n dX9_work_26 rfl rfl ?_
    refine am_cVi (As := [.int v3]) (st := []) lk_X9_work_215 rfl (Nat.le_of_ble_eq_true rfl) (Nat.le_of_ble_eq_true rfl) rfl dX9_work_27 rfl hf (fun b4 y3 hf => sfX9_isWork b4 _ _ y3 hf) (fun b4 y3 _ _ hf => ?_)
    refine am_if_ne (tgt := 36) dX9_work_30 (by decide) rfl hf (fun hf => ?_) (fun hf => ?_)
    · exact sfX9_work_36 _ _ _ _ _ _ hf
    refine am_bipush (v := -101) dX9_work_33 (by decide) rfl ?_
    exact am_iret rfl dX9_work_35 hf
  refine am_bipush (v := -102) dX9_work_17 (by decide) rfl ?_
  exact am_iret rfl dX9_work_19 hf
set_option maxRecDepth 20000 in
set_option maxHeartbeats 4000000 in
theorem sfX8_isWorkOfKind {G : am_G}  (v0 : Int32) (v1 : Int32) (h : am_H) (y : Int32 × am_H) (hf : fX8_isWorkOfKind v0 v1 h = some y) : am_Cn G miX8_isWorkOfKind [.int v0, .int v1] h (some (.int y.1)) y.2 := by
  refine am_beg (ls := [some (.int v0), some (.int v1)]) (by simp only [am_en, am_e1_r, am_e1_i, am_e1_l, am_e1_n]; rfl) ?_
  unfold fX8_isWorkOfKind at hf
  refine am_iload_n dX8_isWorkOfKind_0 rfl rfl ?_
  refine am_if_eq (tgt := 19) dX8_isWorkOfKind_1 (by decide) rfl hf (fun hf => ?_) (fun hf => ?_)
  · refine am_iconst (v := 1) dX8_isWorkOfKind_19 rfl rfl ?_
    refine am_goto (pc' := 24) dX8_isWorkOfKind_20 (by decide) ?_
    exact am_zret rfl dX8_isWorkOfKind_24 hf
  refine am_iload_n dX8_isWorkOfKind_4 rfl rfl ?_
  refine am_iload_n dX8_isWorkOfKind_5 rfl rfl ?_
  refine am_icmp_eq (tgt := 19) dX8_isWorkOfKind_6 (by decide) rfl hf (fun hf => ?_) (fun hf => ?_)
  · refine am_iconst (v := 1) dX8_isWorkOfKind_19 rfl rfl ?_
    refine am_goto (pc' := 24) dX8_isWorkOfKind_20 (by decide) ?_
    exact am_zret rfl dX8_isWorkOfKind_24 hf
  refine am_iload_n dX8_isWorkOfKind_9 rfl rfl ?_
  refine am_iconst (v := 4) dX8_isWorkOfKind_10 rfl rfl ?_
  refine am_icmp_ne (tgt := 23) dX8_isWorkOfKind_11 (by decide) rfl hf (fun hf => ?_) (fun hf => ?_)
  · refine am_iconst (v := 0) dX8_isWorkOfKind_23 rfl rfl ?_
    exact am_zret rfl dX8_isWorkOfKind_24 hf
  refine am_iload_n dX8_isWorkOfKind_14 rfl rfl ?_
  refine am_iconst (v := 3) dX8_isWorkOfKind_15 rfl rfl ?_
  refine am_icmp_ne (tgt := 23) dX8_isWorkOfKind_16 (by decide) rfl hf (fun hf => ?_) (fun hf => ?_)
  · refine am_iconst (v := 0) dX8_isWorkOfKind_23 rfl rfl ?_
    exact am_zret rfl dX8_isWorkOfKind_24 hf
  refine am_iconst (v := 1) dX8_isWorkOfKind_19 rfl rfl ?_
  refine am_goto (pc' := 24) dX8_isWorkOfKind_20 (by decide) ?_
  exact am_zret rfl dX8_isWorkOfKind_24 hf
set_option maxRecDepth 20000 in
set_option maxHeartbeats 4000000 in
theorem sfX8_workAs {G : am_G}  (v0 : Nat) (v1 : Int32) (v2 : Int32) (h : am_H) (y : Int32 × am_H) (hf : fX8_workAs v0 v1 v2 h = some y) : am_Cn G miX8_workAs [va_rf (some v0), .int v1, .int v2] h (some (.int y.1)) y.2 := by
  refine am_beg (ls := [some (va_rf (some v0)), some (.int v1), some (.int v2), none]) (by simp only [am_en, am_e1_r, am_e1_i, am_e1_l, am_e1_n]; rfl) ?_
  unfold fX8_workAs at hf
  refine am_aload_n dX8_workAs_0 rfl rfl ?_
  refine am_iload_n dX8_workAs_1 rfl rfl ?_
  refine am_cVr (As := [.int v1]) (st := []) lk_X8_workAs_186 rfl (Nat.le_of_ble_eq_true rfl) (Nat.le_of_ble_eq_true rfl) rfl dX8_workAs_2 rfl hf (fun b2 y1 hf => sfX8_workOf b2 _ _ y1 hf) (fun b2 y1 _ _ hf => ?_)
  refine am_astore_n (ls' := [some (va_rf (some v0)), some (.int v1), some (.int v2), some (va_rf y1.1)]) dX8_workAs_5 (by decide) rfl rfl ?_
  refine am_aload_n dX8_workAs_6 rfl rfl ?_
  refine am_ifnonnull (tgt := 13) dX8_workAs_7 (by decide) rfl hf (fun hf => ?_) (fun hf => ?_)
  · refine am_iload_n dX8_workAs_13 rfl rfl ?_
    refine am_cSi (As := [.int v2]) (st := []) lk_X8_workAs_150 rfl (Nat.le_of_ble_eq_true rfl) (Nat.le_of_ble_eq_true rfl) rfl dX8_workAs_14 rfl hf (fun y3 hf => sfX8_isKind _ _ y3 hf) (fun y3 _ hf => ?_)
    refine am_if_ne (tgt := 23) dX8_workAs_17 (by decide) rfl hf (fun hf => ?_) (fun hf => ?_)
    · refine am_aload_n dX8_workAs_23 rfl rfl ?_
      refine am_gi_ dX8_workAs_24 fl_X8_193 rfl hf (fun x4 _ hf => ?_)
      refine am_iload_n dX8_workAs_27 rfl rfl ?_
      refine am_cSi (As := [.int x4, .int v2]) (st := []) lk_X8_workAs_194 rfl (Nat.le_of_ble_eq_true rfl) (Nat.le_of_ble_eq_true rfl) rfl dX8_workAs_28 rfl hf (fun y5 hf => sfX8_isWorkOfKind _ _ _ y5 hf) (fun y5 _ hf => ?_)
      refine am_if_eq (tgt := 38) dX8_workAs_31 (by decide) rfl hf (fun hf => ?_) (fun hf => ?_)
      · refine am_iconst (v := -1) dX8_workAs_38 rfl rfl ?_
        exact am_iret rfl dX8_workAs_39 hf
      refine am_iload_n dX8_workAs_34 rfl rfl ?_
      refine am_goto (pc' := 39) dX8_workAs_35 (by decide) ?_
      exact am_iret rfl dX8_workAs_39 hf
    refine am_bipush (v := -102) dX8_workAs_20 (by decide) rfl ?_
    exact am_iret rfl dX8_workAs_22 hf
  refine am_bipush (v := -101) dX8_workAs_10 (by decide) rfl ?_
  exact am_iret rfl dX8_workAs_12 hf
set_option maxRecDepth 20000 in
set_option maxHeartbeats 4000000 in
theorem sfX9_workAs {G : am_G}  (v0 : Nat) (v1 : Int32) (v2 : Int32) (h : am_H) (y : Int32 × am_H) (hf : fX9_workAs v0 v1 v2 h = some y) : am_Cn G miX9_workAs [va_rf (some v0), .int v1, .int v2] h (some (.int y.1)) y.2 := by
  refine am_beg (ls := [some (va_rf (some v0)), some (.int v1), some (.int v2), none]) (by simp only [am_en, am_e1_r, am_e1_i, am_e1_l, am_e1_n]; rfl) ?_
  unfold fX9_workAs at hf
  refine am_aload_n dX9_workAs_0 rfl rfl ?_
  refine am_iload_n dX9_workAs_1 rfl rfl ?_
  refine am_cVi (As := [.int v1]) (st := []) lk_X9_workAs_215 rfl (Nat.le_of_ble_eq_true rfl) (Nat.le_of_ble_eq_true rfl) rfl dX9_workAs_2 rfl hf (fun b2 y1 hf => sfX9_isWork b2 _ _ y1 hf) (fun b2 y1 _ _ hf => ?_)
  refine am_if_ne (tgt := 11) dX9_workAs_5 (by decide) rfl hf (fun hf => ?_) (fun hf => ?_)
  · refine am_iload_n dX9_workAs_11 rfl rfl ?_
    refine am_iconst (v := 0) dX9_workAs_12 rfl rfl ?_
    refine am_iconst (v := 4) dX9_workAs_13 rfl rfl ?_
    refine am_cSi (As := [.int v2, .int (0 : Int32), .int (4 : Int32)]) (st := []) lk_X9_workAs_132 rfl (Nat.le_of_ble_eq_true rfl) (Nat.le_of_ble_eq_true rfl) rfl dX9_workAs_14 rfl hf (fun y3 hf => sfX9_within _ _ _ _ y3 hf) (fun y3 _ hf => ?_)
    refine am_if_ne (tgt := 23) dX9_workAs_17 (by decide) rfl hf (fun hf => ?_) (fun hf => ?_)
    · refine am_aload_n dX9_workAs_23 rfl rfl ?_
      refine am_gr_ dX9_workAs_24 fl_X9_55 rfl hf (fun x4 _ hf => ?_)
      refine am_iload_n dX9_workAs_27 rfl rfl ?_
      refine am_iald dX9_workAs_28 rfl hf (fun x5 _ hf => ?_)
      refine am_istore_n (ls' := [some (va_rf (some v0)), some (.int v1), some (.int v2), some (.int x5)]) dX9_workAs_29 (by decide) rfl rfl ?_
      refine am_iload_n dX9_workAs_30 rfl rfl ?_
      refine am_if_eq (tgt := 49) dX9_workAs_31 (by decide) rfl hf (fun hf => ?_) (fun hf => ?_)
      · refine am_iload_n dX9_workAs_49 rfl rfl ?_
        refine am_goto (pc' := 54) dX9_workAs_50 (by decide) ?_
        exact am_iret rfl dX9_workAs_54 hf
      refine am_iload_n dX9_workAs_34 rfl rfl ?_
      refine am_iload_n dX9_workAs_35 rfl rfl ?_
      refine am_icmp_eq (tgt := 49) dX9_workAs_36 (by decide) rfl hf (fun hf => ?_) (fun hf => ?_)
      · refine am_iload_n dX9_workAs_49 rfl rfl ?_
        refine am_goto (pc' := 54) dX9_workAs_50 (by decide) ?_
        exact am_iret rfl dX9_workAs_54 hf
      refine am_iload_n dX9_workAs_39 rfl rfl ?_
      refine am_iconst (v := 3) dX9_workAs_40 rfl rfl ?_
      refine am_icmp_ne (tgt := 53) dX9_workAs_41 (by decide) rfl hf (fun hf => ?_) (fun hf => ?_)
      · refine am_iconst (v := -1) dX9_workAs_53 rfl rfl ?_
        exact am_iret rfl dX9_workAs_54 hf
      refine am_iload_n dX9_workAs_44 rfl rfl ?_
      refine am_iconst (v := 4) dX9_workAs_45 rfl rfl ?_
      refine am_icmp_ne (tgt := 53) dX9_workAs_46 (by decide) rfl hf (fun hf => ?_) (fun hf => ?_)
      · refine am_iconst (v := -1) dX9_workAs_53 rfl rfl ?_
        exact am_iret rfl dX9_workAs_54 hf
      refine am_iload_n dX9_workAs_49 rfl rfl ?_
      refine am_goto (pc' := 54) dX9_workAs_50 (by decide) ?_
      exact am_iret rfl dX9_workAs_54 hf
    refine am_bipush (v := -102) dX9_workAs_20 (by decide) rfl ?_
    exact am_iret rfl dX9_workAs_22 hf
  refine am_bipush (v := -101) dX9_workAs_8 (by decide) rfl ?_
  exact am_iret rfl dX9_workAs_10 hf
set_option maxRecDepth 20000 in
set_option maxHeartbeats 4000000 in
theorem sfX8_head {G : am_G}  (v0 : Nat) (v1 : Int32) (h : am_H) (y : Int32 × am_H) (hf : fX8_head v0 v1 h = some y) : am_Cn G miX8_head [va_rf (some v0), .int v1] h (some (.int y.1)) y.2 := by
  refine am_beg (ls := [some (va_rf (some v0)), some (.int v1), none]) (by simp only [am_en, am_e1_r, am_e1_i, am_e1_l, am_e1_n]; rfl) ?_
  unfold fX8_head at hf
  refine am_aload_n dX8_head_0 rfl rfl ?_
  refine am_iload_n dX8_head_1 rfl rfl ?_
  refine am_cVi (As := [.int v1]) (st := []) lk_X8_head_180 rfl (Nat.le_of_ble_eq_true rfl) (Nat.le_of_ble_eq_true rfl) rfl dX8_head_2 rfl hf (fun b2 y1 hf => sfX8_isWorkOrNone b2 _ _ y1 hf) (fun b2 y1 _ _ hf => ?_)
  refine am_if_ne (tgt := 11) dX8_head_5 (by decide) rfl hf (fun hf => ?_) (fun hf => ?_)
  · refine am_aload_n dX8_head_11 rfl rfl ?_
    refine am_gr_ dX8_head_12 fl_X8_37 rfl hf (fun x3 _ hf => ?_)
    refine am_gi_ dX8_head_15 fl_X8_197 rfl hf (fun x4 _ hf => ?_)
    refine am_istore_n (ls' := [some (va_rf (some v0)), some (.int v1), some (.int x4)]) dX8_head_18 (by decide) rfl rfl ?_
    refine am_aload_n dX8_head_19 rfl rfl ?_
    refine am_gr_ dX8_head_20 fl_X8_37 rfl hf (fun x5 _ hf => ?_)
    refine am_iload_n dX8_head_23 rfl rfl ?_
    refine am_pi_ dX8_head_24 fl_X8_197 fp_6_3 (fun z => by cases z) rfl hf (fun h6 _ hf => ?_)
    refine am_iload_n dX8_head_27 rfl rfl ?_
    exact am_iret rfl dX8_head_28 hf
  refine am_bipush (v := -101) dX8_head_8 (by decide) rfl ?_
  exact am_iret rfl dX8_head_10 hf
set_option maxRecDepth 20000 in
set_option maxHeartbeats 4000000 in
theorem sfX9_head_16 {G : am_G}  (v0 : Option Nat) (v1 : Int32) (h : am_H) (y : Int32 × am_H) (hf : fX9_head_16  v0 v1 h = some y) : am_S G miX9_head 16 [some (va_rf v0), some (.int v1), none] [] h (some (.int y.1)) y.2 := by
  unfold fX9_head_16 at hf
  refine am_aload_n dX9_head_16 rfl rfl ?_
  refine am_gi_ dX9_head_17 fl_X9_64 rfl hf (fun x1 _ hf => ?_)
  refine am_istore_n (ls' := [some (va_rf v0), some (.int v1), some (.int x1)]) dX9_head_20 (by decide) rfl rfl ?_
  refine am_aload_n dX9_head_21 rfl rfl ?_
  refine am_iload_n dX9_head_22 rfl rfl ?_
  refine am_pi_ dX9_head_23 fl_X9_64 fp_9_21 (fun z => by cases z) rfl hf (fun h2 _ hf => ?_)
  refine am_iload_n dX9_head_26 rfl rfl ?_
  exact am_iret rfl dX9_head_27 hf
set_option maxRecDepth 20000 in
set_option maxHeartbeats 4000000 in
theorem sfX9_head {G : am_G}  (v0 : Nat) (v1 : Int32) (h : am_H) (y : Int32 × am_H) (hf : fX9_head v0 v1 h = some y) : am_Cn G miX9_head [va_rf (some v0), .int v1] h (some (.int y.1)) y.2 := by
  refine am_beg (ls := [some (va_rf (some v0)), some (.int v1), none]) (by simp only [am_en, am_e1_r, am_e1_i, am_e1_l, am_e1_n]; rfl) ?_
  unfold fX9_head at hf
  refine am_iload_n dX9_head_0 rfl rfl ?_
  refine am_iconst (v := -1) dX9_head_1 rfl rfl ?_
  refine am_icmp_eq (tgt := 16) dX9_head_2 (by decide) rfl hf (fun hf => ?_) (fun hf => ?_)
  · exact sfX9_head_16 _ _ _ _ hf
  refine am_aload_n dX9_head_5 rfl rfl ?_
  refine am_iload_n dX9_head_6 rfl rfl ?_
  refine am_cVi (As := [.int v1]) (st := []) lk_X9_head_215 rfl (Nat.le_of_ble_eq_true rfl) (Nat.le_of_ble_eq_true rfl) rfl dX9_head_7 rfl hf (fun b2 y1 hf => sfX9_isWork b2 _ _ y1 hf) (fun b2 y1 _ _ hf => ?_)
  refine am_if_ne (tgt := 16) dX9_head_10 (by decide) rfl hf (fun hf => ?_) (fun hf => ?_)
  · exact sfX9_head_16 _ _ _ _ hf
  refine am_bipush (v := -101) dX9_head_13 (by decide) rfl ?_
  exact am_iret rfl dX9_head_15 hf
set_option maxRecDepth 20000 in
set_option maxHeartbeats 4000000 in
theorem sfX8_warmthOf {G : am_G}  (v0 : Nat) (v1 : Int32) (h : am_H) (y : Int32 × am_H) (hf : fX8_warmthOf v0 v1 h = some y) : am_Cn G miX8_warmthOf [va_rf (some v0), .int v1] h (some (.int y.1)) y.2 := by
  refine am_beg (ls := [some (va_rf (some v0)), some (.int v1)]) (by simp only [am_en, am_e1_r, am_e1_i, am_e1_l, am_e1_n]; rfl) ?_
  unfold fX8_warmthOf at hf
  refine am_iload_n dX8_warmthOf_0 rfl rfl ?_
  refine am_cSi (As := [.int v1]) (st := []) lk_X8_warmthOf_136 rfl (Nat.le_of_ble_eq_true rfl) (Nat.le_of_ble_eq_true rfl) rfl dX8_warmthOf_1 rfl hf (fun y1 hf => sfX8_isSeason _ _ y1 hf) (fun y1 _ hf => ?_)
  refine am_if_eq (tgt := 19) dX8_warmthOf_4 (by decide) rfl hf (fun hf => ?_) (fun hf => ?_)
  · refine am_bipush (v := 100) dX8_warmthOf_19 (by decide) rfl ?_
    exact am_iret rfl dX8_warmthOf_21 hf
  refine am_aload_n dX8_warmthOf_7 rfl rfl ?_
  refine am_gr_ dX8_warmthOf_8 fl_X8_37 rfl hf (fun x2 _ hf => ?_)
  refine am_gr_ dX8_warmthOf_11 fl_X8_140 rfl hf (fun x3 _ hf => ?_)
  refine am_iload_n dX8_warmthOf_14 rfl rfl ?_
  refine am_iald dX8_warmthOf_15 rfl hf (fun x4 _ hf => ?_)
  refine am_goto (pc' := 21) dX8_warmthOf_16 (by decide) ?_
  exact am_iret rfl dX8_warmthOf_21 hf
set_option maxRecDepth 20000 in
set_option maxHeartbeats 4000000 in
theorem sfX5_start_23 {G : am_G}  : ∀ (n : Nat) (v0 : Option Nat) (v4 : Int32) (h : am_H) (y : am_H) (hf : fX5_start_23  n v0 v4 h = some y), am_S G miX5_start 23 [some (va_rf v0), none, none, none, some (.int v4)] [] h none y := by
  intro n
  induction n with
  | zero => intro v0 v4 h y hf; cases hf
  | succ n ih =>
    intro v0 v4 h y hf
    have hf : fX5_start_23_b  (fX5_start_23  n) v0 v4 h = some y := hf
    unfold fX5_start_23_b at hf
    refine am_iload dX5_start_23 rfl rfl ?_
    refine am_iconst (v := 3) dX5_start_25 rfl rfl ?_
    refine am_icmp_ge (tgt := 52) dX5_start_26 (by decide) rfl hf (fun hf => ?_) (fun hf => ?_)
    · refine am_aload_n dX5_start_52 rfl rfl ?_
      refine am_iconst (v := 0) dX5_start_53 rfl rfl ?_
      refine am_pi_ dX5_start_54 fl_X5_38 fp_5_5 (fun z => by cases z) rfl hf (fun h1 _ hf => ?_)
      refine am_aload_n dX5_start_57 rfl rfl ?_
      refine am_iconst (v := 0) dX5_start_58 rfl rfl ?_
      refine am_pi_ dX5_start_59 fl_X5_41 fp_5_6 (fun z => by cases z) rfl hf (fun h2 _ hf => ?_)
      refine am_aload_n dX5_start_62 rfl rfl ?_
      refine am_iconst (v := 0) dX5_start_63 rfl rfl ?_
      refine am_pi_ dX5_start_64 fl_X5_44 fp_5_7 (fun z => by cases z) rfl hf (fun h3 _ hf => ?_)
      refine am_aload_n dX5_start_67 rfl rfl ?_
      refine am_iconst (v := 0) dX5_start_68 rfl rfl ?_
      refine am_pi_ dX5_start_69 fl_X5_47 fp_5_8 (fun z => by cases z) rfl hf (fun h4 _ hf => ?_)
      refine am_aload_n dX5_start_72 rfl rfl ?_
      refine am_iconst (v := 0) dX5_start_73 rfl rfl ?_
      refine am_pi_ dX5_start_74 fl_X5_50 fp_5_9 (fun z => by cases z) rfl hf (fun h5 _ hf => ?_)
      refine am_aload_n dX5_start_77 rfl rfl ?_
      refine am_iconst (v := 0) dX5_start_78 rfl rfl ?_
      refine am_pi_ dX5_start_79 fl_X5_53 fp_5_10 (fun z => by cases z) rfl hf (fun h6 _ hf => ?_)
      refine am_aload_n dX5_start_82 rfl rfl ?_
      refine am_gr_ dX5_start_83 fl_X5_15 rfl hf (fun x7 _ hf => ?_)
      refine am_iconst (v := -1) dX5_start_86 rfl rfl ?_
      refine am_cSv (As := [va_rf x7, .int (-1 : Int32)]) (st := []) lk_X5_start_56 rfl (by simp only [am_e1_r, am_e1_i, am_e1_l, am_e1_n]; exact Nat.le_of_ble_eq_true rfl) (Nat.le_of_ble_eq_true rfl) rfl dX5_start_87 rfl hf (fun y8 hf => sfJ7_fill_53178 _ _ _ y8 hf) (fun y8 _ hf => ?_)
      refine am_aload_n dX5_start_90 rfl rfl ?_
      refine am_iconst (v := 0) dX5_start_91 rfl rfl ?_
      refine am_pi_ dX5_start_92 fl_X5_62 fp_5_12 (fun z => by cases z) rfl hf (fun h9 _ hf => ?_)
      refine am_aload_n dX5_start_95 rfl rfl ?_
      refine am_iconst (v := 0) dX5_start_96 rfl rfl ?_
      refine am_pi_ dX5_start_97 fl_X5_65 fp_5_13 (fun z => by cases z) rfl hf (fun h10 _ hf => ?_)
      exact am_vret rfl dX5_start_100 hf
    refine am_aload_n dX5_start_29 rfl rfl ?_
    refine am_gr_ dX5_start_30 fl_X5_9 rfl hf (fun x11 _ hf => ?_)
    refine am_iload dX5_start_33 rfl rfl ?_
    refine am_aload_n dX5_start_35 rfl rfl ?_
    refine am_gr_ dX5_start_36 fl_X5_18 rfl hf (fun x12 _ hf => ?_)
    refine am_gr_ dX5_start_39 fl_X5_33 rfl hf (fun x13 _ hf => ?_)
    refine am_iload dX5_start_42 rfl rfl ?_
    refine am_iald dX5_start_44 rfl hf (fun x14 _ hf => ?_)
    refine am_iast dX5_start_45 rfl hf (fun h15 _ hf => ?_)
    refine am_iinc (ls' := [some (va_rf v0), none, none, none, some (.int (v4 + (1 : Int32)))]) dX5_start_46 rfl rfl (by decide) rfl rfl ?_
    refine am_goto (pc' := 23) dX5_start_49 (by decide) ?_
    exact ih _ _ _ _ hf
set_option maxRecDepth 20000 in
set_option maxHeartbeats 4000000 in
theorem sfX5_start {G : am_G}  (v0 : Nat) (v1 : Option Nat) (v2 : Int32) (v3 : Option Nat) (h : am_H) (y : am_H) (hf : fX5_start v0 v1 v2 v3 h = some y) : am_Cn G miX5_start [va_rf (some v0), va_rf v1, .int v2, va_rf v3] h none y := by
  refine am_beg (ls := [some (va_rf (some v0)), some (va_rf v1), some (.int v2), some (va_rf v3), none]) (by simp only [am_en, am_e1_r, am_e1_i, am_e1_l, am_e1_n]; rfl) ?_
  unfold fX5_start at hf
  refine am_aload_n dX5_start_0 rfl rfl ?_
  refine am_aload_n dX5_start_1 rfl rfl ?_
  refine am_pr_ rfl dX5_start_2 fl_X5_18 fp_5_0 (fun z => by cases z) rfl hf (fun h1 _ hf => ?_)
  refine am_aload_n dX5_start_5 rfl rfl ?_
  refine am_aload_n dX5_start_6 rfl rfl ?_
  refine am_pr_ rfl dX5_start_7 fl_X5_22 fp_5_1 (fun z => by cases z) rfl hf (fun h2 _ hf => ?_)
  refine am_aload_n dX5_start_10 rfl rfl ?_
  refine am_iload_n dX5_start_11 rfl rfl ?_
  refine am_pi_ dX5_start_12 fl_X5_26 fp_5_2 (fun z => by cases z) rfl hf (fun h3 _ hf => ?_)
  refine am_aload_n dX5_start_15 rfl rfl ?_
  refine am_iconst (v := 0) dX5_start_16 rfl rfl ?_
  refine am_pi_ dX5_start_17 fl_X5_30 fp_5_3 (fun z => by cases z) rfl hf (fun h4 _ hf => ?_)
  refine am_iconst (v := 0) dX5_start_20 rfl rfl ?_
  refine am_istore (ls' := [some (va_rf (some v0)), some (va_rf v1), some (.int v2), some (va_rf v3), some (.int (0 : Int32))]) dX5_start_21 (by decide) (am_s1_r (j := 3) rfl rfl) rfl ?_
  exact am_we ((sfX5_start_23 _) _ _ _ _ hf) ⟨Or.inr rfl, Or.inl rfl, Or.inl rfl, Or.inl rfl, Or.inr rfl, trivial⟩
set_option maxRecDepth 20000 in
set_option maxHeartbeats 4000000 in
theorem sfX8_startRun_24 {G : am_G}  (v0 : Option Nat) (v2 : Int32) (v4 : Option Nat) (s0 : Option Nat) (h : am_H) (y : Int32 × am_H) (hf : fX8_startRun_24  v0 v2 v4 s0 h = some y) : am_S G miX8_startRun 24 [some (va_rf v0), none, some (.int v2), none, some (va_rf v4), none] [va_rf s0] h (some (.int y.1)) y.2 := by
  unfold fX8_startRun_24 at hf
  refine am_astore (ls' := [some (va_rf v0), none, some (.int v2), none, some (va_rf v4), some (va_rf s0)]) dX8_startRun_24 (by decide) (am_s1_r (j := 4) rfl rfl) rfl ?_
  refine am_aload dX8_startRun_26 rfl rfl ?_
  refine am_ifnull (tgt := 43) dX8_startRun_28 (by decide) rfl hf (fun hf => ?_) (fun hf => ?_)
  · refine am_iconst (v := 0) dX8_startRun_43 rfl rfl ?_
    exact am_zret rfl dX8_startRun_44 hf
  refine am_aload dX8_startRun_31 rfl rfl ?_
  refine am_ifnull (tgt := 43) dX8_startRun_33 (by decide) rfl hf (fun hf => ?_) (fun hf => ?_)
  · refine am_iconst (v := 0) dX8_startRun_43 rfl rfl ?_
    exact am_zret rfl dX8_startRun_44 hf
  refine am_iload_n dX8_startRun_36 rfl rfl ?_
  refine am_cSi (As := [.int v2]) (st := []) lk_X8_startRun_136 rfl (Nat.le_of_ble_eq_true rfl) (Nat.le_of_ble_eq_true rfl) rfl dX8_startRun_37 rfl hf (fun y1 hf => sfX8_isSeason _ _ y1 hf) (fun y1 _ hf => ?_)
  refine am_if_ne (tgt := 45) dX8_startRun_40 (by decide) rfl hf (fun hf => ?_) (fun hf => ?_)
  · refine am_aload_n dX8_startRun_45 rfl rfl ?_
    refine am_gr_ dX8_startRun_46 fl_X8_62 rfl hf (fun x2 _ hf => ?_)
    refine am_aload dX8_startRun_49 rfl rfl ?_
    refine am_aload_n dX8_startRun_51 rfl rfl ?_
    refine am_iload_n dX8_startRun_52 rfl rfl ?_
    refine am_cVi (As := [.int v2]) (st := [va_rf v4, va_rf x2]) lk_X8_startRun_258 rfl (Nat.le_of_ble_eq_true rfl) (by simp only [List.map_cons, List.map_nil, am_c1, am_ci, am_cl]; exact Nat.le_of_ble_eq_true rfl) rfl dX8_startRun_53 rfl hf (fun b4 y3 hf => sfX8_warmthOf b4 _ _ y3 hf) (fun b4 y3 _ _ hf => ?_)
    refine am_aload dX8_startRun_56 rfl rfl ?_
    refine am_cVv (As := [va_rf v4, .int y3.1, va_rf s0]) (st := []) lk_X8_startRun_261 rfl (by simp only [am_e1_r, am_e1_i, am_e1_l, am_e1_n]; exact Nat.le_of_ble_eq_true rfl) (Nat.le_of_ble_eq_true rfl) rfl dX8_startRun_58 rfl hf (fun b6 y5 hf => sfX5_start b6 _ _ _ _ y5 hf) (fun b6 y5 _ _ hf => ?_)
    refine am_iconst (v := 1) dX8_startRun_61 rfl rfl ?_
    exact am_zret rfl dX8_startRun_62 hf
  refine am_iconst (v := 0) dX8_startRun_43 rfl rfl ?_
  exact am_zret rfl dX8_startRun_44 hf
set_option maxRecDepth 20000 in
set_option maxHeartbeats 4000000 in
theorem sfX8_startRun {G : am_G}  (v0 : Nat) (v1 : Int32) (v2 : Int32) (v3 : Int32) (h : am_H) (y : Int32 × am_H) (hf : fX8_startRun v0 v1 v2 v3 h = some y) : am_Cn G miX8_startRun [va_rf (some v0), .int v1, .int v2, .int v3] h (some (.int y.1)) y.2 := by
  refine am_beg (ls := [some (va_rf (some v0)), some (.int v1), some (.int v2), some (.int v3), none, none]) (by simp only [am_en, am_e1_r, am_e1_i, am_e1_l, am_e1_n]; rfl) ?_
  unfold fX8_startRun at hf
  refine am_aload_n dX8_startRun_0 rfl rfl ?_
  refine am_iload_n dX8_startRun_1 rfl rfl ?_
  refine am_cVr (As := [.int v1]) (st := []) lk_X8_startRun_117 rfl (Nat.le_of_ble_eq_true rfl) (Nat.le_of_ble_eq_true rfl) rfl dX8_startRun_2 rfl hf (fun b2 y1 hf => sfX8_clockOf b2 _ _ y1 hf) (fun b2 y1 _ _ hf => ?_)
  refine am_astore (ls' := [some (va_rf (some v0)), some (.int v1), some (.int v2), some (.int v3), some (va_rf y1.1), none]) dX8_startRun_5 (by decide) rfl rfl ?_
  refine am_iload_n dX8_startRun_7 rfl rfl ?_
  refine am_iconst (v := -1) dX8_startRun_8 rfl rfl ?_
  refine am_icmp_ne (tgt := 19) dX8_startRun_9 (by decide) rfl hf (fun hf => ?_) (fun hf => ?_)
  · refine am_aload_n dX8_startRun_19 rfl rfl ?_
    refine am_iload_n dX8_startRun_20 rfl rfl ?_
    refine am_cVr (As := [.int v3]) (st := []) lk_X8_startRun_163 rfl (Nat.le_of_ble_eq_true rfl) (Nat.le_of_ble_eq_true rfl) rfl dX8_startRun_21 rfl hf (fun b4 y3 hf => sfX8_faultOf b4 _ _ y3 hf) (fun b4 y3 _ _ hf => ?_)
    exact am_we (sfX8_startRun_24 _ _ _ _ _ _ hf) ⟨Or.inr rfl, Or.inl rfl, Or.inr rfl, Or.inl rfl, Or.inr rfl, Or.inl rfl, trivial⟩
  refine am_aload_n dX8_startRun_12 rfl rfl ?_
  refine am_gr_ dX8_startRun_13 fl_X8_50 rfl hf (fun x5 _ hf => ?_)
  refine am_goto (pc' := 24) dX8_startRun_16 (by decide) ?_
  exact am_we (sfX8_startRun_24 _ _ _ _ _ _ hf) ⟨Or.inr rfl, Or.inl rfl, Or.inr rfl, Or.inl rfl, Or.inr rfl, Or.inl rfl, trivial⟩
set_option maxRecDepth 20000 in
set_option maxHeartbeats 4000000 in
theorem sfX2_warmthOf {G : am_G}  (v0 : Nat) (v1 : Int32) (v2 : Int32) (h : am_H) (y : Int32 × am_H) (hf : fX2_warmthOf v0 v1 v2 h = some y) : am_Cn G miX2_warmthOf [va_rf (some v0), .int v1, .int v2] h (some (.int y.1)) y.2 := by
  refine am_beg (ls := [some (va_rf (some v0)), some (.int v1), some (.int v2)]) (by simp only [am_en, am_e1_r, am_e1_i, am_e1_l, am_e1_n]; rfl) ?_
  unfold fX2_warmthOf at hf
  refine am_aload_n dX2_warmthOf_0 rfl rfl ?_
  refine am_gi_ dX2_warmthOf_1 fl_X2_9 rfl hf (fun x1 _ hf => ?_)
  refine am_iconst (v := 4) dX2_warmthOf_4 rfl rfl ?_
  refine am_icmp_ne (tgt := 25) dX2_warmthOf_5 (by decide) rfl hf (fun hf => ?_) (fun hf => ?_)
  · refine am_iload_n dX2_warmthOf_25 rfl rfl ?_
    exact am_iret rfl dX2_warmthOf_26 hf
  refine am_iload_n dX2_warmthOf_8 rfl rfl ?_
  refine am_aload_n dX2_warmthOf_9 rfl rfl ?_
  refine am_gi_ dX2_warmthOf_10 fl_X2_21 rfl hf (fun x2 _ hf => ?_)
  refine am_icmp_lt (tgt := 25) dX2_warmthOf_13 (by decide) rfl hf (fun hf => ?_) (fun hf => ?_)
  · refine am_iload_n dX2_warmthOf_25 rfl rfl ?_
    exact am_iret rfl dX2_warmthOf_26 hf
  refine am_iload_n dX2_warmthOf_16 rfl rfl ?_
  refine am_aload_n dX2_warmthOf_17 rfl rfl ?_
  refine am_gi_ dX2_warmthOf_18 fl_X2_18 rfl hf (fun x3 _ hf => ?_)
  refine am_isub dX2_warmthOf_21 rfl ?_
  refine am_goto (pc' := 26) dX2_warmthOf_22 (by decide) ?_
  exact am_iret rfl dX2_warmthOf_26 hf
set_option maxRecDepth 20000 in
set_option maxHeartbeats 4000000 in
theorem sfX8_quotient {G : am_G}  (v0 : Int32) (v1 : Int32) (h : am_H) (y : Int32 × am_H) (hf : fX8_quotient v0 v1 h = some y) : am_Cn G miX8_quotient [.int v0, .int v1] h (some (.int y.1)) y.2 := by
  refine am_beg (ls := [some (.int v0), some (.int v1)]) (by simp only [am_en, am_e1_r, am_e1_i, am_e1_l, am_e1_n]; rfl) ?_
  unfold fX8_quotient at hf
  refine am_iload_n dX8_quotient_0 rfl rfl ?_
  refine am_iconst (v := 1) dX8_quotient_1 rfl rfl ?_
  refine am_icmp_ge (tgt := 9) dX8_quotient_2 (by decide) rfl hf (fun hf => ?_) (fun hf => ?_)
  · refine am_iload_n dX8_quotient_9 rfl rfl ?_
    refine am_iload_n dX8_quotient_10 rfl rfl ?_
    refine am_idiv dX8_quotient_11 rfl hf (fun hf => ?_)
    exact am_iret rfl dX8_quotient_12 hf
  refine am_iconst (v := 0) dX8_quotient_5 rfl rfl ?_
  refine am_goto (pc' := 12) dX8_quotient_6 (by decide) ?_
  exact am_iret rfl dX8_quotient_12 hf
set_option maxRecDepth 20000 in
set_option maxHeartbeats 4000000 in
theorem sfX2_holeOf {G : am_G}  (v0 : Nat) (v1 : Int32) (v2 : Int32) (v3 : Int32) (h : am_H) (y : Int32 × am_H) (hf : fX2_holeOf v0 v1 v2 v3 h = some y) : am_Cn G miX2_holeOf [va_rf (some v0), .int v1, .int v2, .int v3] h (some (.int y.1)) y.2 := by
  refine am_beg (ls := [some (va_rf (some v0)), some (.int v1), some (.int v2), some (.int v3)]) (by simp only [am_en, am_e1_r, am_e1_i, am_e1_l, am_e1_n]; rfl) ?_
  unfold fX2_holeOf at hf
  refine am_aload_n dX2_holeOf_0 rfl rfl ?_
  refine am_gi_ dX2_holeOf_1 fl_X2_15 rfl hf (fun x1 _ hf => ?_)
  refine am_iload_n dX2_holeOf_4 rfl rfl ?_
  refine am_icmp_ne (tgt := 16) dX2_holeOf_5 (by decide) rfl hf (fun hf => ?_) (fun hf => ?_)
  · refine am_iload_n dX2_holeOf_16 rfl rfl ?_
    exact am_iret rfl dX2_holeOf_17 hf
  refine am_iload_n dX2_holeOf_8 rfl rfl ?_
  refine am_aload_n dX2_holeOf_9 rfl rfl ?_
  refine am_gi_ dX2_holeOf_10 fl_X2_21 rfl hf (fun x2 _ hf => ?_)
  refine am_icmp_ge (tgt := 18) dX2_holeOf_13 (by decide) rfl hf (fun hf => ?_) (fun hf => ?_)
  · refine am_aload_n dX2_holeOf_18 rfl rfl ?_
    refine am_gi_ dX2_holeOf_19 fl_X2_9 rfl hf (fun x3 _ hf => ?_)
    refine am_lsw (d := 66) (l := [(1, 48), (2, 59)]) dX2_holeOf_22 (by decide) (by decide) (by decide) ?_
    refine am_swc hf (fun hf => ?_) (fun hf => ?_)
    · refine am_iconst (v := 0) dX2_holeOf_48 rfl rfl ?_
      refine am_iload_n dX2_holeOf_49 rfl rfl ?_
      refine am_aload_n dX2_holeOf_50 rfl rfl ?_
      refine am_gi_ dX2_holeOf_51 fl_X2_18 rfl hf (fun x4 _ hf => ?_)
      refine am_isub dX2_holeOf_54 rfl ?_
      refine am_mmax ml_X2_24 st_max in_Math co_max (by decide) (Nat.le_of_ble_eq_true rfl) dX2_holeOf_55 rfl ?_
      exact am_iret rfl dX2_holeOf_58 hf
    refine am_swc hf (fun hf => ?_) (fun hf => ?_)
    · refine am_iload_n dX2_holeOf_59 rfl rfl ?_
      refine am_aload_n dX2_holeOf_60 rfl rfl ?_
      refine am_gi_ dX2_holeOf_61 fl_X2_18 rfl hf (fun x5 _ hf => ?_)
      refine am_iadd dX2_holeOf_64 rfl ?_
      exact am_iret rfl dX2_holeOf_65 hf
    show am_S _ _ 66 _ _ _ _ _
    refine am_iload_n dX2_holeOf_66 rfl rfl ?_
    exact am_iret rfl dX2_holeOf_67 hf
  refine am_iload_n dX2_holeOf_16 rfl rfl ?_
  exact am_iret rfl dX2_holeOf_17 hf
set_option maxRecDepth 20000 in
set_option maxHeartbeats 4000000 in
theorem sfX5_drip_210 {G : am_G}  (v0 : Option Nat) (v2 : Int32) (s0 : Option Nat) (s1 : Int32) (h : am_H) (y : am_H) (hf : fX5_drip_210  v0 v2 s0 s1 h = some y) : am_S G miX5_drip 210 [some (va_rf v0), none, some (.int v2), none, none, none, none] [.int s1, va_rf s0] h none y := by
  unfold fX5_drip_210 at hf
  refine am_pi_ dX5_drip_210 fl_X5_62 fp_5_12 (fun z => by cases z) rfl hf (fun h1 _ hf => ?_)
  refine am_aload_n dX5_drip_213 rfl rfl ?_
  refine am_aload_n dX5_drip_214 rfl rfl ?_
  refine am_gi_ dX5_drip_215 fl_X5_65 rfl hf (fun x2 _ hf => ?_)
  refine am_iload_n dX5_drip_218 rfl rfl ?_
  refine am_mmax ml_X5_113 st_max in_Math co_max (by decide) (by simp only [List.map_cons, List.map_nil, am_c1, am_ci, am_cl]; exact Nat.le_of_ble_eq_true rfl) dX5_drip_219 rfl ?_
  refine am_pi_ dX5_drip_222 fl_X5_65 fp_5_13 (fun z => by cases z) rfl hf (fun h3 _ hf => ?_)
  exact am_vret rfl dX5_drip_225 hf
set_option maxRecDepth 20000 in
set_option maxHeartbeats 4000000 in
theorem sfX5_drip_170 {G : am_G}  (v0 : Option Nat) (v2 : Int32) (h : am_H) (y : am_H) (hf : fX5_drip_170  v0 v2 h = some y) : am_S G miX5_drip 170 [some (va_rf v0), none, some (.int v2), none, none, none, none] [] h none y := by
  unfold fX5_drip_170 at hf
  refine am_aload_n dX5_drip_170 rfl rfl ?_
  refine am_dup dX5_drip_171 (am_c1 _) rfl ?_
  refine am_gi_ dX5_drip_172 fl_X5_38 rfl hf (fun x1 _ hf => ?_)
  refine am_iload_n dX5_drip_175 rfl rfl ?_
  refine am_iadd dX5_drip_176 rfl ?_
  refine am_pi_ dX5_drip_177 fl_X5_38 fp_5_5 (fun z => by cases z) rfl hf (fun h2 _ hf => ?_)
  refine am_aload_n dX5_drip_180 rfl rfl ?_
  refine am_dup dX5_drip_181 (am_c1 _) rfl ?_
  refine am_gi_ dX5_drip_182 fl_X5_41 rfl hf (fun x3 _ hf => ?_)
  refine am_iload_n dX5_drip_185 rfl rfl ?_
  refine am_iadd dX5_drip_186 rfl ?_
  refine am_pi_ dX5_drip_187 fl_X5_41 fp_5_6 (fun z => by cases z) rfl hf (fun h4 _ hf => ?_)
  refine am_aload_n dX5_drip_190 rfl rfl ?_
  refine am_aload_n dX5_drip_191 rfl rfl ?_
  refine am_gi_ dX5_drip_192 fl_X5_30 rfl hf (fun x5 _ hf => ?_)
  refine am_if_ne (tgt := 202) dX5_drip_195 (by decide) rfl hf (fun hf => ?_) (fun hf => ?_)
  · refine am_aload_n dX5_drip_202 rfl rfl ?_
    refine am_gi_ dX5_drip_203 fl_X5_62 rfl hf (fun x6 _ hf => ?_)
    refine am_iload_n dX5_drip_206 rfl rfl ?_
    refine am_mmin ml_X5_108 st_min in_Math co_min (by decide) (by simp only [List.map_cons, List.map_nil, am_c1, am_ci, am_cl]; exact Nat.le_of_ble_eq_true rfl) dX5_drip_207 rfl ?_
    exact sfX5_drip_210 _ _ _ _ _ _ hf
  refine am_iload_n dX5_drip_198 rfl rfl ?_
  refine am_goto (pc' := 210) dX5_drip_199 (by decide) ?_
  exact sfX5_drip_210 _ _ _ _ _ _ hf
set_option maxRecDepth 20000 in
set_option maxHeartbeats 4000000 in
theorem sfX5_drip_98 {G : am_G}  {k26 : Option Nat → Int32 → Int32 → Int32 → am_H → Option (am_H)} (hk26 : ∀ (v0 : Option Nat) (v1 : Int32) (v2 : Int32) (v3 : Int32) (h : am_H) (y : am_H), k26 v0 v1 v2 v3 h = some y → am_S G miX5_drip 26 [some (va_rf v0), some (.int v1), some (.int v2), some (.int v3), none, none, none] [] h none y) (v0 : Option Nat) (v1 : Int32) (v3 : Int32) (v4 : Int32) (h : am_H) (y : am_H) (hf : fX5_drip_98 k26 v0 v1 v3 v4 h = some y) : am_S G miX5_drip 98 [some (va_rf v0), some (.int v1), none, some (.int v3), some (.int v4), none, none] [] h none y := by
  unfold fX5_drip_98 at hf
  refine am_iload dX5_drip_98 rfl rfl ?_
  refine am_aload_n dX5_drip_100 rfl rfl ?_
  refine am_gr_ dX5_drip_101 fl_X5_18 rfl hf (fun x1 _ hf => ?_)
  refine am_gr_ dX5_drip_104 fl_X5_95 rfl hf (fun x2 _ hf => ?_)
  refine am_iload_n dX5_drip_107 rfl rfl ?_
  refine am_iald dX5_drip_108 rfl hf (fun x3 _ hf => ?_)
  refine am_cTi (As := [.int v4, .int x3]) (st := []) lk_X5_drip_98 rfl (Nat.le_of_ble_eq_true rfl) (Nat.le_of_ble_eq_true rfl) rfl dX5_drip_109 rfl hf (fun y4 hf => sfX8_quotient _ _ _ y4 hf) (fun y4 _ hf => ?_)
  refine am_istore (ls' := [some (va_rf v0), some (.int v1), none, some (.int v3), some (.int v4), some (.int y4.1), none]) dX5_drip_112 (by decide) rfl rfl ?_
  refine am_aload_n dX5_drip_114 rfl rfl ?_
  refine am_gr_ dX5_drip_115 fl_X5_22 rfl hf (fun x5 _ hf => ?_)
  refine am_aload_n dX5_drip_118 rfl rfl ?_
  refine am_gr_ dX5_drip_119 fl_X5_18 rfl hf (fun x6 _ hf => ?_)
  refine am_gr_ dX5_drip_122 fl_X5_101 rfl hf (fun x7 _ hf => ?_)
  refine am_iload_n dX5_drip_125 rfl rfl ?_
  refine am_iald dX5_drip_126 rfl hf (fun x8 _ hf => ?_)
  refine am_iload_n dX5_drip_127 rfl rfl ?_
  refine am_aload_n dX5_drip_128 rfl rfl ?_
  refine am_gi_ dX5_drip_129 fl_X5_30 rfl hf (fun x9 _ hf => ?_)
  refine am_cVi (As := [.int x8, .int v3, .int x9]) (st := []) lk_X5_drip_104 rfl (Nat.le_of_ble_eq_true rfl) (Nat.le_of_ble_eq_true rfl) rfl dX5_drip_132 rfl hf (fun b11 y10 hf => sfX2_holeOf b11 _ _ _ _ y10 hf) (fun b11 y10 _ _ hf => ?_)
  refine am_istore (ls' := [some (va_rf v0), some (.int v1), none, some (.int v3), some (.int v4), some (.int y4.1), some (.int y10.1)]) dX5_drip_135 (by decide) rfl rfl ?_
  refine am_iload dX5_drip_137 rfl rfl ?_
  refine am_iload dX5_drip_139 rfl rfl ?_
  refine am_iload dX5_drip_141 rfl rfl ?_
  refine am_imul dX5_drip_143 rfl ?_
  refine am_iload_n dX5_drip_144 rfl rfl ?_
  refine am_imul dX5_drip_145 rfl ?_
  refine am_sipush (v := 1000) dX5_drip_146 (by decide) rfl ?_
  refine am_idiv dX5_drip_149 rfl hf (fun hf => ?_)
  refine am_mmin ml_X5_108 st_min in_Math co_min (by decide) (Nat.le_of_ble_eq_true rfl) dX5_drip_150 rfl ?_
  refine am_istore_n (ls' := [some (va_rf v0), some (.int v1), some (.int (if (((y10.1 * y4.1) * v1) / (1000 : Int32)) < v4 then (((y10.1 * y4.1) * v1) / (1000 : Int32)) else v4)), some (.int v3), some (.int v4), some (.int y4.1), some (.int y10.1)]) dX5_drip_153 (by decide) rfl rfl ?_
  refine am_aload_n dX5_drip_154 rfl rfl ?_
  refine am_gr_ dX5_drip_155 fl_X5_9 rfl hf (fun x12 _ hf => ?_)
  refine am_iload_n dX5_drip_158 rfl rfl ?_
  refine am_iload dX5_drip_159 rfl rfl ?_
  refine am_iload_n dX5_drip_161 rfl rfl ?_
  refine am_isub dX5_drip_162 rfl ?_
  refine am_iast dX5_drip_163 rfl hf (fun h13 _ hf => ?_)
  refine am_iinc (ls' := [some (va_rf v0), some (.int v1), some (.int (if (((y10.1 * y4.1) * v1) / (1000 : Int32)) < v4 then (((y10.1 * y4.1) * v1) / (1000 : Int32)) else v4)), some (.int (v3 + (1 : Int32))), some (.int v4), some (.int y4.1), some (.int y10.1)]) dX5_drip_164 rfl rfl (by decide) rfl rfl ?_
  refine am_goto (pc' := 26) dX5_drip_167 (by decide) ?_
  exact am_we (hk26 _ _ _ _ _ _ hf) ⟨Or.inr rfl, Or.inr rfl, Or.inr rfl, Or.inr rfl, Or.inl rfl, Or.inl rfl, Or.inl rfl, trivial⟩
