/-! printed proofs of the printed functions, 6 -/
set_option maxRecDepth 20000 in
set_option maxHeartbeats 4000000 in
theorem sfX8_even {G : am_G}  (v0 : Nat) (v1 : Int32) (v2 : Int32) (v3 : Int32) (v4 : Int32) (h : am_H) (y : Int32 × am_H) (hf : fX8_even v0 v1 v2 v3 v4 h = some y) : am_Cn G miX8_even [va_rf (some v0), .int v1, .int v2, .int v3, .int v4] h (some (.int y.1)) y.2 := by
  refine am_beg (ls := [some (va_rf (some v0)), some (.int v1), some (.int v2), some (.int v3), some (.int v4)]) (by simp only [am_en, am_e1_r, am_e1_i, am_e1_l, am_e1_n]; rfl) ?_
  unfold fX8_even at hf
  refine am_aload_n dX8_even_0 rfl rfl ?_
  refine am_iload_n dX8_even_1 rfl rfl ?_
  refine am_iload_n dX8_even_2 rfl rfl ?_
  refine am_iload_n dX8_even_3 rfl rfl ?_
  refine am_cVi (As := [.int v1, .int v2, .int v3]) (st := []) lk_X8_even_200 rfl (Nat.le_of_ble_eq_true rfl) (Nat.le_of_ble_eq_true rfl) rfl dX8_even_4 rfl hf (fun b2 y1 hf => sfX8_startRun b2 _ _ _ _ y1 hf) (fun b2 y1 _ _ hf => ?_)
  refine am_if_ne (tgt := 13) dX8_even_7 (by decide) rfl hf (fun hf => ?_) (fun hf => ?_)
  · refine am_iload dX8_even_13 rfl rfl ?_
    refine am_iconst (v := 0) dX8_even_15 rfl rfl ?_
    refine am_iconst (v := 1) dX8_even_16 rfl rfl ?_
    refine am_cSi (As := [.int v4, .int (0 : Int32), .int (1 : Int32)]) (st := []) lk_X8_even_121 rfl (Nat.le_of_ble_eq_true rfl) (Nat.le_of_ble_eq_true rfl) rfl dX8_even_17 rfl hf (fun y3 hf => sfX8_isIn _ _ _ _ y3 hf) (fun y3 _ hf => ?_)
    refine am_if_ne (tgt := 26) dX8_even_20 (by decide) rfl hf (fun hf => ?_) (fun hf => ?_)
    · refine am_aload_n dX8_even_26 rfl rfl ?_
      refine am_gr_ dX8_even_27 fl_X8_62 rfl hf (fun x4 _ hf => ?_)
      refine am_bipush (v := 96) dX8_even_30 (by decide) rfl ?_
      refine am_cVv (As := [.int (96 : Int32)]) (st := []) lk_X8_even_209 rfl (Nat.le_of_ble_eq_true rfl) (Nat.le_of_ble_eq_true rfl) rfl dX8_even_32 rfl hf (fun b6 y5 hf => sfX5_goOnTo b6 _ _ y5 hf) (fun b6 y5 _ _ hf => ?_)
      refine am_iload dX8_even_35 rfl rfl ?_
      refine am_if_ne (tgt := 50) dX8_even_37 (by decide) rfl hf (fun hf => ?_) (fun hf => ?_)
      · refine am_aload_n dX8_even_50 rfl rfl ?_
        refine am_gr_ dX8_even_51 fl_X8_62 rfl hf (fun x7 _ hf => ?_)
        refine am_gi_ dX8_even_54 fl_X8_226 rfl hf (fun x8 _ hf => ?_)
        exact am_iret rfl dX8_even_57 hf
      refine am_aload_n dX8_even_40 rfl rfl ?_
      refine am_gr_ dX8_even_41 fl_X8_62 rfl hf (fun x9 _ hf => ?_)
      refine am_gi_ dX8_even_44 fl_X8_223 rfl hf (fun x10 _ hf => ?_)
      refine am_goto (pc' := 57) dX8_even_47 (by decide) ?_
      exact am_iret rfl dX8_even_57 hf
    refine am_bipush (v := -102) dX8_even_23 (by decide) rfl ?_
    exact am_iret rfl dX8_even_25 hf
  refine am_bipush (v := -101) dX8_even_10 (by decide) rfl ?_
  exact am_iret rfl dX8_even_12 hf
set_option maxRecDepth 20000 in
set_option maxHeartbeats 4000000 in
theorem sfL_size {G : am_G}  (v0 : Int32) (h : am_H) (y : Int32 × am_H) (hf : fL_size v0 h = some y) : am_Cn G miL_size [.int v0] h (some (.int y.1)) y.2 := by
  refine am_beg (ls := [some (.int v0)]) (by simp only [am_en, am_e1_r, am_e1_i, am_e1_l, am_e1_n]; rfl) ?_
  unfold fL_size at hf
  refine am_iload_n dL_size_0 rfl rfl ?_
  refine am_if_ge (tgt := 9) dL_size_1 (by decide) rfl hf (fun hf => ?_) (fun hf => ?_)
  · refine am_iload_n dL_size_9 rfl rfl ?_
    exact am_iret rfl dL_size_10 hf
  refine am_iload_n dL_size_4 rfl rfl ?_
  refine am_ineg dL_size_5 rfl ?_
  refine am_goto (pc' := 10) dL_size_6 (by decide) ?_
  exact am_iret rfl dL_size_10 hf
set_option maxRecDepth 20000 in
set_option maxHeartbeats 4000000 in
theorem sfX0_hasBall {G : am_G}  (v0 : Nat) (v1 : Int32) (h : am_H) (y : Int32 × am_H) (hf : fX0_hasBall v0 v1 h = some y) : am_Cn G miX0_hasBall [va_rf (some v0), .int v1] h (some (.int y.1)) y.2 := by
  refine am_beg (ls := [some (va_rf (some v0)), some (.int v1)]) (by simp only [am_en, am_e1_r, am_e1_i, am_e1_l, am_e1_n]; rfl) ?_
  unfold fX0_hasBall at hf
  refine am_iload_n dX0_hasBall_0 rfl rfl ?_
  refine am_if_lt (tgt := 22) dX0_hasBall_1 (by decide) rfl hf (fun hf => ?_) (fun hf => ?_)
  · refine am_iconst (v := 0) dX0_hasBall_22 rfl rfl ?_
    exact am_zret rfl dX0_hasBall_23 hf
  refine am_iload_n dX0_hasBall_4 rfl rfl ?_
  refine am_aload_n dX0_hasBall_5 rfl rfl ?_
  refine am_gi_ dX0_hasBall_6 fl_X0_40 rfl hf (fun x1 _ hf => ?_)
  refine am_icmp_ge (tgt := 22) dX0_hasBall_9 (by decide) rfl hf (fun hf => ?_) (fun hf => ?_)
  · refine am_iconst (v := 0) dX0_hasBall_22 rfl rfl ?_
    exact am_zret rfl dX0_hasBall_23 hf
  refine am_iload_n dX0_hasBall_12 rfl rfl ?_
  refine am_bipush (v := 12) dX0_hasBall_13 (by decide) rfl ?_
  refine am_icmp_ge (tgt := 22) dX0_hasBall_15 (by decide) rfl hf (fun hf => ?_) (fun hf => ?_)
  · refine am_iconst (v := 0) dX0_hasBall_22 rfl rfl ?_
    exact am_zret rfl dX0_hasBall_23 hf
  refine am_iconst (v := 1) dX0_hasBall_18 rfl rfl ?_
  refine am_goto (pc' := 23) dX0_hasBall_19 (by decide) ?_
  exact am_zret rfl dX0_hasBall_23 hf
set_option maxRecDepth 20000 in
set_option maxHeartbeats 4000000 in
theorem sfX5_tickOf {G : am_G}  (v0 : Nat) (v1 : Int32) (h : am_H) (y : Int32 × am_H) (hf : fX5_tickOf v0 v1 h = some y) : am_Cn G miX5_tickOf [va_rf (some v0), .int v1] h (some (.int y.1)) y.2 := by
  refine am_beg (ls := [some (va_rf (some v0)), some (.int v1)]) (by simp only [am_en, am_e1_r, am_e1_i, am_e1_l, am_e1_n]; rfl) ?_
  unfold fX5_tickOf at hf
  refine am_aload_n dX5_tickOf_0 rfl rfl ?_
  refine am_gr_ dX5_tickOf_1 fl_X5_18 rfl hf (fun x1 _ hf => ?_)
  refine am_iload_n dX5_tickOf_4 rfl rfl ?_
  refine am_cVi (As := [.int v1]) (st := []) lk_X5_tickOf_139 rfl (Nat.le_of_ble_eq_true rfl) (Nat.le_of_ble_eq_true rfl) rfl dX5_tickOf_5 rfl hf (fun b3 y2 hf => sfX0_hasBall b3 _ _ y2 hf) (fun b3 y2 _ _ hf => ?_)
  refine am_if_eq (tgt := 20) dX5_tickOf_8 (by decide) rfl hf (fun hf => ?_) (fun hf => ?_)
  · refine am_iconst (v := -1) dX5_tickOf_20 rfl rfl ?_
    exact am_iret rfl dX5_tickOf_21 hf
  refine am_aload_n dX5_tickOf_11 rfl rfl ?_
  refine am_gr_ dX5_tickOf_12 fl_X5_15 rfl hf (fun x4 _ hf => ?_)
  refine am_iload_n dX5_tickOf_15 rfl rfl ?_
  refine am_iald dX5_tickOf_16 rfl hf (fun x5 _ hf => ?_)
  refine am_goto (pc' := 21) dX5_tickOf_17 (by decide) ?_
  exact am_iret rfl dX5_tickOf_21 hf
set_option maxRecDepth 20000 in
set_option maxHeartbeats 4000000 in
theorem sfX8_drops {G : am_G}  (v0 : Nat) (v1 : Int32) (v2 : Int32) (v3 : Int32) (v4 : Int32) (h : am_H) (y : Int32 × am_H) (hf : fX8_drops v0 v1 v2 v3 v4 h = some y) : am_Cn G miX8_drops [va_rf (some v0), .int v1, .int v2, .int v3, .int v4] h (some (.int y.1)) y.2 := by
  refine am_beg (ls := [some (va_rf (some v0)), some (.int v1), some (.int v2), some (.int v3), some (.int v4)]) (by simp only [am_en, am_e1_r, am_e1_i, am_e1_l, am_e1_n]; rfl) ?_
  unfold fX8_drops at hf
  refine am_aload_n dX8_drops_0 rfl rfl ?_
  refine am_iload_n dX8_drops_1 rfl rfl ?_
  refine am_iload_n dX8_drops_2 rfl rfl ?_
  refine am_iload_n dX8_drops_3 rfl rfl ?_
  refine am_cVi (As := [.int v1, .int v2, .int v3]) (st := []) lk_X8_drops_200 rfl (Nat.le_of_ble_eq_true rfl) (Nat.le_of_ble_eq_true rfl) rfl dX8_drops_4 rfl hf (fun b2 y1 hf => sfX8_startRun b2 _ _ _ _ y1 hf) (fun b2 y1 _ _ hf => ?_)
  refine am_if_eq (tgt := 25) dX8_drops_7 (by decide) rfl hf (fun hf => ?_) (fun hf => ?_)
  · refine am_bipush (v := -101) dX8_drops_25 (by decide) rfl ?_
    exact am_iret rfl dX8_drops_27 hf
  refine am_aload_n dX8_drops_10 rfl rfl ?_
  refine am_gr_ dX8_drops_11 fl_X8_62 rfl hf (fun x3 _ hf => ?_)
  refine am_gr_ dX8_drops_14 fl_X8_203 rfl hf (fun x4 _ hf => ?_)
  refine am_iload dX8_drops_17 rfl rfl ?_
  refine am_cVi (As := [.int v4]) (st := []) lk_X8_drops_206 rfl (Nat.le_of_ble_eq_true rfl) (Nat.le_of_ble_eq_true rfl) rfl dX8_drops_19 rfl hf (fun b6 y5 hf => sfX0_hasBall b6 _ _ y5 hf) (fun b6 y5 _ _ hf => ?_)
  refine am_if_ne (tgt := 28) dX8_drops_22 (by decide) rfl hf (fun hf => ?_) (fun hf => ?_)
  · refine am_aload_n dX8_drops_28 rfl rfl ?_
    refine am_gr_ dX8_drops_29 fl_X8_62 rfl hf (fun x7 _ hf => ?_)
    refine am_bipush (v := 96) dX8_drops_32 (by decide) rfl ?_
    refine am_cVv (As := [.int (96 : Int32)]) (st := []) lk_X8_drops_209 rfl (Nat.le_of_ble_eq_true rfl) (Nat.le_of_ble_eq_true rfl) rfl dX8_drops_34 rfl hf (fun b9 y8 hf => sfX5_goOnTo b9 _ _ y8 hf) (fun b9 y8 _ _ hf => ?_)
    refine am_aload_n dX8_drops_37 rfl rfl ?_
    refine am_gr_ dX8_drops_38 fl_X8_62 rfl hf (fun x10 _ hf => ?_)
    refine am_iload dX8_drops_41 rfl rfl ?_
    refine am_cVi (As := [.int v4]) (st := []) lk_X8_drops_213 rfl (Nat.le_of_ble_eq_true rfl) (Nat.le_of_ble_eq_true rfl) rfl dX8_drops_43 rfl hf (fun b12 y11 hf => sfX5_tickOf b12 _ _ y11 hf) (fun b12 y11 _ _ hf => ?_)
    exact am_iret rfl dX8_drops_46 hf
  refine am_bipush (v := -101) dX8_drops_25 (by decide) rfl ?_
  exact am_iret rfl dX8_drops_27 hf
set_option maxRecDepth 20000 in
set_option maxHeartbeats 4000000 in
theorem sfX8_daylightOf {G : am_G}  (v0 : Nat) (v1 : Int32) (h : am_H) (y : Int32 × am_H) (hf : fX8_daylightOf v0 v1 h = some y) : am_Cn G miX8_daylightOf [va_rf (some v0), .int v1] h (some (.int y.1)) y.2 := by
  refine am_beg (ls := [some (va_rf (some v0)), some (.int v1)]) (by simp only [am_en, am_e1_r, am_e1_i, am_e1_l, am_e1_n]; rfl) ?_
  unfold fX8_daylightOf at hf
  refine am_iload_n dX8_daylightOf_0 rfl rfl ?_
  refine am_cSi (As := [.int v1]) (st := []) lk_X8_daylightOf_136 rfl (Nat.le_of_ble_eq_true rfl) (Nat.le_of_ble_eq_true rfl) rfl dX8_daylightOf_1 rfl hf (fun y1 hf => sfX8_isSeason _ _ y1 hf) (fun y1 _ hf => ?_)
  refine am_if_eq (tgt := 19) dX8_daylightOf_4 (by decide) rfl hf (fun hf => ?_) (fun hf => ?_)
  · refine am_bipush (v := 48) dX8_daylightOf_19 (by decide) rfl ?_
    exact am_iret rfl dX8_daylightOf_21 hf
  refine am_aload_n dX8_daylightOf_7 rfl rfl ?_
  refine am_gr_ dX8_daylightOf_8 fl_X8_37 rfl hf (fun x2 _ hf => ?_)
  refine am_gr_ dX8_daylightOf_11 fl_X8_147 rfl hf (fun x3 _ hf => ?_)
  refine am_iload_n dX8_daylightOf_14 rfl rfl ?_
  refine am_iald dX8_daylightOf_15 rfl hf (fun x4 _ hf => ?_)
  refine am_goto (pc' := 21) dX8_daylightOf_16 (by decide) ?_
  exact am_iret rfl dX8_daylightOf_21 hf
set_option maxRecDepth 20000 in
set_option maxHeartbeats 4000000 in
theorem sfX0_trueTick {G : am_G}  (v0 : Nat) (v1 : Int32) (v2 : Int32) (h : am_H) (y : Int32 × am_H) (hf : fX0_trueTick v0 v1 v2 h = some y) : am_Cn G miX0_trueTick [va_rf (some v0), .int v1, .int v2] h (some (.int y.1)) y.2 := by
  refine am_beg (ls := [some (va_rf (some v0)), some (.int v1), some (.int v2)]) (by simp only [am_en, am_e1_r, am_e1_i, am_e1_l, am_e1_n]; rfl) ?_
  unfold fX0_trueTick at hf
  refine am_iload_n dX0_trueTick_0 rfl rfl ?_
  refine am_iconst (v := 1) dX0_trueTick_1 rfl rfl ?_
  refine am_iadd dX0_trueTick_2 rfl ?_
  refine am_iload_n dX0_trueTick_3 rfl rfl ?_
  refine am_imul dX0_trueTick_4 rfl ?_
  refine am_aload_n dX0_trueTick_5 rfl rfl ?_
  refine am_gi_ dX0_trueTick_6 fl_X0_40 rfl hf (fun x1 _ hf => ?_)
  refine am_cTi (As := [.int ((v1 + (1 : Int32)) * v2), .int x1]) (st := []) lk_X0_trueTick_50 rfl (Nat.le_of_ble_eq_true rfl) (Nat.le_of_ble_eq_true rfl) rfl dX0_trueTick_9 rfl hf (fun y2 hf => sfX8_quotient _ _ _ y2 hf) (fun y2 _ hf => ?_)
  exact am_iret rfl dX0_trueTick_12 hf
set_option maxRecDepth 20000 in
set_option maxHeartbeats 4000000 in
theorem sfX5_errorOf_17 {G : am_G}  (v0 : Option Nat) (v1 : Int32) (v2 : Int32) (s0 : Int32) (h : am_H) (y : Int32 × am_H) (hf : fX5_errorOf_17  v0 v1 v2 s0 h = some y) : am_S G miX5_errorOf 17 [some (va_rf v0), some (.int v1), some (.int v2), none] [.int s0] h (some (.int y.1)) y.2 := by
  unfold fX5_errorOf_17 at hf
  refine am_aload_n dX5_errorOf_17 rfl rfl ?_
  refine am_gr_ dX5_errorOf_18 fl_X5_18 rfl hf (fun x1 _ hf => ?_)
  refine am_iload_n dX5_errorOf_21 rfl rfl ?_
  refine am_iload_n dX5_errorOf_22 rfl rfl ?_
  refine am_cVi (As := [.int v1, .int v2]) (st := [.int s0]) lk_X5_errorOf_145 rfl (Nat.le_of_ble_eq_true rfl) (Nat.le_of_ble_eq_true rfl) rfl dX5_errorOf_23 rfl hf (fun b3 y2 hf => sfX0_trueTick b3 _ _ _ y2 hf) (fun b3 y2 _ _ hf => ?_)
  refine am_isub dX5_errorOf_26 rfl ?_
  exact am_iret rfl dX5_errorOf_27 hf
set_option maxRecDepth 20000 in
set_option maxHeartbeats 4000000 in
theorem sfX5_errorOf {G : am_G}  (v0 : Nat) (v1 : Int32) (v2 : Int32) (h : am_H) (y : Int32 × am_H) (hf : fX5_errorOf v0 v1 v2 h = some y) : am_Cn G miX5_errorOf [va_rf (some v0), .int v1, .int v2] h (some (.int y.1)) y.2 := by
  refine am_beg (ls := [some (va_rf (some v0)), some (.int v1), some (.int v2), none]) (by simp only [am_en, am_e1_r, am_e1_i, am_e1_l, am_e1_n]; rfl) ?_
  unfold fX5_errorOf at hf
  refine am_aload_n dX5_errorOf_0 rfl rfl ?_
  refine am_iload_n dX5_errorOf_1 rfl rfl ?_
  refine am_cVi (As := [.int v1]) (st := []) lk_X5_errorOf_142 rfl (Nat.le_of_ble_eq_true rfl) (Nat.le_of_ble_eq_true rfl) rfl dX5_errorOf_2 rfl hf (fun b2 y1 hf => sfX5_tickOf b2 _ _ y1 hf) (fun b2 y1 _ _ hf => ?_)
  refine am_istore_n (ls' := [some (va_rf (some v0)), some (.int v1), some (.int v2), some (.int y1.1)]) dX5_errorOf_5 (by decide) rfl rfl ?_
  refine am_iload_n dX5_errorOf_6 rfl rfl ?_
  refine am_iconst (v := -1) dX5_errorOf_7 rfl rfl ?_
  refine am_icmp_ne (tgt := 16) dX5_errorOf_8 (by decide) rfl hf (fun hf => ?_) (fun hf => ?_)
  · refine am_iload_n dX5_errorOf_16 rfl rfl ?_
    exact am_we (sfX5_errorOf_17 _ _ _ _ _ _ hf) ⟨Or.inr rfl, Or.inr rfl, Or.inr rfl, Or.inl rfl, trivial⟩
  refine am_bipush (v := 96) dX5_errorOf_11 (by decide) rfl ?_
  refine am_goto (pc' := 17) dX5_errorOf_13 (by decide) ?_
  exact am_we (sfX5_errorOf_17 _ _ _ _ _ _ hf) ⟨Or.inr rfl, Or.inr rfl, Or.inr rfl, Or.inl rfl, trivial⟩
set_option maxRecDepth 20000 in
set_option maxHeartbeats 4000000 in
theorem sfX8_error {G : am_G}  (v0 : Nat) (v1 : Int32) (v2 : Int32) (v3 : Int32) (v4 : Int32) (h : am_H) (y : Int32 × am_H) (hf : fX8_error v0 v1 v2 v3 v4 h = some y) : am_Cn G miX8_error [va_rf (some v0), .int v1, .int v2, .int v3, .int v4] h (some (.int y.1)) y.2 := by
  refine am_beg (ls := [some (va_rf (some v0)), some (.int v1), some (.int v2), some (.int v3), some (.int v4)]) (by simp only [am_en, am_e1_r, am_e1_i, am_e1_l, am_e1_n]; rfl) ?_
  unfold fX8_error at hf
  refine am_aload_n dX8_error_0 rfl rfl ?_
  refine am_iload_n dX8_error_1 rfl rfl ?_
  refine am_iload_n dX8_error_2 rfl rfl ?_
  refine am_iload_n dX8_error_3 rfl rfl ?_
  refine am_cVi (As := [.int v1, .int v2, .int v3]) (st := []) lk_X8_error_200 rfl (Nat.le_of_ble_eq_true rfl) (Nat.le_of_ble_eq_true rfl) rfl dX8_error_4 rfl hf (fun b2 y1 hf => sfX8_startRun b2 _ _ _ _ y1 hf) (fun b2 y1 _ _ hf => ?_)
  refine am_if_eq (tgt := 25) dX8_error_7 (by decide) rfl hf (fun hf => ?_) (fun hf => ?_)
  · refine am_sipush (v := -1001) dX8_error_25 (by decide) rfl ?_
    exact am_iret rfl dX8_error_28 hf
  refine am_aload_n dX8_error_10 rfl rfl ?_
  refine am_gr_ dX8_error_11 fl_X8_62 rfl hf (fun x3 _ hf => ?_)
  refine am_gr_ dX8_error_14 fl_X8_203 rfl hf (fun x4 _ hf => ?_)
  refine am_iload dX8_error_17 rfl rfl ?_
  refine am_cVi (As := [.int v4]) (st := []) lk_X8_error_206 rfl (Nat.le_of_ble_eq_true rfl) (Nat.le_of_ble_eq_true rfl) rfl dX8_error_19 rfl hf (fun b6 y5 hf => sfX0_hasBall b6 _ _ y5 hf) (fun b6 y5 _ _ hf => ?_)
  refine am_if_ne (tgt := 29) dX8_error_22 (by decide) rfl hf (fun hf => ?_) (fun hf => ?_)
  · refine am_aload_n dX8_error_29 rfl rfl ?_
    refine am_gr_ dX8_error_30 fl_X8_62 rfl hf (fun x7 _ hf => ?_)
    refine am_bipush (v := 96) dX8_error_33 (by decide) rfl ?_
    refine am_cVv (As := [.int (96 : Int32)]) (st := []) lk_X8_error_209 rfl (Nat.le_of_ble_eq_true rfl) (Nat.le_of_ble_eq_true rfl) rfl dX8_error_35 rfl hf (fun b9 y8 hf => sfX5_goOnTo b9 _ _ y8 hf) (fun b9 y8 _ _ hf => ?_)
    refine am_aload_n dX8_error_38 rfl rfl ?_
    refine am_gr_ dX8_error_39 fl_X8_62 rfl hf (fun x10 _ hf => ?_)
    refine am_iload dX8_error_42 rfl rfl ?_
    refine am_aload_n dX8_error_44 rfl rfl ?_
    refine am_iload_n dX8_error_45 rfl rfl ?_
    refine am_cVi (As := [.int v2]) (st := [.int v4, va_rf x10]) lk_X8_error_216 rfl (Nat.le_of_ble_eq_true rfl) (by simp only [List.map_cons, List.map_nil, am_c1, am_ci, am_cl]; exact Nat.le_of_ble_eq_true rfl) rfl dX8_error_46 rfl hf (fun b12 y11 hf => sfX8_daylightOf b12 _ _ y11 hf) (fun b12 y11 _ _ hf => ?_)
    refine am_cVi (As := [.int v4, .int y11.1]) (st := []) lk_X8_error_219 rfl (Nat.le_of_ble_eq_true rfl) (Nat.le_of_ble_eq_true rfl) rfl dX8_error_49 rfl hf (fun b14 y13 hf => sfX5_errorOf b14 _ _ _ y13 hf) (fun b14 y13 _ _ hf => ?_)
    exact am_iret rfl dX8_error_52 hf
  refine am_sipush (v := -1001) dX8_error_25 (by decide) rfl ?_
  exact am_iret rfl dX8_error_28 hf
set_option maxRecDepth 20000 in
set_option maxHeartbeats 4000000 in
theorem sfX5_errorSize {G : am_G}  (v0 : Nat) (v1 : Int32) (v2 : Int32) (h : am_H) (y : Int32 × am_H) (hf : fX5_errorSize v0 v1 v2 h = some y) : am_Cn G miX5_errorSize [va_rf (some v0), .int v1, .int v2] h (some (.int y.1)) y.2 := by
  refine am_beg (ls := [some (va_rf (some v0)), some (.int v1), some (.int v2)]) (by simp only [am_en, am_e1_r, am_e1_i, am_e1_l, am_e1_n]; rfl) ?_
  unfold fX5_errorSize at hf
  refine am_aload_n dX5_errorSize_0 rfl rfl ?_
  refine am_iload_n dX5_errorSize_1 rfl rfl ?_
  refine am_iload_n dX5_errorSize_2 rfl rfl ?_
  refine am_cVi (As := [.int v1, .int v2]) (st := []) lk_X5_errorSize_148 rfl (Nat.le_of_ble_eq_true rfl) (Nat.le_of_ble_eq_true rfl) rfl dX5_errorSize_3 rfl hf (fun b2 y1 hf => sfX5_errorOf b2 _ _ _ y1 hf) (fun b2 y1 _ _ hf => ?_)
  refine am_mabs ml_X5_151 st_abs in_Math co_abs (by decide) (Nat.le_of_ble_eq_true rfl) dX5_errorSize_6 rfl ?_
  exact am_iret rfl dX5_errorSize_9 hf
set_option maxRecDepth 20000 in
set_option maxHeartbeats 4000000 in
theorem sfX8_commonMeasure_7 {G : am_G}  : ∀ (n : Nat) (v2 : Int32) (v3 : Int32) (v4 : Int32) (h : am_H) (y : Int32 × am_H) (hf : fX8_commonMeasure_7  n v2 v3 v4 h = some y), am_S G miX8_commonMeasure 7 [none, none, some (.int v2), some (.int v3), some (.int v4), none] [] h (some (.int y.1)) y.2 := by
  intro n
  induction n with
  | zero => intro v2 v3 v4 h y hf; cases hf
  | succ n ih =>
    intro v2 v3 v4 h y hf
    have hf : fX8_commonMeasure_7_b  (fX8_commonMeasure_7  n) v2 v3 v4 h = some y := hf
    unfold fX8_commonMeasure_7_b at hf
    refine am_iload dX8_commonMeasure_7 rfl rfl ?_
    refine am_bipush (v := 100) dX8_commonMeasure_9 (by decide) rfl ?_
    refine am_icmp_ge (tgt := 34) dX8_commonMeasure_11 (by decide) rfl hf (fun hf => ?_) (fun hf => ?_)
    · refine am_iload_n dX8_commonMeasure_34 rfl rfl ?_
      exact am_iret rfl dX8_commonMeasure_35 hf
    refine am_iload_n dX8_commonMeasure_14 rfl rfl ?_
    refine am_if_le (tgt := 34) dX8_commonMeasure_15 (by decide) rfl hf (fun hf => ?_) (fun hf => ?_)
    · refine am_iload_n dX8_commonMeasure_34 rfl rfl ?_
      exact am_iret rfl dX8_commonMeasure_35 hf
    refine am_iload_n dX8_commonMeasure_18 rfl rfl ?_
    refine am_iload_n dX8_commonMeasure_19 rfl rfl ?_
    refine am_irem dX8_commonMeasure_20 rfl hf (fun hf => ?_)
    refine am_istore (ls' := [none, none, some (.int v2), some (.int v3), some (.int v4), some (.int (v2 - v2 / v3 * v3))]) dX8_commonMeasure_21 (by decide) rfl rfl ?_
    refine am_iload_n dX8_commonMeasure_23 rfl rfl ?_
    refine am_istore_n (ls' := [none, none, some (.int v3), some (.int v3), some (.int v4), some (.int (v2 - v2 / v3 * v3))]) dX8_commonMeasure_24 (by decide) rfl rfl ?_
    refine am_iload dX8_commonMeasure_25 rfl rfl ?_
    refine am_istore_n (ls' := [none, none, some (.int v3), some (.int (v2 - v2 / v3 * v3)), some (.int v4), some (.int (v2 - v2 / v3 * v3))]) dX8_commonMeasure_27 (by decide) rfl rfl ?_
    refine am_iinc (ls' := [none, none, some (.int v3), some (.int (v2 - v2 / v3 * v3)), some (.int (v4 + (1 : Int32))), some (.int (v2 - v2 / v3 * v3))]) dX8_commonMeasure_28 rfl rfl (by decide) rfl rfl ?_
    refine am_goto (pc' := 7) dX8_commonMeasure_31 (by decide) ?_
    exact am_we (ih _ _ _ _ _ hf) ⟨Or.inl rfl, Or.inl rfl, Or.inr rfl, Or.inr rfl, Or.inr rfl, Or.inl rfl, trivial⟩
set_option maxRecDepth 20000 in
set_option maxHeartbeats 4000000 in
theorem sfX8_commonMeasure {G : am_G}  (v0 : Int32) (v1 : Int32) (h : am_H) (y : Int32 × am_H) (hf : fX8_commonMeasure v0 v1 h = some y) : am_Cn G miX8_commonMeasure [.int v0, .int v1] h (some (.int y.1)) y.2 := by
  refine am_beg (ls := [some (.int v0), some (.int v1), none, none, none, none]) (by simp only [am_en, am_e1_r, am_e1_i, am_e1_l, am_e1_n]; rfl) ?_
  unfold fX8_commonMeasure at hf
  refine am_iload_n dX8_commonMeasure_0 rfl rfl ?_
  refine am_istore_n (ls' := [some (.int v0), some (.int v1), some (.int v0), none, none, none]) dX8_commonMeasure_1 (by decide) rfl rfl ?_
  refine am_iload_n dX8_commonMeasure_2 rfl rfl ?_
  refine am_istore_n (ls' := [some (.int v0), some (.int v1), some (.int v0), some (.int v1), none, none]) dX8_commonMeasure_3 (by decide) rfl rfl ?_
  refine am_iconst (v := 0) dX8_commonMeasure_4 rfl rfl ?_
  refine am_istore (ls' := [some (.int v0), some (.int v1), some (.int v0), some (.int v1), some (.int (0 : Int32)), none]) dX8_commonMeasure_5 (by decide) rfl rfl ?_
  exact am_we ((sfX8_commonMeasure_7 _) _ _ _ _ _ hf) ⟨Or.inl rfl, Or.inl rfl, Or.inr rfl, Or.inr rfl, Or.inr rfl, Or.inl rfl, trivial⟩
set_option maxRecDepth 20000 in
set_option maxHeartbeats 4000000 in
theorem sfX8_mean_105 {G : am_G}  (v5 : Int32) (v6 : Int32) (s0 : Int32) (h : am_H) (y : Int32 × am_H) (hf : fX8_mean_105  v5 v6 s0 h = some y) : am_S G miX8_mean 105 [none, none, none, none, none, some (.int v5), some (.int v6)] [.int s0] h (some (.int y.1)) y.2 := by
  unfold fX8_mean_105 at hf
  refine am_iload dX8_mean_105 rfl rfl ?_
  refine am_iload dX8_mean_107 rfl rfl ?_
  refine am_cSi (As := [.int v5, .int v6]) (st := [.int s0]) lk_X8_mean_235 rfl (Nat.le_of_ble_eq_true rfl) (Nat.le_of_ble_eq_true rfl) rfl dX8_mean_109 rfl hf (fun y1 hf => sfX8_commonMeasure _ _ _ y1 hf) (fun y1 _ hf => ?_)
  refine am_cSi (As := [.int s0, .int y1.1]) (st := []) lk_X8_mean_238 rfl (Nat.le_of_ble_eq_true rfl) (Nat.le_of_ble_eq_true rfl) rfl dX8_mean_112 rfl hf (fun y2 hf => sfX8_quotient _ _ _ y2 hf) (fun y2 _ hf => ?_)
  exact am_iret rfl dX8_mean_115 hf
set_option maxRecDepth 20000 in
set_option maxHeartbeats 4000000 in
theorem sfX8_mean_41 {G : am_G}  : ∀ (n : Nat) (v0 : Option Nat) (v2 : Int32) (v4 : Int32) (v5 : Int32) (v6 : Int32) (h : am_H) (y : Int32 × am_H) (hf : fX8_mean_41  n v0 v2 v4 v5 v6 h = some y), am_S G miX8_mean 41 [some (va_rf v0), none, some (.int v2), none, some (.int v4), some (.int v5), some (.int v6)] [] h (some (.int y.1)) y.2 := by
  intro n
  induction n with
  | zero => intro v0 v2 v4 v5 v6 h y hf; cases hf
  | succ n ih =>
    intro v0 v2 v4 v5 v6 h y hf
    have hf : fX8_mean_41_b  (fX8_mean_41  n) v0 v2 v4 v5 v6 h = some y := hf
    unfold fX8_mean_41_b at hf
    refine am_iload dX8_mean_41 rfl rfl ?_
    refine am_aload_n dX8_mean_43 rfl rfl ?_
    refine am_gr_ dX8_mean_44 fl_X8_62 rfl hf (fun x1 _ hf => ?_)
    refine am_gr_ dX8_mean_47 fl_X8_203 rfl hf (fun x2 _ hf => ?_)
    refine am_gi_ dX8_mean_50 fl_X8_229 rfl hf (fun x3 _ hf => ?_)
    refine am_icmp_ge (tgt := 81) dX8_mean_53 (by decide) rfl hf (fun hf => ?_) (fun hf => ?_)
    · refine am_aload_n dX8_mean_81 rfl rfl ?_
      refine am_gr_ dX8_mean_82 fl_X8_62 rfl hf (fun x4 _ hf => ?_)
      refine am_gr_ dX8_mean_85 fl_X8_203 rfl hf (fun x5 _ hf => ?_)
      refine am_gi_ dX8_mean_88 fl_X8_229 rfl hf (fun x6 _ hf => ?_)
      refine am_istore (ls' := [some (va_rf v0), none, some (.int v2), none, some (.int v4), some (.int v5), some (.int x6)]) dX8_mean_91 (by decide) rfl rfl ?_
      refine am_iload dX8_mean_93 rfl rfl ?_
      refine am_if_ne (tgt := 103) dX8_mean_95 (by decide) rfl hf (fun hf => ?_) (fun hf => ?_)
      · refine am_iload dX8_mean_103 rfl rfl ?_
        exact am_we (sfX8_mean_105 _ _ _ _ _ hf) ⟨Or.inl rfl, Or.inl rfl, Or.inl rfl, Or.inl rfl, Or.inl rfl, Or.inr rfl, Or.inr rfl, trivial⟩
      refine am_iload dX8_mean_98 rfl rfl ?_
      refine am_goto (pc' := 105) dX8_mean_100 (by decide) ?_
      exact am_we (sfX8_mean_105 _ _ _ _ _ hf) ⟨Or.inl rfl, Or.inl rfl, Or.inl rfl, Or.inl rfl, Or.inl rfl, Or.inr rfl, Or.inr rfl, trivial⟩
    refine am_iload dX8_mean_56 rfl rfl ?_
    refine am_aload_n dX8_mean_58 rfl rfl ?_
    refine am_gr_ dX8_mean_59 fl_X8_62 rfl hf (fun x7 _ hf => ?_)
    refine am_iload dX8_mean_62 rfl rfl ?_
    refine am_aload_n dX8_mean_64 rfl rfl ?_
    refine am_iload_n dX8_mean_65 rfl rfl ?_
    refine am_cVi (As := [.int v2]) (st := [.int v6, va_rf x7, .int v5]) lk_X8_mean_216 rfl (Nat.le_of_ble_eq_true rfl) (by simp only [List.map_cons, List.map_nil, am_c1, am_ci, am_cl]; exact Nat.le_of_ble_eq_true rfl) rfl dX8_mean_66 rfl hf (fun b9 y8 hf => sfX8_daylightOf b9 _ _ y8 hf) (fun b9 y8 _ _ hf => ?_)
    refine am_cVi (As := [.int v6, .int y8.1]) (st := [.int v5]) lk_X8_mean_232 rfl (Nat.le_of_ble_eq_true rfl) (Nat.le_of_ble_eq_true rfl) rfl dX8_mean_69 rfl hf (fun b11 y10 hf => sfX5_errorSize b11 _ _ _ y10 hf) (fun b11 y10 _ _ hf => ?_)
    refine am_iadd dX8_mean_72 rfl ?_
    refine am_istore (ls' := [some (va_rf v0), none, some (.int v2), none, some (.int v4), some (.int (v5 + y10.1)), some (.int v6)]) dX8_mean_73 (by decide) rfl rfl ?_
    refine am_iinc (ls' := [some (va_rf v0), none, some (.int v2), none, some (.int v4), some (.int (v5 + y10.1)), some (.int (v6 + (1 : Int32)))]) dX8_mean_75 rfl rfl (by decide) rfl rfl ?_
    refine am_goto (pc' := 41) dX8_mean_78 (by decide) ?_
    exact ih _ _ _ _ _ _ _ hf
set_option maxRecDepth 20000 in
set_option maxHeartbeats 4000000 in
theorem sfX8_mean {G : am_G}  (v0 : Nat) (v1 : Int32) (v2 : Int32) (v3 : Int32) (v4 : Int32) (h : am_H) (y : Int32 × am_H) (hf : fX8_mean v0 v1 v2 v3 v4 h = some y) : am_Cn G miX8_mean [va_rf (some v0), .int v1, .int v2, .int v3, .int v4] h (some (.int y.1)) y.2 := by
  refine am_beg (ls := [some (va_rf (some v0)), some (.int v1), some (.int v2), some (.int v3), some (.int v4), none, none]) (by simp only [am_en, am_e1_r, am_e1_i, am_e1_l, am_e1_n]; rfl) ?_
  unfold fX8_mean at hf
  refine am_aload_n dX8_mean_0 rfl rfl ?_
  refine am_iload_n dX8_mean_1 rfl rfl ?_
  refine am_iload_n dX8_mean_2 rfl rfl ?_
  refine am_iload_n dX8_mean_3 rfl rfl ?_
  refine am_cVi (As := [.int v1, .int v2, .int v3]) (st := []) lk_X8_mean_200 rfl (Nat.le_of_ble_eq_true rfl) (Nat.le_of_ble_eq_true rfl) rfl dX8_mean_4 rfl hf (fun b2 y1 hf => sfX8_startRun b2 _ _ _ _ y1 hf) (fun b2 y1 _ _ hf => ?_)
  refine am_if_ne (tgt := 13) dX8_mean_7 (by decide) rfl hf (fun hf => ?_) (fun hf => ?_)
  · refine am_iload dX8_mean_13 rfl rfl ?_
    refine am_iconst (v := 0) dX8_mean_15 rfl rfl ?_
    refine am_iconst (v := 1) dX8_mean_16 rfl rfl ?_
    refine am_cSi (As := [.int v4, .int (0 : Int32), .int (1 : Int32)]) (st := []) lk_X8_mean_121 rfl (Nat.le_of_ble_eq_true rfl) (Nat.le_of_ble_eq_true rfl) rfl dX8_mean_17 rfl hf (fun y3 hf => sfX8_isIn _ _ _ _ y3 hf) (fun y3 _ hf => ?_)
    refine am_if_ne (tgt := 26) dX8_mean_20 (by decide) rfl hf (fun hf => ?_) (fun hf => ?_)
    · refine am_aload_n dX8_mean_26 rfl rfl ?_
      refine am_gr_ dX8_mean_27 fl_X8_62 rfl hf (fun x4 _ hf => ?_)
      refine am_bipush (v := 96) dX8_mean_30 (by decide) rfl ?_
      refine am_cVv (As := [.int (96 : Int32)]) (st := []) lk_X8_mean_209 rfl (Nat.le_of_ble_eq_true rfl) (Nat.le_of_ble_eq_true rfl) rfl dX8_mean_32 rfl hf (fun b6 y5 hf => sfX5_goOnTo b6 _ _ y5 hf) (fun b6 y5 _ _ hf => ?_)
      refine am_iconst (v := 0) dX8_mean_35 rfl rfl ?_
      refine am_istore (ls' := [some (va_rf (some v0)), some (.int v1), some (.int v2), some (.int v3), some (.int v4), some (.int (0 : Int32)), none]) dX8_mean_36 (by decide) rfl rfl ?_
      refine am_iconst (v := 0) dX8_mean_38 rfl rfl ?_
      refine am_istore (ls' := [some (va_rf (some v0)), some (.int v1), some (.int v2), some (.int v3), some (.int v4), some (.int (0 : Int32)), some (.int (0 : Int32))]) dX8_mean_39 (by decide) rfl rfl ?_
      exact am_we ((sfX8_mean_41 _) _ _ _ _ _ _ _ hf) ⟨Or.inr rfl, Or.inl rfl, Or.inr rfl, Or.inl rfl, Or.inr rfl, Or.inr rfl, Or.inr rfl, trivial⟩
    refine am_bipush (v := -102) dX8_mean_23 (by decide) rfl ?_
    exact am_iret rfl dX8_mean_25 hf
  refine am_bipush (v := -101) dX8_mean_10 (by decide) rfl ?_
  exact am_iret rfl dX8_mean_12 hf
set_option maxRecDepth 20000 in
set_option maxHeartbeats 4000000 in
theorem sfX4_start_2 {G : am_G}  : ∀ (n : Nat) (v0 : Option Nat) (v1 : Int32) (h : am_H) (y : am_H) (hf : fX4_start_2  n v0 v1 h = some y), am_S G miX4_start 2 [some (va_rf v0), some (.int v1)] [] h none y := by
  intro n
  induction n with
  | zero => intro v0 v1 h y hf; cases hf
  | succ n ih =>
    intro v0 v1 h y hf
    have hf : fX4_start_2_b  (fX4_start_2  n) v0 v1 h = some y := hf
    unfold fX4_start_2_b at hf
    refine am_iload_n dX4_start_2 rfl rfl ?_
    refine am_bipush (v := 10) dX4_start_3 (by decide) rfl ?_
    refine am_icmp_ge (tgt := 28) dX4_start_5 (by decide) rfl hf (fun hf => ?_) (fun hf => ?_)
    · refine am_aload_n dX4_start_28 rfl rfl ?_
      refine am_gr_ dX4_start_29 fl_X4_19 rfl hf (fun x1 _ hf => ?_)
      refine am_iconst (v := 0) dX4_start_32 rfl rfl ?_
      refine am_cSv (As := [va_rf x1, .int (0 : Int32)]) (st := []) lk_X4_start_34 rfl (by simp only [am_e1_r, am_e1_i, am_e1_l, am_e1_n]; exact Nat.le_of_ble_eq_true rfl) (Nat.le_of_ble_eq_true rfl) rfl dX4_start_33 rfl hf (fun y2 hf => sfJ7_fill_53178 _ _ _ y2 hf) (fun y2 _ hf => ?_)
      refine am_aload_n dX4_start_36 rfl rfl ?_
      refine am_gr_ dX4_start_37 fl_X4_31 rfl hf (fun x3 _ hf => ?_)
      refine am_iconst (v := -1) dX4_start_40 rfl rfl ?_
      refine am_cSv (As := [va_rf x3, .int (-1 : Int32)]) (st := []) lk_X4_start_34 rfl (by simp only [am_e1_r, am_e1_i, am_e1_l, am_e1_n]; exact Nat.le_of_ble_eq_true rfl) (Nat.le_of_ble_eq_true rfl) rfl dX4_start_41 rfl hf (fun y4 hf => sfJ7_fill_53178 _ _ _ y4 hf) (fun y4 _ hf => ?_)
      refine am_aload_n dX4_start_44 rfl rfl ?_
      refine am_iconst (v := 0) dX4_start_45 rfl rfl ?_
      refine am_pi_ dX4_start_46 fl_X4_40 fp_4_5 (fun z => by cases z) rfl hf (fun h5 _ hf => ?_)
      refine am_aload_n dX4_start_49 rfl rfl ?_
      refine am_iconst (v := 0) dX4_start_50 rfl rfl ?_
      refine am_pi_ dX4_start_51 fl_X4_44 fp_4_7 (fun z => by cases z) rfl hf (fun h6 _ hf => ?_)
      refine am_aload_n dX4_start_54 rfl rfl ?_
      refine am_iconst (v := 0) dX4_start_55 rfl rfl ?_
      refine am_pi_ dX4_start_56 fl_X4_47 fp_4_8 (fun z => by cases z) rfl hf (fun h7 _ hf => ?_)
      refine am_aload_n dX4_start_59 rfl rfl ?_
      refine am_iconst (v := 0) dX4_start_60 rfl rfl ?_
      refine am_pi_ dX4_start_61 fl_X4_50 fp_4_9 (fun z => by cases z) rfl hf (fun h8 _ hf => ?_)
      refine am_aload_n dX4_start_64 rfl rfl ?_
      refine am_iconst (v := -1) dX4_start_65 rfl rfl ?_
      refine am_pi_ dX4_start_66 fl_X4_53 fp_4_10 (fun z => by cases z) rfl hf (fun h9 _ hf => ?_)
      refine am_aload_n dX4_start_69 rfl rfl ?_
      refine am_iconst (v := -1) dX4_start_70 rfl rfl ?_
      refine am_pi_ dX4_start_71 fl_X4_56 fp_4_11 (fun z => by cases z) rfl hf (fun h10 _ hf => ?_)
      exact am_vret rfl dX4_start_74 hf
    refine am_aload_n dX4_start_8 rfl rfl ?_
    refine am_gr_ dX4_start_9 fl_X4_9 rfl hf (fun x11 _ hf => ?_)
    refine am_iload_n dX4_start_12 rfl rfl ?_
    refine am_iconst (v := 0) dX4_start_13 rfl rfl ?_
    refine am_iast dX4_start_14 rfl hf (fun h12 _ hf => ?_)
    refine am_aload_n dX4_start_15 rfl rfl ?_
    refine am_gr_ dX4_start_16 fl_X4_15 rfl hf (fun x13 _ hf => ?_)
    refine am_iload_n dX4_start_19 rfl rfl ?_
    refine am_iconst (v := 0) dX4_start_20 rfl rfl ?_
    refine am_zast dX4_start_21 rfl hf (fun h14 _ hf => ?_)
    refine am_iinc (ls' := [some (va_rf v0), some (.int (v1 + (1 : Int32)))]) dX4_start_22 rfl rfl (by decide) (am_s1_r (j := 0) rfl rfl) rfl ?_
    refine am_goto (pc' := 2) dX4_start_25 (by decide) ?_
    exact ih _ _ _ _ hf
set_option maxRecDepth 20000 in
set_option maxHeartbeats 4000000 in
theorem sfX4_start {G : am_G}  (v0 : Nat) (h : am_H) (y : am_H) (hf : fX4_start v0 h = some y) : am_Cn G miX4_start [va_rf (some v0)] h none y := by
  refine am_beg (ls := [some (va_rf (some v0)), none]) (by simp only [am_en, am_e1_r, am_e1_i, am_e1_l, am_e1_n]; rfl) ?_
  unfold fX4_start at hf
  refine am_iconst (v := 0) dX4_start_0 rfl rfl ?_
  refine am_istore_n (ls' := [some (va_rf (some v0)), some (.int (0 : Int32))]) dX4_start_1 (by decide) (am_s1_r (j := 0) rfl rfl) rfl ?_
  exact (sfX4_start_2 _) _ _ _ _ hf
set_option maxRecDepth 20000 in
set_option maxHeartbeats 4000000 in
theorem sfX4_comesOut_98 {G : am_G}  (s0 : Option Nat) (s1 : Int32) (h : am_H) (y : Int32 × am_H) (hf : fX4_comesOut_98  s0 s1 h = some y) : am_S G miX4_comesOut 98 [none, none, none, none, none] [.int s1, va_rf s0] h (some (.int y.1)) y.2 := by
  unfold fX4_comesOut_98 at hf
  refine am_pi_ dX4_comesOut_98 fl_X4_53 fp_4_10 (fun z => by cases z) rfl hf (fun h1 _ hf => ?_)
  refine am_iconst (v := 0) dX4_comesOut_101 rfl rfl ?_
  exact am_zret rfl dX4_comesOut_102 hf
set_option maxRecDepth 20000 in
set_option maxHeartbeats 4000000 in
theorem sfX4_comesOut_132 {G : am_G}  (v0 : Option Nat) (h : am_H) (y : Int32 × am_H) (hf : fX4_comesOut_132  v0 h = some y) : am_S G miX4_comesOut 132 [some (va_rf v0), none, none, none, none] [] h (some (.int y.1)) y.2 := by
  unfold fX4_comesOut_132 at hf
  refine am_aload_n dX4_comesOut_132 rfl rfl ?_
  refine am_dup dX4_comesOut_133 (am_c1 _) rfl ?_
  refine am_gi_ dX4_comesOut_134 fl_X4_44 rfl hf (fun x1 _ hf => ?_)
  refine am_iconst (v := 1) dX4_comesOut_137 rfl rfl ?_
  refine am_iadd dX4_comesOut_138 rfl ?_
  refine am_pi_ dX4_comesOut_139 fl_X4_44 fp_4_7 (fun z => by cases z) rfl hf (fun h2 _ hf => ?_)
  refine am_iconst (v := 1) dX4_comesOut_142 rfl rfl ?_
  exact am_zret rfl dX4_comesOut_143 hf
set_option maxRecDepth 20000 in
set_option maxHeartbeats 4000000 in
theorem sfX4_comesOut_78 {G : am_G}  (v0 : Option Nat) (v3 : Int32) (s0 : Option Nat) (s1 : Int32) (h : am_H) (y : Int32 × am_H) (hf : fX4_comesOut_78  v0 v3 s0 s1 h = some y) : am_S G miX4_comesOut 78 [some (va_rf v0), none, none, some (.int v3), none] [.int s1, va_rf s0] h (some (.int y.1)) y.2 := by
  unfold fX4_comesOut_78 at hf
  refine am_pi_ dX4_comesOut_78 fl_X4_56 fp_4_11 (fun z => by cases z) rfl hf (fun h1 _ hf => ?_)
  refine am_aload_n dX4_comesOut_81 rfl rfl ?_
  refine am_aload_n dX4_comesOut_82 rfl rfl ?_
  refine am_gi_ dX4_comesOut_83 fl_X4_53 rfl hf (fun x2 _ hf => ?_)
  refine am_iconst (v := -1) dX4_comesOut_86 rfl rfl ?_
  refine am_icmp_ne (tgt := 94) dX4_comesOut_87 (by decide) rfl hf (fun hf => ?_) (fun hf => ?_)
  · refine am_aload_n dX4_comesOut_94 rfl rfl ?_
    refine am_gi_ dX4_comesOut_95 fl_X4_53 rfl hf (fun x3 _ hf => ?_)
    exact am_we (sfX4_comesOut_98 _ _ _ _ hf) ⟨Or.inl rfl, Or.inl rfl, Or.inl rfl, Or.inl rfl, Or.inl rfl, trivial⟩
  refine am_iload_n dX4_comesOut_90 rfl rfl ?_
  refine am_goto (pc' := 98) dX4_comesOut_91 (by decide) ?_
  exact am_we (sfX4_comesOut_98 _ _ _ _ hf) ⟨Or.inl rfl, Or.inl rfl, Or.inl rfl, Or.inl rfl, Or.inl rfl, trivial⟩
set_option maxRecDepth 20000 in
set_option maxHeartbeats 4000000 in
theorem sfX4_comesOut {G : am_G}  (v0 : Nat) (v1 : Option Nat) (v2 : Int32) (h : am_H) (y : Int32 × am_H) (hf : fX4_comesOut v0 v1 v2 h = some y) : am_Cn G miX4_comesOut [va_rf (some v0), va_rf v1, .int v2] h (some (.int y.1)) y.2 := by
  refine am_beg (ls := [some (va_rf (some v0)), some (va_rf v1), some (.int v2), none, none]) (by simp only [am_en, am_e1_r, am_e1_i, am_e1_l, am_e1_n]; rfl) ?_
  unfold fX4_comesOut at hf
  refine am_aload_n dX4_comesOut_0 rfl rfl ?_
  refine am_gi_ dX4_comesOut_1 fl_X4_87 rfl hf (fun x1 _ hf => ?_)
  refine am_istore_n (ls' := [some (va_rf (some v0)), some (va_rf v1), some (.int v2), some (.int x1), none]) dX4_comesOut_4 (by decide) rfl rfl ?_
  refine am_aload_n dX4_comesOut_5 rfl rfl ?_
  refine am_gi_ dX4_comesOut_6 fl_X4_74 rfl hf (fun x2 _ hf => ?_)
  refine am_istore (ls' := [some (va_rf (some v0)), some (va_rf v1), some (.int v2), some (.int x1), some (.int x2)]) dX4_comesOut_9 (by decide) rfl rfl ?_
  refine am_iload_n dX4_comesOut_11 rfl rfl ?_
  refine am_if_lt (tgt := 41) dX4_comesOut_12 (by decide) rfl hf (fun hf => ?_) (fun hf => ?_)
  · refine am_iconst (v := 0) dX4_comesOut_41 rfl rfl ?_
    exact am_zret rfl dX4_comesOut_42 hf
  refine am_iload_n dX4_comesOut_15 rfl rfl ?_
  refine am_bipush (v := 10) dX4_comesOut_16 (by decide) rfl ?_
  refine am_icmp_ge (tgt := 41) dX4_comesOut_18 (by decide) rfl hf (fun hf => ?_) (fun hf => ?_)
  · refine am_iconst (v := 0) dX4_comesOut_41 rfl rfl ?_
    exact am_zret rfl dX4_comesOut_42 hf
  refine am_iload dX4_comesOut_21 rfl rfl ?_
  refine am_if_lt (tgt := 41) dX4_comesOut_23 (by decide) rfl hf (fun hf => ?_) (fun hf => ?_)
  · refine am_iconst (v := 0) dX4_comesOut_41 rfl rfl ?_
    exact am_zret rfl dX4_comesOut_42 hf
  refine am_iload dX4_comesOut_26 rfl rfl ?_
  refine am_iconst (v := 4) dX4_comesOut_28 rfl rfl ?_
  refine am_icmp_ge (tgt := 41) dX4_comesOut_29 (by decide) rfl hf (fun hf => ?_) (fun hf => ?_)
  · refine am_iconst (v := 0) dX4_comesOut_41 rfl rfl ?_
    exact am_zret rfl dX4_comesOut_42 hf
  refine am_aload_n dX4_comesOut_32 rfl rfl ?_
  refine am_gr_ dX4_comesOut_33 fl_X4_15 rfl hf (fun x3 _ hf => ?_)
  refine am_iload_n dX4_comesOut_36 rfl rfl ?_
  refine am_zald dX4_comesOut_37 rfl hf (fun x4 _ hf => ?_)
  refine am_if_eq (tgt := 43) dX4_comesOut_38 (by decide) rfl hf (fun hf => ?_) (fun hf => ?_)
  · refine am_iload_n dX4_comesOut_43 rfl rfl ?_
    refine am_aload_n dX4_comesOut_44 rfl rfl ?_
    refine am_gr_ dX4_comesOut_45 fl_X4_19 rfl hf (fun x5 _ hf => ?_)
    refine am_iload dX4_comesOut_48 rfl rfl ?_
    refine am_iald dX4_comesOut_50 rfl hf (fun x6 _ hf => ?_)
    refine am_icmp_ge (tgt := 103) dX4_comesOut_51 (by decide) rfl hf (fun hf => ?_) (fun hf => ?_)
    · refine am_aload_n dX4_comesOut_103 rfl rfl ?_
      refine am_gr_ dX4_comesOut_104 fl_X4_19 rfl hf (fun x7 _ hf => ?_)
      refine am_iload dX4_comesOut_107 rfl rfl ?_
      refine am_iload_n dX4_comesOut_109 rfl rfl ?_
      refine am_iconst (v := 3) dX4_comesOut_110 rfl rfl ?_
      refine am_iadd dX4_comesOut_111 rfl ?_
      refine am_iast dX4_comesOut_112 rfl hf (fun h8 _ hf => ?_)
      refine am_aload_n dX4_comesOut_113 rfl rfl ?_
      refine am_gi_ dX4_comesOut_114 fl_X4_44 rfl hf (fun x9 _ hf => ?_)
      refine am_bipush (v := 20) dX4_comesOut_117 (by decide) rfl ?_
      refine am_icmp_ge (tgt := 132) dX4_comesOut_119 (by decide) rfl hf (fun hf => ?_) (fun hf => ?_)
      · exact am_we (sfX4_comesOut_132 _ _ _ hf) ⟨Or.inr rfl, Or.inl rfl, Or.inl rfl, Or.inl rfl, Or.inl rfl, trivial⟩
      refine am_aload_n dX4_comesOut_122 rfl rfl ?_
      refine am_gr_ dX4_comesOut_123 fl_X4_31 rfl hf (fun x10 _ hf => ?_)
      refine am_aload_n dX4_comesOut_126 rfl rfl ?_
      refine am_gi_ dX4_comesOut_127 fl_X4_44 rfl hf (fun x11 _ hf => ?_)
      refine am_iload_n dX4_comesOut_130 rfl rfl ?_
      refine am_iast dX4_comesOut_131 rfl hf (fun h12 _ hf => ?_)
      exact am_we (sfX4_comesOut_132 _ _ _ hf) ⟨Or.inr rfl, Or.inl rfl, Or.inl rfl, Or.inl rfl, Or.inl rfl, trivial⟩
    refine am_aload_n dX4_comesOut_54 rfl rfl ?_
    refine am_gr_ dX4_comesOut_55 fl_X4_15 rfl hf (fun x13 _ hf => ?_)
    refine am_iload_n dX4_comesOut_58 rfl rfl ?_
    refine am_iconst (v := 1) dX4_comesOut_59 rfl rfl ?_
    refine am_zast dX4_comesOut_60 rfl hf (fun h14 _ hf => ?_)
    refine am_aload_n dX4_comesOut_61 rfl rfl ?_
    refine am_aload_n dX4_comesOut_62 rfl rfl ?_
    refine am_gi_ dX4_comesOut_63 fl_X4_53 rfl hf (fun x15 _ hf => ?_)
    refine am_iconst (v := -1) dX4_comesOut_66 rfl rfl ?_
    refine am_icmp_ne (tgt := 74) dX4_comesOut_67 (by decide) rfl hf (fun hf => ?_) (fun hf => ?_)
    · refine am_aload_n dX4_comesOut_74 rfl rfl ?_
      refine am_gi_ dX4_comesOut_75 fl_X4_56 rfl hf (fun x16 _ hf => ?_)
      exact am_we (sfX4_comesOut_78 _ _ _ _ _ _ hf) ⟨Or.inr rfl, Or.inl rfl, Or.inl rfl, Or.inr rfl, Or.inl rfl, trivial⟩
    refine am_iload_n dX4_comesOut_70 rfl rfl ?_
    refine am_goto (pc' := 78) dX4_comesOut_71 (by decide) ?_
    exact am_we (sfX4_comesOut_78 _ _ _ _ _ _ hf) ⟨Or.inr rfl, Or.inl rfl, Or.inl rfl, Or.inr rfl, Or.inl rfl, trivial⟩
  refine am_iconst (v := 0) dX4_comesOut_41 rfl rfl ?_
  exact am_zret rfl dX4_comesOut_42 hf
set_option maxRecDepth 20000 in
set_option maxHeartbeats 4000000 in
theorem sfX4_turn {G : am_G}  (v0 : Nat) (v1 : Option Nat) (v2 : Int32) (h : am_H) (y : am_H) (hf : fX4_turn v0 v1 v2 h = some y) : am_Cn G miX4_turn [va_rf (some v0), va_rf v1, .int v2] h none y := by
  refine am_beg (ls := [some (va_rf (some v0)), some (va_rf v1), some (.int v2)]) (by simp only [am_en, am_e1_r, am_e1_i, am_e1_l, am_e1_n]; rfl) ?_
  unfold fX4_turn at hf
  refine am_aload_n dX4_turn_0 rfl rfl ?_
  refine am_gi_ dX4_turn_1 fl_X4_40 rfl hf (fun x1 _ hf => ?_)
  refine am_aload_n dX4_turn_4 rfl rfl ?_
  refine am_gr_ dX4_turn_5 fl_X4_24 rfl hf (fun x2 _ hf => ?_)
  refine am_an_ dX4_turn_8 rfl hf (fun x3 _ hf => ?_)
  refine am_icmp_ge (tgt := 59) dX4_turn_9 (by decide) rfl hf (fun hf => ?_) (fun hf => ?_)
  · exact am_vret rfl dX4_turn_59 hf
  refine am_aload_n dX4_turn_12 rfl rfl ?_
  refine am_gi_ dX4_turn_13 fl_X4_40 rfl hf (fun x4 _ hf => ?_)
  refine am_aload_n dX4_turn_16 rfl rfl ?_
  refine am_gr_ dX4_turn_17 fl_X4_28 rfl hf (fun x5 _ hf => ?_)
  refine am_an_ dX4_turn_20 rfl hf (fun x6 _ hf => ?_)
  refine am_icmp_ge (tgt := 59) dX4_turn_21 (by decide) rfl hf (fun hf => ?_) (fun hf => ?_)
  · exact am_vret rfl dX4_turn_59 hf
  refine am_aload_n dX4_turn_24 rfl rfl ?_
  refine am_gr_ dX4_turn_25 fl_X4_24 rfl hf (fun x7 _ hf => ?_)
  refine am_aload_n dX4_turn_28 rfl rfl ?_
  refine am_gi_ dX4_turn_29 fl_X4_40 rfl hf (fun x8 _ hf => ?_)
  refine am_aload_n dX4_turn_32 rfl rfl ?_
  refine am_asr_ (t := 6) rfl rfl (by decide) dX4_turn_33 rfl hf (fun h9 _ hf => ?_)
  refine am_aload_n dX4_turn_34 rfl rfl ?_
  refine am_gr_ dX4_turn_35 fl_X4_28 rfl hf (fun x10 _ hf => ?_)
  refine am_aload_n dX4_turn_38 rfl rfl ?_
  refine am_gi_ dX4_turn_39 fl_X4_40 rfl hf (fun x11 _ hf => ?_)
  refine am_iload_n dX4_turn_42 rfl rfl ?_
  refine am_aload_n dX4_turn_43 rfl rfl ?_
  refine am_gi_ dX4_turn_44 fl_X4_74 rfl hf (fun x12 _ hf => ?_)
  refine am_iadd dX4_turn_47 rfl ?_
  refine am_iast dX4_turn_48 rfl hf (fun h13 _ hf => ?_)
  refine am_aload_n dX4_turn_49 rfl rfl ?_
  refine am_dup dX4_turn_50 (am_c1 _) rfl ?_
  refine am_gi_ dX4_turn_51 fl_X4_40 rfl hf (fun x14 _ hf => ?_)
  refine am_iconst (v := 1) dX4_turn_54 rfl rfl ?_
  refine am_iadd dX4_turn_55 rfl ?_
  refine am_pi_ dX4_turn_56 fl_X4_40 fp_4_5 (fun z => by cases z) rfl hf (fun h15 _ hf => ?_)
  exact am_vret rfl dX4_turn_59 hf
set_option maxRecDepth 20000 in
set_option maxHeartbeats 4000000 in
theorem sfX4_isCountedOut {G : am_G}  (v0 : Nat) (v1 : Option Nat) (h : am_H) (y : Int32 × am_H) (hf : fX4_isCountedOut v0 v1 h = some y) : am_Cn G miX4_isCountedOut [va_rf (some v0), va_rf v1] h (some (.int y.1)) y.2 := by
  refine am_beg (ls := [some (va_rf (some v0)), some (va_rf v1), none]) (by simp only [am_en, am_e1_r, am_e1_i, am_e1_l, am_e1_n]; rfl) ?_
  unfold fX4_isCountedOut at hf
  refine am_aload_n dX4_isCountedOut_0 rfl rfl ?_
  refine am_gi_ dX4_isCountedOut_1 fl_X4_87 rfl hf (fun x1 _ hf => ?_)
  refine am_istore_n (ls' := [some (va_rf (some v0)), some (va_rf v1), some (.int x1)]) dX4_isCountedOut_4 (by decide) (am_s1_r (j := 1) rfl rfl) rfl ?_
  refine am_iload_n dX4_isCountedOut_5 rfl rfl ?_
  refine am_if_lt (tgt := 23) dX4_isCountedOut_6 (by decide) rfl hf (fun hf => ?_) (fun hf => ?_)
  · refine am_iconst (v := 0) dX4_isCountedOut_23 rfl rfl ?_
    exact am_zret rfl dX4_isCountedOut_24 hf
  refine am_iload_n dX4_isCountedOut_9 rfl rfl ?_
  refine am_bipush (v := 10) dX4_isCountedOut_10 (by decide) rfl ?_
  refine am_icmp_ge (tgt := 23) dX4_isCountedOut_12 (by decide) rfl hf (fun hf => ?_) (fun hf => ?_)
  · refine am_iconst (v := 0) dX4_isCountedOut_23 rfl rfl ?_
    exact am_zret rfl dX4_isCountedOut_24 hf
  refine am_aload_n dX4_isCountedOut_15 rfl rfl ?_
  refine am_gi_ dX4_isCountedOut_16 fl_X4_74 rfl hf (fun x2 _ hf => ?_)
  refine am_iconst (v := 1) dX4_isCountedOut_19 rfl rfl ?_
  refine am_icmp_ge (tgt := 25) dX4_isCountedOut_20 (by decide) rfl hf (fun hf => ?_) (fun hf => ?_)
  · refine am_aload_n dX4_isCountedOut_25 rfl rfl ?_
    refine am_gr_ dX4_isCountedOut_26 fl_X4_9 rfl hf (fun x3 _ hf => ?_)
    refine am_iload_n dX4_isCountedOut_29 rfl rfl ?_
    refine am_dup2 dX4_isCountedOut_30 (rfl) (am_c1 _) rfl ?_
    refine am_iald dX4_isCountedOut_31 rfl hf (fun x4 _ hf => ?_)
    refine am_iconst (v := 1) dX4_isCountedOut_32 rfl rfl ?_
    refine am_iadd dX4_isCountedOut_33 rfl ?_
    refine am_iast dX4_isCountedOut_34 rfl hf (fun h5 _ hf => ?_)
    refine am_aload_n dX4_isCountedOut_35 rfl rfl ?_
    refine am_gr_ dX4_isCountedOut_36 fl_X4_9 rfl hf (fun x6 _ hf => ?_)
    refine am_iload_n dX4_isCountedOut_39 rfl rfl ?_
    refine am_iald dX4_isCountedOut_40 rfl hf (fun x7 _ hf => ?_)
    refine am_aload_n dX4_isCountedOut_41 rfl rfl ?_
    refine am_gi_ dX4_isCountedOut_42 fl_X4_74 rfl hf (fun x8 _ hf => ?_)
    refine am_irem dX4_isCountedOut_45 rfl hf (fun hf => ?_)
    refine am_if_ne (tgt := 53) dX4_isCountedOut_46 (by decide) rfl hf (fun hf => ?_) (fun hf => ?_)
    · refine am_iconst (v := 0) dX4_isCountedOut_53 rfl rfl ?_
      exact am_zret rfl dX4_isCountedOut_54 hf
    refine am_iconst (v := 1) dX4_isCountedOut_49 rfl rfl ?_
    refine am_goto (pc' := 54) dX4_isCountedOut_50 (by decide) ?_
    exact am_zret rfl dX4_isCountedOut_54 hf
  refine am_iconst (v := 0) dX4_isCountedOut_23 rfl rfl ?_
  exact am_zret rfl dX4_isCountedOut_24 hf
set_option maxRecDepth 20000 in
set_option maxHeartbeats 4000000 in
theorem sfX4_strikesOn {G : am_G}  (v0 : Nat) (v1 : Option Nat) (v2 : Int32) (h : am_H) (y : Int32 × am_H) (hf : fX4_strikesOn v0 v1 v2 h = some y) : am_Cn G miX4_strikesOn [va_rf (some v0), va_rf v1, .int v2] h (some (.int y.1)) y.2 := by
  refine am_beg (ls := [some (va_rf (some v0)), some (va_rf v1), some (.int v2)]) (by simp only [am_en, am_e1_r, am_e1_i, am_e1_l, am_e1_n]; rfl) ?_
  unfold fX4_strikesOn at hf
  refine am_aload_n dX4_strikesOn_0 rfl rfl ?_
  refine am_gi_ dX4_strikesOn_1 fl_X4_71 rfl hf (fun x1 _ hf => ?_)
  refine am_tsw (d := 77) (l := [(1, 36), (2, 56), (3, 63), (4, 71)]) dX4_strikesOn_4 (by decide) (by decide) (by decide) ?_
  refine am_swc hf (fun hf => ?_) (fun hf => ?_)
  · refine am_aload_n dX4_strikesOn_36 rfl rfl ?_
    refine am_dup dX4_strikesOn_37 (am_c1 _) rfl ?_
    refine am_gi_ dX4_strikesOn_38 fl_X4_50 rfl hf (fun x2 _ hf => ?_)
    refine am_aload_n dX4_strikesOn_41 rfl rfl ?_
    refine am_gi_ dX4_strikesOn_42 fl_X4_47 rfl hf (fun x3 _ hf => ?_)
    refine am_aload_n dX4_strikesOn_45 rfl rfl ?_
    refine am_gi_ dX4_strikesOn_46 fl_X4_74 rfl hf (fun x4 _ hf => ?_)
    refine am_iadd dX4_strikesOn_49 rfl ?_
    refine am_iadd dX4_strikesOn_50 rfl ?_
    refine am_pi_ dX4_strikesOn_51 fl_X4_50 fp_4_9 (fun z => by cases z) rfl hf (fun h5 _ hf => ?_)
    refine am_iconst (v := 1) dX4_strikesOn_54 rfl rfl ?_
    exact am_zret rfl dX4_strikesOn_55 hf
  refine am_swc hf (fun hf => ?_) (fun hf => ?_)
  · refine am_aload_n dX4_strikesOn_56 rfl rfl ?_
    refine am_aload_n dX4_strikesOn_57 rfl rfl ?_
    refine am_iload_n dX4_strikesOn_58 rfl rfl ?_
    refine am_cVi (As := [va_rf v1, .int v2]) (st := []) lk_X4_strikesOn_77 rfl (by simp only [am_e1_r, am_e1_i, am_e1_l, am_e1_n]; exact Nat.le_of_ble_eq_true rfl) (Nat.le_of_ble_eq_true rfl) rfl dX4_strikesOn_59 rfl hf (fun b7 y6 hf => sfX4_comesOut b7 _ _ _ y6 hf) (fun b7 y6 _ _ hf => ?_)
    exact am_zret rfl dX4_strikesOn_62 hf
  refine am_swc hf (fun hf => ?_) (fun hf => ?_)
  · refine am_aload_n dX4_strikesOn_63 rfl rfl ?_
    refine am_aload_n dX4_strikesOn_64 rfl rfl ?_
    refine am_iload_n dX4_strikesOn_65 rfl rfl ?_
    refine am_cVv (As := [va_rf v1, .int v2]) (st := []) lk_X4_strikesOn_80 rfl (by simp only [am_e1_r, am_e1_i, am_e1_l, am_e1_n]; exact Nat.le_of_ble_eq_true rfl) (Nat.le_of_ble_eq_true rfl) rfl dX4_strikesOn_66 rfl hf (fun b9 y8 hf => sfX4_turn b9 _ _ _ y8 hf) (fun b9 y8 _ _ hf => ?_)
    refine am_iconst (v := 0) dX4_strikesOn_69 rfl rfl ?_
    exact am_zret rfl dX4_strikesOn_70 hf
  refine am_swc hf (fun hf => ?_) (fun hf => ?_)
  · refine am_aload_n dX4_strikesOn_71 rfl rfl ?_
    refine am_aload_n dX4_strikesOn_72 rfl rfl ?_
    refine am_cVi (As := [va_rf v1]) (st := []) lk_X4_strikesOn_83 rfl (by simp only [am_e1_r, am_e1_i, am_e1_l, am_e1_n]; exact Nat.le_of_ble_eq_true rfl) (Nat.le_of_ble_eq_true rfl) rfl dX4_strikesOn_73 rfl hf (fun b11 y10 hf => sfX4_isCountedOut b11 _ _ y10 hf) (fun b11 y10 _ _ hf => ?_)
    exact am_zret rfl dX4_strikesOn_76 hf
  show am_S _ _ 77 _ _ _ _ _
  refine am_iconst (v := 1) dX4_strikesOn_77 rfl rfl ?_
  exact am_zret rfl dX4_strikesOn_78 hf
set_option maxRecDepth 20000 in
set_option maxHeartbeats 4000000 in
theorem sfX4_strike_2 {G : am_G}  : ∀ (n : Nat) (v0 : Option Nat) (v2 : Int32) (v3 : Option Nat) (h : am_H) (y : am_H) (hf : fX4_strike_2  n v0 v2 v3 h = some y), am_S G miX4_strike 2 [some (va_rf v0), none, some (.int v2), some (va_rf v3)] [] h none y := by
  intro n
  induction n with
  | zero => intro v0 v2 v3 h y hf; cases hf
  | succ n ih =>
    intro v0 v2 v3 h y hf
    have hf : fX4_strike_2_b  (fX4_strike_2  n) v0 v2 v3 h = some y := hf
    unfold fX4_strike_2_b at hf
    refine am_aload_n dX4_strike_2 rfl rfl ?_
    refine am_ifnull (tgt := 23) dX4_strike_3 (by decide) rfl hf (fun hf => ?_) (fun hf => ?_)
    · exact am_vret rfl dX4_strike_23 hf
    refine am_aload_n dX4_strike_6 rfl rfl ?_
    refine am_aload_n dX4_strike_7 rfl rfl ?_
    refine am_iload_n dX4_strike_8 rfl rfl ?_
    refine am_cVi (As := [va_rf v3, .int v2]) (st := []) lk_X4_strike_67 rfl (by simp only [am_e1_r, am_e1_i, am_e1_l, am_e1_n]; exact Nat.le_of_ble_eq_true rfl) (Nat.le_of_ble_eq_true rfl) rfl dX4_strike_9 rfl hf (fun b2 y1 hf => sfX4_strikesOn b2 _ _ _ y1 hf) (fun b2 y1 _ _ hf => ?_)
    refine am_if_eq (tgt := 23) dX4_strike_12 (by decide) rfl hf (fun hf => ?_) (fun hf => ?_)
    · exact am_vret rfl dX4_strike_23 hf
    refine am_aload_n dX4_strike_15 rfl rfl ?_
    refine am_gr_ dX4_strike_16 fl_X4_59 rfl hf (fun x3 _ hf => ?_)
    refine am_astore_n (ls' := [some (va_rf v0), none, some (.int v2), some (va_rf x3)]) dX4_strike_19 (by decide) rfl rfl ?_
    refine am_goto (pc' := 2) dX4_strike_20 (by decide) ?_
    exact ih _ _ _ _ _ hf
set_option maxRecDepth 20000 in
set_option maxHeartbeats 4000000 in
theorem sfX4_strike {G : am_G}  (v0 : Nat) (v1 : Option Nat) (v2 : Int32) (h : am_H) (y : am_H) (hf : fX4_strike v0 v1 v2 h = some y) : am_Cn G miX4_strike [va_rf (some v0), va_rf v1, .int v2] h none y := by
  refine am_beg (ls := [some (va_rf (some v0)), some (va_rf v1), some (.int v2), none]) (by simp only [am_en, am_e1_r, am_e1_i, am_e1_l, am_e1_n]; rfl) ?_
  unfold fX4_strike at hf
  refine am_aload_n dX4_strike_0 rfl rfl ?_
  refine am_astore_n (ls' := [some (va_rf (some v0)), some (va_rf v1), some (.int v2), some (va_rf v1)]) dX4_strike_1 (by decide) rfl rfl ?_
  exact am_we ((sfX4_strike_2 _) _ _ _ _ _ hf) ⟨Or.inr rfl, Or.inl rfl, Or.inr rfl, Or.inr rfl, trivial⟩
set_option maxRecDepth 20000 in
set_option maxHeartbeats 4000000 in
theorem sfX4_goThrough_81 {G : am_G}  : ∀ (n : Nat) (v0 : Option Nat) (v1 : Int32) (v2 : Int32) (v3 : Option Nat) (v5 : Int32) (h : am_H) (y : am_H) (hf : fX4_goThrough_81  n v0 v1 v2 v3 v5 h = some y), am_S G miX4_goThrough 81 [some (va_rf v0), some (.int v1), some (.int v2), some (va_rf v3), none, some (.int v5)] [] h none y := by
  intro n
  induction n with
  | zero => intro v0 v1 v2 v3 v5 h y hf; cases hf
  | succ n ih =>
    intro v0 v1 v2 v3 v5 h y hf
    have hf : fX4_goThrough_81_b  (fX4_goThrough_81  n) v0 v1 v2 v3 v5 h = some y := hf
    unfold fX4_goThrough_81_b at hf
    refine am_iload dX4_goThrough_81 rfl rfl ?_
    refine am_iload_n dX4_goThrough_83 rfl rfl ?_
    refine am_icmp_ge (tgt := 109) dX4_goThrough_84 (by decide) rfl hf (fun hf => ?_) (fun hf => ?_)
    · exact am_vret rfl dX4_goThrough_109 hf
    refine am_aload_n dX4_goThrough_87 rfl rfl ?_
    refine am_dup dX4_goThrough_88 (am_c1 _) rfl ?_
    refine am_gi_ dX4_goThrough_89 fl_X4_47 rfl hf (fun x1 _ hf => ?_)
    refine am_iconst (v := 1) dX4_goThrough_92 rfl rfl ?_
    refine am_iadd dX4_goThrough_93 rfl ?_
    refine am_pi_ dX4_goThrough_94 fl_X4_47 fp_4_8 (fun z => by cases z) rfl hf (fun h2 _ hf => ?_)
    refine am_aload_n dX4_goThrough_97 rfl rfl ?_
    refine am_aload_n dX4_goThrough_98 rfl rfl ?_
    refine am_iload_n dX4_goThrough_99 rfl rfl ?_
    refine am_cVv (As := [va_rf v3, .int v1]) (st := []) lk_X4_goThrough_63 rfl (by simp only [am_e1_r, am_e1_i, am_e1_l, am_e1_n]; exact Nat.le_of_ble_eq_true rfl) (Nat.le_of_ble_eq_true rfl) rfl dX4_goThrough_100 rfl hf (fun b4 y3 hf => sfX4_strike b4 _ _ _ y3 hf) (fun b4 y3 _ _ hf => ?_)
    refine am_iinc (ls' := [some (va_rf v0), some (.int v1), some (.int v2), some (va_rf v3), none, some (.int (v5 + (1 : Int32)))]) dX4_goThrough_103 rfl rfl (by decide) rfl rfl ?_
    refine am_goto (pc' := 81) dX4_goThrough_106 (by decide) ?_
    exact ih _ _ _ _ _ _ _ hf
set_option maxRecDepth 20000 in
set_option maxHeartbeats 4000000 in
theorem sfX4_goThrough_78 {G : am_G}  (v0 : Option Nat) (v1 : Int32) (v2 : Int32) (v3 : Option Nat) (h : am_H) (y : am_H) (hf : fX4_goThrough_78  v0 v1 v2 v3 h = some y) : am_S G miX4_goThrough 78 [some (va_rf v0), some (.int v1), some (.int v2), some (va_rf v3), none, none] [] h none y := by
  unfold fX4_goThrough_78 at hf
  refine am_iconst (v := 0) dX4_goThrough_78 rfl rfl ?_
  refine am_istore (ls' := [some (va_rf v0), some (.int v1), some (.int v2), some (va_rf v3), none, some (.int (0 : Int32))]) dX4_goThrough_79 (by decide) rfl rfl ?_
  exact (sfX4_goThrough_81 _) _ _ _ _ _ _ _ hf
set_option maxRecDepth 20000 in
set_option maxHeartbeats 4000000 in
theorem sfX4_goThrough_72 {G : am_G}  {k9 : Option Nat → Int32 → Int32 → Option Nat → Int32 → Int32 → am_H → Option (am_H)} (hk9 : ∀ (v0 : Option Nat) (v1 : Int32) (v2 : Int32) (v3 : Option Nat) (v4 : Int32) (v5 : Int32) (h : am_H) (y : am_H), k9 v0 v1 v2 v3 v4 v5 h = some y → am_S G miX4_goThrough 9 [some (va_rf v0), some (.int v1), some (.int v2), some (va_rf v3), some (.int v4), some (.int v5)] [] h none y) (v0 : Option Nat) (v1 : Int32) (v2 : Int32) (v3 : Option Nat) (v4 : Int32) (v5 : Int32) (h : am_H) (y : am_H) (hf : fX4_goThrough_72 k9 v0 v1 v2 v3 v4 v5 h = some y) : am_S G miX4_goThrough 72 [some (va_rf v0), some (.int v1), some (.int v2), some (va_rf v3), some (.int v4), some (.int v5)] [] h none y := by
  unfold fX4_goThrough_72 at hf
  refine am_iinc (ls' := [some (va_rf v0), some (.int v1), some (.int v2), some (va_rf v3), some (.int v4), some (.int (v5 + (1 : Int32)))]) dX4_goThrough_72 rfl rfl (by decide) rfl rfl ?_
  refine am_goto (pc' := 9) dX4_goThrough_75 (by decide) ?_
  exact hk9 _ _ _ _ _ _ _ _ hf
set_option maxRecDepth 20000 in
set_option maxHeartbeats 4000000 in
theorem sfX4_goThrough_9 {G : am_G}  : ∀ (n : Nat) (v0 : Option Nat) (v1 : Int32) (v2 : Int32) (v3 : Option Nat) (v4 : Int32) (v5 : Int32) (h : am_H) (y : am_H) (hf : fX4_goThrough_9  n v0 v1 v2 v3 v4 v5 h = some y), am_S G miX4_goThrough 9 [some (va_rf v0), some (.int v1), some (.int v2), some (va_rf v3), some (.int v4), some (.int v5)] [] h none y := by
  intro n
  induction n with
  | zero => intro v0 v1 v2 v3 v4 v5 h y hf; cases hf
  | succ n ih =>
    intro v0 v1 v2 v3 v4 v5 h y hf
    have hf : fX4_goThrough_9_b  (fX4_goThrough_9  n) v0 v1 v2 v3 v4 v5 h = some y := hf
    unfold fX4_goThrough_9_b at hf
    refine am_iload dX4_goThrough_9 rfl rfl ?_
    refine am_iload dX4_goThrough_11 rfl rfl ?_
    refine am_icmp_ge (tgt := 78) dX4_goThrough_13 (by decide) rfl hf (fun hf => ?_) (fun hf => ?_)
    · exact am_we (sfX4_goThrough_78 _ _ _ _ _ _ hf) ⟨Or.inr rfl, Or.inr rfl, Or.inr rfl, Or.inr rfl, Or.inl rfl, Or.inl rfl, trivial⟩
    refine am_iload dX4_goThrough_16 rfl rfl ?_
    refine am_aload_n dX4_goThrough_18 rfl rfl ?_
    refine am_gr_ dX4_goThrough_19 fl_X4_24 rfl hf (fun x1 _ hf => ?_)
    refine am_an_ dX4_goThrough_22 rfl hf (fun x2 _ hf => ?_)
    refine am_icmp_ge (tgt := 78) dX4_goThrough_23 (by decide) rfl hf (fun hf => ?_) (fun hf => ?_)
    · exact am_we (sfX4_goThrough_78 _ _ _ _ _ _ hf) ⟨Or.inr rfl, Or.inr rfl, Or.inr rfl, Or.inr rfl, Or.inl rfl, Or.inl rfl, trivial⟩
    refine am_iload dX4_goThrough_26 rfl rfl ?_
    refine am_aload_n dX4_goThrough_28 rfl rfl ?_
    refine am_gr_ dX4_goThrough_29 fl_X4_28 rfl hf (fun x3 _ hf => ?_)
    refine am_an_ dX4_goThrough_32 rfl hf (fun x4 _ hf => ?_)
    refine am_icmp_ge (tgt := 78) dX4_goThrough_33 (by decide) rfl hf (fun hf => ?_) (fun hf => ?_)
    · exact am_we (sfX4_goThrough_78 _ _ _ _ _ _ hf) ⟨Or.inr rfl, Or.inr rfl, Or.inr rfl, Or.inr rfl, Or.inl rfl, Or.inl rfl, trivial⟩
    refine am_aload_n dX4_goThrough_36 rfl rfl ?_
    refine am_gr_ dX4_goThrough_37 fl_X4_28 rfl hf (fun x5 _ hf => ?_)
    refine am_iload dX4_goThrough_40 rfl rfl ?_
    refine am_iald dX4_goThrough_42 rfl hf (fun x6 _ hf => ?_)
    refine am_iload_n dX4_goThrough_43 rfl rfl ?_
    refine am_icmp_ne (tgt := 72) dX4_goThrough_44 (by decide) rfl hf (fun hf => ?_) (fun hf => ?_)
    · exact (sfX4_goThrough_72 ih) _ _ _ _ _ _ _ _ hf
    refine am_aload_n dX4_goThrough_47 rfl rfl ?_
    refine am_gr_ dX4_goThrough_48 fl_X4_24 rfl hf (fun x7 _ hf => ?_)
    refine am_iload dX4_goThrough_51 rfl rfl ?_
    refine am_alr_ (t := 6) rfl (by decide) dX4_goThrough_53 rfl hf (fun x8 _ hf => ?_)
    refine am_ifnull (tgt := 72) dX4_goThrough_54 (by decide) rfl hf (fun hf => ?_) (fun hf => ?_)
    · exact (sfX4_goThrough_72 ih) _ _ _ _ _ _ _ _ hf
    refine am_aload_n dX4_goThrough_57 rfl rfl ?_
    refine am_aload_n dX4_goThrough_58 rfl rfl ?_
    refine am_gr_ dX4_goThrough_59 fl_X4_24 rfl hf (fun x9 _ hf => ?_)
    refine am_iload dX4_goThrough_62 rfl rfl ?_
    refine am_alr_ (t := 6) rfl (by decide) dX4_goThrough_64 rfl hf (fun x10 _ hf => ?_)
    refine am_gr_ dX4_goThrough_65 fl_X4_59 rfl hf (fun x11 _ hf => ?_)
    refine am_iload_n dX4_goThrough_68 rfl rfl ?_
    refine am_cVv (As := [va_rf x11, .int v1]) (st := []) lk_X4_goThrough_63 rfl (by simp only [am_e1_r, am_e1_i, am_e1_l, am_e1_n]; exact Nat.le_of_ble_eq_true rfl) (Nat.le_of_ble_eq_true rfl) rfl dX4_goThrough_69 rfl hf (fun b13 y12 hf => sfX4_strike b13 _ _ _ y12 hf) (fun b13 y12 _ _ hf => ?_)
    exact (sfX4_goThrough_72 ih) _ _ _ _ _ _ _ _ hf
set_option maxRecDepth 20000 in
set_option maxHeartbeats 4000000 in
theorem sfX4_goThrough {G : am_G}  (v0 : Nat) (v1 : Int32) (v2 : Int32) (v3 : Option Nat) (h : am_H) (y : am_H) (hf : fX4_goThrough v0 v1 v2 v3 h = some y) : am_Cn G miX4_goThrough [va_rf (some v0), .int v1, .int v2, va_rf v3] h none y := by
  refine am_beg (ls := [some (va_rf (some v0)), some (.int v1), some (.int v2), some (va_rf v3), none, none]) (by simp only [am_en, am_e1_r, am_e1_i, am_e1_l, am_e1_n]; rfl) ?_
  unfold fX4_goThrough at hf
  refine am_aload_n dX4_goThrough_0 rfl rfl ?_
  refine am_gi_ dX4_goThrough_1 fl_X4_40 rfl hf (fun x1 _ hf => ?_)
  refine am_istore (ls' := [some (va_rf (some v0)), some (.int v1), some (.int v2), some (va_rf v3), some (.int x1), none]) dX4_goThrough_4 (by decide) (am_s1_r (j := 3) rfl rfl) rfl ?_
  refine am_iconst (v := 0) dX4_goThrough_6 rfl rfl ?_
  refine am_istore (ls' := [some (va_rf (some v0)), some (.int v1), some (.int v2), some (va_rf v3), some (.int x1), some (.int (0 : Int32))]) dX4_goThrough_7 (by decide) rfl rfl ?_
  exact (sfX4_goThrough_9 _) _ _ _ _ _ _ _ _ hf
set_option maxRecDepth 20000 in
set_option maxHeartbeats 4000000 in
theorem sfX8_playRun_21 {G : am_G}  : ∀ (n : Nat) (v0 : Option Nat) (v1 : Option Nat) (v2 : Int32) (h : am_H) (y : am_H) (hf : fX8_playRun_21  n v0 v1 v2 h = some y), am_S G miX8_playRun 21 [some (va_rf v0), some (va_rf v1), some (.int v2), none] [] h none y := by
  intro n
  induction n with
  | zero => intro v0 v1 v2 h y hf; cases hf
  | succ n ih =>
    intro v0 v1 v2 h y hf
    have hf : fX8_playRun_21_b  (fX8_playRun_21  n) v0 v1 v2 h = some y := hf
    unfold fX8_playRun_21_b at hf
    refine am_iload_n dX8_playRun_21 rfl rfl ?_
    refine am_bipush (v := 96) dX8_playRun_22 (by decide) rfl ?_
    refine am_icmp_ge (tgt := 66) dX8_playRun_24 (by decide) rfl hf (fun hf => ?_) (fun hf => ?_)
    · exact am_vret rfl dX8_playRun_66 hf
    refine am_aload_n dX8_playRun_27 rfl rfl ?_
    refine am_gr_ dX8_playRun_28 fl_X8_62 rfl hf (fun x1 _ hf => ?_)
    refine am_gi_ dX8_playRun_31 fl_X8_371 rfl hf (fun x2 _ hf => ?_)
    refine am_istore_n (ls' := [some (va_rf v0), some (va_rf v1), some (.int v2), some (.int x2)]) dX8_playRun_34 (by decide) rfl rfl ?_
    refine am_aload_n dX8_playRun_35 rfl rfl ?_
    refine am_gr_ dX8_playRun_36 fl_X8_62 rfl hf (fun x3 _ hf => ?_)
    refine am_cVv (As := []) (st := []) lk_X8_playRun_374 rfl (Nat.le_of_ble_eq_true rfl) (Nat.le_of_ble_eq_true rfl) rfl dX8_playRun_39 rfl hf (fun b5 y4 hf => sfX5_advance b5  _ y4 hf) (fun b5 y4 _ _ hf => ?_)
    refine am_aload_n dX8_playRun_42 rfl rfl ?_
    refine am_gr_ dX8_playRun_43 fl_X8_72 rfl hf (fun x6 _ hf => ?_)
    refine am_iload_n dX8_playRun_46 rfl rfl ?_
    refine am_aload_n dX8_playRun_47 rfl rfl ?_
    refine am_gr_ dX8_playRun_48 fl_X8_62 rfl hf (fun x7 _ hf => ?_)
    refine am_gi_ dX8_playRun_51 fl_X8_371 rfl hf (fun x8 _ hf => ?_)
    refine am_iload_n dX8_playRun_54 rfl rfl ?_
    refine am_isub dX8_playRun_55 rfl ?_
    refine am_aload_n dX8_playRun_56 rfl rfl ?_
    refine am_cVv (As := [.int v2, .int (x8 - x2), va_rf v1]) (st := []) lk_X8_playRun_377 rfl (by simp only [am_e1_r, am_e1_i, am_e1_l, am_e1_n]; exact Nat.le_of_ble_eq_true rfl) (Nat.le_of_ble_eq_true rfl) rfl dX8_playRun_57 rfl hf (fun b10 y9 hf => sfX4_goThrough b10 _ _ _ _ y9 hf) (fun b10 y9 _ _ hf => ?_)
    refine am_iinc (ls' := [some (va_rf v0), some (va_rf v1), some (.int (v2 + (1 : Int32))), some (.int x2)]) dX8_playRun_60 rfl rfl (by decide) (am_s1_r (j := 1) rfl rfl) rfl ?_
    refine am_goto (pc' := 21) dX8_playRun_63 (by decide) ?_
    exact am_we (ih _ _ _ _ _ hf) ⟨Or.inr rfl, Or.inr rfl, Or.inr rfl, Or.inl rfl, trivial⟩
