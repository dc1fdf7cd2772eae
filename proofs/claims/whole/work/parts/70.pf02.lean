/-! printed proofs of the printed functions, 2 -/
set_option maxRecDepth 20000 in
set_option maxHeartbeats 4000000 in
theorem sfX9_letters {G : am_G}  (v0 : Nat) (v1 : Int64) (h : am_H) (y : Int32 × am_H) (hf : fX9_letters v0 v1 h = some y) : am_Cn G miX9_letters [va_rf (some v0), .long v1] h (some (.int y.1)) y.2 := by
  refine am_beg (ls := [some (va_rf (some v0)), some (.long v1), none, none, none, none, none]) (by simp only [am_en, am_e1_r, am_e1_i, am_e1_l, am_e1_n]; rfl) ?_
  unfold fX9_letters at hf
  refine am_iconst (v := 0) dX9_letters_0 rfl rfl ?_
  refine am_istore_n (ls' := [some (va_rf (some v0)), some (.long v1), none, some (.int (0 : Int32)), none, none, none]) dX9_letters_1 (by decide) rfl rfl ?_
  refine am_iconst (v := 0) dX9_letters_2 rfl rfl ?_
  refine am_istore (ls' := [some (va_rf (some v0)), some (.long v1), none, some (.int (0 : Int32)), some (.int (0 : Int32)), none, none]) dX9_letters_3 (by decide) rfl rfl ?_
  refine am_iconst (v := 0) dX9_letters_5 rfl rfl ?_
  refine am_istore (ls' := [some (va_rf (some v0)), some (.long v1), none, some (.int (0 : Int32)), some (.int (0 : Int32)), some (.int (0 : Int32)), none]) dX9_letters_6 (by decide) rfl rfl ?_
  exact (sfX9_letters_8 _) _ _ _ _ _ _ _ hf
set_option maxRecDepth 20000 in
set_option maxHeartbeats 4000000 in
theorem sfX8_blank {G : am_G}  (v0 : Nat) (h : am_H) (y : Int32 × am_H) (hf : fX8_blank v0 h = some y) : am_Cn G miX8_blank [va_rf (some v0)] h (some (.int y.1)) y.2 := by
  refine am_beg (ls := [some (va_rf (some v0)), none]) (by simp only [am_en, am_e1_r, am_e1_i, am_e1_l, am_e1_n]; rfl) ?_
  unfold fX8_blank at hf
  refine am_aload_n dX8_blank_0 rfl rfl ?_
  refine am_gr_ dX8_blank_1 fl_X8_30 rfl hf (fun x1 _ hf => ?_)
  refine am_gi_ dX8_blank_4 fl_X8_91 rfl hf (fun x2 _ hf => ?_)
  refine am_istore_n (ls' := [some (va_rf (some v0)), some (.int x2)]) dX8_blank_7 (by decide) (am_s1_r (j := 0) rfl rfl) rfl ?_
  refine am_aload_n dX8_blank_8 rfl rfl ?_
  refine am_gr_ dX8_blank_9 fl_X8_30 rfl hf (fun x3 _ hf => ?_)
  refine am_iconst (v := 0) dX8_blank_12 rfl rfl ?_
  refine am_pi_ dX8_blank_13 fl_X8_91 fp_3_1 (fun z => by cases z) rfl hf (fun h4 _ hf => ?_)
  refine am_iload_n dX8_blank_16 rfl rfl ?_
  exact am_iret rfl dX8_blank_17 hf
set_option maxRecDepth 20000 in
set_option maxHeartbeats 4000000 in
theorem sfX9_blank {G : am_G}  (v0 : Nat) (h : am_H) (y : Int32 × am_H) (hf : fX9_blank v0 h = some y) : am_Cn G miX9_blank [va_rf (some v0)] h (some (.int y.1)) y.2 := by
  refine am_beg (ls := [some (va_rf (some v0)), none]) (by simp only [am_en, am_e1_r, am_e1_i, am_e1_l, am_e1_n]; rfl) ?_
  unfold fX9_blank at hf
  refine am_aload_n dX9_blank_0 rfl rfl ?_
  refine am_gi_ dX9_blank_1 fl_X9_129 rfl hf (fun x1 _ hf => ?_)
  refine am_istore_n (ls' := [some (va_rf (some v0)), some (.int x1)]) dX9_blank_4 (by decide) (am_s1_r (j := 0) rfl rfl) rfl ?_
  refine am_aload_n dX9_blank_5 rfl rfl ?_
  refine am_iconst (v := 0) dX9_blank_6 rfl rfl ?_
  refine am_pi_ dX9_blank_7 fl_X9_129 fp_9_24 (fun z => by cases z) rfl hf (fun h2 _ hf => ?_)
  refine am_iload_n dX9_blank_10 rfl rfl ?_
  exact am_iret rfl dX9_blank_11 hf
set_option maxRecDepth 20000 in
set_option maxHeartbeats 4000000 in
theorem sfX3_codeAt {G : am_G}  (v0 : Nat) (v1 : Int32) (h : am_H) (y : Int32 × am_H) (hf : fX3_codeAt v0 v1 h = some y) : am_Cn G miX3_codeAt [va_rf (some v0), .int v1] h (some (.int y.1)) y.2 := by
  refine am_beg (ls := [some (va_rf (some v0)), some (.int v1)]) (by simp only [am_en, am_e1_r, am_e1_i, am_e1_l, am_e1_n]; rfl) ?_
  unfold fX3_codeAt at hf
  refine am_iload_n dX3_codeAt_0 rfl rfl ?_
  refine am_if_lt (tgt := 27) dX3_codeAt_1 (by decide) rfl hf (fun hf => ?_) (fun hf => ?_)
  · refine am_iconst (v := -1) dX3_codeAt_27 rfl rfl ?_
    exact am_iret rfl dX3_codeAt_28 hf
  refine am_iload_n dX3_codeAt_4 rfl rfl ?_
  refine am_aload_n dX3_codeAt_5 rfl rfl ?_
  refine am_gi_ dX3_codeAt_6 fl_X3_15 rfl hf (fun x1 _ hf => ?_)
  refine am_icmp_ge (tgt := 27) dX3_codeAt_9 (by decide) rfl hf (fun hf => ?_) (fun hf => ?_)
  · refine am_iconst (v := -1) dX3_codeAt_27 rfl rfl ?_
    exact am_iret rfl dX3_codeAt_28 hf
  refine am_iload_n dX3_codeAt_12 rfl rfl ?_
  refine am_bipush (v := 80) dX3_codeAt_13 (by decide) rfl ?_
  refine am_icmp_ge (tgt := 27) dX3_codeAt_15 (by decide) rfl hf (fun hf => ?_) (fun hf => ?_)
  · refine am_iconst (v := -1) dX3_codeAt_27 rfl rfl ?_
    exact am_iret rfl dX3_codeAt_28 hf
  refine am_aload_n dX3_codeAt_18 rfl rfl ?_
  refine am_gr_ dX3_codeAt_19 fl_X3_9 rfl hf (fun x2 _ hf => ?_)
  refine am_iload_n dX3_codeAt_22 rfl rfl ?_
  refine am_cald dX3_codeAt_23 rfl hf (fun x3 _ hf => ?_)
  refine am_goto (pc' := 28) dX3_codeAt_24 (by decide) ?_
  exact am_iret rfl dX3_codeAt_28 hf
set_option maxRecDepth 20000 in
set_option maxHeartbeats 4000000 in
theorem sfX8_isIn {G : am_G}  (v0 : Int32) (v1 : Int32) (v2 : Int32) (h : am_H) (y : Int32 × am_H) (hf : fX8_isIn v0 v1 v2 h = some y) : am_Cn G miX8_isIn [.int v0, .int v1, .int v2] h (some (.int y.1)) y.2 := by
  refine am_beg (ls := [some (.int v0), some (.int v1), some (.int v2)]) (by simp only [am_en, am_e1_r, am_e1_i, am_e1_l, am_e1_n]; rfl) ?_
  unfold fX8_isIn at hf
  refine am_iload_n dX8_isIn_0 rfl rfl ?_
  refine am_iload_n dX8_isIn_1 rfl rfl ?_
  refine am_icmp_lt (tgt := 14) dX8_isIn_2 (by decide) rfl hf (fun hf => ?_) (fun hf => ?_)
  · refine am_iconst (v := 0) dX8_isIn_14 rfl rfl ?_
    exact am_zret rfl dX8_isIn_15 hf
  refine am_iload_n dX8_isIn_5 rfl rfl ?_
  refine am_iload_n dX8_isIn_6 rfl rfl ?_
  refine am_icmp_gt (tgt := 14) dX8_isIn_7 (by decide) rfl hf (fun hf => ?_) (fun hf => ?_)
  · refine am_iconst (v := 0) dX8_isIn_14 rfl rfl ?_
    exact am_zret rfl dX8_isIn_15 hf
  refine am_iconst (v := 1) dX8_isIn_10 rfl rfl ?_
  refine am_goto (pc' := 15) dX8_isIn_11 (by decide) ?_
  exact am_zret rfl dX8_isIn_15 hf
set_option maxRecDepth 20000 in
set_option maxHeartbeats 4000000 in
theorem sfX3_figureHere {G : am_G}  (v0 : Nat) (h : am_H) (y : Int32 × am_H) (hf : fX3_figureHere v0 h = some y) : am_Cn G miX3_figureHere [va_rf (some v0)] h (some (.int y.1)) y.2 := by
  refine am_beg (ls := [some (va_rf (some v0)), none]) (by simp only [am_en, am_e1_r, am_e1_i, am_e1_l, am_e1_n]; rfl) ?_
  unfold fX3_figureHere at hf
  refine am_aload_n dX3_figureHere_0 rfl rfl ?_
  refine am_aload_n dX3_figureHere_1 rfl rfl ?_
  refine am_gi_ dX3_figureHere_2 fl_X3_19 rfl hf (fun x1 _ hf => ?_)
  refine am_cVi (As := [.int x1]) (st := []) lk_X3_figureHere_71 rfl (Nat.le_of_ble_eq_true rfl) (Nat.le_of_ble_eq_true rfl) rfl dX3_figureHere_5 rfl hf (fun b3 y2 hf => sfX3_codeAt b3 _ _ y2 hf) (fun b3 y2 _ _ hf => ?_)
  refine am_istore_n (ls' := [some (va_rf (some v0)), some (.int y2.1)]) dX3_figureHere_8 (by decide) (am_s1_r (j := 0) rfl rfl) rfl ?_
  refine am_iload_n dX3_figureHere_9 rfl rfl ?_
  refine am_bipush (v := 48) dX3_figureHere_10 (by decide) rfl ?_
  refine am_bipush (v := 57) dX3_figureHere_12 (by decide) rfl ?_
  refine am_cTi (As := [.int y2.1, .int (48 : Int32), .int (57 : Int32)]) (st := []) lk_X3_figureHere_83 rfl (Nat.le_of_ble_eq_true rfl) (Nat.le_of_ble_eq_true rfl) rfl dX3_figureHere_14 rfl hf (fun y4 hf => sfX8_isIn _ _ _ _ y4 hf) (fun y4 _ hf => ?_)
  refine am_if_eq (tgt := 27) dX3_figureHere_17 (by decide) rfl hf (fun hf => ?_) (fun hf => ?_)
  · refine am_iconst (v := -1) dX3_figureHere_27 rfl rfl ?_
    exact am_iret rfl dX3_figureHere_28 hf
  refine am_iload_n dX3_figureHere_20 rfl rfl ?_
  refine am_bipush (v := 48) dX3_figureHere_21 (by decide) rfl ?_
  refine am_isub dX3_figureHere_23 rfl ?_
  refine am_goto (pc' := 28) dX3_figureHere_24 (by decide) ?_
  exact am_iret rfl dX3_figureHere_28 hf
set_option maxRecDepth 20000 in
set_option maxHeartbeats 4000000 in
theorem sfX3_canStart_35 {G : am_G}  (v3 : Int32) (s0 : Int32) (h : am_H) (y : Int32 × am_H) (hf : fX3_canStart_35  v3 s0 h = some y) : am_S G miX3_canStart 35 [none, none, none, some (.int v3), none] [.int s0] h (some (.int y.1)) y.2 := by
  unfold fX3_canStart_35 at hf
  refine am_istore (ls' := [none, none, none, some (.int v3), some (.int s0)]) dX3_canStart_35 (by decide) rfl rfl ?_
  refine am_iload_n dX3_canStart_37 rfl rfl ?_
  refine am_if_ne (tgt := 46) dX3_canStart_38 (by decide) rfl hf (fun hf => ?_) (fun hf => ?_)
  · refine am_iconst (v := 1) dX3_canStart_46 rfl rfl ?_
    refine am_goto (pc' := 51) dX3_canStart_47 (by decide) ?_
    exact am_zret rfl dX3_canStart_51 hf
  refine am_iload dX3_canStart_41 rfl rfl ?_
  refine am_if_eq (tgt := 50) dX3_canStart_43 (by decide) rfl hf (fun hf => ?_) (fun hf => ?_)
  · refine am_iconst (v := 0) dX3_canStart_50 rfl rfl ?_
    exact am_zret rfl dX3_canStart_51 hf
  refine am_iconst (v := 1) dX3_canStart_46 rfl rfl ?_
  refine am_goto (pc' := 51) dX3_canStart_47 (by decide) ?_
  exact am_zret rfl dX3_canStart_51 hf
set_option maxRecDepth 20000 in
set_option maxHeartbeats 4000000 in
theorem sfX3_canStart_34 {G : am_G}  {k35 : Int32 → Int32 → am_H → Option (Int32 × am_H)} (hk35 : ∀ (v3 : Int32) (s0 : Int32) (h : am_H) (y : Int32 × am_H), k35 v3 s0 h = some y → am_S G miX3_canStart 35 [none, none, none, some (.int v3), none] [.int s0] h (some (.int y.1)) y.2) (v3 : Int32) (h : am_H) (y : Int32 × am_H) (hf : fX3_canStart_34 k35 v3 h = some y) : am_S G miX3_canStart 34 [none, none, none, some (.int v3), none] [] h (some (.int y.1)) y.2 := by
  unfold fX3_canStart_34 at hf
  refine am_iconst (v := 0) dX3_canStart_34 rfl rfl ?_
  exact hk35 _ _ _ _ hf
set_option maxRecDepth 20000 in
set_option maxHeartbeats 4000000 in
theorem sfX3_canStart {G : am_G}  (v0 : Int32) (v1 : Int32) (v2 : Int32) (h : am_H) (y : Int32 × am_H) (hf : fX3_canStart v0 v1 v2 h = some y) : am_Cn G miX3_canStart [.int v0, .int v1, .int v2] h (some (.int y.1)) y.2 := by
  refine am_beg (ls := [some (.int v0), some (.int v1), some (.int v2), none, none]) (by simp only [am_en, am_e1_r, am_e1_i, am_e1_l, am_e1_n]; rfl) ?_
  unfold fX3_canStart at hf
  refine am_iload_n dX3_canStart_0 rfl rfl ?_
  refine am_iload_n dX3_canStart_1 rfl rfl ?_
  refine am_iload_n dX3_canStart_2 rfl rfl ?_
  refine am_cTi (As := [.int v0, .int v1, .int v2]) (st := []) lk_X3_canStart_83 rfl (Nat.le_of_ble_eq_true rfl) (Nat.le_of_ble_eq_true rfl) rfl dX3_canStart_3 rfl hf (fun y1 hf => sfX8_isIn _ _ _ _ y1 hf) (fun y1 _ hf => ?_)
  refine am_istore_n (ls' := [some (.int v0), some (.int v1), some (.int v2), some (.int y1.1), none]) dX3_canStart_6 (by decide) rfl rfl ?_
  refine am_iload_n dX3_canStart_7 rfl rfl ?_
  refine am_if_le (tgt := 34) dX3_canStart_8 (by decide) rfl hf (fun hf => ?_) (fun hf => ?_)
  · exact am_we ((sfX3_canStart_34 sfX3_canStart_35) _ _ _ hf) ⟨Or.inl rfl, Or.inl rfl, Or.inl rfl, Or.inr rfl, Or.inl rfl, trivial⟩
  refine am_bipush (v := 10) dX3_canStart_11 (by decide) rfl ?_
  refine am_iload_n dX3_canStart_13 rfl rfl ?_
  refine am_imul dX3_canStart_14 rfl ?_
  refine am_iload_n dX3_canStart_15 rfl rfl ?_
  refine am_icmp_gt (tgt := 34) dX3_canStart_16 (by decide) rfl hf (fun hf => ?_) (fun hf => ?_)
  · exact am_we ((sfX3_canStart_34 sfX3_canStart_35) _ _ _ hf) ⟨Or.inl rfl, Or.inl rfl, Or.inl rfl, Or.inr rfl, Or.inl rfl, trivial⟩
  refine am_bipush (v := 10) dX3_canStart_19 (by decide) rfl ?_
  refine am_iload_n dX3_canStart_21 rfl rfl ?_
  refine am_imul dX3_canStart_22 rfl ?_
  refine am_bipush (v := 9) dX3_canStart_23 (by decide) rfl ?_
  refine am_iadd dX3_canStart_25 rfl ?_
  refine am_iload_n dX3_canStart_26 rfl rfl ?_
  refine am_icmp_lt (tgt := 34) dX3_canStart_27 (by decide) rfl hf (fun hf => ?_) (fun hf => ?_)
  · exact am_we ((sfX3_canStart_34 sfX3_canStart_35) _ _ _ hf) ⟨Or.inl rfl, Or.inl rfl, Or.inl rfl, Or.inr rfl, Or.inl rfl, trivial⟩
  refine am_iconst (v := 1) dX3_canStart_30 rfl rfl ?_
  refine am_goto (pc' := 35) dX3_canStart_31 (by decide) ?_
  exact am_we (sfX3_canStart_35 _ _ _ _ hf) ⟨Or.inl rfl, Or.inl rfl, Or.inl rfl, Or.inr rfl, Or.inl rfl, trivial⟩
set_option maxRecDepth 20000 in
set_option maxHeartbeats 4000000 in
theorem sfX3_readNumber_79 {G : am_G}  (v1 : Int32) (v3 : Int32) (h : am_H) (y : Int32 × am_H) (hf : fX3_readNumber_79  v1 v3 h = some y) : am_S G miX3_readNumber 79 [none, some (.int v1), none, some (.int v3), none, none] [] h (some (.int y.1)) y.2 := by
  unfold fX3_readNumber_79 at hf
  refine am_iload_n dX3_readNumber_79 rfl rfl ?_
  refine am_iload_n dX3_readNumber_80 rfl rfl ?_
  refine am_icmp_lt (tgt := 88) dX3_readNumber_81 (by decide) rfl hf (fun hf => ?_) (fun hf => ?_)
  · refine am_iconst (v := -1) dX3_readNumber_88 rfl rfl ?_
    exact am_iret rfl dX3_readNumber_89 hf
  refine am_iload_n dX3_readNumber_84 rfl rfl ?_
  refine am_goto (pc' := 89) dX3_readNumber_85 (by decide) ?_
  exact am_iret rfl dX3_readNumber_89 hf
set_option maxRecDepth 20000 in
set_option maxHeartbeats 4000000 in
theorem sfX3_readNumber {G : am_G}  (v0 : Nat) (v1 : Int32) (v2 : Int32) (h : am_H) (y : Int32 × am_H) (hf : fX3_readNumber v0 v1 v2 h = some y) : am_Cn G miX3_readNumber [va_rf (some v0), .int v1, .int v2] h (some (.int y.1)) y.2 := by
  refine am_beg (ls := [some (va_rf (some v0)), some (.int v1), some (.int v2), none, none, none]) (by simp only [am_en, am_e1_r, am_e1_i, am_e1_l, am_e1_n]; rfl) ?_
  unfold fX3_readNumber at hf
  refine am_aload_n dX3_readNumber_0 rfl rfl ?_
  refine am_cVi (As := []) (st := []) lk_X3_readNumber_75 rfl (Nat.le_of_ble_eq_true rfl) (Nat.le_of_ble_eq_true rfl) rfl dX3_readNumber_1 rfl hf (fun b2 y1 hf => sfX3_figureHere b2  _ y1 hf) (fun b2 y1 _ _ hf => ?_)
  refine am_istore_n (ls' := [some (va_rf (some v0)), some (.int v1), some (.int v2), some (.int y1.1), none, none]) dX3_readNumber_4 (by decide) rfl rfl ?_
  refine am_iload_n dX3_readNumber_5 rfl rfl ?_
  refine am_iconst (v := -1) dX3_readNumber_6 rfl rfl ?_
  refine am_icmp_eq (tgt := 19) dX3_readNumber_7 (by decide) rfl hf (fun hf => ?_) (fun hf => ?_)
  · refine am_iconst (v := -1) dX3_readNumber_19 rfl rfl ?_
    exact am_iret rfl dX3_readNumber_20 hf
  refine am_iload_n dX3_readNumber_10 rfl rfl ?_
  refine am_iload_n dX3_readNumber_11 rfl rfl ?_
  refine am_iload_n dX3_readNumber_12 rfl rfl ?_
  refine am_cSi (As := [.int y1.1, .int v1, .int v2]) (st := []) lk_X3_readNumber_79 rfl (Nat.le_of_ble_eq_true rfl) (Nat.le_of_ble_eq_true rfl) rfl dX3_readNumber_13 rfl hf (fun y3 hf => sfX3_canStart _ _ _ _ y3 hf) (fun y3 _ hf => ?_)
  refine am_if_ne (tgt := 21) dX3_readNumber_16 (by decide) rfl hf (fun hf => ?_) (fun hf => ?_)
  · refine am_aload_n dX3_readNumber_21 rfl rfl ?_
    refine am_dup dX3_readNumber_22 (am_c1 _) rfl ?_
    refine am_gi_ dX3_readNumber_23 fl_X3_19 rfl hf (fun x4 _ hf => ?_)
    refine am_iconst (v := 1) dX3_readNumber_26 rfl rfl ?_
    refine am_iadd dX3_readNumber_27 rfl ?_
    refine am_pi_ dX3_readNumber_28 fl_X3_19 fp_3_2 (fun z => by cases z) rfl hf (fun h5 _ hf => ?_)
    refine am_aload_n dX3_readNumber_31 rfl rfl ?_
    refine am_cVi (As := []) (st := []) lk_X3_readNumber_75 rfl (Nat.le_of_ble_eq_true rfl) (Nat.le_of_ble_eq_true rfl) rfl dX3_readNumber_32 rfl hf (fun b7 y6 hf => sfX3_figureHere b7  _ y6 hf) (fun b7 y6 _ _ hf => ?_)
    refine am_istore (ls' := [some (va_rf (some v0)), some (.int v1), some (.int v2), some (.int y1.1), some (.int y6.1), none]) dX3_readNumber_35 (by decide) rfl rfl ?_
    refine am_bipush (v := 10) dX3_readNumber_37 (by decide) rfl ?_
    refine am_iload_n dX3_readNumber_39 rfl rfl ?_
    refine am_imul dX3_readNumber_40 rfl ?_
    refine am_iload dX3_readNumber_41 rfl rfl ?_
    refine am_iadd dX3_readNumber_43 rfl ?_
    refine am_istore (ls' := [some (va_rf (some v0)), some (.int v1), some (.int v2), some (.int y1.1), some (.int y6.1), some (.int (((10 : Int32) * y1.1) + y6.1))]) dX3_readNumber_44 (by decide) rfl rfl ?_
    refine am_iload_n dX3_readNumber_46 rfl rfl ?_
    refine am_if_le (tgt := 79) dX3_readNumber_47 (by decide) rfl hf (fun hf => ?_) (fun hf => ?_)
    · exact am_we (sfX3_readNumber_79 _ _ _ _ hf) ⟨Or.inl rfl, Or.inr rfl, Or.inl rfl, Or.inr rfl, Or.inl rfl, Or.inl rfl, trivial⟩
    refine am_iload dX3_readNumber_50 rfl rfl ?_
    refine am_iconst (v := -1) dX3_readNumber_52 rfl rfl ?_
    refine am_icmp_eq (tgt := 79) dX3_readNumber_53 (by decide) rfl hf (fun hf => ?_) (fun hf => ?_)
    · exact am_we (sfX3_readNumber_79 _ _ _ _ hf) ⟨Or.inl rfl, Or.inr rfl, Or.inl rfl, Or.inr rfl, Or.inl rfl, Or.inl rfl, trivial⟩
    refine am_iload dX3_readNumber_56 rfl rfl ?_
    refine am_iload_n dX3_readNumber_58 rfl rfl ?_
    refine am_iload_n dX3_readNumber_59 rfl rfl ?_
    refine am_cTi (As := [.int (((10 : Int32) * y1.1) + y6.1), .int v1, .int v2]) (st := []) lk_X3_readNumber_83 rfl (Nat.le_of_ble_eq_true rfl) (Nat.le_of_ble_eq_true rfl) rfl dX3_readNumber_60 rfl hf (fun y8 hf => sfX8_isIn _ _ _ _ y8 hf) (fun y8 _ hf => ?_)
    refine am_if_eq (tgt := 79) dX3_readNumber_63 (by decide) rfl hf (fun hf => ?_) (fun hf => ?_)
    · exact am_we (sfX3_readNumber_79 _ _ _ _ hf) ⟨Or.inl rfl, Or.inr rfl, Or.inl rfl, Or.inr rfl, Or.inl rfl, Or.inl rfl, trivial⟩
    refine am_aload_n dX3_readNumber_66 rfl rfl ?_
    refine am_dup dX3_readNumber_67 (am_c1 _) rfl ?_
    refine am_gi_ dX3_readNumber_68 fl_X3_19 rfl hf (fun x9 _ hf => ?_)
    refine am_iconst (v := 1) dX3_readNumber_71 rfl rfl ?_
    refine am_iadd dX3_readNumber_72 rfl ?_
    refine am_pi_ dX3_readNumber_73 fl_X3_19 fp_3_2 (fun z => by cases z) rfl hf (fun h10 _ hf => ?_)
    refine am_iload dX3_readNumber_76 rfl rfl ?_
    exact am_iret rfl dX3_readNumber_78 hf
  refine am_iconst (v := -1) dX3_readNumber_19 rfl rfl ?_
  exact am_iret rfl dX3_readNumber_20 hf
set_option maxRecDepth 20000 in
set_option maxHeartbeats 4000000 in
theorem sfX3_readSign {G : am_G}  (v0 : Nat) (v1 : Int32) (h : am_H) (y : Int32 × am_H) (hf : fX3_readSign v0 v1 h = some y) : am_Cn G miX3_readSign [va_rf (some v0), .int v1] h (some (.int y.1)) y.2 := by
  refine am_beg (ls := [some (va_rf (some v0)), some (.int v1)]) (by simp only [am_en, am_e1_r, am_e1_i, am_e1_l, am_e1_n]; rfl) ?_
  unfold fX3_readSign at hf
  refine am_aload_n dX3_readSign_0 rfl rfl ?_
  refine am_aload_n dX3_readSign_1 rfl rfl ?_
  refine am_gi_ dX3_readSign_2 fl_X3_19 rfl hf (fun x1 _ hf => ?_)
  refine am_cVi (As := [.int x1]) (st := []) lk_X3_readSign_71 rfl (Nat.le_of_ble_eq_true rfl) (Nat.le_of_ble_eq_true rfl) rfl dX3_readSign_5 rfl hf (fun b3 y2 hf => sfX3_codeAt b3 _ _ y2 hf) (fun b3 y2 _ _ hf => ?_)
  refine am_iload_n dX3_readSign_8 rfl rfl ?_
  refine am_icmp_eq (tgt := 14) dX3_readSign_9 (by decide) rfl hf (fun hf => ?_) (fun hf => ?_)
  · refine am_aload_n dX3_readSign_14 rfl rfl ?_
    refine am_dup dX3_readSign_15 (am_c1 _) rfl ?_
    refine am_gi_ dX3_readSign_16 fl_X3_19 rfl hf (fun x4 _ hf => ?_)
    refine am_iconst (v := 1) dX3_readSign_19 rfl rfl ?_
    refine am_iadd dX3_readSign_20 rfl ?_
    refine am_pi_ dX3_readSign_21 fl_X3_19 fp_3_2 (fun z => by cases z) rfl hf (fun h5 _ hf => ?_)
    refine am_iconst (v := 1) dX3_readSign_24 rfl rfl ?_
    exact am_zret rfl dX3_readSign_25 hf
  refine am_iconst (v := 0) dX3_readSign_12 rfl rfl ?_
  exact am_zret rfl dX3_readSign_13 hf
set_option maxRecDepth 20000 in
set_option maxHeartbeats 4000000 in
theorem sfX0_addVessel {G : am_G}  (v0 : Nat) (v1 : Int32) (v2 : Int32) (v3 : Int32) (h : am_H) (y : am_H) (hf : fX0_addVessel v0 v1 v2 v3 h = some y) : am_Cn G miX0_addVessel [va_rf (some v0), .int v1, .int v2, .int v3] h none y := by
  refine am_beg (ls := [some (va_rf (some v0)), some (.int v1), some (.int v2), some (.int v3)]) (by simp only [am_en, am_e1_r, am_e1_i, am_e1_l, am_e1_n]; rfl) ?_
  unfold fX0_addVessel at hf
  refine am_aload_n dX0_addVessel_0 rfl rfl ?_
  refine am_gi_ dX0_addVessel_1 fl_X0_27 rfl hf (fun x1 _ hf => ?_)
  refine am_iconst (v := 3) dX0_addVessel_4 rfl rfl ?_
  refine am_icmp_ge (tgt := 60) dX0_addVessel_5 (by decide) rfl hf (fun hf => ?_) (fun hf => ?_)
  · exact am_vret rfl dX0_addVessel_60 hf
  refine am_aload_n dX0_addVessel_8 rfl rfl ?_
  refine am_gr_ dX0_addVessel_9 fl_X0_9 rfl hf (fun x2 _ hf => ?_)
  refine am_aload_n dX0_addVessel_12 rfl rfl ?_
  refine am_gi_ dX0_addVessel_13 fl_X0_27 rfl hf (fun x3 _ hf => ?_)
  refine am_iload_n dX0_addVessel_16 rfl rfl ?_
  refine am_iast dX0_addVessel_17 rfl hf (fun h4 _ hf => ?_)
  refine am_aload_n dX0_addVessel_18 rfl rfl ?_
  refine am_gr_ dX0_addVessel_19 fl_X0_15 rfl hf (fun x5 _ hf => ?_)
  refine am_aload_n dX0_addVessel_22 rfl rfl ?_
  refine am_gi_ dX0_addVessel_23 fl_X0_27 rfl hf (fun x6 _ hf => ?_)
  refine am_iload_n dX0_addVessel_26 rfl rfl ?_
  refine am_iast dX0_addVessel_27 rfl hf (fun h7 _ hf => ?_)
  refine am_aload_n dX0_addVessel_28 rfl rfl ?_
  refine am_gr_ dX0_addVessel_29 fl_X0_18 rfl hf (fun x8 _ hf => ?_)
  refine am_aload_n dX0_addVessel_32 rfl rfl ?_
  refine am_gi_ dX0_addVessel_33 fl_X0_27 rfl hf (fun x9 _ hf => ?_)
  refine am_iload_n dX0_addVessel_36 rfl rfl ?_
  refine am_iast dX0_addVessel_37 rfl hf (fun h10 _ hf => ?_)
  refine am_aload_n dX0_addVessel_38 rfl rfl ?_
  refine am_gr_ dX0_addVessel_39 fl_X0_21 rfl hf (fun x11 _ hf => ?_)
  refine am_aload_n dX0_addVessel_42 rfl rfl ?_
  refine am_gi_ dX0_addVessel_43 fl_X0_27 rfl hf (fun x12 _ hf => ?_)
  refine am_iload_n dX0_addVessel_46 rfl rfl ?_
  refine am_iload_n dX0_addVessel_47 rfl rfl ?_
  refine am_imul dX0_addVessel_48 rfl ?_
  refine am_iast dX0_addVessel_49 rfl hf (fun h13 _ hf => ?_)
  refine am_aload_n dX0_addVessel_50 rfl rfl ?_
  refine am_dup dX0_addVessel_51 (am_c1 _) rfl ?_
  refine am_gi_ dX0_addVessel_52 fl_X0_27 rfl hf (fun x14 _ hf => ?_)
  refine am_iconst (v := 1) dX0_addVessel_55 rfl rfl ?_
  refine am_iadd dX0_addVessel_56 rfl ?_
  refine am_pi_ dX0_addVessel_57 fl_X0_27 fp_0_0 (fun z => by cases z) rfl hf (fun h15 _ hf => ?_)
  exact am_vret rfl dX0_addVessel_60 hf
set_option maxRecDepth 20000 in
set_option maxHeartbeats 4000000 in
theorem sfX3_readVessel {G : am_G}  (v0 : Nat) (v1 : Option Nat) (h : am_H) (y : Int32 × am_H) (hf : fX3_readVessel v0 v1 h = some y) : am_Cn G miX3_readVessel [va_rf (some v0), va_rf v1] h (some (.int y.1)) y.2 := by
  refine am_beg (ls := [some (va_rf (some v0)), some (va_rf v1), none, none, none]) (by simp only [am_en, am_e1_r, am_e1_i, am_e1_l, am_e1_n]; rfl) ?_
  unfold fX3_readVessel at hf
  refine am_aload_n dX3_readVessel_0 rfl rfl ?_
  refine am_iconst (v := 1) dX3_readVessel_1 rfl rfl ?_
  refine am_bipush (v := 30) dX3_readVessel_2 (by decide) rfl ?_
  refine am_cVi (As := [.int (1 : Int32), .int (30 : Int32)]) (st := []) lk_X3_readVessel_50 rfl (Nat.le_of_ble_eq_true rfl) (Nat.le_of_ble_eq_true rfl) rfl dX3_readVessel_4 rfl hf (fun b2 y1 hf => sfX3_readNumber b2 _ _ _ y1 hf) (fun b2 y1 _ _ hf => ?_)
  refine am_istore_n (ls' := [some (va_rf (some v0)), some (va_rf v1), some (.int y1.1), none, none]) dX3_readVessel_7 (by decide) (am_s1_r (j := 1) rfl rfl) rfl ?_
  refine am_iload_n dX3_readVessel_8 rfl rfl ?_
  refine am_iconst (v := -1) dX3_readVessel_9 rfl rfl ?_
  refine am_icmp_eq (tgt := 22) dX3_readVessel_10 (by decide) rfl hf (fun hf => ?_) (fun hf => ?_)
  · refine am_iconst (v := 0) dX3_readVessel_22 rfl rfl ?_
    exact am_zret rfl dX3_readVessel_23 hf
  refine am_aload_n dX3_readVessel_13 rfl rfl ?_
  refine am_bipush (v := 120) dX3_readVessel_14 (by decide) rfl ?_
  refine am_cVi (As := [.int (120 : Int32)]) (st := []) lk_X3_readVessel_46 rfl (Nat.le_of_ble_eq_true rfl) (Nat.le_of_ble_eq_true rfl) rfl dX3_readVessel_16 rfl hf (fun b4 y3 hf => sfX3_readSign b4 _ _ y3 hf) (fun b4 y3 _ _ hf => ?_)
  refine am_if_ne (tgt := 24) dX3_readVessel_19 (by decide) rfl hf (fun hf => ?_) (fun hf => ?_)
  · refine am_aload_n dX3_readVessel_24 rfl rfl ?_
    refine am_iconst (v := 1) dX3_readVessel_25 rfl rfl ?_
    refine am_bipush (v := 60) dX3_readVessel_26 (by decide) rfl ?_
    refine am_cVi (As := [.int (1 : Int32), .int (60 : Int32)]) (st := []) lk_X3_readVessel_50 rfl (Nat.le_of_ble_eq_true rfl) (Nat.le_of_ble_eq_true rfl) rfl dX3_readVessel_28 rfl hf (fun b6 y5 hf => sfX3_readNumber b6 _ _ _ y5 hf) (fun b6 y5 _ _ hf => ?_)
    refine am_istore_n (ls' := [some (va_rf (some v0)), some (va_rf v1), some (.int y1.1), some (.int y5.1), none]) dX3_readVessel_31 (by decide) rfl rfl ?_
    refine am_iload_n dX3_readVessel_32 rfl rfl ?_
    refine am_iconst (v := -1) dX3_readVessel_33 rfl rfl ?_
    refine am_icmp_eq (tgt := 46) dX3_readVessel_34 (by decide) rfl hf (fun hf => ?_) (fun hf => ?_)
    · refine am_iconst (v := 0) dX3_readVessel_46 rfl rfl ?_
      exact am_zret rfl dX3_readVessel_47 hf
    refine am_aload_n dX3_readVessel_37 rfl rfl ?_
    refine am_bipush (v := 104) dX3_readVessel_38 (by decide) rfl ?_
    refine am_cVi (As := [.int (104 : Int32)]) (st := []) lk_X3_readVessel_46 rfl (Nat.le_of_ble_eq_true rfl) (Nat.le_of_ble_eq_true rfl) rfl dX3_readVessel_40 rfl hf (fun b8 y7 hf => sfX3_readSign b8 _ _ y7 hf) (fun b8 y7 _ _ hf => ?_)
    refine am_if_ne (tgt := 48) dX3_readVessel_43 (by decide) rfl hf (fun hf => ?_) (fun hf => ?_)
    · refine am_aload_n dX3_readVessel_48 rfl rfl ?_
      refine am_iconst (v := 1) dX3_readVessel_49 rfl rfl ?_
      refine am_bipush (v := 40) dX3_readVessel_50 (by decide) rfl ?_
      refine am_cVi (As := [.int (1 : Int32), .int (40 : Int32)]) (st := []) lk_X3_readVessel_50 rfl (Nat.le_of_ble_eq_true rfl) (Nat.le_of_ble_eq_true rfl) rfl dX3_readVessel_52 rfl hf (fun b10 y9 hf => sfX3_readNumber b10 _ _ _ y9 hf) (fun b10 y9 _ _ hf => ?_)
      refine am_istore (ls' := [some (va_rf (some v0)), some (va_rf v1), some (.int y1.1), some (.int y5.1), some (.int y9.1)]) dX3_readVessel_55 (by decide) rfl rfl ?_
      refine am_iload dX3_readVessel_57 rfl rfl ?_
      refine am_iconst (v := -1) dX3_readVessel_59 rfl rfl ?_
      refine am_icmp_ne (tgt := 65) dX3_readVessel_60 (by decide) rfl hf (fun hf => ?_) (fun hf => ?_)
      · refine am_aload_n dX3_readVessel_65 rfl rfl ?_
        refine am_iload_n dX3_readVessel_66 rfl rfl ?_
        refine am_iload_n dX3_readVessel_67 rfl rfl ?_
        refine am_iload dX3_readVessel_68 rfl rfl ?_
        refine am_cVv (As := [.int y1.1, .int y5.1, .int y9.1]) (st := []) lk_X3_readVessel_54 rfl (Nat.le_of_ble_eq_true rfl) (Nat.le_of_ble_eq_true rfl) rfl dX3_readVessel_70 rfl hf (fun b12 y11 hf => sfX0_addVessel b12 _ _ _ _ y11 hf) (fun b12 y11 _ _ hf => ?_)
        refine am_iconst (v := 1) dX3_readVessel_73 rfl rfl ?_
        exact am_zret rfl dX3_readVessel_74 hf
      refine am_iconst (v := 0) dX3_readVessel_63 rfl rfl ?_
      exact am_zret rfl dX3_readVessel_64 hf
    refine am_iconst (v := 0) dX3_readVessel_46 rfl rfl ?_
    exact am_zret rfl dX3_readVessel_47 hf
  refine am_iconst (v := 0) dX3_readVessel_22 rfl rfl ?_
  exact am_zret rfl dX3_readVessel_23 hf
set_option maxRecDepth 20000 in
set_option maxHeartbeats 4000000 in
theorem sfX3_readVessels_44 {G : am_G}  {k4 : Option Nat → Option Nat → Int32 → Int32 → am_H → Option (Int32 × am_H)} (hk4 : ∀ (v0 : Option Nat) (v1 : Option Nat) (v2 : Int32) (v3 : Int32) (h : am_H) (y : Int32 × am_H), k4 v0 v1 v2 v3 h = some y → am_S G miX3_readVessels 4 [some (va_rf v0), some (va_rf v1), some (.int v2), some (.int v3)] [] h (some (.int y.1)) y.2) (v0 : Option Nat) (v1 : Option Nat) (v3 : Int32) (s0 : Int32) (h : am_H) (y : Int32 × am_H) (hf : fX3_readVessels_44 k4 v0 v1 v3 s0 h = some y) : am_S G miX3_readVessels 44 [some (va_rf v0), some (va_rf v1), none, some (.int v3)] [.int s0] h (some (.int y.1)) y.2 := by
  unfold fX3_readVessels_44 at hf
  refine am_istore_n (ls' := [some (va_rf v0), some (va_rf v1), some (.int s0), some (.int v3)]) dX3_readVessels_44 (by decide) (am_s1_r (j := 1) rfl rfl) rfl ?_
  refine am_iinc (ls' := [some (va_rf v0), some (va_rf v1), some (.int s0), some (.int (v3 + (1 : Int32)))]) dX3_readVessels_45 rfl rfl (by decide) rfl rfl ?_
  refine am_goto (pc' := 4) dX3_readVessels_48 (by decide) ?_
  exact hk4 _ _ _ _ _ _ hf
set_option maxRecDepth 20000 in
set_option maxHeartbeats 4000000 in
theorem sfX3_readVessels_43 {G : am_G}  {k44 : Option Nat → Option Nat → Int32 → Int32 → am_H → Option (Int32 × am_H)} (hk44 : ∀ (v0 : Option Nat) (v1 : Option Nat) (v3 : Int32) (s0 : Int32) (h : am_H) (y : Int32 × am_H), k44 v0 v1 v3 s0 h = some y → am_S G miX3_readVessels 44 [some (va_rf v0), some (va_rf v1), none, some (.int v3)] [.int s0] h (some (.int y.1)) y.2) (v0 : Option Nat) (v1 : Option Nat) (v3 : Int32) (h : am_H) (y : Int32 × am_H) (hf : fX3_readVessels_43 k44 v0 v1 v3 h = some y) : am_S G miX3_readVessels 43 [some (va_rf v0), some (va_rf v1), none, some (.int v3)] [] h (some (.int y.1)) y.2 := by
  unfold fX3_readVessels_43 at hf
  refine am_iconst (v := 0) dX3_readVessels_43 rfl rfl ?_
  exact hk44 _ _ _ _ _ _ hf
set_option maxRecDepth 20000 in
set_option maxHeartbeats 4000000 in
theorem sfX3_readVessels_4 {G : am_G}  : ∀ (n : Nat) (v0 : Option Nat) (v1 : Option Nat) (v2 : Int32) (v3 : Int32) (h : am_H) (y : Int32 × am_H) (hf : fX3_readVessels_4  n v0 v1 v2 v3 h = some y), am_S G miX3_readVessels 4 [some (va_rf v0), some (va_rf v1), some (.int v2), some (.int v3)] [] h (some (.int y.1)) y.2 := by
  intro n
  induction n with
  | zero => intro v0 v1 v2 v3 h y hf; cases hf
  | succ n ih =>
    intro v0 v1 v2 v3 h y hf
    have hf : fX3_readVessels_4_b  (fX3_readVessels_4  n) v0 v1 v2 v3 h = some y := hf
    unfold fX3_readVessels_4_b at hf
    refine am_iload_n dX3_readVessels_4 rfl rfl ?_
    refine am_iconst (v := 3) dX3_readVessels_5 rfl rfl ?_
    refine am_icmp_ge (tgt := 51) dX3_readVessels_6 (by decide) rfl hf (fun hf => ?_) (fun hf => ?_)
    · refine am_iconst (v := 1) dX3_readVessels_51 rfl rfl ?_
      exact am_zret rfl dX3_readVessels_52 hf
    refine am_iload_n dX3_readVessels_9 rfl rfl ?_
    refine am_if_eq (tgt := 51) dX3_readVessels_10 (by decide) rfl hf (fun hf => ?_) (fun hf => ?_)
    · refine am_iconst (v := 1) dX3_readVessels_51 rfl rfl ?_
      exact am_zret rfl dX3_readVessels_52 hf
    refine am_aload_n dX3_readVessels_13 rfl rfl ?_
    refine am_aload_n dX3_readVessels_14 rfl rfl ?_
    refine am_cVi (As := [va_rf v1]) (st := []) lk_X3_readVessels_43 rfl (by simp only [am_e1_r, am_e1_i, am_e1_l, am_e1_n]; exact Nat.le_of_ble_eq_true rfl) (Nat.le_of_ble_eq_true rfl) rfl dX3_readVessels_15 rfl hf (fun b2 y1 hf => sfX3_readVessel b2 _ _ y1 hf) (fun b2 y1 _ _ hf => ?_)
    refine am_if_ne (tgt := 23) dX3_readVessels_18 (by decide) rfl hf (fun hf => ?_) (fun hf => ?_)
    · refine am_iload_n dX3_readVessels_23 rfl rfl ?_
      refine am_iconst (v := 1) dX3_readVessels_24 rfl rfl ?_
      refine am_iadd dX3_readVessels_25 rfl ?_
      refine am_iconst (v := 3) dX3_readVessels_26 rfl rfl ?_
      refine am_icmp_ge (tgt := 43) dX3_readVessels_27 (by decide) rfl hf (fun hf => ?_) (fun hf => ?_)
      · exact am_we ((sfX3_readVessels_43 (sfX3_readVessels_44 ih)) _ _ _ _ _ hf) ⟨Or.inr rfl, Or.inr rfl, Or.inl rfl, Or.inr rfl, trivial⟩
      refine am_aload_n dX3_readVessels_30 rfl rfl ?_
      refine am_bipush (v := 62) dX3_readVessels_31 (by decide) rfl ?_
      refine am_cVi (As := [.int (62 : Int32)]) (st := []) lk_X3_readVessels_46 rfl (Nat.le_of_ble_eq_true rfl) (Nat.le_of_ble_eq_true rfl) rfl dX3_readVessels_33 rfl hf (fun b4 y3 hf => sfX3_readSign b4 _ _ y3 hf) (fun b4 y3 _ _ hf => ?_)
      refine am_if_eq (tgt := 43) dX3_readVessels_36 (by decide) rfl hf (fun hf => ?_) (fun hf => ?_)
      · exact am_we ((sfX3_readVessels_43 (sfX3_readVessels_44 ih)) _ _ _ _ _ hf) ⟨Or.inr rfl, Or.inr rfl, Or.inl rfl, Or.inr rfl, trivial⟩
      refine am_iconst (v := 1) dX3_readVessels_39 rfl rfl ?_
      refine am_goto (pc' := 44) dX3_readVessels_40 (by decide) ?_
      exact am_we ((sfX3_readVessels_44 ih) _ _ _ _ _ _ hf) ⟨Or.inr rfl, Or.inr rfl, Or.inl rfl, Or.inr rfl, trivial⟩
    refine am_iconst (v := 0) dX3_readVessels_21 rfl rfl ?_
    exact am_zret rfl dX3_readVessels_22 hf
set_option maxRecDepth 20000 in
set_option maxHeartbeats 4000000 in
theorem sfX3_readVessels {G : am_G}  (v0 : Nat) (v1 : Option Nat) (h : am_H) (y : Int32 × am_H) (hf : fX3_readVessels v0 v1 h = some y) : am_Cn G miX3_readVessels [va_rf (some v0), va_rf v1] h (some (.int y.1)) y.2 := by
  refine am_beg (ls := [some (va_rf (some v0)), some (va_rf v1), none, none]) (by simp only [am_en, am_e1_r, am_e1_i, am_e1_l, am_e1_n]; rfl) ?_
  unfold fX3_readVessels at hf
  refine am_iconst (v := 1) dX3_readVessels_0 rfl rfl ?_
  refine am_istore_n (ls' := [some (va_rf (some v0)), some (va_rf v1), some (.int (1 : Int32)), none]) dX3_readVessels_1 (by decide) (am_s1_r (j := 1) rfl rfl) rfl ?_
  refine am_iconst (v := 0) dX3_readVessels_2 rfl rfl ?_
  refine am_istore_n (ls' := [some (va_rf (some v0)), some (va_rf v1), some (.int (1 : Int32)), some (.int (0 : Int32))]) dX3_readVessels_3 (by decide) rfl rfl ?_
  exact (sfX3_readVessels_4 _) _ _ _ _ _ _ hf
set_option maxRecDepth 20000 in
set_option maxHeartbeats 4000000 in
theorem sfX3_readCylinder {G : am_G}  (v0 : Nat) (v1 : Option Nat) (h : am_H) (y : Int32 × am_H) (hf : fX3_readCylinder v0 v1 h = some y) : am_Cn G miX3_readCylinder [va_rf (some v0), va_rf v1] h (some (.int y.1)) y.2 := by
  refine am_beg (ls := [some (va_rf (some v0)), some (va_rf v1)]) (by simp only [am_en, am_e1_r, am_e1_i, am_e1_l, am_e1_n]; rfl) ?_
  unfold fX3_readCylinder at hf
  refine am_aload_n dX3_readCylinder_0 rfl rfl ?_
  refine am_bipush (v := 61) dX3_readCylinder_1 (by decide) rfl ?_
  refine am_cVi (As := [.int (61 : Int32)]) (st := []) lk_X3_readCylinder_46 rfl (Nat.le_of_ble_eq_true rfl) (Nat.le_of_ble_eq_true rfl) rfl dX3_readCylinder_3 rfl hf (fun b2 y1 hf => sfX3_readSign b2 _ _ y1 hf) (fun b2 y1 _ _ hf => ?_)
  refine am_if_ne (tgt := 11) dX3_readCylinder_6 (by decide) rfl hf (fun hf => ?_) (fun hf => ?_)
  · refine am_aload_n dX3_readCylinder_11 rfl rfl ?_
    refine am_aload_n dX3_readCylinder_12 rfl rfl ?_
    refine am_iconst (v := 1) dX3_readCylinder_13 rfl rfl ?_
    refine am_bipush (v := 99) dX3_readCylinder_14 (by decide) rfl ?_
    refine am_cVi (As := [.int (1 : Int32), .int (99 : Int32)]) (st := [va_rf v1]) lk_X3_readCylinder_50 rfl (Nat.le_of_ble_eq_true rfl) (by simp only [List.map_cons, List.map_nil, am_c1, am_ci, am_cl]; exact Nat.le_of_ble_eq_true rfl) rfl dX3_readCylinder_16 rfl hf (fun b4 y3 hf => sfX3_readNumber b4 _ _ _ y3 hf) (fun b4 y3 _ _ hf => ?_)
    refine am_pi_ dX3_readCylinder_19 fl_X3_58 fp_0_5 (fun z => by cases z) rfl hf (fun h5 _ hf => ?_)
    refine am_aload_n dX3_readCylinder_22 rfl rfl ?_
    refine am_gi_ dX3_readCylinder_23 fl_X3_58 rfl hf (fun x6 _ hf => ?_)
    refine am_iconst (v := -1) dX3_readCylinder_26 rfl rfl ?_
    refine am_icmp_eq (tgt := 39) dX3_readCylinder_27 (by decide) rfl hf (fun hf => ?_) (fun hf => ?_)
    · refine am_iconst (v := 0) dX3_readCylinder_39 rfl rfl ?_
      exact am_zret rfl dX3_readCylinder_40 hf
    refine am_aload_n dX3_readCylinder_30 rfl rfl ?_
    refine am_bipush (v := 120) dX3_readCylinder_31 (by decide) rfl ?_
    refine am_cVi (As := [.int (120 : Int32)]) (st := []) lk_X3_readCylinder_46 rfl (Nat.le_of_ble_eq_true rfl) (Nat.le_of_ble_eq_true rfl) rfl dX3_readCylinder_33 rfl hf (fun b8 y7 hf => sfX3_readSign b8 _ _ y7 hf) (fun b8 y7 _ _ hf => ?_)
    refine am_if_ne (tgt := 41) dX3_readCylinder_36 (by decide) rfl hf (fun hf => ?_) (fun hf => ?_)
    · refine am_aload_n dX3_readCylinder_41 rfl rfl ?_
      refine am_aload_n dX3_readCylinder_42 rfl rfl ?_
      refine am_iconst (v := 1) dX3_readCylinder_43 rfl rfl ?_
      refine am_bipush (v := 99) dX3_readCylinder_44 (by decide) rfl ?_
      refine am_cVi (As := [.int (1 : Int32), .int (99 : Int32)]) (st := [va_rf v1]) lk_X3_readCylinder_50 rfl (Nat.le_of_ble_eq_true rfl) (by simp only [List.map_cons, List.map_nil, am_c1, am_ci, am_cl]; exact Nat.le_of_ble_eq_true rfl) rfl dX3_readCylinder_46 rfl hf (fun b10 y9 hf => sfX3_readNumber b10 _ _ _ y9 hf) (fun b10 y9 _ _ hf => ?_)
      refine am_pi_ dX3_readCylinder_49 fl_X3_61 fp_0_6 (fun z => by cases z) rfl hf (fun h11 _ hf => ?_)
      refine am_aload_n dX3_readCylinder_52 rfl rfl ?_
      refine am_gi_ dX3_readCylinder_53 fl_X3_61 rfl hf (fun x12 _ hf => ?_)
      refine am_iconst (v := -1) dX3_readCylinder_56 rfl rfl ?_
      refine am_icmp_eq (tgt := 64) dX3_readCylinder_57 (by decide) rfl hf (fun hf => ?_) (fun hf => ?_)
      · refine am_iconst (v := 0) dX3_readCylinder_64 rfl rfl ?_
        exact am_zret rfl dX3_readCylinder_65 hf
      refine am_iconst (v := 1) dX3_readCylinder_60 rfl rfl ?_
      refine am_goto (pc' := 65) dX3_readCylinder_61 (by decide) ?_
      exact am_zret rfl dX3_readCylinder_65 hf
    refine am_iconst (v := 0) dX3_readCylinder_39 rfl rfl ?_
    exact am_zret rfl dX3_readCylinder_40 hf
  refine am_iconst (v := 0) dX3_readCylinder_9 rfl rfl ?_
  exact am_zret rfl dX3_readCylinder_10 hf
set_option maxRecDepth 20000 in
set_option maxHeartbeats 4000000 in
theorem sfX3_readSupply {G : am_G}  (v0 : Nat) (v1 : Option Nat) (h : am_H) (y : Int32 × am_H) (hf : fX3_readSupply v0 v1 h = some y) : am_Cn G miX3_readSupply [va_rf (some v0), va_rf v1] h (some (.int y.1)) y.2 := by
  refine am_beg (ls := [some (va_rf (some v0)), some (va_rf v1)]) (by simp only [am_en, am_e1_r, am_e1_i, am_e1_l, am_e1_n]; rfl) ?_
  unfold fX3_readSupply at hf
  refine am_aload_n dX3_readSupply_0 rfl rfl ?_
  refine am_bipush (v := 59) dX3_readSupply_1 (by decide) rfl ?_
  refine am_cVi (As := [.int (59 : Int32)]) (st := []) lk_X3_readSupply_46 rfl (Nat.le_of_ble_eq_true rfl) (Nat.le_of_ble_eq_true rfl) rfl dX3_readSupply_3 rfl hf (fun b2 y1 hf => sfX3_readSign b2 _ _ y1 hf) (fun b2 y1 _ _ hf => ?_)
  refine am_if_eq (tgt := 18) dX3_readSupply_6 (by decide) rfl hf (fun hf => ?_) (fun hf => ?_)
  · refine am_iconst (v := 0) dX3_readSupply_18 rfl rfl ?_
    exact am_zret rfl dX3_readSupply_19 hf
  refine am_aload_n dX3_readSupply_9 rfl rfl ?_
  refine am_bipush (v := 115) dX3_readSupply_10 (by decide) rfl ?_
  refine am_cVi (As := [.int (115 : Int32)]) (st := []) lk_X3_readSupply_46 rfl (Nat.le_of_ble_eq_true rfl) (Nat.le_of_ble_eq_true rfl) rfl dX3_readSupply_12 rfl hf (fun b4 y3 hf => sfX3_readSign b4 _ _ y3 hf) (fun b4 y3 _ _ hf => ?_)
  refine am_if_ne (tgt := 20) dX3_readSupply_15 (by decide) rfl hf (fun hf => ?_) (fun hf => ?_)
  · refine am_aload_n dX3_readSupply_20 rfl rfl ?_
    refine am_aload_n dX3_readSupply_21 rfl rfl ?_
    refine am_iconst (v := 0) dX3_readSupply_22 rfl rfl ?_
    refine am_bipush (v := 60) dX3_readSupply_23 (by decide) rfl ?_
    refine am_cVi (As := [.int (0 : Int32), .int (60 : Int32)]) (st := [va_rf v1]) lk_X3_readSupply_50 rfl (Nat.le_of_ble_eq_true rfl) (by simp only [List.map_cons, List.map_nil, am_c1, am_ci, am_cl]; exact Nat.le_of_ble_eq_true rfl) rfl dX3_readSupply_25 rfl hf (fun b6 y5 hf => sfX3_readNumber b6 _ _ _ y5 hf) (fun b6 y5 _ _ hf => ?_)
    refine am_pi_ dX3_readSupply_28 fl_X3_64 fp_0_7 (fun z => by cases z) rfl hf (fun h7 _ hf => ?_)
    refine am_aload_n dX3_readSupply_31 rfl rfl ?_
    refine am_gi_ dX3_readSupply_32 fl_X3_64 rfl hf (fun x8 _ hf => ?_)
    refine am_iconst (v := -1) dX3_readSupply_35 rfl rfl ?_
    refine am_icmp_eq (tgt := 43) dX3_readSupply_36 (by decide) rfl hf (fun hf => ?_) (fun hf => ?_)
    · refine am_iconst (v := 0) dX3_readSupply_43 rfl rfl ?_
      exact am_zret rfl dX3_readSupply_44 hf
    refine am_iconst (v := 1) dX3_readSupply_39 rfl rfl ?_
    refine am_goto (pc' := 44) dX3_readSupply_40 (by decide) ?_
    exact am_zret rfl dX3_readSupply_44 hf
  refine am_iconst (v := 0) dX3_readSupply_18 rfl rfl ?_
  exact am_zret rfl dX3_readSupply_19 hf
set_option maxRecDepth 20000 in
set_option maxHeartbeats 4000000 in
theorem sfX0_addMark {G : am_G}  (v0 : Nat) (v1 : Int32) (h : am_H) (y : am_H) (hf : fX0_addMark v0 v1 h = some y) : am_Cn G miX0_addMark [va_rf (some v0), .int v1] h none y := by
  refine am_beg (ls := [some (va_rf (some v0)), some (.int v1)]) (by simp only [am_en, am_e1_r, am_e1_i, am_e1_l, am_e1_n]; rfl) ?_
  unfold fX0_addMark at hf
  refine am_aload_n dX0_addMark_0 rfl rfl ?_
  refine am_gi_ dX0_addMark_1 fl_X0_40 rfl hf (fun x1 _ hf => ?_)
  refine am_bipush (v := 12) dX0_addMark_4 (by decide) rfl ?_
  refine am_icmp_ge (tgt := 29) dX0_addMark_6 (by decide) rfl hf (fun hf => ?_) (fun hf => ?_)
  · exact am_vret rfl dX0_addMark_29 hf
  refine am_aload_n dX0_addMark_9 rfl rfl ?_
  refine am_gr_ dX0_addMark_10 fl_X0_24 rfl hf (fun x2 _ hf => ?_)
  refine am_aload_n dX0_addMark_13 rfl rfl ?_
  refine am_gi_ dX0_addMark_14 fl_X0_40 rfl hf (fun x3 _ hf => ?_)
  refine am_iload_n dX0_addMark_17 rfl rfl ?_
  refine am_iast dX0_addMark_18 rfl hf (fun h4 _ hf => ?_)
  refine am_aload_n dX0_addMark_19 rfl rfl ?_
  refine am_dup dX0_addMark_20 (am_c1 _) rfl ?_
  refine am_gi_ dX0_addMark_21 fl_X0_40 rfl hf (fun x5 _ hf => ?_)
  refine am_iconst (v := 1) dX0_addMark_24 rfl rfl ?_
  refine am_iadd dX0_addMark_25 rfl ?_
  refine am_pi_ dX0_addMark_26 fl_X0_40 fp_0_8 (fun z => by cases z) rfl hf (fun h6 _ hf => ?_)
  exact am_vret rfl dX0_addMark_29 hf
set_option maxRecDepth 20000 in
set_option maxHeartbeats 4000000 in
theorem sfX3_readMarks_89 {G : am_G}  {k27 : Option Nat → Option Nat → Int32 → Int32 → Int32 → am_H → Option (Int32 × am_H)} (hk27 : ∀ (v0 : Option Nat) (v1 : Option Nat) (v2 : Int32) (v3 : Int32) (v4 : Int32) (h : am_H) (y : Int32 × am_H), k27 v0 v1 v2 v3 v4 h = some y → am_S G miX3_readMarks 27 [some (va_rf v0), some (va_rf v1), some (.int v2), some (.int v3), some (.int v4)] [] h (some (.int y.1)) y.2) (v0 : Option Nat) (v1 : Option Nat) (v2 : Int32) (v4 : Int32) (s0 : Int32) (h : am_H) (y : Int32 × am_H) (hf : fX3_readMarks_89 k27 v0 v1 v2 v4 s0 h = some y) : am_S G miX3_readMarks 89 [some (va_rf v0), some (va_rf v1), some (.int v2), none, some (.int v4)] [.int s0] h (some (.int y.1)) y.2 := by
  unfold fX3_readMarks_89 at hf
  refine am_istore_n (ls' := [some (va_rf v0), some (va_rf v1), some (.int v2), some (.int s0), some (.int v4)]) dX3_readMarks_89 (by decide) rfl rfl ?_
  refine am_iinc (ls' := [some (va_rf v0), some (va_rf v1), some (.int v2), some (.int s0), some (.int (v4 + (1 : Int32)))]) dX3_readMarks_90 rfl rfl (by decide) rfl rfl ?_
  refine am_goto (pc' := 27) dX3_readMarks_93 (by decide) ?_
  exact hk27 _ _ _ _ _ _ _ hf
set_option maxRecDepth 20000 in
set_option maxHeartbeats 4000000 in
theorem sfX3_readMarks_88 {G : am_G}  {k89 : Option Nat → Option Nat → Int32 → Int32 → Int32 → am_H → Option (Int32 × am_H)} (hk89 : ∀ (v0 : Option Nat) (v1 : Option Nat) (v2 : Int32) (v4 : Int32) (s0 : Int32) (h : am_H) (y : Int32 × am_H), k89 v0 v1 v2 v4 s0 h = some y → am_S G miX3_readMarks 89 [some (va_rf v0), some (va_rf v1), some (.int v2), none, some (.int v4)] [.int s0] h (some (.int y.1)) y.2) (v0 : Option Nat) (v1 : Option Nat) (v2 : Int32) (v4 : Int32) (h : am_H) (y : Int32 × am_H) (hf : fX3_readMarks_88 k89 v0 v1 v2 v4 h = some y) : am_S G miX3_readMarks 88 [some (va_rf v0), some (va_rf v1), some (.int v2), none, some (.int v4)] [] h (some (.int y.1)) y.2 := by
  unfold fX3_readMarks_88 at hf
  refine am_iconst (v := 0) dX3_readMarks_88 rfl rfl ?_
  exact hk89 _ _ _ _ _ _ _ hf
set_option maxRecDepth 20000 in
set_option maxHeartbeats 4000000 in
theorem sfX3_readMarks_27 {G : am_G}  : ∀ (n : Nat) (v0 : Option Nat) (v1 : Option Nat) (v2 : Int32) (v3 : Int32) (v4 : Int32) (h : am_H) (y : Int32 × am_H) (hf : fX3_readMarks_27  n v0 v1 v2 v3 v4 h = some y), am_S G miX3_readMarks 27 [some (va_rf v0), some (va_rf v1), some (.int v2), some (.int v3), some (.int v4)] [] h (some (.int y.1)) y.2 := by
  intro n
  induction n with
  | zero => intro v0 v1 v2 v3 v4 h y hf; cases hf
  | succ n ih =>
    intro v0 v1 v2 v3 v4 h y hf
    have hf : fX3_readMarks_27_b  (fX3_readMarks_27  n) v0 v1 v2 v3 v4 h = some y := hf
    unfold fX3_readMarks_27_b at hf
    refine am_iload dX3_readMarks_27 rfl rfl ?_
    refine am_bipush (v := 12) dX3_readMarks_29 (by decide) rfl ?_
    refine am_icmp_ge (tgt := 96) dX3_readMarks_31 (by decide) rfl hf (fun hf => ?_) (fun hf => ?_)
    · refine am_iconst (v := 1) dX3_readMarks_96 rfl rfl ?_
      exact am_zret rfl dX3_readMarks_97 hf
    refine am_iload_n dX3_readMarks_34 rfl rfl ?_
    refine am_if_eq (tgt := 96) dX3_readMarks_35 (by decide) rfl hf (fun hf => ?_) (fun hf => ?_)
    · refine am_iconst (v := 1) dX3_readMarks_96 rfl rfl ?_
      exact am_zret rfl dX3_readMarks_97 hf
    refine am_aload_n dX3_readMarks_38 rfl rfl ?_
    refine am_iload_n dX3_readMarks_39 rfl rfl ?_
    refine am_iconst (v := 1) dX3_readMarks_40 rfl rfl ?_
    refine am_iadd dX3_readMarks_41 rfl ?_
    refine am_bipush (v := 99) dX3_readMarks_42 (by decide) rfl ?_
    refine am_cVi (As := [.int (v2 + (1 : Int32)), .int (99 : Int32)]) (st := []) lk_X3_readMarks_50 rfl (Nat.le_of_ble_eq_true rfl) (Nat.le_of_ble_eq_true rfl) rfl dX3_readMarks_44 rfl hf (fun b2 y1 hf => sfX3_readNumber b2 _ _ _ y1 hf) (fun b2 y1 _ _ hf => ?_)
    refine am_istore_n (ls' := [some (va_rf v0), some (va_rf v1), some (.int y1.1), some (.int v3), some (.int v4)]) dX3_readMarks_47 (by decide) (am_s1_r (j := 1) rfl rfl) rfl ?_
    refine am_iload_n dX3_readMarks_48 rfl rfl ?_
    refine am_iconst (v := -1) dX3_readMarks_49 rfl rfl ?_
    refine am_icmp_ne (tgt := 55) dX3_readMarks_50 (by decide) rfl hf (fun hf => ?_) (fun hf => ?_)
    · refine am_aload_n dX3_readMarks_55 rfl rfl ?_
      refine am_iload_n dX3_readMarks_56 rfl rfl ?_
      refine am_cVv (As := [.int y1.1]) (st := []) lk_X3_readMarks_67 rfl (Nat.le_of_ble_eq_true rfl) (Nat.le_of_ble_eq_true rfl) rfl dX3_readMarks_57 rfl hf (fun b4 y3 hf => sfX0_addMark b4 _ _ y3 hf) (fun b4 y3 _ _ hf => ?_)
      refine am_iload dX3_readMarks_60 rfl rfl ?_
      refine am_iconst (v := 1) dX3_readMarks_62 rfl rfl ?_
      refine am_iadd dX3_readMarks_63 rfl ?_
      refine am_bipush (v := 12) dX3_readMarks_64 (by decide) rfl ?_
      refine am_icmp_ge (tgt := 88) dX3_readMarks_66 (by decide) rfl hf (fun hf => ?_) (fun hf => ?_)
      · exact am_we ((sfX3_readMarks_88 (sfX3_readMarks_89 ih)) _ _ _ _ _ _ hf) ⟨Or.inr rfl, Or.inr rfl, Or.inr rfl, Or.inl rfl, Or.inr rfl, trivial⟩
      refine am_iload_n dX3_readMarks_69 rfl rfl ?_
      refine am_bipush (v := 99) dX3_readMarks_70 (by decide) rfl ?_
      refine am_icmp_ge (tgt := 88) dX3_readMarks_72 (by decide) rfl hf (fun hf => ?_) (fun hf => ?_)
      · exact am_we ((sfX3_readMarks_88 (sfX3_readMarks_89 ih)) _ _ _ _ _ _ hf) ⟨Or.inr rfl, Or.inr rfl, Or.inr rfl, Or.inl rfl, Or.inr rfl, trivial⟩
      refine am_aload_n dX3_readMarks_75 rfl rfl ?_
      refine am_bipush (v := 44) dX3_readMarks_76 (by decide) rfl ?_
      refine am_cVi (As := [.int (44 : Int32)]) (st := []) lk_X3_readMarks_46 rfl (Nat.le_of_ble_eq_true rfl) (Nat.le_of_ble_eq_true rfl) rfl dX3_readMarks_78 rfl hf (fun b6 y5 hf => sfX3_readSign b6 _ _ y5 hf) (fun b6 y5 _ _ hf => ?_)
      refine am_if_eq (tgt := 88) dX3_readMarks_81 (by decide) rfl hf (fun hf => ?_) (fun hf => ?_)
      · exact am_we ((sfX3_readMarks_88 (sfX3_readMarks_89 ih)) _ _ _ _ _ _ hf) ⟨Or.inr rfl, Or.inr rfl, Or.inr rfl, Or.inl rfl, Or.inr rfl, trivial⟩
      refine am_iconst (v := 1) dX3_readMarks_84 rfl rfl ?_
      refine am_goto (pc' := 89) dX3_readMarks_85 (by decide) ?_
      exact am_we ((sfX3_readMarks_89 ih) _ _ _ _ _ _ _ hf) ⟨Or.inr rfl, Or.inr rfl, Or.inr rfl, Or.inl rfl, Or.inr rfl, trivial⟩
    refine am_iconst (v := 0) dX3_readMarks_53 rfl rfl ?_
    exact am_zret rfl dX3_readMarks_54 hf
set_option maxRecDepth 20000 in
set_option maxHeartbeats 4000000 in
theorem sfX3_readMarks {G : am_G}  (v0 : Nat) (v1 : Option Nat) (h : am_H) (y : Int32 × am_H) (hf : fX3_readMarks v0 v1 h = some y) : am_Cn G miX3_readMarks [va_rf (some v0), va_rf v1] h (some (.int y.1)) y.2 := by
  refine am_beg (ls := [some (va_rf (some v0)), some (va_rf v1), none, none, none]) (by simp only [am_en, am_e1_r, am_e1_i, am_e1_l, am_e1_n]; rfl) ?_
  unfold fX3_readMarks at hf
  refine am_aload_n dX3_readMarks_0 rfl rfl ?_
  refine am_bipush (v := 59) dX3_readMarks_1 (by decide) rfl ?_
  refine am_cVi (As := [.int (59 : Int32)]) (st := []) lk_X3_readMarks_46 rfl (Nat.le_of_ble_eq_true rfl) (Nat.le_of_ble_eq_true rfl) rfl dX3_readMarks_3 rfl hf (fun b2 y1 hf => sfX3_readSign b2 _ _ y1 hf) (fun b2 y1 _ _ hf => ?_)
  refine am_if_eq (tgt := 18) dX3_readMarks_6 (by decide) rfl hf (fun hf => ?_) (fun hf => ?_)
  · refine am_iconst (v := 0) dX3_readMarks_18 rfl rfl ?_
    exact am_zret rfl dX3_readMarks_19 hf
  refine am_aload_n dX3_readMarks_9 rfl rfl ?_
  refine am_bipush (v := 109) dX3_readMarks_10 (by decide) rfl ?_
  refine am_cVi (As := [.int (109 : Int32)]) (st := []) lk_X3_readMarks_46 rfl (Nat.le_of_ble_eq_true rfl) (Nat.le_of_ble_eq_true rfl) rfl dX3_readMarks_12 rfl hf (fun b4 y3 hf => sfX3_readSign b4 _ _ y3 hf) (fun b4 y3 _ _ hf => ?_)
  refine am_if_ne (tgt := 20) dX3_readMarks_15 (by decide) rfl hf (fun hf => ?_) (fun hf => ?_)
  · refine am_iconst (v := 0) dX3_readMarks_20 rfl rfl ?_
    refine am_istore_n (ls' := [some (va_rf (some v0)), some (va_rf v1), some (.int (0 : Int32)), none, none]) dX3_readMarks_21 (by decide) (am_s1_r (j := 1) rfl rfl) rfl ?_
    refine am_iconst (v := 1) dX3_readMarks_22 rfl rfl ?_
    refine am_istore_n (ls' := [some (va_rf (some v0)), some (va_rf v1), some (.int (0 : Int32)), some (.int (1 : Int32)), none]) dX3_readMarks_23 (by decide) rfl rfl ?_
    refine am_iconst (v := 0) dX3_readMarks_24 rfl rfl ?_
    refine am_istore (ls' := [some (va_rf (some v0)), some (va_rf v1), some (.int (0 : Int32)), some (.int (1 : Int32)), some (.int (0 : Int32))]) dX3_readMarks_25 (by decide) rfl rfl ?_
    exact (sfX3_readMarks_27 _) _ _ _ _ _ _ _ hf
  refine am_iconst (v := 0) dX3_readMarks_18 rfl rfl ?_
  exact am_zret rfl dX3_readMarks_19 hf
set_option maxRecDepth 20000 in
set_option maxHeartbeats 4000000 in
theorem sfX3_readClock {G : am_G}  (v0 : Nat) (v1 : Option Nat) (h : am_H) (y : Int32 × am_H) (hf : fX3_readClock v0 v1 h = some y) : am_Cn G miX3_readClock [va_rf (some v0), va_rf v1] h (some (.int y.1)) y.2 := by
  refine am_beg (ls := [some (va_rf (some v0)), some (va_rf v1)]) (by simp only [am_en, am_e1_r, am_e1_i, am_e1_l, am_e1_n]; rfl) ?_
  unfold fX3_readClock at hf
  refine am_aload_n dX3_readClock_0 rfl rfl ?_
  refine am_iconst (v := 0) dX3_readClock_1 rfl rfl ?_
  refine am_pi_ dX3_readClock_2 fl_X3_19 fp_3_2 (fun z => by cases z) rfl hf (fun h1 _ hf => ?_)
  refine am_aload_n dX3_readClock_5 rfl rfl ?_
  refine am_iconst (v := 0) dX3_readClock_6 rfl rfl ?_
  refine am_pi_ dX3_readClock_7 fl_X3_22 fp_0_0 (fun z => by cases z) rfl hf (fun h2 _ hf => ?_)
  refine am_aload_n dX3_readClock_10 rfl rfl ?_
  refine am_iconst (v := 0) dX3_readClock_11 rfl rfl ?_
  refine am_pi_ dX3_readClock_12 fl_X3_27 fp_0_8 (fun z => by cases z) rfl hf (fun h3 _ hf => ?_)
  refine am_aload_n dX3_readClock_15 rfl rfl ?_
  refine am_aload_n dX3_readClock_16 rfl rfl ?_
  refine am_cVi (As := [va_rf v1]) (st := []) lk_X3_readClock_30 rfl (by simp only [am_e1_r, am_e1_i, am_e1_l, am_e1_n]; exact Nat.le_of_ble_eq_true rfl) (Nat.le_of_ble_eq_true rfl) rfl dX3_readClock_17 rfl hf (fun b5 y4 hf => sfX3_readVessels b5 _ _ y4 hf) (fun b5 y4 _ _ hf => ?_)
  refine am_if_eq (tgt := 62) dX3_readClock_20 (by decide) rfl hf (fun hf => ?_) (fun hf => ?_)
  · refine am_iconst (v := 0) dX3_readClock_62 rfl rfl ?_
    exact am_zret rfl dX3_readClock_63 hf
  refine am_aload_n dX3_readClock_23 rfl rfl ?_
  refine am_aload_n dX3_readClock_24 rfl rfl ?_
  refine am_cVi (As := [va_rf v1]) (st := []) lk_X3_readClock_34 rfl (by simp only [am_e1_r, am_e1_i, am_e1_l, am_e1_n]; exact Nat.le_of_ble_eq_true rfl) (Nat.le_of_ble_eq_true rfl) rfl dX3_readClock_25 rfl hf (fun b7 y6 hf => sfX3_readCylinder b7 _ _ y6 hf) (fun b7 y6 _ _ hf => ?_)
  refine am_if_eq (tgt := 62) dX3_readClock_28 (by decide) rfl hf (fun hf => ?_) (fun hf => ?_)
  · refine am_iconst (v := 0) dX3_readClock_62 rfl rfl ?_
    exact am_zret rfl dX3_readClock_63 hf
  refine am_aload_n dX3_readClock_31 rfl rfl ?_
  refine am_aload_n dX3_readClock_32 rfl rfl ?_
  refine am_cVi (As := [va_rf v1]) (st := []) lk_X3_readClock_37 rfl (by simp only [am_e1_r, am_e1_i, am_e1_l, am_e1_n]; exact Nat.le_of_ble_eq_true rfl) (Nat.le_of_ble_eq_true rfl) rfl dX3_readClock_33 rfl hf (fun b9 y8 hf => sfX3_readSupply b9 _ _ y8 hf) (fun b9 y8 _ _ hf => ?_)
  refine am_if_eq (tgt := 62) dX3_readClock_36 (by decide) rfl hf (fun hf => ?_) (fun hf => ?_)
  · refine am_iconst (v := 0) dX3_readClock_62 rfl rfl ?_
    exact am_zret rfl dX3_readClock_63 hf
  refine am_aload_n dX3_readClock_39 rfl rfl ?_
  refine am_aload_n dX3_readClock_40 rfl rfl ?_
  refine am_cVi (As := [va_rf v1]) (st := []) lk_X3_readClock_40 rfl (by simp only [am_e1_r, am_e1_i, am_e1_l, am_e1_n]; exact Nat.le_of_ble_eq_true rfl) (Nat.le_of_ble_eq_true rfl) rfl dX3_readClock_41 rfl hf (fun b11 y10 hf => sfX3_readMarks b11 _ _ y10 hf) (fun b11 y10 _ _ hf => ?_)
  refine am_if_eq (tgt := 62) dX3_readClock_44 (by decide) rfl hf (fun hf => ?_) (fun hf => ?_)
  · refine am_iconst (v := 0) dX3_readClock_62 rfl rfl ?_
    exact am_zret rfl dX3_readClock_63 hf
  refine am_aload_n dX3_readClock_47 rfl rfl ?_
  refine am_gi_ dX3_readClock_48 fl_X3_19 rfl hf (fun x12 _ hf => ?_)
  refine am_aload_n dX3_readClock_51 rfl rfl ?_
  refine am_gi_ dX3_readClock_52 fl_X3_15 rfl hf (fun x13 _ hf => ?_)
  refine am_icmp_ne (tgt := 62) dX3_readClock_55 (by decide) rfl hf (fun hf => ?_) (fun hf => ?_)
  · refine am_iconst (v := 0) dX3_readClock_62 rfl rfl ?_
    exact am_zret rfl dX3_readClock_63 hf
  refine am_iconst (v := 1) dX3_readClock_58 rfl rfl ?_
  refine am_goto (pc' := 63) dX3_readClock_59 (by decide) ?_
  exact am_zret rfl dX3_readClock_63 hf
set_option maxRecDepth 20000 in
set_option maxHeartbeats 4000000 in
theorem sfX8_fault {G : am_G}  (v0 : Nat) (h : am_H) (y : Int32 × am_H) (hf : fX8_fault v0 h = some y) : am_Cn G miX8_fault [va_rf (some v0)] h (some (.int y.1)) y.2 := by
  refine am_beg (ls := [some (va_rf (some v0))]) (by simp only [am_en, am_e1_r, am_e1_i, am_e1_l, am_e1_n]; rfl) ?_
  unfold fX8_fault at hf
  refine am_aload_n dX8_fault_0 rfl rfl ?_
  refine am_gr_ dX8_fault_1 fl_X8_30 rfl hf (fun x1 _ hf => ?_)
  refine am_aload_n dX8_fault_4 rfl rfl ?_
  refine am_gr_ dX8_fault_5 fl_X8_45 rfl hf (fun x2 _ hf => ?_)
  refine am_cVi (As := [va_rf x2]) (st := []) lk_X8_fault_103 rfl (by simp only [am_e1_r, am_e1_i, am_e1_l, am_e1_n]; exact Nat.le_of_ble_eq_true rfl) (Nat.le_of_ble_eq_true rfl) rfl dX8_fault_8 rfl hf (fun b4 y3 hf => sfX3_readClock b4 _ _ y3 hf) (fun b4 y3 _ _ hf => ?_)
  refine am_pop dX8_fault_11 (rfl) rfl ?_
  refine am_aload_n dX8_fault_12 rfl rfl ?_
  refine am_gr_ dX8_fault_13 fl_X8_30 rfl hf (fun x5 _ hf => ?_)
  refine am_gi_ dX8_fault_16 fl_X8_107 rfl hf (fun x6 _ hf => ?_)
  exact am_iret rfl dX8_fault_19 hf
set_option maxRecDepth 20000 in
set_option maxHeartbeats 4000000 in
theorem sfX9_within {G : am_G}  (v0 : Int32) (v1 : Int32) (v2 : Int32) (h : am_H) (y : Int32 × am_H) (hf : fX9_within v0 v1 v2 h = some y) : am_Cn G miX9_within [.int v0, .int v1, .int v2] h (some (.int y.1)) y.2 := by
  refine am_beg (ls := [some (.int v0), some (.int v1), some (.int v2)]) (by simp only [am_en, am_e1_r, am_e1_i, am_e1_l, am_e1_n]; rfl) ?_
  unfold fX9_within at hf
  refine am_iload_n dX9_within_0 rfl rfl ?_
  refine am_iload_n dX9_within_1 rfl rfl ?_
  refine am_icmp_lt (tgt := 14) dX9_within_2 (by decide) rfl hf (fun hf => ?_) (fun hf => ?_)
  · refine am_iconst (v := 0) dX9_within_14 rfl rfl ?_
    exact am_zret rfl dX9_within_15 hf
  refine am_iload_n dX9_within_5 rfl rfl ?_
  refine am_iload_n dX9_within_6 rfl rfl ?_
  refine am_icmp_gt (tgt := 14) dX9_within_7 (by decide) rfl hf (fun hf => ?_) (fun hf => ?_)
  · refine am_iconst (v := 0) dX9_within_14 rfl rfl ?_
    exact am_zret rfl dX9_within_15 hf
  refine am_iconst (v := 1) dX9_within_10 rfl rfl ?_
  refine am_goto (pc' := 15) dX9_within_11 (by decide) ?_
  exact am_zret rfl dX9_within_15 hf
set_option maxRecDepth 20000 in
set_option maxHeartbeats 4000000 in
theorem sfX9_isDigit {G : am_G}  (v0 : Int32) (h : am_H) (y : Int32 × am_H) (hf : fX9_isDigit v0 h = some y) : am_Cn G miX9_isDigit [.int v0] h (some (.int y.1)) y.2 := by
  refine am_beg (ls := [some (.int v0)]) (by simp only [am_en, am_e1_r, am_e1_i, am_e1_l, am_e1_n]; rfl) ?_
  unfold fX9_isDigit at hf
  refine am_iload_n dX9_isDigit_0 rfl rfl ?_
  refine am_bipush (v := 48) dX9_isDigit_1 (by decide) rfl ?_
  refine am_bipush (v := 57) dX9_isDigit_3 (by decide) rfl ?_
  refine am_cSi (As := [.int v0, .int (48 : Int32), .int (57 : Int32)]) (st := []) lk_X9_isDigit_132 rfl (Nat.le_of_ble_eq_true rfl) (Nat.le_of_ble_eq_true rfl) rfl dX9_isDigit_5 rfl hf (fun y1 hf => sfX9_within _ _ _ _ y1 hf) (fun y1 _ hf => ?_)
  exact am_zret rfl dX9_isDigit_8 hf
set_option maxRecDepth 20000 in
set_option maxHeartbeats 4000000 in
theorem sfX9_markAhead {G : am_G}  (v0 : Nat) (h : am_H) (y : Int32 × am_H) (hf : fX9_markAhead v0 h = some y) : am_Cn G miX9_markAhead [va_rf (some v0)] h (some (.int y.1)) y.2 := by
  refine am_beg (ls := [some (va_rf (some v0))]) (by simp only [am_en, am_e1_r, am_e1_i, am_e1_l, am_e1_n]; rfl) ?_
  unfold fX9_markAhead at hf
  refine am_aload_n dX9_markAhead_0 rfl rfl ?_
  refine am_gi_ dX9_markAhead_1 fl_X9_136 rfl hf (fun x1 _ hf => ?_)
  refine am_if_ne (tgt := 11) dX9_markAhead_4 (by decide) rfl hf (fun hf => ?_) (fun hf => ?_)
  · refine am_aload_n dX9_markAhead_11 rfl rfl ?_
    refine am_gr_ dX9_markAhead_12 fl_X9_93 rfl hf (fun x2 _ hf => ?_)
    refine am_aload_n dX9_markAhead_15 rfl rfl ?_
    refine am_gi_ dX9_markAhead_16 fl_X9_136 rfl hf (fun x3 _ hf => ?_)
    refine am_iconst (v := 1) dX9_markAhead_19 rfl rfl ?_
    refine am_isub dX9_markAhead_20 rfl ?_
    refine am_iald dX9_markAhead_21 rfl hf (fun x4 _ hf => ?_)
    exact am_iret rfl dX9_markAhead_22 hf
  refine am_iconst (v := 0) dX9_markAhead_7 rfl rfl ?_
  refine am_goto (pc' := 22) dX9_markAhead_8 (by decide) ?_
  exact am_iret rfl dX9_markAhead_22 hf
set_option maxRecDepth 20000 in
set_option maxHeartbeats 4000000 in
theorem sfX9_most {G : am_G}  (v0 : Int32) (h : am_H) (y : Int32 × am_H) (hf : fX9_most v0 h = some y) : am_Cn G miX9_most [.int v0] h (some (.int y.1)) y.2 := by
  refine am_beg (ls := [some (.int v0)]) (by simp only [am_en, am_e1_r, am_e1_i, am_e1_l, am_e1_n]; rfl) ?_
  unfold fX9_most at hf
  refine am_iload_n dX9_most_0 rfl rfl ?_
  refine am_if_ne (tgt := 9) dX9_most_1 (by decide) rfl hf (fun hf => ?_) (fun hf => ?_)
  · refine am_iload_n dX9_most_9 rfl rfl ?_
    refine am_iconst (v := 1) dX9_most_10 rfl rfl ?_
    refine am_icmp_ne (tgt := 19) dX9_most_11 (by decide) rfl hf (fun hf => ?_) (fun hf => ?_)
    · refine am_iload_n dX9_most_19 rfl rfl ?_
      refine am_iconst (v := 2) dX9_most_20 rfl rfl ?_
      refine am_icmp_ne (tgt := 29) dX9_most_21 (by decide) rfl hf (fun hf => ?_) (fun hf => ?_)
      · refine am_iload_n dX9_most_29 rfl rfl ?_
        refine am_iconst (v := 5) dX9_most_30 rfl rfl ?_
        refine am_icmp_ne (tgt := 39) dX9_most_31 (by decide) rfl hf (fun hf => ?_) (fun hf => ?_)
        · refine am_bipush (v := 99) dX9_most_39 (by decide) rfl ?_
          exact am_iret rfl dX9_most_41 hf
        refine am_bipush (v := 60) dX9_most_34 (by decide) rfl ?_
        refine am_goto (pc' := 41) dX9_most_36 (by decide) ?_
        exact am_iret rfl dX9_most_41 hf
      refine am_bipush (v := 40) dX9_most_24 (by decide) rfl ?_
      refine am_goto (pc' := 41) dX9_most_26 (by decide) ?_
      exact am_iret rfl dX9_most_41 hf
    refine am_bipush (v := 60) dX9_most_14 (by decide) rfl ?_
    refine am_goto (pc' := 41) dX9_most_16 (by decide) ?_
    exact am_iret rfl dX9_most_41 hf
  refine am_bipush (v := 30) dX9_most_4 (by decide) rfl ?_
  refine am_goto (pc' := 41) dX9_most_6 (by decide) ?_
  exact am_iret rfl dX9_most_41 hf
set_option maxRecDepth 20000 in
set_option maxHeartbeats 4000000 in
theorem sfX9_fits_51 {G : am_G}  (v3 : Int32) (h : am_H) (y : Int32 × am_H) (hf : fX9_fits_51  v3 h = some y) : am_S G miX9_fits 51 [none, none, none, some (.int v3)] [] h (some (.int y.1)) y.2 := by
  unfold fX9_fits_51 at hf
  refine am_iload_n dX9_fits_51 rfl rfl ?_
  refine am_if_eq (tgt := 59) dX9_fits_52 (by decide) rfl hf (fun hf => ?_) (fun hf => ?_)
  · refine am_iconst (v := 0) dX9_fits_59 rfl rfl ?_
    exact am_zret rfl dX9_fits_60 hf
  refine am_iconst (v := 1) dX9_fits_55 rfl rfl ?_
  refine am_goto (pc' := 60) dX9_fits_56 (by decide) ?_
  exact am_zret rfl dX9_fits_60 hf
