/-! printed proofs of the printed functions, 6 -/
set_option maxRecDepth 20000 in
set_option maxHeartbeats 4000000 in
theorem sfX5_drip_26 {G : am_G}  : ∀ (n : Nat) (v0 : Option Nat) (v1 : Int32) (v2 : Int32) (v3 : Int32) (h : am_H) (y : am_H) (hf : fX5_drip_26  n v0 v1 v2 v3 h = some y), am_S G miX5_drip 26 [some (va_rf v0), some (.int v1), some (.int v2), some (.int v3), none, none, none] [] h none y := by
  intro n
  induction n with
  | zero => intro v0 v1 v2 v3 h y hf; cases hf
  | succ n ih =>
    intro v0 v1 v2 v3 h y hf
    have hf : fX5_drip_26_b  (fX5_drip_26  n) v0 v1 v2 v3 h = some y := hf
    unfold fX5_drip_26_b at hf
    refine am_iload_n dX5_drip_26 rfl rfl ?_
    refine am_aload_n dX5_drip_27 rfl rfl ?_
    refine am_gr_ dX5_drip_28 fl_X5_18 rfl hf (fun x1 _ hf => ?_)
    refine am_gi_ dX5_drip_31 fl_X5_92 rfl hf (fun x2 _ hf => ?_)
    refine am_icmp_ge (tgt := 170) dX5_drip_34 (by decide) rfl hf (fun hf => ?_) (fun hf => ?_)
    · exact am_we (sfX5_drip_170 _ _ _ _ hf) ⟨Or.inr rfl, Or.inl rfl, Or.inr rfl, Or.inl rfl, Or.inl rfl, Or.inl rfl, Or.inl rfl, trivial⟩
    refine am_iload_n dX5_drip_37 rfl rfl ?_
    refine am_iconst (v := 3) dX5_drip_38 rfl rfl ?_
    refine am_icmp_ge (tgt := 170) dX5_drip_39 (by decide) rfl hf (fun hf => ?_) (fun hf => ?_)
    · exact am_we (sfX5_drip_170 _ _ _ _ hf) ⟨Or.inr rfl, Or.inl rfl, Or.inr rfl, Or.inl rfl, Or.inl rfl, Or.inl rfl, Or.inl rfl, trivial⟩
    refine am_aload_n dX5_drip_42 rfl rfl ?_
    refine am_gr_ dX5_drip_43 fl_X5_9 rfl hf (fun x3 _ hf => ?_)
    refine am_iload_n dX5_drip_46 rfl rfl ?_
    refine am_iald dX5_drip_47 rfl hf (fun x4 _ hf => ?_)
    refine am_iload_n dX5_drip_48 rfl rfl ?_
    refine am_iadd dX5_drip_49 rfl ?_
    refine am_istore (ls' := [some (va_rf v0), some (.int v1), some (.int v2), some (.int v3), some (.int (x4 + v2)), none, none]) dX5_drip_50 (by decide) rfl rfl ?_
    refine am_iload dX5_drip_52 rfl rfl ?_
    refine am_aload_n dX5_drip_54 rfl rfl ?_
    refine am_gr_ dX5_drip_55 fl_X5_18 rfl hf (fun x5 _ hf => ?_)
    refine am_gr_ dX5_drip_58 fl_X5_33 rfl hf (fun x6 _ hf => ?_)
    refine am_iload_n dX5_drip_61 rfl rfl ?_
    refine am_iald dX5_drip_62 rfl hf (fun x7 _ hf => ?_)
    refine am_icmp_le (tgt := 98) dX5_drip_63 (by decide) rfl hf (fun hf => ?_) (fun hf => ?_)
    · exact am_we ((sfX5_drip_98 ih) _ _ _ _ _ _ hf) ⟨Or.inr rfl, Or.inr rfl, Or.inl rfl, Or.inr rfl, Or.inr rfl, Or.inl rfl, Or.inl rfl, trivial⟩
    refine am_aload_n dX5_drip_66 rfl rfl ?_
    refine am_dup dX5_drip_67 (am_c1 _) rfl ?_
    refine am_gi_ dX5_drip_68 fl_X5_44 rfl hf (fun x8 _ hf => ?_)
    refine am_iload dX5_drip_71 rfl rfl ?_
    refine am_aload_n dX5_drip_73 rfl rfl ?_
    refine am_gr_ dX5_drip_74 fl_X5_18 rfl hf (fun x9 _ hf => ?_)
    refine am_gr_ dX5_drip_77 fl_X5_33 rfl hf (fun x10 _ hf => ?_)
    refine am_iload_n dX5_drip_80 rfl rfl ?_
    refine am_iald dX5_drip_81 rfl hf (fun x11 _ hf => ?_)
    refine am_isub dX5_drip_82 rfl ?_
    refine am_iadd dX5_drip_83 rfl ?_
    refine am_pi_ dX5_drip_84 fl_X5_44 fp_5_7 (fun z => by cases z) rfl hf (fun h12 _ hf => ?_)
    refine am_aload_n dX5_drip_87 rfl rfl ?_
    refine am_gr_ dX5_drip_88 fl_X5_18 rfl hf (fun x13 _ hf => ?_)
    refine am_gr_ dX5_drip_91 fl_X5_33 rfl hf (fun x14 _ hf => ?_)
    refine am_iload_n dX5_drip_94 rfl rfl ?_
    refine am_iald dX5_drip_95 rfl hf (fun x15 _ hf => ?_)
    refine am_istore (ls' := [some (va_rf v0), some (.int v1), some (.int v2), some (.int v3), some (.int x15), none, none]) dX5_drip_96 (by decide) rfl rfl ?_
    exact am_we ((sfX5_drip_98 ih) _ _ _ _ _ _ hf) ⟨Or.inr rfl, Or.inr rfl, Or.inl rfl, Or.inr rfl, Or.inr rfl, Or.inl rfl, Or.inl rfl, trivial⟩
set_option maxRecDepth 20000 in
set_option maxHeartbeats 4000000 in
theorem sfX5_drip {G : am_G}  (v0 : Nat) (h : am_H) (y : am_H) (hf : fX5_drip v0 h = some y) : am_Cn G miX5_drip [va_rf (some v0)] h none y := by
  refine am_beg (ls := [some (va_rf (some v0)), none, none, none, none, none, none]) (by simp only [am_en, am_e1_r, am_e1_i, am_e1_l, am_e1_n]; rfl) ?_
  unfold fX5_drip at hf
  refine am_aload_n dX5_drip_0 rfl rfl ?_
  refine am_gr_ dX5_drip_1 fl_X5_22 rfl hf (fun x1 _ hf => ?_)
  refine am_aload_n dX5_drip_4 rfl rfl ?_
  refine am_gi_ dX5_drip_5 fl_X5_26 rfl hf (fun x2 _ hf => ?_)
  refine am_aload_n dX5_drip_8 rfl rfl ?_
  refine am_gi_ dX5_drip_9 fl_X5_30 rfl hf (fun x3 _ hf => ?_)
  refine am_cVi (As := [.int x2, .int x3]) (st := []) lk_X5_drip_83 rfl (Nat.le_of_ble_eq_true rfl) (Nat.le_of_ble_eq_true rfl) rfl dX5_drip_12 rfl hf (fun b5 y4 hf => sfX2_warmthOf b5 _ _ _ y4 hf) (fun b5 y4 _ _ hf => ?_)
  refine am_istore_n (ls' := [some (va_rf (some v0)), some (.int y4.1), none, none, none, none, none]) dX5_drip_15 (by decide) (am_s1_r (j := 0) rfl rfl) rfl ?_
  refine am_aload_n dX5_drip_16 rfl rfl ?_
  refine am_gr_ dX5_drip_17 fl_X5_18 rfl hf (fun x6 _ hf => ?_)
  refine am_gi_ dX5_drip_20 fl_X5_89 rfl hf (fun x7 _ hf => ?_)
  refine am_istore_n (ls' := [some (va_rf (some v0)), some (.int y4.1), some (.int x7), none, none, none, none]) dX5_drip_23 (by decide) rfl rfl ?_
  refine am_iconst (v := 0) dX5_drip_24 rfl rfl ?_
  refine am_istore_n (ls' := [some (va_rf (some v0)), some (.int y4.1), some (.int x7), some (.int (0 : Int32)), none, none, none]) dX5_drip_25 (by decide) rfl rfl ?_
  exact (sfX5_drip_26 _) _ _ _ _ _ _ hf
set_option maxRecDepth 20000 in
set_option maxHeartbeats 4000000 in
theorem sfX2_leakAt {G : am_G}  (v0 : Nat) (v1 : Int32) (h : am_H) (y : Int32 × am_H) (hf : fX2_leakAt v0 v1 h = some y) : am_Cn G miX2_leakAt [va_rf (some v0), .int v1] h (some (.int y.1)) y.2 := by
  refine am_beg (ls := [some (va_rf (some v0)), some (.int v1)]) (by simp only [am_en, am_e1_r, am_e1_i, am_e1_l, am_e1_n]; rfl) ?_
  unfold fX2_leakAt at hf
  refine am_aload_n dX2_leakAt_0 rfl rfl ?_
  refine am_gi_ dX2_leakAt_1 fl_X2_9 rfl hf (fun x1 _ hf => ?_)
  refine am_iconst (v := 3) dX2_leakAt_4 rfl rfl ?_
  refine am_icmp_ne (tgt := 23) dX2_leakAt_5 (by decide) rfl hf (fun hf => ?_) (fun hf => ?_)
  · refine am_iconst (v := 0) dX2_leakAt_23 rfl rfl ?_
    exact am_iret rfl dX2_leakAt_24 hf
  refine am_iload_n dX2_leakAt_8 rfl rfl ?_
  refine am_aload_n dX2_leakAt_9 rfl rfl ?_
  refine am_gi_ dX2_leakAt_10 fl_X2_21 rfl hf (fun x2 _ hf => ?_)
  refine am_icmp_lt (tgt := 23) dX2_leakAt_13 (by decide) rfl hf (fun hf => ?_) (fun hf => ?_)
  · refine am_iconst (v := 0) dX2_leakAt_23 rfl rfl ?_
    exact am_iret rfl dX2_leakAt_24 hf
  refine am_aload_n dX2_leakAt_16 rfl rfl ?_
  refine am_gi_ dX2_leakAt_17 fl_X2_18 rfl hf (fun x3 _ hf => ?_)
  refine am_goto (pc' := 24) dX2_leakAt_20 (by decide) ?_
  exact am_iret rfl dX2_leakAt_24 hf
set_option maxRecDepth 20000 in
set_option maxHeartbeats 4000000 in
theorem sfX5_leak {G : am_G}  (v0 : Nat) (h : am_H) (y : am_H) (hf : fX5_leak v0 h = some y) : am_Cn G miX5_leak [va_rf (some v0)] h none y := by
  refine am_beg (ls := [some (va_rf (some v0)), none, none]) (by simp only [am_en, am_e1_r, am_e1_i, am_e1_l, am_e1_n]; rfl) ?_
  unfold fX5_leak at hf
  refine am_aload_n dX5_leak_0 rfl rfl ?_
  refine am_gr_ dX5_leak_1 fl_X5_22 rfl hf (fun x1 _ hf => ?_)
  refine am_gi_ dX5_leak_4 fl_X5_116 rfl hf (fun x2 _ hf => ?_)
  refine am_istore_n (ls' := [some (va_rf (some v0)), some (.int x2), none]) dX5_leak_7 (by decide) (am_s1_r (j := 0) rfl rfl) rfl ?_
  refine am_aload_n dX5_leak_8 rfl rfl ?_
  refine am_gr_ dX5_leak_9 fl_X5_18 rfl hf (fun x3 _ hf => ?_)
  refine am_iload_n dX5_leak_12 rfl rfl ?_
  refine am_cVi (As := [.int x2]) (st := []) lk_X5_leak_119 rfl (Nat.le_of_ble_eq_true rfl) (Nat.le_of_ble_eq_true rfl) rfl dX5_leak_13 rfl hf (fun b5 y4 hf => sfX0_hasVessel b5 _ _ y4 hf) (fun b5 y4 _ _ hf => ?_)
  refine am_if_eq (tgt := 60) dX5_leak_16 (by decide) rfl hf (fun hf => ?_) (fun hf => ?_)
  · exact am_vret rfl dX5_leak_60 hf
  refine am_aload_n dX5_leak_19 rfl rfl ?_
  refine am_gr_ dX5_leak_20 fl_X5_9 rfl hf (fun x6 _ hf => ?_)
  refine am_iload_n dX5_leak_23 rfl rfl ?_
  refine am_iald dX5_leak_24 rfl hf (fun x7 _ hf => ?_)
  refine am_aload_n dX5_leak_25 rfl rfl ?_
  refine am_gr_ dX5_leak_26 fl_X5_22 rfl hf (fun x8 _ hf => ?_)
  refine am_aload_n dX5_leak_29 rfl rfl ?_
  refine am_gi_ dX5_leak_30 fl_X5_30 rfl hf (fun x9 _ hf => ?_)
  refine am_cVi (As := [.int x9]) (st := [.int x7]) lk_X5_leak_123 rfl (Nat.le_of_ble_eq_true rfl) (Nat.le_of_ble_eq_true rfl) rfl dX5_leak_33 rfl hf (fun b11 y10 hf => sfX2_leakAt b11 _ _ y10 hf) (fun b11 y10 _ _ hf => ?_)
  refine am_mmin ml_X5_108 st_min in_Math co_min (by decide) (Nat.le_of_ble_eq_true rfl) dX5_leak_36 rfl ?_
  refine am_istore_n (ls' := [some (va_rf (some v0)), some (.int x2), some (.int (if y10.1 < x7 then y10.1 else x7))]) dX5_leak_39 (by decide) rfl rfl ?_
  refine am_aload_n dX5_leak_40 rfl rfl ?_
  refine am_gr_ dX5_leak_41 fl_X5_9 rfl hf (fun x12 _ hf => ?_)
  refine am_iload_n dX5_leak_44 rfl rfl ?_
  refine am_dup2 dX5_leak_45 (rfl) (am_c1 _) rfl ?_
  refine am_iald dX5_leak_46 rfl hf (fun x13 _ hf => ?_)
  refine am_iload_n dX5_leak_47 rfl rfl ?_
  refine am_isub dX5_leak_48 rfl ?_
  refine am_iast dX5_leak_49 rfl hf (fun h14 _ hf => ?_)
  refine am_aload_n dX5_leak_50 rfl rfl ?_
  refine am_dup dX5_leak_51 (am_c1 _) rfl ?_
  refine am_gi_ dX5_leak_52 fl_X5_47 rfl hf (fun x15 _ hf => ?_)
  refine am_iload_n dX5_leak_55 rfl rfl ?_
  refine am_iadd dX5_leak_56 rfl ?_
  refine am_pi_ dX5_leak_57 fl_X5_47 fp_5_8 (fun z => by cases z) rfl hf (fun h16 _ hf => ?_)
  exact am_vret rfl dX5_leak_60 hf
set_option maxRecDepth 20000 in
set_option maxHeartbeats 4000000 in
theorem sfX5_dropBalls_20 {G : am_G}  : ∀ (n : Nat) (v0 : Option Nat) (v1 : Int32) (v2 : Int32) (h : am_H) (y : am_H) (hf : fX5_dropBalls_20  n v0 v1 v2 h = some y), am_S G miX5_dropBalls 20 [some (va_rf v0), some (.int v1), some (.int v2)] [] h none y := by
  intro n
  induction n with
  | zero => intro v0 v1 v2 h y hf; cases hf
  | succ n ih =>
    intro v0 v1 v2 h y hf
    have hf : fX5_dropBalls_20_b  (fX5_dropBalls_20  n) v0 v1 v2 h = some y := hf
    unfold fX5_dropBalls_20_b at hf
    refine am_iload_n dX5_dropBalls_20 rfl rfl ?_
    refine am_aload_n dX5_dropBalls_21 rfl rfl ?_
    refine am_gr_ dX5_dropBalls_22 fl_X5_18 rfl hf (fun x1 _ hf => ?_)
    refine am_gi_ dX5_dropBalls_25 fl_X5_130 rfl hf (fun x2 _ hf => ?_)
    refine am_icmp_ge (tgt := 77) dX5_dropBalls_28 (by decide) rfl hf (fun hf => ?_) (fun hf => ?_)
    · exact am_vret rfl dX5_dropBalls_77 hf
    refine am_iload_n dX5_dropBalls_31 rfl rfl ?_
    refine am_bipush (v := 12) dX5_dropBalls_32 (by decide) rfl ?_
    refine am_icmp_ge (tgt := 77) dX5_dropBalls_34 (by decide) rfl hf (fun hf => ?_) (fun hf => ?_)
    · exact am_vret rfl dX5_dropBalls_77 hf
    refine am_aload_n dX5_dropBalls_37 rfl rfl ?_
    refine am_gr_ dX5_dropBalls_38 fl_X5_18 rfl hf (fun x3 _ hf => ?_)
    refine am_gr_ dX5_dropBalls_41 fl_X5_133 rfl hf (fun x4 _ hf => ?_)
    refine am_iload_n dX5_dropBalls_44 rfl rfl ?_
    refine am_iald dX5_dropBalls_45 rfl hf (fun x5 _ hf => ?_)
    refine am_iload_n dX5_dropBalls_46 rfl rfl ?_
    refine am_icmp_le (tgt := 51) dX5_dropBalls_47 (by decide) rfl hf (fun hf => ?_) (fun hf => ?_)
    · refine am_aload_n dX5_dropBalls_51 rfl rfl ?_
      refine am_gr_ dX5_dropBalls_52 fl_X5_15 rfl hf (fun x6 _ hf => ?_)
      refine am_iload_n dX5_dropBalls_55 rfl rfl ?_
      refine am_aload_n dX5_dropBalls_56 rfl rfl ?_
      refine am_gi_ dX5_dropBalls_57 fl_X5_30 rfl hf (fun x7 _ hf => ?_)
      refine am_iast dX5_dropBalls_60 rfl hf (fun h8 _ hf => ?_)
      refine am_aload_n dX5_dropBalls_61 rfl rfl ?_
      refine am_dup dX5_dropBalls_62 (am_c1 _) rfl ?_
      refine am_gi_ dX5_dropBalls_63 fl_X5_53 rfl hf (fun x9 _ hf => ?_)
      refine am_iconst (v := 1) dX5_dropBalls_66 rfl rfl ?_
      refine am_iadd dX5_dropBalls_67 rfl ?_
      refine am_pi_ dX5_dropBalls_68 fl_X5_53 fp_5_10 (fun z => by cases z) rfl hf (fun h10 _ hf => ?_)
      refine am_iinc (ls' := [some (va_rf v0), some (.int v1), some (.int (v2 + (1 : Int32)))]) dX5_dropBalls_71 rfl rfl (by decide) rfl rfl ?_
      refine am_goto (pc' := 20) dX5_dropBalls_74 (by decide) ?_
      exact ih _ _ _ _ _ hf
    exact am_vret rfl dX5_dropBalls_50 hf
set_option maxRecDepth 20000 in
set_option maxHeartbeats 4000000 in
theorem sfX5_dropBalls {G : am_G}  (v0 : Nat) (h : am_H) (y : am_H) (hf : fX5_dropBalls v0 h = some y) : am_Cn G miX5_dropBalls [va_rf (some v0)] h none y := by
  refine am_beg (ls := [some (va_rf (some v0)), none, none]) (by simp only [am_en, am_e1_r, am_e1_i, am_e1_l, am_e1_n]; rfl) ?_
  unfold fX5_dropBalls at hf
  refine am_aload_n dX5_dropBalls_0 rfl rfl ?_
  refine am_gi_ dX5_dropBalls_1 fl_X5_38 rfl hf (fun x1 _ hf => ?_)
  refine am_aload_n dX5_dropBalls_4 rfl rfl ?_
  refine am_gr_ dX5_dropBalls_5 fl_X5_18 rfl hf (fun x2 _ hf => ?_)
  refine am_gi_ dX5_dropBalls_8 fl_X5_127 rfl hf (fun x3 _ hf => ?_)
  refine am_cTi (As := [.int x1, .int x3]) (st := []) lk_X5_dropBalls_98 rfl (Nat.le_of_ble_eq_true rfl) (Nat.le_of_ble_eq_true rfl) rfl dX5_dropBalls_11 rfl hf (fun y4 hf => sfX8_quotient _ _ _ y4 hf) (fun y4 _ hf => ?_)
  refine am_istore_n (ls' := [some (va_rf (some v0)), some (.int y4.1), none]) dX5_dropBalls_14 (by decide) (am_s1_r (j := 0) rfl rfl) rfl ?_
  refine am_aload_n dX5_dropBalls_15 rfl rfl ?_
  refine am_gi_ dX5_dropBalls_16 fl_X5_53 rfl hf (fun x5 _ hf => ?_)
  refine am_istore_n (ls' := [some (va_rf (some v0)), some (.int y4.1), some (.int x5)]) dX5_dropBalls_19 (by decide) rfl rfl ?_
  exact (sfX5_dropBalls_20 _) _ _ _ _ _ hf
set_option maxRecDepth 20000 in
set_option maxHeartbeats 4000000 in
theorem sfX5_siphon {G : am_G}  (v0 : Nat) (h : am_H) (y : am_H) (hf : fX5_siphon v0 h = some y) : am_Cn G miX5_siphon [va_rf (some v0)] h none y := by
  refine am_beg (ls := [some (va_rf (some v0)), none]) (by simp only [am_en, am_e1_r, am_e1_i, am_e1_l, am_e1_n]; rfl) ?_
  unfold fX5_siphon at hf
  refine am_aload_n dX5_siphon_0 rfl rfl ?_
  refine am_gi_ dX5_siphon_1 fl_X5_38 rfl hf (fun x1 _ hf => ?_)
  refine am_aload_n dX5_siphon_4 rfl rfl ?_
  refine am_gr_ dX5_siphon_5 fl_X5_18 rfl hf (fun x2 _ hf => ?_)
  refine am_gi_ dX5_siphon_8 fl_X5_127 rfl hf (fun x3 _ hf => ?_)
  refine am_cTi (As := [.int x1, .int x3]) (st := []) lk_X5_siphon_98 rfl (Nat.le_of_ble_eq_true rfl) (Nat.le_of_ble_eq_true rfl) rfl dX5_siphon_11 rfl hf (fun y4 hf => sfX8_quotient _ _ _ y4 hf) (fun y4 _ hf => ?_)
  refine am_istore_n (ls' := [some (va_rf (some v0)), some (.int y4.1)]) dX5_siphon_14 (by decide) (am_s1_r (j := 0) rfl rfl) rfl ?_
  refine am_iload_n dX5_siphon_15 rfl rfl ?_
  refine am_aload_n dX5_siphon_16 rfl rfl ?_
  refine am_gr_ dX5_siphon_17 fl_X5_18 rfl hf (fun x5 _ hf => ?_)
  refine am_gi_ dX5_siphon_20 fl_X5_136 rfl hf (fun x6 _ hf => ?_)
  refine am_icmp_lt (tgt := 55) dX5_siphon_23 (by decide) rfl hf (fun hf => ?_) (fun hf => ?_)
  · exact am_vret rfl dX5_siphon_55 hf
  refine am_aload_n dX5_siphon_26 rfl rfl ?_
  refine am_gi_ dX5_siphon_27 fl_X5_53 rfl hf (fun x7 _ hf => ?_)
  refine am_aload_n dX5_siphon_30 rfl rfl ?_
  refine am_gr_ dX5_siphon_31 fl_X5_18 rfl hf (fun x8 _ hf => ?_)
  refine am_gi_ dX5_siphon_34 fl_X5_130 rfl hf (fun x9 _ hf => ?_)
  refine am_icmp_lt (tgt := 55) dX5_siphon_37 (by decide) rfl hf (fun hf => ?_) (fun hf => ?_)
  · exact am_vret rfl dX5_siphon_55 hf
  refine am_aload_n dX5_siphon_40 rfl rfl ?_
  refine am_iconst (v := 0) dX5_siphon_41 rfl rfl ?_
  refine am_pi_ dX5_siphon_42 fl_X5_38 fp_5_5 (fun z => by cases z) rfl hf (fun h10 _ hf => ?_)
  refine am_aload_n dX5_siphon_45 rfl rfl ?_
  refine am_dup dX5_siphon_46 (am_c1 _) rfl ?_
  refine am_gi_ dX5_siphon_47 fl_X5_50 rfl hf (fun x11 _ hf => ?_)
  refine am_iconst (v := 1) dX5_siphon_50 rfl rfl ?_
  refine am_iadd dX5_siphon_51 rfl ?_
  refine am_pi_ dX5_siphon_52 fl_X5_50 fp_5_9 (fun z => by cases z) rfl hf (fun h12 _ hf => ?_)
  exact am_vret rfl dX5_siphon_55 hf
set_option maxRecDepth 20000 in
set_option maxHeartbeats 4000000 in
theorem sfX5_advance {G : am_G}  (v0 : Nat) (h : am_H) (y : am_H) (hf : fX5_advance v0 h = some y) : am_Cn G miX5_advance [va_rf (some v0)] h none y := by
  refine am_beg (ls := [some (va_rf (some v0))]) (by simp only [am_en, am_e1_r, am_e1_i, am_e1_l, am_e1_n]; rfl) ?_
  unfold fX5_advance at hf
  refine am_aload_n dX5_advance_0 rfl rfl ?_
  refine am_cVv (As := []) (st := []) lk_X5_advance_71 rfl (Nat.le_of_ble_eq_true rfl) (Nat.le_of_ble_eq_true rfl) rfl dX5_advance_1 rfl hf (fun b2 y1 hf => sfX5_drip b2  _ y1 hf) (fun b2 y1 _ _ hf => ?_)
  refine am_aload_n dX5_advance_4 rfl rfl ?_
  refine am_cVv (As := []) (st := []) lk_X5_advance_74 rfl (Nat.le_of_ble_eq_true rfl) (Nat.le_of_ble_eq_true rfl) rfl dX5_advance_5 rfl hf (fun b4 y3 hf => sfX5_leak b4  _ y3 hf) (fun b4 y3 _ _ hf => ?_)
  refine am_aload_n dX5_advance_8 rfl rfl ?_
  refine am_cVv (As := []) (st := []) lk_X5_advance_77 rfl (Nat.le_of_ble_eq_true rfl) (Nat.le_of_ble_eq_true rfl) rfl dX5_advance_9 rfl hf (fun b6 y5 hf => sfX5_dropBalls b6  _ y5 hf) (fun b6 y5 _ _ hf => ?_)
  refine am_aload_n dX5_advance_12 rfl rfl ?_
  refine am_cVv (As := []) (st := []) lk_X5_advance_80 rfl (Nat.le_of_ble_eq_true rfl) (Nat.le_of_ble_eq_true rfl) rfl dX5_advance_13 rfl hf (fun b8 y7 hf => sfX5_siphon b8  _ y7 hf) (fun b8 y7 _ _ hf => ?_)
  refine am_aload_n dX5_advance_16 rfl rfl ?_
  refine am_dup dX5_advance_17 (am_c1 _) rfl ?_
  refine am_gi_ dX5_advance_18 fl_X5_30 rfl hf (fun x9 _ hf => ?_)
  refine am_iconst (v := 1) dX5_advance_21 rfl rfl ?_
  refine am_iadd dX5_advance_22 rfl ?_
  refine am_pi_ dX5_advance_23 fl_X5_30 fp_5_3 (fun z => by cases z) rfl hf (fun h10 _ hf => ?_)
  exact am_vret rfl dX5_advance_26 hf
set_option maxRecDepth 20000 in
set_option maxHeartbeats 4000000 in
theorem sfX5_goOnTo_5 {G : am_G}  : ∀ (n : Nat) (v0 : Option Nat) (v1 : Int32) (v2 : Int32) (h : am_H) (y : am_H) (hf : fX5_goOnTo_5  n v0 v1 v2 h = some y), am_S G miX5_goOnTo 5 [some (va_rf v0), some (.int v1), some (.int v2)] [] h none y := by
  intro n
  induction n with
  | zero => intro v0 v1 v2 h y hf; cases hf
  | succ n ih =>
    intro v0 v1 v2 h y hf
    have hf : fX5_goOnTo_5_b  (fX5_goOnTo_5  n) v0 v1 v2 h = some y := hf
    unfold fX5_goOnTo_5_b at hf
    refine am_iload_n dX5_goOnTo_5 rfl rfl ?_
    refine am_iload_n dX5_goOnTo_6 rfl rfl ?_
    refine am_icmp_ge (tgt := 20) dX5_goOnTo_7 (by decide) rfl hf (fun hf => ?_) (fun hf => ?_)
    · exact am_vret rfl dX5_goOnTo_20 hf
    refine am_aload_n dX5_goOnTo_10 rfl rfl ?_
    refine am_cVv (As := []) (st := []) lk_X5_goOnTo_68 rfl (Nat.le_of_ble_eq_true rfl) (Nat.le_of_ble_eq_true rfl) rfl dX5_goOnTo_11 rfl hf (fun b2 y1 hf => sfX5_advance b2  _ y1 hf) (fun b2 y1 _ _ hf => ?_)
    refine am_iinc (ls' := [some (va_rf v0), some (.int v1), some (.int (v2 + (1 : Int32)))]) dX5_goOnTo_14 rfl rfl (by decide) rfl rfl ?_
    refine am_goto (pc' := 5) dX5_goOnTo_17 (by decide) ?_
    exact ih _ _ _ _ _ hf
set_option maxRecDepth 20000 in
set_option maxHeartbeats 4000000 in
theorem sfX5_goOnTo {G : am_G}  (v0 : Nat) (v1 : Int32) (h : am_H) (y : am_H) (hf : fX5_goOnTo v0 v1 h = some y) : am_Cn G miX5_goOnTo [va_rf (some v0), .int v1] h none y := by
  refine am_beg (ls := [some (va_rf (some v0)), some (.int v1), none]) (by simp only [am_en, am_e1_r, am_e1_i, am_e1_l, am_e1_n]; rfl) ?_
  unfold fX5_goOnTo at hf
  refine am_aload_n dX5_goOnTo_0 rfl rfl ?_
  refine am_gi_ dX5_goOnTo_1 fl_X5_30 rfl hf (fun x1 _ hf => ?_)
  refine am_istore_n (ls' := [some (va_rf (some v0)), some (.int v1), some (.int x1)]) dX5_goOnTo_4 (by decide) rfl rfl ?_
  exact (sfX5_goOnTo_5 _) _ _ _ _ _ hf
set_option maxRecDepth 20000 in
set_option maxHeartbeats 4000000 in
theorem sfX5_tickOf {G : am_G}  (v0 : Nat) (v1 : Int32) (h : am_H) (y : Int32 × am_H) (hf : fX5_tickOf v0 v1 h = some y) : am_Cn G miX5_tickOf [va_rf (some v0), .int v1] h (some (.int y.1)) y.2 := by
  refine am_beg (ls := [some (va_rf (some v0)), some (.int v1)]) (by simp only [am_en, am_e1_r, am_e1_i, am_e1_l, am_e1_n]; rfl) ?_
  unfold fX5_tickOf at hf
  refine am_aload_n dX5_tickOf_0 rfl rfl ?_
  refine am_gr_ dX5_tickOf_1 fl_X5_18 rfl hf (fun x1 _ hf => ?_)
  refine am_iload_n dX5_tickOf_4 rfl rfl ?_
  refine am_cVi (As := [.int v1]) (st := []) lk_X5_tickOf_139 rfl (Nat.le_of_ble_eq_true rfl) (Nat.le_of_ble_eq_true rfl) rfl dX5_tickOf_5 rfl hf (fun b3 y2 hf => sfX0_hasBall b3 _ _ y2 hf) (fun b3 y2 _ _ hf => ?_)
  refine am_if_eq (tgt := 20) dX5_tickOf_8 (by decide) rfl hf (fun hf => ?_) (fun hf => ?_)
  · refine am_iconst (v := -1) dX5_tickOf_20 rfl rfl ?_
    exact am_iret rfl dX5_tickOf_21 hf
  refine am_aload_n dX5_tickOf_11 rfl rfl ?_
  refine am_gr_ dX5_tickOf_12 fl_X5_15 rfl hf (fun x4 _ hf => ?_)
  refine am_iload_n dX5_tickOf_15 rfl rfl ?_
  refine am_iald dX5_tickOf_16 rfl hf (fun x5 _ hf => ?_)
  refine am_goto (pc' := 21) dX5_tickOf_17 (by decide) ?_
  exact am_iret rfl dX5_tickOf_21 hf
set_option maxRecDepth 20000 in
set_option maxHeartbeats 4000000 in
theorem sfX8_drops {G : am_G}  (v0 : Nat) (v1 : Int32) (v2 : Int32) (v3 : Int32) (v4 : Int32) (h : am_H) (y : Int32 × am_H) (hf : fX8_drops v0 v1 v2 v3 v4 h = some y) : am_Cn G miX8_drops [va_rf (some v0), .int v1, .int v2, .int v3, .int v4] h (some (.int y.1)) y.2 := by
  refine am_beg (ls := [some (va_rf (some v0)), some (.int v1), some (.int v2), some (.int v3), some (.int v4)]) (by simp only [am_en, am_e1_r, am_e1_i, am_e1_l, am_e1_n]; rfl) ?_
  unfold fX8_drops at hf
  refine am_aload_n dX8_drops_0 rfl rfl ?_
  refine am_iload_n dX8_drops_1 rfl rfl ?_
  refine am_iload_n dX8_drops_2 rfl rfl ?_
  refine am_iload_n dX8_drops_3 rfl rfl ?_
  refine am_cVi (As := [.int v1, .int v2, .int v3]) (st := []) lk_X8_drops_200 rfl (Nat.le_of_ble_eq_true rfl) (Nat.le_of_ble_eq_true rfl) rfl dX8_drops_4 rfl hf (fun b2 y1 hf => sfX8_startRun b2 _ _ _ _ y1 hf) (fun b2 y1 _ _ hf => ?_)
  refine am_if_eq (tgt := 25) dX8_drops_7 (by decide) rfl hf (fun hf => ?_) (fun hf => ?_)
  · refine am_bipush (v := -101) dX8_drops_25 (by decide) rfl ?_
    exact am_iret rfl dX8_drops_27 hf
  refine am_aload_n dX8_drops_10 rfl rfl ?_
  refine am_gr_ dX8_drops_11 fl_X8_62 rfl hf (fun x3 _ hf => ?_)
  refine am_gr_ dX8_drops_14 fl_X8_203 rfl hf (fun x4 _ hf => ?_)
  refine am_iload dX8_drops_17 rfl rfl ?_
  refine am_cVi (As := [.int v4]) (st := []) lk_X8_drops_206 rfl (Nat.le_of_ble_eq_true rfl) (Nat.le_of_ble_eq_true rfl) rfl dX8_drops_19 rfl hf (fun b6 y5 hf => sfX0_hasBall b6 _ _ y5 hf) (fun b6 y5 _ _ hf => ?_)
  refine am_if_ne (tgt := 28) dX8_drops_22 (by decide) rfl hf (fun hf => ?_) (fun hf => ?_)
  · refine am_aload_n dX8_drops_28 rfl rfl ?_
    refine am_gr_ dX8_drops_29 fl_X8_62 rfl hf (fun x7 _ hf => ?_)
    refine am_bipush (v := 96) dX8_drops_32 (by decide) rfl ?_
    refine am_cVv (As := [.int (96 : Int32)]) (st := []) lk_X8_drops_209 rfl (Nat.le_of_ble_eq_true rfl) (Nat.le_of_ble_eq_true rfl) rfl dX8_drops_34 rfl hf (fun b9 y8 hf => sfX5_goOnTo b9 _ _ y8 hf) (fun b9 y8 _ _ hf => ?_)
    refine am_aload_n dX8_drops_37 rfl rfl ?_
    refine am_gr_ dX8_drops_38 fl_X8_62 rfl hf (fun x10 _ hf => ?_)
    refine am_iload dX8_drops_41 rfl rfl ?_
    refine am_cVi (As := [.int v4]) (st := []) lk_X8_drops_213 rfl (Nat.le_of_ble_eq_true rfl) (Nat.le_of_ble_eq_true rfl) rfl dX8_drops_43 rfl hf (fun b12 y11 hf => sfX5_tickOf b12 _ _ y11 hf) (fun b12 y11 _ _ hf => ?_)
    exact am_iret rfl dX8_drops_46 hf
  refine am_bipush (v := -101) dX8_drops_25 (by decide) rfl ?_
  exact am_iret rfl dX8_drops_27 hf
set_option maxRecDepth 20000 in
set_option maxHeartbeats 4000000 in
theorem sfX9_isRun {G : am_G}  (v0 : Nat) (v1 : Int32) (v2 : Int32) (v3 : Int32) (h : am_H) (y : Int32 × am_H) (hf : fX9_isRun v0 v1 v2 v3 h = some y) : am_Cn G miX9_isRun [va_rf (some v0), .int v1, .int v2, .int v3] h (some (.int y.1)) y.2 := by
  refine am_beg (ls := [some (va_rf (some v0)), some (.int v1), some (.int v2), some (.int v3)]) (by simp only [am_en, am_e1_r, am_e1_i, am_e1_l, am_e1_n]; rfl) ?_
  unfold fX9_isRun at hf
  refine am_aload_n dX9_isRun_0 rfl rfl ?_
  refine am_iload_n dX9_isRun_1 rfl rfl ?_
  refine am_cVi (As := [.int v1]) (st := []) lk_X9_isRun_197 rfl (Nat.le_of_ble_eq_true rfl) (Nat.le_of_ble_eq_true rfl) rfl dX9_isRun_2 rfl hf (fun b2 y1 hf => sfX9_isClock b2 _ _ y1 hf) (fun b2 y1 _ _ hf => ?_)
  refine am_if_eq (tgt := 32) dX9_isRun_5 (by decide) rfl hf (fun hf => ?_) (fun hf => ?_)
  · refine am_iconst (v := 0) dX9_isRun_32 rfl rfl ?_
    exact am_zret rfl dX9_isRun_33 hf
  refine am_iload_n dX9_isRun_8 rfl rfl ?_
  refine am_cSi (As := [.int v2]) (st := []) lk_X9_isRun_203 rfl (Nat.le_of_ble_eq_true rfl) (Nat.le_of_ble_eq_true rfl) rfl dX9_isRun_9 rfl hf (fun y3 hf => sfX9_isSeason _ _ y3 hf) (fun y3 _ hf => ?_)
  refine am_if_eq (tgt := 32) dX9_isRun_12 (by decide) rfl hf (fun hf => ?_) (fun hf => ?_)
  · refine am_iconst (v := 0) dX9_isRun_32 rfl rfl ?_
    exact am_zret rfl dX9_isRun_33 hf
  refine am_iload_n dX9_isRun_15 rfl rfl ?_
  refine am_iconst (v := -1) dX9_isRun_16 rfl rfl ?_
  refine am_icmp_eq (tgt := 28) dX9_isRun_17 (by decide) rfl hf (fun hf => ?_) (fun hf => ?_)
  · refine am_iconst (v := 1) dX9_isRun_28 rfl rfl ?_
    refine am_goto (pc' := 33) dX9_isRun_29 (by decide) ?_
    exact am_zret rfl dX9_isRun_33 hf
  refine am_aload_n dX9_isRun_20 rfl rfl ?_
  refine am_iload_n dX9_isRun_21 rfl rfl ?_
  refine am_cVi (As := [.int v3]) (st := []) lk_X9_isRun_206 rfl (Nat.le_of_ble_eq_true rfl) (Nat.le_of_ble_eq_true rfl) rfl dX9_isRun_22 rfl hf (fun b5 y4 hf => sfX9_isFault b5 _ _ y4 hf) (fun b5 y4 _ _ hf => ?_)
  refine am_if_eq (tgt := 32) dX9_isRun_25 (by decide) rfl hf (fun hf => ?_) (fun hf => ?_)
  · refine am_iconst (v := 0) dX9_isRun_32 rfl rfl ?_
    exact am_zret rfl dX9_isRun_33 hf
  refine am_iconst (v := 1) dX9_isRun_28 rfl rfl ?_
  refine am_goto (pc' := 33) dX9_isRun_29 (by decide) ?_
  exact am_zret rfl dX9_isRun_33 hf
set_option maxRecDepth 20000 in
set_option maxHeartbeats 4000000 in
theorem sfX9_load_122 {G : am_G}  (s0 : Option Nat) (s1 : Int32) (h : am_H) (y : am_H) (hf : fX9_load_122  s0 s1 h = some y) : am_S G miX9_load 122 [none, none, none, none] [.int s1, va_rf s0] h none y := by
  unfold fX9_load_122 at hf
  refine am_pi_ dX9_load_122 fl_X9_233 fp_9_49 (fun z => by cases z) rfl hf (fun h1 _ hf => ?_)
  exact am_vret rfl dX9_load_125 hf
set_option maxRecDepth 20000 in
set_option maxHeartbeats 4000000 in
theorem sfX9_load_103 {G : am_G}  (v0 : Option Nat) (v2 : Int32) (s0 : Option Nat) (s1 : Int32) (h : am_H) (y : am_H) (hf : fX9_load_103  v0 v2 s0 s1 h = some y) : am_S G miX9_load 103 [some (va_rf v0), none, some (.int v2), none] [.int s1, va_rf s0] h none y := by
  unfold fX9_load_103 at hf
  refine am_pi_ dX9_load_103 fl_X9_230 fp_9_48 (fun z => by cases z) rfl hf (fun h1 _ hf => ?_)
  refine am_aload_n dX9_load_106 rfl rfl ?_
  refine am_iload_n dX9_load_107 rfl rfl ?_
  refine am_iconst (v := -1) dX9_load_108 rfl rfl ?_
  refine am_icmp_ne (tgt := 116) dX9_load_109 (by decide) rfl hf (fun hf => ?_) (fun hf => ?_)
  · refine am_aload_n dX9_load_116 rfl rfl ?_
    refine am_gr_ dX9_load_117 fl_X9_52 rfl hf (fun x2 _ hf => ?_)
    refine am_iload_n dX9_load_120 rfl rfl ?_
    refine am_iald dX9_load_121 rfl hf (fun x3 _ hf => ?_)
    exact am_we (sfX9_load_122 _ _ _ _ hf) ⟨Or.inl rfl, Or.inl rfl, Or.inl rfl, Or.inl rfl, trivial⟩
  refine am_iconst (v := 0) dX9_load_112 rfl rfl ?_
  refine am_goto (pc' := 122) dX9_load_113 (by decide) ?_
  exact am_we (sfX9_load_122 _ _ _ _ hf) ⟨Or.inl rfl, Or.inl rfl, Or.inl rfl, Or.inl rfl, trivial⟩
set_option maxRecDepth 20000 in
set_option maxHeartbeats 4000000 in
theorem sfX9_load_84 {G : am_G}  (v0 : Option Nat) (v2 : Int32) (s0 : Option Nat) (s1 : Int32) (h : am_H) (y : am_H) (hf : fX9_load_84  v0 v2 s0 s1 h = some y) : am_S G miX9_load 84 [some (va_rf v0), none, some (.int v2), none] [.int s1, va_rf s0] h none y := by
  unfold fX9_load_84 at hf
  refine am_pi_ dX9_load_84 fl_X9_227 fp_9_47 (fun z => by cases z) rfl hf (fun h1 _ hf => ?_)
  refine am_aload_n dX9_load_87 rfl rfl ?_
  refine am_iload_n dX9_load_88 rfl rfl ?_
  refine am_iconst (v := -1) dX9_load_89 rfl rfl ?_
  refine am_icmp_ne (tgt := 97) dX9_load_90 (by decide) rfl hf (fun hf => ?_) (fun hf => ?_)
  · refine am_aload_n dX9_load_97 rfl rfl ?_
    refine am_gr_ dX9_load_98 fl_X9_49 rfl hf (fun x2 _ hf => ?_)
    refine am_iload_n dX9_load_101 rfl rfl ?_
    refine am_iald dX9_load_102 rfl hf (fun x3 _ hf => ?_)
    exact sfX9_load_103 _ _ _ _ _ _ hf
  refine am_iconst (v := 0) dX9_load_93 rfl rfl ?_
  refine am_goto (pc' := 103) dX9_load_94 (by decide) ?_
  exact sfX9_load_103 _ _ _ _ _ _ hf
set_option maxRecDepth 20000 in
set_option maxHeartbeats 4000000 in
theorem sfX9_load_65 {G : am_G}  (v0 : Option Nat) (v2 : Int32) (s0 : Option Nat) (s1 : Int32) (h : am_H) (y : am_H) (hf : fX9_load_65  v0 v2 s0 s1 h = some y) : am_S G miX9_load 65 [some (va_rf v0), none, some (.int v2), none] [.int s1, va_rf s0] h none y := by
  unfold fX9_load_65 at hf
  refine am_pi_ dX9_load_65 fl_X9_224 fp_9_46 (fun z => by cases z) rfl hf (fun h1 _ hf => ?_)
  refine am_aload_n dX9_load_68 rfl rfl ?_
  refine am_iload_n dX9_load_69 rfl rfl ?_
  refine am_iconst (v := -1) dX9_load_70 rfl rfl ?_
  refine am_icmp_ne (tgt := 78) dX9_load_71 (by decide) rfl hf (fun hf => ?_) (fun hf => ?_)
  · refine am_aload_n dX9_load_78 rfl rfl ?_
    refine am_gr_ dX9_load_79 fl_X9_46 rfl hf (fun x2 _ hf => ?_)
    refine am_iload_n dX9_load_82 rfl rfl ?_
    refine am_iald dX9_load_83 rfl hf (fun x3 _ hf => ?_)
    exact sfX9_load_84 _ _ _ _ _ _ hf
  refine am_iconst (v := 0) dX9_load_74 rfl rfl ?_
  refine am_goto (pc' := 84) dX9_load_75 (by decide) ?_
  exact sfX9_load_84 _ _ _ _ _ _ hf
set_option maxRecDepth 20000 in
set_option maxHeartbeats 4000000 in
theorem sfX9_load_2 {G : am_G}  : ∀ (n : Nat) (v0 : Option Nat) (v1 : Int32) (v2 : Int32) (v3 : Int32) (h : am_H) (y : am_H) (hf : fX9_load_2  n v0 v1 v2 v3 h = some y), am_S G miX9_load 2 [some (va_rf v0), some (.int v1), some (.int v2), some (.int v3)] [] h none y := by
  intro n
  induction n with
  | zero => intro v0 v1 v2 v3 h y hf; cases hf
  | succ n ih =>
    intro v0 v1 v2 v3 h y hf
    have hf : fX9_load_2_b  (fX9_load_2  n) v0 v1 v2 v3 h = some y := hf
    unfold fX9_load_2_b at hf
    refine am_iload_n dX9_load_2 rfl rfl ?_
    refine am_aload_n dX9_load_3 rfl rfl ?_
    refine am_gr_ dX9_load_4 fl_X9_7 rfl hf (fun x1 _ hf => ?_)
    refine am_iload_n dX9_load_7 rfl rfl ?_
    refine am_iald dX9_load_8 rfl hf (fun x2 _ hf => ?_)
    refine am_icmp_ge (tgt := 34) dX9_load_9 (by decide) rfl hf (fun hf => ?_) (fun hf => ?_)
    · refine am_aload_n dX9_load_34 rfl rfl ?_
      refine am_aload_n dX9_load_35 rfl rfl ?_
      refine am_gr_ dX9_load_36 fl_X9_28 rfl hf (fun x3 _ hf => ?_)
      refine am_iload_n dX9_load_39 rfl rfl ?_
      refine am_iald dX9_load_40 rfl hf (fun x4 _ hf => ?_)
      refine am_pi_ dX9_load_41 fl_X9_218 fp_9_44 (fun z => by cases z) rfl hf (fun h5 _ hf => ?_)
      refine am_aload_n dX9_load_44 rfl rfl ?_
      refine am_iconst (v := 1) dX9_load_45 rfl rfl ?_
      refine am_pz_ dX9_load_46 fl_X9_221 fp_9_45 (fun z => by cases z) rfl hf (fun h6 _ hf => ?_)
      refine am_aload_n dX9_load_49 rfl rfl ?_
      refine am_iload_n dX9_load_50 rfl rfl ?_
      refine am_iconst (v := -1) dX9_load_51 rfl rfl ?_
      refine am_icmp_ne (tgt := 59) dX9_load_52 (by decide) rfl hf (fun hf => ?_) (fun hf => ?_)
      · refine am_aload_n dX9_load_59 rfl rfl ?_
        refine am_gr_ dX9_load_60 fl_X9_43 rfl hf (fun x7 _ hf => ?_)
        refine am_iload_n dX9_load_63 rfl rfl ?_
        refine am_iald dX9_load_64 rfl hf (fun x8 _ hf => ?_)
        exact am_we (sfX9_load_65 _ _ _ _ _ _ hf) ⟨Or.inr rfl, Or.inl rfl, Or.inr rfl, Or.inl rfl, trivial⟩
      refine am_iconst (v := 0) dX9_load_55 rfl rfl ?_
      refine am_goto (pc' := 65) dX9_load_56 (by decide) ?_
      exact am_we (sfX9_load_65 _ _ _ _ _ _ hf) ⟨Or.inr rfl, Or.inl rfl, Or.inr rfl, Or.inl rfl, trivial⟩
    refine am_aload_n dX9_load_12 rfl rfl ?_
    refine am_gr_ dX9_load_13 fl_X9_96 rfl hf (fun x9 _ hf => ?_)
    refine am_iload_n dX9_load_16 rfl rfl ?_
    refine am_aload_n dX9_load_17 rfl rfl ?_
    refine am_gr_ dX9_load_18 fl_X9_19 rfl hf (fun x10 _ hf => ?_)
    refine am_iconst (v := 3) dX9_load_21 rfl rfl ?_
    refine am_iload_n dX9_load_22 rfl rfl ?_
    refine am_imul dX9_load_23 rfl ?_
    refine am_iload_n dX9_load_24 rfl rfl ?_
    refine am_iadd dX9_load_25 rfl ?_
    refine am_iald dX9_load_26 rfl hf (fun x11 _ hf => ?_)
    refine am_iast dX9_load_27 rfl hf (fun h12 _ hf => ?_)
    refine am_iinc (ls' := [some (va_rf v0), some (.int v1), some (.int v2), some (.int (v3 + (1 : Int32)))]) dX9_load_28 rfl rfl (by decide) rfl rfl ?_
    refine am_goto (pc' := 2) dX9_load_31 (by decide) ?_
    exact ih _ _ _ _ _ _ hf
set_option maxRecDepth 20000 in
set_option maxHeartbeats 4000000 in
theorem sfX9_load {G : am_G}  (v0 : Nat) (v1 : Int32) (v2 : Int32) (h : am_H) (y : am_H) (hf : fX9_load v0 v1 v2 h = some y) : am_Cn G miX9_load [va_rf (some v0), .int v1, .int v2] h none y := by
  refine am_beg (ls := [some (va_rf (some v0)), some (.int v1), some (.int v2), none]) (by simp only [am_en, am_e1_r, am_e1_i, am_e1_l, am_e1_n]; rfl) ?_
  unfold fX9_load at hf
  refine am_iconst (v := 0) dX9_load_0 rfl rfl ?_
  refine am_istore_n (ls' := [some (va_rf (some v0)), some (.int v1), some (.int v2), some (.int (0 : Int32))]) dX9_load_1 (by decide) rfl rfl ?_
  exact (sfX9_load_2 _) _ _ _ _ _ _ hf
set_option maxRecDepth 20000 in
set_option maxHeartbeats 4000000 in
theorem sfX9_lesser {G : am_G}  (v0 : Int32) (v1 : Int32) (h : am_H) (y : Int32 × am_H) (hf : fX9_lesser v0 v1 h = some y) : am_Cn G miX9_lesser [.int v0, .int v1] h (some (.int y.1)) y.2 := by
  refine am_beg (ls := [some (.int v0), some (.int v1)]) (by simp only [am_en, am_e1_r, am_e1_i, am_e1_l, am_e1_n]; rfl) ?_
  unfold fX9_lesser at hf
  refine am_iload_n dX9_lesser_0 rfl rfl ?_
  refine am_iload_n dX9_lesser_1 rfl rfl ?_
  refine am_icmp_ge (tgt := 9) dX9_lesser_2 (by decide) rfl hf (fun hf => ?_) (fun hf => ?_)
  · refine am_iload_n dX9_lesser_9 rfl rfl ?_
    exact am_iret rfl dX9_lesser_10 hf
  refine am_iload_n dX9_lesser_5 rfl rfl ?_
  refine am_goto (pc' := 10) dX9_lesser_6 (by decide) ?_
  exact am_iret rfl dX9_lesser_10 hf
set_option maxRecDepth 20000 in
set_option maxHeartbeats 4000000 in
theorem sfX9_come_54 {G : am_G}  (v0 : Option Nat) (v2 : Int32) (v4 : Int32) (v5 : Int32) (s0 : Option Nat) (s1 : Int32) (s2 : Int32) (h : am_H) (y : am_H) (hf : fX9_come_54  v0 v2 v4 v5 s0 s1 s2 h = some y) : am_S G miX9_come 54 [some (va_rf v0), none, some (.int v2), none, some (.int v4), some (.int v5)] [.int s2, .int s1, va_rf s0] h none y := by
  unfold fX9_come_54 at hf
  refine am_iadd dX9_come_54 rfl ?_
  refine am_pi_ dX9_come_55 fl_X9_236 fp_9_52 (fun z => by cases z) rfl hf (fun h1 _ hf => ?_)
  refine am_aload_n dX9_come_58 rfl rfl ?_
  refine am_gr_ dX9_come_59 fl_X9_99 rfl hf (fun x2 _ hf => ?_)
  refine am_iload_n dX9_come_62 rfl rfl ?_
  refine am_iload dX9_come_63 rfl rfl ?_
  refine am_iload dX9_come_65 rfl rfl ?_
  refine am_cSi (As := [.int v5, .int v4]) (st := [.int v2, va_rf x2]) lk_X9_come_239 rfl (Nat.le_of_ble_eq_true rfl) (by simp only [List.map_cons, List.map_nil, am_c1, am_ci, am_cl]; exact Nat.le_of_ble_eq_true rfl) rfl dX9_come_67 rfl hf (fun y3 hf => sfX9_lesser _ _ _ y3 hf) (fun y3 _ hf => ?_)
  refine am_iast dX9_come_70 rfl hf (fun h4 _ hf => ?_)
  exact am_vret rfl dX9_come_71 hf
set_option maxRecDepth 20000 in
set_option maxHeartbeats 4000000 in
theorem sfX9_come {G : am_G}  (v0 : Nat) (v1 : Int32) (v2 : Int32) (v3 : Int32) (h : am_H) (y : am_H) (hf : fX9_come v0 v1 v2 v3 h = some y) : am_Cn G miX9_come [va_rf (some v0), .int v1, .int v2, .int v3] h none y := by
  refine am_beg (ls := [some (va_rf (some v0)), some (.int v1), some (.int v2), some (.int v3), none, none]) (by simp only [am_en, am_e1_r, am_e1_i, am_e1_l, am_e1_n]; rfl) ?_
  unfold fX9_come at hf
  refine am_aload_n dX9_come_0 rfl rfl ?_
  refine am_gr_ dX9_come_1 fl_X9_13 rfl hf (fun x1 _ hf => ?_)
  refine am_iconst (v := 3) dX9_come_4 rfl rfl ?_
  refine am_iload_n dX9_come_5 rfl rfl ?_
  refine am_imul dX9_come_6 rfl ?_
  refine am_iload_n dX9_come_7 rfl rfl ?_
  refine am_iadd dX9_come_8 rfl ?_
  refine am_iald dX9_come_9 rfl hf (fun x2 _ hf => ?_)
  refine am_aload_n dX9_come_10 rfl rfl ?_
  refine am_gr_ dX9_come_11 fl_X9_16 rfl hf (fun x3 _ hf => ?_)
  refine am_iconst (v := 3) dX9_come_14 rfl rfl ?_
  refine am_iload_n dX9_come_15 rfl rfl ?_
  refine am_imul dX9_come_16 rfl ?_
  refine am_iload_n dX9_come_17 rfl rfl ?_
  refine am_iadd dX9_come_18 rfl ?_
  refine am_iald dX9_come_19 rfl hf (fun x4 _ hf => ?_)
  refine am_imul dX9_come_20 rfl ?_
  refine am_istore (ls' := [some (va_rf (some v0)), some (.int v1), some (.int v2), some (.int v3), some (.int (x2 * x4)), none]) dX9_come_21 (by decide) rfl rfl ?_
  refine am_aload_n dX9_come_23 rfl rfl ?_
  refine am_gr_ dX9_come_24 fl_X9_99 rfl hf (fun x5 _ hf => ?_)
  refine am_iload_n dX9_come_27 rfl rfl ?_
  refine am_iald dX9_come_28 rfl hf (fun x6 _ hf => ?_)
  refine am_iload_n dX9_come_29 rfl rfl ?_
  refine am_iadd dX9_come_30 rfl ?_
  refine am_istore (ls' := [some (va_rf (some v0)), some (.int v1), some (.int v2), some (.int v3), some (.int (x2 * x4)), some (.int (x6 + v3))]) dX9_come_31 (by decide) rfl rfl ?_
  refine am_aload_n dX9_come_33 rfl rfl ?_
  refine am_dup dX9_come_34 (am_c1 _) rfl ?_
  refine am_gi_ dX9_come_35 fl_X9_236 rfl hf (fun x7 _ hf => ?_)
  refine am_iload dX9_come_38 rfl rfl ?_
  refine am_iload dX9_come_40 rfl rfl ?_
  refine am_icmp_le (tgt := 53) dX9_come_42 (by decide) rfl hf (fun hf => ?_) (fun hf => ?_)
  · refine am_iconst (v := 0) dX9_come_53 rfl rfl ?_
    exact am_we (sfX9_come_54 _ _ _ _ _ _ _ _ _ hf) ⟨Or.inr rfl, Or.inl rfl, Or.inr rfl, Or.inl rfl, Or.inr rfl, Or.inr rfl, trivial⟩
  refine am_iload dX9_come_45 rfl rfl ?_
  refine am_iload dX9_come_47 rfl rfl ?_
  refine am_isub dX9_come_49 rfl ?_
  refine am_goto (pc' := 54) dX9_come_50 (by decide) ?_
  exact am_we (sfX9_come_54 _ _ _ _ _ _ _ _ _ hf) ⟨Or.inr rfl, Or.inl rfl, Or.inr rfl, Or.inl rfl, Or.inr rfl, Or.inr rfl, trivial⟩
set_option maxRecDepth 20000 in
set_option maxHeartbeats 4000000 in
theorem sfX9_hole_59 {G : am_G}  {k61 : Int32 → am_H → Option (Int32 × am_H)} (hk61 : ∀ (v3 : Int32) (h : am_H) (y : Int32 × am_H), k61 v3 h = some y → am_S G miX9_hole 61 [none, none, none, some (.int v3)] [] h (some (.int y.1)) y.2) (s0 : Int32) (s1 : Int32) (h : am_H) (y : Int32 × am_H) (hf : fX9_hole_59 k61 s0 s1 h = some y) : am_S G miX9_hole 59 [none, none, none, none] [.int s1, .int s0] h (some (.int y.1)) y.2 := by
  unfold fX9_hole_59 at hf
  refine am_iadd dX9_hole_59 rfl ?_
  refine am_istore_n (ls' := [none, none, none, some (.int (s0 + s1))]) dX9_hole_60 (by decide) rfl rfl ?_
  exact hk61 _ _ _ hf
set_option maxRecDepth 20000 in
set_option maxHeartbeats 4000000 in
theorem sfX9_hole_61 {G : am_G}  (v3 : Int32) (h : am_H) (y : Int32 × am_H) (hf : fX9_hole_61  v3 h = some y) : am_S G miX9_hole 61 [none, none, none, some (.int v3)] [] h (some (.int y.1)) y.2 := by
  unfold fX9_hole_61 at hf
  refine am_iload_n dX9_hole_61 rfl rfl ?_
  refine am_if_ge (tgt := 69) dX9_hole_62 (by decide) rfl hf (fun hf => ?_) (fun hf => ?_)
  · refine am_iload_n dX9_hole_69 rfl rfl ?_
    exact am_iret rfl dX9_hole_70 hf
  refine am_iconst (v := 0) dX9_hole_65 rfl rfl ?_
  refine am_goto (pc' := 70) dX9_hole_66 (by decide) ?_
  exact am_iret rfl dX9_hole_70 hf
set_option maxRecDepth 20000 in
set_option maxHeartbeats 4000000 in
theorem sfX9_hole_40 {G : am_G}  {k61 : Int32 → am_H → Option (Int32 × am_H)} (hk61 : ∀ (v3 : Int32) (h : am_H) (y : Int32 × am_H), k61 v3 h = some y → am_S G miX9_hole 61 [none, none, none, some (.int v3)] [] h (some (.int y.1)) y.2) (v0 : Option Nat) (s0 : Int32) (s1 : Int32) (h : am_H) (y : Int32 × am_H) (hf : fX9_hole_40 k61 v0 s0 s1 h = some y) : am_S G miX9_hole 40 [some (va_rf v0), none, none, none] [.int s1, .int s0] h (some (.int y.1)) y.2 := by
  unfold fX9_hole_40 at hf
  refine am_isub dX9_hole_40 rfl ?_
  refine am_istore_n (ls' := [some (va_rf v0), none, none, some (.int (s0 - s1))]) dX9_hole_41 (by decide) rfl rfl ?_
  refine am_iload_n dX9_hole_42 rfl rfl ?_
  refine am_aload_n dX9_hole_43 rfl rfl ?_
  refine am_gi_ dX9_hole_44 fl_X9_224 rfl hf (fun x1 _ hf => ?_)
  refine am_iconst (v := 2) dX9_hole_47 rfl rfl ?_
  refine am_icmp_ne (tgt := 58) dX9_hole_48 (by decide) rfl hf (fun hf => ?_) (fun hf => ?_)
  · refine am_iconst (v := 0) dX9_hole_58 rfl rfl ?_
    exact am_we ((sfX9_hole_59 hk61) _ _ _ _ hf) ⟨Or.inl rfl, Or.inl rfl, Or.inl rfl, Or.inl rfl, trivial⟩
  refine am_aload_n dX9_hole_51 rfl rfl ?_
  refine am_gi_ dX9_hole_52 fl_X9_230 rfl hf (fun x2 _ hf => ?_)
  refine am_goto (pc' := 59) dX9_hole_55 (by decide) ?_
  exact am_we ((sfX9_hole_59 hk61) _ _ _ _ hf) ⟨Or.inl rfl, Or.inl rfl, Or.inl rfl, Or.inl rfl, trivial⟩
set_option maxRecDepth 20000 in
set_option maxHeartbeats 4000000 in
theorem sfX9_hole {G : am_G}  (v0 : Nat) (v1 : Int32) (v2 : Int32) (h : am_H) (y : Int32 × am_H) (hf : fX9_hole v0 v1 v2 h = some y) : am_Cn G miX9_hole [va_rf (some v0), .int v1, .int v2] h (some (.int y.1)) y.2 := by
  refine am_beg (ls := [some (va_rf (some v0)), some (.int v1), some (.int v2), none]) (by simp only [am_en, am_e1_r, am_e1_i, am_e1_l, am_e1_n]; rfl) ?_
  unfold fX9_hole at hf
  refine am_aload_n dX9_hole_0 rfl rfl ?_
  refine am_gr_ dX9_hole_1 fl_X9_96 rfl hf (fun x1 _ hf => ?_)
  refine am_iload_n dX9_hole_4 rfl rfl ?_
  refine am_iald dX9_hole_5 rfl hf (fun x2 _ hf => ?_)
  refine am_istore_n (ls' := [some (va_rf (some v0)), some (.int v1), some (.int v2), some (.int x2)]) dX9_hole_6 (by decide) rfl rfl ?_
  refine am_iload_n dX9_hole_7 rfl rfl ?_
  refine am_aload_n dX9_hole_8 rfl rfl ?_
  refine am_gi_ dX9_hole_9 fl_X9_233 rfl hf (fun x3 _ hf => ?_)
  refine am_icmp_lt (tgt := 61) dX9_hole_12 (by decide) rfl hf (fun hf => ?_) (fun hf => ?_)
  · exact am_we (sfX9_hole_61 _ _ _ hf) ⟨Or.inl rfl, Or.inl rfl, Or.inl rfl, Or.inr rfl, trivial⟩
  refine am_iload_n dX9_hole_15 rfl rfl ?_
  refine am_aload_n dX9_hole_16 rfl rfl ?_
  refine am_gi_ dX9_hole_17 fl_X9_227 rfl hf (fun x4 _ hf => ?_)
  refine am_icmp_ne (tgt := 61) dX9_hole_20 (by decide) rfl hf (fun hf => ?_) (fun hf => ?_)
  · exact am_we (sfX9_hole_61 _ _ _ hf) ⟨Or.inl rfl, Or.inl rfl, Or.inl rfl, Or.inr rfl, trivial⟩
  refine am_iload_n dX9_hole_23 rfl rfl ?_
  refine am_aload_n dX9_hole_24 rfl rfl ?_
  refine am_gi_ dX9_hole_25 fl_X9_224 rfl hf (fun x5 _ hf => ?_)
  refine am_iconst (v := 1) dX9_hole_28 rfl rfl ?_
  refine am_icmp_ne (tgt := 39) dX9_hole_29 (by decide) rfl hf (fun hf => ?_) (fun hf => ?_)
  · refine am_iconst (v := 0) dX9_hole_39 rfl rfl ?_
    exact am_we ((sfX9_hole_40 sfX9_hole_61) _ _ _ _ _ hf) ⟨Or.inr rfl, Or.inl rfl, Or.inl rfl, Or.inl rfl, trivial⟩
  refine am_aload_n dX9_hole_32 rfl rfl ?_
  refine am_gi_ dX9_hole_33 fl_X9_230 rfl hf (fun x6 _ hf => ?_)
  refine am_goto (pc' := 40) dX9_hole_36 (by decide) ?_
  exact am_we ((sfX9_hole_40 sfX9_hole_61) _ _ _ _ _ hf) ⟨Or.inr rfl, Or.inl rfl, Or.inl rfl, Or.inl rfl, trivial⟩
set_option maxRecDepth 20000 in
set_option maxHeartbeats 4000000 in
theorem sfX9_tick_378 {G : am_G}  (v0 : Option Nat) (v1 : Int32) (v6 : Int32) (h : am_H) (y : am_H) (hf : fX9_tick_378  v0 v1 v6 h = some y) : am_S G miX9_tick 378 [some (va_rf v0), some (.int v1), none, none, none, none, some (.int v6), none] [] h none y := by
  unfold fX9_tick_378 at hf
  refine am_aload_n dX9_tick_378 rfl rfl ?_
  refine am_gi_ dX9_tick_379 fl_X9_221 rfl hf (fun x1 _ hf => ?_)
  refine am_if_eq (tgt := 424) dX9_tick_382 (by decide) rfl hf (fun hf => ?_) (fun hf => ?_)
  · exact am_vret rfl dX9_tick_424 hf
  refine am_iload dX9_tick_385 rfl rfl ?_
  refine am_aload_n dX9_tick_387 rfl rfl ?_
  refine am_gr_ dX9_tick_388 fl_X9_25 rfl hf (fun x2 _ hf => ?_)
  refine am_iload_n dX9_tick_391 rfl rfl ?_
  refine am_iald dX9_tick_392 rfl hf (fun x3 _ hf => ?_)
  refine am_icmp_lt (tgt := 424) dX9_tick_393 (by decide) rfl hf (fun hf => ?_) (fun hf => ?_)
  · exact am_vret rfl dX9_tick_424 hf
  refine am_aload_n dX9_tick_396 rfl rfl ?_
  refine am_gi_ dX9_tick_397 fl_X9_258 rfl hf (fun x4 _ hf => ?_)
  refine am_aload_n dX9_tick_400 rfl rfl ?_
  refine am_gr_ dX9_tick_401 fl_X9_31 rfl hf (fun x5 _ hf => ?_)
  refine am_iload_n dX9_tick_404 rfl rfl ?_
  refine am_iald dX9_tick_405 rfl hf (fun x6 _ hf => ?_)
  refine am_icmp_ne (tgt := 424) dX9_tick_406 (by decide) rfl hf (fun hf => ?_) (fun hf => ?_)
  · exact am_vret rfl dX9_tick_424 hf
  refine am_aload_n dX9_tick_409 rfl rfl ?_
  refine am_iconst (v := 0) dX9_tick_410 rfl rfl ?_
  refine am_pi_ dX9_tick_411 fl_X9_249 fp_9_51 (fun z => by cases z) rfl hf (fun h7 _ hf => ?_)
  refine am_aload_n dX9_tick_414 rfl rfl ?_
  refine am_dup dX9_tick_415 (am_c1 _) rfl ?_
  refine am_gi_ dX9_tick_416 fl_X9_264 rfl hf (fun x8 _ hf => ?_)
  refine am_iconst (v := 1) dX9_tick_419 rfl rfl ?_
  refine am_iadd dX9_tick_420 rfl ?_
  refine am_pi_ dX9_tick_421 fl_X9_264 fp_9_54 (fun z => by cases z) rfl hf (fun h9 _ hf => ?_)
  exact am_vret rfl dX9_tick_424 hf
set_option maxRecDepth 20000 in
set_option maxHeartbeats 4000000 in
theorem sfX9_tick_300 {G : am_G}  {k242 : Option Nat → Int32 → Int32 → Int32 → Int32 → am_H → Option (am_H)} (hk242 : ∀ (v0 : Option Nat) (v1 : Int32) (v3 : Int32) (v6 : Int32) (v7 : Int32) (h : am_H) (y : am_H), k242 v0 v1 v3 v6 v7 h = some y → am_S G miX9_tick 242 [some (va_rf v0), some (.int v1), none, some (.int v3), none, none, some (.int v6), some (.int v7)] [] h none y) (v0 : Option Nat) (v1 : Int32) (v3 : Int32) (v6 : Int32) (v7 : Int32) (h : am_H) (y : am_H) (hf : fX9_tick_300 k242 v0 v1 v3 v6 v7 h = some y) : am_S G miX9_tick 300 [some (va_rf v0), some (.int v1), none, some (.int v3), none, none, some (.int v6), some (.int v7)] [] h none y := by
  unfold fX9_tick_300 at hf
  refine am_iinc (ls' := [some (va_rf v0), some (.int v1), none, some (.int v3), none, none, some (.int v6), some (.int (v7 + (1 : Int32)))]) dX9_tick_300 rfl rfl (by decide) rfl rfl ?_
  refine am_goto (pc' := 242) dX9_tick_303 (by decide) ?_
  exact hk242 _ _ _ _ _ _ _ hf
set_option maxRecDepth 20000 in
set_option maxHeartbeats 4000000 in
theorem sfX9_tick_242 {G : am_G}  : ∀ (n : Nat) (v0 : Option Nat) (v1 : Int32) (v3 : Int32) (v6 : Int32) (v7 : Int32) (h : am_H) (y : am_H) (hf : fX9_tick_242  n v0 v1 v3 v6 v7 h = some y), am_S G miX9_tick 242 [some (va_rf v0), some (.int v1), none, some (.int v3), none, none, some (.int v6), some (.int v7)] [] h none y := by
  intro n
  induction n with
  | zero => intro v0 v1 v3 v6 v7 h y hf; cases hf
  | succ n ih =>
    intro v0 v1 v3 v6 v7 h y hf
    have hf : fX9_tick_242_b  (fX9_tick_242  n) v0 v1 v3 v6 v7 h = some y := hf
    unfold fX9_tick_242_b at hf
    refine am_iload dX9_tick_242 rfl rfl ?_
    refine am_aload_n dX9_tick_244 rfl rfl ?_
    refine am_gr_ dX9_tick_245 fl_X9_31 rfl hf (fun x1 _ hf => ?_)
    refine am_iload_n dX9_tick_248 rfl rfl ?_
    refine am_iald dX9_tick_249 rfl hf (fun x2 _ hf => ?_)
    refine am_icmp_ge (tgt := 306) dX9_tick_250 (by decide) rfl hf (fun hf => ?_) (fun hf => ?_)
    · refine am_aload_n dX9_tick_306 rfl rfl ?_
      refine am_gi_ dX9_tick_307 fl_X9_224 rfl hf (fun x3 _ hf => ?_)
      refine am_iconst (v := 3) dX9_tick_310 rfl rfl ?_
      refine am_icmp_ne (tgt := 378) dX9_tick_311 (by decide) rfl hf (fun hf => ?_) (fun hf => ?_)
      · exact am_we (sfX9_tick_378 _ _ _ _ _ hf) ⟨Or.inr rfl, Or.inr rfl, Or.inl rfl, Or.inl rfl, Or.inl rfl, Or.inl rfl, Or.inr rfl, Or.inl rfl, trivial⟩
      refine am_iload_n dX9_tick_314 rfl rfl ?_
      refine am_aload_n dX9_tick_315 rfl rfl ?_
      refine am_gi_ dX9_tick_316 fl_X9_233 rfl hf (fun x4 _ hf => ?_)
      refine am_icmp_lt (tgt := 378) dX9_tick_319 (by decide) rfl hf (fun hf => ?_) (fun hf => ?_)
      · exact am_we (sfX9_tick_378 _ _ _ _ _ hf) ⟨Or.inr rfl, Or.inr rfl, Or.inl rfl, Or.inl rfl, Or.inl rfl, Or.inl rfl, Or.inr rfl, Or.inl rfl, trivial⟩
      refine am_aload_n dX9_tick_322 rfl rfl ?_
      refine am_gi_ dX9_tick_323 fl_X9_227 rfl hf (fun x5 _ hf => ?_)
      refine am_aload_n dX9_tick_326 rfl rfl ?_
      refine am_gr_ dX9_tick_327 fl_X9_7 rfl hf (fun x6 _ hf => ?_)
      refine am_iload_n dX9_tick_330 rfl rfl ?_
      refine am_iald dX9_tick_331 rfl hf (fun x7 _ hf => ?_)
      refine am_icmp_ge (tgt := 378) dX9_tick_332 (by decide) rfl hf (fun hf => ?_) (fun hf => ?_)
      · exact am_we (sfX9_tick_378 _ _ _ _ _ hf) ⟨Or.inr rfl, Or.inr rfl, Or.inl rfl, Or.inl rfl, Or.inl rfl, Or.inl rfl, Or.inr rfl, Or.inl rfl, trivial⟩
      refine am_aload_n dX9_tick_335 rfl rfl ?_
      refine am_gi_ dX9_tick_336 fl_X9_230 rfl hf (fun x8 _ hf => ?_)
      refine am_aload_n dX9_tick_339 rfl rfl ?_
      refine am_gr_ dX9_tick_340 fl_X9_99 rfl hf (fun x9 _ hf => ?_)
      refine am_aload_n dX9_tick_343 rfl rfl ?_
      refine am_gi_ dX9_tick_344 fl_X9_227 rfl hf (fun x10 _ hf => ?_)
      refine am_iald dX9_tick_347 rfl hf (fun x11 _ hf => ?_)
      refine am_cSi (As := [.int x8, .int x11]) (st := []) lk_X9_tick_239 rfl (Nat.le_of_ble_eq_true rfl) (Nat.le_of_ble_eq_true rfl) rfl dX9_tick_348 rfl hf (fun y12 hf => sfX9_lesser _ _ _ y12 hf) (fun y12 _ hf => ?_)
      refine am_istore (ls' := [some (va_rf v0), some (.int v1), none, some (.int v3), none, none, some (.int v6), some (.int y12.1)]) dX9_tick_351 (by decide) rfl rfl ?_
      refine am_aload_n dX9_tick_353 rfl rfl ?_
      refine am_gr_ dX9_tick_354 fl_X9_99 rfl hf (fun x13 _ hf => ?_)
      refine am_aload_n dX9_tick_357 rfl rfl ?_
      refine am_gi_ dX9_tick_358 fl_X9_227 rfl hf (fun x14 _ hf => ?_)
      refine am_dup2 dX9_tick_361 (rfl) (am_c1 _) rfl ?_
      refine am_iald dX9_tick_362 rfl hf (fun x15 _ hf => ?_)
      refine am_iload dX9_tick_363 rfl rfl ?_
      refine am_isub dX9_tick_365 rfl ?_
      refine am_iast dX9_tick_366 rfl hf (fun h16 _ hf => ?_)
      refine am_aload_n dX9_tick_367 rfl rfl ?_
      refine am_dup dX9_tick_368 (am_c1 _) rfl ?_
      refine am_gi_ dX9_tick_369 fl_X9_261 rfl hf (fun x17 _ hf => ?_)
      refine am_iload dX9_tick_372 rfl rfl ?_
      refine am_iadd dX9_tick_374 rfl ?_
      refine am_pi_ dX9_tick_375 fl_X9_261 fp_9_53 (fun z => by cases z) rfl hf (fun h18 _ hf => ?_)
      exact am_we (sfX9_tick_378 _ _ _ _ _ hf) ⟨Or.inr rfl, Or.inr rfl, Or.inl rfl, Or.inl rfl, Or.inl rfl, Or.inl rfl, Or.inr rfl, Or.inl rfl, trivial⟩
    refine am_aload_n dX9_tick_253 rfl rfl ?_
    refine am_gr_ dX9_tick_254 fl_X9_102 rfl hf (fun x19 _ hf => ?_)
    refine am_iload dX9_tick_257 rfl rfl ?_
    refine am_iald dX9_tick_259 rfl hf (fun x20 _ hf => ?_)
    refine am_bipush (v := 96) dX9_tick_260 (by decide) rfl ?_
    refine am_icmp_ne (tgt := 300) dX9_tick_262 (by decide) rfl hf (fun hf => ?_) (fun hf => ?_)
    · exact (sfX9_tick_300 ih) _ _ _ _ _ _ _ hf
    refine am_iload dX9_tick_265 rfl rfl ?_
    refine am_aload_n dX9_tick_267 rfl rfl ?_
    refine am_gr_ dX9_tick_268 fl_X9_34 rfl hf (fun x21 _ hf => ?_)
    refine am_bipush (v := 12) dX9_tick_271 (by decide) rfl ?_
    refine am_iload_n dX9_tick_273 rfl rfl ?_
    refine am_imul dX9_tick_274 rfl ?_
    refine am_iload dX9_tick_275 rfl rfl ?_
    refine am_iadd dX9_tick_277 rfl ?_
    refine am_iald dX9_tick_278 rfl hf (fun x22 _ hf => ?_)
    refine am_icmp_lt (tgt := 300) dX9_tick_279 (by decide) rfl hf (fun hf => ?_) (fun hf => ?_)
    · exact (sfX9_tick_300 ih) _ _ _ _ _ _ _ hf
    refine am_aload_n dX9_tick_282 rfl rfl ?_
    refine am_gr_ dX9_tick_283 fl_X9_102 rfl hf (fun x23 _ hf => ?_)
    refine am_iload dX9_tick_286 rfl rfl ?_
    refine am_iload_n dX9_tick_288 rfl rfl ?_
    refine am_iast dX9_tick_289 rfl hf (fun h24 _ hf => ?_)
    refine am_aload_n dX9_tick_290 rfl rfl ?_
    refine am_dup dX9_tick_291 (am_c1 _) rfl ?_
    refine am_gi_ dX9_tick_292 fl_X9_258 rfl hf (fun x25 _ hf => ?_)
    refine am_iconst (v := 1) dX9_tick_295 rfl rfl ?_
    refine am_iadd dX9_tick_296 rfl ?_
    refine am_pi_ dX9_tick_297 fl_X9_258 fp_9_55 (fun z => by cases z) rfl hf (fun h26 _ hf => ?_)
    exact (sfX9_tick_300 ih) _ _ _ _ _ _ _ hf
set_option maxRecDepth 20000 in
set_option maxHeartbeats 4000000 in
theorem sfX9_tick_215 {G : am_G}  (v0 : Option Nat) (v1 : Int32) (v3 : Int32) (s0 : Option Nat) (s1 : Int32) (h : am_H) (y : am_H) (hf : fX9_tick_215  v0 v1 v3 s0 s1 h = some y) : am_S G miX9_tick 215 [some (va_rf v0), some (.int v1), none, some (.int v3), none, none, none, none] [.int s1, va_rf s0] h none y := by
  unfold fX9_tick_215 at hf
  refine am_pi_ dX9_tick_215 fl_X9_255 fp_9_58 (fun z => by cases z) rfl hf (fun h1 _ hf => ?_)
  refine am_aload_n dX9_tick_218 rfl rfl ?_
  refine am_gi_ dX9_tick_219 fl_X9_249 rfl hf (fun x2 _ hf => ?_)
  refine am_aload_n dX9_tick_222 rfl rfl ?_
  refine am_gr_ dX9_tick_223 fl_X9_22 rfl hf (fun x3 _ hf => ?_)
  refine am_iload_n dX9_tick_226 rfl rfl ?_
  refine am_iald dX9_tick_227 rfl hf (fun x4 _ hf => ?_)
  refine am_idiv dX9_tick_228 rfl hf (fun hf => ?_)
  refine am_istore (ls' := [some (va_rf v0), some (.int v1), none, some (.int v3), none, none, some (.int (x2 / x4)), none]) dX9_tick_229 (by decide) rfl rfl ?_
  refine am_aload_n dX9_tick_231 rfl rfl ?_
  refine am_gr_ dX9_tick_232 fl_X9_105 rfl hf (fun x5 _ hf => ?_)
  refine am_iload_n dX9_tick_235 rfl rfl ?_
  refine am_iload dX9_tick_236 rfl rfl ?_
  refine am_iast dX9_tick_238 rfl hf (fun h6 _ hf => ?_)
  refine am_iconst (v := 0) dX9_tick_239 rfl rfl ?_
  refine am_istore (ls' := [some (va_rf v0), some (.int v1), none, some (.int v3), none, none, some (.int (x2 / x4)), some (.int (0 : Int32))]) dX9_tick_240 (by decide) rfl rfl ?_
  exact (sfX9_tick_242 _) _ _ _ _ _ _ _ hf
set_option maxRecDepth 20000 in
set_option maxHeartbeats 4000000 in
theorem sfX9_tick_206 {G : am_G}  {k215 : Option Nat → Int32 → Int32 → Option Nat → Int32 → am_H → Option (am_H)} (hk215 : ∀ (v0 : Option Nat) (v1 : Int32) (v3 : Int32) (s0 : Option Nat) (s1 : Int32) (h : am_H) (y : am_H), k215 v0 v1 v3 s0 s1 h = some y → am_S G miX9_tick 215 [some (va_rf v0), some (.int v1), none, some (.int v3), none, none, none, none] [.int s1, va_rf s0] h none y) (v0 : Option Nat) (v1 : Int32) (v3 : Int32) (v5 : Int32) (s0 : Option Nat) (h : am_H) (y : am_H) (hf : fX9_tick_206 k215 v0 v1 v3 v5 s0 h = some y) : am_S G miX9_tick 206 [some (va_rf v0), some (.int v1), none, some (.int v3), none, some (.int v5), none, none] [va_rf s0] h none y := by
  unfold fX9_tick_206 at hf
  refine am_iload dX9_tick_206 rfl rfl ?_
  refine am_goto (pc' := 215) dX9_tick_208 (by decide) ?_
  exact am_we (hk215 _ _ _ _ _ _ _ hf) ⟨Or.inr rfl, Or.inr rfl, Or.inl rfl, Or.inr rfl, Or.inl rfl, Or.inl rfl, Or.inl rfl, Or.inl rfl, trivial⟩
set_option maxRecDepth 20000 in
set_option maxHeartbeats 4000000 in
theorem sfX9_tick_189 {G : am_G}  (v0 : Option Nat) (v1 : Int32) (v3 : Int32) (v5 : Int32) (s0 : Option Nat) (s1 : Int32) (h : am_H) (y : am_H) (hf : fX9_tick_189  v0 v1 v3 v5 s0 s1 h = some y) : am_S G miX9_tick 189 [some (va_rf v0), some (.int v1), none, some (.int v3), none, some (.int v5), none, none] [.int s1, va_rf s0] h none y := by
  unfold fX9_tick_189 at hf
  refine am_pi_ dX9_tick_189 fl_X9_252 fp_9_57 (fun z => by cases z) rfl hf (fun h1 _ hf => ?_)
  refine am_aload_n dX9_tick_192 rfl rfl ?_
  refine am_iload_n dX9_tick_193 rfl rfl ?_
  refine am_if_eq (tgt := 206) dX9_tick_194 (by decide) rfl hf (fun hf => ?_) (fun hf => ?_)
  · exact (sfX9_tick_206 sfX9_tick_215) _ _ _ _ _ _ _ hf
  refine am_iload dX9_tick_197 rfl rfl ?_
  refine am_aload_n dX9_tick_199 rfl rfl ?_
  refine am_gi_ dX9_tick_200 fl_X9_255 rfl hf (fun x2 _ hf => ?_)
  refine am_icmp_le (tgt := 211) dX9_tick_203 (by decide) rfl hf (fun hf => ?_) (fun hf => ?_)
  · refine am_aload_n dX9_tick_211 rfl rfl ?_
    refine am_gi_ dX9_tick_212 fl_X9_255 rfl hf (fun x3 _ hf => ?_)
    exact am_we (sfX9_tick_215 _ _ _ _ _ _ _ hf) ⟨Or.inr rfl, Or.inr rfl, Or.inl rfl, Or.inr rfl, Or.inl rfl, Or.inl rfl, Or.inl rfl, Or.inl rfl, trivial⟩
  exact (sfX9_tick_206 sfX9_tick_215) _ _ _ _ _ _ _ hf
set_option maxRecDepth 20000 in
set_option maxHeartbeats 4000000 in
theorem sfX9_tick_180 {G : am_G}  {k189 : Option Nat → Int32 → Int32 → Int32 → Option Nat → Int32 → am_H → Option (am_H)} (hk189 : ∀ (v0 : Option Nat) (v1 : Int32) (v3 : Int32) (v5 : Int32) (s0 : Option Nat) (s1 : Int32) (h : am_H) (y : am_H), k189 v0 v1 v3 v5 s0 s1 h = some y → am_S G miX9_tick 189 [some (va_rf v0), some (.int v1), none, some (.int v3), none, some (.int v5), none, none] [.int s1, va_rf s0] h none y) (v0 : Option Nat) (v1 : Int32) (v3 : Int32) (v5 : Int32) (s0 : Option Nat) (h : am_H) (y : am_H) (hf : fX9_tick_180 k189 v0 v1 v3 v5 s0 h = some y) : am_S G miX9_tick 180 [some (va_rf v0), some (.int v1), none, some (.int v3), none, some (.int v5), none, none] [va_rf s0] h none y := by
  unfold fX9_tick_180 at hf
  refine am_iload dX9_tick_180 rfl rfl ?_
  refine am_goto (pc' := 189) dX9_tick_182 (by decide) ?_
  exact hk189 _ _ _ _ _ _ _ _ hf
set_option maxRecDepth 20000 in
set_option maxHeartbeats 4000000 in
theorem sfX9_tick_149 {G : am_G}  {k49 : Option Nat → Int32 → Int32 → Int32 → Int32 → Int32 → am_H → Option (am_H)} (hk49 : ∀ (v0 : Option Nat) (v1 : Int32) (v3 : Int32) (v4 : Int32) (v5 : Int32) (v6 : Int32) (h : am_H) (y : am_H), k49 v0 v1 v3 v4 v5 v6 h = some y → am_S G miX9_tick 49 [some (va_rf v0), some (.int v1), none, some (.int v3), some (.int v4), some (.int v5), some (.int v6), none] [] h none y) (v0 : Option Nat) (v1 : Int32) (v3 : Int32) (v4 : Int32) (v5 : Int32) (v6 : Int32) (h : am_H) (y : am_H) (hf : fX9_tick_149 k49 v0 v1 v3 v4 v5 v6 h = some y) : am_S G miX9_tick 149 [some (va_rf v0), some (.int v1), none, some (.int v3), some (.int v4), some (.int v5), some (.int v6), none] [] h none y := by
  unfold fX9_tick_149 at hf
  refine am_iinc (ls' := [some (va_rf v0), some (.int v1), none, some (.int v3), some (.int v4), some (.int v5), some (.int (v6 + (1 : Int32))), none]) dX9_tick_149 rfl rfl (by decide) rfl rfl ?_
  refine am_goto (pc' := 49) dX9_tick_152 (by decide) ?_
  exact hk49 _ _ _ _ _ _ _ _ hf
set_option maxRecDepth 20000 in
set_option maxHeartbeats 4000000 in
theorem sfX9_tick_49 {G : am_G}  : ∀ (n : Nat) (v0 : Option Nat) (v1 : Int32) (v3 : Int32) (v4 : Int32) (v5 : Int32) (v6 : Int32) (h : am_H) (y : am_H) (hf : fX9_tick_49  n v0 v1 v3 v4 v5 v6 h = some y), am_S G miX9_tick 49 [some (va_rf v0), some (.int v1), none, some (.int v3), some (.int v4), some (.int v5), some (.int v6), none] [] h none y := by
  intro n
  induction n with
  | zero => intro v0 v1 v3 v4 v5 v6 h y hf; cases hf
  | succ n ih =>
    intro v0 v1 v3 v4 v5 v6 h y hf
    have hf : fX9_tick_49_b  (fX9_tick_49  n) v0 v1 v3 v4 v5 v6 h = some y := hf
    unfold fX9_tick_49_b at hf
    refine am_iload dX9_tick_49 rfl rfl ?_
    refine am_aload_n dX9_tick_51 rfl rfl ?_
    refine am_gr_ dX9_tick_52 fl_X9_7 rfl hf (fun x1 _ hf => ?_)
    refine am_iload_n dX9_tick_55 rfl rfl ?_
    refine am_iald dX9_tick_56 rfl hf (fun x2 _ hf => ?_)
    refine am_icmp_ge (tgt := 155) dX9_tick_57 (by decide) rfl hf (fun hf => ?_) (fun hf => ?_)
    · refine am_aload_n dX9_tick_155 rfl rfl ?_
      refine am_dup dX9_tick_156 (am_c1 _) rfl ?_
      refine am_gi_ dX9_tick_157 fl_X9_249 rfl hf (fun x3 _ hf => ?_)
      refine am_iload dX9_tick_160 rfl rfl ?_
      refine am_iadd dX9_tick_162 rfl ?_
      refine am_pi_ dX9_tick_163 fl_X9_249 fp_9_51 (fun z => by cases z) rfl hf (fun h4 _ hf => ?_)
      refine am_aload_n dX9_tick_166 rfl rfl ?_
      refine am_iload_n dX9_tick_167 rfl rfl ?_
      refine am_if_eq (tgt := 180) dX9_tick_168 (by decide) rfl hf (fun hf => ?_) (fun hf => ?_)
      · exact am_we ((sfX9_tick_180 sfX9_tick_189) _ _ _ _ _ _ _ hf) ⟨Or.inr rfl, Or.inr rfl, Or.inl rfl, Or.inr rfl, Or.inl rfl, Or.inr rfl, Or.inl rfl, Or.inl rfl, trivial⟩
      refine am_iload dX9_tick_171 rfl rfl ?_
      refine am_aload_n dX9_tick_173 rfl rfl ?_
      refine am_gi_ dX9_tick_174 fl_X9_252 rfl hf (fun x5 _ hf => ?_)
      refine am_icmp_ge (tgt := 185) dX9_tick_177 (by decide) rfl hf (fun hf => ?_) (fun hf => ?_)
      · refine am_aload_n dX9_tick_185 rfl rfl ?_
        refine am_gi_ dX9_tick_186 fl_X9_252 rfl hf (fun x6 _ hf => ?_)
        exact am_we (sfX9_tick_189 _ _ _ _ _ _ _ _ hf) ⟨Or.inr rfl, Or.inr rfl, Or.inl rfl, Or.inr rfl, Or.inl rfl, Or.inr rfl, Or.inl rfl, Or.inl rfl, trivial⟩
      exact am_we ((sfX9_tick_180 sfX9_tick_189) _ _ _ _ _ _ _ hf) ⟨Or.inr rfl, Or.inr rfl, Or.inl rfl, Or.inr rfl, Or.inl rfl, Or.inr rfl, Or.inl rfl, Or.inl rfl, trivial⟩
    refine am_aload_n dX9_tick_60 rfl rfl ?_
    refine am_gr_ dX9_tick_61 fl_X9_99 rfl hf (fun x7 _ hf => ?_)
    refine am_iload dX9_tick_64 rfl rfl ?_
    refine am_iald dX9_tick_66 rfl hf (fun x8 _ hf => ?_)
    refine am_aload_n dX9_tick_67 rfl rfl ?_
    refine am_iload dX9_tick_68 rfl rfl ?_
    refine am_iload_n dX9_tick_70 rfl rfl ?_
    refine am_cVi (As := [.int v6, .int v3]) (st := [.int x8]) lk_X9_tick_246 rfl (Nat.le_of_ble_eq_true rfl) (Nat.le_of_ble_eq_true rfl) rfl dX9_tick_71 rfl hf (fun b10 y9 hf => sfX9_hole b10 _ _ _ y9 hf) (fun b10 y9 _ _ hf => ?_)
    refine am_aload_n dX9_tick_74 rfl rfl ?_
    refine am_gr_ dX9_tick_75 fl_X9_99 rfl hf (fun x11 _ hf => ?_)
    refine am_iload dX9_tick_78 rfl rfl ?_
    refine am_iald dX9_tick_80 rfl hf (fun x12 _ hf => ?_)
    refine am_aload_n dX9_tick_81 rfl rfl ?_
    refine am_gr_ dX9_tick_82 fl_X9_13 rfl hf (fun x13 _ hf => ?_)
    refine am_iconst (v := 3) dX9_tick_85 rfl rfl ?_
    refine am_iload_n dX9_tick_86 rfl rfl ?_
    refine am_imul dX9_tick_87 rfl ?_
    refine am_iload dX9_tick_88 rfl rfl ?_
    refine am_iadd dX9_tick_90 rfl ?_
    refine am_iald dX9_tick_91 rfl hf (fun x14 _ hf => ?_)
    refine am_idiv dX9_tick_92 rfl hf (fun hf => ?_)
    refine am_imul dX9_tick_93 rfl ?_
    refine am_iload dX9_tick_94 rfl rfl ?_
    refine am_imul dX9_tick_96 rfl ?_
    refine am_sipush (v := 1000) dX9_tick_97 (by decide) rfl ?_
    refine am_idiv dX9_tick_100 rfl hf (fun hf => ?_)
    refine am_cSi (As := [.int x8, .int (((y9.1 * (x12 / x14)) * v4) / (1000 : Int32))]) (st := []) lk_X9_tick_239 rfl (Nat.le_of_ble_eq_true rfl) (Nat.le_of_ble_eq_true rfl) rfl dX9_tick_101 rfl hf (fun y15 hf => sfX9_lesser _ _ _ y15 hf) (fun y15 _ hf => ?_)
    refine am_istore (ls' := [some (va_rf v0), some (.int v1), none, some (.int v3), some (.int v4), some (.int v5), some (.int v6), some (.int y15.1)]) dX9_tick_104 (by decide) rfl rfl ?_
    refine am_aload_n dX9_tick_106 rfl rfl ?_
    refine am_gr_ dX9_tick_107 fl_X9_99 rfl hf (fun x16 _ hf => ?_)
    refine am_iload dX9_tick_110 rfl rfl ?_
    refine am_dup2 dX9_tick_112 (rfl) (am_c1 _) rfl ?_
    refine am_iald dX9_tick_113 rfl hf (fun x17 _ hf => ?_)
    refine am_iload dX9_tick_114 rfl rfl ?_
    refine am_isub dX9_tick_116 rfl ?_
    refine am_iast dX9_tick_117 rfl hf (fun h18 _ hf => ?_)
    refine am_iload dX9_tick_118 rfl rfl ?_
    refine am_iconst (v := 1) dX9_tick_120 rfl rfl ?_
    refine am_iadd dX9_tick_121 rfl ?_
    refine am_aload_n dX9_tick_122 rfl rfl ?_
    refine am_gr_ dX9_tick_123 fl_X9_7 rfl hf (fun x19 _ hf => ?_)
    refine am_iload_n dX9_tick_126 rfl rfl ?_
    refine am_iald dX9_tick_127 rfl hf (fun x20 _ hf => ?_)
    refine am_icmp_ge (tgt := 145) dX9_tick_128 (by decide) rfl hf (fun hf => ?_) (fun hf => ?_)
    · refine am_iload dX9_tick_145 rfl rfl ?_
      refine am_istore (ls' := [some (va_rf v0), some (.int v1), none, some (.int v3), some (.int v4), some (.int y15.1), some (.int v6), some (.int y15.1)]) dX9_tick_147 (by decide) rfl rfl ?_
      exact am_we ((sfX9_tick_149 ih) _ _ _ _ _ _ _ _ hf) ⟨Or.inr rfl, Or.inr rfl, Or.inl rfl, Or.inr rfl, Or.inr rfl, Or.inr rfl, Or.inr rfl, Or.inl rfl, trivial⟩
    refine am_aload_n dX9_tick_131 rfl rfl ?_
    refine am_iload_n dX9_tick_132 rfl rfl ?_
    refine am_iload dX9_tick_133 rfl rfl ?_
    refine am_iconst (v := 1) dX9_tick_135 rfl rfl ?_
    refine am_iadd dX9_tick_136 rfl ?_
    refine am_iload dX9_tick_137 rfl rfl ?_
    refine am_cVv (As := [.int v1, .int (v6 + (1 : Int32)), .int y15.1]) (st := []) lk_X9_tick_242 rfl (Nat.le_of_ble_eq_true rfl) (Nat.le_of_ble_eq_true rfl) rfl dX9_tick_139 rfl hf (fun b22 y21 hf => sfX9_come b22 _ _ _ _ y21 hf) (fun b22 y21 _ _ hf => ?_)
    refine am_goto (pc' := 149) dX9_tick_142 (by decide) ?_
    exact am_we ((sfX9_tick_149 ih) _ _ _ _ _ _ _ _ hf) ⟨Or.inr rfl, Or.inr rfl, Or.inl rfl, Or.inr rfl, Or.inr rfl, Or.inr rfl, Or.inr rfl, Or.inl rfl, trivial⟩
