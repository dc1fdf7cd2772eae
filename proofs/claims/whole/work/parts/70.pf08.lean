/-! printed proofs of the printed functions, 8 -/
set_option maxRecDepth 20000 in
set_option maxHeartbeats 4000000 in
theorem sfX9_mean {G : am_G}  (v0 : Nat) (v1 : Int32) (v2 : Int32) (v3 : Int32) (v4 : Int32) (h : am_H) (y : Int32 × am_H) (hf : fX9_mean v0 v1 v2 v3 v4 h = some y) : am_Cn G miX9_mean [va_rf (some v0), .int v1, .int v2, .int v3, .int v4] h (some (.int y.1)) y.2 := by
  refine am_beg (ls := [some (va_rf (some v0)), some (.int v1), some (.int v2), some (.int v3), some (.int v4), none, none, none, none]) (by simp only [am_en, am_e1_r, am_e1_i, am_e1_l, am_e1_n]; rfl) ?_
  unfold fX9_mean at hf
  refine am_aload_n dX9_mean_0 rfl rfl ?_
  refine am_iload_n dX9_mean_1 rfl rfl ?_
  refine am_iload_n dX9_mean_2 rfl rfl ?_
  refine am_iload_n dX9_mean_3 rfl rfl ?_
  refine am_cVi (As := [.int v1, .int v2, .int v3]) (st := []) lk_X9_mean_277 rfl (Nat.le_of_ble_eq_true rfl) (Nat.le_of_ble_eq_true rfl) rfl dX9_mean_4 rfl hf (fun b2 y1 hf => sfX9_isRun b2 _ _ _ _ y1 hf) (fun b2 y1 _ _ hf => ?_)
  refine am_if_ne (tgt := 13) dX9_mean_7 (by decide) rfl hf (fun hf => ?_) (fun hf => ?_)
  · refine am_iload dX9_mean_13 rfl rfl ?_
    refine am_iconst (v := 0) dX9_mean_15 rfl rfl ?_
    refine am_iconst (v := 1) dX9_mean_16 rfl rfl ?_
    refine am_cSi (As := [.int v4, .int (0 : Int32), .int (1 : Int32)]) (st := []) lk_X9_mean_132 rfl (Nat.le_of_ble_eq_true rfl) (Nat.le_of_ble_eq_true rfl) rfl dX9_mean_17 rfl hf (fun y3 hf => sfX9_within _ _ _ _ y3 hf) (fun y3 _ hf => ?_)
    refine am_if_ne (tgt := 26) dX9_mean_20 (by decide) rfl hf (fun hf => ?_) (fun hf => ?_)
    · refine am_aload_n dX9_mean_26 rfl rfl ?_
      refine am_iload_n dX9_mean_27 rfl rfl ?_
      refine am_iload_n dX9_mean_28 rfl rfl ?_
      refine am_iload_n dX9_mean_29 rfl rfl ?_
      refine am_cVv (As := [.int v1, .int v2, .int v3]) (st := []) lk_X9_mean_280 rfl (Nat.le_of_ble_eq_true rfl) (Nat.le_of_ble_eq_true rfl) rfl dX9_mean_30 rfl hf (fun b5 y4 hf => sfX9_runAll b5 _ _ _ _ y4 hf) (fun b5 y4 _ _ hf => ?_)
      refine am_aload_n dX9_mean_33 rfl rfl ?_
      refine am_iload_n dX9_mean_34 rfl rfl ?_
      refine am_iload_n dX9_mean_35 rfl rfl ?_
      refine am_cVi (As := [.int v1, .int v2]) (st := []) lk_X9_mean_293 rfl (Nat.le_of_ble_eq_true rfl) (Nat.le_of_ble_eq_true rfl) rfl dX9_mean_36 rfl hf (fun b7 y6 hf => sfX9_errors b7 _ _ _ y6 hf) (fun b7 y6 _ _ hf => ?_)
      refine am_istore (ls' := [some (va_rf (some v0)), some (.int v1), some (.int v2), some (.int v3), some (.int v4), some (.int y6.1), none, none, none]) dX9_mean_39 (by decide) rfl rfl ?_
      refine am_iload dX9_mean_41 rfl rfl ?_
      refine am_istore (ls' := [some (va_rf (some v0)), some (.int v1), some (.int v2), some (.int v3), some (.int v4), some (.int y6.1), some (.int y6.1), none, none]) dX9_mean_43 (by decide) rfl rfl ?_
      refine am_aload_n dX9_mean_45 rfl rfl ?_
      refine am_gr_ dX9_mean_46 fl_X9_31 rfl hf (fun x8 _ hf => ?_)
      refine am_iload_n dX9_mean_49 rfl rfl ?_
      refine am_iald dX9_mean_50 rfl hf (fun x9 _ hf => ?_)
      refine am_istore (ls' := [some (va_rf (some v0)), some (.int v1), some (.int v2), some (.int v3), some (.int v4), some (.int y6.1), some (.int y6.1), some (.int x9), none]) dX9_mean_51 (by decide) rfl rfl ?_
      exact am_we ((sfX9_mean_53 _) _ _ _ _ _ _ _ _ hf) ⟨Or.inr rfl, Or.inr rfl, Or.inl rfl, Or.inl rfl, Or.inr rfl, Or.inr rfl, Or.inr rfl, Or.inr rfl, Or.inl rfl, trivial⟩
    refine am_bipush (v := -102) dX9_mean_23 (by decide) rfl ?_
    exact am_iret rfl dX9_mean_25 hf
  refine am_bipush (v := -101) dX9_mean_10 (by decide) rfl ?_
  exact am_iret rfl dX9_mean_12 hf
set_option maxRecDepth 20000 in
set_option maxHeartbeats 4000000 in
theorem sfX4_start_2 {G : am_G}  : ∀ (n : Nat) (v0 : Option Nat) (v1 : Int32) (h : am_H) (y : am_H) (hf : fX4_start_2  n v0 v1 h = some y), am_S G miX4_start 2 [some (va_rf v0), some (.int v1)] [] h none y := by
  intro n
  induction n with
  | zero => intro v0 v1 h y hf; cases hf
  | succ n ih =>
    intro v0 v1 h y hf
    have hf : fX4_start_2_b  (fX4_start_2  n) v0 v1 h = some y := hf
    unfold fX4_start_2_b at hf
    refine am_iload_n dX4_start_2 rfl rfl ?_
    refine am_bipush (v := 10) dX4_start_3 (by decide) rfl ?_
    refine am_icmp_ge (tgt := 28) dX4_start_5 (by decide) rfl hf (fun hf => ?_) (fun hf => ?_)
    · refine am_aload_n dX4_start_28 rfl rfl ?_
      refine am_gr_ dX4_start_29 fl_X4_19 rfl hf (fun x1 _ hf => ?_)
      refine am_iconst (v := 0) dX4_start_32 rfl rfl ?_
      refine am_cSv (As := [va_rf x1, .int (0 : Int32)]) (st := []) lk_X4_start_34 rfl (by simp only [am_e1_r, am_e1_i, am_e1_l, am_e1_n]; exact Nat.le_of_ble_eq_true rfl) (Nat.le_of_ble_eq_true rfl) rfl dX4_start_33 rfl hf (fun y2 hf => sfJ7_fill_53178 _ _ _ y2 hf) (fun y2 _ hf => ?_)
      refine am_aload_n dX4_start_36 rfl rfl ?_
      refine am_gr_ dX4_start_37 fl_X4_31 rfl hf (fun x3 _ hf => ?_)
      refine am_iconst (v := -1) dX4_start_40 rfl rfl ?_
      refine am_cSv (As := [va_rf x3, .int (-1 : Int32)]) (st := []) lk_X4_start_34 rfl (by simp only [am_e1_r, am_e1_i, am_e1_l, am_e1_n]; exact Nat.le_of_ble_eq_true rfl) (Nat.le_of_ble_eq_true rfl) rfl dX4_start_41 rfl hf (fun y4 hf => sfJ7_fill_53178 _ _ _ y4 hf) (fun y4 _ hf => ?_)
      refine am_aload_n dX4_start_44 rfl rfl ?_
      refine am_iconst (v := 0) dX4_start_45 rfl rfl ?_
      refine am_pi_ dX4_start_46 fl_X4_40 fp_4_5 (fun z => by cases z) rfl hf (fun h5 _ hf => ?_)
      refine am_aload_n dX4_start_49 rfl rfl ?_
      refine am_iconst (v := 0) dX4_start_50 rfl rfl ?_
      refine am_pi_ dX4_start_51 fl_X4_44 fp_4_7 (fun z => by cases z) rfl hf (fun h6 _ hf => ?_)
      refine am_aload_n dX4_start_54 rfl rfl ?_
      refine am_iconst (v := 0) dX4_start_55 rfl rfl ?_
      refine am_pi_ dX4_start_56 fl_X4_47 fp_4_8 (fun z => by cases z) rfl hf (fun h7 _ hf => ?_)
      refine am_aload_n dX4_start_59 rfl rfl ?_
      refine am_iconst (v := 0) dX4_start_60 rfl rfl ?_
      refine am_pi_ dX4_start_61 fl_X4_50 fp_4_9 (fun z => by cases z) rfl hf (fun h8 _ hf => ?_)
      refine am_aload_n dX4_start_64 rfl rfl ?_
      refine am_iconst (v := -1) dX4_start_65 rfl rfl ?_
      refine am_pi_ dX4_start_66 fl_X4_53 fp_4_10 (fun z => by cases z) rfl hf (fun h9 _ hf => ?_)
      refine am_aload_n dX4_start_69 rfl rfl ?_
      refine am_iconst (v := -1) dX4_start_70 rfl rfl ?_
      refine am_pi_ dX4_start_71 fl_X4_56 fp_4_11 (fun z => by cases z) rfl hf (fun h10 _ hf => ?_)
      exact am_vret rfl dX4_start_74 hf
    refine am_aload_n dX4_start_8 rfl rfl ?_
    refine am_gr_ dX4_start_9 fl_X4_9 rfl hf (fun x11 _ hf => ?_)
    refine am_iload_n dX4_start_12 rfl rfl ?_
    refine am_iconst (v := 0) dX4_start_13 rfl rfl ?_
    refine am_iast dX4_start_14 rfl hf (fun h12 _ hf => ?_)
    refine am_aload_n dX4_start_15 rfl rfl ?_
    refine am_gr_ dX4_start_16 fl_X4_15 rfl hf (fun x13 _ hf => ?_)
    refine am_iload_n dX4_start_19 rfl rfl ?_
    refine am_iconst (v := 0) dX4_start_20 rfl rfl ?_
    refine am_zast dX4_start_21 rfl hf (fun h14 _ hf => ?_)
    refine am_iinc (ls' := [some (va_rf v0), some (.int (v1 + (1 : Int32)))]) dX4_start_22 rfl rfl (by decide) (am_s1_r (j := 0) rfl rfl) rfl ?_
    refine am_goto (pc' := 2) dX4_start_25 (by decide) ?_
    exact ih _ _ _ _ hf
set_option maxRecDepth 20000 in
set_option maxHeartbeats 4000000 in
theorem sfX4_start {G : am_G}  (v0 : Nat) (h : am_H) (y : am_H) (hf : fX4_start v0 h = some y) : am_Cn G miX4_start [va_rf (some v0)] h none y := by
  refine am_beg (ls := [some (va_rf (some v0)), none]) (by simp only [am_en, am_e1_r, am_e1_i, am_e1_l, am_e1_n]; rfl) ?_
  unfold fX4_start at hf
  refine am_iconst (v := 0) dX4_start_0 rfl rfl ?_
  refine am_istore_n (ls' := [some (va_rf (some v0)), some (.int (0 : Int32))]) dX4_start_1 (by decide) (am_s1_r (j := 0) rfl rfl) rfl ?_
  exact (sfX4_start_2 _) _ _ _ _ hf
set_option maxRecDepth 20000 in
set_option maxHeartbeats 4000000 in
theorem sfX4_comesOut_98 {G : am_G}  (s0 : Option Nat) (s1 : Int32) (h : am_H) (y : Int32 × am_H) (hf : fX4_comesOut_98  s0 s1 h = some y) : am_S G miX4_comesOut 98 [none, none, none, none, none] [.int s1, va_rf s0] h (some (.int y.1)) y.2 := by
  unfold fX4_comesOut_98 at hf
  refine am_pi_ dX4_comesOut_98 fl_X4_53 fp_4_10 (fun z => by cases z) rfl hf (fun h1 _ hf => ?_)
  refine am_iconst (v := 0) dX4_comesOut_101 rfl rfl ?_
  exact am_zret rfl dX4_comesOut_102 hf
set_option maxRecDepth 20000 in
set_option maxHeartbeats 4000000 in
theorem sfX4_comesOut_132 {G : am_G}  (v0 : Option Nat) (h : am_H) (y : Int32 × am_H) (hf : fX4_comesOut_132  v0 h = some y) : am_S G miX4_comesOut 132 [some (va_rf v0), none, none, none, none] [] h (some (.int y.1)) y.2 := by
  unfold fX4_comesOut_132 at hf
  refine am_aload_n dX4_comesOut_132 rfl rfl ?_
  refine am_dup dX4_comesOut_133 (am_c1 _) rfl ?_
  refine am_gi_ dX4_comesOut_134 fl_X4_44 rfl hf (fun x1 _ hf => ?_)
  refine am_iconst (v := 1) dX4_comesOut_137 rfl rfl ?_
  refine am_iadd dX4_comesOut_138 rfl ?_
  refine am_pi_ dX4_comesOut_139 fl_X4_44 fp_4_7 (fun z => by cases z) rfl hf (fun h2 _ hf => ?_)
  refine am_iconst (v := 1) dX4_comesOut_142 rfl rfl ?_
  exact am_zret rfl dX4_comesOut_143 hf
set_option maxRecDepth 20000 in
set_option maxHeartbeats 4000000 in
theorem sfX4_comesOut_78 {G : am_G}  (v0 : Option Nat) (v3 : Int32) (s0 : Option Nat) (s1 : Int32) (h : am_H) (y : Int32 × am_H) (hf : fX4_comesOut_78  v0 v3 s0 s1 h = some y) : am_S G miX4_comesOut 78 [some (va_rf v0), none, none, some (.int v3), none] [.int s1, va_rf s0] h (some (.int y.1)) y.2 := by
  unfold fX4_comesOut_78 at hf
  refine am_pi_ dX4_comesOut_78 fl_X4_56 fp_4_11 (fun z => by cases z) rfl hf (fun h1 _ hf => ?_)
  refine am_aload_n dX4_comesOut_81 rfl rfl ?_
  refine am_aload_n dX4_comesOut_82 rfl rfl ?_
  refine am_gi_ dX4_comesOut_83 fl_X4_53 rfl hf (fun x2 _ hf => ?_)
  refine am_iconst (v := -1) dX4_comesOut_86 rfl rfl ?_
  refine am_icmp_ne (tgt := 94) dX4_comesOut_87 (by decide) rfl hf (fun hf => ?_) (fun hf => ?_)
  · refine am_aload_n dX4_comesOut_94 rfl rfl ?_
    refine am_gi_ dX4_comesOut_95 fl_X4_53 rfl hf (fun x3 _ hf => ?_)
    exact am_we (sfX4_comesOut_98 _ _ _ _ hf) ⟨Or.inl rfl, Or.inl rfl, Or.inl rfl, Or.inl rfl, Or.inl rfl, trivial⟩
  refine am_iload_n dX4_comesOut_90 rfl rfl ?_
  refine am_goto (pc' := 98) dX4_comesOut_91 (by decide) ?_
  exact am_we (sfX4_comesOut_98 _ _ _ _ hf) ⟨Or.inl rfl, Or.inl rfl, Or.inl rfl, Or.inl rfl, Or.inl rfl, trivial⟩
set_option maxRecDepth 20000 in
set_option maxHeartbeats 4000000 in
theorem sfX4_comesOut {G : am_G}  (v0 : Nat) (v1 : Option Nat) (v2 : Int32) (h : am_H) (y : Int32 × am_H) (hf : fX4_comesOut v0 v1 v2 h = some y) : am_Cn G miX4_comesOut [va_rf (some v0), va_rf v1, .int v2] h (some (.int y.1)) y.2 := by
  refine am_beg (ls := [some (va_rf (some v0)), some (va_rf v1), some (.int v2), none, none]) (by simp only [am_en, am_e1_r, am_e1_i, am_e1_l, am_e1_n]; rfl) ?_
  unfold fX4_comesOut at hf
  refine am_aload_n dX4_comesOut_0 rfl rfl ?_
  refine am_gi_ dX4_comesOut_1 fl_X4_87 rfl hf (fun x1 _ hf => ?_)
  refine am_istore_n (ls' := [some (va_rf (some v0)), some (va_rf v1), some (.int v2), some (.int x1), none]) dX4_comesOut_4 (by decide) rfl rfl ?_
  refine am_aload_n dX4_comesOut_5 rfl rfl ?_
  refine am_gi_ dX4_comesOut_6 fl_X4_74 rfl hf (fun x2 _ hf => ?_)
  refine am_istore (ls' := [some (va_rf (some v0)), some (va_rf v1), some (.int v2), some (.int x1), some (.int x2)]) dX4_comesOut_9 (by decide) rfl rfl ?_
  refine am_iload_n dX4_comesOut_11 rfl rfl ?_
  refine am_if_lt (tgt := 41) dX4_comesOut_12 (by decide) rfl hf (fun hf => ?_) (fun hf => ?_)
  · refine am_iconst (v := 0) dX4_comesOut_41 rfl rfl ?_
    exact am_zret rfl dX4_comesOut_42 hf
  refine am_iload_n dX4_comesOut_15 rfl rfl ?_
  refine am_bipush (v := 10) dX4_comesOut_16 (by decide) rfl ?_
  refine am_icmp_ge (tgt := 41) dX4_comesOut_18 (by decide) rfl hf (fun hf => ?_) (fun hf => ?_)
  · refine am_iconst (v := 0) dX4_comesOut_41 rfl rfl ?_
    exact am_zret rfl dX4_comesOut_42 hf
  refine am_iload dX4_comesOut_21 rfl rfl ?_
  refine am_if_lt (tgt := 41) dX4_comesOut_23 (by decide) rfl hf (fun hf => ?_) (fun hf => ?_)
  · refine am_iconst (v := 0) dX4_comesOut_41 rfl rfl ?_
    exact am_zret rfl dX4_comesOut_42 hf
  refine am_iload dX4_comesOut_26 rfl rfl ?_
  refine am_iconst (v := 4) dX4_comesOut_28 rfl rfl ?_
  refine am_icmp_ge (tgt := 41) dX4_comesOut_29 (by decide) rfl hf (fun hf => ?_) (fun hf => ?_)
  · refine am_iconst (v := 0) dX4_comesOut_41 rfl rfl ?_
    exact am_zret rfl dX4_comesOut_42 hf
  refine am_aload_n dX4_comesOut_32 rfl rfl ?_
  refine am_gr_ dX4_comesOut_33 fl_X4_15 rfl hf (fun x3 _ hf => ?_)
  refine am_iload_n dX4_comesOut_36 rfl rfl ?_
  refine am_zald dX4_comesOut_37 rfl hf (fun x4 _ hf => ?_)
  refine am_if_eq (tgt := 43) dX4_comesOut_38 (by decide) rfl hf (fun hf => ?_) (fun hf => ?_)
  · refine am_iload_n dX4_comesOut_43 rfl rfl ?_
    refine am_aload_n dX4_comesOut_44 rfl rfl ?_
    refine am_gr_ dX4_comesOut_45 fl_X4_19 rfl hf (fun x5 _ hf => ?_)
    refine am_iload dX4_comesOut_48 rfl rfl ?_
    refine am_iald dX4_comesOut_50 rfl hf (fun x6 _ hf => ?_)
    refine am_icmp_ge (tgt := 103) dX4_comesOut_51 (by decide) rfl hf (fun hf => ?_) (fun hf => ?_)
    · refine am_aload_n dX4_comesOut_103 rfl rfl ?_
      refine am_gr_ dX4_comesOut_104 fl_X4_19 rfl hf (fun x7 _ hf => ?_)
      refine am_iload dX4_comesOut_107 rfl rfl ?_
      refine am_iload_n dX4_comesOut_109 rfl rfl ?_
      refine am_iconst (v := 3) dX4_comesOut_110 rfl rfl ?_
      refine am_iadd dX4_comesOut_111 rfl ?_
      refine am_iast dX4_comesOut_112 rfl hf (fun h8 _ hf => ?_)
      refine am_aload_n dX4_comesOut_113 rfl rfl ?_
      refine am_gi_ dX4_comesOut_114 fl_X4_44 rfl hf (fun x9 _ hf => ?_)
      refine am_bipush (v := 20) dX4_comesOut_117 (by decide) rfl ?_
      refine am_icmp_ge (tgt := 132) dX4_comesOut_119 (by decide) rfl hf (fun hf => ?_) (fun hf => ?_)
      · exact am_we (sfX4_comesOut_132 _ _ _ hf) ⟨Or.inr rfl, Or.inl rfl, Or.inl rfl, Or.inl rfl, Or.inl rfl, trivial⟩
      refine am_aload_n dX4_comesOut_122 rfl rfl ?_
      refine am_gr_ dX4_comesOut_123 fl_X4_31 rfl hf (fun x10 _ hf => ?_)
      refine am_aload_n dX4_comesOut_126 rfl rfl ?_
      refine am_gi_ dX4_comesOut_127 fl_X4_44 rfl hf (fun x11 _ hf => ?_)
      refine am_iload_n dX4_comesOut_130 rfl rfl ?_
      refine am_iast dX4_comesOut_131 rfl hf (fun h12 _ hf => ?_)
      exact am_we (sfX4_comesOut_132 _ _ _ hf) ⟨Or.inr rfl, Or.inl rfl, Or.inl rfl, Or.inl rfl, Or.inl rfl, trivial⟩
    refine am_aload_n dX4_comesOut_54 rfl rfl ?_
    refine am_gr_ dX4_comesOut_55 fl_X4_15 rfl hf (fun x13 _ hf => ?_)
    refine am_iload_n dX4_comesOut_58 rfl rfl ?_
    refine am_iconst (v := 1) dX4_comesOut_59 rfl rfl ?_
    refine am_zast dX4_comesOut_60 rfl hf (fun h14 _ hf => ?_)
    refine am_aload_n dX4_comesOut_61 rfl rfl ?_
    refine am_aload_n dX4_comesOut_62 rfl rfl ?_
    refine am_gi_ dX4_comesOut_63 fl_X4_53 rfl hf (fun x15 _ hf => ?_)
    refine am_iconst (v := -1) dX4_comesOut_66 rfl rfl ?_
    refine am_icmp_ne (tgt := 74) dX4_comesOut_67 (by decide) rfl hf (fun hf => ?_) (fun hf => ?_)
    · refine am_aload_n dX4_comesOut_74 rfl rfl ?_
      refine am_gi_ dX4_comesOut_75 fl_X4_56 rfl hf (fun x16 _ hf => ?_)
      exact am_we (sfX4_comesOut_78 _ _ _ _ _ _ hf) ⟨Or.inr rfl, Or.inl rfl, Or.inl rfl, Or.inr rfl, Or.inl rfl, trivial⟩
    refine am_iload_n dX4_comesOut_70 rfl rfl ?_
    refine am_goto (pc' := 78) dX4_comesOut_71 (by decide) ?_
    exact am_we (sfX4_comesOut_78 _ _ _ _ _ _ hf) ⟨Or.inr rfl, Or.inl rfl, Or.inl rfl, Or.inr rfl, Or.inl rfl, trivial⟩
  refine am_iconst (v := 0) dX4_comesOut_41 rfl rfl ?_
  exact am_zret rfl dX4_comesOut_42 hf
set_option maxRecDepth 20000 in
set_option maxHeartbeats 4000000 in
theorem sfX4_turn {G : am_G}  (v0 : Nat) (v1 : Option Nat) (v2 : Int32) (h : am_H) (y : am_H) (hf : fX4_turn v0 v1 v2 h = some y) : am_Cn G miX4_turn [va_rf (some v0), va_rf v1, .int v2] h none y := by
  refine am_beg (ls := [some (va_rf (some v0)), some (va_rf v1), some (.int v2)]) (by simp only [am_en, am_e1_r, am_e1_i, am_e1_l, am_e1_n]; rfl) ?_
  unfold fX4_turn at hf
  refine am_aload_n dX4_turn_0 rfl rfl ?_
  refine am_gi_ dX4_turn_1 fl_X4_40 rfl hf (fun x1 _ hf => ?_)
  refine am_aload_n dX4_turn_4 rfl rfl ?_
  refine am_gr_ dX4_turn_5 fl_X4_24 rfl hf (fun x2 _ hf => ?_)
  refine am_an_ dX4_turn_8 rfl hf (fun x3 _ hf => ?_)
  refine am_icmp_ge (tgt := 59) dX4_turn_9 (by decide) rfl hf (fun hf => ?_) (fun hf => ?_)
  · exact am_vret rfl dX4_turn_59 hf
  refine am_aload_n dX4_turn_12 rfl rfl ?_
  refine am_gi_ dX4_turn_13 fl_X4_40 rfl hf (fun x4 _ hf => ?_)
  refine am_aload_n dX4_turn_16 rfl rfl ?_
  refine am_gr_ dX4_turn_17 fl_X4_28 rfl hf (fun x5 _ hf => ?_)
  refine am_an_ dX4_turn_20 rfl hf (fun x6 _ hf => ?_)
  refine am_icmp_ge (tgt := 59) dX4_turn_21 (by decide) rfl hf (fun hf => ?_) (fun hf => ?_)
  · exact am_vret rfl dX4_turn_59 hf
  refine am_aload_n dX4_turn_24 rfl rfl ?_
  refine am_gr_ dX4_turn_25 fl_X4_24 rfl hf (fun x7 _ hf => ?_)
  refine am_aload_n dX4_turn_28 rfl rfl ?_
  refine am_gi_ dX4_turn_29 fl_X4_40 rfl hf (fun x8 _ hf => ?_)
  refine am_aload_n dX4_turn_32 rfl rfl ?_
  refine am_asr_ (t := 6) rfl rfl (by decide) dX4_turn_33 rfl hf (fun h9 _ hf => ?_)
  refine am_aload_n dX4_turn_34 rfl rfl ?_
  refine am_gr_ dX4_turn_35 fl_X4_28 rfl hf (fun x10 _ hf => ?_)
  refine am_aload_n dX4_turn_38 rfl rfl ?_
  refine am_gi_ dX4_turn_39 fl_X4_40 rfl hf (fun x11 _ hf => ?_)
  refine am_iload_n dX4_turn_42 rfl rfl ?_
  refine am_aload_n dX4_turn_43 rfl rfl ?_
  refine am_gi_ dX4_turn_44 fl_X4_74 rfl hf (fun x12 _ hf => ?_)
  refine am_iadd dX4_turn_47 rfl ?_
  refine am_iast dX4_turn_48 rfl hf (fun h13 _ hf => ?_)
  refine am_aload_n dX4_turn_49 rfl rfl ?_
  refine am_dup dX4_turn_50 (am_c1 _) rfl ?_
  refine am_gi_ dX4_turn_51 fl_X4_40 rfl hf (fun x14 _ hf => ?_)
  refine am_iconst (v := 1) dX4_turn_54 rfl rfl ?_
  refine am_iadd dX4_turn_55 rfl ?_
  refine am_pi_ dX4_turn_56 fl_X4_40 fp_4_5 (fun z => by cases z) rfl hf (fun h15 _ hf => ?_)
  exact am_vret rfl dX4_turn_59 hf
set_option maxRecDepth 20000 in
set_option maxHeartbeats 4000000 in
theorem sfX4_isCountedOut {G : am_G}  (v0 : Nat) (v1 : Option Nat) (h : am_H) (y : Int32 × am_H) (hf : fX4_isCountedOut v0 v1 h = some y) : am_Cn G miX4_isCountedOut [va_rf (some v0), va_rf v1] h (some (.int y.1)) y.2 := by
  refine am_beg (ls := [some (va_rf (some v0)), some (va_rf v1), none]) (by simp only [am_en, am_e1_r, am_e1_i, am_e1_l, am_e1_n]; rfl) ?_
  unfold fX4_isCountedOut at hf
  refine am_aload_n dX4_isCountedOut_0 rfl rfl ?_
  refine am_gi_ dX4_isCountedOut_1 fl_X4_87 rfl hf (fun x1 _ hf => ?_)
  refine am_istore_n (ls' := [some (va_rf (some v0)), some (va_rf v1), some (.int x1)]) dX4_isCountedOut_4 (by decide) (am_s1_r (j := 1) rfl rfl) rfl ?_
  refine am_iload_n dX4_isCountedOut_5 rfl rfl ?_
  refine am_if_lt (tgt := 23) dX4_isCountedOut_6 (by decide) rfl hf (fun hf => ?_) (fun hf => ?_)
  · refine am_iconst (v := 0) dX4_isCountedOut_23 rfl rfl ?_
    exact am_zret rfl dX4_isCountedOut_24 hf
  refine am_iload_n dX4_isCountedOut_9 rfl rfl ?_
  refine am_bipush (v := 10) dX4_isCountedOut_10 (by decide) rfl ?_
  refine am_icmp_ge (tgt := 23) dX4_isCountedOut_12 (by decide) rfl hf (fun hf => ?_) (fun hf => ?_)
  · refine am_iconst (v := 0) dX4_isCountedOut_23 rfl rfl ?_
    exact am_zret rfl dX4_isCountedOut_24 hf
  refine am_aload_n dX4_isCountedOut_15 rfl rfl ?_
  refine am_gi_ dX4_isCountedOut_16 fl_X4_74 rfl hf (fun x2 _ hf => ?_)
  refine am_iconst (v := 1) dX4_isCountedOut_19 rfl rfl ?_
  refine am_icmp_ge (tgt := 25) dX4_isCountedOut_20 (by decide) rfl hf (fun hf => ?_) (fun hf => ?_)
  · refine am_aload_n dX4_isCountedOut_25 rfl rfl ?_
    refine am_gr_ dX4_isCountedOut_26 fl_X4_9 rfl hf (fun x3 _ hf => ?_)
    refine am_iload_n dX4_isCountedOut_29 rfl rfl ?_
    refine am_dup2 dX4_isCountedOut_30 (rfl) (am_c1 _) rfl ?_
    refine am_iald dX4_isCountedOut_31 rfl hf (fun x4 _ hf => ?_)
    refine am_iconst (v := 1) dX4_isCountedOut_32 rfl rfl ?_
    refine am_iadd dX4_isCountedOut_33 rfl ?_
    refine am_iast dX4_isCountedOut_34 rfl hf (fun h5 _ hf => ?_)
    refine am_aload_n dX4_isCountedOut_35 rfl rfl ?_
    refine am_gr_ dX4_isCountedOut_36 fl_X4_9 rfl hf (fun x6 _ hf => ?_)
    refine am_iload_n dX4_isCountedOut_39 rfl rfl ?_
    refine am_iald dX4_isCountedOut_40 rfl hf (fun x7 _ hf => ?_)
    refine am_aload_n dX4_isCountedOut_41 rfl rfl ?_
    refine am_gi_ dX4_isCountedOut_42 fl_X4_74 rfl hf (fun x8 _ hf => ?_)
    refine am_irem dX4_isCountedOut_45 rfl hf (fun hf => ?_)
    refine am_if_ne (tgt := 53) dX4_isCountedOut_46 (by decide) rfl hf (fun hf => ?_) (fun hf => ?_)
    · refine am_iconst (v := 0) dX4_isCountedOut_53 rfl rfl ?_
      exact am_zret rfl dX4_isCountedOut_54 hf
    refine am_iconst (v := 1) dX4_isCountedOut_49 rfl rfl ?_
    refine am_goto (pc' := 54) dX4_isCountedOut_50 (by decide) ?_
    exact am_zret rfl dX4_isCountedOut_54 hf
  refine am_iconst (v := 0) dX4_isCountedOut_23 rfl rfl ?_
  exact am_zret rfl dX4_isCountedOut_24 hf
set_option maxRecDepth 20000 in
set_option maxHeartbeats 4000000 in
theorem sfX4_strikesOn {G : am_G}  (v0 : Nat) (v1 : Option Nat) (v2 : Int32) (h : am_H) (y : Int32 × am_H) (hf : fX4_strikesOn v0 v1 v2 h = some y) : am_Cn G miX4_strikesOn [va_rf (some v0), va_rf v1, .int v2] h (some (.int y.1)) y.2 := by
  refine am_beg (ls := [some (va_rf (some v0)), some (va_rf v1), some (.int v2)]) (by simp only [am_en, am_e1_r, am_e1_i, am_e1_l, am_e1_n]; rfl) ?_
  unfold fX4_strikesOn at hf
  refine am_aload_n dX4_strikesOn_0 rfl rfl ?_
  refine am_gi_ dX4_strikesOn_1 fl_X4_71 rfl hf (fun x1 _ hf => ?_)
  refine am_tsw (d := 77) (l := [(1, 36), (2, 56), (3, 63), (4, 71)]) dX4_strikesOn_4 (by decide) (by decide) (by decide) ?_
  refine am_swc hf (fun hf => ?_) (fun hf => ?_)
  · refine am_aload_n dX4_strikesOn_36 rfl rfl ?_
    refine am_dup dX4_strikesOn_37 (am_c1 _) rfl ?_
    refine am_gi_ dX4_strikesOn_38 fl_X4_50 rfl hf (fun x2 _ hf => ?_)
    refine am_aload_n dX4_strikesOn_41 rfl rfl ?_
    refine am_gi_ dX4_strikesOn_42 fl_X4_47 rfl hf (fun x3 _ hf => ?_)
    refine am_aload_n dX4_strikesOn_45 rfl rfl ?_
    refine am_gi_ dX4_strikesOn_46 fl_X4_74 rfl hf (fun x4 _ hf => ?_)
    refine am_iadd dX4_strikesOn_49 rfl ?_
    refine am_iadd dX4_strikesOn_50 rfl ?_
    refine am_pi_ dX4_strikesOn_51 fl_X4_50 fp_4_9 (fun z => by cases z) rfl hf (fun h5 _ hf => ?_)
    refine am_iconst (v := 1) dX4_strikesOn_54 rfl rfl ?_
    exact am_zret rfl dX4_strikesOn_55 hf
  refine am_swc hf (fun hf => ?_) (fun hf => ?_)
  · refine am_aload_n dX4_strikesOn_56 rfl rfl ?_
    refine am_aload_n dX4_strikesOn_57 rfl rfl ?_
    refine am_iload_n dX4_strikesOn_58 rfl rfl ?_
    refine am_cVi (As := [va_rf v1, .int v2]) (st := []) lk_X4_strikesOn_77 rfl (by simp only [am_e1_r, am_e1_i, am_e1_l, am_e1_n]; exact Nat.le_of_ble_eq_true rfl) (Nat.le_of_ble_eq_true rfl) rfl dX4_strikesOn_59 rfl hf (fun b7 y6 hf => sfX4_comesOut b7 _ _ _ y6 hf) (fun b7 y6 _ _ hf => ?_)
    exact am_zret rfl dX4_strikesOn_62 hf
  refine am_swc hf (fun hf => ?_) (fun hf => ?_)
  · refine am_aload_n dX4_strikesOn_63 rfl rfl ?_
    refine am_aload_n dX4_strikesOn_64 rfl rfl ?_
    refine am_iload_n dX4_strikesOn_65 rfl rfl ?_
    refine am_cVv (As := [va_rf v1, .int v2]) (st := []) lk_X4_strikesOn_80 rfl (by simp only [am_e1_r, am_e1_i, am_e1_l, am_e1_n]; exact Nat.le_of_ble_eq_true rfl) (Nat.le_of_ble_eq_true rfl) rfl dX4_strikesOn_66 rfl hf (fun b9 y8 hf => sfX4_turn b9 _ _ _ y8 hf) (fun b9 y8 _ _ hf => ?_)
    refine am_iconst (v := 0) dX4_strikesOn_69 rfl rfl ?_
    exact am_zret rfl dX4_strikesOn_70 hf
  refine am_swc hf (fun hf => ?_) (fun hf => ?_)
  · refine am_aload_n dX4_strikesOn_71 rfl rfl ?_
    refine am_aload_n dX4_strikesOn_72 rfl rfl ?_
    refine am_cVi (As := [va_rf v1]) (st := []) lk_X4_strikesOn_83 rfl (by simp only [am_e1_r, am_e1_i, am_e1_l, am_e1_n]; exact Nat.le_of_ble_eq_true rfl) (Nat.le_of_ble_eq_true rfl) rfl dX4_strikesOn_73 rfl hf (fun b11 y10 hf => sfX4_isCountedOut b11 _ _ y10 hf) (fun b11 y10 _ _ hf => ?_)
    exact am_zret rfl dX4_strikesOn_76 hf
  show am_S _ _ 77 _ _ _ _ _
  refine am_iconst (v := 1) dX4_strikesOn_77 rfl rfl ?_
  exact am_zret rfl dX4_strikesOn_78 hf
set_option maxRecDepth 20000 in
set_option maxHeartbeats 4000000 in
theorem sfX4_strike_2 {G : am_G}  : ∀ (n : Nat) (v0 : Option Nat) (v2 : Int32) (v3 : Option Nat) (h : am_H) (y : am_H) (hf : fX4_strike_2  n v0 v2 v3 h = some y), am_S G miX4_strike 2 [some (va_rf v0), none, some (.int v2), some (va_rf v3)] [] h none y := by
  intro n
  induction n with
  | zero => intro v0 v2 v3 h y hf; cases hf
  | succ n ih =>
    intro v0 v2 v3 h y hf
    have hf : fX4_strike_2_b  (fX4_strike_2  n) v0 v2 v3 h = some y := hf
    unfold fX4_strike_2_b at hf
    refine am_aload_n dX4_strike_2 rfl rfl ?_
    refine am_ifnull (tgt := 23) dX4_strike_3 (by decide) rfl hf (fun hf => ?_) (fun hf => ?_)
    · exact am_vret rfl dX4_strike_23 hf
    refine am_aload_n dX4_strike_6 rfl rfl ?_
    refine am_aload_n dX4_strike_7 rfl rfl ?_
    refine am_iload_n dX4_strike_8 rfl rfl ?_
    refine am_cVi (As := [va_rf v3, .int v2]) (st := []) lk_X4_strike_67 rfl (by simp only [am_e1_r, am_e1_i, am_e1_l, am_e1_n]; exact Nat.le_of_ble_eq_true rfl) (Nat.le_of_ble_eq_true rfl) rfl dX4_strike_9 rfl hf (fun b2 y1 hf => sfX4_strikesOn b2 _ _ _ y1 hf) (fun b2 y1 _ _ hf => ?_)
    refine am_if_eq (tgt := 23) dX4_strike_12 (by decide) rfl hf (fun hf => ?_) (fun hf => ?_)
    · exact am_vret rfl dX4_strike_23 hf
    refine am_aload_n dX4_strike_15 rfl rfl ?_
    refine am_gr_ dX4_strike_16 fl_X4_59 rfl hf (fun x3 _ hf => ?_)
    refine am_astore_n (ls' := [some (va_rf v0), none, some (.int v2), some (va_rf x3)]) dX4_strike_19 (by decide) rfl rfl ?_
    refine am_goto (pc' := 2) dX4_strike_20 (by decide) ?_
    exact ih _ _ _ _ _ hf
set_option maxRecDepth 20000 in
set_option maxHeartbeats 4000000 in
theorem sfX4_strike {G : am_G}  (v0 : Nat) (v1 : Option Nat) (v2 : Int32) (h : am_H) (y : am_H) (hf : fX4_strike v0 v1 v2 h = some y) : am_Cn G miX4_strike [va_rf (some v0), va_rf v1, .int v2] h none y := by
  refine am_beg (ls := [some (va_rf (some v0)), some (va_rf v1), some (.int v2), none]) (by simp only [am_en, am_e1_r, am_e1_i, am_e1_l, am_e1_n]; rfl) ?_
  unfold fX4_strike at hf
  refine am_aload_n dX4_strike_0 rfl rfl ?_
  refine am_astore_n (ls' := [some (va_rf (some v0)), some (va_rf v1), some (.int v2), some (va_rf v1)]) dX4_strike_1 (by decide) rfl rfl ?_
  exact am_we ((sfX4_strike_2 _) _ _ _ _ _ hf) ⟨Or.inr rfl, Or.inl rfl, Or.inr rfl, Or.inr rfl, trivial⟩
set_option maxRecDepth 20000 in
set_option maxHeartbeats 4000000 in
theorem sfX4_goThrough_81 {G : am_G}  : ∀ (n : Nat) (v0 : Option Nat) (v1 : Int32) (v2 : Int32) (v3 : Option Nat) (v5 : Int32) (h : am_H) (y : am_H) (hf : fX4_goThrough_81  n v0 v1 v2 v3 v5 h = some y), am_S G miX4_goThrough 81 [some (va_rf v0), some (.int v1), some (.int v2), some (va_rf v3), none, some (.int v5)] [] h none y := by
  intro n
  induction n with
  | zero => intro v0 v1 v2 v3 v5 h y hf; cases hf
  | succ n ih =>
    intro v0 v1 v2 v3 v5 h y hf
    have hf : fX4_goThrough_81_b  (fX4_goThrough_81  n) v0 v1 v2 v3 v5 h = some y := hf
    unfold fX4_goThrough_81_b at hf
    refine am_iload dX4_goThrough_81 rfl rfl ?_
    refine am_iload_n dX4_goThrough_83 rfl rfl ?_
    refine am_icmp_ge (tgt := 109) dX4_goThrough_84 (by decide) rfl hf (fun hf => ?_) (fun hf => ?_)
    · exact am_vret rfl dX4_goThrough_109 hf
    refine am_aload_n dX4_goThrough_87 rfl rfl ?_
    refine am_dup dX4_goThrough_88 (am_c1 _) rfl ?_
    refine am_gi_ dX4_goThrough_89 fl_X4_47 rfl hf (fun x1 _ hf => ?_)
    refine am_iconst (v := 1) dX4_goThrough_92 rfl rfl ?_
    refine am_iadd dX4_goThrough_93 rfl ?_
    refine am_pi_ dX4_goThrough_94 fl_X4_47 fp_4_8 (fun z => by cases z) rfl hf (fun h2 _ hf => ?_)
    refine am_aload_n dX4_goThrough_97 rfl rfl ?_
    refine am_aload_n dX4_goThrough_98 rfl rfl ?_
    refine am_iload_n dX4_goThrough_99 rfl rfl ?_
    refine am_cVv (As := [va_rf v3, .int v1]) (st := []) lk_X4_goThrough_63 rfl (by simp only [am_e1_r, am_e1_i, am_e1_l, am_e1_n]; exact Nat.le_of_ble_eq_true rfl) (Nat.le_of_ble_eq_true rfl) rfl dX4_goThrough_100 rfl hf (fun b4 y3 hf => sfX4_strike b4 _ _ _ y3 hf) (fun b4 y3 _ _ hf => ?_)
    refine am_iinc (ls' := [some (va_rf v0), some (.int v1), some (.int v2), some (va_rf v3), none, some (.int (v5 + (1 : Int32)))]) dX4_goThrough_103 rfl rfl (by decide) rfl rfl ?_
    refine am_goto (pc' := 81) dX4_goThrough_106 (by decide) ?_
    exact ih _ _ _ _ _ _ _ hf
set_option maxRecDepth 20000 in
set_option maxHeartbeats 4000000 in
theorem sfX4_goThrough_78 {G : am_G}  (v0 : Option Nat) (v1 : Int32) (v2 : Int32) (v3 : Option Nat) (h : am_H) (y : am_H) (hf : fX4_goThrough_78  v0 v1 v2 v3 h = some y) : am_S G miX4_goThrough 78 [some (va_rf v0), some (.int v1), some (.int v2), some (va_rf v3), none, none] [] h none y := by
  unfold fX4_goThrough_78 at hf
  refine am_iconst (v := 0) dX4_goThrough_78 rfl rfl ?_
  refine am_istore (ls' := [some (va_rf v0), some (.int v1), some (.int v2), some (va_rf v3), none, some (.int (0 : Int32))]) dX4_goThrough_79 (by decide) rfl rfl ?_
  exact (sfX4_goThrough_81 _) _ _ _ _ _ _ _ hf
set_option maxRecDepth 20000 in
set_option maxHeartbeats 4000000 in
theorem sfX4_goThrough_72 {G : am_G}  {k9 : Option Nat → Int32 → Int32 → Option Nat → Int32 → Int32 → am_H → Option (am_H)} (hk9 : ∀ (v0 : Option Nat) (v1 : Int32) (v2 : Int32) (v3 : Option Nat) (v4 : Int32) (v5 : Int32) (h : am_H) (y : am_H), k9 v0 v1 v2 v3 v4 v5 h = some y → am_S G miX4_goThrough 9 [some (va_rf v0), some (.int v1), some (.int v2), some (va_rf v3), some (.int v4), some (.int v5)] [] h none y) (v0 : Option Nat) (v1 : Int32) (v2 : Int32) (v3 : Option Nat) (v4 : Int32) (v5 : Int32) (h : am_H) (y : am_H) (hf : fX4_goThrough_72 k9 v0 v1 v2 v3 v4 v5 h = some y) : am_S G miX4_goThrough 72 [some (va_rf v0), some (.int v1), some (.int v2), some (va_rf v3), some (.int v4), some (.int v5)] [] h none y := by
  unfold fX4_goThrough_72 at hf
  refine am_iinc (ls' := [some (va_rf v0), some (.int v1), some (.int v2), some (va_rf v3), some (.int v4), some (.int (v5 + (1 : Int32)))]) dX4_goThrough_72 rfl rfl (by decide) rfl rfl ?_
  refine am_goto (pc' := 9) dX4_goThrough_75 (by decide) ?_
  exact hk9 _ _ _ _ _ _ _ _ hf
set_option maxRecDepth 20000 in
set_option maxHeartbeats 4000000 in
theorem sfX4_goThrough_9 {G : am_G}  : ∀ (n : Nat) (v0 : Option Nat) (v1 : Int32) (v2 : Int32) (v3 : Option Nat) (v4 : Int32) (v5 : Int32) (h : am_H) (y : am_H) (hf : fX4_goThrough_9  n v0 v1 v2 v3 v4 v5 h = some y), am_S G miX4_goThrough 9 [some (va_rf v0), some (.int v1), some (.int v2), some (va_rf v3), some (.int v4), some (.int v5)] [] h none y := by
  intro n
  induction n with
  | zero => intro v0 v1 v2 v3 v4 v5 h y hf; cases hf
  | succ n ih =>
    intro v0 v1 v2 v3 v4 v5 h y hf
    have hf : fX4_goThrough_9_b  (fX4_goThrough_9  n) v0 v1 v2 v3 v4 v5 h = some y := hf
    unfold fX4_goThrough_9_b at hf
    refine am_iload dX4_goThrough_9 rfl rfl ?_
    refine am_iload dX4_goThrough_11 rfl rfl ?_
    refine am_icmp_ge (tgt := 78) dX4_goThrough_13 (by decide) rfl hf (fun hf => ?_) (fun hf => ?_)
    · exact am_we (sfX4_goThrough_78 _ _ _ _ _ _ hf) ⟨Or.inr rfl, Or.inr rfl, Or.inr rfl, Or.inr rfl, Or.inl rfl, Or.inl rfl, trivial⟩
    refine am_iload dX4_goThrough_16 rfl rfl ?_
    refine am_aload_n dX4_goThrough_18 rfl rfl ?_
    refine am_gr_ dX4_goThrough_19 fl_X4_24 rfl hf (fun x1 _ hf => ?_)
    refine am_an_ dX4_goThrough_22 rfl hf (fun x2 _ hf => ?_)
    refine am_icmp_ge (tgt := 78) dX4_goThrough_23 (by decide) rfl hf (fun hf => ?_) (fun hf => ?_)
    · exact am_we (sfX4_goThrough_78 _ _ _ _ _ _ hf) ⟨Or.inr rfl, Or.inr rfl, Or.inr rfl, Or.inr rfl, Or.inl rfl, Or.inl rfl, trivial⟩
    refine am_iload dX4_goThrough_26 rfl rfl ?_
    refine am_aload_n dX4_goThrough_28 rfl rfl ?_
    refine am_gr_ dX4_goThrough_29 fl_X4_28 rfl hf (fun x3 _ hf => ?_)
    refine am_an_ dX4_goThrough_32 rfl hf (fun x4 _ hf => ?_)
    refine am_icmp_ge (tgt := 78) dX4_goThrough_33 (by decide) rfl hf (fun hf => ?_) (fun hf => ?_)
    · exact am_we (sfX4_goThrough_78 _ _ _ _ _ _ hf) ⟨Or.inr rfl, Or.inr rfl, Or.inr rfl, Or.inr rfl, Or.inl rfl, Or.inl rfl, trivial⟩
    refine am_aload_n dX4_goThrough_36 rfl rfl ?_
    refine am_gr_ dX4_goThrough_37 fl_X4_28 rfl hf (fun x5 _ hf => ?_)
    refine am_iload dX4_goThrough_40 rfl rfl ?_
    refine am_iald dX4_goThrough_42 rfl hf (fun x6 _ hf => ?_)
    refine am_iload_n dX4_goThrough_43 rfl rfl ?_
    refine am_icmp_ne (tgt := 72) dX4_goThrough_44 (by decide) rfl hf (fun hf => ?_) (fun hf => ?_)
    · exact (sfX4_goThrough_72 ih) _ _ _ _ _ _ _ _ hf
    refine am_aload_n dX4_goThrough_47 rfl rfl ?_
    refine am_gr_ dX4_goThrough_48 fl_X4_24 rfl hf (fun x7 _ hf => ?_)
    refine am_iload dX4_goThrough_51 rfl rfl ?_
    refine am_alr_ (t := 6) rfl (by decide) dX4_goThrough_53 rfl hf (fun x8 _ hf => ?_)
    refine am_ifnull (tgt := 72) dX4_goThrough_54 (by decide) rfl hf (fun hf => ?_) (fun hf => ?_)
    · exact (sfX4_goThrough_72 ih) _ _ _ _ _ _ _ _ hf
    refine am_aload_n dX4_goThrough_57 rfl rfl ?_
    refine am_aload_n dX4_goThrough_58 rfl rfl ?_
    refine am_gr_ dX4_goThrough_59 fl_X4_24 rfl hf (fun x9 _ hf => ?_)
    refine am_iload dX4_goThrough_62 rfl rfl ?_
    refine am_alr_ (t := 6) rfl (by decide) dX4_goThrough_64 rfl hf (fun x10 _ hf => ?_)
    refine am_gr_ dX4_goThrough_65 fl_X4_59 rfl hf (fun x11 _ hf => ?_)
    refine am_iload_n dX4_goThrough_68 rfl rfl ?_
    refine am_cVv (As := [va_rf x11, .int v1]) (st := []) lk_X4_goThrough_63 rfl (by simp only [am_e1_r, am_e1_i, am_e1_l, am_e1_n]; exact Nat.le_of_ble_eq_true rfl) (Nat.le_of_ble_eq_true rfl) rfl dX4_goThrough_69 rfl hf (fun b13 y12 hf => sfX4_strike b13 _ _ _ y12 hf) (fun b13 y12 _ _ hf => ?_)
    exact (sfX4_goThrough_72 ih) _ _ _ _ _ _ _ _ hf
set_option maxRecDepth 20000 in
set_option maxHeartbeats 4000000 in
theorem sfX4_goThrough {G : am_G}  (v0 : Nat) (v1 : Int32) (v2 : Int32) (v3 : Option Nat) (h : am_H) (y : am_H) (hf : fX4_goThrough v0 v1 v2 v3 h = some y) : am_Cn G miX4_goThrough [va_rf (some v0), .int v1, .int v2, va_rf v3] h none y := by
  refine am_beg (ls := [some (va_rf (some v0)), some (.int v1), some (.int v2), some (va_rf v3), none, none]) (by simp only [am_en, am_e1_r, am_e1_i, am_e1_l, am_e1_n]; rfl) ?_
  unfold fX4_goThrough at hf
  refine am_aload_n dX4_goThrough_0 rfl rfl ?_
  refine am_gi_ dX4_goThrough_1 fl_X4_40 rfl hf (fun x1 _ hf => ?_)
  refine am_istore (ls' := [some (va_rf (some v0)), some (.int v1), some (.int v2), some (va_rf v3), some (.int x1), none]) dX4_goThrough_4 (by decide) (am_s1_r (j := 3) rfl rfl) rfl ?_
  refine am_iconst (v := 0) dX4_goThrough_6 rfl rfl ?_
  refine am_istore (ls' := [some (va_rf (some v0)), some (.int v1), some (.int v2), some (va_rf v3), some (.int x1), some (.int (0 : Int32))]) dX4_goThrough_7 (by decide) rfl rfl ?_
  exact (sfX4_goThrough_9 _) _ _ _ _ _ _ _ _ hf
set_option maxRecDepth 20000 in
set_option maxHeartbeats 4000000 in
theorem sfX8_playRun_21 {G : am_G}  : ∀ (n : Nat) (v0 : Option Nat) (v1 : Option Nat) (v2 : Int32) (h : am_H) (y : am_H) (hf : fX8_playRun_21  n v0 v1 v2 h = some y), am_S G miX8_playRun 21 [some (va_rf v0), some (va_rf v1), some (.int v2), none] [] h none y := by
  intro n
  induction n with
  | zero => intro v0 v1 v2 h y hf; cases hf
  | succ n ih =>
    intro v0 v1 v2 h y hf
    have hf : fX8_playRun_21_b  (fX8_playRun_21  n) v0 v1 v2 h = some y := hf
    unfold fX8_playRun_21_b at hf
    refine am_iload_n dX8_playRun_21 rfl rfl ?_
    refine am_bipush (v := 96) dX8_playRun_22 (by decide) rfl ?_
    refine am_icmp_ge (tgt := 66) dX8_playRun_24 (by decide) rfl hf (fun hf => ?_) (fun hf => ?_)
    · exact am_vret rfl dX8_playRun_66 hf
    refine am_aload_n dX8_playRun_27 rfl rfl ?_
    refine am_gr_ dX8_playRun_28 fl_X8_62 rfl hf (fun x1 _ hf => ?_)
    refine am_gi_ dX8_playRun_31 fl_X8_371 rfl hf (fun x2 _ hf => ?_)
    refine am_istore_n (ls' := [some (va_rf v0), some (va_rf v1), some (.int v2), some (.int x2)]) dX8_playRun_34 (by decide) rfl rfl ?_
    refine am_aload_n dX8_playRun_35 rfl rfl ?_
    refine am_gr_ dX8_playRun_36 fl_X8_62 rfl hf (fun x3 _ hf => ?_)
    refine am_cVv (As := []) (st := []) lk_X8_playRun_374 rfl (Nat.le_of_ble_eq_true rfl) (Nat.le_of_ble_eq_true rfl) rfl dX8_playRun_39 rfl hf (fun b5 y4 hf => sfX5_advance b5  _ y4 hf) (fun b5 y4 _ _ hf => ?_)
    refine am_aload_n dX8_playRun_42 rfl rfl ?_
    refine am_gr_ dX8_playRun_43 fl_X8_72 rfl hf (fun x6 _ hf => ?_)
    refine am_iload_n dX8_playRun_46 rfl rfl ?_
    refine am_aload_n dX8_playRun_47 rfl rfl ?_
    refine am_gr_ dX8_playRun_48 fl_X8_62 rfl hf (fun x7 _ hf => ?_)
    refine am_gi_ dX8_playRun_51 fl_X8_371 rfl hf (fun x8 _ hf => ?_)
    refine am_iload_n dX8_playRun_54 rfl rfl ?_
    refine am_isub dX8_playRun_55 rfl ?_
    refine am_aload_n dX8_playRun_56 rfl rfl ?_
    refine am_cVv (As := [.int v2, .int (x8 - x2), va_rf v1]) (st := []) lk_X8_playRun_377 rfl (by simp only [am_e1_r, am_e1_i, am_e1_l, am_e1_n]; exact Nat.le_of_ble_eq_true rfl) (Nat.le_of_ble_eq_true rfl) rfl dX8_playRun_57 rfl hf (fun b10 y9 hf => sfX4_goThrough b10 _ _ _ _ y9 hf) (fun b10 y9 _ _ hf => ?_)
    refine am_iinc (ls' := [some (va_rf v0), some (va_rf v1), some (.int (v2 + (1 : Int32))), some (.int x2)]) dX8_playRun_60 rfl rfl (by decide) (am_s1_r (j := 1) rfl rfl) rfl ?_
    refine am_goto (pc' := 21) dX8_playRun_63 (by decide) ?_
    exact am_we (ih _ _ _ _ _ hf) ⟨Or.inr rfl, Or.inr rfl, Or.inr rfl, Or.inl rfl, trivial⟩
set_option maxRecDepth 20000 in
set_option maxHeartbeats 4000000 in
theorem sfX8_playRun {G : am_G}  (v0 : Nat) (h : am_H) (y : am_H) (hf : fX8_playRun v0 h = some y) : am_Cn G miX8_playRun [va_rf (some v0)] h none y := by
  refine am_beg (ls := [some (va_rf (some v0)), none, none, none]) (by simp only [am_en, am_e1_r, am_e1_i, am_e1_l, am_e1_n]; rfl) ?_
  unfold fX8_playRun at hf
  refine am_aload_n dX8_playRun_0 rfl rfl ?_
  refine am_aload_n dX8_playRun_1 rfl rfl ?_
  refine am_gr_ dX8_playRun_2 fl_X8_37 rfl hf (fun x1 _ hf => ?_)
  refine am_gi_ dX8_playRun_5 fl_X8_197 rfl hf (fun x2 _ hf => ?_)
  refine am_cVr (As := [.int x2]) (st := []) lk_X8_playRun_186 rfl (Nat.le_of_ble_eq_true rfl) (Nat.le_of_ble_eq_true rfl) rfl dX8_playRun_8 rfl hf (fun b4 y3 hf => sfX8_workOf b4 _ _ y3 hf) (fun b4 y3 _ _ hf => ?_)
  refine am_astore_n (ls' := [some (va_rf (some v0)), some (va_rf y3.1), none, none]) dX8_playRun_11 (by decide) (am_s1_r (j := 0) rfl rfl) rfl ?_
  refine am_aload_n dX8_playRun_12 rfl rfl ?_
  refine am_gr_ dX8_playRun_13 fl_X8_72 rfl hf (fun x5 _ hf => ?_)
  refine am_cVv (As := []) (st := []) lk_X8_playRun_369 rfl (Nat.le_of_ble_eq_true rfl) (Nat.le_of_ble_eq_true rfl) rfl dX8_playRun_16 rfl hf (fun b7 y6 hf => sfX4_start b7  _ y6 hf) (fun b7 y6 _ _ hf => ?_)
  refine am_iconst (v := 0) dX8_playRun_19 rfl rfl ?_
  refine am_istore_n (ls' := [some (va_rf (some v0)), some (va_rf y3.1), some (.int (0 : Int32)), none]) dX8_playRun_20 (by decide) (am_s1_r (j := 1) rfl rfl) rfl ?_
  exact (sfX8_playRun_21 _) _ _ _ _ _ hf
set_option maxRecDepth 20000 in
set_option maxHeartbeats 4000000 in
theorem sfX4_measure {G : am_G}  (v0 : Nat) (v1 : Int32) (h : am_H) (y : Int32 × am_H) (hf : fX4_measure v0 v1 h = some y) : am_Cn G miX4_measure [va_rf (some v0), .int v1] h (some (.int y.1)) y.2 := by
  refine am_beg (ls := [some (va_rf (some v0)), some (.int v1)]) (by simp only [am_en, am_e1_r, am_e1_i, am_e1_l, am_e1_n]; rfl) ?_
  unfold fX4_measure at hf
  refine am_iload_n dX4_measure_0 rfl rfl ?_
  refine am_tsw (d := 43) (l := [(0, 28), (1, 33), (2, 38)]) dX4_measure_1 (by decide) (by decide) (by decide) ?_
  refine am_swc hf (fun hf => ?_) (fun hf => ?_)
  · refine am_aload_n dX4_measure_28 rfl rfl ?_
    refine am_gi_ dX4_measure_29 fl_X4_50 rfl hf (fun x1 _ hf => ?_)
    exact am_iret rfl dX4_measure_32 hf
  refine am_swc hf (fun hf => ?_) (fun hf => ?_)
  · refine am_aload_n dX4_measure_33 rfl rfl ?_
    refine am_gi_ dX4_measure_34 fl_X4_44 rfl hf (fun x2 _ hf => ?_)
    exact am_iret rfl dX4_measure_37 hf
  refine am_swc hf (fun hf => ?_) (fun hf => ?_)
  · refine am_aload_n dX4_measure_38 rfl rfl ?_
    refine am_gi_ dX4_measure_39 fl_X4_53 rfl hf (fun x3 _ hf => ?_)
    exact am_iret rfl dX4_measure_42 hf
  show am_S _ _ 43 _ _ _ _ _
  refine am_aload_n dX4_measure_43 rfl rfl ?_
  refine am_gi_ dX4_measure_44 fl_X4_56 rfl hf (fun x4 _ hf => ?_)
  exact am_iret rfl dX4_measure_47 hf
set_option maxRecDepth 20000 in
set_option maxHeartbeats 4000000 in
theorem sfX4_figureOf {G : am_G}  (v0 : Nat) (v1 : Int32) (h : am_H) (y : Int32 × am_H) (hf : fX4_figureOf v0 v1 h = some y) : am_Cn G miX4_figureOf [va_rf (some v0), .int v1] h (some (.int y.1)) y.2 := by
  refine am_beg (ls := [some (va_rf (some v0)), some (.int v1)]) (by simp only [am_en, am_e1_r, am_e1_i, am_e1_l, am_e1_n]; rfl) ?_
  unfold fX4_figureOf at hf
  refine am_iload_n dX4_figureOf_0 rfl rfl ?_
  refine am_iconst (v := 0) dX4_figureOf_1 rfl rfl ?_
  refine am_bipush (v := 19) dX4_figureOf_2 (by decide) rfl ?_
  refine am_cTi (As := [.int v1, .int (0 : Int32), .int (19 : Int32)]) (st := []) lk_X4_figureOf_90 rfl (Nat.le_of_ble_eq_true rfl) (Nat.le_of_ble_eq_true rfl) rfl dX4_figureOf_4 rfl hf (fun y1 hf => sfX8_isIn _ _ _ _ y1 hf) (fun y1 _ hf => ?_)
  refine am_if_eq (tgt := 19) dX4_figureOf_7 (by decide) rfl hf (fun hf => ?_) (fun hf => ?_)
  · refine am_iconst (v := -1) dX4_figureOf_19 rfl rfl ?_
    exact am_iret rfl dX4_figureOf_20 hf
  refine am_aload_n dX4_figureOf_10 rfl rfl ?_
  refine am_gr_ dX4_figureOf_11 fl_X4_31 rfl hf (fun x2 _ hf => ?_)
  refine am_iload_n dX4_figureOf_14 rfl rfl ?_
  refine am_iald dX4_figureOf_15 rfl hf (fun x3 _ hf => ?_)
  refine am_goto (pc' := 20) dX4_figureOf_16 (by decide) ?_
  exact am_iret rfl dX4_figureOf_20 hf
set_option maxRecDepth 20000 in
set_option maxHeartbeats 4000000 in
theorem sfX8_shows_38 {G : am_G}  (v0 : Option Nat) (v4 : Int32) (h : am_H) (y : Int32 × am_H) (hf : fX8_shows_38  v0 v4 h = some y) : am_S G miX8_shows 38 [some (va_rf v0), none, none, none, some (.int v4)] [] h (some (.int y.1)) y.2 := by
  unfold fX8_shows_38 at hf
  refine am_aload_n dX8_shows_38 rfl rfl ?_
  refine am_cVv (As := []) (st := []) lk_X8_shows_241 rfl (Nat.le_of_ble_eq_true rfl) (Nat.le_of_ble_eq_true rfl) rfl dX8_shows_39 rfl hf (fun b2 y1 hf => sfX8_playRun b2  _ y1 hf) (fun b2 y1 _ _ hf => ?_)
  refine am_iload dX8_shows_42 rfl rfl ?_
  refine am_bipush (v := 10) dX8_shows_44 (by decide) rfl ?_
  refine am_icmp_ge (tgt := 61) dX8_shows_46 (by decide) rfl hf (fun hf => ?_) (fun hf => ?_)
  · refine am_aload_n dX8_shows_61 rfl rfl ?_
    refine am_gr_ dX8_shows_62 fl_X8_72 rfl hf (fun x3 _ hf => ?_)
    refine am_iload dX8_shows_65 rfl rfl ?_
    refine am_bipush (v := 10) dX8_shows_67 (by decide) rfl ?_
    refine am_isub dX8_shows_69 rfl ?_
    refine am_cVi (As := [.int (v4 - (10 : Int32))]) (st := []) lk_X8_shows_245 rfl (Nat.le_of_ble_eq_true rfl) (Nat.le_of_ble_eq_true rfl) rfl dX8_shows_70 rfl hf (fun b5 y4 hf => sfX4_figureOf b5 _ _ y4 hf) (fun b5 y4 _ _ hf => ?_)
    exact am_iret rfl dX8_shows_73 hf
  refine am_aload_n dX8_shows_49 rfl rfl ?_
  refine am_gr_ dX8_shows_50 fl_X8_72 rfl hf (fun x6 _ hf => ?_)
  refine am_iload dX8_shows_53 rfl rfl ?_
  refine am_cVi (As := [.int v4]) (st := []) lk_X8_shows_244 rfl (Nat.le_of_ble_eq_true rfl) (Nat.le_of_ble_eq_true rfl) rfl dX8_shows_55 rfl hf (fun b8 y7 hf => sfX4_measure b8 _ _ y7 hf) (fun b8 y7 _ _ hf => ?_)
  refine am_goto (pc' := 73) dX8_shows_58 (by decide) ?_
  exact am_iret rfl dX8_shows_73 hf
set_option maxRecDepth 20000 in
set_option maxHeartbeats 4000000 in
theorem sfX8_shows {G : am_G}  (v0 : Nat) (v1 : Int32) (v2 : Int32) (v3 : Int32) (v4 : Int32) (h : am_H) (y : Int32 × am_H) (hf : fX8_shows v0 v1 v2 v3 v4 h = some y) : am_Cn G miX8_shows [va_rf (some v0), .int v1, .int v2, .int v3, .int v4] h (some (.int y.1)) y.2 := by
  refine am_beg (ls := [some (va_rf (some v0)), some (.int v1), some (.int v2), some (.int v3), some (.int v4)]) (by simp only [am_en, am_e1_r, am_e1_i, am_e1_l, am_e1_n]; rfl) ?_
  unfold fX8_shows at hf
  refine am_aload_n dX8_shows_0 rfl rfl ?_
  refine am_iload_n dX8_shows_1 rfl rfl ?_
  refine am_iload_n dX8_shows_2 rfl rfl ?_
  refine am_iload_n dX8_shows_3 rfl rfl ?_
  refine am_cVi (As := [.int v1, .int v2, .int v3]) (st := []) lk_X8_shows_200 rfl (Nat.le_of_ble_eq_true rfl) (Nat.le_of_ble_eq_true rfl) rfl dX8_shows_4 rfl hf (fun b2 y1 hf => sfX8_startRun b2 _ _ _ _ y1 hf) (fun b2 y1 _ _ hf => ?_)
  refine am_if_ne (tgt := 13) dX8_shows_7 (by decide) rfl hf (fun hf => ?_) (fun hf => ?_)
  · refine am_iload dX8_shows_13 rfl rfl ?_
    refine am_iconst (v := 0) dX8_shows_15 rfl rfl ?_
    refine am_iconst (v := 3) dX8_shows_16 rfl rfl ?_
    refine am_cSi (As := [.int v4, .int (0 : Int32), .int (3 : Int32)]) (st := []) lk_X8_shows_121 rfl (Nat.le_of_ble_eq_true rfl) (Nat.le_of_ble_eq_true rfl) rfl dX8_shows_17 rfl hf (fun y3 hf => sfX8_isIn _ _ _ _ y3 hf) (fun y3 _ hf => ?_)
    refine am_if_ne (tgt := 38) dX8_shows_20 (by decide) rfl hf (fun hf => ?_) (fun hf => ?_)
    · exact am_we (sfX8_shows_38 _ _ _ _ hf) ⟨Or.inr rfl, Or.inl rfl, Or.inl rfl, Or.inl rfl, Or.inr rfl, trivial⟩
    refine am_iload dX8_shows_23 rfl rfl ?_
    refine am_bipush (v := 10) dX8_shows_25 (by decide) rfl ?_
    refine am_bipush (v := 29) dX8_shows_27 (by decide) rfl ?_
    refine am_cSi (As := [.int v4, .int (10 : Int32), .int (29 : Int32)]) (st := []) lk_X8_shows_121 rfl (Nat.le_of_ble_eq_true rfl) (Nat.le_of_ble_eq_true rfl) rfl dX8_shows_29 rfl hf (fun y4 hf => sfX8_isIn _ _ _ _ y4 hf) (fun y4 _ hf => ?_)
    refine am_if_ne (tgt := 38) dX8_shows_32 (by decide) rfl hf (fun hf => ?_) (fun hf => ?_)
    · exact am_we (sfX8_shows_38 _ _ _ _ hf) ⟨Or.inr rfl, Or.inl rfl, Or.inl rfl, Or.inl rfl, Or.inr rfl, trivial⟩
    refine am_bipush (v := -102) dX8_shows_35 (by decide) rfl ?_
    exact am_iret rfl dX8_shows_37 hf
  refine am_bipush (v := -101) dX8_shows_10 (by decide) rfl ?_
  exact am_iret rfl dX8_shows_12 hf
set_option maxRecDepth 20000 in
set_option maxHeartbeats 4000000 in
theorem sfX9_struck_136 {G : am_G}  (s0 : Option Nat) (s1 : Int32) (h : am_H) (y : Int32 × am_H) (hf : fX9_struck_136  s0 s1 h = some y) : am_S G miX9_struck 136 [none, none, none, none, none] [.int s1, va_rf s0] h (some (.int y.1)) y.2 := by
  unfold fX9_struck_136 at hf
  refine am_pi_ dX9_struck_136 fl_X9_305 fp_9_64 (fun z => by cases z) rfl hf (fun h1 _ hf => ?_)
  refine am_iconst (v := -1) dX9_struck_139 rfl rfl ?_
  exact am_iret rfl dX9_struck_140 hf
set_option maxRecDepth 20000 in
set_option maxHeartbeats 4000000 in
theorem sfX9_struck_116 {G : am_G}  (v0 : Option Nat) (v1 : Int32) (s0 : Option Nat) (s1 : Int32) (h : am_H) (y : Int32 × am_H) (hf : fX9_struck_116  v0 v1 s0 s1 h = some y) : am_S G miX9_struck 116 [some (va_rf v0), some (.int v1), none, none, none] [.int s1, va_rf s0] h (some (.int y.1)) y.2 := by
  unfold fX9_struck_116 at hf
  refine am_pi_ dX9_struck_116 fl_X9_308 fp_9_65 (fun z => by cases z) rfl hf (fun h1 _ hf => ?_)
  refine am_aload_n dX9_struck_119 rfl rfl ?_
  refine am_aload_n dX9_struck_120 rfl rfl ?_
  refine am_gi_ dX9_struck_121 fl_X9_305 rfl hf (fun x2 _ hf => ?_)
  refine am_iconst (v := -1) dX9_struck_124 rfl rfl ?_
  refine am_icmp_ne (tgt := 132) dX9_struck_125 (by decide) rfl hf (fun hf => ?_) (fun hf => ?_)
  · refine am_aload_n dX9_struck_132 rfl rfl ?_
    refine am_gi_ dX9_struck_133 fl_X9_305 rfl hf (fun x3 _ hf => ?_)
    exact am_we (sfX9_struck_136 _ _ _ _ hf) ⟨Or.inl rfl, Or.inl rfl, Or.inl rfl, Or.inl rfl, Or.inl rfl, trivial⟩
  refine am_iload_n dX9_struck_128 rfl rfl ?_
  refine am_goto (pc' := 136) dX9_struck_129 (by decide) ?_
  exact am_we (sfX9_struck_136 _ _ _ _ hf) ⟨Or.inl rfl, Or.inl rfl, Or.inl rfl, Or.inl rfl, Or.inl rfl, trivial⟩
set_option maxRecDepth 20000 in
set_option maxHeartbeats 4000000 in
theorem sfX9_struck {G : am_G}  (v0 : Nat) (v1 : Int32) (v2 : Int32) (h : am_H) (y : Int32 × am_H) (hf : fX9_struck v0 v1 v2 h = some y) : am_Cn G miX9_struck [va_rf (some v0), .int v1, .int v2] h (some (.int y.1)) y.2 := by
  refine am_beg (ls := [some (va_rf (some v0)), some (.int v1), some (.int v2), none, none]) (by simp only [am_en, am_e1_r, am_e1_i, am_e1_l, am_e1_n]; rfl) ?_
  unfold fX9_struck at hf
  refine am_aload_n dX9_struck_0 rfl rfl ?_
  refine am_gr_ dX9_struck_1 fl_X9_58 rfl hf (fun x1 _ hf => ?_)
  refine am_iload_n dX9_struck_4 rfl rfl ?_
  refine am_iald dX9_struck_5 rfl hf (fun x2 _ hf => ?_)
  refine am_istore_n (ls' := [some (va_rf (some v0)), some (.int v1), some (.int v2), some (.int x2), none]) dX9_struck_6 (by decide) rfl rfl ?_
  refine am_aload_n dX9_struck_7 rfl rfl ?_
  refine am_gr_ dX9_struck_8 fl_X9_61 rfl hf (fun x3 _ hf => ?_)
  refine am_iload_n dX9_struck_11 rfl rfl ?_
  refine am_iald dX9_struck_12 rfl hf (fun x4 _ hf => ?_)
  refine am_istore (ls' := [some (va_rf (some v0)), some (.int v1), some (.int v2), some (.int x2), some (.int x4)]) dX9_struck_13 (by decide) rfl rfl ?_
  refine am_aload_n dX9_struck_15 rfl rfl ?_
  refine am_gr_ dX9_struck_16 fl_X9_111 rfl hf (fun x5 _ hf => ?_)
  refine am_iload_n dX9_struck_19 rfl rfl ?_
  refine am_zald dX9_struck_20 rfl hf (fun x6 _ hf => ?_)
  refine am_if_eq (tgt := 26) dX9_struck_21 (by decide) rfl hf (fun hf => ?_) (fun hf => ?_)
  · refine am_aload_n dX9_struck_26 rfl rfl ?_
    refine am_gr_ dX9_struck_27 fl_X9_55 rfl hf (fun x7 _ hf => ?_)
    refine am_iload_n dX9_struck_30 rfl rfl ?_
    refine am_iald dX9_struck_31 rfl hf (fun x8 _ hf => ?_)
    refine am_tsw (d := 250) (l := [(1, 64), (2, 82), (3, 173), (4, 222)]) dX9_struck_32 (by decide) (by decide) (by decide) ?_
    refine am_swc hf (fun hf => ?_) (fun hf => ?_)
    · refine am_aload_n dX9_struck_64 rfl rfl ?_
      refine am_dup dX9_struck_65 (am_c1 _) rfl ?_
      refine am_gi_ dX9_struck_66 fl_X9_299 rfl hf (fun x9 _ hf => ?_)
      refine am_aload_n dX9_struck_69 rfl rfl ?_
      refine am_gi_ dX9_struck_70 fl_X9_302 rfl hf (fun x10 _ hf => ?_)
      refine am_iload_n dX9_struck_73 rfl rfl ?_
      refine am_iadd dX9_struck_74 rfl ?_
      refine am_iadd dX9_struck_75 rfl ?_
      refine am_pi_ dX9_struck_76 fl_X9_299 fp_9_60 (fun z => by cases z) rfl hf (fun h11 _ hf => ?_)
      refine am_iload dX9_struck_79 rfl rfl ?_
      exact am_iret rfl dX9_struck_81 hf
    refine am_swc hf (fun hf => ?_) (fun hf => ?_)
    · refine am_aload_n dX9_struck_82 rfl rfl ?_
      refine am_gr_ dX9_struck_83 fl_X9_118 rfl hf (fun x12 _ hf => ?_)
      refine am_iload_n dX9_struck_86 rfl rfl ?_
      refine am_iald dX9_struck_87 rfl hf (fun x13 _ hf => ?_)
      refine am_iload_n dX9_struck_88 rfl rfl ?_
      refine am_icmp_lt (tgt := 141) dX9_struck_89 (by decide) rfl hf (fun hf => ?_) (fun hf => ?_)
      · refine am_aload_n dX9_struck_141 rfl rfl ?_
        refine am_gr_ dX9_struck_142 fl_X9_118 rfl hf (fun x14 _ hf => ?_)
        refine am_iload_n dX9_struck_145 rfl rfl ?_
        refine am_iload_n dX9_struck_146 rfl rfl ?_
        refine am_iconst (v := 2) dX9_struck_147 rfl rfl ?_
        refine am_iadd dX9_struck_148 rfl ?_
        refine am_iast dX9_struck_149 rfl hf (fun h15 _ hf => ?_)
        refine am_aload_n dX9_struck_150 rfl rfl ?_
        refine am_gr_ dX9_struck_151 fl_X9_108 rfl hf (fun x16 _ hf => ?_)
        refine am_aload_n dX9_struck_154 rfl rfl ?_
        refine am_gi_ dX9_struck_155 fl_X9_311 rfl hf (fun x17 _ hf => ?_)
        refine am_iload_n dX9_struck_158 rfl rfl ?_
        refine am_iast dX9_struck_159 rfl hf (fun h18 _ hf => ?_)
        refine am_aload_n dX9_struck_160 rfl rfl ?_
        refine am_dup dX9_struck_161 (am_c1 _) rfl ?_
        refine am_gi_ dX9_struck_162 fl_X9_311 rfl hf (fun x19 _ hf => ?_)
        refine am_iconst (v := 1) dX9_struck_165 rfl rfl ?_
        refine am_iadd dX9_struck_166 rfl ?_
        refine am_pi_ dX9_struck_167 fl_X9_311 fp_9_62 (fun z => by cases z) rfl hf (fun h20 _ hf => ?_)
        refine am_iload dX9_struck_170 rfl rfl ?_
        exact am_iret rfl dX9_struck_172 hf
      refine am_aload_n dX9_struck_92 rfl rfl ?_
      refine am_gr_ dX9_struck_93 fl_X9_111 rfl hf (fun x21 _ hf => ?_)
      refine am_iload_n dX9_struck_96 rfl rfl ?_
      refine am_iconst (v := 1) dX9_struck_97 rfl rfl ?_
      refine am_zast dX9_struck_98 rfl hf (fun h22 _ hf => ?_)
      refine am_aload_n dX9_struck_99 rfl rfl ?_
      refine am_aload_n dX9_struck_100 rfl rfl ?_
      refine am_gi_ dX9_struck_101 fl_X9_305 rfl hf (fun x23 _ hf => ?_)
      refine am_iconst (v := -1) dX9_struck_104 rfl rfl ?_
      refine am_icmp_ne (tgt := 112) dX9_struck_105 (by decide) rfl hf (fun hf => ?_) (fun hf => ?_)
      · refine am_aload_n dX9_struck_112 rfl rfl ?_
        refine am_gi_ dX9_struck_113 fl_X9_308 rfl hf (fun x24 _ hf => ?_)
        exact am_we (sfX9_struck_116 _ _ _ _ _ _ hf) ⟨Or.inr rfl, Or.inr rfl, Or.inl rfl, Or.inl rfl, Or.inl rfl, trivial⟩
      refine am_iload_n dX9_struck_108 rfl rfl ?_
      refine am_goto (pc' := 116) dX9_struck_109 (by decide) ?_
      exact am_we (sfX9_struck_116 _ _ _ _ _ _ hf) ⟨Or.inr rfl, Or.inr rfl, Or.inl rfl, Or.inl rfl, Or.inl rfl, trivial⟩
    refine am_swc hf (fun hf => ?_) (fun hf => ?_)
    · refine am_iload dX9_struck_173 rfl rfl ?_
      refine am_iconst (v := -1) dX9_struck_175 rfl rfl ?_
      refine am_icmp_eq (tgt := 220) dX9_struck_176 (by decide) rfl hf (fun hf => ?_) (fun hf => ?_)
      · refine am_iconst (v := -1) dX9_struck_220 rfl rfl ?_
        exact am_iret rfl dX9_struck_221 hf
      refine am_iload_n dX9_struck_179 rfl rfl ?_
      refine am_iload_n dX9_struck_180 rfl rfl ?_
      refine am_iadd dX9_struck_181 rfl ?_
      refine am_bipush (v := 96) dX9_struck_182 (by decide) rfl ?_
      refine am_icmp_ge (tgt := 220) dX9_struck_184 (by decide) rfl hf (fun hf => ?_) (fun hf => ?_)
      · refine am_iconst (v := -1) dX9_struck_220 rfl rfl ?_
        exact am_iret rfl dX9_struck_221 hf
      refine am_aload_n dX9_struck_187 rfl rfl ?_
      refine am_gr_ dX9_struck_188 fl_X9_121 rfl hf (fun x25 _ hf => ?_)
      refine am_aload_n dX9_struck_191 rfl rfl ?_
      refine am_gi_ dX9_struck_192 fl_X9_314 rfl hf (fun x26 _ hf => ?_)
      refine am_iload_n dX9_struck_195 rfl rfl ?_
      refine am_iload_n dX9_struck_196 rfl rfl ?_
      refine am_iadd dX9_struck_197 rfl ?_
      refine am_iast dX9_struck_198 rfl hf (fun h27 _ hf => ?_)
      refine am_aload_n dX9_struck_199 rfl rfl ?_
      refine am_gr_ dX9_struck_200 fl_X9_124 rfl hf (fun x28 _ hf => ?_)
      refine am_aload_n dX9_struck_203 rfl rfl ?_
      refine am_gi_ dX9_struck_204 fl_X9_314 rfl hf (fun x29 _ hf => ?_)
      refine am_iload dX9_struck_207 rfl rfl ?_
      refine am_iast dX9_struck_209 rfl hf (fun h30 _ hf => ?_)
      refine am_aload_n dX9_struck_210 rfl rfl ?_
      refine am_dup dX9_struck_211 (am_c1 _) rfl ?_
      refine am_gi_ dX9_struck_212 fl_X9_314 rfl hf (fun x31 _ hf => ?_)
      refine am_iconst (v := 1) dX9_struck_215 rfl rfl ?_
      refine am_iadd dX9_struck_216 rfl ?_
      refine am_pi_ dX9_struck_217 fl_X9_314 fp_9_69 (fun z => by cases z) rfl hf (fun h32 _ hf => ?_)
      refine am_iconst (v := -1) dX9_struck_220 rfl rfl ?_
      exact am_iret rfl dX9_struck_221 hf
    refine am_swc hf (fun hf => ?_) (fun hf => ?_)
    · refine am_aload_n dX9_struck_222 rfl rfl ?_
      refine am_gr_ dX9_struck_223 fl_X9_115 rfl hf (fun x33 _ hf => ?_)
      refine am_iload_n dX9_struck_226 rfl rfl ?_
      refine am_dup2 dX9_struck_227 (rfl) (am_c1 _) rfl ?_
      refine am_iald dX9_struck_228 rfl hf (fun x34 _ hf => ?_)
      refine am_iconst (v := 1) dX9_struck_229 rfl rfl ?_
      refine am_iadd dX9_struck_230 rfl ?_
      refine am_iast dX9_struck_231 rfl hf (fun h35 _ hf => ?_)
      refine am_aload_n dX9_struck_232 rfl rfl ?_
      refine am_gr_ dX9_struck_233 fl_X9_115 rfl hf (fun x36 _ hf => ?_)
      refine am_iload_n dX9_struck_236 rfl rfl ?_
      refine am_iald dX9_struck_237 rfl hf (fun x37 _ hf => ?_)
      refine am_iload_n dX9_struck_238 rfl rfl ?_
      refine am_irem dX9_struck_239 rfl hf (fun hf => ?_)
      refine am_if_ne (tgt := 248) dX9_struck_240 (by decide) rfl hf (fun hf => ?_) (fun hf => ?_)
      · refine am_iconst (v := -1) dX9_struck_248 rfl rfl ?_
        exact am_iret rfl dX9_struck_249 hf
      refine am_iload dX9_struck_243 rfl rfl ?_
      refine am_goto (pc' := 249) dX9_struck_245 (by decide) ?_
      exact am_iret rfl dX9_struck_249 hf
    show am_S _ _ 250 _ _ _ _ _
    refine am_iload dX9_struck_250 rfl rfl ?_
    exact am_iret rfl dX9_struck_252 hf
  refine am_iconst (v := -1) dX9_struck_24 rfl rfl ?_
  exact am_iret rfl dX9_struck_25 hf
set_option maxRecDepth 20000 in
set_option maxHeartbeats 4000000 in
theorem sfX9_strike_2 {G : am_G}  : ∀ (n : Nat) (v0 : Option Nat) (v2 : Int32) (v3 : Int32) (h : am_H) (y : am_H) (hf : fX9_strike_2  n v0 v2 v3 h = some y), am_S G miX9_strike 2 [some (va_rf v0), none, some (.int v2), some (.int v3)] [] h none y := by
  intro n
  induction n with
  | zero => intro v0 v2 v3 h y hf; cases hf
  | succ n ih =>
    intro v0 v2 v3 h y hf
    have hf : fX9_strike_2_b  (fX9_strike_2  n) v0 v2 v3 h = some y := hf
    unfold fX9_strike_2_b at hf
    refine am_iload_n dX9_strike_2 rfl rfl ?_
    refine am_iconst (v := -1) dX9_strike_3 rfl rfl ?_
    refine am_icmp_eq (tgt := 17) dX9_strike_4 (by decide) rfl hf (fun hf => ?_) (fun hf => ?_)
    · exact am_vret rfl dX9_strike_17 hf
    refine am_aload_n dX9_strike_7 rfl rfl ?_
    refine am_iload_n dX9_strike_8 rfl rfl ?_
    refine am_iload_n dX9_strike_9 rfl rfl ?_
    refine am_cVi (As := [.int v3, .int v2]) (st := []) lk_X9_strike_296 rfl (Nat.le_of_ble_eq_true rfl) (Nat.le_of_ble_eq_true rfl) rfl dX9_strike_10 rfl hf (fun b2 y1 hf => sfX9_struck b2 _ _ _ y1 hf) (fun b2 y1 _ _ hf => ?_)
    refine am_istore_n (ls' := [some (va_rf v0), none, some (.int v2), some (.int y1.1)]) dX9_strike_13 (by decide) rfl rfl ?_
    refine am_goto (pc' := 2) dX9_strike_14 (by decide) ?_
    exact ih _ _ _ _ _ hf
set_option maxRecDepth 20000 in
set_option maxHeartbeats 4000000 in
theorem sfX9_strike {G : am_G}  (v0 : Nat) (v1 : Int32) (v2 : Int32) (h : am_H) (y : am_H) (hf : fX9_strike v0 v1 v2 h = some y) : am_Cn G miX9_strike [va_rf (some v0), .int v1, .int v2] h none y := by
  refine am_beg (ls := [some (va_rf (some v0)), some (.int v1), some (.int v2), none]) (by simp only [am_en, am_e1_r, am_e1_i, am_e1_l, am_e1_n]; rfl) ?_
  unfold fX9_strike at hf
  refine am_iload_n dX9_strike_0 rfl rfl ?_
  refine am_istore_n (ls' := [some (va_rf (some v0)), some (.int v1), some (.int v2), some (.int v1)]) dX9_strike_1 (by decide) rfl rfl ?_
  exact am_we ((sfX9_strike_2 _) _ _ _ _ _ hf) ⟨Or.inr rfl, Or.inl rfl, Or.inr rfl, Or.inr rfl, trivial⟩
set_option maxRecDepth 20000 in
set_option maxHeartbeats 4000000 in
theorem sfX9_show_189 {G : am_G}  {k82 : Option Nat → Int32 → Int32 → am_H → Option (am_H)} (hk82 : ∀ (v0 : Option Nat) (v1 : Int32) (v2 : Int32) (h : am_H) (y : am_H), k82 v0 v1 v2 h = some y → am_S G miX9_show 82 [some (va_rf v0), some (.int v1), some (.int v2), none, none] [] h none y) (v0 : Option Nat) (v1 : Int32) (v2 : Int32) (h : am_H) (y : am_H) (hf : fX9_show_189 k82 v0 v1 v2 h = some y) : am_S G miX9_show 189 [some (va_rf v0), some (.int v1), some (.int v2), none, none] [] h none y := by
  unfold fX9_show_189 at hf
  refine am_iinc (ls' := [some (va_rf v0), some (.int v1), some (.int (v2 + (1 : Int32))), none, none]) dX9_show_189 rfl rfl (by decide) rfl rfl ?_
  refine am_goto (pc' := 82) dX9_show_192 (by decide) ?_
  exact hk82 _ _ _ _ _ hf
set_option maxRecDepth 20000 in
set_option maxHeartbeats 4000000 in
theorem sfX9_show_183 {G : am_G}  {k134 : Option Nat → Int32 → Int32 → Int32 → am_H → Option (am_H)} (hk134 : ∀ (v0 : Option Nat) (v1 : Int32) (v2 : Int32) (v4 : Int32) (h : am_H) (y : am_H), k134 v0 v1 v2 v4 h = some y → am_S G miX9_show 134 [some (va_rf v0), some (.int v1), some (.int v2), none, some (.int v4)] [] h none y) (v0 : Option Nat) (v1 : Int32) (v2 : Int32) (v4 : Int32) (h : am_H) (y : am_H) (hf : fX9_show_183 k134 v0 v1 v2 v4 h = some y) : am_S G miX9_show 183 [some (va_rf v0), some (.int v1), some (.int v2), none, some (.int v4)] [] h none y := by
  unfold fX9_show_183 at hf
  refine am_iinc (ls' := [some (va_rf v0), some (.int v1), some (.int v2), none, some (.int (v4 + (1 : Int32)))]) dX9_show_183 rfl rfl (by decide) rfl rfl ?_
  refine am_goto (pc' := 134) dX9_show_186 (by decide) ?_
  exact hk134 _ _ _ _ _ _ hf
