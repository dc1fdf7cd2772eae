/-! printed proofs of the printed functions, 5 -/
set_option maxRecDepth 20000 in
set_option maxHeartbeats 4000000 in
theorem sfL_run_99 {G : am_G}  : ∀ (n : Nat) (v0 : Option Nat) (v1 : Int32) (v2 : Int32) (v3 : Int32) (v4 : Int32) (v5 : Int32) (v6 : Int32) (v7 : Option Nat) (v8 : Option Nat) (v9 : Int32) (v10 : Int32) (v11 : Int32) (v12 : Int32) (v13 : Int32) (v14 : Int32) (h : am_H) (y : am_H) (hf : fL_run_99  n v0 v1 v2 v3 v4 v5 v6 v7 v8 v9 v10 v11 v12 v13 v14 h = some y), am_S G miL_run 99 [some (va_rf v0), some (.int v1), some (.int v2), some (.int v3), some (.int v4), some (.int v5), some (.int v6), some (va_rf v7), some (va_rf v8), some (.int v9), some (.int v10), some (.int v11), some (.int v12), some (.int v13), some (.int v14), none, none, none, none, none, none] [] h none y := by
  intro n
  induction n with
  | zero => intro v0 v1 v2 v3 v4 v5 v6 v7 v8 v9 v10 v11 v12 v13 v14 h y hf; cases hf
  | succ n ih =>
    intro v0 v1 v2 v3 v4 v5 v6 v7 v8 v9 v10 v11 v12 v13 v14 h y hf
    have hf : fL_run_99_b  (fL_run_99  n) v0 v1 v2 v3 v4 v5 v6 v7 v8 v9 v10 v11 v12 v13 v14 h = some y := hf
    unfold fL_run_99_b at hf
    refine am_iload dL_run_99 rfl rfl ?_
    refine am_bipush (v := 96) dL_run_101 (by decide) rfl ?_
    refine am_icmp_ge (tgt := 632) dL_run_103 (by decide) rfl hf (fun hf => ?_) (fun hf => ?_)
    · exact am_vret rfl dL_run_632 hf
    refine am_iload dL_run_106 rfl rfl ?_
    refine am_iload dL_run_108 rfl rfl ?_
    refine am_icmp_lt (tgt := 117) dL_run_110 (by decide) rfl hf (fun hf => ?_) (fun hf => ?_)
    · refine am_iconst (v := 0) dL_run_117 rfl rfl ?_
      exact (sfL_run_118 ih) _ _ _ _ _ _ _ _ _ _ _ _ _ _ _ _ _ _ hf
    refine am_iconst (v := 1) dL_run_113 rfl rfl ?_
    refine am_goto (pc' := 118) dL_run_114 (by decide) ?_
    exact (sfL_run_118 ih) _ _ _ _ _ _ _ _ _ _ _ _ _ _ _ _ _ _ hf
set_option maxRecDepth 20000 in
set_option maxHeartbeats 4000000 in
theorem sfL_run_48 {G : am_G}  : ∀ (n : Nat) (v0 : Option Nat) (v1 : Int32) (v2 : Int32) (v3 : Int32) (v4 : Int32) (v5 : Int32) (v6 : Int32) (v7 : Option Nat) (v8 : Option Nat) (v9 : Int32) (h : am_H) (y : am_H) (hf : fL_run_48  n v0 v1 v2 v3 v4 v5 v6 v7 v8 v9 h = some y), am_S G miL_run 48 [some (va_rf v0), some (.int v1), some (.int v2), some (.int v3), some (.int v4), some (.int v5), some (.int v6), some (va_rf v7), some (va_rf v8), some (.int v9), none, none, none, none, none, none, none, none, none, none, none] [] h none y := by
  intro n
  induction n with
  | zero => intro v0 v1 v2 v3 v4 v5 v6 v7 v8 v9 h y hf; cases hf
  | succ n ih =>
    intro v0 v1 v2 v3 v4 v5 v6 v7 v8 v9 h y hf
    have hf : fL_run_48_b  (fL_run_48  n) v0 v1 v2 v3 v4 v5 v6 v7 v8 v9 h = some y := hf
    unfold fL_run_48_b at hf
    refine am_iload dL_run_48 rfl rfl ?_
    refine am_bipush (v := 12) dL_run_50 (by decide) rfl ?_
    refine am_icmp_ge (tgt := 68) dL_run_52 (by decide) rfl hf (fun hf => ?_) (fun hf => ?_)
    · refine am_aload dL_run_68 rfl rfl ?_
      refine am_bipush (v := 20) dL_run_70 (by decide) rfl ?_
      refine am_ldc (v := 1000000) dL_run_72 ci_L_35 rfl ?_
      refine am_iast dL_run_74 rfl hf (fun h1 _ hf => ?_)
      refine am_aload dL_run_75 rfl rfl ?_
      refine am_bipush (v := 21) dL_run_77 (by decide) rfl ?_
      refine am_iconst (v := 0) dL_run_79 rfl rfl ?_
      refine am_iast dL_run_80 rfl hf (fun h2 _ hf => ?_)
      refine am_iconst (v := 0) dL_run_81 rfl rfl ?_
      refine am_istore (ls' := [some (va_rf v0), some (.int v1), some (.int v2), some (.int v3), some (.int v4), some (.int v5), some (.int v6), some (va_rf v7), some (va_rf v8), some (.int (0 : Int32)), none, none, none, none, none, none, none, none, none, none, none]) dL_run_82 (by decide) (am_s1_r (j := 8) rfl rfl) rfl ?_
      refine am_iconst (v := 0) dL_run_84 rfl rfl ?_
      refine am_istore (ls' := [some (va_rf v0), some (.int v1), some (.int v2), some (.int v3), some (.int v4), some (.int v5), some (.int v6), some (va_rf v7), some (va_rf v8), some (.int (0 : Int32)), some (.int (0 : Int32)), none, none, none, none, none, none, none, none, none, none]) dL_run_85 (by decide) rfl rfl ?_
      refine am_iconst (v := 0) dL_run_87 rfl rfl ?_
      refine am_istore (ls' := [some (va_rf v0), some (.int v1), some (.int v2), some (.int v3), some (.int v4), some (.int v5), some (.int v6), some (va_rf v7), some (va_rf v8), some (.int (0 : Int32)), some (.int (0 : Int32)), some (.int (0 : Int32)), none, none, none, none, none, none, none, none, none]) dL_run_88 (by decide) rfl rfl ?_
      refine am_iconst (v := 0) dL_run_90 rfl rfl ?_
      refine am_istore (ls' := [some (va_rf v0), some (.int v1), some (.int v2), some (.int v3), some (.int v4), some (.int v5), some (.int v6), some (va_rf v7), some (va_rf v8), some (.int (0 : Int32)), some (.int (0 : Int32)), some (.int (0 : Int32)), some (.int (0 : Int32)), none, none, none, none, none, none, none, none]) dL_run_91 (by decide) rfl rfl ?_
      refine am_iconst (v := 0) dL_run_93 rfl rfl ?_
      refine am_istore (ls' := [some (va_rf v0), some (.int v1), some (.int v2), some (.int v3), some (.int v4), some (.int v5), some (.int v6), some (va_rf v7), some (va_rf v8), some (.int (0 : Int32)), some (.int (0 : Int32)), some (.int (0 : Int32)), some (.int (0 : Int32)), some (.int (0 : Int32)), none, none, none, none, none, none, none]) dL_run_94 (by decide) rfl rfl ?_
      refine am_iconst (v := 0) dL_run_96 rfl rfl ?_
      refine am_istore (ls' := [some (va_rf v0), some (.int v1), some (.int v2), some (.int v3), some (.int v4), some (.int v5), some (.int v6), some (va_rf v7), some (va_rf v8), some (.int (0 : Int32)), some (.int (0 : Int32)), some (.int (0 : Int32)), some (.int (0 : Int32)), some (.int (0 : Int32)), some (.int (0 : Int32)), none, none, none, none, none, none]) dL_run_97 (by decide) rfl rfl ?_
      exact (sfL_run_99 _) _ _ _ _ _ _ _ _ _ _ _ _ _ _ _ _ _ hf
    refine am_aload dL_run_55 rfl rfl ?_
    refine am_iload dL_run_57 rfl rfl ?_
    refine am_bipush (v := 96) dL_run_59 (by decide) rfl ?_
    refine am_iast dL_run_61 rfl hf (fun h3 _ hf => ?_)
    refine am_iinc (ls' := [some (va_rf v0), some (.int v1), some (.int v2), some (.int v3), some (.int v4), some (.int v5), some (.int v6), some (va_rf v7), some (va_rf v8), some (.int (v9 + (1 : Int32))), none, none, none, none, none, none, none, none, none, none, none]) dL_run_62 rfl rfl (by decide) (am_s1_r (j := 8) rfl rfl) rfl ?_
    refine am_goto (pc' := 48) dL_run_65 (by decide) ?_
    exact ih _ _ _ _ _ _ _ _ _ _ _ _ hf
set_option maxRecDepth 20000 in
set_option maxHeartbeats 4000000 in
theorem sfL_run_8 {G : am_G}  : ∀ (n : Nat) (v0 : Option Nat) (v1 : Int32) (v2 : Int32) (v3 : Int32) (v4 : Int32) (v5 : Int32) (v6 : Int32) (v7 : Option Nat) (v8 : Option Nat) (v9 : Int32) (h : am_H) (y : am_H) (hf : fL_run_8  n v0 v1 v2 v3 v4 v5 v6 v7 v8 v9 h = some y), am_S G miL_run 8 [some (va_rf v0), some (.int v1), some (.int v2), some (.int v3), some (.int v4), some (.int v5), some (.int v6), some (va_rf v7), some (va_rf v8), some (.int v9), none, none, none, none, none, none, none, none, none, none, none] [] h none y := by
  intro n
  induction n with
  | zero => intro v0 v1 v2 v3 v4 v5 v6 v7 v8 v9 h y hf; cases hf
  | succ n ih =>
    intro v0 v1 v2 v3 v4 v5 v6 v7 v8 v9 h y hf
    have hf : fL_run_8_b  (fL_run_8  n) v0 v1 v2 v3 v4 v5 v6 v7 v8 v9 h = some y := hf
    unfold fL_run_8_b at hf
    refine am_iload dL_run_8 rfl rfl ?_
    refine am_aload_n dL_run_10 rfl rfl ?_
    refine am_iconst (v := 0) dL_run_11 rfl rfl ?_
    refine am_iald dL_run_12 rfl hf (fun x1 _ hf => ?_)
    refine am_icmp_ge (tgt := 45) dL_run_13 (by decide) rfl hf (fun hf => ?_) (fun hf => ?_)
    · refine am_iconst (v := 0) dL_run_45 rfl rfl ?_
      refine am_istore (ls' := [some (va_rf v0), some (.int v1), some (.int v2), some (.int v3), some (.int v4), some (.int v5), some (.int v6), some (va_rf v7), some (va_rf v8), some (.int (0 : Int32)), none, none, none, none, none, none, none, none, none, none, none]) dL_run_46 (by decide) (am_s1_r (j := 8) rfl rfl) rfl ?_
      exact (sfL_run_48 _) _ _ _ _ _ _ _ _ _ _ _ _ hf
    refine am_aload dL_run_16 rfl rfl ?_
    refine am_iload dL_run_18 rfl rfl ?_
    refine am_aload_n dL_run_20 rfl rfl ?_
    refine am_iconst (v := 5) dL_run_21 rfl rfl ?_
    refine am_iconst (v := 3) dL_run_22 rfl rfl ?_
    refine am_iload dL_run_23 rfl rfl ?_
    refine am_imul dL_run_25 rfl ?_
    refine am_iadd dL_run_26 rfl ?_
    refine am_iald dL_run_27 rfl hf (fun x2 _ hf => ?_)
    refine am_aload_n dL_run_28 rfl rfl ?_
    refine am_bipush (v := 6) dL_run_29 (by decide) rfl ?_
    refine am_iconst (v := 3) dL_run_31 rfl rfl ?_
    refine am_iload dL_run_32 rfl rfl ?_
    refine am_imul dL_run_34 rfl ?_
    refine am_iadd dL_run_35 rfl ?_
    refine am_iald dL_run_36 rfl hf (fun x3 _ hf => ?_)
    refine am_imul dL_run_37 rfl ?_
    refine am_iast dL_run_38 rfl hf (fun h4 _ hf => ?_)
    refine am_iinc (ls' := [some (va_rf v0), some (.int v1), some (.int v2), some (.int v3), some (.int v4), some (.int v5), some (.int v6), some (va_rf v7), some (va_rf v8), some (.int (v9 + (1 : Int32))), none, none, none, none, none, none, none, none, none, none, none]) dL_run_39 rfl rfl (by decide) (am_s1_r (j := 8) rfl rfl) rfl ?_
    refine am_goto (pc' := 8) dL_run_42 (by decide) ?_
    exact ih _ _ _ _ _ _ _ _ _ _ _ _ hf
set_option maxRecDepth 20000 in
set_option maxHeartbeats 4000000 in
theorem sfL_run {G : am_G}  (v0 : Option Nat) (v1 : Int32) (v2 : Int32) (v3 : Int32) (v4 : Int32) (v5 : Int32) (v6 : Int32) (v7 : Option Nat) (h : am_H) (y : am_H) (hf : fL_run v0 v1 v2 v3 v4 v5 v6 v7 h = some y) : am_Cn G miL_run [va_rf v0, .int v1, .int v2, .int v3, .int v4, .int v5, .int v6, va_rf v7] h none y := by
  refine am_beg (ls := [some (va_rf v0), some (.int v1), some (.int v2), some (.int v3), some (.int v4), some (.int v5), some (.int v6), some (va_rf v7), none, none, none, none, none, none, none, none, none, none, none, none, none]) (by simp only [am_en, am_e1_r, am_e1_i, am_e1_l, am_e1_n]; rfl) ?_
  unfold fL_run at hf
  refine am_iconst (v := 3) dL_run_0 rfl rfl ?_
  refine am_newarr (t := 0) rfl (by decide) rfl ac_0 dL_run_1 rfl hf (fun y1 _ hf => ?_)
  refine am_astore (ls' := [some (va_rf v0), some (.int v1), some (.int v2), some (.int v3), some (.int v4), some (.int v5), some (.int v6), some (va_rf v7), some (va_rf y1.1), none, none, none, none, none, none, none, none, none, none, none, none]) dL_run_3 (by decide) (am_s1_r (j := 7) rfl rfl) rfl ?_
  refine am_iconst (v := 0) dL_run_5 rfl rfl ?_
  refine am_istore (ls' := [some (va_rf v0), some (.int v1), some (.int v2), some (.int v3), some (.int v4), some (.int v5), some (.int v6), some (va_rf v7), some (va_rf y1.1), some (.int (0 : Int32)), none, none, none, none, none, none, none, none, none, none, none]) dL_run_6 (by decide) (am_s1_r (j := 8) rfl rfl) rfl ?_
  exact (sfL_run_8 _) _ _ _ _ _ _ _ _ _ _ _ _ hf
set_option maxRecDepth 20000 in
set_option maxHeartbeats 4000000 in
theorem sfX8_clockOf {G : am_G}  (v0 : Nat) (v1 : Int32) (h : am_H) (y : Option Nat × am_H) (hf : fX8_clockOf v0 v1 h = some y) : am_Cn G miX8_clockOf [va_rf (some v0), .int v1] h (some (va_rf y.1)) y.2 := by
  refine am_beg (ls := [some (va_rf (some v0)), some (.int v1)]) (by simp only [am_en, am_e1_r, am_e1_i, am_e1_l, am_e1_n]; rfl) ?_
  unfold fX8_clockOf at hf
  refine am_iload_n dX8_clockOf_0 rfl rfl ?_
  refine am_iconst (v := 0) dX8_clockOf_1 rfl rfl ?_
  refine am_aload_n dX8_clockOf_2 rfl rfl ?_
  refine am_gi_ dX8_clockOf_3 fl_X8_110 rfl hf (fun x1 _ hf => ?_)
  refine am_iconst (v := 1) dX8_clockOf_6 rfl rfl ?_
  refine am_isub dX8_clockOf_7 rfl ?_
  refine am_cSi (As := [.int v1, .int (0 : Int32), .int (x1 - (1 : Int32))]) (st := []) lk_X8_clockOf_121 rfl (Nat.le_of_ble_eq_true rfl) (Nat.le_of_ble_eq_true rfl) rfl dX8_clockOf_8 rfl hf (fun y2 hf => sfX8_isIn _ _ _ _ y2 hf) (fun y2 _ hf => ?_)
  refine am_if_eq (tgt := 28) dX8_clockOf_11 (by decide) rfl hf (fun hf => ?_) (fun hf => ?_)
  · refine am_null dX8_clockOf_28 rfl ?_
    exact am_aret rfl dX8_clockOf_29 hf
  refine am_iload_n dX8_clockOf_14 rfl rfl ?_
  refine am_iconst (v := 4) dX8_clockOf_15 rfl rfl ?_
  refine am_icmp_ge (tgt := 28) dX8_clockOf_16 (by decide) rfl hf (fun hf => ?_) (fun hf => ?_)
  · refine am_null dX8_clockOf_28 rfl ?_
    exact am_aret rfl dX8_clockOf_29 hf
  refine am_aload_n dX8_clockOf_19 rfl rfl ?_
  refine am_gr_ dX8_clockOf_20 fl_X8_11 rfl hf (fun x3 _ hf => ?_)
  refine am_iload_n dX8_clockOf_23 rfl rfl ?_
  refine am_alr_ (t := 4) rfl (by decide) dX8_clockOf_24 rfl hf (fun x4 _ hf => ?_)
  refine am_goto (pc' := 29) dX8_clockOf_25 (by decide) ?_
  exact am_aret rfl dX8_clockOf_29 hf
set_option maxRecDepth 20000 in
set_option maxHeartbeats 4000000 in
theorem sfX8_warmthOf {G : am_G}  (v0 : Nat) (v1 : Int32) (h : am_H) (y : Int32 × am_H) (hf : fX8_warmthOf v0 v1 h = some y) : am_Cn G miX8_warmthOf [va_rf (some v0), .int v1] h (some (.int y.1)) y.2 := by
  refine am_beg (ls := [some (va_rf (some v0)), some (.int v1)]) (by simp only [am_en, am_e1_r, am_e1_i, am_e1_l, am_e1_n]; rfl) ?_
  unfold fX8_warmthOf at hf
  refine am_iload_n dX8_warmthOf_0 rfl rfl ?_
  refine am_cSi (As := [.int v1]) (st := []) lk_X8_warmthOf_136 rfl (Nat.le_of_ble_eq_true rfl) (Nat.le_of_ble_eq_true rfl) rfl dX8_warmthOf_1 rfl hf (fun y1 hf => sfX8_isSeason _ _ y1 hf) (fun y1 _ hf => ?_)
  refine am_if_eq (tgt := 19) dX8_warmthOf_4 (by decide) rfl hf (fun hf => ?_) (fun hf => ?_)
  · refine am_bipush (v := 100) dX8_warmthOf_19 (by decide) rfl ?_
    exact am_iret rfl dX8_warmthOf_21 hf
  refine am_aload_n dX8_warmthOf_7 rfl rfl ?_
  refine am_gr_ dX8_warmthOf_8 fl_X8_37 rfl hf (fun x2 _ hf => ?_)
  refine am_gr_ dX8_warmthOf_11 fl_X8_140 rfl hf (fun x3 _ hf => ?_)
  refine am_iload_n dX8_warmthOf_14 rfl rfl ?_
  refine am_iald dX8_warmthOf_15 rfl hf (fun x4 _ hf => ?_)
  refine am_goto (pc' := 21) dX8_warmthOf_16 (by decide) ?_
  exact am_iret rfl dX8_warmthOf_21 hf
set_option maxRecDepth 20000 in
set_option maxHeartbeats 4000000 in
theorem sfX5_start_23 {G : am_G}  : ∀ (n : Nat) (v0 : Option Nat) (v4 : Int32) (h : am_H) (y : am_H) (hf : fX5_start_23  n v0 v4 h = some y), am_S G miX5_start 23 [some (va_rf v0), none, none, none, some (.int v4)] [] h none y := by
  intro n
  induction n with
  | zero => intro v0 v4 h y hf; cases hf
  | succ n ih =>
    intro v0 v4 h y hf
    have hf : fX5_start_23_b  (fX5_start_23  n) v0 v4 h = some y := hf
    unfold fX5_start_23_b at hf
    refine am_iload dX5_start_23 rfl rfl ?_
    refine am_iconst (v := 3) dX5_start_25 rfl rfl ?_
    refine am_icmp_ge (tgt := 52) dX5_start_26 (by decide) rfl hf (fun hf => ?_) (fun hf => ?_)
    · refine am_aload_n dX5_start_52 rfl rfl ?_
      refine am_iconst (v := 0) dX5_start_53 rfl rfl ?_
      refine am_pi_ dX5_start_54 fl_X5_38 fp_5_5 (fun z => by cases z) rfl hf (fun h1 _ hf => ?_)
      refine am_aload_n dX5_start_57 rfl rfl ?_
      refine am_iconst (v := 0) dX5_start_58 rfl rfl ?_
      refine am_pi_ dX5_start_59 fl_X5_41 fp_5_6 (fun z => by cases z) rfl hf (fun h2 _ hf => ?_)
      refine am_aload_n dX5_start_62 rfl rfl ?_
      refine am_iconst (v := 0) dX5_start_63 rfl rfl ?_
      refine am_pi_ dX5_start_64 fl_X5_44 fp_5_7 (fun z => by cases z) rfl hf (fun h3 _ hf => ?_)
      refine am_aload_n dX5_start_67 rfl rfl ?_
      refine am_iconst (v := 0) dX5_start_68 rfl rfl ?_
      refine am_pi_ dX5_start_69 fl_X5_47 fp_5_8 (fun z => by cases z) rfl hf (fun h4 _ hf => ?_)
      refine am_aload_n dX5_start_72 rfl rfl ?_
      refine am_iconst (v := 0) dX5_start_73 rfl rfl ?_
      refine am_pi_ dX5_start_74 fl_X5_50 fp_5_9 (fun z => by cases z) rfl hf (fun h5 _ hf => ?_)
      refine am_aload_n dX5_start_77 rfl rfl ?_
      refine am_iconst (v := 0) dX5_start_78 rfl rfl ?_
      refine am_pi_ dX5_start_79 fl_X5_53 fp_5_10 (fun z => by cases z) rfl hf (fun h6 _ hf => ?_)
      refine am_aload_n dX5_start_82 rfl rfl ?_
      refine am_gr_ dX5_start_83 fl_X5_15 rfl hf (fun x7 _ hf => ?_)
      refine am_iconst (v := -1) dX5_start_86 rfl rfl ?_
      refine am_cSv (As := [va_rf x7, .int (-1 : Int32)]) (st := []) lk_X5_start_56 rfl (by simp only [am_e1_r, am_e1_i, am_e1_l, am_e1_n]; exact Nat.le_of_ble_eq_true rfl) (Nat.le_of_ble_eq_true rfl) rfl dX5_start_87 rfl hf (fun y8 hf => sfJ7_fill_53178 _ _ _ y8 hf) (fun y8 _ hf => ?_)
      refine am_aload_n dX5_start_90 rfl rfl ?_
      refine am_iconst (v := 0) dX5_start_91 rfl rfl ?_
      refine am_pi_ dX5_start_92 fl_X5_62 fp_5_12 (fun z => by cases z) rfl hf (fun h9 _ hf => ?_)
      refine am_aload_n dX5_start_95 rfl rfl ?_
      refine am_iconst (v := 0) dX5_start_96 rfl rfl ?_
      refine am_pi_ dX5_start_97 fl_X5_65 fp_5_13 (fun z => by cases z) rfl hf (fun h10 _ hf => ?_)
      exact am_vret rfl dX5_start_100 hf
    refine am_aload_n dX5_start_29 rfl rfl ?_
    refine am_gr_ dX5_start_30 fl_X5_9 rfl hf (fun x11 _ hf => ?_)
    refine am_iload dX5_start_33 rfl rfl ?_
    refine am_aload_n dX5_start_35 rfl rfl ?_
    refine am_gr_ dX5_start_36 fl_X5_18 rfl hf (fun x12 _ hf => ?_)
    refine am_gr_ dX5_start_39 fl_X5_33 rfl hf (fun x13 _ hf => ?_)
    refine am_iload dX5_start_42 rfl rfl ?_
    refine am_iald dX5_start_44 rfl hf (fun x14 _ hf => ?_)
    refine am_iast dX5_start_45 rfl hf (fun h15 _ hf => ?_)
    refine am_iinc (ls' := [some (va_rf v0), none, none, none, some (.int (v4 + (1 : Int32)))]) dX5_start_46 rfl rfl (by decide) rfl rfl ?_
    refine am_goto (pc' := 23) dX5_start_49 (by decide) ?_
    exact ih _ _ _ _ hf
set_option maxRecDepth 20000 in
set_option maxHeartbeats 4000000 in
theorem sfX5_start {G : am_G}  (v0 : Nat) (v1 : Option Nat) (v2 : Int32) (v3 : Option Nat) (h : am_H) (y : am_H) (hf : fX5_start v0 v1 v2 v3 h = some y) : am_Cn G miX5_start [va_rf (some v0), va_rf v1, .int v2, va_rf v3] h none y := by
  refine am_beg (ls := [some (va_rf (some v0)), some (va_rf v1), some (.int v2), some (va_rf v3), none]) (by simp only [am_en, am_e1_r, am_e1_i, am_e1_l, am_e1_n]; rfl) ?_
  unfold fX5_start at hf
  refine am_aload_n dX5_start_0 rfl rfl ?_
  refine am_aload_n dX5_start_1 rfl rfl ?_
  refine am_pr_ rfl dX5_start_2 fl_X5_18 fp_5_0 (fun z => by cases z) rfl hf (fun h1 _ hf => ?_)
  refine am_aload_n dX5_start_5 rfl rfl ?_
  refine am_aload_n dX5_start_6 rfl rfl ?_
  refine am_pr_ rfl dX5_start_7 fl_X5_22 fp_5_1 (fun z => by cases z) rfl hf (fun h2 _ hf => ?_)
  refine am_aload_n dX5_start_10 rfl rfl ?_
  refine am_iload_n dX5_start_11 rfl rfl ?_
  refine am_pi_ dX5_start_12 fl_X5_26 fp_5_2 (fun z => by cases z) rfl hf (fun h3 _ hf => ?_)
  refine am_aload_n dX5_start_15 rfl rfl ?_
  refine am_iconst (v := 0) dX5_start_16 rfl rfl ?_
  refine am_pi_ dX5_start_17 fl_X5_30 fp_5_3 (fun z => by cases z) rfl hf (fun h4 _ hf => ?_)
  refine am_iconst (v := 0) dX5_start_20 rfl rfl ?_
  refine am_istore (ls' := [some (va_rf (some v0)), some (va_rf v1), some (.int v2), some (va_rf v3), some (.int (0 : Int32))]) dX5_start_21 (by decide) (am_s1_r (j := 3) rfl rfl) rfl ?_
  exact am_we ((sfX5_start_23 _) _ _ _ _ hf) ⟨Or.inr rfl, Or.inl rfl, Or.inl rfl, Or.inl rfl, Or.inr rfl, trivial⟩
set_option maxRecDepth 20000 in
set_option maxHeartbeats 4000000 in
theorem sfX8_startRun_24 {G : am_G}  (v0 : Option Nat) (v2 : Int32) (v4 : Option Nat) (s0 : Option Nat) (h : am_H) (y : Int32 × am_H) (hf : fX8_startRun_24  v0 v2 v4 s0 h = some y) : am_S G miX8_startRun 24 [some (va_rf v0), none, some (.int v2), none, some (va_rf v4), none] [va_rf s0] h (some (.int y.1)) y.2 := by
  unfold fX8_startRun_24 at hf
  refine am_astore (ls' := [some (va_rf v0), none, some (.int v2), none, some (va_rf v4), some (va_rf s0)]) dX8_startRun_24 (by decide) (am_s1_r (j := 4) rfl rfl) rfl ?_
  refine am_aload dX8_startRun_26 rfl rfl ?_
  refine am_ifnull (tgt := 43) dX8_startRun_28 (by decide) rfl hf (fun hf => ?_) (fun hf => ?_)
  · refine am_iconst (v := 0) dX8_startRun_43 rfl rfl ?_
    exact am_zret rfl dX8_startRun_44 hf
  refine am_aload dX8_startRun_31 rfl rfl ?_
  refine am_ifnull (tgt := 43) dX8_startRun_33 (by decide) rfl hf (fun hf => ?_) (fun hf => ?_)
  · refine am_iconst (v := 0) dX8_startRun_43 rfl rfl ?_
    exact am_zret rfl dX8_startRun_44 hf
  refine am_iload_n dX8_startRun_36 rfl rfl ?_
  refine am_cSi (As := [.int v2]) (st := []) lk_X8_startRun_136 rfl (Nat.le_of_ble_eq_true rfl) (Nat.le_of_ble_eq_true rfl) rfl dX8_startRun_37 rfl hf (fun y1 hf => sfX8_isSeason _ _ y1 hf) (fun y1 _ hf => ?_)
  refine am_if_ne (tgt := 45) dX8_startRun_40 (by decide) rfl hf (fun hf => ?_) (fun hf => ?_)
  · refine am_aload_n dX8_startRun_45 rfl rfl ?_
    refine am_gr_ dX8_startRun_46 fl_X8_62 rfl hf (fun x2 _ hf => ?_)
    refine am_aload dX8_startRun_49 rfl rfl ?_
    refine am_aload_n dX8_startRun_51 rfl rfl ?_
    refine am_iload_n dX8_startRun_52 rfl rfl ?_
    refine am_cVi (As := [.int v2]) (st := [va_rf v4, va_rf x2]) lk_X8_startRun_258 rfl (Nat.le_of_ble_eq_true rfl) (by simp only [List.map_cons, List.map_nil, am_c1, am_ci, am_cl]; exact Nat.le_of_ble_eq_true rfl) rfl dX8_startRun_53 rfl hf (fun b4 y3 hf => sfX8_warmthOf b4 _ _ y3 hf) (fun b4 y3 _ _ hf => ?_)
    refine am_aload dX8_startRun_56 rfl rfl ?_
    refine am_cVv (As := [va_rf v4, .int y3.1, va_rf s0]) (st := []) lk_X8_startRun_261 rfl (by simp only [am_e1_r, am_e1_i, am_e1_l, am_e1_n]; exact Nat.le_of_ble_eq_true rfl) (Nat.le_of_ble_eq_true rfl) rfl dX8_startRun_58 rfl hf (fun b6 y5 hf => sfX5_start b6 _ _ _ _ y5 hf) (fun b6 y5 _ _ hf => ?_)
    refine am_iconst (v := 1) dX8_startRun_61 rfl rfl ?_
    exact am_zret rfl dX8_startRun_62 hf
  refine am_iconst (v := 0) dX8_startRun_43 rfl rfl ?_
  exact am_zret rfl dX8_startRun_44 hf
set_option maxRecDepth 20000 in
set_option maxHeartbeats 4000000 in
theorem sfX8_startRun {G : am_G}  (v0 : Nat) (v1 : Int32) (v2 : Int32) (v3 : Int32) (h : am_H) (y : Int32 × am_H) (hf : fX8_startRun v0 v1 v2 v3 h = some y) : am_Cn G miX8_startRun [va_rf (some v0), .int v1, .int v2, .int v3] h (some (.int y.1)) y.2 := by
  refine am_beg (ls := [some (va_rf (some v0)), some (.int v1), some (.int v2), some (.int v3), none, none]) (by simp only [am_en, am_e1_r, am_e1_i, am_e1_l, am_e1_n]; rfl) ?_
  unfold fX8_startRun at hf
  refine am_aload_n dX8_startRun_0 rfl rfl ?_
  refine am_iload_n dX8_startRun_1 rfl rfl ?_
  refine am_cVr (As := [.int v1]) (st := []) lk_X8_startRun_117 rfl (Nat.le_of_ble_eq_true rfl) (Nat.le_of_ble_eq_true rfl) rfl dX8_startRun_2 rfl hf (fun b2 y1 hf => sfX8_clockOf b2 _ _ y1 hf) (fun b2 y1 _ _ hf => ?_)
  refine am_astore (ls' := [some (va_rf (some v0)), some (.int v1), some (.int v2), some (.int v3), some (va_rf y1.1), none]) dX8_startRun_5 (by decide) rfl rfl ?_
  refine am_iload_n dX8_startRun_7 rfl rfl ?_
  refine am_iconst (v := -1) dX8_startRun_8 rfl rfl ?_
  refine am_icmp_ne (tgt := 19) dX8_startRun_9 (by decide) rfl hf (fun hf => ?_) (fun hf => ?_)
  · refine am_aload_n dX8_startRun_19 rfl rfl ?_
    refine am_iload_n dX8_startRun_20 rfl rfl ?_
    refine am_cVr (As := [.int v3]) (st := []) lk_X8_startRun_163 rfl (Nat.le_of_ble_eq_true rfl) (Nat.le_of_ble_eq_true rfl) rfl dX8_startRun_21 rfl hf (fun b4 y3 hf => sfX8_faultOf b4 _ _ y3 hf) (fun b4 y3 _ _ hf => ?_)
    exact am_we (sfX8_startRun_24 _ _ _ _ _ _ hf) ⟨Or.inr rfl, Or.inl rfl, Or.inr rfl, Or.inl rfl, Or.inr rfl, Or.inl rfl, trivial⟩
  refine am_aload_n dX8_startRun_12 rfl rfl ?_
  refine am_gr_ dX8_startRun_13 fl_X8_50 rfl hf (fun x5 _ hf => ?_)
  refine am_goto (pc' := 24) dX8_startRun_16 (by decide) ?_
  exact am_we (sfX8_startRun_24 _ _ _ _ _ _ hf) ⟨Or.inr rfl, Or.inl rfl, Or.inr rfl, Or.inl rfl, Or.inr rfl, Or.inl rfl, trivial⟩
set_option maxRecDepth 20000 in
set_option maxHeartbeats 4000000 in
theorem sfX2_warmthOf {G : am_G}  (v0 : Nat) (v1 : Int32) (v2 : Int32) (h : am_H) (y : Int32 × am_H) (hf : fX2_warmthOf v0 v1 v2 h = some y) : am_Cn G miX2_warmthOf [va_rf (some v0), .int v1, .int v2] h (some (.int y.1)) y.2 := by
  refine am_beg (ls := [some (va_rf (some v0)), some (.int v1), some (.int v2)]) (by simp only [am_en, am_e1_r, am_e1_i, am_e1_l, am_e1_n]; rfl) ?_
  unfold fX2_warmthOf at hf
  refine am_aload_n dX2_warmthOf_0 rfl rfl ?_
  refine am_gi_ dX2_warmthOf_1 fl_X2_9 rfl hf (fun x1 _ hf => ?_)
  refine am_iconst (v := 4) dX2_warmthOf_4 rfl rfl ?_
  refine am_icmp_ne (tgt := 25) dX2_warmthOf_5 (by decide) rfl hf (fun hf => ?_) (fun hf => ?_)
  · refine am_iload_n dX2_warmthOf_25 rfl rfl ?_
    exact am_iret rfl dX2_warmthOf_26 hf
  refine am_iload_n dX2_warmthOf_8 rfl rfl ?_
  refine am_aload_n dX2_warmthOf_9 rfl rfl ?_
  refine am_gi_ dX2_warmthOf_10 fl_X2_21 rfl hf (fun x2 _ hf => ?_)
  refine am_icmp_lt (tgt := 25) dX2_warmthOf_13 (by decide) rfl hf (fun hf => ?_) (fun hf => ?_)
  · refine am_iload_n dX2_warmthOf_25 rfl rfl ?_
    exact am_iret rfl dX2_warmthOf_26 hf
  refine am_iload_n dX2_warmthOf_16 rfl rfl ?_
  refine am_aload_n dX2_warmthOf_17 rfl rfl ?_
  refine am_gi_ dX2_warmthOf_18 fl_X2_18 rfl hf (fun x3 _ hf => ?_)
  refine am_isub dX2_warmthOf_21 rfl ?_
  refine am_goto (pc' := 26) dX2_warmthOf_22 (by decide) ?_
  exact am_iret rfl dX2_warmthOf_26 hf
set_option maxRecDepth 20000 in
set_option maxHeartbeats 4000000 in
theorem sfX8_quotient {G : am_G}  (v0 : Int32) (v1 : Int32) (h : am_H) (y : Int32 × am_H) (hf : fX8_quotient v0 v1 h = some y) : am_Cn G miX8_quotient [.int v0, .int v1] h (some (.int y.1)) y.2 := by
  refine am_beg (ls := [some (.int v0), some (.int v1)]) (by simp only [am_en, am_e1_r, am_e1_i, am_e1_l, am_e1_n]; rfl) ?_
  unfold fX8_quotient at hf
  refine am_iload_n dX8_quotient_0 rfl rfl ?_
  refine am_iconst (v := 1) dX8_quotient_1 rfl rfl ?_
  refine am_icmp_ge (tgt := 9) dX8_quotient_2 (by decide) rfl hf (fun hf => ?_) (fun hf => ?_)
  · refine am_iload_n dX8_quotient_9 rfl rfl ?_
    refine am_iload_n dX8_quotient_10 rfl rfl ?_
    refine am_idiv dX8_quotient_11 rfl hf (fun hf => ?_)
    exact am_iret rfl dX8_quotient_12 hf
  refine am_iconst (v := 0) dX8_quotient_5 rfl rfl ?_
  refine am_goto (pc' := 12) dX8_quotient_6 (by decide) ?_
  exact am_iret rfl dX8_quotient_12 hf
set_option maxRecDepth 20000 in
set_option maxHeartbeats 4000000 in
theorem sfX2_holeOf {G : am_G}  (v0 : Nat) (v1 : Int32) (v2 : Int32) (v3 : Int32) (h : am_H) (y : Int32 × am_H) (hf : fX2_holeOf v0 v1 v2 v3 h = some y) : am_Cn G miX2_holeOf [va_rf (some v0), .int v1, .int v2, .int v3] h (some (.int y.1)) y.2 := by
  refine am_beg (ls := [some (va_rf (some v0)), some (.int v1), some (.int v2), some (.int v3)]) (by simp only [am_en, am_e1_r, am_e1_i, am_e1_l, am_e1_n]; rfl) ?_
  unfold fX2_holeOf at hf
  refine am_aload_n dX2_holeOf_0 rfl rfl ?_
  refine am_gi_ dX2_holeOf_1 fl_X2_15 rfl hf (fun x1 _ hf => ?_)
  refine am_iload_n dX2_holeOf_4 rfl rfl ?_
  refine am_icmp_ne (tgt := 16) dX2_holeOf_5 (by decide) rfl hf (fun hf => ?_) (fun hf => ?_)
  · refine am_iload_n dX2_holeOf_16 rfl rfl ?_
    exact am_iret rfl dX2_holeOf_17 hf
  refine am_iload_n dX2_holeOf_8 rfl rfl ?_
  refine am_aload_n dX2_holeOf_9 rfl rfl ?_
  refine am_gi_ dX2_holeOf_10 fl_X2_21 rfl hf (fun x2 _ hf => ?_)
  refine am_icmp_ge (tgt := 18) dX2_holeOf_13 (by decide) rfl hf (fun hf => ?_) (fun hf => ?_)
  · refine am_aload_n dX2_holeOf_18 rfl rfl ?_
    refine am_gi_ dX2_holeOf_19 fl_X2_9 rfl hf (fun x3 _ hf => ?_)
    refine am_lsw (d := 66) (l := [(1, 48), (2, 59)]) dX2_holeOf_22 (by decide) (by decide) (by decide) ?_
    refine am_swc hf (fun hf => ?_) (fun hf => ?_)
    · refine am_iconst (v := 0) dX2_holeOf_48 rfl rfl ?_
      refine am_iload_n dX2_holeOf_49 rfl rfl ?_
      refine am_aload_n dX2_holeOf_50 rfl rfl ?_
      refine am_gi_ dX2_holeOf_51 fl_X2_18 rfl hf (fun x4 _ hf => ?_)
      refine am_isub dX2_holeOf_54 rfl ?_
      refine am_mmax ml_X2_24 st_max in_Math co_max (by decide) (Nat.le_of_ble_eq_true rfl) dX2_holeOf_55 rfl ?_
      exact am_iret rfl dX2_holeOf_58 hf
    refine am_swc hf (fun hf => ?_) (fun hf => ?_)
    · refine am_iload_n dX2_holeOf_59 rfl rfl ?_
      refine am_aload_n dX2_holeOf_60 rfl rfl ?_
      refine am_gi_ dX2_holeOf_61 fl_X2_18 rfl hf (fun x5 _ hf => ?_)
      refine am_iadd dX2_holeOf_64 rfl ?_
      exact am_iret rfl dX2_holeOf_65 hf
    show am_S _ _ 66 _ _ _ _ _
    refine am_iload_n dX2_holeOf_66 rfl rfl ?_
    exact am_iret rfl dX2_holeOf_67 hf
  refine am_iload_n dX2_holeOf_16 rfl rfl ?_
  exact am_iret rfl dX2_holeOf_17 hf
set_option maxRecDepth 20000 in
set_option maxHeartbeats 4000000 in
theorem sfX5_drip_210 {G : am_G}  (v0 : Option Nat) (v2 : Int32) (s0 : Option Nat) (s1 : Int32) (h : am_H) (y : am_H) (hf : fX5_drip_210  v0 v2 s0 s1 h = some y) : am_S G miX5_drip 210 [some (va_rf v0), none, some (.int v2), none, none, none, none] [.int s1, va_rf s0] h none y := by
  unfold fX5_drip_210 at hf
  refine am_pi_ dX5_drip_210 fl_X5_62 fp_5_12 (fun z => by cases z) rfl hf (fun h1 _ hf => ?_)
  refine am_aload_n dX5_drip_213 rfl rfl ?_
  refine am_aload_n dX5_drip_214 rfl rfl ?_
  refine am_gi_ dX5_drip_215 fl_X5_65 rfl hf (fun x2 _ hf => ?_)
  refine am_iload_n dX5_drip_218 rfl rfl ?_
  refine am_mmax ml_X5_113 st_max in_Math co_max (by decide) (by simp only [List.map_cons, List.map_nil, am_c1, am_ci, am_cl]; exact Nat.le_of_ble_eq_true rfl) dX5_drip_219 rfl ?_
  refine am_pi_ dX5_drip_222 fl_X5_65 fp_5_13 (fun z => by cases z) rfl hf (fun h3 _ hf => ?_)
  exact am_vret rfl dX5_drip_225 hf
set_option maxRecDepth 20000 in
set_option maxHeartbeats 4000000 in
theorem sfX5_drip_170 {G : am_G}  (v0 : Option Nat) (v2 : Int32) (h : am_H) (y : am_H) (hf : fX5_drip_170  v0 v2 h = some y) : am_S G miX5_drip 170 [some (va_rf v0), none, some (.int v2), none, none, none, none] [] h none y := by
  unfold fX5_drip_170 at hf
  refine am_aload_n dX5_drip_170 rfl rfl ?_
  refine am_dup dX5_drip_171 (am_c1 _) rfl ?_
  refine am_gi_ dX5_drip_172 fl_X5_38 rfl hf (fun x1 _ hf => ?_)
  refine am_iload_n dX5_drip_175 rfl rfl ?_
  refine am_iadd dX5_drip_176 rfl ?_
  refine am_pi_ dX5_drip_177 fl_X5_38 fp_5_5 (fun z => by cases z) rfl hf (fun h2 _ hf => ?_)
  refine am_aload_n dX5_drip_180 rfl rfl ?_
  refine am_dup dX5_drip_181 (am_c1 _) rfl ?_
  refine am_gi_ dX5_drip_182 fl_X5_41 rfl hf (fun x3 _ hf => ?_)
  refine am_iload_n dX5_drip_185 rfl rfl ?_
  refine am_iadd dX5_drip_186 rfl ?_
  refine am_pi_ dX5_drip_187 fl_X5_41 fp_5_6 (fun z => by cases z) rfl hf (fun h4 _ hf => ?_)
  refine am_aload_n dX5_drip_190 rfl rfl ?_
  refine am_aload_n dX5_drip_191 rfl rfl ?_
  refine am_gi_ dX5_drip_192 fl_X5_30 rfl hf (fun x5 _ hf => ?_)
  refine am_if_ne (tgt := 202) dX5_drip_195 (by decide) rfl hf (fun hf => ?_) (fun hf => ?_)
  · refine am_aload_n dX5_drip_202 rfl rfl ?_
    refine am_gi_ dX5_drip_203 fl_X5_62 rfl hf (fun x6 _ hf => ?_)
    refine am_iload_n dX5_drip_206 rfl rfl ?_
    refine am_mmin ml_X5_108 st_min in_Math co_min (by decide) (by simp only [List.map_cons, List.map_nil, am_c1, am_ci, am_cl]; exact Nat.le_of_ble_eq_true rfl) dX5_drip_207 rfl ?_
    exact sfX5_drip_210 _ _ _ _ _ _ hf
  refine am_iload_n dX5_drip_198 rfl rfl ?_
  refine am_goto (pc' := 210) dX5_drip_199 (by decide) ?_
  exact sfX5_drip_210 _ _ _ _ _ _ hf
set_option maxRecDepth 20000 in
set_option maxHeartbeats 4000000 in
theorem sfX5_drip_98 {G : am_G}  {k26 : Option Nat → Int32 → Int32 → Int32 → am_H → Option (am_H)} (hk26 : ∀ (v0 : Option Nat) (v1 : Int32) (v2 : Int32) (v3 : Int32) (h : am_H) (y : am_H), k26 v0 v1 v2 v3 h = some y → am_S G miX5_drip 26 [some (va_rf v0), some (.int v1), some (.int v2), some (.int v3), none, none, none] [] h none y) (v0 : Option Nat) (v1 : Int32) (v3 : Int32) (v4 : Int32) (h : am_H) (y : am_H) (hf : fX5_drip_98 k26 v0 v1 v3 v4 h = some y) : am_S G miX5_drip 98 [some (va_rf v0), some (.int v1), none, some (.int v3), some (.int v4), none, none] [] h none y := by
  unfold fX5_drip_98 at hf
  refine am_iload dX5_drip_98 rfl rfl ?_
  refine am_aload_n dX5_drip_100 rfl rfl ?_
  refine am_gr_ dX5_drip_101 fl_X5_18 rfl hf (fun x1 _ hf => ?_)
  refine am_gr_ dX5_drip_104 fl_X5_95 rfl hf (fun x2 _ hf => ?_)
  refine am_iload_n dX5_drip_107 rfl rfl ?_
  refine am_iald dX5_drip_108 rfl hf (fun x3 _ hf => ?_)
  refine am_cTi (As := [.int v4, .int x3]) (st := []) lk_X5_drip_98 rfl (Nat.le_of_ble_eq_true rfl) (Nat.le_of_ble_eq_true rfl) rfl dX5_drip_109 rfl hf (fun y4 hf => sfX8_quotient _ _ _ y4 hf) (fun y4 _ hf => ?_)
  refine am_istore (ls' := [some (va_rf v0), some (.int v1), none, some (.int v3), some (.int v4), some (.int y4.1), none]) dX5_drip_112 (by decide) rfl rfl ?_
  refine am_aload_n dX5_drip_114 rfl rfl ?_
  refine am_gr_ dX5_drip_115 fl_X5_22 rfl hf (fun x5 _ hf => ?_)
  refine am_aload_n dX5_drip_118 rfl rfl ?_
  refine am_gr_ dX5_drip_119 fl_X5_18 rfl hf (fun x6 _ hf => ?_)
  refine am_gr_ dX5_drip_122 fl_X5_101 rfl hf (fun x7 _ hf => ?_)
  refine am_iload_n dX5_drip_125 rfl rfl ?_
  refine am_iald dX5_drip_126 rfl hf (fun x8 _ hf => ?_)
  refine am_iload_n dX5_drip_127 rfl rfl ?_
  refine am_aload_n dX5_drip_128 rfl rfl ?_
  refine am_gi_ dX5_drip_129 fl_X5_30 rfl hf (fun x9 _ hf => ?_)
  refine am_cVi (As := [.int x8, .int v3, .int x9]) (st := []) lk_X5_drip_104 rfl (Nat.le_of_ble_eq_true rfl) (Nat.le_of_ble_eq_true rfl) rfl dX5_drip_132 rfl hf (fun b11 y10 hf => sfX2_holeOf b11 _ _ _ _ y10 hf) (fun b11 y10 _ _ hf => ?_)
  refine am_istore (ls' := [some (va_rf v0), some (.int v1), none, some (.int v3), some (.int v4), some (.int y4.1), some (.int y10.1)]) dX5_drip_135 (by decide) rfl rfl ?_
  refine am_iload dX5_drip_137 rfl rfl ?_
  refine am_iload dX5_drip_139 rfl rfl ?_
  refine am_iload dX5_drip_141 rfl rfl ?_
  refine am_imul dX5_drip_143 rfl ?_
  refine am_iload_n dX5_drip_144 rfl rfl ?_
  refine am_imul dX5_drip_145 rfl ?_
  refine am_sipush (v := 1000) dX5_drip_146 (by decide) rfl ?_
  refine am_idiv dX5_drip_149 rfl hf (fun hf => ?_)
  refine am_mmin ml_X5_108 st_min in_Math co_min (by decide) (Nat.le_of_ble_eq_true rfl) dX5_drip_150 rfl ?_
  refine am_istore_n (ls' := [some (va_rf v0), some (.int v1), some (.int (if (((y10.1 * y4.1) * v1) / (1000 : Int32)) < v4 then (((y10.1 * y4.1) * v1) / (1000 : Int32)) else v4)), some (.int v3), some (.int v4), some (.int y4.1), some (.int y10.1)]) dX5_drip_153 (by decide) rfl rfl ?_
  refine am_aload_n dX5_drip_154 rfl rfl ?_
  refine am_gr_ dX5_drip_155 fl_X5_9 rfl hf (fun x12 _ hf => ?_)
  refine am_iload_n dX5_drip_158 rfl rfl ?_
  refine am_iload dX5_drip_159 rfl rfl ?_
  refine am_iload_n dX5_drip_161 rfl rfl ?_
  refine am_isub dX5_drip_162 rfl ?_
  refine am_iast dX5_drip_163 rfl hf (fun h13 _ hf => ?_)
  refine am_iinc (ls' := [some (va_rf v0), some (.int v1), some (.int (if (((y10.1 * y4.1) * v1) / (1000 : Int32)) < v4 then (((y10.1 * y4.1) * v1) / (1000 : Int32)) else v4)), some (.int (v3 + (1 : Int32))), some (.int v4), some (.int y4.1), some (.int y10.1)]) dX5_drip_164 rfl rfl (by decide) rfl rfl ?_
  refine am_goto (pc' := 26) dX5_drip_167 (by decide) ?_
  exact am_we (hk26 _ _ _ _ _ _ hf) ⟨Or.inr rfl, Or.inr rfl, Or.inr rfl, Or.inr rfl, Or.inl rfl, Or.inl rfl, Or.inl rfl, trivial⟩
set_option maxRecDepth 20000 in
set_option maxHeartbeats 4000000 in
theorem sfX5_drip_26 {G : am_G}  : ∀ (n : Nat) (v0 : Option Nat) (v1 : Int32) (v2 : Int32) (v3 : Int32) (h : am_H) (y : am_H) (hf : fX5_drip_26  n v0 v1 v2 v3 h = some y), am_S G miX5_drip 26 [some (va_rf v0), some (.int v1), some (.int v2), some (.int v3), none, none, none] [] h none y := by
  intro n
  induction n with
  | zero => intro v0 v1 v2 v3 h y hf; cases hf
  | succ n ih =>
    intro v0 v1 v2 v3 h y hf
    have hf : fX5_drip_26_b  (fX5_drip_26  n) v0 v1 v2 v3 h = some y := hf
    unfold fX5_drip_26_b at hf
    refine am_iload_n dX5_drip_26 rfl rfl ?_
    refine am_aload_n dX5_drip_27 rfl rfl ?_
    refine am_gr_ dX5_drip_28 fl_X5_18 rfl hf (fun x1 _ hf => ?_)
    refine am_gi_ dX5_drip_31 fl_X5_92 rfl hf (fun x2 _ hf => ?_)
    refine am_icmp_ge (tgt := 170) dX5_drip_34 (by decide) rfl hf (fun hf => ?_) (fun hf => ?_)
    · exact am_we (sfX5_drip_170 _ _ _ _ hf) ⟨Or.inr rfl, Or.inl rfl, Or.inr rfl, Or.inl rfl, Or.inl rfl, Or.inl rfl, Or.inl rfl, trivial⟩
    refine am_iload_n dX5_drip_37 rfl rfl ?_
    refine am_iconst (v := 3) dX5_drip_38 rfl rfl ?_
    refine am_icmp_ge (tgt := 170) dX5_drip_39 (by decide) rfl hf (fun hf => ?_) (fun hf => ?_)
    · exact am_we (sfX5_drip_170 _ _ _ _ hf) ⟨Or.inr rfl, Or.inl rfl, Or.inr rfl, Or.inl rfl, Or.inl rfl, Or.inl rfl, Or.inl rfl, trivial⟩
    refine am_aload_n dX5_drip_42 rfl rfl ?_
    refine am_gr_ dX5_drip_43 fl_X5_9 rfl hf (fun x3 _ hf => ?_)
    refine am_iload_n dX5_drip_46 rfl rfl ?_
    refine am_iald dX5_drip_47 rfl hf (fun x4 _ hf => ?_)
    refine am_iload_n dX5_drip_48 rfl rfl ?_
    refine am_iadd dX5_drip_49 rfl ?_
    refine am_istore (ls' := [some (va_rf v0), some (.int v1), some (.int v2), some (.int v3), some (.int (x4 + v2)), none, none]) dX5_drip_50 (by decide) rfl rfl ?_
    refine am_iload dX5_drip_52 rfl rfl ?_
    refine am_aload_n dX5_drip_54 rfl rfl ?_
    refine am_gr_ dX5_drip_55 fl_X5_18 rfl hf (fun x5 _ hf => ?_)
    refine am_gr_ dX5_drip_58 fl_X5_33 rfl hf (fun x6 _ hf => ?_)
    refine am_iload_n dX5_drip_61 rfl rfl ?_
    refine am_iald dX5_drip_62 rfl hf (fun x7 _ hf => ?_)
    refine am_icmp_le (tgt := 98) dX5_drip_63 (by decide) rfl hf (fun hf => ?_) (fun hf => ?_)
    · exact am_we ((sfX5_drip_98 ih) _ _ _ _ _ _ hf) ⟨Or.inr rfl, Or.inr rfl, Or.inl rfl, Or.inr rfl, Or.inr rfl, Or.inl rfl, Or.inl rfl, trivial⟩
    refine am_aload_n dX5_drip_66 rfl rfl ?_
    refine am_dup dX5_drip_67 (am_c1 _) rfl ?_
    refine am_gi_ dX5_drip_68 fl_X5_44 rfl hf (fun x8 _ hf => ?_)
    refine am_iload dX5_drip_71 rfl rfl ?_
    refine am_aload_n dX5_drip_73 rfl rfl ?_
    refine am_gr_ dX5_drip_74 fl_X5_18 rfl hf (fun x9 _ hf => ?_)
    refine am_gr_ dX5_drip_77 fl_X5_33 rfl hf (fun x10 _ hf => ?_)
    refine am_iload_n dX5_drip_80 rfl rfl ?_
    refine am_iald dX5_drip_81 rfl hf (fun x11 _ hf => ?_)
    refine am_isub dX5_drip_82 rfl ?_
    refine am_iadd dX5_drip_83 rfl ?_
    refine am_pi_ dX5_drip_84 fl_X5_44 fp_5_7 (fun z => by cases z) rfl hf (fun h12 _ hf => ?_)
    refine am_aload_n dX5_drip_87 rfl rfl ?_
    refine am_gr_ dX5_drip_88 fl_X5_18 rfl hf (fun x13 _ hf => ?_)
    refine am_gr_ dX5_drip_91 fl_X5_33 rfl hf (fun x14 _ hf => ?_)
    refine am_iload_n dX5_drip_94 rfl rfl ?_
    refine am_iald dX5_drip_95 rfl hf (fun x15 _ hf => ?_)
    refine am_istore (ls' := [some (va_rf v0), some (.int v1), some (.int v2), some (.int v3), some (.int x15), none, none]) dX5_drip_96 (by decide) rfl rfl ?_
    exact am_we ((sfX5_drip_98 ih) _ _ _ _ _ _ hf) ⟨Or.inr rfl, Or.inr rfl, Or.inl rfl, Or.inr rfl, Or.inr rfl, Or.inl rfl, Or.inl rfl, trivial⟩
set_option maxRecDepth 20000 in
set_option maxHeartbeats 4000000 in
theorem sfX5_drip {G : am_G}  (v0 : Nat) (h : am_H) (y : am_H) (hf : fX5_drip v0 h = some y) : am_Cn G miX5_drip [va_rf (some v0)] h none y := by
  refine am_beg (ls := [some (va_rf (some v0)), none, none, none, none, none, none]) (by simp only [am_en, am_e1_r, am_e1_i, am_e1_l, am_e1_n]; rfl) ?_
  unfold fX5_drip at hf
  refine am_aload_n dX5_drip_0 rfl rfl ?_
  refine am_gr_ dX5_drip_1 fl_X5_22 rfl hf (fun x1 _ hf => ?_)
  refine am_aload_n dX5_drip_4 rfl rfl ?_
  refine am_gi_ dX5_drip_5 fl_X5_26 rfl hf (fun x2 _ hf => ?_)
  refine am_aload_n dX5_drip_8 rfl rfl ?_
  refine am_gi_ dX5_drip_9 fl_X5_30 rfl hf (fun x3 _ hf => ?_)
  refine am_cVi (As := [.int x2, .int x3]) (st := []) lk_X5_drip_83 rfl (Nat.le_of_ble_eq_true rfl) (Nat.le_of_ble_eq_true rfl) rfl dX5_drip_12 rfl hf (fun b5 y4 hf => sfX2_warmthOf b5 _ _ _ y4 hf) (fun b5 y4 _ _ hf => ?_)
  refine am_istore_n (ls' := [some (va_rf (some v0)), some (.int y4.1), none, none, none, none, none]) dX5_drip_15 (by decide) (am_s1_r (j := 0) rfl rfl) rfl ?_
  refine am_aload_n dX5_drip_16 rfl rfl ?_
  refine am_gr_ dX5_drip_17 fl_X5_18 rfl hf (fun x6 _ hf => ?_)
  refine am_gi_ dX5_drip_20 fl_X5_89 rfl hf (fun x7 _ hf => ?_)
  refine am_istore_n (ls' := [some (va_rf (some v0)), some (.int y4.1), some (.int x7), none, none, none, none]) dX5_drip_23 (by decide) rfl rfl ?_
  refine am_iconst (v := 0) dX5_drip_24 rfl rfl ?_
  refine am_istore_n (ls' := [some (va_rf (some v0)), some (.int y4.1), some (.int x7), some (.int (0 : Int32)), none, none, none]) dX5_drip_25 (by decide) rfl rfl ?_
  exact (sfX5_drip_26 _) _ _ _ _ _ _ hf
set_option maxRecDepth 20000 in
set_option maxHeartbeats 4000000 in
theorem sfX0_hasVessel {G : am_G}  (v0 : Nat) (v1 : Int32) (h : am_H) (y : Int32 × am_H) (hf : fX0_hasVessel v0 v1 h = some y) : am_Cn G miX0_hasVessel [va_rf (some v0), .int v1] h (some (.int y.1)) y.2 := by
  refine am_beg (ls := [some (va_rf (some v0)), some (.int v1)]) (by simp only [am_en, am_e1_r, am_e1_i, am_e1_l, am_e1_n]; rfl) ?_
  unfold fX0_hasVessel at hf
  refine am_iload_n dX0_hasVessel_0 rfl rfl ?_
  refine am_if_lt (tgt := 21) dX0_hasVessel_1 (by decide) rfl hf (fun hf => ?_) (fun hf => ?_)
  · refine am_iconst (v := 0) dX0_hasVessel_21 rfl rfl ?_
    exact am_zret rfl dX0_hasVessel_22 hf
  refine am_iload_n dX0_hasVessel_4 rfl rfl ?_
  refine am_aload_n dX0_hasVessel_5 rfl rfl ?_
  refine am_gi_ dX0_hasVessel_6 fl_X0_27 rfl hf (fun x1 _ hf => ?_)
  refine am_icmp_ge (tgt := 21) dX0_hasVessel_9 (by decide) rfl hf (fun hf => ?_) (fun hf => ?_)
  · refine am_iconst (v := 0) dX0_hasVessel_21 rfl rfl ?_
    exact am_zret rfl dX0_hasVessel_22 hf
  refine am_iload_n dX0_hasVessel_12 rfl rfl ?_
  refine am_iconst (v := 3) dX0_hasVessel_13 rfl rfl ?_
  refine am_icmp_ge (tgt := 21) dX0_hasVessel_14 (by decide) rfl hf (fun hf => ?_) (fun hf => ?_)
  · refine am_iconst (v := 0) dX0_hasVessel_21 rfl rfl ?_
    exact am_zret rfl dX0_hasVessel_22 hf
  refine am_iconst (v := 1) dX0_hasVessel_17 rfl rfl ?_
  refine am_goto (pc' := 22) dX0_hasVessel_18 (by decide) ?_
  exact am_zret rfl dX0_hasVessel_22 hf
set_option maxRecDepth 20000 in
set_option maxHeartbeats 4000000 in
theorem sfX2_leakAt {G : am_G}  (v0 : Nat) (v1 : Int32) (h : am_H) (y : Int32 × am_H) (hf : fX2_leakAt v0 v1 h = some y) : am_Cn G miX2_leakAt [va_rf (some v0), .int v1] h (some (.int y.1)) y.2 := by
  refine am_beg (ls := [some (va_rf (some v0)), some (.int v1)]) (by simp only [am_en, am_e1_r, am_e1_i, am_e1_l, am_e1_n]; rfl) ?_
  unfold fX2_leakAt at hf
  refine am_aload_n dX2_leakAt_0 rfl rfl ?_
  refine am_gi_ dX2_leakAt_1 fl_X2_9 rfl hf (fun x1 _ hf => ?_)
  refine am_iconst (v := 3) dX2_leakAt_4 rfl rfl ?_
  refine am_icmp_ne (tgt := 23) dX2_leakAt_5 (by decide) rfl hf (fun hf => ?_) (fun hf => ?_)
  · refine am_iconst (v := 0) dX2_leakAt_23 rfl rfl ?_
    exact am_iret rfl dX2_leakAt_24 hf
  refine am_iload_n dX2_leakAt_8 rfl rfl ?_
  refine am_aload_n dX2_leakAt_9 rfl rfl ?_
  refine am_gi_ dX2_leakAt_10 fl_X2_21 rfl hf (fun x2 _ hf => ?_)
  refine am_icmp_lt (tgt := 23) dX2_leakAt_13 (by decide) rfl hf (fun hf => ?_) (fun hf => ?_)
  · refine am_iconst (v := 0) dX2_leakAt_23 rfl rfl ?_
    exact am_iret rfl dX2_leakAt_24 hf
  refine am_aload_n dX2_leakAt_16 rfl rfl ?_
  refine am_gi_ dX2_leakAt_17 fl_X2_18 rfl hf (fun x3 _ hf => ?_)
  refine am_goto (pc' := 24) dX2_leakAt_20 (by decide) ?_
  exact am_iret rfl dX2_leakAt_24 hf
set_option maxRecDepth 20000 in
set_option maxHeartbeats 4000000 in
theorem sfX5_leak {G : am_G}  (v0 : Nat) (h : am_H) (y : am_H) (hf : fX5_leak v0 h = some y) : am_Cn G miX5_leak [va_rf (some v0)] h none y := by
  refine am_beg (ls := [some (va_rf (some v0)), none, none]) (by simp only [am_en, am_e1_r, am_e1_i, am_e1_l, am_e1_n]; rfl) ?_
  unfold fX5_leak at hf
  refine am_aload_n dX5_leak_0 rfl rfl ?_
  refine am_gr_ dX5_leak_1 fl_X5_22 rfl hf (fun x1 _ hf => ?_)
  refine am_gi_ dX5_leak_4 fl_X5_116 rfl hf (fun x2 _ hf => ?_)
  refine am_istore_n (ls' := [some (va_rf (some v0)), some (.int x2), none]) dX5_leak_7 (by decide) (am_s1_r (j := 0) rfl rfl) rfl ?_
  refine am_aload_n dX5_leak_8 rfl rfl ?_
  refine am_gr_ dX5_leak_9 fl_X5_18 rfl hf (fun x3 _ hf => ?_)
  refine am_iload_n dX5_leak_12 rfl rfl ?_
  refine am_cVi (As := [.int x2]) (st := []) lk_X5_leak_119 rfl (Nat.le_of_ble_eq_true rfl) (Nat.le_of_ble_eq_true rfl) rfl dX5_leak_13 rfl hf (fun b5 y4 hf => sfX0_hasVessel b5 _ _ y4 hf) (fun b5 y4 _ _ hf => ?_)
  refine am_if_eq (tgt := 60) dX5_leak_16 (by decide) rfl hf (fun hf => ?_) (fun hf => ?_)
  · exact am_vret rfl dX5_leak_60 hf
  refine am_aload_n dX5_leak_19 rfl rfl ?_
  refine am_gr_ dX5_leak_20 fl_X5_9 rfl hf (fun x6 _ hf => ?_)
  refine am_iload_n dX5_leak_23 rfl rfl ?_
  refine am_iald dX5_leak_24 rfl hf (fun x7 _ hf => ?_)
  refine am_aload_n dX5_leak_25 rfl rfl ?_
  refine am_gr_ dX5_leak_26 fl_X5_22 rfl hf (fun x8 _ hf => ?_)
  refine am_aload_n dX5_leak_29 rfl rfl ?_
  refine am_gi_ dX5_leak_30 fl_X5_30 rfl hf (fun x9 _ hf => ?_)
  refine am_cVi (As := [.int x9]) (st := [.int x7]) lk_X5_leak_123 rfl (Nat.le_of_ble_eq_true rfl) (Nat.le_of_ble_eq_true rfl) rfl dX5_leak_33 rfl hf (fun b11 y10 hf => sfX2_leakAt b11 _ _ y10 hf) (fun b11 y10 _ _ hf => ?_)
  refine am_mmin ml_X5_108 st_min in_Math co_min (by decide) (Nat.le_of_ble_eq_true rfl) dX5_leak_36 rfl ?_
  refine am_istore_n (ls' := [some (va_rf (some v0)), some (.int x2), some (.int (if y10.1 < x7 then y10.1 else x7))]) dX5_leak_39 (by decide) rfl rfl ?_
  refine am_aload_n dX5_leak_40 rfl rfl ?_
  refine am_gr_ dX5_leak_41 fl_X5_9 rfl hf (fun x12 _ hf => ?_)
  refine am_iload_n dX5_leak_44 rfl rfl ?_
  refine am_dup2 dX5_leak_45 (rfl) (am_c1 _) rfl ?_
  refine am_iald dX5_leak_46 rfl hf (fun x13 _ hf => ?_)
  refine am_iload_n dX5_leak_47 rfl rfl ?_
  refine am_isub dX5_leak_48 rfl ?_
  refine am_iast dX5_leak_49 rfl hf (fun h14 _ hf => ?_)
  refine am_aload_n dX5_leak_50 rfl rfl ?_
  refine am_dup dX5_leak_51 (am_c1 _) rfl ?_
  refine am_gi_ dX5_leak_52 fl_X5_47 rfl hf (fun x15 _ hf => ?_)
  refine am_iload_n dX5_leak_55 rfl rfl ?_
  refine am_iadd dX5_leak_56 rfl ?_
  refine am_pi_ dX5_leak_57 fl_X5_47 fp_5_8 (fun z => by cases z) rfl hf (fun h16 _ hf => ?_)
  exact am_vret rfl dX5_leak_60 hf
set_option maxRecDepth 20000 in
set_option maxHeartbeats 4000000 in
theorem sfX5_dropBalls_20 {G : am_G}  : ∀ (n : Nat) (v0 : Option Nat) (v1 : Int32) (v2 : Int32) (h : am_H) (y : am_H) (hf : fX5_dropBalls_20  n v0 v1 v2 h = some y), am_S G miX5_dropBalls 20 [some (va_rf v0), some (.int v1), some (.int v2)] [] h none y := by
  intro n
  induction n with
  | zero => intro v0 v1 v2 h y hf; cases hf
  | succ n ih =>
    intro v0 v1 v2 h y hf
    have hf : fX5_dropBalls_20_b  (fX5_dropBalls_20  n) v0 v1 v2 h = some y := hf
    unfold fX5_dropBalls_20_b at hf
    refine am_iload_n dX5_dropBalls_20 rfl rfl ?_
    refine am_aload_n dX5_dropBalls_21 rfl rfl ?_
    refine am_gr_ dX5_dropBalls_22 fl_X5_18 rfl hf (fun x1 _ hf => ?_)
    refine am_gi_ dX5_dropBalls_25 fl_X5_130 rfl hf (fun x2 _ hf => ?_)
    refine am_icmp_ge (tgt := 77) dX5_dropBalls_28 (by decide) rfl hf (fun hf => ?_) (fun hf => ?_)
    · exact am_vret rfl dX5_dropBalls_77 hf
    refine am_iload_n dX5_dropBalls_31 rfl rfl ?_
    refine am_bipush (v := 12) dX5_dropBalls_32 (by decide) rfl ?_
    refine am_icmp_ge (tgt := 77) dX5_dropBalls_34 (by decide) rfl hf (fun hf => ?_) (fun hf => ?_)
    · exact am_vret rfl dX5_dropBalls_77 hf
    refine am_aload_n dX5_dropBalls_37 rfl rfl ?_
    refine am_gr_ dX5_dropBalls_38 fl_X5_18 rfl hf (fun x3 _ hf => ?_)
    refine am_gr_ dX5_dropBalls_41 fl_X5_133 rfl hf (fun x4 _ hf => ?_)
    refine am_iload_n dX5_dropBalls_44 rfl rfl ?_
    refine am_iald dX5_dropBalls_45 rfl hf (fun x5 _ hf => ?_)
    refine am_iload_n dX5_dropBalls_46 rfl rfl ?_
    refine am_icmp_le (tgt := 51) dX5_dropBalls_47 (by decide) rfl hf (fun hf => ?_) (fun hf => ?_)
    · refine am_aload_n dX5_dropBalls_51 rfl rfl ?_
      refine am_gr_ dX5_dropBalls_52 fl_X5_15 rfl hf (fun x6 _ hf => ?_)
      refine am_iload_n dX5_dropBalls_55 rfl rfl ?_
      refine am_aload_n dX5_dropBalls_56 rfl rfl ?_
      refine am_gi_ dX5_dropBalls_57 fl_X5_30 rfl hf (fun x7 _ hf => ?_)
      refine am_iast dX5_dropBalls_60 rfl hf (fun h8 _ hf => ?_)
      refine am_aload_n dX5_dropBalls_61 rfl rfl ?_
      refine am_dup dX5_dropBalls_62 (am_c1 _) rfl ?_
      refine am_gi_ dX5_dropBalls_63 fl_X5_53 rfl hf (fun x9 _ hf => ?_)
      refine am_iconst (v := 1) dX5_dropBalls_66 rfl rfl ?_
      refine am_iadd dX5_dropBalls_67 rfl ?_
      refine am_pi_ dX5_dropBalls_68 fl_X5_53 fp_5_10 (fun z => by cases z) rfl hf (fun h10 _ hf => ?_)
      refine am_iinc (ls' := [some (va_rf v0), some (.int v1), some (.int (v2 + (1 : Int32)))]) dX5_dropBalls_71 rfl rfl (by decide) rfl rfl ?_
      refine am_goto (pc' := 20) dX5_dropBalls_74 (by decide) ?_
      exact ih _ _ _ _ _ hf
    exact am_vret rfl dX5_dropBalls_50 hf
set_option maxRecDepth 20000 in
set_option maxHeartbeats 4000000 in
theorem sfX5_dropBalls {G : am_G}  (v0 : Nat) (h : am_H) (y : am_H) (hf : fX5_dropBalls v0 h = some y) : am_Cn G miX5_dropBalls [va_rf (some v0)] h none y := by
  refine am_beg (ls := [some (va_rf (some v0)), none, none]) (by simp only [am_en, am_e1_r, am_e1_i, am_e1_l, am_e1_n]; rfl) ?_
  unfold fX5_dropBalls at hf
  refine am_aload_n dX5_dropBalls_0 rfl rfl ?_
  refine am_gi_ dX5_dropBalls_1 fl_X5_38 rfl hf (fun x1 _ hf => ?_)
  refine am_aload_n dX5_dropBalls_4 rfl rfl ?_
  refine am_gr_ dX5_dropBalls_5 fl_X5_18 rfl hf (fun x2 _ hf => ?_)
  refine am_gi_ dX5_dropBalls_8 fl_X5_127 rfl hf (fun x3 _ hf => ?_)
  refine am_cTi (As := [.int x1, .int x3]) (st := []) lk_X5_dropBalls_98 rfl (Nat.le_of_ble_eq_true rfl) (Nat.le_of_ble_eq_true rfl) rfl dX5_dropBalls_11 rfl hf (fun y4 hf => sfX8_quotient _ _ _ y4 hf) (fun y4 _ hf => ?_)
  refine am_istore_n (ls' := [some (va_rf (some v0)), some (.int y4.1), none]) dX5_dropBalls_14 (by decide) (am_s1_r (j := 0) rfl rfl) rfl ?_
  refine am_aload_n dX5_dropBalls_15 rfl rfl ?_
  refine am_gi_ dX5_dropBalls_16 fl_X5_53 rfl hf (fun x5 _ hf => ?_)
  refine am_istore_n (ls' := [some (va_rf (some v0)), some (.int y4.1), some (.int x5)]) dX5_dropBalls_19 (by decide) rfl rfl ?_
  exact (sfX5_dropBalls_20 _) _ _ _ _ _ hf
set_option maxRecDepth 20000 in
set_option maxHeartbeats 4000000 in
theorem sfX5_siphon {G : am_G}  (v0 : Nat) (h : am_H) (y : am_H) (hf : fX5_siphon v0 h = some y) : am_Cn G miX5_siphon [va_rf (some v0)] h none y := by
  refine am_beg (ls := [some (va_rf (some v0)), none]) (by simp only [am_en, am_e1_r, am_e1_i, am_e1_l, am_e1_n]; rfl) ?_
  unfold fX5_siphon at hf
  refine am_aload_n dX5_siphon_0 rfl rfl ?_
  refine am_gi_ dX5_siphon_1 fl_X5_38 rfl hf (fun x1 _ hf => ?_)
  refine am_aload_n dX5_siphon_4 rfl rfl ?_
  refine am_gr_ dX5_siphon_5 fl_X5_18 rfl hf (fun x2 _ hf => ?_)
  refine am_gi_ dX5_siphon_8 fl_X5_127 rfl hf (fun x3 _ hf => ?_)
  refine am_cTi (As := [.int x1, .int x3]) (st := []) lk_X5_siphon_98 rfl (Nat.le_of_ble_eq_true rfl) (Nat.le_of_ble_eq_true rfl) rfl dX5_siphon_11 rfl hf (fun y4 hf => sfX8_quotient _ _ _ y4 hf) (fun y4 _ hf => ?_)
  refine am_istore_n (ls' := [some (va_rf (some v0)), some (.int y4.1)]) dX5_siphon_14 (by decide) (am_s1_r (j := 0) rfl rfl) rfl ?_
  refine am_iload_n dX5_siphon_15 rfl rfl ?_
  refine am_aload_n dX5_siphon_16 rfl rfl ?_
  refine am_gr_ dX5_siphon_17 fl_X5_18 rfl hf (fun x5 _ hf => ?_)
  refine am_gi_ dX5_siphon_20 fl_X5_136 rfl hf (fun x6 _ hf => ?_)
  refine am_icmp_lt (tgt := 55) dX5_siphon_23 (by decide) rfl hf (fun hf => ?_) (fun hf => ?_)
  · exact am_vret rfl dX5_siphon_55 hf
  refine am_aload_n dX5_siphon_26 rfl rfl ?_
  refine am_gi_ dX5_siphon_27 fl_X5_53 rfl hf (fun x7 _ hf => ?_)
  refine am_aload_n dX5_siphon_30 rfl rfl ?_
  refine am_gr_ dX5_siphon_31 fl_X5_18 rfl hf (fun x8 _ hf => ?_)
  refine am_gi_ dX5_siphon_34 fl_X5_130 rfl hf (fun x9 _ hf => ?_)
  refine am_icmp_lt (tgt := 55) dX5_siphon_37 (by decide) rfl hf (fun hf => ?_) (fun hf => ?_)
  · exact am_vret rfl dX5_siphon_55 hf
  refine am_aload_n dX5_siphon_40 rfl rfl ?_
  refine am_iconst (v := 0) dX5_siphon_41 rfl rfl ?_
  refine am_pi_ dX5_siphon_42 fl_X5_38 fp_5_5 (fun z => by cases z) rfl hf (fun h10 _ hf => ?_)
  refine am_aload_n dX5_siphon_45 rfl rfl ?_
  refine am_dup dX5_siphon_46 (am_c1 _) rfl ?_
  refine am_gi_ dX5_siphon_47 fl_X5_50 rfl hf (fun x11 _ hf => ?_)
  refine am_iconst (v := 1) dX5_siphon_50 rfl rfl ?_
  refine am_iadd dX5_siphon_51 rfl ?_
  refine am_pi_ dX5_siphon_52 fl_X5_50 fp_5_9 (fun z => by cases z) rfl hf (fun h12 _ hf => ?_)
  exact am_vret rfl dX5_siphon_55 hf
set_option maxRecDepth 20000 in
set_option maxHeartbeats 4000000 in
theorem sfX5_advance {G : am_G}  (v0 : Nat) (h : am_H) (y : am_H) (hf : fX5_advance v0 h = some y) : am_Cn G miX5_advance [va_rf (some v0)] h none y := by
  refine am_beg (ls := [some (va_rf (some v0))]) (by simp only [am_en, am_e1_r, am_e1_i, am_e1_l, am_e1_n]; rfl) ?_
  unfold fX5_advance at hf
  refine am_aload_n dX5_advance_0 rfl rfl ?_
  refine am_cVv (As := []) (st := []) lk_X5_advance_71 rfl (Nat.le_of_ble_eq_true rfl) (Nat.le_of_ble_eq_true rfl) rfl dX5_advance_1 rfl hf (fun b2 y1 hf => sfX5_drip b2  _ y1 hf) (fun b2 y1 _ _ hf => ?_)
  refine am_aload_n dX5_advance_4 rfl rfl ?_
  refine am_cVv (As := []) (st := []) lk_X5_advance_74 rfl (Nat.le_of_ble_eq_true rfl) (Nat.le_of_ble_eq_true rfl) rfl dX5_advance_5 rfl hf (fun b4 y3 hf => sfX5_leak b4  _ y3 hf) (fun b4 y3 _ _ hf => ?_)
  refine am_aload_n dX5_advance_8 rfl rfl ?_
  refine am_cVv (As := []) (st := []) lk_X5_advance_77 rfl (Nat.le_of_ble_eq_true rfl) (Nat.le_of_ble_eq_true rfl) rfl dX5_advance_9 rfl hf (fun b6 y5 hf => sfX5_dropBalls b6  _ y5 hf) (fun b6 y5 _ _ hf => ?_)
  refine am_aload_n dX5_advance_12 rfl rfl ?_
  refine am_cVv (As := []) (st := []) lk_X5_advance_80 rfl (Nat.le_of_ble_eq_true rfl) (Nat.le_of_ble_eq_true rfl) rfl dX5_advance_13 rfl hf (fun b8 y7 hf => sfX5_siphon b8  _ y7 hf) (fun b8 y7 _ _ hf => ?_)
  refine am_aload_n dX5_advance_16 rfl rfl ?_
  refine am_dup dX5_advance_17 (am_c1 _) rfl ?_
  refine am_gi_ dX5_advance_18 fl_X5_30 rfl hf (fun x9 _ hf => ?_)
  refine am_iconst (v := 1) dX5_advance_21 rfl rfl ?_
  refine am_iadd dX5_advance_22 rfl ?_
  refine am_pi_ dX5_advance_23 fl_X5_30 fp_5_3 (fun z => by cases z) rfl hf (fun h10 _ hf => ?_)
  exact am_vret rfl dX5_advance_26 hf
set_option maxRecDepth 20000 in
set_option maxHeartbeats 4000000 in
theorem sfX5_goOnTo_5 {G : am_G}  : ∀ (n : Nat) (v0 : Option Nat) (v1 : Int32) (v2 : Int32) (h : am_H) (y : am_H) (hf : fX5_goOnTo_5  n v0 v1 v2 h = some y), am_S G miX5_goOnTo 5 [some (va_rf v0), some (.int v1), some (.int v2)] [] h none y := by
  intro n
  induction n with
  | zero => intro v0 v1 v2 h y hf; cases hf
  | succ n ih =>
    intro v0 v1 v2 h y hf
    have hf : fX5_goOnTo_5_b  (fX5_goOnTo_5  n) v0 v1 v2 h = some y := hf
    unfold fX5_goOnTo_5_b at hf
    refine am_iload_n dX5_goOnTo_5 rfl rfl ?_
    refine am_iload_n dX5_goOnTo_6 rfl rfl ?_
    refine am_icmp_ge (tgt := 20) dX5_goOnTo_7 (by decide) rfl hf (fun hf => ?_) (fun hf => ?_)
    · exact am_vret rfl dX5_goOnTo_20 hf
    refine am_aload_n dX5_goOnTo_10 rfl rfl ?_
    refine am_cVv (As := []) (st := []) lk_X5_goOnTo_68 rfl (Nat.le_of_ble_eq_true rfl) (Nat.le_of_ble_eq_true rfl) rfl dX5_goOnTo_11 rfl hf (fun b2 y1 hf => sfX5_advance b2  _ y1 hf) (fun b2 y1 _ _ hf => ?_)
    refine am_iinc (ls' := [some (va_rf v0), some (.int v1), some (.int (v2 + (1 : Int32)))]) dX5_goOnTo_14 rfl rfl (by decide) rfl rfl ?_
    refine am_goto (pc' := 5) dX5_goOnTo_17 (by decide) ?_
    exact ih _ _ _ _ _ hf
set_option maxRecDepth 20000 in
set_option maxHeartbeats 4000000 in
theorem sfX5_goOnTo {G : am_G}  (v0 : Nat) (v1 : Int32) (h : am_H) (y : am_H) (hf : fX5_goOnTo v0 v1 h = some y) : am_Cn G miX5_goOnTo [va_rf (some v0), .int v1] h none y := by
  refine am_beg (ls := [some (va_rf (some v0)), some (.int v1), none]) (by simp only [am_en, am_e1_r, am_e1_i, am_e1_l, am_e1_n]; rfl) ?_
  unfold fX5_goOnTo at hf
  refine am_aload_n dX5_goOnTo_0 rfl rfl ?_
  refine am_gi_ dX5_goOnTo_1 fl_X5_30 rfl hf (fun x1 _ hf => ?_)
  refine am_istore_n (ls' := [some (va_rf (some v0)), some (.int v1), some (.int x1)]) dX5_goOnTo_4 (by decide) rfl rfl ?_
  exact (sfX5_goOnTo_5 _) _ _ _ _ _ hf
set_option maxRecDepth 20000 in
set_option maxHeartbeats 4000000 in
theorem sfX5_measure {G : am_G}  (v0 : Nat) (v1 : Int32) (h : am_H) (y : Int32 × am_H) (hf : fX5_measure v0 v1 h = some y) : am_Cn G miX5_measure [va_rf (some v0), .int v1] h (some (.int y.1)) y.2 := by
  refine am_beg (ls := [some (va_rf (some v0)), some (.int v1)]) (by simp only [am_en, am_e1_r, am_e1_i, am_e1_l, am_e1_n]; rfl) ?_
  unfold fX5_measure at hf
  refine am_iload_n dX5_measure_0 rfl rfl ?_
  refine am_tsw (d := 61) (l := [(3, 36), (4, 41), (5, 46), (6, 51), (7, 56)]) dX5_measure_1 (by decide) (by decide) (by decide) ?_
  refine am_swc hf (fun hf => ?_) (fun hf => ?_)
  · refine am_aload_n dX5_measure_36 rfl rfl ?_
    refine am_gi_ dX5_measure_37 fl_X5_38 rfl hf (fun x1 _ hf => ?_)
    exact am_iret rfl dX5_measure_40 hf
  refine am_swc hf (fun hf => ?_) (fun hf => ?_)
  · refine am_aload_n dX5_measure_41 rfl rfl ?_
    refine am_gi_ dX5_measure_42 fl_X5_53 rfl hf (fun x2 _ hf => ?_)
    exact am_iret rfl dX5_measure_45 hf
  refine am_swc hf (fun hf => ?_) (fun hf => ?_)
  · refine am_aload_n dX5_measure_46 rfl rfl ?_
    refine am_gi_ dX5_measure_47 fl_X5_44 rfl hf (fun x3 _ hf => ?_)
    exact am_iret rfl dX5_measure_50 hf
  refine am_swc hf (fun hf => ?_) (fun hf => ?_)
  · refine am_aload_n dX5_measure_51 rfl rfl ?_
    refine am_gi_ dX5_measure_52 fl_X5_47 rfl hf (fun x4 _ hf => ?_)
    exact am_iret rfl dX5_measure_55 hf
  refine am_swc hf (fun hf => ?_) (fun hf => ?_)
  · refine am_aload_n dX5_measure_56 rfl rfl ?_
    refine am_gi_ dX5_measure_57 fl_X5_50 rfl hf (fun x5 _ hf => ?_)
    exact am_iret rfl dX5_measure_60 hf
  show am_S _ _ 61 _ _ _ _ _
  refine am_aload_n dX5_measure_61 rfl rfl ?_
  refine am_gr_ dX5_measure_62 fl_X5_18 rfl hf (fun x6 _ hf => ?_)
  refine am_iload_n dX5_measure_65 rfl rfl ?_
  refine am_cVi (As := [.int v1]) (st := []) lk_X5_measure_119 rfl (Nat.le_of_ble_eq_true rfl) (Nat.le_of_ble_eq_true rfl) rfl dX5_measure_66 rfl hf (fun b8 y7 hf => sfX0_hasVessel b8 _ _ y7 hf) (fun b8 y7 _ _ hf => ?_)
  refine am_if_eq (tgt := 81) dX5_measure_69 (by decide) rfl hf (fun hf => ?_) (fun hf => ?_)
  · refine am_iconst (v := -1) dX5_measure_81 rfl rfl ?_
    exact am_iret rfl dX5_measure_82 hf
  refine am_aload_n dX5_measure_72 rfl rfl ?_
  refine am_gr_ dX5_measure_73 fl_X5_9 rfl hf (fun x9 _ hf => ?_)
  refine am_iload_n dX5_measure_76 rfl rfl ?_
  refine am_iald dX5_measure_77 rfl hf (fun x10 _ hf => ?_)
  refine am_goto (pc' := 82) dX5_measure_78 (by decide) ?_
  exact am_iret rfl dX5_measure_82 hf
set_option maxRecDepth 20000 in
set_option maxHeartbeats 4000000 in
theorem sfX8_at {G : am_G}  (v0 : Nat) (v1 : Int32) (v2 : Int32) (v3 : Int32) (v4 : Int32) (v5 : Int32) (h : am_H) (y : Int32 × am_H) (hf : fX8_at v0 v1 v2 v3 v4 v5 h = some y) : am_Cn G miX8_at [va_rf (some v0), .int v1, .int v2, .int v3, .int v4, .int v5] h (some (.int y.1)) y.2 := by
  refine am_beg (ls := [some (va_rf (some v0)), some (.int v1), some (.int v2), some (.int v3), some (.int v4), some (.int v5)]) (by simp only [am_en, am_e1_r, am_e1_i, am_e1_l, am_e1_n]; rfl) ?_
  unfold fX8_at at hf
  refine am_aload_n dX8_at_0 rfl rfl ?_
  refine am_iload_n dX8_at_1 rfl rfl ?_
  refine am_iload_n dX8_at_2 rfl rfl ?_
  refine am_iload_n dX8_at_3 rfl rfl ?_
  refine am_cVi (As := [.int v1, .int v2, .int v3]) (st := []) lk_X8_at_200 rfl (Nat.le_of_ble_eq_true rfl) (Nat.le_of_ble_eq_true rfl) rfl dX8_at_4 rfl hf (fun b2 y1 hf => sfX8_startRun b2 _ _ _ _ y1 hf) (fun b2 y1 _ _ hf => ?_)
  refine am_if_ne (tgt := 13) dX8_at_7 (by decide) rfl hf (fun hf => ?_) (fun hf => ?_)
  · refine am_iload dX8_at_13 rfl rfl ?_
    refine am_cSi (As := [.int v4]) (st := []) lk_X8_at_153 rfl (Nat.le_of_ble_eq_true rfl) (Nat.le_of_ble_eq_true rfl) rfl dX8_at_15 rfl hf (fun y3 hf => sfX8_isTick _ _ y3 hf) (fun y3 _ hf => ?_)
    refine am_if_eq (tgt := 32) dX8_at_18 (by decide) rfl hf (fun hf => ?_) (fun hf => ?_)
    · refine am_bipush (v := -102) dX8_at_32 (by decide) rfl ?_
      exact am_iret rfl dX8_at_34 hf
    refine am_iload dX8_at_21 rfl rfl ?_
    refine am_iconst (v := 0) dX8_at_23 rfl rfl ?_
    refine am_bipush (v := 7) dX8_at_24 (by decide) rfl ?_
    refine am_cSi (As := [.int v5, .int (0 : Int32), .int (7 : Int32)]) (st := []) lk_X8_at_121 rfl (Nat.le_of_ble_eq_true rfl) (Nat.le_of_ble_eq_true rfl) rfl dX8_at_26 rfl hf (fun y4 hf => sfX8_isIn _ _ _ _ y4 hf) (fun y4 _ hf => ?_)
    refine am_if_ne (tgt := 35) dX8_at_29 (by decide) rfl hf (fun hf => ?_) (fun hf => ?_)
    · refine am_aload_n dX8_at_35 rfl rfl ?_
      refine am_gr_ dX8_at_36 fl_X8_62 rfl hf (fun x5 _ hf => ?_)
      refine am_iload dX8_at_39 rfl rfl ?_
      refine am_iconst (v := 1) dX8_at_41 rfl rfl ?_
      refine am_iadd dX8_at_42 rfl ?_
      refine am_cVv (As := [.int (v4 + (1 : Int32))]) (st := []) lk_X8_at_209 rfl (Nat.le_of_ble_eq_true rfl) (Nat.le_of_ble_eq_true rfl) rfl dX8_at_43 rfl hf (fun b7 y6 hf => sfX5_goOnTo b7 _ _ y6 hf) (fun b7 y6 _ _ hf => ?_)
      refine am_aload_n dX8_at_46 rfl rfl ?_
      refine am_gr_ dX8_at_47 fl_X8_62 rfl hf (fun x8 _ hf => ?_)
      refine am_iload dX8_at_50 rfl rfl ?_
      refine am_cVi (As := [.int v5]) (st := []) lk_X8_at_222 rfl (Nat.le_of_ble_eq_true rfl) (Nat.le_of_ble_eq_true rfl) rfl dX8_at_52 rfl hf (fun b10 y9 hf => sfX5_measure b10 _ _ y9 hf) (fun b10 y9 _ _ hf => ?_)
      exact am_iret rfl dX8_at_55 hf
    refine am_bipush (v := -102) dX8_at_32 (by decide) rfl ?_
    exact am_iret rfl dX8_at_34 hf
  refine am_bipush (v := -101) dX8_at_10 (by decide) rfl ?_
  exact am_iret rfl dX8_at_12 hf
