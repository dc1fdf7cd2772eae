/-! printed proofs of the printed functions, 7 -/
set_option maxRecDepth 20000 in
set_option maxHeartbeats 4000000 in
theorem sfX9_tick_40 {G : am_G}  (v0 : Option Nat) (v1 : Int32) (v3 : Int32) (s0 : Int32) (s1 : Int32) (h : am_H) (y : am_H) (hf : fX9_tick_40  v0 v1 v3 s0 s1 h = some y) : am_S G miX9_tick 40 [some (va_rf v0), some (.int v1), none, some (.int v3), none, none, none, none] [.int s1, .int s0] h none y := by
  unfold fX9_tick_40 at hf
  refine am_isub dX9_tick_40 rfl ?_
  refine am_istore (ls' := [some (va_rf v0), some (.int v1), none, some (.int v3), some (.int (s0 - s1)), none, none, none]) dX9_tick_41 (by decide) rfl rfl ?_
  refine am_iconst (v := 0) dX9_tick_43 rfl rfl ?_
  refine am_istore (ls' := [some (va_rf v0), some (.int v1), none, some (.int v3), some (.int (s0 - s1)), some (.int (0 : Int32)), none, none]) dX9_tick_44 (by decide) rfl rfl ?_
  refine am_iconst (v := 0) dX9_tick_46 rfl rfl ?_
  refine am_istore (ls' := [some (va_rf v0), some (.int v1), none, some (.int v3), some (.int (s0 - s1)), some (.int (0 : Int32)), some (.int (0 : Int32)), none]) dX9_tick_47 (by decide) rfl rfl ?_
  exact (sfX9_tick_49 _) _ _ _ _ _ _ _ _ hf
set_option maxRecDepth 20000 in
set_option maxHeartbeats 4000000 in
theorem sfX9_tick_39 {G : am_G}  {k40 : Option Nat → Int32 → Int32 → Int32 → Int32 → am_H → Option (am_H)} (hk40 : ∀ (v0 : Option Nat) (v1 : Int32) (v3 : Int32) (s0 : Int32) (s1 : Int32) (h : am_H) (y : am_H), k40 v0 v1 v3 s0 s1 h = some y → am_S G miX9_tick 40 [some (va_rf v0), some (.int v1), none, some (.int v3), none, none, none, none] [.int s1, .int s0] h none y) (v0 : Option Nat) (v1 : Int32) (v3 : Int32) (s0 : Int32) (h : am_H) (y : am_H) (hf : fX9_tick_39 k40 v0 v1 v3 s0 h = some y) : am_S G miX9_tick 39 [some (va_rf v0), some (.int v1), none, some (.int v3), none, none, none, none] [.int s0] h none y := by
  unfold fX9_tick_39 at hf
  refine am_iconst (v := 0) dX9_tick_39 rfl rfl ?_
  exact hk40 _ _ _ _ _ _ _ hf
set_option maxRecDepth 20000 in
set_option maxHeartbeats 4000000 in
theorem sfX9_tick {G : am_G}  (v0 : Nat) (v1 : Int32) (v2 : Int32) (v3 : Int32) (h : am_H) (y : am_H) (hf : fX9_tick v0 v1 v2 v3 h = some y) : am_Cn G miX9_tick [va_rf (some v0), .int v1, .int v2, .int v3] h none y := by
  refine am_beg (ls := [some (va_rf (some v0)), some (.int v1), some (.int v2), some (.int v3), none, none, none, none]) (by simp only [am_en, am_e1_r, am_e1_i, am_e1_l, am_e1_n]; rfl) ?_
  unfold fX9_tick at hf
  refine am_aload_n dX9_tick_0 rfl rfl ?_
  refine am_iload_n dX9_tick_1 rfl rfl ?_
  refine am_iconst (v := 0) dX9_tick_2 rfl rfl ?_
  refine am_aload_n dX9_tick_3 rfl rfl ?_
  refine am_gi_ dX9_tick_4 fl_X9_218 rfl hf (fun x1 _ hf => ?_)
  refine am_cVv (As := [.int v1, .int (0 : Int32), .int x1]) (st := []) lk_X9_tick_242 rfl (Nat.le_of_ble_eq_true rfl) (Nat.le_of_ble_eq_true rfl) rfl dX9_tick_7 rfl hf (fun b3 y2 hf => sfX9_come b3 _ _ _ _ y2 hf) (fun b3 y2 _ _ hf => ?_)
  refine am_aload_n dX9_tick_10 rfl rfl ?_
  refine am_gr_ dX9_tick_11 fl_X9_37 rfl hf (fun x4 _ hf => ?_)
  refine am_iload_n dX9_tick_14 rfl rfl ?_
  refine am_iald dX9_tick_15 rfl hf (fun x5 _ hf => ?_)
  refine am_aload_n dX9_tick_16 rfl rfl ?_
  refine am_gi_ dX9_tick_17 fl_X9_224 rfl hf (fun x6 _ hf => ?_)
  refine am_iconst (v := 4) dX9_tick_20 rfl rfl ?_
  refine am_icmp_ne (tgt := 39) dX9_tick_21 (by decide) rfl hf (fun hf => ?_) (fun hf => ?_)
  · exact am_we ((sfX9_tick_39 sfX9_tick_40) _ _ _ _ _ _ hf) ⟨Or.inr rfl, Or.inr rfl, Or.inl rfl, Or.inr rfl, Or.inl rfl, Or.inl rfl, Or.inl rfl, Or.inl rfl, trivial⟩
  refine am_iload_n dX9_tick_24 rfl rfl ?_
  refine am_aload_n dX9_tick_25 rfl rfl ?_
  refine am_gi_ dX9_tick_26 fl_X9_233 rfl hf (fun x7 _ hf => ?_)
  refine am_icmp_lt (tgt := 39) dX9_tick_29 (by decide) rfl hf (fun hf => ?_) (fun hf => ?_)
  · exact am_we ((sfX9_tick_39 sfX9_tick_40) _ _ _ _ _ _ hf) ⟨Or.inr rfl, Or.inr rfl, Or.inl rfl, Or.inr rfl, Or.inl rfl, Or.inl rfl, Or.inl rfl, Or.inl rfl, trivial⟩
  refine am_aload_n dX9_tick_32 rfl rfl ?_
  refine am_gi_ dX9_tick_33 fl_X9_230 rfl hf (fun x8 _ hf => ?_)
  refine am_goto (pc' := 40) dX9_tick_36 (by decide) ?_
  exact am_we (sfX9_tick_40 _ _ _ _ _ _ _ hf) ⟨Or.inr rfl, Or.inr rfl, Or.inl rfl, Or.inr rfl, Or.inl rfl, Or.inl rfl, Or.inl rfl, Or.inl rfl, trivial⟩
set_option maxRecDepth 20000 in
set_option maxHeartbeats 4000000 in
theorem sfX9_run_103 {G : am_G}  : ∀ (n : Nat) (v0 : Option Nat) (v1 : Int32) (v2 : Int32) (v3 : Int32) (v4 : Int32) (h : am_H) (y : am_H) (hf : fX9_run_103  n v0 v1 v2 v3 v4 h = some y), am_S G miX9_run 103 [some (va_rf v0), some (.int v1), some (.int v2), some (.int v3), some (.int v4)] [] h none y := by
  intro n
  induction n with
  | zero => intro v0 v1 v2 v3 v4 h y hf; cases hf
  | succ n ih =>
    intro v0 v1 v2 v3 v4 h y hf
    have hf : fX9_run_103_b  (fX9_run_103  n) v0 v1 v2 v3 v4 h = some y := hf
    unfold fX9_run_103_b at hf
    refine am_iload dX9_run_103 rfl rfl ?_
    refine am_iload_n dX9_run_105 rfl rfl ?_
    refine am_icmp_gt (tgt := 123) dX9_run_106 (by decide) rfl hf (fun hf => ?_) (fun hf => ?_)
    · exact am_vret rfl dX9_run_123 hf
    refine am_aload_n dX9_run_109 rfl rfl ?_
    refine am_iload_n dX9_run_110 rfl rfl ?_
    refine am_iload_n dX9_run_111 rfl rfl ?_
    refine am_iload dX9_run_112 rfl rfl ?_
    refine am_cVv (As := [.int v1, .int v2, .int v4]) (st := []) lk_X9_run_267 rfl (Nat.le_of_ble_eq_true rfl) (Nat.le_of_ble_eq_true rfl) rfl dX9_run_114 rfl hf (fun b2 y1 hf => sfX9_tick b2 _ _ _ _ y1 hf) (fun b2 y1 _ _ hf => ?_)
    refine am_iinc (ls' := [some (va_rf v0), some (.int v1), some (.int v2), some (.int v3), some (.int (v4 + (1 : Int32)))]) dX9_run_117 rfl rfl (by decide) rfl rfl ?_
    refine am_goto (pc' := 103) dX9_run_120 (by decide) ?_
    exact ih _ _ _ _ _ _ _ hf
set_option maxRecDepth 20000 in
set_option maxHeartbeats 4000000 in
theorem sfX9_run_78 {G : am_G}  : ∀ (n : Nat) (v0 : Option Nat) (v1 : Int32) (v2 : Int32) (v3 : Int32) (v4 : Int32) (h : am_H) (y : am_H) (hf : fX9_run_78  n v0 v1 v2 v3 v4 h = some y), am_S G miX9_run 78 [some (va_rf v0), some (.int v1), some (.int v2), some (.int v3), some (.int v4)] [] h none y := by
  intro n
  induction n with
  | zero => intro v0 v1 v2 v3 v4 h y hf; cases hf
  | succ n ih =>
    intro v0 v1 v2 v3 v4 h y hf
    have hf : fX9_run_78_b  (fX9_run_78  n) v0 v1 v2 v3 v4 h = some y := hf
    unfold fX9_run_78_b at hf
    refine am_iload dX9_run_78 rfl rfl ?_
    refine am_bipush (v := 12) dX9_run_80 (by decide) rfl ?_
    refine am_icmp_ge (tgt := 100) dX9_run_82 (by decide) rfl hf (fun hf => ?_) (fun hf => ?_)
    · refine am_iconst (v := 0) dX9_run_100 rfl rfl ?_
      refine am_istore (ls' := [some (va_rf v0), some (.int v1), some (.int v2), some (.int v3), some (.int (0 : Int32))]) dX9_run_101 (by decide) rfl rfl ?_
      exact (sfX9_run_103 _) _ _ _ _ _ _ _ hf
    refine am_aload_n dX9_run_85 rfl rfl ?_
    refine am_gr_ dX9_run_86 fl_X9_102 rfl hf (fun x1 _ hf => ?_)
    refine am_iload dX9_run_89 rfl rfl ?_
    refine am_bipush (v := 96) dX9_run_91 (by decide) rfl ?_
    refine am_iast dX9_run_93 rfl hf (fun h2 _ hf => ?_)
    refine am_iinc (ls' := [some (va_rf v0), some (.int v1), some (.int v2), some (.int v3), some (.int (v4 + (1 : Int32)))]) dX9_run_94 rfl rfl (by decide) rfl rfl ?_
    refine am_goto (pc' := 78) dX9_run_97 (by decide) ?_
    exact ih _ _ _ _ _ _ _ hf
set_option maxRecDepth 20000 in
set_option maxHeartbeats 4000000 in
theorem sfX9_run_3 {G : am_G}  : ∀ (n : Nat) (v0 : Option Nat) (v1 : Int32) (v2 : Int32) (v3 : Int32) (v4 : Int32) (h : am_H) (y : am_H) (hf : fX9_run_3  n v0 v1 v2 v3 v4 h = some y), am_S G miX9_run 3 [some (va_rf v0), some (.int v1), some (.int v2), some (.int v3), some (.int v4)] [] h none y := by
  intro n
  induction n with
  | zero => intro v0 v1 v2 v3 v4 h y hf; cases hf
  | succ n ih =>
    intro v0 v1 v2 v3 v4 h y hf
    have hf : fX9_run_3_b  (fX9_run_3  n) v0 v1 v2 v3 v4 h = some y := hf
    unfold fX9_run_3_b at hf
    refine am_iload dX9_run_3 rfl rfl ?_
    refine am_aload_n dX9_run_5 rfl rfl ?_
    refine am_gr_ dX9_run_6 fl_X9_7 rfl hf (fun x1 _ hf => ?_)
    refine am_iload_n dX9_run_9 rfl rfl ?_
    refine am_iald dX9_run_10 rfl hf (fun x2 _ hf => ?_)
    refine am_icmp_ge (tgt := 50) dX9_run_11 (by decide) rfl hf (fun hf => ?_) (fun hf => ?_)
    · refine am_aload_n dX9_run_50 rfl rfl ?_
      refine am_iconst (v := 0) dX9_run_51 rfl rfl ?_
      refine am_pi_ dX9_run_52 fl_X9_249 fp_9_51 (fun z => by cases z) rfl hf (fun h3 _ hf => ?_)
      refine am_aload_n dX9_run_55 rfl rfl ?_
      refine am_iconst (v := 0) dX9_run_56 rfl rfl ?_
      refine am_pi_ dX9_run_57 fl_X9_236 fp_9_52 (fun z => by cases z) rfl hf (fun h4 _ hf => ?_)
      refine am_aload_n dX9_run_60 rfl rfl ?_
      refine am_iconst (v := 0) dX9_run_61 rfl rfl ?_
      refine am_pi_ dX9_run_62 fl_X9_261 fp_9_53 (fun z => by cases z) rfl hf (fun h5 _ hf => ?_)
      refine am_aload_n dX9_run_65 rfl rfl ?_
      refine am_iconst (v := 0) dX9_run_66 rfl rfl ?_
      refine am_pi_ dX9_run_67 fl_X9_264 fp_9_54 (fun z => by cases z) rfl hf (fun h6 _ hf => ?_)
      refine am_aload_n dX9_run_70 rfl rfl ?_
      refine am_iconst (v := 0) dX9_run_71 rfl rfl ?_
      refine am_pi_ dX9_run_72 fl_X9_258 fp_9_55 (fun z => by cases z) rfl hf (fun h7 _ hf => ?_)
      refine am_iconst (v := 0) dX9_run_75 rfl rfl ?_
      refine am_istore (ls' := [some (va_rf v0), some (.int v1), some (.int v2), some (.int v3), some (.int (0 : Int32))]) dX9_run_76 (by decide) rfl rfl ?_
      exact (sfX9_run_78 _) _ _ _ _ _ _ _ hf
    refine am_aload_n dX9_run_14 rfl rfl ?_
    refine am_gr_ dX9_run_15 fl_X9_99 rfl hf (fun x8 _ hf => ?_)
    refine am_iload dX9_run_18 rfl rfl ?_
    refine am_aload_n dX9_run_20 rfl rfl ?_
    refine am_gr_ dX9_run_21 fl_X9_13 rfl hf (fun x9 _ hf => ?_)
    refine am_iconst (v := 3) dX9_run_24 rfl rfl ?_
    refine am_iload_n dX9_run_25 rfl rfl ?_
    refine am_imul dX9_run_26 rfl ?_
    refine am_iload dX9_run_27 rfl rfl ?_
    refine am_iadd dX9_run_29 rfl ?_
    refine am_iald dX9_run_30 rfl hf (fun x10 _ hf => ?_)
    refine am_aload_n dX9_run_31 rfl rfl ?_
    refine am_gr_ dX9_run_32 fl_X9_16 rfl hf (fun x11 _ hf => ?_)
    refine am_iconst (v := 3) dX9_run_35 rfl rfl ?_
    refine am_iload_n dX9_run_36 rfl rfl ?_
    refine am_imul dX9_run_37 rfl ?_
    refine am_iload dX9_run_38 rfl rfl ?_
    refine am_iadd dX9_run_40 rfl ?_
    refine am_iald dX9_run_41 rfl hf (fun x12 _ hf => ?_)
    refine am_imul dX9_run_42 rfl ?_
    refine am_iast dX9_run_43 rfl hf (fun h13 _ hf => ?_)
    refine am_iinc (ls' := [some (va_rf v0), some (.int v1), some (.int v2), some (.int v3), some (.int (v4 + (1 : Int32)))]) dX9_run_44 rfl rfl (by decide) rfl rfl ?_
    refine am_goto (pc' := 3) dX9_run_47 (by decide) ?_
    exact ih _ _ _ _ _ _ _ hf
set_option maxRecDepth 20000 in
set_option maxHeartbeats 4000000 in
theorem sfX9_run {G : am_G}  (v0 : Nat) (v1 : Int32) (v2 : Int32) (v3 : Int32) (h : am_H) (y : am_H) (hf : fX9_run v0 v1 v2 v3 h = some y) : am_Cn G miX9_run [va_rf (some v0), .int v1, .int v2, .int v3] h none y := by
  refine am_beg (ls := [some (va_rf (some v0)), some (.int v1), some (.int v2), some (.int v3), none]) (by simp only [am_en, am_e1_r, am_e1_i, am_e1_l, am_e1_n]; rfl) ?_
  unfold fX9_run at hf
  refine am_iconst (v := 0) dX9_run_0 rfl rfl ?_
  refine am_istore (ls' := [some (va_rf (some v0)), some (.int v1), some (.int v2), some (.int v3), some (.int (0 : Int32))]) dX9_run_1 (by decide) rfl rfl ?_
  exact (sfX9_run_3 _) _ _ _ _ _ _ _ hf
set_option maxRecDepth 20000 in
set_option maxHeartbeats 4000000 in
theorem sfX9_runAll {G : am_G}  (v0 : Nat) (v1 : Int32) (v2 : Int32) (v3 : Int32) (h : am_H) (y : am_H) (hf : fX9_runAll v0 v1 v2 v3 h = some y) : am_Cn G miX9_runAll [va_rf (some v0), .int v1, .int v2, .int v3] h none y := by
  refine am_beg (ls := [some (va_rf (some v0)), some (.int v1), some (.int v2), some (.int v3)]) (by simp only [am_en, am_e1_r, am_e1_i, am_e1_l, am_e1_n]; rfl) ?_
  unfold fX9_runAll at hf
  refine am_aload_n dX9_runAll_0 rfl rfl ?_
  refine am_iload_n dX9_runAll_1 rfl rfl ?_
  refine am_iload_n dX9_runAll_2 rfl rfl ?_
  refine am_cVv (As := [.int v1, .int v3]) (st := []) lk_X9_runAll_270 rfl (Nat.le_of_ble_eq_true rfl) (Nat.le_of_ble_eq_true rfl) rfl dX9_runAll_3 rfl hf (fun b2 y1 hf => sfX9_load b2 _ _ _ y1 hf) (fun b2 y1 _ _ hf => ?_)
  refine am_aload_n dX9_runAll_6 rfl rfl ?_
  refine am_iload_n dX9_runAll_7 rfl rfl ?_
  refine am_iload_n dX9_runAll_8 rfl rfl ?_
  refine am_bipush (v := 95) dX9_runAll_9 (by decide) rfl ?_
  refine am_cVv (As := [.int v1, .int v2, .int (95 : Int32)]) (st := []) lk_X9_runAll_274 rfl (Nat.le_of_ble_eq_true rfl) (Nat.le_of_ble_eq_true rfl) rfl dX9_runAll_11 rfl hf (fun b4 y3 hf => sfX9_run b4 _ _ _ _ y3 hf) (fun b4 y3 _ _ hf => ?_)
  exact am_vret rfl dX9_runAll_14 hf
set_option maxRecDepth 20000 in
set_option maxHeartbeats 4000000 in
theorem sfX9_asTick {G : am_G}  (v0 : Int32) (h : am_H) (y : Int32 × am_H) (hf : fX9_asTick v0 h = some y) : am_Cn G miX9_asTick [.int v0] h (some (.int y.1)) y.2 := by
  refine am_beg (ls := [some (.int v0)]) (by simp only [am_en, am_e1_r, am_e1_i, am_e1_l, am_e1_n]; rfl) ?_
  unfold fX9_asTick at hf
  refine am_iload_n dX9_asTick_0 rfl rfl ?_
  refine am_bipush (v := 96) dX9_asTick_1 (by decide) rfl ?_
  refine am_icmp_ne (tgt := 10) dX9_asTick_3 (by decide) rfl hf (fun hf => ?_) (fun hf => ?_)
  · refine am_iload_n dX9_asTick_10 rfl rfl ?_
    exact am_iret rfl dX9_asTick_11 hf
  refine am_iconst (v := -1) dX9_asTick_6 rfl rfl ?_
  refine am_goto (pc' := 11) dX9_asTick_7 (by decide) ?_
  exact am_iret rfl dX9_asTick_11 hf
set_option maxRecDepth 20000 in
set_option maxHeartbeats 4000000 in
theorem sfX9_drops {G : am_G}  (v0 : Nat) (v1 : Int32) (v2 : Int32) (v3 : Int32) (v4 : Int32) (h : am_H) (y : Int32 × am_H) (hf : fX9_drops v0 v1 v2 v3 v4 h = some y) : am_Cn G miX9_drops [va_rf (some v0), .int v1, .int v2, .int v3, .int v4] h (some (.int y.1)) y.2 := by
  refine am_beg (ls := [some (va_rf (some v0)), some (.int v1), some (.int v2), some (.int v3), some (.int v4)]) (by simp only [am_en, am_e1_r, am_e1_i, am_e1_l, am_e1_n]; rfl) ?_
  unfold fX9_drops at hf
  refine am_aload_n dX9_drops_0 rfl rfl ?_
  refine am_iload_n dX9_drops_1 rfl rfl ?_
  refine am_iload_n dX9_drops_2 rfl rfl ?_
  refine am_iload_n dX9_drops_3 rfl rfl ?_
  refine am_cVi (As := [.int v1, .int v2, .int v3]) (st := []) lk_X9_drops_277 rfl (Nat.le_of_ble_eq_true rfl) (Nat.le_of_ble_eq_true rfl) rfl dX9_drops_4 rfl hf (fun b2 y1 hf => sfX9_isRun b2 _ _ _ _ y1 hf) (fun b2 y1 _ _ hf => ?_)
  refine am_if_eq (tgt := 20) dX9_drops_7 (by decide) rfl hf (fun hf => ?_) (fun hf => ?_)
  · refine am_bipush (v := -101) dX9_drops_20 (by decide) rfl ?_
    exact am_iret rfl dX9_drops_22 hf
  refine am_aload_n dX9_drops_10 rfl rfl ?_
  refine am_iload_n dX9_drops_11 rfl rfl ?_
  refine am_iload dX9_drops_12 rfl rfl ?_
  refine am_cVi (As := [.int v1, .int v4]) (st := []) lk_X9_drops_194 rfl (Nat.le_of_ble_eq_true rfl) (Nat.le_of_ble_eq_true rfl) rfl dX9_drops_14 rfl hf (fun b4 y3 hf => sfX9_isBall b4 _ _ _ y3 hf) (fun b4 y3 _ _ hf => ?_)
  refine am_if_ne (tgt := 23) dX9_drops_17 (by decide) rfl hf (fun hf => ?_) (fun hf => ?_)
  · refine am_aload_n dX9_drops_23 rfl rfl ?_
    refine am_iload_n dX9_drops_24 rfl rfl ?_
    refine am_iload_n dX9_drops_25 rfl rfl ?_
    refine am_iload_n dX9_drops_26 rfl rfl ?_
    refine am_cVv (As := [.int v1, .int v2, .int v3]) (st := []) lk_X9_drops_280 rfl (Nat.le_of_ble_eq_true rfl) (Nat.le_of_ble_eq_true rfl) rfl dX9_drops_27 rfl hf (fun b6 y5 hf => sfX9_runAll b6 _ _ _ _ y5 hf) (fun b6 y5 _ _ hf => ?_)
    refine am_aload_n dX9_drops_30 rfl rfl ?_
    refine am_gr_ dX9_drops_31 fl_X9_102 rfl hf (fun x7 _ hf => ?_)
    refine am_iload dX9_drops_34 rfl rfl ?_
    refine am_iald dX9_drops_36 rfl hf (fun x8 _ hf => ?_)
    refine am_cSi (As := [.int x8]) (st := []) lk_X9_drops_283 rfl (Nat.le_of_ble_eq_true rfl) (Nat.le_of_ble_eq_true rfl) rfl dX9_drops_37 rfl hf (fun y9 hf => sfX9_asTick _ _ y9 hf) (fun y9 _ hf => ?_)
    exact am_iret rfl dX9_drops_40 hf
  refine am_bipush (v := -101) dX9_drops_20 (by decide) rfl ?_
  exact am_iret rfl dX9_drops_22 hf
set_option maxRecDepth 20000 in
set_option maxHeartbeats 4000000 in
theorem sfX8_daylightOf {G : am_G}  (v0 : Nat) (v1 : Int32) (h : am_H) (y : Int32 × am_H) (hf : fX8_daylightOf v0 v1 h = some y) : am_Cn G miX8_daylightOf [va_rf (some v0), .int v1] h (some (.int y.1)) y.2 := by
  refine am_beg (ls := [some (va_rf (some v0)), some (.int v1)]) (by simp only [am_en, am_e1_r, am_e1_i, am_e1_l, am_e1_n]; rfl) ?_
  unfold fX8_daylightOf at hf
  refine am_iload_n dX8_daylightOf_0 rfl rfl ?_
  refine am_cSi (As := [.int v1]) (st := []) lk_X8_daylightOf_136 rfl (Nat.le_of_ble_eq_true rfl) (Nat.le_of_ble_eq_true rfl) rfl dX8_daylightOf_1 rfl hf (fun y1 hf => sfX8_isSeason _ _ y1 hf) (fun y1 _ hf => ?_)
  refine am_if_eq (tgt := 19) dX8_daylightOf_4 (by decide) rfl hf (fun hf => ?_) (fun hf => ?_)
  · refine am_bipush (v := 48) dX8_daylightOf_19 (by decide) rfl ?_
    exact am_iret rfl dX8_daylightOf_21 hf
  refine am_aload_n dX8_daylightOf_7 rfl rfl ?_
  refine am_gr_ dX8_daylightOf_8 fl_X8_37 rfl hf (fun x2 _ hf => ?_)
  refine am_gr_ dX8_daylightOf_11 fl_X8_147 rfl hf (fun x3 _ hf => ?_)
  refine am_iload_n dX8_daylightOf_14 rfl rfl ?_
  refine am_iald dX8_daylightOf_15 rfl hf (fun x4 _ hf => ?_)
  refine am_goto (pc' := 21) dX8_daylightOf_16 (by decide) ?_
  exact am_iret rfl dX8_daylightOf_21 hf
set_option maxRecDepth 20000 in
set_option maxHeartbeats 4000000 in
theorem sfX0_trueTick {G : am_G}  (v0 : Nat) (v1 : Int32) (v2 : Int32) (h : am_H) (y : Int32 × am_H) (hf : fX0_trueTick v0 v1 v2 h = some y) : am_Cn G miX0_trueTick [va_rf (some v0), .int v1, .int v2] h (some (.int y.1)) y.2 := by
  refine am_beg (ls := [some (va_rf (some v0)), some (.int v1), some (.int v2)]) (by simp only [am_en, am_e1_r, am_e1_i, am_e1_l, am_e1_n]; rfl) ?_
  unfold fX0_trueTick at hf
  refine am_iload_n dX0_trueTick_0 rfl rfl ?_
  refine am_iconst (v := 1) dX0_trueTick_1 rfl rfl ?_
  refine am_iadd dX0_trueTick_2 rfl ?_
  refine am_iload_n dX0_trueTick_3 rfl rfl ?_
  refine am_imul dX0_trueTick_4 rfl ?_
  refine am_aload_n dX0_trueTick_5 rfl rfl ?_
  refine am_gi_ dX0_trueTick_6 fl_X0_40 rfl hf (fun x1 _ hf => ?_)
  refine am_cTi (As := [.int ((v1 + (1 : Int32)) * v2), .int x1]) (st := []) lk_X0_trueTick_50 rfl (Nat.le_of_ble_eq_true rfl) (Nat.le_of_ble_eq_true rfl) rfl dX0_trueTick_9 rfl hf (fun y2 hf => sfX8_quotient _ _ _ y2 hf) (fun y2 _ hf => ?_)
  exact am_iret rfl dX0_trueTick_12 hf
set_option maxRecDepth 20000 in
set_option maxHeartbeats 4000000 in
theorem sfX5_errorOf_17 {G : am_G}  (v0 : Option Nat) (v1 : Int32) (v2 : Int32) (s0 : Int32) (h : am_H) (y : Int32 × am_H) (hf : fX5_errorOf_17  v0 v1 v2 s0 h = some y) : am_S G miX5_errorOf 17 [some (va_rf v0), some (.int v1), some (.int v2), none] [.int s0] h (some (.int y.1)) y.2 := by
  unfold fX5_errorOf_17 at hf
  refine am_aload_n dX5_errorOf_17 rfl rfl ?_
  refine am_gr_ dX5_errorOf_18 fl_X5_18 rfl hf (fun x1 _ hf => ?_)
  refine am_iload_n dX5_errorOf_21 rfl rfl ?_
  refine am_iload_n dX5_errorOf_22 rfl rfl ?_
  refine am_cVi (As := [.int v1, .int v2]) (st := [.int s0]) lk_X5_errorOf_145 rfl (Nat.le_of_ble_eq_true rfl) (Nat.le_of_ble_eq_true rfl) rfl dX5_errorOf_23 rfl hf (fun b3 y2 hf => sfX0_trueTick b3 _ _ _ y2 hf) (fun b3 y2 _ _ hf => ?_)
  refine am_isub dX5_errorOf_26 rfl ?_
  exact am_iret rfl dX5_errorOf_27 hf
set_option maxRecDepth 20000 in
set_option maxHeartbeats 4000000 in
theorem sfX5_errorOf {G : am_G}  (v0 : Nat) (v1 : Int32) (v2 : Int32) (h : am_H) (y : Int32 × am_H) (hf : fX5_errorOf v0 v1 v2 h = some y) : am_Cn G miX5_errorOf [va_rf (some v0), .int v1, .int v2] h (some (.int y.1)) y.2 := by
  refine am_beg (ls := [some (va_rf (some v0)), some (.int v1), some (.int v2), none]) (by simp only [am_en, am_e1_r, am_e1_i, am_e1_l, am_e1_n]; rfl) ?_
  unfold fX5_errorOf at hf
  refine am_aload_n dX5_errorOf_0 rfl rfl ?_
  refine am_iload_n dX5_errorOf_1 rfl rfl ?_
  refine am_cVi (As := [.int v1]) (st := []) lk_X5_errorOf_142 rfl (Nat.le_of_ble_eq_true rfl) (Nat.le_of_ble_eq_true rfl) rfl dX5_errorOf_2 rfl hf (fun b2 y1 hf => sfX5_tickOf b2 _ _ y1 hf) (fun b2 y1 _ _ hf => ?_)
  refine am_istore_n (ls' := [some (va_rf (some v0)), some (.int v1), some (.int v2), some (.int y1.1)]) dX5_errorOf_5 (by decide) rfl rfl ?_
  refine am_iload_n dX5_errorOf_6 rfl rfl ?_
  refine am_iconst (v := -1) dX5_errorOf_7 rfl rfl ?_
  refine am_icmp_ne (tgt := 16) dX5_errorOf_8 (by decide) rfl hf (fun hf => ?_) (fun hf => ?_)
  · refine am_iload_n dX5_errorOf_16 rfl rfl ?_
    exact am_we (sfX5_errorOf_17 _ _ _ _ _ _ hf) ⟨Or.inr rfl, Or.inr rfl, Or.inr rfl, Or.inl rfl, trivial⟩
  refine am_bipush (v := 96) dX5_errorOf_11 (by decide) rfl ?_
  refine am_goto (pc' := 17) dX5_errorOf_13 (by decide) ?_
  exact am_we (sfX5_errorOf_17 _ _ _ _ _ _ hf) ⟨Or.inr rfl, Or.inr rfl, Or.inr rfl, Or.inl rfl, trivial⟩
set_option maxRecDepth 20000 in
set_option maxHeartbeats 4000000 in
theorem sfX8_error {G : am_G}  (v0 : Nat) (v1 : Int32) (v2 : Int32) (v3 : Int32) (v4 : Int32) (h : am_H) (y : Int32 × am_H) (hf : fX8_error v0 v1 v2 v3 v4 h = some y) : am_Cn G miX8_error [va_rf (some v0), .int v1, .int v2, .int v3, .int v4] h (some (.int y.1)) y.2 := by
  refine am_beg (ls := [some (va_rf (some v0)), some (.int v1), some (.int v2), some (.int v3), some (.int v4)]) (by simp only [am_en, am_e1_r, am_e1_i, am_e1_l, am_e1_n]; rfl) ?_
  unfold fX8_error at hf
  refine am_aload_n dX8_error_0 rfl rfl ?_
  refine am_iload_n dX8_error_1 rfl rfl ?_
  refine am_iload_n dX8_error_2 rfl rfl ?_
  refine am_iload_n dX8_error_3 rfl rfl ?_
  refine am_cVi (As := [.int v1, .int v2, .int v3]) (st := []) lk_X8_error_200 rfl (Nat.le_of_ble_eq_true rfl) (Nat.le_of_ble_eq_true rfl) rfl dX8_error_4 rfl hf (fun b2 y1 hf => sfX8_startRun b2 _ _ _ _ y1 hf) (fun b2 y1 _ _ hf => ?_)
  refine am_if_eq (tgt := 25) dX8_error_7 (by decide) rfl hf (fun hf => ?_) (fun hf => ?_)
  · refine am_sipush (v := -1001) dX8_error_25 (by decide) rfl ?_
    exact am_iret rfl dX8_error_28 hf
  refine am_aload_n dX8_error_10 rfl rfl ?_
  refine am_gr_ dX8_error_11 fl_X8_62 rfl hf (fun x3 _ hf => ?_)
  refine am_gr_ dX8_error_14 fl_X8_203 rfl hf (fun x4 _ hf => ?_)
  refine am_iload dX8_error_17 rfl rfl ?_
  refine am_cVi (As := [.int v4]) (st := []) lk_X8_error_206 rfl (Nat.le_of_ble_eq_true rfl) (Nat.le_of_ble_eq_true rfl) rfl dX8_error_19 rfl hf (fun b6 y5 hf => sfX0_hasBall b6 _ _ y5 hf) (fun b6 y5 _ _ hf => ?_)
  refine am_if_ne (tgt := 29) dX8_error_22 (by decide) rfl hf (fun hf => ?_) (fun hf => ?_)
  · refine am_aload_n dX8_error_29 rfl rfl ?_
    refine am_gr_ dX8_error_30 fl_X8_62 rfl hf (fun x7 _ hf => ?_)
    refine am_bipush (v := 96) dX8_error_33 (by decide) rfl ?_
    refine am_cVv (As := [.int (96 : Int32)]) (st := []) lk_X8_error_209 rfl (Nat.le_of_ble_eq_true rfl) (Nat.le_of_ble_eq_true rfl) rfl dX8_error_35 rfl hf (fun b9 y8 hf => sfX5_goOnTo b9 _ _ y8 hf) (fun b9 y8 _ _ hf => ?_)
    refine am_aload_n dX8_error_38 rfl rfl ?_
    refine am_gr_ dX8_error_39 fl_X8_62 rfl hf (fun x10 _ hf => ?_)
    refine am_iload dX8_error_42 rfl rfl ?_
    refine am_aload_n dX8_error_44 rfl rfl ?_
    refine am_iload_n dX8_error_45 rfl rfl ?_
    refine am_cVi (As := [.int v2]) (st := [.int v4, va_rf x10]) lk_X8_error_216 rfl (Nat.le_of_ble_eq_true rfl) (by simp only [List.map_cons, List.map_nil, am_c1, am_ci, am_cl]; exact Nat.le_of_ble_eq_true rfl) rfl dX8_error_46 rfl hf (fun b12 y11 hf => sfX8_daylightOf b12 _ _ y11 hf) (fun b12 y11 _ _ hf => ?_)
    refine am_cVi (As := [.int v4, .int y11.1]) (st := []) lk_X8_error_219 rfl (Nat.le_of_ble_eq_true rfl) (Nat.le_of_ble_eq_true rfl) rfl dX8_error_49 rfl hf (fun b14 y13 hf => sfX5_errorOf b14 _ _ _ y13 hf) (fun b14 y13 _ _ hf => ?_)
    exact am_iret rfl dX8_error_52 hf
  refine am_sipush (v := -1001) dX8_error_25 (by decide) rfl ?_
  exact am_iret rfl dX8_error_28 hf
set_option maxRecDepth 20000 in
set_option maxHeartbeats 4000000 in
theorem sfX9_errorOf {G : am_G}  (v0 : Nat) (v1 : Int32) (v2 : Int32) (v3 : Int32) (h : am_H) (y : Int32 × am_H) (hf : fX9_errorOf v0 v1 v2 v3 h = some y) : am_Cn G miX9_errorOf [va_rf (some v0), .int v1, .int v2, .int v3] h (some (.int y.1)) y.2 := by
  refine am_beg (ls := [some (va_rf (some v0)), some (.int v1), some (.int v2), some (.int v3)]) (by simp only [am_en, am_e1_r, am_e1_i, am_e1_l, am_e1_n]; rfl) ?_
  unfold fX9_errorOf at hf
  refine am_aload_n dX9_errorOf_0 rfl rfl ?_
  refine am_gr_ dX9_errorOf_1 fl_X9_102 rfl hf (fun x1 _ hf => ?_)
  refine am_iload_n dX9_errorOf_4 rfl rfl ?_
  refine am_iald dX9_errorOf_5 rfl hf (fun x2 _ hf => ?_)
  refine am_iload_n dX9_errorOf_6 rfl rfl ?_
  refine am_iconst (v := 1) dX9_errorOf_7 rfl rfl ?_
  refine am_iadd dX9_errorOf_8 rfl ?_
  refine am_aload_n dX9_errorOf_9 rfl rfl ?_
  refine am_gr_ dX9_errorOf_10 fl_X9_40 rfl hf (fun x3 _ hf => ?_)
  refine am_iload_n dX9_errorOf_13 rfl rfl ?_
  refine am_iald dX9_errorOf_14 rfl hf (fun x4 _ hf => ?_)
  refine am_imul dX9_errorOf_15 rfl ?_
  refine am_aload_n dX9_errorOf_16 rfl rfl ?_
  refine am_gr_ dX9_errorOf_17 fl_X9_31 rfl hf (fun x5 _ hf => ?_)
  refine am_iload_n dX9_errorOf_20 rfl rfl ?_
  refine am_iald dX9_errorOf_21 rfl hf (fun x6 _ hf => ?_)
  refine am_idiv dX9_errorOf_22 rfl hf (fun hf => ?_)
  refine am_isub dX9_errorOf_23 rfl ?_
  exact am_iret rfl dX9_errorOf_24 hf
set_option maxRecDepth 20000 in
set_option maxHeartbeats 4000000 in
theorem sfX9_error {G : am_G}  (v0 : Nat) (v1 : Int32) (v2 : Int32) (v3 : Int32) (v4 : Int32) (h : am_H) (y : Int32 × am_H) (hf : fX9_error v0 v1 v2 v3 v4 h = some y) : am_Cn G miX9_error [va_rf (some v0), .int v1, .int v2, .int v3, .int v4] h (some (.int y.1)) y.2 := by
  refine am_beg (ls := [some (va_rf (some v0)), some (.int v1), some (.int v2), some (.int v3), some (.int v4)]) (by simp only [am_en, am_e1_r, am_e1_i, am_e1_l, am_e1_n]; rfl) ?_
  unfold fX9_error at hf
  refine am_aload_n dX9_error_0 rfl rfl ?_
  refine am_iload_n dX9_error_1 rfl rfl ?_
  refine am_iload_n dX9_error_2 rfl rfl ?_
  refine am_iload_n dX9_error_3 rfl rfl ?_
  refine am_cVi (As := [.int v1, .int v2, .int v3]) (st := []) lk_X9_error_277 rfl (Nat.le_of_ble_eq_true rfl) (Nat.le_of_ble_eq_true rfl) rfl dX9_error_4 rfl hf (fun b2 y1 hf => sfX9_isRun b2 _ _ _ _ y1 hf) (fun b2 y1 _ _ hf => ?_)
  refine am_if_eq (tgt := 20) dX9_error_7 (by decide) rfl hf (fun hf => ?_) (fun hf => ?_)
  · refine am_sipush (v := -1001) dX9_error_20 (by decide) rfl ?_
    exact am_iret rfl dX9_error_23 hf
  refine am_aload_n dX9_error_10 rfl rfl ?_
  refine am_iload_n dX9_error_11 rfl rfl ?_
  refine am_iload dX9_error_12 rfl rfl ?_
  refine am_cVi (As := [.int v1, .int v4]) (st := []) lk_X9_error_194 rfl (Nat.le_of_ble_eq_true rfl) (Nat.le_of_ble_eq_true rfl) rfl dX9_error_14 rfl hf (fun b4 y3 hf => sfX9_isBall b4 _ _ _ y3 hf) (fun b4 y3 _ _ hf => ?_)
  refine am_if_ne (tgt := 24) dX9_error_17 (by decide) rfl hf (fun hf => ?_) (fun hf => ?_)
  · refine am_aload_n dX9_error_24 rfl rfl ?_
    refine am_iload_n dX9_error_25 rfl rfl ?_
    refine am_iload_n dX9_error_26 rfl rfl ?_
    refine am_iload_n dX9_error_27 rfl rfl ?_
    refine am_cVv (As := [.int v1, .int v2, .int v3]) (st := []) lk_X9_error_280 rfl (Nat.le_of_ble_eq_true rfl) (Nat.le_of_ble_eq_true rfl) rfl dX9_error_28 rfl hf (fun b6 y5 hf => sfX9_runAll b6 _ _ _ _ y5 hf) (fun b6 y5 _ _ hf => ?_)
    refine am_aload_n dX9_error_31 rfl rfl ?_
    refine am_iload_n dX9_error_32 rfl rfl ?_
    refine am_iload_n dX9_error_33 rfl rfl ?_
    refine am_iload dX9_error_34 rfl rfl ?_
    refine am_cVi (As := [.int v1, .int v2, .int v4]) (st := []) lk_X9_error_286 rfl (Nat.le_of_ble_eq_true rfl) (Nat.le_of_ble_eq_true rfl) rfl dX9_error_36 rfl hf (fun b8 y7 hf => sfX9_errorOf b8 _ _ _ _ y7 hf) (fun b8 y7 _ _ hf => ?_)
    exact am_iret rfl dX9_error_39 hf
  refine am_sipush (v := -1001) dX9_error_20 (by decide) rfl ?_
  exact am_iret rfl dX9_error_23 hf
set_option maxRecDepth 20000 in
set_option maxHeartbeats 4000000 in
theorem sfX5_measure {G : am_G}  (v0 : Nat) (v1 : Int32) (h : am_H) (y : Int32 × am_H) (hf : fX5_measure v0 v1 h = some y) : am_Cn G miX5_measure [va_rf (some v0), .int v1] h (some (.int y.1)) y.2 := by
  refine am_beg (ls := [some (va_rf (some v0)), some (.int v1)]) (by simp only [am_en, am_e1_r, am_e1_i, am_e1_l, am_e1_n]; rfl) ?_
  unfold fX5_measure at hf
  refine am_iload_n dX5_measure_0 rfl rfl ?_
  refine am_tsw (d := 61) (l := [(3, 36), (4, 41), (5, 46), (6, 51), (7, 56)]) dX5_measure_1 (by decide) (by decide) (by decide) ?_
  refine am_swc hf (fun hf => ?_) (fun hf => ?_)
  · refine am_aload_n dX5_measure_36 rfl rfl ?_
    refine am_gi_ dX5_measure_37 fl_X5_38 rfl hf (fun x1 _ hf => ?_)
    exact am_iret rfl dX5_measure_40 hf
  refine am_swc hf (fun hf => ?_) (fun hf => ?_)
  · refine am_aload_n dX5_measure_41 rfl rfl ?_
    refine am_gi_ dX5_measure_42 fl_X5_53 rfl hf (fun x2 _ hf => ?_)
    exact am_iret rfl dX5_measure_45 hf
  refine am_swc hf (fun hf => ?_) (fun hf => ?_)
  · refine am_aload_n dX5_measure_46 rfl rfl ?_
    refine am_gi_ dX5_measure_47 fl_X5_44 rfl hf (fun x3 _ hf => ?_)
    exact am_iret rfl dX5_measure_50 hf
  refine am_swc hf (fun hf => ?_) (fun hf => ?_)
  · refine am_aload_n dX5_measure_51 rfl rfl ?_
    refine am_gi_ dX5_measure_52 fl_X5_47 rfl hf (fun x4 _ hf => ?_)
    exact am_iret rfl dX5_measure_55 hf
  refine am_swc hf (fun hf => ?_) (fun hf => ?_)
  · refine am_aload_n dX5_measure_56 rfl rfl ?_
    refine am_gi_ dX5_measure_57 fl_X5_50 rfl hf (fun x5 _ hf => ?_)
    exact am_iret rfl dX5_measure_60 hf
  show am_S _ _ 61 _ _ _ _ _
  refine am_aload_n dX5_measure_61 rfl rfl ?_
  refine am_gr_ dX5_measure_62 fl_X5_18 rfl hf (fun x6 _ hf => ?_)
  refine am_iload_n dX5_measure_65 rfl rfl ?_
  refine am_cVi (As := [.int v1]) (st := []) lk_X5_measure_119 rfl (Nat.le_of_ble_eq_true rfl) (Nat.le_of_ble_eq_true rfl) rfl dX5_measure_66 rfl hf (fun b8 y7 hf => sfX0_hasVessel b8 _ _ y7 hf) (fun b8 y7 _ _ hf => ?_)
  refine am_if_eq (tgt := 81) dX5_measure_69 (by decide) rfl hf (fun hf => ?_) (fun hf => ?_)
  · refine am_iconst (v := -1) dX5_measure_81 rfl rfl ?_
    exact am_iret rfl dX5_measure_82 hf
  refine am_aload_n dX5_measure_72 rfl rfl ?_
  refine am_gr_ dX5_measure_73 fl_X5_9 rfl hf (fun x9 _ hf => ?_)
  refine am_iload_n dX5_measure_76 rfl rfl ?_
  refine am_iald dX5_measure_77 rfl hf (fun x10 _ hf => ?_)
  refine am_goto (pc' := 82) dX5_measure_78 (by decide) ?_
  exact am_iret rfl dX5_measure_82 hf
set_option maxRecDepth 20000 in
set_option maxHeartbeats 4000000 in
theorem sfX8_at {G : am_G}  (v0 : Nat) (v1 : Int32) (v2 : Int32) (v3 : Int32) (v4 : Int32) (v5 : Int32) (h : am_H) (y : Int32 × am_H) (hf : fX8_at v0 v1 v2 v3 v4 v5 h = some y) : am_Cn G miX8_at [va_rf (some v0), .int v1, .int v2, .int v3, .int v4, .int v5] h (some (.int y.1)) y.2 := by
  refine am_beg (ls := [some (va_rf (some v0)), some (.int v1), some (.int v2), some (.int v3), some (.int v4), some (.int v5)]) (by simp only [am_en, am_e1_r, am_e1_i, am_e1_l, am_e1_n]; rfl) ?_
  unfold fX8_at at hf
  refine am_aload_n dX8_at_0 rfl rfl ?_
  refine am_iload_n dX8_at_1 rfl rfl ?_
  refine am_iload_n dX8_at_2 rfl rfl ?_
  refine am_iload_n dX8_at_3 rfl rfl ?_
  refine am_cVi (As := [.int v1, .int v2, .int v3]) (st := []) lk_X8_at_200 rfl (Nat.le_of_ble_eq_true rfl) (Nat.le_of_ble_eq_true rfl) rfl dX8_at_4 rfl hf (fun b2 y1 hf => sfX8_startRun b2 _ _ _ _ y1 hf) (fun b2 y1 _ _ hf => ?_)
  refine am_if_ne (tgt := 13) dX8_at_7 (by decide) rfl hf (fun hf => ?_) (fun hf => ?_)
  · refine am_iload dX8_at_13 rfl rfl ?_
    refine am_cSi (As := [.int v4]) (st := []) lk_X8_at_153 rfl (Nat.le_of_ble_eq_true rfl) (Nat.le_of_ble_eq_true rfl) rfl dX8_at_15 rfl hf (fun y3 hf => sfX8_isTick _ _ y3 hf) (fun y3 _ hf => ?_)
    refine am_if_eq (tgt := 32) dX8_at_18 (by decide) rfl hf (fun hf => ?_) (fun hf => ?_)
    · refine am_bipush (v := -102) dX8_at_32 (by decide) rfl ?_
      exact am_iret rfl dX8_at_34 hf
    refine am_iload dX8_at_21 rfl rfl ?_
    refine am_iconst (v := 0) dX8_at_23 rfl rfl ?_
    refine am_bipush (v := 7) dX8_at_24 (by decide) rfl ?_
    refine am_cSi (As := [.int v5, .int (0 : Int32), .int (7 : Int32)]) (st := []) lk_X8_at_121 rfl (Nat.le_of_ble_eq_true rfl) (Nat.le_of_ble_eq_true rfl) rfl dX8_at_26 rfl hf (fun y4 hf => sfX8_isIn _ _ _ _ y4 hf) (fun y4 _ hf => ?_)
    refine am_if_ne (tgt := 35) dX8_at_29 (by decide) rfl hf (fun hf => ?_) (fun hf => ?_)
    · refine am_aload_n dX8_at_35 rfl rfl ?_
      refine am_gr_ dX8_at_36 fl_X8_62 rfl hf (fun x5 _ hf => ?_)
      refine am_iload dX8_at_39 rfl rfl ?_
      refine am_iconst (v := 1) dX8_at_41 rfl rfl ?_
      refine am_iadd dX8_at_42 rfl ?_
      refine am_cVv (As := [.int (v4 + (1 : Int32))]) (st := []) lk_X8_at_209 rfl (Nat.le_of_ble_eq_true rfl) (Nat.le_of_ble_eq_true rfl) rfl dX8_at_43 rfl hf (fun b7 y6 hf => sfX5_goOnTo b7 _ _ y6 hf) (fun b7 y6 _ _ hf => ?_)
      refine am_aload_n dX8_at_46 rfl rfl ?_
      refine am_gr_ dX8_at_47 fl_X8_62 rfl hf (fun x8 _ hf => ?_)
      refine am_iload dX8_at_50 rfl rfl ?_
      refine am_cVi (As := [.int v5]) (st := []) lk_X8_at_222 rfl (Nat.le_of_ble_eq_true rfl) (Nat.le_of_ble_eq_true rfl) rfl dX8_at_52 rfl hf (fun b10 y9 hf => sfX5_measure b10 _ _ y9 hf) (fun b10 y9 _ _ hf => ?_)
      exact am_iret rfl dX8_at_55 hf
    refine am_bipush (v := -102) dX8_at_32 (by decide) rfl ?_
    exact am_iret rfl dX8_at_34 hf
  refine am_bipush (v := -101) dX8_at_10 (by decide) rfl ?_
  exact am_iret rfl dX8_at_12 hf
set_option maxRecDepth 20000 in
set_option maxHeartbeats 4000000 in
theorem sfX9_at {G : am_G}  (v0 : Nat) (v1 : Int32) (v2 : Int32) (v3 : Int32) (v4 : Int32) (v5 : Int32) (h : am_H) (y : Int32 × am_H) (hf : fX9_at v0 v1 v2 v3 v4 v5 h = some y) : am_Cn G miX9_at [va_rf (some v0), .int v1, .int v2, .int v3, .int v4, .int v5] h (some (.int y.1)) y.2 := by
  refine am_beg (ls := [some (va_rf (some v0)), some (.int v1), some (.int v2), some (.int v3), some (.int v4), some (.int v5)]) (by simp only [am_en, am_e1_r, am_e1_i, am_e1_l, am_e1_n]; rfl) ?_
  unfold fX9_at at hf
  refine am_aload_n dX9_at_0 rfl rfl ?_
  refine am_iload_n dX9_at_1 rfl rfl ?_
  refine am_iload_n dX9_at_2 rfl rfl ?_
  refine am_iload_n dX9_at_3 rfl rfl ?_
  refine am_cVi (As := [.int v1, .int v2, .int v3]) (st := []) lk_X9_at_277 rfl (Nat.le_of_ble_eq_true rfl) (Nat.le_of_ble_eq_true rfl) rfl dX9_at_4 rfl hf (fun b2 y1 hf => sfX9_isRun b2 _ _ _ _ y1 hf) (fun b2 y1 _ _ hf => ?_)
  refine am_if_ne (tgt := 13) dX9_at_7 (by decide) rfl hf (fun hf => ?_) (fun hf => ?_)
  · refine am_iload dX9_at_13 rfl rfl ?_
    refine am_iconst (v := 0) dX9_at_15 rfl rfl ?_
    refine am_bipush (v := 95) dX9_at_16 (by decide) rfl ?_
    refine am_cSi (As := [.int v4, .int (0 : Int32), .int (95 : Int32)]) (st := []) lk_X9_at_132 rfl (Nat.le_of_ble_eq_true rfl) (Nat.le_of_ble_eq_true rfl) rfl dX9_at_18 rfl hf (fun y3 hf => sfX9_within _ _ _ _ y3 hf) (fun y3 _ hf => ?_)
    refine am_if_eq (tgt := 35) dX9_at_21 (by decide) rfl hf (fun hf => ?_) (fun hf => ?_)
    · refine am_bipush (v := -102) dX9_at_35 (by decide) rfl ?_
      exact am_iret rfl dX9_at_37 hf
    refine am_iload dX9_at_24 rfl rfl ?_
    refine am_iconst (v := 0) dX9_at_26 rfl rfl ?_
    refine am_bipush (v := 7) dX9_at_27 (by decide) rfl ?_
    refine am_cSi (As := [.int v5, .int (0 : Int32), .int (7 : Int32)]) (st := []) lk_X9_at_132 rfl (Nat.le_of_ble_eq_true rfl) (Nat.le_of_ble_eq_true rfl) rfl dX9_at_29 rfl hf (fun y4 hf => sfX9_within _ _ _ _ y4 hf) (fun y4 _ hf => ?_)
    refine am_if_ne (tgt := 38) dX9_at_32 (by decide) rfl hf (fun hf => ?_) (fun hf => ?_)
    · refine am_aload_n dX9_at_38 rfl rfl ?_
      refine am_iload_n dX9_at_39 rfl rfl ?_
      refine am_iload_n dX9_at_40 rfl rfl ?_
      refine am_cVv (As := [.int v1, .int v3]) (st := []) lk_X9_at_270 rfl (Nat.le_of_ble_eq_true rfl) (Nat.le_of_ble_eq_true rfl) rfl dX9_at_41 rfl hf (fun b6 y5 hf => sfX9_load b6 _ _ _ y5 hf) (fun b6 y5 _ _ hf => ?_)
      refine am_aload_n dX9_at_44 rfl rfl ?_
      refine am_iload_n dX9_at_45 rfl rfl ?_
      refine am_iload_n dX9_at_46 rfl rfl ?_
      refine am_iload dX9_at_47 rfl rfl ?_
      refine am_cVv (As := [.int v1, .int v2, .int v4]) (st := []) lk_X9_at_274 rfl (Nat.le_of_ble_eq_true rfl) (Nat.le_of_ble_eq_true rfl) rfl dX9_at_49 rfl hf (fun b8 y7 hf => sfX9_run b8 _ _ _ _ y7 hf) (fun b8 y7 _ _ hf => ?_)
      refine am_iload dX9_at_52 rfl rfl ?_
      refine am_tsw (d := 113) (l := [(3, 88), (4, 93), (5, 98), (6, 103), (7, 108)]) dX9_at_54 (by decide) (by decide) (by decide) ?_
      refine am_swc hf (fun hf => ?_) (fun hf => ?_)
      · refine am_aload_n dX9_at_88 rfl rfl ?_
        refine am_gi_ dX9_at_89 fl_X9_249 rfl hf (fun x9 _ hf => ?_)
        exact am_iret rfl dX9_at_92 hf
      refine am_swc hf (fun hf => ?_) (fun hf => ?_)
      · refine am_aload_n dX9_at_93 rfl rfl ?_
        refine am_gi_ dX9_at_94 fl_X9_258 rfl hf (fun x10 _ hf => ?_)
        exact am_iret rfl dX9_at_97 hf
      refine am_swc hf (fun hf => ?_) (fun hf => ?_)
      · refine am_aload_n dX9_at_98 rfl rfl ?_
        refine am_gi_ dX9_at_99 fl_X9_236 rfl hf (fun x11 _ hf => ?_)
        exact am_iret rfl dX9_at_102 hf
      refine am_swc hf (fun hf => ?_) (fun hf => ?_)
      · refine am_aload_n dX9_at_103 rfl rfl ?_
        refine am_gi_ dX9_at_104 fl_X9_261 rfl hf (fun x12 _ hf => ?_)
        exact am_iret rfl dX9_at_107 hf
      refine am_swc hf (fun hf => ?_) (fun hf => ?_)
      · refine am_aload_n dX9_at_108 rfl rfl ?_
        refine am_gi_ dX9_at_109 fl_X9_264 rfl hf (fun x13 _ hf => ?_)
        exact am_iret rfl dX9_at_112 hf
      show am_S _ _ 113 _ _ _ _ _
      refine am_iload dX9_at_113 rfl rfl ?_
      refine am_aload_n dX9_at_115 rfl rfl ?_
      refine am_gr_ dX9_at_116 fl_X9_7 rfl hf (fun x14 _ hf => ?_)
      refine am_iload_n dX9_at_119 rfl rfl ?_
      refine am_iald dX9_at_120 rfl hf (fun x15 _ hf => ?_)
      refine am_icmp_ge (tgt := 134) dX9_at_121 (by decide) rfl hf (fun hf => ?_) (fun hf => ?_)
      · refine am_iconst (v := -1) dX9_at_134 rfl rfl ?_
        exact am_iret rfl dX9_at_135 hf
      refine am_aload_n dX9_at_124 rfl rfl ?_
      refine am_gr_ dX9_at_125 fl_X9_99 rfl hf (fun x16 _ hf => ?_)
      refine am_iload dX9_at_128 rfl rfl ?_
      refine am_iald dX9_at_130 rfl hf (fun x17 _ hf => ?_)
      refine am_goto (pc' := 135) dX9_at_131 (by decide) ?_
      exact am_iret rfl dX9_at_135 hf
    refine am_bipush (v := -102) dX9_at_35 (by decide) rfl ?_
    exact am_iret rfl dX9_at_37 hf
  refine am_bipush (v := -101) dX9_at_10 (by decide) rfl ?_
  exact am_iret rfl dX9_at_12 hf
set_option maxRecDepth 20000 in
set_option maxHeartbeats 4000000 in
theorem sfX8_even {G : am_G}  (v0 : Nat) (v1 : Int32) (v2 : Int32) (v3 : Int32) (v4 : Int32) (h : am_H) (y : Int32 × am_H) (hf : fX8_even v0 v1 v2 v3 v4 h = some y) : am_Cn G miX8_even [va_rf (some v0), .int v1, .int v2, .int v3, .int v4] h (some (.int y.1)) y.2 := by
  refine am_beg (ls := [some (va_rf (some v0)), some (.int v1), some (.int v2), some (.int v3), some (.int v4)]) (by simp only [am_en, am_e1_r, am_e1_i, am_e1_l, am_e1_n]; rfl) ?_
  unfold fX8_even at hf
  refine am_aload_n dX8_even_0 rfl rfl ?_
  refine am_iload_n dX8_even_1 rfl rfl ?_
  refine am_iload_n dX8_even_2 rfl rfl ?_
  refine am_iload_n dX8_even_3 rfl rfl ?_
  refine am_cVi (As := [.int v1, .int v2, .int v3]) (st := []) lk_X8_even_200 rfl (Nat.le_of_ble_eq_true rfl) (Nat.le_of_ble_eq_true rfl) rfl dX8_even_4 rfl hf (fun b2 y1 hf => sfX8_startRun b2 _ _ _ _ y1 hf) (fun b2 y1 _ _ hf => ?_)
  refine am_if_ne (tgt := 13) dX8_even_7 (by decide) rfl hf (fun hf => ?_) (fun hf => ?_)
  · refine am_iload dX8_even_13 rfl rfl ?_
    refine am_iconst (v := 0) dX8_even_15 rfl rfl ?_
    refine am_iconst (v := 1) dX8_even_16 rfl rfl ?_
    refine am_cSi (As := [.int v4, .int (0 : Int32), .int (1 : Int32)]) (st := []) lk_X8_even_121 rfl (Nat.le_of_ble_eq_true rfl) (Nat.le_of_ble_eq_true rfl) rfl dX8_even_17 rfl hf (fun y3 hf => sfX8_isIn _ _ _ _ y3 hf) (fun y3 _ hf => ?_)
    refine am_if_ne (tgt := 26) dX8_even_20 (by decide) rfl hf (fun hf => ?_) (fun hf => ?_)
    · refine am_aload_n dX8_even_26 rfl rfl ?_
      refine am_gr_ dX8_even_27 fl_X8_62 rfl hf (fun x4 _ hf => ?_)
      refine am_bipush (v := 96) dX8_even_30 (by decide) rfl ?_
      refine am_cVv (As := [.int (96 : Int32)]) (st := []) lk_X8_even_209 rfl (Nat.le_of_ble_eq_true rfl) (Nat.le_of_ble_eq_true rfl) rfl dX8_even_32 rfl hf (fun b6 y5 hf => sfX5_goOnTo b6 _ _ y5 hf) (fun b6 y5 _ _ hf => ?_)
      refine am_iload dX8_even_35 rfl rfl ?_
      refine am_if_ne (tgt := 50) dX8_even_37 (by decide) rfl hf (fun hf => ?_) (fun hf => ?_)
      · refine am_aload_n dX8_even_50 rfl rfl ?_
        refine am_gr_ dX8_even_51 fl_X8_62 rfl hf (fun x7 _ hf => ?_)
        refine am_gi_ dX8_even_54 fl_X8_226 rfl hf (fun x8 _ hf => ?_)
        exact am_iret rfl dX8_even_57 hf
      refine am_aload_n dX8_even_40 rfl rfl ?_
      refine am_gr_ dX8_even_41 fl_X8_62 rfl hf (fun x9 _ hf => ?_)
      refine am_gi_ dX8_even_44 fl_X8_223 rfl hf (fun x10 _ hf => ?_)
      refine am_goto (pc' := 57) dX8_even_47 (by decide) ?_
      exact am_iret rfl dX8_even_57 hf
    refine am_bipush (v := -102) dX8_even_23 (by decide) rfl ?_
    exact am_iret rfl dX8_even_25 hf
  refine am_bipush (v := -101) dX8_even_10 (by decide) rfl ?_
  exact am_iret rfl dX8_even_12 hf
set_option maxRecDepth 20000 in
set_option maxHeartbeats 4000000 in
theorem sfX9_even {G : am_G}  (v0 : Nat) (v1 : Int32) (v2 : Int32) (v3 : Int32) (v4 : Int32) (h : am_H) (y : Int32 × am_H) (hf : fX9_even v0 v1 v2 v3 v4 h = some y) : am_Cn G miX9_even [va_rf (some v0), .int v1, .int v2, .int v3, .int v4] h (some (.int y.1)) y.2 := by
  refine am_beg (ls := [some (va_rf (some v0)), some (.int v1), some (.int v2), some (.int v3), some (.int v4)]) (by simp only [am_en, am_e1_r, am_e1_i, am_e1_l, am_e1_n]; rfl) ?_
  unfold fX9_even at hf
  refine am_aload_n dX9_even_0 rfl rfl ?_
  refine am_iload_n dX9_even_1 rfl rfl ?_
  refine am_iload_n dX9_even_2 rfl rfl ?_
  refine am_iload_n dX9_even_3 rfl rfl ?_
  refine am_cVi (As := [.int v1, .int v2, .int v3]) (st := []) lk_X9_even_277 rfl (Nat.le_of_ble_eq_true rfl) (Nat.le_of_ble_eq_true rfl) rfl dX9_even_4 rfl hf (fun b2 y1 hf => sfX9_isRun b2 _ _ _ _ y1 hf) (fun b2 y1 _ _ hf => ?_)
  refine am_if_ne (tgt := 13) dX9_even_7 (by decide) rfl hf (fun hf => ?_) (fun hf => ?_)
  · refine am_iload dX9_even_13 rfl rfl ?_
    refine am_iconst (v := 0) dX9_even_15 rfl rfl ?_
    refine am_iconst (v := 1) dX9_even_16 rfl rfl ?_
    refine am_cSi (As := [.int v4, .int (0 : Int32), .int (1 : Int32)]) (st := []) lk_X9_even_132 rfl (Nat.le_of_ble_eq_true rfl) (Nat.le_of_ble_eq_true rfl) rfl dX9_even_17 rfl hf (fun y3 hf => sfX9_within _ _ _ _ y3 hf) (fun y3 _ hf => ?_)
    refine am_if_ne (tgt := 26) dX9_even_20 (by decide) rfl hf (fun hf => ?_) (fun hf => ?_)
    · refine am_aload_n dX9_even_26 rfl rfl ?_
      refine am_iload_n dX9_even_27 rfl rfl ?_
      refine am_iload_n dX9_even_28 rfl rfl ?_
      refine am_iload_n dX9_even_29 rfl rfl ?_
      refine am_cVv (As := [.int v1, .int v2, .int v3]) (st := []) lk_X9_even_280 rfl (Nat.le_of_ble_eq_true rfl) (Nat.le_of_ble_eq_true rfl) rfl dX9_even_30 rfl hf (fun b5 y4 hf => sfX9_runAll b5 _ _ _ _ y4 hf) (fun b5 y4 _ _ hf => ?_)
      refine am_iload dX9_even_33 rfl rfl ?_
      refine am_if_ne (tgt := 45) dX9_even_35 (by decide) rfl hf (fun hf => ?_) (fun hf => ?_)
      · refine am_aload_n dX9_even_45 rfl rfl ?_
        refine am_gi_ dX9_even_46 fl_X9_255 rfl hf (fun x6 _ hf => ?_)
        exact am_iret rfl dX9_even_49 hf
      refine am_aload_n dX9_even_38 rfl rfl ?_
      refine am_gi_ dX9_even_39 fl_X9_252 rfl hf (fun x7 _ hf => ?_)
      refine am_goto (pc' := 49) dX9_even_42 (by decide) ?_
      exact am_iret rfl dX9_even_49 hf
    refine am_bipush (v := -102) dX9_even_23 (by decide) rfl ?_
    exact am_iret rfl dX9_even_25 hf
  refine am_bipush (v := -101) dX9_even_10 (by decide) rfl ?_
  exact am_iret rfl dX9_even_12 hf
set_option maxRecDepth 20000 in
set_option maxHeartbeats 4000000 in
theorem sfX5_errorSize {G : am_G}  (v0 : Nat) (v1 : Int32) (v2 : Int32) (h : am_H) (y : Int32 × am_H) (hf : fX5_errorSize v0 v1 v2 h = some y) : am_Cn G miX5_errorSize [va_rf (some v0), .int v1, .int v2] h (some (.int y.1)) y.2 := by
  refine am_beg (ls := [some (va_rf (some v0)), some (.int v1), some (.int v2)]) (by simp only [am_en, am_e1_r, am_e1_i, am_e1_l, am_e1_n]; rfl) ?_
  unfold fX5_errorSize at hf
  refine am_aload_n dX5_errorSize_0 rfl rfl ?_
  refine am_iload_n dX5_errorSize_1 rfl rfl ?_
  refine am_iload_n dX5_errorSize_2 rfl rfl ?_
  refine am_cVi (As := [.int v1, .int v2]) (st := []) lk_X5_errorSize_148 rfl (Nat.le_of_ble_eq_true rfl) (Nat.le_of_ble_eq_true rfl) rfl dX5_errorSize_3 rfl hf (fun b2 y1 hf => sfX5_errorOf b2 _ _ _ y1 hf) (fun b2 y1 _ _ hf => ?_)
  refine am_mabs ml_X5_151 st_abs in_Math co_abs (by decide) (Nat.le_of_ble_eq_true rfl) dX5_errorSize_6 rfl ?_
  exact am_iret rfl dX5_errorSize_9 hf
set_option maxRecDepth 20000 in
set_option maxHeartbeats 4000000 in
theorem sfX8_commonMeasure_7 {G : am_G}  : ∀ (n : Nat) (v2 : Int32) (v3 : Int32) (v4 : Int32) (h : am_H) (y : Int32 × am_H) (hf : fX8_commonMeasure_7  n v2 v3 v4 h = some y), am_S G miX8_commonMeasure 7 [none, none, some (.int v2), some (.int v3), some (.int v4), none] [] h (some (.int y.1)) y.2 := by
  intro n
  induction n with
  | zero => intro v2 v3 v4 h y hf; cases hf
  | succ n ih =>
    intro v2 v3 v4 h y hf
    have hf : fX8_commonMeasure_7_b  (fX8_commonMeasure_7  n) v2 v3 v4 h = some y := hf
    unfold fX8_commonMeasure_7_b at hf
    refine am_iload dX8_commonMeasure_7 rfl rfl ?_
    refine am_bipush (v := 100) dX8_commonMeasure_9 (by decide) rfl ?_
    refine am_icmp_ge (tgt := 34) dX8_commonMeasure_11 (by decide) rfl hf (fun hf => ?_) (fun hf => ?_)
    · refine am_iload_n dX8_commonMeasure_34 rfl rfl ?_
      exact am_iret rfl dX8_commonMeasure_35 hf
    refine am_iload_n dX8_commonMeasure_14 rfl rfl ?_
    refine am_if_le (tgt := 34) dX8_commonMeasure_15 (by decide) rfl hf (fun hf => ?_) (fun hf => ?_)
    · refine am_iload_n dX8_commonMeasure_34 rfl rfl ?_
      exact am_iret rfl dX8_commonMeasure_35 hf
    refine am_iload_n dX8_commonMeasure_18 rfl rfl ?_
    refine am_iload_n dX8_commonMeasure_19 rfl rfl ?_
    refine am_irem dX8_commonMeasure_20 rfl hf (fun hf => ?_)
    refine am_istore (ls' := [none, none, some (.int v2), some (.int v3), some (.int v4), some (.int (v2 - v2 / v3 * v3))]) dX8_commonMeasure_21 (by decide) rfl rfl ?_
    refine am_iload_n dX8_commonMeasure_23 rfl rfl ?_
    refine am_istore_n (ls' := [none, none, some (.int v3), some (.int v3), some (.int v4), some (.int (v2 - v2 / v3 * v3))]) dX8_commonMeasure_24 (by decide) rfl rfl ?_
    refine am_iload dX8_commonMeasure_25 rfl rfl ?_
    refine am_istore_n (ls' := [none, none, some (.int v3), some (.int (v2 - v2 / v3 * v3)), some (.int v4), some (.int (v2 - v2 / v3 * v3))]) dX8_commonMeasure_27 (by decide) rfl rfl ?_
    refine am_iinc (ls' := [none, none, some (.int v3), some (.int (v2 - v2 / v3 * v3)), some (.int (v4 + (1 : Int32))), some (.int (v2 - v2 / v3 * v3))]) dX8_commonMeasure_28 rfl rfl (by decide) rfl rfl ?_
    refine am_goto (pc' := 7) dX8_commonMeasure_31 (by decide) ?_
    exact am_we (ih _ _ _ _ _ hf) ⟨Or.inl rfl, Or.inl rfl, Or.inr rfl, Or.inr rfl, Or.inr rfl, Or.inl rfl, trivial⟩
set_option maxRecDepth 20000 in
set_option maxHeartbeats 4000000 in
theorem sfX8_commonMeasure {G : am_G}  (v0 : Int32) (v1 : Int32) (h : am_H) (y : Int32 × am_H) (hf : fX8_commonMeasure v0 v1 h = some y) : am_Cn G miX8_commonMeasure [.int v0, .int v1] h (some (.int y.1)) y.2 := by
  refine am_beg (ls := [some (.int v0), some (.int v1), none, none, none, none]) (by simp only [am_en, am_e1_r, am_e1_i, am_e1_l, am_e1_n]; rfl) ?_
  unfold fX8_commonMeasure at hf
  refine am_iload_n dX8_commonMeasure_0 rfl rfl ?_
  refine am_istore_n (ls' := [some (.int v0), some (.int v1), some (.int v0), none, none, none]) dX8_commonMeasure_1 (by decide) rfl rfl ?_
  refine am_iload_n dX8_commonMeasure_2 rfl rfl ?_
  refine am_istore_n (ls' := [some (.int v0), some (.int v1), some (.int v0), some (.int v1), none, none]) dX8_commonMeasure_3 (by decide) rfl rfl ?_
  refine am_iconst (v := 0) dX8_commonMeasure_4 rfl rfl ?_
  refine am_istore (ls' := [some (.int v0), some (.int v1), some (.int v0), some (.int v1), some (.int (0 : Int32)), none]) dX8_commonMeasure_5 (by decide) rfl rfl ?_
  exact am_we ((sfX8_commonMeasure_7 _) _ _ _ _ _ hf) ⟨Or.inl rfl, Or.inl rfl, Or.inr rfl, Or.inr rfl, Or.inr rfl, Or.inl rfl, trivial⟩
set_option maxRecDepth 20000 in
set_option maxHeartbeats 4000000 in
theorem sfX8_mean_105 {G : am_G}  (v5 : Int32) (v6 : Int32) (s0 : Int32) (h : am_H) (y : Int32 × am_H) (hf : fX8_mean_105  v5 v6 s0 h = some y) : am_S G miX8_mean 105 [none, none, none, none, none, some (.int v5), some (.int v6)] [.int s0] h (some (.int y.1)) y.2 := by
  unfold fX8_mean_105 at hf
  refine am_iload dX8_mean_105 rfl rfl ?_
  refine am_iload dX8_mean_107 rfl rfl ?_
  refine am_cSi (As := [.int v5, .int v6]) (st := [.int s0]) lk_X8_mean_235 rfl (Nat.le_of_ble_eq_true rfl) (Nat.le_of_ble_eq_true rfl) rfl dX8_mean_109 rfl hf (fun y1 hf => sfX8_commonMeasure _ _ _ y1 hf) (fun y1 _ hf => ?_)
  refine am_cSi (As := [.int s0, .int y1.1]) (st := []) lk_X8_mean_238 rfl (Nat.le_of_ble_eq_true rfl) (Nat.le_of_ble_eq_true rfl) rfl dX8_mean_112 rfl hf (fun y2 hf => sfX8_quotient _ _ _ y2 hf) (fun y2 _ hf => ?_)
  exact am_iret rfl dX8_mean_115 hf
set_option maxRecDepth 20000 in
set_option maxHeartbeats 4000000 in
theorem sfX8_mean_41 {G : am_G}  : ∀ (n : Nat) (v0 : Option Nat) (v2 : Int32) (v4 : Int32) (v5 : Int32) (v6 : Int32) (h : am_H) (y : Int32 × am_H) (hf : fX8_mean_41  n v0 v2 v4 v5 v6 h = some y), am_S G miX8_mean 41 [some (va_rf v0), none, some (.int v2), none, some (.int v4), some (.int v5), some (.int v6)] [] h (some (.int y.1)) y.2 := by
  intro n
  induction n with
  | zero => intro v0 v2 v4 v5 v6 h y hf; cases hf
  | succ n ih =>
    intro v0 v2 v4 v5 v6 h y hf
    have hf : fX8_mean_41_b  (fX8_mean_41  n) v0 v2 v4 v5 v6 h = some y := hf
    unfold fX8_mean_41_b at hf
    refine am_iload dX8_mean_41 rfl rfl ?_
    refine am_aload_n dX8_mean_43 rfl rfl ?_
    refine am_gr_ dX8_mean_44 fl_X8_62 rfl hf (fun x1 _ hf => ?_)
    refine am_gr_ dX8_mean_47 fl_X8_203 rfl hf (fun x2 _ hf => ?_)
    refine am_gi_ dX8_mean_50 fl_X8_229 rfl hf (fun x3 _ hf => ?_)
    refine am_icmp_ge (tgt := 81) dX8_mean_53 (by decide) rfl hf (fun hf => ?_) (fun hf => ?_)
    · refine am_aload_n dX8_mean_81 rfl rfl ?_
      refine am_gr_ dX8_mean_82 fl_X8_62 rfl hf (fun x4 _ hf => ?_)
      refine am_gr_ dX8_mean_85 fl_X8_203 rfl hf (fun x5 _ hf => ?_)
      refine am_gi_ dX8_mean_88 fl_X8_229 rfl hf (fun x6 _ hf => ?_)
      refine am_istore (ls' := [some (va_rf v0), none, some (.int v2), none, some (.int v4), some (.int v5), some (.int x6)]) dX8_mean_91 (by decide) rfl rfl ?_
      refine am_iload dX8_mean_93 rfl rfl ?_
      refine am_if_ne (tgt := 103) dX8_mean_95 (by decide) rfl hf (fun hf => ?_) (fun hf => ?_)
      · refine am_iload dX8_mean_103 rfl rfl ?_
        exact am_we (sfX8_mean_105 _ _ _ _ _ hf) ⟨Or.inl rfl, Or.inl rfl, Or.inl rfl, Or.inl rfl, Or.inl rfl, Or.inr rfl, Or.inr rfl, trivial⟩
      refine am_iload dX8_mean_98 rfl rfl ?_
      refine am_goto (pc' := 105) dX8_mean_100 (by decide) ?_
      exact am_we (sfX8_mean_105 _ _ _ _ _ hf) ⟨Or.inl rfl, Or.inl rfl, Or.inl rfl, Or.inl rfl, Or.inl rfl, Or.inr rfl, Or.inr rfl, trivial⟩
    refine am_iload dX8_mean_56 rfl rfl ?_
    refine am_aload_n dX8_mean_58 rfl rfl ?_
    refine am_gr_ dX8_mean_59 fl_X8_62 rfl hf (fun x7 _ hf => ?_)
    refine am_iload dX8_mean_62 rfl rfl ?_
    refine am_aload_n dX8_mean_64 rfl rfl ?_
    refine am_iload_n dX8_mean_65 rfl rfl ?_
    refine am_cVi (As := [.int v2]) (st := [.int v6, va_rf x7, .int v5]) lk_X8_mean_216 rfl (Nat.le_of_ble_eq_true rfl) (by simp only [List.map_cons, List.map_nil, am_c1, am_ci, am_cl]; exact Nat.le_of_ble_eq_true rfl) rfl dX8_mean_66 rfl hf (fun b9 y8 hf => sfX8_daylightOf b9 _ _ y8 hf) (fun b9 y8 _ _ hf => ?_)
    refine am_cVi (As := [.int v6, .int y8.1]) (st := [.int v5]) lk_X8_mean_232 rfl (Nat.le_of_ble_eq_true rfl) (Nat.le_of_ble_eq_true rfl) rfl dX8_mean_69 rfl hf (fun b11 y10 hf => sfX5_errorSize b11 _ _ _ y10 hf) (fun b11 y10 _ _ hf => ?_)
    refine am_iadd dX8_mean_72 rfl ?_
    refine am_istore (ls' := [some (va_rf v0), none, some (.int v2), none, some (.int v4), some (.int (v5 + y10.1)), some (.int v6)]) dX8_mean_73 (by decide) rfl rfl ?_
    refine am_iinc (ls' := [some (va_rf v0), none, some (.int v2), none, some (.int v4), some (.int (v5 + y10.1)), some (.int (v6 + (1 : Int32)))]) dX8_mean_75 rfl rfl (by decide) rfl rfl ?_
    refine am_goto (pc' := 41) dX8_mean_78 (by decide) ?_
    exact ih _ _ _ _ _ _ _ hf
set_option maxRecDepth 20000 in
set_option maxHeartbeats 4000000 in
theorem sfX8_mean {G : am_G}  (v0 : Nat) (v1 : Int32) (v2 : Int32) (v3 : Int32) (v4 : Int32) (h : am_H) (y : Int32 × am_H) (hf : fX8_mean v0 v1 v2 v3 v4 h = some y) : am_Cn G miX8_mean [va_rf (some v0), .int v1, .int v2, .int v3, .int v4] h (some (.int y.1)) y.2 := by
  refine am_beg (ls := [some (va_rf (some v0)), some (.int v1), some (.int v2), some (.int v3), some (.int v4), none, none]) (by simp only [am_en, am_e1_r, am_e1_i, am_e1_l, am_e1_n]; rfl) ?_
  unfold fX8_mean at hf
  refine am_aload_n dX8_mean_0 rfl rfl ?_
  refine am_iload_n dX8_mean_1 rfl rfl ?_
  refine am_iload_n dX8_mean_2 rfl rfl ?_
  refine am_iload_n dX8_mean_3 rfl rfl ?_
  refine am_cVi (As := [.int v1, .int v2, .int v3]) (st := []) lk_X8_mean_200 rfl (Nat.le_of_ble_eq_true rfl) (Nat.le_of_ble_eq_true rfl) rfl dX8_mean_4 rfl hf (fun b2 y1 hf => sfX8_startRun b2 _ _ _ _ y1 hf) (fun b2 y1 _ _ hf => ?_)
  refine am_if_ne (tgt := 13) dX8_mean_7 (by decide) rfl hf (fun hf => ?_) (fun hf => ?_)
  · refine am_iload dX8_mean_13 rfl rfl ?_
    refine am_iconst (v := 0) dX8_mean_15 rfl rfl ?_
    refine am_iconst (v := 1) dX8_mean_16 rfl rfl ?_
    refine am_cSi (As := [.int v4, .int (0 : Int32), .int (1 : Int32)]) (st := []) lk_X8_mean_121 rfl (Nat.le_of_ble_eq_true rfl) (Nat.le_of_ble_eq_true rfl) rfl dX8_mean_17 rfl hf (fun y3 hf => sfX8_isIn _ _ _ _ y3 hf) (fun y3 _ hf => ?_)
    refine am_if_ne (tgt := 26) dX8_mean_20 (by decide) rfl hf (fun hf => ?_) (fun hf => ?_)
    · refine am_aload_n dX8_mean_26 rfl rfl ?_
      refine am_gr_ dX8_mean_27 fl_X8_62 rfl hf (fun x4 _ hf => ?_)
      refine am_bipush (v := 96) dX8_mean_30 (by decide) rfl ?_
      refine am_cVv (As := [.int (96 : Int32)]) (st := []) lk_X8_mean_209 rfl (Nat.le_of_ble_eq_true rfl) (Nat.le_of_ble_eq_true rfl) rfl dX8_mean_32 rfl hf (fun b6 y5 hf => sfX5_goOnTo b6 _ _ y5 hf) (fun b6 y5 _ _ hf => ?_)
      refine am_iconst (v := 0) dX8_mean_35 rfl rfl ?_
      refine am_istore (ls' := [some (va_rf (some v0)), some (.int v1), some (.int v2), some (.int v3), some (.int v4), some (.int (0 : Int32)), none]) dX8_mean_36 (by decide) rfl rfl ?_
      refine am_iconst (v := 0) dX8_mean_38 rfl rfl ?_
      refine am_istore (ls' := [some (va_rf (some v0)), some (.int v1), some (.int v2), some (.int v3), some (.int v4), some (.int (0 : Int32)), some (.int (0 : Int32))]) dX8_mean_39 (by decide) rfl rfl ?_
      exact am_we ((sfX8_mean_41 _) _ _ _ _ _ _ _ hf) ⟨Or.inr rfl, Or.inl rfl, Or.inr rfl, Or.inl rfl, Or.inr rfl, Or.inr rfl, Or.inr rfl, trivial⟩
    refine am_bipush (v := -102) dX8_mean_23 (by decide) rfl ?_
    exact am_iret rfl dX8_mean_25 hf
  refine am_bipush (v := -101) dX8_mean_10 (by decide) rfl ?_
  exact am_iret rfl dX8_mean_12 hf
set_option maxRecDepth 20000 in
set_option maxHeartbeats 4000000 in
theorem sfX9_size {G : am_G}  (v0 : Int32) (h : am_H) (y : Int32 × am_H) (hf : fX9_size v0 h = some y) : am_Cn G miX9_size [.int v0] h (some (.int y.1)) y.2 := by
  refine am_beg (ls := [some (.int v0)]) (by simp only [am_en, am_e1_r, am_e1_i, am_e1_l, am_e1_n]; rfl) ?_
  unfold fX9_size at hf
  refine am_iload_n dX9_size_0 rfl rfl ?_
  refine am_if_ge (tgt := 9) dX9_size_1 (by decide) rfl hf (fun hf => ?_) (fun hf => ?_)
  · refine am_iload_n dX9_size_9 rfl rfl ?_
    exact am_iret rfl dX9_size_10 hf
  refine am_iload_n dX9_size_4 rfl rfl ?_
  refine am_ineg dX9_size_5 rfl ?_
  refine am_goto (pc' := 10) dX9_size_6 (by decide) ?_
  exact am_iret rfl dX9_size_10 hf
set_option maxRecDepth 20000 in
set_option maxHeartbeats 4000000 in
theorem sfX9_errors_5 {G : am_G}  : ∀ (n : Nat) (v0 : Option Nat) (v1 : Int32) (v2 : Int32) (v3 : Int32) (v4 : Int32) (h : am_H) (y : Int32 × am_H) (hf : fX9_errors_5  n v0 v1 v2 v3 v4 h = some y), am_S G miX9_errors 5 [some (va_rf v0), some (.int v1), some (.int v2), some (.int v3), some (.int v4)] [] h (some (.int y.1)) y.2 := by
  intro n
  induction n with
  | zero => intro v0 v1 v2 v3 v4 h y hf; cases hf
  | succ n ih =>
    intro v0 v1 v2 v3 v4 h y hf
    have hf : fX9_errors_5_b  (fX9_errors_5  n) v0 v1 v2 v3 v4 h = some y := hf
    unfold fX9_errors_5_b at hf
    refine am_iload dX9_errors_5 rfl rfl ?_
    refine am_aload_n dX9_errors_7 rfl rfl ?_
    refine am_gr_ dX9_errors_8 fl_X9_31 rfl hf (fun x1 _ hf => ?_)
    refine am_iload_n dX9_errors_11 rfl rfl ?_
    refine am_iald dX9_errors_12 rfl hf (fun x2 _ hf => ?_)
    refine am_icmp_ge (tgt := 36) dX9_errors_13 (by decide) rfl hf (fun hf => ?_) (fun hf => ?_)
    · refine am_iload_n dX9_errors_36 rfl rfl ?_
      exact am_iret rfl dX9_errors_37 hf
    refine am_iload_n dX9_errors_16 rfl rfl ?_
    refine am_aload_n dX9_errors_17 rfl rfl ?_
    refine am_iload_n dX9_errors_18 rfl rfl ?_
    refine am_iload_n dX9_errors_19 rfl rfl ?_
    refine am_iload dX9_errors_20 rfl rfl ?_
    refine am_cVi (As := [.int v1, .int v2, .int v4]) (st := [.int v3]) lk_X9_errors_286 rfl (Nat.le_of_ble_eq_true rfl) (Nat.le_of_ble_eq_true rfl) rfl dX9_errors_22 rfl hf (fun b4 y3 hf => sfX9_errorOf b4 _ _ _ _ y3 hf) (fun b4 y3 _ _ hf => ?_)
    refine am_cSi (As := [.int y3.1]) (st := [.int v3]) lk_X9_errors_290 rfl (Nat.le_of_ble_eq_true rfl) (Nat.le_of_ble_eq_true rfl) rfl dX9_errors_25 rfl hf (fun y5 hf => sfX9_size _ _ y5 hf) (fun y5 _ hf => ?_)
    refine am_iadd dX9_errors_28 rfl ?_
    refine am_istore_n (ls' := [some (va_rf v0), some (.int v1), some (.int v2), some (.int (v3 + y5.1)), some (.int v4)]) dX9_errors_29 (by decide) rfl rfl ?_
    refine am_iinc (ls' := [some (va_rf v0), some (.int v1), some (.int v2), some (.int (v3 + y5.1)), some (.int (v4 + (1 : Int32)))]) dX9_errors_30 rfl rfl (by decide) rfl rfl ?_
    refine am_goto (pc' := 5) dX9_errors_33 (by decide) ?_
    exact ih _ _ _ _ _ _ _ hf
set_option maxRecDepth 20000 in
set_option maxHeartbeats 4000000 in
theorem sfX9_errors {G : am_G}  (v0 : Nat) (v1 : Int32) (v2 : Int32) (h : am_H) (y : Int32 × am_H) (hf : fX9_errors v0 v1 v2 h = some y) : am_Cn G miX9_errors [va_rf (some v0), .int v1, .int v2] h (some (.int y.1)) y.2 := by
  refine am_beg (ls := [some (va_rf (some v0)), some (.int v1), some (.int v2), none, none]) (by simp only [am_en, am_e1_r, am_e1_i, am_e1_l, am_e1_n]; rfl) ?_
  unfold fX9_errors at hf
  refine am_iconst (v := 0) dX9_errors_0 rfl rfl ?_
  refine am_istore_n (ls' := [some (va_rf (some v0)), some (.int v1), some (.int v2), some (.int (0 : Int32)), none]) dX9_errors_1 (by decide) rfl rfl ?_
  refine am_iconst (v := 0) dX9_errors_2 rfl rfl ?_
  refine am_istore (ls' := [some (va_rf (some v0)), some (.int v1), some (.int v2), some (.int (0 : Int32)), some (.int (0 : Int32))]) dX9_errors_3 (by decide) rfl rfl ?_
  exact (sfX9_errors_5 _) _ _ _ _ _ _ _ hf
set_option maxRecDepth 20000 in
set_option maxHeartbeats 4000000 in
theorem sfX9_mean_53 {G : am_G}  : ∀ (n : Nat) (v0 : Option Nat) (v1 : Int32) (v4 : Int32) (v5 : Int32) (v6 : Int32) (v7 : Int32) (h : am_H) (y : Int32 × am_H) (hf : fX9_mean_53  n v0 v1 v4 v5 v6 v7 h = some y), am_S G miX9_mean 53 [some (va_rf v0), some (.int v1), none, none, some (.int v4), some (.int v5), some (.int v6), some (.int v7), none] [] h (some (.int y.1)) y.2 := by
  intro n
  induction n with
  | zero => intro v0 v1 v4 v5 v6 v7 h y hf; cases hf
  | succ n ih =>
    intro v0 v1 v4 v5 v6 v7 h y hf
    have hf : fX9_mean_53_b  (fX9_mean_53  n) v0 v1 v4 v5 v6 v7 h = some y := hf
    unfold fX9_mean_53_b at hf
    refine am_iload dX9_mean_53 rfl rfl ?_
    refine am_if_eq (tgt := 76) dX9_mean_55 (by decide) rfl hf (fun hf => ?_) (fun hf => ?_)
    · refine am_iload dX9_mean_76 rfl rfl ?_
      refine am_if_ne (tgt := 89) dX9_mean_78 (by decide) rfl hf (fun hf => ?_) (fun hf => ?_)
      · refine am_aload_n dX9_mean_89 rfl rfl ?_
        refine am_gr_ dX9_mean_90 fl_X9_31 rfl hf (fun x1 _ hf => ?_)
        refine am_iload_n dX9_mean_93 rfl rfl ?_
        refine am_iald dX9_mean_94 rfl hf (fun x2 _ hf => ?_)
        refine am_iload dX9_mean_95 rfl rfl ?_
        refine am_idiv dX9_mean_97 rfl hf (fun hf => ?_)
        exact am_iret rfl dX9_mean_98 hf
      refine am_iload dX9_mean_81 rfl rfl ?_
      refine am_iload dX9_mean_83 rfl rfl ?_
      refine am_idiv dX9_mean_85 rfl hf (fun hf => ?_)
      refine am_goto (pc' := 98) dX9_mean_86 (by decide) ?_
      exact am_iret rfl dX9_mean_98 hf
    refine am_iload dX9_mean_58 rfl rfl ?_
    refine am_iload dX9_mean_60 rfl rfl ?_
    refine am_irem dX9_mean_62 rfl hf (fun hf => ?_)
    refine am_istore (ls' := [some (va_rf v0), some (.int v1), none, none, some (.int v4), some (.int v5), some (.int v6), some (.int v7), some (.int (v6 - v6 / v7 * v7))]) dX9_mean_63 (by decide) rfl rfl ?_
    refine am_iload dX9_mean_65 rfl rfl ?_
    refine am_istore (ls' := [some (va_rf v0), some (.int v1), none, none, some (.int v4), some (.int v5), some (.int v7), some (.int v7), some (.int (v6 - v6 / v7 * v7))]) dX9_mean_67 (by decide) rfl rfl ?_
    refine am_iload dX9_mean_69 rfl rfl ?_
    refine am_istore (ls' := [some (va_rf v0), some (.int v1), none, none, some (.int v4), some (.int v5), some (.int v7), some (.int (v6 - v6 / v7 * v7)), some (.int (v6 - v6 / v7 * v7))]) dX9_mean_71 (by decide) rfl rfl ?_
    refine am_goto (pc' := 53) dX9_mean_73 (by decide) ?_
    exact am_we (ih _ _ _ _ _ _ _ _ hf) ⟨Or.inr rfl, Or.inr rfl, Or.inl rfl, Or.inl rfl, Or.inr rfl, Or.inr rfl, Or.inr rfl, Or.inr rfl, Or.inl rfl, trivial⟩
