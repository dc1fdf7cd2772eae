/-! printed proofs of the printed functions, 11 -/
set_option maxRecDepth 20000 in
set_option maxHeartbeats 4000000 in
theorem sfX8_which_59 {G : am_G}  : ∀ (n : Nat) (v0 : Option Nat) (v1 : Int32) (v2 : Int32) (v3 : Int32) (v4 : Int32) (h : am_H) (y : Int32 × am_H) (hf : fX8_which_59  n v0 v1 v2 v3 v4 h = some y), am_S G miX8_which 59 [some (va_rf v0), some (.int v1), some (.int v2), some (.int v3), some (.int v4)] [] h (some (.int y.1)) y.2 := by
  intro n
  induction n with
  | zero => intro v0 v1 v2 v3 v4 h y hf; cases hf
  | succ n ih =>
    intro v0 v1 v2 v3 v4 h y hf
    have hf : fX8_which_59_b  (fX8_which_59  n) v0 v1 v2 v3 v4 h = some y := hf
    unfold fX8_which_59_b at hf
    refine am_iload dX8_which_59 rfl rfl ?_
    refine am_aload_n dX8_which_61 rfl rfl ?_
    refine am_gi_ dX8_which_62 fl_X8_156 rfl hf (fun x1 _ hf => ?_)
    refine am_icmp_ge (tgt := 103) dX8_which_65 (by decide) rfl hf (fun hf => ?_) (fun hf => ?_)
    · refine am_iload_n dX8_which_103 rfl rfl ?_
      exact am_iret rfl dX8_which_104 hf
    refine am_aload_n dX8_which_68 rfl rfl ?_
    refine am_iload_n dX8_which_69 rfl rfl ?_
    refine am_iload_n dX8_which_70 rfl rfl ?_
    refine am_iload dX8_which_71 rfl rfl ?_
    refine am_cVi (As := [.int v1, .int v2, .int v4]) (st := []) lk_X8_which_200 rfl (Nat.le_of_ble_eq_true rfl) (Nat.le_of_ble_eq_true rfl) rfl dX8_which_73 rfl hf (fun b3 y2 hf => sfX8_startRun b3 _ _ _ _ y2 hf) (fun b3 y2 _ _ hf => ?_)
    refine am_if_eq (tgt := 97) dX8_which_76 (by decide) rfl hf (fun hf => ?_) (fun hf => ?_)
    · exact (sfX8_which_97 ih) _ _ _ _ _ _ _ hf
    refine am_aload_n dX8_which_79 rfl rfl ?_
    refine am_aload_n dX8_which_80 rfl rfl ?_
    refine am_gr_ dX8_which_81 fl_X8_62 rfl hf (fun x4 _ hf => ?_)
    refine am_cVi (As := [va_rf x4]) (st := []) lk_X8_which_278 rfl (by simp only [am_e1_r, am_e1_i, am_e1_l, am_e1_n]; exact Nat.le_of_ble_eq_true rfl) (Nat.le_of_ble_eq_true rfl) rfl dX8_which_84 rfl hf (fun b6 y5 hf => sfX8_agreesFromHere b6 _ _ y5 hf) (fun b6 y5 _ _ hf => ?_)
    refine am_if_eq (tgt := 97) dX8_which_87 (by decide) rfl hf (fun hf => ?_) (fun hf => ?_)
    · exact (sfX8_which_97 ih) _ _ _ _ _ _ _ hf
    refine am_iload_n dX8_which_90 rfl rfl ?_
    refine am_iconst (v := 1) dX8_which_91 rfl rfl ?_
    refine am_iload dX8_which_92 rfl rfl ?_
    refine am_ishl dX8_which_94 rfl ?_
    refine am_ior dX8_which_95 rfl ?_
    refine am_istore_n (ls' := [some (va_rf v0), some (.int v1), some (.int v2), some (.int (v3 ||| ((1 : Int32) <<< (v4 &&& 31)))), some (.int v4)]) dX8_which_96 (by decide) rfl rfl ?_
    exact (sfX8_which_97 ih) _ _ _ _ _ _ _ hf
set_option maxRecDepth 20000 in
set_option maxHeartbeats 4000000 in
theorem sfX8_which_55 {G : am_G}  (v0 : Option Nat) (v1 : Int32) (v2 : Int32) (s0 : Int32) (h : am_H) (y : Int32 × am_H) (hf : fX8_which_55  v0 v1 v2 s0 h = some y) : am_S G miX8_which 55 [some (va_rf v0), some (.int v1), some (.int v2), none, none] [.int s0] h (some (.int y.1)) y.2 := by
  unfold fX8_which_55 at hf
  refine am_istore_n (ls' := [some (va_rf v0), some (.int v1), some (.int v2), some (.int s0), none]) dX8_which_55 (by decide) rfl rfl ?_
  refine am_iconst (v := 0) dX8_which_56 rfl rfl ?_
  refine am_istore (ls' := [some (va_rf v0), some (.int v1), some (.int v2), some (.int s0), some (.int (0 : Int32))]) dX8_which_57 (by decide) rfl rfl ?_
  exact (sfX8_which_59 _) _ _ _ _ _ _ _ hf
set_option maxRecDepth 20000 in
set_option maxHeartbeats 4000000 in
theorem sfX8_which {G : am_G}  (v0 : Nat) (v1 : Int32) (v2 : Int32) (h : am_H) (y : Int32 × am_H) (hf : fX8_which v0 v1 v2 h = some y) : am_Cn G miX8_which [va_rf (some v0), .int v1, .int v2] h (some (.int y.1)) y.2 := by
  refine am_beg (ls := [some (va_rf (some v0)), some (.int v1), some (.int v2), none, none]) (by simp only [am_en, am_e1_r, am_e1_i, am_e1_l, am_e1_n]; rfl) ?_
  unfold fX8_which at hf
  refine am_aload_n dX8_which_0 rfl rfl ?_
  refine am_iload_n dX8_which_1 rfl rfl ?_
  refine am_iload_n dX8_which_2 rfl rfl ?_
  refine am_iconst (v := -1) dX8_which_3 rfl rfl ?_
  refine am_cVi (As := [.int v1, .int v2, .int (-1 : Int32)]) (st := []) lk_X8_which_200 rfl (Nat.le_of_ble_eq_true rfl) (Nat.le_of_ble_eq_true rfl) rfl dX8_which_4 rfl hf (fun b2 y1 hf => sfX8_startRun b2 _ _ _ _ y1 hf) (fun b2 y1 _ _ hf => ?_)
  refine am_if_ne (tgt := 13) dX8_which_7 (by decide) rfl hf (fun hf => ?_) (fun hf => ?_)
  · refine am_aload_n dX8_which_13 rfl rfl ?_
    refine am_gr_ dX8_which_14 fl_X8_79 rfl hf (fun x3 _ hf => ?_)
    refine am_aload_n dX8_which_17 rfl rfl ?_
    refine am_gr_ dX8_which_18 fl_X8_37 rfl hf (fun x4 _ hf => ?_)
    refine am_gr_ dX8_which_21 fl_X8_271 rfl hf (fun x5 _ hf => ?_)
    refine am_aload_n dX8_which_24 rfl rfl ?_
    refine am_gr_ dX8_which_25 fl_X8_62 rfl hf (fun x6 _ hf => ?_)
    refine am_gr_ dX8_which_28 fl_X8_203 rfl hf (fun x7 _ hf => ?_)
    refine am_gi_ dX8_which_31 fl_X8_229 rfl hf (fun x8 _ hf => ?_)
    refine am_cVv (As := [va_rf x5, .int x8]) (st := []) lk_X8_which_274 rfl (by simp only [am_e1_r, am_e1_i, am_e1_l, am_e1_n]; exact Nat.le_of_ble_eq_true rfl) (Nat.le_of_ble_eq_true rfl) rfl dX8_which_34 rfl hf (fun b10 y9 hf => sfX1_gather b10 _ _ _ y9 hf) (fun b10 y9 _ _ hf => ?_)
    refine am_aload_n dX8_which_37 rfl rfl ?_
    refine am_aload_n dX8_which_38 rfl rfl ?_
    refine am_gr_ dX8_which_39 fl_X8_62 rfl hf (fun x11 _ hf => ?_)
    refine am_cVi (As := [va_rf x11]) (st := []) lk_X8_which_278 rfl (by simp only [am_e1_r, am_e1_i, am_e1_l, am_e1_n]; exact Nat.le_of_ble_eq_true rfl) (Nat.le_of_ble_eq_true rfl) rfl dX8_which_42 rfl hf (fun b13 y12 hf => sfX8_agreesFromHere b13 _ _ y12 hf) (fun b13 y12 _ _ hf => ?_)
    refine am_if_eq (tgt := 54) dX8_which_45 (by decide) rfl hf (fun hf => ?_) (fun hf => ?_)
    · refine am_iconst (v := 0) dX8_which_54 rfl rfl ?_
      exact sfX8_which_55 _ _ _ _ _ _ hf
    refine am_sipush (v := 256) dX8_which_48 (by decide) rfl ?_
    refine am_goto (pc' := 55) dX8_which_51 (by decide) ?_
    exact sfX8_which_55 _ _ _ _ _ _ hf
  refine am_bipush (v := -101) dX8_which_10 (by decide) rfl ?_
  exact am_iret rfl dX8_which_12 hf
set_option maxRecDepth 20000 in
set_option maxHeartbeats 4000000 in
theorem sfX9_which_73 {G : am_G}  {k39 : Option Nat → Int32 → Int32 → Int32 → Int32 → am_H → Option (Int32 × am_H)} (hk39 : ∀ (v0 : Option Nat) (v1 : Int32) (v2 : Int32) (v3 : Int32) (v4 : Int32) (h : am_H) (y : Int32 × am_H), k39 v0 v1 v2 v3 v4 h = some y → am_S G miX9_which 39 [some (va_rf v0), some (.int v1), some (.int v2), some (.int v3), some (.int v4)] [] h (some (.int y.1)) y.2) (v0 : Option Nat) (v1 : Int32) (v2 : Int32) (v4 : Int32) (s0 : Int32) (s1 : Int32) (h : am_H) (y : Int32 × am_H) (hf : fX9_which_73 k39 v0 v1 v2 v4 s0 s1 h = some y) : am_S G miX9_which 73 [some (va_rf v0), some (.int v1), some (.int v2), none, some (.int v4)] [.int s1, .int s0] h (some (.int y.1)) y.2 := by
  unfold fX9_which_73 at hf
  refine am_ior dX9_which_73 rfl ?_
  refine am_istore_n (ls' := [some (va_rf v0), some (.int v1), some (.int v2), some (.int (s0 ||| s1)), some (.int v4)]) dX9_which_74 (by decide) rfl rfl ?_
  refine am_iinc (ls' := [some (va_rf v0), some (.int v1), some (.int v2), some (.int (s0 ||| s1)), some (.int (v4 + (1 : Int32)))]) dX9_which_75 rfl rfl (by decide) rfl rfl ?_
  refine am_goto (pc' := 39) dX9_which_78 (by decide) ?_
  exact hk39 _ _ _ _ _ _ _ hf
set_option maxRecDepth 20000 in
set_option maxHeartbeats 4000000 in
theorem sfX9_which_39 {G : am_G}  : ∀ (n : Nat) (v0 : Option Nat) (v1 : Int32) (v2 : Int32) (v3 : Int32) (v4 : Int32) (h : am_H) (y : Int32 × am_H) (hf : fX9_which_39  n v0 v1 v2 v3 v4 h = some y), am_S G miX9_which 39 [some (va_rf v0), some (.int v1), some (.int v2), some (.int v3), some (.int v4)] [] h (some (.int y.1)) y.2 := by
  intro n
  induction n with
  | zero => intro v0 v1 v2 v3 v4 h y hf; cases hf
  | succ n ih =>
    intro v0 v1 v2 v3 v4 h y hf
    have hf : fX9_which_39_b  (fX9_which_39  n) v0 v1 v2 v3 v4 h = some y := hf
    unfold fX9_which_39_b at hf
    refine am_iload dX9_which_39 rfl rfl ?_
    refine am_aload_n dX9_which_41 rfl rfl ?_
    refine am_gi_ dX9_which_42 fl_X9_191 rfl hf (fun x1 _ hf => ?_)
    refine am_icmp_ge (tgt := 81) dX9_which_45 (by decide) rfl hf (fun hf => ?_) (fun hf => ?_)
    · refine am_iload_n dX9_which_81 rfl rfl ?_
      exact am_iret rfl dX9_which_82 hf
    refine am_aload_n dX9_which_48 rfl rfl ?_
    refine am_iload_n dX9_which_49 rfl rfl ?_
    refine am_iload_n dX9_which_50 rfl rfl ?_
    refine am_iload dX9_which_51 rfl rfl ?_
    refine am_cVv (As := [.int v1, .int v2, .int v4]) (st := []) lk_X9_which_280 rfl (Nat.le_of_ble_eq_true rfl) (Nat.le_of_ble_eq_true rfl) rfl dX9_which_53 rfl hf (fun b3 y2 hf => sfX9_runAll b3 _ _ _ _ y2 hf) (fun b3 y2 _ _ hf => ?_)
    refine am_iload_n dX9_which_56 rfl rfl ?_
    refine am_aload_n dX9_which_57 rfl rfl ?_
    refine am_iload_n dX9_which_58 rfl rfl ?_
    refine am_cVi (As := [.int v1]) (st := [.int v3]) lk_X9_which_338 rfl (Nat.le_of_ble_eq_true rfl) (Nat.le_of_ble_eq_true rfl) rfl dX9_which_59 rfl hf (fun b5 y4 hf => sfX9_agreesNow b5 _ _ y4 hf) (fun b5 y4 _ _ hf => ?_)
    refine am_if_eq (tgt := 72) dX9_which_62 (by decide) rfl hf (fun hf => ?_) (fun hf => ?_)
    · refine am_iconst (v := 0) dX9_which_72 rfl rfl ?_
      exact am_we ((sfX9_which_73 ih) _ _ _ _ _ _ _ _ hf) ⟨Or.inr rfl, Or.inr rfl, Or.inr rfl, Or.inl rfl, Or.inr rfl, trivial⟩
    refine am_iconst (v := 1) dX9_which_65 rfl rfl ?_
    refine am_iload dX9_which_66 rfl rfl ?_
    refine am_ishl dX9_which_68 rfl ?_
    refine am_goto (pc' := 73) dX9_which_69 (by decide) ?_
    exact am_we ((sfX9_which_73 ih) _ _ _ _ _ _ _ _ hf) ⟨Or.inr rfl, Or.inr rfl, Or.inr rfl, Or.inl rfl, Or.inr rfl, trivial⟩
set_option maxRecDepth 20000 in
set_option maxHeartbeats 4000000 in
theorem sfX9_which_35 {G : am_G}  (v0 : Option Nat) (v1 : Int32) (v2 : Int32) (s0 : Int32) (h : am_H) (y : Int32 × am_H) (hf : fX9_which_35  v0 v1 v2 s0 h = some y) : am_S G miX9_which 35 [some (va_rf v0), some (.int v1), some (.int v2), none, none] [.int s0] h (some (.int y.1)) y.2 := by
  unfold fX9_which_35 at hf
  refine am_istore_n (ls' := [some (va_rf v0), some (.int v1), some (.int v2), some (.int s0), none]) dX9_which_35 (by decide) rfl rfl ?_
  refine am_iconst (v := 0) dX9_which_36 rfl rfl ?_
  refine am_istore (ls' := [some (va_rf v0), some (.int v1), some (.int v2), some (.int s0), some (.int (0 : Int32))]) dX9_which_37 (by decide) rfl rfl ?_
  exact (sfX9_which_39 _) _ _ _ _ _ _ _ hf
set_option maxRecDepth 20000 in
set_option maxHeartbeats 4000000 in
theorem sfX9_which {G : am_G}  (v0 : Nat) (v1 : Int32) (v2 : Int32) (h : am_H) (y : Int32 × am_H) (hf : fX9_which v0 v1 v2 h = some y) : am_Cn G miX9_which [va_rf (some v0), .int v1, .int v2] h (some (.int y.1)) y.2 := by
  refine am_beg (ls := [some (va_rf (some v0)), some (.int v1), some (.int v2), none, none]) (by simp only [am_en, am_e1_r, am_e1_i, am_e1_l, am_e1_n]; rfl) ?_
  unfold fX9_which at hf
  refine am_aload_n dX9_which_0 rfl rfl ?_
  refine am_iload_n dX9_which_1 rfl rfl ?_
  refine am_iload_n dX9_which_2 rfl rfl ?_
  refine am_iconst (v := -1) dX9_which_3 rfl rfl ?_
  refine am_cVi (As := [.int v1, .int v2, .int (-1 : Int32)]) (st := []) lk_X9_which_277 rfl (Nat.le_of_ble_eq_true rfl) (Nat.le_of_ble_eq_true rfl) rfl dX9_which_4 rfl hf (fun b2 y1 hf => sfX9_isRun b2 _ _ _ _ y1 hf) (fun b2 y1 _ _ hf => ?_)
  refine am_if_ne (tgt := 13) dX9_which_7 (by decide) rfl hf (fun hf => ?_) (fun hf => ?_)
  · refine am_aload_n dX9_which_13 rfl rfl ?_
    refine am_iload_n dX9_which_14 rfl rfl ?_
    refine am_iload_n dX9_which_15 rfl rfl ?_
    refine am_iconst (v := -1) dX9_which_16 rfl rfl ?_
    refine am_cVv (As := [.int v1, .int v2, .int (-1 : Int32)]) (st := []) lk_X9_which_280 rfl (Nat.le_of_ble_eq_true rfl) (Nat.le_of_ble_eq_true rfl) rfl dX9_which_17 rfl hf (fun b4 y3 hf => sfX9_runAll b4 _ _ _ _ y3 hf) (fun b4 y3 _ _ hf => ?_)
    refine am_aload_n dX9_which_20 rfl rfl ?_
    refine am_iload_n dX9_which_21 rfl rfl ?_
    refine am_cVi (As := [.int v1]) (st := []) lk_X9_which_338 rfl (Nat.le_of_ble_eq_true rfl) (Nat.le_of_ble_eq_true rfl) rfl dX9_which_22 rfl hf (fun b6 y5 hf => sfX9_agreesNow b6 _ _ y5 hf) (fun b6 y5 _ _ hf => ?_)
    refine am_if_eq (tgt := 34) dX9_which_25 (by decide) rfl hf (fun hf => ?_) (fun hf => ?_)
    · refine am_iconst (v := 0) dX9_which_34 rfl rfl ?_
      exact sfX9_which_35 _ _ _ _ _ _ hf
    refine am_sipush (v := 256) dX9_which_28 (by decide) rfl ?_
    refine am_goto (pc' := 35) dX9_which_31 (by decide) ?_
    exact sfX9_which_35 _ _ _ _ _ _ hf
  refine am_bipush (v := -101) dX9_which_10 (by decide) rfl ?_
  exact am_iret rfl dX9_which_12 hf
set_option maxRecDepth 20000 in
set_option maxHeartbeats 4000000 in
theorem sfX5_branchFrom_104 {G : am_G}  : ∀ (n : Nat) (v0 : Option Nat) (v1 : Option Nat) (v3 : Int32) (h : am_H) (y : am_H) (hf : fX5_branchFrom_104  n v0 v1 v3 h = some y), am_S G miX5_branchFrom 104 [some (va_rf v0), some (va_rf v1), none, some (.int v3)] [] h none y := by
  intro n
  induction n with
  | zero => intro v0 v1 v3 h y hf; cases hf
  | succ n ih =>
    intro v0 v1 v3 h y hf
    have hf : fX5_branchFrom_104_b  (fX5_branchFrom_104  n) v0 v1 v3 h = some y := hf
    unfold fX5_branchFrom_104_b at hf
    refine am_iload_n dX5_branchFrom_104 rfl rfl ?_
    refine am_bipush (v := 12) dX5_branchFrom_105 (by decide) rfl ?_
    refine am_icmp_ge (tgt := 128) dX5_branchFrom_107 (by decide) rfl hf (fun hf => ?_) (fun hf => ?_)
    · refine am_aload_n dX5_branchFrom_128 rfl rfl ?_
      refine am_aload_n dX5_branchFrom_129 rfl rfl ?_
      refine am_gi_ dX5_branchFrom_130 fl_X5_62 rfl hf (fun x1 _ hf => ?_)
      refine am_pi_ dX5_branchFrom_133 fl_X5_62 fp_5_12 (fun z => by cases z) rfl hf (fun h2 _ hf => ?_)
      refine am_aload_n dX5_branchFrom_136 rfl rfl ?_
      refine am_aload_n dX5_branchFrom_137 rfl rfl ?_
      refine am_gi_ dX5_branchFrom_138 fl_X5_65 rfl hf (fun x3 _ hf => ?_)
      refine am_pi_ dX5_branchFrom_141 fl_X5_65 fp_5_13 (fun z => by cases z) rfl hf (fun h4 _ hf => ?_)
      exact am_vret rfl dX5_branchFrom_144 hf
    refine am_aload_n dX5_branchFrom_110 rfl rfl ?_
    refine am_gr_ dX5_branchFrom_111 fl_X5_15 rfl hf (fun x5 _ hf => ?_)
    refine am_iload_n dX5_branchFrom_114 rfl rfl ?_
    refine am_aload_n dX5_branchFrom_115 rfl rfl ?_
    refine am_gr_ dX5_branchFrom_116 fl_X5_15 rfl hf (fun x6 _ hf => ?_)
    refine am_iload_n dX5_branchFrom_119 rfl rfl ?_
    refine am_iald dX5_branchFrom_120 rfl hf (fun x7 _ hf => ?_)
    refine am_iast dX5_branchFrom_121 rfl hf (fun h8 _ hf => ?_)
    refine am_iinc (ls' := [some (va_rf v0), some (va_rf v1), none, some (.int (v3 + (1 : Int32)))]) dX5_branchFrom_122 rfl rfl (by decide) rfl rfl ?_
    refine am_goto (pc' := 104) dX5_branchFrom_125 (by decide) ?_
    exact ih _ _ _ _ _ hf
set_option maxRecDepth 20000 in
set_option maxHeartbeats 4000000 in
theorem sfX5_branchFrom_31 {G : am_G}  : ∀ (n : Nat) (v0 : Option Nat) (v1 : Option Nat) (v3 : Int32) (h : am_H) (y : am_H) (hf : fX5_branchFrom_31  n v0 v1 v3 h = some y), am_S G miX5_branchFrom 31 [some (va_rf v0), some (va_rf v1), none, some (.int v3)] [] h none y := by
  intro n
  induction n with
  | zero => intro v0 v1 v3 h y hf; cases hf
  | succ n ih =>
    intro v0 v1 v3 h y hf
    have hf : fX5_branchFrom_31_b  (fX5_branchFrom_31  n) v0 v1 v3 h = some y := hf
    unfold fX5_branchFrom_31_b at hf
    refine am_iload_n dX5_branchFrom_31 rfl rfl ?_
    refine am_iconst (v := 3) dX5_branchFrom_32 rfl rfl ?_
    refine am_icmp_ge (tgt := 54) dX5_branchFrom_33 (by decide) rfl hf (fun hf => ?_) (fun hf => ?_)
    · refine am_aload_n dX5_branchFrom_54 rfl rfl ?_
      refine am_aload_n dX5_branchFrom_55 rfl rfl ?_
      refine am_gi_ dX5_branchFrom_56 fl_X5_38 rfl hf (fun x1 _ hf => ?_)
      refine am_pi_ dX5_branchFrom_59 fl_X5_38 fp_5_5 (fun z => by cases z) rfl hf (fun h2 _ hf => ?_)
      refine am_aload_n dX5_branchFrom_62 rfl rfl ?_
      refine am_aload_n dX5_branchFrom_63 rfl rfl ?_
      refine am_gi_ dX5_branchFrom_64 fl_X5_41 rfl hf (fun x3 _ hf => ?_)
      refine am_pi_ dX5_branchFrom_67 fl_X5_41 fp_5_6 (fun z => by cases z) rfl hf (fun h4 _ hf => ?_)
      refine am_aload_n dX5_branchFrom_70 rfl rfl ?_
      refine am_aload_n dX5_branchFrom_71 rfl rfl ?_
      refine am_gi_ dX5_branchFrom_72 fl_X5_44 rfl hf (fun x5 _ hf => ?_)
      refine am_pi_ dX5_branchFrom_75 fl_X5_44 fp_5_7 (fun z => by cases z) rfl hf (fun h6 _ hf => ?_)
      refine am_aload_n dX5_branchFrom_78 rfl rfl ?_
      refine am_aload_n dX5_branchFrom_79 rfl rfl ?_
      refine am_gi_ dX5_branchFrom_80 fl_X5_47 rfl hf (fun x7 _ hf => ?_)
      refine am_pi_ dX5_branchFrom_83 fl_X5_47 fp_5_8 (fun z => by cases z) rfl hf (fun h8 _ hf => ?_)
      refine am_aload_n dX5_branchFrom_86 rfl rfl ?_
      refine am_aload_n dX5_branchFrom_87 rfl rfl ?_
      refine am_gi_ dX5_branchFrom_88 fl_X5_50 rfl hf (fun x9 _ hf => ?_)
      refine am_pi_ dX5_branchFrom_91 fl_X5_50 fp_5_9 (fun z => by cases z) rfl hf (fun h10 _ hf => ?_)
      refine am_aload_n dX5_branchFrom_94 rfl rfl ?_
      refine am_aload_n dX5_branchFrom_95 rfl rfl ?_
      refine am_gi_ dX5_branchFrom_96 fl_X5_53 rfl hf (fun x11 _ hf => ?_)
      refine am_pi_ dX5_branchFrom_99 fl_X5_53 fp_5_10 (fun z => by cases z) rfl hf (fun h12 _ hf => ?_)
      refine am_iconst (v := 0) dX5_branchFrom_102 rfl rfl ?_
      refine am_istore_n (ls' := [some (va_rf v0), some (va_rf v1), none, some (.int (0 : Int32))]) dX5_branchFrom_103 (by decide) rfl rfl ?_
      exact (sfX5_branchFrom_104 _) _ _ _ _ _ hf
    refine am_aload_n dX5_branchFrom_36 rfl rfl ?_
    refine am_gr_ dX5_branchFrom_37 fl_X5_9 rfl hf (fun x13 _ hf => ?_)
    refine am_iload_n dX5_branchFrom_40 rfl rfl ?_
    refine am_aload_n dX5_branchFrom_41 rfl rfl ?_
    refine am_gr_ dX5_branchFrom_42 fl_X5_9 rfl hf (fun x14 _ hf => ?_)
    refine am_iload_n dX5_branchFrom_45 rfl rfl ?_
    refine am_iald dX5_branchFrom_46 rfl hf (fun x15 _ hf => ?_)
    refine am_iast dX5_branchFrom_47 rfl hf (fun h16 _ hf => ?_)
    refine am_iinc (ls' := [some (va_rf v0), some (va_rf v1), none, some (.int (v3 + (1 : Int32)))]) dX5_branchFrom_48 rfl rfl (by decide) rfl rfl ?_
    refine am_goto (pc' := 31) dX5_branchFrom_51 (by decide) ?_
    exact ih _ _ _ _ _ hf
set_option maxRecDepth 20000 in
set_option maxHeartbeats 4000000 in
theorem sfX5_branchFrom {G : am_G}  (v0 : Nat) (v1 : Option Nat) (v2 : Option Nat) (h : am_H) (y : am_H) (hf : fX5_branchFrom v0 v1 v2 h = some y) : am_Cn G miX5_branchFrom [va_rf (some v0), va_rf v1, va_rf v2] h none y := by
  refine am_beg (ls := [some (va_rf (some v0)), some (va_rf v1), some (va_rf v2), none]) (by simp only [am_en, am_e1_r, am_e1_i, am_e1_l, am_e1_n]; rfl) ?_
  unfold fX5_branchFrom at hf
  refine am_aload_n dX5_branchFrom_0 rfl rfl ?_
  refine am_aload_n dX5_branchFrom_1 rfl rfl ?_
  refine am_gr_ dX5_branchFrom_2 fl_X5_18 rfl hf (fun x1 _ hf => ?_)
  refine am_pr_ rfl dX5_branchFrom_5 fl_X5_18 fp_5_0 (fun z => by cases z) rfl hf (fun h2 _ hf => ?_)
  refine am_aload_n dX5_branchFrom_8 rfl rfl ?_
  refine am_aload_n dX5_branchFrom_9 rfl rfl ?_
  refine am_pr_ rfl dX5_branchFrom_10 fl_X5_22 fp_5_1 (fun z => by cases z) rfl hf (fun h3 _ hf => ?_)
  refine am_aload_n dX5_branchFrom_13 rfl rfl ?_
  refine am_aload_n dX5_branchFrom_14 rfl rfl ?_
  refine am_gi_ dX5_branchFrom_15 fl_X5_26 rfl hf (fun x4 _ hf => ?_)
  refine am_pi_ dX5_branchFrom_18 fl_X5_26 fp_5_2 (fun z => by cases z) rfl hf (fun h5 _ hf => ?_)
  refine am_aload_n dX5_branchFrom_21 rfl rfl ?_
  refine am_aload_n dX5_branchFrom_22 rfl rfl ?_
  refine am_gi_ dX5_branchFrom_23 fl_X5_30 rfl hf (fun x6 _ hf => ?_)
  refine am_pi_ dX5_branchFrom_26 fl_X5_30 fp_5_3 (fun z => by cases z) rfl hf (fun h7 _ hf => ?_)
  refine am_iconst (v := 0) dX5_branchFrom_29 rfl rfl ?_
  refine am_istore_n (ls' := [some (va_rf (some v0)), some (va_rf v1), some (va_rf v2), some (.int (0 : Int32))]) dX5_branchFrom_30 (by decide) (am_s1_r (j := 2) rfl rfl) rfl ?_
  exact am_we ((sfX5_branchFrom_31 _) _ _ _ _ _ hf) ⟨Or.inr rfl, Or.inr rfl, Or.inl rfl, Or.inr rfl, trivial⟩
set_option maxRecDepth 20000 in
set_option maxHeartbeats 4000000 in
theorem sfX8_seekFault_175 {G : am_G}  {k32 : Option Nat → Int32 → Int32 → Int32 → Int32 → Int32 → Int32 → Int32 → Int32 → Int32 → am_H → Option (Int32 × am_H)} (hk32 : ∀ (v0 : Option Nat) (v1 : Int32) (v2 : Int32) (v3 : Int32) (v4 : Int32) (v5 : Int32) (v6 : Int32) (v7 : Int32) (v8 : Int32) (v9 : Int32) (h : am_H) (y : Int32 × am_H), k32 v0 v1 v2 v3 v4 v5 v6 v7 v8 v9 h = some y → am_S G miX8_seekFault 32 [some (va_rf v0), some (.int v1), some (.int v2), some (.int v3), some (.int v4), some (.int v5), some (.int v6), some (.int v7), some (.int v8), some (.int v9), none] [] h (some (.int y.1)) y.2) (v0 : Option Nat) (v1 : Int32) (v2 : Int32) (v3 : Int32) (v4 : Int32) (v5 : Int32) (v6 : Int32) (v7 : Int32) (v9 : Int32) (s0 : Int32) (h : am_H) (y : Int32 × am_H) (hf : fX8_seekFault_175 k32 v0 v1 v2 v3 v4 v5 v6 v7 v9 s0 h = some y) : am_S G miX8_seekFault 175 [some (va_rf v0), some (.int v1), some (.int v2), some (.int v3), some (.int v4), some (.int v5), some (.int v6), some (.int v7), none, some (.int v9), none] [.int s0] h (some (.int y.1)) y.2 := by
  unfold fX8_seekFault_175 at hf
  refine am_istore (ls' := [some (va_rf v0), some (.int v1), some (.int v2), some (.int v3), some (.int v4), some (.int v5), some (.int v6), some (.int v7), some (.int s0), some (.int v9), none]) dX8_seekFault_175 (by decide) rfl rfl ?_
  refine am_iinc (ls' := [some (va_rf v0), some (.int v1), some (.int v2), some (.int v3), some (.int v4), some (.int v5), some (.int v6), some (.int v7), some (.int s0), some (.int (v9 + (1 : Int32))), none]) dX8_seekFault_177 rfl rfl (by decide) rfl rfl ?_
  refine am_goto (pc' := 32) dX8_seekFault_180 (by decide) ?_
  exact hk32 _ _ _ _ _ _ _ _ _ _ _ _ hf
set_option maxRecDepth 20000 in
set_option maxHeartbeats 4000000 in
theorem sfX8_seekFault_170 {G : am_G}  {k175 : Option Nat → Int32 → Int32 → Int32 → Int32 → Int32 → Int32 → Int32 → Int32 → Int32 → am_H → Option (Int32 × am_H)} (hk175 : ∀ (v0 : Option Nat) (v1 : Int32) (v2 : Int32) (v3 : Int32) (v4 : Int32) (v5 : Int32) (v6 : Int32) (v7 : Int32) (v9 : Int32) (s0 : Int32) (h : am_H) (y : Int32 × am_H), k175 v0 v1 v2 v3 v4 v5 v6 v7 v9 s0 h = some y → am_S G miX8_seekFault 175 [some (va_rf v0), some (.int v1), some (.int v2), some (.int v3), some (.int v4), some (.int v5), some (.int v6), some (.int v7), none, some (.int v9), none] [.int s0] h (some (.int y.1)) y.2) (v0 : Option Nat) (v1 : Int32) (v2 : Int32) (v3 : Int32) (v4 : Int32) (v5 : Int32) (v6 : Int32) (v7 : Int32) (v9 : Int32) (h : am_H) (y : Int32 × am_H) (hf : fX8_seekFault_170 k175 v0 v1 v2 v3 v4 v5 v6 v7 v9 h = some y) : am_S G miX8_seekFault 170 [some (va_rf v0), some (.int v1), some (.int v2), some (.int v3), some (.int v4), some (.int v5), some (.int v6), some (.int v7), none, some (.int v9), none] [] h (some (.int y.1)) y.2 := by
  unfold fX8_seekFault_170 at hf
  refine am_iconst (v := 1) dX8_seekFault_170 rfl rfl ?_
  refine am_goto (pc' := 175) dX8_seekFault_171 (by decide) ?_
  exact hk175 _ _ _ _ _ _ _ _ _ _ _ _ hf
set_option maxRecDepth 20000 in
set_option maxHeartbeats 4000000 in
theorem sfX8_seekFault_126 {G : am_G}  {k47 : Option Nat → Int32 → Int32 → Int32 → Int32 → Int32 → Int32 → Int32 → Int32 → Int32 → am_H → Option (Int32 × am_H)} (hk47 : ∀ (v0 : Option Nat) (v1 : Int32) (v2 : Int32) (v3 : Int32) (v4 : Int32) (v5 : Int32) (v6 : Int32) (v7 : Int32) (v9 : Int32) (v10 : Int32) (h : am_H) (y : Int32 × am_H), k47 v0 v1 v2 v3 v4 v5 v6 v7 v9 v10 h = some y → am_S G miX8_seekFault 47 [some (va_rf v0), some (.int v1), some (.int v2), some (.int v3), some (.int v4), some (.int v5), some (.int v6), some (.int v7), none, some (.int v9), some (.int v10)] [] h (some (.int y.1)) y.2) (v0 : Option Nat) (v1 : Int32) (v2 : Int32) (v3 : Int32) (v4 : Int32) (v5 : Int32) (v6 : Int32) (v7 : Int32) (v9 : Int32) (v10 : Int32) (h : am_H) (y : Int32 × am_H) (hf : fX8_seekFault_126 k47 v0 v1 v2 v3 v4 v5 v6 v7 v9 v10 h = some y) : am_S G miX8_seekFault 126 [some (va_rf v0), some (.int v1), some (.int v2), some (.int v3), some (.int v4), some (.int v5), some (.int v6), some (.int v7), none, some (.int v9), some (.int v10)] [] h (some (.int y.1)) y.2 := by
  unfold fX8_seekFault_126 at hf
  refine am_iinc (ls' := [some (va_rf v0), some (.int v1), some (.int v2), some (.int v3), some (.int v4), some (.int v5), some (.int v6), some (.int v7), none, some (.int v9), some (.int (v10 + (1 : Int32)))]) dX8_seekFault_126 rfl rfl (by decide) rfl rfl ?_
  refine am_goto (pc' := 47) dX8_seekFault_129 (by decide) ?_
  exact hk47 _ _ _ _ _ _ _ _ _ _ _ _ hf
set_option maxRecDepth 20000 in
set_option maxHeartbeats 4000000 in
theorem sfX8_seekFault_118 {G : am_G}  {k126 : Option Nat → Int32 → Int32 → Int32 → Int32 → Int32 → Int32 → Int32 → Int32 → Int32 → am_H → Option (Int32 × am_H)} (hk126 : ∀ (v0 : Option Nat) (v1 : Int32) (v2 : Int32) (v3 : Int32) (v4 : Int32) (v5 : Int32) (v6 : Int32) (v7 : Int32) (v9 : Int32) (v10 : Int32) (h : am_H) (y : Int32 × am_H), k126 v0 v1 v2 v3 v4 v5 v6 v7 v9 v10 h = some y → am_S G miX8_seekFault 126 [some (va_rf v0), some (.int v1), some (.int v2), some (.int v3), some (.int v4), some (.int v5), some (.int v6), some (.int v7), none, some (.int v9), some (.int v10)] [] h (some (.int y.1)) y.2) (v0 : Option Nat) (v1 : Int32) (v2 : Int32) (v3 : Int32) (v4 : Int32) (v7 : Int32) (v9 : Int32) (v10 : Int32) (h : am_H) (y : Int32 × am_H) (hf : fX8_seekFault_118 k126 v0 v1 v2 v3 v4 v7 v9 v10 h = some y) : am_S G miX8_seekFault 118 [some (va_rf v0), some (.int v1), some (.int v2), some (.int v3), some (.int v4), none, none, some (.int v7), none, some (.int v9), some (.int v10)] [] h (some (.int y.1)) y.2 := by
  unfold fX8_seekFault_118 at hf
  refine am_iload dX8_seekFault_118 rfl rfl ?_
  refine am_istore (ls' := [some (va_rf v0), some (.int v1), some (.int v2), some (.int v3), some (.int v4), some (.int v10), none, some (.int v7), none, some (.int v9), some (.int v10)]) dX8_seekFault_120 (by decide) rfl rfl ?_
  refine am_iload dX8_seekFault_122 rfl rfl ?_
  refine am_istore (ls' := [some (va_rf v0), some (.int v1), some (.int v2), some (.int v3), some (.int v4), some (.int v10), some (.int v9), some (.int v7), none, some (.int v9), some (.int v10)]) dX8_seekFault_124 (by decide) rfl rfl ?_
  exact hk126 _ _ _ _ _ _ _ _ _ _ _ _ hf
set_option maxRecDepth 20000 in
set_option maxHeartbeats 4000000 in
theorem sfX8_seekFault_183 {G : am_G}  (v3 : Int32) (v4 : Int32) (v5 : Int32) (v6 : Int32) (v7 : Int32) (h : am_H) (y : Int32 × am_H) (hf : fX8_seekFault_183  v3 v4 v5 v6 v7 h = some y) : am_S G miX8_seekFault 183 [none, none, none, some (.int v3), some (.int v4), some (.int v5), some (.int v6), some (.int v7), none, none, none] [] h (some (.int y.1)) y.2 := by
  unfold fX8_seekFault_183 at hf
  refine am_iload_n dX8_seekFault_183 rfl rfl ?_
  refine am_tsw (d := 221) (l := [(0, 212), (1, 215), (2, 218)]) dX8_seekFault_184 (by decide) (by decide) (by decide) ?_
  refine am_swc hf (fun hf => ?_) (fun hf => ?_)
  · refine am_iload dX8_seekFault_212 rfl rfl ?_
    exact am_iret rfl dX8_seekFault_214 hf
  refine am_swc hf (fun hf => ?_) (fun hf => ?_)
  · refine am_iload dX8_seekFault_215 rfl rfl ?_
    exact am_iret rfl dX8_seekFault_217 hf
  refine am_swc hf (fun hf => ?_) (fun hf => ?_)
  · refine am_iload dX8_seekFault_218 rfl rfl ?_
    exact am_iret rfl dX8_seekFault_220 hf
  show am_S _ _ 221 _ _ _ _ _
  refine am_iload dX8_seekFault_221 rfl rfl ?_
  exact am_iret rfl dX8_seekFault_223 hf
set_option maxRecDepth 20000 in
set_option maxHeartbeats 4000000 in
theorem sfX8_seekFault_47 {G : am_G}  {k32 : Option Nat → Int32 → Int32 → Int32 → Int32 → Int32 → Int32 → Int32 → Int32 → Int32 → am_H → Option (Int32 × am_H)} (hk32 : ∀ (v0 : Option Nat) (v1 : Int32) (v2 : Int32) (v3 : Int32) (v4 : Int32) (v5 : Int32) (v6 : Int32) (v7 : Int32) (v8 : Int32) (v9 : Int32) (h : am_H) (y : Int32 × am_H), k32 v0 v1 v2 v3 v4 v5 v6 v7 v8 v9 h = some y → am_S G miX8_seekFault 32 [some (va_rf v0), some (.int v1), some (.int v2), some (.int v3), some (.int v4), some (.int v5), some (.int v6), some (.int v7), some (.int v8), some (.int v9), none] [] h (some (.int y.1)) y.2) : ∀ (n : Nat) (v0 : Option Nat) (v1 : Int32) (v2 : Int32) (v3 : Int32) (v4 : Int32) (v5 : Int32) (v6 : Int32) (v7 : Int32) (v9 : Int32) (v10 : Int32) (h : am_H) (y : Int32 × am_H) (hf : fX8_seekFault_47 k32 n v0 v1 v2 v3 v4 v5 v6 v7 v9 v10 h = some y), am_S G miX8_seekFault 47 [some (va_rf v0), some (.int v1), some (.int v2), some (.int v3), some (.int v4), some (.int v5), some (.int v6), some (.int v7), none, some (.int v9), some (.int v10)] [] h (some (.int y.1)) y.2 := by
  intro n
  induction n with
  | zero => intro v0 v1 v2 v3 v4 v5 v6 v7 v9 v10 h y hf; cases hf
  | succ n ih =>
    intro v0 v1 v2 v3 v4 v5 v6 v7 v9 v10 h y hf
    have hf : fX8_seekFault_47_b k32 (fX8_seekFault_47 k32 n) v0 v1 v2 v3 v4 v5 v6 v7 v9 v10 h = some y := hf
    unfold fX8_seekFault_47_b at hf
    refine am_iload dX8_seekFault_47 rfl rfl ?_
    refine am_bipush (v := 20) dX8_seekFault_49 (by decide) rfl ?_
    refine am_icmp_gt (tgt := 132) dX8_seekFault_51 (by decide) rfl hf (fun hf => ?_) (fun hf => ?_)
    · refine am_aload_n dX8_seekFault_132 rfl rfl ?_
      refine am_gr_ dX8_seekFault_133 fl_X8_62 rfl hf (fun x1 _ hf => ?_)
      refine am_cVv (As := []) (st := []) lk_X8_seekFault_374 rfl (Nat.le_of_ble_eq_true rfl) (Nat.le_of_ble_eq_true rfl) rfl dX8_seekFault_136 rfl hf (fun b3 y2 hf => sfX5_advance b3  _ y2 hf) (fun b3 y2 _ _ hf => ?_)
      refine am_iload dX8_seekFault_139 rfl rfl ?_
      refine am_aload_n dX8_seekFault_141 rfl rfl ?_
      refine am_gr_ dX8_seekFault_142 fl_X8_79 rfl hf (fun x4 _ hf => ?_)
      refine am_gi_ dX8_seekFault_145 fl_X8_387 rfl hf (fun x5 _ hf => ?_)
      refine am_icmp_gt (tgt := 170) dX8_seekFault_148 (by decide) rfl hf (fun hf => ?_) (fun hf => ?_)
      · exact am_we ((sfX8_seekFault_170 (sfX8_seekFault_175 hk32)) _ _ _ _ _ _ _ _ _ _ _ hf) ⟨Or.inr rfl, Or.inr rfl, Or.inr rfl, Or.inr rfl, Or.inr rfl, Or.inr rfl, Or.inr rfl, Or.inr rfl, Or.inl rfl, Or.inr rfl, Or.inl rfl, trivial⟩
      refine am_aload_n dX8_seekFault_151 rfl rfl ?_
      refine am_gr_ dX8_seekFault_152 fl_X8_79 rfl hf (fun x6 _ hf => ?_)
      refine am_iload dX8_seekFault_155 rfl rfl ?_
      refine am_aload_n dX8_seekFault_157 rfl rfl ?_
      refine am_gr_ dX8_seekFault_158 fl_X8_62 rfl hf (fun x7 _ hf => ?_)
      refine am_gi_ dX8_seekFault_161 fl_X8_371 rfl hf (fun x8 _ hf => ?_)
      refine am_cVi (As := [.int v9, .int x8]) (st := []) lk_X8_seekFault_390 rfl (Nat.le_of_ble_eq_true rfl) (Nat.le_of_ble_eq_true rfl) rfl dX8_seekFault_164 rfl hf (fun b10 y9 hf => sfX1_allows b10 _ _ _ y9 hf) (fun b10 y9 _ _ hf => ?_)
      refine am_if_eq (tgt := 174) dX8_seekFault_167 (by decide) rfl hf (fun hf => ?_) (fun hf => ?_)
      · refine am_iconst (v := 0) dX8_seekFault_174 rfl rfl ?_
        exact am_we ((sfX8_seekFault_175 hk32) _ _ _ _ _ _ _ _ _ _ _ _ hf) ⟨Or.inr rfl, Or.inr rfl, Or.inr rfl, Or.inr rfl, Or.inr rfl, Or.inr rfl, Or.inr rfl, Or.inr rfl, Or.inl rfl, Or.inr rfl, Or.inl rfl, trivial⟩
      exact am_we ((sfX8_seekFault_170 (sfX8_seekFault_175 hk32)) _ _ _ _ _ _ _ _ _ _ _ hf) ⟨Or.inr rfl, Or.inr rfl, Or.inr rfl, Or.inr rfl, Or.inr rfl, Or.inr rfl, Or.inr rfl, Or.inr rfl, Or.inl rfl, Or.inr rfl, Or.inl rfl, trivial⟩
    refine am_aload_n dX8_seekFault_54 rfl rfl ?_
    refine am_gr_ dX8_seekFault_55 fl_X8_54 rfl hf (fun x11 _ hf => ?_)
    refine am_iload_n dX8_seekFault_58 rfl rfl ?_
    refine am_iload_n dX8_seekFault_59 rfl rfl ?_
    refine am_iload dX8_seekFault_60 rfl rfl ?_
    refine am_iload dX8_seekFault_62 rfl rfl ?_
    refine am_cVv (As := [.int v1, .int v2, .int v10, .int v9]) (st := []) lk_X8_seekFault_159 rfl (Nat.le_of_ble_eq_true rfl) (Nat.le_of_ble_eq_true rfl) rfl dX8_seekFault_64 rfl hf (fun b13 y12 hf => sfX2_become b13 _ _ _ _ _ y12 hf) (fun b13 y12 _ _ hf => ?_)
    refine am_aload_n dX8_seekFault_67 rfl rfl ?_
    refine am_gr_ dX8_seekFault_68 fl_X8_66 rfl hf (fun x14 _ hf => ?_)
    refine am_aload_n dX8_seekFault_71 rfl rfl ?_
    refine am_gr_ dX8_seekFault_72 fl_X8_62 rfl hf (fun x15 _ hf => ?_)
    refine am_aload_n dX8_seekFault_75 rfl rfl ?_
    refine am_gr_ dX8_seekFault_76 fl_X8_54 rfl hf (fun x16 _ hf => ?_)
    refine am_cVv (As := [va_rf x15, va_rf x16]) (st := []) lk_X8_seekFault_393 rfl (by simp only [am_e1_r, am_e1_i, am_e1_l, am_e1_n]; exact Nat.le_of_ble_eq_true rfl) (Nat.le_of_ble_eq_true rfl) rfl dX8_seekFault_79 rfl hf (fun b18 y17 hf => sfX5_branchFrom b18 _ _ _ y17 hf) (fun b18 y17 _ _ hf => ?_)
    refine am_aload_n dX8_seekFault_82 rfl rfl ?_
    refine am_aload_n dX8_seekFault_83 rfl rfl ?_
    refine am_gr_ dX8_seekFault_84 fl_X8_66 rfl hf (fun x19 _ hf => ?_)
    refine am_cVi (As := [va_rf x19]) (st := []) lk_X8_seekFault_278 rfl (by simp only [am_e1_r, am_e1_i, am_e1_l, am_e1_n]; exact Nat.le_of_ble_eq_true rfl) (Nat.le_of_ble_eq_true rfl) rfl dX8_seekFault_87 rfl hf (fun b21 y20 hf => sfX8_agreesFromHere b21 _ _ y20 hf) (fun b21 y20 _ _ hf => ?_)
    refine am_if_eq (tgt := 126) dX8_seekFault_90 (by decide) rfl hf (fun hf => ?_) (fun hf => ?_)
    · exact (sfX8_seekFault_126 ih) _ _ _ _ _ _ _ _ _ _ _ _ hf
    refine am_iinc (ls' := [some (va_rf v0), some (.int v1), some (.int v2), some (.int v3), some (.int (v4 + (1 : Int32))), some (.int v5), some (.int v6), some (.int v7), none, some (.int v9), some (.int v10)]) dX8_seekFault_93 rfl rfl (by decide) rfl rfl ?_
    refine am_iload dX8_seekFault_96 rfl rfl ?_
    refine am_iload dX8_seekFault_98 rfl rfl ?_
    refine am_mmax ml_X8_397 st_max in_Math co_max (by decide) (Nat.le_of_ble_eq_true rfl) dX8_seekFault_100 rfl ?_
    refine am_istore (ls' := [some (va_rf v0), some (.int v1), some (.int v2), some (.int v3), some (.int (v4 + (1 : Int32))), some (.int v5), some (.int v6), some (.int (if v7 < v10 then v10 else v7)), none, some (.int v9), some (.int v10)]) dX8_seekFault_103 (by decide) rfl rfl ?_
    refine am_iload dX8_seekFault_105 rfl rfl ?_
    refine am_iconst (v := -1) dX8_seekFault_107 rfl rfl ?_
    refine am_icmp_eq (tgt := 118) dX8_seekFault_108 (by decide) rfl hf (fun hf => ?_) (fun hf => ?_)
    · exact am_we ((sfX8_seekFault_118 (sfX8_seekFault_126 ih)) _ _ _ _ _ _ _ _ _ _ hf) ⟨Or.inr rfl, Or.inr rfl, Or.inr rfl, Or.inr rfl, Or.inr rfl, Or.inl rfl, Or.inl rfl, Or.inr rfl, Or.inl rfl, Or.inr rfl, Or.inr rfl, trivial⟩
    refine am_iload dX8_seekFault_111 rfl rfl ?_
    refine am_iload dX8_seekFault_113 rfl rfl ?_
    refine am_icmp_ge (tgt := 126) dX8_seekFault_115 (by decide) rfl hf (fun hf => ?_) (fun hf => ?_)
    · exact (sfX8_seekFault_126 ih) _ _ _ _ _ _ _ _ _ _ _ _ hf
    exact am_we ((sfX8_seekFault_118 (sfX8_seekFault_126 ih)) _ _ _ _ _ _ _ _ _ _ hf) ⟨Or.inr rfl, Or.inr rfl, Or.inr rfl, Or.inr rfl, Or.inr rfl, Or.inl rfl, Or.inl rfl, Or.inr rfl, Or.inl rfl, Or.inr rfl, Or.inr rfl, trivial⟩
set_option maxRecDepth 20000 in
set_option maxHeartbeats 4000000 in
theorem sfX8_seekFault_32 {G : am_G}  : ∀ (n : Nat) (v0 : Option Nat) (v1 : Int32) (v2 : Int32) (v3 : Int32) (v4 : Int32) (v5 : Int32) (v6 : Int32) (v7 : Int32) (v8 : Int32) (v9 : Int32) (h : am_H) (y : Int32 × am_H) (hf : fX8_seekFault_32  n v0 v1 v2 v3 v4 v5 v6 v7 v8 v9 h = some y), am_S G miX8_seekFault 32 [some (va_rf v0), some (.int v1), some (.int v2), some (.int v3), some (.int v4), some (.int v5), some (.int v6), some (.int v7), some (.int v8), some (.int v9), none] [] h (some (.int y.1)) y.2 := by
  intro n
  induction n with
  | zero => intro v0 v1 v2 v3 v4 v5 v6 v7 v8 v9 h y hf; cases hf
  | succ n ih =>
    intro v0 v1 v2 v3 v4 v5 v6 v7 v8 v9 h y hf
    have hf : fX8_seekFault_32_b  (fX8_seekFault_32  n) v0 v1 v2 v3 v4 v5 v6 v7 v8 v9 h = some y := hf
    unfold fX8_seekFault_32_b at hf
    refine am_iload dX8_seekFault_32 rfl rfl ?_
    refine am_bipush (v := 96) dX8_seekFault_34 (by decide) rfl ?_
    refine am_icmp_ge (tgt := 183) dX8_seekFault_36 (by decide) rfl hf (fun hf => ?_) (fun hf => ?_)
    · exact am_we (sfX8_seekFault_183 _ _ _ _ _ _ _ hf) ⟨Or.inl rfl, Or.inl rfl, Or.inl rfl, Or.inr rfl, Or.inr rfl, Or.inr rfl, Or.inr rfl, Or.inr rfl, Or.inl rfl, Or.inl rfl, Or.inl rfl, trivial⟩
    refine am_iload dX8_seekFault_39 rfl rfl ?_
    refine am_if_eq (tgt := 183) dX8_seekFault_41 (by decide) rfl hf (fun hf => ?_) (fun hf => ?_)
    · exact am_we (sfX8_seekFault_183 _ _ _ _ _ _ _ hf) ⟨Or.inl rfl, Or.inl rfl, Or.inl rfl, Or.inr rfl, Or.inr rfl, Or.inr rfl, Or.inr rfl, Or.inr rfl, Or.inl rfl, Or.inl rfl, Or.inl rfl, trivial⟩
    refine am_iconst (v := 1) dX8_seekFault_44 rfl rfl ?_
    refine am_istore (ls' := [some (va_rf v0), some (.int v1), some (.int v2), some (.int v3), some (.int v4), some (.int v5), some (.int v6), some (.int v7), some (.int v8), some (.int v9), some (.int (1 : Int32))]) dX8_seekFault_45 (by decide) rfl rfl ?_
    exact am_we ((sfX8_seekFault_47 ih _) _ _ _ _ _ _ _ _ _ _ _ _ hf) ⟨Or.inr rfl, Or.inr rfl, Or.inr rfl, Or.inr rfl, Or.inr rfl, Or.inr rfl, Or.inr rfl, Or.inr rfl, Or.inl rfl, Or.inr rfl, Or.inr rfl, trivial⟩
set_option maxRecDepth 20000 in
set_option maxHeartbeats 4000000 in
theorem sfX8_seekFault_27 {G : am_G}  (v0 : Option Nat) (v1 : Int32) (v2 : Int32) (v3 : Int32) (v4 : Int32) (v5 : Int32) (v6 : Int32) (v7 : Int32) (s0 : Int32) (h : am_H) (y : Int32 × am_H) (hf : fX8_seekFault_27  v0 v1 v2 v3 v4 v5 v6 v7 s0 h = some y) : am_S G miX8_seekFault 27 [some (va_rf v0), some (.int v1), some (.int v2), some (.int v3), some (.int v4), some (.int v5), some (.int v6), some (.int v7), none, none, none] [.int s0] h (some (.int y.1)) y.2 := by
  unfold fX8_seekFault_27 at hf
  refine am_istore (ls' := [some (va_rf v0), some (.int v1), some (.int v2), some (.int v3), some (.int v4), some (.int v5), some (.int v6), some (.int v7), some (.int s0), none, none]) dX8_seekFault_27 (by decide) rfl rfl ?_
  refine am_iconst (v := 0) dX8_seekFault_29 rfl rfl ?_
  refine am_istore (ls' := [some (va_rf v0), some (.int v1), some (.int v2), some (.int v3), some (.int v4), some (.int v5), some (.int v6), some (.int v7), some (.int s0), some (.int (0 : Int32)), none]) dX8_seekFault_30 (by decide) rfl rfl ?_
  exact (sfX8_seekFault_32 _) _ _ _ _ _ _ _ _ _ _ _ _ hf
set_option maxRecDepth 20000 in
set_option maxHeartbeats 4000000 in
theorem sfX8_seekFault {G : am_G}  (v0 : Nat) (v1 : Int32) (v2 : Int32) (v3 : Int32) (h : am_H) (y : Int32 × am_H) (hf : fX8_seekFault v0 v1 v2 v3 h = some y) : am_Cn G miX8_seekFault [va_rf (some v0), .int v1, .int v2, .int v3] h (some (.int y.1)) y.2 := by
  refine am_beg (ls := [some (va_rf (some v0)), some (.int v1), some (.int v2), some (.int v3), none, none, none, none, none, none, none]) (by simp only [am_en, am_e1_r, am_e1_i, am_e1_l, am_e1_n]; rfl) ?_
  unfold fX8_seekFault at hf
  refine am_iconst (v := 0) dX8_seekFault_0 rfl rfl ?_
  refine am_istore (ls' := [some (va_rf (some v0)), some (.int v1), some (.int v2), some (.int v3), some (.int (0 : Int32)), none, none, none, none, none, none]) dX8_seekFault_1 (by decide) rfl rfl ?_
  refine am_iconst (v := -1) dX8_seekFault_3 rfl rfl ?_
  refine am_istore (ls' := [some (va_rf (some v0)), some (.int v1), some (.int v2), some (.int v3), some (.int (0 : Int32)), some (.int (-1 : Int32)), none, none, none, none, none]) dX8_seekFault_4 (by decide) rfl rfl ?_
  refine am_iconst (v := -1) dX8_seekFault_6 rfl rfl ?_
  refine am_istore (ls' := [some (va_rf (some v0)), some (.int v1), some (.int v2), some (.int v3), some (.int (0 : Int32)), some (.int (-1 : Int32)), some (.int (-1 : Int32)), none, none, none, none]) dX8_seekFault_7 (by decide) rfl rfl ?_
  refine am_iconst (v := -1) dX8_seekFault_9 rfl rfl ?_
  refine am_istore (ls' := [some (va_rf (some v0)), some (.int v1), some (.int v2), some (.int v3), some (.int (0 : Int32)), some (.int (-1 : Int32)), some (.int (-1 : Int32)), some (.int (-1 : Int32)), none, none, none]) dX8_seekFault_10 (by decide) rfl rfl ?_
  refine am_aload_n dX8_seekFault_12 rfl rfl ?_
  refine am_gr_ dX8_seekFault_13 fl_X8_79 rfl hf (fun x1 _ hf => ?_)
  refine am_gi_ dX8_seekFault_16 fl_X8_381 rfl hf (fun x2 _ hf => ?_)
  refine am_if_ne (tgt := 26) dX8_seekFault_19 (by decide) rfl hf (fun hf => ?_) (fun hf => ?_)
  · refine am_iconst (v := 0) dX8_seekFault_26 rfl rfl ?_
    exact sfX8_seekFault_27 _ _ _ _ _ _ _ _ _ _ _ hf
  refine am_iconst (v := 1) dX8_seekFault_22 rfl rfl ?_
  refine am_goto (pc' := 27) dX8_seekFault_23 (by decide) ?_
  exact sfX8_seekFault_27 _ _ _ _ _ _ _ _ _ _ _ hf
set_option maxRecDepth 20000 in
set_option maxHeartbeats 4000000 in
theorem sfX8_sought {G : am_G}  (v0 : Nat) (v1 : Int32) (v2 : Int32) (v3 : Int32) (v4 : Int32) (v5 : Int32) (h : am_H) (y : Int32 × am_H) (hf : fX8_sought v0 v1 v2 v3 v4 v5 h = some y) : am_Cn G miX8_sought [va_rf (some v0), .int v1, .int v2, .int v3, .int v4, .int v5] h (some (.int y.1)) y.2 := by
  refine am_beg (ls := [some (va_rf (some v0)), some (.int v1), some (.int v2), some (.int v3), some (.int v4), some (.int v5)]) (by simp only [am_en, am_e1_r, am_e1_i, am_e1_l, am_e1_n]; rfl) ?_
  unfold fX8_sought at hf
  refine am_aload_n dX8_sought_0 rfl rfl ?_
  refine am_iload_n dX8_sought_1 rfl rfl ?_
  refine am_iload_n dX8_sought_2 rfl rfl ?_
  refine am_iconst (v := -1) dX8_sought_3 rfl rfl ?_
  refine am_cVi (As := [.int v1, .int v2, .int (-1 : Int32)]) (st := []) lk_X8_sought_200 rfl (Nat.le_of_ble_eq_true rfl) (Nat.le_of_ble_eq_true rfl) rfl dX8_sought_4 rfl hf (fun b2 y1 hf => sfX8_startRun b2 _ _ _ _ y1 hf) (fun b2 y1 _ _ hf => ?_)
  refine am_if_ne (tgt := 13) dX8_sought_7 (by decide) rfl hf (fun hf => ?_) (fun hf => ?_)
  · refine am_iload_n dX8_sought_13 rfl rfl ?_
    refine am_iconst (v := 1) dX8_sought_14 rfl rfl ?_
    refine am_iconst (v := 4) dX8_sought_15 rfl rfl ?_
    refine am_cSi (As := [.int v3, .int (1 : Int32), .int (4 : Int32)]) (st := []) lk_X8_sought_121 rfl (Nat.le_of_ble_eq_true rfl) (Nat.le_of_ble_eq_true rfl) rfl dX8_sought_16 rfl hf (fun y3 hf => sfX8_isIn _ _ _ _ y3 hf) (fun y3 _ hf => ?_)
    refine am_if_eq (tgt := 42) dX8_sought_19 (by decide) rfl hf (fun hf => ?_) (fun hf => ?_)
    · refine am_bipush (v := -102) dX8_sought_42 (by decide) rfl ?_
      exact am_iret rfl dX8_sought_44 hf
    refine am_iload dX8_sought_22 rfl rfl ?_
    refine am_iconst (v := 0) dX8_sought_24 rfl rfl ?_
    refine am_iconst (v := 2) dX8_sought_25 rfl rfl ?_
    refine am_cSi (As := [.int v4, .int (0 : Int32), .int (2 : Int32)]) (st := []) lk_X8_sought_121 rfl (Nat.le_of_ble_eq_true rfl) (Nat.le_of_ble_eq_true rfl) rfl dX8_sought_26 rfl hf (fun y4 hf => sfX8_isIn _ _ _ _ y4 hf) (fun y4 _ hf => ?_)
    refine am_if_eq (tgt := 42) dX8_sought_29 (by decide) rfl hf (fun hf => ?_) (fun hf => ?_)
    · refine am_bipush (v := -102) dX8_sought_42 (by decide) rfl ?_
      exact am_iret rfl dX8_sought_44 hf
    refine am_iload dX8_sought_32 rfl rfl ?_
    refine am_iconst (v := 0) dX8_sought_34 rfl rfl ?_
    refine am_iconst (v := 3) dX8_sought_35 rfl rfl ?_
    refine am_cSi (As := [.int v5, .int (0 : Int32), .int (3 : Int32)]) (st := []) lk_X8_sought_121 rfl (Nat.le_of_ble_eq_true rfl) (Nat.le_of_ble_eq_true rfl) rfl dX8_sought_36 rfl hf (fun y5 hf => sfX8_isIn _ _ _ _ y5 hf) (fun y5 _ hf => ?_)
    refine am_if_ne (tgt := 45) dX8_sought_39 (by decide) rfl hf (fun hf => ?_) (fun hf => ?_)
    · refine am_aload_n dX8_sought_45 rfl rfl ?_
      refine am_gi_ dX8_sought_46 fl_X8_282 rfl hf (fun x6 _ hf => ?_)
      refine am_bipush (v := 20) dX8_sought_49 (by decide) rfl ?_
      refine am_icmp_lt (tgt := 57) dX8_sought_51 (by decide) rfl hf (fun hf => ?_) (fun hf => ?_)
      · refine am_aload_n dX8_sought_57 rfl rfl ?_
        refine am_dup dX8_sought_58 (am_c1 _) rfl ?_
        refine am_gi_ dX8_sought_59 fl_X8_282 rfl hf (fun x7 _ hf => ?_)
        refine am_iconst (v := 1) dX8_sought_62 rfl rfl ?_
        refine am_iadd dX8_sought_63 rfl ?_
        refine am_pi_ dX8_sought_64 fl_X8_282 fp_8_10 (fun z => by cases z) rfl hf (fun h8 _ hf => ?_)
        refine am_aload_n dX8_sought_67 rfl rfl ?_
        refine am_gr_ dX8_sought_68 fl_X8_79 rfl hf (fun x9 _ hf => ?_)
        refine am_aload_n dX8_sought_71 rfl rfl ?_
        refine am_gr_ dX8_sought_72 fl_X8_37 rfl hf (fun x10 _ hf => ?_)
        refine am_gr_ dX8_sought_75 fl_X8_271 rfl hf (fun x11 _ hf => ?_)
        refine am_aload_n dX8_sought_78 rfl rfl ?_
        refine am_gr_ dX8_sought_79 fl_X8_62 rfl hf (fun x12 _ hf => ?_)
        refine am_gr_ dX8_sought_82 fl_X8_203 rfl hf (fun x13 _ hf => ?_)
        refine am_gi_ dX8_sought_85 fl_X8_229 rfl hf (fun x14 _ hf => ?_)
        refine am_cVv (As := [va_rf x11, .int x14]) (st := []) lk_X8_sought_274 rfl (by simp only [am_e1_r, am_e1_i, am_e1_l, am_e1_n]; exact Nat.le_of_ble_eq_true rfl) (Nat.le_of_ble_eq_true rfl) rfl dX8_sought_88 rfl hf (fun b16 y15 hf => sfX1_gather b16 _ _ _ y15 hf) (fun b16 y15 _ _ hf => ?_)
        refine am_aload_n dX8_sought_91 rfl rfl ?_
        refine am_iload_n dX8_sought_92 rfl rfl ?_
        refine am_iload dX8_sought_93 rfl rfl ?_
        refine am_iload dX8_sought_95 rfl rfl ?_
        refine am_cVi (As := [.int v3, .int v4, .int v5]) (st := []) lk_X8_sought_285 rfl (Nat.le_of_ble_eq_true rfl) (Nat.le_of_ble_eq_true rfl) rfl dX8_sought_97 rfl hf (fun b18 y17 hf => sfX8_seekFault b18 _ _ _ _ y17 hf) (fun b18 y17 _ _ hf => ?_)
        exact am_iret rfl dX8_sought_100 hf
      refine am_bipush (v := -103) dX8_sought_54 (by decide) rfl ?_
      exact am_iret rfl dX8_sought_56 hf
    refine am_bipush (v := -102) dX8_sought_42 (by decide) rfl ?_
    exact am_iret rfl dX8_sought_44 hf
  refine am_bipush (v := -101) dX8_sought_10 (by decide) rfl ?_
  exact am_iret rfl dX8_sought_12 hf
set_option maxRecDepth 20000 in
set_option maxHeartbeats 4000000 in
theorem sfX9_sought_170 {G : am_G}  {k179 : Option Nat → Int32 → Int32 → Int32 → Int32 → Int32 → Int32 → Int32 → Int32 → Int32 → Int32 → Int32 → am_H → Option (Int32 × am_H)} (hk179 : ∀ (v0 : Option Nat) (v1 : Int32) (v2 : Int32) (v3 : Int32) (v4 : Int32) (v5 : Int32) (v6 : Int32) (v7 : Int32) (v8 : Int32) (v9 : Int32) (v10 : Int32) (v11 : Int32) (h : am_H) (y : Int32 × am_H), k179 v0 v1 v2 v3 v4 v5 v6 v7 v8 v9 v10 v11 h = some y → am_S G miX9_sought 179 [some (va_rf v0), some (.int v1), some (.int v2), some (.int v3), some (.int v4), some (.int v5), some (.int v6), some (.int v7), some (.int v8), some (.int v9), some (.int v10), some (.int v11)] [] h (some (.int y.1)) y.2) (v0 : Option Nat) (v1 : Int32) (v2 : Int32) (v3 : Int32) (v4 : Int32) (v5 : Int32) (v6 : Int32) (v8 : Int32) (v10 : Int32) (v11 : Int32) (s0 : Int32) (h : am_H) (y : Int32 × am_H) (hf : fX9_sought_170 k179 v0 v1 v2 v3 v4 v5 v6 v8 v10 v11 s0 h = some y) : am_S G miX9_sought 170 [some (va_rf v0), some (.int v1), some (.int v2), some (.int v3), some (.int v4), some (.int v5), some (.int v6), none, some (.int v8), none, some (.int v10), some (.int v11)] [.int s0] h (some (.int y.1)) y.2 := by
  unfold fX9_sought_170 at hf
  refine am_istore (ls' := [some (va_rf v0), some (.int v1), some (.int v2), some (.int v3), some (.int v4), some (.int v5), some (.int v6), some (.int s0), some (.int v8), none, some (.int v10), some (.int v11)]) dX9_sought_170 (by decide) rfl rfl ?_
  refine am_iload dX9_sought_172 rfl rfl ?_
  refine am_istore (ls' := [some (va_rf v0), some (.int v1), some (.int v2), some (.int v3), some (.int v4), some (.int v5), some (.int v6), some (.int s0), some (.int v8), some (.int v10), some (.int v10), some (.int v11)]) dX9_sought_174 (by decide) rfl rfl ?_
  refine am_iinc (ls' := [some (va_rf v0), some (.int v1), some (.int v2), some (.int v3), some (.int v4), some (.int v5), some (.int (v6 + (1 : Int32))), some (.int s0), some (.int v8), some (.int v10), some (.int v10), some (.int v11)]) dX9_sought_176 rfl rfl (by decide) rfl rfl ?_
  exact hk179 _ _ _ _ _ _ _ _ _ _ _ _ _ _ hf
set_option maxRecDepth 20000 in
set_option maxHeartbeats 4000000 in
theorem sfX9_sought_179 {G : am_G}  {k92 : Option Nat → Int32 → Int32 → Int32 → Int32 → Int32 → Int32 → Int32 → Int32 → Int32 → Int32 → Int32 → am_H → Option (Int32 × am_H)} (hk92 : ∀ (v0 : Option Nat) (v1 : Int32) (v2 : Int32) (v3 : Int32) (v4 : Int32) (v5 : Int32) (v6 : Int32) (v7 : Int32) (v8 : Int32) (v9 : Int32) (v10 : Int32) (v11 : Int32) (h : am_H) (y : Int32 × am_H), k92 v0 v1 v2 v3 v4 v5 v6 v7 v8 v9 v10 v11 h = some y → am_S G miX9_sought 92 [some (va_rf v0), some (.int v1), some (.int v2), some (.int v3), some (.int v4), some (.int v5), some (.int v6), some (.int v7), some (.int v8), some (.int v9), some (.int v10), some (.int v11)] [] h (some (.int y.1)) y.2) (v0 : Option Nat) (v1 : Int32) (v2 : Int32) (v3 : Int32) (v4 : Int32) (v5 : Int32) (v6 : Int32) (v7 : Int32) (v8 : Int32) (v9 : Int32) (v10 : Int32) (v11 : Int32) (h : am_H) (y : Int32 × am_H) (hf : fX9_sought_179 k92 v0 v1 v2 v3 v4 v5 v6 v7 v8 v9 v10 v11 h = some y) : am_S G miX9_sought 179 [some (va_rf v0), some (.int v1), some (.int v2), some (.int v3), some (.int v4), some (.int v5), some (.int v6), some (.int v7), some (.int v8), some (.int v9), some (.int v10), some (.int v11)] [] h (some (.int y.1)) y.2 := by
  unfold fX9_sought_179 at hf
  refine am_iinc (ls' := [some (va_rf v0), some (.int v1), some (.int v2), some (.int v3), some (.int v4), some (.int v5), some (.int v6), some (.int v7), some (.int v8), some (.int v9), some (.int v10), some (.int (v11 + (1 : Int32)))]) dX9_sought_179 rfl rfl (by decide) rfl rfl ?_
  refine am_goto (pc' := 92) dX9_sought_182 (by decide) ?_
  exact hk92 _ _ _ _ _ _ _ _ _ _ _ _ _ _ hf
set_option maxRecDepth 20000 in
set_option maxHeartbeats 4000000 in
theorem sfX9_sought_156 {G : am_G}  {k179 : Option Nat → Int32 → Int32 → Int32 → Int32 → Int32 → Int32 → Int32 → Int32 → Int32 → Int32 → Int32 → am_H → Option (Int32 × am_H)} (hk179 : ∀ (v0 : Option Nat) (v1 : Int32) (v2 : Int32) (v3 : Int32) (v4 : Int32) (v5 : Int32) (v6 : Int32) (v7 : Int32) (v8 : Int32) (v9 : Int32) (v10 : Int32) (v11 : Int32) (h : am_H) (y : Int32 × am_H), k179 v0 v1 v2 v3 v4 v5 v6 v7 v8 v9 v10 v11 h = some y → am_S G miX9_sought 179 [some (va_rf v0), some (.int v1), some (.int v2), some (.int v3), some (.int v4), some (.int v5), some (.int v6), some (.int v7), some (.int v8), some (.int v9), some (.int v10), some (.int v11)] [] h (some (.int y.1)) y.2) (v0 : Option Nat) (v1 : Int32) (v2 : Int32) (v3 : Int32) (v4 : Int32) (v5 : Int32) (v6 : Int32) (v7 : Int32) (v10 : Int32) (v11 : Int32) (s0 : Int32) (h : am_H) (y : Int32 × am_H) (hf : fX9_sought_156 k179 v0 v1 v2 v3 v4 v5 v6 v7 v10 v11 s0 h = some y) : am_S G miX9_sought 156 [some (va_rf v0), some (.int v1), some (.int v2), some (.int v3), some (.int v4), some (.int v5), some (.int v6), some (.int v7), none, none, some (.int v10), some (.int v11)] [.int s0] h (some (.int y.1)) y.2 := by
  unfold fX9_sought_156 at hf
  refine am_istore (ls' := [some (va_rf v0), some (.int v1), some (.int v2), some (.int v3), some (.int v4), some (.int v5), some (.int v6), some (.int v7), some (.int s0), none, some (.int v10), some (.int v11)]) dX9_sought_156 (by decide) rfl rfl ?_
  refine am_iload dX9_sought_158 rfl rfl ?_
  refine am_if_ne (tgt := 168) dX9_sought_160 (by decide) rfl hf (fun hf => ?_) (fun hf => ?_)
  · refine am_iload dX9_sought_168 rfl rfl ?_
    exact am_we ((sfX9_sought_170 hk179) _ _ _ _ _ _ _ _ _ _ _ _ _ hf) ⟨Or.inr rfl, Or.inr rfl, Or.inr rfl, Or.inr rfl, Or.inr rfl, Or.inr rfl, Or.inr rfl, Or.inl rfl, Or.inr rfl, Or.inl rfl, Or.inr rfl, Or.inr rfl, trivial⟩
  refine am_iload dX9_sought_163 rfl rfl ?_
  refine am_goto (pc' := 170) dX9_sought_165 (by decide) ?_
  exact am_we ((sfX9_sought_170 hk179) _ _ _ _ _ _ _ _ _ _ _ _ _ hf) ⟨Or.inr rfl, Or.inr rfl, Or.inr rfl, Or.inr rfl, Or.inr rfl, Or.inr rfl, Or.inr rfl, Or.inl rfl, Or.inr rfl, Or.inl rfl, Or.inr rfl, Or.inr rfl, trivial⟩
set_option maxRecDepth 20000 in
set_option maxHeartbeats 4000000 in
theorem sfX9_sought_92 {G : am_G}  {k82 : Option Nat → Int32 → Int32 → Int32 → Int32 → Int32 → Int32 → Int32 → Int32 → Int32 → Int32 → am_H → Option (Int32 × am_H)} (hk82 : ∀ (v0 : Option Nat) (v1 : Int32) (v2 : Int32) (v3 : Int32) (v4 : Int32) (v5 : Int32) (v6 : Int32) (v7 : Int32) (v8 : Int32) (v9 : Int32) (v10 : Int32) (h : am_H) (y : Int32 × am_H), k82 v0 v1 v2 v3 v4 v5 v6 v7 v8 v9 v10 h = some y → am_S G miX9_sought 82 [some (va_rf v0), some (.int v1), some (.int v2), some (.int v3), some (.int v4), some (.int v5), some (.int v6), some (.int v7), some (.int v8), some (.int v9), some (.int v10), none] [] h (some (.int y.1)) y.2) : ∀ (n : Nat) (v0 : Option Nat) (v1 : Int32) (v2 : Int32) (v3 : Int32) (v4 : Int32) (v5 : Int32) (v6 : Int32) (v7 : Int32) (v8 : Int32) (v9 : Int32) (v10 : Int32) (v11 : Int32) (h : am_H) (y : Int32 × am_H) (hf : fX9_sought_92 k82 n v0 v1 v2 v3 v4 v5 v6 v7 v8 v9 v10 v11 h = some y), am_S G miX9_sought 92 [some (va_rf v0), some (.int v1), some (.int v2), some (.int v3), some (.int v4), some (.int v5), some (.int v6), some (.int v7), some (.int v8), some (.int v9), some (.int v10), some (.int v11)] [] h (some (.int y.1)) y.2 := by
  intro n
  induction n with
  | zero => intro v0 v1 v2 v3 v4 v5 v6 v7 v8 v9 v10 v11 h y hf; cases hf
  | succ n ih =>
    intro v0 v1 v2 v3 v4 v5 v6 v7 v8 v9 v10 v11 h y hf
    have hf : fX9_sought_92_b k82 (fX9_sought_92 k82 n) v0 v1 v2 v3 v4 v5 v6 v7 v8 v9 v10 v11 h = some y := hf
    unfold fX9_sought_92_b at hf
    refine am_iload dX9_sought_92 rfl rfl ?_
    refine am_bipush (v := 96) dX9_sought_94 (by decide) rfl ?_
    refine am_icmp_ge (tgt := 185) dX9_sought_96 (by decide) rfl hf (fun hf => ?_) (fun hf => ?_)
    · refine am_iinc (ls' := [some (va_rf v0), some (.int v1), some (.int v2), some (.int v3), some (.int v4), some (.int v5), some (.int v6), some (.int v7), some (.int v8), some (.int v9), some (.int (v10 + (1 : Int32))), some (.int v11)]) dX9_sought_185 rfl rfl (by decide) rfl rfl ?_
      refine am_goto (pc' := 82) dX9_sought_188 (by decide) ?_
      exact am_we (hk82 _ _ _ _ _ _ _ _ _ _ _ _ _ hf) ⟨Or.inr rfl, Or.inr rfl, Or.inr rfl, Or.inr rfl, Or.inr rfl, Or.inr rfl, Or.inr rfl, Or.inr rfl, Or.inr rfl, Or.inr rfl, Or.inr rfl, Or.inl rfl, trivial⟩
    refine am_aload_n dX9_sought_99 rfl rfl ?_
    refine am_iload_n dX9_sought_100 rfl rfl ?_
    refine am_iconst (v := -1) dX9_sought_101 rfl rfl ?_
    refine am_cVv (As := [.int v1, .int (-1 : Int32)]) (st := []) lk_X9_sought_270 rfl (Nat.le_of_ble_eq_true rfl) (Nat.le_of_ble_eq_true rfl) rfl dX9_sought_102 rfl hf (fun b2 y1 hf => sfX9_load b2 _ _ _ y1 hf) (fun b2 y1 _ _ hf => ?_)
    refine am_aload_n dX9_sought_105 rfl rfl ?_
    refine am_iload_n dX9_sought_106 rfl rfl ?_
    refine am_pi_ dX9_sought_107 fl_X9_224 fp_9_46 (fun z => by cases z) rfl hf (fun h3 _ hf => ?_)
    refine am_aload_n dX9_sought_110 rfl rfl ?_
    refine am_iload dX9_sought_111 rfl rfl ?_
    refine am_pi_ dX9_sought_113 fl_X9_227 fp_9_47 (fun z => by cases z) rfl hf (fun h4 _ hf => ?_)
    refine am_aload_n dX9_sought_116 rfl rfl ?_
    refine am_iload dX9_sought_117 rfl rfl ?_
    refine am_pi_ dX9_sought_119 fl_X9_230 fp_9_48 (fun z => by cases z) rfl hf (fun h5 _ hf => ?_)
    refine am_aload_n dX9_sought_122 rfl rfl ?_
    refine am_iload dX9_sought_123 rfl rfl ?_
    refine am_pi_ dX9_sought_125 fl_X9_233 fp_9_49 (fun z => by cases z) rfl hf (fun h6 _ hf => ?_)
    refine am_aload_n dX9_sought_128 rfl rfl ?_
    refine am_iload_n dX9_sought_129 rfl rfl ?_
    refine am_iload_n dX9_sought_130 rfl rfl ?_
    refine am_bipush (v := 95) dX9_sought_131 (by decide) rfl ?_
    refine am_cVv (As := [.int v1, .int v2, .int (95 : Int32)]) (st := []) lk_X9_sought_274 rfl (Nat.le_of_ble_eq_true rfl) (Nat.le_of_ble_eq_true rfl) rfl dX9_sought_133 rfl hf (fun b8 y7 hf => sfX9_run b8 _ _ _ _ y7 hf) (fun b8 y7 _ _ hf => ?_)
    refine am_aload_n dX9_sought_136 rfl rfl ?_
    refine am_iload_n dX9_sought_137 rfl rfl ?_
    refine am_cVi (As := [.int v1]) (st := []) lk_X9_sought_338 rfl (Nat.le_of_ble_eq_true rfl) (Nat.le_of_ble_eq_true rfl) rfl dX9_sought_138 rfl hf (fun b10 y9 hf => sfX9_agreesNow b10 _ _ y9 hf) (fun b10 y9 _ _ hf => ?_)
    refine am_if_eq (tgt := 179) dX9_sought_141 (by decide) rfl hf (fun hf => ?_) (fun hf => ?_)
    · exact (sfX9_sought_179 ih) _ _ _ _ _ _ _ _ _ _ _ _ _ _ hf
    refine am_iload dX9_sought_144 rfl rfl ?_
    refine am_if_ne (tgt := 154) dX9_sought_146 (by decide) rfl hf (fun hf => ?_) (fun hf => ?_)
    · refine am_iload dX9_sought_154 rfl rfl ?_
      exact am_we ((sfX9_sought_156 (sfX9_sought_179 ih)) _ _ _ _ _ _ _ _ _ _ _ _ _ hf) ⟨Or.inr rfl, Or.inr rfl, Or.inr rfl, Or.inr rfl, Or.inr rfl, Or.inr rfl, Or.inr rfl, Or.inr rfl, Or.inl rfl, Or.inl rfl, Or.inr rfl, Or.inr rfl, trivial⟩
    refine am_iload dX9_sought_149 rfl rfl ?_
    refine am_goto (pc' := 156) dX9_sought_151 (by decide) ?_
    exact am_we ((sfX9_sought_156 (sfX9_sought_179 ih)) _ _ _ _ _ _ _ _ _ _ _ _ _ hf) ⟨Or.inr rfl, Or.inr rfl, Or.inr rfl, Or.inr rfl, Or.inr rfl, Or.inr rfl, Or.inr rfl, Or.inr rfl, Or.inl rfl, Or.inl rfl, Or.inr rfl, Or.inr rfl, trivial⟩
set_option maxRecDepth 20000 in
set_option maxHeartbeats 4000000 in
theorem sfX9_sought_82 {G : am_G}  : ∀ (n : Nat) (v0 : Option Nat) (v1 : Int32) (v2 : Int32) (v3 : Int32) (v4 : Int32) (v5 : Int32) (v6 : Int32) (v7 : Int32) (v8 : Int32) (v9 : Int32) (v10 : Int32) (h : am_H) (y : Int32 × am_H) (hf : fX9_sought_82  n v0 v1 v2 v3 v4 v5 v6 v7 v8 v9 v10 h = some y), am_S G miX9_sought 82 [some (va_rf v0), some (.int v1), some (.int v2), some (.int v3), some (.int v4), some (.int v5), some (.int v6), some (.int v7), some (.int v8), some (.int v9), some (.int v10), none] [] h (some (.int y.1)) y.2 := by
  intro n
  induction n with
  | zero => intro v0 v1 v2 v3 v4 v5 v6 v7 v8 v9 v10 h y hf; cases hf
  | succ n ih =>
    intro v0 v1 v2 v3 v4 v5 v6 v7 v8 v9 v10 h y hf
    have hf : fX9_sought_82_b  (fX9_sought_82  n) v0 v1 v2 v3 v4 v5 v6 v7 v8 v9 v10 h = some y := hf
    unfold fX9_sought_82_b at hf
    refine am_iload dX9_sought_82 rfl rfl ?_
    refine am_bipush (v := 20) dX9_sought_84 (by decide) rfl ?_
    refine am_icmp_gt (tgt := 191) dX9_sought_86 (by decide) rfl hf (fun hf => ?_) (fun hf => ?_)
    · refine am_iload dX9_sought_191 rfl rfl ?_
      refine am_if_ne (tgt := 201) dX9_sought_193 (by decide) rfl hf (fun hf => ?_) (fun hf => ?_)
      · refine am_iload dX9_sought_201 rfl rfl ?_
        refine am_iconst (v := 1) dX9_sought_203 rfl rfl ?_
        refine am_icmp_ne (tgt := 212) dX9_sought_204 (by decide) rfl hf (fun hf => ?_) (fun hf => ?_)
        · refine am_iload dX9_sought_212 rfl rfl ?_
          refine am_iconst (v := 2) dX9_sought_214 rfl rfl ?_
          refine am_icmp_ne (tgt := 223) dX9_sought_215 (by decide) rfl hf (fun hf => ?_) (fun hf => ?_)
          · refine am_iload dX9_sought_223 rfl rfl ?_
            exact am_iret rfl dX9_sought_225 hf
          refine am_iload dX9_sought_218 rfl rfl ?_
          refine am_goto (pc' := 225) dX9_sought_220 (by decide) ?_
          exact am_iret rfl dX9_sought_225 hf
        refine am_iload dX9_sought_207 rfl rfl ?_
        refine am_goto (pc' := 225) dX9_sought_209 (by decide) ?_
        exact am_iret rfl dX9_sought_225 hf
      refine am_iload dX9_sought_196 rfl rfl ?_
      refine am_goto (pc' := 225) dX9_sought_198 (by decide) ?_
      exact am_iret rfl dX9_sought_225 hf
    refine am_iconst (v := 0) dX9_sought_89 rfl rfl ?_
    refine am_istore (ls' := [some (va_rf v0), some (.int v1), some (.int v2), some (.int v3), some (.int v4), some (.int v5), some (.int v6), some (.int v7), some (.int v8), some (.int v9), some (.int v10), some (.int (0 : Int32))]) dX9_sought_90 (by decide) rfl rfl ?_
    exact (sfX9_sought_92 ih _) _ _ _ _ _ _ _ _ _ _ _ _ _ _ hf
set_option maxRecDepth 20000 in
set_option maxHeartbeats 4000000 in
theorem sfX9_sought {G : am_G}  (v0 : Nat) (v1 : Int32) (v2 : Int32) (v3 : Int32) (v4 : Int32) (v5 : Int32) (h : am_H) (y : Int32 × am_H) (hf : fX9_sought v0 v1 v2 v3 v4 v5 h = some y) : am_Cn G miX9_sought [va_rf (some v0), .int v1, .int v2, .int v3, .int v4, .int v5] h (some (.int y.1)) y.2 := by
  refine am_beg (ls := [some (va_rf (some v0)), some (.int v1), some (.int v2), some (.int v3), some (.int v4), some (.int v5), none, none, none, none, none, none]) (by simp only [am_en, am_e1_r, am_e1_i, am_e1_l, am_e1_n]; rfl) ?_
  unfold fX9_sought at hf
  refine am_aload_n dX9_sought_0 rfl rfl ?_
  refine am_iload_n dX9_sought_1 rfl rfl ?_
  refine am_iload_n dX9_sought_2 rfl rfl ?_
  refine am_iconst (v := -1) dX9_sought_3 rfl rfl ?_
  refine am_cVi (As := [.int v1, .int v2, .int (-1 : Int32)]) (st := []) lk_X9_sought_277 rfl (Nat.le_of_ble_eq_true rfl) (Nat.le_of_ble_eq_true rfl) rfl dX9_sought_4 rfl hf (fun b2 y1 hf => sfX9_isRun b2 _ _ _ _ y1 hf) (fun b2 y1 _ _ hf => ?_)
  refine am_if_ne (tgt := 13) dX9_sought_7 (by decide) rfl hf (fun hf => ?_) (fun hf => ?_)
  · refine am_iload_n dX9_sought_13 rfl rfl ?_
    refine am_iconst (v := 1) dX9_sought_14 rfl rfl ?_
    refine am_iconst (v := 4) dX9_sought_15 rfl rfl ?_
    refine am_cSi (As := [.int v3, .int (1 : Int32), .int (4 : Int32)]) (st := []) lk_X9_sought_132 rfl (Nat.le_of_ble_eq_true rfl) (Nat.le_of_ble_eq_true rfl) rfl dX9_sought_16 rfl hf (fun y3 hf => sfX9_within _ _ _ _ y3 hf) (fun y3 _ hf => ?_)
    refine am_if_eq (tgt := 42) dX9_sought_19 (by decide) rfl hf (fun hf => ?_) (fun hf => ?_)
    · refine am_bipush (v := -102) dX9_sought_42 (by decide) rfl ?_
      exact am_iret rfl dX9_sought_44 hf
    refine am_iload dX9_sought_22 rfl rfl ?_
    refine am_iconst (v := 0) dX9_sought_24 rfl rfl ?_
    refine am_iconst (v := 2) dX9_sought_25 rfl rfl ?_
    refine am_cSi (As := [.int v4, .int (0 : Int32), .int (2 : Int32)]) (st := []) lk_X9_sought_132 rfl (Nat.le_of_ble_eq_true rfl) (Nat.le_of_ble_eq_true rfl) rfl dX9_sought_26 rfl hf (fun y4 hf => sfX9_within _ _ _ _ y4 hf) (fun y4 _ hf => ?_)
    refine am_if_eq (tgt := 42) dX9_sought_29 (by decide) rfl hf (fun hf => ?_) (fun hf => ?_)
    · refine am_bipush (v := -102) dX9_sought_42 (by decide) rfl ?_
      exact am_iret rfl dX9_sought_44 hf
    refine am_iload dX9_sought_32 rfl rfl ?_
    refine am_iconst (v := 0) dX9_sought_34 rfl rfl ?_
    refine am_iconst (v := 3) dX9_sought_35 rfl rfl ?_
    refine am_cSi (As := [.int v5, .int (0 : Int32), .int (3 : Int32)]) (st := []) lk_X9_sought_132 rfl (Nat.le_of_ble_eq_true rfl) (Nat.le_of_ble_eq_true rfl) rfl dX9_sought_36 rfl hf (fun y5 hf => sfX9_within _ _ _ _ y5 hf) (fun y5 _ hf => ?_)
    refine am_if_ne (tgt := 45) dX9_sought_39 (by decide) rfl hf (fun hf => ?_) (fun hf => ?_)
    · refine am_aload_n dX9_sought_45 rfl rfl ?_
      refine am_gi_ dX9_sought_46 fl_X9_341 rfl hf (fun x6 _ hf => ?_)
      refine am_bipush (v := 20) dX9_sought_49 (by decide) rfl ?_
      refine am_icmp_ne (tgt := 57) dX9_sought_51 (by decide) rfl hf (fun hf => ?_) (fun hf => ?_)
      · refine am_aload_n dX9_sought_57 rfl rfl ?_
        refine am_dup dX9_sought_58 (am_c1 _) rfl ?_
        refine am_gi_ dX9_sought_59 fl_X9_341 rfl hf (fun x7 _ hf => ?_)
        refine am_iconst (v := 1) dX9_sought_62 rfl rfl ?_
        refine am_iadd dX9_sought_63 rfl ?_
        refine am_pi_ dX9_sought_64 fl_X9_341 fp_9_23 (fun z => by cases z) rfl hf (fun h8 _ hf => ?_)
        refine am_iconst (v := 0) dX9_sought_67 rfl rfl ?_
        refine am_istore (ls' := [some (va_rf (some v0)), some (.int v1), some (.int v2), some (.int v3), some (.int v4), some (.int v5), some (.int (0 : Int32)), none, none, none, none, none]) dX9_sought_68 (by decide) rfl rfl ?_
        refine am_iconst (v := -1) dX9_sought_70 rfl rfl ?_
        refine am_istore (ls' := [some (va_rf (some v0)), some (.int v1), some (.int v2), some (.int v3), some (.int v4), some (.int v5), some (.int (0 : Int32)), some (.int (-1 : Int32)), none, none, none, none]) dX9_sought_71 (by decide) rfl rfl ?_
        refine am_iconst (v := -1) dX9_sought_73 rfl rfl ?_
        refine am_istore (ls' := [some (va_rf (some v0)), some (.int v1), some (.int v2), some (.int v3), some (.int v4), some (.int v5), some (.int (0 : Int32)), some (.int (-1 : Int32)), some (.int (-1 : Int32)), none, none, none]) dX9_sought_74 (by decide) rfl rfl ?_
        refine am_iconst (v := -1) dX9_sought_76 rfl rfl ?_
        refine am_istore (ls' := [some (va_rf (some v0)), some (.int v1), some (.int v2), some (.int v3), some (.int v4), some (.int v5), some (.int (0 : Int32)), some (.int (-1 : Int32)), some (.int (-1 : Int32)), some (.int (-1 : Int32)), none, none]) dX9_sought_77 (by decide) rfl rfl ?_
        refine am_iconst (v := 1) dX9_sought_79 rfl rfl ?_
        refine am_istore (ls' := [some (va_rf (some v0)), some (.int v1), some (.int v2), some (.int v3), some (.int v4), some (.int v5), some (.int (0 : Int32)), some (.int (-1 : Int32)), some (.int (-1 : Int32)), some (.int (-1 : Int32)), some (.int (1 : Int32)), none]) dX9_sought_80 (by decide) rfl rfl ?_
        exact (sfX9_sought_82 _) _ _ _ _ _ _ _ _ _ _ _ _ _ hf
      refine am_bipush (v := -103) dX9_sought_54 (by decide) rfl ?_
      exact am_iret rfl dX9_sought_56 hf
    refine am_bipush (v := -102) dX9_sought_42 (by decide) rfl ?_
    exact am_iret rfl dX9_sought_44 hf
  refine am_bipush (v := -101) dX9_sought_10 (by decide) rfl ?_
  exact am_iret rfl dX9_sought_12 hf
