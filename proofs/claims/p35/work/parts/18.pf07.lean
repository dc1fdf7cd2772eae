/-! printed proofs of the printed functions, 7 -/
set_option maxRecDepth 20000 in
set_option maxHeartbeats 4000000 in
theorem sfX8_playRun {G : am_G}  (v0 : Nat) (h : am_H) (y : am_H) (hf : fX8_playRun v0 h = some y) : am_Cn G miX8_playRun [va_rf (some v0)] h none y := by
  refine am_beg (ls := [some (va_rf (some v0)), none, none, none]) (by simp only [am_en, am_e1_r, am_e1_i, am_e1_l, am_e1_n]; rfl) ?_
  unfold fX8_playRun at hf
  refine am_aload_n dX8_playRun_0 rfl rfl ?_
  refine am_aload_n dX8_playRun_1 rfl rfl ?_
  refine am_gr_ dX8_playRun_2 fl_X8_37 rfl hf (fun x1 _ hf => ?_)
  refine am_gi_ dX8_playRun_5 fl_X8_197 rfl hf (fun x2 _ hf => ?_)
  refine am_cVr (As := [.int x2]) (st := []) lk_X8_playRun_186 rfl (Nat.le_of_ble_eq_true rfl) (Nat.le_of_ble_eq_true rfl) rfl dX8_playRun_8 rfl hf (fun b4 y3 hf => sfX8_workOf b4 _ _ y3 hf) (fun b4 y3 _ _ hf => ?_)
  refine am_astore_n (ls' := [some (va_rf (some v0)), some (va_rf y3.1), none, none]) dX8_playRun_11 (by decide) (am_s1_r (j := 0) rfl rfl) rfl ?_
  refine am_aload_n dX8_playRun_12 rfl rfl ?_
  refine am_gr_ dX8_playRun_13 fl_X8_72 rfl hf (fun x5 _ hf => ?_)
  refine am_cVv (As := []) (st := []) lk_X8_playRun_369 rfl (Nat.le_of_ble_eq_true rfl) (Nat.le_of_ble_eq_true rfl) rfl dX8_playRun_16 rfl hf (fun b7 y6 hf => sfX4_start b7  _ y6 hf) (fun b7 y6 _ _ hf => ?_)
  refine am_iconst (v := 0) dX8_playRun_19 rfl rfl ?_
  refine am_istore_n (ls' := [some (va_rf (some v0)), some (va_rf y3.1), some (.int (0 : Int32)), none]) dX8_playRun_20 (by decide) (am_s1_r (j := 1) rfl rfl) rfl ?_
  exact (sfX8_playRun_21 _) _ _ _ _ _ hf
set_option maxRecDepth 20000 in
set_option maxHeartbeats 4000000 in
theorem sfX4_measure {G : am_G}  (v0 : Nat) (v1 : Int32) (h : am_H) (y : Int32 × am_H) (hf : fX4_measure v0 v1 h = some y) : am_Cn G miX4_measure [va_rf (some v0), .int v1] h (some (.int y.1)) y.2 := by
  refine am_beg (ls := [some (va_rf (some v0)), some (.int v1)]) (by simp only [am_en, am_e1_r, am_e1_i, am_e1_l, am_e1_n]; rfl) ?_
  unfold fX4_measure at hf
  refine am_iload_n dX4_measure_0 rfl rfl ?_
  refine am_tsw (d := 43) (l := [(0, 28), (1, 33), (2, 38)]) dX4_measure_1 (by decide) (by decide) (by decide) ?_
  refine am_swc hf (fun hf => ?_) (fun hf => ?_)
  · refine am_aload_n dX4_measure_28 rfl rfl ?_
    refine am_gi_ dX4_measure_29 fl_X4_50 rfl hf (fun x1 _ hf => ?_)
    exact am_iret rfl dX4_measure_32 hf
  refine am_swc hf (fun hf => ?_) (fun hf => ?_)
  · refine am_aload_n dX4_measure_33 rfl rfl ?_
    refine am_gi_ dX4_measure_34 fl_X4_44 rfl hf (fun x2 _ hf => ?_)
    exact am_iret rfl dX4_measure_37 hf
  refine am_swc hf (fun hf => ?_) (fun hf => ?_)
  · refine am_aload_n dX4_measure_38 rfl rfl ?_
    refine am_gi_ dX4_measure_39 fl_X4_53 rfl hf (fun x3 _ hf => ?_)
    exact am_iret rfl dX4_measure_42 hf
  show am_S _ _ 43 _ _ _ _ _
  refine am_aload_n dX4_measure_43 rfl rfl ?_
  refine am_gi_ dX4_measure_44 fl_X4_56 rfl hf (fun x4 _ hf => ?_)
  exact am_iret rfl dX4_measure_47 hf
set_option maxRecDepth 20000 in
set_option maxHeartbeats 4000000 in
theorem sfX4_figureOf {G : am_G}  (v0 : Nat) (v1 : Int32) (h : am_H) (y : Int32 × am_H) (hf : fX4_figureOf v0 v1 h = some y) : am_Cn G miX4_figureOf [va_rf (some v0), .int v1] h (some (.int y.1)) y.2 := by
  refine am_beg (ls := [some (va_rf (some v0)), some (.int v1)]) (by simp only [am_en, am_e1_r, am_e1_i, am_e1_l, am_e1_n]; rfl) ?_
  unfold fX4_figureOf at hf
  refine am_iload_n dX4_figureOf_0 rfl rfl ?_
  refine am_iconst (v := 0) dX4_figureOf_1 rfl rfl ?_
  refine am_bipush (v := 19) dX4_figureOf_2 (by decide) rfl ?_
  refine am_cTi (As := [.int v1, .int (0 : Int32), .int (19 : Int32)]) (st := []) lk_X4_figureOf_90 rfl (Nat.le_of_ble_eq_true rfl) (Nat.le_of_ble_eq_true rfl) rfl dX4_figureOf_4 rfl hf (fun y1 hf => sfX8_isIn _ _ _ _ y1 hf) (fun y1 _ hf => ?_)
  refine am_if_eq (tgt := 19) dX4_figureOf_7 (by decide) rfl hf (fun hf => ?_) (fun hf => ?_)
  · refine am_iconst (v := -1) dX4_figureOf_19 rfl rfl ?_
    exact am_iret rfl dX4_figureOf_20 hf
  refine am_aload_n dX4_figureOf_10 rfl rfl ?_
  refine am_gr_ dX4_figureOf_11 fl_X4_31 rfl hf (fun x2 _ hf => ?_)
  refine am_iload_n dX4_figureOf_14 rfl rfl ?_
  refine am_iald dX4_figureOf_15 rfl hf (fun x3 _ hf => ?_)
  refine am_goto (pc' := 20) dX4_figureOf_16 (by decide) ?_
  exact am_iret rfl dX4_figureOf_20 hf
set_option maxRecDepth 20000 in
set_option maxHeartbeats 4000000 in
theorem sfX8_shows_38 {G : am_G}  (v0 : Option Nat) (v4 : Int32) (h : am_H) (y : Int32 × am_H) (hf : fX8_shows_38  v0 v4 h = some y) : am_S G miX8_shows 38 [some (va_rf v0), none, none, none, some (.int v4)] [] h (some (.int y.1)) y.2 := by
  unfold fX8_shows_38 at hf
  refine am_aload_n dX8_shows_38 rfl rfl ?_
  refine am_cVv (As := []) (st := []) lk_X8_shows_241 rfl (Nat.le_of_ble_eq_true rfl) (Nat.le_of_ble_eq_true rfl) rfl dX8_shows_39 rfl hf (fun b2 y1 hf => sfX8_playRun b2  _ y1 hf) (fun b2 y1 _ _ hf => ?_)
  refine am_iload dX8_shows_42 rfl rfl ?_
  refine am_bipush (v := 10) dX8_shows_44 (by decide) rfl ?_
  refine am_icmp_ge (tgt := 61) dX8_shows_46 (by decide) rfl hf (fun hf => ?_) (fun hf => ?_)
  · refine am_aload_n dX8_shows_61 rfl rfl ?_
    refine am_gr_ dX8_shows_62 fl_X8_72 rfl hf (fun x3 _ hf => ?_)
    refine am_iload dX8_shows_65 rfl rfl ?_
    refine am_bipush (v := 10) dX8_shows_67 (by decide) rfl ?_
    refine am_isub dX8_shows_69 rfl ?_
    refine am_cVi (As := [.int (v4 - (10 : Int32))]) (st := []) lk_X8_shows_245 rfl (Nat.le_of_ble_eq_true rfl) (Nat.le_of_ble_eq_true rfl) rfl dX8_shows_70 rfl hf (fun b5 y4 hf => sfX4_figureOf b5 _ _ y4 hf) (fun b5 y4 _ _ hf => ?_)
    exact am_iret rfl dX8_shows_73 hf
  refine am_aload_n dX8_shows_49 rfl rfl ?_
  refine am_gr_ dX8_shows_50 fl_X8_72 rfl hf (fun x6 _ hf => ?_)
  refine am_iload dX8_shows_53 rfl rfl ?_
  refine am_cVi (As := [.int v4]) (st := []) lk_X8_shows_244 rfl (Nat.le_of_ble_eq_true rfl) (Nat.le_of_ble_eq_true rfl) rfl dX8_shows_55 rfl hf (fun b8 y7 hf => sfX4_measure b8 _ _ y7 hf) (fun b8 y7 _ _ hf => ?_)
  refine am_goto (pc' := 73) dX8_shows_58 (by decide) ?_
  exact am_iret rfl dX8_shows_73 hf
set_option maxRecDepth 20000 in
set_option maxHeartbeats 4000000 in
theorem sfX8_shows {G : am_G}  (v0 : Nat) (v1 : Int32) (v2 : Int32) (v3 : Int32) (v4 : Int32) (h : am_H) (y : Int32 × am_H) (hf : fX8_shows v0 v1 v2 v3 v4 h = some y) : am_Cn G miX8_shows [va_rf (some v0), .int v1, .int v2, .int v3, .int v4] h (some (.int y.1)) y.2 := by
  refine am_beg (ls := [some (va_rf (some v0)), some (.int v1), some (.int v2), some (.int v3), some (.int v4)]) (by simp only [am_en, am_e1_r, am_e1_i, am_e1_l, am_e1_n]; rfl) ?_
  unfold fX8_shows at hf
  refine am_aload_n dX8_shows_0 rfl rfl ?_
  refine am_iload_n dX8_shows_1 rfl rfl ?_
  refine am_iload_n dX8_shows_2 rfl rfl ?_
  refine am_iload_n dX8_shows_3 rfl rfl ?_
  refine am_cVi (As := [.int v1, .int v2, .int v3]) (st := []) lk_X8_shows_200 rfl (Nat.le_of_ble_eq_true rfl) (Nat.le_of_ble_eq_true rfl) rfl dX8_shows_4 rfl hf (fun b2 y1 hf => sfX8_startRun b2 _ _ _ _ y1 hf) (fun b2 y1 _ _ hf => ?_)
  refine am_if_ne (tgt := 13) dX8_shows_7 (by decide) rfl hf (fun hf => ?_) (fun hf => ?_)
  · refine am_iload dX8_shows_13 rfl rfl ?_
    refine am_iconst (v := 0) dX8_shows_15 rfl rfl ?_
    refine am_iconst (v := 3) dX8_shows_16 rfl rfl ?_
    refine am_cSi (As := [.int v4, .int (0 : Int32), .int (3 : Int32)]) (st := []) lk_X8_shows_121 rfl (Nat.le_of_ble_eq_true rfl) (Nat.le_of_ble_eq_true rfl) rfl dX8_shows_17 rfl hf (fun y3 hf => sfX8_isIn _ _ _ _ y3 hf) (fun y3 _ hf => ?_)
    refine am_if_ne (tgt := 38) dX8_shows_20 (by decide) rfl hf (fun hf => ?_) (fun hf => ?_)
    · exact am_we (sfX8_shows_38 _ _ _ _ hf) ⟨Or.inr rfl, Or.inl rfl, Or.inl rfl, Or.inl rfl, Or.inr rfl, trivial⟩
    refine am_iload dX8_shows_23 rfl rfl ?_
    refine am_bipush (v := 10) dX8_shows_25 (by decide) rfl ?_
    refine am_bipush (v := 29) dX8_shows_27 (by decide) rfl ?_
    refine am_cSi (As := [.int v4, .int (10 : Int32), .int (29 : Int32)]) (st := []) lk_X8_shows_121 rfl (Nat.le_of_ble_eq_true rfl) (Nat.le_of_ble_eq_true rfl) rfl dX8_shows_29 rfl hf (fun y4 hf => sfX8_isIn _ _ _ _ y4 hf) (fun y4 _ hf => ?_)
    refine am_if_ne (tgt := 38) dX8_shows_32 (by decide) rfl hf (fun hf => ?_) (fun hf => ?_)
    · exact am_we (sfX8_shows_38 _ _ _ _ hf) ⟨Or.inr rfl, Or.inl rfl, Or.inl rfl, Or.inl rfl, Or.inr rfl, trivial⟩
    refine am_bipush (v := -102) dX8_shows_35 (by decide) rfl ?_
    exact am_iret rfl dX8_shows_37 hf
  refine am_bipush (v := -101) dX8_shows_10 (by decide) rfl ?_
  exact am_iret rfl dX8_shows_12 hf
set_option maxRecDepth 20000 in
set_option maxHeartbeats 4000000 in
theorem sfX8_findWorst_98 {G : am_G}  {k42 : Option Nat → Option Nat → Int32 → Int32 → am_H → Option (am_H)} (hk42 : ∀ (v0 : Option Nat) (v1 : Option Nat) (v2 : Int32) (v3 : Int32) (h : am_H) (y : am_H), k42 v0 v1 v2 v3 h = some y → am_S G miX8_findWorst 42 [some (va_rf v0), some (va_rf v1), some (.int v2), some (.int v3), none] [] h none y) (v0 : Option Nat) (v1 : Option Nat) (v2 : Int32) (v3 : Int32) (h : am_H) (y : am_H) (hf : fX8_findWorst_98 k42 v0 v1 v2 v3 h = some y) : am_S G miX8_findWorst 98 [some (va_rf v0), some (va_rf v1), some (.int v2), some (.int v3), none] [] h none y := by
  unfold fX8_findWorst_98 at hf
  refine am_iinc (ls' := [some (va_rf v0), some (va_rf v1), some (.int v2), some (.int (v3 + (1 : Int32))), none]) dX8_findWorst_98 rfl rfl (by decide) rfl rfl ?_
  refine am_goto (pc' := 42) dX8_findWorst_101 (by decide) ?_
  exact hk42 _ _ _ _ _ _ hf
set_option maxRecDepth 20000 in
set_option maxHeartbeats 4000000 in
theorem sfX8_findWorst_42 {G : am_G}  {k9 : Option Nat → Option Nat → Int32 → am_H → Option (am_H)} (hk9 : ∀ (v0 : Option Nat) (v1 : Option Nat) (v2 : Int32) (h : am_H) (y : am_H), k9 v0 v1 v2 h = some y → am_S G miX8_findWorst 9 [some (va_rf v0), some (va_rf v1), some (.int v2), none, none] [] h none y) : ∀ (n : Nat) (v0 : Option Nat) (v1 : Option Nat) (v2 : Int32) (v3 : Int32) (h : am_H) (y : am_H) (hf : fX8_findWorst_42 k9 n v0 v1 v2 v3 h = some y), am_S G miX8_findWorst 42 [some (va_rf v0), some (va_rf v1), some (.int v2), some (.int v3), none] [] h none y := by
  intro n
  induction n with
  | zero => intro v0 v1 v2 v3 h y hf; cases hf
  | succ n ih =>
    intro v0 v1 v2 v3 h y hf
    have hf : fX8_findWorst_42_b k9 (fX8_findWorst_42 k9 n) v0 v1 v2 v3 h = some y := hf
    unfold fX8_findWorst_42_b at hf
    refine am_iload_n dX8_findWorst_42 rfl rfl ?_
    refine am_aload_n dX8_findWorst_43 rfl rfl ?_
    refine am_gi_ dX8_findWorst_44 fl_X8_229 rfl hf (fun x1 _ hf => ?_)
    refine am_icmp_ge (tgt := 104) dX8_findWorst_47 (by decide) rfl hf (fun hf => ?_) (fun hf => ?_)
    · refine am_iinc (ls' := [some (va_rf v0), some (va_rf v1), some (.int (v2 + (1 : Int32))), some (.int v3), none]) dX8_findWorst_104 rfl rfl (by decide) (am_s1_r (j := 1) rfl rfl) rfl ?_
      refine am_goto (pc' := 9) dX8_findWorst_107 (by decide) ?_
      exact am_we (hk9 _ _ _ _ _ hf) ⟨Or.inr rfl, Or.inr rfl, Or.inr rfl, Or.inl rfl, Or.inl rfl, trivial⟩
    refine am_aload_n dX8_findWorst_50 rfl rfl ?_
    refine am_gr_ dX8_findWorst_51 fl_X8_62 rfl hf (fun x2 _ hf => ?_)
    refine am_iload_n dX8_findWorst_54 rfl rfl ?_
    refine am_aload_n dX8_findWorst_55 rfl rfl ?_
    refine am_iload_n dX8_findWorst_56 rfl rfl ?_
    refine am_cVi (As := [.int v2]) (st := [.int v3, va_rf x2]) lk_X8_findWorst_216 rfl (Nat.le_of_ble_eq_true rfl) (by simp only [List.map_cons, List.map_nil, am_c1, am_ci, am_cl]; exact Nat.le_of_ble_eq_true rfl) rfl dX8_findWorst_57 rfl hf (fun b4 y3 hf => sfX8_daylightOf b4 _ _ y3 hf) (fun b4 y3 _ _ hf => ?_)
    refine am_cVi (As := [.int v3, .int y3.1]) (st := []) lk_X8_findWorst_232 rfl (Nat.le_of_ble_eq_true rfl) (Nat.le_of_ble_eq_true rfl) rfl dX8_findWorst_60 rfl hf (fun b6 y5 hf => sfX5_errorSize b6 _ _ _ y5 hf) (fun b6 y5 _ _ hf => ?_)
    refine am_istore (ls' := [some (va_rf v0), some (va_rf v1), some (.int v2), some (.int v3), some (.int y5.1)]) dX8_findWorst_63 (by decide) rfl rfl ?_
    refine am_iload dX8_findWorst_65 rfl rfl ?_
    refine am_aload_n dX8_findWorst_67 rfl rfl ?_
    refine am_gr_ dX8_findWorst_68 fl_X8_83 rfl hf (fun x7 _ hf => ?_)
    refine am_iconst (v := 0) dX8_findWorst_71 rfl rfl ?_
    refine am_iald dX8_findWorst_72 rfl hf (fun x8 _ hf => ?_)
    refine am_icmp_le (tgt := 98) dX8_findWorst_73 (by decide) rfl hf (fun hf => ?_) (fun hf => ?_)
    · exact am_we ((sfX8_findWorst_98 ih) _ _ _ _ _ _ hf) ⟨Or.inr rfl, Or.inr rfl, Or.inr rfl, Or.inr rfl, Or.inl rfl, trivial⟩
    refine am_aload_n dX8_findWorst_76 rfl rfl ?_
    refine am_gr_ dX8_findWorst_77 fl_X8_83 rfl hf (fun x9 _ hf => ?_)
    refine am_iconst (v := 0) dX8_findWorst_80 rfl rfl ?_
    refine am_iload dX8_findWorst_81 rfl rfl ?_
    refine am_iast dX8_findWorst_83 rfl hf (fun h10 _ hf => ?_)
    refine am_aload_n dX8_findWorst_84 rfl rfl ?_
    refine am_gr_ dX8_findWorst_85 fl_X8_83 rfl hf (fun x11 _ hf => ?_)
    refine am_iconst (v := 1) dX8_findWorst_88 rfl rfl ?_
    refine am_iload_n dX8_findWorst_89 rfl rfl ?_
    refine am_iast dX8_findWorst_90 rfl hf (fun h12 _ hf => ?_)
    refine am_aload_n dX8_findWorst_91 rfl rfl ?_
    refine am_gr_ dX8_findWorst_92 fl_X8_83 rfl hf (fun x13 _ hf => ?_)
    refine am_iconst (v := 2) dX8_findWorst_95 rfl rfl ?_
    refine am_iload_n dX8_findWorst_96 rfl rfl ?_
    refine am_iast dX8_findWorst_97 rfl hf (fun h14 _ hf => ?_)
    exact am_we ((sfX8_findWorst_98 ih) _ _ _ _ _ _ hf) ⟨Or.inr rfl, Or.inr rfl, Or.inr rfl, Or.inr rfl, Or.inl rfl, trivial⟩
set_option maxRecDepth 20000 in
set_option maxHeartbeats 4000000 in
theorem sfX8_findWorst_9 {G : am_G}  : ∀ (n : Nat) (v0 : Option Nat) (v1 : Option Nat) (v2 : Int32) (h : am_H) (y : am_H) (hf : fX8_findWorst_9  n v0 v1 v2 h = some y), am_S G miX8_findWorst 9 [some (va_rf v0), some (va_rf v1), some (.int v2), none, none] [] h none y := by
  intro n
  induction n with
  | zero => intro v0 v1 v2 h y hf; cases hf
  | succ n ih =>
    intro v0 v1 v2 h y hf
    have hf : fX8_findWorst_9_b  (fX8_findWorst_9  n) v0 v1 v2 h = some y := hf
    unfold fX8_findWorst_9_b at hf
    refine am_iload_n dX8_findWorst_9 rfl rfl ?_
    refine am_iconst (v := 4) dX8_findWorst_10 rfl rfl ?_
    refine am_icmp_ge (tgt := 110) dX8_findWorst_11 (by decide) rfl hf (fun hf => ?_) (fun hf => ?_)
    · exact am_vret rfl dX8_findWorst_110 hf
    refine am_aload_n dX8_findWorst_14 rfl rfl ?_
    refine am_gr_ dX8_findWorst_15 fl_X8_62 rfl hf (fun x1 _ hf => ?_)
    refine am_aload_n dX8_findWorst_18 rfl rfl ?_
    refine am_aload_n dX8_findWorst_19 rfl rfl ?_
    refine am_iload_n dX8_findWorst_20 rfl rfl ?_
    refine am_cVi (As := [.int v2]) (st := [va_rf v1, va_rf x1]) lk_X8_findWorst_258 rfl (Nat.le_of_ble_eq_true rfl) (by simp only [List.map_cons, List.map_nil, am_c1, am_ci, am_cl]; exact Nat.le_of_ble_eq_true rfl) rfl dX8_findWorst_21 rfl hf (fun b3 y2 hf => sfX8_warmthOf b3 _ _ y2 hf) (fun b3 y2 _ _ hf => ?_)
    refine am_aload_n dX8_findWorst_24 rfl rfl ?_
    refine am_gr_ dX8_findWorst_25 fl_X8_50 rfl hf (fun x4 _ hf => ?_)
    refine am_cVv (As := [va_rf v1, .int y2.1, va_rf x4]) (st := []) lk_X8_findWorst_261 rfl (by simp only [am_e1_r, am_e1_i, am_e1_l, am_e1_n]; exact Nat.le_of_ble_eq_true rfl) (Nat.le_of_ble_eq_true rfl) rfl dX8_findWorst_28 rfl hf (fun b6 y5 hf => sfX5_start b6 _ _ _ _ y5 hf) (fun b6 y5 _ _ hf => ?_)
    refine am_aload_n dX8_findWorst_31 rfl rfl ?_
    refine am_gr_ dX8_findWorst_32 fl_X8_62 rfl hf (fun x7 _ hf => ?_)
    refine am_bipush (v := 96) dX8_findWorst_35 (by decide) rfl ?_
    refine am_cVv (As := [.int (96 : Int32)]) (st := []) lk_X8_findWorst_209 rfl (Nat.le_of_ble_eq_true rfl) (Nat.le_of_ble_eq_true rfl) rfl dX8_findWorst_37 rfl hf (fun b9 y8 hf => sfX5_goOnTo b9 _ _ y8 hf) (fun b9 y8 _ _ hf => ?_)
    refine am_iconst (v := 0) dX8_findWorst_40 rfl rfl ?_
    refine am_istore_n (ls' := [some (va_rf v0), some (va_rf v1), some (.int v2), some (.int (0 : Int32)), none]) dX8_findWorst_41 (by decide) rfl rfl ?_
    exact (sfX8_findWorst_42 ih _) _ _ _ _ _ _ hf
set_option maxRecDepth 20000 in
set_option maxHeartbeats 4000000 in
theorem sfX8_findWorst {G : am_G}  (v0 : Nat) (v1 : Option Nat) (h : am_H) (y : am_H) (hf : fX8_findWorst v0 v1 h = some y) : am_Cn G miX8_findWorst [va_rf (some v0), va_rf v1] h none y := by
  refine am_beg (ls := [some (va_rf (some v0)), some (va_rf v1), none, none, none]) (by simp only [am_en, am_e1_r, am_e1_i, am_e1_l, am_e1_n]; rfl) ?_
  unfold fX8_findWorst at hf
  refine am_aload_n dX8_findWorst_0 rfl rfl ?_
  refine am_gr_ dX8_findWorst_1 fl_X8_83 rfl hf (fun x1 _ hf => ?_)
  refine am_iconst (v := 0) dX8_findWorst_4 rfl rfl ?_
  refine am_iconst (v := -1) dX8_findWorst_5 rfl rfl ?_
  refine am_iast dX8_findWorst_6 rfl hf (fun h2 _ hf => ?_)
  refine am_iconst (v := 0) dX8_findWorst_7 rfl rfl ?_
  refine am_istore_n (ls' := [some (va_rf (some v0)), some (va_rf v1), some (.int (0 : Int32)), none, none]) dX8_findWorst_8 (by decide) (am_s1_r (j := 1) rfl rfl) rfl ?_
  exact (sfX8_findWorst_9 _) _ _ _ _ _ hf
set_option maxRecDepth 20000 in
set_option maxHeartbeats 4000000 in
theorem sfX8_worst {G : am_G}  (v0 : Nat) (v1 : Int32) (v2 : Int32) (h : am_H) (y : Int32 × am_H) (hf : fX8_worst v0 v1 v2 h = some y) : am_Cn G miX8_worst [va_rf (some v0), .int v1, .int v2] h (some (.int y.1)) y.2 := by
  refine am_beg (ls := [some (va_rf (some v0)), some (.int v1), some (.int v2), none]) (by simp only [am_en, am_e1_r, am_e1_i, am_e1_l, am_e1_n]; rfl) ?_
  unfold fX8_worst at hf
  refine am_aload_n dX8_worst_0 rfl rfl ?_
  refine am_iload_n dX8_worst_1 rfl rfl ?_
  refine am_cVr (As := [.int v1]) (st := []) lk_X8_worst_117 rfl (Nat.le_of_ble_eq_true rfl) (Nat.le_of_ble_eq_true rfl) rfl dX8_worst_2 rfl hf (fun b2 y1 hf => sfX8_clockOf b2 _ _ y1 hf) (fun b2 y1 _ _ hf => ?_)
  refine am_astore_n (ls' := [some (va_rf (some v0)), some (.int v1), some (.int v2), some (va_rf y1.1)]) dX8_worst_5 (by decide) rfl rfl ?_
  refine am_aload_n dX8_worst_6 rfl rfl ?_
  refine am_ifnonnull (tgt := 13) dX8_worst_7 (by decide) rfl hf (fun hf => ?_) (fun hf => ?_)
  · refine am_iload_n dX8_worst_13 rfl rfl ?_
    refine am_iconst (v := 0) dX8_worst_14 rfl rfl ?_
    refine am_iconst (v := 2) dX8_worst_15 rfl rfl ?_
    refine am_cSi (As := [.int v2, .int (0 : Int32), .int (2 : Int32)]) (st := []) lk_X8_worst_121 rfl (Nat.le_of_ble_eq_true rfl) (Nat.le_of_ble_eq_true rfl) rfl dX8_worst_16 rfl hf (fun y3 hf => sfX8_isIn _ _ _ _ y3 hf) (fun y3 _ hf => ?_)
    refine am_if_ne (tgt := 25) dX8_worst_19 (by decide) rfl hf (fun hf => ?_) (fun hf => ?_)
    · refine am_aload_n dX8_worst_25 rfl rfl ?_
      refine am_aload_n dX8_worst_26 rfl rfl ?_
      refine am_cVv (As := [va_rf y1.1]) (st := []) lk_X8_worst_248 rfl (by simp only [am_e1_r, am_e1_i, am_e1_l, am_e1_n]; exact Nat.le_of_ble_eq_true rfl) (Nat.le_of_ble_eq_true rfl) rfl dX8_worst_27 rfl hf (fun b5 y4 hf => sfX8_findWorst b5 _ _ y4 hf) (fun b5 y4 _ _ hf => ?_)
      refine am_aload_n dX8_worst_30 rfl rfl ?_
      refine am_gr_ dX8_worst_31 fl_X8_83 rfl hf (fun x6 _ hf => ?_)
      refine am_iload_n dX8_worst_34 rfl rfl ?_
      refine am_iald dX8_worst_35 rfl hf (fun x7 _ hf => ?_)
      exact am_iret rfl dX8_worst_36 hf
    refine am_bipush (v := -102) dX8_worst_22 (by decide) rfl ?_
    exact am_iret rfl dX8_worst_24 hf
  refine am_bipush (v := -101) dX8_worst_10 (by decide) rfl ?_
  exact am_iret rfl dX8_worst_12 hf
set_option maxRecDepth 20000 in
set_option maxHeartbeats 4000000 in
theorem sfX8_better {G : am_G}  (v0 : Nat) (v1 : Int32) (v2 : Int32) (h : am_H) (y : Int32 × am_H) (hf : fX8_better v0 v1 v2 h = some y) : am_Cn G miX8_better [va_rf (some v0), .int v1, .int v2] h (some (.int y.1)) y.2 := by
  refine am_beg (ls := [some (va_rf (some v0)), some (.int v1), some (.int v2), none, none, none]) (by simp only [am_en, am_e1_r, am_e1_i, am_e1_l, am_e1_n]; rfl) ?_
  unfold fX8_better at hf
  refine am_aload_n dX8_better_0 rfl rfl ?_
  refine am_iload_n dX8_better_1 rfl rfl ?_
  refine am_cVr (As := [.int v1]) (st := []) lk_X8_better_117 rfl (Nat.le_of_ble_eq_true rfl) (Nat.le_of_ble_eq_true rfl) rfl dX8_better_2 rfl hf (fun b2 y1 hf => sfX8_clockOf b2 _ _ y1 hf) (fun b2 y1 _ _ hf => ?_)
  refine am_astore_n (ls' := [some (va_rf (some v0)), some (.int v1), some (.int v2), some (va_rf y1.1), none, none]) dX8_better_5 (by decide) rfl rfl ?_
  refine am_aload_n dX8_better_6 rfl rfl ?_
  refine am_iload_n dX8_better_7 rfl rfl ?_
  refine am_cVr (As := [.int v2]) (st := []) lk_X8_better_117 rfl (Nat.le_of_ble_eq_true rfl) (Nat.le_of_ble_eq_true rfl) rfl dX8_better_8 rfl hf (fun b4 y3 hf => sfX8_clockOf b4 _ _ y3 hf) (fun b4 y3 _ _ hf => ?_)
  refine am_astore (ls' := [some (va_rf (some v0)), some (.int v1), some (.int v2), some (va_rf y1.1), some (va_rf y3.1), none]) dX8_better_11 (by decide) (am_s1_r (j := 3) rfl rfl) rfl ?_
  refine am_aload_n dX8_better_13 rfl rfl ?_
  refine am_ifnull (tgt := 22) dX8_better_14 (by decide) rfl hf (fun hf => ?_) (fun hf => ?_)
  · refine am_bipush (v := -101) dX8_better_22 (by decide) rfl ?_
    exact am_iret rfl dX8_better_24 hf
  refine am_aload dX8_better_17 rfl rfl ?_
  refine am_ifnonnull (tgt := 25) dX8_better_19 (by decide) rfl hf (fun hf => ?_) (fun hf => ?_)
  · refine am_aload_n dX8_better_25 rfl rfl ?_
    refine am_aload_n dX8_better_26 rfl rfl ?_
    refine am_cVv (As := [va_rf y1.1]) (st := []) lk_X8_better_248 rfl (by simp only [am_e1_r, am_e1_i, am_e1_l, am_e1_n]; exact Nat.le_of_ble_eq_true rfl) (Nat.le_of_ble_eq_true rfl) rfl dX8_better_27 rfl hf (fun b6 y5 hf => sfX8_findWorst b6 _ _ y5 hf) (fun b6 y5 _ _ hf => ?_)
    refine am_aload_n dX8_better_30 rfl rfl ?_
    refine am_gr_ dX8_better_31 fl_X8_83 rfl hf (fun x7 _ hf => ?_)
    refine am_iconst (v := 0) dX8_better_34 rfl rfl ?_
    refine am_iald dX8_better_35 rfl hf (fun x8 _ hf => ?_)
    refine am_istore (ls' := [some (va_rf (some v0)), some (.int v1), some (.int v2), some (va_rf y1.1), some (va_rf y3.1), some (.int x8)]) dX8_better_36 (by decide) (am_s1_r (j := 4) rfl rfl) rfl ?_
    refine am_aload_n dX8_better_38 rfl rfl ?_
    refine am_aload dX8_better_39 rfl rfl ?_
    refine am_cVv (As := [va_rf y3.1]) (st := []) lk_X8_better_248 rfl (by simp only [am_e1_r, am_e1_i, am_e1_l, am_e1_n]; exact Nat.le_of_ble_eq_true rfl) (Nat.le_of_ble_eq_true rfl) rfl dX8_better_41 rfl hf (fun b10 y9 hf => sfX8_findWorst b10 _ _ y9 hf) (fun b10 y9 _ _ hf => ?_)
    refine am_aload_n dX8_better_44 rfl rfl ?_
    refine am_gr_ dX8_better_45 fl_X8_83 rfl hf (fun x11 _ hf => ?_)
    refine am_iconst (v := 0) dX8_better_48 rfl rfl ?_
    refine am_iald dX8_better_49 rfl hf (fun x12 _ hf => ?_)
    refine am_iload dX8_better_50 rfl rfl ?_
    refine am_icmp_ge (tgt := 59) dX8_better_52 (by decide) rfl hf (fun hf => ?_) (fun hf => ?_)
    · refine am_iload_n dX8_better_59 rfl rfl ?_
      exact am_iret rfl dX8_better_60 hf
    refine am_iload_n dX8_better_55 rfl rfl ?_
    refine am_goto (pc' := 60) dX8_better_56 (by decide) ?_
    exact am_iret rfl dX8_better_60 hf
  refine am_bipush (v := -101) dX8_better_22 (by decide) rfl ?_
  exact am_iret rfl dX8_better_24 hf
set_option maxRecDepth 20000 in
set_option maxHeartbeats 4000000 in
theorem sfL_law_1372 {G : am_G}  {k1374 : Option Nat → Option Nat → Option Nat → Option Nat → Int32 → Option Nat → Option Nat → Option Nat → Int32 → Option Nat → Int32 → Int32 → Option Nat → Option Nat → Int32 → Option Nat → Option Nat → Option Nat → Int32 → Int32 → Int32 → Int32 → Int32 → Int32 → Int32 → Int32 → Int32 → Int32 → am_H → Option (Int32 × am_H)} (hk1374 : ∀ (v1 : Option Nat) (v2 : Option Nat) (v3 : Option Nat) (v4 : Option Nat) (v5 : Int32) (v6 : Option Nat) (v7 : Option Nat) (v8 : Option Nat) (v9 : Int32) (v10 : Option Nat) (v11 : Int32) (v17 : Int32) (v21 : Option Nat) (v22 : Option Nat) (v23 : Int32) (v24 : Option Nat) (v25 : Option Nat) (v26 : Option Nat) (v27 : Int32) (v28 : Int32) (v29 : Int32) (v30 : Int32) (v31 : Int32) (v32 : Int32) (v33 : Int32) (v34 : Int32) (v35 : Int32) (v37 : Int32) (h : am_H) (y : Int32 × am_H), k1374 v1 v2 v3 v4 v5 v6 v7 v8 v9 v10 v11 v17 v21 v22 v23 v24 v25 v26 v27 v28 v29 v30 v31 v32 v33 v34 v35 v37 h = some y → am_S G miL_law 1374 [some (va_rf (some 0)), some (va_rf v1), some (va_rf v2), some (va_rf v3), some (va_rf v4), some (.int v5), some (va_rf v6), some (va_rf v7), some (va_rf v8), some (.int v9), some (va_rf v10), some (.int v11), none, none, none, none, none, some (.int v17), none, none, none, some (va_rf v21), some (va_rf v22), some (.int v23), some (va_rf v24), some (va_rf v25), some (va_rf v26), some (.int v27), some (.int v28), some (.int v29), some (.int v30), some (.int v31), some (.int v32), some (.int v33), some (.int v34), some (.int v35), none, some (.int v37)] [] h (some (.int y.1)) y.2) (v1 : Option Nat) (v2 : Option Nat) (v3 : Option Nat) (v4 : Option Nat) (v5 : Int32) (v6 : Option Nat) (v7 : Option Nat) (v8 : Option Nat) (v9 : Int32) (v10 : Option Nat) (v11 : Int32) (v17 : Int32) (v21 : Option Nat) (v22 : Option Nat) (v23 : Int32) (v24 : Option Nat) (v25 : Option Nat) (v26 : Option Nat) (v27 : Int32) (v28 : Int32) (v29 : Int32) (v30 : Int32) (v31 : Int32) (v32 : Int32) (v33 : Int32) (v34 : Int32) (v35 : Int32) (s0 : Int32) (h : am_H) (y : Int32 × am_H) (hf : fL_law_1372 G.2.2.2.2.1 G.2.2.2.2.2 k1374 v1 v2 v3 v4 v5 v6 v7 v8 v9 v10 v11 v17 v21 v22 v23 v24 v25 v26 v27 v28 v29 v30 v31 v32 v33 v34 v35 s0 h = some y) : am_S G miL_law 1372 [some (va_rf (some 0)), some (va_rf v1), some (va_rf v2), some (va_rf v3), some (va_rf v4), some (.int v5), some (va_rf v6), some (va_rf v7), some (va_rf v8), some (.int v9), some (va_rf v10), some (.int v11), none, none, none, none, none, some (.int v17), none, none, none, some (va_rf v21), some (va_rf v22), some (.int v23), some (va_rf v24), some (va_rf v25), some (va_rf v26), some (.int v27), some (.int v28), some (.int v29), some (.int v30), some (.int v31), some (.int v32), some (.int v33), some (.int v34), some (.int v35), none, none] [.int s0] h (some (.int y.1)) y.2 := by
  unfold fL_law_1372 at hf
  refine am_istore (ls' := [some (va_rf (some 0)), some (va_rf v1), some (va_rf v2), some (va_rf v3), some (va_rf v4), some (.int v5), some (va_rf v6), some (va_rf v7), some (va_rf v8), some (.int v9), some (va_rf v10), some (.int v11), none, none, none, none, none, some (.int v17), none, none, none, some (va_rf v21), some (va_rf v22), some (.int v23), some (va_rf v24), some (va_rf v25), some (va_rf v26), some (.int v27), some (.int v28), some (.int v29), some (.int v30), some (.int v31), some (.int v32), some (.int v33), some (.int v34), some (.int v35), none, some (.int s0)]) dL_law_1372 (by decide) rfl rfl ?_
  exact hk1374 _ _ _ _ _ _ _ _ _ _ _ _ _ _ _ _ _ _ _ _ _ _ _ _ _ _ _ _ _ _ hf
set_option maxRecDepth 20000 in
set_option maxHeartbeats 4000000 in
theorem sfL_law_1328 {G : am_G}  {k1374 : Option Nat → Option Nat → Option Nat → Option Nat → Int32 → Option Nat → Option Nat → Option Nat → Int32 → Option Nat → Int32 → Int32 → Option Nat → Option Nat → Int32 → Option Nat → Option Nat → Option Nat → Int32 → Int32 → Int32 → Int32 → Int32 → Int32 → Int32 → Int32 → Int32 → Int32 → am_H → Option (Int32 × am_H)} (hk1374 : ∀ (v1 : Option Nat) (v2 : Option Nat) (v3 : Option Nat) (v4 : Option Nat) (v5 : Int32) (v6 : Option Nat) (v7 : Option Nat) (v8 : Option Nat) (v9 : Int32) (v10 : Option Nat) (v11 : Int32) (v17 : Int32) (v21 : Option Nat) (v22 : Option Nat) (v23 : Int32) (v24 : Option Nat) (v25 : Option Nat) (v26 : Option Nat) (v27 : Int32) (v28 : Int32) (v29 : Int32) (v30 : Int32) (v31 : Int32) (v32 : Int32) (v33 : Int32) (v34 : Int32) (v35 : Int32) (v37 : Int32) (h : am_H) (y : Int32 × am_H), k1374 v1 v2 v3 v4 v5 v6 v7 v8 v9 v10 v11 v17 v21 v22 v23 v24 v25 v26 v27 v28 v29 v30 v31 v32 v33 v34 v35 v37 h = some y → am_S G miL_law 1374 [some (va_rf (some 0)), some (va_rf v1), some (va_rf v2), some (va_rf v3), some (va_rf v4), some (.int v5), some (va_rf v6), some (va_rf v7), some (va_rf v8), some (.int v9), some (va_rf v10), some (.int v11), none, none, none, none, none, some (.int v17), none, none, none, some (va_rf v21), some (va_rf v22), some (.int v23), some (va_rf v24), some (va_rf v25), some (va_rf v26), some (.int v27), some (.int v28), some (.int v29), some (.int v30), some (.int v31), some (.int v32), some (.int v33), some (.int v34), some (.int v35), none, some (.int v37)] [] h (some (.int y.1)) y.2) (v1 : Option Nat) (v2 : Option Nat) (v3 : Option Nat) (v4 : Option Nat) (v5 : Int32) (v6 : Option Nat) (v7 : Option Nat) (v8 : Option Nat) (v9 : Int32) (v10 : Option Nat) (v11 : Int32) (v17 : Int32) (v21 : Option Nat) (v22 : Option Nat) (v23 : Int32) (v24 : Option Nat) (v25 : Option Nat) (v26 : Option Nat) (v27 : Int32) (v28 : Int32) (v29 : Int32) (v30 : Int32) (v31 : Int32) (v32 : Int32) (v33 : Int32) (v34 : Int32) (v35 : Int32) (h : am_H) (y : Int32 × am_H) (hf : fL_law_1328 G.2.2.2.2.1 G.2.2.2.2.2 k1374 v1 v2 v3 v4 v5 v6 v7 v8 v9 v10 v11 v17 v21 v22 v23 v24 v25 v26 v27 v28 v29 v30 v31 v32 v33 v34 v35 h = some y) : am_S G miL_law 1328 [some (va_rf (some 0)), some (va_rf v1), some (va_rf v2), some (va_rf v3), some (va_rf v4), some (.int v5), some (va_rf v6), some (va_rf v7), some (va_rf v8), some (.int v9), some (va_rf v10), some (.int v11), none, none, none, none, none, some (.int v17), none, none, none, some (va_rf v21), some (va_rf v22), some (.int v23), some (va_rf v24), some (va_rf v25), some (va_rf v26), some (.int v27), some (.int v28), some (.int v29), some (.int v30), some (.int v31), some (.int v32), some (.int v33), some (.int v34), some (.int v35), none, none] [] h (some (.int y.1)) y.2 := by
  unfold fL_law_1328 at hf
  refine am_iconst (v := -1) dL_law_1328 rfl rfl ?_
  refine am_istore (ls' := [some (va_rf (some 0)), some (va_rf v1), some (va_rf v2), some (va_rf v3), some (va_rf v4), some (.int v5), some (va_rf v6), some (va_rf v7), some (va_rf v8), some (.int v9), some (va_rf v10), some (.int v11), none, none, none, none, none, some (.int v17), none, none, none, some (va_rf v21), some (va_rf v22), some (.int v23), some (va_rf v24), some (va_rf v25), some (va_rf v26), some (.int v27), some (.int v28), some (.int v29), some (.int v30), some (.int v31), some (.int v32), some (.int v33), some (.int v34), some (.int v35), none, some (.int (-1 : Int32))]) dL_law_1329 (by decide) rfl rfl ?_
  refine am_goto (pc' := 1374) dL_law_1331 (by decide) ?_
  exact hk1374 _ _ _ _ _ _ _ _ _ _ _ _ _ _ _ _ _ _ _ _ _ _ _ _ _ _ _ _ _ _ hf
set_option maxRecDepth 20000 in
set_option maxHeartbeats 4000000 in
theorem sfL_law_1249 {G : am_G}  {k1374 : Option Nat → Option Nat → Option Nat → Option Nat → Int32 → Option Nat → Option Nat → Option Nat → Int32 → Option Nat → Int32 → Int32 → Option Nat → Option Nat → Int32 → Option Nat → Option Nat → Option Nat → Int32 → Int32 → Int32 → Int32 → Int32 → Int32 → Int32 → Int32 → Int32 → Int32 → am_H → Option (Int32 × am_H)} (hk1374 : ∀ (v1 : Option Nat) (v2 : Option Nat) (v3 : Option Nat) (v4 : Option Nat) (v5 : Int32) (v6 : Option Nat) (v7 : Option Nat) (v8 : Option Nat) (v9 : Int32) (v10 : Option Nat) (v11 : Int32) (v17 : Int32) (v21 : Option Nat) (v22 : Option Nat) (v23 : Int32) (v24 : Option Nat) (v25 : Option Nat) (v26 : Option Nat) (v27 : Int32) (v28 : Int32) (v29 : Int32) (v30 : Int32) (v31 : Int32) (v32 : Int32) (v33 : Int32) (v34 : Int32) (v35 : Int32) (v37 : Int32) (h : am_H) (y : Int32 × am_H), k1374 v1 v2 v3 v4 v5 v6 v7 v8 v9 v10 v11 v17 v21 v22 v23 v24 v25 v26 v27 v28 v29 v30 v31 v32 v33 v34 v35 v37 h = some y → am_S G miL_law 1374 [some (va_rf (some 0)), some (va_rf v1), some (va_rf v2), some (va_rf v3), some (va_rf v4), some (.int v5), some (va_rf v6), some (va_rf v7), some (va_rf v8), some (.int v9), some (va_rf v10), some (.int v11), none, none, none, none, none, some (.int v17), none, none, none, some (va_rf v21), some (va_rf v22), some (.int v23), some (va_rf v24), some (va_rf v25), some (va_rf v26), some (.int v27), some (.int v28), some (.int v29), some (.int v30), some (.int v31), some (.int v32), some (.int v33), some (.int v34), some (.int v35), none, some (.int v37)] [] h (some (.int y.1)) y.2) (v1 : Option Nat) (v2 : Option Nat) (v3 : Option Nat) (v4 : Option Nat) (v5 : Int32) (v6 : Option Nat) (v7 : Option Nat) (v8 : Option Nat) (v9 : Int32) (v10 : Option Nat) (v11 : Int32) (v17 : Int32) (v21 : Option Nat) (v22 : Option Nat) (v23 : Int32) (v24 : Option Nat) (v25 : Option Nat) (v26 : Option Nat) (v27 : Int32) (v28 : Int32) (v29 : Int32) (v31 : Int32) (v32 : Int32) (v33 : Int32) (v34 : Int32) (v35 : Int32) (s0 : Int32) (h : am_H) (y : Int32 × am_H) (hf : fL_law_1249 G.2.2.2.2.1 G.2.2.2.2.2 k1374 v1 v2 v3 v4 v5 v6 v7 v8 v9 v10 v11 v17 v21 v22 v23 v24 v25 v26 v27 v28 v29 v31 v32 v33 v34 v35 s0 h = some y) : am_S G miL_law 1249 [some (va_rf (some 0)), some (va_rf v1), some (va_rf v2), some (va_rf v3), some (va_rf v4), some (.int v5), some (va_rf v6), some (va_rf v7), some (va_rf v8), some (.int v9), some (va_rf v10), some (.int v11), none, none, none, none, none, some (.int v17), none, none, none, some (va_rf v21), some (va_rf v22), some (.int v23), some (va_rf v24), some (va_rf v25), some (va_rf v26), some (.int v27), some (.int v28), some (.int v29), none, some (.int v31), some (.int v32), some (.int v33), some (.int v34), some (.int v35), none, none] [.int s0] h (some (.int y.1)) y.2 := by
  unfold fL_law_1249 at hf
  refine am_istore (ls' := [some (va_rf (some 0)), some (va_rf v1), some (va_rf v2), some (va_rf v3), some (va_rf v4), some (.int v5), some (va_rf v6), some (va_rf v7), some (va_rf v8), some (.int v9), some (va_rf v10), some (.int v11), none, none, none, none, none, some (.int v17), none, none, none, some (va_rf v21), some (va_rf v22), some (.int v23), some (va_rf v24), some (va_rf v25), some (va_rf v26), some (.int v27), some (.int v28), some (.int v29), some (.int s0), some (.int v31), some (.int v32), some (.int v33), some (.int v34), some (.int v35), none, none]) dL_law_1249 (by decide) rfl rfl ?_
  refine am_iconst (v := -1) dL_law_1251 rfl rfl ?_
  refine am_istore (ls' := [some (va_rf (some 0)), some (va_rf v1), some (va_rf v2), some (va_rf v3), some (va_rf v4), some (.int v5), some (va_rf v6), some (va_rf v7), some (va_rf v8), some (.int v9), some (va_rf v10), some (.int v11), none, none, none, none, none, some (.int v17), none, none, none, some (va_rf v21), some (va_rf v22), some (.int v23), some (va_rf v24), some (va_rf v25), some (va_rf v26), some (.int v27), some (.int v28), some (.int v29), some (.int s0), some (.int v31), some (.int v32), some (.int v33), some (.int v34), some (.int v35), none, some (.int (-1 : Int32))]) dL_law_1252 (by decide) rfl rfl ?_
  refine am_goto (pc' := 1374) dL_law_1254 (by decide) ?_
  exact hk1374 _ _ _ _ _ _ _ _ _ _ _ _ _ _ _ _ _ _ _ _ _ _ _ _ _ _ _ _ _ _ hf
set_option maxRecDepth 20000 in
set_option maxHeartbeats 4000000 in
theorem sfL_law_1257 {G : am_G}  {k1374 : Option Nat → Option Nat → Option Nat → Option Nat → Int32 → Option Nat → Option Nat → Option Nat → Int32 → Option Nat → Int32 → Int32 → Option Nat → Option Nat → Int32 → Option Nat → Option Nat → Option Nat → Int32 → Int32 → Int32 → Int32 → Int32 → Int32 → Int32 → Int32 → Int32 → Int32 → am_H → Option (Int32 × am_H)} (hk1374 : ∀ (v1 : Option Nat) (v2 : Option Nat) (v3 : Option Nat) (v4 : Option Nat) (v5 : Int32) (v6 : Option Nat) (v7 : Option Nat) (v8 : Option Nat) (v9 : Int32) (v10 : Option Nat) (v11 : Int32) (v17 : Int32) (v21 : Option Nat) (v22 : Option Nat) (v23 : Int32) (v24 : Option Nat) (v25 : Option Nat) (v26 : Option Nat) (v27 : Int32) (v28 : Int32) (v29 : Int32) (v30 : Int32) (v31 : Int32) (v32 : Int32) (v33 : Int32) (v34 : Int32) (v35 : Int32) (v37 : Int32) (h : am_H) (y : Int32 × am_H), k1374 v1 v2 v3 v4 v5 v6 v7 v8 v9 v10 v11 v17 v21 v22 v23 v24 v25 v26 v27 v28 v29 v30 v31 v32 v33 v34 v35 v37 h = some y → am_S G miL_law 1374 [some (va_rf (some 0)), some (va_rf v1), some (va_rf v2), some (va_rf v3), some (va_rf v4), some (.int v5), some (va_rf v6), some (va_rf v7), some (va_rf v8), some (.int v9), some (va_rf v10), some (.int v11), none, none, none, none, none, some (.int v17), none, none, none, some (va_rf v21), some (va_rf v22), some (.int v23), some (va_rf v24), some (va_rf v25), some (va_rf v26), some (.int v27), some (.int v28), some (.int v29), some (.int v30), some (.int v31), some (.int v32), some (.int v33), some (.int v34), some (.int v35), none, some (.int v37)] [] h (some (.int y.1)) y.2) (v1 : Option Nat) (v2 : Option Nat) (v3 : Option Nat) (v4 : Option Nat) (v5 : Int32) (v6 : Option Nat) (v7 : Option Nat) (v8 : Option Nat) (v9 : Int32) (v10 : Option Nat) (v11 : Int32) (v17 : Int32) (v21 : Option Nat) (v22 : Option Nat) (v23 : Int32) (v24 : Option Nat) (v25 : Option Nat) (v26 : Option Nat) (v27 : Int32) (v28 : Int32) (v29 : Int32) (v30 : Int32) (v31 : Int32) (v32 : Int32) (v33 : Int32) (v34 : Int32) (v35 : Int32) (v36 : Int32) (v37 : Int32) (h : am_H) (y : Int32 × am_H) (hf : fL_law_1257 G.2.2.2.2.1 G.2.2.2.2.2 k1374 v1 v2 v3 v4 v5 v6 v7 v8 v9 v10 v11 v17 v21 v22 v23 v24 v25 v26 v27 v28 v29 v30 v31 v32 v33 v34 v35 v36 v37 h = some y) : am_S G miL_law 1257 [some (va_rf (some 0)), some (va_rf v1), some (va_rf v2), some (va_rf v3), some (va_rf v4), some (.int v5), some (va_rf v6), some (va_rf v7), some (va_rf v8), some (.int v9), some (va_rf v10), some (.int v11), none, none, none, none, none, some (.int v17), none, none, none, some (va_rf v21), some (va_rf v22), some (.int v23), some (va_rf v24), some (va_rf v25), some (va_rf v26), some (.int v27), some (.int v28), some (.int v29), some (.int v30), some (.int v31), some (.int v32), some (.int v33), some (.int v34), some (.int v35), some (.int v36), some (.int v37)] [] h (some (.int y.1)) y.2 := by
  unfold fL_law_1257 at hf
  refine am_aload dL_law_1257 rfl rfl ?_
  refine am_iload dL_law_1259 rfl rfl ?_
  refine am_iald dL_law_1261 rfl hf (fun x1 _ hf => ?_)
  refine am_iconst (v := 2) dL_law_1262 rfl rfl ?_
  refine am_icmp_ne (tgt := 1291) dL_law_1263 (by decide) rfl hf (fun hf => ?_) (fun hf => ?_)
  · refine am_aload dL_law_1291 rfl rfl ?_
    refine am_iload dL_law_1293 rfl rfl ?_
    refine am_iald dL_law_1295 rfl hf (fun x2 _ hf => ?_)
    refine am_iconst (v := 3) dL_law_1296 rfl rfl ?_
    refine am_icmp_ne (tgt := 1334) dL_law_1297 (by decide) rfl hf (fun hf => ?_) (fun hf => ?_)
    · refine am_aload dL_law_1334 rfl rfl ?_
      refine am_iload dL_law_1336 rfl rfl ?_
      refine am_iald dL_law_1338 rfl hf (fun x3 _ hf => ?_)
      refine am_iconst (v := 4) dL_law_1339 rfl rfl ?_
      refine am_icmp_ne (tgt := 1374) dL_law_1340 (by decide) rfl hf (fun hf => ?_) (fun hf => ?_)
      · exact am_we (hk1374 _ _ _ _ _ _ _ _ _ _ _ _ _ _ _ _ _ _ _ _ _ _ _ _ _ _ _ _ _ _ hf) ⟨Or.inr rfl, Or.inr rfl, Or.inr rfl, Or.inr rfl, Or.inr rfl, Or.inr rfl, Or.inr rfl, Or.inr rfl, Or.inr rfl, Or.inr rfl, Or.inr rfl, Or.inr rfl, Or.inl rfl, Or.inl rfl, Or.inl rfl, Or.inl rfl, Or.inl rfl, Or.inr rfl, Or.inl rfl, Or.inl rfl, Or.inl rfl, Or.inr rfl, Or.inr rfl, Or.inr rfl, Or.inr rfl, Or.inr rfl, Or.inr rfl, Or.inr rfl, Or.inr rfl, Or.inr rfl, Or.inr rfl, Or.inr rfl, Or.inr rfl, Or.inr rfl, Or.inr rfl, Or.inr rfl, Or.inl rfl, Or.inr rfl, trivial⟩
      refine am_aload dL_law_1343 rfl rfl ?_
      refine am_iload dL_law_1345 rfl rfl ?_
      refine am_dup2 dL_law_1347 (rfl) (am_c1 _) rfl ?_
      refine am_iald dL_law_1348 rfl hf (fun x4 _ hf => ?_)
      refine am_iconst (v := 1) dL_law_1349 rfl rfl ?_
      refine am_iadd dL_law_1350 rfl ?_
      refine am_iast dL_law_1351 rfl hf (fun h5 _ hf => ?_)
      refine am_aload dL_law_1352 rfl rfl ?_
      refine am_iload dL_law_1354 rfl rfl ?_
      refine am_iald dL_law_1356 rfl hf (fun x6 _ hf => ?_)
      refine am_aload dL_law_1357 rfl rfl ?_
      refine am_iload dL_law_1359 rfl rfl ?_
      refine am_iald dL_law_1361 rfl hf (fun x7 _ hf => ?_)
      refine am_irem dL_law_1362 rfl hf (fun hf => ?_)
      refine am_if_ne (tgt := 1371) dL_law_1363 (by decide) rfl hf (fun hf => ?_) (fun hf => ?_)
      · refine am_iconst (v := -1) dL_law_1371 rfl rfl ?_
        exact am_we ((sfL_law_1372 hk1374) _ _ _ _ _ _ _ _ _ _ _ _ _ _ _ _ _ _ _ _ _ _ _ _ _ _ _ _ _ _ hf) ⟨Or.inr rfl, Or.inr rfl, Or.inr rfl, Or.inr rfl, Or.inr rfl, Or.inr rfl, Or.inr rfl, Or.inr rfl, Or.inr rfl, Or.inr rfl, Or.inr rfl, Or.inr rfl, Or.inl rfl, Or.inl rfl, Or.inl rfl, Or.inl rfl, Or.inl rfl, Or.inr rfl, Or.inl rfl, Or.inl rfl, Or.inl rfl, Or.inr rfl, Or.inr rfl, Or.inr rfl, Or.inr rfl, Or.inr rfl, Or.inr rfl, Or.inr rfl, Or.inr rfl, Or.inr rfl, Or.inr rfl, Or.inr rfl, Or.inr rfl, Or.inr rfl, Or.inr rfl, Or.inr rfl, Or.inl rfl, Or.inl rfl, trivial⟩
      refine am_iload dL_law_1366 rfl rfl ?_
      refine am_goto (pc' := 1372) dL_law_1368 (by decide) ?_
      exact am_we ((sfL_law_1372 hk1374) _ _ _ _ _ _ _ _ _ _ _ _ _ _ _ _ _ _ _ _ _ _ _ _ _ _ _ _ _ _ hf) ⟨Or.inr rfl, Or.inr rfl, Or.inr rfl, Or.inr rfl, Or.inr rfl, Or.inr rfl, Or.inr rfl, Or.inr rfl, Or.inr rfl, Or.inr rfl, Or.inr rfl, Or.inr rfl, Or.inl rfl, Or.inl rfl, Or.inl rfl, Or.inl rfl, Or.inl rfl, Or.inr rfl, Or.inl rfl, Or.inl rfl, Or.inl rfl, Or.inr rfl, Or.inr rfl, Or.inr rfl, Or.inr rfl, Or.inr rfl, Or.inr rfl, Or.inr rfl, Or.inr rfl, Or.inr rfl, Or.inr rfl, Or.inr rfl, Or.inr rfl, Or.inr rfl, Or.inr rfl, Or.inr rfl, Or.inl rfl, Or.inl rfl, trivial⟩
    refine am_iload dL_law_1300 rfl rfl ?_
    refine am_if_lt (tgt := 1328) dL_law_1302 (by decide) rfl hf (fun hf => ?_) (fun hf => ?_)
    · exact am_we ((sfL_law_1328 hk1374) _ _ _ _ _ _ _ _ _ _ _ _ _ _ _ _ _ _ _ _ _ _ _ _ _ _ _ _ _ hf) ⟨Or.inr rfl, Or.inr rfl, Or.inr rfl, Or.inr rfl, Or.inr rfl, Or.inr rfl, Or.inr rfl, Or.inr rfl, Or.inr rfl, Or.inr rfl, Or.inr rfl, Or.inr rfl, Or.inl rfl, Or.inl rfl, Or.inl rfl, Or.inl rfl, Or.inl rfl, Or.inr rfl, Or.inl rfl, Or.inl rfl, Or.inl rfl, Or.inr rfl, Or.inr rfl, Or.inr rfl, Or.inr rfl, Or.inr rfl, Or.inr rfl, Or.inr rfl, Or.inr rfl, Or.inr rfl, Or.inr rfl, Or.inr rfl, Or.inr rfl, Or.inr rfl, Or.inr rfl, Or.inr rfl, Or.inl rfl, Or.inl rfl, trivial⟩
    refine am_aload dL_law_1305 rfl rfl ?_
    refine am_iload dL_law_1307 rfl rfl ?_
    refine am_iload dL_law_1309 rfl rfl ?_
    refine am_iast dL_law_1311 rfl hf (fun h8 _ hf => ?_)
    refine am_aload dL_law_1312 rfl rfl ?_
    refine am_iload dL_law_1314 rfl rfl ?_
    refine am_iload dL_law_1316 rfl rfl ?_
    refine am_aload dL_law_1318 rfl rfl ?_
    refine am_iload dL_law_1320 rfl rfl ?_
    refine am_iald dL_law_1322 rfl hf (fun x9 _ hf => ?_)
    refine am_iadd dL_law_1323 rfl ?_
    refine am_iast dL_law_1324 rfl hf (fun h10 _ hf => ?_)
    refine am_iinc (ls' := [some (va_rf (some 0)), some (va_rf v1), some (va_rf v2), some (va_rf v3), some (va_rf v4), some (.int v5), some (va_rf v6), some (va_rf v7), some (va_rf v8), some (.int v9), some (va_rf v10), some (.int v11), none, none, none, none, none, some (.int v17), none, none, none, some (va_rf v21), some (va_rf v22), some (.int (v23 + (1 : Int32))), some (va_rf v24), some (va_rf v25), some (va_rf v26), some (.int v27), some (.int v28), some (.int v29), some (.int v30), some (.int v31), some (.int v32), some (.int v33), some (.int v34), some (.int v35), some (.int v36), some (.int v37)]) dL_law_1325 rfl rfl (by decide) (am_s1_r (j := 22) rfl rfl) rfl ?_
    exact am_we ((sfL_law_1328 hk1374) _ _ _ _ _ _ _ _ _ _ _ _ _ _ _ _ _ _ _ _ _ _ _ _ _ _ _ _ _ hf) ⟨Or.inr rfl, Or.inr rfl, Or.inr rfl, Or.inr rfl, Or.inr rfl, Or.inr rfl, Or.inr rfl, Or.inr rfl, Or.inr rfl, Or.inr rfl, Or.inr rfl, Or.inr rfl, Or.inl rfl, Or.inl rfl, Or.inl rfl, Or.inl rfl, Or.inl rfl, Or.inr rfl, Or.inl rfl, Or.inl rfl, Or.inl rfl, Or.inr rfl, Or.inr rfl, Or.inr rfl, Or.inr rfl, Or.inr rfl, Or.inr rfl, Or.inr rfl, Or.inr rfl, Or.inr rfl, Or.inr rfl, Or.inr rfl, Or.inr rfl, Or.inr rfl, Or.inr rfl, Or.inr rfl, Or.inl rfl, Or.inl rfl, trivial⟩
  refine am_aload dL_law_1266 rfl rfl ?_
  refine am_aload dL_law_1268 rfl rfl ?_
  refine am_iload dL_law_1270 rfl rfl ?_
  refine am_iald dL_law_1272 rfl hf (fun x11 _ hf => ?_)
  refine am_iload dL_law_1273 rfl rfl ?_
  refine am_iconst (v := 3) dL_law_1275 rfl rfl ?_
  refine am_iadd dL_law_1276 rfl ?_
  refine am_iast dL_law_1277 rfl hf (fun h12 _ hf => ?_)
  refine am_aload dL_law_1278 rfl rfl ?_
  refine am_iload dL_law_1280 rfl rfl ?_
  refine am_iload dL_law_1282 rfl rfl ?_
  refine am_iast dL_law_1284 rfl hf (fun h13 _ hf => ?_)
  refine am_iinc (ls' := [some (va_rf (some 0)), some (va_rf v1), some (va_rf v2), some (va_rf v3), some (va_rf v4), some (.int v5), some (va_rf v6), some (va_rf v7), some (va_rf v8), some (.int v9), some (va_rf v10), some (.int v11), none, none, none, none, none, some (.int v17), none, none, none, some (va_rf v21), some (va_rf v22), some (.int v23), some (va_rf v24), some (va_rf v25), some (va_rf v26), some (.int v27), some (.int v28), some (.int (v29 + (1 : Int32))), some (.int v30), some (.int v31), some (.int v32), some (.int v33), some (.int v34), some (.int v35), some (.int v36), some (.int v37)]) dL_law_1285 rfl rfl (by decide) rfl rfl ?_
  refine am_goto (pc' := 1374) dL_law_1288 (by decide) ?_
  exact am_we (hk1374 _ _ _ _ _ _ _ _ _ _ _ _ _ _ _ _ _ _ _ _ _ _ _ _ _ _ _ _ _ _ hf) ⟨Or.inr rfl, Or.inr rfl, Or.inr rfl, Or.inr rfl, Or.inr rfl, Or.inr rfl, Or.inr rfl, Or.inr rfl, Or.inr rfl, Or.inr rfl, Or.inr rfl, Or.inr rfl, Or.inl rfl, Or.inl rfl, Or.inl rfl, Or.inl rfl, Or.inl rfl, Or.inr rfl, Or.inl rfl, Or.inl rfl, Or.inl rfl, Or.inr rfl, Or.inr rfl, Or.inr rfl, Or.inr rfl, Or.inr rfl, Or.inr rfl, Or.inr rfl, Or.inr rfl, Or.inr rfl, Or.inr rfl, Or.inr rfl, Or.inr rfl, Or.inr rfl, Or.inr rfl, Or.inr rfl, Or.inl rfl, Or.inr rfl, trivial⟩
set_option maxRecDepth 20000 in
set_option maxHeartbeats 4000000 in
theorem sfL_law_1235 {G : am_G}  {k1374 : Option Nat → Option Nat → Option Nat → Option Nat → Int32 → Option Nat → Option Nat → Option Nat → Int32 → Option Nat → Int32 → Int32 → Option Nat → Option Nat → Int32 → Option Nat → Option Nat → Option Nat → Int32 → Int32 → Int32 → Int32 → Int32 → Int32 → Int32 → Int32 → Int32 → Int32 → am_H → Option (Int32 × am_H)} (hk1374 : ∀ (v1 : Option Nat) (v2 : Option Nat) (v3 : Option Nat) (v4 : Option Nat) (v5 : Int32) (v6 : Option Nat) (v7 : Option Nat) (v8 : Option Nat) (v9 : Int32) (v10 : Option Nat) (v11 : Int32) (v17 : Int32) (v21 : Option Nat) (v22 : Option Nat) (v23 : Int32) (v24 : Option Nat) (v25 : Option Nat) (v26 : Option Nat) (v27 : Int32) (v28 : Int32) (v29 : Int32) (v30 : Int32) (v31 : Int32) (v32 : Int32) (v33 : Int32) (v34 : Int32) (v35 : Int32) (v37 : Int32) (h : am_H) (y : Int32 × am_H), k1374 v1 v2 v3 v4 v5 v6 v7 v8 v9 v10 v11 v17 v21 v22 v23 v24 v25 v26 v27 v28 v29 v30 v31 v32 v33 v34 v35 v37 h = some y → am_S G miL_law 1374 [some (va_rf (some 0)), some (va_rf v1), some (va_rf v2), some (va_rf v3), some (va_rf v4), some (.int v5), some (va_rf v6), some (va_rf v7), some (va_rf v8), some (.int v9), some (va_rf v10), some (.int v11), none, none, none, none, none, some (.int v17), none, none, none, some (va_rf v21), some (va_rf v22), some (.int v23), some (va_rf v24), some (va_rf v25), some (va_rf v26), some (.int v27), some (.int v28), some (.int v29), some (.int v30), some (.int v31), some (.int v32), some (.int v33), some (.int v34), some (.int v35), none, some (.int v37)] [] h (some (.int y.1)) y.2) (v1 : Option Nat) (v2 : Option Nat) (v3 : Option Nat) (v4 : Option Nat) (v5 : Int32) (v6 : Option Nat) (v7 : Option Nat) (v8 : Option Nat) (v9 : Int32) (v10 : Option Nat) (v11 : Int32) (v17 : Int32) (v21 : Option Nat) (v22 : Option Nat) (v23 : Int32) (v24 : Option Nat) (v25 : Option Nat) (v26 : Option Nat) (v27 : Int32) (v28 : Int32) (v29 : Int32) (v30 : Int32) (v32 : Int32) (v33 : Int32) (v34 : Int32) (v35 : Int32) (v36 : Int32) (s0 : Int32) (h : am_H) (y : Int32 × am_H) (hf : fL_law_1235 G.2.2.2.2.1 G.2.2.2.2.2 k1374 v1 v2 v3 v4 v5 v6 v7 v8 v9 v10 v11 v17 v21 v22 v23 v24 v25 v26 v27 v28 v29 v30 v32 v33 v34 v35 v36 s0 h = some y) : am_S G miL_law 1235 [some (va_rf (some 0)), some (va_rf v1), some (va_rf v2), some (va_rf v3), some (va_rf v4), some (.int v5), some (va_rf v6), some (va_rf v7), some (va_rf v8), some (.int v9), some (va_rf v10), some (.int v11), none, none, none, none, none, some (.int v17), none, none, none, some (va_rf v21), some (va_rf v22), some (.int v23), some (va_rf v24), some (va_rf v25), some (va_rf v26), some (.int v27), some (.int v28), some (.int v29), some (.int v30), none, some (.int v32), some (.int v33), some (.int v34), some (.int v35), some (.int v36), none] [.int s0] h (some (.int y.1)) y.2 := by
  unfold fL_law_1235 at hf
  refine am_istore (ls' := [some (va_rf (some 0)), some (va_rf v1), some (va_rf v2), some (va_rf v3), some (va_rf v4), some (.int v5), some (va_rf v6), some (va_rf v7), some (va_rf v8), some (.int v9), some (va_rf v10), some (.int v11), none, none, none, none, none, some (.int v17), none, none, none, some (va_rf v21), some (va_rf v22), some (.int v23), some (va_rf v24), some (va_rf v25), some (va_rf v26), some (.int v27), some (.int v28), some (.int v29), some (.int v30), some (.int s0), some (.int v32), some (.int v33), some (.int v34), some (.int v35), some (.int v36), none]) dL_law_1235 (by decide) rfl rfl ?_
  refine am_iload dL_law_1237 rfl rfl ?_
  refine am_if_ge (tgt := 1247) dL_law_1239 (by decide) rfl hf (fun hf => ?_) (fun hf => ?_)
  · refine am_iload dL_law_1247 rfl rfl ?_
    exact am_we ((sfL_law_1249 hk1374) _ _ _ _ _ _ _ _ _ _ _ _ _ _ _ _ _ _ _ _ _ _ _ _ _ _ _ _ _ hf) ⟨Or.inr rfl, Or.inr rfl, Or.inr rfl, Or.inr rfl, Or.inr rfl, Or.inr rfl, Or.inr rfl, Or.inr rfl, Or.inr rfl, Or.inr rfl, Or.inr rfl, Or.inr rfl, Or.inl rfl, Or.inl rfl, Or.inl rfl, Or.inl rfl, Or.inl rfl, Or.inr rfl, Or.inl rfl, Or.inl rfl, Or.inl rfl, Or.inr rfl, Or.inr rfl, Or.inr rfl, Or.inr rfl, Or.inr rfl, Or.inr rfl, Or.inr rfl, Or.inr rfl, Or.inr rfl, Or.inl rfl, Or.inr rfl, Or.inr rfl, Or.inr rfl, Or.inr rfl, Or.inr rfl, Or.inl rfl, Or.inl rfl, trivial⟩
  refine am_iload dL_law_1242 rfl rfl ?_
  refine am_goto (pc' := 1249) dL_law_1244 (by decide) ?_
  exact am_we ((sfL_law_1249 hk1374) _ _ _ _ _ _ _ _ _ _ _ _ _ _ _ _ _ _ _ _ _ _ _ _ _ _ _ _ _ hf) ⟨Or.inr rfl, Or.inr rfl, Or.inr rfl, Or.inr rfl, Or.inr rfl, Or.inr rfl, Or.inr rfl, Or.inr rfl, Or.inr rfl, Or.inr rfl, Or.inr rfl, Or.inr rfl, Or.inl rfl, Or.inl rfl, Or.inl rfl, Or.inl rfl, Or.inl rfl, Or.inr rfl, Or.inl rfl, Or.inl rfl, Or.inl rfl, Or.inr rfl, Or.inr rfl, Or.inr rfl, Or.inr rfl, Or.inr rfl, Or.inr rfl, Or.inr rfl, Or.inr rfl, Or.inr rfl, Or.inl rfl, Or.inr rfl, Or.inr rfl, Or.inr rfl, Or.inr rfl, Or.inr rfl, Or.inl rfl, Or.inl rfl, trivial⟩
set_option maxRecDepth 20000 in
set_option maxHeartbeats 4000000 in
theorem sfL_law_1374 {G : am_G}  {k1129 : Option Nat → Option Nat → Option Nat → Option Nat → Int32 → Option Nat → Option Nat → Option Nat → Int32 → Option Nat → Int32 → Int32 → Option Nat → Option Nat → Int32 → Option Nat → Option Nat → Option Nat → Int32 → Int32 → Int32 → Int32 → Int32 → Int32 → Int32 → Int32 → Int32 → Int32 → am_H → Option (Int32 × am_H)} (hk1129 : ∀ (v1 : Option Nat) (v2 : Option Nat) (v3 : Option Nat) (v4 : Option Nat) (v5 : Int32) (v6 : Option Nat) (v7 : Option Nat) (v8 : Option Nat) (v9 : Int32) (v10 : Option Nat) (v11 : Int32) (v17 : Int32) (v21 : Option Nat) (v22 : Option Nat) (v23 : Int32) (v24 : Option Nat) (v25 : Option Nat) (v26 : Option Nat) (v27 : Int32) (v28 : Int32) (v29 : Int32) (v30 : Int32) (v31 : Int32) (v32 : Int32) (v33 : Int32) (v34 : Int32) (v35 : Int32) (v36 : Int32) (h : am_H) (y : Int32 × am_H), k1129 v1 v2 v3 v4 v5 v6 v7 v8 v9 v10 v11 v17 v21 v22 v23 v24 v25 v26 v27 v28 v29 v30 v31 v32 v33 v34 v35 v36 h = some y → am_S G miL_law 1129 [some (va_rf (some 0)), some (va_rf v1), some (va_rf v2), some (va_rf v3), some (va_rf v4), some (.int v5), some (va_rf v6), some (va_rf v7), some (va_rf v8), some (.int v9), some (va_rf v10), some (.int v11), none, none, none, none, none, some (.int v17), none, none, none, some (va_rf v21), some (va_rf v22), some (.int v23), some (va_rf v24), some (va_rf v25), some (va_rf v26), some (.int v27), some (.int v28), some (.int v29), some (.int v30), some (.int v31), some (.int v32), some (.int v33), some (.int v34), some (.int v35), some (.int v36), none] [] h (some (.int y.1)) y.2) (v1 : Option Nat) (v2 : Option Nat) (v3 : Option Nat) (v4 : Option Nat) (v5 : Int32) (v6 : Option Nat) (v7 : Option Nat) (v8 : Option Nat) (v9 : Int32) (v10 : Option Nat) (v11 : Int32) (v17 : Int32) (v21 : Option Nat) (v22 : Option Nat) (v23 : Int32) (v24 : Option Nat) (v25 : Option Nat) (v26 : Option Nat) (v27 : Int32) (v28 : Int32) (v29 : Int32) (v30 : Int32) (v31 : Int32) (v32 : Int32) (v33 : Int32) (v34 : Int32) (v35 : Int32) (v37 : Int32) (h : am_H) (y : Int32 × am_H) (hf : fL_law_1374 G.2.2.2.2.1 G.2.2.2.2.2 k1129 v1 v2 v3 v4 v5 v6 v7 v8 v9 v10 v11 v17 v21 v22 v23 v24 v25 v26 v27 v28 v29 v30 v31 v32 v33 v34 v35 v37 h = some y) : am_S G miL_law 1374 [some (va_rf (some 0)), some (va_rf v1), some (va_rf v2), some (va_rf v3), some (va_rf v4), some (.int v5), some (va_rf v6), some (va_rf v7), some (va_rf v8), some (.int v9), some (va_rf v10), some (.int v11), none, none, none, none, none, some (.int v17), none, none, none, some (va_rf v21), some (va_rf v22), some (.int v23), some (va_rf v24), some (va_rf v25), some (va_rf v26), some (.int v27), some (.int v28), some (.int v29), some (.int v30), some (.int v31), some (.int v32), some (.int v33), some (.int v34), some (.int v35), none, some (.int v37)] [] h (some (.int y.1)) y.2 := by
  unfold fL_law_1374 at hf
  refine am_iload dL_law_1374 rfl rfl ?_
  refine am_istore (ls' := [some (va_rf (some 0)), some (va_rf v1), some (va_rf v2), some (va_rf v3), some (va_rf v4), some (.int v5), some (va_rf v6), some (va_rf v7), some (va_rf v8), some (.int v9), some (va_rf v10), some (.int v11), none, none, none, none, none, some (.int v17), none, none, none, some (va_rf v21), some (va_rf v22), some (.int v23), some (va_rf v24), some (va_rf v25), some (va_rf v26), some (.int v27), some (.int v28), some (.int v29), some (.int v30), some (.int v31), some (.int v32), some (.int v33), some (.int v34), some (.int v35), some (.int v37), some (.int v37)]) dL_law_1376 (by decide) rfl rfl ?_
  refine am_goto (pc' := 1129) dL_law_1378 (by decide) ?_
  exact am_we (hk1129 _ _ _ _ _ _ _ _ _ _ _ _ _ _ _ _ _ _ _ _ _ _ _ _ _ _ _ _ _ _ hf) ⟨Or.inr rfl, Or.inr rfl, Or.inr rfl, Or.inr rfl, Or.inr rfl, Or.inr rfl, Or.inr rfl, Or.inr rfl, Or.inr rfl, Or.inr rfl, Or.inr rfl, Or.inr rfl, Or.inl rfl, Or.inl rfl, Or.inl rfl, Or.inl rfl, Or.inl rfl, Or.inr rfl, Or.inl rfl, Or.inl rfl, Or.inl rfl, Or.inr rfl, Or.inr rfl, Or.inr rfl, Or.inr rfl, Or.inr rfl, Or.inr rfl, Or.inr rfl, Or.inr rfl, Or.inr rfl, Or.inr rfl, Or.inr rfl, Or.inr rfl, Or.inr rfl, Or.inr rfl, Or.inr rfl, Or.inr rfl, Or.inl rfl, trivial⟩
set_option maxRecDepth 20000 in
set_option maxHeartbeats 4000000 in
theorem sfL_law_1192 {G : am_G}  {k1374 : Option Nat → Option Nat → Option Nat → Option Nat → Int32 → Option Nat → Option Nat → Option Nat → Int32 → Option Nat → Int32 → Int32 → Option Nat → Option Nat → Int32 → Option Nat → Option Nat → Option Nat → Int32 → Int32 → Int32 → Int32 → Int32 → Int32 → Int32 → Int32 → Int32 → Int32 → am_H → Option (Int32 × am_H)} (hk1374 : ∀ (v1 : Option Nat) (v2 : Option Nat) (v3 : Option Nat) (v4 : Option Nat) (v5 : Int32) (v6 : Option Nat) (v7 : Option Nat) (v8 : Option Nat) (v9 : Int32) (v10 : Option Nat) (v11 : Int32) (v17 : Int32) (v21 : Option Nat) (v22 : Option Nat) (v23 : Int32) (v24 : Option Nat) (v25 : Option Nat) (v26 : Option Nat) (v27 : Int32) (v28 : Int32) (v29 : Int32) (v30 : Int32) (v31 : Int32) (v32 : Int32) (v33 : Int32) (v34 : Int32) (v35 : Int32) (v37 : Int32) (h : am_H) (y : Int32 × am_H), k1374 v1 v2 v3 v4 v5 v6 v7 v8 v9 v10 v11 v17 v21 v22 v23 v24 v25 v26 v27 v28 v29 v30 v31 v32 v33 v34 v35 v37 h = some y → am_S G miL_law 1374 [some (va_rf (some 0)), some (va_rf v1), some (va_rf v2), some (va_rf v3), some (va_rf v4), some (.int v5), some (va_rf v6), some (va_rf v7), some (va_rf v8), some (.int v9), some (va_rf v10), some (.int v11), none, none, none, none, none, some (.int v17), none, none, none, some (va_rf v21), some (va_rf v22), some (.int v23), some (va_rf v24), some (va_rf v25), some (va_rf v26), some (.int v27), some (.int v28), some (.int v29), some (.int v30), some (.int v31), some (.int v32), some (.int v33), some (.int v34), some (.int v35), none, some (.int v37)] [] h (some (.int y.1)) y.2) (v1 : Option Nat) (v2 : Option Nat) (v3 : Option Nat) (v4 : Option Nat) (v5 : Int32) (v6 : Option Nat) (v7 : Option Nat) (v8 : Option Nat) (v9 : Int32) (v10 : Option Nat) (v11 : Int32) (v17 : Int32) (v21 : Option Nat) (v22 : Option Nat) (v23 : Int32) (v24 : Option Nat) (v25 : Option Nat) (v26 : Option Nat) (v27 : Int32) (v28 : Int32) (v29 : Int32) (v30 : Int32) (v31 : Int32) (v32 : Int32) (v33 : Int32) (v34 : Int32) (v35 : Int32) (v36 : Int32) (v37 : Int32) (h : am_H) (y : Int32 × am_H) (hf : fL_law_1192 G.2.2.2.2.1 G.2.2.2.2.2 k1374 v1 v2 v3 v4 v5 v6 v7 v8 v9 v10 v11 v17 v21 v22 v23 v24 v25 v26 v27 v28 v29 v30 v31 v32 v33 v34 v35 v36 v37 h = some y) : am_S G miL_law 1192 [some (va_rf (some 0)), some (va_rf v1), some (va_rf v2), some (va_rf v3), some (va_rf v4), some (.int v5), some (va_rf v6), some (va_rf v7), some (va_rf v8), some (.int v9), some (va_rf v10), some (.int v11), none, none, none, none, none, some (.int v17), none, none, none, some (va_rf v21), some (va_rf v22), some (.int v23), some (va_rf v24), some (va_rf v25), some (va_rf v26), some (.int v27), some (.int v28), some (.int v29), some (.int v30), some (.int v31), some (.int v32), some (.int v33), some (.int v34), some (.int v35), some (.int v36), some (.int v37)] [] h (some (.int y.1)) y.2 := by
  unfold fL_law_1192 at hf
  refine am_aload dL_law_1192 rfl rfl ?_
  refine am_iload dL_law_1194 rfl rfl ?_
  refine am_iald dL_law_1196 rfl hf (fun x1 _ hf => ?_)
  refine am_iconst (v := 2) dL_law_1197 rfl rfl ?_
  refine am_icmp_ne (tgt := 1257) dL_law_1198 (by decide) rfl hf (fun hf => ?_) (fun hf => ?_)
  · exact (sfL_law_1257 hk1374) _ _ _ _ _ _ _ _ _ _ _ _ _ _ _ _ _ _ _ _ _ _ _ _ _ _ _ _ _ _ _ hf
  refine am_aload dL_law_1201 rfl rfl ?_
  refine am_aload dL_law_1203 rfl rfl ?_
  refine am_iload dL_law_1205 rfl rfl ?_
  refine am_iald dL_law_1207 rfl hf (fun x2 _ hf => ?_)
  refine am_iald dL_law_1208 rfl hf (fun x3 _ hf => ?_)
  refine am_iload dL_law_1209 rfl rfl ?_
  refine am_icmp_le (tgt := 1257) dL_law_1211 (by decide) rfl hf (fun hf => ?_) (fun hf => ?_)
  · exact (sfL_law_1257 hk1374) _ _ _ _ _ _ _ _ _ _ _ _ _ _ _ _ _ _ _ _ _ _ _ _ _ _ _ _ _ _ _ hf
  refine am_iload dL_law_1214 rfl rfl ?_
  refine am_iconst (v := 1) dL_law_1216 rfl rfl ?_
  refine am_iload dL_law_1217 rfl rfl ?_
  refine am_ishl dL_law_1219 rfl ?_
  refine am_ior dL_law_1220 rfl ?_
  refine am_istore (ls' := [some (va_rf (some 0)), some (va_rf v1), some (va_rf v2), some (va_rf v3), some (va_rf v4), some (.int v5), some (va_rf v6), some (va_rf v7), some (va_rf v8), some (.int v9), some (va_rf v10), some (.int v11), none, none, none, none, none, some (.int v17), none, none, none, some (va_rf v21), some (va_rf v22), some (.int v23), some (va_rf v24), some (va_rf v25), some (va_rf v26), some (.int (v27 ||| ((1 : Int32) <<< (v36 &&& 31)))), some (.int v28), some (.int v29), some (.int v30), some (.int v31), some (.int v32), some (.int v33), some (.int v34), some (.int v35), some (.int v36), some (.int v37)]) dL_law_1221 (by decide) (am_s1_r (j := 26) rfl rfl) rfl ?_
  refine am_iload dL_law_1223 rfl rfl ?_
  refine am_if_ge (tgt := 1233) dL_law_1225 (by decide) rfl hf (fun hf => ?_) (fun hf => ?_)
  · refine am_iload dL_law_1233 rfl rfl ?_
    exact am_we ((sfL_law_1235 hk1374) _ _ _ _ _ _ _ _ _ _ _ _ _ _ _ _ _ _ _ _ _ _ _ _ _ _ _ _ _ _ hf) ⟨Or.inr rfl, Or.inr rfl, Or.inr rfl, Or.inr rfl, Or.inr rfl, Or.inr rfl, Or.inr rfl, Or.inr rfl, Or.inr rfl, Or.inr rfl, Or.inr rfl, Or.inr rfl, Or.inl rfl, Or.inl rfl, Or.inl rfl, Or.inl rfl, Or.inl rfl, Or.inr rfl, Or.inl rfl, Or.inl rfl, Or.inl rfl, Or.inr rfl, Or.inr rfl, Or.inr rfl, Or.inr rfl, Or.inr rfl, Or.inr rfl, Or.inr rfl, Or.inr rfl, Or.inr rfl, Or.inr rfl, Or.inl rfl, Or.inr rfl, Or.inr rfl, Or.inr rfl, Or.inr rfl, Or.inr rfl, Or.inl rfl, trivial⟩
  refine am_iload dL_law_1228 rfl rfl ?_
  refine am_goto (pc' := 1235) dL_law_1230 (by decide) ?_
  exact am_we ((sfL_law_1235 hk1374) _ _ _ _ _ _ _ _ _ _ _ _ _ _ _ _ _ _ _ _ _ _ _ _ _ _ _ _ _ _ hf) ⟨Or.inr rfl, Or.inr rfl, Or.inr rfl, Or.inr rfl, Or.inr rfl, Or.inr rfl, Or.inr rfl, Or.inr rfl, Or.inr rfl, Or.inr rfl, Or.inr rfl, Or.inr rfl, Or.inl rfl, Or.inl rfl, Or.inl rfl, Or.inl rfl, Or.inl rfl, Or.inr rfl, Or.inl rfl, Or.inl rfl, Or.inl rfl, Or.inr rfl, Or.inr rfl, Or.inr rfl, Or.inr rfl, Or.inr rfl, Or.inr rfl, Or.inr rfl, Or.inr rfl, Or.inr rfl, Or.inr rfl, Or.inl rfl, Or.inr rfl, Or.inr rfl, Or.inr rfl, Or.inr rfl, Or.inr rfl, Or.inl rfl, trivial⟩
