/-! printed proofs of the printed functions, 12 -/
set_option maxRecDepth 20000 in
set_option maxHeartbeats 4000000 in
theorem sfX0_guess {G : am_G}  (v0 : Nat) (v1 : Int32) (v2 : Int32) (v3 : Int32) (h : am_H) (y : am_H) (hf : fX0_guess v0 v1 v2 v3 h = some y) : am_Cn G miX0_guess [va_rf (some v0), .int v1, .int v2, .int v3] h none y := by
  refine am_beg (ls := [some (va_rf (some v0)), some (.int v1), some (.int v2), some (.int v3)]) (by simp only [am_en, am_e1_r, am_e1_i, am_e1_l, am_e1_n]; rfl) ?_
  unfold fX0_guess at hf
  refine am_aload_n dX0_guess_0 rfl rfl ?_
  refine am_iload_n dX0_guess_1 rfl rfl ?_
  refine am_pi_ dX0_guess_2 fl_X0_37 fp_0_7 (fun z => by cases z) rfl hf (fun h1 _ hf => ?_)
  refine am_aload_n dX0_guess_5 rfl rfl ?_
  refine am_iload_n dX0_guess_6 rfl rfl ?_
  refine am_cVi (As := [.int v1]) (st := []) lk_X0_guess_43 rfl (Nat.le_of_ble_eq_true rfl) (Nat.le_of_ble_eq_true rfl) rfl dX0_guess_7 rfl hf (fun b3 y2 hf => sfX0_hasVessel b3 _ _ y2 hf) (fun b3 y2 _ _ hf => ?_)
  refine am_if_eq (tgt := 20) dX0_guess_10 (by decide) rfl hf (fun hf => ?_) (fun hf => ?_)
  · exact am_vret rfl dX0_guess_20 hf
  refine am_aload_n dX0_guess_13 rfl rfl ?_
  refine am_gr_ dX0_guess_14 fl_X0_18 rfl hf (fun x4 _ hf => ?_)
  refine am_iload_n dX0_guess_17 rfl rfl ?_
  refine am_iload_n dX0_guess_18 rfl rfl ?_
  refine am_iast dX0_guess_19 rfl hf (fun h5 _ hf => ?_)
  exact am_vret rfl dX0_guess_20 hf
set_option maxRecDepth 20000 in
set_option maxHeartbeats 4000000 in
theorem sfX8_seekClock_84 {G : am_G}  {k22 : Option Nat → Int32 → Int32 → Int32 → Int32 → Int32 → Int32 → Int32 → Int32 → am_H → Option (Int32 × am_H)} (hk22 : ∀ (v0 : Option Nat) (v1 : Int32) (v2 : Int32) (v3 : Int32) (v4 : Int32) (v5 : Int32) (v6 : Int32) (v7 : Int32) (v8 : Int32) (h : am_H) (y : Int32 × am_H), k22 v0 v1 v2 v3 v4 v5 v6 v7 v8 h = some y → am_S G miX8_seekClock 22 [some (va_rf v0), some (.int v1), some (.int v2), some (.int v3), some (.int v4), some (.int v5), some (.int v6), some (.int v7), some (.int v8)] [] h (some (.int y.1)) y.2) (v0 : Option Nat) (v1 : Int32) (v2 : Int32) (v3 : Int32) (v4 : Int32) (v5 : Int32) (v6 : Int32) (v7 : Int32) (v8 : Int32) (h : am_H) (y : Int32 × am_H) (hf : fX8_seekClock_84 k22 v0 v1 v2 v3 v4 v5 v6 v7 v8 h = some y) : am_S G miX8_seekClock 84 [some (va_rf v0), some (.int v1), some (.int v2), some (.int v3), some (.int v4), some (.int v5), some (.int v6), some (.int v7), some (.int v8)] [] h (some (.int y.1)) y.2 := by
  unfold fX8_seekClock_84 at hf
  refine am_iinc (ls' := [some (va_rf v0), some (.int v1), some (.int v2), some (.int v3), some (.int v4), some (.int v5), some (.int v6), some (.int v7), some (.int (v8 + (1 : Int32)))]) dX8_seekClock_84 rfl rfl (by decide) rfl rfl ?_
  refine am_goto (pc' := 22) dX8_seekClock_87 (by decide) ?_
  exact hk22 _ _ _ _ _ _ _ _ _ _ _ hf
set_option maxRecDepth 20000 in
set_option maxHeartbeats 4000000 in
theorem sfX8_seekClock_81 {G : am_G}  {k84 : Option Nat → Int32 → Int32 → Int32 → Int32 → Int32 → Int32 → Int32 → Int32 → am_H → Option (Int32 × am_H)} (hk84 : ∀ (v0 : Option Nat) (v1 : Int32) (v2 : Int32) (v3 : Int32) (v4 : Int32) (v5 : Int32) (v6 : Int32) (v7 : Int32) (v8 : Int32) (h : am_H) (y : Int32 × am_H), k84 v0 v1 v2 v3 v4 v5 v6 v7 v8 h = some y → am_S G miX8_seekClock 84 [some (va_rf v0), some (.int v1), some (.int v2), some (.int v3), some (.int v4), some (.int v5), some (.int v6), some (.int v7), some (.int v8)] [] h (some (.int y.1)) y.2) (v0 : Option Nat) (v1 : Int32) (v2 : Int32) (v3 : Int32) (v4 : Int32) (v5 : Int32) (v6 : Int32) (v7 : Int32) (v8 : Int32) (h : am_H) (y : Int32 × am_H) (hf : fX8_seekClock_81 k84 v0 v1 v2 v3 v4 v5 v6 v7 v8 h = some y) : am_S G miX8_seekClock 81 [some (va_rf v0), some (.int v1), some (.int v2), some (.int v3), some (.int v4), some (.int v5), some (.int v6), some (.int v7), some (.int v8)] [] h (some (.int y.1)) y.2 := by
  unfold fX8_seekClock_81 at hf
  refine am_iinc (ls' := [some (va_rf v0), some (.int v1), some (.int v2), some (.int v3), some (.int (v4 + (1 : Int32))), some (.int v5), some (.int v6), some (.int v7), some (.int v8)]) dX8_seekClock_81 rfl rfl (by decide) rfl rfl ?_
  exact hk84 _ _ _ _ _ _ _ _ _ _ _ hf
set_option maxRecDepth 20000 in
set_option maxHeartbeats 4000000 in
theorem sfX8_seekClock_22 {G : am_G}  {k12 : Option Nat → Int32 → Int32 → Int32 → Int32 → Int32 → Int32 → Int32 → am_H → Option (Int32 × am_H)} (hk12 : ∀ (v0 : Option Nat) (v1 : Int32) (v2 : Int32) (v3 : Int32) (v4 : Int32) (v5 : Int32) (v6 : Int32) (v7 : Int32) (h : am_H) (y : Int32 × am_H), k12 v0 v1 v2 v3 v4 v5 v6 v7 h = some y → am_S G miX8_seekClock 12 [some (va_rf v0), some (.int v1), some (.int v2), some (.int v3), some (.int v4), some (.int v5), some (.int v6), some (.int v7), none] [] h (some (.int y.1)) y.2) : ∀ (n : Nat) (v0 : Option Nat) (v1 : Int32) (v2 : Int32) (v3 : Int32) (v4 : Int32) (v5 : Int32) (v6 : Int32) (v7 : Int32) (v8 : Int32) (h : am_H) (y : Int32 × am_H) (hf : fX8_seekClock_22 k12 n v0 v1 v2 v3 v4 v5 v6 v7 v8 h = some y), am_S G miX8_seekClock 22 [some (va_rf v0), some (.int v1), some (.int v2), some (.int v3), some (.int v4), some (.int v5), some (.int v6), some (.int v7), some (.int v8)] [] h (some (.int y.1)) y.2 := by
  intro n
  induction n with
  | zero => intro v0 v1 v2 v3 v4 v5 v6 v7 v8 h y hf; cases hf
  | succ n ih =>
    intro v0 v1 v2 v3 v4 v5 v6 v7 v8 h y hf
    have hf : fX8_seekClock_22_b k12 (fX8_seekClock_22 k12 n) v0 v1 v2 v3 v4 v5 v6 v7 v8 h = some y := hf
    unfold fX8_seekClock_22_b at hf
    refine am_iload dX8_seekClock_22 rfl rfl ?_
    refine am_bipush (v := 60) dX8_seekClock_24 (by decide) rfl ?_
    refine am_icmp_gt (tgt := 90) dX8_seekClock_26 (by decide) rfl hf (fun hf => ?_) (fun hf => ?_)
    · refine am_iinc (ls' := [some (va_rf v0), some (.int v1), some (.int v2), some (.int v3), some (.int v4), some (.int v5), some (.int v6), some (.int (v7 + (1 : Int32))), some (.int v8)]) dX8_seekClock_90 rfl rfl (by decide) rfl rfl ?_
      refine am_goto (pc' := 12) dX8_seekClock_93 (by decide) ?_
      exact am_we (hk12 _ _ _ _ _ _ _ _ _ _ hf) ⟨Or.inr rfl, Or.inr rfl, Or.inr rfl, Or.inr rfl, Or.inr rfl, Or.inr rfl, Or.inr rfl, Or.inr rfl, Or.inl rfl, trivial⟩
    refine am_aload_n dX8_seekClock_29 rfl rfl ?_
    refine am_gr_ dX8_seekClock_30 fl_X8_45 rfl hf (fun x1 _ hf => ?_)
    refine am_iload_n dX8_seekClock_33 rfl rfl ?_
    refine am_iload dX8_seekClock_34 rfl rfl ?_
    refine am_iload dX8_seekClock_36 rfl rfl ?_
    refine am_cVv (As := [.int v2, .int v7, .int v8]) (st := []) lk_X8_seekClock_402 rfl (Nat.le_of_ble_eq_true rfl) (Nat.le_of_ble_eq_true rfl) rfl dX8_seekClock_38 rfl hf (fun b3 y2 hf => sfX0_guess b3 _ _ _ _ y2 hf) (fun b3 y2 _ _ hf => ?_)
    refine am_aload_n dX8_seekClock_41 rfl rfl ?_
    refine am_gr_ dX8_seekClock_42 fl_X8_62 rfl hf (fun x4 _ hf => ?_)
    refine am_aload_n dX8_seekClock_45 rfl rfl ?_
    refine am_gr_ dX8_seekClock_46 fl_X8_45 rfl hf (fun x5 _ hf => ?_)
    refine am_iload_n dX8_seekClock_49 rfl rfl ?_
    refine am_aload_n dX8_seekClock_50 rfl rfl ?_
    refine am_gr_ dX8_seekClock_51 fl_X8_50 rfl hf (fun x6 _ hf => ?_)
    refine am_cVv (As := [va_rf x5, .int v1, va_rf x6]) (st := []) lk_X8_seekClock_261 rfl (by simp only [am_e1_r, am_e1_i, am_e1_l, am_e1_n]; exact Nat.le_of_ble_eq_true rfl) (Nat.le_of_ble_eq_true rfl) rfl dX8_seekClock_54 rfl hf (fun b8 y7 hf => sfX5_start b8 _ _ _ _ y7 hf) (fun b8 y7 _ _ hf => ?_)
    refine am_aload_n dX8_seekClock_57 rfl rfl ?_
    refine am_aload_n dX8_seekClock_58 rfl rfl ?_
    refine am_gr_ dX8_seekClock_59 fl_X8_62 rfl hf (fun x9 _ hf => ?_)
    refine am_cVi (As := [va_rf x9]) (st := []) lk_X8_seekClock_278 rfl (by simp only [am_e1_r, am_e1_i, am_e1_l, am_e1_n]; exact Nat.le_of_ble_eq_true rfl) (Nat.le_of_ble_eq_true rfl) rfl dX8_seekClock_62 rfl hf (fun b11 y10 hf => sfX8_agreesFromHere b11 _ _ y10 hf) (fun b11 y10 _ _ hf => ?_)
    refine am_if_eq (tgt := 84) dX8_seekClock_65 (by decide) rfl hf (fun hf => ?_) (fun hf => ?_)
    · exact (sfX8_seekClock_84 ih) _ _ _ _ _ _ _ _ _ _ _ hf
    refine am_iload dX8_seekClock_68 rfl rfl ?_
    refine am_if_ne (tgt := 81) dX8_seekClock_70 (by decide) rfl hf (fun hf => ?_) (fun hf => ?_)
    · exact (sfX8_seekClock_81 (sfX8_seekClock_84 ih)) _ _ _ _ _ _ _ _ _ _ _ hf
    refine am_iload dX8_seekClock_73 rfl rfl ?_
    refine am_istore (ls' := [some (va_rf v0), some (.int v1), some (.int v2), some (.int v3), some (.int v4), some (.int v7), some (.int v6), some (.int v7), some (.int v8)]) dX8_seekClock_75 (by decide) rfl rfl ?_
    refine am_iload dX8_seekClock_77 rfl rfl ?_
    refine am_istore (ls' := [some (va_rf v0), some (.int v1), some (.int v2), some (.int v3), some (.int v4), some (.int v7), some (.int v8), some (.int v7), some (.int v8)]) dX8_seekClock_79 (by decide) rfl rfl ?_
    exact (sfX8_seekClock_81 (sfX8_seekClock_84 ih)) _ _ _ _ _ _ _ _ _ _ _ hf
set_option maxRecDepth 20000 in
set_option maxHeartbeats 4000000 in
theorem sfX8_seekClock_12 {G : am_G}  : ∀ (n : Nat) (v0 : Option Nat) (v1 : Int32) (v2 : Int32) (v3 : Int32) (v4 : Int32) (v5 : Int32) (v6 : Int32) (v7 : Int32) (h : am_H) (y : Int32 × am_H) (hf : fX8_seekClock_12  n v0 v1 v2 v3 v4 v5 v6 v7 h = some y), am_S G miX8_seekClock 12 [some (va_rf v0), some (.int v1), some (.int v2), some (.int v3), some (.int v4), some (.int v5), some (.int v6), some (.int v7), none] [] h (some (.int y.1)) y.2 := by
  intro n
  induction n with
  | zero => intro v0 v1 v2 v3 v4 v5 v6 v7 h y hf; cases hf
  | succ n ih =>
    intro v0 v1 v2 v3 v4 v5 v6 v7 h y hf
    have hf : fX8_seekClock_12_b  (fX8_seekClock_12  n) v0 v1 v2 v3 v4 v5 v6 v7 h = some y := hf
    unfold fX8_seekClock_12_b at hf
    refine am_iload dX8_seekClock_12 rfl rfl ?_
    refine am_bipush (v := 40) dX8_seekClock_14 (by decide) rfl ?_
    refine am_icmp_gt (tgt := 96) dX8_seekClock_16 (by decide) rfl hf (fun hf => ?_) (fun hf => ?_)
    · refine am_iload_n dX8_seekClock_96 rfl rfl ?_
      refine am_lsw (d := 130) (l := [(0, 124), (1, 127)]) dX8_seekClock_97 (by decide) (by decide) (by decide) ?_
      refine am_swc hf (fun hf => ?_) (fun hf => ?_)
      · refine am_iload dX8_seekClock_124 rfl rfl ?_
        exact am_iret rfl dX8_seekClock_126 hf
      refine am_swc hf (fun hf => ?_) (fun hf => ?_)
      · refine am_iload dX8_seekClock_127 rfl rfl ?_
        exact am_iret rfl dX8_seekClock_129 hf
      show am_S _ _ 130 _ _ _ _ _
      refine am_iload dX8_seekClock_130 rfl rfl ?_
      exact am_iret rfl dX8_seekClock_132 hf
    refine am_iconst (v := 0) dX8_seekClock_19 rfl rfl ?_
    refine am_istore (ls' := [some (va_rf v0), some (.int v1), some (.int v2), some (.int v3), some (.int v4), some (.int v5), some (.int v6), some (.int v7), some (.int (0 : Int32))]) dX8_seekClock_20 (by decide) rfl rfl ?_
    exact (sfX8_seekClock_22 ih _) _ _ _ _ _ _ _ _ _ _ _ hf
set_option maxRecDepth 20000 in
set_option maxHeartbeats 4000000 in
theorem sfX8_seekClock {G : am_G}  (v0 : Nat) (v1 : Int32) (v2 : Int32) (v3 : Int32) (h : am_H) (y : Int32 × am_H) (hf : fX8_seekClock v0 v1 v2 v3 h = some y) : am_Cn G miX8_seekClock [va_rf (some v0), .int v1, .int v2, .int v3] h (some (.int y.1)) y.2 := by
  refine am_beg (ls := [some (va_rf (some v0)), some (.int v1), some (.int v2), some (.int v3), none, none, none, none, none]) (by simp only [am_en, am_e1_r, am_e1_i, am_e1_l, am_e1_n]; rfl) ?_
  unfold fX8_seekClock at hf
  refine am_iconst (v := 0) dX8_seekClock_0 rfl rfl ?_
  refine am_istore (ls' := [some (va_rf (some v0)), some (.int v1), some (.int v2), some (.int v3), some (.int (0 : Int32)), none, none, none, none]) dX8_seekClock_1 (by decide) rfl rfl ?_
  refine am_iconst (v := -1) dX8_seekClock_3 rfl rfl ?_
  refine am_istore (ls' := [some (va_rf (some v0)), some (.int v1), some (.int v2), some (.int v3), some (.int (0 : Int32)), some (.int (-1 : Int32)), none, none, none]) dX8_seekClock_4 (by decide) rfl rfl ?_
  refine am_iconst (v := -1) dX8_seekClock_6 rfl rfl ?_
  refine am_istore (ls' := [some (va_rf (some v0)), some (.int v1), some (.int v2), some (.int v3), some (.int (0 : Int32)), some (.int (-1 : Int32)), some (.int (-1 : Int32)), none, none]) dX8_seekClock_7 (by decide) rfl rfl ?_
  refine am_iconst (v := 1) dX8_seekClock_9 rfl rfl ?_
  refine am_istore (ls' := [some (va_rf (some v0)), some (.int v1), some (.int v2), some (.int v3), some (.int (0 : Int32)), some (.int (-1 : Int32)), some (.int (-1 : Int32)), some (.int (1 : Int32)), none]) dX8_seekClock_10 (by decide) rfl rfl ?_
  exact (sfX8_seekClock_12 _) _ _ _ _ _ _ _ _ _ _ hf
set_option maxRecDepth 20000 in
set_option maxHeartbeats 4000000 in
theorem sfX8_lost {G : am_G}  (v0 : Nat) (v1 : Int32) (v2 : Int32) (v3 : Int32) (v4 : Int32) (h : am_H) (y : Int32 × am_H) (hf : fX8_lost v0 v1 v2 v3 v4 h = some y) : am_Cn G miX8_lost [va_rf (some v0), .int v1, .int v2, .int v3, .int v4] h (some (.int y.1)) y.2 := by
  refine am_beg (ls := [some (va_rf (some v0)), some (.int v1), some (.int v2), some (.int v3), some (.int v4), none]) (by simp only [am_en, am_e1_r, am_e1_i, am_e1_l, am_e1_n]; rfl) ?_
  unfold fX8_lost at hf
  refine am_aload_n dX8_lost_0 rfl rfl ?_
  refine am_iload_n dX8_lost_1 rfl rfl ?_
  refine am_cVr (As := [.int v1]) (st := []) lk_X8_lost_117 rfl (Nat.le_of_ble_eq_true rfl) (Nat.le_of_ble_eq_true rfl) rfl dX8_lost_2 rfl hf (fun b2 y1 hf => sfX8_clockOf b2 _ _ y1 hf) (fun b2 y1 _ _ hf => ?_)
  refine am_astore (ls' := [some (va_rf (some v0)), some (.int v1), some (.int v2), some (.int v3), some (.int v4), some (va_rf y1.1)]) dX8_lost_5 (by decide) rfl rfl ?_
  refine am_aload dX8_lost_7 rfl rfl ?_
  refine am_ifnull (tgt := 19) dX8_lost_9 (by decide) rfl hf (fun hf => ?_) (fun hf => ?_)
  · refine am_bipush (v := -101) dX8_lost_19 (by decide) rfl ?_
    exact am_iret rfl dX8_lost_21 hf
  refine am_iload_n dX8_lost_12 rfl rfl ?_
  refine am_cSi (As := [.int v2]) (st := []) lk_X8_lost_136 rfl (Nat.le_of_ble_eq_true rfl) (Nat.le_of_ble_eq_true rfl) rfl dX8_lost_13 rfl hf (fun y3 hf => sfX8_isSeason _ _ y3 hf) (fun y3 _ hf => ?_)
  refine am_if_ne (tgt := 22) dX8_lost_16 (by decide) rfl hf (fun hf => ?_) (fun hf => ?_)
  · refine am_aload dX8_lost_22 rfl rfl ?_
    refine am_iload_n dX8_lost_24 rfl rfl ?_
    refine am_cVi (As := [.int v3]) (st := []) lk_X8_lost_289 rfl (Nat.le_of_ble_eq_true rfl) (Nat.le_of_ble_eq_true rfl) rfl dX8_lost_25 rfl hf (fun b5 y4 hf => sfX0_hasVessel b5 _ _ y4 hf) (fun b5 y4 _ _ hf => ?_)
    refine am_if_eq (tgt := 41) dX8_lost_28 (by decide) rfl hf (fun hf => ?_) (fun hf => ?_)
    · refine am_bipush (v := -102) dX8_lost_41 (by decide) rfl ?_
      exact am_iret rfl dX8_lost_43 hf
    refine am_iload dX8_lost_31 rfl rfl ?_
    refine am_iconst (v := 0) dX8_lost_33 rfl rfl ?_
    refine am_iconst (v := 2) dX8_lost_34 rfl rfl ?_
    refine am_cSi (As := [.int v4, .int (0 : Int32), .int (2 : Int32)]) (st := []) lk_X8_lost_121 rfl (Nat.le_of_ble_eq_true rfl) (Nat.le_of_ble_eq_true rfl) rfl dX8_lost_35 rfl hf (fun y6 hf => sfX8_isIn _ _ _ _ y6 hf) (fun y6 _ hf => ?_)
    refine am_if_ne (tgt := 44) dX8_lost_38 (by decide) rfl hf (fun hf => ?_) (fun hf => ?_)
    · refine am_aload_n dX8_lost_44 rfl rfl ?_
      refine am_gi_ dX8_lost_45 fl_X8_282 rfl hf (fun x7 _ hf => ?_)
      refine am_bipush (v := 20) dX8_lost_48 (by decide) rfl ?_
      refine am_icmp_lt (tgt := 56) dX8_lost_50 (by decide) rfl hf (fun hf => ?_) (fun hf => ?_)
      · refine am_aload_n dX8_lost_56 rfl rfl ?_
        refine am_dup dX8_lost_57 (am_c1 _) rfl ?_
        refine am_gi_ dX8_lost_58 fl_X8_282 rfl hf (fun x8 _ hf => ?_)
        refine am_iconst (v := 1) dX8_lost_61 rfl rfl ?_
        refine am_iadd dX8_lost_62 rfl ?_
        refine am_pi_ dX8_lost_63 fl_X8_282 fp_8_10 (fun z => by cases z) rfl hf (fun h9 _ hf => ?_)
        refine am_aload_n dX8_lost_66 rfl rfl ?_
        refine am_gr_ dX8_lost_67 fl_X8_79 rfl hf (fun x10 _ hf => ?_)
        refine am_aload_n dX8_lost_70 rfl rfl ?_
        refine am_gr_ dX8_lost_71 fl_X8_37 rfl hf (fun x11 _ hf => ?_)
        refine am_gr_ dX8_lost_74 fl_X8_271 rfl hf (fun x12 _ hf => ?_)
        refine am_aload dX8_lost_77 rfl rfl ?_
        refine am_gi_ dX8_lost_79 fl_X8_229 rfl hf (fun x13 _ hf => ?_)
        refine am_cVv (As := [va_rf x12, .int x13]) (st := []) lk_X8_lost_274 rfl (by simp only [am_e1_r, am_e1_i, am_e1_l, am_e1_n]; exact Nat.le_of_ble_eq_true rfl) (Nat.le_of_ble_eq_true rfl) rfl dX8_lost_82 rfl hf (fun b15 y14 hf => sfX1_gather b15 _ _ _ y14 hf) (fun b15 y14 _ _ hf => ?_)
        refine am_aload_n dX8_lost_85 rfl rfl ?_
        refine am_gr_ dX8_lost_86 fl_X8_45 rfl hf (fun x16 _ hf => ?_)
        refine am_aload dX8_lost_89 rfl rfl ?_
        refine am_cVv (As := [va_rf y1.1]) (st := []) lk_X8_lost_113 rfl (by simp only [am_e1_r, am_e1_i, am_e1_l, am_e1_n]; exact Nat.le_of_ble_eq_true rfl) (Nat.le_of_ble_eq_true rfl) rfl dX8_lost_91 rfl hf (fun b18 y17 hf => sfX0_copyFrom b18 _ _ y17 hf) (fun b18 y17 _ _ hf => ?_)
        refine am_aload_n dX8_lost_94 rfl rfl ?_
        refine am_aload_n dX8_lost_95 rfl rfl ?_
        refine am_iload_n dX8_lost_96 rfl rfl ?_
        refine am_cVi (As := [.int v2]) (st := [va_rf (some v0)]) lk_X8_lost_258 rfl (Nat.le_of_ble_eq_true rfl) (by simp only [List.map_cons, List.map_nil, am_c1, am_ci, am_cl]; exact Nat.le_of_ble_eq_true rfl) rfl dX8_lost_97 rfl hf (fun b20 y19 hf => sfX8_warmthOf b20 _ _ y19 hf) (fun b20 y19 _ _ hf => ?_)
        refine am_iload_n dX8_lost_100 rfl rfl ?_
        refine am_iload dX8_lost_101 rfl rfl ?_
        refine am_cVi (As := [.int y19.1, .int v3, .int v4]) (st := []) lk_X8_lost_292 rfl (Nat.le_of_ble_eq_true rfl) (Nat.le_of_ble_eq_true rfl) rfl dX8_lost_103 rfl hf (fun b22 y21 hf => sfX8_seekClock b22 _ _ _ _ y21 hf) (fun b22 y21 _ _ hf => ?_)
        exact am_iret rfl dX8_lost_106 hf
      refine am_bipush (v := -103) dX8_lost_53 (by decide) rfl ?_
      exact am_iret rfl dX8_lost_55 hf
    refine am_bipush (v := -102) dX8_lost_41 (by decide) rfl ?_
    exact am_iret rfl dX8_lost_43 hf
  refine am_bipush (v := -101) dX8_lost_19 (by decide) rfl ?_
  exact am_iret rfl dX8_lost_21 hf
set_option maxRecDepth 20000 in
set_option maxHeartbeats 4000000 in
theorem sfX9_lost_155 {G : am_G}  {k160 : Option Nat → Int32 → Int32 → Int32 → Int32 → Int32 → Int32 → Int32 → Int32 → Int32 → am_H → Option (Int32 × am_H)} (hk160 : ∀ (v0 : Option Nat) (v1 : Int32) (v2 : Int32) (v3 : Int32) (v4 : Int32) (v5 : Int32) (v6 : Int32) (v7 : Int32) (v8 : Int32) (v9 : Int32) (h : am_H) (y : Int32 × am_H), k160 v0 v1 v2 v3 v4 v5 v6 v7 v8 v9 h = some y → am_S G miX9_lost 160 [some (va_rf v0), some (.int v1), some (.int v2), some (.int v3), some (.int v4), some (.int v5), some (.int v6), some (.int v7), some (.int v8), some (.int v9)] [] h (some (.int y.1)) y.2) (v0 : Option Nat) (v1 : Int32) (v2 : Int32) (v3 : Int32) (v4 : Int32) (v5 : Int32) (v6 : Int32) (v8 : Int32) (v9 : Int32) (s0 : Int32) (h : am_H) (y : Int32 × am_H) (hf : fX9_lost_155 k160 v0 v1 v2 v3 v4 v5 v6 v8 v9 s0 h = some y) : am_S G miX9_lost 155 [some (va_rf v0), some (.int v1), some (.int v2), some (.int v3), some (.int v4), some (.int v5), some (.int v6), none, some (.int v8), some (.int v9)] [.int s0] h (some (.int y.1)) y.2 := by
  unfold fX9_lost_155 at hf
  refine am_istore (ls' := [some (va_rf v0), some (.int v1), some (.int v2), some (.int v3), some (.int v4), some (.int v5), some (.int v6), some (.int s0), some (.int v8), some (.int v9)]) dX9_lost_155 (by decide) rfl rfl ?_
  refine am_iinc (ls' := [some (va_rf v0), some (.int v1), some (.int v2), some (.int v3), some (.int v4), some (.int (v5 + (1 : Int32))), some (.int v6), some (.int s0), some (.int v8), some (.int v9)]) dX9_lost_157 rfl rfl (by decide) rfl rfl ?_
  exact hk160 _ _ _ _ _ _ _ _ _ _ _ _ hf
set_option maxRecDepth 20000 in
set_option maxHeartbeats 4000000 in
theorem sfX9_lost_160 {G : am_G}  {k86 : Option Nat → Int32 → Int32 → Int32 → Int32 → Int32 → Int32 → Int32 → Int32 → Int32 → am_H → Option (Int32 × am_H)} (hk86 : ∀ (v0 : Option Nat) (v1 : Int32) (v2 : Int32) (v3 : Int32) (v4 : Int32) (v5 : Int32) (v6 : Int32) (v7 : Int32) (v8 : Int32) (v9 : Int32) (h : am_H) (y : Int32 × am_H), k86 v0 v1 v2 v3 v4 v5 v6 v7 v8 v9 h = some y → am_S G miX9_lost 86 [some (va_rf v0), some (.int v1), some (.int v2), some (.int v3), some (.int v4), some (.int v5), some (.int v6), some (.int v7), some (.int v8), some (.int v9)] [] h (some (.int y.1)) y.2) (v0 : Option Nat) (v1 : Int32) (v2 : Int32) (v3 : Int32) (v4 : Int32) (v5 : Int32) (v6 : Int32) (v7 : Int32) (v8 : Int32) (v9 : Int32) (h : am_H) (y : Int32 × am_H) (hf : fX9_lost_160 k86 v0 v1 v2 v3 v4 v5 v6 v7 v8 v9 h = some y) : am_S G miX9_lost 160 [some (va_rf v0), some (.int v1), some (.int v2), some (.int v3), some (.int v4), some (.int v5), some (.int v6), some (.int v7), some (.int v8), some (.int v9)] [] h (some (.int y.1)) y.2 := by
  unfold fX9_lost_160 at hf
  refine am_iinc (ls' := [some (va_rf v0), some (.int v1), some (.int v2), some (.int v3), some (.int v4), some (.int v5), some (.int v6), some (.int v7), some (.int v8), some (.int (v9 + (1 : Int32)))]) dX9_lost_160 rfl rfl (by decide) rfl rfl ?_
  refine am_goto (pc' := 86) dX9_lost_163 (by decide) ?_
  exact hk86 _ _ _ _ _ _ _ _ _ _ _ _ hf
set_option maxRecDepth 20000 in
set_option maxHeartbeats 4000000 in
theorem sfX9_lost_141 {G : am_G}  {k160 : Option Nat → Int32 → Int32 → Int32 → Int32 → Int32 → Int32 → Int32 → Int32 → Int32 → am_H → Option (Int32 × am_H)} (hk160 : ∀ (v0 : Option Nat) (v1 : Int32) (v2 : Int32) (v3 : Int32) (v4 : Int32) (v5 : Int32) (v6 : Int32) (v7 : Int32) (v8 : Int32) (v9 : Int32) (h : am_H) (y : Int32 × am_H), k160 v0 v1 v2 v3 v4 v5 v6 v7 v8 v9 h = some y → am_S G miX9_lost 160 [some (va_rf v0), some (.int v1), some (.int v2), some (.int v3), some (.int v4), some (.int v5), some (.int v6), some (.int v7), some (.int v8), some (.int v9)] [] h (some (.int y.1)) y.2) (v0 : Option Nat) (v1 : Int32) (v2 : Int32) (v3 : Int32) (v4 : Int32) (v5 : Int32) (v7 : Int32) (v8 : Int32) (v9 : Int32) (s0 : Int32) (h : am_H) (y : Int32 × am_H) (hf : fX9_lost_141 k160 v0 v1 v2 v3 v4 v5 v7 v8 v9 s0 h = some y) : am_S G miX9_lost 141 [some (va_rf v0), some (.int v1), some (.int v2), some (.int v3), some (.int v4), some (.int v5), none, some (.int v7), some (.int v8), some (.int v9)] [.int s0] h (some (.int y.1)) y.2 := by
  unfold fX9_lost_141 at hf
  refine am_istore (ls' := [some (va_rf v0), some (.int v1), some (.int v2), some (.int v3), some (.int v4), some (.int v5), some (.int s0), some (.int v7), some (.int v8), some (.int v9)]) dX9_lost_141 (by decide) rfl rfl ?_
  refine am_iload dX9_lost_143 rfl rfl ?_
  refine am_if_ne (tgt := 153) dX9_lost_145 (by decide) rfl hf (fun hf => ?_) (fun hf => ?_)
  · refine am_iload dX9_lost_153 rfl rfl ?_
    exact am_we ((sfX9_lost_155 hk160) _ _ _ _ _ _ _ _ _ _ _ _ hf) ⟨Or.inr rfl, Or.inr rfl, Or.inr rfl, Or.inr rfl, Or.inr rfl, Or.inr rfl, Or.inr rfl, Or.inl rfl, Or.inr rfl, Or.inr rfl, trivial⟩
  refine am_iload dX9_lost_148 rfl rfl ?_
  refine am_goto (pc' := 155) dX9_lost_150 (by decide) ?_
  exact am_we ((sfX9_lost_155 hk160) _ _ _ _ _ _ _ _ _ _ _ _ hf) ⟨Or.inr rfl, Or.inr rfl, Or.inr rfl, Or.inr rfl, Or.inr rfl, Or.inr rfl, Or.inr rfl, Or.inl rfl, Or.inr rfl, Or.inr rfl, trivial⟩
set_option maxRecDepth 20000 in
set_option maxHeartbeats 4000000 in
theorem sfX9_lost_86 {G : am_G}  {k76 : Option Nat → Int32 → Int32 → Int32 → Int32 → Int32 → Int32 → Int32 → Int32 → am_H → Option (Int32 × am_H)} (hk76 : ∀ (v0 : Option Nat) (v1 : Int32) (v2 : Int32) (v3 : Int32) (v4 : Int32) (v5 : Int32) (v6 : Int32) (v7 : Int32) (v8 : Int32) (h : am_H) (y : Int32 × am_H), k76 v0 v1 v2 v3 v4 v5 v6 v7 v8 h = some y → am_S G miX9_lost 76 [some (va_rf v0), some (.int v1), some (.int v2), some (.int v3), some (.int v4), some (.int v5), some (.int v6), some (.int v7), some (.int v8), none] [] h (some (.int y.1)) y.2) : ∀ (n : Nat) (v0 : Option Nat) (v1 : Int32) (v2 : Int32) (v3 : Int32) (v4 : Int32) (v5 : Int32) (v6 : Int32) (v7 : Int32) (v8 : Int32) (v9 : Int32) (h : am_H) (y : Int32 × am_H) (hf : fX9_lost_86 k76 n v0 v1 v2 v3 v4 v5 v6 v7 v8 v9 h = some y), am_S G miX9_lost 86 [some (va_rf v0), some (.int v1), some (.int v2), some (.int v3), some (.int v4), some (.int v5), some (.int v6), some (.int v7), some (.int v8), some (.int v9)] [] h (some (.int y.1)) y.2 := by
  intro n
  induction n with
  | zero => intro v0 v1 v2 v3 v4 v5 v6 v7 v8 v9 h y hf; cases hf
  | succ n ih =>
    intro v0 v1 v2 v3 v4 v5 v6 v7 v8 v9 h y hf
    have hf : fX9_lost_86_b k76 (fX9_lost_86 k76 n) v0 v1 v2 v3 v4 v5 v6 v7 v8 v9 h = some y := hf
    unfold fX9_lost_86_b at hf
    refine am_iload dX9_lost_86 rfl rfl ?_
    refine am_bipush (v := 60) dX9_lost_88 (by decide) rfl ?_
    refine am_icmp_gt (tgt := 166) dX9_lost_90 (by decide) rfl hf (fun hf => ?_) (fun hf => ?_)
    · refine am_iinc (ls' := [some (va_rf v0), some (.int v1), some (.int v2), some (.int v3), some (.int v4), some (.int v5), some (.int v6), some (.int v7), some (.int (v8 + (1 : Int32))), some (.int v9)]) dX9_lost_166 rfl rfl (by decide) rfl rfl ?_
      refine am_goto (pc' := 76) dX9_lost_169 (by decide) ?_
      exact am_we (hk76 _ _ _ _ _ _ _ _ _ _ _ hf) ⟨Or.inr rfl, Or.inr rfl, Or.inr rfl, Or.inr rfl, Or.inr rfl, Or.inr rfl, Or.inr rfl, Or.inr rfl, Or.inr rfl, Or.inl rfl, trivial⟩
    refine am_aload_n dX9_lost_93 rfl rfl ?_
    refine am_iload_n dX9_lost_94 rfl rfl ?_
    refine am_iconst (v := -1) dX9_lost_95 rfl rfl ?_
    refine am_cVv (As := [.int v1, .int (-1 : Int32)]) (st := []) lk_X9_lost_270 rfl (Nat.le_of_ble_eq_true rfl) (Nat.le_of_ble_eq_true rfl) rfl dX9_lost_96 rfl hf (fun b2 y1 hf => sfX9_load b2 _ _ _ y1 hf) (fun b2 y1 _ _ hf => ?_)
    refine am_aload_n dX9_lost_99 rfl rfl ?_
    refine am_gr_ dX9_lost_100 fl_X9_96 rfl hf (fun x3 _ hf => ?_)
    refine am_iload_n dX9_lost_103 rfl rfl ?_
    refine am_iload dX9_lost_104 rfl rfl ?_
    refine am_iast dX9_lost_106 rfl hf (fun h4 _ hf => ?_)
    refine am_aload_n dX9_lost_107 rfl rfl ?_
    refine am_iload dX9_lost_108 rfl rfl ?_
    refine am_pi_ dX9_lost_110 fl_X9_218 fp_9_44 (fun z => by cases z) rfl hf (fun h5 _ hf => ?_)
    refine am_aload_n dX9_lost_113 rfl rfl ?_
    refine am_iload_n dX9_lost_114 rfl rfl ?_
    refine am_iload_n dX9_lost_115 rfl rfl ?_
    refine am_bipush (v := 95) dX9_lost_116 (by decide) rfl ?_
    refine am_cVv (As := [.int v1, .int v2, .int (95 : Int32)]) (st := []) lk_X9_lost_274 rfl (Nat.le_of_ble_eq_true rfl) (Nat.le_of_ble_eq_true rfl) rfl dX9_lost_118 rfl hf (fun b7 y6 hf => sfX9_run b7 _ _ _ _ y6 hf) (fun b7 y6 _ _ hf => ?_)
    refine am_aload_n dX9_lost_121 rfl rfl ?_
    refine am_iload_n dX9_lost_122 rfl rfl ?_
    refine am_cVi (As := [.int v1]) (st := []) lk_X9_lost_338 rfl (Nat.le_of_ble_eq_true rfl) (Nat.le_of_ble_eq_true rfl) rfl dX9_lost_123 rfl hf (fun b9 y8 hf => sfX9_agreesNow b9 _ _ y8 hf) (fun b9 y8 _ _ hf => ?_)
    refine am_if_eq (tgt := 160) dX9_lost_126 (by decide) rfl hf (fun hf => ?_) (fun hf => ?_)
    · exact (sfX9_lost_160 ih) _ _ _ _ _ _ _ _ _ _ _ _ hf
    refine am_iload dX9_lost_129 rfl rfl ?_
    refine am_if_ne (tgt := 139) dX9_lost_131 (by decide) rfl hf (fun hf => ?_) (fun hf => ?_)
    · refine am_iload dX9_lost_139 rfl rfl ?_
      exact am_we ((sfX9_lost_141 (sfX9_lost_160 ih)) _ _ _ _ _ _ _ _ _ _ _ _ hf) ⟨Or.inr rfl, Or.inr rfl, Or.inr rfl, Or.inr rfl, Or.inr rfl, Or.inr rfl, Or.inl rfl, Or.inr rfl, Or.inr rfl, Or.inr rfl, trivial⟩
    refine am_iload dX9_lost_134 rfl rfl ?_
    refine am_goto (pc' := 141) dX9_lost_136 (by decide) ?_
    exact am_we ((sfX9_lost_141 (sfX9_lost_160 ih)) _ _ _ _ _ _ _ _ _ _ _ _ hf) ⟨Or.inr rfl, Or.inr rfl, Or.inr rfl, Or.inr rfl, Or.inr rfl, Or.inr rfl, Or.inl rfl, Or.inr rfl, Or.inr rfl, Or.inr rfl, trivial⟩
set_option maxRecDepth 20000 in
set_option maxHeartbeats 4000000 in
theorem sfX9_lost_76 {G : am_G}  : ∀ (n : Nat) (v0 : Option Nat) (v1 : Int32) (v2 : Int32) (v3 : Int32) (v4 : Int32) (v5 : Int32) (v6 : Int32) (v7 : Int32) (v8 : Int32) (h : am_H) (y : Int32 × am_H) (hf : fX9_lost_76  n v0 v1 v2 v3 v4 v5 v6 v7 v8 h = some y), am_S G miX9_lost 76 [some (va_rf v0), some (.int v1), some (.int v2), some (.int v3), some (.int v4), some (.int v5), some (.int v6), some (.int v7), some (.int v8), none] [] h (some (.int y.1)) y.2 := by
  intro n
  induction n with
  | zero => intro v0 v1 v2 v3 v4 v5 v6 v7 v8 h y hf; cases hf
  | succ n ih =>
    intro v0 v1 v2 v3 v4 v5 v6 v7 v8 h y hf
    have hf : fX9_lost_76_b  (fX9_lost_76  n) v0 v1 v2 v3 v4 v5 v6 v7 v8 h = some y := hf
    unfold fX9_lost_76_b at hf
    refine am_iload dX9_lost_76 rfl rfl ?_
    refine am_bipush (v := 40) dX9_lost_78 (by decide) rfl ?_
    refine am_icmp_gt (tgt := 172) dX9_lost_80 (by decide) rfl hf (fun hf => ?_) (fun hf => ?_)
    · refine am_iload dX9_lost_172 rfl rfl ?_
      refine am_if_ne (tgt := 182) dX9_lost_174 (by decide) rfl hf (fun hf => ?_) (fun hf => ?_)
      · refine am_iload dX9_lost_182 rfl rfl ?_
        refine am_iconst (v := 1) dX9_lost_184 rfl rfl ?_
        refine am_icmp_ne (tgt := 193) dX9_lost_185 (by decide) rfl hf (fun hf => ?_) (fun hf => ?_)
        · refine am_iload dX9_lost_193 rfl rfl ?_
          exact am_iret rfl dX9_lost_195 hf
        refine am_iload dX9_lost_188 rfl rfl ?_
        refine am_goto (pc' := 195) dX9_lost_190 (by decide) ?_
        exact am_iret rfl dX9_lost_195 hf
      refine am_iload dX9_lost_177 rfl rfl ?_
      refine am_goto (pc' := 195) dX9_lost_179 (by decide) ?_
      exact am_iret rfl dX9_lost_195 hf
    refine am_iconst (v := 0) dX9_lost_83 rfl rfl ?_
    refine am_istore (ls' := [some (va_rf v0), some (.int v1), some (.int v2), some (.int v3), some (.int v4), some (.int v5), some (.int v6), some (.int v7), some (.int v8), some (.int (0 : Int32))]) dX9_lost_84 (by decide) rfl rfl ?_
    exact (sfX9_lost_86 ih _) _ _ _ _ _ _ _ _ _ _ _ _ hf
set_option maxRecDepth 20000 in
set_option maxHeartbeats 4000000 in
theorem sfX9_lost {G : am_G}  (v0 : Nat) (v1 : Int32) (v2 : Int32) (v3 : Int32) (v4 : Int32) (h : am_H) (y : Int32 × am_H) (hf : fX9_lost v0 v1 v2 v3 v4 h = some y) : am_Cn G miX9_lost [va_rf (some v0), .int v1, .int v2, .int v3, .int v4] h (some (.int y.1)) y.2 := by
  refine am_beg (ls := [some (va_rf (some v0)), some (.int v1), some (.int v2), some (.int v3), some (.int v4), none, none, none, none, none]) (by simp only [am_en, am_e1_r, am_e1_i, am_e1_l, am_e1_n]; rfl) ?_
  unfold fX9_lost at hf
  refine am_aload_n dX9_lost_0 rfl rfl ?_
  refine am_iload_n dX9_lost_1 rfl rfl ?_
  refine am_iload_n dX9_lost_2 rfl rfl ?_
  refine am_iconst (v := -1) dX9_lost_3 rfl rfl ?_
  refine am_cVi (As := [.int v1, .int v2, .int (-1 : Int32)]) (st := []) lk_X9_lost_277 rfl (Nat.le_of_ble_eq_true rfl) (Nat.le_of_ble_eq_true rfl) rfl dX9_lost_4 rfl hf (fun b2 y1 hf => sfX9_isRun b2 _ _ _ _ y1 hf) (fun b2 y1 _ _ hf => ?_)
  refine am_if_ne (tgt := 13) dX9_lost_7 (by decide) rfl hf (fun hf => ?_) (fun hf => ?_)
  · refine am_iload_n dX9_lost_13 rfl rfl ?_
    refine am_iconst (v := 0) dX9_lost_14 rfl rfl ?_
    refine am_aload_n dX9_lost_15 rfl rfl ?_
    refine am_gr_ dX9_lost_16 fl_X9_7 rfl hf (fun x3 _ hf => ?_)
    refine am_iload_n dX9_lost_19 rfl rfl ?_
    refine am_iald dX9_lost_20 rfl hf (fun x4 _ hf => ?_)
    refine am_iconst (v := 1) dX9_lost_21 rfl rfl ?_
    refine am_isub dX9_lost_22 rfl ?_
    refine am_cSi (As := [.int v3, .int (0 : Int32), .int (x4 - (1 : Int32))]) (st := []) lk_X9_lost_132 rfl (Nat.le_of_ble_eq_true rfl) (Nat.le_of_ble_eq_true rfl) rfl dX9_lost_23 rfl hf (fun y5 hf => sfX9_within _ _ _ _ y5 hf) (fun y5 _ hf => ?_)
    refine am_if_eq (tgt := 39) dX9_lost_26 (by decide) rfl hf (fun hf => ?_) (fun hf => ?_)
    · refine am_bipush (v := -102) dX9_lost_39 (by decide) rfl ?_
      exact am_iret rfl dX9_lost_41 hf
    refine am_iload dX9_lost_29 rfl rfl ?_
    refine am_iconst (v := 0) dX9_lost_31 rfl rfl ?_
    refine am_iconst (v := 2) dX9_lost_32 rfl rfl ?_
    refine am_cSi (As := [.int v4, .int (0 : Int32), .int (2 : Int32)]) (st := []) lk_X9_lost_132 rfl (Nat.le_of_ble_eq_true rfl) (Nat.le_of_ble_eq_true rfl) rfl dX9_lost_33 rfl hf (fun y6 hf => sfX9_within _ _ _ _ y6 hf) (fun y6 _ hf => ?_)
    refine am_if_ne (tgt := 42) dX9_lost_36 (by decide) rfl hf (fun hf => ?_) (fun hf => ?_)
    · refine am_aload_n dX9_lost_42 rfl rfl ?_
      refine am_gi_ dX9_lost_43 fl_X9_341 rfl hf (fun x7 _ hf => ?_)
      refine am_bipush (v := 20) dX9_lost_46 (by decide) rfl ?_
      refine am_icmp_ne (tgt := 54) dX9_lost_48 (by decide) rfl hf (fun hf => ?_) (fun hf => ?_)
      · refine am_aload_n dX9_lost_54 rfl rfl ?_
        refine am_dup dX9_lost_55 (am_c1 _) rfl ?_
        refine am_gi_ dX9_lost_56 fl_X9_341 rfl hf (fun x8 _ hf => ?_)
        refine am_iconst (v := 1) dX9_lost_59 rfl rfl ?_
        refine am_iadd dX9_lost_60 rfl ?_
        refine am_pi_ dX9_lost_61 fl_X9_341 fp_9_23 (fun z => by cases z) rfl hf (fun h9 _ hf => ?_)
        refine am_iconst (v := 0) dX9_lost_64 rfl rfl ?_
        refine am_istore (ls' := [some (va_rf (some v0)), some (.int v1), some (.int v2), some (.int v3), some (.int v4), some (.int (0 : Int32)), none, none, none, none]) dX9_lost_65 (by decide) rfl rfl ?_
        refine am_iconst (v := -1) dX9_lost_67 rfl rfl ?_
        refine am_istore (ls' := [some (va_rf (some v0)), some (.int v1), some (.int v2), some (.int v3), some (.int v4), some (.int (0 : Int32)), some (.int (-1 : Int32)), none, none, none]) dX9_lost_68 (by decide) rfl rfl ?_
        refine am_iconst (v := -1) dX9_lost_70 rfl rfl ?_
        refine am_istore (ls' := [some (va_rf (some v0)), some (.int v1), some (.int v2), some (.int v3), some (.int v4), some (.int (0 : Int32)), some (.int (-1 : Int32)), some (.int (-1 : Int32)), none, none]) dX9_lost_71 (by decide) rfl rfl ?_
        refine am_iconst (v := 1) dX9_lost_73 rfl rfl ?_
        refine am_istore (ls' := [some (va_rf (some v0)), some (.int v1), some (.int v2), some (.int v3), some (.int v4), some (.int (0 : Int32)), some (.int (-1 : Int32)), some (.int (-1 : Int32)), some (.int (1 : Int32)), none]) dX9_lost_74 (by decide) rfl rfl ?_
        exact (sfX9_lost_76 _) _ _ _ _ _ _ _ _ _ _ _ hf
      refine am_bipush (v := -103) dX9_lost_51 (by decide) rfl ?_
      exact am_iret rfl dX9_lost_53 hf
    refine am_bipush (v := -102) dX9_lost_39 (by decide) rfl ?_
    exact am_iret rfl dX9_lost_41 hf
  refine am_bipush (v := -101) dX9_lost_10 (by decide) rfl ?_
  exact am_iret rfl dX9_lost_12 hf
set_option maxRecDepth 20000 in
set_option maxHeartbeats 4000000 in
theorem sfX8_isBallOrNone {G : am_G}  (v0 : Option Nat) (v1 : Int32) (h : am_H) (y : Int32 × am_H) (hf : fX8_isBallOrNone v0 v1 h = some y) : am_Cn G miX8_isBallOrNone [va_rf v0, .int v1] h (some (.int y.1)) y.2 := by
  refine am_beg (ls := [some (va_rf v0), some (.int v1)]) (by simp only [am_en, am_e1_r, am_e1_i, am_e1_l, am_e1_n]; rfl) ?_
  unfold fX8_isBallOrNone at hf
  refine am_iload_n dX8_isBallOrNone_0 rfl rfl ?_
  refine am_iconst (v := -1) dX8_isBallOrNone_1 rfl rfl ?_
  refine am_icmp_eq (tgt := 13) dX8_isBallOrNone_2 (by decide) rfl hf (fun hf => ?_) (fun hf => ?_)
  · refine am_iconst (v := 1) dX8_isBallOrNone_13 rfl rfl ?_
    refine am_goto (pc' := 18) dX8_isBallOrNone_14 (by decide) ?_
    exact am_zret rfl dX8_isBallOrNone_18 hf
  refine am_aload_n dX8_isBallOrNone_5 rfl rfl ?_
  refine am_iload_n dX8_isBallOrNone_6 rfl rfl ?_
  refine am_cVi (As := [.int v1]) (st := []) lk_X8_isBallOrNone_206 rfl (Nat.le_of_ble_eq_true rfl) (Nat.le_of_ble_eq_true rfl) rfl dX8_isBallOrNone_7 rfl hf (fun b2 y1 hf => sfX0_hasBall b2 _ _ y1 hf) (fun b2 y1 _ _ hf => ?_)
  refine am_if_eq (tgt := 17) dX8_isBallOrNone_10 (by decide) rfl hf (fun hf => ?_) (fun hf => ?_)
  · refine am_iconst (v := 0) dX8_isBallOrNone_17 rfl rfl ?_
    exact am_zret rfl dX8_isBallOrNone_18 hf
  refine am_iconst (v := 1) dX8_isBallOrNone_13 rfl rfl ?_
  refine am_goto (pc' := 18) dX8_isBallOrNone_14 (by decide) ?_
  exact am_zret rfl dX8_isBallOrNone_18 hf
set_option maxRecDepth 20000 in
set_option maxHeartbeats 4000000 in
theorem sfX5_spanFirst {G : am_G}  (v0 : Nat) (v1 : Int32) (h : am_H) (y : Int32 × am_H) (hf : fX5_spanFirst v0 v1 h = some y) : am_Cn G miX5_spanFirst [va_rf (some v0), .int v1] h (some (.int y.1)) y.2 := by
  refine am_beg (ls := [some (va_rf (some v0)), some (.int v1)]) (by simp only [am_en, am_e1_r, am_e1_i, am_e1_l, am_e1_n]; rfl) ?_
  unfold fX5_spanFirst at hf
  refine am_iload_n dX5_spanFirst_0 rfl rfl ?_
  refine am_iconst (v := -1) dX5_spanFirst_1 rfl rfl ?_
  refine am_icmp_ne (tgt := 9) dX5_spanFirst_2 (by decide) rfl hf (fun hf => ?_) (fun hf => ?_)
  · refine am_aload_n dX5_spanFirst_9 rfl rfl ?_
    refine am_iload_n dX5_spanFirst_10 rfl rfl ?_
    refine am_cVi (As := [.int v1]) (st := []) lk_X5_spanFirst_142 rfl (Nat.le_of_ble_eq_true rfl) (Nat.le_of_ble_eq_true rfl) rfl dX5_spanFirst_11 rfl hf (fun b2 y1 hf => sfX5_tickOf b2 _ _ y1 hf) (fun b2 y1 _ _ hf => ?_)
    exact am_iret rfl dX5_spanFirst_14 hf
  refine am_iconst (v := 0) dX5_spanFirst_5 rfl rfl ?_
  refine am_goto (pc' := 14) dX5_spanFirst_6 (by decide) ?_
  exact am_iret rfl dX5_spanFirst_14 hf
set_option maxRecDepth 20000 in
set_option maxHeartbeats 4000000 in
theorem sfX5_spanLast {G : am_G}  (v0 : Nat) (v1 : Int32) (h : am_H) (y : Int32 × am_H) (hf : fX5_spanLast v0 v1 h = some y) : am_Cn G miX5_spanLast [va_rf (some v0), .int v1] h (some (.int y.1)) y.2 := by
  refine am_beg (ls := [some (va_rf (some v0)), some (.int v1), none]) (by simp only [am_en, am_e1_r, am_e1_i, am_e1_l, am_e1_n]; rfl) ?_
  unfold fX5_spanLast at hf
  refine am_aload_n dX5_spanLast_0 rfl rfl ?_
  refine am_iload_n dX5_spanLast_1 rfl rfl ?_
  refine am_iconst (v := 1) dX5_spanLast_2 rfl rfl ?_
  refine am_iadd dX5_spanLast_3 rfl ?_
  refine am_cVi (As := [.int (v1 + (1 : Int32))]) (st := []) lk_X5_spanLast_142 rfl (Nat.le_of_ble_eq_true rfl) (Nat.le_of_ble_eq_true rfl) rfl dX5_spanLast_4 rfl hf (fun b2 y1 hf => sfX5_tickOf b2 _ _ y1 hf) (fun b2 y1 _ _ hf => ?_)
  refine am_istore_n (ls' := [some (va_rf (some v0)), some (.int v1), some (.int y1.1)]) dX5_spanLast_7 (by decide) rfl rfl ?_
  refine am_iload_n dX5_spanLast_8 rfl rfl ?_
  refine am_iconst (v := -1) dX5_spanLast_9 rfl rfl ?_
  refine am_icmp_ne (tgt := 18) dX5_spanLast_10 (by decide) rfl hf (fun hf => ?_) (fun hf => ?_)
  · refine am_iload_n dX5_spanLast_18 rfl rfl ?_
    refine am_iconst (v := 1) dX5_spanLast_19 rfl rfl ?_
    refine am_isub dX5_spanLast_20 rfl ?_
    exact am_iret rfl dX5_spanLast_21 hf
  refine am_bipush (v := 95) dX5_spanLast_13 (by decide) rfl ?_
  refine am_goto (pc' := 21) dX5_spanLast_15 (by decide) ?_
  exact am_iret rfl dX5_spanLast_21 hf
set_option maxRecDepth 20000 in
set_option maxHeartbeats 4000000 in
theorem sfX5_hasSpan {G : am_G}  (v0 : Nat) (v1 : Int32) (h : am_H) (y : Int32 × am_H) (hf : fX5_hasSpan v0 v1 h = some y) : am_Cn G miX5_hasSpan [va_rf (some v0), .int v1] h (some (.int y.1)) y.2 := by
  refine am_beg (ls := [some (va_rf (some v0)), some (.int v1), none]) (by simp only [am_en, am_e1_r, am_e1_i, am_e1_l, am_e1_n]; rfl) ?_
  unfold fX5_hasSpan at hf
  refine am_aload_n dX5_hasSpan_0 rfl rfl ?_
  refine am_iload_n dX5_hasSpan_1 rfl rfl ?_
  refine am_cVi (As := [.int v1]) (st := []) lk_X5_hasSpan_157 rfl (Nat.le_of_ble_eq_true rfl) (Nat.le_of_ble_eq_true rfl) rfl dX5_hasSpan_2 rfl hf (fun b2 y1 hf => sfX5_spanFirst b2 _ _ y1 hf) (fun b2 y1 _ _ hf => ?_)
  refine am_istore_n (ls' := [some (va_rf (some v0)), some (.int v1), some (.int y1.1)]) dX5_hasSpan_5 (by decide) rfl rfl ?_
  refine am_iload_n dX5_hasSpan_6 rfl rfl ?_
  refine am_iconst (v := -1) dX5_hasSpan_7 rfl rfl ?_
  refine am_icmp_eq (tgt := 24) dX5_hasSpan_8 (by decide) rfl hf (fun hf => ?_) (fun hf => ?_)
  · refine am_iconst (v := 0) dX5_hasSpan_24 rfl rfl ?_
    exact am_zret rfl dX5_hasSpan_25 hf
  refine am_iload_n dX5_hasSpan_11 rfl rfl ?_
  refine am_aload_n dX5_hasSpan_12 rfl rfl ?_
  refine am_iload_n dX5_hasSpan_13 rfl rfl ?_
  refine am_cVi (As := [.int v1]) (st := [.int y1.1]) lk_X5_hasSpan_160 rfl (Nat.le_of_ble_eq_true rfl) (Nat.le_of_ble_eq_true rfl) rfl dX5_hasSpan_14 rfl hf (fun b4 y3 hf => sfX5_spanLast b4 _ _ y3 hf) (fun b4 y3 _ _ hf => ?_)
  refine am_icmp_gt (tgt := 24) dX5_hasSpan_17 (by decide) rfl hf (fun hf => ?_) (fun hf => ?_)
  · refine am_iconst (v := 0) dX5_hasSpan_24 rfl rfl ?_
    exact am_zret rfl dX5_hasSpan_25 hf
  refine am_iconst (v := 1) dX5_hasSpan_20 rfl rfl ?_
  refine am_goto (pc' := 25) dX5_hasSpan_21 (by decide) ?_
  exact am_zret rfl dX5_hasSpan_25 hf
set_option maxRecDepth 20000 in
set_option maxHeartbeats 4000000 in
theorem sfX8_span {G : am_G}  (v0 : Nat) (v1 : Int32) (v2 : Int32) (v3 : Int32) (v4 : Int32) (v5 : Int32) (h : am_H) (y : Int32 × am_H) (hf : fX8_span v0 v1 v2 v3 v4 v5 h = some y) : am_Cn G miX8_span [va_rf (some v0), .int v1, .int v2, .int v3, .int v4, .int v5] h (some (.int y.1)) y.2 := by
  refine am_beg (ls := [some (va_rf (some v0)), some (.int v1), some (.int v2), some (.int v3), some (.int v4), some (.int v5)]) (by simp only [am_en, am_e1_r, am_e1_i, am_e1_l, am_e1_n]; rfl) ?_
  unfold fX8_span at hf
  refine am_aload_n dX8_span_0 rfl rfl ?_
  refine am_iload_n dX8_span_1 rfl rfl ?_
  refine am_iload_n dX8_span_2 rfl rfl ?_
  refine am_iload_n dX8_span_3 rfl rfl ?_
  refine am_cVi (As := [.int v1, .int v2, .int v3]) (st := []) lk_X8_span_200 rfl (Nat.le_of_ble_eq_true rfl) (Nat.le_of_ble_eq_true rfl) rfl dX8_span_4 rfl hf (fun b2 y1 hf => sfX8_startRun b2 _ _ _ _ y1 hf) (fun b2 y1 _ _ hf => ?_)
  refine am_if_eq (tgt := 25) dX8_span_7 (by decide) rfl hf (fun hf => ?_) (fun hf => ?_)
  · refine am_bipush (v := -101) dX8_span_25 (by decide) rfl ?_
    exact am_iret rfl dX8_span_27 hf
  refine am_aload_n dX8_span_10 rfl rfl ?_
  refine am_gr_ dX8_span_11 fl_X8_62 rfl hf (fun x3 _ hf => ?_)
  refine am_gr_ dX8_span_14 fl_X8_203 rfl hf (fun x4 _ hf => ?_)
  refine am_iload dX8_span_17 rfl rfl ?_
  refine am_cSi (As := [va_rf x4, .int v4]) (st := []) lk_X8_span_295 rfl (by simp only [am_e1_r, am_e1_i, am_e1_l, am_e1_n]; exact Nat.le_of_ble_eq_true rfl) (Nat.le_of_ble_eq_true rfl) rfl dX8_span_19 rfl hf (fun y5 hf => sfX8_isBallOrNone _ _ _ y5 hf) (fun y5 _ hf => ?_)
  refine am_if_ne (tgt := 28) dX8_span_22 (by decide) rfl hf (fun hf => ?_) (fun hf => ?_)
  · refine am_iload dX8_span_28 rfl rfl ?_
    refine am_iconst (v := 0) dX8_span_30 rfl rfl ?_
    refine am_iconst (v := 1) dX8_span_31 rfl rfl ?_
    refine am_cSi (As := [.int v5, .int (0 : Int32), .int (1 : Int32)]) (st := []) lk_X8_span_121 rfl (Nat.le_of_ble_eq_true rfl) (Nat.le_of_ble_eq_true rfl) rfl dX8_span_32 rfl hf (fun y6 hf => sfX8_isIn _ _ _ _ y6 hf) (fun y6 _ hf => ?_)
    refine am_if_ne (tgt := 41) dX8_span_35 (by decide) rfl hf (fun hf => ?_) (fun hf => ?_)
    · refine am_aload_n dX8_span_41 rfl rfl ?_
      refine am_gr_ dX8_span_42 fl_X8_62 rfl hf (fun x7 _ hf => ?_)
      refine am_bipush (v := 96) dX8_span_45 (by decide) rfl ?_
      refine am_cVv (As := [.int (96 : Int32)]) (st := []) lk_X8_span_209 rfl (Nat.le_of_ble_eq_true rfl) (Nat.le_of_ble_eq_true rfl) rfl dX8_span_47 rfl hf (fun b9 y8 hf => sfX5_goOnTo b9 _ _ y8 hf) (fun b9 y8 _ _ hf => ?_)
      refine am_aload_n dX8_span_50 rfl rfl ?_
      refine am_gr_ dX8_span_51 fl_X8_62 rfl hf (fun x10 _ hf => ?_)
      refine am_iload dX8_span_54 rfl rfl ?_
      refine am_cVi (As := [.int v4]) (st := []) lk_X8_span_299 rfl (Nat.le_of_ble_eq_true rfl) (Nat.le_of_ble_eq_true rfl) rfl dX8_span_56 rfl hf (fun b12 y11 hf => sfX5_hasSpan b12 _ _ y11 hf) (fun b12 y11 _ _ hf => ?_)
      refine am_if_ne (tgt := 64) dX8_span_59 (by decide) rfl hf (fun hf => ?_) (fun hf => ?_)
      · refine am_iload dX8_span_64 rfl rfl ?_
        refine am_if_ne (tgt := 81) dX8_span_66 (by decide) rfl hf (fun hf => ?_) (fun hf => ?_)
        · refine am_aload_n dX8_span_81 rfl rfl ?_
          refine am_gr_ dX8_span_82 fl_X8_62 rfl hf (fun x13 _ hf => ?_)
          refine am_iload dX8_span_85 rfl rfl ?_
          refine am_cVi (As := [.int v4]) (st := []) lk_X8_span_305 rfl (Nat.le_of_ble_eq_true rfl) (Nat.le_of_ble_eq_true rfl) rfl dX8_span_87 rfl hf (fun b15 y14 hf => sfX5_spanLast b15 _ _ y14 hf) (fun b15 y14 _ _ hf => ?_)
          exact am_iret rfl dX8_span_90 hf
        refine am_aload_n dX8_span_69 rfl rfl ?_
        refine am_gr_ dX8_span_70 fl_X8_62 rfl hf (fun x16 _ hf => ?_)
        refine am_iload dX8_span_73 rfl rfl ?_
        refine am_cVi (As := [.int v4]) (st := []) lk_X8_span_302 rfl (Nat.le_of_ble_eq_true rfl) (Nat.le_of_ble_eq_true rfl) rfl dX8_span_75 rfl hf (fun b18 y17 hf => sfX5_spanFirst b18 _ _ y17 hf) (fun b18 y17 _ _ hf => ?_)
        refine am_goto (pc' := 90) dX8_span_78 (by decide) ?_
        exact am_iret rfl dX8_span_90 hf
      refine am_iconst (v := -1) dX8_span_62 rfl rfl ?_
      exact am_iret rfl dX8_span_63 hf
    refine am_bipush (v := -102) dX8_span_38 (by decide) rfl ?_
    exact am_iret rfl dX8_span_40 hf
  refine am_bipush (v := -101) dX8_span_25 (by decide) rfl ?_
  exact am_iret rfl dX8_span_27 hf
set_option maxRecDepth 20000 in
set_option maxHeartbeats 4000000 in
theorem sfX9_isRecord {G : am_G}  (v0 : Nat) (v1 : Int32) (v2 : Int32) (h : am_H) (y : Int32 × am_H) (hf : fX9_isRecord v0 v1 v2 h = some y) : am_Cn G miX9_isRecord [va_rf (some v0), .int v1, .int v2] h (some (.int y.1)) y.2 := by
  refine am_beg (ls := [some (va_rf (some v0)), some (.int v1), some (.int v2)]) (by simp only [am_en, am_e1_r, am_e1_i, am_e1_l, am_e1_n]; rfl) ?_
  unfold fX9_isRecord at hf
  refine am_iload_n dX9_isRecord_0 rfl rfl ?_
  refine am_iconst (v := -1) dX9_isRecord_1 rfl rfl ?_
  refine am_icmp_eq (tgt := 14) dX9_isRecord_2 (by decide) rfl hf (fun hf => ?_) (fun hf => ?_)
  · refine am_iconst (v := 1) dX9_isRecord_14 rfl rfl ?_
    refine am_goto (pc' := 19) dX9_isRecord_15 (by decide) ?_
    exact am_zret rfl dX9_isRecord_19 hf
  refine am_aload_n dX9_isRecord_5 rfl rfl ?_
  refine am_iload_n dX9_isRecord_6 rfl rfl ?_
  refine am_iload_n dX9_isRecord_7 rfl rfl ?_
  refine am_cVi (As := [.int v1, .int v2]) (st := []) lk_X9_isRecord_194 rfl (Nat.le_of_ble_eq_true rfl) (Nat.le_of_ble_eq_true rfl) rfl dX9_isRecord_8 rfl hf (fun b2 y1 hf => sfX9_isBall b2 _ _ _ y1 hf) (fun b2 y1 _ _ hf => ?_)
  refine am_if_eq (tgt := 18) dX9_isRecord_11 (by decide) rfl hf (fun hf => ?_) (fun hf => ?_)
  · refine am_iconst (v := 0) dX9_isRecord_18 rfl rfl ?_
    exact am_zret rfl dX9_isRecord_19 hf
  refine am_iconst (v := 1) dX9_isRecord_14 rfl rfl ?_
  refine am_goto (pc' := 19) dX9_isRecord_15 (by decide) ?_
  exact am_zret rfl dX9_isRecord_19 hf
set_option maxRecDepth 20000 in
set_option maxHeartbeats 4000000 in
theorem sfX9_spanFrom {G : am_G}  (v0 : Nat) (v1 : Int32) (h : am_H) (y : Int32 × am_H) (hf : fX9_spanFrom v0 v1 h = some y) : am_Cn G miX9_spanFrom [va_rf (some v0), .int v1] h (some (.int y.1)) y.2 := by
  refine am_beg (ls := [some (va_rf (some v0)), some (.int v1)]) (by simp only [am_en, am_e1_r, am_e1_i, am_e1_l, am_e1_n]; rfl) ?_
  unfold fX9_spanFrom at hf
  refine am_iload_n dX9_spanFrom_0 rfl rfl ?_
  refine am_iconst (v := -1) dX9_spanFrom_1 rfl rfl ?_
  refine am_icmp_ne (tgt := 9) dX9_spanFrom_2 (by decide) rfl hf (fun hf => ?_) (fun hf => ?_)
  · refine am_aload_n dX9_spanFrom_9 rfl rfl ?_
    refine am_gr_ dX9_spanFrom_10 fl_X9_102 rfl hf (fun x1 _ hf => ?_)
    refine am_iload_n dX9_spanFrom_13 rfl rfl ?_
    refine am_iald dX9_spanFrom_14 rfl hf (fun x2 _ hf => ?_)
    exact am_iret rfl dX9_spanFrom_15 hf
  refine am_iconst (v := 0) dX9_spanFrom_5 rfl rfl ?_
  refine am_goto (pc' := 15) dX9_spanFrom_6 (by decide) ?_
  exact am_iret rfl dX9_spanFrom_15 hf
set_option maxRecDepth 20000 in
set_option maxHeartbeats 4000000 in
theorem sfX9_spanTo {G : am_G}  (v0 : Nat) (v1 : Int32) (v2 : Int32) (h : am_H) (y : Int32 × am_H) (hf : fX9_spanTo v0 v1 v2 h = some y) : am_Cn G miX9_spanTo [va_rf (some v0), .int v1, .int v2] h (some (.int y.1)) y.2 := by
  refine am_beg (ls := [some (va_rf (some v0)), some (.int v1), some (.int v2)]) (by simp only [am_en, am_e1_r, am_e1_i, am_e1_l, am_e1_n]; rfl) ?_
  unfold fX9_spanTo at hf
  refine am_iload_n dX9_spanTo_0 rfl rfl ?_
  refine am_iconst (v := 1) dX9_spanTo_1 rfl rfl ?_
  refine am_iadd dX9_spanTo_2 rfl ?_
  refine am_aload_n dX9_spanTo_3 rfl rfl ?_
  refine am_gr_ dX9_spanTo_4 fl_X9_31 rfl hf (fun x1 _ hf => ?_)
  refine am_iload_n dX9_spanTo_7 rfl rfl ?_
  refine am_iald dX9_spanTo_8 rfl hf (fun x2 _ hf => ?_)
  refine am_icmp_ge (tgt := 25) dX9_spanTo_9 (by decide) rfl hf (fun hf => ?_) (fun hf => ?_)
  · refine am_bipush (v := 95) dX9_spanTo_25 (by decide) rfl ?_
    exact am_iret rfl dX9_spanTo_27 hf
  refine am_aload_n dX9_spanTo_12 rfl rfl ?_
  refine am_gr_ dX9_spanTo_13 fl_X9_102 rfl hf (fun x3 _ hf => ?_)
  refine am_iload_n dX9_spanTo_16 rfl rfl ?_
  refine am_iconst (v := 1) dX9_spanTo_17 rfl rfl ?_
  refine am_iadd dX9_spanTo_18 rfl ?_
  refine am_iald dX9_spanTo_19 rfl hf (fun x4 _ hf => ?_)
  refine am_iconst (v := 1) dX9_spanTo_20 rfl rfl ?_
  refine am_isub dX9_spanTo_21 rfl ?_
  refine am_goto (pc' := 27) dX9_spanTo_22 (by decide) ?_
  exact am_iret rfl dX9_spanTo_27 hf
set_option maxRecDepth 20000 in
set_option maxHeartbeats 4000000 in
theorem sfX9_span {G : am_G}  (v0 : Nat) (v1 : Int32) (v2 : Int32) (v3 : Int32) (v4 : Int32) (v5 : Int32) (h : am_H) (y : Int32 × am_H) (hf : fX9_span v0 v1 v2 v3 v4 v5 h = some y) : am_Cn G miX9_span [va_rf (some v0), .int v1, .int v2, .int v3, .int v4, .int v5] h (some (.int y.1)) y.2 := by
  refine am_beg (ls := [some (va_rf (some v0)), some (.int v1), some (.int v2), some (.int v3), some (.int v4), some (.int v5), none, none]) (by simp only [am_en, am_e1_r, am_e1_i, am_e1_l, am_e1_n]; rfl) ?_
  unfold fX9_span at hf
  refine am_aload_n dX9_span_0 rfl rfl ?_
  refine am_iload_n dX9_span_1 rfl rfl ?_
  refine am_iload_n dX9_span_2 rfl rfl ?_
  refine am_iload_n dX9_span_3 rfl rfl ?_
  refine am_cVi (As := [.int v1, .int v2, .int v3]) (st := []) lk_X9_span_277 rfl (Nat.le_of_ble_eq_true rfl) (Nat.le_of_ble_eq_true rfl) rfl dX9_span_4 rfl hf (fun b2 y1 hf => sfX9_isRun b2 _ _ _ _ y1 hf) (fun b2 y1 _ _ hf => ?_)
  refine am_if_eq (tgt := 20) dX9_span_7 (by decide) rfl hf (fun hf => ?_) (fun hf => ?_)
  · refine am_bipush (v := -101) dX9_span_20 (by decide) rfl ?_
    exact am_iret rfl dX9_span_22 hf
  refine am_aload_n dX9_span_10 rfl rfl ?_
  refine am_iload_n dX9_span_11 rfl rfl ?_
  refine am_iload dX9_span_12 rfl rfl ?_
  refine am_cVi (As := [.int v1, .int v4]) (st := []) lk_X9_span_344 rfl (Nat.le_of_ble_eq_true rfl) (Nat.le_of_ble_eq_true rfl) rfl dX9_span_14 rfl hf (fun b4 y3 hf => sfX9_isRecord b4 _ _ _ y3 hf) (fun b4 y3 _ _ hf => ?_)
  refine am_if_ne (tgt := 23) dX9_span_17 (by decide) rfl hf (fun hf => ?_) (fun hf => ?_)
  · refine am_iload dX9_span_23 rfl rfl ?_
    refine am_iconst (v := 0) dX9_span_25 rfl rfl ?_
    refine am_iconst (v := 1) dX9_span_26 rfl rfl ?_
    refine am_cSi (As := [.int v5, .int (0 : Int32), .int (1 : Int32)]) (st := []) lk_X9_span_132 rfl (Nat.le_of_ble_eq_true rfl) (Nat.le_of_ble_eq_true rfl) rfl dX9_span_27 rfl hf (fun y5 hf => sfX9_within _ _ _ _ y5 hf) (fun y5 _ hf => ?_)
    refine am_if_ne (tgt := 36) dX9_span_30 (by decide) rfl hf (fun hf => ?_) (fun hf => ?_)
    · refine am_aload_n dX9_span_36 rfl rfl ?_
      refine am_iload_n dX9_span_37 rfl rfl ?_
      refine am_iload_n dX9_span_38 rfl rfl ?_
      refine am_iload_n dX9_span_39 rfl rfl ?_
      refine am_cVv (As := [.int v1, .int v2, .int v3]) (st := []) lk_X9_span_280 rfl (Nat.le_of_ble_eq_true rfl) (Nat.le_of_ble_eq_true rfl) rfl dX9_span_40 rfl hf (fun b7 y6 hf => sfX9_runAll b7 _ _ _ _ y6 hf) (fun b7 y6 _ _ hf => ?_)
      refine am_aload_n dX9_span_43 rfl rfl ?_
      refine am_iload dX9_span_44 rfl rfl ?_
      refine am_cVi (As := [.int v4]) (st := []) lk_X9_span_347 rfl (Nat.le_of_ble_eq_true rfl) (Nat.le_of_ble_eq_true rfl) rfl dX9_span_46 rfl hf (fun b9 y8 hf => sfX9_spanFrom b9 _ _ y8 hf) (fun b9 y8 _ _ hf => ?_)
      refine am_istore (ls' := [some (va_rf (some v0)), some (.int v1), some (.int v2), some (.int v3), some (.int v4), some (.int v5), some (.int y8.1), none]) dX9_span_49 (by decide) rfl rfl ?_
      refine am_aload_n dX9_span_51 rfl rfl ?_
      refine am_iload_n dX9_span_52 rfl rfl ?_
      refine am_iload dX9_span_53 rfl rfl ?_
      refine am_cVi (As := [.int v1, .int v4]) (st := []) lk_X9_span_350 rfl (Nat.le_of_ble_eq_true rfl) (Nat.le_of_ble_eq_true rfl) rfl dX9_span_55 rfl hf (fun b11 y10 hf => sfX9_spanTo b11 _ _ _ y10 hf) (fun b11 y10 _ _ hf => ?_)
      refine am_istore (ls' := [some (va_rf (some v0)), some (.int v1), some (.int v2), some (.int v3), some (.int v4), some (.int v5), some (.int y8.1), some (.int y10.1)]) dX9_span_58 (by decide) rfl rfl ?_
      refine am_iload dX9_span_60 rfl rfl ?_
      refine am_iload dX9_span_62 rfl rfl ?_
      refine am_icmp_le (tgt := 71) dX9_span_64 (by decide) rfl hf (fun hf => ?_) (fun hf => ?_)
      · refine am_iload dX9_span_71 rfl rfl ?_
        refine am_if_ne (tgt := 81) dX9_span_73 (by decide) rfl hf (fun hf => ?_) (fun hf => ?_)
        · refine am_iload dX9_span_81 rfl rfl ?_
          exact am_iret rfl dX9_span_83 hf
        refine am_iload dX9_span_76 rfl rfl ?_
        refine am_goto (pc' := 83) dX9_span_78 (by decide) ?_
        exact am_iret rfl dX9_span_83 hf
      refine am_iconst (v := -1) dX9_span_67 rfl rfl ?_
      refine am_goto (pc' := 83) dX9_span_68 (by decide) ?_
      exact am_iret rfl dX9_span_83 hf
    refine am_bipush (v := -102) dX9_span_33 (by decide) rfl ?_
    exact am_iret rfl dX9_span_35 hf
  refine am_bipush (v := -101) dX9_span_20 (by decide) rfl ?_
  exact am_iret rfl dX9_span_22 hf
set_option maxRecDepth 20000 in
set_option maxHeartbeats 4000000 in
theorem sfX8_holdsInRun {G : am_G}  (v0 : Nat) (v1 : Int32) (v2 : Int32) (h : am_H) (y : Int32 × am_H) (hf : fX8_holdsInRun v0 v1 v2 h = some y) : am_Cn G miX8_holdsInRun [va_rf (some v0), .int v1, .int v2] h (some (.int y.1)) y.2 := by
  refine am_beg (ls := [some (va_rf (some v0)), some (.int v1), some (.int v2)]) (by simp only [am_en, am_e1_r, am_e1_i, am_e1_l, am_e1_n]; rfl) ?_
  unfold fX8_holdsInRun at hf
  refine am_aload_n dX8_holdsInRun_0 rfl rfl ?_
  refine am_gr_ dX8_holdsInRun_1 fl_X8_62 rfl hf (fun x1 _ hf => ?_)
  refine am_bipush (v := 96) dX8_holdsInRun_4 (by decide) rfl ?_
  refine am_cVv (As := [.int (96 : Int32)]) (st := []) lk_X8_holdsInRun_209 rfl (Nat.le_of_ble_eq_true rfl) (Nat.le_of_ble_eq_true rfl) rfl dX8_holdsInRun_6 rfl hf (fun b3 y2 hf => sfX5_goOnTo b3 _ _ y2 hf) (fun b3 y2 _ _ hf => ?_)
  refine am_aload_n dX8_holdsInRun_9 rfl rfl ?_
  refine am_gr_ dX8_holdsInRun_10 fl_X8_62 rfl hf (fun x4 _ hf => ?_)
  refine am_iload_n dX8_holdsInRun_13 rfl rfl ?_
  refine am_cVi (As := [.int v1]) (st := []) lk_X8_holdsInRun_299 rfl (Nat.le_of_ble_eq_true rfl) (Nat.le_of_ble_eq_true rfl) rfl dX8_holdsInRun_14 rfl hf (fun b6 y5 hf => sfX5_hasSpan b6 _ _ y5 hf) (fun b6 y5 _ _ hf => ?_)
  refine am_if_eq (tgt := 47) dX8_holdsInRun_17 (by decide) rfl hf (fun hf => ?_) (fun hf => ?_)
  · refine am_iconst (v := 0) dX8_holdsInRun_47 rfl rfl ?_
    exact am_zret rfl dX8_holdsInRun_48 hf
  refine am_iload_n dX8_holdsInRun_20 rfl rfl ?_
  refine am_aload_n dX8_holdsInRun_21 rfl rfl ?_
  refine am_gr_ dX8_holdsInRun_22 fl_X8_62 rfl hf (fun x7 _ hf => ?_)
  refine am_iload_n dX8_holdsInRun_25 rfl rfl ?_
  refine am_cVi (As := [.int v1]) (st := [.int v2]) lk_X8_holdsInRun_302 rfl (Nat.le_of_ble_eq_true rfl) (Nat.le_of_ble_eq_true rfl) rfl dX8_holdsInRun_26 rfl hf (fun b9 y8 hf => sfX5_spanFirst b9 _ _ y8 hf) (fun b9 y8 _ _ hf => ?_)
  refine am_aload_n dX8_holdsInRun_29 rfl rfl ?_
  refine am_gr_ dX8_holdsInRun_30 fl_X8_62 rfl hf (fun x10 _ hf => ?_)
  refine am_iload_n dX8_holdsInRun_33 rfl rfl ?_
  refine am_cVi (As := [.int v1]) (st := [.int y8.1, .int v2]) lk_X8_holdsInRun_305 rfl (Nat.le_of_ble_eq_true rfl) (Nat.le_of_ble_eq_true rfl) rfl dX8_holdsInRun_34 rfl hf (fun b12 y11 hf => sfX5_spanLast b12 _ _ y11 hf) (fun b12 y11 _ _ hf => ?_)
  refine am_cSi (As := [.int v2, .int y8.1, .int y11.1]) (st := []) lk_X8_holdsInRun_121 rfl (Nat.le_of_ble_eq_true rfl) (Nat.le_of_ble_eq_true rfl) rfl dX8_holdsInRun_37 rfl hf (fun y13 hf => sfX8_isIn _ _ _ _ y13 hf) (fun y13 _ hf => ?_)
  refine am_if_eq (tgt := 47) dX8_holdsInRun_40 (by decide) rfl hf (fun hf => ?_) (fun hf => ?_)
  · refine am_iconst (v := 0) dX8_holdsInRun_47 rfl rfl ?_
    exact am_zret rfl dX8_holdsInRun_48 hf
  refine am_iconst (v := 1) dX8_holdsInRun_43 rfl rfl ?_
  refine am_goto (pc' := 48) dX8_holdsInRun_44 (by decide) ?_
  exact am_zret rfl dX8_holdsInRun_48 hf
set_option maxRecDepth 20000 in
set_option maxHeartbeats 4000000 in
theorem sfX8_record_105 {G : am_G}  {k72 : Option Nat → Int32 → Int32 → Int32 → Int32 → Int32 → am_H → Option (Int32 × am_H)} (hk72 : ∀ (v0 : Option Nat) (v1 : Int32) (v2 : Int32) (v3 : Int32) (v4 : Int32) (v6 : Int32) (h : am_H) (y : Int32 × am_H), k72 v0 v1 v2 v3 v4 v6 h = some y → am_S G miX8_record 72 [some (va_rf v0), some (.int v1), some (.int v2), some (.int v3), some (.int v4), none, some (.int v6)] [] h (some (.int y.1)) y.2) (v0 : Option Nat) (v1 : Int32) (v2 : Int32) (v3 : Int32) (v4 : Int32) (v6 : Int32) (h : am_H) (y : Int32 × am_H) (hf : fX8_record_105 k72 v0 v1 v2 v3 v4 v6 h = some y) : am_S G miX8_record 105 [some (va_rf v0), some (.int v1), some (.int v2), some (.int v3), some (.int v4), none, some (.int v6)] [] h (some (.int y.1)) y.2 := by
  unfold fX8_record_105 at hf
  refine am_iinc (ls' := [some (va_rf v0), some (.int v1), some (.int v2), some (.int v3), some (.int v4), none, some (.int (v6 + (1 : Int32)))]) dX8_record_105 rfl rfl (by decide) rfl rfl ?_
  refine am_goto (pc' := 72) dX8_record_108 (by decide) ?_
  exact hk72 _ _ _ _ _ _ _ _ hf
set_option maxRecDepth 20000 in
set_option maxHeartbeats 4000000 in
theorem sfX8_record_72 {G : am_G}  : ∀ (n : Nat) (v0 : Option Nat) (v1 : Int32) (v2 : Int32) (v3 : Int32) (v4 : Int32) (v6 : Int32) (h : am_H) (y : Int32 × am_H) (hf : fX8_record_72  n v0 v1 v2 v3 v4 v6 h = some y), am_S G miX8_record 72 [some (va_rf v0), some (.int v1), some (.int v2), some (.int v3), some (.int v4), none, some (.int v6)] [] h (some (.int y.1)) y.2 := by
  intro n
  induction n with
  | zero => intro v0 v1 v2 v3 v4 v6 h y hf; cases hf
  | succ n ih =>
    intro v0 v1 v2 v3 v4 v6 h y hf
    have hf : fX8_record_72_b  (fX8_record_72  n) v0 v1 v2 v3 v4 v6 h = some y := hf
    unfold fX8_record_72_b at hf
    refine am_iload dX8_record_72 rfl rfl ?_
    refine am_aload_n dX8_record_74 rfl rfl ?_
    refine am_gi_ dX8_record_75 fl_X8_156 rfl hf (fun x1 _ hf => ?_)
    refine am_icmp_ge (tgt := 111) dX8_record_78 (by decide) rfl hf (fun hf => ?_) (fun hf => ?_)
    · refine am_iconst (v := -1) dX8_record_111 rfl rfl ?_
      exact am_iret rfl dX8_record_112 hf
    refine am_aload_n dX8_record_81 rfl rfl ?_
    refine am_iload_n dX8_record_82 rfl rfl ?_
    refine am_iload_n dX8_record_83 rfl rfl ?_
    refine am_iload dX8_record_84 rfl rfl ?_
    refine am_cVi (As := [.int v1, .int v2, .int v6]) (st := []) lk_X8_record_200 rfl (Nat.le_of_ble_eq_true rfl) (Nat.le_of_ble_eq_true rfl) rfl dX8_record_86 rfl hf (fun b3 y2 hf => sfX8_startRun b3 _ _ _ _ y2 hf) (fun b3 y2 _ _ hf => ?_)
    refine am_if_eq (tgt := 105) dX8_record_89 (by decide) rfl hf (fun hf => ?_) (fun hf => ?_)
    · exact (sfX8_record_105 ih) _ _ _ _ _ _ _ _ hf
    refine am_aload_n dX8_record_92 rfl rfl ?_
    refine am_iload_n dX8_record_93 rfl rfl ?_
    refine am_iload dX8_record_94 rfl rfl ?_
    refine am_cVi (As := [.int v3, .int v4]) (st := []) lk_X8_record_308 rfl (Nat.le_of_ble_eq_true rfl) (Nat.le_of_ble_eq_true rfl) rfl dX8_record_96 rfl hf (fun b5 y4 hf => sfX8_holdsInRun b5 _ _ _ y4 hf) (fun b5 y4 _ _ hf => ?_)
    refine am_if_eq (tgt := 105) dX8_record_99 (by decide) rfl hf (fun hf => ?_) (fun hf => ?_)
    · exact (sfX8_record_105 ih) _ _ _ _ _ _ _ _ hf
    refine am_iload dX8_record_102 rfl rfl ?_
    exact am_iret rfl dX8_record_104 hf
set_option maxRecDepth 20000 in
set_option maxHeartbeats 4000000 in
theorem sfX8_record {G : am_G}  (v0 : Nat) (v1 : Int32) (v2 : Int32) (v3 : Int32) (v4 : Int32) (v5 : Int32) (h : am_H) (y : Int32 × am_H) (hf : fX8_record v0 v1 v2 v3 v4 v5 h = some y) : am_Cn G miX8_record [va_rf (some v0), .int v1, .int v2, .int v3, .int v4, .int v5] h (some (.int y.1)) y.2 := by
  refine am_beg (ls := [some (va_rf (some v0)), some (.int v1), some (.int v2), some (.int v3), some (.int v4), some (.int v5), none]) (by simp only [am_en, am_e1_r, am_e1_i, am_e1_l, am_e1_n]; rfl) ?_
  unfold fX8_record at hf
  refine am_aload_n dX8_record_0 rfl rfl ?_
  refine am_iload_n dX8_record_1 rfl rfl ?_
  refine am_iload_n dX8_record_2 rfl rfl ?_
  refine am_iconst (v := -1) dX8_record_3 rfl rfl ?_
  refine am_cVi (As := [.int v1, .int v2, .int (-1 : Int32)]) (st := []) lk_X8_record_200 rfl (Nat.le_of_ble_eq_true rfl) (Nat.le_of_ble_eq_true rfl) rfl dX8_record_4 rfl hf (fun b2 y1 hf => sfX8_startRun b2 _ _ _ _ y1 hf) (fun b2 y1 _ _ hf => ?_)
  refine am_if_eq (tgt := 24) dX8_record_7 (by decide) rfl hf (fun hf => ?_) (fun hf => ?_)
  · refine am_bipush (v := -101) dX8_record_24 (by decide) rfl ?_
    exact am_iret rfl dX8_record_26 hf
  refine am_aload_n dX8_record_10 rfl rfl ?_
  refine am_gr_ dX8_record_11 fl_X8_62 rfl hf (fun x3 _ hf => ?_)
  refine am_gr_ dX8_record_14 fl_X8_203 rfl hf (fun x4 _ hf => ?_)
  refine am_iload_n dX8_record_17 rfl rfl ?_
  refine am_cSi (As := [va_rf x4, .int v3]) (st := []) lk_X8_record_295 rfl (by simp only [am_e1_r, am_e1_i, am_e1_l, am_e1_n]; exact Nat.le_of_ble_eq_true rfl) (Nat.le_of_ble_eq_true rfl) rfl dX8_record_18 rfl hf (fun y5 hf => sfX8_isBallOrNone _ _ _ y5 hf) (fun y5 _ hf => ?_)
  refine am_if_ne (tgt := 27) dX8_record_21 (by decide) rfl hf (fun hf => ?_) (fun hf => ?_)
  · refine am_iload dX8_record_27 rfl rfl ?_
    refine am_cSi (As := [.int v4]) (st := []) lk_X8_record_153 rfl (Nat.le_of_ble_eq_true rfl) (Nat.le_of_ble_eq_true rfl) rfl dX8_record_29 rfl hf (fun y6 hf => sfX8_isTick _ _ y6 hf) (fun y6 _ hf => ?_)
    refine am_if_eq (tgt := 45) dX8_record_32 (by decide) rfl hf (fun hf => ?_) (fun hf => ?_)
    · refine am_bipush (v := -102) dX8_record_45 (by decide) rfl ?_
      exact am_iret rfl dX8_record_47 hf
    refine am_iload dX8_record_35 rfl rfl ?_
    refine am_iconst (v := 0) dX8_record_37 rfl rfl ?_
    refine am_iconst (v := 1) dX8_record_38 rfl rfl ?_
    refine am_cSi (As := [.int v5, .int (0 : Int32), .int (1 : Int32)]) (st := []) lk_X8_record_121 rfl (Nat.le_of_ble_eq_true rfl) (Nat.le_of_ble_eq_true rfl) rfl dX8_record_39 rfl hf (fun y7 hf => sfX8_isIn _ _ _ _ y7 hf) (fun y7 _ hf => ?_)
    refine am_if_ne (tgt := 48) dX8_record_42 (by decide) rfl hf (fun hf => ?_) (fun hf => ?_)
    · refine am_iload dX8_record_48 rfl rfl ?_
      refine am_if_ne (tgt := 69) dX8_record_50 (by decide) rfl hf (fun hf => ?_) (fun hf => ?_)
      · refine am_iconst (v := 0) dX8_record_69 rfl rfl ?_
        refine am_istore (ls' := [some (va_rf (some v0)), some (.int v1), some (.int v2), some (.int v3), some (.int v4), some (.int v5), some (.int (0 : Int32))]) dX8_record_70 (by decide) rfl rfl ?_
        exact am_we ((sfX8_record_72 _) _ _ _ _ _ _ _ _ hf) ⟨Or.inr rfl, Or.inr rfl, Or.inr rfl, Or.inr rfl, Or.inr rfl, Or.inl rfl, Or.inr rfl, trivial⟩
      refine am_aload_n dX8_record_53 rfl rfl ?_
      refine am_iload_n dX8_record_54 rfl rfl ?_
      refine am_iload dX8_record_55 rfl rfl ?_
      refine am_cVi (As := [.int v3, .int v4]) (st := []) lk_X8_record_308 rfl (Nat.le_of_ble_eq_true rfl) (Nat.le_of_ble_eq_true rfl) rfl dX8_record_57 rfl hf (fun b9 y8 hf => sfX8_holdsInRun b9 _ _ _ y8 hf) (fun b9 y8 _ _ hf => ?_)
      refine am_if_eq (tgt := 67) dX8_record_60 (by decide) rfl hf (fun hf => ?_) (fun hf => ?_)
      · refine am_iconst (v := 0) dX8_record_67 rfl rfl ?_
        exact am_iret rfl dX8_record_68 hf
      refine am_iconst (v := 1) dX8_record_63 rfl rfl ?_
      refine am_goto (pc' := 68) dX8_record_64 (by decide) ?_
      exact am_iret rfl dX8_record_68 hf
    refine am_bipush (v := -102) dX8_record_45 (by decide) rfl ?_
    exact am_iret rfl dX8_record_47 hf
  refine am_bipush (v := -101) dX8_record_24 (by decide) rfl ?_
  exact am_iret rfl dX8_record_26 hf
