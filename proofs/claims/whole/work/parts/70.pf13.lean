/-! printed proofs of the printed functions, 13 -/
set_option maxRecDepth 20000 in
set_option maxHeartbeats 4000000 in
theorem sfX9_holds {G : am_G}  (v0 : Nat) (v1 : Int32) (v2 : Int32) (v3 : Int32) (v4 : Int32) (v5 : Int32) (h : am_H) (y : Int32 × am_H) (hf : fX9_holds v0 v1 v2 v3 v4 v5 h = some y) : am_Cn G miX9_holds [va_rf (some v0), .int v1, .int v2, .int v3, .int v4, .int v5] h (some (.int y.1)) y.2 := by
  refine am_beg (ls := [some (va_rf (some v0)), some (.int v1), some (.int v2), some (.int v3), some (.int v4), some (.int v5)]) (by simp only [am_en, am_e1_r, am_e1_i, am_e1_l, am_e1_n]; rfl) ?_
  unfold fX9_holds at hf
  refine am_aload_n dX9_holds_0 rfl rfl ?_
  refine am_iload_n dX9_holds_1 rfl rfl ?_
  refine am_iload_n dX9_holds_2 rfl rfl ?_
  refine am_iload_n dX9_holds_3 rfl rfl ?_
  refine am_cVv (As := [.int v1, .int v2, .int v3]) (st := []) lk_X9_holds_280 rfl (Nat.le_of_ble_eq_true rfl) (Nat.le_of_ble_eq_true rfl) rfl dX9_holds_4 rfl hf (fun b2 y1 hf => sfX9_runAll b2 _ _ _ _ y1 hf) (fun b2 y1 _ _ hf => ?_)
  refine am_iload dX9_holds_7 rfl rfl ?_
  refine am_aload_n dX9_holds_9 rfl rfl ?_
  refine am_iload dX9_holds_10 rfl rfl ?_
  refine am_cVi (As := [.int v4]) (st := [.int v5]) lk_X9_holds_347 rfl (Nat.le_of_ble_eq_true rfl) (Nat.le_of_ble_eq_true rfl) rfl dX9_holds_12 rfl hf (fun b4 y3 hf => sfX9_spanFrom b4 _ _ y3 hf) (fun b4 y3 _ _ hf => ?_)
  refine am_aload_n dX9_holds_15 rfl rfl ?_
  refine am_iload_n dX9_holds_16 rfl rfl ?_
  refine am_iload dX9_holds_17 rfl rfl ?_
  refine am_cVi (As := [.int v1, .int v4]) (st := [.int y3.1, .int v5]) lk_X9_holds_350 rfl (Nat.le_of_ble_eq_true rfl) (Nat.le_of_ble_eq_true rfl) rfl dX9_holds_19 rfl hf (fun b6 y5 hf => sfX9_spanTo b6 _ _ _ y5 hf) (fun b6 y5 _ _ hf => ?_)
  refine am_cSi (As := [.int v5, .int y3.1, .int y5.1]) (st := []) lk_X9_holds_132 rfl (Nat.le_of_ble_eq_true rfl) (Nat.le_of_ble_eq_true rfl) rfl dX9_holds_22 rfl hf (fun y7 hf => sfX9_within _ _ _ _ y7 hf) (fun y7 _ hf => ?_)
  exact am_zret rfl dX9_holds_25 hf
set_option maxRecDepth 20000 in
set_option maxHeartbeats 4000000 in
theorem sfX9_record_73 {G : am_G}  : ∀ (n : Nat) (v0 : Option Nat) (v1 : Int32) (v2 : Int32) (v3 : Int32) (v4 : Int32) (v6 : Int32) (h : am_H) (y : Int32 × am_H) (hf : fX9_record_73  n v0 v1 v2 v3 v4 v6 h = some y), am_S G miX9_record 73 [some (va_rf v0), some (.int v1), some (.int v2), some (.int v3), some (.int v4), none, some (.int v6)] [] h (some (.int y.1)) y.2 := by
  intro n
  induction n with
  | zero => intro v0 v1 v2 v3 v4 v6 h y hf; cases hf
  | succ n ih =>
    intro v0 v1 v2 v3 v4 v6 h y hf
    have hf : fX9_record_73_b  (fX9_record_73  n) v0 v1 v2 v3 v4 v6 h = some y := hf
    unfold fX9_record_73_b at hf
    refine am_iload dX9_record_73 rfl rfl ?_
    refine am_aload_n dX9_record_75 rfl rfl ?_
    refine am_gi_ dX9_record_76 fl_X9_191 rfl hf (fun x1 _ hf => ?_)
    refine am_icmp_ge (tgt := 105) dX9_record_79 (by decide) rfl hf (fun hf => ?_) (fun hf => ?_)
    · refine am_iconst (v := -1) dX9_record_105 rfl rfl ?_
      exact am_iret rfl dX9_record_106 hf
    refine am_aload_n dX9_record_82 rfl rfl ?_
    refine am_iload_n dX9_record_83 rfl rfl ?_
    refine am_iload_n dX9_record_84 rfl rfl ?_
    refine am_iload dX9_record_85 rfl rfl ?_
    refine am_iload_n dX9_record_87 rfl rfl ?_
    refine am_iload dX9_record_88 rfl rfl ?_
    refine am_cVi (As := [.int v1, .int v2, .int v6, .int v3, .int v4]) (st := []) lk_X9_record_353 rfl (Nat.le_of_ble_eq_true rfl) (Nat.le_of_ble_eq_true rfl) rfl dX9_record_90 rfl hf (fun b3 y2 hf => sfX9_holds b3 _ _ _ _ _ _ y2 hf) (fun b3 y2 _ _ hf => ?_)
    refine am_if_eq (tgt := 99) dX9_record_93 (by decide) rfl hf (fun hf => ?_) (fun hf => ?_)
    · refine am_iinc (ls' := [some (va_rf v0), some (.int v1), some (.int v2), some (.int v3), some (.int v4), none, some (.int (v6 + (1 : Int32)))]) dX9_record_99 rfl rfl (by decide) rfl rfl ?_
      refine am_goto (pc' := 73) dX9_record_102 (by decide) ?_
      exact ih _ _ _ _ _ _ _ _ hf
    refine am_iload dX9_record_96 rfl rfl ?_
    exact am_iret rfl dX9_record_98 hf
set_option maxRecDepth 20000 in
set_option maxHeartbeats 4000000 in
theorem sfX9_record {G : am_G}  (v0 : Nat) (v1 : Int32) (v2 : Int32) (v3 : Int32) (v4 : Int32) (v5 : Int32) (h : am_H) (y : Int32 × am_H) (hf : fX9_record v0 v1 v2 v3 v4 v5 h = some y) : am_Cn G miX9_record [va_rf (some v0), .int v1, .int v2, .int v3, .int v4, .int v5] h (some (.int y.1)) y.2 := by
  refine am_beg (ls := [some (va_rf (some v0)), some (.int v1), some (.int v2), some (.int v3), some (.int v4), some (.int v5), none]) (by simp only [am_en, am_e1_r, am_e1_i, am_e1_l, am_e1_n]; rfl) ?_
  unfold fX9_record at hf
  refine am_aload_n dX9_record_0 rfl rfl ?_
  refine am_iload_n dX9_record_1 rfl rfl ?_
  refine am_iload_n dX9_record_2 rfl rfl ?_
  refine am_iconst (v := -1) dX9_record_3 rfl rfl ?_
  refine am_cVi (As := [.int v1, .int v2, .int (-1 : Int32)]) (st := []) lk_X9_record_277 rfl (Nat.le_of_ble_eq_true rfl) (Nat.le_of_ble_eq_true rfl) rfl dX9_record_4 rfl hf (fun b2 y1 hf => sfX9_isRun b2 _ _ _ _ y1 hf) (fun b2 y1 _ _ hf => ?_)
  refine am_if_eq (tgt := 19) dX9_record_7 (by decide) rfl hf (fun hf => ?_) (fun hf => ?_)
  · refine am_bipush (v := -101) dX9_record_19 (by decide) rfl ?_
    exact am_iret rfl dX9_record_21 hf
  refine am_aload_n dX9_record_10 rfl rfl ?_
  refine am_iload_n dX9_record_11 rfl rfl ?_
  refine am_iload_n dX9_record_12 rfl rfl ?_
  refine am_cVi (As := [.int v1, .int v3]) (st := []) lk_X9_record_344 rfl (Nat.le_of_ble_eq_true rfl) (Nat.le_of_ble_eq_true rfl) rfl dX9_record_13 rfl hf (fun b4 y3 hf => sfX9_isRecord b4 _ _ _ y3 hf) (fun b4 y3 _ _ hf => ?_)
  refine am_if_ne (tgt := 22) dX9_record_16 (by decide) rfl hf (fun hf => ?_) (fun hf => ?_)
  · refine am_iload dX9_record_22 rfl rfl ?_
    refine am_iconst (v := 0) dX9_record_24 rfl rfl ?_
    refine am_bipush (v := 95) dX9_record_25 (by decide) rfl ?_
    refine am_cSi (As := [.int v4, .int (0 : Int32), .int (95 : Int32)]) (st := []) lk_X9_record_132 rfl (Nat.le_of_ble_eq_true rfl) (Nat.le_of_ble_eq_true rfl) rfl dX9_record_27 rfl hf (fun y5 hf => sfX9_within _ _ _ _ y5 hf) (fun y5 _ hf => ?_)
    refine am_if_eq (tgt := 43) dX9_record_30 (by decide) rfl hf (fun hf => ?_) (fun hf => ?_)
    · refine am_bipush (v := -102) dX9_record_43 (by decide) rfl ?_
      exact am_iret rfl dX9_record_45 hf
    refine am_iload dX9_record_33 rfl rfl ?_
    refine am_iconst (v := 0) dX9_record_35 rfl rfl ?_
    refine am_iconst (v := 1) dX9_record_36 rfl rfl ?_
    refine am_cSi (As := [.int v5, .int (0 : Int32), .int (1 : Int32)]) (st := []) lk_X9_record_132 rfl (Nat.le_of_ble_eq_true rfl) (Nat.le_of_ble_eq_true rfl) rfl dX9_record_37 rfl hf (fun y6 hf => sfX9_within _ _ _ _ y6 hf) (fun y6 _ hf => ?_)
    refine am_if_ne (tgt := 46) dX9_record_40 (by decide) rfl hf (fun hf => ?_) (fun hf => ?_)
    · refine am_iload dX9_record_46 rfl rfl ?_
      refine am_if_ne (tgt := 70) dX9_record_48 (by decide) rfl hf (fun hf => ?_) (fun hf => ?_)
      · refine am_iconst (v := 0) dX9_record_70 rfl rfl ?_
        refine am_istore (ls' := [some (va_rf (some v0)), some (.int v1), some (.int v2), some (.int v3), some (.int v4), some (.int v5), some (.int (0 : Int32))]) dX9_record_71 (by decide) rfl rfl ?_
        exact am_we ((sfX9_record_73 _) _ _ _ _ _ _ _ _ hf) ⟨Or.inr rfl, Or.inr rfl, Or.inr rfl, Or.inr rfl, Or.inr rfl, Or.inl rfl, Or.inr rfl, trivial⟩
      refine am_aload_n dX9_record_51 rfl rfl ?_
      refine am_iload_n dX9_record_52 rfl rfl ?_
      refine am_iload_n dX9_record_53 rfl rfl ?_
      refine am_iconst (v := -1) dX9_record_54 rfl rfl ?_
      refine am_iload_n dX9_record_55 rfl rfl ?_
      refine am_iload dX9_record_56 rfl rfl ?_
      refine am_cVi (As := [.int v1, .int v2, .int (-1 : Int32), .int v3, .int v4]) (st := []) lk_X9_record_353 rfl (Nat.le_of_ble_eq_true rfl) (Nat.le_of_ble_eq_true rfl) rfl dX9_record_58 rfl hf (fun b8 y7 hf => sfX9_holds b8 _ _ _ _ _ _ y7 hf) (fun b8 y7 _ _ hf => ?_)
      refine am_if_eq (tgt := 68) dX9_record_61 (by decide) rfl hf (fun hf => ?_) (fun hf => ?_)
      · refine am_iconst (v := 0) dX9_record_68 rfl rfl ?_
        exact am_iret rfl dX9_record_69 hf
      refine am_iconst (v := 1) dX9_record_64 rfl rfl ?_
      refine am_goto (pc' := 69) dX9_record_65 (by decide) ?_
      exact am_iret rfl dX9_record_69 hf
    refine am_bipush (v := -102) dX9_record_43 (by decide) rfl ?_
    exact am_iret rfl dX9_record_45 hf
  refine am_bipush (v := -101) dX9_record_19 (by decide) rfl ?_
  exact am_iret rfl dX9_record_21 hf
set_option maxRecDepth 20000 in
set_option maxHeartbeats 4000000 in
theorem sfX6_copyFrom_39 {G : am_G}  : ∀ (n : Nat) (v0 : Option Nat) (v1 : Option Nat) (v2 : Int32) (h : am_H) (y : am_H) (hf : fX6_copyFrom_39  n v0 v1 v2 h = some y), am_S G miX6_copyFrom 39 [some (va_rf v0), some (va_rf v1), some (.int v2)] [] h none y := by
  intro n
  induction n with
  | zero => intro v0 v1 v2 h y hf; cases hf
  | succ n ih =>
    intro v0 v1 v2 h y hf
    have hf : fX6_copyFrom_39_b  (fX6_copyFrom_39  n) v0 v1 v2 h = some y := hf
    unfold fX6_copyFrom_39_b at hf
    refine am_iload_n dX6_copyFrom_39 rfl rfl ?_
    refine am_bipush (v := 12) dX6_copyFrom_40 (by decide) rfl ?_
    refine am_icmp_ge (tgt := 63) dX6_copyFrom_42 (by decide) rfl hf (fun hf => ?_) (fun hf => ?_)
    · refine am_aload_n dX6_copyFrom_63 rfl rfl ?_
      refine am_aload_n dX6_copyFrom_64 rfl rfl ?_
      refine am_gi_ dX6_copyFrom_65 fl_X6_21 rfl hf (fun x1 _ hf => ?_)
      refine am_pi_ dX6_copyFrom_68 fl_X6_21 fp_6_3 (fun z => by cases z) rfl hf (fun h2 _ hf => ?_)
      exact am_vret rfl dX6_copyFrom_71 hf
    refine am_aload_n dX6_copyFrom_45 rfl rfl ?_
    refine am_gr_ dX6_copyFrom_46 fl_X6_18 rfl hf (fun x3 _ hf => ?_)
    refine am_iload_n dX6_copyFrom_49 rfl rfl ?_
    refine am_aload_n dX6_copyFrom_50 rfl rfl ?_
    refine am_gr_ dX6_copyFrom_51 fl_X6_18 rfl hf (fun x4 _ hf => ?_)
    refine am_iload_n dX6_copyFrom_54 rfl rfl ?_
    refine am_iald dX6_copyFrom_55 rfl hf (fun x5 _ hf => ?_)
    refine am_iast dX6_copyFrom_56 rfl hf (fun h6 _ hf => ?_)
    refine am_iinc (ls' := [some (va_rf v0), some (va_rf v1), some (.int (v2 + (1 : Int32)))]) dX6_copyFrom_57 rfl rfl (by decide) (am_s1_r (j := 1) rfl rfl) rfl ?_
    refine am_goto (pc' := 39) dX6_copyFrom_60 (by decide) ?_
    exact ih _ _ _ _ _ hf
set_option maxRecDepth 20000 in
set_option maxHeartbeats 4000000 in
theorem sfX6_copyFrom_2 {G : am_G}  : ∀ (n : Nat) (v0 : Option Nat) (v1 : Option Nat) (v2 : Int32) (h : am_H) (y : am_H) (hf : fX6_copyFrom_2  n v0 v1 v2 h = some y), am_S G miX6_copyFrom 2 [some (va_rf v0), some (va_rf v1), some (.int v2)] [] h none y := by
  intro n
  induction n with
  | zero => intro v0 v1 v2 h y hf; cases hf
  | succ n ih =>
    intro v0 v1 v2 h y hf
    have hf : fX6_copyFrom_2_b  (fX6_copyFrom_2  n) v0 v1 v2 h = some y := hf
    unfold fX6_copyFrom_2_b at hf
    refine am_iload_n dX6_copyFrom_2 rfl rfl ?_
    refine am_iconst (v := 4) dX6_copyFrom_3 rfl rfl ?_
    refine am_icmp_ge (tgt := 37) dX6_copyFrom_4 (by decide) rfl hf (fun hf => ?_) (fun hf => ?_)
    · refine am_iconst (v := 0) dX6_copyFrom_37 rfl rfl ?_
      refine am_istore_n (ls' := [some (va_rf v0), some (va_rf v1), some (.int (0 : Int32))]) dX6_copyFrom_38 (by decide) (am_s1_r (j := 1) rfl rfl) rfl ?_
      exact (sfX6_copyFrom_39 _) _ _ _ _ _ hf
    refine am_aload_n dX6_copyFrom_7 rfl rfl ?_
    refine am_gr_ dX6_copyFrom_8 fl_X6_9 rfl hf (fun x1 _ hf => ?_)
    refine am_iload_n dX6_copyFrom_11 rfl rfl ?_
    refine am_aload_n dX6_copyFrom_12 rfl rfl ?_
    refine am_gr_ dX6_copyFrom_13 fl_X6_9 rfl hf (fun x2 _ hf => ?_)
    refine am_iload_n dX6_copyFrom_16 rfl rfl ?_
    refine am_iald dX6_copyFrom_17 rfl hf (fun x3 _ hf => ?_)
    refine am_iast dX6_copyFrom_18 rfl hf (fun h4 _ hf => ?_)
    refine am_aload_n dX6_copyFrom_19 rfl rfl ?_
    refine am_gr_ dX6_copyFrom_20 fl_X6_15 rfl hf (fun x5 _ hf => ?_)
    refine am_iload_n dX6_copyFrom_23 rfl rfl ?_
    refine am_aload_n dX6_copyFrom_24 rfl rfl ?_
    refine am_gr_ dX6_copyFrom_25 fl_X6_15 rfl hf (fun x6 _ hf => ?_)
    refine am_iload_n dX6_copyFrom_28 rfl rfl ?_
    refine am_iald dX6_copyFrom_29 rfl hf (fun x7 _ hf => ?_)
    refine am_iast dX6_copyFrom_30 rfl hf (fun h8 _ hf => ?_)
    refine am_iinc (ls' := [some (va_rf v0), some (va_rf v1), some (.int (v2 + (1 : Int32)))]) dX6_copyFrom_31 rfl rfl (by decide) (am_s1_r (j := 1) rfl rfl) rfl ?_
    refine am_goto (pc' := 2) dX6_copyFrom_34 (by decide) ?_
    exact ih _ _ _ _ _ hf
set_option maxRecDepth 20000 in
set_option maxHeartbeats 4000000 in
theorem sfX6_copyFrom {G : am_G}  (v0 : Nat) (v1 : Option Nat) (h : am_H) (y : am_H) (hf : fX6_copyFrom v0 v1 h = some y) : am_Cn G miX6_copyFrom [va_rf (some v0), va_rf v1] h none y := by
  refine am_beg (ls := [some (va_rf (some v0)), some (va_rf v1), none]) (by simp only [am_en, am_e1_r, am_e1_i, am_e1_l, am_e1_n]; rfl) ?_
  unfold fX6_copyFrom at hf
  refine am_iconst (v := 0) dX6_copyFrom_0 rfl rfl ?_
  refine am_istore_n (ls' := [some (va_rf (some v0)), some (va_rf v1), some (.int (0 : Int32))]) dX6_copyFrom_1 (by decide) (am_s1_r (j := 1) rfl rfl) rfl ?_
  exact (sfX6_copyFrom_2 _) _ _ _ _ _ hf
set_option maxRecDepth 20000 in
set_option maxHeartbeats 4000000 in
theorem sfX6_ballsTold_23 {G : am_G}  {k4 : Option Nat → Int32 → Int32 → am_H → Option (Int32 × am_H)} (hk4 : ∀ (v0 : Option Nat) (v1 : Int32) (v2 : Int32) (h : am_H) (y : Int32 × am_H), k4 v0 v1 v2 h = some y → am_S G miX6_ballsTold 4 [some (va_rf v0), some (.int v1), some (.int v2)] [] h (some (.int y.1)) y.2) (v0 : Option Nat) (v1 : Int32) (v2 : Int32) (h : am_H) (y : Int32 × am_H) (hf : fX6_ballsTold_23 k4 v0 v1 v2 h = some y) : am_S G miX6_ballsTold 23 [some (va_rf v0), some (.int v1), some (.int v2)] [] h (some (.int y.1)) y.2 := by
  unfold fX6_ballsTold_23 at hf
  refine am_iinc (ls' := [some (va_rf v0), some (.int v1), some (.int (v2 + (1 : Int32)))]) dX6_ballsTold_23 rfl rfl (by decide) rfl rfl ?_
  refine am_goto (pc' := 4) dX6_ballsTold_26 (by decide) ?_
  exact hk4 _ _ _ _ _ hf
set_option maxRecDepth 20000 in
set_option maxHeartbeats 4000000 in
theorem sfX6_ballsTold_4 {G : am_G}  : ∀ (n : Nat) (v0 : Option Nat) (v1 : Int32) (v2 : Int32) (h : am_H) (y : Int32 × am_H) (hf : fX6_ballsTold_4  n v0 v1 v2 h = some y), am_S G miX6_ballsTold 4 [some (va_rf v0), some (.int v1), some (.int v2)] [] h (some (.int y.1)) y.2 := by
  intro n
  induction n with
  | zero => intro v0 v1 v2 h y hf; cases hf
  | succ n ih =>
    intro v0 v1 v2 h y hf
    have hf : fX6_ballsTold_4_b  (fX6_ballsTold_4  n) v0 v1 v2 h = some y := hf
    unfold fX6_ballsTold_4_b at hf
    refine am_iload_n dX6_ballsTold_4 rfl rfl ?_
    refine am_bipush (v := 12) dX6_ballsTold_5 (by decide) rfl ?_
    refine am_icmp_ge (tgt := 29) dX6_ballsTold_7 (by decide) rfl hf (fun hf => ?_) (fun hf => ?_)
    · refine am_iload_n dX6_ballsTold_29 rfl rfl ?_
      exact am_iret rfl dX6_ballsTold_30 hf
    refine am_aload_n dX6_ballsTold_10 rfl rfl ?_
    refine am_gr_ dX6_ballsTold_11 fl_X6_18 rfl hf (fun x1 _ hf => ?_)
    refine am_iload_n dX6_ballsTold_14 rfl rfl ?_
    refine am_iald dX6_ballsTold_15 rfl hf (fun x2 _ hf => ?_)
    refine am_iconst (v := -1) dX6_ballsTold_16 rfl rfl ?_
    refine am_icmp_eq (tgt := 23) dX6_ballsTold_17 (by decide) rfl hf (fun hf => ?_) (fun hf => ?_)
    · exact (sfX6_ballsTold_23 ih) _ _ _ _ _ hf
    refine am_iinc (ls' := [some (va_rf v0), some (.int (v1 + (1 : Int32))), some (.int v2)]) dX6_ballsTold_20 rfl rfl (by decide) (am_s1_r (j := 0) rfl rfl) rfl ?_
    exact (sfX6_ballsTold_23 ih) _ _ _ _ _ hf
set_option maxRecDepth 20000 in
set_option maxHeartbeats 4000000 in
theorem sfX6_ballsTold {G : am_G}  (v0 : Nat) (h : am_H) (y : Int32 × am_H) (hf : fX6_ballsTold v0 h = some y) : am_Cn G miX6_ballsTold [va_rf (some v0)] h (some (.int y.1)) y.2 := by
  refine am_beg (ls := [some (va_rf (some v0)), none, none]) (by simp only [am_en, am_e1_r, am_e1_i, am_e1_l, am_e1_n]; rfl) ?_
  unfold fX6_ballsTold at hf
  refine am_iconst (v := 0) dX6_ballsTold_0 rfl rfl ?_
  refine am_istore_n (ls' := [some (va_rf (some v0)), some (.int (0 : Int32)), none]) dX6_ballsTold_1 (by decide) (am_s1_r (j := 0) rfl rfl) rfl ?_
  refine am_iconst (v := 0) dX6_ballsTold_2 rfl rfl ?_
  refine am_istore_n (ls' := [some (va_rf (some v0)), some (.int (0 : Int32)), some (.int (0 : Int32))]) dX6_ballsTold_3 (by decide) rfl rfl ?_
  exact (sfX6_ballsTold_4 _) _ _ _ _ _ hf
set_option maxRecDepth 20000 in
set_option maxHeartbeats 4000000 in
theorem sfX8_image {G : am_G}  (v0 : Nat) (h : am_H) (y : Int32 × am_H) (hf : fX8_image v0 h = some y) : am_Cn G miX8_image [va_rf (some v0)] h (some (.int y.1)) y.2 := by
  refine am_beg (ls := [some (va_rf (some v0))]) (by simp only [am_en, am_e1_r, am_e1_i, am_e1_l, am_e1_n]; rfl) ?_
  unfold fX8_image at hf
  refine am_aload_n dX8_image_0 rfl rfl ?_
  refine am_gr_ dX8_image_1 fl_X8_41 rfl hf (fun x1 _ hf => ?_)
  refine am_aload_n dX8_image_4 rfl rfl ?_
  refine am_gr_ dX8_image_5 fl_X8_37 rfl hf (fun x2 _ hf => ?_)
  refine am_cVv (As := [va_rf x2]) (st := []) lk_X8_image_311 rfl (by simp only [am_e1_r, am_e1_i, am_e1_l, am_e1_n]; exact Nat.le_of_ble_eq_true rfl) (Nat.le_of_ble_eq_true rfl) rfl dX8_image_8 rfl hf (fun b4 y3 hf => sfX6_copyFrom b4 _ _ y3 hf) (fun b4 y3 _ _ hf => ?_)
  refine am_aload_n dX8_image_11 rfl rfl ?_
  refine am_iconst (v := 1) dX8_image_12 rfl rfl ?_
  refine am_pz_ dX8_image_13 fl_X8_314 fp_8_9 (fun z => by cases z) rfl hf (fun h5 _ hf => ?_)
  refine am_aload_n dX8_image_16 rfl rfl ?_
  refine am_gr_ dX8_image_17 fl_X8_37 rfl hf (fun x6 _ hf => ?_)
  refine am_cVi (As := []) (st := []) lk_X8_image_318 rfl (Nat.le_of_ble_eq_true rfl) (Nat.le_of_ble_eq_true rfl) rfl dX8_image_20 rfl hf (fun b8 y7 hf => sfX6_ballsTold b8  _ y7 hf) (fun b8 y7 _ _ hf => ?_)
  exact am_iret rfl dX8_image_23 hf
set_option maxRecDepth 20000 in
set_option maxHeartbeats 4000000 in
theorem sfX9_logMany_26 {G : am_G}  {k4 : Option Nat → Int32 → Int32 → am_H → Option (Int32 × am_H)} (hk4 : ∀ (v0 : Option Nat) (v1 : Int32) (v2 : Int32) (h : am_H) (y : Int32 × am_H), k4 v0 v1 v2 h = some y → am_S G miX9_logMany 4 [some (va_rf v0), some (.int v1), some (.int v2)] [] h (some (.int y.1)) y.2) (v0 : Option Nat) (v2 : Int32) (s0 : Int32) (s1 : Int32) (h : am_H) (y : Int32 × am_H) (hf : fX9_logMany_26 k4 v0 v2 s0 s1 h = some y) : am_S G miX9_logMany 26 [some (va_rf v0), none, some (.int v2)] [.int s1, .int s0] h (some (.int y.1)) y.2 := by
  unfold fX9_logMany_26 at hf
  refine am_iadd dX9_logMany_26 rfl ?_
  refine am_istore_n (ls' := [some (va_rf v0), some (.int (s0 + s1)), some (.int v2)]) dX9_logMany_27 (by decide) (am_s1_r (j := 0) rfl rfl) rfl ?_
  refine am_iinc (ls' := [some (va_rf v0), some (.int (s0 + s1)), some (.int (v2 + (1 : Int32)))]) dX9_logMany_28 rfl rfl (by decide) rfl rfl ?_
  refine am_goto (pc' := 4) dX9_logMany_31 (by decide) ?_
  exact hk4 _ _ _ _ _ hf
set_option maxRecDepth 20000 in
set_option maxHeartbeats 4000000 in
theorem sfX9_logMany_4 {G : am_G}  : ∀ (n : Nat) (v0 : Option Nat) (v1 : Int32) (v2 : Int32) (h : am_H) (y : Int32 × am_H) (hf : fX9_logMany_4  n v0 v1 v2 h = some y), am_S G miX9_logMany 4 [some (va_rf v0), some (.int v1), some (.int v2)] [] h (some (.int y.1)) y.2 := by
  intro n
  induction n with
  | zero => intro v0 v1 v2 h y hf; cases hf
  | succ n ih =>
    intro v0 v1 v2 h y hf
    have hf : fX9_logMany_4_b  (fX9_logMany_4  n) v0 v1 v2 h = some y := hf
    unfold fX9_logMany_4_b at hf
    refine am_iload_n dX9_logMany_4 rfl rfl ?_
    refine am_bipush (v := 12) dX9_logMany_5 (by decide) rfl ?_
    refine am_icmp_ge (tgt := 34) dX9_logMany_7 (by decide) rfl hf (fun hf => ?_) (fun hf => ?_)
    · refine am_iload_n dX9_logMany_34 rfl rfl ?_
      exact am_iret rfl dX9_logMany_35 hf
    refine am_iload_n dX9_logMany_10 rfl rfl ?_
    refine am_aload_n dX9_logMany_11 rfl rfl ?_
    refine am_gr_ dX9_logMany_12 fl_X9_68 rfl hf (fun x1 _ hf => ?_)
    refine am_iload_n dX9_logMany_15 rfl rfl ?_
    refine am_iald dX9_logMany_16 rfl hf (fun x2 _ hf => ?_)
    refine am_iconst (v := -1) dX9_logMany_17 rfl rfl ?_
    refine am_icmp_ne (tgt := 25) dX9_logMany_18 (by decide) rfl hf (fun hf => ?_) (fun hf => ?_)
    · refine am_iconst (v := 1) dX9_logMany_25 rfl rfl ?_
      exact am_we ((sfX9_logMany_26 ih) _ _ _ _ _ _ hf) ⟨Or.inr rfl, Or.inl rfl, Or.inr rfl, trivial⟩
    refine am_iconst (v := 0) dX9_logMany_21 rfl rfl ?_
    refine am_goto (pc' := 26) dX9_logMany_22 (by decide) ?_
    exact am_we ((sfX9_logMany_26 ih) _ _ _ _ _ _ hf) ⟨Or.inr rfl, Or.inl rfl, Or.inr rfl, trivial⟩
set_option maxRecDepth 20000 in
set_option maxHeartbeats 4000000 in
theorem sfX9_logMany {G : am_G}  (v0 : Nat) (h : am_H) (y : Int32 × am_H) (hf : fX9_logMany v0 h = some y) : am_Cn G miX9_logMany [va_rf (some v0)] h (some (.int y.1)) y.2 := by
  refine am_beg (ls := [some (va_rf (some v0)), none, none]) (by simp only [am_en, am_e1_r, am_e1_i, am_e1_l, am_e1_n]; rfl) ?_
  unfold fX9_logMany at hf
  refine am_iconst (v := 0) dX9_logMany_0 rfl rfl ?_
  refine am_istore_n (ls' := [some (va_rf (some v0)), some (.int (0 : Int32)), none]) dX9_logMany_1 (by decide) (am_s1_r (j := 0) rfl rfl) rfl ?_
  refine am_iconst (v := 0) dX9_logMany_2 rfl rfl ?_
  refine am_istore_n (ls' := [some (va_rf (some v0)), some (.int (0 : Int32)), some (.int (0 : Int32))]) dX9_logMany_3 (by decide) rfl rfl ?_
  exact (sfX9_logMany_4 _) _ _ _ _ _ hf
set_option maxRecDepth 20000 in
set_option maxHeartbeats 4000000 in
theorem sfX9_image_52 {G : am_G}  : ∀ (n : Nat) (v0 : Option Nat) (v1 : Int32) (h : am_H) (y : Int32 × am_H) (hf : fX9_image_52  n v0 v1 h = some y), am_S G miX9_image 52 [some (va_rf v0), some (.int v1)] [] h (some (.int y.1)) y.2 := by
  intro n
  induction n with
  | zero => intro v0 v1 h y hf; cases hf
  | succ n ih =>
    intro v0 v1 h y hf
    have hf : fX9_image_52_b  (fX9_image_52  n) v0 v1 h = some y := hf
    unfold fX9_image_52_b at hf
    refine am_iload_n dX9_image_52 rfl rfl ?_
    refine am_bipush (v := 12) dX9_image_53 (by decide) rfl ?_
    refine am_icmp_ge (tgt := 76) dX9_image_55 (by decide) rfl hf (fun hf => ?_) (fun hf => ?_)
    · refine am_aload_n dX9_image_76 rfl rfl ?_
      refine am_cVi (As := []) (st := []) lk_X9_image_363 rfl (Nat.le_of_ble_eq_true rfl) (Nat.le_of_ble_eq_true rfl) rfl dX9_image_77 rfl hf (fun b2 y1 hf => sfX9_logMany b2  _ y1 hf) (fun b2 y1 _ _ hf => ?_)
      exact am_iret rfl dX9_image_80 hf
    refine am_aload_n dX9_image_58 rfl rfl ?_
    refine am_gr_ dX9_image_59 fl_X9_81 rfl hf (fun x3 _ hf => ?_)
    refine am_iload_n dX9_image_62 rfl rfl ?_
    refine am_aload_n dX9_image_63 rfl rfl ?_
    refine am_gr_ dX9_image_64 fl_X9_68 rfl hf (fun x4 _ hf => ?_)
    refine am_iload_n dX9_image_67 rfl rfl ?_
    refine am_iald dX9_image_68 rfl hf (fun x5 _ hf => ?_)
    refine am_iast dX9_image_69 rfl hf (fun h6 _ hf => ?_)
    refine am_iinc (ls' := [some (va_rf v0), some (.int (v1 + (1 : Int32)))]) dX9_image_70 rfl rfl (by decide) (am_s1_r (j := 0) rfl rfl) rfl ?_
    refine am_goto (pc' := 52) dX9_image_73 (by decide) ?_
    exact ih _ _ _ _ hf
set_option maxRecDepth 20000 in
set_option maxHeartbeats 4000000 in
theorem sfX9_image_15 {G : am_G}  : ∀ (n : Nat) (v0 : Option Nat) (v1 : Int32) (h : am_H) (y : Int32 × am_H) (hf : fX9_image_15  n v0 v1 h = some y), am_S G miX9_image 15 [some (va_rf v0), some (.int v1)] [] h (some (.int y.1)) y.2 := by
  intro n
  induction n with
  | zero => intro v0 v1 h y hf; cases hf
  | succ n ih =>
    intro v0 v1 h y hf
    have hf : fX9_image_15_b  (fX9_image_15  n) v0 v1 h = some y := hf
    unfold fX9_image_15_b at hf
    refine am_iload_n dX9_image_15 rfl rfl ?_
    refine am_iconst (v := 4) dX9_image_16 rfl rfl ?_
    refine am_icmp_ge (tgt := 50) dX9_image_17 (by decide) rfl hf (fun hf => ?_) (fun hf => ?_)
    · refine am_iconst (v := 0) dX9_image_50 rfl rfl ?_
      refine am_istore_n (ls' := [some (va_rf v0), some (.int (0 : Int32))]) dX9_image_51 (by decide) (am_s1_r (j := 0) rfl rfl) rfl ?_
      exact (sfX9_image_52 _) _ _ _ _ hf
    refine am_aload_n dX9_image_20 rfl rfl ?_
    refine am_gr_ dX9_image_21 fl_X9_75 rfl hf (fun x1 _ hf => ?_)
    refine am_iload_n dX9_image_24 rfl rfl ?_
    refine am_aload_n dX9_image_25 rfl rfl ?_
    refine am_gr_ dX9_image_26 fl_X9_37 rfl hf (fun x2 _ hf => ?_)
    refine am_iload_n dX9_image_29 rfl rfl ?_
    refine am_iald dX9_image_30 rfl hf (fun x3 _ hf => ?_)
    refine am_iast dX9_image_31 rfl hf (fun h4 _ hf => ?_)
    refine am_aload_n dX9_image_32 rfl rfl ?_
    refine am_gr_ dX9_image_33 fl_X9_78 rfl hf (fun x5 _ hf => ?_)
    refine am_iload_n dX9_image_36 rfl rfl ?_
    refine am_aload_n dX9_image_37 rfl rfl ?_
    refine am_gr_ dX9_image_38 fl_X9_40 rfl hf (fun x6 _ hf => ?_)
    refine am_iload_n dX9_image_41 rfl rfl ?_
    refine am_iald dX9_image_42 rfl hf (fun x7 _ hf => ?_)
    refine am_iast dX9_image_43 rfl hf (fun h8 _ hf => ?_)
    refine am_iinc (ls' := [some (va_rf v0), some (.int (v1 + (1 : Int32)))]) dX9_image_44 rfl rfl (by decide) (am_s1_r (j := 0) rfl rfl) rfl ?_
    refine am_goto (pc' := 15) dX9_image_47 (by decide) ?_
    exact ih _ _ _ _ hf
set_option maxRecDepth 20000 in
set_option maxHeartbeats 4000000 in
theorem sfX9_image {G : am_G}  (v0 : Nat) (h : am_H) (y : Int32 × am_H) (hf : fX9_image v0 h = some y) : am_Cn G miX9_image [va_rf (some v0)] h (some (.int y.1)) y.2 := by
  refine am_beg (ls := [some (va_rf (some v0)), none]) (by simp only [am_en, am_e1_r, am_e1_i, am_e1_l, am_e1_n]; rfl) ?_
  unfold fX9_image at hf
  refine am_aload_n dX9_image_0 rfl rfl ?_
  refine am_iconst (v := 1) dX9_image_1 rfl rfl ?_
  refine am_pz_ dX9_image_2 fl_X9_357 fp_9_26 (fun z => by cases z) rfl hf (fun h1 _ hf => ?_)
  refine am_aload_n dX9_image_5 rfl rfl ?_
  refine am_aload_n dX9_image_6 rfl rfl ?_
  refine am_gi_ dX9_image_7 fl_X9_64 rfl hf (fun x2 _ hf => ?_)
  refine am_pi_ dX9_image_10 fl_X9_360 fp_9_27 (fun z => by cases z) rfl hf (fun h3 _ hf => ?_)
  refine am_iconst (v := 0) dX9_image_13 rfl rfl ?_
  refine am_istore_n (ls' := [some (va_rf (some v0)), some (.int (0 : Int32))]) dX9_image_14 (by decide) (am_s1_r (j := 0) rfl rfl) rfl ?_
  exact (sfX9_image_15 _) _ _ _ _ hf
set_option maxRecDepth 20000 in
set_option maxHeartbeats 4000000 in
theorem sfX8_restore {G : am_G}  (v0 : Nat) (h : am_H) (y : Int32 × am_H) (hf : fX8_restore v0 h = some y) : am_Cn G miX8_restore [va_rf (some v0)] h (some (.int y.1)) y.2 := by
  refine am_beg (ls := [some (va_rf (some v0))]) (by simp only [am_en, am_e1_r, am_e1_i, am_e1_l, am_e1_n]; rfl) ?_
  unfold fX8_restore at hf
  refine am_aload_n dX8_restore_0 rfl rfl ?_
  refine am_gi_ dX8_restore_1 fl_X8_314 rfl hf (fun x1 _ hf => ?_)
  refine am_if_ne (tgt := 10) dX8_restore_4 (by decide) rfl hf (fun hf => ?_) (fun hf => ?_)
  · refine am_aload_n dX8_restore_10 rfl rfl ?_
    refine am_gr_ dX8_restore_11 fl_X8_37 rfl hf (fun x2 _ hf => ?_)
    refine am_aload_n dX8_restore_14 rfl rfl ?_
    refine am_gr_ dX8_restore_15 fl_X8_41 rfl hf (fun x3 _ hf => ?_)
    refine am_cVv (As := [va_rf x3]) (st := []) lk_X8_restore_311 rfl (by simp only [am_e1_r, am_e1_i, am_e1_l, am_e1_n]; exact Nat.le_of_ble_eq_true rfl) (Nat.le_of_ble_eq_true rfl) rfl dX8_restore_18 rfl hf (fun b5 y4 hf => sfX6_copyFrom b5 _ _ y4 hf) (fun b5 y4 _ _ hf => ?_)
    refine am_aload_n dX8_restore_21 rfl rfl ?_
    refine am_gr_ dX8_restore_22 fl_X8_37 rfl hf (fun x6 _ hf => ?_)
    refine am_cVi (As := []) (st := []) lk_X8_restore_318 rfl (Nat.le_of_ble_eq_true rfl) (Nat.le_of_ble_eq_true rfl) rfl dX8_restore_25 rfl hf (fun b8 y7 hf => sfX6_ballsTold b8  _ y7 hf) (fun b8 y7 _ _ hf => ?_)
    exact am_iret rfl dX8_restore_28 hf
  refine am_bipush (v := -103) dX8_restore_7 (by decide) rfl ?_
  exact am_iret rfl dX8_restore_9 hf
set_option maxRecDepth 20000 in
set_option maxHeartbeats 4000000 in
theorem sfX9_restore_57 {G : am_G}  : ∀ (n : Nat) (v0 : Option Nat) (v1 : Int32) (h : am_H) (y : Int32 × am_H) (hf : fX9_restore_57  n v0 v1 h = some y), am_S G miX9_restore 57 [some (va_rf v0), some (.int v1)] [] h (some (.int y.1)) y.2 := by
  intro n
  induction n with
  | zero => intro v0 v1 h y hf; cases hf
  | succ n ih =>
    intro v0 v1 h y hf
    have hf : fX9_restore_57_b  (fX9_restore_57  n) v0 v1 h = some y := hf
    unfold fX9_restore_57_b at hf
    refine am_iload_n dX9_restore_57 rfl rfl ?_
    refine am_bipush (v := 12) dX9_restore_58 (by decide) rfl ?_
    refine am_icmp_ge (tgt := 81) dX9_restore_60 (by decide) rfl hf (fun hf => ?_) (fun hf => ?_)
    · refine am_aload_n dX9_restore_81 rfl rfl ?_
      refine am_cVi (As := []) (st := []) lk_X9_restore_363 rfl (Nat.le_of_ble_eq_true rfl) (Nat.le_of_ble_eq_true rfl) rfl dX9_restore_82 rfl hf (fun b2 y1 hf => sfX9_logMany b2  _ y1 hf) (fun b2 y1 _ _ hf => ?_)
      exact am_iret rfl dX9_restore_85 hf
    refine am_aload_n dX9_restore_63 rfl rfl ?_
    refine am_gr_ dX9_restore_64 fl_X9_68 rfl hf (fun x3 _ hf => ?_)
    refine am_iload_n dX9_restore_67 rfl rfl ?_
    refine am_aload_n dX9_restore_68 rfl rfl ?_
    refine am_gr_ dX9_restore_69 fl_X9_81 rfl hf (fun x4 _ hf => ?_)
    refine am_iload_n dX9_restore_72 rfl rfl ?_
    refine am_iald dX9_restore_73 rfl hf (fun x5 _ hf => ?_)
    refine am_iast dX9_restore_74 rfl hf (fun h6 _ hf => ?_)
    refine am_iinc (ls' := [some (va_rf v0), some (.int (v1 + (1 : Int32)))]) dX9_restore_75 rfl rfl (by decide) (am_s1_r (j := 0) rfl rfl) rfl ?_
    refine am_goto (pc' := 57) dX9_restore_78 (by decide) ?_
    exact ih _ _ _ _ hf
set_option maxRecDepth 20000 in
set_option maxHeartbeats 4000000 in
theorem sfX9_restore_20 {G : am_G}  : ∀ (n : Nat) (v0 : Option Nat) (v1 : Int32) (h : am_H) (y : Int32 × am_H) (hf : fX9_restore_20  n v0 v1 h = some y), am_S G miX9_restore 20 [some (va_rf v0), some (.int v1)] [] h (some (.int y.1)) y.2 := by
  intro n
  induction n with
  | zero => intro v0 v1 h y hf; cases hf
  | succ n ih =>
    intro v0 v1 h y hf
    have hf : fX9_restore_20_b  (fX9_restore_20  n) v0 v1 h = some y := hf
    unfold fX9_restore_20_b at hf
    refine am_iload_n dX9_restore_20 rfl rfl ?_
    refine am_iconst (v := 4) dX9_restore_21 rfl rfl ?_
    refine am_icmp_ge (tgt := 55) dX9_restore_22 (by decide) rfl hf (fun hf => ?_) (fun hf => ?_)
    · refine am_iconst (v := 0) dX9_restore_55 rfl rfl ?_
      refine am_istore_n (ls' := [some (va_rf v0), some (.int (0 : Int32))]) dX9_restore_56 (by decide) (am_s1_r (j := 0) rfl rfl) rfl ?_
      exact (sfX9_restore_57 _) _ _ _ _ hf
    refine am_aload_n dX9_restore_25 rfl rfl ?_
    refine am_gr_ dX9_restore_26 fl_X9_37 rfl hf (fun x1 _ hf => ?_)
    refine am_iload_n dX9_restore_29 rfl rfl ?_
    refine am_aload_n dX9_restore_30 rfl rfl ?_
    refine am_gr_ dX9_restore_31 fl_X9_75 rfl hf (fun x2 _ hf => ?_)
    refine am_iload_n dX9_restore_34 rfl rfl ?_
    refine am_iald dX9_restore_35 rfl hf (fun x3 _ hf => ?_)
    refine am_iast dX9_restore_36 rfl hf (fun h4 _ hf => ?_)
    refine am_aload_n dX9_restore_37 rfl rfl ?_
    refine am_gr_ dX9_restore_38 fl_X9_40 rfl hf (fun x5 _ hf => ?_)
    refine am_iload_n dX9_restore_41 rfl rfl ?_
    refine am_aload_n dX9_restore_42 rfl rfl ?_
    refine am_gr_ dX9_restore_43 fl_X9_78 rfl hf (fun x6 _ hf => ?_)
    refine am_iload_n dX9_restore_46 rfl rfl ?_
    refine am_iald dX9_restore_47 rfl hf (fun x7 _ hf => ?_)
    refine am_iast dX9_restore_48 rfl hf (fun h8 _ hf => ?_)
    refine am_iinc (ls' := [some (va_rf v0), some (.int (v1 + (1 : Int32)))]) dX9_restore_49 rfl rfl (by decide) (am_s1_r (j := 0) rfl rfl) rfl ?_
    refine am_goto (pc' := 20) dX9_restore_52 (by decide) ?_
    exact ih _ _ _ _ hf
set_option maxRecDepth 20000 in
set_option maxHeartbeats 4000000 in
theorem sfX9_restore {G : am_G}  (v0 : Nat) (h : am_H) (y : Int32 × am_H) (hf : fX9_restore v0 h = some y) : am_Cn G miX9_restore [va_rf (some v0)] h (some (.int y.1)) y.2 := by
  refine am_beg (ls := [some (va_rf (some v0)), none]) (by simp only [am_en, am_e1_r, am_e1_i, am_e1_l, am_e1_n]; rfl) ?_
  unfold fX9_restore at hf
  refine am_aload_n dX9_restore_0 rfl rfl ?_
  refine am_gi_ dX9_restore_1 fl_X9_357 rfl hf (fun x1 _ hf => ?_)
  refine am_if_ne (tgt := 10) dX9_restore_4 (by decide) rfl hf (fun hf => ?_) (fun hf => ?_)
  · refine am_aload_n dX9_restore_10 rfl rfl ?_
    refine am_aload_n dX9_restore_11 rfl rfl ?_
    refine am_gi_ dX9_restore_12 fl_X9_360 rfl hf (fun x2 _ hf => ?_)
    refine am_pi_ dX9_restore_15 fl_X9_64 fp_9_21 (fun z => by cases z) rfl hf (fun h3 _ hf => ?_)
    refine am_iconst (v := 0) dX9_restore_18 rfl rfl ?_
    refine am_istore_n (ls' := [some (va_rf (some v0)), some (.int (0 : Int32))]) dX9_restore_19 (by decide) (am_s1_r (j := 0) rfl rfl) rfl ?_
    exact (sfX9_restore_20 _) _ _ _ _ hf
  refine am_bipush (v := -103) dX9_restore_7 (by decide) rfl ?_
  exact am_iret rfl dX9_restore_9 hf
set_option maxRecDepth 20000 in
set_option maxHeartbeats 4000000 in
theorem sfX8_count {G : am_G}  (v0 : Nat) (v1 : Int32) (h : am_H) (y : Int32 × am_H) (hf : fX8_count v0 v1 h = some y) : am_Cn G miX8_count [va_rf (some v0), .int v1] h (some (.int y.1)) y.2 := by
  refine am_beg (ls := [some (va_rf (some v0)), some (.int v1)]) (by simp only [am_en, am_e1_r, am_e1_i, am_e1_l, am_e1_n]; rfl) ?_
  unfold fX8_count at hf
  refine am_iload_n dX8_count_0 rfl rfl ?_
  refine am_tsw (d := 76) (l := [(0, 40), (1, 45), (2, 50), (3, 55), (4, 63), (5, 71)]) dX8_count_1 (by decide) (by decide) (by decide) ?_
  refine am_swc hf (fun hf => ?_) (fun hf => ?_)
  · refine am_aload_n dX8_count_40 rfl rfl ?_
    refine am_gi_ dX8_count_41 fl_X8_110 rfl hf (fun x1 _ hf => ?_)
    exact am_iret rfl dX8_count_44 hf
  refine am_swc hf (fun hf => ?_) (fun hf => ?_)
  · refine am_aload_n dX8_count_45 rfl rfl ?_
    refine am_gi_ dX8_count_46 fl_X8_156 rfl hf (fun x2 _ hf => ?_)
    exact am_iret rfl dX8_count_49 hf
  refine am_swc hf (fun hf => ?_) (fun hf => ?_)
  · refine am_aload_n dX8_count_50 rfl rfl ?_
    refine am_gi_ dX8_count_51 fl_X8_183 rfl hf (fun x3 _ hf => ?_)
    exact am_iret rfl dX8_count_54 hf
  refine am_swc hf (fun hf => ?_) (fun hf => ?_)
  · refine am_aload_n dX8_count_55 rfl rfl ?_
    refine am_gr_ dX8_count_56 fl_X8_30 rfl hf (fun x4 _ hf => ?_)
    refine am_gi_ dX8_count_59 fl_X8_91 rfl hf (fun x5 _ hf => ?_)
    exact am_iret rfl dX8_count_62 hf
  refine am_swc hf (fun hf => ?_) (fun hf => ?_)
  · refine am_aload_n dX8_count_63 rfl rfl ?_
    refine am_gr_ dX8_count_64 fl_X8_37 rfl hf (fun x6 _ hf => ?_)
    refine am_cVi (As := []) (st := []) lk_X8_count_318 rfl (Nat.le_of_ble_eq_true rfl) (Nat.le_of_ble_eq_true rfl) rfl dX8_count_67 rfl hf (fun b8 y7 hf => sfX6_ballsTold b8  _ y7 hf) (fun b8 y7 _ _ hf => ?_)
    exact am_iret rfl dX8_count_70 hf
  refine am_swc hf (fun hf => ?_) (fun hf => ?_)
  · refine am_aload_n dX8_count_71 rfl rfl ?_
    refine am_gi_ dX8_count_72 fl_X8_282 rfl hf (fun x9 _ hf => ?_)
    exact am_iret rfl dX8_count_75 hf
  show am_S _ _ 76 _ _ _ _ _
  refine am_bipush (v := -102) dX8_count_76 (by decide) rfl ?_
  exact am_iret rfl dX8_count_78 hf
set_option maxRecDepth 20000 in
set_option maxHeartbeats 4000000 in
theorem sfX9_howMany {G : am_G}  (v0 : Nat) (v1 : Int32) (h : am_H) (y : Int32 × am_H) (hf : fX9_howMany v0 v1 h = some y) : am_Cn G miX9_howMany [va_rf (some v0), .int v1] h (some (.int y.1)) y.2 := by
  refine am_beg (ls := [some (va_rf (some v0)), some (.int v1)]) (by simp only [am_en, am_e1_r, am_e1_i, am_e1_l, am_e1_n]; rfl) ?_
  unfold fX9_howMany at hf
  refine am_iload_n dX9_howMany_0 rfl rfl ?_
  refine am_tsw (d := 70) (l := [(0, 40), (1, 45), (2, 50), (3, 55), (4, 60), (5, 65)]) dX9_howMany_1 (by decide) (by decide) (by decide) ?_
  refine am_swc hf (fun hf => ?_) (fun hf => ?_)
  · refine am_aload_n dX9_howMany_40 rfl rfl ?_
    refine am_gi_ dX9_howMany_41 fl_X9_188 rfl hf (fun x1 _ hf => ?_)
    exact am_iret rfl dX9_howMany_44 hf
  refine am_swc hf (fun hf => ?_) (fun hf => ?_)
  · refine am_aload_n dX9_howMany_45 rfl rfl ?_
    refine am_gi_ dX9_howMany_46 fl_X9_191 rfl hf (fun x2 _ hf => ?_)
    exact am_iret rfl dX9_howMany_49 hf
  refine am_swc hf (fun hf => ?_) (fun hf => ?_)
  · refine am_aload_n dX9_howMany_50 rfl rfl ?_
    refine am_gi_ dX9_howMany_51 fl_X9_209 rfl hf (fun x3 _ hf => ?_)
    exact am_iret rfl dX9_howMany_54 hf
  refine am_swc hf (fun hf => ?_) (fun hf => ?_)
  · refine am_aload_n dX9_howMany_55 rfl rfl ?_
    refine am_gi_ dX9_howMany_56 fl_X9_129 rfl hf (fun x4 _ hf => ?_)
    exact am_iret rfl dX9_howMany_59 hf
  refine am_swc hf (fun hf => ?_) (fun hf => ?_)
  · refine am_aload_n dX9_howMany_60 rfl rfl ?_
    refine am_cVi (As := []) (st := []) lk_X9_howMany_363 rfl (Nat.le_of_ble_eq_true rfl) (Nat.le_of_ble_eq_true rfl) rfl dX9_howMany_61 rfl hf (fun b6 y5 hf => sfX9_logMany b6  _ y5 hf) (fun b6 y5 _ _ hf => ?_)
    exact am_iret rfl dX9_howMany_64 hf
  refine am_swc hf (fun hf => ?_) (fun hf => ?_)
  · refine am_aload_n dX9_howMany_65 rfl rfl ?_
    refine am_gi_ dX9_howMany_66 fl_X9_341 rfl hf (fun x7 _ hf => ?_)
    exact am_iret rfl dX9_howMany_69 hf
  show am_S _ _ 70 _ _ _ _ _
  refine am_bipush (v := -102) dX9_howMany_70 (by decide) rfl ?_
  exact am_iret rfl dX9_howMany_72 hf
set_option maxRecDepth 20000 in
set_option maxHeartbeats 4000000 in
theorem sfX9_count {G : am_G}  (v0 : Nat) (v1 : Int32) (h : am_H) (y : Int32 × am_H) (hf : fX9_count v0 v1 h = some y) : am_Cn G miX9_count [va_rf (some v0), .int v1] h (some (.int y.1)) y.2 := by
  refine am_beg (ls := [some (va_rf (some v0)), some (.int v1)]) (by simp only [am_en, am_e1_r, am_e1_i, am_e1_l, am_e1_n]; rfl) ?_
  unfold fX9_count at hf
  refine am_aload_n dX9_count_0 rfl rfl ?_
  refine am_iload_n dX9_count_1 rfl rfl ?_
  refine am_cVi (As := [.int v1]) (st := []) lk_X9_count_366 rfl (Nat.le_of_ble_eq_true rfl) (Nat.le_of_ble_eq_true rfl) rfl dX9_count_2 rfl hf (fun b2 y1 hf => sfX9_howMany b2 _ _ y1 hf) (fun b2 y1 _ _ hf => ?_)
  exact am_iret rfl dX9_count_5 hf
set_option maxRecDepth 20000 in
set_option maxHeartbeats 4000000 in
theorem sfX8_mixed {G : am_G}  (v0 : Int64) (v2 : Int64) (h : am_H) (y : Int64 × am_H) (hf : fX8_mixed v0 v2 h = some y) : am_Cn G miX8_mixed [.long v0, .long v2] h (some (.long y.1)) y.2 := by
  refine am_beg (ls := [some (.long v0), none, some (.long v2), none]) (by simp only [am_en, am_e1_r, am_e1_i, am_e1_l, am_e1_n]; rfl) ?_
  unfold fX8_mixed at hf
  refine am_ldc2 (v := 31) dX8_mixed_0 cl_X8_345 rfl ?_
  refine am_lload_n dX8_mixed_3 rfl rfl ?_
  refine am_lmul dX8_mixed_4 rfl ?_
  refine am_lload_n dX8_mixed_5 rfl rfl ?_
  refine am_ladd dX8_mixed_6 rfl ?_
  exact am_lret rfl dX8_mixed_7 hf
set_option maxRecDepth 20000 in
set_option maxHeartbeats 4000000 in
theorem sfX8_mixedClock_171 {G : am_G}  : ∀ (n : Nat) (v0 : Option Nat) (v1 : Int64) (v5 : Int32) (h : am_H) (y : Int64 × am_H) (hf : fX8_mixedClock_171  n v0 v1 v5 h = some y), am_S G miX8_mixedClock 171 [some (va_rf v0), some (.long v1), none, none, none, some (.int v5), none] [] h (some (.long y.1)) y.2 := by
  intro n
  induction n with
  | zero => intro v0 v1 v5 h y hf; cases hf
  | succ n ih =>
    intro v0 v1 v5 h y hf
    have hf : fX8_mixedClock_171_b  (fX8_mixedClock_171  n) v0 v1 v5 h = some y := hf
    unfold fX8_mixedClock_171_b at hf
    refine am_iload dX8_mixedClock_171 rfl rfl ?_
    refine am_iconst (v := 3) dX8_mixedClock_173 rfl rfl ?_
    refine am_icmp_gt (tgt := 198) dX8_mixedClock_174 (by decide) rfl hf (fun hf => ?_) (fun hf => ?_)
    · refine am_lload_n dX8_mixedClock_198 rfl rfl ?_
      exact am_lret rfl dX8_mixedClock_199 hf
    refine am_lload_n dX8_mixedClock_177 rfl rfl ?_
    refine am_aload_n dX8_mixedClock_178 rfl rfl ?_
    refine am_gr_ dX8_mixedClock_179 fl_X8_72 rfl hf (fun x1 _ hf => ?_)
    refine am_iload dX8_mixedClock_182 rfl rfl ?_
    refine am_cVi (As := [.int v5]) (st := [.long v1]) lk_X8_mixedClock_244 rfl (Nat.le_of_ble_eq_true rfl) (Nat.le_of_ble_eq_true rfl) rfl dX8_mixedClock_184 rfl hf (fun b3 y2 hf => sfX4_measure b3 _ _ y2 hf) (fun b3 y2 _ _ hf => ?_)
    refine am_i2l dX8_mixedClock_187 rfl ?_
    refine am_cSl (As := [.long v1, .long (Int32.toInt64 y2.1)]) (st := []) lk_X8_mixedClock_323 rfl (Nat.le_of_ble_eq_true rfl) (Nat.le_of_ble_eq_true rfl) rfl dX8_mixedClock_188 rfl hf (fun y4 hf => sfX8_mixed _ _ _ y4 hf) (fun y4 _ hf => ?_)
    refine am_lstore_n (ls' := [some (va_rf v0), some (.long y4.1), none, none, none, some (.int v5), none]) dX8_mixedClock_191 (by decide) (am_s2_r (j := 0) rfl rfl) rfl ?_
    refine am_iinc (ls' := [some (va_rf v0), some (.long y4.1), none, none, none, some (.int (v5 + (1 : Int32))), none]) dX8_mixedClock_192 rfl rfl (by decide) rfl rfl ?_
    refine am_goto (pc' := 171) dX8_mixedClock_195 (by decide) ?_
    exact ih _ _ _ _ _ hf
set_option maxRecDepth 20000 in
set_option maxHeartbeats 4000000 in
theorem sfX8_mixedClock_137 {G : am_G}  : ∀ (n : Nat) (v0 : Option Nat) (v1 : Int64) (v4 : Option Nat) (v5 : Int32) (h : am_H) (y : Int64 × am_H) (hf : fX8_mixedClock_137  n v0 v1 v4 v5 h = some y), am_S G miX8_mixedClock 137 [some (va_rf v0), some (.long v1), none, none, some (va_rf v4), some (.int v5), none] [] h (some (.long y.1)) y.2 := by
  intro n
  induction n with
  | zero => intro v0 v1 v4 v5 h y hf; cases hf
  | succ n ih =>
    intro v0 v1 v4 v5 h y hf
    have hf : fX8_mixedClock_137_b  (fX8_mixedClock_137  n) v0 v1 v4 v5 h = some y := hf
    unfold fX8_mixedClock_137_b at hf
    refine am_iload dX8_mixedClock_137 rfl rfl ?_
    refine am_aload dX8_mixedClock_139 rfl rfl ?_
    refine am_gi_ dX8_mixedClock_141 fl_X8_229 rfl hf (fun x1 _ hf => ?_)
    refine am_icmp_ge (tgt := 168) dX8_mixedClock_144 (by decide) rfl hf (fun hf => ?_) (fun hf => ?_)
    · refine am_iconst (v := 0) dX8_mixedClock_168 rfl rfl ?_
      refine am_istore (ls' := [some (va_rf v0), some (.long v1), none, none, some (va_rf v4), some (.int (0 : Int32)), none]) dX8_mixedClock_169 (by decide) (am_s1_r (j := 4) rfl rfl) rfl ?_
      exact am_we ((sfX8_mixedClock_171 _) _ _ _ _ _ hf) ⟨Or.inr rfl, Or.inr rfl, Or.inl rfl, Or.inl rfl, Or.inl rfl, Or.inr rfl, Or.inl rfl, trivial⟩
    refine am_lload_n dX8_mixedClock_147 rfl rfl ?_
    refine am_aload_n dX8_mixedClock_148 rfl rfl ?_
    refine am_gr_ dX8_mixedClock_149 fl_X8_62 rfl hf (fun x2 _ hf => ?_)
    refine am_iload dX8_mixedClock_152 rfl rfl ?_
    refine am_cVi (As := [.int v5]) (st := [.long v1]) lk_X8_mixedClock_213 rfl (Nat.le_of_ble_eq_true rfl) (Nat.le_of_ble_eq_true rfl) rfl dX8_mixedClock_154 rfl hf (fun b4 y3 hf => sfX5_tickOf b4 _ _ y3 hf) (fun b4 y3 _ _ hf => ?_)
    refine am_i2l dX8_mixedClock_157 rfl ?_
    refine am_cSl (As := [.long v1, .long (Int32.toInt64 y3.1)]) (st := []) lk_X8_mixedClock_323 rfl (Nat.le_of_ble_eq_true rfl) (Nat.le_of_ble_eq_true rfl) rfl dX8_mixedClock_158 rfl hf (fun y5 hf => sfX8_mixed _ _ _ y5 hf) (fun y5 _ hf => ?_)
    refine am_lstore_n (ls' := [some (va_rf v0), some (.long y5.1), none, none, some (va_rf v4), some (.int v5), none]) dX8_mixedClock_161 (by decide) (am_s2_r (j := 0) rfl rfl) rfl ?_
    refine am_iinc (ls' := [some (va_rf v0), some (.long y5.1), none, none, some (va_rf v4), some (.int (v5 + (1 : Int32))), none]) dX8_mixedClock_162 rfl rfl (by decide) (am_s1_r (j := 4) rfl rfl) rfl ?_
    refine am_goto (pc' := 137) dX8_mixedClock_165 (by decide) ?_
    exact ih _ _ _ _ _ _ hf
set_option maxRecDepth 20000 in
set_option maxHeartbeats 4000000 in
theorem sfX8_mixedClock_101 {G : am_G}  : ∀ (n : Nat) (v0 : Option Nat) (v1 : Int64) (v4 : Option Nat) (v5 : Int32) (h : am_H) (y : Int64 × am_H) (hf : fX8_mixedClock_101  n v0 v1 v4 v5 h = some y), am_S G miX8_mixedClock 101 [some (va_rf v0), some (.long v1), none, none, some (va_rf v4), some (.int v5), none] [] h (some (.long y.1)) y.2 := by
  intro n
  induction n with
  | zero => intro v0 v1 v4 v5 h y hf; cases hf
  | succ n ih =>
    intro v0 v1 v4 v5 h y hf
    have hf : fX8_mixedClock_101_b  (fX8_mixedClock_101  n) v0 v1 v4 v5 h = some y := hf
    unfold fX8_mixedClock_101_b at hf
    refine am_iload dX8_mixedClock_101 rfl rfl ?_
    refine am_aload dX8_mixedClock_103 rfl rfl ?_
    refine am_gi_ dX8_mixedClock_105 fl_X8_229 rfl hf (fun x1 _ hf => ?_)
    refine am_icmp_ge (tgt := 130) dX8_mixedClock_108 (by decide) rfl hf (fun hf => ?_) (fun hf => ?_)
    · refine am_aload_n dX8_mixedClock_130 rfl rfl ?_
      refine am_cVv (As := []) (st := []) lk_X8_mixedClock_241 rfl (Nat.le_of_ble_eq_true rfl) (Nat.le_of_ble_eq_true rfl) rfl dX8_mixedClock_131 rfl hf (fun b3 y2 hf => sfX8_playRun b3  _ y2 hf) (fun b3 y2 _ _ hf => ?_)
      refine am_iconst (v := 0) dX8_mixedClock_134 rfl rfl ?_
      refine am_istore (ls' := [some (va_rf v0), some (.long v1), none, none, some (va_rf v4), some (.int (0 : Int32)), none]) dX8_mixedClock_135 (by decide) (am_s1_r (j := 4) rfl rfl) rfl ?_
      exact (sfX8_mixedClock_137 _) _ _ _ _ _ _ hf
    refine am_lload_n dX8_mixedClock_111 rfl rfl ?_
    refine am_aload dX8_mixedClock_112 rfl rfl ?_
    refine am_iload dX8_mixedClock_114 rfl rfl ?_
    refine am_cVi (As := [.int v5]) (st := [.long v1]) lk_X8_mixedClock_129 rfl (Nat.le_of_ble_eq_true rfl) (Nat.le_of_ble_eq_true rfl) rfl dX8_mixedClock_116 rfl hf (fun b5 y4 hf => sfX0_markOf b5 _ _ y4 hf) (fun b5 y4 _ _ hf => ?_)
    refine am_i2l dX8_mixedClock_119 rfl ?_
    refine am_cSl (As := [.long v1, .long (Int32.toInt64 y4.1)]) (st := []) lk_X8_mixedClock_323 rfl (Nat.le_of_ble_eq_true rfl) (Nat.le_of_ble_eq_true rfl) rfl dX8_mixedClock_120 rfl hf (fun y6 hf => sfX8_mixed _ _ _ y6 hf) (fun y6 _ hf => ?_)
    refine am_lstore_n (ls' := [some (va_rf v0), some (.long y6.1), none, none, some (va_rf v4), some (.int v5), none]) dX8_mixedClock_123 (by decide) (am_s2_r (j := 0) rfl rfl) rfl ?_
    refine am_iinc (ls' := [some (va_rf v0), some (.long y6.1), none, none, some (va_rf v4), some (.int (v5 + (1 : Int32))), none]) dX8_mixedClock_124 rfl rfl (by decide) (am_s1_r (j := 4) rfl rfl) rfl ?_
    refine am_goto (pc' := 101) dX8_mixedClock_127 (by decide) ?_
    exact ih _ _ _ _ _ _ hf
set_option maxRecDepth 20000 in
set_option maxHeartbeats 4000000 in
theorem sfX8_mixedClock_65 {G : am_G}  {k52 : Option Nat → Int64 → Option Nat → Int32 → am_H → Option (Int64 × am_H)} (hk52 : ∀ (v0 : Option Nat) (v1 : Int64) (v4 : Option Nat) (v5 : Int32) (h : am_H) (y : Int64 × am_H), k52 v0 v1 v4 v5 h = some y → am_S G miX8_mixedClock 52 [some (va_rf v0), some (.long v1), none, none, some (va_rf v4), some (.int v5), none] [] h (some (.long y.1)) y.2) : ∀ (n : Nat) (v0 : Option Nat) (v1 : Int64) (v4 : Option Nat) (v5 : Int32) (v6 : Int32) (h : am_H) (y : Int64 × am_H) (hf : fX8_mixedClock_65 k52 n v0 v1 v4 v5 v6 h = some y), am_S G miX8_mixedClock 65 [some (va_rf v0), some (.long v1), none, none, some (va_rf v4), some (.int v5), some (.int v6)] [] h (some (.long y.1)) y.2 := by
  intro n
  induction n with
  | zero => intro v0 v1 v4 v5 v6 h y hf; cases hf
  | succ n ih =>
    intro v0 v1 v4 v5 v6 h y hf
    have hf : fX8_mixedClock_65_b k52 (fX8_mixedClock_65 k52 n) v0 v1 v4 v5 v6 h = some y := hf
    unfold fX8_mixedClock_65_b at hf
    refine am_iload dX8_mixedClock_65 rfl rfl ?_
    refine am_iconst (v := 2) dX8_mixedClock_67 rfl rfl ?_
    refine am_icmp_gt (tgt := 92) dX8_mixedClock_68 (by decide) rfl hf (fun hf => ?_) (fun hf => ?_)
    · refine am_iinc (ls' := [some (va_rf v0), some (.long v1), none, none, some (va_rf v4), some (.int (v5 + (1 : Int32))), some (.int v6)]) dX8_mixedClock_92 rfl rfl (by decide) (am_s1_r (j := 4) rfl rfl) rfl ?_
      refine am_goto (pc' := 52) dX8_mixedClock_95 (by decide) ?_
      exact am_we (hk52 _ _ _ _ _ _ hf) ⟨Or.inr rfl, Or.inr rfl, Or.inl rfl, Or.inl rfl, Or.inr rfl, Or.inr rfl, Or.inl rfl, trivial⟩
    refine am_lload_n dX8_mixedClock_71 rfl rfl ?_
    refine am_aload dX8_mixedClock_72 rfl rfl ?_
    refine am_iload dX8_mixedClock_74 rfl rfl ?_
    refine am_iload dX8_mixedClock_76 rfl rfl ?_
    refine am_cVi (As := [.int v5, .int v6]) (st := [.long v1]) lk_X8_mixedClock_132 rfl (Nat.le_of_ble_eq_true rfl) (Nat.le_of_ble_eq_true rfl) rfl dX8_mixedClock_78 rfl hf (fun b2 y1 hf => sfX0_vesselMeasure b2 _ _ _ y1 hf) (fun b2 y1 _ _ hf => ?_)
    refine am_i2l dX8_mixedClock_81 rfl ?_
    refine am_cSl (As := [.long v1, .long (Int32.toInt64 y1.1)]) (st := []) lk_X8_mixedClock_323 rfl (Nat.le_of_ble_eq_true rfl) (Nat.le_of_ble_eq_true rfl) rfl dX8_mixedClock_82 rfl hf (fun y3 hf => sfX8_mixed _ _ _ y3 hf) (fun y3 _ hf => ?_)
    refine am_lstore_n (ls' := [some (va_rf v0), some (.long y3.1), none, none, some (va_rf v4), some (.int v5), some (.int v6)]) dX8_mixedClock_85 (by decide) (am_s2_r (j := 0) rfl rfl) rfl ?_
    refine am_iinc (ls' := [some (va_rf v0), some (.long y3.1), none, none, some (va_rf v4), some (.int v5), some (.int (v6 + (1 : Int32)))]) dX8_mixedClock_86 rfl rfl (by decide) rfl rfl ?_
    refine am_goto (pc' := 65) dX8_mixedClock_89 (by decide) ?_
    exact ih _ _ _ _ _ _ _ hf
set_option maxRecDepth 20000 in
set_option maxHeartbeats 4000000 in
theorem sfX8_mixedClock_52 {G : am_G}  : ∀ (n : Nat) (v0 : Option Nat) (v1 : Int64) (v4 : Option Nat) (v5 : Int32) (h : am_H) (y : Int64 × am_H) (hf : fX8_mixedClock_52  n v0 v1 v4 v5 h = some y), am_S G miX8_mixedClock 52 [some (va_rf v0), some (.long v1), none, none, some (va_rf v4), some (.int v5), none] [] h (some (.long y.1)) y.2 := by
  intro n
  induction n with
  | zero => intro v0 v1 v4 v5 h y hf; cases hf
  | succ n ih =>
    intro v0 v1 v4 v5 h y hf
    have hf : fX8_mixedClock_52_b  (fX8_mixedClock_52  n) v0 v1 v4 v5 h = some y := hf
    unfold fX8_mixedClock_52_b at hf
    refine am_iload dX8_mixedClock_52 rfl rfl ?_
    refine am_aload dX8_mixedClock_54 rfl rfl ?_
    refine am_gi_ dX8_mixedClock_56 fl_X8_347 rfl hf (fun x1 _ hf => ?_)
    refine am_icmp_ge (tgt := 98) dX8_mixedClock_59 (by decide) rfl hf (fun hf => ?_) (fun hf => ?_)
    · refine am_iconst (v := 0) dX8_mixedClock_98 rfl rfl ?_
      refine am_istore (ls' := [some (va_rf v0), some (.long v1), none, none, some (va_rf v4), some (.int (0 : Int32)), none]) dX8_mixedClock_99 (by decide) (am_s1_r (j := 4) rfl rfl) rfl ?_
      exact (sfX8_mixedClock_101 _) _ _ _ _ _ _ hf
    refine am_iconst (v := 0) dX8_mixedClock_62 rfl rfl ?_
    refine am_istore (ls' := [some (va_rf v0), some (.long v1), none, none, some (va_rf v4), some (.int v5), some (.int (0 : Int32))]) dX8_mixedClock_63 (by decide) rfl rfl ?_
    exact (sfX8_mixedClock_65 ih _) _ _ _ _ _ _ _ hf
set_option maxRecDepth 20000 in
set_option maxHeartbeats 4000000 in
theorem sfX8_mixedClock_24 {G : am_G}  : ∀ (n : Nat) (v0 : Option Nat) (v1 : Int64) (v4 : Option Nat) (v5 : Int32) (h : am_H) (y : Int64 × am_H) (hf : fX8_mixedClock_24  n v0 v1 v4 v5 h = some y), am_S G miX8_mixedClock 24 [some (va_rf v0), some (.long v1), none, none, some (va_rf v4), some (.int v5), none] [] h (some (.long y.1)) y.2 := by
  intro n
  induction n with
  | zero => intro v0 v1 v4 v5 h y hf; cases hf
  | succ n ih =>
    intro v0 v1 v4 v5 h y hf
    have hf : fX8_mixedClock_24_b  (fX8_mixedClock_24  n) v0 v1 v4 v5 h = some y := hf
    unfold fX8_mixedClock_24_b at hf
    refine am_iload dX8_mixedClock_24 rfl rfl ?_
    refine am_iconst (v := 4) dX8_mixedClock_26 rfl rfl ?_
    refine am_icmp_gt (tgt := 49) dX8_mixedClock_27 (by decide) rfl hf (fun hf => ?_) (fun hf => ?_)
    · refine am_iconst (v := 0) dX8_mixedClock_49 rfl rfl ?_
      refine am_istore (ls' := [some (va_rf v0), some (.long v1), none, none, some (va_rf v4), some (.int (0 : Int32)), none]) dX8_mixedClock_50 (by decide) (am_s1_r (j := 4) rfl rfl) rfl ?_
      exact (sfX8_mixedClock_52 _) _ _ _ _ _ _ hf
    refine am_lload_n dX8_mixedClock_30 rfl rfl ?_
    refine am_aload dX8_mixedClock_31 rfl rfl ?_
    refine am_iload dX8_mixedClock_33 rfl rfl ?_
    refine am_cVi (As := [.int v5]) (st := [.long v1]) lk_X8_mixedClock_125 rfl (Nat.le_of_ble_eq_true rfl) (Nat.le_of_ble_eq_true rfl) rfl dX8_mixedClock_35 rfl hf (fun b2 y1 hf => sfX0_measure b2 _ _ y1 hf) (fun b2 y1 _ _ hf => ?_)
    refine am_i2l dX8_mixedClock_38 rfl ?_
    refine am_cSl (As := [.long v1, .long (Int32.toInt64 y1.1)]) (st := []) lk_X8_mixedClock_323 rfl (Nat.le_of_ble_eq_true rfl) (Nat.le_of_ble_eq_true rfl) rfl dX8_mixedClock_39 rfl hf (fun y3 hf => sfX8_mixed _ _ _ y3 hf) (fun y3 _ hf => ?_)
    refine am_lstore_n (ls' := [some (va_rf v0), some (.long y3.1), none, none, some (va_rf v4), some (.int v5), none]) dX8_mixedClock_42 (by decide) (am_s2_r (j := 0) rfl rfl) rfl ?_
    refine am_iinc (ls' := [some (va_rf v0), some (.long y3.1), none, none, some (va_rf v4), some (.int (v5 + (1 : Int32))), none]) dX8_mixedClock_43 rfl rfl (by decide) (am_s1_r (j := 4) rfl rfl) rfl ?_
    refine am_goto (pc' := 24) dX8_mixedClock_46 (by decide) ?_
    exact ih _ _ _ _ _ _ hf
set_option maxRecDepth 20000 in
set_option maxHeartbeats 4000000 in
theorem sfX8_mixedClock {G : am_G}  (v0 : Nat) (v1 : Int64) (v3 : Int32) (h : am_H) (y : Int64 × am_H) (hf : fX8_mixedClock v0 v1 v3 h = some y) : am_Cn G miX8_mixedClock [va_rf (some v0), .long v1, .int v3] h (some (.long y.1)) y.2 := by
  refine am_beg (ls := [some (va_rf (some v0)), some (.long v1), none, some (.int v3), none, none, none]) (by simp only [am_en, am_e1_r, am_e1_i, am_e1_l, am_e1_n]; rfl) ?_
  unfold fX8_mixedClock at hf
  refine am_aload_n dX8_mixedClock_0 rfl rfl ?_
  refine am_iload_n dX8_mixedClock_1 rfl rfl ?_
  refine am_iconst (v := 0) dX8_mixedClock_2 rfl rfl ?_
  refine am_iconst (v := -1) dX8_mixedClock_3 rfl rfl ?_
  refine am_cVi (As := [.int v3, .int (0 : Int32), .int (-1 : Int32)]) (st := []) lk_X8_mixedClock_200 rfl (Nat.le_of_ble_eq_true rfl) (Nat.le_of_ble_eq_true rfl) rfl dX8_mixedClock_4 rfl hf (fun b2 y1 hf => sfX8_startRun b2 _ _ _ _ y1 hf) (fun b2 y1 _ _ hf => ?_)
  refine am_if_ne (tgt := 12) dX8_mixedClock_7 (by decide) rfl hf (fun hf => ?_) (fun hf => ?_)
  · refine am_aload_n dX8_mixedClock_12 rfl rfl ?_
    refine am_gr_ dX8_mixedClock_13 fl_X8_62 rfl hf (fun x3 _ hf => ?_)
    refine am_gr_ dX8_mixedClock_16 fl_X8_203 rfl hf (fun x4 _ hf => ?_)
    refine am_astore (ls' := [some (va_rf (some v0)), some (.long v1), none, some (.int v3), some (va_rf x4), none, none]) dX8_mixedClock_19 (by decide) rfl rfl ?_
    refine am_iconst (v := 0) dX8_mixedClock_21 rfl rfl ?_
    refine am_istore (ls' := [some (va_rf (some v0)), some (.long v1), none, some (.int v3), some (va_rf x4), some (.int (0 : Int32)), none]) dX8_mixedClock_22 (by decide) (am_s1_r (j := 4) rfl rfl) rfl ?_
    exact am_we ((sfX8_mixedClock_24 _) _ _ _ _ _ _ hf) ⟨Or.inr rfl, Or.inr rfl, Or.inl rfl, Or.inl rfl, Or.inr rfl, Or.inr rfl, Or.inl rfl, trivial⟩
  refine am_lload_n dX8_mixedClock_10 rfl rfl ?_
  exact am_lret rfl dX8_mixedClock_11 hf
set_option maxRecDepth 20000 in
set_option maxHeartbeats 4000000 in
theorem sfX8_mixedFault {G : am_G}  (v0 : Int64) (v2 : Option Nat) (h : am_H) (y : Int64 × am_H) (hf : fX8_mixedFault v0 v2 h = some y) : am_Cn G miX8_mixedFault [.long v0, va_rf v2] h (some (.long y.1)) y.2 := by
  refine am_beg (ls := [some (.long v0), none, some (va_rf v2)]) (by simp only [am_en, am_e1_r, am_e1_i, am_e1_l, am_e1_n]; rfl) ?_
  unfold fX8_mixedFault at hf
  refine am_aload_n dX8_mixedFault_0 rfl rfl ?_
  refine am_ifnonnull (tgt := 6) dX8_mixedFault_1 (by decide) rfl hf (fun hf => ?_) (fun hf => ?_)
  · refine am_lload_n dX8_mixedFault_6 rfl rfl ?_
    refine am_aload_n dX8_mixedFault_7 rfl rfl ?_
    refine am_gi_ dX8_mixedFault_8 fl_X8_167 rfl hf (fun x1 _ hf => ?_)
    refine am_i2l dX8_mixedFault_11 rfl ?_
    refine am_cSl (As := [.long v0, .long (Int32.toInt64 x1)]) (st := []) lk_X8_mixedFault_323 rfl (Nat.le_of_ble_eq_true rfl) (Nat.le_of_ble_eq_true rfl) rfl dX8_mixedFault_12 rfl hf (fun y2 hf => sfX8_mixed _ _ _ y2 hf) (fun y2 _ hf => ?_)
    refine am_aload_n dX8_mixedFault_15 rfl rfl ?_
    refine am_gi_ dX8_mixedFault_16 fl_X8_350 rfl hf (fun x3 _ hf => ?_)
    refine am_i2l dX8_mixedFault_19 rfl ?_
    refine am_cSl (As := [.long y2.1, .long (Int32.toInt64 x3)]) (st := []) lk_X8_mixedFault_323 rfl (Nat.le_of_ble_eq_true rfl) (Nat.le_of_ble_eq_true rfl) rfl dX8_mixedFault_20 rfl hf (fun y4 hf => sfX8_mixed _ _ _ y4 hf) (fun y4 _ hf => ?_)
    refine am_aload_n dX8_mixedFault_23 rfl rfl ?_
    refine am_gi_ dX8_mixedFault_24 fl_X8_353 rfl hf (fun x5 _ hf => ?_)
    refine am_i2l dX8_mixedFault_27 rfl ?_
    refine am_cSl (As := [.long y4.1, .long (Int32.toInt64 x5)]) (st := []) lk_X8_mixedFault_323 rfl (Nat.le_of_ble_eq_true rfl) (Nat.le_of_ble_eq_true rfl) rfl dX8_mixedFault_28 rfl hf (fun y6 hf => sfX8_mixed _ _ _ y6 hf) (fun y6 _ hf => ?_)
    refine am_aload_n dX8_mixedFault_31 rfl rfl ?_
    refine am_gi_ dX8_mixedFault_32 fl_X8_356 rfl hf (fun x7 _ hf => ?_)
    refine am_i2l dX8_mixedFault_35 rfl ?_
    refine am_cSl (As := [.long y6.1, .long (Int32.toInt64 x7)]) (st := []) lk_X8_mixedFault_323 rfl (Nat.le_of_ble_eq_true rfl) (Nat.le_of_ble_eq_true rfl) rfl dX8_mixedFault_36 rfl hf (fun y8 hf => sfX8_mixed _ _ _ y8 hf) (fun y8 _ hf => ?_)
    exact am_lret rfl dX8_mixedFault_39 hf
  refine am_lload_n dX8_mixedFault_4 rfl rfl ?_
  exact am_lret rfl dX8_mixedFault_5 hf
set_option maxRecDepth 20000 in
set_option maxHeartbeats 4000000 in
theorem sfX8_mixedWork_44 {G : am_G}  (s0 : Int64) (s1 : Int64) (h : am_H) (y : Int64 × am_H) (hf : fX8_mixedWork_44  s0 s1 h = some y) : am_S G miX8_mixedWork 44 [none, none, none] [.long s1, .long s0] h (some (.long y.1)) y.2 := by
  unfold fX8_mixedWork_44 at hf
  refine am_cSl (As := [.long s0, .long s1]) (st := []) lk_X8_mixedWork_323 rfl (Nat.le_of_ble_eq_true rfl) (Nat.le_of_ble_eq_true rfl) rfl dX8_mixedWork_44 rfl hf (fun y1 hf => sfX8_mixed _ _ _ y1 hf) (fun y1 _ hf => ?_)
  exact am_lret rfl dX8_mixedWork_47 hf
set_option maxRecDepth 20000 in
set_option maxHeartbeats 4000000 in
theorem sfX8_mixedWork {G : am_G}  (v0 : Int64) (v2 : Option Nat) (h : am_H) (y : Int64 × am_H) (hf : fX8_mixedWork v0 v2 h = some y) : am_Cn G miX8_mixedWork [.long v0, va_rf v2] h (some (.long y.1)) y.2 := by
  refine am_beg (ls := [some (.long v0), none, some (va_rf v2)]) (by simp only [am_en, am_e1_r, am_e1_i, am_e1_l, am_e1_n]; rfl) ?_
  unfold fX8_mixedWork at hf
  refine am_aload_n dX8_mixedWork_0 rfl rfl ?_
  refine am_ifnonnull (tgt := 6) dX8_mixedWork_1 (by decide) rfl hf (fun hf => ?_) (fun hf => ?_)
  · refine am_lload_n dX8_mixedWork_6 rfl rfl ?_
    refine am_aload_n dX8_mixedWork_7 rfl rfl ?_
    refine am_gi_ dX8_mixedWork_8 fl_X8_193 rfl hf (fun x1 _ hf => ?_)
    refine am_i2l dX8_mixedWork_11 rfl ?_
    refine am_cSl (As := [.long v0, .long (Int32.toInt64 x1)]) (st := []) lk_X8_mixedWork_323 rfl (Nat.le_of_ble_eq_true rfl) (Nat.le_of_ble_eq_true rfl) rfl dX8_mixedWork_12 rfl hf (fun y2 hf => sfX8_mixed _ _ _ y2 hf) (fun y2 _ hf => ?_)
    refine am_aload_n dX8_mixedWork_15 rfl rfl ?_
    refine am_gi_ dX8_mixedWork_16 fl_X8_359 rfl hf (fun x3 _ hf => ?_)
    refine am_i2l dX8_mixedWork_19 rfl ?_
    refine am_cSl (As := [.long y2.1, .long (Int32.toInt64 x3)]) (st := []) lk_X8_mixedWork_323 rfl (Nat.le_of_ble_eq_true rfl) (Nat.le_of_ble_eq_true rfl) rfl dX8_mixedWork_20 rfl hf (fun y4 hf => sfX8_mixed _ _ _ y4 hf) (fun y4 _ hf => ?_)
    refine am_aload_n dX8_mixedWork_23 rfl rfl ?_
    refine am_gr_ dX8_mixedWork_24 fl_X8_360 rfl hf (fun x5 _ hf => ?_)
    refine am_ifnonnull (tgt := 36) dX8_mixedWork_27 (by decide) rfl hf (fun hf => ?_) (fun hf => ?_)
    · refine am_aload_n dX8_mixedWork_36 rfl rfl ?_
      refine am_gr_ dX8_mixedWork_37 fl_X8_360 rfl hf (fun x6 _ hf => ?_)
      refine am_gi_ dX8_mixedWork_40 fl_X8_366 rfl hf (fun x7 _ hf => ?_)
      refine am_i2l dX8_mixedWork_43 rfl ?_
      exact am_we (sfX8_mixedWork_44 _ _ _ _ hf) ⟨Or.inl rfl, Or.inl rfl, Or.inl rfl, trivial⟩
    refine am_ldc2 (v := -1) dX8_mixedWork_30 cl_X8_364 rfl ?_
    refine am_goto (pc' := 44) dX8_mixedWork_33 (by decide) ?_
    exact am_we (sfX8_mixedWork_44 _ _ _ _ hf) ⟨Or.inl rfl, Or.inl rfl, Or.inl rfl, trivial⟩
  refine am_lload_n dX8_mixedWork_4 rfl rfl ?_
  exact am_lret rfl dX8_mixedWork_5 hf
set_option maxRecDepth 20000 in
set_option maxHeartbeats 4000000 in
theorem sfX8_digest_189 {G : am_G}  : ∀ (n : Nat) (v0 : Option Nat) (v1 : Int64) (v3 : Int32) (h : am_H) (y : Int64 × am_H) (hf : fX8_digest_189  n v0 v1 v3 h = some y), am_S G miX8_digest 189 [some (va_rf v0), some (.long v1), none, some (.int v3)] [] h (some (.long y.1)) y.2 := by
  intro n
  induction n with
  | zero => intro v0 v1 v3 h y hf; cases hf
  | succ n ih =>
    intro v0 v1 v3 h y hf
    have hf : fX8_digest_189_b  (fX8_digest_189  n) v0 v1 v3 h = some y := hf
    unfold fX8_digest_189_b at hf
    refine am_iload_n dX8_digest_189 rfl rfl ?_
    refine am_iconst (v := 5) dX8_digest_190 rfl rfl ?_
    refine am_icmp_gt (tgt := 211) dX8_digest_191 (by decide) rfl hf (fun hf => ?_) (fun hf => ?_)
    · refine am_lload_n dX8_digest_211 rfl rfl ?_
      exact am_lret rfl dX8_digest_212 hf
    refine am_lload_n dX8_digest_194 rfl rfl ?_
    refine am_aload_n dX8_digest_195 rfl rfl ?_
    refine am_iload_n dX8_digest_196 rfl rfl ?_
    refine am_cVi (As := [.int v3]) (st := [.long v1]) lk_X8_digest_342 rfl (Nat.le_of_ble_eq_true rfl) (Nat.le_of_ble_eq_true rfl) rfl dX8_digest_197 rfl hf (fun b2 y1 hf => sfX8_count b2 _ _ y1 hf) (fun b2 y1 _ _ hf => ?_)
    refine am_i2l dX8_digest_200 rfl ?_
    refine am_cSl (As := [.long v1, .long (Int32.toInt64 y1.1)]) (st := []) lk_X8_digest_323 rfl (Nat.le_of_ble_eq_true rfl) (Nat.le_of_ble_eq_true rfl) rfl dX8_digest_201 rfl hf (fun y3 hf => sfX8_mixed _ _ _ y3 hf) (fun y3 _ hf => ?_)
    refine am_lstore_n (ls' := [some (va_rf v0), some (.long y3.1), none, some (.int v3)]) dX8_digest_204 (by decide) (am_s2_r (j := 0) rfl rfl) rfl ?_
    refine am_iinc (ls' := [some (va_rf v0), some (.long y3.1), none, some (.int (v3 + (1 : Int32)))]) dX8_digest_205 rfl rfl (by decide) rfl rfl ?_
    refine am_goto (pc' := 189) dX8_digest_208 (by decide) ?_
    exact ih _ _ _ _ _ hf
