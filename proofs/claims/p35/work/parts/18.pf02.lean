/-! printed proofs of the printed functions, 2 -/
set_option maxRecDepth 20000 in
set_option maxHeartbeats 4000000 in
theorem sfX3_readVessels_44 {G : am_G}  {k4 : Option Nat → Option Nat → Int32 → Int32 → am_H → Option (Int32 × am_H)} (hk4 : ∀ (v0 : Option Nat) (v1 : Option Nat) (v2 : Int32) (v3 : Int32) (h : am_H) (y : Int32 × am_H), k4 v0 v1 v2 v3 h = some y → am_S G miX3_readVessels 4 [some (va_rf v0), some (va_rf v1), some (.int v2), some (.int v3)] [] h (some (.int y.1)) y.2) (v0 : Option Nat) (v1 : Option Nat) (v3 : Int32) (s0 : Int32) (h : am_H) (y : Int32 × am_H) (hf : fX3_readVessels_44 k4 v0 v1 v3 s0 h = some y) : am_S G miX3_readVessels 44 [some (va_rf v0), some (va_rf v1), none, some (.int v3)] [.int s0] h (some (.int y.1)) y.2 := by
  unfold fX3_readVessels_44 at hf
  refine am_istore_n (ls' := [some (va_rf v0), some (va_rf v1), some (.int s0), some (.int v3)]) dX3_readVessels_44 (by decide) (am_s1_r (j := 1) rfl rfl) rfl ?_
  refine am_iinc (ls' := [some (va_rf v0), some (va_rf v1), some (.int s0), some (.int (v3 + (1 : Int32)))]) dX3_readVessels_45 rfl rfl (by decide) rfl rfl ?_
  refine am_goto (pc' := 4) dX3_readVessels_48 (by decide) ?_
  exact hk4 _ _ _ _ _ _ hf
set_option maxRecDepth 20000 in
set_option maxHeartbeats 4000000 in
theorem sfX3_readVessels_43 {G : am_G}  {k44 : Option Nat → Option Nat → Int32 → Int32 → am_H → Option (Int32 × am_H)} (hk44 : ∀ (v0 : Option Nat) (v1 : Option Nat) (v3 : Int32) (s0 : Int32) (h : am_H) (y : Int32 × am_H), k44 v0 v1 v3 s0 h = some y → am_S G miX3_readVessels 44 [some (va_rf v0), some (va_rf v1), none, some (.int v3)] [.int s0] h (some (.int y.1)) y.2) (v0 : Option Nat) (v1 : Option Nat) (v3 : Int32) (h : am_H) (y : Int32 × am_H) (hf : fX3_readVessels_43 k44 v0 v1 v3 h = some y) : am_S G miX3_readVessels 43 [some (va_rf v0), some (va_rf v1), none, some (.int v3)] [] h (some (.int y.1)) y.2 := by
  unfold fX3_readVessels_43 at hf
  refine am_iconst (v := 0) dX3_readVessels_43 rfl rfl ?_
  exact hk44 _ _ _ _ _ _ hf
set_option maxRecDepth 20000 in
set_option maxHeartbeats 4000000 in
theorem sfX3_readVessels_4 {G : am_G}  : ∀ (n : Nat) (v0 : Option Nat) (v1 : Option Nat) (v2 : Int32) (v3 : Int32) (h : am_H) (y : Int32 × am_H) (hf : fX3_readVessels_4  n v0 v1 v2 v3 h = some y), am_S G miX3_readVessels 4 [some (va_rf v0), some (va_rf v1), some (.int v2), some (.int v3)] [] h (some (.int y.1)) y.2 := by
  intro n
  induction n with
  | zero => intro v0 v1 v2 v3 h y hf; cases hf
  | succ n ih =>
    intro v0 v1 v2 v3 h y hf
    have hf : fX3_readVessels_4_b  (fX3_readVessels_4  n) v0 v1 v2 v3 h = some y := hf
    unfold fX3_readVessels_4_b at hf
    refine am_iload_n dX3_readVessels_4 rfl rfl ?_
    refine am_iconst (v := 3) dX3_readVessels_5 rfl rfl ?_
    refine am_icmp_ge (tgt := 51) dX3_readVessels_6 (by decide) rfl hf (fun hf => ?_) (fun hf => ?_)
    · refine am_iconst (v := 1) dX3_readVessels_51 rfl rfl ?_
      exact am_zret rfl dX3_readVessels_52 hf
    refine am_iload_n dX3_readVessels_9 rfl rfl ?_
    refine am_if_eq (tgt := 51) dX3_readVessels_10 (by decide) rfl hf (fun hf => ?_) (fun hf => ?_)
    · refine am_iconst (v := 1) dX3_readVessels_51 rfl rfl ?_
      exact am_zret rfl dX3_readVessels_52 hf
    refine am_aload_n dX3_readVessels_13 rfl rfl ?_
    refine am_aload_n dX3_readVessels_14 rfl rfl ?_
    refine am_cVi (As := [va_rf v1]) (st := []) lk_X3_readVessels_43 rfl (by simp only [am_e1_r, am_e1_i, am_e1_l, am_e1_n]; exact Nat.le_of_ble_eq_true rfl) (Nat.le_of_ble_eq_true rfl) rfl dX3_readVessels_15 rfl hf (fun b2 y1 hf => sfX3_readVessel b2 _ _ y1 hf) (fun b2 y1 _ _ hf => ?_)
    refine am_if_ne (tgt := 23) dX3_readVessels_18 (by decide) rfl hf (fun hf => ?_) (fun hf => ?_)
    · refine am_iload_n dX3_readVessels_23 rfl rfl ?_
      refine am_iconst (v := 1) dX3_readVessels_24 rfl rfl ?_
      refine am_iadd dX3_readVessels_25 rfl ?_
      refine am_iconst (v := 3) dX3_readVessels_26 rfl rfl ?_
      refine am_icmp_ge (tgt := 43) dX3_readVessels_27 (by decide) rfl hf (fun hf => ?_) (fun hf => ?_)
      · exact am_we ((sfX3_readVessels_43 (sfX3_readVessels_44 ih)) _ _ _ _ _ hf) ⟨Or.inr rfl, Or.inr rfl, Or.inl rfl, Or.inr rfl, trivial⟩
      refine am_aload_n dX3_readVessels_30 rfl rfl ?_
      refine am_bipush (v := 62) dX3_readVessels_31 (by decide) rfl ?_
      refine am_cVi (As := [.int (62 : Int32)]) (st := []) lk_X3_readVessels_46 rfl (Nat.le_of_ble_eq_true rfl) (Nat.le_of_ble_eq_true rfl) rfl dX3_readVessels_33 rfl hf (fun b4 y3 hf => sfX3_readSign b4 _ _ y3 hf) (fun b4 y3 _ _ hf => ?_)
      refine am_if_eq (tgt := 43) dX3_readVessels_36 (by decide) rfl hf (fun hf => ?_) (fun hf => ?_)
      · exact am_we ((sfX3_readVessels_43 (sfX3_readVessels_44 ih)) _ _ _ _ _ hf) ⟨Or.inr rfl, Or.inr rfl, Or.inl rfl, Or.inr rfl, trivial⟩
      refine am_iconst (v := 1) dX3_readVessels_39 rfl rfl ?_
      refine am_goto (pc' := 44) dX3_readVessels_40 (by decide) ?_
      exact am_we ((sfX3_readVessels_44 ih) _ _ _ _ _ _ hf) ⟨Or.inr rfl, Or.inr rfl, Or.inl rfl, Or.inr rfl, trivial⟩
    refine am_iconst (v := 0) dX3_readVessels_21 rfl rfl ?_
    exact am_zret rfl dX3_readVessels_22 hf
set_option maxRecDepth 20000 in
set_option maxHeartbeats 4000000 in
theorem sfX3_readVessels {G : am_G}  (v0 : Nat) (v1 : Option Nat) (h : am_H) (y : Int32 × am_H) (hf : fX3_readVessels v0 v1 h = some y) : am_Cn G miX3_readVessels [va_rf (some v0), va_rf v1] h (some (.int y.1)) y.2 := by
  refine am_beg (ls := [some (va_rf (some v0)), some (va_rf v1), none, none]) (by simp only [am_en, am_e1_r, am_e1_i, am_e1_l, am_e1_n]; rfl) ?_
  unfold fX3_readVessels at hf
  refine am_iconst (v := 1) dX3_readVessels_0 rfl rfl ?_
  refine am_istore_n (ls' := [some (va_rf (some v0)), some (va_rf v1), some (.int (1 : Int32)), none]) dX3_readVessels_1 (by decide) (am_s1_r (j := 1) rfl rfl) rfl ?_
  refine am_iconst (v := 0) dX3_readVessels_2 rfl rfl ?_
  refine am_istore_n (ls' := [some (va_rf (some v0)), some (va_rf v1), some (.int (1 : Int32)), some (.int (0 : Int32))]) dX3_readVessels_3 (by decide) rfl rfl ?_
  exact (sfX3_readVessels_4 _) _ _ _ _ _ _ hf
set_option maxRecDepth 20000 in
set_option maxHeartbeats 4000000 in
theorem sfX3_readCylinder {G : am_G}  (v0 : Nat) (v1 : Option Nat) (h : am_H) (y : Int32 × am_H) (hf : fX3_readCylinder v0 v1 h = some y) : am_Cn G miX3_readCylinder [va_rf (some v0), va_rf v1] h (some (.int y.1)) y.2 := by
  refine am_beg (ls := [some (va_rf (some v0)), some (va_rf v1)]) (by simp only [am_en, am_e1_r, am_e1_i, am_e1_l, am_e1_n]; rfl) ?_
  unfold fX3_readCylinder at hf
  refine am_aload_n dX3_readCylinder_0 rfl rfl ?_
  refine am_bipush (v := 61) dX3_readCylinder_1 (by decide) rfl ?_
  refine am_cVi (As := [.int (61 : Int32)]) (st := []) lk_X3_readCylinder_46 rfl (Nat.le_of_ble_eq_true rfl) (Nat.le_of_ble_eq_true rfl) rfl dX3_readCylinder_3 rfl hf (fun b2 y1 hf => sfX3_readSign b2 _ _ y1 hf) (fun b2 y1 _ _ hf => ?_)
  refine am_if_ne (tgt := 11) dX3_readCylinder_6 (by decide) rfl hf (fun hf => ?_) (fun hf => ?_)
  · refine am_aload_n dX3_readCylinder_11 rfl rfl ?_
    refine am_aload_n dX3_readCylinder_12 rfl rfl ?_
    refine am_iconst (v := 1) dX3_readCylinder_13 rfl rfl ?_
    refine am_bipush (v := 99) dX3_readCylinder_14 (by decide) rfl ?_
    refine am_cVi (As := [.int (1 : Int32), .int (99 : Int32)]) (st := [va_rf v1]) lk_X3_readCylinder_50 rfl (Nat.le_of_ble_eq_true rfl) (by simp only [List.map_cons, List.map_nil, am_c1, am_ci, am_cl]; exact Nat.le_of_ble_eq_true rfl) rfl dX3_readCylinder_16 rfl hf (fun b4 y3 hf => sfX3_readNumber b4 _ _ _ y3 hf) (fun b4 y3 _ _ hf => ?_)
    refine am_pi_ dX3_readCylinder_19 fl_X3_58 fp_0_5 (fun z => by cases z) rfl hf (fun h5 _ hf => ?_)
    refine am_aload_n dX3_readCylinder_22 rfl rfl ?_
    refine am_gi_ dX3_readCylinder_23 fl_X3_58 rfl hf (fun x6 _ hf => ?_)
    refine am_iconst (v := -1) dX3_readCylinder_26 rfl rfl ?_
    refine am_icmp_eq (tgt := 39) dX3_readCylinder_27 (by decide) rfl hf (fun hf => ?_) (fun hf => ?_)
    · refine am_iconst (v := 0) dX3_readCylinder_39 rfl rfl ?_
      exact am_zret rfl dX3_readCylinder_40 hf
    refine am_aload_n dX3_readCylinder_30 rfl rfl ?_
    refine am_bipush (v := 120) dX3_readCylinder_31 (by decide) rfl ?_
    refine am_cVi (As := [.int (120 : Int32)]) (st := []) lk_X3_readCylinder_46 rfl (Nat.le_of_ble_eq_true rfl) (Nat.le_of_ble_eq_true rfl) rfl dX3_readCylinder_33 rfl hf (fun b8 y7 hf => sfX3_readSign b8 _ _ y7 hf) (fun b8 y7 _ _ hf => ?_)
    refine am_if_ne (tgt := 41) dX3_readCylinder_36 (by decide) rfl hf (fun hf => ?_) (fun hf => ?_)
    · refine am_aload_n dX3_readCylinder_41 rfl rfl ?_
      refine am_aload_n dX3_readCylinder_42 rfl rfl ?_
      refine am_iconst (v := 1) dX3_readCylinder_43 rfl rfl ?_
      refine am_bipush (v := 99) dX3_readCylinder_44 (by decide) rfl ?_
      refine am_cVi (As := [.int (1 : Int32), .int (99 : Int32)]) (st := [va_rf v1]) lk_X3_readCylinder_50 rfl (Nat.le_of_ble_eq_true rfl) (by simp only [List.map_cons, List.map_nil, am_c1, am_ci, am_cl]; exact Nat.le_of_ble_eq_true rfl) rfl dX3_readCylinder_46 rfl hf (fun b10 y9 hf => sfX3_readNumber b10 _ _ _ y9 hf) (fun b10 y9 _ _ hf => ?_)
      refine am_pi_ dX3_readCylinder_49 fl_X3_61 fp_0_6 (fun z => by cases z) rfl hf (fun h11 _ hf => ?_)
      refine am_aload_n dX3_readCylinder_52 rfl rfl ?_
      refine am_gi_ dX3_readCylinder_53 fl_X3_61 rfl hf (fun x12 _ hf => ?_)
      refine am_iconst (v := -1) dX3_readCylinder_56 rfl rfl ?_
      refine am_icmp_eq (tgt := 64) dX3_readCylinder_57 (by decide) rfl hf (fun hf => ?_) (fun hf => ?_)
      · refine am_iconst (v := 0) dX3_readCylinder_64 rfl rfl ?_
        exact am_zret rfl dX3_readCylinder_65 hf
      refine am_iconst (v := 1) dX3_readCylinder_60 rfl rfl ?_
      refine am_goto (pc' := 65) dX3_readCylinder_61 (by decide) ?_
      exact am_zret rfl dX3_readCylinder_65 hf
    refine am_iconst (v := 0) dX3_readCylinder_39 rfl rfl ?_
    exact am_zret rfl dX3_readCylinder_40 hf
  refine am_iconst (v := 0) dX3_readCylinder_9 rfl rfl ?_
  exact am_zret rfl dX3_readCylinder_10 hf
set_option maxRecDepth 20000 in
set_option maxHeartbeats 4000000 in
theorem sfX3_readSupply {G : am_G}  (v0 : Nat) (v1 : Option Nat) (h : am_H) (y : Int32 × am_H) (hf : fX3_readSupply v0 v1 h = some y) : am_Cn G miX3_readSupply [va_rf (some v0), va_rf v1] h (some (.int y.1)) y.2 := by
  refine am_beg (ls := [some (va_rf (some v0)), some (va_rf v1)]) (by simp only [am_en, am_e1_r, am_e1_i, am_e1_l, am_e1_n]; rfl) ?_
  unfold fX3_readSupply at hf
  refine am_aload_n dX3_readSupply_0 rfl rfl ?_
  refine am_bipush (v := 59) dX3_readSupply_1 (by decide) rfl ?_
  refine am_cVi (As := [.int (59 : Int32)]) (st := []) lk_X3_readSupply_46 rfl (Nat.le_of_ble_eq_true rfl) (Nat.le_of_ble_eq_true rfl) rfl dX3_readSupply_3 rfl hf (fun b2 y1 hf => sfX3_readSign b2 _ _ y1 hf) (fun b2 y1 _ _ hf => ?_)
  refine am_if_eq (tgt := 18) dX3_readSupply_6 (by decide) rfl hf (fun hf => ?_) (fun hf => ?_)
  · refine am_iconst (v := 0) dX3_readSupply_18 rfl rfl ?_
    exact am_zret rfl dX3_readSupply_19 hf
  refine am_aload_n dX3_readSupply_9 rfl rfl ?_
  refine am_bipush (v := 115) dX3_readSupply_10 (by decide) rfl ?_
  refine am_cVi (As := [.int (115 : Int32)]) (st := []) lk_X3_readSupply_46 rfl (Nat.le_of_ble_eq_true rfl) (Nat.le_of_ble_eq_true rfl) rfl dX3_readSupply_12 rfl hf (fun b4 y3 hf => sfX3_readSign b4 _ _ y3 hf) (fun b4 y3 _ _ hf => ?_)
  refine am_if_ne (tgt := 20) dX3_readSupply_15 (by decide) rfl hf (fun hf => ?_) (fun hf => ?_)
  · refine am_aload_n dX3_readSupply_20 rfl rfl ?_
    refine am_aload_n dX3_readSupply_21 rfl rfl ?_
    refine am_iconst (v := 0) dX3_readSupply_22 rfl rfl ?_
    refine am_bipush (v := 60) dX3_readSupply_23 (by decide) rfl ?_
    refine am_cVi (As := [.int (0 : Int32), .int (60 : Int32)]) (st := [va_rf v1]) lk_X3_readSupply_50 rfl (Nat.le_of_ble_eq_true rfl) (by simp only [List.map_cons, List.map_nil, am_c1, am_ci, am_cl]; exact Nat.le_of_ble_eq_true rfl) rfl dX3_readSupply_25 rfl hf (fun b6 y5 hf => sfX3_readNumber b6 _ _ _ y5 hf) (fun b6 y5 _ _ hf => ?_)
    refine am_pi_ dX3_readSupply_28 fl_X3_64 fp_0_7 (fun z => by cases z) rfl hf (fun h7 _ hf => ?_)
    refine am_aload_n dX3_readSupply_31 rfl rfl ?_
    refine am_gi_ dX3_readSupply_32 fl_X3_64 rfl hf (fun x8 _ hf => ?_)
    refine am_iconst (v := -1) dX3_readSupply_35 rfl rfl ?_
    refine am_icmp_eq (tgt := 43) dX3_readSupply_36 (by decide) rfl hf (fun hf => ?_) (fun hf => ?_)
    · refine am_iconst (v := 0) dX3_readSupply_43 rfl rfl ?_
      exact am_zret rfl dX3_readSupply_44 hf
    refine am_iconst (v := 1) dX3_readSupply_39 rfl rfl ?_
    refine am_goto (pc' := 44) dX3_readSupply_40 (by decide) ?_
    exact am_zret rfl dX3_readSupply_44 hf
  refine am_iconst (v := 0) dX3_readSupply_18 rfl rfl ?_
  exact am_zret rfl dX3_readSupply_19 hf
set_option maxRecDepth 20000 in
set_option maxHeartbeats 4000000 in
theorem sfX0_addMark {G : am_G}  (v0 : Nat) (v1 : Int32) (h : am_H) (y : am_H) (hf : fX0_addMark v0 v1 h = some y) : am_Cn G miX0_addMark [va_rf (some v0), .int v1] h none y := by
  refine am_beg (ls := [some (va_rf (some v0)), some (.int v1)]) (by simp only [am_en, am_e1_r, am_e1_i, am_e1_l, am_e1_n]; rfl) ?_
  unfold fX0_addMark at hf
  refine am_aload_n dX0_addMark_0 rfl rfl ?_
  refine am_gi_ dX0_addMark_1 fl_X0_40 rfl hf (fun x1 _ hf => ?_)
  refine am_bipush (v := 12) dX0_addMark_4 (by decide) rfl ?_
  refine am_icmp_ge (tgt := 29) dX0_addMark_6 (by decide) rfl hf (fun hf => ?_) (fun hf => ?_)
  · exact am_vret rfl dX0_addMark_29 hf
  refine am_aload_n dX0_addMark_9 rfl rfl ?_
  refine am_gr_ dX0_addMark_10 fl_X0_24 rfl hf (fun x2 _ hf => ?_)
  refine am_aload_n dX0_addMark_13 rfl rfl ?_
  refine am_gi_ dX0_addMark_14 fl_X0_40 rfl hf (fun x3 _ hf => ?_)
  refine am_iload_n dX0_addMark_17 rfl rfl ?_
  refine am_iast dX0_addMark_18 rfl hf (fun h4 _ hf => ?_)
  refine am_aload_n dX0_addMark_19 rfl rfl ?_
  refine am_dup dX0_addMark_20 (am_c1 _) rfl ?_
  refine am_gi_ dX0_addMark_21 fl_X0_40 rfl hf (fun x5 _ hf => ?_)
  refine am_iconst (v := 1) dX0_addMark_24 rfl rfl ?_
  refine am_iadd dX0_addMark_25 rfl ?_
  refine am_pi_ dX0_addMark_26 fl_X0_40 fp_0_8 (fun z => by cases z) rfl hf (fun h6 _ hf => ?_)
  exact am_vret rfl dX0_addMark_29 hf
set_option maxRecDepth 20000 in
set_option maxHeartbeats 4000000 in
theorem sfX3_readMarks_89 {G : am_G}  {k27 : Option Nat → Option Nat → Int32 → Int32 → Int32 → am_H → Option (Int32 × am_H)} (hk27 : ∀ (v0 : Option Nat) (v1 : Option Nat) (v2 : Int32) (v3 : Int32) (v4 : Int32) (h : am_H) (y : Int32 × am_H), k27 v0 v1 v2 v3 v4 h = some y → am_S G miX3_readMarks 27 [some (va_rf v0), some (va_rf v1), some (.int v2), some (.int v3), some (.int v4)] [] h (some (.int y.1)) y.2) (v0 : Option Nat) (v1 : Option Nat) (v2 : Int32) (v4 : Int32) (s0 : Int32) (h : am_H) (y : Int32 × am_H) (hf : fX3_readMarks_89 k27 v0 v1 v2 v4 s0 h = some y) : am_S G miX3_readMarks 89 [some (va_rf v0), some (va_rf v1), some (.int v2), none, some (.int v4)] [.int s0] h (some (.int y.1)) y.2 := by
  unfold fX3_readMarks_89 at hf
  refine am_istore_n (ls' := [some (va_rf v0), some (va_rf v1), some (.int v2), some (.int s0), some (.int v4)]) dX3_readMarks_89 (by decide) rfl rfl ?_
  refine am_iinc (ls' := [some (va_rf v0), some (va_rf v1), some (.int v2), some (.int s0), some (.int (v4 + (1 : Int32)))]) dX3_readMarks_90 rfl rfl (by decide) rfl rfl ?_
  refine am_goto (pc' := 27) dX3_readMarks_93 (by decide) ?_
  exact hk27 _ _ _ _ _ _ _ hf
set_option maxRecDepth 20000 in
set_option maxHeartbeats 4000000 in
theorem sfX3_readMarks_88 {G : am_G}  {k89 : Option Nat → Option Nat → Int32 → Int32 → Int32 → am_H → Option (Int32 × am_H)} (hk89 : ∀ (v0 : Option Nat) (v1 : Option Nat) (v2 : Int32) (v4 : Int32) (s0 : Int32) (h : am_H) (y : Int32 × am_H), k89 v0 v1 v2 v4 s0 h = some y → am_S G miX3_readMarks 89 [some (va_rf v0), some (va_rf v1), some (.int v2), none, some (.int v4)] [.int s0] h (some (.int y.1)) y.2) (v0 : Option Nat) (v1 : Option Nat) (v2 : Int32) (v4 : Int32) (h : am_H) (y : Int32 × am_H) (hf : fX3_readMarks_88 k89 v0 v1 v2 v4 h = some y) : am_S G miX3_readMarks 88 [some (va_rf v0), some (va_rf v1), some (.int v2), none, some (.int v4)] [] h (some (.int y.1)) y.2 := by
  unfold fX3_readMarks_88 at hf
  refine am_iconst (v := 0) dX3_readMarks_88 rfl rfl ?_
  exact hk89 _ _ _ _ _ _ _ hf
set_option maxRecDepth 20000 in
set_option maxHeartbeats 4000000 in
theorem sfX3_readMarks_27 {G : am_G}  : ∀ (n : Nat) (v0 : Option Nat) (v1 : Option Nat) (v2 : Int32) (v3 : Int32) (v4 : Int32) (h : am_H) (y : Int32 × am_H) (hf : fX3_readMarks_27  n v0 v1 v2 v3 v4 h = some y), am_S G miX3_readMarks 27 [some (va_rf v0), some (va_rf v1), some (.int v2), some (.int v3), some (.int v4)] [] h (some (.int y.1)) y.2 := by
  intro n
  induction n with
  | zero => intro v0 v1 v2 v3 v4 h y hf; cases hf
  | succ n ih =>
    intro v0 v1 v2 v3 v4 h y hf
    have hf : fX3_readMarks_27_b  (fX3_readMarks_27  n) v0 v1 v2 v3 v4 h = some y := hf
    unfold fX3_readMarks_27_b at hf
    refine am_iload dX3_readMarks_27 rfl rfl ?_
    refine am_bipush (v := 12) dX3_readMarks_29 (by decide) rfl ?_
    refine am_icmp_ge (tgt := 96) dX3_readMarks_31 (by decide) rfl hf (fun hf => ?_) (fun hf => ?_)
    · refine am_iconst (v := 1) dX3_readMarks_96 rfl rfl ?_
      exact am_zret rfl dX3_readMarks_97 hf
    refine am_iload_n dX3_readMarks_34 rfl rfl ?_
    refine am_if_eq (tgt := 96) dX3_readMarks_35 (by decide) rfl hf (fun hf => ?_) (fun hf => ?_)
    · refine am_iconst (v := 1) dX3_readMarks_96 rfl rfl ?_
      exact am_zret rfl dX3_readMarks_97 hf
    refine am_aload_n dX3_readMarks_38 rfl rfl ?_
    refine am_iload_n dX3_readMarks_39 rfl rfl ?_
    refine am_iconst (v := 1) dX3_readMarks_40 rfl rfl ?_
    refine am_iadd dX3_readMarks_41 rfl ?_
    refine am_bipush (v := 99) dX3_readMarks_42 (by decide) rfl ?_
    refine am_cVi (As := [.int (v2 + (1 : Int32)), .int (99 : Int32)]) (st := []) lk_X3_readMarks_50 rfl (Nat.le_of_ble_eq_true rfl) (Nat.le_of_ble_eq_true rfl) rfl dX3_readMarks_44 rfl hf (fun b2 y1 hf => sfX3_readNumber b2 _ _ _ y1 hf) (fun b2 y1 _ _ hf => ?_)
    refine am_istore_n (ls' := [some (va_rf v0), some (va_rf v1), some (.int y1.1), some (.int v3), some (.int v4)]) dX3_readMarks_47 (by decide) (am_s1_r (j := 1) rfl rfl) rfl ?_
    refine am_iload_n dX3_readMarks_48 rfl rfl ?_
    refine am_iconst (v := -1) dX3_readMarks_49 rfl rfl ?_
    refine am_icmp_ne (tgt := 55) dX3_readMarks_50 (by decide) rfl hf (fun hf => ?_) (fun hf => ?_)
    · refine am_aload_n dX3_readMarks_55 rfl rfl ?_
      refine am_iload_n dX3_readMarks_56 rfl rfl ?_
      refine am_cVv (As := [.int y1.1]) (st := []) lk_X3_readMarks_67 rfl (Nat.le_of_ble_eq_true rfl) (Nat.le_of_ble_eq_true rfl) rfl dX3_readMarks_57 rfl hf (fun b4 y3 hf => sfX0_addMark b4 _ _ y3 hf) (fun b4 y3 _ _ hf => ?_)
      refine am_iload dX3_readMarks_60 rfl rfl ?_
      refine am_iconst (v := 1) dX3_readMarks_62 rfl rfl ?_
      refine am_iadd dX3_readMarks_63 rfl ?_
      refine am_bipush (v := 12) dX3_readMarks_64 (by decide) rfl ?_
      refine am_icmp_ge (tgt := 88) dX3_readMarks_66 (by decide) rfl hf (fun hf => ?_) (fun hf => ?_)
      · exact am_we ((sfX3_readMarks_88 (sfX3_readMarks_89 ih)) _ _ _ _ _ _ hf) ⟨Or.inr rfl, Or.inr rfl, Or.inr rfl, Or.inl rfl, Or.inr rfl, trivial⟩
      refine am_iload_n dX3_readMarks_69 rfl rfl ?_
      refine am_bipush (v := 99) dX3_readMarks_70 (by decide) rfl ?_
      refine am_icmp_ge (tgt := 88) dX3_readMarks_72 (by decide) rfl hf (fun hf => ?_) (fun hf => ?_)
      · exact am_we ((sfX3_readMarks_88 (sfX3_readMarks_89 ih)) _ _ _ _ _ _ hf) ⟨Or.inr rfl, Or.inr rfl, Or.inr rfl, Or.inl rfl, Or.inr rfl, trivial⟩
      refine am_aload_n dX3_readMarks_75 rfl rfl ?_
      refine am_bipush (v := 44) dX3_readMarks_76 (by decide) rfl ?_
      refine am_cVi (As := [.int (44 : Int32)]) (st := []) lk_X3_readMarks_46 rfl (Nat.le_of_ble_eq_true rfl) (Nat.le_of_ble_eq_true rfl) rfl dX3_readMarks_78 rfl hf (fun b6 y5 hf => sfX3_readSign b6 _ _ y5 hf) (fun b6 y5 _ _ hf => ?_)
      refine am_if_eq (tgt := 88) dX3_readMarks_81 (by decide) rfl hf (fun hf => ?_) (fun hf => ?_)
      · exact am_we ((sfX3_readMarks_88 (sfX3_readMarks_89 ih)) _ _ _ _ _ _ hf) ⟨Or.inr rfl, Or.inr rfl, Or.inr rfl, Or.inl rfl, Or.inr rfl, trivial⟩
      refine am_iconst (v := 1) dX3_readMarks_84 rfl rfl ?_
      refine am_goto (pc' := 89) dX3_readMarks_85 (by decide) ?_
      exact am_we ((sfX3_readMarks_89 ih) _ _ _ _ _ _ _ hf) ⟨Or.inr rfl, Or.inr rfl, Or.inr rfl, Or.inl rfl, Or.inr rfl, trivial⟩
    refine am_iconst (v := 0) dX3_readMarks_53 rfl rfl ?_
    exact am_zret rfl dX3_readMarks_54 hf
set_option maxRecDepth 20000 in
set_option maxHeartbeats 4000000 in
theorem sfX3_readMarks {G : am_G}  (v0 : Nat) (v1 : Option Nat) (h : am_H) (y : Int32 × am_H) (hf : fX3_readMarks v0 v1 h = some y) : am_Cn G miX3_readMarks [va_rf (some v0), va_rf v1] h (some (.int y.1)) y.2 := by
  refine am_beg (ls := [some (va_rf (some v0)), some (va_rf v1), none, none, none]) (by simp only [am_en, am_e1_r, am_e1_i, am_e1_l, am_e1_n]; rfl) ?_
  unfold fX3_readMarks at hf
  refine am_aload_n dX3_readMarks_0 rfl rfl ?_
  refine am_bipush (v := 59) dX3_readMarks_1 (by decide) rfl ?_
  refine am_cVi (As := [.int (59 : Int32)]) (st := []) lk_X3_readMarks_46 rfl (Nat.le_of_ble_eq_true rfl) (Nat.le_of_ble_eq_true rfl) rfl dX3_readMarks_3 rfl hf (fun b2 y1 hf => sfX3_readSign b2 _ _ y1 hf) (fun b2 y1 _ _ hf => ?_)
  refine am_if_eq (tgt := 18) dX3_readMarks_6 (by decide) rfl hf (fun hf => ?_) (fun hf => ?_)
  · refine am_iconst (v := 0) dX3_readMarks_18 rfl rfl ?_
    exact am_zret rfl dX3_readMarks_19 hf
  refine am_aload_n dX3_readMarks_9 rfl rfl ?_
  refine am_bipush (v := 109) dX3_readMarks_10 (by decide) rfl ?_
  refine am_cVi (As := [.int (109 : Int32)]) (st := []) lk_X3_readMarks_46 rfl (Nat.le_of_ble_eq_true rfl) (Nat.le_of_ble_eq_true rfl) rfl dX3_readMarks_12 rfl hf (fun b4 y3 hf => sfX3_readSign b4 _ _ y3 hf) (fun b4 y3 _ _ hf => ?_)
  refine am_if_ne (tgt := 20) dX3_readMarks_15 (by decide) rfl hf (fun hf => ?_) (fun hf => ?_)
  · refine am_iconst (v := 0) dX3_readMarks_20 rfl rfl ?_
    refine am_istore_n (ls' := [some (va_rf (some v0)), some (va_rf v1), some (.int (0 : Int32)), none, none]) dX3_readMarks_21 (by decide) (am_s1_r (j := 1) rfl rfl) rfl ?_
    refine am_iconst (v := 1) dX3_readMarks_22 rfl rfl ?_
    refine am_istore_n (ls' := [some (va_rf (some v0)), some (va_rf v1), some (.int (0 : Int32)), some (.int (1 : Int32)), none]) dX3_readMarks_23 (by decide) rfl rfl ?_
    refine am_iconst (v := 0) dX3_readMarks_24 rfl rfl ?_
    refine am_istore (ls' := [some (va_rf (some v0)), some (va_rf v1), some (.int (0 : Int32)), some (.int (1 : Int32)), some (.int (0 : Int32))]) dX3_readMarks_25 (by decide) rfl rfl ?_
    exact (sfX3_readMarks_27 _) _ _ _ _ _ _ _ hf
  refine am_iconst (v := 0) dX3_readMarks_18 rfl rfl ?_
  exact am_zret rfl dX3_readMarks_19 hf
set_option maxRecDepth 20000 in
set_option maxHeartbeats 4000000 in
theorem sfX3_readClock {G : am_G}  (v0 : Nat) (v1 : Option Nat) (h : am_H) (y : Int32 × am_H) (hf : fX3_readClock v0 v1 h = some y) : am_Cn G miX3_readClock [va_rf (some v0), va_rf v1] h (some (.int y.1)) y.2 := by
  refine am_beg (ls := [some (va_rf (some v0)), some (va_rf v1)]) (by simp only [am_en, am_e1_r, am_e1_i, am_e1_l, am_e1_n]; rfl) ?_
  unfold fX3_readClock at hf
  refine am_aload_n dX3_readClock_0 rfl rfl ?_
  refine am_iconst (v := 0) dX3_readClock_1 rfl rfl ?_
  refine am_pi_ dX3_readClock_2 fl_X3_19 fp_3_2 (fun z => by cases z) rfl hf (fun h1 _ hf => ?_)
  refine am_aload_n dX3_readClock_5 rfl rfl ?_
  refine am_iconst (v := 0) dX3_readClock_6 rfl rfl ?_
  refine am_pi_ dX3_readClock_7 fl_X3_22 fp_0_0 (fun z => by cases z) rfl hf (fun h2 _ hf => ?_)
  refine am_aload_n dX3_readClock_10 rfl rfl ?_
  refine am_iconst (v := 0) dX3_readClock_11 rfl rfl ?_
  refine am_pi_ dX3_readClock_12 fl_X3_27 fp_0_8 (fun z => by cases z) rfl hf (fun h3 _ hf => ?_)
  refine am_aload_n dX3_readClock_15 rfl rfl ?_
  refine am_aload_n dX3_readClock_16 rfl rfl ?_
  refine am_cVi (As := [va_rf v1]) (st := []) lk_X3_readClock_30 rfl (by simp only [am_e1_r, am_e1_i, am_e1_l, am_e1_n]; exact Nat.le_of_ble_eq_true rfl) (Nat.le_of_ble_eq_true rfl) rfl dX3_readClock_17 rfl hf (fun b5 y4 hf => sfX3_readVessels b5 _ _ y4 hf) (fun b5 y4 _ _ hf => ?_)
  refine am_if_eq (tgt := 62) dX3_readClock_20 (by decide) rfl hf (fun hf => ?_) (fun hf => ?_)
  · refine am_iconst (v := 0) dX3_readClock_62 rfl rfl ?_
    exact am_zret rfl dX3_readClock_63 hf
  refine am_aload_n dX3_readClock_23 rfl rfl ?_
  refine am_aload_n dX3_readClock_24 rfl rfl ?_
  refine am_cVi (As := [va_rf v1]) (st := []) lk_X3_readClock_34 rfl (by simp only [am_e1_r, am_e1_i, am_e1_l, am_e1_n]; exact Nat.le_of_ble_eq_true rfl) (Nat.le_of_ble_eq_true rfl) rfl dX3_readClock_25 rfl hf (fun b7 y6 hf => sfX3_readCylinder b7 _ _ y6 hf) (fun b7 y6 _ _ hf => ?_)
  refine am_if_eq (tgt := 62) dX3_readClock_28 (by decide) rfl hf (fun hf => ?_) (fun hf => ?_)
  · refine am_iconst (v := 0) dX3_readClock_62 rfl rfl ?_
    exact am_zret rfl dX3_readClock_63 hf
  refine am_aload_n dX3_readClock_31 rfl rfl ?_
  refine am_aload_n dX3_readClock_32 rfl rfl ?_
  refine am_cVi (As := [va_rf v1]) (st := []) lk_X3_readClock_37 rfl (by simp only [am_e1_r, am_e1_i, am_e1_l, am_e1_n]; exact Nat.le_of_ble_eq_true rfl) (Nat.le_of_ble_eq_true rfl) rfl dX3_readClock_33 rfl hf (fun b9 y8 hf => sfX3_readSupply b9 _ _ y8 hf) (fun b9 y8 _ _ hf => ?_)
  refine am_if_eq (tgt := 62) dX3_readClock_36 (by decide) rfl hf (fun hf => ?_) (fun hf => ?_)
  · refine am_iconst (v := 0) dX3_readClock_62 rfl rfl ?_
    exact am_zret rfl dX3_readClock_63 hf
  refine am_aload_n dX3_readClock_39 rfl rfl ?_
  refine am_aload_n dX3_readClock_40 rfl rfl ?_
  refine am_cVi (As := [va_rf v1]) (st := []) lk_X3_readClock_40 rfl (by simp only [am_e1_r, am_e1_i, am_e1_l, am_e1_n]; exact Nat.le_of_ble_eq_true rfl) (Nat.le_of_ble_eq_true rfl) rfl dX3_readClock_41 rfl hf (fun b11 y10 hf => sfX3_readMarks b11 _ _ y10 hf) (fun b11 y10 _ _ hf => ?_)
  refine am_if_eq (tgt := 62) dX3_readClock_44 (by decide) rfl hf (fun hf => ?_) (fun hf => ?_)
  · refine am_iconst (v := 0) dX3_readClock_62 rfl rfl ?_
    exact am_zret rfl dX3_readClock_63 hf
  refine am_aload_n dX3_readClock_47 rfl rfl ?_
  refine am_gi_ dX3_readClock_48 fl_X3_19 rfl hf (fun x12 _ hf => ?_)
  refine am_aload_n dX3_readClock_51 rfl rfl ?_
  refine am_gi_ dX3_readClock_52 fl_X3_15 rfl hf (fun x13 _ hf => ?_)
  refine am_icmp_ne (tgt := 62) dX3_readClock_55 (by decide) rfl hf (fun hf => ?_) (fun hf => ?_)
  · refine am_iconst (v := 0) dX3_readClock_62 rfl rfl ?_
    exact am_zret rfl dX3_readClock_63 hf
  refine am_iconst (v := 1) dX3_readClock_58 rfl rfl ?_
  refine am_goto (pc' := 63) dX3_readClock_59 (by decide) ?_
  exact am_zret rfl dX3_readClock_63 hf
set_option maxRecDepth 20000 in
set_option maxHeartbeats 4000000 in
theorem sfX8_fault {G : am_G}  (v0 : Nat) (h : am_H) (y : Int32 × am_H) (hf : fX8_fault v0 h = some y) : am_Cn G miX8_fault [va_rf (some v0)] h (some (.int y.1)) y.2 := by
  refine am_beg (ls := [some (va_rf (some v0))]) (by simp only [am_en, am_e1_r, am_e1_i, am_e1_l, am_e1_n]; rfl) ?_
  unfold fX8_fault at hf
  refine am_aload_n dX8_fault_0 rfl rfl ?_
  refine am_gr_ dX8_fault_1 fl_X8_30 rfl hf (fun x1 _ hf => ?_)
  refine am_aload_n dX8_fault_4 rfl rfl ?_
  refine am_gr_ dX8_fault_5 fl_X8_45 rfl hf (fun x2 _ hf => ?_)
  refine am_cVi (As := [va_rf x2]) (st := []) lk_X8_fault_103 rfl (by simp only [am_e1_r, am_e1_i, am_e1_l, am_e1_n]; exact Nat.le_of_ble_eq_true rfl) (Nat.le_of_ble_eq_true rfl) rfl dX8_fault_8 rfl hf (fun b4 y3 hf => sfX3_readClock b4 _ _ y3 hf) (fun b4 y3 _ _ hf => ?_)
  refine am_pop dX8_fault_11 (rfl) rfl ?_
  refine am_aload_n dX8_fault_12 rfl rfl ?_
  refine am_gr_ dX8_fault_13 fl_X8_30 rfl hf (fun x5 _ hf => ?_)
  refine am_gi_ dX8_fault_16 fl_X8_107 rfl hf (fun x6 _ hf => ?_)
  exact am_iret rfl dX8_fault_19 hf
set_option maxRecDepth 20000 in
set_option maxHeartbeats 4000000 in
theorem sfX6_ballsTold_23 {G : am_G}  {k4 : Option Nat → Int32 → Int32 → am_H → Option (Int32 × am_H)} (hk4 : ∀ (v0 : Option Nat) (v1 : Int32) (v2 : Int32) (h : am_H) (y : Int32 × am_H), k4 v0 v1 v2 h = some y → am_S G miX6_ballsTold 4 [some (va_rf v0), some (.int v1), some (.int v2)] [] h (some (.int y.1)) y.2) (v0 : Option Nat) (v1 : Int32) (v2 : Int32) (h : am_H) (y : Int32 × am_H) (hf : fX6_ballsTold_23 k4 v0 v1 v2 h = some y) : am_S G miX6_ballsTold 23 [some (va_rf v0), some (.int v1), some (.int v2)] [] h (some (.int y.1)) y.2 := by
  unfold fX6_ballsTold_23 at hf
  refine am_iinc (ls' := [some (va_rf v0), some (.int v1), some (.int (v2 + (1 : Int32)))]) dX6_ballsTold_23 rfl rfl (by decide) rfl rfl ?_
  refine am_goto (pc' := 4) dX6_ballsTold_26 (by decide) ?_
  exact hk4 _ _ _ _ _ hf
set_option maxRecDepth 20000 in
set_option maxHeartbeats 4000000 in
theorem sfX6_ballsTold_4 {G : am_G}  : ∀ (n : Nat) (v0 : Option Nat) (v1 : Int32) (v2 : Int32) (h : am_H) (y : Int32 × am_H) (hf : fX6_ballsTold_4  n v0 v1 v2 h = some y), am_S G miX6_ballsTold 4 [some (va_rf v0), some (.int v1), some (.int v2)] [] h (some (.int y.1)) y.2 := by
  intro n
  induction n with
  | zero => intro v0 v1 v2 h y hf; cases hf
  | succ n ih =>
    intro v0 v1 v2 h y hf
    have hf : fX6_ballsTold_4_b  (fX6_ballsTold_4  n) v0 v1 v2 h = some y := hf
    unfold fX6_ballsTold_4_b at hf
    refine am_iload_n dX6_ballsTold_4 rfl rfl ?_
    refine am_bipush (v := 12) dX6_ballsTold_5 (by decide) rfl ?_
    refine am_icmp_ge (tgt := 29) dX6_ballsTold_7 (by decide) rfl hf (fun hf => ?_) (fun hf => ?_)
    · refine am_iload_n dX6_ballsTold_29 rfl rfl ?_
      exact am_iret rfl dX6_ballsTold_30 hf
    refine am_aload_n dX6_ballsTold_10 rfl rfl ?_
    refine am_gr_ dX6_ballsTold_11 fl_X6_18 rfl hf (fun x1 _ hf => ?_)
    refine am_iload_n dX6_ballsTold_14 rfl rfl ?_
    refine am_iald dX6_ballsTold_15 rfl hf (fun x2 _ hf => ?_)
    refine am_iconst (v := -1) dX6_ballsTold_16 rfl rfl ?_
    refine am_icmp_eq (tgt := 23) dX6_ballsTold_17 (by decide) rfl hf (fun hf => ?_) (fun hf => ?_)
    · exact (sfX6_ballsTold_23 ih) _ _ _ _ _ hf
    refine am_iinc (ls' := [some (va_rf v0), some (.int (v1 + (1 : Int32))), some (.int v2)]) dX6_ballsTold_20 rfl rfl (by decide) (am_s1_r (j := 0) rfl rfl) rfl ?_
    exact (sfX6_ballsTold_23 ih) _ _ _ _ _ hf
set_option maxRecDepth 20000 in
set_option maxHeartbeats 4000000 in
theorem sfX6_ballsTold {G : am_G}  (v0 : Nat) (h : am_H) (y : Int32 × am_H) (hf : fX6_ballsTold v0 h = some y) : am_Cn G miX6_ballsTold [va_rf (some v0)] h (some (.int y.1)) y.2 := by
  refine am_beg (ls := [some (va_rf (some v0)), none, none]) (by simp only [am_en, am_e1_r, am_e1_i, am_e1_l, am_e1_n]; rfl) ?_
  unfold fX6_ballsTold at hf
  refine am_iconst (v := 0) dX6_ballsTold_0 rfl rfl ?_
  refine am_istore_n (ls' := [some (va_rf (some v0)), some (.int (0 : Int32)), none]) dX6_ballsTold_1 (by decide) (am_s1_r (j := 0) rfl rfl) rfl ?_
  refine am_iconst (v := 0) dX6_ballsTold_2 rfl rfl ?_
  refine am_istore_n (ls' := [some (va_rf (some v0)), some (.int (0 : Int32)), some (.int (0 : Int32))]) dX6_ballsTold_3 (by decide) rfl rfl ?_
  exact (sfX6_ballsTold_4 _) _ _ _ _ _ hf
set_option maxRecDepth 20000 in
set_option maxHeartbeats 4000000 in
theorem sfX8_count {G : am_G}  (v0 : Nat) (v1 : Int32) (h : am_H) (y : Int32 × am_H) (hf : fX8_count v0 v1 h = some y) : am_Cn G miX8_count [va_rf (some v0), .int v1] h (some (.int y.1)) y.2 := by
  refine am_beg (ls := [some (va_rf (some v0)), some (.int v1)]) (by simp only [am_en, am_e1_r, am_e1_i, am_e1_l, am_e1_n]; rfl) ?_
  unfold fX8_count at hf
  refine am_iload_n dX8_count_0 rfl rfl ?_
  refine am_tsw (d := 76) (l := [(0, 40), (1, 45), (2, 50), (3, 55), (4, 63), (5, 71)]) dX8_count_1 (by decide) (by decide) (by decide) ?_
  refine am_swc hf (fun hf => ?_) (fun hf => ?_)
  · refine am_aload_n dX8_count_40 rfl rfl ?_
    refine am_gi_ dX8_count_41 fl_X8_110 rfl hf (fun x1 _ hf => ?_)
    exact am_iret rfl dX8_count_44 hf
  refine am_swc hf (fun hf => ?_) (fun hf => ?_)
  · refine am_aload_n dX8_count_45 rfl rfl ?_
    refine am_gi_ dX8_count_46 fl_X8_156 rfl hf (fun x2 _ hf => ?_)
    exact am_iret rfl dX8_count_49 hf
  refine am_swc hf (fun hf => ?_) (fun hf => ?_)
  · refine am_aload_n dX8_count_50 rfl rfl ?_
    refine am_gi_ dX8_count_51 fl_X8_183 rfl hf (fun x3 _ hf => ?_)
    exact am_iret rfl dX8_count_54 hf
  refine am_swc hf (fun hf => ?_) (fun hf => ?_)
  · refine am_aload_n dX8_count_55 rfl rfl ?_
    refine am_gr_ dX8_count_56 fl_X8_30 rfl hf (fun x4 _ hf => ?_)
    refine am_gi_ dX8_count_59 fl_X8_91 rfl hf (fun x5 _ hf => ?_)
    exact am_iret rfl dX8_count_62 hf
  refine am_swc hf (fun hf => ?_) (fun hf => ?_)
  · refine am_aload_n dX8_count_63 rfl rfl ?_
    refine am_gr_ dX8_count_64 fl_X8_37 rfl hf (fun x6 _ hf => ?_)
    refine am_cVi (As := []) (st := []) lk_X8_count_318 rfl (Nat.le_of_ble_eq_true rfl) (Nat.le_of_ble_eq_true rfl) rfl dX8_count_67 rfl hf (fun b8 y7 hf => sfX6_ballsTold b8  _ y7 hf) (fun b8 y7 _ _ hf => ?_)
    exact am_iret rfl dX8_count_70 hf
  refine am_swc hf (fun hf => ?_) (fun hf => ?_)
  · refine am_aload_n dX8_count_71 rfl rfl ?_
    refine am_gi_ dX8_count_72 fl_X8_282 rfl hf (fun x9 _ hf => ?_)
    exact am_iret rfl dX8_count_75 hf
  show am_S _ _ 76 _ _ _ _ _
  refine am_bipush (v := -102) dX8_count_76 (by decide) rfl ?_
  exact am_iret rfl dX8_count_78 hf
set_option maxRecDepth 20000 in
set_option maxHeartbeats 4000000 in
theorem sfX0_copyFrom_103 {G : am_G}  : ∀ (n : Nat) (v0 : Option Nat) (v1 : Option Nat) (v2 : Int32) (h : am_H) (y : am_H) (hf : fX0_copyFrom_103  n v0 v1 v2 h = some y), am_S G miX0_copyFrom 103 [some (va_rf v0), some (va_rf v1), some (.int v2)] [] h none y := by
  intro n
  induction n with
  | zero => intro v0 v1 v2 h y hf; cases hf
  | succ n ih =>
    intro v0 v1 v2 h y hf
    have hf : fX0_copyFrom_103_b  (fX0_copyFrom_103  n) v0 v1 v2 h = some y := hf
    unfold fX0_copyFrom_103_b at hf
    refine am_iload_n dX0_copyFrom_103 rfl rfl ?_
    refine am_bipush (v := 12) dX0_copyFrom_104 (by decide) rfl ?_
    refine am_icmp_ge (tgt := 127) dX0_copyFrom_106 (by decide) rfl hf (fun hf => ?_) (fun hf => ?_)
    · exact am_vret rfl dX0_copyFrom_127 hf
    refine am_aload_n dX0_copyFrom_109 rfl rfl ?_
    refine am_gr_ dX0_copyFrom_110 fl_X0_24 rfl hf (fun x1 _ hf => ?_)
    refine am_iload_n dX0_copyFrom_113 rfl rfl ?_
    refine am_aload_n dX0_copyFrom_114 rfl rfl ?_
    refine am_gr_ dX0_copyFrom_115 fl_X0_24 rfl hf (fun x2 _ hf => ?_)
    refine am_iload_n dX0_copyFrom_118 rfl rfl ?_
    refine am_iald dX0_copyFrom_119 rfl hf (fun x3 _ hf => ?_)
    refine am_iast dX0_copyFrom_120 rfl hf (fun h4 _ hf => ?_)
    refine am_iinc (ls' := [some (va_rf v0), some (va_rf v1), some (.int (v2 + (1 : Int32)))]) dX0_copyFrom_121 rfl rfl (by decide) (am_s1_r (j := 1) rfl rfl) rfl ?_
    refine am_goto (pc' := 103) dX0_copyFrom_124 (by decide) ?_
    exact ih _ _ _ _ _ hf
set_option maxRecDepth 20000 in
set_option maxHeartbeats 4000000 in
theorem sfX0_copyFrom_10 {G : am_G}  : ∀ (n : Nat) (v0 : Option Nat) (v1 : Option Nat) (v2 : Int32) (h : am_H) (y : am_H) (hf : fX0_copyFrom_10  n v0 v1 v2 h = some y), am_S G miX0_copyFrom 10 [some (va_rf v0), some (va_rf v1), some (.int v2)] [] h none y := by
  intro n
  induction n with
  | zero => intro v0 v1 v2 h y hf; cases hf
  | succ n ih =>
    intro v0 v1 v2 h y hf
    have hf : fX0_copyFrom_10_b  (fX0_copyFrom_10  n) v0 v1 v2 h = some y := hf
    unfold fX0_copyFrom_10_b at hf
    refine am_iload_n dX0_copyFrom_10 rfl rfl ?_
    refine am_iconst (v := 3) dX0_copyFrom_11 rfl rfl ?_
    refine am_icmp_ge (tgt := 69) dX0_copyFrom_12 (by decide) rfl hf (fun hf => ?_) (fun hf => ?_)
    · refine am_aload_n dX0_copyFrom_69 rfl rfl ?_
      refine am_aload_n dX0_copyFrom_70 rfl rfl ?_
      refine am_gi_ dX0_copyFrom_71 fl_X0_31 rfl hf (fun x1 _ hf => ?_)
      refine am_pi_ dX0_copyFrom_74 fl_X0_31 fp_0_5 (fun z => by cases z) rfl hf (fun h2 _ hf => ?_)
      refine am_aload_n dX0_copyFrom_77 rfl rfl ?_
      refine am_aload_n dX0_copyFrom_78 rfl rfl ?_
      refine am_gi_ dX0_copyFrom_79 fl_X0_34 rfl hf (fun x3 _ hf => ?_)
      refine am_pi_ dX0_copyFrom_82 fl_X0_34 fp_0_6 (fun z => by cases z) rfl hf (fun h4 _ hf => ?_)
      refine am_aload_n dX0_copyFrom_85 rfl rfl ?_
      refine am_aload_n dX0_copyFrom_86 rfl rfl ?_
      refine am_gi_ dX0_copyFrom_87 fl_X0_37 rfl hf (fun x5 _ hf => ?_)
      refine am_pi_ dX0_copyFrom_90 fl_X0_37 fp_0_7 (fun z => by cases z) rfl hf (fun h6 _ hf => ?_)
      refine am_aload_n dX0_copyFrom_93 rfl rfl ?_
      refine am_aload_n dX0_copyFrom_94 rfl rfl ?_
      refine am_gi_ dX0_copyFrom_95 fl_X0_40 rfl hf (fun x7 _ hf => ?_)
      refine am_pi_ dX0_copyFrom_98 fl_X0_40 fp_0_8 (fun z => by cases z) rfl hf (fun h8 _ hf => ?_)
      refine am_iconst (v := 0) dX0_copyFrom_101 rfl rfl ?_
      refine am_istore_n (ls' := [some (va_rf v0), some (va_rf v1), some (.int (0 : Int32))]) dX0_copyFrom_102 (by decide) (am_s1_r (j := 1) rfl rfl) rfl ?_
      exact (sfX0_copyFrom_103 _) _ _ _ _ _ hf
    refine am_aload_n dX0_copyFrom_15 rfl rfl ?_
    refine am_gr_ dX0_copyFrom_16 fl_X0_9 rfl hf (fun x9 _ hf => ?_)
    refine am_iload_n dX0_copyFrom_19 rfl rfl ?_
    refine am_aload_n dX0_copyFrom_20 rfl rfl ?_
    refine am_gr_ dX0_copyFrom_21 fl_X0_9 rfl hf (fun x10 _ hf => ?_)
    refine am_iload_n dX0_copyFrom_24 rfl rfl ?_
    refine am_iald dX0_copyFrom_25 rfl hf (fun x11 _ hf => ?_)
    refine am_iast dX0_copyFrom_26 rfl hf (fun h12 _ hf => ?_)
    refine am_aload_n dX0_copyFrom_27 rfl rfl ?_
    refine am_gr_ dX0_copyFrom_28 fl_X0_15 rfl hf (fun x13 _ hf => ?_)
    refine am_iload_n dX0_copyFrom_31 rfl rfl ?_
    refine am_aload_n dX0_copyFrom_32 rfl rfl ?_
    refine am_gr_ dX0_copyFrom_33 fl_X0_15 rfl hf (fun x14 _ hf => ?_)
    refine am_iload_n dX0_copyFrom_36 rfl rfl ?_
    refine am_iald dX0_copyFrom_37 rfl hf (fun x15 _ hf => ?_)
    refine am_iast dX0_copyFrom_38 rfl hf (fun h16 _ hf => ?_)
    refine am_aload_n dX0_copyFrom_39 rfl rfl ?_
    refine am_gr_ dX0_copyFrom_40 fl_X0_18 rfl hf (fun x17 _ hf => ?_)
    refine am_iload_n dX0_copyFrom_43 rfl rfl ?_
    refine am_aload_n dX0_copyFrom_44 rfl rfl ?_
    refine am_gr_ dX0_copyFrom_45 fl_X0_18 rfl hf (fun x18 _ hf => ?_)
    refine am_iload_n dX0_copyFrom_48 rfl rfl ?_
    refine am_iald dX0_copyFrom_49 rfl hf (fun x19 _ hf => ?_)
    refine am_iast dX0_copyFrom_50 rfl hf (fun h20 _ hf => ?_)
    refine am_aload_n dX0_copyFrom_51 rfl rfl ?_
    refine am_gr_ dX0_copyFrom_52 fl_X0_21 rfl hf (fun x21 _ hf => ?_)
    refine am_iload_n dX0_copyFrom_55 rfl rfl ?_
    refine am_aload_n dX0_copyFrom_56 rfl rfl ?_
    refine am_gr_ dX0_copyFrom_57 fl_X0_21 rfl hf (fun x22 _ hf => ?_)
    refine am_iload_n dX0_copyFrom_60 rfl rfl ?_
    refine am_iald dX0_copyFrom_61 rfl hf (fun x23 _ hf => ?_)
    refine am_iast dX0_copyFrom_62 rfl hf (fun h24 _ hf => ?_)
    refine am_iinc (ls' := [some (va_rf v0), some (va_rf v1), some (.int (v2 + (1 : Int32)))]) dX0_copyFrom_63 rfl rfl (by decide) (am_s1_r (j := 1) rfl rfl) rfl ?_
    refine am_goto (pc' := 10) dX0_copyFrom_66 (by decide) ?_
    exact ih _ _ _ _ _ hf
set_option maxRecDepth 20000 in
set_option maxHeartbeats 4000000 in
theorem sfX0_copyFrom {G : am_G}  (v0 : Nat) (v1 : Option Nat) (h : am_H) (y : am_H) (hf : fX0_copyFrom v0 v1 h = some y) : am_Cn G miX0_copyFrom [va_rf (some v0), va_rf v1] h none y := by
  refine am_beg (ls := [some (va_rf (some v0)), some (va_rf v1), none]) (by simp only [am_en, am_e1_r, am_e1_i, am_e1_l, am_e1_n]; rfl) ?_
  unfold fX0_copyFrom at hf
  refine am_aload_n dX0_copyFrom_0 rfl rfl ?_
  refine am_aload_n dX0_copyFrom_1 rfl rfl ?_
  refine am_gi_ dX0_copyFrom_2 fl_X0_27 rfl hf (fun x1 _ hf => ?_)
  refine am_pi_ dX0_copyFrom_5 fl_X0_27 fp_0_0 (fun z => by cases z) rfl hf (fun h2 _ hf => ?_)
  refine am_iconst (v := 0) dX0_copyFrom_8 rfl rfl ?_
  refine am_istore_n (ls' := [some (va_rf (some v0)), some (va_rf v1), some (.int (0 : Int32))]) dX0_copyFrom_9 (by decide) (am_s1_r (j := 1) rfl rfl) rfl ?_
  exact (sfX0_copyFrom_10 _) _ _ _ _ _ hf
set_option maxRecDepth 20000 in
set_option maxHeartbeats 4000000 in
theorem sfX8_clock {G : am_G}  (v0 : Nat) (h : am_H) (y : Int32 × am_H) (hf : fX8_clock v0 h = some y) : am_Cn G miX8_clock [va_rf (some v0)] h (some (.int y.1)) y.2 := by
  refine am_beg (ls := [some (va_rf (some v0)), none]) (by simp only [am_en, am_e1_r, am_e1_i, am_e1_l, am_e1_n]; rfl) ?_
  unfold fX8_clock at hf
  refine am_aload_n dX8_clock_0 rfl rfl ?_
  refine am_gr_ dX8_clock_1 fl_X8_30 rfl hf (fun x1 _ hf => ?_)
  refine am_aload_n dX8_clock_4 rfl rfl ?_
  refine am_gr_ dX8_clock_5 fl_X8_45 rfl hf (fun x2 _ hf => ?_)
  refine am_cVi (As := [va_rf x2]) (st := []) lk_X8_clock_103 rfl (by simp only [am_e1_r, am_e1_i, am_e1_l, am_e1_n]; exact Nat.le_of_ble_eq_true rfl) (Nat.le_of_ble_eq_true rfl) rfl dX8_clock_8 rfl hf (fun b4 y3 hf => sfX3_readClock b4 _ _ y3 hf) (fun b4 y3 _ _ hf => ?_)
  refine am_if_ne (tgt := 17) dX8_clock_11 (by decide) rfl hf (fun hf => ?_) (fun hf => ?_)
  · refine am_aload_n dX8_clock_17 rfl rfl ?_
    refine am_gi_ dX8_clock_18 fl_X8_110 rfl hf (fun x5 _ hf => ?_)
    refine am_iconst (v := 4) dX8_clock_21 rfl rfl ?_
    refine am_icmp_lt (tgt := 28) dX8_clock_22 (by decide) rfl hf (fun hf => ?_) (fun hf => ?_)
    · refine am_new_ nw_X8_9 dX8_clock_28 rfl hf (fun y6 _ hf => ?_)
      refine am_dup dX8_clock_31 (am_c1 _) rfl ?_
      refine am_ini (As := []) (st := [va_rf (some y6.1)]) (b := y6.1) lk_X8_clock_44 rfl (Nat.le_of_ble_eq_true rfl) (by simp only [List.map_cons, List.map_nil, am_c1, am_ci, am_cl]; exact Nat.le_of_ble_eq_true rfl) rfl dX8_clock_32 rfl hf (fun y7 hf => sfX0_init _  _ y7 hf) (fun y7 _ hf => ?_)
      refine am_astore_n (ls' := [some (va_rf (some v0)), some (va_rf (some y6.1))]) dX8_clock_35 (by decide) (am_s1_r (j := 0) rfl rfl) rfl ?_
      refine am_aload_n dX8_clock_36 rfl rfl ?_
      refine am_aload_n dX8_clock_37 rfl rfl ?_
      refine am_gr_ dX8_clock_38 fl_X8_45 rfl hf (fun x8 _ hf => ?_)
      refine am_cVv (As := [va_rf x8]) (st := []) lk_X8_clock_113 rfl (by simp only [am_e1_r, am_e1_i, am_e1_l, am_e1_n]; exact Nat.le_of_ble_eq_true rfl) (Nat.le_of_ble_eq_true rfl) rfl dX8_clock_41 rfl hf (fun b10 y9 hf => sfX0_copyFrom b10 _ _ y9 hf) (fun b10 y9 _ _ hf => ?_)
      refine am_aload_n dX8_clock_44 rfl rfl ?_
      refine am_gr_ dX8_clock_45 fl_X8_11 rfl hf (fun x11 _ hf => ?_)
      refine am_aload_n dX8_clock_48 rfl rfl ?_
      refine am_gi_ dX8_clock_49 fl_X8_110 rfl hf (fun x12 _ hf => ?_)
      refine am_aload_n dX8_clock_52 rfl rfl ?_
      refine am_asr_ (t := 4) rfl rfl (by decide) dX8_clock_53 rfl hf (fun h13 _ hf => ?_)
      refine am_aload_n dX8_clock_54 rfl rfl ?_
      refine am_dup dX8_clock_55 (am_c1 _) rfl ?_
      refine am_gi_ dX8_clock_56 fl_X8_110 rfl hf (fun x14 _ hf => ?_)
      refine am_iconst (v := 1) dX8_clock_59 rfl rfl ?_
      refine am_iadd dX8_clock_60 rfl ?_
      refine am_pi_ dX8_clock_61 fl_X8_110 fp_8_3 (fun z => by cases z) rfl hf (fun h15 _ hf => ?_)
      refine am_aload_n dX8_clock_64 rfl rfl ?_
      refine am_gr_ dX8_clock_65 fl_X8_30 rfl hf (fun x16 _ hf => ?_)
      refine am_iconst (v := 0) dX8_clock_68 rfl rfl ?_
      refine am_pi_ dX8_clock_69 fl_X8_91 fp_3_1 (fun z => by cases z) rfl hf (fun h17 _ hf => ?_)
      refine am_aload_n dX8_clock_72 rfl rfl ?_
      refine am_gi_ dX8_clock_73 fl_X8_110 rfl hf (fun x18 _ hf => ?_)
      refine am_iconst (v := 1) dX8_clock_76 rfl rfl ?_
      refine am_isub dX8_clock_77 rfl ?_
      exact am_iret rfl dX8_clock_78 hf
    refine am_bipush (v := -104) dX8_clock_25 (by decide) rfl ?_
    exact am_iret rfl dX8_clock_27 hf
  refine am_bipush (v := -103) dX8_clock_14 (by decide) rfl ?_
  exact am_iret rfl dX8_clock_16 hf
set_option maxRecDepth 20000 in
set_option maxHeartbeats 4000000 in
theorem sfL_clock_436 {G : am_G}  {k365 : Option Nat → Int32 → Int32 → Option Nat → Int32 → Int32 → Int32 → am_H → Option (Int32 × am_H)} (hk365 : ∀ (v0 : Option Nat) (v2 : Int32) (v4 : Int32) (v5 : Option Nat) (v6 : Int32) (v7 : Int32) (v8 : Int32) (h : am_H) (y : Int32 × am_H), k365 v0 v2 v4 v5 v6 v7 v8 h = some y → am_S G miL_clock 365 [some (va_rf v0), none, some (.int v2), none, some (.int v4), some (va_rf v5), some (.int v6), some (.int v7), some (.int v8)] [] h (some (.int y.1)) y.2) (v0 : Option Nat) (v2 : Int32) (v4 : Int32) (v5 : Option Nat) (v7 : Int32) (v8 : Int32) (s0 : Int32) (h : am_H) (y : Int32 × am_H) (hf : fL_clock_436 k365 v0 v2 v4 v5 v7 v8 s0 h = some y) : am_S G miL_clock 436 [some (va_rf v0), none, some (.int v2), none, some (.int v4), some (va_rf v5), none, some (.int v7), some (.int v8)] [.int s0] h (some (.int y.1)) y.2 := by
  unfold fL_clock_436 at hf
  refine am_istore (ls' := [some (va_rf v0), none, some (.int v2), none, some (.int v4), some (va_rf v5), some (.int s0), some (.int v7), some (.int v8)]) dL_clock_436 (by decide) (am_s1_r (j := 5) rfl rfl) rfl ?_
  refine am_iinc (ls' := [some (va_rf v0), none, some (.int v2), none, some (.int v4), some (va_rf v5), some (.int s0), some (.int v7), some (.int (v8 + (1 : Int32)))]) dL_clock_438 rfl rfl (by decide) rfl rfl ?_
  refine am_goto (pc' := 365) dL_clock_441 (by decide) ?_
  exact hk365 _ _ _ _ _ _ _ _ _ hf
set_option maxRecDepth 20000 in
set_option maxHeartbeats 4000000 in
theorem sfL_clock_435 {G : am_G}  {k436 : Option Nat → Int32 → Int32 → Option Nat → Int32 → Int32 → Int32 → am_H → Option (Int32 × am_H)} (hk436 : ∀ (v0 : Option Nat) (v2 : Int32) (v4 : Int32) (v5 : Option Nat) (v7 : Int32) (v8 : Int32) (s0 : Int32) (h : am_H) (y : Int32 × am_H), k436 v0 v2 v4 v5 v7 v8 s0 h = some y → am_S G miL_clock 436 [some (va_rf v0), none, some (.int v2), none, some (.int v4), some (va_rf v5), none, some (.int v7), some (.int v8)] [.int s0] h (some (.int y.1)) y.2) (v0 : Option Nat) (v2 : Int32) (v4 : Int32) (v5 : Option Nat) (v7 : Int32) (v8 : Int32) (h : am_H) (y : Int32 × am_H) (hf : fL_clock_435 k436 v0 v2 v4 v5 v7 v8 h = some y) : am_S G miL_clock 435 [some (va_rf v0), none, some (.int v2), none, some (.int v4), some (va_rf v5), none, some (.int v7), some (.int v8)] [] h (some (.int y.1)) y.2 := by
  unfold fL_clock_435 at hf
  refine am_iconst (v := 0) dL_clock_435 rfl rfl ?_
  exact hk436 _ _ _ _ _ _ _ _ _ hf
set_option maxRecDepth 20000 in
set_option maxHeartbeats 4000000 in
theorem sfL_clock_422 {G : am_G}  {k435 : Option Nat → Int32 → Int32 → Option Nat → Int32 → Int32 → am_H → Option (Int32 × am_H)} (hk435 : ∀ (v0 : Option Nat) (v2 : Int32) (v4 : Int32) (v5 : Option Nat) (v7 : Int32) (v8 : Int32) (h : am_H) (y : Int32 × am_H), k435 v0 v2 v4 v5 v7 v8 h = some y → am_S G miL_clock 435 [some (va_rf v0), none, some (.int v2), none, some (.int v4), some (va_rf v5), none, some (.int v7), some (.int v8)] [] h (some (.int y.1)) y.2) {k436 : Option Nat → Int32 → Int32 → Option Nat → Int32 → Int32 → Int32 → am_H → Option (Int32 × am_H)} (hk436 : ∀ (v0 : Option Nat) (v2 : Int32) (v4 : Int32) (v5 : Option Nat) (v7 : Int32) (v8 : Int32) (s0 : Int32) (h : am_H) (y : Int32 × am_H), k436 v0 v2 v4 v5 v7 v8 s0 h = some y → am_S G miL_clock 436 [some (va_rf v0), none, some (.int v2), none, some (.int v4), some (va_rf v5), none, some (.int v7), some (.int v8)] [.int s0] h (some (.int y.1)) y.2) (v0 : Option Nat) (v2 : Int32) (v4 : Int32) (v5 : Option Nat) (v7 : Int32) (v8 : Int32) (h : am_H) (y : Int32 × am_H) (hf : fL_clock_422 k435 k436 v0 v2 v4 v5 v7 v8 h = some y) : am_S G miL_clock 422 [some (va_rf v0), none, some (.int v2), none, some (.int v4), some (va_rf v5), none, some (.int v7), some (.int v8)] [] h (some (.int y.1)) y.2 := by
  unfold fL_clock_422 at hf
  refine am_aload_n dL_clock_422 rfl rfl ?_
  refine am_iload dL_clock_423 rfl rfl ?_
  refine am_cSi (As := [va_rf v0, .int v7]) (st := []) lk_L_clock_21 rfl (by simp only [am_e1_r, am_e1_i, am_e1_l, am_e1_n]; exact Nat.le_of_ble_eq_true rfl) (Nat.le_of_ble_eq_true rfl) rfl dL_clock_425 rfl hf (fun y1 hf => sfL_number _ _ _ y1 hf) (fun y1 _ hf => ?_)
  refine am_if_eq (tgt := 435) dL_clock_428 (by decide) rfl hf (fun hf => ?_) (fun hf => ?_)
  · exact hk435 _ _ _ _ _ _ _ _ hf
  refine am_iconst (v := 1) dL_clock_431 rfl rfl ?_
  refine am_goto (pc' := 436) dL_clock_432 (by decide) ?_
  exact hk436 _ _ _ _ _ _ _ _ _ hf
set_option maxRecDepth 20000 in
set_option maxHeartbeats 4000000 in
theorem sfL_clock_365 {G : am_G}  : ∀ (n : Nat) (v0 : Option Nat) (v2 : Int32) (v4 : Int32) (v5 : Option Nat) (v6 : Int32) (v7 : Int32) (v8 : Int32) (h : am_H) (y : Int32 × am_H) (hf : fL_clock_365  n v0 v2 v4 v5 v6 v7 v8 h = some y), am_S G miL_clock 365 [some (va_rf v0), none, some (.int v2), none, some (.int v4), some (va_rf v5), some (.int v6), some (.int v7), some (.int v8)] [] h (some (.int y.1)) y.2 := by
  intro n
  induction n with
  | zero => intro v0 v2 v4 v5 v6 v7 v8 h y hf; cases hf
  | succ n ih =>
    intro v0 v2 v4 v5 v6 v7 v8 h y hf
    have hf : fL_clock_365_b  (fL_clock_365  n) v0 v2 v4 v5 v6 v7 v8 h = some y := hf
    unfold fL_clock_365_b at hf
    refine am_iload dL_clock_365 rfl rfl ?_
    refine am_aload dL_clock_367 rfl rfl ?_
    refine am_iconst (v := 4) dL_clock_369 rfl rfl ?_
    refine am_iald dL_clock_370 rfl hf (fun x1 _ hf => ?_)
    refine am_icmp_ge (tgt := 444) dL_clock_371 (by decide) rfl hf (fun hf => ?_) (fun hf => ?_)
    · refine am_iload dL_clock_444 rfl rfl ?_
      refine am_if_eq (tgt := 474) dL_clock_446 (by decide) rfl hf (fun hf => ?_) (fun hf => ?_)
      · refine am_iconst (v := 0) dL_clock_474 rfl rfl ?_
        exact am_zret rfl dL_clock_475 hf
      refine am_aload_n dL_clock_449 rfl rfl ?_
      refine am_cVi (As := []) (st := []) lk_L_clock_24 rfl (Nat.le_of_ble_eq_true rfl) (Nat.le_of_ble_eq_true rfl) rfl dL_clock_450 rfl hf (fun b3 y2 hf => sfX8_fault b3  _ y2 hf) (fun b3 y2 _ _ hf => ?_)
      refine am_aload_n dL_clock_453 rfl rfl ?_
      refine am_iconst (v := 3) dL_clock_454 rfl rfl ?_
      refine am_cVi (As := [.int (3 : Int32)]) (st := [.int y2.1]) lk_L_clock_28 rfl (Nat.le_of_ble_eq_true rfl) (Nat.le_of_ble_eq_true rfl) rfl dL_clock_455 rfl hf (fun b5 y4 hf => sfX8_count b5 _ _ y4 hf) (fun b5 y4 _ _ hf => ?_)
      refine am_icmp_ne (tgt := 474) dL_clock_458 (by decide) rfl hf (fun hf => ?_) (fun hf => ?_)
      · refine am_iconst (v := 0) dL_clock_474 rfl rfl ?_
        exact am_zret rfl dL_clock_475 hf
      refine am_aload_n dL_clock_461 rfl rfl ?_
      refine am_cVi (As := []) (st := []) lk_L_clock_32 rfl (Nat.le_of_ble_eq_true rfl) (Nat.le_of_ble_eq_true rfl) rfl dL_clock_462 rfl hf (fun b7 y6 hf => sfX8_clock b7  _ y6 hf) (fun b7 y6 _ _ hf => ?_)
      refine am_iload dL_clock_465 rfl rfl ?_
      refine am_icmp_ne (tgt := 474) dL_clock_467 (by decide) rfl hf (fun hf => ?_) (fun hf => ?_)
      · refine am_iconst (v := 0) dL_clock_474 rfl rfl ?_
        exact am_zret rfl dL_clock_475 hf
      refine am_iconst (v := 1) dL_clock_470 rfl rfl ?_
      refine am_goto (pc' := 475) dL_clock_471 (by decide) ?_
      exact am_zret rfl dL_clock_475 hf
    refine am_iload dL_clock_374 rfl rfl ?_
    refine am_iconst (v := 1) dL_clock_376 rfl rfl ?_
    refine am_iload_n dL_clock_377 rfl rfl ?_
    refine am_iconst (v := 2) dL_clock_378 rfl rfl ?_
    refine am_iload dL_clock_379 rfl rfl ?_
    refine am_imul dL_clock_381 rfl ?_
    refine am_ishr dL_clock_382 rfl ?_
    refine am_bipush (v := 15) dL_clock_383 (by decide) rfl ?_
    refine am_iand dL_clock_385 rfl ?_
    refine am_bipush (v := 8) dL_clock_386 (by decide) rfl ?_
    refine am_irem dL_clock_388 rfl hf (fun hf => ?_)
    refine am_iadd dL_clock_389 rfl ?_
    refine am_iadd dL_clock_390 rfl ?_
    refine am_istore (ls' := [some (va_rf v0), none, some (.int v2), none, some (.int v4), some (va_rf v5), some (.int v6), some (.int (v7 + ((1 : Int32) + (((v2 >>> (((2 : Int32) * v8) &&& 31)) &&& (15 : Int32)) - ((v2 >>> (((2 : Int32) * v8) &&& 31)) &&& (15 : Int32)) / (8 : Int32) * (8 : Int32))))), some (.int v8)]) dL_clock_391 (by decide) rfl rfl ?_
    refine am_aload dL_clock_393 rfl rfl ?_
    refine am_bipush (v := 14) dL_clock_395 (by decide) rfl ?_
    refine am_iload dL_clock_397 rfl rfl ?_
    refine am_iadd dL_clock_399 rfl ?_
    refine am_iload dL_clock_400 rfl rfl ?_
    refine am_iast dL_clock_402 rfl hf (fun h8 _ hf => ?_)
    refine am_iload dL_clock_403 rfl rfl ?_
    refine am_if_eq (tgt := 435) dL_clock_405 (by decide) rfl hf (fun hf => ?_) (fun hf => ?_)
    · exact am_we ((sfL_clock_435 (sfL_clock_436 ih)) _ _ _ _ _ _ _ _ hf) ⟨Or.inr rfl, Or.inl rfl, Or.inr rfl, Or.inl rfl, Or.inr rfl, Or.inr rfl, Or.inl rfl, Or.inr rfl, Or.inr rfl, trivial⟩
    refine am_iload dL_clock_408 rfl rfl ?_
    refine am_if_eq (tgt := 422) dL_clock_410 (by decide) rfl hf (fun hf => ?_) (fun hf => ?_)
    · exact am_we ((sfL_clock_422 (sfL_clock_435 (sfL_clock_436 ih)) (sfL_clock_436 ih)) _ _ _ _ _ _ _ _ hf) ⟨Or.inr rfl, Or.inl rfl, Or.inr rfl, Or.inl rfl, Or.inr rfl, Or.inr rfl, Or.inl rfl, Or.inr rfl, Or.inr rfl, trivial⟩
    refine am_aload_n dL_clock_413 rfl rfl ?_
    refine am_bipush (v := 44) dL_clock_414 (by decide) rfl ?_
    refine am_cSi (As := [va_rf v0, .int (44 : Int32)]) (st := []) lk_L_clock_14 rfl (by simp only [am_e1_r, am_e1_i, am_e1_l, am_e1_n]; exact Nat.le_of_ble_eq_true rfl) (Nat.le_of_ble_eq_true rfl) rfl dL_clock_416 rfl hf (fun y9 hf => sfL_put _ _ _ y9 hf) (fun y9 _ hf => ?_)
    refine am_if_eq (tgt := 435) dL_clock_419 (by decide) rfl hf (fun hf => ?_) (fun hf => ?_)
    · exact am_we ((sfL_clock_435 (sfL_clock_436 ih)) _ _ _ _ _ _ _ _ hf) ⟨Or.inr rfl, Or.inl rfl, Or.inr rfl, Or.inl rfl, Or.inr rfl, Or.inr rfl, Or.inl rfl, Or.inr rfl, Or.inr rfl, trivial⟩
    exact am_we ((sfL_clock_422 (sfL_clock_435 (sfL_clock_436 ih)) (sfL_clock_436 ih)) _ _ _ _ _ _ _ _ hf) ⟨Or.inr rfl, Or.inl rfl, Or.inr rfl, Or.inl rfl, Or.inr rfl, Or.inr rfl, Or.inl rfl, Or.inr rfl, Or.inr rfl, trivial⟩
set_option maxRecDepth 20000 in
set_option maxHeartbeats 4000000 in
theorem sfL_clock_357 {G : am_G}  (v0 : Option Nat) (v2 : Int32) (v4 : Int32) (v5 : Option Nat) (s0 : Int32) (h : am_H) (y : Int32 × am_H) (hf : fL_clock_357  v0 v2 v4 v5 s0 h = some y) : am_S G miL_clock 357 [some (va_rf v0), none, some (.int v2), none, some (.int v4), some (va_rf v5), none, none, none] [.int s0] h (some (.int y.1)) y.2 := by
  unfold fL_clock_357 at hf
  refine am_istore (ls' := [some (va_rf v0), none, some (.int v2), none, some (.int v4), some (va_rf v5), some (.int s0), none, none]) dL_clock_357 (by decide) (am_s1_r (j := 5) rfl rfl) rfl ?_
  refine am_iconst (v := 0) dL_clock_359 rfl rfl ?_
  refine am_istore (ls' := [some (va_rf v0), none, some (.int v2), none, some (.int v4), some (va_rf v5), some (.int s0), some (.int (0 : Int32)), none]) dL_clock_360 (by decide) rfl rfl ?_
  refine am_iconst (v := 0) dL_clock_362 rfl rfl ?_
  refine am_istore (ls' := [some (va_rf v0), none, some (.int v2), none, some (.int v4), some (va_rf v5), some (.int s0), some (.int (0 : Int32)), some (.int (0 : Int32))]) dL_clock_363 (by decide) rfl rfl ?_
  exact (sfL_clock_365 _) _ _ _ _ _ _ _ _ _ hf
set_option maxRecDepth 20000 in
set_option maxHeartbeats 4000000 in
theorem sfL_clock_356 {G : am_G}  {k357 : Option Nat → Int32 → Int32 → Option Nat → Int32 → am_H → Option (Int32 × am_H)} (hk357 : ∀ (v0 : Option Nat) (v2 : Int32) (v4 : Int32) (v5 : Option Nat) (s0 : Int32) (h : am_H) (y : Int32 × am_H), k357 v0 v2 v4 v5 s0 h = some y → am_S G miL_clock 357 [some (va_rf v0), none, some (.int v2), none, some (.int v4), some (va_rf v5), none, none, none] [.int s0] h (some (.int y.1)) y.2) (v0 : Option Nat) (v2 : Int32) (v4 : Int32) (v5 : Option Nat) (h : am_H) (y : Int32 × am_H) (hf : fL_clock_356 k357 v0 v2 v4 v5 h = some y) : am_S G miL_clock 356 [some (va_rf v0), none, some (.int v2), none, some (.int v4), some (va_rf v5), none, none, none] [] h (some (.int y.1)) y.2 := by
  unfold fL_clock_356 at hf
  refine am_iconst (v := 0) dL_clock_356 rfl rfl ?_
  exact hk357 _ _ _ _ _ _ _ hf
set_option maxRecDepth 20000 in
set_option maxHeartbeats 4000000 in
theorem sfL_clock_252 {G : am_G}  {k73 : Option Nat → Int32 → Int32 → Int32 → Option Nat → Int32 → Int32 → am_H → Option (Int32 × am_H)} (hk73 : ∀ (v0 : Option Nat) (v2 : Int32) (v3 : Int32) (v4 : Int32) (v5 : Option Nat) (v6 : Int32) (v7 : Int32) (h : am_H) (y : Int32 × am_H), k73 v0 v2 v3 v4 v5 v6 v7 h = some y → am_S G miL_clock 73 [some (va_rf v0), none, some (.int v2), some (.int v3), some (.int v4), some (va_rf v5), some (.int v6), some (.int v7), none] [] h (some (.int y.1)) y.2) (v0 : Option Nat) (v2 : Int32) (v3 : Int32) (v4 : Int32) (v5 : Option Nat) (v7 : Int32) (s0 : Int32) (h : am_H) (y : Int32 × am_H) (hf : fL_clock_252 k73 v0 v2 v3 v4 v5 v7 s0 h = some y) : am_S G miL_clock 252 [some (va_rf v0), none, some (.int v2), some (.int v3), some (.int v4), some (va_rf v5), none, some (.int v7), none] [.int s0] h (some (.int y.1)) y.2 := by
  unfold fL_clock_252 at hf
  refine am_istore (ls' := [some (va_rf v0), none, some (.int v2), some (.int v3), some (.int v4), some (va_rf v5), some (.int s0), some (.int v7), none]) dL_clock_252 (by decide) (am_s1_r (j := 5) rfl rfl) rfl ?_
  refine am_iinc (ls' := [some (va_rf v0), none, some (.int v2), some (.int v3), some (.int v4), some (va_rf v5), some (.int s0), some (.int (v7 + (1 : Int32))), none]) dL_clock_254 rfl rfl (by decide) rfl rfl ?_
  refine am_goto (pc' := 73) dL_clock_257 (by decide) ?_
  exact hk73 _ _ _ _ _ _ _ _ _ hf
set_option maxRecDepth 20000 in
set_option maxHeartbeats 4000000 in
theorem sfL_clock_251 {G : am_G}  {k252 : Option Nat → Int32 → Int32 → Int32 → Option Nat → Int32 → Int32 → am_H → Option (Int32 × am_H)} (hk252 : ∀ (v0 : Option Nat) (v2 : Int32) (v3 : Int32) (v4 : Int32) (v5 : Option Nat) (v7 : Int32) (s0 : Int32) (h : am_H) (y : Int32 × am_H), k252 v0 v2 v3 v4 v5 v7 s0 h = some y → am_S G miL_clock 252 [some (va_rf v0), none, some (.int v2), some (.int v3), some (.int v4), some (va_rf v5), none, some (.int v7), none] [.int s0] h (some (.int y.1)) y.2) (v0 : Option Nat) (v2 : Int32) (v3 : Int32) (v4 : Int32) (v5 : Option Nat) (v7 : Int32) (h : am_H) (y : Int32 × am_H) (hf : fL_clock_251 k252 v0 v2 v3 v4 v5 v7 h = some y) : am_S G miL_clock 251 [some (va_rf v0), none, some (.int v2), some (.int v3), some (.int v4), some (va_rf v5), none, some (.int v7), none] [] h (some (.int y.1)) y.2 := by
  unfold fL_clock_251 at hf
  refine am_iconst (v := 0) dL_clock_251 rfl rfl ?_
  exact hk252 _ _ _ _ _ _ _ _ _ hf
set_option maxRecDepth 20000 in
set_option maxHeartbeats 4000000 in
theorem sfL_clock_179 {G : am_G}  {k251 : Option Nat → Int32 → Int32 → Int32 → Option Nat → Int32 → am_H → Option (Int32 × am_H)} (hk251 : ∀ (v0 : Option Nat) (v2 : Int32) (v3 : Int32) (v4 : Int32) (v5 : Option Nat) (v7 : Int32) (h : am_H) (y : Int32 × am_H), k251 v0 v2 v3 v4 v5 v7 h = some y → am_S G miL_clock 251 [some (va_rf v0), none, some (.int v2), some (.int v3), some (.int v4), some (va_rf v5), none, some (.int v7), none] [] h (some (.int y.1)) y.2) {k252 : Option Nat → Int32 → Int32 → Int32 → Option Nat → Int32 → Int32 → am_H → Option (Int32 × am_H)} (hk252 : ∀ (v0 : Option Nat) (v2 : Int32) (v3 : Int32) (v4 : Int32) (v5 : Option Nat) (v7 : Int32) (s0 : Int32) (h : am_H) (y : Int32 × am_H), k252 v0 v2 v3 v4 v5 v7 s0 h = some y → am_S G miL_clock 252 [some (va_rf v0), none, some (.int v2), some (.int v3), some (.int v4), some (va_rf v5), none, some (.int v7), none] [.int s0] h (some (.int y.1)) y.2) (v0 : Option Nat) (v2 : Int32) (v3 : Int32) (v4 : Int32) (v5 : Option Nat) (v7 : Int32) (h : am_H) (y : Int32 × am_H) (hf : fL_clock_179 k251 k252 v0 v2 v3 v4 v5 v7 h = some y) : am_S G miL_clock 179 [some (va_rf v0), none, some (.int v2), some (.int v3), some (.int v4), some (va_rf v5), none, some (.int v7), none] [] h (some (.int y.1)) y.2 := by
  unfold fL_clock_179 at hf
  refine am_aload_n dL_clock_179 rfl rfl ?_
  refine am_aload dL_clock_180 rfl rfl ?_
  refine am_iconst (v := 5) dL_clock_182 rfl rfl ?_
  refine am_iconst (v := 3) dL_clock_183 rfl rfl ?_
  refine am_iload dL_clock_184 rfl rfl ?_
  refine am_imul dL_clock_186 rfl ?_
  refine am_iadd dL_clock_187 rfl ?_
  refine am_iald dL_clock_188 rfl hf (fun x1 _ hf => ?_)
  refine am_cSi (As := [va_rf v0, .int x1]) (st := []) lk_L_clock_21 rfl (by simp only [am_e1_r, am_e1_i, am_e1_l, am_e1_n]; exact Nat.le_of_ble_eq_true rfl) (Nat.le_of_ble_eq_true rfl) rfl dL_clock_189 rfl hf (fun y2 hf => sfL_number _ _ _ y2 hf) (fun y2 _ hf => ?_)
  refine am_if_eq (tgt := 251) dL_clock_192 (by decide) rfl hf (fun hf => ?_) (fun hf => ?_)
  · exact hk251 _ _ _ _ _ _ _ _ hf
  refine am_aload_n dL_clock_195 rfl rfl ?_
  refine am_bipush (v := 120) dL_clock_196 (by decide) rfl ?_
  refine am_cSi (As := [va_rf v0, .int (120 : Int32)]) (st := []) lk_L_clock_14 rfl (by simp only [am_e1_r, am_e1_i, am_e1_l, am_e1_n]; exact Nat.le_of_ble_eq_true rfl) (Nat.le_of_ble_eq_true rfl) rfl dL_clock_198 rfl hf (fun y3 hf => sfL_put _ _ _ y3 hf) (fun y3 _ hf => ?_)
  refine am_if_eq (tgt := 251) dL_clock_201 (by decide) rfl hf (fun hf => ?_) (fun hf => ?_)
  · exact hk251 _ _ _ _ _ _ _ _ hf
  refine am_aload_n dL_clock_204 rfl rfl ?_
  refine am_aload dL_clock_205 rfl rfl ?_
  refine am_bipush (v := 6) dL_clock_207 (by decide) rfl ?_
  refine am_iconst (v := 3) dL_clock_209 rfl rfl ?_
  refine am_iload dL_clock_210 rfl rfl ?_
  refine am_imul dL_clock_212 rfl ?_
  refine am_iadd dL_clock_213 rfl ?_
  refine am_iald dL_clock_214 rfl hf (fun x4 _ hf => ?_)
  refine am_cSi (As := [va_rf v0, .int x4]) (st := []) lk_L_clock_21 rfl (by simp only [am_e1_r, am_e1_i, am_e1_l, am_e1_n]; exact Nat.le_of_ble_eq_true rfl) (Nat.le_of_ble_eq_true rfl) rfl dL_clock_215 rfl hf (fun y5 hf => sfL_number _ _ _ y5 hf) (fun y5 _ hf => ?_)
  refine am_if_eq (tgt := 251) dL_clock_218 (by decide) rfl hf (fun hf => ?_) (fun hf => ?_)
  · exact hk251 _ _ _ _ _ _ _ _ hf
  refine am_aload_n dL_clock_221 rfl rfl ?_
  refine am_bipush (v := 104) dL_clock_222 (by decide) rfl ?_
  refine am_cSi (As := [va_rf v0, .int (104 : Int32)]) (st := []) lk_L_clock_14 rfl (by simp only [am_e1_r, am_e1_i, am_e1_l, am_e1_n]; exact Nat.le_of_ble_eq_true rfl) (Nat.le_of_ble_eq_true rfl) rfl dL_clock_224 rfl hf (fun y6 hf => sfL_put _ _ _ y6 hf) (fun y6 _ hf => ?_)
  refine am_if_eq (tgt := 251) dL_clock_227 (by decide) rfl hf (fun hf => ?_) (fun hf => ?_)
  · exact hk251 _ _ _ _ _ _ _ _ hf
  refine am_aload_n dL_clock_230 rfl rfl ?_
  refine am_aload dL_clock_231 rfl rfl ?_
  refine am_bipush (v := 7) dL_clock_233 (by decide) rfl ?_
  refine am_iconst (v := 3) dL_clock_235 rfl rfl ?_
  refine am_iload dL_clock_236 rfl rfl ?_
  refine am_imul dL_clock_238 rfl ?_
  refine am_iadd dL_clock_239 rfl ?_
  refine am_iald dL_clock_240 rfl hf (fun x7 _ hf => ?_)
  refine am_cSi (As := [va_rf v0, .int x7]) (st := []) lk_L_clock_21 rfl (by simp only [am_e1_r, am_e1_i, am_e1_l, am_e1_n]; exact Nat.le_of_ble_eq_true rfl) (Nat.le_of_ble_eq_true rfl) rfl dL_clock_241 rfl hf (fun y8 hf => sfL_number _ _ _ y8 hf) (fun y8 _ hf => ?_)
  refine am_if_eq (tgt := 251) dL_clock_244 (by decide) rfl hf (fun hf => ?_) (fun hf => ?_)
  · exact hk251 _ _ _ _ _ _ _ _ hf
  refine am_iconst (v := 1) dL_clock_247 rfl rfl ?_
  refine am_goto (pc' := 252) dL_clock_248 (by decide) ?_
  exact hk252 _ _ _ _ _ _ _ _ _ hf
