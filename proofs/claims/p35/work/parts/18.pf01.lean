/-! printed proofs of the printed functions, 1 -/
set_option maxRecDepth 20000 in
set_option maxHeartbeats 4000000 in
theorem sfX3_init {G : am_G}  (v0 : Nat) (h : am_H) (y : am_H) (hf : fX3_init v0 h = some y) : am_Cn G miX3_init [va_rf (some v0)] h none y := by
  refine am_beg (ls := [some (va_rf (some v0))]) (by simp only [am_en, am_e1_r, am_e1_i, am_e1_l, am_e1_n]; rfl) ?_
  unfold fX3_init at hf
  refine am_aload_n dX3_init_0 rfl rfl ?_
  refine am_obinit ml_X3_3 im_ob co_ob (by decide) (Nat.le_of_ble_eq_true rfl) dX3_init_1 rfl ?_
  refine am_aload_n dX3_init_4 rfl rfl ?_
  refine am_bipush (v := 80) dX3_init_5 (by decide) rfl ?_
  refine am_newarr (t := 2) rfl (by decide) rfl ac_2 dX3_init_7 rfl hf (fun y1 _ hf => ?_)
  refine am_pr_ rfl dX3_init_9 fl_X3_9 fp_3_0 (fun _ => ⟨rfl, rfl⟩) rfl hf (fun h2 _ hf => ?_)
  exact am_vret rfl dX3_init_12 hf
set_option maxRecDepth 20000 in
set_option maxHeartbeats 4000000 in
theorem sfJ7_fill_53178_5 {G : am_G}  : ∀ (n : Nat) (v0 : Option Nat) (v1 : Int32) (v2 : Int32) (v3 : Int32) (h : am_H) (y : am_H) (hf : fJ7_fill_53178_5  n v0 v1 v2 v3 h = some y), am_S G miJ7_fill_53178 5 [some (va_rf v0), some (.int v1), some (.int v2), some (.int v3)] [] h none y := by
  intro n
  induction n with
  | zero => intro v0 v1 v2 v3 h y hf; cases hf
  | succ n ih =>
    intro v0 v1 v2 v3 h y hf
    have hf : fJ7_fill_53178_5_b  (fJ7_fill_53178_5  n) v0 v1 v2 v3 h = some y := hf
    unfold fJ7_fill_53178_5_b at hf
    refine am_iload_n dJ7_fill_53178_5 rfl rfl ?_
    refine am_iload_n dJ7_fill_53178_6 rfl rfl ?_
    refine am_icmp_ge (tgt := 20) dJ7_fill_53178_7 (by decide) rfl hf (fun hf => ?_) (fun hf => ?_)
    · exact am_vret rfl dJ7_fill_53178_20 hf
    refine am_aload_n dJ7_fill_53178_10 rfl rfl ?_
    refine am_iload_n dJ7_fill_53178_11 rfl rfl ?_
    refine am_iload_n dJ7_fill_53178_12 rfl rfl ?_
    refine am_iast dJ7_fill_53178_13 rfl hf (fun h1 _ hf => ?_)
    refine am_iinc (ls' := [some (va_rf v0), some (.int v1), some (.int (v2 + (1 : Int32))), some (.int v3)]) dJ7_fill_53178_14 rfl rfl (by decide) rfl rfl ?_
    refine am_goto (pc' := 5) dJ7_fill_53178_17 (by decide) ?_
    exact ih _ _ _ _ _ _ hf
set_option maxRecDepth 20000 in
set_option maxHeartbeats 4000000 in
theorem sfJ7_fill_53178 {G : am_G}  (v0 : Option Nat) (v1 : Int32) (h : am_H) (y : am_H) (hf : fJ7_fill_53178 v0 v1 h = some y) : am_Cn G miJ7_fill_53178 [va_rf v0, .int v1] h none y := by
  refine am_beg (ls := [some (va_rf v0), some (.int v1), none, none]) (by simp only [am_en, am_e1_r, am_e1_i, am_e1_l, am_e1_n]; rfl) ?_
  unfold fJ7_fill_53178 at hf
  refine am_iconst (v := 0) dJ7_fill_53178_0 rfl rfl ?_
  refine am_istore_n (ls' := [some (va_rf v0), some (.int v1), some (.int (0 : Int32)), none]) dJ7_fill_53178_1 (by decide) rfl rfl ?_
  refine am_aload_n dJ7_fill_53178_2 rfl rfl ?_
  refine am_an_ dJ7_fill_53178_3 rfl hf (fun x1 _ hf => ?_)
  refine am_istore_n (ls' := [some (va_rf v0), some (.int v1), some (.int (0 : Int32)), some (.int x1)]) dJ7_fill_53178_4 (by decide) rfl rfl ?_
  exact (sfJ7_fill_53178_5 _) _ _ _ _ _ _ hf
set_option maxRecDepth 20000 in
set_option maxHeartbeats 4000000 in
theorem sfX6_init {G : am_G}  (v0 : Nat) (h : am_H) (y : am_H) (hf : fX6_init v0 h = some y) : am_Cn G miX6_init [va_rf (some v0)] h none y := by
  refine am_beg (ls := [some (va_rf (some v0))]) (by simp only [am_en, am_e1_r, am_e1_i, am_e1_l, am_e1_n]; rfl) ?_
  unfold fX6_init at hf
  refine am_aload_n dX6_init_0 rfl rfl ?_
  refine am_obinit ml_X6_3 im_ob co_ob (by decide) (Nat.le_of_ble_eq_true rfl) dX6_init_1 rfl ?_
  refine am_aload_n dX6_init_4 rfl rfl ?_
  refine am_iconst (v := 4) dX6_init_5 rfl rfl ?_
  refine am_newarr (t := 0) rfl (by decide) rfl ac_0 dX6_init_6 rfl hf (fun y1 _ hf => ?_)
  refine am_pr_ rfl dX6_init_8 fl_X6_9 fp_6_0 (fun _ => ⟨rfl, rfl⟩) rfl hf (fun h2 _ hf => ?_)
  refine am_aload_n dX6_init_11 rfl rfl ?_
  refine am_iconst (v := 4) dX6_init_12 rfl rfl ?_
  refine am_newarr (t := 0) rfl (by decide) rfl ac_0 dX6_init_13 rfl hf (fun y3 _ hf => ?_)
  refine am_pr_ rfl dX6_init_15 fl_X6_15 fp_6_1 (fun _ => ⟨rfl, rfl⟩) rfl hf (fun h4 _ hf => ?_)
  refine am_aload_n dX6_init_18 rfl rfl ?_
  refine am_bipush (v := 12) dX6_init_19 (by decide) rfl ?_
  refine am_newarr (t := 0) rfl (by decide) rfl ac_0 dX6_init_21 rfl hf (fun y5 _ hf => ?_)
  refine am_pr_ rfl dX6_init_23 fl_X6_18 fp_6_2 (fun _ => ⟨rfl, rfl⟩) rfl hf (fun h6 _ hf => ?_)
  refine am_aload_n dX6_init_26 rfl rfl ?_
  refine am_iconst (v := -1) dX6_init_27 rfl rfl ?_
  refine am_pi_ dX6_init_28 fl_X6_21 fp_6_3 (fun z => by cases z) rfl hf (fun h7 _ hf => ?_)
  refine am_aload_n dX6_init_31 rfl rfl ?_
  refine am_gr_ dX6_init_32 fl_X6_9 rfl hf (fun x8 _ hf => ?_)
  refine am_bipush (v := 100) dX6_init_35 (by decide) rfl ?_
  refine am_cSv (As := [va_rf x8, .int (100 : Int32)]) (st := []) lk_X6_init_25 rfl (by simp only [am_e1_r, am_e1_i, am_e1_l, am_e1_n]; exact Nat.le_of_ble_eq_true rfl) (Nat.le_of_ble_eq_true rfl) rfl dX6_init_37 rfl hf (fun y9 hf => sfJ7_fill_53178 _ _ _ y9 hf) (fun y9 _ hf => ?_)
  refine am_aload_n dX6_init_40 rfl rfl ?_
  refine am_gr_ dX6_init_41 fl_X6_15 rfl hf (fun x10 _ hf => ?_)
  refine am_bipush (v := 48) dX6_init_44 (by decide) rfl ?_
  refine am_cSv (As := [va_rf x10, .int (48 : Int32)]) (st := []) lk_X6_init_25 rfl (by simp only [am_e1_r, am_e1_i, am_e1_l, am_e1_n]; exact Nat.le_of_ble_eq_true rfl) (Nat.le_of_ble_eq_true rfl) rfl dX6_init_46 rfl hf (fun y11 hf => sfJ7_fill_53178 _ _ _ y11 hf) (fun y11 _ hf => ?_)
  refine am_aload_n dX6_init_49 rfl rfl ?_
  refine am_gr_ dX6_init_50 fl_X6_18 rfl hf (fun x12 _ hf => ?_)
  refine am_iconst (v := -1) dX6_init_53 rfl rfl ?_
  refine am_cSv (As := [va_rf x12, .int (-1 : Int32)]) (st := []) lk_X6_init_25 rfl (by simp only [am_e1_r, am_e1_i, am_e1_l, am_e1_n]; exact Nat.le_of_ble_eq_true rfl) (Nat.le_of_ble_eq_true rfl) rfl dX6_init_54 rfl hf (fun y13 hf => sfJ7_fill_53178 _ _ _ y13 hf) (fun y13 _ hf => ?_)
  exact am_vret rfl dX6_init_57 hf
set_option maxRecDepth 20000 in
set_option maxHeartbeats 4000000 in
theorem sfX0_init {G : am_G}  (v0 : Nat) (h : am_H) (y : am_H) (hf : fX0_init v0 h = some y) : am_Cn G miX0_init [va_rf (some v0)] h none y := by
  refine am_beg (ls := [some (va_rf (some v0))]) (by simp only [am_en, am_e1_r, am_e1_i, am_e1_l, am_e1_n]; rfl) ?_
  unfold fX0_init at hf
  refine am_aload_n dX0_init_0 rfl rfl ?_
  refine am_obinit ml_X0_3 im_ob co_ob (by decide) (Nat.le_of_ble_eq_true rfl) dX0_init_1 rfl ?_
  refine am_aload_n dX0_init_4 rfl rfl ?_
  refine am_iconst (v := 3) dX0_init_5 rfl rfl ?_
  refine am_newarr (t := 0) rfl (by decide) rfl ac_0 dX0_init_6 rfl hf (fun y1 _ hf => ?_)
  refine am_pr_ rfl dX0_init_8 fl_X0_9 fp_0_1 (fun _ => ⟨rfl, rfl⟩) rfl hf (fun h2 _ hf => ?_)
  refine am_aload_n dX0_init_11 rfl rfl ?_
  refine am_iconst (v := 3) dX0_init_12 rfl rfl ?_
  refine am_newarr (t := 0) rfl (by decide) rfl ac_0 dX0_init_13 rfl hf (fun y3 _ hf => ?_)
  refine am_pr_ rfl dX0_init_15 fl_X0_15 fp_0_2 (fun _ => ⟨rfl, rfl⟩) rfl hf (fun h4 _ hf => ?_)
  refine am_aload_n dX0_init_18 rfl rfl ?_
  refine am_iconst (v := 3) dX0_init_19 rfl rfl ?_
  refine am_newarr (t := 0) rfl (by decide) rfl ac_0 dX0_init_20 rfl hf (fun y5 _ hf => ?_)
  refine am_pr_ rfl dX0_init_22 fl_X0_18 fp_0_3 (fun _ => ⟨rfl, rfl⟩) rfl hf (fun h6 _ hf => ?_)
  refine am_aload_n dX0_init_25 rfl rfl ?_
  refine am_iconst (v := 3) dX0_init_26 rfl rfl ?_
  refine am_newarr (t := 0) rfl (by decide) rfl ac_0 dX0_init_27 rfl hf (fun y7 _ hf => ?_)
  refine am_pr_ rfl dX0_init_29 fl_X0_21 fp_0_4 (fun _ => ⟨rfl, rfl⟩) rfl hf (fun h8 _ hf => ?_)
  refine am_aload_n dX0_init_32 rfl rfl ?_
  refine am_bipush (v := 12) dX0_init_33 (by decide) rfl ?_
  refine am_newarr (t := 0) rfl (by decide) rfl ac_0 dX0_init_35 rfl hf (fun y9 _ hf => ?_)
  refine am_pr_ rfl dX0_init_37 fl_X0_24 fp_0_9 (fun _ => ⟨rfl, rfl⟩) rfl hf (fun h10 _ hf => ?_)
  exact am_vret rfl dX0_init_40 hf
set_option maxRecDepth 20000 in
set_option maxHeartbeats 4000000 in
theorem sfX2_init {G : am_G}  (v0 : Nat) (h : am_H) (y : am_H) (hf : fX2_init v0 h = some y) : am_Cn G miX2_init [va_rf (some v0)] h none y := by
  refine am_beg (ls := [some (va_rf (some v0))]) (by simp only [am_en, am_e1_r, am_e1_i, am_e1_l, am_e1_n]; rfl) ?_
  unfold fX2_init at hf
  refine am_aload_n dX2_init_0 rfl rfl ?_
  refine am_obinit ml_X2_3 im_ob co_ob (by decide) (Nat.le_of_ble_eq_true rfl) dX2_init_1 rfl ?_
  refine am_aload_n dX2_init_4 rfl rfl ?_
  refine am_iconst (v := 0) dX2_init_5 rfl rfl ?_
  refine am_pi_ dX2_init_6 fl_X2_9 fp_2_0 (fun z => by cases z) rfl hf (fun h1 _ hf => ?_)
  exact am_vret rfl dX2_init_9 hf
set_option maxRecDepth 20000 in
set_option maxHeartbeats 4000000 in
theorem sfX5_init {G : am_G}  (v0 : Nat) (v1 : Option Nat) (v2 : Option Nat) (h : am_H) (y : am_H) (hf : fX5_init v0 v1 v2 h = some y) : am_Cn G miX5_init [va_rf (some v0), va_rf v1, va_rf v2] h none y := by
  refine am_beg (ls := [some (va_rf (some v0)), some (va_rf v1), some (va_rf v2)]) (by simp only [am_en, am_e1_r, am_e1_i, am_e1_l, am_e1_n]; rfl) ?_
  unfold fX5_init at hf
  refine am_aload_n dX5_init_0 rfl rfl ?_
  refine am_obinit ml_X5_3 im_ob co_ob (by decide) (Nat.le_of_ble_eq_true rfl) dX5_init_1 rfl ?_
  refine am_aload_n dX5_init_4 rfl rfl ?_
  refine am_iconst (v := 3) dX5_init_5 rfl rfl ?_
  refine am_newarr (t := 0) rfl (by decide) rfl ac_0 dX5_init_6 rfl hf (fun y1 _ hf => ?_)
  refine am_pr_ rfl dX5_init_8 fl_X5_9 fp_5_4 (fun _ => ⟨rfl, rfl⟩) rfl hf (fun h2 _ hf => ?_)
  refine am_aload_n dX5_init_11 rfl rfl ?_
  refine am_bipush (v := 12) dX5_init_12 (by decide) rfl ?_
  refine am_newarr (t := 0) rfl (by decide) rfl ac_0 dX5_init_14 rfl hf (fun y3 _ hf => ?_)
  refine am_pr_ rfl dX5_init_16 fl_X5_15 fp_5_11 (fun _ => ⟨rfl, rfl⟩) rfl hf (fun h4 _ hf => ?_)
  refine am_aload_n dX5_init_19 rfl rfl ?_
  refine am_aload_n dX5_init_20 rfl rfl ?_
  refine am_pr_ rfl dX5_init_21 fl_X5_18 fp_5_0 (fun z => by cases z) rfl hf (fun h5 _ hf => ?_)
  refine am_aload_n dX5_init_24 rfl rfl ?_
  refine am_aload_n dX5_init_25 rfl rfl ?_
  refine am_pr_ rfl dX5_init_26 fl_X5_22 fp_5_1 (fun z => by cases z) rfl hf (fun h6 _ hf => ?_)
  exact am_vret rfl dX5_init_29 hf
set_option maxRecDepth 20000 in
set_option maxHeartbeats 4000000 in
theorem sfX4_init {G : am_G}  (v0 : Nat) (h : am_H) (y : am_H) (hf : fX4_init v0 h = some y) : am_Cn G miX4_init [va_rf (some v0)] h none y := by
  refine am_beg (ls := [some (va_rf (some v0))]) (by simp only [am_en, am_e1_r, am_e1_i, am_e1_l, am_e1_n]; rfl) ?_
  unfold fX4_init at hf
  refine am_aload_n dX4_init_0 rfl rfl ?_
  refine am_obinit ml_X4_3 im_ob co_ob (by decide) (Nat.le_of_ble_eq_true rfl) dX4_init_1 rfl ?_
  refine am_aload_n dX4_init_4 rfl rfl ?_
  refine am_bipush (v := 10) dX4_init_5 (by decide) rfl ?_
  refine am_newarr (t := 0) rfl (by decide) rfl ac_0 dX4_init_7 rfl hf (fun y1 _ hf => ?_)
  refine am_pr_ rfl dX4_init_9 fl_X4_9 fp_4_0 (fun _ => ⟨rfl, rfl⟩) rfl hf (fun h2 _ hf => ?_)
  refine am_aload_n dX4_init_12 rfl rfl ?_
  refine am_bipush (v := 10) dX4_init_13 (by decide) rfl ?_
  refine am_newarr (t := 3) rfl (by decide) rfl ac_3 dX4_init_15 rfl hf (fun y3 _ hf => ?_)
  refine am_pr_ rfl dX4_init_17 fl_X4_15 fp_4_1 (fun _ => ⟨rfl, rfl⟩) rfl hf (fun h4 _ hf => ?_)
  refine am_aload_n dX4_init_20 rfl rfl ?_
  refine am_iconst (v := 4) dX4_init_21 rfl rfl ?_
  refine am_newarr (t := 0) rfl (by decide) rfl ac_0 dX4_init_22 rfl hf (fun y5 _ hf => ?_)
  refine am_pr_ rfl dX4_init_24 fl_X4_19 fp_4_2 (fun _ => ⟨rfl, rfl⟩) rfl hf (fun h6 _ hf => ?_)
  refine am_aload_n dX4_init_27 rfl rfl ?_
  refine am_bipush (v := 120) dX4_init_28 (by decide) rfl ?_
  refine am_anewarr (t := 6) rfl (by decide) (fun _ q => q.2.2.2.2.2.2.2) cn_X4_22 dX4_init_30 rfl hf (fun y7 _ hf => ?_)
  refine am_pr_ rfl dX4_init_33 fl_X4_24 fp_4_3 (fun _ => ⟨rfl, rfl⟩) rfl hf (fun h8 _ hf => ?_)
  refine am_aload_n dX4_init_36 rfl rfl ?_
  refine am_bipush (v := 120) dX4_init_37 (by decide) rfl ?_
  refine am_newarr (t := 0) rfl (by decide) rfl ac_0 dX4_init_39 rfl hf (fun y9 _ hf => ?_)
  refine am_pr_ rfl dX4_init_41 fl_X4_28 fp_4_4 (fun _ => ⟨rfl, rfl⟩) rfl hf (fun h10 _ hf => ?_)
  refine am_aload_n dX4_init_44 rfl rfl ?_
  refine am_bipush (v := 20) dX4_init_45 (by decide) rfl ?_
  refine am_newarr (t := 0) rfl (by decide) rfl ac_0 dX4_init_47 rfl hf (fun y11 _ hf => ?_)
  refine am_pr_ rfl dX4_init_49 fl_X4_31 fp_4_6 (fun _ => ⟨rfl, rfl⟩) rfl hf (fun h12 _ hf => ?_)
  exact am_vret rfl dX4_init_52 hf
set_option maxRecDepth 20000 in
set_option maxHeartbeats 4000000 in
theorem sfX1_init {G : am_G}  (v0 : Nat) (h : am_H) (y : am_H) (hf : fX1_init v0 h = some y) : am_Cn G miX1_init [va_rf (some v0)] h none y := by
  refine am_beg (ls := [some (va_rf (some v0))]) (by simp only [am_en, am_e1_r, am_e1_i, am_e1_l, am_e1_n]; rfl) ?_
  unfold fX1_init at hf
  refine am_aload_n dX1_init_0 rfl rfl ?_
  refine am_obinit ml_X1_3 im_ob co_ob (by decide) (Nat.le_of_ble_eq_true rfl) dX1_init_1 rfl ?_
  refine am_aload_n dX1_init_4 rfl rfl ?_
  refine am_bipush (v := 96) dX1_init_5 (by decide) rfl ?_
  refine am_newarr (t := 0) rfl (by decide) rfl ac_0 dX1_init_7 rfl hf (fun y1 _ hf => ?_)
  refine am_pr_ rfl dX1_init_9 fl_X1_9 fp_1_0 (fun _ => ⟨rfl, rfl⟩) rfl hf (fun h2 _ hf => ?_)
  refine am_aload_n dX1_init_12 rfl rfl ?_
  refine am_bipush (v := 96) dX1_init_13 (by decide) rfl ?_
  refine am_newarr (t := 0) rfl (by decide) rfl ac_0 dX1_init_15 rfl hf (fun y3 _ hf => ?_)
  refine am_pr_ rfl dX1_init_17 fl_X1_15 fp_1_1 (fun _ => ⟨rfl, rfl⟩) rfl hf (fun h4 _ hf => ?_)
  exact am_vret rfl dX1_init_20 hf
set_option maxRecDepth 20000 in
set_option maxHeartbeats 4000000 in
theorem sfX8_init {G : am_G}  (v0 : Nat) (h : am_H) (y : am_H) (hf : fX8_init v0 h = some y) : am_Cn G miX8_init [va_rf (some v0)] h none y := by
  refine am_beg (ls := [some (va_rf (some v0))]) (by simp only [am_en, am_e1_r, am_e1_i, am_e1_l, am_e1_n]; rfl) ?_
  unfold fX8_init at hf
  refine am_aload_n dX8_init_0 rfl rfl ?_
  refine am_obinit ml_X8_1 im_ob co_ob (by decide) (Nat.le_of_ble_eq_true rfl) dX8_init_1 rfl ?_
  refine am_aload_n dX8_init_4 rfl rfl ?_
  refine am_iconst (v := 4) dX8_init_5 rfl rfl ?_
  refine am_anewarr (t := 4) rfl (by decide) (fun _ q => q.2.2.2.2.2.1) cn_X8_9 dX8_init_6 rfl hf (fun y1 _ hf => ?_)
  refine am_pr_ rfl dX8_init_9 fl_X8_11 fp_8_0 (fun _ => ⟨rfl, rfl⟩) rfl hf (fun h2 _ hf => ?_)
  refine am_aload_n dX8_init_12 rfl rfl ?_
  refine am_bipush (v := 8) dX8_init_13 (by decide) rfl ?_
  refine am_anewarr (t := 5) rfl (by decide) (fun _ q => q.2.2.2.2.2.2.1) cn_X8_15 dX8_init_15 rfl hf (fun y3 _ hf => ?_)
  refine am_pr_ rfl dX8_init_18 fl_X8_17 fp_8_1 (fun _ => ⟨rfl, rfl⟩) rfl hf (fun h4 _ hf => ?_)
  refine am_aload_n dX8_init_21 rfl rfl ?_
  refine am_bipush (v := 10) dX8_init_22 (by decide) rfl ?_
  refine am_anewarr (t := 6) rfl (by decide) (fun _ q => q.2.2.2.2.2.2.2) cn_X8_21 dX8_init_24 rfl hf (fun y5 _ hf => ?_)
  refine am_pr_ rfl dX8_init_27 fl_X8_23 fp_8_2 (fun _ => ⟨rfl, rfl⟩) rfl hf (fun h6 _ hf => ?_)
  refine am_aload_n dX8_init_30 rfl rfl ?_
  refine am_new_ nw_X8_27 dX8_init_31 rfl hf (fun y7 _ hf => ?_)
  refine am_dup dX8_init_34 (am_c1 _) rfl ?_
  refine am_ini (As := []) (st := [va_rf (some y7.1), va_rf (some v0)]) (b := y7.1) lk_X8_init_29 rfl (Nat.le_of_ble_eq_true rfl) (by simp only [List.map_cons, List.map_nil, am_c1, am_ci, am_cl]; exact Nat.le_of_ble_eq_true rfl) rfl dX8_init_35 rfl hf (fun y8 hf => sfX3_init _  _ y8 hf) (fun y8 _ hf => ?_)
  refine am_pr_ rfl dX8_init_38 fl_X8_30 fp_8_6 (fun _ => ⟨rfl, rfl⟩) rfl hf (fun h9 _ hf => ?_)
  refine am_aload_n dX8_init_41 rfl rfl ?_
  refine am_new_ nw_X8_34 dX8_init_42 rfl hf (fun y10 _ hf => ?_)
  refine am_dup dX8_init_45 (am_c1 _) rfl ?_
  refine am_ini (As := []) (st := [va_rf (some y10.1), va_rf (some v0)]) (b := y10.1) lk_X8_init_36 rfl (Nat.le_of_ble_eq_true rfl) (by simp only [List.map_cons, List.map_nil, am_c1, am_ci, am_cl]; exact Nat.le_of_ble_eq_true rfl) rfl dX8_init_46 rfl hf (fun y11 hf => sfX6_init _  _ y11 hf) (fun y11 _ hf => ?_)
  refine am_pr_ rfl dX8_init_49 fl_X8_37 fp_8_7 (fun _ => ⟨rfl, rfl⟩) rfl hf (fun h12 _ hf => ?_)
  refine am_aload_n dX8_init_52 rfl rfl ?_
  refine am_new_ nw_X8_34 dX8_init_53 rfl hf (fun y13 _ hf => ?_)
  refine am_dup dX8_init_56 (am_c1 _) rfl ?_
  refine am_ini (As := []) (st := [va_rf (some y13.1), va_rf (some v0)]) (b := y13.1) lk_X8_init_36 rfl (Nat.le_of_ble_eq_true rfl) (by simp only [List.map_cons, List.map_nil, am_c1, am_ci, am_cl]; exact Nat.le_of_ble_eq_true rfl) rfl dX8_init_57 rfl hf (fun y14 hf => sfX6_init _  _ y14 hf) (fun y14 _ hf => ?_)
  refine am_pr_ rfl dX8_init_60 fl_X8_41 fp_8_8 (fun _ => ⟨rfl, rfl⟩) rfl hf (fun h15 _ hf => ?_)
  refine am_aload_n dX8_init_63 rfl rfl ?_
  refine am_new_ nw_X8_9 dX8_init_64 rfl hf (fun y16 _ hf => ?_)
  refine am_dup dX8_init_67 (am_c1 _) rfl ?_
  refine am_ini (As := []) (st := [va_rf (some y16.1), va_rf (some v0)]) (b := y16.1) lk_X8_init_44 rfl (Nat.le_of_ble_eq_true rfl) (by simp only [List.map_cons, List.map_nil, am_c1, am_ci, am_cl]; exact Nat.le_of_ble_eq_true rfl) rfl dX8_init_68 rfl hf (fun y17 hf => sfX0_init _  _ y17 hf) (fun y17 _ hf => ?_)
  refine am_pr_ rfl dX8_init_71 fl_X8_45 fp_8_11 (fun _ => ⟨rfl, rfl⟩) rfl hf (fun h18 _ hf => ?_)
  refine am_aload_n dX8_init_74 rfl rfl ?_
  refine am_new_ nw_X8_15 dX8_init_75 rfl hf (fun y19 _ hf => ?_)
  refine am_dup dX8_init_78 (am_c1 _) rfl ?_
  refine am_ini (As := []) (st := [va_rf (some y19.1), va_rf (some v0)]) (b := y19.1) lk_X8_init_49 rfl (Nat.le_of_ble_eq_true rfl) (by simp only [List.map_cons, List.map_nil, am_c1, am_ci, am_cl]; exact Nat.le_of_ble_eq_true rfl) rfl dX8_init_79 rfl hf (fun y20 hf => sfX2_init _  _ y20 hf) (fun y20 _ hf => ?_)
  refine am_pr_ rfl dX8_init_82 fl_X8_50 fp_8_12 (fun _ => ⟨rfl, rfl⟩) rfl hf (fun h21 _ hf => ?_)
  refine am_aload_n dX8_init_85 rfl rfl ?_
  refine am_new_ nw_X8_15 dX8_init_86 rfl hf (fun y22 _ hf => ?_)
  refine am_dup dX8_init_89 (am_c1 _) rfl ?_
  refine am_ini (As := []) (st := [va_rf (some y22.1), va_rf (some v0)]) (b := y22.1) lk_X8_init_49 rfl (Nat.le_of_ble_eq_true rfl) (by simp only [List.map_cons, List.map_nil, am_c1, am_ci, am_cl]; exact Nat.le_of_ble_eq_true rfl) rfl dX8_init_90 rfl hf (fun y23 hf => sfX2_init _  _ y23 hf) (fun y23 _ hf => ?_)
  refine am_pr_ rfl dX8_init_93 fl_X8_54 fp_8_13 (fun _ => ⟨rfl, rfl⟩) rfl hf (fun h24 _ hf => ?_)
  refine am_aload_n dX8_init_96 rfl rfl ?_
  refine am_new_ nw_X8_57 dX8_init_97 rfl hf (fun y25 _ hf => ?_)
  refine am_dup dX8_init_100 (am_c1 _) rfl ?_
  refine am_aload_n dX8_init_101 rfl rfl ?_
  refine am_gr_ dX8_init_102 fl_X8_45 rfl hf (fun x26 _ hf => ?_)
  refine am_aload_n dX8_init_105 rfl rfl ?_
  refine am_gr_ dX8_init_106 fl_X8_50 rfl hf (fun x27 _ hf => ?_)
  refine am_ini (As := [va_rf x26, va_rf x27]) (st := [va_rf (some y25.1), va_rf (some v0)]) (b := y25.1) lk_X8_init_59 rfl (by simp only [am_e1_r, am_e1_i, am_e1_l, am_e1_n]; exact Nat.le_of_ble_eq_true rfl) (by simp only [List.map_cons, List.map_nil, am_c1, am_ci, am_cl]; exact Nat.le_of_ble_eq_true rfl) rfl dX8_init_109 rfl hf (fun y28 hf => sfX5_init _ _ _ _ y28 hf) (fun y28 _ hf => ?_)
  refine am_pr_ rfl dX8_init_112 fl_X8_62 fp_8_14 (fun _ => ⟨rfl, rfl⟩) rfl hf (fun h29 _ hf => ?_)
  refine am_aload_n dX8_init_115 rfl rfl ?_
  refine am_new_ nw_X8_57 dX8_init_116 rfl hf (fun y30 _ hf => ?_)
  refine am_dup dX8_init_119 (am_c1 _) rfl ?_
  refine am_aload_n dX8_init_120 rfl rfl ?_
  refine am_gr_ dX8_init_121 fl_X8_45 rfl hf (fun x31 _ hf => ?_)
  refine am_aload_n dX8_init_124 rfl rfl ?_
  refine am_gr_ dX8_init_125 fl_X8_50 rfl hf (fun x32 _ hf => ?_)
  refine am_ini (As := [va_rf x31, va_rf x32]) (st := [va_rf (some y30.1), va_rf (some v0)]) (b := y30.1) lk_X8_init_59 rfl (by simp only [am_e1_r, am_e1_i, am_e1_l, am_e1_n]; exact Nat.le_of_ble_eq_true rfl) (by simp only [List.map_cons, List.map_nil, am_c1, am_ci, am_cl]; exact Nat.le_of_ble_eq_true rfl) rfl dX8_init_128 rfl hf (fun y33 hf => sfX5_init _ _ _ _ y33 hf) (fun y33 _ hf => ?_)
  refine am_pr_ rfl dX8_init_131 fl_X8_66 fp_8_15 (fun _ => ⟨rfl, rfl⟩) rfl hf (fun h34 _ hf => ?_)
  refine am_aload_n dX8_init_134 rfl rfl ?_
  refine am_new_ nw_X8_69 dX8_init_135 rfl hf (fun y35 _ hf => ?_)
  refine am_dup dX8_init_138 (am_c1 _) rfl ?_
  refine am_ini (As := []) (st := [va_rf (some y35.1), va_rf (some v0)]) (b := y35.1) lk_X8_init_71 rfl (Nat.le_of_ble_eq_true rfl) (by simp only [List.map_cons, List.map_nil, am_c1, am_ci, am_cl]; exact Nat.le_of_ble_eq_true rfl) rfl dX8_init_139 rfl hf (fun y36 hf => sfX4_init _  _ y36 hf) (fun y36 _ hf => ?_)
  refine am_pr_ rfl dX8_init_142 fl_X8_72 fp_8_16 (fun _ => ⟨rfl, rfl⟩) rfl hf (fun h37 _ hf => ?_)
  refine am_aload_n dX8_init_145 rfl rfl ?_
  refine am_new_ nw_X8_76 dX8_init_146 rfl hf (fun y38 _ hf => ?_)
  refine am_dup dX8_init_149 (am_c1 _) rfl ?_
  refine am_ini (As := []) (st := [va_rf (some y38.1), va_rf (some v0)]) (b := y38.1) lk_X8_init_78 rfl (Nat.le_of_ble_eq_true rfl) (by simp only [List.map_cons, List.map_nil, am_c1, am_ci, am_cl]; exact Nat.le_of_ble_eq_true rfl) rfl dX8_init_150 rfl hf (fun y39 hf => sfX1_init _  _ y39 hf) (fun y39 _ hf => ?_)
  refine am_pr_ rfl dX8_init_153 fl_X8_79 fp_8_17 (fun _ => ⟨rfl, rfl⟩) rfl hf (fun h40 _ hf => ?_)
  refine am_aload_n dX8_init_156 rfl rfl ?_
  refine am_iconst (v := 3) dX8_init_157 rfl rfl ?_
  refine am_newarr (t := 0) rfl (by decide) rfl ac_0 dX8_init_158 rfl hf (fun y41 _ hf => ?_)
  refine am_pr_ rfl dX8_init_160 fl_X8_83 fp_8_18 (fun _ => ⟨rfl, rfl⟩) rfl hf (fun h42 _ hf => ?_)
  exact am_vret rfl dX8_init_163 hf
set_option maxRecDepth 20000 in
set_option maxHeartbeats 4000000 in
theorem sfL_cell_20 {G : am_G}  (s0 : Int32) (h : am_H) (y : Int32 × am_H) (hf : fL_cell_20 G.2.2.2.2.1 G.2.2.2.2.2  s0 h = some y) : am_S G miL_cell 20 [none, none] [.int s0] h (some (.int y.1)) y.2 := by
  unfold fL_cell_20 at hf
  refine am_ldc (v := 2147483647) dL_cell_20 ci_L_7 rfl ?_
  refine am_iand dL_cell_22 rfl ?_
  exact am_iret rfl dL_cell_23 hf
set_option maxRecDepth 20000 in
set_option maxHeartbeats 4000000 in
theorem sfL_cell {G : am_G}  (v1 : Int32) (h : am_H) (y : Int32 × am_H) (hf : fL_cell G.2.2.2.2.1 G.2.2.2.2.2 v1 h = some y) : am_Cn G miL_cell [va_rf (some 0), .int v1] h (some (.int y.1)) y.2 := by
  refine am_beg (ls := [some (va_rf (some 0)), some (.int v1)]) (by simp only [am_en, am_e1_r, am_e1_i, am_e1_l, am_e1_n]; rfl) ?_
  unfold fL_cell at hf
  refine am_iload_n dL_cell_0 rfl rfl ?_
  refine am_aload_n dL_cell_1 rfl rfl ?_
  refine am_slen dL_cell_2 rfl ?_
  refine am_icmp_ge (tgt := 12) dL_cell_3 (by decide) rfl hf (fun hf => ?_) (fun hf => ?_)
  · refine am_sipush (v := 7919) dL_cell_12 (by decide) rfl ?_
    refine am_iload_n dL_cell_15 rfl rfl ?_
    refine am_imul dL_cell_16 rfl ?_
    refine am_bipush (v := 13) dL_cell_17 (by decide) rfl ?_
    refine am_iadd dL_cell_19 rfl ?_
    exact am_we (sfL_cell_20 _ _ _ hf) ⟨Or.inl rfl, Or.inl rfl, trivial⟩
  refine am_aload_n dL_cell_6 rfl rfl ?_
  refine am_iload_n dL_cell_7 rfl rfl ?_
  refine am_sld dL_cell_8 rfl hf (fun x1 _ hf => ?_)
  refine am_goto (pc' := 20) dL_cell_9 (by decide) ?_
  exact am_we (sfL_cell_20 _ _ _ hf) ⟨Or.inl rfl, Or.inl rfl, trivial⟩
set_option maxRecDepth 20000 in
set_option maxHeartbeats 4000000 in
theorem sfX8_byteOf {G : am_G}  (v0 : Int64) (v2 : Int32) (h : am_H) (y : Int32 × am_H) (hf : fX8_byteOf v0 v2 h = some y) : am_Cn G miX8_byteOf [.long v0, .int v2] h (some (.int y.1)) y.2 := by
  refine am_beg (ls := [some (.long v0), none, some (.int v2)]) (by simp only [am_en, am_e1_r, am_e1_i, am_e1_l, am_e1_n]; rfl) ?_
  unfold fX8_byteOf at hf
  refine am_lload_n dX8_byteOf_0 rfl rfl ?_
  refine am_bipush (v := 8) dX8_byteOf_1 (by decide) rfl ?_
  refine am_iload_n dX8_byteOf_3 rfl rfl ?_
  refine am_imul dX8_byteOf_4 rfl ?_
  refine am_lushr dX8_byteOf_5 rfl rfl ?_
  refine am_l2i dX8_byteOf_6 rfl ?_
  refine am_sipush (v := 255) dX8_byteOf_7 (by decide) rfl ?_
  refine am_iand dX8_byteOf_10 rfl ?_
  exact am_iret rfl dX8_byteOf_11 hf
set_option maxRecDepth 20000 in
set_option maxHeartbeats 4000000 in
theorem sfX8_lettersIn_56 {G : am_G}  {k4 : Int64 → Int32 → Int32 → am_H → Option (Int32 × am_H)} (hk4 : ∀ (v0 : Int64) (v2 : Int32) (v3 : Int32) (h : am_H) (y : Int32 × am_H), k4 v0 v2 v3 h = some y → am_S G miX8_lettersIn 4 [some (.long v0), none, some (.int v2), some (.int v3), none, none] [] h (some (.int y.1)) y.2) (v0 : Int64) (v2 : Int32) (v3 : Int32) (h : am_H) (y : Int32 × am_H) (hf : fX8_lettersIn_56 k4 v0 v2 v3 h = some y) : am_S G miX8_lettersIn 56 [some (.long v0), none, some (.int v2), some (.int v3), none, none] [] h (some (.int y.1)) y.2 := by
  unfold fX8_lettersIn_56 at hf
  refine am_iinc (ls' := [some (.long v0), none, some (.int v2), some (.int (v3 + (1 : Int32))), none, none]) dX8_lettersIn_56 rfl rfl (by decide) rfl rfl ?_
  refine am_goto (pc' := 4) dX8_lettersIn_59 (by decide) ?_
  exact hk4 _ _ _ _ _ hf
set_option maxRecDepth 20000 in
set_option maxHeartbeats 4000000 in
theorem sfX8_lettersIn_32 {G : am_G}  {k4 : Int64 → Int32 → Int32 → am_H → Option (Int32 × am_H)} (hk4 : ∀ (v0 : Int64) (v2 : Int32) (v3 : Int32) (h : am_H) (y : Int32 × am_H), k4 v0 v2 v3 h = some y → am_S G miX8_lettersIn 4 [some (.long v0), none, some (.int v2), some (.int v3), none, none] [] h (some (.int y.1)) y.2) (v0 : Int64) (v2 : Int32) (v3 : Int32) (v4 : Int32) (s0 : Int32) (h : am_H) (y : Int32 × am_H) (hf : fX8_lettersIn_32 k4 v0 v2 v3 v4 s0 h = some y) : am_S G miX8_lettersIn 32 [some (.long v0), none, some (.int v2), some (.int v3), some (.int v4), none] [.int s0] h (some (.int y.1)) y.2 := by
  unfold fX8_lettersIn_32 at hf
  refine am_istore (ls' := [some (.long v0), none, some (.int v2), some (.int v3), some (.int v4), some (.int s0)]) dX8_lettersIn_32 (by decide) rfl rfl ?_
  refine am_iload dX8_lettersIn_34 rfl rfl ?_
  refine am_bipush (v := 126) dX8_lettersIn_36 (by decide) rfl ?_
  refine am_icmp_gt (tgt := 46) dX8_lettersIn_38 (by decide) rfl hf (fun hf => ?_) (fun hf => ?_)
  · refine am_iconst (v := -1) dX8_lettersIn_46 rfl rfl ?_
    exact am_iret rfl dX8_lettersIn_47 hf
  refine am_iload dX8_lettersIn_41 rfl rfl ?_
  refine am_if_eq (tgt := 48) dX8_lettersIn_43 (by decide) rfl hf (fun hf => ?_) (fun hf => ?_)
  · refine am_iload dX8_lettersIn_48 rfl rfl ?_
    refine am_if_eq (tgt := 56) dX8_lettersIn_50 (by decide) rfl hf (fun hf => ?_) (fun hf => ?_)
    · exact am_we ((sfX8_lettersIn_56 hk4) _ _ _ _ _ hf) ⟨Or.inr rfl, Or.inl rfl, Or.inr rfl, Or.inr rfl, Or.inl rfl, Or.inl rfl, trivial⟩
    refine am_iinc (ls' := [some (.long v0), none, some (.int (v2 + (1 : Int32))), some (.int v3), some (.int v4), some (.int s0)]) dX8_lettersIn_53 rfl rfl (by decide) rfl rfl ?_
    exact am_we ((sfX8_lettersIn_56 hk4) _ _ _ _ _ hf) ⟨Or.inr rfl, Or.inl rfl, Or.inr rfl, Or.inr rfl, Or.inl rfl, Or.inl rfl, trivial⟩
  refine am_iconst (v := -1) dX8_lettersIn_46 rfl rfl ?_
  exact am_iret rfl dX8_lettersIn_47 hf
set_option maxRecDepth 20000 in
set_option maxHeartbeats 4000000 in
theorem sfX8_lettersIn_31 {G : am_G}  {k32 : Int64 → Int32 → Int32 → Int32 → Int32 → am_H → Option (Int32 × am_H)} (hk32 : ∀ (v0 : Int64) (v2 : Int32) (v3 : Int32) (v4 : Int32) (s0 : Int32) (h : am_H) (y : Int32 × am_H), k32 v0 v2 v3 v4 s0 h = some y → am_S G miX8_lettersIn 32 [some (.long v0), none, some (.int v2), some (.int v3), some (.int v4), none] [.int s0] h (some (.int y.1)) y.2) (v0 : Int64) (v2 : Int32) (v3 : Int32) (v4 : Int32) (h : am_H) (y : Int32 × am_H) (hf : fX8_lettersIn_31 k32 v0 v2 v3 v4 h = some y) : am_S G miX8_lettersIn 31 [some (.long v0), none, some (.int v2), some (.int v3), some (.int v4), none] [] h (some (.int y.1)) y.2 := by
  unfold fX8_lettersIn_31 at hf
  refine am_iconst (v := 0) dX8_lettersIn_31 rfl rfl ?_
  exact hk32 _ _ _ _ _ _ _ hf
set_option maxRecDepth 20000 in
set_option maxHeartbeats 4000000 in
theorem sfX8_lettersIn_4 {G : am_G}  : ∀ (n : Nat) (v0 : Int64) (v2 : Int32) (v3 : Int32) (h : am_H) (y : Int32 × am_H) (hf : fX8_lettersIn_4  n v0 v2 v3 h = some y), am_S G miX8_lettersIn 4 [some (.long v0), none, some (.int v2), some (.int v3), none, none] [] h (some (.int y.1)) y.2 := by
  intro n
  induction n with
  | zero => intro v0 v2 v3 h y hf; cases hf
  | succ n ih =>
    intro v0 v2 v3 h y hf
    have hf : fX8_lettersIn_4_b  (fX8_lettersIn_4  n) v0 v2 v3 h = some y := hf
    unfold fX8_lettersIn_4_b at hf
    refine am_iload_n dX8_lettersIn_4 rfl rfl ?_
    refine am_bipush (v := 8) dX8_lettersIn_5 (by decide) rfl ?_
    refine am_icmp_ge (tgt := 62) dX8_lettersIn_7 (by decide) rfl hf (fun hf => ?_) (fun hf => ?_)
    · refine am_iload_n dX8_lettersIn_62 rfl rfl ?_
      exact am_iret rfl dX8_lettersIn_63 hf
    refine am_lload_n dX8_lettersIn_10 rfl rfl ?_
    refine am_iload_n dX8_lettersIn_11 rfl rfl ?_
    refine am_cSi (As := [.long v0, .int v3]) (st := []) lk_X8_lettersIn_95 rfl (Nat.le_of_ble_eq_true rfl) (Nat.le_of_ble_eq_true rfl) rfl dX8_lettersIn_12 rfl hf (fun y1 hf => sfX8_byteOf _ _ _ y1 hf) (fun y1 _ hf => ?_)
    refine am_istore (ls' := [some (.long v0), none, some (.int v2), some (.int v3), some (.int y1.1), none]) dX8_lettersIn_15 (by decide) rfl rfl ?_
    refine am_iload dX8_lettersIn_17 rfl rfl ?_
    refine am_if_eq (tgt := 31) dX8_lettersIn_19 (by decide) rfl hf (fun hf => ?_) (fun hf => ?_)
    · exact (sfX8_lettersIn_31 (sfX8_lettersIn_32 ih)) _ _ _ _ _ _ hf
    refine am_iload_n dX8_lettersIn_22 rfl rfl ?_
    refine am_iload_n dX8_lettersIn_23 rfl rfl ?_
    refine am_icmp_ge (tgt := 31) dX8_lettersIn_24 (by decide) rfl hf (fun hf => ?_) (fun hf => ?_)
    · exact (sfX8_lettersIn_31 (sfX8_lettersIn_32 ih)) _ _ _ _ _ _ hf
    refine am_iconst (v := 1) dX8_lettersIn_27 rfl rfl ?_
    refine am_goto (pc' := 32) dX8_lettersIn_28 (by decide) ?_
    exact (sfX8_lettersIn_32 ih) _ _ _ _ _ _ _ hf
set_option maxRecDepth 20000 in
set_option maxHeartbeats 4000000 in
theorem sfX8_lettersIn {G : am_G}  (v0 : Int64) (h : am_H) (y : Int32 × am_H) (hf : fX8_lettersIn v0 h = some y) : am_Cn G miX8_lettersIn [.long v0] h (some (.int y.1)) y.2 := by
  refine am_beg (ls := [some (.long v0), none, none, none, none, none]) (by simp only [am_en, am_e1_r, am_e1_i, am_e1_l, am_e1_n]; rfl) ?_
  unfold fX8_lettersIn at hf
  refine am_iconst (v := 0) dX8_lettersIn_0 rfl rfl ?_
  refine am_istore_n (ls' := [some (.long v0), none, some (.int (0 : Int32)), none, none, none]) dX8_lettersIn_1 (by decide) rfl rfl ?_
  refine am_iconst (v := 0) dX8_lettersIn_2 rfl rfl ?_
  refine am_istore_n (ls' := [some (.long v0), none, some (.int (0 : Int32)), some (.int (0 : Int32)), none, none]) dX8_lettersIn_3 (by decide) rfl rfl ?_
  exact (sfX8_lettersIn_4 _) _ _ _ _ _ hf
set_option maxRecDepth 20000 in
set_option maxHeartbeats 4000000 in
theorem sfX3_add {G : am_G}  (v0 : Nat) (v1 : Int32) (h : am_H) (y : am_H) (hf : fX3_add v0 v1 h = some y) : am_Cn G miX3_add [va_rf (some v0), .int v1] h none y := by
  refine am_beg (ls := [some (va_rf (some v0)), some (.int v1)]) (by simp only [am_en, am_e1_r, am_e1_i, am_e1_l, am_e1_n]; rfl) ?_
  unfold fX3_add at hf
  refine am_aload_n dX3_add_0 rfl rfl ?_
  refine am_gi_ dX3_add_1 fl_X3_15 rfl hf (fun x1 _ hf => ?_)
  refine am_if_lt (tgt := 36) dX3_add_4 (by decide) rfl hf (fun hf => ?_) (fun hf => ?_)
  · exact am_vret rfl dX3_add_36 hf
  refine am_aload_n dX3_add_7 rfl rfl ?_
  refine am_gi_ dX3_add_8 fl_X3_15 rfl hf (fun x2 _ hf => ?_)
  refine am_bipush (v := 80) dX3_add_11 (by decide) rfl ?_
  refine am_icmp_ge (tgt := 36) dX3_add_13 (by decide) rfl hf (fun hf => ?_) (fun hf => ?_)
  · exact am_vret rfl dX3_add_36 hf
  refine am_aload_n dX3_add_16 rfl rfl ?_
  refine am_gr_ dX3_add_17 fl_X3_9 rfl hf (fun x3 _ hf => ?_)
  refine am_aload_n dX3_add_20 rfl rfl ?_
  refine am_gi_ dX3_add_21 fl_X3_15 rfl hf (fun x4 _ hf => ?_)
  refine am_iload_n dX3_add_24 rfl rfl ?_
  refine am_cast dX3_add_25 rfl hf (fun h5 _ hf => ?_)
  refine am_aload_n dX3_add_26 rfl rfl ?_
  refine am_dup dX3_add_27 (am_c1 _) rfl ?_
  refine am_gi_ dX3_add_28 fl_X3_15 rfl hf (fun x6 _ hf => ?_)
  refine am_iconst (v := 1) dX3_add_31 rfl rfl ?_
  refine am_iadd dX3_add_32 rfl ?_
  refine am_pi_ dX3_add_33 fl_X3_15 fp_3_1 (fun z => by cases z) rfl hf (fun h7 _ hf => ?_)
  exact am_vret rfl dX3_add_36 hf
set_option maxRecDepth 20000 in
set_option maxHeartbeats 4000000 in
theorem sfX8_letters_33 {G : am_G}  : ∀ (n : Nat) (v0 : Option Nat) (v1 : Int64) (v3 : Int32) (v4 : Int32) (h : am_H) (y : Int32 × am_H) (hf : fX8_letters_33  n v0 v1 v3 v4 h = some y), am_S G miX8_letters 33 [some (va_rf v0), some (.long v1), none, some (.int v3), some (.int v4)] [] h (some (.int y.1)) y.2 := by
  intro n
  induction n with
  | zero => intro v0 v1 v3 v4 h y hf; cases hf
  | succ n ih =>
    intro v0 v1 v3 v4 h y hf
    have hf : fX8_letters_33_b  (fX8_letters_33  n) v0 v1 v3 v4 h = some y := hf
    unfold fX8_letters_33_b at hf
    refine am_iload dX8_letters_33 rfl rfl ?_
    refine am_iload_n dX8_letters_35 rfl rfl ?_
    refine am_icmp_ge (tgt := 59) dX8_letters_36 (by decide) rfl hf (fun hf => ?_) (fun hf => ?_)
    · refine am_aload_n dX8_letters_59 rfl rfl ?_
      refine am_gr_ dX8_letters_60 fl_X8_30 rfl hf (fun x1 _ hf => ?_)
      refine am_gi_ dX8_letters_63 fl_X8_91 rfl hf (fun x2 _ hf => ?_)
      exact am_iret rfl dX8_letters_66 hf
    refine am_aload_n dX8_letters_39 rfl rfl ?_
    refine am_gr_ dX8_letters_40 fl_X8_30 rfl hf (fun x3 _ hf => ?_)
    refine am_lload_n dX8_letters_43 rfl rfl ?_
    refine am_iload dX8_letters_44 rfl rfl ?_
    refine am_cSi (As := [.long v1, .int v4]) (st := [va_rf x3]) lk_X8_letters_95 rfl (Nat.le_of_ble_eq_true rfl) (by simp only [List.map_cons, List.map_nil, am_c1, am_ci, am_cl]; exact Nat.le_of_ble_eq_true rfl) rfl dX8_letters_46 rfl hf (fun y4 hf => sfX8_byteOf _ _ _ y4 hf) (fun y4 _ hf => ?_)
    refine am_i2c dX8_letters_49 rfl ?_
    refine am_cVv (As := [.int (((Int32.toUInt32 y4.1) % 65536).toInt32)]) (st := []) lk_X8_letters_99 rfl (Nat.le_of_ble_eq_true rfl) (Nat.le_of_ble_eq_true rfl) rfl dX8_letters_50 rfl hf (fun b6 y5 hf => sfX3_add b6 _ _ y5 hf) (fun b6 y5 _ _ hf => ?_)
    refine am_iinc (ls' := [some (va_rf v0), some (.long v1), none, some (.int v3), some (.int (v4 + (1 : Int32)))]) dX8_letters_53 rfl rfl (by decide) rfl rfl ?_
    refine am_goto (pc' := 33) dX8_letters_56 (by decide) ?_
    exact ih _ _ _ _ _ _ hf
set_option maxRecDepth 20000 in
set_option maxHeartbeats 4000000 in
theorem sfX8_letters {G : am_G}  (v0 : Nat) (v1 : Int64) (h : am_H) (y : Int32 × am_H) (hf : fX8_letters v0 v1 h = some y) : am_Cn G miX8_letters [va_rf (some v0), .long v1] h (some (.int y.1)) y.2 := by
  refine am_beg (ls := [some (va_rf (some v0)), some (.long v1), none, none, none]) (by simp only [am_en, am_e1_r, am_e1_i, am_e1_l, am_e1_n]; rfl) ?_
  unfold fX8_letters at hf
  refine am_lload_n dX8_letters_0 rfl rfl ?_
  refine am_cSi (As := [.long v1]) (st := []) lk_X8_letters_87 rfl (Nat.le_of_ble_eq_true rfl) (Nat.le_of_ble_eq_true rfl) rfl dX8_letters_1 rfl hf (fun y1 hf => sfX8_lettersIn _ _ y1 hf) (fun y1 _ hf => ?_)
  refine am_istore_n (ls' := [some (va_rf (some v0)), some (.long v1), none, some (.int y1.1), none]) dX8_letters_4 (by decide) rfl rfl ?_
  refine am_iload_n dX8_letters_5 rfl rfl ?_
  refine am_iconst (v := -1) dX8_letters_6 rfl rfl ?_
  refine am_icmp_ne (tgt := 13) dX8_letters_7 (by decide) rfl hf (fun hf => ?_) (fun hf => ?_)
  · refine am_aload_n dX8_letters_13 rfl rfl ?_
    refine am_gr_ dX8_letters_14 fl_X8_30 rfl hf (fun x2 _ hf => ?_)
    refine am_gi_ dX8_letters_17 fl_X8_91 rfl hf (fun x3 _ hf => ?_)
    refine am_iload_n dX8_letters_20 rfl rfl ?_
    refine am_iadd dX8_letters_21 rfl ?_
    refine am_bipush (v := 80) dX8_letters_22 (by decide) rfl ?_
    refine am_icmp_le (tgt := 30) dX8_letters_24 (by decide) rfl hf (fun hf => ?_) (fun hf => ?_)
    · refine am_iconst (v := 0) dX8_letters_30 rfl rfl ?_
      refine am_istore (ls' := [some (va_rf (some v0)), some (.long v1), none, some (.int y1.1), some (.int (0 : Int32))]) dX8_letters_31 (by decide) rfl rfl ?_
      exact (sfX8_letters_33 _) _ _ _ _ _ _ hf
    refine am_bipush (v := -104) dX8_letters_27 (by decide) rfl ?_
    exact am_iret rfl dX8_letters_29 hf
  refine am_bipush (v := -102) dX8_letters_10 (by decide) rfl ?_
  exact am_iret rfl dX8_letters_12 hf
set_option maxRecDepth 20000 in
set_option maxHeartbeats 4000000 in
theorem sfL_put {G : am_G}  (v0 : Option Nat) (v1 : Int32) (h : am_H) (y : Int32 × am_H) (hf : fL_put v0 v1 h = some y) : am_Cn G miL_put [va_rf v0, .int v1] h (some (.int y.1)) y.2 := by
  refine am_beg (ls := [some (va_rf v0), some (.int v1)]) (by simp only [am_en, am_e1_r, am_e1_i, am_e1_l, am_e1_n]; rfl) ?_
  unfold fL_put at hf
  refine am_aload_n dL_put_0 rfl rfl ?_
  refine am_iload_n dL_put_1 rfl rfl ?_
  refine am_i2l dL_put_2 rfl ?_
  refine am_cVi (As := [.long (Int32.toInt64 v1)]) (st := []) lk_L_put_8 rfl (Nat.le_of_ble_eq_true rfl) (Nat.le_of_ble_eq_true rfl) rfl dL_put_3 rfl hf (fun b2 y1 hf => sfX8_letters b2 _ _ y1 hf) (fun b2 y1 _ _ hf => ?_)
  refine am_if_le (tgt := 13) dL_put_6 (by decide) rfl hf (fun hf => ?_) (fun hf => ?_)
  · refine am_iconst (v := 0) dL_put_13 rfl rfl ?_
    exact am_zret rfl dL_put_14 hf
  refine am_iconst (v := 1) dL_put_9 rfl rfl ?_
  refine am_goto (pc' := 14) dL_put_10 (by decide) ?_
  exact am_zret rfl dL_put_14 hf
set_option maxRecDepth 20000 in
set_option maxHeartbeats 4000000 in
theorem sfL_number_20 {G : am_G}  (v0 : Option Nat) (v1 : Int32) (h : am_H) (y : Int32 × am_H) (hf : fL_number_20  v0 v1 h = some y) : am_S G miL_number 20 [some (va_rf v0), some (.int v1)] [] h (some (.int y.1)) y.2 := by
  unfold fL_number_20 at hf
  refine am_aload_n dL_number_20 rfl rfl ?_
  refine am_bipush (v := 48) dL_number_21 (by decide) rfl ?_
  refine am_iload_n dL_number_23 rfl rfl ?_
  refine am_bipush (v := 10) dL_number_24 (by decide) rfl ?_
  refine am_irem dL_number_26 rfl hf (fun hf => ?_)
  refine am_iadd dL_number_27 rfl ?_
  refine am_cSi (As := [va_rf v0, .int ((48 : Int32) + (v1 - v1 / (10 : Int32) * (10 : Int32)))]) (st := []) lk_L_number_14 rfl (by simp only [am_e1_r, am_e1_i, am_e1_l, am_e1_n]; exact Nat.le_of_ble_eq_true rfl) (Nat.le_of_ble_eq_true rfl) rfl dL_number_28 rfl hf (fun y1 hf => sfL_put _ _ _ y1 hf) (fun y1 _ hf => ?_)
  refine am_if_eq (tgt := 38) dL_number_31 (by decide) rfl hf (fun hf => ?_) (fun hf => ?_)
  · refine am_iconst (v := 0) dL_number_38 rfl rfl ?_
    exact am_zret rfl dL_number_39 hf
  refine am_iconst (v := 1) dL_number_34 rfl rfl ?_
  refine am_goto (pc' := 39) dL_number_35 (by decide) ?_
  exact am_zret rfl dL_number_39 hf
set_option maxRecDepth 20000 in
set_option maxHeartbeats 4000000 in
theorem sfL_number {G : am_G}  (v0 : Option Nat) (v1 : Int32) (h : am_H) (y : Int32 × am_H) (hf : fL_number v0 v1 h = some y) : am_Cn G miL_number [va_rf v0, .int v1] h (some (.int y.1)) y.2 := by
  refine am_beg (ls := [some (va_rf v0), some (.int v1)]) (by simp only [am_en, am_e1_r, am_e1_i, am_e1_l, am_e1_n]; rfl) ?_
  unfold fL_number at hf
  refine am_iload_n dL_number_0 rfl rfl ?_
  refine am_bipush (v := 10) dL_number_1 (by decide) rfl ?_
  refine am_icmp_lt (tgt := 20) dL_number_3 (by decide) rfl hf (fun hf => ?_) (fun hf => ?_)
  · exact sfL_number_20 _ _ _ _ hf
  refine am_aload_n dL_number_6 rfl rfl ?_
  refine am_bipush (v := 48) dL_number_7 (by decide) rfl ?_
  refine am_iload_n dL_number_9 rfl rfl ?_
  refine am_bipush (v := 10) dL_number_10 (by decide) rfl ?_
  refine am_idiv dL_number_12 rfl hf (fun hf => ?_)
  refine am_iadd dL_number_13 rfl ?_
  refine am_cSi (As := [va_rf v0, .int ((48 : Int32) + (v1 / (10 : Int32)))]) (st := []) lk_L_number_14 rfl (by simp only [am_e1_r, am_e1_i, am_e1_l, am_e1_n]; exact Nat.le_of_ble_eq_true rfl) (Nat.le_of_ble_eq_true rfl) rfl dL_number_14 rfl hf (fun y1 hf => sfL_put _ _ _ y1 hf) (fun y1 _ hf => ?_)
  refine am_if_eq (tgt := 38) dL_number_17 (by decide) rfl hf (fun hf => ?_) (fun hf => ?_)
  · refine am_iconst (v := 0) dL_number_38 rfl rfl ?_
    exact am_zret rfl dL_number_39 hf
  exact sfL_number_20 _ _ _ _ hf
set_option maxRecDepth 20000 in
set_option maxHeartbeats 4000000 in
theorem sfX3_codeAt {G : am_G}  (v0 : Nat) (v1 : Int32) (h : am_H) (y : Int32 × am_H) (hf : fX3_codeAt v0 v1 h = some y) : am_Cn G miX3_codeAt [va_rf (some v0), .int v1] h (some (.int y.1)) y.2 := by
  refine am_beg (ls := [some (va_rf (some v0)), some (.int v1)]) (by simp only [am_en, am_e1_r, am_e1_i, am_e1_l, am_e1_n]; rfl) ?_
  unfold fX3_codeAt at hf
  refine am_iload_n dX3_codeAt_0 rfl rfl ?_
  refine am_if_lt (tgt := 27) dX3_codeAt_1 (by decide) rfl hf (fun hf => ?_) (fun hf => ?_)
  · refine am_iconst (v := -1) dX3_codeAt_27 rfl rfl ?_
    exact am_iret rfl dX3_codeAt_28 hf
  refine am_iload_n dX3_codeAt_4 rfl rfl ?_
  refine am_aload_n dX3_codeAt_5 rfl rfl ?_
  refine am_gi_ dX3_codeAt_6 fl_X3_15 rfl hf (fun x1 _ hf => ?_)
  refine am_icmp_ge (tgt := 27) dX3_codeAt_9 (by decide) rfl hf (fun hf => ?_) (fun hf => ?_)
  · refine am_iconst (v := -1) dX3_codeAt_27 rfl rfl ?_
    exact am_iret rfl dX3_codeAt_28 hf
  refine am_iload_n dX3_codeAt_12 rfl rfl ?_
  refine am_bipush (v := 80) dX3_codeAt_13 (by decide) rfl ?_
  refine am_icmp_ge (tgt := 27) dX3_codeAt_15 (by decide) rfl hf (fun hf => ?_) (fun hf => ?_)
  · refine am_iconst (v := -1) dX3_codeAt_27 rfl rfl ?_
    exact am_iret rfl dX3_codeAt_28 hf
  refine am_aload_n dX3_codeAt_18 rfl rfl ?_
  refine am_gr_ dX3_codeAt_19 fl_X3_9 rfl hf (fun x2 _ hf => ?_)
  refine am_iload_n dX3_codeAt_22 rfl rfl ?_
  refine am_cald dX3_codeAt_23 rfl hf (fun x3 _ hf => ?_)
  refine am_goto (pc' := 28) dX3_codeAt_24 (by decide) ?_
  exact am_iret rfl dX3_codeAt_28 hf
set_option maxRecDepth 20000 in
set_option maxHeartbeats 4000000 in
theorem sfX8_isIn {G : am_G}  (v0 : Int32) (v1 : Int32) (v2 : Int32) (h : am_H) (y : Int32 × am_H) (hf : fX8_isIn v0 v1 v2 h = some y) : am_Cn G miX8_isIn [.int v0, .int v1, .int v2] h (some (.int y.1)) y.2 := by
  refine am_beg (ls := [some (.int v0), some (.int v1), some (.int v2)]) (by simp only [am_en, am_e1_r, am_e1_i, am_e1_l, am_e1_n]; rfl) ?_
  unfold fX8_isIn at hf
  refine am_iload_n dX8_isIn_0 rfl rfl ?_
  refine am_iload_n dX8_isIn_1 rfl rfl ?_
  refine am_icmp_lt (tgt := 14) dX8_isIn_2 (by decide) rfl hf (fun hf => ?_) (fun hf => ?_)
  · refine am_iconst (v := 0) dX8_isIn_14 rfl rfl ?_
    exact am_zret rfl dX8_isIn_15 hf
  refine am_iload_n dX8_isIn_5 rfl rfl ?_
  refine am_iload_n dX8_isIn_6 rfl rfl ?_
  refine am_icmp_gt (tgt := 14) dX8_isIn_7 (by decide) rfl hf (fun hf => ?_) (fun hf => ?_)
  · refine am_iconst (v := 0) dX8_isIn_14 rfl rfl ?_
    exact am_zret rfl dX8_isIn_15 hf
  refine am_iconst (v := 1) dX8_isIn_10 rfl rfl ?_
  refine am_goto (pc' := 15) dX8_isIn_11 (by decide) ?_
  exact am_zret rfl dX8_isIn_15 hf
set_option maxRecDepth 20000 in
set_option maxHeartbeats 4000000 in
theorem sfX3_figureHere {G : am_G}  (v0 : Nat) (h : am_H) (y : Int32 × am_H) (hf : fX3_figureHere v0 h = some y) : am_Cn G miX3_figureHere [va_rf (some v0)] h (some (.int y.1)) y.2 := by
  refine am_beg (ls := [some (va_rf (some v0)), none]) (by simp only [am_en, am_e1_r, am_e1_i, am_e1_l, am_e1_n]; rfl) ?_
  unfold fX3_figureHere at hf
  refine am_aload_n dX3_figureHere_0 rfl rfl ?_
  refine am_aload_n dX3_figureHere_1 rfl rfl ?_
  refine am_gi_ dX3_figureHere_2 fl_X3_19 rfl hf (fun x1 _ hf => ?_)
  refine am_cVi (As := [.int x1]) (st := []) lk_X3_figureHere_71 rfl (Nat.le_of_ble_eq_true rfl) (Nat.le_of_ble_eq_true rfl) rfl dX3_figureHere_5 rfl hf (fun b3 y2 hf => sfX3_codeAt b3 _ _ y2 hf) (fun b3 y2 _ _ hf => ?_)
  refine am_istore_n (ls' := [some (va_rf (some v0)), some (.int y2.1)]) dX3_figureHere_8 (by decide) (am_s1_r (j := 0) rfl rfl) rfl ?_
  refine am_iload_n dX3_figureHere_9 rfl rfl ?_
  refine am_bipush (v := 48) dX3_figureHere_10 (by decide) rfl ?_
  refine am_bipush (v := 57) dX3_figureHere_12 (by decide) rfl ?_
  refine am_cTi (As := [.int y2.1, .int (48 : Int32), .int (57 : Int32)]) (st := []) lk_X3_figureHere_83 rfl (Nat.le_of_ble_eq_true rfl) (Nat.le_of_ble_eq_true rfl) rfl dX3_figureHere_14 rfl hf (fun y4 hf => sfX8_isIn _ _ _ _ y4 hf) (fun y4 _ hf => ?_)
  refine am_if_eq (tgt := 27) dX3_figureHere_17 (by decide) rfl hf (fun hf => ?_) (fun hf => ?_)
  · refine am_iconst (v := -1) dX3_figureHere_27 rfl rfl ?_
    exact am_iret rfl dX3_figureHere_28 hf
  refine am_iload_n dX3_figureHere_20 rfl rfl ?_
  refine am_bipush (v := 48) dX3_figureHere_21 (by decide) rfl ?_
  refine am_isub dX3_figureHere_23 rfl ?_
  refine am_goto (pc' := 28) dX3_figureHere_24 (by decide) ?_
  exact am_iret rfl dX3_figureHere_28 hf
set_option maxRecDepth 20000 in
set_option maxHeartbeats 4000000 in
theorem sfX3_canStart_35 {G : am_G}  (v3 : Int32) (s0 : Int32) (h : am_H) (y : Int32 × am_H) (hf : fX3_canStart_35  v3 s0 h = some y) : am_S G miX3_canStart 35 [none, none, none, some (.int v3), none] [.int s0] h (some (.int y.1)) y.2 := by
  unfold fX3_canStart_35 at hf
  refine am_istore (ls' := [none, none, none, some (.int v3), some (.int s0)]) dX3_canStart_35 (by decide) rfl rfl ?_
  refine am_iload_n dX3_canStart_37 rfl rfl ?_
  refine am_if_ne (tgt := 46) dX3_canStart_38 (by decide) rfl hf (fun hf => ?_) (fun hf => ?_)
  · refine am_iconst (v := 1) dX3_canStart_46 rfl rfl ?_
    refine am_goto (pc' := 51) dX3_canStart_47 (by decide) ?_
    exact am_zret rfl dX3_canStart_51 hf
  refine am_iload dX3_canStart_41 rfl rfl ?_
  refine am_if_eq (tgt := 50) dX3_canStart_43 (by decide) rfl hf (fun hf => ?_) (fun hf => ?_)
  · refine am_iconst (v := 0) dX3_canStart_50 rfl rfl ?_
    exact am_zret rfl dX3_canStart_51 hf
  refine am_iconst (v := 1) dX3_canStart_46 rfl rfl ?_
  refine am_goto (pc' := 51) dX3_canStart_47 (by decide) ?_
  exact am_zret rfl dX3_canStart_51 hf
set_option maxRecDepth 20000 in
set_option maxHeartbeats 4000000 in
theorem sfX3_canStart_34 {G : am_G}  {k35 : Int32 → Int32 → am_H → Option (Int32 × am_H)} (hk35 : ∀ (v3 : Int32) (s0 : Int32) (h : am_H) (y : Int32 × am_H), k35 v3 s0 h = some y → am_S G miX3_canStart 35 [none, none, none, some (.int v3), none] [.int s0] h (some (.int y.1)) y.2) (v3 : Int32) (h : am_H) (y : Int32 × am_H) (hf : fX3_canStart_34 k35 v3 h = some y) : am_S G miX3_canStart 34 [none, none, none, some (.int v3), none] [] h (some (.int y.1)) y.2 := by
  unfold fX3_canStart_34 at hf
  refine am_iconst (v := 0) dX3_canStart_34 rfl rfl ?_
  exact hk35 _ _ _ _ hf
set_option maxRecDepth 20000 in
set_option maxHeartbeats 4000000 in
theorem sfX3_canStart {G : am_G}  (v0 : Int32) (v1 : Int32) (v2 : Int32) (h : am_H) (y : Int32 × am_H) (hf : fX3_canStart v0 v1 v2 h = some y) : am_Cn G miX3_canStart [.int v0, .int v1, .int v2] h (some (.int y.1)) y.2 := by
  refine am_beg (ls := [some (.int v0), some (.int v1), some (.int v2), none, none]) (by simp only [am_en, am_e1_r, am_e1_i, am_e1_l, am_e1_n]; rfl) ?_
  unfold fX3_canStart at hf
  refine am_iload_n dX3_canStart_0 rfl rfl ?_
  refine am_iload_n dX3_canStart_1 rfl rfl ?_
  refine am_iload_n dX3_canStart_2 rfl rfl ?_
  refine am_cTi (As := [.int v0, .int v1, .int v2]) (st := []) lk_X3_canStart_83 rfl (Nat.le_of_ble_eq_true rfl) (Nat.le_of_ble_eq_true rfl) rfl dX3_canStart_3 rfl hf (fun y1 hf => sfX8_isIn _ _ _ _ y1 hf) (fun y1 _ hf => ?_)
  refine am_istore_n (ls' := [some (.int v0), some (.int v1), some (.int v2), some (.int y1.1), none]) dX3_canStart_6 (by decide) rfl rfl ?_
  refine am_iload_n dX3_canStart_7 rfl rfl ?_
  refine am_if_le (tgt := 34) dX3_canStart_8 (by decide) rfl hf (fun hf => ?_) (fun hf => ?_)
  · exact am_we ((sfX3_canStart_34 sfX3_canStart_35) _ _ _ hf) ⟨Or.inl rfl, Or.inl rfl, Or.inl rfl, Or.inr rfl, Or.inl rfl, trivial⟩
  refine am_bipush (v := 10) dX3_canStart_11 (by decide) rfl ?_
  refine am_iload_n dX3_canStart_13 rfl rfl ?_
  refine am_imul dX3_canStart_14 rfl ?_
  refine am_iload_n dX3_canStart_15 rfl rfl ?_
  refine am_icmp_gt (tgt := 34) dX3_canStart_16 (by decide) rfl hf (fun hf => ?_) (fun hf => ?_)
  · exact am_we ((sfX3_canStart_34 sfX3_canStart_35) _ _ _ hf) ⟨Or.inl rfl, Or.inl rfl, Or.inl rfl, Or.inr rfl, Or.inl rfl, trivial⟩
  refine am_bipush (v := 10) dX3_canStart_19 (by decide) rfl ?_
  refine am_iload_n dX3_canStart_21 rfl rfl ?_
  refine am_imul dX3_canStart_22 rfl ?_
  refine am_bipush (v := 9) dX3_canStart_23 (by decide) rfl ?_
  refine am_iadd dX3_canStart_25 rfl ?_
  refine am_iload_n dX3_canStart_26 rfl rfl ?_
  refine am_icmp_lt (tgt := 34) dX3_canStart_27 (by decide) rfl hf (fun hf => ?_) (fun hf => ?_)
  · exact am_we ((sfX3_canStart_34 sfX3_canStart_35) _ _ _ hf) ⟨Or.inl rfl, Or.inl rfl, Or.inl rfl, Or.inr rfl, Or.inl rfl, trivial⟩
  refine am_iconst (v := 1) dX3_canStart_30 rfl rfl ?_
  refine am_goto (pc' := 35) dX3_canStart_31 (by decide) ?_
  exact am_we (sfX3_canStart_35 _ _ _ _ hf) ⟨Or.inl rfl, Or.inl rfl, Or.inl rfl, Or.inr rfl, Or.inl rfl, trivial⟩
set_option maxRecDepth 20000 in
set_option maxHeartbeats 4000000 in
theorem sfX3_readNumber_79 {G : am_G}  (v1 : Int32) (v3 : Int32) (h : am_H) (y : Int32 × am_H) (hf : fX3_readNumber_79  v1 v3 h = some y) : am_S G miX3_readNumber 79 [none, some (.int v1), none, some (.int v3), none, none] [] h (some (.int y.1)) y.2 := by
  unfold fX3_readNumber_79 at hf
  refine am_iload_n dX3_readNumber_79 rfl rfl ?_
  refine am_iload_n dX3_readNumber_80 rfl rfl ?_
  refine am_icmp_lt (tgt := 88) dX3_readNumber_81 (by decide) rfl hf (fun hf => ?_) (fun hf => ?_)
  · refine am_iconst (v := -1) dX3_readNumber_88 rfl rfl ?_
    exact am_iret rfl dX3_readNumber_89 hf
  refine am_iload_n dX3_readNumber_84 rfl rfl ?_
  refine am_goto (pc' := 89) dX3_readNumber_85 (by decide) ?_
  exact am_iret rfl dX3_readNumber_89 hf
set_option maxRecDepth 20000 in
set_option maxHeartbeats 4000000 in
theorem sfX3_readNumber {G : am_G}  (v0 : Nat) (v1 : Int32) (v2 : Int32) (h : am_H) (y : Int32 × am_H) (hf : fX3_readNumber v0 v1 v2 h = some y) : am_Cn G miX3_readNumber [va_rf (some v0), .int v1, .int v2] h (some (.int y.1)) y.2 := by
  refine am_beg (ls := [some (va_rf (some v0)), some (.int v1), some (.int v2), none, none, none]) (by simp only [am_en, am_e1_r, am_e1_i, am_e1_l, am_e1_n]; rfl) ?_
  unfold fX3_readNumber at hf
  refine am_aload_n dX3_readNumber_0 rfl rfl ?_
  refine am_cVi (As := []) (st := []) lk_X3_readNumber_75 rfl (Nat.le_of_ble_eq_true rfl) (Nat.le_of_ble_eq_true rfl) rfl dX3_readNumber_1 rfl hf (fun b2 y1 hf => sfX3_figureHere b2  _ y1 hf) (fun b2 y1 _ _ hf => ?_)
  refine am_istore_n (ls' := [some (va_rf (some v0)), some (.int v1), some (.int v2), some (.int y1.1), none, none]) dX3_readNumber_4 (by decide) rfl rfl ?_
  refine am_iload_n dX3_readNumber_5 rfl rfl ?_
  refine am_iconst (v := -1) dX3_readNumber_6 rfl rfl ?_
  refine am_icmp_eq (tgt := 19) dX3_readNumber_7 (by decide) rfl hf (fun hf => ?_) (fun hf => ?_)
  · refine am_iconst (v := -1) dX3_readNumber_19 rfl rfl ?_
    exact am_iret rfl dX3_readNumber_20 hf
  refine am_iload_n dX3_readNumber_10 rfl rfl ?_
  refine am_iload_n dX3_readNumber_11 rfl rfl ?_
  refine am_iload_n dX3_readNumber_12 rfl rfl ?_
  refine am_cSi (As := [.int y1.1, .int v1, .int v2]) (st := []) lk_X3_readNumber_79 rfl (Nat.le_of_ble_eq_true rfl) (Nat.le_of_ble_eq_true rfl) rfl dX3_readNumber_13 rfl hf (fun y3 hf => sfX3_canStart _ _ _ _ y3 hf) (fun y3 _ hf => ?_)
  refine am_if_ne (tgt := 21) dX3_readNumber_16 (by decide) rfl hf (fun hf => ?_) (fun hf => ?_)
  · refine am_aload_n dX3_readNumber_21 rfl rfl ?_
    refine am_dup dX3_readNumber_22 (am_c1 _) rfl ?_
    refine am_gi_ dX3_readNumber_23 fl_X3_19 rfl hf (fun x4 _ hf => ?_)
    refine am_iconst (v := 1) dX3_readNumber_26 rfl rfl ?_
    refine am_iadd dX3_readNumber_27 rfl ?_
    refine am_pi_ dX3_readNumber_28 fl_X3_19 fp_3_2 (fun z => by cases z) rfl hf (fun h5 _ hf => ?_)
    refine am_aload_n dX3_readNumber_31 rfl rfl ?_
    refine am_cVi (As := []) (st := []) lk_X3_readNumber_75 rfl (Nat.le_of_ble_eq_true rfl) (Nat.le_of_ble_eq_true rfl) rfl dX3_readNumber_32 rfl hf (fun b7 y6 hf => sfX3_figureHere b7  _ y6 hf) (fun b7 y6 _ _ hf => ?_)
    refine am_istore (ls' := [some (va_rf (some v0)), some (.int v1), some (.int v2), some (.int y1.1), some (.int y6.1), none]) dX3_readNumber_35 (by decide) rfl rfl ?_
    refine am_bipush (v := 10) dX3_readNumber_37 (by decide) rfl ?_
    refine am_iload_n dX3_readNumber_39 rfl rfl ?_
    refine am_imul dX3_readNumber_40 rfl ?_
    refine am_iload dX3_readNumber_41 rfl rfl ?_
    refine am_iadd dX3_readNumber_43 rfl ?_
    refine am_istore (ls' := [some (va_rf (some v0)), some (.int v1), some (.int v2), some (.int y1.1), some (.int y6.1), some (.int (((10 : Int32) * y1.1) + y6.1))]) dX3_readNumber_44 (by decide) rfl rfl ?_
    refine am_iload_n dX3_readNumber_46 rfl rfl ?_
    refine am_if_le (tgt := 79) dX3_readNumber_47 (by decide) rfl hf (fun hf => ?_) (fun hf => ?_)
    · exact am_we (sfX3_readNumber_79 _ _ _ _ hf) ⟨Or.inl rfl, Or.inr rfl, Or.inl rfl, Or.inr rfl, Or.inl rfl, Or.inl rfl, trivial⟩
    refine am_iload dX3_readNumber_50 rfl rfl ?_
    refine am_iconst (v := -1) dX3_readNumber_52 rfl rfl ?_
    refine am_icmp_eq (tgt := 79) dX3_readNumber_53 (by decide) rfl hf (fun hf => ?_) (fun hf => ?_)
    · exact am_we (sfX3_readNumber_79 _ _ _ _ hf) ⟨Or.inl rfl, Or.inr rfl, Or.inl rfl, Or.inr rfl, Or.inl rfl, Or.inl rfl, trivial⟩
    refine am_iload dX3_readNumber_56 rfl rfl ?_
    refine am_iload_n dX3_readNumber_58 rfl rfl ?_
    refine am_iload_n dX3_readNumber_59 rfl rfl ?_
    refine am_cTi (As := [.int (((10 : Int32) * y1.1) + y6.1), .int v1, .int v2]) (st := []) lk_X3_readNumber_83 rfl (Nat.le_of_ble_eq_true rfl) (Nat.le_of_ble_eq_true rfl) rfl dX3_readNumber_60 rfl hf (fun y8 hf => sfX8_isIn _ _ _ _ y8 hf) (fun y8 _ hf => ?_)
    refine am_if_eq (tgt := 79) dX3_readNumber_63 (by decide) rfl hf (fun hf => ?_) (fun hf => ?_)
    · exact am_we (sfX3_readNumber_79 _ _ _ _ hf) ⟨Or.inl rfl, Or.inr rfl, Or.inl rfl, Or.inr rfl, Or.inl rfl, Or.inl rfl, trivial⟩
    refine am_aload_n dX3_readNumber_66 rfl rfl ?_
    refine am_dup dX3_readNumber_67 (am_c1 _) rfl ?_
    refine am_gi_ dX3_readNumber_68 fl_X3_19 rfl hf (fun x9 _ hf => ?_)
    refine am_iconst (v := 1) dX3_readNumber_71 rfl rfl ?_
    refine am_iadd dX3_readNumber_72 rfl ?_
    refine am_pi_ dX3_readNumber_73 fl_X3_19 fp_3_2 (fun z => by cases z) rfl hf (fun h10 _ hf => ?_)
    refine am_iload dX3_readNumber_76 rfl rfl ?_
    exact am_iret rfl dX3_readNumber_78 hf
  refine am_iconst (v := -1) dX3_readNumber_19 rfl rfl ?_
  exact am_iret rfl dX3_readNumber_20 hf
set_option maxRecDepth 20000 in
set_option maxHeartbeats 4000000 in
theorem sfX3_readSign {G : am_G}  (v0 : Nat) (v1 : Int32) (h : am_H) (y : Int32 × am_H) (hf : fX3_readSign v0 v1 h = some y) : am_Cn G miX3_readSign [va_rf (some v0), .int v1] h (some (.int y.1)) y.2 := by
  refine am_beg (ls := [some (va_rf (some v0)), some (.int v1)]) (by simp only [am_en, am_e1_r, am_e1_i, am_e1_l, am_e1_n]; rfl) ?_
  unfold fX3_readSign at hf
  refine am_aload_n dX3_readSign_0 rfl rfl ?_
  refine am_aload_n dX3_readSign_1 rfl rfl ?_
  refine am_gi_ dX3_readSign_2 fl_X3_19 rfl hf (fun x1 _ hf => ?_)
  refine am_cVi (As := [.int x1]) (st := []) lk_X3_readSign_71 rfl (Nat.le_of_ble_eq_true rfl) (Nat.le_of_ble_eq_true rfl) rfl dX3_readSign_5 rfl hf (fun b3 y2 hf => sfX3_codeAt b3 _ _ y2 hf) (fun b3 y2 _ _ hf => ?_)
  refine am_iload_n dX3_readSign_8 rfl rfl ?_
  refine am_icmp_eq (tgt := 14) dX3_readSign_9 (by decide) rfl hf (fun hf => ?_) (fun hf => ?_)
  · refine am_aload_n dX3_readSign_14 rfl rfl ?_
    refine am_dup dX3_readSign_15 (am_c1 _) rfl ?_
    refine am_gi_ dX3_readSign_16 fl_X3_19 rfl hf (fun x4 _ hf => ?_)
    refine am_iconst (v := 1) dX3_readSign_19 rfl rfl ?_
    refine am_iadd dX3_readSign_20 rfl ?_
    refine am_pi_ dX3_readSign_21 fl_X3_19 fp_3_2 (fun z => by cases z) rfl hf (fun h5 _ hf => ?_)
    refine am_iconst (v := 1) dX3_readSign_24 rfl rfl ?_
    exact am_zret rfl dX3_readSign_25 hf
  refine am_iconst (v := 0) dX3_readSign_12 rfl rfl ?_
  exact am_zret rfl dX3_readSign_13 hf
set_option maxRecDepth 20000 in
set_option maxHeartbeats 4000000 in
theorem sfX0_addVessel {G : am_G}  (v0 : Nat) (v1 : Int32) (v2 : Int32) (v3 : Int32) (h : am_H) (y : am_H) (hf : fX0_addVessel v0 v1 v2 v3 h = some y) : am_Cn G miX0_addVessel [va_rf (some v0), .int v1, .int v2, .int v3] h none y := by
  refine am_beg (ls := [some (va_rf (some v0)), some (.int v1), some (.int v2), some (.int v3)]) (by simp only [am_en, am_e1_r, am_e1_i, am_e1_l, am_e1_n]; rfl) ?_
  unfold fX0_addVessel at hf
  refine am_aload_n dX0_addVessel_0 rfl rfl ?_
  refine am_gi_ dX0_addVessel_1 fl_X0_27 rfl hf (fun x1 _ hf => ?_)
  refine am_iconst (v := 3) dX0_addVessel_4 rfl rfl ?_
  refine am_icmp_ge (tgt := 60) dX0_addVessel_5 (by decide) rfl hf (fun hf => ?_) (fun hf => ?_)
  · exact am_vret rfl dX0_addVessel_60 hf
  refine am_aload_n dX0_addVessel_8 rfl rfl ?_
  refine am_gr_ dX0_addVessel_9 fl_X0_9 rfl hf (fun x2 _ hf => ?_)
  refine am_aload_n dX0_addVessel_12 rfl rfl ?_
  refine am_gi_ dX0_addVessel_13 fl_X0_27 rfl hf (fun x3 _ hf => ?_)
  refine am_iload_n dX0_addVessel_16 rfl rfl ?_
  refine am_iast dX0_addVessel_17 rfl hf (fun h4 _ hf => ?_)
  refine am_aload_n dX0_addVessel_18 rfl rfl ?_
  refine am_gr_ dX0_addVessel_19 fl_X0_15 rfl hf (fun x5 _ hf => ?_)
  refine am_aload_n dX0_addVessel_22 rfl rfl ?_
  refine am_gi_ dX0_addVessel_23 fl_X0_27 rfl hf (fun x6 _ hf => ?_)
  refine am_iload_n dX0_addVessel_26 rfl rfl ?_
  refine am_iast dX0_addVessel_27 rfl hf (fun h7 _ hf => ?_)
  refine am_aload_n dX0_addVessel_28 rfl rfl ?_
  refine am_gr_ dX0_addVessel_29 fl_X0_18 rfl hf (fun x8 _ hf => ?_)
  refine am_aload_n dX0_addVessel_32 rfl rfl ?_
  refine am_gi_ dX0_addVessel_33 fl_X0_27 rfl hf (fun x9 _ hf => ?_)
  refine am_iload_n dX0_addVessel_36 rfl rfl ?_
  refine am_iast dX0_addVessel_37 rfl hf (fun h10 _ hf => ?_)
  refine am_aload_n dX0_addVessel_38 rfl rfl ?_
  refine am_gr_ dX0_addVessel_39 fl_X0_21 rfl hf (fun x11 _ hf => ?_)
  refine am_aload_n dX0_addVessel_42 rfl rfl ?_
  refine am_gi_ dX0_addVessel_43 fl_X0_27 rfl hf (fun x12 _ hf => ?_)
  refine am_iload_n dX0_addVessel_46 rfl rfl ?_
  refine am_iload_n dX0_addVessel_47 rfl rfl ?_
  refine am_imul dX0_addVessel_48 rfl ?_
  refine am_iast dX0_addVessel_49 rfl hf (fun h13 _ hf => ?_)
  refine am_aload_n dX0_addVessel_50 rfl rfl ?_
  refine am_dup dX0_addVessel_51 (am_c1 _) rfl ?_
  refine am_gi_ dX0_addVessel_52 fl_X0_27 rfl hf (fun x14 _ hf => ?_)
  refine am_iconst (v := 1) dX0_addVessel_55 rfl rfl ?_
  refine am_iadd dX0_addVessel_56 rfl ?_
  refine am_pi_ dX0_addVessel_57 fl_X0_27 fp_0_0 (fun z => by cases z) rfl hf (fun h15 _ hf => ?_)
  exact am_vret rfl dX0_addVessel_60 hf
set_option maxRecDepth 20000 in
set_option maxHeartbeats 4000000 in
theorem sfX3_readVessel {G : am_G}  (v0 : Nat) (v1 : Option Nat) (h : am_H) (y : Int32 × am_H) (hf : fX3_readVessel v0 v1 h = some y) : am_Cn G miX3_readVessel [va_rf (some v0), va_rf v1] h (some (.int y.1)) y.2 := by
  refine am_beg (ls := [some (va_rf (some v0)), some (va_rf v1), none, none, none]) (by simp only [am_en, am_e1_r, am_e1_i, am_e1_l, am_e1_n]; rfl) ?_
  unfold fX3_readVessel at hf
  refine am_aload_n dX3_readVessel_0 rfl rfl ?_
  refine am_iconst (v := 1) dX3_readVessel_1 rfl rfl ?_
  refine am_bipush (v := 30) dX3_readVessel_2 (by decide) rfl ?_
  refine am_cVi (As := [.int (1 : Int32), .int (30 : Int32)]) (st := []) lk_X3_readVessel_50 rfl (Nat.le_of_ble_eq_true rfl) (Nat.le_of_ble_eq_true rfl) rfl dX3_readVessel_4 rfl hf (fun b2 y1 hf => sfX3_readNumber b2 _ _ _ y1 hf) (fun b2 y1 _ _ hf => ?_)
  refine am_istore_n (ls' := [some (va_rf (some v0)), some (va_rf v1), some (.int y1.1), none, none]) dX3_readVessel_7 (by decide) (am_s1_r (j := 1) rfl rfl) rfl ?_
  refine am_iload_n dX3_readVessel_8 rfl rfl ?_
  refine am_iconst (v := -1) dX3_readVessel_9 rfl rfl ?_
  refine am_icmp_eq (tgt := 22) dX3_readVessel_10 (by decide) rfl hf (fun hf => ?_) (fun hf => ?_)
  · refine am_iconst (v := 0) dX3_readVessel_22 rfl rfl ?_
    exact am_zret rfl dX3_readVessel_23 hf
  refine am_aload_n dX3_readVessel_13 rfl rfl ?_
  refine am_bipush (v := 120) dX3_readVessel_14 (by decide) rfl ?_
  refine am_cVi (As := [.int (120 : Int32)]) (st := []) lk_X3_readVessel_46 rfl (Nat.le_of_ble_eq_true rfl) (Nat.le_of_ble_eq_true rfl) rfl dX3_readVessel_16 rfl hf (fun b4 y3 hf => sfX3_readSign b4 _ _ y3 hf) (fun b4 y3 _ _ hf => ?_)
  refine am_if_ne (tgt := 24) dX3_readVessel_19 (by decide) rfl hf (fun hf => ?_) (fun hf => ?_)
  · refine am_aload_n dX3_readVessel_24 rfl rfl ?_
    refine am_iconst (v := 1) dX3_readVessel_25 rfl rfl ?_
    refine am_bipush (v := 60) dX3_readVessel_26 (by decide) rfl ?_
    refine am_cVi (As := [.int (1 : Int32), .int (60 : Int32)]) (st := []) lk_X3_readVessel_50 rfl (Nat.le_of_ble_eq_true rfl) (Nat.le_of_ble_eq_true rfl) rfl dX3_readVessel_28 rfl hf (fun b6 y5 hf => sfX3_readNumber b6 _ _ _ y5 hf) (fun b6 y5 _ _ hf => ?_)
    refine am_istore_n (ls' := [some (va_rf (some v0)), some (va_rf v1), some (.int y1.1), some (.int y5.1), none]) dX3_readVessel_31 (by decide) rfl rfl ?_
    refine am_iload_n dX3_readVessel_32 rfl rfl ?_
    refine am_iconst (v := -1) dX3_readVessel_33 rfl rfl ?_
    refine am_icmp_eq (tgt := 46) dX3_readVessel_34 (by decide) rfl hf (fun hf => ?_) (fun hf => ?_)
    · refine am_iconst (v := 0) dX3_readVessel_46 rfl rfl ?_
      exact am_zret rfl dX3_readVessel_47 hf
    refine am_aload_n dX3_readVessel_37 rfl rfl ?_
    refine am_bipush (v := 104) dX3_readVessel_38 (by decide) rfl ?_
    refine am_cVi (As := [.int (104 : Int32)]) (st := []) lk_X3_readVessel_46 rfl (Nat.le_of_ble_eq_true rfl) (Nat.le_of_ble_eq_true rfl) rfl dX3_readVessel_40 rfl hf (fun b8 y7 hf => sfX3_readSign b8 _ _ y7 hf) (fun b8 y7 _ _ hf => ?_)
    refine am_if_ne (tgt := 48) dX3_readVessel_43 (by decide) rfl hf (fun hf => ?_) (fun hf => ?_)
    · refine am_aload_n dX3_readVessel_48 rfl rfl ?_
      refine am_iconst (v := 1) dX3_readVessel_49 rfl rfl ?_
      refine am_bipush (v := 40) dX3_readVessel_50 (by decide) rfl ?_
      refine am_cVi (As := [.int (1 : Int32), .int (40 : Int32)]) (st := []) lk_X3_readVessel_50 rfl (Nat.le_of_ble_eq_true rfl) (Nat.le_of_ble_eq_true rfl) rfl dX3_readVessel_52 rfl hf (fun b10 y9 hf => sfX3_readNumber b10 _ _ _ y9 hf) (fun b10 y9 _ _ hf => ?_)
      refine am_istore (ls' := [some (va_rf (some v0)), some (va_rf v1), some (.int y1.1), some (.int y5.1), some (.int y9.1)]) dX3_readVessel_55 (by decide) rfl rfl ?_
      refine am_iload dX3_readVessel_57 rfl rfl ?_
      refine am_iconst (v := -1) dX3_readVessel_59 rfl rfl ?_
      refine am_icmp_ne (tgt := 65) dX3_readVessel_60 (by decide) rfl hf (fun hf => ?_) (fun hf => ?_)
      · refine am_aload_n dX3_readVessel_65 rfl rfl ?_
        refine am_iload_n dX3_readVessel_66 rfl rfl ?_
        refine am_iload_n dX3_readVessel_67 rfl rfl ?_
        refine am_iload dX3_readVessel_68 rfl rfl ?_
        refine am_cVv (As := [.int y1.1, .int y5.1, .int y9.1]) (st := []) lk_X3_readVessel_54 rfl (Nat.le_of_ble_eq_true rfl) (Nat.le_of_ble_eq_true rfl) rfl dX3_readVessel_70 rfl hf (fun b12 y11 hf => sfX0_addVessel b12 _ _ _ _ y11 hf) (fun b12 y11 _ _ hf => ?_)
        refine am_iconst (v := 1) dX3_readVessel_73 rfl rfl ?_
        exact am_zret rfl dX3_readVessel_74 hf
      refine am_iconst (v := 0) dX3_readVessel_63 rfl rfl ?_
      exact am_zret rfl dX3_readVessel_64 hf
    refine am_iconst (v := 0) dX3_readVessel_46 rfl rfl ?_
    exact am_zret rfl dX3_readVessel_47 hf
  refine am_iconst (v := 0) dX3_readVessel_22 rfl rfl ?_
  exact am_zret rfl dX3_readVessel_23 hf
