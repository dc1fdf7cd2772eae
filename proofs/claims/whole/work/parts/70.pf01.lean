/-! printed proofs of the printed functions, 1 -/
set_option maxRecDepth 20000 in
set_option maxHeartbeats 4000000 in
theorem sfX3_init {G : am_G}  (v0 : Nat) (h : am_H) (y : am_H) (hf : fX3_init v0 h = some y) : am_Cn G miX3_init [va_rf (some v0)] h none y := by
  refine am_beg (ls := [some (va_rf (some v0))]) (by simp only [am_en, am_e1_r, am_e1_i, am_e1_l, am_e1_n]; rfl) ?_
  unfold fX3_init at hf
  refine am_aload_n dX3_init_0 rfl rfl ?_
  refine am_obinit ml_X3_3 im_ob co_ob (by decide) (Nat.le_of_ble_eq_true rfl) dX3_init_1 rfl ?_
  refine am_aload_n dX3_init_4 rfl rfl ?_
  refine am_bipush (v := 80) dX3_init_5 (by decide) rfl ?_
  refine am_newarr (t := 2) rfl (by decide) rfl ac_2 dX3_init_7 rfl hf (fun y1 _ hf => ?_)
  refine am_pr_ rfl dX3_init_9 fl_X3_9 fp_3_0 (fun _ => ⟨rfl, rfl⟩) rfl hf (fun h2 _ hf => ?_)
  exact am_vret rfl dX3_init_12 hf
set_option maxRecDepth 20000 in
set_option maxHeartbeats 4000000 in
theorem sfJ7_fill_53178_5 {G : am_G}  : ∀ (n : Nat) (v0 : Option Nat) (v1 : Int32) (v2 : Int32) (v3 : Int32) (h : am_H) (y : am_H) (hf : fJ7_fill_53178_5  n v0 v1 v2 v3 h = some y), am_S G miJ7_fill_53178 5 [some (va_rf v0), some (.int v1), some (.int v2), some (.int v3)] [] h none y := by
  intro n
  induction n with
  | zero => intro v0 v1 v2 v3 h y hf; cases hf
  | succ n ih =>
    intro v0 v1 v2 v3 h y hf
    have hf : fJ7_fill_53178_5_b  (fJ7_fill_53178_5  n) v0 v1 v2 v3 h = some y := hf
    unfold fJ7_fill_53178_5_b at hf
    refine am_iload_n dJ7_fill_53178_5 rfl rfl ?_
    refine am_iload_n dJ7_fill_53178_6 rfl rfl ?_
    refine am_icmp_ge (tgt := 20) dJ7_fill_53178_7 (by decide) rfl hf (fun hf => ?_) (fun hf => ?_)
    · exact am_vret rfl dJ7_fill_53178_20 hf
    refine am_aload_n dJ7_fill_53178_10 rfl rfl ?_
    refine am_iload_n dJ7_fill_53178_11 rfl rfl ?_
    refine am_iload_n dJ7_fill_53178_12 rfl rfl ?_
    refine am_iast dJ7_fill_53178_13 rfl hf (fun h1 _ hf => ?_)
    refine am_iinc (ls' := [some (va_rf v0), some (.int v1), some (.int (v2 + (1 : Int32))), some (.int v3)]) dJ7_fill_53178_14 rfl rfl (by decide) rfl rfl ?_
    refine am_goto (pc' := 5) dJ7_fill_53178_17 (by decide) ?_
    exact ih _ _ _ _ _ _ hf
set_option maxRecDepth 20000 in
set_option maxHeartbeats 4000000 in
theorem sfJ7_fill_53178 {G : am_G}  (v0 : Option Nat) (v1 : Int32) (h : am_H) (y : am_H) (hf : fJ7_fill_53178 v0 v1 h = some y) : am_Cn G miJ7_fill_53178 [va_rf v0, .int v1] h none y := by
  refine am_beg (ls := [some (va_rf v0), some (.int v1), none, none]) (by simp only [am_en, am_e1_r, am_e1_i, am_e1_l, am_e1_n]; rfl) ?_
  unfold fJ7_fill_53178 at hf
  refine am_iconst (v := 0) dJ7_fill_53178_0 rfl rfl ?_
  refine am_istore_n (ls' := [some (va_rf v0), some (.int v1), some (.int (0 : Int32)), none]) dJ7_fill_53178_1 (by decide) rfl rfl ?_
  refine am_aload_n dJ7_fill_53178_2 rfl rfl ?_
  refine am_an_ dJ7_fill_53178_3 rfl hf (fun x1 _ hf => ?_)
  refine am_istore_n (ls' := [some (va_rf v0), some (.int v1), some (.int (0 : Int32)), some (.int x1)]) dJ7_fill_53178_4 (by decide) rfl rfl ?_
  exact (sfJ7_fill_53178_5 _) _ _ _ _ _ _ hf
set_option maxRecDepth 20000 in
set_option maxHeartbeats 4000000 in
theorem sfX6_init {G : am_G}  (v0 : Nat) (h : am_H) (y : am_H) (hf : fX6_init v0 h = some y) : am_Cn G miX6_init [va_rf (some v0)] h none y := by
  refine am_beg (ls := [some (va_rf (some v0))]) (by simp only [am_en, am_e1_r, am_e1_i, am_e1_l, am_e1_n]; rfl) ?_
  unfold fX6_init at hf
  refine am_aload_n dX6_init_0 rfl rfl ?_
  refine am_obinit ml_X6_3 im_ob co_ob (by decide) (Nat.le_of_ble_eq_true rfl) dX6_init_1 rfl ?_
  refine am_aload_n dX6_init_4 rfl rfl ?_
  refine am_iconst (v := 4) dX6_init_5 rfl rfl ?_
  refine am_newarr (t := 0) rfl (by decide) rfl ac_0 dX6_init_6 rfl hf (fun y1 _ hf => ?_)
  refine am_pr_ rfl dX6_init_8 fl_X6_9 fp_6_0 (fun _ => ⟨rfl, rfl⟩) rfl hf (fun h2 _ hf => ?_)
  refine am_aload_n dX6_init_11 rfl rfl ?_
  refine am_iconst (v := 4) dX6_init_12 rfl rfl ?_
  refine am_newarr (t := 0) rfl (by decide) rfl ac_0 dX6_init_13 rfl hf (fun y3 _ hf => ?_)
  refine am_pr_ rfl dX6_init_15 fl_X6_15 fp_6_1 (fun _ => ⟨rfl, rfl⟩) rfl hf (fun h4 _ hf => ?_)
  refine am_aload_n dX6_init_18 rfl rfl ?_
  refine am_bipush (v := 12) dX6_init_19 (by decide) rfl ?_
  refine am_newarr (t := 0) rfl (by decide) rfl ac_0 dX6_init_21 rfl hf (fun y5 _ hf => ?_)
  refine am_pr_ rfl dX6_init_23 fl_X6_18 fp_6_2 (fun _ => ⟨rfl, rfl⟩) rfl hf (fun h6 _ hf => ?_)
  refine am_aload_n dX6_init_26 rfl rfl ?_
  refine am_iconst (v := -1) dX6_init_27 rfl rfl ?_
  refine am_pi_ dX6_init_28 fl_X6_21 fp_6_3 (fun z => by cases z) rfl hf (fun h7 _ hf => ?_)
  refine am_aload_n dX6_init_31 rfl rfl ?_
  refine am_gr_ dX6_init_32 fl_X6_9 rfl hf (fun x8 _ hf => ?_)
  refine am_bipush (v := 100) dX6_init_35 (by decide) rfl ?_
  refine am_cSv (As := [va_rf x8, .int (100 : Int32)]) (st := []) lk_X6_init_25 rfl (by simp only [am_e1_r, am_e1_i, am_e1_l, am_e1_n]; exact Nat.le_of_ble_eq_true rfl) (Nat.le_of_ble_eq_true rfl) rfl dX6_init_37 rfl hf (fun y9 hf => sfJ7_fill_53178 _ _ _ y9 hf) (fun y9 _ hf => ?_)
  refine am_aload_n dX6_init_40 rfl rfl ?_
  refine am_gr_ dX6_init_41 fl_X6_15 rfl hf (fun x10 _ hf => ?_)
  refine am_bipush (v := 48) dX6_init_44 (by decide) rfl ?_
  refine am_cSv (As := [va_rf x10, .int (48 : Int32)]) (st := []) lk_X6_init_25 rfl (by simp only [am_e1_r, am_e1_i, am_e1_l, am_e1_n]; exact Nat.le_of_ble_eq_true rfl) (Nat.le_of_ble_eq_true rfl) rfl dX6_init_46 rfl hf (fun y11 hf => sfJ7_fill_53178 _ _ _ y11 hf) (fun y11 _ hf => ?_)
  refine am_aload_n dX6_init_49 rfl rfl ?_
  refine am_gr_ dX6_init_50 fl_X6_18 rfl hf (fun x12 _ hf => ?_)
  refine am_iconst (v := -1) dX6_init_53 rfl rfl ?_
  refine am_cSv (As := [va_rf x12, .int (-1 : Int32)]) (st := []) lk_X6_init_25 rfl (by simp only [am_e1_r, am_e1_i, am_e1_l, am_e1_n]; exact Nat.le_of_ble_eq_true rfl) (Nat.le_of_ble_eq_true rfl) rfl dX6_init_54 rfl hf (fun y13 hf => sfJ7_fill_53178 _ _ _ y13 hf) (fun y13 _ hf => ?_)
  exact am_vret rfl dX6_init_57 hf
set_option maxRecDepth 20000 in
set_option maxHeartbeats 4000000 in
theorem sfX0_init {G : am_G}  (v0 : Nat) (h : am_H) (y : am_H) (hf : fX0_init v0 h = some y) : am_Cn G miX0_init [va_rf (some v0)] h none y := by
  refine am_beg (ls := [some (va_rf (some v0))]) (by simp only [am_en, am_e1_r, am_e1_i, am_e1_l, am_e1_n]; rfl) ?_
  unfold fX0_init at hf
  refine am_aload_n dX0_init_0 rfl rfl ?_
  refine am_obinit ml_X0_3 im_ob co_ob (by decide) (Nat.le_of_ble_eq_true rfl) dX0_init_1 rfl ?_
  refine am_aload_n dX0_init_4 rfl rfl ?_
  refine am_iconst (v := 3) dX0_init_5 rfl rfl ?_
  refine am_newarr (t := 0) rfl (by decide) rfl ac_0 dX0_init_6 rfl hf (fun y1 _ hf => ?_)
  refine am_pr_ rfl dX0_init_8 fl_X0_9 fp_0_1 (fun _ => ⟨rfl, rfl⟩) rfl hf (fun h2 _ hf => ?_)
  refine am_aload_n dX0_init_11 rfl rfl ?_
  refine am_iconst (v := 3) dX0_init_12 rfl rfl ?_
  refine am_newarr (t := 0) rfl (by decide) rfl ac_0 dX0_init_13 rfl hf (fun y3 _ hf => ?_)
  refine am_pr_ rfl dX0_init_15 fl_X0_15 fp_0_2 (fun _ => ⟨rfl, rfl⟩) rfl hf (fun h4 _ hf => ?_)
  refine am_aload_n dX0_init_18 rfl rfl ?_
  refine am_iconst (v := 3) dX0_init_19 rfl rfl ?_
  refine am_newarr (t := 0) rfl (by decide) rfl ac_0 dX0_init_20 rfl hf (fun y5 _ hf => ?_)
  refine am_pr_ rfl dX0_init_22 fl_X0_18 fp_0_3 (fun _ => ⟨rfl, rfl⟩) rfl hf (fun h6 _ hf => ?_)
  refine am_aload_n dX0_init_25 rfl rfl ?_
  refine am_iconst (v := 3) dX0_init_26 rfl rfl ?_
  refine am_newarr (t := 0) rfl (by decide) rfl ac_0 dX0_init_27 rfl hf (fun y7 _ hf => ?_)
  refine am_pr_ rfl dX0_init_29 fl_X0_21 fp_0_4 (fun _ => ⟨rfl, rfl⟩) rfl hf (fun h8 _ hf => ?_)
  refine am_aload_n dX0_init_32 rfl rfl ?_
  refine am_bipush (v := 12) dX0_init_33 (by decide) rfl ?_
  refine am_newarr (t := 0) rfl (by decide) rfl ac_0 dX0_init_35 rfl hf (fun y9 _ hf => ?_)
  refine am_pr_ rfl dX0_init_37 fl_X0_24 fp_0_9 (fun _ => ⟨rfl, rfl⟩) rfl hf (fun h10 _ hf => ?_)
  exact am_vret rfl dX0_init_40 hf
set_option maxRecDepth 20000 in
set_option maxHeartbeats 4000000 in
theorem sfX2_init {G : am_G}  (v0 : Nat) (h : am_H) (y : am_H) (hf : fX2_init v0 h = some y) : am_Cn G miX2_init [va_rf (some v0)] h none y := by
  refine am_beg (ls := [some (va_rf (some v0))]) (by simp only [am_en, am_e1_r, am_e1_i, am_e1_l, am_e1_n]; rfl) ?_
  unfold fX2_init at hf
  refine am_aload_n dX2_init_0 rfl rfl ?_
  refine am_obinit ml_X2_3 im_ob co_ob (by decide) (Nat.le_of_ble_eq_true rfl) dX2_init_1 rfl ?_
  refine am_aload_n dX2_init_4 rfl rfl ?_
  refine am_iconst (v := 0) dX2_init_5 rfl rfl ?_
  refine am_pi_ dX2_init_6 fl_X2_9 fp_2_0 (fun z => by cases z) rfl hf (fun h1 _ hf => ?_)
  exact am_vret rfl dX2_init_9 hf
set_option maxRecDepth 20000 in
set_option maxHeartbeats 4000000 in
theorem sfX5_init {G : am_G}  (v0 : Nat) (v1 : Option Nat) (v2 : Option Nat) (h : am_H) (y : am_H) (hf : fX5_init v0 v1 v2 h = some y) : am_Cn G miX5_init [va_rf (some v0), va_rf v1, va_rf v2] h none y := by
  refine am_beg (ls := [some (va_rf (some v0)), some (va_rf v1), some (va_rf v2)]) (by simp only [am_en, am_e1_r, am_e1_i, am_e1_l, am_e1_n]; rfl) ?_
  unfold fX5_init at hf
  refine am_aload_n dX5_init_0 rfl rfl ?_
  refine am_obinit ml_X5_3 im_ob co_ob (by decide) (Nat.le_of_ble_eq_true rfl) dX5_init_1 rfl ?_
  refine am_aload_n dX5_init_4 rfl rfl ?_
  refine am_iconst (v := 3) dX5_init_5 rfl rfl ?_
  refine am_newarr (t := 0) rfl (by decide) rfl ac_0 dX5_init_6 rfl hf (fun y1 _ hf => ?_)
  refine am_pr_ rfl dX5_init_8 fl_X5_9 fp_5_4 (fun _ => ⟨rfl, rfl⟩) rfl hf (fun h2 _ hf => ?_)
  refine am_aload_n dX5_init_11 rfl rfl ?_
  refine am_bipush (v := 12) dX5_init_12 (by decide) rfl ?_
  refine am_newarr (t := 0) rfl (by decide) rfl ac_0 dX5_init_14 rfl hf (fun y3 _ hf => ?_)
  refine am_pr_ rfl dX5_init_16 fl_X5_15 fp_5_11 (fun _ => ⟨rfl, rfl⟩) rfl hf (fun h4 _ hf => ?_)
  refine am_aload_n dX5_init_19 rfl rfl ?_
  refine am_aload_n dX5_init_20 rfl rfl ?_
  refine am_pr_ rfl dX5_init_21 fl_X5_18 fp_5_0 (fun z => by cases z) rfl hf (fun h5 _ hf => ?_)
  refine am_aload_n dX5_init_24 rfl rfl ?_
  refine am_aload_n dX5_init_25 rfl rfl ?_
  refine am_pr_ rfl dX5_init_26 fl_X5_22 fp_5_1 (fun z => by cases z) rfl hf (fun h6 _ hf => ?_)
  exact am_vret rfl dX5_init_29 hf
set_option maxRecDepth 20000 in
set_option maxHeartbeats 4000000 in
theorem sfX4_init {G : am_G}  (v0 : Nat) (h : am_H) (y : am_H) (hf : fX4_init v0 h = some y) : am_Cn G miX4_init [va_rf (some v0)] h none y := by
  refine am_beg (ls := [some (va_rf (some v0))]) (by simp only [am_en, am_e1_r, am_e1_i, am_e1_l, am_e1_n]; rfl) ?_
  unfold fX4_init at hf
  refine am_aload_n dX4_init_0 rfl rfl ?_
  refine am_obinit ml_X4_3 im_ob co_ob (by decide) (Nat.le_of_ble_eq_true rfl) dX4_init_1 rfl ?_
  refine am_aload_n dX4_init_4 rfl rfl ?_
  refine am_bipush (v := 10) dX4_init_5 (by decide) rfl ?_
  refine am_newarr (t := 0) rfl (by decide) rfl ac_0 dX4_init_7 rfl hf (fun y1 _ hf => ?_)
  refine am_pr_ rfl dX4_init_9 fl_X4_9 fp_4_0 (fun _ => ⟨rfl, rfl⟩) rfl hf (fun h2 _ hf => ?_)
  refine am_aload_n dX4_init_12 rfl rfl ?_
  refine am_bipush (v := 10) dX4_init_13 (by decide) rfl ?_
  refine am_newarr (t := 3) rfl (by decide) rfl ac_3 dX4_init_15 rfl hf (fun y3 _ hf => ?_)
  refine am_pr_ rfl dX4_init_17 fl_X4_15 fp_4_1 (fun _ => ⟨rfl, rfl⟩) rfl hf (fun h4 _ hf => ?_)
  refine am_aload_n dX4_init_20 rfl rfl ?_
  refine am_iconst (v := 4) dX4_init_21 rfl rfl ?_
  refine am_newarr (t := 0) rfl (by decide) rfl ac_0 dX4_init_22 rfl hf (fun y5 _ hf => ?_)
  refine am_pr_ rfl dX4_init_24 fl_X4_19 fp_4_2 (fun _ => ⟨rfl, rfl⟩) rfl hf (fun h6 _ hf => ?_)
  refine am_aload_n dX4_init_27 rfl rfl ?_
  refine am_bipush (v := 120) dX4_init_28 (by decide) rfl ?_
  refine am_anewarr (t := 6) rfl (by decide) (fun _ q => q.2.2.2.2.2.2.2) cn_X4_22 dX4_init_30 rfl hf (fun y7 _ hf => ?_)
  refine am_pr_ rfl dX4_init_33 fl_X4_24 fp_4_3 (fun _ => ⟨rfl, rfl⟩) rfl hf (fun h8 _ hf => ?_)
  refine am_aload_n dX4_init_36 rfl rfl ?_
  refine am_bipush (v := 120) dX4_init_37 (by decide) rfl ?_
  refine am_newarr (t := 0) rfl (by decide) rfl ac_0 dX4_init_39 rfl hf (fun y9 _ hf => ?_)
  refine am_pr_ rfl dX4_init_41 fl_X4_28 fp_4_4 (fun _ => ⟨rfl, rfl⟩) rfl hf (fun h10 _ hf => ?_)
  refine am_aload_n dX4_init_44 rfl rfl ?_
  refine am_bipush (v := 20) dX4_init_45 (by decide) rfl ?_
  refine am_newarr (t := 0) rfl (by decide) rfl ac_0 dX4_init_47 rfl hf (fun y11 _ hf => ?_)
  refine am_pr_ rfl dX4_init_49 fl_X4_31 fp_4_6 (fun _ => ⟨rfl, rfl⟩) rfl hf (fun h12 _ hf => ?_)
  exact am_vret rfl dX4_init_52 hf
set_option maxRecDepth 20000 in
set_option maxHeartbeats 4000000 in
theorem sfX1_init {G : am_G}  (v0 : Nat) (h : am_H) (y : am_H) (hf : fX1_init v0 h = some y) : am_Cn G miX1_init [va_rf (some v0)] h none y := by
  refine am_beg (ls := [some (va_rf (some v0))]) (by simp only [am_en, am_e1_r, am_e1_i, am_e1_l, am_e1_n]; rfl) ?_
  unfold fX1_init at hf
  refine am_aload_n dX1_init_0 rfl rfl ?_
  refine am_obinit ml_X1_3 im_ob co_ob (by decide) (Nat.le_of_ble_eq_true rfl) dX1_init_1 rfl ?_
  refine am_aload_n dX1_init_4 rfl rfl ?_
  refine am_bipush (v := 96) dX1_init_5 (by decide) rfl ?_
  refine am_newarr (t := 0) rfl (by decide) rfl ac_0 dX1_init_7 rfl hf (fun y1 _ hf => ?_)
  refine am_pr_ rfl dX1_init_9 fl_X1_9 fp_1_0 (fun _ => ⟨rfl, rfl⟩) rfl hf (fun h2 _ hf => ?_)
  refine am_aload_n dX1_init_12 rfl rfl ?_
  refine am_bipush (v := 96) dX1_init_13 (by decide) rfl ?_
  refine am_newarr (t := 0) rfl (by decide) rfl ac_0 dX1_init_15 rfl hf (fun y3 _ hf => ?_)
  refine am_pr_ rfl dX1_init_17 fl_X1_15 fp_1_1 (fun _ => ⟨rfl, rfl⟩) rfl hf (fun h4 _ hf => ?_)
  exact am_vret rfl dX1_init_20 hf
set_option maxRecDepth 20000 in
set_option maxHeartbeats 4000000 in
theorem sfX8_init {G : am_G}  (v0 : Nat) (h : am_H) (y : am_H) (hf : fX8_init v0 h = some y) : am_Cn G miX8_init [va_rf (some v0)] h none y := by
  refine am_beg (ls := [some (va_rf (some v0))]) (by simp only [am_en, am_e1_r, am_e1_i, am_e1_l, am_e1_n]; rfl) ?_
  unfold fX8_init at hf
  refine am_aload_n dX8_init_0 rfl rfl ?_
  refine am_obinit ml_X8_1 im_ob co_ob (by decide) (Nat.le_of_ble_eq_true rfl) dX8_init_1 rfl ?_
  refine am_aload_n dX8_init_4 rfl rfl ?_
  refine am_iconst (v := 4) dX8_init_5 rfl rfl ?_
  refine am_anewarr (t := 4) rfl (by decide) (fun _ q => q.2.2.2.2.2.1) cn_X8_9 dX8_init_6 rfl hf (fun y1 _ hf => ?_)
  refine am_pr_ rfl dX8_init_9 fl_X8_11 fp_8_0 (fun _ => ⟨rfl, rfl⟩) rfl hf (fun h2 _ hf => ?_)
  refine am_aload_n dX8_init_12 rfl rfl ?_
  refine am_bipush (v := 8) dX8_init_13 (by decide) rfl ?_
  refine am_anewarr (t := 5) rfl (by decide) (fun _ q => q.2.2.2.2.2.2.1) cn_X8_15 dX8_init_15 rfl hf (fun y3 _ hf => ?_)
  refine am_pr_ rfl dX8_init_18 fl_X8_17 fp_8_1 (fun _ => ⟨rfl, rfl⟩) rfl hf (fun h4 _ hf => ?_)
  refine am_aload_n dX8_init_21 rfl rfl ?_
  refine am_bipush (v := 10) dX8_init_22 (by decide) rfl ?_
  refine am_anewarr (t := 6) rfl (by decide) (fun _ q => q.2.2.2.2.2.2.2) cn_X8_21 dX8_init_24 rfl hf (fun y5 _ hf => ?_)
  refine am_pr_ rfl dX8_init_27 fl_X8_23 fp_8_2 (fun _ => ⟨rfl, rfl⟩) rfl hf (fun h6 _ hf => ?_)
  refine am_aload_n dX8_init_30 rfl rfl ?_
  refine am_new_ nw_X8_27 dX8_init_31 rfl hf (fun y7 _ hf => ?_)
  refine am_dup dX8_init_34 (am_c1 _) rfl ?_
  refine am_ini (As := []) (st := [va_rf (some y7.1), va_rf (some v0)]) (b := y7.1) lk_X8_init_29 rfl (Nat.le_of_ble_eq_true rfl) (by simp only [List.map_cons, List.map_nil, am_c1, am_ci, am_cl]; exact Nat.le_of_ble_eq_true rfl) rfl dX8_init_35 rfl hf (fun y8 hf => sfX3_init _  _ y8 hf) (fun y8 _ hf => ?_)
  refine am_pr_ rfl dX8_init_38 fl_X8_30 fp_8_6 (fun _ => ⟨rfl, rfl⟩) rfl hf (fun h9 _ hf => ?_)
  refine am_aload_n dX8_init_41 rfl rfl ?_
  refine am_new_ nw_X8_34 dX8_init_42 rfl hf (fun y10 _ hf => ?_)
  refine am_dup dX8_init_45 (am_c1 _) rfl ?_
  refine am_ini (As := []) (st := [va_rf (some y10.1), va_rf (some v0)]) (b := y10.1) lk_X8_init_36 rfl (Nat.le_of_ble_eq_true rfl) (by simp only [List.map_cons, List.map_nil, am_c1, am_ci, am_cl]; exact Nat.le_of_ble_eq_true rfl) rfl dX8_init_46 rfl hf (fun y11 hf => sfX6_init _  _ y11 hf) (fun y11 _ hf => ?_)
  refine am_pr_ rfl dX8_init_49 fl_X8_37 fp_8_7 (fun _ => ⟨rfl, rfl⟩) rfl hf (fun h12 _ hf => ?_)
  refine am_aload_n dX8_init_52 rfl rfl ?_
  refine am_new_ nw_X8_34 dX8_init_53 rfl hf (fun y13 _ hf => ?_)
  refine am_dup dX8_init_56 (am_c1 _) rfl ?_
  refine am_ini (As := []) (st := [va_rf (some y13.1), va_rf (some v0)]) (b := y13.1) lk_X8_init_36 rfl (Nat.le_of_ble_eq_true rfl) (by simp only [List.map_cons, List.map_nil, am_c1, am_ci, am_cl]; exact Nat.le_of_ble_eq_true rfl) rfl dX8_init_57 rfl hf (fun y14 hf => sfX6_init _  _ y14 hf) (fun y14 _ hf => ?_)
  refine am_pr_ rfl dX8_init_60 fl_X8_41 fp_8_8 (fun _ => ⟨rfl, rfl⟩) rfl hf (fun h15 _ hf => ?_)
  refine am_aload_n dX8_init_63 rfl rfl ?_
  refine am_new_ nw_X8_9 dX8_init_64 rfl hf (fun y16 _ hf => ?_)
  refine am_dup dX8_init_67 (am_c1 _) rfl ?_
  refine am_ini (As := []) (st := [va_rf (some y16.1), va_rf (some v0)]) (b := y16.1) lk_X8_init_44 rfl (Nat.le_of_ble_eq_true rfl) (by simp only [List.map_cons, List.map_nil, am_c1, am_ci, am_cl]; exact Nat.le_of_ble_eq_true rfl) rfl dX8_init_68 rfl hf (fun y17 hf => sfX0_init _  _ y17 hf) (fun y17 _ hf => ?_)
  refine am_pr_ rfl dX8_init_71 fl_X8_45 fp_8_11 (fun _ => ⟨rfl, rfl⟩) rfl hf (fun h18 _ hf => ?_)
  refine am_aload_n dX8_init_74 rfl rfl ?_
  refine am_new_ nw_X8_15 dX8_init_75 rfl hf (fun y19 _ hf => ?_)
  refine am_dup dX8_init_78 (am_c1 _) rfl ?_
  refine am_ini (As := []) (st := [va_rf (some y19.1), va_rf (some v0)]) (b := y19.1) lk_X8_init_49 rfl (Nat.le_of_ble_eq_true rfl) (by simp only [List.map_cons, List.map_nil, am_c1, am_ci, am_cl]; exact Nat.le_of_ble_eq_true rfl) rfl dX8_init_79 rfl hf (fun y20 hf => sfX2_init _  _ y20 hf) (fun y20 _ hf => ?_)
  refine am_pr_ rfl dX8_init_82 fl_X8_50 fp_8_12 (fun _ => ⟨rfl, rfl⟩) rfl hf (fun h21 _ hf => ?_)
  refine am_aload_n dX8_init_85 rfl rfl ?_
  refine am_new_ nw_X8_15 dX8_init_86 rfl hf (fun y22 _ hf => ?_)
  refine am_dup dX8_init_89 (am_c1 _) rfl ?_
  refine am_ini (As := []) (st := [va_rf (some y22.1), va_rf (some v0)]) (b := y22.1) lk_X8_init_49 rfl (Nat.le_of_ble_eq_true rfl) (by simp only [List.map_cons, List.map_nil, am_c1, am_ci, am_cl]; exact Nat.le_of_ble_eq_true rfl) rfl dX8_init_90 rfl hf (fun y23 hf => sfX2_init _  _ y23 hf) (fun y23 _ hf => ?_)
  refine am_pr_ rfl dX8_init_93 fl_X8_54 fp_8_13 (fun _ => ⟨rfl, rfl⟩) rfl hf (fun h24 _ hf => ?_)
  refine am_aload_n dX8_init_96 rfl rfl ?_
  refine am_new_ nw_X8_57 dX8_init_97 rfl hf (fun y25 _ hf => ?_)
  refine am_dup dX8_init_100 (am_c1 _) rfl ?_
  refine am_aload_n dX8_init_101 rfl rfl ?_
  refine am_gr_ dX8_init_102 fl_X8_45 rfl hf (fun x26 _ hf => ?_)
  refine am_aload_n dX8_init_105 rfl rfl ?_
  refine am_gr_ dX8_init_106 fl_X8_50 rfl hf (fun x27 _ hf => ?_)
  refine am_ini (As := [va_rf x26, va_rf x27]) (st := [va_rf (some y25.1), va_rf (some v0)]) (b := y25.1) lk_X8_init_59 rfl (by simp only [am_e1_r, am_e1_i, am_e1_l, am_e1_n]; exact Nat.le_of_ble_eq_true rfl) (by simp only [List.map_cons, List.map_nil, am_c1, am_ci, am_cl]; exact Nat.le_of_ble_eq_true rfl) rfl dX8_init_109 rfl hf (fun y28 hf => sfX5_init _ _ _ _ y28 hf) (fun y28 _ hf => ?_)
  refine am_pr_ rfl dX8_init_112 fl_X8_62 fp_8_14 (fun _ => ⟨rfl, rfl⟩) rfl hf (fun h29 _ hf => ?_)
  refine am_aload_n dX8_init_115 rfl rfl ?_
  refine am_new_ nw_X8_57 dX8_init_116 rfl hf (fun y30 _ hf => ?_)
  refine am_dup dX8_init_119 (am_c1 _) rfl ?_
  refine am_aload_n dX8_init_120 rfl rfl ?_
  refine am_gr_ dX8_init_121 fl_X8_45 rfl hf (fun x31 _ hf => ?_)
  refine am_aload_n dX8_init_124 rfl rfl ?_
  refine am_gr_ dX8_init_125 fl_X8_50 rfl hf (fun x32 _ hf => ?_)
  refine am_ini (As := [va_rf x31, va_rf x32]) (st := [va_rf (some y30.1), va_rf (some v0)]) (b := y30.1) lk_X8_init_59 rfl (by simp only [am_e1_r, am_e1_i, am_e1_l, am_e1_n]; exact Nat.le_of_ble_eq_true rfl) (by simp only [List.map_cons, List.map_nil, am_c1, am_ci, am_cl]; exact Nat.le_of_ble_eq_true rfl) rfl dX8_init_128 rfl hf (fun y33 hf => sfX5_init _ _ _ _ y33 hf) (fun y33 _ hf => ?_)
  refine am_pr_ rfl dX8_init_131 fl_X8_66 fp_8_15 (fun _ => ⟨rfl, rfl⟩) rfl hf (fun h34 _ hf => ?_)
  refine am_aload_n dX8_init_134 rfl rfl ?_
  refine am_new_ nw_X8_69 dX8_init_135 rfl hf (fun y35 _ hf => ?_)
  refine am_dup dX8_init_138 (am_c1 _) rfl ?_
  refine am_ini (As := []) (st := [va_rf (some y35.1), va_rf (some v0)]) (b := y35.1) lk_X8_init_71 rfl (Nat.le_of_ble_eq_true rfl) (by simp only [List.map_cons, List.map_nil, am_c1, am_ci, am_cl]; exact Nat.le_of_ble_eq_true rfl) rfl dX8_init_139 rfl hf (fun y36 hf => sfX4_init _  _ y36 hf) (fun y36 _ hf => ?_)
  refine am_pr_ rfl dX8_init_142 fl_X8_72 fp_8_16 (fun _ => ⟨rfl, rfl⟩) rfl hf (fun h37 _ hf => ?_)
  refine am_aload_n dX8_init_145 rfl rfl ?_
  refine am_new_ nw_X8_76 dX8_init_146 rfl hf (fun y38 _ hf => ?_)
  refine am_dup dX8_init_149 (am_c1 _) rfl ?_
  refine am_ini (As := []) (st := [va_rf (some y38.1), va_rf (some v0)]) (b := y38.1) lk_X8_init_78 rfl (Nat.le_of_ble_eq_true rfl) (by simp only [List.map_cons, List.map_nil, am_c1, am_ci, am_cl]; exact Nat.le_of_ble_eq_true rfl) rfl dX8_init_150 rfl hf (fun y39 hf => sfX1_init _  _ y39 hf) (fun y39 _ hf => ?_)
  refine am_pr_ rfl dX8_init_153 fl_X8_79 fp_8_17 (fun _ => ⟨rfl, rfl⟩) rfl hf (fun h40 _ hf => ?_)
  refine am_aload_n dX8_init_156 rfl rfl ?_
  refine am_iconst (v := 3) dX8_init_157 rfl rfl ?_
  refine am_newarr (t := 0) rfl (by decide) rfl ac_0 dX8_init_158 rfl hf (fun y41 _ hf => ?_)
  refine am_pr_ rfl dX8_init_160 fl_X8_83 fp_8_18 (fun _ => ⟨rfl, rfl⟩) rfl hf (fun h42 _ hf => ?_)
  exact am_vret rfl dX8_init_163 hf
set_option maxRecDepth 20000 in
set_option maxHeartbeats 4000000 in
theorem sfX9_init_324 {G : am_G}  : ∀ (n : Nat) (v0 : Option Nat) (v1 : Int32) (h : am_H) (y : am_H) (hf : fX9_init_324  n v0 v1 h = some y), am_S G miX9_init 324 [some (va_rf v0), some (.int v1)] [] h none y := by
  intro n
  induction n with
  | zero => intro v0 v1 h y hf; cases hf
  | succ n ih =>
    intro v0 v1 h y hf
    have hf : fX9_init_324_b  (fX9_init_324  n) v0 v1 h = some y := hf
    unfold fX9_init_324_b at hf
    refine am_iload_n dX9_init_324 rfl rfl ?_
    refine am_bipush (v := 12) dX9_init_325 (by decide) rfl ?_
    refine am_icmp_ge (tgt := 343) dX9_init_327 (by decide) rfl hf (fun hf => ?_) (fun hf => ?_)
    · exact am_vret rfl dX9_init_343 hf
    refine am_aload_n dX9_init_330 rfl rfl ?_
    refine am_gr_ dX9_init_331 fl_X9_68 rfl hf (fun x1 _ hf => ?_)
    refine am_iload_n dX9_init_334 rfl rfl ?_
    refine am_iconst (v := -1) dX9_init_335 rfl rfl ?_
    refine am_iast dX9_init_336 rfl hf (fun h2 _ hf => ?_)
    refine am_iinc (ls' := [some (va_rf v0), some (.int (v1 + (1 : Int32)))]) dX9_init_337 rfl rfl (by decide) (am_s1_r (j := 0) rfl rfl) rfl ?_
    refine am_goto (pc' := 324) dX9_init_340 (by decide) ?_
    exact ih _ _ _ _ hf
set_option maxRecDepth 20000 in
set_option maxHeartbeats 4000000 in
theorem sfX9_init_295 {G : am_G}  : ∀ (n : Nat) (v0 : Option Nat) (v1 : Int32) (h : am_H) (y : am_H) (hf : fX9_init_295  n v0 v1 h = some y), am_S G miX9_init 295 [some (va_rf v0), some (.int v1)] [] h none y := by
  intro n
  induction n with
  | zero => intro v0 v1 h y hf; cases hf
  | succ n ih =>
    intro v0 v1 h y hf
    have hf : fX9_init_295_b  (fX9_init_295  n) v0 v1 h = some y := hf
    unfold fX9_init_295_b at hf
    refine am_iload_n dX9_init_295 rfl rfl ?_
    refine am_iconst (v := 4) dX9_init_296 rfl rfl ?_
    refine am_icmp_ge (tgt := 322) dX9_init_297 (by decide) rfl hf (fun hf => ?_) (fun hf => ?_)
    · refine am_iconst (v := 0) dX9_init_322 rfl rfl ?_
      refine am_istore_n (ls' := [some (va_rf v0), some (.int (0 : Int32))]) dX9_init_323 (by decide) (am_s1_r (j := 0) rfl rfl) rfl ?_
      exact (sfX9_init_324 _) _ _ _ _ hf
    refine am_aload_n dX9_init_300 rfl rfl ?_
    refine am_gr_ dX9_init_301 fl_X9_37 rfl hf (fun x1 _ hf => ?_)
    refine am_iload_n dX9_init_304 rfl rfl ?_
    refine am_bipush (v := 100) dX9_init_305 (by decide) rfl ?_
    refine am_iast dX9_init_307 rfl hf (fun h2 _ hf => ?_)
    refine am_aload_n dX9_init_308 rfl rfl ?_
    refine am_gr_ dX9_init_309 fl_X9_40 rfl hf (fun x3 _ hf => ?_)
    refine am_iload_n dX9_init_312 rfl rfl ?_
    refine am_bipush (v := 48) dX9_init_313 (by decide) rfl ?_
    refine am_iast dX9_init_315 rfl hf (fun h4 _ hf => ?_)
    refine am_iinc (ls' := [some (va_rf v0), some (.int (v1 + (1 : Int32)))]) dX9_init_316 rfl rfl (by decide) (am_s1_r (j := 0) rfl rfl) rfl ?_
    refine am_goto (pc' := 295) dX9_init_319 (by decide) ?_
    exact ih _ _ _ _ hf
set_option maxRecDepth 20000 in
set_option maxHeartbeats 4000000 in
theorem sfX9_init {G : am_G}  (v0 : Nat) (h : am_H) (y : am_H) (hf : fX9_init v0 h = some y) : am_Cn G miX9_init [va_rf (some v0)] h none y := by
  refine am_beg (ls := [some (va_rf (some v0)), none]) (by simp only [am_en, am_e1_r, am_e1_i, am_e1_l, am_e1_n]; rfl) ?_
  unfold fX9_init at hf
  refine am_aload_n dX9_init_0 rfl rfl ?_
  refine am_obinit ml_X9_1 im_ob co_ob (by decide) (Nat.le_of_ble_eq_true rfl) dX9_init_1 rfl ?_
  refine am_aload_n dX9_init_4 rfl rfl ?_
  refine am_iconst (v := 4) dX9_init_5 rfl rfl ?_
  refine am_newarr (t := 0) rfl (by decide) rfl ac_0 dX9_init_6 rfl hf (fun y1 _ hf => ?_)
  refine am_pr_ rfl dX9_init_8 fl_X9_7 fp_9_1 (fun _ => ⟨rfl, rfl⟩) rfl hf (fun h2 _ hf => ?_)
  refine am_aload_n dX9_init_11 rfl rfl ?_
  refine am_bipush (v := 12) dX9_init_12 (by decide) rfl ?_
  refine am_newarr (t := 0) rfl (by decide) rfl ac_0 dX9_init_14 rfl hf (fun y3 _ hf => ?_)
  refine am_pr_ rfl dX9_init_16 fl_X9_13 fp_9_2 (fun _ => ⟨rfl, rfl⟩) rfl hf (fun h4 _ hf => ?_)
  refine am_aload_n dX9_init_19 rfl rfl ?_
  refine am_bipush (v := 12) dX9_init_20 (by decide) rfl ?_
  refine am_newarr (t := 0) rfl (by decide) rfl ac_0 dX9_init_22 rfl hf (fun y5 _ hf => ?_)
  refine am_pr_ rfl dX9_init_24 fl_X9_16 fp_9_3 (fun _ => ⟨rfl, rfl⟩) rfl hf (fun h6 _ hf => ?_)
  refine am_aload_n dX9_init_27 rfl rfl ?_
  refine am_bipush (v := 12) dX9_init_28 (by decide) rfl ?_
  refine am_newarr (t := 0) rfl (by decide) rfl ac_0 dX9_init_30 rfl hf (fun y7 _ hf => ?_)
  refine am_pr_ rfl dX9_init_32 fl_X9_19 fp_9_4 (fun _ => ⟨rfl, rfl⟩) rfl hf (fun h8 _ hf => ?_)
  refine am_aload_n dX9_init_35 rfl rfl ?_
  refine am_iconst (v := 4) dX9_init_36 rfl rfl ?_
  refine am_newarr (t := 0) rfl (by decide) rfl ac_0 dX9_init_37 rfl hf (fun y9 _ hf => ?_)
  refine am_pr_ rfl dX9_init_39 fl_X9_22 fp_9_5 (fun _ => ⟨rfl, rfl⟩) rfl hf (fun h10 _ hf => ?_)
  refine am_aload_n dX9_init_42 rfl rfl ?_
  refine am_iconst (v := 4) dX9_init_43 rfl rfl ?_
  refine am_newarr (t := 0) rfl (by decide) rfl ac_0 dX9_init_44 rfl hf (fun y11 _ hf => ?_)
  refine am_pr_ rfl dX9_init_46 fl_X9_25 fp_9_6 (fun _ => ⟨rfl, rfl⟩) rfl hf (fun h12 _ hf => ?_)
  refine am_aload_n dX9_init_49 rfl rfl ?_
  refine am_iconst (v := 4) dX9_init_50 rfl rfl ?_
  refine am_newarr (t := 0) rfl (by decide) rfl ac_0 dX9_init_51 rfl hf (fun y13 _ hf => ?_)
  refine am_pr_ rfl dX9_init_53 fl_X9_28 fp_9_7 (fun _ => ⟨rfl, rfl⟩) rfl hf (fun h14 _ hf => ?_)
  refine am_aload_n dX9_init_56 rfl rfl ?_
  refine am_iconst (v := 4) dX9_init_57 rfl rfl ?_
  refine am_newarr (t := 0) rfl (by decide) rfl ac_0 dX9_init_58 rfl hf (fun y15 _ hf => ?_)
  refine am_pr_ rfl dX9_init_60 fl_X9_31 fp_9_8 (fun _ => ⟨rfl, rfl⟩) rfl hf (fun h16 _ hf => ?_)
  refine am_aload_n dX9_init_63 rfl rfl ?_
  refine am_bipush (v := 48) dX9_init_64 (by decide) rfl ?_
  refine am_newarr (t := 0) rfl (by decide) rfl ac_0 dX9_init_66 rfl hf (fun y17 _ hf => ?_)
  refine am_pr_ rfl dX9_init_68 fl_X9_34 fp_9_9 (fun _ => ⟨rfl, rfl⟩) rfl hf (fun h18 _ hf => ?_)
  refine am_aload_n dX9_init_71 rfl rfl ?_
  refine am_iconst (v := 4) dX9_init_72 rfl rfl ?_
  refine am_newarr (t := 0) rfl (by decide) rfl ac_0 dX9_init_73 rfl hf (fun y19 _ hf => ?_)
  refine am_pr_ rfl dX9_init_75 fl_X9_37 fp_9_10 (fun _ => ⟨rfl, rfl⟩) rfl hf (fun h20 _ hf => ?_)
  refine am_aload_n dX9_init_78 rfl rfl ?_
  refine am_iconst (v := 4) dX9_init_79 rfl rfl ?_
  refine am_newarr (t := 0) rfl (by decide) rfl ac_0 dX9_init_80 rfl hf (fun y21 _ hf => ?_)
  refine am_pr_ rfl dX9_init_82 fl_X9_40 fp_9_11 (fun _ => ⟨rfl, rfl⟩) rfl hf (fun h22 _ hf => ?_)
  refine am_aload_n dX9_init_85 rfl rfl ?_
  refine am_bipush (v := 8) dX9_init_86 (by decide) rfl ?_
  refine am_newarr (t := 0) rfl (by decide) rfl ac_0 dX9_init_88 rfl hf (fun y23 _ hf => ?_)
  refine am_pr_ rfl dX9_init_90 fl_X9_43 fp_9_13 (fun _ => ⟨rfl, rfl⟩) rfl hf (fun h24 _ hf => ?_)
  refine am_aload_n dX9_init_93 rfl rfl ?_
  refine am_bipush (v := 8) dX9_init_94 (by decide) rfl ?_
  refine am_newarr (t := 0) rfl (by decide) rfl ac_0 dX9_init_96 rfl hf (fun y25 _ hf => ?_)
  refine am_pr_ rfl dX9_init_98 fl_X9_46 fp_9_14 (fun _ => ⟨rfl, rfl⟩) rfl hf (fun h26 _ hf => ?_)
  refine am_aload_n dX9_init_101 rfl rfl ?_
  refine am_bipush (v := 8) dX9_init_102 (by decide) rfl ?_
  refine am_newarr (t := 0) rfl (by decide) rfl ac_0 dX9_init_104 rfl hf (fun y27 _ hf => ?_)
  refine am_pr_ rfl dX9_init_106 fl_X9_49 fp_9_15 (fun _ => ⟨rfl, rfl⟩) rfl hf (fun h28 _ hf => ?_)
  refine am_aload_n dX9_init_109 rfl rfl ?_
  refine am_bipush (v := 8) dX9_init_110 (by decide) rfl ?_
  refine am_newarr (t := 0) rfl (by decide) rfl ac_0 dX9_init_112 rfl hf (fun y29 _ hf => ?_)
  refine am_pr_ rfl dX9_init_114 fl_X9_52 fp_9_16 (fun _ => ⟨rfl, rfl⟩) rfl hf (fun h30 _ hf => ?_)
  refine am_aload_n dX9_init_117 rfl rfl ?_
  refine am_bipush (v := 10) dX9_init_118 (by decide) rfl ?_
  refine am_newarr (t := 0) rfl (by decide) rfl ac_0 dX9_init_120 rfl hf (fun y31 _ hf => ?_)
  refine am_pr_ rfl dX9_init_122 fl_X9_55 fp_9_18 (fun _ => ⟨rfl, rfl⟩) rfl hf (fun h32 _ hf => ?_)
  refine am_aload_n dX9_init_125 rfl rfl ?_
  refine am_bipush (v := 10) dX9_init_126 (by decide) rfl ?_
  refine am_newarr (t := 0) rfl (by decide) rfl ac_0 dX9_init_128 rfl hf (fun y33 _ hf => ?_)
  refine am_pr_ rfl dX9_init_130 fl_X9_58 fp_9_19 (fun _ => ⟨rfl, rfl⟩) rfl hf (fun h34 _ hf => ?_)
  refine am_aload_n dX9_init_133 rfl rfl ?_
  refine am_bipush (v := 10) dX9_init_134 (by decide) rfl ?_
  refine am_newarr (t := 0) rfl (by decide) rfl ac_0 dX9_init_136 rfl hf (fun y35 _ hf => ?_)
  refine am_pr_ rfl dX9_init_138 fl_X9_61 fp_9_20 (fun _ => ⟨rfl, rfl⟩) rfl hf (fun h36 _ hf => ?_)
  refine am_aload_n dX9_init_141 rfl rfl ?_
  refine am_iconst (v := -1) dX9_init_142 rfl rfl ?_
  refine am_pi_ dX9_init_143 fl_X9_64 fp_9_21 (fun z => by cases z) rfl hf (fun h37 _ hf => ?_)
  refine am_aload_n dX9_init_146 rfl rfl ?_
  refine am_bipush (v := 12) dX9_init_147 (by decide) rfl ?_
  refine am_newarr (t := 0) rfl (by decide) rfl ac_0 dX9_init_149 rfl hf (fun y38 _ hf => ?_)
  refine am_pr_ rfl dX9_init_151 fl_X9_68 fp_9_22 (fun _ => ⟨rfl, rfl⟩) rfl hf (fun h39 _ hf => ?_)
  refine am_aload_n dX9_init_154 rfl rfl ?_
  refine am_bipush (v := 80) dX9_init_155 (by decide) rfl ?_
  refine am_newarr (t := 1) rfl (by decide) rfl ac_1 dX9_init_157 rfl hf (fun y40 _ hf => ?_)
  refine am_pr_ rfl dX9_init_159 fl_X9_71 fp_9_25 (fun _ => ⟨rfl, rfl⟩) rfl hf (fun h41 _ hf => ?_)
  refine am_aload_n dX9_init_162 rfl rfl ?_
  refine am_iconst (v := 4) dX9_init_163 rfl rfl ?_
  refine am_newarr (t := 0) rfl (by decide) rfl ac_0 dX9_init_164 rfl hf (fun y42 _ hf => ?_)
  refine am_pr_ rfl dX9_init_166 fl_X9_75 fp_9_28 (fun _ => ⟨rfl, rfl⟩) rfl hf (fun h43 _ hf => ?_)
  refine am_aload_n dX9_init_169 rfl rfl ?_
  refine am_iconst (v := 4) dX9_init_170 rfl rfl ?_
  refine am_newarr (t := 0) rfl (by decide) rfl ac_0 dX9_init_171 rfl hf (fun y44 _ hf => ?_)
  refine am_pr_ rfl dX9_init_173 fl_X9_78 fp_9_29 (fun _ => ⟨rfl, rfl⟩) rfl hf (fun h45 _ hf => ?_)
  refine am_aload_n dX9_init_176 rfl rfl ?_
  refine am_bipush (v := 12) dX9_init_177 (by decide) rfl ?_
  refine am_newarr (t := 0) rfl (by decide) rfl ac_0 dX9_init_179 rfl hf (fun y46 _ hf => ?_)
  refine am_pr_ rfl dX9_init_181 fl_X9_81 fp_9_30 (fun _ => ⟨rfl, rfl⟩) rfl hf (fun h47 _ hf => ?_)
  refine am_aload_n dX9_init_184 rfl rfl ?_
  refine am_iconst (v := 3) dX9_init_185 rfl rfl ?_
  refine am_newarr (t := 0) rfl (by decide) rfl ac_0 dX9_init_186 rfl hf (fun y48 _ hf => ?_)
  refine am_pr_ rfl dX9_init_188 fl_X9_84 fp_9_34 (fun _ => ⟨rfl, rfl⟩) rfl hf (fun h49 _ hf => ?_)
  refine am_aload_n dX9_init_191 rfl rfl ?_
  refine am_iconst (v := 3) dX9_init_192 rfl rfl ?_
  refine am_newarr (t := 0) rfl (by decide) rfl ac_0 dX9_init_193 rfl hf (fun y50 _ hf => ?_)
  refine am_pr_ rfl dX9_init_195 fl_X9_87 fp_9_35 (fun _ => ⟨rfl, rfl⟩) rfl hf (fun h51 _ hf => ?_)
  refine am_aload_n dX9_init_198 rfl rfl ?_
  refine am_iconst (v := 3) dX9_init_199 rfl rfl ?_
  refine am_newarr (t := 0) rfl (by decide) rfl ac_0 dX9_init_200 rfl hf (fun y52 _ hf => ?_)
  refine am_pr_ rfl dX9_init_202 fl_X9_90 fp_9_36 (fun _ => ⟨rfl, rfl⟩) rfl hf (fun h53 _ hf => ?_)
  refine am_aload_n dX9_init_205 rfl rfl ?_
  refine am_bipush (v := 12) dX9_init_206 (by decide) rfl ?_
  refine am_newarr (t := 0) rfl (by decide) rfl ac_0 dX9_init_208 rfl hf (fun y54 _ hf => ?_)
  refine am_pr_ rfl dX9_init_210 fl_X9_93 fp_9_41 (fun _ => ⟨rfl, rfl⟩) rfl hf (fun h55 _ hf => ?_)
  refine am_aload_n dX9_init_213 rfl rfl ?_
  refine am_iconst (v := 3) dX9_init_214 rfl rfl ?_
  refine am_newarr (t := 0) rfl (by decide) rfl ac_0 dX9_init_215 rfl hf (fun y56 _ hf => ?_)
  refine am_pr_ rfl dX9_init_217 fl_X9_96 fp_9_43 (fun _ => ⟨rfl, rfl⟩) rfl hf (fun h57 _ hf => ?_)
  refine am_aload_n dX9_init_220 rfl rfl ?_
  refine am_iconst (v := 3) dX9_init_221 rfl rfl ?_
  refine am_newarr (t := 0) rfl (by decide) rfl ac_0 dX9_init_222 rfl hf (fun y58 _ hf => ?_)
  refine am_pr_ rfl dX9_init_224 fl_X9_99 fp_9_50 (fun _ => ⟨rfl, rfl⟩) rfl hf (fun h59 _ hf => ?_)
  refine am_aload_n dX9_init_227 rfl rfl ?_
  refine am_bipush (v := 12) dX9_init_228 (by decide) rfl ?_
  refine am_newarr (t := 0) rfl (by decide) rfl ac_0 dX9_init_230 rfl hf (fun y60 _ hf => ?_)
  refine am_pr_ rfl dX9_init_232 fl_X9_102 fp_9_56 (fun _ => ⟨rfl, rfl⟩) rfl hf (fun h61 _ hf => ?_)
  refine am_aload_n dX9_init_235 rfl rfl ?_
  refine am_bipush (v := 96) dX9_init_236 (by decide) rfl ?_
  refine am_newarr (t := 0) rfl (by decide) rfl ac_0 dX9_init_238 rfl hf (fun y62 _ hf => ?_)
  refine am_pr_ rfl dX9_init_240 fl_X9_105 fp_9_59 (fun _ => ⟨rfl, rfl⟩) rfl hf (fun h63 _ hf => ?_)
  refine am_aload_n dX9_init_243 rfl rfl ?_
  refine am_sipush (v := 128) dX9_init_244 (by decide) rfl ?_
  refine am_newarr (t := 0) rfl (by decide) rfl ac_0 dX9_init_247 rfl hf (fun y64 _ hf => ?_)
  refine am_pr_ rfl dX9_init_249 fl_X9_108 fp_9_63 (fun _ => ⟨rfl, rfl⟩) rfl hf (fun h65 _ hf => ?_)
  refine am_aload_n dX9_init_252 rfl rfl ?_
  refine am_bipush (v := 10) dX9_init_253 (by decide) rfl ?_
  refine am_newarr (t := 3) rfl (by decide) rfl ac_3 dX9_init_255 rfl hf (fun y66 _ hf => ?_)
  refine am_pr_ rfl dX9_init_257 fl_X9_111 fp_9_66 (fun _ => ⟨rfl, rfl⟩) rfl hf (fun h67 _ hf => ?_)
  refine am_aload_n dX9_init_260 rfl rfl ?_
  refine am_bipush (v := 10) dX9_init_261 (by decide) rfl ?_
  refine am_newarr (t := 0) rfl (by decide) rfl ac_0 dX9_init_263 rfl hf (fun y68 _ hf => ?_)
  refine am_pr_ rfl dX9_init_265 fl_X9_115 fp_9_67 (fun _ => ⟨rfl, rfl⟩) rfl hf (fun h69 _ hf => ?_)
  refine am_aload_n dX9_init_268 rfl rfl ?_
  refine am_iconst (v := 4) dX9_init_269 rfl rfl ?_
  refine am_newarr (t := 0) rfl (by decide) rfl ac_0 dX9_init_270 rfl hf (fun y70 _ hf => ?_)
  refine am_pr_ rfl dX9_init_272 fl_X9_118 fp_9_68 (fun _ => ⟨rfl, rfl⟩) rfl hf (fun h71 _ hf => ?_)
  refine am_aload_n dX9_init_275 rfl rfl ?_
  refine am_sipush (v := 128) dX9_init_276 (by decide) rfl ?_
  refine am_newarr (t := 0) rfl (by decide) rfl ac_0 dX9_init_279 rfl hf (fun y72 _ hf => ?_)
  refine am_pr_ rfl dX9_init_281 fl_X9_121 fp_9_70 (fun _ => ⟨rfl, rfl⟩) rfl hf (fun h73 _ hf => ?_)
  refine am_aload_n dX9_init_284 rfl rfl ?_
  refine am_sipush (v := 128) dX9_init_285 (by decide) rfl ?_
  refine am_newarr (t := 0) rfl (by decide) rfl ac_0 dX9_init_288 rfl hf (fun y74 _ hf => ?_)
  refine am_pr_ rfl dX9_init_290 fl_X9_124 fp_9_71 (fun _ => ⟨rfl, rfl⟩) rfl hf (fun h75 _ hf => ?_)
  refine am_iconst (v := 0) dX9_init_293 rfl rfl ?_
  refine am_istore_n (ls' := [some (va_rf (some v0)), some (.int (0 : Int32))]) dX9_init_294 (by decide) (am_s1_r (j := 0) rfl rfl) rfl ?_
  exact (sfX9_init_295 _) _ _ _ _ hf
set_option maxRecDepth 20000 in
set_option maxHeartbeats 4000000 in
theorem sfX8_byteOf {G : am_G}  (v0 : Int64) (v2 : Int32) (h : am_H) (y : Int32 × am_H) (hf : fX8_byteOf v0 v2 h = some y) : am_Cn G miX8_byteOf [.long v0, .int v2] h (some (.int y.1)) y.2 := by
  refine am_beg (ls := [some (.long v0), none, some (.int v2)]) (by simp only [am_en, am_e1_r, am_e1_i, am_e1_l, am_e1_n]; rfl) ?_
  unfold fX8_byteOf at hf
  refine am_lload_n dX8_byteOf_0 rfl rfl ?_
  refine am_bipush (v := 8) dX8_byteOf_1 (by decide) rfl ?_
  refine am_iload_n dX8_byteOf_3 rfl rfl ?_
  refine am_imul dX8_byteOf_4 rfl ?_
  refine am_lushr dX8_byteOf_5 rfl rfl ?_
  refine am_l2i dX8_byteOf_6 rfl ?_
  refine am_sipush (v := 255) dX8_byteOf_7 (by decide) rfl ?_
  refine am_iand dX8_byteOf_10 rfl ?_
  exact am_iret rfl dX8_byteOf_11 hf
set_option maxRecDepth 20000 in
set_option maxHeartbeats 4000000 in
theorem sfX8_lettersIn_56 {G : am_G}  {k4 : Int64 → Int32 → Int32 → am_H → Option (Int32 × am_H)} (hk4 : ∀ (v0 : Int64) (v2 : Int32) (v3 : Int32) (h : am_H) (y : Int32 × am_H), k4 v0 v2 v3 h = some y → am_S G miX8_lettersIn 4 [some (.long v0), none, some (.int v2), some (.int v3), none, none] [] h (some (.int y.1)) y.2) (v0 : Int64) (v2 : Int32) (v3 : Int32) (h : am_H) (y : Int32 × am_H) (hf : fX8_lettersIn_56 k4 v0 v2 v3 h = some y) : am_S G miX8_lettersIn 56 [some (.long v0), none, some (.int v2), some (.int v3), none, none] [] h (some (.int y.1)) y.2 := by
  unfold fX8_lettersIn_56 at hf
  refine am_iinc (ls' := [some (.long v0), none, some (.int v2), some (.int (v3 + (1 : Int32))), none, none]) dX8_lettersIn_56 rfl rfl (by decide) rfl rfl ?_
  refine am_goto (pc' := 4) dX8_lettersIn_59 (by decide) ?_
  exact hk4 _ _ _ _ _ hf
set_option maxRecDepth 20000 in
set_option maxHeartbeats 4000000 in
theorem sfX8_lettersIn_32 {G : am_G}  {k4 : Int64 → Int32 → Int32 → am_H → Option (Int32 × am_H)} (hk4 : ∀ (v0 : Int64) (v2 : Int32) (v3 : Int32) (h : am_H) (y : Int32 × am_H), k4 v0 v2 v3 h = some y → am_S G miX8_lettersIn 4 [some (.long v0), none, some (.int v2), some (.int v3), none, none] [] h (some (.int y.1)) y.2) (v0 : Int64) (v2 : Int32) (v3 : Int32) (v4 : Int32) (s0 : Int32) (h : am_H) (y : Int32 × am_H) (hf : fX8_lettersIn_32 k4 v0 v2 v3 v4 s0 h = some y) : am_S G miX8_lettersIn 32 [some (.long v0), none, some (.int v2), some (.int v3), some (.int v4), none] [.int s0] h (some (.int y.1)) y.2 := by
  unfold fX8_lettersIn_32 at hf
  refine am_istore (ls' := [some (.long v0), none, some (.int v2), some (.int v3), some (.int v4), some (.int s0)]) dX8_lettersIn_32 (by decide) rfl rfl ?_
  refine am_iload dX8_lettersIn_34 rfl rfl ?_
  refine am_bipush (v := 126) dX8_lettersIn_36 (by decide) rfl ?_
  refine am_icmp_gt (tgt := 46) dX8_lettersIn_38 (by decide) rfl hf (fun hf => ?_) (fun hf => ?_)
  · refine am_iconst (v := -1) dX8_lettersIn_46 rfl rfl ?_
    exact am_iret rfl dX8_lettersIn_47 hf
  refine am_iload dX8_lettersIn_41 rfl rfl ?_
  refine am_if_eq (tgt := 48) dX8_lettersIn_43 (by decide) rfl hf (fun hf => ?_) (fun hf => ?_)
  · refine am_iload dX8_lettersIn_48 rfl rfl ?_
    refine am_if_eq (tgt := 56) dX8_lettersIn_50 (by decide) rfl hf (fun hf => ?_) (fun hf => ?_)
    · exact am_we ((sfX8_lettersIn_56 hk4) _ _ _ _ _ hf) ⟨Or.inr rfl, Or.inl rfl, Or.inr rfl, Or.inr rfl, Or.inl rfl, Or.inl rfl, trivial⟩
    refine am_iinc (ls' := [some (.long v0), none, some (.int (v2 + (1 : Int32))), some (.int v3), some (.int v4), some (.int s0)]) dX8_lettersIn_53 rfl rfl (by decide) rfl rfl ?_
    exact am_we ((sfX8_lettersIn_56 hk4) _ _ _ _ _ hf) ⟨Or.inr rfl, Or.inl rfl, Or.inr rfl, Or.inr rfl, Or.inl rfl, Or.inl rfl, trivial⟩
  refine am_iconst (v := -1) dX8_lettersIn_46 rfl rfl ?_
  exact am_iret rfl dX8_lettersIn_47 hf
set_option maxRecDepth 20000 in
set_option maxHeartbeats 4000000 in
theorem sfX8_lettersIn_31 {G : am_G}  {k32 : Int64 → Int32 → Int32 → Int32 → Int32 → am_H → Option (Int32 × am_H)} (hk32 : ∀ (v0 : Int64) (v2 : Int32) (v3 : Int32) (v4 : Int32) (s0 : Int32) (h : am_H) (y : Int32 × am_H), k32 v0 v2 v3 v4 s0 h = some y → am_S G miX8_lettersIn 32 [some (.long v0), none, some (.int v2), some (.int v3), some (.int v4), none] [.int s0] h (some (.int y.1)) y.2) (v0 : Int64) (v2 : Int32) (v3 : Int32) (v4 : Int32) (h : am_H) (y : Int32 × am_H) (hf : fX8_lettersIn_31 k32 v0 v2 v3 v4 h = some y) : am_S G miX8_lettersIn 31 [some (.long v0), none, some (.int v2), some (.int v3), some (.int v4), none] [] h (some (.int y.1)) y.2 := by
  unfold fX8_lettersIn_31 at hf
  refine am_iconst (v := 0) dX8_lettersIn_31 rfl rfl ?_
  exact hk32 _ _ _ _ _ _ _ hf
set_option maxRecDepth 20000 in
set_option maxHeartbeats 4000000 in
theorem sfX8_lettersIn_4 {G : am_G}  : ∀ (n : Nat) (v0 : Int64) (v2 : Int32) (v3 : Int32) (h : am_H) (y : Int32 × am_H) (hf : fX8_lettersIn_4  n v0 v2 v3 h = some y), am_S G miX8_lettersIn 4 [some (.long v0), none, some (.int v2), some (.int v3), none, none] [] h (some (.int y.1)) y.2 := by
  intro n
  induction n with
  | zero => intro v0 v2 v3 h y hf; cases hf
  | succ n ih =>
    intro v0 v2 v3 h y hf
    have hf : fX8_lettersIn_4_b  (fX8_lettersIn_4  n) v0 v2 v3 h = some y := hf
    unfold fX8_lettersIn_4_b at hf
    refine am_iload_n dX8_lettersIn_4 rfl rfl ?_
    refine am_bipush (v := 8) dX8_lettersIn_5 (by decide) rfl ?_
    refine am_icmp_ge (tgt := 62) dX8_lettersIn_7 (by decide) rfl hf (fun hf => ?_) (fun hf => ?_)
    · refine am_iload_n dX8_lettersIn_62 rfl rfl ?_
      exact am_iret rfl dX8_lettersIn_63 hf
    refine am_lload_n dX8_lettersIn_10 rfl rfl ?_
    refine am_iload_n dX8_lettersIn_11 rfl rfl ?_
    refine am_cSi (As := [.long v0, .int v3]) (st := []) lk_X8_lettersIn_95 rfl (Nat.le_of_ble_eq_true rfl) (Nat.le_of_ble_eq_true rfl) rfl dX8_lettersIn_12 rfl hf (fun y1 hf => sfX8_byteOf _ _ _ y1 hf) (fun y1 _ hf => ?_)
    refine am_istore (ls' := [some (.long v0), none, some (.int v2), some (.int v3), some (.int y1.1), none]) dX8_lettersIn_15 (by decide) rfl rfl ?_
    refine am_iload dX8_lettersIn_17 rfl rfl ?_
    refine am_if_eq (tgt := 31) dX8_lettersIn_19 (by decide) rfl hf (fun hf => ?_) (fun hf => ?_)
    · exact (sfX8_lettersIn_31 (sfX8_lettersIn_32 ih)) _ _ _ _ _ _ hf
    refine am_iload_n dX8_lettersIn_22 rfl rfl ?_
    refine am_iload_n dX8_lettersIn_23 rfl rfl ?_
    refine am_icmp_ge (tgt := 31) dX8_lettersIn_24 (by decide) rfl hf (fun hf => ?_) (fun hf => ?_)
    · exact (sfX8_lettersIn_31 (sfX8_lettersIn_32 ih)) _ _ _ _ _ _ hf
    refine am_iconst (v := 1) dX8_lettersIn_27 rfl rfl ?_
    refine am_goto (pc' := 32) dX8_lettersIn_28 (by decide) ?_
    exact (sfX8_lettersIn_32 ih) _ _ _ _ _ _ _ hf
set_option maxRecDepth 20000 in
set_option maxHeartbeats 4000000 in
theorem sfX8_lettersIn {G : am_G}  (v0 : Int64) (h : am_H) (y : Int32 × am_H) (hf : fX8_lettersIn v0 h = some y) : am_Cn G miX8_lettersIn [.long v0] h (some (.int y.1)) y.2 := by
  refine am_beg (ls := [some (.long v0), none, none, none, none, none]) (by simp only [am_en, am_e1_r, am_e1_i, am_e1_l, am_e1_n]; rfl) ?_
  unfold fX8_lettersIn at hf
  refine am_iconst (v := 0) dX8_lettersIn_0 rfl rfl ?_
  refine am_istore_n (ls' := [some (.long v0), none, some (.int (0 : Int32)), none, none, none]) dX8_lettersIn_1 (by decide) rfl rfl ?_
  refine am_iconst (v := 0) dX8_lettersIn_2 rfl rfl ?_
  refine am_istore_n (ls' := [some (.long v0), none, some (.int (0 : Int32)), some (.int (0 : Int32)), none, none]) dX8_lettersIn_3 (by decide) rfl rfl ?_
  exact (sfX8_lettersIn_4 _) _ _ _ _ _ hf
set_option maxRecDepth 20000 in
set_option maxHeartbeats 4000000 in
theorem sfX3_add {G : am_G}  (v0 : Nat) (v1 : Int32) (h : am_H) (y : am_H) (hf : fX3_add v0 v1 h = some y) : am_Cn G miX3_add [va_rf (some v0), .int v1] h none y := by
  refine am_beg (ls := [some (va_rf (some v0)), some (.int v1)]) (by simp only [am_en, am_e1_r, am_e1_i, am_e1_l, am_e1_n]; rfl) ?_
  unfold fX3_add at hf
  refine am_aload_n dX3_add_0 rfl rfl ?_
  refine am_gi_ dX3_add_1 fl_X3_15 rfl hf (fun x1 _ hf => ?_)
  refine am_if_lt (tgt := 36) dX3_add_4 (by decide) rfl hf (fun hf => ?_) (fun hf => ?_)
  · exact am_vret rfl dX3_add_36 hf
  refine am_aload_n dX3_add_7 rfl rfl ?_
  refine am_gi_ dX3_add_8 fl_X3_15 rfl hf (fun x2 _ hf => ?_)
  refine am_bipush (v := 80) dX3_add_11 (by decide) rfl ?_
  refine am_icmp_ge (tgt := 36) dX3_add_13 (by decide) rfl hf (fun hf => ?_) (fun hf => ?_)
  · exact am_vret rfl dX3_add_36 hf
  refine am_aload_n dX3_add_16 rfl rfl ?_
  refine am_gr_ dX3_add_17 fl_X3_9 rfl hf (fun x3 _ hf => ?_)
  refine am_aload_n dX3_add_20 rfl rfl ?_
  refine am_gi_ dX3_add_21 fl_X3_15 rfl hf (fun x4 _ hf => ?_)
  refine am_iload_n dX3_add_24 rfl rfl ?_
  refine am_cast dX3_add_25 rfl hf (fun h5 _ hf => ?_)
  refine am_aload_n dX3_add_26 rfl rfl ?_
  refine am_dup dX3_add_27 (am_c1 _) rfl ?_
  refine am_gi_ dX3_add_28 fl_X3_15 rfl hf (fun x6 _ hf => ?_)
  refine am_iconst (v := 1) dX3_add_31 rfl rfl ?_
  refine am_iadd dX3_add_32 rfl ?_
  refine am_pi_ dX3_add_33 fl_X3_15 fp_3_1 (fun z => by cases z) rfl hf (fun h7 _ hf => ?_)
  exact am_vret rfl dX3_add_36 hf
set_option maxRecDepth 20000 in
set_option maxHeartbeats 4000000 in
theorem sfX8_letters_33 {G : am_G}  : ∀ (n : Nat) (v0 : Option Nat) (v1 : Int64) (v3 : Int32) (v4 : Int32) (h : am_H) (y : Int32 × am_H) (hf : fX8_letters_33  n v0 v1 v3 v4 h = some y), am_S G miX8_letters 33 [some (va_rf v0), some (.long v1), none, some (.int v3), some (.int v4)] [] h (some (.int y.1)) y.2 := by
  intro n
  induction n with
  | zero => intro v0 v1 v3 v4 h y hf; cases hf
  | succ n ih =>
    intro v0 v1 v3 v4 h y hf
    have hf : fX8_letters_33_b  (fX8_letters_33  n) v0 v1 v3 v4 h = some y := hf
    unfold fX8_letters_33_b at hf
    refine am_iload dX8_letters_33 rfl rfl ?_
    refine am_iload_n dX8_letters_35 rfl rfl ?_
    refine am_icmp_ge (tgt := 59) dX8_letters_36 (by decide) rfl hf (fun hf => ?_) (fun hf => ?_)
    · refine am_aload_n dX8_letters_59 rfl rfl ?_
      refine am_gr_ dX8_letters_60 fl_X8_30 rfl hf (fun x1 _ hf => ?_)
      refine am_gi_ dX8_letters_63 fl_X8_91 rfl hf (fun x2 _ hf => ?_)
      exact am_iret rfl dX8_letters_66 hf
    refine am_aload_n dX8_letters_39 rfl rfl ?_
    refine am_gr_ dX8_letters_40 fl_X8_30 rfl hf (fun x3 _ hf => ?_)
    refine am_lload_n dX8_letters_43 rfl rfl ?_
    refine am_iload dX8_letters_44 rfl rfl ?_
    refine am_cSi (As := [.long v1, .int v4]) (st := [va_rf x3]) lk_X8_letters_95 rfl (Nat.le_of_ble_eq_true rfl) (by simp only [List.map_cons, List.map_nil, am_c1, am_ci, am_cl]; exact Nat.le_of_ble_eq_true rfl) rfl dX8_letters_46 rfl hf (fun y4 hf => sfX8_byteOf _ _ _ y4 hf) (fun y4 _ hf => ?_)
    refine am_i2c dX8_letters_49 rfl ?_
    refine am_cVv (As := [.int (((Int32.toUInt32 y4.1) % 65536).toInt32)]) (st := []) lk_X8_letters_99 rfl (Nat.le_of_ble_eq_true rfl) (Nat.le_of_ble_eq_true rfl) rfl dX8_letters_50 rfl hf (fun b6 y5 hf => sfX3_add b6 _ _ y5 hf) (fun b6 y5 _ _ hf => ?_)
    refine am_iinc (ls' := [some (va_rf v0), some (.long v1), none, some (.int v3), some (.int (v4 + (1 : Int32)))]) dX8_letters_53 rfl rfl (by decide) rfl rfl ?_
    refine am_goto (pc' := 33) dX8_letters_56 (by decide) ?_
    exact ih _ _ _ _ _ _ hf
set_option maxRecDepth 20000 in
set_option maxHeartbeats 4000000 in
theorem sfX8_letters {G : am_G}  (v0 : Nat) (v1 : Int64) (h : am_H) (y : Int32 × am_H) (hf : fX8_letters v0 v1 h = some y) : am_Cn G miX8_letters [va_rf (some v0), .long v1] h (some (.int y.1)) y.2 := by
  refine am_beg (ls := [some (va_rf (some v0)), some (.long v1), none, none, none]) (by simp only [am_en, am_e1_r, am_e1_i, am_e1_l, am_e1_n]; rfl) ?_
  unfold fX8_letters at hf
  refine am_lload_n dX8_letters_0 rfl rfl ?_
  refine am_cSi (As := [.long v1]) (st := []) lk_X8_letters_87 rfl (Nat.le_of_ble_eq_true rfl) (Nat.le_of_ble_eq_true rfl) rfl dX8_letters_1 rfl hf (fun y1 hf => sfX8_lettersIn _ _ y1 hf) (fun y1 _ hf => ?_)
  refine am_istore_n (ls' := [some (va_rf (some v0)), some (.long v1), none, some (.int y1.1), none]) dX8_letters_4 (by decide) rfl rfl ?_
  refine am_iload_n dX8_letters_5 rfl rfl ?_
  refine am_iconst (v := -1) dX8_letters_6 rfl rfl ?_
  refine am_icmp_ne (tgt := 13) dX8_letters_7 (by decide) rfl hf (fun hf => ?_) (fun hf => ?_)
  · refine am_aload_n dX8_letters_13 rfl rfl ?_
    refine am_gr_ dX8_letters_14 fl_X8_30 rfl hf (fun x2 _ hf => ?_)
    refine am_gi_ dX8_letters_17 fl_X8_91 rfl hf (fun x3 _ hf => ?_)
    refine am_iload_n dX8_letters_20 rfl rfl ?_
    refine am_iadd dX8_letters_21 rfl ?_
    refine am_bipush (v := 80) dX8_letters_22 (by decide) rfl ?_
    refine am_icmp_le (tgt := 30) dX8_letters_24 (by decide) rfl hf (fun hf => ?_) (fun hf => ?_)
    · refine am_iconst (v := 0) dX8_letters_30 rfl rfl ?_
      refine am_istore (ls' := [some (va_rf (some v0)), some (.long v1), none, some (.int y1.1), some (.int (0 : Int32))]) dX8_letters_31 (by decide) rfl rfl ?_
      exact (sfX8_letters_33 _) _ _ _ _ _ _ hf
    refine am_bipush (v := -104) dX8_letters_27 (by decide) rfl ?_
    exact am_iret rfl dX8_letters_29 hf
  refine am_bipush (v := -102) dX8_letters_10 (by decide) rfl ?_
  exact am_iret rfl dX8_letters_12 hf
set_option maxRecDepth 20000 in
set_option maxHeartbeats 4000000 in
theorem sfX9_letters_77 {G : am_G}  {k8 : Option Nat → Int64 → Int32 → Int32 → Int32 → am_H → Option (Int32 × am_H)} (hk8 : ∀ (v0 : Option Nat) (v1 : Int64) (v3 : Int32) (v4 : Int32) (v5 : Int32) (h : am_H) (y : Int32 × am_H), k8 v0 v1 v3 v4 v5 h = some y → am_S G miX9_letters 8 [some (va_rf v0), some (.long v1), none, some (.int v3), some (.int v4), some (.int v5), none] [] h (some (.int y.1)) y.2) (v0 : Option Nat) (v1 : Int64) (v4 : Int32) (v5 : Int32) (s0 : Int32) (s1 : Int32) (h : am_H) (y : Int32 × am_H) (hf : fX9_letters_77 k8 v0 v1 v4 v5 s0 s1 h = some y) : am_S G miX9_letters 77 [some (va_rf v0), some (.long v1), none, none, some (.int v4), some (.int v5), none] [.int s1, .int s0] h (some (.int y.1)) y.2 := by
  unfold fX9_letters_77 at hf
  refine am_iadd dX9_letters_77 rfl ?_
  refine am_istore_n (ls' := [some (va_rf v0), some (.long v1), none, some (.int (s0 + s1)), some (.int v4), some (.int v5), none]) dX9_letters_78 (by decide) rfl rfl ?_
  refine am_iinc (ls' := [some (va_rf v0), some (.long v1), none, some (.int (s0 + s1)), some (.int v4), some (.int (v5 + (1 : Int32))), none]) dX9_letters_79 rfl rfl (by decide) rfl rfl ?_
  refine am_goto (pc' := 8) dX9_letters_82 (by decide) ?_
  exact hk8 _ _ _ _ _ _ _ hf
set_option maxRecDepth 20000 in
set_option maxHeartbeats 4000000 in
theorem sfX9_letters_64 {G : am_G}  {k8 : Option Nat → Int64 → Int32 → Int32 → Int32 → am_H → Option (Int32 × am_H)} (hk8 : ∀ (v0 : Option Nat) (v1 : Int64) (v3 : Int32) (v4 : Int32) (v5 : Int32) (h : am_H) (y : Int32 × am_H), k8 v0 v1 v3 v4 v5 h = some y → am_S G miX9_letters 8 [some (va_rf v0), some (.long v1), none, some (.int v3), some (.int v4), some (.int v5), none] [] h (some (.int y.1)) y.2) (v0 : Option Nat) (v1 : Int64) (v3 : Int32) (v5 : Int32) (v6 : Int32) (s0 : Int32) (h : am_H) (y : Int32 × am_H) (hf : fX9_letters_64 k8 v0 v1 v3 v5 v6 s0 h = some y) : am_S G miX9_letters 64 [some (va_rf v0), some (.long v1), none, some (.int v3), none, some (.int v5), some (.int v6)] [.int s0] h (some (.int y.1)) y.2 := by
  unfold fX9_letters_64 at hf
  refine am_istore (ls' := [some (va_rf v0), some (.long v1), none, some (.int v3), some (.int s0), some (.int v5), some (.int v6)]) dX9_letters_64 (by decide) rfl rfl ?_
  refine am_iload_n dX9_letters_66 rfl rfl ?_
  refine am_iload dX9_letters_67 rfl rfl ?_
  refine am_if_ne (tgt := 76) dX9_letters_69 (by decide) rfl hf (fun hf => ?_) (fun hf => ?_)
  · refine am_iconst (v := 1) dX9_letters_76 rfl rfl ?_
    exact am_we ((sfX9_letters_77 hk8) _ _ _ _ _ _ _ _ hf) ⟨Or.inr rfl, Or.inr rfl, Or.inl rfl, Or.inl rfl, Or.inr rfl, Or.inr rfl, Or.inl rfl, trivial⟩
  refine am_iconst (v := 0) dX9_letters_72 rfl rfl ?_
  refine am_goto (pc' := 77) dX9_letters_73 (by decide) ?_
  exact am_we ((sfX9_letters_77 hk8) _ _ _ _ _ _ _ _ hf) ⟨Or.inr rfl, Or.inr rfl, Or.inl rfl, Or.inl rfl, Or.inr rfl, Or.inr rfl, Or.inl rfl, trivial⟩
set_option maxRecDepth 20000 in
set_option maxHeartbeats 4000000 in
theorem sfX9_letters_59 {G : am_G}  {k64 : Option Nat → Int64 → Int32 → Int32 → Int32 → Int32 → am_H → Option (Int32 × am_H)} (hk64 : ∀ (v0 : Option Nat) (v1 : Int64) (v3 : Int32) (v5 : Int32) (v6 : Int32) (s0 : Int32) (h : am_H) (y : Int32 × am_H), k64 v0 v1 v3 v5 v6 s0 h = some y → am_S G miX9_letters 64 [some (va_rf v0), some (.long v1), none, some (.int v3), none, some (.int v5), some (.int v6)] [.int s0] h (some (.int y.1)) y.2) (v0 : Option Nat) (v1 : Int64) (v3 : Int32) (v5 : Int32) (v6 : Int32) (h : am_H) (y : Int32 × am_H) (hf : fX9_letters_59 k64 v0 v1 v3 v5 v6 h = some y) : am_S G miX9_letters 59 [some (va_rf v0), some (.long v1), none, some (.int v3), none, some (.int v5), some (.int v6)] [] h (some (.int y.1)) y.2 := by
  unfold fX9_letters_59 at hf
  refine am_iconst (v := 1) dX9_letters_59 rfl rfl ?_
  refine am_goto (pc' := 64) dX9_letters_60 (by decide) ?_
  exact hk64 _ _ _ _ _ _ _ _ hf
set_option maxRecDepth 20000 in
set_option maxHeartbeats 4000000 in
theorem sfX9_letters_102 {G : am_G}  : ∀ (n : Nat) (v0 : Option Nat) (v1 : Int64) (v3 : Int32) (v5 : Int32) (h : am_H) (y : Int32 × am_H) (hf : fX9_letters_102  n v0 v1 v3 v5 h = some y), am_S G miX9_letters 102 [some (va_rf v0), some (.long v1), none, some (.int v3), none, some (.int v5), none] [] h (some (.int y.1)) y.2 := by
  intro n
  induction n with
  | zero => intro v0 v1 v3 v5 h y hf; cases hf
  | succ n ih =>
    intro v0 v1 v3 v5 h y hf
    have hf : fX9_letters_102_b  (fX9_letters_102  n) v0 v1 v3 v5 h = some y := hf
    unfold fX9_letters_102_b at hf
    refine am_iload dX9_letters_102 rfl rfl ?_
    refine am_iload_n dX9_letters_104 rfl rfl ?_
    refine am_icmp_ge (tgt := 135) dX9_letters_105 (by decide) rfl hf (fun hf => ?_) (fun hf => ?_)
    · refine am_aload_n dX9_letters_135 rfl rfl ?_
      refine am_dup dX9_letters_136 (am_c1 _) rfl ?_
      refine am_gi_ dX9_letters_137 fl_X9_129 rfl hf (fun x1 _ hf => ?_)
      refine am_iload_n dX9_letters_140 rfl rfl ?_
      refine am_iadd dX9_letters_141 rfl ?_
      refine am_pi_ dX9_letters_142 fl_X9_129 fp_9_24 (fun z => by cases z) rfl hf (fun h2 _ hf => ?_)
      refine am_aload_n dX9_letters_145 rfl rfl ?_
      refine am_gi_ dX9_letters_146 fl_X9_129 rfl hf (fun x3 _ hf => ?_)
      exact am_iret rfl dX9_letters_149 hf
    refine am_aload_n dX9_letters_108 rfl rfl ?_
    refine am_gr_ dX9_letters_109 fl_X9_71 rfl hf (fun x4 _ hf => ?_)
    refine am_aload_n dX9_letters_112 rfl rfl ?_
    refine am_gi_ dX9_letters_113 fl_X9_129 rfl hf (fun x5 _ hf => ?_)
    refine am_iload dX9_letters_116 rfl rfl ?_
    refine am_iadd dX9_letters_118 rfl ?_
    refine am_lload_n dX9_letters_119 rfl rfl ?_
    refine am_bipush (v := 8) dX9_letters_120 (by decide) rfl ?_
    refine am_iload dX9_letters_122 rfl rfl ?_
    refine am_imul dX9_letters_124 rfl ?_
    refine am_lshr dX9_letters_125 rfl ?_
    refine am_l2i dX9_letters_126 rfl ?_
    refine am_i2b dX9_letters_127 rfl ?_
    refine am_bast dX9_letters_128 rfl hf (fun h6 _ hf => ?_)
    refine am_iinc (ls' := [some (va_rf v0), some (.long v1), none, some (.int v3), none, some (.int (v5 + (1 : Int32))), none]) dX9_letters_129 rfl rfl (by decide) rfl rfl ?_
    refine am_goto (pc' := 102) dX9_letters_132 (by decide) ?_
    exact ih _ _ _ _ _ _ hf
set_option maxRecDepth 20000 in
set_option maxHeartbeats 4000000 in
theorem sfX9_letters_49 {G : am_G}  {k8 : Option Nat → Int64 → Int32 → Int32 → Int32 → am_H → Option (Int32 × am_H)} (hk8 : ∀ (v0 : Option Nat) (v1 : Int64) (v3 : Int32) (v4 : Int32) (v5 : Int32) (h : am_H) (y : Int32 × am_H), k8 v0 v1 v3 v4 v5 h = some y → am_S G miX9_letters 8 [some (va_rf v0), some (.long v1), none, some (.int v3), some (.int v4), some (.int v5), none] [] h (some (.int y.1)) y.2) (v0 : Option Nat) (v1 : Int64) (v3 : Int32) (v4 : Int32) (v5 : Int32) (v6 : Int32) (h : am_H) (y : Int32 × am_H) (hf : fX9_letters_49 k8 v0 v1 v3 v4 v5 v6 h = some y) : am_S G miX9_letters 49 [some (va_rf v0), some (.long v1), none, some (.int v3), some (.int v4), some (.int v5), some (.int v6)] [] h (some (.int y.1)) y.2 := by
  unfold fX9_letters_49 at hf
  refine am_iload dX9_letters_49 rfl rfl ?_
  refine am_if_ne (tgt := 59) dX9_letters_51 (by decide) rfl hf (fun hf => ?_) (fun hf => ?_)
  · exact am_we ((sfX9_letters_59 (sfX9_letters_64 hk8)) _ _ _ _ _ _ _ hf) ⟨Or.inr rfl, Or.inr rfl, Or.inl rfl, Or.inr rfl, Or.inl rfl, Or.inr rfl, Or.inr rfl, trivial⟩
  refine am_iload dX9_letters_54 rfl rfl ?_
  refine am_if_ne (tgt := 63) dX9_letters_56 (by decide) rfl hf (fun hf => ?_) (fun hf => ?_)
  · refine am_iconst (v := 0) dX9_letters_63 rfl rfl ?_
    exact am_we ((sfX9_letters_64 hk8) _ _ _ _ _ _ _ _ hf) ⟨Or.inr rfl, Or.inr rfl, Or.inl rfl, Or.inr rfl, Or.inl rfl, Or.inr rfl, Or.inr rfl, trivial⟩
  exact am_we ((sfX9_letters_59 (sfX9_letters_64 hk8)) _ _ _ _ _ _ _ hf) ⟨Or.inr rfl, Or.inr rfl, Or.inl rfl, Or.inr rfl, Or.inl rfl, Or.inr rfl, Or.inr rfl, trivial⟩
set_option maxRecDepth 20000 in
set_option maxHeartbeats 4000000 in
theorem sfX9_letters_8 {G : am_G}  : ∀ (n : Nat) (v0 : Option Nat) (v1 : Int64) (v3 : Int32) (v4 : Int32) (v5 : Int32) (h : am_H) (y : Int32 × am_H) (hf : fX9_letters_8  n v0 v1 v3 v4 v5 h = some y), am_S G miX9_letters 8 [some (va_rf v0), some (.long v1), none, some (.int v3), some (.int v4), some (.int v5), none] [] h (some (.int y.1)) y.2 := by
  intro n
  induction n with
  | zero => intro v0 v1 v3 v4 v5 h y hf; cases hf
  | succ n ih =>
    intro v0 v1 v3 v4 v5 h y hf
    have hf : fX9_letters_8_b  (fX9_letters_8  n) v0 v1 v3 v4 v5 h = some y := hf
    unfold fX9_letters_8_b at hf
    refine am_iload dX9_letters_8 rfl rfl ?_
    refine am_bipush (v := 8) dX9_letters_10 (by decide) rfl ?_
    refine am_icmp_ge (tgt := 85) dX9_letters_12 (by decide) rfl hf (fun hf => ?_) (fun hf => ?_)
    · refine am_aload_n dX9_letters_85 rfl rfl ?_
      refine am_gi_ dX9_letters_86 fl_X9_129 rfl hf (fun x1 _ hf => ?_)
      refine am_iload_n dX9_letters_89 rfl rfl ?_
      refine am_iadd dX9_letters_90 rfl ?_
      refine am_bipush (v := 80) dX9_letters_91 (by decide) rfl ?_
      refine am_icmp_le (tgt := 99) dX9_letters_93 (by decide) rfl hf (fun hf => ?_) (fun hf => ?_)
      · refine am_iconst (v := 0) dX9_letters_99 rfl rfl ?_
        refine am_istore (ls' := [some (va_rf v0), some (.long v1), none, some (.int v3), some (.int v4), some (.int (0 : Int32)), none]) dX9_letters_100 (by decide) rfl rfl ?_
        exact am_we ((sfX9_letters_102 _) _ _ _ _ _ _ hf) ⟨Or.inr rfl, Or.inr rfl, Or.inl rfl, Or.inr rfl, Or.inl rfl, Or.inr rfl, Or.inl rfl, trivial⟩
      refine am_bipush (v := -104) dX9_letters_96 (by decide) rfl ?_
      exact am_iret rfl dX9_letters_98 hf
    refine am_lload_n dX9_letters_15 rfl rfl ?_
    refine am_bipush (v := 8) dX9_letters_16 (by decide) rfl ?_
    refine am_iload dX9_letters_18 rfl rfl ?_
    refine am_imul dX9_letters_20 rfl ?_
    refine am_lshr dX9_letters_21 rfl ?_
    refine am_ldc2 (v := 255) dX9_letters_22 cl_X9_127 rfl ?_
    refine am_land dX9_letters_25 rfl ?_
    refine am_l2i dX9_letters_26 rfl ?_
    refine am_istore (ls' := [some (va_rf v0), some (.long v1), none, some (.int v3), some (.int v4), some (.int v5), some (.int (Int64.toInt32 ((v1 >>> (Int32.toInt64 ((8 : Int32) * v5) &&& 63)) &&& (255 : Int64))))]) dX9_letters_27 (by decide) rfl rfl ?_
    refine am_iload dX9_letters_29 rfl rfl ?_
    refine am_bipush (v := 126) dX9_letters_31 (by decide) rfl ?_
    refine am_icmp_gt (tgt := 46) dX9_letters_33 (by decide) rfl hf (fun hf => ?_) (fun hf => ?_)
    · refine am_bipush (v := -102) dX9_letters_46 (by decide) rfl ?_
      exact am_iret rfl dX9_letters_48 hf
    refine am_iload dX9_letters_36 rfl rfl ?_
    refine am_if_eq (tgt := 49) dX9_letters_38 (by decide) rfl hf (fun hf => ?_) (fun hf => ?_)
    · exact (sfX9_letters_49 ih) _ _ _ _ _ _ _ _ hf
    refine am_iload dX9_letters_41 rfl rfl ?_
    refine am_if_eq (tgt := 49) dX9_letters_43 (by decide) rfl hf (fun hf => ?_) (fun hf => ?_)
    · exact (sfX9_letters_49 ih) _ _ _ _ _ _ _ _ hf
    refine am_bipush (v := -102) dX9_letters_46 (by decide) rfl ?_
    exact am_iret rfl dX9_letters_48 hf
