/-! printed proofs of the printed functions, 11 -/
set_option maxRecDepth 20000 in
set_option maxHeartbeats 4000000 in
theorem sfL_law_51 {G : am_G}  : ∀ (n : Nat) (v1 : Option Nat) (v2 : Option Nat) (v3 : Option Nat) (v4 : Option Nat) (v5 : Int32) (h : am_H) (y : Int32 × am_H) (hf : fL_law_51 G.2.2.2.2.1 G.2.2.2.2.2  n v1 v2 v3 v4 v5 h = some y), am_S G miL_law 51 [some (va_rf (some 0)), some (va_rf v1), some (va_rf v2), some (va_rf v3), some (va_rf v4), some (.int v5), none, none, none, none, none, none, none, none, none, none, none, none, none, none, none, none, none, none, none, none, none, none, none, none, none, none, none, none, none, none, none, none] [] h (some (.int y.1)) y.2 := by
  intro n
  induction n with
  | zero => intro v1 v2 v3 v4 v5 h y hf; cases hf
  | succ n ih =>
    intro v1 v2 v3 v4 v5 h y hf
    have hf : fL_law_51_b G.2.2.2.2.1 G.2.2.2.2.2  (fL_law_51 G.2.2.2.2.1 G.2.2.2.2.2  n) v1 v2 v3 v4 v5 h = some y := hf
    unfold fL_law_51_b at hf
    refine am_iload dL_law_51 rfl rfl ?_
    refine am_iconst (v := 4) dL_law_53 rfl rfl ?_
    refine am_icmp_ge (tgt := 163) dL_law_54 (by decide) rfl hf (fun hf => ?_) (fun hf => ?_)
    · refine am_aload_n dL_law_163 rfl rfl ?_
      refine am_bipush (v := 7) dL_law_164 (by decide) rfl ?_
      refine am_cSi (As := [va_rf (some 0), .int (7 : Int32)]) (st := []) lk_L_law_37 rfl (by simp only [am_e1_r, am_e1_i, am_e1_l, am_e1_n]; exact Nat.le_of_ble_eq_true rfl) (Nat.le_of_ble_eq_true rfl) rfl dL_law_166 rfl hf (fun y1 hf => sfL_cell _ _ y1 hf) (fun y1 _ hf => ?_)
      refine am_bipush (v := 6) dL_law_169 (by decide) rfl ?_
      refine am_irem dL_law_171 rfl hf (fun hf => ?_)
      refine am_istore (ls' := [some (va_rf (some 0)), some (va_rf v1), some (va_rf v2), some (va_rf v3), some (va_rf v4), some (.int (y1.1 - y1.1 / (6 : Int32) * (6 : Int32))), none, none, none, none, none, none, none, none, none, none, none, none, none, none, none, none, none, none, none, none, none, none, none, none, none, none, none, none, none, none, none, none]) dL_law_172 (by decide) (am_s1_r (j := 4) rfl rfl) rfl ?_
      refine am_bipush (v := 6) dL_law_174 (by decide) rfl ?_
      refine am_newarr (t := 0) rfl (by decide) rfl ac_0 dL_law_176 rfl hf (fun y2 _ hf => ?_)
      refine am_astore (ls' := [some (va_rf (some 0)), some (va_rf v1), some (va_rf v2), some (va_rf v3), some (va_rf v4), some (.int (y1.1 - y1.1 / (6 : Int32) * (6 : Int32))), some (va_rf y2.1), none, none, none, none, none, none, none, none, none, none, none, none, none, none, none, none, none, none, none, none, none, none, none, none, none, none, none, none, none, none, none]) dL_law_178 (by decide) rfl rfl ?_
      refine am_bipush (v := 6) dL_law_180 (by decide) rfl ?_
      refine am_newarr (t := 0) rfl (by decide) rfl ac_0 dL_law_182 rfl hf (fun y3 _ hf => ?_)
      refine am_astore (ls' := [some (va_rf (some 0)), some (va_rf v1), some (va_rf v2), some (va_rf v3), some (va_rf v4), some (.int (y1.1 - y1.1 / (6 : Int32) * (6 : Int32))), some (va_rf y2.1), some (va_rf y3.1), none, none, none, none, none, none, none, none, none, none, none, none, none, none, none, none, none, none, none, none, none, none, none, none, none, none, none, none, none, none]) dL_law_184 (by decide) (am_s1_r (j := 6) rfl rfl) rfl ?_
      refine am_bipush (v := 6) dL_law_186 (by decide) rfl ?_
      refine am_newarr (t := 0) rfl (by decide) rfl ac_0 dL_law_188 rfl hf (fun y4 _ hf => ?_)
      refine am_astore (ls' := [some (va_rf (some 0)), some (va_rf v1), some (va_rf v2), some (va_rf v3), some (va_rf v4), some (.int (y1.1 - y1.1 / (6 : Int32) * (6 : Int32))), some (va_rf y2.1), some (va_rf y3.1), some (va_rf y4.1), none, none, none, none, none, none, none, none, none, none, none, none, none, none, none, none, none, none, none, none, none, none, none, none, none, none, none, none, none]) dL_law_190 (by decide) (am_s1_r (j := 7) rfl rfl) rfl ?_
      refine am_iconst (v := 0) dL_law_192 rfl rfl ?_
      refine am_istore (ls' := [some (va_rf (some 0)), some (va_rf v1), some (va_rf v2), some (va_rf v3), some (va_rf v4), some (.int (y1.1 - y1.1 / (6 : Int32) * (6 : Int32))), some (va_rf y2.1), some (va_rf y3.1), some (va_rf y4.1), some (.int (0 : Int32)), none, none, none, none, none, none, none, none, none, none, none, none, none, none, none, none, none, none, none, none, none, none, none, none, none, none, none, none]) dL_law_193 (by decide) (am_s1_r (j := 8) rfl rfl) rfl ?_
      exact (sfL_law_195 _) _ _ _ _ _ _ _ _ _ _ _ hf
    refine am_aload_n dL_law_57 rfl rfl ?_
    refine am_iconst (v := 3) dL_law_58 rfl rfl ?_
    refine am_iload dL_law_59 rfl rfl ?_
    refine am_iadd dL_law_61 rfl ?_
    refine am_cSi (As := [va_rf (some 0), .int ((3 : Int32) + v5)]) (st := []) lk_L_law_37 rfl (by simp only [am_e1_r, am_e1_i, am_e1_l, am_e1_n]; exact Nat.le_of_ble_eq_true rfl) (Nat.le_of_ble_eq_true rfl) rfl dL_law_62 rfl hf (fun y5 hf => sfL_cell _ _ y5 hf) (fun y5 _ hf => ?_)
    refine am_istore (ls' := [some (va_rf (some 0)), some (va_rf v1), some (va_rf v2), some (va_rf v3), some (va_rf v4), some (.int v5), some (.int y5.1), none, none, none, none, none, none, none, none, none, none, none, none, none, none, none, none, none, none, none, none, none, none, none, none, none, none, none, none, none, none, none]) dL_law_65 (by decide) rfl rfl ?_
    refine am_aload_n dL_law_67 rfl rfl ?_
    refine am_iload dL_law_68 rfl rfl ?_
    refine am_iload dL_law_70 rfl rfl ?_
    refine am_iconst (v := 3) dL_law_72 rfl rfl ?_
    refine am_irem dL_law_73 rfl hf (fun hf => ?_)
    refine am_if_ne (tgt := 82) dL_law_74 (by decide) rfl hf (fun hf => ?_) (fun hf => ?_)
    · refine am_bipush (v := 50) dL_law_82 (by decide) rfl ?_
      refine am_iload dL_law_84 rfl rfl ?_
      refine am_iconst (v := 4) dL_law_86 rfl rfl ?_
      refine am_idiv dL_law_87 rfl hf (fun hf => ?_)
      refine am_bipush (v := 101) dL_law_88 (by decide) rfl ?_
      refine am_irem dL_law_90 rfl hf (fun hf => ?_)
      refine am_iadd dL_law_91 rfl ?_
      exact (sfL_law_92 ih) _ _ _ _ _ _ _ _ _ _ _ hf
    refine am_bipush (v := 100) dL_law_77 (by decide) rfl ?_
    refine am_goto (pc' := 92) dL_law_79 (by decide) ?_
    exact (sfL_law_92 ih) _ _ _ _ _ _ _ _ _ _ _ hf
set_option maxRecDepth 20000 in
set_option maxHeartbeats 4000000 in
theorem sfL_law {G : am_G}  (h : am_H) (y : Int32 × am_H) (hf : fL_law G.2.2.2.2.1 G.2.2.2.2.2 h = some y) : am_Cn G miL_law [va_rf (some 0)] h (some (.int y.1)) y.2 := by
  refine am_beg (ls := [some (va_rf (some 0)), none, none, none, none, none, none, none, none, none, none, none, none, none, none, none, none, none, none, none, none, none, none, none, none, none, none, none, none, none, none, none, none, none, none, none, none, none]) (by simp only [am_en, am_e1_r, am_e1_i, am_e1_l, am_e1_n]; rfl) ?_
  unfold fL_law at hf
  refine am_new_ nw_L_9 dL_law_0 rfl hf (fun y1 _ hf => ?_)
  refine am_dup dL_law_3 (am_c1 _) rfl ?_
  refine am_ini (As := []) (st := [va_rf (some y1.1)]) (b := y1.1) lk_L_law_36 rfl (Nat.le_of_ble_eq_true rfl) (by simp only [List.map_cons, List.map_nil, am_c1, am_ci, am_cl]; exact Nat.le_of_ble_eq_true rfl) rfl dL_law_4 rfl hf (fun y2 hf => sfX8_init _  _ y2 hf) (fun y2 _ hf => ?_)
  refine am_astore_n (ls' := [some (va_rf (some 0)), some (va_rf (some y1.1)), none, none, none, none, none, none, none, none, none, none, none, none, none, none, none, none, none, none, none, none, none, none, none, none, none, none, none, none, none, none, none, none, none, none, none, none]) dL_law_7 (by decide) (am_s1_r (j := 0) rfl rfl) rfl ?_
  refine am_bipush (v := 26) dL_law_8 (by decide) rfl ?_
  refine am_newarr (t := 0) rfl (by decide) rfl ac_0 dL_law_10 rfl hf (fun y3 _ hf => ?_)
  refine am_astore_n (ls' := [some (va_rf (some 0)), some (va_rf (some y1.1)), some (va_rf y3.1), none, none, none, none, none, none, none, none, none, none, none, none, none, none, none, none, none, none, none, none, none, none, none, none, none, none, none, none, none, none, none, none, none, none, none]) dL_law_12 (by decide) (am_s1_r (j := 1) rfl rfl) rfl ?_
  refine am_aload_n dL_law_13 rfl rfl ?_
  refine am_aload_n dL_law_14 rfl rfl ?_
  refine am_iconst (v := 0) dL_law_15 rfl rfl ?_
  refine am_cSi (As := [va_rf (some 0), .int (0 : Int32)]) (st := [va_rf (some y1.1)]) lk_L_law_37 rfl (by simp only [am_e1_r, am_e1_i, am_e1_l, am_e1_n]; exact Nat.le_of_ble_eq_true rfl) (by simp only [List.map_cons, List.map_nil, am_c1, am_ci, am_cl]; exact Nat.le_of_ble_eq_true rfl) rfl dL_law_16 rfl hf (fun y4 hf => sfL_cell _ _ y4 hf) (fun y4 _ hf => ?_)
  refine am_aload_n dL_law_19 rfl rfl ?_
  refine am_iconst (v := 1) dL_law_20 rfl rfl ?_
  refine am_cSi (As := [va_rf (some 0), .int (1 : Int32)]) (st := [.int y4.1, va_rf (some y1.1)]) lk_L_law_37 rfl (by simp only [am_e1_r, am_e1_i, am_e1_l, am_e1_n]; exact Nat.le_of_ble_eq_true rfl) (by simp only [List.map_cons, List.map_nil, am_c1, am_ci, am_cl]; exact Nat.le_of_ble_eq_true rfl) rfl dL_law_21 rfl hf (fun y5 hf => sfL_cell _ _ y5 hf) (fun y5 _ hf => ?_)
  refine am_aload_n dL_law_24 rfl rfl ?_
  refine am_iconst (v := 2) dL_law_25 rfl rfl ?_
  refine am_cSi (As := [va_rf (some 0), .int (2 : Int32)]) (st := [.int y5.1, .int y4.1, va_rf (some y1.1)]) lk_L_law_37 rfl (by simp only [am_e1_r, am_e1_i, am_e1_l, am_e1_n]; exact Nat.le_of_ble_eq_true rfl) (by simp only [List.map_cons, List.map_nil, am_c1, am_ci, am_cl]; exact Nat.le_of_ble_eq_true rfl) rfl dL_law_26 rfl hf (fun y6 hf => sfL_cell _ _ y6 hf) (fun y6 _ hf => ?_)
  refine am_iconst (v := 0) dL_law_29 rfl rfl ?_
  refine am_aload_n dL_law_30 rfl rfl ?_
  refine am_cSi (As := [va_rf (some y1.1), .int y4.1, .int y5.1, .int y6.1, .int (0 : Int32), va_rf y3.1]) (st := []) lk_L_law_41 rfl (by simp only [am_e1_r, am_e1_i, am_e1_l, am_e1_n]; exact Nat.le_of_ble_eq_true rfl) (Nat.le_of_ble_eq_true rfl) rfl dL_law_31 rfl hf (fun y7 hf => sfL_clock _ _ _ _ _ _ _ y7 hf) (fun y7 _ hf => ?_)
  refine am_if_ne (tgt := 39) dL_law_34 (by decide) rfl hf (fun hf => ?_) (fun hf => ?_)
  · refine am_iconst (v := 4) dL_law_39 rfl rfl ?_
    refine am_newarr (t := 0) rfl (by decide) rfl ac_0 dL_law_40 rfl hf (fun y8 _ hf => ?_)
    refine am_astore_n (ls' := [some (va_rf (some 0)), some (va_rf (some y1.1)), some (va_rf y3.1), some (va_rf y8.1), none, none, none, none, none, none, none, none, none, none, none, none, none, none, none, none, none, none, none, none, none, none, none, none, none, none, none, none, none, none, none, none, none, none]) dL_law_42 (by decide) (am_s1_r (j := 2) rfl rfl) rfl ?_
    refine am_iconst (v := 4) dL_law_43 rfl rfl ?_
    refine am_newarr (t := 0) rfl (by decide) rfl ac_0 dL_law_44 rfl hf (fun y9 _ hf => ?_)
    refine am_astore (ls' := [some (va_rf (some 0)), some (va_rf (some y1.1)), some (va_rf y3.1), some (va_rf y8.1), some (va_rf y9.1), none, none, none, none, none, none, none, none, none, none, none, none, none, none, none, none, none, none, none, none, none, none, none, none, none, none, none, none, none, none, none, none, none]) dL_law_46 (by decide) (am_s1_r (j := 3) rfl rfl) rfl ?_
    refine am_iconst (v := 0) dL_law_48 rfl rfl ?_
    refine am_istore (ls' := [some (va_rf (some 0)), some (va_rf (some y1.1)), some (va_rf y3.1), some (va_rf y8.1), some (va_rf y9.1), some (.int (0 : Int32)), none, none, none, none, none, none, none, none, none, none, none, none, none, none, none, none, none, none, none, none, none, none, none, none, none, none, none, none, none, none, none, none]) dL_law_49 (by decide) (am_s1_r (j := 4) rfl rfl) rfl ?_
    exact (sfL_law_51 _) _ _ _ _ _ _ _ hf
  refine am_iconst (v := 0) dL_law_37 rfl rfl ?_
  exact am_zret rfl dL_law_38 hf
