/-! printed proofs of the printed functions, 15 -/
set_option maxRecDepth 20000 in
set_option maxHeartbeats 4000000 in
theorem sfS_law {G : am_G}  (h : am_H) (y : Int32 × am_H) (hf : fS_law G.2.2.2.2.1 G.2.2.2.2.2 h = some y) : am_Cn G miL_law [va_rf (some 0)] h (some (.int y.1)) y.2 := by
  refine am_beg (ls := [some (va_rf (some 0)), none, none, none]) (by simp only [am_en, am_e1_r, am_e1_i, am_e1_l, am_e1_n]; rfl) ?_
  unfold fS_law at hf
  refine am_new_ nw_L_7 dL_law_0 rfl hf (fun y1 _ hf => ?_)
  refine am_dup dL_law_3 (am_c1 _) rfl ?_
  refine am_ini (As := []) (st := [va_rf (some y1.1)]) (b := y1.1) lk_L_law_9 rfl (Nat.le_of_ble_eq_true rfl) (by simp only [List.map_cons, List.map_nil, am_c1, am_ci, am_cl]; exact Nat.le_of_ble_eq_true rfl) rfl dL_law_4 rfl hf (fun y2 hf => sfX8_init _  _ y2 hf) (fun y2 _ hf => ?_)
  refine am_astore_n (ls' := [some (va_rf (some 0)), some (va_rf (some y1.1)), none, none]) dL_law_7 (by decide) (am_s1_r (j := 0) rfl rfl) rfl ?_
  refine am_new_ nw_L_10 dL_law_8 rfl hf (fun y3 _ hf => ?_)
  refine am_dup dL_law_11 (am_c1 _) rfl ?_
  refine am_ini (As := []) (st := [va_rf (some y3.1)]) (b := y3.1) lk_L_law_12 rfl (Nat.le_of_ble_eq_true rfl) (by simp only [List.map_cons, List.map_nil, am_c1, am_ci, am_cl]; exact Nat.le_of_ble_eq_true rfl) rfl dL_law_12 rfl hf (fun y4 hf => sfX9_init _  _ y4 hf) (fun y4 _ hf => ?_)
  refine am_astore_n (ls' := [some (va_rf (some 0)), some (va_rf (some y1.1)), some (va_rf (some y3.1)), none]) dL_law_15 (by decide) (am_s1_r (j := 1) rfl rfl) rfl ?_
  refine am_iconst (v := 0) dL_law_16 rfl rfl ?_
  refine am_istore_n (ls' := [some (va_rf (some 0)), some (va_rf (some y1.1)), some (va_rf (some y3.1)), some (.int (0 : Int32))]) dL_law_17 (by decide) (am_s1_r (j := 2) rfl rfl) rfl ?_
  exact (sfS_law_18 _) _ _ _ _ _ hf
