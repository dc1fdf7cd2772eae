/-! printed proofs of the printed functions, 10 -/
set_option maxRecDepth 20000 in
set_option maxHeartbeats 4000000 in
theorem sfX5_hasErrorAbove {G : am_G}  (v0 : Nat) (v1 : Int32) (v2 : Int32) (h : am_H) (y : Int32 × am_H) (hf : fX5_hasErrorAbove v0 v1 v2 h = some y) : am_Cn G miX5_hasErrorAbove [va_rf (some v0), .int v1, .int v2] h (some (.int y.1)) y.2 := by
  refine am_beg (ls := [some (va_rf (some v0)), some (.int v1), some (.int v2), none]) (by simp only [am_en, am_e1_r, am_e1_i, am_e1_l, am_e1_n]; rfl) ?_
  unfold fX5_hasErrorAbove at hf
  refine am_iconst (v := 0) dX5_hasErrorAbove_0 rfl rfl ?_
  refine am_istore_n (ls' := [some (va_rf (some v0)), some (.int v1), some (.int v2), some (.int (0 : Int32))]) dX5_hasErrorAbove_1 (by decide) rfl rfl ?_
  exact (sfX5_hasErrorAbove_2 _) _ _ _ _ _ _ hf
set_option maxRecDepth 20000 in
set_option maxHeartbeats 4000000 in
theorem sfX0_widen {G : am_G}  (v0 : Nat) (v1 : Int32) (h : am_H) (y : am_H) (hf : fX0_widen v0 v1 h = some y) : am_Cn G miX0_widen [va_rf (some v0), .int v1] h none y := by
  refine am_beg (ls := [some (va_rf (some v0)), some (.int v1)]) (by simp only [am_en, am_e1_r, am_e1_i, am_e1_l, am_e1_n]; rfl) ?_
  unfold fX0_widen at hf
  refine am_aload_n dX0_widen_0 rfl rfl ?_
  refine am_iload_n dX0_widen_1 rfl rfl ?_
  refine am_cVi (As := [.int v1]) (st := []) lk_X0_widen_43 rfl (Nat.le_of_ble_eq_true rfl) (Nat.le_of_ble_eq_true rfl) rfl dX0_widen_2 rfl hf (fun b2 y1 hf => sfX0_hasVessel b2 _ _ y1 hf) (fun b2 y1 _ _ hf => ?_)
  refine am_if_eq (tgt := 18) dX0_widen_5 (by decide) rfl hf (fun hf => ?_) (fun hf => ?_)
  · exact am_vret rfl dX0_widen_18 hf
  refine am_aload_n dX0_widen_8 rfl rfl ?_
  refine am_gr_ dX0_widen_9 fl_X0_18 rfl hf (fun x3 _ hf => ?_)
  refine am_iload_n dX0_widen_12 rfl rfl ?_
  refine am_dup2 dX0_widen_13 (rfl) (am_c1 _) rfl ?_
  refine am_iald dX0_widen_14 rfl hf (fun x4 _ hf => ?_)
  refine am_iconst (v := 1) dX0_widen_15 rfl rfl ?_
  refine am_iadd dX0_widen_16 rfl ?_
  refine am_iast dX0_widen_17 rfl hf (fun h5 _ hf => ?_)
  exact am_vret rfl dX0_widen_18 hf
set_option maxRecDepth 20000 in
set_option maxHeartbeats 4000000 in
theorem sfX8_mended_68 {G : am_G}  : ∀ (n : Nat) (v0 : Option Nat) (v2 : Int32) (v3 : Int32) (v4 : Int32) (v5 : Int32) (v7 : Int32) (h : am_H) (y : Int32 × am_H) (hf : fX8_mended_68  n v0 v2 v3 v4 v5 v7 h = some y), am_S G miX8_mended 68 [some (va_rf v0), none, some (.int v2), some (.int v3), some (.int v4), some (.int v5), none, some (.int v7)] [] h (some (.int y.1)) y.2 := by
  intro n
  induction n with
  | zero => intro v0 v2 v3 v4 v5 v7 h y hf; cases hf
  | succ n ih =>
    intro v0 v2 v3 v4 v5 v7 h y hf
    have hf : fX8_mended_68_b  (fX8_mended_68  n) v0 v2 v3 v4 v5 v7 h = some y := hf
    unfold fX8_mended_68_b at hf
    refine am_iload dX8_mended_68 rfl rfl ?_
    refine am_bipush (v := 60) dX8_mended_70 (by decide) rfl ?_
    refine am_icmp_gt (tgt := 151) dX8_mended_72 (by decide) rfl hf (fun hf => ?_) (fun hf => ?_)
    · refine am_iconst (v := -1) dX8_mended_151 rfl rfl ?_
      exact am_iret rfl dX8_mended_152 hf
    refine am_iload dX8_mended_75 rfl rfl ?_
    refine am_iload dX8_mended_77 rfl rfl ?_
    refine am_imul dX8_mended_79 rfl ?_
    refine am_bipush (v := 60) dX8_mended_80 (by decide) rfl ?_
    refine am_icmp_gt (tgt := 151) dX8_mended_82 (by decide) rfl hf (fun hf => ?_) (fun hf => ?_)
    · refine am_iconst (v := -1) dX8_mended_151 rfl rfl ?_
      exact am_iret rfl dX8_mended_152 hf
    refine am_aload_n dX8_mended_85 rfl rfl ?_
    refine am_gr_ dX8_mended_86 fl_X8_62 rfl hf (fun x1 _ hf => ?_)
    refine am_aload_n dX8_mended_89 rfl rfl ?_
    refine am_gr_ dX8_mended_90 fl_X8_45 rfl hf (fun x2 _ hf => ?_)
    refine am_aload_n dX8_mended_93 rfl rfl ?_
    refine am_iload_n dX8_mended_94 rfl rfl ?_
    refine am_cVi (As := [.int v2]) (st := [va_rf x2, va_rf x1]) lk_X8_mended_258 rfl (Nat.le_of_ble_eq_true rfl) (by simp only [List.map_cons, List.map_nil, am_c1, am_ci, am_cl]; exact Nat.le_of_ble_eq_true rfl) rfl dX8_mended_95 rfl hf (fun b4 y3 hf => sfX8_warmthOf b4 _ _ y3 hf) (fun b4 y3 _ _ hf => ?_)
    refine am_aload_n dX8_mended_98 rfl rfl ?_
    refine am_gr_ dX8_mended_99 fl_X8_50 rfl hf (fun x5 _ hf => ?_)
    refine am_cVv (As := [va_rf x2, .int y3.1, va_rf x5]) (st := []) lk_X8_mended_261 rfl (by simp only [am_e1_r, am_e1_i, am_e1_l, am_e1_n]; exact Nat.le_of_ble_eq_true rfl) (Nat.le_of_ble_eq_true rfl) rfl dX8_mended_102 rfl hf (fun b7 y6 hf => sfX5_start b7 _ _ _ _ y6 hf) (fun b7 y6 _ _ hf => ?_)
    refine am_aload_n dX8_mended_105 rfl rfl ?_
    refine am_gr_ dX8_mended_106 fl_X8_62 rfl hf (fun x8 _ hf => ?_)
    refine am_bipush (v := 96) dX8_mended_109 (by decide) rfl ?_
    refine am_cVv (As := [.int (96 : Int32)]) (st := []) lk_X8_mended_209 rfl (Nat.le_of_ble_eq_true rfl) (Nat.le_of_ble_eq_true rfl) rfl dX8_mended_111 rfl hf (fun b10 y9 hf => sfX5_goOnTo b10 _ _ y9 hf) (fun b10 y9 _ _ hf => ?_)
    refine am_aload_n dX8_mended_114 rfl rfl ?_
    refine am_gr_ dX8_mended_115 fl_X8_62 rfl hf (fun x11 _ hf => ?_)
    refine am_iload dX8_mended_118 rfl rfl ?_
    refine am_aload_n dX8_mended_120 rfl rfl ?_
    refine am_iload_n dX8_mended_121 rfl rfl ?_
    refine am_cVi (As := [.int v2]) (st := [.int v5, va_rf x11]) lk_X8_mended_216 rfl (Nat.le_of_ble_eq_true rfl) (by simp only [List.map_cons, List.map_nil, am_c1, am_ci, am_cl]; exact Nat.le_of_ble_eq_true rfl) rfl dX8_mended_122 rfl hf (fun b13 y12 hf => sfX8_daylightOf b13 _ _ y12 hf) (fun b13 y12 _ _ hf => ?_)
    refine am_cVi (As := [.int v5, .int y12.1]) (st := []) lk_X8_mended_265 rfl (Nat.le_of_ble_eq_true rfl) (Nat.le_of_ble_eq_true rfl) rfl dX8_mended_125 rfl hf (fun b15 y14 hf => sfX5_hasErrorAbove b15 _ _ _ y14 hf) (fun b15 y14 _ _ hf => ?_)
    refine am_if_eq (tgt := 137) dX8_mended_128 (by decide) rfl hf (fun hf => ?_) (fun hf => ?_)
    · refine am_aload_n dX8_mended_137 rfl rfl ?_
      refine am_gr_ dX8_mended_138 fl_X8_45 rfl hf (fun x16 _ hf => ?_)
      refine am_iload_n dX8_mended_141 rfl rfl ?_
      refine am_cVv (As := [.int v3]) (st := []) lk_X8_mended_268 rfl (Nat.le_of_ble_eq_true rfl) (Nat.le_of_ble_eq_true rfl) rfl dX8_mended_142 rfl hf (fun b18 y17 hf => sfX0_widen b18 _ _ y17 hf) (fun b18 y17 _ _ hf => ?_)
      refine am_iinc (ls' := [some (va_rf v0), none, some (.int v2), some (.int v3), some (.int v4), some (.int v5), none, some (.int (v7 + (1 : Int32)))]) dX8_mended_145 rfl rfl (by decide) rfl rfl ?_
      refine am_goto (pc' := 68) dX8_mended_148 (by decide) ?_
      exact ih _ _ _ _ _ _ _ _ hf
    refine am_iload dX8_mended_131 rfl rfl ?_
    refine am_iload dX8_mended_133 rfl rfl ?_
    refine am_imul dX8_mended_135 rfl ?_
    exact am_iret rfl dX8_mended_136 hf
set_option maxRecDepth 20000 in
set_option maxHeartbeats 4000000 in
theorem sfX8_mended {G : am_G}  (v0 : Nat) (v1 : Int32) (v2 : Int32) (v3 : Int32) (v4 : Int32) (v5 : Int32) (h : am_H) (y : Int32 × am_H) (hf : fX8_mended v0 v1 v2 v3 v4 v5 h = some y) : am_Cn G miX8_mended [va_rf (some v0), .int v1, .int v2, .int v3, .int v4, .int v5] h (some (.int y.1)) y.2 := by
  refine am_beg (ls := [some (va_rf (some v0)), some (.int v1), some (.int v2), some (.int v3), some (.int v4), some (.int v5), none, none]) (by simp only [am_en, am_e1_r, am_e1_i, am_e1_l, am_e1_n]; rfl) ?_
  unfold fX8_mended at hf
  refine am_aload_n dX8_mended_0 rfl rfl ?_
  refine am_iload_n dX8_mended_1 rfl rfl ?_
  refine am_cVr (As := [.int v1]) (st := []) lk_X8_mended_117 rfl (Nat.le_of_ble_eq_true rfl) (Nat.le_of_ble_eq_true rfl) rfl dX8_mended_2 rfl hf (fun b2 y1 hf => sfX8_clockOf b2 _ _ y1 hf) (fun b2 y1 _ _ hf => ?_)
  refine am_astore (ls' := [some (va_rf (some v0)), some (.int v1), some (.int v2), some (.int v3), some (.int v4), some (.int v5), some (va_rf y1.1), none]) dX8_mended_5 (by decide) rfl rfl ?_
  refine am_aload dX8_mended_7 rfl rfl ?_
  refine am_ifnull (tgt := 19) dX8_mended_9 (by decide) rfl hf (fun hf => ?_) (fun hf => ?_)
  · refine am_bipush (v := -101) dX8_mended_19 (by decide) rfl ?_
    exact am_iret rfl dX8_mended_21 hf
  refine am_iload_n dX8_mended_12 rfl rfl ?_
  refine am_cSi (As := [.int v2]) (st := []) lk_X8_mended_136 rfl (Nat.le_of_ble_eq_true rfl) (Nat.le_of_ble_eq_true rfl) rfl dX8_mended_13 rfl hf (fun y3 hf => sfX8_isSeason _ _ y3 hf) (fun y3 _ hf => ?_)
  refine am_if_ne (tgt := 22) dX8_mended_16 (by decide) rfl hf (fun hf => ?_) (fun hf => ?_)
  · refine am_iload_n dX8_mended_22 rfl rfl ?_
    refine am_iconst (v := 0) dX8_mended_23 rfl rfl ?_
    refine am_iconst (v := 2) dX8_mended_24 rfl rfl ?_
    refine am_cSi (As := [.int v3, .int (0 : Int32), .int (2 : Int32)]) (st := []) lk_X8_mended_121 rfl (Nat.le_of_ble_eq_true rfl) (Nat.le_of_ble_eq_true rfl) rfl dX8_mended_25 rfl hf (fun y4 hf => sfX8_isIn _ _ _ _ y4 hf) (fun y4 _ hf => ?_)
    refine am_if_eq (tgt := 53) dX8_mended_28 (by decide) rfl hf (fun hf => ?_) (fun hf => ?_)
    · refine am_bipush (v := -102) dX8_mended_53 (by decide) rfl ?_
      exact am_iret rfl dX8_mended_55 hf
    refine am_iload dX8_mended_31 rfl rfl ?_
    refine am_iconst (v := 1) dX8_mended_33 rfl rfl ?_
    refine am_bipush (v := 30) dX8_mended_34 (by decide) rfl ?_
    refine am_cSi (As := [.int v4, .int (1 : Int32), .int (30 : Int32)]) (st := []) lk_X8_mended_121 rfl (Nat.le_of_ble_eq_true rfl) (Nat.le_of_ble_eq_true rfl) rfl dX8_mended_36 rfl hf (fun y5 hf => sfX8_isIn _ _ _ _ y5 hf) (fun y5 _ hf => ?_)
    refine am_if_eq (tgt := 53) dX8_mended_39 (by decide) rfl hf (fun hf => ?_) (fun hf => ?_)
    · refine am_bipush (v := -102) dX8_mended_53 (by decide) rfl ?_
      exact am_iret rfl dX8_mended_55 hf
    refine am_iload dX8_mended_42 rfl rfl ?_
    refine am_iconst (v := 0) dX8_mended_44 rfl rfl ?_
    refine am_bipush (v := 96) dX8_mended_45 (by decide) rfl ?_
    refine am_cSi (As := [.int v5, .int (0 : Int32), .int (96 : Int32)]) (st := []) lk_X8_mended_121 rfl (Nat.le_of_ble_eq_true rfl) (Nat.le_of_ble_eq_true rfl) rfl dX8_mended_47 rfl hf (fun y6 hf => sfX8_isIn _ _ _ _ y6 hf) (fun y6 _ hf => ?_)
    refine am_if_ne (tgt := 56) dX8_mended_50 (by decide) rfl hf (fun hf => ?_) (fun hf => ?_)
    · refine am_aload_n dX8_mended_56 rfl rfl ?_
      refine am_gr_ dX8_mended_57 fl_X8_45 rfl hf (fun x7 _ hf => ?_)
      refine am_aload dX8_mended_60 rfl rfl ?_
      refine am_cVv (As := [va_rf y1.1]) (st := []) lk_X8_mended_113 rfl (by simp only [am_e1_r, am_e1_i, am_e1_l, am_e1_n]; exact Nat.le_of_ble_eq_true rfl) (Nat.le_of_ble_eq_true rfl) rfl dX8_mended_62 rfl hf (fun b9 y8 hf => sfX0_copyFrom b9 _ _ y8 hf) (fun b9 y8 _ _ hf => ?_)
      refine am_iconst (v := 0) dX8_mended_65 rfl rfl ?_
      refine am_istore (ls' := [some (va_rf (some v0)), some (.int v1), some (.int v2), some (.int v3), some (.int v4), some (.int v5), some (va_rf y1.1), some (.int (0 : Int32))]) dX8_mended_66 (by decide) (am_s1_r (j := 6) rfl rfl) rfl ?_
      exact am_we ((sfX8_mended_68 _) _ _ _ _ _ _ _ _ hf) ⟨Or.inr rfl, Or.inl rfl, Or.inr rfl, Or.inr rfl, Or.inr rfl, Or.inr rfl, Or.inl rfl, Or.inr rfl, trivial⟩
    refine am_bipush (v := -102) dX8_mended_53 (by decide) rfl ?_
    exact am_iret rfl dX8_mended_55 hf
  refine am_bipush (v := -101) dX8_mended_19 (by decide) rfl ?_
  exact am_iret rfl dX8_mended_21 hf
set_option maxRecDepth 20000 in
set_option maxHeartbeats 4000000 in
theorem sfX9_mended_143 {G : am_G}  {k106 : Option Nat → Int32 → Int32 → Int32 → Int32 → Int32 → Int32 → Int32 → Int32 → am_H → Option (Int32 × am_H)} (hk106 : ∀ (v0 : Option Nat) (v1 : Int32) (v2 : Int32) (v3 : Int32) (v4 : Int32) (v5 : Int32) (v6 : Int32) (v7 : Int32) (v8 : Int32) (h : am_H) (y : Int32 × am_H), k106 v0 v1 v2 v3 v4 v5 v6 v7 v8 h = some y → am_S G miX9_mended 106 [some (va_rf v0), some (.int v1), some (.int v2), some (.int v3), some (.int v4), some (.int v5), some (.int v6), some (.int v7), some (.int v8)] [] h (some (.int y.1)) y.2) (v0 : Option Nat) (v1 : Int32) (v2 : Int32) (v3 : Int32) (v4 : Int32) (v5 : Int32) (v6 : Int32) (v8 : Int32) (s0 : Int32) (h : am_H) (y : Int32 × am_H) (hf : fX9_mended_143 k106 v0 v1 v2 v3 v4 v5 v6 v8 s0 h = some y) : am_S G miX9_mended 143 [some (va_rf v0), some (.int v1), some (.int v2), some (.int v3), some (.int v4), some (.int v5), some (.int v6), none, some (.int v8)] [.int s0] h (some (.int y.1)) y.2 := by
  unfold fX9_mended_143 at hf
  refine am_istore (ls' := [some (va_rf v0), some (.int v1), some (.int v2), some (.int v3), some (.int v4), some (.int v5), some (.int v6), some (.int s0), some (.int v8)]) dX9_mended_143 (by decide) rfl rfl ?_
  refine am_iinc (ls' := [some (va_rf v0), some (.int v1), some (.int v2), some (.int v3), some (.int v4), some (.int v5), some (.int v6), some (.int s0), some (.int (v8 + (1 : Int32)))]) dX9_mended_145 rfl rfl (by decide) rfl rfl ?_
  refine am_goto (pc' := 106) dX9_mended_148 (by decide) ?_
  exact hk106 _ _ _ _ _ _ _ _ _ _ _ hf
set_option maxRecDepth 20000 in
set_option maxHeartbeats 4000000 in
theorem sfX9_mended_138 {G : am_G}  {k143 : Option Nat → Int32 → Int32 → Int32 → Int32 → Int32 → Int32 → Int32 → Int32 → am_H → Option (Int32 × am_H)} (hk143 : ∀ (v0 : Option Nat) (v1 : Int32) (v2 : Int32) (v3 : Int32) (v4 : Int32) (v5 : Int32) (v6 : Int32) (v8 : Int32) (s0 : Int32) (h : am_H) (y : Int32 × am_H), k143 v0 v1 v2 v3 v4 v5 v6 v8 s0 h = some y → am_S G miX9_mended 143 [some (va_rf v0), some (.int v1), some (.int v2), some (.int v3), some (.int v4), some (.int v5), some (.int v6), none, some (.int v8)] [.int s0] h (some (.int y.1)) y.2) (v0 : Option Nat) (v1 : Int32) (v2 : Int32) (v3 : Int32) (v4 : Int32) (v5 : Int32) (v6 : Int32) (v8 : Int32) (h : am_H) (y : Int32 × am_H) (hf : fX9_mended_138 k143 v0 v1 v2 v3 v4 v5 v6 v8 h = some y) : am_S G miX9_mended 138 [some (va_rf v0), some (.int v1), some (.int v2), some (.int v3), some (.int v4), some (.int v5), some (.int v6), none, some (.int v8)] [] h (some (.int y.1)) y.2 := by
  unfold fX9_mended_138 at hf
  refine am_iconst (v := 1) dX9_mended_138 rfl rfl ?_
  refine am_goto (pc' := 143) dX9_mended_139 (by decide) ?_
  exact hk143 _ _ _ _ _ _ _ _ _ _ _ hf
set_option maxRecDepth 20000 in
set_option maxHeartbeats 4000000 in
theorem sfX9_mended_106 {G : am_G}  {k55 : Option Nat → Int32 → Int32 → Int32 → Int32 → Int32 → Int32 → am_H → Option (Int32 × am_H)} (hk55 : ∀ (v0 : Option Nat) (v1 : Int32) (v2 : Int32) (v3 : Int32) (v4 : Int32) (v5 : Int32) (v6 : Int32) (h : am_H) (y : Int32 × am_H), k55 v0 v1 v2 v3 v4 v5 v6 h = some y → am_S G miX9_mended 55 [some (va_rf v0), some (.int v1), some (.int v2), some (.int v3), some (.int v4), some (.int v5), some (.int v6), none, none] [] h (some (.int y.1)) y.2) : ∀ (n : Nat) (v0 : Option Nat) (v1 : Int32) (v2 : Int32) (v3 : Int32) (v4 : Int32) (v5 : Int32) (v6 : Int32) (v7 : Int32) (v8 : Int32) (h : am_H) (y : Int32 × am_H) (hf : fX9_mended_106 k55 n v0 v1 v2 v3 v4 v5 v6 v7 v8 h = some y), am_S G miX9_mended 106 [some (va_rf v0), some (.int v1), some (.int v2), some (.int v3), some (.int v4), some (.int v5), some (.int v6), some (.int v7), some (.int v8)] [] h (some (.int y.1)) y.2 := by
  intro n
  induction n with
  | zero => intro v0 v1 v2 v3 v4 v5 v6 v7 v8 h y hf; cases hf
  | succ n ih =>
    intro v0 v1 v2 v3 v4 v5 v6 v7 v8 h y hf
    have hf : fX9_mended_106_b k55 (fX9_mended_106 k55 n) v0 v1 v2 v3 v4 v5 v6 v7 v8 h = some y := hf
    unfold fX9_mended_106_b at hf
    refine am_iload dX9_mended_106 rfl rfl ?_
    refine am_aload_n dX9_mended_108 rfl rfl ?_
    refine am_gr_ dX9_mended_109 fl_X9_31 rfl hf (fun x1 _ hf => ?_)
    refine am_iload_n dX9_mended_112 rfl rfl ?_
    refine am_iald dX9_mended_113 rfl hf (fun x2 _ hf => ?_)
    refine am_icmp_ge (tgt := 151) dX9_mended_114 (by decide) rfl hf (fun hf => ?_) (fun hf => ?_)
    · refine am_iload dX9_mended_151 rfl rfl ?_
      refine am_if_eq (tgt := 159) dX9_mended_153 (by decide) rfl hf (fun hf => ?_) (fun hf => ?_)
      · refine am_iinc (ls' := [some (va_rf v0), some (.int v1), some (.int v2), some (.int v3), some (.int v4), some (.int v5), some (.int (v6 + (1 : Int32))), some (.int v7), some (.int v8)]) dX9_mended_159 rfl rfl (by decide) rfl rfl ?_
        refine am_goto (pc' := 55) dX9_mended_162 (by decide) ?_
        exact am_we (hk55 _ _ _ _ _ _ _ _ _ hf) ⟨Or.inr rfl, Or.inr rfl, Or.inr rfl, Or.inr rfl, Or.inr rfl, Or.inr rfl, Or.inr rfl, Or.inl rfl, Or.inl rfl, trivial⟩
      refine am_iload dX9_mended_156 rfl rfl ?_
      exact am_iret rfl dX9_mended_158 hf
    refine am_iload dX9_mended_117 rfl rfl ?_
    refine am_if_ne (tgt := 138) dX9_mended_119 (by decide) rfl hf (fun hf => ?_) (fun hf => ?_)
    · exact am_we ((sfX9_mended_138 (sfX9_mended_143 ih)) _ _ _ _ _ _ _ _ _ _ hf) ⟨Or.inr rfl, Or.inr rfl, Or.inr rfl, Or.inr rfl, Or.inr rfl, Or.inr rfl, Or.inr rfl, Or.inl rfl, Or.inr rfl, trivial⟩
    refine am_aload_n dX9_mended_122 rfl rfl ?_
    refine am_iload_n dX9_mended_123 rfl rfl ?_
    refine am_iload_n dX9_mended_124 rfl rfl ?_
    refine am_iload dX9_mended_125 rfl rfl ?_
    refine am_cVi (As := [.int v1, .int v2, .int v8]) (st := []) lk_X9_mended_286 rfl (Nat.le_of_ble_eq_true rfl) (Nat.le_of_ble_eq_true rfl) rfl dX9_mended_127 rfl hf (fun b4 y3 hf => sfX9_errorOf b4 _ _ _ _ y3 hf) (fun b4 y3 _ _ hf => ?_)
    refine am_cSi (As := [.int y3.1]) (st := []) lk_X9_mended_290 rfl (Nat.le_of_ble_eq_true rfl) (Nat.le_of_ble_eq_true rfl) rfl dX9_mended_130 rfl hf (fun y5 hf => sfX9_size _ _ y5 hf) (fun y5 _ hf => ?_)
    refine am_iload dX9_mended_133 rfl rfl ?_
    refine am_icmp_le (tgt := 142) dX9_mended_135 (by decide) rfl hf (fun hf => ?_) (fun hf => ?_)
    · refine am_iconst (v := 0) dX9_mended_142 rfl rfl ?_
      exact am_we ((sfX9_mended_143 ih) _ _ _ _ _ _ _ _ _ _ _ hf) ⟨Or.inr rfl, Or.inr rfl, Or.inr rfl, Or.inr rfl, Or.inr rfl, Or.inr rfl, Or.inr rfl, Or.inl rfl, Or.inr rfl, trivial⟩
    exact am_we ((sfX9_mended_138 (sfX9_mended_143 ih)) _ _ _ _ _ _ _ _ _ _ hf) ⟨Or.inr rfl, Or.inr rfl, Or.inr rfl, Or.inr rfl, Or.inr rfl, Or.inr rfl, Or.inr rfl, Or.inl rfl, Or.inr rfl, trivial⟩
set_option maxRecDepth 20000 in
set_option maxHeartbeats 4000000 in
theorem sfX9_mended_92 {G : am_G}  {k55 : Option Nat → Int32 → Int32 → Int32 → Int32 → Int32 → Int32 → am_H → Option (Int32 × am_H)} (hk55 : ∀ (v0 : Option Nat) (v1 : Int32) (v2 : Int32) (v3 : Int32) (v4 : Int32) (v5 : Int32) (v6 : Int32) (h : am_H) (y : Int32 × am_H), k55 v0 v1 v2 v3 v4 v5 v6 h = some y → am_S G miX9_mended 55 [some (va_rf v0), some (.int v1), some (.int v2), some (.int v3), some (.int v4), some (.int v5), some (.int v6), none, none] [] h (some (.int y.1)) y.2) (v0 : Option Nat) (v1 : Int32) (v2 : Int32) (v3 : Int32) (v4 : Int32) (v5 : Int32) (v6 : Int32) (h : am_H) (y : Int32 × am_H) (hf : fX9_mended_92 k55 v0 v1 v2 v3 v4 v5 v6 h = some y) : am_S G miX9_mended 92 [some (va_rf v0), some (.int v1), some (.int v2), some (.int v3), some (.int v4), some (.int v5), some (.int v6), none, none] [] h (some (.int y.1)) y.2 := by
  unfold fX9_mended_92 at hf
  refine am_aload_n dX9_mended_92 rfl rfl ?_
  refine am_iload_n dX9_mended_93 rfl rfl ?_
  refine am_iload_n dX9_mended_94 rfl rfl ?_
  refine am_bipush (v := 95) dX9_mended_95 (by decide) rfl ?_
  refine am_cVv (As := [.int v1, .int v2, .int (95 : Int32)]) (st := []) lk_X9_mended_274 rfl (Nat.le_of_ble_eq_true rfl) (Nat.le_of_ble_eq_true rfl) rfl dX9_mended_97 rfl hf (fun b2 y1 hf => sfX9_run b2 _ _ _ _ y1 hf) (fun b2 y1 _ _ hf => ?_)
  refine am_iconst (v := 0) dX9_mended_100 rfl rfl ?_
  refine am_istore (ls' := [some (va_rf v0), some (.int v1), some (.int v2), some (.int v3), some (.int v4), some (.int v5), some (.int v6), some (.int (0 : Int32)), none]) dX9_mended_101 (by decide) rfl rfl ?_
  refine am_iconst (v := 0) dX9_mended_103 rfl rfl ?_
  refine am_istore (ls' := [some (va_rf v0), some (.int v1), some (.int v2), some (.int v3), some (.int v4), some (.int v5), some (.int v6), some (.int (0 : Int32)), some (.int (0 : Int32))]) dX9_mended_104 (by decide) rfl rfl ?_
  exact (sfX9_mended_106 hk55 _) _ _ _ _ _ _ _ _ _ _ _ hf
set_option maxRecDepth 20000 in
set_option maxHeartbeats 4000000 in
theorem sfX9_mended_55 {G : am_G}  : ∀ (n : Nat) (v0 : Option Nat) (v1 : Int32) (v2 : Int32) (v3 : Int32) (v4 : Int32) (v5 : Int32) (v6 : Int32) (h : am_H) (y : Int32 × am_H) (hf : fX9_mended_55  n v0 v1 v2 v3 v4 v5 v6 h = some y), am_S G miX9_mended 55 [some (va_rf v0), some (.int v1), some (.int v2), some (.int v3), some (.int v4), some (.int v5), some (.int v6), none, none] [] h (some (.int y.1)) y.2 := by
  intro n
  induction n with
  | zero => intro v0 v1 v2 v3 v4 v5 v6 h y hf; cases hf
  | succ n ih =>
    intro v0 v1 v2 v3 v4 v5 v6 h y hf
    have hf : fX9_mended_55_b  (fX9_mended_55  n) v0 v1 v2 v3 v4 v5 v6 h = some y := hf
    unfold fX9_mended_55_b at hf
    refine am_iload dX9_mended_55 rfl rfl ?_
    refine am_bipush (v := 60) dX9_mended_57 (by decide) rfl ?_
    refine am_icmp_gt (tgt := 165) dX9_mended_59 (by decide) rfl hf (fun hf => ?_) (fun hf => ?_)
    · refine am_iconst (v := -1) dX9_mended_165 rfl rfl ?_
      exact am_iret rfl dX9_mended_166 hf
    refine am_aload_n dX9_mended_62 rfl rfl ?_
    refine am_iload_n dX9_mended_63 rfl rfl ?_
    refine am_iconst (v := -1) dX9_mended_64 rfl rfl ?_
    refine am_cVv (As := [.int v1, .int (-1 : Int32)]) (st := []) lk_X9_mended_270 rfl (Nat.le_of_ble_eq_true rfl) (Nat.le_of_ble_eq_true rfl) rfl dX9_mended_65 rfl hf (fun b2 y1 hf => sfX9_load b2 _ _ _ y1 hf) (fun b2 y1 _ _ hf => ?_)
    refine am_iload_n dX9_mended_68 rfl rfl ?_
    refine am_aload_n dX9_mended_69 rfl rfl ?_
    refine am_gr_ dX9_mended_70 fl_X9_7 rfl hf (fun x3 _ hf => ?_)
    refine am_iload_n dX9_mended_73 rfl rfl ?_
    refine am_iald dX9_mended_74 rfl hf (fun x4 _ hf => ?_)
    refine am_icmp_ge (tgt := 92) dX9_mended_75 (by decide) rfl hf (fun hf => ?_) (fun hf => ?_)
    · exact (sfX9_mended_92 ih) _ _ _ _ _ _ _ _ _ hf
    refine am_aload_n dX9_mended_78 rfl rfl ?_
    refine am_gr_ dX9_mended_79 fl_X9_96 rfl hf (fun x5 _ hf => ?_)
    refine am_iload_n dX9_mended_82 rfl rfl ?_
    refine am_dup2 dX9_mended_83 (rfl) (am_c1 _) rfl ?_
    refine am_iald dX9_mended_84 rfl hf (fun x6 _ hf => ?_)
    refine am_iload dX9_mended_85 rfl rfl ?_
    refine am_iload dX9_mended_87 rfl rfl ?_
    refine am_idiv dX9_mended_89 rfl hf (fun hf => ?_)
    refine am_iadd dX9_mended_90 rfl ?_
    refine am_iast dX9_mended_91 rfl hf (fun h7 _ hf => ?_)
    exact (sfX9_mended_92 ih) _ _ _ _ _ _ _ _ _ hf
set_option maxRecDepth 20000 in
set_option maxHeartbeats 4000000 in
theorem sfX9_mended {G : am_G}  (v0 : Nat) (v1 : Int32) (v2 : Int32) (v3 : Int32) (v4 : Int32) (v5 : Int32) (h : am_H) (y : Int32 × am_H) (hf : fX9_mended v0 v1 v2 v3 v4 v5 h = some y) : am_Cn G miX9_mended [va_rf (some v0), .int v1, .int v2, .int v3, .int v4, .int v5] h (some (.int y.1)) y.2 := by
  refine am_beg (ls := [some (va_rf (some v0)), some (.int v1), some (.int v2), some (.int v3), some (.int v4), some (.int v5), none, none, none]) (by simp only [am_en, am_e1_r, am_e1_i, am_e1_l, am_e1_n]; rfl) ?_
  unfold fX9_mended at hf
  refine am_aload_n dX9_mended_0 rfl rfl ?_
  refine am_iload_n dX9_mended_1 rfl rfl ?_
  refine am_cVi (As := [.int v1]) (st := []) lk_X9_mended_197 rfl (Nat.le_of_ble_eq_true rfl) (Nat.le_of_ble_eq_true rfl) rfl dX9_mended_2 rfl hf (fun b2 y1 hf => sfX9_isClock b2 _ _ y1 hf) (fun b2 y1 _ _ hf => ?_)
  refine am_if_eq (tgt := 15) dX9_mended_5 (by decide) rfl hf (fun hf => ?_) (fun hf => ?_)
  · refine am_bipush (v := -101) dX9_mended_15 (by decide) rfl ?_
    exact am_iret rfl dX9_mended_17 hf
  refine am_iload_n dX9_mended_8 rfl rfl ?_
  refine am_cSi (As := [.int v2]) (st := []) lk_X9_mended_203 rfl (Nat.le_of_ble_eq_true rfl) (Nat.le_of_ble_eq_true rfl) rfl dX9_mended_9 rfl hf (fun y3 hf => sfX9_isSeason _ _ y3 hf) (fun y3 _ hf => ?_)
  refine am_if_ne (tgt := 18) dX9_mended_12 (by decide) rfl hf (fun hf => ?_) (fun hf => ?_)
  · refine am_iload_n dX9_mended_18 rfl rfl ?_
    refine am_iconst (v := 0) dX9_mended_19 rfl rfl ?_
    refine am_iconst (v := 2) dX9_mended_20 rfl rfl ?_
    refine am_cSi (As := [.int v3, .int (0 : Int32), .int (2 : Int32)]) (st := []) lk_X9_mended_132 rfl (Nat.le_of_ble_eq_true rfl) (Nat.le_of_ble_eq_true rfl) rfl dX9_mended_21 rfl hf (fun y4 hf => sfX9_within _ _ _ _ y4 hf) (fun y4 _ hf => ?_)
    refine am_if_eq (tgt := 49) dX9_mended_24 (by decide) rfl hf (fun hf => ?_) (fun hf => ?_)
    · refine am_bipush (v := -102) dX9_mended_49 (by decide) rfl ?_
      exact am_iret rfl dX9_mended_51 hf
    refine am_iload dX9_mended_27 rfl rfl ?_
    refine am_iconst (v := 1) dX9_mended_29 rfl rfl ?_
    refine am_bipush (v := 30) dX9_mended_30 (by decide) rfl ?_
    refine am_cSi (As := [.int v4, .int (1 : Int32), .int (30 : Int32)]) (st := []) lk_X9_mended_132 rfl (Nat.le_of_ble_eq_true rfl) (Nat.le_of_ble_eq_true rfl) rfl dX9_mended_32 rfl hf (fun y5 hf => sfX9_within _ _ _ _ y5 hf) (fun y5 _ hf => ?_)
    refine am_if_eq (tgt := 49) dX9_mended_35 (by decide) rfl hf (fun hf => ?_) (fun hf => ?_)
    · refine am_bipush (v := -102) dX9_mended_49 (by decide) rfl ?_
      exact am_iret rfl dX9_mended_51 hf
    refine am_iload dX9_mended_38 rfl rfl ?_
    refine am_iconst (v := 0) dX9_mended_40 rfl rfl ?_
    refine am_bipush (v := 96) dX9_mended_41 (by decide) rfl ?_
    refine am_cSi (As := [.int v5, .int (0 : Int32), .int (96 : Int32)]) (st := []) lk_X9_mended_132 rfl (Nat.le_of_ble_eq_true rfl) (Nat.le_of_ble_eq_true rfl) rfl dX9_mended_43 rfl hf (fun y6 hf => sfX9_within _ _ _ _ y6 hf) (fun y6 _ hf => ?_)
    refine am_if_ne (tgt := 52) dX9_mended_46 (by decide) rfl hf (fun hf => ?_) (fun hf => ?_)
    · refine am_iconst (v := 0) dX9_mended_52 rfl rfl ?_
      refine am_istore (ls' := [some (va_rf (some v0)), some (.int v1), some (.int v2), some (.int v3), some (.int v4), some (.int v5), some (.int (0 : Int32)), none, none]) dX9_mended_53 (by decide) rfl rfl ?_
      exact (sfX9_mended_55 _) _ _ _ _ _ _ _ _ _ hf
    refine am_bipush (v := -102) dX9_mended_49 (by decide) rfl ?_
    exact am_iret rfl dX9_mended_51 hf
  refine am_bipush (v := -101) dX9_mended_15 (by decide) rfl ?_
  exact am_iret rfl dX9_mended_17 hf
set_option maxRecDepth 20000 in
set_option maxHeartbeats 4000000 in
theorem sfX8_log {G : am_G}  (v0 : Nat) (v1 : Int32) (v2 : Int32) (h : am_H) (y : Int32 × am_H) (hf : fX8_log v0 v1 v2 h = some y) : am_Cn G miX8_log [va_rf (some v0), .int v1, .int v2] h (some (.int y.1)) y.2 := by
  refine am_beg (ls := [some (va_rf (some v0)), some (.int v1), some (.int v2)]) (by simp only [am_en, am_e1_r, am_e1_i, am_e1_l, am_e1_n]; rfl) ?_
  unfold fX8_log at hf
  refine am_iload_n dX8_log_0 rfl rfl ?_
  refine am_iconst (v := 0) dX8_log_1 rfl rfl ?_
  refine am_bipush (v := 11) dX8_log_2 (by decide) rfl ?_
  refine am_cSi (As := [.int v1, .int (0 : Int32), .int (11 : Int32)]) (st := []) lk_X8_log_121 rfl (Nat.le_of_ble_eq_true rfl) (Nat.le_of_ble_eq_true rfl) rfl dX8_log_4 rfl hf (fun y1 hf => sfX8_isIn _ _ _ _ y1 hf) (fun y1 _ hf => ?_)
  refine am_if_ne (tgt := 13) dX8_log_7 (by decide) rfl hf (fun hf => ?_) (fun hf => ?_)
  · refine am_iload_n dX8_log_13 rfl rfl ?_
    refine am_iconst (v := -1) dX8_log_14 rfl rfl ?_
    refine am_bipush (v := 96) dX8_log_15 (by decide) rfl ?_
    refine am_cSi (As := [.int v2, .int (-1 : Int32), .int (96 : Int32)]) (st := []) lk_X8_log_121 rfl (Nat.le_of_ble_eq_true rfl) (Nat.le_of_ble_eq_true rfl) rfl dX8_log_17 rfl hf (fun y2 hf => sfX8_isIn _ _ _ _ y2 hf) (fun y2 _ hf => ?_)
    refine am_if_ne (tgt := 26) dX8_log_20 (by decide) rfl hf (fun hf => ?_) (fun hf => ?_)
    · refine am_aload_n dX8_log_26 rfl rfl ?_
      refine am_gr_ dX8_log_27 fl_X8_37 rfl hf (fun x3 _ hf => ?_)
      refine am_gr_ dX8_log_30 fl_X8_271 rfl hf (fun x4 _ hf => ?_)
      refine am_iload_n dX8_log_33 rfl rfl ?_
      refine am_iload_n dX8_log_34 rfl rfl ?_
      refine am_cSi (As := [va_rf x4, .int v1, .int v2]) (st := []) lk_X8_log_143 rfl (by simp only [am_e1_r, am_e1_i, am_e1_l, am_e1_n]; exact Nat.le_of_ble_eq_true rfl) (Nat.le_of_ble_eq_true rfl) rfl dX8_log_35 rfl hf (fun y5 hf => sfX8_exchange _ _ _ _ y5 hf) (fun y5 _ hf => ?_)
      exact am_iret rfl dX8_log_38 hf
    refine am_bipush (v := -102) dX8_log_23 (by decide) rfl ?_
    exact am_iret rfl dX8_log_25 hf
  refine am_bipush (v := -101) dX8_log_10 (by decide) rfl ?_
  exact am_iret rfl dX8_log_12 hf
set_option maxRecDepth 20000 in
set_option maxHeartbeats 4000000 in
theorem sfX9_log {G : am_G}  (v0 : Nat) (v1 : Int32) (v2 : Int32) (h : am_H) (y : Int32 × am_H) (hf : fX9_log v0 v1 v2 h = some y) : am_Cn G miX9_log [va_rf (some v0), .int v1, .int v2] h (some (.int y.1)) y.2 := by
  refine am_beg (ls := [some (va_rf (some v0)), some (.int v1), some (.int v2), none]) (by simp only [am_en, am_e1_r, am_e1_i, am_e1_l, am_e1_n]; rfl) ?_
  unfold fX9_log at hf
  refine am_iload_n dX9_log_0 rfl rfl ?_
  refine am_iconst (v := 0) dX9_log_1 rfl rfl ?_
  refine am_bipush (v := 11) dX9_log_2 (by decide) rfl ?_
  refine am_cSi (As := [.int v1, .int (0 : Int32), .int (11 : Int32)]) (st := []) lk_X9_log_132 rfl (Nat.le_of_ble_eq_true rfl) (Nat.le_of_ble_eq_true rfl) rfl dX9_log_4 rfl hf (fun y1 hf => sfX9_within _ _ _ _ y1 hf) (fun y1 _ hf => ?_)
  refine am_if_ne (tgt := 13) dX9_log_7 (by decide) rfl hf (fun hf => ?_) (fun hf => ?_)
  · refine am_iload_n dX9_log_13 rfl rfl ?_
    refine am_iconst (v := -1) dX9_log_14 rfl rfl ?_
    refine am_bipush (v := 96) dX9_log_15 (by decide) rfl ?_
    refine am_cSi (As := [.int v2, .int (-1 : Int32), .int (96 : Int32)]) (st := []) lk_X9_log_132 rfl (Nat.le_of_ble_eq_true rfl) (Nat.le_of_ble_eq_true rfl) rfl dX9_log_17 rfl hf (fun y2 hf => sfX9_within _ _ _ _ y2 hf) (fun y2 _ hf => ?_)
    refine am_if_ne (tgt := 26) dX9_log_20 (by decide) rfl hf (fun hf => ?_) (fun hf => ?_)
    · refine am_aload_n dX9_log_26 rfl rfl ?_
      refine am_gr_ dX9_log_27 fl_X9_68 rfl hf (fun x3 _ hf => ?_)
      refine am_iload_n dX9_log_30 rfl rfl ?_
      refine am_iald dX9_log_31 rfl hf (fun x4 _ hf => ?_)
      refine am_istore_n (ls' := [some (va_rf (some v0)), some (.int v1), some (.int v2), some (.int x4)]) dX9_log_32 (by decide) rfl rfl ?_
      refine am_aload_n dX9_log_33 rfl rfl ?_
      refine am_gr_ dX9_log_34 fl_X9_68 rfl hf (fun x5 _ hf => ?_)
      refine am_iload_n dX9_log_37 rfl rfl ?_
      refine am_iload_n dX9_log_38 rfl rfl ?_
      refine am_iast dX9_log_39 rfl hf (fun h6 _ hf => ?_)
      refine am_iload_n dX9_log_40 rfl rfl ?_
      exact am_iret rfl dX9_log_41 hf
    refine am_bipush (v := -102) dX9_log_23 (by decide) rfl ?_
    exact am_iret rfl dX9_log_25 hf
  refine am_bipush (v := -101) dX9_log_10 (by decide) rfl ?_
  exact am_iret rfl dX9_log_12 hf
set_option maxRecDepth 20000 in
set_option maxHeartbeats 4000000 in
theorem sfX1_ask_50 {G : am_G}  {k2 : Option Nat → Int32 → Int32 → Int32 → am_H → Option (am_H)} (hk2 : ∀ (v0 : Option Nat) (v1 : Int32) (v2 : Int32) (v3 : Int32) (h : am_H) (y : am_H), k2 v0 v1 v2 v3 h = some y → am_S G miX1_ask 2 [some (va_rf v0), some (.int v1), some (.int v2), some (.int v3)] [] h none y) (v0 : Option Nat) (v1 : Int32) (v2 : Int32) (v3 : Int32) (h : am_H) (y : am_H) (hf : fX1_ask_50 k2 v0 v1 v2 v3 h = some y) : am_S G miX1_ask 50 [some (va_rf v0), some (.int v1), some (.int v2), some (.int v3)] [] h none y := by
  unfold fX1_ask_50 at hf
  refine am_iinc (ls' := [some (va_rf v0), some (.int v1), some (.int v2), some (.int (v3 + (1 : Int32)))]) dX1_ask_50 rfl rfl (by decide) rfl rfl ?_
  refine am_goto (pc' := 2) dX1_ask_53 (by decide) ?_
  exact hk2 _ _ _ _ _ _ hf
set_option maxRecDepth 20000 in
set_option maxHeartbeats 4000000 in
theorem sfX1_ask_2 {G : am_G}  : ∀ (n : Nat) (v0 : Option Nat) (v1 : Int32) (v2 : Int32) (v3 : Int32) (h : am_H) (y : am_H) (hf : fX1_ask_2  n v0 v1 v2 v3 h = some y), am_S G miX1_ask 2 [some (va_rf v0), some (.int v1), some (.int v2), some (.int v3)] [] h none y := by
  intro n
  induction n with
  | zero => intro v0 v1 v2 v3 h y hf; cases hf
  | succ n ih =>
    intro v0 v1 v2 v3 h y hf
    have hf : fX1_ask_2_b  (fX1_ask_2  n) v0 v1 v2 v3 h = some y := hf
    unfold fX1_ask_2_b at hf
    refine am_iload_n dX1_ask_2 rfl rfl ?_
    refine am_bipush (v := 96) dX1_ask_3 (by decide) rfl ?_
    refine am_icmp_ge (tgt := 56) dX1_ask_5 (by decide) rfl hf (fun hf => ?_) (fun hf => ?_)
    · exact am_vret rfl dX1_ask_56 hf
    refine am_iload_n dX1_ask_8 rfl rfl ?_
    refine am_iload_n dX1_ask_9 rfl rfl ?_
    refine am_icmp_ge (tgt := 32) dX1_ask_10 (by decide) rfl hf (fun hf => ?_) (fun hf => ?_)
    · refine am_aload_n dX1_ask_32 rfl rfl ?_
      refine am_gr_ dX1_ask_33 fl_X1_9 rfl hf (fun x1 _ hf => ?_)
      refine am_iload_n dX1_ask_36 rfl rfl ?_
      refine am_aload_n dX1_ask_37 rfl rfl ?_
      refine am_gr_ dX1_ask_38 fl_X1_9 rfl hf (fun x2 _ hf => ?_)
      refine am_iload_n dX1_ask_41 rfl rfl ?_
      refine am_iald dX1_ask_42 rfl hf (fun x3 _ hf => ?_)
      refine am_iload_n dX1_ask_43 rfl rfl ?_
      refine am_iconst (v := 1) dX1_ask_44 rfl rfl ?_
      refine am_iadd dX1_ask_45 rfl ?_
      refine am_mmax ml_X1_38 st_max in_Math co_max (by decide) (by simp only [List.map_cons, List.map_nil, am_c1, am_ci, am_cl]; exact Nat.le_of_ble_eq_true rfl) dX1_ask_46 rfl ?_
      refine am_iast dX1_ask_49 rfl hf (fun h4 _ hf => ?_)
      exact (sfX1_ask_50 ih) _ _ _ _ _ _ hf
    refine am_aload_n dX1_ask_13 rfl rfl ?_
    refine am_gr_ dX1_ask_14 fl_X1_15 rfl hf (fun x5 _ hf => ?_)
    refine am_iload_n dX1_ask_17 rfl rfl ?_
    refine am_aload_n dX1_ask_18 rfl rfl ?_
    refine am_gr_ dX1_ask_19 fl_X1_15 rfl hf (fun x6 _ hf => ?_)
    refine am_iload_n dX1_ask_22 rfl rfl ?_
    refine am_iald dX1_ask_23 rfl hf (fun x7 _ hf => ?_)
    refine am_iload_n dX1_ask_24 rfl rfl ?_
    refine am_mmin ml_X1_32 st_min in_Math co_min (by decide) (by simp only [List.map_cons, List.map_nil, am_c1, am_ci, am_cl]; exact Nat.le_of_ble_eq_true rfl) dX1_ask_25 rfl ?_
    refine am_iast dX1_ask_28 rfl hf (fun h8 _ hf => ?_)
    refine am_goto (pc' := 50) dX1_ask_29 (by decide) ?_
    exact (sfX1_ask_50 ih) _ _ _ _ _ _ hf
set_option maxRecDepth 20000 in
set_option maxHeartbeats 4000000 in
theorem sfX1_ask {G : am_G}  (v0 : Nat) (v1 : Int32) (v2 : Int32) (h : am_H) (y : am_H) (hf : fX1_ask v0 v1 v2 h = some y) : am_Cn G miX1_ask [va_rf (some v0), .int v1, .int v2] h none y := by
  refine am_beg (ls := [some (va_rf (some v0)), some (.int v1), some (.int v2), none]) (by simp only [am_en, am_e1_r, am_e1_i, am_e1_l, am_e1_n]; rfl) ?_
  unfold fX1_ask at hf
  refine am_iconst (v := 0) dX1_ask_0 rfl rfl ?_
  refine am_istore_n (ls' := [some (va_rf (some v0)), some (.int v1), some (.int v2), some (.int (0 : Int32))]) dX1_ask_1 (by decide) rfl rfl ?_
  exact (sfX1_ask_2 _) _ _ _ _ _ _ hf
set_option maxRecDepth 20000 in
set_option maxHeartbeats 4000000 in
theorem sfX1_gather_90 {G : am_G}  {k29 : Option Nat → Option Nat → Int32 → Int32 → am_H → Option (am_H)} (hk29 : ∀ (v0 : Option Nat) (v1 : Option Nat) (v2 : Int32) (v3 : Int32) (h : am_H) (y : am_H), k29 v0 v1 v2 v3 h = some y → am_S G miX1_gather 29 [some (va_rf v0), some (va_rf v1), some (.int v2), some (.int v3)] [] h none y) (v0 : Option Nat) (v1 : Option Nat) (v2 : Int32) (v3 : Int32) (h : am_H) (y : am_H) (hf : fX1_gather_90 k29 v0 v1 v2 v3 h = some y) : am_S G miX1_gather 90 [some (va_rf v0), some (va_rf v1), some (.int v2), some (.int v3)] [] h none y := by
  unfold fX1_gather_90 at hf
  refine am_iinc (ls' := [some (va_rf v0), some (va_rf v1), some (.int v2), some (.int (v3 + (1 : Int32)))]) dX1_gather_90 rfl rfl (by decide) rfl rfl ?_
  refine am_goto (pc' := 29) dX1_gather_93 (by decide) ?_
  exact hk29 _ _ _ _ _ _ hf
set_option maxRecDepth 20000 in
set_option maxHeartbeats 4000000 in
theorem sfX1_gather_60 {G : am_G}  {k90 : Option Nat → Option Nat → Int32 → Int32 → am_H → Option (am_H)} (hk90 : ∀ (v0 : Option Nat) (v1 : Option Nat) (v2 : Int32) (v3 : Int32) (h : am_H) (y : am_H), k90 v0 v1 v2 v3 h = some y → am_S G miX1_gather 90 [some (va_rf v0), some (va_rf v1), some (.int v2), some (.int v3)] [] h none y) (v0 : Option Nat) (v1 : Option Nat) (v2 : Int32) (v3 : Int32) (s0 : Option Nat) (s1 : Int32) (h : am_H) (y : am_H) (hf : fX1_gather_60 k90 v0 v1 v2 v3 s0 s1 h = some y) : am_S G miX1_gather 60 [some (va_rf v0), some (va_rf v1), some (.int v2), some (.int v3)] [.int s1, va_rf s0] h none y := by
  unfold fX1_gather_60 at hf
  refine am_pz_ dX1_gather_60 fl_X1_28 fp_1_3 (fun z => by cases z) rfl hf (fun h1 _ hf => ?_)
  refine am_aload_n dX1_gather_63 rfl rfl ?_
  refine am_aload_n dX1_gather_64 rfl rfl ?_
  refine am_gi_ dX1_gather_65 fl_X1_24 rfl hf (fun x2 _ hf => ?_)
  refine am_aload_n dX1_gather_68 rfl rfl ?_
  refine am_iload_n dX1_gather_69 rfl rfl ?_
  refine am_iald dX1_gather_70 rfl hf (fun x3 _ hf => ?_)
  refine am_bipush (v := 95) dX1_gather_71 (by decide) rfl ?_
  refine am_mmin ml_X1_32 st_min in_Math co_min (by decide) (by simp only [List.map_cons, List.map_nil, am_c1, am_ci, am_cl]; exact Nat.le_of_ble_eq_true rfl) dX1_gather_73 rfl ?_
  refine am_mmax ml_X1_38 st_max in_Math co_max (by decide) (by simp only [List.map_cons, List.map_nil, am_c1, am_ci, am_cl]; exact Nat.le_of_ble_eq_true rfl) dX1_gather_76 rfl ?_
  refine am_pi_ dX1_gather_79 fl_X1_24 fp_1_2 (fun z => by cases z) rfl hf (fun h4 _ hf => ?_)
  refine am_aload_n dX1_gather_82 rfl rfl ?_
  refine am_iload_n dX1_gather_83 rfl rfl ?_
  refine am_aload_n dX1_gather_84 rfl rfl ?_
  refine am_iload_n dX1_gather_85 rfl rfl ?_
  refine am_iald dX1_gather_86 rfl hf (fun x5 _ hf => ?_)
  refine am_cVv (As := [.int v3, .int x5]) (st := []) lk_X1_gather_41 rfl (Nat.le_of_ble_eq_true rfl) (Nat.le_of_ble_eq_true rfl) rfl dX1_gather_87 rfl hf (fun b7 y6 hf => sfX1_ask b7 _ _ _ y6 hf) (fun b7 y6 _ _ hf => ?_)
  exact hk90 _ _ _ _ _ _ hf
set_option maxRecDepth 20000 in
set_option maxHeartbeats 4000000 in
theorem sfX1_gather_55 {G : am_G}  {k60 : Option Nat → Option Nat → Int32 → Int32 → Option Nat → Int32 → am_H → Option (am_H)} (hk60 : ∀ (v0 : Option Nat) (v1 : Option Nat) (v2 : Int32) (v3 : Int32) (s0 : Option Nat) (s1 : Int32) (h : am_H) (y : am_H), k60 v0 v1 v2 v3 s0 s1 h = some y → am_S G miX1_gather 60 [some (va_rf v0), some (va_rf v1), some (.int v2), some (.int v3)] [.int s1, va_rf s0] h none y) (v0 : Option Nat) (v1 : Option Nat) (v2 : Int32) (v3 : Int32) (s0 : Option Nat) (h : am_H) (y : am_H) (hf : fX1_gather_55 k60 v0 v1 v2 v3 s0 h = some y) : am_S G miX1_gather 55 [some (va_rf v0), some (va_rf v1), some (.int v2), some (.int v3)] [va_rf s0] h none y := by
  unfold fX1_gather_55 at hf
  refine am_iconst (v := 1) dX1_gather_55 rfl rfl ?_
  refine am_goto (pc' := 60) dX1_gather_56 (by decide) ?_
  exact hk60 _ _ _ _ _ _ _ _ hf
set_option maxRecDepth 20000 in
set_option maxHeartbeats 4000000 in
theorem sfX1_gather_29 {G : am_G}  : ∀ (n : Nat) (v0 : Option Nat) (v1 : Option Nat) (v2 : Int32) (v3 : Int32) (h : am_H) (y : am_H) (hf : fX1_gather_29  n v0 v1 v2 v3 h = some y), am_S G miX1_gather 29 [some (va_rf v0), some (va_rf v1), some (.int v2), some (.int v3)] [] h none y := by
  intro n
  induction n with
  | zero => intro v0 v1 v2 v3 h y hf; cases hf
  | succ n ih =>
    intro v0 v1 v2 v3 h y hf
    have hf : fX1_gather_29_b  (fX1_gather_29  n) v0 v1 v2 v3 h = some y := hf
    unfold fX1_gather_29_b at hf
    refine am_iload_n dX1_gather_29 rfl rfl ?_
    refine am_aload_n dX1_gather_30 rfl rfl ?_
    refine am_an_ dX1_gather_31 rfl hf (fun x1 _ hf => ?_)
    refine am_icmp_ge (tgt := 96) dX1_gather_32 (by decide) rfl hf (fun hf => ?_) (fun hf => ?_)
    · exact am_vret rfl dX1_gather_96 hf
    refine am_aload_n dX1_gather_35 rfl rfl ?_
    refine am_iload_n dX1_gather_36 rfl rfl ?_
    refine am_iald dX1_gather_37 rfl hf (fun x2 _ hf => ?_)
    refine am_iconst (v := -1) dX1_gather_38 rfl rfl ?_
    refine am_icmp_eq (tgt := 90) dX1_gather_39 (by decide) rfl hf (fun hf => ?_) (fun hf => ?_)
    · exact (sfX1_gather_90 ih) _ _ _ _ _ _ hf
    refine am_aload_n dX1_gather_42 rfl rfl ?_
    refine am_aload_n dX1_gather_43 rfl rfl ?_
    refine am_gi_ dX1_gather_44 fl_X1_28 rfl hf (fun x3 _ hf => ?_)
    refine am_if_ne (tgt := 55) dX1_gather_47 (by decide) rfl hf (fun hf => ?_) (fun hf => ?_)
    · exact (sfX1_gather_55 (sfX1_gather_60 (sfX1_gather_90 ih))) _ _ _ _ _ _ _ hf
    refine am_iload_n dX1_gather_50 rfl rfl ?_
    refine am_iload_n dX1_gather_51 rfl rfl ?_
    refine am_icmp_lt (tgt := 59) dX1_gather_52 (by decide) rfl hf (fun hf => ?_) (fun hf => ?_)
    · refine am_iconst (v := 0) dX1_gather_59 rfl rfl ?_
      exact (sfX1_gather_60 (sfX1_gather_90 ih)) _ _ _ _ _ _ _ _ hf
    exact (sfX1_gather_55 (sfX1_gather_60 (sfX1_gather_90 ih))) _ _ _ _ _ _ _ hf
set_option maxRecDepth 20000 in
set_option maxHeartbeats 4000000 in
theorem sfX1_gather {G : am_G}  (v0 : Nat) (v1 : Option Nat) (v2 : Int32) (h : am_H) (y : am_H) (hf : fX1_gather v0 v1 v2 h = some y) : am_Cn G miX1_gather [va_rf (some v0), va_rf v1, .int v2] h none y := by
  refine am_beg (ls := [some (va_rf (some v0)), some (va_rf v1), some (.int v2), none]) (by simp only [am_en, am_e1_r, am_e1_i, am_e1_l, am_e1_n]; rfl) ?_
  unfold fX1_gather at hf
  refine am_aload_n dX1_gather_0 rfl rfl ?_
  refine am_gr_ dX1_gather_1 fl_X1_9 rfl hf (fun x1 _ hf => ?_)
  refine am_iconst (v := 0) dX1_gather_4 rfl rfl ?_
  refine am_cSv (As := [va_rf x1, .int (0 : Int32)]) (st := []) lk_X1_gather_18 rfl (by simp only [am_e1_r, am_e1_i, am_e1_l, am_e1_n]; exact Nat.le_of_ble_eq_true rfl) (Nat.le_of_ble_eq_true rfl) rfl dX1_gather_5 rfl hf (fun y2 hf => sfJ7_fill_53178 _ _ _ y2 hf) (fun y2 _ hf => ?_)
  refine am_aload_n dX1_gather_8 rfl rfl ?_
  refine am_gr_ dX1_gather_9 fl_X1_15 rfl hf (fun x3 _ hf => ?_)
  refine am_bipush (v := 12) dX1_gather_12 (by decide) rfl ?_
  refine am_cSv (As := [va_rf x3, .int (12 : Int32)]) (st := []) lk_X1_gather_18 rfl (by simp only [am_e1_r, am_e1_i, am_e1_l, am_e1_n]; exact Nat.le_of_ble_eq_true rfl) (Nat.le_of_ble_eq_true rfl) rfl dX1_gather_14 rfl hf (fun y4 hf => sfJ7_fill_53178 _ _ _ y4 hf) (fun y4 _ hf => ?_)
  refine am_aload_n dX1_gather_17 rfl rfl ?_
  refine am_iconst (v := -1) dX1_gather_18 rfl rfl ?_
  refine am_pi_ dX1_gather_19 fl_X1_24 fp_1_2 (fun z => by cases z) rfl hf (fun h5 _ hf => ?_)
  refine am_aload_n dX1_gather_22 rfl rfl ?_
  refine am_iconst (v := 0) dX1_gather_23 rfl rfl ?_
  refine am_pz_ dX1_gather_24 fl_X1_28 fp_1_3 (fun z => by cases z) rfl hf (fun h6 _ hf => ?_)
  refine am_iconst (v := 0) dX1_gather_27 rfl rfl ?_
  refine am_istore_n (ls' := [some (va_rf (some v0)), some (va_rf v1), some (.int v2), some (.int (0 : Int32))]) dX1_gather_28 (by decide) rfl rfl ?_
  exact (sfX1_gather_29 _) _ _ _ _ _ _ hf
set_option maxRecDepth 20000 in
set_option maxHeartbeats 4000000 in
theorem sfX1_allows {G : am_G}  (v0 : Nat) (v1 : Int32) (v2 : Int32) (h : am_H) (y : Int32 × am_H) (hf : fX1_allows v0 v1 v2 h = some y) : am_Cn G miX1_allows [va_rf (some v0), .int v1, .int v2] h (some (.int y.1)) y.2 := by
  refine am_beg (ls := [some (va_rf (some v0)), some (.int v1), some (.int v2)]) (by simp only [am_en, am_e1_r, am_e1_i, am_e1_l, am_e1_n]; rfl) ?_
  unfold fX1_allows at hf
  refine am_iload_n dX1_allows_0 rfl rfl ?_
  refine am_cTi (As := [.int v1]) (st := []) lk_X1_allows_45 rfl (Nat.le_of_ble_eq_true rfl) (Nat.le_of_ble_eq_true rfl) rfl dX1_allows_1 rfl hf (fun y1 hf => sfX8_isTick _ _ y1 hf) (fun y1 _ hf => ?_)
  refine am_if_eq (tgt := 30) dX1_allows_4 (by decide) rfl hf (fun hf => ?_) (fun hf => ?_)
  · refine am_iconst (v := 0) dX1_allows_30 rfl rfl ?_
    exact am_zret rfl dX1_allows_31 hf
  refine am_iload_n dX1_allows_7 rfl rfl ?_
  refine am_aload_n dX1_allows_8 rfl rfl ?_
  refine am_gr_ dX1_allows_9 fl_X1_9 rfl hf (fun x2 _ hf => ?_)
  refine am_iload_n dX1_allows_12 rfl rfl ?_
  refine am_iald dX1_allows_13 rfl hf (fun x3 _ hf => ?_)
  refine am_aload_n dX1_allows_14 rfl rfl ?_
  refine am_gr_ dX1_allows_15 fl_X1_15 rfl hf (fun x4 _ hf => ?_)
  refine am_iload_n dX1_allows_18 rfl rfl ?_
  refine am_iald dX1_allows_19 rfl hf (fun x5 _ hf => ?_)
  refine am_cTi (As := [.int v2, .int x3, .int x5]) (st := []) lk_X1_allows_49 rfl (Nat.le_of_ble_eq_true rfl) (Nat.le_of_ble_eq_true rfl) rfl dX1_allows_20 rfl hf (fun y6 hf => sfX8_isIn _ _ _ _ y6 hf) (fun y6 _ hf => ?_)
  refine am_if_eq (tgt := 30) dX1_allows_23 (by decide) rfl hf (fun hf => ?_) (fun hf => ?_)
  · refine am_iconst (v := 0) dX1_allows_30 rfl rfl ?_
    exact am_zret rfl dX1_allows_31 hf
  refine am_iconst (v := 1) dX1_allows_26 rfl rfl ?_
  refine am_goto (pc' := 31) dX1_allows_27 (by decide) ?_
  exact am_zret rfl dX1_allows_31 hf
set_option maxRecDepth 20000 in
set_option maxHeartbeats 4000000 in
theorem sfX8_agreesFromHere_17 {G : am_G}  : ∀ (n : Nat) (v0 : Option Nat) (v1 : Option Nat) (v2 : Int32) (h : am_H) (y : Int32 × am_H) (hf : fX8_agreesFromHere_17  n v0 v1 v2 h = some y), am_S G miX8_agreesFromHere 17 [some (va_rf v0), some (va_rf v1), some (.int v2)] [] h (some (.int y.1)) y.2 := by
  intro n
  induction n with
  | zero => intro v0 v1 v2 h y hf; cases hf
  | succ n ih =>
    intro v0 v1 v2 h y hf
    have hf : fX8_agreesFromHere_17_b  (fX8_agreesFromHere_17  n) v0 v1 v2 h = some y := hf
    unfold fX8_agreesFromHere_17_b at hf
    refine am_iload_n dX8_agreesFromHere_17 rfl rfl ?_
    refine am_aload_n dX8_agreesFromHere_18 rfl rfl ?_
    refine am_gr_ dX8_agreesFromHere_19 fl_X8_79 rfl hf (fun x1 _ hf => ?_)
    refine am_gi_ dX8_agreesFromHere_22 fl_X8_387 rfl hf (fun x2 _ hf => ?_)
    refine am_icmp_gt (tgt := 55) dX8_agreesFromHere_25 (by decide) rfl hf (fun hf => ?_) (fun hf => ?_)
    · refine am_iconst (v := 1) dX8_agreesFromHere_55 rfl rfl ?_
      exact am_zret rfl dX8_agreesFromHere_56 hf
    refine am_aload_n dX8_agreesFromHere_28 rfl rfl ?_
    refine am_cVv (As := []) (st := []) lk_X8_agreesFromHere_374 rfl (Nat.le_of_ble_eq_true rfl) (Nat.le_of_ble_eq_true rfl) rfl dX8_agreesFromHere_29 rfl hf (fun b4 y3 hf => sfX5_advance b4  _ y3 hf) (fun b4 y3 _ _ hf => ?_)
    refine am_aload_n dX8_agreesFromHere_32 rfl rfl ?_
    refine am_gr_ dX8_agreesFromHere_33 fl_X8_79 rfl hf (fun x5 _ hf => ?_)
    refine am_iload_n dX8_agreesFromHere_36 rfl rfl ?_
    refine am_aload_n dX8_agreesFromHere_37 rfl rfl ?_
    refine am_gi_ dX8_agreesFromHere_38 fl_X8_371 rfl hf (fun x6 _ hf => ?_)
    refine am_cVi (As := [.int v2, .int x6]) (st := []) lk_X8_agreesFromHere_390 rfl (Nat.le_of_ble_eq_true rfl) (Nat.le_of_ble_eq_true rfl) rfl dX8_agreesFromHere_41 rfl hf (fun b8 y7 hf => sfX1_allows b8 _ _ _ y7 hf) (fun b8 y7 _ _ hf => ?_)
    refine am_if_ne (tgt := 49) dX8_agreesFromHere_44 (by decide) rfl hf (fun hf => ?_) (fun hf => ?_)
    · refine am_iinc (ls' := [some (va_rf v0), some (va_rf v1), some (.int (v2 + (1 : Int32)))]) dX8_agreesFromHere_49 rfl rfl (by decide) (am_s1_r (j := 1) rfl rfl) rfl ?_
      refine am_goto (pc' := 17) dX8_agreesFromHere_52 (by decide) ?_
      exact ih _ _ _ _ _ hf
    refine am_iconst (v := 0) dX8_agreesFromHere_47 rfl rfl ?_
    exact am_zret rfl dX8_agreesFromHere_48 hf
set_option maxRecDepth 20000 in
set_option maxHeartbeats 4000000 in
theorem sfX8_agreesFromHere {G : am_G}  (v0 : Nat) (v1 : Option Nat) (h : am_H) (y : Int32 × am_H) (hf : fX8_agreesFromHere v0 v1 h = some y) : am_Cn G miX8_agreesFromHere [va_rf (some v0), va_rf v1] h (some (.int y.1)) y.2 := by
  refine am_beg (ls := [some (va_rf (some v0)), some (va_rf v1), none]) (by simp only [am_en, am_e1_r, am_e1_i, am_e1_l, am_e1_n]; rfl) ?_
  unfold fX8_agreesFromHere at hf
  refine am_aload_n dX8_agreesFromHere_0 rfl rfl ?_
  refine am_gr_ dX8_agreesFromHere_1 fl_X8_79 rfl hf (fun x1 _ hf => ?_)
  refine am_gi_ dX8_agreesFromHere_4 fl_X8_381 rfl hf (fun x2 _ hf => ?_)
  refine am_if_eq (tgt := 12) dX8_agreesFromHere_7 (by decide) rfl hf (fun hf => ?_) (fun hf => ?_)
  · refine am_aload_n dX8_agreesFromHere_12 rfl rfl ?_
    refine am_gi_ dX8_agreesFromHere_13 fl_X8_384 rfl hf (fun x3 _ hf => ?_)
    refine am_istore_n (ls' := [some (va_rf (some v0)), some (va_rf v1), some (.int x3)]) dX8_agreesFromHere_16 (by decide) (am_s1_r (j := 1) rfl rfl) rfl ?_
    exact (sfX8_agreesFromHere_17 _) _ _ _ _ _ hf
  refine am_iconst (v := 0) dX8_agreesFromHere_10 rfl rfl ?_
  exact am_zret rfl dX8_agreesFromHere_11 hf
set_option maxRecDepth 20000 in
set_option maxHeartbeats 4000000 in
theorem sfX8_agrees {G : am_G}  (v0 : Nat) (v1 : Int32) (v2 : Int32) (v3 : Int32) (h : am_H) (y : Int32 × am_H) (hf : fX8_agrees v0 v1 v2 v3 h = some y) : am_Cn G miX8_agrees [va_rf (some v0), .int v1, .int v2, .int v3] h (some (.int y.1)) y.2 := by
  refine am_beg (ls := [some (va_rf (some v0)), some (.int v1), some (.int v2), some (.int v3)]) (by simp only [am_en, am_e1_r, am_e1_i, am_e1_l, am_e1_n]; rfl) ?_
  unfold fX8_agrees at hf
  refine am_aload_n dX8_agrees_0 rfl rfl ?_
  refine am_iload_n dX8_agrees_1 rfl rfl ?_
  refine am_iload_n dX8_agrees_2 rfl rfl ?_
  refine am_iload_n dX8_agrees_3 rfl rfl ?_
  refine am_cVi (As := [.int v1, .int v2, .int v3]) (st := []) lk_X8_agrees_200 rfl (Nat.le_of_ble_eq_true rfl) (Nat.le_of_ble_eq_true rfl) rfl dX8_agrees_4 rfl hf (fun b2 y1 hf => sfX8_startRun b2 _ _ _ _ y1 hf) (fun b2 y1 _ _ hf => ?_)
  refine am_if_ne (tgt := 13) dX8_agrees_7 (by decide) rfl hf (fun hf => ?_) (fun hf => ?_)
  · refine am_aload_n dX8_agrees_13 rfl rfl ?_
    refine am_gr_ dX8_agrees_14 fl_X8_79 rfl hf (fun x3 _ hf => ?_)
    refine am_aload_n dX8_agrees_17 rfl rfl ?_
    refine am_gr_ dX8_agrees_18 fl_X8_37 rfl hf (fun x4 _ hf => ?_)
    refine am_gr_ dX8_agrees_21 fl_X8_271 rfl hf (fun x5 _ hf => ?_)
    refine am_aload_n dX8_agrees_24 rfl rfl ?_
    refine am_gr_ dX8_agrees_25 fl_X8_62 rfl hf (fun x6 _ hf => ?_)
    refine am_gr_ dX8_agrees_28 fl_X8_203 rfl hf (fun x7 _ hf => ?_)
    refine am_gi_ dX8_agrees_31 fl_X8_229 rfl hf (fun x8 _ hf => ?_)
    refine am_cVv (As := [va_rf x5, .int x8]) (st := []) lk_X8_agrees_274 rfl (by simp only [am_e1_r, am_e1_i, am_e1_l, am_e1_n]; exact Nat.le_of_ble_eq_true rfl) (Nat.le_of_ble_eq_true rfl) rfl dX8_agrees_34 rfl hf (fun b10 y9 hf => sfX1_gather b10 _ _ _ y9 hf) (fun b10 y9 _ _ hf => ?_)
    refine am_aload_n dX8_agrees_37 rfl rfl ?_
    refine am_aload_n dX8_agrees_38 rfl rfl ?_
    refine am_gr_ dX8_agrees_39 fl_X8_62 rfl hf (fun x11 _ hf => ?_)
    refine am_cVi (As := [va_rf x11]) (st := []) lk_X8_agrees_278 rfl (by simp only [am_e1_r, am_e1_i, am_e1_l, am_e1_n]; exact Nat.le_of_ble_eq_true rfl) (Nat.le_of_ble_eq_true rfl) rfl dX8_agrees_42 rfl hf (fun b13 y12 hf => sfX8_agreesFromHere b13 _ _ y12 hf) (fun b13 y12 _ _ hf => ?_)
    refine am_if_eq (tgt := 52) dX8_agrees_45 (by decide) rfl hf (fun hf => ?_) (fun hf => ?_)
    · refine am_iconst (v := 0) dX8_agrees_52 rfl rfl ?_
      exact am_iret rfl dX8_agrees_53 hf
    refine am_iconst (v := 1) dX8_agrees_48 rfl rfl ?_
    refine am_goto (pc' := 53) dX8_agrees_49 (by decide) ?_
    exact am_iret rfl dX8_agrees_53 hf
  refine am_bipush (v := -101) dX8_agrees_10 (by decide) rfl ?_
  exact am_iret rfl dX8_agrees_12 hf
set_option maxRecDepth 20000 in
set_option maxHeartbeats 4000000 in
theorem sfX9_agreesNow_54 {G : am_G}  {k4 : Option Nat → Int32 → Int32 → Int32 → am_H → Option (Int32 × am_H)} (hk4 : ∀ (v0 : Option Nat) (v1 : Int32) (v2 : Int32) (v3 : Int32) (h : am_H) (y : Int32 × am_H), k4 v0 v1 v2 v3 h = some y → am_S G miX9_agreesNow 4 [some (va_rf v0), some (.int v1), some (.int v2), some (.int v3)] [] h (some (.int y.1)) y.2) (v0 : Option Nat) (v1 : Int32) (v3 : Int32) (s0 : Int32) (h : am_H) (y : Int32 × am_H) (hf : fX9_agreesNow_54 k4 v0 v1 v3 s0 h = some y) : am_S G miX9_agreesNow 54 [some (va_rf v0), some (.int v1), none, some (.int v3)] [.int s0] h (some (.int y.1)) y.2 := by
  unfold fX9_agreesNow_54 at hf
  refine am_istore_n (ls' := [some (va_rf v0), some (.int v1), some (.int s0), some (.int v3)]) dX9_agreesNow_54 (by decide) rfl rfl ?_
  refine am_iinc (ls' := [some (va_rf v0), some (.int v1), some (.int s0), some (.int (v3 + (1 : Int32)))]) dX9_agreesNow_55 rfl rfl (by decide) rfl rfl ?_
  refine am_goto (pc' := 4) dX9_agreesNow_58 (by decide) ?_
  exact hk4 _ _ _ _ _ _ hf
set_option maxRecDepth 20000 in
set_option maxHeartbeats 4000000 in
theorem sfX9_agreesNow_53 {G : am_G}  {k54 : Option Nat → Int32 → Int32 → Int32 → am_H → Option (Int32 × am_H)} (hk54 : ∀ (v0 : Option Nat) (v1 : Int32) (v3 : Int32) (s0 : Int32) (h : am_H) (y : Int32 × am_H), k54 v0 v1 v3 s0 h = some y → am_S G miX9_agreesNow 54 [some (va_rf v0), some (.int v1), none, some (.int v3)] [.int s0] h (some (.int y.1)) y.2) (v0 : Option Nat) (v1 : Int32) (v3 : Int32) (h : am_H) (y : Int32 × am_H) (hf : fX9_agreesNow_53 k54 v0 v1 v3 h = some y) : am_S G miX9_agreesNow 53 [some (va_rf v0), some (.int v1), none, some (.int v3)] [] h (some (.int y.1)) y.2 := by
  unfold fX9_agreesNow_53 at hf
  refine am_iconst (v := 0) dX9_agreesNow_53 rfl rfl ?_
  exact hk54 _ _ _ _ _ _ hf
set_option maxRecDepth 20000 in
set_option maxHeartbeats 4000000 in
theorem sfX9_agreesNow_49 {G : am_G}  {k54 : Option Nat → Int32 → Int32 → Int32 → am_H → Option (Int32 × am_H)} (hk54 : ∀ (v0 : Option Nat) (v1 : Int32) (v3 : Int32) (s0 : Int32) (h : am_H) (y : Int32 × am_H), k54 v0 v1 v3 s0 h = some y → am_S G miX9_agreesNow 54 [some (va_rf v0), some (.int v1), none, some (.int v3)] [.int s0] h (some (.int y.1)) y.2) (v0 : Option Nat) (v1 : Int32) (v3 : Int32) (h : am_H) (y : Int32 × am_H) (hf : fX9_agreesNow_49 k54 v0 v1 v3 h = some y) : am_S G miX9_agreesNow 49 [some (va_rf v0), some (.int v1), none, some (.int v3)] [] h (some (.int y.1)) y.2 := by
  unfold fX9_agreesNow_49 at hf
  refine am_iconst (v := 1) dX9_agreesNow_49 rfl rfl ?_
  refine am_goto (pc' := 54) dX9_agreesNow_50 (by decide) ?_
  exact hk54 _ _ _ _ _ _ hf
set_option maxRecDepth 20000 in
set_option maxHeartbeats 4000000 in
theorem sfX9_agreesNow_4 {G : am_G}  : ∀ (n : Nat) (v0 : Option Nat) (v1 : Int32) (v2 : Int32) (v3 : Int32) (h : am_H) (y : Int32 × am_H) (hf : fX9_agreesNow_4  n v0 v1 v2 v3 h = some y), am_S G miX9_agreesNow 4 [some (va_rf v0), some (.int v1), some (.int v2), some (.int v3)] [] h (some (.int y.1)) y.2 := by
  intro n
  induction n with
  | zero => intro v0 v1 v2 v3 h y hf; cases hf
  | succ n ih =>
    intro v0 v1 v2 v3 h y hf
    have hf : fX9_agreesNow_4_b  (fX9_agreesNow_4  n) v0 v1 v2 v3 h = some y := hf
    unfold fX9_agreesNow_4_b at hf
    refine am_iload_n dX9_agreesNow_4 rfl rfl ?_
    refine am_bipush (v := 12) dX9_agreesNow_5 (by decide) rfl ?_
    refine am_icmp_ge (tgt := 61) dX9_agreesNow_7 (by decide) rfl hf (fun hf => ?_) (fun hf => ?_)
    · refine am_iload_n dX9_agreesNow_61 rfl rfl ?_
      exact am_zret rfl dX9_agreesNow_62 hf
    refine am_iload_n dX9_agreesNow_10 rfl rfl ?_
    refine am_if_eq (tgt := 53) dX9_agreesNow_11 (by decide) rfl hf (fun hf => ?_) (fun hf => ?_)
    · exact am_we ((sfX9_agreesNow_53 (sfX9_agreesNow_54 ih)) _ _ _ _ _ hf) ⟨Or.inr rfl, Or.inr rfl, Or.inl rfl, Or.inr rfl, trivial⟩
    refine am_aload_n dX9_agreesNow_14 rfl rfl ?_
    refine am_gr_ dX9_agreesNow_15 fl_X9_68 rfl hf (fun x1 _ hf => ?_)
    refine am_iload_n dX9_agreesNow_18 rfl rfl ?_
    refine am_iald dX9_agreesNow_19 rfl hf (fun x2 _ hf => ?_)
    refine am_iconst (v := -1) dX9_agreesNow_20 rfl rfl ?_
    refine am_icmp_eq (tgt := 49) dX9_agreesNow_21 (by decide) rfl hf (fun hf => ?_) (fun hf => ?_)
    · exact am_we ((sfX9_agreesNow_49 (sfX9_agreesNow_54 ih)) _ _ _ _ _ hf) ⟨Or.inr rfl, Or.inr rfl, Or.inl rfl, Or.inr rfl, trivial⟩
    refine am_iload_n dX9_agreesNow_24 rfl rfl ?_
    refine am_aload_n dX9_agreesNow_25 rfl rfl ?_
    refine am_gr_ dX9_agreesNow_26 fl_X9_31 rfl hf (fun x3 _ hf => ?_)
    refine am_iload_n dX9_agreesNow_29 rfl rfl ?_
    refine am_iald dX9_agreesNow_30 rfl hf (fun x4 _ hf => ?_)
    refine am_icmp_ge (tgt := 53) dX9_agreesNow_31 (by decide) rfl hf (fun hf => ?_) (fun hf => ?_)
    · exact am_we ((sfX9_agreesNow_53 (sfX9_agreesNow_54 ih)) _ _ _ _ _ hf) ⟨Or.inr rfl, Or.inr rfl, Or.inl rfl, Or.inr rfl, trivial⟩
    refine am_aload_n dX9_agreesNow_34 rfl rfl ?_
    refine am_gr_ dX9_agreesNow_35 fl_X9_102 rfl hf (fun x5 _ hf => ?_)
    refine am_iload_n dX9_agreesNow_38 rfl rfl ?_
    refine am_iald dX9_agreesNow_39 rfl hf (fun x6 _ hf => ?_)
    refine am_aload_n dX9_agreesNow_40 rfl rfl ?_
    refine am_gr_ dX9_agreesNow_41 fl_X9_68 rfl hf (fun x7 _ hf => ?_)
    refine am_iload_n dX9_agreesNow_44 rfl rfl ?_
    refine am_iald dX9_agreesNow_45 rfl hf (fun x8 _ hf => ?_)
    refine am_icmp_ne (tgt := 53) dX9_agreesNow_46 (by decide) rfl hf (fun hf => ?_) (fun hf => ?_)
    · exact am_we ((sfX9_agreesNow_53 (sfX9_agreesNow_54 ih)) _ _ _ _ _ hf) ⟨Or.inr rfl, Or.inr rfl, Or.inl rfl, Or.inr rfl, trivial⟩
    exact am_we ((sfX9_agreesNow_49 (sfX9_agreesNow_54 ih)) _ _ _ _ _ hf) ⟨Or.inr rfl, Or.inr rfl, Or.inl rfl, Or.inr rfl, trivial⟩
set_option maxRecDepth 20000 in
set_option maxHeartbeats 4000000 in
theorem sfX9_agreesNow {G : am_G}  (v0 : Nat) (v1 : Int32) (h : am_H) (y : Int32 × am_H) (hf : fX9_agreesNow v0 v1 h = some y) : am_Cn G miX9_agreesNow [va_rf (some v0), .int v1] h (some (.int y.1)) y.2 := by
  refine am_beg (ls := [some (va_rf (some v0)), some (.int v1), none, none]) (by simp only [am_en, am_e1_r, am_e1_i, am_e1_l, am_e1_n]; rfl) ?_
  unfold fX9_agreesNow at hf
  refine am_iconst (v := 1) dX9_agreesNow_0 rfl rfl ?_
  refine am_istore_n (ls' := [some (va_rf (some v0)), some (.int v1), some (.int (1 : Int32)), none]) dX9_agreesNow_1 (by decide) rfl rfl ?_
  refine am_iconst (v := 0) dX9_agreesNow_2 rfl rfl ?_
  refine am_istore_n (ls' := [some (va_rf (some v0)), some (.int v1), some (.int (1 : Int32)), some (.int (0 : Int32))]) dX9_agreesNow_3 (by decide) rfl rfl ?_
  exact (sfX9_agreesNow_4 _) _ _ _ _ _ _ hf
set_option maxRecDepth 20000 in
set_option maxHeartbeats 4000000 in
theorem sfX9_agrees {G : am_G}  (v0 : Nat) (v1 : Int32) (v2 : Int32) (v3 : Int32) (h : am_H) (y : Int32 × am_H) (hf : fX9_agrees v0 v1 v2 v3 h = some y) : am_Cn G miX9_agrees [va_rf (some v0), .int v1, .int v2, .int v3] h (some (.int y.1)) y.2 := by
  refine am_beg (ls := [some (va_rf (some v0)), some (.int v1), some (.int v2), some (.int v3)]) (by simp only [am_en, am_e1_r, am_e1_i, am_e1_l, am_e1_n]; rfl) ?_
  unfold fX9_agrees at hf
  refine am_aload_n dX9_agrees_0 rfl rfl ?_
  refine am_iload_n dX9_agrees_1 rfl rfl ?_
  refine am_iload_n dX9_agrees_2 rfl rfl ?_
  refine am_iload_n dX9_agrees_3 rfl rfl ?_
  refine am_cVi (As := [.int v1, .int v2, .int v3]) (st := []) lk_X9_agrees_277 rfl (Nat.le_of_ble_eq_true rfl) (Nat.le_of_ble_eq_true rfl) rfl dX9_agrees_4 rfl hf (fun b2 y1 hf => sfX9_isRun b2 _ _ _ _ y1 hf) (fun b2 y1 _ _ hf => ?_)
  refine am_if_ne (tgt := 13) dX9_agrees_7 (by decide) rfl hf (fun hf => ?_) (fun hf => ?_)
  · refine am_aload_n dX9_agrees_13 rfl rfl ?_
    refine am_iload_n dX9_agrees_14 rfl rfl ?_
    refine am_iload_n dX9_agrees_15 rfl rfl ?_
    refine am_iload_n dX9_agrees_16 rfl rfl ?_
    refine am_cVv (As := [.int v1, .int v2, .int v3]) (st := []) lk_X9_agrees_280 rfl (Nat.le_of_ble_eq_true rfl) (Nat.le_of_ble_eq_true rfl) rfl dX9_agrees_17 rfl hf (fun b4 y3 hf => sfX9_runAll b4 _ _ _ _ y3 hf) (fun b4 y3 _ _ hf => ?_)
    refine am_aload_n dX9_agrees_20 rfl rfl ?_
    refine am_iload_n dX9_agrees_21 rfl rfl ?_
    refine am_cVi (As := [.int v1]) (st := []) lk_X9_agrees_338 rfl (Nat.le_of_ble_eq_true rfl) (Nat.le_of_ble_eq_true rfl) rfl dX9_agrees_22 rfl hf (fun b6 y5 hf => sfX9_agreesNow b6 _ _ y5 hf) (fun b6 y5 _ _ hf => ?_)
    refine am_if_eq (tgt := 32) dX9_agrees_25 (by decide) rfl hf (fun hf => ?_) (fun hf => ?_)
    · refine am_iconst (v := 0) dX9_agrees_32 rfl rfl ?_
      exact am_iret rfl dX9_agrees_33 hf
    refine am_iconst (v := 1) dX9_agrees_28 rfl rfl ?_
    refine am_goto (pc' := 33) dX9_agrees_29 (by decide) ?_
    exact am_iret rfl dX9_agrees_33 hf
  refine am_bipush (v := -101) dX9_agrees_10 (by decide) rfl ?_
  exact am_iret rfl dX9_agrees_12 hf
set_option maxRecDepth 20000 in
set_option maxHeartbeats 4000000 in
theorem sfX8_which_97 {G : am_G}  {k59 : Option Nat → Int32 → Int32 → Int32 → Int32 → am_H → Option (Int32 × am_H)} (hk59 : ∀ (v0 : Option Nat) (v1 : Int32) (v2 : Int32) (v3 : Int32) (v4 : Int32) (h : am_H) (y : Int32 × am_H), k59 v0 v1 v2 v3 v4 h = some y → am_S G miX8_which 59 [some (va_rf v0), some (.int v1), some (.int v2), some (.int v3), some (.int v4)] [] h (some (.int y.1)) y.2) (v0 : Option Nat) (v1 : Int32) (v2 : Int32) (v3 : Int32) (v4 : Int32) (h : am_H) (y : Int32 × am_H) (hf : fX8_which_97 k59 v0 v1 v2 v3 v4 h = some y) : am_S G miX8_which 97 [some (va_rf v0), some (.int v1), some (.int v2), some (.int v3), some (.int v4)] [] h (some (.int y.1)) y.2 := by
  unfold fX8_which_97 at hf
  refine am_iinc (ls' := [some (va_rf v0), some (.int v1), some (.int v2), some (.int v3), some (.int (v4 + (1 : Int32)))]) dX8_which_97 rfl rfl (by decide) rfl rfl ?_
  refine am_goto (pc' := 59) dX8_which_100 (by decide) ?_
  exact hk59 _ _ _ _ _ _ _ hf
