/-! printed proofs of the printed functions, 3 -/
set_option maxRecDepth 20000 in
set_option maxHeartbeats 4000000 in
theorem sfX9_fits_41 {G : am_G}  (v1 : Int32) (v2 : Int32) (s0 : Int32) (h : am_H) (y : Int32 × am_H) (hf : fX9_fits_41  v1 v2 s0 h = some y) : am_S G miX9_fits 41 [none, some (.int v1), some (.int v2), none] [.int s0] h (some (.int y.1)) y.2 := by
  unfold fX9_fits_41 at hf
  refine am_istore_n (ls' := [none, some (.int v1), some (.int v2), some (.int s0)]) dX9_fits_41 (by decide) rfl rfl ?_
  refine am_iload_n dX9_fits_42 rfl rfl ?_
  refine am_if_gt (tgt := 51) dX9_fits_43 (by decide) rfl hf (fun hf => ?_) (fun hf => ?_)
  · exact am_we (sfX9_fits_51 _ _ _ hf) ⟨Or.inl rfl, Or.inl rfl, Or.inl rfl, Or.inr rfl, trivial⟩
  refine am_iload_n dX9_fits_46 rfl rfl ?_
  refine am_iconst (v := 5) dX9_fits_47 rfl rfl ?_
  refine am_icmp_ne (tgt := 59) dX9_fits_48 (by decide) rfl hf (fun hf => ?_) (fun hf => ?_)
  · refine am_iconst (v := 0) dX9_fits_59 rfl rfl ?_
    exact am_zret rfl dX9_fits_60 hf
  exact am_we (sfX9_fits_51 _ _ _ hf) ⟨Or.inl rfl, Or.inl rfl, Or.inl rfl, Or.inr rfl, trivial⟩
set_option maxRecDepth 20000 in
set_option maxHeartbeats 4000000 in
theorem sfX9_fits_36 {G : am_G}  {k41 : Int32 → Int32 → Int32 → am_H → Option (Int32 × am_H)} (hk41 : ∀ (v1 : Int32) (v2 : Int32) (s0 : Int32) (h : am_H) (y : Int32 × am_H), k41 v1 v2 s0 h = some y → am_S G miX9_fits 41 [none, some (.int v1), some (.int v2), none] [.int s0] h (some (.int y.1)) y.2) (v1 : Int32) (v2 : Int32) (h : am_H) (y : Int32 × am_H) (hf : fX9_fits_36 k41 v1 v2 h = some y) : am_S G miX9_fits 36 [none, some (.int v1), some (.int v2), none] [] h (some (.int y.1)) y.2 := by
  unfold fX9_fits_36 at hf
  refine am_iconst (v := 1) dX9_fits_36 rfl rfl ?_
  refine am_goto (pc' := 41) dX9_fits_37 (by decide) ?_
  exact hk41 _ _ _ _ _ hf
set_option maxRecDepth 20000 in
set_option maxHeartbeats 4000000 in
theorem sfX9_fits {G : am_G}  (v0 : Nat) (v1 : Int32) (v2 : Int32) (h : am_H) (y : Int32 × am_H) (hf : fX9_fits v0 v1 v2 h = some y) : am_Cn G miX9_fits [va_rf (some v0), .int v1, .int v2] h (some (.int y.1)) y.2 := by
  refine am_beg (ls := [some (va_rf (some v0)), some (.int v1), some (.int v2), none]) (by simp only [am_en, am_e1_r, am_e1_i, am_e1_l, am_e1_n]; rfl) ?_
  unfold fX9_fits at hf
  refine am_aload_n dX9_fits_0 rfl rfl ?_
  refine am_gi_ dX9_fits_1 fl_X9_139 rfl hf (fun x1 _ hf => ?_)
  refine am_iconst (v := -1) dX9_fits_4 rfl rfl ?_
  refine am_icmp_ne (tgt := 61) dX9_fits_5 (by decide) rfl hf (fun hf => ?_) (fun hf => ?_)
  · refine am_bipush (v := 10) dX9_fits_61 (by decide) rfl ?_
    refine am_aload_n dX9_fits_63 rfl rfl ?_
    refine am_gi_ dX9_fits_64 fl_X9_139 rfl hf (fun x2 _ hf => ?_)
    refine am_imul dX9_fits_67 rfl ?_
    refine am_iload_n dX9_fits_68 rfl rfl ?_
    refine am_iadd dX9_fits_69 rfl ?_
    refine am_istore_n (ls' := [some (va_rf (some v0)), some (.int v1), some (.int v2), some (.int (((10 : Int32) * x2) + v2))]) dX9_fits_70 (by decide) rfl rfl ?_
    refine am_aload_n dX9_fits_71 rfl rfl ?_
    refine am_gi_ dX9_fits_72 fl_X9_139 rfl hf (fun x3 _ hf => ?_)
    refine am_if_le (tgt := 104) dX9_fits_75 (by decide) rfl hf (fun hf => ?_) (fun hf => ?_)
    · refine am_iconst (v := 0) dX9_fits_104 rfl rfl ?_
      exact am_zret rfl dX9_fits_105 hf
    refine am_iload_n dX9_fits_78 rfl rfl ?_
    refine am_iload_n dX9_fits_79 rfl rfl ?_
    refine am_cSi (As := [.int v1]) (st := [.int (((10 : Int32) * x2) + v2)]) lk_X9_fits_146 rfl (Nat.le_of_ble_eq_true rfl) (Nat.le_of_ble_eq_true rfl) rfl dX9_fits_80 rfl hf (fun y4 hf => sfX9_most _ _ y4 hf) (fun y4 _ hf => ?_)
    refine am_icmp_gt (tgt := 104) dX9_fits_83 (by decide) rfl hf (fun hf => ?_) (fun hf => ?_)
    · refine am_iconst (v := 0) dX9_fits_104 rfl rfl ?_
      exact am_zret rfl dX9_fits_105 hf
    refine am_iload_n dX9_fits_86 rfl rfl ?_
    refine am_bipush (v := 6) dX9_fits_87 (by decide) rfl ?_
    refine am_icmp_ne (tgt := 100) dX9_fits_89 (by decide) rfl hf (fun hf => ?_) (fun hf => ?_)
    · refine am_iconst (v := 1) dX9_fits_100 rfl rfl ?_
      refine am_goto (pc' := 105) dX9_fits_101 (by decide) ?_
      exact am_zret rfl dX9_fits_105 hf
    refine am_iload_n dX9_fits_92 rfl rfl ?_
    refine am_aload_n dX9_fits_93 rfl rfl ?_
    refine am_cVi (As := []) (st := [.int (((10 : Int32) * x2) + v2)]) lk_X9_fits_142 rfl (Nat.le_of_ble_eq_true rfl) (Nat.le_of_ble_eq_true rfl) rfl dX9_fits_94 rfl hf (fun b6 y5 hf => sfX9_markAhead b6  _ y5 hf) (fun b6 y5 _ _ hf => ?_)
    refine am_icmp_le (tgt := 104) dX9_fits_97 (by decide) rfl hf (fun hf => ?_) (fun hf => ?_)
    · refine am_iconst (v := 0) dX9_fits_104 rfl rfl ?_
      exact am_zret rfl dX9_fits_105 hf
    refine am_iconst (v := 1) dX9_fits_100 rfl rfl ?_
    refine am_goto (pc' := 105) dX9_fits_101 (by decide) ?_
    exact am_zret rfl dX9_fits_105 hf
  refine am_iload_n dX9_fits_8 rfl rfl ?_
  refine am_bipush (v := 6) dX9_fits_9 (by decide) rfl ?_
  refine am_icmp_ne (tgt := 36) dX9_fits_11 (by decide) rfl hf (fun hf => ?_) (fun hf => ?_)
  · exact am_we ((sfX9_fits_36 sfX9_fits_41) _ _ _ _ hf) ⟨Or.inl rfl, Or.inr rfl, Or.inr rfl, Or.inl rfl, trivial⟩
  refine am_iload_n dX9_fits_14 rfl rfl ?_
  refine am_aload_n dX9_fits_15 rfl rfl ?_
  refine am_cVi (As := []) (st := [.int v2]) lk_X9_fits_142 rfl (Nat.le_of_ble_eq_true rfl) (Nat.le_of_ble_eq_true rfl) rfl dX9_fits_16 rfl hf (fun b8 y7 hf => sfX9_markAhead b8  _ y7 hf) (fun b8 y7 _ _ hf => ?_)
  refine am_icmp_gt (tgt := 36) dX9_fits_19 (by decide) rfl hf (fun hf => ?_) (fun hf => ?_)
  · exact am_we ((sfX9_fits_36 sfX9_fits_41) _ _ _ _ hf) ⟨Or.inl rfl, Or.inr rfl, Or.inr rfl, Or.inl rfl, trivial⟩
  refine am_bipush (v := 10) dX9_fits_22 (by decide) rfl ?_
  refine am_iload_n dX9_fits_24 rfl rfl ?_
  refine am_imul dX9_fits_25 rfl ?_
  refine am_bipush (v := 9) dX9_fits_26 (by decide) rfl ?_
  refine am_iadd dX9_fits_28 rfl ?_
  refine am_aload_n dX9_fits_29 rfl rfl ?_
  refine am_cVi (As := []) (st := [.int (((10 : Int32) * v2) + (9 : Int32))]) lk_X9_fits_142 rfl (Nat.le_of_ble_eq_true rfl) (Nat.le_of_ble_eq_true rfl) rfl dX9_fits_30 rfl hf (fun b10 y9 hf => sfX9_markAhead b10  _ y9 hf) (fun b10 y9 _ _ hf => ?_)
  refine am_icmp_le (tgt := 40) dX9_fits_33 (by decide) rfl hf (fun hf => ?_) (fun hf => ?_)
  · refine am_iconst (v := 0) dX9_fits_40 rfl rfl ?_
    exact am_we (sfX9_fits_41 _ _ _ _ _ hf) ⟨Or.inl rfl, Or.inr rfl, Or.inr rfl, Or.inl rfl, trivial⟩
  exact am_we ((sfX9_fits_36 sfX9_fits_41) _ _ _ _ hf) ⟨Or.inl rfl, Or.inr rfl, Or.inr rfl, Or.inl rfl, trivial⟩
set_option maxRecDepth 20000 in
set_option maxHeartbeats 4000000 in
theorem sfX9_behind {G : am_G}  (v0 : Nat) (v1 : Int32) (v2 : Int32) (h : am_H) (y : Int32 × am_H) (hf : fX9_behind v0 v1 v2 h = some y) : am_Cn G miX9_behind [va_rf (some v0), .int v1, .int v2] h (some (.int y.1)) y.2 := by
  refine am_beg (ls := [some (va_rf (some v0)), some (.int v1), some (.int v2)]) (by simp only [am_en, am_e1_r, am_e1_i, am_e1_l, am_e1_n]; rfl) ?_
  unfold fX9_behind at hf
  refine am_iload_n dX9_behind_0 rfl rfl ?_
  refine am_tsw (d := 132) (l := [(0, 40), (1, 52), (2, 64), (3, 94), (4, 106), (5, 119)]) dX9_behind_1 (by decide) (by decide) (by decide) ?_
  refine am_swc hf (fun hf => ?_) (fun hf => ?_)
  · refine am_iload_n dX9_behind_40 rfl rfl ?_
    refine am_bipush (v := 120) dX9_behind_41 (by decide) rfl ?_
    refine am_icmp_ne (tgt := 50) dX9_behind_43 (by decide) rfl hf (fun hf => ?_) (fun hf => ?_)
    · refine am_iconst (v := -1) dX9_behind_50 rfl rfl ?_
      exact am_iret rfl dX9_behind_51 hf
    refine am_iconst (v := 1) dX9_behind_46 rfl rfl ?_
    refine am_goto (pc' := 51) dX9_behind_47 (by decide) ?_
    exact am_iret rfl dX9_behind_51 hf
  refine am_swc hf (fun hf => ?_) (fun hf => ?_)
  · refine am_iload_n dX9_behind_52 rfl rfl ?_
    refine am_bipush (v := 104) dX9_behind_53 (by decide) rfl ?_
    refine am_icmp_ne (tgt := 62) dX9_behind_55 (by decide) rfl hf (fun hf => ?_) (fun hf => ?_)
    · refine am_iconst (v := -1) dX9_behind_62 rfl rfl ?_
      exact am_iret rfl dX9_behind_63 hf
    refine am_iconst (v := 2) dX9_behind_58 rfl rfl ?_
    refine am_goto (pc' := 63) dX9_behind_59 (by decide) ?_
    exact am_iret rfl dX9_behind_63 hf
  refine am_swc hf (fun hf => ?_) (fun hf => ?_)
  · refine am_iload_n dX9_behind_64 rfl rfl ?_
    refine am_bipush (v := 61) dX9_behind_65 (by decide) rfl ?_
    refine am_icmp_ne (tgt := 74) dX9_behind_67 (by decide) rfl hf (fun hf => ?_) (fun hf => ?_)
    · refine am_iload_n dX9_behind_74 rfl rfl ?_
      refine am_bipush (v := 62) dX9_behind_75 (by decide) rfl ?_
      refine am_icmp_ne (tgt := 92) dX9_behind_77 (by decide) rfl hf (fun hf => ?_) (fun hf => ?_)
      · refine am_iconst (v := -1) dX9_behind_92 rfl rfl ?_
        exact am_iret rfl dX9_behind_93 hf
      refine am_aload_n dX9_behind_80 rfl rfl ?_
      refine am_gi_ dX9_behind_81 fl_X9_150 rfl hf (fun x1 _ hf => ?_)
      refine am_iconst (v := 2) dX9_behind_84 rfl rfl ?_
      refine am_icmp_ge (tgt := 92) dX9_behind_85 (by decide) rfl hf (fun hf => ?_) (fun hf => ?_)
      · refine am_iconst (v := -1) dX9_behind_92 rfl rfl ?_
        exact am_iret rfl dX9_behind_93 hf
      refine am_iconst (v := 0) dX9_behind_88 rfl rfl ?_
      refine am_goto (pc' := 93) dX9_behind_89 (by decide) ?_
      exact am_iret rfl dX9_behind_93 hf
    refine am_iconst (v := 3) dX9_behind_70 rfl rfl ?_
    refine am_goto (pc' := 93) dX9_behind_71 (by decide) ?_
    exact am_iret rfl dX9_behind_93 hf
  refine am_swc hf (fun hf => ?_) (fun hf => ?_)
  · refine am_iload_n dX9_behind_94 rfl rfl ?_
    refine am_bipush (v := 120) dX9_behind_95 (by decide) rfl ?_
    refine am_icmp_ne (tgt := 104) dX9_behind_97 (by decide) rfl hf (fun hf => ?_) (fun hf => ?_)
    · refine am_iconst (v := -1) dX9_behind_104 rfl rfl ?_
      exact am_iret rfl dX9_behind_105 hf
    refine am_iconst (v := 4) dX9_behind_100 rfl rfl ?_
    refine am_goto (pc' := 105) dX9_behind_101 (by decide) ?_
    exact am_iret rfl dX9_behind_105 hf
  refine am_swc hf (fun hf => ?_) (fun hf => ?_)
  · refine am_iload_n dX9_behind_106 rfl rfl ?_
    refine am_bipush (v := 59) dX9_behind_107 (by decide) rfl ?_
    refine am_icmp_ne (tgt := 117) dX9_behind_109 (by decide) rfl hf (fun hf => ?_) (fun hf => ?_)
    · refine am_iconst (v := -1) dX9_behind_117 rfl rfl ?_
      exact am_iret rfl dX9_behind_118 hf
    refine am_bipush (v := 7) dX9_behind_112 (by decide) rfl ?_
    refine am_goto (pc' := 118) dX9_behind_114 (by decide) ?_
    exact am_iret rfl dX9_behind_118 hf
  refine am_swc hf (fun hf => ?_) (fun hf => ?_)
  · refine am_iload_n dX9_behind_119 rfl rfl ?_
    refine am_bipush (v := 59) dX9_behind_120 (by decide) rfl ?_
    refine am_icmp_ne (tgt := 130) dX9_behind_122 (by decide) rfl hf (fun hf => ?_) (fun hf => ?_)
    · refine am_iconst (v := -1) dX9_behind_130 rfl rfl ?_
      exact am_iret rfl dX9_behind_131 hf
    refine am_bipush (v := 8) dX9_behind_125 (by decide) rfl ?_
    refine am_goto (pc' := 131) dX9_behind_127 (by decide) ?_
    exact am_iret rfl dX9_behind_131 hf
  show am_S _ _ 132 _ _ _ _ _
  refine am_iload_n dX9_behind_132 rfl rfl ?_
  refine am_bipush (v := 44) dX9_behind_133 (by decide) rfl ?_
  refine am_icmp_ne (tgt := 172) dX9_behind_135 (by decide) rfl hf (fun hf => ?_) (fun hf => ?_)
  · refine am_iconst (v := -1) dX9_behind_172 rfl rfl ?_
    exact am_iret rfl dX9_behind_173 hf
  refine am_aload_n dX9_behind_138 rfl rfl ?_
  refine am_gi_ dX9_behind_139 fl_X9_136 rfl hf (fun x2 _ hf => ?_)
  refine am_bipush (v := 11) dX9_behind_142 (by decide) rfl ?_
  refine am_icmp_ge (tgt := 172) dX9_behind_144 (by decide) rfl hf (fun hf => ?_) (fun hf => ?_)
  · refine am_iconst (v := -1) dX9_behind_172 rfl rfl ?_
    exact am_iret rfl dX9_behind_173 hf
  refine am_aload_n dX9_behind_147 rfl rfl ?_
  refine am_gi_ dX9_behind_148 fl_X9_139 rfl hf (fun x3 _ hf => ?_)
  refine am_aload_n dX9_behind_151 rfl rfl ?_
  refine am_cVi (As := []) (st := [.int x3]) lk_X9_behind_142 rfl (Nat.le_of_ble_eq_true rfl) (Nat.le_of_ble_eq_true rfl) rfl dX9_behind_152 rfl hf (fun b5 y4 hf => sfX9_markAhead b5  _ y4 hf) (fun b5 y4 _ _ hf => ?_)
  refine am_icmp_le (tgt := 172) dX9_behind_155 (by decide) rfl hf (fun hf => ?_) (fun hf => ?_)
  · refine am_iconst (v := -1) dX9_behind_172 rfl rfl ?_
    exact am_iret rfl dX9_behind_173 hf
  refine am_aload_n dX9_behind_158 rfl rfl ?_
  refine am_gi_ dX9_behind_159 fl_X9_139 rfl hf (fun x6 _ hf => ?_)
  refine am_bipush (v := 99) dX9_behind_162 (by decide) rfl ?_
  refine am_icmp_ge (tgt := 172) dX9_behind_164 (by decide) rfl hf (fun hf => ?_) (fun hf => ?_)
  · refine am_iconst (v := -1) dX9_behind_172 rfl rfl ?_
    exact am_iret rfl dX9_behind_173 hf
  refine am_bipush (v := 6) dX9_behind_167 (by decide) rfl ?_
  refine am_goto (pc' := 173) dX9_behind_169 (by decide) ?_
  exact am_iret rfl dX9_behind_173 hf
set_option maxRecDepth 20000 in
set_option maxHeartbeats 4000000 in
theorem sfX9_keep_154 {G : am_G}  (v0 : Option Nat) (h : am_H) (y : am_H) (hf : fX9_keep_154  v0 h = some y) : am_S G miX9_keep 154 [some (va_rf v0), none] [] h none y := by
  unfold fX9_keep_154 at hf
  refine am_aload_n dX9_keep_154 rfl rfl ?_
  refine am_iconst (v := -1) dX9_keep_155 rfl rfl ?_
  refine am_pi_ dX9_keep_156 fl_X9_139 fp_9_42 (fun z => by cases z) rfl hf (fun h1 _ hf => ?_)
  exact am_vret rfl dX9_keep_159 hf
set_option maxRecDepth 20000 in
set_option maxHeartbeats 4000000 in
theorem sfX9_keep {G : am_G}  (v0 : Nat) (v1 : Int32) (h : am_H) (y : am_H) (hf : fX9_keep v0 v1 h = some y) : am_Cn G miX9_keep [va_rf (some v0), .int v1] h none y := by
  refine am_beg (ls := [some (va_rf (some v0)), some (.int v1)]) (by simp only [am_en, am_e1_r, am_e1_i, am_e1_l, am_e1_n]; rfl) ?_
  unfold fX9_keep at hf
  refine am_iload_n dX9_keep_0 rfl rfl ?_
  refine am_tsw (d := 131) (l := [(0, 40), (1, 56), (2, 72), (3, 98), (4, 109), (5, 120)]) dX9_keep_1 (by decide) (by decide) (by decide) ?_
  refine am_swc hf (fun hf => ?_) (fun hf => ?_)
  · refine am_aload_n dX9_keep_40 rfl rfl ?_
    refine am_gr_ dX9_keep_41 fl_X9_84 rfl hf (fun x1 _ hf => ?_)
    refine am_aload_n dX9_keep_44 rfl rfl ?_
    refine am_gi_ dX9_keep_45 fl_X9_150 rfl hf (fun x2 _ hf => ?_)
    refine am_aload_n dX9_keep_48 rfl rfl ?_
    refine am_gi_ dX9_keep_49 fl_X9_139 rfl hf (fun x3 _ hf => ?_)
    refine am_iast dX9_keep_52 rfl hf (fun h4 _ hf => ?_)
    refine am_goto (pc' := 154) dX9_keep_53 (by decide) ?_
    exact am_we (sfX9_keep_154 _ _ _ hf) ⟨Or.inr rfl, Or.inl rfl, trivial⟩
  refine am_swc hf (fun hf => ?_) (fun hf => ?_)
  · refine am_aload_n dX9_keep_56 rfl rfl ?_
    refine am_gr_ dX9_keep_57 fl_X9_87 rfl hf (fun x5 _ hf => ?_)
    refine am_aload_n dX9_keep_60 rfl rfl ?_
    refine am_gi_ dX9_keep_61 fl_X9_150 rfl hf (fun x6 _ hf => ?_)
    refine am_aload_n dX9_keep_64 rfl rfl ?_
    refine am_gi_ dX9_keep_65 fl_X9_139 rfl hf (fun x7 _ hf => ?_)
    refine am_iast dX9_keep_68 rfl hf (fun h8 _ hf => ?_)
    refine am_goto (pc' := 154) dX9_keep_69 (by decide) ?_
    exact am_we (sfX9_keep_154 _ _ _ hf) ⟨Or.inr rfl, Or.inl rfl, trivial⟩
  refine am_swc hf (fun hf => ?_) (fun hf => ?_)
  · refine am_aload_n dX9_keep_72 rfl rfl ?_
    refine am_gr_ dX9_keep_73 fl_X9_90 rfl hf (fun x9 _ hf => ?_)
    refine am_aload_n dX9_keep_76 rfl rfl ?_
    refine am_gi_ dX9_keep_77 fl_X9_150 rfl hf (fun x10 _ hf => ?_)
    refine am_aload_n dX9_keep_80 rfl rfl ?_
    refine am_gi_ dX9_keep_81 fl_X9_139 rfl hf (fun x11 _ hf => ?_)
    refine am_iast dX9_keep_84 rfl hf (fun h12 _ hf => ?_)
    refine am_aload_n dX9_keep_85 rfl rfl ?_
    refine am_dup dX9_keep_86 (am_c1 _) rfl ?_
    refine am_gi_ dX9_keep_87 fl_X9_150 rfl hf (fun x13 _ hf => ?_)
    refine am_iconst (v := 1) dX9_keep_90 rfl rfl ?_
    refine am_iadd dX9_keep_91 rfl ?_
    refine am_pi_ dX9_keep_92 fl_X9_150 fp_9_33 (fun z => by cases z) rfl hf (fun h14 _ hf => ?_)
    refine am_goto (pc' := 154) dX9_keep_95 (by decide) ?_
    exact am_we (sfX9_keep_154 _ _ _ hf) ⟨Or.inr rfl, Or.inl rfl, trivial⟩
  refine am_swc hf (fun hf => ?_) (fun hf => ?_)
  · refine am_aload_n dX9_keep_98 rfl rfl ?_
    refine am_aload_n dX9_keep_99 rfl rfl ?_
    refine am_gi_ dX9_keep_100 fl_X9_139 rfl hf (fun x15 _ hf => ?_)
    refine am_pi_ dX9_keep_103 fl_X9_153 fp_9_37 (fun z => by cases z) rfl hf (fun h16 _ hf => ?_)
    refine am_goto (pc' := 154) dX9_keep_106 (by decide) ?_
    exact am_we (sfX9_keep_154 _ _ _ hf) ⟨Or.inr rfl, Or.inl rfl, trivial⟩
  refine am_swc hf (fun hf => ?_) (fun hf => ?_)
  · refine am_aload_n dX9_keep_109 rfl rfl ?_
    refine am_aload_n dX9_keep_110 rfl rfl ?_
    refine am_gi_ dX9_keep_111 fl_X9_139 rfl hf (fun x17 _ hf => ?_)
    refine am_pi_ dX9_keep_114 fl_X9_156 fp_9_38 (fun z => by cases z) rfl hf (fun h18 _ hf => ?_)
    refine am_goto (pc' := 154) dX9_keep_117 (by decide) ?_
    exact am_we (sfX9_keep_154 _ _ _ hf) ⟨Or.inr rfl, Or.inl rfl, trivial⟩
  refine am_swc hf (fun hf => ?_) (fun hf => ?_)
  · refine am_aload_n dX9_keep_120 rfl rfl ?_
    refine am_aload_n dX9_keep_121 rfl rfl ?_
    refine am_gi_ dX9_keep_122 fl_X9_139 rfl hf (fun x19 _ hf => ?_)
    refine am_pi_ dX9_keep_125 fl_X9_159 fp_9_39 (fun z => by cases z) rfl hf (fun h20 _ hf => ?_)
    refine am_goto (pc' := 154) dX9_keep_128 (by decide) ?_
    exact am_we (sfX9_keep_154 _ _ _ hf) ⟨Or.inr rfl, Or.inl rfl, trivial⟩
  show am_S _ _ 131 _ _ _ _ _
  refine am_aload_n dX9_keep_131 rfl rfl ?_
  refine am_gr_ dX9_keep_132 fl_X9_93 rfl hf (fun x21 _ hf => ?_)
  refine am_aload_n dX9_keep_135 rfl rfl ?_
  refine am_gi_ dX9_keep_136 fl_X9_136 rfl hf (fun x22 _ hf => ?_)
  refine am_aload_n dX9_keep_139 rfl rfl ?_
  refine am_gi_ dX9_keep_140 fl_X9_139 rfl hf (fun x23 _ hf => ?_)
  refine am_iast dX9_keep_143 rfl hf (fun h24 _ hf => ?_)
  refine am_aload_n dX9_keep_144 rfl rfl ?_
  refine am_dup dX9_keep_145 (am_c1 _) rfl ?_
  refine am_gi_ dX9_keep_146 fl_X9_136 rfl hf (fun x25 _ hf => ?_)
  refine am_iconst (v := 1) dX9_keep_149 rfl rfl ?_
  refine am_iadd dX9_keep_150 rfl ?_
  refine am_pi_ dX9_keep_151 fl_X9_136 fp_9_40 (fun z => by cases z) rfl hf (fun h26 _ hf => ?_)
  exact am_we (sfX9_keep_154 _ _ _ hf) ⟨Or.inr rfl, Or.inl rfl, trivial⟩
set_option maxRecDepth 20000 in
set_option maxHeartbeats 4000000 in
theorem sfX9_readPage_82 {G : am_G}  {k197 : Option Nat → Int32 → Int32 → Int32 → am_H → Option (am_H)} (hk197 : ∀ (v0 : Option Nat) (v1 : Int32) (v2 : Int32) (v3 : Int32) (h : am_H) (y : am_H), k197 v0 v1 v2 v3 h = some y → am_S G miX9_readPage 197 [some (va_rf v0), some (.int v1), some (.int v2), some (.int v3), none, none] [] h none y) (v0 : Option Nat) (v2 : Int32) (v3 : Int32) (s0 : Int32) (h : am_H) (y : am_H) (hf : fX9_readPage_82 k197 v0 v2 v3 s0 h = some y) : am_S G miX9_readPage 82 [some (va_rf v0), none, some (.int v2), some (.int v3), none, none] [.int s0] h none y := by
  unfold fX9_readPage_82 at hf
  refine am_istore_n (ls' := [some (va_rf v0), some (.int s0), some (.int v2), some (.int v3), none, none]) dX9_readPage_82 (by decide) (am_s1_r (j := 0) rfl rfl) rfl ?_
  refine am_goto (pc' := 197) dX9_readPage_83 (by decide) ?_
  exact hk197 _ _ _ _ _ _ hf
set_option maxRecDepth 20000 in
set_option maxHeartbeats 4000000 in
theorem sfX9_readPage_248 {G : am_G}  (s0 : Option Nat) (s1 : Int32) (h : am_H) (y : am_H) (hf : fX9_readPage_248  s0 s1 h = some y) : am_S G miX9_readPage 248 [none, none, none, none, none, none] [.int s1, va_rf s0] h none y := by
  unfold fX9_readPage_248 at hf
  refine am_pz_ dX9_readPage_248 fl_X9_181 fp_9_32 (fun z => by cases z) rfl hf (fun h1 _ hf => ?_)
  exact am_vret rfl dX9_readPage_251 hf
set_option maxRecDepth 20000 in
set_option maxHeartbeats 4000000 in
theorem sfX9_readPage_247 {G : am_G}  {k248 : Option Nat → Int32 → am_H → Option (am_H)} (hk248 : ∀ (s0 : Option Nat) (s1 : Int32) (h : am_H) (y : am_H), k248 s0 s1 h = some y → am_S G miX9_readPage 248 [none, none, none, none, none, none] [.int s1, va_rf s0] h none y) (s0 : Option Nat) (h : am_H) (y : am_H) (hf : fX9_readPage_247 k248 s0 h = some y) : am_S G miX9_readPage 247 [none, none, none, none, none, none] [va_rf s0] h none y := by
  unfold fX9_readPage_247 at hf
  refine am_iconst (v := 0) dX9_readPage_247 rfl rfl ?_
  exact hk248 _ _ _ _ hf
set_option maxRecDepth 20000 in
set_option maxHeartbeats 4000000 in
theorem sfX9_readPage_207 {G : am_G}  {k21 : Option Nat → Int32 → Int32 → Int32 → am_H → Option (am_H)} (hk21 : ∀ (v0 : Option Nat) (v1 : Int32) (v2 : Int32) (v3 : Int32) (h : am_H) (y : am_H), k21 v0 v1 v2 v3 h = some y → am_S G miX9_readPage 21 [some (va_rf v0), some (.int v1), some (.int v2), some (.int v3), none, none] [] h none y) (v0 : Option Nat) (v1 : Int32) (v3 : Int32) (s0 : Int32) (s1 : Int32) (h : am_H) (y : am_H) (hf : fX9_readPage_207 k21 v0 v1 v3 s0 s1 h = some y) : am_S G miX9_readPage 207 [some (va_rf v0), some (.int v1), none, some (.int v3), none, none] [.int s1, .int s0] h none y := by
  unfold fX9_readPage_207 at hf
  refine am_iadd dX9_readPage_207 rfl ?_
  refine am_istore_n (ls' := [some (va_rf v0), some (.int v1), some (.int (s0 + s1)), some (.int v3), none, none]) dX9_readPage_208 (by decide) rfl rfl ?_
  refine am_goto (pc' := 21) dX9_readPage_209 (by decide) ?_
  exact hk21 _ _ _ _ _ _ hf
set_option maxRecDepth 20000 in
set_option maxHeartbeats 4000000 in
theorem sfX9_readPage_184 {G : am_G}  {k197 : Option Nat → Int32 → Int32 → Int32 → am_H → Option (am_H)} (hk197 : ∀ (v0 : Option Nat) (v1 : Int32) (v2 : Int32) (v3 : Int32) (h : am_H) (y : am_H), k197 v0 v1 v2 v3 h = some y → am_S G miX9_readPage 197 [some (va_rf v0), some (.int v1), some (.int v2), some (.int v3), none, none] [] h none y) (v0 : Option Nat) (v1 : Int32) (v2 : Int32) (v5 : Int32) (s0 : Int32) (h : am_H) (y : am_H) (hf : fX9_readPage_184 k197 v0 v1 v2 v5 s0 h = some y) : am_S G miX9_readPage 184 [some (va_rf v0), some (.int v1), some (.int v2), none, none, some (.int v5)] [.int s0] h none y := by
  unfold fX9_readPage_184 at hf
  refine am_istore_n (ls' := [some (va_rf v0), some (.int v1), some (.int v2), some (.int s0), none, some (.int v5)]) dX9_readPage_184 (by decide) rfl rfl ?_
  refine am_iload_n dX9_readPage_185 rfl rfl ?_
  refine am_if_eq (tgt := 197) dX9_readPage_186 (by decide) rfl hf (fun hf => ?_) (fun hf => ?_)
  · exact am_we (hk197 _ _ _ _ _ _ hf) ⟨Or.inr rfl, Or.inr rfl, Or.inr rfl, Or.inr rfl, Or.inl rfl, Or.inl rfl, trivial⟩
  refine am_aload_n dX9_readPage_189 rfl rfl ?_
  refine am_iload_n dX9_readPage_190 rfl rfl ?_
  refine am_cVv (As := [.int v1]) (st := []) lk_X9_readPage_174 rfl (Nat.le_of_ble_eq_true rfl) (Nat.le_of_ble_eq_true rfl) rfl dX9_readPage_191 rfl hf (fun b2 y1 hf => sfX9_keep b2 _ _ y1 hf) (fun b2 y1 _ _ hf => ?_)
  refine am_iload dX9_readPage_194 rfl rfl ?_
  refine am_istore_n (ls' := [some (va_rf v0), some (.int v5), some (.int v2), some (.int s0), none, some (.int v5)]) dX9_readPage_196 (by decide) (am_s1_r (j := 0) rfl rfl) rfl ?_
  exact am_we (hk197 _ _ _ _ _ _ hf) ⟨Or.inr rfl, Or.inr rfl, Or.inr rfl, Or.inr rfl, Or.inl rfl, Or.inl rfl, trivial⟩
set_option maxRecDepth 20000 in
set_option maxHeartbeats 4000000 in
theorem sfX9_readPage_70 {G : am_G}  {k197 : Option Nat → Int32 → Int32 → Int32 → am_H → Option (am_H)} (hk197 : ∀ (v0 : Option Nat) (v1 : Int32) (v2 : Int32) (v3 : Int32) (h : am_H) (y : am_H), k197 v0 v1 v2 v3 h = some y → am_S G miX9_readPage 197 [some (va_rf v0), some (.int v1), some (.int v2), some (.int v3), none, none] [] h none y) (v0 : Option Nat) (v1 : Int32) (v2 : Int32) (s0 : Int32) (h : am_H) (y : am_H) (hf : fX9_readPage_70 k197 v0 v1 v2 s0 h = some y) : am_S G miX9_readPage 70 [some (va_rf v0), some (.int v1), some (.int v2), none, none, none] [.int s0] h none y := by
  unfold fX9_readPage_70 at hf
  refine am_istore_n (ls' := [some (va_rf v0), some (.int v1), some (.int v2), some (.int s0), none, none]) dX9_readPage_70 (by decide) rfl rfl ?_
  refine am_iload_n dX9_readPage_71 rfl rfl ?_
  refine am_if_eq (tgt := 81) dX9_readPage_72 (by decide) rfl hf (fun hf => ?_) (fun hf => ?_)
  · refine am_iload_n dX9_readPage_81 rfl rfl ?_
    exact am_we ((sfX9_readPage_82 hk197) _ _ _ _ _ _ hf) ⟨Or.inr rfl, Or.inl rfl, Or.inr rfl, Or.inr rfl, Or.inl rfl, Or.inl rfl, trivial⟩
  refine am_iload_n dX9_readPage_75 rfl rfl ?_
  refine am_iconst (v := 2) dX9_readPage_76 rfl rfl ?_
  refine am_isub dX9_readPage_77 rfl ?_
  refine am_goto (pc' := 82) dX9_readPage_78 (by decide) ?_
  exact am_we ((sfX9_readPage_82 hk197) _ _ _ _ _ _ hf) ⟨Or.inr rfl, Or.inl rfl, Or.inr rfl, Or.inr rfl, Or.inl rfl, Or.inl rfl, trivial⟩
set_option maxRecDepth 20000 in
set_option maxHeartbeats 4000000 in
theorem sfX9_readPage_212 {G : am_G}  (v0 : Option Nat) (v1 : Int32) (v2 : Int32) (h : am_H) (y : am_H) (hf : fX9_readPage_212  v0 v1 v2 h = some y) : am_S G miX9_readPage 212 [some (va_rf v0), some (.int v1), some (.int v2), none, none, none] [] h none y := by
  unfold fX9_readPage_212 at hf
  refine am_aload_n dX9_readPage_212 rfl rfl ?_
  refine am_iload_n dX9_readPage_213 rfl rfl ?_
  refine am_pi_ dX9_readPage_214 fl_X9_178 fp_9_31 (fun z => by cases z) rfl hf (fun h1 _ hf => ?_)
  refine am_aload_n dX9_readPage_217 rfl rfl ?_
  refine am_iload_n dX9_readPage_218 rfl rfl ?_
  refine am_aload_n dX9_readPage_219 rfl rfl ?_
  refine am_gi_ dX9_readPage_220 fl_X9_129 rfl hf (fun x2 _ hf => ?_)
  refine am_icmp_ne (tgt := 247) dX9_readPage_223 (by decide) rfl hf (fun hf => ?_) (fun hf => ?_)
  · exact am_we ((sfX9_readPage_247 sfX9_readPage_248) _ _ _ hf) ⟨Or.inl rfl, Or.inl rfl, Or.inl rfl, Or.inl rfl, Or.inl rfl, Or.inl rfl, trivial⟩
  refine am_iload_n dX9_readPage_226 rfl rfl ?_
  refine am_bipush (v := 6) dX9_readPage_227 (by decide) rfl ?_
  refine am_icmp_ne (tgt := 247) dX9_readPage_229 (by decide) rfl hf (fun hf => ?_) (fun hf => ?_)
  · exact am_we ((sfX9_readPage_247 sfX9_readPage_248) _ _ _ hf) ⟨Or.inl rfl, Or.inl rfl, Or.inl rfl, Or.inl rfl, Or.inl rfl, Or.inl rfl, trivial⟩
  refine am_aload_n dX9_readPage_232 rfl rfl ?_
  refine am_gi_ dX9_readPage_233 fl_X9_139 rfl hf (fun x3 _ hf => ?_)
  refine am_aload_n dX9_readPage_236 rfl rfl ?_
  refine am_cVi (As := []) (st := [.int x3, va_rf v0]) lk_X9_readPage_142 rfl (Nat.le_of_ble_eq_true rfl) (by simp only [List.map_cons, List.map_nil, am_c1, am_ci, am_cl]; exact Nat.le_of_ble_eq_true rfl) rfl dX9_readPage_237 rfl hf (fun b5 y4 hf => sfX9_markAhead b5  _ y4 hf) (fun b5 y4 _ _ hf => ?_)
  refine am_icmp_le (tgt := 247) dX9_readPage_240 (by decide) rfl hf (fun hf => ?_) (fun hf => ?_)
  · exact am_we ((sfX9_readPage_247 sfX9_readPage_248) _ _ _ hf) ⟨Or.inl rfl, Or.inl rfl, Or.inl rfl, Or.inl rfl, Or.inl rfl, Or.inl rfl, trivial⟩
  refine am_iconst (v := 1) dX9_readPage_243 rfl rfl ?_
  refine am_goto (pc' := 248) dX9_readPage_244 (by decide) ?_
  exact am_we (sfX9_readPage_248 _ _ _ _ hf) ⟨Or.inl rfl, Or.inl rfl, Or.inl rfl, Or.inl rfl, Or.inl rfl, Or.inl rfl, trivial⟩
set_option maxRecDepth 20000 in
set_option maxHeartbeats 4000000 in
theorem sfX9_readPage_197 {G : am_G}  {k21 : Option Nat → Int32 → Int32 → Int32 → am_H → Option (am_H)} (hk21 : ∀ (v0 : Option Nat) (v1 : Int32) (v2 : Int32) (v3 : Int32) (h : am_H) (y : am_H), k21 v0 v1 v2 v3 h = some y → am_S G miX9_readPage 21 [some (va_rf v0), some (.int v1), some (.int v2), some (.int v3), none, none] [] h none y) (v0 : Option Nat) (v1 : Int32) (v2 : Int32) (v3 : Int32) (h : am_H) (y : am_H) (hf : fX9_readPage_197 k21 v0 v1 v2 v3 h = some y) : am_S G miX9_readPage 197 [some (va_rf v0), some (.int v1), some (.int v2), some (.int v3), none, none] [] h none y := by
  unfold fX9_readPage_197 at hf
  refine am_iload_n dX9_readPage_197 rfl rfl ?_
  refine am_iload_n dX9_readPage_198 rfl rfl ?_
  refine am_if_eq (tgt := 206) dX9_readPage_199 (by decide) rfl hf (fun hf => ?_) (fun hf => ?_)
  · refine am_iconst (v := 0) dX9_readPage_206 rfl rfl ?_
    exact am_we ((sfX9_readPage_207 hk21) _ _ _ _ _ _ _ hf) ⟨Or.inr rfl, Or.inr rfl, Or.inl rfl, Or.inr rfl, Or.inl rfl, Or.inl rfl, trivial⟩
  refine am_iconst (v := 1) dX9_readPage_202 rfl rfl ?_
  refine am_goto (pc' := 207) dX9_readPage_203 (by decide) ?_
  exact am_we ((sfX9_readPage_207 hk21) _ _ _ _ _ _ _ hf) ⟨Or.inr rfl, Or.inr rfl, Or.inl rfl, Or.inr rfl, Or.inl rfl, Or.inl rfl, trivial⟩
set_option maxRecDepth 20000 in
set_option maxHeartbeats 4000000 in
theorem sfX9_readPage_171 {G : am_G}  {k197 : Option Nat → Int32 → Int32 → Int32 → am_H → Option (am_H)} (hk197 : ∀ (v0 : Option Nat) (v1 : Int32) (v2 : Int32) (v3 : Int32) (h : am_H) (y : am_H), k197 v0 v1 v2 v3 h = some y → am_S G miX9_readPage 197 [some (va_rf v0), some (.int v1), some (.int v2), some (.int v3), none, none] [] h none y) (v0 : Option Nat) (v1 : Int32) (v2 : Int32) (s0 : Int32) (h : am_H) (y : am_H) (hf : fX9_readPage_171 k197 v0 v1 v2 s0 h = some y) : am_S G miX9_readPage 171 [some (va_rf v0), some (.int v1), some (.int v2), none, none, none] [.int s0] h none y := by
  unfold fX9_readPage_171 at hf
  refine am_istore (ls' := [some (va_rf v0), some (.int v1), some (.int v2), none, none, some (.int s0)]) dX9_readPage_171 (by decide) rfl rfl ?_
  refine am_iload dX9_readPage_173 rfl rfl ?_
  refine am_iconst (v := -1) dX9_readPage_175 rfl rfl ?_
  refine am_icmp_eq (tgt := 183) dX9_readPage_176 (by decide) rfl hf (fun hf => ?_) (fun hf => ?_)
  · refine am_iconst (v := 0) dX9_readPage_183 rfl rfl ?_
    exact (sfX9_readPage_184 hk197) _ _ _ _ _ _ _ hf
  refine am_iconst (v := 1) dX9_readPage_179 rfl rfl ?_
  refine am_goto (pc' := 184) dX9_readPage_180 (by decide) ?_
  exact (sfX9_readPage_184 hk197) _ _ _ _ _ _ _ hf
set_option maxRecDepth 20000 in
set_option maxHeartbeats 4000000 in
theorem sfX9_readPage_146 {G : am_G}  {k197 : Option Nat → Int32 → Int32 → Int32 → am_H → Option (am_H)} (hk197 : ∀ (v0 : Option Nat) (v1 : Int32) (v2 : Int32) (v3 : Int32) (h : am_H) (y : am_H), k197 v0 v1 v2 v3 h = some y → am_S G miX9_readPage 197 [some (va_rf v0), some (.int v1), some (.int v2), some (.int v3), none, none] [] h none y) (v0 : Option Nat) (v1 : Int32) (v2 : Int32) (v3 : Int32) (s0 : Option Nat) (s1 : Int32) (h : am_H) (y : am_H) (hf : fX9_readPage_146 k197 v0 v1 v2 v3 s0 s1 h = some y) : am_S G miX9_readPage 146 [some (va_rf v0), some (.int v1), some (.int v2), some (.int v3), none, none] [.int s1, va_rf s0] h none y := by
  unfold fX9_readPage_146 at hf
  refine am_pi_ dX9_readPage_146 fl_X9_139 fp_9_42 (fun z => by cases z) rfl hf (fun h1 _ hf => ?_)
  refine am_goto (pc' := 197) dX9_readPage_149 (by decide) ?_
  exact hk197 _ _ _ _ _ _ hf
set_option maxRecDepth 20000 in
set_option maxHeartbeats 4000000 in
theorem sfX9_readPage_62 {G : am_G}  {k197 : Option Nat → Int32 → Int32 → Int32 → am_H → Option (am_H)} (hk197 : ∀ (v0 : Option Nat) (v1 : Int32) (v2 : Int32) (v3 : Int32) (h : am_H) (y : am_H), k197 v0 v1 v2 v3 h = some y → am_S G miX9_readPage 197 [some (va_rf v0), some (.int v1), some (.int v2), some (.int v3), none, none] [] h none y) (v0 : Option Nat) (v1 : Int32) (v2 : Int32) (s0 : Int32) (s1 : Int32) (h : am_H) (y : am_H) (hf : fX9_readPage_62 k197 v0 v1 v2 s0 s1 h = some y) : am_S G miX9_readPage 62 [some (va_rf v0), some (.int v1), some (.int v2), none, none, none] [.int s1, .int s0] h none y := by
  unfold fX9_readPage_62 at hf
  refine am_icmp_ne (tgt := 69) dX9_readPage_62 (by decide) rfl hf (fun hf => ?_) (fun hf => ?_)
  · refine am_iconst (v := 0) dX9_readPage_69 rfl rfl ?_
    exact (sfX9_readPage_70 hk197) _ _ _ _ _ _ hf
  refine am_iconst (v := 1) dX9_readPage_65 rfl rfl ?_
  refine am_goto (pc' := 70) dX9_readPage_66 (by decide) ?_
  exact (sfX9_readPage_70 hk197) _ _ _ _ _ _ hf
set_option maxRecDepth 20000 in
set_option maxHeartbeats 4000000 in
theorem sfX9_readPage_21 {G : am_G}  : ∀ (n : Nat) (v0 : Option Nat) (v1 : Int32) (v2 : Int32) (v3 : Int32) (h : am_H) (y : am_H) (hf : fX9_readPage_21  n v0 v1 v2 v3 h = some y), am_S G miX9_readPage 21 [some (va_rf v0), some (.int v1), some (.int v2), some (.int v3), none, none] [] h none y := by
  intro n
  induction n with
  | zero => intro v0 v1 v2 v3 h y hf; cases hf
  | succ n ih =>
    intro v0 v1 v2 v3 h y hf
    have hf : fX9_readPage_21_b  (fX9_readPage_21  n) v0 v1 v2 v3 h = some y := hf
    unfold fX9_readPage_21_b at hf
    refine am_iload_n dX9_readPage_21 rfl rfl ?_
    refine am_aload_n dX9_readPage_22 rfl rfl ?_
    refine am_gi_ dX9_readPage_23 fl_X9_129 rfl hf (fun x1 _ hf => ?_)
    refine am_icmp_ge (tgt := 212) dX9_readPage_26 (by decide) rfl hf (fun hf => ?_) (fun hf => ?_)
    · exact am_we (sfX9_readPage_212 _ _ _ _ _ hf) ⟨Or.inr rfl, Or.inr rfl, Or.inr rfl, Or.inl rfl, Or.inl rfl, Or.inl rfl, trivial⟩
    refine am_iload_n dX9_readPage_29 rfl rfl ?_
    refine am_if_eq (tgt := 212) dX9_readPage_30 (by decide) rfl hf (fun hf => ?_) (fun hf => ?_)
    · exact am_we (sfX9_readPage_212 _ _ _ _ _ hf) ⟨Or.inr rfl, Or.inr rfl, Or.inr rfl, Or.inl rfl, Or.inl rfl, Or.inl rfl, trivial⟩
    refine am_aload_n dX9_readPage_33 rfl rfl ?_
    refine am_gr_ dX9_readPage_34 fl_X9_71 rfl hf (fun x2 _ hf => ?_)
    refine am_iload_n dX9_readPage_37 rfl rfl ?_
    refine am_bald dX9_readPage_38 rfl hf (fun x3 _ hf => ?_)
    refine am_istore (ls' := [some (va_rf v0), some (.int v1), some (.int v2), some (.int v3), some (.int x3), none]) dX9_readPage_39 (by decide) rfl rfl ?_
    refine am_iload_n dX9_readPage_41 rfl rfl ?_
    refine am_bipush (v := 6) dX9_readPage_42 (by decide) rfl ?_
    refine am_icmp_le (tgt := 86) dX9_readPage_44 (by decide) rfl hf (fun hf => ?_) (fun hf => ?_)
    · refine am_iload dX9_readPage_86 rfl rfl ?_
      refine am_cSi (As := [.int x3]) (st := []) lk_X9_readPage_162 rfl (Nat.le_of_ble_eq_true rfl) (Nat.le_of_ble_eq_true rfl) rfl dX9_readPage_88 rfl hf (fun y4 hf => sfX9_isDigit _ _ y4 hf) (fun y4 _ hf => ?_)
      refine am_if_eq (tgt := 152) dX9_readPage_91 (by decide) rfl hf (fun hf => ?_) (fun hf => ?_)
      · refine am_aload_n dX9_readPage_152 rfl rfl ?_
        refine am_gi_ dX9_readPage_153 fl_X9_139 rfl hf (fun x5 _ hf => ?_)
        refine am_iconst (v := -1) dX9_readPage_156 rfl rfl ?_
        refine am_icmp_ne (tgt := 164) dX9_readPage_157 (by decide) rfl hf (fun hf => ?_) (fun hf => ?_)
        · refine am_aload_n dX9_readPage_164 rfl rfl ?_
          refine am_iload_n dX9_readPage_165 rfl rfl ?_
          refine am_iload dX9_readPage_166 rfl rfl ?_
          refine am_cVi (As := [.int v1, .int x3]) (st := []) lk_X9_readPage_170 rfl (Nat.le_of_ble_eq_true rfl) (Nat.le_of_ble_eq_true rfl) rfl dX9_readPage_168 rfl hf (fun b7 y6 hf => sfX9_behind b7 _ _ _ y6 hf) (fun b7 y6 _ _ hf => ?_)
          exact am_we ((sfX9_readPage_171 (sfX9_readPage_197 ih)) _ _ _ _ _ _ hf) ⟨Or.inr rfl, Or.inr rfl, Or.inr rfl, Or.inl rfl, Or.inl rfl, Or.inl rfl, trivial⟩
        refine am_iconst (v := -1) dX9_readPage_160 rfl rfl ?_
        refine am_goto (pc' := 171) dX9_readPage_161 (by decide) ?_
        exact am_we ((sfX9_readPage_171 (sfX9_readPage_197 ih)) _ _ _ _ _ _ hf) ⟨Or.inr rfl, Or.inr rfl, Or.inr rfl, Or.inl rfl, Or.inl rfl, Or.inl rfl, trivial⟩
      refine am_aload_n dX9_readPage_94 rfl rfl ?_
      refine am_iload_n dX9_readPage_95 rfl rfl ?_
      refine am_iload dX9_readPage_96 rfl rfl ?_
      refine am_bipush (v := 48) dX9_readPage_98 (by decide) rfl ?_
      refine am_isub dX9_readPage_100 rfl ?_
      refine am_cVi (As := [.int v1, .int (x3 - (48 : Int32))]) (st := []) lk_X9_readPage_166 rfl (Nat.le_of_ble_eq_true rfl) (Nat.le_of_ble_eq_true rfl) rfl dX9_readPage_101 rfl hf (fun b9 y8 hf => sfX9_fits b9 _ _ _ y8 hf) (fun b9 y8 _ _ hf => ?_)
      refine am_istore_n (ls' := [some (va_rf v0), some (.int v1), some (.int v2), some (.int y8.1), some (.int x3), none]) dX9_readPage_104 (by decide) rfl rfl ?_
      refine am_aload_n dX9_readPage_105 rfl rfl ?_
      refine am_iload_n dX9_readPage_106 rfl rfl ?_
      refine am_if_ne (tgt := 117) dX9_readPage_107 (by decide) rfl hf (fun hf => ?_) (fun hf => ?_)
      · refine am_aload_n dX9_readPage_117 rfl rfl ?_
        refine am_gi_ dX9_readPage_118 fl_X9_139 rfl hf (fun x10 _ hf => ?_)
        refine am_iconst (v := -1) dX9_readPage_121 rfl rfl ?_
        refine am_icmp_ne (tgt := 133) dX9_readPage_122 (by decide) rfl hf (fun hf => ?_) (fun hf => ?_)
        · refine am_bipush (v := 10) dX9_readPage_133 (by decide) rfl ?_
          refine am_aload_n dX9_readPage_135 rfl rfl ?_
          refine am_gi_ dX9_readPage_136 fl_X9_139 rfl hf (fun x11 _ hf => ?_)
          refine am_imul dX9_readPage_139 rfl ?_
          refine am_iload dX9_readPage_140 rfl rfl ?_
          refine am_iadd dX9_readPage_142 rfl ?_
          refine am_bipush (v := 48) dX9_readPage_143 (by decide) rfl ?_
          refine am_isub dX9_readPage_145 rfl ?_
          exact am_we ((sfX9_readPage_146 (sfX9_readPage_197 ih)) _ _ _ _ _ _ _ _ hf) ⟨Or.inr rfl, Or.inr rfl, Or.inr rfl, Or.inr rfl, Or.inl rfl, Or.inl rfl, trivial⟩
        refine am_iload dX9_readPage_125 rfl rfl ?_
        refine am_bipush (v := 48) dX9_readPage_127 (by decide) rfl ?_
        refine am_isub dX9_readPage_129 rfl ?_
        refine am_goto (pc' := 146) dX9_readPage_130 (by decide) ?_
        exact am_we ((sfX9_readPage_146 (sfX9_readPage_197 ih)) _ _ _ _ _ _ _ _ hf) ⟨Or.inr rfl, Or.inr rfl, Or.inr rfl, Or.inr rfl, Or.inl rfl, Or.inl rfl, trivial⟩
      refine am_aload_n dX9_readPage_110 rfl rfl ?_
      refine am_gi_ dX9_readPage_111 fl_X9_139 rfl hf (fun x12 _ hf => ?_)
      refine am_goto (pc' := 146) dX9_readPage_114 (by decide) ?_
      exact am_we ((sfX9_readPage_146 (sfX9_readPage_197 ih)) _ _ _ _ _ _ _ _ hf) ⟨Or.inr rfl, Or.inr rfl, Or.inr rfl, Or.inr rfl, Or.inl rfl, Or.inl rfl, trivial⟩
    refine am_iload dX9_readPage_47 rfl rfl ?_
    refine am_iload_n dX9_readPage_49 rfl rfl ?_
    refine am_bipush (v := 7) dX9_readPage_50 (by decide) rfl ?_
    refine am_icmp_ne (tgt := 60) dX9_readPage_52 (by decide) rfl hf (fun hf => ?_) (fun hf => ?_)
    · refine am_bipush (v := 109) dX9_readPage_60 (by decide) rfl ?_
      exact am_we ((sfX9_readPage_62 (sfX9_readPage_197 ih)) _ _ _ _ _ _ _ hf) ⟨Or.inr rfl, Or.inr rfl, Or.inr rfl, Or.inl rfl, Or.inl rfl, Or.inl rfl, trivial⟩
    refine am_bipush (v := 115) dX9_readPage_55 (by decide) rfl ?_
    refine am_goto (pc' := 62) dX9_readPage_57 (by decide) ?_
    exact am_we ((sfX9_readPage_62 (sfX9_readPage_197 ih)) _ _ _ _ _ _ _ hf) ⟨Or.inr rfl, Or.inr rfl, Or.inr rfl, Or.inl rfl, Or.inl rfl, Or.inl rfl, trivial⟩
set_option maxRecDepth 20000 in
set_option maxHeartbeats 4000000 in
theorem sfX9_readPage {G : am_G}  (v0 : Nat) (h : am_H) (y : am_H) (hf : fX9_readPage v0 h = some y) : am_Cn G miX9_readPage [va_rf (some v0)] h none y := by
  refine am_beg (ls := [some (va_rf (some v0)), none, none, none, none, none]) (by simp only [am_en, am_e1_r, am_e1_i, am_e1_l, am_e1_n]; rfl) ?_
  unfold fX9_readPage at hf
  refine am_aload_n dX9_readPage_0 rfl rfl ?_
  refine am_iconst (v := 0) dX9_readPage_1 rfl rfl ?_
  refine am_pi_ dX9_readPage_2 fl_X9_150 fp_9_33 (fun z => by cases z) rfl hf (fun h1 _ hf => ?_)
  refine am_aload_n dX9_readPage_5 rfl rfl ?_
  refine am_iconst (v := 0) dX9_readPage_6 rfl rfl ?_
  refine am_pi_ dX9_readPage_7 fl_X9_136 fp_9_40 (fun z => by cases z) rfl hf (fun h2 _ hf => ?_)
  refine am_aload_n dX9_readPage_10 rfl rfl ?_
  refine am_iconst (v := -1) dX9_readPage_11 rfl rfl ?_
  refine am_pi_ dX9_readPage_12 fl_X9_139 fp_9_42 (fun z => by cases z) rfl hf (fun h3 _ hf => ?_)
  refine am_iconst (v := 0) dX9_readPage_15 rfl rfl ?_
  refine am_istore_n (ls' := [some (va_rf (some v0)), some (.int (0 : Int32)), none, none, none, none]) dX9_readPage_16 (by decide) (am_s1_r (j := 0) rfl rfl) rfl ?_
  refine am_iconst (v := 0) dX9_readPage_17 rfl rfl ?_
  refine am_istore_n (ls' := [some (va_rf (some v0)), some (.int (0 : Int32)), some (.int (0 : Int32)), none, none, none]) dX9_readPage_18 (by decide) rfl rfl ?_
  refine am_iconst (v := 1) dX9_readPage_19 rfl rfl ?_
  refine am_istore_n (ls' := [some (va_rf (some v0)), some (.int (0 : Int32)), some (.int (0 : Int32)), some (.int (1 : Int32)), none, none]) dX9_readPage_20 (by decide) rfl rfl ?_
  exact (sfX9_readPage_21 _) _ _ _ _ _ _ hf
set_option maxRecDepth 20000 in
set_option maxHeartbeats 4000000 in
theorem sfX9_fault {G : am_G}  (v0 : Nat) (h : am_H) (y : Int32 × am_H) (hf : fX9_fault v0 h = some y) : am_Cn G miX9_fault [va_rf (some v0)] h (some (.int y.1)) y.2 := by
  refine am_beg (ls := [some (va_rf (some v0))]) (by simp only [am_en, am_e1_r, am_e1_i, am_e1_l, am_e1_n]; rfl) ?_
  unfold fX9_fault at hf
  refine am_aload_n dX9_fault_0 rfl rfl ?_
  refine am_cVv (As := []) (st := []) lk_X9_fault_185 rfl (Nat.le_of_ble_eq_true rfl) (Nat.le_of_ble_eq_true rfl) rfl dX9_fault_1 rfl hf (fun b2 y1 hf => sfX9_readPage b2  _ y1 hf) (fun b2 y1 _ _ hf => ?_)
  refine am_aload_n dX9_fault_4 rfl rfl ?_
  refine am_gi_ dX9_fault_5 fl_X9_178 rfl hf (fun x3 _ hf => ?_)
  exact am_iret rfl dX9_fault_8 hf
set_option maxRecDepth 20000 in
set_option maxHeartbeats 4000000 in
theorem sfX0_copyFrom_103 {G : am_G}  : ∀ (n : Nat) (v0 : Option Nat) (v1 : Option Nat) (v2 : Int32) (h : am_H) (y : am_H) (hf : fX0_copyFrom_103  n v0 v1 v2 h = some y), am_S G miX0_copyFrom 103 [some (va_rf v0), some (va_rf v1), some (.int v2)] [] h none y := by
  intro n
  induction n with
  | zero => intro v0 v1 v2 h y hf; cases hf
  | succ n ih =>
    intro v0 v1 v2 h y hf
    have hf : fX0_copyFrom_103_b  (fX0_copyFrom_103  n) v0 v1 v2 h = some y := hf
    unfold fX0_copyFrom_103_b at hf
    refine am_iload_n dX0_copyFrom_103 rfl rfl ?_
    refine am_bipush (v := 12) dX0_copyFrom_104 (by decide) rfl ?_
    refine am_icmp_ge (tgt := 127) dX0_copyFrom_106 (by decide) rfl hf (fun hf => ?_) (fun hf => ?_)
    · exact am_vret rfl dX0_copyFrom_127 hf
    refine am_aload_n dX0_copyFrom_109 rfl rfl ?_
    refine am_gr_ dX0_copyFrom_110 fl_X0_24 rfl hf (fun x1 _ hf => ?_)
    refine am_iload_n dX0_copyFrom_113 rfl rfl ?_
    refine am_aload_n dX0_copyFrom_114 rfl rfl ?_
    refine am_gr_ dX0_copyFrom_115 fl_X0_24 rfl hf (fun x2 _ hf => ?_)
    refine am_iload_n dX0_copyFrom_118 rfl rfl ?_
    refine am_iald dX0_copyFrom_119 rfl hf (fun x3 _ hf => ?_)
    refine am_iast dX0_copyFrom_120 rfl hf (fun h4 _ hf => ?_)
    refine am_iinc (ls' := [some (va_rf v0), some (va_rf v1), some (.int (v2 + (1 : Int32)))]) dX0_copyFrom_121 rfl rfl (by decide) (am_s1_r (j := 1) rfl rfl) rfl ?_
    refine am_goto (pc' := 103) dX0_copyFrom_124 (by decide) ?_
    exact ih _ _ _ _ _ hf
set_option maxRecDepth 20000 in
set_option maxHeartbeats 4000000 in
theorem sfX0_copyFrom_10 {G : am_G}  : ∀ (n : Nat) (v0 : Option Nat) (v1 : Option Nat) (v2 : Int32) (h : am_H) (y : am_H) (hf : fX0_copyFrom_10  n v0 v1 v2 h = some y), am_S G miX0_copyFrom 10 [some (va_rf v0), some (va_rf v1), some (.int v2)] [] h none y := by
  intro n
  induction n with
  | zero => intro v0 v1 v2 h y hf; cases hf
  | succ n ih =>
    intro v0 v1 v2 h y hf
    have hf : fX0_copyFrom_10_b  (fX0_copyFrom_10  n) v0 v1 v2 h = some y := hf
    unfold fX0_copyFrom_10_b at hf
    refine am_iload_n dX0_copyFrom_10 rfl rfl ?_
    refine am_iconst (v := 3) dX0_copyFrom_11 rfl rfl ?_
    refine am_icmp_ge (tgt := 69) dX0_copyFrom_12 (by decide) rfl hf (fun hf => ?_) (fun hf => ?_)
    · refine am_aload_n dX0_copyFrom_69 rfl rfl ?_
      refine am_aload_n dX0_copyFrom_70 rfl rfl ?_
      refine am_gi_ dX0_copyFrom_71 fl_X0_31 rfl hf (fun x1 _ hf => ?_)
      refine am_pi_ dX0_copyFrom_74 fl_X0_31 fp_0_5 (fun z => by cases z) rfl hf (fun h2 _ hf => ?_)
      refine am_aload_n dX0_copyFrom_77 rfl rfl ?_
      refine am_aload_n dX0_copyFrom_78 rfl rfl ?_
      refine am_gi_ dX0_copyFrom_79 fl_X0_34 rfl hf (fun x3 _ hf => ?_)
      refine am_pi_ dX0_copyFrom_82 fl_X0_34 fp_0_6 (fun z => by cases z) rfl hf (fun h4 _ hf => ?_)
      refine am_aload_n dX0_copyFrom_85 rfl rfl ?_
      refine am_aload_n dX0_copyFrom_86 rfl rfl ?_
      refine am_gi_ dX0_copyFrom_87 fl_X0_37 rfl hf (fun x5 _ hf => ?_)
      refine am_pi_ dX0_copyFrom_90 fl_X0_37 fp_0_7 (fun z => by cases z) rfl hf (fun h6 _ hf => ?_)
      refine am_aload_n dX0_copyFrom_93 rfl rfl ?_
      refine am_aload_n dX0_copyFrom_94 rfl rfl ?_
      refine am_gi_ dX0_copyFrom_95 fl_X0_40 rfl hf (fun x7 _ hf => ?_)
      refine am_pi_ dX0_copyFrom_98 fl_X0_40 fp_0_8 (fun z => by cases z) rfl hf (fun h8 _ hf => ?_)
      refine am_iconst (v := 0) dX0_copyFrom_101 rfl rfl ?_
      refine am_istore_n (ls' := [some (va_rf v0), some (va_rf v1), some (.int (0 : Int32))]) dX0_copyFrom_102 (by decide) (am_s1_r (j := 1) rfl rfl) rfl ?_
      exact (sfX0_copyFrom_103 _) _ _ _ _ _ hf
    refine am_aload_n dX0_copyFrom_15 rfl rfl ?_
    refine am_gr_ dX0_copyFrom_16 fl_X0_9 rfl hf (fun x9 _ hf => ?_)
    refine am_iload_n dX0_copyFrom_19 rfl rfl ?_
    refine am_aload_n dX0_copyFrom_20 rfl rfl ?_
    refine am_gr_ dX0_copyFrom_21 fl_X0_9 rfl hf (fun x10 _ hf => ?_)
    refine am_iload_n dX0_copyFrom_24 rfl rfl ?_
    refine am_iald dX0_copyFrom_25 rfl hf (fun x11 _ hf => ?_)
    refine am_iast dX0_copyFrom_26 rfl hf (fun h12 _ hf => ?_)
    refine am_aload_n dX0_copyFrom_27 rfl rfl ?_
    refine am_gr_ dX0_copyFrom_28 fl_X0_15 rfl hf (fun x13 _ hf => ?_)
    refine am_iload_n dX0_copyFrom_31 rfl rfl ?_
    refine am_aload_n dX0_copyFrom_32 rfl rfl ?_
    refine am_gr_ dX0_copyFrom_33 fl_X0_15 rfl hf (fun x14 _ hf => ?_)
    refine am_iload_n dX0_copyFrom_36 rfl rfl ?_
    refine am_iald dX0_copyFrom_37 rfl hf (fun x15 _ hf => ?_)
    refine am_iast dX0_copyFrom_38 rfl hf (fun h16 _ hf => ?_)
    refine am_aload_n dX0_copyFrom_39 rfl rfl ?_
    refine am_gr_ dX0_copyFrom_40 fl_X0_18 rfl hf (fun x17 _ hf => ?_)
    refine am_iload_n dX0_copyFrom_43 rfl rfl ?_
    refine am_aload_n dX0_copyFrom_44 rfl rfl ?_
    refine am_gr_ dX0_copyFrom_45 fl_X0_18 rfl hf (fun x18 _ hf => ?_)
    refine am_iload_n dX0_copyFrom_48 rfl rfl ?_
    refine am_iald dX0_copyFrom_49 rfl hf (fun x19 _ hf => ?_)
    refine am_iast dX0_copyFrom_50 rfl hf (fun h20 _ hf => ?_)
    refine am_aload_n dX0_copyFrom_51 rfl rfl ?_
    refine am_gr_ dX0_copyFrom_52 fl_X0_21 rfl hf (fun x21 _ hf => ?_)
    refine am_iload_n dX0_copyFrom_55 rfl rfl ?_
    refine am_aload_n dX0_copyFrom_56 rfl rfl ?_
    refine am_gr_ dX0_copyFrom_57 fl_X0_21 rfl hf (fun x22 _ hf => ?_)
    refine am_iload_n dX0_copyFrom_60 rfl rfl ?_
    refine am_iald dX0_copyFrom_61 rfl hf (fun x23 _ hf => ?_)
    refine am_iast dX0_copyFrom_62 rfl hf (fun h24 _ hf => ?_)
    refine am_iinc (ls' := [some (va_rf v0), some (va_rf v1), some (.int (v2 + (1 : Int32)))]) dX0_copyFrom_63 rfl rfl (by decide) (am_s1_r (j := 1) rfl rfl) rfl ?_
    refine am_goto (pc' := 10) dX0_copyFrom_66 (by decide) ?_
    exact ih _ _ _ _ _ hf
set_option maxRecDepth 20000 in
set_option maxHeartbeats 4000000 in
theorem sfX0_copyFrom {G : am_G}  (v0 : Nat) (v1 : Option Nat) (h : am_H) (y : am_H) (hf : fX0_copyFrom v0 v1 h = some y) : am_Cn G miX0_copyFrom [va_rf (some v0), va_rf v1] h none y := by
  refine am_beg (ls := [some (va_rf (some v0)), some (va_rf v1), none]) (by simp only [am_en, am_e1_r, am_e1_i, am_e1_l, am_e1_n]; rfl) ?_
  unfold fX0_copyFrom at hf
  refine am_aload_n dX0_copyFrom_0 rfl rfl ?_
  refine am_aload_n dX0_copyFrom_1 rfl rfl ?_
  refine am_gi_ dX0_copyFrom_2 fl_X0_27 rfl hf (fun x1 _ hf => ?_)
  refine am_pi_ dX0_copyFrom_5 fl_X0_27 fp_0_0 (fun z => by cases z) rfl hf (fun h2 _ hf => ?_)
  refine am_iconst (v := 0) dX0_copyFrom_8 rfl rfl ?_
  refine am_istore_n (ls' := [some (va_rf (some v0)), some (va_rf v1), some (.int (0 : Int32))]) dX0_copyFrom_9 (by decide) (am_s1_r (j := 1) rfl rfl) rfl ?_
  exact (sfX0_copyFrom_10 _) _ _ _ _ _ hf
set_option maxRecDepth 20000 in
set_option maxHeartbeats 4000000 in
theorem sfX8_clock {G : am_G}  (v0 : Nat) (h : am_H) (y : Int32 × am_H) (hf : fX8_clock v0 h = some y) : am_Cn G miX8_clock [va_rf (some v0)] h (some (.int y.1)) y.2 := by
  refine am_beg (ls := [some (va_rf (some v0)), none]) (by simp only [am_en, am_e1_r, am_e1_i, am_e1_l, am_e1_n]; rfl) ?_
  unfold fX8_clock at hf
  refine am_aload_n dX8_clock_0 rfl rfl ?_
  refine am_gr_ dX8_clock_1 fl_X8_30 rfl hf (fun x1 _ hf => ?_)
  refine am_aload_n dX8_clock_4 rfl rfl ?_
  refine am_gr_ dX8_clock_5 fl_X8_45 rfl hf (fun x2 _ hf => ?_)
  refine am_cVi (As := [va_rf x2]) (st := []) lk_X8_clock_103 rfl (by simp only [am_e1_r, am_e1_i, am_e1_l, am_e1_n]; exact Nat.le_of_ble_eq_true rfl) (Nat.le_of_ble_eq_true rfl) rfl dX8_clock_8 rfl hf (fun b4 y3 hf => sfX3_readClock b4 _ _ y3 hf) (fun b4 y3 _ _ hf => ?_)
  refine am_if_ne (tgt := 17) dX8_clock_11 (by decide) rfl hf (fun hf => ?_) (fun hf => ?_)
  · refine am_aload_n dX8_clock_17 rfl rfl ?_
    refine am_gi_ dX8_clock_18 fl_X8_110 rfl hf (fun x5 _ hf => ?_)
    refine am_iconst (v := 4) dX8_clock_21 rfl rfl ?_
    refine am_icmp_lt (tgt := 28) dX8_clock_22 (by decide) rfl hf (fun hf => ?_) (fun hf => ?_)
    · refine am_new_ nw_X8_9 dX8_clock_28 rfl hf (fun y6 _ hf => ?_)
      refine am_dup dX8_clock_31 (am_c1 _) rfl ?_
      refine am_ini (As := []) (st := [va_rf (some y6.1)]) (b := y6.1) lk_X8_clock_44 rfl (Nat.le_of_ble_eq_true rfl) (by simp only [List.map_cons, List.map_nil, am_c1, am_ci, am_cl]; exact Nat.le_of_ble_eq_true rfl) rfl dX8_clock_32 rfl hf (fun y7 hf => sfX0_init _  _ y7 hf) (fun y7 _ hf => ?_)
      refine am_astore_n (ls' := [some (va_rf (some v0)), some (va_rf (some y6.1))]) dX8_clock_35 (by decide) (am_s1_r (j := 0) rfl rfl) rfl ?_
      refine am_aload_n dX8_clock_36 rfl rfl ?_
      refine am_aload_n dX8_clock_37 rfl rfl ?_
      refine am_gr_ dX8_clock_38 fl_X8_45 rfl hf (fun x8 _ hf => ?_)
      refine am_cVv (As := [va_rf x8]) (st := []) lk_X8_clock_113 rfl (by simp only [am_e1_r, am_e1_i, am_e1_l, am_e1_n]; exact Nat.le_of_ble_eq_true rfl) (Nat.le_of_ble_eq_true rfl) rfl dX8_clock_41 rfl hf (fun b10 y9 hf => sfX0_copyFrom b10 _ _ y9 hf) (fun b10 y9 _ _ hf => ?_)
      refine am_aload_n dX8_clock_44 rfl rfl ?_
      refine am_gr_ dX8_clock_45 fl_X8_11 rfl hf (fun x11 _ hf => ?_)
      refine am_aload_n dX8_clock_48 rfl rfl ?_
      refine am_gi_ dX8_clock_49 fl_X8_110 rfl hf (fun x12 _ hf => ?_)
      refine am_aload_n dX8_clock_52 rfl rfl ?_
      refine am_asr_ (t := 4) rfl rfl (by decide) dX8_clock_53 rfl hf (fun h13 _ hf => ?_)
      refine am_aload_n dX8_clock_54 rfl rfl ?_
      refine am_dup dX8_clock_55 (am_c1 _) rfl ?_
      refine am_gi_ dX8_clock_56 fl_X8_110 rfl hf (fun x14 _ hf => ?_)
      refine am_iconst (v := 1) dX8_clock_59 rfl rfl ?_
      refine am_iadd dX8_clock_60 rfl ?_
      refine am_pi_ dX8_clock_61 fl_X8_110 fp_8_3 (fun z => by cases z) rfl hf (fun h15 _ hf => ?_)
      refine am_aload_n dX8_clock_64 rfl rfl ?_
      refine am_gr_ dX8_clock_65 fl_X8_30 rfl hf (fun x16 _ hf => ?_)
      refine am_iconst (v := 0) dX8_clock_68 rfl rfl ?_
      refine am_pi_ dX8_clock_69 fl_X8_91 fp_3_1 (fun z => by cases z) rfl hf (fun h17 _ hf => ?_)
      refine am_aload_n dX8_clock_72 rfl rfl ?_
      refine am_gi_ dX8_clock_73 fl_X8_110 rfl hf (fun x18 _ hf => ?_)
      refine am_iconst (v := 1) dX8_clock_76 rfl rfl ?_
      refine am_isub dX8_clock_77 rfl ?_
      exact am_iret rfl dX8_clock_78 hf
    refine am_bipush (v := -104) dX8_clock_25 (by decide) rfl ?_
    exact am_iret rfl dX8_clock_27 hf
  refine am_bipush (v := -103) dX8_clock_14 (by decide) rfl ?_
  exact am_iret rfl dX8_clock_16 hf
set_option maxRecDepth 20000 in
set_option maxHeartbeats 4000000 in
theorem sfX9_clock_171 {G : am_G}  : ∀ (n : Nat) (v0 : Option Nat) (v1 : Int32) (h : am_H) (y : Int32 × am_H) (hf : fX9_clock_171  n v0 v1 h = some y), am_S G miX9_clock 171 [some (va_rf v0), some (.int v1)] [] h (some (.int y.1)) y.2 := by
  intro n
  induction n with
  | zero => intro v0 v1 h y hf; cases hf
  | succ n ih =>
    intro v0 v1 h y hf
    have hf : fX9_clock_171_b  (fX9_clock_171  n) v0 v1 h = some y := hf
    unfold fX9_clock_171_b at hf
    refine am_iload_n dX9_clock_171 rfl rfl ?_
    refine am_aload_n dX9_clock_172 rfl rfl ?_
    refine am_gi_ dX9_clock_173 fl_X9_136 rfl hf (fun x1 _ hf => ?_)
    refine am_icmp_ge (tgt := 205) dX9_clock_176 (by decide) rfl hf (fun hf => ?_) (fun hf => ?_)
    · refine am_aload_n dX9_clock_205 rfl rfl ?_
      refine am_dup dX9_clock_206 (am_c1 _) rfl ?_
      refine am_gi_ dX9_clock_207 fl_X9_188 rfl hf (fun x2 _ hf => ?_)
      refine am_iconst (v := 1) dX9_clock_210 rfl rfl ?_
      refine am_iadd dX9_clock_211 rfl ?_
      refine am_pi_ dX9_clock_212 fl_X9_188 fp_9_0 (fun z => by cases z) rfl hf (fun h3 _ hf => ?_)
      refine am_aload_n dX9_clock_215 rfl rfl ?_
      refine am_iconst (v := 0) dX9_clock_216 rfl rfl ?_
      refine am_pi_ dX9_clock_217 fl_X9_129 fp_9_24 (fun z => by cases z) rfl hf (fun h4 _ hf => ?_)
      refine am_aload_n dX9_clock_220 rfl rfl ?_
      refine am_gi_ dX9_clock_221 fl_X9_188 rfl hf (fun x5 _ hf => ?_)
      refine am_iconst (v := 1) dX9_clock_224 rfl rfl ?_
      refine am_isub dX9_clock_225 rfl ?_
      exact am_iret rfl dX9_clock_226 hf
    refine am_aload_n dX9_clock_179 rfl rfl ?_
    refine am_gr_ dX9_clock_180 fl_X9_34 rfl hf (fun x6 _ hf => ?_)
    refine am_bipush (v := 12) dX9_clock_183 (by decide) rfl ?_
    refine am_aload_n dX9_clock_185 rfl rfl ?_
    refine am_gi_ dX9_clock_186 fl_X9_188 rfl hf (fun x7 _ hf => ?_)
    refine am_imul dX9_clock_189 rfl ?_
    refine am_iload_n dX9_clock_190 rfl rfl ?_
    refine am_iadd dX9_clock_191 rfl ?_
    refine am_aload_n dX9_clock_192 rfl rfl ?_
    refine am_gr_ dX9_clock_193 fl_X9_93 rfl hf (fun x8 _ hf => ?_)
    refine am_iload_n dX9_clock_196 rfl rfl ?_
    refine am_iald dX9_clock_197 rfl hf (fun x9 _ hf => ?_)
    refine am_iast dX9_clock_198 rfl hf (fun h10 _ hf => ?_)
    refine am_iinc (ls' := [some (va_rf v0), some (.int (v1 + (1 : Int32)))]) dX9_clock_199 rfl rfl (by decide) (am_s1_r (j := 0) rfl rfl) rfl ?_
    refine am_goto (pc' := 171) dX9_clock_202 (by decide) ?_
    exact ih _ _ _ _ hf
set_option maxRecDepth 20000 in
set_option maxHeartbeats 4000000 in
theorem sfX9_clock_46 {G : am_G}  : ∀ (n : Nat) (v0 : Option Nat) (v1 : Int32) (h : am_H) (y : Int32 × am_H) (hf : fX9_clock_46  n v0 v1 h = some y), am_S G miX9_clock 46 [some (va_rf v0), some (.int v1)] [] h (some (.int y.1)) y.2 := by
  intro n
  induction n with
  | zero => intro v0 v1 h y hf; cases hf
  | succ n ih =>
    intro v0 v1 h y hf
    have hf : fX9_clock_46_b  (fX9_clock_46  n) v0 v1 h = some y := hf
    unfold fX9_clock_46_b at hf
    refine am_iload_n dX9_clock_46 rfl rfl ?_
    refine am_aload_n dX9_clock_47 rfl rfl ?_
    refine am_gi_ dX9_clock_48 fl_X9_150 rfl hf (fun x1 _ hf => ?_)
    refine am_icmp_ge (tgt := 117) dX9_clock_51 (by decide) rfl hf (fun hf => ?_) (fun hf => ?_)
    · refine am_aload_n dX9_clock_117 rfl rfl ?_
      refine am_gr_ dX9_clock_118 fl_X9_22 rfl hf (fun x2 _ hf => ?_)
      refine am_aload_n dX9_clock_121 rfl rfl ?_
      refine am_gi_ dX9_clock_122 fl_X9_188 rfl hf (fun x3 _ hf => ?_)
      refine am_aload_n dX9_clock_125 rfl rfl ?_
      refine am_gi_ dX9_clock_126 fl_X9_153 rfl hf (fun x4 _ hf => ?_)
      refine am_iast dX9_clock_129 rfl hf (fun h5 _ hf => ?_)
      refine am_aload_n dX9_clock_130 rfl rfl ?_
      refine am_gr_ dX9_clock_131 fl_X9_25 rfl hf (fun x6 _ hf => ?_)
      refine am_aload_n dX9_clock_134 rfl rfl ?_
      refine am_gi_ dX9_clock_135 fl_X9_188 rfl hf (fun x7 _ hf => ?_)
      refine am_aload_n dX9_clock_138 rfl rfl ?_
      refine am_gi_ dX9_clock_139 fl_X9_156 rfl hf (fun x8 _ hf => ?_)
      refine am_iast dX9_clock_142 rfl hf (fun h9 _ hf => ?_)
      refine am_aload_n dX9_clock_143 rfl rfl ?_
      refine am_gr_ dX9_clock_144 fl_X9_28 rfl hf (fun x10 _ hf => ?_)
      refine am_aload_n dX9_clock_147 rfl rfl ?_
      refine am_gi_ dX9_clock_148 fl_X9_188 rfl hf (fun x11 _ hf => ?_)
      refine am_aload_n dX9_clock_151 rfl rfl ?_
      refine am_gi_ dX9_clock_152 fl_X9_159 rfl hf (fun x12 _ hf => ?_)
      refine am_iast dX9_clock_155 rfl hf (fun h13 _ hf => ?_)
      refine am_aload_n dX9_clock_156 rfl rfl ?_
      refine am_gr_ dX9_clock_157 fl_X9_31 rfl hf (fun x14 _ hf => ?_)
      refine am_aload_n dX9_clock_160 rfl rfl ?_
      refine am_gi_ dX9_clock_161 fl_X9_188 rfl hf (fun x15 _ hf => ?_)
      refine am_aload_n dX9_clock_164 rfl rfl ?_
      refine am_gi_ dX9_clock_165 fl_X9_136 rfl hf (fun x16 _ hf => ?_)
      refine am_iast dX9_clock_168 rfl hf (fun h17 _ hf => ?_)
      refine am_iconst (v := 0) dX9_clock_169 rfl rfl ?_
      refine am_istore_n (ls' := [some (va_rf v0), some (.int (0 : Int32))]) dX9_clock_170 (by decide) (am_s1_r (j := 0) rfl rfl) rfl ?_
      exact (sfX9_clock_171 _) _ _ _ _ hf
    refine am_aload_n dX9_clock_54 rfl rfl ?_
    refine am_gr_ dX9_clock_55 fl_X9_13 rfl hf (fun x18 _ hf => ?_)
    refine am_iconst (v := 3) dX9_clock_58 rfl rfl ?_
    refine am_aload_n dX9_clock_59 rfl rfl ?_
    refine am_gi_ dX9_clock_60 fl_X9_188 rfl hf (fun x19 _ hf => ?_)
    refine am_imul dX9_clock_63 rfl ?_
    refine am_iload_n dX9_clock_64 rfl rfl ?_
    refine am_iadd dX9_clock_65 rfl ?_
    refine am_aload_n dX9_clock_66 rfl rfl ?_
    refine am_gr_ dX9_clock_67 fl_X9_84 rfl hf (fun x20 _ hf => ?_)
    refine am_iload_n dX9_clock_70 rfl rfl ?_
    refine am_iald dX9_clock_71 rfl hf (fun x21 _ hf => ?_)
    refine am_iast dX9_clock_72 rfl hf (fun h22 _ hf => ?_)
    refine am_aload_n dX9_clock_73 rfl rfl ?_
    refine am_gr_ dX9_clock_74 fl_X9_16 rfl hf (fun x23 _ hf => ?_)
    refine am_iconst (v := 3) dX9_clock_77 rfl rfl ?_
    refine am_aload_n dX9_clock_78 rfl rfl ?_
    refine am_gi_ dX9_clock_79 fl_X9_188 rfl hf (fun x24 _ hf => ?_)
    refine am_imul dX9_clock_82 rfl ?_
    refine am_iload_n dX9_clock_83 rfl rfl ?_
    refine am_iadd dX9_clock_84 rfl ?_
    refine am_aload_n dX9_clock_85 rfl rfl ?_
    refine am_gr_ dX9_clock_86 fl_X9_87 rfl hf (fun x25 _ hf => ?_)
    refine am_iload_n dX9_clock_89 rfl rfl ?_
    refine am_iald dX9_clock_90 rfl hf (fun x26 _ hf => ?_)
    refine am_iast dX9_clock_91 rfl hf (fun h27 _ hf => ?_)
    refine am_aload_n dX9_clock_92 rfl rfl ?_
    refine am_gr_ dX9_clock_93 fl_X9_19 rfl hf (fun x28 _ hf => ?_)
    refine am_iconst (v := 3) dX9_clock_96 rfl rfl ?_
    refine am_aload_n dX9_clock_97 rfl rfl ?_
    refine am_gi_ dX9_clock_98 fl_X9_188 rfl hf (fun x29 _ hf => ?_)
    refine am_imul dX9_clock_101 rfl ?_
    refine am_iload_n dX9_clock_102 rfl rfl ?_
    refine am_iadd dX9_clock_103 rfl ?_
    refine am_aload_n dX9_clock_104 rfl rfl ?_
    refine am_gr_ dX9_clock_105 fl_X9_90 rfl hf (fun x30 _ hf => ?_)
    refine am_iload_n dX9_clock_108 rfl rfl ?_
    refine am_iald dX9_clock_109 rfl hf (fun x31 _ hf => ?_)
    refine am_iast dX9_clock_110 rfl hf (fun h32 _ hf => ?_)
    refine am_iinc (ls' := [some (va_rf v0), some (.int (v1 + (1 : Int32)))]) dX9_clock_111 rfl rfl (by decide) (am_s1_r (j := 0) rfl rfl) rfl ?_
    refine am_goto (pc' := 46) dX9_clock_114 (by decide) ?_
    exact ih _ _ _ _ hf
set_option maxRecDepth 20000 in
set_option maxHeartbeats 4000000 in
theorem sfX9_clock {G : am_G}  (v0 : Nat) (h : am_H) (y : Int32 × am_H) (hf : fX9_clock v0 h = some y) : am_Cn G miX9_clock [va_rf (some v0)] h (some (.int y.1)) y.2 := by
  refine am_beg (ls := [some (va_rf (some v0)), none]) (by simp only [am_en, am_e1_r, am_e1_i, am_e1_l, am_e1_n]; rfl) ?_
  unfold fX9_clock at hf
  refine am_aload_n dX9_clock_0 rfl rfl ?_
  refine am_cVv (As := []) (st := []) lk_X9_clock_185 rfl (Nat.le_of_ble_eq_true rfl) (Nat.le_of_ble_eq_true rfl) rfl dX9_clock_1 rfl hf (fun b2 y1 hf => sfX9_readPage b2  _ y1 hf) (fun b2 y1 _ _ hf => ?_)
  refine am_aload_n dX9_clock_4 rfl rfl ?_
  refine am_gi_ dX9_clock_5 fl_X9_181 rfl hf (fun x3 _ hf => ?_)
  refine am_if_ne (tgt := 14) dX9_clock_8 (by decide) rfl hf (fun hf => ?_) (fun hf => ?_)
  · refine am_aload_n dX9_clock_14 rfl rfl ?_
    refine am_gi_ dX9_clock_15 fl_X9_188 rfl hf (fun x4 _ hf => ?_)
    refine am_iconst (v := 4) dX9_clock_18 rfl rfl ?_
    refine am_icmp_ne (tgt := 25) dX9_clock_19 (by decide) rfl hf (fun hf => ?_) (fun hf => ?_)
    · refine am_aload_n dX9_clock_25 rfl rfl ?_
      refine am_bipush (v := 6) dX9_clock_26 (by decide) rfl ?_
      refine am_cVv (As := [.int (6 : Int32)]) (st := []) lk_X9_clock_174 rfl (Nat.le_of_ble_eq_true rfl) (Nat.le_of_ble_eq_true rfl) rfl dX9_clock_28 rfl hf (fun b6 y5 hf => sfX9_keep b6 _ _ y5 hf) (fun b6 y5 _ _ hf => ?_)
      refine am_aload_n dX9_clock_31 rfl rfl ?_
      refine am_gr_ dX9_clock_32 fl_X9_7 rfl hf (fun x7 _ hf => ?_)
      refine am_aload_n dX9_clock_35 rfl rfl ?_
      refine am_gi_ dX9_clock_36 fl_X9_188 rfl hf (fun x8 _ hf => ?_)
      refine am_aload_n dX9_clock_39 rfl rfl ?_
      refine am_gi_ dX9_clock_40 fl_X9_150 rfl hf (fun x9 _ hf => ?_)
      refine am_iast dX9_clock_43 rfl hf (fun h10 _ hf => ?_)
      refine am_iconst (v := 0) dX9_clock_44 rfl rfl ?_
      refine am_istore_n (ls' := [some (va_rf (some v0)), some (.int (0 : Int32))]) dX9_clock_45 (by decide) (am_s1_r (j := 0) rfl rfl) rfl ?_
      exact (sfX9_clock_46 _) _ _ _ _ hf
    refine am_bipush (v := -104) dX9_clock_22 (by decide) rfl ?_
    exact am_iret rfl dX9_clock_24 hf
  refine am_bipush (v := -103) dX9_clock_11 (by decide) rfl ?_
  exact am_iret rfl dX9_clock_13 hf
