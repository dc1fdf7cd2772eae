/-! printed proofs of the printed functions, 9 -/
set_option maxRecDepth 20000 in
set_option maxHeartbeats 4000000 in
theorem sfX9_show_134 {G : am_G}  {k82 : Option Nat → Int32 → Int32 → am_H → Option (am_H)} (hk82 : ∀ (v0 : Option Nat) (v1 : Int32) (v2 : Int32) (h : am_H) (y : am_H), k82 v0 v1 v2 h = some y → am_S G miX9_show 82 [some (va_rf v0), some (.int v1), some (.int v2), none, none] [] h none y) : ∀ (n : Nat) (v0 : Option Nat) (v1 : Int32) (v2 : Int32) (v4 : Int32) (h : am_H) (y : am_H) (hf : fX9_show_134 k82 n v0 v1 v2 v4 h = some y), am_S G miX9_show 134 [some (va_rf v0), some (.int v1), some (.int v2), none, some (.int v4)] [] h none y := by
  intro n
  induction n with
  | zero => intro v0 v1 v2 v4 h y hf; cases hf
  | succ n ih =>
    intro v0 v1 v2 v4 h y hf
    have hf : fX9_show_134_b k82 (fX9_show_134 k82 n) v0 v1 v2 v4 h = some y := hf
    unfold fX9_show_134_b at hf
    refine am_iload dX9_show_134 rfl rfl ?_
    refine am_aload_n dX9_show_136 rfl rfl ?_
    refine am_gr_ dX9_show_137 fl_X9_31 rfl hf (fun x1 _ hf => ?_)
    refine am_iload_n dX9_show_140 rfl rfl ?_
    refine am_iald dX9_show_141 rfl hf (fun x2 _ hf => ?_)
    refine am_icmp_ge (tgt := 189) dX9_show_142 (by decide) rfl hf (fun hf => ?_) (fun hf => ?_)
    · exact am_we ((sfX9_show_189 hk82) _ _ _ _ _ hf) ⟨Or.inr rfl, Or.inr rfl, Or.inr rfl, Or.inl rfl, Or.inl rfl, trivial⟩
    refine am_aload_n dX9_show_145 rfl rfl ?_
    refine am_gi_ dX9_show_146 fl_X9_64 rfl hf (fun x3 _ hf => ?_)
    refine am_iconst (v := -1) dX9_show_149 rfl rfl ?_
    refine am_icmp_eq (tgt := 189) dX9_show_150 (by decide) rfl hf (fun hf => ?_) (fun hf => ?_)
    · exact am_we ((sfX9_show_189 hk82) _ _ _ _ _ hf) ⟨Or.inr rfl, Or.inr rfl, Or.inr rfl, Or.inl rfl, Or.inl rfl, trivial⟩
    refine am_aload_n dX9_show_153 rfl rfl ?_
    refine am_gr_ dX9_show_154 fl_X9_102 rfl hf (fun x4 _ hf => ?_)
    refine am_iload dX9_show_157 rfl rfl ?_
    refine am_iald dX9_show_159 rfl hf (fun x5 _ hf => ?_)
    refine am_iload_n dX9_show_160 rfl rfl ?_
    refine am_icmp_ne (tgt := 183) dX9_show_161 (by decide) rfl hf (fun hf => ?_) (fun hf => ?_)
    · exact (sfX9_show_183 ih) _ _ _ _ _ _ hf
    refine am_aload_n dX9_show_164 rfl rfl ?_
    refine am_dup dX9_show_165 (am_c1 _) rfl ?_
    refine am_gi_ dX9_show_166 fl_X9_302 rfl hf (fun x6 _ hf => ?_)
    refine am_iconst (v := 1) dX9_show_169 rfl rfl ?_
    refine am_iadd dX9_show_170 rfl ?_
    refine am_pi_ dX9_show_171 fl_X9_302 fp_9_61 (fun z => by cases z) rfl hf (fun h7 _ hf => ?_)
    refine am_aload_n dX9_show_174 rfl rfl ?_
    refine am_aload_n dX9_show_175 rfl rfl ?_
    refine am_gi_ dX9_show_176 fl_X9_64 rfl hf (fun x8 _ hf => ?_)
    refine am_iload_n dX9_show_179 rfl rfl ?_
    refine am_cVv (As := [.int x8, .int v2]) (st := []) lk_X9_show_317 rfl (Nat.le_of_ble_eq_true rfl) (Nat.le_of_ble_eq_true rfl) rfl dX9_show_180 rfl hf (fun b10 y9 hf => sfX9_strike b10 _ _ _ y9 hf) (fun b10 y9 _ _ hf => ?_)
    exact (sfX9_show_183 ih) _ _ _ _ _ _ hf
set_option maxRecDepth 20000 in
set_option maxHeartbeats 4000000 in
theorem sfX9_show_125 {G : am_G}  {k96 : Option Nat → Int32 → Int32 → Int32 → Int32 → am_H → Option (am_H)} (hk96 : ∀ (v0 : Option Nat) (v1 : Int32) (v2 : Int32) (v3 : Int32) (v4 : Int32) (h : am_H) (y : am_H), k96 v0 v1 v2 v3 v4 h = some y → am_S G miX9_show 96 [some (va_rf v0), some (.int v1), some (.int v2), some (.int v3), some (.int v4)] [] h none y) (v0 : Option Nat) (v1 : Int32) (v2 : Int32) (v3 : Int32) (v4 : Int32) (h : am_H) (y : am_H) (hf : fX9_show_125 k96 v0 v1 v2 v3 v4 h = some y) : am_S G miX9_show 125 [some (va_rf v0), some (.int v1), some (.int v2), some (.int v3), some (.int v4)] [] h none y := by
  unfold fX9_show_125 at hf
  refine am_iinc (ls' := [some (va_rf v0), some (.int v1), some (.int v2), some (.int v3), some (.int (v4 + (1 : Int32)))]) dX9_show_125 rfl rfl (by decide) rfl rfl ?_
  refine am_goto (pc' := 96) dX9_show_128 (by decide) ?_
  exact hk96 _ _ _ _ _ _ _ hf
set_option maxRecDepth 20000 in
set_option maxHeartbeats 4000000 in
theorem sfX9_show_96 {G : am_G}  {k82 : Option Nat → Int32 → Int32 → am_H → Option (am_H)} (hk82 : ∀ (v0 : Option Nat) (v1 : Int32) (v2 : Int32) (h : am_H) (y : am_H), k82 v0 v1 v2 h = some y → am_S G miX9_show 82 [some (va_rf v0), some (.int v1), some (.int v2), none, none] [] h none y) : ∀ (n : Nat) (v0 : Option Nat) (v1 : Int32) (v2 : Int32) (v3 : Int32) (v4 : Int32) (h : am_H) (y : am_H) (hf : fX9_show_96 k82 n v0 v1 v2 v3 v4 h = some y), am_S G miX9_show 96 [some (va_rf v0), some (.int v1), some (.int v2), some (.int v3), some (.int v4)] [] h none y := by
  intro n
  induction n with
  | zero => intro v0 v1 v2 v3 v4 h y hf; cases hf
  | succ n ih =>
    intro v0 v1 v2 v3 v4 h y hf
    have hf : fX9_show_96_b k82 (fX9_show_96 k82 n) v0 v1 v2 v3 v4 h = some y := hf
    unfold fX9_show_96_b at hf
    refine am_iload dX9_show_96 rfl rfl ?_
    refine am_iload_n dX9_show_98 rfl rfl ?_
    refine am_icmp_ge (tgt := 131) dX9_show_99 (by decide) rfl hf (fun hf => ?_) (fun hf => ?_)
    · refine am_iconst (v := 0) dX9_show_131 rfl rfl ?_
      refine am_istore (ls' := [some (va_rf v0), some (.int v1), some (.int v2), some (.int v3), some (.int (0 : Int32))]) dX9_show_132 (by decide) rfl rfl ?_
      exact am_we ((sfX9_show_134 hk82 _) _ _ _ _ _ _ hf) ⟨Or.inr rfl, Or.inr rfl, Or.inr rfl, Or.inl rfl, Or.inr rfl, trivial⟩
    refine am_aload_n dX9_show_102 rfl rfl ?_
    refine am_gr_ dX9_show_103 fl_X9_121 rfl hf (fun x1 _ hf => ?_)
    refine am_iload dX9_show_106 rfl rfl ?_
    refine am_iald dX9_show_108 rfl hf (fun x2 _ hf => ?_)
    refine am_iload_n dX9_show_109 rfl rfl ?_
    refine am_icmp_ne (tgt := 125) dX9_show_110 (by decide) rfl hf (fun hf => ?_) (fun hf => ?_)
    · exact (sfX9_show_125 ih) _ _ _ _ _ _ _ hf
    refine am_aload_n dX9_show_113 rfl rfl ?_
    refine am_aload_n dX9_show_114 rfl rfl ?_
    refine am_gr_ dX9_show_115 fl_X9_124 rfl hf (fun x3 _ hf => ?_)
    refine am_iload dX9_show_118 rfl rfl ?_
    refine am_iald dX9_show_120 rfl hf (fun x4 _ hf => ?_)
    refine am_iload_n dX9_show_121 rfl rfl ?_
    refine am_cVv (As := [.int x4, .int v2]) (st := []) lk_X9_show_317 rfl (Nat.le_of_ble_eq_true rfl) (Nat.le_of_ble_eq_true rfl) rfl dX9_show_122 rfl hf (fun b6 y5 hf => sfX9_strike b6 _ _ _ y5 hf) (fun b6 y5 _ _ hf => ?_)
    exact (sfX9_show_125 ih) _ _ _ _ _ _ _ hf
set_option maxRecDepth 20000 in
set_option maxHeartbeats 4000000 in
theorem sfX9_show_82 {G : am_G}  : ∀ (n : Nat) (v0 : Option Nat) (v1 : Int32) (v2 : Int32) (h : am_H) (y : am_H) (hf : fX9_show_82  n v0 v1 v2 h = some y), am_S G miX9_show 82 [some (va_rf v0), some (.int v1), some (.int v2), none, none] [] h none y := by
  intro n
  induction n with
  | zero => intro v0 v1 v2 h y hf; cases hf
  | succ n ih =>
    intro v0 v1 v2 h y hf
    have hf : fX9_show_82_b  (fX9_show_82  n) v0 v1 v2 h = some y := hf
    unfold fX9_show_82_b at hf
    refine am_iload_n dX9_show_82 rfl rfl ?_
    refine am_bipush (v := 96) dX9_show_83 (by decide) rfl ?_
    refine am_icmp_ge (tgt := 195) dX9_show_85 (by decide) rfl hf (fun hf => ?_) (fun hf => ?_)
    · exact am_vret rfl dX9_show_195 hf
    refine am_aload_n dX9_show_88 rfl rfl ?_
    refine am_gi_ dX9_show_89 fl_X9_314 rfl hf (fun x1 _ hf => ?_)
    refine am_istore_n (ls' := [some (va_rf v0), some (.int v1), some (.int v2), some (.int x1), none]) dX9_show_92 (by decide) rfl rfl ?_
    refine am_iconst (v := 0) dX9_show_93 rfl rfl ?_
    refine am_istore (ls' := [some (va_rf v0), some (.int v1), some (.int v2), some (.int x1), some (.int (0 : Int32))]) dX9_show_94 (by decide) rfl rfl ?_
    exact (sfX9_show_96 ih _) _ _ _ _ _ _ _ hf
set_option maxRecDepth 20000 in
set_option maxHeartbeats 4000000 in
theorem sfX9_show_62 {G : am_G}  : ∀ (n : Nat) (v0 : Option Nat) (v1 : Int32) (v2 : Int32) (h : am_H) (y : am_H) (hf : fX9_show_62  n v0 v1 v2 h = some y), am_S G miX9_show 62 [some (va_rf v0), some (.int v1), some (.int v2), none, none] [] h none y := by
  intro n
  induction n with
  | zero => intro v0 v1 v2 h y hf; cases hf
  | succ n ih =>
    intro v0 v1 v2 h y hf
    have hf : fX9_show_62_b  (fX9_show_62  n) v0 v1 v2 h = some y := hf
    unfold fX9_show_62_b at hf
    refine am_iload_n dX9_show_62 rfl rfl ?_
    refine am_iconst (v := 4) dX9_show_63 rfl rfl ?_
    refine am_icmp_ge (tgt := 80) dX9_show_64 (by decide) rfl hf (fun hf => ?_) (fun hf => ?_)
    · refine am_iconst (v := 0) dX9_show_80 rfl rfl ?_
      refine am_istore_n (ls' := [some (va_rf v0), some (.int v1), some (.int (0 : Int32)), none, none]) dX9_show_81 (by decide) rfl rfl ?_
      exact (sfX9_show_82 _) _ _ _ _ _ hf
    refine am_aload_n dX9_show_67 rfl rfl ?_
    refine am_gr_ dX9_show_68 fl_X9_118 rfl hf (fun x1 _ hf => ?_)
    refine am_iload_n dX9_show_71 rfl rfl ?_
    refine am_iconst (v := -1) dX9_show_72 rfl rfl ?_
    refine am_iast dX9_show_73 rfl hf (fun h2 _ hf => ?_)
    refine am_iinc (ls' := [some (va_rf v0), some (.int v1), some (.int (v2 + (1 : Int32))), none, none]) dX9_show_74 rfl rfl (by decide) rfl rfl ?_
    refine am_goto (pc' := 62) dX9_show_77 (by decide) ?_
    exact ih _ _ _ _ _ hf
set_option maxRecDepth 20000 in
set_option maxHeartbeats 4000000 in
theorem sfX9_show_32 {G : am_G}  : ∀ (n : Nat) (v0 : Option Nat) (v1 : Int32) (v2 : Int32) (h : am_H) (y : am_H) (hf : fX9_show_32  n v0 v1 v2 h = some y), am_S G miX9_show 32 [some (va_rf v0), some (.int v1), some (.int v2), none, none] [] h none y := by
  intro n
  induction n with
  | zero => intro v0 v1 v2 h y hf; cases hf
  | succ n ih =>
    intro v0 v1 v2 h y hf
    have hf : fX9_show_32_b  (fX9_show_32  n) v0 v1 v2 h = some y := hf
    unfold fX9_show_32_b at hf
    refine am_iload_n dX9_show_32 rfl rfl ?_
    refine am_aload_n dX9_show_33 rfl rfl ?_
    refine am_gi_ dX9_show_34 fl_X9_209 rfl hf (fun x1 _ hf => ?_)
    refine am_icmp_ge (tgt := 60) dX9_show_37 (by decide) rfl hf (fun hf => ?_) (fun hf => ?_)
    · refine am_iconst (v := 0) dX9_show_60 rfl rfl ?_
      refine am_istore_n (ls' := [some (va_rf v0), some (.int v1), some (.int (0 : Int32)), none, none]) dX9_show_61 (by decide) rfl rfl ?_
      exact (sfX9_show_62 _) _ _ _ _ _ hf
    refine am_aload_n dX9_show_40 rfl rfl ?_
    refine am_gr_ dX9_show_41 fl_X9_111 rfl hf (fun x2 _ hf => ?_)
    refine am_iload_n dX9_show_44 rfl rfl ?_
    refine am_iconst (v := 0) dX9_show_45 rfl rfl ?_
    refine am_zast dX9_show_46 rfl hf (fun h3 _ hf => ?_)
    refine am_aload_n dX9_show_47 rfl rfl ?_
    refine am_gr_ dX9_show_48 fl_X9_115 rfl hf (fun x4 _ hf => ?_)
    refine am_iload_n dX9_show_51 rfl rfl ?_
    refine am_iconst (v := 0) dX9_show_52 rfl rfl ?_
    refine am_iast dX9_show_53 rfl hf (fun h5 _ hf => ?_)
    refine am_iinc (ls' := [some (va_rf v0), some (.int v1), some (.int (v2 + (1 : Int32))), none, none]) dX9_show_54 rfl rfl (by decide) rfl rfl ?_
    refine am_goto (pc' := 32) dX9_show_57 (by decide) ?_
    exact ih _ _ _ _ _ hf
set_option maxRecDepth 20000 in
set_option maxHeartbeats 4000000 in
theorem sfX9_show {G : am_G}  (v0 : Nat) (v1 : Int32) (h : am_H) (y : am_H) (hf : fX9_show v0 v1 h = some y) : am_Cn G miX9_show [va_rf (some v0), .int v1] h none y := by
  refine am_beg (ls := [some (va_rf (some v0)), some (.int v1), none, none, none]) (by simp only [am_en, am_e1_r, am_e1_i, am_e1_l, am_e1_n]; rfl) ?_
  unfold fX9_show at hf
  refine am_aload_n dX9_show_0 rfl rfl ?_
  refine am_iconst (v := 0) dX9_show_1 rfl rfl ?_
  refine am_pi_ dX9_show_2 fl_X9_299 fp_9_60 (fun z => by cases z) rfl hf (fun h1 _ hf => ?_)
  refine am_aload_n dX9_show_5 rfl rfl ?_
  refine am_iconst (v := 0) dX9_show_6 rfl rfl ?_
  refine am_pi_ dX9_show_7 fl_X9_302 fp_9_61 (fun z => by cases z) rfl hf (fun h2 _ hf => ?_)
  refine am_aload_n dX9_show_10 rfl rfl ?_
  refine am_iconst (v := 0) dX9_show_11 rfl rfl ?_
  refine am_pi_ dX9_show_12 fl_X9_311 fp_9_62 (fun z => by cases z) rfl hf (fun h3 _ hf => ?_)
  refine am_aload_n dX9_show_15 rfl rfl ?_
  refine am_iconst (v := -1) dX9_show_16 rfl rfl ?_
  refine am_pi_ dX9_show_17 fl_X9_305 fp_9_64 (fun z => by cases z) rfl hf (fun h4 _ hf => ?_)
  refine am_aload_n dX9_show_20 rfl rfl ?_
  refine am_iconst (v := -1) dX9_show_21 rfl rfl ?_
  refine am_pi_ dX9_show_22 fl_X9_308 fp_9_65 (fun z => by cases z) rfl hf (fun h5 _ hf => ?_)
  refine am_aload_n dX9_show_25 rfl rfl ?_
  refine am_iconst (v := 0) dX9_show_26 rfl rfl ?_
  refine am_pi_ dX9_show_27 fl_X9_314 fp_9_69 (fun z => by cases z) rfl hf (fun h6 _ hf => ?_)
  refine am_iconst (v := 0) dX9_show_30 rfl rfl ?_
  refine am_istore_n (ls' := [some (va_rf (some v0)), some (.int v1), some (.int (0 : Int32)), none, none]) dX9_show_31 (by decide) rfl rfl ?_
  exact (sfX9_show_32 _) _ _ _ _ _ hf
set_option maxRecDepth 20000 in
set_option maxHeartbeats 4000000 in
theorem sfX9_shown {G : am_G}  (v0 : Nat) (v1 : Int32) (h : am_H) (y : Int32 × am_H) (hf : fX9_shown v0 v1 h = some y) : am_Cn G miX9_shown [va_rf (some v0), .int v1] h (some (.int y.1)) y.2 := by
  refine am_beg (ls := [some (va_rf (some v0)), some (.int v1)]) (by simp only [am_en, am_e1_r, am_e1_i, am_e1_l, am_e1_n]; rfl) ?_
  unfold fX9_shown at hf
  refine am_iload_n dX9_shown_0 rfl rfl ?_
  refine am_tsw (d := 52) (l := [(0, 32), (1, 37), (2, 42), (3, 47)]) dX9_shown_1 (by decide) (by decide) (by decide) ?_
  refine am_swc hf (fun hf => ?_) (fun hf => ?_)
  · refine am_aload_n dX9_shown_32 rfl rfl ?_
    refine am_gi_ dX9_shown_33 fl_X9_299 rfl hf (fun x1 _ hf => ?_)
    exact am_iret rfl dX9_shown_36 hf
  refine am_swc hf (fun hf => ?_) (fun hf => ?_)
  · refine am_aload_n dX9_shown_37 rfl rfl ?_
    refine am_gi_ dX9_shown_38 fl_X9_311 rfl hf (fun x2 _ hf => ?_)
    exact am_iret rfl dX9_shown_41 hf
  refine am_swc hf (fun hf => ?_) (fun hf => ?_)
  · refine am_aload_n dX9_shown_42 rfl rfl ?_
    refine am_gi_ dX9_shown_43 fl_X9_305 rfl hf (fun x3 _ hf => ?_)
    exact am_iret rfl dX9_shown_46 hf
  refine am_swc hf (fun hf => ?_) (fun hf => ?_)
  · refine am_aload_n dX9_shown_47 rfl rfl ?_
    refine am_gi_ dX9_shown_48 fl_X9_308 rfl hf (fun x4 _ hf => ?_)
    exact am_iret rfl dX9_shown_51 hf
  show am_S _ _ 52 _ _ _ _ _
  refine am_iload_n dX9_shown_52 rfl rfl ?_
  refine am_bipush (v := 10) dX9_shown_53 (by decide) rfl ?_
  refine am_isub dX9_shown_55 rfl ?_
  refine am_aload_n dX9_shown_56 rfl rfl ?_
  refine am_gi_ dX9_shown_57 fl_X9_311 rfl hf (fun x5 _ hf => ?_)
  refine am_icmp_ge (tgt := 75) dX9_shown_60 (by decide) rfl hf (fun hf => ?_) (fun hf => ?_)
  · refine am_iconst (v := -1) dX9_shown_75 rfl rfl ?_
    exact am_iret rfl dX9_shown_76 hf
  refine am_aload_n dX9_shown_63 rfl rfl ?_
  refine am_gr_ dX9_shown_64 fl_X9_108 rfl hf (fun x6 _ hf => ?_)
  refine am_iload_n dX9_shown_67 rfl rfl ?_
  refine am_bipush (v := 10) dX9_shown_68 (by decide) rfl ?_
  refine am_isub dX9_shown_70 rfl ?_
  refine am_iald dX9_shown_71 rfl hf (fun x7 _ hf => ?_)
  refine am_goto (pc' := 76) dX9_shown_72 (by decide) ?_
  exact am_iret rfl dX9_shown_76 hf
set_option maxRecDepth 20000 in
set_option maxHeartbeats 4000000 in
theorem sfX9_shows_38 {G : am_G}  (v0 : Option Nat) (v1 : Int32) (v2 : Int32) (v3 : Int32) (v4 : Int32) (h : am_H) (y : Int32 × am_H) (hf : fX9_shows_38  v0 v1 v2 v3 v4 h = some y) : am_S G miX9_shows 38 [some (va_rf v0), some (.int v1), some (.int v2), some (.int v3), some (.int v4)] [] h (some (.int y.1)) y.2 := by
  unfold fX9_shows_38 at hf
  refine am_aload_n dX9_shows_38 rfl rfl ?_
  refine am_iload_n dX9_shows_39 rfl rfl ?_
  refine am_iload_n dX9_shows_40 rfl rfl ?_
  refine am_iload_n dX9_shows_41 rfl rfl ?_
  refine am_cVv (As := [.int v1, .int v2, .int v3]) (st := []) lk_X9_shows_280 rfl (Nat.le_of_ble_eq_true rfl) (Nat.le_of_ble_eq_true rfl) rfl dX9_shows_42 rfl hf (fun b2 y1 hf => sfX9_runAll b2 _ _ _ _ y1 hf) (fun b2 y1 _ _ hf => ?_)
  refine am_aload_n dX9_shows_45 rfl rfl ?_
  refine am_iload_n dX9_shows_46 rfl rfl ?_
  refine am_cVv (As := [.int v1]) (st := []) lk_X9_shows_320 rfl (Nat.le_of_ble_eq_true rfl) (Nat.le_of_ble_eq_true rfl) rfl dX9_shows_47 rfl hf (fun b4 y3 hf => sfX9_show b4 _ _ y3 hf) (fun b4 y3 _ _ hf => ?_)
  refine am_aload_n dX9_shows_50 rfl rfl ?_
  refine am_iload dX9_shows_51 rfl rfl ?_
  refine am_cVi (As := [.int v4]) (st := []) lk_X9_shows_323 rfl (Nat.le_of_ble_eq_true rfl) (Nat.le_of_ble_eq_true rfl) rfl dX9_shows_53 rfl hf (fun b6 y5 hf => sfX9_shown b6 _ _ y5 hf) (fun b6 y5 _ _ hf => ?_)
  exact am_iret rfl dX9_shows_56 hf
set_option maxRecDepth 20000 in
set_option maxHeartbeats 4000000 in
theorem sfX9_shows {G : am_G}  (v0 : Nat) (v1 : Int32) (v2 : Int32) (v3 : Int32) (v4 : Int32) (h : am_H) (y : Int32 × am_H) (hf : fX9_shows v0 v1 v2 v3 v4 h = some y) : am_Cn G miX9_shows [va_rf (some v0), .int v1, .int v2, .int v3, .int v4] h (some (.int y.1)) y.2 := by
  refine am_beg (ls := [some (va_rf (some v0)), some (.int v1), some (.int v2), some (.int v3), some (.int v4)]) (by simp only [am_en, am_e1_r, am_e1_i, am_e1_l, am_e1_n]; rfl) ?_
  unfold fX9_shows at hf
  refine am_aload_n dX9_shows_0 rfl rfl ?_
  refine am_iload_n dX9_shows_1 rfl rfl ?_
  refine am_iload_n dX9_shows_2 rfl rfl ?_
  refine am_iload_n dX9_shows_3 rfl rfl ?_
  refine am_cVi (As := [.int v1, .int v2, .int v3]) (st := []) lk_X9_shows_277 rfl (Nat.le_of_ble_eq_true rfl) (Nat.le_of_ble_eq_true rfl) rfl dX9_shows_4 rfl hf (fun b2 y1 hf => sfX9_isRun b2 _ _ _ _ y1 hf) (fun b2 y1 _ _ hf => ?_)
  refine am_if_ne (tgt := 13) dX9_shows_7 (by decide) rfl hf (fun hf => ?_) (fun hf => ?_)
  · refine am_iload dX9_shows_13 rfl rfl ?_
    refine am_iconst (v := 0) dX9_shows_15 rfl rfl ?_
    refine am_iconst (v := 3) dX9_shows_16 rfl rfl ?_
    refine am_cSi (As := [.int v4, .int (0 : Int32), .int (3 : Int32)]) (st := []) lk_X9_shows_132 rfl (Nat.le_of_ble_eq_true rfl) (Nat.le_of_ble_eq_true rfl) rfl dX9_shows_17 rfl hf (fun y3 hf => sfX9_within _ _ _ _ y3 hf) (fun y3 _ hf => ?_)
    refine am_if_ne (tgt := 38) dX9_shows_20 (by decide) rfl hf (fun hf => ?_) (fun hf => ?_)
    · exact sfX9_shows_38 _ _ _ _ _ _ _ hf
    refine am_iload dX9_shows_23 rfl rfl ?_
    refine am_bipush (v := 10) dX9_shows_25 (by decide) rfl ?_
    refine am_bipush (v := 29) dX9_shows_27 (by decide) rfl ?_
    refine am_cSi (As := [.int v4, .int (10 : Int32), .int (29 : Int32)]) (st := []) lk_X9_shows_132 rfl (Nat.le_of_ble_eq_true rfl) (Nat.le_of_ble_eq_true rfl) rfl dX9_shows_29 rfl hf (fun y4 hf => sfX9_within _ _ _ _ y4 hf) (fun y4 _ hf => ?_)
    refine am_if_ne (tgt := 38) dX9_shows_32 (by decide) rfl hf (fun hf => ?_) (fun hf => ?_)
    · exact sfX9_shows_38 _ _ _ _ _ _ _ hf
    refine am_bipush (v := -102) dX9_shows_35 (by decide) rfl ?_
    exact am_iret rfl dX9_shows_37 hf
  refine am_bipush (v := -101) dX9_shows_10 (by decide) rfl ?_
  exact am_iret rfl dX9_shows_12 hf
set_option maxRecDepth 20000 in
set_option maxHeartbeats 4000000 in
theorem sfX8_findWorst_98 {G : am_G}  {k42 : Option Nat → Option Nat → Int32 → Int32 → am_H → Option (am_H)} (hk42 : ∀ (v0 : Option Nat) (v1 : Option Nat) (v2 : Int32) (v3 : Int32) (h : am_H) (y : am_H), k42 v0 v1 v2 v3 h = some y → am_S G miX8_findWorst 42 [some (va_rf v0), some (va_rf v1), some (.int v2), some (.int v3), none] [] h none y) (v0 : Option Nat) (v1 : Option Nat) (v2 : Int32) (v3 : Int32) (h : am_H) (y : am_H) (hf : fX8_findWorst_98 k42 v0 v1 v2 v3 h = some y) : am_S G miX8_findWorst 98 [some (va_rf v0), some (va_rf v1), some (.int v2), some (.int v3), none] [] h none y := by
  unfold fX8_findWorst_98 at hf
  refine am_iinc (ls' := [some (va_rf v0), some (va_rf v1), some (.int v2), some (.int (v3 + (1 : Int32))), none]) dX8_findWorst_98 rfl rfl (by decide) rfl rfl ?_
  refine am_goto (pc' := 42) dX8_findWorst_101 (by decide) ?_
  exact hk42 _ _ _ _ _ _ hf
set_option maxRecDepth 20000 in
set_option maxHeartbeats 4000000 in
theorem sfX8_findWorst_42 {G : am_G}  {k9 : Option Nat → Option Nat → Int32 → am_H → Option (am_H)} (hk9 : ∀ (v0 : Option Nat) (v1 : Option Nat) (v2 : Int32) (h : am_H) (y : am_H), k9 v0 v1 v2 h = some y → am_S G miX8_findWorst 9 [some (va_rf v0), some (va_rf v1), some (.int v2), none, none] [] h none y) : ∀ (n : Nat) (v0 : Option Nat) (v1 : Option Nat) (v2 : Int32) (v3 : Int32) (h : am_H) (y : am_H) (hf : fX8_findWorst_42 k9 n v0 v1 v2 v3 h = some y), am_S G miX8_findWorst 42 [some (va_rf v0), some (va_rf v1), some (.int v2), some (.int v3), none] [] h none y := by
  intro n
  induction n with
  | zero => intro v0 v1 v2 v3 h y hf; cases hf
  | succ n ih =>
    intro v0 v1 v2 v3 h y hf
    have hf : fX8_findWorst_42_b k9 (fX8_findWorst_42 k9 n) v0 v1 v2 v3 h = some y := hf
    unfold fX8_findWorst_42_b at hf
    refine am_iload_n dX8_findWorst_42 rfl rfl ?_
    refine am_aload_n dX8_findWorst_43 rfl rfl ?_
    refine am_gi_ dX8_findWorst_44 fl_X8_229 rfl hf (fun x1 _ hf => ?_)
    refine am_icmp_ge (tgt := 104) dX8_findWorst_47 (by decide) rfl hf (fun hf => ?_) (fun hf => ?_)
    · refine am_iinc (ls' := [some (va_rf v0), some (va_rf v1), some (.int (v2 + (1 : Int32))), some (.int v3), none]) dX8_findWorst_104 rfl rfl (by decide) (am_s1_r (j := 1) rfl rfl) rfl ?_
      refine am_goto (pc' := 9) dX8_findWorst_107 (by decide) ?_
      exact am_we (hk9 _ _ _ _ _ hf) ⟨Or.inr rfl, Or.inr rfl, Or.inr rfl, Or.inl rfl, Or.inl rfl, trivial⟩
    refine am_aload_n dX8_findWorst_50 rfl rfl ?_
    refine am_gr_ dX8_findWorst_51 fl_X8_62 rfl hf (fun x2 _ hf => ?_)
    refine am_iload_n dX8_findWorst_54 rfl rfl ?_
    refine am_aload_n dX8_findWorst_55 rfl rfl ?_
    refine am_iload_n dX8_findWorst_56 rfl rfl ?_
    refine am_cVi (As := [.int v2]) (st := [.int v3, va_rf x2]) lk_X8_findWorst_216 rfl (Nat.le_of_ble_eq_true rfl) (by simp only [List.map_cons, List.map_nil, am_c1, am_ci, am_cl]; exact Nat.le_of_ble_eq_true rfl) rfl dX8_findWorst_57 rfl hf (fun b4 y3 hf => sfX8_daylightOf b4 _ _ y3 hf) (fun b4 y3 _ _ hf => ?_)
    refine am_cVi (As := [.int v3, .int y3.1]) (st := []) lk_X8_findWorst_232 rfl (Nat.le_of_ble_eq_true rfl) (Nat.le_of_ble_eq_true rfl) rfl dX8_findWorst_60 rfl hf (fun b6 y5 hf => sfX5_errorSize b6 _ _ _ y5 hf) (fun b6 y5 _ _ hf => ?_)
    refine am_istore (ls' := [some (va_rf v0), some (va_rf v1), some (.int v2), some (.int v3), some (.int y5.1)]) dX8_findWorst_63 (by decide) rfl rfl ?_
    refine am_iload dX8_findWorst_65 rfl rfl ?_
    refine am_aload_n dX8_findWorst_67 rfl rfl ?_
    refine am_gr_ dX8_findWorst_68 fl_X8_83 rfl hf (fun x7 _ hf => ?_)
    refine am_iconst (v := 0) dX8_findWorst_71 rfl rfl ?_
    refine am_iald dX8_findWorst_72 rfl hf (fun x8 _ hf => ?_)
    refine am_icmp_le (tgt := 98) dX8_findWorst_73 (by decide) rfl hf (fun hf => ?_) (fun hf => ?_)
    · exact am_we ((sfX8_findWorst_98 ih) _ _ _ _ _ _ hf) ⟨Or.inr rfl, Or.inr rfl, Or.inr rfl, Or.inr rfl, Or.inl rfl, trivial⟩
    refine am_aload_n dX8_findWorst_76 rfl rfl ?_
    refine am_gr_ dX8_findWorst_77 fl_X8_83 rfl hf (fun x9 _ hf => ?_)
    refine am_iconst (v := 0) dX8_findWorst_80 rfl rfl ?_
    refine am_iload dX8_findWorst_81 rfl rfl ?_
    refine am_iast dX8_findWorst_83 rfl hf (fun h10 _ hf => ?_)
    refine am_aload_n dX8_findWorst_84 rfl rfl ?_
    refine am_gr_ dX8_findWorst_85 fl_X8_83 rfl hf (fun x11 _ hf => ?_)
    refine am_iconst (v := 1) dX8_findWorst_88 rfl rfl ?_
    refine am_iload_n dX8_findWorst_89 rfl rfl ?_
    refine am_iast dX8_findWorst_90 rfl hf (fun h12 _ hf => ?_)
    refine am_aload_n dX8_findWorst_91 rfl rfl ?_
    refine am_gr_ dX8_findWorst_92 fl_X8_83 rfl hf (fun x13 _ hf => ?_)
    refine am_iconst (v := 2) dX8_findWorst_95 rfl rfl ?_
    refine am_iload_n dX8_findWorst_96 rfl rfl ?_
    refine am_iast dX8_findWorst_97 rfl hf (fun h14 _ hf => ?_)
    exact am_we ((sfX8_findWorst_98 ih) _ _ _ _ _ _ hf) ⟨Or.inr rfl, Or.inr rfl, Or.inr rfl, Or.inr rfl, Or.inl rfl, trivial⟩
set_option maxRecDepth 20000 in
set_option maxHeartbeats 4000000 in
theorem sfX8_findWorst_9 {G : am_G}  : ∀ (n : Nat) (v0 : Option Nat) (v1 : Option Nat) (v2 : Int32) (h : am_H) (y : am_H) (hf : fX8_findWorst_9  n v0 v1 v2 h = some y), am_S G miX8_findWorst 9 [some (va_rf v0), some (va_rf v1), some (.int v2), none, none] [] h none y := by
  intro n
  induction n with
  | zero => intro v0 v1 v2 h y hf; cases hf
  | succ n ih =>
    intro v0 v1 v2 h y hf
    have hf : fX8_findWorst_9_b  (fX8_findWorst_9  n) v0 v1 v2 h = some y := hf
    unfold fX8_findWorst_9_b at hf
    refine am_iload_n dX8_findWorst_9 rfl rfl ?_
    refine am_iconst (v := 4) dX8_findWorst_10 rfl rfl ?_
    refine am_icmp_ge (tgt := 110) dX8_findWorst_11 (by decide) rfl hf (fun hf => ?_) (fun hf => ?_)
    · exact am_vret rfl dX8_findWorst_110 hf
    refine am_aload_n dX8_findWorst_14 rfl rfl ?_
    refine am_gr_ dX8_findWorst_15 fl_X8_62 rfl hf (fun x1 _ hf => ?_)
    refine am_aload_n dX8_findWorst_18 rfl rfl ?_
    refine am_aload_n dX8_findWorst_19 rfl rfl ?_
    refine am_iload_n dX8_findWorst_20 rfl rfl ?_
    refine am_cVi (As := [.int v2]) (st := [va_rf v1, va_rf x1]) lk_X8_findWorst_258 rfl (Nat.le_of_ble_eq_true rfl) (by simp only [List.map_cons, List.map_nil, am_c1, am_ci, am_cl]; exact Nat.le_of_ble_eq_true rfl) rfl dX8_findWorst_21 rfl hf (fun b3 y2 hf => sfX8_warmthOf b3 _ _ y2 hf) (fun b3 y2 _ _ hf => ?_)
    refine am_aload_n dX8_findWorst_24 rfl rfl ?_
    refine am_gr_ dX8_findWorst_25 fl_X8_50 rfl hf (fun x4 _ hf => ?_)
    refine am_cVv (As := [va_rf v1, .int y2.1, va_rf x4]) (st := []) lk_X8_findWorst_261 rfl (by simp only [am_e1_r, am_e1_i, am_e1_l, am_e1_n]; exact Nat.le_of_ble_eq_true rfl) (Nat.le_of_ble_eq_true rfl) rfl dX8_findWorst_28 rfl hf (fun b6 y5 hf => sfX5_start b6 _ _ _ _ y5 hf) (fun b6 y5 _ _ hf => ?_)
    refine am_aload_n dX8_findWorst_31 rfl rfl ?_
    refine am_gr_ dX8_findWorst_32 fl_X8_62 rfl hf (fun x7 _ hf => ?_)
    refine am_bipush (v := 96) dX8_findWorst_35 (by decide) rfl ?_
    refine am_cVv (As := [.int (96 : Int32)]) (st := []) lk_X8_findWorst_209 rfl (Nat.le_of_ble_eq_true rfl) (Nat.le_of_ble_eq_true rfl) rfl dX8_findWorst_37 rfl hf (fun b9 y8 hf => sfX5_goOnTo b9 _ _ y8 hf) (fun b9 y8 _ _ hf => ?_)
    refine am_iconst (v := 0) dX8_findWorst_40 rfl rfl ?_
    refine am_istore_n (ls' := [some (va_rf v0), some (va_rf v1), some (.int v2), some (.int (0 : Int32)), none]) dX8_findWorst_41 (by decide) rfl rfl ?_
    exact (sfX8_findWorst_42 ih _) _ _ _ _ _ _ hf
set_option maxRecDepth 20000 in
set_option maxHeartbeats 4000000 in
theorem sfX8_findWorst {G : am_G}  (v0 : Nat) (v1 : Option Nat) (h : am_H) (y : am_H) (hf : fX8_findWorst v0 v1 h = some y) : am_Cn G miX8_findWorst [va_rf (some v0), va_rf v1] h none y := by
  refine am_beg (ls := [some (va_rf (some v0)), some (va_rf v1), none, none, none]) (by simp only [am_en, am_e1_r, am_e1_i, am_e1_l, am_e1_n]; rfl) ?_
  unfold fX8_findWorst at hf
  refine am_aload_n dX8_findWorst_0 rfl rfl ?_
  refine am_gr_ dX8_findWorst_1 fl_X8_83 rfl hf (fun x1 _ hf => ?_)
  refine am_iconst (v := 0) dX8_findWorst_4 rfl rfl ?_
  refine am_iconst (v := -1) dX8_findWorst_5 rfl rfl ?_
  refine am_iast dX8_findWorst_6 rfl hf (fun h2 _ hf => ?_)
  refine am_iconst (v := 0) dX8_findWorst_7 rfl rfl ?_
  refine am_istore_n (ls' := [some (va_rf (some v0)), some (va_rf v1), some (.int (0 : Int32)), none, none]) dX8_findWorst_8 (by decide) (am_s1_r (j := 1) rfl rfl) rfl ?_
  exact (sfX8_findWorst_9 _) _ _ _ _ _ hf
set_option maxRecDepth 20000 in
set_option maxHeartbeats 4000000 in
theorem sfX8_worst {G : am_G}  (v0 : Nat) (v1 : Int32) (v2 : Int32) (h : am_H) (y : Int32 × am_H) (hf : fX8_worst v0 v1 v2 h = some y) : am_Cn G miX8_worst [va_rf (some v0), .int v1, .int v2] h (some (.int y.1)) y.2 := by
  refine am_beg (ls := [some (va_rf (some v0)), some (.int v1), some (.int v2), none]) (by simp only [am_en, am_e1_r, am_e1_i, am_e1_l, am_e1_n]; rfl) ?_
  unfold fX8_worst at hf
  refine am_aload_n dX8_worst_0 rfl rfl ?_
  refine am_iload_n dX8_worst_1 rfl rfl ?_
  refine am_cVr (As := [.int v1]) (st := []) lk_X8_worst_117 rfl (Nat.le_of_ble_eq_true rfl) (Nat.le_of_ble_eq_true rfl) rfl dX8_worst_2 rfl hf (fun b2 y1 hf => sfX8_clockOf b2 _ _ y1 hf) (fun b2 y1 _ _ hf => ?_)
  refine am_astore_n (ls' := [some (va_rf (some v0)), some (.int v1), some (.int v2), some (va_rf y1.1)]) dX8_worst_5 (by decide) rfl rfl ?_
  refine am_aload_n dX8_worst_6 rfl rfl ?_
  refine am_ifnonnull (tgt := 13) dX8_worst_7 (by decide) rfl hf (fun hf => ?_) (fun hf => ?_)
  · refine am_iload_n dX8_worst_13 rfl rfl ?_
    refine am_iconst (v := 0) dX8_worst_14 rfl rfl ?_
    refine am_iconst (v := 2) dX8_worst_15 rfl rfl ?_
    refine am_cSi (As := [.int v2, .int (0 : Int32), .int (2 : Int32)]) (st := []) lk_X8_worst_121 rfl (Nat.le_of_ble_eq_true rfl) (Nat.le_of_ble_eq_true rfl) rfl dX8_worst_16 rfl hf (fun y3 hf => sfX8_isIn _ _ _ _ y3 hf) (fun y3 _ hf => ?_)
    refine am_if_ne (tgt := 25) dX8_worst_19 (by decide) rfl hf (fun hf => ?_) (fun hf => ?_)
    · refine am_aload_n dX8_worst_25 rfl rfl ?_
      refine am_aload_n dX8_worst_26 rfl rfl ?_
      refine am_cVv (As := [va_rf y1.1]) (st := []) lk_X8_worst_248 rfl (by simp only [am_e1_r, am_e1_i, am_e1_l, am_e1_n]; exact Nat.le_of_ble_eq_true rfl) (Nat.le_of_ble_eq_true rfl) rfl dX8_worst_27 rfl hf (fun b5 y4 hf => sfX8_findWorst b5 _ _ y4 hf) (fun b5 y4 _ _ hf => ?_)
      refine am_aload_n dX8_worst_30 rfl rfl ?_
      refine am_gr_ dX8_worst_31 fl_X8_83 rfl hf (fun x6 _ hf => ?_)
      refine am_iload_n dX8_worst_34 rfl rfl ?_
      refine am_iald dX8_worst_35 rfl hf (fun x7 _ hf => ?_)
      exact am_iret rfl dX8_worst_36 hf
    refine am_bipush (v := -102) dX8_worst_22 (by decide) rfl ?_
    exact am_iret rfl dX8_worst_24 hf
  refine am_bipush (v := -101) dX8_worst_10 (by decide) rfl ?_
  exact am_iret rfl dX8_worst_12 hf
set_option maxRecDepth 20000 in
set_option maxHeartbeats 4000000 in
theorem sfX9_layWorst_68 {G : am_G}  {k21 : Option Nat → Int32 → Int32 → Int32 → am_H → Option (am_H)} (hk21 : ∀ (v0 : Option Nat) (v1 : Int32) (v2 : Int32) (v3 : Int32) (h : am_H) (y : am_H), k21 v0 v1 v2 v3 h = some y → am_S G miX9_layWorst 21 [some (va_rf v0), some (.int v1), some (.int v2), some (.int v3), none] [] h none y) (v0 : Option Nat) (v1 : Int32) (v2 : Int32) (v3 : Int32) (h : am_H) (y : am_H) (hf : fX9_layWorst_68 k21 v0 v1 v2 v3 h = some y) : am_S G miX9_layWorst 68 [some (va_rf v0), some (.int v1), some (.int v2), some (.int v3), none] [] h none y := by
  unfold fX9_layWorst_68 at hf
  refine am_iinc (ls' := [some (va_rf v0), some (.int v1), some (.int v2), some (.int (v3 + (1 : Int32))), none]) dX9_layWorst_68 rfl rfl (by decide) rfl rfl ?_
  refine am_goto (pc' := 21) dX9_layWorst_71 (by decide) ?_
  exact hk21 _ _ _ _ _ _ hf
set_option maxRecDepth 20000 in
set_option maxHeartbeats 4000000 in
theorem sfX9_layWorst_21 {G : am_G}  {k7 : Option Nat → Int32 → Int32 → am_H → Option (am_H)} (hk7 : ∀ (v0 : Option Nat) (v1 : Int32) (v2 : Int32) (h : am_H) (y : am_H), k7 v0 v1 v2 h = some y → am_S G miX9_layWorst 7 [some (va_rf v0), some (.int v1), some (.int v2), none, none] [] h none y) : ∀ (n : Nat) (v0 : Option Nat) (v1 : Int32) (v2 : Int32) (v3 : Int32) (h : am_H) (y : am_H) (hf : fX9_layWorst_21 k7 n v0 v1 v2 v3 h = some y), am_S G miX9_layWorst 21 [some (va_rf v0), some (.int v1), some (.int v2), some (.int v3), none] [] h none y := by
  intro n
  induction n with
  | zero => intro v0 v1 v2 v3 h y hf; cases hf
  | succ n ih =>
    intro v0 v1 v2 v3 h y hf
    have hf : fX9_layWorst_21_b k7 (fX9_layWorst_21 k7 n) v0 v1 v2 v3 h = some y := hf
    unfold fX9_layWorst_21_b at hf
    refine am_iload_n dX9_layWorst_21 rfl rfl ?_
    refine am_aload_n dX9_layWorst_22 rfl rfl ?_
    refine am_gr_ dX9_layWorst_23 fl_X9_31 rfl hf (fun x1 _ hf => ?_)
    refine am_iload_n dX9_layWorst_26 rfl rfl ?_
    refine am_iald dX9_layWorst_27 rfl hf (fun x2 _ hf => ?_)
    refine am_icmp_ge (tgt := 74) dX9_layWorst_28 (by decide) rfl hf (fun hf => ?_) (fun hf => ?_)
    · refine am_iinc (ls' := [some (va_rf v0), some (.int v1), some (.int (v2 + (1 : Int32))), some (.int v3), none]) dX9_layWorst_74 rfl rfl (by decide) rfl rfl ?_
      refine am_goto (pc' := 7) dX9_layWorst_77 (by decide) ?_
      exact am_we (hk7 _ _ _ _ _ hf) ⟨Or.inr rfl, Or.inr rfl, Or.inr rfl, Or.inl rfl, Or.inl rfl, trivial⟩
    refine am_aload_n dX9_layWorst_31 rfl rfl ?_
    refine am_iload_n dX9_layWorst_32 rfl rfl ?_
    refine am_iload_n dX9_layWorst_33 rfl rfl ?_
    refine am_iload_n dX9_layWorst_34 rfl rfl ?_
    refine am_cVi (As := [.int v1, .int v2, .int v3]) (st := []) lk_X9_layWorst_286 rfl (Nat.le_of_ble_eq_true rfl) (Nat.le_of_ble_eq_true rfl) rfl dX9_layWorst_35 rfl hf (fun b4 y3 hf => sfX9_errorOf b4 _ _ _ _ y3 hf) (fun b4 y3 _ _ hf => ?_)
    refine am_cSi (As := [.int y3.1]) (st := []) lk_X9_layWorst_290 rfl (Nat.le_of_ble_eq_true rfl) (Nat.le_of_ble_eq_true rfl) rfl dX9_layWorst_38 rfl hf (fun y5 hf => sfX9_size _ _ y5 hf) (fun y5 _ hf => ?_)
    refine am_istore (ls' := [some (va_rf v0), some (.int v1), some (.int v2), some (.int v3), some (.int y5.1)]) dX9_layWorst_41 (by decide) rfl rfl ?_
    refine am_iload dX9_layWorst_43 rfl rfl ?_
    refine am_aload_n dX9_layWorst_45 rfl rfl ?_
    refine am_gi_ dX9_layWorst_46 fl_X9_326 rfl hf (fun x6 _ hf => ?_)
    refine am_icmp_le (tgt := 68) dX9_layWorst_49 (by decide) rfl hf (fun hf => ?_) (fun hf => ?_)
    · exact am_we ((sfX9_layWorst_68 ih) _ _ _ _ _ _ hf) ⟨Or.inr rfl, Or.inr rfl, Or.inr rfl, Or.inr rfl, Or.inl rfl, trivial⟩
    refine am_aload_n dX9_layWorst_52 rfl rfl ?_
    refine am_iload dX9_layWorst_53 rfl rfl ?_
    refine am_pi_ dX9_layWorst_55 fl_X9_326 fp_9_72 (fun z => by cases z) rfl hf (fun h7 _ hf => ?_)
    refine am_aload_n dX9_layWorst_58 rfl rfl ?_
    refine am_iload_n dX9_layWorst_59 rfl rfl ?_
    refine am_pi_ dX9_layWorst_60 fl_X9_329 fp_9_73 (fun z => by cases z) rfl hf (fun h8 _ hf => ?_)
    refine am_aload_n dX9_layWorst_63 rfl rfl ?_
    refine am_iload_n dX9_layWorst_64 rfl rfl ?_
    refine am_pi_ dX9_layWorst_65 fl_X9_332 fp_9_74 (fun z => by cases z) rfl hf (fun h9 _ hf => ?_)
    exact am_we ((sfX9_layWorst_68 ih) _ _ _ _ _ _ hf) ⟨Or.inr rfl, Or.inr rfl, Or.inr rfl, Or.inr rfl, Or.inl rfl, trivial⟩
set_option maxRecDepth 20000 in
set_option maxHeartbeats 4000000 in
theorem sfX9_layWorst_7 {G : am_G}  : ∀ (n : Nat) (v0 : Option Nat) (v1 : Int32) (v2 : Int32) (h : am_H) (y : am_H) (hf : fX9_layWorst_7  n v0 v1 v2 h = some y), am_S G miX9_layWorst 7 [some (va_rf v0), some (.int v1), some (.int v2), none, none] [] h none y := by
  intro n
  induction n with
  | zero => intro v0 v1 v2 h y hf; cases hf
  | succ n ih =>
    intro v0 v1 v2 h y hf
    have hf : fX9_layWorst_7_b  (fX9_layWorst_7  n) v0 v1 v2 h = some y := hf
    unfold fX9_layWorst_7_b at hf
    refine am_iload_n dX9_layWorst_7 rfl rfl ?_
    refine am_iconst (v := 4) dX9_layWorst_8 rfl rfl ?_
    refine am_icmp_ge (tgt := 80) dX9_layWorst_9 (by decide) rfl hf (fun hf => ?_) (fun hf => ?_)
    · exact am_vret rfl dX9_layWorst_80 hf
    refine am_aload_n dX9_layWorst_12 rfl rfl ?_
    refine am_iload_n dX9_layWorst_13 rfl rfl ?_
    refine am_iload_n dX9_layWorst_14 rfl rfl ?_
    refine am_iconst (v := -1) dX9_layWorst_15 rfl rfl ?_
    refine am_cVv (As := [.int v1, .int v2, .int (-1 : Int32)]) (st := []) lk_X9_layWorst_280 rfl (Nat.le_of_ble_eq_true rfl) (Nat.le_of_ble_eq_true rfl) rfl dX9_layWorst_16 rfl hf (fun b2 y1 hf => sfX9_runAll b2 _ _ _ _ y1 hf) (fun b2 y1 _ _ hf => ?_)
    refine am_iconst (v := 0) dX9_layWorst_19 rfl rfl ?_
    refine am_istore_n (ls' := [some (va_rf v0), some (.int v1), some (.int v2), some (.int (0 : Int32)), none]) dX9_layWorst_20 (by decide) rfl rfl ?_
    exact (sfX9_layWorst_21 ih _) _ _ _ _ _ _ hf
set_option maxRecDepth 20000 in
set_option maxHeartbeats 4000000 in
theorem sfX9_layWorst {G : am_G}  (v0 : Nat) (v1 : Int32) (h : am_H) (y : am_H) (hf : fX9_layWorst v0 v1 h = some y) : am_Cn G miX9_layWorst [va_rf (some v0), .int v1] h none y := by
  refine am_beg (ls := [some (va_rf (some v0)), some (.int v1), none, none, none]) (by simp only [am_en, am_e1_r, am_e1_i, am_e1_l, am_e1_n]; rfl) ?_
  unfold fX9_layWorst at hf
  refine am_aload_n dX9_layWorst_0 rfl rfl ?_
  refine am_iconst (v := -1) dX9_layWorst_1 rfl rfl ?_
  refine am_pi_ dX9_layWorst_2 fl_X9_326 fp_9_72 (fun z => by cases z) rfl hf (fun h1 _ hf => ?_)
  refine am_iconst (v := 0) dX9_layWorst_5 rfl rfl ?_
  refine am_istore_n (ls' := [some (va_rf (some v0)), some (.int v1), some (.int (0 : Int32)), none, none]) dX9_layWorst_6 (by decide) rfl rfl ?_
  exact (sfX9_layWorst_7 _) _ _ _ _ _ hf
set_option maxRecDepth 20000 in
set_option maxHeartbeats 4000000 in
theorem sfX9_worst {G : am_G}  (v0 : Nat) (v1 : Int32) (v2 : Int32) (h : am_H) (y : Int32 × am_H) (hf : fX9_worst v0 v1 v2 h = some y) : am_Cn G miX9_worst [va_rf (some v0), .int v1, .int v2] h (some (.int y.1)) y.2 := by
  refine am_beg (ls := [some (va_rf (some v0)), some (.int v1), some (.int v2)]) (by simp only [am_en, am_e1_r, am_e1_i, am_e1_l, am_e1_n]; rfl) ?_
  unfold fX9_worst at hf
  refine am_aload_n dX9_worst_0 rfl rfl ?_
  refine am_iload_n dX9_worst_1 rfl rfl ?_
  refine am_cVi (As := [.int v1]) (st := []) lk_X9_worst_197 rfl (Nat.le_of_ble_eq_true rfl) (Nat.le_of_ble_eq_true rfl) rfl dX9_worst_2 rfl hf (fun b2 y1 hf => sfX9_isClock b2 _ _ y1 hf) (fun b2 y1 _ _ hf => ?_)
  refine am_if_ne (tgt := 11) dX9_worst_5 (by decide) rfl hf (fun hf => ?_) (fun hf => ?_)
  · refine am_iload_n dX9_worst_11 rfl rfl ?_
    refine am_iconst (v := 0) dX9_worst_12 rfl rfl ?_
    refine am_iconst (v := 2) dX9_worst_13 rfl rfl ?_
    refine am_cSi (As := [.int v2, .int (0 : Int32), .int (2 : Int32)]) (st := []) lk_X9_worst_132 rfl (Nat.le_of_ble_eq_true rfl) (Nat.le_of_ble_eq_true rfl) rfl dX9_worst_14 rfl hf (fun y3 hf => sfX9_within _ _ _ _ y3 hf) (fun y3 _ hf => ?_)
    refine am_if_ne (tgt := 23) dX9_worst_17 (by decide) rfl hf (fun hf => ?_) (fun hf => ?_)
    · refine am_aload_n dX9_worst_23 rfl rfl ?_
      refine am_iload_n dX9_worst_24 rfl rfl ?_
      refine am_cVv (As := [.int v1]) (st := []) lk_X9_worst_335 rfl (Nat.le_of_ble_eq_true rfl) (Nat.le_of_ble_eq_true rfl) rfl dX9_worst_25 rfl hf (fun b5 y4 hf => sfX9_layWorst b5 _ _ y4 hf) (fun b5 y4 _ _ hf => ?_)
      refine am_iload_n dX9_worst_28 rfl rfl ?_
      refine am_if_ne (tgt := 39) dX9_worst_29 (by decide) rfl hf (fun hf => ?_) (fun hf => ?_)
      · refine am_iload_n dX9_worst_39 rfl rfl ?_
        refine am_iconst (v := 1) dX9_worst_40 rfl rfl ?_
        refine am_icmp_ne (tgt := 51) dX9_worst_41 (by decide) rfl hf (fun hf => ?_) (fun hf => ?_)
        · refine am_aload_n dX9_worst_51 rfl rfl ?_
          refine am_gi_ dX9_worst_52 fl_X9_332 rfl hf (fun x6 _ hf => ?_)
          exact am_iret rfl dX9_worst_55 hf
        refine am_aload_n dX9_worst_44 rfl rfl ?_
        refine am_gi_ dX9_worst_45 fl_X9_329 rfl hf (fun x7 _ hf => ?_)
        refine am_goto (pc' := 55) dX9_worst_48 (by decide) ?_
        exact am_iret rfl dX9_worst_55 hf
      refine am_aload_n dX9_worst_32 rfl rfl ?_
      refine am_gi_ dX9_worst_33 fl_X9_326 rfl hf (fun x8 _ hf => ?_)
      refine am_goto (pc' := 55) dX9_worst_36 (by decide) ?_
      exact am_iret rfl dX9_worst_55 hf
    refine am_bipush (v := -102) dX9_worst_20 (by decide) rfl ?_
    exact am_iret rfl dX9_worst_22 hf
  refine am_bipush (v := -101) dX9_worst_8 (by decide) rfl ?_
  exact am_iret rfl dX9_worst_10 hf
set_option maxRecDepth 20000 in
set_option maxHeartbeats 4000000 in
theorem sfX8_better {G : am_G}  (v0 : Nat) (v1 : Int32) (v2 : Int32) (h : am_H) (y : Int32 × am_H) (hf : fX8_better v0 v1 v2 h = some y) : am_Cn G miX8_better [va_rf (some v0), .int v1, .int v2] h (some (.int y.1)) y.2 := by
  refine am_beg (ls := [some (va_rf (some v0)), some (.int v1), some (.int v2), none, none, none]) (by simp only [am_en, am_e1_r, am_e1_i, am_e1_l, am_e1_n]; rfl) ?_
  unfold fX8_better at hf
  refine am_aload_n dX8_better_0 rfl rfl ?_
  refine am_iload_n dX8_better_1 rfl rfl ?_
  refine am_cVr (As := [.int v1]) (st := []) lk_X8_better_117 rfl (Nat.le_of_ble_eq_true rfl) (Nat.le_of_ble_eq_true rfl) rfl dX8_better_2 rfl hf (fun b2 y1 hf => sfX8_clockOf b2 _ _ y1 hf) (fun b2 y1 _ _ hf => ?_)
  refine am_astore_n (ls' := [some (va_rf (some v0)), some (.int v1), some (.int v2), some (va_rf y1.1), none, none]) dX8_better_5 (by decide) rfl rfl ?_
  refine am_aload_n dX8_better_6 rfl rfl ?_
  refine am_iload_n dX8_better_7 rfl rfl ?_
  refine am_cVr (As := [.int v2]) (st := []) lk_X8_better_117 rfl (Nat.le_of_ble_eq_true rfl) (Nat.le_of_ble_eq_true rfl) rfl dX8_better_8 rfl hf (fun b4 y3 hf => sfX8_clockOf b4 _ _ y3 hf) (fun b4 y3 _ _ hf => ?_)
  refine am_astore (ls' := [some (va_rf (some v0)), some (.int v1), some (.int v2), some (va_rf y1.1), some (va_rf y3.1), none]) dX8_better_11 (by decide) (am_s1_r (j := 3) rfl rfl) rfl ?_
  refine am_aload_n dX8_better_13 rfl rfl ?_
  refine am_ifnull (tgt := 22) dX8_better_14 (by decide) rfl hf (fun hf => ?_) (fun hf => ?_)
  · refine am_bipush (v := -101) dX8_better_22 (by decide) rfl ?_
    exact am_iret rfl dX8_better_24 hf
  refine am_aload dX8_better_17 rfl rfl ?_
  refine am_ifnonnull (tgt := 25) dX8_better_19 (by decide) rfl hf (fun hf => ?_) (fun hf => ?_)
  · refine am_aload_n dX8_better_25 rfl rfl ?_
    refine am_aload_n dX8_better_26 rfl rfl ?_
    refine am_cVv (As := [va_rf y1.1]) (st := []) lk_X8_better_248 rfl (by simp only [am_e1_r, am_e1_i, am_e1_l, am_e1_n]; exact Nat.le_of_ble_eq_true rfl) (Nat.le_of_ble_eq_true rfl) rfl dX8_better_27 rfl hf (fun b6 y5 hf => sfX8_findWorst b6 _ _ y5 hf) (fun b6 y5 _ _ hf => ?_)
    refine am_aload_n dX8_better_30 rfl rfl ?_
    refine am_gr_ dX8_better_31 fl_X8_83 rfl hf (fun x7 _ hf => ?_)
    refine am_iconst (v := 0) dX8_better_34 rfl rfl ?_
    refine am_iald dX8_better_35 rfl hf (fun x8 _ hf => ?_)
    refine am_istore (ls' := [some (va_rf (some v0)), some (.int v1), some (.int v2), some (va_rf y1.1), some (va_rf y3.1), some (.int x8)]) dX8_better_36 (by decide) (am_s1_r (j := 4) rfl rfl) rfl ?_
    refine am_aload_n dX8_better_38 rfl rfl ?_
    refine am_aload dX8_better_39 rfl rfl ?_
    refine am_cVv (As := [va_rf y3.1]) (st := []) lk_X8_better_248 rfl (by simp only [am_e1_r, am_e1_i, am_e1_l, am_e1_n]; exact Nat.le_of_ble_eq_true rfl) (Nat.le_of_ble_eq_true rfl) rfl dX8_better_41 rfl hf (fun b10 y9 hf => sfX8_findWorst b10 _ _ y9 hf) (fun b10 y9 _ _ hf => ?_)
    refine am_aload_n dX8_better_44 rfl rfl ?_
    refine am_gr_ dX8_better_45 fl_X8_83 rfl hf (fun x11 _ hf => ?_)
    refine am_iconst (v := 0) dX8_better_48 rfl rfl ?_
    refine am_iald dX8_better_49 rfl hf (fun x12 _ hf => ?_)
    refine am_iload dX8_better_50 rfl rfl ?_
    refine am_icmp_ge (tgt := 59) dX8_better_52 (by decide) rfl hf (fun hf => ?_) (fun hf => ?_)
    · refine am_iload_n dX8_better_59 rfl rfl ?_
      exact am_iret rfl dX8_better_60 hf
    refine am_iload_n dX8_better_55 rfl rfl ?_
    refine am_goto (pc' := 60) dX8_better_56 (by decide) ?_
    exact am_iret rfl dX8_better_60 hf
  refine am_bipush (v := -101) dX8_better_22 (by decide) rfl ?_
  exact am_iret rfl dX8_better_24 hf
set_option maxRecDepth 20000 in
set_option maxHeartbeats 4000000 in
theorem sfX9_better {G : am_G}  (v0 : Nat) (v1 : Int32) (v2 : Int32) (h : am_H) (y : Int32 × am_H) (hf : fX9_better v0 v1 v2 h = some y) : am_Cn G miX9_better [va_rf (some v0), .int v1, .int v2] h (some (.int y.1)) y.2 := by
  refine am_beg (ls := [some (va_rf (some v0)), some (.int v1), some (.int v2), none]) (by simp only [am_en, am_e1_r, am_e1_i, am_e1_l, am_e1_n]; rfl) ?_
  unfold fX9_better at hf
  refine am_aload_n dX9_better_0 rfl rfl ?_
  refine am_iload_n dX9_better_1 rfl rfl ?_
  refine am_cVi (As := [.int v1]) (st := []) lk_X9_better_197 rfl (Nat.le_of_ble_eq_true rfl) (Nat.le_of_ble_eq_true rfl) rfl dX9_better_2 rfl hf (fun b2 y1 hf => sfX9_isClock b2 _ _ y1 hf) (fun b2 y1 _ _ hf => ?_)
  refine am_if_eq (tgt := 16) dX9_better_5 (by decide) rfl hf (fun hf => ?_) (fun hf => ?_)
  · refine am_bipush (v := -101) dX9_better_16 (by decide) rfl ?_
    exact am_iret rfl dX9_better_18 hf
  refine am_aload_n dX9_better_8 rfl rfl ?_
  refine am_iload_n dX9_better_9 rfl rfl ?_
  refine am_cVi (As := [.int v2]) (st := []) lk_X9_better_197 rfl (Nat.le_of_ble_eq_true rfl) (Nat.le_of_ble_eq_true rfl) rfl dX9_better_10 rfl hf (fun b4 y3 hf => sfX9_isClock b4 _ _ y3 hf) (fun b4 y3 _ _ hf => ?_)
  refine am_if_ne (tgt := 19) dX9_better_13 (by decide) rfl hf (fun hf => ?_) (fun hf => ?_)
  · refine am_aload_n dX9_better_19 rfl rfl ?_
    refine am_iload_n dX9_better_20 rfl rfl ?_
    refine am_cVv (As := [.int v1]) (st := []) lk_X9_better_335 rfl (Nat.le_of_ble_eq_true rfl) (Nat.le_of_ble_eq_true rfl) rfl dX9_better_21 rfl hf (fun b6 y5 hf => sfX9_layWorst b6 _ _ y5 hf) (fun b6 y5 _ _ hf => ?_)
    refine am_aload_n dX9_better_24 rfl rfl ?_
    refine am_gi_ dX9_better_25 fl_X9_326 rfl hf (fun x7 _ hf => ?_)
    refine am_istore_n (ls' := [some (va_rf (some v0)), some (.int v1), some (.int v2), some (.int x7)]) dX9_better_28 (by decide) rfl rfl ?_
    refine am_aload_n dX9_better_29 rfl rfl ?_
    refine am_iload_n dX9_better_30 rfl rfl ?_
    refine am_cVv (As := [.int v2]) (st := []) lk_X9_better_335 rfl (Nat.le_of_ble_eq_true rfl) (Nat.le_of_ble_eq_true rfl) rfl dX9_better_31 rfl hf (fun b9 y8 hf => sfX9_layWorst b9 _ _ y8 hf) (fun b9 y8 _ _ hf => ?_)
    refine am_aload_n dX9_better_34 rfl rfl ?_
    refine am_gi_ dX9_better_35 fl_X9_326 rfl hf (fun x10 _ hf => ?_)
    refine am_iload_n dX9_better_38 rfl rfl ?_
    refine am_icmp_ge (tgt := 46) dX9_better_39 (by decide) rfl hf (fun hf => ?_) (fun hf => ?_)
    · refine am_iload_n dX9_better_46 rfl rfl ?_
      exact am_iret rfl dX9_better_47 hf
    refine am_iload_n dX9_better_42 rfl rfl ?_
    refine am_goto (pc' := 47) dX9_better_43 (by decide) ?_
    exact am_iret rfl dX9_better_47 hf
  refine am_bipush (v := -101) dX9_better_16 (by decide) rfl ?_
  exact am_iret rfl dX9_better_18 hf
set_option maxRecDepth 20000 in
set_option maxHeartbeats 4000000 in
theorem sfX5_levelWithoutSiphon {G : am_G}  (v0 : Nat) (h : am_H) (y : Int32 × am_H) (hf : fX5_levelWithoutSiphon v0 h = some y) : am_Cn G miX5_levelWithoutSiphon [va_rf (some v0)] h (some (.int y.1)) y.2 := by
  refine am_beg (ls := [some (va_rf (some v0))]) (by simp only [am_en, am_e1_r, am_e1_i, am_e1_l, am_e1_n]; rfl) ?_
  unfold fX5_levelWithoutSiphon at hf
  refine am_aload_n dX5_levelWithoutSiphon_0 rfl rfl ?_
  refine am_gi_ dX5_levelWithoutSiphon_1 fl_X5_41 rfl hf (fun x1 _ hf => ?_)
  refine am_aload_n dX5_levelWithoutSiphon_4 rfl rfl ?_
  refine am_gr_ dX5_levelWithoutSiphon_5 fl_X5_18 rfl hf (fun x2 _ hf => ?_)
  refine am_gi_ dX5_levelWithoutSiphon_8 fl_X5_127 rfl hf (fun x3 _ hf => ?_)
  refine am_cTi (As := [.int x1, .int x3]) (st := []) lk_X5_levelWithoutSiphon_98 rfl (Nat.le_of_ble_eq_true rfl) (Nat.le_of_ble_eq_true rfl) rfl dX5_levelWithoutSiphon_11 rfl hf (fun y4 hf => sfX8_quotient _ _ _ y4 hf) (fun y4 _ hf => ?_)
  exact am_iret rfl dX5_levelWithoutSiphon_14 hf
set_option maxRecDepth 20000 in
set_option maxHeartbeats 4000000 in
theorem sfX8_mark_91 {G : am_G}  (v5 : Int32) (s0 : Int32) (h : am_H) (y : Int32 × am_H) (hf : fX8_mark_91  v5 s0 h = some y) : am_S G miX8_mark 91 [none, none, none, none, none, some (.int v5), none] [.int s0] h (some (.int y.1)) y.2 := by
  unfold fX8_mark_91 at hf
  refine am_istore (ls' := [none, none, none, none, none, some (.int v5), some (.int s0)]) dX8_mark_91 (by decide) rfl rfl ?_
  refine am_iload dX8_mark_93 rfl rfl ?_
  refine am_if_eq (tgt := 112) dX8_mark_95 (by decide) rfl hf (fun hf => ?_) (fun hf => ?_)
  · refine am_iconst (v := -1) dX8_mark_112 rfl rfl ?_
    exact am_iret rfl dX8_mark_113 hf
  refine am_iload dX8_mark_98 rfl rfl ?_
  refine am_bipush (v := 99) dX8_mark_100 (by decide) rfl ?_
  refine am_icmp_ge (tgt := 112) dX8_mark_102 (by decide) rfl hf (fun hf => ?_) (fun hf => ?_)
  · refine am_iconst (v := -1) dX8_mark_112 rfl rfl ?_
    exact am_iret rfl dX8_mark_113 hf
  refine am_iload dX8_mark_105 rfl rfl ?_
  refine am_iconst (v := 1) dX8_mark_107 rfl rfl ?_
  refine am_iadd dX8_mark_108 rfl ?_
  refine am_goto (pc' := 113) dX8_mark_109 (by decide) ?_
  exact am_iret rfl dX8_mark_113 hf
set_option maxRecDepth 20000 in
set_option maxHeartbeats 4000000 in
theorem sfX8_mark {G : am_G}  (v0 : Nat) (v1 : Int32) (v2 : Int32) (v3 : Int32) (h : am_H) (y : Int32 × am_H) (hf : fX8_mark v0 v1 v2 v3 h = some y) : am_Cn G miX8_mark [va_rf (some v0), .int v1, .int v2, .int v3] h (some (.int y.1)) y.2 := by
  refine am_beg (ls := [some (va_rf (some v0)), some (.int v1), some (.int v2), some (.int v3), none, none, none]) (by simp only [am_en, am_e1_r, am_e1_i, am_e1_l, am_e1_n]; rfl) ?_
  unfold fX8_mark at hf
  refine am_aload_n dX8_mark_0 rfl rfl ?_
  refine am_iload_n dX8_mark_1 rfl rfl ?_
  refine am_iload_n dX8_mark_2 rfl rfl ?_
  refine am_iconst (v := -1) dX8_mark_3 rfl rfl ?_
  refine am_cVi (As := [.int v1, .int v2, .int (-1 : Int32)]) (st := []) lk_X8_mark_200 rfl (Nat.le_of_ble_eq_true rfl) (Nat.le_of_ble_eq_true rfl) rfl dX8_mark_4 rfl hf (fun b2 y1 hf => sfX8_startRun b2 _ _ _ _ y1 hf) (fun b2 y1 _ _ hf => ?_)
  refine am_if_eq (tgt := 24) dX8_mark_7 (by decide) rfl hf (fun hf => ?_) (fun hf => ?_)
  · refine am_bipush (v := -101) dX8_mark_24 (by decide) rfl ?_
    exact am_iret rfl dX8_mark_26 hf
  refine am_aload_n dX8_mark_10 rfl rfl ?_
  refine am_gr_ dX8_mark_11 fl_X8_62 rfl hf (fun x3 _ hf => ?_)
  refine am_gr_ dX8_mark_14 fl_X8_203 rfl hf (fun x4 _ hf => ?_)
  refine am_iload_n dX8_mark_17 rfl rfl ?_
  refine am_cVi (As := [.int v3]) (st := []) lk_X8_mark_206 rfl (Nat.le_of_ble_eq_true rfl) (Nat.le_of_ble_eq_true rfl) rfl dX8_mark_18 rfl hf (fun b6 y5 hf => sfX0_hasBall b6 _ _ y5 hf) (fun b6 y5 _ _ hf => ?_)
  refine am_if_ne (tgt := 27) dX8_mark_21 (by decide) rfl hf (fun hf => ?_) (fun hf => ?_)
  · refine am_aload_n dX8_mark_27 rfl rfl ?_
    refine am_gr_ dX8_mark_28 fl_X8_62 rfl hf (fun x7 _ hf => ?_)
    refine am_gr_ dX8_mark_31 fl_X8_203 rfl hf (fun x8 _ hf => ?_)
    refine am_iload_n dX8_mark_34 rfl rfl ?_
    refine am_aload_n dX8_mark_35 rfl rfl ?_
    refine am_iload_n dX8_mark_36 rfl rfl ?_
    refine am_cVi (As := [.int v2]) (st := [.int v3, va_rf x8]) lk_X8_mark_216 rfl (Nat.le_of_ble_eq_true rfl) (by simp only [List.map_cons, List.map_nil, am_c1, am_ci, am_cl]; exact Nat.le_of_ble_eq_true rfl) rfl dX8_mark_37 rfl hf (fun b10 y9 hf => sfX8_daylightOf b10 _ _ y9 hf) (fun b10 y9 _ _ hf => ?_)
    refine am_cVi (As := [.int v3, .int y9.1]) (st := []) lk_X8_mark_251 rfl (Nat.le_of_ble_eq_true rfl) (Nat.le_of_ble_eq_true rfl) rfl dX8_mark_40 rfl hf (fun b12 y11 hf => sfX0_trueTick b12 _ _ _ y11 hf) (fun b12 y11 _ _ hf => ?_)
    refine am_istore (ls' := [some (va_rf (some v0)), some (.int v1), some (.int v2), some (.int v3), some (.int y11.1), none, none]) dX8_mark_43 (by decide) rfl rfl ?_
    refine am_aload_n dX8_mark_45 rfl rfl ?_
    refine am_gr_ dX8_mark_46 fl_X8_62 rfl hf (fun x13 _ hf => ?_)
    refine am_iload dX8_mark_49 rfl rfl ?_
    refine am_cVv (As := [.int y11.1]) (st := []) lk_X8_mark_209 rfl (Nat.le_of_ble_eq_true rfl) (Nat.le_of_ble_eq_true rfl) rfl dX8_mark_51 rfl hf (fun b15 y14 hf => sfX5_goOnTo b15 _ _ y14 hf) (fun b15 y14 _ _ hf => ?_)
    refine am_aload_n dX8_mark_54 rfl rfl ?_
    refine am_gr_ dX8_mark_55 fl_X8_62 rfl hf (fun x16 _ hf => ?_)
    refine am_cVi (As := []) (st := []) lk_X8_mark_254 rfl (Nat.le_of_ble_eq_true rfl) (Nat.le_of_ble_eq_true rfl) rfl dX8_mark_58 rfl hf (fun b18 y17 hf => sfX5_levelWithoutSiphon b18  _ y17 hf) (fun b18 y17 _ _ hf => ?_)
    refine am_istore (ls' := [some (va_rf (some v0)), some (.int v1), some (.int v2), some (.int v3), some (.int y11.1), some (.int y17.1), none]) dX8_mark_61 (by decide) rfl rfl ?_
    refine am_aload_n dX8_mark_63 rfl rfl ?_
    refine am_gr_ dX8_mark_64 fl_X8_62 rfl hf (fun x19 _ hf => ?_)
    refine am_iload dX8_mark_67 rfl rfl ?_
    refine am_iconst (v := 1) dX8_mark_69 rfl rfl ?_
    refine am_iadd dX8_mark_70 rfl ?_
    refine am_cVv (As := [.int (y11.1 + (1 : Int32))]) (st := []) lk_X8_mark_209 rfl (Nat.le_of_ble_eq_true rfl) (Nat.le_of_ble_eq_true rfl) rfl dX8_mark_71 rfl hf (fun b21 y20 hf => sfX5_goOnTo b21 _ _ y20 hf) (fun b21 y20 _ _ hf => ?_)
    refine am_aload_n dX8_mark_74 rfl rfl ?_
    refine am_gr_ dX8_mark_75 fl_X8_62 rfl hf (fun x22 _ hf => ?_)
    refine am_cVi (As := []) (st := []) lk_X8_mark_254 rfl (Nat.le_of_ble_eq_true rfl) (Nat.le_of_ble_eq_true rfl) rfl dX8_mark_78 rfl hf (fun b24 y23 hf => sfX5_levelWithoutSiphon b24  _ y23 hf) (fun b24 y23 _ _ hf => ?_)
    refine am_iload dX8_mark_81 rfl rfl ?_
    refine am_icmp_le (tgt := 90) dX8_mark_83 (by decide) rfl hf (fun hf => ?_) (fun hf => ?_)
    · refine am_iconst (v := 0) dX8_mark_90 rfl rfl ?_
      exact am_we (sfX8_mark_91 _ _ _ _ hf) ⟨Or.inl rfl, Or.inl rfl, Or.inl rfl, Or.inl rfl, Or.inl rfl, Or.inr rfl, Or.inl rfl, trivial⟩
    refine am_iconst (v := 1) dX8_mark_86 rfl rfl ?_
    refine am_goto (pc' := 91) dX8_mark_87 (by decide) ?_
    exact am_we (sfX8_mark_91 _ _ _ _ hf) ⟨Or.inl rfl, Or.inl rfl, Or.inl rfl, Or.inl rfl, Or.inl rfl, Or.inr rfl, Or.inl rfl, trivial⟩
  refine am_bipush (v := -101) dX8_mark_24 (by decide) rfl ?_
  exact am_iret rfl dX8_mark_26 hf
set_option maxRecDepth 20000 in
set_option maxHeartbeats 4000000 in
theorem sfX9_mark_83 {G : am_G}  (v0 : Option Nat) (v4 : Int32) (s0 : Int32) (h : am_H) (y : Int32 × am_H) (hf : fX9_mark_83  v0 v4 s0 h = some y) : am_S G miX9_mark 83 [some (va_rf v0), none, none, none, some (.int v4), none] [.int s0] h (some (.int y.1)) y.2 := by
  unfold fX9_mark_83 at hf
  refine am_iconst (v := 1) dX9_mark_83 rfl rfl ?_
  refine am_iadd dX9_mark_84 rfl ?_
  refine am_istore (ls' := [some (va_rf v0), none, none, none, some (.int v4), some (.int (s0 + (1 : Int32)))]) dX9_mark_85 (by decide) rfl rfl ?_
  refine am_iload dX9_mark_87 rfl rfl ?_
  refine am_aload_n dX9_mark_89 rfl rfl ?_
  refine am_gr_ dX9_mark_90 fl_X9_105 rfl hf (fun x1 _ hf => ?_)
  refine am_iload dX9_mark_93 rfl rfl ?_
  refine am_iald dX9_mark_95 rfl hf (fun x2 _ hf => ?_)
  refine am_icmp_gt (tgt := 111) dX9_mark_96 (by decide) rfl hf (fun hf => ?_) (fun hf => ?_)
  · refine am_iconst (v := -1) dX9_mark_111 rfl rfl ?_
    exact am_iret rfl dX9_mark_112 hf
  refine am_iload dX9_mark_99 rfl rfl ?_
  refine am_bipush (v := 99) dX9_mark_101 (by decide) rfl ?_
  refine am_icmp_gt (tgt := 111) dX9_mark_103 (by decide) rfl hf (fun hf => ?_) (fun hf => ?_)
  · refine am_iconst (v := -1) dX9_mark_111 rfl rfl ?_
    exact am_iret rfl dX9_mark_112 hf
  refine am_iload dX9_mark_106 rfl rfl ?_
  refine am_goto (pc' := 112) dX9_mark_108 (by decide) ?_
  exact am_iret rfl dX9_mark_112 hf
set_option maxRecDepth 20000 in
set_option maxHeartbeats 4000000 in
theorem sfX9_mark {G : am_G}  (v0 : Nat) (v1 : Int32) (v2 : Int32) (v3 : Int32) (h : am_H) (y : Int32 × am_H) (hf : fX9_mark v0 v1 v2 v3 h = some y) : am_Cn G miX9_mark [va_rf (some v0), .int v1, .int v2, .int v3] h (some (.int y.1)) y.2 := by
  refine am_beg (ls := [some (va_rf (some v0)), some (.int v1), some (.int v2), some (.int v3), none, none]) (by simp only [am_en, am_e1_r, am_e1_i, am_e1_l, am_e1_n]; rfl) ?_
  unfold fX9_mark at hf
  refine am_aload_n dX9_mark_0 rfl rfl ?_
  refine am_iload_n dX9_mark_1 rfl rfl ?_
  refine am_cVi (As := [.int v1]) (st := []) lk_X9_mark_197 rfl (Nat.le_of_ble_eq_true rfl) (Nat.le_of_ble_eq_true rfl) rfl dX9_mark_2 rfl hf (fun b2 y1 hf => sfX9_isClock b2 _ _ y1 hf) (fun b2 y1 _ _ hf => ?_)
  refine am_if_eq (tgt := 24) dX9_mark_5 (by decide) rfl hf (fun hf => ?_) (fun hf => ?_)
  · refine am_bipush (v := -101) dX9_mark_24 (by decide) rfl ?_
    exact am_iret rfl dX9_mark_26 hf
  refine am_iload_n dX9_mark_8 rfl rfl ?_
  refine am_cSi (As := [.int v2]) (st := []) lk_X9_mark_203 rfl (Nat.le_of_ble_eq_true rfl) (Nat.le_of_ble_eq_true rfl) rfl dX9_mark_9 rfl hf (fun y3 hf => sfX9_isSeason _ _ y3 hf) (fun y3 _ hf => ?_)
  refine am_if_eq (tgt := 24) dX9_mark_12 (by decide) rfl hf (fun hf => ?_) (fun hf => ?_)
  · refine am_bipush (v := -101) dX9_mark_24 (by decide) rfl ?_
    exact am_iret rfl dX9_mark_26 hf
  refine am_aload_n dX9_mark_15 rfl rfl ?_
  refine am_iload_n dX9_mark_16 rfl rfl ?_
  refine am_iload_n dX9_mark_17 rfl rfl ?_
  refine am_cVi (As := [.int v1, .int v3]) (st := []) lk_X9_mark_194 rfl (Nat.le_of_ble_eq_true rfl) (Nat.le_of_ble_eq_true rfl) rfl dX9_mark_18 rfl hf (fun b5 y4 hf => sfX9_isBall b5 _ _ _ y4 hf) (fun b5 y4 _ _ hf => ?_)
  refine am_if_ne (tgt := 27) dX9_mark_21 (by decide) rfl hf (fun hf => ?_) (fun hf => ?_)
  · refine am_aload_n dX9_mark_27 rfl rfl ?_
    refine am_iload_n dX9_mark_28 rfl rfl ?_
    refine am_iconst (v := -1) dX9_mark_29 rfl rfl ?_
    refine am_cVv (As := [.int v1, .int (-1 : Int32)]) (st := []) lk_X9_mark_270 rfl (Nat.le_of_ble_eq_true rfl) (Nat.le_of_ble_eq_true rfl) rfl dX9_mark_30 rfl hf (fun b7 y6 hf => sfX9_load b7 _ _ _ y6 hf) (fun b7 y6 _ _ hf => ?_)
    refine am_aload_n dX9_mark_33 rfl rfl ?_
    refine am_iconst (v := 0) dX9_mark_34 rfl rfl ?_
    refine am_pz_ dX9_mark_35 fl_X9_221 fp_9_45 (fun z => by cases z) rfl hf (fun h8 _ hf => ?_)
    refine am_aload_n dX9_mark_38 rfl rfl ?_
    refine am_iload_n dX9_mark_39 rfl rfl ?_
    refine am_iload_n dX9_mark_40 rfl rfl ?_
    refine am_bipush (v := 95) dX9_mark_41 (by decide) rfl ?_
    refine am_cVv (As := [.int v1, .int v2, .int (95 : Int32)]) (st := []) lk_X9_mark_274 rfl (Nat.le_of_ble_eq_true rfl) (Nat.le_of_ble_eq_true rfl) rfl dX9_mark_43 rfl hf (fun b10 y9 hf => sfX9_run b10 _ _ _ _ y9 hf) (fun b10 y9 _ _ hf => ?_)
    refine am_iload_n dX9_mark_46 rfl rfl ?_
    refine am_iconst (v := 1) dX9_mark_47 rfl rfl ?_
    refine am_iadd dX9_mark_48 rfl ?_
    refine am_aload_n dX9_mark_49 rfl rfl ?_
    refine am_gr_ dX9_mark_50 fl_X9_40 rfl hf (fun x11 _ hf => ?_)
    refine am_iload_n dX9_mark_53 rfl rfl ?_
    refine am_iald dX9_mark_54 rfl hf (fun x12 _ hf => ?_)
    refine am_imul dX9_mark_55 rfl ?_
    refine am_aload_n dX9_mark_56 rfl rfl ?_
    refine am_gr_ dX9_mark_57 fl_X9_31 rfl hf (fun x13 _ hf => ?_)
    refine am_iload_n dX9_mark_60 rfl rfl ?_
    refine am_iald dX9_mark_61 rfl hf (fun x14 _ hf => ?_)
    refine am_idiv dX9_mark_62 rfl hf (fun hf => ?_)
    refine am_istore (ls' := [some (va_rf (some v0)), some (.int v1), some (.int v2), some (.int v3), some (.int (((v3 + (1 : Int32)) * x12) / x14)), none]) dX9_mark_63 (by decide) rfl rfl ?_
    refine am_iload dX9_mark_65 rfl rfl ?_
    refine am_if_ne (tgt := 74) dX9_mark_67 (by decide) rfl hf (fun hf => ?_) (fun hf => ?_)
    · refine am_aload_n dX9_mark_74 rfl rfl ?_
      refine am_gr_ dX9_mark_75 fl_X9_105 rfl hf (fun x15 _ hf => ?_)
      refine am_iload dX9_mark_78 rfl rfl ?_
      refine am_iconst (v := 1) dX9_mark_80 rfl rfl ?_
      refine am_isub dX9_mark_81 rfl ?_
      refine am_iald dX9_mark_82 rfl hf (fun x16 _ hf => ?_)
      exact am_we (sfX9_mark_83 _ _ _ _ _ hf) ⟨Or.inr rfl, Or.inl rfl, Or.inl rfl, Or.inl rfl, Or.inr rfl, Or.inl rfl, trivial⟩
    refine am_iconst (v := 0) dX9_mark_70 rfl rfl ?_
    refine am_goto (pc' := 83) dX9_mark_71 (by decide) ?_
    exact am_we (sfX9_mark_83 _ _ _ _ _ hf) ⟨Or.inr rfl, Or.inl rfl, Or.inl rfl, Or.inl rfl, Or.inr rfl, Or.inl rfl, trivial⟩
  refine am_bipush (v := -101) dX9_mark_24 (by decide) rfl ?_
  exact am_iret rfl dX9_mark_26 hf
set_option maxRecDepth 20000 in
set_option maxHeartbeats 4000000 in
theorem sfX5_hasErrorAbove_2 {G : am_G}  : ∀ (n : Nat) (v0 : Option Nat) (v1 : Int32) (v2 : Int32) (v3 : Int32) (h : am_H) (y : Int32 × am_H) (hf : fX5_hasErrorAbove_2  n v0 v1 v2 v3 h = some y), am_S G miX5_hasErrorAbove 2 [some (va_rf v0), some (.int v1), some (.int v2), some (.int v3)] [] h (some (.int y.1)) y.2 := by
  intro n
  induction n with
  | zero => intro v0 v1 v2 v3 h y hf; cases hf
  | succ n ih =>
    intro v0 v1 v2 v3 h y hf
    have hf : fX5_hasErrorAbove_2_b  (fX5_hasErrorAbove_2  n) v0 v1 v2 v3 h = some y := hf
    unfold fX5_hasErrorAbove_2_b at hf
    refine am_iload_n dX5_hasErrorAbove_2 rfl rfl ?_
    refine am_aload_n dX5_hasErrorAbove_3 rfl rfl ?_
    refine am_gr_ dX5_hasErrorAbove_4 fl_X5_18 rfl hf (fun x1 _ hf => ?_)
    refine am_gi_ dX5_hasErrorAbove_7 fl_X5_130 rfl hf (fun x2 _ hf => ?_)
    refine am_icmp_ge (tgt := 31) dX5_hasErrorAbove_10 (by decide) rfl hf (fun hf => ?_) (fun hf => ?_)
    · refine am_iconst (v := 0) dX5_hasErrorAbove_31 rfl rfl ?_
      exact am_zret rfl dX5_hasErrorAbove_32 hf
    refine am_aload_n dX5_hasErrorAbove_13 rfl rfl ?_
    refine am_iload_n dX5_hasErrorAbove_14 rfl rfl ?_
    refine am_iload_n dX5_hasErrorAbove_15 rfl rfl ?_
    refine am_cVi (As := [.int v3, .int v2]) (st := []) lk_X5_hasErrorAbove_154 rfl (Nat.le_of_ble_eq_true rfl) (Nat.le_of_ble_eq_true rfl) rfl dX5_hasErrorAbove_16 rfl hf (fun b4 y3 hf => sfX5_errorSize b4 _ _ _ y3 hf) (fun b4 y3 _ _ hf => ?_)
    refine am_iload_n dX5_hasErrorAbove_19 rfl rfl ?_
    refine am_icmp_le (tgt := 25) dX5_hasErrorAbove_20 (by decide) rfl hf (fun hf => ?_) (fun hf => ?_)
    · refine am_iinc (ls' := [some (va_rf v0), some (.int v1), some (.int v2), some (.int (v3 + (1 : Int32)))]) dX5_hasErrorAbove_25 rfl rfl (by decide) rfl rfl ?_
      refine am_goto (pc' := 2) dX5_hasErrorAbove_28 (by decide) ?_
      exact ih _ _ _ _ _ _ hf
    refine am_iconst (v := 1) dX5_hasErrorAbove_23 rfl rfl ?_
    exact am_zret rfl dX5_hasErrorAbove_24 hf
