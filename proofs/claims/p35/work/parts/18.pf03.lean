/-! printed proofs of the printed functions, 3 -/
set_option maxRecDepth 20000 in
set_option maxHeartbeats 4000000 in
theorem sfL_clock_73 {G : am_G}  : ∀ (n : Nat) (v0 : Option Nat) (v2 : Int32) (v3 : Int32) (v4 : Int32) (v5 : Option Nat) (v6 : Int32) (v7 : Int32) (h : am_H) (y : Int32 × am_H) (hf : fL_clock_73  n v0 v2 v3 v4 v5 v6 v7 h = some y), am_S G miL_clock 73 [some (va_rf v0), none, some (.int v2), some (.int v3), some (.int v4), some (va_rf v5), some (.int v6), some (.int v7), none] [] h (some (.int y.1)) y.2 := by
  intro n
  induction n with
  | zero => intro v0 v2 v3 v4 v5 v6 v7 h y hf; cases hf
  | succ n ih =>
    intro v0 v2 v3 v4 v5 v6 v7 h y hf
    have hf : fL_clock_73_b  (fL_clock_73  n) v0 v2 v3 v4 v5 v6 v7 h = some y := hf
    unfold fL_clock_73_b at hf
    refine am_iload dL_clock_73 rfl rfl ?_
    refine am_aload dL_clock_75 rfl rfl ?_
    refine am_iconst (v := 0) dL_clock_77 rfl rfl ?_
    refine am_iald dL_clock_78 rfl hf (fun x1 _ hf => ?_)
    refine am_icmp_ge (tgt := 260) dL_clock_79 (by decide) rfl hf (fun hf => ?_) (fun hf => ?_)
    · refine am_iload dL_clock_260 rfl rfl ?_
      refine am_if_eq (tgt := 356) dL_clock_262 (by decide) rfl hf (fun hf => ?_) (fun hf => ?_)
      · exact am_we ((sfL_clock_356 sfL_clock_357) _ _ _ _ _ _ hf) ⟨Or.inr rfl, Or.inl rfl, Or.inr rfl, Or.inl rfl, Or.inr rfl, Or.inr rfl, Or.inl rfl, Or.inl rfl, Or.inl rfl, trivial⟩
      refine am_aload_n dL_clock_265 rfl rfl ?_
      refine am_bipush (v := 61) dL_clock_266 (by decide) rfl ?_
      refine am_cSi (As := [va_rf v0, .int (61 : Int32)]) (st := []) lk_L_clock_14 rfl (by simp only [am_e1_r, am_e1_i, am_e1_l, am_e1_n]; exact Nat.le_of_ble_eq_true rfl) (Nat.le_of_ble_eq_true rfl) rfl dL_clock_268 rfl hf (fun y2 hf => sfL_put _ _ _ y2 hf) (fun y2 _ hf => ?_)
      refine am_if_eq (tgt := 356) dL_clock_271 (by decide) rfl hf (fun hf => ?_) (fun hf => ?_)
      · exact am_we ((sfL_clock_356 sfL_clock_357) _ _ _ _ _ _ hf) ⟨Or.inr rfl, Or.inl rfl, Or.inr rfl, Or.inl rfl, Or.inr rfl, Or.inr rfl, Or.inl rfl, Or.inl rfl, Or.inl rfl, trivial⟩
      refine am_aload_n dL_clock_274 rfl rfl ?_
      refine am_aload dL_clock_275 rfl rfl ?_
      refine am_iconst (v := 1) dL_clock_277 rfl rfl ?_
      refine am_iald dL_clock_278 rfl hf (fun x3 _ hf => ?_)
      refine am_cSi (As := [va_rf v0, .int x3]) (st := []) lk_L_clock_21 rfl (by simp only [am_e1_r, am_e1_i, am_e1_l, am_e1_n]; exact Nat.le_of_ble_eq_true rfl) (Nat.le_of_ble_eq_true rfl) rfl dL_clock_279 rfl hf (fun y4 hf => sfL_number _ _ _ y4 hf) (fun y4 _ hf => ?_)
      refine am_if_eq (tgt := 356) dL_clock_282 (by decide) rfl hf (fun hf => ?_) (fun hf => ?_)
      · exact am_we ((sfL_clock_356 sfL_clock_357) _ _ _ _ _ _ hf) ⟨Or.inr rfl, Or.inl rfl, Or.inr rfl, Or.inl rfl, Or.inr rfl, Or.inr rfl, Or.inl rfl, Or.inl rfl, Or.inl rfl, trivial⟩
      refine am_aload_n dL_clock_285 rfl rfl ?_
      refine am_bipush (v := 120) dL_clock_286 (by decide) rfl ?_
      refine am_cSi (As := [va_rf v0, .int (120 : Int32)]) (st := []) lk_L_clock_14 rfl (by simp only [am_e1_r, am_e1_i, am_e1_l, am_e1_n]; exact Nat.le_of_ble_eq_true rfl) (Nat.le_of_ble_eq_true rfl) rfl dL_clock_288 rfl hf (fun y5 hf => sfL_put _ _ _ y5 hf) (fun y5 _ hf => ?_)
      refine am_if_eq (tgt := 356) dL_clock_291 (by decide) rfl hf (fun hf => ?_) (fun hf => ?_)
      · exact am_we ((sfL_clock_356 sfL_clock_357) _ _ _ _ _ _ hf) ⟨Or.inr rfl, Or.inl rfl, Or.inr rfl, Or.inl rfl, Or.inr rfl, Or.inr rfl, Or.inl rfl, Or.inl rfl, Or.inl rfl, trivial⟩
      refine am_aload_n dL_clock_294 rfl rfl ?_
      refine am_aload dL_clock_295 rfl rfl ?_
      refine am_iconst (v := 2) dL_clock_297 rfl rfl ?_
      refine am_iald dL_clock_298 rfl hf (fun x6 _ hf => ?_)
      refine am_cSi (As := [va_rf v0, .int x6]) (st := []) lk_L_clock_21 rfl (by simp only [am_e1_r, am_e1_i, am_e1_l, am_e1_n]; exact Nat.le_of_ble_eq_true rfl) (Nat.le_of_ble_eq_true rfl) rfl dL_clock_299 rfl hf (fun y7 hf => sfL_number _ _ _ y7 hf) (fun y7 _ hf => ?_)
      refine am_if_eq (tgt := 356) dL_clock_302 (by decide) rfl hf (fun hf => ?_) (fun hf => ?_)
      · exact am_we ((sfL_clock_356 sfL_clock_357) _ _ _ _ _ _ hf) ⟨Or.inr rfl, Or.inl rfl, Or.inr rfl, Or.inl rfl, Or.inr rfl, Or.inr rfl, Or.inl rfl, Or.inl rfl, Or.inl rfl, trivial⟩
      refine am_aload_n dL_clock_305 rfl rfl ?_
      refine am_bipush (v := 59) dL_clock_306 (by decide) rfl ?_
      refine am_cSi (As := [va_rf v0, .int (59 : Int32)]) (st := []) lk_L_clock_14 rfl (by simp only [am_e1_r, am_e1_i, am_e1_l, am_e1_n]; exact Nat.le_of_ble_eq_true rfl) (Nat.le_of_ble_eq_true rfl) rfl dL_clock_308 rfl hf (fun y8 hf => sfL_put _ _ _ y8 hf) (fun y8 _ hf => ?_)
      refine am_if_eq (tgt := 356) dL_clock_311 (by decide) rfl hf (fun hf => ?_) (fun hf => ?_)
      · exact am_we ((sfL_clock_356 sfL_clock_357) _ _ _ _ _ _ hf) ⟨Or.inr rfl, Or.inl rfl, Or.inr rfl, Or.inl rfl, Or.inr rfl, Or.inr rfl, Or.inl rfl, Or.inl rfl, Or.inl rfl, trivial⟩
      refine am_aload_n dL_clock_314 rfl rfl ?_
      refine am_bipush (v := 115) dL_clock_315 (by decide) rfl ?_
      refine am_cSi (As := [va_rf v0, .int (115 : Int32)]) (st := []) lk_L_clock_14 rfl (by simp only [am_e1_r, am_e1_i, am_e1_l, am_e1_n]; exact Nat.le_of_ble_eq_true rfl) (Nat.le_of_ble_eq_true rfl) rfl dL_clock_317 rfl hf (fun y9 hf => sfL_put _ _ _ y9 hf) (fun y9 _ hf => ?_)
      refine am_if_eq (tgt := 356) dL_clock_320 (by decide) rfl hf (fun hf => ?_) (fun hf => ?_)
      · exact am_we ((sfL_clock_356 sfL_clock_357) _ _ _ _ _ _ hf) ⟨Or.inr rfl, Or.inl rfl, Or.inr rfl, Or.inl rfl, Or.inr rfl, Or.inr rfl, Or.inl rfl, Or.inl rfl, Or.inl rfl, trivial⟩
      refine am_aload_n dL_clock_323 rfl rfl ?_
      refine am_aload dL_clock_324 rfl rfl ?_
      refine am_iconst (v := 3) dL_clock_326 rfl rfl ?_
      refine am_iald dL_clock_327 rfl hf (fun x10 _ hf => ?_)
      refine am_cSi (As := [va_rf v0, .int x10]) (st := []) lk_L_clock_21 rfl (by simp only [am_e1_r, am_e1_i, am_e1_l, am_e1_n]; exact Nat.le_of_ble_eq_true rfl) (Nat.le_of_ble_eq_true rfl) rfl dL_clock_328 rfl hf (fun y11 hf => sfL_number _ _ _ y11 hf) (fun y11 _ hf => ?_)
      refine am_if_eq (tgt := 356) dL_clock_331 (by decide) rfl hf (fun hf => ?_) (fun hf => ?_)
      · exact am_we ((sfL_clock_356 sfL_clock_357) _ _ _ _ _ _ hf) ⟨Or.inr rfl, Or.inl rfl, Or.inr rfl, Or.inl rfl, Or.inr rfl, Or.inr rfl, Or.inl rfl, Or.inl rfl, Or.inl rfl, trivial⟩
      refine am_aload_n dL_clock_334 rfl rfl ?_
      refine am_bipush (v := 59) dL_clock_335 (by decide) rfl ?_
      refine am_cSi (As := [va_rf v0, .int (59 : Int32)]) (st := []) lk_L_clock_14 rfl (by simp only [am_e1_r, am_e1_i, am_e1_l, am_e1_n]; exact Nat.le_of_ble_eq_true rfl) (Nat.le_of_ble_eq_true rfl) rfl dL_clock_337 rfl hf (fun y12 hf => sfL_put _ _ _ y12 hf) (fun y12 _ hf => ?_)
      refine am_if_eq (tgt := 356) dL_clock_340 (by decide) rfl hf (fun hf => ?_) (fun hf => ?_)
      · exact am_we ((sfL_clock_356 sfL_clock_357) _ _ _ _ _ _ hf) ⟨Or.inr rfl, Or.inl rfl, Or.inr rfl, Or.inl rfl, Or.inr rfl, Or.inr rfl, Or.inl rfl, Or.inl rfl, Or.inl rfl, trivial⟩
      refine am_aload_n dL_clock_343 rfl rfl ?_
      refine am_bipush (v := 109) dL_clock_344 (by decide) rfl ?_
      refine am_cSi (As := [va_rf v0, .int (109 : Int32)]) (st := []) lk_L_clock_14 rfl (by simp only [am_e1_r, am_e1_i, am_e1_l, am_e1_n]; exact Nat.le_of_ble_eq_true rfl) (Nat.le_of_ble_eq_true rfl) rfl dL_clock_346 rfl hf (fun y13 hf => sfL_put _ _ _ y13 hf) (fun y13 _ hf => ?_)
      refine am_if_eq (tgt := 356) dL_clock_349 (by decide) rfl hf (fun hf => ?_) (fun hf => ?_)
      · exact am_we ((sfL_clock_356 sfL_clock_357) _ _ _ _ _ _ hf) ⟨Or.inr rfl, Or.inl rfl, Or.inr rfl, Or.inl rfl, Or.inr rfl, Or.inr rfl, Or.inl rfl, Or.inl rfl, Or.inl rfl, trivial⟩
      refine am_iconst (v := 1) dL_clock_352 rfl rfl ?_
      refine am_goto (pc' := 357) dL_clock_353 (by decide) ?_
      exact am_we (sfL_clock_357 _ _ _ _ _ _ _ hf) ⟨Or.inr rfl, Or.inl rfl, Or.inr rfl, Or.inl rfl, Or.inr rfl, Or.inr rfl, Or.inl rfl, Or.inl rfl, Or.inl rfl, trivial⟩
    refine am_aload dL_clock_82 rfl rfl ?_
    refine am_iconst (v := 5) dL_clock_84 rfl rfl ?_
    refine am_iconst (v := 3) dL_clock_85 rfl rfl ?_
    refine am_iload dL_clock_86 rfl rfl ?_
    refine am_imul dL_clock_88 rfl ?_
    refine am_iadd dL_clock_89 rfl ?_
    refine am_iconst (v := 1) dL_clock_90 rfl rfl ?_
    refine am_iload_n dL_clock_91 rfl rfl ?_
    refine am_iconst (v := 4) dL_clock_92 rfl rfl ?_
    refine am_iconst (v := 5) dL_clock_93 rfl rfl ?_
    refine am_iload dL_clock_94 rfl rfl ?_
    refine am_imul dL_clock_96 rfl ?_
    refine am_iadd dL_clock_97 rfl ?_
    refine am_ishr dL_clock_98 rfl ?_
    refine am_bipush (v := 31) dL_clock_99 (by decide) rfl ?_
    refine am_iand dL_clock_101 rfl ?_
    refine am_bipush (v := 30) dL_clock_102 (by decide) rfl ?_
    refine am_irem dL_clock_104 rfl hf (fun hf => ?_)
    refine am_iadd dL_clock_105 rfl ?_
    refine am_iast dL_clock_106 rfl hf (fun h14 _ hf => ?_)
    refine am_aload dL_clock_107 rfl rfl ?_
    refine am_bipush (v := 6) dL_clock_109 (by decide) rfl ?_
    refine am_iconst (v := 3) dL_clock_111 rfl rfl ?_
    refine am_iload dL_clock_112 rfl rfl ?_
    refine am_imul dL_clock_114 rfl ?_
    refine am_iadd dL_clock_115 rfl ?_
    refine am_iconst (v := 1) dL_clock_116 rfl rfl ?_
    refine am_iload_n dL_clock_117 rfl rfl ?_
    refine am_bipush (v := 6) dL_clock_118 (by decide) rfl ?_
    refine am_iload dL_clock_120 rfl rfl ?_
    refine am_imul dL_clock_122 rfl ?_
    refine am_ishr dL_clock_123 rfl ?_
    refine am_bipush (v := 63) dL_clock_124 (by decide) rfl ?_
    refine am_iand dL_clock_126 rfl ?_
    refine am_bipush (v := 60) dL_clock_127 (by decide) rfl ?_
    refine am_irem dL_clock_129 rfl hf (fun hf => ?_)
    refine am_iadd dL_clock_130 rfl ?_
    refine am_iast dL_clock_131 rfl hf (fun h15 _ hf => ?_)
    refine am_aload dL_clock_132 rfl rfl ?_
    refine am_bipush (v := 7) dL_clock_134 (by decide) rfl ?_
    refine am_iconst (v := 3) dL_clock_136 rfl rfl ?_
    refine am_iload dL_clock_137 rfl rfl ?_
    refine am_imul dL_clock_139 rfl ?_
    refine am_iadd dL_clock_140 rfl ?_
    refine am_iconst (v := 1) dL_clock_141 rfl rfl ?_
    refine am_iload_n dL_clock_142 rfl rfl ?_
    refine am_bipush (v := 10) dL_clock_143 (by decide) rfl ?_
    refine am_bipush (v := 6) dL_clock_145 (by decide) rfl ?_
    refine am_iload dL_clock_147 rfl rfl ?_
    refine am_imul dL_clock_149 rfl ?_
    refine am_iadd dL_clock_150 rfl ?_
    refine am_ishr dL_clock_151 rfl ?_
    refine am_bipush (v := 63) dL_clock_152 (by decide) rfl ?_
    refine am_iand dL_clock_154 rfl ?_
    refine am_bipush (v := 40) dL_clock_155 (by decide) rfl ?_
    refine am_irem dL_clock_157 rfl hf (fun hf => ?_)
    refine am_iadd dL_clock_158 rfl ?_
    refine am_iast dL_clock_159 rfl hf (fun h16 _ hf => ?_)
    refine am_iload dL_clock_160 rfl rfl ?_
    refine am_if_eq (tgt := 251) dL_clock_162 (by decide) rfl hf (fun hf => ?_) (fun hf => ?_)
    · exact am_we ((sfL_clock_251 (sfL_clock_252 ih)) _ _ _ _ _ _ _ _ hf) ⟨Or.inr rfl, Or.inl rfl, Or.inr rfl, Or.inr rfl, Or.inr rfl, Or.inr rfl, Or.inl rfl, Or.inr rfl, Or.inl rfl, trivial⟩
    refine am_iload dL_clock_165 rfl rfl ?_
    refine am_if_eq (tgt := 179) dL_clock_167 (by decide) rfl hf (fun hf => ?_) (fun hf => ?_)
    · exact am_we ((sfL_clock_179 (sfL_clock_251 (sfL_clock_252 ih)) (sfL_clock_252 ih)) _ _ _ _ _ _ _ _ hf) ⟨Or.inr rfl, Or.inl rfl, Or.inr rfl, Or.inr rfl, Or.inr rfl, Or.inr rfl, Or.inl rfl, Or.inr rfl, Or.inl rfl, trivial⟩
    refine am_aload_n dL_clock_170 rfl rfl ?_
    refine am_bipush (v := 62) dL_clock_171 (by decide) rfl ?_
    refine am_cSi (As := [va_rf v0, .int (62 : Int32)]) (st := []) lk_L_clock_14 rfl (by simp only [am_e1_r, am_e1_i, am_e1_l, am_e1_n]; exact Nat.le_of_ble_eq_true rfl) (Nat.le_of_ble_eq_true rfl) rfl dL_clock_173 rfl hf (fun y17 hf => sfL_put _ _ _ y17 hf) (fun y17 _ hf => ?_)
    refine am_if_eq (tgt := 251) dL_clock_176 (by decide) rfl hf (fun hf => ?_) (fun hf => ?_)
    · exact am_we ((sfL_clock_251 (sfL_clock_252 ih)) _ _ _ _ _ _ _ _ hf) ⟨Or.inr rfl, Or.inl rfl, Or.inr rfl, Or.inr rfl, Or.inr rfl, Or.inr rfl, Or.inl rfl, Or.inr rfl, Or.inl rfl, trivial⟩
    exact am_we ((sfL_clock_179 (sfL_clock_251 (sfL_clock_252 ih)) (sfL_clock_252 ih)) _ _ _ _ _ _ _ _ hf) ⟨Or.inr rfl, Or.inl rfl, Or.inr rfl, Or.inr rfl, Or.inr rfl, Or.inr rfl, Or.inl rfl, Or.inr rfl, Or.inl rfl, trivial⟩
set_option maxRecDepth 20000 in
set_option maxHeartbeats 4000000 in
theorem sfL_clock_29 {G : am_G}  (v0 : Option Nat) (v1 : Int32) (v2 : Int32) (v3 : Int32) (v4 : Int32) (v5 : Option Nat) (s0 : Option Nat) (s1 : Int32) (s2 : Int32) (s3 : Int32) (s4 : Int32) (h : am_H) (y : Int32 × am_H) (hf : fL_clock_29  v0 v1 v2 v3 v4 v5 s0 s1 s2 s3 s4 h = some y) : am_S G miL_clock 29 [some (va_rf v0), some (.int v1), some (.int v2), some (.int v3), some (.int v4), some (va_rf v5), none, none, none] [.int s4, .int s3, .int s2, .int s1, va_rf s0] h (some (.int y.1)) y.2 := by
  unfold fL_clock_29 at hf
  refine am_irem dL_clock_29 rfl hf (fun hf => ?_)
  refine am_iadd dL_clock_30 rfl ?_
  refine am_iast dL_clock_31 rfl hf (fun h1 _ hf => ?_)
  refine am_aload dL_clock_32 rfl rfl ?_
  refine am_iconst (v := 2) dL_clock_34 rfl rfl ?_
  refine am_iconst (v := 1) dL_clock_35 rfl rfl ?_
  refine am_iload_n dL_clock_36 rfl rfl ?_
  refine am_sipush (v := 512) dL_clock_37 (by decide) rfl ?_
  refine am_idiv dL_clock_40 rfl hf (fun hf => ?_)
  refine am_bipush (v := 99) dL_clock_41 (by decide) rfl ?_
  refine am_irem dL_clock_43 rfl hf (fun hf => ?_)
  refine am_iadd dL_clock_44 rfl ?_
  refine am_iast dL_clock_45 rfl hf (fun h2 _ hf => ?_)
  refine am_aload dL_clock_46 rfl rfl ?_
  refine am_iconst (v := 3) dL_clock_48 rfl rfl ?_
  refine am_iload_n dL_clock_49 rfl rfl ?_
  refine am_ldc (v := 65536) dL_clock_50 ci_L_20 rfl ?_
  refine am_idiv dL_clock_52 rfl hf (fun hf => ?_)
  refine am_bipush (v := 61) dL_clock_53 (by decide) rfl ?_
  refine am_irem dL_clock_55 rfl hf (fun hf => ?_)
  refine am_iast dL_clock_56 rfl hf (fun h3 _ hf => ?_)
  refine am_aload dL_clock_57 rfl rfl ?_
  refine am_iconst (v := 4) dL_clock_59 rfl rfl ?_
  refine am_iconst (v := 1) dL_clock_60 rfl rfl ?_
  refine am_iload_n dL_clock_61 rfl rfl ?_
  refine am_bipush (v := 12) dL_clock_62 (by decide) rfl ?_
  refine am_irem dL_clock_64 rfl hf (fun hf => ?_)
  refine am_iadd dL_clock_65 rfl ?_
  refine am_iast dL_clock_66 rfl hf (fun h4 _ hf => ?_)
  refine am_iconst (v := 1) dL_clock_67 rfl rfl ?_
  refine am_istore (ls' := [some (va_rf v0), some (.int v1), some (.int v2), some (.int v3), some (.int v4), some (va_rf v5), some (.int (1 : Int32)), none, none]) dL_clock_68 (by decide) (am_s1_r (j := 5) rfl rfl) rfl ?_
  refine am_iconst (v := 0) dL_clock_70 rfl rfl ?_
  refine am_istore (ls' := [some (va_rf v0), some (.int v1), some (.int v2), some (.int v3), some (.int v4), some (va_rf v5), some (.int (1 : Int32)), some (.int (0 : Int32)), none]) dL_clock_71 (by decide) rfl rfl ?_
  exact am_we ((sfL_clock_73 _) _ _ _ _ _ _ _ _ _ hf) ⟨Or.inr rfl, Or.inl rfl, Or.inr rfl, Or.inr rfl, Or.inr rfl, Or.inr rfl, Or.inr rfl, Or.inr rfl, Or.inl rfl, trivial⟩
set_option maxRecDepth 20000 in
set_option maxHeartbeats 4000000 in
theorem sfL_clock {G : am_G}  (v0 : Option Nat) (v1 : Int32) (v2 : Int32) (v3 : Int32) (v4 : Int32) (v5 : Option Nat) (h : am_H) (y : Int32 × am_H) (hf : fL_clock v0 v1 v2 v3 v4 v5 h = some y) : am_Cn G miL_clock [va_rf v0, .int v1, .int v2, .int v3, .int v4, va_rf v5] h (some (.int y.1)) y.2 := by
  refine am_beg (ls := [some (va_rf v0), some (.int v1), some (.int v2), some (.int v3), some (.int v4), some (va_rf v5), none, none, none]) (by simp only [am_en, am_e1_r, am_e1_i, am_e1_l, am_e1_n]; rfl) ?_
  unfold fL_clock at hf
  refine am_aload dL_clock_0 rfl rfl ?_
  refine am_iconst (v := 0) dL_clock_2 rfl rfl ?_
  refine am_iconst (v := 1) dL_clock_3 rfl rfl ?_
  refine am_iload_n dL_clock_4 rfl rfl ?_
  refine am_iconst (v := 3) dL_clock_5 rfl rfl ?_
  refine am_irem dL_clock_6 rfl hf (fun hf => ?_)
  refine am_iadd dL_clock_7 rfl ?_
  refine am_iast dL_clock_8 rfl hf (fun h1 _ hf => ?_)
  refine am_aload dL_clock_9 rfl rfl ?_
  refine am_iconst (v := 1) dL_clock_11 rfl rfl ?_
  refine am_iconst (v := 1) dL_clock_12 rfl rfl ?_
  refine am_iload_n dL_clock_13 rfl rfl ?_
  refine am_iconst (v := 4) dL_clock_14 rfl rfl ?_
  refine am_idiv dL_clock_15 rfl hf (fun hf => ?_)
  refine am_iload_n dL_clock_16 rfl rfl ?_
  refine am_iconst (v := 5) dL_clock_17 rfl rfl ?_
  refine am_irem dL_clock_18 rfl hf (fun hf => ?_)
  refine am_if_ne (tgt := 27) dL_clock_19 (by decide) rfl hf (fun hf => ?_) (fun hf => ?_)
  · refine am_bipush (v := 30) dL_clock_27 (by decide) rfl ?_
    exact sfL_clock_29 _ _ _ _ _ _ _ _ _ _ _ _ _ hf
  refine am_bipush (v := 99) dL_clock_22 (by decide) rfl ?_
  refine am_goto (pc' := 29) dL_clock_24 (by decide) ?_
  exact sfL_clock_29 _ _ _ _ _ _ _ _ _ _ _ _ _ hf
set_option maxRecDepth 20000 in
set_option maxHeartbeats 4000000 in
theorem sfX8_isSeason {G : am_G}  (v0 : Int32) (h : am_H) (y : Int32 × am_H) (hf : fX8_isSeason v0 h = some y) : am_Cn G miX8_isSeason [.int v0] h (some (.int y.1)) y.2 := by
  refine am_beg (ls := [some (.int v0)]) (by simp only [am_en, am_e1_r, am_e1_i, am_e1_l, am_e1_n]; rfl) ?_
  unfold fX8_isSeason at hf
  refine am_iload_n dX8_isSeason_0 rfl rfl ?_
  refine am_iconst (v := 0) dX8_isSeason_1 rfl rfl ?_
  refine am_iconst (v := 3) dX8_isSeason_2 rfl rfl ?_
  refine am_cSi (As := [.int v0, .int (0 : Int32), .int (3 : Int32)]) (st := []) lk_X8_isSeason_121 rfl (Nat.le_of_ble_eq_true rfl) (Nat.le_of_ble_eq_true rfl) rfl dX8_isSeason_3 rfl hf (fun y1 hf => sfX8_isIn _ _ _ _ y1 hf) (fun y1 _ hf => ?_)
  exact am_zret rfl dX8_isSeason_6 hf
set_option maxRecDepth 20000 in
set_option maxHeartbeats 4000000 in
theorem sfX8_exchange {G : am_G}  (v0 : Option Nat) (v1 : Int32) (v2 : Int32) (h : am_H) (y : Int32 × am_H) (hf : fX8_exchange v0 v1 v2 h = some y) : am_Cn G miX8_exchange [va_rf v0, .int v1, .int v2] h (some (.int y.1)) y.2 := by
  refine am_beg (ls := [some (va_rf v0), some (.int v1), some (.int v2), none]) (by simp only [am_en, am_e1_r, am_e1_i, am_e1_l, am_e1_n]; rfl) ?_
  unfold fX8_exchange at hf
  refine am_iload_n dX8_exchange_0 rfl rfl ?_
  refine am_iconst (v := 0) dX8_exchange_1 rfl rfl ?_
  refine am_aload_n dX8_exchange_2 rfl rfl ?_
  refine am_an_ dX8_exchange_3 rfl hf (fun x1 _ hf => ?_)
  refine am_iconst (v := 1) dX8_exchange_4 rfl rfl ?_
  refine am_isub dX8_exchange_5 rfl ?_
  refine am_cSi (As := [.int v1, .int (0 : Int32), .int (x1 - (1 : Int32))]) (st := []) lk_X8_exchange_121 rfl (Nat.le_of_ble_eq_true rfl) (Nat.le_of_ble_eq_true rfl) rfl dX8_exchange_6 rfl hf (fun y2 hf => sfX8_isIn _ _ _ _ y2 hf) (fun y2 _ hf => ?_)
  refine am_if_ne (tgt := 14) dX8_exchange_9 (by decide) rfl hf (fun hf => ?_) (fun hf => ?_)
  · refine am_aload_n dX8_exchange_14 rfl rfl ?_
    refine am_iload_n dX8_exchange_15 rfl rfl ?_
    refine am_iald dX8_exchange_16 rfl hf (fun x3 _ hf => ?_)
    refine am_istore_n (ls' := [some (va_rf v0), some (.int v1), some (.int v2), some (.int x3)]) dX8_exchange_17 (by decide) rfl rfl ?_
    refine am_aload_n dX8_exchange_18 rfl rfl ?_
    refine am_iload_n dX8_exchange_19 rfl rfl ?_
    refine am_iload_n dX8_exchange_20 rfl rfl ?_
    refine am_iast dX8_exchange_21 rfl hf (fun h4 _ hf => ?_)
    refine am_iload_n dX8_exchange_22 rfl rfl ?_
    exact am_iret rfl dX8_exchange_23 hf
  refine am_iconst (v := -1) dX8_exchange_12 rfl rfl ?_
  exact am_iret rfl dX8_exchange_13 hf
set_option maxRecDepth 20000 in
set_option maxHeartbeats 4000000 in
theorem sfX8_season_39 {G : am_G}  (v0 : Option Nat) (v1 : Int32) (v2 : Int32) (v3 : Int32) (h : am_H) (y : Int32 × am_H) (hf : fX8_season_39  v0 v1 v2 v3 h = some y) : am_S G miX8_season 39 [some (va_rf v0), some (.int v1), some (.int v2), some (.int v3)] [] h (some (.int y.1)) y.2 := by
  unfold fX8_season_39 at hf
  refine am_iload_n dX8_season_39 rfl rfl ?_
  refine am_iconst (v := 1) dX8_season_40 rfl rfl ?_
  refine am_icmp_ne (tgt := 68) dX8_season_41 (by decide) rfl hf (fun hf => ?_) (fun hf => ?_)
  · refine am_bipush (v := -102) dX8_season_68 (by decide) rfl ?_
    exact am_iret rfl dX8_season_70 hf
  refine am_iload_n dX8_season_44 rfl rfl ?_
  refine am_bipush (v := 24) dX8_season_45 (by decide) rfl ?_
  refine am_bipush (v := 72) dX8_season_47 (by decide) rfl ?_
  refine am_cSi (As := [.int v3, .int (24 : Int32), .int (72 : Int32)]) (st := []) lk_X8_season_121 rfl (Nat.le_of_ble_eq_true rfl) (Nat.le_of_ble_eq_true rfl) rfl dX8_season_49 rfl hf (fun y1 hf => sfX8_isIn _ _ _ _ y1 hf) (fun y1 _ hf => ?_)
  refine am_if_eq (tgt := 68) dX8_season_52 (by decide) rfl hf (fun hf => ?_) (fun hf => ?_)
  · refine am_bipush (v := -102) dX8_season_68 (by decide) rfl ?_
    exact am_iret rfl dX8_season_70 hf
  refine am_aload_n dX8_season_55 rfl rfl ?_
  refine am_gr_ dX8_season_56 fl_X8_37 rfl hf (fun x2 _ hf => ?_)
  refine am_gr_ dX8_season_59 fl_X8_147 rfl hf (fun x3 _ hf => ?_)
  refine am_iload_n dX8_season_62 rfl rfl ?_
  refine am_iload_n dX8_season_63 rfl rfl ?_
  refine am_cSi (As := [va_rf x3, .int v1, .int v3]) (st := []) lk_X8_season_143 rfl (by simp only [am_e1_r, am_e1_i, am_e1_l, am_e1_n]; exact Nat.le_of_ble_eq_true rfl) (Nat.le_of_ble_eq_true rfl) rfl dX8_season_64 rfl hf (fun y4 hf => sfX8_exchange _ _ _ _ y4 hf) (fun y4 _ hf => ?_)
  exact am_iret rfl dX8_season_67 hf
set_option maxRecDepth 20000 in
set_option maxHeartbeats 4000000 in
theorem sfX8_season {G : am_G}  (v0 : Nat) (v1 : Int32) (v2 : Int32) (v3 : Int32) (h : am_H) (y : Int32 × am_H) (hf : fX8_season v0 v1 v2 v3 h = some y) : am_Cn G miX8_season [va_rf (some v0), .int v1, .int v2, .int v3] h (some (.int y.1)) y.2 := by
  refine am_beg (ls := [some (va_rf (some v0)), some (.int v1), some (.int v2), some (.int v3)]) (by simp only [am_en, am_e1_r, am_e1_i, am_e1_l, am_e1_n]; rfl) ?_
  unfold fX8_season at hf
  refine am_iload_n dX8_season_0 rfl rfl ?_
  refine am_cSi (As := [.int v1]) (st := []) lk_X8_season_136 rfl (Nat.le_of_ble_eq_true rfl) (Nat.le_of_ble_eq_true rfl) rfl dX8_season_1 rfl hf (fun y1 hf => sfX8_isSeason _ _ y1 hf) (fun y1 _ hf => ?_)
  refine am_if_ne (tgt := 10) dX8_season_4 (by decide) rfl hf (fun hf => ?_) (fun hf => ?_)
  · refine am_iload_n dX8_season_10 rfl rfl ?_
    refine am_if_ne (tgt := 39) dX8_season_11 (by decide) rfl hf (fun hf => ?_) (fun hf => ?_)
    · exact sfX8_season_39 _ _ _ _ _ _ hf
    refine am_iload_n dX8_season_14 rfl rfl ?_
    refine am_bipush (v := 50) dX8_season_15 (by decide) rfl ?_
    refine am_sipush (v := 150) dX8_season_17 (by decide) rfl ?_
    refine am_cSi (As := [.int v3, .int (50 : Int32), .int (150 : Int32)]) (st := []) lk_X8_season_121 rfl (Nat.le_of_ble_eq_true rfl) (Nat.le_of_ble_eq_true rfl) rfl dX8_season_20 rfl hf (fun y2 hf => sfX8_isIn _ _ _ _ y2 hf) (fun y2 _ hf => ?_)
    refine am_if_eq (tgt := 39) dX8_season_23 (by decide) rfl hf (fun hf => ?_) (fun hf => ?_)
    · exact sfX8_season_39 _ _ _ _ _ _ hf
    refine am_aload_n dX8_season_26 rfl rfl ?_
    refine am_gr_ dX8_season_27 fl_X8_37 rfl hf (fun x3 _ hf => ?_)
    refine am_gr_ dX8_season_30 fl_X8_140 rfl hf (fun x4 _ hf => ?_)
    refine am_iload_n dX8_season_33 rfl rfl ?_
    refine am_iload_n dX8_season_34 rfl rfl ?_
    refine am_cSi (As := [va_rf x4, .int v1, .int v3]) (st := []) lk_X8_season_143 rfl (by simp only [am_e1_r, am_e1_i, am_e1_l, am_e1_n]; exact Nat.le_of_ble_eq_true rfl) (Nat.le_of_ble_eq_true rfl) rfl dX8_season_35 rfl hf (fun y5 hf => sfX8_exchange _ _ _ _ y5 hf) (fun y5 _ hf => ?_)
    exact am_iret rfl dX8_season_38 hf
  refine am_bipush (v := -101) dX8_season_7 (by decide) rfl ?_
  exact am_iret rfl dX8_season_9 hf
set_option maxRecDepth 20000 in
set_option maxHeartbeats 4000000 in
theorem sfX8_isKind {G : am_G}  (v0 : Int32) (h : am_H) (y : Int32 × am_H) (hf : fX8_isKind v0 h = some y) : am_Cn G miX8_isKind [.int v0] h (some (.int y.1)) y.2 := by
  refine am_beg (ls := [some (.int v0)]) (by simp only [am_en, am_e1_r, am_e1_i, am_e1_l, am_e1_n]; rfl) ?_
  unfold fX8_isKind at hf
  refine am_iload_n dX8_isKind_0 rfl rfl ?_
  refine am_iconst (v := 0) dX8_isKind_1 rfl rfl ?_
  refine am_iconst (v := 4) dX8_isKind_2 rfl rfl ?_
  refine am_cSi (As := [.int v0, .int (0 : Int32), .int (4 : Int32)]) (st := []) lk_X8_isKind_121 rfl (Nat.le_of_ble_eq_true rfl) (Nat.le_of_ble_eq_true rfl) rfl dX8_isKind_3 rfl hf (fun y1 hf => sfX8_isIn _ _ _ _ y1 hf) (fun y1 _ hf => ?_)
  exact am_zret rfl dX8_isKind_6 hf
set_option maxRecDepth 20000 in
set_option maxHeartbeats 4000000 in
theorem sfX8_leastNumber {G : am_G}  (v0 : Int32) (h : am_H) (y : Int32 × am_H) (hf : fX8_leastNumber v0 h = some y) : am_Cn G miX8_leastNumber [.int v0] h (some (.int y.1)) y.2 := by
  refine am_beg (ls := [some (.int v0)]) (by simp only [am_en, am_e1_r, am_e1_i, am_e1_l, am_e1_n]; rfl) ?_
  unfold fX8_leastNumber at hf
  refine am_iload_n dX8_leastNumber_0 rfl rfl ?_
  refine am_lsw (d := 32) (l := [(3, 28), (4, 30)]) dX8_leastNumber_1 (by decide) (by decide) (by decide) ?_
  refine am_swc hf (fun hf => ?_) (fun hf => ?_)
  · refine am_iconst (v := 1) dX8_leastNumber_28 rfl rfl ?_
    exact am_iret rfl dX8_leastNumber_29 hf
  refine am_swc hf (fun hf => ?_) (fun hf => ?_)
  · refine am_iconst (v := 2) dX8_leastNumber_30 rfl rfl ?_
    exact am_iret rfl dX8_leastNumber_31 hf
  show am_S _ _ 32 _ _ _ _ _
  refine am_iconst (v := 0) dX8_leastNumber_32 rfl rfl ?_
  exact am_iret rfl dX8_leastNumber_33 hf
set_option maxRecDepth 20000 in
set_option maxHeartbeats 4000000 in
theorem sfX8_mostNumber {G : am_G}  (v0 : Int32) (h : am_H) (y : Int32 × am_H) (hf : fX8_mostNumber v0 h = some y) : am_Cn G miX8_mostNumber [.int v0] h (some (.int y.1)) y.2 := by
  refine am_beg (ls := [some (.int v0)]) (by simp only [am_en, am_e1_r, am_e1_i, am_e1_l, am_e1_n]; rfl) ?_
  unfold fX8_mostNumber at hf
  refine am_iload_n dX8_mostNumber_0 rfl rfl ?_
  refine am_tsw (d := 42) (l := [(1, 32), (2, 35), (3, 37), (4, 40)]) dX8_mostNumber_1 (by decide) (by decide) (by decide) ?_
  refine am_swc hf (fun hf => ?_) (fun hf => ?_)
  · refine am_bipush (v := 9) dX8_mostNumber_32 (by decide) rfl ?_
    exact am_iret rfl dX8_mostNumber_34 hf
  refine am_swc hf (fun hf => ?_) (fun hf => ?_)
  · refine am_iconst (v := 3) dX8_mostNumber_35 rfl rfl ?_
    exact am_iret rfl dX8_mostNumber_36 hf
  refine am_swc hf (fun hf => ?_) (fun hf => ?_)
  · refine am_bipush (v := 9) dX8_mostNumber_37 (by decide) rfl ?_
    exact am_iret rfl dX8_mostNumber_39 hf
  refine am_swc hf (fun hf => ?_) (fun hf => ?_)
  · refine am_iconst (v := 5) dX8_mostNumber_40 rfl rfl ?_
    exact am_iret rfl dX8_mostNumber_41 hf
  show am_S _ _ 42 _ _ _ _ _
  refine am_iconst (v := 0) dX8_mostNumber_42 rfl rfl ?_
  exact am_iret rfl dX8_mostNumber_43 hf
set_option maxRecDepth 20000 in
set_option maxHeartbeats 4000000 in
theorem sfX8_isWorkOrNone {G : am_G}  (v0 : Nat) (v1 : Int32) (h : am_H) (y : Int32 × am_H) (hf : fX8_isWorkOrNone v0 v1 h = some y) : am_Cn G miX8_isWorkOrNone [va_rf (some v0), .int v1] h (some (.int y.1)) y.2 := by
  refine am_beg (ls := [some (va_rf (some v0)), some (.int v1)]) (by simp only [am_en, am_e1_r, am_e1_i, am_e1_l, am_e1_n]; rfl) ?_
  unfold fX8_isWorkOrNone at hf
  refine am_iload_n dX8_isWorkOrNone_0 rfl rfl ?_
  refine am_iconst (v := -1) dX8_isWorkOrNone_1 rfl rfl ?_
  refine am_aload_n dX8_isWorkOrNone_2 rfl rfl ?_
  refine am_gi_ dX8_isWorkOrNone_3 fl_X8_183 rfl hf (fun x1 _ hf => ?_)
  refine am_iconst (v := 1) dX8_isWorkOrNone_6 rfl rfl ?_
  refine am_isub dX8_isWorkOrNone_7 rfl ?_
  refine am_cSi (As := [.int v1, .int (-1 : Int32), .int (x1 - (1 : Int32))]) (st := []) lk_X8_isWorkOrNone_121 rfl (Nat.le_of_ble_eq_true rfl) (Nat.le_of_ble_eq_true rfl) rfl dX8_isWorkOrNone_8 rfl hf (fun y2 hf => sfX8_isIn _ _ _ _ y2 hf) (fun y2 _ hf => ?_)
  exact am_zret rfl dX8_isWorkOrNone_11 hf
set_option maxRecDepth 20000 in
set_option maxHeartbeats 4000000 in
theorem sfX8_workOf {G : am_G}  (v0 : Nat) (v1 : Int32) (h : am_H) (y : Option Nat × am_H) (hf : fX8_workOf v0 v1 h = some y) : am_Cn G miX8_workOf [va_rf (some v0), .int v1] h (some (va_rf y.1)) y.2 := by
  refine am_beg (ls := [some (va_rf (some v0)), some (.int v1)]) (by simp only [am_en, am_e1_r, am_e1_i, am_e1_l, am_e1_n]; rfl) ?_
  unfold fX8_workOf at hf
  refine am_iload_n dX8_workOf_0 rfl rfl ?_
  refine am_iconst (v := 0) dX8_workOf_1 rfl rfl ?_
  refine am_aload_n dX8_workOf_2 rfl rfl ?_
  refine am_gi_ dX8_workOf_3 fl_X8_183 rfl hf (fun x1 _ hf => ?_)
  refine am_iconst (v := 1) dX8_workOf_6 rfl rfl ?_
  refine am_isub dX8_workOf_7 rfl ?_
  refine am_cSi (As := [.int v1, .int (0 : Int32), .int (x1 - (1 : Int32))]) (st := []) lk_X8_workOf_121 rfl (Nat.le_of_ble_eq_true rfl) (Nat.le_of_ble_eq_true rfl) rfl dX8_workOf_8 rfl hf (fun y2 hf => sfX8_isIn _ _ _ _ y2 hf) (fun y2 _ hf => ?_)
  refine am_if_eq (tgt := 29) dX8_workOf_11 (by decide) rfl hf (fun hf => ?_) (fun hf => ?_)
  · refine am_null dX8_workOf_29 rfl ?_
    exact am_aret rfl dX8_workOf_30 hf
  refine am_iload_n dX8_workOf_14 rfl rfl ?_
  refine am_bipush (v := 10) dX8_workOf_15 (by decide) rfl ?_
  refine am_icmp_ge (tgt := 29) dX8_workOf_17 (by decide) rfl hf (fun hf => ?_) (fun hf => ?_)
  · refine am_null dX8_workOf_29 rfl ?_
    exact am_aret rfl dX8_workOf_30 hf
  refine am_aload_n dX8_workOf_20 rfl rfl ?_
  refine am_gr_ dX8_workOf_21 fl_X8_23 rfl hf (fun x3 _ hf => ?_)
  refine am_iload_n dX8_workOf_24 rfl rfl ?_
  refine am_alr_ (t := 6) rfl (by decide) dX8_workOf_25 rfl hf (fun x4 _ hf => ?_)
  refine am_goto (pc' := 30) dX8_workOf_26 (by decide) ?_
  exact am_aret rfl dX8_workOf_30 hf
set_option maxRecDepth 20000 in
set_option maxHeartbeats 4000000 in
theorem sfX7_init {G : am_G}  (v0 : Nat) (v1 : Int32) (v2 : Int32) (v3 : Int32) (v4 : Option Nat) (h : am_H) (y : am_H) (hf : fX7_init v0 v1 v2 v3 v4 h = some y) : am_Cn G miX7_init [va_rf (some v0), .int v1, .int v2, .int v3, va_rf v4] h none y := by
  refine am_beg (ls := [some (va_rf (some v0)), some (.int v1), some (.int v2), some (.int v3), some (va_rf v4)]) (by simp only [am_en, am_e1_r, am_e1_i, am_e1_l, am_e1_n]; rfl) ?_
  unfold fX7_init at hf
  refine am_aload_n dX7_init_0 rfl rfl ?_
  refine am_obinit ml_X7_1 im_ob co_ob (by decide) (Nat.le_of_ble_eq_true rfl) dX7_init_1 rfl ?_
  refine am_aload_n dX7_init_4 rfl rfl ?_
  refine am_iload_n dX7_init_5 rfl rfl ?_
  refine am_pi_ dX7_init_6 fl_X7_7 fp_7_0 (fun _ => ⟨rfl, rfl⟩) rfl hf (fun h1 _ hf => ?_)
  refine am_aload_n dX7_init_9 rfl rfl ?_
  refine am_iload_n dX7_init_10 rfl rfl ?_
  refine am_pi_ dX7_init_11 fl_X7_13 fp_7_1 (fun _ => ⟨rfl, rfl⟩) rfl hf (fun h2 _ hf => ?_)
  refine am_aload_n dX7_init_14 rfl rfl ?_
  refine am_iload_n dX7_init_15 rfl rfl ?_
  refine am_pi_ dX7_init_16 fl_X7_16 fp_7_2 (fun _ => ⟨rfl, rfl⟩) rfl hf (fun h3 _ hf => ?_)
  refine am_aload_n dX7_init_19 rfl rfl ?_
  refine am_aload dX7_init_20 rfl rfl ?_
  refine am_pr_ rfl dX7_init_22 fl_X7_19 fp_7_3 (fun _ => ⟨rfl, rfl⟩) rfl hf (fun h4 _ hf => ?_)
  exact am_vret rfl dX7_init_25 hf
set_option maxRecDepth 20000 in
set_option maxHeartbeats 4000000 in
theorem sfX8_work {G : am_G}  (v0 : Nat) (v1 : Int32) (v2 : Int32) (v3 : Int32) (h : am_H) (y : Int32 × am_H) (hf : fX8_work v0 v1 v2 v3 h = some y) : am_Cn G miX8_work [va_rf (some v0), .int v1, .int v2, .int v3] h (some (.int y.1)) y.2 := by
  refine am_beg (ls := [some (va_rf (some v0)), some (.int v1), some (.int v2), some (.int v3)]) (by simp only [am_en, am_e1_r, am_e1_i, am_e1_l, am_e1_n]; rfl) ?_
  unfold fX8_work at hf
  refine am_iload_n dX8_work_0 rfl rfl ?_
  refine am_cSi (As := [.int v1]) (st := []) lk_X8_work_150 rfl (Nat.le_of_ble_eq_true rfl) (Nat.le_of_ble_eq_true rfl) rfl dX8_work_1 rfl hf (fun y1 hf => sfX8_isKind _ _ y1 hf) (fun y1 _ hf => ?_)
  refine am_if_eq (tgt := 22) dX8_work_4 (by decide) rfl hf (fun hf => ?_) (fun hf => ?_)
  · refine am_bipush (v := -102) dX8_work_22 (by decide) rfl ?_
    exact am_iret rfl dX8_work_24 hf
  refine am_iload_n dX8_work_7 rfl rfl ?_
  refine am_iload_n dX8_work_8 rfl rfl ?_
  refine am_cSi (As := [.int v1]) (st := [.int v2]) lk_X8_work_174 rfl (Nat.le_of_ble_eq_true rfl) (Nat.le_of_ble_eq_true rfl) rfl dX8_work_9 rfl hf (fun y2 hf => sfX8_leastNumber _ _ y2 hf) (fun y2 _ hf => ?_)
  refine am_iload_n dX8_work_12 rfl rfl ?_
  refine am_cSi (As := [.int v1]) (st := [.int y2.1, .int v2]) lk_X8_work_177 rfl (Nat.le_of_ble_eq_true rfl) (Nat.le_of_ble_eq_true rfl) rfl dX8_work_13 rfl hf (fun y3 hf => sfX8_mostNumber _ _ y3 hf) (fun y3 _ hf => ?_)
  refine am_cSi (As := [.int v2, .int y2.1, .int y3.1]) (st := []) lk_X8_work_121 rfl (Nat.le_of_ble_eq_true rfl) (Nat.le_of_ble_eq_true rfl) rfl dX8_work_16 rfl hf (fun y4 hf => sfX8_isIn _ _ _ _ y4 hf) (fun y4 _ hf => ?_)
  refine am_if_ne (tgt := 25) dX8_work_19 (by decide) rfl hf (fun hf => ?_) (fun hf => ?_)
  · refine am_aload_n dX8_work_25 rfl rfl ?_
    refine am_iload_n dX8_work_26 rfl rfl ?_
    refine am_cVi (As := [.int v3]) (st := []) lk_X8_work_180 rfl (Nat.le_of_ble_eq_true rfl) (Nat.le_of_ble_eq_true rfl) rfl dX8_work_27 rfl hf (fun b6 y5 hf => sfX8_isWorkOrNone b6 _ _ y5 hf) (fun b6 y5 _ _ hf => ?_)
    refine am_if_ne (tgt := 36) dX8_work_30 (by decide) rfl hf (fun hf => ?_) (fun hf => ?_)
    · refine am_aload_n dX8_work_36 rfl rfl ?_
      refine am_gi_ dX8_work_37 fl_X8_183 rfl hf (fun x7 _ hf => ?_)
      refine am_bipush (v := 10) dX8_work_40 (by decide) rfl ?_
      refine am_icmp_lt (tgt := 48) dX8_work_42 (by decide) rfl hf (fun hf => ?_) (fun hf => ?_)
      · refine am_aload_n dX8_work_48 rfl rfl ?_
        refine am_gr_ dX8_work_49 fl_X8_23 rfl hf (fun x8 _ hf => ?_)
        refine am_aload_n dX8_work_52 rfl rfl ?_
        refine am_gi_ dX8_work_53 fl_X8_183 rfl hf (fun x9 _ hf => ?_)
        refine am_new_ nw_X8_21 dX8_work_56 rfl hf (fun y10 _ hf => ?_)
        refine am_dup dX8_work_59 (am_c1 _) rfl ?_
        refine am_aload_n dX8_work_60 rfl rfl ?_
        refine am_gi_ dX8_work_61 fl_X8_183 rfl hf (fun x11 _ hf => ?_)
        refine am_iload_n dX8_work_64 rfl rfl ?_
        refine am_iload_n dX8_work_65 rfl rfl ?_
        refine am_aload_n dX8_work_66 rfl rfl ?_
        refine am_iload_n dX8_work_67 rfl rfl ?_
        refine am_cVr (As := [.int v3]) (st := [.int v2, .int v1, .int x11, va_rf (some y10.1), va_rf (some y10.1), .int x9, va_rf x8]) lk_X8_work_186 rfl (Nat.le_of_ble_eq_true rfl) (by simp only [List.map_cons, List.map_nil, am_c1, am_ci, am_cl]; exact Nat.le_of_ble_eq_true rfl) rfl dX8_work_68 rfl hf (fun b13 y12 hf => sfX8_workOf b13 _ _ y12 hf) (fun b13 y12 _ _ hf => ?_)
        refine am_ini (As := [.int x11, .int v1, .int v2, va_rf y12.1]) (st := [va_rf (some y10.1), .int x9, va_rf x8]) (b := y10.1) lk_X8_work_190 rfl (by simp only [am_e1_r, am_e1_i, am_e1_l, am_e1_n]; exact Nat.le_of_ble_eq_true rfl) (by simp only [List.map_cons, List.map_nil, am_c1, am_ci, am_cl]; exact Nat.le_of_ble_eq_true rfl) rfl dX8_work_71 rfl hf (fun y14 hf => sfX7_init _ _ _ _ _ _ y14 hf) (fun y14 _ hf => ?_)
        refine am_asr_ (t := 6) rfl rfl (by decide) dX8_work_74 rfl hf (fun h15 _ hf => ?_)
        refine am_aload_n dX8_work_75 rfl rfl ?_
        refine am_dup dX8_work_76 (am_c1 _) rfl ?_
        refine am_gi_ dX8_work_77 fl_X8_183 rfl hf (fun x16 _ hf => ?_)
        refine am_iconst (v := 1) dX8_work_80 rfl rfl ?_
        refine am_iadd dX8_work_81 rfl ?_
        refine am_pi_ dX8_work_82 fl_X8_183 fp_8_5 (fun z => by cases z) rfl hf (fun h17 _ hf => ?_)
        refine am_aload_n dX8_work_85 rfl rfl ?_
        refine am_gi_ dX8_work_86 fl_X8_183 rfl hf (fun x18 _ hf => ?_)
        refine am_iconst (v := 1) dX8_work_89 rfl rfl ?_
        refine am_isub dX8_work_90 rfl ?_
        exact am_iret rfl dX8_work_91 hf
      refine am_bipush (v := -104) dX8_work_45 (by decide) rfl ?_
      exact am_iret rfl dX8_work_47 hf
    refine am_bipush (v := -101) dX8_work_33 (by decide) rfl ?_
    exact am_iret rfl dX8_work_35 hf
  refine am_bipush (v := -102) dX8_work_22 (by decide) rfl ?_
  exact am_iret rfl dX8_work_24 hf
set_option maxRecDepth 20000 in
set_option maxHeartbeats 4000000 in
theorem sfX8_isWorkOfKind {G : am_G}  (v0 : Int32) (v1 : Int32) (h : am_H) (y : Int32 × am_H) (hf : fX8_isWorkOfKind v0 v1 h = some y) : am_Cn G miX8_isWorkOfKind [.int v0, .int v1] h (some (.int y.1)) y.2 := by
  refine am_beg (ls := [some (.int v0), some (.int v1)]) (by simp only [am_en, am_e1_r, am_e1_i, am_e1_l, am_e1_n]; rfl) ?_
  unfold fX8_isWorkOfKind at hf
  refine am_iload_n dX8_isWorkOfKind_0 rfl rfl ?_
  refine am_if_eq (tgt := 19) dX8_isWorkOfKind_1 (by decide) rfl hf (fun hf => ?_) (fun hf => ?_)
  · refine am_iconst (v := 1) dX8_isWorkOfKind_19 rfl rfl ?_
    refine am_goto (pc' := 24) dX8_isWorkOfKind_20 (by decide) ?_
    exact am_zret rfl dX8_isWorkOfKind_24 hf
  refine am_iload_n dX8_isWorkOfKind_4 rfl rfl ?_
  refine am_iload_n dX8_isWorkOfKind_5 rfl rfl ?_
  refine am_icmp_eq (tgt := 19) dX8_isWorkOfKind_6 (by decide) rfl hf (fun hf => ?_) (fun hf => ?_)
  · refine am_iconst (v := 1) dX8_isWorkOfKind_19 rfl rfl ?_
    refine am_goto (pc' := 24) dX8_isWorkOfKind_20 (by decide) ?_
    exact am_zret rfl dX8_isWorkOfKind_24 hf
  refine am_iload_n dX8_isWorkOfKind_9 rfl rfl ?_
  refine am_iconst (v := 4) dX8_isWorkOfKind_10 rfl rfl ?_
  refine am_icmp_ne (tgt := 23) dX8_isWorkOfKind_11 (by decide) rfl hf (fun hf => ?_) (fun hf => ?_)
  · refine am_iconst (v := 0) dX8_isWorkOfKind_23 rfl rfl ?_
    exact am_zret rfl dX8_isWorkOfKind_24 hf
  refine am_iload_n dX8_isWorkOfKind_14 rfl rfl ?_
  refine am_iconst (v := 3) dX8_isWorkOfKind_15 rfl rfl ?_
  refine am_icmp_ne (tgt := 23) dX8_isWorkOfKind_16 (by decide) rfl hf (fun hf => ?_) (fun hf => ?_)
  · refine am_iconst (v := 0) dX8_isWorkOfKind_23 rfl rfl ?_
    exact am_zret rfl dX8_isWorkOfKind_24 hf
  refine am_iconst (v := 1) dX8_isWorkOfKind_19 rfl rfl ?_
  refine am_goto (pc' := 24) dX8_isWorkOfKind_20 (by decide) ?_
  exact am_zret rfl dX8_isWorkOfKind_24 hf
set_option maxRecDepth 20000 in
set_option maxHeartbeats 4000000 in
theorem sfX8_workAs {G : am_G}  (v0 : Nat) (v1 : Int32) (v2 : Int32) (h : am_H) (y : Int32 × am_H) (hf : fX8_workAs v0 v1 v2 h = some y) : am_Cn G miX8_workAs [va_rf (some v0), .int v1, .int v2] h (some (.int y.1)) y.2 := by
  refine am_beg (ls := [some (va_rf (some v0)), some (.int v1), some (.int v2), none]) (by simp only [am_en, am_e1_r, am_e1_i, am_e1_l, am_e1_n]; rfl) ?_
  unfold fX8_workAs at hf
  refine am_aload_n dX8_workAs_0 rfl rfl ?_
  refine am_iload_n dX8_workAs_1 rfl rfl ?_
  refine am_cVr (As := [.int v1]) (st := []) lk_X8_workAs_186 rfl (Nat.le_of_ble_eq_true rfl) (Nat.le_of_ble_eq_true rfl) rfl dX8_workAs_2 rfl hf (fun b2 y1 hf => sfX8_workOf b2 _ _ y1 hf) (fun b2 y1 _ _ hf => ?_)
  refine am_astore_n (ls' := [some (va_rf (some v0)), some (.int v1), some (.int v2), some (va_rf y1.1)]) dX8_workAs_5 (by decide) rfl rfl ?_
  refine am_aload_n dX8_workAs_6 rfl rfl ?_
  refine am_ifnonnull (tgt := 13) dX8_workAs_7 (by decide) rfl hf (fun hf => ?_) (fun hf => ?_)
  · refine am_iload_n dX8_workAs_13 rfl rfl ?_
    refine am_cSi (As := [.int v2]) (st := []) lk_X8_workAs_150 rfl (Nat.le_of_ble_eq_true rfl) (Nat.le_of_ble_eq_true rfl) rfl dX8_workAs_14 rfl hf (fun y3 hf => sfX8_isKind _ _ y3 hf) (fun y3 _ hf => ?_)
    refine am_if_ne (tgt := 23) dX8_workAs_17 (by decide) rfl hf (fun hf => ?_) (fun hf => ?_)
    · refine am_aload_n dX8_workAs_23 rfl rfl ?_
      refine am_gi_ dX8_workAs_24 fl_X8_193 rfl hf (fun x4 _ hf => ?_)
      refine am_iload_n dX8_workAs_27 rfl rfl ?_
      refine am_cSi (As := [.int x4, .int v2]) (st := []) lk_X8_workAs_194 rfl (Nat.le_of_ble_eq_true rfl) (Nat.le_of_ble_eq_true rfl) rfl dX8_workAs_28 rfl hf (fun y5 hf => sfX8_isWorkOfKind _ _ _ y5 hf) (fun y5 _ hf => ?_)
      refine am_if_eq (tgt := 38) dX8_workAs_31 (by decide) rfl hf (fun hf => ?_) (fun hf => ?_)
      · refine am_iconst (v := -1) dX8_workAs_38 rfl rfl ?_
        exact am_iret rfl dX8_workAs_39 hf
      refine am_iload_n dX8_workAs_34 rfl rfl ?_
      refine am_goto (pc' := 39) dX8_workAs_35 (by decide) ?_
      exact am_iret rfl dX8_workAs_39 hf
    refine am_bipush (v := -102) dX8_workAs_20 (by decide) rfl ?_
    exact am_iret rfl dX8_workAs_22 hf
  refine am_bipush (v := -101) dX8_workAs_10 (by decide) rfl ?_
  exact am_iret rfl dX8_workAs_12 hf
set_option maxRecDepth 20000 in
set_option maxHeartbeats 4000000 in
theorem sfX8_head {G : am_G}  (v0 : Nat) (v1 : Int32) (h : am_H) (y : Int32 × am_H) (hf : fX8_head v0 v1 h = some y) : am_Cn G miX8_head [va_rf (some v0), .int v1] h (some (.int y.1)) y.2 := by
  refine am_beg (ls := [some (va_rf (some v0)), some (.int v1), none]) (by simp only [am_en, am_e1_r, am_e1_i, am_e1_l, am_e1_n]; rfl) ?_
  unfold fX8_head at hf
  refine am_aload_n dX8_head_0 rfl rfl ?_
  refine am_iload_n dX8_head_1 rfl rfl ?_
  refine am_cVi (As := [.int v1]) (st := []) lk_X8_head_180 rfl (Nat.le_of_ble_eq_true rfl) (Nat.le_of_ble_eq_true rfl) rfl dX8_head_2 rfl hf (fun b2 y1 hf => sfX8_isWorkOrNone b2 _ _ y1 hf) (fun b2 y1 _ _ hf => ?_)
  refine am_if_ne (tgt := 11) dX8_head_5 (by decide) rfl hf (fun hf => ?_) (fun hf => ?_)
  · refine am_aload_n dX8_head_11 rfl rfl ?_
    refine am_gr_ dX8_head_12 fl_X8_37 rfl hf (fun x3 _ hf => ?_)
    refine am_gi_ dX8_head_15 fl_X8_197 rfl hf (fun x4 _ hf => ?_)
    refine am_istore_n (ls' := [some (va_rf (some v0)), some (.int v1), some (.int x4)]) dX8_head_18 (by decide) rfl rfl ?_
    refine am_aload_n dX8_head_19 rfl rfl ?_
    refine am_gr_ dX8_head_20 fl_X8_37 rfl hf (fun x5 _ hf => ?_)
    refine am_iload_n dX8_head_23 rfl rfl ?_
    refine am_pi_ dX8_head_24 fl_X8_197 fp_6_3 (fun z => by cases z) rfl hf (fun h6 _ hf => ?_)
    refine am_iload_n dX8_head_27 rfl rfl ?_
    exact am_iret rfl dX8_head_28 hf
  refine am_bipush (v := -101) dX8_head_8 (by decide) rfl ?_
  exact am_iret rfl dX8_head_10 hf
set_option maxRecDepth 20000 in
set_option maxHeartbeats 4000000 in
theorem sfX8_isTick {G : am_G}  (v0 : Int32) (h : am_H) (y : Int32 × am_H) (hf : fX8_isTick v0 h = some y) : am_Cn G miX8_isTick [.int v0] h (some (.int y.1)) y.2 := by
  refine am_beg (ls := [some (.int v0)]) (by simp only [am_en, am_e1_r, am_e1_i, am_e1_l, am_e1_n]; rfl) ?_
  unfold fX8_isTick at hf
  refine am_iload_n dX8_isTick_0 rfl rfl ?_
  refine am_iconst (v := 0) dX8_isTick_1 rfl rfl ?_
  refine am_bipush (v := 95) dX8_isTick_2 (by decide) rfl ?_
  refine am_cSi (As := [.int v0, .int (0 : Int32), .int (95 : Int32)]) (st := []) lk_X8_isTick_121 rfl (Nat.le_of_ble_eq_true rfl) (Nat.le_of_ble_eq_true rfl) rfl dX8_isTick_4 rfl hf (fun y1 hf => sfX8_isIn _ _ _ _ y1 hf) (fun y1 _ hf => ?_)
  exact am_zret rfl dX8_isTick_7 hf
set_option maxRecDepth 20000 in
set_option maxHeartbeats 4000000 in
theorem sfX2_become {G : am_G}  (v0 : Nat) (v1 : Int32) (v2 : Int32) (v3 : Int32) (v4 : Int32) (h : am_H) (y : am_H) (hf : fX2_become v0 v1 v2 v3 v4 h = some y) : am_Cn G miX2_become [va_rf (some v0), .int v1, .int v2, .int v3, .int v4] h none y := by
  refine am_beg (ls := [some (va_rf (some v0)), some (.int v1), some (.int v2), some (.int v3), some (.int v4)]) (by simp only [am_en, am_e1_r, am_e1_i, am_e1_l, am_e1_n]; rfl) ?_
  unfold fX2_become at hf
  refine am_aload_n dX2_become_0 rfl rfl ?_
  refine am_iload_n dX2_become_1 rfl rfl ?_
  refine am_pi_ dX2_become_2 fl_X2_9 fp_2_0 (fun z => by cases z) rfl hf (fun h1 _ hf => ?_)
  refine am_aload_n dX2_become_5 rfl rfl ?_
  refine am_iload_n dX2_become_6 rfl rfl ?_
  refine am_pi_ dX2_become_7 fl_X2_15 fp_2_1 (fun z => by cases z) rfl hf (fun h2 _ hf => ?_)
  refine am_aload_n dX2_become_10 rfl rfl ?_
  refine am_iload_n dX2_become_11 rfl rfl ?_
  refine am_pi_ dX2_become_12 fl_X2_18 fp_2_2 (fun z => by cases z) rfl hf (fun h3 _ hf => ?_)
  refine am_aload_n dX2_become_15 rfl rfl ?_
  refine am_iload dX2_become_16 rfl rfl ?_
  refine am_pi_ dX2_become_18 fl_X2_21 fp_2_3 (fun z => by cases z) rfl hf (fun h4 _ hf => ?_)
  exact am_vret rfl dX2_become_21 hf
set_option maxRecDepth 20000 in
set_option maxHeartbeats 4000000 in
theorem sfX8_faulty {G : am_G}  (v0 : Nat) (v1 : Int32) (v2 : Int32) (v3 : Int32) (v4 : Int32) (h : am_H) (y : Int32 × am_H) (hf : fX8_faulty v0 v1 v2 v3 v4 h = some y) : am_Cn G miX8_faulty [va_rf (some v0), .int v1, .int v2, .int v3, .int v4] h (some (.int y.1)) y.2 := by
  refine am_beg (ls := [some (va_rf (some v0)), some (.int v1), some (.int v2), some (.int v3), some (.int v4), none]) (by simp only [am_en, am_e1_r, am_e1_i, am_e1_l, am_e1_n]; rfl) ?_
  unfold fX8_faulty at hf
  refine am_iload_n dX8_faulty_0 rfl rfl ?_
  refine am_cSi (As := [.int v1]) (st := []) lk_X8_faulty_150 rfl (Nat.le_of_ble_eq_true rfl) (Nat.le_of_ble_eq_true rfl) rfl dX8_faulty_1 rfl hf (fun y1 hf => sfX8_isKind _ _ y1 hf) (fun y1 _ hf => ?_)
  refine am_if_eq (tgt := 34) dX8_faulty_4 (by decide) rfl hf (fun hf => ?_) (fun hf => ?_)
  · refine am_bipush (v := -102) dX8_faulty_34 (by decide) rfl ?_
    exact am_iret rfl dX8_faulty_36 hf
  refine am_iload_n dX8_faulty_7 rfl rfl ?_
  refine am_iconst (v := 0) dX8_faulty_8 rfl rfl ?_
  refine am_iconst (v := 2) dX8_faulty_9 rfl rfl ?_
  refine am_cSi (As := [.int v2, .int (0 : Int32), .int (2 : Int32)]) (st := []) lk_X8_faulty_121 rfl (Nat.le_of_ble_eq_true rfl) (Nat.le_of_ble_eq_true rfl) rfl dX8_faulty_10 rfl hf (fun y2 hf => sfX8_isIn _ _ _ _ y2 hf) (fun y2 _ hf => ?_)
  refine am_if_eq (tgt := 34) dX8_faulty_13 (by decide) rfl hf (fun hf => ?_) (fun hf => ?_)
  · refine am_bipush (v := -102) dX8_faulty_34 (by decide) rfl ?_
    exact am_iret rfl dX8_faulty_36 hf
  refine am_iload_n dX8_faulty_16 rfl rfl ?_
  refine am_iconst (v := 1) dX8_faulty_17 rfl rfl ?_
  refine am_bipush (v := 20) dX8_faulty_18 (by decide) rfl ?_
  refine am_cSi (As := [.int v3, .int (1 : Int32), .int (20 : Int32)]) (st := []) lk_X8_faulty_121 rfl (Nat.le_of_ble_eq_true rfl) (Nat.le_of_ble_eq_true rfl) rfl dX8_faulty_20 rfl hf (fun y3 hf => sfX8_isIn _ _ _ _ y3 hf) (fun y3 _ hf => ?_)
  refine am_if_eq (tgt := 34) dX8_faulty_23 (by decide) rfl hf (fun hf => ?_) (fun hf => ?_)
  · refine am_bipush (v := -102) dX8_faulty_34 (by decide) rfl ?_
    exact am_iret rfl dX8_faulty_36 hf
  refine am_iload dX8_faulty_26 rfl rfl ?_
  refine am_cSi (As := [.int v4]) (st := []) lk_X8_faulty_153 rfl (Nat.le_of_ble_eq_true rfl) (Nat.le_of_ble_eq_true rfl) rfl dX8_faulty_28 rfl hf (fun y4 hf => sfX8_isTick _ _ y4 hf) (fun y4 _ hf => ?_)
  refine am_if_ne (tgt := 37) dX8_faulty_31 (by decide) rfl hf (fun hf => ?_) (fun hf => ?_)
  · refine am_aload_n dX8_faulty_37 rfl rfl ?_
    refine am_gi_ dX8_faulty_38 fl_X8_156 rfl hf (fun x5 _ hf => ?_)
    refine am_bipush (v := 8) dX8_faulty_41 (by decide) rfl ?_
    refine am_icmp_lt (tgt := 49) dX8_faulty_43 (by decide) rfl hf (fun hf => ?_) (fun hf => ?_)
    · refine am_new_ nw_X8_15 dX8_faulty_49 rfl hf (fun y6 _ hf => ?_)
      refine am_dup dX8_faulty_52 (am_c1 _) rfl ?_
      refine am_ini (As := []) (st := [va_rf (some y6.1)]) (b := y6.1) lk_X8_faulty_49 rfl (Nat.le_of_ble_eq_true rfl) (by simp only [List.map_cons, List.map_nil, am_c1, am_ci, am_cl]; exact Nat.le_of_ble_eq_true rfl) rfl dX8_faulty_53 rfl hf (fun y7 hf => sfX2_init _  _ y7 hf) (fun y7 _ hf => ?_)
      refine am_astore (ls' := [some (va_rf (some v0)), some (.int v1), some (.int v2), some (.int v3), some (.int v4), some (va_rf (some y6.1))]) dX8_faulty_56 (by decide) rfl rfl ?_
      refine am_aload dX8_faulty_58 rfl rfl ?_
      refine am_iload_n dX8_faulty_60 rfl rfl ?_
      refine am_iload_n dX8_faulty_61 rfl rfl ?_
      refine am_iload_n dX8_faulty_62 rfl rfl ?_
      refine am_iload dX8_faulty_63 rfl rfl ?_
      refine am_cVv (As := [.int v1, .int v2, .int v3, .int v4]) (st := []) lk_X8_faulty_159 rfl (Nat.le_of_ble_eq_true rfl) (Nat.le_of_ble_eq_true rfl) rfl dX8_faulty_65 rfl hf (fun b9 y8 hf => sfX2_become b9 _ _ _ _ _ y8 hf) (fun b9 y8 _ _ hf => ?_)
      refine am_aload_n dX8_faulty_68 rfl rfl ?_
      refine am_gr_ dX8_faulty_69 fl_X8_17 rfl hf (fun x10 _ hf => ?_)
      refine am_aload_n dX8_faulty_72 rfl rfl ?_
      refine am_gi_ dX8_faulty_73 fl_X8_156 rfl hf (fun x11 _ hf => ?_)
      refine am_aload dX8_faulty_76 rfl rfl ?_
      refine am_asr_ (t := 5) rfl rfl (by decide) dX8_faulty_78 rfl hf (fun h12 _ hf => ?_)
      refine am_aload_n dX8_faulty_79 rfl rfl ?_
      refine am_dup dX8_faulty_80 (am_c1 _) rfl ?_
      refine am_gi_ dX8_faulty_81 fl_X8_156 rfl hf (fun x13 _ hf => ?_)
      refine am_iconst (v := 1) dX8_faulty_84 rfl rfl ?_
      refine am_iadd dX8_faulty_85 rfl ?_
      refine am_pi_ dX8_faulty_86 fl_X8_156 fp_8_4 (fun z => by cases z) rfl hf (fun h14 _ hf => ?_)
      refine am_aload_n dX8_faulty_89 rfl rfl ?_
      refine am_gi_ dX8_faulty_90 fl_X8_156 rfl hf (fun x15 _ hf => ?_)
      refine am_iconst (v := 1) dX8_faulty_93 rfl rfl ?_
      refine am_isub dX8_faulty_94 rfl ?_
      exact am_iret rfl dX8_faulty_95 hf
    refine am_bipush (v := -104) dX8_faulty_46 (by decide) rfl ?_
    exact am_iret rfl dX8_faulty_48 hf
  refine am_bipush (v := -102) dX8_faulty_34 (by decide) rfl ?_
  exact am_iret rfl dX8_faulty_36 hf
set_option maxRecDepth 20000 in
set_option maxHeartbeats 4000000 in
theorem sfX8_faultOf {G : am_G}  (v0 : Nat) (v1 : Int32) (h : am_H) (y : Option Nat × am_H) (hf : fX8_faultOf v0 v1 h = some y) : am_Cn G miX8_faultOf [va_rf (some v0), .int v1] h (some (va_rf y.1)) y.2 := by
  refine am_beg (ls := [some (va_rf (some v0)), some (.int v1)]) (by simp only [am_en, am_e1_r, am_e1_i, am_e1_l, am_e1_n]; rfl) ?_
  unfold fX8_faultOf at hf
  refine am_iload_n dX8_faultOf_0 rfl rfl ?_
  refine am_iconst (v := 0) dX8_faultOf_1 rfl rfl ?_
  refine am_aload_n dX8_faultOf_2 rfl rfl ?_
  refine am_gi_ dX8_faultOf_3 fl_X8_156 rfl hf (fun x1 _ hf => ?_)
  refine am_iconst (v := 1) dX8_faultOf_6 rfl rfl ?_
  refine am_isub dX8_faultOf_7 rfl ?_
  refine am_cSi (As := [.int v1, .int (0 : Int32), .int (x1 - (1 : Int32))]) (st := []) lk_X8_faultOf_121 rfl (Nat.le_of_ble_eq_true rfl) (Nat.le_of_ble_eq_true rfl) rfl dX8_faultOf_8 rfl hf (fun y2 hf => sfX8_isIn _ _ _ _ y2 hf) (fun y2 _ hf => ?_)
  refine am_if_eq (tgt := 29) dX8_faultOf_11 (by decide) rfl hf (fun hf => ?_) (fun hf => ?_)
  · refine am_null dX8_faultOf_29 rfl ?_
    exact am_aret rfl dX8_faultOf_30 hf
  refine am_iload_n dX8_faultOf_14 rfl rfl ?_
  refine am_bipush (v := 8) dX8_faultOf_15 (by decide) rfl ?_
  refine am_icmp_ge (tgt := 29) dX8_faultOf_17 (by decide) rfl hf (fun hf => ?_) (fun hf => ?_)
  · refine am_null dX8_faultOf_29 rfl ?_
    exact am_aret rfl dX8_faultOf_30 hf
  refine am_aload_n dX8_faultOf_20 rfl rfl ?_
  refine am_gr_ dX8_faultOf_21 fl_X8_17 rfl hf (fun x3 _ hf => ?_)
  refine am_iload_n dX8_faultOf_24 rfl rfl ?_
  refine am_alr_ (t := 5) rfl (by decide) dX8_faultOf_25 rfl hf (fun x4 _ hf => ?_)
  refine am_goto (pc' := 30) dX8_faultOf_26 (by decide) ?_
  exact am_aret rfl dX8_faultOf_30 hf
set_option maxRecDepth 20000 in
set_option maxHeartbeats 4000000 in
theorem sfX8_isFaultOfKind {G : am_G}  (v0 : Int32) (v1 : Int32) (h : am_H) (y : Int32 × am_H) (hf : fX8_isFaultOfKind v0 v1 h = some y) : am_Cn G miX8_isFaultOfKind [.int v0, .int v1] h (some (.int y.1)) y.2 := by
  refine am_beg (ls := [some (.int v0), some (.int v1)]) (by simp only [am_en, am_e1_r, am_e1_i, am_e1_l, am_e1_n]; rfl) ?_
  unfold fX8_isFaultOfKind at hf
  refine am_iload_n dX8_isFaultOfKind_0 rfl rfl ?_
  refine am_if_eq (tgt := 19) dX8_isFaultOfKind_1 (by decide) rfl hf (fun hf => ?_) (fun hf => ?_)
  · refine am_iconst (v := 1) dX8_isFaultOfKind_19 rfl rfl ?_
    refine am_goto (pc' := 24) dX8_isFaultOfKind_20 (by decide) ?_
    exact am_zret rfl dX8_isFaultOfKind_24 hf
  refine am_iload_n dX8_isFaultOfKind_4 rfl rfl ?_
  refine am_iload_n dX8_isFaultOfKind_5 rfl rfl ?_
  refine am_icmp_eq (tgt := 19) dX8_isFaultOfKind_6 (by decide) rfl hf (fun hf => ?_) (fun hf => ?_)
  · refine am_iconst (v := 1) dX8_isFaultOfKind_19 rfl rfl ?_
    refine am_goto (pc' := 24) dX8_isFaultOfKind_20 (by decide) ?_
    exact am_zret rfl dX8_isFaultOfKind_24 hf
  refine am_iload_n dX8_isFaultOfKind_9 rfl rfl ?_
  refine am_iconst (v := 2) dX8_isFaultOfKind_10 rfl rfl ?_
  refine am_icmp_ne (tgt := 23) dX8_isFaultOfKind_11 (by decide) rfl hf (fun hf => ?_) (fun hf => ?_)
  · refine am_iconst (v := 0) dX8_isFaultOfKind_23 rfl rfl ?_
    exact am_zret rfl dX8_isFaultOfKind_24 hf
  refine am_iload_n dX8_isFaultOfKind_14 rfl rfl ?_
  refine am_iconst (v := 1) dX8_isFaultOfKind_15 rfl rfl ?_
  refine am_icmp_ne (tgt := 23) dX8_isFaultOfKind_16 (by decide) rfl hf (fun hf => ?_) (fun hf => ?_)
  · refine am_iconst (v := 0) dX8_isFaultOfKind_23 rfl rfl ?_
    exact am_zret rfl dX8_isFaultOfKind_24 hf
  refine am_iconst (v := 1) dX8_isFaultOfKind_19 rfl rfl ?_
  refine am_goto (pc' := 24) dX8_isFaultOfKind_20 (by decide) ?_
  exact am_zret rfl dX8_isFaultOfKind_24 hf
set_option maxRecDepth 20000 in
set_option maxHeartbeats 4000000 in
theorem sfX8_as {G : am_G}  (v0 : Nat) (v1 : Int32) (v2 : Int32) (h : am_H) (y : Int32 × am_H) (hf : fX8_as v0 v1 v2 h = some y) : am_Cn G miX8_as [va_rf (some v0), .int v1, .int v2] h (some (.int y.1)) y.2 := by
  refine am_beg (ls := [some (va_rf (some v0)), some (.int v1), some (.int v2), none]) (by simp only [am_en, am_e1_r, am_e1_i, am_e1_l, am_e1_n]; rfl) ?_
  unfold fX8_as at hf
  refine am_iload_n dX8_as_0 rfl rfl ?_
  refine am_iconst (v := 0) dX8_as_1 rfl rfl ?_
  refine am_aload_n dX8_as_2 rfl rfl ?_
  refine am_gi_ dX8_as_3 fl_X8_156 rfl hf (fun x1 _ hf => ?_)
  refine am_iconst (v := 1) dX8_as_6 rfl rfl ?_
  refine am_isub dX8_as_7 rfl ?_
  refine am_cSi (As := [.int v1, .int (0 : Int32), .int (x1 - (1 : Int32))]) (st := []) lk_X8_as_121 rfl (Nat.le_of_ble_eq_true rfl) (Nat.le_of_ble_eq_true rfl) rfl dX8_as_8 rfl hf (fun y2 hf => sfX8_isIn _ _ _ _ y2 hf) (fun y2 _ hf => ?_)
  refine am_if_ne (tgt := 17) dX8_as_11 (by decide) rfl hf (fun hf => ?_) (fun hf => ?_)
  · refine am_iload_n dX8_as_17 rfl rfl ?_
    refine am_cSi (As := [.int v2]) (st := []) lk_X8_as_150 rfl (Nat.le_of_ble_eq_true rfl) (Nat.le_of_ble_eq_true rfl) rfl dX8_as_18 rfl hf (fun y3 hf => sfX8_isKind _ _ y3 hf) (fun y3 _ hf => ?_)
    refine am_if_ne (tgt := 27) dX8_as_21 (by decide) rfl hf (fun hf => ?_) (fun hf => ?_)
    · refine am_aload_n dX8_as_27 rfl rfl ?_
      refine am_iload_n dX8_as_28 rfl rfl ?_
      refine am_cVr (As := [.int v1]) (st := []) lk_X8_as_163 rfl (Nat.le_of_ble_eq_true rfl) (Nat.le_of_ble_eq_true rfl) rfl dX8_as_29 rfl hf (fun b5 y4 hf => sfX8_faultOf b5 _ _ y4 hf) (fun b5 y4 _ _ hf => ?_)
      refine am_astore_n (ls' := [some (va_rf (some v0)), some (.int v1), some (.int v2), some (va_rf y4.1)]) dX8_as_32 (by decide) rfl rfl ?_
      refine am_aload_n dX8_as_33 rfl rfl ?_
      refine am_ifnull (tgt := 52) dX8_as_34 (by decide) rfl hf (fun hf => ?_) (fun hf => ?_)
      · refine am_iconst (v := -1) dX8_as_52 rfl rfl ?_
        exact am_iret rfl dX8_as_53 hf
      refine am_aload_n dX8_as_37 rfl rfl ?_
      refine am_gi_ dX8_as_38 fl_X8_167 rfl hf (fun x6 _ hf => ?_)
      refine am_iload_n dX8_as_41 rfl rfl ?_
      refine am_cSi (As := [.int x6, .int v2]) (st := []) lk_X8_as_170 rfl (Nat.le_of_ble_eq_true rfl) (Nat.le_of_ble_eq_true rfl) rfl dX8_as_42 rfl hf (fun y7 hf => sfX8_isFaultOfKind _ _ _ y7 hf) (fun y7 _ hf => ?_)
      refine am_if_eq (tgt := 52) dX8_as_45 (by decide) rfl hf (fun hf => ?_) (fun hf => ?_)
      · refine am_iconst (v := -1) dX8_as_52 rfl rfl ?_
        exact am_iret rfl dX8_as_53 hf
      refine am_iload_n dX8_as_48 rfl rfl ?_
      refine am_goto (pc' := 53) dX8_as_49 (by decide) ?_
      exact am_iret rfl dX8_as_53 hf
    refine am_bipush (v := -102) dX8_as_24 (by decide) rfl ?_
    exact am_iret rfl dX8_as_26 hf
  refine am_bipush (v := -101) dX8_as_14 (by decide) rfl ?_
  exact am_iret rfl dX8_as_16 hf
set_option maxRecDepth 20000 in
set_option maxHeartbeats 4000000 in
theorem sfL_run_584 {G : am_G}  {k554 : Option Nat → Int32 → Int32 → Int32 → Int32 → Int32 → Int32 → Option Nat → Option Nat → Int32 → Int32 → Int32 → Int32 → Int32 → Int32 → Int32 → am_H → Option (am_H)} (hk554 : ∀ (v0 : Option Nat) (v1 : Int32) (v2 : Int32) (v3 : Int32) (v4 : Int32) (v5 : Int32) (v6 : Int32) (v7 : Option Nat) (v8 : Option Nat) (v9 : Int32) (v10 : Int32) (v11 : Int32) (v12 : Int32) (v13 : Int32) (v14 : Int32) (v17 : Int32) (h : am_H) (y : am_H), k554 v0 v1 v2 v3 v4 v5 v6 v7 v8 v9 v10 v11 v12 v13 v14 v17 h = some y → am_S G miL_run 554 [some (va_rf v0), some (.int v1), some (.int v2), some (.int v3), some (.int v4), some (.int v5), some (.int v6), some (va_rf v7), some (va_rf v8), some (.int v9), some (.int v10), some (.int v11), some (.int v12), some (.int v13), some (.int v14), none, none, some (.int v17), none, none, none] [] h none y) (v0 : Option Nat) (v1 : Int32) (v2 : Int32) (v3 : Int32) (v4 : Int32) (v5 : Int32) (v6 : Int32) (v7 : Option Nat) (v8 : Option Nat) (v9 : Int32) (v10 : Int32) (v11 : Int32) (v12 : Int32) (v13 : Int32) (v14 : Int32) (v17 : Int32) (s0 : Option Nat) (s1 : Int32) (s2 : Int32) (h : am_H) (y : am_H) (hf : fL_run_584 k554 v0 v1 v2 v3 v4 v5 v6 v7 v8 v9 v10 v11 v12 v13 v14 v17 s0 s1 s2 h = some y) : am_S G miL_run 584 [some (va_rf v0), some (.int v1), some (.int v2), some (.int v3), some (.int v4), some (.int v5), some (.int v6), some (va_rf v7), some (va_rf v8), some (.int v9), some (.int v10), some (.int v11), some (.int v12), some (.int v13), some (.int v14), none, none, some (.int v17), none, none, none] [.int s2, .int s1, va_rf s0] h none y := by
  unfold fL_run_584 at hf
  refine am_iast dL_run_584 rfl hf (fun h1 _ hf => ?_)
  refine am_iinc (ls' := [some (va_rf v0), some (.int v1), some (.int v2), some (.int v3), some (.int v4), some (.int v5), some (.int v6), some (va_rf v7), some (va_rf v8), some (.int v9), some (.int v10), some (.int v11), some (.int v12), some (.int v13), some (.int v14), none, none, some (.int (v17 + (1 : Int32))), none, none, none]) dL_run_585 rfl rfl (by decide) rfl rfl ?_
  refine am_goto (pc' := 554) dL_run_588 (by decide) ?_
  exact hk554 _ _ _ _ _ _ _ _ _ _ _ _ _ _ _ _ _ _ hf
set_option maxRecDepth 20000 in
set_option maxHeartbeats 4000000 in
theorem sfL_run_626 {G : am_G}  {k99 : Option Nat → Int32 → Int32 → Int32 → Int32 → Int32 → Int32 → Option Nat → Option Nat → Int32 → Int32 → Int32 → Int32 → Int32 → Int32 → am_H → Option (am_H)} (hk99 : ∀ (v0 : Option Nat) (v1 : Int32) (v2 : Int32) (v3 : Int32) (v4 : Int32) (v5 : Int32) (v6 : Int32) (v7 : Option Nat) (v8 : Option Nat) (v9 : Int32) (v10 : Int32) (v11 : Int32) (v12 : Int32) (v13 : Int32) (v14 : Int32) (h : am_H) (y : am_H), k99 v0 v1 v2 v3 v4 v5 v6 v7 v8 v9 v10 v11 v12 v13 v14 h = some y → am_S G miL_run 99 [some (va_rf v0), some (.int v1), some (.int v2), some (.int v3), some (.int v4), some (.int v5), some (.int v6), some (va_rf v7), some (va_rf v8), some (.int v9), some (.int v10), some (.int v11), some (.int v12), some (.int v13), some (.int v14), none, none, none, none, none, none] [] h none y) (v0 : Option Nat) (v1 : Int32) (v2 : Int32) (v3 : Int32) (v4 : Int32) (v5 : Int32) (v6 : Int32) (v7 : Option Nat) (v8 : Option Nat) (v9 : Int32) (v10 : Int32) (v11 : Int32) (v12 : Int32) (v13 : Int32) (v14 : Int32) (h : am_H) (y : am_H) (hf : fL_run_626 k99 v0 v1 v2 v3 v4 v5 v6 v7 v8 v9 v10 v11 v12 v13 v14 h = some y) : am_S G miL_run 626 [some (va_rf v0), some (.int v1), some (.int v2), some (.int v3), some (.int v4), some (.int v5), some (.int v6), some (va_rf v7), some (va_rf v8), some (.int v9), some (.int v10), some (.int v11), some (.int v12), some (.int v13), some (.int v14), none, none, none, none, none, none] [] h none y := by
  unfold fL_run_626 at hf
  refine am_iinc (ls' := [some (va_rf v0), some (.int v1), some (.int v2), some (.int v3), some (.int v4), some (.int v5), some (.int v6), some (va_rf v7), some (va_rf v8), some (.int v9), some (.int v10), some (.int v11), some (.int v12), some (.int v13), some (.int (v14 + (1 : Int32))), none, none, none, none, none, none]) dL_run_626 rfl rfl (by decide) rfl rfl ?_
  refine am_goto (pc' := 99) dL_run_629 (by decide) ?_
  exact hk99 _ _ _ _ _ _ _ _ _ _ _ _ _ _ _ _ _ hf
