/-! printed proofs of the printed functions, 14 -/
set_option maxRecDepth 20000 in
set_option maxHeartbeats 4000000 in
theorem sfX8_digest_156 {G : am_G}  : ∀ (n : Nat) (v0 : Option Nat) (v1 : Int64) (v3 : Int32) (h : am_H) (y : Int64 × am_H) (hf : fX8_digest_156  n v0 v1 v3 h = some y), am_S G miX8_digest 156 [some (va_rf v0), some (.long v1), none, some (.int v3)] [] h (some (.long y.1)) y.2 := by
  intro n
  induction n with
  | zero => intro v0 v1 v3 h y hf; cases hf
  | succ n ih =>
    intro v0 v1 v3 h y hf
    have hf : fX8_digest_156_b  (fX8_digest_156  n) v0 v1 v3 h = some y := hf
    unfold fX8_digest_156_b at hf
    refine am_iload_n dX8_digest_156 rfl rfl ?_
    refine am_aload_n dX8_digest_157 rfl rfl ?_
    refine am_gr_ dX8_digest_158 fl_X8_30 rfl hf (fun x1 _ hf => ?_)
    refine am_gi_ dX8_digest_161 fl_X8_91 rfl hf (fun x2 _ hf => ?_)
    refine am_icmp_ge (tgt := 187) dX8_digest_164 (by decide) rfl hf (fun hf => ?_) (fun hf => ?_)
    · refine am_iconst (v := 0) dX8_digest_187 rfl rfl ?_
      refine am_istore_n (ls' := [some (va_rf v0), some (.long v1), none, some (.int (0 : Int32))]) dX8_digest_188 (by decide) rfl rfl ?_
      exact (sfX8_digest_189 _) _ _ _ _ _ hf
    refine am_lload_n dX8_digest_167 rfl rfl ?_
    refine am_aload_n dX8_digest_168 rfl rfl ?_
    refine am_gr_ dX8_digest_169 fl_X8_30 rfl hf (fun x3 _ hf => ?_)
    refine am_iload_n dX8_digest_172 rfl rfl ?_
    refine am_cVi (As := [.int v3]) (st := [.long v1]) lk_X8_digest_339 rfl (Nat.le_of_ble_eq_true rfl) (Nat.le_of_ble_eq_true rfl) rfl dX8_digest_173 rfl hf (fun b5 y4 hf => sfX3_codeAt b5 _ _ y4 hf) (fun b5 y4 _ _ hf => ?_)
    refine am_i2l dX8_digest_176 rfl ?_
    refine am_cSl (As := [.long v1, .long (Int32.toInt64 y4.1)]) (st := []) lk_X8_digest_323 rfl (Nat.le_of_ble_eq_true rfl) (Nat.le_of_ble_eq_true rfl) rfl dX8_digest_177 rfl hf (fun y6 hf => sfX8_mixed _ _ _ y6 hf) (fun y6 _ hf => ?_)
    refine am_lstore_n (ls' := [some (va_rf v0), some (.long y6.1), none, some (.int v3)]) dX8_digest_180 (by decide) (am_s2_r (j := 0) rfl rfl) rfl ?_
    refine am_iinc (ls' := [some (va_rf v0), some (.long y6.1), none, some (.int (v3 + (1 : Int32)))]) dX8_digest_181 rfl rfl (by decide) rfl rfl ?_
    refine am_goto (pc' := 156) dX8_digest_184 (by decide) ?_
    exact ih _ _ _ _ _ hf
set_option maxRecDepth 20000 in
set_option maxHeartbeats 4000000 in
theorem sfX8_digest_127 {G : am_G}  : ∀ (n : Nat) (v0 : Option Nat) (v1 : Int64) (v3 : Int32) (h : am_H) (y : Int64 × am_H) (hf : fX8_digest_127  n v0 v1 v3 h = some y), am_S G miX8_digest 127 [some (va_rf v0), some (.long v1), none, some (.int v3)] [] h (some (.long y.1)) y.2 := by
  intro n
  induction n with
  | zero => intro v0 v1 v3 h y hf; cases hf
  | succ n ih =>
    intro v0 v1 v3 h y hf
    have hf : fX8_digest_127_b  (fX8_digest_127  n) v0 v1 v3 h = some y := hf
    unfold fX8_digest_127_b at hf
    refine am_iload_n dX8_digest_127 rfl rfl ?_
    refine am_bipush (v := 12) dX8_digest_128 (by decide) rfl ?_
    refine am_icmp_ge (tgt := 154) dX8_digest_130 (by decide) rfl hf (fun hf => ?_) (fun hf => ?_)
    · refine am_iconst (v := 0) dX8_digest_154 rfl rfl ?_
      refine am_istore_n (ls' := [some (va_rf v0), some (.long v1), none, some (.int (0 : Int32))]) dX8_digest_155 (by decide) rfl rfl ?_
      exact (sfX8_digest_156 _) _ _ _ _ _ hf
    refine am_lload_n dX8_digest_133 rfl rfl ?_
    refine am_aload_n dX8_digest_134 rfl rfl ?_
    refine am_gr_ dX8_digest_135 fl_X8_37 rfl hf (fun x1 _ hf => ?_)
    refine am_gr_ dX8_digest_138 fl_X8_271 rfl hf (fun x2 _ hf => ?_)
    refine am_iload_n dX8_digest_141 rfl rfl ?_
    refine am_iald dX8_digest_142 rfl hf (fun x3 _ hf => ?_)
    refine am_i2l dX8_digest_143 rfl ?_
    refine am_cSl (As := [.long v1, .long (Int32.toInt64 x3)]) (st := []) lk_X8_digest_323 rfl (Nat.le_of_ble_eq_true rfl) (Nat.le_of_ble_eq_true rfl) rfl dX8_digest_144 rfl hf (fun y4 hf => sfX8_mixed _ _ _ y4 hf) (fun y4 _ hf => ?_)
    refine am_lstore_n (ls' := [some (va_rf v0), some (.long y4.1), none, some (.int v3)]) dX8_digest_147 (by decide) (am_s2_r (j := 0) rfl rfl) rfl ?_
    refine am_iinc (ls' := [some (va_rf v0), some (.long y4.1), none, some (.int (v3 + (1 : Int32)))]) dX8_digest_148 rfl rfl (by decide) rfl rfl ?_
    refine am_goto (pc' := 127) dX8_digest_151 (by decide) ?_
    exact ih _ _ _ _ _ hf
set_option maxRecDepth 20000 in
set_option maxHeartbeats 4000000 in
theorem sfX8_digest_88 {G : am_G}  : ∀ (n : Nat) (v0 : Option Nat) (v1 : Int64) (v3 : Int32) (h : am_H) (y : Int64 × am_H) (hf : fX8_digest_88  n v0 v1 v3 h = some y), am_S G miX8_digest 88 [some (va_rf v0), some (.long v1), none, some (.int v3)] [] h (some (.long y.1)) y.2 := by
  intro n
  induction n with
  | zero => intro v0 v1 v3 h y hf; cases hf
  | succ n ih =>
    intro v0 v1 v3 h y hf
    have hf : fX8_digest_88_b  (fX8_digest_88  n) v0 v1 v3 h = some y := hf
    unfold fX8_digest_88_b at hf
    refine am_iload_n dX8_digest_88 rfl rfl ?_
    refine am_aload_n dX8_digest_89 rfl rfl ?_
    refine am_gi_ dX8_digest_90 fl_X8_183 rfl hf (fun x1 _ hf => ?_)
    refine am_icmp_ge (tgt := 112) dX8_digest_93 (by decide) rfl hf (fun hf => ?_) (fun hf => ?_)
    · refine am_lload_n dX8_digest_112 rfl rfl ?_
      refine am_aload_n dX8_digest_113 rfl rfl ?_
      refine am_gr_ dX8_digest_114 fl_X8_37 rfl hf (fun x2 _ hf => ?_)
      refine am_gi_ dX8_digest_117 fl_X8_197 rfl hf (fun x3 _ hf => ?_)
      refine am_i2l dX8_digest_120 rfl ?_
      refine am_cSl (As := [.long v1, .long (Int32.toInt64 x3)]) (st := []) lk_X8_digest_323 rfl (Nat.le_of_ble_eq_true rfl) (Nat.le_of_ble_eq_true rfl) rfl dX8_digest_121 rfl hf (fun y4 hf => sfX8_mixed _ _ _ y4 hf) (fun y4 _ hf => ?_)
      refine am_lstore_n (ls' := [some (va_rf v0), some (.long y4.1), none, some (.int v3)]) dX8_digest_124 (by decide) (am_s2_r (j := 0) rfl rfl) rfl ?_
      refine am_iconst (v := 0) dX8_digest_125 rfl rfl ?_
      refine am_istore_n (ls' := [some (va_rf v0), some (.long y4.1), none, some (.int (0 : Int32))]) dX8_digest_126 (by decide) rfl rfl ?_
      exact (sfX8_digest_127 _) _ _ _ _ _ hf
    refine am_lload_n dX8_digest_96 rfl rfl ?_
    refine am_aload_n dX8_digest_97 rfl rfl ?_
    refine am_iload_n dX8_digest_98 rfl rfl ?_
    refine am_cVr (As := [.int v3]) (st := [.long v1]) lk_X8_digest_186 rfl (Nat.le_of_ble_eq_true rfl) (Nat.le_of_ble_eq_true rfl) rfl dX8_digest_99 rfl hf (fun b6 y5 hf => sfX8_workOf b6 _ _ y5 hf) (fun b6 y5 _ _ hf => ?_)
    refine am_cSl (As := [.long v1, va_rf y5.1]) (st := []) lk_X8_digest_335 rfl (by simp only [am_e1_r, am_e1_i, am_e1_l, am_e1_n]; exact Nat.le_of_ble_eq_true rfl) (Nat.le_of_ble_eq_true rfl) rfl dX8_digest_102 rfl hf (fun y7 hf => sfX8_mixedWork _ _ _ y7 hf) (fun y7 _ hf => ?_)
    refine am_lstore_n (ls' := [some (va_rf v0), some (.long y7.1), none, some (.int v3)]) dX8_digest_105 (by decide) (am_s2_r (j := 0) rfl rfl) rfl ?_
    refine am_iinc (ls' := [some (va_rf v0), some (.long y7.1), none, some (.int (v3 + (1 : Int32)))]) dX8_digest_106 rfl rfl (by decide) rfl rfl ?_
    refine am_goto (pc' := 88) dX8_digest_109 (by decide) ?_
    exact ih _ _ _ _ _ hf
set_option maxRecDepth 20000 in
set_option maxHeartbeats 4000000 in
theorem sfX8_digest_62 {G : am_G}  : ∀ (n : Nat) (v0 : Option Nat) (v1 : Int64) (v3 : Int32) (h : am_H) (y : Int64 × am_H) (hf : fX8_digest_62  n v0 v1 v3 h = some y), am_S G miX8_digest 62 [some (va_rf v0), some (.long v1), none, some (.int v3)] [] h (some (.long y.1)) y.2 := by
  intro n
  induction n with
  | zero => intro v0 v1 v3 h y hf; cases hf
  | succ n ih =>
    intro v0 v1 v3 h y hf
    have hf : fX8_digest_62_b  (fX8_digest_62  n) v0 v1 v3 h = some y := hf
    unfold fX8_digest_62_b at hf
    refine am_iload_n dX8_digest_62 rfl rfl ?_
    refine am_aload_n dX8_digest_63 rfl rfl ?_
    refine am_gi_ dX8_digest_64 fl_X8_156 rfl hf (fun x1 _ hf => ?_)
    refine am_icmp_ge (tgt := 86) dX8_digest_67 (by decide) rfl hf (fun hf => ?_) (fun hf => ?_)
    · refine am_iconst (v := 0) dX8_digest_86 rfl rfl ?_
      refine am_istore_n (ls' := [some (va_rf v0), some (.long v1), none, some (.int (0 : Int32))]) dX8_digest_87 (by decide) rfl rfl ?_
      exact (sfX8_digest_88 _) _ _ _ _ _ hf
    refine am_lload_n dX8_digest_70 rfl rfl ?_
    refine am_aload_n dX8_digest_71 rfl rfl ?_
    refine am_iload_n dX8_digest_72 rfl rfl ?_
    refine am_cVr (As := [.int v3]) (st := [.long v1]) lk_X8_digest_163 rfl (Nat.le_of_ble_eq_true rfl) (Nat.le_of_ble_eq_true rfl) rfl dX8_digest_73 rfl hf (fun b3 y2 hf => sfX8_faultOf b3 _ _ y2 hf) (fun b3 y2 _ _ hf => ?_)
    refine am_cSl (As := [.long v1, va_rf y2.1]) (st := []) lk_X8_digest_331 rfl (by simp only [am_e1_r, am_e1_i, am_e1_l, am_e1_n]; exact Nat.le_of_ble_eq_true rfl) (Nat.le_of_ble_eq_true rfl) rfl dX8_digest_76 rfl hf (fun y4 hf => sfX8_mixedFault _ _ _ y4 hf) (fun y4 _ hf => ?_)
    refine am_lstore_n (ls' := [some (va_rf v0), some (.long y4.1), none, some (.int v3)]) dX8_digest_79 (by decide) (am_s2_r (j := 0) rfl rfl) rfl ?_
    refine am_iinc (ls' := [some (va_rf v0), some (.long y4.1), none, some (.int (v3 + (1 : Int32)))]) dX8_digest_80 rfl rfl (by decide) rfl rfl ?_
    refine am_goto (pc' := 62) dX8_digest_83 (by decide) ?_
    exact ih _ _ _ _ _ hf
set_option maxRecDepth 20000 in
set_option maxHeartbeats 4000000 in
theorem sfX8_digest_39 {G : am_G}  : ∀ (n : Nat) (v0 : Option Nat) (v1 : Int64) (v3 : Int32) (h : am_H) (y : Int64 × am_H) (hf : fX8_digest_39  n v0 v1 v3 h = some y), am_S G miX8_digest 39 [some (va_rf v0), some (.long v1), none, some (.int v3)] [] h (some (.long y.1)) y.2 := by
  intro n
  induction n with
  | zero => intro v0 v1 v3 h y hf; cases hf
  | succ n ih =>
    intro v0 v1 v3 h y hf
    have hf : fX8_digest_39_b  (fX8_digest_39  n) v0 v1 v3 h = some y := hf
    unfold fX8_digest_39_b at hf
    refine am_iload_n dX8_digest_39 rfl rfl ?_
    refine am_aload_n dX8_digest_40 rfl rfl ?_
    refine am_gi_ dX8_digest_41 fl_X8_110 rfl hf (fun x1 _ hf => ?_)
    refine am_icmp_ge (tgt := 60) dX8_digest_44 (by decide) rfl hf (fun hf => ?_) (fun hf => ?_)
    · refine am_iconst (v := 0) dX8_digest_60 rfl rfl ?_
      refine am_istore_n (ls' := [some (va_rf v0), some (.long v1), none, some (.int (0 : Int32))]) dX8_digest_61 (by decide) rfl rfl ?_
      exact (sfX8_digest_62 _) _ _ _ _ _ hf
    refine am_aload_n dX8_digest_47 rfl rfl ?_
    refine am_lload_n dX8_digest_48 rfl rfl ?_
    refine am_iload_n dX8_digest_49 rfl rfl ?_
    refine am_cVl (As := [.long v1, .int v3]) (st := []) lk_X8_digest_327 rfl (Nat.le_of_ble_eq_true rfl) (Nat.le_of_ble_eq_true rfl) rfl dX8_digest_50 rfl hf (fun b3 y2 hf => sfX8_mixedClock b3 _ _ _ y2 hf) (fun b3 y2 _ _ hf => ?_)
    refine am_lstore_n (ls' := [some (va_rf v0), some (.long y2.1), none, some (.int v3)]) dX8_digest_53 (by decide) (am_s2_r (j := 0) rfl rfl) rfl ?_
    refine am_iinc (ls' := [some (va_rf v0), some (.long y2.1), none, some (.int (v3 + (1 : Int32)))]) dX8_digest_54 rfl rfl (by decide) rfl rfl ?_
    refine am_goto (pc' := 39) dX8_digest_57 (by decide) ?_
    exact ih _ _ _ _ _ hf
set_option maxRecDepth 20000 in
set_option maxHeartbeats 4000000 in
theorem sfX8_digest_6 {G : am_G}  : ∀ (n : Nat) (v0 : Option Nat) (v1 : Int64) (v3 : Int32) (h : am_H) (y : Int64 × am_H) (hf : fX8_digest_6  n v0 v1 v3 h = some y), am_S G miX8_digest 6 [some (va_rf v0), some (.long v1), none, some (.int v3)] [] h (some (.long y.1)) y.2 := by
  intro n
  induction n with
  | zero => intro v0 v1 v3 h y hf; cases hf
  | succ n ih =>
    intro v0 v1 v3 h y hf
    have hf : fX8_digest_6_b  (fX8_digest_6  n) v0 v1 v3 h = some y := hf
    unfold fX8_digest_6_b at hf
    refine am_iload_n dX8_digest_6 rfl rfl ?_
    refine am_iconst (v := 4) dX8_digest_7 rfl rfl ?_
    refine am_icmp_ge (tgt := 37) dX8_digest_8 (by decide) rfl hf (fun hf => ?_) (fun hf => ?_)
    · refine am_iconst (v := 0) dX8_digest_37 rfl rfl ?_
      refine am_istore_n (ls' := [some (va_rf v0), some (.long v1), none, some (.int (0 : Int32))]) dX8_digest_38 (by decide) rfl rfl ?_
      exact (sfX8_digest_39 _) _ _ _ _ _ hf
    refine am_lload_n dX8_digest_11 rfl rfl ?_
    refine am_aload_n dX8_digest_12 rfl rfl ?_
    refine am_iload_n dX8_digest_13 rfl rfl ?_
    refine am_cVi (As := [.int v3]) (st := [.long v1]) lk_X8_digest_258 rfl (Nat.le_of_ble_eq_true rfl) (Nat.le_of_ble_eq_true rfl) rfl dX8_digest_14 rfl hf (fun b2 y1 hf => sfX8_warmthOf b2 _ _ y1 hf) (fun b2 y1 _ _ hf => ?_)
    refine am_i2l dX8_digest_17 rfl ?_
    refine am_cSl (As := [.long v1, .long (Int32.toInt64 y1.1)]) (st := []) lk_X8_digest_323 rfl (Nat.le_of_ble_eq_true rfl) (Nat.le_of_ble_eq_true rfl) rfl dX8_digest_18 rfl hf (fun y3 hf => sfX8_mixed _ _ _ y3 hf) (fun y3 _ hf => ?_)
    refine am_aload_n dX8_digest_21 rfl rfl ?_
    refine am_iload_n dX8_digest_22 rfl rfl ?_
    refine am_cVi (As := [.int v3]) (st := [.long y3.1]) lk_X8_digest_216 rfl (Nat.le_of_ble_eq_true rfl) (Nat.le_of_ble_eq_true rfl) rfl dX8_digest_23 rfl hf (fun b5 y4 hf => sfX8_daylightOf b5 _ _ y4 hf) (fun b5 y4 _ _ hf => ?_)
    refine am_i2l dX8_digest_26 rfl ?_
    refine am_cSl (As := [.long y3.1, .long (Int32.toInt64 y4.1)]) (st := []) lk_X8_digest_323 rfl (Nat.le_of_ble_eq_true rfl) (Nat.le_of_ble_eq_true rfl) rfl dX8_digest_27 rfl hf (fun y6 hf => sfX8_mixed _ _ _ y6 hf) (fun y6 _ hf => ?_)
    refine am_lstore_n (ls' := [some (va_rf v0), some (.long y6.1), none, some (.int v3)]) dX8_digest_30 (by decide) (am_s2_r (j := 0) rfl rfl) rfl ?_
    refine am_iinc (ls' := [some (va_rf v0), some (.long y6.1), none, some (.int (v3 + (1 : Int32)))]) dX8_digest_31 rfl rfl (by decide) rfl rfl ?_
    refine am_goto (pc' := 6) dX8_digest_34 (by decide) ?_
    exact ih _ _ _ _ _ hf
set_option maxRecDepth 20000 in
set_option maxHeartbeats 4000000 in
theorem sfX8_digest {G : am_G}  (v0 : Nat) (h : am_H) (y : Int64 × am_H) (hf : fX8_digest v0 h = some y) : am_Cn G miX8_digest [va_rf (some v0)] h (some (.long y.1)) y.2 := by
  refine am_beg (ls := [some (va_rf (some v0)), none, none, none]) (by simp only [am_en, am_e1_r, am_e1_i, am_e1_l, am_e1_n]; rfl) ?_
  unfold fX8_digest at hf
  refine am_ldc2 (v := 409) dX8_digest_0 cl_X8_321 rfl ?_
  refine am_lstore_n (ls' := [some (va_rf (some v0)), some (.long (409 : Int64)), none, none]) dX8_digest_3 (by decide) (am_s2_r (j := 0) rfl rfl) rfl ?_
  refine am_iconst (v := 0) dX8_digest_4 rfl rfl ?_
  refine am_istore_n (ls' := [some (va_rf (some v0)), some (.long (409 : Int64)), none, some (.int (0 : Int32))]) dX8_digest_5 (by decide) rfl rfl ?_
  exact (sfX8_digest_6 _) _ _ _ _ _ hf
set_option maxRecDepth 20000 in
set_option maxHeartbeats 4000000 in
theorem sfX9_mix {G : am_G}  (v0 : Nat) (v1 : Int64) (h : am_H) (y : am_H) (hf : fX9_mix v0 v1 h = some y) : am_Cn G miX9_mix [va_rf (some v0), .long v1] h none y := by
  refine am_beg (ls := [some (va_rf (some v0)), some (.long v1), none]) (by simp only [am_en, am_e1_r, am_e1_i, am_e1_l, am_e1_n]; rfl) ?_
  unfold fX9_mix at hf
  refine am_aload_n dX9_mix_0 rfl rfl ?_
  refine am_ldc2 (v := 31) dX9_mix_1 cl_X9_369 rfl ?_
  refine am_aload_n dX9_mix_4 rfl rfl ?_
  refine am_gl_ dX9_mix_5 fl_X9_371 rfl hf (fun x1 _ hf => ?_)
  refine am_lmul dX9_mix_8 rfl ?_
  refine am_lload_n dX9_mix_9 rfl rfl ?_
  refine am_ladd dX9_mix_10 rfl ?_
  refine am_pl_ dX9_mix_11 fl_X9_371 fp_9_75 (fun z => by cases z) rfl hf (fun h2 _ hf => ?_)
  exact am_vret rfl dX9_mix_14 hf
set_option maxRecDepth 20000 in
set_option maxHeartbeats 4000000 in
theorem sfX9_mixClock_167 {G : am_G}  : ∀ (n : Nat) (v0 : Option Nat) (v2 : Int32) (h : am_H) (y : am_H) (hf : fX9_mixClock_167  n v0 v2 h = some y), am_S G miX9_mixClock 167 [some (va_rf v0), none, some (.int v2)] [] h none y := by
  intro n
  induction n with
  | zero => intro v0 v2 h y hf; cases hf
  | succ n ih =>
    intro v0 v2 h y hf
    have hf : fX9_mixClock_167_b  (fX9_mixClock_167  n) v0 v2 h = some y := hf
    unfold fX9_mixClock_167_b at hf
    refine am_iload_n dX9_mixClock_167 rfl rfl ?_
    refine am_iconst (v := 4) dX9_mixClock_168 rfl rfl ?_
    refine am_icmp_ge (tgt := 188) dX9_mixClock_169 (by decide) rfl hf (fun hf => ?_) (fun hf => ?_)
    · exact am_vret rfl dX9_mixClock_188 hf
    refine am_aload_n dX9_mixClock_172 rfl rfl ?_
    refine am_aload_n dX9_mixClock_173 rfl rfl ?_
    refine am_iload_n dX9_mixClock_174 rfl rfl ?_
    refine am_cVi (As := [.int v2]) (st := [va_rf v0]) lk_X9_mixClock_323 rfl (Nat.le_of_ble_eq_true rfl) (by simp only [List.map_cons, List.map_nil, am_c1, am_ci, am_cl]; exact Nat.le_of_ble_eq_true rfl) rfl dX9_mixClock_175 rfl hf (fun b2 y1 hf => sfX9_shown b2 _ _ y1 hf) (fun b2 y1 _ _ hf => ?_)
    refine am_i2l dX9_mixClock_178 rfl ?_
    refine am_cVv (As := [.long (Int32.toInt64 y1.1)]) (st := []) lk_X9_mixClock_375 rfl (Nat.le_of_ble_eq_true rfl) (Nat.le_of_ble_eq_true rfl) rfl dX9_mixClock_179 rfl hf (fun b4 y3 hf => sfX9_mix b4 _ _ y3 hf) (fun b4 y3 _ _ hf => ?_)
    refine am_iinc (ls' := [some (va_rf v0), none, some (.int (v2 + (1 : Int32)))]) dX9_mixClock_182 rfl rfl (by decide) rfl rfl ?_
    refine am_goto (pc' := 167) dX9_mixClock_185 (by decide) ?_
    exact ih _ _ _ _ hf
set_option maxRecDepth 20000 in
set_option maxHeartbeats 4000000 in
theorem sfX9_mixClock_130 {G : am_G}  : ∀ (n : Nat) (v0 : Option Nat) (v1 : Int32) (v2 : Int32) (h : am_H) (y : am_H) (hf : fX9_mixClock_130  n v0 v1 v2 h = some y), am_S G miX9_mixClock 130 [some (va_rf v0), some (.int v1), some (.int v2)] [] h none y := by
  intro n
  induction n with
  | zero => intro v0 v1 v2 h y hf; cases hf
  | succ n ih =>
    intro v0 v1 v2 h y hf
    have hf : fX9_mixClock_130_b  (fX9_mixClock_130  n) v0 v1 v2 h = some y := hf
    unfold fX9_mixClock_130_b at hf
    refine am_iload_n dX9_mixClock_130 rfl rfl ?_
    refine am_aload_n dX9_mixClock_131 rfl rfl ?_
    refine am_gr_ dX9_mixClock_132 fl_X9_31 rfl hf (fun x1 _ hf => ?_)
    refine am_iload_n dX9_mixClock_135 rfl rfl ?_
    refine am_iald dX9_mixClock_136 rfl hf (fun x2 _ hf => ?_)
    refine am_icmp_ge (tgt := 160) dX9_mixClock_137 (by decide) rfl hf (fun hf => ?_) (fun hf => ?_)
    · refine am_aload_n dX9_mixClock_160 rfl rfl ?_
      refine am_iload_n dX9_mixClock_161 rfl rfl ?_
      refine am_cVv (As := [.int v1]) (st := []) lk_X9_mixClock_320 rfl (Nat.le_of_ble_eq_true rfl) (Nat.le_of_ble_eq_true rfl) rfl dX9_mixClock_162 rfl hf (fun b4 y3 hf => sfX9_show b4 _ _ y3 hf) (fun b4 y3 _ _ hf => ?_)
      refine am_iconst (v := 0) dX9_mixClock_165 rfl rfl ?_
      refine am_istore_n (ls' := [some (va_rf v0), some (.int v1), some (.int (0 : Int32))]) dX9_mixClock_166 (by decide) rfl rfl ?_
      exact am_we ((sfX9_mixClock_167 _) _ _ _ _ hf) ⟨Or.inr rfl, Or.inl rfl, Or.inr rfl, trivial⟩
    refine am_aload_n dX9_mixClock_140 rfl rfl ?_
    refine am_aload_n dX9_mixClock_141 rfl rfl ?_
    refine am_gr_ dX9_mixClock_142 fl_X9_102 rfl hf (fun x5 _ hf => ?_)
    refine am_iload_n dX9_mixClock_145 rfl rfl ?_
    refine am_iald dX9_mixClock_146 rfl hf (fun x6 _ hf => ?_)
    refine am_cSi (As := [.int x6]) (st := [va_rf v0]) lk_X9_mixClock_283 rfl (Nat.le_of_ble_eq_true rfl) (by simp only [List.map_cons, List.map_nil, am_c1, am_ci, am_cl]; exact Nat.le_of_ble_eq_true rfl) rfl dX9_mixClock_147 rfl hf (fun y7 hf => sfX9_asTick _ _ y7 hf) (fun y7 _ hf => ?_)
    refine am_i2l dX9_mixClock_150 rfl ?_
    refine am_cVv (As := [.long (Int32.toInt64 y7.1)]) (st := []) lk_X9_mixClock_375 rfl (Nat.le_of_ble_eq_true rfl) (Nat.le_of_ble_eq_true rfl) rfl dX9_mixClock_151 rfl hf (fun b9 y8 hf => sfX9_mix b9 _ _ y8 hf) (fun b9 y8 _ _ hf => ?_)
    refine am_iinc (ls' := [some (va_rf v0), some (.int v1), some (.int (v2 + (1 : Int32)))]) dX9_mixClock_154 rfl rfl (by decide) rfl rfl ?_
    refine am_goto (pc' := 130) dX9_mixClock_157 (by decide) ?_
    exact ih _ _ _ _ _ hf
set_option maxRecDepth 20000 in
set_option maxHeartbeats 4000000 in
theorem sfX9_mixClock_89 {G : am_G}  : ∀ (n : Nat) (v0 : Option Nat) (v1 : Int32) (v2 : Int32) (h : am_H) (y : am_H) (hf : fX9_mixClock_89  n v0 v1 v2 h = some y), am_S G miX9_mixClock 89 [some (va_rf v0), some (.int v1), some (.int v2)] [] h none y := by
  intro n
  induction n with
  | zero => intro v0 v1 v2 h y hf; cases hf
  | succ n ih =>
    intro v0 v1 v2 h y hf
    have hf : fX9_mixClock_89_b  (fX9_mixClock_89  n) v0 v1 v2 h = some y := hf
    unfold fX9_mixClock_89_b at hf
    refine am_iload_n dX9_mixClock_89 rfl rfl ?_
    refine am_aload_n dX9_mixClock_90 rfl rfl ?_
    refine am_gr_ dX9_mixClock_91 fl_X9_31 rfl hf (fun x1 _ hf => ?_)
    refine am_iload_n dX9_mixClock_94 rfl rfl ?_
    refine am_iald dX9_mixClock_95 rfl hf (fun x2 _ hf => ?_)
    refine am_icmp_ge (tgt := 121) dX9_mixClock_96 (by decide) rfl hf (fun hf => ?_) (fun hf => ?_)
    · refine am_aload_n dX9_mixClock_121 rfl rfl ?_
      refine am_iload_n dX9_mixClock_122 rfl rfl ?_
      refine am_iconst (v := 0) dX9_mixClock_123 rfl rfl ?_
      refine am_iconst (v := -1) dX9_mixClock_124 rfl rfl ?_
      refine am_cVv (As := [.int v1, .int (0 : Int32), .int (-1 : Int32)]) (st := []) lk_X9_mixClock_280 rfl (Nat.le_of_ble_eq_true rfl) (Nat.le_of_ble_eq_true rfl) rfl dX9_mixClock_125 rfl hf (fun b4 y3 hf => sfX9_runAll b4 _ _ _ _ y3 hf) (fun b4 y3 _ _ hf => ?_)
      refine am_iconst (v := 0) dX9_mixClock_128 rfl rfl ?_
      refine am_istore_n (ls' := [some (va_rf v0), some (.int v1), some (.int (0 : Int32))]) dX9_mixClock_129 (by decide) rfl rfl ?_
      exact (sfX9_mixClock_130 _) _ _ _ _ _ hf
    refine am_aload_n dX9_mixClock_99 rfl rfl ?_
    refine am_aload_n dX9_mixClock_100 rfl rfl ?_
    refine am_gr_ dX9_mixClock_101 fl_X9_34 rfl hf (fun x5 _ hf => ?_)
    refine am_bipush (v := 12) dX9_mixClock_104 (by decide) rfl ?_
    refine am_iload_n dX9_mixClock_106 rfl rfl ?_
    refine am_imul dX9_mixClock_107 rfl ?_
    refine am_iload_n dX9_mixClock_108 rfl rfl ?_
    refine am_iadd dX9_mixClock_109 rfl ?_
    refine am_iald dX9_mixClock_110 rfl hf (fun x6 _ hf => ?_)
    refine am_i2l dX9_mixClock_111 rfl ?_
    refine am_cVv (As := [.long (Int32.toInt64 x6)]) (st := []) lk_X9_mixClock_375 rfl (Nat.le_of_ble_eq_true rfl) (Nat.le_of_ble_eq_true rfl) rfl dX9_mixClock_112 rfl hf (fun b8 y7 hf => sfX9_mix b8 _ _ y7 hf) (fun b8 y7 _ _ hf => ?_)
    refine am_iinc (ls' := [some (va_rf v0), some (.int v1), some (.int (v2 + (1 : Int32)))]) dX9_mixClock_115 rfl rfl (by decide) rfl rfl ?_
    refine am_goto (pc' := 89) dX9_mixClock_118 (by decide) ?_
    exact ih _ _ _ _ _ hf
set_option maxRecDepth 20000 in
set_option maxHeartbeats 4000000 in
theorem sfX9_mixClock_26 {G : am_G}  : ∀ (n : Nat) (v0 : Option Nat) (v1 : Int32) (v2 : Int32) (h : am_H) (y : am_H) (hf : fX9_mixClock_26  n v0 v1 v2 h = some y), am_S G miX9_mixClock 26 [some (va_rf v0), some (.int v1), some (.int v2)] [] h none y := by
  intro n
  induction n with
  | zero => intro v0 v1 v2 h y hf; cases hf
  | succ n ih =>
    intro v0 v1 v2 h y hf
    have hf : fX9_mixClock_26_b  (fX9_mixClock_26  n) v0 v1 v2 h = some y := hf
    unfold fX9_mixClock_26_b at hf
    refine am_iload_n dX9_mixClock_26 rfl rfl ?_
    refine am_aload_n dX9_mixClock_27 rfl rfl ?_
    refine am_gr_ dX9_mixClock_28 fl_X9_7 rfl hf (fun x1 _ hf => ?_)
    refine am_iload_n dX9_mixClock_31 rfl rfl ?_
    refine am_iald dX9_mixClock_32 rfl hf (fun x2 _ hf => ?_)
    refine am_icmp_ge (tgt := 87) dX9_mixClock_33 (by decide) rfl hf (fun hf => ?_) (fun hf => ?_)
    · refine am_iconst (v := 0) dX9_mixClock_87 rfl rfl ?_
      refine am_istore_n (ls' := [some (va_rf v0), some (.int v1), some (.int (0 : Int32))]) dX9_mixClock_88 (by decide) rfl rfl ?_
      exact (sfX9_mixClock_89 _) _ _ _ _ _ hf
    refine am_aload_n dX9_mixClock_36 rfl rfl ?_
    refine am_aload_n dX9_mixClock_37 rfl rfl ?_
    refine am_gr_ dX9_mixClock_38 fl_X9_13 rfl hf (fun x3 _ hf => ?_)
    refine am_iconst (v := 3) dX9_mixClock_41 rfl rfl ?_
    refine am_iload_n dX9_mixClock_42 rfl rfl ?_
    refine am_imul dX9_mixClock_43 rfl ?_
    refine am_iload_n dX9_mixClock_44 rfl rfl ?_
    refine am_iadd dX9_mixClock_45 rfl ?_
    refine am_iald dX9_mixClock_46 rfl hf (fun x4 _ hf => ?_)
    refine am_i2l dX9_mixClock_47 rfl ?_
    refine am_cVv (As := [.long (Int32.toInt64 x4)]) (st := []) lk_X9_mixClock_375 rfl (Nat.le_of_ble_eq_true rfl) (Nat.le_of_ble_eq_true rfl) rfl dX9_mixClock_48 rfl hf (fun b6 y5 hf => sfX9_mix b6 _ _ y5 hf) (fun b6 y5 _ _ hf => ?_)
    refine am_aload_n dX9_mixClock_51 rfl rfl ?_
    refine am_aload_n dX9_mixClock_52 rfl rfl ?_
    refine am_gr_ dX9_mixClock_53 fl_X9_16 rfl hf (fun x7 _ hf => ?_)
    refine am_iconst (v := 3) dX9_mixClock_56 rfl rfl ?_
    refine am_iload_n dX9_mixClock_57 rfl rfl ?_
    refine am_imul dX9_mixClock_58 rfl ?_
    refine am_iload_n dX9_mixClock_59 rfl rfl ?_
    refine am_iadd dX9_mixClock_60 rfl ?_
    refine am_iald dX9_mixClock_61 rfl hf (fun x8 _ hf => ?_)
    refine am_i2l dX9_mixClock_62 rfl ?_
    refine am_cVv (As := [.long (Int32.toInt64 x8)]) (st := []) lk_X9_mixClock_375 rfl (Nat.le_of_ble_eq_true rfl) (Nat.le_of_ble_eq_true rfl) rfl dX9_mixClock_63 rfl hf (fun b10 y9 hf => sfX9_mix b10 _ _ y9 hf) (fun b10 y9 _ _ hf => ?_)
    refine am_aload_n dX9_mixClock_66 rfl rfl ?_
    refine am_aload_n dX9_mixClock_67 rfl rfl ?_
    refine am_gr_ dX9_mixClock_68 fl_X9_19 rfl hf (fun x11 _ hf => ?_)
    refine am_iconst (v := 3) dX9_mixClock_71 rfl rfl ?_
    refine am_iload_n dX9_mixClock_72 rfl rfl ?_
    refine am_imul dX9_mixClock_73 rfl ?_
    refine am_iload_n dX9_mixClock_74 rfl rfl ?_
    refine am_iadd dX9_mixClock_75 rfl ?_
    refine am_iald dX9_mixClock_76 rfl hf (fun x12 _ hf => ?_)
    refine am_i2l dX9_mixClock_77 rfl ?_
    refine am_cVv (As := [.long (Int32.toInt64 x12)]) (st := []) lk_X9_mixClock_375 rfl (Nat.le_of_ble_eq_true rfl) (Nat.le_of_ble_eq_true rfl) rfl dX9_mixClock_78 rfl hf (fun b14 y13 hf => sfX9_mix b14 _ _ y13 hf) (fun b14 y13 _ _ hf => ?_)
    refine am_iinc (ls' := [some (va_rf v0), some (.int v1), some (.int (v2 + (1 : Int32)))]) dX9_mixClock_81 rfl rfl (by decide) rfl rfl ?_
    refine am_goto (pc' := 26) dX9_mixClock_84 (by decide) ?_
    exact ih _ _ _ _ _ hf
set_option maxRecDepth 20000 in
set_option maxHeartbeats 4000000 in
theorem sfX9_mixClock_2 {G : am_G}  : ∀ (n : Nat) (v0 : Option Nat) (v1 : Int32) (v2 : Int32) (h : am_H) (y : am_H) (hf : fX9_mixClock_2  n v0 v1 v2 h = some y), am_S G miX9_mixClock 2 [some (va_rf v0), some (.int v1), some (.int v2)] [] h none y := by
  intro n
  induction n with
  | zero => intro v0 v1 v2 h y hf; cases hf
  | succ n ih =>
    intro v0 v1 v2 h y hf
    have hf : fX9_mixClock_2_b  (fX9_mixClock_2  n) v0 v1 v2 h = some y := hf
    unfold fX9_mixClock_2_b at hf
    refine am_iload_n dX9_mixClock_2 rfl rfl ?_
    refine am_iconst (v := 5) dX9_mixClock_3 rfl rfl ?_
    refine am_icmp_ge (tgt := 24) dX9_mixClock_4 (by decide) rfl hf (fun hf => ?_) (fun hf => ?_)
    · refine am_iconst (v := 0) dX9_mixClock_24 rfl rfl ?_
      refine am_istore_n (ls' := [some (va_rf v0), some (.int v1), some (.int (0 : Int32))]) dX9_mixClock_25 (by decide) rfl rfl ?_
      exact (sfX9_mixClock_26 _) _ _ _ _ _ hf
    refine am_aload_n dX9_mixClock_7 rfl rfl ?_
    refine am_aload_n dX9_mixClock_8 rfl rfl ?_
    refine am_iload_n dX9_mixClock_9 rfl rfl ?_
    refine am_iload_n dX9_mixClock_10 rfl rfl ?_
    refine am_cVi (As := [.int v1, .int v2]) (st := [va_rf v0]) lk_X9_mixClock_200 rfl (Nat.le_of_ble_eq_true rfl) (by simp only [List.map_cons, List.map_nil, am_c1, am_ci, am_cl]; exact Nat.le_of_ble_eq_true rfl) rfl dX9_mixClock_11 rfl hf (fun b2 y1 hf => sfX9_toldOf b2 _ _ _ y1 hf) (fun b2 y1 _ _ hf => ?_)
    refine am_i2l dX9_mixClock_14 rfl ?_
    refine am_cVv (As := [.long (Int32.toInt64 y1.1)]) (st := []) lk_X9_mixClock_375 rfl (Nat.le_of_ble_eq_true rfl) (Nat.le_of_ble_eq_true rfl) rfl dX9_mixClock_15 rfl hf (fun b4 y3 hf => sfX9_mix b4 _ _ y3 hf) (fun b4 y3 _ _ hf => ?_)
    refine am_iinc (ls' := [some (va_rf v0), some (.int v1), some (.int (v2 + (1 : Int32)))]) dX9_mixClock_18 rfl rfl (by decide) rfl rfl ?_
    refine am_goto (pc' := 2) dX9_mixClock_21 (by decide) ?_
    exact ih _ _ _ _ _ hf
set_option maxRecDepth 20000 in
set_option maxHeartbeats 4000000 in
theorem sfX9_mixClock {G : am_G}  (v0 : Nat) (v1 : Int32) (h : am_H) (y : am_H) (hf : fX9_mixClock v0 v1 h = some y) : am_Cn G miX9_mixClock [va_rf (some v0), .int v1] h none y := by
  refine am_beg (ls := [some (va_rf (some v0)), some (.int v1), none]) (by simp only [am_en, am_e1_r, am_e1_i, am_e1_l, am_e1_n]; rfl) ?_
  unfold fX9_mixClock at hf
  refine am_iconst (v := 0) dX9_mixClock_0 rfl rfl ?_
  refine am_istore_n (ls' := [some (va_rf (some v0)), some (.int v1), some (.int (0 : Int32))]) dX9_mixClock_1 (by decide) rfl rfl ?_
  exact (sfX9_mixClock_2 _) _ _ _ _ _ hf
set_option maxRecDepth 20000 in
set_option maxHeartbeats 4000000 in
theorem sfX9_digest_235 {G : am_G}  : ∀ (n : Nat) (v0 : Option Nat) (v1 : Int32) (h : am_H) (y : Int64 × am_H) (hf : fX9_digest_235  n v0 v1 h = some y), am_S G miX9_digest 235 [some (va_rf v0), some (.int v1)] [] h (some (.long y.1)) y.2 := by
  intro n
  induction n with
  | zero => intro v0 v1 h y hf; cases hf
  | succ n ih =>
    intro v0 v1 h y hf
    have hf : fX9_digest_235_b  (fX9_digest_235  n) v0 v1 h = some y := hf
    unfold fX9_digest_235_b at hf
    refine am_iload_n dX9_digest_235 rfl rfl ?_
    refine am_bipush (v := 6) dX9_digest_236 (by decide) rfl ?_
    refine am_icmp_ge (tgt := 257) dX9_digest_238 (by decide) rfl hf (fun hf => ?_) (fun hf => ?_)
    · refine am_aload_n dX9_digest_257 rfl rfl ?_
      refine am_gl_ dX9_digest_258 fl_X9_371 rfl hf (fun x1 _ hf => ?_)
      exact am_lret rfl dX9_digest_261 hf
    refine am_aload_n dX9_digest_241 rfl rfl ?_
    refine am_aload_n dX9_digest_242 rfl rfl ?_
    refine am_iload_n dX9_digest_243 rfl rfl ?_
    refine am_cVi (As := [.int v1]) (st := [va_rf v0]) lk_X9_digest_366 rfl (Nat.le_of_ble_eq_true rfl) (by simp only [List.map_cons, List.map_nil, am_c1, am_ci, am_cl]; exact Nat.le_of_ble_eq_true rfl) rfl dX9_digest_244 rfl hf (fun b3 y2 hf => sfX9_howMany b3 _ _ y2 hf) (fun b3 y2 _ _ hf => ?_)
    refine am_i2l dX9_digest_247 rfl ?_
    refine am_cVv (As := [.long (Int32.toInt64 y2.1)]) (st := []) lk_X9_digest_375 rfl (Nat.le_of_ble_eq_true rfl) (Nat.le_of_ble_eq_true rfl) rfl dX9_digest_248 rfl hf (fun b5 y4 hf => sfX9_mix b5 _ _ y4 hf) (fun b5 y4 _ _ hf => ?_)
    refine am_iinc (ls' := [some (va_rf v0), some (.int (v1 + (1 : Int32)))]) dX9_digest_251 rfl rfl (by decide) (am_s1_r (j := 0) rfl rfl) rfl ?_
    refine am_goto (pc' := 235) dX9_digest_254 (by decide) ?_
    exact ih _ _ _ _ hf
set_option maxRecDepth 20000 in
set_option maxHeartbeats 4000000 in
theorem sfX9_digest_208 {G : am_G}  : ∀ (n : Nat) (v0 : Option Nat) (v1 : Int32) (h : am_H) (y : Int64 × am_H) (hf : fX9_digest_208  n v0 v1 h = some y), am_S G miX9_digest 208 [some (va_rf v0), some (.int v1)] [] h (some (.long y.1)) y.2 := by
  intro n
  induction n with
  | zero => intro v0 v1 h y hf; cases hf
  | succ n ih =>
    intro v0 v1 h y hf
    have hf : fX9_digest_208_b  (fX9_digest_208  n) v0 v1 h = some y := hf
    unfold fX9_digest_208_b at hf
    refine am_iload_n dX9_digest_208 rfl rfl ?_
    refine am_aload_n dX9_digest_209 rfl rfl ?_
    refine am_gi_ dX9_digest_210 fl_X9_129 rfl hf (fun x1 _ hf => ?_)
    refine am_icmp_ge (tgt := 233) dX9_digest_213 (by decide) rfl hf (fun hf => ?_) (fun hf => ?_)
    · refine am_iconst (v := 0) dX9_digest_233 rfl rfl ?_
      refine am_istore_n (ls' := [some (va_rf v0), some (.int (0 : Int32))]) dX9_digest_234 (by decide) (am_s1_r (j := 0) rfl rfl) rfl ?_
      exact (sfX9_digest_235 _) _ _ _ _ hf
    refine am_aload_n dX9_digest_216 rfl rfl ?_
    refine am_aload_n dX9_digest_217 rfl rfl ?_
    refine am_gr_ dX9_digest_218 fl_X9_71 rfl hf (fun x2 _ hf => ?_)
    refine am_iload_n dX9_digest_221 rfl rfl ?_
    refine am_bald dX9_digest_222 rfl hf (fun x3 _ hf => ?_)
    refine am_i2l dX9_digest_223 rfl ?_
    refine am_cVv (As := [.long (Int32.toInt64 x3)]) (st := []) lk_X9_digest_375 rfl (Nat.le_of_ble_eq_true rfl) (Nat.le_of_ble_eq_true rfl) rfl dX9_digest_224 rfl hf (fun b5 y4 hf => sfX9_mix b5 _ _ y4 hf) (fun b5 y4 _ _ hf => ?_)
    refine am_iinc (ls' := [some (va_rf v0), some (.int (v1 + (1 : Int32)))]) dX9_digest_227 rfl rfl (by decide) (am_s1_r (j := 0) rfl rfl) rfl ?_
    refine am_goto (pc' := 208) dX9_digest_230 (by decide) ?_
    exact ih _ _ _ _ hf
set_option maxRecDepth 20000 in
set_option maxHeartbeats 4000000 in
theorem sfX9_digest_183 {G : am_G}  : ∀ (n : Nat) (v0 : Option Nat) (v1 : Int32) (h : am_H) (y : Int64 × am_H) (hf : fX9_digest_183  n v0 v1 h = some y), am_S G miX9_digest 183 [some (va_rf v0), some (.int v1)] [] h (some (.long y.1)) y.2 := by
  intro n
  induction n with
  | zero => intro v0 v1 h y hf; cases hf
  | succ n ih =>
    intro v0 v1 h y hf
    have hf : fX9_digest_183_b  (fX9_digest_183  n) v0 v1 h = some y := hf
    unfold fX9_digest_183_b at hf
    refine am_iload_n dX9_digest_183 rfl rfl ?_
    refine am_bipush (v := 12) dX9_digest_184 (by decide) rfl ?_
    refine am_icmp_ge (tgt := 206) dX9_digest_186 (by decide) rfl hf (fun hf => ?_) (fun hf => ?_)
    · refine am_iconst (v := 0) dX9_digest_206 rfl rfl ?_
      refine am_istore_n (ls' := [some (va_rf v0), some (.int (0 : Int32))]) dX9_digest_207 (by decide) (am_s1_r (j := 0) rfl rfl) rfl ?_
      exact (sfX9_digest_208 _) _ _ _ _ hf
    refine am_aload_n dX9_digest_189 rfl rfl ?_
    refine am_aload_n dX9_digest_190 rfl rfl ?_
    refine am_gr_ dX9_digest_191 fl_X9_68 rfl hf (fun x1 _ hf => ?_)
    refine am_iload_n dX9_digest_194 rfl rfl ?_
    refine am_iald dX9_digest_195 rfl hf (fun x2 _ hf => ?_)
    refine am_i2l dX9_digest_196 rfl ?_
    refine am_cVv (As := [.long (Int32.toInt64 x2)]) (st := []) lk_X9_digest_375 rfl (Nat.le_of_ble_eq_true rfl) (Nat.le_of_ble_eq_true rfl) rfl dX9_digest_197 rfl hf (fun b4 y3 hf => sfX9_mix b4 _ _ y3 hf) (fun b4 y3 _ _ hf => ?_)
    refine am_iinc (ls' := [some (va_rf v0), some (.int (v1 + (1 : Int32)))]) dX9_digest_200 rfl rfl (by decide) (am_s1_r (j := 0) rfl rfl) rfl ?_
    refine am_goto (pc' := 183) dX9_digest_203 (by decide) ?_
    exact ih _ _ _ _ hf
set_option maxRecDepth 20000 in
set_option maxHeartbeats 4000000 in
theorem sfX9_digest_125 {G : am_G}  : ∀ (n : Nat) (v0 : Option Nat) (v1 : Int32) (h : am_H) (y : Int64 × am_H) (hf : fX9_digest_125  n v0 v1 h = some y), am_S G miX9_digest 125 [some (va_rf v0), some (.int v1)] [] h (some (.long y.1)) y.2 := by
  intro n
  induction n with
  | zero => intro v0 v1 h y hf; cases hf
  | succ n ih =>
    intro v0 v1 h y hf
    have hf : fX9_digest_125_b  (fX9_digest_125  n) v0 v1 h = some y := hf
    unfold fX9_digest_125_b at hf
    refine am_iload_n dX9_digest_125 rfl rfl ?_
    refine am_aload_n dX9_digest_126 rfl rfl ?_
    refine am_gi_ dX9_digest_127 fl_X9_209 rfl hf (fun x1 _ hf => ?_)
    refine am_icmp_ge (tgt := 172) dX9_digest_130 (by decide) rfl hf (fun hf => ?_) (fun hf => ?_)
    · refine am_aload_n dX9_digest_172 rfl rfl ?_
      refine am_aload_n dX9_digest_173 rfl rfl ?_
      refine am_gi_ dX9_digest_174 fl_X9_64 rfl hf (fun x2 _ hf => ?_)
      refine am_i2l dX9_digest_177 rfl ?_
      refine am_cVv (As := [.long (Int32.toInt64 x2)]) (st := []) lk_X9_digest_375 rfl (Nat.le_of_ble_eq_true rfl) (Nat.le_of_ble_eq_true rfl) rfl dX9_digest_178 rfl hf (fun b4 y3 hf => sfX9_mix b4 _ _ y3 hf) (fun b4 y3 _ _ hf => ?_)
      refine am_iconst (v := 0) dX9_digest_181 rfl rfl ?_
      refine am_istore_n (ls' := [some (va_rf v0), some (.int (0 : Int32))]) dX9_digest_182 (by decide) (am_s1_r (j := 0) rfl rfl) rfl ?_
      exact (sfX9_digest_183 _) _ _ _ _ hf
    refine am_aload_n dX9_digest_133 rfl rfl ?_
    refine am_aload_n dX9_digest_134 rfl rfl ?_
    refine am_gr_ dX9_digest_135 fl_X9_55 rfl hf (fun x5 _ hf => ?_)
    refine am_iload_n dX9_digest_138 rfl rfl ?_
    refine am_iald dX9_digest_139 rfl hf (fun x6 _ hf => ?_)
    refine am_i2l dX9_digest_140 rfl ?_
    refine am_cVv (As := [.long (Int32.toInt64 x6)]) (st := []) lk_X9_digest_375 rfl (Nat.le_of_ble_eq_true rfl) (Nat.le_of_ble_eq_true rfl) rfl dX9_digest_141 rfl hf (fun b8 y7 hf => sfX9_mix b8 _ _ y7 hf) (fun b8 y7 _ _ hf => ?_)
    refine am_aload_n dX9_digest_144 rfl rfl ?_
    refine am_aload_n dX9_digest_145 rfl rfl ?_
    refine am_gr_ dX9_digest_146 fl_X9_58 rfl hf (fun x9 _ hf => ?_)
    refine am_iload_n dX9_digest_149 rfl rfl ?_
    refine am_iald dX9_digest_150 rfl hf (fun x10 _ hf => ?_)
    refine am_i2l dX9_digest_151 rfl ?_
    refine am_cVv (As := [.long (Int32.toInt64 x10)]) (st := []) lk_X9_digest_375 rfl (Nat.le_of_ble_eq_true rfl) (Nat.le_of_ble_eq_true rfl) rfl dX9_digest_152 rfl hf (fun b12 y11 hf => sfX9_mix b12 _ _ y11 hf) (fun b12 y11 _ _ hf => ?_)
    refine am_aload_n dX9_digest_155 rfl rfl ?_
    refine am_aload_n dX9_digest_156 rfl rfl ?_
    refine am_gr_ dX9_digest_157 fl_X9_61 rfl hf (fun x13 _ hf => ?_)
    refine am_iload_n dX9_digest_160 rfl rfl ?_
    refine am_iald dX9_digest_161 rfl hf (fun x14 _ hf => ?_)
    refine am_i2l dX9_digest_162 rfl ?_
    refine am_cVv (As := [.long (Int32.toInt64 x14)]) (st := []) lk_X9_digest_375 rfl (Nat.le_of_ble_eq_true rfl) (Nat.le_of_ble_eq_true rfl) rfl dX9_digest_163 rfl hf (fun b16 y15 hf => sfX9_mix b16 _ _ y15 hf) (fun b16 y15 _ _ hf => ?_)
    refine am_iinc (ls' := [some (va_rf v0), some (.int (v1 + (1 : Int32)))]) dX9_digest_166 rfl rfl (by decide) (am_s1_r (j := 0) rfl rfl) rfl ?_
    refine am_goto (pc' := 125) dX9_digest_169 (by decide) ?_
    exact ih _ _ _ _ hf
set_option maxRecDepth 20000 in
set_option maxHeartbeats 4000000 in
theorem sfX9_digest_65 {G : am_G}  : ∀ (n : Nat) (v0 : Option Nat) (v1 : Int32) (h : am_H) (y : Int64 × am_H) (hf : fX9_digest_65  n v0 v1 h = some y), am_S G miX9_digest 65 [some (va_rf v0), some (.int v1)] [] h (some (.long y.1)) y.2 := by
  intro n
  induction n with
  | zero => intro v0 v1 h y hf; cases hf
  | succ n ih =>
    intro v0 v1 h y hf
    have hf : fX9_digest_65_b  (fX9_digest_65  n) v0 v1 h = some y := hf
    unfold fX9_digest_65_b at hf
    refine am_iload_n dX9_digest_65 rfl rfl ?_
    refine am_aload_n dX9_digest_66 rfl rfl ?_
    refine am_gi_ dX9_digest_67 fl_X9_191 rfl hf (fun x1 _ hf => ?_)
    refine am_icmp_ge (tgt := 123) dX9_digest_70 (by decide) rfl hf (fun hf => ?_) (fun hf => ?_)
    · refine am_iconst (v := 0) dX9_digest_123 rfl rfl ?_
      refine am_istore_n (ls' := [some (va_rf v0), some (.int (0 : Int32))]) dX9_digest_124 (by decide) (am_s1_r (j := 0) rfl rfl) rfl ?_
      exact (sfX9_digest_125 _) _ _ _ _ hf
    refine am_aload_n dX9_digest_73 rfl rfl ?_
    refine am_aload_n dX9_digest_74 rfl rfl ?_
    refine am_gr_ dX9_digest_75 fl_X9_43 rfl hf (fun x2 _ hf => ?_)
    refine am_iload_n dX9_digest_78 rfl rfl ?_
    refine am_iald dX9_digest_79 rfl hf (fun x3 _ hf => ?_)
    refine am_i2l dX9_digest_80 rfl ?_
    refine am_cVv (As := [.long (Int32.toInt64 x3)]) (st := []) lk_X9_digest_375 rfl (Nat.le_of_ble_eq_true rfl) (Nat.le_of_ble_eq_true rfl) rfl dX9_digest_81 rfl hf (fun b5 y4 hf => sfX9_mix b5 _ _ y4 hf) (fun b5 y4 _ _ hf => ?_)
    refine am_aload_n dX9_digest_84 rfl rfl ?_
    refine am_aload_n dX9_digest_85 rfl rfl ?_
    refine am_gr_ dX9_digest_86 fl_X9_46 rfl hf (fun x6 _ hf => ?_)
    refine am_iload_n dX9_digest_89 rfl rfl ?_
    refine am_iald dX9_digest_90 rfl hf (fun x7 _ hf => ?_)
    refine am_i2l dX9_digest_91 rfl ?_
    refine am_cVv (As := [.long (Int32.toInt64 x7)]) (st := []) lk_X9_digest_375 rfl (Nat.le_of_ble_eq_true rfl) (Nat.le_of_ble_eq_true rfl) rfl dX9_digest_92 rfl hf (fun b9 y8 hf => sfX9_mix b9 _ _ y8 hf) (fun b9 y8 _ _ hf => ?_)
    refine am_aload_n dX9_digest_95 rfl rfl ?_
    refine am_aload_n dX9_digest_96 rfl rfl ?_
    refine am_gr_ dX9_digest_97 fl_X9_49 rfl hf (fun x10 _ hf => ?_)
    refine am_iload_n dX9_digest_100 rfl rfl ?_
    refine am_iald dX9_digest_101 rfl hf (fun x11 _ hf => ?_)
    refine am_i2l dX9_digest_102 rfl ?_
    refine am_cVv (As := [.long (Int32.toInt64 x11)]) (st := []) lk_X9_digest_375 rfl (Nat.le_of_ble_eq_true rfl) (Nat.le_of_ble_eq_true rfl) rfl dX9_digest_103 rfl hf (fun b13 y12 hf => sfX9_mix b13 _ _ y12 hf) (fun b13 y12 _ _ hf => ?_)
    refine am_aload_n dX9_digest_106 rfl rfl ?_
    refine am_aload_n dX9_digest_107 rfl rfl ?_
    refine am_gr_ dX9_digest_108 fl_X9_52 rfl hf (fun x14 _ hf => ?_)
    refine am_iload_n dX9_digest_111 rfl rfl ?_
    refine am_iald dX9_digest_112 rfl hf (fun x15 _ hf => ?_)
    refine am_i2l dX9_digest_113 rfl ?_
    refine am_cVv (As := [.long (Int32.toInt64 x15)]) (st := []) lk_X9_digest_375 rfl (Nat.le_of_ble_eq_true rfl) (Nat.le_of_ble_eq_true rfl) rfl dX9_digest_114 rfl hf (fun b17 y16 hf => sfX9_mix b17 _ _ y16 hf) (fun b17 y16 _ _ hf => ?_)
    refine am_iinc (ls' := [some (va_rf v0), some (.int (v1 + (1 : Int32)))]) dX9_digest_117 rfl rfl (by decide) (am_s1_r (j := 0) rfl rfl) rfl ?_
    refine am_goto (pc' := 65) dX9_digest_120 (by decide) ?_
    exact ih _ _ _ _ hf
set_option maxRecDepth 20000 in
set_option maxHeartbeats 4000000 in
theorem sfX9_digest_44 {G : am_G}  : ∀ (n : Nat) (v0 : Option Nat) (v1 : Int32) (h : am_H) (y : Int64 × am_H) (hf : fX9_digest_44  n v0 v1 h = some y), am_S G miX9_digest 44 [some (va_rf v0), some (.int v1)] [] h (some (.long y.1)) y.2 := by
  intro n
  induction n with
  | zero => intro v0 v1 h y hf; cases hf
  | succ n ih =>
    intro v0 v1 h y hf
    have hf : fX9_digest_44_b  (fX9_digest_44  n) v0 v1 h = some y := hf
    unfold fX9_digest_44_b at hf
    refine am_iload_n dX9_digest_44 rfl rfl ?_
    refine am_aload_n dX9_digest_45 rfl rfl ?_
    refine am_gi_ dX9_digest_46 fl_X9_188 rfl hf (fun x1 _ hf => ?_)
    refine am_icmp_ge (tgt := 63) dX9_digest_49 (by decide) rfl hf (fun hf => ?_) (fun hf => ?_)
    · refine am_iconst (v := 0) dX9_digest_63 rfl rfl ?_
      refine am_istore_n (ls' := [some (va_rf v0), some (.int (0 : Int32))]) dX9_digest_64 (by decide) (am_s1_r (j := 0) rfl rfl) rfl ?_
      exact (sfX9_digest_65 _) _ _ _ _ hf
    refine am_aload_n dX9_digest_52 rfl rfl ?_
    refine am_iload_n dX9_digest_53 rfl rfl ?_
    refine am_cVv (As := [.int v1]) (st := []) lk_X9_digest_381 rfl (Nat.le_of_ble_eq_true rfl) (Nat.le_of_ble_eq_true rfl) rfl dX9_digest_54 rfl hf (fun b3 y2 hf => sfX9_mixClock b3 _ _ y2 hf) (fun b3 y2 _ _ hf => ?_)
    refine am_iinc (ls' := [some (va_rf v0), some (.int (v1 + (1 : Int32)))]) dX9_digest_57 rfl rfl (by decide) (am_s1_r (j := 0) rfl rfl) rfl ?_
    refine am_goto (pc' := 44) dX9_digest_60 (by decide) ?_
    exact ih _ _ _ _ hf
set_option maxRecDepth 20000 in
set_option maxHeartbeats 4000000 in
theorem sfX9_digest_9 {G : am_G}  : ∀ (n : Nat) (v0 : Option Nat) (v1 : Int32) (h : am_H) (y : Int64 × am_H) (hf : fX9_digest_9  n v0 v1 h = some y), am_S G miX9_digest 9 [some (va_rf v0), some (.int v1)] [] h (some (.long y.1)) y.2 := by
  intro n
  induction n with
  | zero => intro v0 v1 h y hf; cases hf
  | succ n ih =>
    intro v0 v1 h y hf
    have hf : fX9_digest_9_b  (fX9_digest_9  n) v0 v1 h = some y := hf
    unfold fX9_digest_9_b at hf
    refine am_iload_n dX9_digest_9 rfl rfl ?_
    refine am_iconst (v := 4) dX9_digest_10 rfl rfl ?_
    refine am_icmp_ge (tgt := 42) dX9_digest_11 (by decide) rfl hf (fun hf => ?_) (fun hf => ?_)
    · refine am_iconst (v := 0) dX9_digest_42 rfl rfl ?_
      refine am_istore_n (ls' := [some (va_rf v0), some (.int (0 : Int32))]) dX9_digest_43 (by decide) (am_s1_r (j := 0) rfl rfl) rfl ?_
      exact (sfX9_digest_44 _) _ _ _ _ hf
    refine am_aload_n dX9_digest_14 rfl rfl ?_
    refine am_aload_n dX9_digest_15 rfl rfl ?_
    refine am_gr_ dX9_digest_16 fl_X9_37 rfl hf (fun x1 _ hf => ?_)
    refine am_iload_n dX9_digest_19 rfl rfl ?_
    refine am_iald dX9_digest_20 rfl hf (fun x2 _ hf => ?_)
    refine am_i2l dX9_digest_21 rfl ?_
    refine am_cVv (As := [.long (Int32.toInt64 x2)]) (st := []) lk_X9_digest_375 rfl (Nat.le_of_ble_eq_true rfl) (Nat.le_of_ble_eq_true rfl) rfl dX9_digest_22 rfl hf (fun b4 y3 hf => sfX9_mix b4 _ _ y3 hf) (fun b4 y3 _ _ hf => ?_)
    refine am_aload_n dX9_digest_25 rfl rfl ?_
    refine am_aload_n dX9_digest_26 rfl rfl ?_
    refine am_gr_ dX9_digest_27 fl_X9_40 rfl hf (fun x5 _ hf => ?_)
    refine am_iload_n dX9_digest_30 rfl rfl ?_
    refine am_iald dX9_digest_31 rfl hf (fun x6 _ hf => ?_)
    refine am_i2l dX9_digest_32 rfl ?_
    refine am_cVv (As := [.long (Int32.toInt64 x6)]) (st := []) lk_X9_digest_375 rfl (Nat.le_of_ble_eq_true rfl) (Nat.le_of_ble_eq_true rfl) rfl dX9_digest_33 rfl hf (fun b8 y7 hf => sfX9_mix b8 _ _ y7 hf) (fun b8 y7 _ _ hf => ?_)
    refine am_iinc (ls' := [some (va_rf v0), some (.int (v1 + (1 : Int32)))]) dX9_digest_36 rfl rfl (by decide) (am_s1_r (j := 0) rfl rfl) rfl ?_
    refine am_goto (pc' := 9) dX9_digest_39 (by decide) ?_
    exact ih _ _ _ _ hf
set_option maxRecDepth 20000 in
set_option maxHeartbeats 4000000 in
theorem sfX9_digest {G : am_G}  (v0 : Nat) (h : am_H) (y : Int64 × am_H) (hf : fX9_digest v0 h = some y) : am_Cn G miX9_digest [va_rf (some v0)] h (some (.long y.1)) y.2 := by
  refine am_beg (ls := [some (va_rf (some v0)), none]) (by simp only [am_en, am_e1_r, am_e1_i, am_e1_l, am_e1_n]; rfl) ?_
  unfold fX9_digest at hf
  refine am_aload_n dX9_digest_0 rfl rfl ?_
  refine am_ldc2 (v := 409) dX9_digest_1 cl_X9_379 rfl ?_
  refine am_pl_ dX9_digest_4 fl_X9_371 fp_9_75 (fun z => by cases z) rfl hf (fun h1 _ hf => ?_)
  refine am_iconst (v := 0) dX9_digest_7 rfl rfl ?_
  refine am_istore_n (ls' := [some (va_rf (some v0)), some (.int (0 : Int32))]) dX9_digest_8 (by decide) (am_s1_r (j := 0) rfl rfl) rfl ?_
  exact (sfX9_digest_9 _) _ _ _ _ hf
set_option maxRecDepth 20000 in
set_option maxHeartbeats 4000000 in
theorem sfS_law_1443 {G : am_G}  {k18 : Option Nat → Option Nat → Int32 → am_H → Option (Int32 × am_H)} (hk18 : ∀ (v1 : Option Nat) (v2 : Option Nat) (v3 : Int32) (h : am_H) (y : Int32 × am_H), k18 v1 v2 v3 h = some y → am_S G miL_law 18 [some (va_rf (some 0)), some (va_rf v1), some (va_rf v2), some (.int v3)] [] h (some (.int y.1)) y.2) (v1 : Option Nat) (v2 : Option Nat) (v3 : Int32) (h : am_H) (y : Int32 × am_H) (hf : fS_law_1443 k18 v1 v2 v3 h = some y) : am_S G miL_law 1443 [some (va_rf (some 0)), some (va_rf v1), some (va_rf v2), some (.int v3)] [] h (some (.int y.1)) y.2 := by
  unfold fS_law_1443 at hf
  refine am_iinc (ls' := [some (va_rf (some 0)), some (va_rf v1), some (va_rf v2), some (.int (v3 + (6 : Int32)))]) dL_law_1443 rfl rfl (by decide) (am_s1_r (j := 2) rfl rfl) rfl ?_
  refine am_goto (pc' := 18) dL_law_1446 (by decide) ?_
  exact hk18 _ _ _ _ _ hf
set_option maxRecDepth 20000 in
set_option maxHeartbeats 4000000 in
theorem sfS_law_18 {G : am_G}  : ∀ (n : Nat) (v1 : Option Nat) (v2 : Option Nat) (v3 : Int32) (h : am_H) (y : Int32 × am_H) (hf : fS_law_18 G.2.2.2.2.1 G.2.2.2.2.2 n v1 v2 v3 h = some y), am_S G miL_law 18 [some (va_rf (some 0)), some (va_rf v1), some (va_rf v2), some (.int v3)] [] h (some (.int y.1)) y.2 := by
  intro n
  induction n with
  | zero => intro v1 v2 v3 h y hf; cases hf
  | succ n ih =>
    intro v1 v2 v3 h y hf
    have hf : fS_law_18_b G.2.2.2.2.1 G.2.2.2.2.2 (fS_law_18 G.2.2.2.2.1 G.2.2.2.2.2 n) v1 v2 v3 h = some y := hf
    unfold fS_law_18_b at hf
    refine am_iload_n dL_law_18 rfl rfl ?_
    refine am_aload_n dL_law_19 rfl rfl ?_
    refine am_slen dL_law_20 rfl ?_
    refine am_bipush (v := 6) dL_law_21 (by decide) rfl ?_
    refine am_isub dL_law_23 rfl ?_
    refine am_icmp_gt (tgt := 1449) dL_law_24 (by decide) rfl hf (fun hf => ?_) (fun hf => ?_)
    · refine am_iconst (v := 1) dL_law_1449 rfl rfl ?_
      exact am_zret rfl dL_law_1450 hf
    refine am_aload_n dL_law_27 rfl rfl ?_
    refine am_iload_n dL_law_28 rfl rfl ?_
    refine am_sld dL_law_29 rfl hf (fun x2 _ hf => ?_)
    refine am_bipush (v := 31) dL_law_30 (by decide) rfl ?_
    refine am_iand dL_law_32 rfl ?_
    refine am_tsw (d := 1443) (l := [(0, 176), (1, 229), (2, 242), (3, 255), (4, 268), (5, 301), (6, 344), (7, 397), (8, 430), (9, 473), (10, 506), (11, 529), (12, 582), (13, 635), (14, 698), (15, 751), (16, 804), (17, 857), (18, 890), (19, 923), (20, 966), (21, 1029), (22, 1062), (23, 1105), (24, 1138), (25, 1201), (26, 1254), (27, 1317), (28, 1380), (29, 1393), (30, 1406), (31, 1429)]) dL_law_33 (by decide) (by decide) (by decide) ?_
    refine am_swc hf (fun hf => ?_) (fun hf => ?_)
    · refine am_aload_n dL_law_176 rfl rfl ?_
      refine am_aload_n dL_law_177 rfl rfl ?_
      refine am_iload_n dL_law_178 rfl rfl ?_
      refine am_iconst (v := 1) dL_law_179 rfl rfl ?_
      refine am_iadd dL_law_180 rfl ?_
      refine am_sld dL_law_181 rfl hf (fun x3 _ hf => ?_)
      refine am_i2l dL_law_182 rfl ?_
      refine am_bipush (v := 32) dL_law_183 (by decide) rfl ?_
      refine am_lshl dL_law_185 rfl ?_
      refine am_aload_n dL_law_186 rfl rfl ?_
      refine am_iload_n dL_law_187 rfl rfl ?_
      refine am_iconst (v := 2) dL_law_188 rfl rfl ?_
      refine am_iadd dL_law_189 rfl ?_
      refine am_sld dL_law_190 rfl hf (fun x4 _ hf => ?_)
      refine am_i2l dL_law_191 rfl ?_
      refine am_ldc2 (v := 4294967295) dL_law_192 cl_L_13 rfl ?_
      refine am_land dL_law_195 rfl ?_
      refine am_lor dL_law_196 rfl ?_
      refine am_cVi (As := [.long (((Int32.toInt64 x3) <<< (Int32.toInt64 (32 : Int32) &&& 63)) ||| ((Int32.toInt64 x4) &&& (4294967295 : Int64)))]) (st := []) lk_L_law_15 rfl (Nat.le_of_ble_eq_true rfl) (Nat.le_of_ble_eq_true rfl) rfl dL_law_197 rfl hf (fun b6 y5 hf => sfX8_letters b6 _ _ y5 hf) (fun b6 y5 _ _ hf => ?_)
      refine am_aload_n dL_law_200 rfl rfl ?_
      refine am_aload_n dL_law_201 rfl rfl ?_
      refine am_iload_n dL_law_202 rfl rfl ?_
      refine am_iconst (v := 1) dL_law_203 rfl rfl ?_
      refine am_iadd dL_law_204 rfl ?_
      refine am_sld dL_law_205 rfl hf (fun x7 _ hf => ?_)
      refine am_i2l dL_law_206 rfl ?_
      refine am_bipush (v := 32) dL_law_207 (by decide) rfl ?_
      refine am_lshl dL_law_209 rfl ?_
      refine am_aload_n dL_law_210 rfl rfl ?_
      refine am_iload_n dL_law_211 rfl rfl ?_
      refine am_iconst (v := 2) dL_law_212 rfl rfl ?_
      refine am_iadd dL_law_213 rfl ?_
      refine am_sld dL_law_214 rfl hf (fun x8 _ hf => ?_)
      refine am_i2l dL_law_215 rfl ?_
      refine am_ldc2 (v := 4294967295) dL_law_216 cl_L_13 rfl ?_
      refine am_land dL_law_219 rfl ?_
      refine am_lor dL_law_220 rfl ?_
      refine am_cVi (As := [.long (((Int32.toInt64 x7) <<< (Int32.toInt64 (32 : Int32) &&& 63)) ||| ((Int32.toInt64 x8) &&& (4294967295 : Int64)))]) (st := [.int y5.1]) lk_L_law_19 rfl (Nat.le_of_ble_eq_true rfl) (Nat.le_of_ble_eq_true rfl) rfl dL_law_221 rfl hf (fun b10 y9 hf => sfX9_letters b10 _ _ y9 hf) (fun b10 y9 _ _ hf => ?_)
      refine am_icmp_eq (tgt := 1443) dL_law_224 (by decide) rfl hf (fun hf => ?_) (fun hf => ?_)
      · exact (sfS_law_1443 ih) _ _ _ _ _ hf
      refine am_iconst (v := 0) dL_law_227 rfl rfl ?_
      exact am_zret rfl dL_law_228 hf
    refine am_swc hf (fun hf => ?_) (fun hf => ?_)
    · refine am_aload_n dL_law_229 rfl rfl ?_
      refine am_cVi (As := []) (st := []) lk_L_law_20 rfl (Nat.le_of_ble_eq_true rfl) (Nat.le_of_ble_eq_true rfl) rfl dL_law_230 rfl hf (fun b12 y11 hf => sfX8_blank b12  _ y11 hf) (fun b12 y11 _ _ hf => ?_)
      refine am_aload_n dL_law_233 rfl rfl ?_
      refine am_cVi (As := []) (st := [.int y11.1]) lk_L_law_24 rfl (Nat.le_of_ble_eq_true rfl) (Nat.le_of_ble_eq_true rfl) rfl dL_law_234 rfl hf (fun b14 y13 hf => sfX9_blank b14  _ y13 hf) (fun b14 y13 _ _ hf => ?_)
      refine am_icmp_eq (tgt := 1443) dL_law_237 (by decide) rfl hf (fun hf => ?_) (fun hf => ?_)
      · exact (sfS_law_1443 ih) _ _ _ _ _ hf
      refine am_iconst (v := 0) dL_law_240 rfl rfl ?_
      exact am_zret rfl dL_law_241 hf
    refine am_swc hf (fun hf => ?_) (fun hf => ?_)
    · refine am_aload_n dL_law_242 rfl rfl ?_
      refine am_cVi (As := []) (st := []) lk_L_law_25 rfl (Nat.le_of_ble_eq_true rfl) (Nat.le_of_ble_eq_true rfl) rfl dL_law_243 rfl hf (fun b16 y15 hf => sfX8_fault b16  _ y15 hf) (fun b16 y15 _ _ hf => ?_)
      refine am_aload_n dL_law_246 rfl rfl ?_
      refine am_cVi (As := []) (st := [.int y15.1]) lk_L_law_28 rfl (Nat.le_of_ble_eq_true rfl) (Nat.le_of_ble_eq_true rfl) rfl dL_law_247 rfl hf (fun b18 y17 hf => sfX9_fault b18  _ y17 hf) (fun b18 y17 _ _ hf => ?_)
      refine am_icmp_eq (tgt := 1443) dL_law_250 (by decide) rfl hf (fun hf => ?_) (fun hf => ?_)
      · exact (sfS_law_1443 ih) _ _ _ _ _ hf
      refine am_iconst (v := 0) dL_law_253 rfl rfl ?_
      exact am_zret rfl dL_law_254 hf
    refine am_swc hf (fun hf => ?_) (fun hf => ?_)
    · refine am_aload_n dL_law_255 rfl rfl ?_
      refine am_cVi (As := []) (st := []) lk_L_law_29 rfl (Nat.le_of_ble_eq_true rfl) (Nat.le_of_ble_eq_true rfl) rfl dL_law_256 rfl hf (fun b20 y19 hf => sfX8_clock b20  _ y19 hf) (fun b20 y19 _ _ hf => ?_)
      refine am_aload_n dL_law_259 rfl rfl ?_
      refine am_cVi (As := []) (st := [.int y19.1]) lk_L_law_32 rfl (Nat.le_of_ble_eq_true rfl) (Nat.le_of_ble_eq_true rfl) rfl dL_law_260 rfl hf (fun b22 y21 hf => sfX9_clock b22  _ y21 hf) (fun b22 y21 _ _ hf => ?_)
      refine am_icmp_eq (tgt := 1443) dL_law_263 (by decide) rfl hf (fun hf => ?_) (fun hf => ?_)
      · exact (sfS_law_1443 ih) _ _ _ _ _ hf
      refine am_iconst (v := 0) dL_law_266 rfl rfl ?_
      exact am_zret rfl dL_law_267 hf
    refine am_swc hf (fun hf => ?_) (fun hf => ?_)
    · refine am_aload_n dL_law_268 rfl rfl ?_
      refine am_aload_n dL_law_269 rfl rfl ?_
      refine am_iload_n dL_law_270 rfl rfl ?_
      refine am_iconst (v := 1) dL_law_271 rfl rfl ?_
      refine am_iadd dL_law_272 rfl ?_
      refine am_sld dL_law_273 rfl hf (fun x23 _ hf => ?_)
      refine am_aload_n dL_law_274 rfl rfl ?_
      refine am_iload_n dL_law_275 rfl rfl ?_
      refine am_iconst (v := 2) dL_law_276 rfl rfl ?_
      refine am_iadd dL_law_277 rfl ?_
      refine am_sld dL_law_278 rfl hf (fun x24 _ hf => ?_)
      refine am_cVi (As := [.int x23, .int x24]) (st := []) lk_L_law_33 rfl (Nat.le_of_ble_eq_true rfl) (Nat.le_of_ble_eq_true rfl) rfl dL_law_279 rfl hf (fun b26 y25 hf => sfX8_told b26 _ _ _ y25 hf) (fun b26 y25 _ _ hf => ?_)
      refine am_aload_n dL_law_282 rfl rfl ?_
      refine am_aload_n dL_law_283 rfl rfl ?_
      refine am_iload_n dL_law_284 rfl rfl ?_
      refine am_iconst (v := 1) dL_law_285 rfl rfl ?_
      refine am_iadd dL_law_286 rfl ?_
      refine am_sld dL_law_287 rfl hf (fun x27 _ hf => ?_)
      refine am_aload_n dL_law_288 rfl rfl ?_
      refine am_iload_n dL_law_289 rfl rfl ?_
      refine am_iconst (v := 2) dL_law_290 rfl rfl ?_
      refine am_iadd dL_law_291 rfl ?_
      refine am_sld dL_law_292 rfl hf (fun x28 _ hf => ?_)
      refine am_cVi (As := [.int x27, .int x28]) (st := [.int y25.1]) lk_L_law_37 rfl (Nat.le_of_ble_eq_true rfl) (Nat.le_of_ble_eq_true rfl) rfl dL_law_293 rfl hf (fun b30 y29 hf => sfX9_told b30 _ _ _ y29 hf) (fun b30 y29 _ _ hf => ?_)
      refine am_icmp_eq (tgt := 1443) dL_law_296 (by decide) rfl hf (fun hf => ?_) (fun hf => ?_)
      · exact (sfS_law_1443 ih) _ _ _ _ _ hf
      refine am_iconst (v := 0) dL_law_299 rfl rfl ?_
      exact am_zret rfl dL_law_300 hf
    refine am_swc hf (fun hf => ?_) (fun hf => ?_)
    · refine am_aload_n dL_law_301 rfl rfl ?_
      refine am_aload_n dL_law_302 rfl rfl ?_
      refine am_iload_n dL_law_303 rfl rfl ?_
      refine am_iconst (v := 1) dL_law_304 rfl rfl ?_
      refine am_iadd dL_law_305 rfl ?_
      refine am_sld dL_law_306 rfl hf (fun x31 _ hf => ?_)
      refine am_aload_n dL_law_307 rfl rfl ?_
      refine am_iload_n dL_law_308 rfl rfl ?_
      refine am_iconst (v := 2) dL_law_309 rfl rfl ?_
      refine am_iadd dL_law_310 rfl ?_
      refine am_sld dL_law_311 rfl hf (fun x32 _ hf => ?_)
      refine am_aload_n dL_law_312 rfl rfl ?_
      refine am_iload_n dL_law_313 rfl rfl ?_
      refine am_iconst (v := 3) dL_law_314 rfl rfl ?_
      refine am_iadd dL_law_315 rfl ?_
      refine am_sld dL_law_316 rfl hf (fun x33 _ hf => ?_)
      refine am_cVi (As := [.int x31, .int x32, .int x33]) (st := []) lk_L_law_38 rfl (Nat.le_of_ble_eq_true rfl) (Nat.le_of_ble_eq_true rfl) rfl dL_law_317 rfl hf (fun b35 y34 hf => sfX8_season b35 _ _ _ _ y34 hf) (fun b35 y34 _ _ hf => ?_)
      refine am_aload_n dL_law_320 rfl rfl ?_
      refine am_aload_n dL_law_321 rfl rfl ?_
      refine am_iload_n dL_law_322 rfl rfl ?_
      refine am_iconst (v := 1) dL_law_323 rfl rfl ?_
      refine am_iadd dL_law_324 rfl ?_
      refine am_sld dL_law_325 rfl hf (fun x36 _ hf => ?_)
      refine am_aload_n dL_law_326 rfl rfl ?_
      refine am_iload_n dL_law_327 rfl rfl ?_
      refine am_iconst (v := 2) dL_law_328 rfl rfl ?_
      refine am_iadd dL_law_329 rfl ?_
      refine am_sld dL_law_330 rfl hf (fun x37 _ hf => ?_)
      refine am_aload_n dL_law_331 rfl rfl ?_
      refine am_iload_n dL_law_332 rfl rfl ?_
      refine am_iconst (v := 3) dL_law_333 rfl rfl ?_
      refine am_iadd dL_law_334 rfl ?_
      refine am_sld dL_law_335 rfl hf (fun x38 _ hf => ?_)
      refine am_cVi (As := [.int x36, .int x37, .int x38]) (st := [.int y34.1]) lk_L_law_42 rfl (Nat.le_of_ble_eq_true rfl) (Nat.le_of_ble_eq_true rfl) rfl dL_law_336 rfl hf (fun b40 y39 hf => sfX9_season b40 _ _ _ _ y39 hf) (fun b40 y39 _ _ hf => ?_)
      refine am_icmp_eq (tgt := 1443) dL_law_339 (by decide) rfl hf (fun hf => ?_) (fun hf => ?_)
      · exact (sfS_law_1443 ih) _ _ _ _ _ hf
      refine am_iconst (v := 0) dL_law_342 rfl rfl ?_
      exact am_zret rfl dL_law_343 hf
    refine am_swc hf (fun hf => ?_) (fun hf => ?_)
    · refine am_aload_n dL_law_344 rfl rfl ?_
      refine am_aload_n dL_law_345 rfl rfl ?_
      refine am_iload_n dL_law_346 rfl rfl ?_
      refine am_iconst (v := 1) dL_law_347 rfl rfl ?_
      refine am_iadd dL_law_348 rfl ?_
      refine am_sld dL_law_349 rfl hf (fun x41 _ hf => ?_)
      refine am_aload_n dL_law_350 rfl rfl ?_
      refine am_iload_n dL_law_351 rfl rfl ?_
      refine am_iconst (v := 2) dL_law_352 rfl rfl ?_
      refine am_iadd dL_law_353 rfl ?_
      refine am_sld dL_law_354 rfl hf (fun x42 _ hf => ?_)
      refine am_aload_n dL_law_355 rfl rfl ?_
      refine am_iload_n dL_law_356 rfl rfl ?_
      refine am_iconst (v := 3) dL_law_357 rfl rfl ?_
      refine am_iadd dL_law_358 rfl ?_
      refine am_sld dL_law_359 rfl hf (fun x43 _ hf => ?_)
      refine am_aload_n dL_law_360 rfl rfl ?_
      refine am_iload_n dL_law_361 rfl rfl ?_
      refine am_iconst (v := 4) dL_law_362 rfl rfl ?_
      refine am_iadd dL_law_363 rfl ?_
      refine am_sld dL_law_364 rfl hf (fun x44 _ hf => ?_)
      refine am_cVi (As := [.int x41, .int x42, .int x43, .int x44]) (st := []) lk_L_law_43 rfl (Nat.le_of_ble_eq_true rfl) (Nat.le_of_ble_eq_true rfl) rfl dL_law_365 rfl hf (fun b46 y45 hf => sfX8_faulty b46 _ _ _ _ _ y45 hf) (fun b46 y45 _ _ hf => ?_)
      refine am_aload_n dL_law_368 rfl rfl ?_
      refine am_aload_n dL_law_369 rfl rfl ?_
      refine am_iload_n dL_law_370 rfl rfl ?_
      refine am_iconst (v := 1) dL_law_371 rfl rfl ?_
      refine am_iadd dL_law_372 rfl ?_
      refine am_sld dL_law_373 rfl hf (fun x47 _ hf => ?_)
      refine am_aload_n dL_law_374 rfl rfl ?_
      refine am_iload_n dL_law_375 rfl rfl ?_
      refine am_iconst (v := 2) dL_law_376 rfl rfl ?_
      refine am_iadd dL_law_377 rfl ?_
      refine am_sld dL_law_378 rfl hf (fun x48 _ hf => ?_)
      refine am_aload_n dL_law_379 rfl rfl ?_
      refine am_iload_n dL_law_380 rfl rfl ?_
      refine am_iconst (v := 3) dL_law_381 rfl rfl ?_
      refine am_iadd dL_law_382 rfl ?_
      refine am_sld dL_law_383 rfl hf (fun x49 _ hf => ?_)
      refine am_aload_n dL_law_384 rfl rfl ?_
      refine am_iload_n dL_law_385 rfl rfl ?_
      refine am_iconst (v := 4) dL_law_386 rfl rfl ?_
      refine am_iadd dL_law_387 rfl ?_
      refine am_sld dL_law_388 rfl hf (fun x50 _ hf => ?_)
      refine am_cVi (As := [.int x47, .int x48, .int x49, .int x50]) (st := [.int y45.1]) lk_L_law_47 rfl (Nat.le_of_ble_eq_true rfl) (Nat.le_of_ble_eq_true rfl) rfl dL_law_389 rfl hf (fun b52 y51 hf => sfX9_faulty b52 _ _ _ _ _ y51 hf) (fun b52 y51 _ _ hf => ?_)
      refine am_icmp_eq (tgt := 1443) dL_law_392 (by decide) rfl hf (fun hf => ?_) (fun hf => ?_)
      · exact (sfS_law_1443 ih) _ _ _ _ _ hf
      refine am_iconst (v := 0) dL_law_395 rfl rfl ?_
      exact am_zret rfl dL_law_396 hf
    refine am_swc hf (fun hf => ?_) (fun hf => ?_)
    · refine am_aload_n dL_law_397 rfl rfl ?_
      refine am_aload_n dL_law_398 rfl rfl ?_
      refine am_iload_n dL_law_399 rfl rfl ?_
      refine am_iconst (v := 1) dL_law_400 rfl rfl ?_
      refine am_iadd dL_law_401 rfl ?_
      refine am_sld dL_law_402 rfl hf (fun x53 _ hf => ?_)
      refine am_aload_n dL_law_403 rfl rfl ?_
      refine am_iload_n dL_law_404 rfl rfl ?_
      refine am_iconst (v := 2) dL_law_405 rfl rfl ?_
      refine am_iadd dL_law_406 rfl ?_
      refine am_sld dL_law_407 rfl hf (fun x54 _ hf => ?_)
      refine am_cVi (As := [.int x53, .int x54]) (st := []) lk_L_law_48 rfl (Nat.le_of_ble_eq_true rfl) (Nat.le_of_ble_eq_true rfl) rfl dL_law_408 rfl hf (fun b56 y55 hf => sfX8_as b56 _ _ _ y55 hf) (fun b56 y55 _ _ hf => ?_)
      refine am_aload_n dL_law_411 rfl rfl ?_
      refine am_aload_n dL_law_412 rfl rfl ?_
      refine am_iload_n dL_law_413 rfl rfl ?_
      refine am_iconst (v := 1) dL_law_414 rfl rfl ?_
      refine am_iadd dL_law_415 rfl ?_
      refine am_sld dL_law_416 rfl hf (fun x57 _ hf => ?_)
      refine am_aload_n dL_law_417 rfl rfl ?_
      refine am_iload_n dL_law_418 rfl rfl ?_
      refine am_iconst (v := 2) dL_law_419 rfl rfl ?_
      refine am_iadd dL_law_420 rfl ?_
      refine am_sld dL_law_421 rfl hf (fun x58 _ hf => ?_)
      refine am_cVi (As := [.int x57, .int x58]) (st := [.int y55.1]) lk_L_law_51 rfl (Nat.le_of_ble_eq_true rfl) (Nat.le_of_ble_eq_true rfl) rfl dL_law_422 rfl hf (fun b60 y59 hf => sfX9_as b60 _ _ _ y59 hf) (fun b60 y59 _ _ hf => ?_)
      refine am_icmp_eq (tgt := 1443) dL_law_425 (by decide) rfl hf (fun hf => ?_) (fun hf => ?_)
      · exact (sfS_law_1443 ih) _ _ _ _ _ hf
      refine am_iconst (v := 0) dL_law_428 rfl rfl ?_
      exact am_zret rfl dL_law_429 hf
    refine am_swc hf (fun hf => ?_) (fun hf => ?_)
    · refine am_aload_n dL_law_430 rfl rfl ?_
      refine am_aload_n dL_law_431 rfl rfl ?_
      refine am_iload_n dL_law_432 rfl rfl ?_
      refine am_iconst (v := 1) dL_law_433 rfl rfl ?_
      refine am_iadd dL_law_434 rfl ?_
      refine am_sld dL_law_435 rfl hf (fun x61 _ hf => ?_)
      refine am_aload_n dL_law_436 rfl rfl ?_
      refine am_iload_n dL_law_437 rfl rfl ?_
      refine am_iconst (v := 2) dL_law_438 rfl rfl ?_
      refine am_iadd dL_law_439 rfl ?_
      refine am_sld dL_law_440 rfl hf (fun x62 _ hf => ?_)
      refine am_aload_n dL_law_441 rfl rfl ?_
      refine am_iload_n dL_law_442 rfl rfl ?_
      refine am_iconst (v := 3) dL_law_443 rfl rfl ?_
      refine am_iadd dL_law_444 rfl ?_
      refine am_sld dL_law_445 rfl hf (fun x63 _ hf => ?_)
      refine am_cVi (As := [.int x61, .int x62, .int x63]) (st := []) lk_L_law_52 rfl (Nat.le_of_ble_eq_true rfl) (Nat.le_of_ble_eq_true rfl) rfl dL_law_446 rfl hf (fun b65 y64 hf => sfX8_work b65 _ _ _ _ y64 hf) (fun b65 y64 _ _ hf => ?_)
      refine am_aload_n dL_law_449 rfl rfl ?_
      refine am_aload_n dL_law_450 rfl rfl ?_
      refine am_iload_n dL_law_451 rfl rfl ?_
      refine am_iconst (v := 1) dL_law_452 rfl rfl ?_
      refine am_iadd dL_law_453 rfl ?_
      refine am_sld dL_law_454 rfl hf (fun x66 _ hf => ?_)
      refine am_aload_n dL_law_455 rfl rfl ?_
      refine am_iload_n dL_law_456 rfl rfl ?_
      refine am_iconst (v := 2) dL_law_457 rfl rfl ?_
      refine am_iadd dL_law_458 rfl ?_
      refine am_sld dL_law_459 rfl hf (fun x67 _ hf => ?_)
      refine am_aload_n dL_law_460 rfl rfl ?_
      refine am_iload_n dL_law_461 rfl rfl ?_
      refine am_iconst (v := 3) dL_law_462 rfl rfl ?_
      refine am_iadd dL_law_463 rfl ?_
      refine am_sld dL_law_464 rfl hf (fun x68 _ hf => ?_)
      refine am_cVi (As := [.int x66, .int x67, .int x68]) (st := [.int y64.1]) lk_L_law_55 rfl (Nat.le_of_ble_eq_true rfl) (Nat.le_of_ble_eq_true rfl) rfl dL_law_465 rfl hf (fun b70 y69 hf => sfX9_work b70 _ _ _ _ y69 hf) (fun b70 y69 _ _ hf => ?_)
      refine am_icmp_eq (tgt := 1443) dL_law_468 (by decide) rfl hf (fun hf => ?_) (fun hf => ?_)
      · exact (sfS_law_1443 ih) _ _ _ _ _ hf
      refine am_iconst (v := 0) dL_law_471 rfl rfl ?_
      exact am_zret rfl dL_law_472 hf
    refine am_swc hf (fun hf => ?_) (fun hf => ?_)
    · refine am_aload_n dL_law_473 rfl rfl ?_
      refine am_aload_n dL_law_474 rfl rfl ?_
      refine am_iload_n dL_law_475 rfl rfl ?_
      refine am_iconst (v := 1) dL_law_476 rfl rfl ?_
      refine am_iadd dL_law_477 rfl ?_
      refine am_sld dL_law_478 rfl hf (fun x71 _ hf => ?_)
      refine am_aload_n dL_law_479 rfl rfl ?_
      refine am_iload_n dL_law_480 rfl rfl ?_
      refine am_iconst (v := 2) dL_law_481 rfl rfl ?_
      refine am_iadd dL_law_482 rfl ?_
      refine am_sld dL_law_483 rfl hf (fun x72 _ hf => ?_)
      refine am_cVi (As := [.int x71, .int x72]) (st := []) lk_L_law_56 rfl (Nat.le_of_ble_eq_true rfl) (Nat.le_of_ble_eq_true rfl) rfl dL_law_484 rfl hf (fun b74 y73 hf => sfX8_workAs b74 _ _ _ y73 hf) (fun b74 y73 _ _ hf => ?_)
      refine am_aload_n dL_law_487 rfl rfl ?_
      refine am_aload_n dL_law_488 rfl rfl ?_
      refine am_iload_n dL_law_489 rfl rfl ?_
      refine am_iconst (v := 1) dL_law_490 rfl rfl ?_
      refine am_iadd dL_law_491 rfl ?_
      refine am_sld dL_law_492 rfl hf (fun x75 _ hf => ?_)
      refine am_aload_n dL_law_493 rfl rfl ?_
      refine am_iload_n dL_law_494 rfl rfl ?_
      refine am_iconst (v := 2) dL_law_495 rfl rfl ?_
      refine am_iadd dL_law_496 rfl ?_
      refine am_sld dL_law_497 rfl hf (fun x76 _ hf => ?_)
      refine am_cVi (As := [.int x75, .int x76]) (st := [.int y73.1]) lk_L_law_59 rfl (Nat.le_of_ble_eq_true rfl) (Nat.le_of_ble_eq_true rfl) rfl dL_law_498 rfl hf (fun b78 y77 hf => sfX9_workAs b78 _ _ _ y77 hf) (fun b78 y77 _ _ hf => ?_)
      refine am_icmp_eq (tgt := 1443) dL_law_501 (by decide) rfl hf (fun hf => ?_) (fun hf => ?_)
      · exact (sfS_law_1443 ih) _ _ _ _ _ hf
      refine am_iconst (v := 0) dL_law_504 rfl rfl ?_
      exact am_zret rfl dL_law_505 hf
    refine am_swc hf (fun hf => ?_) (fun hf => ?_)
    · refine am_aload_n dL_law_506 rfl rfl ?_
      refine am_aload_n dL_law_507 rfl rfl ?_
      refine am_iload_n dL_law_508 rfl rfl ?_
      refine am_iconst (v := 1) dL_law_509 rfl rfl ?_
      refine am_iadd dL_law_510 rfl ?_
      refine am_sld dL_law_511 rfl hf (fun x79 _ hf => ?_)
      refine am_cVi (As := [.int x79]) (st := []) lk_L_law_60 rfl (Nat.le_of_ble_eq_true rfl) (Nat.le_of_ble_eq_true rfl) rfl dL_law_512 rfl hf (fun b81 y80 hf => sfX8_head b81 _ _ y80 hf) (fun b81 y80 _ _ hf => ?_)
      refine am_aload_n dL_law_515 rfl rfl ?_
      refine am_aload_n dL_law_516 rfl rfl ?_
      refine am_iload_n dL_law_517 rfl rfl ?_
      refine am_iconst (v := 1) dL_law_518 rfl rfl ?_
      refine am_iadd dL_law_519 rfl ?_
      refine am_sld dL_law_520 rfl hf (fun x82 _ hf => ?_)
      refine am_cVi (As := [.int x82]) (st := [.int y80.1]) lk_L_law_64 rfl (Nat.le_of_ble_eq_true rfl) (Nat.le_of_ble_eq_true rfl) rfl dL_law_521 rfl hf (fun b84 y83 hf => sfX9_head b84 _ _ y83 hf) (fun b84 y83 _ _ hf => ?_)
      refine am_icmp_eq (tgt := 1443) dL_law_524 (by decide) rfl hf (fun hf => ?_) (fun hf => ?_)
      · exact (sfS_law_1443 ih) _ _ _ _ _ hf
      refine am_iconst (v := 0) dL_law_527 rfl rfl ?_
      exact am_zret rfl dL_law_528 hf
    refine am_swc hf (fun hf => ?_) (fun hf => ?_)
    · refine am_aload_n dL_law_529 rfl rfl ?_
      refine am_aload_n dL_law_530 rfl rfl ?_
      refine am_iload_n dL_law_531 rfl rfl ?_
      refine am_iconst (v := 1) dL_law_532 rfl rfl ?_
      refine am_iadd dL_law_533 rfl ?_
      refine am_sld dL_law_534 rfl hf (fun x85 _ hf => ?_)
      refine am_aload_n dL_law_535 rfl rfl ?_
      refine am_iload_n dL_law_536 rfl rfl ?_
      refine am_iconst (v := 2) dL_law_537 rfl rfl ?_
      refine am_iadd dL_law_538 rfl ?_
      refine am_sld dL_law_539 rfl hf (fun x86 _ hf => ?_)
      refine am_aload_n dL_law_540 rfl rfl ?_
      refine am_iload_n dL_law_541 rfl rfl ?_
      refine am_iconst (v := 3) dL_law_542 rfl rfl ?_
      refine am_iadd dL_law_543 rfl ?_
      refine am_sld dL_law_544 rfl hf (fun x87 _ hf => ?_)
      refine am_aload_n dL_law_545 rfl rfl ?_
      refine am_iload_n dL_law_546 rfl rfl ?_
      refine am_iconst (v := 4) dL_law_547 rfl rfl ?_
      refine am_iadd dL_law_548 rfl ?_
      refine am_sld dL_law_549 rfl hf (fun x88 _ hf => ?_)
      refine am_cVi (As := [.int x85, .int x86, .int x87, .int x88]) (st := []) lk_L_law_65 rfl (Nat.le_of_ble_eq_true rfl) (Nat.le_of_ble_eq_true rfl) rfl dL_law_550 rfl hf (fun b90 y89 hf => sfX8_drops b90 _ _ _ _ _ y89 hf) (fun b90 y89 _ _ hf => ?_)
      refine am_aload_n dL_law_553 rfl rfl ?_
      refine am_aload_n dL_law_554 rfl rfl ?_
      refine am_iload_n dL_law_555 rfl rfl ?_
      refine am_iconst (v := 1) dL_law_556 rfl rfl ?_
      refine am_iadd dL_law_557 rfl ?_
      refine am_sld dL_law_558 rfl hf (fun x91 _ hf => ?_)
      refine am_aload_n dL_law_559 rfl rfl ?_
      refine am_iload_n dL_law_560 rfl rfl ?_
      refine am_iconst (v := 2) dL_law_561 rfl rfl ?_
      refine am_iadd dL_law_562 rfl ?_
      refine am_sld dL_law_563 rfl hf (fun x92 _ hf => ?_)
      refine am_aload_n dL_law_564 rfl rfl ?_
      refine am_iload_n dL_law_565 rfl rfl ?_
      refine am_iconst (v := 3) dL_law_566 rfl rfl ?_
      refine am_iadd dL_law_567 rfl ?_
      refine am_sld dL_law_568 rfl hf (fun x93 _ hf => ?_)
      refine am_aload_n dL_law_569 rfl rfl ?_
      refine am_iload_n dL_law_570 rfl rfl ?_
      refine am_iconst (v := 4) dL_law_571 rfl rfl ?_
      refine am_iadd dL_law_572 rfl ?_
      refine am_sld dL_law_573 rfl hf (fun x94 _ hf => ?_)
      refine am_cVi (As := [.int x91, .int x92, .int x93, .int x94]) (st := [.int y89.1]) lk_L_law_68 rfl (Nat.le_of_ble_eq_true rfl) (Nat.le_of_ble_eq_true rfl) rfl dL_law_574 rfl hf (fun b96 y95 hf => sfX9_drops b96 _ _ _ _ _ y95 hf) (fun b96 y95 _ _ hf => ?_)
      refine am_icmp_eq (tgt := 1443) dL_law_577 (by decide) rfl hf (fun hf => ?_) (fun hf => ?_)
      · exact (sfS_law_1443 ih) _ _ _ _ _ hf
      refine am_iconst (v := 0) dL_law_580 rfl rfl ?_
      exact am_zret rfl dL_law_581 hf
    refine am_swc hf (fun hf => ?_) (fun hf => ?_)
    · refine am_aload_n dL_law_582 rfl rfl ?_
      refine am_aload_n dL_law_583 rfl rfl ?_
      refine am_iload_n dL_law_584 rfl rfl ?_
      refine am_iconst (v := 1) dL_law_585 rfl rfl ?_
      refine am_iadd dL_law_586 rfl ?_
      refine am_sld dL_law_587 rfl hf (fun x97 _ hf => ?_)
      refine am_aload_n dL_law_588 rfl rfl ?_
      refine am_iload_n dL_law_589 rfl rfl ?_
      refine am_iconst (v := 2) dL_law_590 rfl rfl ?_
      refine am_iadd dL_law_591 rfl ?_
      refine am_sld dL_law_592 rfl hf (fun x98 _ hf => ?_)
      refine am_aload_n dL_law_593 rfl rfl ?_
      refine am_iload_n dL_law_594 rfl rfl ?_
      refine am_iconst (v := 3) dL_law_595 rfl rfl ?_
      refine am_iadd dL_law_596 rfl ?_
      refine am_sld dL_law_597 rfl hf (fun x99 _ hf => ?_)
      refine am_aload_n dL_law_598 rfl rfl ?_
      refine am_iload_n dL_law_599 rfl rfl ?_
      refine am_iconst (v := 4) dL_law_600 rfl rfl ?_
      refine am_iadd dL_law_601 rfl ?_
      refine am_sld dL_law_602 rfl hf (fun x100 _ hf => ?_)
      refine am_cVi (As := [.int x97, .int x98, .int x99, .int x100]) (st := []) lk_L_law_69 rfl (Nat.le_of_ble_eq_true rfl) (Nat.le_of_ble_eq_true rfl) rfl dL_law_603 rfl hf (fun b102 y101 hf => sfX8_error b102 _ _ _ _ _ y101 hf) (fun b102 y101 _ _ hf => ?_)
      refine am_aload_n dL_law_606 rfl rfl ?_
      refine am_aload_n dL_law_607 rfl rfl ?_
      refine am_iload_n dL_law_608 rfl rfl ?_
      refine am_iconst (v := 1) dL_law_609 rfl rfl ?_
      refine am_iadd dL_law_610 rfl ?_
      refine am_sld dL_law_611 rfl hf (fun x103 _ hf => ?_)
      refine am_aload_n dL_law_612 rfl rfl ?_
      refine am_iload_n dL_law_613 rfl rfl ?_
      refine am_iconst (v := 2) dL_law_614 rfl rfl ?_
      refine am_iadd dL_law_615 rfl ?_
      refine am_sld dL_law_616 rfl hf (fun x104 _ hf => ?_)
      refine am_aload_n dL_law_617 rfl rfl ?_
      refine am_iload_n dL_law_618 rfl rfl ?_
      refine am_iconst (v := 3) dL_law_619 rfl rfl ?_
      refine am_iadd dL_law_620 rfl ?_
      refine am_sld dL_law_621 rfl hf (fun x105 _ hf => ?_)
      refine am_aload_n dL_law_622 rfl rfl ?_
      refine am_iload_n dL_law_623 rfl rfl ?_
      refine am_iconst (v := 4) dL_law_624 rfl rfl ?_
      refine am_iadd dL_law_625 rfl ?_
      refine am_sld dL_law_626 rfl hf (fun x106 _ hf => ?_)
      refine am_cVi (As := [.int x103, .int x104, .int x105, .int x106]) (st := [.int y101.1]) lk_L_law_72 rfl (Nat.le_of_ble_eq_true rfl) (Nat.le_of_ble_eq_true rfl) rfl dL_law_627 rfl hf (fun b108 y107 hf => sfX9_error b108 _ _ _ _ _ y107 hf) (fun b108 y107 _ _ hf => ?_)
      refine am_icmp_eq (tgt := 1443) dL_law_630 (by decide) rfl hf (fun hf => ?_) (fun hf => ?_)
      · exact (sfS_law_1443 ih) _ _ _ _ _ hf
      refine am_iconst (v := 0) dL_law_633 rfl rfl ?_
      exact am_zret rfl dL_law_634 hf
    refine am_swc hf (fun hf => ?_) (fun hf => ?_)
    · refine am_aload_n dL_law_635 rfl rfl ?_
      refine am_aload_n dL_law_636 rfl rfl ?_
      refine am_iload_n dL_law_637 rfl rfl ?_
      refine am_iconst (v := 1) dL_law_638 rfl rfl ?_
      refine am_iadd dL_law_639 rfl ?_
      refine am_sld dL_law_640 rfl hf (fun x109 _ hf => ?_)
      refine am_aload_n dL_law_641 rfl rfl ?_
      refine am_iload_n dL_law_642 rfl rfl ?_
      refine am_iconst (v := 2) dL_law_643 rfl rfl ?_
      refine am_iadd dL_law_644 rfl ?_
      refine am_sld dL_law_645 rfl hf (fun x110 _ hf => ?_)
      refine am_aload_n dL_law_646 rfl rfl ?_
      refine am_iload_n dL_law_647 rfl rfl ?_
      refine am_iconst (v := 3) dL_law_648 rfl rfl ?_
      refine am_iadd dL_law_649 rfl ?_
      refine am_sld dL_law_650 rfl hf (fun x111 _ hf => ?_)
      refine am_aload_n dL_law_651 rfl rfl ?_
      refine am_iload_n dL_law_652 rfl rfl ?_
      refine am_iconst (v := 4) dL_law_653 rfl rfl ?_
      refine am_iadd dL_law_654 rfl ?_
      refine am_sld dL_law_655 rfl hf (fun x112 _ hf => ?_)
      refine am_aload_n dL_law_656 rfl rfl ?_
      refine am_iload_n dL_law_657 rfl rfl ?_
      refine am_iconst (v := 5) dL_law_658 rfl rfl ?_
      refine am_iadd dL_law_659 rfl ?_
      refine am_sld dL_law_660 rfl hf (fun x113 _ hf => ?_)
      refine am_cVi (As := [.int x109, .int x110, .int x111, .int x112, .int x113]) (st := []) lk_L_law_73 rfl (Nat.le_of_ble_eq_true rfl) (Nat.le_of_ble_eq_true rfl) rfl dL_law_661 rfl hf (fun b115 y114 hf => sfX8_at b115 _ _ _ _ _ _ y114 hf) (fun b115 y114 _ _ hf => ?_)
      refine am_aload_n dL_law_664 rfl rfl ?_
      refine am_aload_n dL_law_665 rfl rfl ?_
      refine am_iload_n dL_law_666 rfl rfl ?_
      refine am_iconst (v := 1) dL_law_667 rfl rfl ?_
      refine am_iadd dL_law_668 rfl ?_
      refine am_sld dL_law_669 rfl hf (fun x116 _ hf => ?_)
      refine am_aload_n dL_law_670 rfl rfl ?_
      refine am_iload_n dL_law_671 rfl rfl ?_
      refine am_iconst (v := 2) dL_law_672 rfl rfl ?_
      refine am_iadd dL_law_673 rfl ?_
      refine am_sld dL_law_674 rfl hf (fun x117 _ hf => ?_)
      refine am_aload_n dL_law_675 rfl rfl ?_
      refine am_iload_n dL_law_676 rfl rfl ?_
      refine am_iconst (v := 3) dL_law_677 rfl rfl ?_
      refine am_iadd dL_law_678 rfl ?_
      refine am_sld dL_law_679 rfl hf (fun x118 _ hf => ?_)
      refine am_aload_n dL_law_680 rfl rfl ?_
      refine am_iload_n dL_law_681 rfl rfl ?_
      refine am_iconst (v := 4) dL_law_682 rfl rfl ?_
      refine am_iadd dL_law_683 rfl ?_
      refine am_sld dL_law_684 rfl hf (fun x119 _ hf => ?_)
      refine am_aload_n dL_law_685 rfl rfl ?_
      refine am_iload_n dL_law_686 rfl rfl ?_
      refine am_iconst (v := 5) dL_law_687 rfl rfl ?_
      refine am_iadd dL_law_688 rfl ?_
      refine am_sld dL_law_689 rfl hf (fun x120 _ hf => ?_)
      refine am_cVi (As := [.int x116, .int x117, .int x118, .int x119, .int x120]) (st := [.int y114.1]) lk_L_law_77 rfl (Nat.le_of_ble_eq_true rfl) (Nat.le_of_ble_eq_true rfl) rfl dL_law_690 rfl hf (fun b122 y121 hf => sfX9_at b122 _ _ _ _ _ _ y121 hf) (fun b122 y121 _ _ hf => ?_)
      refine am_icmp_eq (tgt := 1443) dL_law_693 (by decide) rfl hf (fun hf => ?_) (fun hf => ?_)
      · exact (sfS_law_1443 ih) _ _ _ _ _ hf
      refine am_iconst (v := 0) dL_law_696 rfl rfl ?_
      exact am_zret rfl dL_law_697 hf
    refine am_swc hf (fun hf => ?_) (fun hf => ?_)
    · refine am_aload_n dL_law_698 rfl rfl ?_
      refine am_aload_n dL_law_699 rfl rfl ?_
      refine am_iload_n dL_law_700 rfl rfl ?_
      refine am_iconst (v := 1) dL_law_701 rfl rfl ?_
      refine am_iadd dL_law_702 rfl ?_
      refine am_sld dL_law_703 rfl hf (fun x123 _ hf => ?_)
      refine am_aload_n dL_law_704 rfl rfl ?_
      refine am_iload_n dL_law_705 rfl rfl ?_
      refine am_iconst (v := 2) dL_law_706 rfl rfl ?_
      refine am_iadd dL_law_707 rfl ?_
      refine am_sld dL_law_708 rfl hf (fun x124 _ hf => ?_)
      refine am_aload_n dL_law_709 rfl rfl ?_
      refine am_iload_n dL_law_710 rfl rfl ?_
      refine am_iconst (v := 3) dL_law_711 rfl rfl ?_
      refine am_iadd dL_law_712 rfl ?_
      refine am_sld dL_law_713 rfl hf (fun x125 _ hf => ?_)
      refine am_aload_n dL_law_714 rfl rfl ?_
      refine am_iload_n dL_law_715 rfl rfl ?_
      refine am_iconst (v := 4) dL_law_716 rfl rfl ?_
      refine am_iadd dL_law_717 rfl ?_
      refine am_sld dL_law_718 rfl hf (fun x126 _ hf => ?_)
      refine am_cVi (As := [.int x123, .int x124, .int x125, .int x126]) (st := []) lk_L_law_78 rfl (Nat.le_of_ble_eq_true rfl) (Nat.le_of_ble_eq_true rfl) rfl dL_law_719 rfl hf (fun b128 y127 hf => sfX8_even b128 _ _ _ _ _ y127 hf) (fun b128 y127 _ _ hf => ?_)
      refine am_aload_n dL_law_722 rfl rfl ?_
      refine am_aload_n dL_law_723 rfl rfl ?_
      refine am_iload_n dL_law_724 rfl rfl ?_
      refine am_iconst (v := 1) dL_law_725 rfl rfl ?_
      refine am_iadd dL_law_726 rfl ?_
      refine am_sld dL_law_727 rfl hf (fun x129 _ hf => ?_)
      refine am_aload_n dL_law_728 rfl rfl ?_
      refine am_iload_n dL_law_729 rfl rfl ?_
      refine am_iconst (v := 2) dL_law_730 rfl rfl ?_
      refine am_iadd dL_law_731 rfl ?_
      refine am_sld dL_law_732 rfl hf (fun x130 _ hf => ?_)
      refine am_aload_n dL_law_733 rfl rfl ?_
      refine am_iload_n dL_law_734 rfl rfl ?_
      refine am_iconst (v := 3) dL_law_735 rfl rfl ?_
      refine am_iadd dL_law_736 rfl ?_
      refine am_sld dL_law_737 rfl hf (fun x131 _ hf => ?_)
      refine am_aload_n dL_law_738 rfl rfl ?_
      refine am_iload_n dL_law_739 rfl rfl ?_
      refine am_iconst (v := 4) dL_law_740 rfl rfl ?_
      refine am_iadd dL_law_741 rfl ?_
      refine am_sld dL_law_742 rfl hf (fun x132 _ hf => ?_)
      refine am_cVi (As := [.int x129, .int x130, .int x131, .int x132]) (st := [.int y127.1]) lk_L_law_81 rfl (Nat.le_of_ble_eq_true rfl) (Nat.le_of_ble_eq_true rfl) rfl dL_law_743 rfl hf (fun b134 y133 hf => sfX9_even b134 _ _ _ _ _ y133 hf) (fun b134 y133 _ _ hf => ?_)
      refine am_icmp_eq (tgt := 1443) dL_law_746 (by decide) rfl hf (fun hf => ?_) (fun hf => ?_)
      · exact (sfS_law_1443 ih) _ _ _ _ _ hf
      refine am_iconst (v := 0) dL_law_749 rfl rfl ?_
      exact am_zret rfl dL_law_750 hf
    refine am_swc hf (fun hf => ?_) (fun hf => ?_)
    · refine am_aload_n dL_law_751 rfl rfl ?_
      refine am_aload_n dL_law_752 rfl rfl ?_
      refine am_iload_n dL_law_753 rfl rfl ?_
      refine am_iconst (v := 1) dL_law_754 rfl rfl ?_
      refine am_iadd dL_law_755 rfl ?_
      refine am_sld dL_law_756 rfl hf (fun x135 _ hf => ?_)
      refine am_aload_n dL_law_757 rfl rfl ?_
      refine am_iload_n dL_law_758 rfl rfl ?_
      refine am_iconst (v := 2) dL_law_759 rfl rfl ?_
      refine am_iadd dL_law_760 rfl ?_
      refine am_sld dL_law_761 rfl hf (fun x136 _ hf => ?_)
      refine am_aload_n dL_law_762 rfl rfl ?_
      refine am_iload_n dL_law_763 rfl rfl ?_
      refine am_iconst (v := 3) dL_law_764 rfl rfl ?_
      refine am_iadd dL_law_765 rfl ?_
      refine am_sld dL_law_766 rfl hf (fun x137 _ hf => ?_)
      refine am_aload_n dL_law_767 rfl rfl ?_
      refine am_iload_n dL_law_768 rfl rfl ?_
      refine am_iconst (v := 4) dL_law_769 rfl rfl ?_
      refine am_iadd dL_law_770 rfl ?_
      refine am_sld dL_law_771 rfl hf (fun x138 _ hf => ?_)
      refine am_cVi (As := [.int x135, .int x136, .int x137, .int x138]) (st := []) lk_L_law_82 rfl (Nat.le_of_ble_eq_true rfl) (Nat.le_of_ble_eq_true rfl) rfl dL_law_772 rfl hf (fun b140 y139 hf => sfX8_mean b140 _ _ _ _ _ y139 hf) (fun b140 y139 _ _ hf => ?_)
      refine am_aload_n dL_law_775 rfl rfl ?_
      refine am_aload_n dL_law_776 rfl rfl ?_
      refine am_iload_n dL_law_777 rfl rfl ?_
      refine am_iconst (v := 1) dL_law_778 rfl rfl ?_
      refine am_iadd dL_law_779 rfl ?_
      refine am_sld dL_law_780 rfl hf (fun x141 _ hf => ?_)
      refine am_aload_n dL_law_781 rfl rfl ?_
      refine am_iload_n dL_law_782 rfl rfl ?_
      refine am_iconst (v := 2) dL_law_783 rfl rfl ?_
      refine am_iadd dL_law_784 rfl ?_
      refine am_sld dL_law_785 rfl hf (fun x142 _ hf => ?_)
      refine am_aload_n dL_law_786 rfl rfl ?_
      refine am_iload_n dL_law_787 rfl rfl ?_
      refine am_iconst (v := 3) dL_law_788 rfl rfl ?_
      refine am_iadd dL_law_789 rfl ?_
      refine am_sld dL_law_790 rfl hf (fun x143 _ hf => ?_)
      refine am_aload_n dL_law_791 rfl rfl ?_
      refine am_iload_n dL_law_792 rfl rfl ?_
      refine am_iconst (v := 4) dL_law_793 rfl rfl ?_
      refine am_iadd dL_law_794 rfl ?_
      refine am_sld dL_law_795 rfl hf (fun x144 _ hf => ?_)
      refine am_cVi (As := [.int x141, .int x142, .int x143, .int x144]) (st := [.int y139.1]) lk_L_law_85 rfl (Nat.le_of_ble_eq_true rfl) (Nat.le_of_ble_eq_true rfl) rfl dL_law_796 rfl hf (fun b146 y145 hf => sfX9_mean b146 _ _ _ _ _ y145 hf) (fun b146 y145 _ _ hf => ?_)
      refine am_icmp_eq (tgt := 1443) dL_law_799 (by decide) rfl hf (fun hf => ?_) (fun hf => ?_)
      · exact (sfS_law_1443 ih) _ _ _ _ _ hf
      refine am_iconst (v := 0) dL_law_802 rfl rfl ?_
      exact am_zret rfl dL_law_803 hf
    refine am_swc hf (fun hf => ?_) (fun hf => ?_)
    · refine am_aload_n dL_law_804 rfl rfl ?_
      refine am_aload_n dL_law_805 rfl rfl ?_
      refine am_iload_n dL_law_806 rfl rfl ?_
      refine am_iconst (v := 1) dL_law_807 rfl rfl ?_
      refine am_iadd dL_law_808 rfl ?_
      refine am_sld dL_law_809 rfl hf (fun x147 _ hf => ?_)
      refine am_aload_n dL_law_810 rfl rfl ?_
      refine am_iload_n dL_law_811 rfl rfl ?_
      refine am_iconst (v := 2) dL_law_812 rfl rfl ?_
      refine am_iadd dL_law_813 rfl ?_
      refine am_sld dL_law_814 rfl hf (fun x148 _ hf => ?_)
      refine am_aload_n dL_law_815 rfl rfl ?_
      refine am_iload_n dL_law_816 rfl rfl ?_
      refine am_iconst (v := 3) dL_law_817 rfl rfl ?_
      refine am_iadd dL_law_818 rfl ?_
      refine am_sld dL_law_819 rfl hf (fun x149 _ hf => ?_)
      refine am_aload_n dL_law_820 rfl rfl ?_
      refine am_iload_n dL_law_821 rfl rfl ?_
      refine am_iconst (v := 4) dL_law_822 rfl rfl ?_
      refine am_iadd dL_law_823 rfl ?_
      refine am_sld dL_law_824 rfl hf (fun x150 _ hf => ?_)
      refine am_cVi (As := [.int x147, .int x148, .int x149, .int x150]) (st := []) lk_L_law_86 rfl (Nat.le_of_ble_eq_true rfl) (Nat.le_of_ble_eq_true rfl) rfl dL_law_825 rfl hf (fun b152 y151 hf => sfX8_shows b152 _ _ _ _ _ y151 hf) (fun b152 y151 _ _ hf => ?_)
      refine am_aload_n dL_law_828 rfl rfl ?_
      refine am_aload_n dL_law_829 rfl rfl ?_
      refine am_iload_n dL_law_830 rfl rfl ?_
      refine am_iconst (v := 1) dL_law_831 rfl rfl ?_
      refine am_iadd dL_law_832 rfl ?_
      refine am_sld dL_law_833 rfl hf (fun x153 _ hf => ?_)
      refine am_aload_n dL_law_834 rfl rfl ?_
      refine am_iload_n dL_law_835 rfl rfl ?_
      refine am_iconst (v := 2) dL_law_836 rfl rfl ?_
      refine am_iadd dL_law_837 rfl ?_
      refine am_sld dL_law_838 rfl hf (fun x154 _ hf => ?_)
      refine am_aload_n dL_law_839 rfl rfl ?_
      refine am_iload_n dL_law_840 rfl rfl ?_
      refine am_iconst (v := 3) dL_law_841 rfl rfl ?_
      refine am_iadd dL_law_842 rfl ?_
      refine am_sld dL_law_843 rfl hf (fun x155 _ hf => ?_)
      refine am_aload_n dL_law_844 rfl rfl ?_
      refine am_iload_n dL_law_845 rfl rfl ?_
      refine am_iconst (v := 4) dL_law_846 rfl rfl ?_
      refine am_iadd dL_law_847 rfl ?_
      refine am_sld dL_law_848 rfl hf (fun x156 _ hf => ?_)
      refine am_cVi (As := [.int x153, .int x154, .int x155, .int x156]) (st := [.int y151.1]) lk_L_law_89 rfl (Nat.le_of_ble_eq_true rfl) (Nat.le_of_ble_eq_true rfl) rfl dL_law_849 rfl hf (fun b158 y157 hf => sfX9_shows b158 _ _ _ _ _ y157 hf) (fun b158 y157 _ _ hf => ?_)
      refine am_icmp_eq (tgt := 1443) dL_law_852 (by decide) rfl hf (fun hf => ?_) (fun hf => ?_)
      · exact (sfS_law_1443 ih) _ _ _ _ _ hf
      refine am_iconst (v := 0) dL_law_855 rfl rfl ?_
      exact am_zret rfl dL_law_856 hf
    refine am_swc hf (fun hf => ?_) (fun hf => ?_)
    · refine am_aload_n dL_law_857 rfl rfl ?_
      refine am_aload_n dL_law_858 rfl rfl ?_
      refine am_iload_n dL_law_859 rfl rfl ?_
      refine am_iconst (v := 1) dL_law_860 rfl rfl ?_
      refine am_iadd dL_law_861 rfl ?_
      refine am_sld dL_law_862 rfl hf (fun x159 _ hf => ?_)
      refine am_aload_n dL_law_863 rfl rfl ?_
      refine am_iload_n dL_law_864 rfl rfl ?_
      refine am_iconst (v := 2) dL_law_865 rfl rfl ?_
      refine am_iadd dL_law_866 rfl ?_
      refine am_sld dL_law_867 rfl hf (fun x160 _ hf => ?_)
      refine am_cVi (As := [.int x159, .int x160]) (st := []) lk_L_law_90 rfl (Nat.le_of_ble_eq_true rfl) (Nat.le_of_ble_eq_true rfl) rfl dL_law_868 rfl hf (fun b162 y161 hf => sfX8_worst b162 _ _ _ y161 hf) (fun b162 y161 _ _ hf => ?_)
      refine am_aload_n dL_law_871 rfl rfl ?_
      refine am_aload_n dL_law_872 rfl rfl ?_
      refine am_iload_n dL_law_873 rfl rfl ?_
      refine am_iconst (v := 1) dL_law_874 rfl rfl ?_
      refine am_iadd dL_law_875 rfl ?_
      refine am_sld dL_law_876 rfl hf (fun x163 _ hf => ?_)
      refine am_aload_n dL_law_877 rfl rfl ?_
      refine am_iload_n dL_law_878 rfl rfl ?_
      refine am_iconst (v := 2) dL_law_879 rfl rfl ?_
      refine am_iadd dL_law_880 rfl ?_
      refine am_sld dL_law_881 rfl hf (fun x164 _ hf => ?_)
      refine am_cVi (As := [.int x163, .int x164]) (st := [.int y161.1]) lk_L_law_93 rfl (Nat.le_of_ble_eq_true rfl) (Nat.le_of_ble_eq_true rfl) rfl dL_law_882 rfl hf (fun b166 y165 hf => sfX9_worst b166 _ _ _ y165 hf) (fun b166 y165 _ _ hf => ?_)
      refine am_icmp_eq (tgt := 1443) dL_law_885 (by decide) rfl hf (fun hf => ?_) (fun hf => ?_)
      · exact (sfS_law_1443 ih) _ _ _ _ _ hf
      refine am_iconst (v := 0) dL_law_888 rfl rfl ?_
      exact am_zret rfl dL_law_889 hf
    refine am_swc hf (fun hf => ?_) (fun hf => ?_)
    · refine am_aload_n dL_law_890 rfl rfl ?_
      refine am_aload_n dL_law_891 rfl rfl ?_
      refine am_iload_n dL_law_892 rfl rfl ?_
      refine am_iconst (v := 1) dL_law_893 rfl rfl ?_
      refine am_iadd dL_law_894 rfl ?_
      refine am_sld dL_law_895 rfl hf (fun x167 _ hf => ?_)
      refine am_aload_n dL_law_896 rfl rfl ?_
      refine am_iload_n dL_law_897 rfl rfl ?_
      refine am_iconst (v := 2) dL_law_898 rfl rfl ?_
      refine am_iadd dL_law_899 rfl ?_
      refine am_sld dL_law_900 rfl hf (fun x168 _ hf => ?_)
      refine am_cVi (As := [.int x167, .int x168]) (st := []) lk_L_law_94 rfl (Nat.le_of_ble_eq_true rfl) (Nat.le_of_ble_eq_true rfl) rfl dL_law_901 rfl hf (fun b170 y169 hf => sfX8_better b170 _ _ _ y169 hf) (fun b170 y169 _ _ hf => ?_)
      refine am_aload_n dL_law_904 rfl rfl ?_
      refine am_aload_n dL_law_905 rfl rfl ?_
      refine am_iload_n dL_law_906 rfl rfl ?_
      refine am_iconst (v := 1) dL_law_907 rfl rfl ?_
      refine am_iadd dL_law_908 rfl ?_
      refine am_sld dL_law_909 rfl hf (fun x171 _ hf => ?_)
      refine am_aload_n dL_law_910 rfl rfl ?_
      refine am_iload_n dL_law_911 rfl rfl ?_
      refine am_iconst (v := 2) dL_law_912 rfl rfl ?_
      refine am_iadd dL_law_913 rfl ?_
      refine am_sld dL_law_914 rfl hf (fun x172 _ hf => ?_)
      refine am_cVi (As := [.int x171, .int x172]) (st := [.int y169.1]) lk_L_law_97 rfl (Nat.le_of_ble_eq_true rfl) (Nat.le_of_ble_eq_true rfl) rfl dL_law_915 rfl hf (fun b174 y173 hf => sfX9_better b174 _ _ _ y173 hf) (fun b174 y173 _ _ hf => ?_)
      refine am_icmp_eq (tgt := 1443) dL_law_918 (by decide) rfl hf (fun hf => ?_) (fun hf => ?_)
      · exact (sfS_law_1443 ih) _ _ _ _ _ hf
      refine am_iconst (v := 0) dL_law_921 rfl rfl ?_
      exact am_zret rfl dL_law_922 hf
    refine am_swc hf (fun hf => ?_) (fun hf => ?_)
    · refine am_aload_n dL_law_923 rfl rfl ?_
      refine am_aload_n dL_law_924 rfl rfl ?_
      refine am_iload_n dL_law_925 rfl rfl ?_
      refine am_iconst (v := 1) dL_law_926 rfl rfl ?_
      refine am_iadd dL_law_927 rfl ?_
      refine am_sld dL_law_928 rfl hf (fun x175 _ hf => ?_)
      refine am_aload_n dL_law_929 rfl rfl ?_
      refine am_iload_n dL_law_930 rfl rfl ?_
      refine am_iconst (v := 2) dL_law_931 rfl rfl ?_
      refine am_iadd dL_law_932 rfl ?_
      refine am_sld dL_law_933 rfl hf (fun x176 _ hf => ?_)
      refine am_aload_n dL_law_934 rfl rfl ?_
      refine am_iload_n dL_law_935 rfl rfl ?_
      refine am_iconst (v := 3) dL_law_936 rfl rfl ?_
      refine am_iadd dL_law_937 rfl ?_
      refine am_sld dL_law_938 rfl hf (fun x177 _ hf => ?_)
      refine am_cVi (As := [.int x175, .int x176, .int x177]) (st := []) lk_L_law_98 rfl (Nat.le_of_ble_eq_true rfl) (Nat.le_of_ble_eq_true rfl) rfl dL_law_939 rfl hf (fun b179 y178 hf => sfX8_mark b179 _ _ _ _ y178 hf) (fun b179 y178 _ _ hf => ?_)
      refine am_aload_n dL_law_942 rfl rfl ?_
      refine am_aload_n dL_law_943 rfl rfl ?_
      refine am_iload_n dL_law_944 rfl rfl ?_
      refine am_iconst (v := 1) dL_law_945 rfl rfl ?_
      refine am_iadd dL_law_946 rfl ?_
      refine am_sld dL_law_947 rfl hf (fun x180 _ hf => ?_)
      refine am_aload_n dL_law_948 rfl rfl ?_
      refine am_iload_n dL_law_949 rfl rfl ?_
      refine am_iconst (v := 2) dL_law_950 rfl rfl ?_
      refine am_iadd dL_law_951 rfl ?_
      refine am_sld dL_law_952 rfl hf (fun x181 _ hf => ?_)
      refine am_aload_n dL_law_953 rfl rfl ?_
      refine am_iload_n dL_law_954 rfl rfl ?_
      refine am_iconst (v := 3) dL_law_955 rfl rfl ?_
      refine am_iadd dL_law_956 rfl ?_
      refine am_sld dL_law_957 rfl hf (fun x182 _ hf => ?_)
      refine am_cVi (As := [.int x180, .int x181, .int x182]) (st := [.int y178.1]) lk_L_law_101 rfl (Nat.le_of_ble_eq_true rfl) (Nat.le_of_ble_eq_true rfl) rfl dL_law_958 rfl hf (fun b184 y183 hf => sfX9_mark b184 _ _ _ _ y183 hf) (fun b184 y183 _ _ hf => ?_)
      refine am_icmp_eq (tgt := 1443) dL_law_961 (by decide) rfl hf (fun hf => ?_) (fun hf => ?_)
      · exact (sfS_law_1443 ih) _ _ _ _ _ hf
      refine am_iconst (v := 0) dL_law_964 rfl rfl ?_
      exact am_zret rfl dL_law_965 hf
    refine am_swc hf (fun hf => ?_) (fun hf => ?_)
    · refine am_aload_n dL_law_966 rfl rfl ?_
      refine am_aload_n dL_law_967 rfl rfl ?_
      refine am_iload_n dL_law_968 rfl rfl ?_
      refine am_iconst (v := 1) dL_law_969 rfl rfl ?_
      refine am_iadd dL_law_970 rfl ?_
      refine am_sld dL_law_971 rfl hf (fun x185 _ hf => ?_)
      refine am_aload_n dL_law_972 rfl rfl ?_
      refine am_iload_n dL_law_973 rfl rfl ?_
      refine am_iconst (v := 2) dL_law_974 rfl rfl ?_
      refine am_iadd dL_law_975 rfl ?_
      refine am_sld dL_law_976 rfl hf (fun x186 _ hf => ?_)
      refine am_aload_n dL_law_977 rfl rfl ?_
      refine am_iload_n dL_law_978 rfl rfl ?_
      refine am_iconst (v := 3) dL_law_979 rfl rfl ?_
      refine am_iadd dL_law_980 rfl ?_
      refine am_sld dL_law_981 rfl hf (fun x187 _ hf => ?_)
      refine am_aload_n dL_law_982 rfl rfl ?_
      refine am_iload_n dL_law_983 rfl rfl ?_
      refine am_iconst (v := 4) dL_law_984 rfl rfl ?_
      refine am_iadd dL_law_985 rfl ?_
      refine am_sld dL_law_986 rfl hf (fun x188 _ hf => ?_)
      refine am_aload_n dL_law_987 rfl rfl ?_
      refine am_iload_n dL_law_988 rfl rfl ?_
      refine am_iconst (v := 5) dL_law_989 rfl rfl ?_
      refine am_iadd dL_law_990 rfl ?_
      refine am_sld dL_law_991 rfl hf (fun x189 _ hf => ?_)
      refine am_cVi (As := [.int x185, .int x186, .int x187, .int x188, .int x189]) (st := []) lk_L_law_102 rfl (Nat.le_of_ble_eq_true rfl) (Nat.le_of_ble_eq_true rfl) rfl dL_law_992 rfl hf (fun b191 y190 hf => sfX8_mended b191 _ _ _ _ _ _ y190 hf) (fun b191 y190 _ _ hf => ?_)
      refine am_aload_n dL_law_995 rfl rfl ?_
      refine am_aload_n dL_law_996 rfl rfl ?_
      refine am_iload_n dL_law_997 rfl rfl ?_
      refine am_iconst (v := 1) dL_law_998 rfl rfl ?_
      refine am_iadd dL_law_999 rfl ?_
      refine am_sld dL_law_1000 rfl hf (fun x192 _ hf => ?_)
      refine am_aload_n dL_law_1001 rfl rfl ?_
      refine am_iload_n dL_law_1002 rfl rfl ?_
      refine am_iconst (v := 2) dL_law_1003 rfl rfl ?_
      refine am_iadd dL_law_1004 rfl ?_
      refine am_sld dL_law_1005 rfl hf (fun x193 _ hf => ?_)
      refine am_aload_n dL_law_1006 rfl rfl ?_
      refine am_iload_n dL_law_1007 rfl rfl ?_
      refine am_iconst (v := 3) dL_law_1008 rfl rfl ?_
      refine am_iadd dL_law_1009 rfl ?_
      refine am_sld dL_law_1010 rfl hf (fun x194 _ hf => ?_)
      refine am_aload_n dL_law_1011 rfl rfl ?_
      refine am_iload_n dL_law_1012 rfl rfl ?_
      refine am_iconst (v := 4) dL_law_1013 rfl rfl ?_
      refine am_iadd dL_law_1014 rfl ?_
      refine am_sld dL_law_1015 rfl hf (fun x195 _ hf => ?_)
      refine am_aload_n dL_law_1016 rfl rfl ?_
      refine am_iload_n dL_law_1017 rfl rfl ?_
      refine am_iconst (v := 5) dL_law_1018 rfl rfl ?_
      refine am_iadd dL_law_1019 rfl ?_
      refine am_sld dL_law_1020 rfl hf (fun x196 _ hf => ?_)
      refine am_cVi (As := [.int x192, .int x193, .int x194, .int x195, .int x196]) (st := [.int y190.1]) lk_L_law_105 rfl (Nat.le_of_ble_eq_true rfl) (Nat.le_of_ble_eq_true rfl) rfl dL_law_1021 rfl hf (fun b198 y197 hf => sfX9_mended b198 _ _ _ _ _ _ y197 hf) (fun b198 y197 _ _ hf => ?_)
      refine am_icmp_eq (tgt := 1443) dL_law_1024 (by decide) rfl hf (fun hf => ?_) (fun hf => ?_)
      · exact (sfS_law_1443 ih) _ _ _ _ _ hf
      refine am_iconst (v := 0) dL_law_1027 rfl rfl ?_
      exact am_zret rfl dL_law_1028 hf
    refine am_swc hf (fun hf => ?_) (fun hf => ?_)
    · refine am_aload_n dL_law_1029 rfl rfl ?_
      refine am_aload_n dL_law_1030 rfl rfl ?_
      refine am_iload_n dL_law_1031 rfl rfl ?_
      refine am_iconst (v := 1) dL_law_1032 rfl rfl ?_
      refine am_iadd dL_law_1033 rfl ?_
      refine am_sld dL_law_1034 rfl hf (fun x199 _ hf => ?_)
      refine am_aload_n dL_law_1035 rfl rfl ?_
      refine am_iload_n dL_law_1036 rfl rfl ?_
      refine am_iconst (v := 2) dL_law_1037 rfl rfl ?_
      refine am_iadd dL_law_1038 rfl ?_
      refine am_sld dL_law_1039 rfl hf (fun x200 _ hf => ?_)
      refine am_cVi (As := [.int x199, .int x200]) (st := []) lk_L_law_106 rfl (Nat.le_of_ble_eq_true rfl) (Nat.le_of_ble_eq_true rfl) rfl dL_law_1040 rfl hf (fun b202 y201 hf => sfX8_log b202 _ _ _ y201 hf) (fun b202 y201 _ _ hf => ?_)
      refine am_aload_n dL_law_1043 rfl rfl ?_
      refine am_aload_n dL_law_1044 rfl rfl ?_
      refine am_iload_n dL_law_1045 rfl rfl ?_
      refine am_iconst (v := 1) dL_law_1046 rfl rfl ?_
      refine am_iadd dL_law_1047 rfl ?_
      refine am_sld dL_law_1048 rfl hf (fun x203 _ hf => ?_)
      refine am_aload_n dL_law_1049 rfl rfl ?_
      refine am_iload_n dL_law_1050 rfl rfl ?_
      refine am_iconst (v := 2) dL_law_1051 rfl rfl ?_
      refine am_iadd dL_law_1052 rfl ?_
      refine am_sld dL_law_1053 rfl hf (fun x204 _ hf => ?_)
      refine am_cVi (As := [.int x203, .int x204]) (st := [.int y201.1]) lk_L_law_109 rfl (Nat.le_of_ble_eq_true rfl) (Nat.le_of_ble_eq_true rfl) rfl dL_law_1054 rfl hf (fun b206 y205 hf => sfX9_log b206 _ _ _ y205 hf) (fun b206 y205 _ _ hf => ?_)
      refine am_icmp_eq (tgt := 1443) dL_law_1057 (by decide) rfl hf (fun hf => ?_) (fun hf => ?_)
      · exact (sfS_law_1443 ih) _ _ _ _ _ hf
      refine am_iconst (v := 0) dL_law_1060 rfl rfl ?_
      exact am_zret rfl dL_law_1061 hf
    refine am_swc hf (fun hf => ?_) (fun hf => ?_)
    · refine am_aload_n dL_law_1062 rfl rfl ?_
      refine am_aload_n dL_law_1063 rfl rfl ?_
      refine am_iload_n dL_law_1064 rfl rfl ?_
      refine am_iconst (v := 1) dL_law_1065 rfl rfl ?_
      refine am_iadd dL_law_1066 rfl ?_
      refine am_sld dL_law_1067 rfl hf (fun x207 _ hf => ?_)
      refine am_aload_n dL_law_1068 rfl rfl ?_
      refine am_iload_n dL_law_1069 rfl rfl ?_
      refine am_iconst (v := 2) dL_law_1070 rfl rfl ?_
      refine am_iadd dL_law_1071 rfl ?_
      refine am_sld dL_law_1072 rfl hf (fun x208 _ hf => ?_)
      refine am_aload_n dL_law_1073 rfl rfl ?_
      refine am_iload_n dL_law_1074 rfl rfl ?_
      refine am_iconst (v := 3) dL_law_1075 rfl rfl ?_
      refine am_iadd dL_law_1076 rfl ?_
      refine am_sld dL_law_1077 rfl hf (fun x209 _ hf => ?_)
      refine am_cVi (As := [.int x207, .int x208, .int x209]) (st := []) lk_L_law_110 rfl (Nat.le_of_ble_eq_true rfl) (Nat.le_of_ble_eq_true rfl) rfl dL_law_1078 rfl hf (fun b211 y210 hf => sfX8_agrees b211 _ _ _ _ y210 hf) (fun b211 y210 _ _ hf => ?_)
      refine am_aload_n dL_law_1081 rfl rfl ?_
      refine am_aload_n dL_law_1082 rfl rfl ?_
      refine am_iload_n dL_law_1083 rfl rfl ?_
      refine am_iconst (v := 1) dL_law_1084 rfl rfl ?_
      refine am_iadd dL_law_1085 rfl ?_
      refine am_sld dL_law_1086 rfl hf (fun x212 _ hf => ?_)
      refine am_aload_n dL_law_1087 rfl rfl ?_
      refine am_iload_n dL_law_1088 rfl rfl ?_
      refine am_iconst (v := 2) dL_law_1089 rfl rfl ?_
      refine am_iadd dL_law_1090 rfl ?_
      refine am_sld dL_law_1091 rfl hf (fun x213 _ hf => ?_)
      refine am_aload_n dL_law_1092 rfl rfl ?_
      refine am_iload_n dL_law_1093 rfl rfl ?_
      refine am_iconst (v := 3) dL_law_1094 rfl rfl ?_
      refine am_iadd dL_law_1095 rfl ?_
      refine am_sld dL_law_1096 rfl hf (fun x214 _ hf => ?_)
      refine am_cVi (As := [.int x212, .int x213, .int x214]) (st := [.int y210.1]) lk_L_law_113 rfl (Nat.le_of_ble_eq_true rfl) (Nat.le_of_ble_eq_true rfl) rfl dL_law_1097 rfl hf (fun b216 y215 hf => sfX9_agrees b216 _ _ _ _ y215 hf) (fun b216 y215 _ _ hf => ?_)
      refine am_icmp_eq (tgt := 1443) dL_law_1100 (by decide) rfl hf (fun hf => ?_) (fun hf => ?_)
      · exact (sfS_law_1443 ih) _ _ _ _ _ hf
      refine am_iconst (v := 0) dL_law_1103 rfl rfl ?_
      exact am_zret rfl dL_law_1104 hf
    refine am_swc hf (fun hf => ?_) (fun hf => ?_)
    · refine am_aload_n dL_law_1105 rfl rfl ?_
      refine am_aload_n dL_law_1106 rfl rfl ?_
      refine am_iload_n dL_law_1107 rfl rfl ?_
      refine am_iconst (v := 1) dL_law_1108 rfl rfl ?_
      refine am_iadd dL_law_1109 rfl ?_
      refine am_sld dL_law_1110 rfl hf (fun x217 _ hf => ?_)
      refine am_aload_n dL_law_1111 rfl rfl ?_
      refine am_iload_n dL_law_1112 rfl rfl ?_
      refine am_iconst (v := 2) dL_law_1113 rfl rfl ?_
      refine am_iadd dL_law_1114 rfl ?_
      refine am_sld dL_law_1115 rfl hf (fun x218 _ hf => ?_)
      refine am_cVi (As := [.int x217, .int x218]) (st := []) lk_L_law_114 rfl (Nat.le_of_ble_eq_true rfl) (Nat.le_of_ble_eq_true rfl) rfl dL_law_1116 rfl hf (fun b220 y219 hf => sfX8_which b220 _ _ _ y219 hf) (fun b220 y219 _ _ hf => ?_)
      refine am_aload_n dL_law_1119 rfl rfl ?_
      refine am_aload_n dL_law_1120 rfl rfl ?_
      refine am_iload_n dL_law_1121 rfl rfl ?_
      refine am_iconst (v := 1) dL_law_1122 rfl rfl ?_
      refine am_iadd dL_law_1123 rfl ?_
      refine am_sld dL_law_1124 rfl hf (fun x221 _ hf => ?_)
      refine am_aload_n dL_law_1125 rfl rfl ?_
      refine am_iload_n dL_law_1126 rfl rfl ?_
      refine am_iconst (v := 2) dL_law_1127 rfl rfl ?_
      refine am_iadd dL_law_1128 rfl ?_
      refine am_sld dL_law_1129 rfl hf (fun x222 _ hf => ?_)
      refine am_cVi (As := [.int x221, .int x222]) (st := [.int y219.1]) lk_L_law_117 rfl (Nat.le_of_ble_eq_true rfl) (Nat.le_of_ble_eq_true rfl) rfl dL_law_1130 rfl hf (fun b224 y223 hf => sfX9_which b224 _ _ _ y223 hf) (fun b224 y223 _ _ hf => ?_)
      refine am_icmp_eq (tgt := 1443) dL_law_1133 (by decide) rfl hf (fun hf => ?_) (fun hf => ?_)
      · exact (sfS_law_1443 ih) _ _ _ _ _ hf
      refine am_iconst (v := 0) dL_law_1136 rfl rfl ?_
      exact am_zret rfl dL_law_1137 hf
    refine am_swc hf (fun hf => ?_) (fun hf => ?_)
    · refine am_aload_n dL_law_1138 rfl rfl ?_
      refine am_aload_n dL_law_1139 rfl rfl ?_
      refine am_iload_n dL_law_1140 rfl rfl ?_
      refine am_iconst (v := 1) dL_law_1141 rfl rfl ?_
      refine am_iadd dL_law_1142 rfl ?_
      refine am_sld dL_law_1143 rfl hf (fun x225 _ hf => ?_)
      refine am_aload_n dL_law_1144 rfl rfl ?_
      refine am_iload_n dL_law_1145 rfl rfl ?_
      refine am_iconst (v := 2) dL_law_1146 rfl rfl ?_
      refine am_iadd dL_law_1147 rfl ?_
      refine am_sld dL_law_1148 rfl hf (fun x226 _ hf => ?_)
      refine am_aload_n dL_law_1149 rfl rfl ?_
      refine am_iload_n dL_law_1150 rfl rfl ?_
      refine am_iconst (v := 3) dL_law_1151 rfl rfl ?_
      refine am_iadd dL_law_1152 rfl ?_
      refine am_sld dL_law_1153 rfl hf (fun x227 _ hf => ?_)
      refine am_aload_n dL_law_1154 rfl rfl ?_
      refine am_iload_n dL_law_1155 rfl rfl ?_
      refine am_iconst (v := 4) dL_law_1156 rfl rfl ?_
      refine am_iadd dL_law_1157 rfl ?_
      refine am_sld dL_law_1158 rfl hf (fun x228 _ hf => ?_)
      refine am_aload_n dL_law_1159 rfl rfl ?_
      refine am_iload_n dL_law_1160 rfl rfl ?_
      refine am_iconst (v := 5) dL_law_1161 rfl rfl ?_
      refine am_iadd dL_law_1162 rfl ?_
      refine am_sld dL_law_1163 rfl hf (fun x229 _ hf => ?_)
      refine am_cVi (As := [.int x225, .int x226, .int x227, .int x228, .int x229]) (st := []) lk_L_law_118 rfl (Nat.le_of_ble_eq_true rfl) (Nat.le_of_ble_eq_true rfl) rfl dL_law_1164 rfl hf (fun b231 y230 hf => sfX8_sought b231 _ _ _ _ _ _ y230 hf) (fun b231 y230 _ _ hf => ?_)
      refine am_aload_n dL_law_1167 rfl rfl ?_
      refine am_aload_n dL_law_1168 rfl rfl ?_
      refine am_iload_n dL_law_1169 rfl rfl ?_
      refine am_iconst (v := 1) dL_law_1170 rfl rfl ?_
      refine am_iadd dL_law_1171 rfl ?_
      refine am_sld dL_law_1172 rfl hf (fun x232 _ hf => ?_)
      refine am_aload_n dL_law_1173 rfl rfl ?_
      refine am_iload_n dL_law_1174 rfl rfl ?_
      refine am_iconst (v := 2) dL_law_1175 rfl rfl ?_
      refine am_iadd dL_law_1176 rfl ?_
      refine am_sld dL_law_1177 rfl hf (fun x233 _ hf => ?_)
      refine am_aload_n dL_law_1178 rfl rfl ?_
      refine am_iload_n dL_law_1179 rfl rfl ?_
      refine am_iconst (v := 3) dL_law_1180 rfl rfl ?_
      refine am_iadd dL_law_1181 rfl ?_
      refine am_sld dL_law_1182 rfl hf (fun x234 _ hf => ?_)
      refine am_aload_n dL_law_1183 rfl rfl ?_
      refine am_iload_n dL_law_1184 rfl rfl ?_
      refine am_iconst (v := 4) dL_law_1185 rfl rfl ?_
      refine am_iadd dL_law_1186 rfl ?_
      refine am_sld dL_law_1187 rfl hf (fun x235 _ hf => ?_)
      refine am_aload_n dL_law_1188 rfl rfl ?_
      refine am_iload_n dL_law_1189 rfl rfl ?_
      refine am_iconst (v := 5) dL_law_1190 rfl rfl ?_
      refine am_iadd dL_law_1191 rfl ?_
      refine am_sld dL_law_1192 rfl hf (fun x236 _ hf => ?_)
      refine am_cVi (As := [.int x232, .int x233, .int x234, .int x235, .int x236]) (st := [.int y230.1]) lk_L_law_121 rfl (Nat.le_of_ble_eq_true rfl) (Nat.le_of_ble_eq_true rfl) rfl dL_law_1193 rfl hf (fun b238 y237 hf => sfX9_sought b238 _ _ _ _ _ _ y237 hf) (fun b238 y237 _ _ hf => ?_)
      refine am_icmp_eq (tgt := 1443) dL_law_1196 (by decide) rfl hf (fun hf => ?_) (fun hf => ?_)
      · exact (sfS_law_1443 ih) _ _ _ _ _ hf
      refine am_iconst (v := 0) dL_law_1199 rfl rfl ?_
      exact am_zret rfl dL_law_1200 hf
    refine am_swc hf (fun hf => ?_) (fun hf => ?_)
    · refine am_aload_n dL_law_1201 rfl rfl ?_
      refine am_aload_n dL_law_1202 rfl rfl ?_
      refine am_iload_n dL_law_1203 rfl rfl ?_
      refine am_iconst (v := 1) dL_law_1204 rfl rfl ?_
      refine am_iadd dL_law_1205 rfl ?_
      refine am_sld dL_law_1206 rfl hf (fun x239 _ hf => ?_)
      refine am_aload_n dL_law_1207 rfl rfl ?_
      refine am_iload_n dL_law_1208 rfl rfl ?_
      refine am_iconst (v := 2) dL_law_1209 rfl rfl ?_
      refine am_iadd dL_law_1210 rfl ?_
      refine am_sld dL_law_1211 rfl hf (fun x240 _ hf => ?_)
      refine am_aload_n dL_law_1212 rfl rfl ?_
      refine am_iload_n dL_law_1213 rfl rfl ?_
      refine am_iconst (v := 3) dL_law_1214 rfl rfl ?_
      refine am_iadd dL_law_1215 rfl ?_
      refine am_sld dL_law_1216 rfl hf (fun x241 _ hf => ?_)
      refine am_aload_n dL_law_1217 rfl rfl ?_
      refine am_iload_n dL_law_1218 rfl rfl ?_
      refine am_iconst (v := 4) dL_law_1219 rfl rfl ?_
      refine am_iadd dL_law_1220 rfl ?_
      refine am_sld dL_law_1221 rfl hf (fun x242 _ hf => ?_)
      refine am_cVi (As := [.int x239, .int x240, .int x241, .int x242]) (st := []) lk_L_law_122 rfl (Nat.le_of_ble_eq_true rfl) (Nat.le_of_ble_eq_true rfl) rfl dL_law_1222 rfl hf (fun b244 y243 hf => sfX8_lost b244 _ _ _ _ _ y243 hf) (fun b244 y243 _ _ hf => ?_)
      refine am_aload_n dL_law_1225 rfl rfl ?_
      refine am_aload_n dL_law_1226 rfl rfl ?_
      refine am_iload_n dL_law_1227 rfl rfl ?_
      refine am_iconst (v := 1) dL_law_1228 rfl rfl ?_
      refine am_iadd dL_law_1229 rfl ?_
      refine am_sld dL_law_1230 rfl hf (fun x245 _ hf => ?_)
      refine am_aload_n dL_law_1231 rfl rfl ?_
      refine am_iload_n dL_law_1232 rfl rfl ?_
      refine am_iconst (v := 2) dL_law_1233 rfl rfl ?_
      refine am_iadd dL_law_1234 rfl ?_
      refine am_sld dL_law_1235 rfl hf (fun x246 _ hf => ?_)
      refine am_aload_n dL_law_1236 rfl rfl ?_
      refine am_iload_n dL_law_1237 rfl rfl ?_
      refine am_iconst (v := 3) dL_law_1238 rfl rfl ?_
      refine am_iadd dL_law_1239 rfl ?_
      refine am_sld dL_law_1240 rfl hf (fun x247 _ hf => ?_)
      refine am_aload_n dL_law_1241 rfl rfl ?_
      refine am_iload_n dL_law_1242 rfl rfl ?_
      refine am_iconst (v := 4) dL_law_1243 rfl rfl ?_
      refine am_iadd dL_law_1244 rfl ?_
      refine am_sld dL_law_1245 rfl hf (fun x248 _ hf => ?_)
      refine am_cVi (As := [.int x245, .int x246, .int x247, .int x248]) (st := [.int y243.1]) lk_L_law_125 rfl (Nat.le_of_ble_eq_true rfl) (Nat.le_of_ble_eq_true rfl) rfl dL_law_1246 rfl hf (fun b250 y249 hf => sfX9_lost b250 _ _ _ _ _ y249 hf) (fun b250 y249 _ _ hf => ?_)
      refine am_icmp_eq (tgt := 1443) dL_law_1249 (by decide) rfl hf (fun hf => ?_) (fun hf => ?_)
      · exact (sfS_law_1443 ih) _ _ _ _ _ hf
      refine am_iconst (v := 0) dL_law_1252 rfl rfl ?_
      exact am_zret rfl dL_law_1253 hf
    refine am_swc hf (fun hf => ?_) (fun hf => ?_)
    · refine am_aload_n dL_law_1254 rfl rfl ?_
      refine am_aload_n dL_law_1255 rfl rfl ?_
      refine am_iload_n dL_law_1256 rfl rfl ?_
      refine am_iconst (v := 1) dL_law_1257 rfl rfl ?_
      refine am_iadd dL_law_1258 rfl ?_
      refine am_sld dL_law_1259 rfl hf (fun x251 _ hf => ?_)
      refine am_aload_n dL_law_1260 rfl rfl ?_
      refine am_iload_n dL_law_1261 rfl rfl ?_
      refine am_iconst (v := 2) dL_law_1262 rfl rfl ?_
      refine am_iadd dL_law_1263 rfl ?_
      refine am_sld dL_law_1264 rfl hf (fun x252 _ hf => ?_)
      refine am_aload_n dL_law_1265 rfl rfl ?_
      refine am_iload_n dL_law_1266 rfl rfl ?_
      refine am_iconst (v := 3) dL_law_1267 rfl rfl ?_
      refine am_iadd dL_law_1268 rfl ?_
      refine am_sld dL_law_1269 rfl hf (fun x253 _ hf => ?_)
      refine am_aload_n dL_law_1270 rfl rfl ?_
      refine am_iload_n dL_law_1271 rfl rfl ?_
      refine am_iconst (v := 4) dL_law_1272 rfl rfl ?_
      refine am_iadd dL_law_1273 rfl ?_
      refine am_sld dL_law_1274 rfl hf (fun x254 _ hf => ?_)
      refine am_aload_n dL_law_1275 rfl rfl ?_
      refine am_iload_n dL_law_1276 rfl rfl ?_
      refine am_iconst (v := 5) dL_law_1277 rfl rfl ?_
      refine am_iadd dL_law_1278 rfl ?_
      refine am_sld dL_law_1279 rfl hf (fun x255 _ hf => ?_)
      refine am_cVi (As := [.int x251, .int x252, .int x253, .int x254, .int x255]) (st := []) lk_L_law_126 rfl (Nat.le_of_ble_eq_true rfl) (Nat.le_of_ble_eq_true rfl) rfl dL_law_1280 rfl hf (fun b257 y256 hf => sfX8_span b257 _ _ _ _ _ _ y256 hf) (fun b257 y256 _ _ hf => ?_)
      refine am_aload_n dL_law_1283 rfl rfl ?_
      refine am_aload_n dL_law_1284 rfl rfl ?_
      refine am_iload_n dL_law_1285 rfl rfl ?_
      refine am_iconst (v := 1) dL_law_1286 rfl rfl ?_
      refine am_iadd dL_law_1287 rfl ?_
      refine am_sld dL_law_1288 rfl hf (fun x258 _ hf => ?_)
      refine am_aload_n dL_law_1289 rfl rfl ?_
      refine am_iload_n dL_law_1290 rfl rfl ?_
      refine am_iconst (v := 2) dL_law_1291 rfl rfl ?_
      refine am_iadd dL_law_1292 rfl ?_
      refine am_sld dL_law_1293 rfl hf (fun x259 _ hf => ?_)
      refine am_aload_n dL_law_1294 rfl rfl ?_
      refine am_iload_n dL_law_1295 rfl rfl ?_
      refine am_iconst (v := 3) dL_law_1296 rfl rfl ?_
      refine am_iadd dL_law_1297 rfl ?_
      refine am_sld dL_law_1298 rfl hf (fun x260 _ hf => ?_)
      refine am_aload_n dL_law_1299 rfl rfl ?_
      refine am_iload_n dL_law_1300 rfl rfl ?_
      refine am_iconst (v := 4) dL_law_1301 rfl rfl ?_
      refine am_iadd dL_law_1302 rfl ?_
      refine am_sld dL_law_1303 rfl hf (fun x261 _ hf => ?_)
      refine am_aload_n dL_law_1304 rfl rfl ?_
      refine am_iload_n dL_law_1305 rfl rfl ?_
      refine am_iconst (v := 5) dL_law_1306 rfl rfl ?_
      refine am_iadd dL_law_1307 rfl ?_
      refine am_sld dL_law_1308 rfl hf (fun x262 _ hf => ?_)
      refine am_cVi (As := [.int x258, .int x259, .int x260, .int x261, .int x262]) (st := [.int y256.1]) lk_L_law_129 rfl (Nat.le_of_ble_eq_true rfl) (Nat.le_of_ble_eq_true rfl) rfl dL_law_1309 rfl hf (fun b264 y263 hf => sfX9_span b264 _ _ _ _ _ _ y263 hf) (fun b264 y263 _ _ hf => ?_)
      refine am_icmp_eq (tgt := 1443) dL_law_1312 (by decide) rfl hf (fun hf => ?_) (fun hf => ?_)
      · exact (sfS_law_1443 ih) _ _ _ _ _ hf
      refine am_iconst (v := 0) dL_law_1315 rfl rfl ?_
      exact am_zret rfl dL_law_1316 hf
    refine am_swc hf (fun hf => ?_) (fun hf => ?_)
    · refine am_aload_n dL_law_1317 rfl rfl ?_
      refine am_aload_n dL_law_1318 rfl rfl ?_
      refine am_iload_n dL_law_1319 rfl rfl ?_
      refine am_iconst (v := 1) dL_law_1320 rfl rfl ?_
      refine am_iadd dL_law_1321 rfl ?_
      refine am_sld dL_law_1322 rfl hf (fun x265 _ hf => ?_)
      refine am_aload_n dL_law_1323 rfl rfl ?_
      refine am_iload_n dL_law_1324 rfl rfl ?_
      refine am_iconst (v := 2) dL_law_1325 rfl rfl ?_
      refine am_iadd dL_law_1326 rfl ?_
      refine am_sld dL_law_1327 rfl hf (fun x266 _ hf => ?_)
      refine am_aload_n dL_law_1328 rfl rfl ?_
      refine am_iload_n dL_law_1329 rfl rfl ?_
      refine am_iconst (v := 3) dL_law_1330 rfl rfl ?_
      refine am_iadd dL_law_1331 rfl ?_
      refine am_sld dL_law_1332 rfl hf (fun x267 _ hf => ?_)
      refine am_aload_n dL_law_1333 rfl rfl ?_
      refine am_iload_n dL_law_1334 rfl rfl ?_
      refine am_iconst (v := 4) dL_law_1335 rfl rfl ?_
      refine am_iadd dL_law_1336 rfl ?_
      refine am_sld dL_law_1337 rfl hf (fun x268 _ hf => ?_)
      refine am_aload_n dL_law_1338 rfl rfl ?_
      refine am_iload_n dL_law_1339 rfl rfl ?_
      refine am_iconst (v := 5) dL_law_1340 rfl rfl ?_
      refine am_iadd dL_law_1341 rfl ?_
      refine am_sld dL_law_1342 rfl hf (fun x269 _ hf => ?_)
      refine am_cVi (As := [.int x265, .int x266, .int x267, .int x268, .int x269]) (st := []) lk_L_law_130 rfl (Nat.le_of_ble_eq_true rfl) (Nat.le_of_ble_eq_true rfl) rfl dL_law_1343 rfl hf (fun b271 y270 hf => sfX8_record b271 _ _ _ _ _ _ y270 hf) (fun b271 y270 _ _ hf => ?_)
      refine am_aload_n dL_law_1346 rfl rfl ?_
      refine am_aload_n dL_law_1347 rfl rfl ?_
      refine am_iload_n dL_law_1348 rfl rfl ?_
      refine am_iconst (v := 1) dL_law_1349 rfl rfl ?_
      refine am_iadd dL_law_1350 rfl ?_
      refine am_sld dL_law_1351 rfl hf (fun x272 _ hf => ?_)
      refine am_aload_n dL_law_1352 rfl rfl ?_
      refine am_iload_n dL_law_1353 rfl rfl ?_
      refine am_iconst (v := 2) dL_law_1354 rfl rfl ?_
      refine am_iadd dL_law_1355 rfl ?_
      refine am_sld dL_law_1356 rfl hf (fun x273 _ hf => ?_)
      refine am_aload_n dL_law_1357 rfl rfl ?_
      refine am_iload_n dL_law_1358 rfl rfl ?_
      refine am_iconst (v := 3) dL_law_1359 rfl rfl ?_
      refine am_iadd dL_law_1360 rfl ?_
      refine am_sld dL_law_1361 rfl hf (fun x274 _ hf => ?_)
      refine am_aload_n dL_law_1362 rfl rfl ?_
      refine am_iload_n dL_law_1363 rfl rfl ?_
      refine am_iconst (v := 4) dL_law_1364 rfl rfl ?_
      refine am_iadd dL_law_1365 rfl ?_
      refine am_sld dL_law_1366 rfl hf (fun x275 _ hf => ?_)
      refine am_aload_n dL_law_1367 rfl rfl ?_
      refine am_iload_n dL_law_1368 rfl rfl ?_
      refine am_iconst (v := 5) dL_law_1369 rfl rfl ?_
      refine am_iadd dL_law_1370 rfl ?_
      refine am_sld dL_law_1371 rfl hf (fun x276 _ hf => ?_)
      refine am_cVi (As := [.int x272, .int x273, .int x274, .int x275, .int x276]) (st := [.int y270.1]) lk_L_law_133 rfl (Nat.le_of_ble_eq_true rfl) (Nat.le_of_ble_eq_true rfl) rfl dL_law_1372 rfl hf (fun b278 y277 hf => sfX9_record b278 _ _ _ _ _ _ y277 hf) (fun b278 y277 _ _ hf => ?_)
      refine am_icmp_eq (tgt := 1443) dL_law_1375 (by decide) rfl hf (fun hf => ?_) (fun hf => ?_)
      · exact (sfS_law_1443 ih) _ _ _ _ _ hf
      refine am_iconst (v := 0) dL_law_1378 rfl rfl ?_
      exact am_zret rfl dL_law_1379 hf
    refine am_swc hf (fun hf => ?_) (fun hf => ?_)
    · refine am_aload_n dL_law_1380 rfl rfl ?_
      refine am_cVi (As := []) (st := []) lk_L_law_134 rfl (Nat.le_of_ble_eq_true rfl) (Nat.le_of_ble_eq_true rfl) rfl dL_law_1381 rfl hf (fun b280 y279 hf => sfX8_image b280  _ y279 hf) (fun b280 y279 _ _ hf => ?_)
      refine am_aload_n dL_law_1384 rfl rfl ?_
      refine am_cVi (As := []) (st := [.int y279.1]) lk_L_law_137 rfl (Nat.le_of_ble_eq_true rfl) (Nat.le_of_ble_eq_true rfl) rfl dL_law_1385 rfl hf (fun b282 y281 hf => sfX9_image b282  _ y281 hf) (fun b282 y281 _ _ hf => ?_)
      refine am_icmp_eq (tgt := 1443) dL_law_1388 (by decide) rfl hf (fun hf => ?_) (fun hf => ?_)
      · exact (sfS_law_1443 ih) _ _ _ _ _ hf
      refine am_iconst (v := 0) dL_law_1391 rfl rfl ?_
      exact am_zret rfl dL_law_1392 hf
    refine am_swc hf (fun hf => ?_) (fun hf => ?_)
    · refine am_aload_n dL_law_1393 rfl rfl ?_
      refine am_cVi (As := []) (st := []) lk_L_law_138 rfl (Nat.le_of_ble_eq_true rfl) (Nat.le_of_ble_eq_true rfl) rfl dL_law_1394 rfl hf (fun b284 y283 hf => sfX8_restore b284  _ y283 hf) (fun b284 y283 _ _ hf => ?_)
      refine am_aload_n dL_law_1397 rfl rfl ?_
      refine am_cVi (As := []) (st := [.int y283.1]) lk_L_law_141 rfl (Nat.le_of_ble_eq_true rfl) (Nat.le_of_ble_eq_true rfl) rfl dL_law_1398 rfl hf (fun b286 y285 hf => sfX9_restore b286  _ y285 hf) (fun b286 y285 _ _ hf => ?_)
      refine am_icmp_eq (tgt := 1443) dL_law_1401 (by decide) rfl hf (fun hf => ?_) (fun hf => ?_)
      · exact (sfS_law_1443 ih) _ _ _ _ _ hf
      refine am_iconst (v := 0) dL_law_1404 rfl rfl ?_
      exact am_zret rfl dL_law_1405 hf
    refine am_swc hf (fun hf => ?_) (fun hf => ?_)
    · refine am_aload_n dL_law_1406 rfl rfl ?_
      refine am_aload_n dL_law_1407 rfl rfl ?_
      refine am_iload_n dL_law_1408 rfl rfl ?_
      refine am_iconst (v := 1) dL_law_1409 rfl rfl ?_
      refine am_iadd dL_law_1410 rfl ?_
      refine am_sld dL_law_1411 rfl hf (fun x287 _ hf => ?_)
      refine am_cVi (As := [.int x287]) (st := []) lk_L_law_142 rfl (Nat.le_of_ble_eq_true rfl) (Nat.le_of_ble_eq_true rfl) rfl dL_law_1412 rfl hf (fun b289 y288 hf => sfX8_count b289 _ _ y288 hf) (fun b289 y288 _ _ hf => ?_)
      refine am_aload_n dL_law_1415 rfl rfl ?_
      refine am_aload_n dL_law_1416 rfl rfl ?_
      refine am_iload_n dL_law_1417 rfl rfl ?_
      refine am_iconst (v := 1) dL_law_1418 rfl rfl ?_
      refine am_iadd dL_law_1419 rfl ?_
      refine am_sld dL_law_1420 rfl hf (fun x290 _ hf => ?_)
      refine am_cVi (As := [.int x290]) (st := [.int y288.1]) lk_L_law_145 rfl (Nat.le_of_ble_eq_true rfl) (Nat.le_of_ble_eq_true rfl) rfl dL_law_1421 rfl hf (fun b292 y291 hf => sfX9_count b292 _ _ y291 hf) (fun b292 y291 _ _ hf => ?_)
      refine am_icmp_eq (tgt := 1443) dL_law_1424 (by decide) rfl hf (fun hf => ?_) (fun hf => ?_)
      · exact (sfS_law_1443 ih) _ _ _ _ _ hf
      refine am_iconst (v := 0) dL_law_1427 rfl rfl ?_
      exact am_zret rfl dL_law_1428 hf
    refine am_swc hf (fun hf => ?_) (fun hf => ?_)
    · refine am_aload_n dL_law_1429 rfl rfl ?_
      refine am_cVl (As := []) (st := []) lk_L_law_146 rfl (Nat.le_of_ble_eq_true rfl) (Nat.le_of_ble_eq_true rfl) rfl dL_law_1430 rfl hf (fun b294 y293 hf => sfX8_digest b294  _ y293 hf) (fun b294 y293 _ _ hf => ?_)
      refine am_aload_n dL_law_1433 rfl rfl ?_
      refine am_cVl (As := []) (st := [.long y293.1]) lk_L_law_150 rfl (Nat.le_of_ble_eq_true rfl) (Nat.le_of_ble_eq_true rfl) rfl dL_law_1434 rfl hf (fun b296 y295 hf => sfX9_digest b296  _ y295 hf) (fun b296 y295 _ _ hf => ?_)
      refine am_lcmp dL_law_1437 rfl ?_
      refine am_if_eq (tgt := 1443) dL_law_1438 (by decide) rfl hf (fun hf => ?_) (fun hf => ?_)
      · exact (sfS_law_1443 ih) _ _ _ _ _ hf
      refine am_iconst (v := 0) dL_law_1441 rfl rfl ?_
      exact am_zret rfl dL_law_1442 hf
    show am_S _ _ 1443 _ _ _ _ _
    exact (sfS_law_1443 ih) _ _ _ _ _ hf
