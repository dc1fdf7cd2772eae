/-! digest: the reference; the call -/
def mJ (J : Nat → Nat → Int64) (y : Int64) : Nat → Nat → Int64 := pu_row J 40 (vp_updL (J 40) 75 y)
theorem mJ_v {J : Nat → Nat → Int64} {y : Int64} : mJ J y 40 75 = y := by
  unfold mJ
  rw [pu_row_s]
  exact if_pos rfl
section DM
variable {s : Nat → Option pu_S} {I : Nat → Nat → Int32} {P : Nat → Nat → Option Nat} {J : Nat → Nat → Int64} {n : Nat × Nat}
variable {Z : S_Z} {i : Nat}
theorem mix_b {ρ : Type} (hW : pu_W s P) (x : Int32) (F : am_H → Option ρ) : (fX9_mix 40 (Int32.toInt64 x) (pu_hp s I P J n)).bind F = F (pu_hp s I P (mJ J (mx (J 40 75) x)) n) := by
  have h40 := hW.1 40 _ rfl
  unfold fX9_mix
  rw [gl_b h40 rfl, pu_pl h40 rfl]
  rfl
theorem asT_e {X : S_X} {K : S_K} {t : Nat} (hX : S_XB K t X) (ht : t ≤ 96) {b : Nat} (h : am_H) : fX9_asTick (nI (dN X b)) h = some (dI X b, h) := by
  unfold fX9_asTick dN dI
  by_cases hb : b < xdr X
  · have := hX.2.2.2.2.2.2.2.2.2 b hb
    rw [if_pos hb, if_pos hb, if_neg (show ¬ nI (xD X b) = (96 : Int32) from fun q => by
      have := (nI_eq (b := 96) (by omega) (by omega)).mp q
      omega)]
  · rw [if_neg hb, if_neg hb]; rfl
set_option maxHeartbeats 4000000 in
set_option maxRecDepth 100000 in
theorem m_d167 {p : S_P} (hW : pu_W s P) {nw : Nat} {V : Nat → S_W} {hd : Option Nat} (hp : PM I nw V hd p) (hf : pf p ≤ 1000) : ∀ (m k N : Nat) (J : Nat → Nat → Int64), k + m = 4 → m < N → Rn (fX9_mixClock_167 N (some 40) (nI k) (pu_hp s I P J n)) fun h => ∃ J', h = pu_hp s I P J' n ∧ J' 40 75 = mxG (gKs p) m k (J 40 75) := by
  have h40 := hW.1 40 _ rfl
  intro m
  induction m with
  | zero =>
    intro k N J hk hN
    obtain ⟨N, rfl⟩ : ∃ N', N = N' + 1 := ⟨N - 1, by omega⟩
    obtain rfl : k = 4 := by omega
    show Rn (fX9_mixClock_167_b _ _ _ _) _
    unfold fX9_mixClock_167_b
    rw [if_pos (show (4 : Int32) ≤ nI 4 by decide)]
    exact Rn_some ⟨J, rfl, rfl⟩
  | succ m ih =>
    intro k N J hk hN
    obtain ⟨N, rfl⟩ : ∃ N', N = N' + 1 := ⟨N - 1, by omega⟩
    show Rn (fX9_mixClock_167_b (fX9_mixClock_167 N) _ _ _) _
    unfold fX9_mixClock_167_b
    rw [if_neg (show ¬ (4 : Int32) ≤ nI k by rw [il_f (by show k < 4; omega) (by decide)]; exact id), rc_b h40, m_shown hW hp (Or.inl (show k ≤ 3 by omega)) hf]
    dsimp only [Option.bind_some]
    rw [rc_b h40, mix_b hW, nI_1]
    refine Rn_mono (ih (k + 1) N _ (by omega) (by omega)) ?_
    rintro _ ⟨J', rfl, a1⟩
    exact ⟨J', rfl, by rw [a1, mJ_v]; rfl⟩
set_option maxHeartbeats 4000000 in
set_option maxRecDepth 100000 in
theorem m_d130 (hZ : Z_B Z) (hi : i < znc Z) (h : InvM s I P Z) (h70 : ∀ b, b < 12 → I 70 b = nI (dN (gX Z i) b)) : ∀ (m k N : Nat) (J : Nat → Nat → Int64), k + m = knb (zK Z i) → m < N → Rn (fX9_mixClock_130 N (some 40) (nI i) (nI k) (pu_hp s I P J n)) fun h => ∃ I' J', h = pu_hp s I' P J' n ∧ J' 40 75 = gK5 Z i (mxG (gKd (gX Z i)) m k (J 40 75)) ∧ ∀ b j, ¬ scM b j → I' b j = I b j := by
  have hW := h.1
  have h40 := hW.1 40 _ rfl
  have hnc := hZ.1.1
  have hK := (hZ.1.2 i hi).1
  have hnb := hK.2.2.2.2.2.1
  have hq0 : ∀ k, (none : Option Nat) = some k → k < znf Z := fun k q => by cases q
  have hF := oF_B (q := none) hZ hq0
  have e48 := (h.2.2.2.1 i hi).1.2.2.2.1
  have hX : S_XB (zK Z i) 96 (gX Z i) := S_at_b hK hF 96
  intro m
  induction m with
  | zero =>
    intro k N J hk hN
    obtain ⟨N, rfl⟩ : ∃ N', N = N' + 1 := ⟨N - 1, by omega⟩
    obtain rfl : k = knb (zK Z i) := by omega
    show Rn (fX9_mixClock_130_b _ _ _ _ _) _
    unfold fX9_mixClock_130_b
    rw [gr40_8 hW, al_b (pu_okI (hW.1 48 _ rfl) (by omega) (by omega)), e48, if_pos (show nI (knb (zK Z i)) ≤ nI (knb (zK Z i)) from Int32.le_refl _), rc_b h40]
    refine Rn_bind (m_show hZ h hi (j := 0) (by omega) hq0 h70) ?_
    rintro _ ⟨I2, rfl, f2, hp⟩
    obtain ⟨hB, h1⟩ := S_play_b (w := tw (zT Z) 0) hZ.2.2.1.2 hZ.2.2.1.1 hZ.2.2.2.1.2.2 hK hF 96 (Nat.le_refl _)
    have hfb : pf (gY Z i) ≤ 1000 := by
      obtain ⟨b3, b3'⟩ := hB.2.2.1
      have h0 := b3' 0
      have h1 := b3' 1
      have h2 := b3' 2
      have h3 := b3' 3
      unfold S_d4 at b3
      show pf (S_play (zW Z) (th (zT Z)) (dm (zK Z i) (oF Z none) (tw (zT Z) 0)) 96) ≤ 1000
      omega
    rw [show (0 : Int32) = nI 0 from rfl]
    refine Rn_mono (m_d167 (p := gY Z i) hW hp hfb 4 0 am_fu J (by omega) (by unfold am_fu; omega)) ?_
    rintro _ ⟨J', rfl, a1⟩
    exact ⟨I2, J', rfl, a1, fun b j q => f2 b j (by unfold scM at q; omega) (by unfold scM at q; omega)⟩
  | succ m ih =>
    intro k N J hk hN
    obtain ⟨N, rfl⟩ : ∃ N', N = N' + 1 := ⟨N - 1, by omega⟩
    show Rn (fX9_mixClock_130_b (fX9_mixClock_130 N) _ _ _ _) _
    unfold fX9_mixClock_130_b
    rw [gr40_8 hW, al_b (pu_okI (hW.1 48 _ rfl) (by omega) (by omega)), e48, if_neg (show ¬ nI (knb (zK Z i)) ≤ nI k by rw [nn_le_f (by omega) (by omega)]; exact id), gr40_56 hW, al_b (pu_okI (hW.1 70 _ rfl) (by omega) (by omega)), h70 k (by omega), asT_e hX (by omega)]
    dsimp only [Option.bind_some]
    rw [rc_b h40, mix_b hW, nI_1]
    refine Rn_mono (ih (k + 1) N _ (by omega) (by omega)) ?_
    rintro _ ⟨I', J', rfl, a1, a2⟩
    exact ⟨I', J', rfl, by rw [a1, mJ_v]; rfl, a2⟩
set_option maxHeartbeats 4000000 in
set_option maxRecDepth 100000 in
theorem m_d89 (hZ : Z_B Z) (hi : i < znc Z) (h : InvM s I P Z) : ∀ (m k N : Nat) (J : Nat → Nat → Int64), k + m = knb (zK Z i) → m < N → Rn (fX9_mixClock_89 N (some 40) (nI i) (nI k) (pu_hp s I P J n)) fun h => ∃ I' J', h = pu_hp s I' P J' n ∧ J' 40 75 = gK4 Z i (mxG (gKb (zK Z i)) m k (J 40 75)) ∧ ∀ b j, ¬ scM b j → I' b j = I b j := by
  have hW := h.1
  have h40 := hW.1 40 _ rfl
  have hnc := hZ.1.1
  have hK := (hZ.1.2 i hi).1
  have hnb := hK.2.2.2.2.2.1
  have hq0 : ∀ k, (none : Option Nat) = some k → k < znf Z := fun k q => by cases q
  have e48 := (h.2.2.2.1 i hi).1.2.2.2.1
  have e49 := (h.2.2.2.1 i hi).1.2.2.2.2.2
  intro m
  induction m with
  | zero =>
    intro k N J hk hN
    obtain ⟨N, rfl⟩ : ∃ N', N = N' + 1 := ⟨N - 1, by omega⟩
    obtain rfl : k = knb (zK Z i) := by omega
    show Rn (fX9_mixClock_89_b _ _ _ _ _) _
    unfold fX9_mixClock_89_b
    rw [gr40_8 hW, al_b (pu_okI (hW.1 48 _ rfl) (by omega) (by omega)), e48, if_pos (show nI (knb (zK Z i)) ≤ nI (knb (zK Z i)) from Int32.le_refl _), rc_b h40, show (0 : Int32) = nI 0 from rfl, show (-1 : Int32) = oI none from rfl]
    refine Rn_bind (m_runAll hZ h hi (by omega) hq0) ?_
    rintro _ ⟨I1, rfl, f1, g1, hI⟩
    refine Rn_mono (m_d130 hZ hi g1 (fun b hb => hI.2.2.2.2.2.2.2 b hb) (knb (zK Z i)) 0 am_fu J (by omega) (by unfold am_fu; omega)) ?_
    rintro _ ⟨I', J', rfl, a1, a2⟩
    exact ⟨I', J', rfl, a1, fun b j q => by rw [a2 b j q, f1 b j q]⟩
  | succ m ih =>
    intro k N J hk hN
    obtain ⟨N, rfl⟩ : ∃ N', N = N' + 1 := ⟨N - 1, by omega⟩
    show Rn (fX9_mixClock_89_b (fX9_mixClock_89 N) _ _ _ _) _
    unfold fX9_mixClock_89_b
    rw [gr40_8 hW, al_b (pu_okI (hW.1 48 _ rfl) (by omega) (by omega)), e48, if_neg (show ¬ nI (knb (zK Z i)) ≤ nI k by rw [nn_le_f (by omega) (by omega)]; exact id), gr40_9 hW, al_12 (pu_okI (hW.1 49 _ rfl) (by omega) (by omega)), e49 k (by omega), rc_b h40, mix_b hW, nI_1]
    refine Rn_mono (ih (k + 1) N _ (by omega) (by omega)) ?_
    rintro _ ⟨I', J', rfl, a1, a2⟩
    exact ⟨I', J', rfl, by rw [a1, mJ_v]; rfl, a2⟩
set_option maxHeartbeats 4000000 in
set_option maxRecDepth 100000 in
theorem m_d26 (hZ : Z_B Z) (hi : i < znc Z) (h : InvM s I P Z) : ∀ (m k N : Nat) (J : Nat → Nat → Int64), k + m = kn (zK Z i) → m < N → Rn (fX9_mixClock_26 N (some 40) (nI i) (nI k) (pu_hp s I P J n)) fun h => ∃ I' J', h = pu_hp s I' P J' n ∧ J' 40 75 = gK3 Z i (mxG (gKv (zK Z i)) m k (J 40 75)) ∧ ∀ b j, ¬ scM b j → I' b j = I b j := by
  have hW := h.1
  have h40 := hW.1 40 _ rfl
  have hnc := hZ.1.1
  have hK := (hZ.1.2 i hi).1
  have hkn := hK.1.2
  have hnb := hK.2.2.2.2.2.1
  have e41 := (h.2.2.2.1 i hi).1.1
  have e42 := (h.2.2.2.1 i hi).1.2.2.2.2.1
  have e44 := (h.2.2.2.1 i hi).2.2
  intro m
  induction m with
  | zero =>
    intro k N J hk hN
    obtain ⟨N, rfl⟩ : ∃ N', N = N' + 1 := ⟨N - 1, by omega⟩
    obtain rfl : k = kn (zK Z i) := by omega
    show Rn (fX9_mixClock_26_b _ _ _ _ _) _
    unfold fX9_mixClock_26_b
    rw [gr40_1 hW, al_b (pu_okI (hW.1 41 _ rfl) (by omega) (by omega)), e41, if_pos (show nI (kn (zK Z i)) ≤ nI (kn (zK Z i)) from Int32.le_refl _), show (0 : Int32) = nI 0 from rfl]
    exact m_d89 hZ hi h (knb (zK Z i)) 0 am_fu J (by omega) (by unfold am_fu; omega)
  | succ m ih =>
    intro k N J hk hN
    obtain ⟨N, rfl⟩ : ∃ N', N = N' + 1 := ⟨N - 1, by omega⟩
    show Rn (fX9_mixClock_26_b (fX9_mixClock_26 N) _ _ _ _) _
    unfold fX9_mixClock_26_b
    rw [gr40_1 hW, al_b (pu_okI (hW.1 41 _ rfl) (by omega) (by omega)), e41, if_neg (show ¬ nI (kn (zK Z i)) ≤ nI k by rw [nn_le_f (by omega) (by omega)]; exact id)]
    rw [gr40_2 hW, al_3 (pu_okI (hW.1 42 _ rfl) (by omega) (by omega)), (e42 k (by omega)).1, rc_b h40, mix_b hW]
    rw [gr40_3 hW, al_3 (pu_okI (hW.1 43 _ rfl) (by omega) (by omega)), (e42 k (by omega)).2, rc_b h40, mix_b hW]
    rw [gr40_4 hW, al_3 (pu_okI (hW.1 44 _ rfl) (by omega) (by omega)), e44 k (by omega), rc_b h40, mix_b hW, nI_1]
    refine Rn_mono (ih (k + 1) N _ (by omega) (by omega)) ?_
    rintro _ ⟨I', J', rfl, a1, a2⟩
    exact ⟨I', J', rfl, by rw [a1, mJ_v, mJ_v, mJ_v]; rfl, a2⟩
set_option maxHeartbeats 4000000 in
set_option maxRecDepth 100000 in
theorem m_d2 (hZ : Z_B Z) (hi : i < znc Z) (h : InvM s I P Z) : ∀ (m k N : Nat) (J : Nat → Nat → Int64), k + m = 5 → m < N → Rn (fX9_mixClock_2 N (some 40) (nI i) (nI k) (pu_hp s I P J n)) fun h => ∃ I' J', h = pu_hp s I' P J' n ∧ J' 40 75 = gK2 Z i (mxG (gKm (zK Z i)) m k (J 40 75)) ∧ ∀ b j, ¬ scM b j → I' b j = I b j := by
  have hW := h.1
  have h40 := hW.1 40 _ rfl
  have hK := (hZ.1.2 i hi).1
  have hkn := hK.1.2
  intro m
  induction m with
  | zero =>
    intro k N J hk hN
    obtain ⟨N, rfl⟩ : ∃ N', N = N' + 1 := ⟨N - 1, by omega⟩
    obtain rfl : k = 5 := by omega
    show Rn (fX9_mixClock_2_b _ _ _ _ _) _
    unfold fX9_mixClock_2_b
    rw [if_pos (show (5 : Int32) ≤ nI 5 by decide), show (0 : Int32) = nI 0 from rfl]
    exact m_d26 hZ hi h (kn (zK Z i)) 0 am_fu J (by omega) (by unfold am_fu; omega)
  | succ m ih =>
    intro k N J hk hN
    obtain ⟨N, rfl⟩ : ∃ N', N = N' + 1 := ⟨N - 1, by omega⟩
    show Rn (fX9_mixClock_2_b (fX9_mixClock_2 N) _ _ _ _) _
    unfold fX9_mixClock_2_b
    rw [if_neg (show ¬ (5 : Int32) ≤ nI k by rw [il_f (by show k < 5; omega) (by decide)]; exact id), rc_b h40, q_toldOf hZ h hi (Or.inl (show k ≤ 4 by omega)), tA_lo (by omega)]
    dsimp only [Option.bind_some]
    rw [rc_b h40, mix_b hW, nI_1]
    refine Rn_mono (ih (k + 1) N _ (by omega) (by omega)) ?_
    rintro _ ⟨I', J', rfl, a1, a2⟩
    exact ⟨I', J', rfl, by rw [a1, mJ_v]; rfl, a2⟩
theorem m_dC (hZ : Z_B Z) (hi : i < znc Z) (h : InvM s I P Z) : Rn (fX9_mixClock 40 (nI i) (pu_hp s I P J n)) fun h => ∃ I' J', h = pu_hp s I' P J' n ∧ J' 40 75 = gK1 Z i (J 40 75) ∧ ∀ b j, ¬ scM b j → I' b j = I b j := by
  unfold fX9_mixClock
  rw [show (0 : Int32) = nI 0 from rfl]
  exact m_d2 hZ hi h 5 0 am_fu J (by omega) (by unfold am_fu; omega)
set_option maxHeartbeats 4000000 in
set_option maxRecDepth 100000 in
theorem m_d235 (hZ : Z_B Z) (h : InvM s I P Z) : ∀ (m k N : Nat) (J : Nat → Nat → Int64), k + m = 6 → m < N → Rn (fX9_digest_235 N (some 40) (nI k) (pu_hp s I P J n)) fun y => ∃ J', y = (mxG (gHh Z) m k (J 40 75), pu_hp s I P J' n) := by
  have hW := h.1
  have h40 := hW.1 40 _ rfl
  intro m
  induction m with
  | zero =>
    intro k N J hk hN
    obtain ⟨N, rfl⟩ : ∃ N', N = N' + 1 := ⟨N - 1, by omega⟩
    obtain rfl : k = 6 := by omega
    show Rn (fX9_digest_235_b _ _ _ _) _
    unfold fX9_digest_235_b
    rw [if_pos (show (6 : Int32) ≤ nI 6 by decide), gl_b h40 rfl]
    exact Rn_some ⟨J, rfl⟩
  | succ m ih =>
    intro k N J hk hN
    obtain ⟨N, rfl⟩ : ∃ N', N = N' + 1 := ⟨N - 1, by omega⟩
    show Rn (fX9_digest_235_b (fX9_digest_235 N) _ _ _) _
    unfold fX9_digest_235_b
    rw [if_neg (show ¬ (6 : Int32) ≤ nI k by rw [il_f (by show k < 6; omega) (by decide)]; exact id), rc_b h40, q_howMany hZ h]
    dsimp only [Option.bind_some]
    rw [rc_b h40, mix_b hW, nI_1]
    refine Rn_mono (ih (k + 1) N _ (by omega) (by omega)) ?_
    rintro _ ⟨J', rfl⟩
    exact ⟨J', by rw [mJ_v]; rfl⟩
set_option maxHeartbeats 4000000 in
set_option maxRecDepth 100000 in
theorem m_d208 (hZ : Z_B Z) (h : InvM s I P Z) : ∀ (m k N : Nat) (J : Nat → Nat → Int64), k + m = zpl Z → m < N → Rn (fX9_digest_208 N (some 40) (nI k) (pu_hp s I P J n)) fun y => ∃ J', y = (dg7 Z (mxG (gPp Z) m k (J 40 75)), pu_hp s I P J' n) := by
  have hW := h.1
  have h40 := hW.1 40 _ rfl
  have h4 := hZ.2.2.2.2.2.1.1
  have e24 := h.2.1.2.2.2.2.2
  have e60 := h.2.2.1
  intro m
  induction m with
  | zero =>
    intro k N J hk hN
    obtain ⟨N, rfl⟩ : ∃ N', N = N' + 1 := ⟨N - 1, by omega⟩
    obtain rfl : k = zpl Z := by omega
    show Rn (fX9_digest_208_b _ _ _ _) _
    unfold fX9_digest_208_b
    rw [gi_b h40 rfl, e24, if_pos (show nI (zpl Z) ≤ nI (zpl Z) from Int32.le_refl _), show (0 : Int32) = nI 0 from rfl]
    exact m_d235 hZ h 6 0 am_fu J (by omega) (by unfold am_fu; omega)
  | succ m ih =>
    intro k N J hk hN
    obtain ⟨N, rfl⟩ : ∃ N', N = N' + 1 := ⟨N - 1, by omega⟩
    show Rn (fX9_digest_208_b (fX9_digest_208 N) _ _ _) _
    unfold fX9_digest_208_b
    rw [gi_b h40 rfl, e24, if_neg (show ¬ nI (zpl Z) ≤ nI k by rw [nn_le_f (by omega) (by omega)]; exact id), gr40_25 hW, al_b (pu_okI (hW.1 60 _ rfl) (by omega) (by omega)), e60 k (by omega), rc_b h40, mix_b hW, nI_1]
    refine Rn_mono (ih (k + 1) N _ (by omega) (by omega)) ?_
    rintro _ ⟨J', rfl⟩
    exact ⟨J', by rw [mJ_v]; rfl⟩
set_option maxHeartbeats 4000000 in
set_option maxRecDepth 100000 in
theorem m_d183 (hZ : Z_B Z) (h : InvM s I P Z) : ∀ (m k N : Nat) (J : Nat → Nat → Int64), k + m = 12 → m < N → Rn (fX9_digest_183 N (some 40) (nI k) (pu_hp s I P J n)) fun y => ∃ J', y = (dg6 Z (mxG (gLl Z) m k (J 40 75)), pu_hp s I P J' n) := by
  have hW := h.1
  have h40 := hW.1 40 _ rfl
  have h4 := hZ.2.2.2.2.2.1.1
  have hl := h.2.2.2.2.2.2.1.2.1
  intro m
  induction m with
  | zero =>
    intro k N J hk hN
    obtain ⟨N, rfl⟩ : ∃ N', N = N' + 1 := ⟨N - 1, by omega⟩
    obtain rfl : k = 12 := by omega
    show Rn (fX9_digest_183_b _ _ _ _) _
    unfold fX9_digest_183_b
    rw [if_pos (show (12 : Int32) ≤ nI 12 by decide), show (0 : Int32) = nI 0 from rfl]
    exact m_d208 hZ h (zpl Z) 0 am_fu J (by omega) (by unfold am_fu; omega)
  | succ m ih =>
    intro k N J hk hN
    obtain ⟨N, rfl⟩ : ∃ N', N = N' + 1 := ⟨N - 1, by omega⟩
    show Rn (fX9_digest_183_b (fX9_digest_183 N) _ _ _) _
    unfold fX9_digest_183_b
    rw [if_neg (show ¬ (12 : Int32) ≤ nI k by rw [il_f (by show k < 12; omega) (by decide)]; exact id), gr40_22 hW, al_b (pu_okI (hW.1 59 _ rfl) (by omega) (by omega)), hl k (by omega), rc_b h40, mix_b hW, nI_1]
    refine Rn_mono (ih (k + 1) N _ (by omega) (by omega)) ?_
    rintro _ ⟨J', rfl⟩
    exact ⟨J', by rw [mJ_v]; rfl⟩
set_option maxHeartbeats 4000000 in
set_option maxRecDepth 100000 in
theorem m_d125 (hZ : Z_B Z) (h : InvM s I P Z) : ∀ (m k N : Nat) (J : Nat → Nat → Int64), k + m = znw Z → m < N → Rn (fX9_digest_125 N (some 40) (nI k) (pu_hp s I P J n)) fun y => ∃ J', y = (dg5 Z (mx (mxG (gWw Z) m k (J 40 75)) (oI (th (zT Z)))), pu_hp s I P J' n) := by
  have hW := h.1
  have h40 := hW.1 40 _ rfl
  have hnw := hZ.2.2.1.1
  have e17 := h.2.1.2.2.1
  have eh := h.2.2.2.2.2.2.1.2.2
  have ew := h.2.2.2.2.2.1
  intro m
  induction m with
  | zero =>
    intro k N J hk hN
    obtain ⟨N, rfl⟩ : ∃ N', N = N' + 1 := ⟨N - 1, by omega⟩
    obtain rfl : k = znw Z := by omega
    show Rn (fX9_digest_125_b _ _ _ _) _
    unfold fX9_digest_125_b
    rw [gi_b h40 rfl, e17, if_pos (show nI (znw Z) ≤ nI (znw Z) from Int32.le_refl _), gi_b h40 rfl, eh, rc_b h40, mix_b hW, show (0 : Int32) = nI 0 from rfl]
    refine Rn_mono (m_d183 hZ h 12 0 am_fu _ (by omega) (by unfold am_fu; omega)) ?_
    rintro _ ⟨J', rfl⟩
    exact ⟨J', by rw [mJ_v]; rfl⟩
  | succ m ih =>
    intro k N J hk hN
    obtain ⟨N, rfl⟩ : ∃ N', N = N' + 1 := ⟨N - 1, by omega⟩
    obtain ⟨w1, w2, w3⟩ := ew k (by omega)
    show Rn (fX9_digest_125_b (fX9_digest_125 N) _ _ _) _
    unfold fX9_digest_125_b
    rw [gi_b h40 rfl, e17, if_neg (show ¬ nI (znw Z) ≤ nI k by rw [nn_le_f (by omega) (by omega)]; exact id)]
    rw [gr40_18 hW, al_b (pu_okI (hW.1 56 _ rfl) (by omega) (by omega)), w1, rc_b h40, mix_b hW]
    rw [gr40_19 hW, al_b (pu_okI (hW.1 57 _ rfl) (by omega) (by omega)), w2, rc_b h40, mix_b hW]
    rw [gr40_20 hW, al_b (pu_okI (hW.1 58 _ rfl) (by omega) (by omega)), w3, rc_b h40, mix_b hW, nI_1]
    refine Rn_mono (ih (k + 1) N _ (by omega) (by omega)) ?_
    rintro _ ⟨J', rfl⟩
    exact ⟨J', by rw [mJ_v, mJ_v, mJ_v]; rfl⟩
set_option maxHeartbeats 4000000 in
set_option maxRecDepth 100000 in
theorem m_d65 (hZ : Z_B Z) (h : InvM s I P Z) : ∀ (m k N : Nat) (J : Nat → Nat → Int64), k + m = znf Z → m < N → Rn (fX9_digest_65 N (some 40) (nI k) (pu_hp s I P J n)) fun y => ∃ J', y = (dg4 Z (mxG (gFf Z) m k (J 40 75)), pu_hp s I P J' n) := by
  have hW := h.1
  have h40 := hW.1 40 _ rfl
  have hnf := hZ.2.1.1
  have hnw := hZ.2.2.1.1
  have e12 := h.2.1.2.1
  have ef := h.2.2.2.2.1
  intro m
  induction m with
  | zero =>
    intro k N J hk hN
    obtain ⟨N, rfl⟩ : ∃ N', N = N' + 1 := ⟨N - 1, by omega⟩
    obtain rfl : k = znf Z := by omega
    show Rn (fX9_digest_65_b _ _ _ _) _
    unfold fX9_digest_65_b
    rw [gi_b h40 rfl, e12, if_pos (show nI (znf Z) ≤ nI (znf Z) from Int32.le_refl _), show (0 : Int32) = nI 0 from rfl]
    exact m_d125 hZ h (znw Z) 0 am_fu J (by omega) (by unfold am_fu; omega)
  | succ m ih =>
    intro k N J hk hN
    obtain ⟨N, rfl⟩ : ∃ N', N = N' + 1 := ⟨N - 1, by omega⟩
    obtain ⟨w1, w2, w3, w4⟩ := ef k (by omega)
    show Rn (fX9_digest_65_b (fX9_digest_65 N) _ _ _) _
    unfold fX9_digest_65_b
    rw [gi_b h40 rfl, e12, if_neg (show ¬ nI (znf Z) ≤ nI k by rw [nn_le_f (by omega) (by omega)]; exact id)]
    rw [gr40_13 hW, al_b (pu_okI (hW.1 52 _ rfl) (by omega) (by omega)), w1, rc_b h40, mix_b hW]
    rw [gr40_14 hW, al_b (pu_okI (hW.1 53 _ rfl) (by omega) (by omega)), w2, rc_b h40, mix_b hW]
    rw [gr40_15 hW, al_b (pu_okI (hW.1 54 _ rfl) (by omega) (by omega)), w3, rc_b h40, mix_b hW]
    rw [gr40_16 hW, al_b (pu_okI (hW.1 55 _ rfl) (by omega) (by omega)), w4, rc_b h40, mix_b hW, nI_1]
    refine Rn_mono (ih (k + 1) N _ (by omega) (by omega)) ?_
    rintro _ ⟨J', rfl⟩
    exact ⟨J', by rw [mJ_v, mJ_v, mJ_v, mJ_v]; rfl⟩
set_option maxHeartbeats 4000000 in
set_option maxRecDepth 100000 in
theorem m_d44 (hZ : Z_B Z) : ∀ (m k N : Nat) (I : Nat → Nat → Int32) (J : Nat → Nat → Int64), InvM s I P Z → k + m = znc Z → m < N → Rn (fX9_digest_44 N (some 40) (nI k) (pu_hp s I P J n)) fun y => ∃ I' J', y = (dg3 Z (mxG (gK1 Z) m k (J 40 75)), pu_hp s I' P J' n) ∧ ∀ b j, ¬ scM b j → I' b j = I b j := by
  have hnc := hZ.1.1
  have hnf := hZ.2.1.1
  intro m
  induction m with
  | zero =>
    intro k N I J h hk hN
    obtain ⟨N, rfl⟩ : ∃ N', N = N' + 1 := ⟨N - 1, by omega⟩
    obtain rfl : k = znc Z := by omega
    have hW := h.1
    have h40 := hW.1 40 _ rfl
    have e0 := h.2.1.1
    show Rn (fX9_digest_44_b _ _ _ _) _
    unfold fX9_digest_44_b
    rw [gi_b h40 rfl, e0, if_pos (show nI (znc Z) ≤ nI (znc Z) from Int32.le_refl _), show (0 : Int32) = nI 0 from rfl]
    refine Rn_mono (m_d65 hZ h (znf Z) 0 am_fu J (by omega) (by unfold am_fu; omega)) ?_
    rintro _ ⟨J', rfl⟩
    exact ⟨I, J', rfl, fun _ _ _ => rfl⟩
  | succ m ih =>
    intro k N I J h hk hN
    obtain ⟨N, rfl⟩ : ∃ N', N = N' + 1 := ⟨N - 1, by omega⟩
    have hW := h.1
    have h40 := hW.1 40 _ rfl
    have e0 := h.2.1.1
    show Rn (fX9_digest_44_b (fX9_digest_44 N) _ _ _) _
    unfold fX9_digest_44_b
    rw [gi_b h40 rfl, e0, if_neg (show ¬ nI (znc Z) ≤ nI k by rw [nn_le_f (by omega) (by omega)]; exact id), rc_b h40]
    refine Rn_bind (m_dC hZ (show k < znc Z by omega) h) ?_
    rintro _ ⟨I1, J1, rfl, a1, f1⟩
    rw [nI_1]
    refine Rn_mono (ih (k + 1) N I1 J1 (h.sc hW fun b j _ _ q => f1 b j q) (by omega) (by omega)) ?_
    rintro _ ⟨I2, J2, rfl, f2⟩
    exact ⟨I2, J2, by rw [a1]; rfl, fun b j q => by rw [f2 b j q, f1 b j q]⟩
set_option maxHeartbeats 4000000 in
set_option maxRecDepth 100000 in
theorem m_d9 (hZ : Z_B Z) (h : InvM s I P Z) : ∀ (m k N : Nat) (J : Nat → Nat → Int64), k + m = 4 → m < N → Rn (fX9_digest_9 N (some 40) (nI k) (pu_hp s I P J n)) fun y => ∃ I' J', y = (dg2 Z (mxG (gSs Z) m k (J 40 75)), pu_hp s I' P J' n) ∧ ∀ b j, ¬ scM b j → I' b j = I b j := by
  have hW := h.1
  have h40 := hW.1 40 _ rfl
  have hnc := hZ.1.1
  have et := h.2.2.2.2.2.2.1.1
  intro m
  induction m with
  | zero =>
    intro k N J hk hN
    obtain ⟨N, rfl⟩ : ∃ N', N = N' + 1 := ⟨N - 1, by omega⟩
    obtain rfl : k = 4 := by omega
    show Rn (fX9_digest_9_b _ _ _ _) _
    unfold fX9_digest_9_b
    rw [if_pos (show (4 : Int32) ≤ nI 4 by decide), show (0 : Int32) = nI 0 from rfl]
    exact m_d44 hZ (znc Z) 0 am_fu I J h (by omega) (by unfold am_fu; omega)
  | succ m ih =>
    intro k N J hk hN
    obtain ⟨N, rfl⟩ : ∃ N', N = N' + 1 := ⟨N - 1, by omega⟩
    show Rn (fX9_digest_9_b (fX9_digest_9 N) _ _ _) _
    unfold fX9_digest_9_b
    rw [if_neg (show ¬ (4 : Int32) ≤ nI k by rw [il_f (by show k < 4; omega) (by decide)]; exact id)]
    rw [gr40_10 hW, al_b (pu_okI (hW.1 50 _ rfl) (by omega) (by omega)), (et k (by omega)).1, rc_b h40, mix_b hW]
    rw [gr40_11 hW, al_b (pu_okI (hW.1 51 _ rfl) (by omega) (by omega)), (et k (by omega)).2, rc_b h40, mix_b hW, nI_1]
    refine Rn_mono (ih (k + 1) N _ (by omega) (by omega)) ?_
    rintro _ ⟨I', J', rfl, f1⟩
    exact ⟨I', J', by rw [mJ_v, mJ_v]; rfl, f1⟩
set_option maxHeartbeats 4000000 in
set_option maxRecDepth 100000 in
theorem m_digest (hZ : Z_B Z) (h : InvM s I P Z) : Rn (fX9_digest 40 (pu_hp s I P J n)) (QM s I P n Z (dg1 Z)) := by
  have hW := h.1
  have h40 := hW.1 40 _ rfl
  unfold fX9_digest
  rw [pu_pl h40 rfl]
  show Rn (fX9_digest_9 am_fu (some 40) 0 (pu_hp s I P (mJ J 409) n)) _
  rw [show (0 : Int32) = nI 0 from rfl]
  refine Rn_mono (m_d9 hZ h 4 0 am_fu (mJ J 409) (by omega) (by unfold am_fu; omega)) ?_
  rintro _ ⟨I', J', rfl, f⟩
  rw [mJ_v]
  exact QM.of h f
end DM
theorem d_digest {Z : S_Z} (hZ : Z_B Z) : CallOK Z (fX8_digest 1) (fX9_digest 40) := CallOK.q hZ ⟨dg1 Z, fun _ _ _ _ _ h => c_digest hZ h, fun _ _ _ _ _ h => m_digest hZ h⟩
