/-! the call mended -/
theorem inB_mid {v : Int32} {lo hi : Nat} (hl : lo < 2147483648) (hh : hi < 2147483648) (h : inB v (nI lo) (nI hi) = true) : ∃ k, lo ≤ k ∧ k ≤ hi ∧ v = nI k := by
  unfold inB at h
  rw [Bool.and_eq_true, decide_eq_true_eq, decide_eq_true_eq] at h
  obtain ⟨q1, q2⟩ := h
  obtain ⟨w, hw, rfl⟩ := nI_of (x := v) (by rw [← i_le]; exact Int32.le_trans (nI_pos' hl) q1)
  exact ⟨w, (nI_leI hl hw).mp q1, (nI_leI hw hh).mp q2, rfl⟩
/-- a clock whose hole at v is wider by x -/
def kW (K : S_K) (v x : Nat) : S_K := (kn K, kA K, kH K, updN (kO K) v (kO K v + x), kca K, kch K, ksu K, knb K, kM K)
theorem kW_B {K : S_K} {v x : Nat} (hK : S_KB K) (hO : ∀ k, k < kn K → kO K k ≤ 40) (hx : x ≤ 100) : S_KB (kW K v x) := by
  obtain ⟨h1, h2, h3⟩ := hK
  refine ⟨h1, fun k hk => ⟨(h2 k hk).1, (h2 k hk).2.1, ?_⟩, h3⟩
  show updN (kO K) v (kO K v + x) k ≤ 200
  by_cases e : k = v
  · subst e; rw [updN_s]; have := hO _ hk; omega
  · rw [updN_n e]; have := hO k hk; omega
theorem kW_0 {I : Nat → Nat → Int32} {K : S_K} {c v : Nat} (h : C_I I c K) : C_I I c (kW K v 0) := by
  obtain ⟨h1, h2, h3, h4, h5, h6, h7⟩ := h
  refine ⟨h1, h2, h3, h4, h5, fun k hk => ?_, h7⟩
  obtain ⟨a1, a2, a3, a4⟩ := h6 k hk
  refine ⟨a1, a2, ?_, a4⟩
  show _ = nI (updN (kO K) v (kO K v + 0) k)
  by_cases e : k = v
  · subst e; rw [updN_s]; exact a3
  · rw [updN_n e]; exact a3
theorem kW_1 {I I' : Nat → Nat → Int32} {K : S_K} {c v x : Nat} (h : C_I I c (kW K v x)) (hf : ∀ b j, ¬ (b = c + 3 ∧ j = v) → I' b j = I b j) (h1 : v < kn K → I' (c + 3) v = nI (kO K v + x + 1)) : C_I I' c (kW K v (x + 1)) := by
  obtain ⟨a1, a2, a3, a4, a5, a6, a7⟩ := h
  refine ⟨by rw [hf _ _ (by omega), a1]; rfl, by rw [hf _ _ (by omega), a2]; rfl, by rw [hf _ _ (by omega), a3]; rfl, by rw [hf _ _ (by omega), a4]; rfl, by rw [hf _ _ (by omega), a5]; rfl, fun k hk => ?_, fun b hb => by rw [hf _ _ (by omega), a7 b hb]; rfl⟩
  obtain ⟨b1, b2, b3, b4⟩ := a6 k hk
  refine ⟨by rw [hf _ _ (by omega), b1]; rfl, by rw [hf _ _ (by omega), b2]; rfl, ?_, by rw [hf _ _ (by omega), b4]; rfl⟩
  show _ = nI (updN (kO K) v (kO K v + (x + 1)) k)
  by_cases e : k = v
  · subst e; rw [updN_s]; exact h1 hk
  · rw [updN_n e, hf _ _ (by omega), b3]
    show nI (updN (kO K) v (kO K v + x) k) = _
    rw [updN_n e]
/-- is there an error above t among the balls from b on -/
def hEA (E : Nat → Nat) (t : Nat) : Nat → Nat → Bool
  | 0, _ => false
  | m + 1, b => decide (t < E b) || hEA E t m (b + 1)
def mdD (K : S_K) (w day v t x : Nat) : Bool := hEA (eZ (kW K v x) (S_at (kW K v x) (0, 0, 0, 0) w true 96) day) t (knb K) 0
/-- the first day -/
def mdM (D : Nat → Bool) (dy : Nat) : Nat → Nat → Int32
  | 0, _ => -1
  | m + 1, d => if D (d / dy) = true then nI d else mdM D dy m (d + 1)
theorem mdM_skip {D : Nat → Bool} {dy x : Nat} (hD : D x = false) : ∀ (m k : Nat), k + m = dy → mdM D dy (61 - (x * dy + k)) (x * dy + k) = mdM D dy (61 - (x * dy + dy)) (x * dy + dy)
  | 0, k, h => by obtain rfl : k = dy := by omega
                  rfl
  | m + 1, k, h => by
    have ih := mdM_skip (dy := dy) (x := x) hD m (k + 1) (by omega)
    by_cases c : x * dy + k ≤ 60
    · obtain ⟨r, hr⟩ : ∃ r, 61 - (x * dy + k) = r + 1 := ⟨60 - (x * dy + k), by omega⟩
      have hdiv : (x * dy + k) / dy = x := by
        rw [Nat.mul_comm x dy, Nat.mul_add_div (show dy > 0 by omega), Nat.div_eq_of_lt (show k < dy by omega)]; rfl
      rw [hr]
      show (if D ((x * dy + k) / dy) = true then _ else mdM D dy r (x * dy + k + 1)) = _
      rw [hdiv, hD, if_neg (by decide), ← ih]
      congr 1
      omega
    · rw [show 61 - (x * dy + k) = 0 by omega, show 61 - (x * dy + dy) = 0 by omega]; rfl
theorem mdM_step {D : Nat → Bool} {dy x : Nat} (hdy : 1 ≤ dy) (hx : x * dy ≤ 60) : mdM D dy (61 - x * dy) (x * dy) = if D x = true then nI (x * dy) else mdM D dy (61 - (x * dy + dy)) (x * dy + dy) := by
  cases hD : D x with
  | false => rw [if_neg (by decide)]; exact mdM_skip hD dy 0 (by omega)
  | true =>
    obtain ⟨r, hr⟩ : ∃ r, 61 - x * dy = r + 1 := ⟨60 - x * dy, by omega⟩
    rw [hr, if_pos rfl]
    show (if D (x * dy / dy) = true then _ else _) = _
    rw [Nat.mul_div_cancel _ (by omega), hD, if_pos rfl]
section MD
variable {s : Nat → Option pu_S} {I : Nat → Nat → Int32} {P : Nat → Nat → Option Nat} {J : Nat → Nat → Int64} {n : Nat × Nat}
variable {Z : S_Z} {i j : Nat}
set_option maxHeartbeats 4000000 in
set_option maxRecDepth 100000 in
theorem r_hea {K : S_K} {F : S_F} {w c f t day : Nat} (hK : S_KB K) (hF : S_FB F) (hR : RunG s K F w 96 I P c f) (hd : day ≤ 72) (ht : t ≤ 96) : ∀ (m b N : Nat), b + m = knb K → m < N → fX5_hasErrorAbove_2 N (some 23) (nI t) (nI day) (nI b) (pu_hp s I P J n) = some (b2 (hEA (eZ K (S_at K F w true 96) day) t m b), pu_hp s I P J n) := by
  obtain ⟨h4, h5, h6, h7, h8⟩ := id hR
  obtain ⟨r1, r2, r3, r4, r5, r6, r7, r8, r9, r10⟩ := id h4
  have hc1 := h5.1
  have e8 := h6.2.2.2.2.1
  have hnb := hK.2.2.2.2.2.1
  intro m
  induction m with
  | zero =>
    intro b N hb hN
    obtain ⟨N, rfl⟩ : ∃ N', N = N' + 1 := ⟨N - 1, by omega⟩
    obtain rfl : b = knb K := by omega
    show fX5_hasErrorAbove_2_b _ _ _ _ _ _ = _
    unfold fX5_hasErrorAbove_2_b
    simp (disch := first | assumption | with_unfolding_all exact hW.1 _ _ rfl | rfl | exact pu_okI (by first | assumption | with_unfolding_all exact hW.1 _ _ rfl) (by omega) (by omega) | exact pu_oqI (by first | assumption | with_unfolding_all exact hW.1 _ _ rfl) (by omega) (by omega) | omega | decide) only [↓reduceIte, ↓gi_b, ↓pi_b, ↓gr_b, ↓pr_b, ↓al_b, ↓as_b, ↓al_3, ↓as_3, ↓al_12, ↓as_12, ↓al_l, ↓as_l, ↓rc_b, ↓Option.bind_some, ↓zr0_b, ↓zr1_b, ↓zrb_b, ↓pz0_b, ↓pz1_b, al_b, as_b, rc_b, gi_b, pi_b, gr_b, zr0, zr1, zrb, u_s, u_n, v_s, v_n, ↓isIn_b, ↓within_b, ite_T, ite_F, il_t, il_f, li_t, li_f, it_t, it_f, ti_t, ti_f, ie_t, ie_f, ei_t, ei_f, nn_le_t, nn_le_f, nn_lt_t, nn_lt_f, nn_eq_t, nn_eq_f, nI_1, nI_add, ni_addl, ni_ladd, pk_mul, ni_mull, b2_t, b2_f, b2_0, one0, m1_eq, ni_m1, reduceCtorEq, Bool.false_eq_true, nI_clamp, if_true, Option.some.injEq, Prod.mk.injEq, and_true, true_and, Nat.reduceAdd, Nat.reduceMul, Nat.reduceSub, Nat.reduceEqDiff, Nat.reduceLeDiff, Nat.reduceLT, ↓gr_h r1 r6 rfl, e8]
    rfl
  | succ m ih =>
    intro b N hb hN
    obtain ⟨N, rfl⟩ : ∃ N', N = N' + 1 := ⟨N - 1, by omega⟩
    have esz := RunG.size (J := J) (n := n) hK hF (Nat.le_refl _) hR (show b < knb K by omega) hd
    have hle := eZ_le (X := S_at K F w true 96) hK (S_at_b hK hF 96) (Nat.le_refl _) hd (show b < knb K by omega)
    show fX5_hasErrorAbove_2_b (fX5_hasErrorAbove_2 N) _ _ _ _ _ = some (b2 (decide (t < eZ K (S_at K F w true 96) day b) || hEA (eZ K (S_at K F w true 96) day) t m (b + 1)), _)
    unfold fX5_hasErrorAbove_2_b
    by_cases e : eZ K (S_at K F w true 96) day b ≤ t
    · rw [decide_eq_false (show ¬ t < eZ K (S_at K F w true 96) day b by omega), Bool.false_or]
      simp (disch := first | assumption | with_unfolding_all exact hW.1 _ _ rfl | rfl | exact pu_okI (by first | assumption | with_unfolding_all exact hW.1 _ _ rfl) (by omega) (by omega) | exact pu_oqI (by first | assumption | with_unfolding_all exact hW.1 _ _ rfl) (by omega) (by omega) | omega | decide) only [↓reduceIte, ↓gi_b, ↓pi_b, ↓gr_b, ↓pr_b, ↓al_b, ↓as_b, ↓al_3, ↓as_3, ↓al_12, ↓as_12, ↓al_l, ↓as_l, ↓rc_b, ↓Option.bind_some, ↓zr0_b, ↓zr1_b, ↓zrb_b, ↓pz0_b, ↓pz1_b, al_b, as_b, rc_b, gi_b, pi_b, gr_b, zr0, zr1, zrb, u_s, u_n, v_s, v_n, ↓isIn_b, ↓within_b, ite_T, ite_F, il_t, il_f, li_t, li_f, it_t, it_f, ti_t, ti_f, ie_t, ie_f, ei_t, ei_f, nn_le_t, nn_le_f, nn_lt_t, nn_lt_f, nn_eq_t, nn_eq_f, nI_1, nI_add, ni_addl, ni_ladd, pk_mul, ni_mull, b2_t, b2_f, b2_0, one0, m1_eq, ni_m1, reduceCtorEq, Bool.false_eq_true, nI_clamp, if_true, Option.some.injEq, Prod.mk.injEq, and_true, true_and, Nat.reduceAdd, Nat.reduceMul, Nat.reduceSub, Nat.reduceEqDiff, Nat.reduceLeDiff, Nat.reduceLT, ↓gr_h r1 r6 rfl, e8, esz]
      exact ih (b + 1) N (by omega) (by omega)
    · rw [decide_eq_true (show t < eZ K (S_at K F w true 96) day b by omega), Bool.true_or]
      simp (disch := first | assumption | with_unfolding_all exact hW.1 _ _ rfl | rfl | exact pu_okI (by first | assumption | with_unfolding_all exact hW.1 _ _ rfl) (by omega) (by omega) | exact pu_oqI (by first | assumption | with_unfolding_all exact hW.1 _ _ rfl) (by omega) (by omega) | omega | decide) only [↓reduceIte, ↓gi_b, ↓pi_b, ↓gr_b, ↓pr_b, ↓al_b, ↓as_b, ↓al_3, ↓as_3, ↓al_12, ↓as_12, ↓al_l, ↓as_l, ↓rc_b, ↓Option.bind_some, ↓zr0_b, ↓zr1_b, ↓zrb_b, ↓pz0_b, ↓pz1_b, al_b, as_b, rc_b, gi_b, pi_b, gr_b, zr0, zr1, zrb, u_s, u_n, v_s, v_n, ↓isIn_b, ↓within_b, ite_T, ite_F, il_t, il_f, li_t, li_f, it_t, it_f, ti_t, ti_f, ie_t, ie_f, ei_t, ei_f, nn_le_t, nn_le_f, nn_lt_t, nn_lt_f, nn_eq_t, nn_eq_f, nI_1, nI_add, ni_addl, ni_ladd, pk_mul, ni_mull, b2_t, b2_f, b2_0, one0, m1_eq, ni_m1, reduceCtorEq, Bool.false_eq_true, nI_clamp, if_true, Option.some.injEq, Prod.mk.injEq, and_true, true_and, Nat.reduceAdd, Nat.reduceMul, Nat.reduceSub, Nat.reduceEqDiff, Nat.reduceLeDiff, Nat.reduceLT, ↓gr_h r1 r6 rfl, e8, esz]
set_option maxHeartbeats 4000000 in
set_option maxRecDepth 100000 in
theorem c_md68 (hZ : Z_B Z) (hi : i < znc Z) (hj : j < 4) {v dy t : Nat} (hv : v ≤ 2) (hdy : 1 ≤ dy ∧ dy ≤ 30) (ht : t ≤ 96) : ∀ (m x N : Nat) (I : Nat → Nat → Int32) (P : Nat → Nat → Option Nat), x + m = 61 → m < N → InvC s I P n Z → C_I I 15 (kW (zK Z i) v x) →
    Rn (fX8_mended_68 N (some 1) (nI j) (nI v) (nI dy) (nI t) (nI x) (pu_hp s I P J n)) fun y => ∃ I' P', y = (mdM (mdD (zK Z i) (tw (zT Z) j) (td (zT Z) j) v t) dy (61 - x * dy) (x * dy), pu_hp s I' P' J n) ∧ SF I I' P P' := by
  have hK := (hZ.1.2 i hi).1
  have hO := (hZ.1.2 i hi).2
  have hkn := hK.1
  have hw := (hZ.2.2.2.1.1 j hj).1
  have hd := (hZ.2.2.2.1.1 j hj).2.2
  have hF : S_FB (0, 0, 0, 0) := ⟨Nat.zero_le _, Nat.zero_le _, Nat.zero_le _, Nat.zero_le _⟩
  intro m
  induction m with
  | zero =>
    intro x N I P hx hN hI hci
    obtain ⟨N, rfl⟩ : ∃ N', N = N' + 1 := ⟨N - 1, by omega⟩
    have h61 : x * 1 ≤ x * dy := Nat.mul_le_mul_left _ hdy.1
    have h62 : x * dy ≤ 61 * 30 := Nat.mul_le_mul (by omega) hdy.2
    show Rn (fX8_mended_68_b _ _ _ _ _ _ _ _) _
    unfold fX8_mended_68_b
    simp (disch := first | assumption | with_unfolding_all exact hW.1 _ _ rfl | rfl | exact pu_okI (by first | assumption | with_unfolding_all exact hW.1 _ _ rfl) (by omega) (by omega) | exact pu_oqI (by first | assumption | with_unfolding_all exact hW.1 _ _ rfl) (by omega) (by omega) | omega | decide) only [↓reduceIte, ↓gi_b, ↓pi_b, ↓gr_b, ↓pr_b, ↓al_b, ↓as_b, ↓al_3, ↓as_3, ↓al_12, ↓as_12, ↓al_l, ↓as_l, ↓rc_b, ↓Option.bind_some, ↓zr0_b, ↓zr1_b, ↓zrb_b, ↓pz0_b, ↓pz1_b, al_b, as_b, rc_b, gi_b, pi_b, gr_b, zr0, zr1, zrb, u_s, u_n, v_s, v_n, ↓isIn_b, ↓within_b, ite_T, ite_F, il_t, il_f, li_t, li_f, it_t, it_f, ti_t, ti_f, ie_t, ie_f, ei_t, ei_f, nn_le_t, nn_le_f, nn_lt_t, nn_lt_f, nn_eq_t, nn_eq_f, nI_1, nI_add, ni_addl, ni_ladd, pk_mul, ni_mull, b2_t, b2_f, b2_0, one0, m1_eq, ni_m1, reduceCtorEq, Bool.false_eq_true, nI_clamp, if_true, Option.some.injEq, Prod.mk.injEq, and_true, true_and, Nat.reduceAdd, Nat.reduceMul, Nat.reduceSub, Nat.reduceEqDiff, Nat.reduceLeDiff, Nat.reduceLT]
    refine Rn_some ⟨I, P, ?_, fun _ _ _ => rfl, fun _ _ _ => rfl⟩
    rw [show 61 - x * dy = 0 by omega]; rfl
  | succ m ih =>
    intro x N I P hx hN hI hci
    obtain ⟨N, rfl⟩ : ∃ N', N = N' + 1 := ⟨N - 1, by omega⟩
    have h62 : x * dy ≤ 61 * 30 := Nat.mul_le_mul (by omega) hdy.2
    show Rn (fX8_mended_68_b (fX8_mended_68 N) _ _ _ _ _ _ _) _
    unfold fX8_mended_68_b
    by_cases hx6 : x * dy ≤ 60
    · have hW := hI.1
      have h61 : x * 1 ≤ x * dy := Nat.mul_le_mul_left _ hdy.1
      have hK' := kW_B (v := v) (x := x) hK hO (by omega)
      simp (disch := first | assumption | with_unfolding_all exact hW.1 _ _ rfl | rfl | exact pu_okI (by first | assumption | with_unfolding_all exact hW.1 _ _ rfl) (by omega) (by omega) | exact pu_oqI (by first | assumption | with_unfolding_all exact hW.1 _ _ rfl) (by omega) (by omega) | omega | decide) only [↓reduceIte, ↓gi_b, ↓pi_b, ↓gr_b, ↓pr_b, ↓al_b, ↓as_b, ↓al_3, ↓as_3, ↓al_12, ↓as_12, ↓al_l, ↓as_l, ↓rc_b, ↓Option.bind_some, ↓zr0_b, ↓zr1_b, ↓zrb_b, ↓pz0_b, ↓pz1_b, al_b, as_b, rc_b, gi_b, pi_b, gr_b, zr0, zr1, zrb, u_s, u_n, v_s, v_n, ↓isIn_b, ↓within_b, ite_T, ite_F, il_t, il_f, li_t, li_f, it_t, it_f, ti_t, ti_f, ie_t, ie_f, ei_t, ei_f, nn_le_t, nn_le_f, nn_lt_t, nn_lt_f, nn_eq_t, nn_eq_f, nI_1, nI_add, ni_addl, ni_ladd, pk_mul, ni_mull, b2_t, b2_f, b2_0, one0, m1_eq, ni_m1, reduceCtorEq, Bool.false_eq_true, nI_clamp, if_true, Option.some.injEq, Prod.mk.injEq, and_true, true_and, Nat.reduceAdd, Nat.reduceMul, Nat.reduceSub, Nat.reduceEqDiff, Nat.reduceLeDiff, Nat.reduceLT, ↓gr1_14 hW, ↓gr1_11 hW, ↓gr1_12 hW, q_warmOf hI hj]
      refine Rn_bind (g_start (w := tw (zT Z) j) hW hK' (CS_15 hW) hci (hW.1 21 _ rfl) hI.2.2.2.2.1 (by omega) (by omega)) ?_
      rintro _ ⟨I1, P1, rfl, f1, hR⟩
      have f1' := f1.sf
      have hI1 := f1'.inv hI
      have hW := hI1.1
      simp (disch := first | assumption | with_unfolding_all exact hW.1 _ _ rfl | rfl | exact pu_okI (by first | assumption | with_unfolding_all exact hW.1 _ _ rfl) (by omega) (by omega) | exact pu_oqI (by first | assumption | with_unfolding_all exact hW.1 _ _ rfl) (by omega) (by omega) | omega | decide) only [↓reduceIte, ↓gi_b, ↓pi_b, ↓gr_b, ↓pr_b, ↓al_b, ↓as_b, ↓al_3, ↓as_3, ↓al_12, ↓as_12, ↓al_l, ↓as_l, ↓rc_b, ↓Option.bind_some, ↓zr0_b, ↓zr1_b, ↓zrb_b, ↓pz0_b, ↓pz1_b, al_b, as_b, rc_b, gi_b, pi_b, gr_b, zr0, zr1, zrb, u_s, u_n, v_s, v_n, ↓isIn_b, ↓within_b, ite_T, ite_F, il_t, il_f, li_t, li_f, it_t, it_f, ti_t, ti_f, ie_t, ie_f, ei_t, ei_f, nn_le_t, nn_le_f, nn_lt_t, nn_lt_f, nn_eq_t, nn_eq_f, nI_1, nI_add, ni_addl, ni_ladd, pk_mul, ni_mull, b2_t, b2_f, b2_0, one0, m1_eq, ni_m1, reduceCtorEq, Bool.false_eq_true, nI_clamp, if_true, Option.some.injEq, Prod.mk.injEq, and_true, true_and, Nat.reduceAdd, Nat.reduceMul, Nat.reduceSub, Nat.reduceEqDiff, Nat.reduceLeDiff, Nat.reduceLT, ↓gr1_14 hW, ↓gr1_11 hW, ↓gr1_12 hW]
      refine Rn_bind (RunG.go (e := 96) hK' hF hw hR (by omega) (by omega)) ?_
      rintro _ ⟨I2, rfl, f2, hR2⟩
      have f2' : SF I1 I2 P1 P1 := ⟨fun b j hb => f2 b j (by unfold scC at hb; omega), fun _ _ _ => rfl⟩
      have hI2 := f2'.inv hI1
      have hW := hI2.1
      have ehe : fX5_hasErrorAbove 23 (nI t) (nI (td (zT Z) j)) (pu_hp s I2 P1 J n) = some (b2 (mdD (zK Z i) (tw (zT Z) j) (td (zT Z) j) v t x), pu_hp s I2 P1 J n) := by
        unfold fX5_hasErrorAbove
        rw [show (0 : Int32) = nI 0 from rfl]
        exact r_hea hK' hF hR2 hd ht (knb (zK Z i)) 0 am_fu (Nat.zero_add _) (by have := hK.2.2.2.2.2.1; unfold am_fu; omega)
      rw [mdM_step hdy.1 hx6]
      have hcI2 := hR2.2.2.1
      cases eD : mdD (zK Z i) (tw (zT Z) j) (td (zT Z) j) v t x with
      | true =>
        rw [eD] at ehe
        simp (disch := first | assumption | with_unfolding_all exact hW.1 _ _ rfl | rfl | exact pu_okI (by first | assumption | with_unfolding_all exact hW.1 _ _ rfl) (by omega) (by omega) | exact pu_oqI (by first | assumption | with_unfolding_all exact hW.1 _ _ rfl) (by omega) (by omega) | omega | decide) only [↓reduceIte, ↓gi_b, ↓pi_b, ↓gr_b, ↓pr_b, ↓al_b, ↓as_b, ↓al_3, ↓as_3, ↓al_12, ↓as_12, ↓al_l, ↓as_l, ↓rc_b, ↓Option.bind_some, ↓zr0_b, ↓zr1_b, ↓zrb_b, ↓pz0_b, ↓pz1_b, al_b, as_b, rc_b, gi_b, pi_b, gr_b, zr0, zr1, zrb, u_s, u_n, v_s, v_n, ↓isIn_b, ↓within_b, ite_T, ite_F, il_t, il_f, li_t, li_f, it_t, it_f, ti_t, ti_f, ie_t, ie_f, ei_t, ei_f, nn_le_t, nn_le_f, nn_lt_t, nn_lt_f, nn_eq_t, nn_eq_f, nI_1, nI_add, ni_addl, ni_ladd, pk_mul, ni_mull, b2_t, b2_f, b2_0, one0, m1_eq, ni_m1, reduceCtorEq, Bool.false_eq_true, nI_clamp, if_true, Option.some.injEq, Prod.mk.injEq, and_true, true_and, Nat.reduceAdd, Nat.reduceMul, Nat.reduceSub, Nat.reduceEqDiff, Nat.reduceLeDiff, Nat.reduceLT, ↓gr1_14 hW, ↓gr1_11 hW, ↓gr1_12 hW, q_dayOf hI2 hj, ehe]
        exact Rn_some ⟨I2, P1, rfl, f1'.tr f2'⟩
      | false =>
        rw [eD] at ehe
        rw [if_neg (by decide)]
        have goN : ∀ I3, SF I2 I3 P1 P1 → C_I I3 15 (kW (zK Z i) v (x + 1)) → Rn (fX8_mended_68 N (some 1) (nI j) (nI v) (nI dy) (nI t) (nI (x + 1)) (pu_hp s I3 P1 J n)) fun y => ∃ I' P', y = (mdM (mdD (zK Z i) (tw (zT Z) j) (td (zT Z) j) v t) dy (61 - (x * dy + dy)) (x * dy + dy), pu_hp s I' P' J n) ∧ SF I I' P P' := by
          intro I3 f3 hc3
          have q := ih (x + 1) N I3 P1 (by omega) (by omega) (f3.inv hI2) hc3
          rw [Nat.succ_mul] at q
          refine Rn_mono q ?_
          rintro _ ⟨I4, P4, rfl, f4⟩
          exact ⟨I4, P4, rfl, ((f1'.tr f2').tr f3).tr f4⟩
        unfold fX0_widen
        have hc15 : s 15 = some (0, 0, 0) := hW.1 15 _ rfl
        have e15 : I2 15 0 = nI (kn (zK Z i)) := hcI2.1
        by_cases hvk : v < kn (zK Z i)
        · have e18 : I2 18 v = nI (kO (zK Z i) v + x) := by
            have := (hcI2.2.2.2.2.2.1 v hvk).2.2.1
            rw [show kO (kW (zK Z i) v x) v = kO (zK Z i) v + x from updN_s] at this
            exact this
          simp (disch := first | assumption | with_unfolding_all exact hW.1 _ _ rfl | rfl | exact pu_okI (by first | assumption | with_unfolding_all exact hW.1 _ _ rfl) (by omega) (by omega) | exact pu_oqI (by first | assumption | with_unfolding_all exact hW.1 _ _ rfl) (by omega) (by omega) | omega | decide) only [↓reduceIte, ↓gi_b, ↓pi_b, ↓gr_b, ↓pr_b, ↓al_b, ↓as_b, ↓al_3, ↓as_3, ↓al_12, ↓as_12, ↓al_l, ↓as_l, ↓rc_b, ↓Option.bind_some, ↓zr0_b, ↓zr1_b, ↓zrb_b, ↓pz0_b, ↓pz1_b, al_b, as_b, rc_b, gi_b, pi_b, gr_b, zr0, zr1, zrb, u_s, u_n, v_s, v_n, ↓isIn_b, ↓within_b, ite_T, ite_F, il_t, il_f, li_t, li_f, it_t, it_f, ti_t, ti_f, ie_t, ie_f, ei_t, ei_f, nn_le_t, nn_le_f, nn_lt_t, nn_lt_f, nn_eq_t, nn_eq_f, nI_1, nI_add, ni_addl, ni_ladd, pk_mul, ni_mull, b2_t, b2_f, b2_0, one0, m1_eq, ni_m1, reduceCtorEq, Bool.false_eq_true, nI_clamp, if_true, Option.some.injEq, Prod.mk.injEq, and_true, true_and, Nat.reduceAdd, Nat.reduceMul, Nat.reduceSub, Nat.reduceEqDiff, Nat.reduceLeDiff, Nat.reduceLT, ↓gr1_14 hW, ↓gr1_11 hW, ↓gr1_12 hW, ↓gr15_3 hW, q_dayOf hI2 hj, ehe, ↓hasV_b hc15 e15 hkn.2, decide_eq_true hvk, e18]
          refine goN _ ⟨fun b j hb => u_n (by unfold scC at hb; omega), fun _ _ _ => rfl⟩ (kW_1 hcI2 (fun b j hb => u_n (by omega)) fun _ => u_s)
        · simp (disch := first | assumption | with_unfolding_all exact hW.1 _ _ rfl | rfl | exact pu_okI (by first | assumption | with_unfolding_all exact hW.1 _ _ rfl) (by omega) (by omega) | exact pu_oqI (by first | assumption | with_unfolding_all exact hW.1 _ _ rfl) (by omega) (by omega) | omega | decide) only [↓reduceIte, ↓gi_b, ↓pi_b, ↓gr_b, ↓pr_b, ↓al_b, ↓as_b, ↓al_3, ↓as_3, ↓al_12, ↓as_12, ↓al_l, ↓as_l, ↓rc_b, ↓Option.bind_some, ↓zr0_b, ↓zr1_b, ↓zrb_b, ↓pz0_b, ↓pz1_b, al_b, as_b, rc_b, gi_b, pi_b, gr_b, zr0, zr1, zrb, u_s, u_n, v_s, v_n, ↓isIn_b, ↓within_b, ite_T, ite_F, il_t, il_f, li_t, li_f, it_t, it_f, ti_t, ti_f, ie_t, ie_f, ei_t, ei_f, nn_le_t, nn_le_f, nn_lt_t, nn_lt_f, nn_eq_t, nn_eq_f, nI_1, nI_add, ni_addl, ni_ladd, pk_mul, ni_mull, b2_t, b2_f, b2_0, one0, m1_eq, ni_m1, reduceCtorEq, Bool.false_eq_true, nI_clamp, if_true, Option.some.injEq, Prod.mk.injEq, and_true, true_and, Nat.reduceAdd, Nat.reduceMul, Nat.reduceSub, Nat.reduceEqDiff, Nat.reduceLeDiff, Nat.reduceLT, ↓gr1_14 hW, ↓gr1_11 hW, ↓gr1_12 hW, ↓gr15_3 hW, q_dayOf hI2 hj, ehe, ↓hasV_b hc15 e15 hkn.2, decide_eq_false hvk]
          exact goN I2 ⟨fun _ _ _ => rfl, fun _ _ _ => rfl⟩ (kW_1 hcI2 (fun _ _ _ => rfl) fun q => absurd q hvk)
    · simp (disch := first | assumption | with_unfolding_all exact hW.1 _ _ rfl | rfl | exact pu_okI (by first | assumption | with_unfolding_all exact hW.1 _ _ rfl) (by omega) (by omega) | exact pu_oqI (by first | assumption | with_unfolding_all exact hW.1 _ _ rfl) (by omega) (by omega) | omega | decide) only [↓reduceIte, ↓gi_b, ↓pi_b, ↓gr_b, ↓pr_b, ↓al_b, ↓as_b, ↓al_3, ↓as_3, ↓al_12, ↓as_12, ↓al_l, ↓as_l, ↓rc_b, ↓Option.bind_some, ↓zr0_b, ↓zr1_b, ↓zrb_b, ↓pz0_b, ↓pz1_b, al_b, as_b, rc_b, gi_b, pi_b, gr_b, zr0, zr1, zrb, u_s, u_n, v_s, v_n, ↓isIn_b, ↓within_b, ite_T, ite_F, il_t, il_f, li_t, li_f, it_t, it_f, ti_t, ti_f, ie_t, ie_f, ei_t, ei_f, nn_le_t, nn_le_f, nn_lt_t, nn_lt_f, nn_eq_t, nn_eq_f, nI_1, nI_add, ni_addl, ni_ladd, pk_mul, ni_mull, b2_t, b2_f, b2_0, one0, m1_eq, ni_m1, reduceCtorEq, Bool.false_eq_true, nI_clamp, if_true, Option.some.injEq, Prod.mk.injEq, and_true, true_and, Nat.reduceAdd, Nat.reduceMul, Nat.reduceSub, Nat.reduceEqDiff, Nat.reduceLeDiff, Nat.reduceLT]
      refine Rn_some ⟨I, P, ?_, fun _ _ _ => rfl, fun _ _ _ => rfl⟩
      rw [show 61 - x * dy = 0 by omega]; rfl
set_option maxHeartbeats 4000000 in
set_option maxRecDepth 100000 in
theorem m_md106 (hZ : Z_B Z) (hM : InvM s I P Z) (hi : i < znc Z) (hj : j < 4) {x v0 : Nat} {X : S_X} (hX : S_XB (zK Z i) 96 X) (hI : M_R I 96 (zK Z i) X) {k55 : Option Nat → Int32 → Int32 → Int32 → Int32 → Int32 → Int32 → am_H → Option (Int32 × am_H)} {v dy t d : Nat} (ht : t ≤ 96) : ∀ (m b N : Nat) (g : Bool), b + m = knb (zK Z i) → m < N →
    fX9_mended_106 k55 N (some 40) (nI i) (nI j) (nI v) (nI dy) (nI t) (nI d) (b2 g) (nI b) (pu_hp s I P J n) = if (g || hEA (eZ (zK Z i) X (td (zT Z) j)) t m b) = true then some (nI d, pu_hp s I P J n) else k55 (some 40) (nI i) (nI j) (nI v) (nI dy) (nI t) (nI (d + 1)) (pu_hp s I P J n) := by
  have hW := hM.1
  have hnc := hZ.1.1
  have hK := (hZ.1.2 i hi).1
  have hnb := hK.2.2.2.2.2.1
  have e48 := (hM.2.2.2.1 i hi).1.2.2.2.1
  have hd := (hZ.2.2.2.1.1 j hj).2.2
  intro m
  induction m with
  | zero =>
    intro b N g hb hN
    obtain ⟨N, rfl⟩ : ∃ N', N = N' + 1 := ⟨N - 1, by omega⟩
    obtain rfl : b = knb (zK Z i) := by omega
    show fX9_mended_106_b _ _ _ _ _ _ _ _ _ _ _ _ = if (g || false) = true then _ else _
    unfold fX9_mended_106_b
    cases g with
    | false => simp (disch := first | assumption | with_unfolding_all exact hW.1 _ _ rfl | rfl | exact pu_okI (by first | assumption | with_unfolding_all exact hW.1 _ _ rfl) (by omega) (by omega) | exact pu_oqI (by first | assumption | with_unfolding_all exact hW.1 _ _ rfl) (by omega) (by omega) | omega | decide) only [↓reduceIte, ↓gi_b, ↓pi_b, ↓gr_b, ↓pr_b, ↓al_b, ↓as_b, ↓al_3, ↓as_3, ↓al_12, ↓as_12, ↓al_l, ↓as_l, ↓rc_b, ↓Option.bind_some, ↓zr0_b, ↓zr1_b, ↓zrb_b, ↓pz0_b, ↓pz1_b, al_b, as_b, rc_b, gi_b, pi_b, gr_b, zr0, zr1, zrb, u_s, u_n, v_s, v_n, ↓isIn_b, ↓within_b, ite_T, ite_F, il_t, il_f, li_t, li_f, it_t, it_f, ti_t, ti_f, ie_t, ie_f, ei_t, ei_f, nn_le_t, nn_le_f, nn_lt_t, nn_lt_f, nn_eq_t, nn_eq_f, nI_1, nI_add, ni_addl, ni_ladd, pk_mul, ni_mull, b2_t, b2_f, b2_0, one0, m1_eq, ni_m1, reduceCtorEq, Bool.false_eq_true, nI_clamp, if_true, Option.some.injEq, Prod.mk.injEq, and_true, true_and, Nat.reduceAdd, Nat.reduceMul, Nat.reduceSub, Nat.reduceEqDiff, Nat.reduceLeDiff, Nat.reduceLT, ↓gr40_8 hW, ↓gr40_1 hW, ↓gr40_43 hW, e48, Bool.or_self]
    | true => simp (disch := first | assumption | with_unfolding_all exact hW.1 _ _ rfl | rfl | exact pu_okI (by first | assumption | with_unfolding_all exact hW.1 _ _ rfl) (by omega) (by omega) | exact pu_oqI (by first | assumption | with_unfolding_all exact hW.1 _ _ rfl) (by omega) (by omega) | omega | decide) only [↓reduceIte, ↓gi_b, ↓pi_b, ↓gr_b, ↓pr_b, ↓al_b, ↓as_b, ↓al_3, ↓as_3, ↓al_12, ↓as_12, ↓al_l, ↓as_l, ↓rc_b, ↓Option.bind_some, ↓zr0_b, ↓zr1_b, ↓zrb_b, ↓pz0_b, ↓pz1_b, al_b, as_b, rc_b, gi_b, pi_b, gr_b, zr0, zr1, zrb, u_s, u_n, v_s, v_n, ↓isIn_b, ↓within_b, ite_T, ite_F, il_t, il_f, li_t, li_f, it_t, it_f, ti_t, ti_f, ie_t, ie_f, ei_t, ei_f, nn_le_t, nn_le_f, nn_lt_t, nn_lt_f, nn_eq_t, nn_eq_f, nI_1, nI_add, ni_addl, ni_ladd, pk_mul, ni_mull, b2_t, b2_f, b2_0, one0, m1_eq, ni_m1, reduceCtorEq, Bool.false_eq_true, nI_clamp, if_true, Option.some.injEq, Prod.mk.injEq, and_true, true_and, Nat.reduceAdd, Nat.reduceMul, Nat.reduceSub, Nat.reduceEqDiff, Nat.reduceLeDiff, Nat.reduceLT, ↓gr40_8 hW, ↓gr40_1 hW, ↓gr40_43 hW, e48, Bool.or_false]
  | succ m ih =>
    intro b N g hb hN
    obtain ⟨N, rfl⟩ : ∃ N', N = N' + 1 := ⟨N - 1, by omega⟩
    have eer := m_err (J := J) (n := n) hZ hM hi hj (show b < knb (zK Z i) by omega) hI
    have esz := m_size (K := zK Z i) (X := X) (day := td (zT Z) j) (dN_le hX (Nat.le_refl _) b) (tT_le hK (show b < knb (zK Z i) by omega) hd) (pu_hp s I P J n)
    have hle := eZ_le hK hX (Nat.le_refl _) hd (show b < knb (zK Z i) by omega)
    show fX9_mended_106_b k55 (fX9_mended_106 k55 N) _ _ _ _ _ _ _ _ _ _ = if (g || (decide (t < eZ (zK Z i) X (td (zT Z) j) b) || hEA (eZ (zK Z i) X (td (zT Z) j)) t m (b + 1))) = true then _ else _
    unfold fX9_mended_106_b fX9_mended_143 fX9_mended_138
    cases g with
    | false =>
      by_cases e : eZ (zK Z i) X (td (zT Z) j) b ≤ t
      · rw [decide_eq_false (show ¬ t < eZ (zK Z i) X (td (zT Z) j) b by omega)]
        have q := ih (b + 1) N false (by omega) (by omega)
        rw [Bool.false_or] at q ⊢
        rw [Bool.false_or, ← q]
        simp (disch := first | assumption | with_unfolding_all exact hW.1 _ _ rfl | rfl | exact pu_okI (by first | assumption | with_unfolding_all exact hW.1 _ _ rfl) (by omega) (by omega) | exact pu_oqI (by first | assumption | with_unfolding_all exact hW.1 _ _ rfl) (by omega) (by omega) | omega | decide) only [↓reduceIte, ↓gi_b, ↓pi_b, ↓gr_b, ↓pr_b, ↓al_b, ↓as_b, ↓al_3, ↓as_3, ↓al_12, ↓as_12, ↓al_l, ↓as_l, ↓rc_b, ↓Option.bind_some, ↓zr0_b, ↓zr1_b, ↓zrb_b, ↓pz0_b, ↓pz1_b, al_b, as_b, rc_b, gi_b, pi_b, gr_b, zr0, zr1, zrb, u_s, u_n, v_s, v_n, ↓isIn_b, ↓within_b, ite_T, ite_F, il_t, il_f, li_t, li_f, it_t, it_f, ti_t, ti_f, ie_t, ie_f, ei_t, ei_f, nn_le_t, nn_le_f, nn_lt_t, nn_lt_f, nn_eq_t, nn_eq_f, nI_1, nI_add, ni_addl, ni_ladd, pk_mul, ni_mull, b2_t, b2_f, b2_0, one0, m1_eq, ni_m1, reduceCtorEq, Bool.false_eq_true, nI_clamp, if_true, Option.some.injEq, Prod.mk.injEq, and_true, true_and, Nat.reduceAdd, Nat.reduceMul, Nat.reduceSub, Nat.reduceEqDiff, Nat.reduceLeDiff, Nat.reduceLT, ↓gr40_8 hW, ↓gr40_1 hW, ↓gr40_43 hW, e48, eer, esz]
      · rw [decide_eq_true (show t < eZ (zK Z i) X (td (zT Z) j) b by omega)]
        have q := ih (b + 1) N true (by omega) (by omega)
        rw [Bool.true_or] at q
        rw [Bool.true_or, Bool.false_or, ← q]
        simp (disch := first | assumption | with_unfolding_all exact hW.1 _ _ rfl | rfl | exact pu_okI (by first | assumption | with_unfolding_all exact hW.1 _ _ rfl) (by omega) (by omega) | exact pu_oqI (by first | assumption | with_unfolding_all exact hW.1 _ _ rfl) (by omega) (by omega) | omega | decide) only [↓reduceIte, ↓gi_b, ↓pi_b, ↓gr_b, ↓pr_b, ↓al_b, ↓as_b, ↓al_3, ↓as_3, ↓al_12, ↓as_12, ↓al_l, ↓as_l, ↓rc_b, ↓Option.bind_some, ↓zr0_b, ↓zr1_b, ↓zrb_b, ↓pz0_b, ↓pz1_b, al_b, as_b, rc_b, gi_b, pi_b, gr_b, zr0, zr1, zrb, u_s, u_n, v_s, v_n, ↓isIn_b, ↓within_b, ite_T, ite_F, il_t, il_f, li_t, li_f, it_t, it_f, ti_t, ti_f, ie_t, ie_f, ei_t, ei_f, nn_le_t, nn_le_f, nn_lt_t, nn_lt_f, nn_eq_t, nn_eq_f, nI_1, nI_add, ni_addl, ni_ladd, pk_mul, ni_mull, b2_t, b2_f, b2_0, one0, m1_eq, ni_m1, reduceCtorEq, Bool.false_eq_true, nI_clamp, if_true, Option.some.injEq, Prod.mk.injEq, and_true, true_and, Nat.reduceAdd, Nat.reduceMul, Nat.reduceSub, Nat.reduceEqDiff, Nat.reduceLeDiff, Nat.reduceLT, ↓gr40_8 hW, ↓gr40_1 hW, ↓gr40_43 hW, e48, eer, esz]
    | true =>
      have q := ih (b + 1) N true (by omega) (by omega)
      rw [Bool.true_or] at q
      rw [Bool.true_or, ← q]
      simp (disch := first | assumption | with_unfolding_all exact hW.1 _ _ rfl | rfl | exact pu_okI (by first | assumption | with_unfolding_all exact hW.1 _ _ rfl) (by omega) (by omega) | exact pu_oqI (by first | assumption | with_unfolding_all exact hW.1 _ _ rfl) (by omega) (by omega) | omega | decide) only [↓reduceIte, ↓gi_b, ↓pi_b, ↓gr_b, ↓pr_b, ↓al_b, ↓as_b, ↓al_3, ↓as_3, ↓al_12, ↓as_12, ↓al_l, ↓as_l, ↓rc_b, ↓Option.bind_some, ↓zr0_b, ↓zr1_b, ↓zrb_b, ↓pz0_b, ↓pz1_b, al_b, as_b, rc_b, gi_b, pi_b, gr_b, zr0, zr1, zrb, u_s, u_n, v_s, v_n, ↓isIn_b, ↓within_b, ite_T, ite_F, il_t, il_f, li_t, li_f, it_t, it_f, ti_t, ti_f, ie_t, ie_f, ei_t, ei_f, nn_le_t, nn_le_f, nn_lt_t, nn_lt_f, nn_eq_t, nn_eq_f, nI_1, nI_add, ni_addl, ni_ladd, pk_mul, ni_mull, b2_t, b2_f, b2_0, one0, m1_eq, ni_m1, reduceCtorEq, Bool.false_eq_true, nI_clamp, if_true, Option.some.injEq, Prod.mk.injEq, and_true, true_and, Nat.reduceAdd, Nat.reduceMul, Nat.reduceSub, Nat.reduceEqDiff, Nat.reduceLeDiff, Nat.reduceLT, ↓gr40_8 hW, ↓gr40_1 hW, ↓gr40_43 hW, e48]
set_option maxHeartbeats 4000000 in
set_option maxRecDepth 100000 in
theorem m_md55 (hZ : Z_B Z) (hi : i < znc Z) (hj : j < 4) {v dy t : Nat} (hv : v ≤ 2) (hdy : 1 ≤ dy ∧ dy ≤ 30) (ht : t ≤ 96) : ∀ (m d N : Nat) (I : Nat → Nat → Int32), d + m = 61 → m < N → InvM s I P Z →
    Rn (fX9_mended_55 N (some 40) (nI i) (nI j) (nI v) (nI dy) (nI t) (nI d) (pu_hp s I P J n)) fun y => ∃ I', y = (mdM (mdD (zK Z i) (tw (zT Z) j) (td (zT Z) j) v t) dy m d, pu_hp s I' P J n) ∧ RF I I' := by
  have hnc := hZ.1.1
  have hK := (hZ.1.2 i hi).1
  have hO := (hZ.1.2 i hi).2
  have hkn := hK.1
  have hF : S_FB (0, 0, 0, 0) := ⟨Nat.zero_le _, Nat.zero_le _, Nat.zero_le _, Nat.zero_le _⟩
  intro m
  induction m with
  | zero =>
    intro d N I hd hN hM
    obtain ⟨N, rfl⟩ : ∃ N', N = N' + 1 := ⟨N - 1, by omega⟩
    obtain rfl : d = 61 := by omega
    show Rn (fX9_mended_55_b _ _ _ _ _ _ _ _ _) _
    unfold fX9_mended_55_b
    simp (disch := first | assumption | with_unfolding_all exact hW.1 _ _ rfl | rfl | exact pu_okI (by first | assumption | with_unfolding_all exact hW.1 _ _ rfl) (by omega) (by omega) | exact pu_oqI (by first | assumption | with_unfolding_all exact hW.1 _ _ rfl) (by omega) (by omega) | omega | decide) only [↓reduceIte, ↓gi_b, ↓pi_b, ↓gr_b, ↓pr_b, ↓al_b, ↓as_b, ↓al_3, ↓as_3, ↓al_12, ↓as_12, ↓al_l, ↓as_l, ↓rc_b, ↓Option.bind_some, ↓zr0_b, ↓zr1_b, ↓zrb_b, ↓pz0_b, ↓pz1_b, al_b, as_b, rc_b, gi_b, pi_b, gr_b, zr0, zr1, zrb, u_s, u_n, v_s, v_n, ↓isIn_b, ↓within_b, ite_T, ite_F, il_t, il_f, li_t, li_f, it_t, it_f, ti_t, ti_f, ie_t, ie_f, ei_t, ei_f, nn_le_t, nn_le_f, nn_lt_t, nn_lt_f, nn_eq_t, nn_eq_f, nI_1, nI_add, ni_addl, ni_ladd, pk_mul, ni_mull, b2_t, b2_f, b2_0, one0, m1_eq, ni_m1, reduceCtorEq, Bool.false_eq_true, nI_clamp, if_true, Option.some.injEq, Prod.mk.injEq, and_true, true_and, Nat.reduceAdd, Nat.reduceMul, Nat.reduceSub, Nat.reduceEqDiff, Nat.reduceLeDiff, Nat.reduceLT]
    exact Rn_some ⟨I, rfl, fun _ _ _ => rfl⟩
  | succ m ih =>
    intro d N I hd hN hM
    obtain ⟨N, rfl⟩ : ∃ N', N = N' + 1 := ⟨N - 1, by omega⟩
    have hW := hM.1
    have hld : Rn (fX9_load 40 (nI i) (-1) (pu_hp s I P J n)) _ := m_load (q := none) hZ hM hi (fun k hk => by cases hk)
    have hdd : d / dy ≤ d := Nat.div_le_self _ _
    have hK' := kW_B (v := v) (x := d / dy) hK hO (by omega)
    show Rn (fX9_mended_55_b (fX9_mended_55 N) _ _ _ _ _ _ _ _) _
    unfold fX9_mended_55_b fX9_mended_92
    simp (disch := first | assumption | with_unfolding_all exact hW.1 _ _ rfl | rfl | exact pu_okI (by first | assumption | with_unfolding_all exact hW.1 _ _ rfl) (by omega) (by omega) | exact pu_oqI (by first | assumption | with_unfolding_all exact hW.1 _ _ rfl) (by omega) (by omega) | omega | decide) only [↓reduceIte, ↓gi_b, ↓pi_b, ↓gr_b, ↓pr_b, ↓al_b, ↓as_b, ↓al_3, ↓as_3, ↓al_12, ↓as_12, ↓al_l, ↓as_l, ↓rc_b, ↓Option.bind_some, ↓zr0_b, ↓zr1_b, ↓zrb_b, ↓pz0_b, ↓pz1_b, al_b, as_b, rc_b, gi_b, pi_b, gr_b, zr0, zr1, zrb, u_s, u_n, v_s, v_n, ↓isIn_b, ↓within_b, ite_T, ite_F, il_t, il_f, li_t, li_f, it_t, it_f, ti_t, ti_f, ie_t, ie_f, ei_t, ei_f, nn_le_t, nn_le_f, nn_lt_t, nn_lt_f, nn_eq_t, nn_eq_f, nI_1, nI_add, ni_addl, ni_ladd, pk_mul, ni_mull, b2_t, b2_f, b2_0, one0, m1_eq, ni_m1, reduceCtorEq, Bool.false_eq_true, nI_clamp, if_true, Option.some.injEq, Prod.mk.injEq, and_true, true_and, Nat.reduceAdd, Nat.reduceMul, Nat.reduceSub, Nat.reduceEqDiff, Nat.reduceLeDiff, Nat.reduceLT]
    refine Rn_bind hld ?_
    rintro _ ⟨I1, rfl, f1, g1⟩
    have hM1 := L_F.inv hM f1
    have hW := hM1.1
    have e41 := (hM1.2.2.2.1 i hi).1.1
    have f1' : RF I I1 := fun b j hb => f1 b j (by unfold scM at hb; omega) (by unfold scM at hb; omega)
    have goR : ∀ I2, RF I1 I2 → M_L I2 (kW (zK Z i) v (d / dy)) (0, 0, 0, 0) true → Rn ((fX9_run 40 (nI i) (nI j) 95 (pu_hp s I2 P J n)).bind fun y1 => fX9_mended_106 (fX9_mended_55 N) am_fu (some 40) (nI i) (nI j) (nI v) (nI dy) (nI t) (nI d) 0 0 y1) fun y => ∃ I', y = (mdM (mdD (zK Z i) (tw (zT Z) j) (td (zT Z) j) v t) dy (m + 1) d, pu_hp s I' P J n) ∧ RF I I' := by
      intro I2 f2 hl
      have hM2 := f2.inv hM1
      have hc2 := (hM2.2.2.2.1 i hi).1
      have hru : Rn (fX9_run 40 (nI i) (nI j) 95 (pu_hp s I2 P J n)) _ := m_runI (e := 95) (J := J) (n := n) (K := kW (zK Z i) v (d / dy)) hZ hM2 hi hj hF hK' hc2 hl (by omega)
      refine Rn_bind hru ?_
      rintro _ ⟨I3, rfl, f3, g3, -⟩
      have f3' : RF I2 I3 := fun b j hb => f3 b j (by unfold scM at hb; omega) (by unfold scM at hb; omega)
      have hM3 := f3'.inv hM2
      have hX : S_XB (kW (zK Z i) v (d / dy)) 96 (S_at (kW (zK Z i) v (d / dy)) (0, 0, 0, 0) (tw (zT Z) j) true 96) := S_at_b hK' hF 96
      have q := m_md106 (J := J) (n := n) (x := 0) (v0 := 0) (k55 := fX9_mended_55 N) (v := v) (dy := dy) (t := t) (d := d) hZ hM3 hi hj (X := S_at (kW (zK Z i) v (d / dy)) (0, 0, 0, 0) (tw (zT Z) j) true 96) hX g3 ht (knb (zK Z i)) 0 am_fu false (Nat.zero_add _) (by have := hK.2.2.2.2.2.1; unfold am_fu; omega)
      rw [Bool.false_or] at q
      refine Rn_eq q ?_
      have eD : hEA (eZ (zK Z i) (S_at (kW (zK Z i) v (d / dy)) (0, 0, 0, 0) (tw (zT Z) j) true 96) (td (zT Z) j)) t (knb (zK Z i)) 0 = mdD (zK Z i) (tw (zT Z) j) (td (zT Z) j) v t (d / dy) := rfl
      rw [eD]
      show Rn _ fun y => ∃ I', y = ((if mdD (zK Z i) (tw (zT Z) j) (td (zT Z) j) v t (d / dy) = true then nI d else mdM (mdD (zK Z i) (tw (zT Z) j) (td (zT Z) j) v t) dy m (d + 1)), pu_hp s I' P J n) ∧ RF I I'
      cases mdD (zK Z i) (tw (zT Z) j) (td (zT Z) j) v t (d / dy) with
      | true =>
        rw [if_pos rfl, if_pos rfl]
        exact Rn_some ⟨I3, rfl, (f1'.tr f2).tr f3'⟩
      | false =>
        rw [if_neg (by decide), if_neg (by decide)]
        refine Rn_mono (ih (d + 1) N I3 (by omega) (by omega) hM3) ?_
        rintro _ ⟨I4, rfl, f4⟩
        exact ⟨I4, rfl, ((f1'.tr f2).tr f3').tr f4⟩
    have kL : ∀ I2 : Nat → Nat → Int32, (∀ b j, ¬ (b = 68 ∧ j = v) → I2 b j = I1 b j) → (v < kn (zK Z i) → I2 68 v = nI (kO (zK Z i) v + d / dy)) → M_L I2 (kW (zK Z i) v (d / dy)) (0, 0, 0, 0) true := by
      intro I2 fr h68
      obtain ⟨a1, a2, a3, a4, a5, a6, a7⟩ := g1
      refine ⟨fun k hk => ?_, by rw [fr _ _ (by omega), a2]; rfl, by rw [fr _ _ (by omega), a3], by rw [fr _ _ (by omega), a4]; rfl, by rw [fr _ _ (by omega), a5]; rfl, by rw [fr _ _ (by omega), a6]; rfl, by rw [fr _ _ (by omega), a7]; rfl⟩
      show _ = nI (updN (kO (zK Z i)) v (kO (zK Z i) v + d / dy) k)
      by_cases e : k = v
      · subst e; rw [updN_s]; exact h68 hk
      · rw [updN_n e, fr _ _ (by omega), a1 k hk]
    by_cases hvk : v < kn (zK Z i)
    · have e68 := g1.1 v hvk
      simp (disch := first | assumption | with_unfolding_all exact hW.1 _ _ rfl | rfl | exact pu_okI (by first | assumption | with_unfolding_all exact hW.1 _ _ rfl) (by omega) (by omega) | exact pu_oqI (by first | assumption | with_unfolding_all exact hW.1 _ _ rfl) (by omega) (by omega) | omega | decide) only [↓reduceIte, ↓gi_b, ↓pi_b, ↓gr_b, ↓pr_b, ↓al_b, ↓as_b, ↓al_3, ↓as_3, ↓al_12, ↓as_12, ↓al_l, ↓as_l, ↓rc_b, ↓Option.bind_some, ↓zr0_b, ↓zr1_b, ↓zrb_b, ↓pz0_b, ↓pz1_b, al_b, as_b, rc_b, gi_b, pi_b, gr_b, zr0, zr1, zrb, u_s, u_n, v_s, v_n, ↓isIn_b, ↓within_b, ite_T, ite_F, il_t, il_f, li_t, li_f, it_t, it_f, ti_t, ti_f, ie_t, ie_f, ei_t, ei_f, nn_le_t, nn_le_f, nn_lt_t, nn_lt_f, nn_eq_t, nn_eq_f, nI_1, nI_add, ni_addl, ni_ladd, pk_mul, ni_mull, b2_t, b2_f, b2_0, one0, m1_eq, ni_m1, reduceCtorEq, Bool.false_eq_true, nI_clamp, if_true, Option.some.injEq, Prod.mk.injEq, and_true, true_and, Nat.reduceAdd, Nat.reduceMul, Nat.reduceSub, Nat.reduceEqDiff, Nat.reduceLeDiff, Nat.reduceLT, ↓gr40_8 hW, ↓gr40_1 hW, ↓gr40_43 hW, e41, e68, pk_div]
      exact goR _ (fun b j hb => u_n (by unfold scM at hb; omega)) (kL _ (fun b j hb => u_n (by omega)) fun _ => u_s)
    · simp (disch := first | assumption | with_unfolding_all exact hW.1 _ _ rfl | rfl | exact pu_okI (by first | assumption | with_unfolding_all exact hW.1 _ _ rfl) (by omega) (by omega) | exact pu_oqI (by first | assumption | with_unfolding_all exact hW.1 _ _ rfl) (by omega) (by omega) | omega | decide) only [↓reduceIte, ↓gi_b, ↓pi_b, ↓gr_b, ↓pr_b, ↓al_b, ↓as_b, ↓al_3, ↓as_3, ↓al_12, ↓as_12, ↓al_l, ↓as_l, ↓rc_b, ↓Option.bind_some, ↓zr0_b, ↓zr1_b, ↓zrb_b, ↓pz0_b, ↓pz1_b, al_b, as_b, rc_b, gi_b, pi_b, gr_b, zr0, zr1, zrb, u_s, u_n, v_s, v_n, ↓isIn_b, ↓within_b, ite_T, ite_F, il_t, il_f, li_t, li_f, it_t, it_f, ti_t, ti_f, ie_t, ie_f, ei_t, ei_f, nn_le_t, nn_le_f, nn_lt_t, nn_lt_f, nn_eq_t, nn_eq_f, nI_1, nI_add, ni_addl, ni_ladd, pk_mul, ni_mull, b2_t, b2_f, b2_0, one0, m1_eq, ni_m1, reduceCtorEq, Bool.false_eq_true, nI_clamp, if_true, Option.some.injEq, Prod.mk.injEq, and_true, true_and, Nat.reduceAdd, Nat.reduceMul, Nat.reduceSub, Nat.reduceEqDiff, Nat.reduceLeDiff, Nat.reduceLT, ↓gr40_8 hW, ↓gr40_1 hW, ↓gr40_43 hW, e41]
      exact goR I1 (fun _ _ _ => rfl) (kL I1 (fun _ _ _ => rfl) fun q => absurd q hvk)
end MD
set_option maxHeartbeats 4000000 in
set_option maxRecDepth 100000 in
theorem d_mended {Z : S_Z} (hZ : Z_B Z) (v1 v2 v3 v4 v5 : Int32) : CallOK Z (fX8_mended 1 v1 v2 v3 v4 v5) (fX9_mended 40 v1 v2 v3 v4 v5) := by
  have hnc := hZ.1.1
  rcases inB_dec v1 (c := znc Z) (by omega) with ⟨i, hi, rfl, hit⟩ | ⟨hif, -⟩
  · cases h2 : inB v2 0 3 with
    | false =>
      refine CallOK.no hZ (-101) (fun s I P J n h => ?_) (fun s I P J n h => ?_)
      · have hW := h.1
        obtain ⟨c, b1, b2, b3, b4, b5⟩ := h.2.2.2.2.2.1 i hi
        unfold fX8_mended
        simp (disch := first | assumption | with_unfolding_all exact hW.1 _ _ rfl | rfl | exact pu_okI (by first | assumption | with_unfolding_all exact hW.1 _ _ rfl) (by omega) (by omega) | exact pu_oqI (by first | assumption | with_unfolding_all exact hW.1 _ _ rfl) (by omega) (by omega) | omega | decide) only [↓reduceIte, ↓gi_b, ↓pi_b, ↓gr_b, ↓pr_b, ↓al_b, ↓as_b, ↓al_3, ↓as_3, ↓al_12, ↓as_12, ↓al_l, ↓as_l, ↓rc_b, ↓Option.bind_some, ↓zr0_b, ↓zr1_b, ↓zrb_b, ↓pz0_b, ↓pz1_b, al_b, as_b, rc_b, gi_b, pi_b, gr_b, zr0, zr1, zrb, u_s, u_n, v_s, v_n, ↓isIn_b, ↓within_b, ite_T, ite_F, il_t, il_f, li_t, li_f, it_t, it_f, ti_t, ti_f, ie_t, ie_f, ei_t, ei_f, nn_le_t, nn_le_f, nn_lt_t, nn_lt_f, nn_eq_t, nn_eq_f, nI_1, nI_add, ni_addl, ni_ladd, pk_mul, ni_mull, b2_t, b2_f, b2_0, one0, m1_eq, ni_m1, reduceCtorEq, Bool.false_eq_true, nI_clamp, if_true, Option.some.injEq, Prod.mk.injEq, and_true, true_and, Nat.reduceAdd, Nat.reduceMul, Nat.reduceSub, Nat.reduceEqDiff, Nat.reduceLeDiff, Nat.reduceLT, q_clockOf hZ h, hit, b1, ↓season_b, h2]
      · have hW := h.1
        unfold fX9_mended
        simp (disch := first | assumption | with_unfolding_all exact hW.1 _ _ rfl | rfl | exact pu_okI (by first | assumption | with_unfolding_all exact hW.1 _ _ rfl) (by omega) (by omega) | exact pu_oqI (by first | assumption | with_unfolding_all exact hW.1 _ _ rfl) (by omega) (by omega) | omega | decide) only [↓reduceIte, ↓gi_b, ↓pi_b, ↓gr_b, ↓pr_b, ↓al_b, ↓as_b, ↓al_3, ↓as_3, ↓al_12, ↓as_12, ↓al_l, ↓as_l, ↓rc_b, ↓Option.bind_some, ↓zr0_b, ↓zr1_b, ↓zrb_b, ↓pz0_b, ↓pz1_b, al_b, as_b, rc_b, gi_b, pi_b, gr_b, zr0, zr1, zrb, u_s, u_n, v_s, v_n, ↓isIn_b, ↓within_b, ite_T, ite_F, il_t, il_f, li_t, li_f, it_t, it_f, ti_t, ti_f, ie_t, ie_f, ei_t, ei_f, nn_le_t, nn_le_f, nn_lt_t, nn_lt_f, nn_eq_t, nn_eq_f, nI_1, nI_add, ni_addl, ni_ladd, pk_mul, ni_mull, b2_t, b2_f, b2_0, one0, m1_eq, ni_m1, reduceCtorEq, Bool.false_eq_true, nI_clamp, if_true, Option.some.injEq, Prod.mk.injEq, and_true, true_and, Nat.reduceAdd, Nat.reduceMul, Nat.reduceSub, Nat.reduceEqDiff, Nat.reduceLeDiff, Nat.reduceLT, q_isClock h, hit, ↓seasonM_b, h2]
    | true =>
      obtain ⟨j, hj, rfl⟩ := inB_of (hi := 3) (by omega) h2
      have hj4 : j < 4 := by omega
      cases h3 : inB v3 0 2 with
      | false =>
        refine CallOK.no hZ (-102) (fun s I P J n h => ?_) (fun s I P J n h => ?_)
        · have hW := h.1
          obtain ⟨c, b1, b2, b3, b4, b5⟩ := h.2.2.2.2.2.1 i hi
          unfold fX8_mended
          simp (disch := first | assumption | with_unfolding_all exact hW.1 _ _ rfl | rfl | exact pu_okI (by first | assumption | with_unfolding_all exact hW.1 _ _ rfl) (by omega) (by omega) | exact pu_oqI (by first | assumption | with_unfolding_all exact hW.1 _ _ rfl) (by omega) (by omega) | omega | decide) only [↓reduceIte, ↓gi_b, ↓pi_b, ↓gr_b, ↓pr_b, ↓al_b, ↓as_b, ↓al_3, ↓as_3, ↓al_12, ↓as_12, ↓al_l, ↓as_l, ↓rc_b, ↓Option.bind_some, ↓zr0_b, ↓zr1_b, ↓zrb_b, ↓pz0_b, ↓pz1_b, al_b, as_b, rc_b, gi_b, pi_b, gr_b, zr0, zr1, zrb, u_s, u_n, v_s, v_n, ↓isIn_b, ↓within_b, ite_T, ite_F, il_t, il_f, li_t, li_f, it_t, it_f, ti_t, ti_f, ie_t, ie_f, ei_t, ei_f, nn_le_t, nn_le_f, nn_lt_t, nn_lt_f, nn_eq_t, nn_eq_f, nI_1, nI_add, ni_addl, ni_ladd, pk_mul, ni_mull, b2_t, b2_f, b2_0, one0, m1_eq, ni_m1, reduceCtorEq, Bool.false_eq_true, nI_clamp, if_true, Option.some.injEq, Prod.mk.injEq, and_true, true_and, Nat.reduceAdd, Nat.reduceMul, Nat.reduceSub, Nat.reduceEqDiff, Nat.reduceLeDiff, Nat.reduceLT, q_clockOf hZ h, hit, b1, ↓season_b, h2, h3]
        · have hW := h.1
          unfold fX9_mended
          simp (disch := first | assumption | with_unfolding_all exact hW.1 _ _ rfl | rfl | exact pu_okI (by first | assumption | with_unfolding_all exact hW.1 _ _ rfl) (by omega) (by omega) | exact pu_oqI (by first | assumption | with_unfolding_all exact hW.1 _ _ rfl) (by omega) (by omega) | omega | decide) only [↓reduceIte, ↓gi_b, ↓pi_b, ↓gr_b, ↓pr_b, ↓al_b, ↓as_b, ↓al_3, ↓as_3, ↓al_12, ↓as_12, ↓al_l, ↓as_l, ↓rc_b, ↓Option.bind_some, ↓zr0_b, ↓zr1_b, ↓zrb_b, ↓pz0_b, ↓pz1_b, al_b, as_b, rc_b, gi_b, pi_b, gr_b, zr0, zr1, zrb, u_s, u_n, v_s, v_n, ↓isIn_b, ↓within_b, ite_T, ite_F, il_t, il_f, li_t, li_f, it_t, it_f, ti_t, ti_f, ie_t, ie_f, ei_t, ei_f, nn_le_t, nn_le_f, nn_lt_t, nn_lt_f, nn_eq_t, nn_eq_f, nI_1, nI_add, ni_addl, ni_ladd, pk_mul, ni_mull, b2_t, b2_f, b2_0, one0, m1_eq, ni_m1, reduceCtorEq, Bool.false_eq_true, nI_clamp, if_true, Option.some.injEq, Prod.mk.injEq, and_true, true_and, Nat.reduceAdd, Nat.reduceMul, Nat.reduceSub, Nat.reduceEqDiff, Nat.reduceLeDiff, Nat.reduceLT, q_isClock h, hit, ↓seasonM_b, h2, h3]
      | true =>
        obtain ⟨v, hv, rfl⟩ := inB_of (hi := 2) (by omega) h3
        cases h4 : inB v4 1 30 with
        | false =>
          refine CallOK.no hZ (-102) (fun s I P J n h => ?_) (fun s I P J n h => ?_)
          · have hW := h.1
            obtain ⟨c, b1, b2, b3, b4, b5⟩ := h.2.2.2.2.2.1 i hi
            unfold fX8_mended
            simp (disch := first | assumption | with_unfolding_all exact hW.1 _ _ rfl | rfl | exact pu_okI (by first | assumption | with_unfolding_all exact hW.1 _ _ rfl) (by omega) (by omega) | exact pu_oqI (by first | assumption | with_unfolding_all exact hW.1 _ _ rfl) (by omega) (by omega) | omega | decide) only [↓reduceIte, ↓gi_b, ↓pi_b, ↓gr_b, ↓pr_b, ↓al_b, ↓as_b, ↓al_3, ↓as_3, ↓al_12, ↓as_12, ↓al_l, ↓as_l, ↓rc_b, ↓Option.bind_some, ↓zr0_b, ↓zr1_b, ↓zrb_b, ↓pz0_b, ↓pz1_b, al_b, as_b, rc_b, gi_b, pi_b, gr_b, zr0, zr1, zrb, u_s, u_n, v_s, v_n, ↓isIn_b, ↓within_b, ite_T, ite_F, il_t, il_f, li_t, li_f, it_t, it_f, ti_t, ti_f, ie_t, ie_f, ei_t, ei_f, nn_le_t, nn_le_f, nn_lt_t, nn_lt_f, nn_eq_t, nn_eq_f, nI_1, nI_add, ni_addl, ni_ladd, pk_mul, ni_mull, b2_t, b2_f, b2_0, one0, m1_eq, ni_m1, reduceCtorEq, Bool.false_eq_true, nI_clamp, if_true, Option.some.injEq, Prod.mk.injEq, and_true, true_and, Nat.reduceAdd, Nat.reduceMul, Nat.reduceSub, Nat.reduceEqDiff, Nat.reduceLeDiff, Nat.reduceLT, q_clockOf hZ h, hit, b1, ↓season_b, h2, h3, h4]
          · have hW := h.1
            unfold fX9_mended
            simp (disch := first | assumption | with_unfolding_all exact hW.1 _ _ rfl | rfl | exact pu_okI (by first | assumption | with_unfolding_all exact hW.1 _ _ rfl) (by omega) (by omega) | exact pu_oqI (by first | assumption | with_unfolding_all exact hW.1 _ _ rfl) (by omega) (by omega) | omega | decide) only [↓reduceIte, ↓gi_b, ↓pi_b, ↓gr_b, ↓pr_b, ↓al_b, ↓as_b, ↓al_3, ↓as_3, ↓al_12, ↓as_12, ↓al_l, ↓as_l, ↓rc_b, ↓Option.bind_some, ↓zr0_b, ↓zr1_b, ↓zrb_b, ↓pz0_b, ↓pz1_b, al_b, as_b, rc_b, gi_b, pi_b, gr_b, zr0, zr1, zrb, u_s, u_n, v_s, v_n, ↓isIn_b, ↓within_b, ite_T, ite_F, il_t, il_f, li_t, li_f, it_t, it_f, ti_t, ti_f, ie_t, ie_f, ei_t, ei_f, nn_le_t, nn_le_f, nn_lt_t, nn_lt_f, nn_eq_t, nn_eq_f, nI_1, nI_add, ni_addl, ni_ladd, pk_mul, ni_mull, b2_t, b2_f, b2_0, one0, m1_eq, ni_m1, reduceCtorEq, Bool.false_eq_true, nI_clamp, if_true, Option.some.injEq, Prod.mk.injEq, and_true, true_and, Nat.reduceAdd, Nat.reduceMul, Nat.reduceSub, Nat.reduceEqDiff, Nat.reduceLeDiff, Nat.reduceLT, q_isClock h, hit, ↓seasonM_b, h2, h3, h4]
        | true =>
          obtain ⟨dy, hdy1, hdy2, rfl⟩ := inB_mid (lo := 1) (hi := 30) (by omega) (by omega) h4
          cases h5 : inB v5 0 96 with
          | false =>
            refine CallOK.no hZ (-102) (fun s I P J n h => ?_) (fun s I P J n h => ?_)
            · have hW := h.1
              obtain ⟨c, b1, b2, b3, b4, b5⟩ := h.2.2.2.2.2.1 i hi
              unfold fX8_mended
              simp (disch := first | assumption | with_unfolding_all exact hW.1 _ _ rfl | rfl | exact pu_okI (by first | assumption | with_unfolding_all exact hW.1 _ _ rfl) (by omega) (by omega) | exact pu_oqI (by first | assumption | with_unfolding_all exact hW.1 _ _ rfl) (by omega) (by omega) | omega | decide) only [↓reduceIte, ↓gi_b, ↓pi_b, ↓gr_b, ↓pr_b, ↓al_b, ↓as_b, ↓al_3, ↓as_3, ↓al_12, ↓as_12, ↓al_l, ↓as_l, ↓rc_b, ↓Option.bind_some, ↓zr0_b, ↓zr1_b, ↓zrb_b, ↓pz0_b, ↓pz1_b, al_b, as_b, rc_b, gi_b, pi_b, gr_b, zr0, zr1, zrb, u_s, u_n, v_s, v_n, ↓isIn_b, ↓within_b, ite_T, ite_F, il_t, il_f, li_t, li_f, it_t, it_f, ti_t, ti_f, ie_t, ie_f, ei_t, ei_f, nn_le_t, nn_le_f, nn_lt_t, nn_lt_f, nn_eq_t, nn_eq_f, nI_1, nI_add, ni_addl, ni_ladd, pk_mul, ni_mull, b2_t, b2_f, b2_0, one0, m1_eq, ni_m1, reduceCtorEq, Bool.false_eq_true, nI_clamp, if_true, Option.some.injEq, Prod.mk.injEq, and_true, true_and, Nat.reduceAdd, Nat.reduceMul, Nat.reduceSub, Nat.reduceEqDiff, Nat.reduceLeDiff, Nat.reduceLT, q_clockOf hZ h, hit, b1, ↓season_b, h2, h3, h4, h5]
            · have hW := h.1
              unfold fX9_mended
              simp (disch := first | assumption | with_unfolding_all exact hW.1 _ _ rfl | rfl | exact pu_okI (by first | assumption | with_unfolding_all exact hW.1 _ _ rfl) (by omega) (by omega) | exact pu_oqI (by first | assumption | with_unfolding_all exact hW.1 _ _ rfl) (by omega) (by omega) | omega | decide) only [↓reduceIte, ↓gi_b, ↓pi_b, ↓gr_b, ↓pr_b, ↓al_b, ↓as_b, ↓al_3, ↓as_3, ↓al_12, ↓as_12, ↓al_l, ↓as_l, ↓rc_b, ↓Option.bind_some, ↓zr0_b, ↓zr1_b, ↓zrb_b, ↓pz0_b, ↓pz1_b, al_b, as_b, rc_b, gi_b, pi_b, gr_b, zr0, zr1, zrb, u_s, u_n, v_s, v_n, ↓isIn_b, ↓within_b, ite_T, ite_F, il_t, il_f, li_t, li_f, it_t, it_f, ti_t, ti_f, ie_t, ie_f, ei_t, ei_f, nn_le_t, nn_le_f, nn_lt_t, nn_lt_f, nn_eq_t, nn_eq_f, nI_1, nI_add, ni_addl, ni_ladd, pk_mul, ni_mull, b2_t, b2_f, b2_0, one0, m1_eq, ni_m1, reduceCtorEq, Bool.false_eq_true, nI_clamp, if_true, Option.some.injEq, Prod.mk.injEq, and_true, true_and, Nat.reduceAdd, Nat.reduceMul, Nat.reduceSub, Nat.reduceEqDiff, Nat.reduceLeDiff, Nat.reduceLT, q_isClock h, hit, ↓seasonM_b, h2, h3, h4, h5]
          | true =>
            obtain ⟨t, ht, rfl⟩ := inB_of (hi := 96) (by omega) h5
            refine CallOK.q hZ ⟨mdM (mdD (zK Z i) (tw (zT Z) j) (td (zT Z) j) v t) dy 61 0, fun s I P J n h => ?_, fun s I P J n h => ?_⟩
            · have hW := h.1
              obtain ⟨c, b1, b2, b3, b4, b5⟩ := h.2.2.2.2.2.1 i hi
              unfold fX8_mended
              simp (disch := first | assumption | with_unfolding_all exact hW.1 _ _ rfl | rfl | exact pu_okI (by first | assumption | with_unfolding_all exact hW.1 _ _ rfl) (by omega) (by omega) | exact pu_oqI (by first | assumption | with_unfolding_all exact hW.1 _ _ rfl) (by omega) (by omega) | omega | decide) only [↓reduceIte, ↓gi_b, ↓pi_b, ↓gr_b, ↓pr_b, ↓al_b, ↓as_b, ↓al_3, ↓as_3, ↓al_12, ↓as_12, ↓al_l, ↓as_l, ↓rc_b, ↓Option.bind_some, ↓zr0_b, ↓zr1_b, ↓zrb_b, ↓pz0_b, ↓pz1_b, al_b, as_b, rc_b, gi_b, pi_b, gr_b, zr0, zr1, zrb, u_s, u_n, v_s, v_n, ↓isIn_b, ↓within_b, ite_T, ite_F, il_t, il_f, li_t, li_f, it_t, it_f, ti_t, ti_f, ie_t, ie_f, ei_t, ei_f, nn_le_t, nn_le_f, nn_lt_t, nn_lt_f, nn_eq_t, nn_eq_f, nI_1, nI_add, ni_addl, ni_ladd, pk_mul, ni_mull, b2_t, b2_f, b2_0, one0, m1_eq, ni_m1, reduceCtorEq, Bool.false_eq_true, nI_clamp, if_true, Option.some.injEq, Prod.mk.injEq, and_true, true_and, Nat.reduceAdd, Nat.reduceMul, Nat.reduceSub, Nat.reduceEqDiff, Nat.reduceLeDiff, Nat.reduceLT, ↓gr1_14 hW, ↓gr1_11 hW, ↓gr1_12 hW, q_clockOf hZ h, hit, b1, ↓season_b, h2, h3, h4, h5]
              refine Rn_bind (c_copyK (CS_15 hW) b4 (by omega) (hZ.1.2 i hi).1 b5) ?_
              rintro _ ⟨I1, rfl, g1, f1⟩
              have f1' : SF I I1 P P := ⟨fun b j hb => f1 b j (by unfold scC at hb; omega), fun _ _ _ => rfl⟩
              have q := c_md68 (s := s) (J := J) (n := n) hZ hi hj4 hv ⟨hdy1, hdy2⟩ ht 61 0 am_fu I1 P (by omega) (by unfold am_fu; omega) (f1'.inv h) (kW_0 g1)
              rw [Nat.zero_mul] at q
              refine Rn_mono q ?_
              rintro _ ⟨I2, P2, rfl, f2⟩
              have f12 := f1'.tr f2
              exact QC.of h f12.1 f12.2
            · have hW := h.1
              unfold fX9_mended
              simp (disch := first | assumption | with_unfolding_all exact hW.1 _ _ rfl | rfl | exact pu_okI (by first | assumption | with_unfolding_all exact hW.1 _ _ rfl) (by omega) (by omega) | exact pu_oqI (by first | assumption | with_unfolding_all exact hW.1 _ _ rfl) (by omega) (by omega) | omega | decide) only [↓reduceIte, ↓gi_b, ↓pi_b, ↓gr_b, ↓pr_b, ↓al_b, ↓as_b, ↓al_3, ↓as_3, ↓al_12, ↓as_12, ↓al_l, ↓as_l, ↓rc_b, ↓Option.bind_some, ↓zr0_b, ↓zr1_b, ↓zrb_b, ↓pz0_b, ↓pz1_b, al_b, as_b, rc_b, gi_b, pi_b, gr_b, zr0, zr1, zrb, u_s, u_n, v_s, v_n, ↓isIn_b, ↓within_b, ite_T, ite_F, il_t, il_f, li_t, li_f, it_t, it_f, ti_t, ti_f, ie_t, ie_f, ei_t, ei_f, nn_le_t, nn_le_f, nn_lt_t, nn_lt_f, nn_eq_t, nn_eq_f, nI_1, nI_add, ni_addl, ni_ladd, pk_mul, ni_mull, b2_t, b2_f, b2_0, one0, m1_eq, ni_m1, reduceCtorEq, Bool.false_eq_true, nI_clamp, if_true, Option.some.injEq, Prod.mk.injEq, and_true, true_and, Nat.reduceAdd, Nat.reduceMul, Nat.reduceSub, Nat.reduceEqDiff, Nat.reduceLeDiff, Nat.reduceLT, q_isClock h, hit, ↓seasonM_b, h2, h3, h4, h5]
              rw [show (0 : Int32) = nI 0 from rfl]
              refine Rn_mono (m_md55 (s := s) (J := J) (n := n) hZ hi hj4 hv ⟨hdy1, hdy2⟩ ht 61 0 am_fu I (by omega) (by unfold am_fu; omega) h) ?_
              rintro _ ⟨I2, rfl, f2⟩
              exact QM.of h f2
  · refine CallOK.no hZ (-101) (fun s I P J n h => ?_) (fun s I P J n h => ?_)
    · have hW := h.1
      unfold fX8_mended
      simp (disch := first | assumption | with_unfolding_all exact hW.1 _ _ rfl | rfl | exact pu_okI (by first | assumption | with_unfolding_all exact hW.1 _ _ rfl) (by omega) (by omega) | exact pu_oqI (by first | assumption | with_unfolding_all exact hW.1 _ _ rfl) (by omega) (by omega) | omega | decide) only [↓reduceIte, ↓gi_b, ↓pi_b, ↓gr_b, ↓pr_b, ↓al_b, ↓as_b, ↓al_3, ↓as_3, ↓al_12, ↓as_12, ↓al_l, ↓as_l, ↓rc_b, ↓Option.bind_some, ↓zr0_b, ↓zr1_b, ↓zrb_b, ↓pz0_b, ↓pz1_b, al_b, as_b, rc_b, gi_b, pi_b, gr_b, zr0, zr1, zrb, u_s, u_n, v_s, v_n, ↓isIn_b, ↓within_b, ite_T, ite_F, il_t, il_f, li_t, li_f, it_t, it_f, ti_t, ti_f, ie_t, ie_f, ei_t, ei_f, nn_le_t, nn_le_f, nn_lt_t, nn_lt_f, nn_eq_t, nn_eq_f, nI_1, nI_add, ni_addl, ni_ladd, pk_mul, ni_mull, b2_t, b2_f, b2_0, one0, m1_eq, ni_m1, reduceCtorEq, Bool.false_eq_true, nI_clamp, if_true, Option.some.injEq, Prod.mk.injEq, and_true, true_and, Nat.reduceAdd, Nat.reduceMul, Nat.reduceSub, Nat.reduceEqDiff, Nat.reduceLeDiff, Nat.reduceLT, q_clockOf hZ h, hif]
    · have hW := h.1
      unfold fX9_mended
      simp (disch := first | assumption | with_unfolding_all exact hW.1 _ _ rfl | rfl | exact pu_okI (by first | assumption | with_unfolding_all exact hW.1 _ _ rfl) (by omega) (by omega) | exact pu_oqI (by first | assumption | with_unfolding_all exact hW.1 _ _ rfl) (by omega) (by omega) | omega | decide) only [↓reduceIte, ↓gi_b, ↓pi_b, ↓gr_b, ↓pr_b, ↓al_b, ↓as_b, ↓al_3, ↓as_3, ↓al_12, ↓as_12, ↓al_l, ↓as_l, ↓rc_b, ↓Option.bind_some, ↓zr0_b, ↓zr1_b, ↓zrb_b, ↓pz0_b, ↓pz1_b, al_b, as_b, rc_b, gi_b, pi_b, gr_b, zr0, zr1, zrb, u_s, u_n, v_s, v_n, ↓isIn_b, ↓within_b, ite_T, ite_F, il_t, il_f, li_t, li_f, it_t, it_f, ti_t, ti_f, ie_t, ie_f, ei_t, ei_f, nn_le_t, nn_le_f, nn_lt_t, nn_lt_f, nn_eq_t, nn_eq_f, nI_1, nI_add, ni_addl, ni_ladd, pk_mul, ni_mull, b2_t, b2_f, b2_0, one0, m1_eq, ni_m1, reduceCtorEq, Bool.false_eq_true, nI_clamp, if_true, Option.some.injEq, Prod.mk.injEq, and_true, true_and, Nat.reduceAdd, Nat.reduceMul, Nat.reduceSub, Nat.reduceEqDiff, Nat.reduceLeDiff, Nat.reduceLT, q_isClock h, hif]
