/-! calls: mean -/
def szN (a b : Nat) : Nat := (a - b) + (b - a)
theorem sz_neg {a b : Nat} (ha : a < 1000000) (hb : b < 1000000) : (if (0 : Int32) ≤ nI a - nI b then nI a - nI b else -(nI a - nI b)) = nI (szN a b) := by
  unfold szN
  by_cases h : b ≤ a
  · rw [pk_sub h, if_pos (nI_pos' (by omega))]; congr 1; omega
  · rw [if_neg (by rw [Int32.not_le]; exact pk_sneg (by omega) (by omega)), Int32.neg_sub, pk_sub (by omega)]; congr 1; omega
theorem sz_sub {a b : Nat} (ha : a < 1000000) (hb : b < 1000000) : (if (0 : Int32) ≤ nI a - nI b then nI a - nI b else 0 - (nI a - nI b)) = nI (szN a b) := by
  rw [Int32.zero_sub]; exact sz_neg ha hb
/-- the size of an error -/
def eZ (K : S_K) (X : S_X) (day b : Nat) : Nat := szN (dN X b) (tT K day b)
def sumN (f : Nat → Nat) : Nat → Nat
  | 0 => 0
  | b + 1 => sumN f b + f b
theorem sumN_le {f : Nat → Nat} {m : Nat} (h : ∀ b, f b ≤ m) : ∀ b, sumN f b ≤ m * b
  | 0 => Nat.zero_le _
  | b + 1 => by
    have := sumN_le h b
    have h2 := h b
    show sumN f b + f b ≤ m * (b + 1)
    rw [Nat.mul_add]; omega
theorem tT_le {K : S_K} {day b : Nat} (hK : S_KB K) (hb : b < knb K) (hd : day ≤ 72) : tT K day b ≤ 72 := by
  unfold tT
  have h1 : (b + 1) * day ≤ knb K * 72 := Nat.mul_le_mul (by omega) hd
  calc (b + 1) * day / knb K ≤ knb K * 72 / knb K := Nat.div_le_div_right h1
    _ = 72 := Nat.mul_div_cancel_left 72 (by have := hK.2.2.2.2.2.1; omega)
theorem tT_lt {K : S_K} {day b : Nat} (hK : S_KB K) (hd : day ≤ 72) (hb : b < 1000) : tT K day b ≤ 72000 := by
  unfold tT
  have h1 : (b + 1) * day ≤ 1000 * 72 := Nat.mul_le_mul (by omega) hd
  exact Nat.le_trans (Nat.div_le_self _ _) (by omega)
theorem dN_le {K : S_K} {t : Nat} {X : S_X} (h : S_XB K t X) (ht : t ≤ 96) (b : Nat) : dN X b ≤ 96 := by
  unfold dN
  split
  · rename_i hb
    have := h.2.2.2.2.2.2.2.2.2 b hb
    omega
  · omega
theorem eZ_le {K : S_K} {t : Nat} {X : S_X} (hK : S_KB K) (h : S_XB K t X) (ht : t ≤ 96) {day b : Nat} (hd : day ≤ 72) (hb : b < knb K) : eZ K X day b ≤ 96 := by
  have h1 := dN_le h ht b
  have h2 := tT_le hK hb hd
  unfold eZ szN; omega
theorem sumE_le {K : S_K} {X : S_X} (hK : S_KB K) (h : S_XB K 96 X) {day : Nat} (hd : day ≤ 72) : sumN (eZ K X day) (knb K) ≤ 96 * 12 := by
  have : ∀ b, b ≤ knb K → sumN (eZ K X day) b ≤ 96 * b := by
    intro b
    induction b with
    | zero => intro _; exact Nat.zero_le _
    | succ b ihb =>
      intro hbk
      have q1 := ihb (by omega)
      have q2 := eZ_le hK h (Nat.le_refl _) hd (show b < knb K by omega)
      show sumN (eZ K X day) b + eZ K X day b ≤ _
      omega
  have h1 := this _ (Nat.le_refl _)
  have h2 := hK.2.2.2.2.2.1
  omega
section C2
variable {s : Nat → Option pu_S} {I : Nat → Nat → Int32} {P : Nat → Nat → Option Nat} {J : Nat → Nat → Int64} {n : Nat × Nat}
variable {Z : S_Z} {i j t : Nat} {q : Option Nat} {I0 : Nat → Nat → Int32} {P0 : Nat → Nat → Option Nat}
theorem RunAt.size (hZ : Z_B Z) (hi : i < znc Z) (hq : ∀ k, q = some k → k < znf Z) (ht : t ≤ 96) (hR : RunAt s I P Z i j q t I0 P0) {b day : Nat} (hb : b < knb (zK Z i)) (hd : day ≤ 72) : fX5_errorSize 23 (nI b) (nI day) (pu_hp s I0 P0 J n) = some (nI (eZ (zK Z i) (S_at (zK Z i) (oF Z q) (tw (zT Z) j) true t) day b), pu_hp s I0 P0 J n) := by
  have e := RunAt.err (J := J) (n := n) hZ hi hq ht hR hb hd
  have h1 := dN_le (RunAt.b (t := t) hZ hi hq (tw (zT Z) j)) ht b
  have h2 := tT_le (hZ.1.2 i hi).1 hb hd
  obtain ⟨c, f, -, -, -, h4, -⟩ := hR
  have r1 := h4.1
  unfold fX5_errorSize
  simp (disch := first | assumption | with_unfolding_all exact hW.1 _ _ rfl | rfl | exact pu_okI (by first | assumption | with_unfolding_all exact hW.1 _ _ rfl) (by omega) (by omega) | exact pu_oqI (by first | assumption | with_unfolding_all exact hW.1 _ _ rfl) (by omega) (by omega) | omega | decide) only [↓reduceIte, ↓gi_b, ↓pi_b, ↓gr_b, ↓pr_b, ↓al_b, ↓as_b, ↓al_3, ↓as_3, ↓al_12, ↓as_12, ↓al_l, ↓as_l, ↓rc_b, ↓Option.bind_some, ↓zr0_b, ↓zr1_b, ↓zrb_b, ↓pz0_b, ↓pz1_b, al_b, as_b, rc_b, gi_b, pi_b, gr_b, zr0, zr1, zrb, u_s, u_n, v_s, v_n, ↓isIn_b, ite_T, ite_F, il_t, il_f, li_t, li_f, it_t, it_f, ti_t, ti_f, ie_t, ie_f, ei_t, ei_f, nn_le_t, nn_le_f, nn_lt_t, nn_lt_f, nn_eq_t, nn_eq_f, nI_1, nI_add, ni_addl, ni_ladd, pk_mul, ni_mull, b2_t, b2_f, b2_0, one0, m1_eq, ni_m1, reduceCtorEq, Bool.false_eq_true, nI_clamp, if_true, Option.some.injEq, Prod.mk.injEq, and_true, true_and, Nat.reduceAdd, Nat.reduceMul, Nat.reduceSub, Nat.reduceEqDiff, Nat.reduceLeDiff, Nat.reduceLT, e]
  rw [sz_sub (by omega) (by omega)]; rfl
theorem gcd_step (a b : Nat) : Nat.gcd a b = Nat.gcd b (a % b) := by
  rw [Nat.gcd_comm a b, Nat.gcd_rec b a, Nat.gcd_comm]
set_option maxHeartbeats 4000000 in
set_option maxRecDepth 100000 in
theorem c_gcd (h : am_H) : ∀ (N i a b : Nat), b < N → b + i < 100 → a < 1000000 → fX8_commonMeasure_7 N (nI a) (nI b) (nI i) h = some (nI (Nat.gcd a b), h) := by
  intro N
  induction N with
  | zero => intro i a b h1; omega
  | succ N ih =>
    intro i a b h1 h2 h3
    show fX8_commonMeasure_7_b _ _ _ _ _ = _
    unfold fX8_commonMeasure_7_b
    by_cases hb : b = 0
    · subst hb
      simp (disch := first | assumption | with_unfolding_all exact hW.1 _ _ rfl | rfl | exact pu_okI (by first | assumption | with_unfolding_all exact hW.1 _ _ rfl) (by omega) (by omega) | exact pu_oqI (by first | assumption | with_unfolding_all exact hW.1 _ _ rfl) (by omega) (by omega) | omega | decide) only [↓reduceIte, ↓gi_b, ↓pi_b, ↓gr_b, ↓pr_b, ↓al_b, ↓as_b, ↓al_3, ↓as_3, ↓al_12, ↓as_12, ↓al_l, ↓as_l, ↓rc_b, ↓Option.bind_some, ↓zr0_b, ↓zr1_b, ↓zrb_b, ↓pz0_b, ↓pz1_b, al_b, as_b, rc_b, gi_b, pi_b, gr_b, zr0, zr1, zrb, u_s, u_n, v_s, v_n, ↓isIn_b, ite_T, ite_F, il_t, il_f, li_t, li_f, it_t, it_f, ti_t, ti_f, ie_t, ie_f, ei_t, ei_f, nn_le_t, nn_le_f, nn_lt_t, nn_lt_f, nn_eq_t, nn_eq_f, nI_1, nI_add, ni_addl, ni_ladd, pk_mul, ni_mull, b2_t, b2_f, b2_0, one0, m1_eq, ni_m1, reduceCtorEq, Bool.false_eq_true, nI_clamp, if_true, Option.some.injEq, Prod.mk.injEq, and_true, true_and, Nat.reduceAdd, Nat.reduceMul, Nat.reduceSub, Nat.reduceEqDiff, Nat.reduceLeDiff, Nat.reduceLT, Nat.gcd_zero_right]
    · have hlt : a % b < b := Nat.mod_lt _ (by omega)
      rw [gcd_step a b]
      simp (disch := first | assumption | with_unfolding_all exact hW.1 _ _ rfl | rfl | exact pu_okI (by first | assumption | with_unfolding_all exact hW.1 _ _ rfl) (by omega) (by omega) | exact pu_oqI (by first | assumption | with_unfolding_all exact hW.1 _ _ rfl) (by omega) (by omega) | omega | decide) only [↓reduceIte, ↓gi_b, ↓pi_b, ↓gr_b, ↓pr_b, ↓al_b, ↓as_b, ↓al_3, ↓as_3, ↓al_12, ↓as_12, ↓al_l, ↓as_l, ↓rc_b, ↓Option.bind_some, ↓zr0_b, ↓zr1_b, ↓zrb_b, ↓pz0_b, ↓pz1_b, al_b, as_b, rc_b, gi_b, pi_b, gr_b, zr0, zr1, zrb, u_s, u_n, v_s, v_n, ↓isIn_b, ite_T, ite_F, il_t, il_f, li_t, li_f, it_t, it_f, ti_t, ti_f, ie_t, ie_f, ei_t, ei_f, nn_le_t, nn_le_f, nn_lt_t, nn_lt_f, nn_eq_t, nn_eq_f, nI_1, nI_add, ni_addl, ni_ladd, pk_mul, ni_mull, b2_t, b2_f, b2_0, one0, m1_eq, ni_m1, reduceCtorEq, Bool.false_eq_true, nI_clamp, if_true, Option.some.injEq, Prod.mk.injEq, and_true, true_and, Nat.reduceAdd, Nat.reduceMul, Nat.reduceSub, Nat.reduceEqDiff, Nat.reduceLeDiff, Nat.reduceLT, pk_rem]
      exact ih (i + 1) b (a % b) (by omega) (by omega) (by omega)
set_option maxHeartbeats 4000000 in
set_option maxRecDepth 100000 in
theorem c_mean41 (hZ : Z_B Z) (h : InvC s I P n Z) (hi : i < znc Z) (hj : j < 4) (hq : ∀ k, q = some k → k < znf Z) (hR : RunAt s I P Z i j q 96 I0 P0) {v4 : Int32} : ∀ (m b N : Nat), b + m = knb (zK Z i) → m < N → fX8_mean_41 N (some 1) (nI j) v4 (nI (sumN (eZ (zK Z i) (S_at (zK Z i) (oF Z q) (tw (zT Z) j) true 96) (td (zT Z) j)) b)) (nI b) (pu_hp s I0 P0 J n) = some (nI ((if v4 = 0 then sumN (eZ (zK Z i) (S_at (zK Z i) (oF Z q) (tw (zT Z) j) true 96) (td (zT Z) j)) (knb (zK Z i)) else knb (zK Z i)) / Nat.gcd (sumN (eZ (zK Z i) (S_at (zK Z i) (oF Z q) (tw (zT Z) j) true 96) (td (zT Z) j)) (knb (zK Z i))) (knb (zK Z i))), pu_hp s I0 P0 J n) := by
  have hW := (hR.inv h).1
  have hnb := (hZ.1.2 i hi).1.2.2.2.2.2.1
  have hd := (hZ.2.2.2.1.1 j hj).2.2
  obtain ⟨c, f, h1, h2, h3, h4, h5, h6, h7, h8⟩ := id hR
  have hc1 := h5.1
  intro m
  induction m with
  | zero =>
    intro b N hb hN
    obtain ⟨N, rfl⟩ : ∃ N', N = N' + 1 := ⟨N - 1, by omega⟩
    obtain rfl : b = knb (zK Z i) := by omega
    have hs := sumE_le (hZ.1.2 i hi).1 (RunAt.b (t := 96) hZ hi hq (tw (zT Z) j)) hd
    generalize hE : eZ (zK Z i) (S_at (zK Z i) (oF Z q) (tw (zT Z) j) true 96) (td (zT Z) j) = E at hs ⊢
    have hg : 1 ≤ Nat.gcd (sumN E (knb (zK Z i))) (knb (zK Z i)) := Nat.gcd_pos_of_pos_right _ (by omega)
    have hg2 : Nat.gcd (sumN E (knb (zK Z i))) (knb (zK Z i)) ≤ knb (zK Z i) := Nat.gcd_le_right _ (by omega)
    show fX8_mean_41_b _ _ _ _ _ _ _ = _
    unfold fX8_mean_41_b fX8_mean_105 fX8_commonMeasure
    rw [show (0 : Int32) = nI 0 from rfl]
    by_cases h0 : v4 = nI 0
    · simp (disch := first | assumption | with_unfolding_all exact hW.1 _ _ rfl | rfl | exact pu_okI (by first | assumption | with_unfolding_all exact hW.1 _ _ rfl) (by omega) (by omega) | exact pu_oqI (by first | assumption | with_unfolding_all exact hW.1 _ _ rfl) (by omega) (by omega) | omega | decide) only [↓reduceIte, ↓gi_b, ↓pi_b, ↓gr_b, ↓pr_b, ↓al_b, ↓as_b, ↓al_3, ↓as_3, ↓al_12, ↓as_12, ↓al_l, ↓as_l, ↓rc_b, ↓Option.bind_some, ↓zr0_b, ↓zr1_b, ↓zrb_b, ↓pz0_b, ↓pz1_b, al_b, as_b, rc_b, gi_b, pi_b, gr_b, zr0, zr1, zrb, u_s, u_n, v_s, v_n, ↓isIn_b, ite_T, ite_F, il_t, il_f, li_t, li_f, it_t, it_f, ti_t, ti_f, ie_t, ie_f, ei_t, ei_f, nn_le_t, nn_le_f, nn_lt_t, nn_lt_f, nn_eq_t, nn_eq_f, nI_1, nI_add, ni_addl, ni_ladd, pk_mul, ni_mull, b2_t, b2_f, b2_0, one0, m1_eq, ni_m1, reduceCtorEq, Bool.false_eq_true, nI_clamp, if_true, Option.some.injEq, Prod.mk.injEq, and_true, true_and, Nat.reduceAdd, Nat.reduceMul, Nat.reduceSub, Nat.reduceEqDiff, Nat.reduceLeDiff, Nat.reduceLT, ↓gr1_14 hW, ↓gr_h h4.1 h4.2.2.2.2.2.1 rfl, h6.2.2.2.2.1, h0, c_gcd _ am_fu 0 _ _ (show knb (zK Z i) < am_fu by unfold am_fu; omega) (show knb (zK Z i) + 0 < 100 by omega) (show sumN E (knb (zK Z i)) < 1000000 by omega), ↓quot_b]
    · simp (disch := first | assumption | with_unfolding_all exact hW.1 _ _ rfl | rfl | exact pu_okI (by first | assumption | with_unfolding_all exact hW.1 _ _ rfl) (by omega) (by omega) | exact pu_oqI (by first | assumption | with_unfolding_all exact hW.1 _ _ rfl) (by omega) (by omega) | omega | decide) only [↓reduceIte, ↓gi_b, ↓pi_b, ↓gr_b, ↓pr_b, ↓al_b, ↓as_b, ↓al_3, ↓as_3, ↓al_12, ↓as_12, ↓al_l, ↓as_l, ↓rc_b, ↓Option.bind_some, ↓zr0_b, ↓zr1_b, ↓zrb_b, ↓pz0_b, ↓pz1_b, al_b, as_b, rc_b, gi_b, pi_b, gr_b, zr0, zr1, zrb, u_s, u_n, v_s, v_n, ↓isIn_b, ite_T, ite_F, il_t, il_f, li_t, li_f, it_t, it_f, ti_t, ti_f, ie_t, ie_f, ei_t, ei_f, nn_le_t, nn_le_f, nn_lt_t, nn_lt_f, nn_eq_t, nn_eq_f, nI_1, nI_add, ni_addl, ni_ladd, pk_mul, ni_mull, b2_t, b2_f, b2_0, one0, m1_eq, ni_m1, reduceCtorEq, Bool.false_eq_true, nI_clamp, if_true, Option.some.injEq, Prod.mk.injEq, and_true, true_and, Nat.reduceAdd, Nat.reduceMul, Nat.reduceSub, Nat.reduceEqDiff, Nat.reduceLeDiff, Nat.reduceLT, ↓gr1_14 hW, ↓gr_h h4.1 h4.2.2.2.2.2.1 rfl, h6.2.2.2.2.1, eq_false h0, if_false, c_gcd _ am_fu 0 _ _ (show knb (zK Z i) < am_fu by unfold am_fu; omega) (show knb (zK Z i) + 0 < 100 by omega) (show sumN E (knb (zK Z i)) < 1000000 by omega), ↓quot_b]
  | succ m ih =>
    intro b N hb hN
    obtain ⟨N, rfl⟩ : ∃ N', N = N' + 1 := ⟨N - 1, by omega⟩
    show fX8_mean_41_b (fX8_mean_41 N) _ _ _ _ _ _ = _
    unfold fX8_mean_41_b
    simp (disch := first | assumption | with_unfolding_all exact hW.1 _ _ rfl | rfl | exact pu_okI (by first | assumption | with_unfolding_all exact hW.1 _ _ rfl) (by omega) (by omega) | exact pu_oqI (by first | assumption | with_unfolding_all exact hW.1 _ _ rfl) (by omega) (by omega) | omega | decide) only [↓reduceIte, ↓gi_b, ↓pi_b, ↓gr_b, ↓pr_b, ↓al_b, ↓as_b, ↓al_3, ↓as_3, ↓al_12, ↓as_12, ↓al_l, ↓as_l, ↓rc_b, ↓Option.bind_some, ↓zr0_b, ↓zr1_b, ↓zrb_b, ↓pz0_b, ↓pz1_b, al_b, as_b, rc_b, gi_b, pi_b, gr_b, zr0, zr1, zrb, u_s, u_n, v_s, v_n, ↓isIn_b, ite_T, ite_F, il_t, il_f, li_t, li_f, it_t, it_f, ti_t, ti_f, ie_t, ie_f, ei_t, ei_f, nn_le_t, nn_le_f, nn_lt_t, nn_lt_f, nn_eq_t, nn_eq_f, nI_1, nI_add, ni_addl, ni_ladd, pk_mul, ni_mull, b2_t, b2_f, b2_0, one0, m1_eq, ni_m1, reduceCtorEq, Bool.false_eq_true, nI_clamp, if_true, Option.some.injEq, Prod.mk.injEq, and_true, true_and, Nat.reduceAdd, Nat.reduceMul, Nat.reduceSub, Nat.reduceEqDiff, Nat.reduceLeDiff, Nat.reduceLT, ↓gr1_14 hW, ↓gr_h h4.1 h4.2.2.2.2.2.1 rfl, h6.2.2.2.2.1, q_dayOf (hR.inv h) hj, hR.size hZ hi hq (Nat.le_refl _) (show b < knb (zK Z i) by omega) hd]
    exact ih (b + 1) N (by omega) (by omega)
end C2
set_option maxHeartbeats 4000000 in
set_option maxRecDepth 100000 in
theorem c_mean {s : Nat → Option pu_S} {I : Nat → Nat → Int32} {P : Nat → Nat → Option Nat} {J : Nat → Nat → Int64} {n : Nat × Nat} {Z : S_Z} (hZ : Z_B Z) (h : InvC s I P n Z) {i j : Nat} {q : Option Nat} (hi : i < znc Z) (hj : j < 4) (hq : ∀ k, q = some k → k < znf Z) {v4 : Int32} (hb : inB v4 0 1 = true) : Rn (fX8_mean 1 (nI i) (nI j) (oI q) v4 (pu_hp s I P J n)) (QC s I P J n Z (nI ((if v4 = 0 then sumN (eZ (zK Z i) (S_at (zK Z i) (oF Z q) (tw (zT Z) j) true 96) (td (zT Z) j)) (knb (zK Z i)) else knb (zK Z i)) / Nat.gcd (sumN (eZ (zK Z i) (S_at (zK Z i) (oF Z q) (tw (zT Z) j) true 96) (td (zT Z) j)) (knb (zK Z i))) (knb (zK Z i))))) := by
  have hnb := (hZ.1.2 i hi).1.2.2.2.2.2.1
  have hd := (hZ.2.2.2.1.1 j hj).2.2
  have hW := h.1
  unfold fX8_mean
  simp (disch := first | assumption | with_unfolding_all exact hW.1 _ _ rfl | rfl | exact pu_okI (by first | assumption | with_unfolding_all exact hW.1 _ _ rfl) (by omega) (by omega) | exact pu_oqI (by first | assumption | with_unfolding_all exact hW.1 _ _ rfl) (by omega) (by omega) | omega | decide) only [↓reduceIte, ↓gi_b, ↓pi_b, ↓gr_b, ↓pr_b, ↓al_b, ↓as_b, ↓al_3, ↓as_3, ↓al_12, ↓as_12, ↓al_l, ↓as_l, ↓rc_b, ↓Option.bind_some, ↓zr0_b, ↓zr1_b, ↓zrb_b, ↓pz0_b, ↓pz1_b, al_b, as_b, rc_b, gi_b, pi_b, gr_b, zr0, zr1, zrb, u_s, u_n, v_s, v_n, ↓isIn_b, ite_T, ite_F, il_t, il_f, li_t, li_f, it_t, it_f, ti_t, ti_f, ie_t, ie_f, ei_t, ei_f, nn_le_t, nn_le_f, nn_lt_t, nn_lt_f, nn_eq_t, nn_eq_f, nI_1, nI_add, ni_addl, ni_ladd, pk_mul, ni_mull, b2_t, b2_f, b2_0, one0, m1_eq, ni_m1, reduceCtorEq, Bool.false_eq_true, nI_clamp, if_true, Option.some.injEq, Prod.mk.injEq, and_true, true_and, Nat.reduceAdd, Nat.reduceMul, Nat.reduceSub, Nat.reduceEqDiff, Nat.reduceLeDiff, Nat.reduceLT]
  refine Rn_bind (c_start_t hZ h hi hj hq) ?_
  rintro _ ⟨I1, P1, rfl, hR⟩
  have hW := (hR.inv h).1
  simp (disch := first | assumption | with_unfolding_all exact hW.1 _ _ rfl | rfl | exact pu_okI (by first | assumption | with_unfolding_all exact hW.1 _ _ rfl) (by omega) (by omega) | exact pu_oqI (by first | assumption | with_unfolding_all exact hW.1 _ _ rfl) (by omega) (by omega) | omega | decide) only [↓reduceIte, ↓gi_b, ↓pi_b, ↓gr_b, ↓pr_b, ↓al_b, ↓as_b, ↓al_3, ↓as_3, ↓al_12, ↓as_12, ↓al_l, ↓as_l, ↓rc_b, ↓Option.bind_some, ↓zr0_b, ↓zr1_b, ↓zrb_b, ↓pz0_b, ↓pz1_b, al_b, as_b, rc_b, gi_b, pi_b, gr_b, zr0, zr1, zrb, u_s, u_n, v_s, v_n, ↓isIn_b, ite_T, ite_F, il_t, il_f, li_t, li_f, it_t, it_f, ti_t, ti_f, ie_t, ie_f, ei_t, ei_f, nn_le_t, nn_le_f, nn_lt_t, nn_lt_f, nn_eq_t, nn_eq_f, nI_1, nI_add, ni_addl, ni_ladd, pk_mul, ni_mull, b2_t, b2_f, b2_0, one0, m1_eq, ni_m1, reduceCtorEq, Bool.false_eq_true, nI_clamp, if_true, Option.some.injEq, Prod.mk.injEq, and_true, true_and, Nat.reduceAdd, Nat.reduceMul, Nat.reduceSub, Nat.reduceEqDiff, Nat.reduceLeDiff, Nat.reduceLT, ↓gr1_14 hW, hb]
  refine Rn_bind (hR.go (e := 96) hZ hi hj hq (by omega) (by omega)) ?_
  rintro _ ⟨I2, rfl, hR2⟩
  refine Rn_eq (c_mean41 (J := J) hZ h hi hj hq hR2 (knb (zK Z i)) 0 am_fu (by omega) (by unfold am_fu; omega)) ?_
  exact Rn_some (hR2.qc h)
set_option maxHeartbeats 4000000 in
set_option maxRecDepth 100000 in
theorem c_mean_b {s : Nat → Option pu_S} {I : Nat → Nat → Int32} {P : Nat → Nat → Option Nat} {J : Nat → Nat → Int64} {n : Nat × Nat} {Z : S_Z} (hZ : Z_B Z) (h : InvC s I P n Z) {i j : Nat} {q : Option Nat} (hi : i < znc Z) (hj : j < 4) (hq : ∀ k, q = some k → k < znf Z) {v4 : Int32} (hb : inB v4 0 1 = false) : Rn (fX8_mean 1 (nI i) (nI j) (oI q) v4 (pu_hp s I P J n)) (QC s I P J n Z (-102)) := by
  have hW := h.1
  unfold fX8_mean
  simp (disch := first | assumption | with_unfolding_all exact hW.1 _ _ rfl | rfl | exact pu_okI (by first | assumption | with_unfolding_all exact hW.1 _ _ rfl) (by omega) (by omega) | exact pu_oqI (by first | assumption | with_unfolding_all exact hW.1 _ _ rfl) (by omega) (by omega) | omega | decide) only [↓reduceIte, ↓gi_b, ↓pi_b, ↓gr_b, ↓pr_b, ↓al_b, ↓as_b, ↓al_3, ↓as_3, ↓al_12, ↓as_12, ↓al_l, ↓as_l, ↓rc_b, ↓Option.bind_some, ↓zr0_b, ↓zr1_b, ↓zrb_b, ↓pz0_b, ↓pz1_b, al_b, as_b, rc_b, gi_b, pi_b, gr_b, zr0, zr1, zrb, u_s, u_n, v_s, v_n, ↓isIn_b, ite_T, ite_F, il_t, il_f, li_t, li_f, it_t, it_f, ti_t, ti_f, ie_t, ie_f, ei_t, ei_f, nn_le_t, nn_le_f, nn_lt_t, nn_lt_f, nn_eq_t, nn_eq_f, nI_1, nI_add, ni_addl, ni_ladd, pk_mul, ni_mull, b2_t, b2_f, b2_0, one0, m1_eq, ni_m1, reduceCtorEq, Bool.false_eq_true, nI_clamp, if_true, Option.some.injEq, Prod.mk.injEq, and_true, true_and, Nat.reduceAdd, Nat.reduceMul, Nat.reduceSub, Nat.reduceEqDiff, Nat.reduceLeDiff, Nat.reduceLT]
  refine Rn_bind (c_start_t hZ h hi hj hq) ?_
  rintro _ ⟨I1, P1, rfl, hR⟩
  simp (disch := first | assumption | with_unfolding_all exact hW.1 _ _ rfl | rfl | exact pu_okI (by first | assumption | with_unfolding_all exact hW.1 _ _ rfl) (by omega) (by omega) | exact pu_oqI (by first | assumption | with_unfolding_all exact hW.1 _ _ rfl) (by omega) (by omega) | omega | decide) only [↓reduceIte, ↓gi_b, ↓pi_b, ↓gr_b, ↓pr_b, ↓al_b, ↓as_b, ↓al_3, ↓as_3, ↓al_12, ↓as_12, ↓al_l, ↓as_l, ↓rc_b, ↓Option.bind_some, ↓zr0_b, ↓zr1_b, ↓zrb_b, ↓pz0_b, ↓pz1_b, al_b, as_b, rc_b, gi_b, pi_b, gr_b, zr0, zr1, zrb, u_s, u_n, v_s, v_n, ↓isIn_b, ite_T, ite_F, il_t, il_f, li_t, li_f, it_t, it_f, ti_t, ti_f, ie_t, ie_f, ei_t, ei_f, nn_le_t, nn_le_f, nn_lt_t, nn_lt_f, nn_eq_t, nn_eq_f, nI_1, nI_add, ni_addl, ni_ladd, pk_mul, ni_mull, b2_t, b2_f, b2_0, one0, m1_eq, ni_m1, reduceCtorEq, Bool.false_eq_true, nI_clamp, if_true, Option.some.injEq, Prod.mk.injEq, and_true, true_and, Nat.reduceAdd, Nat.reduceMul, Nat.reduceSub, Nat.reduceEqDiff, Nat.reduceLeDiff, Nat.reduceLT, ↓gr1_14 hW, hb]
  exact Rn_some (hR.qc h)
