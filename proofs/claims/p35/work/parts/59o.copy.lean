/-! a clock copied -/
section CY
variable {s : Nat → Option pu_S} {I : Nat → Nat → Int32} {P : Nat → Nat → Option Nat} {J : Nat → Nat → Int64} {n : Nat × Nat}
variable {c d : Nat} {K : S_K}
set_option maxHeartbeats 4000000 in
set_option maxRecDepth 100000 in
theorem c_copy103 (hd : C_S s P d) (hc : C_S s P c) (hdc : d + 5 < c ∨ c + 5 < d) : ∀ (m k N : Nat) (I : Nat → Nat → Int32), k + m = 12 → m < N → (∀ b, b < k → I (d + 5) b = I (c + 5) b) → Rn (fX0_copyFrom_103 N (some d) (some c) (nI k) (pu_hp s I P J n)) fun h => ∃ I', h = pu_hp s I' P J n ∧ (∀ b, b < 12 → I' (d + 5) b = I (c + 5) b) ∧ ∀ b j, ¬ b = d + 5 → I' b j = I b j := by
  obtain ⟨c1, c2, c3, c4, c5, c6, c7, c8, c9, c10, c11⟩ := id hc
  obtain ⟨d1, d2, d3, d4, d5, d6, d7, d8, d9, d10, d11⟩ := id hd
  intro m
  induction m with
  | zero =>
    intro k N I hk hN hI
    obtain ⟨N, rfl⟩ : ∃ N', N = N' + 1 := ⟨N - 1, by omega⟩
    obtain rfl : k = 12 := by omega
    show Rn (fX0_copyFrom_103_b _ _ _ _ _) _
    unfold fX0_copyFrom_103_b
    simp (disch := first | assumption | with_unfolding_all exact hW.1 _ _ rfl | rfl | exact pu_okI (by first | assumption | with_unfolding_all exact hW.1 _ _ rfl) (by omega) (by omega) | exact pu_oqI (by first | assumption | with_unfolding_all exact hW.1 _ _ rfl) (by omega) (by omega) | omega | decide) only [↓reduceIte, ↓gi_b, ↓pi_b, ↓gr_b, ↓pr_b, ↓al_b, ↓as_b, ↓al_3, ↓as_3, ↓al_12, ↓as_12, ↓al_l, ↓as_l, ↓rc_b, ↓Option.bind_some, ↓zr0_b, ↓zr1_b, ↓zrb_b, ↓pz0_b, ↓pz1_b, al_b, as_b, rc_b, gi_b, pi_b, gr_b, zr0, zr1, zrb, u_s, u_n, v_s, v_n, ↓isIn_b, ite_T, ite_F, il_t, il_f, li_t, li_f, it_t, it_f, ti_t, ti_f, ie_t, ie_f, ei_t, ei_f, nn_le_t, nn_le_f, nn_lt_t, nn_lt_f, nn_eq_t, nn_eq_f, nI_1, nI_add, ni_addl, ni_ladd, pk_mul, ni_mull, b2_t, b2_f, b2_0, one0, m1_eq, ni_m1, reduceCtorEq, Bool.false_eq_true, nI_clamp, if_true, Option.some.injEq, Prod.mk.injEq, and_true, true_and, Nat.reduceAdd, Nat.reduceMul, Nat.reduceSub, Nat.reduceEqDiff, Nat.reduceLeDiff, Nat.reduceLT]
    exact Rn_some ⟨I, rfl, hI, fun _ _ _ => rfl⟩
  | succ m ih =>
    intro k N I hk hN hI
    obtain ⟨N, rfl⟩ : ∃ N', N = N' + 1 := ⟨N - 1, by omega⟩
    show Rn (fX0_copyFrom_103_b (fX0_copyFrom_103 N) _ _ _ _) _
    unfold fX0_copyFrom_103_b
    simp (disch := first | assumption | with_unfolding_all exact hW.1 _ _ rfl | rfl | exact pu_okI (by first | assumption | with_unfolding_all exact hW.1 _ _ rfl) (by omega) (by omega) | exact pu_oqI (by first | assumption | with_unfolding_all exact hW.1 _ _ rfl) (by omega) (by omega) | omega | decide) only [↓reduceIte, ↓gi_b, ↓pi_b, ↓gr_b, ↓pr_b, ↓al_b, ↓as_b, ↓al_3, ↓as_3, ↓al_12, ↓as_12, ↓al_l, ↓as_l, ↓rc_b, ↓Option.bind_some, ↓zr0_b, ↓zr1_b, ↓zrb_b, ↓pz0_b, ↓pz1_b, al_b, as_b, rc_b, gi_b, pi_b, gr_b, zr0, zr1, zrb, u_s, u_n, v_s, v_n, ↓isIn_b, ite_T, ite_F, il_t, il_f, li_t, li_f, it_t, it_f, ti_t, ti_f, ie_t, ie_f, ei_t, ei_f, nn_le_t, nn_le_f, nn_lt_t, nn_lt_f, nn_eq_t, nn_eq_f, nI_1, nI_add, ni_addl, ni_ladd, pk_mul, ni_mull, b2_t, b2_f, b2_0, one0, m1_eq, ni_m1, reduceCtorEq, Bool.false_eq_true, nI_clamp, if_true, Option.some.injEq, Prod.mk.injEq, and_true, true_and, Nat.reduceAdd, Nat.reduceMul, Nat.reduceSub, Nat.reduceEqDiff, Nat.reduceLeDiff, Nat.reduceLT, ↓gr_h d1 d11 rfl, ↓gr_h c1 c11 rfl]
    refine Rn_mono (ih (k + 1) N _ (by omega) (by omega) (fun b hb => ?_)) ?_
    · rw [show pu_u I (d + 5) k (I (c + 5) k) (c + 5) b = I (c + 5) b from u_n (by omega)]
      by_cases e : b = k
      · subst e; rw [u_s]
      · rw [u_n (by omega), hI b (by omega)]
    · rintro _ ⟨I', rfl, a1, a2⟩
      exact ⟨I', rfl, fun b hb => by rw [a1 b hb, u_n (by omega)], fun b j hb => by rw [a2 b j hb, u_n (by omega)]⟩
/-- the rows of one clock are those of another -/
def CP4 (I I0 : Nat → Nat → Int32) (d c k : Nat) : Prop := ∀ v, v < k → I (d + 1) v = I0 (c + 1) v ∧ I (d + 2) v = I0 (c + 2) v ∧ I (d + 3) v = I0 (c + 3) v ∧ I (d + 4) v = I0 (c + 4) v
set_option maxHeartbeats 4000000 in
set_option maxRecDepth 100000 in
theorem c_copy10 (hd : C_S s P d) (hc : C_S s P c) (hdc : d + 5 < c ∨ c + 5 < d) {I0 : Nat → Nat → Int32} : ∀ (m k N : Nat) (I : Nat → Nat → Int32), k + m = 3 → m < N → CP4 I I0 d c k → I d 0 = I0 c 0 → (∀ b j, ¬ (d ≤ b ∧ b ≤ d + 5) → I b j = I0 b j) → Rn (fX0_copyFrom_10 N (some d) (some c) (nI k) (pu_hp s I P J n)) fun h => ∃ I', h = pu_hp s I' P J n ∧ CP4 I' I0 d c 3 ∧ (I' d 0 = I0 c 0 ∧ I' d 5 = I0 c 5 ∧ I' d 6 = I0 c 6 ∧ I' d 7 = I0 c 7 ∧ I' d 8 = I0 c 8) ∧ (∀ b, b < 12 → I' (d + 5) b = I0 (c + 5) b) ∧ ∀ b j, ¬ (d ≤ b ∧ b ≤ d + 5) → I' b j = I0 b j := by
  obtain ⟨c1, c2, c3, c4, c5, c6, c7, c8, c9, c10, c11⟩ := id hc
  obtain ⟨d1, d2, d3, d4, d5, d6, d7, d8, d9, d10, d11⟩ := id hd
  intro m
  induction m with
  | zero =>
    intro k N I hk hN h1 h2 h3
    obtain ⟨N, rfl⟩ : ∃ N', N = N' + 1 := ⟨N - 1, by omega⟩
    obtain rfl : k = 3 := by omega
    show Rn (fX0_copyFrom_10_b _ _ _ _ _) _
    unfold fX0_copyFrom_10_b
    simp (disch := first | assumption | with_unfolding_all exact hW.1 _ _ rfl | rfl | exact pu_okI (by first | assumption | with_unfolding_all exact hW.1 _ _ rfl) (by omega) (by omega) | exact pu_oqI (by first | assumption | with_unfolding_all exact hW.1 _ _ rfl) (by omega) (by omega) | omega | decide) only [↓reduceIte, ↓gi_b, ↓pi_b, ↓gr_b, ↓pr_b, ↓al_b, ↓as_b, ↓al_3, ↓as_3, ↓al_12, ↓as_12, ↓al_l, ↓as_l, ↓rc_b, ↓Option.bind_some, ↓zr0_b, ↓zr1_b, ↓zrb_b, ↓pz0_b, ↓pz1_b, al_b, as_b, rc_b, gi_b, pi_b, gr_b, zr0, zr1, zrb, u_s, u_n, v_s, v_n, ↓isIn_b, ite_T, ite_F, il_t, il_f, li_t, li_f, it_t, it_f, ti_t, ti_f, ie_t, ie_f, ei_t, ei_f, nn_le_t, nn_le_f, nn_lt_t, nn_lt_f, nn_eq_t, nn_eq_f, nI_1, nI_add, ni_addl, ni_ladd, pk_mul, ni_mull, b2_t, b2_f, b2_0, one0, m1_eq, ni_m1, reduceCtorEq, Bool.false_eq_true, nI_clamp, if_true, Option.some.injEq, Prod.mk.injEq, and_true, true_and, Nat.reduceAdd, Nat.reduceMul, Nat.reduceSub, Nat.reduceEqDiff, Nat.reduceLeDiff, Nat.reduceLT]
    rw [show (0 : Int32) = nI 0 from rfl]
    refine Rn_mono (c_copy103 hd hc hdc 12 0 am_fu _ (by omega) (by unfold am_fu; omega) (fun b hb => by omega)) ?_
    rintro _ ⟨I', rfl, a1, a2⟩
    refine ⟨I', rfl, fun v hv => ?_, ⟨?_, ?_, ?_, ?_, ?_⟩, fun b hb => ?_, fun b j hb => ?_⟩
    · obtain ⟨q1, q2, q3, q4⟩ := h1 v hv
      refine ⟨?_, ?_, ?_, ?_⟩
      · rw [a2 _ _ (by omega), u_n (by omega), u_n (by omega), u_n (by omega), u_n (by omega), q1]
      · rw [a2 _ _ (by omega), u_n (by omega), u_n (by omega), u_n (by omega), u_n (by omega), q2]
      · rw [a2 _ _ (by omega), u_n (by omega), u_n (by omega), u_n (by omega), u_n (by omega), q3]
      · rw [a2 _ _ (by omega), u_n (by omega), u_n (by omega), u_n (by omega), u_n (by omega), q4]
    · rw [a2 _ _ (by omega), u_n (by omega), u_n (by omega), u_n (by omega), u_n (by omega), h2]
    · rw [a2 _ _ (by omega), u_n (by omega), u_n (by omega), u_n (by omega), u_s, h3 _ _ (by omega)]
    · rw [a2 _ _ (by omega), u_n (by omega), u_n (by omega), u_s, h3 _ _ (by omega)]
    · rw [a2 _ _ (by omega), u_n (by omega), u_s, h3 _ _ (by omega)]
    · rw [a2 _ _ (by omega), u_s, h3 _ _ (by omega)]
    · rw [a1 b hb, u_n (by omega), u_n (by omega), u_n (by omega), u_n (by omega), h3 _ _ (by omega)]
    · rw [a2 _ _ (by omega), u_n (by omega), u_n (by omega), u_n (by omega), u_n (by omega), h3 _ _ hb]
  | succ m ih =>
    intro k N I hk hN h1 h2 h3
    obtain ⟨N, rfl⟩ : ∃ N', N = N' + 1 := ⟨N - 1, by omega⟩
    show Rn (fX0_copyFrom_10_b (fX0_copyFrom_10 N) _ _ _ _) _
    unfold fX0_copyFrom_10_b
    simp (disch := first | assumption | with_unfolding_all exact hW.1 _ _ rfl | rfl | exact pu_okI (by first | assumption | with_unfolding_all exact hW.1 _ _ rfl) (by omega) (by omega) | exact pu_oqI (by first | assumption | with_unfolding_all exact hW.1 _ _ rfl) (by omega) (by omega) | omega | decide) only [↓reduceIte, ↓gi_b, ↓pi_b, ↓gr_b, ↓pr_b, ↓al_b, ↓as_b, ↓al_3, ↓as_3, ↓al_12, ↓as_12, ↓al_l, ↓as_l, ↓rc_b, ↓Option.bind_some, ↓zr0_b, ↓zr1_b, ↓zrb_b, ↓pz0_b, ↓pz1_b, al_b, as_b, rc_b, gi_b, pi_b, gr_b, zr0, zr1, zrb, u_s, u_n, v_s, v_n, ↓isIn_b, ite_T, ite_F, il_t, il_f, li_t, li_f, it_t, it_f, ti_t, ti_f, ie_t, ie_f, ei_t, ei_f, nn_le_t, nn_le_f, nn_lt_t, nn_lt_f, nn_eq_t, nn_eq_f, nI_1, nI_add, ni_addl, ni_ladd, pk_mul, ni_mull, b2_t, b2_f, b2_0, one0, m1_eq, ni_m1, reduceCtorEq, Bool.false_eq_true, nI_clamp, if_true, Option.some.injEq, Prod.mk.injEq, and_true, true_and, Nat.reduceAdd, Nat.reduceMul, Nat.reduceSub, Nat.reduceEqDiff, Nat.reduceLeDiff, Nat.reduceLT, ↓gr_h d1 d7 rfl, ↓gr_h c1 c7 rfl, ↓gr_h d1 d8 rfl, ↓gr_h c1 c8 rfl, ↓gr_h d1 d9 rfl, ↓gr_h c1 c9 rfl, ↓gr_h d1 d10 rfl, ↓gr_h c1 c10 rfl]
    refine ih (k + 1) N _ (by omega) (by omega) (fun v hv => ?_) ?_ (fun b j hb => ?_)
    · by_cases e : v = k
      · subst e
        refine ⟨?_, ?_, ?_, ?_⟩
        · rw [u_n (by omega), u_n (by omega), u_n (by omega), u_s, h3 _ _ (by omega)]
        · rw [u_n (by omega), u_n (by omega), u_s, h3 _ _ (by omega)]
        · rw [u_n (by omega), u_s, h3 _ _ (by omega)]
        · rw [u_s, h3 _ _ (by omega)]
      · obtain ⟨q1, q2, q3, q4⟩ := h1 v (by omega)
        refine ⟨?_, ?_, ?_, ?_⟩
        · rw [u_n (by omega), u_n (by omega), u_n (by omega), u_n (by omega), q1]
        · rw [u_n (by omega), u_n (by omega), u_n (by omega), u_n (by omega), q2]
        · rw [u_n (by omega), u_n (by omega), u_n (by omega), u_n (by omega), q3]
        · rw [u_n (by omega), u_n (by omega), u_n (by omega), u_n (by omega), q4]
    · rw [u_n (by omega), u_n (by omega), u_n (by omega), u_n (by omega), h2]
    · rw [u_n (by omega), u_n (by omega), u_n (by omega), u_n (by omega), h3 _ _ hb]
set_option maxHeartbeats 4000000 in
set_option maxRecDepth 100000 in
theorem c_copyK (hd : C_S s P d) (hc : C_S s P c) (hdc : d + 5 < c ∨ c + 5 < d) (hK : S_KB K) (hci : C_I I c K) : Rn (fX0_copyFrom d (some c) (pu_hp s I P J n)) fun h => ∃ I', h = pu_hp s I' P J n ∧ C_I I' d K ∧ ∀ b j, ¬ (d ≤ b ∧ b ≤ d + 5) → I' b j = I b j := by
  have c1 := hc.1
  have d1 := hd.1
  obtain ⟨k1, k2, k3, k4, k5, k6, k7⟩ := hci
  have hkn := hK.1
  have hnb := hK.2.2.2.2.2.1
  unfold fX0_copyFrom
  simp (disch := first | assumption | with_unfolding_all exact hW.1 _ _ rfl | rfl | exact pu_okI (by first | assumption | with_unfolding_all exact hW.1 _ _ rfl) (by omega) (by omega) | exact pu_oqI (by first | assumption | with_unfolding_all exact hW.1 _ _ rfl) (by omega) (by omega) | omega | decide) only [↓reduceIte, ↓gi_b, ↓pi_b, ↓gr_b, ↓pr_b, ↓al_b, ↓as_b, ↓al_3, ↓as_3, ↓al_12, ↓as_12, ↓al_l, ↓as_l, ↓rc_b, ↓Option.bind_some, ↓zr0_b, ↓zr1_b, ↓zrb_b, ↓pz0_b, ↓pz1_b, al_b, as_b, rc_b, gi_b, pi_b, gr_b, zr0, zr1, zrb, u_s, u_n, v_s, v_n, ↓isIn_b, ite_T, ite_F, il_t, il_f, li_t, li_f, it_t, it_f, ti_t, ti_f, ie_t, ie_f, ei_t, ei_f, nn_le_t, nn_le_f, nn_lt_t, nn_lt_f, nn_eq_t, nn_eq_f, nI_1, nI_add, ni_addl, ni_ladd, pk_mul, ni_mull, b2_t, b2_f, b2_0, one0, m1_eq, ni_m1, reduceCtorEq, Bool.false_eq_true, nI_clamp, if_true, Option.some.injEq, Prod.mk.injEq, and_true, true_and, Nat.reduceAdd, Nat.reduceMul, Nat.reduceSub, Nat.reduceEqDiff, Nat.reduceLeDiff, Nat.reduceLT]
  rw [show (0 : Int32) = nI 0 from rfl]
  refine Rn_mono (c_copy10 (I0 := I) hd hc hdc 3 0 am_fu _ (by omega) (by unfold am_fu; omega) (fun v hv => by omega) u_s (fun b j hb => u_n (by omega))) ?_
  rintro _ ⟨I', rfl, a1, ⟨a2, a3, a4, a5, a6⟩, a7, a8⟩
  refine ⟨I', rfl, ⟨by rw [a2, k1], by rw [a3, k2], by rw [a4, k3], by rw [a5, k4], by rw [a6, k5], fun v hv => ?_, fun b hb => by rw [a7 b (by omega), k7 b hb]⟩, a8⟩
  obtain ⟨q1, q2, q3, q4⟩ := a1 v (by omega)
  obtain ⟨p1, p2, p3, p4⟩ := k6 v hv
  exact ⟨by rw [q1, p1], by rw [q2, p2], by rw [q3, p3], by rw [q4, p4]⟩
end CY
theorem CS_15 {s : Nat → Option pu_S} {P : Nat → Nat → Option Nat} (hW : pu_W s P) : C_S s P 15 := ⟨hW.1 _ _ rfl, hW.1 _ _ rfl, hW.1 _ _ rfl, hW.1 _ _ rfl, hW.1 _ _ rfl, hW.1 _ _ rfl, hW.2 _ _ _ rfl, hW.2 _ _ _ rfl, hW.2 _ _ _ rfl, hW.2 _ _ _ rfl, hW.2 _ _ _ rfl⟩
