/-! new works -/
/-- whether n is one of a kind -/
def nOK (k : Nat) (n : Int32) : Bool := if k = 1 then inB n 0 9 else if k = 2 then inB n 0 3 else if k = 3 then inB n 1 9 else if k = 4 then inB n 2 5 else decide (n = 0)
theorem inB_00 (n : Int32) : inB n 0 0 = decide (n = 0) := by
  unfold inB
  by_cases h : n = 0
  · subst h; decide
  · rw [decide_eq_false h]
    cases e1 : decide ((0 : Int32) ≤ n) with
    | false => rfl
    | true =>
      cases e2 : decide (n ≤ 0) with
      | false => rfl
      | true => exact absurd (Int32.le_antisymm (of_decide_eq_true e2) (of_decide_eq_true e1)) h
set_option maxHeartbeats 4000000 in
set_option maxRecDepth 100000 in
theorem q_least {k : Nat} (hk : k ≤ 4) (h : am_H) : fX8_leastNumber (nI k) h = some (if k = 3 then 1 else if k = 4 then 2 else 0, h) := by
  unfold fX8_leastNumber
  have h5 : k = 0 ∨ k = 1 ∨ k = 2 ∨ k = 3 ∨ k = 4 := by omega
  rcases h5 with rfl | rfl | rfl | rfl | rfl
  · simp (disch := first | assumption | with_unfolding_all exact hW.1 _ _ rfl | rfl | exact pu_okI (by first | assumption | with_unfolding_all exact hW.1 _ _ rfl) (by omega) (by omega) | exact pu_oqI (by first | assumption | with_unfolding_all exact hW.1 _ _ rfl) (by omega) (by omega) | omega | decide) only [↓reduceIte, ↓gi_b, ↓pi_b, ↓gr_b, ↓pr_b, ↓al_b, ↓as_b, ↓al_3, ↓as_3, ↓al_12, ↓as_12, ↓al_l, ↓as_l, ↓rc_b, ↓Option.bind_some, ↓zr0_b, ↓zr1_b, ↓zrb_b, ↓pz0_b, ↓pz1_b, al_b, as_b, rc_b, gi_b, pi_b, gr_b, zr0, zr1, zrb, u_s, u_n, v_s, v_n, ↓isIn_b, ite_T, ite_F, il_t, il_f, li_t, li_f, it_t, it_f, ti_t, ti_f, ie_t, ie_f, ei_t, ei_f, nn_le_t, nn_le_f, nn_lt_t, nn_lt_f, nn_eq_t, nn_eq_f, nI_1, nI_add, ni_addl, ni_ladd, pk_mul, ni_mull, b2_t, b2_f, b2_0, one0, m1_eq, ni_m1, reduceCtorEq, Bool.false_eq_true, nI_clamp, if_true, Option.some.injEq, Prod.mk.injEq, and_true, true_and, Nat.reduceAdd, Nat.reduceMul, Nat.reduceSub, Nat.reduceEqDiff, Nat.reduceLeDiff, Nat.reduceLT]
  · simp (disch := first | assumption | with_unfolding_all exact hW.1 _ _ rfl | rfl | exact pu_okI (by first | assumption | with_unfolding_all exact hW.1 _ _ rfl) (by omega) (by omega) | exact pu_oqI (by first | assumption | with_unfolding_all exact hW.1 _ _ rfl) (by omega) (by omega) | omega | decide) only [↓reduceIte, ↓gi_b, ↓pi_b, ↓gr_b, ↓pr_b, ↓al_b, ↓as_b, ↓al_3, ↓as_3, ↓al_12, ↓as_12, ↓al_l, ↓as_l, ↓rc_b, ↓Option.bind_some, ↓zr0_b, ↓zr1_b, ↓zrb_b, ↓pz0_b, ↓pz1_b, al_b, as_b, rc_b, gi_b, pi_b, gr_b, zr0, zr1, zrb, u_s, u_n, v_s, v_n, ↓isIn_b, ite_T, ite_F, il_t, il_f, li_t, li_f, it_t, it_f, ti_t, ti_f, ie_t, ie_f, ei_t, ei_f, nn_le_t, nn_le_f, nn_lt_t, nn_lt_f, nn_eq_t, nn_eq_f, nI_1, nI_add, ni_addl, ni_ladd, pk_mul, ni_mull, b2_t, b2_f, b2_0, one0, m1_eq, ni_m1, reduceCtorEq, Bool.false_eq_true, nI_clamp, if_true, Option.some.injEq, Prod.mk.injEq, and_true, true_and, Nat.reduceAdd, Nat.reduceMul, Nat.reduceSub, Nat.reduceEqDiff, Nat.reduceLeDiff, Nat.reduceLT]
  · simp (disch := first | assumption | with_unfolding_all exact hW.1 _ _ rfl | rfl | exact pu_okI (by first | assumption | with_unfolding_all exact hW.1 _ _ rfl) (by omega) (by omega) | exact pu_oqI (by first | assumption | with_unfolding_all exact hW.1 _ _ rfl) (by omega) (by omega) | omega | decide) only [↓reduceIte, ↓gi_b, ↓pi_b, ↓gr_b, ↓pr_b, ↓al_b, ↓as_b, ↓al_3, ↓as_3, ↓al_12, ↓as_12, ↓al_l, ↓as_l, ↓rc_b, ↓Option.bind_some, ↓zr0_b, ↓zr1_b, ↓zrb_b, ↓pz0_b, ↓pz1_b, al_b, as_b, rc_b, gi_b, pi_b, gr_b, zr0, zr1, zrb, u_s, u_n, v_s, v_n, ↓isIn_b, ite_T, ite_F, il_t, il_f, li_t, li_f, it_t, it_f, ti_t, ti_f, ie_t, ie_f, ei_t, ei_f, nn_le_t, nn_le_f, nn_lt_t, nn_lt_f, nn_eq_t, nn_eq_f, nI_1, nI_add, ni_addl, ni_ladd, pk_mul, ni_mull, b2_t, b2_f, b2_0, one0, m1_eq, ni_m1, reduceCtorEq, Bool.false_eq_true, nI_clamp, if_true, Option.some.injEq, Prod.mk.injEq, and_true, true_and, Nat.reduceAdd, Nat.reduceMul, Nat.reduceSub, Nat.reduceEqDiff, Nat.reduceLeDiff, Nat.reduceLT]
  · simp (disch := first | assumption | with_unfolding_all exact hW.1 _ _ rfl | rfl | exact pu_okI (by first | assumption | with_unfolding_all exact hW.1 _ _ rfl) (by omega) (by omega) | exact pu_oqI (by first | assumption | with_unfolding_all exact hW.1 _ _ rfl) (by omega) (by omega) | omega | decide) only [↓reduceIte, ↓gi_b, ↓pi_b, ↓gr_b, ↓pr_b, ↓al_b, ↓as_b, ↓al_3, ↓as_3, ↓al_12, ↓as_12, ↓al_l, ↓as_l, ↓rc_b, ↓Option.bind_some, ↓zr0_b, ↓zr1_b, ↓zrb_b, ↓pz0_b, ↓pz1_b, al_b, as_b, rc_b, gi_b, pi_b, gr_b, zr0, zr1, zrb, u_s, u_n, v_s, v_n, ↓isIn_b, ite_T, ite_F, il_t, il_f, li_t, li_f, it_t, it_f, ti_t, ti_f, ie_t, ie_f, ei_t, ei_f, nn_le_t, nn_le_f, nn_lt_t, nn_lt_f, nn_eq_t, nn_eq_f, nI_1, nI_add, ni_addl, ni_ladd, pk_mul, ni_mull, b2_t, b2_f, b2_0, one0, m1_eq, ni_m1, reduceCtorEq, Bool.false_eq_true, nI_clamp, if_true, Option.some.injEq, Prod.mk.injEq, and_true, true_and, Nat.reduceAdd, Nat.reduceMul, Nat.reduceSub, Nat.reduceEqDiff, Nat.reduceLeDiff, Nat.reduceLT]
  · simp (disch := first | assumption | with_unfolding_all exact hW.1 _ _ rfl | rfl | exact pu_okI (by first | assumption | with_unfolding_all exact hW.1 _ _ rfl) (by omega) (by omega) | exact pu_oqI (by first | assumption | with_unfolding_all exact hW.1 _ _ rfl) (by omega) (by omega) | omega | decide) only [↓reduceIte, ↓gi_b, ↓pi_b, ↓gr_b, ↓pr_b, ↓al_b, ↓as_b, ↓al_3, ↓as_3, ↓al_12, ↓as_12, ↓al_l, ↓as_l, ↓rc_b, ↓Option.bind_some, ↓zr0_b, ↓zr1_b, ↓zrb_b, ↓pz0_b, ↓pz1_b, al_b, as_b, rc_b, gi_b, pi_b, gr_b, zr0, zr1, zrb, u_s, u_n, v_s, v_n, ↓isIn_b, ite_T, ite_F, il_t, il_f, li_t, li_f, it_t, it_f, ti_t, ti_f, ie_t, ie_f, ei_t, ei_f, nn_le_t, nn_le_f, nn_lt_t, nn_lt_f, nn_eq_t, nn_eq_f, nI_1, nI_add, ni_addl, ni_ladd, pk_mul, ni_mull, b2_t, b2_f, b2_0, one0, m1_eq, ni_m1, reduceCtorEq, Bool.false_eq_true, nI_clamp, if_true, Option.some.injEq, Prod.mk.injEq, and_true, true_and, Nat.reduceAdd, Nat.reduceMul, Nat.reduceSub, Nat.reduceEqDiff, Nat.reduceLeDiff, Nat.reduceLT]
set_option maxHeartbeats 4000000 in
set_option maxRecDepth 100000 in
theorem q_most {k : Nat} (hk : k ≤ 4) (h : am_H) : fX8_mostNumber (nI k) h = some (if k = 1 then 9 else if k = 2 then 3 else if k = 3 then 9 else if k = 4 then 5 else 0, h) := by
  unfold fX8_mostNumber
  have h5 : k = 0 ∨ k = 1 ∨ k = 2 ∨ k = 3 ∨ k = 4 := by omega
  rcases h5 with rfl | rfl | rfl | rfl | rfl
  · simp (disch := first | assumption | with_unfolding_all exact hW.1 _ _ rfl | rfl | exact pu_okI (by first | assumption | with_unfolding_all exact hW.1 _ _ rfl) (by omega) (by omega) | exact pu_oqI (by first | assumption | with_unfolding_all exact hW.1 _ _ rfl) (by omega) (by omega) | omega | decide) only [↓reduceIte, ↓gi_b, ↓pi_b, ↓gr_b, ↓pr_b, ↓al_b, ↓as_b, ↓al_3, ↓as_3, ↓al_12, ↓as_12, ↓al_l, ↓as_l, ↓rc_b, ↓Option.bind_some, ↓zr0_b, ↓zr1_b, ↓zrb_b, ↓pz0_b, ↓pz1_b, al_b, as_b, rc_b, gi_b, pi_b, gr_b, zr0, zr1, zrb, u_s, u_n, v_s, v_n, ↓isIn_b, ite_T, ite_F, il_t, il_f, li_t, li_f, it_t, it_f, ti_t, ti_f, ie_t, ie_f, ei_t, ei_f, nn_le_t, nn_le_f, nn_lt_t, nn_lt_f, nn_eq_t, nn_eq_f, nI_1, nI_add, ni_addl, ni_ladd, pk_mul, ni_mull, b2_t, b2_f, b2_0, one0, m1_eq, ni_m1, reduceCtorEq, Bool.false_eq_true, nI_clamp, if_true, Option.some.injEq, Prod.mk.injEq, and_true, true_and, Nat.reduceAdd, Nat.reduceMul, Nat.reduceSub, Nat.reduceEqDiff, Nat.reduceLeDiff, Nat.reduceLT]
  · simp (disch := first | assumption | with_unfolding_all exact hW.1 _ _ rfl | rfl | exact pu_okI (by first | assumption | with_unfolding_all exact hW.1 _ _ rfl) (by omega) (by omega) | exact pu_oqI (by first | assumption | with_unfolding_all exact hW.1 _ _ rfl) (by omega) (by omega) | omega | decide) only [↓reduceIte, ↓gi_b, ↓pi_b, ↓gr_b, ↓pr_b, ↓al_b, ↓as_b, ↓al_3, ↓as_3, ↓al_12, ↓as_12, ↓al_l, ↓as_l, ↓rc_b, ↓Option.bind_some, ↓zr0_b, ↓zr1_b, ↓zrb_b, ↓pz0_b, ↓pz1_b, al_b, as_b, rc_b, gi_b, pi_b, gr_b, zr0, zr1, zrb, u_s, u_n, v_s, v_n, ↓isIn_b, ite_T, ite_F, il_t, il_f, li_t, li_f, it_t, it_f, ti_t, ti_f, ie_t, ie_f, ei_t, ei_f, nn_le_t, nn_le_f, nn_lt_t, nn_lt_f, nn_eq_t, nn_eq_f, nI_1, nI_add, ni_addl, ni_ladd, pk_mul, ni_mull, b2_t, b2_f, b2_0, one0, m1_eq, ni_m1, reduceCtorEq, Bool.false_eq_true, nI_clamp, if_true, Option.some.injEq, Prod.mk.injEq, and_true, true_and, Nat.reduceAdd, Nat.reduceMul, Nat.reduceSub, Nat.reduceEqDiff, Nat.reduceLeDiff, Nat.reduceLT]
  · simp (disch := first | assumption | with_unfolding_all exact hW.1 _ _ rfl | rfl | exact pu_okI (by first | assumption | with_unfolding_all exact hW.1 _ _ rfl) (by omega) (by omega) | exact pu_oqI (by first | assumption | with_unfolding_all exact hW.1 _ _ rfl) (by omega) (by omega) | omega | decide) only [↓reduceIte, ↓gi_b, ↓pi_b, ↓gr_b, ↓pr_b, ↓al_b, ↓as_b, ↓al_3, ↓as_3, ↓al_12, ↓as_12, ↓al_l, ↓as_l, ↓rc_b, ↓Option.bind_some, ↓zr0_b, ↓zr1_b, ↓zrb_b, ↓pz0_b, ↓pz1_b, al_b, as_b, rc_b, gi_b, pi_b, gr_b, zr0, zr1, zrb, u_s, u_n, v_s, v_n, ↓isIn_b, ite_T, ite_F, il_t, il_f, li_t, li_f, it_t, it_f, ti_t, ti_f, ie_t, ie_f, ei_t, ei_f, nn_le_t, nn_le_f, nn_lt_t, nn_lt_f, nn_eq_t, nn_eq_f, nI_1, nI_add, ni_addl, ni_ladd, pk_mul, ni_mull, b2_t, b2_f, b2_0, one0, m1_eq, ni_m1, reduceCtorEq, Bool.false_eq_true, nI_clamp, if_true, Option.some.injEq, Prod.mk.injEq, and_true, true_and, Nat.reduceAdd, Nat.reduceMul, Nat.reduceSub, Nat.reduceEqDiff, Nat.reduceLeDiff, Nat.reduceLT]
  · simp (disch := first | assumption | with_unfolding_all exact hW.1 _ _ rfl | rfl | exact pu_okI (by first | assumption | with_unfolding_all exact hW.1 _ _ rfl) (by omega) (by omega) | exact pu_oqI (by first | assumption | with_unfolding_all exact hW.1 _ _ rfl) (by omega) (by omega) | omega | decide) only [↓reduceIte, ↓gi_b, ↓pi_b, ↓gr_b, ↓pr_b, ↓al_b, ↓as_b, ↓al_3, ↓as_3, ↓al_12, ↓as_12, ↓al_l, ↓as_l, ↓rc_b, ↓Option.bind_some, ↓zr0_b, ↓zr1_b, ↓zrb_b, ↓pz0_b, ↓pz1_b, al_b, as_b, rc_b, gi_b, pi_b, gr_b, zr0, zr1, zrb, u_s, u_n, v_s, v_n, ↓isIn_b, ite_T, ite_F, il_t, il_f, li_t, li_f, it_t, it_f, ti_t, ti_f, ie_t, ie_f, ei_t, ei_f, nn_le_t, nn_le_f, nn_lt_t, nn_lt_f, nn_eq_t, nn_eq_f, nI_1, nI_add, ni_addl, ni_ladd, pk_mul, ni_mull, b2_t, b2_f, b2_0, one0, m1_eq, ni_m1, reduceCtorEq, Bool.false_eq_true, nI_clamp, if_true, Option.some.injEq, Prod.mk.injEq, and_true, true_and, Nat.reduceAdd, Nat.reduceMul, Nat.reduceSub, Nat.reduceEqDiff, Nat.reduceLeDiff, Nat.reduceLT]
  · simp (disch := first | assumption | with_unfolding_all exact hW.1 _ _ rfl | rfl | exact pu_okI (by first | assumption | with_unfolding_all exact hW.1 _ _ rfl) (by omega) (by omega) | exact pu_oqI (by first | assumption | with_unfolding_all exact hW.1 _ _ rfl) (by omega) (by omega) | omega | decide) only [↓reduceIte, ↓gi_b, ↓pi_b, ↓gr_b, ↓pr_b, ↓al_b, ↓as_b, ↓al_3, ↓as_3, ↓al_12, ↓as_12, ↓al_l, ↓as_l, ↓rc_b, ↓Option.bind_some, ↓zr0_b, ↓zr1_b, ↓zrb_b, ↓pz0_b, ↓pz1_b, al_b, as_b, rc_b, gi_b, pi_b, gr_b, zr0, zr1, zrb, u_s, u_n, v_s, v_n, ↓isIn_b, ite_T, ite_F, il_t, il_f, li_t, li_f, it_t, it_f, ti_t, ti_f, ie_t, ie_f, ei_t, ei_f, nn_le_t, nn_le_f, nn_lt_t, nn_lt_f, nn_eq_t, nn_eq_f, nI_1, nI_add, ni_addl, ni_ladd, pk_mul, ni_mull, b2_t, b2_f, b2_0, one0, m1_eq, ni_m1, reduceCtorEq, Bool.false_eq_true, nI_clamp, if_true, Option.some.injEq, Prod.mk.injEq, and_true, true_and, Nat.reduceAdd, Nat.reduceMul, Nat.reduceSub, Nat.reduceEqDiff, Nat.reduceLeDiff, Nat.reduceLT]
theorem nOK_C {k : Nat} (hk : k ≤ 4) (v : Int32) : inB v (if k = 3 then 1 else if k = 4 then 2 else 0) (if k = 1 then 9 else if k = 2 then 3 else if k = 3 then 9 else if k = 4 then 5 else 0) = nOK k v := by
  unfold nOK
  have h5 : k = 0 ∨ k = 1 ∨ k = 2 ∨ k = 3 ∨ k = 4 := by omega
  rcases h5 with rfl | rfl | rfl | rfl | rfl
  · exact inB_00 v
  · rfl
  · rfl
  · rfl
  · rfl
theorem inB_num {v : Int32} {lo hi : Nat} (hl : lo < 2147483648) (hh : hi < 2147483648) (h : inB v (nI lo) (nI hi) = true) : ∃ c, lo ≤ c ∧ c ≤ hi ∧ v = nI c := by
  unfold inB at h
  rw [Bool.and_eq_true, decide_eq_true_eq, decide_eq_true_eq] at h
  obtain ⟨q1, q2⟩ := h
  obtain ⟨c, hc, rfl⟩ := nI_of (x := v) (by rw [← i_le]; exact Int32.le_trans (nI_pos' hl) q1)
  exact ⟨c, (nI_leI hl hc).mp q1, (nI_leI hc hh).mp q2, rfl⟩
theorem nOK_num {k : Nat} (hk : k ≤ 4) {v : Int32} (h : nOK k v = true) : ∃ c, v = nI c ∧ ((k = 0 ∧ c = 0) ∨ (k = 1 ∧ c ≤ 9) ∨ (k = 2 ∧ c ≤ 3) ∨ (k = 3 ∧ 1 ≤ c ∧ c ≤ 9) ∨ (k = 4 ∧ 2 ≤ c ∧ c ≤ 5)) := by
  unfold nOK at h
  have h5 : k = 0 ∨ k = 1 ∨ k = 2 ∨ k = 3 ∨ k = 4 := by omega
  rcases h5 with rfl | rfl | rfl | rfl | rfl
  · exact ⟨0, of_decide_eq_true h, Or.inl ⟨rfl, rfl⟩⟩
  · obtain ⟨c, h1, h2, rfl⟩ := inB_num (lo := 0) (hi := 9) (by omega) (by omega) h
    exact ⟨c, rfl, by omega⟩
  · obtain ⟨c, h1, h2, rfl⟩ := inB_num (lo := 0) (hi := 3) (by omega) (by omega) h
    exact ⟨c, rfl, by omega⟩
  · obtain ⟨c, h1, h2, rfl⟩ := inB_num (lo := 1) (hi := 9) (by omega) (by omega) h
    exact ⟨c, rfl, by omega⟩
  · obtain ⟨c, h1, h2, rfl⟩ := inB_num (lo := 2) (hi := 5) (by omega) (by omega) h
    exact ⟨c, rfl, by omega⟩
theorem nOK_T {a c : Nat} (hc : (a = 0 ∧ c = 0) ∨ (a = 1 ∧ c ≤ 9) ∨ (a = 2 ∧ c ≤ 3) ∨ (a = 3 ∧ 1 ≤ c ∧ c ≤ 9) ∨ (a = 4 ∧ 2 ≤ c ∧ c ≤ 5)) : nOK a (nI c) = true := by
  unfold nOK
  rcases hc with ⟨rfl, rfl⟩ | ⟨rfl, h⟩ | ⟨rfl, h⟩ | ⟨rfl, h, h'⟩ | ⟨rfl, h, h'⟩
  · rfl
  · exact inB_t (lo := 0) (hi := 9) (Nat.zero_le _) h (by omega)
  · exact inB_t (lo := 0) (hi := 3) (Nat.zero_le _) h (by omega)
  · exact inB_t (lo := 1) (hi := 9) h h' (by omega)
  · exact inB_t (lo := 2) (hi := 5) h h' (by omega)
set_option maxHeartbeats 4000000 in
set_option maxRecDepth 100000 in
theorem c_work {s : Nat → Option pu_S} {I : Nat → Nat → Int32} {P : Nat → Nat → Option Nat} {J : Nat → Nat → Int64} {n : Nat × Nat} {Z : S_Z} (hZ : Z_B Z) (h : InvC s I P n Z) {a c : Nat} {x : Option Nat} (ha : a ≤ 4) (hc : (a = 0 ∧ c = 0) ∨ (a = 1 ∧ c ≤ 9) ∨ (a = 2 ∧ c ≤ 3) ∨ (a = 3 ∧ 1 ≤ c ∧ c ≤ 9) ∨ (a = 4 ∧ 2 ≤ c ∧ c ≤ 5)) (hx : ∀ w, x = some w → w < znw Z) (hfull : znw Z < 10) : Rn (fX8_work 1 (nI a) (nI c) (oI x) (pu_hp s I P J n)) (QN s I J n 1 4 (zsW Z (a, c, x)) (nI (znw Z))) := by
  have hnw := hZ.2.2.1.1
  have h1 : inB (nI a) 0 4 = true := inB_t (lo := 0) (hi := 4) (Nat.zero_le _) ha (by omega)
  have h2 : nOK a (nI c) = true := nOK_T hc
  have eb : inB (oI x) (-1) (nI (znw Z) - 1) = true := by
    rw [m1_or _ (by omega)]
    cases x with
    | none => rfl
    | some w => rw [show oI (some w) = nI w from rfl, inB_t1 (hx w rfl) (by omega), Bool.or_true]
  have hW := h.1
  have hn := h.2.1
  have e15 := h.2.2.1.2.2.1
  have hW1 : pu_W (pu_row s (n.1 + 1) (some (0, 7, 0))) (pu_row P (n.1 + 1) (fun _ => none)) := hW.grow (fun x hx => pu_row_n (by omega)) (fun x k hx => by rw [pu_row_n (by have := rft_le hx; omega)])
  have hsf : pu_row s (n.1 + 1) (some (0, 7, 0)) (n.1 + 1) = some (0, 7, 0) := pu_row_s _ _ _
  have e15' : pu_row I (n.1 + 1) (fun _ => 0) 1 5 = nI (znw Z) := by rw [pu_row_n (by omega), e15]
  have ewo : fX8_workOf 1 (oI x) (pu_hp (pu_row s (n.1 + 1) (some (0, 7, 0))) (pu_row I (n.1 + 1) (fun _ => 0)) (pu_row P (n.1 + 1) (fun _ => none)) J (n.1 + 1, n.2 + 4)) = some (oP P x, pu_hp (pu_row s (n.1 + 1) (some (0, 7, 0))) (pu_row I (n.1 + 1) (fun _ => 0)) (pu_row P (n.1 + 1) (fun _ => none)) J (n.1 + 1, n.2 + 4)) := by
    have hW := hW1
    unfold fX8_workOf
    cases x with
    | none =>
      rw [show oI none = (-1 : Int32) from rfl]
      simp (disch := first | assumption | with_unfolding_all exact hW.1 _ _ rfl | rfl | exact pu_okI (by first | assumption | with_unfolding_all exact hW.1 _ _ rfl) (by omega) (by omega) | exact pu_oqI (by first | assumption | with_unfolding_all exact hW.1 _ _ rfl) (by omega) (by omega) | omega | decide) only [↓reduceIte, ↓gi_b, ↓pi_b, ↓gr_b, ↓pr_b, ↓al_b, ↓as_b, ↓al_3, ↓as_3, ↓al_12, ↓as_12, ↓al_l, ↓as_l, ↓rc_b, ↓Option.bind_some, ↓zr0_b, ↓zr1_b, ↓zrb_b, ↓pz0_b, ↓pz1_b, al_b, as_b, rc_b, gi_b, pi_b, gr_b, zr0, zr1, zrb, u_s, u_n, v_s, v_n, ↓isIn_b, ite_T, ite_F, il_t, il_f, li_t, li_f, it_t, it_f, ti_t, ti_f, ie_t, ie_f, ei_t, ei_f, nn_le_t, nn_le_f, nn_lt_t, nn_lt_f, nn_eq_t, nn_eq_f, nI_1, nI_add, ni_addl, ni_ladd, pk_mul, ni_mull, b2_t, b2_f, b2_0, one0, m1_eq, ni_m1, reduceCtorEq, Bool.false_eq_true, nI_clamp, if_true, Option.some.injEq, Prod.mk.injEq, and_true, true_and, Nat.reduceAdd, Nat.reduceMul, Nat.reduceSub, Nat.reduceEqDiff, Nat.reduceLeDiff, Nat.reduceLT, e15', inB_f (v := -1) (lo := 0) (hi := nI (znw Z) - 1) (Or.inl (by decide))]
      rfl
    | some w =>
      have hw := hx w rfl
      rw [show oI (some w) = nI w from rfl]
      have f0 : ((10 : Int32) ≤ nI w) = False := il_f (by show w < 10; have := hZ.2.2.1.1; omega) (by decide)
      simp (disch := first | assumption | with_unfolding_all exact hW.1 _ _ rfl | rfl | exact pu_okI (by first | assumption | with_unfolding_all exact hW.1 _ _ rfl) (by omega) (by omega) | exact pu_oqI (by first | assumption | with_unfolding_all exact hW.1 _ _ rfl) (by omega) (by omega) | omega | decide) only [↓reduceIte, ↓gi_b, ↓pi_b, ↓gr_b, ↓pr_b, ↓al_b, ↓as_b, ↓al_3, ↓as_3, ↓al_12, ↓as_12, ↓al_l, ↓as_l, ↓rc_b, ↓Option.bind_some, ↓zr0_b, ↓zr1_b, ↓zrb_b, ↓pz0_b, ↓pz1_b, al_b, as_b, rc_b, gi_b, pi_b, gr_b, zr0, zr1, zrb, u_s, u_n, v_s, v_n, ↓isIn_b, ite_T, ite_F, il_t, il_f, li_t, li_f, it_t, it_f, ti_t, ti_f, ie_t, ie_f, ei_t, ei_f, nn_le_t, nn_le_f, nn_lt_t, nn_lt_f, nn_eq_t, nn_eq_f, nI_1, nI_add, ni_addl, ni_ladd, pk_mul, ni_mull, b2_t, b2_f, b2_0, one0, m1_eq, ni_m1, reduceCtorEq, Bool.false_eq_true, nI_clamp, if_true, Option.some.injEq, Prod.mk.injEq, and_true, true_and, Nat.reduceAdd, Nat.reduceMul, Nat.reduceSub, Nat.reduceEqDiff, Nat.reduceLeDiff, Nat.reduceLT, ↓gr1_2 hW, e15', inB_t1 hw (show znw Z < 2147483648 by omega), f0, ↓alr_b]
      rw [pu_row_n (by omega)]; rfl
  unfold fX8_work fX8_isWorkOrNone fX7_init
  rw [q_isKind, h1]
  simp (disch := first | assumption | with_unfolding_all exact hW.1 _ _ rfl | rfl | exact pu_okI (by first | assumption | with_unfolding_all exact hW.1 _ _ rfl) (by omega) (by omega) | exact pu_oqI (by first | assumption | with_unfolding_all exact hW.1 _ _ rfl) (by omega) (by omega) | omega | decide) only [↓reduceIte, ↓gi_b, ↓pi_b, ↓gr_b, ↓pr_b, ↓al_b, ↓as_b, ↓al_3, ↓as_3, ↓al_12, ↓as_12, ↓al_l, ↓as_l, ↓rc_b, ↓Option.bind_some, ↓zr0_b, ↓zr1_b, ↓zrb_b, ↓pz0_b, ↓pz1_b, al_b, as_b, rc_b, gi_b, pi_b, gr_b, zr0, zr1, zrb, u_s, u_n, v_s, v_n, ↓isIn_b, ite_T, ite_F, il_t, il_f, li_t, li_f, it_t, it_f, ti_t, ti_f, ie_t, ie_f, ei_t, ei_f, nn_le_t, nn_le_f, nn_lt_t, nn_lt_f, nn_eq_t, nn_eq_f, nI_1, nI_add, ni_addl, ni_ladd, pk_mul, ni_mull, b2_t, b2_f, b2_0, one0, m1_eq, ni_m1, reduceCtorEq, Bool.false_eq_true, nI_clamp, if_true, Option.some.injEq, Prod.mk.injEq, and_true, true_and, Nat.reduceAdd, Nat.reduceMul, Nat.reduceSub, Nat.reduceEqDiff, Nat.reduceLeDiff, Nat.reduceLT, ↓gr1_2 hW, q_least ha, q_most ha, nOK_C ha, h2, e15, eb, ↓nwo_7]
  replace hW := hW1
  have hW2 : pu_W (pu_row s (n.1 + 1) (some (0, 7, 0))) (pu_v (pu_row P (n.1 + 1) (fun _ => none)) (n.1 + 1) 3 (oP P x)) := hW1.v (rft_hi (by omega))
  simp (disch := first | assumption | with_unfolding_all exact hW.1 _ _ rfl | rfl | exact pu_okI (by first | assumption | with_unfolding_all exact hW.1 _ _ rfl) (by omega) (by omega) | exact pu_oqI (by first | assumption | with_unfolding_all exact hW.1 _ _ rfl) (by omega) (by omega) | omega | decide) only [↓reduceIte, ↓gi_b, ↓pi_b, ↓gr_b, ↓pr_b, ↓al_b, ↓as_b, ↓al_3, ↓as_3, ↓al_12, ↓as_12, ↓al_l, ↓as_l, ↓rc_b, ↓Option.bind_some, ↓zr0_b, ↓zr1_b, ↓zrb_b, ↓pz0_b, ↓pz1_b, al_b, as_b, rc_b, gi_b, pi_b, gr_b, zr0, zr1, zrb, u_s, u_n, v_s, v_n, ↓isIn_b, ite_T, ite_F, il_t, il_f, li_t, li_f, it_t, it_f, ti_t, ti_f, ie_t, ie_f, ei_t, ei_f, nn_le_t, nn_le_f, nn_lt_t, nn_lt_f, nn_eq_t, nn_eq_f, nI_1, nI_add, ni_addl, ni_ladd, pk_mul, ni_mull, b2_t, b2_f, b2_0, one0, m1_eq, ni_m1, reduceCtorEq, Bool.false_eq_true, nI_clamp, if_true, Option.some.injEq, Prod.mk.injEq, and_true, true_and, Nat.reduceAdd, Nat.reduceMul, Nat.reduceSub, Nat.reduceEqDiff, Nat.reduceLeDiff, Nat.reduceLT, ↓gr1_2 hW, e15', ewo, ↓asr_b (t := 6) (hb := show pu_row s (n.1 + 1) (some (0, 7, 0)) (n.1 + 1) = some (0, am_tc 6, 0) from hsf)]
  rw [nI_pred]
  generalize hI' : pu_u (pu_u (pu_u (pu_u (pu_row I (n.1 + 1) fun x => 0) (n.1 + 1) 0 (nI (znw Z))) (n.1 + 1) 1 (nI a)) (n.1 + 1) 2 (nI c)) 1 5 (nI (znw Z + 1)) = I'
  generalize hP' : pu_v (pu_v (pu_row P (n.1 + 1) fun x => none) (n.1 + 1) 3 (oP P x)) 4 (znw Z) (some (n.1 + 1)) = P'
  have fI : ∀ x j, x ≤ n.1 → ¬ (x = 1 ∧ j = 5) → I' x j = I x j := fun x j h1 h2 => by
    subst hI'
    rw [u_n h2, u_n (by omega), u_n (by omega), u_n (by omega), pu_row_n (by omega)]
  have fP : ∀ x j, x ≤ n.1 → ¬ (x = 4 ∧ j = znw Z) → P' x j = P x j := fun y j h1 h2 => by
    subst hP'
    rw [v_n h2, v_n (by omega), pu_row_n (by omega)]
  have fs : ∀ x, x ≤ n.1 → pu_row s (n.1 + 1) (some (0, 7, 0)) x = s x := fun x hx => pu_row_n (by omega)
  have foP : ∀ y : Option Nat, (∀ w, y = some w → w < znw Z) → oP P y = oP P' y := fun y hy => by
    cases y with
    | none => rfl
    | some j => have := hy j rfl; exact (fP _ _ (by omega) (by omega)).symm
  refine Rn_some ⟨_, I', P', rfl, h.grow (by subst hP'; exact hW2.v rfl) (by show n.1 ≤ n.1 + 1; omega) fs (fun x j q1 q2 q3 q4 => fI x j q1 (by omega)) (fun x k q1 q2 q3 => fP x k q1 (by omega)) (fun _ _ => Or.inr trivial) ⟨rfl, rfl, rfl⟩ (by rw [fI _ _ (by omega) (by omega), h.2.2.1.1]; rfl) (by rw [fI _ _ (by omega) (by omega), h.2.2.1.2.1]; rfl) (by subst hI'; rw [u_s]; rfl) (by rw [fI _ _ (by omega) (by omega), h.2.2.1.2.2.2.2.2]; rfl) (fun k hk => by rw [fI _ _ (by omega) (by omega)]; exact h.2.2.2.1 k hk) (fun i hi => ?_) (fun i hi => ?_) (fun i hi => ?_), fun x q1 q2 => fs x q2, fun x j q1 q2 => fI x j q2 (by omega)⟩
  · obtain ⟨c', b1, b2, b3, b4, b5⟩ := h.2.2.2.2.2.1 i hi
    obtain ⟨c1, c2, c3, c4, c5, c6, c7, c8, c9, c10, c11⟩ := b4
    exact ⟨c', by rw [fP _ _ (by omega) (by omega), b1], b2, by show c' + 5 ≤ n.1 + 1; omega, ⟨by rw [fs _ (by omega), c1], by rw [fs _ (by omega), c2], by rw [fs _ (by omega), c3], by rw [fs _ (by omega), c4], by rw [fs _ (by omega), c5], by rw [fs _ (by omega), c6], by rw [fP _ _ (by omega) (by omega), c7], by rw [fP _ _ (by omega) (by omega), c8], by rw [fP _ _ (by omega) (by omega), c9], by rw [fP _ _ (by omega) (by omega), c10], by rw [fP _ _ (by omega) (by omega), c11]⟩, b5.fr fun x j q1 q2 => fI x j (by omega) (by omega)⟩
  · obtain ⟨f, d1, d2, d3, d4, d5⟩ := h.2.2.2.2.2.2.1 i hi
    exact ⟨f, by rw [fP _ _ (by omega) (by omega), d1], d2, by show f ≤ n.1 + 1; omega, by rw [fs _ d3, d4], d5.fr fun j => fI _ _ d3 (by omega)⟩
  · have hi' : i < znw Z + 1 := hi
    show ∃ f, P' 4 i = some f ∧ 40 ≤ f ∧ f ≤ n.1 + 1 ∧ pu_row s (n.1 + 1) (some (0, 7, 0)) f = some (0, 7, 0) ∧ W_I I' P' f i (upG (zW Z) (znw Z) (a, c, x) i)
    by_cases e : i = znw Z
    · subst e
      rw [upG_s]
      refine ⟨n.1 + 1, by subst hP'; rw [v_s], by omega, by omega, hsf, ?_, ?_, ?_, ?_⟩
      · subst hI'; rw [u_n (by omega), u_n (by omega), u_n (by omega), u_s]
      · subst hI'; rw [u_n (by omega), u_n (by omega), u_s]
      · subst hI'; rw [u_n (by omega), u_s]
      · show P' (n.1 + 1) 3 = oP P' x
        rw [← foP x hx]
        subst hP'
        rw [v_n (by omega), v_s]
    · rw [upG_n e]
      obtain ⟨w, d1, d2, d3, d4, d5, d6, d7, d8⟩ := h.2.2.2.2.2.2.2.1 i (by omega)
      refine ⟨w, by rw [fP _ _ (by omega) (by omega), d1], d2, by omega, by rw [fs _ d3, d4], by rw [fI _ _ d3 (by omega), d5], by rw [fI _ _ d3 (by omega)]; exact d6, by rw [fI _ _ d3 (by omega)]; exact d7, ?_⟩
      rw [fP _ _ d3 (by omega), d8]
      exact foP _ (fun w' hw' => by have := (hZ.2.2.1.2 i (by omega)).2.2 w' hw'; omega)
theorem zsW_B {Z : S_Z} (hZ : Z_B Z) {W : S_W} (hW : W_B (znw Z) W) (h10 : znw Z < 10) : Z_B (zsW Z W) := by
  refine ⟨hZ.1, hZ.2.1, ⟨by show znw Z + 1 ≤ 10; omega, fun i hi => ?_⟩, ⟨hZ.2.2.2.1.1, hZ.2.2.2.1.2.1, fun w hw => Nat.lt_succ_of_lt (hZ.2.2.2.1.2.2 w hw)⟩, fun hk => ⟨(hZ.2.2.2.2.1 hk).1, (hZ.2.2.2.2.1 hk).2.1, fun w hw => Nat.lt_succ_of_lt ((hZ.2.2.2.2.1 hk).2.2 w hw)⟩, hZ.2.2.2.2.2⟩
  have hi' : i < znw Z + 1 := hi
  show W_B i (upG (zW Z) (znw Z) W i)
  by_cases e : i = znw Z
  · subst e; rw [upG_s]; exact hW
  · rw [upG_n e]; exact hZ.2.2.1.2 i (by omega)
