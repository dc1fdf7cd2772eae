/-! numbers that name something; runs begun by calls -/
theorem inB_f {v lo hi : Int32} (h : v < lo ∨ hi < v) : inB v lo hi = false := by
  unfold inB
  rcases h with h | h
  · rw [decide_eq_false (by rw [i_le]; exact fun q => q h)]; rfl
  · rw [decide_eq_false (p := v ≤ hi) (by rw [i_le]; exact fun q => q h), Bool.and_false]
/-- an int that is told to be in 0..c-1, or isn't -/
theorem inB_dec (v : Int32) {c : Nat} (hc : c < 2147483648) : (∃ k, k < c ∧ v = nI k ∧ inB v 0 (nI c - 1) = true) ∨ (inB v 0 (nI c - 1) = false ∧ (v < 0 ∨ ∃ k, c ≤ k ∧ k < 2147483648 ∧ v = nI k)) := by
  by_cases h : v < 0
  · exact Or.inr ⟨inB_f (Or.inl h), Or.inl h⟩
  · obtain ⟨k, hk, rfl⟩ := nI_of h
    by_cases hkc : k < c
    · exact Or.inl ⟨k, hkc, rfl, inB_t1 hkc hc⟩
    · refine Or.inr ⟨?_, Or.inr ⟨k, by omega, hk, rfl⟩⟩
      cases e : inB (nI k) 0 (nI c - 1) with
      | false => rfl
      | true =>
        obtain ⟨j, hj, e2⟩ := inB_of1 hc e
        rw [nI_eq hk (by omega)] at e2
        omega
theorem inB_dec' (v : Int32) {c : Nat} (hc : c + 1 < 2147483648) : (∃ k, k ≤ c ∧ v = nI k ∧ inB v 0 (nI c) = true) ∨ (inB v 0 (nI c) = false ∧ (v < 0 ∨ ∃ k, c < k ∧ k < 2147483648 ∧ v = nI k)) := by
  have e : nI c = nI (c + 1) - 1 := (nI_pred c).symm
  rw [e]
  rcases inB_dec v (c := c + 1) hc with ⟨k, h1, h2, h3⟩ | ⟨h1, h2⟩
  · exact Or.inl ⟨k, by omega, h2, h3⟩
  · refine Or.inr ⟨h1, ?_⟩
    rcases h2 with h2 | ⟨k, h3, h4, h5⟩
    · exact Or.inl h2
    · exact Or.inr ⟨k, by omega, h4, h5⟩
theorem inB_4 {j : Nat} (h : j < 4) : inB (nI j) 0 3 = true := inB_t (lo := 0) (hi := 3) (Nat.zero_le _) (by omega) (by omega)
section ST
variable {s : Nat → Option pu_S} {I : Nat → Nat → Int32} {P : Nat → Nat → Option Nat} {J : Nat → Nat → Int64} {n : Nat × Nat}
variable {Z : S_Z} {c m i j : Nat} {K : S_K}
theorem hasB_g (hs : s c = some (0, 0, 0)) (h0 : I c 8 = nI m) (hm : m ≤ 12) (v : Int32) : fX0_hasBall c v (pu_hp s I P J n) = some (b2 (inB v 0 (nI m - 1)), pu_hp s I P J n) := by
  rcases inB_dec v (c := m) (by omega) with ⟨k, h1, rfl, h3⟩ | ⟨h1, h2 | ⟨k, h3, h4, rfl⟩⟩
  · rw [hasB_e hs h0 hm (by omega), h3, decide_eq_true h1]
  · unfold fX0_hasBall
    rw [if_pos h2, h1]; rfl
  · rw [hasB_e hs h0 hm h4, h1, decide_eq_false (by omega)]
theorem hasV_g (hs : s c = some (0, 0, 0)) (h0 : I c 0 = nI m) (hm : m ≤ 3) (v : Int32) : fX0_hasVessel c v (pu_hp s I P J n) = some (b2 (inB v 0 (nI m - 1)), pu_hp s I P J n) := by
  rcases inB_dec v (c := m) (by omega) with ⟨k, h1, rfl, h3⟩ | ⟨h1, h2 | ⟨k, h3, h4, rfl⟩⟩
  · rw [hasV_e hs h0 hm (by omega), h3, decide_eq_true h1]
  · unfold fX0_hasVessel
    rw [if_pos h2, h1]; rfl
  · rw [hasV_e hs h0 hm h4, h1, decide_eq_false (by omega)]
set_option maxHeartbeats 4000000 in
set_option maxRecDepth 100000 in
theorem q_clockOf (hZ : Z_B Z) (h : InvC s I P n Z) (v : Int32) : fX8_clockOf 1 v (pu_hp s I P J n) = some (if inB v 0 (nI (znc Z) - 1) = true then P 2 v.toNatClampNeg else none, pu_hp s I P J n) := by
  have hW := h.1
  have a1 := h.2.2.1.1
  have hc := hZ.1.1
  unfold fX8_clockOf
  rcases inB_dec v (c := znc Z) (by omega) with ⟨k, h1, rfl, h3⟩ | ⟨h1, -⟩
  · have f0 : ((4 : Int32) ≤ nI k) = False := il_f (by show k < 4; omega) (by decide)
    simp (disch := first | assumption | with_unfolding_all exact hW.1 _ _ rfl | rfl | exact pu_okI (by first | assumption | with_unfolding_all exact hW.1 _ _ rfl) (by omega) (by omega) | exact pu_oqI (by first | assumption | with_unfolding_all exact hW.1 _ _ rfl) (by omega) (by omega) | omega | decide) only [↓reduceIte, ↓gi_b, ↓pi_b, ↓gr_b, ↓pr_b, ↓al_b, ↓as_b, ↓al_3, ↓as_3, ↓al_12, ↓as_12, ↓al_l, ↓as_l, ↓rc_b, ↓Option.bind_some, ↓zr0_b, ↓zr1_b, ↓zrb_b, ↓pz0_b, ↓pz1_b, al_b, as_b, rc_b, gi_b, pi_b, gr_b, zr0, zr1, zrb, u_s, u_n, v_s, v_n, ↓isIn_b, ite_T, ite_F, il_t, il_f, li_t, li_f, it_t, it_f, ti_t, ti_f, ie_t, ie_f, ei_t, ei_f, nn_le_t, nn_le_f, nn_lt_t, nn_lt_f, nn_eq_t, nn_eq_f, nI_1, nI_add, ni_addl, ni_ladd, pk_mul, ni_mull, b2_t, b2_f, b2_0, one0, m1_eq, ni_m1, reduceCtorEq, Bool.false_eq_true, nI_clamp, if_true, Option.some.injEq, Prod.mk.injEq, and_true, true_and, Nat.reduceAdd, Nat.reduceMul, Nat.reduceSub, Nat.reduceEqDiff, Nat.reduceLeDiff, Nat.reduceLT, ↓gr1_0 hW, a1, h3, f0, ↓alr_b]
  · simp (disch := first | assumption | with_unfolding_all exact hW.1 _ _ rfl | rfl | exact pu_okI (by first | assumption | with_unfolding_all exact hW.1 _ _ rfl) (by omega) (by omega) | exact pu_oqI (by first | assumption | with_unfolding_all exact hW.1 _ _ rfl) (by omega) (by omega) | omega | decide) only [↓reduceIte, ↓gi_b, ↓pi_b, ↓gr_b, ↓pr_b, ↓al_b, ↓as_b, ↓al_3, ↓as_3, ↓al_12, ↓as_12, ↓al_l, ↓as_l, ↓rc_b, ↓Option.bind_some, ↓zr0_b, ↓zr1_b, ↓zrb_b, ↓pz0_b, ↓pz1_b, al_b, as_b, rc_b, gi_b, pi_b, gr_b, zr0, zr1, zrb, u_s, u_n, v_s, v_n, ↓isIn_b, ite_T, ite_F, il_t, il_f, li_t, li_f, it_t, it_f, ti_t, ti_f, ie_t, ie_f, ei_t, ei_f, nn_le_t, nn_le_f, nn_lt_t, nn_lt_f, nn_eq_t, nn_eq_f, nI_1, nI_add, ni_addl, ni_ladd, pk_mul, ni_mull, b2_t, b2_f, b2_0, one0, m1_eq, ni_m1, reduceCtorEq, Bool.false_eq_true, nI_clamp, if_true, Option.some.injEq, Prod.mk.injEq, and_true, true_and, Nat.reduceAdd, Nat.reduceMul, Nat.reduceSub, Nat.reduceEqDiff, Nat.reduceLeDiff, Nat.reduceLT, ↓gr1_0 hW, a1, h1]
set_option maxHeartbeats 4000000 in
set_option maxRecDepth 100000 in
theorem q_faultOf (hZ : Z_B Z) (h : InvC s I P n Z) (v : Int32) : fX8_faultOf 1 v (pu_hp s I P J n) = some (if inB v 0 (nI (znf Z) - 1) = true then P 3 v.toNatClampNeg else none, pu_hp s I P J n) := by
  have hW := h.1
  have a1 := h.2.2.1.2.1
  have hc := hZ.2.1.1
  unfold fX8_faultOf
  rcases inB_dec v (c := znf Z) (by omega) with ⟨k, h1, rfl, h3⟩ | ⟨h1, -⟩
  · have f0 : ((8 : Int32) ≤ nI k) = False := il_f (by show k < 8; omega) (by decide)
    simp (disch := first | assumption | with_unfolding_all exact hW.1 _ _ rfl | rfl | exact pu_okI (by first | assumption | with_unfolding_all exact hW.1 _ _ rfl) (by omega) (by omega) | exact pu_oqI (by first | assumption | with_unfolding_all exact hW.1 _ _ rfl) (by omega) (by omega) | omega | decide) only [↓reduceIte, ↓gi_b, ↓pi_b, ↓gr_b, ↓pr_b, ↓al_b, ↓as_b, ↓al_3, ↓as_3, ↓al_12, ↓as_12, ↓al_l, ↓as_l, ↓rc_b, ↓Option.bind_some, ↓zr0_b, ↓zr1_b, ↓zrb_b, ↓pz0_b, ↓pz1_b, al_b, as_b, rc_b, gi_b, pi_b, gr_b, zr0, zr1, zrb, u_s, u_n, v_s, v_n, ↓isIn_b, ite_T, ite_F, il_t, il_f, li_t, li_f, it_t, it_f, ti_t, ti_f, ie_t, ie_f, ei_t, ei_f, nn_le_t, nn_le_f, nn_lt_t, nn_lt_f, nn_eq_t, nn_eq_f, nI_1, nI_add, ni_addl, ni_ladd, pk_mul, ni_mull, b2_t, b2_f, b2_0, one0, m1_eq, ni_m1, reduceCtorEq, Bool.false_eq_true, nI_clamp, if_true, Option.some.injEq, Prod.mk.injEq, and_true, true_and, Nat.reduceAdd, Nat.reduceMul, Nat.reduceSub, Nat.reduceEqDiff, Nat.reduceLeDiff, Nat.reduceLT, ↓gr1_1 hW, a1, h3, f0, ↓alr_b]
  · simp (disch := first | assumption | with_unfolding_all exact hW.1 _ _ rfl | rfl | exact pu_okI (by first | assumption | with_unfolding_all exact hW.1 _ _ rfl) (by omega) (by omega) | exact pu_oqI (by first | assumption | with_unfolding_all exact hW.1 _ _ rfl) (by omega) (by omega) | omega | decide) only [↓reduceIte, ↓gi_b, ↓pi_b, ↓gr_b, ↓pr_b, ↓al_b, ↓as_b, ↓al_3, ↓as_3, ↓al_12, ↓as_12, ↓al_l, ↓as_l, ↓rc_b, ↓Option.bind_some, ↓zr0_b, ↓zr1_b, ↓zrb_b, ↓pz0_b, ↓pz1_b, al_b, as_b, rc_b, gi_b, pi_b, gr_b, zr0, zr1, zrb, u_s, u_n, v_s, v_n, ↓isIn_b, ite_T, ite_F, il_t, il_f, li_t, li_f, it_t, it_f, ti_t, ti_f, ie_t, ie_f, ei_t, ei_f, nn_le_t, nn_le_f, nn_lt_t, nn_lt_f, nn_eq_t, nn_eq_f, nI_1, nI_add, ni_addl, ni_ladd, pk_mul, ni_mull, b2_t, b2_f, b2_0, one0, m1_eq, ni_m1, reduceCtorEq, Bool.false_eq_true, nI_clamp, if_true, Option.some.injEq, Prod.mk.injEq, and_true, true_and, Nat.reduceAdd, Nat.reduceMul, Nat.reduceSub, Nat.reduceEqDiff, Nat.reduceLeDiff, Nat.reduceLT, ↓gr1_1 hW, a1, h1]
set_option maxHeartbeats 4000000 in
set_option maxRecDepth 100000 in
theorem q_workOf (hZ : Z_B Z) (h : InvC s I P n Z) (v : Int32) : fX8_workOf 1 v (pu_hp s I P J n) = some (if inB v 0 (nI (znw Z) - 1) = true then P 4 v.toNatClampNeg else none, pu_hp s I P J n) := by
  have hW := h.1
  have a1 := h.2.2.1.2.2.1
  have hc := hZ.2.2.1.1
  unfold fX8_workOf
  rcases inB_dec v (c := znw Z) (by omega) with ⟨k, h1, rfl, h3⟩ | ⟨h1, -⟩
  · have f0 : ((10 : Int32) ≤ nI k) = False := il_f (by show k < 10; omega) (by decide)
    simp (disch := first | assumption | with_unfolding_all exact hW.1 _ _ rfl | rfl | exact pu_okI (by first | assumption | with_unfolding_all exact hW.1 _ _ rfl) (by omega) (by omega) | exact pu_oqI (by first | assumption | with_unfolding_all exact hW.1 _ _ rfl) (by omega) (by omega) | omega | decide) only [↓reduceIte, ↓gi_b, ↓pi_b, ↓gr_b, ↓pr_b, ↓al_b, ↓as_b, ↓al_3, ↓as_3, ↓al_12, ↓as_12, ↓al_l, ↓as_l, ↓rc_b, ↓Option.bind_some, ↓zr0_b, ↓zr1_b, ↓zrb_b, ↓pz0_b, ↓pz1_b, al_b, as_b, rc_b, gi_b, pi_b, gr_b, zr0, zr1, zrb, u_s, u_n, v_s, v_n, ↓isIn_b, ite_T, ite_F, il_t, il_f, li_t, li_f, it_t, it_f, ti_t, ti_f, ie_t, ie_f, ei_t, ei_f, nn_le_t, nn_le_f, nn_lt_t, nn_lt_f, nn_eq_t, nn_eq_f, nI_1, nI_add, ni_addl, ni_ladd, pk_mul, ni_mull, b2_t, b2_f, b2_0, one0, m1_eq, ni_m1, reduceCtorEq, Bool.false_eq_true, nI_clamp, if_true, Option.some.injEq, Prod.mk.injEq, and_true, true_and, Nat.reduceAdd, Nat.reduceMul, Nat.reduceSub, Nat.reduceEqDiff, Nat.reduceLeDiff, Nat.reduceLT, ↓gr1_2 hW, a1, h3, f0, ↓alr_b]
  · simp (disch := first | assumption | with_unfolding_all exact hW.1 _ _ rfl | rfl | exact pu_okI (by first | assumption | with_unfolding_all exact hW.1 _ _ rfl) (by omega) (by omega) | exact pu_oqI (by first | assumption | with_unfolding_all exact hW.1 _ _ rfl) (by omega) (by omega) | omega | decide) only [↓reduceIte, ↓gi_b, ↓pi_b, ↓gr_b, ↓pr_b, ↓al_b, ↓as_b, ↓al_3, ↓as_3, ↓al_12, ↓as_12, ↓al_l, ↓as_l, ↓rc_b, ↓Option.bind_some, ↓zr0_b, ↓zr1_b, ↓zrb_b, ↓pz0_b, ↓pz1_b, al_b, as_b, rc_b, gi_b, pi_b, gr_b, zr0, zr1, zrb, u_s, u_n, v_s, v_n, ↓isIn_b, ite_T, ite_F, il_t, il_f, li_t, li_f, it_t, it_f, ti_t, ti_f, ie_t, ie_f, ei_t, ei_f, nn_le_t, nn_le_f, nn_lt_t, nn_lt_f, nn_eq_t, nn_eq_f, nI_1, nI_add, ni_addl, ni_ladd, pk_mul, ni_mull, b2_t, b2_f, b2_0, one0, m1_eq, ni_m1, reduceCtorEq, Bool.false_eq_true, nI_clamp, if_true, Option.some.injEq, Prod.mk.injEq, and_true, true_and, Nat.reduceAdd, Nat.reduceMul, Nat.reduceSub, Nat.reduceEqDiff, Nat.reduceLeDiff, Nat.reduceLT, ↓gr1_2 hW, a1, h1]
theorem q_isSeason (v : Int32) (h : am_H) : fX8_isSeason v h = some (b2 (inB v 0 3), h) := by
  unfold fX8_isSeason
  simp (disch := first | assumption | with_unfolding_all exact hW.1 _ _ rfl | rfl | exact pu_okI (by first | assumption | with_unfolding_all exact hW.1 _ _ rfl) (by omega) (by omega) | exact pu_oqI (by first | assumption | with_unfolding_all exact hW.1 _ _ rfl) (by omega) (by omega) | omega | decide) only [↓reduceIte, ↓gi_b, ↓pi_b, ↓gr_b, ↓pr_b, ↓al_b, ↓as_b, ↓al_3, ↓as_3, ↓al_12, ↓as_12, ↓al_l, ↓as_l, ↓rc_b, ↓Option.bind_some, ↓zr0_b, ↓zr1_b, ↓zrb_b, ↓pz0_b, ↓pz1_b, al_b, as_b, rc_b, gi_b, pi_b, gr_b, zr0, zr1, zrb, u_s, u_n, v_s, v_n, ↓isIn_b, ite_T, ite_F, il_t, il_f, li_t, li_f, it_t, it_f, ti_t, ti_f, ie_t, ie_f, ei_t, ei_f, nn_le_t, nn_le_f, nn_lt_t, nn_lt_f, nn_eq_t, nn_eq_f, nI_1, nI_add, ni_addl, ni_ladd, pk_mul, ni_mull, b2_t, b2_f, b2_0, one0, m1_eq, ni_m1, reduceCtorEq, Bool.false_eq_true, nI_clamp, if_true, Option.some.injEq, Prod.mk.injEq, and_true, true_and, Nat.reduceAdd, Nat.reduceMul, Nat.reduceSub, Nat.reduceEqDiff, Nat.reduceLeDiff, Nat.reduceLT]
theorem season_b {ρ : Type} (v : Int32) (h : am_H) (G : Int32 × am_H → Option ρ) : (fX8_isSeason v h).bind G = G (b2 (inB v 0 3), h) := by rw [q_isSeason]; rfl
set_option maxHeartbeats 4000000 in
set_option maxRecDepth 100000 in
theorem q_warmOf (h : InvC s I P n Z) (hj : j < 4) : fX8_warmthOf 1 (nI j) (pu_hp s I P J n) = some (nI (tw (zT Z) j), pu_hp s I P J n) := by
  have hW := h.1
  have e := (h.2.2.2.2.2.2.2.2.1.1 j hj).1
  unfold fX8_warmthOf
  simp (disch := first | assumption | with_unfolding_all exact hW.1 _ _ rfl | rfl | exact pu_okI (by first | assumption | with_unfolding_all exact hW.1 _ _ rfl) (by omega) (by omega) | exact pu_oqI (by first | assumption | with_unfolding_all exact hW.1 _ _ rfl) (by omega) (by omega) | omega | decide) only [↓reduceIte, ↓gi_b, ↓pi_b, ↓gr_b, ↓pr_b, ↓al_b, ↓as_b, ↓al_3, ↓as_3, ↓al_12, ↓as_12, ↓al_l, ↓as_l, ↓rc_b, ↓Option.bind_some, ↓zr0_b, ↓zr1_b, ↓zrb_b, ↓pz0_b, ↓pz1_b, al_b, as_b, rc_b, gi_b, pi_b, gr_b, zr0, zr1, zrb, u_s, u_n, v_s, v_n, ↓isIn_b, ite_T, ite_F, il_t, il_f, li_t, li_f, it_t, it_f, ti_t, ti_f, ie_t, ie_f, ei_t, ei_f, nn_le_t, nn_le_f, nn_lt_t, nn_lt_f, nn_eq_t, nn_eq_f, nI_1, nI_add, ni_addl, ni_ladd, pk_mul, ni_mull, b2_t, b2_f, b2_0, one0, m1_eq, ni_m1, reduceCtorEq, Bool.false_eq_true, nI_clamp, if_true, Option.some.injEq, Prod.mk.injEq, and_true, true_and, Nat.reduceAdd, Nat.reduceMul, Nat.reduceSub, Nat.reduceEqDiff, Nat.reduceLeDiff, Nat.reduceLT, ↓gr1_7 hW, ↓gr7_0 hW, ↓gr11_0 hW, ↓season_b, ↓gr7_0 hW, inB_4 hj, e]
set_option maxHeartbeats 4000000 in
set_option maxRecDepth 100000 in
theorem q_dayOf (h : InvC s I P n Z) (hj : j < 4) : fX8_daylightOf 1 (nI j) (pu_hp s I P J n) = some (nI (td (zT Z) j), pu_hp s I P J n) := by
  have hW := h.1
  have e := (h.2.2.2.2.2.2.2.2.1.1 j hj).2
  unfold fX8_daylightOf
  simp (disch := first | assumption | with_unfolding_all exact hW.1 _ _ rfl | rfl | exact pu_okI (by first | assumption | with_unfolding_all exact hW.1 _ _ rfl) (by omega) (by omega) | exact pu_oqI (by first | assumption | with_unfolding_all exact hW.1 _ _ rfl) (by omega) (by omega) | omega | decide) only [↓reduceIte, ↓gi_b, ↓pi_b, ↓gr_b, ↓pr_b, ↓al_b, ↓as_b, ↓al_3, ↓as_3, ↓al_12, ↓as_12, ↓al_l, ↓as_l, ↓rc_b, ↓Option.bind_some, ↓zr0_b, ↓zr1_b, ↓zrb_b, ↓pz0_b, ↓pz1_b, al_b, as_b, rc_b, gi_b, pi_b, gr_b, zr0, zr1, zrb, u_s, u_n, v_s, v_n, ↓isIn_b, ite_T, ite_F, il_t, il_f, li_t, li_f, it_t, it_f, ti_t, ti_f, ie_t, ie_f, ei_t, ei_f, nn_le_t, nn_le_f, nn_lt_t, nn_lt_f, nn_eq_t, nn_eq_f, nI_1, nI_add, ni_addl, ni_ladd, pk_mul, ni_mull, b2_t, b2_f, b2_0, one0, m1_eq, ni_m1, reduceCtorEq, Bool.false_eq_true, nI_clamp, if_true, Option.some.injEq, Prod.mk.injEq, and_true, true_and, Nat.reduceAdd, Nat.reduceMul, Nat.reduceSub, Nat.reduceEqDiff, Nat.reduceLeDiff, Nat.reduceLT, ↓gr1_7 hW, ↓gr7_1 hW, ↓gr11_1 hW, ↓season_b, ↓gr7_1 hW, inB_4 hj, e]
/-- the fault that a run has -/
def oF (Z : S_Z) : Option Nat → S_F
  | none => (0, 0, 0, 0)
  | some k => zF Z k
def rnOK (Z : S_Z) (v1 v2 v3 : Int32) : Bool := inB v1 0 (nI (znc Z) - 1) && (inB v2 0 3 && (decide (v3 = -1) || inB v3 0 (nI (znf Z) - 1)))
theorem rn_dec (hZ : Z_B Z) (v1 v2 v3 : Int32) : (∃ i j q, i < znc Z ∧ j < 4 ∧ (∀ k, q = some k → k < znf Z) ∧ v1 = nI i ∧ v2 = nI j ∧ v3 = oI q) ∨ rnOK Z v1 v2 v3 = false := by
  have h1 := hZ.1.1
  have h2 := hZ.2.1.1
  cases e : rnOK Z v1 v2 v3 with
  | false => exact Or.inr rfl
  | true =>
    unfold rnOK at e
    rw [Bool.and_eq_true, Bool.and_eq_true, Bool.or_eq_true, decide_eq_true_eq] at e
    obtain ⟨e1, e2, e3⟩ := e
    obtain ⟨i, hi, rfl⟩ := inB_of1 (by omega) e1
    obtain ⟨j, hj, rfl⟩ := inB_of (hi := 3) (by omega) e2
    rcases e3 with rfl | e3
    · exact Or.inl ⟨i, j, none, hi, by omega, fun k hk => (by cases hk), rfl, rfl, rfl⟩
    · obtain ⟨k, hk, rfl⟩ := inB_of1 (by omega) e3
      exact Or.inl ⟨i, j, some k, hi, by omega, fun k' hk' => (by cases hk'; exact hk), rfl, rfl, rfl⟩
theorem oF_B (hZ : Z_B Z) {q : Option Nat} (hq : ∀ k, q = some k → k < znf Z) : S_FB (oF Z q) := by
  cases q with
  | none => exact ⟨Nat.zero_le _, Nat.zero_le _, Nat.zero_le _, Nat.zero_le _⟩
  | some k => exact hZ.2.1.2 k (hq k rfl)
theorem RS0_23 (hW : pu_W s P) : RS0 s P 23 := ⟨hW.1 _ _ rfl, hW.1 _ _ rfl, hW.1 _ _ rfl, hW.2 _ _ _ rfl, hW.2 _ _ _ rfl⟩
theorem RS0_26 (hW : pu_W s P) : RS0 s P 26 := ⟨hW.1 _ _ rfl, hW.1 _ _ rfl, hW.1 _ _ rfl, hW.2 _ _ _ rfl, hW.2 _ _ _ rfl⟩
/-- a run of the class stands at tick t -/
def RunAt (s : Nat → Option pu_S) (I : Nat → Nat → Int32) (P : Nat → Nat → Option Nat) (Z : S_Z) (i j : Nat) (q : Option Nat) (t : Nat) (I0 : Nat → Nat → Int32) (P0 : Nat → Nat → Option Nat) : Prop :=
  ∃ c f, P0 2 i = some c ∧ R_F 23 I I0 ∧ (∀ a k, ¬ (a = 23 ∧ k ≤ 1) → P0 a k = P a k) ∧ R_S s P0 23 c f ∧ C_S s P0 c ∧ C_I I0 c (zK Z i) ∧ F_I I0 f (oF Z q) ∧ R_I I0 23 (tw (zT Z) j) t (zK Z i) (S_at (zK Z i) (oF Z q) (tw (zT Z) j) true t)
set_option maxHeartbeats 4000000 in
set_option maxRecDepth 100000 in
theorem c_start_t (hZ : Z_B Z) (h : InvC s I P n Z) {q : Option Nat} (hi : i < znc Z) (hj : j < 4) (hq : ∀ k, q = some k → k < znf Z) : Rn (fX8_startRun 1 (nI i) (nI j) (oI q) (pu_hp s I P J n)) fun y => ∃ I' P', y = (1, pu_hp s I' P' J n) ∧ RunAt s I P Z i j q 0 I' P' := by
  have hW := h.1
  have hnc := hZ.1.1
  have hnf := hZ.2.1.1
  obtain ⟨c, b1, b2, b3, b4, b5⟩ := h.2.2.2.2.2.1 i hi
  have e1 : fX8_clockOf 1 (nI i) (pu_hp s I P J n) = some (some c, pu_hp s I P J n) := by rw [q_clockOf hZ h, inB_t1 hi (by omega), if_pos rfl, nI_clamp (by omega), b1]
  have main : ∀ f, s f = some (0, 2, 0) → (f < 23 ∨ 25 < f) → F_I I f (oF Z q) → Rn (fX8_startRun_24 (some 1) (nI j) (some c) (some f) (pu_hp s I P J n)) fun y => ∃ I' P', y = (1, pu_hp s I' P' J n) ∧ RunAt s I P Z i j q 0 I' P' := by
    intro f f1 f2 f3
    unfold fX8_startRun_24
    simp (disch := first | assumption | with_unfolding_all exact hW.1 _ _ rfl | rfl | exact pu_okI (by first | assumption | with_unfolding_all exact hW.1 _ _ rfl) (by omega) (by omega) | exact pu_oqI (by first | assumption | with_unfolding_all exact hW.1 _ _ rfl) (by omega) (by omega) | omega | decide) only [↓reduceIte, ↓gi_b, ↓pi_b, ↓gr_b, ↓pr_b, ↓al_b, ↓as_b, ↓al_3, ↓as_3, ↓al_12, ↓as_12, ↓al_l, ↓as_l, ↓rc_b, ↓Option.bind_some, ↓zr0_b, ↓zr1_b, ↓zrb_b, ↓pz0_b, ↓pz1_b, al_b, as_b, rc_b, gi_b, pi_b, gr_b, zr0, zr1, zrb, u_s, u_n, v_s, v_n, ↓isIn_b, ite_T, ite_F, il_t, il_f, li_t, li_f, it_t, it_f, ti_t, ti_f, ie_t, ie_f, ei_t, ei_f, nn_le_t, nn_le_f, nn_lt_t, nn_lt_f, nn_eq_t, nn_eq_f, nI_1, nI_add, ni_addl, ni_ladd, pk_mul, ni_mull, b2_t, b2_f, b2_0, one0, m1_eq, ni_m1, reduceCtorEq, Bool.false_eq_true, nI_clamp, if_true, Option.some.injEq, Prod.mk.injEq, and_true, true_and, Nat.reduceAdd, Nat.reduceMul, Nat.reduceSub, Nat.reduceEqDiff, Nat.reduceLeDiff, Nat.reduceLT, ↓gr1_14 hW, ↓gr1_12 hW, ↓season_b, inB_4 hj, q_warmOf h hj]
    refine Rn_bind (r_start (w := tw (zT Z) j) (RS0_23 hW) (hZ.1.2 i hi).1 b4 f1 (by omega) (by omega) b5) ?_
    rintro _ ⟨I', P', rfl, p1, p2, p3, p4, p5⟩
    exact Rn_some ⟨I', P', rfl, c, f, by rw [p1 _ _ (by omega), b1], p4, p1, p2, p3, p4.c b5 (by omega), p4.f f3 (by omega), p5⟩
  unfold fX8_startRun
  cases q with
  | none =>
    simp (disch := first | assumption | with_unfolding_all exact hW.1 _ _ rfl | rfl | exact pu_okI (by first | assumption | with_unfolding_all exact hW.1 _ _ rfl) (by omega) (by omega) | exact pu_oqI (by first | assumption | with_unfolding_all exact hW.1 _ _ rfl) (by omega) (by omega) | omega | decide) only [↓reduceIte, ↓gi_b, ↓pi_b, ↓gr_b, ↓pr_b, ↓al_b, ↓as_b, ↓al_3, ↓as_3, ↓al_12, ↓as_12, ↓al_l, ↓as_l, ↓rc_b, ↓Option.bind_some, ↓zr0_b, ↓zr1_b, ↓zrb_b, ↓pz0_b, ↓pz1_b, al_b, as_b, rc_b, gi_b, pi_b, gr_b, zr0, zr1, zrb, u_s, u_n, v_s, v_n, ↓isIn_b, ite_T, ite_F, il_t, il_f, li_t, li_f, it_t, it_f, ti_t, ti_f, ie_t, ie_f, ei_t, ei_f, nn_le_t, nn_le_f, nn_lt_t, nn_lt_f, nn_eq_t, nn_eq_f, nI_1, nI_add, ni_addl, ni_ladd, pk_mul, ni_mull, b2_t, b2_f, b2_0, one0, m1_eq, ni_m1, reduceCtorEq, Bool.false_eq_true, nI_clamp, if_true, Option.some.injEq, Prod.mk.injEq, and_true, true_and, Nat.reduceAdd, Nat.reduceMul, Nat.reduceSub, Nat.reduceEqDiff, Nat.reduceLeDiff, Nat.reduceLT, ↓gr1_14 hW, ↓gr1_12 hW, e1, oI]
    exact main 21 (hW.1 _ _ rfl) (by omega) h.2.2.2.2.1
  | some k =>
    have hk := hq k rfl
    obtain ⟨f, d1, d2, d3, d4, d5⟩ := h.2.2.2.2.2.2.1 k hk
    have e2 : fX8_faultOf 1 (nI k) (pu_hp s I P J n) = some (some f, pu_hp s I P J n) := by rw [q_faultOf hZ h, inB_t1 hk (by omega), if_pos rfl, nI_clamp (by omega), d1]
    simp (disch := first | assumption | with_unfolding_all exact hW.1 _ _ rfl | rfl | exact pu_okI (by first | assumption | with_unfolding_all exact hW.1 _ _ rfl) (by omega) (by omega) | exact pu_oqI (by first | assumption | with_unfolding_all exact hW.1 _ _ rfl) (by omega) (by omega) | omega | decide) only [↓reduceIte, ↓gi_b, ↓pi_b, ↓gr_b, ↓pr_b, ↓al_b, ↓as_b, ↓al_3, ↓as_3, ↓al_12, ↓as_12, ↓al_l, ↓as_l, ↓rc_b, ↓Option.bind_some, ↓zr0_b, ↓zr1_b, ↓zrb_b, ↓pz0_b, ↓pz1_b, al_b, as_b, rc_b, gi_b, pi_b, gr_b, zr0, zr1, zrb, u_s, u_n, v_s, v_n, ↓isIn_b, ite_T, ite_F, il_t, il_f, li_t, li_f, it_t, it_f, ti_t, ti_f, ie_t, ie_f, ei_t, ei_f, nn_le_t, nn_le_f, nn_lt_t, nn_lt_f, nn_eq_t, nn_eq_f, nI_1, nI_add, ni_addl, ni_ladd, pk_mul, ni_mull, b2_t, b2_f, b2_0, one0, m1_eq, ni_m1, reduceCtorEq, Bool.false_eq_true, nI_clamp, if_true, Option.some.injEq, Prod.mk.injEq, and_true, true_and, Nat.reduceAdd, Nat.reduceMul, Nat.reduceSub, Nat.reduceEqDiff, Nat.reduceLeDiff, Nat.reduceLT, ↓gr1_14 hW, ↓gr1_12 hW, e1, oI, e2]
    exact main f d4 (by omega) d5
set_option maxHeartbeats 4000000 in
set_option maxRecDepth 100000 in
theorem c_start_f (hZ : Z_B Z) (h : InvC s I P n Z) {v1 v2 v3 : Int32} (hb : rnOK Z v1 v2 v3 = false) : fX8_startRun 1 v1 v2 v3 (pu_hp s I P J n) = some (0, pu_hp s I P J n) := by
  have hW := h.1
  have hnc := hZ.1.1
  have hnf := hZ.2.1.1
  unfold fX8_startRun fX8_startRun_24
  rcases inB_dec v1 (c := znc Z) (by omega) with ⟨i, h1, rfl, h3⟩ | ⟨h1, -⟩
  · obtain ⟨c, b1, -⟩ := h.2.2.2.2.2.1 i h1
    have e1 : fX8_clockOf 1 (nI i) (pu_hp s I P J n) = some (some c, pu_hp s I P J n) := by rw [q_clockOf hZ h, h3, if_pos rfl, nI_clamp (by omega), b1]
    by_cases hn : v3 = -1
    · subst hn
      have h4 : inB v2 0 3 = false := by
        unfold rnOK at hb
        rw [h3] at hb
        simpa using hb
      simp (disch := first | assumption | with_unfolding_all exact hW.1 _ _ rfl | rfl | exact pu_okI (by first | assumption | with_unfolding_all exact hW.1 _ _ rfl) (by omega) (by omega) | exact pu_oqI (by first | assumption | with_unfolding_all exact hW.1 _ _ rfl) (by omega) (by omega) | omega | decide) only [↓reduceIte, ↓gi_b, ↓pi_b, ↓gr_b, ↓pr_b, ↓al_b, ↓as_b, ↓al_3, ↓as_3, ↓al_12, ↓as_12, ↓al_l, ↓as_l, ↓rc_b, ↓Option.bind_some, ↓zr0_b, ↓zr1_b, ↓zrb_b, ↓pz0_b, ↓pz1_b, al_b, as_b, rc_b, gi_b, pi_b, gr_b, zr0, zr1, zrb, u_s, u_n, v_s, v_n, ↓isIn_b, ite_T, ite_F, il_t, il_f, li_t, li_f, it_t, it_f, ti_t, ti_f, ie_t, ie_f, ei_t, ei_f, nn_le_t, nn_le_f, nn_lt_t, nn_lt_f, nn_eq_t, nn_eq_f, nI_1, nI_add, ni_addl, ni_ladd, pk_mul, ni_mull, b2_t, b2_f, b2_0, one0, m1_eq, ni_m1, reduceCtorEq, Bool.false_eq_true, nI_clamp, if_true, Option.some.injEq, Prod.mk.injEq, and_true, true_and, Nat.reduceAdd, Nat.reduceMul, Nat.reduceSub, Nat.reduceEqDiff, Nat.reduceLeDiff, Nat.reduceLT, ↓gr1_14 hW, ↓gr1_12 hW, e1, ↓season_b, h4]
    · rcases inB_dec v3 (c := znf Z) (by omega) with ⟨k, k1, rfl, k3⟩ | ⟨k1, -⟩
      · obtain ⟨f, d1, -⟩ := h.2.2.2.2.2.2.1 k k1
        have e2 : fX8_faultOf 1 (nI k) (pu_hp s I P J n) = some (some f, pu_hp s I P J n) := by rw [q_faultOf hZ h, k3, if_pos rfl, nI_clamp (by omega), d1]
        have h4 : inB v2 0 3 = false := by
          unfold rnOK at hb
          rw [h3, k3] at hb
          simpa using hb
        simp (disch := first | assumption | with_unfolding_all exact hW.1 _ _ rfl | rfl | exact pu_okI (by first | assumption | with_unfolding_all exact hW.1 _ _ rfl) (by omega) (by omega) | exact pu_oqI (by first | assumption | with_unfolding_all exact hW.1 _ _ rfl) (by omega) (by omega) | omega | decide) only [↓reduceIte, ↓gi_b, ↓pi_b, ↓gr_b, ↓pr_b, ↓al_b, ↓as_b, ↓al_3, ↓as_3, ↓al_12, ↓as_12, ↓al_l, ↓as_l, ↓rc_b, ↓Option.bind_some, ↓zr0_b, ↓zr1_b, ↓zrb_b, ↓pz0_b, ↓pz1_b, al_b, as_b, rc_b, gi_b, pi_b, gr_b, zr0, zr1, zrb, u_s, u_n, v_s, v_n, ↓isIn_b, ite_T, ite_F, il_t, il_f, li_t, li_f, it_t, it_f, ti_t, ti_f, ie_t, ie_f, ei_t, ei_f, nn_le_t, nn_le_f, nn_lt_t, nn_lt_f, nn_eq_t, nn_eq_f, nI_1, nI_add, ni_addl, ni_ladd, pk_mul, ni_mull, b2_t, b2_f, b2_0, one0, m1_eq, ni_m1, reduceCtorEq, Bool.false_eq_true, nI_clamp, if_true, Option.some.injEq, Prod.mk.injEq, and_true, true_and, Nat.reduceAdd, Nat.reduceMul, Nat.reduceSub, Nat.reduceEqDiff, Nat.reduceLeDiff, Nat.reduceLT, ↓gr1_14 hW, ↓gr1_12 hW, e1, e2, ↓season_b, h4]
      · have e2 : fX8_faultOf 1 v3 (pu_hp s I P J n) = some (none, pu_hp s I P J n) := by rw [q_faultOf hZ h, k1]; rfl
        simp (disch := first | assumption | with_unfolding_all exact hW.1 _ _ rfl | rfl | exact pu_okI (by first | assumption | with_unfolding_all exact hW.1 _ _ rfl) (by omega) (by omega) | exact pu_oqI (by first | assumption | with_unfolding_all exact hW.1 _ _ rfl) (by omega) (by omega) | omega | decide) only [↓reduceIte, ↓gi_b, ↓pi_b, ↓gr_b, ↓pr_b, ↓al_b, ↓as_b, ↓al_3, ↓as_3, ↓al_12, ↓as_12, ↓al_l, ↓as_l, ↓rc_b, ↓Option.bind_some, ↓zr0_b, ↓zr1_b, ↓zrb_b, ↓pz0_b, ↓pz1_b, al_b, as_b, rc_b, gi_b, pi_b, gr_b, zr0, zr1, zrb, u_s, u_n, v_s, v_n, ↓isIn_b, ite_T, ite_F, il_t, il_f, li_t, li_f, it_t, it_f, ti_t, ti_f, ie_t, ie_f, ei_t, ei_f, nn_le_t, nn_le_f, nn_lt_t, nn_lt_f, nn_eq_t, nn_eq_f, nI_1, nI_add, ni_addl, ni_ladd, pk_mul, ni_mull, b2_t, b2_f, b2_0, one0, m1_eq, ni_m1, reduceCtorEq, Bool.false_eq_true, nI_clamp, if_true, Option.some.injEq, Prod.mk.injEq, and_true, true_and, Nat.reduceAdd, Nat.reduceMul, Nat.reduceSub, Nat.reduceEqDiff, Nat.reduceLeDiff, Nat.reduceLT, ↓gr1_14 hW, ↓gr1_12 hW, e1, eq_false hn, e2]
  · have e1 : fX8_clockOf 1 v1 (pu_hp s I P J n) = some (none, pu_hp s I P J n) := by rw [q_clockOf hZ h, h1]; rfl
    by_cases hn : v3 = -1
    · simp (disch := first | assumption | with_unfolding_all exact hW.1 _ _ rfl | rfl | exact pu_okI (by first | assumption | with_unfolding_all exact hW.1 _ _ rfl) (by omega) (by omega) | exact pu_oqI (by first | assumption | with_unfolding_all exact hW.1 _ _ rfl) (by omega) (by omega) | omega | decide) only [↓reduceIte, ↓gi_b, ↓pi_b, ↓gr_b, ↓pr_b, ↓al_b, ↓as_b, ↓al_3, ↓as_3, ↓al_12, ↓as_12, ↓al_l, ↓as_l, ↓rc_b, ↓Option.bind_some, ↓zr0_b, ↓zr1_b, ↓zrb_b, ↓pz0_b, ↓pz1_b, al_b, as_b, rc_b, gi_b, pi_b, gr_b, zr0, zr1, zrb, u_s, u_n, v_s, v_n, ↓isIn_b, ite_T, ite_F, il_t, il_f, li_t, li_f, it_t, it_f, ti_t, ti_f, ie_t, ie_f, ei_t, ei_f, nn_le_t, nn_le_f, nn_lt_t, nn_lt_f, nn_eq_t, nn_eq_f, nI_1, nI_add, ni_addl, ni_ladd, pk_mul, ni_mull, b2_t, b2_f, b2_0, one0, m1_eq, ni_m1, reduceCtorEq, Bool.false_eq_true, nI_clamp, if_true, Option.some.injEq, Prod.mk.injEq, and_true, true_and, Nat.reduceAdd, Nat.reduceMul, Nat.reduceSub, Nat.reduceEqDiff, Nat.reduceLeDiff, Nat.reduceLT, ↓gr1_14 hW, ↓gr1_12 hW, e1, eq_true hn]
    · simp (disch := first | assumption | with_unfolding_all exact hW.1 _ _ rfl | rfl | exact pu_okI (by first | assumption | with_unfolding_all exact hW.1 _ _ rfl) (by omega) (by omega) | exact pu_oqI (by first | assumption | with_unfolding_all exact hW.1 _ _ rfl) (by omega) (by omega) | omega | decide) only [↓reduceIte, ↓gi_b, ↓pi_b, ↓gr_b, ↓pr_b, ↓al_b, ↓as_b, ↓al_3, ↓as_3, ↓al_12, ↓as_12, ↓al_l, ↓as_l, ↓rc_b, ↓Option.bind_some, ↓zr0_b, ↓zr1_b, ↓zrb_b, ↓pz0_b, ↓pz1_b, al_b, as_b, rc_b, gi_b, pi_b, gr_b, zr0, zr1, zrb, u_s, u_n, v_s, v_n, ↓isIn_b, ite_T, ite_F, il_t, il_f, li_t, li_f, it_t, it_f, ti_t, ti_f, ie_t, ie_f, ei_t, ei_f, nn_le_t, nn_le_f, nn_lt_t, nn_lt_f, nn_eq_t, nn_eq_f, nI_1, nI_add, ni_addl, ni_ladd, pk_mul, ni_mull, b2_t, b2_f, b2_0, one0, m1_eq, ni_m1, reduceCtorEq, Bool.false_eq_true, nI_clamp, if_true, Option.some.injEq, Prod.mk.injEq, and_true, true_and, Nat.reduceAdd, Nat.reduceMul, Nat.reduceSub, Nat.reduceEqDiff, Nat.reduceLeDiff, Nat.reduceLT, ↓gr1_14 hW, ↓gr1_12 hW, e1, eq_false hn, q_faultOf hZ h]
end ST
