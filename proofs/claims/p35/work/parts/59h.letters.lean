/-! letters: what they are -/
def ltr (w : Int64) : Nat → Nat → Nat → Option Nat
  | 0, _, more => some more
  | m + 1, i, more => if 126 < byN w i ∨ (¬ byN w i = 0 ∧ more < i) then none else ltr w m (i + 1) (if byN w i = 0 then more else more + 1)
theorem ltr_b {w : Int64} : ∀ (m i more x : Nat), more ≤ i → (∀ k, k < more → 1 ≤ byN w k ∧ byN w k ≤ 126) → ltr w m i more = some x → x ≤ i + m ∧ ∀ k, k < x → 1 ≤ byN w k ∧ byN w k ≤ 126
  | 0, i, more, x, h1, h2, h => by
    have : some more = some x := h
    cases this; exact ⟨h1, h2⟩
  | m + 1, i, more, x, h1, h2, h => by
    have h : (if 126 < byN w i ∨ (¬ byN w i = 0 ∧ more < i) then none else ltr w m (i + 1) (if byN w i = 0 then more else more + 1)) = some x := h
    by_cases c : 126 < byN w i ∨ (¬ byN w i = 0 ∧ more < i)
    · rw [if_pos c] at h; cases h
    · rw [if_neg c] at h
      by_cases e : byN w i = 0
      · rw [if_pos e] at h
        have := ltr_b m (i + 1) more x (by omega) h2 h
        exact ⟨by omega, this.2⟩
      · rw [if_neg e] at h
        have := ltr_b m (i + 1) (more + 1) x (by omega) (fun k hk => by
          by_cases q : k < more
          · exact h2 k q
          · obtain rfl : k = i := by omega
            omega) h
        exact ⟨by omega, this.2⟩
theorem ltr_n {w : Int64} {m i more : Nat} (h : 126 < byN w i ∨ (¬ byN w i = 0 ∧ more < i)) : ltr w (m + 1) i more = none := if_pos h
theorem ltr_0 {w : Int64} {m i more : Nat} (h : byN w i = 0) : ltr w (m + 1) i more = ltr w m (i + 1) more := by
  show (if 126 < byN w i ∨ (¬ byN w i = 0 ∧ more < i) then none else ltr w m (i + 1) (if byN w i = 0 then more else more + 1)) = _
  rw [if_neg (by omega), if_pos h]
theorem ltr_1 {w : Int64} {m i more : Nat} (h1 : ¬ 126 < byN w i) (h2 : ¬ byN w i = 0) (h3 : ¬ more < i) : ltr w (m + 1) i more = ltr w m (i + 1) (more + 1) := by
  show (if 126 < byN w i ∨ (¬ byN w i = 0 ∧ more < i) then none else ltr w m (i + 1) (if byN w i = 0 then more else more + 1)) = _
  rw [if_neg (by omega), if_neg h2]
def oN : Option Nat → Int32
  | none => -1
  | some x => nI x
section LT
variable {s : Nat → Option pu_S} {I : Nat → Nat → Int32} {P : Nat → Nat → Option Nat} {J : Nat → Nat → Int64} {n : Nat × Nat}
theorem byteOf_e {w : Int64} {i : Nat} (hi : i < 8) (h : am_H) : fX8_byteOf w (nI i) h = some (nI (byN w i), h) := by
  unfold fX8_byteOf
  have hk : ((Int32.toInt64 ((8 : Int32) * nI i)).toUInt64 &&& Int64.toUInt64 63).toNat = 8 * i := by
    have : i = 0 ∨ i = 1 ∨ i = 2 ∨ i = 3 ∨ i = 4 ∨ i = 5 ∨ i = 6 ∨ i = 7 := by omega
    rcases this with rfl | rfl | rfl | rfl | rfl | rfl | rfl | rfl <;> decide
  rw [by_c w _ i hk hi]
set_option maxHeartbeats 4000000 in
set_option maxRecDepth 100000 in
theorem c_ltr {w : Int64} (h : am_H) : ∀ (m i N more : Nat), i + m = 8 → m < N → more ≤ i → fX8_lettersIn_4 N w (nI more) (nI i) h = some (oN (ltr w m i more), h) := by
  intro m
  induction m with
  | zero =>
    intro i N more hi hN hm
    obtain ⟨N, rfl⟩ : ∃ N', N = N' + 1 := ⟨N - 1, by omega⟩
    obtain rfl : i = 8 := by omega
    show fX8_lettersIn_4_b _ _ _ _ _ = _
    unfold fX8_lettersIn_4_b
    simp (disch := first | assumption | with_unfolding_all exact hW.1 _ _ rfl | rfl | exact pu_okI (by first | assumption | with_unfolding_all exact hW.1 _ _ rfl) (by omega) (by omega) | exact pu_oqI (by first | assumption | with_unfolding_all exact hW.1 _ _ rfl) (by omega) (by omega) | omega | decide) only [↓reduceIte, ↓gi_b, ↓pi_b, ↓gr_b, ↓pr_b, ↓al_b, ↓as_b, ↓al_3, ↓as_3, ↓al_12, ↓as_12, ↓al_l, ↓as_l, ↓rc_b, ↓Option.bind_some, ↓zr0_b, ↓zr1_b, ↓zrb_b, ↓pz0_b, ↓pz1_b, al_b, as_b, rc_b, gi_b, pi_b, gr_b, zr0, zr1, zrb, u_s, u_n, v_s, v_n, ↓isIn_b, ite_T, ite_F, il_t, il_f, li_t, li_f, it_t, it_f, ti_t, ti_f, ie_t, ie_f, ei_t, ei_f, nn_le_t, nn_le_f, nn_lt_t, nn_lt_f, nn_eq_t, nn_eq_f, nI_1, nI_add, ni_addl, ni_ladd, pk_mul, ni_mull, b2_t, b2_f, b2_0, one0, m1_eq, ni_m1, reduceCtorEq, Bool.false_eq_true, nI_clamp, if_true, Option.some.injEq, Prod.mk.injEq, and_true, true_and, Nat.reduceAdd, Nat.reduceMul, Nat.reduceSub, Nat.reduceEqDiff, Nat.reduceLeDiff, Nat.reduceLT]
    rfl
  | succ m ih =>
    intro i N more hi hN hm
    obtain ⟨N, rfl⟩ : ∃ N', N = N' + 1 := ⟨N - 1, by omega⟩
    have hb := byN_lt (w := w) (i := i)
    have go : ∀ y, y = ltr w (m + 1) i more → fX8_lettersIn_4_b (fX8_lettersIn_4 N) w (nI more) (nI i) h = some (oN y, h) → fX8_lettersIn_4 (N + 1) w (nI more) (nI i) h = some (oN (ltr w (m + 1) i more), h) := by
      rintro _ rfl q; exact q
    have eb := byteOf_e (w := w) (show i < 8 by omega) h
    by_cases c1 : 126 < byN w i
    · refine go none (ltr_n (Or.inl c1)).symm ?_
      unfold fX8_lettersIn_4_b fX8_lettersIn_31 fX8_lettersIn_32 fX8_lettersIn_56
      by_cases c2 : i ≤ more
      · simp (disch := first | assumption | with_unfolding_all exact hW.1 _ _ rfl | rfl | exact pu_okI (by first | assumption | with_unfolding_all exact hW.1 _ _ rfl) (by omega) (by omega) | exact pu_oqI (by first | assumption | with_unfolding_all exact hW.1 _ _ rfl) (by omega) (by omega) | omega | decide) only [↓reduceIte, ↓gi_b, ↓pi_b, ↓gr_b, ↓pr_b, ↓al_b, ↓as_b, ↓al_3, ↓as_3, ↓al_12, ↓as_12, ↓al_l, ↓as_l, ↓rc_b, ↓Option.bind_some, ↓zr0_b, ↓zr1_b, ↓zrb_b, ↓pz0_b, ↓pz1_b, al_b, as_b, rc_b, gi_b, pi_b, gr_b, zr0, zr1, zrb, u_s, u_n, v_s, v_n, ↓isIn_b, ite_T, ite_F, il_t, il_f, li_t, li_f, it_t, it_f, ti_t, ti_f, ie_t, ie_f, ei_t, ei_f, nn_le_t, nn_le_f, nn_lt_t, nn_lt_f, nn_eq_t, nn_eq_f, nI_1, nI_add, ni_addl, ni_ladd, pk_mul, ni_mull, b2_t, b2_f, b2_0, one0, m1_eq, ni_m1, reduceCtorEq, Bool.false_eq_true, nI_clamp, if_true, Option.some.injEq, Prod.mk.injEq, and_true, true_and, Nat.reduceAdd, Nat.reduceMul, Nat.reduceSub, Nat.reduceEqDiff, Nat.reduceLeDiff, Nat.reduceLT, eb]
        rfl
      · simp (disch := first | assumption | with_unfolding_all exact hW.1 _ _ rfl | rfl | exact pu_okI (by first | assumption | with_unfolding_all exact hW.1 _ _ rfl) (by omega) (by omega) | exact pu_oqI (by first | assumption | with_unfolding_all exact hW.1 _ _ rfl) (by omega) (by omega) | omega | decide) only [↓reduceIte, ↓gi_b, ↓pi_b, ↓gr_b, ↓pr_b, ↓al_b, ↓as_b, ↓al_3, ↓as_3, ↓al_12, ↓as_12, ↓al_l, ↓as_l, ↓rc_b, ↓Option.bind_some, ↓zr0_b, ↓zr1_b, ↓zrb_b, ↓pz0_b, ↓pz1_b, al_b, as_b, rc_b, gi_b, pi_b, gr_b, zr0, zr1, zrb, u_s, u_n, v_s, v_n, ↓isIn_b, ite_T, ite_F, il_t, il_f, li_t, li_f, it_t, it_f, ti_t, ti_f, ie_t, ie_f, ei_t, ei_f, nn_le_t, nn_le_f, nn_lt_t, nn_lt_f, nn_eq_t, nn_eq_f, nI_1, nI_add, ni_addl, ni_ladd, pk_mul, ni_mull, b2_t, b2_f, b2_0, one0, m1_eq, ni_m1, reduceCtorEq, Bool.false_eq_true, nI_clamp, if_true, Option.some.injEq, Prod.mk.injEq, and_true, true_and, Nat.reduceAdd, Nat.reduceMul, Nat.reduceSub, Nat.reduceEqDiff, Nat.reduceLeDiff, Nat.reduceLT, eb]
        rfl
    · by_cases c0 : byN w i = 0
      · refine go _ (ltr_0 c0).symm ?_
        unfold fX8_lettersIn_4_b fX8_lettersIn_31 fX8_lettersIn_32 fX8_lettersIn_56
        rw [c0] at eb
        simp (disch := first | assumption | with_unfolding_all exact hW.1 _ _ rfl | rfl | exact pu_okI (by first | assumption | with_unfolding_all exact hW.1 _ _ rfl) (by omega) (by omega) | exact pu_oqI (by first | assumption | with_unfolding_all exact hW.1 _ _ rfl) (by omega) (by omega) | omega | decide) only [↓reduceIte, ↓gi_b, ↓pi_b, ↓gr_b, ↓pr_b, ↓al_b, ↓as_b, ↓al_3, ↓as_3, ↓al_12, ↓as_12, ↓al_l, ↓as_l, ↓rc_b, ↓Option.bind_some, ↓zr0_b, ↓zr1_b, ↓zrb_b, ↓pz0_b, ↓pz1_b, al_b, as_b, rc_b, gi_b, pi_b, gr_b, zr0, zr1, zrb, u_s, u_n, v_s, v_n, ↓isIn_b, ite_T, ite_F, il_t, il_f, li_t, li_f, it_t, it_f, ti_t, ti_f, ie_t, ie_f, ei_t, ei_f, nn_le_t, nn_le_f, nn_lt_t, nn_lt_f, nn_eq_t, nn_eq_f, nI_1, nI_add, ni_addl, ni_ladd, pk_mul, ni_mull, b2_t, b2_f, b2_0, one0, m1_eq, ni_m1, reduceCtorEq, Bool.false_eq_true, nI_clamp, if_true, Option.some.injEq, Prod.mk.injEq, and_true, true_and, Nat.reduceAdd, Nat.reduceMul, Nat.reduceSub, Nat.reduceEqDiff, Nat.reduceLeDiff, Nat.reduceLT, eb]
        exact ih (i + 1) N more (by omega) (by omega) (by omega)
      · by_cases c2 : i ≤ more
        · refine go _ (ltr_1 c1 c0 (by omega)).symm ?_
          unfold fX8_lettersIn_4_b fX8_lettersIn_31 fX8_lettersIn_32 fX8_lettersIn_56
          simp (disch := first | assumption | with_unfolding_all exact hW.1 _ _ rfl | rfl | exact pu_okI (by first | assumption | with_unfolding_all exact hW.1 _ _ rfl) (by omega) (by omega) | exact pu_oqI (by first | assumption | with_unfolding_all exact hW.1 _ _ rfl) (by omega) (by omega) | omega | decide) only [↓reduceIte, ↓gi_b, ↓pi_b, ↓gr_b, ↓pr_b, ↓al_b, ↓as_b, ↓al_3, ↓as_3, ↓al_12, ↓as_12, ↓al_l, ↓as_l, ↓rc_b, ↓Option.bind_some, ↓zr0_b, ↓zr1_b, ↓zrb_b, ↓pz0_b, ↓pz1_b, al_b, as_b, rc_b, gi_b, pi_b, gr_b, zr0, zr1, zrb, u_s, u_n, v_s, v_n, ↓isIn_b, ite_T, ite_F, il_t, il_f, li_t, li_f, it_t, it_f, ti_t, ti_f, ie_t, ie_f, ei_t, ei_f, nn_le_t, nn_le_f, nn_lt_t, nn_lt_f, nn_eq_t, nn_eq_f, nI_1, nI_add, ni_addl, ni_ladd, pk_mul, ni_mull, b2_t, b2_f, b2_0, one0, m1_eq, ni_m1, reduceCtorEq, Bool.false_eq_true, nI_clamp, if_true, Option.some.injEq, Prod.mk.injEq, and_true, true_and, Nat.reduceAdd, Nat.reduceMul, Nat.reduceSub, Nat.reduceEqDiff, Nat.reduceLeDiff, Nat.reduceLT, eb]
          exact ih (i + 1) N (more + 1) (by omega) (by omega) (by omega)
        · refine go none (ltr_n (Or.inr ⟨c0, by omega⟩)).symm ?_
          unfold fX8_lettersIn_4_b fX8_lettersIn_31 fX8_lettersIn_32 fX8_lettersIn_56
          simp (disch := first | assumption | with_unfolding_all exact hW.1 _ _ rfl | rfl | exact pu_okI (by first | assumption | with_unfolding_all exact hW.1 _ _ rfl) (by omega) (by omega) | exact pu_oqI (by first | assumption | with_unfolding_all exact hW.1 _ _ rfl) (by omega) (by omega) | omega | decide) only [↓reduceIte, ↓gi_b, ↓pi_b, ↓gr_b, ↓pr_b, ↓al_b, ↓as_b, ↓al_3, ↓as_3, ↓al_12, ↓as_12, ↓al_l, ↓as_l, ↓rc_b, ↓Option.bind_some, ↓zr0_b, ↓zr1_b, ↓zrb_b, ↓pz0_b, ↓pz1_b, al_b, as_b, rc_b, gi_b, pi_b, gr_b, zr0, zr1, zrb, u_s, u_n, v_s, v_n, ↓isIn_b, ite_T, ite_F, il_t, il_f, li_t, li_f, it_t, it_f, ti_t, ti_f, ie_t, ie_f, ei_t, ei_f, nn_le_t, nn_le_f, nn_lt_t, nn_lt_f, nn_eq_t, nn_eq_f, nI_1, nI_add, ni_addl, ni_ladd, pk_mul, ni_mull, b2_t, b2_f, b2_0, one0, m1_eq, ni_m1, reduceCtorEq, Bool.false_eq_true, nI_clamp, if_true, Option.some.injEq, Prod.mk.injEq, and_true, true_and, Nat.reduceAdd, Nat.reduceMul, Nat.reduceSub, Nat.reduceEqDiff, Nat.reduceLeDiff, Nat.reduceLT, eb]
          rfl
end LT
