/-! the class's works: a tick, a run with works -/
theorem oP_fr {I I' : Nat → Nat → Int32} {P P' : Nat → Nat → Option Nat} (h : PF I I' P P') (o : Option Nat) : oP P' o = oP P o := by
  cases o with
  | none => rfl
  | some w => exact h.2 4 w (by omega)
theorem S_due_s {V : Nat → S_W} {t m k : Nat} {p : S_P} : S_due V t (m + 1) k p = S_due V t m (k + 1) (S_dst V t k p) := rfl
theorem S_dst_1 {V : Nat → S_W} {nw t k : Nat} {p : S_P} (hV : ∀ i, i < nw → W_B i (V i)) (hnw : nw ≤ 10) (ht : t ≤ 95) (hk : (pe p k).1 < nw) (h : P_1 p) : P_1 (S_dst V t k p) := by
  unfold S_dst
  split
  · exact S_strike_1 hV hnw ht 11 _ p (fun w q => by have := (hV _ hk).2.2 w q; omega) h
  · exact h
theorem S_due_b {V : Nat → S_W} {nw t C : Nat} (hV : ∀ i, i < nw → W_B i (V i)) (hnw : nw ≤ 10) (ht : t ≤ 95) : ∀ (m k B : Nat) (p : S_P), k + m ≤ pc p → P_B V nw t k B C p → P_1 p → P_B V nw t (k + m) (B + 11 * m) C (S_due V t m k p) ∧ P_1 (S_due V t m k p)
  | 0, k, B, p, _, h, h1 => ⟨h, h1⟩
  | m + 1, k, B, p, hk, h, h1 => by
    have a := S_dst_b (k := k) hV ht (by omega) h
    have a1 := S_dst_1 (k := k) (t := t) hV hnw ht (h.2.2.2.1 k (by omega)).1 h1
    have hm : k + 1 + m ≤ pc (S_dst V t k p) := by
      have := (S_dst_e (V := V) (t := t) (j := k) (p := p) (k := k + m) (by omega)).1
      omega
    obtain ⟨b1, b2⟩ := S_due_b hV hnw ht m (k + 1) (B + 11) _ hm a a1
    rw [S_due_s]
    refine ⟨?_, b2⟩
    rw [show k + (m + 1) = k + 1 + m by omega]
    exact b1.w (by omega) (Nat.le_refl _)
theorem S_bal_b {V : Nat → S_W} {nw t i : Nat} {hd : Option Nat} (hV : ∀ i, i < nw → W_B i (V i)) (hnw : nw ≤ 10) (ht : t ≤ 95) (hh : ∀ w, hd = some w → w < nw) : ∀ (m B C : Nat) (p : S_P), P_B V nw t i B C p → P_1 p → P_B V nw t i (B + 11 * m) (C + 10 * m) (S_bal V t hd m p) ∧ P_1 (S_bal V t hd m p)
  | 0, B, C, p, h, h1 => ⟨h, h1⟩
  | m + 1, B, C, p, h, h1 => by
    have a := S_strike_b (i := i) hV ht 11 hd B C (S_hit p) hh (S_hit_b h)
    have a1 := S_strike_1 (t := t) hV hnw ht 11 hd (S_hit p) hh h1
    have hl : hdN hd ≤ 10 := by
      cases hd with
      | none => exact Nat.zero_le _
      | some w => have := hh w rfl; show w + 1 ≤ 10; omega
    obtain ⟨b1, b2⟩ := S_bal_b hV hnw ht hh m (B + 11) (C + 10) _ (a.w (Nat.le_refl _) (by omega)) a1
    exact ⟨b1.w (by omega) (by omega), b2⟩
theorem S_go_b {V : Nat → S_W} {nw t m B C : Nat} {hd : Option Nat} {p : S_P} (hV : ∀ i, i < nw → W_B i (V i)) (hnw : nw ≤ 10) (ht : t ≤ 95) (hh : ∀ w, hd = some w → w < nw) (h : P_B V nw t 0 B C p) (h1 : P_1 p) (hC : C + 10 * m ≤ 120) : P_B V nw (t + 1) 0 (B + 1500) (C + 10 * m) (S_go V t hd m p) ∧ P_1 (S_go V t hd m p) := by
  have hpc := h.2.2.2.2
  obtain ⟨a, a1⟩ := S_due_b hV hnw ht (pc p) 0 B p (by omega) h h1
  obtain ⟨b, b1⟩ := S_bal_b (i := 120) hV hnw ht hh m _ C (S_due V t (pc p) 0 p) ⟨a.1, a.2.1, a.2.2.1, a.2.2.2.1, by
    have h5 := a.2.2.2.2
    have : ∀ (c i j : Nat) (E : Nat → Nat × Nat), i ≤ j → S_D t j E c ≤ S_D t i E c := by
      intro c i j E hij
      induction c with
      | zero => exact Nat.le_refl _
      | succ c ih =>
        show S_D t j E c + _ ≤ S_D t i E c + _
        by_cases e : t < (E c).2 ∨ (t = (E c).2 ∧ j ≤ c)
        · rw [if_pos e, if_pos (show t < (E c).2 ∨ (t = (E c).2 ∧ i ≤ c) by omega)]; omega
        · rw [if_neg e]; omega
    have := this (pc (S_due V t (pc p) 0 p)) (0 + pc p) 120 (pe (S_due V t (pc p) 0 p)) (by omega)
    omega⟩ a1
  refine ⟨(b.t ?_).w (by omega) (Nat.le_refl _), b1⟩
  have := b.2.2.2.2
  show pc (S_bal V t hd m (S_due V t (pc p) 0 p)) ≤ 120
  omega
theorem shp_c {s : Nat → Option pu_S} {P : Nat → Nat → Option Nat} {c : Nat} (hW : pu_W s P) (hs : s c = some (0, 0, 0)) : c + 5 < 29 ∨ 35 < c := by
  apply Classical.byContradiction
  intro q
  have h : c = 24 ∨ c = 25 ∨ c = 26 ∨ c = 27 ∨ c = 28 ∨ c = 29 ∨ c = 30 ∨ c = 31 ∨ c = 32 ∨ c = 33 ∨ c = 34 ∨ c = 35 := by omega
  rcases h with rfl | rfl | rfl | rfl | rfl | rfl | rfl | rfl | rfl | rfl | rfl | rfl
  · have := hW.1 24 _ rfl; rw [hs] at this; cases this
  · have := hW.1 25 _ rfl; rw [hs] at this; cases this
  · have := hW.1 26 _ rfl; rw [hs] at this; cases this
  · have := hW.1 27 _ rfl; rw [hs] at this; cases this
  · have := hW.1 28 _ rfl; rw [hs] at this; cases this
  · have := hW.1 29 _ rfl; rw [hs] at this; cases this
  · have := hW.1 30 _ rfl; rw [hs] at this; cases this
  · have := hW.1 31 _ rfl; rw [hs] at this; cases this
  · have := hW.1 32 _ rfl; rw [hs] at this; cases this
  · have := hW.1 33 _ rfl; rw [hs] at this; cases this
  · have := hW.1 34 _ rfl; rw [hs] at this; cases this
  · have := hW.1 35 _ rfl; rw [hs] at this; cases this
theorem shp_f {s : Nat → Option pu_S} {P : Nat → Nat → Option Nat} {c : Nat} (hW : pu_W s P) (hs : s c = some (0, 2, 0)) : c < 29 ∨ 35 < c := by
  apply Classical.byContradiction
  intro q
  have h : c = 29 ∨ c = 30 ∨ c = 31 ∨ c = 32 ∨ c = 33 ∨ c = 34 ∨ c = 35 := by omega
  rcases h with rfl | rfl | rfl | rfl | rfl | rfl | rfl
  · have := hW.1 29 _ rfl; rw [hs] at this; cases this
  · have := hW.1 30 _ rfl; rw [hs] at this; cases this
  · have := hW.1 31 _ rfl; rw [hs] at this; cases this
  · have := hW.1 32 _ rfl; rw [hs] at this; cases this
  · have := hW.1 33 _ rfl; rw [hs] at this; cases this
  · have := hW.1 34 _ rfl; rw [hs] at this; cases this
  · have := hW.1 35 _ rfl; rw [hs] at this; cases this
section CP
variable {s : Nat → Option pu_S} {I : Nat → Nat → Int32} {P : Nat → Nat → Option Nat} {J : Nat → Nat → Int64} {n : Nat × Nat}
variable {V : Nat → S_W} {nw w t : Nat} {p : S_P} {hd : Option Nat}
set_option maxHeartbeats 4000000 in
set_option maxRecDepth 100000 in
theorem c_bal (hV : ∀ i, i < nw → W_B i (V i)) (hnw : nw ≤ 10) (ht : t ≤ 95) (hh : ∀ w, hd = some w → w < nw) {i mm : Nat} (hmm : mm < 1000) {x3 : Option Nat} : ∀ (m k N B C : Nat) (I : Nat → Nat → Int32) (P : Nat → Nat → Option Nat) (p : S_P), k + m = mm → m < N → x3 = oP P hd → pu_W s P → WkC s I P nw V → PC I P p → P_B V nw t i B C p → P_1 p → B + 11 * m < 1000000 → C + 10 * m ≤ 120 →
    Rn (fX4_goThrough_81 N (some 29) (nI t) (nI mm) x3 (nI k) (pu_hp s I P J n)) fun h => ∃ I' P', h = pu_hp s I' P' J n ∧ PF I I' P P' ∧ PC I' P' (S_bal V t hd m p) := by
  intro m
  induction m with
  | zero =>
    intro k N B C I P p hk hN hx hW hC hp hB h1 hb hc
    obtain ⟨N, rfl⟩ : ∃ N', N = N' + 1 := ⟨N - 1, by omega⟩
    show Rn (fX4_goThrough_81_b _ _ _ _ _ _ _) _
    unfold fX4_goThrough_81_b
    simp (disch := first | assumption | with_unfolding_all exact hW.1 _ _ rfl | rfl | exact pu_okI (by first | assumption | with_unfolding_all exact hW.1 _ _ rfl) (by omega) (by omega) | exact pu_oqI (by first | assumption | with_unfolding_all exact hW.1 _ _ rfl) (by omega) (by omega) | omega | decide) only [↓reduceIte, ↓gi_b, ↓pi_b, ↓gr_b, ↓pr_b, ↓al_b, ↓as_b, ↓al_3, ↓as_3, ↓al_12, ↓as_12, ↓al_l, ↓as_l, ↓rc_b, ↓Option.bind_some, ↓zr0_b, ↓zr1_b, ↓zrb_b, ↓pz0_b, ↓pz1_b, al_b, as_b, rc_b, gi_b, pi_b, gr_b, zr0, zr1, zrb, u_s, u_n, v_s, v_n, ↓isIn_b, ite_T, ite_F, il_t, il_f, li_t, li_f, it_t, it_f, ti_t, ti_f, ie_t, ie_f, ei_t, ei_f, nn_le_t, nn_le_f, nn_lt_t, nn_lt_f, nn_eq_t, nn_eq_f, nI_1, nI_add, ni_addl, ni_ladd, pk_mul, ni_mull, b2_t, b2_f, b2_0, one0, m1_eq, ni_m1, reduceCtorEq, Bool.false_eq_true, nI_clamp, if_true, Option.some.injEq, Prod.mk.injEq, and_true, true_and, Nat.reduceAdd, Nat.reduceMul, Nat.reduceSub, Nat.reduceEqDiff, Nat.reduceLeDiff, Nat.reduceLT]
    exact Rn_some ⟨I, P, rfl, ⟨fun _ _ _ => rfl, fun _ _ _ => rfl⟩, hp⟩
  | succ m ih =>
    intro k N B C I P p hk hN hx hW hC hp hB h1 hb hc
    obtain ⟨N, rfl⟩ : ∃ N', N = N' + 1 := ⟨N - 1, by omega⟩
    obtain ⟨g1, g2, g3, g4, g5, g6, g7, g8, g9, g10⟩ := id hp
    have hl : hdN hd ≤ 10 := by
      cases hd with
      | none => exact Nat.zero_le _
      | some w => have := hh w rfl; show w + 1 ≤ 10; omega
    show Rn (fX4_goThrough_81_b (fX4_goThrough_81 N) _ _ _ _ _ _) _
    unfold fX4_goThrough_81_b
    subst hx
    simp (disch := first | assumption | with_unfolding_all exact hW.1 _ _ rfl | rfl | exact pu_okI (by first | assumption | with_unfolding_all exact hW.1 _ _ rfl) (by omega) (by omega) | exact pu_oqI (by first | assumption | with_unfolding_all exact hW.1 _ _ rfl) (by omega) (by omega) | omega | decide) only [↓reduceIte, ↓gi_b, ↓pi_b, ↓gr_b, ↓pr_b, ↓al_b, ↓as_b, ↓al_3, ↓as_3, ↓al_12, ↓as_12, ↓al_l, ↓as_l, ↓rc_b, ↓Option.bind_some, ↓zr0_b, ↓zr1_b, ↓zrb_b, ↓pz0_b, ↓pz1_b, al_b, as_b, rc_b, gi_b, pi_b, gr_b, zr0, zr1, zrb, u_s, u_n, v_s, v_n, ↓isIn_b, ite_T, ite_F, il_t, il_f, li_t, li_f, it_t, it_f, ti_t, ti_f, ie_t, ie_f, ei_t, ei_f, nn_le_t, nn_le_f, nn_lt_t, nn_lt_f, nn_eq_t, nn_eq_f, nI_1, nI_add, ni_addl, ni_ladd, pk_mul, ni_mull, b2_t, b2_f, b2_0, one0, m1_eq, ni_m1, reduceCtorEq, Bool.false_eq_true, nI_clamp, if_true, Option.some.injEq, Prod.mk.injEq, and_true, true_and, Nat.reduceAdd, Nat.reduceMul, Nat.reduceSub, Nat.reduceEqDiff, Nat.reduceLeDiff, Nat.reduceLT, g2]
    have f0 : PF I (pu_u I 29 8 (nI (pb p + 1))) P P := ⟨fun b j hb => by rw [u_n (by omega)], fun _ _ _ => rfl⟩
    have hp0 : PC (pu_u I 29 8 (nI (pb p + 1))) P (S_hit p) := by
      refine ⟨?_, u_s, ?_, ?_, ?_, ?_, fun x hx => ?_, fun d hd => ?_, fun k hk => ?_, fun k hk => ?_⟩
      · simp (disch := first | assumption | with_unfolding_all exact hW.1 _ _ rfl | rfl | exact pu_okI (by first | assumption | with_unfolding_all exact hW.1 _ _ rfl) (by omega) (by omega) | exact pu_oqI (by first | assumption | with_unfolding_all exact hW.1 _ _ rfl) (by omega) (by omega) | omega | decide) only [↓reduceIte, ↓gi_b, ↓pi_b, ↓gr_b, ↓pr_b, ↓al_b, ↓as_b, ↓al_3, ↓as_3, ↓al_12, ↓as_12, ↓al_l, ↓as_l, ↓rc_b, ↓Option.bind_some, ↓zr0_b, ↓zr1_b, ↓zrb_b, ↓pz0_b, ↓pz1_b, al_b, as_b, rc_b, gi_b, pi_b, gr_b, zr0, zr1, zrb, u_s, u_n, v_s, v_n, ↓isIn_b, ite_T, ite_F, il_t, il_f, li_t, li_f, it_t, it_f, ti_t, ti_f, ie_t, ie_f, ei_t, ei_f, nn_le_t, nn_le_f, nn_lt_t, nn_lt_f, nn_eq_t, nn_eq_f, nI_1, nI_add, ni_addl, ni_ladd, pk_mul, ni_mull, b2_t, b2_f, b2_0, one0, m1_eq, ni_m1, reduceCtorEq, Bool.false_eq_true, nI_clamp, if_true, Option.some.injEq, Prod.mk.injEq, and_true, true_and, Nat.reduceAdd, Nat.reduceMul, Nat.reduceSub, Nat.reduceEqDiff, Nat.reduceLeDiff, Nat.reduceLT, g1]; rfl
      · simp (disch := first | assumption | with_unfolding_all exact hW.1 _ _ rfl | rfl | exact pu_okI (by first | assumption | with_unfolding_all exact hW.1 _ _ rfl) (by omega) (by omega) | exact pu_oqI (by first | assumption | with_unfolding_all exact hW.1 _ _ rfl) (by omega) (by omega) | omega | decide) only [↓reduceIte, ↓gi_b, ↓pi_b, ↓gr_b, ↓pr_b, ↓al_b, ↓as_b, ↓al_3, ↓as_3, ↓al_12, ↓as_12, ↓al_l, ↓as_l, ↓rc_b, ↓Option.bind_some, ↓zr0_b, ↓zr1_b, ↓zrb_b, ↓pz0_b, ↓pz1_b, al_b, as_b, rc_b, gi_b, pi_b, gr_b, zr0, zr1, zrb, u_s, u_n, v_s, v_n, ↓isIn_b, ite_T, ite_F, il_t, il_f, li_t, li_f, it_t, it_f, ti_t, ti_f, ie_t, ie_f, ei_t, ei_f, nn_le_t, nn_le_f, nn_lt_t, nn_lt_f, nn_eq_t, nn_eq_f, nI_1, nI_add, ni_addl, ni_ladd, pk_mul, ni_mull, b2_t, b2_f, b2_0, one0, m1_eq, ni_m1, reduceCtorEq, Bool.false_eq_true, nI_clamp, if_true, Option.some.injEq, Prod.mk.injEq, and_true, true_and, Nat.reduceAdd, Nat.reduceMul, Nat.reduceSub, Nat.reduceEqDiff, Nat.reduceLeDiff, Nat.reduceLT, g3]; rfl
      · simp (disch := first | assumption | with_unfolding_all exact hW.1 _ _ rfl | rfl | exact pu_okI (by first | assumption | with_unfolding_all exact hW.1 _ _ rfl) (by omega) (by omega) | exact pu_oqI (by first | assumption | with_unfolding_all exact hW.1 _ _ rfl) (by omega) (by omega) | omega | decide) only [↓reduceIte, ↓gi_b, ↓pi_b, ↓gr_b, ↓pr_b, ↓al_b, ↓as_b, ↓al_3, ↓as_3, ↓al_12, ↓as_12, ↓al_l, ↓as_l, ↓rc_b, ↓Option.bind_some, ↓zr0_b, ↓zr1_b, ↓zrb_b, ↓pz0_b, ↓pz1_b, al_b, as_b, rc_b, gi_b, pi_b, gr_b, zr0, zr1, zrb, u_s, u_n, v_s, v_n, ↓isIn_b, ite_T, ite_F, il_t, il_f, li_t, li_f, it_t, it_f, ti_t, ti_f, ie_t, ie_f, ei_t, ei_f, nn_le_t, nn_le_f, nn_lt_t, nn_lt_f, nn_eq_t, nn_eq_f, nI_1, nI_add, ni_addl, ni_ladd, pk_mul, ni_mull, b2_t, b2_f, b2_0, one0, m1_eq, ni_m1, reduceCtorEq, Bool.false_eq_true, nI_clamp, if_true, Option.some.injEq, Prod.mk.injEq, and_true, true_and, Nat.reduceAdd, Nat.reduceMul, Nat.reduceSub, Nat.reduceEqDiff, Nat.reduceLeDiff, Nat.reduceLT, g4]; rfl
      · simp (disch := first | assumption | with_unfolding_all exact hW.1 _ _ rfl | rfl | exact pu_okI (by first | assumption | with_unfolding_all exact hW.1 _ _ rfl) (by omega) (by omega) | exact pu_oqI (by first | assumption | with_unfolding_all exact hW.1 _ _ rfl) (by omega) (by omega) | omega | decide) only [↓reduceIte, ↓gi_b, ↓pi_b, ↓gr_b, ↓pr_b, ↓al_b, ↓as_b, ↓al_3, ↓as_3, ↓al_12, ↓as_12, ↓al_l, ↓as_l, ↓rc_b, ↓Option.bind_some, ↓zr0_b, ↓zr1_b, ↓zrb_b, ↓pz0_b, ↓pz1_b, al_b, as_b, rc_b, gi_b, pi_b, gr_b, zr0, zr1, zrb, u_s, u_n, v_s, v_n, ↓isIn_b, ite_T, ite_F, il_t, il_f, li_t, li_f, it_t, it_f, ti_t, ti_f, ie_t, ie_f, ei_t, ei_f, nn_le_t, nn_le_f, nn_lt_t, nn_lt_f, nn_eq_t, nn_eq_f, nI_1, nI_add, ni_addl, ni_ladd, pk_mul, ni_mull, b2_t, b2_f, b2_0, one0, m1_eq, ni_m1, reduceCtorEq, Bool.false_eq_true, nI_clamp, if_true, Option.some.injEq, Prod.mk.injEq, and_true, true_and, Nat.reduceAdd, Nat.reduceMul, Nat.reduceSub, Nat.reduceEqDiff, Nat.reduceLeDiff, Nat.reduceLT, g5]; rfl
      · simp (disch := first | assumption | with_unfolding_all exact hW.1 _ _ rfl | rfl | exact pu_okI (by first | assumption | with_unfolding_all exact hW.1 _ _ rfl) (by omega) (by omega) | exact pu_oqI (by first | assumption | with_unfolding_all exact hW.1 _ _ rfl) (by omega) (by omega) | omega | decide) only [↓reduceIte, ↓gi_b, ↓pi_b, ↓gr_b, ↓pr_b, ↓al_b, ↓as_b, ↓al_3, ↓as_3, ↓al_12, ↓as_12, ↓al_l, ↓as_l, ↓rc_b, ↓Option.bind_some, ↓zr0_b, ↓zr1_b, ↓zrb_b, ↓pz0_b, ↓pz1_b, al_b, as_b, rc_b, gi_b, pi_b, gr_b, zr0, zr1, zrb, u_s, u_n, v_s, v_n, ↓isIn_b, ite_T, ite_F, il_t, il_f, li_t, li_f, it_t, it_f, ti_t, ti_f, ie_t, ie_f, ei_t, ei_f, nn_le_t, nn_le_f, nn_lt_t, nn_lt_f, nn_eq_t, nn_eq_f, nI_1, nI_add, ni_addl, ni_ladd, pk_mul, ni_mull, b2_t, b2_f, b2_0, one0, m1_eq, ni_m1, reduceCtorEq, Bool.false_eq_true, nI_clamp, if_true, Option.some.injEq, Prod.mk.injEq, and_true, true_and, Nat.reduceAdd, Nat.reduceMul, Nat.reduceSub, Nat.reduceEqDiff, Nat.reduceLeDiff, Nat.reduceLT, g6]; rfl
      · rw [u_n (by omega), u_n (by omega)]; exact g7 x hx
      · rw [u_n (by omega)]; exact g8 d hd
      · rw [u_n (by omega)]; exact g9 k hk
      · rw [u_n (by omega)]; exact g10 k hk
    refine Rn_bind (c_strike (o := hd) hV hnw ht hh hW (hC.fr f0) hp0 (S_hit_b hB) h1 (by omega) (by omega)) ?_
    rintro _ ⟨I1, P1, rfl, f1, gg⟩
    have a := S_strike_b (i := i) hV ht 11 hd B C (S_hit p) hh (S_hit_b hB)
    have a1 := S_strike_1 (t := t) hV hnw ht 11 hd (S_hit p) hh h1
    have f01 := f0.t f1
    refine Rn_mono (ih (k + 1) N (B + 11) (C + 10) I1 P1 _ (by omega) (by omega) (by rw [oP_fr f01]) (hW.pf f01) (hC.fr f01) gg (a.w (Nat.le_refl _) (by omega)) a1 (by omega) (by omega)) ?_
    rintro _ ⟨I2, P2, rfl, f2, g2⟩
    exact ⟨I2, P2, rfl, f01.t f2, g2⟩
set_option maxHeartbeats 4000000 in
set_option maxRecDepth 100000 in
theorem c_due (hV : ∀ i, i < nw → W_B i (V i)) (hnw : nw ≤ 10) (ht : t ≤ 95) {cc C : Nat} (hcc : cc ≤ 120) (hC12 : C ≤ 120) {x2 : Int32} {x3 : Option Nat} {Q : am_H → Prop} : ∀ (m k N B : Nat) (I : Nat → Nat → Int32) (P : Nat → Nat → Option Nat) (p : S_P), k + m = cc → m < N → cc ≤ pc p → pu_W s P → WkC s I P nw V → PC I P p → P_B V nw t k B C p → P_1 p → B + 11 * m < 1000000 →
    (∀ I' P', PF I I' P P' → PC I' P' (S_due V t m k p) → Rn (fX4_goThrough_78 (some 29) (nI t) x2 x3 (pu_hp s I' P' J n)) Q) →
    Rn (fX4_goThrough_9 N (some 29) (nI t) x2 x3 (nI cc) (nI k) (pu_hp s I P J n)) Q := by
  intro m
  induction m with
  | zero =>
    intro k N B I P p hk hN hcp hW hC hp hB h1 hb kk
    obtain ⟨N, rfl⟩ : ∃ N', N = N' + 1 := ⟨N - 1, by omega⟩
    show Rn (fX4_goThrough_9_b _ _ _ _ _ _ _ _) _
    unfold fX4_goThrough_9_b
    simp (disch := first | assumption | with_unfolding_all exact hW.1 _ _ rfl | rfl | exact pu_okI (by first | assumption | with_unfolding_all exact hW.1 _ _ rfl) (by omega) (by omega) | exact pu_oqI (by first | assumption | with_unfolding_all exact hW.1 _ _ rfl) (by omega) (by omega) | omega | decide) only [↓reduceIte, ↓gi_b, ↓pi_b, ↓gr_b, ↓pr_b, ↓al_b, ↓as_b, ↓al_3, ↓as_3, ↓al_12, ↓as_12, ↓al_l, ↓as_l, ↓rc_b, ↓Option.bind_some, ↓zr0_b, ↓zr1_b, ↓zrb_b, ↓pz0_b, ↓pz1_b, al_b, as_b, rc_b, gi_b, pi_b, gr_b, zr0, zr1, zrb, u_s, u_n, v_s, v_n, ↓isIn_b, ite_T, ite_F, il_t, il_f, li_t, li_f, it_t, it_f, ti_t, ti_f, ie_t, ie_f, ei_t, ei_f, nn_le_t, nn_le_f, nn_lt_t, nn_lt_f, nn_eq_t, nn_eq_f, nI_1, nI_add, ni_addl, ni_ladd, pk_mul, ni_mull, b2_t, b2_f, b2_0, one0, m1_eq, ni_m1, reduceCtorEq, Bool.false_eq_true, nI_clamp, if_true, Option.some.injEq, Prod.mk.injEq, and_true, true_and, Nat.reduceAdd, Nat.reduceMul, Nat.reduceSub, Nat.reduceEqDiff, Nat.reduceLeDiff, Nat.reduceLT]
    exact kk I P ⟨fun _ _ _ => rfl, fun _ _ _ => rfl⟩ hp
  | succ m ih =>
    intro k N B I P p hk hN hcp hW hC hp hB h1 hb kk
    obtain ⟨N, rfl⟩ : ∃ N', N = N' + 1 := ⟨N - 1, by omega⟩
    have hkp : k < pc p := by omega
    obtain ⟨q1, q2⟩ := hB.2.2.2.1 k hkp
    obtain ⟨e34, e33⟩ := hp.2.2.2.2.2.2.2.2.1 k hkp
    obtain ⟨a, a1, a2, a3, a4, a5, a6, a7⟩ := hC _ q1
    rw [a1] at e33
    have hlt : ∀ w', (V (pe p k).1).2.2 = some w' → w' < (pe p k).1 := (hV _ q1).2.2
    have bb := S_dst_b (k := k) hV ht hkp hB
    have bb1 := S_dst_1 (k := k) (t := t) hV hnw ht q1 h1
    have hcp' : cc ≤ pc (S_dst V t k p) := by
      have := (S_dst_e (V := V) (t := t) (j := k) (p := p) (k := cc - 1) (by omega)).1
      omega
    show Rn (fX4_goThrough_9_b (fX4_goThrough_9 N) _ _ _ _ _ _ _) _
    unfold fX4_goThrough_9_b fX4_goThrough_72
    by_cases e : (pe p k).2 = t
    · simp (disch := first | assumption | with_unfolding_all exact hW.1 _ _ rfl | rfl | exact pu_okI (by first | assumption | with_unfolding_all exact hW.1 _ _ rfl) (by omega) (by omega) | exact pu_oqI (by first | assumption | with_unfolding_all exact hW.1 _ _ rfl) (by omega) (by omega) | omega | decide) only [↓reduceIte, ↓gi_b, ↓pi_b, ↓gr_b, ↓pr_b, ↓al_b, ↓as_b, ↓al_3, ↓as_3, ↓al_12, ↓as_12, ↓al_l, ↓as_l, ↓rc_b, ↓Option.bind_some, ↓zr0_b, ↓zr1_b, ↓zrb_b, ↓pz0_b, ↓pz1_b, al_b, as_b, rc_b, gi_b, pi_b, gr_b, zr0, zr1, zrb, u_s, u_n, v_s, v_n, ↓isIn_b, ite_T, ite_F, il_t, il_f, li_t, li_f, it_t, it_f, ti_t, ti_f, ie_t, ie_f, ei_t, ei_f, nn_le_t, nn_le_f, nn_lt_t, nn_lt_f, nn_eq_t, nn_eq_f, nI_1, nI_add, ni_addl, ni_ladd, pk_mul, ni_mull, b2_t, b2_f, b2_0, one0, m1_eq, ni_m1, reduceCtorEq, Bool.false_eq_true, nI_clamp, if_true, Option.some.injEq, Prod.mk.injEq, and_true, true_and, Nat.reduceAdd, Nat.reduceMul, Nat.reduceSub, Nat.reduceEqDiff, Nat.reduceLeDiff, Nat.reduceLT, ↓gr29_3 hW, ↓gr29_4 hW, ↓anr_b (s := s) (a := 33) (t := 6) (m := 120), ↓an_b (s := s) (a := 34) (t := 0) (m := 120), e34, e, ↓alr_b, e33, a7]
      have hD := S_D_s (t := t) (i := k) (E := pe p) (pc p) hkp
      rw [if_pos e] at hD
      have hB' : P_B V nw t (k + 1) B (C - (pe p k).1) p := ⟨hB.1, hB.2.1, hB.2.2.1, hB.2.2.2.1, by have := hB.2.2.2.2; omega⟩
      refine Rn_bind (c_strike (o := (V (pe p k).1).2.2) hV hnw ht (fun w' q => by have := hlt w' q; omega) hW hC hp hB' h1 (by omega) ?_) ?_
      · have h5 := hB.2.2.2.2
        cases q : (V (pe p k).1).2.2 with
        | none => show C - _ + 0 ≤ 120; omega
        | some w' => have := hlt w' q; show C - _ + (w' + 1) ≤ 120; omega
      · rintro _ ⟨I1, P1, rfl, f1, gg⟩
        have es : S_dst V t k p = S_strike V t 11 (V (pe p k).1).2.2 p := if_pos e
        rw [es] at bb bb1 hcp'
        refine ih (k + 1) N (B + 11) I1 P1 _ (by omega) (by omega) hcp' (hW.pf f1) (hC.fr f1) gg bb bb1 (by omega) fun I' P' f2 g2 => kk I' P' (f1.t f2) ?_
        rw [S_due_s, es]; exact g2
    · have es : S_dst V t k p = p := if_neg e
      rw [es] at bb bb1 hcp'
      have hpt := h1.2 k
      have ene : (nI (pe p k).2 = nI t) = False := nn_eq_f e (by omega) (by omega)
      simp (disch := first | assumption | with_unfolding_all exact hW.1 _ _ rfl | rfl | exact pu_okI (by first | assumption | with_unfolding_all exact hW.1 _ _ rfl) (by omega) (by omega) | exact pu_oqI (by first | assumption | with_unfolding_all exact hW.1 _ _ rfl) (by omega) (by omega) | omega | decide) only [↓reduceIte, ↓gi_b, ↓pi_b, ↓gr_b, ↓pr_b, ↓al_b, ↓as_b, ↓al_3, ↓as_3, ↓al_12, ↓as_12, ↓al_l, ↓as_l, ↓rc_b, ↓Option.bind_some, ↓zr0_b, ↓zr1_b, ↓zrb_b, ↓pz0_b, ↓pz1_b, al_b, as_b, rc_b, gi_b, pi_b, gr_b, zr0, zr1, zrb, u_s, u_n, v_s, v_n, ↓isIn_b, ite_T, ite_F, il_t, il_f, li_t, li_f, it_t, it_f, ti_t, ti_f, ie_t, ie_f, ei_t, ei_f, nn_le_t, nn_le_f, nn_lt_t, nn_lt_f, nn_eq_t, nn_eq_f, nI_1, nI_add, ni_addl, ni_ladd, pk_mul, ni_mull, b2_t, b2_f, b2_0, one0, m1_eq, ni_m1, reduceCtorEq, Bool.false_eq_true, nI_clamp, if_true, Option.some.injEq, Prod.mk.injEq, and_true, true_and, Nat.reduceAdd, Nat.reduceMul, Nat.reduceSub, Nat.reduceEqDiff, Nat.reduceLeDiff, Nat.reduceLT, ↓gr29_3 hW, ↓gr29_4 hW, ↓anr_b (s := s) (a := 33) (t := 6) (m := 120), ↓an_b (s := s) (a := 34) (t := 0) (m := 120), e34, ene]
      refine ih (k + 1) N (B + 11) I P p (by omega) (by omega) hcp' hW hC hp bb bb1 (by omega) fun I' P' f2 g2 => kk I' P' f2 ?_
      rw [S_due_s, es]; exact g2
set_option maxHeartbeats 4000000 in
set_option maxRecDepth 100000 in
theorem c_go (hV : ∀ i, i < nw → W_B i (V i)) (hnw : nw ≤ 10) (ht : t ≤ 95) (hh : ∀ w, hd = some w → w < nw) {m B C : Nat} (hm : m ≤ 12) (hW : pu_W s P) (hC : WkC s I P nw V) (hp : PC I P p) (hB : P_B V nw t 0 B C p) (h1 : P_1 p) (hb : B < 900000) (hc : C + 10 * m ≤ 120) :
    Rn (fX4_goThrough 29 (nI t) (nI m) (oP P hd) (pu_hp s I P J n)) fun h => ∃ I' P', h = pu_hp s I' P' J n ∧ PF I I' P P' ∧ PC I' P' (S_go V t hd m p) := by
  have hpc := hB.2.2.2.2
  unfold fX4_goThrough
  simp (disch := first | assumption | with_unfolding_all exact hW.1 _ _ rfl | rfl | exact pu_okI (by first | assumption | with_unfolding_all exact hW.1 _ _ rfl) (by omega) (by omega) | exact pu_oqI (by first | assumption | with_unfolding_all exact hW.1 _ _ rfl) (by omega) (by omega) | omega | decide) only [↓reduceIte, ↓gi_b, ↓pi_b, ↓gr_b, ↓pr_b, ↓al_b, ↓as_b, ↓al_3, ↓as_3, ↓al_12, ↓as_12, ↓al_l, ↓as_l, ↓rc_b, ↓Option.bind_some, ↓zr0_b, ↓zr1_b, ↓zrb_b, ↓pz0_b, ↓pz1_b, al_b, as_b, rc_b, gi_b, pi_b, gr_b, zr0, zr1, zrb, u_s, u_n, v_s, v_n, ↓isIn_b, ite_T, ite_F, il_t, il_f, li_t, li_f, it_t, it_f, ti_t, ti_f, ie_t, ie_f, ei_t, ei_f, nn_le_t, nn_le_f, nn_lt_t, nn_lt_f, nn_eq_t, nn_eq_f, nI_1, nI_add, ni_addl, ni_ladd, pk_mul, ni_mull, b2_t, b2_f, b2_0, one0, m1_eq, ni_m1, reduceCtorEq, Bool.false_eq_true, nI_clamp, if_true, Option.some.injEq, Prod.mk.injEq, and_true, true_and, Nat.reduceAdd, Nat.reduceMul, Nat.reduceSub, Nat.reduceEqDiff, Nat.reduceLeDiff, Nat.reduceLT, hp.2.2.2.2.2.1]
  refine c_due hV hnw ht (cc := pc p) (C := C) (by omega) (by omega) (pc p) 0 am_fu B I P p (by omega) (by unfold am_fu; omega) (Nat.le_refl _) hW hC hp hB h1 (by omega) fun I1 P1 f1 g1 => ?_
  obtain ⟨a, a1⟩ := S_due_b hV hnw ht (pc p) 0 B p (by omega) hB h1
  unfold fX4_goThrough_78
  refine Rn_mono (c_bal hV hnw ht hh (mm := m) (by omega) m 0 am_fu _ C I1 P1 _ (by omega) (by unfold am_fu; omega) (oP_fr f1 hd).symm (hW.pf f1) (hC.fr f1) g1 a a1 (by omega) (by omega)) ?_
  rintro _ ⟨I2, P2, rfl, f2, g2⟩
  exact ⟨I2, P2, rfl, f1.t f2, g2⟩
set_option maxHeartbeats 4000000 in
set_option maxRecDepth 100000 in
theorem c_pstart (hW : pu_W s P) {Q : am_H → Prop} : ∀ (m k N : Nat) (I : Nat → Nat → Int32), k + m = 10 → m < N → (∀ w, w < k → I 30 w = nI 0 ∧ I 31 w = b2 false) →
    (∀ I', (∀ b j, b < 29 ∨ 35 < b → I' b j = I b j) → PC I' P S_p0 → Rn (some (pu_hp s I' P J n)) Q) → Rn (fX4_start_2 N (some 29) (nI k) (pu_hp s I P J n)) Q := by
  intro m
  induction m with
  | zero =>
    intro k N I hk hN hx kk
    obtain ⟨N, rfl⟩ : ∃ N', N = N' + 1 := ⟨N - 1, by omega⟩
    show Rn (fX4_start_2_b _ _ _ _) _
    unfold fX4_start_2_b
    simp (disch := first | assumption | with_unfolding_all exact hW.1 _ _ rfl | rfl | exact pu_okI (by first | assumption | with_unfolding_all exact hW.1 _ _ rfl) (by omega) (by omega) | exact pu_oqI (by first | assumption | with_unfolding_all exact hW.1 _ _ rfl) (by omega) (by omega) | omega | decide) only [↓reduceIte, ↓gi_b, ↓pi_b, ↓gr_b, ↓pr_b, ↓al_b, ↓as_b, ↓al_3, ↓as_3, ↓al_12, ↓as_12, ↓al_l, ↓as_l, ↓rc_b, ↓Option.bind_some, ↓zr0_b, ↓zr1_b, ↓zrb_b, ↓pz0_b, ↓pz1_b, al_b, as_b, rc_b, gi_b, pi_b, gr_b, zr0, zr1, zrb, u_s, u_n, v_s, v_n, ↓isIn_b, ite_T, ite_F, il_t, il_f, li_t, li_f, it_t, it_f, ti_t, ti_f, ie_t, ie_f, ei_t, ei_f, nn_le_t, nn_le_f, nn_lt_t, nn_lt_f, nn_eq_t, nn_eq_f, nI_1, nI_add, ni_addl, ni_ladd, pk_mul, ni_mull, b2_t, b2_f, b2_0, one0, m1_eq, ni_m1, reduceCtorEq, Bool.false_eq_true, nI_clamp, if_true, Option.some.injEq, Prod.mk.injEq, and_true, true_and, Nat.reduceAdd, Nat.reduceMul, Nat.reduceSub, Nat.reduceEqDiff, Nat.reduceLeDiff, Nat.reduceLT, ↓gr29_2 hW, ↓gr29_6 hW, ↓gr29_0 hW, ↓gr29_1 hW]
    refine Rn_bind (r_fill (m := 4) (hW.1 _ _ rfl) (by omega)) ?_
    rintro _ ⟨I1, rfl, a1, a2⟩
    simp (disch := first | assumption | with_unfolding_all exact hW.1 _ _ rfl | rfl | exact pu_okI (by first | assumption | with_unfolding_all exact hW.1 _ _ rfl) (by omega) (by omega) | exact pu_oqI (by first | assumption | with_unfolding_all exact hW.1 _ _ rfl) (by omega) (by omega) | omega | decide) only [↓reduceIte, ↓gi_b, ↓pi_b, ↓gr_b, ↓pr_b, ↓al_b, ↓as_b, ↓al_3, ↓as_3, ↓al_12, ↓as_12, ↓al_l, ↓as_l, ↓rc_b, ↓Option.bind_some, ↓zr0_b, ↓zr1_b, ↓zrb_b, ↓pz0_b, ↓pz1_b, al_b, as_b, rc_b, gi_b, pi_b, gr_b, zr0, zr1, zrb, u_s, u_n, v_s, v_n, ↓isIn_b, ite_T, ite_F, il_t, il_f, li_t, li_f, it_t, it_f, ti_t, ti_f, ie_t, ie_f, ei_t, ei_f, nn_le_t, nn_le_f, nn_lt_t, nn_lt_f, nn_eq_t, nn_eq_f, nI_1, nI_add, ni_addl, ni_ladd, pk_mul, ni_mull, b2_t, b2_f, b2_0, one0, m1_eq, ni_m1, reduceCtorEq, Bool.false_eq_true, nI_clamp, if_true, Option.some.injEq, Prod.mk.injEq, and_true, true_and, Nat.reduceAdd, Nat.reduceMul, Nat.reduceSub, Nat.reduceEqDiff, Nat.reduceLeDiff, Nat.reduceLT, ↓gr29_2 hW, ↓gr29_6 hW, ↓gr29_0 hW, ↓gr29_1 hW]
    refine Rn_bind (r_fill (m := 20) (hW.1 _ _ rfl) (by omega)) ?_
    rintro _ ⟨I2, rfl, d1, d2⟩
    simp (disch := first | assumption | with_unfolding_all exact hW.1 _ _ rfl | rfl | exact pu_okI (by first | assumption | with_unfolding_all exact hW.1 _ _ rfl) (by omega) (by omega) | exact pu_oqI (by first | assumption | with_unfolding_all exact hW.1 _ _ rfl) (by omega) (by omega) | omega | decide) only [↓reduceIte, ↓gi_b, ↓pi_b, ↓gr_b, ↓pr_b, ↓al_b, ↓as_b, ↓al_3, ↓as_3, ↓al_12, ↓as_12, ↓al_l, ↓as_l, ↓rc_b, ↓Option.bind_some, ↓zr0_b, ↓zr1_b, ↓zrb_b, ↓pz0_b, ↓pz1_b, al_b, as_b, rc_b, gi_b, pi_b, gr_b, zr0, zr1, zrb, u_s, u_n, v_s, v_n, ↓isIn_b, ite_T, ite_F, il_t, il_f, li_t, li_f, it_t, it_f, ti_t, ti_f, ie_t, ie_f, ei_t, ei_f, nn_le_t, nn_le_f, nn_lt_t, nn_lt_f, nn_eq_t, nn_eq_f, nI_1, nI_add, ni_addl, ni_ladd, pk_mul, ni_mull, b2_t, b2_f, b2_0, one0, m1_eq, ni_m1, reduceCtorEq, Bool.false_eq_true, nI_clamp, if_true, Option.some.injEq, Prod.mk.injEq, and_true, true_and, Nat.reduceAdd, Nat.reduceMul, Nat.reduceSub, Nat.reduceEqDiff, Nat.reduceLeDiff, Nat.reduceLT, ↓gr29_2 hW, ↓gr29_6 hW, ↓gr29_0 hW, ↓gr29_1 hW]
    refine kk _ (fun b j hb => ?_) ?_
    · rw [u_n (by omega), u_n (by omega), u_n (by omega), u_n (by omega), u_n (by omega), u_n (by omega), d2 _ _ (by omega), a2 _ _ (by omega)]
    · refine ⟨?_, ?_, ?_, ?_, ?_, ?_, fun x hx' => ?_, fun d hd => ?_, fun k hk => absurd hk (Nat.not_lt_zero k), fun k hk => ?_⟩
      · simp (disch := first | assumption | with_unfolding_all exact hW.1 _ _ rfl | rfl | exact pu_okI (by first | assumption | with_unfolding_all exact hW.1 _ _ rfl) (by omega) (by omega) | exact pu_oqI (by first | assumption | with_unfolding_all exact hW.1 _ _ rfl) (by omega) (by omega) | omega | decide) only [↓reduceIte, ↓gi_b, ↓pi_b, ↓gr_b, ↓pr_b, ↓al_b, ↓as_b, ↓al_3, ↓as_3, ↓al_12, ↓as_12, ↓al_l, ↓as_l, ↓rc_b, ↓Option.bind_some, ↓zr0_b, ↓zr1_b, ↓zrb_b, ↓pz0_b, ↓pz1_b, al_b, as_b, rc_b, gi_b, pi_b, gr_b, zr0, zr1, zrb, u_s, u_n, v_s, v_n, ↓isIn_b, ite_T, ite_F, il_t, il_f, li_t, li_f, it_t, it_f, ti_t, ti_f, ie_t, ie_f, ei_t, ei_f, nn_le_t, nn_le_f, nn_lt_t, nn_lt_f, nn_eq_t, nn_eq_f, nI_1, nI_add, ni_addl, ni_ladd, pk_mul, ni_mull, b2_t, b2_f, b2_0, one0, m1_eq, ni_m1, reduceCtorEq, Bool.false_eq_true, nI_clamp, if_true, Option.some.injEq, Prod.mk.injEq, and_true, true_and, Nat.reduceAdd, Nat.reduceMul, Nat.reduceSub, Nat.reduceEqDiff, Nat.reduceLeDiff, Nat.reduceLT] <;> rfl
      · simp (disch := first | assumption | with_unfolding_all exact hW.1 _ _ rfl | rfl | exact pu_okI (by first | assumption | with_unfolding_all exact hW.1 _ _ rfl) (by omega) (by omega) | exact pu_oqI (by first | assumption | with_unfolding_all exact hW.1 _ _ rfl) (by omega) (by omega) | omega | decide) only [↓reduceIte, ↓gi_b, ↓pi_b, ↓gr_b, ↓pr_b, ↓al_b, ↓as_b, ↓al_3, ↓as_3, ↓al_12, ↓as_12, ↓al_l, ↓as_l, ↓rc_b, ↓Option.bind_some, ↓zr0_b, ↓zr1_b, ↓zrb_b, ↓pz0_b, ↓pz1_b, al_b, as_b, rc_b, gi_b, pi_b, gr_b, zr0, zr1, zrb, u_s, u_n, v_s, v_n, ↓isIn_b, ite_T, ite_F, il_t, il_f, li_t, li_f, it_t, it_f, ti_t, ti_f, ie_t, ie_f, ei_t, ei_f, nn_le_t, nn_le_f, nn_lt_t, nn_lt_f, nn_eq_t, nn_eq_f, nI_1, nI_add, ni_addl, ni_ladd, pk_mul, ni_mull, b2_t, b2_f, b2_0, one0, m1_eq, ni_m1, reduceCtorEq, Bool.false_eq_true, nI_clamp, if_true, Option.some.injEq, Prod.mk.injEq, and_true, true_and, Nat.reduceAdd, Nat.reduceMul, Nat.reduceSub, Nat.reduceEqDiff, Nat.reduceLeDiff, Nat.reduceLT] <;> rfl
      · simp (disch := first | assumption | with_unfolding_all exact hW.1 _ _ rfl | rfl | exact pu_okI (by first | assumption | with_unfolding_all exact hW.1 _ _ rfl) (by omega) (by omega) | exact pu_oqI (by first | assumption | with_unfolding_all exact hW.1 _ _ rfl) (by omega) (by omega) | omega | decide) only [↓reduceIte, ↓gi_b, ↓pi_b, ↓gr_b, ↓pr_b, ↓al_b, ↓as_b, ↓al_3, ↓as_3, ↓al_12, ↓as_12, ↓al_l, ↓as_l, ↓rc_b, ↓Option.bind_some, ↓zr0_b, ↓zr1_b, ↓zrb_b, ↓pz0_b, ↓pz1_b, al_b, as_b, rc_b, gi_b, pi_b, gr_b, zr0, zr1, zrb, u_s, u_n, v_s, v_n, ↓isIn_b, ite_T, ite_F, il_t, il_f, li_t, li_f, it_t, it_f, ti_t, ti_f, ie_t, ie_f, ei_t, ei_f, nn_le_t, nn_le_f, nn_lt_t, nn_lt_f, nn_eq_t, nn_eq_f, nI_1, nI_add, ni_addl, ni_ladd, pk_mul, ni_mull, b2_t, b2_f, b2_0, one0, m1_eq, ni_m1, reduceCtorEq, Bool.false_eq_true, nI_clamp, if_true, Option.some.injEq, Prod.mk.injEq, and_true, true_and, Nat.reduceAdd, Nat.reduceMul, Nat.reduceSub, Nat.reduceEqDiff, Nat.reduceLeDiff, Nat.reduceLT] <;> rfl
      · simp (disch := first | assumption | with_unfolding_all exact hW.1 _ _ rfl | rfl | exact pu_okI (by first | assumption | with_unfolding_all exact hW.1 _ _ rfl) (by omega) (by omega) | exact pu_oqI (by first | assumption | with_unfolding_all exact hW.1 _ _ rfl) (by omega) (by omega) | omega | decide) only [↓reduceIte, ↓gi_b, ↓pi_b, ↓gr_b, ↓pr_b, ↓al_b, ↓as_b, ↓al_3, ↓as_3, ↓al_12, ↓as_12, ↓al_l, ↓as_l, ↓rc_b, ↓Option.bind_some, ↓zr0_b, ↓zr1_b, ↓zrb_b, ↓pz0_b, ↓pz1_b, al_b, as_b, rc_b, gi_b, pi_b, gr_b, zr0, zr1, zrb, u_s, u_n, v_s, v_n, ↓isIn_b, ite_T, ite_F, il_t, il_f, li_t, li_f, it_t, it_f, ti_t, ti_f, ie_t, ie_f, ei_t, ei_f, nn_le_t, nn_le_f, nn_lt_t, nn_lt_f, nn_eq_t, nn_eq_f, nI_1, nI_add, ni_addl, ni_ladd, pk_mul, ni_mull, b2_t, b2_f, b2_0, one0, m1_eq, ni_m1, reduceCtorEq, Bool.false_eq_true, nI_clamp, if_true, Option.some.injEq, Prod.mk.injEq, and_true, true_and, Nat.reduceAdd, Nat.reduceMul, Nat.reduceSub, Nat.reduceEqDiff, Nat.reduceLeDiff, Nat.reduceLT] <;> rfl
      · simp (disch := first | assumption | with_unfolding_all exact hW.1 _ _ rfl | rfl | exact pu_okI (by first | assumption | with_unfolding_all exact hW.1 _ _ rfl) (by omega) (by omega) | exact pu_oqI (by first | assumption | with_unfolding_all exact hW.1 _ _ rfl) (by omega) (by omega) | omega | decide) only [↓reduceIte, ↓gi_b, ↓pi_b, ↓gr_b, ↓pr_b, ↓al_b, ↓as_b, ↓al_3, ↓as_3, ↓al_12, ↓as_12, ↓al_l, ↓as_l, ↓rc_b, ↓Option.bind_some, ↓zr0_b, ↓zr1_b, ↓zrb_b, ↓pz0_b, ↓pz1_b, al_b, as_b, rc_b, gi_b, pi_b, gr_b, zr0, zr1, zrb, u_s, u_n, v_s, v_n, ↓isIn_b, ite_T, ite_F, il_t, il_f, li_t, li_f, it_t, it_f, ti_t, ti_f, ie_t, ie_f, ei_t, ei_f, nn_le_t, nn_le_f, nn_lt_t, nn_lt_f, nn_eq_t, nn_eq_f, nI_1, nI_add, ni_addl, ni_ladd, pk_mul, ni_mull, b2_t, b2_f, b2_0, one0, m1_eq, ni_m1, reduceCtorEq, Bool.false_eq_true, nI_clamp, if_true, Option.some.injEq, Prod.mk.injEq, and_true, true_and, Nat.reduceAdd, Nat.reduceMul, Nat.reduceSub, Nat.reduceEqDiff, Nat.reduceLeDiff, Nat.reduceLT] <;> rfl
      · simp (disch := first | assumption | with_unfolding_all exact hW.1 _ _ rfl | rfl | exact pu_okI (by first | assumption | with_unfolding_all exact hW.1 _ _ rfl) (by omega) (by omega) | exact pu_oqI (by first | assumption | with_unfolding_all exact hW.1 _ _ rfl) (by omega) (by omega) | omega | decide) only [↓reduceIte, ↓gi_b, ↓pi_b, ↓gr_b, ↓pr_b, ↓al_b, ↓as_b, ↓al_3, ↓as_3, ↓al_12, ↓as_12, ↓al_l, ↓as_l, ↓rc_b, ↓Option.bind_some, ↓zr0_b, ↓zr1_b, ↓zrb_b, ↓pz0_b, ↓pz1_b, al_b, as_b, rc_b, gi_b, pi_b, gr_b, zr0, zr1, zrb, u_s, u_n, v_s, v_n, ↓isIn_b, ite_T, ite_F, il_t, il_f, li_t, li_f, it_t, it_f, ti_t, ti_f, ie_t, ie_f, ei_t, ei_f, nn_le_t, nn_le_f, nn_lt_t, nn_lt_f, nn_eq_t, nn_eq_f, nI_1, nI_add, ni_addl, ni_ladd, pk_mul, ni_mull, b2_t, b2_f, b2_0, one0, m1_eq, ni_m1, reduceCtorEq, Bool.false_eq_true, nI_clamp, if_true, Option.some.injEq, Prod.mk.injEq, and_true, true_and, Nat.reduceAdd, Nat.reduceMul, Nat.reduceSub, Nat.reduceEqDiff, Nat.reduceLeDiff, Nat.reduceLT] <;> rfl
      · rw [u_n (by omega), u_n (by omega), u_n (by omega), u_n (by omega), u_n (by omega), u_n (by omega), d2 _ _ (by omega), a2 _ _ (by omega), u_n (by omega), u_n (by omega), u_n (by omega), u_n (by omega), u_n (by omega), u_n (by omega), d2 _ _ (by omega), a2 _ _ (by omega)]
        exact hx x (by omega)
      · rw [u_n (by omega), u_n (by omega), u_n (by omega), u_n (by omega), u_n (by omega), u_n (by omega), d2 _ _ (by omega), a1 d hd]; rfl
      · rw [u_n (by omega), u_n (by omega), u_n (by omega), u_n (by omega), u_n (by omega), u_n (by omega), d1 k hk]; rfl
  | succ m ih =>
    intro k N I hk hN hx kk
    obtain ⟨N, rfl⟩ : ∃ N', N = N' + 1 := ⟨N - 1, by omega⟩
    show Rn (fX4_start_2_b (fX4_start_2 N) _ _ _) _
    unfold fX4_start_2_b
    simp (disch := first | assumption | with_unfolding_all exact hW.1 _ _ rfl | rfl | exact pu_okI (by first | assumption | with_unfolding_all exact hW.1 _ _ rfl) (by omega) (by omega) | exact pu_oqI (by first | assumption | with_unfolding_all exact hW.1 _ _ rfl) (by omega) (by omega) | omega | decide) only [↓reduceIte, ↓gi_b, ↓pi_b, ↓gr_b, ↓pr_b, ↓al_b, ↓as_b, ↓al_3, ↓as_3, ↓al_12, ↓as_12, ↓al_l, ↓as_l, ↓rc_b, ↓Option.bind_some, ↓zr0_b, ↓zr1_b, ↓zrb_b, ↓pz0_b, ↓pz1_b, al_b, as_b, rc_b, gi_b, pi_b, gr_b, zr0, zr1, zrb, u_s, u_n, v_s, v_n, ↓isIn_b, ite_T, ite_F, il_t, il_f, li_t, li_f, it_t, it_f, ti_t, ti_f, ie_t, ie_f, ei_t, ei_f, nn_le_t, nn_le_f, nn_lt_t, nn_lt_f, nn_eq_t, nn_eq_f, nI_1, nI_add, ni_addl, ni_ladd, pk_mul, ni_mull, b2_t, b2_f, b2_0, one0, m1_eq, ni_m1, reduceCtorEq, Bool.false_eq_true, nI_clamp, if_true, Option.some.injEq, Prod.mk.injEq, and_true, true_and, Nat.reduceAdd, Nat.reduceMul, Nat.reduceSub, Nat.reduceEqDiff, Nat.reduceLeDiff, Nat.reduceLT, ↓gr29_2 hW, ↓gr29_6 hW, ↓gr29_0 hW, ↓gr29_1 hW, nar0]
    refine ih (k + 1) N _ (by omega) (by omega) (fun x hx' => ?_) fun I' q1 q2 => kk I' (fun b j hb => by rw [q1 b j hb, u_n (by omega), u_n (by omega)]) q2
    by_cases e : x = k
    · subst e; rw [u_n (by omega), u_s, u_s]; exact ⟨rfl, rfl⟩
    · rw [u_n (by omega), u_n (by omega), u_n (by omega), u_n (by omega)]; exact hx x (by omega)
/-- the cells of a run that stand while works play -/
def RunQ (s : Nat → Option pu_S) (I0 : Nat → Nat → Int32) (P0 : Nat → Nat → Option Nat) (Z : S_Z) (i j : Nat) (q : Option Nat) (t : Nat) : Prop :=
  ∃ c f, R_S s P0 23 c f ∧ C_S s P0 c ∧ C_I I0 c (zK Z i) ∧ F_I I0 f (oF Z q) ∧ R_I I0 23 (tw (zT Z) j) t (zK Z i) (S_at (zK Z i) (oF Z q) (tw (zT Z) j) true t)
theorem RunQ.pf {Z : S_Z} {i j : Nat} {q : Option Nat} {I I' : Nat → Nat → Int32} {P P' : Nat → Nat → Option Nat} (h : RunQ s I P Z i j q t) (hW : pu_W s P) (hf : PF I I' P P') : RunQ s I' P' Z i j q t := by
  obtain ⟨c, f, h4, h5, h6, h7, h8⟩ := h
  have hc := shp_c hW h5.1
  obtain ⟨r1, r2, r3, r4, r5, r6, r7, r8, r9, r10⟩ := h4
  have hfa := shp_f hW r8
  refine ⟨c, f, ⟨r1, r2, r3, by rw [hf.2 _ _ (by omega), r4], by rw [hf.2 _ _ (by omega), r5], by rw [hf.2 _ _ (by omega), r6], by rw [hf.2 _ _ (by omega), r7], r8, r9, r10⟩, h5.fr fun k => ?_, h6.fr fun b j q1 q2 => hf.1 b j (by omega), h7.fr fun j => hf.1 f j hfa, ?_⟩
  · by_cases e : c = 33
    · omega
    · exact hf.2 c k e
  · obtain ⟨a1, a2, a3, a4, a5, a6, a7, a8, a9, a10, a11, a12⟩ := h8
    refine ⟨by rw [hf.1 _ _ (by omega), a1], by rw [hf.1 _ _ (by omega), a2], by rw [hf.1 _ _ (by omega), a3], by rw [hf.1 _ _ (by omega), a4], by rw [hf.1 _ _ (by omega), a5], by rw [hf.1 _ _ (by omega), a6], by rw [hf.1 _ _ (by omega), a7], by rw [hf.1 _ _ (by omega), a8], by rw [hf.1 _ _ (by omega), a9], by rw [hf.1 _ _ (by omega), a10], fun v hv => by rw [hf.1 _ _ (by omega), a11 v hv], fun b hb => by rw [hf.1 _ _ (by omega), a12 b hb]⟩
theorem RunAt.q {Z : S_Z} {i j : Nat} {q : Option Nat} {I0 : Nat → Nat → Int32} {P0 : Nat → Nat → Option Nat} (h : RunAt s I P Z i j q t I0 P0) : RunQ s I0 P0 Z i j q t := by
  obtain ⟨c, f, -, -, -, h4, h5, h6, h7, h8⟩ := h
  exact ⟨c, f, h4, h5, h6, h7, h8⟩
/-- how many balls drop on tick t -/
def dm (K : S_K) (F : S_F) (w t : Nat) : Nat := xdr (S_at K F w true (t + 1)) - xdr (S_at K F w true t)
theorem xdr_si {K : S_K} {sip : Bool} {X : S_X} : xdr (S_si K sip X) = xdr X := by unfold S_si; split <;> rfl
theorem xdr_lk {K : S_K} {F : S_F} {X : S_X} : xdr (S_lk K F t X) = xdr X := by unfold S_lk; split <;> rfl
theorem xdr_mono {K : S_K} {F : S_F} {w t : Nat} (hK : S_KB K) (hF : S_FB F) : xdr (S_at K F w true t) ≤ xdr (S_at K F w true (t + 1)) := by
  have hx := S_at_b (w := w) (sip := true) hK hF t
  show _ ≤ xdr (S_si K true (S_drop K t (S_lk K F t _)))
  rw [xdr_si]
  show _ ≤ S_dn K _ 12 (xdr (S_lk K F t _))
  rw [xdr_lk]
  exact (S_dn_b 12 _ hx.2.2.2.2.2.2.1).2
theorem P_0 {V : Nat → S_W} {nw : Nat} : P_B V nw 0 0 0 0 S_p0 ∧ P_1 S_p0 := ⟨⟨fun w h => (by cases h), fun _ => Nat.le_refl _, ⟨Nat.zero_le _, fun _ => Nat.zero_le _⟩, fun k hk => absurd hk (Nat.not_lt_zero k), Nat.le_refl _⟩, fun z hz => (by cases hz), fun _ => (by show (0 : Nat) < 1000; omega)⟩
theorem S_play_b {V : Nat → S_W} {nw w : Nat} {hd : Option Nat} {K : S_K} {F : S_F} (hV : ∀ i, i < nw → W_B i (V i)) (hnw : nw ≤ 10) (hh : ∀ w, hd = some w → w < nw) (hK : S_KB K) (hF : S_FB F) : ∀ t, t ≤ 96 → P_B V nw t 0 (1500 * t) (10 * xdr (S_at K F w true t)) (S_play V hd (dm K F w) t) ∧ P_1 (S_play V hd (dm K F w) t)
  | 0, _ => ⟨(P_0 (V := V) (nw := nw)).1, (P_0 (V := V) (nw := nw)).2⟩
  | t + 1, ht => by
    obtain ⟨a, a1⟩ := S_play_b (w := w) hV hnw hh hK hF t (by omega)
    have hx := (S_at_b (w := w) (sip := true) hK hF (t + 1)).2.2.2.2.2.2.1
    have hm := xdr_mono (w := w) (t := t) hK hF
    have hnb := hK.2.2.2.2.2.1
    have hdm : dm K F w t = xdr (S_at K F w true (t + 1)) - xdr (S_at K F w true t) := rfl
    obtain ⟨b, b1⟩ := S_go_b (m := dm K F w t) hV hnw (by omega) hh a a1 (by omega)
    exact ⟨b.w (by omega) (by omega), b1⟩
end CP
