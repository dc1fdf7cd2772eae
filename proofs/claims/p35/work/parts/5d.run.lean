/-! the law's own run, tick by tick -/
def LR0 (s : Nat → Option pu_S) (H ao : Nat) : Prop := s 40 = some (1, 0, 26) ∧ s ao = some (1, 0, 22) ∧ s H = some (1, 0, 3) ∧ ¬ H = ao ∧ ¬ H = 40 ∧ ¬ ao = 40
abbrev LRk : Type := Option Nat → Int32 → Int32 → Int32 → Int32 → Int32 → Int32 → Option Nat → Option Nat → Int32 → Int32 → Int32 → Int32 → Int32 → Int32 → am_H → Option am_H
theorem zle {a b : Nat} (ha : a < 1000000) (hb : b < 1000000) : ((0 : Int32) ≤ nI a - nI b) = (b ≤ a) := by
  by_cases h : b ≤ a
  · rw [pk_sub h, eq_true h]; exact eq_true (nI_pos' (by omega))
  · rw [eq_false h]
    refine eq_false fun q => ?_
    have h2 := pk_sneg (a := a) (b := b) (by omega) (by omega)
    exact Int32.lt_irrefl (Int32.lt_of_lt_of_le h2 q)
theorem add_neg32 (a b : Int32) : a + -b = a - b := (Int32.sub_eq_add_neg a b).symm
theorem atN_lo {K : S_K} {X : S_X} {v : Nat} (h : v < 3) : atN K X v = if v < kn K then nI (xW X v) else -1 := by
  unfold atN; rw [if_neg (by omega), if_neg (by omega), if_neg (by omega), if_neg (by omega), if_neg (by omega)]
section LR
variable {s : Nat → Option pu_S} {I : Nat → Nat → Int32} {P : Nat → Nat → Option Nat} {J : Nat → Nat → Int64} {n : Nat × Nat}
variable {H ao : Nat} {K : S_K} {F : S_F} {w t : Nat}
set_option maxHeartbeats 4000000 in
set_option maxRecDepth 100000 in
theorem l_554 (h0 : LR0 s H ao) (hkn : 1 ≤ kn K ∧ kn K ≤ 3) {v1 v2 v3 v4 v5 v6 v9 v10 v11 v12 v13 v14 : Int32} {W : Nat → Nat} {k626 : LRk} {Q : am_H → Prop} : ∀ (m k N : Nat) (I : Nat → Nat → Int32), k + m = 3 → m < N → I 40 0 = nI (kn K) → (∀ j, j < kn K → I H j = nI (W j)) → (∀ j, j < k → I ao (12 + j) = if j < kn K then nI (W j) else -1) → (∀ I', (∀ b j, ¬ (b = ao ∧ 12 ≤ j ∧ j ≤ 19) → I' b j = I b j) → (∀ j, j < 3 → I' ao (12 + j) = if j < kn K then nI (W j) else -1) → I' ao 15 = v9 → I' ao 16 = v10 → I' ao 17 = v11 → I' ao 18 = v12 → I' ao 19 = v13 → Rn (k626 (some 40) v1 v2 v3 v4 v5 v6 (some ao) (some H) v9 v10 v11 v12 v13 v14 (pu_hp s I' P J n)) Q) → Rn (fL_run_554 k626 N (some 40) v1 v2 v3 v4 v5 v6 (some ao) (some H) v9 v10 v11 v12 v13 v14 (nI k) (pu_hp s I P J n)) Q := by
  obtain ⟨h40, hO, hH, d1, d2, d3⟩ := h0
  intro m
  induction m with
  | zero =>
    intro k N I hk hN e0 hV ho kk
    obtain ⟨N, rfl⟩ : ∃ N', N = N' + 1 := ⟨N - 1, by omega⟩
    obtain rfl : k = 3 := by omega
    show Rn (fL_run_554_b k626 (fL_run_554 k626 N) _ _ _ _ _ _ _ _ _ _ _ _ _ _ _ _ _) _
    unfold fL_run_554_b
    simp (disch := first | assumption | with_unfolding_all exact hW.1 _ _ rfl | rfl | exact pu_okI (by first | assumption | with_unfolding_all exact hW.1 _ _ rfl) (by omega) (by omega) | exact pu_oqI (by first | assumption | with_unfolding_all exact hW.1 _ _ rfl) (by omega) (by omega) | omega | decide) only [↓reduceIte, ↓gi_b, ↓pi_b, ↓gr_b, ↓pr_b, ↓al_b, ↓as_b, ↓al_3, ↓as_3, ↓al_12, ↓as_12, ↓al_l, ↓as_l, ↓rc_b, ↓Option.bind_some, ↓zr0_b, ↓zr1_b, ↓zrb_b, ↓pz0_b, ↓pz1_b, al_b, as_b, rc_b, gi_b, pi_b, gr_b, zr0, zr1, zrb, u_s, u_n, v_s, v_n, ↓isIn_b, ite_T, ite_F, il_t, il_f, li_t, li_f, it_t, it_f, ti_t, ti_f, ie_t, ie_f, ei_t, ei_f, nn_le_t, nn_le_f, nn_lt_t, nn_lt_f, nn_eq_t, nn_eq_f, nI_1, nI_add, ni_addl, ni_ladd, pk_mul, ni_mull, b2_t, b2_f, b2_0, one0, m1_eq, ni_m1, reduceCtorEq, Bool.false_eq_true, nI_clamp, if_true, Option.some.injEq, Prod.mk.injEq, and_true, true_and, Nat.reduceAdd, Nat.reduceMul, Nat.reduceSub, Nat.reduceEqDiff, Nat.reduceLeDiff, Nat.reduceLT]
    refine kk _ (fun b j q => ?_) (fun j hj => ?_) ?_ ?_ ?_ ?_ ?_
    · rw [u_n (by omega), u_n (by omega), u_n (by omega), u_n (by omega), u_n (by omega)]
    · rw [u_n (by omega), u_n (by omega), u_n (by omega), u_n (by omega), u_n (by omega)]; exact ho j hj
    · rw [u_n (by omega), u_n (by omega), u_n (by omega), u_n (by omega), u_s]
    · rw [u_n (by omega), u_n (by omega), u_n (by omega), u_s]
    · rw [u_n (by omega), u_n (by omega), u_s]
    · rw [u_n (by omega), u_s]
    · rw [u_s]
  | succ m ih =>
    intro k N I hk hN e0 hV ho kk
    obtain ⟨N, rfl⟩ : ∃ N', N = N' + 1 := ⟨N - 1, by omega⟩
    have step : ∀ x : Int32, x = (if k < kn K then nI (W k) else -1) → Rn (fL_run_554 k626 N (some 40) v1 v2 v3 v4 v5 v6 (some ao) (some H) v9 v10 v11 v12 v13 v14 (nI (k + 1)) (pu_hp s (pu_u I ao (12 + k) x) P J n)) Q := by
      intro x hx
      refine ih (k + 1) N _ (by omega) (by omega) (by rw [u_n (by omega)]; exact e0) (fun j hj => by rw [u_n (by omega)]; exact hV j hj) (fun j hj => ?_) (fun I' q1 => kk I' fun b j q => by rw [q1 b j q, u_n (by omega)])
      by_cases e : j = k
      · subst e; rw [u_s, hx]
      · rw [u_n (by omega)]; exact ho j (by omega)
    show Rn (fL_run_554_b k626 (fL_run_554 k626 N) _ _ _ _ _ _ _ _ _ _ _ _ _ _ _ _ _) _
    unfold fL_run_554_b fL_run_584
    by_cases hv : k < kn K
    · simp (disch := first | assumption | with_unfolding_all exact hW.1 _ _ rfl | rfl | exact pu_okI (by first | assumption | with_unfolding_all exact hW.1 _ _ rfl) (by omega) (by omega) | exact pu_oqI (by first | assumption | with_unfolding_all exact hW.1 _ _ rfl) (by omega) (by omega) | omega | decide) only [↓reduceIte, ↓gi_b, ↓pi_b, ↓gr_b, ↓pr_b, ↓al_b, ↓as_b, ↓al_3, ↓as_3, ↓al_12, ↓as_12, ↓al_l, ↓as_l, ↓rc_b, ↓Option.bind_some, ↓zr0_b, ↓zr1_b, ↓zrb_b, ↓pz0_b, ↓pz1_b, al_b, as_b, rc_b, gi_b, pi_b, gr_b, zr0, zr1, zrb, u_s, u_n, v_s, v_n, ↓isIn_b, ite_T, ite_F, il_t, il_f, li_t, li_f, it_t, it_f, ti_t, ti_f, ie_t, ie_f, ei_t, ei_f, nn_le_t, nn_le_f, nn_lt_t, nn_lt_f, nn_eq_t, nn_eq_f, nI_1, nI_add, ni_addl, ni_ladd, pk_mul, ni_mull, b2_t, b2_f, b2_0, one0, m1_eq, ni_m1, reduceCtorEq, Bool.false_eq_true, nI_clamp, if_true, Option.some.injEq, Prod.mk.injEq, and_true, true_and, Nat.reduceAdd, Nat.reduceMul, Nat.reduceSub, Nat.reduceEqDiff, Nat.reduceLeDiff, Nat.reduceLT, e0, hV k hv]
      exact step _ (by rw [if_pos hv])
    · simp (disch := first | assumption | with_unfolding_all exact hW.1 _ _ rfl | rfl | exact pu_okI (by first | assumption | with_unfolding_all exact hW.1 _ _ rfl) (by omega) (by omega) | exact pu_oqI (by first | assumption | with_unfolding_all exact hW.1 _ _ rfl) (by omega) (by omega) | omega | decide) only [↓reduceIte, ↓gi_b, ↓pi_b, ↓gr_b, ↓pr_b, ↓al_b, ↓as_b, ↓al_3, ↓as_3, ↓al_12, ↓as_12, ↓al_l, ↓as_l, ↓rc_b, ↓Option.bind_some, ↓zr0_b, ↓zr1_b, ↓zrb_b, ↓pz0_b, ↓pz1_b, al_b, as_b, rc_b, gi_b, pi_b, gr_b, zr0, zr1, zrb, u_s, u_n, v_s, v_n, ↓isIn_b, ite_T, ite_F, il_t, il_f, li_t, li_f, it_t, it_f, ti_t, ti_f, ie_t, ie_f, ei_t, ei_f, nn_le_t, nn_le_f, nn_lt_t, nn_lt_f, nn_eq_t, nn_eq_f, nI_1, nI_add, ni_addl, ni_ladd, pk_mul, ni_mull, b2_t, b2_f, b2_0, one0, m1_eq, ni_m1, reduceCtorEq, Bool.false_eq_true, nI_clamp, if_true, Option.some.injEq, Prod.mk.injEq, and_true, true_and, Nat.reduceAdd, Nat.reduceMul, Nat.reduceSub, Nat.reduceEqDiff, Nat.reduceLeDiff, Nat.reduceLT, e0]
      exact step _ (by rw [if_neg hv])
/-- what the law keeps of a run -/
def LRI (I : Nat → Nat → Int32) (H ao : Nat) (K : S_K) (X : S_X) : Prop := (∀ j, j < kn K → I H j = nI (xW X j)) ∧ (∀ b, b < 12 → I ao b = nI (dN X b)) ∧ I ao 20 = nI (xli X) ∧ I ao 21 = nI (xmo X)
def TK (I : Nat → Nat → Int32) (ao : Nat) (K : S_K) (F : S_F) (w tick t : Nat) : Prop := tick < t → ∀ v, v < 8 → I ao (12 + v) = atN K (S_at K F w true (tick + 1)) v
def FH (H ao : Nat) (I I' : Nat → Nat → Int32) : Prop := ∀ b j, ¬ b = H → ¬ b = ao → I' b j = I b j
theorem FH.tr {I I' I'' : Nat → Nat → Int32} (h : FH H ao I I') (h' : FH H ao I' I'') : FH H ao I I'' := fun b j q1 q2 => by rw [h' b j q1 q2, h b j q1 q2]
theorem FH.u {I I' : Nat → Nat → Int32} {a k : Nat} {x : Int32} (h : FH H ao I I') (ha : a = H ∨ a = ao) : FH H ao I (pu_u I' a k x) := fun b j q1 q2 => by rw [u_n (by omega), h b j q1 q2]
theorem FH.k {I I' : Nat → Nat → Int32} (h : FH H ao I I') (h0 : LR0 s H ao) (hk : LK I K) : LK I' K := hk.fr fun j => h 40 j (fun q => h0.2.2.2.2.1 q.symm) (fun q => h0.2.2.2.2.2 q.symm)
theorem LRI.u {I : Nat → Nat → Int32} {X : S_X} {k : Nat} {x : Int32} (h : LRI I H ao K X) (hd : ¬ H = ao) (h1 : 12 ≤ k) (h2 : k ≤ 19) : LRI (pu_u I ao k x) H ao K X := ⟨fun j hj => by rw [u_n (by omega)]; exact h.1 j hj, fun b hb => by rw [u_n (by omega)]; exact h.2.1 b hb, by rw [u_n (by omega)]; exact h.2.2.1, by rw [u_n (by omega)]; exact h.2.2.2⟩
set_option maxHeartbeats 4000000 in
set_option maxRecDepth 100000 in
theorem l_544 (h0 : LR0 s H ao) (hK : S_KB K) (hF : S_FB F) {v1 v2 v3 v4 v5 : Int32} {tick : Nat} (ht : t ≤ 95) (htk : tick ≤ 95) (hk : LK I K) (hI : LRI I H ao K (S_at K F w true (t + 1))) (hT : TK I ao K F w tick t) {k99 : LRk} {Q : am_H → Prop} (kk : ∀ I', FH H ao I I' → LRI I' H ao K (S_at K F w true (t + 1)) → TK I' ao K F w tick (t + 1) → Rn (k99 (some 40) v1 v2 v3 v4 v5 (nI tick) (some ao) (some H) (nI (xcy (S_at K F w true (t + 1)))) (nI (xdr (S_at K F w true (t + 1)))) (nI (xov (S_at K F w true (t + 1)))) (nI (xle (S_at K F w true (t + 1)))) (nI (xem (S_at K F w true (t + 1)))) (nI (t + 1)) (pu_hp s I' P J n)) Q) : Rn (fL_run_544 k99 (some 40) v1 v2 v3 v4 v5 (nI tick) (some ao) (some H) (nI (xcy (S_at K F w true (t + 1)))) (nI (xdr (S_at K F w true (t + 1)))) (nI (xov (S_at K F w true (t + 1)))) (nI (xle (S_at K F w true (t + 1)))) (nI (xem (S_at K F w true (t + 1)))) (nI t) (pu_hp s I P J n)) Q := by
  unfold fL_run_544
  by_cases e : t = tick
  · subst e
    rw [if_pos rfl, show (0 : Int32) = nI 0 from rfl]
    refine l_554 (W := xW (S_at K F w true (t + 1))) h0 hK.1 3 0 am_fu I (by omega) (by unfold am_fu; omega) hk.1 hI.1 (fun j hj => by omega) (fun I' q1 q2 q3 q4 q5 q6 q7 => ?_)
    unfold fL_run_626
    rw [nI_1]
    refine kk I' (fun b j _ q => q1 b j (by omega)) ⟨fun j hj => ?_, fun b hb => ?_, ?_, ?_⟩ (fun _ v hv => ?_)
    · rw [q1 _ _ (fun q => h0.2.2.2.1 q.1)]; exact hI.1 j hj
    · rw [q1 _ _ (by omega)]; exact hI.2.1 b hb
    · rw [q1 _ _ (by omega)]; exact hI.2.2.1
    · rw [q1 _ _ (by omega)]; exact hI.2.2.2
    · by_cases hv3 : v < 3
      · rw [q2 v hv3, atN_lo hv3]
      · have : v = 3 ∨ v = 4 ∨ v = 5 ∨ v = 6 ∨ v = 7 := by omega
        rcases this with rfl | rfl | rfl | rfl | rfl
        · exact q3
        · exact q4
        · exact q5
        · exact q6
        · exact q7
  · rw [if_neg (fun q => e ((nI_eq (by omega) (by omega)).mp q))]
    unfold fL_run_626
    rw [nI_1]
    exact kk I (fun _ _ _ _ => rfl) hI (fun q v hv => hT (by omega) v hv)
set_option maxHeartbeats 4000000 in
set_option maxRecDepth 100000 in
theorem l_518 (h0 : LR0 s H ao) (hK : S_KB K) {v1 v2 v3 v4 v5 v6 : Int32} (hk : LK I K) {X : S_X} (hX : S_XB K (t + 1) X) (ht : t ≤ 95) {k99 : LRk} {Q : am_H → Prop} (kk : Rn (fL_run_544 k99 (some 40) v1 v2 v3 v4 v5 v6 (some ao) (some H) (nI (xcy (S_si K true X))) (nI (xdr (S_si K true X))) (nI (xov (S_si K true X))) (nI (xle (S_si K true X))) (nI (xem (S_si K true X))) (nI t) (pu_hp s I P J n)) Q) : Rn (fL_run_518 k99 (some 40) v1 v2 v3 v4 v5 v6 (some ao) (some H) (nI (xcy X)) (nI (xdr X)) (nI (xov X)) (nI (xle X)) (nI (xem X)) (nI t) (pu_hp s I P J n)) Q := by
  obtain ⟨h40, hO, hH, d1, d2, d3⟩ := h0
  obtain ⟨e0, e1, e2, e3, e4, -⟩ := hk
  have hnb := hK.2.2.2.2.2.1
  have hca := hK.2.2.1
  have hch := hK.2.2.2.1
  obtain ⟨-, x2, -, -, -, x6, x7, -⟩ := hX
  unfold fL_run_518
  by_cases hd : xdr X = knb K
  · have hq : xcy X / kca K ≤ xcy X := Nat.div_le_self _ _
    by_cases hl : xcy X / kca K < kch K
    · have es : S_si K true X = X := by unfold S_si; rw [if_neg (by omega)]
      rw [es] at kk
      simp (disch := first | assumption | with_unfolding_all exact hW.1 _ _ rfl | rfl | exact pu_okI (by first | assumption | with_unfolding_all exact hW.1 _ _ rfl) (by omega) (by omega) | exact pu_oqI (by first | assumption | with_unfolding_all exact hW.1 _ _ rfl) (by omega) (by omega) | omega | decide) only [↓reduceIte, ↓gi_b, ↓pi_b, ↓gr_b, ↓pr_b, ↓al_b, ↓as_b, ↓al_3, ↓as_3, ↓al_12, ↓as_12, ↓al_l, ↓as_l, ↓rc_b, ↓Option.bind_some, ↓zr0_b, ↓zr1_b, ↓zrb_b, ↓pz0_b, ↓pz1_b, al_b, as_b, rc_b, gi_b, pi_b, gr_b, zr0, zr1, zrb, u_s, u_n, v_s, v_n, ↓isIn_b, ite_T, ite_F, il_t, il_f, li_t, li_f, it_t, it_f, ti_t, ti_f, ie_t, ie_f, ei_t, ei_f, nn_le_t, nn_le_f, nn_lt_t, nn_lt_f, nn_eq_t, nn_eq_f, nI_1, nI_add, ni_addl, ni_ladd, pk_mul, ni_mull, b2_t, b2_f, b2_0, one0, m1_eq, ni_m1, reduceCtorEq, Bool.false_eq_true, nI_clamp, if_true, Option.some.injEq, Prod.mk.injEq, and_true, true_and, Nat.reduceAdd, Nat.reduceMul, Nat.reduceSub, Nat.reduceEqDiff, Nat.reduceLeDiff, Nat.reduceLT, e4, e1, e2, ni_divn, hd]
      rw [← hd]
      exact kk
    · have es : S_si K true X = (xW X, 0, xpo X, xov X, xle X, xem X + 1, xdr X, xD X, xli X, xmo X) := by unfold S_si; rw [if_pos ⟨rfl, by omega, by omega⟩]
      rw [es] at kk
      simp (disch := first | assumption | with_unfolding_all exact hW.1 _ _ rfl | rfl | exact pu_okI (by first | assumption | with_unfolding_all exact hW.1 _ _ rfl) (by omega) (by omega) | exact pu_oqI (by first | assumption | with_unfolding_all exact hW.1 _ _ rfl) (by omega) (by omega) | omega | decide) only [↓reduceIte, ↓gi_b, ↓pi_b, ↓gr_b, ↓pr_b, ↓al_b, ↓as_b, ↓al_3, ↓as_3, ↓al_12, ↓as_12, ↓al_l, ↓as_l, ↓rc_b, ↓Option.bind_some, ↓zr0_b, ↓zr1_b, ↓zrb_b, ↓pz0_b, ↓pz1_b, al_b, as_b, rc_b, gi_b, pi_b, gr_b, zr0, zr1, zrb, u_s, u_n, v_s, v_n, ↓isIn_b, ite_T, ite_F, il_t, il_f, li_t, li_f, it_t, it_f, ti_t, ti_f, ie_t, ie_f, ei_t, ei_f, nn_le_t, nn_le_f, nn_lt_t, nn_lt_f, nn_eq_t, nn_eq_f, nI_1, nI_add, ni_addl, ni_ladd, pk_mul, ni_mull, b2_t, b2_f, b2_0, one0, m1_eq, ni_m1, reduceCtorEq, Bool.false_eq_true, nI_clamp, if_true, Option.some.injEq, Prod.mk.injEq, and_true, true_and, Nat.reduceAdd, Nat.reduceMul, Nat.reduceSub, Nat.reduceEqDiff, Nat.reduceLeDiff, Nat.reduceLT, e4, e1, e2, ni_divn, hd]
      rw [← hd]
      exact kk
  · have es : S_si K true X = X := by unfold S_si; rw [if_neg (by omega)]
    rw [es] at kk
    simp (disch := first | assumption | with_unfolding_all exact hW.1 _ _ rfl | rfl | exact pu_okI (by first | assumption | with_unfolding_all exact hW.1 _ _ rfl) (by omega) (by omega) | exact pu_oqI (by first | assumption | with_unfolding_all exact hW.1 _ _ rfl) (by omega) (by omega) | omega | decide) only [↓reduceIte, ↓gi_b, ↓pi_b, ↓gr_b, ↓pr_b, ↓al_b, ↓as_b, ↓al_3, ↓as_3, ↓al_12, ↓as_12, ↓al_l, ↓as_l, ↓rc_b, ↓Option.bind_some, ↓zr0_b, ↓zr1_b, ↓zrb_b, ↓pz0_b, ↓pz1_b, al_b, as_b, rc_b, gi_b, pi_b, gr_b, zr0, zr1, zrb, u_s, u_n, v_s, v_n, ↓isIn_b, ite_T, ite_F, il_t, il_f, li_t, li_f, it_t, it_f, ti_t, ti_f, ie_t, ie_f, ei_t, ei_f, nn_le_t, nn_le_f, nn_lt_t, nn_lt_f, nn_eq_t, nn_eq_f, nI_1, nI_add, ni_addl, ni_ladd, pk_mul, ni_mull, b2_t, b2_f, b2_0, one0, m1_eq, ni_m1, reduceCtorEq, Bool.false_eq_true, nI_clamp, if_true, Option.some.injEq, Prod.mk.injEq, and_true, true_and, Nat.reduceAdd, Nat.reduceMul, Nat.reduceSub, Nat.reduceEqDiff, Nat.reduceLeDiff, Nat.reduceLT, e4]
    exact kk
set_option maxHeartbeats 4000000 in
set_option maxRecDepth 100000 in
theorem l_481 (h0 : LR0 s H ao) (hK : S_KB K) {v1 v2 v3 v4 v5 v6 v11 v12 v13 : Int32} {cy : Nat} (hcy : cy < 1000000) (ht : t ≤ 95) {k99 : LRk} {Q : am_H → Prop} : ∀ (m j N : Nat) (I : Nat → Nat → Int32), knb K ≤ j + m → m < N → j ≤ knb K → LK I K → (∀ I', (∀ b i, ¬ (b = ao ∧ j ≤ i ∧ i < 12) → I' b i = I b i) → (∀ b, j ≤ b → b < S_dn K (cy / kca K) m j → I' ao b = nI t) → (∀ b, S_dn K (cy / kca K) m j ≤ b → I' ao b = I ao b) → LK I' K → Rn (fL_run_518 k99 (some 40) v1 v2 v3 v4 v5 v6 (some ao) (some H) (nI cy) (nI (S_dn K (cy / kca K) m j)) v11 v12 v13 (nI t) (pu_hp s I' P J n)) Q) → Rn (fL_run_481 k99 N (some 40) v1 v2 v3 v4 v5 v6 (some ao) (some H) (nI cy) (nI j) v11 v12 v13 (nI t) (pu_hp s I P J n)) Q := by
  have h00 := h0
  obtain ⟨h40, hO, hH, d1, d2, d3⟩ := h0
  have hnb := hK.2.2.2.2.2.1
  have hca := hK.2.2.1
  have hq : cy / kca K ≤ cy := Nat.div_le_self _ _
  intro m
  induction m with
  | zero =>
    intro j N I hj hN hjn hk kk
    obtain ⟨N, rfl⟩ : ∃ N', N = N' + 1 := ⟨N - 1, by omega⟩
    have e4 := hk.2.2.2.2.1
    show Rn (fL_run_481_b k99 (fL_run_481 k99 N) _ _ _ _ _ _ _ _ _ _ _ _ _ _ _ _) _
    unfold fL_run_481_b
    simp (disch := first | assumption | with_unfolding_all exact hW.1 _ _ rfl | rfl | exact pu_okI (by first | assumption | with_unfolding_all exact hW.1 _ _ rfl) (by omega) (by omega) | exact pu_oqI (by first | assumption | with_unfolding_all exact hW.1 _ _ rfl) (by omega) (by omega) | omega | decide) only [↓reduceIte, ↓gi_b, ↓pi_b, ↓gr_b, ↓pr_b, ↓al_b, ↓as_b, ↓al_3, ↓as_3, ↓al_12, ↓as_12, ↓al_l, ↓as_l, ↓rc_b, ↓Option.bind_some, ↓zr0_b, ↓zr1_b, ↓zrb_b, ↓pz0_b, ↓pz1_b, al_b, as_b, rc_b, gi_b, pi_b, gr_b, zr0, zr1, zrb, u_s, u_n, v_s, v_n, ↓isIn_b, ite_T, ite_F, il_t, il_f, li_t, li_f, it_t, it_f, ti_t, ti_f, ie_t, ie_f, ei_t, ei_f, nn_le_t, nn_le_f, nn_lt_t, nn_lt_f, nn_eq_t, nn_eq_f, nI_1, nI_add, ni_addl, ni_ladd, pk_mul, ni_mull, b2_t, b2_f, b2_0, one0, m1_eq, ni_m1, reduceCtorEq, Bool.false_eq_true, nI_clamp, if_true, Option.some.injEq, Prod.mk.injEq, and_true, true_and, Nat.reduceAdd, Nat.reduceMul, Nat.reduceSub, Nat.reduceEqDiff, Nat.reduceLeDiff, Nat.reduceLT, e4]
    exact kk I (fun _ _ _ => rfl) (fun b q1 q2 => absurd q2 (by show ¬ b < j; omega)) (fun _ _ => rfl) hk
  | succ m ih =>
    intro j N I hj hN hjn hk kk
    obtain ⟨N, rfl⟩ : ∃ N', N = N' + 1 := ⟨N - 1, by omega⟩
    obtain ⟨e0, e1, e2, e3, e4, e5, e6⟩ := id hk
    show Rn (fL_run_481_b k99 (fL_run_481 k99 N) _ _ _ _ _ _ _ _ _ _ _ _ _ _ _ _) _
    unfold fL_run_481_b
    by_cases c1 : j < knb K
    · have em := e6 j c1
      have hm := (hK.2.2.2.2.2.2.1 j c1).2
      by_cases c2 : kM K j ≤ cy / kca K
      · have ed : S_dn K (cy / kca K) (m + 1) j = S_dn K (cy / kca K) m (j + 1) := by
          show (if j < knb K ∧ kM K j ≤ cy / kca K then _ else _) = _
          rw [if_pos ⟨c1, c2⟩]
        rw [ed] at kk
        simp (disch := first | assumption | with_unfolding_all exact hW.1 _ _ rfl | rfl | exact pu_okI (by first | assumption | with_unfolding_all exact hW.1 _ _ rfl) (by omega) (by omega) | exact pu_oqI (by first | assumption | with_unfolding_all exact hW.1 _ _ rfl) (by omega) (by omega) | omega | decide) only [↓reduceIte, ↓gi_b, ↓pi_b, ↓gr_b, ↓pr_b, ↓al_b, ↓as_b, ↓al_3, ↓as_3, ↓al_12, ↓as_12, ↓al_l, ↓as_l, ↓rc_b, ↓Option.bind_some, ↓zr0_b, ↓zr1_b, ↓zrb_b, ↓pz0_b, ↓pz1_b, al_b, as_b, rc_b, gi_b, pi_b, gr_b, zr0, zr1, zrb, u_s, u_n, v_s, v_n, ↓isIn_b, ite_T, ite_F, il_t, il_f, li_t, li_f, it_t, it_f, ti_t, ti_f, ie_t, ie_f, ei_t, ei_f, nn_le_t, nn_le_f, nn_lt_t, nn_lt_f, nn_eq_t, nn_eq_f, nI_1, nI_add, ni_addl, ni_ladd, pk_mul, ni_mull, b2_t, b2_f, b2_0, one0, m1_eq, ni_m1, reduceCtorEq, Bool.false_eq_true, nI_clamp, if_true, Option.some.injEq, Prod.mk.injEq, and_true, true_and, Nat.reduceAdd, Nat.reduceMul, Nat.reduceSub, Nat.reduceEqDiff, Nat.reduceLeDiff, Nat.reduceLT, e4, e1, em, ni_divn]
        have hle := (S_dn_b (K := K) (lev := cy / kca K) m (j + 1) c1).2
        refine ih (j + 1) N _ (by omega) (by omega) (by omega) (hk.fr fun i => by rw [u_n (by omega)]) (fun I' q1 q2 q3 q4 => kk I' (fun b i q => by rw [q1 b i (by omega), u_n (by omega)]) (fun b q5 q6 => ?_) (fun b q => by rw [q3 b q, u_n (by omega)]) q4)
        by_cases e : b = j
        · subst e; rw [q1 _ _ (by omega), u_s]
        · exact q2 b (by omega) q6
      · have ed : S_dn K (cy / kca K) (m + 1) j = j := by
          show (if j < knb K ∧ kM K j ≤ cy / kca K then _ else _) = _
          rw [if_neg (by omega)]
        rw [ed] at kk
        simp (disch := first | assumption | with_unfolding_all exact hW.1 _ _ rfl | rfl | exact pu_okI (by first | assumption | with_unfolding_all exact hW.1 _ _ rfl) (by omega) (by omega) | exact pu_oqI (by first | assumption | with_unfolding_all exact hW.1 _ _ rfl) (by omega) (by omega) | omega | decide) only [↓reduceIte, ↓gi_b, ↓pi_b, ↓gr_b, ↓pr_b, ↓al_b, ↓as_b, ↓al_3, ↓as_3, ↓al_12, ↓as_12, ↓al_l, ↓as_l, ↓rc_b, ↓Option.bind_some, ↓zr0_b, ↓zr1_b, ↓zrb_b, ↓pz0_b, ↓pz1_b, al_b, as_b, rc_b, gi_b, pi_b, gr_b, zr0, zr1, zrb, u_s, u_n, v_s, v_n, ↓isIn_b, ite_T, ite_F, il_t, il_f, li_t, li_f, it_t, it_f, ti_t, ti_f, ie_t, ie_f, ei_t, ei_f, nn_le_t, nn_le_f, nn_lt_t, nn_lt_f, nn_eq_t, nn_eq_f, nI_1, nI_add, ni_addl, ni_ladd, pk_mul, ni_mull, b2_t, b2_f, b2_0, one0, m1_eq, ni_m1, reduceCtorEq, Bool.false_eq_true, nI_clamp, if_true, Option.some.injEq, Prod.mk.injEq, and_true, true_and, Nat.reduceAdd, Nat.reduceMul, Nat.reduceSub, Nat.reduceEqDiff, Nat.reduceLeDiff, Nat.reduceLT, e4, e1, em, ni_divn]
        exact kk I (fun _ _ _ => rfl) (fun b q1 q2 => by omega) (fun _ _ => rfl) hk
    · have ed : S_dn K (cy / kca K) (m + 1) j = j := by
        show (if j < knb K ∧ kM K j ≤ cy / kca K then _ else _) = _
        rw [if_neg (by omega)]
      rw [ed] at kk
      simp (disch := first | assumption | with_unfolding_all exact hW.1 _ _ rfl | rfl | exact pu_okI (by first | assumption | with_unfolding_all exact hW.1 _ _ rfl) (by omega) (by omega) | exact pu_oqI (by first | assumption | with_unfolding_all exact hW.1 _ _ rfl) (by omega) (by omega) | omega | decide) only [↓reduceIte, ↓gi_b, ↓pi_b, ↓gr_b, ↓pr_b, ↓al_b, ↓as_b, ↓al_3, ↓as_3, ↓al_12, ↓as_12, ↓al_l, ↓as_l, ↓rc_b, ↓Option.bind_some, ↓zr0_b, ↓zr1_b, ↓zrb_b, ↓pz0_b, ↓pz1_b, al_b, as_b, rc_b, gi_b, pi_b, gr_b, zr0, zr1, zrb, u_s, u_n, v_s, v_n, ↓isIn_b, ite_T, ite_F, il_t, il_f, li_t, li_f, it_t, it_f, ti_t, ti_f, ie_t, ie_f, ei_t, ei_f, nn_le_t, nn_le_f, nn_lt_t, nn_lt_f, nn_eq_t, nn_eq_f, nI_1, nI_add, ni_addl, ni_ladd, pk_mul, ni_mull, b2_t, b2_f, b2_0, one0, m1_eq, ni_m1, reduceCtorEq, Bool.false_eq_true, nI_clamp, if_true, Option.some.injEq, Prod.mk.injEq, and_true, true_and, Nat.reduceAdd, Nat.reduceMul, Nat.reduceSub, Nat.reduceEqDiff, Nat.reduceLeDiff, Nat.reduceLT, e4]
      exact kk I (fun _ _ _ => rfl) (fun b q1 q2 => by omega) (fun _ _ => rfl) hk
set_option maxHeartbeats 4000000 in
set_option maxRecDepth 100000 in
/-- behind the leak: balls, siphon, what is laid down -/
theorem l_drop (h0 : LR0 s H ao) (hK : S_KB K) (hF : S_FB F) {v1 v2 v3 v4 v5 : Int32} {tick : Nat} (ht : t ≤ 95) (htk : tick ≤ 95) (hk : LK I K) {X : S_X} (hX : S_XB K (t + 1) X) (hem : xem X ≤ t) (eX : S_at K F w true (t + 1) = S_si K true (S_drop K t X)) (hI : LRI I H ao K X) (hT : TK I ao K F w tick t) {k99 : LRk} {Q : am_H → Prop} (kk : ∀ I', FH H ao I I' → LRI I' H ao K (S_at K F w true (t + 1)) → TK I' ao K F w tick (t + 1) → Rn (k99 (some 40) v1 v2 v3 v4 v5 (nI tick) (some ao) (some H) (nI (xcy (S_at K F w true (t + 1)))) (nI (xdr (S_at K F w true (t + 1)))) (nI (xov (S_at K F w true (t + 1)))) (nI (xle (S_at K F w true (t + 1)))) (nI (xem (S_at K F w true (t + 1)))) (nI (t + 1)) (pu_hp s I' P J n)) Q) : Rn (fL_run_481 k99 am_fu (some 40) v1 v2 v3 v4 v5 (nI tick) (some ao) (some H) (nI (xcy X)) (nI (xdr X)) (nI (xov X)) (nI (xle X)) (nI (xem X)) (nI t) (pu_hp s I P J n)) Q := by
  obtain ⟨x1, x2, x3, x4, x5, x6, x7, x8, x9, x10⟩ := id hX
  have hnb := hK.2.2.2.2.2.1
  refine l_481 h0 hK (by omega) ht 12 (xdr X) am_fu I (by omega) (by unfold am_fu; omega) x7 hk (fun I' q1 q2 q3 q4 => ?_)
  have hXd := S_drop_b hX
  have hdn := (S_dn_b (K := K) (lev := xcy X / kca K) 12 (xdr X) x7)
  have hI' : LRI I' H ao K (S_drop K t X) := by
    refine ⟨fun j hj => ?_, fun b hb => ?_, ?_, ?_⟩
    · rw [q1 _ _ (fun q => h0.2.2.2.1 q.1)]; exact hI.1 j hj
    · show _ = nI (if b < S_dn K (xcy X / kca K) 12 (xdr X) then (if xdr X ≤ b ∧ b < S_dn K (xcy X / kca K) 12 (xdr X) then t else xD X b) else 96)
      by_cases c1 : b < S_dn K (xcy X / kca K) 12 (xdr X)
      · rw [if_pos c1]
        by_cases c2 : xdr X ≤ b
        · rw [if_pos ⟨c2, c1⟩, q2 b c2 c1]
        · rw [if_neg (fun q => c2 q.1), q1 _ _ (by omega), hI.2.1 b hb]
          unfold dN; rw [if_pos (by omega)]
      · rw [if_neg c1, q3 b (by omega), hI.2.1 b hb]
        unfold dN; rw [if_neg (by omega)]
    · rw [q1 _ _ (by omega)]; exact hI.2.2.1
    · rw [q1 _ _ (by omega)]; exact hI.2.2.2
  have hTI : TK I' ao K F w tick t := fun q v hv => by rw [q1 _ _ (by omega)]; exact hT q v hv
  refine l_518 (X := S_drop K t X) h0 hK q4 hXd ht ?_
  rw [← eX]
  have hI2 : LRI I' H ao K (S_at K F w true (t + 1)) := by
    rw [eX]
    unfold S_si
    split
    · exact hI'
    · exact hI'
  exact l_544 h0 hK hF ht htk q4 hI2 hTI (fun I2 r1 r2 r3 => kk I2 (FH.tr (fun b j _ p2 => q1 b j (fun q => p2 q.1)) r1) r2 r3)
set_option maxHeartbeats 4000000 in
set_option maxRecDepth 100000 in
/-- the leak -/
theorem l_427 (h0 : LR0 s H ao) (hK : S_KB K) (hF : S_FB F) {v1 v15 : Int32} {tick : Nat} (ht : t ≤ 95) (htk : tick ≤ 95) (hv15 : v15 = if F.2.2.2 ≤ t then 1 else 0) (hk : LK I K) {X : S_X} (hX : S_XB K (t + 1) X) (hle : xle X ≤ 1800 * t) (hem : xem X ≤ t) (eX : S_at K F w true (t + 1) = S_si K true (S_drop K t (S_lk K F t X))) (hI : LRI (pu_u I ao 21 (nI (xmo X))) H ao K X) (hT : TK I ao K F w tick t) {k99 : LRk} {Q : am_H → Prop} (kk : ∀ I', FH H ao I I' → LRI I' H ao K (S_at K F w true (t + 1)) → TK I' ao K F w tick (t + 1) → Rn (k99 (some 40) v1 (nI F.1) (nI F.2.1) (nI F.2.2.1) (nI F.2.2.2) (nI tick) (some ao) (some H) (nI (xcy (S_at K F w true (t + 1)))) (nI (xdr (S_at K F w true (t + 1)))) (nI (xov (S_at K F w true (t + 1)))) (nI (xle (S_at K F w true (t + 1)))) (nI (xem (S_at K F w true (t + 1)))) (nI (t + 1)) (pu_hp s I' P J n)) Q) : Rn (fL_run_427 k99 (some 40) v1 (nI F.1) (nI F.2.1) (nI F.2.2.1) (nI F.2.2.2) (nI tick) (some ao) (some H) (nI (xcy X)) (nI (xdr X)) (nI (xov X)) (nI (xle X)) (nI (xem X)) (nI t) v15 (some ao) (21 : Int32) (nI (xmo X)) (pu_hp s I P J n)) Q := by
  have h00 := h0
  obtain ⟨h40, hO, hH, d1, d2, d3⟩ := h0
  obtain ⟨x1, x2, x3, x4, x5, x6, x7, x8, x9, x10⟩ := id hX
  obtain ⟨f1, f2, f3, f4⟩ := id hF
  have hkn := hK.1
  have hX2 := S_lk_b hF hX hle
  have hem2 : xem (S_lk K F t X) ≤ t := by rw [S_lk_em]; exact hem
  have hfu : FH H ao I (pu_u I ao 21 (nI (xmo X))) := FH.u (fun _ _ _ _ => rfl) (Or.inr rfl)
  have hkI : LK (pu_u I ao 21 (nI (xmo X))) K := hfu.k h00 hk
  have hTu : TK (pu_u I ao 21 (nI (xmo X))) ao K F w tick t := fun q v hv => by rw [u_n (by omega)]; exact hT q v hv
  have e0 : I 40 0 = nI (kn K) := hk.1
  have main0 : (∀ j, j < kn K → xW (S_lk K F t X) j = xW X j) → xle (S_lk K F t X) = xle X → Rn (fL_run_481 k99 am_fu (some 40) v1 (nI F.1) (nI F.2.1) (nI F.2.2.1) (nI F.2.2.2) (nI tick) (some ao) (some H) (nI (xcy X)) (nI (xdr X)) (nI (xov X)) (nI (xle X)) (nI (xem X)) (nI t) (pu_hp s (pu_u I ao 21 (nI (xmo X))) P J n)) Q := by
    intro g1 g2
    have key := l_drop (v1 := v1) (v2 := nI F.1) (v3 := nI F.2.1) (v4 := nI F.2.2.1) (v5 := nI F.2.2.2) (P := P) (J := J) (n := n) (k99 := k99) (Q := Q) h00 hK hF ht htk hkI hX2 hem2 eX (I := pu_u I ao 21 (nI (xmo X))) ?_ hTu (fun I' r1 r2 r3 => kk I' (hfu.tr r1) r2 r3)
    · have q1 : xcy (S_lk K F t X) = xcy X := by unfold S_lk; split <;> rfl
      have q2 : xdr (S_lk K F t X) = xdr X := by unfold S_lk; split <;> rfl
      have q3 : xov (S_lk K F t X) = xov X := by unfold S_lk; split <;> rfl
      rw [q1, q2, q3, g2, S_lk_em] at key
      exact key
    · refine ⟨fun j hj => by rw [g1 j hj]; exact hI.1 j hj, fun b hb => ?_, ?_, ?_⟩
      · rw [show dN (S_lk K F t X) b = dN X b from by unfold S_lk; split <;> rfl]; exact hI.2.1 b hb
      · rw [show xli (S_lk K F t X) = xli X from by unfold S_lk; split <;> rfl]; exact hI.2.2.1
      · rw [show xmo (S_lk K F t X) = xmo X from by unfold S_lk; split <;> rfl]; exact hI.2.2.2
  have noleak : S_leak F t = 0 → (∀ j, j < kn K → xW (S_lk K F t X) j = xW X j) ∧ xle (S_lk K F t X) = xle X := by
    intro q
    unfold S_lk
    by_cases c : F.2.1 < kn K
    · rw [if_pos c, q, Nat.min_zero]
      refine ⟨fun j _ => ?_, rfl⟩
      show updN _ _ _ j = _
      by_cases e : j = F.2.1
      · subst e; rw [updN_s]; rfl
      · rw [updN_n e]
    · rw [if_neg c]; exact ⟨fun _ _ => rfl, rfl⟩
  unfold fL_run_427
  by_cases c1 : F.1 = 3
  · by_cases c2 : F.2.2.2 ≤ t
    · rw [if_pos c2] at hv15
      subst hv15
      by_cases c3 : F.2.1 < kn K
      · have eW : I H F.2.1 = nI (xW X F.2.1) := by
          have := hI.1 F.2.1 c3
          rw [u_n (by omega)] at this
          exact this
        have el : S_leak F t = F.2.2.1 := by unfold S_leak; rw [if_pos ⟨c1, c2⟩]
        have hWb := x1 _ c3
        have hfull := S_full hK c3
        have fin : ∀ y, y = min (xW X F.2.1) F.2.2.1 → Rn (fL_run_463 (fL_run_481 k99 am_fu) (some 40) v1 (nI F.1) (nI F.2.1) (nI F.2.2.1) (nI F.2.2.2) (nI tick) (some ao) (some H) (nI (xcy X)) (nI (xdr X)) (nI (xov X)) (nI (xle X)) (nI (xem X)) (nI t) (nI y) (pu_hp s (pu_u I ao 21 (nI (xmo X))) P J n)) Q := by
          intro y hy
          unfold fL_run_463
          have hyw : y ≤ xW X F.2.1 := by omega
          simp (disch := first | assumption | with_unfolding_all exact hW.1 _ _ rfl | rfl | exact pu_okI (by first | assumption | with_unfolding_all exact hW.1 _ _ rfl) (by omega) (by omega) | exact pu_oqI (by first | assumption | with_unfolding_all exact hW.1 _ _ rfl) (by omega) (by omega) | omega | decide) only [↓reduceIte, ↓gi_b, ↓pi_b, ↓gr_b, ↓pr_b, ↓al_b, ↓as_b, ↓al_3, ↓as_3, ↓al_12, ↓as_12, ↓al_l, ↓as_l, ↓rc_b, ↓Option.bind_some, ↓zr0_b, ↓zr1_b, ↓zrb_b, ↓pz0_b, ↓pz1_b, al_b, as_b, rc_b, gi_b, pi_b, gr_b, zr0, zr1, zrb, u_s, u_n, v_s, v_n, ↓isIn_b, ite_T, ite_F, il_t, il_f, li_t, li_f, it_t, it_f, ti_t, ti_f, ie_t, ie_f, ei_t, ei_f, nn_le_t, nn_le_f, nn_lt_t, nn_lt_f, nn_eq_t, nn_eq_f, nI_1, nI_add, ni_addl, ni_ladd, pk_mul, ni_mull, b2_t, b2_f, b2_0, one0, m1_eq, ni_m1, reduceCtorEq, Bool.false_eq_true, nI_clamp, if_true, Option.some.injEq, Prod.mk.injEq, and_true, true_and, Nat.reduceAdd, Nat.reduceMul, Nat.reduceSub, Nat.reduceEqDiff, Nat.reduceLeDiff, Nat.reduceLT, eW, ni_sub]
          have eS : S_lk K F t X = (updN (xW X) F.2.1 (xW X F.2.1 - y), xcy X, xpo X, xov X, xle X + y, xem X, xdr X, xD X, xli X, xmo X) := by
            unfold S_lk; rw [if_pos c3, el, ← hy]
          rw [eS] at hX2 hem2 eX
          refine l_drop (X := (updN (xW X) F.2.1 (xW X F.2.1 - y), xcy X, xpo X, xov X, xle X + y, xem X, xdr X, xD X, xli X, xmo X)) h00 hK hF ht htk ((FH.u hfu (Or.inl rfl)).k h00 hk) hX2 hem2 eX ⟨fun j hj => ?_, fun b hb => by rw [u_n (by omega)]; exact hI.2.1 b hb, by rw [u_n (by omega)]; exact hI.2.2.1, by rw [u_n (by omega)]; exact hI.2.2.2⟩ (fun q v hv => by rw [u_n (by omega)]; exact hTu q v hv) (fun I' r1 r2 r3 => kk I' ((FH.u hfu (Or.inl rfl)).tr r1) r2 r3)
          show _ = nI (updN (xW X) F.2.1 (xW X F.2.1 - y) j)
          by_cases e : j = F.2.1
          · subst e; rw [u_s, updN_s]
          · rw [u_n (by omega), updN_n e]; exact hI.1 j hj
        by_cases c4 : F.2.2.1 ≤ xW X F.2.1
        · simp (disch := first | assumption | with_unfolding_all exact hW.1 _ _ rfl | rfl | exact pu_okI (by first | assumption | with_unfolding_all exact hW.1 _ _ rfl) (by omega) (by omega) | exact pu_oqI (by first | assumption | with_unfolding_all exact hW.1 _ _ rfl) (by omega) (by omega) | omega | decide) only [↓reduceIte, ↓gi_b, ↓pi_b, ↓gr_b, ↓pr_b, ↓al_b, ↓as_b, ↓al_3, ↓as_3, ↓al_12, ↓as_12, ↓al_l, ↓as_l, ↓rc_b, ↓Option.bind_some, ↓zr0_b, ↓zr1_b, ↓zrb_b, ↓pz0_b, ↓pz1_b, al_b, as_b, rc_b, gi_b, pi_b, gr_b, zr0, zr1, zrb, u_s, u_n, v_s, v_n, ↓isIn_b, ite_T, ite_F, il_t, il_f, li_t, li_f, it_t, it_f, ti_t, ti_f, ie_t, ie_f, ei_t, ei_f, nn_le_t, nn_le_f, nn_lt_t, nn_lt_f, nn_eq_t, nn_eq_f, nI_1, nI_add, ni_addl, ni_ladd, pk_mul, ni_mull, b2_t, b2_f, b2_0, one0, m1_eq, ni_m1, reduceCtorEq, Bool.false_eq_true, nI_clamp, if_true, Option.some.injEq, Prod.mk.injEq, and_true, true_and, Nat.reduceAdd, Nat.reduceMul, Nat.reduceSub, Nat.reduceEqDiff, Nat.reduceLeDiff, Nat.reduceLT, c1, e0, eW, show ((3 : Int32) = 3) = True from eq_true rfl]
          have := fin F.2.2.1 (by omega)
          rw [c1] at this
          exact this
        · simp (disch := first | assumption | with_unfolding_all exact hW.1 _ _ rfl | rfl | exact pu_okI (by first | assumption | with_unfolding_all exact hW.1 _ _ rfl) (by omega) (by omega) | exact pu_oqI (by first | assumption | with_unfolding_all exact hW.1 _ _ rfl) (by omega) (by omega) | omega | decide) only [↓reduceIte, ↓gi_b, ↓pi_b, ↓gr_b, ↓pr_b, ↓al_b, ↓as_b, ↓al_3, ↓as_3, ↓al_12, ↓as_12, ↓al_l, ↓as_l, ↓rc_b, ↓Option.bind_some, ↓zr0_b, ↓zr1_b, ↓zrb_b, ↓pz0_b, ↓pz1_b, al_b, as_b, rc_b, gi_b, pi_b, gr_b, zr0, zr1, zrb, u_s, u_n, v_s, v_n, ↓isIn_b, ite_T, ite_F, il_t, il_f, li_t, li_f, it_t, it_f, ti_t, ti_f, ie_t, ie_f, ei_t, ei_f, nn_le_t, nn_le_f, nn_lt_t, nn_lt_f, nn_eq_t, nn_eq_f, nI_1, nI_add, ni_addl, ni_ladd, pk_mul, ni_mull, b2_t, b2_f, b2_0, one0, m1_eq, ni_m1, reduceCtorEq, Bool.false_eq_true, nI_clamp, if_true, Option.some.injEq, Prod.mk.injEq, and_true, true_and, Nat.reduceAdd, Nat.reduceMul, Nat.reduceSub, Nat.reduceEqDiff, Nat.reduceLeDiff, Nat.reduceLT, c1, e0, eW, show ((3 : Int32) = 3) = True from eq_true rfl]
          have := fin (xW X F.2.1) (by omega)
          rw [c1] at this
          exact this
      · have : (∀ j, j < kn K → xW (S_lk K F t X) j = xW X j) ∧ xle (S_lk K F t X) = xle X := by unfold S_lk; rw [if_neg c3]; exact ⟨fun _ _ => rfl, rfl⟩
        have m0 := main0 this.1 this.2
        rw [c1] at m0
        simp (disch := first | assumption | with_unfolding_all exact hW.1 _ _ rfl | rfl | exact pu_okI (by first | assumption | with_unfolding_all exact hW.1 _ _ rfl) (by omega) (by omega) | exact pu_oqI (by first | assumption | with_unfolding_all exact hW.1 _ _ rfl) (by omega) (by omega) | omega | decide) only [↓reduceIte, ↓gi_b, ↓pi_b, ↓gr_b, ↓pr_b, ↓al_b, ↓as_b, ↓al_3, ↓as_3, ↓al_12, ↓as_12, ↓al_l, ↓as_l, ↓rc_b, ↓Option.bind_some, ↓zr0_b, ↓zr1_b, ↓zrb_b, ↓pz0_b, ↓pz1_b, al_b, as_b, rc_b, gi_b, pi_b, gr_b, zr0, zr1, zrb, u_s, u_n, v_s, v_n, ↓isIn_b, ite_T, ite_F, il_t, il_f, li_t, li_f, it_t, it_f, ti_t, ti_f, ie_t, ie_f, ei_t, ei_f, nn_le_t, nn_le_f, nn_lt_t, nn_lt_f, nn_eq_t, nn_eq_f, nI_1, nI_add, ni_addl, ni_ladd, pk_mul, ni_mull, b2_t, b2_f, b2_0, one0, m1_eq, ni_m1, reduceCtorEq, Bool.false_eq_true, nI_clamp, if_true, Option.some.injEq, Prod.mk.injEq, and_true, true_and, Nat.reduceAdd, Nat.reduceMul, Nat.reduceSub, Nat.reduceEqDiff, Nat.reduceLeDiff, Nat.reduceLT, c1, e0]
        exact m0
    · rw [if_neg c2] at hv15
      subst hv15
      have := noleak (by unfold S_leak; rw [if_neg (fun q => c2 q.2)])
      have m0 := main0 this.1 this.2
      rw [c1] at m0
      simp (disch := first | assumption | with_unfolding_all exact hW.1 _ _ rfl | rfl | exact pu_okI (by first | assumption | with_unfolding_all exact hW.1 _ _ rfl) (by omega) (by omega) | exact pu_oqI (by first | assumption | with_unfolding_all exact hW.1 _ _ rfl) (by omega) (by omega) | omega | decide) only [↓reduceIte, ↓gi_b, ↓pi_b, ↓gr_b, ↓pr_b, ↓al_b, ↓as_b, ↓al_3, ↓as_3, ↓al_12, ↓as_12, ↓al_l, ↓as_l, ↓rc_b, ↓Option.bind_some, ↓zr0_b, ↓zr1_b, ↓zrb_b, ↓pz0_b, ↓pz1_b, al_b, as_b, rc_b, gi_b, pi_b, gr_b, zr0, zr1, zrb, u_s, u_n, v_s, v_n, ↓isIn_b, ite_T, ite_F, il_t, il_f, li_t, li_f, it_t, it_f, ti_t, ti_f, ie_t, ie_f, ei_t, ei_f, nn_le_t, nn_le_f, nn_lt_t, nn_lt_f, nn_eq_t, nn_eq_f, nI_1, nI_add, ni_addl, ni_ladd, pk_mul, ni_mull, b2_t, b2_f, b2_0, one0, m1_eq, ni_m1, reduceCtorEq, Bool.false_eq_true, nI_clamp, if_true, Option.some.injEq, Prod.mk.injEq, and_true, true_and, Nat.reduceAdd, Nat.reduceMul, Nat.reduceSub, Nat.reduceEqDiff, Nat.reduceLeDiff, Nat.reduceLT, c1]
      exact m0
  · have := noleak (by unfold S_leak; rw [if_neg (fun q => c1 q.1)])
    have m0 := main0 this.1 this.2
    simp (disch := first | assumption | with_unfolding_all exact hW.1 _ _ rfl | rfl | exact pu_okI (by first | assumption | with_unfolding_all exact hW.1 _ _ rfl) (by omega) (by omega) | exact pu_oqI (by first | assumption | with_unfolding_all exact hW.1 _ _ rfl) (by omega) (by omega) | omega | decide) only [↓reduceIte, ↓gi_b, ↓pi_b, ↓gr_b, ↓pr_b, ↓al_b, ↓as_b, ↓al_3, ↓as_3, ↓al_12, ↓as_12, ↓al_l, ↓as_l, ↓rc_b, ↓Option.bind_some, ↓zr0_b, ↓zr1_b, ↓zrb_b, ↓pz0_b, ↓pz1_b, al_b, as_b, rc_b, gi_b, pi_b, gr_b, zr0, zr1, zrb, u_s, u_n, v_s, v_n, ↓isIn_b, ite_T, ite_F, il_t, il_f, li_t, li_f, it_t, it_f, ti_t, ti_f, ie_t, ie_f, ei_t, ei_f, nn_le_t, nn_le_f, nn_lt_t, nn_lt_f, nn_eq_t, nn_eq_f, nI_1, nI_add, ni_addl, ni_ladd, pk_mul, ni_mull, b2_t, b2_f, b2_0, one0, m1_eq, ni_m1, reduceCtorEq, Bool.false_eq_true, nI_clamp, if_true, Option.some.injEq, Prod.mk.injEq, and_true, true_and, Nat.reduceAdd, Nat.reduceMul, Nat.reduceSub, Nat.reduceEqDiff, Nat.reduceLeDiff, Nat.reduceLT]
    exact m0
end LR
