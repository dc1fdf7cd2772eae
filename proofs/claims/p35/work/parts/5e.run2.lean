/-! the law's own run: a vessel, a tick, the whole -/
abbrev LRv : Type := Option Nat → Int32 → Int32 → Int32 → Int32 → Int32 → Int32 → Option Nat → Option Nat → Int32 → Int32 → Int32 → Int32 → Int32 → Int32 → Int32 → Int32 → Int32 → am_H → Option am_H
section LR
variable {s : Nat → Option pu_S} {I : Nat → Nat → Int32} {P : Nat → Nat → Option Nat} {J : Nat → Nat → Int64} {n : Nat × Nat}
variable {H ao : Nat} {K : S_K} {F : S_F} {w t : Nat}
set_option maxHeartbeats 4000000 in
set_option maxRecDepth 100000 in
/-- what goes out -/
theorem l_326 (h0 : LR0 s H ao) {v1 v2 v3 v4 v5 v6 v9 v10 v11 v12 v13 v14 v15 : Int32} {k held p q : Nat} (hk3 : k < 3) (eH : I H k = nI held) (hh : held ≤ 1800) (hb : p * q < 1000000000) {k128 : LRv} {Q : am_H → Prop} (kk : Rn (k128 (some 40) v1 v2 v3 v4 v5 v6 (some ao) (some H) v9 v10 v11 v12 v13 v14 v15 (nI (min held (p * q / 1000))) (nI (k + 1)) (pu_hp s (pu_u I H k (nI (held - min held (p * q / 1000)))) P J n)) Q) : Rn (fL_run_326 k128 (some 40) v1 v2 v3 v4 v5 v6 (some ao) (some H) v9 v10 v11 v12 v13 v14 v15 (nI k) (nI p) (nI q) (pu_hp s I P J n)) Q := by
  obtain ⟨h40, hO, hH, d1, d2, d3⟩ := h0
  have hq : p * q / 1000 ≤ p * q := Nat.div_le_self _ _
  unfold fL_run_326 fL_run_353
  by_cases c : p * q / 1000 ≤ held
  · rw [Nat.min_eq_right c] at kk
    simp (disch := first | assumption | with_unfolding_all exact hW.1 _ _ rfl | rfl | exact pu_okI (by first | assumption | with_unfolding_all exact hW.1 _ _ rfl) (by omega) (by omega) | exact pu_oqI (by first | assumption | with_unfolding_all exact hW.1 _ _ rfl) (by omega) (by omega) | omega | decide) only [↓reduceIte, ↓gi_b, ↓pi_b, ↓gr_b, ↓pr_b, ↓al_b, ↓as_b, ↓al_3, ↓as_3, ↓al_12, ↓as_12, ↓al_l, ↓as_l, ↓rc_b, ↓Option.bind_some, ↓zr0_b, ↓zr1_b, ↓zrb_b, ↓pz0_b, ↓pz1_b, al_b, as_b, rc_b, gi_b, pi_b, gr_b, zr0, zr1, zrb, u_s, u_n, v_s, v_n, ↓isIn_b, ite_T, ite_F, il_t, il_f, li_t, li_f, it_t, it_f, ti_t, ti_f, ie_t, ie_f, ei_t, ei_f, nn_le_t, nn_le_f, nn_lt_t, nn_lt_f, nn_eq_t, nn_eq_f, nI_1, nI_add, ni_addl, ni_ladd, pk_mul, ni_mull, b2_t, b2_f, b2_0, one0, m1_eq, ni_m1, reduceCtorEq, Bool.false_eq_true, nI_clamp, if_true, Option.some.injEq, Prod.mk.injEq, and_true, true_and, Nat.reduceAdd, Nat.reduceMul, Nat.reduceSub, Nat.reduceEqDiff, Nat.reduceLeDiff, Nat.reduceLT, eH, lit_ne0, ni_divl, ni_sub]
    exact kk
  · rw [Nat.min_eq_left (by omega)] at kk
    simp (disch := first | assumption | with_unfolding_all exact hW.1 _ _ rfl | rfl | exact pu_okI (by first | assumption | with_unfolding_all exact hW.1 _ _ rfl) (by omega) (by omega) | exact pu_oqI (by first | assumption | with_unfolding_all exact hW.1 _ _ rfl) (by omega) (by omega) | omega | decide) only [↓reduceIte, ↓gi_b, ↓pi_b, ↓gr_b, ↓pr_b, ↓al_b, ↓as_b, ↓al_3, ↓as_3, ↓al_12, ↓as_12, ↓al_l, ↓as_l, ↓rc_b, ↓Option.bind_some, ↓zr0_b, ↓zr1_b, ↓zrb_b, ↓pz0_b, ↓pz1_b, al_b, as_b, rc_b, gi_b, pi_b, gr_b, zr0, zr1, zrb, u_s, u_n, v_s, v_n, ↓isIn_b, ite_T, ite_F, il_t, il_f, li_t, li_f, it_t, it_f, ti_t, ti_f, ie_t, ie_f, ei_t, ei_f, nn_le_t, nn_le_f, nn_lt_t, nn_lt_f, nn_eq_t, nn_eq_f, nI_1, nI_add, ni_addl, ni_ladd, pk_mul, ni_mull, b2_t, b2_f, b2_0, one0, m1_eq, ni_m1, reduceCtorEq, Bool.false_eq_true, nI_clamp, if_true, Option.some.injEq, Prod.mk.injEq, and_true, true_and, Nat.reduceAdd, Nat.reduceMul, Nat.reduceSub, Nat.reduceEqDiff, Nat.reduceLeDiff, Nat.reduceLT, eH, lit_ne0, ni_divl, ni_sub]
    exact kk
set_option maxHeartbeats 4000000 in
set_option maxRecDepth 100000 in
theorem l_289 (h0 : LR0 s H ao) (hK : S_KB K) (hF : S_FB F) (hw : 50 ≤ w ∧ w ≤ 150) {v6 v9 v10 v11 v12 v13 v14 v15 : Int32} (hv15 : v15 = if F.2.2.2 ≤ t then 1 else 0) {k held hole : Nat} (hk : k < kn K) (eH : I H k = nI held) (hh : held ≤ 1800) (hho : hole ≤ 220) (hLK : LK I K) {k128 : LRv} {Q : am_H → Prop} (kk : Rn (k128 (some 40) (nI w) (nI F.1) (nI F.2.1) (nI F.2.2.1) (nI F.2.2.2) v6 (some ao) (some H) v9 v10 v11 v12 v13 v14 v15 (nI (min held (hole * (held / kA K k) * S_warm F w t / 1000))) (nI (k + 1)) (pu_hp s (pu_u I H k (nI (held - min held (hole * (held / kA K k) * S_warm F w t / 1000)))) P J n)) Q) : Rn (fL_run_289 k128 (some 40) (nI w) (nI F.1) (nI F.2.1) (nI F.2.2.1) (nI F.2.2.2) v6 (some ao) (some H) v9 v10 v11 v12 v13 v14 v15 (nI k) (nI hole) (pu_hp s I P J n)) Q := by
  have h00 := h0
  obtain ⟨h40, hO, hH, d1, d2, d3⟩ := h0
  have hkn := hK.1
  obtain ⟨⟨a1, a2⟩, -, -⟩ := hK.2.1 k hk
  obtain ⟨f1, f2, f3, f4⟩ := id hF
  have eA := (hLK.2.2.2.2.2.1 k hk).1
  have hdiv : held / kA K k ≤ held := Nat.div_le_self _ _
  have hb1 : hole * (held / kA K k) ≤ 220 * 1800 := Nat.mul_le_mul hho (by omega)
  have fin : ∀ wm, wm = S_warm F w t → Rn (fL_run_326 k128 (some 40) (nI w) (nI F.1) (nI F.2.1) (nI F.2.2.1) (nI F.2.2.2) v6 (some ao) (some H) v9 v10 v11 v12 v13 v14 v15 (nI k) (nI (hole * (held / kA K k))) (nI wm) (pu_hp s I P J n)) Q := by
    intro wm hwm
    have hwb : wm ≤ 150 := by rw [hwm]; exact S_warm_le hw.2
    have hb2 : hole * (held / kA K k) * wm ≤ 220 * 1800 * 150 := Nat.mul_le_mul hb1 hwb
    subst hwm
    exact l_326 h00 (by omega) eH hh (by omega) kk
  unfold fL_run_289 fL_run_325
  by_cases c1 : F.1 = 4
  · by_cases c2 : F.2.2.2 ≤ t
    · rw [if_pos c2] at hv15
      subst hv15
      have f := fin (w - F.2.2.1) (by unfold S_warm; rw [if_pos ⟨c1, c2⟩])
      rw [c1] at f
      simp (disch := first | assumption | with_unfolding_all exact hW.1 _ _ rfl | rfl | exact pu_okI (by first | assumption | with_unfolding_all exact hW.1 _ _ rfl) (by omega) (by omega) | exact pu_oqI (by first | assumption | with_unfolding_all exact hW.1 _ _ rfl) (by omega) (by omega) | omega | decide) only [↓reduceIte, ↓gi_b, ↓pi_b, ↓gr_b, ↓pr_b, ↓al_b, ↓as_b, ↓al_3, ↓as_3, ↓al_12, ↓as_12, ↓al_l, ↓as_l, ↓rc_b, ↓Option.bind_some, ↓zr0_b, ↓zr1_b, ↓zrb_b, ↓pz0_b, ↓pz1_b, al_b, as_b, rc_b, gi_b, pi_b, gr_b, zr0, zr1, zrb, u_s, u_n, v_s, v_n, ↓isIn_b, ite_T, ite_F, il_t, il_f, li_t, li_f, it_t, it_f, ti_t, ti_f, ie_t, ie_f, ei_t, ei_f, nn_le_t, nn_le_f, nn_lt_t, nn_lt_f, nn_eq_t, nn_eq_f, nI_1, nI_add, ni_addl, ni_ladd, pk_mul, ni_mull, b2_t, b2_f, b2_0, one0, m1_eq, ni_m1, reduceCtorEq, Bool.false_eq_true, nI_clamp, if_true, Option.some.injEq, Prod.mk.injEq, and_true, true_and, Nat.reduceAdd, Nat.reduceMul, Nat.reduceSub, Nat.reduceEqDiff, Nat.reduceLeDiff, Nat.reduceLT, eH, eA, ni_divn, c1, ni_sub]
      exact f
    · rw [if_neg c2] at hv15
      subst hv15
      have f := fin w (by unfold S_warm; rw [if_neg (fun q => c2 q.2)])
      rw [c1] at f
      simp (disch := first | assumption | with_unfolding_all exact hW.1 _ _ rfl | rfl | exact pu_okI (by first | assumption | with_unfolding_all exact hW.1 _ _ rfl) (by omega) (by omega) | exact pu_oqI (by first | assumption | with_unfolding_all exact hW.1 _ _ rfl) (by omega) (by omega) | omega | decide) only [↓reduceIte, ↓gi_b, ↓pi_b, ↓gr_b, ↓pr_b, ↓al_b, ↓as_b, ↓al_3, ↓as_3, ↓al_12, ↓as_12, ↓al_l, ↓as_l, ↓rc_b, ↓Option.bind_some, ↓zr0_b, ↓zr1_b, ↓zrb_b, ↓pz0_b, ↓pz1_b, al_b, as_b, rc_b, gi_b, pi_b, gr_b, zr0, zr1, zrb, u_s, u_n, v_s, v_n, ↓isIn_b, ite_T, ite_F, il_t, il_f, li_t, li_f, it_t, it_f, ti_t, ti_f, ie_t, ie_f, ei_t, ei_f, nn_le_t, nn_le_f, nn_lt_t, nn_lt_f, nn_eq_t, nn_eq_f, nI_1, nI_add, ni_addl, ni_ladd, pk_mul, ni_mull, b2_t, b2_f, b2_0, one0, m1_eq, ni_m1, reduceCtorEq, Bool.false_eq_true, nI_clamp, if_true, Option.some.injEq, Prod.mk.injEq, and_true, true_and, Nat.reduceAdd, Nat.reduceMul, Nat.reduceSub, Nat.reduceEqDiff, Nat.reduceLeDiff, Nat.reduceLT, eH, eA, ni_divn, c1]
      exact f
  · have f := fin w (by unfold S_warm; rw [if_neg (fun q => c1 q.1)])
    simp (disch := first | assumption | with_unfolding_all exact hW.1 _ _ rfl | rfl | exact pu_okI (by first | assumption | with_unfolding_all exact hW.1 _ _ rfl) (by omega) (by omega) | exact pu_oqI (by first | assumption | with_unfolding_all exact hW.1 _ _ rfl) (by omega) (by omega) | omega | decide) only [↓reduceIte, ↓gi_b, ↓pi_b, ↓gr_b, ↓pr_b, ↓al_b, ↓as_b, ↓al_3, ↓as_3, ↓al_12, ↓as_12, ↓al_l, ↓as_l, ↓rc_b, ↓Option.bind_some, ↓zr0_b, ↓zr1_b, ↓zrb_b, ↓pz0_b, ↓pz1_b, al_b, as_b, rc_b, gi_b, pi_b, gr_b, zr0, zr1, zrb, u_s, u_n, v_s, v_n, ↓isIn_b, ite_T, ite_F, il_t, il_f, li_t, li_f, it_t, it_f, ti_t, ti_f, ie_t, ie_f, ei_t, ei_f, nn_le_t, nn_le_f, nn_lt_t, nn_lt_f, nn_eq_t, nn_eq_f, nI_1, nI_add, ni_addl, ni_ladd, pk_mul, ni_mull, b2_t, b2_f, b2_0, one0, m1_eq, ni_m1, reduceCtorEq, Bool.false_eq_true, nI_clamp, if_true, Option.some.injEq, Prod.mk.injEq, and_true, true_and, Nat.reduceAdd, Nat.reduceMul, Nat.reduceSub, Nat.reduceEqDiff, Nat.reduceLeDiff, Nat.reduceLT, eH, eA, ni_divn]
    exact f
set_option maxHeartbeats 4000000 in
set_option maxRecDepth 100000 in
theorem l_217 (h0 : LR0 s H ao) (hK : S_KB K) (hF : S_FB F) (hw : 50 ≤ w ∧ w ≤ 150) {v6 v9 v10 v11 v12 v13 v14 v15 : Int32} (hv15 : v15 = if F.2.2.2 ≤ t then 1 else 0) {k held : Nat} (hk : k < kn K) (hh : held ≤ 1800) (hLK : LK I K) {k128 : LRv} {Q : am_H → Prop} (kk : Rn (k128 (some 40) (nI w) (nI F.1) (nI F.2.1) (nI F.2.2.1) (nI F.2.2.2) v6 (some ao) (some H) v9 v10 v11 v12 v13 v14 v15 (nI (S_out K F w t k held)) (nI (k + 1)) (pu_hp s (pu_u (pu_u I H k (nI held)) H k (nI (held - S_out K F w t k held))) P J n)) Q) : Rn (fL_run_217 k128 (some 40) (nI w) (nI F.1) (nI F.2.1) (nI F.2.2.1) (nI F.2.2.2) v6 (some ao) (some H) v9 v10 v11 v12 v13 v14 v15 (nI k) (some H) (nI k) (nI held) (pu_hp s I P J n)) Q := by
  have h00 := h0
  obtain ⟨h40, hO, hH, d1, d2, d3⟩ := h0
  have hkn := hK.1
  obtain ⟨-, -, hO1⟩ := hK.2.1 k hk
  obtain ⟨f1, f2, f3, f4⟩ := id hF
  have hLK' : LK (pu_u I H k (nI held)) K := hLK.fr fun j => u_n (by omega)
  have eO : I 40 (7 + 3 * k) = nI (kO K k) := (hLK.2.2.2.2.2.1 k hk).2.2
  have fin : ∀ ho, ho = S_hole F (kO K k) k t → Rn (fL_run_289 k128 (some 40) (nI w) (nI F.1) (nI F.2.1) (nI F.2.2.1) (nI F.2.2.2) v6 (some ao) (some H) v9 v10 v11 v12 v13 v14 v15 (nI k) (nI ho) (pu_hp s (pu_u I H k (nI held)) P J n)) Q := by
    intro ho he
    have hb : ho ≤ 220 := by rw [he]; exact S_hole_le hF hO1
    subst he
    exact l_289 h00 hK hF hw hv15 hk u_s hh hb hLK' kk
  have fin0 : S_hole F (kO K k) k t = kO K k → Rn (fL_run_275 k128 (some 40) (nI w) (nI F.1) (nI F.2.1) (nI F.2.2.1) (nI F.2.2.2) v6 (some ao) (some H) v9 v10 v11 v12 v13 v14 v15 (nI k) (nI (kO K k)) (0 : Int32) (pu_hp s (pu_u I H k (nI held)) P J n)) Q := by
    intro e
    unfold fL_run_275
    rw [show nI (kO K k) + 0 = nI (kO K k) from nI_add _ 0, if_pos (nI_pos' (by omega))]
    exact fin _ e.symm
  unfold fL_run_217 fL_run_253 fL_run_274
  by_cases c2 : F.2.2.2 ≤ t
  · rw [if_pos c2] at hv15
    subst hv15
    by_cases c3 : F.2.1 = k
    · by_cases c1 : F.1 = 1
      · have es : S_hole F (kO K k) k t = kO K k - F.2.2.1 := by unfold S_hole; rw [if_pos ⟨c3, c2⟩, if_pos c1]
        have f : Rn (fL_run_275 k128 (some 40) (nI w) (nI F.1) (nI F.2.1) (nI F.2.2.1) (nI F.2.2.2) v6 (some ao) (some H) v9 v10 v11 v12 v13 v14 (1 : Int32) (nI k) (nI (kO K k)) (-(nI F.2.2.1)) (pu_hp s (pu_u I H k (nI held)) P J n)) Q := by
          unfold fL_run_275
          rw [add_neg32]
          by_cases c4 : F.2.2.1 ≤ kO K k
          · rw [if_pos (by rw [zle (by omega) (by omega)]; exact c4), pk_sub c4]; exact fin _ es.symm
          · rw [if_neg (by rw [zle (by omega) (by omega)]; exact c4)]
            have := fin 0 (by omega)
            exact this
        rw [c1] at f
        rw [c3] at f ⊢
        simp (disch := first | assumption | with_unfolding_all exact hW.1 _ _ rfl | rfl | exact pu_okI (by first | assumption | with_unfolding_all exact hW.1 _ _ rfl) (by omega) (by omega) | exact pu_oqI (by first | assumption | with_unfolding_all exact hW.1 _ _ rfl) (by omega) (by omega) | omega | decide) only [↓reduceIte, ↓gi_b, ↓pi_b, ↓gr_b, ↓pr_b, ↓al_b, ↓as_b, ↓al_3, ↓as_3, ↓al_12, ↓as_12, ↓al_l, ↓as_l, ↓rc_b, ↓Option.bind_some, ↓zr0_b, ↓zr1_b, ↓zrb_b, ↓pz0_b, ↓pz1_b, al_b, as_b, rc_b, gi_b, pi_b, gr_b, zr0, zr1, zrb, u_s, u_n, v_s, v_n, ↓isIn_b, ite_T, ite_F, il_t, il_f, li_t, li_f, it_t, it_f, ti_t, ti_f, ie_t, ie_f, ei_t, ei_f, nn_le_t, nn_le_f, nn_lt_t, nn_lt_f, nn_eq_t, nn_eq_f, nI_1, nI_add, ni_addl, ni_ladd, pk_mul, ni_mull, b2_t, b2_f, b2_0, one0, m1_eq, ni_m1, reduceCtorEq, Bool.false_eq_true, nI_clamp, if_true, Option.some.injEq, Prod.mk.injEq, and_true, true_and, Nat.reduceAdd, Nat.reduceMul, Nat.reduceSub, Nat.reduceEqDiff, Nat.reduceLeDiff, Nat.reduceLT, eO, c1, c3]
        exact f
      · by_cases c5 : F.1 = 2
        · have es : S_hole F (kO K k) k t = kO K k + F.2.2.1 := by unfold S_hole; rw [if_pos ⟨c3, c2⟩, if_neg c1, if_pos c5]
          have f : Rn (fL_run_275 k128 (some 40) (nI w) (nI F.1) (nI F.2.1) (nI F.2.2.1) (nI F.2.2.2) v6 (some ao) (some H) v9 v10 v11 v12 v13 v14 (1 : Int32) (nI k) (nI (kO K k)) (nI F.2.2.1) (pu_hp s (pu_u I H k (nI held)) P J n)) Q := by
            unfold fL_run_275
            rw [nI_add, if_pos (nI_pos' (by omega))]
            exact fin _ es.symm
          rw [c5] at f
          rw [c3] at f ⊢
          simp (disch := first | assumption | with_unfolding_all exact hW.1 _ _ rfl | rfl | exact pu_okI (by first | assumption | with_unfolding_all exact hW.1 _ _ rfl) (by omega) (by omega) | exact pu_oqI (by first | assumption | with_unfolding_all exact hW.1 _ _ rfl) (by omega) (by omega) | omega | decide) only [↓reduceIte, ↓gi_b, ↓pi_b, ↓gr_b, ↓pr_b, ↓al_b, ↓as_b, ↓al_3, ↓as_3, ↓al_12, ↓as_12, ↓al_l, ↓as_l, ↓rc_b, ↓Option.bind_some, ↓zr0_b, ↓zr1_b, ↓zrb_b, ↓pz0_b, ↓pz1_b, al_b, as_b, rc_b, gi_b, pi_b, gr_b, zr0, zr1, zrb, u_s, u_n, v_s, v_n, ↓isIn_b, ite_T, ite_F, il_t, il_f, li_t, li_f, it_t, it_f, ti_t, ti_f, ie_t, ie_f, ei_t, ei_f, nn_le_t, nn_le_f, nn_lt_t, nn_lt_f, nn_eq_t, nn_eq_f, nI_1, nI_add, ni_addl, ni_ladd, pk_mul, ni_mull, b2_t, b2_f, b2_0, one0, m1_eq, ni_m1, reduceCtorEq, Bool.false_eq_true, nI_clamp, if_true, Option.some.injEq, Prod.mk.injEq, and_true, true_and, Nat.reduceAdd, Nat.reduceMul, Nat.reduceSub, Nat.reduceEqDiff, Nat.reduceLeDiff, Nat.reduceLT, eO, c5, c3]
          exact f
        · have f := fin0 (by unfold S_hole; rw [if_pos ⟨c3, c2⟩, if_neg c1, if_neg c5])
          simp (disch := first | assumption | with_unfolding_all exact hW.1 _ _ rfl | rfl | exact pu_okI (by first | assumption | with_unfolding_all exact hW.1 _ _ rfl) (by omega) (by omega) | exact pu_oqI (by first | assumption | with_unfolding_all exact hW.1 _ _ rfl) (by omega) (by omega) | omega | decide) only [↓reduceIte, ↓gi_b, ↓pi_b, ↓gr_b, ↓pr_b, ↓al_b, ↓as_b, ↓al_3, ↓as_3, ↓al_12, ↓as_12, ↓al_l, ↓as_l, ↓rc_b, ↓Option.bind_some, ↓zr0_b, ↓zr1_b, ↓zrb_b, ↓pz0_b, ↓pz1_b, al_b, as_b, rc_b, gi_b, pi_b, gr_b, zr0, zr1, zrb, u_s, u_n, v_s, v_n, ↓isIn_b, ite_T, ite_F, il_t, il_f, li_t, li_f, it_t, it_f, ti_t, ti_f, ie_t, ie_f, ei_t, ei_f, nn_le_t, nn_le_f, nn_lt_t, nn_lt_f, nn_eq_t, nn_eq_f, nI_1, nI_add, ni_addl, ni_ladd, pk_mul, ni_mull, b2_t, b2_f, b2_0, one0, m1_eq, ni_m1, reduceCtorEq, Bool.false_eq_true, nI_clamp, if_true, Option.some.injEq, Prod.mk.injEq, and_true, true_and, Nat.reduceAdd, Nat.reduceMul, Nat.reduceSub, Nat.reduceEqDiff, Nat.reduceLeDiff, Nat.reduceLT, eO]
          exact f
    · have f := fin0 (by unfold S_hole; rw [if_neg (fun q => c3 q.1)])
      have c3' : (nI k = nI F.2.1) = False := nn_eq_f (fun q => c3 q.symm) (by omega) (by omega)
      by_cases c1 : F.1 = 1
      · rw [c1] at f
        simp (disch := first | assumption | with_unfolding_all exact hW.1 _ _ rfl | rfl | exact pu_okI (by first | assumption | with_unfolding_all exact hW.1 _ _ rfl) (by omega) (by omega) | exact pu_oqI (by first | assumption | with_unfolding_all exact hW.1 _ _ rfl) (by omega) (by omega) | omega | decide) only [↓reduceIte, ↓gi_b, ↓pi_b, ↓gr_b, ↓pr_b, ↓al_b, ↓as_b, ↓al_3, ↓as_3, ↓al_12, ↓as_12, ↓al_l, ↓as_l, ↓rc_b, ↓Option.bind_some, ↓zr0_b, ↓zr1_b, ↓zrb_b, ↓pz0_b, ↓pz1_b, al_b, as_b, rc_b, gi_b, pi_b, gr_b, zr0, zr1, zrb, u_s, u_n, v_s, v_n, ↓isIn_b, ite_T, ite_F, il_t, il_f, li_t, li_f, it_t, it_f, ti_t, ti_f, ie_t, ie_f, ei_t, ei_f, nn_le_t, nn_le_f, nn_lt_t, nn_lt_f, nn_eq_t, nn_eq_f, nI_1, nI_add, ni_addl, ni_ladd, pk_mul, ni_mull, b2_t, b2_f, b2_0, one0, m1_eq, ni_m1, reduceCtorEq, Bool.false_eq_true, nI_clamp, if_true, Option.some.injEq, Prod.mk.injEq, and_true, true_and, Nat.reduceAdd, Nat.reduceMul, Nat.reduceSub, Nat.reduceEqDiff, Nat.reduceLeDiff, Nat.reduceLT, eO, c1, c3']
        exact f
      · by_cases c5 : F.1 = 2
        · rw [c5] at f
          simp (disch := first | assumption | with_unfolding_all exact hW.1 _ _ rfl | rfl | exact pu_okI (by first | assumption | with_unfolding_all exact hW.1 _ _ rfl) (by omega) (by omega) | exact pu_oqI (by first | assumption | with_unfolding_all exact hW.1 _ _ rfl) (by omega) (by omega) | omega | decide) only [↓reduceIte, ↓gi_b, ↓pi_b, ↓gr_b, ↓pr_b, ↓al_b, ↓as_b, ↓al_3, ↓as_3, ↓al_12, ↓as_12, ↓al_l, ↓as_l, ↓rc_b, ↓Option.bind_some, ↓zr0_b, ↓zr1_b, ↓zrb_b, ↓pz0_b, ↓pz1_b, al_b, as_b, rc_b, gi_b, pi_b, gr_b, zr0, zr1, zrb, u_s, u_n, v_s, v_n, ↓isIn_b, ite_T, ite_F, il_t, il_f, li_t, li_f, it_t, it_f, ti_t, ti_f, ie_t, ie_f, ei_t, ei_f, nn_le_t, nn_le_f, nn_lt_t, nn_lt_f, nn_eq_t, nn_eq_f, nI_1, nI_add, ni_addl, ni_ladd, pk_mul, ni_mull, b2_t, b2_f, b2_0, one0, m1_eq, ni_m1, reduceCtorEq, Bool.false_eq_true, nI_clamp, if_true, Option.some.injEq, Prod.mk.injEq, and_true, true_and, Nat.reduceAdd, Nat.reduceMul, Nat.reduceSub, Nat.reduceEqDiff, Nat.reduceLeDiff, Nat.reduceLT, eO, c5, c3']
          exact f
        · simp (disch := first | assumption | with_unfolding_all exact hW.1 _ _ rfl | rfl | exact pu_okI (by first | assumption | with_unfolding_all exact hW.1 _ _ rfl) (by omega) (by omega) | exact pu_oqI (by first | assumption | with_unfolding_all exact hW.1 _ _ rfl) (by omega) (by omega) | omega | decide) only [↓reduceIte, ↓gi_b, ↓pi_b, ↓gr_b, ↓pr_b, ↓al_b, ↓as_b, ↓al_3, ↓as_3, ↓al_12, ↓as_12, ↓al_l, ↓as_l, ↓rc_b, ↓Option.bind_some, ↓zr0_b, ↓zr1_b, ↓zrb_b, ↓pz0_b, ↓pz1_b, al_b, as_b, rc_b, gi_b, pi_b, gr_b, zr0, zr1, zrb, u_s, u_n, v_s, v_n, ↓isIn_b, ite_T, ite_F, il_t, il_f, li_t, li_f, it_t, it_f, ti_t, ti_f, ie_t, ie_f, ei_t, ei_f, nn_le_t, nn_le_f, nn_lt_t, nn_lt_f, nn_eq_t, nn_eq_f, nI_1, nI_add, ni_addl, ni_ladd, pk_mul, ni_mull, b2_t, b2_f, b2_0, one0, m1_eq, ni_m1, reduceCtorEq, Bool.false_eq_true, nI_clamp, if_true, Option.some.injEq, Prod.mk.injEq, and_true, true_and, Nat.reduceAdd, Nat.reduceMul, Nat.reduceSub, Nat.reduceEqDiff, Nat.reduceLeDiff, Nat.reduceLT, eO]
          exact f
  · rw [if_neg c2] at hv15
    subst hv15
    have f := fin0 (by unfold S_hole; rw [if_neg (fun q => c2 q.2)])
    by_cases c1 : F.1 = 1
    · rw [c1] at f
      simp (disch := first | assumption | with_unfolding_all exact hW.1 _ _ rfl | rfl | exact pu_okI (by first | assumption | with_unfolding_all exact hW.1 _ _ rfl) (by omega) (by omega) | exact pu_oqI (by first | assumption | with_unfolding_all exact hW.1 _ _ rfl) (by omega) (by omega) | omega | decide) only [↓reduceIte, ↓gi_b, ↓pi_b, ↓gr_b, ↓pr_b, ↓al_b, ↓as_b, ↓al_3, ↓as_3, ↓al_12, ↓as_12, ↓al_l, ↓as_l, ↓rc_b, ↓Option.bind_some, ↓zr0_b, ↓zr1_b, ↓zrb_b, ↓pz0_b, ↓pz1_b, al_b, as_b, rc_b, gi_b, pi_b, gr_b, zr0, zr1, zrb, u_s, u_n, v_s, v_n, ↓isIn_b, ite_T, ite_F, il_t, il_f, li_t, li_f, it_t, it_f, ti_t, ti_f, ie_t, ie_f, ei_t, ei_f, nn_le_t, nn_le_f, nn_lt_t, nn_lt_f, nn_eq_t, nn_eq_f, nI_1, nI_add, ni_addl, ni_ladd, pk_mul, ni_mull, b2_t, b2_f, b2_0, one0, m1_eq, ni_m1, reduceCtorEq, Bool.false_eq_true, nI_clamp, if_true, Option.some.injEq, Prod.mk.injEq, and_true, true_and, Nat.reduceAdd, Nat.reduceMul, Nat.reduceSub, Nat.reduceEqDiff, Nat.reduceLeDiff, Nat.reduceLT, eO, c1]
      exact f
    · by_cases c5 : F.1 = 2
      · rw [c5] at f
        simp (disch := first | assumption | with_unfolding_all exact hW.1 _ _ rfl | rfl | exact pu_okI (by first | assumption | with_unfolding_all exact hW.1 _ _ rfl) (by omega) (by omega) | exact pu_oqI (by first | assumption | with_unfolding_all exact hW.1 _ _ rfl) (by omega) (by omega) | omega | decide) only [↓reduceIte, ↓gi_b, ↓pi_b, ↓gr_b, ↓pr_b, ↓al_b, ↓as_b, ↓al_3, ↓as_3, ↓al_12, ↓as_12, ↓al_l, ↓as_l, ↓rc_b, ↓Option.bind_some, ↓zr0_b, ↓zr1_b, ↓zrb_b, ↓pz0_b, ↓pz1_b, al_b, as_b, rc_b, gi_b, pi_b, gr_b, zr0, zr1, zrb, u_s, u_n, v_s, v_n, ↓isIn_b, ite_T, ite_F, il_t, il_f, li_t, li_f, it_t, it_f, ti_t, ti_f, ie_t, ie_f, ei_t, ei_f, nn_le_t, nn_le_f, nn_lt_t, nn_lt_f, nn_eq_t, nn_eq_f, nI_1, nI_add, ni_addl, ni_ladd, pk_mul, ni_mull, b2_t, b2_f, b2_0, one0, m1_eq, ni_m1, reduceCtorEq, Bool.false_eq_true, nI_clamp, if_true, Option.some.injEq, Prod.mk.injEq, and_true, true_and, Nat.reduceAdd, Nat.reduceMul, Nat.reduceSub, Nat.reduceEqDiff, Nat.reduceLeDiff, Nat.reduceLT, eO, c5]
        exact f
      · simp (disch := first | assumption | with_unfolding_all exact hW.1 _ _ rfl | rfl | exact pu_okI (by first | assumption | with_unfolding_all exact hW.1 _ _ rfl) (by omega) (by omega) | exact pu_oqI (by first | assumption | with_unfolding_all exact hW.1 _ _ rfl) (by omega) (by omega) | omega | decide) only [↓reduceIte, ↓gi_b, ↓pi_b, ↓gr_b, ↓pr_b, ↓al_b, ↓as_b, ↓al_3, ↓as_3, ↓al_12, ↓as_12, ↓al_l, ↓as_l, ↓rc_b, ↓Option.bind_some, ↓zr0_b, ↓zr1_b, ↓zrb_b, ↓pz0_b, ↓pz1_b, al_b, as_b, rc_b, gi_b, pi_b, gr_b, zr0, zr1, zrb, u_s, u_n, v_s, v_n, ↓isIn_b, ite_T, ite_F, il_t, il_f, li_t, li_f, it_t, it_f, ti_t, ti_f, ie_t, ie_f, ei_t, ei_f, nn_le_t, nn_le_f, nn_lt_t, nn_lt_f, nn_eq_t, nn_eq_f, nI_1, nI_add, ni_addl, ni_ladd, pk_mul, ni_mull, b2_t, b2_f, b2_0, one0, m1_eq, ni_m1, reduceCtorEq, Bool.false_eq_true, nI_clamp, if_true, Option.some.injEq, Prod.mk.injEq, and_true, true_and, Nat.reduceAdd, Nat.reduceMul, Nat.reduceSub, Nat.reduceEqDiff, Nat.reduceLeDiff, Nat.reduceLT, eO]
        exact f
set_option maxHeartbeats 4000000 in
set_option maxRecDepth 100000 in
/-- the vessels of a tick, then what comes into the cylinder -/
theorem l_128 (h0 : LR0 s H ao) (hK : S_KB K) (hF : S_FB F) (hw : 50 ≤ w ∧ w ≤ 150) {v6 v10 v12 v13 v15 : Int32} {cy li mo : Nat} (ht : t ≤ 95) (hv15 : v15 = if F.2.2.2 ≤ t then 1 else 0) (hcy : cy < 1000000) (hli : li ≤ 1000000) (hmo : mo < 1000000) {k99 : LRk} {Q : am_H → Prop} : ∀ (m k N fl ov : Nat) (W : Nat → Nat) (I : Nat → Nat → Int32), k + m = kn K → m < N → LK I K → (∀ j, j < kn K → I H j = nI (W j)) → (∀ j, j < kn K → W j ≤ kA K j * kH K j) → fl ≤ 1800 → ov + 1800 * m < 100000000 → I ao 20 = nI li → I ao 21 = nI mo →
    (∀ I', FH H ao I I' → (∀ b, ¬ b = 20 → I' ao b = I ao b) → I' ao 20 = nI (if li ≤ (S_vs K F w t m k (fl, W, ov)).1 then li else (S_vs K F w t m k (fl, W, ov)).1) → LK I' K → (∀ j, j < kn K → I' H j = nI ((S_vs K F w t m k (fl, W, ov)).2.1 j)) → Rn (fL_run_427 k99 (some 40) (nI w) (nI F.1) (nI F.2.1) (nI F.2.2.1) (nI F.2.2.2) v6 (some ao) (some H) (nI (cy + (S_vs K F w t m k (fl, W, ov)).1)) v10 (nI (S_vs K F w t m k (fl, W, ov)).2.2) v12 v13 (nI t) v15 (some ao) (21 : Int32) (nI (max mo (S_vs K F w t m k (fl, W, ov)).1)) (pu_hp s I' P J n)) Q) →
    Rn (fL_run_128 k99 N (some 40) (nI w) (nI F.1) (nI F.2.1) (nI F.2.2.1) (nI F.2.2.2) v6 (some ao) (some H) (nI cy) v10 (nI ov) v12 v13 (nI t) v15 (nI fl) (nI k) (pu_hp s I P J n)) Q := by
  have h00 := h0
  obtain ⟨h40, hO, hH, d1, d2, d3⟩ := h0
  have hkn := hK.1
  intro m
  induction m with
  | zero =>
    intro k N fl ov W I hkm hN hLK hV hWb hfl hov e20 e21 kk
    obtain ⟨N, rfl⟩ : ∃ N', N = N' + 1 := ⟨N - 1, by omega⟩
    have e0 := hLK.1
    have kk : ∀ I', FH H ao I I' → (∀ b, ¬ b = 20 → I' ao b = I ao b) → I' ao 20 = nI (if li ≤ fl then li else fl) → LK I' K → (∀ j, j < kn K → I' H j = nI (W j)) → Rn (fL_run_427 k99 (some 40) (nI w) (nI F.1) (nI F.2.1) (nI F.2.2.1) (nI F.2.2.2) v6 (some ao) (some H) (nI (cy + fl)) v10 (nI ov) v12 v13 (nI t) v15 (some ao) (21 : Int32) (nI (max mo fl)) (pu_hp s I' P J n)) Q := kk
    have kku : ∀ y, y = (if li ≤ fl then li else fl) → ∀ z, z = max mo fl → Rn (fL_run_427 k99 (some 40) (nI w) (nI F.1) (nI F.2.1) (nI F.2.2.1) (nI F.2.2.2) v6 (some ao) (some H) (nI (cy + fl)) v10 (nI ov) v12 v13 (nI t) v15 (some ao) (21 : Int32) (nI z) (pu_hp s (pu_u I ao 20 (nI y)) P J n)) Q := by
      intro y hy z hz
      subst hz
      exact kk _ (FH.u (fun _ _ _ _ => rfl) (Or.inr rfl)) (fun b hb => u_n (by omega)) (by rw [u_s, hy]) (hLK.fr fun j => u_n (by omega)) (fun j hj => by rw [u_n (by omega)]; exact hV j hj)
    show Rn (fL_run_128_b k99 (fL_run_128 k99 N) _ _ _ _ _ _ _ _ _ _ _ _ _ _ _ _ _ _ _) _
    unfold fL_run_128_b fL_run_402
    by_cases c1 : li ≤ fl
    · by_cases c2 : fl ≤ mo
      · simp (disch := first | assumption | with_unfolding_all exact hW.1 _ _ rfl | rfl | exact pu_okI (by first | assumption | with_unfolding_all exact hW.1 _ _ rfl) (by omega) (by omega) | exact pu_oqI (by first | assumption | with_unfolding_all exact hW.1 _ _ rfl) (by omega) (by omega) | omega | decide) only [↓reduceIte, ↓gi_b, ↓pi_b, ↓gr_b, ↓pr_b, ↓al_b, ↓as_b, ↓al_3, ↓as_3, ↓al_12, ↓as_12, ↓al_l, ↓as_l, ↓rc_b, ↓Option.bind_some, ↓zr0_b, ↓zr1_b, ↓zrb_b, ↓pz0_b, ↓pz1_b, al_b, as_b, rc_b, gi_b, pi_b, gr_b, zr0, zr1, zrb, u_s, u_n, v_s, v_n, ↓isIn_b, ite_T, ite_F, il_t, il_f, li_t, li_f, it_t, it_f, ti_t, ti_f, ie_t, ie_f, ei_t, ei_f, nn_le_t, nn_le_f, nn_lt_t, nn_lt_f, nn_eq_t, nn_eq_f, nI_1, nI_add, ni_addl, ni_ladd, pk_mul, ni_mull, b2_t, b2_f, b2_0, one0, m1_eq, ni_m1, reduceCtorEq, Bool.false_eq_true, nI_clamp, if_true, Option.some.injEq, Prod.mk.injEq, and_true, true_and, Nat.reduceAdd, Nat.reduceMul, Nat.reduceSub, Nat.reduceEqDiff, Nat.reduceLeDiff, Nat.reduceLT, e0, e20, e21]
        exact kku li (by rw [if_pos c1]) mo (by omega)
      · simp (disch := first | assumption | with_unfolding_all exact hW.1 _ _ rfl | rfl | exact pu_okI (by first | assumption | with_unfolding_all exact hW.1 _ _ rfl) (by omega) (by omega) | exact pu_oqI (by first | assumption | with_unfolding_all exact hW.1 _ _ rfl) (by omega) (by omega) | omega | decide) only [↓reduceIte, ↓gi_b, ↓pi_b, ↓gr_b, ↓pr_b, ↓al_b, ↓as_b, ↓al_3, ↓as_3, ↓al_12, ↓as_12, ↓al_l, ↓as_l, ↓rc_b, ↓Option.bind_some, ↓zr0_b, ↓zr1_b, ↓zrb_b, ↓pz0_b, ↓pz1_b, al_b, as_b, rc_b, gi_b, pi_b, gr_b, zr0, zr1, zrb, u_s, u_n, v_s, v_n, ↓isIn_b, ite_T, ite_F, il_t, il_f, li_t, li_f, it_t, it_f, ti_t, ti_f, ie_t, ie_f, ei_t, ei_f, nn_le_t, nn_le_f, nn_lt_t, nn_lt_f, nn_eq_t, nn_eq_f, nI_1, nI_add, ni_addl, ni_ladd, pk_mul, ni_mull, b2_t, b2_f, b2_0, one0, m1_eq, ni_m1, reduceCtorEq, Bool.false_eq_true, nI_clamp, if_true, Option.some.injEq, Prod.mk.injEq, and_true, true_and, Nat.reduceAdd, Nat.reduceMul, Nat.reduceSub, Nat.reduceEqDiff, Nat.reduceLeDiff, Nat.reduceLT, e0, e20, e21]
        exact kku li (by rw [if_pos c1]) fl (by omega)
    · by_cases c2 : fl ≤ mo
      · simp (disch := first | assumption | with_unfolding_all exact hW.1 _ _ rfl | rfl | exact pu_okI (by first | assumption | with_unfolding_all exact hW.1 _ _ rfl) (by omega) (by omega) | exact pu_oqI (by first | assumption | with_unfolding_all exact hW.1 _ _ rfl) (by omega) (by omega) | omega | decide) only [↓reduceIte, ↓gi_b, ↓pi_b, ↓gr_b, ↓pr_b, ↓al_b, ↓as_b, ↓al_3, ↓as_3, ↓al_12, ↓as_12, ↓al_l, ↓as_l, ↓rc_b, ↓Option.bind_some, ↓zr0_b, ↓zr1_b, ↓zrb_b, ↓pz0_b, ↓pz1_b, al_b, as_b, rc_b, gi_b, pi_b, gr_b, zr0, zr1, zrb, u_s, u_n, v_s, v_n, ↓isIn_b, ite_T, ite_F, il_t, il_f, li_t, li_f, it_t, it_f, ti_t, ti_f, ie_t, ie_f, ei_t, ei_f, nn_le_t, nn_le_f, nn_lt_t, nn_lt_f, nn_eq_t, nn_eq_f, nI_1, nI_add, ni_addl, ni_ladd, pk_mul, ni_mull, b2_t, b2_f, b2_0, one0, m1_eq, ni_m1, reduceCtorEq, Bool.false_eq_true, nI_clamp, if_true, Option.some.injEq, Prod.mk.injEq, and_true, true_and, Nat.reduceAdd, Nat.reduceMul, Nat.reduceSub, Nat.reduceEqDiff, Nat.reduceLeDiff, Nat.reduceLT, e0, e20, e21]
        exact kku fl (by rw [if_neg c1]) mo (by omega)
      · simp (disch := first | assumption | with_unfolding_all exact hW.1 _ _ rfl | rfl | exact pu_okI (by first | assumption | with_unfolding_all exact hW.1 _ _ rfl) (by omega) (by omega) | exact pu_oqI (by first | assumption | with_unfolding_all exact hW.1 _ _ rfl) (by omega) (by omega) | omega | decide) only [↓reduceIte, ↓gi_b, ↓pi_b, ↓gr_b, ↓pr_b, ↓al_b, ↓as_b, ↓al_3, ↓as_3, ↓al_12, ↓as_12, ↓al_l, ↓as_l, ↓rc_b, ↓Option.bind_some, ↓zr0_b, ↓zr1_b, ↓zrb_b, ↓pz0_b, ↓pz1_b, al_b, as_b, rc_b, gi_b, pi_b, gr_b, zr0, zr1, zrb, u_s, u_n, v_s, v_n, ↓isIn_b, ite_T, ite_F, il_t, il_f, li_t, li_f, it_t, it_f, ti_t, ti_f, ie_t, ie_f, ei_t, ei_f, nn_le_t, nn_le_f, nn_lt_t, nn_lt_f, nn_eq_t, nn_eq_f, nI_1, nI_add, ni_addl, ni_ladd, pk_mul, ni_mull, b2_t, b2_f, b2_0, one0, m1_eq, ni_m1, reduceCtorEq, Bool.false_eq_true, nI_clamp, if_true, Option.some.injEq, Prod.mk.injEq, and_true, true_and, Nat.reduceAdd, Nat.reduceMul, Nat.reduceSub, Nat.reduceEqDiff, Nat.reduceLeDiff, Nat.reduceLT, e0, e20, e21]
        exact kku fl (by rw [if_neg c1]) fl (by omega)
  | succ m ih =>
    intro k N fl ov W I hkm hN hLK hV hWb hfl hov e20 e21 kk
    obtain ⟨N, rfl⟩ : ∃ N', N = N' + 1 := ⟨N - 1, by omega⟩
    have e0 := hLK.1
    have hk : k < kn K := by omega
    obtain ⟨eA, eH, -⟩ := hLK.2.2.2.2.2.1 k hk
    have hfull := S_full hK hk
    have hWk := hWb k hk
    have eV := hV k hk
    have hheld := @S_held_le K k fl W
    have hout := @S_out_le K F w t k (S_held K k fl W)
    have fin : ∀ y ov', y = S_held K k fl W → ov' = ov + (W k + fl - kA K k * kH K k) → Rn (fL_run_217 (fL_run_128 k99 N) (some 40) (nI w) (nI F.1) (nI F.2.1) (nI F.2.2.1) (nI F.2.2.2) v6 (some ao) (some H) (nI cy) v10 (nI ov') v12 v13 (nI t) v15 (nI k) (some H) (nI k) (nI y) (pu_hp s (pu_u I H k (nI (W k + fl))) P J n)) Q := by
      intro y ov' hy hov'
      subst hy
      refine l_217 h00 hK hF hw hv15 hk (by omega) (hLK.fr fun j => u_n (by omega)) ?_
      obtain ⟨b1, b2, b3⟩ := S_v_b (F := F) (w := w) (t := t) (x := (fl, W, ov)) hWb hfl hk hK
      refine ih (k + 1) N (S_out K F w t k (S_held K k fl W)) ov' (updN W k (S_held K k fl W - S_out K F w t k (S_held K k fl W))) _ (by omega) (by omega) (hLK.fr fun j => by rw [u_n (by omega), u_n (by omega), u_n (by omega)]) (fun j hj => ?_) b1 b2 ?_ (by rw [u_n (by omega), u_n (by omega), u_n (by omega)]; exact e20) (by rw [u_n (by omega), u_n (by omega), u_n (by omega)]; exact e21) ?_
      · by_cases e : j = k
        · subst e; rw [u_s, updN_s]
        · rw [u_n (by omega), u_n (by omega), u_n (by omega), updN_n e]; exact hV j hj
      · have : S_vs K F w t 0 0 (fl, W, ov) = (fl, W, ov) := rfl
        omega
      · intro I' r1 r2 r3 r4 r5
        have es : S_vs K F w t (m + 1) k (fl, W, ov) = S_vs K F w t m (k + 1) (S_out K F w t k (S_held K k fl W), updN W k (S_held K k fl W - S_out K F w t k (S_held K k fl W)), ov') := by
          rw [hov']; rfl
        rw [es] at kk
        exact kk I' (FH.tr (FH.u (FH.u (FH.u (fun _ _ _ _ => rfl) (Or.inl rfl)) (Or.inl rfl)) (Or.inl rfl)) r1) (fun b hb => by rw [r2 b hb, u_n (by omega), u_n (by omega), u_n (by omega)]) r3 r4 r5
    show Rn (fL_run_128_b k99 (fL_run_128 k99 N) _ _ _ _ _ _ _ _ _ _ _ _ _ _ _ _ _ _ _) _
    unfold fL_run_128_b fL_run_190
    by_cases c : W k + fl ≤ kA K k * kH K k
    · have f := fin (W k + fl) (ov + 0) (by unfold S_held; omega) (by omega)
      simp (disch := first | assumption | with_unfolding_all exact hW.1 _ _ rfl | rfl | exact pu_okI (by first | assumption | with_unfolding_all exact hW.1 _ _ rfl) (by omega) (by omega) | exact pu_oqI (by first | assumption | with_unfolding_all exact hW.1 _ _ rfl) (by omega) (by omega) | omega | decide) only [↓reduceIte, ↓gi_b, ↓pi_b, ↓gr_b, ↓pr_b, ↓al_b, ↓as_b, ↓al_3, ↓as_3, ↓al_12, ↓as_12, ↓al_l, ↓as_l, ↓rc_b, ↓Option.bind_some, ↓zr0_b, ↓zr1_b, ↓zrb_b, ↓pz0_b, ↓pz1_b, al_b, as_b, rc_b, gi_b, pi_b, gr_b, zr0, zr1, zrb, u_s, u_n, v_s, v_n, ↓isIn_b, ite_T, ite_F, il_t, il_f, li_t, li_f, it_t, it_f, ti_t, ti_f, ie_t, ie_f, ei_t, ei_f, nn_le_t, nn_le_f, nn_lt_t, nn_lt_f, nn_eq_t, nn_eq_f, nI_1, nI_add, ni_addl, ni_ladd, pk_mul, ni_mull, b2_t, b2_f, b2_0, one0, m1_eq, ni_m1, reduceCtorEq, Bool.false_eq_true, nI_clamp, if_true, Option.some.injEq, Prod.mk.injEq, and_true, true_and, Nat.reduceAdd, Nat.reduceMul, Nat.reduceSub, Nat.reduceEqDiff, Nat.reduceLeDiff, Nat.reduceLT, e0, eA, eH, eV]
      exact f
    · have f := fin (kA K k * kH K k) (ov + (W k + fl - kA K k * kH K k)) (by unfold S_held; omega) rfl
      simp (disch := first | assumption | with_unfolding_all exact hW.1 _ _ rfl | rfl | exact pu_okI (by first | assumption | with_unfolding_all exact hW.1 _ _ rfl) (by omega) (by omega) | exact pu_oqI (by first | assumption | with_unfolding_all exact hW.1 _ _ rfl) (by omega) (by omega) | omega | decide) only [↓reduceIte, ↓gi_b, ↓pi_b, ↓gr_b, ↓pr_b, ↓al_b, ↓as_b, ↓al_3, ↓as_3, ↓al_12, ↓as_12, ↓al_l, ↓as_l, ↓rc_b, ↓Option.bind_some, ↓zr0_b, ↓zr1_b, ↓zrb_b, ↓pz0_b, ↓pz1_b, al_b, as_b, rc_b, gi_b, pi_b, gr_b, zr0, zr1, zrb, u_s, u_n, v_s, v_n, ↓isIn_b, ite_T, ite_F, il_t, il_f, li_t, li_f, it_t, it_f, ti_t, ti_f, ie_t, ie_f, ei_t, ei_f, nn_le_t, nn_le_f, nn_lt_t, nn_lt_f, nn_eq_t, nn_eq_f, nI_1, nI_add, ni_addl, ni_ladd, pk_mul, ni_mull, b2_t, b2_f, b2_0, one0, m1_eq, ni_m1, reduceCtorEq, Bool.false_eq_true, nI_clamp, if_true, Option.some.injEq, Prod.mk.injEq, and_true, true_and, Nat.reduceAdd, Nat.reduceMul, Nat.reduceSub, Nat.reduceEqDiff, Nat.reduceLeDiff, Nat.reduceLT, e0, eA, eH, eV, ni_sub]
      exact f
set_option maxHeartbeats 4000000 in
set_option maxRecDepth 100000 in
theorem l_99 (h0 : LR0 s H ao) (hK : S_KB K) (hF : S_FB F) (hw : 50 ≤ w ∧ w ≤ 150) {tick : Nat} (htk : tick ≤ 95) {Q : am_H → Prop} : ∀ (m t N : Nat) (I : Nat → Nat → Int32), t + m = 96 → m < N → LK I K → (∀ j, j < kn K → I H j = nI (xW (S_at K F w true t) j)) → (∀ b, b < 12 → I ao b = nI (dN (S_at K F w true t) b)) → I ao 20 = nI (if t = 0 then 1000000 else xli (S_at K F w true t)) → I ao 21 = nI (xmo (S_at K F w true t)) → TK I ao K F w tick t → (∀ I', FH H ao I I' → LRI I' H ao K (S_at K F w true 96) → TK I' ao K F w tick 96 → Q (pu_hp s I' P J n)) → Rn (fL_run_99 N (some 40) (nI w) (nI F.1) (nI F.2.1) (nI F.2.2.1) (nI F.2.2.2) (nI tick) (some ao) (some H) (nI (xcy (S_at K F w true t))) (nI (xdr (S_at K F w true t))) (nI (xov (S_at K F w true t))) (nI (xle (S_at K F w true t))) (nI (xem (S_at K F w true t))) (nI t) (pu_hp s I P J n)) Q := by
  have h00 := h0
  obtain ⟨h40, hO, hH, d1, d2, d3⟩ := h0
  have hkn := hK.1
  intro m
  induction m with
  | zero =>
    intro t N I hm hN hLK hV hD e20 e21 hT kk
    obtain ⟨N, rfl⟩ : ∃ N', N = N' + 1 := ⟨N - 1, by omega⟩
    obtain rfl : t = 96 := by omega
    show Rn (fL_run_99_b (fL_run_99 N) _ _ _ _ _ _ _ _ _ _ _ _ _ _ _ _) _
    unfold fL_run_99_b
    rw [if_pos (show (96 : Int32) ≤ nI 96 from Int32.le_refl _)]
    exact Rn_some (kk I (fun _ _ _ _ => rfl) ⟨hV, hD, by rw [e20, if_neg (by omega)], e21⟩ hT)
  | succ m ih =>
    intro t N I hm hN hLK hV hD e20 e21 hT kk
    obtain ⟨N, rfl⟩ : ∃ N', N = N' + 1 := ⟨N - 1, by omega⟩
    have hX := S_at_b (w := w) (sip := true) hK hF t
    obtain ⟨x1, x2, x3, x4, x5, x6, x7, x8, x9, x10⟩ := id hX
    have hXd := S_drip_b (F := F) (w := w) hK hX
    obtain ⟨b1, b2, b3⟩ := S_fl_b (F := F) (w := w) (t := t) hK x1
    have hsu : ksu K ≤ 60 := hK.2.2.2.2.1
    obtain ⟨f1, f2, f3, f4⟩ := id hF
    have e3 := hLK.2.2.2.1
    have main : ∀ v15, v15 = (if F.2.2.2 ≤ t then (1 : Int32) else 0) → Rn (fL_run_118 (fL_run_99 N) (some 40) (nI w) (nI F.1) (nI F.2.1) (nI F.2.2.1) (nI F.2.2.2) (nI tick) (some ao) (some H) (nI (xcy (S_at K F w true t))) (nI (xdr (S_at K F w true t))) (nI (xov (S_at K F w true t))) (nI (xle (S_at K F w true t))) (nI (xem (S_at K F w true t))) (nI t) v15 (pu_hp s I P J n)) Q := by
      intro v15 hv15
      unfold fL_run_118
      rw [al_l (pu_okI h40 (by decide) (by decide)), show (I 40 3) = nI (ksu K) from e3, show (0 : Int32) = nI 0 from rfl]
      refine l_128 (li := if t = 0 then 1000000 else xli (S_at K F w true t)) (mo := xmo (S_at K F w true t)) h00 hK hF hw (by omega) hv15 (by omega) (by split <;> omega) (by omega) (kn K) 0 am_fu (ksu K) (xov (S_at K F w true t)) (xW (S_at K F w true t)) I (by omega) (by unfold am_fu; omega) hLK hV x1 (by omega) (by omega) e20 e21 (fun I' r1 r2 r3 r4 r5 => ?_)
      have hfl : S_vs K F w t (kn K) 0 (ksu K, xW (S_at K F w true t), xov (S_at K F w true t)) = S_fl K F w t (S_at K F w true t) := rfl
      rw [hfl] at r3 r5 ⊢
      refine l_427 (X := S_drip K t (S_at K F w true t) (S_fl K F w t (S_at K F w true t))) h00 hK hF (by omega) htk hv15 r4 hXd x5 x6 rfl ⟨fun j hj => ?_, fun b hb => ?_, ?_, u_s⟩ (fun q v hv => by rw [r2 _ (by omega)]; exact hT q v hv) (fun I2 q1 q2 q3 => ?_)
      · rw [u_n (by omega)]; exact r5 j hj
      · rw [u_n (by omega), r2 _ (by omega)]; exact hD b hb
      · rw [u_n (by omega), r3]
        show nI _ = nI (if t = 0 then (S_fl K F w t (S_at K F w true t)).1 else min (xli (S_at K F w true t)) (S_fl K F w t (S_at K F w true t)).1)
        by_cases e : t = 0
        · rw [if_pos e, if_pos e, if_neg (by omega)]
        · rw [if_neg e, if_neg e]
          congr 1
      · refine ih (t + 1) N I2 (by omega) (by omega) (q1.k h00 r4) q2.1 q2.2.1 (by rw [if_neg (by omega)]; exact q2.2.2.1) q2.2.2.2 q3 (fun I3 p1 p2 p3 => kk I3 ((r1.tr q1).tr p1) p2 p3)
    show Rn (fL_run_99_b (fL_run_99 N) _ _ _ _ _ _ _ _ _ _ _ _ _ _ _ _) _
    unfold fL_run_99_b
    by_cases c : F.2.2.2 ≤ t
    · simp (disch := first | assumption | with_unfolding_all exact hW.1 _ _ rfl | rfl | exact pu_okI (by first | assumption | with_unfolding_all exact hW.1 _ _ rfl) (by omega) (by omega) | exact pu_oqI (by first | assumption | with_unfolding_all exact hW.1 _ _ rfl) (by omega) (by omega) | omega | decide) only [↓reduceIte, ↓gi_b, ↓pi_b, ↓gr_b, ↓pr_b, ↓al_b, ↓as_b, ↓al_3, ↓as_3, ↓al_12, ↓as_12, ↓al_l, ↓as_l, ↓rc_b, ↓Option.bind_some, ↓zr0_b, ↓zr1_b, ↓zrb_b, ↓pz0_b, ↓pz1_b, al_b, as_b, rc_b, gi_b, pi_b, gr_b, zr0, zr1, zrb, u_s, u_n, v_s, v_n, ↓isIn_b, ite_T, ite_F, il_t, il_f, li_t, li_f, it_t, it_f, ti_t, ti_f, ie_t, ie_f, ei_t, ei_f, nn_le_t, nn_le_f, nn_lt_t, nn_lt_f, nn_eq_t, nn_eq_f, nI_1, nI_add, ni_addl, ni_ladd, pk_mul, ni_mull, b2_t, b2_f, b2_0, one0, m1_eq, ni_m1, reduceCtorEq, Bool.false_eq_true, nI_clamp, if_true, Option.some.injEq, Prod.mk.injEq, and_true, true_and, Nat.reduceAdd, Nat.reduceMul, Nat.reduceSub, Nat.reduceEqDiff, Nat.reduceLeDiff, Nat.reduceLT]
      exact main 1 (by rw [if_pos c])
    · simp (disch := first | assumption | with_unfolding_all exact hW.1 _ _ rfl | rfl | exact pu_okI (by first | assumption | with_unfolding_all exact hW.1 _ _ rfl) (by omega) (by omega) | exact pu_oqI (by first | assumption | with_unfolding_all exact hW.1 _ _ rfl) (by omega) (by omega) | omega | decide) only [↓reduceIte, ↓gi_b, ↓pi_b, ↓gr_b, ↓pr_b, ↓al_b, ↓as_b, ↓al_3, ↓as_3, ↓al_12, ↓as_12, ↓al_l, ↓as_l, ↓rc_b, ↓Option.bind_some, ↓zr0_b, ↓zr1_b, ↓zrb_b, ↓pz0_b, ↓pz1_b, al_b, as_b, rc_b, gi_b, pi_b, gr_b, zr0, zr1, zrb, u_s, u_n, v_s, v_n, ↓isIn_b, ite_T, ite_F, il_t, il_f, li_t, li_f, it_t, it_f, ti_t, ti_f, ie_t, ie_f, ei_t, ei_f, nn_le_t, nn_le_f, nn_lt_t, nn_lt_f, nn_eq_t, nn_eq_f, nI_1, nI_add, ni_addl, ni_ladd, pk_mul, ni_mull, b2_t, b2_f, b2_0, one0, m1_eq, ni_m1, reduceCtorEq, Bool.false_eq_true, nI_clamp, if_true, Option.some.injEq, Prod.mk.injEq, and_true, true_and, Nat.reduceAdd, Nat.reduceMul, Nat.reduceSub, Nat.reduceEqDiff, Nat.reduceLeDiff, Nat.reduceLT]
      exact main 0 (by rw [if_neg c])
/-- all that a run leaves -/
def OUT (I : Nat → Nat → Int32) (ao : Nat) (K : S_K) (F : S_F) (w tick : Nat) : Prop := (∀ b, b < 12 → I ao b = nI (dN (S_at K F w true 96) b)) ∧ I ao 20 = nI (xli (S_at K F w true 96)) ∧ I ao 21 = nI (xmo (S_at K F w true 96)) ∧ ∀ v, v < 8 → I ao (12 + v) = atN K (S_at K F w true (tick + 1)) v
set_option maxHeartbeats 4000000 in
set_option maxRecDepth 100000 in
theorem l_48 (h0 : LR0 s H ao) (hK : S_KB K) (hF : S_FB F) (hw : 50 ≤ w ∧ w ≤ 150) {tick : Nat} (htk : tick ≤ 95) {Q : am_H → Prop} : ∀ (m k N : Nat) (I : Nat → Nat → Int32), k + m = 12 → m < N → LK I K → (∀ j, j < kn K → I H j = nI (kA K j * kH K j)) → (∀ b, b < k → I ao b = nI 96) → (∀ I', FH H ao I I' → OUT I' ao K F w tick → Q (pu_hp s I' P J n)) → Rn (fL_run_48 N (some 40) (nI w) (nI F.1) (nI F.2.1) (nI F.2.2.1) (nI F.2.2.2) (nI tick) (some ao) (some H) (nI k) (pu_hp s I P J n)) Q := by
  have h00 := h0
  obtain ⟨h40, hO, hH, d1, d2, d3⟩ := h0
  intro m
  induction m with
  | zero =>
    intro k N I hm hN hLK hV hD kk
    obtain ⟨N, rfl⟩ : ∃ N', N = N' + 1 := ⟨N - 1, by omega⟩
    obtain rfl : k = 12 := by omega
    show Rn (fL_run_48_b (fL_run_48 N) _ _ _ _ _ _ _ _ _ _ _) _
    unfold fL_run_48_b
    simp (disch := first | assumption | with_unfolding_all exact hW.1 _ _ rfl | rfl | exact pu_okI (by first | assumption | with_unfolding_all exact hW.1 _ _ rfl) (by omega) (by omega) | exact pu_oqI (by first | assumption | with_unfolding_all exact hW.1 _ _ rfl) (by omega) (by omega) | omega | decide) only [↓reduceIte, ↓gi_b, ↓pi_b, ↓gr_b, ↓pr_b, ↓al_b, ↓as_b, ↓al_3, ↓as_3, ↓al_12, ↓as_12, ↓al_l, ↓as_l, ↓rc_b, ↓Option.bind_some, ↓zr0_b, ↓zr1_b, ↓zrb_b, ↓pz0_b, ↓pz1_b, al_b, as_b, rc_b, gi_b, pi_b, gr_b, zr0, zr1, zrb, u_s, u_n, v_s, v_n, ↓isIn_b, ite_T, ite_F, il_t, il_f, li_t, li_f, it_t, it_f, ti_t, ti_f, ie_t, ie_f, ei_t, ei_f, nn_le_t, nn_le_f, nn_lt_t, nn_lt_f, nn_eq_t, nn_eq_f, nI_1, nI_add, ni_addl, ni_ladd, pk_mul, ni_mull, b2_t, b2_f, b2_0, one0, m1_eq, ni_m1, reduceCtorEq, Bool.false_eq_true, nI_clamp, if_true, Option.some.injEq, Prod.mk.injEq, and_true, true_and, Nat.reduceAdd, Nat.reduceMul, Nat.reduceSub, Nat.reduceEqDiff, Nat.reduceLeDiff, Nat.reduceLT]
    have key := l_99 (s := s) (P := P) (J := J) (n := n) (Q := Q) h00 hK hF hw htk 96 0 am_fu (pu_u (pu_u I ao 20 1000000) ao 21 0) (by omega) (by unfold am_fu; omega) (hLK.fr fun j => by rw [u_n (by omega), u_n (by omega)]) (fun j hj => by rw [u_n (by omega), u_n (by omega)]; exact hV j hj) (fun b hb => by rw [u_n (by omega), u_n (by omega)]; exact hD b hb) (by rw [u_n (by omega), u_s]; rfl) u_s (fun q => by omega) (fun I' r1 r2 r3 => kk I' (FH.tr (FH.u (FH.u (fun _ _ _ _ => rfl) (Or.inr rfl)) (Or.inr rfl)) r1) ⟨r2.2.1, r2.2.2.1, r2.2.2.2, r3 (by omega)⟩)
    exact key
  | succ m ih =>
    intro k N I hm hN hLK hV hD kk
    obtain ⟨N, rfl⟩ : ∃ N', N = N' + 1 := ⟨N - 1, by omega⟩
    show Rn (fL_run_48_b (fL_run_48 N) _ _ _ _ _ _ _ _ _ _ _) _
    unfold fL_run_48_b
    simp (disch := first | assumption | with_unfolding_all exact hW.1 _ _ rfl | rfl | exact pu_okI (by first | assumption | with_unfolding_all exact hW.1 _ _ rfl) (by omega) (by omega) | exact pu_oqI (by first | assumption | with_unfolding_all exact hW.1 _ _ rfl) (by omega) (by omega) | omega | decide) only [↓reduceIte, ↓gi_b, ↓pi_b, ↓gr_b, ↓pr_b, ↓al_b, ↓as_b, ↓al_3, ↓as_3, ↓al_12, ↓as_12, ↓al_l, ↓as_l, ↓rc_b, ↓Option.bind_some, ↓zr0_b, ↓zr1_b, ↓zrb_b, ↓pz0_b, ↓pz1_b, al_b, as_b, rc_b, gi_b, pi_b, gr_b, zr0, zr1, zrb, u_s, u_n, v_s, v_n, ↓isIn_b, ite_T, ite_F, il_t, il_f, li_t, li_f, it_t, it_f, ti_t, ti_f, ie_t, ie_f, ei_t, ei_f, nn_le_t, nn_le_f, nn_lt_t, nn_lt_f, nn_eq_t, nn_eq_f, nI_1, nI_add, ni_addl, ni_ladd, pk_mul, ni_mull, b2_t, b2_f, b2_0, one0, m1_eq, ni_m1, reduceCtorEq, Bool.false_eq_true, nI_clamp, if_true, Option.some.injEq, Prod.mk.injEq, and_true, true_and, Nat.reduceAdd, Nat.reduceMul, Nat.reduceSub, Nat.reduceEqDiff, Nat.reduceLeDiff, Nat.reduceLT]
    refine ih (k + 1) N _ (by omega) (by omega) (hLK.fr fun j => by rw [u_n (by omega)]) (fun j hj => by rw [u_n (by omega)]; exact hV j hj) (fun b hb => ?_) (fun I' r1 r2 => kk I' (FH.tr (FH.u (fun _ _ _ _ => rfl) (Or.inr rfl)) r1) r2)
    by_cases e : b = k
    · subst e; rw [u_s]; rfl
    · rw [u_n (by omega)]; exact hD b (by omega)
set_option maxHeartbeats 4000000 in
set_option maxRecDepth 100000 in
theorem l_8 (h0 : LR0 s H ao) (hK : S_KB K) (hF : S_FB F) (hw : 50 ≤ w ∧ w ≤ 150) {tick : Nat} (htk : tick ≤ 95) {Q : am_H → Prop} : ∀ (m k N : Nat) (I : Nat → Nat → Int32), k + m = kn K → m < N → LK I K → (∀ j, j < k → I H j = nI (kA K j * kH K j)) → (∀ I', FH H ao I I' → OUT I' ao K F w tick → Q (pu_hp s I' P J n)) → Rn (fL_run_8 N (some 40) (nI w) (nI F.1) (nI F.2.1) (nI F.2.2.1) (nI F.2.2.2) (nI tick) (some ao) (some H) (nI k) (pu_hp s I P J n)) Q := by
  have h00 := h0
  obtain ⟨h40, hO, hH, d1, d2, d3⟩ := h0
  have hkn := hK.1
  intro m
  induction m with
  | zero =>
    intro k N I hm hN hLK hV kk
    obtain ⟨N, rfl⟩ : ∃ N', N = N' + 1 := ⟨N - 1, by omega⟩
    have e0 := hLK.1
    show Rn (fL_run_8_b (fL_run_8 N) _ _ _ _ _ _ _ _ _ _ _) _
    unfold fL_run_8_b
    simp (disch := first | assumption | with_unfolding_all exact hW.1 _ _ rfl | rfl | exact pu_okI (by first | assumption | with_unfolding_all exact hW.1 _ _ rfl) (by omega) (by omega) | exact pu_oqI (by first | assumption | with_unfolding_all exact hW.1 _ _ rfl) (by omega) (by omega) | omega | decide) only [↓reduceIte, ↓gi_b, ↓pi_b, ↓gr_b, ↓pr_b, ↓al_b, ↓as_b, ↓al_3, ↓as_3, ↓al_12, ↓as_12, ↓al_l, ↓as_l, ↓rc_b, ↓Option.bind_some, ↓zr0_b, ↓zr1_b, ↓zrb_b, ↓pz0_b, ↓pz1_b, al_b, as_b, rc_b, gi_b, pi_b, gr_b, zr0, zr1, zrb, u_s, u_n, v_s, v_n, ↓isIn_b, ite_T, ite_F, il_t, il_f, li_t, li_f, it_t, it_f, ti_t, ti_f, ie_t, ie_f, ei_t, ei_f, nn_le_t, nn_le_f, nn_lt_t, nn_lt_f, nn_eq_t, nn_eq_f, nI_1, nI_add, ni_addl, ni_ladd, pk_mul, ni_mull, b2_t, b2_f, b2_0, one0, m1_eq, ni_m1, reduceCtorEq, Bool.false_eq_true, nI_clamp, if_true, Option.some.injEq, Prod.mk.injEq, and_true, true_and, Nat.reduceAdd, Nat.reduceMul, Nat.reduceSub, Nat.reduceEqDiff, Nat.reduceLeDiff, Nat.reduceLT, e0]
    rw [show (0 : Int32) = nI 0 from rfl]
    exact l_48 h00 hK hF hw htk 12 0 am_fu I (by omega) (by unfold am_fu; omega) hLK (fun j hj => hV j (by omega)) (fun b hb => by omega) kk
  | succ m ih =>
    intro k N I hm hN hLK hV kk
    obtain ⟨N, rfl⟩ : ∃ N', N = N' + 1 := ⟨N - 1, by omega⟩
    have e0 := hLK.1
    obtain ⟨eA, eH, -⟩ := hLK.2.2.2.2.2.1 k (by omega)
    show Rn (fL_run_8_b (fL_run_8 N) _ _ _ _ _ _ _ _ _ _ _) _
    unfold fL_run_8_b
    simp (disch := first | assumption | with_unfolding_all exact hW.1 _ _ rfl | rfl | exact pu_okI (by first | assumption | with_unfolding_all exact hW.1 _ _ rfl) (by omega) (by omega) | exact pu_oqI (by first | assumption | with_unfolding_all exact hW.1 _ _ rfl) (by omega) (by omega) | omega | decide) only [↓reduceIte, ↓gi_b, ↓pi_b, ↓gr_b, ↓pr_b, ↓al_b, ↓as_b, ↓al_3, ↓as_3, ↓al_12, ↓as_12, ↓al_l, ↓as_l, ↓rc_b, ↓Option.bind_some, ↓zr0_b, ↓zr1_b, ↓zrb_b, ↓pz0_b, ↓pz1_b, al_b, as_b, rc_b, gi_b, pi_b, gr_b, zr0, zr1, zrb, u_s, u_n, v_s, v_n, ↓isIn_b, ite_T, ite_F, il_t, il_f, li_t, li_f, it_t, it_f, ti_t, ti_f, ie_t, ie_f, ei_t, ei_f, nn_le_t, nn_le_f, nn_lt_t, nn_lt_f, nn_eq_t, nn_eq_f, nI_1, nI_add, ni_addl, ni_ladd, pk_mul, ni_mull, b2_t, b2_f, b2_0, one0, m1_eq, ni_m1, reduceCtorEq, Bool.false_eq_true, nI_clamp, if_true, Option.some.injEq, Prod.mk.injEq, and_true, true_and, Nat.reduceAdd, Nat.reduceMul, Nat.reduceSub, Nat.reduceEqDiff, Nat.reduceLeDiff, Nat.reduceLT, e0, eA, eH]
    refine ih (k + 1) N _ (by omega) (by omega) (hLK.fr fun j => by rw [u_n (by omega)]) (fun j hj => ?_) (fun I' r1 r2 => kk I' (FH.tr (FH.u (fun _ _ _ _ => rfl) (Or.inl rfl)) r1) r2)
    by_cases e : j = k
    · subst e; rw [u_s]
    · rw [u_n (by omega)]; exact hV j (by omega)
end LR
set_option maxHeartbeats 4000000 in
set_option maxRecDepth 100000 in
theorem l_run {s : Nat → Option pu_S} {I : Nat → Nat → Int32} {P : Nat → Nat → Option Nat} {J : Nat → Nat → Int64} {n : Nat × Nat} {ao : Nat} {K : S_K} {F : S_F} {w tick : Nat} (h40 : s 40 = some (1, 0, 26)) (hO : s ao = some (1, 0, 22)) (ha : 41 ≤ ao ∧ ao ≤ n.1) (hK : S_KB K) (hF : S_FB F) (hw : 50 ≤ w ∧ w ≤ 150) (htk : tick ≤ 95) (hLK : LK I K) : Rn (fL_run (some 40) (nI w) (nI F.1) (nI F.2.1) (nI F.2.2.1) (nI F.2.2.2) (nI tick) (some ao) (pu_hp s I P J n)) fun h => ∃ I', h = pu_hp (pu_row s (n.1 + 1) (some (1, 0, 3))) I' P J (n.1 + 1, n.2 + 3) ∧ (∀ b j, b ≤ n.1 → ¬ b = ao → I' b j = I b j) ∧ OUT I' ao K F w tick := by
  unfold fL_run
  rw [na_b (m := 3) (by decide) (by decide), show (0 : Int32) = nI 0 from rfl]
  have h0 : LR0 (pu_row s (n.1 + 1) (some (1, 0, 3))) (n.1 + 1) ao := ⟨by rw [pu_row_n (by omega)]; exact h40, by rw [pu_row_n (by omega)]; exact hO, pu_row_s _ _ _, by omega, by omega, by omega⟩
  have hkn := hK.1
  refine l_8 h0 hK hF hw htk (kn K) 0 am_fu _ (by omega) (by unfold am_fu; omega) (hLK.fr fun j => by rw [pu_row_n (by omega)]) (fun j hj => by omega) (fun I' r1 r2 => ⟨I', rfl, fun b j hb hb2 => ?_, r2⟩)
  rw [r1 b j (by omega) hb2, pu_row_n (by omega)]
/-- a fault of kind 0 is none -/
theorem S_at_k0 {K : S_K} {F : S_F} {w : Nat} (h : F.1 = 0) : ∀ t, S_at K F w true t = S_at K (0, 0, 0, 0) w true t
  | 0 => rfl
  | t + 1 => by
    have e1 : ∀ ho v t, S_hole F ho v t = S_hole (0, 0, 0, 0) ho v t := fun ho v t => by
      unfold S_hole
      rw [if_neg (show ¬ F.1 = 1 by omega), if_neg (show ¬ F.1 = 2 by omega)]
      show (if _ then ho else ho) = (if _ then (if (0 : Nat) = 1 then ho - 0 else if (0 : Nat) = 2 then ho + 0 else ho) else ho)
      rw [if_neg (show ¬ (0 : Nat) = 1 by omega), if_neg (show ¬ (0 : Nat) = 2 by omega)]
      split <;> split <;> rfl
    have e2 : ∀ t, S_warm F w t = S_warm (0, 0, 0, 0) w t := fun t => by
      unfold S_warm
      rw [if_neg (by omega), if_neg (show ¬ ((0 : Nat) = 4 ∧ 0 ≤ t) by omega)]
    have e3 : ∀ t, S_leak F t = 0 := fun t => by unfold S_leak; rw [if_neg (by omega)]
    have e3' : ∀ t, S_leak (0, 0, 0, 0) t = 0 := fun t => by unfold S_leak; rw [if_neg (show ¬ ((0 : Nat) = 3 ∧ 0 ≤ t) by omega)]
    have e4 : ∀ k x, S_v K F w t k x = S_v K (0, 0, 0, 0) w t k x := fun k x => by
      unfold S_v S_out
      rw [e1, e2]
    have e5 : ∀ m k x, S_vs K F w t m k x = S_vs K (0, 0, 0, 0) w t m k x := by
      intro m
      induction m with
      | zero => intro k x; rfl
      | succ m ih => intro k x; show S_vs K F w t m (k + 1) _ = S_vs K (0, 0, 0, 0) w t m (k + 1) _; rw [e4, ih]
    have e6 : ∀ (G : S_F) X, S_leak G t = 0 → S_lk K G t X = X := fun G X q => by
      unfold S_lk
      split
      · rw [q, Nat.min_zero, Nat.sub_zero]
        have : updN (xW X) G.2.1 (xW X G.2.1) = xW X := by
          funext j
          unfold updN
          by_cases e : j = G.2.1
          · rw [if_pos e, e]
          · rw [if_neg e]
        rw [this]; rfl
      · rfl
    show S_tick K F w true t (S_at K F w true t) = S_tick K (0, 0, 0, 0) w true t (S_at K (0, 0, 0, 0) w true t)
    rw [S_at_k0 h t]
    unfold S_tick
    rw [e6 F _ (e3 t), e6 (0, 0, 0, 0) _ (e3' t)]
    unfold S_fl
    rw [e5]
