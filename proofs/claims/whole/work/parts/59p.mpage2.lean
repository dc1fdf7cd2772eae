/-! the reference goes through its page: steps, the loop -/
section MH
variable {s : Nat → Option pu_S} {I : Nat → Nat → Int32} {P : Nat → Nat → Option Nat} {J : Nat → Nat → Int64} {n : Nat × Nat}
variable {L : Nat} {c : Nat → Nat} {p w : Nat} {v : Option Nat} {K : S_K}
set_option maxHeartbeats 4000000 in
set_option maxRecDepth 100000 in
theorem m_keep0 (hW : pu_W s P) {w : Nat} (hww : w = 0) {x w' : Nat} (hw : w' = 1) (h : MDr I 0 (some x) K) (hk : kn K < 3) : ∃ I', fX9_keep 40 (nI w) (pu_hp s I P J n) = some (pu_hp s I' P J n) ∧ MDr I' w' none (pgK 0 x K) ∧ FrM I I' := by
  obtain ⟨⟨h1, h2, h3⟩, h4, h5, h6, h7, h8, h9, h10⟩ := h
  have h3 : I 40 42 = nI x := h3
  refine ⟨pu_u (pu_u I 64 (kn K) (nI x)) 40 42 (-1), ?_, ?_⟩
  · unfold fX9_keep fX9_keep_154
    simp (disch := first | assumption | with_unfolding_all exact hW.1 _ _ rfl | rfl | exact pu_okI (by first | assumption | with_unfolding_all exact hW.1 _ _ rfl) (by omega) (by omega) | exact pu_oqI (by first | assumption | with_unfolding_all exact hW.1 _ _ rfl) (by omega) (by omega) | omega | decide) only [↓reduceIte, ↓gi_b, ↓pi_b, ↓gr_b, ↓pr_b, ↓al_b, ↓as_b, ↓al_3, ↓as_3, ↓al_12, ↓as_12, ↓al_l, ↓as_l, ↓rc_b, ↓Option.bind_some, ↓zr0_b, ↓zr1_b, ↓zrb_b, ↓pz0_b, ↓pz1_b, al_b, as_b, rc_b, gi_b, pi_b, gr_b, zr0, zr1, zrb, u_s, u_n, v_s, v_n, ↓isIn_b, ↓within_b, ite_T, ite_F, il_t, il_f, li_t, li_f, it_t, it_f, ti_t, ti_f, ie_t, ie_f, ei_t, ei_f, nn_le_t, nn_le_f, nn_lt_t, nn_lt_f, nn_eq_t, nn_eq_f, nI_1, nI_add, ni_addl, ni_ladd, pk_mul, ni_mull, b2_t, b2_f, b2_0, one0, m1_eq, ni_m1, reduceCtorEq, Bool.false_eq_true, nI_clamp, if_true, Option.some.injEq, Prod.mk.injEq, and_true, true_and, Nat.reduceAdd, Nat.reduceMul, Nat.reduceSub, Nat.reduceEqDiff, Nat.reduceLeDiff, Nat.reduceLT, ↓gr40_34 hW, ↓gr40_35 hW, ↓gr40_36 hW, ↓gr40_41 hW, h1, h2, h3]
  generalize hI' : pu_u (pu_u I 64 (kn K) (nI x)) 40 42 (-1) = I'
  have fo : ∀ b j, ¬ (b = 64 ∧ j = kn K) → ¬ (b = 40 ∧ j = 42) → I' b j = I b j := fun b j q1 q2 => by rw [← hI', u_n (by omega), u_n (by omega)]
  refine ⟨?_, fun b j q1 q2 => fo b j (by omega) (by omega)⟩
  refine ⟨⟨by rw [fo _ _ (by omega) (by omega), h1]; rfl, by rw [fo _ _ (by omega) (by omega), h2]; rfl, by subst hI'; rw [u_s]; rfl⟩, fun u hu => ?_, fun b hb => by rw [fo _ _ (by omega) (by omega), h5 b hb]; rfl, fun _ => by show I' 64 (kn K) = nI (updN (kA K) (kn K) x (kn K)); subst hI'; rw [u_n (by omega), u_s, updN_s], fun q => by omega, fun q => by omega, fun q => by omega, fun q => by omega⟩
  · have hu : u < kn K := hu
    obtain ⟨a1, a2, a3⟩ := h4 u hu
    show _ = nI (updN (kA K) (kn K) x u) ∧ _ = nI (kH K u) ∧ _ = nI (kO K u)
    rw [updN_n (by omega)]
    exact ⟨by rw [fo _ _ (by omega) (by omega), a1], by rw [fo _ _ (by omega) (by omega), a2], by rw [fo _ _ (by omega) (by omega), a3]⟩
set_option maxHeartbeats 4000000 in
set_option maxRecDepth 100000 in
theorem m_keep1 (hW : pu_W s P) {w : Nat} (hww : w = 1) {x w' : Nat} (hw : w' = 2) (h : MDr I 1 (some x) K) (hk : kn K < 3) : ∃ I', fX9_keep 40 (nI w) (pu_hp s I P J n) = some (pu_hp s I' P J n) ∧ MDr I' w' none (pgK 1 x K) ∧ FrM I I' := by
  obtain ⟨⟨h1, h2, h3⟩, h4, h5, h6, h7, h8, h9, h10⟩ := h
  have h3 : I 40 42 = nI x := h3
  refine ⟨pu_u (pu_u I 65 (kn K) (nI x)) 40 42 (-1), ?_, ?_⟩
  · unfold fX9_keep fX9_keep_154
    simp (disch := first | assumption | with_unfolding_all exact hW.1 _ _ rfl | rfl | exact pu_okI (by first | assumption | with_unfolding_all exact hW.1 _ _ rfl) (by omega) (by omega) | exact pu_oqI (by first | assumption | with_unfolding_all exact hW.1 _ _ rfl) (by omega) (by omega) | omega | decide) only [↓reduceIte, ↓gi_b, ↓pi_b, ↓gr_b, ↓pr_b, ↓al_b, ↓as_b, ↓al_3, ↓as_3, ↓al_12, ↓as_12, ↓al_l, ↓as_l, ↓rc_b, ↓Option.bind_some, ↓zr0_b, ↓zr1_b, ↓zrb_b, ↓pz0_b, ↓pz1_b, al_b, as_b, rc_b, gi_b, pi_b, gr_b, zr0, zr1, zrb, u_s, u_n, v_s, v_n, ↓isIn_b, ↓within_b, ite_T, ite_F, il_t, il_f, li_t, li_f, it_t, it_f, ti_t, ti_f, ie_t, ie_f, ei_t, ei_f, nn_le_t, nn_le_f, nn_lt_t, nn_lt_f, nn_eq_t, nn_eq_f, nI_1, nI_add, ni_addl, ni_ladd, pk_mul, ni_mull, b2_t, b2_f, b2_0, one0, m1_eq, ni_m1, reduceCtorEq, Bool.false_eq_true, nI_clamp, if_true, Option.some.injEq, Prod.mk.injEq, and_true, true_and, Nat.reduceAdd, Nat.reduceMul, Nat.reduceSub, Nat.reduceEqDiff, Nat.reduceLeDiff, Nat.reduceLT, ↓gr40_34 hW, ↓gr40_35 hW, ↓gr40_36 hW, ↓gr40_41 hW, h1, h2, h3]
  generalize hI' : pu_u (pu_u I 65 (kn K) (nI x)) 40 42 (-1) = I'
  have fo : ∀ b j, ¬ (b = 65 ∧ j = kn K) → ¬ (b = 40 ∧ j = 42) → I' b j = I b j := fun b j q1 q2 => by rw [← hI', u_n (by omega), u_n (by omega)]
  refine ⟨?_, fun b j q1 q2 => fo b j (by omega) (by omega)⟩
  refine ⟨⟨by rw [fo _ _ (by omega) (by omega), h1]; rfl, by rw [fo _ _ (by omega) (by omega), h2]; rfl, by subst hI'; rw [u_s]; rfl⟩, fun u hu => ?_, fun b hb => by rw [fo _ _ (by omega) (by omega), h5 b hb]; rfl, fun _ => by show I' 64 (kn K) = nI (kA K (kn K)); rw [fo _ _ (by omega) (by omega), h6 (by omega)], fun _ => by show I' 65 (kn K) = nI (updN (kH K) (kn K) x (kn K)); subst hI'; rw [u_n (by omega), u_s, updN_s], fun q => by omega, fun q => by omega, fun q => by omega⟩
  · have hu : u < kn K := hu
    obtain ⟨a1, a2, a3⟩ := h4 u hu
    show _ = nI (kA K u) ∧ _ = nI (updN (kH K) (kn K) x u) ∧ _ = nI (kO K u)
    rw [updN_n (by omega)]
    exact ⟨by rw [fo _ _ (by omega) (by omega), a1], by rw [fo _ _ (by omega) (by omega), a2], by rw [fo _ _ (by omega) (by omega), a3]⟩
set_option maxHeartbeats 4000000 in
set_option maxRecDepth 100000 in
theorem m_keep2 (hW : pu_W s P) {w : Nat} (hww : w = 2) {x w' : Nat} (hw : w' = 3 ∨ w' = 0) (h : MDr I 2 (some x) K) (hk : kn K < 3) : ∃ I', fX9_keep 40 (nI w) (pu_hp s I P J n) = some (pu_hp s I' P J n) ∧ MDr I' w' none (pgK 2 x K) ∧ FrM I I' := by
  obtain ⟨⟨h1, h2, h3⟩, h4, h5, h6, h7, h8, h9, h10⟩ := h
  have h3 : I 40 42 = nI x := h3
  refine ⟨pu_u (pu_u (pu_u I 66 (kn K) (nI x)) 40 33 (nI (kn K + 1))) 40 42 (-1), ?_, ?_⟩
  · unfold fX9_keep fX9_keep_154
    simp (disch := first | assumption | with_unfolding_all exact hW.1 _ _ rfl | rfl | exact pu_okI (by first | assumption | with_unfolding_all exact hW.1 _ _ rfl) (by omega) (by omega) | exact pu_oqI (by first | assumption | with_unfolding_all exact hW.1 _ _ rfl) (by omega) (by omega) | omega | decide) only [↓reduceIte, ↓gi_b, ↓pi_b, ↓gr_b, ↓pr_b, ↓al_b, ↓as_b, ↓al_3, ↓as_3, ↓al_12, ↓as_12, ↓al_l, ↓as_l, ↓rc_b, ↓Option.bind_some, ↓zr0_b, ↓zr1_b, ↓zrb_b, ↓pz0_b, ↓pz1_b, al_b, as_b, rc_b, gi_b, pi_b, gr_b, zr0, zr1, zrb, u_s, u_n, v_s, v_n, ↓isIn_b, ↓within_b, ite_T, ite_F, il_t, il_f, li_t, li_f, it_t, it_f, ti_t, ti_f, ie_t, ie_f, ei_t, ei_f, nn_le_t, nn_le_f, nn_lt_t, nn_lt_f, nn_eq_t, nn_eq_f, nI_1, nI_add, ni_addl, ni_ladd, pk_mul, ni_mull, b2_t, b2_f, b2_0, one0, m1_eq, ni_m1, reduceCtorEq, Bool.false_eq_true, nI_clamp, if_true, Option.some.injEq, Prod.mk.injEq, and_true, true_and, Nat.reduceAdd, Nat.reduceMul, Nat.reduceSub, Nat.reduceEqDiff, Nat.reduceLeDiff, Nat.reduceLT, ↓gr40_34 hW, ↓gr40_35 hW, ↓gr40_36 hW, ↓gr40_41 hW, h1, h2, h3]
  generalize hI' : pu_u (pu_u (pu_u I 66 (kn K) (nI x)) 40 33 (nI (kn K + 1))) 40 42 (-1) = I'
  have fo : ∀ b j, ¬ (b = 66 ∧ j = kn K) → ¬ (b = 40 ∧ (j = 42 ∨ j = 33)) → I' b j = I b j := fun b j q1 q2 => by rw [← hI', u_n (by omega), u_n (by omega), u_n (by omega)]
  refine ⟨?_, fun b j q1 q2 => fo b j (by omega) (by omega)⟩
  refine ⟨⟨by subst hI'; rw [u_n (by omega), u_s]; rfl, by rw [fo _ _ (by omega) (by omega), h2]; rfl, by subst hI'; rw [u_s]; rfl⟩, fun u hu => ?_, fun b hb => by rw [fo _ _ (by omega) (by omega), h5 b hb]; rfl, fun q => by omega, fun q => by omega, fun q => by omega, fun q => by omega, fun q => by omega⟩
  · have hu : u < kn K + 1 := hu
    show _ = nI (kA K u) ∧ _ = nI (kH K u) ∧ _ = nI (updN (kO K) (kn K) x u)
    by_cases q : u = kn K
    · subst q
      rw [updN_s]
      exact ⟨by rw [fo _ _ (by omega) (by omega), h6 (by omega)], by rw [fo _ _ (by omega) (by omega), h7 rfl], by subst hI'; rw [u_n (by omega), u_n (by omega), u_s]⟩
    · obtain ⟨a1, a2, a3⟩ := h4 u (by omega)
      rw [updN_n q]
      exact ⟨by rw [fo _ _ (by omega) (by omega), a1], by rw [fo _ _ (by omega) (by omega), a2], by rw [fo _ _ (by omega) (by omega), a3]⟩
set_option maxHeartbeats 4000000 in
set_option maxRecDepth 100000 in
theorem m_keep3 (hW : pu_W s P) {w : Nat} (hww : w = 3) {x w' : Nat} (hw : w' = 4) (h : MDr I 3 (some x) K) (hk : kn K ≤ 3) : ∃ I', fX9_keep 40 (nI w) (pu_hp s I P J n) = some (pu_hp s I' P J n) ∧ MDr I' w' none (pgK 3 x K) ∧ FrM I I' := by
  obtain ⟨⟨h1, h2, h3⟩, h4, h5, h6, h7, h8, h9, h10⟩ := h
  have h3 : I 40 42 = nI x := h3
  refine ⟨pu_u (pu_u I 40 37 (nI x)) 40 42 (-1), ?_, ?_⟩
  · unfold fX9_keep fX9_keep_154
    simp (disch := first | assumption | with_unfolding_all exact hW.1 _ _ rfl | rfl | exact pu_okI (by first | assumption | with_unfolding_all exact hW.1 _ _ rfl) (by omega) (by omega) | exact pu_oqI (by first | assumption | with_unfolding_all exact hW.1 _ _ rfl) (by omega) (by omega) | omega | decide) only [↓reduceIte, ↓gi_b, ↓pi_b, ↓gr_b, ↓pr_b, ↓al_b, ↓as_b, ↓al_3, ↓as_3, ↓al_12, ↓as_12, ↓al_l, ↓as_l, ↓rc_b, ↓Option.bind_some, ↓zr0_b, ↓zr1_b, ↓zrb_b, ↓pz0_b, ↓pz1_b, al_b, as_b, rc_b, gi_b, pi_b, gr_b, zr0, zr1, zrb, u_s, u_n, v_s, v_n, ↓isIn_b, ↓within_b, ite_T, ite_F, il_t, il_f, li_t, li_f, it_t, it_f, ti_t, ti_f, ie_t, ie_f, ei_t, ei_f, nn_le_t, nn_le_f, nn_lt_t, nn_lt_f, nn_eq_t, nn_eq_f, nI_1, nI_add, ni_addl, ni_ladd, pk_mul, ni_mull, b2_t, b2_f, b2_0, one0, m1_eq, ni_m1, reduceCtorEq, Bool.false_eq_true, nI_clamp, if_true, Option.some.injEq, Prod.mk.injEq, and_true, true_and, Nat.reduceAdd, Nat.reduceMul, Nat.reduceSub, Nat.reduceEqDiff, Nat.reduceLeDiff, Nat.reduceLT, ↓gr40_34 hW, ↓gr40_35 hW, ↓gr40_36 hW, ↓gr40_41 hW, h1, h2, h3]
  generalize hI' : pu_u (pu_u I 40 37 (nI x)) 40 42 (-1) = I'
  have fo : ∀ b j, ¬ (b = 40 ∧ j = 37) → ¬ (b = 40 ∧ j = 42) → I' b j = I b j := fun b j q1 q2 => by rw [← hI', u_n (by omega), u_n (by omega)]
  refine ⟨?_, fun b j q1 q2 => fo b j (by omega) (by omega)⟩
  refine ⟨⟨by rw [fo _ _ (by omega) (by omega), h1]; rfl, by rw [fo _ _ (by omega) (by omega), h2]; rfl, by subst hI'; rw [u_s]; rfl⟩, fun u hu => ?_, fun b hb => by rw [fo _ _ (by omega) (by omega), h5 b hb]; rfl, fun q => by omega, fun q => by omega, fun _ => by subst hI'; rw [u_n (by omega), u_s]; rfl, fun q => by omega, fun q => by omega⟩
  · have hu : u < kn K := hu
    obtain ⟨a1, a2, a3⟩ := h4 u hu
    exact ⟨by rw [fo _ _ (by omega) (by omega), a1]; rfl, by rw [fo _ _ (by omega) (by omega), a2]; rfl, by rw [fo _ _ (by omega) (by omega), a3]; rfl⟩
set_option maxHeartbeats 4000000 in
set_option maxRecDepth 100000 in
theorem m_keep4 (hW : pu_W s P) {w : Nat} (hww : w = 4) {x w' : Nat} (hw : w' = 7) (h : MDr I 4 (some x) K) (hk : kn K ≤ 3) : ∃ I', fX9_keep 40 (nI w) (pu_hp s I P J n) = some (pu_hp s I' P J n) ∧ MDr I' w' none (pgK 4 x K) ∧ FrM I I' := by
  obtain ⟨⟨h1, h2, h3⟩, h4, h5, h6, h7, h8, h9, h10⟩ := h
  have h3 : I 40 42 = nI x := h3
  refine ⟨pu_u (pu_u I 40 38 (nI x)) 40 42 (-1), ?_, ?_⟩
  · unfold fX9_keep fX9_keep_154
    simp (disch := first | assumption | with_unfolding_all exact hW.1 _ _ rfl | rfl | exact pu_okI (by first | assumption | with_unfolding_all exact hW.1 _ _ rfl) (by omega) (by omega) | exact pu_oqI (by first | assumption | with_unfolding_all exact hW.1 _ _ rfl) (by omega) (by omega) | omega | decide) only [↓reduceIte, ↓gi_b, ↓pi_b, ↓gr_b, ↓pr_b, ↓al_b, ↓as_b, ↓al_3, ↓as_3, ↓al_12, ↓as_12, ↓al_l, ↓as_l, ↓rc_b, ↓Option.bind_some, ↓zr0_b, ↓zr1_b, ↓zrb_b, ↓pz0_b, ↓pz1_b, al_b, as_b, rc_b, gi_b, pi_b, gr_b, zr0, zr1, zrb, u_s, u_n, v_s, v_n, ↓isIn_b, ↓within_b, ite_T, ite_F, il_t, il_f, li_t, li_f, it_t, it_f, ti_t, ti_f, ie_t, ie_f, ei_t, ei_f, nn_le_t, nn_le_f, nn_lt_t, nn_lt_f, nn_eq_t, nn_eq_f, nI_1, nI_add, ni_addl, ni_ladd, pk_mul, ni_mull, b2_t, b2_f, b2_0, one0, m1_eq, ni_m1, reduceCtorEq, Bool.false_eq_true, nI_clamp, if_true, Option.some.injEq, Prod.mk.injEq, and_true, true_and, Nat.reduceAdd, Nat.reduceMul, Nat.reduceSub, Nat.reduceEqDiff, Nat.reduceLeDiff, Nat.reduceLT, ↓gr40_34 hW, ↓gr40_35 hW, ↓gr40_36 hW, ↓gr40_41 hW, h1, h2, h3]
  generalize hI' : pu_u (pu_u I 40 38 (nI x)) 40 42 (-1) = I'
  have fo : ∀ b j, ¬ (b = 40 ∧ j = 38) → ¬ (b = 40 ∧ j = 42) → I' b j = I b j := fun b j q1 q2 => by rw [← hI', u_n (by omega), u_n (by omega)]
  refine ⟨?_, fun b j q1 q2 => fo b j (by omega) (by omega)⟩
  refine ⟨⟨by rw [fo _ _ (by omega) (by omega), h1]; rfl, by rw [fo _ _ (by omega) (by omega), h2]; rfl, by subst hI'; rw [u_s]; rfl⟩, fun u hu => ?_, fun b hb => by rw [fo _ _ (by omega) (by omega), h5 b hb]; rfl, fun q => by omega, fun q => by omega, fun _ => by rw [fo _ _ (by omega) (by omega), h8 (by omega)]; rfl, fun _ => by subst hI'; rw [u_n (by omega), u_s]; rfl, fun q => by omega⟩
  · have hu : u < kn K := hu
    obtain ⟨a1, a2, a3⟩ := h4 u hu
    exact ⟨by rw [fo _ _ (by omega) (by omega), a1]; rfl, by rw [fo _ _ (by omega) (by omega), a2]; rfl, by rw [fo _ _ (by omega) (by omega), a3]; rfl⟩
set_option maxHeartbeats 4000000 in
set_option maxRecDepth 100000 in
theorem m_keep5 (hW : pu_W s P) {w : Nat} (hww : w = 5) {x w' : Nat} (hw : w' = 8) (h : MDr I 5 (some x) K) (hk : kn K ≤ 3) : ∃ I', fX9_keep 40 (nI w) (pu_hp s I P J n) = some (pu_hp s I' P J n) ∧ MDr I' w' none (pgK 5 x K) ∧ FrM I I' := by
  obtain ⟨⟨h1, h2, h3⟩, h4, h5, h6, h7, h8, h9, h10⟩ := h
  have h3 : I 40 42 = nI x := h3
  refine ⟨pu_u (pu_u I 40 39 (nI x)) 40 42 (-1), ?_, ?_⟩
  · unfold fX9_keep fX9_keep_154
    simp (disch := first | assumption | with_unfolding_all exact hW.1 _ _ rfl | rfl | exact pu_okI (by first | assumption | with_unfolding_all exact hW.1 _ _ rfl) (by omega) (by omega) | exact pu_oqI (by first | assumption | with_unfolding_all exact hW.1 _ _ rfl) (by omega) (by omega) | omega | decide) only [↓reduceIte, ↓gi_b, ↓pi_b, ↓gr_b, ↓pr_b, ↓al_b, ↓as_b, ↓al_3, ↓as_3, ↓al_12, ↓as_12, ↓al_l, ↓as_l, ↓rc_b, ↓Option.bind_some, ↓zr0_b, ↓zr1_b, ↓zrb_b, ↓pz0_b, ↓pz1_b, al_b, as_b, rc_b, gi_b, pi_b, gr_b, zr0, zr1, zrb, u_s, u_n, v_s, v_n, ↓isIn_b, ↓within_b, ite_T, ite_F, il_t, il_f, li_t, li_f, it_t, it_f, ti_t, ti_f, ie_t, ie_f, ei_t, ei_f, nn_le_t, nn_le_f, nn_lt_t, nn_lt_f, nn_eq_t, nn_eq_f, nI_1, nI_add, ni_addl, ni_ladd, pk_mul, ni_mull, b2_t, b2_f, b2_0, one0, m1_eq, ni_m1, reduceCtorEq, Bool.false_eq_true, nI_clamp, if_true, Option.some.injEq, Prod.mk.injEq, and_true, true_and, Nat.reduceAdd, Nat.reduceMul, Nat.reduceSub, Nat.reduceEqDiff, Nat.reduceLeDiff, Nat.reduceLT, ↓gr40_34 hW, ↓gr40_35 hW, ↓gr40_36 hW, ↓gr40_41 hW, h1, h2, h3]
  generalize hI' : pu_u (pu_u I 40 39 (nI x)) 40 42 (-1) = I'
  have fo : ∀ b j, ¬ (b = 40 ∧ j = 39) → ¬ (b = 40 ∧ j = 42) → I' b j = I b j := fun b j q1 q2 => by rw [← hI', u_n (by omega), u_n (by omega)]
  refine ⟨?_, fun b j q1 q2 => fo b j (by omega) (by omega)⟩
  refine ⟨⟨by rw [fo _ _ (by omega) (by omega), h1]; rfl, by rw [fo _ _ (by omega) (by omega), h2]; rfl, by subst hI'; rw [u_s]; rfl⟩, fun u hu => ?_, fun b hb => by rw [fo _ _ (by omega) (by omega), h5 b hb]; rfl, fun q => by omega, fun q => by omega, fun _ => by rw [fo _ _ (by omega) (by omega), h8 (by omega)]; rfl, fun _ => by rw [fo _ _ (by omega) (by omega), h9 (by omega)]; rfl, fun _ => by subst hI'; rw [u_n (by omega), u_s]; rfl⟩
  · have hu : u < kn K := hu
    obtain ⟨a1, a2, a3⟩ := h4 u hu
    exact ⟨by rw [fo _ _ (by omega) (by omega), a1]; rfl, by rw [fo _ _ (by omega) (by omega), a2]; rfl, by rw [fo _ _ (by omega) (by omega), a3]; rfl⟩
set_option maxHeartbeats 4000000 in
set_option maxRecDepth 100000 in
theorem m_keep6 (hW : pu_W s P) {w : Nat} (hww : w = 6) {x w' : Nat} (hw : w' = 6) (h : MDr I 6 (some x) K) (hk : knb K < 12) : ∃ I', fX9_keep 40 (nI w) (pu_hp s I P J n) = some (pu_hp s I' P J n) ∧ MDr I' w' none (pgK 6 x K) ∧ FrM I I' := by
  obtain ⟨⟨h1, h2, h3⟩, h4, h5, h6, h7, h8, h9, h10⟩ := h
  have h3 : I 40 42 = nI x := h3
  refine ⟨pu_u (pu_u (pu_u I 67 (knb K) (nI x)) 40 40 (nI (knb K + 1))) 40 42 (-1), ?_, ?_⟩
  · unfold fX9_keep fX9_keep_154
    simp (disch := first | assumption | with_unfolding_all exact hW.1 _ _ rfl | rfl | exact pu_okI (by first | assumption | with_unfolding_all exact hW.1 _ _ rfl) (by omega) (by omega) | exact pu_oqI (by first | assumption | with_unfolding_all exact hW.1 _ _ rfl) (by omega) (by omega) | omega | decide) only [↓reduceIte, ↓gi_b, ↓pi_b, ↓gr_b, ↓pr_b, ↓al_b, ↓as_b, ↓al_3, ↓as_3, ↓al_12, ↓as_12, ↓al_l, ↓as_l, ↓rc_b, ↓Option.bind_some, ↓zr0_b, ↓zr1_b, ↓zrb_b, ↓pz0_b, ↓pz1_b, al_b, as_b, rc_b, gi_b, pi_b, gr_b, zr0, zr1, zrb, u_s, u_n, v_s, v_n, ↓isIn_b, ↓within_b, ite_T, ite_F, il_t, il_f, li_t, li_f, it_t, it_f, ti_t, ti_f, ie_t, ie_f, ei_t, ei_f, nn_le_t, nn_le_f, nn_lt_t, nn_lt_f, nn_eq_t, nn_eq_f, nI_1, nI_add, ni_addl, ni_ladd, pk_mul, ni_mull, b2_t, b2_f, b2_0, one0, m1_eq, ni_m1, reduceCtorEq, Bool.false_eq_true, nI_clamp, if_true, Option.some.injEq, Prod.mk.injEq, and_true, true_and, Nat.reduceAdd, Nat.reduceMul, Nat.reduceSub, Nat.reduceEqDiff, Nat.reduceLeDiff, Nat.reduceLT, ↓gr40_34 hW, ↓gr40_35 hW, ↓gr40_36 hW, ↓gr40_41 hW, h1, h2, h3]
  generalize hI' : pu_u (pu_u (pu_u I 67 (knb K) (nI x)) 40 40 (nI (knb K + 1))) 40 42 (-1) = I'
  have fo : ∀ b j, ¬ (b = 67 ∧ j = knb K) → ¬ (b = 40 ∧ (j = 42 ∨ j = 40)) → I' b j = I b j := fun b j q1 q2 => by rw [← hI', u_n (by omega), u_n (by omega), u_n (by omega)]
  refine ⟨?_, fun b j q1 q2 => fo b j (by omega) (by omega)⟩
  refine ⟨⟨by rw [fo _ _ (by omega) (by omega), h1]; rfl, by subst hI'; rw [u_n (by omega), u_s]; rfl, by subst hI'; rw [u_s]; rfl⟩, fun u hu => ?_, fun b hb => ?_, fun q => by omega, fun q => by omega, fun _ => by rw [fo _ _ (by omega) (by omega), h8 (by omega)]; rfl, fun _ => by rw [fo _ _ (by omega) (by omega), h9 (by omega)]; rfl, fun _ => by rw [fo _ _ (by omega) (by omega), h10 (by omega)]; rfl⟩
  · have hu : u < kn K := hu
    obtain ⟨a1, a2, a3⟩ := h4 u hu
    exact ⟨by rw [fo _ _ (by omega) (by omega), a1]; rfl, by rw [fo _ _ (by omega) (by omega), a2]; rfl, by rw [fo _ _ (by omega) (by omega), a3]; rfl⟩
  · have hb : b < knb K + 1 := hb
    show _ = nI (updN (kM K) (knb K) x b)
    by_cases q : b = knb K
    · subst q; rw [updN_s]; subst hI'; rw [u_n (by omega), u_n (by omega), u_s]
    · rw [updN_n q, fo _ _ (by omega) (by omega), h5 b (by omega)]
theorem pgB_cases {w x w' cc : Nat} (hw : w ≤ 6) (h : pgB w x K cc = some w') : (w = 0 ∧ w' = 1) ∨ (w = 1 ∧ w' = 2) ∨ (w = 2 ∧ (w' = 3 ∨ (w' = 0 ∧ kn K < 2))) ∨ (w = 3 ∧ w' = 4) ∨ (w = 4 ∧ w' = 7) ∨ (w = 5 ∧ w' = 8) ∨ (w = 6 ∧ w' = 6 ∧ knb K < 11) := by
  have : w = 0 ∨ w = 1 ∨ w = 2 ∨ w = 3 ∨ w = 4 ∨ w = 5 ∨ w = 6 := by omega
  unfold pgB at h
  rcases this with rfl | rfl | rfl | rfl | rfl | rfl | rfl
  · rw [if_pos rfl] at h
    split at h
    · cases h; omega
    · cases h
  · rw [if_neg (by omega), if_pos rfl] at h
    split at h
    · cases h; omega
    · cases h
  · rw [if_neg (by omega), if_neg (by omega), if_pos rfl] at h
    split at h
    · cases h; omega
    · split at h
      · cases h; omega
      · cases h
  · rw [if_neg (by omega), if_neg (by omega), if_neg (by omega), if_pos rfl] at h
    split at h
    · cases h; omega
    · cases h
  · rw [if_neg (by omega), if_neg (by omega), if_neg (by omega), if_neg (by omega), if_pos rfl] at h
    split at h
    · cases h; omega
    · cases h
  · rw [if_neg (by omega), if_neg (by omega), if_neg (by omega), if_neg (by omega), if_neg (by omega), if_pos rfl] at h
    split at h
    · cases h; omega
    · cases h
  · rw [if_neg (by omega), if_neg (by omega), if_neg (by omega), if_neg (by omega), if_neg (by omega), if_neg (by omega)] at h
    split at h
    · cases h; omega
    · cases h
theorem m_keep (hW : pu_W s P) {x w' cc : Nat} (hw : w ≤ 6) (hb : pgB w x K cc = some w') (h : MDr I w (some x) K) (hB : GBd w (some x) K) : ∃ I', fX9_keep 40 (nI w) (pu_hp s I P J n) = some (pu_hp s I' P J n) ∧ MDr I' w' none (pgK w x K) ∧ GBd w' none (pgK w x K) ∧ FrM I I' := by
  have hx := hB.2.2.2.2.1 x rfl
  obtain ⟨b1, b2, b3, b4, b5, b6⟩ := hB
  have nn : ∀ y : Nat, (none : Option Nat) = some y → y ≤ 99 := fun y q => by cases q
  rcases pgB_cases hw hb with ⟨rfl, rfl⟩ | ⟨rfl, rfl⟩ | ⟨rfl, q⟩ | ⟨rfl, rfl⟩ | ⟨rfl, rfl⟩ | ⟨rfl, rfl⟩ | ⟨rfl, rfl, q⟩
  · obtain ⟨I', e, h1, h2⟩ := m_keep0 (J := J) (n := n) hW rfl rfl h (b2 (by omega))
    exact ⟨I', e, h1, ⟨by omega, fun _ => b2 (by omega), b3, b4, nn, b6⟩, h2⟩
  · obtain ⟨I', e, h1, h2⟩ := m_keep1 (J := J) (n := n) hW rfl rfl h (b2 (by omega))
    exact ⟨I', e, h1, ⟨by omega, fun _ => b2 (by omega), b3, b4, nn, b6⟩, h2⟩
  · have b2 := b2 (by omega)
    obtain ⟨I', e, h1, h2⟩ := m_keep2 (J := J) (n := n) (w' := w') hW rfl (by omega) h b2
    refine ⟨I', e, h1, ⟨by omega, fun _ => ?_, ?_, b4, nn, b6⟩, h2⟩
    · show kn K + 1 < 3; omega
    · show kn K + 1 ≤ 3; omega
  · obtain ⟨I', e, h1, h2⟩ := m_keep3 (J := J) (n := n) hW rfl rfl h (by omega)
    exact ⟨I', e, h1, ⟨by omega, fun q => by omega, b3, b4, nn, b6⟩, h2⟩
  · obtain ⟨I', e, h1, h2⟩ := m_keep4 (J := J) (n := n) hW rfl rfl h (by omega)
    exact ⟨I', e, h1, ⟨by omega, fun q => by omega, b3, b4, nn, b6⟩, h2⟩
  · obtain ⟨I', e, h1, h2⟩ := m_keep5 (J := J) (n := n) hW rfl rfl h (by omega)
    exact ⟨I', e, h1, ⟨by omega, fun q => by omega, b3, b4, nn, b6⟩, h2⟩
  · obtain ⟨I', e, h1, h2⟩ := m_keep6 (J := J) (n := n) hW rfl rfl h b4
    refine ⟨I', e, h1, ⟨by omega, fun q => by omega, b3, ?_, nn, by rw [mkP_6]; exact hx⟩, h2⟩
    show knb K + 1 < 12; omega
theorem MDr.val {v' : Option Nat} {y : Int32} (h : MDr I w v K) (hy : y = oN v') : MDr (pu_u I 40 42 y) w v' K := by
  subst hy
  obtain ⟨⟨h1, h2, h3⟩, h4, h5, h6, h7, h8, h9, h10⟩ := h
  refine ⟨⟨by rw [u_n (by omega), h1], by rw [u_n (by omega), h2], u_s⟩, fun u hu => ?_, fun b hb => by rw [u_n (by omega), h5 b hb], fun q => by rw [u_n (by omega), h6 q], fun q => by rw [u_n (by omega), h7 q], fun q => by rw [u_n (by omega), h8 q], fun q => by rw [u_n (by omega), h9 q], fun q => by rw [u_n (by omega), h10 q]⟩
  obtain ⟨a1, a2, a3⟩ := h4 u hu
  exact ⟨by rw [u_n (by omega), a1], by rw [u_n (by omega), a2], by rw [u_n (by omega), a3]⟩
theorem MDr.fr {I' : Nat → Nat → Int32} (h : MDr I w v K) (hf : ∀ b j, ¬ (b = 40 ∧ (j = 31 ∨ j = 32)) → I' b j = I b j) : MDr I' w v K := by
  obtain ⟨⟨h1, h2, h3⟩, h4, h5, h6, h7, h8, h9, h10⟩ := h
  refine ⟨⟨by rw [hf _ _ (by omega), h1], by rw [hf _ _ (by omega), h2], by rw [hf _ _ (by omega), h3]⟩, fun u hu => ?_, fun b hb => by rw [hf _ _ (by omega), h5 b hb], fun q => by rw [hf _ _ (by omega), h6 q], fun q => by rw [hf _ _ (by omega), h7 q], fun q => by rw [hf _ _ (by omega), h8 q], fun q => by rw [hf _ _ (by omega), h9 q], fun q => by rw [hf _ _ (by omega), h10 q]⟩
  obtain ⟨a1, a2, a3⟩ := h4 u hu
  exact ⟨by rw [hf _ _ (by omega), a1], by rw [hf _ _ (by omega), a2], by rw [hf _ _ (by omega), a3]⟩
theorem FrM_42 {y : Int32} : FrM I (pu_u I 40 42 y) := fun b j q1 q2 => u_n (by omega)
set_option maxHeartbeats 4000000 in
set_option maxRecDepth 100000 in
theorem m_step (hW : pu_W s P) {N : Nat} (hp : p < L) (hP : PgM I L c) (h : MDr I w v K) (hB : GBd w v K) (h7 : 6 < w → v = none) :
    (∃ w' v' K' I', pgS w v K p (c p) = some (w', v', K', p + 1) ∧ GBd w' v' K' ∧ (6 < w' → v' = none) ∧ fX9_readPage_21 (N + 1) (some 40) (nI w) (nI p) 1 (pu_hp s I P J n) = fX9_readPage_21 N (some 40) (nI w') (nI (p + 1)) 1 (pu_hp s I' P J n) ∧ MDr I' w' v' K' ∧ FrM I I') ∨
    (∃ I', pgS w v K p (c p) = none ∧ fX9_readPage_21 (N + 1) (some 40) (nI w) (nI p) 1 (pu_hp s I P J n) = fX9_readPage_21 N (some 40) (nI w) (nI p) 0 (pu_hp s I' P J n) ∧ MDr I' w v K ∧ FrM I I') := by
  obtain ⟨p1, p2, p3⟩ := hP
  obtain ⟨e6, c1, c2⟩ := p3 p hp
  have b8 := hB.1
  have e0 : nI p + 0 = nI p := Int32.add_zero _
  have e42 := h.1.2.2
  by_cases hw : w ≤ 6
  · have edg := m_dig c2 (pu_hp s I P J n)
    by_cases hd : 48 ≤ c p ∧ c p ≤ 57
    · rw [decide_eq_true hd] at edg
      have e48 : nI (c p) - 48 = nI (c p - 48) := pk_sub (a := c p) (b := 48) hd.1
      cases v with
      | none =>
        have ef := m_fitsN (J := J) (n := n) hW h hB hw (d := c p - 48) (by omega)
        have e42 : I 40 42 = -1 := e42
        by_cases cf : (0 < c p - 48 ∨ w = 5) ∧ (¬ w = 6 ∨ mkP K < c p - 48 ∨ mkP K < 10 * (c p - 48) + 9)
        · rw [decide_eq_true cf] at ef
          refine Or.inl ⟨w, some (c p - 48), K, pu_u I 40 42 (nI (c p - 48)), ?_, ⟨hB.1, hB.2.1, hB.2.2.1, hB.2.2.2.1, fun x q => by cases q; omega, hB.2.2.2.2.2⟩, fun q => by omega, ?_, h.val rfl, FrM_42⟩
          · unfold pgS
            rw [if_neg (by omega), if_pos hd]
            show (if _ then _ else _) = _
            rw [if_pos cf]
          · show fX9_readPage_21_b (fX9_readPage_21 N) _ _ _ _ _ = _
            unfold fX9_readPage_21_b fX9_readPage_146 fX9_readPage_197 fX9_readPage_207
            simp (disch := first | assumption | with_unfolding_all exact hW.1 _ _ rfl | rfl | exact pu_okI (by first | assumption | with_unfolding_all exact hW.1 _ _ rfl) (by omega) (by omega) | exact pu_oqI (by first | assumption | with_unfolding_all exact hW.1 _ _ rfl) (by omega) (by omega) | omega | decide) only [↓reduceIte, ↓gi_b, ↓pi_b, ↓gr_b, ↓pr_b, ↓al_b, ↓as_b, ↓al_3, ↓as_3, ↓al_12, ↓as_12, ↓al_l, ↓as_l, ↓rc_b, ↓Option.bind_some, ↓zr0_b, ↓zr1_b, ↓zrb_b, ↓pz0_b, ↓pz1_b, al_b, as_b, rc_b, gi_b, pi_b, gr_b, zr0, zr1, zrb, u_s, u_n, v_s, v_n, ↓isIn_b, ↓within_b, ite_T, ite_F, il_t, il_f, li_t, li_f, it_t, it_f, ti_t, ti_f, ie_t, ie_f, ei_t, ei_f, nn_le_t, nn_le_f, nn_lt_t, nn_lt_f, nn_eq_t, nn_eq_f, nI_1, nI_add, ni_addl, ni_ladd, pk_mul, ni_mull, b2_t, b2_f, b2_0, one0, m1_eq, ni_m1, reduceCtorEq, Bool.false_eq_true, nI_clamp, if_true, Option.some.injEq, Prod.mk.injEq, and_true, true_and, Nat.reduceAdd, Nat.reduceMul, Nat.reduceSub, Nat.reduceEqDiff, Nat.reduceLeDiff, Nat.reduceLT, ↓gr40_25 hW, p1, e6, edg, e48, ef, e42]
        · rw [decide_eq_false cf] at ef
          refine Or.inr ⟨pu_u I 40 42 (-1), ?_, ?_, h.val rfl, FrM_42⟩
          · unfold pgS
            rw [if_neg (by omega), if_pos hd]
            show (if _ then _ else _) = _
            rw [if_neg cf]
          · show fX9_readPage_21_b (fX9_readPage_21 N) _ _ _ _ _ = _
            unfold fX9_readPage_21_b fX9_readPage_146 fX9_readPage_197 fX9_readPage_207
            simp (disch := first | assumption | with_unfolding_all exact hW.1 _ _ rfl | rfl | exact pu_okI (by first | assumption | with_unfolding_all exact hW.1 _ _ rfl) (by omega) (by omega) | exact pu_oqI (by first | assumption | with_unfolding_all exact hW.1 _ _ rfl) (by omega) (by omega) | omega | decide) only [↓reduceIte, ↓gi_b, ↓pi_b, ↓gr_b, ↓pr_b, ↓al_b, ↓as_b, ↓al_3, ↓as_3, ↓al_12, ↓as_12, ↓al_l, ↓as_l, ↓rc_b, ↓Option.bind_some, ↓zr0_b, ↓zr1_b, ↓zrb_b, ↓pz0_b, ↓pz1_b, al_b, as_b, rc_b, gi_b, pi_b, gr_b, zr0, zr1, zrb, u_s, u_n, v_s, v_n, ↓isIn_b, ↓within_b, ite_T, ite_F, il_t, il_f, li_t, li_f, it_t, it_f, ti_t, ti_f, ie_t, ie_f, ei_t, ei_f, nn_le_t, nn_le_f, nn_lt_t, nn_lt_f, nn_eq_t, nn_eq_f, nI_1, nI_add, ni_addl, ni_ladd, pk_mul, ni_mull, b2_t, b2_f, b2_0, one0, m1_eq, ni_m1, reduceCtorEq, Bool.false_eq_true, nI_clamp, if_true, Option.some.injEq, Prod.mk.injEq, and_true, true_and, Nat.reduceAdd, Nat.reduceMul, Nat.reduceSub, Nat.reduceEqDiff, Nat.reduceLeDiff, Nat.reduceLT, ↓gr40_25 hW, p1, e6, edg, e48, ef, e42, e0]
      | some x =>
        have hx := hB.2.2.2.2.1 x rfl
        have ef := m_fitsS (J := J) (n := n) hW h hB hw (d := c p - 48) (by omega)
        have e42 : I 40 42 = nI x := e42
        have hl := pg_lh (K := K) hw
        have e10 : (10 : Int32) * nI x + nI (c p) - 48 = nI (10 * x + (c p - 48)) := by
          rw [show (10 : Int32) = nI 10 from rfl, pk_mul, nI_add, show (48 : Int32) = nI 48 from rfl, pk_sub (by omega)]
          congr 1; omega
        by_cases cf : 0 < x ∧ 10 * x + (c p - 48) ≤ hiN w ∧ (¬ w = 6 ∨ mkP K < 10 * x + (c p - 48))
        · rw [decide_eq_true cf] at ef
          refine Or.inl ⟨w, some (10 * x + (c p - 48)), K, pu_u I 40 42 (nI (10 * x + (c p - 48))), ?_, ⟨hB.1, hB.2.1, hB.2.2.1, hB.2.2.2.1, fun x' q => by cases q; omega, hB.2.2.2.2.2⟩, fun q => by omega, ?_, h.val rfl, FrM_42⟩
          · unfold pgS
            rw [if_neg (by omega), if_pos hd]
            show (if _ then _ else _) = _
            rw [if_pos cf]
          · show fX9_readPage_21_b (fX9_readPage_21 N) _ _ _ _ _ = _
            unfold fX9_readPage_21_b fX9_readPage_146 fX9_readPage_197 fX9_readPage_207
            rw [← e10]
            simp (disch := first | assumption | with_unfolding_all exact hW.1 _ _ rfl | rfl | exact pu_okI (by first | assumption | with_unfolding_all exact hW.1 _ _ rfl) (by omega) (by omega) | exact pu_oqI (by first | assumption | with_unfolding_all exact hW.1 _ _ rfl) (by omega) (by omega) | omega | decide) only [↓reduceIte, ↓gi_b, ↓pi_b, ↓gr_b, ↓pr_b, ↓al_b, ↓as_b, ↓al_3, ↓as_3, ↓al_12, ↓as_12, ↓al_l, ↓as_l, ↓rc_b, ↓Option.bind_some, ↓zr0_b, ↓zr1_b, ↓zrb_b, ↓pz0_b, ↓pz1_b, al_b, as_b, rc_b, gi_b, pi_b, gr_b, zr0, zr1, zrb, u_s, u_n, v_s, v_n, ↓isIn_b, ↓within_b, ite_T, ite_F, il_t, il_f, li_t, li_f, it_t, it_f, ti_t, ti_f, ie_t, ie_f, ei_t, ei_f, nn_le_t, nn_le_f, nn_lt_t, nn_lt_f, nn_eq_t, nn_eq_f, nI_1, nI_add, ni_addl, ni_ladd, pk_mul, ni_mull, b2_t, b2_f, b2_0, one0, m1_eq, ni_m1, reduceCtorEq, Bool.false_eq_true, nI_clamp, if_true, Option.some.injEq, Prod.mk.injEq, and_true, true_and, Nat.reduceAdd, Nat.reduceMul, Nat.reduceSub, Nat.reduceEqDiff, Nat.reduceLeDiff, Nat.reduceLT, ↓gr40_25 hW, p1, e6, edg, e48, ef, e42]
        · rw [decide_eq_false cf] at ef
          refine Or.inr ⟨pu_u I 40 42 (nI x), ?_, ?_, h.val rfl, FrM_42⟩
          · unfold pgS
            rw [if_neg (by omega), if_pos hd]
            show (if _ then _ else _) = _
            rw [if_neg cf]
          · show fX9_readPage_21_b (fX9_readPage_21 N) _ _ _ _ _ = _
            unfold fX9_readPage_21_b fX9_readPage_146 fX9_readPage_197 fX9_readPage_207
            simp (disch := first | assumption | with_unfolding_all exact hW.1 _ _ rfl | rfl | exact pu_okI (by first | assumption | with_unfolding_all exact hW.1 _ _ rfl) (by omega) (by omega) | exact pu_oqI (by first | assumption | with_unfolding_all exact hW.1 _ _ rfl) (by omega) (by omega) | omega | decide) only [↓reduceIte, ↓gi_b, ↓pi_b, ↓gr_b, ↓pr_b, ↓al_b, ↓as_b, ↓al_3, ↓as_3, ↓al_12, ↓as_12, ↓al_l, ↓as_l, ↓rc_b, ↓Option.bind_some, ↓zr0_b, ↓zr1_b, ↓zrb_b, ↓pz0_b, ↓pz1_b, al_b, as_b, rc_b, gi_b, pi_b, gr_b, zr0, zr1, zrb, u_s, u_n, v_s, v_n, ↓isIn_b, ↓within_b, ite_T, ite_F, il_t, il_f, li_t, li_f, it_t, it_f, ti_t, ti_f, ie_t, ie_f, ei_t, ei_f, nn_le_t, nn_le_f, nn_lt_t, nn_lt_f, nn_eq_t, nn_eq_f, nI_1, nI_add, ni_addl, ni_ladd, pk_mul, ni_mull, b2_t, b2_f, b2_0, one0, m1_eq, ni_m1, reduceCtorEq, Bool.false_eq_true, nI_clamp, if_true, Option.some.injEq, Prod.mk.injEq, and_true, true_and, Nat.reduceAdd, Nat.reduceMul, Nat.reduceSub, Nat.reduceEqDiff, Nat.reduceLeDiff, Nat.reduceLT, ↓gr40_25 hW, p1, e6, edg, e48, ef, e42, e0]
    · rw [decide_eq_false hd] at edg
      cases v with
      | none =>
        have e42 : I 40 42 = -1 := e42
        refine Or.inr ⟨I, ?_, ?_, h, fun _ _ _ _ => rfl⟩
        · unfold pgS
          rw [if_neg (by omega), if_neg hd]
        · show fX9_readPage_21_b (fX9_readPage_21 N) _ _ _ _ _ = _
          unfold fX9_readPage_21_b fX9_readPage_171 fX9_readPage_184 fX9_readPage_197 fX9_readPage_207
          simp (disch := first | assumption | with_unfolding_all exact hW.1 _ _ rfl | rfl | exact pu_okI (by first | assumption | with_unfolding_all exact hW.1 _ _ rfl) (by omega) (by omega) | exact pu_oqI (by first | assumption | with_unfolding_all exact hW.1 _ _ rfl) (by omega) (by omega) | omega | decide) only [↓reduceIte, ↓gi_b, ↓pi_b, ↓gr_b, ↓pr_b, ↓al_b, ↓as_b, ↓al_3, ↓as_3, ↓al_12, ↓as_12, ↓al_l, ↓as_l, ↓rc_b, ↓Option.bind_some, ↓zr0_b, ↓zr1_b, ↓zrb_b, ↓pz0_b, ↓pz1_b, al_b, as_b, rc_b, gi_b, pi_b, gr_b, zr0, zr1, zrb, u_s, u_n, v_s, v_n, ↓isIn_b, ↓within_b, ite_T, ite_F, il_t, il_f, li_t, li_f, it_t, it_f, ti_t, ti_f, ie_t, ie_f, ei_t, ei_f, nn_le_t, nn_le_f, nn_lt_t, nn_lt_f, nn_eq_t, nn_eq_f, nI_1, nI_add, ni_addl, ni_ladd, pk_mul, ni_mull, b2_t, b2_f, b2_0, one0, m1_eq, ni_m1, reduceCtorEq, Bool.false_eq_true, nI_clamp, if_true, Option.some.injEq, Prod.mk.injEq, and_true, true_and, Nat.reduceAdd, Nat.reduceMul, Nat.reduceSub, Nat.reduceEqDiff, Nat.reduceLeDiff, Nat.reduceLT, ↓gr40_25 hW, p1, e6, edg, e42, e0]
      | some x =>
        have hx := hB.2.2.2.2.1 x rfl
        have e42 : I 40 42 = nI x := e42
        have eb := m_behind (J := J) (n := n) hW h hB hw c2
        cases hb : pgB w x K (c p) with
        | none =>
          rw [hb] at eb
          have eb' : fX9_behind 40 (nI w) (nI (c p)) (pu_hp s I P J n) = some (-1, pu_hp s I P J n) := eb
          refine Or.inr ⟨I, ?_, ?_, h, fun _ _ _ _ => rfl⟩
          · unfold pgS
            rw [if_neg (by omega), if_neg hd]
            show (pgB w x K (c p)).map _ = _
            rw [hb]; rfl
          · show fX9_readPage_21_b (fX9_readPage_21 N) _ _ _ _ _ = _
            unfold fX9_readPage_21_b fX9_readPage_171 fX9_readPage_184 fX9_readPage_197 fX9_readPage_207
            simp (disch := first | assumption | with_unfolding_all exact hW.1 _ _ rfl | rfl | exact pu_okI (by first | assumption | with_unfolding_all exact hW.1 _ _ rfl) (by omega) (by omega) | exact pu_oqI (by first | assumption | with_unfolding_all exact hW.1 _ _ rfl) (by omega) (by omega) | omega | decide) only [↓reduceIte, ↓gi_b, ↓pi_b, ↓gr_b, ↓pr_b, ↓al_b, ↓as_b, ↓al_3, ↓as_3, ↓al_12, ↓as_12, ↓al_l, ↓as_l, ↓rc_b, ↓Option.bind_some, ↓zr0_b, ↓zr1_b, ↓zrb_b, ↓pz0_b, ↓pz1_b, al_b, as_b, rc_b, gi_b, pi_b, gr_b, zr0, zr1, zrb, u_s, u_n, v_s, v_n, ↓isIn_b, ↓within_b, ite_T, ite_F, il_t, il_f, li_t, li_f, it_t, it_f, ti_t, ti_f, ie_t, ie_f, ei_t, ei_f, nn_le_t, nn_le_f, nn_lt_t, nn_lt_f, nn_eq_t, nn_eq_f, nI_1, nI_add, ni_addl, ni_ladd, pk_mul, ni_mull, b2_t, b2_f, b2_0, one0, m1_eq, ni_m1, reduceCtorEq, Bool.false_eq_true, nI_clamp, if_true, Option.some.injEq, Prod.mk.injEq, and_true, true_and, Nat.reduceAdd, Nat.reduceMul, Nat.reduceSub, Nat.reduceEqDiff, Nat.reduceLeDiff, Nat.reduceLT, ↓gr40_25 hW, p1, e6, edg, e42, e0, eb']
        | some w' =>
          rw [hb] at eb
          have eb' : fX9_behind 40 (nI w) (nI (c p)) (pu_hp s I P J n) = some (nI w', pu_hp s I P J n) := eb
          obtain ⟨I', ek, k1, k2, k3⟩ := m_keep (J := J) (n := n) hW hw hb h hB
          have hw8 := k2.1
          refine Or.inl ⟨w', none, pgK w x K, I', ?_, k2, fun _ => rfl, ?_, k1, k3⟩
          · unfold pgS
            rw [if_neg (by omega), if_neg hd]
            show (pgB w x K (c p)).map _ = _
            rw [hb]; rfl
          · show fX9_readPage_21_b (fX9_readPage_21 N) _ _ _ _ _ = _
            unfold fX9_readPage_21_b fX9_readPage_171 fX9_readPage_184 fX9_readPage_197 fX9_readPage_207
            simp (disch := first | assumption | with_unfolding_all exact hW.1 _ _ rfl | rfl | exact pu_okI (by first | assumption | with_unfolding_all exact hW.1 _ _ rfl) (by omega) (by omega) | exact pu_oqI (by first | assumption | with_unfolding_all exact hW.1 _ _ rfl) (by omega) (by omega) | omega | decide) only [↓reduceIte, ↓gi_b, ↓pi_b, ↓gr_b, ↓pr_b, ↓al_b, ↓as_b, ↓al_3, ↓as_3, ↓al_12, ↓as_12, ↓al_l, ↓as_l, ↓rc_b, ↓Option.bind_some, ↓zr0_b, ↓zr1_b, ↓zrb_b, ↓pz0_b, ↓pz1_b, al_b, as_b, rc_b, gi_b, pi_b, gr_b, zr0, zr1, zrb, u_s, u_n, v_s, v_n, ↓isIn_b, ↓within_b, ite_T, ite_F, il_t, il_f, li_t, li_f, it_t, it_f, ti_t, ti_f, ie_t, ie_f, ei_t, ei_f, nn_le_t, nn_le_f, nn_lt_t, nn_lt_f, nn_eq_t, nn_eq_f, nI_1, nI_add, ni_addl, ni_ladd, pk_mul, ni_mull, b2_t, b2_f, b2_0, one0, m1_eq, ni_m1, reduceCtorEq, Bool.false_eq_true, nI_clamp, if_true, Option.some.injEq, Prod.mk.injEq, and_true, true_and, Nat.reduceAdd, Nat.reduceMul, Nat.reduceSub, Nat.reduceEqDiff, Nat.reduceLeDiff, Nat.reduceLT, ↓gr40_25 hW, p1, e6, edg, e42, eb', ek]
  · obtain rfl := h7 (by omega)
    obtain ⟨d1, d2, d3, d4, d5, d6, d7, d8⟩ := id h
    have hw78 : w = 7 ∨ w = 8 := by omega
    rcases hw78 with rfl | rfl
    · by_cases q : c p = 115
      · refine Or.inl ⟨5, none, K, I, ?_, ⟨by omega, fun z => by omega, hB.2.2.1, hB.2.2.2.1, hB.2.2.2.2.1, hB.2.2.2.2.2⟩, fun _ => rfl, ?_, ⟨d1, d2, d3, fun z => by omega, fun z => by omega, fun _ => d6 (by omega), fun _ => d7 (by omega), fun z => by omega⟩, fun _ _ _ _ => rfl⟩
        · unfold pgS
          rw [if_pos (by omega), if_pos (by rw [q]; rfl)]
        · show fX9_readPage_21_b (fX9_readPage_21 N) _ _ _ _ _ = _
          unfold fX9_readPage_21_b fX9_readPage_62 fX9_readPage_70 fX9_readPage_82 fX9_readPage_197 fX9_readPage_207
          rw [q] at e6
          simp (disch := first | assumption | with_unfolding_all exact hW.1 _ _ rfl | rfl | exact pu_okI (by first | assumption | with_unfolding_all exact hW.1 _ _ rfl) (by omega) (by omega) | exact pu_oqI (by first | assumption | with_unfolding_all exact hW.1 _ _ rfl) (by omega) (by omega) | omega | decide) only [↓reduceIte, ↓gi_b, ↓pi_b, ↓gr_b, ↓pr_b, ↓al_b, ↓as_b, ↓al_3, ↓as_3, ↓al_12, ↓as_12, ↓al_l, ↓as_l, ↓rc_b, ↓Option.bind_some, ↓zr0_b, ↓zr1_b, ↓zrb_b, ↓pz0_b, ↓pz1_b, al_b, as_b, rc_b, gi_b, pi_b, gr_b, zr0, zr1, zrb, u_s, u_n, v_s, v_n, ↓isIn_b, ↓within_b, ite_T, ite_F, il_t, il_f, li_t, li_f, it_t, it_f, ti_t, ti_f, ie_t, ie_f, ei_t, ei_f, nn_le_t, nn_le_f, nn_lt_t, nn_lt_f, nn_eq_t, nn_eq_f, nI_1, nI_add, ni_addl, ni_ladd, pk_mul, ni_mull, b2_t, b2_f, b2_0, one0, m1_eq, ni_m1, reduceCtorEq, Bool.false_eq_true, nI_clamp, if_true, Option.some.injEq, Prod.mk.injEq, and_true, true_and, Nat.reduceAdd, Nat.reduceMul, Nat.reduceSub, Nat.reduceEqDiff, Nat.reduceLeDiff, Nat.reduceLT, ↓gr40_25 hW, p1, e6, show nI 115 = (115 : Int32) from rfl, show nI 7 - 2 = nI 5 from rfl]
      · refine Or.inr ⟨I, ?_, ?_, h, fun _ _ _ _ => rfl⟩
        · unfold pgS
          rw [if_pos (by omega), if_neg (by rw [if_pos rfl]; exact q)]
        · show fX9_readPage_21_b (fX9_readPage_21 N) _ _ _ _ _ = _
          unfold fX9_readPage_21_b fX9_readPage_62 fX9_readPage_70 fX9_readPage_82 fX9_readPage_197 fX9_readPage_207
          simp (disch := first | assumption | with_unfolding_all exact hW.1 _ _ rfl | rfl | exact pu_okI (by first | assumption | with_unfolding_all exact hW.1 _ _ rfl) (by omega) (by omega) | exact pu_oqI (by first | assumption | with_unfolding_all exact hW.1 _ _ rfl) (by omega) (by omega) | omega | decide) only [↓reduceIte, ↓gi_b, ↓pi_b, ↓gr_b, ↓pr_b, ↓al_b, ↓as_b, ↓al_3, ↓as_3, ↓al_12, ↓as_12, ↓al_l, ↓as_l, ↓rc_b, ↓Option.bind_some, ↓zr0_b, ↓zr1_b, ↓zrb_b, ↓pz0_b, ↓pz1_b, al_b, as_b, rc_b, gi_b, pi_b, gr_b, zr0, zr1, zrb, u_s, u_n, v_s, v_n, ↓isIn_b, ↓within_b, ite_T, ite_F, il_t, il_f, li_t, li_f, it_t, it_f, ti_t, ti_f, ie_t, ie_f, ei_t, ei_f, nn_le_t, nn_le_f, nn_lt_t, nn_lt_f, nn_eq_t, nn_eq_f, nI_1, nI_add, ni_addl, ni_ladd, pk_mul, ni_mull, b2_t, b2_f, b2_0, one0, m1_eq, ni_m1, reduceCtorEq, Bool.false_eq_true, nI_clamp, if_true, Option.some.injEq, Prod.mk.injEq, and_true, true_and, Nat.reduceAdd, Nat.reduceMul, Nat.reduceSub, Nat.reduceEqDiff, Nat.reduceLeDiff, Nat.reduceLT, ↓gr40_25 hW, p1, e6, e0]
    · by_cases q : c p = 109
      · refine Or.inl ⟨6, none, K, I, ?_, ⟨by omega, fun z => by omega, hB.2.2.1, hB.2.2.2.1, hB.2.2.2.2.1, hB.2.2.2.2.2⟩, fun _ => rfl, ?_, ⟨d1, d2, d3, fun z => by omega, fun z => by omega, fun _ => d6 (by omega), fun _ => d7 (by omega), fun _ => d8 (by omega)⟩, fun _ _ _ _ => rfl⟩
        · unfold pgS
          rw [if_pos (by omega), if_pos (by rw [q]; rfl)]
        · show fX9_readPage_21_b (fX9_readPage_21 N) _ _ _ _ _ = _
          unfold fX9_readPage_21_b fX9_readPage_62 fX9_readPage_70 fX9_readPage_82 fX9_readPage_197 fX9_readPage_207
          rw [q] at e6
          simp (disch := first | assumption | with_unfolding_all exact hW.1 _ _ rfl | rfl | exact pu_okI (by first | assumption | with_unfolding_all exact hW.1 _ _ rfl) (by omega) (by omega) | exact pu_oqI (by first | assumption | with_unfolding_all exact hW.1 _ _ rfl) (by omega) (by omega) | omega | decide) only [↓reduceIte, ↓gi_b, ↓pi_b, ↓gr_b, ↓pr_b, ↓al_b, ↓as_b, ↓al_3, ↓as_3, ↓al_12, ↓as_12, ↓al_l, ↓as_l, ↓rc_b, ↓Option.bind_some, ↓zr0_b, ↓zr1_b, ↓zrb_b, ↓pz0_b, ↓pz1_b, al_b, as_b, rc_b, gi_b, pi_b, gr_b, zr0, zr1, zrb, u_s, u_n, v_s, v_n, ↓isIn_b, ↓within_b, ite_T, ite_F, il_t, il_f, li_t, li_f, it_t, it_f, ti_t, ti_f, ie_t, ie_f, ei_t, ei_f, nn_le_t, nn_le_f, nn_lt_t, nn_lt_f, nn_eq_t, nn_eq_f, nI_1, nI_add, ni_addl, ni_ladd, pk_mul, ni_mull, b2_t, b2_f, b2_0, one0, m1_eq, ni_m1, reduceCtorEq, Bool.false_eq_true, nI_clamp, if_true, Option.some.injEq, Prod.mk.injEq, and_true, true_and, Nat.reduceAdd, Nat.reduceMul, Nat.reduceSub, Nat.reduceEqDiff, Nat.reduceLeDiff, Nat.reduceLT, ↓gr40_25 hW, p1, e6, show nI 109 = (109 : Int32) from rfl, show nI 8 - 2 = nI 6 from rfl]
      · refine Or.inr ⟨I, ?_, ?_, h, fun _ _ _ _ => rfl⟩
        · unfold pgS
          rw [if_pos (by omega), if_neg (by rw [if_neg (by omega)]; exact q)]
        · show fX9_readPage_21_b (fX9_readPage_21 N) _ _ _ _ _ = _
          unfold fX9_readPage_21_b fX9_readPage_62 fX9_readPage_70 fX9_readPage_82 fX9_readPage_197 fX9_readPage_207
          simp (disch := first | assumption | with_unfolding_all exact hW.1 _ _ rfl | rfl | exact pu_okI (by first | assumption | with_unfolding_all exact hW.1 _ _ rfl) (by omega) (by omega) | exact pu_oqI (by first | assumption | with_unfolding_all exact hW.1 _ _ rfl) (by omega) (by omega) | omega | decide) only [↓reduceIte, ↓gi_b, ↓pi_b, ↓gr_b, ↓pr_b, ↓al_b, ↓as_b, ↓al_3, ↓as_3, ↓al_12, ↓as_12, ↓al_l, ↓as_l, ↓rc_b, ↓Option.bind_some, ↓zr0_b, ↓zr1_b, ↓zrb_b, ↓pz0_b, ↓pz1_b, al_b, as_b, rc_b, gi_b, pi_b, gr_b, zr0, zr1, zrb, u_s, u_n, v_s, v_n, ↓isIn_b, ↓within_b, ite_T, ite_F, il_t, il_f, li_t, li_f, it_t, it_f, ti_t, ti_f, ie_t, ie_f, ei_t, ei_f, nn_le_t, nn_le_f, nn_lt_t, nn_lt_f, nn_eq_t, nn_eq_f, nI_1, nI_add, ni_addl, ni_ladd, pk_mul, ni_mull, b2_t, b2_f, b2_0, one0, m1_eq, ni_m1, reduceCtorEq, Bool.false_eq_true, nI_clamp, if_true, Option.some.injEq, Prod.mk.injEq, and_true, true_and, Nat.reduceAdd, Nat.reduceMul, Nat.reduceSub, Nat.reduceEqDiff, Nat.reduceLeDiff, Nat.reduceLT, ↓gr40_25 hW, p1, e6, e0]
/-- the machine stands at a whole clock -/
def whG (L : Nat) (g : S_G) : Prop := g.2.2.2 = L ∧ g.1 = 6 ∧ ∃ x, g.2.1 = some x ∧ mkP g.2.2.1 < x
def MgQ (s : Nat → Option pu_S) (I : Nat → Nat → Int32) (P : Nat → Nat → Option Nat) (J : Nat → Nat → Int64) (n : Nat × Nat) (L : Nat) (g : S_G) (h : am_H) : Prop := ∃ I', h = pu_hp s I' P J n ∧ MDr I' g.1 g.2.1 g.2.2.1 ∧ GBd g.1 g.2.1 g.2.2.1 ∧ I' 40 31 = nI g.2.2.2 ∧ (whG L g → I' 40 32 = 1) ∧ (¬ whG L g → I' 40 32 = 0) ∧ FrM I I'
set_option maxHeartbeats 4000000 in
set_option maxRecDepth 100000 in
theorem m_end (hW : pu_W s P) (hp : p ≤ L) (hP : PgM I L c) (h : MDr I w v K) (hB : GBd w v K) : Rn (fX9_readPage_212 (some 40) (nI w) (nI p) (pu_hp s I P J n)) (MgQ s I P J n L (w, v, K, p)) := by
  obtain ⟨p1, p2, p3⟩ := hP
  have b8 := hB.1
  have hnb := hB.2.2.2.1
  have hA := hB.2.2.2.2.2
  have e42 := h.1.2.2
  have h' : MDr (pu_u I 40 31 (nI p)) w v K := h.fr fun b j q => u_n (by omega)
  have ha := m_ahead (J := J) (n := n) hW h' (by omega)
  have fin : ∀ y : Int32, (whG L (w, v, K, p) → y = 1) → (¬ whG L (w, v, K, p) → y = 0) → MgQ s I P J n L (w, v, K, p) (pu_hp s (pu_u (pu_u I 40 31 (nI p)) 40 32 y) P J n) := fun y hy1 hy2 => ⟨_, rfl, h'.fr fun b j q => u_n (by omega), hB, by rw [u_n (by omega), u_s], fun q => by rw [u_s]; exact hy1 q, fun q => by rw [u_s]; exact hy2 q, fun b j q1 q2 => by rw [u_n (by omega), u_n (by omega)]⟩
  unfold fX9_readPage_212 fX9_readPage_247 fX9_readPage_248
  by_cases q : p = L
  · by_cases q6 : w = 6
    · subst q6
      cases v with
      | none =>
        have e42 : I 40 42 = -1 := e42
        have em : ((-1 : Int32) ≤ nI (mkP K)) = True := eq_true (Int32.le_trans (by decide) ((nI_leI (a := 0) (by omega) (by omega)).mpr (Nat.zero_le _)))
        simp (disch := first | assumption | with_unfolding_all exact hW.1 _ _ rfl | rfl | exact pu_okI (by first | assumption | with_unfolding_all exact hW.1 _ _ rfl) (by omega) (by omega) | exact pu_oqI (by first | assumption | with_unfolding_all exact hW.1 _ _ rfl) (by omega) (by omega) | omega | decide) only [↓reduceIte, ↓gi_b, ↓pi_b, ↓gr_b, ↓pr_b, ↓al_b, ↓as_b, ↓al_3, ↓as_3, ↓al_12, ↓as_12, ↓al_l, ↓as_l, ↓rc_b, ↓Option.bind_some, ↓zr0_b, ↓zr1_b, ↓zrb_b, ↓pz0_b, ↓pz1_b, al_b, as_b, rc_b, gi_b, pi_b, gr_b, zr0, zr1, zrb, u_s, u_n, v_s, v_n, ↓isIn_b, ↓within_b, ite_T, ite_F, il_t, il_f, li_t, li_f, it_t, it_f, ti_t, ti_f, ie_t, ie_f, ei_t, ei_f, nn_le_t, nn_le_f, nn_lt_t, nn_lt_f, nn_eq_t, nn_eq_f, nI_1, nI_add, ni_addl, ni_ladd, pk_mul, ni_mull, b2_t, b2_f, b2_0, one0, m1_eq, ni_m1, reduceCtorEq, Bool.false_eq_true, nI_clamp, if_true, Option.some.injEq, Prod.mk.injEq, and_true, true_and, Nat.reduceAdd, Nat.reduceMul, Nat.reduceSub, Nat.reduceEqDiff, Nat.reduceLeDiff, Nat.reduceLT, ↓gr40_25 hW, p1, ha, e42, em]
        exact Rn_some (fin 0 (fun z => by obtain ⟨-, -, x, z, -⟩ := z; cases z) (fun _ => rfl))
      | some x =>
        have hx := hB.2.2.2.2.1 x rfl
        have e42 : I 40 42 = nI x := e42
        by_cases qx : mkP K < x
        · simp (disch := first | assumption | with_unfolding_all exact hW.1 _ _ rfl | rfl | exact pu_okI (by first | assumption | with_unfolding_all exact hW.1 _ _ rfl) (by omega) (by omega) | exact pu_oqI (by first | assumption | with_unfolding_all exact hW.1 _ _ rfl) (by omega) (by omega) | omega | decide) only [↓reduceIte, ↓gi_b, ↓pi_b, ↓gr_b, ↓pr_b, ↓al_b, ↓as_b, ↓al_3, ↓as_3, ↓al_12, ↓as_12, ↓al_l, ↓as_l, ↓rc_b, ↓Option.bind_some, ↓zr0_b, ↓zr1_b, ↓zrb_b, ↓pz0_b, ↓pz1_b, al_b, as_b, rc_b, gi_b, pi_b, gr_b, zr0, zr1, zrb, u_s, u_n, v_s, v_n, ↓isIn_b, ↓within_b, ite_T, ite_F, il_t, il_f, li_t, li_f, it_t, it_f, ti_t, ti_f, ie_t, ie_f, ei_t, ei_f, nn_le_t, nn_le_f, nn_lt_t, nn_lt_f, nn_eq_t, nn_eq_f, nI_1, nI_add, ni_addl, ni_ladd, pk_mul, ni_mull, b2_t, b2_f, b2_0, one0, m1_eq, ni_m1, reduceCtorEq, Bool.false_eq_true, nI_clamp, if_true, Option.some.injEq, Prod.mk.injEq, and_true, true_and, Nat.reduceAdd, Nat.reduceMul, Nat.reduceSub, Nat.reduceEqDiff, Nat.reduceLeDiff, Nat.reduceLT, ↓gr40_25 hW, p1, ha, e42]
          exact Rn_some (fin 1 (fun _ => rfl) (fun z => (z ⟨q, rfl, x, rfl, qx⟩).elim))
        · simp (disch := first | assumption | with_unfolding_all exact hW.1 _ _ rfl | rfl | exact pu_okI (by first | assumption | with_unfolding_all exact hW.1 _ _ rfl) (by omega) (by omega) | exact pu_oqI (by first | assumption | with_unfolding_all exact hW.1 _ _ rfl) (by omega) (by omega) | omega | decide) only [↓reduceIte, ↓gi_b, ↓pi_b, ↓gr_b, ↓pr_b, ↓al_b, ↓as_b, ↓al_3, ↓as_3, ↓al_12, ↓as_12, ↓al_l, ↓as_l, ↓rc_b, ↓Option.bind_some, ↓zr0_b, ↓zr1_b, ↓zrb_b, ↓pz0_b, ↓pz1_b, al_b, as_b, rc_b, gi_b, pi_b, gr_b, zr0, zr1, zrb, u_s, u_n, v_s, v_n, ↓isIn_b, ↓within_b, ite_T, ite_F, il_t, il_f, li_t, li_f, it_t, it_f, ti_t, ti_f, ie_t, ie_f, ei_t, ei_f, nn_le_t, nn_le_f, nn_lt_t, nn_lt_f, nn_eq_t, nn_eq_f, nI_1, nI_add, ni_addl, ni_ladd, pk_mul, ni_mull, b2_t, b2_f, b2_0, one0, m1_eq, ni_m1, reduceCtorEq, Bool.false_eq_true, nI_clamp, if_true, Option.some.injEq, Prod.mk.injEq, and_true, true_and, Nat.reduceAdd, Nat.reduceMul, Nat.reduceSub, Nat.reduceEqDiff, Nat.reduceLeDiff, Nat.reduceLT, ↓gr40_25 hW, p1, ha, e42]
          exact Rn_some (fin 0 (fun z => by
            obtain ⟨-, -, y, z, z2⟩ := z
            have z : some x = some y := z
            cases z
            exact absurd z2 qx) (fun _ => rfl))
    · simp (disch := first | assumption | with_unfolding_all exact hW.1 _ _ rfl | rfl | exact pu_okI (by first | assumption | with_unfolding_all exact hW.1 _ _ rfl) (by omega) (by omega) | exact pu_oqI (by first | assumption | with_unfolding_all exact hW.1 _ _ rfl) (by omega) (by omega) | omega | decide) only [↓reduceIte, ↓gi_b, ↓pi_b, ↓gr_b, ↓pr_b, ↓al_b, ↓as_b, ↓al_3, ↓as_3, ↓al_12, ↓as_12, ↓al_l, ↓as_l, ↓rc_b, ↓Option.bind_some, ↓zr0_b, ↓zr1_b, ↓zrb_b, ↓pz0_b, ↓pz1_b, al_b, as_b, rc_b, gi_b, pi_b, gr_b, zr0, zr1, zrb, u_s, u_n, v_s, v_n, ↓isIn_b, ↓within_b, ite_T, ite_F, il_t, il_f, li_t, li_f, it_t, it_f, ti_t, ti_f, ie_t, ie_f, ei_t, ei_f, nn_le_t, nn_le_f, nn_lt_t, nn_lt_f, nn_eq_t, nn_eq_f, nI_1, nI_add, ni_addl, ni_ladd, pk_mul, ni_mull, b2_t, b2_f, b2_0, one0, m1_eq, ni_m1, reduceCtorEq, Bool.false_eq_true, nI_clamp, if_true, Option.some.injEq, Prod.mk.injEq, and_true, true_and, Nat.reduceAdd, Nat.reduceMul, Nat.reduceSub, Nat.reduceEqDiff, Nat.reduceLeDiff, Nat.reduceLT, ↓gr40_25 hW, p1]
      exact Rn_some (fin 0 (fun z => (q6 z.2.1).elim) (fun _ => rfl))
  · simp (disch := first | assumption | with_unfolding_all exact hW.1 _ _ rfl | rfl | exact pu_okI (by first | assumption | with_unfolding_all exact hW.1 _ _ rfl) (by omega) (by omega) | exact pu_oqI (by first | assumption | with_unfolding_all exact hW.1 _ _ rfl) (by omega) (by omega) | omega | decide) only [↓reduceIte, ↓gi_b, ↓pi_b, ↓gr_b, ↓pr_b, ↓al_b, ↓as_b, ↓al_3, ↓as_3, ↓al_12, ↓as_12, ↓al_l, ↓as_l, ↓rc_b, ↓Option.bind_some, ↓zr0_b, ↓zr1_b, ↓zrb_b, ↓pz0_b, ↓pz1_b, al_b, as_b, rc_b, gi_b, pi_b, gr_b, zr0, zr1, zrb, u_s, u_n, v_s, v_n, ↓isIn_b, ↓within_b, ite_T, ite_F, il_t, il_f, li_t, li_f, it_t, it_f, ti_t, ti_f, ie_t, ie_f, ei_t, ei_f, nn_le_t, nn_le_f, nn_lt_t, nn_lt_f, nn_eq_t, nn_eq_f, nI_1, nI_add, ni_addl, ni_ladd, pk_mul, ni_mull, b2_t, b2_f, b2_0, one0, m1_eq, ni_m1, reduceCtorEq, Bool.false_eq_true, nI_clamp, if_true, Option.some.injEq, Prod.mk.injEq, and_true, true_and, Nat.reduceAdd, Nat.reduceMul, Nat.reduceSub, Nat.reduceEqDiff, Nat.reduceLeDiff, Nat.reduceLT, ↓gr40_25 hW, p1]
    exact Rn_some (fin 0 (fun z => (q z.1).elim) (fun _ => rfl))
theorem MgQ.t {I1 : Nat → Nat → Int32} {g : S_G} {h : am_H} (hf : FrM I I1) (hq : MgQ s I1 P J n L g h) : MgQ s I P J n L g h := by
  obtain ⟨I', h1, h2, h3, h4, h5, h6, h7⟩ := hq
  exact ⟨I', h1, h2, h3, h4, h5, h6, hf.t h7⟩
set_option maxHeartbeats 4000000 in
set_option maxRecDepth 100000 in
theorem m_loop (hW : pu_W s P) : ∀ (m N p w : Nat) (v : Option Nat) (K : S_K) (I : Nat → Nat → Int32), p + m = L → m + 1 < N → PgM I L c → MDr I w v K → GBd w v K → (6 < w → v = none) → Rn (fX9_readPage_21 N (some 40) (nI w) (nI p) 1 (pu_hp s I P J n)) (MgQ s I P J n L (pgG L c p w v K)) := by
  intro m
  induction m with
  | zero =>
    intro N p w v K I hm hN hP h hB h7
    obtain ⟨N, rfl⟩ : ∃ N', N = N' + 1 := ⟨N - 1, by omega⟩
    have p1 := hP.1
    have p2 := hP.2.1
    rw [pgG_end (by omega)]
    show Rn (fX9_readPage_21_b _ _ _ _ _ _) _
    unfold fX9_readPage_21_b
    simp (disch := first | assumption | with_unfolding_all exact hW.1 _ _ rfl | rfl | exact pu_okI (by first | assumption | with_unfolding_all exact hW.1 _ _ rfl) (by omega) (by omega) | exact pu_oqI (by first | assumption | with_unfolding_all exact hW.1 _ _ rfl) (by omega) (by omega) | omega | decide) only [↓reduceIte, ↓gi_b, ↓pi_b, ↓gr_b, ↓pr_b, ↓al_b, ↓as_b, ↓al_3, ↓as_3, ↓al_12, ↓as_12, ↓al_l, ↓as_l, ↓rc_b, ↓Option.bind_some, ↓zr0_b, ↓zr1_b, ↓zrb_b, ↓pz0_b, ↓pz1_b, al_b, as_b, rc_b, gi_b, pi_b, gr_b, zr0, zr1, zrb, u_s, u_n, v_s, v_n, ↓isIn_b, ↓within_b, ite_T, ite_F, il_t, il_f, li_t, li_f, it_t, it_f, ti_t, ti_f, ie_t, ie_f, ei_t, ei_f, nn_le_t, nn_le_f, nn_lt_t, nn_lt_f, nn_eq_t, nn_eq_f, nI_1, nI_add, ni_addl, ni_ladd, pk_mul, ni_mull, b2_t, b2_f, b2_0, one0, m1_eq, ni_m1, reduceCtorEq, Bool.false_eq_true, nI_clamp, if_true, Option.some.injEq, Prod.mk.injEq, and_true, true_and, Nat.reduceAdd, Nat.reduceMul, Nat.reduceSub, Nat.reduceEqDiff, Nat.reduceLeDiff, Nat.reduceLT, ↓gr40_25 hW, p1]
    exact m_end hW (by omega) hP h hB
  | succ m ih =>
    intro N p w v K I hm hN hP h hB h7
    obtain ⟨N, rfl⟩ : ∃ N', N = N' + 2 := ⟨N - 2, by omega⟩
    rcases m_step (J := J) (n := n) (N := N + 1) hW (show p < L by omega) hP h hB h7 with ⟨w', v', K', I', e, k1, k2, k3, k4, k5⟩ | ⟨I', e, k1, k2, k3⟩
    · rw [k3, pgG_go (by omega) e]
      exact Rn_mono (ih (N + 1) (p + 1) w' v' K' I' (by omega) (by omega) (hP.fr k5) k4 k1 k2) fun y hy => MgQ.t k5 hy
    · rw [k1, pgG_no (by omega) e]
      have hP' := hP.fr k3
      have p1 := hP'.1
      have p2 := hP'.2.1
      refine Rn_mono ?_ (fun y hy => MgQ.t k3 hy)
      show Rn (fX9_readPage_21_b _ _ _ _ _ _) _
      unfold fX9_readPage_21_b
      simp (disch := first | assumption | with_unfolding_all exact hW.1 _ _ rfl | rfl | exact pu_okI (by first | assumption | with_unfolding_all exact hW.1 _ _ rfl) (by omega) (by omega) | exact pu_oqI (by first | assumption | with_unfolding_all exact hW.1 _ _ rfl) (by omega) (by omega) | omega | decide) only [↓reduceIte, ↓gi_b, ↓pi_b, ↓gr_b, ↓pr_b, ↓al_b, ↓as_b, ↓al_3, ↓as_3, ↓al_12, ↓as_12, ↓al_l, ↓as_l, ↓rc_b, ↓Option.bind_some, ↓zr0_b, ↓zr1_b, ↓zrb_b, ↓pz0_b, ↓pz1_b, al_b, as_b, rc_b, gi_b, pi_b, gr_b, zr0, zr1, zrb, u_s, u_n, v_s, v_n, ↓isIn_b, ↓within_b, ite_T, ite_F, il_t, il_f, li_t, li_f, it_t, it_f, ti_t, ti_f, ie_t, ie_f, ei_t, ei_f, nn_le_t, nn_le_f, nn_lt_t, nn_lt_f, nn_eq_t, nn_eq_f, nI_1, nI_add, ni_addl, ni_ladd, pk_mul, ni_mull, b2_t, b2_f, b2_0, one0, m1_eq, ni_m1, reduceCtorEq, Bool.false_eq_true, nI_clamp, if_true, Option.some.injEq, Prod.mk.injEq, and_true, true_and, Nat.reduceAdd, Nat.reduceMul, Nat.reduceSub, Nat.reduceEqDiff, Nat.reduceLeDiff, Nat.reduceLT, ↓gr40_25 hW, p1]
      exact m_end hW (by omega) hP' k2 hB
def K_0 : S_K := (0, fun _ => 0, fun _ => 0, fun _ => 0, 0, 0, 0, 0, fun _ => 0)
set_option maxHeartbeats 4000000 in
set_option maxRecDepth 100000 in
theorem m_page (hW : pu_W s P) (hP : PgM I L c) : Rn (fX9_readPage 40 (pu_hp s I P J n)) (MgQ s I P J n L (pgG L c 0 0 none K_0)) := by
  have p2 := hP.2.1
  unfold fX9_readPage
  simp (disch := first | assumption | with_unfolding_all exact hW.1 _ _ rfl | rfl | exact pu_okI (by first | assumption | with_unfolding_all exact hW.1 _ _ rfl) (by omega) (by omega) | exact pu_oqI (by first | assumption | with_unfolding_all exact hW.1 _ _ rfl) (by omega) (by omega) | omega | decide) only [↓reduceIte, ↓gi_b, ↓pi_b, ↓gr_b, ↓pr_b, ↓al_b, ↓as_b, ↓al_3, ↓as_3, ↓al_12, ↓as_12, ↓al_l, ↓as_l, ↓rc_b, ↓Option.bind_some, ↓zr0_b, ↓zr1_b, ↓zrb_b, ↓pz0_b, ↓pz1_b, al_b, as_b, rc_b, gi_b, pi_b, gr_b, zr0, zr1, zrb, u_s, u_n, v_s, v_n, ↓isIn_b, ↓within_b, ite_T, ite_F, il_t, il_f, li_t, li_f, it_t, it_f, ti_t, ti_f, ie_t, ie_f, ei_t, ei_f, nn_le_t, nn_le_f, nn_lt_t, nn_lt_f, nn_eq_t, nn_eq_f, nI_1, nI_add, ni_addl, ni_ladd, pk_mul, ni_mull, b2_t, b2_f, b2_0, one0, m1_eq, ni_m1, reduceCtorEq, Bool.false_eq_true, nI_clamp, if_true, Option.some.injEq, Prod.mk.injEq, and_true, true_and, Nat.reduceAdd, Nat.reduceMul, Nat.reduceSub, Nat.reduceEqDiff, Nat.reduceLeDiff, Nat.reduceLT, ↓gr40_25 hW]
  generalize hI' : pu_u (pu_u (pu_u I 40 33 0) 40 40 0) 40 42 (-1) = I'
  have hf : FrM I I' := fun b j q1 q2 => by rw [← hI', u_n (by omega), u_n (by omega), u_n (by omega)]
  refine Rn_mono (m_loop hW L am_fu 0 0 none K_0 I' (by omega) (by unfold am_fu; omega) (hP.fr hf) ⟨⟨?_, ?_, ?_⟩, fun u hu => absurd hu (Nat.not_lt_zero u), fun b hb => absurd hb (Nat.not_lt_zero b), fun q => by omega, fun q => by omega, fun q => by omega, fun q => by omega, fun q => by omega⟩ ⟨by omega, fun _ => by decide, by decide, by decide, fun x q => (by cases q), by decide⟩ (fun q => by omega)) (fun y hy => MgQ.t hf hy)
  · rw [← hI', u_n (by omega), u_n (by omega), u_s]; rfl
  · rw [← hI', u_n (by omega), u_s]; rfl
  · rw [← hI', u_s]; rfl
end MH
