/-! image, restore -/
section IM
variable {s : Nat → Option pu_S} {I : Nat → Nat → Int32} {P : Nat → Nat → Option Nat} {J : Nat → Nat → Int64} {n : Nat × Nat}
variable {Z : S_Z} {T : S_T}
theorem InvC.setI {I' : Nat → Nat → Int32} (h : InvC s I P n Z) (hf : ∀ b j, ¬ (b = 1 ∧ j = 9) → ¬ (12 ≤ b ∧ b ≤ 14) → ¬ (b = 11 ∧ j = 3) → I' b j = I b j) (k1 : I' 1 9 = 1) (k6 : T_I I' 12 13 14 11 3 T) : InvC s I' P n (zsI Z T) := by
  obtain ⟨a1, a2, a3, a4, a5, a6⟩ := h.2.2.1
  exact h.gen rfl rfl rfl (fun b j q1 q2 => hf b j (by omega) (by omega) (by omega)) (by rw [k1]; rfl) (by rw [hf _ _ (by omega) (by omega) (by omega), a5]; rfl) (by rw [hf _ _ (by omega) (by omega) (by omega), a6]; rfl) (fun k hk => by rw [hf _ _ (by omega) (by omega) (by omega)]; exact h.2.2.2.1 k hk) (h.2.2.2.2.2.2.2.2.1.fr fun x j hx => hf x j (by omega) (by omega) (by omega)) (fun _ => k6)
theorem InvM.setI {I' : Nat → Nat → Int32} (h : InvM s I P Z) (hf : ∀ b j, ¬ (b = 40 ∧ (j = 26 ∨ j = 27)) → ¬ (61 ≤ b ∧ b ≤ 63) → I' b j = I b j) (k1 : I' 40 26 = 1) (k6 : T_I I' 61 62 63 40 27 T) : InvM s I' P (zsI Z T) := by
  obtain ⟨a1, a2, a3, a4, a5, a6⟩ := h.2.1
  exact h.gen rfl rfl rfl (fun b j q1 q2 q3 q4 q5 => hf b j (by omega) (by omega)) (by rw [k1]; rfl) (by rw [hf _ _ (by omega) (by omega), a5]; rfl) (by rw [hf _ _ (by omega) (by omega), a6]; rfl) (fun k hk => by rw [hf _ _ (by omega) (by omega)]; exact h.2.2.1 k hk) (h.2.2.2.2.2.2.1.fr fun x j hx => hf x j (by omega) (by omega)) (fun _ => k6)
set_option maxHeartbeats 4000000 in
set_option maxRecDepth 100000 in
theorem m_img52 (hW : pu_W s P) {l : Nat → Option Nat} (hl : ∀ b t, b < 12 → l b = some t → t ≤ 96) : ∀ (m k N : Nat) (I : Nat → Nat → Int32), k + m = 12 → m < N → (∀ j, j < 12 → I 59 j = oI (l j)) → (∀ j, j < k → I 63 j = I 59 j) →
    Rn (fX9_image_52 N (some 40) (nI k) (pu_hp s I P J n)) fun y => ∃ I', y = (nI (cntL l 12), pu_hp s I' P J n) ∧ (∀ j, j < 12 → I' 63 j = I 59 j) ∧ ∀ b j, ¬ b = 63 → I' b j = I b j := by
  intro m
  induction m with
  | zero =>
    intro k N I hk hN hI hx
    obtain ⟨N, rfl⟩ : ∃ N', N = N' + 1 := ⟨N - 1, by omega⟩
    show Rn (fX9_image_52_b _ _ _ _) _
    unfold fX9_image_52_b
    simp (disch := first | assumption | with_unfolding_all exact hW.1 _ _ rfl | rfl | exact pu_okI (by first | assumption | with_unfolding_all exact hW.1 _ _ rfl) (by omega) (by omega) | exact pu_oqI (by first | assumption | with_unfolding_all exact hW.1 _ _ rfl) (by omega) (by omega) | omega | decide) only [↓reduceIte, ↓gi_b, ↓pi_b, ↓gr_b, ↓pr_b, ↓al_b, ↓as_b, ↓al_3, ↓as_3, ↓al_12, ↓as_12, ↓al_l, ↓as_l, ↓rc_b, ↓Option.bind_some, ↓zr0_b, ↓zr1_b, ↓zrb_b, ↓pz0_b, ↓pz1_b, al_b, as_b, rc_b, gi_b, pi_b, gr_b, zr0, zr1, zrb, u_s, u_n, v_s, v_n, ↓isIn_b, ↓within_b, ite_T, ite_F, il_t, il_f, li_t, li_f, it_t, it_f, ti_t, ti_f, ie_t, ie_f, ei_t, ei_f, nn_le_t, nn_le_f, nn_lt_t, nn_lt_f, nn_eq_t, nn_eq_f, nI_1, nI_add, ni_addl, ni_ladd, pk_mul, ni_mull, b2_t, b2_f, b2_0, one0, m1_eq, ni_m1, reduceCtorEq, Bool.false_eq_true, nI_clamp, if_true, Option.some.injEq, Prod.mk.injEq, and_true, true_and, Nat.reduceAdd, Nat.reduceMul, Nat.reduceSub, Nat.reduceEqDiff, Nat.reduceLeDiff, Nat.reduceLT, m_many (J := J) (n := n) hW hl hI]
    exact Rn_some ⟨I, rfl, fun j hj => hx j (by omega), fun _ _ _ => rfl⟩
  | succ m ih =>
    intro k N I hk hN hI hx
    obtain ⟨N, rfl⟩ : ∃ N', N = N' + 1 := ⟨N - 1, by omega⟩
    show Rn (fX9_image_52_b (fX9_image_52 N) _ _ _) _
    unfold fX9_image_52_b
    simp (disch := first | assumption | with_unfolding_all exact hW.1 _ _ rfl | rfl | exact pu_okI (by first | assumption | with_unfolding_all exact hW.1 _ _ rfl) (by omega) (by omega) | exact pu_oqI (by first | assumption | with_unfolding_all exact hW.1 _ _ rfl) (by omega) (by omega) | omega | decide) only [↓reduceIte, ↓gi_b, ↓pi_b, ↓gr_b, ↓pr_b, ↓al_b, ↓as_b, ↓al_3, ↓as_3, ↓al_12, ↓as_12, ↓al_l, ↓as_l, ↓rc_b, ↓Option.bind_some, ↓zr0_b, ↓zr1_b, ↓zrb_b, ↓pz0_b, ↓pz1_b, al_b, as_b, rc_b, gi_b, pi_b, gr_b, zr0, zr1, zrb, u_s, u_n, v_s, v_n, ↓isIn_b, ↓within_b, ite_T, ite_F, il_t, il_f, li_t, li_f, it_t, it_f, ti_t, ti_f, ie_t, ie_f, ei_t, ei_f, nn_le_t, nn_le_f, nn_lt_t, nn_lt_f, nn_eq_t, nn_eq_f, nI_1, nI_add, ni_addl, ni_ladd, pk_mul, ni_mull, b2_t, b2_f, b2_0, one0, m1_eq, ni_m1, reduceCtorEq, Bool.false_eq_true, nI_clamp, if_true, Option.some.injEq, Prod.mk.injEq, and_true, true_and, Nat.reduceAdd, Nat.reduceMul, Nat.reduceSub, Nat.reduceEqDiff, Nat.reduceLeDiff, Nat.reduceLT, ↓gr40_30 hW, ↓gr40_22 hW, ↓gr40_28 hW, ↓gr40_10 hW, ↓gr40_29 hW, ↓gr40_11 hW]
    refine Rn_mono (ih (k + 1) N _ (by omega) (by omega) (fun j hj => by rw [u_n (by omega)]; exact hI j hj) (fun j hj => ?_)) ?_
    · rw [u_n (show ¬ (59 = 63 ∧ _) by omega)]
      by_cases c : j = k
      · subst c; rw [u_s]
      · rw [u_n (by omega)]; exact hx j (by omega)
    · rintro _ ⟨I', rfl, a1, a2⟩
      exact ⟨I', rfl, fun j hj => by rw [a1 j hj, u_n (by omega)], fun b j hb => by rw [a2 b j hb, u_n (by omega)]⟩
set_option maxHeartbeats 4000000 in
set_option maxRecDepth 100000 in
theorem m_img15 (hW : pu_W s P) {l : Nat → Option Nat} (hl : ∀ b t, b < 12 → l b = some t → t ≤ 96) : ∀ (m k N : Nat) (I : Nat → Nat → Int32), k + m = 4 → m < N → (∀ j, j < 12 → I 59 j = oI (l j)) → (∀ j, j < k → I 61 j = I 50 j ∧ I 62 j = I 51 j) →
    Rn (fX9_image_15 N (some 40) (nI k) (pu_hp s I P J n)) fun y => ∃ I', y = (nI (cntL l 12), pu_hp s I' P J n) ∧ (∀ j, j < 4 → I' 61 j = I 50 j ∧ I' 62 j = I 51 j) ∧ (∀ j, j < 12 → I' 63 j = I 59 j) ∧ ∀ b j, ¬ (61 ≤ b ∧ b ≤ 63) → I' b j = I b j := by
  intro m
  induction m with
  | zero =>
    intro k N I hk hN hI hx
    obtain ⟨N, rfl⟩ : ∃ N', N = N' + 1 := ⟨N - 1, by omega⟩
    show Rn (fX9_image_15_b _ _ _ _) _
    unfold fX9_image_15_b
    simp (disch := first | assumption | with_unfolding_all exact hW.1 _ _ rfl | rfl | exact pu_okI (by first | assumption | with_unfolding_all exact hW.1 _ _ rfl) (by omega) (by omega) | exact pu_oqI (by first | assumption | with_unfolding_all exact hW.1 _ _ rfl) (by omega) (by omega) | omega | decide) only [↓reduceIte, ↓gi_b, ↓pi_b, ↓gr_b, ↓pr_b, ↓al_b, ↓as_b, ↓al_3, ↓as_3, ↓al_12, ↓as_12, ↓al_l, ↓as_l, ↓rc_b, ↓Option.bind_some, ↓zr0_b, ↓zr1_b, ↓zrb_b, ↓pz0_b, ↓pz1_b, al_b, as_b, rc_b, gi_b, pi_b, gr_b, zr0, zr1, zrb, u_s, u_n, v_s, v_n, ↓isIn_b, ↓within_b, ite_T, ite_F, il_t, il_f, li_t, li_f, it_t, it_f, ti_t, ti_f, ie_t, ie_f, ei_t, ei_f, nn_le_t, nn_le_f, nn_lt_t, nn_lt_f, nn_eq_t, nn_eq_f, nI_1, nI_add, ni_addl, ni_ladd, pk_mul, ni_mull, b2_t, b2_f, b2_0, one0, m1_eq, ni_m1, reduceCtorEq, Bool.false_eq_true, nI_clamp, if_true, Option.some.injEq, Prod.mk.injEq, and_true, true_and, Nat.reduceAdd, Nat.reduceMul, Nat.reduceSub, Nat.reduceEqDiff, Nat.reduceLeDiff, Nat.reduceLT]
    rw [show (0 : Int32) = nI 0 from rfl]
    refine Rn_mono (m_img52 hW hl 12 0 am_fu I (by omega) (by unfold am_fu; omega) hI (fun j hj => by omega)) ?_
    rintro _ ⟨I', rfl, a1, a2⟩
    exact ⟨I', rfl, fun j hj => by rw [a2 _ _ (by omega), a2 _ _ (by omega)]; exact hx j (by omega), a1, fun b j h1 => a2 b j (by omega)⟩
  | succ m ih =>
    intro k N I hk hN hI hx
    obtain ⟨N, rfl⟩ : ∃ N', N = N' + 1 := ⟨N - 1, by omega⟩
    show Rn (fX9_image_15_b (fX9_image_15 N) _ _ _) _
    unfold fX9_image_15_b
    simp (disch := first | assumption | with_unfolding_all exact hW.1 _ _ rfl | rfl | exact pu_okI (by first | assumption | with_unfolding_all exact hW.1 _ _ rfl) (by omega) (by omega) | exact pu_oqI (by first | assumption | with_unfolding_all exact hW.1 _ _ rfl) (by omega) (by omega) | omega | decide) only [↓reduceIte, ↓gi_b, ↓pi_b, ↓gr_b, ↓pr_b, ↓al_b, ↓as_b, ↓al_3, ↓as_3, ↓al_12, ↓as_12, ↓al_l, ↓as_l, ↓rc_b, ↓Option.bind_some, ↓zr0_b, ↓zr1_b, ↓zrb_b, ↓pz0_b, ↓pz1_b, al_b, as_b, rc_b, gi_b, pi_b, gr_b, zr0, zr1, zrb, u_s, u_n, v_s, v_n, ↓isIn_b, ↓within_b, ite_T, ite_F, il_t, il_f, li_t, li_f, it_t, it_f, ti_t, ti_f, ie_t, ie_f, ei_t, ei_f, nn_le_t, nn_le_f, nn_lt_t, nn_lt_f, nn_eq_t, nn_eq_f, nI_1, nI_add, ni_addl, ni_ladd, pk_mul, ni_mull, b2_t, b2_f, b2_0, one0, m1_eq, ni_m1, reduceCtorEq, Bool.false_eq_true, nI_clamp, if_true, Option.some.injEq, Prod.mk.injEq, and_true, true_and, Nat.reduceAdd, Nat.reduceMul, Nat.reduceSub, Nat.reduceEqDiff, Nat.reduceLeDiff, Nat.reduceLT, ↓gr40_30 hW, ↓gr40_22 hW, ↓gr40_28 hW, ↓gr40_10 hW, ↓gr40_29 hW, ↓gr40_11 hW]
    refine Rn_mono (ih (k + 1) N _ (by omega) (by omega) (fun j hj => by rw [u_n (by omega), u_n (by omega)]; exact hI j hj) (fun j hj => ?_)) ?_
    · rw [u_n (show ¬ (50 = 62 ∧ _) by omega), u_n (show ¬ (50 = 61 ∧ _) by omega), u_n (show ¬ (51 = 62 ∧ _) by omega), u_n (show ¬ (51 = 61 ∧ _) by omega), u_n (show ¬ (61 = 62 ∧ _) by omega)]
      by_cases c : j = k
      · subst c; rw [u_s, u_s]; exact ⟨rfl, rfl⟩
      · rw [u_n (by omega), u_n (by omega), u_n (by omega)]; exact hx j (by omega)
    · rintro _ ⟨I', rfl, a1, a2, a3⟩
      refine ⟨I', rfl, fun j hj => ?_, fun j hj => by rw [a2 j hj, u_n (by omega), u_n (by omega)], fun b j h1 => by rw [a3 b j h1, u_n (by omega), u_n (by omega)]⟩
      obtain ⟨q1, q2⟩ := a1 j hj
      exact ⟨by rw [q1, u_n (by omega), u_n (by omega)], by rw [q2, u_n (by omega), u_n (by omega)]⟩
set_option maxHeartbeats 4000000 in
set_option maxRecDepth 100000 in
theorem m_res57 (hW : pu_W s P) {l : Nat → Option Nat} (hl : ∀ b t, b < 12 → l b = some t → t ≤ 96) : ∀ (m k N : Nat) (I : Nat → Nat → Int32), k + m = 12 → m < N → (∀ j, j < 12 → I 63 j = oI (l j)) → (∀ j, j < k → I 59 j = I 63 j) →
    Rn (fX9_restore_57 N (some 40) (nI k) (pu_hp s I P J n)) fun y => ∃ I', y = (nI (cntL l 12), pu_hp s I' P J n) ∧ (∀ j, j < 12 → I' 59 j = I 63 j) ∧ ∀ b j, ¬ b = 59 → I' b j = I b j := by
  intro m
  induction m with
  | zero =>
    intro k N I hk hN hI hx
    obtain ⟨N, rfl⟩ : ∃ N', N = N' + 1 := ⟨N - 1, by omega⟩
    show Rn (fX9_restore_57_b _ _ _ _) _
    unfold fX9_restore_57_b
    simp (disch := first | assumption | with_unfolding_all exact hW.1 _ _ rfl | rfl | exact pu_okI (by first | assumption | with_unfolding_all exact hW.1 _ _ rfl) (by omega) (by omega) | exact pu_oqI (by first | assumption | with_unfolding_all exact hW.1 _ _ rfl) (by omega) (by omega) | omega | decide) only [↓reduceIte, ↓gi_b, ↓pi_b, ↓gr_b, ↓pr_b, ↓al_b, ↓as_b, ↓al_3, ↓as_3, ↓al_12, ↓as_12, ↓al_l, ↓as_l, ↓rc_b, ↓Option.bind_some, ↓zr0_b, ↓zr1_b, ↓zrb_b, ↓pz0_b, ↓pz1_b, al_b, as_b, rc_b, gi_b, pi_b, gr_b, zr0, zr1, zrb, u_s, u_n, v_s, v_n, ↓isIn_b, ↓within_b, ite_T, ite_F, il_t, il_f, li_t, li_f, it_t, it_f, ti_t, ti_f, ie_t, ie_f, ei_t, ei_f, nn_le_t, nn_le_f, nn_lt_t, nn_lt_f, nn_eq_t, nn_eq_f, nI_1, nI_add, ni_addl, ni_ladd, pk_mul, ni_mull, b2_t, b2_f, b2_0, one0, m1_eq, ni_m1, reduceCtorEq, Bool.false_eq_true, nI_clamp, if_true, Option.some.injEq, Prod.mk.injEq, and_true, true_and, Nat.reduceAdd, Nat.reduceMul, Nat.reduceSub, Nat.reduceEqDiff, Nat.reduceLeDiff, Nat.reduceLT, m_many (J := J) (n := n) hW hl (fun j hj => (hx j (by omega)).trans (hI j hj))]
    exact Rn_some ⟨I, rfl, fun j hj => hx j (by omega), fun _ _ _ => rfl⟩
  | succ m ih =>
    intro k N I hk hN hI hx
    obtain ⟨N, rfl⟩ : ∃ N', N = N' + 1 := ⟨N - 1, by omega⟩
    show Rn (fX9_restore_57_b (fX9_restore_57 N) _ _ _) _
    unfold fX9_restore_57_b
    simp (disch := first | assumption | with_unfolding_all exact hW.1 _ _ rfl | rfl | exact pu_okI (by first | assumption | with_unfolding_all exact hW.1 _ _ rfl) (by omega) (by omega) | exact pu_oqI (by first | assumption | with_unfolding_all exact hW.1 _ _ rfl) (by omega) (by omega) | omega | decide) only [↓reduceIte, ↓gi_b, ↓pi_b, ↓gr_b, ↓pr_b, ↓al_b, ↓as_b, ↓al_3, ↓as_3, ↓al_12, ↓as_12, ↓al_l, ↓as_l, ↓rc_b, ↓Option.bind_some, ↓zr0_b, ↓zr1_b, ↓zrb_b, ↓pz0_b, ↓pz1_b, al_b, as_b, rc_b, gi_b, pi_b, gr_b, zr0, zr1, zrb, u_s, u_n, v_s, v_n, ↓isIn_b, ↓within_b, ite_T, ite_F, il_t, il_f, li_t, li_f, it_t, it_f, ti_t, ti_f, ie_t, ie_f, ei_t, ei_f, nn_le_t, nn_le_f, nn_lt_t, nn_lt_f, nn_eq_t, nn_eq_f, nI_1, nI_add, ni_addl, ni_ladd, pk_mul, ni_mull, b2_t, b2_f, b2_0, one0, m1_eq, ni_m1, reduceCtorEq, Bool.false_eq_true, nI_clamp, if_true, Option.some.injEq, Prod.mk.injEq, and_true, true_and, Nat.reduceAdd, Nat.reduceMul, Nat.reduceSub, Nat.reduceEqDiff, Nat.reduceLeDiff, Nat.reduceLT, ↓gr40_22 hW, ↓gr40_30 hW, ↓gr40_10 hW, ↓gr40_28 hW, ↓gr40_11 hW, ↓gr40_29 hW]
    refine Rn_mono (ih (k + 1) N _ (by omega) (by omega) (fun j hj => by rw [u_n (by omega)]; exact hI j hj) (fun j hj => ?_)) ?_
    · rw [u_n (show ¬ (63 = 59 ∧ _) by omega)]
      by_cases c : j = k
      · subst c; rw [u_s]
      · rw [u_n (by omega)]; exact hx j (by omega)
    · rintro _ ⟨I', rfl, a1, a2⟩
      exact ⟨I', rfl, fun j hj => by rw [a1 j hj, u_n (by omega)], fun b j hb => by rw [a2 b j hb, u_n (by omega)]⟩
set_option maxHeartbeats 4000000 in
set_option maxRecDepth 100000 in
theorem m_res20 (hW : pu_W s P) {l : Nat → Option Nat} (hl : ∀ b t, b < 12 → l b = some t → t ≤ 96) : ∀ (m k N : Nat) (I : Nat → Nat → Int32), k + m = 4 → m < N → (∀ j, j < 12 → I 63 j = oI (l j)) → (∀ j, j < k → I 50 j = I 61 j ∧ I 51 j = I 62 j) →
    Rn (fX9_restore_20 N (some 40) (nI k) (pu_hp s I P J n)) fun y => ∃ I', y = (nI (cntL l 12), pu_hp s I' P J n) ∧ (∀ j, j < 4 → I' 50 j = I 61 j ∧ I' 51 j = I 62 j) ∧ (∀ j, j < 12 → I' 59 j = I 63 j) ∧ ∀ b j, ¬ (50 ≤ b ∧ b ≤ 51) → ¬ b = 59 → I' b j = I b j := by
  intro m
  induction m with
  | zero =>
    intro k N I hk hN hI hx
    obtain ⟨N, rfl⟩ : ∃ N', N = N' + 1 := ⟨N - 1, by omega⟩
    show Rn (fX9_restore_20_b _ _ _ _) _
    unfold fX9_restore_20_b
    simp (disch := first | assumption | with_unfolding_all exact hW.1 _ _ rfl | rfl | exact pu_okI (by first | assumption | with_unfolding_all exact hW.1 _ _ rfl) (by omega) (by omega) | exact pu_oqI (by first | assumption | with_unfolding_all exact hW.1 _ _ rfl) (by omega) (by omega) | omega | decide) only [↓reduceIte, ↓gi_b, ↓pi_b, ↓gr_b, ↓pr_b, ↓al_b, ↓as_b, ↓al_3, ↓as_3, ↓al_12, ↓as_12, ↓al_l, ↓as_l, ↓rc_b, ↓Option.bind_some, ↓zr0_b, ↓zr1_b, ↓zrb_b, ↓pz0_b, ↓pz1_b, al_b, as_b, rc_b, gi_b, pi_b, gr_b, zr0, zr1, zrb, u_s, u_n, v_s, v_n, ↓isIn_b, ↓within_b, ite_T, ite_F, il_t, il_f, li_t, li_f, it_t, it_f, ti_t, ti_f, ie_t, ie_f, ei_t, ei_f, nn_le_t, nn_le_f, nn_lt_t, nn_lt_f, nn_eq_t, nn_eq_f, nI_1, nI_add, ni_addl, ni_ladd, pk_mul, ni_mull, b2_t, b2_f, b2_0, one0, m1_eq, ni_m1, reduceCtorEq, Bool.false_eq_true, nI_clamp, if_true, Option.some.injEq, Prod.mk.injEq, and_true, true_and, Nat.reduceAdd, Nat.reduceMul, Nat.reduceSub, Nat.reduceEqDiff, Nat.reduceLeDiff, Nat.reduceLT]
    rw [show (0 : Int32) = nI 0 from rfl]
    refine Rn_mono (m_res57 hW hl 12 0 am_fu I (by omega) (by unfold am_fu; omega) hI (fun j hj => by omega)) ?_
    rintro _ ⟨I', rfl, a1, a2⟩
    exact ⟨I', rfl, fun j hj => by rw [a2 _ _ (by omega), a2 _ _ (by omega)]; exact hx j (by omega), a1, fun b j h1 h2 => a2 b j (by omega)⟩
  | succ m ih =>
    intro k N I hk hN hI hx
    obtain ⟨N, rfl⟩ : ∃ N', N = N' + 1 := ⟨N - 1, by omega⟩
    show Rn (fX9_restore_20_b (fX9_restore_20 N) _ _ _) _
    unfold fX9_restore_20_b
    simp (disch := first | assumption | with_unfolding_all exact hW.1 _ _ rfl | rfl | exact pu_okI (by first | assumption | with_unfolding_all exact hW.1 _ _ rfl) (by omega) (by omega) | exact pu_oqI (by first | assumption | with_unfolding_all exact hW.1 _ _ rfl) (by omega) (by omega) | omega | decide) only [↓reduceIte, ↓gi_b, ↓pi_b, ↓gr_b, ↓pr_b, ↓al_b, ↓as_b, ↓al_3, ↓as_3, ↓al_12, ↓as_12, ↓al_l, ↓as_l, ↓rc_b, ↓Option.bind_some, ↓zr0_b, ↓zr1_b, ↓zrb_b, ↓pz0_b, ↓pz1_b, al_b, as_b, rc_b, gi_b, pi_b, gr_b, zr0, zr1, zrb, u_s, u_n, v_s, v_n, ↓isIn_b, ↓within_b, ite_T, ite_F, il_t, il_f, li_t, li_f, it_t, it_f, ti_t, ti_f, ie_t, ie_f, ei_t, ei_f, nn_le_t, nn_le_f, nn_lt_t, nn_lt_f, nn_eq_t, nn_eq_f, nI_1, nI_add, ni_addl, ni_ladd, pk_mul, ni_mull, b2_t, b2_f, b2_0, one0, m1_eq, ni_m1, reduceCtorEq, Bool.false_eq_true, nI_clamp, if_true, Option.some.injEq, Prod.mk.injEq, and_true, true_and, Nat.reduceAdd, Nat.reduceMul, Nat.reduceSub, Nat.reduceEqDiff, Nat.reduceLeDiff, Nat.reduceLT, ↓gr40_22 hW, ↓gr40_30 hW, ↓gr40_10 hW, ↓gr40_28 hW, ↓gr40_11 hW, ↓gr40_29 hW]
    refine Rn_mono (ih (k + 1) N _ (by omega) (by omega) (fun j hj => by rw [u_n (by omega), u_n (by omega)]; exact hI j hj) (fun j hj => ?_)) ?_
    · rw [u_n (show ¬ (61 = 51 ∧ _) by omega), u_n (show ¬ (61 = 50 ∧ _) by omega), u_n (show ¬ (62 = 51 ∧ _) by omega), u_n (show ¬ (62 = 50 ∧ _) by omega), u_n (show ¬ (50 = 51 ∧ _) by omega)]
      by_cases c : j = k
      · subst c; rw [u_s, u_s]; exact ⟨rfl, rfl⟩
      · rw [u_n (by omega), u_n (by omega), u_n (by omega)]; exact hx j (by omega)
    · rintro _ ⟨I', rfl, a1, a2, a3⟩
      refine ⟨I', rfl, fun j hj => ?_, fun j hj => by rw [a2 j hj, u_n (by omega), u_n (by omega)], fun b j h1 h2 => by rw [a3 b j h1 h2, u_n (by omega), u_n (by omega)]⟩
      obtain ⟨q1, q2⟩ := a1 j hj
      exact ⟨by rw [q1, u_n (by omega), u_n (by omega)], by rw [q2, u_n (by omega), u_n (by omega)]⟩
end IM
set_option maxHeartbeats 4000000 in
set_option maxRecDepth 100000 in
theorem d_image {Z : S_Z} (hZ : Z_B Z) : CallOK Z (fX8_image 1) (fX9_image 40) := by
  refine ⟨nI (cntL (tl (zT Z)) 12), zsI Z (zT Z), ⟨hZ.1, hZ.2.1, hZ.2.2.1, hZ.2.2.2.1, fun _ => hZ.2.2.2.1, hZ.2.2.2.2.2⟩, fun s I P J n h => ?_, fun s I P J n h => ?_⟩
  · have hW := h.1
    have hT := h.2.2.2.2.2.2.2.2.1
    unfold fX8_image
    simp (disch := first | assumption | with_unfolding_all exact hW.1 _ _ rfl | rfl | exact pu_okI (by first | assumption | with_unfolding_all exact hW.1 _ _ rfl) (by omega) (by omega) | exact pu_oqI (by first | assumption | with_unfolding_all exact hW.1 _ _ rfl) (by omega) (by omega) | omega | decide) only [↓reduceIte, ↓gi_b, ↓pi_b, ↓gr_b, ↓pr_b, ↓al_b, ↓as_b, ↓al_3, ↓as_3, ↓al_12, ↓as_12, ↓al_l, ↓as_l, ↓rc_b, ↓Option.bind_some, ↓zr0_b, ↓zr1_b, ↓zrb_b, ↓pz0_b, ↓pz1_b, al_b, as_b, rc_b, gi_b, pi_b, gr_b, zr0, zr1, zrb, u_s, u_n, v_s, v_n, ↓isIn_b, ↓within_b, ite_T, ite_F, il_t, il_f, li_t, li_f, it_t, it_f, ti_t, ti_f, ie_t, ie_f, ei_t, ei_f, nn_le_t, nn_le_f, nn_lt_t, nn_lt_f, nn_eq_t, nn_eq_f, nI_1, nI_add, ni_addl, ni_ladd, pk_mul, ni_mull, b2_t, b2_f, b2_0, one0, m1_eq, ni_m1, reduceCtorEq, Bool.false_eq_true, nI_clamp, if_true, Option.some.injEq, Prod.mk.injEq, and_true, true_and, Nat.reduceAdd, Nat.reduceMul, Nat.reduceSub, Nat.reduceEqDiff, Nat.reduceLeDiff, Nat.reduceLT, ↓gr1_8 hW, ↓gr1_7 hW]
    refine Rn_bind (c_copy (SetS11 hW) (SetS7 hW) (by omega) hT) ?_
    rintro _ ⟨I1, rfl, a1, a2⟩
    have et := c_told (J := J) (n := n) (I := pu_u I1 1 9 1) (SetS7 hW) hZ.2.2.2.1.2.1 (fun j hj => by rw [u_n (by omega), a2 _ _ (by omega) (by omega)]; exact hT.2.1 j hj)
    simp (disch := first | assumption | with_unfolding_all exact hW.1 _ _ rfl | rfl | exact pu_okI (by first | assumption | with_unfolding_all exact hW.1 _ _ rfl) (by omega) (by omega) | exact pu_oqI (by first | assumption | with_unfolding_all exact hW.1 _ _ rfl) (by omega) (by omega) | omega | decide) only [↓reduceIte, ↓gi_b, ↓pi_b, ↓gr_b, ↓pr_b, ↓al_b, ↓as_b, ↓al_3, ↓as_3, ↓al_12, ↓as_12, ↓al_l, ↓as_l, ↓rc_b, ↓Option.bind_some, ↓zr0_b, ↓zr1_b, ↓zrb_b, ↓pz0_b, ↓pz1_b, al_b, as_b, rc_b, gi_b, pi_b, gr_b, zr0, zr1, zrb, u_s, u_n, v_s, v_n, ↓isIn_b, ↓within_b, ite_T, ite_F, il_t, il_f, li_t, li_f, it_t, it_f, ti_t, ti_f, ie_t, ie_f, ei_t, ei_f, nn_le_t, nn_le_f, nn_lt_t, nn_lt_f, nn_eq_t, nn_eq_f, nI_1, nI_add, ni_addl, ni_ladd, pk_mul, ni_mull, b2_t, b2_f, b2_0, one0, m1_eq, ni_m1, reduceCtorEq, Bool.false_eq_true, nI_clamp, if_true, Option.some.injEq, Prod.mk.injEq, and_true, true_and, Nat.reduceAdd, Nat.reduceMul, Nat.reduceSub, Nat.reduceEqDiff, Nat.reduceLeDiff, Nat.reduceLT, ↓gr1_8 hW, ↓gr1_7 hW, et]
    refine Rn_some (QC.set (h.setI (fun b j q1 q2 q3 => by rw [u_n (by omega), a2 _ _ (by omega) (by omega)]) u_s (a1.fr fun x j hx => by rw [u_n (by omega)])) (fun b j q1 q2 => by rw [u_n (by omega), a2 _ _ (by omega) (by omega)]))
  · have hW := h.1
    obtain ⟨t1, t2, t3⟩ := h.2.2.2.2.2.2.1
    unfold fX9_image
    simp (disch := first | assumption | with_unfolding_all exact hW.1 _ _ rfl | rfl | exact pu_okI (by first | assumption | with_unfolding_all exact hW.1 _ _ rfl) (by omega) (by omega) | exact pu_oqI (by first | assumption | with_unfolding_all exact hW.1 _ _ rfl) (by omega) (by omega) | omega | decide) only [↓reduceIte, ↓gi_b, ↓pi_b, ↓gr_b, ↓pr_b, ↓al_b, ↓as_b, ↓al_3, ↓as_3, ↓al_12, ↓as_12, ↓al_l, ↓as_l, ↓rc_b, ↓Option.bind_some, ↓zr0_b, ↓zr1_b, ↓zrb_b, ↓pz0_b, ↓pz1_b, al_b, as_b, rc_b, gi_b, pi_b, gr_b, zr0, zr1, zrb, u_s, u_n, v_s, v_n, ↓isIn_b, ↓within_b, ite_T, ite_F, il_t, il_f, li_t, li_f, it_t, it_f, ti_t, ti_f, ie_t, ie_f, ei_t, ei_f, nn_le_t, nn_le_f, nn_lt_t, nn_lt_f, nn_eq_t, nn_eq_f, nI_1, nI_add, ni_addl, ni_ladd, pk_mul, ni_mull, b2_t, b2_f, b2_0, one0, m1_eq, ni_m1, reduceCtorEq, Bool.false_eq_true, nI_clamp, if_true, Option.some.injEq, Prod.mk.injEq, and_true, true_and, Nat.reduceAdd, Nat.reduceMul, Nat.reduceSub, Nat.reduceEqDiff, Nat.reduceLeDiff, Nat.reduceLT, t3]
    rw [show (0 : Int32) = nI 0 from rfl]
    refine Rn_mono (m_img15 hW hZ.2.2.2.1.2.1 4 0 am_fu _ (by omega) (by unfold am_fu; omega) (fun j hj => by rw [u_n (by omega), u_n (by omega)]; exact t2 j hj) (fun j hj => by omega)) ?_
    rintro _ ⟨I1, rfl, a1, a2, a3⟩
    refine QM.set (h.setI (fun b j q1 q2 => by rw [a3 _ _ q2, u_n (by omega), u_n (by omega)]) (by rw [a3 _ _ (by omega), u_n (by omega), u_s]) ⟨fun j hj => ?_, fun j hj => ?_, ?_⟩) (fun b j q1 => by rw [a3 _ _ (by omega), u_n (by omega), u_n (by omega)])
    · obtain ⟨q1, q2⟩ := a1 j hj
      obtain ⟨r1, r2⟩ := t1 j hj
      exact ⟨by rw [q1, u_n (by omega), u_n (by omega), r1], by rw [q2, u_n (by omega), u_n (by omega), r2]⟩
    · rw [a2 j hj, u_n (by omega), u_n (by omega), t2 j hj]
    · rw [a3 _ _ (by omega), u_s]
set_option maxHeartbeats 4000000 in
set_option maxRecDepth 100000 in
theorem d_restore {Z : S_Z} (hZ : Z_B Z) : CallOK Z (fX8_restore 1) (fX9_restore 40) := by
  cases hk : zH Z with
  | false =>
    refine CallOK.no hZ (-103) (fun s I P J n h => ?_) (fun s I P J n h => ?_)
    · have hW := h.1
      unfold fX8_restore
      simp (disch := first | assumption | with_unfolding_all exact hW.1 _ _ rfl | rfl | exact pu_okI (by first | assumption | with_unfolding_all exact hW.1 _ _ rfl) (by omega) (by omega) | exact pu_oqI (by first | assumption | with_unfolding_all exact hW.1 _ _ rfl) (by omega) (by omega) | omega | decide) only [↓reduceIte, ↓gi_b, ↓pi_b, ↓gr_b, ↓pr_b, ↓al_b, ↓as_b, ↓al_3, ↓as_3, ↓al_12, ↓as_12, ↓al_l, ↓as_l, ↓rc_b, ↓Option.bind_some, ↓zr0_b, ↓zr1_b, ↓zrb_b, ↓pz0_b, ↓pz1_b, al_b, as_b, rc_b, gi_b, pi_b, gr_b, zr0, zr1, zrb, u_s, u_n, v_s, v_n, ↓isIn_b, ↓within_b, ite_T, ite_F, il_t, il_f, li_t, li_f, it_t, it_f, ti_t, ti_f, ie_t, ie_f, ei_t, ei_f, nn_le_t, nn_le_f, nn_lt_t, nn_lt_f, nn_eq_t, nn_eq_f, nI_1, nI_add, ni_addl, ni_ladd, pk_mul, ni_mull, b2_t, b2_f, b2_0, one0, m1_eq, ni_m1, reduceCtorEq, Bool.false_eq_true, nI_clamp, if_true, Option.some.injEq, Prod.mk.injEq, and_true, true_and, Nat.reduceAdd, Nat.reduceMul, Nat.reduceSub, Nat.reduceEqDiff, Nat.reduceLeDiff, Nat.reduceLT, h.2.2.1.2.2.2.1, hk]
    · have hW := h.1
      unfold fX9_restore
      simp (disch := first | assumption | with_unfolding_all exact hW.1 _ _ rfl | rfl | exact pu_okI (by first | assumption | with_unfolding_all exact hW.1 _ _ rfl) (by omega) (by omega) | exact pu_oqI (by first | assumption | with_unfolding_all exact hW.1 _ _ rfl) (by omega) (by omega) | omega | decide) only [↓reduceIte, ↓gi_b, ↓pi_b, ↓gr_b, ↓pr_b, ↓al_b, ↓as_b, ↓al_3, ↓as_3, ↓al_12, ↓as_12, ↓al_l, ↓as_l, ↓rc_b, ↓Option.bind_some, ↓zr0_b, ↓zr1_b, ↓zrb_b, ↓pz0_b, ↓pz1_b, al_b, as_b, rc_b, gi_b, pi_b, gr_b, zr0, zr1, zrb, u_s, u_n, v_s, v_n, ↓isIn_b, ↓within_b, ite_T, ite_F, il_t, il_f, li_t, li_f, it_t, it_f, ti_t, ti_f, ie_t, ie_f, ei_t, ei_f, nn_le_t, nn_le_f, nn_lt_t, nn_lt_f, nn_eq_t, nn_eq_f, nI_1, nI_add, ni_addl, ni_ladd, pk_mul, ni_mull, b2_t, b2_f, b2_0, one0, m1_eq, ni_m1, reduceCtorEq, Bool.false_eq_true, nI_clamp, if_true, Option.some.injEq, Prod.mk.injEq, and_true, true_and, Nat.reduceAdd, Nat.reduceMul, Nat.reduceSub, Nat.reduceEqDiff, Nat.reduceLeDiff, Nat.reduceLT, h.2.1.2.2.2.1, hk]
  | true =>
    have hTk := hZ.2.2.2.2.1 hk
    refine ⟨nI (cntL (tl (zTk Z)) 12), zsT Z (zTk Z), hZ.setT hTk, fun s I P J n h => ?_, fun s I P J n h => ?_⟩
    · have hW := h.1
      have hT := h.2.2.2.2.2.2.2.2.2 hk
      unfold fX8_restore
      simp (disch := first | assumption | with_unfolding_all exact hW.1 _ _ rfl | rfl | exact pu_okI (by first | assumption | with_unfolding_all exact hW.1 _ _ rfl) (by omega) (by omega) | exact pu_oqI (by first | assumption | with_unfolding_all exact hW.1 _ _ rfl) (by omega) (by omega) | omega | decide) only [↓reduceIte, ↓gi_b, ↓pi_b, ↓gr_b, ↓pr_b, ↓al_b, ↓as_b, ↓al_3, ↓as_3, ↓al_12, ↓as_12, ↓al_l, ↓as_l, ↓rc_b, ↓Option.bind_some, ↓zr0_b, ↓zr1_b, ↓zrb_b, ↓pz0_b, ↓pz1_b, al_b, as_b, rc_b, gi_b, pi_b, gr_b, zr0, zr1, zrb, u_s, u_n, v_s, v_n, ↓isIn_b, ↓within_b, ite_T, ite_F, il_t, il_f, li_t, li_f, it_t, it_f, ti_t, ti_f, ie_t, ie_f, ei_t, ei_f, nn_le_t, nn_le_f, nn_lt_t, nn_lt_f, nn_eq_t, nn_eq_f, nI_1, nI_add, ni_addl, ni_ladd, pk_mul, ni_mull, b2_t, b2_f, b2_0, one0, m1_eq, ni_m1, reduceCtorEq, Bool.false_eq_true, nI_clamp, if_true, Option.some.injEq, Prod.mk.injEq, and_true, true_and, Nat.reduceAdd, Nat.reduceMul, Nat.reduceSub, Nat.reduceEqDiff, Nat.reduceLeDiff, Nat.reduceLT, ↓gr1_7 hW, ↓gr1_8 hW, h.2.2.1.2.2.2.1, hk]
      refine Rn_bind (c_copy (SetS7 hW) (SetS11 hW) (by omega) hT) ?_
      rintro _ ⟨I1, rfl, a1, a2⟩
      have et := c_told (J := J) (n := n) (I := I1) (SetS7 hW) hTk.2.1 (fun j hj => a1.2.1 j hj)
      simp (disch := first | assumption | with_unfolding_all exact hW.1 _ _ rfl | rfl | exact pu_okI (by first | assumption | with_unfolding_all exact hW.1 _ _ rfl) (by omega) (by omega) | exact pu_oqI (by first | assumption | with_unfolding_all exact hW.1 _ _ rfl) (by omega) (by omega) | omega | decide) only [↓reduceIte, ↓gi_b, ↓pi_b, ↓gr_b, ↓pr_b, ↓al_b, ↓as_b, ↓al_3, ↓as_3, ↓al_12, ↓as_12, ↓al_l, ↓as_l, ↓rc_b, ↓Option.bind_some, ↓zr0_b, ↓zr1_b, ↓zrb_b, ↓pz0_b, ↓pz1_b, al_b, as_b, rc_b, gi_b, pi_b, gr_b, zr0, zr1, zrb, u_s, u_n, v_s, v_n, ↓isIn_b, ↓within_b, ite_T, ite_F, il_t, il_f, li_t, li_f, it_t, it_f, ti_t, ti_f, ie_t, ie_f, ei_t, ei_f, nn_le_t, nn_le_f, nn_lt_t, nn_lt_f, nn_eq_t, nn_eq_f, nI_1, nI_add, ni_addl, ni_ladd, pk_mul, ni_mull, b2_t, b2_f, b2_0, one0, m1_eq, ni_m1, reduceCtorEq, Bool.false_eq_true, nI_clamp, if_true, Option.some.injEq, Prod.mk.injEq, and_true, true_and, Nat.reduceAdd, Nat.reduceMul, Nat.reduceSub, Nat.reduceEqDiff, Nat.reduceLeDiff, Nat.reduceLT, ↓gr1_7 hW, ↓gr1_8 hW, et]
      exact Rn_some (QC.set (h.setT (fun b j q1 q2 => a2 _ _ (by omega) (by omega)) a1) (fun b j q1 q2 => a2 _ _ (by omega) (by omega)))
    · have hW := h.1
      obtain ⟨t1, t2, t3⟩ := h.2.2.2.2.2.2.2 hk
      unfold fX9_restore
      simp (disch := first | assumption | with_unfolding_all exact hW.1 _ _ rfl | rfl | exact pu_okI (by first | assumption | with_unfolding_all exact hW.1 _ _ rfl) (by omega) (by omega) | exact pu_oqI (by first | assumption | with_unfolding_all exact hW.1 _ _ rfl) (by omega) (by omega) | omega | decide) only [↓reduceIte, ↓gi_b, ↓pi_b, ↓gr_b, ↓pr_b, ↓al_b, ↓as_b, ↓al_3, ↓as_3, ↓al_12, ↓as_12, ↓al_l, ↓as_l, ↓rc_b, ↓Option.bind_some, ↓zr0_b, ↓zr1_b, ↓zrb_b, ↓pz0_b, ↓pz1_b, al_b, as_b, rc_b, gi_b, pi_b, gr_b, zr0, zr1, zrb, u_s, u_n, v_s, v_n, ↓isIn_b, ↓within_b, ite_T, ite_F, il_t, il_f, li_t, li_f, it_t, it_f, ti_t, ti_f, ie_t, ie_f, ei_t, ei_f, nn_le_t, nn_le_f, nn_lt_t, nn_lt_f, nn_eq_t, nn_eq_f, nI_1, nI_add, ni_addl, ni_ladd, pk_mul, ni_mull, b2_t, b2_f, b2_0, one0, m1_eq, ni_m1, reduceCtorEq, Bool.false_eq_true, nI_clamp, if_true, Option.some.injEq, Prod.mk.injEq, and_true, true_and, Nat.reduceAdd, Nat.reduceMul, Nat.reduceSub, Nat.reduceEqDiff, Nat.reduceLeDiff, Nat.reduceLT, h.2.1.2.2.2.1, hk, t3]
      rw [show (0 : Int32) = nI 0 from rfl]
      refine Rn_mono (m_res20 hW hTk.2.1 4 0 am_fu _ (by omega) (by unfold am_fu; omega) (fun j hj => by rw [u_n (by omega)]; exact t2 j hj) (fun j hj => by omega)) ?_
      rintro _ ⟨I1, rfl, a1, a2, a3⟩
      refine QM.set (h.setT (fun b j q1 q2 q3 => by rw [a3 _ _ q2 q3, u_n (by omega)]) ⟨fun j hj => ?_, fun j hj => ?_, ?_⟩) (fun b j q1 => by rw [a3 _ _ (by omega) (by omega), u_n (by omega)])
      · obtain ⟨q1, q2⟩ := a1 j hj
        obtain ⟨r1, r2⟩ := t1 j hj
        exact ⟨by rw [q1, u_n (by omega), r1], by rw [q2, u_n (by omega), r2]⟩
      · rw [a2 j hj, u_n (by omega), t2 j hj]
      · rw [a3 _ _ (by omega) (by omega), u_s]
