/-! blank, count, image, restore -/
def cntL (l : Nat → Option Nat) : Nat → Nat
  | 0 => 0
  | b + 1 => cntL l b + (if (l b).isSome = true then 1 else 0)
theorem cntL_le {l : Nat → Option Nat} : ∀ b, cntL l b ≤ b
  | 0 => Nat.le_refl _
  | b + 1 => by
    have := cntL_le (l := l) b
    show cntL l b + _ ≤ _
    split <;> omega
def SetS (s : Nat → Option pu_S) (P : Nat → Nat → Option Nat) (d : Nat) : Prop := s d = some (0, 6, 0) ∧ s (d + 1) = some (1, 0, 4) ∧ s (d + 2) = some (1, 0, 4) ∧ s (d + 3) = some (1, 0, 12) ∧ P d 0 = some (d + 1) ∧ P d 1 = some (d + 2) ∧ P d 2 = some (d + 3)
section IM
variable {s : Nat → Option pu_S} {I : Nat → Nat → Int32} {P : Nat → Nat → Option Nat} {J : Nat → Nat → Int64} {n : Nat × Nat}
variable {Z : S_Z} {T : S_T} {d e : Nat}
theorem SetS7 (hW : pu_W s P) : SetS s P 7 := ⟨hW.1 _ _ rfl, hW.1 _ _ rfl, hW.1 _ _ rfl, hW.1 _ _ rfl, hW.2 _ _ _ rfl, hW.2 _ _ _ rfl, hW.2 _ _ _ rfl⟩
theorem SetS11 (hW : pu_W s P) : SetS s P 11 := ⟨hW.1 _ _ rfl, hW.1 _ _ rfl, hW.1 _ _ rfl, hW.1 _ _ rfl, hW.2 _ _ _ rfl, hW.2 _ _ _ rfl, hW.2 _ _ _ rfl⟩
theorem oI_m1 {l : Option Nat} (h : ∀ t, l = some t → t ≤ 96) : (oI l = -1) = (l.isSome = false) := by
  cases l with
  | none => simp [oI]
  | some k =>
    have := h k rfl
    rw [show oI (some k) = nI k from rfl, ni_m1 (by omega)]
    simp
set_option maxHeartbeats 4000000 in
set_option maxRecDepth 100000 in
theorem c_told4 (hs : SetS s P d) {l : Nat → Option Nat} (hl : ∀ b t, b < 12 → l b = some t → t ≤ 96) (hI : ∀ j, j < 12 → I (d + 3) j = oI (l j)) : ∀ (m b N : Nat), b + m = 12 → m < N → fX6_ballsTold_4 N (some d) (nI (cntL l b)) (nI b) (pu_hp s I P J n) = some (nI (cntL l 12), pu_hp s I P J n) := by
  obtain ⟨s1, s2, s3, s4, s5, s6, s7⟩ := hs
  intro m
  induction m with
  | zero =>
    intro b N hb hN
    obtain ⟨N, rfl⟩ : ∃ N', N = N' + 1 := ⟨N - 1, by omega⟩
    obtain rfl : b = 12 := by omega
    show fX6_ballsTold_4_b _ _ _ _ _ = _
    unfold fX6_ballsTold_4_b
    simp (disch := first | assumption | with_unfolding_all exact hW.1 _ _ rfl | rfl | exact pu_okI (by first | assumption | with_unfolding_all exact hW.1 _ _ rfl) (by omega) (by omega) | exact pu_oqI (by first | assumption | with_unfolding_all exact hW.1 _ _ rfl) (by omega) (by omega) | omega | decide) only [↓reduceIte, ↓gi_b, ↓pi_b, ↓gr_b, ↓pr_b, ↓al_b, ↓as_b, ↓al_3, ↓as_3, ↓al_12, ↓as_12, ↓al_l, ↓as_l, ↓rc_b, ↓Option.bind_some, ↓zr0_b, ↓zr1_b, ↓zrb_b, ↓pz0_b, ↓pz1_b, al_b, as_b, rc_b, gi_b, pi_b, gr_b, zr0, zr1, zrb, u_s, u_n, v_s, v_n, ↓isIn_b, ↓within_b, ite_T, ite_F, il_t, il_f, li_t, li_f, it_t, it_f, ti_t, ti_f, ie_t, ie_f, ei_t, ei_f, nn_le_t, nn_le_f, nn_lt_t, nn_lt_f, nn_eq_t, nn_eq_f, nI_1, nI_add, ni_addl, ni_ladd, pk_mul, ni_mull, b2_t, b2_f, b2_0, one0, m1_eq, ni_m1, reduceCtorEq, Bool.false_eq_true, nI_clamp, if_true, Option.some.injEq, Prod.mk.injEq, and_true, true_and, Nat.reduceAdd, Nat.reduceMul, Nat.reduceSub, Nat.reduceEqDiff, Nat.reduceLeDiff, Nat.reduceLT]
  | succ m ih =>
    intro b N hb hN
    obtain ⟨N, rfl⟩ : ∃ N', N = N' + 1 := ⟨N - 1, by omega⟩
    have e := hI b (by omega)
    have e1 := oI_m1 (fun t => hl b t (by omega))
    have e2 : cntL l (b + 1) = cntL l b + (if (l b).isSome = true then 1 else 0) := rfl
    show fX6_ballsTold_4_b (fX6_ballsTold_4 N) _ _ _ _ = _
    unfold fX6_ballsTold_4_b fX6_ballsTold_23
    cases c : (l b).isSome with
    | false =>
      rw [c, if_neg (by decide)] at e2
      simp (disch := first | assumption | with_unfolding_all exact hW.1 _ _ rfl | rfl | exact pu_okI (by first | assumption | with_unfolding_all exact hW.1 _ _ rfl) (by omega) (by omega) | exact pu_oqI (by first | assumption | with_unfolding_all exact hW.1 _ _ rfl) (by omega) (by omega) | omega | decide) only [↓reduceIte, ↓gi_b, ↓pi_b, ↓gr_b, ↓pr_b, ↓al_b, ↓as_b, ↓al_3, ↓as_3, ↓al_12, ↓as_12, ↓al_l, ↓as_l, ↓rc_b, ↓Option.bind_some, ↓zr0_b, ↓zr1_b, ↓zrb_b, ↓pz0_b, ↓pz1_b, al_b, as_b, rc_b, gi_b, pi_b, gr_b, zr0, zr1, zrb, u_s, u_n, v_s, v_n, ↓isIn_b, ↓within_b, ite_T, ite_F, il_t, il_f, li_t, li_f, it_t, it_f, ti_t, ti_f, ie_t, ie_f, ei_t, ei_f, nn_le_t, nn_le_f, nn_lt_t, nn_lt_f, nn_eq_t, nn_eq_f, nI_1, nI_add, ni_addl, ni_ladd, pk_mul, ni_mull, b2_t, b2_f, b2_0, one0, m1_eq, ni_m1, reduceCtorEq, Bool.false_eq_true, nI_clamp, if_true, Option.some.injEq, Prod.mk.injEq, and_true, true_and, Nat.reduceAdd, Nat.reduceMul, Nat.reduceSub, Nat.reduceEqDiff, Nat.reduceLeDiff, Nat.reduceLT, ↓gr_h s1 s7 rfl, e, e1, c]
      have := ih (b + 1) N (by omega) (by omega)
      rw [e2] at this; exact this
    | true =>
      rw [c, if_pos rfl] at e2
      simp (disch := first | assumption | with_unfolding_all exact hW.1 _ _ rfl | rfl | exact pu_okI (by first | assumption | with_unfolding_all exact hW.1 _ _ rfl) (by omega) (by omega) | exact pu_oqI (by first | assumption | with_unfolding_all exact hW.1 _ _ rfl) (by omega) (by omega) | omega | decide) only [↓reduceIte, ↓gi_b, ↓pi_b, ↓gr_b, ↓pr_b, ↓al_b, ↓as_b, ↓al_3, ↓as_3, ↓al_12, ↓as_12, ↓al_l, ↓as_l, ↓rc_b, ↓Option.bind_some, ↓zr0_b, ↓zr1_b, ↓zrb_b, ↓pz0_b, ↓pz1_b, al_b, as_b, rc_b, gi_b, pi_b, gr_b, zr0, zr1, zrb, u_s, u_n, v_s, v_n, ↓isIn_b, ↓within_b, ite_T, ite_F, il_t, il_f, li_t, li_f, it_t, it_f, ti_t, ti_f, ie_t, ie_f, ei_t, ei_f, nn_le_t, nn_le_f, nn_lt_t, nn_lt_f, nn_eq_t, nn_eq_f, nI_1, nI_add, ni_addl, ni_ladd, pk_mul, ni_mull, b2_t, b2_f, b2_0, one0, m1_eq, ni_m1, reduceCtorEq, Bool.false_eq_true, nI_clamp, if_true, Option.some.injEq, Prod.mk.injEq, and_true, true_and, Nat.reduceAdd, Nat.reduceMul, Nat.reduceSub, Nat.reduceEqDiff, Nat.reduceLeDiff, Nat.reduceLT, ↓gr_h s1 s7 rfl, e, e1, c, Bool.true_eq_false]
      have := ih (b + 1) N (by omega) (by omega)
      rw [e2] at this; exact this
theorem c_told (hs : SetS s P d) {l : Nat → Option Nat} (hl : ∀ b t, b < 12 → l b = some t → t ≤ 96) (hI : ∀ j, j < 12 → I (d + 3) j = oI (l j)) : fX6_ballsTold d (pu_hp s I P J n) = some (nI (cntL l 12), pu_hp s I P J n) := c_told4 hs hl hI 12 0 am_fu (by omega) (by unfold am_fu; omega)
set_option maxHeartbeats 4000000 in
set_option maxRecDepth 100000 in
theorem m_many4 (hW : pu_W s P) {l : Nat → Option Nat} (hl : ∀ b t, b < 12 → l b = some t → t ≤ 96) (hI : ∀ j, j < 12 → I 59 j = oI (l j)) : ∀ (m b N : Nat), b + m = 12 → m < N → fX9_logMany_4 N (some 40) (nI (cntL l b)) (nI b) (pu_hp s I P J n) = some (nI (cntL l 12), pu_hp s I P J n) := by
  intro m
  induction m with
  | zero =>
    intro b N hb hN
    obtain ⟨N, rfl⟩ : ∃ N', N = N' + 1 := ⟨N - 1, by omega⟩
    obtain rfl : b = 12 := by omega
    show fX9_logMany_4_b _ _ _ _ _ = _
    unfold fX9_logMany_4_b
    simp (disch := first | assumption | with_unfolding_all exact hW.1 _ _ rfl | rfl | exact pu_okI (by first | assumption | with_unfolding_all exact hW.1 _ _ rfl) (by omega) (by omega) | exact pu_oqI (by first | assumption | with_unfolding_all exact hW.1 _ _ rfl) (by omega) (by omega) | omega | decide) only [↓reduceIte, ↓gi_b, ↓pi_b, ↓gr_b, ↓pr_b, ↓al_b, ↓as_b, ↓al_3, ↓as_3, ↓al_12, ↓as_12, ↓al_l, ↓as_l, ↓rc_b, ↓Option.bind_some, ↓zr0_b, ↓zr1_b, ↓zrb_b, ↓pz0_b, ↓pz1_b, al_b, as_b, rc_b, gi_b, pi_b, gr_b, zr0, zr1, zrb, u_s, u_n, v_s, v_n, ↓isIn_b, ↓within_b, ite_T, ite_F, il_t, il_f, li_t, li_f, it_t, it_f, ti_t, ti_f, ie_t, ie_f, ei_t, ei_f, nn_le_t, nn_le_f, nn_lt_t, nn_lt_f, nn_eq_t, nn_eq_f, nI_1, nI_add, ni_addl, ni_ladd, pk_mul, ni_mull, b2_t, b2_f, b2_0, one0, m1_eq, ni_m1, reduceCtorEq, Bool.false_eq_true, nI_clamp, if_true, Option.some.injEq, Prod.mk.injEq, and_true, true_and, Nat.reduceAdd, Nat.reduceMul, Nat.reduceSub, Nat.reduceEqDiff, Nat.reduceLeDiff, Nat.reduceLT]
  | succ m ih =>
    intro b N hb hN
    obtain ⟨N, rfl⟩ : ∃ N', N = N' + 1 := ⟨N - 1, by omega⟩
    have e := hI b (by omega)
    have e1 := oI_m1 (fun t => hl b t (by omega))
    have e2 : cntL l (b + 1) = cntL l b + (if (l b).isSome = true then 1 else 0) := rfl
    show fX9_logMany_4_b (fX9_logMany_4 N) _ _ _ _ = _
    unfold fX9_logMany_4_b fX9_logMany_26
    cases c : (l b).isSome with
    | false =>
      rw [c, if_neg (by decide)] at e2
      simp (disch := first | assumption | with_unfolding_all exact hW.1 _ _ rfl | rfl | exact pu_okI (by first | assumption | with_unfolding_all exact hW.1 _ _ rfl) (by omega) (by omega) | exact pu_oqI (by first | assumption | with_unfolding_all exact hW.1 _ _ rfl) (by omega) (by omega) | omega | decide) only [↓reduceIte, ↓gi_b, ↓pi_b, ↓gr_b, ↓pr_b, ↓al_b, ↓as_b, ↓al_3, ↓as_3, ↓al_12, ↓as_12, ↓al_l, ↓as_l, ↓rc_b, ↓Option.bind_some, ↓zr0_b, ↓zr1_b, ↓zrb_b, ↓pz0_b, ↓pz1_b, al_b, as_b, rc_b, gi_b, pi_b, gr_b, zr0, zr1, zrb, u_s, u_n, v_s, v_n, ↓isIn_b, ↓within_b, ite_T, ite_F, il_t, il_f, li_t, li_f, it_t, it_f, ti_t, ti_f, ie_t, ie_f, ei_t, ei_f, nn_le_t, nn_le_f, nn_lt_t, nn_lt_f, nn_eq_t, nn_eq_f, nI_1, nI_add, ni_addl, ni_ladd, pk_mul, ni_mull, b2_t, b2_f, b2_0, one0, m1_eq, ni_m1, reduceCtorEq, Bool.false_eq_true, nI_clamp, if_true, Option.some.injEq, Prod.mk.injEq, and_true, true_and, Nat.reduceAdd, Nat.reduceMul, Nat.reduceSub, Nat.reduceEqDiff, Nat.reduceLeDiff, Nat.reduceLT, ↓gr40_22 hW, e, e1, c]
      have := ih (b + 1) N (by omega) (by omega)
      rw [e2] at this; exact this
    | true =>
      rw [c, if_pos rfl] at e2
      simp (disch := first | assumption | with_unfolding_all exact hW.1 _ _ rfl | rfl | exact pu_okI (by first | assumption | with_unfolding_all exact hW.1 _ _ rfl) (by omega) (by omega) | exact pu_oqI (by first | assumption | with_unfolding_all exact hW.1 _ _ rfl) (by omega) (by omega) | omega | decide) only [↓reduceIte, ↓gi_b, ↓pi_b, ↓gr_b, ↓pr_b, ↓al_b, ↓as_b, ↓al_3, ↓as_3, ↓al_12, ↓as_12, ↓al_l, ↓as_l, ↓rc_b, ↓Option.bind_some, ↓zr0_b, ↓zr1_b, ↓zrb_b, ↓pz0_b, ↓pz1_b, al_b, as_b, rc_b, gi_b, pi_b, gr_b, zr0, zr1, zrb, u_s, u_n, v_s, v_n, ↓isIn_b, ↓within_b, ite_T, ite_F, il_t, il_f, li_t, li_f, it_t, it_f, ti_t, ti_f, ie_t, ie_f, ei_t, ei_f, nn_le_t, nn_le_f, nn_lt_t, nn_lt_f, nn_eq_t, nn_eq_f, nI_1, nI_add, ni_addl, ni_ladd, pk_mul, ni_mull, b2_t, b2_f, b2_0, one0, m1_eq, ni_m1, reduceCtorEq, Bool.false_eq_true, nI_clamp, if_true, Option.some.injEq, Prod.mk.injEq, and_true, true_and, Nat.reduceAdd, Nat.reduceMul, Nat.reduceSub, Nat.reduceEqDiff, Nat.reduceLeDiff, Nat.reduceLT, ↓gr40_22 hW, e, e1, c, Bool.true_eq_false]
      have := ih (b + 1) N (by omega) (by omega)
      rw [e2] at this; exact this
theorem m_many (hW : pu_W s P) {l : Nat → Option Nat} (hl : ∀ b t, b < 12 → l b = some t → t ≤ 96) (hI : ∀ j, j < 12 → I 59 j = oI (l j)) : fX9_logMany 40 (pu_hp s I P J n) = some (nI (cntL l 12), pu_hp s I P J n) := m_many4 hW hl hI 12 0 am_fu (by omega) (by unfold am_fu; omega)
set_option maxHeartbeats 4000000 in
set_option maxRecDepth 100000 in
theorem c_copy39 (hd : SetS s P d) (he : SetS s P e) (hde : d + 3 < e ∨ e + 3 < d) : ∀ (m k N : Nat) (I : Nat → Nat → Int32), k + m = 12 → m < N → (∀ j, j < k → I (d + 3) j = I (e + 3) j) →
    Rn (fX6_copyFrom_39 N (some d) (some e) (nI k) (pu_hp s I P J n)) fun h => ∃ I', h = pu_hp s I' P J n ∧ (∀ j, j < 12 → I' (d + 3) j = I (e + 3) j) ∧ I' d 3 = I e 3 ∧ ∀ b j, ¬ b = d + 3 → ¬ (b = d ∧ j = 3) → I' b j = I b j := by
  obtain ⟨s1, s2, s3, s4, s5, s6, s7⟩ := id hd
  obtain ⟨t1, t2, t3, t4, t5, t6, t7⟩ := id he
  intro m
  induction m with
  | zero =>
    intro k N I hk hN hx
    obtain ⟨N, rfl⟩ : ∃ N', N = N' + 1 := ⟨N - 1, by omega⟩
    show Rn (fX6_copyFrom_39_b _ _ _ _ _) _
    unfold fX6_copyFrom_39_b
    simp (disch := first | assumption | with_unfolding_all exact hW.1 _ _ rfl | rfl | exact pu_okI (by first | assumption | with_unfolding_all exact hW.1 _ _ rfl) (by omega) (by omega) | exact pu_oqI (by first | assumption | with_unfolding_all exact hW.1 _ _ rfl) (by omega) (by omega) | omega | decide) only [↓reduceIte, ↓gi_b, ↓pi_b, ↓gr_b, ↓pr_b, ↓al_b, ↓as_b, ↓al_3, ↓as_3, ↓al_12, ↓as_12, ↓al_l, ↓as_l, ↓rc_b, ↓Option.bind_some, ↓zr0_b, ↓zr1_b, ↓zrb_b, ↓pz0_b, ↓pz1_b, al_b, as_b, rc_b, gi_b, pi_b, gr_b, zr0, zr1, zrb, u_s, u_n, v_s, v_n, ↓isIn_b, ↓within_b, ite_T, ite_F, il_t, il_f, li_t, li_f, it_t, it_f, ti_t, ti_f, ie_t, ie_f, ei_t, ei_f, nn_le_t, nn_le_f, nn_lt_t, nn_lt_f, nn_eq_t, nn_eq_f, nI_1, nI_add, ni_addl, ni_ladd, pk_mul, ni_mull, b2_t, b2_f, b2_0, one0, m1_eq, ni_m1, reduceCtorEq, Bool.false_eq_true, nI_clamp, if_true, Option.some.injEq, Prod.mk.injEq, and_true, true_and, Nat.reduceAdd, Nat.reduceMul, Nat.reduceSub, Nat.reduceEqDiff, Nat.reduceLeDiff, Nat.reduceLT]
    exact Rn_some ⟨_, rfl, fun j hj => by rw [u_n (by omega)]; exact hx j (by omega), u_s, fun b j h1 h2 => u_n h2⟩
  | succ m ih =>
    intro k N I hk hN hx
    obtain ⟨N, rfl⟩ : ∃ N', N = N' + 1 := ⟨N - 1, by omega⟩
    show Rn (fX6_copyFrom_39_b (fX6_copyFrom_39 N) _ _ _ _) _
    unfold fX6_copyFrom_39_b
    simp (disch := first | assumption | with_unfolding_all exact hW.1 _ _ rfl | rfl | exact pu_okI (by first | assumption | with_unfolding_all exact hW.1 _ _ rfl) (by omega) (by omega) | exact pu_oqI (by first | assumption | with_unfolding_all exact hW.1 _ _ rfl) (by omega) (by omega) | omega | decide) only [↓reduceIte, ↓gi_b, ↓pi_b, ↓gr_b, ↓pr_b, ↓al_b, ↓as_b, ↓al_3, ↓as_3, ↓al_12, ↓as_12, ↓al_l, ↓as_l, ↓rc_b, ↓Option.bind_some, ↓zr0_b, ↓zr1_b, ↓zrb_b, ↓pz0_b, ↓pz1_b, al_b, as_b, rc_b, gi_b, pi_b, gr_b, zr0, zr1, zrb, u_s, u_n, v_s, v_n, ↓isIn_b, ↓within_b, ite_T, ite_F, il_t, il_f, li_t, li_f, it_t, it_f, ti_t, ti_f, ie_t, ie_f, ei_t, ei_f, nn_le_t, nn_le_f, nn_lt_t, nn_lt_f, nn_eq_t, nn_eq_f, nI_1, nI_add, ni_addl, ni_ladd, pk_mul, ni_mull, b2_t, b2_f, b2_0, one0, m1_eq, ni_m1, reduceCtorEq, Bool.false_eq_true, nI_clamp, if_true, Option.some.injEq, Prod.mk.injEq, and_true, true_and, Nat.reduceAdd, Nat.reduceMul, Nat.reduceSub, Nat.reduceEqDiff, Nat.reduceLeDiff, Nat.reduceLT, ↓gr_h s1 s7 rfl, ↓gr_h t1 t7 rfl]
    refine Rn_mono (ih (k + 1) N _ (by omega) (by omega) (fun j hj => ?_)) ?_
    · rw [u_n (show ¬ (e + 3 = d + 3 ∧ _) by omega)]
      by_cases c : j = k
      · subst c; rw [u_s]
      · rw [u_n (by omega)]; exact hx j (by omega)
    · rintro _ ⟨I', rfl, a1, a2, a3⟩
      exact ⟨I', rfl, fun j hj => by rw [a1 j hj, u_n (by omega)], by rw [a2, u_n (by omega)], fun b j h1 h2 => by rw [a3 b j h1 h2, u_n (by omega)]⟩
set_option maxHeartbeats 4000000 in
set_option maxRecDepth 100000 in
theorem c_copy2 (hd : SetS s P d) (he : SetS s P e) (hde : d + 3 < e ∨ e + 3 < d) : ∀ (m k N : Nat) (I : Nat → Nat → Int32), k + m = 4 → m < N → (∀ j, j < k → I (d + 1) j = I (e + 1) j ∧ I (d + 2) j = I (e + 2) j) →
    Rn (fX6_copyFrom_2 N (some d) (some e) (nI k) (pu_hp s I P J n)) fun h => ∃ I', h = pu_hp s I' P J n ∧ (∀ j, j < 4 → I' (d + 1) j = I (e + 1) j ∧ I' (d + 2) j = I (e + 2) j) ∧ (∀ j, j < 12 → I' (d + 3) j = I (e + 3) j) ∧ I' d 3 = I e 3 ∧ ∀ b j, ¬ (d + 1 ≤ b ∧ b ≤ d + 3) → ¬ (b = d ∧ j = 3) → I' b j = I b j := by
  obtain ⟨s1, s2, s3, s4, s5, s6, s7⟩ := id hd
  obtain ⟨t1, t2, t3, t4, t5, t6, t7⟩ := id he
  intro m
  induction m with
  | zero =>
    intro k N I hk hN hx
    obtain ⟨N, rfl⟩ : ∃ N', N = N' + 1 := ⟨N - 1, by omega⟩
    show Rn (fX6_copyFrom_2_b _ _ _ _ _) _
    unfold fX6_copyFrom_2_b
    simp (disch := first | assumption | with_unfolding_all exact hW.1 _ _ rfl | rfl | exact pu_okI (by first | assumption | with_unfolding_all exact hW.1 _ _ rfl) (by omega) (by omega) | exact pu_oqI (by first | assumption | with_unfolding_all exact hW.1 _ _ rfl) (by omega) (by omega) | omega | decide) only [↓reduceIte, ↓gi_b, ↓pi_b, ↓gr_b, ↓pr_b, ↓al_b, ↓as_b, ↓al_3, ↓as_3, ↓al_12, ↓as_12, ↓al_l, ↓as_l, ↓rc_b, ↓Option.bind_some, ↓zr0_b, ↓zr1_b, ↓zrb_b, ↓pz0_b, ↓pz1_b, al_b, as_b, rc_b, gi_b, pi_b, gr_b, zr0, zr1, zrb, u_s, u_n, v_s, v_n, ↓isIn_b, ↓within_b, ite_T, ite_F, il_t, il_f, li_t, li_f, it_t, it_f, ti_t, ti_f, ie_t, ie_f, ei_t, ei_f, nn_le_t, nn_le_f, nn_lt_t, nn_lt_f, nn_eq_t, nn_eq_f, nI_1, nI_add, ni_addl, ni_ladd, pk_mul, ni_mull, b2_t, b2_f, b2_0, one0, m1_eq, ni_m1, reduceCtorEq, Bool.false_eq_true, nI_clamp, if_true, Option.some.injEq, Prod.mk.injEq, and_true, true_and, Nat.reduceAdd, Nat.reduceMul, Nat.reduceSub, Nat.reduceEqDiff, Nat.reduceLeDiff, Nat.reduceLT]
    rw [show (0 : Int32) = nI 0 from rfl]
    refine Rn_mono (c_copy39 hd he hde 12 0 am_fu I (by omega) (by unfold am_fu; omega) (fun j hj => by omega)) ?_
    rintro _ ⟨I', rfl, a1, a2, a3⟩
    exact ⟨I', rfl, fun j hj => by rw [a3 _ _ (by omega) (by omega), a3 _ _ (by omega) (by omega)]; exact hx j (by omega), a1, a2, fun b j h1 h2 => a3 b j (by omega) h2⟩
  | succ m ih =>
    intro k N I hk hN hx
    obtain ⟨N, rfl⟩ : ∃ N', N = N' + 1 := ⟨N - 1, by omega⟩
    show Rn (fX6_copyFrom_2_b (fX6_copyFrom_2 N) _ _ _ _) _
    unfold fX6_copyFrom_2_b
    simp (disch := first | assumption | with_unfolding_all exact hW.1 _ _ rfl | rfl | exact pu_okI (by first | assumption | with_unfolding_all exact hW.1 _ _ rfl) (by omega) (by omega) | exact pu_oqI (by first | assumption | with_unfolding_all exact hW.1 _ _ rfl) (by omega) (by omega) | omega | decide) only [↓reduceIte, ↓gi_b, ↓pi_b, ↓gr_b, ↓pr_b, ↓al_b, ↓as_b, ↓al_3, ↓as_3, ↓al_12, ↓as_12, ↓al_l, ↓as_l, ↓rc_b, ↓Option.bind_some, ↓zr0_b, ↓zr1_b, ↓zrb_b, ↓pz0_b, ↓pz1_b, al_b, as_b, rc_b, gi_b, pi_b, gr_b, zr0, zr1, zrb, u_s, u_n, v_s, v_n, ↓isIn_b, ↓within_b, ite_T, ite_F, il_t, il_f, li_t, li_f, it_t, it_f, ti_t, ti_f, ie_t, ie_f, ei_t, ei_f, nn_le_t, nn_le_f, nn_lt_t, nn_lt_f, nn_eq_t, nn_eq_f, nI_1, nI_add, ni_addl, ni_ladd, pk_mul, ni_mull, b2_t, b2_f, b2_0, one0, m1_eq, ni_m1, reduceCtorEq, Bool.false_eq_true, nI_clamp, if_true, Option.some.injEq, Prod.mk.injEq, and_true, true_and, Nat.reduceAdd, Nat.reduceMul, Nat.reduceSub, Nat.reduceEqDiff, Nat.reduceLeDiff, Nat.reduceLT, ↓gr_h s1 s5 rfl, ↓gr_h t1 t5 rfl, ↓gr_h s1 s6 rfl, ↓gr_h t1 t6 rfl]
    refine Rn_mono (ih (k + 1) N _ (by omega) (by omega) (fun j hj => ?_)) ?_
    · rw [u_n (show ¬ (e + 1 = d + 2 ∧ _) by omega), u_n (show ¬ (e + 1 = d + 1 ∧ _) by omega), u_n (show ¬ (e + 2 = d + 2 ∧ _) by omega), u_n (show ¬ (e + 2 = d + 1 ∧ _) by omega), u_n (show ¬ (d + 1 = d + 2 ∧ _) by omega)]
      by_cases c : j = k
      · subst c; rw [u_s, u_s]; exact ⟨rfl, rfl⟩
      · rw [u_n (by omega), u_n (by omega), u_n (by omega)]; exact hx j (by omega)
    · rintro _ ⟨I', rfl, a1, a2, a3, a4⟩
      refine ⟨I', rfl, fun j hj => ?_, fun j hj => by rw [a2 j hj, u_n (by omega), u_n (by omega)], by rw [a3, u_n (by omega), u_n (by omega)], fun b j h1 h2 => by rw [a4 b j h1 h2, u_n (by omega), u_n (by omega)]⟩
      obtain ⟨q1, q2⟩ := a1 j hj
      exact ⟨by rw [q1, u_n (by omega), u_n (by omega)], by rw [q2, u_n (by omega), u_n (by omega)]⟩
theorem c_copy (hd : SetS s P d) (he : SetS s P e) (hde : d + 3 < e ∨ e + 3 < d) (hT : T_I I (e + 1) (e + 2) (e + 3) e 3 T) : Rn (fX6_copyFrom d (some e) (pu_hp s I P J n)) fun h => ∃ I', h = pu_hp s I' P J n ∧ T_I I' (d + 1) (d + 2) (d + 3) d 3 T ∧ ∀ b j, ¬ (d + 1 ≤ b ∧ b ≤ d + 3) → ¬ (b = d ∧ j = 3) → I' b j = I b j := by
  unfold fX6_copyFrom
  rw [show (0 : Int32) = nI 0 from rfl]
  refine Rn_mono (c_copy2 hd he hde 4 0 am_fu I (by omega) (by unfold am_fu; omega) (fun j hj => by omega)) ?_
  rintro _ ⟨I', rfl, a1, a2, a3, a4⟩
  obtain ⟨t1, t2, t3⟩ := hT
  refine ⟨I', rfl, ⟨fun j hj => ?_, fun j hj => by rw [a2 j hj, t2 j hj], by rw [a3, t3]⟩, a4⟩
  obtain ⟨q1, q2⟩ := a1 j hj
  obtain ⟨r1, r2⟩ := t1 j hj
  exact ⟨q1.trans r1, q2.trans r2⟩
end IM
set_option maxHeartbeats 4000000 in
set_option maxRecDepth 100000 in
theorem d_blank {Z : S_Z} (hZ : Z_B Z) : CallOK Z (fX8_blank 1) (fX9_blank 40) := by
  refine ⟨nI (zpl Z), zsP Z 0 (zpc Z), ⟨hZ.1, hZ.2.1, hZ.2.2.1, hZ.2.2.2.1, hZ.2.2.2.2.1, ⟨Nat.zero_le _, fun k hk => absurd hk (Nat.not_lt_zero k)⟩, hZ.2.2.2.2.2.2⟩, fun s I P J n h => ?_, fun s I P J n h => ?_⟩
  · have hW := h.1
    obtain ⟨a1, a2, a3, a4, a5, a6⟩ := h.2.2.1
    unfold fX8_blank
    simp (disch := first | assumption | with_unfolding_all exact hW.1 _ _ rfl | rfl | exact pu_okI (by first | assumption | with_unfolding_all exact hW.1 _ _ rfl) (by omega) (by omega) | exact pu_oqI (by first | assumption | with_unfolding_all exact hW.1 _ _ rfl) (by omega) (by omega) | omega | decide) only [↓reduceIte, ↓gi_b, ↓pi_b, ↓gr_b, ↓pr_b, ↓al_b, ↓as_b, ↓al_3, ↓as_3, ↓al_12, ↓as_12, ↓al_l, ↓as_l, ↓rc_b, ↓Option.bind_some, ↓zr0_b, ↓zr1_b, ↓zrb_b, ↓pz0_b, ↓pz1_b, al_b, as_b, rc_b, gi_b, pi_b, gr_b, zr0, zr1, zrb, u_s, u_n, v_s, v_n, ↓isIn_b, ↓within_b, ite_T, ite_F, il_t, il_f, li_t, li_f, it_t, it_f, ti_t, ti_f, ie_t, ie_f, ei_t, ei_f, nn_le_t, nn_le_f, nn_lt_t, nn_lt_f, nn_eq_t, nn_eq_f, nI_1, nI_add, ni_addl, ni_ladd, pk_mul, ni_mull, b2_t, b2_f, b2_0, one0, m1_eq, ni_m1, reduceCtorEq, Bool.false_eq_true, nI_clamp, if_true, Option.some.injEq, Prod.mk.injEq, and_true, true_and, Nat.reduceAdd, Nat.reduceMul, Nat.reduceSub, Nat.reduceEqDiff, Nat.reduceLeDiff, Nat.reduceLT, ↓gr1_6 hW, a6]
    refine Rn_some (QC.set (h.gen rfl rfl rfl (fun b j q1 q2 => by rw [u_n (by omega)]) ?_ ?_ ?_ (fun k hk => absurd hk (Nat.not_lt_zero k)) (h.2.2.2.2.2.2.2.2.1.fr fun x j hx => by rw [u_n (by omega)]) (fun hh => (h.2.2.2.2.2.2.2.2.2 hh).fr fun x j hx => by rw [u_n (by omega)])) (fun b j q1 q2 => by rw [u_n (by omega)]))
    · rw [u_n (by omega), a4]; rfl
    · rw [u_n (by omega), a5]; rfl
    · rw [u_s]; rfl
  · have hW := h.1
    obtain ⟨a1, a2, a3, a4, a5, a6⟩ := h.2.1
    unfold fX9_blank
    simp (disch := first | assumption | with_unfolding_all exact hW.1 _ _ rfl | rfl | exact pu_okI (by first | assumption | with_unfolding_all exact hW.1 _ _ rfl) (by omega) (by omega) | exact pu_oqI (by first | assumption | with_unfolding_all exact hW.1 _ _ rfl) (by omega) (by omega) | omega | decide) only [↓reduceIte, ↓gi_b, ↓pi_b, ↓gr_b, ↓pr_b, ↓al_b, ↓as_b, ↓al_3, ↓as_3, ↓al_12, ↓as_12, ↓al_l, ↓as_l, ↓rc_b, ↓Option.bind_some, ↓zr0_b, ↓zr1_b, ↓zrb_b, ↓pz0_b, ↓pz1_b, al_b, as_b, rc_b, gi_b, pi_b, gr_b, zr0, zr1, zrb, u_s, u_n, v_s, v_n, ↓isIn_b, ↓within_b, ite_T, ite_F, il_t, il_f, li_t, li_f, it_t, it_f, ti_t, ti_f, ie_t, ie_f, ei_t, ei_f, nn_le_t, nn_le_f, nn_lt_t, nn_lt_f, nn_eq_t, nn_eq_f, nI_1, nI_add, ni_addl, ni_ladd, pk_mul, ni_mull, b2_t, b2_f, b2_0, one0, m1_eq, ni_m1, reduceCtorEq, Bool.false_eq_true, nI_clamp, if_true, Option.some.injEq, Prod.mk.injEq, and_true, true_and, Nat.reduceAdd, Nat.reduceMul, Nat.reduceSub, Nat.reduceEqDiff, Nat.reduceLeDiff, Nat.reduceLT, a6]
    refine Rn_some (QM.set (h.gen rfl rfl rfl (fun b j q1 q2 q3 q4 q5 => by rw [u_n (by omega)]) ?_ ?_ ?_ (fun k hk => absurd hk (Nat.not_lt_zero k)) (h.2.2.2.2.2.2.1.fr fun x j hx => by rw [u_n (by omega)]) (fun hh => (h.2.2.2.2.2.2.2 hh).fr fun x j hx => by rw [u_n (by omega)])) (fun b j q1 => by rw [u_n (by omega)]))
    · rw [u_n (by omega), a4]; rfl
    · rw [u_n (by omega), a5]; rfl
    · rw [u_s]; rfl
/-- how many -/
def hmA (Z : S_Z) (v : Int32) : Int32 := if v = 0 then nI (znc Z) else if v = 1 then nI (znf Z) else if v = 2 then nI (znw Z) else if v = 3 then nI (zpl Z) else if v = 4 then nI (cntL (tl (zT Z)) 12) else if v = 5 then nI (zas Z) else -102
set_option maxHeartbeats 4000000 in
set_option maxRecDepth 100000 in
theorem q_count {Z : S_Z} (hZ : Z_B Z) {s : Nat → Option pu_S} {I : Nat → Nat → Int32} {P : Nat → Nat → Option Nat} {J : Nat → Nat → Int64} {n : Nat × Nat} (h : InvC s I P n Z) (v : Int32) : fX8_count 1 v (pu_hp s I P J n) = some (hmA Z v, pu_hp s I P J n) := by
  have hW := h.1
  obtain ⟨a1, a2, a3, a4, a5, a6⟩ := h.2.2.1
  have et := c_told (J := J) (n := n) (SetS7 hW) hZ.2.2.2.1.2.1 h.2.2.2.2.2.2.2.2.1.2.1
  unfold fX8_count hmA
  by_cases e0 : v = 0
  · rw [if_pos e0, if_pos e0]; simp (disch := first | assumption | with_unfolding_all exact hW.1 _ _ rfl | rfl | exact pu_okI (by first | assumption | with_unfolding_all exact hW.1 _ _ rfl) (by omega) (by omega) | exact pu_oqI (by first | assumption | with_unfolding_all exact hW.1 _ _ rfl) (by omega) (by omega) | omega | decide) only [↓reduceIte, ↓gi_b, ↓pi_b, ↓gr_b, ↓pr_b, ↓al_b, ↓as_b, ↓al_3, ↓as_3, ↓al_12, ↓as_12, ↓al_l, ↓as_l, ↓rc_b, ↓Option.bind_some, ↓zr0_b, ↓zr1_b, ↓zrb_b, ↓pz0_b, ↓pz1_b, al_b, as_b, rc_b, gi_b, pi_b, gr_b, zr0, zr1, zrb, u_s, u_n, v_s, v_n, ↓isIn_b, ↓within_b, ite_T, ite_F, il_t, il_f, li_t, li_f, it_t, it_f, ti_t, ti_f, ie_t, ie_f, ei_t, ei_f, nn_le_t, nn_le_f, nn_lt_t, nn_lt_f, nn_eq_t, nn_eq_f, nI_1, nI_add, ni_addl, ni_ladd, pk_mul, ni_mull, b2_t, b2_f, b2_0, one0, m1_eq, ni_m1, reduceCtorEq, Bool.false_eq_true, nI_clamp, if_true, Option.some.injEq, Prod.mk.injEq, and_true, true_and, Nat.reduceAdd, Nat.reduceMul, Nat.reduceSub, Nat.reduceEqDiff, Nat.reduceLeDiff, Nat.reduceLT, a1]
  rw [if_neg e0, if_neg e0]
  by_cases e1 : v = 1
  · rw [if_pos e1, if_pos e1]; simp (disch := first | assumption | with_unfolding_all exact hW.1 _ _ rfl | rfl | exact pu_okI (by first | assumption | with_unfolding_all exact hW.1 _ _ rfl) (by omega) (by omega) | exact pu_oqI (by first | assumption | with_unfolding_all exact hW.1 _ _ rfl) (by omega) (by omega) | omega | decide) only [↓reduceIte, ↓gi_b, ↓pi_b, ↓gr_b, ↓pr_b, ↓al_b, ↓as_b, ↓al_3, ↓as_3, ↓al_12, ↓as_12, ↓al_l, ↓as_l, ↓rc_b, ↓Option.bind_some, ↓zr0_b, ↓zr1_b, ↓zrb_b, ↓pz0_b, ↓pz1_b, al_b, as_b, rc_b, gi_b, pi_b, gr_b, zr0, zr1, zrb, u_s, u_n, v_s, v_n, ↓isIn_b, ↓within_b, ite_T, ite_F, il_t, il_f, li_t, li_f, it_t, it_f, ti_t, ti_f, ie_t, ie_f, ei_t, ei_f, nn_le_t, nn_le_f, nn_lt_t, nn_lt_f, nn_eq_t, nn_eq_f, nI_1, nI_add, ni_addl, ni_ladd, pk_mul, ni_mull, b2_t, b2_f, b2_0, one0, m1_eq, ni_m1, reduceCtorEq, Bool.false_eq_true, nI_clamp, if_true, Option.some.injEq, Prod.mk.injEq, and_true, true_and, Nat.reduceAdd, Nat.reduceMul, Nat.reduceSub, Nat.reduceEqDiff, Nat.reduceLeDiff, Nat.reduceLT, a2]
  rw [if_neg e1, if_neg e1]
  by_cases e2 : v = 2
  · rw [if_pos e2, if_pos e2]; simp (disch := first | assumption | with_unfolding_all exact hW.1 _ _ rfl | rfl | exact pu_okI (by first | assumption | with_unfolding_all exact hW.1 _ _ rfl) (by omega) (by omega) | exact pu_oqI (by first | assumption | with_unfolding_all exact hW.1 _ _ rfl) (by omega) (by omega) | omega | decide) only [↓reduceIte, ↓gi_b, ↓pi_b, ↓gr_b, ↓pr_b, ↓al_b, ↓as_b, ↓al_3, ↓as_3, ↓al_12, ↓as_12, ↓al_l, ↓as_l, ↓rc_b, ↓Option.bind_some, ↓zr0_b, ↓zr1_b, ↓zrb_b, ↓pz0_b, ↓pz1_b, al_b, as_b, rc_b, gi_b, pi_b, gr_b, zr0, zr1, zrb, u_s, u_n, v_s, v_n, ↓isIn_b, ↓within_b, ite_T, ite_F, il_t, il_f, li_t, li_f, it_t, it_f, ti_t, ti_f, ie_t, ie_f, ei_t, ei_f, nn_le_t, nn_le_f, nn_lt_t, nn_lt_f, nn_eq_t, nn_eq_f, nI_1, nI_add, ni_addl, ni_ladd, pk_mul, ni_mull, b2_t, b2_f, b2_0, one0, m1_eq, ni_m1, reduceCtorEq, Bool.false_eq_true, nI_clamp, if_true, Option.some.injEq, Prod.mk.injEq, and_true, true_and, Nat.reduceAdd, Nat.reduceMul, Nat.reduceSub, Nat.reduceEqDiff, Nat.reduceLeDiff, Nat.reduceLT, a3]
  rw [if_neg e2, if_neg e2]
  by_cases e3 : v = 3
  · rw [if_pos e3, if_pos e3]; simp (disch := first | assumption | with_unfolding_all exact hW.1 _ _ rfl | rfl | exact pu_okI (by first | assumption | with_unfolding_all exact hW.1 _ _ rfl) (by omega) (by omega) | exact pu_oqI (by first | assumption | with_unfolding_all exact hW.1 _ _ rfl) (by omega) (by omega) | omega | decide) only [↓reduceIte, ↓gi_b, ↓pi_b, ↓gr_b, ↓pr_b, ↓al_b, ↓as_b, ↓al_3, ↓as_3, ↓al_12, ↓as_12, ↓al_l, ↓as_l, ↓rc_b, ↓Option.bind_some, ↓zr0_b, ↓zr1_b, ↓zrb_b, ↓pz0_b, ↓pz1_b, al_b, as_b, rc_b, gi_b, pi_b, gr_b, zr0, zr1, zrb, u_s, u_n, v_s, v_n, ↓isIn_b, ↓within_b, ite_T, ite_F, il_t, il_f, li_t, li_f, it_t, it_f, ti_t, ti_f, ie_t, ie_f, ei_t, ei_f, nn_le_t, nn_le_f, nn_lt_t, nn_lt_f, nn_eq_t, nn_eq_f, nI_1, nI_add, ni_addl, ni_ladd, pk_mul, ni_mull, b2_t, b2_f, b2_0, one0, m1_eq, ni_m1, reduceCtorEq, Bool.false_eq_true, nI_clamp, if_true, Option.some.injEq, Prod.mk.injEq, and_true, true_and, Nat.reduceAdd, Nat.reduceMul, Nat.reduceSub, Nat.reduceEqDiff, Nat.reduceLeDiff, Nat.reduceLT, ↓gr1_6 hW, ↓gr1_7 hW, a6]
  rw [if_neg e3, if_neg e3]
  by_cases e4 : v = 4
  · rw [if_pos e4, if_pos e4]; simp (disch := first | assumption | with_unfolding_all exact hW.1 _ _ rfl | rfl | exact pu_okI (by first | assumption | with_unfolding_all exact hW.1 _ _ rfl) (by omega) (by omega) | exact pu_oqI (by first | assumption | with_unfolding_all exact hW.1 _ _ rfl) (by omega) (by omega) | omega | decide) only [↓reduceIte, ↓gi_b, ↓pi_b, ↓gr_b, ↓pr_b, ↓al_b, ↓as_b, ↓al_3, ↓as_3, ↓al_12, ↓as_12, ↓al_l, ↓as_l, ↓rc_b, ↓Option.bind_some, ↓zr0_b, ↓zr1_b, ↓zrb_b, ↓pz0_b, ↓pz1_b, al_b, as_b, rc_b, gi_b, pi_b, gr_b, zr0, zr1, zrb, u_s, u_n, v_s, v_n, ↓isIn_b, ↓within_b, ite_T, ite_F, il_t, il_f, li_t, li_f, it_t, it_f, ti_t, ti_f, ie_t, ie_f, ei_t, ei_f, nn_le_t, nn_le_f, nn_lt_t, nn_lt_f, nn_eq_t, nn_eq_f, nI_1, nI_add, ni_addl, ni_ladd, pk_mul, ni_mull, b2_t, b2_f, b2_0, one0, m1_eq, ni_m1, reduceCtorEq, Bool.false_eq_true, nI_clamp, if_true, Option.some.injEq, Prod.mk.injEq, and_true, true_and, Nat.reduceAdd, Nat.reduceMul, Nat.reduceSub, Nat.reduceEqDiff, Nat.reduceLeDiff, Nat.reduceLT, ↓gr1_6 hW, ↓gr1_7 hW, et]
  rw [if_neg e4, if_neg e4]
  by_cases e5 : v = 5
  · rw [if_pos e5, if_pos e5]; simp (disch := first | assumption | with_unfolding_all exact hW.1 _ _ rfl | rfl | exact pu_okI (by first | assumption | with_unfolding_all exact hW.1 _ _ rfl) (by omega) (by omega) | exact pu_oqI (by first | assumption | with_unfolding_all exact hW.1 _ _ rfl) (by omega) (by omega) | omega | decide) only [↓reduceIte, ↓gi_b, ↓pi_b, ↓gr_b, ↓pr_b, ↓al_b, ↓as_b, ↓al_3, ↓as_3, ↓al_12, ↓as_12, ↓al_l, ↓as_l, ↓rc_b, ↓Option.bind_some, ↓zr0_b, ↓zr1_b, ↓zrb_b, ↓pz0_b, ↓pz1_b, al_b, as_b, rc_b, gi_b, pi_b, gr_b, zr0, zr1, zrb, u_s, u_n, v_s, v_n, ↓isIn_b, ↓within_b, ite_T, ite_F, il_t, il_f, li_t, li_f, it_t, it_f, ti_t, ti_f, ie_t, ie_f, ei_t, ei_f, nn_le_t, nn_le_f, nn_lt_t, nn_lt_f, nn_eq_t, nn_eq_f, nI_1, nI_add, ni_addl, ni_ladd, pk_mul, ni_mull, b2_t, b2_f, b2_0, one0, m1_eq, ni_m1, reduceCtorEq, Bool.false_eq_true, nI_clamp, if_true, Option.some.injEq, Prod.mk.injEq, and_true, true_and, Nat.reduceAdd, Nat.reduceMul, Nat.reduceSub, Nat.reduceEqDiff, Nat.reduceLeDiff, Nat.reduceLT, a5]
  rw [if_neg e5, if_neg e5]
set_option maxHeartbeats 4000000 in
set_option maxRecDepth 100000 in
theorem q_howMany {Z : S_Z} (hZ : Z_B Z) {s : Nat → Option pu_S} {I : Nat → Nat → Int32} {P : Nat → Nat → Option Nat} {J : Nat → Nat → Int64} {n : Nat × Nat} (h : InvM s I P Z) (v : Int32) : fX9_howMany 40 v (pu_hp s I P J n) = some (hmA Z v, pu_hp s I P J n) := by
  have hW := h.1
  obtain ⟨a1, a2, a3, a4, a5, a6⟩ := h.2.1
  have et := m_many (J := J) (n := n) hW hZ.2.2.2.1.2.1 h.2.2.2.2.2.2.1.2.1
  unfold fX9_howMany hmA
  by_cases e0 : v = 0
  · rw [if_pos e0, if_pos e0]; simp (disch := first | assumption | with_unfolding_all exact hW.1 _ _ rfl | rfl | exact pu_okI (by first | assumption | with_unfolding_all exact hW.1 _ _ rfl) (by omega) (by omega) | exact pu_oqI (by first | assumption | with_unfolding_all exact hW.1 _ _ rfl) (by omega) (by omega) | omega | decide) only [↓reduceIte, ↓gi_b, ↓pi_b, ↓gr_b, ↓pr_b, ↓al_b, ↓as_b, ↓al_3, ↓as_3, ↓al_12, ↓as_12, ↓al_l, ↓as_l, ↓rc_b, ↓Option.bind_some, ↓zr0_b, ↓zr1_b, ↓zrb_b, ↓pz0_b, ↓pz1_b, al_b, as_b, rc_b, gi_b, pi_b, gr_b, zr0, zr1, zrb, u_s, u_n, v_s, v_n, ↓isIn_b, ↓within_b, ite_T, ite_F, il_t, il_f, li_t, li_f, it_t, it_f, ti_t, ti_f, ie_t, ie_f, ei_t, ei_f, nn_le_t, nn_le_f, nn_lt_t, nn_lt_f, nn_eq_t, nn_eq_f, nI_1, nI_add, ni_addl, ni_ladd, pk_mul, ni_mull, b2_t, b2_f, b2_0, one0, m1_eq, ni_m1, reduceCtorEq, Bool.false_eq_true, nI_clamp, if_true, Option.some.injEq, Prod.mk.injEq, and_true, true_and, Nat.reduceAdd, Nat.reduceMul, Nat.reduceSub, Nat.reduceEqDiff, Nat.reduceLeDiff, Nat.reduceLT, a1]
  rw [if_neg e0, if_neg e0]
  by_cases e1 : v = 1
  · rw [if_pos e1, if_pos e1]; simp (disch := first | assumption | with_unfolding_all exact hW.1 _ _ rfl | rfl | exact pu_okI (by first | assumption | with_unfolding_all exact hW.1 _ _ rfl) (by omega) (by omega) | exact pu_oqI (by first | assumption | with_unfolding_all exact hW.1 _ _ rfl) (by omega) (by omega) | omega | decide) only [↓reduceIte, ↓gi_b, ↓pi_b, ↓gr_b, ↓pr_b, ↓al_b, ↓as_b, ↓al_3, ↓as_3, ↓al_12, ↓as_12, ↓al_l, ↓as_l, ↓rc_b, ↓Option.bind_some, ↓zr0_b, ↓zr1_b, ↓zrb_b, ↓pz0_b, ↓pz1_b, al_b, as_b, rc_b, gi_b, pi_b, gr_b, zr0, zr1, zrb, u_s, u_n, v_s, v_n, ↓isIn_b, ↓within_b, ite_T, ite_F, il_t, il_f, li_t, li_f, it_t, it_f, ti_t, ti_f, ie_t, ie_f, ei_t, ei_f, nn_le_t, nn_le_f, nn_lt_t, nn_lt_f, nn_eq_t, nn_eq_f, nI_1, nI_add, ni_addl, ni_ladd, pk_mul, ni_mull, b2_t, b2_f, b2_0, one0, m1_eq, ni_m1, reduceCtorEq, Bool.false_eq_true, nI_clamp, if_true, Option.some.injEq, Prod.mk.injEq, and_true, true_and, Nat.reduceAdd, Nat.reduceMul, Nat.reduceSub, Nat.reduceEqDiff, Nat.reduceLeDiff, Nat.reduceLT, a2]
  rw [if_neg e1, if_neg e1]
  by_cases e2 : v = 2
  · rw [if_pos e2, if_pos e2]; simp (disch := first | assumption | with_unfolding_all exact hW.1 _ _ rfl | rfl | exact pu_okI (by first | assumption | with_unfolding_all exact hW.1 _ _ rfl) (by omega) (by omega) | exact pu_oqI (by first | assumption | with_unfolding_all exact hW.1 _ _ rfl) (by omega) (by omega) | omega | decide) only [↓reduceIte, ↓gi_b, ↓pi_b, ↓gr_b, ↓pr_b, ↓al_b, ↓as_b, ↓al_3, ↓as_3, ↓al_12, ↓as_12, ↓al_l, ↓as_l, ↓rc_b, ↓Option.bind_some, ↓zr0_b, ↓zr1_b, ↓zrb_b, ↓pz0_b, ↓pz1_b, al_b, as_b, rc_b, gi_b, pi_b, gr_b, zr0, zr1, zrb, u_s, u_n, v_s, v_n, ↓isIn_b, ↓within_b, ite_T, ite_F, il_t, il_f, li_t, li_f, it_t, it_f, ti_t, ti_f, ie_t, ie_f, ei_t, ei_f, nn_le_t, nn_le_f, nn_lt_t, nn_lt_f, nn_eq_t, nn_eq_f, nI_1, nI_add, ni_addl, ni_ladd, pk_mul, ni_mull, b2_t, b2_f, b2_0, one0, m1_eq, ni_m1, reduceCtorEq, Bool.false_eq_true, nI_clamp, if_true, Option.some.injEq, Prod.mk.injEq, and_true, true_and, Nat.reduceAdd, Nat.reduceMul, Nat.reduceSub, Nat.reduceEqDiff, Nat.reduceLeDiff, Nat.reduceLT, a3]
  rw [if_neg e2, if_neg e2]
  by_cases e3 : v = 3
  · rw [if_pos e3, if_pos e3]; simp (disch := first | assumption | with_unfolding_all exact hW.1 _ _ rfl | rfl | exact pu_okI (by first | assumption | with_unfolding_all exact hW.1 _ _ rfl) (by omega) (by omega) | exact pu_oqI (by first | assumption | with_unfolding_all exact hW.1 _ _ rfl) (by omega) (by omega) | omega | decide) only [↓reduceIte, ↓gi_b, ↓pi_b, ↓gr_b, ↓pr_b, ↓al_b, ↓as_b, ↓al_3, ↓as_3, ↓al_12, ↓as_12, ↓al_l, ↓as_l, ↓rc_b, ↓Option.bind_some, ↓zr0_b, ↓zr1_b, ↓zrb_b, ↓pz0_b, ↓pz1_b, al_b, as_b, rc_b, gi_b, pi_b, gr_b, zr0, zr1, zrb, u_s, u_n, v_s, v_n, ↓isIn_b, ↓within_b, ite_T, ite_F, il_t, il_f, li_t, li_f, it_t, it_f, ti_t, ti_f, ie_t, ie_f, ei_t, ei_f, nn_le_t, nn_le_f, nn_lt_t, nn_lt_f, nn_eq_t, nn_eq_f, nI_1, nI_add, ni_addl, ni_ladd, pk_mul, ni_mull, b2_t, b2_f, b2_0, one0, m1_eq, ni_m1, reduceCtorEq, Bool.false_eq_true, nI_clamp, if_true, Option.some.injEq, Prod.mk.injEq, and_true, true_and, Nat.reduceAdd, Nat.reduceMul, Nat.reduceSub, Nat.reduceEqDiff, Nat.reduceLeDiff, Nat.reduceLT, a6]
  rw [if_neg e3, if_neg e3]
  by_cases e4 : v = 4
  · rw [if_pos e4, if_pos e4]; simp (disch := first | assumption | with_unfolding_all exact hW.1 _ _ rfl | rfl | exact pu_okI (by first | assumption | with_unfolding_all exact hW.1 _ _ rfl) (by omega) (by omega) | exact pu_oqI (by first | assumption | with_unfolding_all exact hW.1 _ _ rfl) (by omega) (by omega) | omega | decide) only [↓reduceIte, ↓gi_b, ↓pi_b, ↓gr_b, ↓pr_b, ↓al_b, ↓as_b, ↓al_3, ↓as_3, ↓al_12, ↓as_12, ↓al_l, ↓as_l, ↓rc_b, ↓Option.bind_some, ↓zr0_b, ↓zr1_b, ↓zrb_b, ↓pz0_b, ↓pz1_b, al_b, as_b, rc_b, gi_b, pi_b, gr_b, zr0, zr1, zrb, u_s, u_n, v_s, v_n, ↓isIn_b, ↓within_b, ite_T, ite_F, il_t, il_f, li_t, li_f, it_t, it_f, ti_t, ti_f, ie_t, ie_f, ei_t, ei_f, nn_le_t, nn_le_f, nn_lt_t, nn_lt_f, nn_eq_t, nn_eq_f, nI_1, nI_add, ni_addl, ni_ladd, pk_mul, ni_mull, b2_t, b2_f, b2_0, one0, m1_eq, ni_m1, reduceCtorEq, Bool.false_eq_true, nI_clamp, if_true, Option.some.injEq, Prod.mk.injEq, and_true, true_and, Nat.reduceAdd, Nat.reduceMul, Nat.reduceSub, Nat.reduceEqDiff, Nat.reduceLeDiff, Nat.reduceLT, et]
  rw [if_neg e4, if_neg e4]
  by_cases e5 : v = 5
  · rw [if_pos e5, if_pos e5]; simp (disch := first | assumption | with_unfolding_all exact hW.1 _ _ rfl | rfl | exact pu_okI (by first | assumption | with_unfolding_all exact hW.1 _ _ rfl) (by omega) (by omega) | exact pu_oqI (by first | assumption | with_unfolding_all exact hW.1 _ _ rfl) (by omega) (by omega) | omega | decide) only [↓reduceIte, ↓gi_b, ↓pi_b, ↓gr_b, ↓pr_b, ↓al_b, ↓as_b, ↓al_3, ↓as_3, ↓al_12, ↓as_12, ↓al_l, ↓as_l, ↓rc_b, ↓Option.bind_some, ↓zr0_b, ↓zr1_b, ↓zrb_b, ↓pz0_b, ↓pz1_b, al_b, as_b, rc_b, gi_b, pi_b, gr_b, zr0, zr1, zrb, u_s, u_n, v_s, v_n, ↓isIn_b, ↓within_b, ite_T, ite_F, il_t, il_f, li_t, li_f, it_t, it_f, ti_t, ti_f, ie_t, ie_f, ei_t, ei_f, nn_le_t, nn_le_f, nn_lt_t, nn_lt_f, nn_eq_t, nn_eq_f, nI_1, nI_add, ni_addl, ni_ladd, pk_mul, ni_mull, b2_t, b2_f, b2_0, one0, m1_eq, ni_m1, reduceCtorEq, Bool.false_eq_true, nI_clamp, if_true, Option.some.injEq, Prod.mk.injEq, and_true, true_and, Nat.reduceAdd, Nat.reduceMul, Nat.reduceSub, Nat.reduceEqDiff, Nat.reduceLeDiff, Nat.reduceLT, a5]
  rw [if_neg e5, if_neg e5]
set_option maxHeartbeats 4000000 in
set_option maxRecDepth 100000 in
theorem d_count {Z : S_Z} (hZ : Z_B Z) (v1 : Int32) : CallOK Z (fX8_count 1 v1) (fX9_count 40 v1) := by
  refine CallOK.no hZ (hmA Z v1) (fun s I P J n h => q_count hZ h v1) (fun s I P J n h => ?_)
  have hW := h.1
  unfold fX9_count
  simp (disch := first | assumption | with_unfolding_all exact hW.1 _ _ rfl | rfl | exact pu_okI (by first | assumption | with_unfolding_all exact hW.1 _ _ rfl) (by omega) (by omega) | exact pu_oqI (by first | assumption | with_unfolding_all exact hW.1 _ _ rfl) (by omega) (by omega) | omega | decide) only [↓reduceIte, ↓gi_b, ↓pi_b, ↓gr_b, ↓pr_b, ↓al_b, ↓as_b, ↓al_3, ↓as_3, ↓al_12, ↓as_12, ↓al_l, ↓as_l, ↓rc_b, ↓Option.bind_some, ↓zr0_b, ↓zr1_b, ↓zrb_b, ↓pz0_b, ↓pz1_b, al_b, as_b, rc_b, gi_b, pi_b, gr_b, zr0, zr1, zrb, u_s, u_n, v_s, v_n, ↓isIn_b, ↓within_b, ite_T, ite_F, il_t, il_f, li_t, li_f, it_t, it_f, ti_t, ti_f, ie_t, ie_f, ei_t, ei_f, nn_le_t, nn_le_f, nn_lt_t, nn_lt_f, nn_eq_t, nn_eq_f, nI_1, nI_add, ni_addl, ni_ladd, pk_mul, ni_mull, b2_t, b2_f, b2_0, one0, m1_eq, ni_m1, reduceCtorEq, Bool.false_eq_true, nI_clamp, if_true, Option.some.injEq, Prod.mk.injEq, and_true, true_and, Nat.reduceAdd, Nat.reduceMul, Nat.reduceSub, Nat.reduceEqDiff, Nat.reduceLeDiff, Nat.reduceLT, q_howMany hZ h v1]
