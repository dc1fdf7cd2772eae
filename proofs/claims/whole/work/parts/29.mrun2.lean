/-! the reference's run: balls, leak, siphon, a tick, a run -/
theorem S_lk_drop {K : S_K} {F : S_F} {t : Nat} {X : S_X} : S_lk K F t (S_drop K t X) = S_drop K t (S_lk K F t X) := by
  unfold S_lk
  by_cases h : F.2.1 < kn K
  · rw [if_pos h, if_pos h]; rfl
  · rw [if_neg h, if_neg h]
theorem lk0 {I : Nat → Nat → Int32} {K : S_K} {F : S_F} {t u : Nat} {X : S_X} (h0 : S_leak F t = 0) (h : M_R I u K (S_drop K t X)) : M_R I u K (S_drop K t (S_lk K F t X)) := by
  unfold S_lk
  rw [h0]
  by_cases hv : F.2.1 < kn K
  · rw [if_pos hv, Nat.min_zero, Nat.sub_zero, Nat.add_zero]
    obtain ⟨e1, e2, e3, e4, e5, e6, e7, e8⟩ := h
    refine ⟨fun v hvv => ?_, e2, e3, e4, e5, e6, e7, e8⟩
    show _ = nI (updN _ _ _ v)
    by_cases e : v = F.2.1
    · subst e; rw [updN_s]; exact e1 _ hvv
    · rw [updN_n e]; exact e1 v hvv
  · rw [if_neg hv]; exact h
def S_lev (K : S_K) (F : S_F) (w : Nat) (sip : Bool) (u : Nat) : Nat := (xcy (S_at K F w sip u) + (S_fl K F w u (S_at K F w sip u)).1) / kca K
section MR
variable {s : Nat → Option pu_S} {I : Nat → Nat → Int32} {P : Nat → Nat → Option Nat} {J : Nat → Nat → Int64} {n : Nat × Nat}
variable {c sn : Nat} {K : S_K} {F : S_F} {w t : Nat} {sip : Bool}
set_option maxHeartbeats 4000000 in
set_option maxRecDepth 100000 in
theorem m_siphon (hW : pu_W s P) (hc4 : c < 4) (hK : S_KB K) (hc : M_C I c K) (hl : M_L I K F sip) {X : S_X} (hX : S_XB K (t + 1) X) (ht : t < 96) (hI : M_R I (t + 1) K X) {lev : Nat} (hlev : lev = xcy X / kca K) (hhl : I 46 c = nI (kch K)) : Rn (fX9_tick_378 (some 40) (nI c) (nI lev) (pu_hp s I P J n)) fun h => ∃ I', h = pu_hp s I' P J n ∧ M_F I I' ∧ M_R I' (t + 1) K (S_si K sip X) ∧ ∀ j, I' 71 j = I 71 j := by
  obtain ⟨g1, g2, g3, g4, g5, g6, g7, g8⟩ := id hI
  obtain ⟨x1, x2, x3, x4, x5, x6, x7, x8⟩ := id hX
  have hca := hK.2.2.1
  have hch := hK.2.2.2.1
  have hnb := hK.2.2.2.2.2.1
  have hle : xcy X / kca K ≤ xcy X := Nat.div_le_self _ _
  have h45 := hl.2.2.1
  have h48 := hc.2.2.2.1
  have hno : ¬ (sip = true ∧ kch K ≤ xcy X / kca K ∧ knb K ≤ xdr X) → Rn (some (pu_hp s I P J n)) (fun h => ∃ I', h = pu_hp s I' P J n ∧ M_F I I' ∧ M_R I' (t + 1) K (S_si K sip X) ∧ ∀ j, I' 71 j = I 71 j) := fun q => by
    refine Rn_some ⟨I, rfl, fun _ _ _ _ => rfl, ?_, fun _ => rfl⟩
    unfold S_si; rw [if_neg q]; exact hI
  unfold fX9_tick_378
  cases sip with
  | false =>
    simp (disch := first | assumption | with_unfolding_all exact hW.1 _ _ rfl | rfl | exact pu_okI (by first | assumption | with_unfolding_all exact hW.1 _ _ rfl) (by omega) (by omega) | exact pu_oqI (by first | assumption | with_unfolding_all exact hW.1 _ _ rfl) (by omega) (by omega) | omega | decide) only [↓reduceIte, ↓gi_b, ↓pi_b, ↓gr_b, ↓pr_b, ↓al_b, ↓as_b, ↓al_3, ↓as_3, ↓al_12, ↓as_12, ↓al_l, ↓as_l, ↓rc_b, ↓Option.bind_some, ↓zr0_b, ↓zr1_b, ↓zrb_b, ↓pz0_b, ↓pz1_b, al_b, as_b, rc_b, gi_b, pi_b, gr_b, zr0, zr1, zrb, u_s, u_n, v_s, v_n, ↓isIn_b, ↓within_b, ite_T, ite_F, il_t, il_f, li_t, li_f, it_t, it_f, ti_t, ti_f, ie_t, ie_f, ei_t, ei_f, nn_le_t, nn_le_f, nn_lt_t, nn_lt_f, nn_eq_t, nn_eq_f, nI_1, nI_add, ni_addl, ni_ladd, pk_mul, ni_mull, b2_t, b2_f, b2_0, one0, m1_eq, ni_m1, reduceCtorEq, Bool.false_eq_true, nI_clamp, if_true, Option.some.injEq, Prod.mk.injEq, and_true, true_and, Nat.reduceAdd, Nat.reduceMul, Nat.reduceSub, Nat.reduceEqDiff, Nat.reduceLeDiff, Nat.reduceLT, ↓gr40_6 hW, ↓gr40_8 hW, ↓gr40_1 hW, ↓gr40_50 hW, ↓gr40_56 hW, ↓gr40_9 hW, ↓gr40_5 hW, ↓gr40_59 hW, ↓gr40_2 hW, ↓gr40_10 hW, h45]
    exact hno (fun q => by cases q.1)
  | true =>
    by_cases h1 : kch K ≤ xcy X / kca K
    · by_cases h2 : xdr X = knb K
      · simp (disch := first | assumption | with_unfolding_all exact hW.1 _ _ rfl | rfl | exact pu_okI (by first | assumption | with_unfolding_all exact hW.1 _ _ rfl) (by omega) (by omega) | exact pu_oqI (by first | assumption | with_unfolding_all exact hW.1 _ _ rfl) (by omega) (by omega) | omega | decide) only [↓reduceIte, ↓gi_b, ↓pi_b, ↓gr_b, ↓pr_b, ↓al_b, ↓as_b, ↓al_3, ↓as_3, ↓al_12, ↓as_12, ↓al_l, ↓as_l, ↓rc_b, ↓Option.bind_some, ↓zr0_b, ↓zr1_b, ↓zrb_b, ↓pz0_b, ↓pz1_b, al_b, as_b, rc_b, gi_b, pi_b, gr_b, zr0, zr1, zrb, u_s, u_n, v_s, v_n, ↓isIn_b, ↓within_b, ite_T, ite_F, il_t, il_f, li_t, li_f, it_t, it_f, ti_t, ti_f, ie_t, ie_f, ei_t, ei_f, nn_le_t, nn_le_f, nn_lt_t, nn_lt_f, nn_eq_t, nn_eq_f, nI_1, nI_add, ni_addl, ni_ladd, pk_mul, ni_mull, b2_t, b2_f, b2_0, one0, m1_eq, ni_m1, reduceCtorEq, Bool.false_eq_true, nI_clamp, if_true, Option.some.injEq, Prod.mk.injEq, and_true, true_and, Nat.reduceAdd, Nat.reduceMul, Nat.reduceSub, Nat.reduceEqDiff, Nat.reduceLeDiff, Nat.reduceLT, ↓gr40_6 hW, ↓gr40_8 hW, ↓gr40_1 hW, ↓gr40_50 hW, ↓gr40_56 hW, ↓gr40_9 hW, ↓gr40_5 hW, ↓gr40_59 hW, ↓gr40_2 hW, ↓gr40_10 hW, h45, hhl, hlev, g6, h48, g5, h2]
        refine Rn_some ⟨_, rfl, fun b j h1 h2 => by rw [u_n (by omega), u_n (by omega)], ?_, fun j => by rw [u_n (by omega), u_n (by omega)]⟩
        unfold S_si
        rw [if_pos ⟨rfl, h1, by omega⟩]
        refine ⟨fun v hv => ?_, ?_, ?_, ?_, u_s, ?_, fun h0 => ⟨?_, ?_⟩, fun b hb => ?_⟩
        · rw [u_n (by omega), u_n (by omega), g1 v hv]; rfl
        · rw [u_n (by omega), u_s]; rfl
        · simp (disch := first | assumption | with_unfolding_all exact hW.1 _ _ rfl | rfl | exact pu_okI (by first | assumption | with_unfolding_all exact hW.1 _ _ rfl) (by omega) (by omega) | exact pu_oqI (by first | assumption | with_unfolding_all exact hW.1 _ _ rfl) (by omega) (by omega) | omega | decide) only [↓reduceIte, ↓gi_b, ↓pi_b, ↓gr_b, ↓pr_b, ↓al_b, ↓as_b, ↓al_3, ↓as_3, ↓al_12, ↓as_12, ↓al_l, ↓as_l, ↓rc_b, ↓Option.bind_some, ↓zr0_b, ↓zr1_b, ↓zrb_b, ↓pz0_b, ↓pz1_b, al_b, as_b, rc_b, gi_b, pi_b, gr_b, zr0, zr1, zrb, u_s, u_n, v_s, v_n, ↓isIn_b, ↓within_b, ite_T, ite_F, il_t, il_f, li_t, li_f, it_t, it_f, ti_t, ti_f, ie_t, ie_f, ei_t, ei_f, nn_le_t, nn_le_f, nn_lt_t, nn_lt_f, nn_eq_t, nn_eq_f, nI_1, nI_add, ni_addl, ni_ladd, pk_mul, ni_mull, b2_t, b2_f, b2_0, one0, m1_eq, ni_m1, reduceCtorEq, Bool.false_eq_true, nI_clamp, if_true, Option.some.injEq, Prod.mk.injEq, and_true, true_and, Nat.reduceAdd, Nat.reduceMul, Nat.reduceSub, Nat.reduceEqDiff, Nat.reduceLeDiff, Nat.reduceLT, g3]; rfl
        · simp (disch := first | assumption | with_unfolding_all exact hW.1 _ _ rfl | rfl | exact pu_okI (by first | assumption | with_unfolding_all exact hW.1 _ _ rfl) (by omega) (by omega) | exact pu_oqI (by first | assumption | with_unfolding_all exact hW.1 _ _ rfl) (by omega) (by omega) | omega | decide) only [↓reduceIte, ↓gi_b, ↓pi_b, ↓gr_b, ↓pr_b, ↓al_b, ↓as_b, ↓al_3, ↓as_3, ↓al_12, ↓as_12, ↓al_l, ↓as_l, ↓rc_b, ↓Option.bind_some, ↓zr0_b, ↓zr1_b, ↓zrb_b, ↓pz0_b, ↓pz1_b, al_b, as_b, rc_b, gi_b, pi_b, gr_b, zr0, zr1, zrb, u_s, u_n, v_s, v_n, ↓isIn_b, ↓within_b, ite_T, ite_F, il_t, il_f, li_t, li_f, it_t, it_f, ti_t, ti_f, ie_t, ie_f, ei_t, ei_f, nn_le_t, nn_le_f, nn_lt_t, nn_lt_f, nn_eq_t, nn_eq_f, nI_1, nI_add, ni_addl, ni_ladd, pk_mul, ni_mull, b2_t, b2_f, b2_0, one0, m1_eq, ni_m1, reduceCtorEq, Bool.false_eq_true, nI_clamp, if_true, Option.some.injEq, Prod.mk.injEq, and_true, true_and, Nat.reduceAdd, Nat.reduceMul, Nat.reduceSub, Nat.reduceEqDiff, Nat.reduceLeDiff, Nat.reduceLT, g4]; rfl
        · simp (disch := first | assumption | with_unfolding_all exact hW.1 _ _ rfl | rfl | exact pu_okI (by first | assumption | with_unfolding_all exact hW.1 _ _ rfl) (by omega) (by omega) | exact pu_oqI (by first | assumption | with_unfolding_all exact hW.1 _ _ rfl) (by omega) (by omega) | omega | decide) only [↓reduceIte, ↓gi_b, ↓pi_b, ↓gr_b, ↓pr_b, ↓al_b, ↓as_b, ↓al_3, ↓as_3, ↓al_12, ↓as_12, ↓al_l, ↓as_l, ↓rc_b, ↓Option.bind_some, ↓zr0_b, ↓zr1_b, ↓zrb_b, ↓pz0_b, ↓pz1_b, al_b, as_b, rc_b, gi_b, pi_b, gr_b, zr0, zr1, zrb, u_s, u_n, v_s, v_n, ↓isIn_b, ↓within_b, ite_T, ite_F, il_t, il_f, li_t, li_f, it_t, it_f, ti_t, ti_f, ie_t, ie_f, ei_t, ei_f, nn_le_t, nn_le_f, nn_lt_t, nn_lt_f, nn_eq_t, nn_eq_f, nI_1, nI_add, ni_addl, ni_ladd, pk_mul, ni_mull, b2_t, b2_f, b2_0, one0, m1_eq, ni_m1, reduceCtorEq, Bool.false_eq_true, nI_clamp, if_true, Option.some.injEq, Prod.mk.injEq, and_true, true_and, Nat.reduceAdd, Nat.reduceMul, Nat.reduceSub, Nat.reduceEqDiff, Nat.reduceLeDiff, Nat.reduceLT, g6]; rfl
        · rw [u_n (by omega), u_n (by omega), (g7 h0).1]; rfl
        · rw [u_n (by omega), u_n (by omega), (g7 h0).2]; rfl
        · rw [u_n (by omega), u_n (by omega), g8 b hb]; rfl
      · simp (disch := first | assumption | with_unfolding_all exact hW.1 _ _ rfl | rfl | exact pu_okI (by first | assumption | with_unfolding_all exact hW.1 _ _ rfl) (by omega) (by omega) | exact pu_oqI (by first | assumption | with_unfolding_all exact hW.1 _ _ rfl) (by omega) (by omega) | omega | decide) only [↓reduceIte, ↓gi_b, ↓pi_b, ↓gr_b, ↓pr_b, ↓al_b, ↓as_b, ↓al_3, ↓as_3, ↓al_12, ↓as_12, ↓al_l, ↓as_l, ↓rc_b, ↓Option.bind_some, ↓zr0_b, ↓zr1_b, ↓zrb_b, ↓pz0_b, ↓pz1_b, al_b, as_b, rc_b, gi_b, pi_b, gr_b, zr0, zr1, zrb, u_s, u_n, v_s, v_n, ↓isIn_b, ↓within_b, ite_T, ite_F, il_t, il_f, li_t, li_f, it_t, it_f, ti_t, ti_f, ie_t, ie_f, ei_t, ei_f, nn_le_t, nn_le_f, nn_lt_t, nn_lt_f, nn_eq_t, nn_eq_f, nI_1, nI_add, ni_addl, ni_ladd, pk_mul, ni_mull, b2_t, b2_f, b2_0, one0, m1_eq, ni_m1, reduceCtorEq, Bool.false_eq_true, nI_clamp, if_true, Option.some.injEq, Prod.mk.injEq, and_true, true_and, Nat.reduceAdd, Nat.reduceMul, Nat.reduceSub, Nat.reduceEqDiff, Nat.reduceLeDiff, Nat.reduceLT, ↓gr40_6 hW, ↓gr40_8 hW, ↓gr40_1 hW, ↓gr40_50 hW, ↓gr40_56 hW, ↓gr40_9 hW, ↓gr40_5 hW, ↓gr40_59 hW, ↓gr40_2 hW, ↓gr40_10 hW, h45, hhl, hlev, g6, h48]
        exact hno (fun q => h2 (by omega))
    · simp (disch := first | assumption | with_unfolding_all exact hW.1 _ _ rfl | rfl | exact pu_okI (by first | assumption | with_unfolding_all exact hW.1 _ _ rfl) (by omega) (by omega) | exact pu_oqI (by first | assumption | with_unfolding_all exact hW.1 _ _ rfl) (by omega) (by omega) | omega | decide) only [↓reduceIte, ↓gi_b, ↓pi_b, ↓gr_b, ↓pr_b, ↓al_b, ↓as_b, ↓al_3, ↓as_3, ↓al_12, ↓as_12, ↓al_l, ↓as_l, ↓rc_b, ↓Option.bind_some, ↓zr0_b, ↓zr1_b, ↓zrb_b, ↓pz0_b, ↓pz1_b, al_b, as_b, rc_b, gi_b, pi_b, gr_b, zr0, zr1, zrb, u_s, u_n, v_s, v_n, ↓isIn_b, ↓within_b, ite_T, ite_F, il_t, il_f, li_t, li_f, it_t, it_f, ti_t, ti_f, ie_t, ie_f, ei_t, ei_f, nn_le_t, nn_le_f, nn_lt_t, nn_lt_f, nn_eq_t, nn_eq_f, nI_1, nI_add, ni_addl, ni_ladd, pk_mul, ni_mull, b2_t, b2_f, b2_0, one0, m1_eq, ni_m1, reduceCtorEq, Bool.false_eq_true, nI_clamp, if_true, Option.some.injEq, Prod.mk.injEq, and_true, true_and, Nat.reduceAdd, Nat.reduceMul, Nat.reduceSub, Nat.reduceEqDiff, Nat.reduceLeDiff, Nat.reduceLT, ↓gr40_6 hW, ↓gr40_8 hW, ↓gr40_1 hW, ↓gr40_50 hW, ↓gr40_56 hW, ↓gr40_9 hW, ↓gr40_5 hW, ↓gr40_59 hW, ↓gr40_2 hW, ↓gr40_10 hW, h45, hhl, hlev]
      exact hno (fun q => h1 q.2.1)
set_option maxHeartbeats 4000000 in
set_option maxRecDepth 100000 in
theorem m_balls (hW : pu_W s P) (hc4 : c < 4) (hK : S_KB K) (hF : S_FB F) (ht : t < 96) {X : S_X} (hX : S_XB K (t + 1) X) (hxl : xle X ≤ 1800 * t) {lev : Nat} (hlev : lev = xcy X / kca K) {Q : am_H → Prop} : ∀ (m b N : Nat) (I : Nat → Nat → Int32), b + m = knb K → m < N → M_C I c K → M_L I K F sip →
    ((∀ v, v < kn K → I 69 v = nI (xW X v)) ∧ I 40 51 = nI (xcy X) ∧ I 40 52 = nI (xov X) ∧ I 40 53 = nI (xle X) ∧ I 40 54 = nI (xem X) ∧ I 40 57 = nI (xli X) ∧ I 40 58 = nI (xmo X)) → I 40 55 = nI (if b ≤ xdr X then xdr X else min b (S_dn K lev 12 (xdr X))) → (∀ j, j < 12 → I 70 j = nI (if j < xdr X then xD X j else if j < b ∧ j < S_dn K lev 12 (xdr X) then t else 96)) →
    (∀ I', M_F I I' → M_R I' (t + 1) K (S_si K sip (S_drop K t (S_lk K F t X))) → (∀ j, I' 71 j = I 71 j) → Rn (some (pu_hp s I' P J n)) Q) →
    Rn (fX9_tick_242 N (some 40) (nI c) (nI t) (nI lev) (nI b) (pu_hp s I P J n)) Q := by
  obtain ⟨x1, x2, x3, x4, x5, x6, x7, x8, x9, x10⟩ := id hX
  have hkn := hK.1
  have hca := hK.2.2.1
  have hnb := hK.2.2.2.2.2.1
  have hle : xcy X / kca K ≤ xcy X := Nat.div_le_self _ _
  obtain ⟨d1, d2⟩ := S_dn_b (K := K) (lev := lev) 12 (xdr X) x7
  have hq : S_leak F t ≤ 20 := by
    unfold S_leak
    obtain ⟨-, -, q, -⟩ := hF
    split <;> omega
  obtain ⟨fb1, fb2, fb3, fb4⟩ := id hF
  intro m
  induction m with
  | zero =>
    intro b N I hb hN hc hl hg h55 h70 kk
    obtain ⟨N, rfl⟩ : ∃ N', N = N' + 1 := ⟨N - 1, by omega⟩
    obtain rfl : b = knb K := by omega
    obtain ⟨l1, l2, l3, l4, l5, l6, l7⟩ := id hl
    obtain ⟨g1, g2, g3, g4, g5, g6, g7⟩ := hg
    have hR0 : M_R I (t + 1) K (S_drop K t X) := by
      refine ⟨g1, g2, g3, g4, g5, ?_, fun _ => ⟨g6, g7⟩, fun j hj => ?_⟩
      · rw [h55]
        show _ = nI (S_dn K (xcy X / kca K) 12 (xdr X))
        rw [← hlev]
        by_cases e : knb K ≤ xdr X
        · rw [if_pos e]; congr 1; omega
        · rw [if_neg e]; congr 1; omega
      · rw [h70 j hj]
        show _ = nI (if j < S_dn K (xcy X / kca K) 12 (xdr X) then (if xdr X ≤ j ∧ j < S_dn K (xcy X / kca K) 12 (xdr X) then t else xD X j) else 96)
        rw [← hlev]
        congr 1
        by_cases e1 : j < xdr X
        · rw [if_pos e1, if_pos (by omega), if_neg (by omega)]
        · rw [if_neg e1]
          by_cases e2 : j < S_dn K lev 12 (xdr X)
          · rw [if_pos ⟨by omega, e2⟩, if_pos e2, if_pos ⟨by omega, e2⟩]
          · rw [if_neg (fun q => e2 q.2), if_neg e2]
    have hX2 := S_drop_b hX
    show Rn (fX9_tick_242_b _ _ _ _ _ _ _) _
    unfold fX9_tick_242_b
    have fin : ∀ I0, M_F I I0 → M_R I0 (t + 1) K (S_drop K t (S_lk K F t X)) → (∀ j, I0 71 j = I 71 j) → Rn (fX9_tick_378 (some 40) (nI c) (nI lev) (pu_hp s I0 P J n)) Q := by
      intro I0 q1 q2 q3
      have hcy : xcy (S_drop K t (S_lk K F t X)) = xcy X := by
        show xcy (S_lk K F t X) = xcy X
        unfold S_lk; split <;> rfl
      obtain ⟨y, e, I1, rfl, r1, r2, r3⟩ := m_siphon (J := J) (n := n) (lev := lev) hW hc4 hK (hc.fr fun b j h1 h2 => q1 b j (by omega) (by omega)) (hl.fr q1) (S_drop_b (S_lk_b hF hX hxl)) ht q2 (by rw [hlev, hcy]) (by rw [q1 _ _ (by omega) (by omega), hc.2.2.1])
      rw [e]
      exact kk I1 (q1.t r1) r2 (fun j => by rw [r3, q3])
    by_cases hk : F.1 = 3
    · by_cases hf : F.2.2.2 ≤ t
      · by_cases hv : F.2.1 < kn K
        · have hWv := g1 _ hv
          have hxv := x1 _ hv
          obtain ⟨f1, f2⟩ := S_full hK hv
          simp (disch := first | assumption | with_unfolding_all exact hW.1 _ _ rfl | rfl | exact pu_okI (by first | assumption | with_unfolding_all exact hW.1 _ _ rfl) (by omega) (by omega) | exact pu_oqI (by first | assumption | with_unfolding_all exact hW.1 _ _ rfl) (by omega) (by omega) | omega | decide) only [↓reduceIte, ↓gi_b, ↓pi_b, ↓gr_b, ↓pr_b, ↓al_b, ↓as_b, ↓al_3, ↓as_3, ↓al_12, ↓as_12, ↓al_l, ↓as_l, ↓rc_b, ↓Option.bind_some, ↓zr0_b, ↓zr1_b, ↓zrb_b, ↓pz0_b, ↓pz1_b, al_b, as_b, rc_b, gi_b, pi_b, gr_b, zr0, zr1, zrb, u_s, u_n, v_s, v_n, ↓isIn_b, ↓within_b, ite_T, ite_F, il_t, il_f, li_t, li_f, it_t, it_f, ti_t, ti_f, ie_t, ie_f, ei_t, ei_f, nn_le_t, nn_le_f, nn_lt_t, nn_lt_f, nn_eq_t, nn_eq_f, nI_1, nI_add, ni_addl, ni_ladd, pk_mul, ni_mull, b2_t, b2_f, b2_0, one0, m1_eq, ni_m1, reduceCtorEq, Bool.false_eq_true, nI_clamp, if_true, Option.some.injEq, Prod.mk.injEq, and_true, true_and, Nat.reduceAdd, Nat.reduceMul, Nat.reduceSub, Nat.reduceEqDiff, Nat.reduceLeDiff, Nat.reduceLT, ↓gr40_6 hW, ↓gr40_8 hW, ↓gr40_1 hW, ↓gr40_50 hW, ↓gr40_56 hW, ↓gr40_9 hW, ↓gr40_5 hW, ↓gr40_59 hW, ↓gr40_2 hW, ↓gr40_10 hW, hc.2.2.2.1, l4, l7, l5, hc.1, l6, hWv, hk, ↓lesser_b, ni_sub, g4]
          have el : S_lk K F t X = (updN (xW X) F.2.1 (xW X F.2.1 - min (xW X F.2.1) F.2.2.1), xcy X, xpo X, xov X, xle X + min (xW X F.2.1) F.2.2.1, xem X, xdr X, xD X, xli X, xmo X) := by
            unfold S_lk S_leak
            rw [if_pos hv, if_pos ⟨hk, hf⟩]
          refine fin _ (fun b j h1 h2 => by rw [u_n (by omega), u_n (by omega)]) ?_ (fun j => by rw [u_n (by omega), u_n (by omega)])
          rw [el]
          obtain ⟨e1, e2, e3, e4, e5, e6, e7, e8⟩ := hR0
          refine ⟨fun v hvv => ?_, ?_, ?_, ?_, ?_, ?_, fun h0 => ⟨?_, ?_⟩, fun b hb => ?_⟩
          · show _ = nI (updN _ _ _ v)
            by_cases e : v = F.2.1
            · subst e; rw [u_n (by omega), u_s, updN_s, Nat.min_comm]
            · rw [u_n (by omega), u_n (by omega), updN_n e, g1 v hvv]
          · simp (disch := first | assumption | with_unfolding_all exact hW.1 _ _ rfl | rfl | exact pu_okI (by first | assumption | with_unfolding_all exact hW.1 _ _ rfl) (by omega) (by omega) | exact pu_oqI (by first | assumption | with_unfolding_all exact hW.1 _ _ rfl) (by omega) (by omega) | omega | decide) only [↓reduceIte, ↓gi_b, ↓pi_b, ↓gr_b, ↓pr_b, ↓al_b, ↓as_b, ↓al_3, ↓as_3, ↓al_12, ↓as_12, ↓al_l, ↓as_l, ↓rc_b, ↓Option.bind_some, ↓zr0_b, ↓zr1_b, ↓zrb_b, ↓pz0_b, ↓pz1_b, al_b, as_b, rc_b, gi_b, pi_b, gr_b, zr0, zr1, zrb, u_s, u_n, v_s, v_n, ↓isIn_b, ↓within_b, ite_T, ite_F, il_t, il_f, li_t, li_f, it_t, it_f, ti_t, ti_f, ie_t, ie_f, ei_t, ei_f, nn_le_t, nn_le_f, nn_lt_t, nn_lt_f, nn_eq_t, nn_eq_f, nI_1, nI_add, ni_addl, ni_ladd, pk_mul, ni_mull, b2_t, b2_f, b2_0, one0, m1_eq, ni_m1, reduceCtorEq, Bool.false_eq_true, nI_clamp, if_true, Option.some.injEq, Prod.mk.injEq, and_true, true_and, Nat.reduceAdd, Nat.reduceMul, Nat.reduceSub, Nat.reduceEqDiff, Nat.reduceLeDiff, Nat.reduceLT, e2]; rfl
          · simp (disch := first | assumption | with_unfolding_all exact hW.1 _ _ rfl | rfl | exact pu_okI (by first | assumption | with_unfolding_all exact hW.1 _ _ rfl) (by omega) (by omega) | exact pu_oqI (by first | assumption | with_unfolding_all exact hW.1 _ _ rfl) (by omega) (by omega) | omega | decide) only [↓reduceIte, ↓gi_b, ↓pi_b, ↓gr_b, ↓pr_b, ↓al_b, ↓as_b, ↓al_3, ↓as_3, ↓al_12, ↓as_12, ↓al_l, ↓as_l, ↓rc_b, ↓Option.bind_some, ↓zr0_b, ↓zr1_b, ↓zrb_b, ↓pz0_b, ↓pz1_b, al_b, as_b, rc_b, gi_b, pi_b, gr_b, zr0, zr1, zrb, u_s, u_n, v_s, v_n, ↓isIn_b, ↓within_b, ite_T, ite_F, il_t, il_f, li_t, li_f, it_t, it_f, ti_t, ti_f, ie_t, ie_f, ei_t, ei_f, nn_le_t, nn_le_f, nn_lt_t, nn_lt_f, nn_eq_t, nn_eq_f, nI_1, nI_add, ni_addl, ni_ladd, pk_mul, ni_mull, b2_t, b2_f, b2_0, one0, m1_eq, ni_m1, reduceCtorEq, Bool.false_eq_true, nI_clamp, if_true, Option.some.injEq, Prod.mk.injEq, and_true, true_and, Nat.reduceAdd, Nat.reduceMul, Nat.reduceSub, Nat.reduceEqDiff, Nat.reduceLeDiff, Nat.reduceLT, e3]; rfl
          · rw [u_s, Nat.min_comm]; rfl
          · simp (disch := first | assumption | with_unfolding_all exact hW.1 _ _ rfl | rfl | exact pu_okI (by first | assumption | with_unfolding_all exact hW.1 _ _ rfl) (by omega) (by omega) | exact pu_oqI (by first | assumption | with_unfolding_all exact hW.1 _ _ rfl) (by omega) (by omega) | omega | decide) only [↓reduceIte, ↓gi_b, ↓pi_b, ↓gr_b, ↓pr_b, ↓al_b, ↓as_b, ↓al_3, ↓as_3, ↓al_12, ↓as_12, ↓al_l, ↓as_l, ↓rc_b, ↓Option.bind_some, ↓zr0_b, ↓zr1_b, ↓zrb_b, ↓pz0_b, ↓pz1_b, al_b, as_b, rc_b, gi_b, pi_b, gr_b, zr0, zr1, zrb, u_s, u_n, v_s, v_n, ↓isIn_b, ↓within_b, ite_T, ite_F, il_t, il_f, li_t, li_f, it_t, it_f, ti_t, ti_f, ie_t, ie_f, ei_t, ei_f, nn_le_t, nn_le_f, nn_lt_t, nn_lt_f, nn_eq_t, nn_eq_f, nI_1, nI_add, ni_addl, ni_ladd, pk_mul, ni_mull, b2_t, b2_f, b2_0, one0, m1_eq, ni_m1, reduceCtorEq, Bool.false_eq_true, nI_clamp, if_true, Option.some.injEq, Prod.mk.injEq, and_true, true_and, Nat.reduceAdd, Nat.reduceMul, Nat.reduceSub, Nat.reduceEqDiff, Nat.reduceLeDiff, Nat.reduceLT, e5]; rfl
          · simp (disch := first | assumption | with_unfolding_all exact hW.1 _ _ rfl | rfl | exact pu_okI (by first | assumption | with_unfolding_all exact hW.1 _ _ rfl) (by omega) (by omega) | exact pu_oqI (by first | assumption | with_unfolding_all exact hW.1 _ _ rfl) (by omega) (by omega) | omega | decide) only [↓reduceIte, ↓gi_b, ↓pi_b, ↓gr_b, ↓pr_b, ↓al_b, ↓as_b, ↓al_3, ↓as_3, ↓al_12, ↓as_12, ↓al_l, ↓as_l, ↓rc_b, ↓Option.bind_some, ↓zr0_b, ↓zr1_b, ↓zrb_b, ↓pz0_b, ↓pz1_b, al_b, as_b, rc_b, gi_b, pi_b, gr_b, zr0, zr1, zrb, u_s, u_n, v_s, v_n, ↓isIn_b, ↓within_b, ite_T, ite_F, il_t, il_f, li_t, li_f, it_t, it_f, ti_t, ti_f, ie_t, ie_f, ei_t, ei_f, nn_le_t, nn_le_f, nn_lt_t, nn_lt_f, nn_eq_t, nn_eq_f, nI_1, nI_add, ni_addl, ni_ladd, pk_mul, ni_mull, b2_t, b2_f, b2_0, one0, m1_eq, ni_m1, reduceCtorEq, Bool.false_eq_true, nI_clamp, if_true, Option.some.injEq, Prod.mk.injEq, and_true, true_and, Nat.reduceAdd, Nat.reduceMul, Nat.reduceSub, Nat.reduceEqDiff, Nat.reduceLeDiff, Nat.reduceLT, e6]; rfl
          · rw [u_n (by omega), u_n (by omega), (e7 h0).1]; rfl
          · rw [u_n (by omega), u_n (by omega), (e7 h0).2]; rfl
          · rw [u_n (by omega), u_n (by omega), e8 b hb]; rfl
        · simp (disch := first | assumption | with_unfolding_all exact hW.1 _ _ rfl | rfl | exact pu_okI (by first | assumption | with_unfolding_all exact hW.1 _ _ rfl) (by omega) (by omega) | exact pu_oqI (by first | assumption | with_unfolding_all exact hW.1 _ _ rfl) (by omega) (by omega) | omega | decide) only [↓reduceIte, ↓gi_b, ↓pi_b, ↓gr_b, ↓pr_b, ↓al_b, ↓as_b, ↓al_3, ↓as_3, ↓al_12, ↓as_12, ↓al_l, ↓as_l, ↓rc_b, ↓Option.bind_some, ↓zr0_b, ↓zr1_b, ↓zrb_b, ↓pz0_b, ↓pz1_b, al_b, as_b, rc_b, gi_b, pi_b, gr_b, zr0, zr1, zrb, u_s, u_n, v_s, v_n, ↓isIn_b, ↓within_b, ite_T, ite_F, il_t, il_f, li_t, li_f, it_t, it_f, ti_t, ti_f, ie_t, ie_f, ei_t, ei_f, nn_le_t, nn_le_f, nn_lt_t, nn_lt_f, nn_eq_t, nn_eq_f, nI_1, nI_add, ni_addl, ni_ladd, pk_mul, ni_mull, b2_t, b2_f, b2_0, one0, m1_eq, ni_m1, reduceCtorEq, Bool.false_eq_true, nI_clamp, if_true, Option.some.injEq, Prod.mk.injEq, and_true, true_and, Nat.reduceAdd, Nat.reduceMul, Nat.reduceSub, Nat.reduceEqDiff, Nat.reduceLeDiff, Nat.reduceLT, ↓gr40_6 hW, ↓gr40_8 hW, ↓gr40_1 hW, ↓gr40_50 hW, ↓gr40_56 hW, ↓gr40_9 hW, ↓gr40_5 hW, ↓gr40_59 hW, ↓gr40_2 hW, ↓gr40_10 hW, hc.2.2.2.1, l4, l7, l5, hc.1, hk]
          have el : S_lk K F t X = X := by unfold S_lk; rw [if_neg hv]
          exact fin I (fun _ _ _ _ => rfl) (by rw [el]; exact hR0) (fun _ => rfl)
      · simp (disch := first | assumption | with_unfolding_all exact hW.1 _ _ rfl | rfl | exact pu_okI (by first | assumption | with_unfolding_all exact hW.1 _ _ rfl) (by omega) (by omega) | exact pu_oqI (by first | assumption | with_unfolding_all exact hW.1 _ _ rfl) (by omega) (by omega) | omega | decide) only [↓reduceIte, ↓gi_b, ↓pi_b, ↓gr_b, ↓pr_b, ↓al_b, ↓as_b, ↓al_3, ↓as_3, ↓al_12, ↓as_12, ↓al_l, ↓as_l, ↓rc_b, ↓Option.bind_some, ↓zr0_b, ↓zr1_b, ↓zrb_b, ↓pz0_b, ↓pz1_b, al_b, as_b, rc_b, gi_b, pi_b, gr_b, zr0, zr1, zrb, u_s, u_n, v_s, v_n, ↓isIn_b, ↓within_b, ite_T, ite_F, il_t, il_f, li_t, li_f, it_t, it_f, ti_t, ti_f, ie_t, ie_f, ei_t, ei_f, nn_le_t, nn_le_f, nn_lt_t, nn_lt_f, nn_eq_t, nn_eq_f, nI_1, nI_add, ni_addl, ni_ladd, pk_mul, ni_mull, b2_t, b2_f, b2_0, one0, m1_eq, ni_m1, reduceCtorEq, Bool.false_eq_true, nI_clamp, if_true, Option.some.injEq, Prod.mk.injEq, and_true, true_and, Nat.reduceAdd, Nat.reduceMul, Nat.reduceSub, Nat.reduceEqDiff, Nat.reduceLeDiff, Nat.reduceLT, ↓gr40_6 hW, ↓gr40_8 hW, ↓gr40_1 hW, ↓gr40_50 hW, ↓gr40_56 hW, ↓gr40_9 hW, ↓gr40_5 hW, ↓gr40_59 hW, ↓gr40_2 hW, ↓gr40_10 hW, hc.2.2.2.1, l4, l7, hk]
        have el : M_R I (t + 1) K (S_drop K t (S_lk K F t X)) := lk0 (if_neg (fun q => hf q.2)) hR0
        exact fin I (fun _ _ _ _ => rfl) el (fun _ => rfl)
    · simp (disch := first | assumption | with_unfolding_all exact hW.1 _ _ rfl | rfl | exact pu_okI (by first | assumption | with_unfolding_all exact hW.1 _ _ rfl) (by omega) (by omega) | exact pu_oqI (by first | assumption | with_unfolding_all exact hW.1 _ _ rfl) (by omega) (by omega) | omega | decide) only [↓reduceIte, ↓gi_b, ↓pi_b, ↓gr_b, ↓pr_b, ↓al_b, ↓as_b, ↓al_3, ↓as_3, ↓al_12, ↓as_12, ↓al_l, ↓as_l, ↓rc_b, ↓Option.bind_some, ↓zr0_b, ↓zr1_b, ↓zrb_b, ↓pz0_b, ↓pz1_b, al_b, as_b, rc_b, gi_b, pi_b, gr_b, zr0, zr1, zrb, u_s, u_n, v_s, v_n, ↓isIn_b, ↓within_b, ite_T, ite_F, il_t, il_f, li_t, li_f, it_t, it_f, ti_t, ti_f, ie_t, ie_f, ei_t, ei_f, nn_le_t, nn_le_f, nn_lt_t, nn_lt_f, nn_eq_t, nn_eq_f, nI_1, nI_add, ni_addl, ni_ladd, pk_mul, ni_mull, b2_t, b2_f, b2_0, one0, m1_eq, ni_m1, reduceCtorEq, Bool.false_eq_true, nI_clamp, if_true, Option.some.injEq, Prod.mk.injEq, and_true, true_and, Nat.reduceAdd, Nat.reduceMul, Nat.reduceSub, Nat.reduceEqDiff, Nat.reduceLeDiff, Nat.reduceLT, ↓gr40_6 hW, ↓gr40_8 hW, ↓gr40_1 hW, ↓gr40_50 hW, ↓gr40_56 hW, ↓gr40_9 hW, ↓gr40_5 hW, ↓gr40_59 hW, ↓gr40_2 hW, ↓gr40_10 hW, hc.2.2.2.1, l4]
      have el : M_R I (t + 1) K (S_drop K t (S_lk K F t X)) := lk0 (if_neg (fun q => hk q.1)) hR0
      exact fin I (fun _ _ _ _ => rfl) el (fun _ => rfl)
  | succ m ih =>
    intro b N I hb hN hc hl hg h55 h70 kk
    obtain ⟨N, rfl⟩ : ∃ N', N = N' + 1 := ⟨N - 1, by omega⟩
    have hbn : b < knb K := by omega
    have h70b := h70 b (by omega)
    have hMb := hc.2.2.2.2.2 b hbn
    have hMM := hK.2.2.2.2.2.2.1 b hbn
    show Rn (fX9_tick_242_b (fX9_tick_242 N) _ _ _ _ _ _) _
    unfold fX9_tick_242_b fX9_tick_300
    have same : I 40 55 = nI (if b + 1 ≤ xdr X then xdr X else min (b + 1) (S_dn K lev 12 (xdr X))) → (∀ j, j < 12 → I 70 j = nI (if j < xdr X then xD X j else if j < b + 1 ∧ j < S_dn K lev 12 (xdr X) then t else 96)) → Rn (fX9_tick_242 N (some 40) (nI c) (nI t) (nI lev) (nI (b + 1)) (pu_hp s I P J n)) Q := fun q1 q2 => ih (b + 1) N I (by omega) (by omega) hc hl hg q1 q2 kk
    by_cases hd : b < xdr X
    · rw [if_pos hd] at h70b
      have := x10 b hd
      simp (disch := first | assumption | with_unfolding_all exact hW.1 _ _ rfl | rfl | exact pu_okI (by first | assumption | with_unfolding_all exact hW.1 _ _ rfl) (by omega) (by omega) | exact pu_oqI (by first | assumption | with_unfolding_all exact hW.1 _ _ rfl) (by omega) (by omega) | omega | decide) only [↓reduceIte, ↓gi_b, ↓pi_b, ↓gr_b, ↓pr_b, ↓al_b, ↓as_b, ↓al_3, ↓as_3, ↓al_12, ↓as_12, ↓al_l, ↓as_l, ↓rc_b, ↓Option.bind_some, ↓zr0_b, ↓zr1_b, ↓zrb_b, ↓pz0_b, ↓pz1_b, al_b, as_b, rc_b, gi_b, pi_b, gr_b, zr0, zr1, zrb, u_s, u_n, v_s, v_n, ↓isIn_b, ↓within_b, ite_T, ite_F, il_t, il_f, li_t, li_f, it_t, it_f, ti_t, ti_f, ie_t, ie_f, ei_t, ei_f, nn_le_t, nn_le_f, nn_lt_t, nn_lt_f, nn_eq_t, nn_eq_f, nI_1, nI_add, ni_addl, ni_ladd, pk_mul, ni_mull, b2_t, b2_f, b2_0, one0, m1_eq, ni_m1, reduceCtorEq, Bool.false_eq_true, nI_clamp, if_true, Option.some.injEq, Prod.mk.injEq, and_true, true_and, Nat.reduceAdd, Nat.reduceMul, Nat.reduceSub, Nat.reduceEqDiff, Nat.reduceLeDiff, Nat.reduceLT, ↓gr40_6 hW, ↓gr40_8 hW, ↓gr40_1 hW, ↓gr40_50 hW, ↓gr40_56 hW, ↓gr40_9 hW, ↓gr40_5 hW, ↓gr40_59 hW, ↓gr40_2 hW, ↓gr40_10 hW, hc.2.2.2.1, h70b]
      refine same ?_ (fun j hj => ?_)
      · rw [h55, if_pos (by omega), if_pos (by omega)]
      · rw [h70 j hj]
        by_cases e : j < xdr X
        · rw [if_pos e, if_pos e]
        · rw [if_neg e, if_neg e, if_neg (by omega), if_neg (by omega)]
    · rw [if_neg hd, if_neg (by omega)] at h70b
      have hiff := S_dn_iff hK (lev := lev) 12 (xdr X) b (by omega) hbn (by omega)
      by_cases hle2 : kM K b ≤ lev
      · have hbD := hiff.mpr hle2
        have hm : (if b ≤ xdr X then xdr X else min b (S_dn K lev 12 (xdr X))) = b := by
          by_cases e : b ≤ xdr X
          · rw [if_pos e]; omega
          · rw [if_neg e]; omega
        simp (disch := first | assumption | with_unfolding_all exact hW.1 _ _ rfl | rfl | exact pu_okI (by first | assumption | with_unfolding_all exact hW.1 _ _ rfl) (by omega) (by omega) | exact pu_oqI (by first | assumption | with_unfolding_all exact hW.1 _ _ rfl) (by omega) (by omega) | omega | decide) only [↓reduceIte, ↓gi_b, ↓pi_b, ↓gr_b, ↓pr_b, ↓al_b, ↓as_b, ↓al_3, ↓as_3, ↓al_12, ↓as_12, ↓al_l, ↓as_l, ↓rc_b, ↓Option.bind_some, ↓zr0_b, ↓zr1_b, ↓zrb_b, ↓pz0_b, ↓pz1_b, al_b, as_b, rc_b, gi_b, pi_b, gr_b, zr0, zr1, zrb, u_s, u_n, v_s, v_n, ↓isIn_b, ↓within_b, ite_T, ite_F, il_t, il_f, li_t, li_f, it_t, it_f, ti_t, ti_f, ie_t, ie_f, ei_t, ei_f, nn_le_t, nn_le_f, nn_lt_t, nn_lt_f, nn_eq_t, nn_eq_f, nI_1, nI_add, ni_addl, ni_ladd, pk_mul, ni_mull, b2_t, b2_f, b2_0, one0, m1_eq, ni_m1, reduceCtorEq, Bool.false_eq_true, nI_clamp, if_true, Option.some.injEq, Prod.mk.injEq, and_true, true_and, Nat.reduceAdd, Nat.reduceMul, Nat.reduceSub, Nat.reduceEqDiff, Nat.reduceLeDiff, Nat.reduceLT, ↓gr40_6 hW, ↓gr40_8 hW, ↓gr40_1 hW, ↓gr40_50 hW, ↓gr40_56 hW, ↓gr40_9 hW, ↓gr40_5 hW, ↓gr40_59 hW, ↓gr40_2 hW, ↓gr40_10 hW, hc.2.2.2.1, h70b, hMb, h55, hm]
        refine ih (b + 1) N _ (by omega) (by omega) (hc.fr fun b j h1 h2 => by rw [u_n (by omega), u_n (by omega)]) (hl.fr fun b j h1 h2 => by rw [u_n (by omega), u_n (by omega)]) ?_ ?_ (fun j hj => ?_) (fun I' q1 q2 q3 => kk I' (fun b j h1 h2 => by rw [q1 b j h1 h2, u_n (by omega), u_n (by omega)]) q2 (fun j => by rw [q3, u_n (by omega), u_n (by omega)]))
        · obtain ⟨g1, g2, g3, g4, g5, g6, g7⟩ := hg
          refine ⟨fun v hv => by rw [u_n (by omega), u_n (by omega), g1 v hv], ?_, ?_, ?_, ?_, ?_, ?_⟩
          · simp (disch := first | assumption | with_unfolding_all exact hW.1 _ _ rfl | rfl | exact pu_okI (by first | assumption | with_unfolding_all exact hW.1 _ _ rfl) (by omega) (by omega) | exact pu_oqI (by first | assumption | with_unfolding_all exact hW.1 _ _ rfl) (by omega) (by omega) | omega | decide) only [↓reduceIte, ↓gi_b, ↓pi_b, ↓gr_b, ↓pr_b, ↓al_b, ↓as_b, ↓al_3, ↓as_3, ↓al_12, ↓as_12, ↓al_l, ↓as_l, ↓rc_b, ↓Option.bind_some, ↓zr0_b, ↓zr1_b, ↓zrb_b, ↓pz0_b, ↓pz1_b, al_b, as_b, rc_b, gi_b, pi_b, gr_b, zr0, zr1, zrb, u_s, u_n, v_s, v_n, ↓isIn_b, ↓within_b, ite_T, ite_F, il_t, il_f, li_t, li_f, it_t, it_f, ti_t, ti_f, ie_t, ie_f, ei_t, ei_f, nn_le_t, nn_le_f, nn_lt_t, nn_lt_f, nn_eq_t, nn_eq_f, nI_1, nI_add, ni_addl, ni_ladd, pk_mul, ni_mull, b2_t, b2_f, b2_0, one0, m1_eq, ni_m1, reduceCtorEq, Bool.false_eq_true, nI_clamp, if_true, Option.some.injEq, Prod.mk.injEq, and_true, true_and, Nat.reduceAdd, Nat.reduceMul, Nat.reduceSub, Nat.reduceEqDiff, Nat.reduceLeDiff, Nat.reduceLT, g2]
          · simp (disch := first | assumption | with_unfolding_all exact hW.1 _ _ rfl | rfl | exact pu_okI (by first | assumption | with_unfolding_all exact hW.1 _ _ rfl) (by omega) (by omega) | exact pu_oqI (by first | assumption | with_unfolding_all exact hW.1 _ _ rfl) (by omega) (by omega) | omega | decide) only [↓reduceIte, ↓gi_b, ↓pi_b, ↓gr_b, ↓pr_b, ↓al_b, ↓as_b, ↓al_3, ↓as_3, ↓al_12, ↓as_12, ↓al_l, ↓as_l, ↓rc_b, ↓Option.bind_some, ↓zr0_b, ↓zr1_b, ↓zrb_b, ↓pz0_b, ↓pz1_b, al_b, as_b, rc_b, gi_b, pi_b, gr_b, zr0, zr1, zrb, u_s, u_n, v_s, v_n, ↓isIn_b, ↓within_b, ite_T, ite_F, il_t, il_f, li_t, li_f, it_t, it_f, ti_t, ti_f, ie_t, ie_f, ei_t, ei_f, nn_le_t, nn_le_f, nn_lt_t, nn_lt_f, nn_eq_t, nn_eq_f, nI_1, nI_add, ni_addl, ni_ladd, pk_mul, ni_mull, b2_t, b2_f, b2_0, one0, m1_eq, ni_m1, reduceCtorEq, Bool.false_eq_true, nI_clamp, if_true, Option.some.injEq, Prod.mk.injEq, and_true, true_and, Nat.reduceAdd, Nat.reduceMul, Nat.reduceSub, Nat.reduceEqDiff, Nat.reduceLeDiff, Nat.reduceLT, g3]
          · simp (disch := first | assumption | with_unfolding_all exact hW.1 _ _ rfl | rfl | exact pu_okI (by first | assumption | with_unfolding_all exact hW.1 _ _ rfl) (by omega) (by omega) | exact pu_oqI (by first | assumption | with_unfolding_all exact hW.1 _ _ rfl) (by omega) (by omega) | omega | decide) only [↓reduceIte, ↓gi_b, ↓pi_b, ↓gr_b, ↓pr_b, ↓al_b, ↓as_b, ↓al_3, ↓as_3, ↓al_12, ↓as_12, ↓al_l, ↓as_l, ↓rc_b, ↓Option.bind_some, ↓zr0_b, ↓zr1_b, ↓zrb_b, ↓pz0_b, ↓pz1_b, al_b, as_b, rc_b, gi_b, pi_b, gr_b, zr0, zr1, zrb, u_s, u_n, v_s, v_n, ↓isIn_b, ↓within_b, ite_T, ite_F, il_t, il_f, li_t, li_f, it_t, it_f, ti_t, ti_f, ie_t, ie_f, ei_t, ei_f, nn_le_t, nn_le_f, nn_lt_t, nn_lt_f, nn_eq_t, nn_eq_f, nI_1, nI_add, ni_addl, ni_ladd, pk_mul, ni_mull, b2_t, b2_f, b2_0, one0, m1_eq, ni_m1, reduceCtorEq, Bool.false_eq_true, nI_clamp, if_true, Option.some.injEq, Prod.mk.injEq, and_true, true_and, Nat.reduceAdd, Nat.reduceMul, Nat.reduceSub, Nat.reduceEqDiff, Nat.reduceLeDiff, Nat.reduceLT, g4]
          · simp (disch := first | assumption | with_unfolding_all exact hW.1 _ _ rfl | rfl | exact pu_okI (by first | assumption | with_unfolding_all exact hW.1 _ _ rfl) (by omega) (by omega) | exact pu_oqI (by first | assumption | with_unfolding_all exact hW.1 _ _ rfl) (by omega) (by omega) | omega | decide) only [↓reduceIte, ↓gi_b, ↓pi_b, ↓gr_b, ↓pr_b, ↓al_b, ↓as_b, ↓al_3, ↓as_3, ↓al_12, ↓as_12, ↓al_l, ↓as_l, ↓rc_b, ↓Option.bind_some, ↓zr0_b, ↓zr1_b, ↓zrb_b, ↓pz0_b, ↓pz1_b, al_b, as_b, rc_b, gi_b, pi_b, gr_b, zr0, zr1, zrb, u_s, u_n, v_s, v_n, ↓isIn_b, ↓within_b, ite_T, ite_F, il_t, il_f, li_t, li_f, it_t, it_f, ti_t, ti_f, ie_t, ie_f, ei_t, ei_f, nn_le_t, nn_le_f, nn_lt_t, nn_lt_f, nn_eq_t, nn_eq_f, nI_1, nI_add, ni_addl, ni_ladd, pk_mul, ni_mull, b2_t, b2_f, b2_0, one0, m1_eq, ni_m1, reduceCtorEq, Bool.false_eq_true, nI_clamp, if_true, Option.some.injEq, Prod.mk.injEq, and_true, true_and, Nat.reduceAdd, Nat.reduceMul, Nat.reduceSub, Nat.reduceEqDiff, Nat.reduceLeDiff, Nat.reduceLT, g5]
          · simp (disch := first | assumption | with_unfolding_all exact hW.1 _ _ rfl | rfl | exact pu_okI (by first | assumption | with_unfolding_all exact hW.1 _ _ rfl) (by omega) (by omega) | exact pu_oqI (by first | assumption | with_unfolding_all exact hW.1 _ _ rfl) (by omega) (by omega) | omega | decide) only [↓reduceIte, ↓gi_b, ↓pi_b, ↓gr_b, ↓pr_b, ↓al_b, ↓as_b, ↓al_3, ↓as_3, ↓al_12, ↓as_12, ↓al_l, ↓as_l, ↓rc_b, ↓Option.bind_some, ↓zr0_b, ↓zr1_b, ↓zrb_b, ↓pz0_b, ↓pz1_b, al_b, as_b, rc_b, gi_b, pi_b, gr_b, zr0, zr1, zrb, u_s, u_n, v_s, v_n, ↓isIn_b, ↓within_b, ite_T, ite_F, il_t, il_f, li_t, li_f, it_t, it_f, ti_t, ti_f, ie_t, ie_f, ei_t, ei_f, nn_le_t, nn_le_f, nn_lt_t, nn_lt_f, nn_eq_t, nn_eq_f, nI_1, nI_add, ni_addl, ni_ladd, pk_mul, ni_mull, b2_t, b2_f, b2_0, one0, m1_eq, ni_m1, reduceCtorEq, Bool.false_eq_true, nI_clamp, if_true, Option.some.injEq, Prod.mk.injEq, and_true, true_and, Nat.reduceAdd, Nat.reduceMul, Nat.reduceSub, Nat.reduceEqDiff, Nat.reduceLeDiff, Nat.reduceLT, g6]
          · simp (disch := first | assumption | with_unfolding_all exact hW.1 _ _ rfl | rfl | exact pu_okI (by first | assumption | with_unfolding_all exact hW.1 _ _ rfl) (by omega) (by omega) | exact pu_oqI (by first | assumption | with_unfolding_all exact hW.1 _ _ rfl) (by omega) (by omega) | omega | decide) only [↓reduceIte, ↓gi_b, ↓pi_b, ↓gr_b, ↓pr_b, ↓al_b, ↓as_b, ↓al_3, ↓as_3, ↓al_12, ↓as_12, ↓al_l, ↓as_l, ↓rc_b, ↓Option.bind_some, ↓zr0_b, ↓zr1_b, ↓zrb_b, ↓pz0_b, ↓pz1_b, al_b, as_b, rc_b, gi_b, pi_b, gr_b, zr0, zr1, zrb, u_s, u_n, v_s, v_n, ↓isIn_b, ↓within_b, ite_T, ite_F, il_t, il_f, li_t, li_f, it_t, it_f, ti_t, ti_f, ie_t, ie_f, ei_t, ei_f, nn_le_t, nn_le_f, nn_lt_t, nn_lt_f, nn_eq_t, nn_eq_f, nI_1, nI_add, ni_addl, ni_ladd, pk_mul, ni_mull, b2_t, b2_f, b2_0, one0, m1_eq, ni_m1, reduceCtorEq, Bool.false_eq_true, nI_clamp, if_true, Option.some.injEq, Prod.mk.injEq, and_true, true_and, Nat.reduceAdd, Nat.reduceMul, Nat.reduceSub, Nat.reduceEqDiff, Nat.reduceLeDiff, Nat.reduceLT, g7]
        · rw [u_s, if_neg (by omega)]; congr 1; omega
        · rw [u_n (by omega)]
          by_cases e : j = b
          · subst e; rw [u_s, if_neg hd, if_pos (by omega)]
          · rw [u_n (by omega), h70 j hj]
            by_cases e2 : j < xdr X
            · rw [if_pos e2, if_pos e2]
            · rw [if_neg e2, if_neg e2]
              by_cases e3 : j < b ∧ j < S_dn K lev 12 (xdr X)
              · rw [if_pos e3, if_pos (by omega)]
              · rw [if_neg e3, if_neg (by omega)]
      · have hbD : ¬ b < S_dn K lev 12 (xdr X) := fun q => hle2 (hiff.mp q)
        simp (disch := first | assumption | with_unfolding_all exact hW.1 _ _ rfl | rfl | exact pu_okI (by first | assumption | with_unfolding_all exact hW.1 _ _ rfl) (by omega) (by omega) | exact pu_oqI (by first | assumption | with_unfolding_all exact hW.1 _ _ rfl) (by omega) (by omega) | omega | decide) only [↓reduceIte, ↓gi_b, ↓pi_b, ↓gr_b, ↓pr_b, ↓al_b, ↓as_b, ↓al_3, ↓as_3, ↓al_12, ↓as_12, ↓al_l, ↓as_l, ↓rc_b, ↓Option.bind_some, ↓zr0_b, ↓zr1_b, ↓zrb_b, ↓pz0_b, ↓pz1_b, al_b, as_b, rc_b, gi_b, pi_b, gr_b, zr0, zr1, zrb, u_s, u_n, v_s, v_n, ↓isIn_b, ↓within_b, ite_T, ite_F, il_t, il_f, li_t, li_f, it_t, it_f, ti_t, ti_f, ie_t, ie_f, ei_t, ei_f, nn_le_t, nn_le_f, nn_lt_t, nn_lt_f, nn_eq_t, nn_eq_f, nI_1, nI_add, ni_addl, ni_ladd, pk_mul, ni_mull, b2_t, b2_f, b2_0, one0, m1_eq, ni_m1, reduceCtorEq, Bool.false_eq_true, nI_clamp, if_true, Option.some.injEq, Prod.mk.injEq, and_true, true_and, Nat.reduceAdd, Nat.reduceMul, Nat.reduceSub, Nat.reduceEqDiff, Nat.reduceLeDiff, Nat.reduceLT, ↓gr40_6 hW, ↓gr40_8 hW, ↓gr40_1 hW, ↓gr40_50 hW, ↓gr40_56 hW, ↓gr40_9 hW, ↓gr40_5 hW, ↓gr40_59 hW, ↓gr40_2 hW, ↓gr40_10 hW, hc.2.2.2.1, h70b, hMb]
        refine same ?_ (fun j hj => ?_)
        · rw [h55]
          congr 1
          by_cases e : b ≤ xdr X
          · rw [if_pos e]
            by_cases e2 : b + 1 ≤ xdr X
            · rw [if_pos e2]
            · rw [if_neg e2]; omega
          · rw [if_neg e, if_neg (by omega)]; omega
        · rw [h70 j hj]
          by_cases e2 : j < xdr X
          · rw [if_pos e2, if_pos e2]
          · rw [if_neg e2, if_neg e2]
            by_cases e3 : j < b ∧ j < S_dn K lev 12 (xdr X)
            · rw [if_pos e3, if_pos (by omega)]
            · rw [if_neg e3, if_neg (by omega)]
end MR
