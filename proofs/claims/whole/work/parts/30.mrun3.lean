/-! the reference's run: a tick, a run, what is loaded -/
section MR
variable {s : Nat → Option pu_S} {I : Nat → Nat → Int32} {P : Nat → Nat → Option Nat} {J : Nat → Nat → Int64} {n : Nat × Nat}
variable {c sn : Nat} {K : S_K} {F : S_F} {w t : Nat} {sip : Bool}
set_option maxHeartbeats 4000000 in
set_option maxRecDepth 100000 in
theorem m_exit (hW : pu_W s P) (hc4 : c < 4) (hK : S_KB K) (hF : S_FB F) (ht : t < 96) {X : S_X} (hX : S_XB K t X) {z : Nat × (Nat → Nat) × Nat} (hz : z = S_fl K F w t X) {N : Nat} (hN : 1 ≤ N) {wn : Int32} (hc : M_C I c K) (hl : M_L I K F sip) (h69 : ∀ v, v < kn K → I 69 v = nI (z.2.1 v)) (h52 : I 40 52 = nI z.2.2) (h51 : I 40 51 = nI (xcy X)) (h53 : I 40 53 = nI (xle X)) (h54 : I 40 54 = nI (xem X)) (h55 : I 40 55 = nI (xdr X)) (h57 : 0 < t → I 40 57 = nI (xli X) ∧ I 40 58 = nI (xmo X)) (h0 : t = 0 → xli X = 0 ∧ xmo X = 0) (h70 : ∀ b, b < 12 → I 70 b = nI (if b < xdr X then xD X b else 96)) {Q : am_H → Prop}
    (kk : ∀ I', M_F I I' → M_R I' (t + 1) K (S_tick K F w sip t X) → (∀ j, I' 71 j = if j = t then nI ((xcy X + z.1) / kca K) else I 71 j) → Rn (some (pu_hp s I' P J n)) Q) :
    Rn (fX9_tick_49 N (some 40) (nI c) (nI t) wn (nI z.1) (nI (kn K)) (pu_hp s I P J n)) Q := by
  obtain ⟨N, rfl⟩ : ∃ N', N = N' + 1 := ⟨N - 1, by omega⟩
  have hX1 : S_XB K (t + 1) (S_drip K t X z) := by rw [hz]; exact S_drip_b hK hX
  obtain ⟨x1, x2, x3, x4, x5, x6, x7, x8, x9, x10⟩ := id hX
  have hz1 : z.1 ≤ 1800 := by rw [hz]; exact (S_fl_b hK x1).2.1
  have hkn := hK.1
  have hca := hK.2.2.1
  have hnb := hK.2.2.2.2.2.1
  have hle : (xcy X + z.1) / kca K ≤ xcy X + z.1 := Nat.div_le_self _ _
  have hfin : ∀ I0 li mo, M_F I I0 → I0 40 51 = nI (xcy X + z.1) → I0 40 57 = nI li → I0 40 58 = nI mo → (∀ j, I0 71 j = if j = t then nI ((xcy X + z.1) / kca K) else I 71 j) → (∀ b j, ¬ (b = 40 ∧ (j = 51 ∨ j = 57 ∨ j = 58)) → ¬ (b = 71) → I0 b j = I b j) → li = (if t = 0 then z.1 else min (xli X) z.1) → mo = max (xmo X) z.1 → Rn (fX9_tick_242 am_fu (some 40) (nI c) (nI t) (nI ((xcy X + z.1) / kca K)) (nI 0) (pu_hp s I0 P J n)) Q := by
    intro I0 li mo q1 q2 q3 q4 q5 q6 q7 q8
    refine m_balls hW hc4 hK hF ht hX1 x5 (lev := (xcy X + z.1) / kca K) rfl (knb K) 0 am_fu I0 (by omega) (by unfold am_fu; omega) (hc.fr fun b j h1 h2 => q1 b j (by omega) (by omega)) (hl.fr q1) ⟨fun v hv => ?_, q2, ?_, ?_, ?_, ?_, ?_⟩ ?_ (fun j hj => ?_) ?_
    · rw [q6 _ _ (by omega) (by omega), h69 v hv]; rfl
    · rw [q6 _ _ (by omega) (by omega), h52]; rfl
    · rw [q6 _ _ (by omega) (by omega), h53]; rfl
    · rw [q6 _ _ (by omega) (by omega), h54]; rfl
    · rw [q3, q7]; rfl
    · rw [q4, q8]; rfl
    · rw [if_pos (Nat.zero_le _), q6 _ _ (by omega) (by omega), h55]; rfl
    · rw [q6 _ _ (by omega) (by omega), h70 j hj]
      show _ = nI (if j < xdr X then xD X j else if j < 0 ∧ _ then t else 96)
      rw [if_neg (show ¬ (j < 0 ∧ j < S_dn K ((xcy X + z.1) / kca K) 12 (xdr (S_drip K t X z))) by omega)]
    · intro I' r1 r2 r3
      refine kk I' (q1.t r1) ?_ (fun j => by rw [r3, q5])
      unfold S_tick
      rw [← hz]; exact r2
  show Rn (fX9_tick_49_b _ _ _ _ _ _ _ _) _
  unfold fX9_tick_49_b fX9_tick_180 fX9_tick_189 fX9_tick_206 fX9_tick_215
  by_cases ht0 : t = 0
  · obtain ⟨e1, e2⟩ := h0 ht0
    subst ht0
    simp (disch := first | assumption | with_unfolding_all exact hW.1 _ _ rfl | rfl | exact pu_okI (by first | assumption | with_unfolding_all exact hW.1 _ _ rfl) (by omega) (by omega) | exact pu_oqI (by first | assumption | with_unfolding_all exact hW.1 _ _ rfl) (by omega) (by omega) | omega | decide) only [↓reduceIte, ↓gi_b, ↓pi_b, ↓gr_b, ↓pr_b, ↓al_b, ↓as_b, ↓al_3, ↓as_3, ↓al_12, ↓as_12, ↓rc_b, ↓Option.bind_some, ↓zr0_b, ↓zr1_b, ↓zrb_b, ↓pz0_b, ↓pz1_b, al_b, as_b, rc_b, gi_b, pi_b, gr_b, zr0, zr1, zrb, u_s, u_n, v_s, v_n, ↓isIn_b, ↓within_b, ite_T, ite_F, il_t, il_f, li_t, li_f, it_t, it_f, ti_t, ti_f, ie_t, ie_f, ei_t, ei_f, nn_le_t, nn_le_f, nn_lt_t, nn_lt_f, nn_eq_t, nn_eq_f, nI_1, nI_add, ni_addl, ni_ladd, pk_mul, ni_mull, b2_t, b2_f, b2_0, Option.some.injEq, Prod.mk.injEq, and_true, true_and, Nat.reduceAdd, Nat.reduceMul, Nat.reduceSub, Nat.reduceEqDiff, Nat.reduceLeDiff, Nat.reduceLT, ↓gr40_6 hW, ↓gr40_8 hW, ↓gr40_1 hW, ↓gr40_50 hW, ↓gr40_56 hW, ↓gr40_9 hW, ↓gr40_5 hW, ↓gr40_59 hW, ↓gr40_2 hW, ↓gr40_10 hW, hc.1, h51, hc.2.1, pk_div, show (0 : Int32) = nI 0 from rfl]
    refine hfin _ z.1 z.1 (fun b j h1 h2 => by rw [u_n (by omega), u_n (by omega), u_n (by omega), u_n (by omega)]) ?_ ?_ ?_ (fun j => ?_) (fun b j h1 h2 => by rw [u_n (by omega), u_n (by omega), u_n (by omega), u_n (by omega)]) ?_ ?_
    · simp (disch := first | assumption | with_unfolding_all exact hW.1 _ _ rfl | rfl | exact pu_okI (by first | assumption | with_unfolding_all exact hW.1 _ _ rfl) (by omega) (by omega) | exact pu_oqI (by first | assumption | with_unfolding_all exact hW.1 _ _ rfl) (by omega) (by omega) | omega | decide) only [↓reduceIte, ↓gi_b, ↓pi_b, ↓gr_b, ↓pr_b, ↓al_b, ↓as_b, ↓al_3, ↓as_3, ↓al_12, ↓as_12, ↓rc_b, ↓Option.bind_some, ↓zr0_b, ↓zr1_b, ↓zrb_b, ↓pz0_b, ↓pz1_b, al_b, as_b, rc_b, gi_b, pi_b, gr_b, zr0, zr1, zrb, u_s, u_n, v_s, v_n, ↓isIn_b, ↓within_b, ite_T, ite_F, il_t, il_f, li_t, li_f, it_t, it_f, ti_t, ti_f, ie_t, ie_f, ei_t, ei_f, nn_le_t, nn_le_f, nn_lt_t, nn_lt_f, nn_eq_t, nn_eq_f, nI_1, nI_add, ni_addl, ni_ladd, pk_mul, ni_mull, b2_t, b2_f, b2_0, Option.some.injEq, Prod.mk.injEq, and_true, true_and, Nat.reduceAdd, Nat.reduceMul, Nat.reduceSub, Nat.reduceEqDiff, Nat.reduceLeDiff, Nat.reduceLT]
    · simp (disch := first | assumption | with_unfolding_all exact hW.1 _ _ rfl | rfl | exact pu_okI (by first | assumption | with_unfolding_all exact hW.1 _ _ rfl) (by omega) (by omega) | exact pu_oqI (by first | assumption | with_unfolding_all exact hW.1 _ _ rfl) (by omega) (by omega) | omega | decide) only [↓reduceIte, ↓gi_b, ↓pi_b, ↓gr_b, ↓pr_b, ↓al_b, ↓as_b, ↓al_3, ↓as_3, ↓al_12, ↓as_12, ↓rc_b, ↓Option.bind_some, ↓zr0_b, ↓zr1_b, ↓zrb_b, ↓pz0_b, ↓pz1_b, al_b, as_b, rc_b, gi_b, pi_b, gr_b, zr0, zr1, zrb, u_s, u_n, v_s, v_n, ↓isIn_b, ↓within_b, ite_T, ite_F, il_t, il_f, li_t, li_f, it_t, it_f, ti_t, ti_f, ie_t, ie_f, ei_t, ei_f, nn_le_t, nn_le_f, nn_lt_t, nn_lt_f, nn_eq_t, nn_eq_f, nI_1, nI_add, ni_addl, ni_ladd, pk_mul, ni_mull, b2_t, b2_f, b2_0, Option.some.injEq, Prod.mk.injEq, and_true, true_and, Nat.reduceAdd, Nat.reduceMul, Nat.reduceSub, Nat.reduceEqDiff, Nat.reduceLeDiff, Nat.reduceLT]
    · simp (disch := first | assumption | with_unfolding_all exact hW.1 _ _ rfl | rfl | exact pu_okI (by first | assumption | with_unfolding_all exact hW.1 _ _ rfl) (by omega) (by omega) | exact pu_oqI (by first | assumption | with_unfolding_all exact hW.1 _ _ rfl) (by omega) (by omega) | omega | decide) only [↓reduceIte, ↓gi_b, ↓pi_b, ↓gr_b, ↓pr_b, ↓al_b, ↓as_b, ↓al_3, ↓as_3, ↓al_12, ↓as_12, ↓rc_b, ↓Option.bind_some, ↓zr0_b, ↓zr1_b, ↓zrb_b, ↓pz0_b, ↓pz1_b, al_b, as_b, rc_b, gi_b, pi_b, gr_b, zr0, zr1, zrb, u_s, u_n, v_s, v_n, ↓isIn_b, ↓within_b, ite_T, ite_F, il_t, il_f, li_t, li_f, it_t, it_f, ti_t, ti_f, ie_t, ie_f, ei_t, ei_f, nn_le_t, nn_le_f, nn_lt_t, nn_lt_f, nn_eq_t, nn_eq_f, nI_1, nI_add, ni_addl, ni_ladd, pk_mul, ni_mull, b2_t, b2_f, b2_0, Option.some.injEq, Prod.mk.injEq, and_true, true_and, Nat.reduceAdd, Nat.reduceMul, Nat.reduceSub, Nat.reduceEqDiff, Nat.reduceLeDiff, Nat.reduceLT]
    · by_cases e : j = 0
      · subst e; rw [u_s, if_pos rfl]
      · rw [if_neg e, u_n (by omega), u_n (by omega), u_n (by omega), u_n (by omega)]
    · rw [if_pos rfl]
    · omega
  · obtain ⟨h57a, h58a⟩ := h57 (by omega)
    by_cases hli : xli X ≤ z.1
    · by_cases hmo : z.1 ≤ xmo X
      · simp (disch := first | assumption | with_unfolding_all exact hW.1 _ _ rfl | rfl | exact pu_okI (by first | assumption | with_unfolding_all exact hW.1 _ _ rfl) (by omega) (by omega) | exact pu_oqI (by first | assumption | with_unfolding_all exact hW.1 _ _ rfl) (by omega) (by omega) | omega | decide) only [↓reduceIte, ↓gi_b, ↓pi_b, ↓gr_b, ↓pr_b, ↓al_b, ↓as_b, ↓al_3, ↓as_3, ↓al_12, ↓as_12, ↓rc_b, ↓Option.bind_some, ↓zr0_b, ↓zr1_b, ↓zrb_b, ↓pz0_b, ↓pz1_b, al_b, as_b, rc_b, gi_b, pi_b, gr_b, zr0, zr1, zrb, u_s, u_n, v_s, v_n, ↓isIn_b, ↓within_b, ite_T, ite_F, il_t, il_f, li_t, li_f, it_t, it_f, ti_t, ti_f, ie_t, ie_f, ei_t, ei_f, nn_le_t, nn_le_f, nn_lt_t, nn_lt_f, nn_eq_t, nn_eq_f, nI_1, nI_add, ni_addl, ni_ladd, pk_mul, ni_mull, b2_t, b2_f, b2_0, Option.some.injEq, Prod.mk.injEq, and_true, true_and, Nat.reduceAdd, Nat.reduceMul, Nat.reduceSub, Nat.reduceEqDiff, Nat.reduceLeDiff, Nat.reduceLT, ↓gr40_6 hW, ↓gr40_8 hW, ↓gr40_1 hW, ↓gr40_50 hW, ↓gr40_56 hW, ↓gr40_9 hW, ↓gr40_5 hW, ↓gr40_59 hW, ↓gr40_2 hW, ↓gr40_10 hW, hc.1, h51, hc.2.1, h57a, h58a, pk_div, show (0 : Int32) = nI 0 from rfl]
        refine hfin _ (xli X) (xmo X) (fun b j h1 h2 => by rw [u_n (by omega), u_n (by omega), u_n (by omega), u_n (by omega)]) ?_ ?_ ?_ (fun j => ?_) (fun b j h1 h2 => by rw [u_n (by omega), u_n (by omega), u_n (by omega), u_n (by omega)]) ?_ ?_
        · simp (disch := first | assumption | with_unfolding_all exact hW.1 _ _ rfl | rfl | exact pu_okI (by first | assumption | with_unfolding_all exact hW.1 _ _ rfl) (by omega) (by omega) | exact pu_oqI (by first | assumption | with_unfolding_all exact hW.1 _ _ rfl) (by omega) (by omega) | omega | decide) only [↓reduceIte, ↓gi_b, ↓pi_b, ↓gr_b, ↓pr_b, ↓al_b, ↓as_b, ↓al_3, ↓as_3, ↓al_12, ↓as_12, ↓rc_b, ↓Option.bind_some, ↓zr0_b, ↓zr1_b, ↓zrb_b, ↓pz0_b, ↓pz1_b, al_b, as_b, rc_b, gi_b, pi_b, gr_b, zr0, zr1, zrb, u_s, u_n, v_s, v_n, ↓isIn_b, ↓within_b, ite_T, ite_F, il_t, il_f, li_t, li_f, it_t, it_f, ti_t, ti_f, ie_t, ie_f, ei_t, ei_f, nn_le_t, nn_le_f, nn_lt_t, nn_lt_f, nn_eq_t, nn_eq_f, nI_1, nI_add, ni_addl, ni_ladd, pk_mul, ni_mull, b2_t, b2_f, b2_0, Option.some.injEq, Prod.mk.injEq, and_true, true_and, Nat.reduceAdd, Nat.reduceMul, Nat.reduceSub, Nat.reduceEqDiff, Nat.reduceLeDiff, Nat.reduceLT]
        · simp (disch := first | assumption | with_unfolding_all exact hW.1 _ _ rfl | rfl | exact pu_okI (by first | assumption | with_unfolding_all exact hW.1 _ _ rfl) (by omega) (by omega) | exact pu_oqI (by first | assumption | with_unfolding_all exact hW.1 _ _ rfl) (by omega) (by omega) | omega | decide) only [↓reduceIte, ↓gi_b, ↓pi_b, ↓gr_b, ↓pr_b, ↓al_b, ↓as_b, ↓al_3, ↓as_3, ↓al_12, ↓as_12, ↓rc_b, ↓Option.bind_some, ↓zr0_b, ↓zr1_b, ↓zrb_b, ↓pz0_b, ↓pz1_b, al_b, as_b, rc_b, gi_b, pi_b, gr_b, zr0, zr1, zrb, u_s, u_n, v_s, v_n, ↓isIn_b, ↓within_b, ite_T, ite_F, il_t, il_f, li_t, li_f, it_t, it_f, ti_t, ti_f, ie_t, ie_f, ei_t, ei_f, nn_le_t, nn_le_f, nn_lt_t, nn_lt_f, nn_eq_t, nn_eq_f, nI_1, nI_add, ni_addl, ni_ladd, pk_mul, ni_mull, b2_t, b2_f, b2_0, Option.some.injEq, Prod.mk.injEq, and_true, true_and, Nat.reduceAdd, Nat.reduceMul, Nat.reduceSub, Nat.reduceEqDiff, Nat.reduceLeDiff, Nat.reduceLT]
        · simp (disch := first | assumption | with_unfolding_all exact hW.1 _ _ rfl | rfl | exact pu_okI (by first | assumption | with_unfolding_all exact hW.1 _ _ rfl) (by omega) (by omega) | exact pu_oqI (by first | assumption | with_unfolding_all exact hW.1 _ _ rfl) (by omega) (by omega) | omega | decide) only [↓reduceIte, ↓gi_b, ↓pi_b, ↓gr_b, ↓pr_b, ↓al_b, ↓as_b, ↓al_3, ↓as_3, ↓al_12, ↓as_12, ↓rc_b, ↓Option.bind_some, ↓zr0_b, ↓zr1_b, ↓zrb_b, ↓pz0_b, ↓pz1_b, al_b, as_b, rc_b, gi_b, pi_b, gr_b, zr0, zr1, zrb, u_s, u_n, v_s, v_n, ↓isIn_b, ↓within_b, ite_T, ite_F, il_t, il_f, li_t, li_f, it_t, it_f, ti_t, ti_f, ie_t, ie_f, ei_t, ei_f, nn_le_t, nn_le_f, nn_lt_t, nn_lt_f, nn_eq_t, nn_eq_f, nI_1, nI_add, ni_addl, ni_ladd, pk_mul, ni_mull, b2_t, b2_f, b2_0, Option.some.injEq, Prod.mk.injEq, and_true, true_and, Nat.reduceAdd, Nat.reduceMul, Nat.reduceSub, Nat.reduceEqDiff, Nat.reduceLeDiff, Nat.reduceLT]
        · by_cases e : j = t
          · subst e; rw [u_s, if_pos rfl]
          · rw [if_neg e, u_n (by omega), u_n (by omega), u_n (by omega), u_n (by omega)]
        · rw [if_neg ht0]; omega
        · omega
      · simp (disch := first | assumption | with_unfolding_all exact hW.1 _ _ rfl | rfl | exact pu_okI (by first | assumption | with_unfolding_all exact hW.1 _ _ rfl) (by omega) (by omega) | exact pu_oqI (by first | assumption | with_unfolding_all exact hW.1 _ _ rfl) (by omega) (by omega) | omega | decide) only [↓reduceIte, ↓gi_b, ↓pi_b, ↓gr_b, ↓pr_b, ↓al_b, ↓as_b, ↓al_3, ↓as_3, ↓al_12, ↓as_12, ↓rc_b, ↓Option.bind_some, ↓zr0_b, ↓zr1_b, ↓zrb_b, ↓pz0_b, ↓pz1_b, al_b, as_b, rc_b, gi_b, pi_b, gr_b, zr0, zr1, zrb, u_s, u_n, v_s, v_n, ↓isIn_b, ↓within_b, ite_T, ite_F, il_t, il_f, li_t, li_f, it_t, it_f, ti_t, ti_f, ie_t, ie_f, ei_t, ei_f, nn_le_t, nn_le_f, nn_lt_t, nn_lt_f, nn_eq_t, nn_eq_f, nI_1, nI_add, ni_addl, ni_ladd, pk_mul, ni_mull, b2_t, b2_f, b2_0, Option.some.injEq, Prod.mk.injEq, and_true, true_and, Nat.reduceAdd, Nat.reduceMul, Nat.reduceSub, Nat.reduceEqDiff, Nat.reduceLeDiff, Nat.reduceLT, ↓gr40_6 hW, ↓gr40_8 hW, ↓gr40_1 hW, ↓gr40_50 hW, ↓gr40_56 hW, ↓gr40_9 hW, ↓gr40_5 hW, ↓gr40_59 hW, ↓gr40_2 hW, ↓gr40_10 hW, hc.1, h51, hc.2.1, h57a, h58a, pk_div, show (0 : Int32) = nI 0 from rfl]
        refine hfin _ (xli X) z.1 (fun b j h1 h2 => by rw [u_n (by omega), u_n (by omega), u_n (by omega), u_n (by omega)]) ?_ ?_ ?_ (fun j => ?_) (fun b j h1 h2 => by rw [u_n (by omega), u_n (by omega), u_n (by omega), u_n (by omega)]) ?_ ?_
        · simp (disch := first | assumption | with_unfolding_all exact hW.1 _ _ rfl | rfl | exact pu_okI (by first | assumption | with_unfolding_all exact hW.1 _ _ rfl) (by omega) (by omega) | exact pu_oqI (by first | assumption | with_unfolding_all exact hW.1 _ _ rfl) (by omega) (by omega) | omega | decide) only [↓reduceIte, ↓gi_b, ↓pi_b, ↓gr_b, ↓pr_b, ↓al_b, ↓as_b, ↓al_3, ↓as_3, ↓al_12, ↓as_12, ↓rc_b, ↓Option.bind_some, ↓zr0_b, ↓zr1_b, ↓zrb_b, ↓pz0_b, ↓pz1_b, al_b, as_b, rc_b, gi_b, pi_b, gr_b, zr0, zr1, zrb, u_s, u_n, v_s, v_n, ↓isIn_b, ↓within_b, ite_T, ite_F, il_t, il_f, li_t, li_f, it_t, it_f, ti_t, ti_f, ie_t, ie_f, ei_t, ei_f, nn_le_t, nn_le_f, nn_lt_t, nn_lt_f, nn_eq_t, nn_eq_f, nI_1, nI_add, ni_addl, ni_ladd, pk_mul, ni_mull, b2_t, b2_f, b2_0, Option.some.injEq, Prod.mk.injEq, and_true, true_and, Nat.reduceAdd, Nat.reduceMul, Nat.reduceSub, Nat.reduceEqDiff, Nat.reduceLeDiff, Nat.reduceLT]
        · simp (disch := first | assumption | with_unfolding_all exact hW.1 _ _ rfl | rfl | exact pu_okI (by first | assumption | with_unfolding_all exact hW.1 _ _ rfl) (by omega) (by omega) | exact pu_oqI (by first | assumption | with_unfolding_all exact hW.1 _ _ rfl) (by omega) (by omega) | omega | decide) only [↓reduceIte, ↓gi_b, ↓pi_b, ↓gr_b, ↓pr_b, ↓al_b, ↓as_b, ↓al_3, ↓as_3, ↓al_12, ↓as_12, ↓rc_b, ↓Option.bind_some, ↓zr0_b, ↓zr1_b, ↓zrb_b, ↓pz0_b, ↓pz1_b, al_b, as_b, rc_b, gi_b, pi_b, gr_b, zr0, zr1, zrb, u_s, u_n, v_s, v_n, ↓isIn_b, ↓within_b, ite_T, ite_F, il_t, il_f, li_t, li_f, it_t, it_f, ti_t, ti_f, ie_t, ie_f, ei_t, ei_f, nn_le_t, nn_le_f, nn_lt_t, nn_lt_f, nn_eq_t, nn_eq_f, nI_1, nI_add, ni_addl, ni_ladd, pk_mul, ni_mull, b2_t, b2_f, b2_0, Option.some.injEq, Prod.mk.injEq, and_true, true_and, Nat.reduceAdd, Nat.reduceMul, Nat.reduceSub, Nat.reduceEqDiff, Nat.reduceLeDiff, Nat.reduceLT]
        · simp (disch := first | assumption | with_unfolding_all exact hW.1 _ _ rfl | rfl | exact pu_okI (by first | assumption | with_unfolding_all exact hW.1 _ _ rfl) (by omega) (by omega) | exact pu_oqI (by first | assumption | with_unfolding_all exact hW.1 _ _ rfl) (by omega) (by omega) | omega | decide) only [↓reduceIte, ↓gi_b, ↓pi_b, ↓gr_b, ↓pr_b, ↓al_b, ↓as_b, ↓al_3, ↓as_3, ↓al_12, ↓as_12, ↓rc_b, ↓Option.bind_some, ↓zr0_b, ↓zr1_b, ↓zrb_b, ↓pz0_b, ↓pz1_b, al_b, as_b, rc_b, gi_b, pi_b, gr_b, zr0, zr1, zrb, u_s, u_n, v_s, v_n, ↓isIn_b, ↓within_b, ite_T, ite_F, il_t, il_f, li_t, li_f, it_t, it_f, ti_t, ti_f, ie_t, ie_f, ei_t, ei_f, nn_le_t, nn_le_f, nn_lt_t, nn_lt_f, nn_eq_t, nn_eq_f, nI_1, nI_add, ni_addl, ni_ladd, pk_mul, ni_mull, b2_t, b2_f, b2_0, Option.some.injEq, Prod.mk.injEq, and_true, true_and, Nat.reduceAdd, Nat.reduceMul, Nat.reduceSub, Nat.reduceEqDiff, Nat.reduceLeDiff, Nat.reduceLT]
        · by_cases e : j = t
          · subst e; rw [u_s, if_pos rfl]
          · rw [if_neg e, u_n (by omega), u_n (by omega), u_n (by omega), u_n (by omega)]
        · rw [if_neg ht0]; omega
        · omega
    · by_cases hmo : z.1 ≤ xmo X
      · simp (disch := first | assumption | with_unfolding_all exact hW.1 _ _ rfl | rfl | exact pu_okI (by first | assumption | with_unfolding_all exact hW.1 _ _ rfl) (by omega) (by omega) | exact pu_oqI (by first | assumption | with_unfolding_all exact hW.1 _ _ rfl) (by omega) (by omega) | omega | decide) only [↓reduceIte, ↓gi_b, ↓pi_b, ↓gr_b, ↓pr_b, ↓al_b, ↓as_b, ↓al_3, ↓as_3, ↓al_12, ↓as_12, ↓rc_b, ↓Option.bind_some, ↓zr0_b, ↓zr1_b, ↓zrb_b, ↓pz0_b, ↓pz1_b, al_b, as_b, rc_b, gi_b, pi_b, gr_b, zr0, zr1, zrb, u_s, u_n, v_s, v_n, ↓isIn_b, ↓within_b, ite_T, ite_F, il_t, il_f, li_t, li_f, it_t, it_f, ti_t, ti_f, ie_t, ie_f, ei_t, ei_f, nn_le_t, nn_le_f, nn_lt_t, nn_lt_f, nn_eq_t, nn_eq_f, nI_1, nI_add, ni_addl, ni_ladd, pk_mul, ni_mull, b2_t, b2_f, b2_0, Option.some.injEq, Prod.mk.injEq, and_true, true_and, Nat.reduceAdd, Nat.reduceMul, Nat.reduceSub, Nat.reduceEqDiff, Nat.reduceLeDiff, Nat.reduceLT, ↓gr40_6 hW, ↓gr40_8 hW, ↓gr40_1 hW, ↓gr40_50 hW, ↓gr40_56 hW, ↓gr40_9 hW, ↓gr40_5 hW, ↓gr40_59 hW, ↓gr40_2 hW, ↓gr40_10 hW, hc.1, h51, hc.2.1, h57a, h58a, pk_div, show (0 : Int32) = nI 0 from rfl]
        refine hfin _ z.1 (xmo X) (fun b j h1 h2 => by rw [u_n (by omega), u_n (by omega), u_n (by omega), u_n (by omega)]) ?_ ?_ ?_ (fun j => ?_) (fun b j h1 h2 => by rw [u_n (by omega), u_n (by omega), u_n (by omega), u_n (by omega)]) ?_ ?_
        · simp (disch := first | assumption | with_unfolding_all exact hW.1 _ _ rfl | rfl | exact pu_okI (by first | assumption | with_unfolding_all exact hW.1 _ _ rfl) (by omega) (by omega) | exact pu_oqI (by first | assumption | with_unfolding_all exact hW.1 _ _ rfl) (by omega) (by omega) | omega | decide) only [↓reduceIte, ↓gi_b, ↓pi_b, ↓gr_b, ↓pr_b, ↓al_b, ↓as_b, ↓al_3, ↓as_3, ↓al_12, ↓as_12, ↓rc_b, ↓Option.bind_some, ↓zr0_b, ↓zr1_b, ↓zrb_b, ↓pz0_b, ↓pz1_b, al_b, as_b, rc_b, gi_b, pi_b, gr_b, zr0, zr1, zrb, u_s, u_n, v_s, v_n, ↓isIn_b, ↓within_b, ite_T, ite_F, il_t, il_f, li_t, li_f, it_t, it_f, ti_t, ti_f, ie_t, ie_f, ei_t, ei_f, nn_le_t, nn_le_f, nn_lt_t, nn_lt_f, nn_eq_t, nn_eq_f, nI_1, nI_add, ni_addl, ni_ladd, pk_mul, ni_mull, b2_t, b2_f, b2_0, Option.some.injEq, Prod.mk.injEq, and_true, true_and, Nat.reduceAdd, Nat.reduceMul, Nat.reduceSub, Nat.reduceEqDiff, Nat.reduceLeDiff, Nat.reduceLT]
        · simp (disch := first | assumption | with_unfolding_all exact hW.1 _ _ rfl | rfl | exact pu_okI (by first | assumption | with_unfolding_all exact hW.1 _ _ rfl) (by omega) (by omega) | exact pu_oqI (by first | assumption | with_unfolding_all exact hW.1 _ _ rfl) (by omega) (by omega) | omega | decide) only [↓reduceIte, ↓gi_b, ↓pi_b, ↓gr_b, ↓pr_b, ↓al_b, ↓as_b, ↓al_3, ↓as_3, ↓al_12, ↓as_12, ↓rc_b, ↓Option.bind_some, ↓zr0_b, ↓zr1_b, ↓zrb_b, ↓pz0_b, ↓pz1_b, al_b, as_b, rc_b, gi_b, pi_b, gr_b, zr0, zr1, zrb, u_s, u_n, v_s, v_n, ↓isIn_b, ↓within_b, ite_T, ite_F, il_t, il_f, li_t, li_f, it_t, it_f, ti_t, ti_f, ie_t, ie_f, ei_t, ei_f, nn_le_t, nn_le_f, nn_lt_t, nn_lt_f, nn_eq_t, nn_eq_f, nI_1, nI_add, ni_addl, ni_ladd, pk_mul, ni_mull, b2_t, b2_f, b2_0, Option.some.injEq, Prod.mk.injEq, and_true, true_and, Nat.reduceAdd, Nat.reduceMul, Nat.reduceSub, Nat.reduceEqDiff, Nat.reduceLeDiff, Nat.reduceLT]
        · simp (disch := first | assumption | with_unfolding_all exact hW.1 _ _ rfl | rfl | exact pu_okI (by first | assumption | with_unfolding_all exact hW.1 _ _ rfl) (by omega) (by omega) | exact pu_oqI (by first | assumption | with_unfolding_all exact hW.1 _ _ rfl) (by omega) (by omega) | omega | decide) only [↓reduceIte, ↓gi_b, ↓pi_b, ↓gr_b, ↓pr_b, ↓al_b, ↓as_b, ↓al_3, ↓as_3, ↓al_12, ↓as_12, ↓rc_b, ↓Option.bind_some, ↓zr0_b, ↓zr1_b, ↓zrb_b, ↓pz0_b, ↓pz1_b, al_b, as_b, rc_b, gi_b, pi_b, gr_b, zr0, zr1, zrb, u_s, u_n, v_s, v_n, ↓isIn_b, ↓within_b, ite_T, ite_F, il_t, il_f, li_t, li_f, it_t, it_f, ti_t, ti_f, ie_t, ie_f, ei_t, ei_f, nn_le_t, nn_le_f, nn_lt_t, nn_lt_f, nn_eq_t, nn_eq_f, nI_1, nI_add, ni_addl, ni_ladd, pk_mul, ni_mull, b2_t, b2_f, b2_0, Option.some.injEq, Prod.mk.injEq, and_true, true_and, Nat.reduceAdd, Nat.reduceMul, Nat.reduceSub, Nat.reduceEqDiff, Nat.reduceLeDiff, Nat.reduceLT]
        · by_cases e : j = t
          · subst e; rw [u_s, if_pos rfl]
          · rw [if_neg e, u_n (by omega), u_n (by omega), u_n (by omega), u_n (by omega)]
        · rw [if_neg ht0]; omega
        · omega
      · simp (disch := first | assumption | with_unfolding_all exact hW.1 _ _ rfl | rfl | exact pu_okI (by first | assumption | with_unfolding_all exact hW.1 _ _ rfl) (by omega) (by omega) | exact pu_oqI (by first | assumption | with_unfolding_all exact hW.1 _ _ rfl) (by omega) (by omega) | omega | decide) only [↓reduceIte, ↓gi_b, ↓pi_b, ↓gr_b, ↓pr_b, ↓al_b, ↓as_b, ↓al_3, ↓as_3, ↓al_12, ↓as_12, ↓rc_b, ↓Option.bind_some, ↓zr0_b, ↓zr1_b, ↓zrb_b, ↓pz0_b, ↓pz1_b, al_b, as_b, rc_b, gi_b, pi_b, gr_b, zr0, zr1, zrb, u_s, u_n, v_s, v_n, ↓isIn_b, ↓within_b, ite_T, ite_F, il_t, il_f, li_t, li_f, it_t, it_f, ti_t, ti_f, ie_t, ie_f, ei_t, ei_f, nn_le_t, nn_le_f, nn_lt_t, nn_lt_f, nn_eq_t, nn_eq_f, nI_1, nI_add, ni_addl, ni_ladd, pk_mul, ni_mull, b2_t, b2_f, b2_0, Option.some.injEq, Prod.mk.injEq, and_true, true_and, Nat.reduceAdd, Nat.reduceMul, Nat.reduceSub, Nat.reduceEqDiff, Nat.reduceLeDiff, Nat.reduceLT, ↓gr40_6 hW, ↓gr40_8 hW, ↓gr40_1 hW, ↓gr40_50 hW, ↓gr40_56 hW, ↓gr40_9 hW, ↓gr40_5 hW, ↓gr40_59 hW, ↓gr40_2 hW, ↓gr40_10 hW, hc.1, h51, hc.2.1, h57a, h58a, pk_div, show (0 : Int32) = nI 0 from rfl]
        refine hfin _ z.1 z.1 (fun b j h1 h2 => by rw [u_n (by omega), u_n (by omega), u_n (by omega), u_n (by omega)]) ?_ ?_ ?_ (fun j => ?_) (fun b j h1 h2 => by rw [u_n (by omega), u_n (by omega), u_n (by omega), u_n (by omega)]) ?_ ?_
        · simp (disch := first | assumption | with_unfolding_all exact hW.1 _ _ rfl | rfl | exact pu_okI (by first | assumption | with_unfolding_all exact hW.1 _ _ rfl) (by omega) (by omega) | exact pu_oqI (by first | assumption | with_unfolding_all exact hW.1 _ _ rfl) (by omega) (by omega) | omega | decide) only [↓reduceIte, ↓gi_b, ↓pi_b, ↓gr_b, ↓pr_b, ↓al_b, ↓as_b, ↓al_3, ↓as_3, ↓al_12, ↓as_12, ↓rc_b, ↓Option.bind_some, ↓zr0_b, ↓zr1_b, ↓zrb_b, ↓pz0_b, ↓pz1_b, al_b, as_b, rc_b, gi_b, pi_b, gr_b, zr0, zr1, zrb, u_s, u_n, v_s, v_n, ↓isIn_b, ↓within_b, ite_T, ite_F, il_t, il_f, li_t, li_f, it_t, it_f, ti_t, ti_f, ie_t, ie_f, ei_t, ei_f, nn_le_t, nn_le_f, nn_lt_t, nn_lt_f, nn_eq_t, nn_eq_f, nI_1, nI_add, ni_addl, ni_ladd, pk_mul, ni_mull, b2_t, b2_f, b2_0, Option.some.injEq, Prod.mk.injEq, and_true, true_and, Nat.reduceAdd, Nat.reduceMul, Nat.reduceSub, Nat.reduceEqDiff, Nat.reduceLeDiff, Nat.reduceLT]
        · simp (disch := first | assumption | with_unfolding_all exact hW.1 _ _ rfl | rfl | exact pu_okI (by first | assumption | with_unfolding_all exact hW.1 _ _ rfl) (by omega) (by omega) | exact pu_oqI (by first | assumption | with_unfolding_all exact hW.1 _ _ rfl) (by omega) (by omega) | omega | decide) only [↓reduceIte, ↓gi_b, ↓pi_b, ↓gr_b, ↓pr_b, ↓al_b, ↓as_b, ↓al_3, ↓as_3, ↓al_12, ↓as_12, ↓rc_b, ↓Option.bind_some, ↓zr0_b, ↓zr1_b, ↓zrb_b, ↓pz0_b, ↓pz1_b, al_b, as_b, rc_b, gi_b, pi_b, gr_b, zr0, zr1, zrb, u_s, u_n, v_s, v_n, ↓isIn_b, ↓within_b, ite_T, ite_F, il_t, il_f, li_t, li_f, it_t, it_f, ti_t, ti_f, ie_t, ie_f, ei_t, ei_f, nn_le_t, nn_le_f, nn_lt_t, nn_lt_f, nn_eq_t, nn_eq_f, nI_1, nI_add, ni_addl, ni_ladd, pk_mul, ni_mull, b2_t, b2_f, b2_0, Option.some.injEq, Prod.mk.injEq, and_true, true_and, Nat.reduceAdd, Nat.reduceMul, Nat.reduceSub, Nat.reduceEqDiff, Nat.reduceLeDiff, Nat.reduceLT]
        · simp (disch := first | assumption | with_unfolding_all exact hW.1 _ _ rfl | rfl | exact pu_okI (by first | assumption | with_unfolding_all exact hW.1 _ _ rfl) (by omega) (by omega) | exact pu_oqI (by first | assumption | with_unfolding_all exact hW.1 _ _ rfl) (by omega) (by omega) | omega | decide) only [↓reduceIte, ↓gi_b, ↓pi_b, ↓gr_b, ↓pr_b, ↓al_b, ↓as_b, ↓al_3, ↓as_3, ↓al_12, ↓as_12, ↓rc_b, ↓Option.bind_some, ↓zr0_b, ↓zr1_b, ↓zrb_b, ↓pz0_b, ↓pz1_b, al_b, as_b, rc_b, gi_b, pi_b, gr_b, zr0, zr1, zrb, u_s, u_n, v_s, v_n, ↓isIn_b, ↓within_b, ite_T, ite_F, il_t, il_f, li_t, li_f, it_t, it_f, ti_t, ti_f, ie_t, ie_f, ei_t, ei_f, nn_le_t, nn_le_f, nn_lt_t, nn_lt_f, nn_eq_t, nn_eq_f, nI_1, nI_add, ni_addl, ni_ladd, pk_mul, ni_mull, b2_t, b2_f, b2_0, Option.some.injEq, Prod.mk.injEq, and_true, true_and, Nat.reduceAdd, Nat.reduceMul, Nat.reduceSub, Nat.reduceEqDiff, Nat.reduceLeDiff, Nat.reduceLT]
        · by_cases e : j = t
          · subst e; rw [u_s, if_pos rfl]
          · rw [if_neg e, u_n (by omega), u_n (by omega), u_n (by omega), u_n (by omega)]
        · rw [if_neg ht0]; omega
        · omega
set_option maxHeartbeats 4000000 in
set_option maxRecDepth 100000 in
theorem m_tick (hW : pu_W s P) (hc4 : c < 4) (hs4 : sn < 4) (hK : S_KB K) (hF : S_FB F) (hw : 50 ≤ w ∧ w ≤ 150) (hws : I 50 sn = nI w) (ht : t < 96) {X : S_X} (hX : S_XB K t X) (h0 : t = 0 → xli X = 0 ∧ xmo X = 0) (hc : M_C I c K) (hl : M_L I K F sip) (hI : M_R I t K X) :
    Rn (fX9_tick 40 (nI c) (nI sn) (nI t) (pu_hp s I P J n)) fun h => ∃ I', h = pu_hp s I' P J n ∧ M_F I I' ∧ M_R I' (t + 1) K (S_tick K F w sip t X) ∧ ∀ j, I' 71 j = if j = t then nI ((xcy X + (S_fl K F w t X).1) / kca K) else I 71 j := by
  obtain ⟨x1, x2, x3, x4, x5, x6, x7, x8, x9, x10⟩ := id hX
  obtain ⟨g1, g2, g3, g4, g5, g6, g7, g8⟩ := id hI
  obtain ⟨l1, l2, l3, l4, l5, l6, l7⟩ := id hl
  have hkn := hK.1
  have hsu := hK.2.2.2.2.1
  obtain ⟨fb1, fb2, fb3, fb4⟩ := id hF
  have hx10 := x1 0 (by omega)
  obtain ⟨f1, f2⟩ := S_full hK (k := 0) (by omega)
  have hcy0 : xcy (S_at K F w sip t) = xcy (S_at K F w sip t) := rfl
  unfold fX9_tick fX9_tick_39 fX9_tick_40
  simp (disch := first | assumption | with_unfolding_all exact hW.1 _ _ rfl | rfl | exact pu_okI (by first | assumption | with_unfolding_all exact hW.1 _ _ rfl) (by omega) (by omega) | exact pu_oqI (by first | assumption | with_unfolding_all exact hW.1 _ _ rfl) (by omega) (by omega) | omega | decide) only [↓reduceIte, ↓gi_b, ↓pi_b, ↓gr_b, ↓pr_b, ↓al_b, ↓as_b, ↓al_3, ↓as_3, ↓al_12, ↓as_12, ↓rc_b, ↓Option.bind_some, ↓zr0_b, ↓zr1_b, ↓zrb_b, ↓pz0_b, ↓pz1_b, al_b, as_b, rc_b, gi_b, pi_b, gr_b, zr0, zr1, zrb, u_s, u_n, v_s, v_n, ↓isIn_b, ↓within_b, ite_T, ite_F, il_t, il_f, li_t, li_f, it_t, it_f, ti_t, ti_f, ie_t, ie_f, ei_t, ei_f, nn_le_t, nn_le_f, nn_lt_t, nn_lt_f, nn_eq_t, nn_eq_f, nI_1, nI_add, ni_addl, ni_ladd, pk_mul, ni_mull, b2_t, b2_f, b2_0, Option.some.injEq, Prod.mk.injEq, and_true, true_and, Nat.reduceAdd, Nat.reduceMul, Nat.reduceSub, Nat.reduceEqDiff, Nat.reduceLeDiff, Nat.reduceLT, ↓gr40_6 hW, ↓gr40_8 hW, ↓gr40_1 hW, ↓gr40_50 hW, ↓gr40_56 hW, ↓gr40_9 hW, ↓gr40_5 hW, ↓gr40_59 hW, ↓gr40_2 hW, ↓gr40_10 hW, l2, show (0 : Int32) = nI 0 from rfl]
  refine Rn_bind (m_come (W := xW X 0) (ov := xov X) hW hc4 hK (by omega) hc (by rw [g1 0 (by omega)]) g3 (by omega) (by omega) (by omega)) ?_
  rintro _ ⟨I1, rfl, d1, d2, d3⟩
  have hf1 : M_F I I1 := fun b j h1 h2 => d3 b j (by omega) (by omega)
  have hc1 := hc.fr fun b j (h1 : 41 ≤ b) (h2 : b ≤ 49) => hf1 b j (by omega) (by omega)
  have hl1 := hl.fr hf1
  have e46 : I1 40 46 = nI F.1 := hl1.2.2.2.1
  have e49 : I1 40 49 = nI F.2.2.2 := hl1.2.2.2.2.2.2
  have e48 : I1 40 48 = nI F.2.2.1 := hl1.2.2.2.2.2.1
  have e50 : I1 50 sn = nI w := by rw [hf1 _ _ (by omega) (by omega), hws]
  have main : ∀ x5 : Int32, Rn (fX9_tick_49 am_fu (some 40) (nI c) (nI t) (nI (S_warm F w t)) x5 (0 : Int32) (pu_hp s I1 P J n)) fun h => ∃ I', h = pu_hp s I' P J n ∧ M_F I I' ∧ M_R I' (t + 1) K (S_tick K F w sip t X) ∧ ∀ j, I' 71 j = if j = t then nI ((xcy X + (S_fl K F w t X).1) / kca K) else I 71 j := by
    intro x5
    rw [show (0 : Int32) = nI 0 from rfl]
    refine m_tick49 hW hc4 hK hF ht hw.2 (kn K - 1) 0 am_fu (ksu K) (xov X) (xW X) x5 I1 (by omega) (by unfold am_fu; omega) hc1 hl1 x1 (by omega) (by omega) (fun j hj => ?_) d2 ?_
    · by_cases e : j = 0
      · subst e; rw [if_pos rfl, d1]; rfl
      · rw [if_neg e, d3 _ _ (by omega) (by omega), g1 j hj]
    · intro I2 N' hN' a1 a2 a3
      rw [show kn K - 1 + 1 = kn K by omega] at a1 a2 ⊢
      have hf2 : M_F I I2 := fun b j h1 h2 => by rw [a3 b j (by omega) (by omega), hf1 b j h1 h2]
      have gt : ∀ b j, ¬ b = 69 → ¬ (b = 40 ∧ j = 52) → I2 b j = I b j := fun b j h1 h2 => by rw [a3 b j h1 h2, d3 b j (by omega) h2]
      refine m_exit hW hc4 hK hF ht hX (z := S_fl K F w t X) rfl hN' (hc.fr fun b j h1 h2 => hf2 b j (by omega) (by omega)) (hl.fr hf2) a1 a2 (by rw [gt _ _ (by omega) (by omega), g2]) (by rw [gt _ _ (by omega) (by omega), g4]) (by rw [gt _ _ (by omega) (by omega), g5]) (by rw [gt _ _ (by omega) (by omega), g6]) (fun h => by rw [gt _ _ (by omega) (by omega), gt _ _ (by omega) (by omega)]; exact g7 h) h0 (fun b hb => by rw [gt _ _ (by omega) (by omega), g8 b hb]) ?_
      intro I' r1 r2 r3
      refine Rn_some ⟨I', rfl, hf2.t r1, r2, fun j => ?_⟩
      rw [r3, gt _ _ (by omega) (by omega)]
  by_cases h4 : F.1 = 4
  · by_cases hf : F.2.2.2 ≤ t
    · have e : nI (w - F.2.2.1) = nI (S_warm F w t) := congrArg nI (show S_warm F w t = w - F.2.2.1 from if_pos ⟨h4, hf⟩).symm
      simp (disch := first | assumption | with_unfolding_all exact hW.1 _ _ rfl | rfl | exact pu_okI (by first | assumption | with_unfolding_all exact hW.1 _ _ rfl) (by omega) (by omega) | exact pu_oqI (by first | assumption | with_unfolding_all exact hW.1 _ _ rfl) (by omega) (by omega) | omega | decide) only [↓reduceIte, ↓gi_b, ↓pi_b, ↓gr_b, ↓pr_b, ↓al_b, ↓as_b, ↓al_3, ↓as_3, ↓al_12, ↓as_12, ↓rc_b, ↓Option.bind_some, ↓zr0_b, ↓zr1_b, ↓zrb_b, ↓pz0_b, ↓pz1_b, al_b, as_b, rc_b, gi_b, pi_b, gr_b, zr0, zr1, zrb, u_s, u_n, v_s, v_n, ↓isIn_b, ↓within_b, ite_T, ite_F, il_t, il_f, li_t, li_f, it_t, it_f, ti_t, ti_f, ie_t, ie_f, ei_t, ei_f, nn_le_t, nn_le_f, nn_lt_t, nn_lt_f, nn_eq_t, nn_eq_f, nI_1, nI_add, ni_addl, ni_ladd, pk_mul, ni_mull, b2_t, b2_f, b2_0, Option.some.injEq, Prod.mk.injEq, and_true, true_and, Nat.reduceAdd, Nat.reduceMul, Nat.reduceSub, Nat.reduceEqDiff, Nat.reduceLeDiff, Nat.reduceLT, ↓gr40_6 hW, ↓gr40_8 hW, ↓gr40_1 hW, ↓gr40_50 hW, ↓gr40_56 hW, ↓gr40_9 hW, ↓gr40_5 hW, ↓gr40_59 hW, ↓gr40_2 hW, ↓gr40_10 hW, e46, h4, e49, e48, e50, ni_sub]
      rw [e, nI_0]
      exact main _
    · have e : nI w = nI (S_warm F w t) := congrArg nI (show S_warm F w t = w from if_neg (fun q => hf q.2)).symm
      simp (disch := first | assumption | with_unfolding_all exact hW.1 _ _ rfl | rfl | exact pu_okI (by first | assumption | with_unfolding_all exact hW.1 _ _ rfl) (by omega) (by omega) | exact pu_oqI (by first | assumption | with_unfolding_all exact hW.1 _ _ rfl) (by omega) (by omega) | omega | decide) only [↓reduceIte, ↓gi_b, ↓pi_b, ↓gr_b, ↓pr_b, ↓al_b, ↓as_b, ↓al_3, ↓as_3, ↓al_12, ↓as_12, ↓rc_b, ↓Option.bind_some, ↓zr0_b, ↓zr1_b, ↓zrb_b, ↓pz0_b, ↓pz1_b, al_b, as_b, rc_b, gi_b, pi_b, gr_b, zr0, zr1, zrb, u_s, u_n, v_s, v_n, ↓isIn_b, ↓within_b, ite_T, ite_F, il_t, il_f, li_t, li_f, it_t, it_f, ti_t, ti_f, ie_t, ie_f, ei_t, ei_f, nn_le_t, nn_le_f, nn_lt_t, nn_lt_f, nn_eq_t, nn_eq_f, nI_1, nI_add, ni_addl, ni_ladd, pk_mul, ni_mull, b2_t, b2_f, b2_0, Option.some.injEq, Prod.mk.injEq, and_true, true_and, Nat.reduceAdd, Nat.reduceMul, Nat.reduceSub, Nat.reduceEqDiff, Nat.reduceLeDiff, Nat.reduceLT, ↓gr40_6 hW, ↓gr40_8 hW, ↓gr40_1 hW, ↓gr40_50 hW, ↓gr40_56 hW, ↓gr40_9 hW, ↓gr40_5 hW, ↓gr40_59 hW, ↓gr40_2 hW, ↓gr40_10 hW, e46, h4, e49, e50, Int32.sub_zero]
      rw [e, show nI (S_warm F w t) - nI 0 = nI (S_warm F w t) from Int32.sub_zero _, nI_0]
      exact main _
  · have e : nI w = nI (S_warm F w t) := congrArg nI (show S_warm F w t = w from if_neg (fun q => h4 q.1)).symm
    simp (disch := first | assumption | with_unfolding_all exact hW.1 _ _ rfl | rfl | exact pu_okI (by first | assumption | with_unfolding_all exact hW.1 _ _ rfl) (by omega) (by omega) | exact pu_oqI (by first | assumption | with_unfolding_all exact hW.1 _ _ rfl) (by omega) (by omega) | omega | decide) only [↓reduceIte, ↓gi_b, ↓pi_b, ↓gr_b, ↓pr_b, ↓al_b, ↓as_b, ↓al_3, ↓as_3, ↓al_12, ↓as_12, ↓rc_b, ↓Option.bind_some, ↓zr0_b, ↓zr1_b, ↓zrb_b, ↓pz0_b, ↓pz1_b, al_b, as_b, rc_b, gi_b, pi_b, gr_b, zr0, zr1, zrb, u_s, u_n, v_s, v_n, ↓isIn_b, ↓within_b, ite_T, ite_F, il_t, il_f, li_t, li_f, it_t, it_f, ti_t, ti_f, ie_t, ie_f, ei_t, ei_f, nn_le_t, nn_le_f, nn_lt_t, nn_lt_f, nn_eq_t, nn_eq_f, nI_1, nI_add, ni_addl, ni_ladd, pk_mul, ni_mull, b2_t, b2_f, b2_0, Option.some.injEq, Prod.mk.injEq, and_true, true_and, Nat.reduceAdd, Nat.reduceMul, Nat.reduceSub, Nat.reduceEqDiff, Nat.reduceLeDiff, Nat.reduceLT, ↓gr40_6 hW, ↓gr40_8 hW, ↓gr40_1 hW, ↓gr40_50 hW, ↓gr40_56 hW, ↓gr40_9 hW, ↓gr40_5 hW, ↓gr40_59 hW, ↓gr40_2 hW, ↓gr40_10 hW, e46, e50, Int32.sub_zero]
    rw [e, show nI (S_warm F w t) - nI 0 = nI (S_warm F w t) from Int32.sub_zero _, nI_0]
    exact main _
theorem S_fl_b1 {X : S_X} (hK : S_KB K) (h : ∀ k, k < kn K → xW X k ≤ kA K k * kH K k) : (S_fl K F w t X).1 ≤ 1800 := (S_fl_b hK h).2.1
set_option maxHeartbeats 4000000 in
set_option maxRecDepth 100000 in
theorem m_run103 (hW : pu_W s P) (hc4 : c < 4) (hs4 : sn < 4) (hK : S_KB K) (hF : S_FB F) (hw : 50 ≤ w ∧ w ≤ 150) {e : Nat} (he : e < 96) : ∀ (m t N : Nat) (I : Nat → Nat → Int32), t + m = e + 1 → m < N → I 50 sn = nI w → M_C I c K → M_L I K F sip → M_R I t K (S_at K F w sip t) → (∀ u, u < t → I 71 u = nI (S_lev K F w sip u)) →
    Rn (fX9_run_103 N (some 40) (nI c) (nI sn) (nI e) (nI t) (pu_hp s I P J n)) fun h => ∃ I', h = pu_hp s I' P J n ∧ M_F I I' ∧ M_R I' (e + 1) K (S_at K F w sip (e + 1)) ∧ ∀ u, u < e + 1 → I' 71 u = nI (S_lev K F w sip u) := by
  intro m
  induction m with
  | zero =>
    intro t N I ht hN hws hc hl hI h71
    obtain ⟨N, rfl⟩ : ∃ N', N = N' + 1 := ⟨N - 1, by omega⟩
    obtain rfl : t = e + 1 := by omega
    show Rn (fX9_run_103_b _ _ _ _ _ _ _) _
    unfold fX9_run_103_b
    simp (disch := first | assumption | with_unfolding_all exact hW.1 _ _ rfl | rfl | exact pu_okI (by first | assumption | with_unfolding_all exact hW.1 _ _ rfl) (by omega) (by omega) | exact pu_oqI (by first | assumption | with_unfolding_all exact hW.1 _ _ rfl) (by omega) (by omega) | omega | decide) only [↓reduceIte, ↓gi_b, ↓pi_b, ↓gr_b, ↓pr_b, ↓al_b, ↓as_b, ↓al_3, ↓as_3, ↓al_12, ↓as_12, ↓rc_b, ↓Option.bind_some, ↓zr0_b, ↓zr1_b, ↓zrb_b, ↓pz0_b, ↓pz1_b, al_b, as_b, rc_b, gi_b, pi_b, gr_b, zr0, zr1, zrb, u_s, u_n, v_s, v_n, ↓isIn_b, ↓within_b, ite_T, ite_F, il_t, il_f, li_t, li_f, it_t, it_f, ti_t, ti_f, ie_t, ie_f, ei_t, ei_f, nn_le_t, nn_le_f, nn_lt_t, nn_lt_f, nn_eq_t, nn_eq_f, nI_1, nI_add, ni_addl, ni_ladd, pk_mul, ni_mull, b2_t, b2_f, b2_0, Option.some.injEq, Prod.mk.injEq, and_true, true_and, Nat.reduceAdd, Nat.reduceMul, Nat.reduceSub, Nat.reduceEqDiff, Nat.reduceLeDiff, Nat.reduceLT]
    exact Rn_some ⟨I, rfl, fun _ _ _ _ => rfl, hI, h71⟩
  | succ m ih =>
    intro t N I ht hN hws hc hl hI h71
    obtain ⟨N, rfl⟩ : ∃ N', N = N' + 1 := ⟨N - 1, by omega⟩
    show Rn (fX9_run_103_b (fX9_run_103 N) _ _ _ _ _ _) _
    unfold fX9_run_103_b
    simp (disch := first | assumption | with_unfolding_all exact hW.1 _ _ rfl | rfl | exact pu_okI (by first | assumption | with_unfolding_all exact hW.1 _ _ rfl) (by omega) (by omega) | exact pu_oqI (by first | assumption | with_unfolding_all exact hW.1 _ _ rfl) (by omega) (by omega) | omega | decide) only [↓reduceIte, ↓gi_b, ↓pi_b, ↓gr_b, ↓pr_b, ↓al_b, ↓as_b, ↓al_3, ↓as_3, ↓al_12, ↓as_12, ↓rc_b, ↓Option.bind_some, ↓zr0_b, ↓zr1_b, ↓zrb_b, ↓pz0_b, ↓pz1_b, al_b, as_b, rc_b, gi_b, pi_b, gr_b, zr0, zr1, zrb, u_s, u_n, v_s, v_n, ↓isIn_b, ↓within_b, ite_T, ite_F, il_t, il_f, li_t, li_f, it_t, it_f, ti_t, ti_f, ie_t, ie_f, ei_t, ei_f, nn_le_t, nn_le_f, nn_lt_t, nn_lt_f, nn_eq_t, nn_eq_f, nI_1, nI_add, ni_addl, ni_ladd, pk_mul, ni_mull, b2_t, b2_f, b2_0, Option.some.injEq, Prod.mk.injEq, and_true, true_and, Nat.reduceAdd, Nat.reduceMul, Nat.reduceSub, Nat.reduceEqDiff, Nat.reduceLeDiff, Nat.reduceLT]
    refine Rn_bind (m_tick hW hc4 hs4 hK hF hw hws (by omega) (S_at_b hK hF t) (fun h => by subst h; exact ⟨rfl, rfl⟩) hc hl hI) ?_
    rintro _ ⟨I1, rfl, f1, g1, e1⟩
    refine Rn_mono (ih (t + 1) N I1 (by omega) (by omega) (by rw [f1 _ _ (by omega) (by omega), hws]) (hc.fr fun b j h1 h2 => f1 b j (by omega) (by omega)) (hl.fr f1) g1 (fun u hu => ?_)) ?_
    · rw [e1]
      by_cases hut : u = t
      · subst hut; rw [if_pos rfl]; rfl
      · rw [if_neg hut, h71 u (by omega)]
    · rintro _ ⟨I2, rfl, f2, g2⟩
      exact ⟨I2, rfl, f1.t f2, g2⟩
set_option maxHeartbeats 4000000 in
set_option maxRecDepth 100000 in
theorem m_run78 (hW : pu_W s P) {Q : am_H → Prop} {last : Int32} : ∀ (m k N : Nat) (I : Nat → Nat → Int32), k + m = 12 → m < N → (∀ b, b < k → I 70 b = nI 96) →
    (∀ I', (∀ b, b < 12 → I' 70 b = nI 96) → (∀ b j, ¬ b = 70 → I' b j = I b j) → Rn (fX9_run_103 am_fu (some 40) (nI c) (nI sn) last (nI 0) (pu_hp s I' P J n)) Q) →
    Rn (fX9_run_78 N (some 40) (nI c) (nI sn) last (nI k) (pu_hp s I P J n)) Q := by
  intro m
  induction m with
  | zero =>
    intro k N I hk hN hx kk
    obtain ⟨N, rfl⟩ : ∃ N', N = N' + 1 := ⟨N - 1, by omega⟩
    show Rn (fX9_run_78_b _ _ _ _ _ _ _) _
    unfold fX9_run_78_b
    simp (disch := first | assumption | with_unfolding_all exact hW.1 _ _ rfl | rfl | exact pu_okI (by first | assumption | with_unfolding_all exact hW.1 _ _ rfl) (by omega) (by omega) | exact pu_oqI (by first | assumption | with_unfolding_all exact hW.1 _ _ rfl) (by omega) (by omega) | omega | decide) only [↓reduceIte, ↓gi_b, ↓pi_b, ↓gr_b, ↓pr_b, ↓al_b, ↓as_b, ↓al_3, ↓as_3, ↓al_12, ↓as_12, ↓rc_b, ↓Option.bind_some, ↓zr0_b, ↓zr1_b, ↓zrb_b, ↓pz0_b, ↓pz1_b, al_b, as_b, rc_b, gi_b, pi_b, gr_b, zr0, zr1, zrb, u_s, u_n, v_s, v_n, ↓isIn_b, ↓within_b, ite_T, ite_F, il_t, il_f, li_t, li_f, it_t, it_f, ti_t, ti_f, ie_t, ie_f, ei_t, ei_f, nn_le_t, nn_le_f, nn_lt_t, nn_lt_f, nn_eq_t, nn_eq_f, nI_1, nI_add, ni_addl, ni_ladd, pk_mul, ni_mull, b2_t, b2_f, b2_0, Option.some.injEq, Prod.mk.injEq, and_true, true_and, Nat.reduceAdd, Nat.reduceMul, Nat.reduceSub, Nat.reduceEqDiff, Nat.reduceLeDiff, Nat.reduceLT, ↓gr40_56 hW, ↓gr40_1 hW, ↓gr40_50 hW, ↓gr40_2 hW, ↓gr40_3 hW]
    exact kk I (fun b hb => hx b (by omega)) (fun _ _ _ => rfl)
  | succ m ih =>
    intro k N I hk hN hx kk
    obtain ⟨N, rfl⟩ : ∃ N', N = N' + 1 := ⟨N - 1, by omega⟩
    show Rn (fX9_run_78_b (fX9_run_78 N) _ _ _ _ _ _) _
    unfold fX9_run_78_b
    simp (disch := first | assumption | with_unfolding_all exact hW.1 _ _ rfl | rfl | exact pu_okI (by first | assumption | with_unfolding_all exact hW.1 _ _ rfl) (by omega) (by omega) | exact pu_oqI (by first | assumption | with_unfolding_all exact hW.1 _ _ rfl) (by omega) (by omega) | omega | decide) only [↓reduceIte, ↓gi_b, ↓pi_b, ↓gr_b, ↓pr_b, ↓al_b, ↓as_b, ↓al_3, ↓as_3, ↓al_12, ↓as_12, ↓rc_b, ↓Option.bind_some, ↓zr0_b, ↓zr1_b, ↓zrb_b, ↓pz0_b, ↓pz1_b, al_b, as_b, rc_b, gi_b, pi_b, gr_b, zr0, zr1, zrb, u_s, u_n, v_s, v_n, ↓isIn_b, ↓within_b, ite_T, ite_F, il_t, il_f, li_t, li_f, it_t, it_f, ti_t, ti_f, ie_t, ie_f, ei_t, ei_f, nn_le_t, nn_le_f, nn_lt_t, nn_lt_f, nn_eq_t, nn_eq_f, nI_1, nI_add, ni_addl, ni_ladd, pk_mul, ni_mull, b2_t, b2_f, b2_0, Option.some.injEq, Prod.mk.injEq, and_true, true_and, Nat.reduceAdd, Nat.reduceMul, Nat.reduceSub, Nat.reduceEqDiff, Nat.reduceLeDiff, Nat.reduceLT, ↓gr40_56 hW, ↓gr40_1 hW, ↓gr40_50 hW, ↓gr40_2 hW, ↓gr40_3 hW]
    refine ih (k + 1) N _ (by omega) (by omega) (fun b hb => ?_) fun I' h1 h2 => kk I' h1 fun b j hb => by rw [h2 b j hb, u_n (by omega)]
    by_cases e : b = k
    · subst e; rw [u_s]; rfl
    · rw [u_n (by omega), hx b (by omega)]
set_option maxHeartbeats 4000000 in
set_option maxRecDepth 100000 in
theorem m_run3 (hW : pu_W s P) (hc4 : c < 4) (hK : S_KB K) {Q : am_H → Prop} {last : Int32} : ∀ (m k N : Nat) (I : Nat → Nat → Int32), k + m = kn K → m < N → M_C I c K → (∀ v, v < k → I 69 v = nI (kA K v * kH K v)) →
    (∀ I', M_F I I' → M_R I' 0 K (S_x0 K) → Rn (fX9_run_103 am_fu (some 40) (nI c) (nI sn) last (nI 0) (pu_hp s I' P J n)) Q) →
    Rn (fX9_run_3 N (some 40) (nI c) (nI sn) last (nI k) (pu_hp s I P J n)) Q := by
  have hkn := hK.1
  intro m
  induction m with
  | zero =>
    intro k N I hk hN hc hx kk
    obtain ⟨N, rfl⟩ : ∃ N', N = N' + 1 := ⟨N - 1, by omega⟩
    show Rn (fX9_run_3_b _ _ _ _ _ _ _) _
    unfold fX9_run_3_b
    simp (disch := first | assumption | with_unfolding_all exact hW.1 _ _ rfl | rfl | exact pu_okI (by first | assumption | with_unfolding_all exact hW.1 _ _ rfl) (by omega) (by omega) | exact pu_oqI (by first | assumption | with_unfolding_all exact hW.1 _ _ rfl) (by omega) (by omega) | omega | decide) only [↓reduceIte, ↓gi_b, ↓pi_b, ↓gr_b, ↓pr_b, ↓al_b, ↓as_b, ↓al_3, ↓as_3, ↓al_12, ↓as_12, ↓rc_b, ↓Option.bind_some, ↓zr0_b, ↓zr1_b, ↓zrb_b, ↓pz0_b, ↓pz1_b, al_b, as_b, rc_b, gi_b, pi_b, gr_b, zr0, zr1, zrb, u_s, u_n, v_s, v_n, ↓isIn_b, ↓within_b, ite_T, ite_F, il_t, il_f, li_t, li_f, it_t, it_f, ti_t, ti_f, ie_t, ie_f, ei_t, ei_f, nn_le_t, nn_le_f, nn_lt_t, nn_lt_f, nn_eq_t, nn_eq_f, nI_1, nI_add, ni_addl, ni_ladd, pk_mul, ni_mull, b2_t, b2_f, b2_0, Option.some.injEq, Prod.mk.injEq, and_true, true_and, Nat.reduceAdd, Nat.reduceMul, Nat.reduceSub, Nat.reduceEqDiff, Nat.reduceLeDiff, Nat.reduceLT, ↓gr40_56 hW, ↓gr40_1 hW, ↓gr40_50 hW, ↓gr40_2 hW, ↓gr40_3 hW, hc.1]
    refine m_run78 hW 12 0 am_fu _ (by omega) (by unfold am_fu; omega) (fun b hb => by omega) fun I' h1 h2 => kk I' (fun b j q1 q2 => ?_) ?_
    · rw [h2 b j (by omega), u_n (by omega), u_n (by omega), u_n (by omega), u_n (by omega), u_n (by omega)]
    · refine ⟨fun v hv => ?_, ?_, ?_, ?_, ?_, ?_, fun q => absurd q (by omega), fun b hb => h1 b hb⟩
      · rw [h2 _ _ (by omega), u_n (by omega), u_n (by omega), u_n (by omega), u_n (by omega), u_n (by omega), hx v (by omega)]; rfl
      · rw [h2 _ _ (by omega)]; simp (disch := first | assumption | with_unfolding_all exact hW.1 _ _ rfl | rfl | exact pu_okI (by first | assumption | with_unfolding_all exact hW.1 _ _ rfl) (by omega) (by omega) | exact pu_oqI (by first | assumption | with_unfolding_all exact hW.1 _ _ rfl) (by omega) (by omega) | omega | decide) only [↓reduceIte, ↓gi_b, ↓pi_b, ↓gr_b, ↓pr_b, ↓al_b, ↓as_b, ↓al_3, ↓as_3, ↓al_12, ↓as_12, ↓rc_b, ↓Option.bind_some, ↓zr0_b, ↓zr1_b, ↓zrb_b, ↓pz0_b, ↓pz1_b, al_b, as_b, rc_b, gi_b, pi_b, gr_b, zr0, zr1, zrb, u_s, u_n, v_s, v_n, ↓isIn_b, ↓within_b, ite_T, ite_F, il_t, il_f, li_t, li_f, it_t, it_f, ti_t, ti_f, ie_t, ie_f, ei_t, ei_f, nn_le_t, nn_le_f, nn_lt_t, nn_lt_f, nn_eq_t, nn_eq_f, nI_1, nI_add, ni_addl, ni_ladd, pk_mul, ni_mull, b2_t, b2_f, b2_0, Option.some.injEq, Prod.mk.injEq, and_true, true_and, Nat.reduceAdd, Nat.reduceMul, Nat.reduceSub, Nat.reduceEqDiff, Nat.reduceLeDiff, Nat.reduceLT]; rfl
      · rw [h2 _ _ (by omega)]; simp (disch := first | assumption | with_unfolding_all exact hW.1 _ _ rfl | rfl | exact pu_okI (by first | assumption | with_unfolding_all exact hW.1 _ _ rfl) (by omega) (by omega) | exact pu_oqI (by first | assumption | with_unfolding_all exact hW.1 _ _ rfl) (by omega) (by omega) | omega | decide) only [↓reduceIte, ↓gi_b, ↓pi_b, ↓gr_b, ↓pr_b, ↓al_b, ↓as_b, ↓al_3, ↓as_3, ↓al_12, ↓as_12, ↓rc_b, ↓Option.bind_some, ↓zr0_b, ↓zr1_b, ↓zrb_b, ↓pz0_b, ↓pz1_b, al_b, as_b, rc_b, gi_b, pi_b, gr_b, zr0, zr1, zrb, u_s, u_n, v_s, v_n, ↓isIn_b, ↓within_b, ite_T, ite_F, il_t, il_f, li_t, li_f, it_t, it_f, ti_t, ti_f, ie_t, ie_f, ei_t, ei_f, nn_le_t, nn_le_f, nn_lt_t, nn_lt_f, nn_eq_t, nn_eq_f, nI_1, nI_add, ni_addl, ni_ladd, pk_mul, ni_mull, b2_t, b2_f, b2_0, Option.some.injEq, Prod.mk.injEq, and_true, true_and, Nat.reduceAdd, Nat.reduceMul, Nat.reduceSub, Nat.reduceEqDiff, Nat.reduceLeDiff, Nat.reduceLT]; rfl
      · rw [h2 _ _ (by omega)]; simp (disch := first | assumption | with_unfolding_all exact hW.1 _ _ rfl | rfl | exact pu_okI (by first | assumption | with_unfolding_all exact hW.1 _ _ rfl) (by omega) (by omega) | exact pu_oqI (by first | assumption | with_unfolding_all exact hW.1 _ _ rfl) (by omega) (by omega) | omega | decide) only [↓reduceIte, ↓gi_b, ↓pi_b, ↓gr_b, ↓pr_b, ↓al_b, ↓as_b, ↓al_3, ↓as_3, ↓al_12, ↓as_12, ↓rc_b, ↓Option.bind_some, ↓zr0_b, ↓zr1_b, ↓zrb_b, ↓pz0_b, ↓pz1_b, al_b, as_b, rc_b, gi_b, pi_b, gr_b, zr0, zr1, zrb, u_s, u_n, v_s, v_n, ↓isIn_b, ↓within_b, ite_T, ite_F, il_t, il_f, li_t, li_f, it_t, it_f, ti_t, ti_f, ie_t, ie_f, ei_t, ei_f, nn_le_t, nn_le_f, nn_lt_t, nn_lt_f, nn_eq_t, nn_eq_f, nI_1, nI_add, ni_addl, ni_ladd, pk_mul, ni_mull, b2_t, b2_f, b2_0, Option.some.injEq, Prod.mk.injEq, and_true, true_and, Nat.reduceAdd, Nat.reduceMul, Nat.reduceSub, Nat.reduceEqDiff, Nat.reduceLeDiff, Nat.reduceLT]; rfl
      · rw [h2 _ _ (by omega)]; simp (disch := first | assumption | with_unfolding_all exact hW.1 _ _ rfl | rfl | exact pu_okI (by first | assumption | with_unfolding_all exact hW.1 _ _ rfl) (by omega) (by omega) | exact pu_oqI (by first | assumption | with_unfolding_all exact hW.1 _ _ rfl) (by omega) (by omega) | omega | decide) only [↓reduceIte, ↓gi_b, ↓pi_b, ↓gr_b, ↓pr_b, ↓al_b, ↓as_b, ↓al_3, ↓as_3, ↓al_12, ↓as_12, ↓rc_b, ↓Option.bind_some, ↓zr0_b, ↓zr1_b, ↓zrb_b, ↓pz0_b, ↓pz1_b, al_b, as_b, rc_b, gi_b, pi_b, gr_b, zr0, zr1, zrb, u_s, u_n, v_s, v_n, ↓isIn_b, ↓within_b, ite_T, ite_F, il_t, il_f, li_t, li_f, it_t, it_f, ti_t, ti_f, ie_t, ie_f, ei_t, ei_f, nn_le_t, nn_le_f, nn_lt_t, nn_lt_f, nn_eq_t, nn_eq_f, nI_1, nI_add, ni_addl, ni_ladd, pk_mul, ni_mull, b2_t, b2_f, b2_0, Option.some.injEq, Prod.mk.injEq, and_true, true_and, Nat.reduceAdd, Nat.reduceMul, Nat.reduceSub, Nat.reduceEqDiff, Nat.reduceLeDiff, Nat.reduceLT]; rfl
      · rw [h2 _ _ (by omega)]; simp (disch := first | assumption | with_unfolding_all exact hW.1 _ _ rfl | rfl | exact pu_okI (by first | assumption | with_unfolding_all exact hW.1 _ _ rfl) (by omega) (by omega) | exact pu_oqI (by first | assumption | with_unfolding_all exact hW.1 _ _ rfl) (by omega) (by omega) | omega | decide) only [↓reduceIte, ↓gi_b, ↓pi_b, ↓gr_b, ↓pr_b, ↓al_b, ↓as_b, ↓al_3, ↓as_3, ↓al_12, ↓as_12, ↓rc_b, ↓Option.bind_some, ↓zr0_b, ↓zr1_b, ↓zrb_b, ↓pz0_b, ↓pz1_b, al_b, as_b, rc_b, gi_b, pi_b, gr_b, zr0, zr1, zrb, u_s, u_n, v_s, v_n, ↓isIn_b, ↓within_b, ite_T, ite_F, il_t, il_f, li_t, li_f, it_t, it_f, ti_t, ti_f, ie_t, ie_f, ei_t, ei_f, nn_le_t, nn_le_f, nn_lt_t, nn_lt_f, nn_eq_t, nn_eq_f, nI_1, nI_add, ni_addl, ni_ladd, pk_mul, ni_mull, b2_t, b2_f, b2_0, Option.some.injEq, Prod.mk.injEq, and_true, true_and, Nat.reduceAdd, Nat.reduceMul, Nat.reduceSub, Nat.reduceEqDiff, Nat.reduceLeDiff, Nat.reduceLT]; rfl
  | succ m ih =>
    intro k N I hk hN hc hx kk
    obtain ⟨N, rfl⟩ : ∃ N', N = N' + 1 := ⟨N - 1, by omega⟩
    obtain ⟨a1, a2⟩ := hc.2.2.2.2.1 k (by omega)
    show Rn (fX9_run_3_b (fX9_run_3 N) _ _ _ _ _ _) _
    unfold fX9_run_3_b
    simp (disch := first | assumption | with_unfolding_all exact hW.1 _ _ rfl | rfl | exact pu_okI (by first | assumption | with_unfolding_all exact hW.1 _ _ rfl) (by omega) (by omega) | exact pu_oqI (by first | assumption | with_unfolding_all exact hW.1 _ _ rfl) (by omega) (by omega) | omega | decide) only [↓reduceIte, ↓gi_b, ↓pi_b, ↓gr_b, ↓pr_b, ↓al_b, ↓as_b, ↓al_3, ↓as_3, ↓al_12, ↓as_12, ↓rc_b, ↓Option.bind_some, ↓zr0_b, ↓zr1_b, ↓zrb_b, ↓pz0_b, ↓pz1_b, al_b, as_b, rc_b, gi_b, pi_b, gr_b, zr0, zr1, zrb, u_s, u_n, v_s, v_n, ↓isIn_b, ↓within_b, ite_T, ite_F, il_t, il_f, li_t, li_f, it_t, it_f, ti_t, ti_f, ie_t, ie_f, ei_t, ei_f, nn_le_t, nn_le_f, nn_lt_t, nn_lt_f, nn_eq_t, nn_eq_f, nI_1, nI_add, ni_addl, ni_ladd, pk_mul, ni_mull, b2_t, b2_f, b2_0, Option.some.injEq, Prod.mk.injEq, and_true, true_and, Nat.reduceAdd, Nat.reduceMul, Nat.reduceSub, Nat.reduceEqDiff, Nat.reduceLeDiff, Nat.reduceLT, ↓gr40_56 hW, ↓gr40_1 hW, ↓gr40_50 hW, ↓gr40_2 hW, ↓gr40_3 hW, hc.1, a1, a2]
    refine ih (k + 1) N _ (by omega) (by omega) (hc.fr fun b j h1 h2 => by rw [u_n (by omega)]) (fun b hb => ?_) fun I' h1 h2 => kk I' (fun b j q1 q2 => by rw [h1 b j q1 q2, u_n (by omega)]) h2
    by_cases e : b = k
    · subst e; rw [u_s]
    · rw [u_n (by omega), hx b (by omega)]
set_option maxHeartbeats 4000000 in
set_option maxRecDepth 100000 in
theorem m_run (hW : pu_W s P) (hc4 : c < 4) (hs4 : sn < 4) (hK : S_KB K) (hF : S_FB F) (hw : 50 ≤ w ∧ w ≤ 150) {e : Nat} (he : e < 96) (hws : I 50 sn = nI w) (hc : M_C I c K) (hl : M_L I K F sip) :
    Rn (fX9_run 40 (nI c) (nI sn) (nI e) (pu_hp s I P J n)) fun h => ∃ I', h = pu_hp s I' P J n ∧ M_F I I' ∧ M_R I' (e + 1) K (S_at K F w sip (e + 1)) ∧ ∀ u, u < e + 1 → I' 71 u = nI (S_lev K F w sip u) := by
  unfold fX9_run
  rw [show (0 : Int32) = nI 0 from rfl]
  have hkn := hK.1
  refine m_run3 hW hc4 hK (kn K) 0 am_fu I (by omega) (by unfold am_fu; omega) hc (fun v hv => by omega) fun I1 f1 g1 => ?_
  refine Rn_mono (m_run103 hW hc4 hs4 hK hF hw he (e + 1) 0 am_fu I1 (by omega) (by unfold am_fu; omega) (by rw [f1 _ _ (by omega) (by omega), hws]) (hc.fr fun b j h1 h2 => f1 b j (by omega) (by omega)) (hl.fr f1) g1 (fun u hu => by omega)) ?_
  rintro _ ⟨I2, rfl, f2, g2⟩
  exact ⟨I2, rfl, f1.t f2, g2⟩
end MR
