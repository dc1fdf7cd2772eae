/-! the class: a run with works -/
section CP
variable {s : Nat → Option pu_S} {I : Nat → Nat → Int32} {P : Nat → Nat → Option Nat} {J : Nat → Nat → Int64} {n : Nat × Nat}
variable {Z : S_Z} {i j t : Nat} {q : Option Nat} {I0 : Nat → Nat → Int32} {P0 : Nat → Nat → Option Nat}
theorem PF.sf {I I' : Nat → Nat → Int32} {P P' : Nat → Nat → Option Nat} (h : PF I I' P P') : SF I I' P P' := ⟨fun b j hb => h.1 b j (by unfold scC at hb; omega), fun a k ha => h.2 a k (by unfold scP at ha; omega)⟩
theorem InvC.wk (h : InvC s I P n Z) : WkC s I P (znw Z) (zW Z) := fun i hi => by
  obtain ⟨a, a1, a2, a3, a4, a5⟩ := h.2.2.2.2.2.2.2.1 i hi
  exact ⟨a, a1, a2, a4, a5⟩
theorem RunAt.sf (h : RunAt s I P Z i j q t I0 P0) : SF I I0 P P0 := by
  obtain ⟨c, f, h1, h2, h3, -⟩ := h
  exact ⟨fun b j hb => h2 b j (by unfold scC at hb; omega), fun a k ha => h3 a k (by unfold scP at ha; omega)⟩
set_option maxHeartbeats 4000000 in
set_option maxRecDepth 100000 in
theorem c_play21 (hZ : Z_B Z) (hi : i < znc Z) (hj : j < 4) (hq : ∀ k, q = some k → k < znf Z) : ∀ (m t N : Nat) (I : Nat → Nat → Int32) (P : Nat → Nat → Option Nat), t + m = 96 → m < N → InvC s I P n Z → RunQ s I P Z i j q t → PC I P (S_play (zW Z) (th (zT Z)) (dm (zK Z i) (oF Z q) (tw (zT Z) j)) t) →
    Rn (fX8_playRun_21 N (some 1) (oP P (th (zT Z))) (nI t) (pu_hp s I P J n)) fun h => ∃ I' P', h = pu_hp s I' P' J n ∧ SF I I' P P' ∧ RunQ s I' P' Z i j q 96 ∧ PC I' P' (S_play (zW Z) (th (zT Z)) (dm (zK Z i) (oF Z q) (tw (zT Z) j)) 96) := by
  have hK := (hZ.1.2 i hi).1
  have hF := oF_B hZ hq
  have hw := (hZ.2.2.2.1.1 j hj).1
  have hV := hZ.2.2.1.2
  have hnw := hZ.2.2.1.1
  have hh := hZ.2.2.2.1.2.2
  intro m
  induction m with
  | zero =>
    intro t N I P ht hN hI hR hp
    obtain ⟨N, rfl⟩ : ∃ N', N = N' + 1 := ⟨N - 1, by omega⟩
    obtain rfl : t = 96 := by omega
    show Rn (fX8_playRun_21_b _ _ _ _ _) _
    unfold fX8_playRun_21_b
    simp (disch := first | assumption | with_unfolding_all exact hW.1 _ _ rfl | rfl | exact pu_okI (by first | assumption | with_unfolding_all exact hW.1 _ _ rfl) (by omega) (by omega) | exact pu_oqI (by first | assumption | with_unfolding_all exact hW.1 _ _ rfl) (by omega) (by omega) | omega | decide) only [↓reduceIte, ↓gi_b, ↓pi_b, ↓gr_b, ↓pr_b, ↓al_b, ↓as_b, ↓al_3, ↓as_3, ↓al_12, ↓as_12, ↓al_l, ↓as_l, ↓rc_b, ↓Option.bind_some, ↓zr0_b, ↓zr1_b, ↓zrb_b, ↓pz0_b, ↓pz1_b, al_b, as_b, rc_b, gi_b, pi_b, gr_b, zr0, zr1, zrb, u_s, u_n, v_s, v_n, ↓isIn_b, ite_T, ite_F, il_t, il_f, li_t, li_f, it_t, it_f, ti_t, ti_f, ie_t, ie_f, ei_t, ei_f, nn_le_t, nn_le_f, nn_lt_t, nn_lt_f, nn_eq_t, nn_eq_f, nI_1, nI_add, ni_addl, ni_ladd, pk_mul, ni_mull, b2_t, b2_f, b2_0, one0, m1_eq, ni_m1, reduceCtorEq, Bool.false_eq_true, nI_clamp, if_true, Option.some.injEq, Prod.mk.injEq, and_true, true_and, Nat.reduceAdd, Nat.reduceMul, Nat.reduceSub, Nat.reduceEqDiff, Nat.reduceLeDiff, Nat.reduceLT]
    exact Rn_some ⟨I, P, rfl, ⟨fun _ _ _ => rfl, fun _ _ _ => rfl⟩, hR, hp⟩
  | succ m ih =>
    intro t N I P ht hN hI hR hp
    obtain ⟨N, rfl⟩ : ∃ N', N = N' + 1 := ⟨N - 1, by omega⟩
    have hW := hI.1
    obtain ⟨c, f, h4, h5, h6, h7, h8⟩ := id hR
    have hxm := xdr_mono (w := tw (zT Z) j) (t := t) hK hF
    have hx1 := (S_at_b (w := tw (zT Z) j) (sip := true) hK hF (t + 1)).2.2.2.2.2.2.1
    have hnb := hK.2.2.2.2.2.1
    obtain ⟨hB, h1⟩ := S_play_b (w := tw (zT Z) j) hV hnw hh hK hF t (by omega)
    have e10 := h8.2.2.2.2.2.2.2.1
    show Rn (fX8_playRun_21_b (fX8_playRun_21 N) _ _ _ _) _
    unfold fX8_playRun_21_b
    simp (disch := first | assumption | with_unfolding_all exact hW.1 _ _ rfl | rfl | exact pu_okI (by first | assumption | with_unfolding_all exact hW.1 _ _ rfl) (by omega) (by omega) | exact pu_oqI (by first | assumption | with_unfolding_all exact hW.1 _ _ rfl) (by omega) (by omega) | omega | decide) only [↓reduceIte, ↓gi_b, ↓pi_b, ↓gr_b, ↓pr_b, ↓al_b, ↓as_b, ↓al_3, ↓as_3, ↓al_12, ↓as_12, ↓al_l, ↓as_l, ↓rc_b, ↓Option.bind_some, ↓zr0_b, ↓zr1_b, ↓zrb_b, ↓pz0_b, ↓pz1_b, al_b, as_b, rc_b, gi_b, pi_b, gr_b, zr0, zr1, zrb, u_s, u_n, v_s, v_n, ↓isIn_b, ite_T, ite_F, il_t, il_f, li_t, li_f, it_t, it_f, ti_t, ti_f, ie_t, ie_f, ei_t, ei_f, nn_le_t, nn_le_f, nn_lt_t, nn_lt_f, nn_eq_t, nn_eq_f, nI_1, nI_add, ni_addl, ni_ladd, pk_mul, ni_mull, b2_t, b2_f, b2_0, one0, m1_eq, ni_m1, reduceCtorEq, Bool.false_eq_true, nI_clamp, if_true, Option.some.injEq, Prod.mk.injEq, and_true, true_and, Nat.reduceAdd, Nat.reduceMul, Nat.reduceSub, Nat.reduceEqDiff, Nat.reduceLeDiff, Nat.reduceLT, ↓gr1_14 hW, ↓gr1_16 hW, ↓gr1_7 hW, e10]
    refine Rn_bind (r_advance h4 h5 hK hF (by omega) hw h6 h7 (S_at_b hK hF t) h8) ?_
    rintro _ ⟨I1, rfl, f1, g1⟩
    have hsf1 : SF I I1 P P := ⟨fun b j hb => f1 b j (by unfold scC at hb; omega), fun _ _ _ => rfl⟩
    have hI1 := hsf1.inv hI
    have hR1 : RunQ s I1 P Z i j q (t + 1) := ⟨c, f, h4, h5, f1.c h6 h4.2.2.2.2.2.2.2.2.1, f1.f h7 h4.2.2.2.2.2.2.2.2.2, g1⟩
    have e10' : I1 23 10 = nI (xdr (S_at (zK Z i) (oF Z q) (tw (zT Z) j) true (t + 1))) := g1.2.2.2.2.2.2.2.1
    have hp1 : PC I1 P (S_play (zW Z) (th (zT Z)) (dm (zK Z i) (oF Z q) (tw (zT Z) j)) t) := by
      obtain ⟨q1, q2, q3, q4, q5, q6, q7, q8, q9, q10⟩ := hp
      refine ⟨by rw [f1 _ _ (by omega), q1], by rw [f1 _ _ (by omega), q2], by rw [f1 _ _ (by omega), q3], by rw [f1 _ _ (by omega), q4], by rw [f1 _ _ (by omega), q5], by rw [f1 _ _ (by omega), q6], fun w hw => by rw [f1 _ _ (by omega), f1 _ _ (by omega)]; exact q7 w hw, fun d hd => by rw [f1 _ _ (by omega)]; exact q8 d hd, fun k hk => by rw [f1 _ _ (by omega)]; exact q9 k hk, fun k hk => by rw [f1 _ _ (by omega)]; exact q10 k hk⟩
    have edm : nI (xdr (S_at (zK Z i) (oF Z q) (tw (zT Z) j) true (t + 1))) - nI (xdr (S_at (zK Z i) (oF Z q) (tw (zT Z) j) true t)) = nI (dm (zK Z i) (oF Z q) (tw (zT Z) j) t) := ni_sub hxm
    have hdm : dm (zK Z i) (oF Z q) (tw (zT Z) j) t = xdr (S_at (zK Z i) (oF Z q) (tw (zT Z) j) true (t + 1)) - xdr (S_at (zK Z i) (oF Z q) (tw (zT Z) j) true t) := rfl
    simp (disch := first | assumption | with_unfolding_all exact hW.1 _ _ rfl | rfl | exact pu_okI (by first | assumption | with_unfolding_all exact hW.1 _ _ rfl) (by omega) (by omega) | exact pu_oqI (by first | assumption | with_unfolding_all exact hW.1 _ _ rfl) (by omega) (by omega) | omega | decide) only [↓reduceIte, ↓gi_b, ↓pi_b, ↓gr_b, ↓pr_b, ↓al_b, ↓as_b, ↓al_3, ↓as_3, ↓al_12, ↓as_12, ↓al_l, ↓as_l, ↓rc_b, ↓Option.bind_some, ↓zr0_b, ↓zr1_b, ↓zrb_b, ↓pz0_b, ↓pz1_b, al_b, as_b, rc_b, gi_b, pi_b, gr_b, zr0, zr1, zrb, u_s, u_n, v_s, v_n, ↓isIn_b, ite_T, ite_F, il_t, il_f, li_t, li_f, it_t, it_f, ti_t, ti_f, ie_t, ie_f, ei_t, ei_f, nn_le_t, nn_le_f, nn_lt_t, nn_lt_f, nn_eq_t, nn_eq_f, nI_1, nI_add, ni_addl, ni_ladd, pk_mul, ni_mull, b2_t, b2_f, b2_0, one0, m1_eq, ni_m1, reduceCtorEq, Bool.false_eq_true, nI_clamp, if_true, Option.some.injEq, Prod.mk.injEq, and_true, true_and, Nat.reduceAdd, Nat.reduceMul, Nat.reduceSub, Nat.reduceEqDiff, Nat.reduceLeDiff, Nat.reduceLT, ↓gr1_14 hW, ↓gr1_16 hW, ↓gr1_7 hW, e10', edm]
    refine Rn_bind (c_go hV hnw (by omega) hh (by omega) hW hI1.wk hp1 hB h1 (by omega) (by omega)) ?_
    rintro _ ⟨I2, P2, rfl, f2, g2⟩
    have hI2 := f2.sf.inv hI1
    rw [show oP P (th (zT Z)) = oP P2 (th (zT Z)) from (oP_fr f2 _).symm]
    refine Rn_mono (ih (t + 1) N I2 P2 (by omega) (by omega) hI2 (hR1.pf hW f2) g2) ?_
    rintro _ ⟨I3, P3, rfl, f3, g3⟩
    exact ⟨I3, P3, rfl, (hsf1.tr f2.sf).tr f3, g3⟩
set_option maxHeartbeats 4000000 in
set_option maxRecDepth 100000 in
theorem c_playRun (hZ : Z_B Z) (h : InvC s I P n Z) (hi : i < znc Z) (hj : j < 4) (hq : ∀ k, q = some k → k < znf Z) (hR : RunAt s I P Z i j q 0 I0 P0) :
    Rn (fX8_playRun 1 (pu_hp s I0 P0 J n)) fun h => ∃ I' P', h = pu_hp s I' P' J n ∧ SF I I' P P' ∧ RunQ s I' P' Z i j q 96 ∧ PC I' P' (S_play (zW Z) (th (zT Z)) (dm (zK Z i) (oF Z q) (tw (zT Z) j)) 96) := by
  have hI0 := hR.inv h
  have hW := hI0.1
  have hnw := hZ.2.2.1.1
  have hh := hZ.2.2.2.1.2.2
  have e73 : I0 7 3 = oI (th (zT Z)) := hI0.2.2.2.2.2.2.2.2.1.2.2
  have ew : fX8_workOf 1 (oI (th (zT Z))) (pu_hp s I0 P0 J n) = some (oP P0 (th (zT Z)), pu_hp s I0 P0 J n) := by
    rw [q_workOf hZ hI0]
    cases e : th (zT Z) with
    | none => rw [inB_f (Or.inl (by decide))]; rfl
    | some w =>
      have := hh w e
      rw [show oI (some w) = nI w from rfl, inB_t1 this (by omega), if_pos rfl, nI_clamp (by omega)]; rfl
  unfold fX8_playRun
  simp (disch := first | assumption | with_unfolding_all exact hW.1 _ _ rfl | rfl | exact pu_okI (by first | assumption | with_unfolding_all exact hW.1 _ _ rfl) (by omega) (by omega) | exact pu_oqI (by first | assumption | with_unfolding_all exact hW.1 _ _ rfl) (by omega) (by omega) | omega | decide) only [↓reduceIte, ↓gi_b, ↓pi_b, ↓gr_b, ↓pr_b, ↓al_b, ↓as_b, ↓al_3, ↓as_3, ↓al_12, ↓as_12, ↓al_l, ↓as_l, ↓rc_b, ↓Option.bind_some, ↓zr0_b, ↓zr1_b, ↓zrb_b, ↓pz0_b, ↓pz1_b, al_b, as_b, rc_b, gi_b, pi_b, gr_b, zr0, zr1, zrb, u_s, u_n, v_s, v_n, ↓isIn_b, ite_T, ite_F, il_t, il_f, li_t, li_f, it_t, it_f, ti_t, ti_f, ie_t, ie_f, ei_t, ei_f, nn_le_t, nn_le_f, nn_lt_t, nn_lt_f, nn_eq_t, nn_eq_f, nI_1, nI_add, ni_addl, ni_ladd, pk_mul, ni_mull, b2_t, b2_f, b2_0, one0, m1_eq, ni_m1, reduceCtorEq, Bool.false_eq_true, nI_clamp, if_true, Option.some.injEq, Prod.mk.injEq, and_true, true_and, Nat.reduceAdd, Nat.reduceMul, Nat.reduceSub, Nat.reduceEqDiff, Nat.reduceLeDiff, Nat.reduceLT, ↓gr1_14 hW, ↓gr1_16 hW, ↓gr1_7 hW, ↓pi_b, e73, ew]
  unfold fX4_start
  rw [show (0 : Int32) = nI 0 from rfl]
  refine Rn_bind (Q' := fun h => ∃ I1, h = pu_hp s I1 P0 J n ∧ (∀ b j, b < 29 ∨ 35 < b → I1 b j = I0 b j) ∧ PC I1 P0 S_p0) ?_ ?_
  · exact c_pstart hW 10 0 am_fu I0 (by omega) (by unfold am_fu; omega) (fun w hw => by omega) fun I' a1 a2 => Rn_some ⟨I', rfl, a1, a2⟩
  · rintro _ ⟨I1, rfl, a1, a2⟩
    have hpf : PF I0 I1 P0 P0 := ⟨a1, fun _ _ _ => rfl⟩
    refine Rn_mono (c_play21 hZ hi hj hq 96 0 am_fu I1 P0 (by omega) (by unfold am_fu; omega) (hpf.sf.inv hI0) (hR.q.pf hW hpf) a2) ?_
    rintro _ ⟨I2, P2, rfl, f2, g2⟩
    exact ⟨I2, P2, rfl, (hR.sf.tr hpf.sf).tr f2, g2⟩
end CP
