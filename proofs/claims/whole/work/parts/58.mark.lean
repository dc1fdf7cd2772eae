/-! the call mark -/
section MK
variable {K : S_K} {F : S_F} {w t : Nat} {sip : Bool} {X : S_X}
theorem xpo_si : xpo (S_si K sip X) = xpo X := by unfold S_si; split <;> rfl
theorem xW_si : xW (S_si K sip X) = xW X := by unfold S_si; split <;> rfl
theorem xov_si : xov (S_si K sip X) = xov X := by unfold S_si; split <;> rfl
theorem xcy_sif : xcy (S_si K false X) = xcy X := by unfold S_si; rw [if_neg (fun q => by cases q.1)]
theorem xpo_lk : xpo (S_lk K F t X) = xpo X := by unfold S_lk; split <;> rfl
theorem xov_lk : xov (S_lk K F t X) = xov X := by unfold S_lk; split <;> rfl
theorem xcy_lk : xcy (S_lk K F t X) = xcy X := by unfold S_lk; split <;> rfl
theorem xW_lk {X' : S_X} (h : xW X = xW X') : xW (S_lk K F t X) = xW (S_lk K F t X') := by
  unfold S_lk
  split
  · show updN (xW X) _ _ = updN (xW X') _ _; rw [h]
  · exact h
theorem xW_tick : xW (S_tick K F w sip t X) = xW (S_lk K F t (S_drip K t X (S_fl K F w t X))) := xW_si
theorem xov_tick : xov (S_tick K F w sip t X) = (S_fl K F w t X).2.2 := by
  refine Eq.trans xov_si ?_
  show xov (S_lk K F t (S_drip K t X (S_fl K F w t X))) = _
  rw [xov_lk]; rfl
theorem xpo_tick : xpo (S_tick K F w sip t X) = xpo X + (S_fl K F w t X).1 := by
  refine Eq.trans xpo_si ?_
  show xpo (S_lk K F t (S_drip K t X (S_fl K F w t X))) = _
  rw [xpo_lk]; rfl
theorem xcy_tickf : xcy (S_tick K F w false t X) = xcy X + (S_fl K F w t X).1 := by
  refine Eq.trans xcy_sif ?_
  show xcy (S_lk K F t (S_drip K t X (S_fl K F w t X))) = _
  rw [xcy_lk]; rfl
theorem fl_eq {X' : S_X} (h : xW X = xW X') (h2 : xov X = xov X') : S_fl K F w t X = S_fl K F w t X' := by unfold S_fl; rw [h, h2]
/-- what has been poured does not hang on the siphon -/
theorem at_sip : ∀ t, xW (S_at K F w false t) = xW (S_at K F w true t) ∧ xov (S_at K F w false t) = xov (S_at K F w true t) ∧ xpo (S_at K F w false t) = xpo (S_at K F w true t) ∧ xcy (S_at K F w false t) = xpo (S_at K F w true t)
  | 0 => ⟨rfl, rfl, rfl, rfl⟩
  | t + 1 => by
    obtain ⟨h1, h2, h3, h4⟩ := at_sip t
    have e := fl_eq (K := K) (F := F) (w := w) (t := t) h1 h2
    refine ⟨?_, ?_, ?_, ?_⟩
    · show xW (S_tick K F w false t _) = xW (S_tick K F w true t _)
      rw [xW_tick, xW_tick, e]; exact xW_lk rfl
    · show xov (S_tick K F w false t _) = xov (S_tick K F w true t _)
      rw [xov_tick, xov_tick, e]
    · show xpo (S_tick K F w false t _) = xpo (S_tick K F w true t _)
      rw [xpo_tick, xpo_tick, e, h3]
    · show xcy (S_tick K F w false t _) = xpo (S_tick K F w true t _)
      rw [xcy_tickf, xpo_tick, e, h4]
def lw (K : S_K) (w t : Nat) : Nat := xpo (S_at K (0, 0, 0, 0) w true t) / kca K
theorem lev_lw : S_lev K (0, 0, 0, 0) w false t = lw K w (t + 1) := by
  unfold S_lev lw
  obtain ⟨h1, h2, h3, h4⟩ := at_sip (K := K) (F := (0, 0, 0, 0)) (w := w) t
  rw [h4, fl_eq h1 h2]
  show _ = xpo (S_tick K _ w true t _) / _
  rw [xpo_tick]
theorem lw_le (hK : S_KB K) (ht : t ≤ 96) : lw K w t ≤ 172800 := by
  have := (S_at_b (w := w) (sip := true) (F := (0, 0, 0, 0)) hK ⟨Nat.zero_le _, Nat.zero_le _, Nat.zero_le _, Nat.zero_le _⟩ t).2.2.1
  exact Nat.le_trans (Nat.div_le_self _ _) (by omega)
theorem lw_0 : lw K w 0 = 0 := Nat.zero_div _
end MK
theorem rn_bad1 {Z : S_Z} {v1 v2 : Int32} (h : rnOK Z v1 v2 (-1) = false) : inB v1 0 (nI (znc Z) - 1) = false ∨ inB v2 0 3 = false := by
  unfold rnOK at h
  cases h1 : inB v1 0 (nI (znc Z) - 1) with
  | false => exact Or.inl rfl
  | true =>
    cases h2 : inB v2 0 3 with
    | false => exact Or.inr rfl
    | true => rw [h1, h2] at h; exact absurd h (by simp)
def mkA (K : S_K) (w t : Nat) : Int32 := if lw K w t < lw K w (t + 1) ∧ lw K w t < 99 then nI (lw K w t + 1) else -1
section MK2
variable {s : Nat → Option pu_S} {I : Nat → Nat → Int32} {P : Nat → Nat → Option Nat} {J : Nat → Nat → Int64} {n : Nat × Nat}
variable {Z : S_Z} {i j t : Nat} {q : Option Nat} {I0 : Nat → Nat → Int32} {P0 : Nat → Nat → Option Nat}
set_option maxHeartbeats 4000000 in
set_option maxRecDepth 100000 in
theorem RunAt.lws (hZ : Z_B Z) (hi : i < znc Z) (ht : t ≤ 96) (hR : RunAt s I P Z i j none t I0 P0) : fX5_levelWithoutSiphon 23 (pu_hp s I0 P0 J n) = some (nI (lw (zK Z i) (tw (zT Z) j) t), pu_hp s I0 P0 J n) := by
  have hx := (RunAt.b (q := none) (t := t) hZ hi (fun k hk => by cases hk) (tw (zT Z) j)).2.2.1
  obtain ⟨c, f, h1, h2, h3, h4, h5, h6, h7, h8⟩ := hR
  obtain ⟨r1, r2, r3, r4, r5, r6, r7, r8, r9, r10⟩ := id h4
  have hc1 := h5.1
  have hca := (hZ.1.2 i hi).1.2.2.1
  have e6 := h8.2.2.2.1
  have e5 := h6.2.1
  unfold fX5_levelWithoutSiphon
  simp (disch := first | assumption | with_unfolding_all exact hW.1 _ _ rfl | rfl | exact pu_okI (by first | assumption | with_unfolding_all exact hW.1 _ _ rfl) (by omega) (by omega) | exact pu_oqI (by first | assumption | with_unfolding_all exact hW.1 _ _ rfl) (by omega) (by omega) | omega | decide) only [↓reduceIte, ↓gi_b, ↓pi_b, ↓gr_b, ↓pr_b, ↓al_b, ↓as_b, ↓al_3, ↓as_3, ↓al_12, ↓as_12, ↓al_l, ↓as_l, ↓rc_b, ↓Option.bind_some, ↓zr0_b, ↓zr1_b, ↓zrb_b, ↓pz0_b, ↓pz1_b, al_b, as_b, rc_b, gi_b, pi_b, gr_b, zr0, zr1, zrb, u_s, u_n, v_s, v_n, ↓isIn_b, ↓within_b, ite_T, ite_F, il_t, il_f, li_t, li_f, it_t, it_f, ti_t, ti_f, ie_t, ie_f, ei_t, ei_f, nn_le_t, nn_le_f, nn_lt_t, nn_lt_f, nn_eq_t, nn_eq_f, nI_1, nI_add, ni_addl, ni_ladd, pk_mul, ni_mull, b2_t, b2_f, b2_0, one0, m1_eq, ni_m1, reduceCtorEq, Bool.false_eq_true, nI_clamp, if_true, Option.some.injEq, Prod.mk.injEq, and_true, true_and, Nat.reduceAdd, Nat.reduceMul, Nat.reduceSub, Nat.reduceEqDiff, Nat.reduceLeDiff, Nat.reduceLT, e6, ↓gr_h r1 r6 rfl, e5, ↓quot_b]
  rfl
end MK2
set_option maxHeartbeats 4000000 in
set_option maxRecDepth 100000 in
theorem d_mark {Z : S_Z} (hZ : Z_B Z) (v1 v2 v3 : Int32) : CallOK Z (fX8_mark 1 v1 v2 v3) (fX9_mark 40 v1 v2 v3) := by
  have hnf := hZ.2.1.1
  have hnc := hZ.1.1
  refine CallOK.q hZ ?_
  rcases rn_dec hZ v1 v2 (-1) with ⟨i, j, q, hi, hj, hq, rfl, rfl, hqm⟩ | bad
  · obtain rfl : q = none := by
      cases q with
      | none => rfl
      | some k =>
        have hk := hq k rfl
        have := nI_pos' (show k < 2147483648 by omega)
        rw [show nI k = -1 from hqm.symm] at this
        exact absurd this (by decide)
    have hK := (hZ.1.2 i hi).1
    have hnb := hK.2.2.2.2.2.1
    have hd := (hZ.2.2.2.1.1 j hj).2.2
    rcases inB_dec v3 (c := knb (zK Z i)) (by omega) with ⟨b, hb, rfl, hbt⟩ | ⟨hbf, -⟩
    · have hT := tT_le hK hb hd
      have hm : (b + 1) * td (zT Z) j ≤ 12 * 72 := Nat.mul_le_mul (by omega) hd
      refine ⟨mkA (zK Z i) (tw (zT Z) j) (tT (zK Z i) (td (zT Z) j) b), fun s I P J n h => ?_, fun s I P J n h => ?_⟩
      · have hW := h.1
        have hst : Rn (fX8_startRun 1 (nI i) (nI j) (-1) (pu_hp s I P J n)) _ := c_start_t (q := none) hZ h hi hj hq
        unfold fX8_mark
        simp (disch := first | assumption | with_unfolding_all exact hW.1 _ _ rfl | rfl | exact pu_okI (by first | assumption | with_unfolding_all exact hW.1 _ _ rfl) (by omega) (by omega) | exact pu_oqI (by first | assumption | with_unfolding_all exact hW.1 _ _ rfl) (by omega) (by omega) | omega | decide) only [↓reduceIte, ↓gi_b, ↓pi_b, ↓gr_b, ↓pr_b, ↓al_b, ↓as_b, ↓al_3, ↓as_3, ↓al_12, ↓as_12, ↓al_l, ↓as_l, ↓rc_b, ↓Option.bind_some, ↓zr0_b, ↓zr1_b, ↓zrb_b, ↓pz0_b, ↓pz1_b, al_b, as_b, rc_b, gi_b, pi_b, gr_b, zr0, zr1, zrb, u_s, u_n, v_s, v_n, ↓isIn_b, ↓within_b, ite_T, ite_F, il_t, il_f, li_t, li_f, it_t, it_f, ti_t, ti_f, ie_t, ie_f, ei_t, ei_f, nn_le_t, nn_le_f, nn_lt_t, nn_lt_f, nn_eq_t, nn_eq_f, nI_1, nI_add, ni_addl, ni_ladd, pk_mul, ni_mull, b2_t, b2_f, b2_0, one0, m1_eq, ni_m1, reduceCtorEq, Bool.false_eq_true, nI_clamp, if_true, Option.some.injEq, Prod.mk.injEq, and_true, true_and, Nat.reduceAdd, Nat.reduceMul, Nat.reduceSub, Nat.reduceEqDiff, Nat.reduceLeDiff, Nat.reduceLT]
        refine Rn_bind hst ?_
        rintro _ ⟨I1, P1, rfl, hR⟩
        have hI1 := hR.inv h
        have hW := hI1.1
        obtain ⟨c, f, h1, h2, h3, h4, h5, h6, h7, h8⟩ := id hR
        have hc1 := h5.1
        have e8 := h6.2.2.2.2.1
        have ett : fX0_trueTick c (nI b) (nI (td (zT Z) j)) (pu_hp s I1 P1 J n) = some (nI (tT (zK Z i) (td (zT Z) j) b), pu_hp s I1 P1 J n) := by
          unfold fX0_trueTick
          simp (disch := first | assumption | with_unfolding_all exact hW.1 _ _ rfl | rfl | exact pu_okI (by first | assumption | with_unfolding_all exact hW.1 _ _ rfl) (by omega) (by omega) | exact pu_oqI (by first | assumption | with_unfolding_all exact hW.1 _ _ rfl) (by omega) (by omega) | omega | decide) only [↓reduceIte, ↓gi_b, ↓pi_b, ↓gr_b, ↓pr_b, ↓al_b, ↓as_b, ↓al_3, ↓as_3, ↓al_12, ↓as_12, ↓al_l, ↓as_l, ↓rc_b, ↓Option.bind_some, ↓zr0_b, ↓zr1_b, ↓zrb_b, ↓pz0_b, ↓pz1_b, al_b, as_b, rc_b, gi_b, pi_b, gr_b, zr0, zr1, zrb, u_s, u_n, v_s, v_n, ↓isIn_b, ↓within_b, ite_T, ite_F, il_t, il_f, li_t, li_f, it_t, it_f, ti_t, ti_f, ie_t, ie_f, ei_t, ei_f, nn_le_t, nn_le_f, nn_lt_t, nn_lt_f, nn_eq_t, nn_eq_f, nI_1, nI_add, ni_addl, ni_ladd, pk_mul, ni_mull, b2_t, b2_f, b2_0, one0, m1_eq, ni_m1, reduceCtorEq, Bool.false_eq_true, nI_clamp, if_true, Option.some.injEq, Prod.mk.injEq, and_true, true_and, Nat.reduceAdd, Nat.reduceMul, Nat.reduceSub, Nat.reduceEqDiff, Nat.reduceLeDiff, Nat.reduceLT, e8, ↓quot_b]
          rfl
        simp (disch := first | assumption | with_unfolding_all exact hW.1 _ _ rfl | rfl | exact pu_okI (by first | assumption | with_unfolding_all exact hW.1 _ _ rfl) (by omega) (by omega) | exact pu_oqI (by first | assumption | with_unfolding_all exact hW.1 _ _ rfl) (by omega) (by omega) | omega | decide) only [↓reduceIte, ↓gi_b, ↓pi_b, ↓gr_b, ↓pr_b, ↓al_b, ↓as_b, ↓al_3, ↓as_3, ↓al_12, ↓as_12, ↓al_l, ↓as_l, ↓rc_b, ↓Option.bind_some, ↓zr0_b, ↓zr1_b, ↓zrb_b, ↓pz0_b, ↓pz1_b, al_b, as_b, rc_b, gi_b, pi_b, gr_b, zr0, zr1, zrb, u_s, u_n, v_s, v_n, ↓isIn_b, ↓within_b, ite_T, ite_F, il_t, il_f, li_t, li_f, it_t, it_f, ti_t, ti_f, ie_t, ie_f, ei_t, ei_f, nn_le_t, nn_le_f, nn_lt_t, nn_lt_f, nn_eq_t, nn_eq_f, nI_1, nI_add, ni_addl, ni_ladd, pk_mul, ni_mull, b2_t, b2_f, b2_0, one0, m1_eq, ni_m1, reduceCtorEq, Bool.false_eq_true, nI_clamp, if_true, Option.some.injEq, Prod.mk.injEq, and_true, true_and, Nat.reduceAdd, Nat.reduceMul, Nat.reduceSub, Nat.reduceEqDiff, Nat.reduceLeDiff, Nat.reduceLT, ↓gr1_14 hW, ↓gr_h h4.1 h4.2.2.2.2.2.1 rfl, ↓hasB_b hc1 h6.2.2.2.2.1 hnb.2, decide_eq_true hb, q_dayOf hI1 hj, ett]
        refine Rn_bind (hR.go (e := tT (zK Z i) (td (zT Z) j) b) hZ hi hj hq (by omega) (by omega)) ?_
        rintro _ ⟨I2, rfl, hR2⟩
        have hW := (hR2.inv h).1
        have el2 := RunAt.lws (J := J) (n := n) hZ hi (by omega) hR2
        simp (disch := first | assumption | with_unfolding_all exact hW.1 _ _ rfl | rfl | exact pu_okI (by first | assumption | with_unfolding_all exact hW.1 _ _ rfl) (by omega) (by omega) | exact pu_oqI (by first | assumption | with_unfolding_all exact hW.1 _ _ rfl) (by omega) (by omega) | omega | decide) only [↓reduceIte, ↓gi_b, ↓pi_b, ↓gr_b, ↓pr_b, ↓al_b, ↓as_b, ↓al_3, ↓as_3, ↓al_12, ↓as_12, ↓al_l, ↓as_l, ↓rc_b, ↓Option.bind_some, ↓zr0_b, ↓zr1_b, ↓zrb_b, ↓pz0_b, ↓pz1_b, al_b, as_b, rc_b, gi_b, pi_b, gr_b, zr0, zr1, zrb, u_s, u_n, v_s, v_n, ↓isIn_b, ↓within_b, ite_T, ite_F, il_t, il_f, li_t, li_f, it_t, it_f, ti_t, ti_f, ie_t, ie_f, ei_t, ei_f, nn_le_t, nn_le_f, nn_lt_t, nn_lt_f, nn_eq_t, nn_eq_f, nI_1, nI_add, ni_addl, ni_ladd, pk_mul, ni_mull, b2_t, b2_f, b2_0, one0, m1_eq, ni_m1, reduceCtorEq, Bool.false_eq_true, nI_clamp, if_true, Option.some.injEq, Prod.mk.injEq, and_true, true_and, Nat.reduceAdd, Nat.reduceMul, Nat.reduceSub, Nat.reduceEqDiff, Nat.reduceLeDiff, Nat.reduceLT, ↓gr1_14 hW, el2]
        refine Rn_bind (hR2.go (e := tT (zK Z i) (td (zT Z) j) b + 1) hZ hi hj hq (by omega) (by omega)) ?_
        rintro _ ⟨I3, rfl, hR3⟩
        have hW := (hR3.inv h).1
        have el3 := RunAt.lws (J := J) (n := n) hZ hi (by omega) hR3
        have hl1 := lw_le (w := tw (zT Z) j) (t := tT (zK Z i) (td (zT Z) j) b) hK (by omega)
        have hl2 := lw_le (w := tw (zT Z) j) (t := tT (zK Z i) (td (zT Z) j) b + 1) hK (by omega)
        unfold fX8_mark_91
        have fin : ∀ a, a = mkA (zK Z i) (tw (zT Z) j) (tT (zK Z i) (td (zT Z) j) b) → Rn (some (a, pu_hp s I3 P1 J n)) (QC s I P J n Z (mkA (zK Z i) (tw (zT Z) j) (tT (zK Z i) (td (zT Z) j) b))) := fun a e => by
          subst e; exact Rn_some (hR3.qc h)
        unfold mkA at fin ⊢
        generalize lw (zK Z i) (tw (zT Z) j) (tT (zK Z i) (td (zT Z) j) b) = A at *
        generalize lw (zK Z i) (tw (zT Z) j) (tT (zK Z i) (td (zT Z) j) b + 1) = B at *
        by_cases c1 : B ≤ A
        · simp (disch := first | assumption | with_unfolding_all exact hW.1 _ _ rfl | rfl | exact pu_okI (by first | assumption | with_unfolding_all exact hW.1 _ _ rfl) (by omega) (by omega) | exact pu_oqI (by first | assumption | with_unfolding_all exact hW.1 _ _ rfl) (by omega) (by omega) | omega | decide) only [↓reduceIte, ↓gi_b, ↓pi_b, ↓gr_b, ↓pr_b, ↓al_b, ↓as_b, ↓al_3, ↓as_3, ↓al_12, ↓as_12, ↓al_l, ↓as_l, ↓rc_b, ↓Option.bind_some, ↓zr0_b, ↓zr1_b, ↓zrb_b, ↓pz0_b, ↓pz1_b, al_b, as_b, rc_b, gi_b, pi_b, gr_b, zr0, zr1, zrb, u_s, u_n, v_s, v_n, ↓isIn_b, ↓within_b, ite_T, ite_F, il_t, il_f, li_t, li_f, it_t, it_f, ti_t, ti_f, ie_t, ie_f, ei_t, ei_f, nn_le_t, nn_le_f, nn_lt_t, nn_lt_f, nn_eq_t, nn_eq_f, nI_1, nI_add, ni_addl, ni_ladd, pk_mul, ni_mull, b2_t, b2_f, b2_0, one0, m1_eq, ni_m1, reduceCtorEq, Bool.false_eq_true, nI_clamp, if_true, Option.some.injEq, Prod.mk.injEq, and_true, true_and, Nat.reduceAdd, Nat.reduceMul, Nat.reduceSub, Nat.reduceEqDiff, Nat.reduceLeDiff, Nat.reduceLT, ↓gr1_14 hW, el3]
          exact fin _ (by rw [if_neg (by omega)])
        · by_cases c2 : 99 ≤ A
          · simp (disch := first | assumption | with_unfolding_all exact hW.1 _ _ rfl | rfl | exact pu_okI (by first | assumption | with_unfolding_all exact hW.1 _ _ rfl) (by omega) (by omega) | exact pu_oqI (by first | assumption | with_unfolding_all exact hW.1 _ _ rfl) (by omega) (by omega) | omega | decide) only [↓reduceIte, ↓gi_b, ↓pi_b, ↓gr_b, ↓pr_b, ↓al_b, ↓as_b, ↓al_3, ↓as_3, ↓al_12, ↓as_12, ↓al_l, ↓as_l, ↓rc_b, ↓Option.bind_some, ↓zr0_b, ↓zr1_b, ↓zrb_b, ↓pz0_b, ↓pz1_b, al_b, as_b, rc_b, gi_b, pi_b, gr_b, zr0, zr1, zrb, u_s, u_n, v_s, v_n, ↓isIn_b, ↓within_b, ite_T, ite_F, il_t, il_f, li_t, li_f, it_t, it_f, ti_t, ti_f, ie_t, ie_f, ei_t, ei_f, nn_le_t, nn_le_f, nn_lt_t, nn_lt_f, nn_eq_t, nn_eq_f, nI_1, nI_add, ni_addl, ni_ladd, pk_mul, ni_mull, b2_t, b2_f, b2_0, one0, m1_eq, ni_m1, reduceCtorEq, Bool.false_eq_true, nI_clamp, if_true, Option.some.injEq, Prod.mk.injEq, and_true, true_and, Nat.reduceAdd, Nat.reduceMul, Nat.reduceSub, Nat.reduceEqDiff, Nat.reduceLeDiff, Nat.reduceLT, ↓gr1_14 hW, el3]
            exact fin _ (by rw [if_neg (by omega)])
          · simp (disch := first | assumption | with_unfolding_all exact hW.1 _ _ rfl | rfl | exact pu_okI (by first | assumption | with_unfolding_all exact hW.1 _ _ rfl) (by omega) (by omega) | exact pu_oqI (by first | assumption | with_unfolding_all exact hW.1 _ _ rfl) (by omega) (by omega) | omega | decide) only [↓reduceIte, ↓gi_b, ↓pi_b, ↓gr_b, ↓pr_b, ↓al_b, ↓as_b, ↓al_3, ↓as_3, ↓al_12, ↓as_12, ↓al_l, ↓as_l, ↓rc_b, ↓Option.bind_some, ↓zr0_b, ↓zr1_b, ↓zrb_b, ↓pz0_b, ↓pz1_b, al_b, as_b, rc_b, gi_b, pi_b, gr_b, zr0, zr1, zrb, u_s, u_n, v_s, v_n, ↓isIn_b, ↓within_b, ite_T, ite_F, il_t, il_f, li_t, li_f, it_t, it_f, ti_t, ti_f, ie_t, ie_f, ei_t, ei_f, nn_le_t, nn_le_f, nn_lt_t, nn_lt_f, nn_eq_t, nn_eq_f, nI_1, nI_add, ni_addl, ni_ladd, pk_mul, ni_mull, b2_t, b2_f, b2_0, one0, m1_eq, ni_m1, reduceCtorEq, Bool.false_eq_true, nI_clamp, if_true, Option.some.injEq, Prod.mk.injEq, and_true, true_and, Nat.reduceAdd, Nat.reduceMul, Nat.reduceSub, Nat.reduceEqDiff, Nat.reduceLeDiff, Nat.reduceLT, ↓gr1_14 hW, el3]
            exact fin _ (by rw [if_pos (by omega)])
      · have hW := h.1
        obtain ⟨-, -, -, b4, b5, b6, b7, b8⟩ := id h
        have hld : Rn (fX9_load 40 (nI i) (-1) (pu_hp s I P J n)) _ := m_load (q := none) hZ h hi hq
        have hit : inB (nI i) 0 (nI (znc Z) - 1) = true := inB_t1 hi (by omega)
        have hhp : pu_hp s I P J n = pu_hp s I P J n := rfl
        unfold fX9_mark fX9_mark_83
        simp (disch := first | assumption | with_unfolding_all exact hW.1 _ _ rfl | rfl | exact pu_okI (by first | assumption | with_unfolding_all exact hW.1 _ _ rfl) (by omega) (by omega) | exact pu_oqI (by first | assumption | with_unfolding_all exact hW.1 _ _ rfl) (by omega) (by omega) | omega | decide) only [↓reduceIte, ↓gi_b, ↓pi_b, ↓gr_b, ↓pr_b, ↓al_b, ↓as_b, ↓al_3, ↓as_3, ↓al_12, ↓as_12, ↓al_l, ↓as_l, ↓rc_b, ↓Option.bind_some, ↓zr0_b, ↓zr1_b, ↓zrb_b, ↓pz0_b, ↓pz1_b, al_b, as_b, rc_b, gi_b, pi_b, gr_b, zr0, zr1, zrb, u_s, u_n, v_s, v_n, ↓isIn_b, ↓within_b, ite_T, ite_F, il_t, il_f, li_t, li_f, it_t, it_f, ti_t, ti_f, ie_t, ie_f, ei_t, ei_f, nn_le_t, nn_le_f, nn_lt_t, nn_lt_f, nn_eq_t, nn_eq_f, nI_1, nI_add, ni_addl, ni_ladd, pk_mul, ni_mull, b2_t, b2_f, b2_0, one0, m1_eq, ni_m1, reduceCtorEq, Bool.false_eq_true, nI_clamp, if_true, Option.some.injEq, Prod.mk.injEq, and_true, true_and, Nat.reduceAdd, Nat.reduceMul, Nat.reduceSub, Nat.reduceEqDiff, Nat.reduceLeDiff, Nat.reduceLT, q_isClock h, hit, ↓seasonM_b, inB_4 hj, q_isBall hZ h hi, hbt]
        refine Rn_bind hld ?_
        rintro _ ⟨I1, rfl, f1, g1⟩
        have hM1 := L_F.inv h f1
        have hW := hM1.1
        simp (disch := first | assumption | with_unfolding_all exact hW.1 _ _ rfl | rfl | exact pu_okI (by first | assumption | with_unfolding_all exact hW.1 _ _ rfl) (by omega) (by omega) | exact pu_oqI (by first | assumption | with_unfolding_all exact hW.1 _ _ rfl) (by omega) (by omega) | omega | decide) only [↓reduceIte, ↓gi_b, ↓pi_b, ↓gr_b, ↓pr_b, ↓al_b, ↓as_b, ↓al_3, ↓as_3, ↓al_12, ↓as_12, ↓al_l, ↓as_l, ↓rc_b, ↓Option.bind_some, ↓zr0_b, ↓zr1_b, ↓zrb_b, ↓pz0_b, ↓pz1_b, al_b, as_b, rc_b, gi_b, pi_b, gr_b, zr0, zr1, zrb, u_s, u_n, v_s, v_n, ↓isIn_b, ↓within_b, ite_T, ite_F, il_t, il_f, li_t, li_f, it_t, it_f, ti_t, ti_f, ie_t, ie_f, ei_t, ei_f, nn_le_t, nn_le_f, nn_lt_t, nn_lt_f, nn_eq_t, nn_eq_f, nI_1, nI_add, ni_addl, ni_ladd, pk_mul, ni_mull, b2_t, b2_f, b2_0, one0, m1_eq, ni_m1, reduceCtorEq, Bool.false_eq_true, nI_clamp, if_true, Option.some.injEq, Prod.mk.injEq, and_true, true_and, Nat.reduceAdd, Nat.reduceMul, Nat.reduceSub, Nat.reduceEqDiff, Nat.reduceLeDiff, Nat.reduceLT]
        have hMF : RF I1 (pu_u I1 40 45 0) := fun b j hb => u_n (by unfold scM at hb; omega)
        have hM2 := hMF.inv hM1
        have hl2 : M_L (pu_u I1 40 45 0) (zK Z i) (0, 0, 0, 0) false := by
          obtain ⟨a1, a2, a3, a4, a5, a6, a7⟩ := g1
          exact ⟨fun v hv => by rw [u_n (by omega), a1 v hv], by rw [u_n (by omega), a2], u_s, by rw [u_n (by omega), a4]; rfl, by rw [u_n (by omega), a5]; rfl, by rw [u_n (by omega), a6]; rfl, by rw [u_n (by omega), a7]; rfl⟩
        have hru : Rn (fX9_run 40 (nI i) (nI j) 95 (pu_hp s (pu_u I1 40 45 0) P J n)) _ := m_runI (e := 95) (J := J) (n := n) hZ hM2 hi hj (F := (0, 0, 0, 0)) ⟨Nat.zero_le _, Nat.zero_le _, Nat.zero_le _, Nat.zero_le _⟩ hK (hM2.2.2.2.1 i hi).1 hl2 (by omega)
        refine Rn_bind hru ?_
        rintro _ ⟨I3, rfl, f3, g3, g4⟩
        have f23 : RF (pu_u I1 40 45 0) I3 := fun b j hb => f3 b j (by unfold scM at hb; omega) (by unfold scM at hb; omega)
        have hM3 := f23.inv hM2
        have hW := hM3.1
        have e51 := (hM3.2.2.2.2.2.2.1.1 j hj).2
        have e48 := (hM3.2.2.2.1 i hi).1.2.2.2.1
        have g4' : ∀ u, u < 96 → I3 71 u = nI (lw (zK Z i) (tw (zT Z) j) (u + 1)) := fun u hu => by rw [g4 u hu, lev_lw]
        have hfr : ∀ b j, ¬ scM b j → I3 b j = I b j := fun b j hb => by rw [f23 b j hb, hMF b j hb, f1 b j (by unfold scM at hb; omega) (by unfold scM at hb; omega)]
        have fin : ∀ a, a = mkA (zK Z i) (tw (zT Z) j) (tT (zK Z i) (td (zT Z) j) b) → Rn (some (a, pu_hp s I3 P J n)) (QM s I P n Z (mkA (zK Z i) (tw (zT Z) j) (tT (zK Z i) (td (zT Z) j) b))) := fun a e => by
          subst e; exact Rn_some (QM.of h hfr)
        have ett : (b + 1) * td (zT Z) j / knb (zK Z i) = tT (zK Z i) (td (zT Z) j) b := rfl
        generalize tT (zK Z i) (td (zT Z) j) b = T at hT fin ett ⊢
        have hl1 := lw_le (w := tw (zT Z) j) (t := T) hK (by omega)
        have hl2 := lw_le (w := tw (zT Z) j) (t := T + 1) hK (by omega)
        have eT := g4' T (by omega)
        generalize (QM s I P n Z (mkA (zK Z i) (tw (zT Z) j) T)) = Q at fin ⊢
        unfold mkA at fin
        rcases T with _ | T
        · have q0 : lw (zK Z i) (tw (zT Z) j) 0 = 0 := lw_0
          rw [q0] at fin
          generalize lw (zK Z i) (tw (zT Z) j) (0 + 1) = B at *
          by_cases c1 : B < 1
          · simp (disch := first | assumption | with_unfolding_all exact hW.1 _ _ rfl | rfl | exact pu_okI (by first | assumption | with_unfolding_all exact hW.1 _ _ rfl) (by omega) (by omega) | exact pu_oqI (by first | assumption | with_unfolding_all exact hW.1 _ _ rfl) (by omega) (by omega) | omega | decide) only [↓reduceIte, ↓gi_b, ↓pi_b, ↓gr_b, ↓pr_b, ↓al_b, ↓as_b, ↓al_3, ↓as_3, ↓al_12, ↓as_12, ↓al_l, ↓as_l, ↓rc_b, ↓Option.bind_some, ↓zr0_b, ↓zr1_b, ↓zrb_b, ↓pz0_b, ↓pz1_b, al_b, as_b, rc_b, gi_b, pi_b, gr_b, zr0, zr1, zrb, u_s, u_n, v_s, v_n, ↓isIn_b, ↓within_b, ite_T, ite_F, il_t, il_f, li_t, li_f, it_t, it_f, ti_t, ti_f, ie_t, ie_f, ei_t, ei_f, nn_le_t, nn_le_f, nn_lt_t, nn_lt_f, nn_eq_t, nn_eq_f, nI_1, nI_add, ni_addl, ni_ladd, pk_mul, ni_mull, b2_t, b2_f, b2_0, one0, m1_eq, ni_m1, reduceCtorEq, Bool.false_eq_true, nI_clamp, if_true, Option.some.injEq, Prod.mk.injEq, and_true, true_and, Nat.reduceAdd, Nat.reduceMul, Nat.reduceSub, Nat.reduceEqDiff, Nat.reduceLeDiff, Nat.reduceLT, ↓gr40_59 hW, ↓gr40_11 hW, ↓gr40_8 hW, e51, e48, pk_div, ett, eT, show (0 : Int32) + 1 = nI 1 from rfl]
            exact fin _ (by rw [if_neg (by omega)])
          · simp (disch := first | assumption | with_unfolding_all exact hW.1 _ _ rfl | rfl | exact pu_okI (by first | assumption | with_unfolding_all exact hW.1 _ _ rfl) (by omega) (by omega) | exact pu_oqI (by first | assumption | with_unfolding_all exact hW.1 _ _ rfl) (by omega) (by omega) | omega | decide) only [↓reduceIte, ↓gi_b, ↓pi_b, ↓gr_b, ↓pr_b, ↓al_b, ↓as_b, ↓al_3, ↓as_3, ↓al_12, ↓as_12, ↓al_l, ↓as_l, ↓rc_b, ↓Option.bind_some, ↓zr0_b, ↓zr1_b, ↓zrb_b, ↓pz0_b, ↓pz1_b, al_b, as_b, rc_b, gi_b, pi_b, gr_b, zr0, zr1, zrb, u_s, u_n, v_s, v_n, ↓isIn_b, ↓within_b, ite_T, ite_F, il_t, il_f, li_t, li_f, it_t, it_f, ti_t, ti_f, ie_t, ie_f, ei_t, ei_f, nn_le_t, nn_le_f, nn_lt_t, nn_lt_f, nn_eq_t, nn_eq_f, nI_1, nI_add, ni_addl, ni_ladd, pk_mul, ni_mull, b2_t, b2_f, b2_0, one0, m1_eq, ni_m1, reduceCtorEq, Bool.false_eq_true, nI_clamp, if_true, Option.some.injEq, Prod.mk.injEq, and_true, true_and, Nat.reduceAdd, Nat.reduceMul, Nat.reduceSub, Nat.reduceEqDiff, Nat.reduceLeDiff, Nat.reduceLT, ↓gr40_59 hW, ↓gr40_11 hW, ↓gr40_8 hW, e51, e48, pk_div, ett, eT, show (0 : Int32) + 1 = nI 1 from rfl]
            exact fin _ (by rw [if_pos (by omega)])
        · have eT0 := g4' T (by omega)
          have ep : nI (T + 1) - 1 = nI T := pk_sub (a := T + 1) (b := 1) (by omega)
          generalize lw (zK Z i) (tw (zT Z) j) (T + 1) = A at *
          generalize lw (zK Z i) (tw (zT Z) j) (T + 1 + 1) = B at *
          by_cases c1 : B < A + 1
          · simp (disch := first | assumption | with_unfolding_all exact hW.1 _ _ rfl | rfl | exact pu_okI (by first | assumption | with_unfolding_all exact hW.1 _ _ rfl) (by omega) (by omega) | exact pu_oqI (by first | assumption | with_unfolding_all exact hW.1 _ _ rfl) (by omega) (by omega) | omega | decide) only [↓reduceIte, ↓gi_b, ↓pi_b, ↓gr_b, ↓pr_b, ↓al_b, ↓as_b, ↓al_3, ↓as_3, ↓al_12, ↓as_12, ↓al_l, ↓as_l, ↓rc_b, ↓Option.bind_some, ↓zr0_b, ↓zr1_b, ↓zrb_b, ↓pz0_b, ↓pz1_b, al_b, as_b, rc_b, gi_b, pi_b, gr_b, zr0, zr1, zrb, u_s, u_n, v_s, v_n, ↓isIn_b, ↓within_b, ite_T, ite_F, il_t, il_f, li_t, li_f, it_t, it_f, ti_t, ti_f, ie_t, ie_f, ei_t, ei_f, nn_le_t, nn_le_f, nn_lt_t, nn_lt_f, nn_eq_t, nn_eq_f, nI_1, nI_add, ni_addl, ni_ladd, pk_mul, ni_mull, b2_t, b2_f, b2_0, one0, m1_eq, ni_m1, reduceCtorEq, Bool.false_eq_true, nI_clamp, if_true, Option.some.injEq, Prod.mk.injEq, and_true, true_and, Nat.reduceAdd, Nat.reduceMul, Nat.reduceSub, Nat.reduceEqDiff, Nat.reduceLeDiff, Nat.reduceLT, ↓gr40_59 hW, ↓gr40_11 hW, ↓gr40_8 hW, e51, e48, pk_div, ett, eT, eT0, ep]
            exact fin _ (by rw [if_neg (by omega)])
          · by_cases c2 : 99 < A + 1
            · simp (disch := first | assumption | with_unfolding_all exact hW.1 _ _ rfl | rfl | exact pu_okI (by first | assumption | with_unfolding_all exact hW.1 _ _ rfl) (by omega) (by omega) | exact pu_oqI (by first | assumption | with_unfolding_all exact hW.1 _ _ rfl) (by omega) (by omega) | omega | decide) only [↓reduceIte, ↓gi_b, ↓pi_b, ↓gr_b, ↓pr_b, ↓al_b, ↓as_b, ↓al_3, ↓as_3, ↓al_12, ↓as_12, ↓al_l, ↓as_l, ↓rc_b, ↓Option.bind_some, ↓zr0_b, ↓zr1_b, ↓zrb_b, ↓pz0_b, ↓pz1_b, al_b, as_b, rc_b, gi_b, pi_b, gr_b, zr0, zr1, zrb, u_s, u_n, v_s, v_n, ↓isIn_b, ↓within_b, ite_T, ite_F, il_t, il_f, li_t, li_f, it_t, it_f, ti_t, ti_f, ie_t, ie_f, ei_t, ei_f, nn_le_t, nn_le_f, nn_lt_t, nn_lt_f, nn_eq_t, nn_eq_f, nI_1, nI_add, ni_addl, ni_ladd, pk_mul, ni_mull, b2_t, b2_f, b2_0, one0, m1_eq, ni_m1, reduceCtorEq, Bool.false_eq_true, nI_clamp, if_true, Option.some.injEq, Prod.mk.injEq, and_true, true_and, Nat.reduceAdd, Nat.reduceMul, Nat.reduceSub, Nat.reduceEqDiff, Nat.reduceLeDiff, Nat.reduceLT, ↓gr40_59 hW, ↓gr40_11 hW, ↓gr40_8 hW, e51, e48, pk_div, ett, eT, eT0, ep]
              exact fin _ (by rw [if_neg (by omega)])
            · simp (disch := first | assumption | with_unfolding_all exact hW.1 _ _ rfl | rfl | exact pu_okI (by first | assumption | with_unfolding_all exact hW.1 _ _ rfl) (by omega) (by omega) | exact pu_oqI (by first | assumption | with_unfolding_all exact hW.1 _ _ rfl) (by omega) (by omega) | omega | decide) only [↓reduceIte, ↓gi_b, ↓pi_b, ↓gr_b, ↓pr_b, ↓al_b, ↓as_b, ↓al_3, ↓as_3, ↓al_12, ↓as_12, ↓al_l, ↓as_l, ↓rc_b, ↓Option.bind_some, ↓zr0_b, ↓zr1_b, ↓zrb_b, ↓pz0_b, ↓pz1_b, al_b, as_b, rc_b, gi_b, pi_b, gr_b, zr0, zr1, zrb, u_s, u_n, v_s, v_n, ↓isIn_b, ↓within_b, ite_T, ite_F, il_t, il_f, li_t, li_f, it_t, it_f, ti_t, ti_f, ie_t, ie_f, ei_t, ei_f, nn_le_t, nn_le_f, nn_lt_t, nn_lt_f, nn_eq_t, nn_eq_f, nI_1, nI_add, ni_addl, ni_ladd, pk_mul, ni_mull, b2_t, b2_f, b2_0, one0, m1_eq, ni_m1, reduceCtorEq, Bool.false_eq_true, nI_clamp, if_true, Option.some.injEq, Prod.mk.injEq, and_true, true_and, Nat.reduceAdd, Nat.reduceMul, Nat.reduceSub, Nat.reduceEqDiff, Nat.reduceLeDiff, Nat.reduceLT, ↓gr40_59 hW, ↓gr40_11 hW, ↓gr40_8 hW, e51, e48, pk_div, ett, eT, eT0, ep]
              exact fin _ (by rw [if_pos (by omega)])
    · refine ⟨-101, fun s I P J n h => ?_, fun s I P J n h => ?_⟩
      · have hW := h.1
        have hst : Rn (fX8_startRun 1 (nI i) (nI j) (-1) (pu_hp s I P J n)) _ := c_start_t (q := none) hZ h hi hj hq
        unfold fX8_mark
        simp (disch := first | assumption | with_unfolding_all exact hW.1 _ _ rfl | rfl | exact pu_okI (by first | assumption | with_unfolding_all exact hW.1 _ _ rfl) (by omega) (by omega) | exact pu_oqI (by first | assumption | with_unfolding_all exact hW.1 _ _ rfl) (by omega) (by omega) | omega | decide) only [↓reduceIte, ↓gi_b, ↓pi_b, ↓gr_b, ↓pr_b, ↓al_b, ↓as_b, ↓al_3, ↓as_3, ↓al_12, ↓as_12, ↓al_l, ↓as_l, ↓rc_b, ↓Option.bind_some, ↓zr0_b, ↓zr1_b, ↓zrb_b, ↓pz0_b, ↓pz1_b, al_b, as_b, rc_b, gi_b, pi_b, gr_b, zr0, zr1, zrb, u_s, u_n, v_s, v_n, ↓isIn_b, ↓within_b, ite_T, ite_F, il_t, il_f, li_t, li_f, it_t, it_f, ti_t, ti_f, ie_t, ie_f, ei_t, ei_f, nn_le_t, nn_le_f, nn_lt_t, nn_lt_f, nn_eq_t, nn_eq_f, nI_1, nI_add, ni_addl, ni_ladd, pk_mul, ni_mull, b2_t, b2_f, b2_0, one0, m1_eq, ni_m1, reduceCtorEq, Bool.false_eq_true, nI_clamp, if_true, Option.some.injEq, Prod.mk.injEq, and_true, true_and, Nat.reduceAdd, Nat.reduceMul, Nat.reduceSub, Nat.reduceEqDiff, Nat.reduceLeDiff, Nat.reduceLT]
        refine Rn_bind hst ?_
        rintro _ ⟨I1, P1, rfl, hR⟩
        have hW := (hR.inv h).1
        obtain ⟨c, f, h1, h2, h3, h4, h5, h6, h7, h8⟩ := id hR
        have hc1 := h5.1
        simp (disch := first | assumption | with_unfolding_all exact hW.1 _ _ rfl | rfl | exact pu_okI (by first | assumption | with_unfolding_all exact hW.1 _ _ rfl) (by omega) (by omega) | exact pu_oqI (by first | assumption | with_unfolding_all exact hW.1 _ _ rfl) (by omega) (by omega) | omega | decide) only [↓reduceIte, ↓gi_b, ↓pi_b, ↓gr_b, ↓pr_b, ↓al_b, ↓as_b, ↓al_3, ↓as_3, ↓al_12, ↓as_12, ↓al_l, ↓as_l, ↓rc_b, ↓Option.bind_some, ↓zr0_b, ↓zr1_b, ↓zrb_b, ↓pz0_b, ↓pz1_b, al_b, as_b, rc_b, gi_b, pi_b, gr_b, zr0, zr1, zrb, u_s, u_n, v_s, v_n, ↓isIn_b, ↓within_b, ite_T, ite_F, il_t, il_f, li_t, li_f, it_t, it_f, ti_t, ti_f, ie_t, ie_f, ei_t, ei_f, nn_le_t, nn_le_f, nn_lt_t, nn_lt_f, nn_eq_t, nn_eq_f, nI_1, nI_add, ni_addl, ni_ladd, pk_mul, ni_mull, b2_t, b2_f, b2_0, one0, m1_eq, ni_m1, reduceCtorEq, Bool.false_eq_true, nI_clamp, if_true, Option.some.injEq, Prod.mk.injEq, and_true, true_and, Nat.reduceAdd, Nat.reduceMul, Nat.reduceSub, Nat.reduceEqDiff, Nat.reduceLeDiff, Nat.reduceLT, ↓gr1_14 hW, ↓gr_h h4.1 h4.2.2.2.2.2.1 rfl, hasB_g hc1 h6.2.2.2.2.1 hnb.2, hbf]
        exact Rn_some (hR.qc h)
      · have hW := h.1
        have hit : inB (nI i) 0 (nI (znc Z) - 1) = true := inB_t1 hi (by omega)
        unfold fX9_mark
        simp (disch := first | assumption | with_unfolding_all exact hW.1 _ _ rfl | rfl | exact pu_okI (by first | assumption | with_unfolding_all exact hW.1 _ _ rfl) (by omega) (by omega) | exact pu_oqI (by first | assumption | with_unfolding_all exact hW.1 _ _ rfl) (by omega) (by omega) | omega | decide) only [↓reduceIte, ↓gi_b, ↓pi_b, ↓gr_b, ↓pr_b, ↓al_b, ↓as_b, ↓al_3, ↓as_3, ↓al_12, ↓as_12, ↓al_l, ↓as_l, ↓rc_b, ↓Option.bind_some, ↓zr0_b, ↓zr1_b, ↓zrb_b, ↓pz0_b, ↓pz1_b, al_b, as_b, rc_b, gi_b, pi_b, gr_b, zr0, zr1, zrb, u_s, u_n, v_s, v_n, ↓isIn_b, ↓within_b, ite_T, ite_F, il_t, il_f, li_t, li_f, it_t, it_f, ti_t, ti_f, ie_t, ie_f, ei_t, ei_f, nn_le_t, nn_le_f, nn_lt_t, nn_lt_f, nn_eq_t, nn_eq_f, nI_1, nI_add, ni_addl, ni_ladd, pk_mul, ni_mull, b2_t, b2_f, b2_0, one0, m1_eq, ni_m1, reduceCtorEq, Bool.false_eq_true, nI_clamp, if_true, Option.some.injEq, Prod.mk.injEq, and_true, true_and, Nat.reduceAdd, Nat.reduceMul, Nat.reduceSub, Nat.reduceEqDiff, Nat.reduceLeDiff, Nat.reduceLT, q_isClock h, hit, ↓seasonM_b, inB_4 hj, q_isBall hZ h hi, hbf]
        exact Rn_some (QM.id h)
  · refine ⟨-101, fun s I P J n h => ?_, fun s I P J n h => ?_⟩
    · have hW := h.1
      unfold fX8_mark
      simp (disch := first | assumption | with_unfolding_all exact hW.1 _ _ rfl | rfl | exact pu_okI (by first | assumption | with_unfolding_all exact hW.1 _ _ rfl) (by omega) (by omega) | exact pu_oqI (by first | assumption | with_unfolding_all exact hW.1 _ _ rfl) (by omega) (by omega) | omega | decide) only [↓reduceIte, ↓gi_b, ↓pi_b, ↓gr_b, ↓pr_b, ↓al_b, ↓as_b, ↓al_3, ↓as_3, ↓al_12, ↓as_12, ↓al_l, ↓as_l, ↓rc_b, ↓Option.bind_some, ↓zr0_b, ↓zr1_b, ↓zrb_b, ↓pz0_b, ↓pz1_b, al_b, as_b, rc_b, gi_b, pi_b, gr_b, zr0, zr1, zrb, u_s, u_n, v_s, v_n, ↓isIn_b, ↓within_b, ite_T, ite_F, il_t, il_f, li_t, li_f, it_t, it_f, ti_t, ti_f, ie_t, ie_f, ei_t, ei_f, nn_le_t, nn_le_f, nn_lt_t, nn_lt_f, nn_eq_t, nn_eq_f, nI_1, nI_add, ni_addl, ni_ladd, pk_mul, ni_mull, b2_t, b2_f, b2_0, one0, m1_eq, ni_m1, reduceCtorEq, Bool.false_eq_true, nI_clamp, if_true, Option.some.injEq, Prod.mk.injEq, and_true, true_and, Nat.reduceAdd, Nat.reduceMul, Nat.reduceSub, Nat.reduceEqDiff, Nat.reduceLeDiff, Nat.reduceLT, c_start_f hZ h bad]
      exact Rn_some (QC.id h)
    · have hW := h.1
      unfold fX9_mark
      cases h1 : inB v1 0 (nI (znc Z) - 1) with
      | false =>
        simp (disch := first | assumption | with_unfolding_all exact hW.1 _ _ rfl | rfl | exact pu_okI (by first | assumption | with_unfolding_all exact hW.1 _ _ rfl) (by omega) (by omega) | exact pu_oqI (by first | assumption | with_unfolding_all exact hW.1 _ _ rfl) (by omega) (by omega) | omega | decide) only [↓reduceIte, ↓gi_b, ↓pi_b, ↓gr_b, ↓pr_b, ↓al_b, ↓as_b, ↓al_3, ↓as_3, ↓al_12, ↓as_12, ↓al_l, ↓as_l, ↓rc_b, ↓Option.bind_some, ↓zr0_b, ↓zr1_b, ↓zrb_b, ↓pz0_b, ↓pz1_b, al_b, as_b, rc_b, gi_b, pi_b, gr_b, zr0, zr1, zrb, u_s, u_n, v_s, v_n, ↓isIn_b, ↓within_b, ite_T, ite_F, il_t, il_f, li_t, li_f, it_t, it_f, ti_t, ti_f, ie_t, ie_f, ei_t, ei_f, nn_le_t, nn_le_f, nn_lt_t, nn_lt_f, nn_eq_t, nn_eq_f, nI_1, nI_add, ni_addl, ni_ladd, pk_mul, ni_mull, b2_t, b2_f, b2_0, one0, m1_eq, ni_m1, reduceCtorEq, Bool.false_eq_true, nI_clamp, if_true, Option.some.injEq, Prod.mk.injEq, and_true, true_and, Nat.reduceAdd, Nat.reduceMul, Nat.reduceSub, Nat.reduceEqDiff, Nat.reduceLeDiff, Nat.reduceLT, q_isClock h, h1]
        exact Rn_some (QM.id h)
      | true =>
        have h2 : inB v2 0 3 = false := by
          rcases rn_bad1 bad with q | q
          · rw [h1] at q; cases q
          · exact q
        simp (disch := first | assumption | with_unfolding_all exact hW.1 _ _ rfl | rfl | exact pu_okI (by first | assumption | with_unfolding_all exact hW.1 _ _ rfl) (by omega) (by omega) | exact pu_oqI (by first | assumption | with_unfolding_all exact hW.1 _ _ rfl) (by omega) (by omega) | omega | decide) only [↓reduceIte, ↓gi_b, ↓pi_b, ↓gr_b, ↓pr_b, ↓al_b, ↓as_b, ↓al_3, ↓as_3, ↓al_12, ↓as_12, ↓al_l, ↓as_l, ↓rc_b, ↓Option.bind_some, ↓zr0_b, ↓zr1_b, ↓zrb_b, ↓pz0_b, ↓pz1_b, al_b, as_b, rc_b, gi_b, pi_b, gr_b, zr0, zr1, zrb, u_s, u_n, v_s, v_n, ↓isIn_b, ↓within_b, ite_T, ite_F, il_t, il_f, li_t, li_f, it_t, it_f, ti_t, ti_f, ie_t, ie_f, ei_t, ei_f, nn_le_t, nn_le_f, nn_lt_t, nn_lt_f, nn_eq_t, nn_eq_f, nI_1, nI_add, ni_addl, ni_ladd, pk_mul, ni_mull, b2_t, b2_f, b2_0, one0, m1_eq, ni_m1, reduceCtorEq, Bool.false_eq_true, nI_clamp, if_true, Option.some.injEq, Prod.mk.injEq, and_true, true_and, Nat.reduceAdd, Nat.reduceMul, Nat.reduceSub, Nat.reduceEqDiff, Nat.reduceLeDiff, Nat.reduceLT, q_isClock h, h1, ↓seasonM_b, h2]
        exact Rn_some (QM.id h)
