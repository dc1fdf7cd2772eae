/-! calls: drops, error, at, even -/
def dN (X : S_X) (b : Nat) : Nat := if b < xdr X then xD X b else 96
def dI (X : S_X) (b : Nat) : Int32 := if b < xdr X then nI (xD X b) else -1
def tT (K : S_K) (day b : Nat) : Nat := (b + 1) * day / knb K
section C1
variable {s : Nat → Option pu_S} {I : Nat → Nat → Int32} {P : Nat → Nat → Option Nat} {J : Nat → Nat → Int64} {n : Nat × Nat}
variable {Z : S_Z} {i j t : Nat} {q : Option Nat} {I0 : Nat → Nat → Int32} {P0 : Nat → Nat → Option Nat}
theorem RunAt.qc {α : Type} {a : α} (hR : RunAt s I P Z i j q t I0 P0) (h : InvC s I P n Z) : QC s I P J n Z a (a, pu_hp s I0 P0 J n) := by
  obtain ⟨c, f, h1, h2, h3, -⟩ := hR
  exact QC.of h (fun b j hb => h2 b j (by unfold scC at hb; omega)) (fun a k ha => h3 a k (by unfold scP at ha; omega))
theorem RunAt.inv (hR : RunAt s I P Z i j q t I0 P0) (h : InvC s I P n Z) : InvC s I0 P0 n Z := by
  obtain ⟨c, f, h1, h2, h3, -⟩ := hR
  exact h.sc (fun b j hb => h2 b j (by unfold scC at hb; omega)) (fun a k ha => h3 a k (by unfold scP at ha; omega))
theorem RunAt.go (hZ : Z_B Z) (hi : i < znc Z) (hj : j < 4) (hq : ∀ k, q = some k → k < znf Z) (hR : RunAt s I P Z i j q t I0 P0) {e : Nat} (hte : t ≤ e) (he : e ≤ 96) : Rn (fX5_goOnTo 23 (nI e) (pu_hp s I0 P0 J n)) fun h => ∃ I1, h = pu_hp s I1 P0 J n ∧ RunAt s I P Z i j q e I1 P0 := by
  obtain ⟨c, f, h1, h2, h3, h4, h5, h6, h7, h8⟩ := hR
  refine Rn_mono (r_goOn h4 h5 (hZ.1.2 i hi).1 (oF_B hZ hq) (hZ.2.2.2.1.1 j hj).1 he hte h6 h7 h8) ?_
  rintro _ ⟨I1, rfl, f1, g1⟩
  exact ⟨I1, rfl, c, f, h1, h2.t f1, h3, h4, h5, f1.c h6 h4.2.2.2.2.2.2.2.2.1, f1.f h7 h4.2.2.2.2.2.2.2.2.2, g1⟩
theorem RunAt.b (hZ : Z_B Z) (hi : i < znc Z) (hq : ∀ k, q = some k → k < znf Z) (w : Nat) : S_XB (zK Z i) t (S_at (zK Z i) (oF Z q) w true t) := S_at_b (hZ.1.2 i hi).1 (oF_B hZ hq) t
set_option maxHeartbeats 4000000 in
set_option maxRecDepth 100000 in
theorem RunAt.tick (hZ : Z_B Z) (hi : i < znc Z) (hR : RunAt s I P Z i j q t I0 P0) {b : Nat} (hb : b < knb (zK Z i)) : fX5_tickOf 23 (nI b) (pu_hp s I0 P0 J n) = some (dI (S_at (zK Z i) (oF Z q) (tw (zT Z) j) true t) b, pu_hp s I0 P0 J n) := by
  obtain ⟨c, f, h1, h2, h3, h4, h5, h6, h7, h8⟩ := hR
  obtain ⟨r1, r2, r3, r4, r5, r6, r7, r8, r9, r10⟩ := id h4
  have hc1 := h5.1
  have hnb := (hZ.1.2 i hi).1.2.2.2.2.2.1
  have e := h8.2.2.2.2.2.2.2.2.2.2.2 b (by omega)
  unfold fX5_tickOf
  simp (disch := first | assumption | with_unfolding_all exact hW.1 _ _ rfl | rfl | exact pu_okI (by first | assumption | with_unfolding_all exact hW.1 _ _ rfl) (by omega) (by omega) | exact pu_oqI (by first | assumption | with_unfolding_all exact hW.1 _ _ rfl) (by omega) (by omega) | omega | decide) only [↓reduceIte, ↓gi_b, ↓pi_b, ↓gr_b, ↓pr_b, ↓al_b, ↓as_b, ↓al_3, ↓as_3, ↓al_12, ↓as_12, ↓al_l, ↓as_l, ↓rc_b, ↓Option.bind_some, ↓zr0_b, ↓zr1_b, ↓zrb_b, ↓pz0_b, ↓pz1_b, al_b, as_b, rc_b, gi_b, pi_b, gr_b, zr0, zr1, zrb, u_s, u_n, v_s, v_n, ↓isIn_b, ite_T, ite_F, il_t, il_f, li_t, li_f, it_t, it_f, ti_t, ti_f, ie_t, ie_f, ei_t, ei_f, nn_le_t, nn_le_f, nn_lt_t, nn_lt_f, nn_eq_t, nn_eq_f, nI_1, nI_add, ni_addl, ni_ladd, pk_mul, ni_mull, b2_t, b2_f, b2_0, one0, m1_eq, ni_m1, reduceCtorEq, Bool.false_eq_true, nI_clamp, if_true, Option.some.injEq, Prod.mk.injEq, and_true, true_and, Nat.reduceAdd, Nat.reduceMul, Nat.reduceSub, Nat.reduceEqDiff, Nat.reduceLeDiff, Nat.reduceLT, ↓gr_h r1 r6 rfl, ↓gr_h r1 r5 rfl, ↓hasB_b hc1 h6.2.2.2.2.1 hnb.2, decide_eq_true hb, e]
  rfl
theorem dI_m1 {X : S_X} {K : S_K} (h : S_XB K t X) (ht : t ≤ 96) {b : Nat} : (dI X b = -1) = ¬ b < xdr X := by
  unfold dI
  by_cases hb : b < xdr X
  · have := h.2.2.2.2.2.2.2.2.2 b hb
    rw [if_pos hb, ni_m1 (by omega)]
    simp [hb]
  · rw [if_neg hb]; simp [hb]
set_option maxHeartbeats 4000000 in
set_option maxRecDepth 100000 in
theorem RunAt.err (hZ : Z_B Z) (hi : i < znc Z) (hq : ∀ k, q = some k → k < znf Z) (ht : t ≤ 96) (hR : RunAt s I P Z i j q t I0 P0) {b day : Nat} (hb : b < knb (zK Z i)) (hd : day ≤ 72) : fX5_errorOf 23 (nI b) (nI day) (pu_hp s I0 P0 J n) = some (nI (dN (S_at (zK Z i) (oF Z q) (tw (zT Z) j) true t) b) - nI (tT (zK Z i) day b), pu_hp s I0 P0 J n) := by
  have hx := RunAt.b (t := t) hZ hi hq (tw (zT Z) j)
  have et := RunAt.tick (J := J) (n := n) hZ hi hR hb
  obtain ⟨c, f, h1, h2, h3, h4, h5, h6, h7, h8⟩ := hR
  obtain ⟨r1, r2, r3, r4, r5, r6, r7, r8, r9, r10⟩ := id h4
  have hc1 := h5.1
  have hnb := (hZ.1.2 i hi).1.2.2.2.2.2.1
  have e8 := h6.2.2.2.2.1
  have hm : (b + 1) * day ≤ 12 * 72 := Nat.mul_le_mul (by omega) hd
  unfold fX5_errorOf fX5_errorOf_17 fX0_trueTick
  by_cases hdr : b < xdr (S_at (zK Z i) (oF Z q) (tw (zT Z) j) true t)
  · simp (disch := first | assumption | with_unfolding_all exact hW.1 _ _ rfl | rfl | exact pu_okI (by first | assumption | with_unfolding_all exact hW.1 _ _ rfl) (by omega) (by omega) | exact pu_oqI (by first | assumption | with_unfolding_all exact hW.1 _ _ rfl) (by omega) (by omega) | omega | decide) only [↓reduceIte, ↓gi_b, ↓pi_b, ↓gr_b, ↓pr_b, ↓al_b, ↓as_b, ↓al_3, ↓as_3, ↓al_12, ↓as_12, ↓al_l, ↓as_l, ↓rc_b, ↓Option.bind_some, ↓zr0_b, ↓zr1_b, ↓zrb_b, ↓pz0_b, ↓pz1_b, al_b, as_b, rc_b, gi_b, pi_b, gr_b, zr0, zr1, zrb, u_s, u_n, v_s, v_n, ↓isIn_b, ite_T, ite_F, il_t, il_f, li_t, li_f, it_t, it_f, ti_t, ti_f, ie_t, ie_f, ei_t, ei_f, nn_le_t, nn_le_f, nn_lt_t, nn_lt_f, nn_eq_t, nn_eq_f, nI_1, nI_add, ni_addl, ni_ladd, pk_mul, ni_mull, b2_t, b2_f, b2_0, one0, m1_eq, ni_m1, reduceCtorEq, Bool.false_eq_true, nI_clamp, if_true, Option.some.injEq, Prod.mk.injEq, and_true, true_and, Nat.reduceAdd, Nat.reduceMul, Nat.reduceSub, Nat.reduceEqDiff, Nat.reduceLeDiff, Nat.reduceLT, et, dI_m1 hx ht, eq_true hdr, not_true_eq_false, ↓gr_h r1 r6 rfl, e8, ↓quot_b]
    unfold dI dN tT
    rw [if_pos hdr, if_pos hdr]
  · simp (disch := first | assumption | with_unfolding_all exact hW.1 _ _ rfl | rfl | exact pu_okI (by first | assumption | with_unfolding_all exact hW.1 _ _ rfl) (by omega) (by omega) | exact pu_oqI (by first | assumption | with_unfolding_all exact hW.1 _ _ rfl) (by omega) (by omega) | omega | decide) only [↓reduceIte, ↓gi_b, ↓pi_b, ↓gr_b, ↓pr_b, ↓al_b, ↓as_b, ↓al_3, ↓as_3, ↓al_12, ↓as_12, ↓al_l, ↓as_l, ↓rc_b, ↓Option.bind_some, ↓zr0_b, ↓zr1_b, ↓zrb_b, ↓pz0_b, ↓pz1_b, al_b, as_b, rc_b, gi_b, pi_b, gr_b, zr0, zr1, zrb, u_s, u_n, v_s, v_n, ↓isIn_b, ite_T, ite_F, il_t, il_f, li_t, li_f, it_t, it_f, ti_t, ti_f, ie_t, ie_f, ei_t, ei_f, nn_le_t, nn_le_f, nn_lt_t, nn_lt_f, nn_eq_t, nn_eq_f, nI_1, nI_add, ni_addl, ni_ladd, pk_mul, ni_mull, b2_t, b2_f, b2_0, one0, m1_eq, ni_m1, reduceCtorEq, Bool.false_eq_true, nI_clamp, if_true, Option.some.injEq, Prod.mk.injEq, and_true, true_and, Nat.reduceAdd, Nat.reduceMul, Nat.reduceSub, Nat.reduceEqDiff, Nat.reduceLeDiff, Nat.reduceLT, et, dI_m1 hx ht, eq_false hdr, not_false_eq_true, ↓gr_h r1 r6 rfl, e8, ↓quot_b]
    unfold dN tT
    rw [if_neg hdr]
    rfl
end C1
theorem bad_m {Z : S_Z} {v1 v2 v3 : Int32} (h : rnOK Z v1 v2 v3 = false) : b2 (rnOK Z v1 v2 v3) = 0 := by rw [h]; rfl
theorem rnOK_t {Z : S_Z} (hZ : Z_B Z) {i j : Nat} {q : Option Nat} (hi : i < znc Z) (hj : j < 4) (hq : ∀ k, q = some k → k < znf Z) : rnOK Z (nI i) (nI j) (oI q) = true := by
  have h1 := hZ.1.1
  have h2 := hZ.2.1.1
  unfold rnOK
  rw [inB_t1 hi (by omega), inB_4 hj]
  cases q with
  | none => rfl
  | some k => rw [show oI (some k) = nI k from rfl, inB_t1 (hq k rfl) (by omega)]; simp
set_option maxHeartbeats 4000000 in
set_option maxRecDepth 100000 in
theorem c_drops {s : Nat → Option pu_S} {I : Nat → Nat → Int32} {P : Nat → Nat → Option Nat} {J : Nat → Nat → Int64} {n : Nat × Nat} {Z : S_Z} (hZ : Z_B Z) (h : InvC s I P n Z) {i j : Nat} {q : Option Nat} (hi : i < znc Z) (hj : j < 4) (hq : ∀ k, q = some k → k < znf Z) {b : Nat} (hb : b < knb (zK Z i)) : Rn (fX8_drops 1 (nI i) (nI j) (oI q) (nI b) (pu_hp s I P J n)) (QC s I P J n Z (dI (S_at (zK Z i) (oF Z q) (tw (zT Z) j) true 96) b)) := by
  have hnb := (hZ.1.2 i hi).1.2.2.2.2.2.1
  have hW := h.1
  unfold fX8_drops
  simp (disch := first | assumption | with_unfolding_all exact hW.1 _ _ rfl | rfl | exact pu_okI (by first | assumption | with_unfolding_all exact hW.1 _ _ rfl) (by omega) (by omega) | exact pu_oqI (by first | assumption | with_unfolding_all exact hW.1 _ _ rfl) (by omega) (by omega) | omega | decide) only [↓reduceIte, ↓gi_b, ↓pi_b, ↓gr_b, ↓pr_b, ↓al_b, ↓as_b, ↓al_3, ↓as_3, ↓al_12, ↓as_12, ↓al_l, ↓as_l, ↓rc_b, ↓Option.bind_some, ↓zr0_b, ↓zr1_b, ↓zrb_b, ↓pz0_b, ↓pz1_b, al_b, as_b, rc_b, gi_b, pi_b, gr_b, zr0, zr1, zrb, u_s, u_n, v_s, v_n, ↓isIn_b, ite_T, ite_F, il_t, il_f, li_t, li_f, it_t, it_f, ti_t, ti_f, ie_t, ie_f, ei_t, ei_f, nn_le_t, nn_le_f, nn_lt_t, nn_lt_f, nn_eq_t, nn_eq_f, nI_1, nI_add, ni_addl, ni_ladd, pk_mul, ni_mull, b2_t, b2_f, b2_0, one0, m1_eq, ni_m1, reduceCtorEq, Bool.false_eq_true, nI_clamp, if_true, Option.some.injEq, Prod.mk.injEq, and_true, true_and, Nat.reduceAdd, Nat.reduceMul, Nat.reduceSub, Nat.reduceEqDiff, Nat.reduceLeDiff, Nat.reduceLT]
  refine Rn_bind (c_start_t hZ h hi hj hq) ?_
  rintro _ ⟨I1, P1, rfl, hR⟩
  have hW := (hR.inv h).1
  obtain ⟨c, f, h1, h2, h3, h4, h5, h6, h7, h8⟩ := id hR
  have hc1 := h5.1
  simp (disch := first | assumption | with_unfolding_all exact hW.1 _ _ rfl | rfl | exact pu_okI (by first | assumption | with_unfolding_all exact hW.1 _ _ rfl) (by omega) (by omega) | exact pu_oqI (by first | assumption | with_unfolding_all exact hW.1 _ _ rfl) (by omega) (by omega) | omega | decide) only [↓reduceIte, ↓gi_b, ↓pi_b, ↓gr_b, ↓pr_b, ↓al_b, ↓as_b, ↓al_3, ↓as_3, ↓al_12, ↓as_12, ↓al_l, ↓as_l, ↓rc_b, ↓Option.bind_some, ↓zr0_b, ↓zr1_b, ↓zrb_b, ↓pz0_b, ↓pz1_b, al_b, as_b, rc_b, gi_b, pi_b, gr_b, zr0, zr1, zrb, u_s, u_n, v_s, v_n, ↓isIn_b, ite_T, ite_F, il_t, il_f, li_t, li_f, it_t, it_f, ti_t, ti_f, ie_t, ie_f, ei_t, ei_f, nn_le_t, nn_le_f, nn_lt_t, nn_lt_f, nn_eq_t, nn_eq_f, nI_1, nI_add, ni_addl, ni_ladd, pk_mul, ni_mull, b2_t, b2_f, b2_0, one0, m1_eq, ni_m1, reduceCtorEq, Bool.false_eq_true, nI_clamp, if_true, Option.some.injEq, Prod.mk.injEq, and_true, true_and, Nat.reduceAdd, Nat.reduceMul, Nat.reduceSub, Nat.reduceEqDiff, Nat.reduceLeDiff, Nat.reduceLT, ↓gr1_14 hW, ↓gr_h h4.1 h4.2.2.2.2.2.1 rfl, ↓hasB_b hc1 h6.2.2.2.2.1 hnb.2, decide_eq_true hb]
  refine Rn_bind (hR.go (e := 96) hZ hi hj hq (by omega) (by omega)) ?_
  rintro _ ⟨I2, rfl, hR2⟩
  simp (disch := first | assumption | with_unfolding_all exact hW.1 _ _ rfl | rfl | exact pu_okI (by first | assumption | with_unfolding_all exact hW.1 _ _ rfl) (by omega) (by omega) | exact pu_oqI (by first | assumption | with_unfolding_all exact hW.1 _ _ rfl) (by omega) (by omega) | omega | decide) only [↓reduceIte, ↓gi_b, ↓pi_b, ↓gr_b, ↓pr_b, ↓al_b, ↓as_b, ↓al_3, ↓as_3, ↓al_12, ↓as_12, ↓al_l, ↓as_l, ↓rc_b, ↓Option.bind_some, ↓zr0_b, ↓zr1_b, ↓zrb_b, ↓pz0_b, ↓pz1_b, al_b, as_b, rc_b, gi_b, pi_b, gr_b, zr0, zr1, zrb, u_s, u_n, v_s, v_n, ↓isIn_b, ite_T, ite_F, il_t, il_f, li_t, li_f, it_t, it_f, ti_t, ti_f, ie_t, ie_f, ei_t, ei_f, nn_le_t, nn_le_f, nn_lt_t, nn_lt_f, nn_eq_t, nn_eq_f, nI_1, nI_add, ni_addl, ni_ladd, pk_mul, ni_mull, b2_t, b2_f, b2_0, one0, m1_eq, ni_m1, reduceCtorEq, Bool.false_eq_true, nI_clamp, if_true, Option.some.injEq, Prod.mk.injEq, and_true, true_and, Nat.reduceAdd, Nat.reduceMul, Nat.reduceSub, Nat.reduceEqDiff, Nat.reduceLeDiff, Nat.reduceLT, ↓gr1_14 hW, hR2.tick hZ hi hb]
  exact Rn_some (hR2.qc h)
set_option maxHeartbeats 4000000 in
set_option maxRecDepth 100000 in
theorem c_drops_b {s : Nat → Option pu_S} {I : Nat → Nat → Int32} {P : Nat → Nat → Option Nat} {J : Nat → Nat → Int64} {n : Nat × Nat} {Z : S_Z} (hZ : Z_B Z) (h : InvC s I P n Z) {i j : Nat} {q : Option Nat} (hi : i < znc Z) (hj : j < 4) (hq : ∀ k, q = some k → k < znf Z) {v4 : Int32} (hbf : inB v4 0 (nI (knb (zK Z i)) - 1) = false) : Rn (fX8_drops 1 (nI i) (nI j) (oI q) v4 (pu_hp s I P J n)) (QC s I P J n Z (-101)) := by
  have hnb := (hZ.1.2 i hi).1.2.2.2.2.2.1
  have hW := h.1
  unfold fX8_drops
  simp (disch := first | assumption | with_unfolding_all exact hW.1 _ _ rfl | rfl | exact pu_okI (by first | assumption | with_unfolding_all exact hW.1 _ _ rfl) (by omega) (by omega) | exact pu_oqI (by first | assumption | with_unfolding_all exact hW.1 _ _ rfl) (by omega) (by omega) | omega | decide) only [↓reduceIte, ↓gi_b, ↓pi_b, ↓gr_b, ↓pr_b, ↓al_b, ↓as_b, ↓al_3, ↓as_3, ↓al_12, ↓as_12, ↓al_l, ↓as_l, ↓rc_b, ↓Option.bind_some, ↓zr0_b, ↓zr1_b, ↓zrb_b, ↓pz0_b, ↓pz1_b, al_b, as_b, rc_b, gi_b, pi_b, gr_b, zr0, zr1, zrb, u_s, u_n, v_s, v_n, ↓isIn_b, ite_T, ite_F, il_t, il_f, li_t, li_f, it_t, it_f, ti_t, ti_f, ie_t, ie_f, ei_t, ei_f, nn_le_t, nn_le_f, nn_lt_t, nn_lt_f, nn_eq_t, nn_eq_f, nI_1, nI_add, ni_addl, ni_ladd, pk_mul, ni_mull, b2_t, b2_f, b2_0, one0, m1_eq, ni_m1, reduceCtorEq, Bool.false_eq_true, nI_clamp, if_true, Option.some.injEq, Prod.mk.injEq, and_true, true_and, Nat.reduceAdd, Nat.reduceMul, Nat.reduceSub, Nat.reduceEqDiff, Nat.reduceLeDiff, Nat.reduceLT]
  refine Rn_bind (c_start_t hZ h hi hj hq) ?_
  rintro _ ⟨I1, P1, rfl, hR⟩
  have hW := (hR.inv h).1
  obtain ⟨c, f, h1, h2, h3, h4, h5, h6, h7, h8⟩ := id hR
  have hc1 := h5.1
  simp (disch := first | assumption | with_unfolding_all exact hW.1 _ _ rfl | rfl | exact pu_okI (by first | assumption | with_unfolding_all exact hW.1 _ _ rfl) (by omega) (by omega) | exact pu_oqI (by first | assumption | with_unfolding_all exact hW.1 _ _ rfl) (by omega) (by omega) | omega | decide) only [↓reduceIte, ↓gi_b, ↓pi_b, ↓gr_b, ↓pr_b, ↓al_b, ↓as_b, ↓al_3, ↓as_3, ↓al_12, ↓as_12, ↓al_l, ↓as_l, ↓rc_b, ↓Option.bind_some, ↓zr0_b, ↓zr1_b, ↓zrb_b, ↓pz0_b, ↓pz1_b, al_b, as_b, rc_b, gi_b, pi_b, gr_b, zr0, zr1, zrb, u_s, u_n, v_s, v_n, ↓isIn_b, ite_T, ite_F, il_t, il_f, li_t, li_f, it_t, it_f, ti_t, ti_f, ie_t, ie_f, ei_t, ei_f, nn_le_t, nn_le_f, nn_lt_t, nn_lt_f, nn_eq_t, nn_eq_f, nI_1, nI_add, ni_addl, ni_ladd, pk_mul, ni_mull, b2_t, b2_f, b2_0, one0, m1_eq, ni_m1, reduceCtorEq, Bool.false_eq_true, nI_clamp, if_true, Option.some.injEq, Prod.mk.injEq, and_true, true_and, Nat.reduceAdd, Nat.reduceMul, Nat.reduceSub, Nat.reduceEqDiff, Nat.reduceLeDiff, Nat.reduceLT, ↓gr1_14 hW, ↓gr_h h4.1 h4.2.2.2.2.2.1 rfl, hasB_g hc1 h6.2.2.2.2.1 hnb.2, hbf]
  exact Rn_some (hR.qc h)
set_option maxHeartbeats 4000000 in
set_option maxRecDepth 100000 in
theorem c_drops_f {s : Nat → Option pu_S} {I : Nat → Nat → Int32} {P : Nat → Nat → Option Nat} {J : Nat → Nat → Int64} {n : Nat × Nat} {Z : S_Z} (hZ : Z_B Z) (h : InvC s I P n Z) {v1 v2 v3 v4 : Int32} (bad : rnOK Z v1 v2 v3 = false) : Rn (fX8_drops 1 v1 v2 v3 v4 (pu_hp s I P J n)) (QC s I P J n Z (-101)) := by
  have hW := h.1
  unfold fX8_drops
  simp (disch := first | assumption | with_unfolding_all exact hW.1 _ _ rfl | rfl | exact pu_okI (by first | assumption | with_unfolding_all exact hW.1 _ _ rfl) (by omega) (by omega) | exact pu_oqI (by first | assumption | with_unfolding_all exact hW.1 _ _ rfl) (by omega) (by omega) | omega | decide) only [↓reduceIte, ↓gi_b, ↓pi_b, ↓gr_b, ↓pr_b, ↓al_b, ↓as_b, ↓al_3, ↓as_3, ↓al_12, ↓as_12, ↓al_l, ↓as_l, ↓rc_b, ↓Option.bind_some, ↓zr0_b, ↓zr1_b, ↓zrb_b, ↓pz0_b, ↓pz1_b, al_b, as_b, rc_b, gi_b, pi_b, gr_b, zr0, zr1, zrb, u_s, u_n, v_s, v_n, ↓isIn_b, ite_T, ite_F, il_t, il_f, li_t, li_f, it_t, it_f, ti_t, ti_f, ie_t, ie_f, ei_t, ei_f, nn_le_t, nn_le_f, nn_lt_t, nn_lt_f, nn_eq_t, nn_eq_f, nI_1, nI_add, ni_addl, ni_ladd, pk_mul, ni_mull, b2_t, b2_f, b2_0, one0, m1_eq, ni_m1, reduceCtorEq, Bool.false_eq_true, nI_clamp, if_true, Option.some.injEq, Prod.mk.injEq, and_true, true_and, Nat.reduceAdd, Nat.reduceMul, Nat.reduceSub, Nat.reduceEqDiff, Nat.reduceLeDiff, Nat.reduceLT, c_start_f hZ h bad]
  exact Rn_some (QC.id h)
