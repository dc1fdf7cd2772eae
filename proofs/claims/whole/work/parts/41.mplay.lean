/-! the reference's works -/
def gd (V : Nat → S_W) (e : Nat × Nat) : Bool := (V e.1).2.2.isSome && decide (e.2 < 96)
/-- how many of the first k cranks the reference keeps -/
def gN (V : Nat → S_W) (E : Nat → Nat × Nat) : Nat → Nat
  | 0 => 0
  | k + 1 => gN V E k + (if gd V (E k) = true then 1 else 0)
theorem gN_le {V : Nat → S_W} {E : Nat → Nat × Nat} : ∀ k, gN V E k ≤ k
  | 0 => Nat.le_refl _
  | k + 1 => by
    have := gN_le (V := V) (E := E) k
    show gN V E k + _ ≤ _
    split <;> omega
theorem gN_mono {V : Nat → S_W} {E : Nat → Nat × Nat} : ∀ {k m}, k ≤ m → gN V E k ≤ gN V E m := by
  intro k m
  induction m with
  | zero => intro h; obtain rfl : k = 0 := by omega
            exact Nat.le_refl _
  | succ m ih =>
    intro h
    by_cases e : k = m + 1
    · subst e; exact Nat.le_refl _
    · have := ih (by omega)
      show _ ≤ gN V E m + _
      omega
theorem gN_lt {V : Nat → S_W} {E : Nat → Nat × Nat} {k m : Nat} (h : k < m) (hg : gd V (E k) = true) : gN V E k < gN V E m := by
  have h1 := gN_mono (V := V) (E := E) (show k + 1 ≤ m by omega)
  have h2 : gN V E (k + 1) = gN V E k + 1 := by show gN V E k + _ = _; rw [if_pos hg]
  omega
theorem gN_up {V : Nat → S_W} {E : Nat → Nat × Nat} {c : Nat} {x : Nat × Nat} : ∀ k, k ≤ c → gN V (upG E c x) k = gN V E k
  | 0, _ => rfl
  | k + 1, h => by
    show gN V (upG E c x) k + _ = gN V E k + _
    rw [gN_up k (by omega), upG_n (by omega)]
def PM (I : Nat → Nat → Int32) (nw : Nat) (V : Nat → S_W) (hd : Option Nat) (p : S_P) : Prop := I 40 60 = nI (ps p) ∧ (¬ hd = none → I 40 61 = nI (pb p)) ∧ I 40 62 = nI (pf p) ∧ I 40 64 = oI ((p1 p).map fun x => x.1) ∧ I 40 65 = oI ((p1 p).map fun x => x.2) ∧ I 40 69 = nI (gN V (pe p) (pc p)) ∧ (∀ w, w < nw → I 73 w = b2 (pk p w) ∧ I 74 w = nI (pt p w)) ∧ (∀ d, d < 4 → I 75 d = nI (pd p d) - 1) ∧ (∀ k, k < pf p → I 72 k = nI (pg p k)) ∧ ∀ k, k < pc p → gd V (pe p k) = true → I 76 (gN V (pe p) k) = nI (pe p k).2 ∧ I 77 (gN V (pe p) k) = oI (V (pe p k).1).2.2
/-- what the reference's works use up -/
def MF (I I' : Nat → Nat → Int32) : Prop := ∀ b j, ¬ (72 ≤ b ∧ b ≤ 77) → ¬ (b = 40 ∧ 60 ≤ j) → I' b j = I b j
theorem MF.tr {I I' I'' : Nat → Nat → Int32} (h : MF I I') (h' : MF I' I'') : MF I I'' := fun b j h1 h2 => by rw [h' b j h1 h2, h b j h1 h2]
theorem MF.inv {s : Nat → Option pu_S} {I I' : Nat → Nat → Int32} {P : Nat → Nat → Option Nat} {Z : S_Z} (h : MF I I') (hM : InvM s I P Z) : InvM s I' P Z := hM.sc hM.1 fun b j _ _ h3 => h b j (by unfold scM at h3; omega) (by unfold scM at h3; omega)
theorem out_lt {d t : Nat} (hd : d < 1000000) (ht : t < 1000000) : (nI d - 1 < nI t) = (d ≤ t) := by
  cases d with
  | zero =>
    rw [eq_iff_iff]
    refine ⟨fun _ => Nat.zero_le _, fun _ => ?_⟩
    have h0 : nI 0 - 1 = (-1 : Int32) := by decide
    rw [h0, Int32.lt_iff_toInt_lt, nI_toInt (by omega)]
    have h1 : (-1 : Int32).toInt = -1 := by decide
    omega
  | succ d =>
    rw [nI_pred, ni_lt (by omega) (by omega)]
    rw [eq_iff_iff]; omega
section MP
variable {s : Nat → Option pu_S} {I : Nat → Nat → Int32} {P : Nat → Nat → Option Nat} {J : Nat → Nat → Int64} {n : Nat × Nat}
variable {Z : S_Z} {w t : Nat} {p : S_P}
set_option maxHeartbeats 4000000 in
set_option maxRecDepth 100000 in
theorem m_st (hZ : Z_B Z) (hM : InvM s I P Z) (hw : w < znw Z) (ht : t ≤ 95) (hh : ¬ th (zT Z) = none) (hp : PM I (znw Z) (zW Z) (th (zT Z)) p) {i B C : Nat} (hB : P_B (zW Z) (znw Z) t i B C p) (hBb : B < 1000000) (hCb : pc p < 120) (h1 : P_1 p) : Rn (fX9_struck 40 (nI w) (nI t) (pu_hp s I P J n)) fun y => ∃ I', y = (oI (if (S_st (zW Z) w t p).2 = true then (zW Z w).2.2 else none), pu_hp s I' P J n) ∧ MF I I' ∧ PM I' (znw Z) (zW Z) (th (zT Z)) (S_st (zW Z) w t p).1 := by
  have hW := hM.1
  obtain ⟨k1, k2, k3⟩ := hZ.2.2.1.2 w hw
  have hnw := hZ.2.2.1.1
  obtain ⟨m1, m2, m3⟩ := hM.2.2.2.2.2.1 w hw
  obtain ⟨g1, g2, g3, g4, g5, g6, g7, g8, g9, g10⟩ := id hp
  obtain ⟨b1, b2', ⟨b3, b3'⟩, b4, b5⟩ := id hB
  obtain ⟨e73, e74⟩ := g7 w hw
  have hgle := gN_le (V := zW Z) (E := pe p) (pc p)
  have hfb : pf p ≤ 200 := by
    have h0 := b3' 0
    have h1 := b3' 1
    have h2 := b3' 2
    have h3 := b3' 3
    unfold S_d4 at b3
    omega
  generalize hV : zW Z = V at *
  unfold fX9_struck
  cases es : pk p w with
  | true =>
    have ek2 := b1 w es
    have est : S_st V w t p = (p, false) := by unfold S_st; rw [if_neg (by omega), if_pos ek2, if_pos es]
    rw [est]
    simp (disch := first | assumption | with_unfolding_all exact hW.1 _ _ rfl | rfl | exact pu_okI (by first | assumption | with_unfolding_all exact hW.1 _ _ rfl) (by omega) (by omega) | exact pu_oqI (by first | assumption | with_unfolding_all exact hW.1 _ _ rfl) (by omega) (by omega) | omega | decide) only [↓reduceIte, ↓gi_b, ↓pi_b, ↓gr_b, ↓pr_b, ↓al_b, ↓as_b, ↓al_3, ↓as_3, ↓al_12, ↓as_12, ↓al_l, ↓as_l, ↓rc_b, ↓Option.bind_some, ↓zr0_b, ↓zr1_b, ↓zrb_b, ↓pz0_b, ↓pz1_b, al_b, as_b, rc_b, gi_b, pi_b, gr_b, zr0, zr1, zrb, u_s, u_n, v_s, v_n, ↓isIn_b, ↓within_b, ite_T, ite_F, il_t, il_f, li_t, li_f, it_t, it_f, ti_t, ti_f, ie_t, ie_f, ei_t, ei_f, nn_le_t, nn_le_f, nn_lt_t, nn_lt_f, nn_eq_t, nn_eq_f, nI_1, nI_add, ni_addl, ni_ladd, pk_mul, ni_mull, b2_t, b2_f, b2_0, one0, m1_eq, ni_m1, reduceCtorEq, Bool.false_eq_true, nI_clamp, if_true, Option.some.injEq, Prod.mk.injEq, and_true, true_and, Nat.reduceAdd, Nat.reduceMul, Nat.reduceSub, Nat.reduceEqDiff, Nat.reduceLeDiff, Nat.reduceLT, ↓gr40_19 hW, ↓gr40_20 hW, ↓gr40_66 hW, ↓gr40_18 hW, ↓gr40_68 hW, ↓gr40_63 hW, ↓gr40_70 hW, ↓gr40_71 hW, ↓gr40_67 hW, m2, m3, e73, es]
    exact Rn_some ⟨I, rfl, fun _ _ _ _ => rfl, hp⟩
  | false =>
    unfold S_st
    by_cases e1 : (V w).1 = 1
    · rw [if_pos e1]
      simp (disch := first | assumption | with_unfolding_all exact hW.1 _ _ rfl | rfl | exact pu_okI (by first | assumption | with_unfolding_all exact hW.1 _ _ rfl) (by omega) (by omega) | exact pu_oqI (by first | assumption | with_unfolding_all exact hW.1 _ _ rfl) (by omega) (by omega) | omega | decide) only [↓reduceIte, ↓gi_b, ↓pi_b, ↓gr_b, ↓pr_b, ↓al_b, ↓as_b, ↓al_3, ↓as_3, ↓al_12, ↓as_12, ↓al_l, ↓as_l, ↓rc_b, ↓Option.bind_some, ↓zr0_b, ↓zr1_b, ↓zrb_b, ↓pz0_b, ↓pz1_b, al_b, as_b, rc_b, gi_b, pi_b, gr_b, zr0, zr1, zrb, u_s, u_n, v_s, v_n, ↓isIn_b, ↓within_b, ite_T, ite_F, il_t, il_f, li_t, li_f, it_t, it_f, ti_t, ti_f, ie_t, ie_f, ei_t, ei_f, nn_le_t, nn_le_f, nn_lt_t, nn_lt_f, nn_eq_t, nn_eq_f, nI_1, nI_add, ni_addl, ni_ladd, pk_mul, ni_mull, b2_t, b2_f, b2_0, one0, m1_eq, ni_m1, reduceCtorEq, Bool.false_eq_true, nI_clamp, if_true, Option.some.injEq, Prod.mk.injEq, and_true, true_and, Nat.reduceAdd, Nat.reduceMul, Nat.reduceSub, Nat.reduceEqDiff, Nat.reduceLeDiff, Nat.reduceLT, ↓gr40_19 hW, ↓gr40_20 hW, ↓gr40_66 hW, ↓gr40_18 hW, ↓gr40_68 hW, ↓gr40_63 hW, ↓gr40_70 hW, ↓gr40_71 hW, ↓gr40_67 hW, m1, m2, m3, e73, es, e1, g1, g2 hh]
      refine Rn_some ⟨_, rfl, fun b j h1 h2 => by rw [u_n (by omega)], ?_⟩
      refine ⟨u_s, fun q => ?_, ?_, ?_, ?_, ?_, fun x hx => ?_, fun d hd => ?_, fun k hk => ?_, fun k hk hg => ?_⟩
      · rw [u_n (by omega)]; exact g2 q
      · simp (disch := first | assumption | with_unfolding_all exact hW.1 _ _ rfl | rfl | exact pu_okI (by first | assumption | with_unfolding_all exact hW.1 _ _ rfl) (by omega) (by omega) | exact pu_oqI (by first | assumption | with_unfolding_all exact hW.1 _ _ rfl) (by omega) (by omega) | omega | decide) only [↓reduceIte, ↓gi_b, ↓pi_b, ↓gr_b, ↓pr_b, ↓al_b, ↓as_b, ↓al_3, ↓as_3, ↓al_12, ↓as_12, ↓al_l, ↓as_l, ↓rc_b, ↓Option.bind_some, ↓zr0_b, ↓zr1_b, ↓zrb_b, ↓pz0_b, ↓pz1_b, al_b, as_b, rc_b, gi_b, pi_b, gr_b, zr0, zr1, zrb, u_s, u_n, v_s, v_n, ↓isIn_b, ↓within_b, ite_T, ite_F, il_t, il_f, li_t, li_f, it_t, it_f, ti_t, ti_f, ie_t, ie_f, ei_t, ei_f, nn_le_t, nn_le_f, nn_lt_t, nn_lt_f, nn_eq_t, nn_eq_f, nI_1, nI_add, ni_addl, ni_ladd, pk_mul, ni_mull, b2_t, b2_f, b2_0, one0, m1_eq, ni_m1, reduceCtorEq, Bool.false_eq_true, nI_clamp, if_true, Option.some.injEq, Prod.mk.injEq, and_true, true_and, Nat.reduceAdd, Nat.reduceMul, Nat.reduceSub, Nat.reduceEqDiff, Nat.reduceLeDiff, Nat.reduceLT, g3] <;> rfl
      · simp (disch := first | assumption | with_unfolding_all exact hW.1 _ _ rfl | rfl | exact pu_okI (by first | assumption | with_unfolding_all exact hW.1 _ _ rfl) (by omega) (by omega) | exact pu_oqI (by first | assumption | with_unfolding_all exact hW.1 _ _ rfl) (by omega) (by omega) | omega | decide) only [↓reduceIte, ↓gi_b, ↓pi_b, ↓gr_b, ↓pr_b, ↓al_b, ↓as_b, ↓al_3, ↓as_3, ↓al_12, ↓as_12, ↓al_l, ↓as_l, ↓rc_b, ↓Option.bind_some, ↓zr0_b, ↓zr1_b, ↓zrb_b, ↓pz0_b, ↓pz1_b, al_b, as_b, rc_b, gi_b, pi_b, gr_b, zr0, zr1, zrb, u_s, u_n, v_s, v_n, ↓isIn_b, ↓within_b, ite_T, ite_F, il_t, il_f, li_t, li_f, it_t, it_f, ti_t, ti_f, ie_t, ie_f, ei_t, ei_f, nn_le_t, nn_le_f, nn_lt_t, nn_lt_f, nn_eq_t, nn_eq_f, nI_1, nI_add, ni_addl, ni_ladd, pk_mul, ni_mull, b2_t, b2_f, b2_0, one0, m1_eq, ni_m1, reduceCtorEq, Bool.false_eq_true, nI_clamp, if_true, Option.some.injEq, Prod.mk.injEq, and_true, true_and, Nat.reduceAdd, Nat.reduceMul, Nat.reduceSub, Nat.reduceEqDiff, Nat.reduceLeDiff, Nat.reduceLT, g4] <;> rfl
      · simp (disch := first | assumption | with_unfolding_all exact hW.1 _ _ rfl | rfl | exact pu_okI (by first | assumption | with_unfolding_all exact hW.1 _ _ rfl) (by omega) (by omega) | exact pu_oqI (by first | assumption | with_unfolding_all exact hW.1 _ _ rfl) (by omega) (by omega) | omega | decide) only [↓reduceIte, ↓gi_b, ↓pi_b, ↓gr_b, ↓pr_b, ↓al_b, ↓as_b, ↓al_3, ↓as_3, ↓al_12, ↓as_12, ↓al_l, ↓as_l, ↓rc_b, ↓Option.bind_some, ↓zr0_b, ↓zr1_b, ↓zrb_b, ↓pz0_b, ↓pz1_b, al_b, as_b, rc_b, gi_b, pi_b, gr_b, zr0, zr1, zrb, u_s, u_n, v_s, v_n, ↓isIn_b, ↓within_b, ite_T, ite_F, il_t, il_f, li_t, li_f, it_t, it_f, ti_t, ti_f, ie_t, ie_f, ei_t, ei_f, nn_le_t, nn_le_f, nn_lt_t, nn_lt_f, nn_eq_t, nn_eq_f, nI_1, nI_add, ni_addl, ni_ladd, pk_mul, ni_mull, b2_t, b2_f, b2_0, one0, m1_eq, ni_m1, reduceCtorEq, Bool.false_eq_true, nI_clamp, if_true, Option.some.injEq, Prod.mk.injEq, and_true, true_and, Nat.reduceAdd, Nat.reduceMul, Nat.reduceSub, Nat.reduceEqDiff, Nat.reduceLeDiff, Nat.reduceLT, g5] <;> rfl
      · simp (disch := first | assumption | with_unfolding_all exact hW.1 _ _ rfl | rfl | exact pu_okI (by first | assumption | with_unfolding_all exact hW.1 _ _ rfl) (by omega) (by omega) | exact pu_oqI (by first | assumption | with_unfolding_all exact hW.1 _ _ rfl) (by omega) (by omega) | omega | decide) only [↓reduceIte, ↓gi_b, ↓pi_b, ↓gr_b, ↓pr_b, ↓al_b, ↓as_b, ↓al_3, ↓as_3, ↓al_12, ↓as_12, ↓al_l, ↓as_l, ↓rc_b, ↓Option.bind_some, ↓zr0_b, ↓zr1_b, ↓zrb_b, ↓pz0_b, ↓pz1_b, al_b, as_b, rc_b, gi_b, pi_b, gr_b, zr0, zr1, zrb, u_s, u_n, v_s, v_n, ↓isIn_b, ↓within_b, ite_T, ite_F, il_t, il_f, li_t, li_f, it_t, it_f, ti_t, ti_f, ie_t, ie_f, ei_t, ei_f, nn_le_t, nn_le_f, nn_lt_t, nn_lt_f, nn_eq_t, nn_eq_f, nI_1, nI_add, ni_addl, ni_ladd, pk_mul, ni_mull, b2_t, b2_f, b2_0, one0, m1_eq, ni_m1, reduceCtorEq, Bool.false_eq_true, nI_clamp, if_true, Option.some.injEq, Prod.mk.injEq, and_true, true_and, Nat.reduceAdd, Nat.reduceMul, Nat.reduceSub, Nat.reduceEqDiff, Nat.reduceLeDiff, Nat.reduceLT, g6] <;> rfl
      · rw [u_n (by omega), u_n (by omega)]; exact g7 x hx
      · rw [u_n (by omega)]; exact g8 d hd
      · rw [u_n (by omega)]; exact g9 k hk
      · rw [u_n (by omega), u_n (by omega)]; exact g10 k hk hg
    rw [if_neg e1]
    by_cases e2 : (V w).1 = 2
    · rw [if_pos e2, es, if_neg (show ¬ (false = true) by decide)]
      have hn3 : (V w).2.1 ≤ 3 := by omega
      have e75 := g8 (V w).2.1 (by omega)
      have hd98 := b3' (V w).2.1
      by_cases e4 : pd p (V w).2.1 ≤ t
      · rw [if_pos e4]
        have hf127 := S_d4_lt hn3 e4 ht b3'
        have elt : (nI (pd p (V w).2.1) - 1 < nI t) = True := by rw [out_lt (by omega) (by omega)]; exact eq_true e4
        simp (disch := first | assumption | with_unfolding_all exact hW.1 _ _ rfl | rfl | exact pu_okI (by first | assumption | with_unfolding_all exact hW.1 _ _ rfl) (by omega) (by omega) | exact pu_oqI (by first | assumption | with_unfolding_all exact hW.1 _ _ rfl) (by omega) (by omega) | omega | decide) only [↓reduceIte, ↓gi_b, ↓pi_b, ↓gr_b, ↓pr_b, ↓al_b, ↓as_b, ↓al_3, ↓as_3, ↓al_12, ↓as_12, ↓al_l, ↓as_l, ↓rc_b, ↓Option.bind_some, ↓zr0_b, ↓zr1_b, ↓zrb_b, ↓pz0_b, ↓pz1_b, al_b, as_b, rc_b, gi_b, pi_b, gr_b, zr0, zr1, zrb, u_s, u_n, v_s, v_n, ↓isIn_b, ↓within_b, ite_T, ite_F, il_t, il_f, li_t, li_f, it_t, it_f, ti_t, ti_f, ie_t, ie_f, ei_t, ei_f, nn_le_t, nn_le_f, nn_lt_t, nn_lt_f, nn_eq_t, nn_eq_f, nI_1, nI_add, ni_addl, ni_ladd, pk_mul, ni_mull, b2_t, b2_f, b2_0, one0, m1_eq, ni_m1, reduceCtorEq, Bool.false_eq_true, nI_clamp, if_true, Option.some.injEq, Prod.mk.injEq, and_true, true_and, Nat.reduceAdd, Nat.reduceMul, Nat.reduceSub, Nat.reduceEqDiff, Nat.reduceLeDiff, Nat.reduceLT, ↓gr40_19 hW, ↓gr40_20 hW, ↓gr40_66 hW, ↓gr40_18 hW, ↓gr40_68 hW, ↓gr40_63 hW, ↓gr40_70 hW, ↓gr40_71 hW, ↓gr40_67 hW, m1, m2, m3, e73, es, e2, e75, elt, g3]
        refine Rn_some ⟨_, rfl, fun b j h1 h2 => by rw [u_n (by omega), u_n (by omega), u_n (by omega)], ?_⟩
        refine ⟨?_, fun q => ?_, ?_, ?_, ?_, ?_, fun x hx => ?_, fun d hd => ?_, fun k hk => ?_, fun k hk hg => ?_⟩
        · simp (disch := first | assumption | with_unfolding_all exact hW.1 _ _ rfl | rfl | exact pu_okI (by first | assumption | with_unfolding_all exact hW.1 _ _ rfl) (by omega) (by omega) | exact pu_oqI (by first | assumption | with_unfolding_all exact hW.1 _ _ rfl) (by omega) (by omega) | omega | decide) only [↓reduceIte, ↓gi_b, ↓pi_b, ↓gr_b, ↓pr_b, ↓al_b, ↓as_b, ↓al_3, ↓as_3, ↓al_12, ↓as_12, ↓al_l, ↓as_l, ↓rc_b, ↓Option.bind_some, ↓zr0_b, ↓zr1_b, ↓zrb_b, ↓pz0_b, ↓pz1_b, al_b, as_b, rc_b, gi_b, pi_b, gr_b, zr0, zr1, zrb, u_s, u_n, v_s, v_n, ↓isIn_b, ↓within_b, ite_T, ite_F, il_t, il_f, li_t, li_f, it_t, it_f, ti_t, ti_f, ie_t, ie_f, ei_t, ei_f, nn_le_t, nn_le_f, nn_lt_t, nn_lt_f, nn_eq_t, nn_eq_f, nI_1, nI_add, ni_addl, ni_ladd, pk_mul, ni_mull, b2_t, b2_f, b2_0, one0, m1_eq, ni_m1, reduceCtorEq, Bool.false_eq_true, nI_clamp, if_true, Option.some.injEq, Prod.mk.injEq, and_true, true_and, Nat.reduceAdd, Nat.reduceMul, Nat.reduceSub, Nat.reduceEqDiff, Nat.reduceLeDiff, Nat.reduceLT, g1] <;> rfl
        · rw [u_n (by omega), u_n (by omega), u_n (by omega)]; exact g2 q
        · rw [u_s]; rfl
        · simp (disch := first | assumption | with_unfolding_all exact hW.1 _ _ rfl | rfl | exact pu_okI (by first | assumption | with_unfolding_all exact hW.1 _ _ rfl) (by omega) (by omega) | exact pu_oqI (by first | assumption | with_unfolding_all exact hW.1 _ _ rfl) (by omega) (by omega) | omega | decide) only [↓reduceIte, ↓gi_b, ↓pi_b, ↓gr_b, ↓pr_b, ↓al_b, ↓as_b, ↓al_3, ↓as_3, ↓al_12, ↓as_12, ↓al_l, ↓as_l, ↓rc_b, ↓Option.bind_some, ↓zr0_b, ↓zr1_b, ↓zrb_b, ↓pz0_b, ↓pz1_b, al_b, as_b, rc_b, gi_b, pi_b, gr_b, zr0, zr1, zrb, u_s, u_n, v_s, v_n, ↓isIn_b, ↓within_b, ite_T, ite_F, il_t, il_f, li_t, li_f, it_t, it_f, ti_t, ti_f, ie_t, ie_f, ei_t, ei_f, nn_le_t, nn_le_f, nn_lt_t, nn_lt_f, nn_eq_t, nn_eq_f, nI_1, nI_add, ni_addl, ni_ladd, pk_mul, ni_mull, b2_t, b2_f, b2_0, one0, m1_eq, ni_m1, reduceCtorEq, Bool.false_eq_true, nI_clamp, if_true, Option.some.injEq, Prod.mk.injEq, and_true, true_and, Nat.reduceAdd, Nat.reduceMul, Nat.reduceSub, Nat.reduceEqDiff, Nat.reduceLeDiff, Nat.reduceLT, g4] <;> rfl
        · simp (disch := first | assumption | with_unfolding_all exact hW.1 _ _ rfl | rfl | exact pu_okI (by first | assumption | with_unfolding_all exact hW.1 _ _ rfl) (by omega) (by omega) | exact pu_oqI (by first | assumption | with_unfolding_all exact hW.1 _ _ rfl) (by omega) (by omega) | omega | decide) only [↓reduceIte, ↓gi_b, ↓pi_b, ↓gr_b, ↓pr_b, ↓al_b, ↓as_b, ↓al_3, ↓as_3, ↓al_12, ↓as_12, ↓al_l, ↓as_l, ↓rc_b, ↓Option.bind_some, ↓zr0_b, ↓zr1_b, ↓zrb_b, ↓pz0_b, ↓pz1_b, al_b, as_b, rc_b, gi_b, pi_b, gr_b, zr0, zr1, zrb, u_s, u_n, v_s, v_n, ↓isIn_b, ↓within_b, ite_T, ite_F, il_t, il_f, li_t, li_f, it_t, it_f, ti_t, ti_f, ie_t, ie_f, ei_t, ei_f, nn_le_t, nn_le_f, nn_lt_t, nn_lt_f, nn_eq_t, nn_eq_f, nI_1, nI_add, ni_addl, ni_ladd, pk_mul, ni_mull, b2_t, b2_f, b2_0, one0, m1_eq, ni_m1, reduceCtorEq, Bool.false_eq_true, nI_clamp, if_true, Option.some.injEq, Prod.mk.injEq, and_true, true_and, Nat.reduceAdd, Nat.reduceMul, Nat.reduceSub, Nat.reduceEqDiff, Nat.reduceLeDiff, Nat.reduceLT, g5] <;> rfl
        · simp (disch := first | assumption | with_unfolding_all exact hW.1 _ _ rfl | rfl | exact pu_okI (by first | assumption | with_unfolding_all exact hW.1 _ _ rfl) (by omega) (by omega) | exact pu_oqI (by first | assumption | with_unfolding_all exact hW.1 _ _ rfl) (by omega) (by omega) | omega | decide) only [↓reduceIte, ↓gi_b, ↓pi_b, ↓gr_b, ↓pr_b, ↓al_b, ↓as_b, ↓al_3, ↓as_3, ↓al_12, ↓as_12, ↓al_l, ↓as_l, ↓rc_b, ↓Option.bind_some, ↓zr0_b, ↓zr1_b, ↓zrb_b, ↓pz0_b, ↓pz1_b, al_b, as_b, rc_b, gi_b, pi_b, gr_b, zr0, zr1, zrb, u_s, u_n, v_s, v_n, ↓isIn_b, ↓within_b, ite_T, ite_F, il_t, il_f, li_t, li_f, it_t, it_f, ti_t, ti_f, ie_t, ie_f, ei_t, ei_f, nn_le_t, nn_le_f, nn_lt_t, nn_lt_f, nn_eq_t, nn_eq_f, nI_1, nI_add, ni_addl, ni_ladd, pk_mul, ni_mull, b2_t, b2_f, b2_0, one0, m1_eq, ni_m1, reduceCtorEq, Bool.false_eq_true, nI_clamp, if_true, Option.some.injEq, Prod.mk.injEq, and_true, true_and, Nat.reduceAdd, Nat.reduceMul, Nat.reduceSub, Nat.reduceEqDiff, Nat.reduceLeDiff, Nat.reduceLT, g6] <;> rfl
        · rw [u_n (by omega), u_n (by omega), u_n (by omega), u_n (by omega), u_n (by omega), u_n (by omega)]; exact g7 x hx
        · rw [u_n (by omega), u_n (by omega)]
          show _ = nI (upG (pd p) (V w).2.1 (t + 3) d) - 1
          by_cases ed : d = (V w).2.1
          · subst ed; rw [u_s, upG_s, nI_pred]
          · rw [u_n (by omega), upG_n ed]; exact g8 d hd
        · have hk' : k < pf p + 1 := hk
          rw [u_n (by omega)]
          show _ = nI (upG (pg p) (pf p) w k)
          by_cases ek : k = pf p
          · subst ek; rw [u_s, upG_s]
          · rw [u_n (by omega), u_n (by omega), g9 k (by omega), upG_n ek]
        · rw [u_n (by omega), u_n (by omega), u_n (by omega), u_n (by omega), u_n (by omega), u_n (by omega)]; exact g10 k hk hg
      · rw [if_neg e4]
        have elt : (nI (pd p (V w).2.1) - 1 < nI t) = False := by rw [out_lt (by omega) (by omega)]; exact eq_false e4
        unfold fX9_struck_116 fX9_struck_136
        cases e5 : p1 p with
        | none =>
          rw [e5] at g4 g5
          simp only [Option.map_none, oI] at g4 g5
          simp (disch := first | assumption | with_unfolding_all exact hW.1 _ _ rfl | rfl | exact pu_okI (by first | assumption | with_unfolding_all exact hW.1 _ _ rfl) (by omega) (by omega) | exact pu_oqI (by first | assumption | with_unfolding_all exact hW.1 _ _ rfl) (by omega) (by omega) | omega | decide) only [↓reduceIte, ↓gi_b, ↓pi_b, ↓gr_b, ↓pr_b, ↓al_b, ↓as_b, ↓al_3, ↓as_3, ↓al_12, ↓as_12, ↓al_l, ↓as_l, ↓rc_b, ↓Option.bind_some, ↓zr0_b, ↓zr1_b, ↓zrb_b, ↓pz0_b, ↓pz1_b, al_b, as_b, rc_b, gi_b, pi_b, gr_b, zr0, zr1, zrb, u_s, u_n, v_s, v_n, ↓isIn_b, ↓within_b, ite_T, ite_F, il_t, il_f, li_t, li_f, it_t, it_f, ti_t, ti_f, ie_t, ie_f, ei_t, ei_f, nn_le_t, nn_le_f, nn_lt_t, nn_lt_f, nn_eq_t, nn_eq_f, nI_1, nI_add, ni_addl, ni_ladd, pk_mul, ni_mull, b2_t, b2_f, b2_0, one0, m1_eq, ni_m1, reduceCtorEq, Bool.false_eq_true, nI_clamp, if_true, Option.some.injEq, Prod.mk.injEq, and_true, true_and, Nat.reduceAdd, Nat.reduceMul, Nat.reduceSub, Nat.reduceEqDiff, Nat.reduceLeDiff, Nat.reduceLT, ↓gr40_19 hW, ↓gr40_20 hW, ↓gr40_66 hW, ↓gr40_18 hW, ↓gr40_68 hW, ↓gr40_63 hW, ↓gr40_70 hW, ↓gr40_71 hW, ↓gr40_67 hW, m1, m2, m3, e73, es, e2, e75, elt, g4, nar1]
          refine Rn_some ⟨_, rfl, fun b j h1 h2 => by rw [u_n (by omega), u_n (by omega), u_n (by omega)], ?_⟩
          refine ⟨?_, fun q => ?_, ?_, ?_, ?_, ?_, fun x hx => ⟨?_, ?_⟩, fun d hd => ?_, fun k hk => ?_, fun k hk hg => ?_⟩
          · simp (disch := first | assumption | with_unfolding_all exact hW.1 _ _ rfl | rfl | exact pu_okI (by first | assumption | with_unfolding_all exact hW.1 _ _ rfl) (by omega) (by omega) | exact pu_oqI (by first | assumption | with_unfolding_all exact hW.1 _ _ rfl) (by omega) (by omega) | omega | decide) only [↓reduceIte, ↓gi_b, ↓pi_b, ↓gr_b, ↓pr_b, ↓al_b, ↓as_b, ↓al_3, ↓as_3, ↓al_12, ↓as_12, ↓al_l, ↓as_l, ↓rc_b, ↓Option.bind_some, ↓zr0_b, ↓zr1_b, ↓zrb_b, ↓pz0_b, ↓pz1_b, al_b, as_b, rc_b, gi_b, pi_b, gr_b, zr0, zr1, zrb, u_s, u_n, v_s, v_n, ↓isIn_b, ↓within_b, ite_T, ite_F, il_t, il_f, li_t, li_f, it_t, it_f, ti_t, ti_f, ie_t, ie_f, ei_t, ei_f, nn_le_t, nn_le_f, nn_lt_t, nn_lt_f, nn_eq_t, nn_eq_f, nI_1, nI_add, ni_addl, ni_ladd, pk_mul, ni_mull, b2_t, b2_f, b2_0, one0, m1_eq, ni_m1, reduceCtorEq, Bool.false_eq_true, nI_clamp, if_true, Option.some.injEq, Prod.mk.injEq, and_true, true_and, Nat.reduceAdd, Nat.reduceMul, Nat.reduceSub, Nat.reduceEqDiff, Nat.reduceLeDiff, Nat.reduceLT, g1] <;> rfl
          · rw [u_n (by omega), u_n (by omega), u_n (by omega)]; exact g2 q
          · simp (disch := first | assumption | with_unfolding_all exact hW.1 _ _ rfl | rfl | exact pu_okI (by first | assumption | with_unfolding_all exact hW.1 _ _ rfl) (by omega) (by omega) | exact pu_oqI (by first | assumption | with_unfolding_all exact hW.1 _ _ rfl) (by omega) (by omega) | omega | decide) only [↓reduceIte, ↓gi_b, ↓pi_b, ↓gr_b, ↓pr_b, ↓al_b, ↓as_b, ↓al_3, ↓as_3, ↓al_12, ↓as_12, ↓al_l, ↓as_l, ↓rc_b, ↓Option.bind_some, ↓zr0_b, ↓zr1_b, ↓zrb_b, ↓pz0_b, ↓pz1_b, al_b, as_b, rc_b, gi_b, pi_b, gr_b, zr0, zr1, zrb, u_s, u_n, v_s, v_n, ↓isIn_b, ↓within_b, ite_T, ite_F, il_t, il_f, li_t, li_f, it_t, it_f, ti_t, ti_f, ie_t, ie_f, ei_t, ei_f, nn_le_t, nn_le_f, nn_lt_t, nn_lt_f, nn_eq_t, nn_eq_f, nI_1, nI_add, ni_addl, ni_ladd, pk_mul, ni_mull, b2_t, b2_f, b2_0, one0, m1_eq, ni_m1, reduceCtorEq, Bool.false_eq_true, nI_clamp, if_true, Option.some.injEq, Prod.mk.injEq, and_true, true_and, Nat.reduceAdd, Nat.reduceMul, Nat.reduceSub, Nat.reduceEqDiff, Nat.reduceLeDiff, Nat.reduceLT, g3] <;> rfl
          · rw [u_s]; unfold S_stk p1; unfold p1 at e5; rw [e5]; rfl
          · rw [u_n (by omega), u_s]; unfold S_stk p1; unfold p1 at e5; rw [e5]; rfl
          · simp (disch := first | assumption | with_unfolding_all exact hW.1 _ _ rfl | rfl | exact pu_okI (by first | assumption | with_unfolding_all exact hW.1 _ _ rfl) (by omega) (by omega) | exact pu_oqI (by first | assumption | with_unfolding_all exact hW.1 _ _ rfl) (by omega) (by omega) | omega | decide) only [↓reduceIte, ↓gi_b, ↓pi_b, ↓gr_b, ↓pr_b, ↓al_b, ↓as_b, ↓al_3, ↓as_3, ↓al_12, ↓as_12, ↓al_l, ↓as_l, ↓rc_b, ↓Option.bind_some, ↓zr0_b, ↓zr1_b, ↓zrb_b, ↓pz0_b, ↓pz1_b, al_b, as_b, rc_b, gi_b, pi_b, gr_b, zr0, zr1, zrb, u_s, u_n, v_s, v_n, ↓isIn_b, ↓within_b, ite_T, ite_F, il_t, il_f, li_t, li_f, it_t, it_f, ti_t, ti_f, ie_t, ie_f, ei_t, ei_f, nn_le_t, nn_le_f, nn_lt_t, nn_lt_f, nn_eq_t, nn_eq_f, nI_1, nI_add, ni_addl, ni_ladd, pk_mul, ni_mull, b2_t, b2_f, b2_0, one0, m1_eq, ni_m1, reduceCtorEq, Bool.false_eq_true, nI_clamp, if_true, Option.some.injEq, Prod.mk.injEq, and_true, true_and, Nat.reduceAdd, Nat.reduceMul, Nat.reduceSub, Nat.reduceEqDiff, Nat.reduceLeDiff, Nat.reduceLT, g6] <;> rfl
          · rw [u_n (by omega), u_n (by omega)]
            show _ = b2 (upG (pk p) w true x)
            by_cases ex : x = w
            · subst ex; rw [u_s, upG_s]; rfl
            · rw [u_n (by omega), upG_n ex]; exact (g7 x hx).1
          · rw [u_n (by omega), u_n (by omega), u_n (by omega)]; exact (g7 x hx).2
          · rw [u_n (by omega), u_n (by omega), u_n (by omega)]; exact g8 d hd
          · rw [u_n (by omega), u_n (by omega), u_n (by omega)]; exact g9 k hk
          · rw [u_n (by omega), u_n (by omega), u_n (by omega), u_n (by omega), u_n (by omega), u_n (by omega)]; exact g10 k hk hg
        | some z =>
          rw [e5] at g4 g5
          simp only [Option.map_some, oI] at g4 g5
          have hz : ((nI z.1 = (-1 : Int32)) = False) := ni_m1 (by have := h1.1 z e5; omega)
          simp (disch := first | assumption | with_unfolding_all exact hW.1 _ _ rfl | rfl | exact pu_okI (by first | assumption | with_unfolding_all exact hW.1 _ _ rfl) (by omega) (by omega) | exact pu_oqI (by first | assumption | with_unfolding_all exact hW.1 _ _ rfl) (by omega) (by omega) | omega | decide) only [↓reduceIte, ↓gi_b, ↓pi_b, ↓gr_b, ↓pr_b, ↓al_b, ↓as_b, ↓al_3, ↓as_3, ↓al_12, ↓as_12, ↓al_l, ↓as_l, ↓rc_b, ↓Option.bind_some, ↓zr0_b, ↓zr1_b, ↓zrb_b, ↓pz0_b, ↓pz1_b, al_b, as_b, rc_b, gi_b, pi_b, gr_b, zr0, zr1, zrb, u_s, u_n, v_s, v_n, ↓isIn_b, ↓within_b, ite_T, ite_F, il_t, il_f, li_t, li_f, it_t, it_f, ti_t, ti_f, ie_t, ie_f, ei_t, ei_f, nn_le_t, nn_le_f, nn_lt_t, nn_lt_f, nn_eq_t, nn_eq_f, nI_1, nI_add, ni_addl, ni_ladd, pk_mul, ni_mull, b2_t, b2_f, b2_0, one0, m1_eq, ni_m1, reduceCtorEq, Bool.false_eq_true, nI_clamp, if_true, Option.some.injEq, Prod.mk.injEq, and_true, true_and, Nat.reduceAdd, Nat.reduceMul, Nat.reduceSub, Nat.reduceEqDiff, Nat.reduceLeDiff, Nat.reduceLT, ↓gr40_19 hW, ↓gr40_20 hW, ↓gr40_66 hW, ↓gr40_18 hW, ↓gr40_68 hW, ↓gr40_63 hW, ↓gr40_70 hW, ↓gr40_71 hW, ↓gr40_67 hW, m1, m2, m3, e73, es, e2, e75, elt, g4, g5, hz, nar1]
          refine Rn_some ⟨_, rfl, fun b j h1 h2 => by rw [u_n (by omega), u_n (by omega), u_n (by omega)], ?_⟩
          refine ⟨?_, fun q => ?_, ?_, ?_, ?_, ?_, fun x hx => ⟨?_, ?_⟩, fun d hd => ?_, fun k hk => ?_, fun k hk hg => ?_⟩
          · simp (disch := first | assumption | with_unfolding_all exact hW.1 _ _ rfl | rfl | exact pu_okI (by first | assumption | with_unfolding_all exact hW.1 _ _ rfl) (by omega) (by omega) | exact pu_oqI (by first | assumption | with_unfolding_all exact hW.1 _ _ rfl) (by omega) (by omega) | omega | decide) only [↓reduceIte, ↓gi_b, ↓pi_b, ↓gr_b, ↓pr_b, ↓al_b, ↓as_b, ↓al_3, ↓as_3, ↓al_12, ↓as_12, ↓al_l, ↓as_l, ↓rc_b, ↓Option.bind_some, ↓zr0_b, ↓zr1_b, ↓zrb_b, ↓pz0_b, ↓pz1_b, al_b, as_b, rc_b, gi_b, pi_b, gr_b, zr0, zr1, zrb, u_s, u_n, v_s, v_n, ↓isIn_b, ↓within_b, ite_T, ite_F, il_t, il_f, li_t, li_f, it_t, it_f, ti_t, ti_f, ie_t, ie_f, ei_t, ei_f, nn_le_t, nn_le_f, nn_lt_t, nn_lt_f, nn_eq_t, nn_eq_f, nI_1, nI_add, ni_addl, ni_ladd, pk_mul, ni_mull, b2_t, b2_f, b2_0, one0, m1_eq, ni_m1, reduceCtorEq, Bool.false_eq_true, nI_clamp, if_true, Option.some.injEq, Prod.mk.injEq, and_true, true_and, Nat.reduceAdd, Nat.reduceMul, Nat.reduceSub, Nat.reduceEqDiff, Nat.reduceLeDiff, Nat.reduceLT, g1] <;> rfl
          · rw [u_n (by omega), u_n (by omega), u_n (by omega)]; exact g2 q
          · simp (disch := first | assumption | with_unfolding_all exact hW.1 _ _ rfl | rfl | exact pu_okI (by first | assumption | with_unfolding_all exact hW.1 _ _ rfl) (by omega) (by omega) | exact pu_oqI (by first | assumption | with_unfolding_all exact hW.1 _ _ rfl) (by omega) (by omega) | omega | decide) only [↓reduceIte, ↓gi_b, ↓pi_b, ↓gr_b, ↓pr_b, ↓al_b, ↓as_b, ↓al_3, ↓as_3, ↓al_12, ↓as_12, ↓al_l, ↓as_l, ↓rc_b, ↓Option.bind_some, ↓zr0_b, ↓zr1_b, ↓zrb_b, ↓pz0_b, ↓pz1_b, al_b, as_b, rc_b, gi_b, pi_b, gr_b, zr0, zr1, zrb, u_s, u_n, v_s, v_n, ↓isIn_b, ↓within_b, ite_T, ite_F, il_t, il_f, li_t, li_f, it_t, it_f, ti_t, ti_f, ie_t, ie_f, ei_t, ei_f, nn_le_t, nn_le_f, nn_lt_t, nn_lt_f, nn_eq_t, nn_eq_f, nI_1, nI_add, ni_addl, ni_ladd, pk_mul, ni_mull, b2_t, b2_f, b2_0, one0, m1_eq, ni_m1, reduceCtorEq, Bool.false_eq_true, nI_clamp, if_true, Option.some.injEq, Prod.mk.injEq, and_true, true_and, Nat.reduceAdd, Nat.reduceMul, Nat.reduceSub, Nat.reduceEqDiff, Nat.reduceLeDiff, Nat.reduceLT, g3] <;> rfl
          · rw [u_s]; unfold S_stk p1; unfold p1 at e5; rw [e5]; rfl
          · rw [u_n (by omega), u_s]; unfold S_stk p1; unfold p1 at e5; rw [e5]; rfl
          · simp (disch := first | assumption | with_unfolding_all exact hW.1 _ _ rfl | rfl | exact pu_okI (by first | assumption | with_unfolding_all exact hW.1 _ _ rfl) (by omega) (by omega) | exact pu_oqI (by first | assumption | with_unfolding_all exact hW.1 _ _ rfl) (by omega) (by omega) | omega | decide) only [↓reduceIte, ↓gi_b, ↓pi_b, ↓gr_b, ↓pr_b, ↓al_b, ↓as_b, ↓al_3, ↓as_3, ↓al_12, ↓as_12, ↓al_l, ↓as_l, ↓rc_b, ↓Option.bind_some, ↓zr0_b, ↓zr1_b, ↓zrb_b, ↓pz0_b, ↓pz1_b, al_b, as_b, rc_b, gi_b, pi_b, gr_b, zr0, zr1, zrb, u_s, u_n, v_s, v_n, ↓isIn_b, ↓within_b, ite_T, ite_F, il_t, il_f, li_t, li_f, it_t, it_f, ti_t, ti_f, ie_t, ie_f, ei_t, ei_f, nn_le_t, nn_le_f, nn_lt_t, nn_lt_f, nn_eq_t, nn_eq_f, nI_1, nI_add, ni_addl, ni_ladd, pk_mul, ni_mull, b2_t, b2_f, b2_0, one0, m1_eq, ni_m1, reduceCtorEq, Bool.false_eq_true, nI_clamp, if_true, Option.some.injEq, Prod.mk.injEq, and_true, true_and, Nat.reduceAdd, Nat.reduceMul, Nat.reduceSub, Nat.reduceEqDiff, Nat.reduceLeDiff, Nat.reduceLT, g6] <;> rfl
          · rw [u_n (by omega), u_n (by omega)]
            show _ = b2 (upG (pk p) w true x)
            by_cases ex : x = w
            · subst ex; rw [u_s, upG_s]; rfl
            · rw [u_n (by omega), upG_n ex]; exact (g7 x hx).1
          · rw [u_n (by omega), u_n (by omega), u_n (by omega)]; exact (g7 x hx).2
          · rw [u_n (by omega), u_n (by omega), u_n (by omega)]; exact g8 d hd
          · rw [u_n (by omega), u_n (by omega), u_n (by omega)]; exact g9 k hk
          · rw [u_n (by omega), u_n (by omega), u_n (by omega), u_n (by omega), u_n (by omega), u_n (by omega)]; exact g10 k hk hg
    rw [if_neg e2]
    by_cases e3 : (V w).1 = 3
    · rw [if_pos e3]
      have hn9 : (V w).2.1 ≤ 9 := by omega
      have hgc : gN V (upG (pe p) (pc p) (w, t + (V w).2.1)) (pc p + 1) = gN V (pe p) (pc p) + (if gd V (w, t + (V w).2.1) = true then 1 else 0) := by
        show gN V (upG (pe p) (pc p) (w, t + (V w).2.1)) (pc p) + _ = _
        rw [gN_up _ (Nat.le_refl _), upG_s]
      have hold : ∀ k, k < pc p → upG (pe p) (pc p) (w, t + (V w).2.1) k = pe p k ∧ gN V (upG (pe p) (pc p) (w, t + (V w).2.1)) k = gN V (pe p) k := fun k hk => ⟨upG_n (by omega), gN_up k (by omega)⟩
      have hno : gd V (w, t + (V w).2.1) = false → Rn (some (-1, pu_hp s I P J n)) fun y => ∃ I', y = (oI (if (S_turn w (V w).2.1 t p, false).2 = true then (V w).2.2 else none), pu_hp s I' P J n) ∧ MF I I' ∧ PM I' (znw Z) V (th (zT Z)) (S_turn w (V w).2.1 t p, false).1 := by
        intro hg
        refine Rn_some ⟨I, rfl, fun _ _ _ _ => rfl, g1, g2, g3, g4, g5, ?_, g7, g8, g9, fun k hk hgk => ?_⟩
        · rw [hg] at hgc
          show _ = nI (gN V (upG (pe p) (pc p) (w, t + (V w).2.1)) (pc p + 1))
          rw [hgc]; exact g6
        · have hk' : k < pc p + 1 := hk
          have hgk' : gd V (upG (pe p) (pc p) (w, t + (V w).2.1) k) = true := hgk
          show I 76 (gN V (upG (pe p) (pc p) (w, t + (V w).2.1)) k) = nI (upG (pe p) (pc p) (w, t + (V w).2.1) k).2 ∧ I 77 (gN V (upG (pe p) (pc p) (w, t + (V w).2.1)) k) = oI (V (upG (pe p) (pc p) (w, t + (V w).2.1) k).1).2.2
          by_cases ek : k = pc p
          · subst ek; rw [upG_s, hg] at hgk'; cases hgk'
          · obtain ⟨q1, q2⟩ := hold k (by omega)
            rw [q1] at hgk' ⊢
            rw [q2]; exact g10 k (by omega) hgk'
      cases e6 : (V w).2.2 with
      | none =>
        rw [e6] at m3
        simp only [oI] at m3
        simp (disch := first | assumption | with_unfolding_all exact hW.1 _ _ rfl | rfl | exact pu_okI (by first | assumption | with_unfolding_all exact hW.1 _ _ rfl) (by omega) (by omega) | exact pu_oqI (by first | assumption | with_unfolding_all exact hW.1 _ _ rfl) (by omega) (by omega) | omega | decide) only [↓reduceIte, ↓gi_b, ↓pi_b, ↓gr_b, ↓pr_b, ↓al_b, ↓as_b, ↓al_3, ↓as_3, ↓al_12, ↓as_12, ↓al_l, ↓as_l, ↓rc_b, ↓Option.bind_some, ↓zr0_b, ↓zr1_b, ↓zrb_b, ↓pz0_b, ↓pz1_b, al_b, as_b, rc_b, gi_b, pi_b, gr_b, zr0, zr1, zrb, u_s, u_n, v_s, v_n, ↓isIn_b, ↓within_b, ite_T, ite_F, il_t, il_f, li_t, li_f, it_t, it_f, ti_t, ti_f, ie_t, ie_f, ei_t, ei_f, nn_le_t, nn_le_f, nn_lt_t, nn_lt_f, nn_eq_t, nn_eq_f, nI_1, nI_add, ni_addl, ni_ladd, pk_mul, ni_mull, b2_t, b2_f, b2_0, one0, m1_eq, ni_m1, reduceCtorEq, Bool.false_eq_true, nI_clamp, if_true, Option.some.injEq, Prod.mk.injEq, and_true, true_and, Nat.reduceAdd, Nat.reduceMul, Nat.reduceSub, Nat.reduceEqDiff, Nat.reduceLeDiff, Nat.reduceLT, ↓gr40_19 hW, ↓gr40_20 hW, ↓gr40_66 hW, ↓gr40_18 hW, ↓gr40_68 hW, ↓gr40_63 hW, ↓gr40_70 hW, ↓gr40_71 hW, ↓gr40_67 hW, m1, m2, m3, e73, es, e3]
        rw [e6] at hno
        exact hno (by unfold gd; rw [show (V (w, t + (V w).2.1).1).2.2 = none from e6]; rfl)
      | some x =>
        have hx10 := k3 x e6
        rw [e6] at m3
        simp only [oI] at m3
        rw [e6] at hno
        by_cases e7 : 96 ≤ t + (V w).2.1
        · simp (disch := first | assumption | with_unfolding_all exact hW.1 _ _ rfl | rfl | exact pu_okI (by first | assumption | with_unfolding_all exact hW.1 _ _ rfl) (by omega) (by omega) | exact pu_oqI (by first | assumption | with_unfolding_all exact hW.1 _ _ rfl) (by omega) (by omega) | omega | decide) only [↓reduceIte, ↓gi_b, ↓pi_b, ↓gr_b, ↓pr_b, ↓al_b, ↓as_b, ↓al_3, ↓as_3, ↓al_12, ↓as_12, ↓al_l, ↓as_l, ↓rc_b, ↓Option.bind_some, ↓zr0_b, ↓zr1_b, ↓zrb_b, ↓pz0_b, ↓pz1_b, al_b, as_b, rc_b, gi_b, pi_b, gr_b, zr0, zr1, zrb, u_s, u_n, v_s, v_n, ↓isIn_b, ↓within_b, ite_T, ite_F, il_t, il_f, li_t, li_f, it_t, it_f, ti_t, ti_f, ie_t, ie_f, ei_t, ei_f, nn_le_t, nn_le_f, nn_lt_t, nn_lt_f, nn_eq_t, nn_eq_f, nI_1, nI_add, ni_addl, ni_ladd, pk_mul, ni_mull, b2_t, b2_f, b2_0, one0, m1_eq, ni_m1, reduceCtorEq, Bool.false_eq_true, nI_clamp, if_true, Option.some.injEq, Prod.mk.injEq, and_true, true_and, Nat.reduceAdd, Nat.reduceMul, Nat.reduceSub, Nat.reduceEqDiff, Nat.reduceLeDiff, Nat.reduceLT, ↓gr40_19 hW, ↓gr40_20 hW, ↓gr40_66 hW, ↓gr40_18 hW, ↓gr40_68 hW, ↓gr40_63 hW, ↓gr40_70 hW, ↓gr40_71 hW, ↓gr40_67 hW, m1, m2, m3, e73, es, e3]
          exact hno (by unfold gd; rw [show decide ((w, t + (V w).2.1).2 < 96) = false from decide_eq_false (by show ¬ t + (V w).2.1 < 96; omega), Bool.and_false])
        · have hg : gd V (w, t + (V w).2.1) = true := by
            unfold gd
            rw [show (V (w, t + (V w).2.1).1).2.2 = some x from e6, show decide ((w, t + (V w).2.1).2 < 96) = true from decide_eq_true (by show t + (V w).2.1 < 96; omega)]; rfl
          rw [if_pos hg] at hgc
          simp (disch := first | assumption | with_unfolding_all exact hW.1 _ _ rfl | rfl | exact pu_okI (by first | assumption | with_unfolding_all exact hW.1 _ _ rfl) (by omega) (by omega) | exact pu_oqI (by first | assumption | with_unfolding_all exact hW.1 _ _ rfl) (by omega) (by omega) | omega | decide) only [↓reduceIte, ↓gi_b, ↓pi_b, ↓gr_b, ↓pr_b, ↓al_b, ↓as_b, ↓al_3, ↓as_3, ↓al_12, ↓as_12, ↓al_l, ↓as_l, ↓rc_b, ↓Option.bind_some, ↓zr0_b, ↓zr1_b, ↓zrb_b, ↓pz0_b, ↓pz1_b, al_b, as_b, rc_b, gi_b, pi_b, gr_b, zr0, zr1, zrb, u_s, u_n, v_s, v_n, ↓isIn_b, ↓within_b, ite_T, ite_F, il_t, il_f, li_t, li_f, it_t, it_f, ti_t, ti_f, ie_t, ie_f, ei_t, ei_f, nn_le_t, nn_le_f, nn_lt_t, nn_lt_f, nn_eq_t, nn_eq_f, nI_1, nI_add, ni_addl, ni_ladd, pk_mul, ni_mull, b2_t, b2_f, b2_0, one0, m1_eq, ni_m1, reduceCtorEq, Bool.false_eq_true, nI_clamp, if_true, Option.some.injEq, Prod.mk.injEq, and_true, true_and, Nat.reduceAdd, Nat.reduceMul, Nat.reduceSub, Nat.reduceEqDiff, Nat.reduceLeDiff, Nat.reduceLT, ↓gr40_19 hW, ↓gr40_20 hW, ↓gr40_66 hW, ↓gr40_18 hW, ↓gr40_68 hW, ↓gr40_63 hW, ↓gr40_70 hW, ↓gr40_71 hW, ↓gr40_67 hW, m1, m2, m3, e73, es, e3, g6]
          refine Rn_some ⟨_, rfl, fun b j h1 h2 => by rw [u_n (by omega), u_n (by omega), u_n (by omega)], ?_⟩
          refine ⟨?_, fun q => ?_, ?_, ?_, ?_, ?_, fun x hx => ?_, fun d hd => ?_, fun k hk => ?_, fun k hk hgk => ?_⟩
          · simp (disch := first | assumption | with_unfolding_all exact hW.1 _ _ rfl | rfl | exact pu_okI (by first | assumption | with_unfolding_all exact hW.1 _ _ rfl) (by omega) (by omega) | exact pu_oqI (by first | assumption | with_unfolding_all exact hW.1 _ _ rfl) (by omega) (by omega) | omega | decide) only [↓reduceIte, ↓gi_b, ↓pi_b, ↓gr_b, ↓pr_b, ↓al_b, ↓as_b, ↓al_3, ↓as_3, ↓al_12, ↓as_12, ↓al_l, ↓as_l, ↓rc_b, ↓Option.bind_some, ↓zr0_b, ↓zr1_b, ↓zrb_b, ↓pz0_b, ↓pz1_b, al_b, as_b, rc_b, gi_b, pi_b, gr_b, zr0, zr1, zrb, u_s, u_n, v_s, v_n, ↓isIn_b, ↓within_b, ite_T, ite_F, il_t, il_f, li_t, li_f, it_t, it_f, ti_t, ti_f, ie_t, ie_f, ei_t, ei_f, nn_le_t, nn_le_f, nn_lt_t, nn_lt_f, nn_eq_t, nn_eq_f, nI_1, nI_add, ni_addl, ni_ladd, pk_mul, ni_mull, b2_t, b2_f, b2_0, one0, m1_eq, ni_m1, reduceCtorEq, Bool.false_eq_true, nI_clamp, if_true, Option.some.injEq, Prod.mk.injEq, and_true, true_and, Nat.reduceAdd, Nat.reduceMul, Nat.reduceSub, Nat.reduceEqDiff, Nat.reduceLeDiff, Nat.reduceLT, g1] <;> rfl
          · rw [u_n (by omega), u_n (by omega), u_n (by omega)]; exact g2 q
          · simp (disch := first | assumption | with_unfolding_all exact hW.1 _ _ rfl | rfl | exact pu_okI (by first | assumption | with_unfolding_all exact hW.1 _ _ rfl) (by omega) (by omega) | exact pu_oqI (by first | assumption | with_unfolding_all exact hW.1 _ _ rfl) (by omega) (by omega) | omega | decide) only [↓reduceIte, ↓gi_b, ↓pi_b, ↓gr_b, ↓pr_b, ↓al_b, ↓as_b, ↓al_3, ↓as_3, ↓al_12, ↓as_12, ↓al_l, ↓as_l, ↓rc_b, ↓Option.bind_some, ↓zr0_b, ↓zr1_b, ↓zrb_b, ↓pz0_b, ↓pz1_b, al_b, as_b, rc_b, gi_b, pi_b, gr_b, zr0, zr1, zrb, u_s, u_n, v_s, v_n, ↓isIn_b, ↓within_b, ite_T, ite_F, il_t, il_f, li_t, li_f, it_t, it_f, ti_t, ti_f, ie_t, ie_f, ei_t, ei_f, nn_le_t, nn_le_f, nn_lt_t, nn_lt_f, nn_eq_t, nn_eq_f, nI_1, nI_add, ni_addl, ni_ladd, pk_mul, ni_mull, b2_t, b2_f, b2_0, one0, m1_eq, ni_m1, reduceCtorEq, Bool.false_eq_true, nI_clamp, if_true, Option.some.injEq, Prod.mk.injEq, and_true, true_and, Nat.reduceAdd, Nat.reduceMul, Nat.reduceSub, Nat.reduceEqDiff, Nat.reduceLeDiff, Nat.reduceLT, g3] <;> rfl
          · simp (disch := first | assumption | with_unfolding_all exact hW.1 _ _ rfl | rfl | exact pu_okI (by first | assumption | with_unfolding_all exact hW.1 _ _ rfl) (by omega) (by omega) | exact pu_oqI (by first | assumption | with_unfolding_all exact hW.1 _ _ rfl) (by omega) (by omega) | omega | decide) only [↓reduceIte, ↓gi_b, ↓pi_b, ↓gr_b, ↓pr_b, ↓al_b, ↓as_b, ↓al_3, ↓as_3, ↓al_12, ↓as_12, ↓al_l, ↓as_l, ↓rc_b, ↓Option.bind_some, ↓zr0_b, ↓zr1_b, ↓zrb_b, ↓pz0_b, ↓pz1_b, al_b, as_b, rc_b, gi_b, pi_b, gr_b, zr0, zr1, zrb, u_s, u_n, v_s, v_n, ↓isIn_b, ↓within_b, ite_T, ite_F, il_t, il_f, li_t, li_f, it_t, it_f, ti_t, ti_f, ie_t, ie_f, ei_t, ei_f, nn_le_t, nn_le_f, nn_lt_t, nn_lt_f, nn_eq_t, nn_eq_f, nI_1, nI_add, ni_addl, ni_ladd, pk_mul, ni_mull, b2_t, b2_f, b2_0, one0, m1_eq, ni_m1, reduceCtorEq, Bool.false_eq_true, nI_clamp, if_true, Option.some.injEq, Prod.mk.injEq, and_true, true_and, Nat.reduceAdd, Nat.reduceMul, Nat.reduceSub, Nat.reduceEqDiff, Nat.reduceLeDiff, Nat.reduceLT, g4] <;> rfl
          · simp (disch := first | assumption | with_unfolding_all exact hW.1 _ _ rfl | rfl | exact pu_okI (by first | assumption | with_unfolding_all exact hW.1 _ _ rfl) (by omega) (by omega) | exact pu_oqI (by first | assumption | with_unfolding_all exact hW.1 _ _ rfl) (by omega) (by omega) | omega | decide) only [↓reduceIte, ↓gi_b, ↓pi_b, ↓gr_b, ↓pr_b, ↓al_b, ↓as_b, ↓al_3, ↓as_3, ↓al_12, ↓as_12, ↓al_l, ↓as_l, ↓rc_b, ↓Option.bind_some, ↓zr0_b, ↓zr1_b, ↓zrb_b, ↓pz0_b, ↓pz1_b, al_b, as_b, rc_b, gi_b, pi_b, gr_b, zr0, zr1, zrb, u_s, u_n, v_s, v_n, ↓isIn_b, ↓within_b, ite_T, ite_F, il_t, il_f, li_t, li_f, it_t, it_f, ti_t, ti_f, ie_t, ie_f, ei_t, ei_f, nn_le_t, nn_le_f, nn_lt_t, nn_lt_f, nn_eq_t, nn_eq_f, nI_1, nI_add, ni_addl, ni_ladd, pk_mul, ni_mull, b2_t, b2_f, b2_0, one0, m1_eq, ni_m1, reduceCtorEq, Bool.false_eq_true, nI_clamp, if_true, Option.some.injEq, Prod.mk.injEq, and_true, true_and, Nat.reduceAdd, Nat.reduceMul, Nat.reduceSub, Nat.reduceEqDiff, Nat.reduceLeDiff, Nat.reduceLT, g5] <;> rfl
          · rw [u_s]
            show _ = nI (gN V (upG (pe p) (pc p) (w, t + (V w).2.1)) (pc p + 1))
            rw [hgc]
          · rw [u_n (by omega), u_n (by omega), u_n (by omega), u_n (by omega), u_n (by omega), u_n (by omega)]; exact g7 x hx
          · rw [u_n (by omega), u_n (by omega), u_n (by omega)]; exact g8 d hd
          · rw [u_n (by omega), u_n (by omega), u_n (by omega)]; exact g9 k hk
          · have hk' : k < pc p + 1 := hk
            have hgk' : gd V (upG (pe p) (pc p) (w, t + (V w).2.1) k) = true := hgk
            rw [u_n (by omega), u_n (show ¬ (77 = 40 ∧ _) by omega)]
            show pu_u _ _ _ _ 76 (gN V (upG (pe p) (pc p) (w, t + (V w).2.1)) k) = nI (upG (pe p) (pc p) (w, t + (V w).2.1) k).2 ∧ pu_u _ _ _ _ 77 (gN V (upG (pe p) (pc p) (w, t + (V w).2.1)) k) = oI (V (upG (pe p) (pc p) (w, t + (V w).2.1) k).1).2.2
            by_cases ek : k = pc p
            · subst ek
              rw [gN_up _ (Nat.le_refl _), upG_s, u_n (by omega), u_s, u_s, e6]
              exact ⟨rfl, rfl⟩
            · obtain ⟨q1, q2⟩ := hold k (by omega)
              rw [q1] at hgk' ⊢
              have hlt := gN_lt (V := V) (E := pe p) (show k < pc p by omega) hgk'
              rw [q2, u_n (by omega), u_n (by omega), u_n (by omega), u_n (by omega)]; exact g10 k (by omega) hgk'
    rw [if_neg e3]
    by_cases e4 : (V w).1 = 4
    · rw [if_pos e4]
      have hT := b2' w
      have hmod : (pt p w + 1) % (V w).2.1 < 2147483648 := Nat.lt_of_le_of_lt (Nat.mod_le _ _) (by omega)
      have fin : ∀ a : Int32, a = oI (if decide ((pt p w + 1) % (V w).2.1 = 0) = true then (V w).2.2 else none) → Rn (some (a, pu_hp s (pu_u I 74 w (nI (pt p w + 1))) P J n)) fun y => ∃ I', y = (oI (if decide ((pt p w + 1) % (V w).2.1 = 0) = true then (V w).2.2 else none), pu_hp s I' P J n) ∧ MF I I' ∧ PM I' (znw Z) V (th (zT Z)) (S_cnt w p) := by
        intro a ha
        subst ha
        refine Rn_some ⟨_, rfl, fun b j h1 h2 => by rw [u_n (by omega)], ?_⟩
        refine ⟨?_, fun q => ?_, ?_, ?_, ?_, ?_, fun x hx => ⟨?_, ?_⟩, fun d hd => ?_, fun k hk => ?_, fun k hk hg => ?_⟩
        · simp (disch := first | assumption | with_unfolding_all exact hW.1 _ _ rfl | rfl | exact pu_okI (by first | assumption | with_unfolding_all exact hW.1 _ _ rfl) (by omega) (by omega) | exact pu_oqI (by first | assumption | with_unfolding_all exact hW.1 _ _ rfl) (by omega) (by omega) | omega | decide) only [↓reduceIte, ↓gi_b, ↓pi_b, ↓gr_b, ↓pr_b, ↓al_b, ↓as_b, ↓al_3, ↓as_3, ↓al_12, ↓as_12, ↓al_l, ↓as_l, ↓rc_b, ↓Option.bind_some, ↓zr0_b, ↓zr1_b, ↓zrb_b, ↓pz0_b, ↓pz1_b, al_b, as_b, rc_b, gi_b, pi_b, gr_b, zr0, zr1, zrb, u_s, u_n, v_s, v_n, ↓isIn_b, ↓within_b, ite_T, ite_F, il_t, il_f, li_t, li_f, it_t, it_f, ti_t, ti_f, ie_t, ie_f, ei_t, ei_f, nn_le_t, nn_le_f, nn_lt_t, nn_lt_f, nn_eq_t, nn_eq_f, nI_1, nI_add, ni_addl, ni_ladd, pk_mul, ni_mull, b2_t, b2_f, b2_0, one0, m1_eq, ni_m1, reduceCtorEq, Bool.false_eq_true, nI_clamp, if_true, Option.some.injEq, Prod.mk.injEq, and_true, true_and, Nat.reduceAdd, Nat.reduceMul, Nat.reduceSub, Nat.reduceEqDiff, Nat.reduceLeDiff, Nat.reduceLT, g1] <;> rfl
        · rw [u_n (by omega)]; exact g2 q
        · simp (disch := first | assumption | with_unfolding_all exact hW.1 _ _ rfl | rfl | exact pu_okI (by first | assumption | with_unfolding_all exact hW.1 _ _ rfl) (by omega) (by omega) | exact pu_oqI (by first | assumption | with_unfolding_all exact hW.1 _ _ rfl) (by omega) (by omega) | omega | decide) only [↓reduceIte, ↓gi_b, ↓pi_b, ↓gr_b, ↓pr_b, ↓al_b, ↓as_b, ↓al_3, ↓as_3, ↓al_12, ↓as_12, ↓al_l, ↓as_l, ↓rc_b, ↓Option.bind_some, ↓zr0_b, ↓zr1_b, ↓zrb_b, ↓pz0_b, ↓pz1_b, al_b, as_b, rc_b, gi_b, pi_b, gr_b, zr0, zr1, zrb, u_s, u_n, v_s, v_n, ↓isIn_b, ↓within_b, ite_T, ite_F, il_t, il_f, li_t, li_f, it_t, it_f, ti_t, ti_f, ie_t, ie_f, ei_t, ei_f, nn_le_t, nn_le_f, nn_lt_t, nn_lt_f, nn_eq_t, nn_eq_f, nI_1, nI_add, ni_addl, ni_ladd, pk_mul, ni_mull, b2_t, b2_f, b2_0, one0, m1_eq, ni_m1, reduceCtorEq, Bool.false_eq_true, nI_clamp, if_true, Option.some.injEq, Prod.mk.injEq, and_true, true_and, Nat.reduceAdd, Nat.reduceMul, Nat.reduceSub, Nat.reduceEqDiff, Nat.reduceLeDiff, Nat.reduceLT, g3] <;> rfl
        · simp (disch := first | assumption | with_unfolding_all exact hW.1 _ _ rfl | rfl | exact pu_okI (by first | assumption | with_unfolding_all exact hW.1 _ _ rfl) (by omega) (by omega) | exact pu_oqI (by first | assumption | with_unfolding_all exact hW.1 _ _ rfl) (by omega) (by omega) | omega | decide) only [↓reduceIte, ↓gi_b, ↓pi_b, ↓gr_b, ↓pr_b, ↓al_b, ↓as_b, ↓al_3, ↓as_3, ↓al_12, ↓as_12, ↓al_l, ↓as_l, ↓rc_b, ↓Option.bind_some, ↓zr0_b, ↓zr1_b, ↓zrb_b, ↓pz0_b, ↓pz1_b, al_b, as_b, rc_b, gi_b, pi_b, gr_b, zr0, zr1, zrb, u_s, u_n, v_s, v_n, ↓isIn_b, ↓within_b, ite_T, ite_F, il_t, il_f, li_t, li_f, it_t, it_f, ti_t, ti_f, ie_t, ie_f, ei_t, ei_f, nn_le_t, nn_le_f, nn_lt_t, nn_lt_f, nn_eq_t, nn_eq_f, nI_1, nI_add, ni_addl, ni_ladd, pk_mul, ni_mull, b2_t, b2_f, b2_0, one0, m1_eq, ni_m1, reduceCtorEq, Bool.false_eq_true, nI_clamp, if_true, Option.some.injEq, Prod.mk.injEq, and_true, true_and, Nat.reduceAdd, Nat.reduceMul, Nat.reduceSub, Nat.reduceEqDiff, Nat.reduceLeDiff, Nat.reduceLT, g4] <;> rfl
        · simp (disch := first | assumption | with_unfolding_all exact hW.1 _ _ rfl | rfl | exact pu_okI (by first | assumption | with_unfolding_all exact hW.1 _ _ rfl) (by omega) (by omega) | exact pu_oqI (by first | assumption | with_unfolding_all exact hW.1 _ _ rfl) (by omega) (by omega) | omega | decide) only [↓reduceIte, ↓gi_b, ↓pi_b, ↓gr_b, ↓pr_b, ↓al_b, ↓as_b, ↓al_3, ↓as_3, ↓al_12, ↓as_12, ↓al_l, ↓as_l, ↓rc_b, ↓Option.bind_some, ↓zr0_b, ↓zr1_b, ↓zrb_b, ↓pz0_b, ↓pz1_b, al_b, as_b, rc_b, gi_b, pi_b, gr_b, zr0, zr1, zrb, u_s, u_n, v_s, v_n, ↓isIn_b, ↓within_b, ite_T, ite_F, il_t, il_f, li_t, li_f, it_t, it_f, ti_t, ti_f, ie_t, ie_f, ei_t, ei_f, nn_le_t, nn_le_f, nn_lt_t, nn_lt_f, nn_eq_t, nn_eq_f, nI_1, nI_add, ni_addl, ni_ladd, pk_mul, ni_mull, b2_t, b2_f, b2_0, one0, m1_eq, ni_m1, reduceCtorEq, Bool.false_eq_true, nI_clamp, if_true, Option.some.injEq, Prod.mk.injEq, and_true, true_and, Nat.reduceAdd, Nat.reduceMul, Nat.reduceSub, Nat.reduceEqDiff, Nat.reduceLeDiff, Nat.reduceLT, g5] <;> rfl
        · simp (disch := first | assumption | with_unfolding_all exact hW.1 _ _ rfl | rfl | exact pu_okI (by first | assumption | with_unfolding_all exact hW.1 _ _ rfl) (by omega) (by omega) | exact pu_oqI (by first | assumption | with_unfolding_all exact hW.1 _ _ rfl) (by omega) (by omega) | omega | decide) only [↓reduceIte, ↓gi_b, ↓pi_b, ↓gr_b, ↓pr_b, ↓al_b, ↓as_b, ↓al_3, ↓as_3, ↓al_12, ↓as_12, ↓al_l, ↓as_l, ↓rc_b, ↓Option.bind_some, ↓zr0_b, ↓zr1_b, ↓zrb_b, ↓pz0_b, ↓pz1_b, al_b, as_b, rc_b, gi_b, pi_b, gr_b, zr0, zr1, zrb, u_s, u_n, v_s, v_n, ↓isIn_b, ↓within_b, ite_T, ite_F, il_t, il_f, li_t, li_f, it_t, it_f, ti_t, ti_f, ie_t, ie_f, ei_t, ei_f, nn_le_t, nn_le_f, nn_lt_t, nn_lt_f, nn_eq_t, nn_eq_f, nI_1, nI_add, ni_addl, ni_ladd, pk_mul, ni_mull, b2_t, b2_f, b2_0, one0, m1_eq, ni_m1, reduceCtorEq, Bool.false_eq_true, nI_clamp, if_true, Option.some.injEq, Prod.mk.injEq, and_true, true_and, Nat.reduceAdd, Nat.reduceMul, Nat.reduceSub, Nat.reduceEqDiff, Nat.reduceLeDiff, Nat.reduceLT, g6] <;> rfl
        · rw [u_n (by omega)]; exact (g7 x hx).1
        · show _ = nI (upG (pt p) w (pt p w + 1) x)
          by_cases ex : x = w
          · subst ex; rw [u_s, upG_s]
          · rw [u_n (by omega), upG_n ex]; exact (g7 x hx).2
        · rw [u_n (by omega)]; exact g8 d hd
        · rw [u_n (by omega)]; exact g9 k hk
        · rw [u_n (by omega), u_n (by omega)]; exact g10 k hk hg
      by_cases e5 : (pt p w + 1) % (V w).2.1 = 0
      · have e50 : (nI ((pt p w + 1) % (V w).2.1) = 0) = True := by rw [e5]; exact eq_true rfl
        simp (disch := first | assumption | with_unfolding_all exact hW.1 _ _ rfl | rfl | exact pu_okI (by first | assumption | with_unfolding_all exact hW.1 _ _ rfl) (by omega) (by omega) | exact pu_oqI (by first | assumption | with_unfolding_all exact hW.1 _ _ rfl) (by omega) (by omega) | omega | decide) only [↓reduceIte, ↓gi_b, ↓pi_b, ↓gr_b, ↓pr_b, ↓al_b, ↓as_b, ↓al_3, ↓as_3, ↓al_12, ↓as_12, ↓al_l, ↓as_l, ↓rc_b, ↓Option.bind_some, ↓zr0_b, ↓zr1_b, ↓zrb_b, ↓pz0_b, ↓pz1_b, al_b, as_b, rc_b, gi_b, pi_b, gr_b, zr0, zr1, zrb, u_s, u_n, v_s, v_n, ↓isIn_b, ↓within_b, ite_T, ite_F, il_t, il_f, li_t, li_f, it_t, it_f, ti_t, ti_f, ie_t, ie_f, ei_t, ei_f, nn_le_t, nn_le_f, nn_lt_t, nn_lt_f, nn_eq_t, nn_eq_f, nI_1, nI_add, ni_addl, ni_ladd, pk_mul, ni_mull, b2_t, b2_f, b2_0, one0, m1_eq, ni_m1, reduceCtorEq, Bool.false_eq_true, nI_clamp, if_true, Option.some.injEq, Prod.mk.injEq, and_true, true_and, Nat.reduceAdd, Nat.reduceMul, Nat.reduceSub, Nat.reduceEqDiff, Nat.reduceLeDiff, Nat.reduceLT, ↓gr40_19 hW, ↓gr40_20 hW, ↓gr40_66 hW, ↓gr40_18 hW, ↓gr40_68 hW, ↓gr40_63 hW, ↓gr40_70 hW, ↓gr40_71 hW, ↓gr40_67 hW, m1, m2, m3, e73, es, e4, e74, pk_rem, e50]
        exact fin _ (by rw [decide_eq_true e5, if_pos rfl])
      · simp (disch := first | assumption | with_unfolding_all exact hW.1 _ _ rfl | rfl | exact pu_okI (by first | assumption | with_unfolding_all exact hW.1 _ _ rfl) (by omega) (by omega) | exact pu_oqI (by first | assumption | with_unfolding_all exact hW.1 _ _ rfl) (by omega) (by omega) | omega | decide) only [↓reduceIte, ↓gi_b, ↓pi_b, ↓gr_b, ↓pr_b, ↓al_b, ↓as_b, ↓al_3, ↓as_3, ↓al_12, ↓as_12, ↓al_l, ↓as_l, ↓rc_b, ↓Option.bind_some, ↓zr0_b, ↓zr1_b, ↓zrb_b, ↓pz0_b, ↓pz1_b, al_b, as_b, rc_b, gi_b, pi_b, gr_b, zr0, zr1, zrb, u_s, u_n, v_s, v_n, ↓isIn_b, ↓within_b, ite_T, ite_F, il_t, il_f, li_t, li_f, it_t, it_f, ti_t, ti_f, ie_t, ie_f, ei_t, ei_f, nn_le_t, nn_le_f, nn_lt_t, nn_lt_f, nn_eq_t, nn_eq_f, nI_1, nI_add, ni_addl, ni_ladd, pk_mul, ni_mull, b2_t, b2_f, b2_0, one0, m1_eq, ni_m1, reduceCtorEq, Bool.false_eq_true, nI_clamp, if_true, Option.some.injEq, Prod.mk.injEq, and_true, true_and, Nat.reduceAdd, Nat.reduceMul, Nat.reduceSub, Nat.reduceEqDiff, Nat.reduceLeDiff, Nat.reduceLT, ↓gr40_19 hW, ↓gr40_20 hW, ↓gr40_66 hW, ↓gr40_18 hW, ↓gr40_68 hW, ↓gr40_63 hW, ↓gr40_70 hW, ↓gr40_71 hW, ↓gr40_67 hW, m1, m2, m3, e73, es, e4, e74, pk_rem]
        exact fin _ (by rw [decide_eq_false e5, if_neg (by decide)]; rfl)
    · rw [if_neg e4]
      simp (disch := first | assumption | with_unfolding_all exact hW.1 _ _ rfl | rfl | exact pu_okI (by first | assumption | with_unfolding_all exact hW.1 _ _ rfl) (by omega) (by omega) | exact pu_oqI (by first | assumption | with_unfolding_all exact hW.1 _ _ rfl) (by omega) (by omega) | omega | decide) only [↓reduceIte, ↓gi_b, ↓pi_b, ↓gr_b, ↓pr_b, ↓al_b, ↓as_b, ↓al_3, ↓as_3, ↓al_12, ↓as_12, ↓al_l, ↓as_l, ↓rc_b, ↓Option.bind_some, ↓zr0_b, ↓zr1_b, ↓zrb_b, ↓pz0_b, ↓pz1_b, al_b, as_b, rc_b, gi_b, pi_b, gr_b, zr0, zr1, zrb, u_s, u_n, v_s, v_n, ↓isIn_b, ↓within_b, ite_T, ite_F, il_t, il_f, li_t, li_f, it_t, it_f, ti_t, ti_f, ie_t, ie_f, ei_t, ei_f, nn_le_t, nn_le_f, nn_lt_t, nn_lt_f, nn_eq_t, nn_eq_f, nI_1, nI_add, ni_addl, ni_ladd, pk_mul, ni_mull, b2_t, b2_f, b2_0, one0, m1_eq, ni_m1, reduceCtorEq, Bool.false_eq_true, nI_clamp, if_true, Option.some.injEq, Prod.mk.injEq, and_true, true_and, Nat.reduceAdd, Nat.reduceMul, Nat.reduceSub, Nat.reduceEqDiff, Nat.reduceLeDiff, Nat.reduceLT, ↓gr40_19 hW, ↓gr40_20 hW, ↓gr40_66 hW, ↓gr40_18 hW, ↓gr40_68 hW, ↓gr40_63 hW, ↓gr40_70 hW, ↓gr40_71 hW, ↓gr40_67 hW, m1, m2, m3, e73, es]
      exact Rn_some ⟨I, rfl, fun _ _ _ _ => rfl, hp⟩
set_option maxHeartbeats 4000000 in
set_option maxRecDepth 100000 in
theorem m_strike2 (hZ : Z_B Z) (hh : ¬ th (zT Z) = none) (ht : t ≤ 95) {i C : Nat} : ∀ (f N : Nat) (o : Option Nat) (B : Nat) (I : Nat → Nat → Int32) (p : S_P), f < N → (∀ w, o = some w → w < znw Z ∧ w < f) → InvM s I P Z → PM I (znw Z) (zW Z) (th (zT Z)) p → P_B (zW Z) (znw Z) t i B C p → P_1 p → B + f < 1000000 → C + hdN o ≤ 120 →
    Rn (fX9_strike_2 N (some 40) (nI t) (oI o) (pu_hp s I P J n)) fun h => ∃ I', h = pu_hp s I' P J n ∧ MF I I' ∧ PM I' (znw Z) (zW Z) (th (zT Z)) (S_strike (zW Z) t f o p) := by
  have hV := hZ.2.2.1.2
  have hnw := hZ.2.2.1.1
  intro f
  induction f with
  | zero =>
    intro N o B I p hN ho hM hp hB h1 hb hc
    obtain ⟨N, rfl⟩ : ∃ N', N = N' + 1 := ⟨N - 1, by omega⟩
    have hW := hM.1
    cases o with
    | some w => have := (ho w rfl).2; omega
    | none =>
      show Rn (fX9_strike_2_b _ _ _ _ _) _
      unfold fX9_strike_2_b
      simp (disch := first | assumption | with_unfolding_all exact hW.1 _ _ rfl | rfl | exact pu_okI (by first | assumption | with_unfolding_all exact hW.1 _ _ rfl) (by omega) (by omega) | exact pu_oqI (by first | assumption | with_unfolding_all exact hW.1 _ _ rfl) (by omega) (by omega) | omega | decide) only [↓reduceIte, ↓gi_b, ↓pi_b, ↓gr_b, ↓pr_b, ↓al_b, ↓as_b, ↓al_3, ↓as_3, ↓al_12, ↓as_12, ↓al_l, ↓as_l, ↓rc_b, ↓Option.bind_some, ↓zr0_b, ↓zr1_b, ↓zrb_b, ↓pz0_b, ↓pz1_b, al_b, as_b, rc_b, gi_b, pi_b, gr_b, zr0, zr1, zrb, u_s, u_n, v_s, v_n, ↓isIn_b, ↓within_b, ite_T, ite_F, il_t, il_f, li_t, li_f, it_t, it_f, ti_t, ti_f, ie_t, ie_f, ei_t, ei_f, nn_le_t, nn_le_f, nn_lt_t, nn_lt_f, nn_eq_t, nn_eq_f, nI_1, nI_add, ni_addl, ni_ladd, pk_mul, ni_mull, b2_t, b2_f, b2_0, one0, m1_eq, ni_m1, reduceCtorEq, Bool.false_eq_true, nI_clamp, if_true, Option.some.injEq, Prod.mk.injEq, and_true, true_and, Nat.reduceAdd, Nat.reduceMul, Nat.reduceSub, Nat.reduceEqDiff, Nat.reduceLeDiff, Nat.reduceLT, oI]
      exact Rn_some ⟨I, rfl, fun _ _ _ _ => rfl, hp⟩
  | succ f ih =>
    intro N o B I p hN ho hM hp hB h1 hb hc
    obtain ⟨N, rfl⟩ : ∃ N', N = N' + 1 := ⟨N - 1, by omega⟩
    have hW := hM.1
    cases o with
    | none =>
      show Rn (fX9_strike_2_b _ _ _ _ _) _
      unfold fX9_strike_2_b
      simp (disch := first | assumption | with_unfolding_all exact hW.1 _ _ rfl | rfl | exact pu_okI (by first | assumption | with_unfolding_all exact hW.1 _ _ rfl) (by omega) (by omega) | exact pu_oqI (by first | assumption | with_unfolding_all exact hW.1 _ _ rfl) (by omega) (by omega) | omega | decide) only [↓reduceIte, ↓gi_b, ↓pi_b, ↓gr_b, ↓pr_b, ↓al_b, ↓as_b, ↓al_3, ↓as_3, ↓al_12, ↓as_12, ↓al_l, ↓as_l, ↓rc_b, ↓Option.bind_some, ↓zr0_b, ↓zr1_b, ↓zrb_b, ↓pz0_b, ↓pz1_b, al_b, as_b, rc_b, gi_b, pi_b, gr_b, zr0, zr1, zrb, u_s, u_n, v_s, v_n, ↓isIn_b, ↓within_b, ite_T, ite_F, il_t, il_f, li_t, li_f, it_t, it_f, ti_t, ti_f, ie_t, ie_f, ei_t, ei_f, nn_le_t, nn_le_f, nn_lt_t, nn_lt_f, nn_eq_t, nn_eq_f, nI_1, nI_add, ni_addl, ni_ladd, pk_mul, ni_mull, b2_t, b2_f, b2_0, one0, m1_eq, ni_m1, reduceCtorEq, Bool.false_eq_true, nI_clamp, if_true, Option.some.injEq, Prod.mk.injEq, and_true, true_and, Nat.reduceAdd, Nat.reduceMul, Nat.reduceSub, Nat.reduceEqDiff, Nat.reduceLeDiff, Nat.reduceLT, oI]
      exact Rn_some ⟨I, rfl, fun _ _ _ _ => rfl, hp⟩
    | some w =>
      obtain ⟨hw, hwf⟩ := ho w rfl
      have hc' : C + (w + 1) ≤ 120 := hc
      obtain ⟨d1, d2⟩ := S_st_b (i := i) hV hw ht hB
      show Rn (fX9_strike_2_b (fX9_strike_2 N) _ _ (nI w) _) _
      unfold fX9_strike_2_b
      simp (disch := first | assumption | with_unfolding_all exact hW.1 _ _ rfl | rfl | exact pu_okI (by first | assumption | with_unfolding_all exact hW.1 _ _ rfl) (by omega) (by omega) | exact pu_oqI (by first | assumption | with_unfolding_all exact hW.1 _ _ rfl) (by omega) (by omega) | omega | decide) only [↓reduceIte, ↓gi_b, ↓pi_b, ↓gr_b, ↓pr_b, ↓al_b, ↓as_b, ↓al_3, ↓as_3, ↓al_12, ↓as_12, ↓al_l, ↓as_l, ↓rc_b, ↓Option.bind_some, ↓zr0_b, ↓zr1_b, ↓zrb_b, ↓pz0_b, ↓pz1_b, al_b, as_b, rc_b, gi_b, pi_b, gr_b, zr0, zr1, zrb, u_s, u_n, v_s, v_n, ↓isIn_b, ↓within_b, ite_T, ite_F, il_t, il_f, li_t, li_f, it_t, it_f, ti_t, ti_f, ie_t, ie_f, ei_t, ei_f, nn_le_t, nn_le_f, nn_lt_t, nn_lt_f, nn_eq_t, nn_eq_f, nI_1, nI_add, ni_addl, ni_ladd, pk_mul, ni_mull, b2_t, b2_f, b2_0, one0, m1_eq, ni_m1, reduceCtorEq, Bool.false_eq_true, nI_clamp, if_true, Option.some.injEq, Prod.mk.injEq, and_true, true_and, Nat.reduceAdd, Nat.reduceMul, Nat.reduceSub, Nat.reduceEqDiff, Nat.reduceLeDiff, Nat.reduceLT]
      refine Rn_bind (m_st hZ hM hw ht hh hp hB (by omega) (by have := hB.2.2.2.2; omega) h1) ?_
      rintro _ ⟨I1, rfl, f1, g1⟩
      have hM1 := f1.inv hM
      show Rn _ fun h => ∃ I', h = pu_hp s I' P J n ∧ MF I I' ∧ PM I' (znw Z) (zW Z) (th (zT Z)) (if (S_st (zW Z) w t p).2 = true then S_strike (zW Z) t f (zW Z w).2.2 (S_st (zW Z) w t p).1 else (S_st (zW Z) w t p).1)
      cases e : (S_st (zW Z) w t p).2 with
      | false =>
        rw [if_neg (show ¬ (false = true) by decide), if_neg (show ¬ (false = true) by decide)]
        obtain ⟨N, rfl⟩ : ∃ N', N = N' + 1 := ⟨N - 1, by omega⟩
        show Rn (fX9_strike_2_b _ _ _ (oI none) _) _
        unfold fX9_strike_2_b
        simp (disch := first | assumption | with_unfolding_all exact hW.1 _ _ rfl | rfl | exact pu_okI (by first | assumption | with_unfolding_all exact hW.1 _ _ rfl) (by omega) (by omega) | exact pu_oqI (by first | assumption | with_unfolding_all exact hW.1 _ _ rfl) (by omega) (by omega) | omega | decide) only [↓reduceIte, ↓gi_b, ↓pi_b, ↓gr_b, ↓pr_b, ↓al_b, ↓as_b, ↓al_3, ↓as_3, ↓al_12, ↓as_12, ↓al_l, ↓as_l, ↓rc_b, ↓Option.bind_some, ↓zr0_b, ↓zr1_b, ↓zrb_b, ↓pz0_b, ↓pz1_b, al_b, as_b, rc_b, gi_b, pi_b, gr_b, zr0, zr1, zrb, u_s, u_n, v_s, v_n, ↓isIn_b, ↓within_b, ite_T, ite_F, il_t, il_f, li_t, li_f, it_t, it_f, ti_t, ti_f, ie_t, ie_f, ei_t, ei_f, nn_le_t, nn_le_f, nn_lt_t, nn_lt_f, nn_eq_t, nn_eq_f, nI_1, nI_add, ni_addl, ni_ladd, pk_mul, ni_mull, b2_t, b2_f, b2_0, one0, m1_eq, ni_m1, reduceCtorEq, Bool.false_eq_true, nI_clamp, if_true, Option.some.injEq, Prod.mk.injEq, and_true, true_and, Nat.reduceAdd, Nat.reduceMul, Nat.reduceSub, Nat.reduceEqDiff, Nat.reduceLeDiff, Nat.reduceLT, oI]
        exact Rn_some ⟨I1, rfl, f1, g1⟩
      | true =>
        rw [if_pos rfl, if_pos rfl]
        have e3 : ¬ (zW Z w).1 = 3 := fun q => by rw [d2 q] at e; cases e
        rw [if_neg e3] at d1
        have hlt : ∀ w', (zW Z w).2.2 = some w' → w' < w := (hV w hw).2.2
        refine Rn_mono (ih N (zW Z w).2.2 (B + 1) I1 _ (by omega) (fun w' q => by have := hlt w' q; omega) hM1 g1 d1 (S_st_1 (by omega) (hV w hw) ht h1) (by omega) ?_) ?_
        · cases q : (zW Z w).2.2 with
          | none => show C + 0 ≤ 120; omega
          | some w' => have := hlt w' q; show C + (w' + 1) ≤ 120; omega
        · rintro _ ⟨I2, rfl, f2, g2⟩
          exact ⟨I2, rfl, f1.tr f2, g2⟩
set_option maxHeartbeats 4000000 in
set_option maxRecDepth 100000 in
theorem m_strike (hZ : Z_B Z) (hh : ¬ th (zT Z) = none) (ht : t ≤ 95) {i B C : Nat} {o : Option Nat} (ho : ∀ w, o = some w → w < znw Z) (hM : InvM s I P Z) (hp : PM I (znw Z) (zW Z) (th (zT Z)) p) (hB : P_B (zW Z) (znw Z) t i B C p) (h1 : P_1 p) (hb : B + 11 < 1000000) (hc : C + hdN o ≤ 120) :
    Rn (fX9_strike 40 (oI o) (nI t) (pu_hp s I P J n)) fun h => ∃ I', h = pu_hp s I' P J n ∧ MF I I' ∧ PM I' (znw Z) (zW Z) (th (zT Z)) (S_strike (zW Z) t 11 o p) := by
  have hnw := hZ.2.2.1.1
  unfold fX9_strike
  exact m_strike2 hZ hh ht 11 am_fu o B I p (by unfold am_fu; omega) (fun w q => by have := ho w q; omega) hM hp hB h1 hb hc
end MP
