/-! records: span, record -/
def spF (X : S_X) : Option Nat → Nat
  | none => 0
  | some b => dN X b
def spD (X : S_X) : Option Nat → Int32
  | none => 0
  | some b => dI X b
def spT (K : S_K) (X : S_X) (o : Option Nat) : Nat := match o with
  | none => if 0 < knb K then dN X 0 else 96
  | some b => if b + 1 < knb K then dN X (b + 1) else 96
theorem le_pred {f t : Nat} (hf : f < 1000000) (ht : t < 1000000) : (nI f ≤ nI t - 1) = (f < t) := by
  cases t with
  | zero =>
    rw [eq_iff_iff]
    refine ⟨fun q => ?_, fun q => by omega⟩
    have h0 : nI 0 - 1 = (-1 : Int32) := by decide
    rw [h0, i_le] at q
    exact absurd (Int32.lt_of_lt_of_le (by decide : (-1 : Int32) < 0) (nI_pos' (show f < 2147483648 by omega))) q
  | succ t => rw [nI_pred, ni_le (by omega) (by omega), eq_iff_iff]; omega
section SP
variable {s : Nat → Option pu_S} {I : Nat → Nat → Int32} {P : Nat → Nat → Option Nat} {J : Nat → Nat → Int64} {n : Nat × Nat}
variable {Z : S_Z} {i j t : Nat} {q : Option Nat} {I0 : Nat → Nat → Int32} {P0 : Nat → Nat → Option Nat}
set_option maxHeartbeats 4000000 in
set_option maxRecDepth 100000 in
theorem RunAt.tickg (hZ : Z_B Z) (hi : i < znc Z) (hR : RunAt s I P Z i j q t I0 P0) {b : Nat} (hb : b < 1000) : fX5_tickOf 23 (nI b) (pu_hp s I0 P0 J n) = some (if b < knb (zK Z i) then dI (S_at (zK Z i) (oF Z q) (tw (zT Z) j) true t) b else -1, pu_hp s I0 P0 J n) := by
  by_cases h : b < knb (zK Z i)
  · rw [if_pos h, hR.tick hZ hi h]
  · rw [if_neg h]
    obtain ⟨c, f, h1, h2, h3, h4, h5, h6, h7, h8⟩ := hR
    obtain ⟨r1, r2, r3, r4, r5, r6, r7, r8, r9, r10⟩ := id h4
    have hc1 := h5.1
    have hnb := (hZ.1.2 i hi).1.2.2.2.2.2.1
    unfold fX5_tickOf
    simp (disch := first | assumption | with_unfolding_all exact hW.1 _ _ rfl | rfl | exact pu_okI (by first | assumption | with_unfolding_all exact hW.1 _ _ rfl) (by omega) (by omega) | exact pu_oqI (by first | assumption | with_unfolding_all exact hW.1 _ _ rfl) (by omega) (by omega) | omega | decide) only [↓reduceIte, ↓gi_b, ↓pi_b, ↓gr_b, ↓pr_b, ↓al_b, ↓as_b, ↓al_3, ↓as_3, ↓al_12, ↓as_12, ↓al_l, ↓as_l, ↓rc_b, ↓Option.bind_some, ↓zr0_b, ↓zr1_b, ↓zrb_b, ↓pz0_b, ↓pz1_b, al_b, as_b, rc_b, gi_b, pi_b, gr_b, zr0, zr1, zrb, u_s, u_n, v_s, v_n, ↓isIn_b, ↓within_b, ite_T, ite_F, il_t, il_f, li_t, li_f, it_t, it_f, ti_t, ti_f, ie_t, ie_f, ei_t, ei_f, nn_le_t, nn_le_f, nn_lt_t, nn_lt_f, nn_eq_t, nn_eq_f, nI_1, nI_add, ni_addl, ni_ladd, pk_mul, ni_mull, b2_t, b2_f, b2_0, one0, m1_eq, ni_m1, reduceCtorEq, Bool.false_eq_true, nI_clamp, if_true, Option.some.injEq, Prod.mk.injEq, and_true, true_and, Nat.reduceAdd, Nat.reduceMul, Nat.reduceSub, Nat.reduceEqDiff, Nat.reduceLeDiff, Nat.reduceLT, ↓gr_h r1 r6 rfl, ↓hasB_b hc1 h6.2.2.2.2.1 hnb.2, decide_eq_false h]
theorem dN_dI {K : S_K} {X : S_X} (hx : S_XB K t X) (ht : t ≤ 96) (b : Nat) : (dI X b = -1 ∧ dN X b = 96) ∨ (dI X b = nI (dN X b) ∧ dN X b < 96) := by
  unfold dI dN
  by_cases h : b < xdr X
  · have := hx.2.2.2.2.2.2.2.2.2 b h
    rw [if_pos h, if_pos h]
    exact Or.inr ⟨rfl, by omega⟩
  · rw [if_neg h, if_neg h]; exact Or.inl ⟨rfl, rfl⟩
set_option maxHeartbeats 4000000 in
set_option maxRecDepth 100000 in
theorem c_spanL (hZ : Z_B Z) (hi : i < znc Z) (hq : ∀ k, q = some k → k < znf Z) (ht : t ≤ 96) (hR : RunAt s I P Z i j q t I0 P0) {o : Option Nat} (ho : ∀ b, o = some b → b < knb (zK Z i)) : fX5_spanLast 23 (oI o) (pu_hp s I0 P0 J n) = some (nI (spT (zK Z i) (S_at (zK Z i) (oF Z q) (tw (zT Z) j) true t) o) - 1, pu_hp s I0 P0 J n) := by
  have hnb := (hZ.1.2 i hi).1.2.2.2.2.2.1
  have hx := RunAt.b (t := t) hZ hi hq (tw (zT Z) j)
  have main : ∀ b1, b1 < 1000 → oI o + 1 = nI b1 → spT (zK Z i) (S_at (zK Z i) (oF Z q) (tw (zT Z) j) true t) o = (if b1 < knb (zK Z i) then dN (S_at (zK Z i) (oF Z q) (tw (zT Z) j) true t) b1 else 96) → fX5_spanLast 23 (oI o) (pu_hp s I0 P0 J n) = some (nI (spT (zK Z i) (S_at (zK Z i) (oF Z q) (tw (zT Z) j) true t) o) - 1, pu_hp s I0 P0 J n) := by
    intro b1 hb1 e1 e2
    have et := RunAt.tickg (J := J) (n := n) hZ hi hR hb1
    have r1 : s 23 = some (0, 5, 0) := by obtain ⟨c, f, -, -, -, h4, -⟩ := hR; exact h4.1
    rw [e2]
    unfold fX5_spanLast
    by_cases h : b1 < knb (zK Z i)
    · rw [if_pos h] at et ⊢
      rcases dN_dI hx ht b1 with ⟨d1, d2⟩ | ⟨d1, d2⟩
      · rw [d1] at et
        rw [d2]
        simp (disch := first | assumption | with_unfolding_all exact hW.1 _ _ rfl | rfl | exact pu_okI (by first | assumption | with_unfolding_all exact hW.1 _ _ rfl) (by omega) (by omega) | exact pu_oqI (by first | assumption | with_unfolding_all exact hW.1 _ _ rfl) (by omega) (by omega) | omega | decide) only [↓reduceIte, ↓gi_b, ↓pi_b, ↓gr_b, ↓pr_b, ↓al_b, ↓as_b, ↓al_3, ↓as_3, ↓al_12, ↓as_12, ↓al_l, ↓as_l, ↓rc_b, ↓Option.bind_some, ↓zr0_b, ↓zr1_b, ↓zrb_b, ↓pz0_b, ↓pz1_b, al_b, as_b, rc_b, gi_b, pi_b, gr_b, zr0, zr1, zrb, u_s, u_n, v_s, v_n, ↓isIn_b, ↓within_b, ite_T, ite_F, il_t, il_f, li_t, li_f, it_t, it_f, ti_t, ti_f, ie_t, ie_f, ei_t, ei_f, nn_le_t, nn_le_f, nn_lt_t, nn_lt_f, nn_eq_t, nn_eq_f, nI_1, nI_add, ni_addl, ni_ladd, pk_mul, ni_mull, b2_t, b2_f, b2_0, one0, m1_eq, ni_m1, reduceCtorEq, Bool.false_eq_true, nI_clamp, if_true, Option.some.injEq, Prod.mk.injEq, and_true, true_and, Nat.reduceAdd, Nat.reduceMul, Nat.reduceSub, Nat.reduceEqDiff, Nat.reduceLeDiff, Nat.reduceLT, e1, et]
        rfl
      · rw [d1] at et
        simp (disch := first | assumption | with_unfolding_all exact hW.1 _ _ rfl | rfl | exact pu_okI (by first | assumption | with_unfolding_all exact hW.1 _ _ rfl) (by omega) (by omega) | exact pu_oqI (by first | assumption | with_unfolding_all exact hW.1 _ _ rfl) (by omega) (by omega) | omega | decide) only [↓reduceIte, ↓gi_b, ↓pi_b, ↓gr_b, ↓pr_b, ↓al_b, ↓as_b, ↓al_3, ↓as_3, ↓al_12, ↓as_12, ↓al_l, ↓as_l, ↓rc_b, ↓Option.bind_some, ↓zr0_b, ↓zr1_b, ↓zrb_b, ↓pz0_b, ↓pz1_b, al_b, as_b, rc_b, gi_b, pi_b, gr_b, zr0, zr1, zrb, u_s, u_n, v_s, v_n, ↓isIn_b, ↓within_b, ite_T, ite_F, il_t, il_f, li_t, li_f, it_t, it_f, ti_t, ti_f, ie_t, ie_f, ei_t, ei_f, nn_le_t, nn_le_f, nn_lt_t, nn_lt_f, nn_eq_t, nn_eq_f, nI_1, nI_add, ni_addl, ni_ladd, pk_mul, ni_mull, b2_t, b2_f, b2_0, one0, m1_eq, ni_m1, reduceCtorEq, Bool.false_eq_true, nI_clamp, if_true, Option.some.injEq, Prod.mk.injEq, and_true, true_and, Nat.reduceAdd, Nat.reduceMul, Nat.reduceSub, Nat.reduceEqDiff, Nat.reduceLeDiff, Nat.reduceLT, e1, et]
    · rw [if_neg h] at et ⊢
      simp (disch := first | assumption | with_unfolding_all exact hW.1 _ _ rfl | rfl | exact pu_okI (by first | assumption | with_unfolding_all exact hW.1 _ _ rfl) (by omega) (by omega) | exact pu_oqI (by first | assumption | with_unfolding_all exact hW.1 _ _ rfl) (by omega) (by omega) | omega | decide) only [↓reduceIte, ↓gi_b, ↓pi_b, ↓gr_b, ↓pr_b, ↓al_b, ↓as_b, ↓al_3, ↓as_3, ↓al_12, ↓as_12, ↓al_l, ↓as_l, ↓rc_b, ↓Option.bind_some, ↓zr0_b, ↓zr1_b, ↓zrb_b, ↓pz0_b, ↓pz1_b, al_b, as_b, rc_b, gi_b, pi_b, gr_b, zr0, zr1, zrb, u_s, u_n, v_s, v_n, ↓isIn_b, ↓within_b, ite_T, ite_F, il_t, il_f, li_t, li_f, it_t, it_f, ti_t, ti_f, ie_t, ie_f, ei_t, ei_f, nn_le_t, nn_le_f, nn_lt_t, nn_lt_f, nn_eq_t, nn_eq_f, nI_1, nI_add, ni_addl, ni_ladd, pk_mul, ni_mull, b2_t, b2_f, b2_0, one0, m1_eq, ni_m1, reduceCtorEq, Bool.false_eq_true, nI_clamp, if_true, Option.some.injEq, Prod.mk.injEq, and_true, true_and, Nat.reduceAdd, Nat.reduceMul, Nat.reduceSub, Nat.reduceEqDiff, Nat.reduceLeDiff, Nat.reduceLT, e1, et]
      rfl
  cases o with
  | none => exact main 0 (by omega) rfl rfl
  | some b => exact main (b + 1) (by have := ho b rfl; omega) (nI_1 b) rfl
set_option maxHeartbeats 4000000 in
set_option maxRecDepth 100000 in
theorem c_spanF (hZ : Z_B Z) (hi : i < znc Z) (hR : RunAt s I P Z i j q t I0 P0) {o : Option Nat} (ho : ∀ b, o = some b → b < knb (zK Z i)) : fX5_spanFirst 23 (oI o) (pu_hp s I0 P0 J n) = some (spD (S_at (zK Z i) (oF Z q) (tw (zT Z) j) true t) o, pu_hp s I0 P0 J n) := by
  have hnb := (hZ.1.2 i hi).1.2.2.2.2.2.1
  have r1 : s 23 = some (0, 5, 0) := by obtain ⟨c, f, -, -, -, h4, -⟩ := hR; exact h4.1
  unfold fX5_spanFirst
  cases o with
  | none =>
    rw [show oI none = (-1 : Int32) from rfl]
    simp (disch := first | assumption | with_unfolding_all exact hW.1 _ _ rfl | rfl | exact pu_okI (by first | assumption | with_unfolding_all exact hW.1 _ _ rfl) (by omega) (by omega) | exact pu_oqI (by first | assumption | with_unfolding_all exact hW.1 _ _ rfl) (by omega) (by omega) | omega | decide) only [↓reduceIte, ↓gi_b, ↓pi_b, ↓gr_b, ↓pr_b, ↓al_b, ↓as_b, ↓al_3, ↓as_3, ↓al_12, ↓as_12, ↓al_l, ↓as_l, ↓rc_b, ↓Option.bind_some, ↓zr0_b, ↓zr1_b, ↓zrb_b, ↓pz0_b, ↓pz1_b, al_b, as_b, rc_b, gi_b, pi_b, gr_b, zr0, zr1, zrb, u_s, u_n, v_s, v_n, ↓isIn_b, ↓within_b, ite_T, ite_F, il_t, il_f, li_t, li_f, it_t, it_f, ti_t, ti_f, ie_t, ie_f, ei_t, ei_f, nn_le_t, nn_le_f, nn_lt_t, nn_lt_f, nn_eq_t, nn_eq_f, nI_1, nI_add, ni_addl, ni_ladd, pk_mul, ni_mull, b2_t, b2_f, b2_0, one0, m1_eq, ni_m1, reduceCtorEq, Bool.false_eq_true, nI_clamp, if_true, Option.some.injEq, Prod.mk.injEq, and_true, true_and, Nat.reduceAdd, Nat.reduceMul, Nat.reduceSub, Nat.reduceEqDiff, Nat.reduceLeDiff, Nat.reduceLT]
    rfl
  | some b =>
    have hb := ho b rfl
    rw [show oI (some b) = nI b from rfl]
    simp (disch := first | assumption | with_unfolding_all exact hW.1 _ _ rfl | rfl | exact pu_okI (by first | assumption | with_unfolding_all exact hW.1 _ _ rfl) (by omega) (by omega) | exact pu_oqI (by first | assumption | with_unfolding_all exact hW.1 _ _ rfl) (by omega) (by omega) | omega | decide) only [↓reduceIte, ↓gi_b, ↓pi_b, ↓gr_b, ↓pr_b, ↓al_b, ↓as_b, ↓al_3, ↓as_3, ↓al_12, ↓as_12, ↓al_l, ↓as_l, ↓rc_b, ↓Option.bind_some, ↓zr0_b, ↓zr1_b, ↓zrb_b, ↓pz0_b, ↓pz1_b, al_b, as_b, rc_b, gi_b, pi_b, gr_b, zr0, zr1, zrb, u_s, u_n, v_s, v_n, ↓isIn_b, ↓within_b, ite_T, ite_F, il_t, il_f, li_t, li_f, it_t, it_f, ti_t, ti_f, ie_t, ie_f, ei_t, ei_f, nn_le_t, nn_le_f, nn_lt_t, nn_lt_f, nn_eq_t, nn_eq_f, nI_1, nI_add, ni_addl, ni_ladd, pk_mul, ni_mull, b2_t, b2_f, b2_0, one0, m1_eq, ni_m1, reduceCtorEq, Bool.false_eq_true, nI_clamp, if_true, Option.some.injEq, Prod.mk.injEq, and_true, true_and, Nat.reduceAdd, Nat.reduceMul, Nat.reduceSub, Nat.reduceEqDiff, Nat.reduceLeDiff, Nat.reduceLT, hR.tick hZ hi hb]
    rfl
theorem spF_le {K : S_K} {X : S_X} (hx : S_XB K t X) (ht : t ≤ 96) (o : Option Nat) : spF X o ≤ 96 := by
  cases o with
  | none => exact Nat.zero_le _
  | some b => exact dN_le hx ht b
theorem spT_le {K : S_K} {X : S_X} (hx : S_XB K t X) (ht : t ≤ 96) (o : Option Nat) : spT K X o ≤ 96 := by
  unfold spT
  cases o with
  | none => dsimp only; split; exact dN_le hx ht 0; omega
  | some b => dsimp only; split; exact dN_le hx ht (b + 1); omega
set_option maxHeartbeats 4000000 in
set_option maxRecDepth 100000 in
theorem c_hasSpan (hZ : Z_B Z) (hi : i < znc Z) (hq : ∀ k, q = some k → k < znf Z) (ht : t ≤ 96) (hR : RunAt s I P Z i j q t I0 P0) {o : Option Nat} (ho : ∀ b, o = some b → b < knb (zK Z i)) : fX5_hasSpan 23 (oI o) (pu_hp s I0 P0 J n) = some (b2 (decide (spF (S_at (zK Z i) (oF Z q) (tw (zT Z) j) true t) o < spT (zK Z i) (S_at (zK Z i) (oF Z q) (tw (zT Z) j) true t) o)), pu_hp s I0 P0 J n) ∧ (spF (S_at (zK Z i) (oF Z q) (tw (zT Z) j) true t) o < spT (zK Z i) (S_at (zK Z i) (oF Z q) (tw (zT Z) j) true t) o → fX5_spanFirst 23 (oI o) (pu_hp s I0 P0 J n) = some (nI (spF (S_at (zK Z i) (oF Z q) (tw (zT Z) j) true t) o), pu_hp s I0 P0 J n)) := by
  have hx := RunAt.b (t := t) hZ hi hq (tw (zT Z) j)
  have e1 := c_spanF (J := J) (n := n) hZ hi hR ho
  have e2 := c_spanL (J := J) (n := n) hZ hi hq ht hR ho
  have hF := spF_le hx ht o
  have hT := spT_le hx ht o
  have r1 : s 23 = some (0, 5, 0) := by obtain ⟨c, f, -, -, -, h4, -⟩ := hR; exact h4.1
  have key : (spD (S_at (zK Z i) (oF Z q) (tw (zT Z) j) true t) o = -1 ∧ spF (S_at (zK Z i) (oF Z q) (tw (zT Z) j) true t) o = 96) ∨ spD (S_at (zK Z i) (oF Z q) (tw (zT Z) j) true t) o = nI (spF (S_at (zK Z i) (oF Z q) (tw (zT Z) j) true t) o) := by
    cases o with
    | none => exact Or.inr rfl
    | some b =>
      rcases dN_dI hx ht b with ⟨d1, d2⟩ | ⟨d1, d2⟩
      · exact Or.inl ⟨d1, d2⟩
      · exact Or.inr d1
  generalize hX : S_at (zK Z i) (oF Z q) (tw (zT Z) j) true t = X at e1 e2 hF hT key ⊢
  rcases key with ⟨k1, k2⟩ | k1
  · rw [k1] at e1
    refine ⟨?_, fun h => by omega⟩
    unfold fX5_hasSpan
    simp (disch := first | assumption | with_unfolding_all exact hW.1 _ _ rfl | rfl | exact pu_okI (by first | assumption | with_unfolding_all exact hW.1 _ _ rfl) (by omega) (by omega) | exact pu_oqI (by first | assumption | with_unfolding_all exact hW.1 _ _ rfl) (by omega) (by omega) | omega | decide) only [↓reduceIte, ↓gi_b, ↓pi_b, ↓gr_b, ↓pr_b, ↓al_b, ↓as_b, ↓al_3, ↓as_3, ↓al_12, ↓as_12, ↓al_l, ↓as_l, ↓rc_b, ↓Option.bind_some, ↓zr0_b, ↓zr1_b, ↓zrb_b, ↓pz0_b, ↓pz1_b, al_b, as_b, rc_b, gi_b, pi_b, gr_b, zr0, zr1, zrb, u_s, u_n, v_s, v_n, ↓isIn_b, ↓within_b, ite_T, ite_F, il_t, il_f, li_t, li_f, it_t, it_f, ti_t, ti_f, ie_t, ie_f, ei_t, ei_f, nn_le_t, nn_le_f, nn_lt_t, nn_lt_f, nn_eq_t, nn_eq_f, nI_1, nI_add, ni_addl, ni_ladd, pk_mul, ni_mull, b2_t, b2_f, b2_0, one0, m1_eq, ni_m1, reduceCtorEq, Bool.false_eq_true, nI_clamp, if_true, Option.some.injEq, Prod.mk.injEq, and_true, true_and, Nat.reduceAdd, Nat.reduceMul, Nat.reduceSub, Nat.reduceEqDiff, Nat.reduceLeDiff, Nat.reduceLT, e1, decide_eq_false (show ¬ spF X o < spT (zK Z i) X o by omega)]
  · rw [k1] at e1
    refine ⟨?_, fun _ => e1⟩
    have hlt : (nI (spT (zK Z i) X o) - 1 < nI (spF X o)) = (spT (zK Z i) X o ≤ spF X o) := out_lt (by omega) (by omega)
    unfold fX5_hasSpan
    by_cases h : spF X o < spT (zK Z i) X o
    · simp (disch := first | assumption | with_unfolding_all exact hW.1 _ _ rfl | rfl | exact pu_okI (by first | assumption | with_unfolding_all exact hW.1 _ _ rfl) (by omega) (by omega) | exact pu_oqI (by first | assumption | with_unfolding_all exact hW.1 _ _ rfl) (by omega) (by omega) | omega | decide) only [↓reduceIte, ↓gi_b, ↓pi_b, ↓gr_b, ↓pr_b, ↓al_b, ↓as_b, ↓al_3, ↓as_3, ↓al_12, ↓as_12, ↓al_l, ↓as_l, ↓rc_b, ↓Option.bind_some, ↓zr0_b, ↓zr1_b, ↓zrb_b, ↓pz0_b, ↓pz1_b, al_b, as_b, rc_b, gi_b, pi_b, gr_b, zr0, zr1, zrb, u_s, u_n, v_s, v_n, ↓isIn_b, ↓within_b, ite_T, ite_F, il_t, il_f, li_t, li_f, it_t, it_f, ti_t, ti_f, ie_t, ie_f, ei_t, ei_f, nn_le_t, nn_le_f, nn_lt_t, nn_lt_f, nn_eq_t, nn_eq_f, nI_1, nI_add, ni_addl, ni_ladd, pk_mul, ni_mull, b2_t, b2_f, b2_0, one0, m1_eq, ni_m1, reduceCtorEq, Bool.false_eq_true, nI_clamp, if_true, Option.some.injEq, Prod.mk.injEq, and_true, true_and, Nat.reduceAdd, Nat.reduceMul, Nat.reduceSub, Nat.reduceEqDiff, Nat.reduceLeDiff, Nat.reduceLT, e1, e2, hlt, decide_eq_true h, eq_false (show ¬ spT (zK Z i) X o ≤ spF X o by omega)]
    · simp (disch := first | assumption | with_unfolding_all exact hW.1 _ _ rfl | rfl | exact pu_okI (by first | assumption | with_unfolding_all exact hW.1 _ _ rfl) (by omega) (by omega) | exact pu_oqI (by first | assumption | with_unfolding_all exact hW.1 _ _ rfl) (by omega) (by omega) | omega | decide) only [↓reduceIte, ↓gi_b, ↓pi_b, ↓gr_b, ↓pr_b, ↓al_b, ↓as_b, ↓al_3, ↓as_3, ↓al_12, ↓as_12, ↓al_l, ↓as_l, ↓rc_b, ↓Option.bind_some, ↓zr0_b, ↓zr1_b, ↓zrb_b, ↓pz0_b, ↓pz1_b, al_b, as_b, rc_b, gi_b, pi_b, gr_b, zr0, zr1, zrb, u_s, u_n, v_s, v_n, ↓isIn_b, ↓within_b, ite_T, ite_F, il_t, il_f, li_t, li_f, it_t, it_f, ti_t, ti_f, ie_t, ie_f, ei_t, ei_f, nn_le_t, nn_le_f, nn_lt_t, nn_lt_f, nn_eq_t, nn_eq_f, nI_1, nI_add, ni_addl, ni_ladd, pk_mul, ni_mull, b2_t, b2_f, b2_0, one0, m1_eq, ni_m1, reduceCtorEq, Bool.false_eq_true, nI_clamp, if_true, Option.some.injEq, Prod.mk.injEq, and_true, true_and, Nat.reduceAdd, Nat.reduceMul, Nat.reduceSub, Nat.reduceEqDiff, Nat.reduceLeDiff, Nat.reduceLT, e1, e2, hlt, decide_eq_false h, eq_true (show spT (zK Z i) X o ≤ spF X o by omega)]
set_option maxHeartbeats 4000000 in
set_option maxRecDepth 100000 in
theorem m_spanF (hZ : Z_B Z) (hM : InvM s I P Z) (hi : i < znc Z) {X : S_X} (hI : M_R I 96 (zK Z i) X) {o : Option Nat} (ho : ∀ b, o = some b → b < knb (zK Z i)) : fX9_spanFrom 40 (oI o) (pu_hp s I P J n) = some (nI (spF X o), pu_hp s I P J n) := by
  have hW := hM.1
  have hnb := (hZ.1.2 i hi).1.2.2.2.2.2.1
  unfold fX9_spanFrom
  cases o with
  | none =>
    rw [show oI none = (-1 : Int32) from rfl]
    simp (disch := first | assumption | with_unfolding_all exact hW.1 _ _ rfl | rfl | exact pu_okI (by first | assumption | with_unfolding_all exact hW.1 _ _ rfl) (by omega) (by omega) | exact pu_oqI (by first | assumption | with_unfolding_all exact hW.1 _ _ rfl) (by omega) (by omega) | omega | decide) only [↓reduceIte, ↓gi_b, ↓pi_b, ↓gr_b, ↓pr_b, ↓al_b, ↓as_b, ↓al_3, ↓as_3, ↓al_12, ↓as_12, ↓al_l, ↓as_l, ↓rc_b, ↓Option.bind_some, ↓zr0_b, ↓zr1_b, ↓zrb_b, ↓pz0_b, ↓pz1_b, al_b, as_b, rc_b, gi_b, pi_b, gr_b, zr0, zr1, zrb, u_s, u_n, v_s, v_n, ↓isIn_b, ↓within_b, ite_T, ite_F, il_t, il_f, li_t, li_f, it_t, it_f, ti_t, ti_f, ie_t, ie_f, ei_t, ei_f, nn_le_t, nn_le_f, nn_lt_t, nn_lt_f, nn_eq_t, nn_eq_f, nI_1, nI_add, ni_addl, ni_ladd, pk_mul, ni_mull, b2_t, b2_f, b2_0, one0, m1_eq, ni_m1, reduceCtorEq, Bool.false_eq_true, nI_clamp, if_true, Option.some.injEq, Prod.mk.injEq, and_true, true_and, Nat.reduceAdd, Nat.reduceMul, Nat.reduceSub, Nat.reduceEqDiff, Nat.reduceLeDiff, Nat.reduceLT]
    rfl
  | some b =>
    have hb := ho b rfl
    have e := hI.2.2.2.2.2.2.2 b (by omega)
    rw [show oI (some b) = nI b from rfl]
    simp (disch := first | assumption | with_unfolding_all exact hW.1 _ _ rfl | rfl | exact pu_okI (by first | assumption | with_unfolding_all exact hW.1 _ _ rfl) (by omega) (by omega) | exact pu_oqI (by first | assumption | with_unfolding_all exact hW.1 _ _ rfl) (by omega) (by omega) | omega | decide) only [↓reduceIte, ↓gi_b, ↓pi_b, ↓gr_b, ↓pr_b, ↓al_b, ↓as_b, ↓al_3, ↓as_3, ↓al_12, ↓as_12, ↓al_l, ↓as_l, ↓rc_b, ↓Option.bind_some, ↓zr0_b, ↓zr1_b, ↓zrb_b, ↓pz0_b, ↓pz1_b, al_b, as_b, rc_b, gi_b, pi_b, gr_b, zr0, zr1, zrb, u_s, u_n, v_s, v_n, ↓isIn_b, ↓within_b, ite_T, ite_F, il_t, il_f, li_t, li_f, it_t, it_f, ti_t, ti_f, ie_t, ie_f, ei_t, ei_f, nn_le_t, nn_le_f, nn_lt_t, nn_lt_f, nn_eq_t, nn_eq_f, nI_1, nI_add, ni_addl, ni_ladd, pk_mul, ni_mull, b2_t, b2_f, b2_0, one0, m1_eq, ni_m1, reduceCtorEq, Bool.false_eq_true, nI_clamp, if_true, Option.some.injEq, Prod.mk.injEq, and_true, true_and, Nat.reduceAdd, Nat.reduceMul, Nat.reduceSub, Nat.reduceEqDiff, Nat.reduceLeDiff, Nat.reduceLT, ↓gr40_56 hW, e]
    rfl
set_option maxHeartbeats 4000000 in
set_option maxRecDepth 100000 in
theorem m_spanT (hZ : Z_B Z) (hM : InvM s I P Z) (hi : i < znc Z) {X : S_X} (hI : M_R I 96 (zK Z i) X) {o : Option Nat} (ho : ∀ b, o = some b → b < knb (zK Z i)) : fX9_spanTo 40 (nI i) (oI o) (pu_hp s I P J n) = some (nI (spT (zK Z i) X o) - 1, pu_hp s I P J n) := by
  have hW := hM.1
  have hnc := hZ.1.1
  have hnb := (hZ.1.2 i hi).1.2.2.2.2.2.1
  have e3 := (hM.2.2.2.1 i hi).1.2.2.2.1
  have main : ∀ b1, b1 < 1000 → oI o + 1 = nI b1 → spT (zK Z i) X o = (if b1 < knb (zK Z i) then dN X b1 else 96) → fX9_spanTo 40 (nI i) (oI o) (pu_hp s I P J n) = some (nI (spT (zK Z i) X o) - 1, pu_hp s I P J n) := by
    intro b1 hb1 e1 e2
    rw [e2]
    unfold fX9_spanTo
    by_cases h : b1 < knb (zK Z i)
    · have e := hI.2.2.2.2.2.2.2 b1 (by omega)
      rw [if_pos h]
      simp (disch := first | assumption | with_unfolding_all exact hW.1 _ _ rfl | rfl | exact pu_okI (by first | assumption | with_unfolding_all exact hW.1 _ _ rfl) (by omega) (by omega) | exact pu_oqI (by first | assumption | with_unfolding_all exact hW.1 _ _ rfl) (by omega) (by omega) | omega | decide) only [↓reduceIte, ↓gi_b, ↓pi_b, ↓gr_b, ↓pr_b, ↓al_b, ↓as_b, ↓al_3, ↓as_3, ↓al_12, ↓as_12, ↓al_l, ↓as_l, ↓rc_b, ↓Option.bind_some, ↓zr0_b, ↓zr1_b, ↓zrb_b, ↓pz0_b, ↓pz1_b, al_b, as_b, rc_b, gi_b, pi_b, gr_b, zr0, zr1, zrb, u_s, u_n, v_s, v_n, ↓isIn_b, ↓within_b, ite_T, ite_F, il_t, il_f, li_t, li_f, it_t, it_f, ti_t, ti_f, ie_t, ie_f, ei_t, ei_f, nn_le_t, nn_le_f, nn_lt_t, nn_lt_f, nn_eq_t, nn_eq_f, nI_1, nI_add, ni_addl, ni_ladd, pk_mul, ni_mull, b2_t, b2_f, b2_0, one0, m1_eq, ni_m1, reduceCtorEq, Bool.false_eq_true, nI_clamp, if_true, Option.some.injEq, Prod.mk.injEq, and_true, true_and, Nat.reduceAdd, Nat.reduceMul, Nat.reduceSub, Nat.reduceEqDiff, Nat.reduceLeDiff, Nat.reduceLT, ↓gr40_8 hW, ↓gr40_56 hW, e3, e1, e]
      rfl
    · rw [if_neg h]
      simp (disch := first | assumption | with_unfolding_all exact hW.1 _ _ rfl | rfl | exact pu_okI (by first | assumption | with_unfolding_all exact hW.1 _ _ rfl) (by omega) (by omega) | exact pu_oqI (by first | assumption | with_unfolding_all exact hW.1 _ _ rfl) (by omega) (by omega) | omega | decide) only [↓reduceIte, ↓gi_b, ↓pi_b, ↓gr_b, ↓pr_b, ↓al_b, ↓as_b, ↓al_3, ↓as_3, ↓al_12, ↓as_12, ↓al_l, ↓as_l, ↓rc_b, ↓Option.bind_some, ↓zr0_b, ↓zr1_b, ↓zrb_b, ↓pz0_b, ↓pz1_b, al_b, as_b, rc_b, gi_b, pi_b, gr_b, zr0, zr1, zrb, u_s, u_n, v_s, v_n, ↓isIn_b, ↓within_b, ite_T, ite_F, il_t, il_f, li_t, li_f, it_t, it_f, ti_t, ti_f, ie_t, ie_f, ei_t, ei_f, nn_le_t, nn_le_f, nn_lt_t, nn_lt_f, nn_eq_t, nn_eq_f, nI_1, nI_add, ni_addl, ni_ladd, pk_mul, ni_mull, b2_t, b2_f, b2_0, one0, m1_eq, ni_m1, reduceCtorEq, Bool.false_eq_true, nI_clamp, if_true, Option.some.injEq, Prod.mk.injEq, and_true, true_and, Nat.reduceAdd, Nat.reduceMul, Nat.reduceSub, Nat.reduceEqDiff, Nat.reduceLeDiff, Nat.reduceLT, ↓gr40_8 hW, ↓gr40_56 hW, e3, e1]
      rfl
  cases o with
  | none => exact main 0 (by omega) rfl rfl
  | some b => exact main (b + 1) (by have := ho b rfl; omega) (nI_1 b) rfl
theorem rec_dec (hZ : Z_B Z) (hi : i < znc Z) (v : Int32) : (∃ o : Option Nat, v = oI o ∧ ∀ b, o = some b → b < knb (zK Z i)) ∨ (¬ v = -1 ∧ inB v 0 (nI (knb (zK Z i)) - 1) = false) := by
  have hnb := (hZ.1.2 i hi).1.2.2.2.2.2.1
  by_cases h : v = -1
  · exact Or.inl ⟨none, h, fun b hb => by cases hb⟩
  · rcases inB_dec v (c := knb (zK Z i)) (by omega) with ⟨b, hb, rfl, -⟩ | ⟨hf, -⟩
    · exact Or.inl ⟨some b, rfl, fun b' hb' => by cases hb'; exact hb⟩
    · exact Or.inr ⟨h, hf⟩
set_option maxHeartbeats 4000000 in
set_option maxRecDepth 100000 in
theorem c_isRec (hZ : Z_B Z) (hi : i < znc Z) {c : Nat} (hc : C_S s P0 c) (hci : C_I I0 c (zK Z i)) {o : Option Nat} (ho : ∀ b, o = some b → b < knb (zK Z i)) : fX8_isBallOrNone (some c) (oI o) (pu_hp s I0 P0 J n) = some (1, pu_hp s I0 P0 J n) := by
  have hnb := (hZ.1.2 i hi).1.2.2.2.2.2.1
  have hc1 := hc.1
  unfold fX8_isBallOrNone
  cases o with
  | none =>
    rw [show oI none = (-1 : Int32) from rfl]
    simp (disch := first | assumption | with_unfolding_all exact hW.1 _ _ rfl | rfl | exact pu_okI (by first | assumption | with_unfolding_all exact hW.1 _ _ rfl) (by omega) (by omega) | exact pu_oqI (by first | assumption | with_unfolding_all exact hW.1 _ _ rfl) (by omega) (by omega) | omega | decide) only [↓reduceIte, ↓gi_b, ↓pi_b, ↓gr_b, ↓pr_b, ↓al_b, ↓as_b, ↓al_3, ↓as_3, ↓al_12, ↓as_12, ↓al_l, ↓as_l, ↓rc_b, ↓Option.bind_some, ↓zr0_b, ↓zr1_b, ↓zrb_b, ↓pz0_b, ↓pz1_b, al_b, as_b, rc_b, gi_b, pi_b, gr_b, zr0, zr1, zrb, u_s, u_n, v_s, v_n, ↓isIn_b, ↓within_b, ite_T, ite_F, il_t, il_f, li_t, li_f, it_t, it_f, ti_t, ti_f, ie_t, ie_f, ei_t, ei_f, nn_le_t, nn_le_f, nn_lt_t, nn_lt_f, nn_eq_t, nn_eq_f, nI_1, nI_add, ni_addl, ni_ladd, pk_mul, ni_mull, b2_t, b2_f, b2_0, one0, m1_eq, ni_m1, reduceCtorEq, Bool.false_eq_true, nI_clamp, if_true, Option.some.injEq, Prod.mk.injEq, and_true, true_and, Nat.reduceAdd, Nat.reduceMul, Nat.reduceSub, Nat.reduceEqDiff, Nat.reduceLeDiff, Nat.reduceLT]
  | some b =>
    have hb := ho b rfl
    rw [show oI (some b) = nI b from rfl]
    simp (disch := first | assumption | with_unfolding_all exact hW.1 _ _ rfl | rfl | exact pu_okI (by first | assumption | with_unfolding_all exact hW.1 _ _ rfl) (by omega) (by omega) | exact pu_oqI (by first | assumption | with_unfolding_all exact hW.1 _ _ rfl) (by omega) (by omega) | omega | decide) only [↓reduceIte, ↓gi_b, ↓pi_b, ↓gr_b, ↓pr_b, ↓al_b, ↓as_b, ↓al_3, ↓as_3, ↓al_12, ↓as_12, ↓al_l, ↓as_l, ↓rc_b, ↓Option.bind_some, ↓zr0_b, ↓zr1_b, ↓zrb_b, ↓pz0_b, ↓pz1_b, al_b, as_b, rc_b, gi_b, pi_b, gr_b, zr0, zr1, zrb, u_s, u_n, v_s, v_n, ↓isIn_b, ↓within_b, ite_T, ite_F, il_t, il_f, li_t, li_f, it_t, it_f, ti_t, ti_f, ie_t, ie_f, ei_t, ei_f, nn_le_t, nn_le_f, nn_lt_t, nn_lt_f, nn_eq_t, nn_eq_f, nI_1, nI_add, ni_addl, ni_ladd, pk_mul, ni_mull, b2_t, b2_f, b2_0, one0, m1_eq, ni_m1, reduceCtorEq, Bool.false_eq_true, nI_clamp, if_true, Option.some.injEq, Prod.mk.injEq, and_true, true_and, Nat.reduceAdd, Nat.reduceMul, Nat.reduceSub, Nat.reduceEqDiff, Nat.reduceLeDiff, Nat.reduceLT, ↓hasB_b hc1 hci.2.2.2.2.1 hnb.2, decide_eq_true hb]
set_option maxHeartbeats 4000000 in
set_option maxRecDepth 100000 in
theorem c_isRecF (hZ : Z_B Z) (hi : i < znc Z) {c : Nat} (hc : C_S s P0 c) (hci : C_I I0 c (zK Z i)) {v : Int32} (h1 : ¬ v = -1) (h2 : inB v 0 (nI (knb (zK Z i)) - 1) = false) : fX8_isBallOrNone (some c) v (pu_hp s I0 P0 J n) = some (0, pu_hp s I0 P0 J n) := by
  have hnb := (hZ.1.2 i hi).1.2.2.2.2.2.1
  have hc1 := hc.1
  unfold fX8_isBallOrNone
  simp (disch := first | assumption | with_unfolding_all exact hW.1 _ _ rfl | rfl | exact pu_okI (by first | assumption | with_unfolding_all exact hW.1 _ _ rfl) (by omega) (by omega) | exact pu_oqI (by first | assumption | with_unfolding_all exact hW.1 _ _ rfl) (by omega) (by omega) | omega | decide) only [↓reduceIte, ↓gi_b, ↓pi_b, ↓gr_b, ↓pr_b, ↓al_b, ↓as_b, ↓al_3, ↓as_3, ↓al_12, ↓as_12, ↓al_l, ↓as_l, ↓rc_b, ↓Option.bind_some, ↓zr0_b, ↓zr1_b, ↓zrb_b, ↓pz0_b, ↓pz1_b, al_b, as_b, rc_b, gi_b, pi_b, gr_b, zr0, zr1, zrb, u_s, u_n, v_s, v_n, ↓isIn_b, ↓within_b, ite_T, ite_F, il_t, il_f, li_t, li_f, it_t, it_f, ti_t, ti_f, ie_t, ie_f, ei_t, ei_f, nn_le_t, nn_le_f, nn_lt_t, nn_lt_f, nn_eq_t, nn_eq_f, nI_1, nI_add, ni_addl, ni_ladd, pk_mul, ni_mull, b2_t, b2_f, b2_0, one0, m1_eq, ni_m1, reduceCtorEq, Bool.false_eq_true, nI_clamp, if_true, Option.some.injEq, Prod.mk.injEq, and_true, true_and, Nat.reduceAdd, Nat.reduceMul, Nat.reduceSub, Nat.reduceEqDiff, Nat.reduceLeDiff, Nat.reduceLT, eq_false h1, hasB_g hc1 hci.2.2.2.2.1 hnb.2, h2]
set_option maxHeartbeats 4000000 in
set_option maxRecDepth 100000 in
theorem m_isRec (hZ : Z_B Z) (hM : InvM s I P Z) (hi : i < znc Z) {o : Option Nat} (ho : ∀ b, o = some b → b < knb (zK Z i)) : fX9_isRecord 40 (nI i) (oI o) (pu_hp s I P J n) = some (1, pu_hp s I P J n) := by
  have hW := hM.1
  have hnb := (hZ.1.2 i hi).1.2.2.2.2.2.1
  unfold fX9_isRecord
  cases o with
  | none =>
    rw [show oI none = (-1 : Int32) from rfl]
    simp (disch := first | assumption | with_unfolding_all exact hW.1 _ _ rfl | rfl | exact pu_okI (by first | assumption | with_unfolding_all exact hW.1 _ _ rfl) (by omega) (by omega) | exact pu_oqI (by first | assumption | with_unfolding_all exact hW.1 _ _ rfl) (by omega) (by omega) | omega | decide) only [↓reduceIte, ↓gi_b, ↓pi_b, ↓gr_b, ↓pr_b, ↓al_b, ↓as_b, ↓al_3, ↓as_3, ↓al_12, ↓as_12, ↓al_l, ↓as_l, ↓rc_b, ↓Option.bind_some, ↓zr0_b, ↓zr1_b, ↓zrb_b, ↓pz0_b, ↓pz1_b, al_b, as_b, rc_b, gi_b, pi_b, gr_b, zr0, zr1, zrb, u_s, u_n, v_s, v_n, ↓isIn_b, ↓within_b, ite_T, ite_F, il_t, il_f, li_t, li_f, it_t, it_f, ti_t, ti_f, ie_t, ie_f, ei_t, ei_f, nn_le_t, nn_le_f, nn_lt_t, nn_lt_f, nn_eq_t, nn_eq_f, nI_1, nI_add, ni_addl, ni_ladd, pk_mul, ni_mull, b2_t, b2_f, b2_0, one0, m1_eq, ni_m1, reduceCtorEq, Bool.false_eq_true, nI_clamp, if_true, Option.some.injEq, Prod.mk.injEq, and_true, true_and, Nat.reduceAdd, Nat.reduceMul, Nat.reduceSub, Nat.reduceEqDiff, Nat.reduceLeDiff, Nat.reduceLT]
  | some b =>
    have hb := ho b rfl
    rw [show oI (some b) = nI b from rfl]
    simp (disch := first | assumption | with_unfolding_all exact hW.1 _ _ rfl | rfl | exact pu_okI (by first | assumption | with_unfolding_all exact hW.1 _ _ rfl) (by omega) (by omega) | exact pu_oqI (by first | assumption | with_unfolding_all exact hW.1 _ _ rfl) (by omega) (by omega) | omega | decide) only [↓reduceIte, ↓gi_b, ↓pi_b, ↓gr_b, ↓pr_b, ↓al_b, ↓as_b, ↓al_3, ↓as_3, ↓al_12, ↓as_12, ↓al_l, ↓as_l, ↓rc_b, ↓Option.bind_some, ↓zr0_b, ↓zr1_b, ↓zrb_b, ↓pz0_b, ↓pz1_b, al_b, as_b, rc_b, gi_b, pi_b, gr_b, zr0, zr1, zrb, u_s, u_n, v_s, v_n, ↓isIn_b, ↓within_b, ite_T, ite_F, il_t, il_f, li_t, li_f, it_t, it_f, ti_t, ti_f, ie_t, ie_f, ei_t, ei_f, nn_le_t, nn_le_f, nn_lt_t, nn_lt_f, nn_eq_t, nn_eq_f, nI_1, nI_add, ni_addl, ni_ladd, pk_mul, ni_mull, b2_t, b2_f, b2_0, one0, m1_eq, ni_m1, reduceCtorEq, Bool.false_eq_true, nI_clamp, if_true, Option.some.injEq, Prod.mk.injEq, and_true, true_and, Nat.reduceAdd, Nat.reduceMul, Nat.reduceSub, Nat.reduceEqDiff, Nat.reduceLeDiff, Nat.reduceLT, q_isBall hZ hM hi, inB_t1 hb (show knb (zK Z i) < 2147483648 by omega)]
set_option maxHeartbeats 4000000 in
set_option maxRecDepth 100000 in
theorem m_isRecF (hZ : Z_B Z) (hM : InvM s I P Z) (hi : i < znc Z) {v : Int32} (h1 : ¬ v = -1) (h2 : inB v 0 (nI (knb (zK Z i)) - 1) = false) : fX9_isRecord 40 (nI i) v (pu_hp s I P J n) = some (0, pu_hp s I P J n) := by
  have hW := hM.1
  unfold fX9_isRecord
  simp (disch := first | assumption | with_unfolding_all exact hW.1 _ _ rfl | rfl | exact pu_okI (by first | assumption | with_unfolding_all exact hW.1 _ _ rfl) (by omega) (by omega) | exact pu_oqI (by first | assumption | with_unfolding_all exact hW.1 _ _ rfl) (by omega) (by omega) | omega | decide) only [↓reduceIte, ↓gi_b, ↓pi_b, ↓gr_b, ↓pr_b, ↓al_b, ↓as_b, ↓al_3, ↓as_3, ↓al_12, ↓as_12, ↓al_l, ↓as_l, ↓rc_b, ↓Option.bind_some, ↓zr0_b, ↓zr1_b, ↓zrb_b, ↓pz0_b, ↓pz1_b, al_b, as_b, rc_b, gi_b, pi_b, gr_b, zr0, zr1, zrb, u_s, u_n, v_s, v_n, ↓isIn_b, ↓within_b, ite_T, ite_F, il_t, il_f, li_t, li_f, it_t, it_f, ti_t, ti_f, ie_t, ie_f, ei_t, ei_f, nn_le_t, nn_le_f, nn_lt_t, nn_lt_f, nn_eq_t, nn_eq_f, nI_1, nI_add, ni_addl, ni_ladd, pk_mul, ni_mull, b2_t, b2_f, b2_0, one0, m1_eq, ni_m1, reduceCtorEq, Bool.false_eq_true, nI_clamp, if_true, Option.some.injEq, Prod.mk.injEq, and_true, true_and, Nat.reduceAdd, Nat.reduceMul, Nat.reduceSub, Nat.reduceEqDiff, Nat.reduceLeDiff, Nat.reduceLT, eq_false h1, q_isBall hZ hM hi, h2]
end SP
set_option maxHeartbeats 4000000 in
set_option maxRecDepth 100000 in
theorem d_span {Z : S_Z} (hZ : Z_B Z) (v1 v2 v3 v4 v5 : Int32) : CallOK Z (fX8_span 1 v1 v2 v3 v4 v5) (fX9_span 40 v1 v2 v3 v4 v5) := by
  refine CallOK.q hZ ?_
  rcases rn_dec hZ v1 v2 v3 with ⟨i, j, q, hi, hj, hq, rfl, rfl, rfl⟩ | bad
  · have hx := RunAt.b (t := 96) hZ hi hq (tw (zT Z) j)
    rcases rec_dec hZ hi v4 with ⟨o, rfl, ho⟩ | ⟨r1, r2⟩
    · cases hb : inB v5 0 1 with
      | true =>
        have hF := spF_le hx (Nat.le_refl _) o
        have hT := spT_le hx (Nat.le_refl _) o
        refine ⟨if spF (S_at (zK Z i) (oF Z q) (tw (zT Z) j) true 96) o < spT (zK Z i) (S_at (zK Z i) (oF Z q) (tw (zT Z) j) true 96) o then (if v5 = 0 then nI (spF (S_at (zK Z i) (oF Z q) (tw (zT Z) j) true 96) o) else nI (spT (zK Z i) (S_at (zK Z i) (oF Z q) (tw (zT Z) j) true 96) o) - 1) else -1, fun s I P J n h => ?_, fun s I P J n h => ?_⟩
        · have hW := h.1
          unfold fX8_span
          simp (disch := first | assumption | with_unfolding_all exact hW.1 _ _ rfl | rfl | exact pu_okI (by first | assumption | with_unfolding_all exact hW.1 _ _ rfl) (by omega) (by omega) | exact pu_oqI (by first | assumption | with_unfolding_all exact hW.1 _ _ rfl) (by omega) (by omega) | omega | decide) only [↓reduceIte, ↓gi_b, ↓pi_b, ↓gr_b, ↓pr_b, ↓al_b, ↓as_b, ↓al_3, ↓as_3, ↓al_12, ↓as_12, ↓al_l, ↓as_l, ↓rc_b, ↓Option.bind_some, ↓zr0_b, ↓zr1_b, ↓zrb_b, ↓pz0_b, ↓pz1_b, al_b, as_b, rc_b, gi_b, pi_b, gr_b, zr0, zr1, zrb, u_s, u_n, v_s, v_n, ↓isIn_b, ↓within_b, ite_T, ite_F, il_t, il_f, li_t, li_f, it_t, it_f, ti_t, ti_f, ie_t, ie_f, ei_t, ei_f, nn_le_t, nn_le_f, nn_lt_t, nn_lt_f, nn_eq_t, nn_eq_f, nI_1, nI_add, ni_addl, ni_ladd, pk_mul, ni_mull, b2_t, b2_f, b2_0, one0, m1_eq, ni_m1, reduceCtorEq, Bool.false_eq_true, nI_clamp, if_true, Option.some.injEq, Prod.mk.injEq, and_true, true_and, Nat.reduceAdd, Nat.reduceMul, Nat.reduceSub, Nat.reduceEqDiff, Nat.reduceLeDiff, Nat.reduceLT]
          refine Rn_bind (c_start_t hZ h hi hj hq) ?_
          rintro _ ⟨I1, P1, rfl, hR⟩
          have hW := (hR.inv h).1
          obtain ⟨c, f, h1, h2, h3, h4, h5, h6, h7, h8⟩ := id hR
          simp (disch := first | assumption | with_unfolding_all exact hW.1 _ _ rfl | rfl | exact pu_okI (by first | assumption | with_unfolding_all exact hW.1 _ _ rfl) (by omega) (by omega) | exact pu_oqI (by first | assumption | with_unfolding_all exact hW.1 _ _ rfl) (by omega) (by omega) | omega | decide) only [↓reduceIte, ↓gi_b, ↓pi_b, ↓gr_b, ↓pr_b, ↓al_b, ↓as_b, ↓al_3, ↓as_3, ↓al_12, ↓as_12, ↓al_l, ↓as_l, ↓rc_b, ↓Option.bind_some, ↓zr0_b, ↓zr1_b, ↓zrb_b, ↓pz0_b, ↓pz1_b, al_b, as_b, rc_b, gi_b, pi_b, gr_b, zr0, zr1, zrb, u_s, u_n, v_s, v_n, ↓isIn_b, ↓within_b, ite_T, ite_F, il_t, il_f, li_t, li_f, it_t, it_f, ti_t, ti_f, ie_t, ie_f, ei_t, ei_f, nn_le_t, nn_le_f, nn_lt_t, nn_lt_f, nn_eq_t, nn_eq_f, nI_1, nI_add, ni_addl, ni_ladd, pk_mul, ni_mull, b2_t, b2_f, b2_0, one0, m1_eq, ni_m1, reduceCtorEq, Bool.false_eq_true, nI_clamp, if_true, Option.some.injEq, Prod.mk.injEq, and_true, true_and, Nat.reduceAdd, Nat.reduceMul, Nat.reduceSub, Nat.reduceEqDiff, Nat.reduceLeDiff, Nat.reduceLT, ↓gr1_14 hW, ↓gr_h h4.1 h4.2.2.2.2.2.1 rfl, c_isRec hZ hi h5 h6 ho, hb]
          refine Rn_bind (hR.go (e := 96) hZ hi hj hq (by omega) (by omega)) ?_
          rintro _ ⟨I2, rfl, hR2⟩
          obtain ⟨e1, e2⟩ := c_hasSpan (J := J) (n := n) hZ hi hq (Nat.le_refl _) hR2 ho
          have e3 := c_spanL (J := J) (n := n) hZ hi hq (Nat.le_refl _) hR2 ho
          by_cases hs : spF (S_at (zK Z i) (oF Z q) (tw (zT Z) j) true 96) o < spT (zK Z i) (S_at (zK Z i) (oF Z q) (tw (zT Z) j) true 96) o
          · rw [if_pos hs]
            by_cases h0 : v5 = 0
            · rw [if_pos h0]
              simp (disch := first | assumption | with_unfolding_all exact hW.1 _ _ rfl | rfl | exact pu_okI (by first | assumption | with_unfolding_all exact hW.1 _ _ rfl) (by omega) (by omega) | exact pu_oqI (by first | assumption | with_unfolding_all exact hW.1 _ _ rfl) (by omega) (by omega) | omega | decide) only [↓reduceIte, ↓gi_b, ↓pi_b, ↓gr_b, ↓pr_b, ↓al_b, ↓as_b, ↓al_3, ↓as_3, ↓al_12, ↓as_12, ↓al_l, ↓as_l, ↓rc_b, ↓Option.bind_some, ↓zr0_b, ↓zr1_b, ↓zrb_b, ↓pz0_b, ↓pz1_b, al_b, as_b, rc_b, gi_b, pi_b, gr_b, zr0, zr1, zrb, u_s, u_n, v_s, v_n, ↓isIn_b, ↓within_b, ite_T, ite_F, il_t, il_f, li_t, li_f, it_t, it_f, ti_t, ti_f, ie_t, ie_f, ei_t, ei_f, nn_le_t, nn_le_f, nn_lt_t, nn_lt_f, nn_eq_t, nn_eq_f, nI_1, nI_add, ni_addl, ni_ladd, pk_mul, ni_mull, b2_t, b2_f, b2_0, one0, m1_eq, ni_m1, reduceCtorEq, Bool.false_eq_true, nI_clamp, if_true, Option.some.injEq, Prod.mk.injEq, and_true, true_and, Nat.reduceAdd, Nat.reduceMul, Nat.reduceSub, Nat.reduceEqDiff, Nat.reduceLeDiff, Nat.reduceLT, ↓gr1_14 hW, e1, decide_eq_true hs, eq_true h0, e2 hs]
              exact Rn_some (hR2.qc h)
            · rw [if_neg h0]
              simp (disch := first | assumption | with_unfolding_all exact hW.1 _ _ rfl | rfl | exact pu_okI (by first | assumption | with_unfolding_all exact hW.1 _ _ rfl) (by omega) (by omega) | exact pu_oqI (by first | assumption | with_unfolding_all exact hW.1 _ _ rfl) (by omega) (by omega) | omega | decide) only [↓reduceIte, ↓gi_b, ↓pi_b, ↓gr_b, ↓pr_b, ↓al_b, ↓as_b, ↓al_3, ↓as_3, ↓al_12, ↓as_12, ↓al_l, ↓as_l, ↓rc_b, ↓Option.bind_some, ↓zr0_b, ↓zr1_b, ↓zrb_b, ↓pz0_b, ↓pz1_b, al_b, as_b, rc_b, gi_b, pi_b, gr_b, zr0, zr1, zrb, u_s, u_n, v_s, v_n, ↓isIn_b, ↓within_b, ite_T, ite_F, il_t, il_f, li_t, li_f, it_t, it_f, ti_t, ti_f, ie_t, ie_f, ei_t, ei_f, nn_le_t, nn_le_f, nn_lt_t, nn_lt_f, nn_eq_t, nn_eq_f, nI_1, nI_add, ni_addl, ni_ladd, pk_mul, ni_mull, b2_t, b2_f, b2_0, one0, m1_eq, ni_m1, reduceCtorEq, Bool.false_eq_true, nI_clamp, if_true, Option.some.injEq, Prod.mk.injEq, and_true, true_and, Nat.reduceAdd, Nat.reduceMul, Nat.reduceSub, Nat.reduceEqDiff, Nat.reduceLeDiff, Nat.reduceLT, ↓gr1_14 hW, e1, decide_eq_true hs, eq_false h0, e3]
              exact Rn_some (hR2.qc h)
          · rw [if_neg hs]
            simp (disch := first | assumption | with_unfolding_all exact hW.1 _ _ rfl | rfl | exact pu_okI (by first | assumption | with_unfolding_all exact hW.1 _ _ rfl) (by omega) (by omega) | exact pu_oqI (by first | assumption | with_unfolding_all exact hW.1 _ _ rfl) (by omega) (by omega) | omega | decide) only [↓reduceIte, ↓gi_b, ↓pi_b, ↓gr_b, ↓pr_b, ↓al_b, ↓as_b, ↓al_3, ↓as_3, ↓al_12, ↓as_12, ↓al_l, ↓as_l, ↓rc_b, ↓Option.bind_some, ↓zr0_b, ↓zr1_b, ↓zrb_b, ↓pz0_b, ↓pz1_b, al_b, as_b, rc_b, gi_b, pi_b, gr_b, zr0, zr1, zrb, u_s, u_n, v_s, v_n, ↓isIn_b, ↓within_b, ite_T, ite_F, il_t, il_f, li_t, li_f, it_t, it_f, ti_t, ti_f, ie_t, ie_f, ei_t, ei_f, nn_le_t, nn_le_f, nn_lt_t, nn_lt_f, nn_eq_t, nn_eq_f, nI_1, nI_add, ni_addl, ni_ladd, pk_mul, ni_mull, b2_t, b2_f, b2_0, one0, m1_eq, ni_m1, reduceCtorEq, Bool.false_eq_true, nI_clamp, if_true, Option.some.injEq, Prod.mk.injEq, and_true, true_and, Nat.reduceAdd, Nat.reduceMul, Nat.reduceSub, Nat.reduceEqDiff, Nat.reduceLeDiff, Nat.reduceLT, ↓gr1_14 hW, e1, decide_eq_false hs]
            exact Rn_some (hR2.qc h)
        · have hW := h.1
          unfold fX9_span
          simp (disch := first | assumption | with_unfolding_all exact hW.1 _ _ rfl | rfl | exact pu_okI (by first | assumption | with_unfolding_all exact hW.1 _ _ rfl) (by omega) (by omega) | exact pu_oqI (by first | assumption | with_unfolding_all exact hW.1 _ _ rfl) (by omega) (by omega) | omega | decide) only [↓reduceIte, ↓gi_b, ↓pi_b, ↓gr_b, ↓pr_b, ↓al_b, ↓as_b, ↓al_3, ↓as_3, ↓al_12, ↓as_12, ↓al_l, ↓as_l, ↓rc_b, ↓Option.bind_some, ↓zr0_b, ↓zr1_b, ↓zrb_b, ↓pz0_b, ↓pz1_b, al_b, as_b, rc_b, gi_b, pi_b, gr_b, zr0, zr1, zrb, u_s, u_n, v_s, v_n, ↓isIn_b, ↓within_b, ite_T, ite_F, il_t, il_f, li_t, li_f, it_t, it_f, ti_t, ti_f, ie_t, ie_f, ei_t, ei_f, nn_le_t, nn_le_f, nn_lt_t, nn_lt_f, nn_eq_t, nn_eq_f, nI_1, nI_add, ni_addl, ni_ladd, pk_mul, ni_mull, b2_t, b2_f, b2_0, one0, m1_eq, ni_m1, reduceCtorEq, Bool.false_eq_true, nI_clamp, if_true, Option.some.injEq, Prod.mk.injEq, and_true, true_and, Nat.reduceAdd, Nat.reduceMul, Nat.reduceSub, Nat.reduceEqDiff, Nat.reduceLeDiff, Nat.reduceLT, q_isRun hZ h, rnOK_t hZ hi hj hq, m_isRec hZ h hi ho, hb]
          refine Rn_bind (m_runAll hZ h hi hj hq) ?_
          rintro _ ⟨I1, rfl, f1, g1, hI⟩
          have hle := le_pred (f := spF (S_at (zK Z i) (oF Z q) (tw (zT Z) j) true 96) o) (t := spT (zK Z i) (S_at (zK Z i) (oF Z q) (tw (zT Z) j) true 96) o) (by omega) (by omega)
          by_cases hs : spF (S_at (zK Z i) (oF Z q) (tw (zT Z) j) true 96) o < spT (zK Z i) (S_at (zK Z i) (oF Z q) (tw (zT Z) j) true 96) o
          · rw [if_pos hs]
            rw [eq_true hs] at hle
            by_cases h0 : v5 = 0
            · rw [if_pos h0]
              simp (disch := first | assumption | with_unfolding_all exact hW.1 _ _ rfl | rfl | exact pu_okI (by first | assumption | with_unfolding_all exact hW.1 _ _ rfl) (by omega) (by omega) | exact pu_oqI (by first | assumption | with_unfolding_all exact hW.1 _ _ rfl) (by omega) (by omega) | omega | decide) only [↓reduceIte, ↓gi_b, ↓pi_b, ↓gr_b, ↓pr_b, ↓al_b, ↓as_b, ↓al_3, ↓as_3, ↓al_12, ↓as_12, ↓al_l, ↓as_l, ↓rc_b, ↓Option.bind_some, ↓zr0_b, ↓zr1_b, ↓zrb_b, ↓pz0_b, ↓pz1_b, al_b, as_b, rc_b, gi_b, pi_b, gr_b, zr0, zr1, zrb, u_s, u_n, v_s, v_n, ↓isIn_b, ↓within_b, ite_T, ite_F, il_t, il_f, li_t, li_f, it_t, it_f, ti_t, ti_f, ie_t, ie_f, ei_t, ei_f, nn_le_t, nn_le_f, nn_lt_t, nn_lt_f, nn_eq_t, nn_eq_f, nI_1, nI_add, ni_addl, ni_ladd, pk_mul, ni_mull, b2_t, b2_f, b2_0, one0, m1_eq, ni_m1, reduceCtorEq, Bool.false_eq_true, nI_clamp, if_true, Option.some.injEq, Prod.mk.injEq, and_true, true_and, Nat.reduceAdd, Nat.reduceMul, Nat.reduceSub, Nat.reduceEqDiff, Nat.reduceLeDiff, Nat.reduceLT, m_spanF hZ g1 hi hI ho, m_spanT hZ g1 hi hI ho, hle, eq_true h0]
              exact Rn_some (QM.of h f1)
            · rw [if_neg h0]
              simp (disch := first | assumption | with_unfolding_all exact hW.1 _ _ rfl | rfl | exact pu_okI (by first | assumption | with_unfolding_all exact hW.1 _ _ rfl) (by omega) (by omega) | exact pu_oqI (by first | assumption | with_unfolding_all exact hW.1 _ _ rfl) (by omega) (by omega) | omega | decide) only [↓reduceIte, ↓gi_b, ↓pi_b, ↓gr_b, ↓pr_b, ↓al_b, ↓as_b, ↓al_3, ↓as_3, ↓al_12, ↓as_12, ↓al_l, ↓as_l, ↓rc_b, ↓Option.bind_some, ↓zr0_b, ↓zr1_b, ↓zrb_b, ↓pz0_b, ↓pz1_b, al_b, as_b, rc_b, gi_b, pi_b, gr_b, zr0, zr1, zrb, u_s, u_n, v_s, v_n, ↓isIn_b, ↓within_b, ite_T, ite_F, il_t, il_f, li_t, li_f, it_t, it_f, ti_t, ti_f, ie_t, ie_f, ei_t, ei_f, nn_le_t, nn_le_f, nn_lt_t, nn_lt_f, nn_eq_t, nn_eq_f, nI_1, nI_add, ni_addl, ni_ladd, pk_mul, ni_mull, b2_t, b2_f, b2_0, one0, m1_eq, ni_m1, reduceCtorEq, Bool.false_eq_true, nI_clamp, if_true, Option.some.injEq, Prod.mk.injEq, and_true, true_and, Nat.reduceAdd, Nat.reduceMul, Nat.reduceSub, Nat.reduceEqDiff, Nat.reduceLeDiff, Nat.reduceLT, m_spanF hZ g1 hi hI ho, m_spanT hZ g1 hi hI ho, hle, eq_false h0]
              exact Rn_some (QM.of h f1)
          · rw [if_neg hs]
            rw [eq_false hs] at hle
            simp (disch := first | assumption | with_unfolding_all exact hW.1 _ _ rfl | rfl | exact pu_okI (by first | assumption | with_unfolding_all exact hW.1 _ _ rfl) (by omega) (by omega) | exact pu_oqI (by first | assumption | with_unfolding_all exact hW.1 _ _ rfl) (by omega) (by omega) | omega | decide) only [↓reduceIte, ↓gi_b, ↓pi_b, ↓gr_b, ↓pr_b, ↓al_b, ↓as_b, ↓al_3, ↓as_3, ↓al_12, ↓as_12, ↓al_l, ↓as_l, ↓rc_b, ↓Option.bind_some, ↓zr0_b, ↓zr1_b, ↓zrb_b, ↓pz0_b, ↓pz1_b, al_b, as_b, rc_b, gi_b, pi_b, gr_b, zr0, zr1, zrb, u_s, u_n, v_s, v_n, ↓isIn_b, ↓within_b, ite_T, ite_F, il_t, il_f, li_t, li_f, it_t, it_f, ti_t, ti_f, ie_t, ie_f, ei_t, ei_f, nn_le_t, nn_le_f, nn_lt_t, nn_lt_f, nn_eq_t, nn_eq_f, nI_1, nI_add, ni_addl, ni_ladd, pk_mul, ni_mull, b2_t, b2_f, b2_0, one0, m1_eq, ni_m1, reduceCtorEq, Bool.false_eq_true, nI_clamp, if_true, Option.some.injEq, Prod.mk.injEq, and_true, true_and, Nat.reduceAdd, Nat.reduceMul, Nat.reduceSub, Nat.reduceEqDiff, Nat.reduceLeDiff, Nat.reduceLT, m_spanF hZ g1 hi hI ho, m_spanT hZ g1 hi hI ho, hle]
            exact Rn_some (QM.of h f1)
      | false =>
        refine ⟨-102, fun s I P J n h => ?_, fun s I P J n h => ?_⟩
        · have hW := h.1
          unfold fX8_span
          simp (disch := first | assumption | with_unfolding_all exact hW.1 _ _ rfl | rfl | exact pu_okI (by first | assumption | with_unfolding_all exact hW.1 _ _ rfl) (by omega) (by omega) | exact pu_oqI (by first | assumption | with_unfolding_all exact hW.1 _ _ rfl) (by omega) (by omega) | omega | decide) only [↓reduceIte, ↓gi_b, ↓pi_b, ↓gr_b, ↓pr_b, ↓al_b, ↓as_b, ↓al_3, ↓as_3, ↓al_12, ↓as_12, ↓al_l, ↓as_l, ↓rc_b, ↓Option.bind_some, ↓zr0_b, ↓zr1_b, ↓zrb_b, ↓pz0_b, ↓pz1_b, al_b, as_b, rc_b, gi_b, pi_b, gr_b, zr0, zr1, zrb, u_s, u_n, v_s, v_n, ↓isIn_b, ↓within_b, ite_T, ite_F, il_t, il_f, li_t, li_f, it_t, it_f, ti_t, ti_f, ie_t, ie_f, ei_t, ei_f, nn_le_t, nn_le_f, nn_lt_t, nn_lt_f, nn_eq_t, nn_eq_f, nI_1, nI_add, ni_addl, ni_ladd, pk_mul, ni_mull, b2_t, b2_f, b2_0, one0, m1_eq, ni_m1, reduceCtorEq, Bool.false_eq_true, nI_clamp, if_true, Option.some.injEq, Prod.mk.injEq, and_true, true_and, Nat.reduceAdd, Nat.reduceMul, Nat.reduceSub, Nat.reduceEqDiff, Nat.reduceLeDiff, Nat.reduceLT]
          refine Rn_bind (c_start_t hZ h hi hj hq) ?_
          rintro _ ⟨I1, P1, rfl, hR⟩
          have hW := (hR.inv h).1
          obtain ⟨c, f, h1, h2, h3, h4, h5, h6, h7, h8⟩ := id hR
          simp (disch := first | assumption | with_unfolding_all exact hW.1 _ _ rfl | rfl | exact pu_okI (by first | assumption | with_unfolding_all exact hW.1 _ _ rfl) (by omega) (by omega) | exact pu_oqI (by first | assumption | with_unfolding_all exact hW.1 _ _ rfl) (by omega) (by omega) | omega | decide) only [↓reduceIte, ↓gi_b, ↓pi_b, ↓gr_b, ↓pr_b, ↓al_b, ↓as_b, ↓al_3, ↓as_3, ↓al_12, ↓as_12, ↓al_l, ↓as_l, ↓rc_b, ↓Option.bind_some, ↓zr0_b, ↓zr1_b, ↓zrb_b, ↓pz0_b, ↓pz1_b, al_b, as_b, rc_b, gi_b, pi_b, gr_b, zr0, zr1, zrb, u_s, u_n, v_s, v_n, ↓isIn_b, ↓within_b, ite_T, ite_F, il_t, il_f, li_t, li_f, it_t, it_f, ti_t, ti_f, ie_t, ie_f, ei_t, ei_f, nn_le_t, nn_le_f, nn_lt_t, nn_lt_f, nn_eq_t, nn_eq_f, nI_1, nI_add, ni_addl, ni_ladd, pk_mul, ni_mull, b2_t, b2_f, b2_0, one0, m1_eq, ni_m1, reduceCtorEq, Bool.false_eq_true, nI_clamp, if_true, Option.some.injEq, Prod.mk.injEq, and_true, true_and, Nat.reduceAdd, Nat.reduceMul, Nat.reduceSub, Nat.reduceEqDiff, Nat.reduceLeDiff, Nat.reduceLT, ↓gr1_14 hW, ↓gr_h h4.1 h4.2.2.2.2.2.1 rfl, c_isRec hZ hi h5 h6 ho, hb]
          exact Rn_some (hR.qc h)
        · have hW := h.1
          unfold fX9_span
          simp (disch := first | assumption | with_unfolding_all exact hW.1 _ _ rfl | rfl | exact pu_okI (by first | assumption | with_unfolding_all exact hW.1 _ _ rfl) (by omega) (by omega) | exact pu_oqI (by first | assumption | with_unfolding_all exact hW.1 _ _ rfl) (by omega) (by omega) | omega | decide) only [↓reduceIte, ↓gi_b, ↓pi_b, ↓gr_b, ↓pr_b, ↓al_b, ↓as_b, ↓al_3, ↓as_3, ↓al_12, ↓as_12, ↓al_l, ↓as_l, ↓rc_b, ↓Option.bind_some, ↓zr0_b, ↓zr1_b, ↓zrb_b, ↓pz0_b, ↓pz1_b, al_b, as_b, rc_b, gi_b, pi_b, gr_b, zr0, zr1, zrb, u_s, u_n, v_s, v_n, ↓isIn_b, ↓within_b, ite_T, ite_F, il_t, il_f, li_t, li_f, it_t, it_f, ti_t, ti_f, ie_t, ie_f, ei_t, ei_f, nn_le_t, nn_le_f, nn_lt_t, nn_lt_f, nn_eq_t, nn_eq_f, nI_1, nI_add, ni_addl, ni_ladd, pk_mul, ni_mull, b2_t, b2_f, b2_0, one0, m1_eq, ni_m1, reduceCtorEq, Bool.false_eq_true, nI_clamp, if_true, Option.some.injEq, Prod.mk.injEq, and_true, true_and, Nat.reduceAdd, Nat.reduceMul, Nat.reduceSub, Nat.reduceEqDiff, Nat.reduceLeDiff, Nat.reduceLT, q_isRun hZ h, rnOK_t hZ hi hj hq, m_isRec hZ h hi ho, hb]
          exact Rn_some (QM.id h)
    · refine ⟨-101, fun s I P J n h => ?_, fun s I P J n h => ?_⟩
      · have hW := h.1
        unfold fX8_span
        simp (disch := first | assumption | with_unfolding_all exact hW.1 _ _ rfl | rfl | exact pu_okI (by first | assumption | with_unfolding_all exact hW.1 _ _ rfl) (by omega) (by omega) | exact pu_oqI (by first | assumption | with_unfolding_all exact hW.1 _ _ rfl) (by omega) (by omega) | omega | decide) only [↓reduceIte, ↓gi_b, ↓pi_b, ↓gr_b, ↓pr_b, ↓al_b, ↓as_b, ↓al_3, ↓as_3, ↓al_12, ↓as_12, ↓al_l, ↓as_l, ↓rc_b, ↓Option.bind_some, ↓zr0_b, ↓zr1_b, ↓zrb_b, ↓pz0_b, ↓pz1_b, al_b, as_b, rc_b, gi_b, pi_b, gr_b, zr0, zr1, zrb, u_s, u_n, v_s, v_n, ↓isIn_b, ↓within_b, ite_T, ite_F, il_t, il_f, li_t, li_f, it_t, it_f, ti_t, ti_f, ie_t, ie_f, ei_t, ei_f, nn_le_t, nn_le_f, nn_lt_t, nn_lt_f, nn_eq_t, nn_eq_f, nI_1, nI_add, ni_addl, ni_ladd, pk_mul, ni_mull, b2_t, b2_f, b2_0, one0, m1_eq, ni_m1, reduceCtorEq, Bool.false_eq_true, nI_clamp, if_true, Option.some.injEq, Prod.mk.injEq, and_true, true_and, Nat.reduceAdd, Nat.reduceMul, Nat.reduceSub, Nat.reduceEqDiff, Nat.reduceLeDiff, Nat.reduceLT]
        refine Rn_bind (c_start_t hZ h hi hj hq) ?_
        rintro _ ⟨I1, P1, rfl, hR⟩
        have hW := (hR.inv h).1
        obtain ⟨c, f, h1, h2, h3, h4, h5, h6, h7, h8⟩ := id hR
        simp (disch := first | assumption | with_unfolding_all exact hW.1 _ _ rfl | rfl | exact pu_okI (by first | assumption | with_unfolding_all exact hW.1 _ _ rfl) (by omega) (by omega) | exact pu_oqI (by first | assumption | with_unfolding_all exact hW.1 _ _ rfl) (by omega) (by omega) | omega | decide) only [↓reduceIte, ↓gi_b, ↓pi_b, ↓gr_b, ↓pr_b, ↓al_b, ↓as_b, ↓al_3, ↓as_3, ↓al_12, ↓as_12, ↓al_l, ↓as_l, ↓rc_b, ↓Option.bind_some, ↓zr0_b, ↓zr1_b, ↓zrb_b, ↓pz0_b, ↓pz1_b, al_b, as_b, rc_b, gi_b, pi_b, gr_b, zr0, zr1, zrb, u_s, u_n, v_s, v_n, ↓isIn_b, ↓within_b, ite_T, ite_F, il_t, il_f, li_t, li_f, it_t, it_f, ti_t, ti_f, ie_t, ie_f, ei_t, ei_f, nn_le_t, nn_le_f, nn_lt_t, nn_lt_f, nn_eq_t, nn_eq_f, nI_1, nI_add, ni_addl, ni_ladd, pk_mul, ni_mull, b2_t, b2_f, b2_0, one0, m1_eq, ni_m1, reduceCtorEq, Bool.false_eq_true, nI_clamp, if_true, Option.some.injEq, Prod.mk.injEq, and_true, true_and, Nat.reduceAdd, Nat.reduceMul, Nat.reduceSub, Nat.reduceEqDiff, Nat.reduceLeDiff, Nat.reduceLT, ↓gr1_14 hW, ↓gr_h h4.1 h4.2.2.2.2.2.1 rfl, c_isRecF hZ hi h5 h6 r1 r2]
        exact Rn_some (hR.qc h)
      · have hW := h.1
        unfold fX9_span
        simp (disch := first | assumption | with_unfolding_all exact hW.1 _ _ rfl | rfl | exact pu_okI (by first | assumption | with_unfolding_all exact hW.1 _ _ rfl) (by omega) (by omega) | exact pu_oqI (by first | assumption | with_unfolding_all exact hW.1 _ _ rfl) (by omega) (by omega) | omega | decide) only [↓reduceIte, ↓gi_b, ↓pi_b, ↓gr_b, ↓pr_b, ↓al_b, ↓as_b, ↓al_3, ↓as_3, ↓al_12, ↓as_12, ↓al_l, ↓as_l, ↓rc_b, ↓Option.bind_some, ↓zr0_b, ↓zr1_b, ↓zrb_b, ↓pz0_b, ↓pz1_b, al_b, as_b, rc_b, gi_b, pi_b, gr_b, zr0, zr1, zrb, u_s, u_n, v_s, v_n, ↓isIn_b, ↓within_b, ite_T, ite_F, il_t, il_f, li_t, li_f, it_t, it_f, ti_t, ti_f, ie_t, ie_f, ei_t, ei_f, nn_le_t, nn_le_f, nn_lt_t, nn_lt_f, nn_eq_t, nn_eq_f, nI_1, nI_add, ni_addl, ni_ladd, pk_mul, ni_mull, b2_t, b2_f, b2_0, one0, m1_eq, ni_m1, reduceCtorEq, Bool.false_eq_true, nI_clamp, if_true, Option.some.injEq, Prod.mk.injEq, and_true, true_and, Nat.reduceAdd, Nat.reduceMul, Nat.reduceSub, Nat.reduceEqDiff, Nat.reduceLeDiff, Nat.reduceLT, q_isRun hZ h, rnOK_t hZ hi hj hq, m_isRecF hZ h hi r1 r2]
        exact Rn_some (QM.id h)
  · refine ⟨-101, fun s I P J n h => ?_, fun s I P J n h => ?_⟩
    · have hW := h.1
      unfold fX8_span
      simp (disch := first | assumption | with_unfolding_all exact hW.1 _ _ rfl | rfl | exact pu_okI (by first | assumption | with_unfolding_all exact hW.1 _ _ rfl) (by omega) (by omega) | exact pu_oqI (by first | assumption | with_unfolding_all exact hW.1 _ _ rfl) (by omega) (by omega) | omega | decide) only [↓reduceIte, ↓gi_b, ↓pi_b, ↓gr_b, ↓pr_b, ↓al_b, ↓as_b, ↓al_3, ↓as_3, ↓al_12, ↓as_12, ↓al_l, ↓as_l, ↓rc_b, ↓Option.bind_some, ↓zr0_b, ↓zr1_b, ↓zrb_b, ↓pz0_b, ↓pz1_b, al_b, as_b, rc_b, gi_b, pi_b, gr_b, zr0, zr1, zrb, u_s, u_n, v_s, v_n, ↓isIn_b, ↓within_b, ite_T, ite_F, il_t, il_f, li_t, li_f, it_t, it_f, ti_t, ti_f, ie_t, ie_f, ei_t, ei_f, nn_le_t, nn_le_f, nn_lt_t, nn_lt_f, nn_eq_t, nn_eq_f, nI_1, nI_add, ni_addl, ni_ladd, pk_mul, ni_mull, b2_t, b2_f, b2_0, one0, m1_eq, ni_m1, reduceCtorEq, Bool.false_eq_true, nI_clamp, if_true, Option.some.injEq, Prod.mk.injEq, and_true, true_and, Nat.reduceAdd, Nat.reduceMul, Nat.reduceSub, Nat.reduceEqDiff, Nat.reduceLeDiff, Nat.reduceLT, c_start_f hZ h bad]
      exact Rn_some (QC.id h)
    · have hW := h.1
      unfold fX9_span
      simp (disch := first | assumption | with_unfolding_all exact hW.1 _ _ rfl | rfl | exact pu_okI (by first | assumption | with_unfolding_all exact hW.1 _ _ rfl) (by omega) (by omega) | exact pu_oqI (by first | assumption | with_unfolding_all exact hW.1 _ _ rfl) (by omega) (by omega) | omega | decide) only [↓reduceIte, ↓gi_b, ↓pi_b, ↓gr_b, ↓pr_b, ↓al_b, ↓as_b, ↓al_3, ↓as_3, ↓al_12, ↓as_12, ↓al_l, ↓as_l, ↓rc_b, ↓Option.bind_some, ↓zr0_b, ↓zr1_b, ↓zrb_b, ↓pz0_b, ↓pz1_b, al_b, as_b, rc_b, gi_b, pi_b, gr_b, zr0, zr1, zrb, u_s, u_n, v_s, v_n, ↓isIn_b, ↓within_b, ite_T, ite_F, il_t, il_f, li_t, li_f, it_t, it_f, ti_t, ti_f, ie_t, ie_f, ei_t, ei_f, nn_le_t, nn_le_f, nn_lt_t, nn_lt_f, nn_eq_t, nn_eq_f, nI_1, nI_add, ni_addl, ni_ladd, pk_mul, ni_mull, b2_t, b2_f, b2_0, one0, m1_eq, ni_m1, reduceCtorEq, Bool.false_eq_true, nI_clamp, if_true, Option.some.injEq, Prod.mk.injEq, and_true, true_and, Nat.reduceAdd, Nat.reduceMul, Nat.reduceSub, Nat.reduceEqDiff, Nat.reduceLeDiff, Nat.reduceLT, q_isRun hZ h, bad]
      exact Rn_some (QM.id h)
