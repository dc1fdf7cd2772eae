theorem inB_d {w lo hi : Nat} (hw : w < 2147483648) (hh : hi < 2147483648) (hl : lo < 2147483648) : inB (nI w) (nI lo) (nI hi) = decide (lo ≤ w ∧ w ≤ hi) := by
  by_cases h : lo ≤ w ∧ w ≤ hi
  · rw [decide_eq_true h, inB_t h.1 h.2 hh]
  · rw [decide_eq_false h]
    refine inB_f ?_
    rw [ni_lt hw hl, ni_lt hh hw]
    omega
theorem inB_neg {v : Int32} {lo hi : Nat} (h : v < 0) (hl : lo < 2147483648) : inB v (nI lo) (nI hi) = false := inB_f (Or.inl (Int32.lt_of_lt_of_le h (nI_pos' hl)))
theorem inB_lit {w lo hi : Nat} (hw : w < 2147483648) (hh : OfNat.ofNat hi < 2147483648) (hl : OfNat.ofNat lo < 2147483648) : inB (nI w) (no_index (OfNat.ofNat lo) : Int32) (no_index (OfNat.ofNat hi) : Int32) = decide (OfNat.ofNat lo ≤ w ∧ w ≤ OfNat.ofNat hi) := inB_d hw hh hl
theorem inB_litn {v : Int32} {lo : Nat} {hi : Int32} (h : v < 0) (hl : (OfNat.ofNat lo : Nat) < 2147483648) : inB v (no_index (OfNat.ofNat lo) : Int32) hi = false := inB_f (Or.inl (Int32.lt_of_lt_of_le h (nI_pos' hl)))
theorem mkP_6 {x : Nat} {K : S_K} : mkP (pgK 6 x K) = x := by
  show (if knb K + 1 = 0 then 0 else updN (kM K) (knb K) x (knb K + 1 - 1)) = x
  rw [if_neg (by omega), show knb K + 1 - 1 = knb K by omega, updN_s]
/-! the class reads its page -/
def PgC (I : Nat → Nat → Int32) (L : Nat) (c : Nat → Nat) (p : Nat) : Prop := I 5 1 = nI L ∧ I 5 2 = nI p ∧ p ≤ L ∧ L ≤ 80 ∧ ∀ k, k < L → I 6 k = nI (c k) ∧ 1 ≤ c k ∧ c k ≤ 126
/-- what reading may write: the place, the spare clock -/
def FrC (I I' : Nat → Nat → Int32) : Prop := ∀ b j, ¬ (b = 5 ∧ j = 2) → ¬ (15 ≤ b ∧ b ≤ 20) → I' b j = I b j
theorem FrC.t {I I1 I2 : Nat → Nat → Int32} (h : FrC I I1) (h' : FrC I1 I2) : FrC I I2 := fun b j q1 q2 => by rw [h' b j q1 q2, h b j q1 q2]
/-- the clock that is read, so far -/
def CKd (I : Nat → Nat → Int32) (K : S_K) (g : Nat) : Prop := I 15 0 = nI (kn K) ∧ I 15 8 = nI (knb K) ∧ (∀ v, v < kn K → I 16 v = nI (kA K v) ∧ I 17 v = nI (kH K v) ∧ I 18 v = nI (kO K v) ∧ I 19 v = nI (kA K v * kH K v)) ∧ (∀ b, b < knb K → I 20 b = nI (kM K b)) ∧ (1 ≤ g → I 15 5 = nI (kca K) ∧ I 15 6 = nI (kch K)) ∧ (2 ≤ g → I 15 7 = nI (ksu K))
theorem CKd.fr {I I' : Nat → Nat → Int32} {K : S_K} {g : Nat} (h : CKd I K g) (hf : ∀ b j, ¬ (b = 5 ∧ j = 2) → I' b j = I b j) : CKd I' K g := by
  obtain ⟨h1, h2, h3, h4, h5, h6⟩ := h
  refine ⟨by rw [hf _ _ (by omega), h1], by rw [hf _ _ (by omega), h2], fun v hv => ?_, fun b hb => by rw [hf _ _ (by omega), h4 b hb], fun q => ?_, fun q => by rw [hf _ _ (by omega), h6 q]⟩
  · obtain ⟨a1, a2, a3, a4⟩ := h3 v hv
    exact ⟨by rw [hf _ _ (by omega), a1], by rw [hf _ _ (by omega), a2], by rw [hf _ _ (by omega), a3], by rw [hf _ _ (by omega), a4]⟩
  · obtain ⟨a1, a2⟩ := h5 q
    exact ⟨by rw [hf _ _ (by omega), a1], by rw [hf _ _ (by omega), a2]⟩
theorem PgC.fr {I I' : Nat → Nat → Int32} {L : Nat} {c : Nat → Nat} {p : Nat} (h : PgC I L c p) (hf : ∀ b j, b = 5 ∨ b = 6 → I' b j = I b j) : PgC I' L c p := by
  obtain ⟨h1, h2, h3, h4, h5⟩ := h
  refine ⟨by rw [hf _ _ (by omega), h1], by rw [hf _ _ (by omega), h2], h3, h4, fun k hk => ?_⟩
  obtain ⟨a1, a2⟩ := h5 k hk
  exact ⟨by rw [hf _ _ (by omega), a1], a2⟩
theorem PgC.to {I : Nat → Nat → Int32} {L : Nat} {c : Nat → Nat} {p p' : Nat} (h : PgC I L c p) (hp : p' ≤ L) : PgC (pu_u I 5 2 (nI p')) L c p' := by
  obtain ⟨h1, h2, h3, h4, h5⟩ := h
  refine ⟨by rw [u_n (by omega), h1], u_s, hp, h4, fun k hk => ?_⟩
  obtain ⟨a1, a2⟩ := h5 k hk
  exact ⟨by rw [u_n (by omega), a1], a2⟩
theorem oN_m1 {r : Option Nat} (h : ∀ x, r = some x → x < 2147483648) : (oN r = -1) = (r = none) := by
  cases r with
  | none => exact propext ⟨fun _ => rfl, fun _ => rfl⟩
  | some x =>
    rw [show oN (some x) = nI x from rfl, ni_m1 (h x rfl)]
    exact propext ⟨fun q => q.elim, fun q => by cases q⟩
section CG
variable {s : Nat → Option pu_S} {I : Nat → Nat → Int32} {P : Nat → Nat → Option Nat} {J : Nat → Nat → Int64} {n : Nat × Nat}
variable {L : Nat} {c : Nat → Nat} {p : Nat} {K : S_K}
set_option maxHeartbeats 4000000 in
set_option maxRecDepth 100000 in
theorem c_code1 (hW : pu_W s P) (h : PgC I L c p) {q : Nat} (hq : q < L) : fX3_codeAt 5 (nI q) (pu_hp s I P J n) = some (nI (c q), pu_hp s I P J n) := by
  obtain ⟨h1, h2, h3, h4, h5⟩ := h
  have hn0 : (nI q < 0) = False := eq_false (by rw [Int32.not_lt]; exact nI_pos' (by omega))
  unfold fX3_codeAt
  simp (disch := first | assumption | with_unfolding_all exact hW.1 _ _ rfl | rfl | exact pu_okI (by first | assumption | with_unfolding_all exact hW.1 _ _ rfl) (by omega) (by omega) | exact pu_oqI (by first | assumption | with_unfolding_all exact hW.1 _ _ rfl) (by omega) (by omega) | omega | decide) only [↓reduceIte, ↓gi_b, ↓pi_b, ↓gr_b, ↓pr_b, ↓al_b, ↓as_b, ↓al_3, ↓as_3, ↓al_12, ↓as_12, ↓al_l, ↓as_l, ↓rc_b, ↓Option.bind_some, ↓zr0_b, ↓zr1_b, ↓zrb_b, ↓pz0_b, ↓pz1_b, al_b, as_b, rc_b, gi_b, pi_b, gr_b, zr0, zr1, zrb, u_s, u_n, v_s, v_n, ↓isIn_b, ite_T, ite_F, il_t, il_f, li_t, li_f, it_t, it_f, ti_t, ti_f, ie_t, ie_f, ei_t, ei_f, nn_le_t, nn_le_f, nn_lt_t, nn_lt_f, nn_eq_t, nn_eq_f, nI_1, nI_add, ni_addl, ni_ladd, pk_mul, ni_mull, b2_t, b2_f, b2_0, one0, m1_eq, ni_m1, reduceCtorEq, Bool.false_eq_true, nI_clamp, if_true, Option.some.injEq, Prod.mk.injEq, and_true, true_and, Nat.reduceAdd, Nat.reduceMul, Nat.reduceSub, Nat.reduceEqDiff, Nat.reduceLeDiff, Nat.reduceLT, ↓gr5_0 hW, h1, hn0, (h5 q hq).1]
set_option maxHeartbeats 4000000 in
set_option maxRecDepth 100000 in
theorem c_code0 (hW : pu_W s P) (h : PgC I L c p) {q : Nat} (hq : ¬ q < L) (hq8 : q ≤ 80) : fX3_codeAt 5 (nI q) (pu_hp s I P J n) = some (-1, pu_hp s I P J n) := by
  obtain ⟨h1, h2, h3, h4, h5⟩ := h
  have hn0 : (nI q < 0) = False := eq_false (by rw [Int32.not_lt]; exact nI_pos' (by omega))
  unfold fX3_codeAt
  simp (disch := first | assumption | with_unfolding_all exact hW.1 _ _ rfl | rfl | exact pu_okI (by first | assumption | with_unfolding_all exact hW.1 _ _ rfl) (by omega) (by omega) | exact pu_oqI (by first | assumption | with_unfolding_all exact hW.1 _ _ rfl) (by omega) (by omega) | omega | decide) only [↓reduceIte, ↓gi_b, ↓pi_b, ↓gr_b, ↓pr_b, ↓al_b, ↓as_b, ↓al_3, ↓as_3, ↓al_12, ↓as_12, ↓al_l, ↓as_l, ↓rc_b, ↓Option.bind_some, ↓zr0_b, ↓zr1_b, ↓zrb_b, ↓pz0_b, ↓pz1_b, al_b, as_b, rc_b, gi_b, pi_b, gr_b, zr0, zr1, zrb, u_s, u_n, v_s, v_n, ↓isIn_b, ite_T, ite_F, il_t, il_f, li_t, li_f, it_t, it_f, ti_t, ti_f, ie_t, ie_f, ei_t, ei_f, nn_le_t, nn_le_f, nn_lt_t, nn_lt_f, nn_eq_t, nn_eq_f, nI_1, nI_add, ni_addl, ni_ladd, pk_mul, ni_mull, b2_t, b2_f, b2_0, one0, m1_eq, ni_m1, reduceCtorEq, Bool.false_eq_true, nI_clamp, if_true, Option.some.injEq, Prod.mk.injEq, and_true, true_and, Nat.reduceAdd, Nat.reduceMul, Nat.reduceSub, Nat.reduceEqDiff, Nat.reduceLeDiff, Nat.reduceLT, ↓gr5_0 hW, h1, hn0]
set_option maxHeartbeats 4000000 in
set_option maxRecDepth 100000 in
theorem c_fig1 (hW : pu_W s P) (h : PgC I L c p) (hd : 48 ≤ cdN L c p ∧ cdN L c p ≤ 57) : fX3_figureHere 5 (pu_hp s I P J n) = some (nI (cdN L c p - 48), pu_hp s I P J n) := by
  obtain ⟨q1, q2⟩ := cd_lt (L := L) (c := c) (p := p) (by omega)
  have e1 := c_code1 (J := J) (n := n) hW h q1
  have e2 := h.2.1
  have e3 : inB (nI (c p)) 48 57 = true := (inB_d (lo := 48) (hi := 57) (by omega) (by omega) (by omega)).trans (decide_eq_true (by omega))
  rw [q2]
  unfold fX3_figureHere
  simp (disch := first | assumption | with_unfolding_all exact hW.1 _ _ rfl | rfl | exact pu_okI (by first | assumption | with_unfolding_all exact hW.1 _ _ rfl) (by omega) (by omega) | exact pu_oqI (by first | assumption | with_unfolding_all exact hW.1 _ _ rfl) (by omega) (by omega) | omega | decide) only [↓reduceIte, ↓gi_b, ↓pi_b, ↓gr_b, ↓pr_b, ↓al_b, ↓as_b, ↓al_3, ↓as_3, ↓al_12, ↓as_12, ↓al_l, ↓as_l, ↓rc_b, ↓Option.bind_some, ↓zr0_b, ↓zr1_b, ↓zrb_b, ↓pz0_b, ↓pz1_b, al_b, as_b, rc_b, gi_b, pi_b, gr_b, zr0, zr1, zrb, u_s, u_n, v_s, v_n, ↓isIn_b, ite_T, ite_F, il_t, il_f, li_t, li_f, it_t, it_f, ti_t, ti_f, ie_t, ie_f, ei_t, ei_f, nn_le_t, nn_le_f, nn_lt_t, nn_lt_f, nn_eq_t, nn_eq_f, nI_1, nI_add, ni_addl, ni_ladd, pk_mul, ni_mull, b2_t, b2_f, b2_0, one0, m1_eq, ni_m1, reduceCtorEq, Bool.false_eq_true, nI_clamp, if_true, Option.some.injEq, Prod.mk.injEq, and_true, true_and, Nat.reduceAdd, Nat.reduceMul, Nat.reduceSub, Nat.reduceEqDiff, Nat.reduceLeDiff, Nat.reduceLT, e1, e2, e3, ni_subl (show 48 ≤ c p by omega)]
set_option maxHeartbeats 4000000 in
set_option maxRecDepth 100000 in
theorem c_fig0 (hW : pu_W s P) (h : PgC I L c p) (hd : ¬ (48 ≤ cdN L c p ∧ cdN L c p ≤ 57)) : fX3_figureHere 5 (pu_hp s I P J n) = some (-1, pu_hp s I P J n) := by
  have e2 := h.2.1
  have h3 := h.2.2.1
  have h4 := h.2.2.2.1
  by_cases q1 : p < L
  · have e1 := c_code1 (J := J) (n := n) hW h q1
    have := (h.2.2.2.2 p q1).2
    rw [cd_eq q1] at hd
    have e3 : inB (nI (c p)) 48 57 = false := (inB_d (lo := 48) (hi := 57) (by omega) (by omega) (by omega)).trans (decide_eq_false hd)
    unfold fX3_figureHere
    simp (disch := first | assumption | with_unfolding_all exact hW.1 _ _ rfl | rfl | exact pu_okI (by first | assumption | with_unfolding_all exact hW.1 _ _ rfl) (by omega) (by omega) | exact pu_oqI (by first | assumption | with_unfolding_all exact hW.1 _ _ rfl) (by omega) (by omega) | omega | decide) only [↓reduceIte, ↓gi_b, ↓pi_b, ↓gr_b, ↓pr_b, ↓al_b, ↓as_b, ↓al_3, ↓as_3, ↓al_12, ↓as_12, ↓al_l, ↓as_l, ↓rc_b, ↓Option.bind_some, ↓zr0_b, ↓zr1_b, ↓zrb_b, ↓pz0_b, ↓pz1_b, al_b, as_b, rc_b, gi_b, pi_b, gr_b, zr0, zr1, zrb, u_s, u_n, v_s, v_n, ↓isIn_b, ite_T, ite_F, il_t, il_f, li_t, li_f, it_t, it_f, ti_t, ti_f, ie_t, ie_f, ei_t, ei_f, nn_le_t, nn_le_f, nn_lt_t, nn_lt_f, nn_eq_t, nn_eq_f, nI_1, nI_add, ni_addl, ni_ladd, pk_mul, ni_mull, b2_t, b2_f, b2_0, one0, m1_eq, ni_m1, reduceCtorEq, Bool.false_eq_true, nI_clamp, if_true, Option.some.injEq, Prod.mk.injEq, and_true, true_and, Nat.reduceAdd, Nat.reduceMul, Nat.reduceSub, Nat.reduceEqDiff, Nat.reduceLeDiff, Nat.reduceLT, e1, e2, e3]
  · have e1 := c_code0 (J := J) (n := n) hW h q1 (by omega)
    have e3 : inB (-1) 48 57 = false := by decide
    unfold fX3_figureHere
    simp (disch := first | assumption | with_unfolding_all exact hW.1 _ _ rfl | rfl | exact pu_okI (by first | assumption | with_unfolding_all exact hW.1 _ _ rfl) (by omega) (by omega) | exact pu_oqI (by first | assumption | with_unfolding_all exact hW.1 _ _ rfl) (by omega) (by omega) | omega | decide) only [↓reduceIte, ↓gi_b, ↓pi_b, ↓gr_b, ↓pr_b, ↓al_b, ↓as_b, ↓al_3, ↓as_3, ↓al_12, ↓as_12, ↓al_l, ↓as_l, ↓rc_b, ↓Option.bind_some, ↓zr0_b, ↓zr1_b, ↓zrb_b, ↓pz0_b, ↓pz1_b, al_b, as_b, rc_b, gi_b, pi_b, gr_b, zr0, zr1, zrb, u_s, u_n, v_s, v_n, ↓isIn_b, ite_T, ite_F, il_t, il_f, li_t, li_f, it_t, it_f, ti_t, ti_f, ie_t, ie_f, ei_t, ei_f, nn_le_t, nn_le_f, nn_lt_t, nn_lt_f, nn_eq_t, nn_eq_f, nI_1, nI_add, ni_addl, ni_ladd, pk_mul, ni_mull, b2_t, b2_f, b2_0, one0, m1_eq, ni_m1, reduceCtorEq, Bool.false_eq_true, nI_clamp, if_true, Option.some.injEq, Prod.mk.injEq, and_true, true_and, Nat.reduceAdd, Nat.reduceMul, Nat.reduceSub, Nat.reduceEqDiff, Nat.reduceLeDiff, Nat.reduceLT, e1, e2, e3]
theorem e35_0 (b : Bool) (h : am_H) : fX3_canStart_35 (b2 b) 0 h = some (b2 b, h) := by cases b <;> rfl
theorem e35_1 (b : Bool) (h : am_H) : fX3_canStart_35 (b2 b) 1 h = some (b2 true, h) := by cases b <;> rfl
theorem q_canS {d lo hi : Nat} (hd : d ≤ 9) (h1 : lo ≤ 1000) (h2 : hi ≤ 1000) (h : am_H) : fX3_canStart (nI d) (nI lo) (nI hi) h = some (b2 (decide ((lo ≤ d ∧ d ≤ hi) ∨ (0 < d ∧ 10 * d ≤ hi ∧ lo ≤ 10 * d + 9))), h) := by
  have f1 : (nI d ≤ (0 : Int32)) = (d ≤ 0) := ni_le (b := 0) (by omega) (by omega)
  have f2 : (nI hi < (10 : Int32) * nI d) = (hi < 10 * d) := by rw [show (10 : Int32) = nI 10 from rfl, pk_mul]; exact ni_lt (by omega) (by omega)
  have f3 : ((10 : Int32) * nI d + (9 : Int32) < nI lo) = (10 * d + 9 < lo) := by rw [show (10 : Int32) = nI 10 from rfl, pk_mul, show (9 : Int32) = nI 9 from rfl, nI_add]; exact ni_lt (by omega) (by omega)
  unfold fX3_canStart fX3_canStart_34
  rw [isIn_b, inB_d (by omega) (by omega) (by omega)]
  dsimp only
  by_cases c1 : d ≤ 0
  · rw [if_pos (by rw [f1]; exact c1), e35_0]
    rw [decide_eq_decide.mpr (show (lo ≤ d ∧ d ≤ hi) ↔ ((lo ≤ d ∧ d ≤ hi) ∨ (0 < d ∧ 10 * d ≤ hi ∧ lo ≤ 10 * d + 9)) by omega)]
  · rw [if_neg (by rw [f1]; exact c1)]
    by_cases c2 : hi < 10 * d
    · rw [if_pos (by rw [f2]; exact c2), e35_0]
      rw [decide_eq_decide.mpr (show (lo ≤ d ∧ d ≤ hi) ↔ ((lo ≤ d ∧ d ≤ hi) ∨ (0 < d ∧ 10 * d ≤ hi ∧ lo ≤ 10 * d + 9)) by omega)]
    · rw [if_neg (by rw [f2]; exact c2)]
      by_cases c3 : 10 * d + 9 < lo
      · rw [if_pos (by rw [f3]; exact c3), e35_0]
        rw [decide_eq_decide.mpr (show (lo ≤ d ∧ d ≤ hi) ↔ ((lo ≤ d ∧ d ≤ hi) ∨ (0 < d ∧ 10 * d ≤ hi ∧ lo ≤ 10 * d + 9)) by omega)]
      · rw [if_neg (by rw [f3]; exact c3), e35_1, decide_eq_true (by omega)]
/-- a number was read -/
def NumQ (s : Nat → Option pu_S) (I : Nat → Nat → Int32) (P : Nat → Nat → Option Nat) (J : Nat → Nat → Int64) (n : Nat × Nat) (L : Nat) (c : Nat → Nat) (hi : Nat) (r : Option Nat × Nat) (y : Int32 × am_H) : Prop := ∃ I', y = (oN r.1, pu_hp s I' P J n) ∧ PgC I' L c r.2 ∧ (∀ x, r.1 = some x → x ≤ hi) ∧ ∀ b j, ¬ (b = 5 ∧ j = 2) → I' b j = I b j
set_option maxHeartbeats 4000000 in
set_option maxRecDepth 100000 in
theorem c_num (hW : pu_W s P) (h : PgC I L c p) {lo hi : Nat} {l k : Int32} (hl : l = nI lo) (hk : k = nI hi) (hlo : lo ≤ 1000) (hhi : hi ≤ 99) : Rn (fX3_readNumber 5 l k (pu_hp s I P J n)) (NumQ s I P J n L c hi (rN L c lo hi p)) := by
  subst hl hk
  unfold fX3_readNumber
  by_cases hd : 48 ≤ cdN L c p ∧ cdN L c p ≤ 57
  · have ef := c_fig1 (J := J) (n := n) hW h hd
    obtain ⟨hpL, -⟩ := cd_lt (L := L) (c := c) (p := p) (by omega)
    generalize hdd : cdN L c p - 48 = d at ef
    have hd9 : d ≤ 9 := by omega
    have ecs := q_canS (lo := lo) (hi := hi) hd9 hlo (by omega) (pu_hp s I P J n)
    have hdm : (nI d = (-1 : Int32)) = False := ni_m1 (by omega)
    by_cases cs : (lo ≤ d ∧ d ≤ hi) ∨ (0 < d ∧ 10 * d ≤ hi ∧ lo ≤ 10 * d + 9)
    · rw [decide_eq_true cs] at ecs
      have e1 : rN L c lo hi p = rN2 L c lo hi d p := by
        unfold rN
        rw [hdd, if_pos ⟨hd.1, hd.2, cs⟩]
      rw [e1]
      have h' := h.to (p' := p + 1) (by omega)
      have e5 := h.2.1
      unfold rN2
      by_cases s1 : 48 ≤ cdN L c (p + 1) ∧ cdN L c (p + 1) ≤ 57
      · have ef2 := c_fig1 (J := J) (n := n) hW h' s1
        obtain ⟨q1, -⟩ := cd_lt (L := L) (c := c) (p := p + 1) (by omega)
        generalize hee : cdN L c (p + 1) - 48 = e at ef2
        have he9 : e ≤ 9 := by omega
        have hem : (nI e = (-1 : Int32)) = False := ni_m1 (by omega)
        have f10 : (10 : Int32) * nI d + nI e = nI (10 * d + e) := by rw [show (10 : Int32) = nI 10 from rfl, pk_mul, nI_add]
        have ein : inB (nI (10 * d + e)) (nI lo) (nI hi) = decide (lo ≤ 10 * d + e ∧ 10 * d + e ≤ hi) := inB_d (by omega) (by omega) (by omega)
        by_cases d0 : d = 0
        · have hd0 : (nI d ≤ (0 : Int32)) = True := by rw [d0]; exact eq_true (by decide)
          rw [if_neg (by omega)]
          unfold fX3_readNumber_79
          by_cases lt : lo ≤ d
          · rw [if_pos lt]
            simp (disch := first | assumption | with_unfolding_all exact hW.1 _ _ rfl | rfl | exact pu_okI (by first | assumption | with_unfolding_all exact hW.1 _ _ rfl) (by omega) (by omega) | exact pu_oqI (by first | assumption | with_unfolding_all exact hW.1 _ _ rfl) (by omega) (by omega) | omega | decide) only [↓reduceIte, ↓gi_b, ↓pi_b, ↓gr_b, ↓pr_b, ↓al_b, ↓as_b, ↓al_3, ↓as_3, ↓al_12, ↓as_12, ↓al_l, ↓as_l, ↓rc_b, ↓Option.bind_some, ↓zr0_b, ↓zr1_b, ↓zrb_b, ↓pz0_b, ↓pz1_b, al_b, as_b, rc_b, gi_b, pi_b, gr_b, zr0, zr1, zrb, u_s, u_n, v_s, v_n, ↓isIn_b, ite_T, ite_F, il_t, il_f, li_t, li_f, it_t, it_f, ti_t, ti_f, ie_t, ie_f, ei_t, ei_f, nn_le_t, nn_le_f, nn_lt_t, nn_lt_f, nn_eq_t, nn_eq_f, nI_1, nI_add, ni_addl, ni_ladd, pk_mul, ni_mull, b2_t, b2_f, b2_0, one0, m1_eq, ni_m1, reduceCtorEq, Bool.false_eq_true, nI_clamp, if_true, Option.some.injEq, Prod.mk.injEq, and_true, true_and, Nat.reduceAdd, Nat.reduceMul, Nat.reduceSub, Nat.reduceEqDiff, Nat.reduceLeDiff, Nat.reduceLT, ef, ecs, ef2, e5, hdm, hem, hd0]
            exact Rn_some ⟨_, rfl, h', fun x hx => by cases hx; omega, fun b j hb => u_n (by omega)⟩
          · rw [if_neg lt]
            simp (disch := first | assumption | with_unfolding_all exact hW.1 _ _ rfl | rfl | exact pu_okI (by first | assumption | with_unfolding_all exact hW.1 _ _ rfl) (by omega) (by omega) | exact pu_oqI (by first | assumption | with_unfolding_all exact hW.1 _ _ rfl) (by omega) (by omega) | omega | decide) only [↓reduceIte, ↓gi_b, ↓pi_b, ↓gr_b, ↓pr_b, ↓al_b, ↓as_b, ↓al_3, ↓as_3, ↓al_12, ↓as_12, ↓al_l, ↓as_l, ↓rc_b, ↓Option.bind_some, ↓zr0_b, ↓zr1_b, ↓zrb_b, ↓pz0_b, ↓pz1_b, al_b, as_b, rc_b, gi_b, pi_b, gr_b, zr0, zr1, zrb, u_s, u_n, v_s, v_n, ↓isIn_b, ite_T, ite_F, il_t, il_f, li_t, li_f, it_t, it_f, ti_t, ti_f, ie_t, ie_f, ei_t, ei_f, nn_le_t, nn_le_f, nn_lt_t, nn_lt_f, nn_eq_t, nn_eq_f, nI_1, nI_add, ni_addl, ni_ladd, pk_mul, ni_mull, b2_t, b2_f, b2_0, one0, m1_eq, ni_m1, reduceCtorEq, Bool.false_eq_true, nI_clamp, if_true, Option.some.injEq, Prod.mk.injEq, and_true, true_and, Nat.reduceAdd, Nat.reduceMul, Nat.reduceSub, Nat.reduceEqDiff, Nat.reduceLeDiff, Nat.reduceLT, ef, ecs, ef2, e5, hdm, hem, hd0]
            exact Rn_some ⟨_, rfl, h', fun x hx => (by cases hx), fun b j hb => u_n (by omega)⟩
        · have hd0 : (nI d ≤ (0 : Int32)) = False := by rw [show (0 : Int32) = nI 0 from rfl, ni_le (by omega) (by omega)]; exact eq_false (by omega)
          by_cases bo : lo ≤ 10 * d + e ∧ 10 * d + e ≤ hi
          · rw [decide_eq_true bo] at ein
            rw [if_pos ⟨by omega, s1.1, s1.2, bo.1, bo.2⟩]
            simp (disch := first | assumption | with_unfolding_all exact hW.1 _ _ rfl | rfl | exact pu_okI (by first | assumption | with_unfolding_all exact hW.1 _ _ rfl) (by omega) (by omega) | exact pu_oqI (by first | assumption | with_unfolding_all exact hW.1 _ _ rfl) (by omega) (by omega) | omega | decide) only [↓reduceIte, ↓gi_b, ↓pi_b, ↓gr_b, ↓pr_b, ↓al_b, ↓as_b, ↓al_3, ↓as_3, ↓al_12, ↓as_12, ↓al_l, ↓as_l, ↓rc_b, ↓Option.bind_some, ↓zr0_b, ↓zr1_b, ↓zrb_b, ↓pz0_b, ↓pz1_b, al_b, as_b, rc_b, gi_b, pi_b, gr_b, zr0, zr1, zrb, u_s, u_n, v_s, v_n, ↓isIn_b, ite_T, ite_F, il_t, il_f, li_t, li_f, it_t, it_f, ti_t, ti_f, ie_t, ie_f, ei_t, ei_f, nn_le_t, nn_le_f, nn_lt_t, nn_lt_f, nn_eq_t, nn_eq_f, nI_1, nI_add, ni_addl, ni_ladd, pk_mul, ni_mull, b2_t, b2_f, b2_0, one0, m1_eq, ni_m1, reduceCtorEq, Bool.false_eq_true, nI_clamp, if_true, Option.some.injEq, Prod.mk.injEq, and_true, true_and, Nat.reduceAdd, Nat.reduceMul, Nat.reduceSub, Nat.reduceEqDiff, Nat.reduceLeDiff, Nat.reduceLT, ef, ecs, ef2, e5, hdm, hem, hd0, f10, ein]
            exact Rn_some ⟨_, rfl, h'.to (p' := p + 2) (by omega), fun x hx => by cases hx; omega, fun b j hb => by rw [u_n (by omega), u_n (by omega)]⟩
          · rw [decide_eq_false bo] at ein
            rw [if_neg (fun q => bo ⟨q.2.2.2.1, q.2.2.2.2⟩)]
            unfold fX3_readNumber_79
            by_cases lt : lo ≤ d
            · rw [if_pos lt]
              simp (disch := first | assumption | with_unfolding_all exact hW.1 _ _ rfl | rfl | exact pu_okI (by first | assumption | with_unfolding_all exact hW.1 _ _ rfl) (by omega) (by omega) | exact pu_oqI (by first | assumption | with_unfolding_all exact hW.1 _ _ rfl) (by omega) (by omega) | omega | decide) only [↓reduceIte, ↓gi_b, ↓pi_b, ↓gr_b, ↓pr_b, ↓al_b, ↓as_b, ↓al_3, ↓as_3, ↓al_12, ↓as_12, ↓al_l, ↓as_l, ↓rc_b, ↓Option.bind_some, ↓zr0_b, ↓zr1_b, ↓zrb_b, ↓pz0_b, ↓pz1_b, al_b, as_b, rc_b, gi_b, pi_b, gr_b, zr0, zr1, zrb, u_s, u_n, v_s, v_n, ↓isIn_b, ite_T, ite_F, il_t, il_f, li_t, li_f, it_t, it_f, ti_t, ti_f, ie_t, ie_f, ei_t, ei_f, nn_le_t, nn_le_f, nn_lt_t, nn_lt_f, nn_eq_t, nn_eq_f, nI_1, nI_add, ni_addl, ni_ladd, pk_mul, ni_mull, b2_t, b2_f, b2_0, one0, m1_eq, ni_m1, reduceCtorEq, Bool.false_eq_true, nI_clamp, if_true, Option.some.injEq, Prod.mk.injEq, and_true, true_and, Nat.reduceAdd, Nat.reduceMul, Nat.reduceSub, Nat.reduceEqDiff, Nat.reduceLeDiff, Nat.reduceLT, ef, ecs, ef2, e5, hdm, hem, hd0, f10, ein]
              exact Rn_some ⟨_, rfl, h', fun x hx => by cases hx; omega, fun b j hb => u_n (by omega)⟩
            · rw [if_neg lt]
              simp (disch := first | assumption | with_unfolding_all exact hW.1 _ _ rfl | rfl | exact pu_okI (by first | assumption | with_unfolding_all exact hW.1 _ _ rfl) (by omega) (by omega) | exact pu_oqI (by first | assumption | with_unfolding_all exact hW.1 _ _ rfl) (by omega) (by omega) | omega | decide) only [↓reduceIte, ↓gi_b, ↓pi_b, ↓gr_b, ↓pr_b, ↓al_b, ↓as_b, ↓al_3, ↓as_3, ↓al_12, ↓as_12, ↓al_l, ↓as_l, ↓rc_b, ↓Option.bind_some, ↓zr0_b, ↓zr1_b, ↓zrb_b, ↓pz0_b, ↓pz1_b, al_b, as_b, rc_b, gi_b, pi_b, gr_b, zr0, zr1, zrb, u_s, u_n, v_s, v_n, ↓isIn_b, ite_T, ite_F, il_t, il_f, li_t, li_f, it_t, it_f, ti_t, ti_f, ie_t, ie_f, ei_t, ei_f, nn_le_t, nn_le_f, nn_lt_t, nn_lt_f, nn_eq_t, nn_eq_f, nI_1, nI_add, ni_addl, ni_ladd, pk_mul, ni_mull, b2_t, b2_f, b2_0, one0, m1_eq, ni_m1, reduceCtorEq, Bool.false_eq_true, nI_clamp, if_true, Option.some.injEq, Prod.mk.injEq, and_true, true_and, Nat.reduceAdd, Nat.reduceMul, Nat.reduceSub, Nat.reduceEqDiff, Nat.reduceLeDiff, Nat.reduceLT, ef, ecs, ef2, e5, hdm, hem, hd0, f10, ein]
              exact Rn_some ⟨_, rfl, h', fun x hx => (by cases hx), fun b j hb => u_n (by omega)⟩
      · have ef2 := c_fig0 (J := J) (n := n) hW h' s1
        rw [if_neg (fun q => s1 ⟨q.2.1, q.2.2.1⟩)]
        unfold fX3_readNumber_79
        by_cases d0 : d = 0
        · have hd0 : (nI d ≤ (0 : Int32)) = True := by rw [d0]; exact eq_true (by decide)
          by_cases lt : lo ≤ d
          · rw [if_pos lt]
            simp (disch := first | assumption | with_unfolding_all exact hW.1 _ _ rfl | rfl | exact pu_okI (by first | assumption | with_unfolding_all exact hW.1 _ _ rfl) (by omega) (by omega) | exact pu_oqI (by first | assumption | with_unfolding_all exact hW.1 _ _ rfl) (by omega) (by omega) | omega | decide) only [↓reduceIte, ↓gi_b, ↓pi_b, ↓gr_b, ↓pr_b, ↓al_b, ↓as_b, ↓al_3, ↓as_3, ↓al_12, ↓as_12, ↓al_l, ↓as_l, ↓rc_b, ↓Option.bind_some, ↓zr0_b, ↓zr1_b, ↓zrb_b, ↓pz0_b, ↓pz1_b, al_b, as_b, rc_b, gi_b, pi_b, gr_b, zr0, zr1, zrb, u_s, u_n, v_s, v_n, ↓isIn_b, ite_T, ite_F, il_t, il_f, li_t, li_f, it_t, it_f, ti_t, ti_f, ie_t, ie_f, ei_t, ei_f, nn_le_t, nn_le_f, nn_lt_t, nn_lt_f, nn_eq_t, nn_eq_f, nI_1, nI_add, ni_addl, ni_ladd, pk_mul, ni_mull, b2_t, b2_f, b2_0, one0, m1_eq, ni_m1, reduceCtorEq, Bool.false_eq_true, nI_clamp, if_true, Option.some.injEq, Prod.mk.injEq, and_true, true_and, Nat.reduceAdd, Nat.reduceMul, Nat.reduceSub, Nat.reduceEqDiff, Nat.reduceLeDiff, Nat.reduceLT, ef, ecs, ef2, e5, hdm, hd0]
            exact Rn_some ⟨_, rfl, h', fun x hx => by cases hx; omega, fun b j hb => u_n (by omega)⟩
          · rw [if_neg lt]
            simp (disch := first | assumption | with_unfolding_all exact hW.1 _ _ rfl | rfl | exact pu_okI (by first | assumption | with_unfolding_all exact hW.1 _ _ rfl) (by omega) (by omega) | exact pu_oqI (by first | assumption | with_unfolding_all exact hW.1 _ _ rfl) (by omega) (by omega) | omega | decide) only [↓reduceIte, ↓gi_b, ↓pi_b, ↓gr_b, ↓pr_b, ↓al_b, ↓as_b, ↓al_3, ↓as_3, ↓al_12, ↓as_12, ↓al_l, ↓as_l, ↓rc_b, ↓Option.bind_some, ↓zr0_b, ↓zr1_b, ↓zrb_b, ↓pz0_b, ↓pz1_b, al_b, as_b, rc_b, gi_b, pi_b, gr_b, zr0, zr1, zrb, u_s, u_n, v_s, v_n, ↓isIn_b, ite_T, ite_F, il_t, il_f, li_t, li_f, it_t, it_f, ti_t, ti_f, ie_t, ie_f, ei_t, ei_f, nn_le_t, nn_le_f, nn_lt_t, nn_lt_f, nn_eq_t, nn_eq_f, nI_1, nI_add, ni_addl, ni_ladd, pk_mul, ni_mull, b2_t, b2_f, b2_0, one0, m1_eq, ni_m1, reduceCtorEq, Bool.false_eq_true, nI_clamp, if_true, Option.some.injEq, Prod.mk.injEq, and_true, true_and, Nat.reduceAdd, Nat.reduceMul, Nat.reduceSub, Nat.reduceEqDiff, Nat.reduceLeDiff, Nat.reduceLT, ef, ecs, ef2, e5, hdm, hd0]
            exact Rn_some ⟨_, rfl, h', fun x hx => (by cases hx), fun b j hb => u_n (by omega)⟩
        · have hd0 : (nI d ≤ (0 : Int32)) = False := by rw [show (0 : Int32) = nI 0 from rfl, ni_le (by omega) (by omega)]; exact eq_false (by omega)
          by_cases lt : lo ≤ d
          · rw [if_pos lt]
            simp (disch := first | assumption | with_unfolding_all exact hW.1 _ _ rfl | rfl | exact pu_okI (by first | assumption | with_unfolding_all exact hW.1 _ _ rfl) (by omega) (by omega) | exact pu_oqI (by first | assumption | with_unfolding_all exact hW.1 _ _ rfl) (by omega) (by omega) | omega | decide) only [↓reduceIte, ↓gi_b, ↓pi_b, ↓gr_b, ↓pr_b, ↓al_b, ↓as_b, ↓al_3, ↓as_3, ↓al_12, ↓as_12, ↓al_l, ↓as_l, ↓rc_b, ↓Option.bind_some, ↓zr0_b, ↓zr1_b, ↓zrb_b, ↓pz0_b, ↓pz1_b, al_b, as_b, rc_b, gi_b, pi_b, gr_b, zr0, zr1, zrb, u_s, u_n, v_s, v_n, ↓isIn_b, ite_T, ite_F, il_t, il_f, li_t, li_f, it_t, it_f, ti_t, ti_f, ie_t, ie_f, ei_t, ei_f, nn_le_t, nn_le_f, nn_lt_t, nn_lt_f, nn_eq_t, nn_eq_f, nI_1, nI_add, ni_addl, ni_ladd, pk_mul, ni_mull, b2_t, b2_f, b2_0, one0, m1_eq, ni_m1, reduceCtorEq, Bool.false_eq_true, nI_clamp, if_true, Option.some.injEq, Prod.mk.injEq, and_true, true_and, Nat.reduceAdd, Nat.reduceMul, Nat.reduceSub, Nat.reduceEqDiff, Nat.reduceLeDiff, Nat.reduceLT, ef, ecs, ef2, e5, hdm, hd0]
            exact Rn_some ⟨_, rfl, h', fun x hx => by cases hx; omega, fun b j hb => u_n (by omega)⟩
          · rw [if_neg lt]
            simp (disch := first | assumption | with_unfolding_all exact hW.1 _ _ rfl | rfl | exact pu_okI (by first | assumption | with_unfolding_all exact hW.1 _ _ rfl) (by omega) (by omega) | exact pu_oqI (by first | assumption | with_unfolding_all exact hW.1 _ _ rfl) (by omega) (by omega) | omega | decide) only [↓reduceIte, ↓gi_b, ↓pi_b, ↓gr_b, ↓pr_b, ↓al_b, ↓as_b, ↓al_3, ↓as_3, ↓al_12, ↓as_12, ↓al_l, ↓as_l, ↓rc_b, ↓Option.bind_some, ↓zr0_b, ↓zr1_b, ↓zrb_b, ↓pz0_b, ↓pz1_b, al_b, as_b, rc_b, gi_b, pi_b, gr_b, zr0, zr1, zrb, u_s, u_n, v_s, v_n, ↓isIn_b, ite_T, ite_F, il_t, il_f, li_t, li_f, it_t, it_f, ti_t, ti_f, ie_t, ie_f, ei_t, ei_f, nn_le_t, nn_le_f, nn_lt_t, nn_lt_f, nn_eq_t, nn_eq_f, nI_1, nI_add, ni_addl, ni_ladd, pk_mul, ni_mull, b2_t, b2_f, b2_0, one0, m1_eq, ni_m1, reduceCtorEq, Bool.false_eq_true, nI_clamp, if_true, Option.some.injEq, Prod.mk.injEq, and_true, true_and, Nat.reduceAdd, Nat.reduceMul, Nat.reduceSub, Nat.reduceEqDiff, Nat.reduceLeDiff, Nat.reduceLT, ef, ecs, ef2, e5, hdm, hd0]
            exact Rn_some ⟨_, rfl, h', fun x hx => (by cases hx), fun b j hb => u_n (by omega)⟩
    · rw [decide_eq_false cs] at ecs
      have e1 : rN L c lo hi p = (none, p) := by
        unfold rN
        rw [hdd, if_neg (fun q => cs q.2.2)]
      rw [e1]
      simp (disch := first | assumption | with_unfolding_all exact hW.1 _ _ rfl | rfl | exact pu_okI (by first | assumption | with_unfolding_all exact hW.1 _ _ rfl) (by omega) (by omega) | exact pu_oqI (by first | assumption | with_unfolding_all exact hW.1 _ _ rfl) (by omega) (by omega) | omega | decide) only [↓reduceIte, ↓gi_b, ↓pi_b, ↓gr_b, ↓pr_b, ↓al_b, ↓as_b, ↓al_3, ↓as_3, ↓al_12, ↓as_12, ↓al_l, ↓as_l, ↓rc_b, ↓Option.bind_some, ↓zr0_b, ↓zr1_b, ↓zrb_b, ↓pz0_b, ↓pz1_b, al_b, as_b, rc_b, gi_b, pi_b, gr_b, zr0, zr1, zrb, u_s, u_n, v_s, v_n, ↓isIn_b, ite_T, ite_F, il_t, il_f, li_t, li_f, it_t, it_f, ti_t, ti_f, ie_t, ie_f, ei_t, ei_f, nn_le_t, nn_le_f, nn_lt_t, nn_lt_f, nn_eq_t, nn_eq_f, nI_1, nI_add, ni_addl, ni_ladd, pk_mul, ni_mull, b2_t, b2_f, b2_0, one0, m1_eq, ni_m1, reduceCtorEq, Bool.false_eq_true, nI_clamp, if_true, Option.some.injEq, Prod.mk.injEq, and_true, true_and, Nat.reduceAdd, Nat.reduceMul, Nat.reduceSub, Nat.reduceEqDiff, Nat.reduceLeDiff, Nat.reduceLT, ef, ecs, hdm]
      exact Rn_some ⟨I, rfl, h, fun x hx => (by cases hx), fun _ _ _ => rfl⟩
  · have ef := c_fig0 (J := J) (n := n) hW h hd
    have e1 : rN L c lo hi p = (none, p) := by
      unfold rN
      rw [if_neg (fun q => hd ⟨q.1, q.2.1⟩)]
    rw [e1]
    simp (disch := first | assumption | with_unfolding_all exact hW.1 _ _ rfl | rfl | exact pu_okI (by first | assumption | with_unfolding_all exact hW.1 _ _ rfl) (by omega) (by omega) | exact pu_oqI (by first | assumption | with_unfolding_all exact hW.1 _ _ rfl) (by omega) (by omega) | omega | decide) only [↓reduceIte, ↓gi_b, ↓pi_b, ↓gr_b, ↓pr_b, ↓al_b, ↓as_b, ↓al_3, ↓as_3, ↓al_12, ↓as_12, ↓al_l, ↓as_l, ↓rc_b, ↓Option.bind_some, ↓zr0_b, ↓zr1_b, ↓zrb_b, ↓pz0_b, ↓pz1_b, al_b, as_b, rc_b, gi_b, pi_b, gr_b, zr0, zr1, zrb, u_s, u_n, v_s, v_n, ↓isIn_b, ite_T, ite_F, il_t, il_f, li_t, li_f, it_t, it_f, ti_t, ti_f, ie_t, ie_f, ei_t, ei_f, nn_le_t, nn_le_f, nn_lt_t, nn_lt_f, nn_eq_t, nn_eq_f, nI_1, nI_add, ni_addl, ni_ladd, pk_mul, ni_mull, b2_t, b2_f, b2_0, one0, m1_eq, ni_m1, reduceCtorEq, Bool.false_eq_true, nI_clamp, if_true, Option.some.injEq, Prod.mk.injEq, and_true, true_and, Nat.reduceAdd, Nat.reduceMul, Nat.reduceSub, Nat.reduceEqDiff, Nat.reduceLeDiff, Nat.reduceLT, ef]
    exact Rn_some ⟨I, rfl, h, fun x hx => (by cases hx), fun _ _ _ => rfl⟩
set_option maxHeartbeats 4000000 in
set_option maxRecDepth 100000 in
theorem c_sg1 (hW : pu_W s P) (h : PgC I L c p) {sg : Nat} {v : Int32} (hv : v = nI sg) (h0 : ¬ sg = 0) (hs : cdN L c p = sg) : fX3_readSign 5 v (pu_hp s I P J n) = some (1, pu_hp s (pu_u I 5 2 (nI (p + 1))) P J n) ∧ PgC (pu_u I 5 2 (nI (p + 1))) L c (p + 1) := by
  subst hv
  obtain ⟨q1, q2⟩ := cd_lt (L := L) (c := c) (p := p) (by omega)
  have e1 := c_code1 (J := J) (n := n) hW h q1
  have e2 := h.2.1
  have e3 : nI (c p) = nI sg := by rw [← q2, hs]
  refine ⟨?_, h.to (by omega)⟩
  unfold fX3_readSign
  simp (disch := first | assumption | with_unfolding_all exact hW.1 _ _ rfl | rfl | exact pu_okI (by first | assumption | with_unfolding_all exact hW.1 _ _ rfl) (by omega) (by omega) | exact pu_oqI (by first | assumption | with_unfolding_all exact hW.1 _ _ rfl) (by omega) (by omega) | omega | decide) only [↓reduceIte, ↓gi_b, ↓pi_b, ↓gr_b, ↓pr_b, ↓al_b, ↓as_b, ↓al_3, ↓as_3, ↓al_12, ↓as_12, ↓al_l, ↓as_l, ↓rc_b, ↓Option.bind_some, ↓zr0_b, ↓zr1_b, ↓zrb_b, ↓pz0_b, ↓pz1_b, al_b, as_b, rc_b, gi_b, pi_b, gr_b, zr0, zr1, zrb, u_s, u_n, v_s, v_n, ↓isIn_b, ite_T, ite_F, il_t, il_f, li_t, li_f, it_t, it_f, ti_t, ti_f, ie_t, ie_f, ei_t, ei_f, nn_le_t, nn_le_f, nn_lt_t, nn_lt_f, nn_eq_t, nn_eq_f, nI_1, nI_add, ni_addl, ni_ladd, pk_mul, ni_mull, b2_t, b2_f, b2_0, one0, m1_eq, ni_m1, reduceCtorEq, Bool.false_eq_true, nI_clamp, if_true, Option.some.injEq, Prod.mk.injEq, and_true, true_and, Nat.reduceAdd, Nat.reduceMul, Nat.reduceSub, Nat.reduceEqDiff, Nat.reduceLeDiff, Nat.reduceLT, e1, e2, e3, if_pos (rfl : nI sg = nI sg)]
set_option maxHeartbeats 4000000 in
set_option maxRecDepth 100000 in
theorem c_sg0 (hW : pu_W s P) (h : PgC I L c p) {sg : Nat} {v : Int32} (hv : v = nI sg) (hs' : sg < 1000) (hs : ¬ cdN L c p = sg) : fX3_readSign 5 v (pu_hp s I P J n) = some (0, pu_hp s I P J n) := by
  subst hv
  have e2 := h.2.1
  have h3 := h.2.2.1
  have h4 := h.2.2.2.1
  by_cases q1 : p < L
  · have e1 := c_code1 (J := J) (n := n) hW h q1
    have := (h.2.2.2.2 p q1).2
    rw [cd_eq q1] at hs
    unfold fX3_readSign
    simp (disch := first | assumption | with_unfolding_all exact hW.1 _ _ rfl | rfl | exact pu_okI (by first | assumption | with_unfolding_all exact hW.1 _ _ rfl) (by omega) (by omega) | exact pu_oqI (by first | assumption | with_unfolding_all exact hW.1 _ _ rfl) (by omega) (by omega) | omega | decide) only [↓reduceIte, ↓gi_b, ↓pi_b, ↓gr_b, ↓pr_b, ↓al_b, ↓as_b, ↓al_3, ↓as_3, ↓al_12, ↓as_12, ↓al_l, ↓as_l, ↓rc_b, ↓Option.bind_some, ↓zr0_b, ↓zr1_b, ↓zrb_b, ↓pz0_b, ↓pz1_b, al_b, as_b, rc_b, gi_b, pi_b, gr_b, zr0, zr1, zrb, u_s, u_n, v_s, v_n, ↓isIn_b, ite_T, ite_F, il_t, il_f, li_t, li_f, it_t, it_f, ti_t, ti_f, ie_t, ie_f, ei_t, ei_f, nn_le_t, nn_le_f, nn_lt_t, nn_lt_f, nn_eq_t, nn_eq_f, nI_1, nI_add, ni_addl, ni_ladd, pk_mul, ni_mull, b2_t, b2_f, b2_0, one0, m1_eq, ni_m1, reduceCtorEq, Bool.false_eq_true, nI_clamp, if_true, Option.some.injEq, Prod.mk.injEq, and_true, true_and, Nat.reduceAdd, Nat.reduceMul, Nat.reduceSub, Nat.reduceEqDiff, Nat.reduceLeDiff, Nat.reduceLT, e1, e2]
  · have e1 := c_code0 (J := J) (n := n) hW h q1 (by omega)
    have e3 : ((-1 : Int32) = nI sg) = False := eq_false fun q => (ni_m1 (k := sg) (by omega)).mp q.symm
    unfold fX3_readSign
    simp (disch := first | assumption | with_unfolding_all exact hW.1 _ _ rfl | rfl | exact pu_okI (by first | assumption | with_unfolding_all exact hW.1 _ _ rfl) (by omega) (by omega) | exact pu_oqI (by first | assumption | with_unfolding_all exact hW.1 _ _ rfl) (by omega) (by omega) | omega | decide) only [↓reduceIte, ↓gi_b, ↓pi_b, ↓gr_b, ↓pr_b, ↓al_b, ↓as_b, ↓al_3, ↓as_3, ↓al_12, ↓as_12, ↓al_l, ↓as_l, ↓rc_b, ↓Option.bind_some, ↓zr0_b, ↓zr1_b, ↓zrb_b, ↓pz0_b, ↓pz1_b, al_b, as_b, rc_b, gi_b, pi_b, gr_b, zr0, zr1, zrb, u_s, u_n, v_s, v_n, ↓isIn_b, ite_T, ite_F, il_t, il_f, li_t, li_f, it_t, it_f, ti_t, ti_f, ie_t, ie_f, ei_t, ei_f, nn_le_t, nn_le_f, nn_lt_t, nn_lt_f, nn_eq_t, nn_eq_f, nI_1, nI_add, ni_addl, ni_ladd, pk_mul, ni_mull, b2_t, b2_f, b2_0, one0, m1_eq, ni_m1, reduceCtorEq, Bool.false_eq_true, nI_clamp, if_true, Option.some.injEq, Prod.mk.injEq, and_true, true_and, Nat.reduceAdd, Nat.reduceMul, Nat.reduceSub, Nat.reduceEqDiff, Nat.reduceLeDiff, Nat.reduceLT, e1, e2, e3]
end CG
