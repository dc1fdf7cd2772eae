/-! the reference's run against the spec -/
def M_C (I : Nat → Nat → Int32) (c : Nat) (K : S_K) : Prop := I 41 c = nI (kn K) ∧ I 45 c = nI (kca K) ∧ I 46 c = nI (kch K) ∧ I 48 c = nI (knb K) ∧ (∀ v, v < kn K → I 42 (3 * c + v) = nI (kA K v) ∧ I 43 (3 * c + v) = nI (kH K v)) ∧ ∀ b, b < knb K → I 49 (12 * c + b) = nI (kM K b)
def M_L (I : Nat → Nat → Int32) (K : S_K) (F : S_F) (sip : Bool) : Prop := (∀ v, v < kn K → I 68 v = nI (kO K v)) ∧ I 40 44 = nI (ksu K) ∧ I 40 45 = b2 sip ∧ I 40 46 = nI F.1 ∧ I 40 47 = nI F.2.1 ∧ I 40 48 = nI F.2.2.1 ∧ I 40 49 = nI F.2.2.2
def M_R (I : Nat → Nat → Int32) (t : Nat) (K : S_K) (X : S_X) : Prop := (∀ v, v < kn K → I 69 v = nI (xW X v)) ∧ I 40 51 = nI (xcy X) ∧ I 40 52 = nI (xov X) ∧ I 40 53 = nI (xle X) ∧ I 40 54 = nI (xem X) ∧ I 40 55 = nI (xdr X) ∧ (0 < t → I 40 57 = nI (xli X) ∧ I 40 58 = nI (xmo X)) ∧ ∀ b, b < 12 → I 70 b = nI (if b < xdr X then xD X b else 96)
def M_F (I I' : Nat → Nat → Int32) : Prop := ∀ b j, ¬ (69 ≤ b ∧ b ≤ 71) → ¬ (b = 40 ∧ 51 ≤ j ∧ j ≤ 58) → I' b j = I b j
theorem M_C.fr {I I' : Nat → Nat → Int32} {c : Nat} {K : S_K} (h : M_C I c K) (hf : ∀ b j, 41 ≤ b → b ≤ 49 → I' b j = I b j) : M_C I' c K := by
  obtain ⟨h1, h2, h3, h4, h5, h6⟩ := h
  refine ⟨by rw [hf _ _ (by omega) (by omega), h1], by rw [hf _ _ (by omega) (by omega), h2], by rw [hf _ _ (by omega) (by omega), h3], by rw [hf _ _ (by omega) (by omega), h4], fun v hv => ?_, fun b hb => by rw [hf _ _ (by omega) (by omega), h6 b hb]⟩
  obtain ⟨a1, a2⟩ := h5 v hv
  exact ⟨by rw [hf _ _ (by omega) (by omega), a1], by rw [hf _ _ (by omega) (by omega), a2]⟩
theorem M_L.fr {I I' : Nat → Nat → Int32} {K : S_K} {F : S_F} {sip : Bool} (h : M_L I K F sip) (hf : M_F I I') : M_L I' K F sip := by
  obtain ⟨h1, h2, h3, h4, h5, h6, h7⟩ := h
  exact ⟨fun v hv => by rw [hf _ _ (by omega) (by omega), h1 v hv], by rw [hf _ _ (by omega) (by omega), h2], by rw [hf _ _ (by omega) (by omega), h3], by rw [hf _ _ (by omega) (by omega), h4], by rw [hf _ _ (by omega) (by omega), h5], by rw [hf _ _ (by omega) (by omega), h6], by rw [hf _ _ (by omega) (by omega), h7]⟩
theorem M_F.t {I I' I'' : Nat → Nat → Int32} (h : M_F I I') (h' : M_F I' I'') : M_F I I'' := fun b j h1 h2 => by rw [h' b j h1 h2, h b j h1 h2]
theorem lesser_e (a b : Nat) (ha : a < 2147483648) (hb : b < 2147483648) (h : am_H) : fX9_lesser (nI a) (nI b) h = some (nI (min a b), h) := by
  unfold fX9_lesser
  by_cases c : b ≤ a
  · rw [if_pos ((nI_leI hb ha).mpr c), Nat.min_eq_right c]
  · rw [if_neg (fun q => c ((nI_leI hb ha).mp q)), Nat.min_eq_left (by omega)]
theorem lesser_b {ρ : Type} (a b : Nat) (h : am_H) (G : Int32 × am_H → Option ρ) (ha : a < 2147483648) (hb : b < 2147483648) : (fX9_lesser (nI a) (nI b) h).bind G = G (nI (min a b), h) := by rw [lesser_e a b ha hb]; rfl
theorem S_dn_iff {K : S_K} (hK : S_KB K) {lev : Nat} : ∀ (m j b : Nat), j ≤ b → b < knb K → b < j + m → (b < S_dn K lev m j ↔ kM K b ≤ lev)
  | 0, j, b, h1, h2, h3 => by omega
  | m + 1, j, b, h1, h2, h3 => by
    have hM := hK.2.2.2.2.2.2.2
    show b < (if j < knb K ∧ kM K j ≤ lev then S_dn K lev m (j + 1) else j) ↔ _
    by_cases hj : j < knb K ∧ kM K j ≤ lev
    · rw [if_pos hj]
      by_cases e : b = j
      · subst e
        have := (S_dn_b (K := K) (lev := lev) m (b + 1) (by omega)).2
        exact ⟨fun _ => hj.2, fun _ => by omega⟩
      · exact S_dn_iff hK m (j + 1) b (by omega) h2 (by omega)
    · rw [if_neg hj]
      constructor
      · intro q; omega
      · intro q
        exfalso
        by_cases e : b = j
        · subst e; exact hj ⟨h2, q⟩
        · have := hM j b (by omega) h2
          exact hj ⟨by omega, by omega⟩
section MR
variable {s : Nat → Option pu_S} {I : Nat → Nat → Int32} {P : Nat → Nat → Option Nat} {J : Nat → Nat → Int64} {n : Nat × Nat}
variable {c sn : Nat} {K : S_K} {F : S_F} {w t : Nat} {sip : Bool}
set_option maxHeartbeats 4000000 in
set_option maxRecDepth 100000 in
theorem m_come (hW : pu_W s P) (hc4 : c < 4) (hK : S_KB K) {v fl W ov : Nat} (hv : v < kn K) (hc : M_C I c K) (h69 : I 69 v = nI W) (h52 : I 40 52 = nI ov) (hfl : fl ≤ 1800) (hWb : W ≤ 1800) (hov : ov ≤ 1000000) : Rn (fX9_come 40 (nI c) (nI v) (nI fl) (pu_hp s I P J n)) fun h => ∃ I', h = pu_hp s I' P J n ∧ I' 69 v = nI (min (W + fl) (kA K v * kH K v)) ∧ I' 40 52 = nI (ov + (W + fl - kA K v * kH K v)) ∧ ∀ b j, ¬ (b = 69 ∧ j = v) → ¬ (b = 40 ∧ j = 52) → I' b j = I b j := by
  obtain ⟨f1, f2⟩ := S_full hK hv
  obtain ⟨a1, a2⟩ := hc.2.2.2.2.1 v hv
  have hkn := hK.1
  unfold fX9_come fX9_come_54
  by_cases h : W + fl ≤ kA K v * kH K v
  · simp (disch := first | assumption | with_unfolding_all exact hW.1 _ _ rfl | rfl | exact pu_okI (by first | assumption | with_unfolding_all exact hW.1 _ _ rfl) (by omega) (by omega) | exact pu_oqI (by first | assumption | with_unfolding_all exact hW.1 _ _ rfl) (by omega) (by omega) | omega | decide) only [↓reduceIte, ↓gi_b, ↓pi_b, ↓gr_b, ↓pr_b, ↓al_b, ↓as_b, ↓al_3, ↓as_3, ↓al_12, ↓as_12, ↓al_l, ↓as_l, ↓rc_b, ↓Option.bind_some, ↓zr0_b, ↓zr1_b, ↓zrb_b, ↓pz0_b, ↓pz1_b, al_b, as_b, rc_b, gi_b, pi_b, gr_b, zr0, zr1, zrb, u_s, u_n, v_s, v_n, ↓isIn_b, ↓within_b, ite_T, ite_F, il_t, il_f, li_t, li_f, it_t, it_f, ti_t, ti_f, ie_t, ie_f, ei_t, ei_f, nn_le_t, nn_le_f, nn_lt_t, nn_lt_f, nn_eq_t, nn_eq_f, nI_1, nI_add, ni_addl, ni_ladd, pk_mul, ni_mull, b2_t, b2_f, b2_0, one0, m1_eq, ni_m1, reduceCtorEq, Bool.false_eq_true, nI_clamp, if_true, Option.some.injEq, Prod.mk.injEq, and_true, true_and, Nat.reduceAdd, Nat.reduceMul, Nat.reduceSub, Nat.reduceEqDiff, Nat.reduceLeDiff, Nat.reduceLT, ↓gr40_50 hW, ↓gr40_2 hW, ↓gr40_3 hW, a1, a2, h69, h52, ↓lesser_b, as_e, lesser_b]
    refine Rn_some ⟨_, rfl, u_s, ?_, fun b j h1 h2 => by rw [u_n (by omega), u_n (by omega)]⟩
    simp (disch := first | assumption | with_unfolding_all exact hW.1 _ _ rfl | rfl | exact pu_okI (by first | assumption | with_unfolding_all exact hW.1 _ _ rfl) (by omega) (by omega) | exact pu_oqI (by first | assumption | with_unfolding_all exact hW.1 _ _ rfl) (by omega) (by omega) | omega | decide) only [↓reduceIte, ↓gi_b, ↓pi_b, ↓gr_b, ↓pr_b, ↓al_b, ↓as_b, ↓al_3, ↓as_3, ↓al_12, ↓as_12, ↓al_l, ↓as_l, ↓rc_b, ↓Option.bind_some, ↓zr0_b, ↓zr1_b, ↓zrb_b, ↓pz0_b, ↓pz1_b, al_b, as_b, rc_b, gi_b, pi_b, gr_b, zr0, zr1, zrb, u_s, u_n, v_s, v_n, ↓isIn_b, ↓within_b, ite_T, ite_F, il_t, il_f, li_t, li_f, it_t, it_f, ti_t, ti_f, ie_t, ie_f, ei_t, ei_f, nn_le_t, nn_le_f, nn_lt_t, nn_lt_f, nn_eq_t, nn_eq_f, nI_1, nI_add, ni_addl, ni_ladd, pk_mul, ni_mull, b2_t, b2_f, b2_0, one0, m1_eq, ni_m1, reduceCtorEq, Bool.false_eq_true, nI_clamp, if_true, Option.some.injEq, Prod.mk.injEq, and_true, true_and, Nat.reduceAdd, Nat.reduceMul, Nat.reduceSub, Nat.reduceEqDiff, Nat.reduceLeDiff, Nat.reduceLT]
  · simp (disch := first | assumption | with_unfolding_all exact hW.1 _ _ rfl | rfl | exact pu_okI (by first | assumption | with_unfolding_all exact hW.1 _ _ rfl) (by omega) (by omega) | exact pu_oqI (by first | assumption | with_unfolding_all exact hW.1 _ _ rfl) (by omega) (by omega) | omega | decide) only [↓reduceIte, ↓gi_b, ↓pi_b, ↓gr_b, ↓pr_b, ↓al_b, ↓as_b, ↓al_3, ↓as_3, ↓al_12, ↓as_12, ↓al_l, ↓as_l, ↓rc_b, ↓Option.bind_some, ↓zr0_b, ↓zr1_b, ↓zrb_b, ↓pz0_b, ↓pz1_b, al_b, as_b, rc_b, gi_b, pi_b, gr_b, zr0, zr1, zrb, u_s, u_n, v_s, v_n, ↓isIn_b, ↓within_b, ite_T, ite_F, il_t, il_f, li_t, li_f, it_t, it_f, ti_t, ti_f, ie_t, ie_f, ei_t, ei_f, nn_le_t, nn_le_f, nn_lt_t, nn_lt_f, nn_eq_t, nn_eq_f, nI_1, nI_add, ni_addl, ni_ladd, pk_mul, ni_mull, b2_t, b2_f, b2_0, one0, m1_eq, ni_m1, reduceCtorEq, Bool.false_eq_true, nI_clamp, if_true, Option.some.injEq, Prod.mk.injEq, and_true, true_and, Nat.reduceAdd, Nat.reduceMul, Nat.reduceSub, Nat.reduceEqDiff, Nat.reduceLeDiff, Nat.reduceLT, ↓gr40_50 hW, ↓gr40_2 hW, ↓gr40_3 hW, a1, a2, h69, h52, ↓lesser_b, as_e, lesser_b]
    refine Rn_some ⟨_, rfl, u_s, ?_, fun b j h1 h2 => by rw [u_n (by omega), u_n (by omega)]⟩
    simp (disch := first | assumption | with_unfolding_all exact hW.1 _ _ rfl | rfl | exact pu_okI (by first | assumption | with_unfolding_all exact hW.1 _ _ rfl) (by omega) (by omega) | exact pu_oqI (by first | assumption | with_unfolding_all exact hW.1 _ _ rfl) (by omega) (by omega) | omega | decide) only [↓reduceIte, ↓gi_b, ↓pi_b, ↓gr_b, ↓pr_b, ↓al_b, ↓as_b, ↓al_3, ↓as_3, ↓al_12, ↓as_12, ↓al_l, ↓as_l, ↓rc_b, ↓Option.bind_some, ↓zr0_b, ↓zr1_b, ↓zrb_b, ↓pz0_b, ↓pz1_b, al_b, as_b, rc_b, gi_b, pi_b, gr_b, zr0, zr1, zrb, u_s, u_n, v_s, v_n, ↓isIn_b, ↓within_b, ite_T, ite_F, il_t, il_f, li_t, li_f, it_t, it_f, ti_t, ti_f, ie_t, ie_f, ei_t, ei_f, nn_le_t, nn_le_f, nn_lt_t, nn_lt_f, nn_eq_t, nn_eq_f, nI_1, nI_add, ni_addl, ni_ladd, pk_mul, ni_mull, b2_t, b2_f, b2_0, one0, m1_eq, ni_m1, reduceCtorEq, Bool.false_eq_true, nI_clamp, if_true, Option.some.injEq, Prod.mk.injEq, and_true, true_and, Nat.reduceAdd, Nat.reduceMul, Nat.reduceSub, Nat.reduceEqDiff, Nat.reduceLeDiff, Nat.reduceLT, ni_sub]
theorem S_hole_c {ho v t : Nat} (h : ¬ (F.2.1 = v ∧ F.2.2.2 ≤ t)) : S_hole F ho v t = ho := if_neg h
set_option maxHeartbeats 4000000 in
set_option maxRecDepth 100000 in
theorem m_hole (hW : pu_W s P) (hK : S_KB K) (hF : S_FB F) (ht : t < 96) (hl : M_L I K F sip) {v : Nat} (hv : v < kn K) {ρ : Type} (G : Int32 × am_H → Option ρ) : (fX9_hole 40 (nI v) (nI t) (pu_hp s I P J n)).bind G = G (nI (S_hole F (kO K v) v t), pu_hp s I P J n) := by
  obtain ⟨l1, l2, l3, l4, l5, l6, l7⟩ := hl
  obtain ⟨b1, b2', b3, b4⟩ := hF
  have hkn := hK.1
  have e0 := l1 v hv
  have o1 := (hK.2.1 v hv).2.2
  have key : fX9_hole 40 (nI v) (nI t) (pu_hp s I P J n) = some (nI (S_hole F (kO K v) v t), pu_hp s I P J n) := by
    unfold fX9_hole fX9_hole_40 fX9_hole_59 fX9_hole_61
    by_cases c2 : F.2.2.2 ≤ t
    · by_cases c1 : F.2.1 = v
      · by_cases c3 : F.1 = 1
        · rw [show S_hole F (kO K v) v t = kO K v - F.2.2.1 by unfold S_hole; rw [if_pos ⟨c1, c2⟩, if_pos c3]]
          by_cases c5 : F.2.2.1 ≤ kO K v
          · simp (disch := first | assumption | with_unfolding_all exact hW.1 _ _ rfl | rfl | exact pu_okI (by first | assumption | with_unfolding_all exact hW.1 _ _ rfl) (by omega) (by omega) | exact pu_oqI (by first | assumption | with_unfolding_all exact hW.1 _ _ rfl) (by omega) (by omega) | omega | decide) only [↓reduceIte, ↓gi_b, ↓pi_b, ↓gr_b, ↓pr_b, ↓al_b, ↓as_b, ↓al_3, ↓as_3, ↓al_12, ↓as_12, ↓al_l, ↓as_l, ↓rc_b, ↓Option.bind_some, ↓zr0_b, ↓zr1_b, ↓zrb_b, ↓pz0_b, ↓pz1_b, al_b, as_b, rc_b, gi_b, pi_b, gr_b, zr0, zr1, zrb, u_s, u_n, v_s, v_n, ↓isIn_b, ↓within_b, ite_T, ite_F, il_t, il_f, li_t, li_f, it_t, it_f, ti_t, ti_f, ie_t, ie_f, ei_t, ei_f, nn_le_t, nn_le_f, nn_lt_t, nn_lt_f, nn_eq_t, nn_eq_f, nI_1, nI_add, ni_addl, ni_ladd, pk_mul, ni_mull, b2_t, b2_f, b2_0, one0, m1_eq, ni_m1, reduceCtorEq, Bool.false_eq_true, nI_clamp, if_true, Option.some.injEq, Prod.mk.injEq, and_true, true_and, Nat.reduceAdd, Nat.reduceMul, Nat.reduceSub, Nat.reduceEqDiff, Nat.reduceLeDiff, Nat.reduceLT, ↓gr40_43 hW, e0, l4, l5, l6, l7, c1, c3, ni_sub, Int32.add_zero]
          · have hneg : ¬ (0 : Int32) ≤ nI (kO K v) - nI F.2.2.1 := by
              rw [Int32.not_le]; exact pk_sneg (by omega) (by omega)
            simp (disch := first | assumption | with_unfolding_all exact hW.1 _ _ rfl | rfl | exact pu_okI (by first | assumption | with_unfolding_all exact hW.1 _ _ rfl) (by omega) (by omega) | exact pu_oqI (by first | assumption | with_unfolding_all exact hW.1 _ _ rfl) (by omega) (by omega) | omega | decide) only [↓reduceIte, ↓gi_b, ↓pi_b, ↓gr_b, ↓pr_b, ↓al_b, ↓as_b, ↓al_3, ↓as_3, ↓al_12, ↓as_12, ↓al_l, ↓as_l, ↓rc_b, ↓Option.bind_some, ↓zr0_b, ↓zr1_b, ↓zrb_b, ↓pz0_b, ↓pz1_b, al_b, as_b, rc_b, gi_b, pi_b, gr_b, zr0, zr1, zrb, u_s, u_n, v_s, v_n, ↓isIn_b, ↓within_b, ite_T, ite_F, il_t, il_f, li_t, li_f, it_t, it_f, ti_t, ti_f, ie_t, ie_f, ei_t, ei_f, nn_le_t, nn_le_f, nn_lt_t, nn_lt_f, nn_eq_t, nn_eq_f, nI_1, nI_add, ni_addl, ni_ladd, pk_mul, ni_mull, b2_t, b2_f, b2_0, one0, m1_eq, ni_m1, reduceCtorEq, Bool.false_eq_true, nI_clamp, if_true, Option.some.injEq, Prod.mk.injEq, and_true, true_and, Nat.reduceAdd, Nat.reduceMul, Nat.reduceSub, Nat.reduceEqDiff, Nat.reduceLeDiff, Nat.reduceLT, ↓gr40_43 hW, e0, l4, l5, l6, l7, c1, c3, Int32.add_zero, eq_false hneg]
        · by_cases c4 : F.1 = 2
          · rw [show S_hole F (kO K v) v t = kO K v + F.2.2.1 by unfold S_hole; rw [if_pos ⟨c1, c2⟩, if_neg c3, if_pos c4]]
            simp (disch := first | assumption | with_unfolding_all exact hW.1 _ _ rfl | rfl | exact pu_okI (by first | assumption | with_unfolding_all exact hW.1 _ _ rfl) (by omega) (by omega) | exact pu_oqI (by first | assumption | with_unfolding_all exact hW.1 _ _ rfl) (by omega) (by omega) | omega | decide) only [↓reduceIte, ↓gi_b, ↓pi_b, ↓gr_b, ↓pr_b, ↓al_b, ↓as_b, ↓al_3, ↓as_3, ↓al_12, ↓as_12, ↓al_l, ↓as_l, ↓rc_b, ↓Option.bind_some, ↓zr0_b, ↓zr1_b, ↓zrb_b, ↓pz0_b, ↓pz1_b, al_b, as_b, rc_b, gi_b, pi_b, gr_b, zr0, zr1, zrb, u_s, u_n, v_s, v_n, ↓isIn_b, ↓within_b, ite_T, ite_F, il_t, il_f, li_t, li_f, it_t, it_f, ti_t, ti_f, ie_t, ie_f, ei_t, ei_f, nn_le_t, nn_le_f, nn_lt_t, nn_lt_f, nn_eq_t, nn_eq_f, nI_1, nI_add, ni_addl, ni_ladd, pk_mul, ni_mull, b2_t, b2_f, b2_0, one0, m1_eq, ni_m1, reduceCtorEq, Bool.false_eq_true, nI_clamp, if_true, Option.some.injEq, Prod.mk.injEq, and_true, true_and, Nat.reduceAdd, Nat.reduceMul, Nat.reduceSub, Nat.reduceEqDiff, Nat.reduceLeDiff, Nat.reduceLT, ↓gr40_43 hW, e0, l4, l5, l6, l7, c1, c4, Int32.sub_zero]
          · rw [show S_hole F (kO K v) v t = kO K v by unfold S_hole; rw [if_pos ⟨c1, c2⟩, if_neg c3, if_neg c4]]
            simp (disch := first | assumption | with_unfolding_all exact hW.1 _ _ rfl | rfl | exact pu_okI (by first | assumption | with_unfolding_all exact hW.1 _ _ rfl) (by omega) (by omega) | exact pu_oqI (by first | assumption | with_unfolding_all exact hW.1 _ _ rfl) (by omega) (by omega) | omega | decide) only [↓reduceIte, ↓gi_b, ↓pi_b, ↓gr_b, ↓pr_b, ↓al_b, ↓as_b, ↓al_3, ↓as_3, ↓al_12, ↓as_12, ↓al_l, ↓as_l, ↓rc_b, ↓Option.bind_some, ↓zr0_b, ↓zr1_b, ↓zrb_b, ↓pz0_b, ↓pz1_b, al_b, as_b, rc_b, gi_b, pi_b, gr_b, zr0, zr1, zrb, u_s, u_n, v_s, v_n, ↓isIn_b, ↓within_b, ite_T, ite_F, il_t, il_f, li_t, li_f, it_t, it_f, ti_t, ti_f, ie_t, ie_f, ei_t, ei_f, nn_le_t, nn_le_f, nn_lt_t, nn_lt_f, nn_eq_t, nn_eq_f, nI_1, nI_add, ni_addl, ni_ladd, pk_mul, ni_mull, b2_t, b2_f, b2_0, one0, m1_eq, ni_m1, reduceCtorEq, Bool.false_eq_true, nI_clamp, if_true, Option.some.injEq, Prod.mk.injEq, and_true, true_and, Nat.reduceAdd, Nat.reduceMul, Nat.reduceSub, Nat.reduceEqDiff, Nat.reduceLeDiff, Nat.reduceLT, ↓gr40_43 hW, e0, l4, l5, l6, l7, c1, Int32.sub_zero, Int32.add_zero]
      · rw [S_hole_c (fun q => c1 q.1)]
        have c1' : ¬ v = F.2.1 := fun q => c1 q.symm
        simp (disch := first | assumption | with_unfolding_all exact hW.1 _ _ rfl | rfl | exact pu_okI (by first | assumption | with_unfolding_all exact hW.1 _ _ rfl) (by omega) (by omega) | exact pu_oqI (by first | assumption | with_unfolding_all exact hW.1 _ _ rfl) (by omega) (by omega) | omega | decide) only [↓reduceIte, ↓gi_b, ↓pi_b, ↓gr_b, ↓pr_b, ↓al_b, ↓as_b, ↓al_3, ↓as_3, ↓al_12, ↓as_12, ↓al_l, ↓as_l, ↓rc_b, ↓Option.bind_some, ↓zr0_b, ↓zr1_b, ↓zrb_b, ↓pz0_b, ↓pz1_b, al_b, as_b, rc_b, gi_b, pi_b, gr_b, zr0, zr1, zrb, u_s, u_n, v_s, v_n, ↓isIn_b, ↓within_b, ite_T, ite_F, il_t, il_f, li_t, li_f, it_t, it_f, ti_t, ti_f, ie_t, ie_f, ei_t, ei_f, nn_le_t, nn_le_f, nn_lt_t, nn_lt_f, nn_eq_t, nn_eq_f, nI_1, nI_add, ni_addl, ni_ladd, pk_mul, ni_mull, b2_t, b2_f, b2_0, one0, m1_eq, ni_m1, reduceCtorEq, Bool.false_eq_true, nI_clamp, if_true, Option.some.injEq, Prod.mk.injEq, and_true, true_and, Nat.reduceAdd, Nat.reduceMul, Nat.reduceSub, Nat.reduceEqDiff, Nat.reduceLeDiff, Nat.reduceLT, ↓gr40_43 hW, e0, l5, l7]
    · rw [S_hole_c (fun q => c2 q.2)]
      simp (disch := first | assumption | with_unfolding_all exact hW.1 _ _ rfl | rfl | exact pu_okI (by first | assumption | with_unfolding_all exact hW.1 _ _ rfl) (by omega) (by omega) | exact pu_oqI (by first | assumption | with_unfolding_all exact hW.1 _ _ rfl) (by omega) (by omega) | omega | decide) only [↓reduceIte, ↓gi_b, ↓pi_b, ↓gr_b, ↓pr_b, ↓al_b, ↓as_b, ↓al_3, ↓as_3, ↓al_12, ↓as_12, ↓al_l, ↓as_l, ↓rc_b, ↓Option.bind_some, ↓zr0_b, ↓zr1_b, ↓zrb_b, ↓pz0_b, ↓pz1_b, al_b, as_b, rc_b, gi_b, pi_b, gr_b, zr0, zr1, zrb, u_s, u_n, v_s, v_n, ↓isIn_b, ↓within_b, ite_T, ite_F, il_t, il_f, li_t, li_f, it_t, it_f, ti_t, ti_f, ie_t, ie_f, ei_t, ei_f, nn_le_t, nn_le_f, nn_lt_t, nn_lt_f, nn_eq_t, nn_eq_f, nI_1, nI_add, ni_addl, ni_ladd, pk_mul, ni_mull, b2_t, b2_f, b2_0, one0, m1_eq, ni_m1, reduceCtorEq, Bool.false_eq_true, nI_clamp, if_true, Option.some.injEq, Prod.mk.injEq, and_true, true_and, Nat.reduceAdd, Nat.reduceMul, Nat.reduceSub, Nat.reduceEqDiff, Nat.reduceLeDiff, Nat.reduceLT, ↓gr40_43 hW, e0, l7]
  rw [key]; rfl
set_option maxHeartbeats 4000000 in
set_option maxRecDepth 100000 in
theorem m_tick49 (hW : pu_W s P) (hc4 : c < 4) (hK : S_KB K) (hF : S_FB F) (ht : t < 96) (hw : w ≤ 150) {Q : am_H → Prop} : ∀ (m k N fl ov : Nat) (W : Nat → Nat) (x5 : Int32) (I : Nat → Nat → Int32), k + m + 1 = kn K → m + 1 < N → M_C I c K → M_L I K F sip → (∀ j, j < kn K → W j ≤ kA K j * kH K j) → fl ≤ 1800 → ov ≤ 900000 + 3600 * k → (∀ j, j < kn K → I 69 j = nI (if j = k then S_held K k fl W else W j)) → I 40 52 = nI (ov + (W k + fl - kA K k * kH K k)) →
    (∀ I' N', 1 ≤ N' → (∀ j, j < kn K → I' 69 j = nI ((S_vs K F w t (m + 1) k (fl, W, ov)).2.1 j)) → I' 40 52 = nI (S_vs K F w t (m + 1) k (fl, W, ov)).2.2 → (∀ b j, ¬ b = 69 → ¬ (b = 40 ∧ j = 52) → I' b j = I b j) → Rn (fX9_tick_49 N' (some 40) (nI c) (nI t) (nI (S_warm F w t)) (nI (S_vs K F w t (m + 1) k (fl, W, ov)).1) (nI (kn K)) (pu_hp s I' P J n)) Q) →
    Rn (fX9_tick_49 N (some 40) (nI c) (nI t) (nI (S_warm F w t)) x5 (nI k) (pu_hp s I P J n)) Q := by
  have hkn := hK.1
  intro m
  induction m with
  | zero =>
    intro k N fl ov W x5 I hk hN hc hl hW0 hfl hov hI hI52 kk
    obtain ⟨N, rfl⟩ : ∃ N', N = N' + 1 := ⟨N - 1, by omega⟩
    have hk1 : k < kn K := by omega
    obtain ⟨f1, f2⟩ := S_full hK hk1
    obtain ⟨a1, a2⟩ := hc.2.2.2.2.1 k hk1
    obtain ⟨⟨k1, k2⟩, -, o1⟩ := hK.2.1 k hk1
    have hIk := hI k hk1
    rw [if_pos rfl] at hIk
    have hheld : S_held K k fl W ≤ kA K k * kH K k := S_held_le
    have hwn := S_warm_le (F := F) (t := t) hw
    have hho := S_hole_le hF (v := k) (t := t) o1
    have hlev : S_held K k fl W / kA K k ≤ 1800 := Nat.le_trans (Nat.div_le_self _ _) (by omega)
    have hp1 : S_hole F (kO K k) k t * (S_held K k fl W / kA K k) ≤ 220 * 1800 := Nat.mul_le_mul hho hlev
    have hp2 : S_hole F (kO K k) k t * (S_held K k fl W / kA K k) * S_warm F w t ≤ 220 * 1800 * 150 := Nat.mul_le_mul hp1 hwn
    have hq : S_hole F (kO K k) k t * (S_held K k fl W / kA K k) * S_warm F w t / 1000 < 2147483648 := Nat.lt_of_le_of_lt (Nat.div_le_self _ _) (by omega)
    have ho : S_out K F w t k (S_held K k fl W) ≤ S_held K k fl W := S_out_le
    have e : min (S_held K k fl W) (S_hole F (kO K k) k t * (S_held K k fl W / kA K k) * S_warm F w t / 1000) = S_out K F w t k (S_held K k fl W) := rfl
    show Rn (fX9_tick_49_b (fX9_tick_49 N) _ _ _ _ _ _ _) _
    unfold fX9_tick_49_b fX9_tick_149
    simp (disch := first | assumption | with_unfolding_all exact hW.1 _ _ rfl | rfl | exact pu_okI (by first | assumption | with_unfolding_all exact hW.1 _ _ rfl) (by omega) (by omega) | exact pu_oqI (by first | assumption | with_unfolding_all exact hW.1 _ _ rfl) (by omega) (by omega) | omega | decide) only [↓reduceIte, ↓gi_b, ↓pi_b, ↓gr_b, ↓pr_b, ↓al_b, ↓as_b, ↓al_3, ↓as_3, ↓al_12, ↓as_12, ↓al_l, ↓as_l, ↓rc_b, ↓Option.bind_some, ↓zr0_b, ↓zr1_b, ↓zrb_b, ↓pz0_b, ↓pz1_b, al_b, as_b, rc_b, gi_b, pi_b, gr_b, zr0, zr1, zrb, u_s, u_n, v_s, v_n, ↓isIn_b, ↓within_b, ite_T, ite_F, il_t, il_f, li_t, li_f, it_t, it_f, ti_t, ti_f, ie_t, ie_f, ei_t, ei_f, nn_le_t, nn_le_f, nn_lt_t, nn_lt_f, nn_eq_t, nn_eq_f, nI_1, nI_add, ni_addl, ni_ladd, pk_mul, ni_mull, b2_t, b2_f, b2_0, one0, m1_eq, ni_m1, reduceCtorEq, Bool.false_eq_true, nI_clamp, if_true, Option.some.injEq, Prod.mk.injEq, and_true, true_and, Nat.reduceAdd, Nat.reduceMul, Nat.reduceSub, Nat.reduceEqDiff, Nat.reduceLeDiff, Nat.reduceLT, ↓gr40_6 hW, ↓gr40_8 hW, ↓gr40_1 hW, ↓gr40_50 hW, ↓gr40_56 hW, ↓gr40_9 hW, ↓gr40_5 hW, ↓gr40_59 hW, ↓gr40_2 hW, ↓gr40_10 hW, hc.1, hIk, ↓m_hole hW hK hF ht hl hk1, a1, pk_div, show (1000 : Int32) = nI 1000 from rfl, nI_0, ↓lesser_b, ni_sub, e]
    have hkk : k + 1 = kn K := by omega
    rw [hkk]
    refine kk _ N (by omega) (fun j hj => ?_) ?_ (fun b j h1 h2 => by rw [u_n (by omega)])
    · show _ = nI (updN W k _ j)
      by_cases ej : j = k
      · subst ej; rw [u_s, updN_s]
      · rw [u_n (by omega), hI j hj, if_neg ej, updN_n ej]
    · rw [u_n (by omega), hI52]; rfl
  | succ m ih =>
    intro k N fl ov W x5 I hk hN hc hl hW0 hfl hov hI hI52 kk
    obtain ⟨N, rfl⟩ : ∃ N', N = N' + 1 := ⟨N - 1, by omega⟩
    have hk1 : k < kn K := by omega
    have hk2 : k + 1 < kn K := by omega
    obtain ⟨f1, f2⟩ := S_full hK hk1
    obtain ⟨f3, f4⟩ := S_full hK hk2
    obtain ⟨a1, a2⟩ := hc.2.2.2.2.1 k hk1
    obtain ⟨⟨k1, k2⟩, -, o1⟩ := hK.2.1 k hk1
    have hIk := hI k hk1
    rw [if_pos rfl] at hIk
    have hheld : S_held K k fl W ≤ kA K k * kH K k := S_held_le
    have hwn := S_warm_le (F := F) (t := t) hw
    have hho := S_hole_le hF (v := k) (t := t) o1
    have hlev : S_held K k fl W / kA K k ≤ 1800 := Nat.le_trans (Nat.div_le_self _ _) (by omega)
    have hp1 : S_hole F (kO K k) k t * (S_held K k fl W / kA K k) ≤ 220 * 1800 := Nat.mul_le_mul hho hlev
    have hp2 : S_hole F (kO K k) k t * (S_held K k fl W / kA K k) * S_warm F w t ≤ 220 * 1800 * 150 := Nat.mul_le_mul hp1 hwn
    have hq : S_hole F (kO K k) k t * (S_held K k fl W / kA K k) * S_warm F w t / 1000 < 2147483648 := Nat.lt_of_le_of_lt (Nat.div_le_self _ _) (by omega)
    have ho : S_out K F w t k (S_held K k fl W) ≤ S_held K k fl W := S_out_le
    have e : min (S_held K k fl W) (S_hole F (kO K k) k t * (S_held K k fl W / kA K k) * S_warm F w t / 1000) = S_out K F w t k (S_held K k fl W) := rfl
    have hWk := hW0 k hk1
    have hWk2 := hW0 _ hk2
    have hI2 := hI _ hk2
    rw [if_neg (by omega)] at hI2
    show Rn (fX9_tick_49_b (fX9_tick_49 N) _ _ _ _ _ _ _) _
    unfold fX9_tick_49_b fX9_tick_149
    simp (disch := first | assumption | with_unfolding_all exact hW.1 _ _ rfl | rfl | exact pu_okI (by first | assumption | with_unfolding_all exact hW.1 _ _ rfl) (by omega) (by omega) | exact pu_oqI (by first | assumption | with_unfolding_all exact hW.1 _ _ rfl) (by omega) (by omega) | omega | decide) only [↓reduceIte, ↓gi_b, ↓pi_b, ↓gr_b, ↓pr_b, ↓al_b, ↓as_b, ↓al_3, ↓as_3, ↓al_12, ↓as_12, ↓al_l, ↓as_l, ↓rc_b, ↓Option.bind_some, ↓zr0_b, ↓zr1_b, ↓zrb_b, ↓pz0_b, ↓pz1_b, al_b, as_b, rc_b, gi_b, pi_b, gr_b, zr0, zr1, zrb, u_s, u_n, v_s, v_n, ↓isIn_b, ↓within_b, ite_T, ite_F, il_t, il_f, li_t, li_f, it_t, it_f, ti_t, ti_f, ie_t, ie_f, ei_t, ei_f, nn_le_t, nn_le_f, nn_lt_t, nn_lt_f, nn_eq_t, nn_eq_f, nI_1, nI_add, ni_addl, ni_ladd, pk_mul, ni_mull, b2_t, b2_f, b2_0, one0, m1_eq, ni_m1, reduceCtorEq, Bool.false_eq_true, nI_clamp, if_true, Option.some.injEq, Prod.mk.injEq, and_true, true_and, Nat.reduceAdd, Nat.reduceMul, Nat.reduceSub, Nat.reduceEqDiff, Nat.reduceLeDiff, Nat.reduceLT, ↓gr40_6 hW, ↓gr40_8 hW, ↓gr40_1 hW, ↓gr40_50 hW, ↓gr40_56 hW, ↓gr40_9 hW, ↓gr40_5 hW, ↓gr40_59 hW, ↓gr40_2 hW, ↓gr40_10 hW, hc.1, hIk, ↓m_hole hW hK hF ht hl hk1, a1, pk_div, show (1000 : Int32) = nI 1000 from rfl, nI_0, ↓lesser_b, ni_sub, e]
    refine Rn_bind (m_come (W := W (k + 1)) (ov := ov + (W k + fl - kA K k * kH K k)) hW hc4 hK hk2 (hc.fr fun b j h1 h2 => by rw [u_n (by omega)]) (by rw [u_n (by omega), hI2]) (by rw [u_n (by omega), hI52]) (by omega) (by omega) (by omega)) ?_
    rintro _ ⟨I1, rfl, d1, d2, d3⟩
    refine ih (k + 1) N (S_v K F w t k (fl, W, ov)).1 (S_v K F w t k (fl, W, ov)).2.2 (S_v K F w t k (fl, W, ov)).2.1 x5 I1 (by omega) (by omega) (hc.fr fun b j h1 h2 => by rw [d3 b j (by omega) (by omega), u_n (by omega)]) (hl.fr fun b j h1 h2 => by rw [d3 b j (by omega) (by omega), u_n (by omega)]) (S_v_b hW0 hfl hk1 hK).1 (S_v_b hW0 hfl hk1 hK).2.1 (by show ov + (W k + fl - kA K k * kH K k) ≤ _; omega) (fun j hj => ?_) ?_ (fun I' N' hN' a1 a2 a3 => kk I' N' hN' a1 a2 fun b j h1 h2 => by rw [a3 b j h1 h2, d3 b j (by omega) h2, u_n (by omega)])
    · by_cases ej : j = k + 1
      · subst ej
        rw [if_pos rfl, d1]
        show nI (min (W (k + 1) + S_out K F w t k (S_held K k fl W)) _) = nI (min (updN W k _ (k + 1) + S_out K F w t k (S_held K k fl W)) _)
        rw [updN_n (by omega)]
      · rw [if_neg ej, d3 _ _ (by omega) (by omega)]
        show _ = nI (updN W k _ j)
        by_cases ej2 : j = k
        · subst ej2; rw [u_s, updN_s]
        · rw [u_n (by omega), hI j hj, if_neg ej2, updN_n ej2]
    · rw [d2]
      show _ = nI (ov + (W k + fl - kA K k * kH K k) + (updN W k _ (k + 1) + S_out K F w t k (S_held K k fl W) - _))
      rw [updN_n (by omega)]
end MR
