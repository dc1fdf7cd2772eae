/-! small functions of the class: faults, quotients, clocks by their cells -/
def C_S (s : Nat → Option pu_S) (P : Nat → Nat → Option Nat) (c : Nat) : Prop := s c = some (0, 0, 0) ∧ s (c + 1) = some (1, 0, 3) ∧ s (c + 2) = some (1, 0, 3) ∧ s (c + 3) = some (1, 0, 3) ∧ s (c + 4) = some (1, 0, 3) ∧ s (c + 5) = some (1, 0, 12) ∧ P c 1 = some (c + 1) ∧ P c 2 = some (c + 2) ∧ P c 3 = some (c + 3) ∧ P c 4 = some (c + 4) ∧ P c 9 = some (c + 5)
def C_I (I : Nat → Nat → Int32) (c : Nat) (K : S_K) : Prop := I c 0 = nI (kn K) ∧ I c 5 = nI (kca K) ∧ I c 6 = nI (kch K) ∧ I c 7 = nI (ksu K) ∧ I c 8 = nI (knb K) ∧ (∀ k, k < kn K → I (c + 1) k = nI (kA K k) ∧ I (c + 2) k = nI (kH K k) ∧ I (c + 3) k = nI (kO K k) ∧ I (c + 4) k = nI (kA K k * kH K k)) ∧ ∀ b, b < knb K → I (c + 5) b = nI (kM K b)
theorem C_I.fr {I I' : Nat → Nat → Int32} {c : Nat} {K : S_K} (h : C_I I c K) (hf : ∀ b j, c ≤ b → b ≤ c + 5 → I' b j = I b j) : C_I I' c K := by
  obtain ⟨h1, h2, h3, h4, h5, h6, h7⟩ := h
  refine ⟨by rw [hf _ _ (by omega) (by omega), h1], by rw [hf _ _ (by omega) (by omega), h2], by rw [hf _ _ (by omega) (by omega), h3], by rw [hf _ _ (by omega) (by omega), h4], by rw [hf _ _ (by omega) (by omega), h5], fun k hk => ?_, fun b hb => by rw [hf _ _ (by omega) (by omega), h7 b hb]⟩
  obtain ⟨a1, a2, a3, a4⟩ := h6 k hk
  exact ⟨by rw [hf _ _ (by omega) (by omega), a1], by rw [hf _ _ (by omega) (by omega), a2], by rw [hf _ _ (by omega) (by omega), a3], by rw [hf _ _ (by omega) (by omega), a4]⟩
def F_I (I : Nat → Nat → Int32) (f : Nat) (F : S_F) : Prop := I f 0 = nI F.1 ∧ I f 1 = nI F.2.1 ∧ I f 2 = nI F.2.2.1 ∧ I f 3 = nI F.2.2.2
theorem F_I.fr {I I' : Nat → Nat → Int32} {f : Nat} {F : S_F} (h : F_I I f F) (hf : ∀ j, I' f j = I f j) : F_I I' f F := by
  obtain ⟨h1, h2, h3, h4⟩ := h
  exact ⟨by rw [hf, h1], by rw [hf, h2], by rw [hf, h3], by rw [hf, h4]⟩
theorem nI_min' {a b : Nat} (ha : a < 2147483648) (hb : b < 2147483648) : (if nI b < nI a then nI b else nI a) = nI (min a b) := by
  by_cases h : b < a
  · rw [if_pos ((nI_ltI hb ha).mpr h), Nat.min_eq_right (by omega)]
  · rw [if_neg (fun q => h ((nI_ltI hb ha).mp q)), Nat.min_eq_left (by omega)]
theorem nI_max' {a b : Nat} (ha : a < 2147483648) (hb : b < 2147483648) : (if nI a < nI b then nI b else nI a) = nI (max a b) := by
  by_cases h : a < b
  · rw [if_pos ((nI_ltI ha hb).mpr h), Nat.max_eq_right (by omega)]
  · rw [if_neg (fun q => h ((nI_ltI ha hb).mp q)), Nat.max_eq_left (by omega)]
theorem pk_z {a b : Nat} (ha : a < 1073741824) (hb : b < 1073741824) : (if (0 : Int32) < nI a - nI b then nI a - nI b else (0 : Int32)) = nI (a - b) := by
  by_cases h : b < a
  · rw [pk_sub (by omega), if_pos (by rw [← nI_0]; exact (nI_ltI (by omega) (by omega)).mpr (by omega))]
  · rw [if_neg, show a - b = 0 by omega, nI_0]
    intro q
    rw [Int32.lt_iff_toInt_lt, pk_sub_toInt (by omega) (by omega)] at q
    have h0 : (0 : Int32).toInt = 0 := by decide
    omega
section SM
variable {s : Nat → Option pu_S} {I : Nat → Nat → Int32} {P : Nat → Nat → Option Nat} {J : Nat → Nat → Int64} {n : Nat × Nat}
variable {f : Nat} {F : S_F} {ρ : Type}
set_option maxHeartbeats 4000000 in
set_option maxRecDepth 100000 in
theorem q_holeOf (hs : s f = some (0, 2, 0)) (hF : S_FB F) (hf : F_I I f F) {ho v t : Nat} (h1 : ho ≤ 200) (h2 : v < 3) (h3 : t < 96) : fX2_holeOf f (nI ho) (nI v) (nI t) (pu_hp s I P J n) = some (nI (S_hole F ho v t), pu_hp s I P J n) := by
  obtain ⟨b1, b2, b3, b4⟩ := hF
  obtain ⟨e1, e2, e3, e4⟩ := hf
  unfold fX2_holeOf S_hole
  by_cases c1 : F.2.1 = v
  · by_cases c2 : F.2.2.2 ≤ t
    · by_cases c3 : F.1 = 1
      · simp (disch := first | assumption | exact hW.1 _ _ rfl | rfl | exact ⟨_, by first | assumption | exact hW.1 _ _ rfl, by omega, by decide⟩ | omega | decide) only [↓reduceIte, ↓gi_b, ↓pi_b, ↓gr_b, ↓pr_b, ↓al_b, ↓as_b, ↓al_3, ↓as_3, ↓al_12, ↓as_12, ↓rc_b, ↓Option.bind_some, ↓zr0_b, ↓zr1_b, ↓zrb_b, ↓pz0_b, ↓pz1_b, al_b, as_b, rc_b, gi_b, pi_b, gr_b, zr0, zr1, zrb, u_s, u_n, v_s, v_n, ↓isIn_b, ↓within_b, ite_T, ite_F, il_t, il_f, li_t, li_f, it_t, it_f, ti_t, ti_f, ie_t, ie_f, ei_t, ei_f, nn_le_t, nn_le_f, nn_lt_t, nn_lt_f, nn_eq_t, nn_eq_f, nI_1, nI_add, ni_addl, ni_ladd, pk_mul, ni_mull, b2_t, b2_f, b2_0, Option.some.injEq, Prod.mk.injEq, and_true, true_and, Nat.reduceAdd, Nat.reduceMul, Nat.reduceSub, Nat.reduceEqDiff, Nat.reduceLeDiff, Nat.reduceLT, e1, e2, e3, e4, c1, c2, c3, and_self, if_true, pk_z]
      · by_cases c4 : F.1 = 2
        · simp (disch := first | assumption | exact hW.1 _ _ rfl | rfl | exact ⟨_, by first | assumption | exact hW.1 _ _ rfl, by omega, by decide⟩ | omega | decide) only [↓reduceIte, ↓gi_b, ↓pi_b, ↓gr_b, ↓pr_b, ↓al_b, ↓as_b, ↓al_3, ↓as_3, ↓al_12, ↓as_12, ↓rc_b, ↓Option.bind_some, ↓zr0_b, ↓zr1_b, ↓zrb_b, ↓pz0_b, ↓pz1_b, al_b, as_b, rc_b, gi_b, pi_b, gr_b, zr0, zr1, zrb, u_s, u_n, v_s, v_n, ↓isIn_b, ↓within_b, ite_T, ite_F, il_t, il_f, li_t, li_f, it_t, it_f, ti_t, ti_f, ie_t, ie_f, ei_t, ei_f, nn_le_t, nn_le_f, nn_lt_t, nn_lt_f, nn_eq_t, nn_eq_f, nI_1, nI_add, ni_addl, ni_ladd, pk_mul, ni_mull, b2_t, b2_f, b2_0, Option.some.injEq, Prod.mk.injEq, and_true, true_and, Nat.reduceAdd, Nat.reduceMul, Nat.reduceSub, Nat.reduceEqDiff, Nat.reduceLeDiff, Nat.reduceLT, e1, e2, e3, e4, c1, c2, c3, c4, and_self, if_true, if_false]
        · simp (disch := first | assumption | exact hW.1 _ _ rfl | rfl | exact ⟨_, by first | assumption | exact hW.1 _ _ rfl, by omega, by decide⟩ | omega | decide) only [↓reduceIte, ↓gi_b, ↓pi_b, ↓gr_b, ↓pr_b, ↓al_b, ↓as_b, ↓al_3, ↓as_3, ↓al_12, ↓as_12, ↓rc_b, ↓Option.bind_some, ↓zr0_b, ↓zr1_b, ↓zrb_b, ↓pz0_b, ↓pz1_b, al_b, as_b, rc_b, gi_b, pi_b, gr_b, zr0, zr1, zrb, u_s, u_n, v_s, v_n, ↓isIn_b, ↓within_b, ite_T, ite_F, il_t, il_f, li_t, li_f, it_t, it_f, ti_t, ti_f, ie_t, ie_f, ei_t, ei_f, nn_le_t, nn_le_f, nn_lt_t, nn_lt_f, nn_eq_t, nn_eq_f, nI_1, nI_add, ni_addl, ni_ladd, pk_mul, ni_mull, b2_t, b2_f, b2_0, Option.some.injEq, Prod.mk.injEq, and_true, true_and, Nat.reduceAdd, Nat.reduceMul, Nat.reduceSub, Nat.reduceEqDiff, Nat.reduceLeDiff, Nat.reduceLT, e1, e2, e3, e4, c1, c2, c3, c4, and_self, if_true, if_false]
    · simp (disch := first | assumption | exact hW.1 _ _ rfl | rfl | exact ⟨_, by first | assumption | exact hW.1 _ _ rfl, by omega, by decide⟩ | omega | decide) only [↓reduceIte, ↓gi_b, ↓pi_b, ↓gr_b, ↓pr_b, ↓al_b, ↓as_b, ↓al_3, ↓as_3, ↓al_12, ↓as_12, ↓rc_b, ↓Option.bind_some, ↓zr0_b, ↓zr1_b, ↓zrb_b, ↓pz0_b, ↓pz1_b, al_b, as_b, rc_b, gi_b, pi_b, gr_b, zr0, zr1, zrb, u_s, u_n, v_s, v_n, ↓isIn_b, ↓within_b, ite_T, ite_F, il_t, il_f, li_t, li_f, it_t, it_f, ti_t, ti_f, ie_t, ie_f, ei_t, ei_f, nn_le_t, nn_le_f, nn_lt_t, nn_lt_f, nn_eq_t, nn_eq_f, nI_1, nI_add, ni_addl, ni_ladd, pk_mul, ni_mull, b2_t, b2_f, b2_0, Option.some.injEq, Prod.mk.injEq, and_true, true_and, Nat.reduceAdd, Nat.reduceMul, Nat.reduceSub, Nat.reduceEqDiff, Nat.reduceLeDiff, Nat.reduceLT, e1, e2, e3, e4, c1, c2, and_false, if_false]
  · simp (disch := first | assumption | exact hW.1 _ _ rfl | rfl | exact ⟨_, by first | assumption | exact hW.1 _ _ rfl, by omega, by decide⟩ | omega | decide) only [↓reduceIte, ↓gi_b, ↓pi_b, ↓gr_b, ↓pr_b, ↓al_b, ↓as_b, ↓al_3, ↓as_3, ↓al_12, ↓as_12, ↓rc_b, ↓Option.bind_some, ↓zr0_b, ↓zr1_b, ↓zrb_b, ↓pz0_b, ↓pz1_b, al_b, as_b, rc_b, gi_b, pi_b, gr_b, zr0, zr1, zrb, u_s, u_n, v_s, v_n, ↓isIn_b, ↓within_b, ite_T, ite_F, il_t, il_f, li_t, li_f, it_t, it_f, ti_t, ti_f, ie_t, ie_f, ei_t, ei_f, nn_le_t, nn_le_f, nn_lt_t, nn_lt_f, nn_eq_t, nn_eq_f, nI_1, nI_add, ni_addl, ni_ladd, pk_mul, ni_mull, b2_t, b2_f, b2_0, Option.some.injEq, Prod.mk.injEq, and_true, true_and, Nat.reduceAdd, Nat.reduceMul, Nat.reduceSub, Nat.reduceEqDiff, Nat.reduceLeDiff, Nat.reduceLT, e1, e2, e3, e4, c1, false_and, if_false]
set_option maxHeartbeats 4000000 in
set_option maxRecDepth 100000 in
theorem q_warmthOf (hs : s f = some (0, 2, 0)) (hF : S_FB F) (hf : F_I I f F) {w t : Nat} (h1 : 50 ≤ w ∧ w ≤ 150) (h3 : t < 96) : fX2_warmthOf f (nI w) (nI t) (pu_hp s I P J n) = some (nI (S_warm F w t), pu_hp s I P J n) := by
  obtain ⟨b1, b2, b3, b4⟩ := hF
  obtain ⟨e1, e2, e3, e4⟩ := hf
  unfold fX2_warmthOf S_warm
  by_cases c1 : F.1 = 4
  · by_cases c2 : F.2.2.2 ≤ t
    · simp (disch := first | assumption | exact hW.1 _ _ rfl | rfl | exact ⟨_, by first | assumption | exact hW.1 _ _ rfl, by omega, by decide⟩ | omega | decide) only [↓reduceIte, ↓gi_b, ↓pi_b, ↓gr_b, ↓pr_b, ↓al_b, ↓as_b, ↓al_3, ↓as_3, ↓al_12, ↓as_12, ↓rc_b, ↓Option.bind_some, ↓zr0_b, ↓zr1_b, ↓zrb_b, ↓pz0_b, ↓pz1_b, al_b, as_b, rc_b, gi_b, pi_b, gr_b, zr0, zr1, zrb, u_s, u_n, v_s, v_n, ↓isIn_b, ↓within_b, ite_T, ite_F, il_t, il_f, li_t, li_f, it_t, it_f, ti_t, ti_f, ie_t, ie_f, ei_t, ei_f, nn_le_t, nn_le_f, nn_lt_t, nn_lt_f, nn_eq_t, nn_eq_f, nI_1, nI_add, ni_addl, ni_ladd, pk_mul, ni_mull, b2_t, b2_f, b2_0, Option.some.injEq, Prod.mk.injEq, and_true, true_and, Nat.reduceAdd, Nat.reduceMul, Nat.reduceSub, Nat.reduceEqDiff, Nat.reduceLeDiff, Nat.reduceLT, e1, e2, e3, e4, c1, c2, and_self, if_true, ni_sub]
    · simp (disch := first | assumption | exact hW.1 _ _ rfl | rfl | exact ⟨_, by first | assumption | exact hW.1 _ _ rfl, by omega, by decide⟩ | omega | decide) only [↓reduceIte, ↓gi_b, ↓pi_b, ↓gr_b, ↓pr_b, ↓al_b, ↓as_b, ↓al_3, ↓as_3, ↓al_12, ↓as_12, ↓rc_b, ↓Option.bind_some, ↓zr0_b, ↓zr1_b, ↓zrb_b, ↓pz0_b, ↓pz1_b, al_b, as_b, rc_b, gi_b, pi_b, gr_b, zr0, zr1, zrb, u_s, u_n, v_s, v_n, ↓isIn_b, ↓within_b, ite_T, ite_F, il_t, il_f, li_t, li_f, it_t, it_f, ti_t, ti_f, ie_t, ie_f, ei_t, ei_f, nn_le_t, nn_le_f, nn_lt_t, nn_lt_f, nn_eq_t, nn_eq_f, nI_1, nI_add, ni_addl, ni_ladd, pk_mul, ni_mull, b2_t, b2_f, b2_0, Option.some.injEq, Prod.mk.injEq, and_true, true_and, Nat.reduceAdd, Nat.reduceMul, Nat.reduceSub, Nat.reduceEqDiff, Nat.reduceLeDiff, Nat.reduceLT, e1, e2, e3, e4, c1, c2, and_false, if_false]
  · simp (disch := first | assumption | exact hW.1 _ _ rfl | rfl | exact ⟨_, by first | assumption | exact hW.1 _ _ rfl, by omega, by decide⟩ | omega | decide) only [↓reduceIte, ↓gi_b, ↓pi_b, ↓gr_b, ↓pr_b, ↓al_b, ↓as_b, ↓al_3, ↓as_3, ↓al_12, ↓as_12, ↓rc_b, ↓Option.bind_some, ↓zr0_b, ↓zr1_b, ↓zrb_b, ↓pz0_b, ↓pz1_b, al_b, as_b, rc_b, gi_b, pi_b, gr_b, zr0, zr1, zrb, u_s, u_n, v_s, v_n, ↓isIn_b, ↓within_b, ite_T, ite_F, il_t, il_f, li_t, li_f, it_t, it_f, ti_t, ti_f, ie_t, ie_f, ei_t, ei_f, nn_le_t, nn_le_f, nn_lt_t, nn_lt_f, nn_eq_t, nn_eq_f, nI_1, nI_add, ni_addl, ni_ladd, pk_mul, ni_mull, b2_t, b2_f, b2_0, Option.some.injEq, Prod.mk.injEq, and_true, true_and, Nat.reduceAdd, Nat.reduceMul, Nat.reduceSub, Nat.reduceEqDiff, Nat.reduceLeDiff, Nat.reduceLT, e1, e2, e3, e4, c1, false_and, if_false]
set_option maxHeartbeats 4000000 in
set_option maxRecDepth 100000 in
theorem q_leakAt (hs : s f = some (0, 2, 0)) (hF : S_FB F) (hf : F_I I f F) {t : Nat} (h3 : t < 96) : fX2_leakAt f (nI t) (pu_hp s I P J n) = some (nI (S_leak F t), pu_hp s I P J n) := by
  obtain ⟨b1, b2, b3, b4⟩ := hF
  obtain ⟨e1, e2, e3, e4⟩ := hf
  unfold fX2_leakAt S_leak
  by_cases c1 : F.1 = 3
  · by_cases c2 : F.2.2.2 ≤ t
    · simp (disch := first | assumption | exact hW.1 _ _ rfl | rfl | exact ⟨_, by first | assumption | exact hW.1 _ _ rfl, by omega, by decide⟩ | omega | decide) only [↓reduceIte, ↓gi_b, ↓pi_b, ↓gr_b, ↓pr_b, ↓al_b, ↓as_b, ↓al_3, ↓as_3, ↓al_12, ↓as_12, ↓rc_b, ↓Option.bind_some, ↓zr0_b, ↓zr1_b, ↓zrb_b, ↓pz0_b, ↓pz1_b, al_b, as_b, rc_b, gi_b, pi_b, gr_b, zr0, zr1, zrb, u_s, u_n, v_s, v_n, ↓isIn_b, ↓within_b, ite_T, ite_F, il_t, il_f, li_t, li_f, it_t, it_f, ti_t, ti_f, ie_t, ie_f, ei_t, ei_f, nn_le_t, nn_le_f, nn_lt_t, nn_lt_f, nn_eq_t, nn_eq_f, nI_1, nI_add, ni_addl, ni_ladd, pk_mul, ni_mull, b2_t, b2_f, b2_0, Option.some.injEq, Prod.mk.injEq, and_true, true_and, Nat.reduceAdd, Nat.reduceMul, Nat.reduceSub, Nat.reduceEqDiff, Nat.reduceLeDiff, Nat.reduceLT, e1, e2, e3, e4, c1, c2, and_self, if_true]
    · simp (disch := first | assumption | exact hW.1 _ _ rfl | rfl | exact ⟨_, by first | assumption | exact hW.1 _ _ rfl, by omega, by decide⟩ | omega | decide) only [↓reduceIte, ↓gi_b, ↓pi_b, ↓gr_b, ↓pr_b, ↓al_b, ↓as_b, ↓al_3, ↓as_3, ↓al_12, ↓as_12, ↓rc_b, ↓Option.bind_some, ↓zr0_b, ↓zr1_b, ↓zrb_b, ↓pz0_b, ↓pz1_b, al_b, as_b, rc_b, gi_b, pi_b, gr_b, zr0, zr1, zrb, u_s, u_n, v_s, v_n, ↓isIn_b, ↓within_b, ite_T, ite_F, il_t, il_f, li_t, li_f, it_t, it_f, ti_t, ti_f, ie_t, ie_f, ei_t, ei_f, nn_le_t, nn_le_f, nn_lt_t, nn_lt_f, nn_eq_t, nn_eq_f, nI_1, nI_add, ni_addl, ni_ladd, pk_mul, ni_mull, b2_t, b2_f, b2_0, Option.some.injEq, Prod.mk.injEq, and_true, true_and, Nat.reduceAdd, Nat.reduceMul, Nat.reduceSub, Nat.reduceEqDiff, Nat.reduceLeDiff, Nat.reduceLT, e1, e2, e3, e4, c1, c2, and_false, if_false, nI_0]
  · simp (disch := first | assumption | exact hW.1 _ _ rfl | rfl | exact ⟨_, by first | assumption | exact hW.1 _ _ rfl, by omega, by decide⟩ | omega | decide) only [↓reduceIte, ↓gi_b, ↓pi_b, ↓gr_b, ↓pr_b, ↓al_b, ↓as_b, ↓al_3, ↓as_3, ↓al_12, ↓as_12, ↓rc_b, ↓Option.bind_some, ↓zr0_b, ↓zr1_b, ↓zrb_b, ↓pz0_b, ↓pz1_b, al_b, as_b, rc_b, gi_b, pi_b, gr_b, zr0, zr1, zrb, u_s, u_n, v_s, v_n, ↓isIn_b, ↓within_b, ite_T, ite_F, il_t, il_f, li_t, li_f, it_t, it_f, ti_t, ti_f, ie_t, ie_f, ei_t, ei_f, nn_le_t, nn_le_f, nn_lt_t, nn_lt_f, nn_eq_t, nn_eq_f, nI_1, nI_add, ni_addl, ni_ladd, pk_mul, ni_mull, b2_t, b2_f, b2_0, Option.some.injEq, Prod.mk.injEq, and_true, true_and, Nat.reduceAdd, Nat.reduceMul, Nat.reduceSub, Nat.reduceEqDiff, Nat.reduceLeDiff, Nat.reduceLT, e1, e2, e3, e4, c1, false_and, if_false, nI_0]
theorem holeOf_b (hs : s f = some (0, 2, 0)) (hF : S_FB F) (hf : F_I I f F) {ho v t : Nat} (h1 : ho ≤ 200) (h2 : v < 3) (h3 : t < 96) (G : Int32 × am_H → Option ρ) : (fX2_holeOf f (nI ho) (nI v) (nI t) (pu_hp s I P J n)).bind G = G (nI (S_hole F ho v t), pu_hp s I P J n) := by rw [q_holeOf hs hF hf h1 h2 h3]; rfl
theorem warm_b (hs : s f = some (0, 2, 0)) (hF : S_FB F) (hf : F_I I f F) {w t : Nat} (h1 : 50 ≤ w ∧ w ≤ 150) (h3 : t < 96) (G : Int32 × am_H → Option ρ) : (fX2_warmthOf f (nI w) (nI t) (pu_hp s I P J n)).bind G = G (nI (S_warm F w t), pu_hp s I P J n) := by rw [q_warmthOf hs hF hf h1 h3]; rfl
theorem leakAt_b (hs : s f = some (0, 2, 0)) (hF : S_FB F) (hf : F_I I f F) {t : Nat} (h3 : t < 96) (G : Int32 × am_H → Option ρ) : (fX2_leakAt f (nI t) (pu_hp s I P J n)).bind G = G (nI (S_leak F t), pu_hp s I P J n) := by rw [q_leakAt hs hF hf h3]; rfl
theorem quot_e {a b : Nat} (hb : 1 ≤ b) (ha : a < 2147483648) (hb2 : b < 2147483648) (h : am_H) : fX8_quotient (nI a) (nI b) h = some (nI (a / b), h) := by
  unfold fX8_quotient
  rw [if_pos (by rw [← show nI 1 = (1 : Int32) from rfl]; exact (nI_leI (by omega) hb2).mpr hb), if_neg (nI_ne0 (by omega) hb2), pk_div ha (by omega) hb2]
theorem quot_b {a b : Nat} (hb : 1 ≤ b) (ha : a < 2147483648) (hb2 : b < 2147483648) (h : am_H) (G : Int32 × am_H → Option ρ) : (fX8_quotient (nI a) (nI b) h).bind G = G (nI (a / b), h) := by rw [quot_e hb ha hb2]; rfl
end SM
