/-! the reference's new clock; the call clock -/
section MK
variable {s : Nat → Option pu_S} {I : Nat → Nat → Int32} {P : Nat → Nat → Option Nat} {J : Nat → Nat → Int64} {n : Nat × Nat}
variable {Z : S_Z} {K : S_K} {c : Nat}
set_option maxHeartbeats 4000000 in
set_option maxRecDepth 100000 in
theorem m_c171 (hW : pu_W s P) (hc : c < 4) (hnb : knb K ≤ 12) : ∀ (m k N : Nat) (I : Nat → Nat → Int32), k + m = knb K → m < N → I 40 40 = nI (knb K) → I 40 0 = nI c → (∀ b, b < knb K → I 67 b = nI (kM K b)) → (∀ b, b < k → I 49 (12 * c + b) = nI (kM K b)) → Rn (fX9_clock_171 N (some 40) (nI k) (pu_hp s I P J n)) fun y => ∃ I', y = (nI c, pu_hp s I' P J n) ∧ (∀ b, b < knb K → I' 49 (12 * c + b) = nI (kM K b)) ∧ I' 40 0 = nI (c + 1) ∧ I' 40 24 = nI 0 ∧ ∀ b j, ¬ (b = 49 ∧ 12 * c ≤ j ∧ j < 12 * c + 12) → ¬ (b = 40 ∧ (j = 0 ∨ j = 24)) → I' b j = I b j := by
  intro m
  induction m with
  | zero =>
    intro k N I hk hN h1 h2 h3 h4
    obtain ⟨N, rfl⟩ : ∃ N', N = N' + 1 := ⟨N - 1, by omega⟩
    obtain rfl : k = knb K := by omega
    show Rn (fX9_clock_171_b _ _ _ _) _
    unfold fX9_clock_171_b
    simp (disch := first | assumption | with_unfolding_all exact hW.1 _ _ rfl | rfl | exact pu_okI (by first | assumption | with_unfolding_all exact hW.1 _ _ rfl) (by omega) (by omega) | exact pu_oqI (by first | assumption | with_unfolding_all exact hW.1 _ _ rfl) (by omega) (by omega) | omega | decide) only [↓reduceIte, ↓gi_b, ↓pi_b, ↓gr_b, ↓pr_b, ↓al_b, ↓as_b, ↓al_3, ↓as_3, ↓al_12, ↓as_12, ↓al_l, ↓as_l, ↓rc_b, ↓Option.bind_some, ↓zr0_b, ↓zr1_b, ↓zrb_b, ↓pz0_b, ↓pz1_b, al_b, as_b, rc_b, gi_b, pi_b, gr_b, zr0, zr1, zrb, u_s, u_n, v_s, v_n, ↓isIn_b, ↓within_b, ite_T, ite_F, il_t, il_f, li_t, li_f, it_t, it_f, ti_t, ti_f, ie_t, ie_f, ei_t, ei_f, nn_le_t, nn_le_f, nn_lt_t, nn_lt_f, nn_eq_t, nn_eq_f, nI_1, nI_add, ni_addl, ni_ladd, pk_mul, ni_mull, b2_t, b2_f, b2_0, one0, m1_eq, ni_m1, reduceCtorEq, Bool.false_eq_true, nI_clamp, if_true, Option.some.injEq, Prod.mk.injEq, and_true, true_and, Nat.reduceAdd, Nat.reduceMul, Nat.reduceSub, Nat.reduceEqDiff, Nat.reduceLeDiff, Nat.reduceLT, ↓gr40_9 hW, ↓gr40_41 hW, ↓gr40_5 hW, ↓gr40_6 hW, ↓gr40_7 hW, ↓gr40_8 hW, ↓gr40_2 hW, ↓gr40_34 hW, ↓gr40_3 hW, ↓gr40_35 hW, ↓gr40_4 hW, ↓gr40_36 hW, ↓gr40_1 hW, h1, h2]
    rw [nI_pred]
    exact Rn_some ⟨_, rfl, fun b hb => by rw [u_n (by omega), u_n (by omega), h4 b hb], by rw [u_n (by omega), u_s], u_s, fun b j q1 q2 => by rw [u_n (by omega), u_n (by omega)]⟩
  | succ m ih =>
    intro k N I hk hN h1 h2 h3 h4
    obtain ⟨N, rfl⟩ : ∃ N', N = N' + 1 := ⟨N - 1, by omega⟩
    show Rn (fX9_clock_171_b (fX9_clock_171 N) _ _ _) _
    unfold fX9_clock_171_b
    simp (disch := first | assumption | with_unfolding_all exact hW.1 _ _ rfl | rfl | exact pu_okI (by first | assumption | with_unfolding_all exact hW.1 _ _ rfl) (by omega) (by omega) | exact pu_oqI (by first | assumption | with_unfolding_all exact hW.1 _ _ rfl) (by omega) (by omega) | omega | decide) only [↓reduceIte, ↓gi_b, ↓pi_b, ↓gr_b, ↓pr_b, ↓al_b, ↓as_b, ↓al_3, ↓as_3, ↓al_12, ↓as_12, ↓al_l, ↓as_l, ↓rc_b, ↓Option.bind_some, ↓zr0_b, ↓zr1_b, ↓zrb_b, ↓pz0_b, ↓pz1_b, al_b, as_b, rc_b, gi_b, pi_b, gr_b, zr0, zr1, zrb, u_s, u_n, v_s, v_n, ↓isIn_b, ↓within_b, ite_T, ite_F, il_t, il_f, li_t, li_f, it_t, it_f, ti_t, ti_f, ie_t, ie_f, ei_t, ei_f, nn_le_t, nn_le_f, nn_lt_t, nn_lt_f, nn_eq_t, nn_eq_f, nI_1, nI_add, ni_addl, ni_ladd, pk_mul, ni_mull, b2_t, b2_f, b2_0, one0, m1_eq, ni_m1, reduceCtorEq, Bool.false_eq_true, nI_clamp, if_true, Option.some.injEq, Prod.mk.injEq, and_true, true_and, Nat.reduceAdd, Nat.reduceMul, Nat.reduceSub, Nat.reduceEqDiff, Nat.reduceLeDiff, Nat.reduceLT, ↓gr40_9 hW, ↓gr40_41 hW, ↓gr40_5 hW, ↓gr40_6 hW, ↓gr40_7 hW, ↓gr40_8 hW, ↓gr40_2 hW, ↓gr40_34 hW, ↓gr40_3 hW, ↓gr40_35 hW, ↓gr40_4 hW, ↓gr40_36 hW, ↓gr40_1 hW, h1, h2, h3 k (by omega)]
    refine Rn_mono (ih (k + 1) N _ (by omega) (by omega) (by rw [u_n (by omega), h1]) (by rw [u_n (by omega), h2]) (fun b hb => by rw [u_n (by omega), h3 b hb]) (fun b hb => ?_)) ?_
    · by_cases e : b = k
      · subst e; rw [u_s]
      · rw [u_n (by omega), h4 b (by omega)]
    · rintro _ ⟨I', rfl, a1, a2, a3, a4⟩
      exact ⟨I', rfl, a1, a2, a3, fun b j q1 q2 => by rw [a4 b j q1 q2, u_n (by omega)]⟩
/-- what is to be kept -/
def MKc (I : Nat → Nat → Int32) (c : Nat) (K : S_K) : Prop := (I 40 33 = nI (kn K) ∧ I 40 40 = nI (knb K) ∧ I 40 0 = nI c) ∧ (∀ u, u < kn K → I 64 u = nI (kA K u) ∧ I 65 u = nI (kH K u) ∧ I 66 u = nI (kO K u)) ∧ (∀ b, b < knb K → I 67 b = nI (kM K b)) ∧ I 40 37 = nI (kca K) ∧ I 40 38 = nI (kch K) ∧ I 40 39 = nI (ksu K)
theorem MKc.fr {I' : Nat → Nat → Int32} (h : MKc I c K) (hf : ∀ b j, b = 40 ∨ (64 ≤ b ∧ b ≤ 67) → I' b j = I b j) : MKc I' c K := by
  obtain ⟨⟨h1, h2, h3⟩, h4, h5, h6, h7, h8⟩ := h
  refine ⟨⟨by rw [hf _ _ (by omega), h1], by rw [hf _ _ (by omega), h2], by rw [hf _ _ (by omega), h3]⟩, fun u hu => ?_, fun b hb => by rw [hf _ _ (by omega), h5 b hb], by rw [hf _ _ (by omega), h6], by rw [hf _ _ (by omega), h7], by rw [hf _ _ (by omega), h8]⟩
  obtain ⟨a1, a2, a3⟩ := h4 u hu
  exact ⟨by rw [hf _ _ (by omega), a1], by rw [hf _ _ (by omega), a2], by rw [hf _ _ (by omega), a3]⟩
/-- what was kept -/
def MKd (I : Nat → Nat → Int32) (c : Nat) (K : S_K) : Prop := (∀ v, v < kn K → I 42 (3 * c + v) = nI (kA K v) ∧ I 43 (3 * c + v) = nI (kH K v) ∧ I 44 (3 * c + v) = nI (kO K v)) ∧ I 45 c = nI (kca K) ∧ I 46 c = nI (kch K) ∧ I 47 c = nI (ksu K) ∧ I 48 c = nI (knb K) ∧ (∀ b, b < knb K → I 49 (12 * c + b) = nI (kM K b)) ∧ I 40 0 = nI (c + 1) ∧ I 40 24 = nI 0
def FrK (I I' : Nat → Nat → Int32) (c : Nat) : Prop := ∀ b j, ¬ (42 ≤ b ∧ b ≤ 44 ∧ 3 * c ≤ j ∧ j < 3 * c + 3) → ¬ (45 ≤ b ∧ b ≤ 48 ∧ j = c) → ¬ (b = 49 ∧ 12 * c ≤ j ∧ j < 12 * c + 12) → ¬ (b = 40 ∧ (j = 0 ∨ j = 24)) → I' b j = I b j
set_option maxHeartbeats 4000000 in
set_option maxRecDepth 100000 in
theorem m_c46 (hW : pu_W s P) (hc : c < 4) (hnb : knb K ≤ 12) (hkn : kn K ≤ 3) : ∀ (m k N : Nat) (I : Nat → Nat → Int32), k + m = kn K → m < N → MKc I c K → (∀ v, v < k → I 42 (3 * c + v) = nI (kA K v) ∧ I 43 (3 * c + v) = nI (kH K v) ∧ I 44 (3 * c + v) = nI (kO K v)) → Rn (fX9_clock_46 N (some 40) (nI k) (pu_hp s I P J n)) fun y => ∃ I', y = (nI c, pu_hp s I' P J n) ∧ MKd I' c K ∧ FrK I I' c := by
  intro m
  induction m with
  | zero =>
    intro k N I hk hN h hd
    obtain ⟨N, rfl⟩ : ∃ N', N = N' + 1 := ⟨N - 1, by omega⟩
    obtain rfl : k = kn K := by omega
    obtain ⟨⟨h1, h2, h3⟩, h4, h5, h6, h7, h8⟩ := h
    show Rn (fX9_clock_46_b _ _ _ _) _
    unfold fX9_clock_46_b
    simp (disch := first | assumption | with_unfolding_all exact hW.1 _ _ rfl | rfl | exact pu_okI (by first | assumption | with_unfolding_all exact hW.1 _ _ rfl) (by omega) (by omega) | exact pu_oqI (by first | assumption | with_unfolding_all exact hW.1 _ _ rfl) (by omega) (by omega) | omega | decide) only [↓reduceIte, ↓gi_b, ↓pi_b, ↓gr_b, ↓pr_b, ↓al_b, ↓as_b, ↓al_3, ↓as_3, ↓al_12, ↓as_12, ↓al_l, ↓as_l, ↓rc_b, ↓Option.bind_some, ↓zr0_b, ↓zr1_b, ↓zrb_b, ↓pz0_b, ↓pz1_b, al_b, as_b, rc_b, gi_b, pi_b, gr_b, zr0, zr1, zrb, u_s, u_n, v_s, v_n, ↓isIn_b, ↓within_b, ite_T, ite_F, il_t, il_f, li_t, li_f, it_t, it_f, ti_t, ti_f, ie_t, ie_f, ei_t, ei_f, nn_le_t, nn_le_f, nn_lt_t, nn_lt_f, nn_eq_t, nn_eq_f, nI_1, nI_add, ni_addl, ni_ladd, pk_mul, ni_mull, b2_t, b2_f, b2_0, one0, m1_eq, ni_m1, reduceCtorEq, Bool.false_eq_true, nI_clamp, if_true, Option.some.injEq, Prod.mk.injEq, and_true, true_and, Nat.reduceAdd, Nat.reduceMul, Nat.reduceSub, Nat.reduceEqDiff, Nat.reduceLeDiff, Nat.reduceLT, ↓gr40_9 hW, ↓gr40_41 hW, ↓gr40_5 hW, ↓gr40_6 hW, ↓gr40_7 hW, ↓gr40_8 hW, ↓gr40_2 hW, ↓gr40_34 hW, ↓gr40_3 hW, ↓gr40_35 hW, ↓gr40_4 hW, ↓gr40_36 hW, ↓gr40_1 hW, h1, h2, h3, h6, h7, h8]
    rw [show (0 : Int32) = nI 0 from rfl]
    refine Rn_mono (m_c171 hW hc hnb (knb K) 0 am_fu _ (by omega) (by unfold am_fu; omega) (by rw [u_n (by omega), u_n (by omega), u_n (by omega), u_n (by omega), h2]) (by rw [u_n (by omega), u_n (by omega), u_n (by omega), u_n (by omega), h3]) (fun b hb => by rw [u_n (by omega), u_n (by omega), u_n (by omega), u_n (by omega), h5 b hb]) (fun b hb => absurd hb (Nat.not_lt_zero b))) ?_
    rintro _ ⟨I', rfl, a1, a2, a3, a4⟩
    refine ⟨I', rfl, ⟨fun v hv => ?_, ?_, ?_, ?_, ?_, a1, a2, a3⟩, fun b j q1 q2 q3 q4 => by rw [a4 b j q3 q4, u_n (by omega), u_n (by omega), u_n (by omega), u_n (by omega)]⟩
    · obtain ⟨b1, b2, b3⟩ := hd v hv
      exact ⟨by rw [a4 _ _ (by omega) (by omega), u_n (by omega), u_n (by omega), u_n (by omega), u_n (by omega), b1], by rw [a4 _ _ (by omega) (by omega), u_n (by omega), u_n (by omega), u_n (by omega), u_n (by omega), b2], by rw [a4 _ _ (by omega) (by omega), u_n (by omega), u_n (by omega), u_n (by omega), u_n (by omega), b3]⟩
    · rw [a4 _ _ (by omega) (by omega), u_n (by omega), u_n (by omega), u_n (by omega), u_s]
    · rw [a4 _ _ (by omega) (by omega), u_n (by omega), u_n (by omega), u_s]
    · rw [a4 _ _ (by omega) (by omega), u_n (by omega), u_s]
    · rw [a4 _ _ (by omega) (by omega), u_s]
  | succ m ih =>
    intro k N I hk hN h hd
    obtain ⟨N, rfl⟩ : ∃ N', N = N' + 1 := ⟨N - 1, by omega⟩
    obtain ⟨⟨h1, h2, h3⟩, h4, h5, h6, h7, h8⟩ := id h
    obtain ⟨w1, w2, w3⟩ := h4 k (by omega)
    show Rn (fX9_clock_46_b (fX9_clock_46 N) _ _ _) _
    unfold fX9_clock_46_b
    simp (disch := first | assumption | with_unfolding_all exact hW.1 _ _ rfl | rfl | exact pu_okI (by first | assumption | with_unfolding_all exact hW.1 _ _ rfl) (by omega) (by omega) | exact pu_oqI (by first | assumption | with_unfolding_all exact hW.1 _ _ rfl) (by omega) (by omega) | omega | decide) only [↓reduceIte, ↓gi_b, ↓pi_b, ↓gr_b, ↓pr_b, ↓al_b, ↓as_b, ↓al_3, ↓as_3, ↓al_12, ↓as_12, ↓al_l, ↓as_l, ↓rc_b, ↓Option.bind_some, ↓zr0_b, ↓zr1_b, ↓zrb_b, ↓pz0_b, ↓pz1_b, al_b, as_b, rc_b, gi_b, pi_b, gr_b, zr0, zr1, zrb, u_s, u_n, v_s, v_n, ↓isIn_b, ↓within_b, ite_T, ite_F, il_t, il_f, li_t, li_f, it_t, it_f, ti_t, ti_f, ie_t, ie_f, ei_t, ei_f, nn_le_t, nn_le_f, nn_lt_t, nn_lt_f, nn_eq_t, nn_eq_f, nI_1, nI_add, ni_addl, ni_ladd, pk_mul, ni_mull, b2_t, b2_f, b2_0, one0, m1_eq, ni_m1, reduceCtorEq, Bool.false_eq_true, nI_clamp, if_true, Option.some.injEq, Prod.mk.injEq, and_true, true_and, Nat.reduceAdd, Nat.reduceMul, Nat.reduceSub, Nat.reduceEqDiff, Nat.reduceLeDiff, Nat.reduceLT, ↓gr40_9 hW, ↓gr40_41 hW, ↓gr40_5 hW, ↓gr40_6 hW, ↓gr40_7 hW, ↓gr40_8 hW, ↓gr40_2 hW, ↓gr40_34 hW, ↓gr40_3 hW, ↓gr40_35 hW, ↓gr40_4 hW, ↓gr40_36 hW, ↓gr40_1 hW, h1, h2, h3, w1, w2, w3]
    refine Rn_mono (ih (k + 1) N _ (by omega) (by omega) (h.fr fun b j q => by rw [u_n (by omega), u_n (by omega), u_n (by omega)]) (fun v hv => ?_)) ?_
    · by_cases e : v = k
      · subst e
        exact ⟨by rw [u_n (by omega), u_n (by omega), u_s], by rw [u_n (by omega), u_s], by rw [u_s]⟩
      · obtain ⟨b1, b2, b3⟩ := hd v (by omega)
        exact ⟨by rw [u_n (by omega), u_n (by omega), u_n (by omega), b1], by rw [u_n (by omega), u_n (by omega), u_n (by omega), b2], by rw [u_n (by omega), u_n (by omega), u_n (by omega), b3]⟩
    · rintro _ ⟨I', rfl, a1, a2⟩
      exact ⟨I', rfl, a1, fun b j q1 q2 q3 q4 => by rw [a2 b j q1 q2 q3 q4, u_n (by omega), u_n (by omega), u_n (by omega)]⟩
theorem InvM.newK {I' : Nat → Nat → Int32} (hZ : Z_B Z) (h : InvM s I P Z) (hK : S_KB K) (h4 : znc Z < 4) (hd : MKd I' (znc Z) K) (h41 : I' 41 (znc Z) = nI (kn K)) (hf : FrK (pu_u I 41 (znc Z) (I' 41 (znc Z))) I' (znc Z)) : InvM s I' P (zsK Z K) := by
  obtain ⟨h1, ⟨a1, a2, a3, a4, a5, a6⟩, h3, g4, h5, h6, h7, h8⟩ := h
  obtain ⟨d1, d2, d3, d4, d5, d6, d7, d8⟩ := hd
  have f : ∀ b j, ¬ (b = 41 ∧ j = znc Z) → ¬ (42 ≤ b ∧ b ≤ 44 ∧ 3 * znc Z ≤ j ∧ j < 3 * znc Z + 3) → ¬ (45 ≤ b ∧ b ≤ 48 ∧ j = znc Z) → ¬ (b = 49 ∧ 12 * znc Z ≤ j ∧ j < 12 * znc Z + 12) → ¬ (b = 40 ∧ (j = 0 ∨ j = 24)) → I' b j = I b j := fun b j q0 q1 q2 q3 q4 => by rw [hf b j q1 q2 q3 q4, u_n q0]
  have f5 : ∀ b j, 50 ≤ b → I' b j = I b j := fun b j q => f b j (by omega) (by omega) (by omega) (by omega) (by omega)
  have f4 : ∀ j, ¬ j = 0 → ¬ j = 24 → I' 40 j = I 40 j := fun j q q' => f 40 j (by omega) (by omega) (by omega) (by omega) (by omega)
  refine ⟨h1, ⟨d7, by rw [f4 _ (by omega) (by omega), a2]; rfl, by rw [f4 _ (by omega) (by omega), a3]; rfl, by rw [f4 _ (by omega) (by omega), a4]; rfl, by rw [f4 _ (by omega) (by omega), a5]; rfl, d8⟩, fun k hk => absurd hk (Nat.not_lt_zero k), fun i hi => ?_, fun i hi => ?_, fun i hi => ?_, h7.fr fun x j hx => ?_, fun hh => (h8 hh).fr fun x j hx => ?_⟩
  · have hi : i < znc Z + 1 := hi
    show M_C I' i (upG (zK Z) (znc Z) K i) ∧ I' 47 i = nI (ksu (upG (zK Z) (znc Z) K i)) ∧ ∀ v, v < kn (upG (zK Z) (znc Z) K i) → I' 44 (3 * i + v) = nI (kO (upG (zK Z) (znc Z) K i) v)
    by_cases e : i = znc Z
    · subst e
      rw [upG_s]
      exact ⟨⟨h41, d2, d3, d5, fun v hv => ⟨(d1 v hv).1, (d1 v hv).2.1⟩, d6⟩, d4, fun v hv => (d1 v hv).2.2⟩
    · rw [upG_n e]
      have hKi := (hZ.1.2 i (by omega)).1
      have hn3 := hKi.1.2
      have hb12 := hKi.2.2.2.2.2.1.2
      obtain ⟨⟨m1, m2, m3, m4, m5, m6⟩, m7, m8⟩ := g4 i (by omega)
      refine ⟨⟨by rw [f _ _ (by omega) (by omega) (by omega) (by omega) (by omega), m1], by rw [f _ _ (by omega) (by omega) (by omega) (by omega) (by omega), m2], by rw [f _ _ (by omega) (by omega) (by omega) (by omega) (by omega), m3], by rw [f _ _ (by omega) (by omega) (by omega) (by omega) (by omega), m4], fun v hv => ?_, fun b hb => by rw [f _ _ (by omega) (by omega) (by omega) (by omega) (by omega), m6 b hb]⟩, by rw [f _ _ (by omega) (by omega) (by omega) (by omega) (by omega), m7], fun v hv => by rw [f _ _ (by omega) (by omega) (by omega) (by omega) (by omega), m8 v hv]⟩
      obtain ⟨b1, b2⟩ := m5 v hv
      exact ⟨by rw [f _ _ (by omega) (by omega) (by omega) (by omega) (by omega), b1], by rw [f _ _ (by omega) (by omega) (by omega) (by omega) (by omega), b2]⟩
  · obtain ⟨b1, b2, b3, b4⟩ := h5 i hi
    exact ⟨by rw [f5 _ _ (by omega)]; exact b1, by rw [f5 _ _ (by omega)]; exact b2, by rw [f5 _ _ (by omega)]; exact b3, by rw [f5 _ _ (by omega)]; exact b4⟩
  · obtain ⟨b1, b2, b3⟩ := h6 i hi
    exact ⟨by rw [f5 _ _ (by omega)]; exact b1, by rw [f5 _ _ (by omega)]; exact b2, by rw [f5 _ _ (by omega)]; exact b3⟩
  · rcases hx with rfl | rfl | rfl | ⟨rfl, rfl⟩
    · exact f5 _ _ (by omega)
    · exact f5 _ _ (by omega)
    · exact f5 _ _ (by omega)
    · exact f4 _ (by omega) (by omega)
  · rcases hx with rfl | rfl | rfl | ⟨rfl, rfl⟩
    · exact f5 _ _ (by omega)
    · exact f5 _ _ (by omega)
    · exact f5 _ _ (by omega)
    · exact f4 _ (by omega) (by omega)
end MK
set_option maxHeartbeats 4000000 in
set_option maxRecDepth 100000 in
theorem d_clock {Z : S_Z} (hZ : Z_B Z) : CallOK Z (fX8_clock 1) (fX9_clock 40) := by
  have hpl := hZ.2.2.2.2.2.1.1
  have hnc := hZ.1.1
  rcases (ag_fin (L := zpl Z) (c := zpc Z)).2 with ⟨hq, hl, hwh, x, K', eK, eg, hnb, hKB, hO⟩ | ⟨hq, hwh⟩
  · by_cases h4 : znc Z < 4
    · refine ⟨nI (znc Z), zsK Z (pgK 6 x K'), zsK_B hZ h4 hKB hO, fun s I P J n h => ?_, fun s I P J n h => ?_⟩
      · have hW := h.1
        have e51 := h.2.2.1.2.2.2.2.2
        unfold fX8_clock
        simp (disch := first | assumption | with_unfolding_all exact hW.1 _ _ rfl | rfl | exact pu_okI (by first | assumption | with_unfolding_all exact hW.1 _ _ rfl) (by omega) (by omega) | exact pu_oqI (by first | assumption | with_unfolding_all exact hW.1 _ _ rfl) (by omega) (by omega) | omega | decide) only [↓reduceIte, ↓gi_b, ↓pi_b, ↓gr_b, ↓pr_b, ↓al_b, ↓as_b, ↓al_3, ↓as_3, ↓al_12, ↓as_12, ↓al_l, ↓as_l, ↓rc_b, ↓Option.bind_some, ↓zr0_b, ↓zr1_b, ↓zrb_b, ↓pz0_b, ↓pz1_b, al_b, as_b, rc_b, gi_b, pi_b, gr_b, zr0, zr1, zrb, u_s, u_n, v_s, v_n, ↓isIn_b, ↓within_b, ite_T, ite_F, il_t, il_f, li_t, li_f, it_t, it_f, ti_t, ti_f, ie_t, ie_f, ei_t, ei_f, nn_le_t, nn_le_f, nn_lt_t, nn_lt_f, nn_eq_t, nn_eq_f, nI_1, nI_add, ni_addl, ni_ladd, pk_mul, ni_mull, b2_t, b2_f, b2_0, one0, m1_eq, ni_m1, reduceCtorEq, Bool.false_eq_true, nI_clamp, if_true, Option.some.injEq, Prod.mk.injEq, and_true, true_and, Nat.reduceAdd, Nat.reduceMul, Nat.reduceSub, Nat.reduceEqDiff, Nat.reduceLeDiff, Nat.reduceLT, ↓gr1_6 hW, ↓gr1_11 hW, ↓gr1_0 hW]
        refine Rn_bind (c_readC hW e51 hpl (h.pg hZ)) ?_
        rintro _ ⟨I1, a, rfl, g1, g2, g3, g4, g5⟩
        obtain rfl : a = 1 := g4 ⟨hq, hl⟩
        have h' : InvC s I1 P n Z := h.sc (fun b j q _ => g3.sc b j q) (fun _ _ _ => rfl)
        have e13 := h'.2.2.1.1
        have h1 := hW.1 1 _ rfl
        rw [if_neg (show ¬ (1 : Int32) = 0 by decide), gi_b h1 rfl, e13, if_pos (show nI (znc Z) < (4 : Int32) by rw [ti_t (by show znc Z < 4; omega) (by decide)]; trivial)]
        refine c_newK hZ h' h4 hKB (g2 _ eK) (fun s' I' P' k1 k2 => ⟨rfl, s', I', P', _, rfl, k1, fun b j q1 q2 => ?_, by show n.1 + 6 ≤ n.1 + 6; omega, by show n.2 + 34 ≤ n.2 + 60; omega⟩)
        rw [k2 b j q1 q2, g3 b j (by omega) (by omega)]
      · have hW := h.1
        unfold fX9_clock
        simp (disch := first | assumption | with_unfolding_all exact hW.1 _ _ rfl | rfl | exact pu_okI (by first | assumption | with_unfolding_all exact hW.1 _ _ rfl) (by omega) (by omega) | exact pu_oqI (by first | assumption | with_unfolding_all exact hW.1 _ _ rfl) (by omega) (by omega) | omega | decide) only [↓reduceIte, ↓gi_b, ↓pi_b, ↓gr_b, ↓pr_b, ↓al_b, ↓as_b, ↓al_3, ↓as_3, ↓al_12, ↓as_12, ↓al_l, ↓as_l, ↓rc_b, ↓Option.bind_some, ↓zr0_b, ↓zr1_b, ↓zrb_b, ↓pz0_b, ↓pz1_b, al_b, as_b, rc_b, gi_b, pi_b, gr_b, zr0, zr1, zrb, u_s, u_n, v_s, v_n, ↓isIn_b, ↓within_b, ite_T, ite_F, il_t, il_f, li_t, li_f, it_t, it_f, ti_t, ti_f, ie_t, ie_f, ei_t, ei_f, nn_le_t, nn_le_f, nn_lt_t, nn_lt_f, nn_eq_t, nn_eq_f, nI_1, nI_add, ni_addl, ni_ladd, pk_mul, ni_mull, b2_t, b2_f, b2_0, one0, m1_eq, ni_m1, reduceCtorEq, Bool.false_eq_true, nI_clamp, if_true, Option.some.injEq, Prod.mk.injEq, and_true, true_and, Nat.reduceAdd, Nat.reduceMul, Nat.reduceSub, Nat.reduceEqDiff, Nat.reduceLeDiff, Nat.reduceLT, ↓gr40_9 hW, ↓gr40_41 hW, ↓gr40_5 hW, ↓gr40_6 hW, ↓gr40_7 hW, ↓gr40_8 hW, ↓gr40_2 hW, ↓gr40_34 hW, ↓gr40_3 hW, ↓gr40_35 hW, ↓gr40_4 hW, ↓gr40_36 hW, ↓gr40_1 hW]
        refine Rn_bind (m_page hW (h.pg hZ)) ?_
        rintro _ ⟨I1, rfl, g1, g2, g3, g4, g5, g6⟩
        have h' : InvM s I1 P Z := h.sc hW (fun b j _ _ q => g6.sc b j q)
        have e0 := h'.2.1.1
        have e32 := g4 hwh
        rw [eg] at g1 g2
        have kb := g2.2.2.2.1
        obtain ⟨I2, ek, k1, k2⟩ := m_keep6 (J := J) (n := n) hW (w := 6) rfl (w' := 6) rfl g1 kb
        have e0' : I2 40 0 = nI (znc Z) := by rw [k2 _ _ (by omega) (by omega), e0]
        have e33 : I2 40 33 = nI (kn (pgK 6 x K')) := k1.1.1
        have hne : (nI (znc Z) = 4) = False := eq_false fun q => by
          have := (nI_eq (a := znc Z) (b := 4) (by omega) (by omega)).mp q
          omega
        simp (disch := first | assumption | with_unfolding_all exact hW.1 _ _ rfl | rfl | exact pu_okI (by first | assumption | with_unfolding_all exact hW.1 _ _ rfl) (by omega) (by omega) | exact pu_oqI (by first | assumption | with_unfolding_all exact hW.1 _ _ rfl) (by omega) (by omega) | omega | decide) only [↓reduceIte, ↓gi_b, ↓pi_b, ↓gr_b, ↓pr_b, ↓al_b, ↓as_b, ↓al_3, ↓as_3, ↓al_12, ↓as_12, ↓al_l, ↓as_l, ↓rc_b, ↓Option.bind_some, ↓zr0_b, ↓zr1_b, ↓zrb_b, ↓pz0_b, ↓pz1_b, al_b, as_b, rc_b, gi_b, pi_b, gr_b, zr0, zr1, zrb, u_s, u_n, v_s, v_n, ↓isIn_b, ↓within_b, ite_T, ite_F, il_t, il_f, li_t, li_f, it_t, it_f, ti_t, ti_f, ie_t, ie_f, ei_t, ei_f, nn_le_t, nn_le_f, nn_lt_t, nn_lt_f, nn_eq_t, nn_eq_f, nI_1, nI_add, ni_addl, ni_ladd, pk_mul, ni_mull, b2_t, b2_f, b2_0, one0, m1_eq, ni_m1, reduceCtorEq, Bool.false_eq_true, nI_clamp, if_true, Option.some.injEq, Prod.mk.injEq, and_true, true_and, Nat.reduceAdd, Nat.reduceMul, Nat.reduceSub, Nat.reduceEqDiff, Nat.reduceLeDiff, Nat.reduceLT, ↓gr40_9 hW, ↓gr40_41 hW, ↓gr40_5 hW, ↓gr40_6 hW, ↓gr40_7 hW, ↓gr40_8 hW, ↓gr40_2 hW, ↓gr40_34 hW, ↓gr40_3 hW, ↓gr40_35 hW, ↓gr40_4 hW, ↓gr40_36 hW, ↓gr40_1 hW, e32, e0, hne, show (6 : Int32) = nI 6 from rfl, ek, e0', e33]
        rw [show (0 : Int32) = nI 0 from rfl]
        have hkn := hKB.1.2
        refine Rn_mono (m_c46 (c := znc Z) (K := pgK 6 x K') hW h4 (by show knb K' + 1 ≤ 12; omega) hkn (kn (pgK 6 x K')) 0 am_fu _ (by omega) (by unfold am_fu; omega) ⟨⟨?_, ?_, ?_⟩, fun u hu => ?_, fun b hb => ?_, ?_, ?_, ?_⟩ (fun v hv => absurd hv (Nat.not_lt_zero v))) ?_
        · rw [u_n (by omega), e33]
        · rw [u_n (by omega)]; exact k1.1.2.1
        · rw [u_n (by omega), e0']
        · obtain ⟨t1, t2, t3⟩ := k1.2.1 u hu
          exact ⟨by rw [u_n (by omega), t1], by rw [u_n (by omega), t2], by rw [u_n (by omega), t3]⟩
        · rw [u_n (by omega)]; exact k1.2.2.1 b hb
        · rw [u_n (by omega)]; exact k1.2.2.2.2.2.1 (by omega)
        · rw [u_n (by omega)]; exact k1.2.2.2.2.2.2.1 (by omega)
        · rw [u_n (by omega)]; exact k1.2.2.2.2.2.2.2 (by omega)
        · rintro _ ⟨I3, rfl, m1, m2⟩
          have h2' : InvM s I2 P Z := h'.sc hW (fun b j _ _ q => k2.sc b j q)
          have e41 : I3 41 (znc Z) = nI (kn (pgK 6 x K')) := by rw [m2 _ _ (by omega) (by omega) (by omega) (by omega), u_s]
          refine ⟨rfl, I3, J, rfl, h2'.newK hZ hKB h4 m1 e41 (by rw [e41]; exact m2), fun b j q => ?_⟩
          rw [m2 b j (by omega) (by omega) (by omega) (by omega), u_n (by omega), k2 b j (by omega) (by omega), g6 b j (by omega) (by omega)]
    · refine CallOK.q hZ ⟨-104, fun s I P J n h => ?_, fun s I P J n h => ?_⟩
      · have hW := h.1
        have e51 := h.2.2.1.2.2.2.2.2
        unfold fX8_clock
        simp (disch := first | assumption | with_unfolding_all exact hW.1 _ _ rfl | rfl | exact pu_okI (by first | assumption | with_unfolding_all exact hW.1 _ _ rfl) (by omega) (by omega) | exact pu_oqI (by first | assumption | with_unfolding_all exact hW.1 _ _ rfl) (by omega) (by omega) | omega | decide) only [↓reduceIte, ↓gi_b, ↓pi_b, ↓gr_b, ↓pr_b, ↓al_b, ↓as_b, ↓al_3, ↓as_3, ↓al_12, ↓as_12, ↓al_l, ↓as_l, ↓rc_b, ↓Option.bind_some, ↓zr0_b, ↓zr1_b, ↓zrb_b, ↓pz0_b, ↓pz1_b, al_b, as_b, rc_b, gi_b, pi_b, gr_b, zr0, zr1, zrb, u_s, u_n, v_s, v_n, ↓isIn_b, ↓within_b, ite_T, ite_F, il_t, il_f, li_t, li_f, it_t, it_f, ti_t, ti_f, ie_t, ie_f, ei_t, ei_f, nn_le_t, nn_le_f, nn_lt_t, nn_lt_f, nn_eq_t, nn_eq_f, nI_1, nI_add, ni_addl, ni_ladd, pk_mul, ni_mull, b2_t, b2_f, b2_0, one0, m1_eq, ni_m1, reduceCtorEq, Bool.false_eq_true, nI_clamp, if_true, Option.some.injEq, Prod.mk.injEq, and_true, true_and, Nat.reduceAdd, Nat.reduceMul, Nat.reduceSub, Nat.reduceEqDiff, Nat.reduceLeDiff, Nat.reduceLT, ↓gr1_6 hW, ↓gr1_11 hW, ↓gr1_0 hW]
        refine Rn_bind (c_readC hW e51 hpl (h.pg hZ)) ?_
        rintro _ ⟨I1, a, rfl, g1, g2, g3, g4, g5⟩
        obtain rfl : a = 1 := g4 ⟨hq, hl⟩
        have h' : InvC s I1 P n Z := h.sc (fun b j q _ => g3.sc b j q) (fun _ _ _ => rfl)
        have e13 := h'.2.2.1.1
        have h1 := hW.1 1 _ rfl
        rw [if_neg (show ¬ (1 : Int32) = 0 by decide), gi_b h1 rfl, e13, if_neg (show ¬ nI (znc Z) < (4 : Int32) by rw [ti_f (by show 4 ≤ znc Z; omega) (by omega)]; exact id)]
        exact Rn_some (QC.of h g3.sc (fun _ _ _ => rfl))
      · have hW := h.1
        unfold fX9_clock
        simp (disch := first | assumption | with_unfolding_all exact hW.1 _ _ rfl | rfl | exact pu_okI (by first | assumption | with_unfolding_all exact hW.1 _ _ rfl) (by omega) (by omega) | exact pu_oqI (by first | assumption | with_unfolding_all exact hW.1 _ _ rfl) (by omega) (by omega) | omega | decide) only [↓reduceIte, ↓gi_b, ↓pi_b, ↓gr_b, ↓pr_b, ↓al_b, ↓as_b, ↓al_3, ↓as_3, ↓al_12, ↓as_12, ↓al_l, ↓as_l, ↓rc_b, ↓Option.bind_some, ↓zr0_b, ↓zr1_b, ↓zrb_b, ↓pz0_b, ↓pz1_b, al_b, as_b, rc_b, gi_b, pi_b, gr_b, zr0, zr1, zrb, u_s, u_n, v_s, v_n, ↓isIn_b, ↓within_b, ite_T, ite_F, il_t, il_f, li_t, li_f, it_t, it_f, ti_t, ti_f, ie_t, ie_f, ei_t, ei_f, nn_le_t, nn_le_f, nn_lt_t, nn_lt_f, nn_eq_t, nn_eq_f, nI_1, nI_add, ni_addl, ni_ladd, pk_mul, ni_mull, b2_t, b2_f, b2_0, one0, m1_eq, ni_m1, reduceCtorEq, Bool.false_eq_true, nI_clamp, if_true, Option.some.injEq, Prod.mk.injEq, and_true, true_and, Nat.reduceAdd, Nat.reduceMul, Nat.reduceSub, Nat.reduceEqDiff, Nat.reduceLeDiff, Nat.reduceLT, ↓gr40_9 hW, ↓gr40_41 hW, ↓gr40_5 hW, ↓gr40_6 hW, ↓gr40_7 hW, ↓gr40_8 hW, ↓gr40_2 hW, ↓gr40_34 hW, ↓gr40_3 hW, ↓gr40_35 hW, ↓gr40_4 hW, ↓gr40_36 hW, ↓gr40_1 hW]
        refine Rn_bind (m_page hW (h.pg hZ)) ?_
        rintro _ ⟨I1, rfl, g1, g2, g3, g4, g5, g6⟩
        have h' : InvM s I1 P Z := h.sc hW (fun b j _ _ q => g6.sc b j q)
        have e0 := h'.2.1.1
        have e32 := g4 hwh
        have h4' : znc Z = 4 := by omega
        rw [h4'] at e0
        simp (disch := first | assumption | with_unfolding_all exact hW.1 _ _ rfl | rfl | exact pu_okI (by first | assumption | with_unfolding_all exact hW.1 _ _ rfl) (by omega) (by omega) | exact pu_oqI (by first | assumption | with_unfolding_all exact hW.1 _ _ rfl) (by omega) (by omega) | omega | decide) only [↓reduceIte, ↓gi_b, ↓pi_b, ↓gr_b, ↓pr_b, ↓al_b, ↓as_b, ↓al_3, ↓as_3, ↓al_12, ↓as_12, ↓al_l, ↓as_l, ↓rc_b, ↓Option.bind_some, ↓zr0_b, ↓zr1_b, ↓zrb_b, ↓pz0_b, ↓pz1_b, al_b, as_b, rc_b, gi_b, pi_b, gr_b, zr0, zr1, zrb, u_s, u_n, v_s, v_n, ↓isIn_b, ↓within_b, ite_T, ite_F, il_t, il_f, li_t, li_f, it_t, it_f, ti_t, ti_f, ie_t, ie_f, ei_t, ei_f, nn_le_t, nn_le_f, nn_lt_t, nn_lt_f, nn_eq_t, nn_eq_f, nI_1, nI_add, ni_addl, ni_ladd, pk_mul, ni_mull, b2_t, b2_f, b2_0, one0, m1_eq, ni_m1, reduceCtorEq, Bool.false_eq_true, nI_clamp, if_true, Option.some.injEq, Prod.mk.injEq, and_true, true_and, Nat.reduceAdd, Nat.reduceMul, Nat.reduceSub, Nat.reduceEqDiff, Nat.reduceLeDiff, Nat.reduceLT, ↓gr40_9 hW, ↓gr40_41 hW, ↓gr40_5 hW, ↓gr40_6 hW, ↓gr40_7 hW, ↓gr40_8 hW, ↓gr40_2 hW, ↓gr40_34 hW, ↓gr40_3 hW, ↓gr40_35 hW, ↓gr40_4 hW, ↓gr40_36 hW, ↓gr40_1 hW, e32, e0, show (nI 4 = (4 : Int32)) = True from eq_true rfl]
        exact Rn_some (QM.of h g6.sc)
  · refine CallOK.q hZ ⟨-103, fun s I P J n h => ?_, fun s I P J n h => ?_⟩
    · have hW := h.1
      have e51 := h.2.2.1.2.2.2.2.2
      unfold fX8_clock
      simp (disch := first | assumption | with_unfolding_all exact hW.1 _ _ rfl | rfl | exact pu_okI (by first | assumption | with_unfolding_all exact hW.1 _ _ rfl) (by omega) (by omega) | exact pu_oqI (by first | assumption | with_unfolding_all exact hW.1 _ _ rfl) (by omega) (by omega) | omega | decide) only [↓reduceIte, ↓gi_b, ↓pi_b, ↓gr_b, ↓pr_b, ↓al_b, ↓as_b, ↓al_3, ↓as_3, ↓al_12, ↓as_12, ↓al_l, ↓as_l, ↓rc_b, ↓Option.bind_some, ↓zr0_b, ↓zr1_b, ↓zrb_b, ↓pz0_b, ↓pz1_b, al_b, as_b, rc_b, gi_b, pi_b, gr_b, zr0, zr1, zrb, u_s, u_n, v_s, v_n, ↓isIn_b, ↓within_b, ite_T, ite_F, il_t, il_f, li_t, li_f, it_t, it_f, ti_t, ti_f, ie_t, ie_f, ei_t, ei_f, nn_le_t, nn_le_f, nn_lt_t, nn_lt_f, nn_eq_t, nn_eq_f, nI_1, nI_add, ni_addl, ni_ladd, pk_mul, ni_mull, b2_t, b2_f, b2_0, one0, m1_eq, ni_m1, reduceCtorEq, Bool.false_eq_true, nI_clamp, if_true, Option.some.injEq, Prod.mk.injEq, and_true, true_and, Nat.reduceAdd, Nat.reduceMul, Nat.reduceSub, Nat.reduceEqDiff, Nat.reduceLeDiff, Nat.reduceLT, ↓gr1_6 hW, ↓gr1_11 hW, ↓gr1_0 hW]
      refine Rn_bind (c_readC hW e51 hpl (h.pg hZ)) ?_
      rintro _ ⟨I1, a, rfl, g1, g2, g3, g4, g5⟩
      obtain rfl : a = 0 := g5 hq
      simp (disch := first | assumption | with_unfolding_all exact hW.1 _ _ rfl | rfl | exact pu_okI (by first | assumption | with_unfolding_all exact hW.1 _ _ rfl) (by omega) (by omega) | exact pu_oqI (by first | assumption | with_unfolding_all exact hW.1 _ _ rfl) (by omega) (by omega) | omega | decide) only [↓reduceIte, ↓gi_b, ↓pi_b, ↓gr_b, ↓pr_b, ↓al_b, ↓as_b, ↓al_3, ↓as_3, ↓al_12, ↓as_12, ↓al_l, ↓as_l, ↓rc_b, ↓Option.bind_some, ↓zr0_b, ↓zr1_b, ↓zrb_b, ↓pz0_b, ↓pz1_b, al_b, as_b, rc_b, gi_b, pi_b, gr_b, zr0, zr1, zrb, u_s, u_n, v_s, v_n, ↓isIn_b, ↓within_b, ite_T, ite_F, il_t, il_f, li_t, li_f, it_t, it_f, ti_t, ti_f, ie_t, ie_f, ei_t, ei_f, nn_le_t, nn_le_f, nn_lt_t, nn_lt_f, nn_eq_t, nn_eq_f, nI_1, nI_add, ni_addl, ni_ladd, pk_mul, ni_mull, b2_t, b2_f, b2_0, one0, m1_eq, ni_m1, reduceCtorEq, Bool.false_eq_true, nI_clamp, if_true, Option.some.injEq, Prod.mk.injEq, and_true, true_and, Nat.reduceAdd, Nat.reduceMul, Nat.reduceSub, Nat.reduceEqDiff, Nat.reduceLeDiff, Nat.reduceLT, ↓gr1_6 hW, ↓gr1_11 hW, ↓gr1_0 hW]
      exact Rn_some (QC.of h g3.sc (fun _ _ _ => rfl))
    · have hW := h.1
      unfold fX9_clock
      simp (disch := first | assumption | with_unfolding_all exact hW.1 _ _ rfl | rfl | exact pu_okI (by first | assumption | with_unfolding_all exact hW.1 _ _ rfl) (by omega) (by omega) | exact pu_oqI (by first | assumption | with_unfolding_all exact hW.1 _ _ rfl) (by omega) (by omega) | omega | decide) only [↓reduceIte, ↓gi_b, ↓pi_b, ↓gr_b, ↓pr_b, ↓al_b, ↓as_b, ↓al_3, ↓as_3, ↓al_12, ↓as_12, ↓al_l, ↓as_l, ↓rc_b, ↓Option.bind_some, ↓zr0_b, ↓zr1_b, ↓zrb_b, ↓pz0_b, ↓pz1_b, al_b, as_b, rc_b, gi_b, pi_b, gr_b, zr0, zr1, zrb, u_s, u_n, v_s, v_n, ↓isIn_b, ↓within_b, ite_T, ite_F, il_t, il_f, li_t, li_f, it_t, it_f, ti_t, ti_f, ie_t, ie_f, ei_t, ei_f, nn_le_t, nn_le_f, nn_lt_t, nn_lt_f, nn_eq_t, nn_eq_f, nI_1, nI_add, ni_addl, ni_ladd, pk_mul, ni_mull, b2_t, b2_f, b2_0, one0, m1_eq, ni_m1, reduceCtorEq, Bool.false_eq_true, nI_clamp, if_true, Option.some.injEq, Prod.mk.injEq, and_true, true_and, Nat.reduceAdd, Nat.reduceMul, Nat.reduceSub, Nat.reduceEqDiff, Nat.reduceLeDiff, Nat.reduceLT, ↓gr40_9 hW, ↓gr40_41 hW, ↓gr40_5 hW, ↓gr40_6 hW, ↓gr40_7 hW, ↓gr40_8 hW, ↓gr40_2 hW, ↓gr40_34 hW, ↓gr40_3 hW, ↓gr40_35 hW, ↓gr40_4 hW, ↓gr40_36 hW, ↓gr40_1 hW]
      refine Rn_bind (m_page hW (h.pg hZ)) ?_
      rintro _ ⟨I1, rfl, g1, g2, g3, g4, g5, g6⟩
      have e32 := g5 hwh
      simp (disch := first | assumption | with_unfolding_all exact hW.1 _ _ rfl | rfl | exact pu_okI (by first | assumption | with_unfolding_all exact hW.1 _ _ rfl) (by omega) (by omega) | exact pu_oqI (by first | assumption | with_unfolding_all exact hW.1 _ _ rfl) (by omega) (by omega) | omega | decide) only [↓reduceIte, ↓gi_b, ↓pi_b, ↓gr_b, ↓pr_b, ↓al_b, ↓as_b, ↓al_3, ↓as_3, ↓al_12, ↓as_12, ↓al_l, ↓as_l, ↓rc_b, ↓Option.bind_some, ↓zr0_b, ↓zr1_b, ↓zrb_b, ↓pz0_b, ↓pz1_b, al_b, as_b, rc_b, gi_b, pi_b, gr_b, zr0, zr1, zrb, u_s, u_n, v_s, v_n, ↓isIn_b, ↓within_b, ite_T, ite_F, il_t, il_f, li_t, li_f, it_t, it_f, ti_t, ti_f, ie_t, ie_f, ei_t, ei_f, nn_le_t, nn_le_f, nn_lt_t, nn_lt_f, nn_eq_t, nn_eq_f, nI_1, nI_add, ni_addl, ni_ladd, pk_mul, ni_mull, b2_t, b2_f, b2_0, one0, m1_eq, ni_m1, reduceCtorEq, Bool.false_eq_true, nI_clamp, if_true, Option.some.injEq, Prod.mk.injEq, and_true, true_and, Nat.reduceAdd, Nat.reduceMul, Nat.reduceSub, Nat.reduceEqDiff, Nat.reduceLeDiff, Nat.reduceLT, ↓gr40_9 hW, ↓gr40_41 hW, ↓gr40_5 hW, ↓gr40_6 hW, ↓gr40_7 hW, ↓gr40_8 hW, ↓gr40_2 hW, ↓gr40_34 hW, ↓gr40_3 hW, ↓gr40_35 hW, ↓gr40_4 hW, ↓gr40_36 hW, ↓gr40_1 hW, e32]
      exact Rn_some (QM.of h g6.sc)
