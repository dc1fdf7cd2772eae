/-! calls that set something: what becomes of the state -/
def zsT (Z : S_Z) (T : S_T) : S_Z := (Z.1, Z.2.1, Z.2.2.1, T, Z.2.2.2.2)
def zsI (Z : S_Z) (T : S_T) : S_Z := (Z.1, Z.2.1, Z.2.2.1, Z.2.2.2.1, (true, T), Z.2.2.2.2.2)
def zsP (Z : S_Z) (l : Nat) (c : Nat → Nat) : S_Z := (Z.1, Z.2.1, Z.2.2.1, Z.2.2.2.1, Z.2.2.2.2.1, (l, c), Z.2.2.2.2.2.2)
def zsA (Z : S_Z) (a : Nat) : S_Z := (Z.1, Z.2.1, Z.2.2.1, Z.2.2.2.1, Z.2.2.2.2.1, Z.2.2.2.2.2.1, a)
def CallOK {α : Type} (Z : S_Z) (c m : am_H → Option (α × am_H)) : Prop := ∃ (a : α) (Z' : S_Z), Z_B Z' ∧ (∀ s I P J n, InvC s I P n Z → Rn (c (pu_hp s I P J n)) (QC s I P J n Z' a)) ∧ ∀ s I P J n, InvM s I P Z → Rn (m (pu_hp s I P J n)) (QM s I P n Z' a)
theorem CallOK.q {α : Type} {Z : S_Z} (hZ : Z_B Z) {c m : am_H → Option (α × am_H)} (h : ∃ a : α, (∀ s I P J n, InvC s I P n Z → Rn (c (pu_hp s I P J n)) (QC s I P J n Z a)) ∧ ∀ s I P J n, InvM s I P Z → Rn (m (pu_hp s I P J n)) (QM s I P n Z a)) : CallOK Z c m := by
  obtain ⟨a, h1, h2⟩ := h
  exact ⟨a, Z, hZ, h1, h2⟩
/-- the answer a refusal gives -/
theorem CallOK.no {α : Type} {Z : S_Z} (hZ : Z_B Z) {c m : am_H → Option (α × am_H)} (a : α) (h1 : ∀ s I P J n, InvC s I P n Z → c (pu_hp s I P J n) = some (a, pu_hp s I P J n)) (h2 : ∀ s I P J n, InvM s I P Z → m (pu_hp s I P J n) = some (a, pu_hp s I P J n)) : CallOK Z c m :=
  ⟨a, Z, hZ, fun s I P J n h => Rn_eq (h1 s I P J n h) (Rn_some (QC.id h)), fun s I P J n h => Rn_eq (h2 s I P J n h) (Rn_some (QM.id h))⟩
section SE
variable {s : Nat → Option pu_S} {I : Nat → Nat → Int32} {P : Nat → Nat → Option Nat} {J : Nat → Nat → Int64} {n : Nat × Nat}
variable {Z : S_Z} {I' : Nat → Nat → Int32}
theorem InvC.gen {Z' : S_Z} (h : InvC s I P n Z) (e1 : Z'.1 = Z.1) (e2 : Z'.2.1 = Z.2.1) (e3 : Z'.2.2.1 = Z.2.2.1) (hf : ∀ b j, ¬ (b = 1 ∧ 9 ≤ j) → ¬ (5 ≤ b ∧ b ≤ 14) → I' b j = I b j) (k1 : I' 1 9 = b2 (zH Z')) (k2 : I' 1 10 = nI (zas Z')) (k3 : I' 5 1 = nI (zpl Z')) (k4 : ∀ k, k < zpl Z' → I' 6 k = nI (zpc Z' k)) (k5 : T_I I' 8 9 10 7 3 (zT Z')) (k6 : zH Z' = true → T_I I' 12 13 14 11 3 (zTk Z')) : InvC s I' P n Z' := by
  obtain ⟨h1, h2, ⟨a1, a2, a3, a4, a5, a6⟩, h4, h5, h6, h7, h8, h9, h10⟩ := h
  have E1 : znc Z' = znc Z ∧ zK Z' = zK Z := ⟨congrArg Prod.fst e1, congrArg Prod.snd e1⟩
  have E2 : znf Z' = znf Z ∧ zF Z' = zF Z := ⟨congrArg Prod.fst e2, congrArg Prod.snd e2⟩
  have E3 : znw Z' = znw Z ∧ zW Z' = zW Z := ⟨congrArg Prod.fst e3, congrArg Prod.snd e3⟩
  refine ⟨h1, h2, ⟨by rw [hf _ _ (by omega) (by omega), a1, E1.1], by rw [hf _ _ (by omega) (by omega), a2, E2.1], by rw [hf _ _ (by omega) (by omega), a3, E3.1], k1, k2, k3⟩, k4, h5.fr fun j => hf _ _ (by omega) (by omega), fun i hi => ?_, fun i hi => ?_, fun i hi => ?_, k5, k6⟩
  · rw [E1.1] at hi; rw [E1.2]
    obtain ⟨c, b1, b2, b3, b4, b5⟩ := h6 i hi
    exact ⟨c, b1, b2, b3, b4, b5.fr fun b j q1 q2 => hf _ _ (by omega) (by omega)⟩
  · rw [E2.1] at hi; rw [E2.2]
    obtain ⟨f, b1, b2, b3, b4, b5⟩ := h7 i hi
    exact ⟨f, b1, b2, b3, b4, b5.fr fun j => hf _ _ (by omega) (by omega)⟩
  · rw [E3.1] at hi; rw [E3.2]
    obtain ⟨a, b1, b2, b3, b4, b5, b6, b7, b8⟩ := h8 i hi
    exact ⟨a, b1, b2, b3, b4, by rw [hf _ _ (by omega) (by omega), b5], by rw [hf _ _ (by omega) (by omega), b6], by rw [hf _ _ (by omega) (by omega), b7], b8⟩
theorem InvM.gen {Z' : S_Z} (h : InvM s I P Z) (e1 : Z'.1 = Z.1) (e2 : Z'.2.1 = Z.2.1) (e3 : Z'.2.2.1 = Z.2.2.1) (hf : ∀ b j, 40 ≤ b → b ≤ 63 → ¬ (b = 40 ∧ 21 ≤ j) → ¬ (50 ≤ b ∧ b ≤ 51) → ¬ (59 ≤ b) → I' b j = I b j) (k1 : I' 40 26 = b2 (zH Z')) (k2 : I' 40 23 = nI (zas Z')) (k3 : I' 40 24 = nI (zpl Z')) (k4 : ∀ k, k < zpl Z' → I' 60 k = nI (zpc Z' k)) (k5 : T_I I' 50 51 59 40 21 (zT Z')) (k6 : zH Z' = true → T_I I' 61 62 63 40 27 (zTk Z')) : InvM s I' P Z' := by
  obtain ⟨h1, ⟨a1, a2, a3, a4, a5, a6⟩, h3, h4, h5, h6, h7, h8⟩ := h
  have E1 : znc Z' = znc Z ∧ zK Z' = zK Z := ⟨congrArg Prod.fst e1, congrArg Prod.snd e1⟩
  have E2 : znf Z' = znf Z ∧ zF Z' = zF Z := ⟨congrArg Prod.fst e2, congrArg Prod.snd e2⟩
  have E3 : znw Z' = znw Z ∧ zW Z' = zW Z := ⟨congrArg Prod.fst e3, congrArg Prod.snd e3⟩
  have q : ∀ b j, 40 ≤ b → b ≤ 58 → ¬ (b = 40 ∧ 21 ≤ j) → ¬ (50 ≤ b ∧ b ≤ 51) → I' b j = I b j := fun b j h1 h2 h3 h4 => hf b j h1 (by omega) h3 h4 (by omega)
  refine ⟨h1, ⟨by rw [q _ _ (by omega) (by omega) (by omega) (by omega), a1, E1.1], by rw [q _ _ (by omega) (by omega) (by omega) (by omega), a2, E2.1], by rw [q _ _ (by omega) (by omega) (by omega) (by omega), a3, E3.1], k1, k2, k3⟩, k4, fun i hi => ?_, fun i hi => ?_, fun i hi => ?_, k5, k6⟩
  · rw [E1.1] at hi; rw [E1.2]
    obtain ⟨b1, b2, b3⟩ := h4 i hi
    exact ⟨b1.fr fun b j q1 q2 => q b j (by omega) (by omega) (by omega) (by omega), by rw [q _ _ (by omega) (by omega) (by omega) (by omega), b2], fun v hv => by rw [q _ _ (by omega) (by omega) (by omega) (by omega), b3 v hv]⟩
  · rw [E2.1] at hi; rw [E2.2]
    obtain ⟨b1, b2, b3, b4⟩ := h5 i hi
    exact ⟨by rw [q _ _ (by omega) (by omega) (by omega) (by omega), b1], by rw [q _ _ (by omega) (by omega) (by omega) (by omega), b2], by rw [q _ _ (by omega) (by omega) (by omega) (by omega), b3], by rw [q _ _ (by omega) (by omega) (by omega) (by omega), b4]⟩
  · rw [E3.1] at hi; rw [E3.2]
    obtain ⟨b1, b2, b3⟩ := h6 i hi
    exact ⟨by rw [q _ _ (by omega) (by omega) (by omega) (by omega), b1], by rw [q _ _ (by omega) (by omega) (by omega) (by omega), b2], by rw [q _ _ (by omega) (by omega) (by omega) (by omega), b3]⟩
/-- a setting of the class becomes T -/
theorem InvC.setT {T : S_T} (h : InvC s I P n Z) (hf : ∀ b j, ¬ (b = 7 ∧ j = 3) → ¬ (8 ≤ b ∧ b ≤ 10) → I' b j = I b j) (k5 : T_I I' 8 9 10 7 3 T) : InvC s I' P n (zsT Z T) := by
  obtain ⟨a1, a2, a3, a4, a5, a6⟩ := h.2.2.1
  exact h.gen rfl rfl rfl (fun b j q1 q2 => hf b j (by omega) (by omega)) (by rw [hf _ _ (by omega) (by omega), a4]; rfl) (by rw [hf _ _ (by omega) (by omega), a5]; rfl) (by rw [hf _ _ (by omega) (by omega), a6]; rfl) (fun k hk => by rw [hf _ _ (by omega) (by omega)]; exact h.2.2.2.1 k hk) k5 (fun hh => (h.2.2.2.2.2.2.2.2.2 hh).fr fun x j hx => hf x j (by omega) (by omega))
theorem InvM.setT {T : S_T} (h : InvM s I P Z) (hf : ∀ b j, ¬ (b = 40 ∧ j = 21) → ¬ (50 ≤ b ∧ b ≤ 51) → ¬ b = 59 → I' b j = I b j) (k5 : T_I I' 50 51 59 40 21 T) : InvM s I' P (zsT Z T) := by
  obtain ⟨a1, a2, a3, a4, a5, a6⟩ := h.2.1
  exact h.gen rfl rfl rfl (fun b j q1 q2 q3 q4 q5 => hf b j (by omega) (by omega) (by omega)) (by rw [hf _ _ (by omega) (by omega) (by omega), a4]; rfl) (by rw [hf _ _ (by omega) (by omega) (by omega), a5]; rfl) (by rw [hf _ _ (by omega) (by omega) (by omega), a6]; rfl) (fun k hk => by rw [hf _ _ (by omega) (by omega) (by omega)]; exact h.2.2.1 k hk) k5 (fun hh => (h.2.2.2.2.2.2.2 hh).fr fun x j hx => hf x j (by omega) (by omega) (by omega))
theorem QC.set {α : Type} {a : α} {Z' : S_Z} (h : InvC s I' P n Z') (hf : ∀ b j, 40 ≤ b → b ≤ 77 → I' b j = I b j) : QC s I P J n Z' a (a, pu_hp s I' P J n) := ⟨rfl, s, I', P, n, rfl, h, hf, by omega, by omega⟩
theorem QM.set {α : Type} {a : α} {Z' : S_Z} (h : InvM s I' P Z') (hf : ∀ b j, ¬ (40 ≤ b ∧ b ≤ 77) → I' b j = I b j) : QM s I P n Z' a (a, pu_hp s I' P J n) := ⟨rfl, I', J, rfl, h, hf⟩
theorem Z_B.setT (hZ : Z_B Z) {T : S_T} (hT : T_B (znw Z) T) : Z_B (zsT Z T) := ⟨hZ.1, hZ.2.1, hZ.2.2.1, hT, hZ.2.2.2.2⟩
set_option maxHeartbeats 4000000 in
set_option maxRecDepth 100000 in
theorem q_exchange {a m k : Nat} {v : Int32} (hs : s a = some (1, 0, m)) (hk : k < m) (hm : m < 1000) : fX8_exchange (some a) (nI k) v (pu_hp s I P J n) = some (I a k, pu_hp s (pu_u I a k v) P J n) := by
  unfold fX8_exchange
  rw [an_b hs (by omega)]
  simp (disch := first | assumption | with_unfolding_all exact hW.1 _ _ rfl | rfl | exact pu_okI (by first | assumption | with_unfolding_all exact hW.1 _ _ rfl) (by omega) (by omega) | exact pu_oqI (by first | assumption | with_unfolding_all exact hW.1 _ _ rfl) (by omega) (by omega) | omega | decide) only [↓reduceIte, ↓gi_b, ↓pi_b, ↓gr_b, ↓pr_b, ↓al_b, ↓as_b, ↓al_3, ↓as_3, ↓al_12, ↓as_12, ↓al_l, ↓as_l, ↓rc_b, ↓Option.bind_some, ↓zr0_b, ↓zr1_b, ↓zrb_b, ↓pz0_b, ↓pz1_b, al_b, as_b, rc_b, gi_b, pi_b, gr_b, zr0, zr1, zrb, u_s, u_n, v_s, v_n, ↓isIn_b, ↓within_b, ite_T, ite_F, il_t, il_f, li_t, li_f, it_t, it_f, ti_t, ti_f, ie_t, ie_f, ei_t, ei_f, nn_le_t, nn_le_f, nn_lt_t, nn_lt_f, nn_eq_t, nn_eq_f, nI_1, nI_add, ni_addl, ni_ladd, pk_mul, ni_mull, b2_t, b2_f, b2_0, one0, m1_eq, ni_m1, reduceCtorEq, Bool.false_eq_true, nI_clamp, if_true, Option.some.injEq, Prod.mk.injEq, and_true, true_and, Nat.reduceAdd, Nat.reduceMul, Nat.reduceSub, Nat.reduceEqDiff, Nat.reduceLeDiff, Nat.reduceLT, inB_t1 hk (by omega)]
end SE
set_option maxHeartbeats 4000000 in
set_option maxRecDepth 100000 in
theorem d_season {Z : S_Z} (hZ : Z_B Z) (v1 v2 v3 : Int32) : CallOK Z (fX8_season 1 v1 v2 v3) (fX9_season 40 v1 v2 v3) := by
  cases h1 : inB v1 0 3 with
  | false =>
    refine CallOK.no hZ (-101) (fun s I P J n h => ?_) (fun s I P J n h => ?_)
    · unfold fX8_season
      simp (disch := first | assumption | with_unfolding_all exact hW.1 _ _ rfl | rfl | exact pu_okI (by first | assumption | with_unfolding_all exact hW.1 _ _ rfl) (by omega) (by omega) | exact pu_oqI (by first | assumption | with_unfolding_all exact hW.1 _ _ rfl) (by omega) (by omega) | omega | decide) only [↓reduceIte, ↓gi_b, ↓pi_b, ↓gr_b, ↓pr_b, ↓al_b, ↓as_b, ↓al_3, ↓as_3, ↓al_12, ↓as_12, ↓al_l, ↓as_l, ↓rc_b, ↓Option.bind_some, ↓zr0_b, ↓zr1_b, ↓zrb_b, ↓pz0_b, ↓pz1_b, al_b, as_b, rc_b, gi_b, pi_b, gr_b, zr0, zr1, zrb, u_s, u_n, v_s, v_n, ↓isIn_b, ↓within_b, ite_T, ite_F, il_t, il_f, li_t, li_f, it_t, it_f, ti_t, ti_f, ie_t, ie_f, ei_t, ei_f, nn_le_t, nn_le_f, nn_lt_t, nn_lt_f, nn_eq_t, nn_eq_f, nI_1, nI_add, ni_addl, ni_ladd, pk_mul, ni_mull, b2_t, b2_f, b2_0, one0, m1_eq, ni_m1, reduceCtorEq, Bool.false_eq_true, nI_clamp, if_true, Option.some.injEq, Prod.mk.injEq, and_true, true_and, Nat.reduceAdd, Nat.reduceMul, Nat.reduceSub, Nat.reduceEqDiff, Nat.reduceLeDiff, Nat.reduceLT, ↓season_b, h1]
    · unfold fX9_season
      simp (disch := first | assumption | with_unfolding_all exact hW.1 _ _ rfl | rfl | exact pu_okI (by first | assumption | with_unfolding_all exact hW.1 _ _ rfl) (by omega) (by omega) | exact pu_oqI (by first | assumption | with_unfolding_all exact hW.1 _ _ rfl) (by omega) (by omega) | omega | decide) only [↓reduceIte, ↓gi_b, ↓pi_b, ↓gr_b, ↓pr_b, ↓al_b, ↓as_b, ↓al_3, ↓as_3, ↓al_12, ↓as_12, ↓al_l, ↓as_l, ↓rc_b, ↓Option.bind_some, ↓zr0_b, ↓zr1_b, ↓zrb_b, ↓pz0_b, ↓pz1_b, al_b, as_b, rc_b, gi_b, pi_b, gr_b, zr0, zr1, zrb, u_s, u_n, v_s, v_n, ↓isIn_b, ↓within_b, ite_T, ite_F, il_t, il_f, li_t, li_f, it_t, it_f, ti_t, ti_f, ie_t, ie_f, ei_t, ei_f, nn_le_t, nn_le_f, nn_lt_t, nn_lt_f, nn_eq_t, nn_eq_f, nI_1, nI_add, ni_addl, ni_ladd, pk_mul, ni_mull, b2_t, b2_f, b2_0, one0, m1_eq, ni_m1, reduceCtorEq, Bool.false_eq_true, nI_clamp, if_true, Option.some.injEq, Prod.mk.injEq, and_true, true_and, Nat.reduceAdd, Nat.reduceMul, Nat.reduceSub, Nat.reduceEqDiff, Nat.reduceLeDiff, Nat.reduceLT, ↓seasonM_b, h1]
  | true =>
    obtain ⟨j, hj, rfl⟩ := inB_of (hi := 3) (by omega) h1
    have hj4 : j < 4 := by omega
    obtain ⟨⟨b1, b2'⟩, b3, b4⟩ := hZ.2.2.2.1.1 j hj4
    obtain ⟨tb1, tb2, tb3⟩ := hZ.2.2.2.1
    by_cases h0 : v2 = 0
    · subst h0
      cases h2 : inB v3 50 150 with
      | false =>
        refine CallOK.no hZ (-102) (fun s I P J n h => ?_) (fun s I P J n h => ?_)
        · unfold fX8_season fX8_season_39
          simp (disch := first | assumption | with_unfolding_all exact hW.1 _ _ rfl | rfl | exact pu_okI (by first | assumption | with_unfolding_all exact hW.1 _ _ rfl) (by omega) (by omega) | exact pu_oqI (by first | assumption | with_unfolding_all exact hW.1 _ _ rfl) (by omega) (by omega) | omega | decide) only [↓reduceIte, ↓gi_b, ↓pi_b, ↓gr_b, ↓pr_b, ↓al_b, ↓as_b, ↓al_3, ↓as_3, ↓al_12, ↓as_12, ↓al_l, ↓as_l, ↓rc_b, ↓Option.bind_some, ↓zr0_b, ↓zr1_b, ↓zrb_b, ↓pz0_b, ↓pz1_b, al_b, as_b, rc_b, gi_b, pi_b, gr_b, zr0, zr1, zrb, u_s, u_n, v_s, v_n, ↓isIn_b, ↓within_b, ite_T, ite_F, il_t, il_f, li_t, li_f, it_t, it_f, ti_t, ti_f, ie_t, ie_f, ei_t, ei_f, nn_le_t, nn_le_f, nn_lt_t, nn_lt_f, nn_eq_t, nn_eq_f, nI_1, nI_add, ni_addl, ni_ladd, pk_mul, ni_mull, b2_t, b2_f, b2_0, one0, m1_eq, ni_m1, reduceCtorEq, Bool.false_eq_true, nI_clamp, if_true, Option.some.injEq, Prod.mk.injEq, and_true, true_and, Nat.reduceAdd, Nat.reduceMul, Nat.reduceSub, Nat.reduceEqDiff, Nat.reduceLeDiff, Nat.reduceLT, ↓season_b, h1, h2, show ((0 : Int32) = 1) = False from eq_false (by decide)]
        · unfold fX9_season fX9_season_31 fX9_season_43 fX9_season_71
          simp (disch := first | assumption | with_unfolding_all exact hW.1 _ _ rfl | rfl | exact pu_okI (by first | assumption | with_unfolding_all exact hW.1 _ _ rfl) (by omega) (by omega) | exact pu_oqI (by first | assumption | with_unfolding_all exact hW.1 _ _ rfl) (by omega) (by omega) | omega | decide) only [↓reduceIte, ↓gi_b, ↓pi_b, ↓gr_b, ↓pr_b, ↓al_b, ↓as_b, ↓al_3, ↓as_3, ↓al_12, ↓as_12, ↓al_l, ↓as_l, ↓rc_b, ↓Option.bind_some, ↓zr0_b, ↓zr1_b, ↓zrb_b, ↓pz0_b, ↓pz1_b, al_b, as_b, rc_b, gi_b, pi_b, gr_b, zr0, zr1, zrb, u_s, u_n, v_s, v_n, ↓isIn_b, ↓within_b, ite_T, ite_F, il_t, il_f, li_t, li_f, it_t, it_f, ti_t, ti_f, ie_t, ie_f, ei_t, ei_f, nn_le_t, nn_le_f, nn_lt_t, nn_lt_f, nn_eq_t, nn_eq_f, nI_1, nI_add, ni_addl, ni_ladd, pk_mul, ni_mull, b2_t, b2_f, b2_0, one0, m1_eq, ni_m1, reduceCtorEq, Bool.false_eq_true, nI_clamp, if_true, Option.some.injEq, Prod.mk.injEq, and_true, true_and, Nat.reduceAdd, Nat.reduceMul, Nat.reduceSub, Nat.reduceEqDiff, Nat.reduceLeDiff, Nat.reduceLT, ↓seasonM_b, h1, show inB 0 0 1 = true from by decide, h2]
      | true =>
        have hw : ∃ w, 50 ≤ w ∧ w ≤ 150 ∧ v3 = nI w := by
          unfold inB at h2
          rw [Bool.and_eq_true, decide_eq_true_eq, decide_eq_true_eq] at h2
          obtain ⟨q1, q2⟩ := h2
          obtain ⟨w, hw, rfl⟩ := nI_of (x := v3) (by rw [← i_le]; exact Int32.le_trans (by decide) q1)
          exact ⟨w, (nI_leI (a := 50) (by omega) hw).mp q1, (nI_leI (b := 150) hw (by omega)).mp q2, rfl⟩
        obtain ⟨w, hw1, hw2, rfl⟩ := hw
        refine ⟨nI (tw (zT Z) j), zsT Z (updN (tw (zT Z)) j w, td (zT Z), tl (zT Z), th (zT Z)), hZ.setT ⟨fun x hx => ?_, tb2, tb3⟩, fun s I P J n h => ?_, fun s I P J n h => ?_⟩
        · show (50 ≤ updN (tw (zT Z)) j w x ∧ updN (tw (zT Z)) j w x ≤ 150) ∧ _
          refine ⟨?_, (tb1 x hx).2⟩
          by_cases e : x = j
          · subst e; rw [updN_s]; exact ⟨hw1, hw2⟩
          · rw [updN_n e]; exact (tb1 x hx).1
        · have hW := h.1
          obtain ⟨t1, t2, t3⟩ := h.2.2.2.2.2.2.2.2.1
          unfold fX8_season
          simp (disch := first | assumption | with_unfolding_all exact hW.1 _ _ rfl | rfl | exact pu_okI (by first | assumption | with_unfolding_all exact hW.1 _ _ rfl) (by omega) (by omega) | exact pu_oqI (by first | assumption | with_unfolding_all exact hW.1 _ _ rfl) (by omega) (by omega) | omega | decide) only [↓reduceIte, ↓gi_b, ↓pi_b, ↓gr_b, ↓pr_b, ↓al_b, ↓as_b, ↓al_3, ↓as_3, ↓al_12, ↓as_12, ↓al_l, ↓as_l, ↓rc_b, ↓Option.bind_some, ↓zr0_b, ↓zr1_b, ↓zrb_b, ↓pz0_b, ↓pz1_b, al_b, as_b, rc_b, gi_b, pi_b, gr_b, zr0, zr1, zrb, u_s, u_n, v_s, v_n, ↓isIn_b, ↓within_b, ite_T, ite_F, il_t, il_f, li_t, li_f, it_t, it_f, ti_t, ti_f, ie_t, ie_f, ei_t, ei_f, nn_le_t, nn_le_f, nn_lt_t, nn_lt_f, nn_eq_t, nn_eq_f, nI_1, nI_add, ni_addl, ni_ladd, pk_mul, ni_mull, b2_t, b2_f, b2_0, one0, m1_eq, ni_m1, reduceCtorEq, Bool.false_eq_true, nI_clamp, if_true, Option.some.injEq, Prod.mk.injEq, and_true, true_and, Nat.reduceAdd, Nat.reduceMul, Nat.reduceSub, Nat.reduceEqDiff, Nat.reduceLeDiff, Nat.reduceLT, ↓gr1_7 hW, ↓gr7_1 hW, ↓gr11_1 hW, ↓gr7_0 hW, ↓gr11_0 hW, ↓season_b, h1, h2, ↓gr7_0 hW, q_exchange (J := J) (n := n) (hW.1 8 _ rfl) hj4 (by omega), (t1 j hj4).1]
          refine Rn_some (QC.set (h.setT (fun b j q1 q2 => by rw [u_n (by omega)]) ⟨fun x hx => ⟨?_, ?_⟩, fun x hx => ?_, ?_⟩) (fun b j q1 q2 => by rw [u_n (by omega)]))
          · show _ = nI (updN (tw (zT Z)) j w x)
            by_cases e : x = j
            · subst e; rw [u_s, updN_s]
            · rw [u_n (by omega), updN_n e]; exact (t1 x hx).1
          · rw [u_n (by omega)]; exact (t1 x hx).2
          · rw [u_n (by omega)]; exact t2 x hx
          · rw [u_n (by omega)]; exact t3
        · have hW := h.1
          obtain ⟨t1, t2, t3⟩ := h.2.2.2.2.2.2.1
          unfold fX9_season fX9_season_31 fX9_season_43 fX9_season_71
          simp (disch := first | assumption | with_unfolding_all exact hW.1 _ _ rfl | rfl | exact pu_okI (by first | assumption | with_unfolding_all exact hW.1 _ _ rfl) (by omega) (by omega) | exact pu_oqI (by first | assumption | with_unfolding_all exact hW.1 _ _ rfl) (by omega) (by omega) | omega | decide) only [↓reduceIte, ↓gi_b, ↓pi_b, ↓gr_b, ↓pr_b, ↓al_b, ↓as_b, ↓al_3, ↓as_3, ↓al_12, ↓as_12, ↓al_l, ↓as_l, ↓rc_b, ↓Option.bind_some, ↓zr0_b, ↓zr1_b, ↓zrb_b, ↓pz0_b, ↓pz1_b, al_b, as_b, rc_b, gi_b, pi_b, gr_b, zr0, zr1, zrb, u_s, u_n, v_s, v_n, ↓isIn_b, ↓within_b, ite_T, ite_F, il_t, il_f, li_t, li_f, it_t, it_f, ti_t, ti_f, ie_t, ie_f, ei_t, ei_f, nn_le_t, nn_le_f, nn_lt_t, nn_lt_f, nn_eq_t, nn_eq_f, nI_1, nI_add, ni_addl, ni_ladd, pk_mul, ni_mull, b2_t, b2_f, b2_0, one0, m1_eq, ni_m1, reduceCtorEq, Bool.false_eq_true, nI_clamp, if_true, Option.some.injEq, Prod.mk.injEq, and_true, true_and, Nat.reduceAdd, Nat.reduceMul, Nat.reduceSub, Nat.reduceEqDiff, Nat.reduceLeDiff, Nat.reduceLT, ↓gr40_10 hW, ↓gr40_11 hW, ↓seasonM_b, h1, show inB 0 0 1 = true from by decide, h2, (t1 j hj4).1]
          refine Rn_some (QM.set (h.setT (fun b j q1 q2 q3 => by rw [u_n (by omega)]) ⟨fun x hx => ⟨?_, ?_⟩, fun x hx => ?_, ?_⟩) (fun b j q1 => by rw [u_n (by omega)]))
          · show _ = nI (updN (tw (zT Z)) j w x)
            by_cases e : x = j
            · subst e; rw [u_s, updN_s]
            · rw [u_n (by omega), updN_n e]; exact (t1 x hx).1
          · rw [u_n (by omega)]; exact (t1 x hx).2
          · rw [u_n (by omega)]; exact t2 x hx
          · rw [u_n (by omega)]; exact t3
    · by_cases h01 : v2 = 1
      · subst h01
        cases h2 : inB v3 24 72 with
        | false =>
          refine CallOK.no hZ (-102) (fun s I P J n h => ?_) (fun s I P J n h => ?_)
          · unfold fX8_season fX8_season_39
            simp (disch := first | assumption | with_unfolding_all exact hW.1 _ _ rfl | rfl | exact pu_okI (by first | assumption | with_unfolding_all exact hW.1 _ _ rfl) (by omega) (by omega) | exact pu_oqI (by first | assumption | with_unfolding_all exact hW.1 _ _ rfl) (by omega) (by omega) | omega | decide) only [↓reduceIte, ↓gi_b, ↓pi_b, ↓gr_b, ↓pr_b, ↓al_b, ↓as_b, ↓al_3, ↓as_3, ↓al_12, ↓as_12, ↓al_l, ↓as_l, ↓rc_b, ↓Option.bind_some, ↓zr0_b, ↓zr1_b, ↓zrb_b, ↓pz0_b, ↓pz1_b, al_b, as_b, rc_b, gi_b, pi_b, gr_b, zr0, zr1, zrb, u_s, u_n, v_s, v_n, ↓isIn_b, ↓within_b, ite_T, ite_F, il_t, il_f, li_t, li_f, it_t, it_f, ti_t, ti_f, ie_t, ie_f, ei_t, ei_f, nn_le_t, nn_le_f, nn_lt_t, nn_lt_f, nn_eq_t, nn_eq_f, nI_1, nI_add, ni_addl, ni_ladd, pk_mul, ni_mull, b2_t, b2_f, b2_0, one0, m1_eq, ni_m1, reduceCtorEq, Bool.false_eq_true, nI_clamp, if_true, Option.some.injEq, Prod.mk.injEq, and_true, true_and, Nat.reduceAdd, Nat.reduceMul, Nat.reduceSub, Nat.reduceEqDiff, Nat.reduceLeDiff, Nat.reduceLT, ↓season_b, h1, h2]
          · unfold fX9_season fX9_season_31 fX9_season_43 fX9_season_71
            simp (disch := first | assumption | with_unfolding_all exact hW.1 _ _ rfl | rfl | exact pu_okI (by first | assumption | with_unfolding_all exact hW.1 _ _ rfl) (by omega) (by omega) | exact pu_oqI (by first | assumption | with_unfolding_all exact hW.1 _ _ rfl) (by omega) (by omega) | omega | decide) only [↓reduceIte, ↓gi_b, ↓pi_b, ↓gr_b, ↓pr_b, ↓al_b, ↓as_b, ↓al_3, ↓as_3, ↓al_12, ↓as_12, ↓al_l, ↓as_l, ↓rc_b, ↓Option.bind_some, ↓zr0_b, ↓zr1_b, ↓zrb_b, ↓pz0_b, ↓pz1_b, al_b, as_b, rc_b, gi_b, pi_b, gr_b, zr0, zr1, zrb, u_s, u_n, v_s, v_n, ↓isIn_b, ↓within_b, ite_T, ite_F, il_t, il_f, li_t, li_f, it_t, it_f, ti_t, ti_f, ie_t, ie_f, ei_t, ei_f, nn_le_t, nn_le_f, nn_lt_t, nn_lt_f, nn_eq_t, nn_eq_f, nI_1, nI_add, ni_addl, ni_ladd, pk_mul, ni_mull, b2_t, b2_f, b2_0, one0, m1_eq, ni_m1, reduceCtorEq, Bool.false_eq_true, nI_clamp, if_true, Option.some.injEq, Prod.mk.injEq, and_true, true_and, Nat.reduceAdd, Nat.reduceMul, Nat.reduceSub, Nat.reduceEqDiff, Nat.reduceLeDiff, Nat.reduceLT, ↓seasonM_b, h1, show inB 1 0 1 = true from by decide, h2]
        | true =>
          have hw : ∃ w, 24 ≤ w ∧ w ≤ 72 ∧ v3 = nI w := by
            unfold inB at h2
            rw [Bool.and_eq_true, decide_eq_true_eq, decide_eq_true_eq] at h2
            obtain ⟨q1, q2⟩ := h2
            obtain ⟨w, hw, rfl⟩ := nI_of (x := v3) (by rw [← i_le]; exact Int32.le_trans (by decide) q1)
            exact ⟨w, (nI_leI (a := 24) (by omega) hw).mp q1, (nI_leI (b := 72) hw (by omega)).mp q2, rfl⟩
          obtain ⟨w, hw1, hw2, rfl⟩ := hw
          refine ⟨nI (td (zT Z) j), zsT Z (tw (zT Z), updN (td (zT Z)) j w, tl (zT Z), th (zT Z)), hZ.setT ⟨fun x hx => ?_, tb2, tb3⟩, fun s I P J n h => ?_, fun s I P J n h => ?_⟩
          · show _ ∧ 24 ≤ updN (td (zT Z)) j w x ∧ updN (td (zT Z)) j w x ≤ 72
            refine ⟨(tb1 x hx).1, ?_⟩
            by_cases e : x = j
            · subst e; rw [updN_s]; exact ⟨hw1, hw2⟩
            · rw [updN_n e]; exact (tb1 x hx).2
          · have hW := h.1
            obtain ⟨t1, t2, t3⟩ := h.2.2.2.2.2.2.2.2.1
            unfold fX8_season fX8_season_39
            simp (disch := first | assumption | with_unfolding_all exact hW.1 _ _ rfl | rfl | exact pu_okI (by first | assumption | with_unfolding_all exact hW.1 _ _ rfl) (by omega) (by omega) | exact pu_oqI (by first | assumption | with_unfolding_all exact hW.1 _ _ rfl) (by omega) (by omega) | omega | decide) only [↓reduceIte, ↓gi_b, ↓pi_b, ↓gr_b, ↓pr_b, ↓al_b, ↓as_b, ↓al_3, ↓as_3, ↓al_12, ↓as_12, ↓al_l, ↓as_l, ↓rc_b, ↓Option.bind_some, ↓zr0_b, ↓zr1_b, ↓zrb_b, ↓pz0_b, ↓pz1_b, al_b, as_b, rc_b, gi_b, pi_b, gr_b, zr0, zr1, zrb, u_s, u_n, v_s, v_n, ↓isIn_b, ↓within_b, ite_T, ite_F, il_t, il_f, li_t, li_f, it_t, it_f, ti_t, ti_f, ie_t, ie_f, ei_t, ei_f, nn_le_t, nn_le_f, nn_lt_t, nn_lt_f, nn_eq_t, nn_eq_f, nI_1, nI_add, ni_addl, ni_ladd, pk_mul, ni_mull, b2_t, b2_f, b2_0, one0, m1_eq, ni_m1, reduceCtorEq, Bool.false_eq_true, nI_clamp, if_true, Option.some.injEq, Prod.mk.injEq, and_true, true_and, Nat.reduceAdd, Nat.reduceMul, Nat.reduceSub, Nat.reduceEqDiff, Nat.reduceLeDiff, Nat.reduceLT, ↓gr1_7 hW, ↓gr7_1 hW, ↓gr11_1 hW, ↓gr7_0 hW, ↓gr11_0 hW, ↓season_b, h1, h2, ↓gr7_1 hW, q_exchange (J := J) (n := n) (hW.1 9 _ rfl) hj4 (by omega), (t1 j hj4).2]
            refine Rn_some (QC.set (h.setT (fun b j q1 q2 => by rw [u_n (by omega)]) ⟨fun x hx => ⟨?_, ?_⟩, fun x hx => ?_, ?_⟩) (fun b j q1 q2 => by rw [u_n (by omega)]))
            · rw [u_n (by omega)]; exact (t1 x hx).1
            · show _ = nI (updN (td (zT Z)) j w x)
              by_cases e : x = j
              · subst e; rw [u_s, updN_s]
              · rw [u_n (by omega), updN_n e]; exact (t1 x hx).2
            · rw [u_n (by omega)]; exact t2 x hx
            · rw [u_n (by omega)]; exact t3
          · have hW := h.1
            obtain ⟨t1, t2, t3⟩ := h.2.2.2.2.2.2.1
            unfold fX9_season fX9_season_31 fX9_season_43 fX9_season_71
            simp (disch := first | assumption | with_unfolding_all exact hW.1 _ _ rfl | rfl | exact pu_okI (by first | assumption | with_unfolding_all exact hW.1 _ _ rfl) (by omega) (by omega) | exact pu_oqI (by first | assumption | with_unfolding_all exact hW.1 _ _ rfl) (by omega) (by omega) | omega | decide) only [↓reduceIte, ↓gi_b, ↓pi_b, ↓gr_b, ↓pr_b, ↓al_b, ↓as_b, ↓al_3, ↓as_3, ↓al_12, ↓as_12, ↓al_l, ↓as_l, ↓rc_b, ↓Option.bind_some, ↓zr0_b, ↓zr1_b, ↓zrb_b, ↓pz0_b, ↓pz1_b, al_b, as_b, rc_b, gi_b, pi_b, gr_b, zr0, zr1, zrb, u_s, u_n, v_s, v_n, ↓isIn_b, ↓within_b, ite_T, ite_F, il_t, il_f, li_t, li_f, it_t, it_f, ti_t, ti_f, ie_t, ie_f, ei_t, ei_f, nn_le_t, nn_le_f, nn_lt_t, nn_lt_f, nn_eq_t, nn_eq_f, nI_1, nI_add, ni_addl, ni_ladd, pk_mul, ni_mull, b2_t, b2_f, b2_0, one0, m1_eq, ni_m1, reduceCtorEq, Bool.false_eq_true, nI_clamp, if_true, Option.some.injEq, Prod.mk.injEq, and_true, true_and, Nat.reduceAdd, Nat.reduceMul, Nat.reduceSub, Nat.reduceEqDiff, Nat.reduceLeDiff, Nat.reduceLT, ↓gr40_10 hW, ↓gr40_11 hW, ↓seasonM_b, h1, show inB 1 0 1 = true from by decide, h2, (t1 j hj4).2]
            refine Rn_some (QM.set (h.setT (fun b j q1 q2 q3 => by rw [u_n (by omega)]) ⟨fun x hx => ⟨?_, ?_⟩, fun x hx => ?_, ?_⟩) (fun b j q1 => by rw [u_n (by omega)]))
            · rw [u_n (by omega)]; exact (t1 x hx).1
            · show _ = nI (updN (td (zT Z)) j w x)
              by_cases e : x = j
              · subst e; rw [u_s, updN_s]
              · rw [u_n (by omega), updN_n e]; exact (t1 x hx).2
            · rw [u_n (by omega)]; exact t2 x hx
            · rw [u_n (by omega)]; exact t3
      · have h3 : inB v2 0 1 = false := by
          cases e : inB v2 0 1 with
          | false => rfl
          | true =>
            obtain ⟨k, hk, rfl⟩ := inB_of (hi := 1) (by omega) e
            have : k = 0 ∨ k = 1 := by omega
            rcases this with rfl | rfl
            · exact absurd rfl h0
            · exact absurd rfl h01
        refine CallOK.no hZ (-102) (fun s I P J n h => ?_) (fun s I P J n h => ?_)
        · unfold fX8_season fX8_season_39
          simp (disch := first | assumption | with_unfolding_all exact hW.1 _ _ rfl | rfl | exact pu_okI (by first | assumption | with_unfolding_all exact hW.1 _ _ rfl) (by omega) (by omega) | exact pu_oqI (by first | assumption | with_unfolding_all exact hW.1 _ _ rfl) (by omega) (by omega) | omega | decide) only [↓reduceIte, ↓gi_b, ↓pi_b, ↓gr_b, ↓pr_b, ↓al_b, ↓as_b, ↓al_3, ↓as_3, ↓al_12, ↓as_12, ↓al_l, ↓as_l, ↓rc_b, ↓Option.bind_some, ↓zr0_b, ↓zr1_b, ↓zrb_b, ↓pz0_b, ↓pz1_b, al_b, as_b, rc_b, gi_b, pi_b, gr_b, zr0, zr1, zrb, u_s, u_n, v_s, v_n, ↓isIn_b, ↓within_b, ite_T, ite_F, il_t, il_f, li_t, li_f, it_t, it_f, ti_t, ti_f, ie_t, ie_f, ei_t, ei_f, nn_le_t, nn_le_f, nn_lt_t, nn_lt_f, nn_eq_t, nn_eq_f, nI_1, nI_add, ni_addl, ni_ladd, pk_mul, ni_mull, b2_t, b2_f, b2_0, one0, m1_eq, ni_m1, reduceCtorEq, Bool.false_eq_true, nI_clamp, if_true, Option.some.injEq, Prod.mk.injEq, and_true, true_and, Nat.reduceAdd, Nat.reduceMul, Nat.reduceSub, Nat.reduceEqDiff, Nat.reduceLeDiff, Nat.reduceLT, ↓season_b, h1, eq_false h0, eq_false h01]
        · unfold fX9_season
          simp (disch := first | assumption | with_unfolding_all exact hW.1 _ _ rfl | rfl | exact pu_okI (by first | assumption | with_unfolding_all exact hW.1 _ _ rfl) (by omega) (by omega) | exact pu_oqI (by first | assumption | with_unfolding_all exact hW.1 _ _ rfl) (by omega) (by omega) | omega | decide) only [↓reduceIte, ↓gi_b, ↓pi_b, ↓gr_b, ↓pr_b, ↓al_b, ↓as_b, ↓al_3, ↓as_3, ↓al_12, ↓as_12, ↓al_l, ↓as_l, ↓rc_b, ↓Option.bind_some, ↓zr0_b, ↓zr1_b, ↓zrb_b, ↓pz0_b, ↓pz1_b, al_b, as_b, rc_b, gi_b, pi_b, gr_b, zr0, zr1, zrb, u_s, u_n, v_s, v_n, ↓isIn_b, ↓within_b, ite_T, ite_F, il_t, il_f, li_t, li_f, it_t, it_f, ti_t, ti_f, ie_t, ie_f, ei_t, ei_f, nn_le_t, nn_le_f, nn_lt_t, nn_lt_f, nn_eq_t, nn_eq_f, nI_1, nI_add, ni_addl, ni_ladd, pk_mul, ni_mull, b2_t, b2_f, b2_0, one0, m1_eq, ni_m1, reduceCtorEq, Bool.false_eq_true, nI_clamp, if_true, Option.some.injEq, Prod.mk.injEq, and_true, true_and, Nat.reduceAdd, Nat.reduceMul, Nat.reduceSub, Nat.reduceEqDiff, Nat.reduceLeDiff, Nat.reduceLT, ↓seasonM_b, h1, h3]
