/-! the class's readClock, the calls fault *-/
theorem rVs_nb {L : Nat} {c : Nat → Nat} : ∀ (m : Nat) (K K' : S_K) (p p' : Nat), rVs L c m K p = (some K', p') → knb K' = knb K
  | 0, K, K', p, p', h => by
    have h : ((some K, p) : S_O) = (some K', p') := h
    cases h; rfl
  | m + 1, K, K', p, p', h => by
    rw [rVs] at h
    generalize hr : rVes L c K p = r at h
    obtain ⟨r, p1⟩ := r
    cases r with
    | none => cases h
    | some K1 =>
      have e1 := (rVes_n hr).2
      dsimp only at h
      by_cases q : 1 ≤ m ∧ cdN L c p1 = 62
      · rw [if_pos q] at h
        rw [rVs_nb m K1 K' _ _ h, e1]
      · rw [if_neg q] at h
        cases h; exact e1
theorem rCyl_nb {L : Nat} {c : Nat → Nat} {K K' : S_K} {p p' : Nat} (h : rCyl L c K p = (some K', p')) : knb K' = knb K := by
  unfold rCyl at h
  split at h
  · split at h
    · cases h
    · split at h
      · split at h
        · cases h
        · cases h; rfl
      · cases h
  · cases h
theorem rSup_nb {L : Nat} {c : Nat → Nat} {K K' : S_K} {p p' : Nat} (h : rSup L c K p = (some K', p')) : knb K' = knb K := by
  unfold rSup at h
  split at h
  · split at h
    · split at h
      · cases h
      · cases h; rfl
    · cases h
  · cases h
def CkF (s : Nat → Option pu_S) (I : Nat → Nat → Int32) (P : Nat → Nat → Option Nat) (J : Nat → Nat → Int64) (n : Nat × Nat) (L : Nat) (c : Nat → Nat) (q : S_O) (y : Int32 × am_H) : Prop := ∃ I' a, y = (a, pu_hp s I' P J n) ∧ PgC I' L c q.2 ∧ (∀ K', q.1 = some K' → CKd I' K' 2) ∧ FrC I I' ∧ ((∃ K', q.1 = some K') ∧ q.2 = L → a = 1) ∧ (¬ ((∃ K', q.1 = some K') ∧ q.2 = L) → a = 0)
theorem CkF.t {s : Nat → Option pu_S} {I I1 : Nat → Nat → Int32} {P : Nat → Nat → Option Nat} {J : Nat → Nat → Int64} {n : Nat × Nat} {L : Nat} {c : Nat → Nat} {q : S_O} {y : Int32 × am_H} (hf : FrC I I1) (h : CkF s I1 P J n L c q y) : CkF s I P J n L c q y := by
  obtain ⟨I', a, h1, h2, h3, h4, h5⟩ := h
  exact ⟨I', a, h1, h2, h3, hf.t h4, h5⟩
theorem CkF.no {s : Nat → Option pu_S} {I : Nat → Nat → Int32} {P : Nat → Nat → Option Nat} {J : Nat → Nat → Int64} {n : Nat × Nat} {L : Nat} {c : Nat → Nat} {p : Nat} (h : PgC I L c p) : CkF s I P J n L c (none, p) (0, pu_hp s I P J n) :=
  ⟨I, 0, rfl, h, fun K' q => (by cases q), fun _ _ _ _ => rfl, fun q => (by obtain ⟨⟨K', q⟩, -⟩ := q; cases q), fun _ => rfl⟩
section RC
variable {s : Nat → Option pu_S} {I : Nat → Nat → Int32} {P : Nat → Nat → Option Nat} {J : Nat → Nat → Int64} {n : Nat × Nat}
variable {L : Nat} {c : Nat → Nat}
set_option maxHeartbeats 4000000 in
set_option maxRecDepth 100000 in
theorem c_readC (hW : pu_W s P) (e51 : I 5 1 = nI L) (hL : L ≤ 80) (hl : ∀ k, k < L → I 6 k = nI (c k) ∧ 1 ≤ c k ∧ c k ≤ 126) : Rn (fX3_readClock 5 (some 15) (pu_hp s I P J n)) (CkF s I P J n L c (rAll L c K_0)) := by
  have h5 := hW.1 5 _ rfl
  have h15 := hW.1 15 _ rfl
  unfold fX3_readClock fX3_readVessels
  rw [pi_b h5 rfl, pi_b h15 rfl, pi_b h15 rfl, rc_b h5]
  generalize hI0 : pu_u (pu_u (pu_u I 5 2 0) 15 0 0) 15 8 0 = I0
  have f0 : FrC I I0 := fun b j q1 q2 => by rw [← hI0, u_n (by omega), u_n (by omega), u_n (by omega)]
  have g0 : PgC I0 L c 0 := ⟨by rw [← hI0, u_n (by omega), u_n (by omega), u_n (by omega), e51], by rw [← hI0, u_n (by omega), u_n (by omega), u_s]; rfl, Nat.zero_le _, hL, fun k hk => ⟨by rw [← hI0, u_n (by omega), u_n (by omega), u_n (by omega), (hl k hk).1], (hl k hk).2⟩⟩
  have k0 : CKd I0 K_0 0 := ⟨by rw [← hI0, u_n (by omega), u_s]; rfl, by rw [← hI0, u_s]; rfl, fun v hv => absurd hv (Nat.not_lt_zero v), fun b hb => absurd hb (Nat.not_lt_zero b), fun q => by omega, fun q => by omega⟩
  refine Rn_mono ?_ (fun y hy => CkF.t f0 hy)
  have q1 := c_vs (J := J) (n := n) hW 3 am_fu K_0 0 I0 rfl (by unfold am_fu; omega) g0 k0
  rw [show nI (kn K_0) = (0 : Int32) from rfl] at q1
  refine Rn_bind q1 ?_
  rintro _ ⟨I1, rfl, g1, k1, f1⟩
  unfold rAll
  generalize hr : rVs L c 3 K_0 0 = r at g1 k1 ⊢
  obtain ⟨r, p1⟩ := r
  dsimp only at g1 k1 ⊢
  refine Rn_mono ?_ (fun y hy => CkF.t f1 hy)
  cases r with
  | none =>
    rw [if_pos (show b2 (none : Option S_K).isSome = 0 from rfl)]
    exact Rn_some (CkF.no g1)
  | some K1 =>
  have n1 : knb K1 = 0 := rVs_nb 3 K_0 K1 0 p1 hr
  rw [if_neg (show ¬ b2 (some K1).isSome = 0 from by show ¬ (1 : Int32) = 0; decide), rc_b h5]
  refine Rn_bind (c_cyl hW g1 (k1 K1 rfl)) ?_
  rintro _ ⟨I2, rfl, g2, k2, f2⟩
  show Rn _ (CkF s I1 P J n L c (rThen (rCyl L c K1 p1) _))
  generalize hr2 : rCyl L c K1 p1 = r at g2 k2 ⊢
  obtain ⟨r, p2⟩ := r
  dsimp only at g2 k2 ⊢
  refine Rn_mono ?_ (fun y hy => CkF.t f2 hy)
  cases r with
  | none =>
    rw [if_pos (show b2 (none : Option S_K).isSome = 0 from rfl)]
    exact Rn_some (CkF.no g2)
  | some K2 =>
  have n2 : knb K2 = 0 := (rCyl_nb hr2).trans n1
  rw [if_neg (show ¬ b2 (some K2).isSome = 0 from by show ¬ (1 : Int32) = 0; decide), rc_b h5]
  refine Rn_bind (c_sup hW g2 (k2 K2 rfl)) ?_
  rintro _ ⟨I3, rfl, g3, k3, f3⟩
  show Rn _ (CkF s I2 P J n L c (rThen (rSup L c K2 p2) _))
  generalize hr3 : rSup L c K2 p2 = r at g3 k3 ⊢
  obtain ⟨r, p3⟩ := r
  dsimp only at g3 k3 ⊢
  refine Rn_mono ?_ (fun y hy => CkF.t f3 hy)
  cases r with
  | none =>
    rw [if_pos (show b2 (none : Option S_K).isSome = 0 from rfl)]
    exact Rn_some (CkF.no g3)
  | some K3 =>
  have n3 : knb K3 = 0 := (rSup_nb hr3).trans n2
  rw [if_neg (show ¬ b2 (some K3).isSome = 0 from by show ¬ (1 : Int32) = 0; decide), rc_b h5]
  refine Rn_bind (c_mks hW g3 (k3 K3 rfl) n3) ?_
  rintro _ ⟨I4, rfl, g4, k4, f4⟩
  show Rn _ (CkF s I3 P J n L c (rMks L c K3 p3))
  generalize hr4 : rMks L c K3 p3 = r at g4 k4 ⊢
  obtain ⟨r, p4⟩ := r
  dsimp only at g4 k4 ⊢
  refine Rn_mono ?_ (fun y hy => CkF.t f4 hy)
  cases r with
  | none =>
    rw [if_pos (show b2 (none : Option S_K).isSome = 0 from rfl)]
    exact Rn_some (CkF.no g4)
  | some K4 =>
  rw [if_neg (show ¬ b2 (some K4).isSome = 0 from by show ¬ (1 : Int32) = 0; decide), gi_b h5 rfl, gi_b h5 rfl, g4.1, g4.2.1]
  have hp4 := g4.2.2.1
  by_cases q : p4 = L
  · rw [if_pos (by rw [q])]
    exact Rn_some ⟨I4, 1, rfl, g4, k4, fun _ _ _ _ => rfl, fun _ => rfl, fun z => (z ⟨⟨K4, rfl⟩, q⟩).elim⟩
  · rw [if_neg (fun z => q ((nI_eq (by omega) (by omega)).mp z))]
    exact Rn_some ⟨I4, 0, rfl, g4, k4, fun _ _ _ _ => rfl, fun z => (q z.2).elim, fun _ => rfl⟩
end RC
theorem FrC.sc {I I' : Nat → Nat → Int32} (h : FrC I I') : ∀ b j, ¬ scC b j → I' b j = I b j := fun b j q => h b j (by unfold scC at q; omega) (by unfold scC at q; omega)
theorem InvC.pg {s : Nat → Option pu_S} {I : Nat → Nat → Int32} {P : Nat → Nat → Option Nat} {n : Nat × Nat} {Z : S_Z} (hZ : Z_B Z) (h : InvC s I P n Z) : ∀ k, k < zpl Z → I 6 k = nI (zpc Z k) ∧ 1 ≤ zpc Z k ∧ zpc Z k ≤ 126 := fun k hk => ⟨h.2.2.2.1 k hk, hZ.2.2.2.2.2.1.2 k hk⟩
set_option maxHeartbeats 4000000 in
set_option maxRecDepth 100000 in
theorem c_fault {s : Nat → Option pu_S} {I : Nat → Nat → Int32} {P : Nat → Nat → Option Nat} {J : Nat → Nat → Int64} {n : Nat × Nat} {Z : S_Z} (hZ : Z_B Z) (h : InvC s I P n Z) : Rn (fX8_fault 1 (pu_hp s I P J n)) (QC s I P J n Z (nI (rAll (zpl Z) (zpc Z) K_0).2)) := by
  have hpl := hZ.2.2.2.2.2.1.1
  have hW := h.1
  have e51 := h.2.2.1.2.2.2.2.2
  unfold fX8_fault
  simp (disch := first | assumption | with_unfolding_all exact hW.1 _ _ rfl | rfl | exact pu_okI (by first | assumption | with_unfolding_all exact hW.1 _ _ rfl) (by omega) (by omega) | exact pu_oqI (by first | assumption | with_unfolding_all exact hW.1 _ _ rfl) (by omega) (by omega) | omega | decide) only [↓reduceIte, ↓gi_b, ↓pi_b, ↓gr_b, ↓pr_b, ↓al_b, ↓as_b, ↓al_3, ↓as_3, ↓al_12, ↓as_12, ↓al_l, ↓as_l, ↓rc_b, ↓Option.bind_some, ↓zr0_b, ↓zr1_b, ↓zrb_b, ↓pz0_b, ↓pz1_b, al_b, as_b, rc_b, gi_b, pi_b, gr_b, zr0, zr1, zrb, u_s, u_n, v_s, v_n, ↓isIn_b, ite_T, ite_F, il_t, il_f, li_t, li_f, it_t, it_f, ti_t, ti_f, ie_t, ie_f, ei_t, ei_f, nn_le_t, nn_le_f, nn_lt_t, nn_lt_f, nn_eq_t, nn_eq_f, nI_1, nI_add, ni_addl, ni_ladd, pk_mul, ni_mull, b2_t, b2_f, b2_0, one0, m1_eq, ni_m1, reduceCtorEq, Bool.false_eq_true, nI_clamp, if_true, Option.some.injEq, Prod.mk.injEq, and_true, true_and, Nat.reduceAdd, Nat.reduceMul, Nat.reduceSub, Nat.reduceEqDiff, Nat.reduceLeDiff, Nat.reduceLT, ↓gr1_6 hW, ↓gr1_11 hW]
  refine Rn_bind (c_readC hW e51 hpl (h.pg hZ)) ?_
  rintro _ ⟨I', a, rfl, g1, g2, g3, g4⟩
  simp (disch := first | assumption | with_unfolding_all exact hW.1 _ _ rfl | rfl | exact pu_okI (by first | assumption | with_unfolding_all exact hW.1 _ _ rfl) (by omega) (by omega) | exact pu_oqI (by first | assumption | with_unfolding_all exact hW.1 _ _ rfl) (by omega) (by omega) | omega | decide) only [↓reduceIte, ↓gi_b, ↓pi_b, ↓gr_b, ↓pr_b, ↓al_b, ↓as_b, ↓al_3, ↓as_3, ↓al_12, ↓as_12, ↓al_l, ↓as_l, ↓rc_b, ↓Option.bind_some, ↓zr0_b, ↓zr1_b, ↓zrb_b, ↓pz0_b, ↓pz1_b, al_b, as_b, rc_b, gi_b, pi_b, gr_b, zr0, zr1, zrb, u_s, u_n, v_s, v_n, ↓isIn_b, ite_T, ite_F, il_t, il_f, li_t, li_f, it_t, it_f, ti_t, ti_f, ie_t, ie_f, ei_t, ei_f, nn_le_t, nn_le_f, nn_lt_t, nn_lt_f, nn_eq_t, nn_eq_f, nI_1, nI_add, ni_addl, ni_ladd, pk_mul, ni_mull, b2_t, b2_f, b2_0, one0, m1_eq, ni_m1, reduceCtorEq, Bool.false_eq_true, nI_clamp, if_true, Option.some.injEq, Prod.mk.injEq, and_true, true_and, Nat.reduceAdd, Nat.reduceMul, Nat.reduceSub, Nat.reduceEqDiff, Nat.reduceLeDiff, Nat.reduceLT, ↓gr1_6 hW, ↓gr1_11 hW, g1.2.1]
  exact Rn_some (QC.of h g3.sc (fun _ _ _ => rfl))
