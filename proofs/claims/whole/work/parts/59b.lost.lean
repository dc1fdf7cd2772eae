/-! the call lost -/
section AK
variable {s : Nat → Option pu_S} {I : Nat → Nat → Int32} {P : Nat → Nat → Option Nat} {J : Nat → Nat → Int64} {n : Nat × Nat}
variable {Z : S_Z}
theorem QC.re {α : Type} {a : α} {Z' : S_Z} {I1 : Nat → Nat → Int32} {P1 : Nat → Nat → Option Nat} {y : α × am_H} (hf : ∀ b j, 40 ≤ b → b ≤ 77 → I1 b j = I b j) (h : QC s I1 P1 J n Z' a y) : QC s I P J n Z' a y := by
  obtain ⟨h1, s', I', P', n', h2, h3, h4, h5, h6⟩ := h
  exact ⟨h1, s', I', P', n', h2, h3, fun b j q1 q2 => by rw [h4 b j q1 q2, hf b j q1 q2], h5, h6⟩
theorem QM.re {α : Type} {a : α} {Z' : S_Z} {I1 : Nat → Nat → Int32} {y : α × am_H} (hf : ∀ b j, ¬ (40 ≤ b ∧ b ≤ 77) → I1 b j = I b j) (h : QM s I1 P n Z' a y) : QM s I P n Z' a y := by
  obtain ⟨h1, I', J', h2, h3, h4⟩ := h
  exact ⟨h1, I', J', h2, h3, fun b j q => by rw [h4 b j q, hf b j q]⟩
/-- one more search -/
theorem Z_B.ask (hZ : Z_B Z) (h : zas Z < 20) : Z_B (zsA Z (zas Z + 1)) := by
  obtain ⟨h1, h2, h3, h4, h5, h6, h7⟩ := hZ
  exact ⟨h1, h2, h3, h4, h5, h6, (by omega : zas Z + 1 ≤ 20)⟩
theorem InvC.ask (h : InvC s I P n Z) : InvC s (pu_u I 1 10 (nI (zas Z + 1))) P n (zsA Z (zas Z + 1)) := by
  obtain ⟨a1, a2, a3, a4, a5, a6⟩ := h.2.2.1
  have f : ∀ b j, ¬ (b = 1 ∧ j = 10) → pu_u I 1 10 (nI (zas Z + 1)) b j = I b j := fun b j hb => u_n (by omega)
  exact h.gen rfl rfl rfl (fun b j q1 q2 => f b j (by omega)) (by rw [f _ _ (by omega), a4]; rfl) (by rw [u_s]; rfl) (by rw [f _ _ (by omega), a6]; rfl) (fun k hk => by rw [f _ _ (by omega)]; exact h.2.2.2.1 k hk) (h.2.2.2.2.2.2.2.2.1.fr fun x j hx => f x j (by omega)) (fun hh => (h.2.2.2.2.2.2.2.2.2 hh).fr fun x j hx => f x j (by omega))
theorem InvM.ask (h : InvM s I P Z) : InvM s (pu_u I 40 23 (nI (zas Z + 1))) P (zsA Z (zas Z + 1)) := by
  obtain ⟨a1, a2, a3, a4, a5, a6⟩ := h.2.1
  have f : ∀ b j, ¬ (b = 40 ∧ j = 23) → pu_u I 40 23 (nI (zas Z + 1)) b j = I b j := fun b j hb => u_n (by omega)
  exact h.gen rfl rfl rfl (fun b j q1 q2 q3 q4 q5 => f b j (by omega)) (by rw [f _ _ (by omega), a4]; rfl) (by rw [u_s]; rfl) (by rw [f _ _ (by omega), a6]; rfl) (fun k hk => by rw [f _ _ (by omega)]; exact h.2.2.1 k hk) (h.2.2.2.2.2.2.1.fr fun x j hx => f x j (by omega)) (fun hh => (h.2.2.2.2.2.2.2 hh).fr fun x j hx => f x j (by omega))
end AK
/-- a clock as guessed -/
def kG (K : S_K) (v a u : Nat) : S_K := (kn K, kA K, kH K, updN (kO K) v a, kca K, kch K, u, knb K, kM K)
theorem kG_B {K : S_K} {v a u : Nat} (hK : S_KB K) (ha : a ≤ 40) (hu : u ≤ 60) : S_KB (kG K v a u) := by
  obtain ⟨h1, h2, h3, h4, h5, h6⟩ := hK
  refine ⟨h1, fun k hk => ⟨(h2 k hk).1, (h2 k hk).2.1, ?_⟩, h3, h4, hu, h6⟩
  show updN (kO K) v a k ≤ 200
  by_cases e : k = v
  · subst e; rw [updN_s]; omega
  · rw [updN_n e]; exact (h2 k hk).2.2
theorem kG_0 {I : Nat → Nat → Int32} {K : S_K} {c v : Nat} (h : C_I I c K) : C_I I c (kG K v (kO K v) (ksu K)) := by
  obtain ⟨h1, h2, h3, h4, h5, h6, h7⟩ := h
  refine ⟨h1, h2, h3, h4, h5, fun k hk => ?_, h7⟩
  obtain ⟨a1, a2, a3, a4⟩ := h6 k hk
  refine ⟨a1, a2, ?_, a4⟩
  show _ = nI (updN (kO K) v (kO K v) k)
  by_cases e : k = v
  · subst e; rw [updN_s]; exact a3
  · rw [updN_n e]; exact a3
theorem kG_1 {I I' : Nat → Nat → Int32} {K : S_K} {c v a u a' u' : Nat} (h : C_I I c (kG K v a u)) (hf : ∀ b j, ¬ (b = c + 3 ∧ j = v) → ¬ (b = c ∧ j = 7) → I' b j = I b j) (h7 : I' c 7 = nI u') (h1 : I' (c + 3) v = nI a') : C_I I' c (kG K v a' u') := by
  obtain ⟨a1, a2, a3, a4, a5, a6, a7⟩ := h
  refine ⟨by rw [hf _ _ (by omega) (by omega), a1]; rfl, by rw [hf _ _ (by omega) (by omega), a2]; rfl, by rw [hf _ _ (by omega) (by omega), a3]; rfl, h7, by rw [hf _ _ (by omega) (by omega), a5]; rfl, fun k hk => ?_, fun b hb => by rw [hf _ _ (by omega) (by omega), a7 b hb]; rfl⟩
  obtain ⟨b1, b2, b3, b4⟩ := a6 k hk
  refine ⟨by rw [hf _ _ (by omega) (by omega), b1]; rfl, by rw [hf _ _ (by omega) (by omega), b2]; rfl, ?_, by rw [hf _ _ (by omega) (by omega), b4]; rfl⟩
  show _ = nI (updN (kO K) v a' k)
  by_cases e : k = v
  · subst e; rw [updN_s]; exact h1
  · rw [updN_n e, hf _ _ (by omega) (by omega), b3]
    show nI (updN (kO K) v a k) = _
    rw [updN_n e]
/-- how many, and the first two numbers -/
def lsS (D : Nat → Nat → Bool) (a u : Nat) (x : Int32 × Int32 × Int32) : Int32 × Int32 × Int32 :=
  if D a u = true then (if x.1 = 0 then (x.1 + 1, nI a, nI u) else (x.1 + 1, x.2.1, x.2.2)) else x
def lsU (D : Nat → Nat → Bool) (a : Nat) : Nat → Nat → Int32 × Int32 × Int32 → Int32 × Int32 × Int32
  | 0, _, x => x
  | m + 1, u, x => lsU D a m (u + 1) (lsS D a u x)
def lsA (D : Nat → Nat → Bool) : Nat → Nat → Int32 × Int32 × Int32 → Int32 × Int32 × Int32
  | 0, _, x => x
  | m + 1, a, x => lsA D m (a + 1) (lsU D a 61 0 x)
def lsW (w : Int32) (x : Int32 × Int32 × Int32) : Int32 := if w = 0 then x.1 else if w = 1 then x.2.1 else x.2.2
def lsD (K : S_K) (w : Nat) (l : S_L) (v a u : Nat) : Bool := AGb (kG K v a u) (S_at (kG K v a u) (0, 0, 0, 0) w true 96) l 12
section LO
variable {s : Nat → Option pu_S} {I : Nat → Nat → Int32} {P : Nat → Nat → Option Nat} {J : Nat → Nat → Int64} {n : Nat × Nat}
variable {Z : S_Z} {i j : Nat}
set_option maxHeartbeats 4000000 in
set_option maxRecDepth 100000 in
theorem c_ls22 (hZ : Z_B Z) (hi : i < znc Z) (hj : j < 4) {v a : Nat} {wh : Int32} (hv : v < kn (zK Z i)) (ha : a ≤ 40) {k12 : Option Nat → Int32 → Int32 → Int32 → Int32 → Int32 → Int32 → Int32 → am_H → Option (Int32 × am_H)} {Q : Int32 × am_H → Prop} : ∀ (m u N : Nat) (I : Nat → Nat → Int32) (P : Nat → Nat → Option Nat) (x : Int32 × Int32 × Int32) (a0 u0 : Nat), u + m = 61 → m < N → InvC s I P n Z → EVk I (tl (zT Z)) (knb (zK Z i)) 12 → C_I I 15 (kG (zK Z i) v a0 u0) →
    (∀ I' P' a1 u1, SF I I' P P' → EVk I' (tl (zT Z)) (knb (zK Z i)) 12 → C_I I' 15 (kG (zK Z i) v a1 u1) → Rn (k12 (some 1) (nI (tw (zT Z) j)) (nI v) wh (lsU (lsD (zK Z i) (tw (zT Z) j) (tl (zT Z)) v) a m u x).1 (lsU (lsD (zK Z i) (tw (zT Z) j) (tl (zT Z)) v) a m u x).2.1 (lsU (lsD (zK Z i) (tw (zT Z) j) (tl (zT Z)) v) a m u x).2.2 (nI (a + 1)) (pu_hp s I' P' J n)) Q) →
    Rn (fX8_seekClock_22 k12 N (some 1) (nI (tw (zT Z) j)) (nI v) wh x.1 x.2.1 x.2.2 (nI a) (nI u) (pu_hp s I P J n)) Q := by
  have hK := (hZ.1.2 i hi).1
  have hkn := hK.1
  have hw := (hZ.2.2.2.1.1 j hj).1
  have hF : S_FB (0, 0, 0, 0) := ⟨Nat.zero_le _, Nat.zero_le _, Nat.zero_le _, Nat.zero_le _⟩
  intro m
  induction m with
  | zero =>
    intro u N I P x a0 u0 hu hN hI hE hci kk
    obtain ⟨N, rfl⟩ : ∃ N', N = N' + 1 := ⟨N - 1, by omega⟩
    obtain rfl : u = 61 := by omega
    show Rn (fX8_seekClock_22_b _ _ _ _ _ _ _ _ _ _ _ _) _
    unfold fX8_seekClock_22_b
    simp (disch := first | assumption | with_unfolding_all exact hW.1 _ _ rfl | rfl | exact pu_okI (by first | assumption | with_unfolding_all exact hW.1 _ _ rfl) (by omega) (by omega) | exact pu_oqI (by first | assumption | with_unfolding_all exact hW.1 _ _ rfl) (by omega) (by omega) | omega | decide) only [↓reduceIte, ↓gi_b, ↓pi_b, ↓gr_b, ↓pr_b, ↓al_b, ↓as_b, ↓al_3, ↓as_3, ↓al_12, ↓as_12, ↓al_l, ↓as_l, ↓rc_b, ↓Option.bind_some, ↓zr0_b, ↓zr1_b, ↓zrb_b, ↓pz0_b, ↓pz1_b, al_b, as_b, rc_b, gi_b, pi_b, gr_b, zr0, zr1, zrb, u_s, u_n, v_s, v_n, ↓isIn_b, ↓within_b, ite_T, ite_F, il_t, il_f, li_t, li_f, it_t, it_f, ti_t, ti_f, ie_t, ie_f, ei_t, ei_f, nn_le_t, nn_le_f, nn_lt_t, nn_lt_f, nn_eq_t, nn_eq_f, nI_1, nI_add, ni_addl, ni_ladd, pk_mul, ni_mull, b2_t, b2_f, b2_0, one0, m1_eq, ni_m1, reduceCtorEq, Bool.false_eq_true, nI_clamp, if_true, Option.some.injEq, Prod.mk.injEq, and_true, true_and, Nat.reduceAdd, Nat.reduceMul, Nat.reduceSub, Nat.reduceEqDiff, Nat.reduceLeDiff, Nat.reduceLT]
    exact kk I P a0 u0 ⟨fun _ _ _ => rfl, fun _ _ _ => rfl⟩ hE hci
  | succ m ih =>
    intro u N I P x a0 u0 hu hN hI hE hci kk
    obtain ⟨N, rfl⟩ : ∃ N', N = N' + 1 := ⟨N - 1, by omega⟩
    have hW := hI.1
    have hc15 : s 15 = some (0, 0, 0) := hW.1 15 _ rfl
    have e15 : pu_u I 15 7 (nI u) 15 0 = nI (kn (zK Z i)) := by rw [u_n (by omega)]; exact hci.1
    have hK' := kG_B (v := v) (a := a) (u := u) hK ha (by omega)
    show Rn (fX8_seekClock_22_b k12 (fX8_seekClock_22 k12 N) _ _ _ _ _ _ _ _ _ _) _
    unfold fX8_seekClock_22_b fX8_seekClock_81 fX8_seekClock_84 fX0_guess
    simp (disch := first | assumption | with_unfolding_all exact hW.1 _ _ rfl | rfl | exact pu_okI (by first | assumption | with_unfolding_all exact hW.1 _ _ rfl) (by omega) (by omega) | exact pu_oqI (by first | assumption | with_unfolding_all exact hW.1 _ _ rfl) (by omega) (by omega) | omega | decide) only [↓reduceIte, ↓gi_b, ↓pi_b, ↓gr_b, ↓pr_b, ↓al_b, ↓as_b, ↓al_3, ↓as_3, ↓al_12, ↓as_12, ↓al_l, ↓as_l, ↓rc_b, ↓Option.bind_some, ↓zr0_b, ↓zr1_b, ↓zrb_b, ↓pz0_b, ↓pz1_b, al_b, as_b, rc_b, gi_b, pi_b, gr_b, zr0, zr1, zrb, u_s, u_n, v_s, v_n, ↓isIn_b, ↓within_b, ite_T, ite_F, il_t, il_f, li_t, li_f, it_t, it_f, ti_t, ti_f, ie_t, ie_f, ei_t, ei_f, nn_le_t, nn_le_f, nn_lt_t, nn_lt_f, nn_eq_t, nn_eq_f, nI_1, nI_add, ni_addl, ni_ladd, pk_mul, ni_mull, b2_t, b2_f, b2_0, one0, m1_eq, ni_m1, reduceCtorEq, Bool.false_eq_true, nI_clamp, if_true, Option.some.injEq, Prod.mk.injEq, and_true, true_and, Nat.reduceAdd, Nat.reduceMul, Nat.reduceSub, Nat.reduceEqDiff, Nat.reduceLeDiff, Nat.reduceLT, ↓gr1_11 hW, ↓gr1_14 hW, ↓gr1_12 hW, ↓gr15_3 hW, ↓hasV_b hc15 e15 hkn.2, decide_eq_true hv]
    have f0 : SF I (pu_u (pu_u I 15 7 (nI u)) 18 v (nI a)) P P := ⟨fun b j hb => by unfold scC at hb; rw [u_n (by omega), u_n (by omega)], fun _ _ _ => rfl⟩
    have hI0 := f0.inv hI
    have hc0 : C_I (pu_u (pu_u I 15 7 (nI u)) 18 v (nI a)) 15 (kG (zK Z i) v a u) := kG_1 hci (fun b j h1 h2 => by rw [u_n (by omega), u_n (by omega)]) (by rw [u_n (by omega), u_s]) u_s
    refine Rn_bind (g_start (w := tw (zT Z) j) hW hK' (CS_15 hW) hc0 (hW.1 21 _ rfl) hI0.2.2.2.2.1 (by omega) (by omega)) ?_
    rintro _ ⟨I1, P1, rfl, f1, hR⟩
    have f1' := f1.sf
    have hI1 := f1'.inv hI0
    have hW := hI1.1
    have hE1 : EVk I1 (tl (zT Z)) (knb (zK Z i)) 12 := hE.fr fun b j q1 q2 => by rw [f1.1 b j (by omega), u_n (by omega), u_n (by omega)]
    simp (disch := first | assumption | with_unfolding_all exact hW.1 _ _ rfl | rfl | exact pu_okI (by first | assumption | with_unfolding_all exact hW.1 _ _ rfl) (by omega) (by omega) | exact pu_oqI (by first | assumption | with_unfolding_all exact hW.1 _ _ rfl) (by omega) (by omega) | omega | decide) only [↓reduceIte, ↓gi_b, ↓pi_b, ↓gr_b, ↓pr_b, ↓al_b, ↓as_b, ↓al_3, ↓as_3, ↓al_12, ↓as_12, ↓al_l, ↓as_l, ↓rc_b, ↓Option.bind_some, ↓zr0_b, ↓zr1_b, ↓zrb_b, ↓pz0_b, ↓pz1_b, al_b, as_b, rc_b, gi_b, pi_b, gr_b, zr0, zr1, zrb, u_s, u_n, v_s, v_n, ↓isIn_b, ↓within_b, ite_T, ite_F, il_t, il_f, li_t, li_f, it_t, it_f, ti_t, ti_f, ie_t, ie_f, ei_t, ei_f, nn_le_t, nn_le_f, nn_lt_t, nn_lt_f, nn_eq_t, nn_eq_f, nI_1, nI_add, ni_addl, ni_ladd, pk_mul, ni_mull, b2_t, b2_f, b2_0, one0, m1_eq, ni_m1, reduceCtorEq, Bool.false_eq_true, nI_clamp, if_true, Option.some.injEq, Prod.mk.injEq, and_true, true_and, Nat.reduceAdd, Nat.reduceMul, Nat.reduceSub, Nat.reduceEqDiff, Nat.reduceLeDiff, Nat.reduceLT, ↓gr1_11 hW, ↓gr1_14 hW, ↓gr1_12 hW]
    refine Rn_bind (c_agrees (t := 0) hW hK' hF hw (by omega) (by omega) hE1 hR) ?_
    rintro _ ⟨I2, rfl, f2⟩
    have f2' : SF I1 I2 P1 P1 := ⟨fun b j hb => f2 b j (by unfold scC at hb; omega), fun _ _ _ => rfl⟩
    have hI2 := f2'.inv hI1
    have hE2 : EVk I2 (tl (zT Z)) (knb (zK Z i)) 12 := hE1.fr fun b j q1 q2 => f2 b j (by omega)
    have hc2 : C_I I2 15 (kG (zK Z i) v a u) := hc0.fr fun b j q1 q2 => by rw [f2 b j (by omega), f1.1 b j (by omega)]
    have eD : (!impR (tl (zT Z)) (knb (zK Z i)) 12 && agR (tl (zT Z)) (xd (kG (zK Z i) v a u) (0, 0, 0, 0) (tw (zT Z) j)) (ltN (tl (zT Z)) - 0) 0) = lsD (zK Z i) (tw (zT Z) j) (tl (zT Z)) v a u := by
      unfold lsD
      rw [ag_main hK' hF hZ.2.2.2.1.2.1]; rfl
    rw [eD]
    have f02 := (f0.tr f1').tr f2'
    have go : ∀ x', x' = lsS (lsD (zK Z i) (tw (zT Z) j) (tl (zT Z)) v) a u x → Rn (fX8_seekClock_22 k12 N (some 1) (nI (tw (zT Z) j)) (nI v) wh x'.1 x'.2.1 x'.2.2 (nI a) (nI (u + 1)) (pu_hp s I2 P1 J n)) Q := by
      rintro _ rfl
      exact ih (u + 1) N I2 P1 _ a u (by omega) (by omega) hI2 hE2 hc2 fun I' P' a1 u1 g1 g2 g3 => kk I' P' a1 u1 (f02.tr g1) g2 g3
    unfold lsS at go
    cases eB : lsD (zK Z i) (tw (zT Z) j) (tl (zT Z)) v a u with
    | false =>
      rw [eB, if_neg (by decide)] at go
      simp (disch := first | assumption | with_unfolding_all exact hW.1 _ _ rfl | rfl | exact pu_okI (by first | assumption | with_unfolding_all exact hW.1 _ _ rfl) (by omega) (by omega) | exact pu_oqI (by first | assumption | with_unfolding_all exact hW.1 _ _ rfl) (by omega) (by omega) | omega | decide) only [↓reduceIte, ↓gi_b, ↓pi_b, ↓gr_b, ↓pr_b, ↓al_b, ↓as_b, ↓al_3, ↓as_3, ↓al_12, ↓as_12, ↓al_l, ↓as_l, ↓rc_b, ↓Option.bind_some, ↓zr0_b, ↓zr1_b, ↓zrb_b, ↓pz0_b, ↓pz1_b, al_b, as_b, rc_b, gi_b, pi_b, gr_b, zr0, zr1, zrb, u_s, u_n, v_s, v_n, ↓isIn_b, ↓within_b, ite_T, ite_F, il_t, il_f, li_t, li_f, it_t, it_f, ti_t, ti_f, ie_t, ie_f, ei_t, ei_f, nn_le_t, nn_le_f, nn_lt_t, nn_lt_f, nn_eq_t, nn_eq_f, nI_1, nI_add, ni_addl, ni_ladd, pk_mul, ni_mull, b2_t, b2_f, b2_0, one0, m1_eq, ni_m1, reduceCtorEq, Bool.false_eq_true, nI_clamp, if_true, Option.some.injEq, Prod.mk.injEq, and_true, true_and, Nat.reduceAdd, Nat.reduceMul, Nat.reduceSub, Nat.reduceEqDiff, Nat.reduceLeDiff, Nat.reduceLT]
      exact go _ rfl
    | true =>
      rw [eB, if_pos rfl] at go
      by_cases h0 : x.1 = 0
      · rw [if_pos h0] at go
        simp (disch := first | assumption | with_unfolding_all exact hW.1 _ _ rfl | rfl | exact pu_okI (by first | assumption | with_unfolding_all exact hW.1 _ _ rfl) (by omega) (by omega) | exact pu_oqI (by first | assumption | with_unfolding_all exact hW.1 _ _ rfl) (by omega) (by omega) | omega | decide) only [↓reduceIte, ↓gi_b, ↓pi_b, ↓gr_b, ↓pr_b, ↓al_b, ↓as_b, ↓al_3, ↓as_3, ↓al_12, ↓as_12, ↓al_l, ↓as_l, ↓rc_b, ↓Option.bind_some, ↓zr0_b, ↓zr1_b, ↓zrb_b, ↓pz0_b, ↓pz1_b, al_b, as_b, rc_b, gi_b, pi_b, gr_b, zr0, zr1, zrb, u_s, u_n, v_s, v_n, ↓isIn_b, ↓within_b, ite_T, ite_F, il_t, il_f, li_t, li_f, it_t, it_f, ti_t, ti_f, ie_t, ie_f, ei_t, ei_f, nn_le_t, nn_le_f, nn_lt_t, nn_lt_f, nn_eq_t, nn_eq_f, nI_1, nI_add, ni_addl, ni_ladd, pk_mul, ni_mull, b2_t, b2_f, b2_0, one0, m1_eq, ni_m1, reduceCtorEq, Bool.false_eq_true, nI_clamp, if_true, Option.some.injEq, Prod.mk.injEq, and_true, true_and, Nat.reduceAdd, Nat.reduceMul, Nat.reduceSub, Nat.reduceEqDiff, Nat.reduceLeDiff, Nat.reduceLT, eq_true h0]
        exact go (x.1 + 1, nI a, nI u) rfl
      · rw [if_neg h0] at go
        simp (disch := first | assumption | with_unfolding_all exact hW.1 _ _ rfl | rfl | exact pu_okI (by first | assumption | with_unfolding_all exact hW.1 _ _ rfl) (by omega) (by omega) | exact pu_oqI (by first | assumption | with_unfolding_all exact hW.1 _ _ rfl) (by omega) (by omega) | omega | decide) only [↓reduceIte, ↓gi_b, ↓pi_b, ↓gr_b, ↓pr_b, ↓al_b, ↓as_b, ↓al_3, ↓as_3, ↓al_12, ↓as_12, ↓al_l, ↓as_l, ↓rc_b, ↓Option.bind_some, ↓zr0_b, ↓zr1_b, ↓zrb_b, ↓pz0_b, ↓pz1_b, al_b, as_b, rc_b, gi_b, pi_b, gr_b, zr0, zr1, zrb, u_s, u_n, v_s, v_n, ↓isIn_b, ↓within_b, ite_T, ite_F, il_t, il_f, li_t, li_f, it_t, it_f, ti_t, ti_f, ie_t, ie_f, ei_t, ei_f, nn_le_t, nn_le_f, nn_lt_t, nn_lt_f, nn_eq_t, nn_eq_f, nI_1, nI_add, ni_addl, ni_ladd, pk_mul, ni_mull, b2_t, b2_f, b2_0, one0, m1_eq, ni_m1, reduceCtorEq, Bool.false_eq_true, nI_clamp, if_true, Option.some.injEq, Prod.mk.injEq, and_true, true_and, Nat.reduceAdd, Nat.reduceMul, Nat.reduceSub, Nat.reduceEqDiff, Nat.reduceLeDiff, Nat.reduceLT, eq_false h0]
        exact go (x.1 + 1, x.2.1, x.2.2) rfl
set_option maxHeartbeats 4000000 in
set_option maxRecDepth 100000 in
theorem c_ls12 (hZ : Z_B Z) (hi : i < znc Z) (hj : j < 4) {v : Nat} {wh : Int32} (hv : v < kn (zK Z i)) : ∀ (m a N : Nat) (I : Nat → Nat → Int32) (P : Nat → Nat → Option Nat) (x : Int32 × Int32 × Int32) (a0 u0 : Nat), a + m = 41 → m < N → InvC s I P n Z → EVk I (tl (zT Z)) (knb (zK Z i)) 12 → C_I I 15 (kG (zK Z i) v a0 u0) →
    Rn (fX8_seekClock_12 N (some 1) (nI (tw (zT Z) j)) (nI v) wh x.1 x.2.1 x.2.2 (nI a) (pu_hp s I P J n)) fun y => ∃ I' P', y = (lsW wh (lsA (lsD (zK Z i) (tw (zT Z) j) (tl (zT Z)) v) m a x), pu_hp s I' P' J n) ∧ SF I I' P P' := by
  intro m
  induction m with
  | zero =>
    intro a N I P x a0 u0 hu hN hI hE hci
    obtain ⟨N, rfl⟩ : ∃ N', N = N' + 1 := ⟨N - 1, by omega⟩
    obtain rfl : a = 41 := by omega
    show Rn (fX8_seekClock_12_b _ _ _ _ _ _ _ _ _ _) _
    unfold fX8_seekClock_12_b
    simp (disch := first | assumption | with_unfolding_all exact hW.1 _ _ rfl | rfl | exact pu_okI (by first | assumption | with_unfolding_all exact hW.1 _ _ rfl) (by omega) (by omega) | exact pu_oqI (by first | assumption | with_unfolding_all exact hW.1 _ _ rfl) (by omega) (by omega) | omega | decide) only [↓reduceIte, ↓gi_b, ↓pi_b, ↓gr_b, ↓pr_b, ↓al_b, ↓as_b, ↓al_3, ↓as_3, ↓al_12, ↓as_12, ↓al_l, ↓as_l, ↓rc_b, ↓Option.bind_some, ↓zr0_b, ↓zr1_b, ↓zrb_b, ↓pz0_b, ↓pz1_b, al_b, as_b, rc_b, gi_b, pi_b, gr_b, zr0, zr1, zrb, u_s, u_n, v_s, v_n, ↓isIn_b, ↓within_b, ite_T, ite_F, il_t, il_f, li_t, li_f, it_t, it_f, ti_t, ti_f, ie_t, ie_f, ei_t, ei_f, nn_le_t, nn_le_f, nn_lt_t, nn_lt_f, nn_eq_t, nn_eq_f, nI_1, nI_add, ni_addl, ni_ladd, pk_mul, ni_mull, b2_t, b2_f, b2_0, one0, m1_eq, ni_m1, reduceCtorEq, Bool.false_eq_true, nI_clamp, if_true, Option.some.injEq, Prod.mk.injEq, and_true, true_and, Nat.reduceAdd, Nat.reduceMul, Nat.reduceSub, Nat.reduceEqDiff, Nat.reduceLeDiff, Nat.reduceLT]
    show Rn _ fun y => ∃ I' P', y = ((if wh = 0 then x.1 else if wh = 1 then x.2.1 else x.2.2), pu_hp s I' P' J n) ∧ SF I I' P P'
    by_cases h0 : wh = 0
    · rw [if_pos h0, if_pos h0]
      exact Rn_some ⟨I, P, rfl, fun _ _ _ => rfl, fun _ _ _ => rfl⟩
    · by_cases h1 : wh = 1
      · rw [if_neg h0, if_neg h0, if_pos h1, if_pos h1]
        exact Rn_some ⟨I, P, rfl, fun _ _ _ => rfl, fun _ _ _ => rfl⟩
      · rw [if_neg h0, if_neg h0, if_neg h1, if_neg h1]
        exact Rn_some ⟨I, P, rfl, fun _ _ _ => rfl, fun _ _ _ => rfl⟩
  | succ m ih =>
    intro a N I P x a0 u0 hu hN hI hE hci
    obtain ⟨N, rfl⟩ : ∃ N', N = N' + 1 := ⟨N - 1, by omega⟩
    show Rn (fX8_seekClock_12_b (fX8_seekClock_12 N) _ _ _ _ _ _ _ _ _) _
    unfold fX8_seekClock_12_b
    simp (disch := first | assumption | with_unfolding_all exact hW.1 _ _ rfl | rfl | exact pu_okI (by first | assumption | with_unfolding_all exact hW.1 _ _ rfl) (by omega) (by omega) | exact pu_oqI (by first | assumption | with_unfolding_all exact hW.1 _ _ rfl) (by omega) (by omega) | omega | decide) only [↓reduceIte, ↓gi_b, ↓pi_b, ↓gr_b, ↓pr_b, ↓al_b, ↓as_b, ↓al_3, ↓as_3, ↓al_12, ↓as_12, ↓al_l, ↓as_l, ↓rc_b, ↓Option.bind_some, ↓zr0_b, ↓zr1_b, ↓zrb_b, ↓pz0_b, ↓pz1_b, al_b, as_b, rc_b, gi_b, pi_b, gr_b, zr0, zr1, zrb, u_s, u_n, v_s, v_n, ↓isIn_b, ↓within_b, ite_T, ite_F, il_t, il_f, li_t, li_f, it_t, it_f, ti_t, ti_f, ie_t, ie_f, ei_t, ei_f, nn_le_t, nn_le_f, nn_lt_t, nn_lt_f, nn_eq_t, nn_eq_f, nI_1, nI_add, ni_addl, ni_ladd, pk_mul, ni_mull, b2_t, b2_f, b2_0, one0, m1_eq, ni_m1, reduceCtorEq, Bool.false_eq_true, nI_clamp, if_true, Option.some.injEq, Prod.mk.injEq, and_true, true_and, Nat.reduceAdd, Nat.reduceMul, Nat.reduceSub, Nat.reduceEqDiff, Nat.reduceLeDiff, Nat.reduceLT]
    rw [show (0 : Int32) = nI 0 from rfl]
    refine c_ls22 hZ hi hj hv (by omega) 61 0 am_fu I P x a0 u0 (by omega) (by unfold am_fu; omega) hI hE hci fun I1 P1 a1 u1 g1 g2 g3 => ?_
    refine Rn_mono (ih (a + 1) N I1 P1 _ a1 u1 (by omega) (by omega) (g1.inv hI) g2 g3) ?_
    rintro _ ⟨I2, P2, rfl, g4⟩
    exact ⟨I2, P2, rfl, g1.tr g4⟩
set_option maxHeartbeats 4000000 in
set_option maxRecDepth 100000 in
theorem m_ls86 (hZ : Z_B Z) (hi : i < znc Z) (hj : j < 4) {v a : Nat} {wh : Int32} (hv : v < kn (zK Z i)) (ha : a ≤ 40) {k76 : Option Nat → Int32 → Int32 → Int32 → Int32 → Int32 → Int32 → Int32 → Int32 → am_H → Option (Int32 × am_H)} {Q : Int32 × am_H → Prop} : ∀ (m u N : Nat) (I : Nat → Nat → Int32) (x : Int32 × Int32 × Int32), u + m = 61 → m < N → InvM s I P Z →
    (∀ I', RF I I' → Rn (k76 (some 40) (nI i) (nI j) (nI v) wh (lsU (lsD (zK Z i) (tw (zT Z) j) (tl (zT Z)) v) a m u x).1 (lsU (lsD (zK Z i) (tw (zT Z) j) (tl (zT Z)) v) a m u x).2.1 (lsU (lsD (zK Z i) (tw (zT Z) j) (tl (zT Z)) v) a m u x).2.2 (nI (a + 1)) (pu_hp s I' P J n)) Q) →
    Rn (fX9_lost_86 k76 N (some 40) (nI i) (nI j) (nI v) wh x.1 x.2.1 x.2.2 (nI a) (nI u) (pu_hp s I P J n)) Q := by
  have hnc := hZ.1.1
  have hK := (hZ.1.2 i hi).1
  have hkn := hK.1
  have hF : S_FB (0, 0, 0, 0) := ⟨Nat.zero_le _, Nat.zero_le _, Nat.zero_le _, Nat.zero_le _⟩
  intro m
  induction m with
  | zero =>
    intro u N I x hu hN hM kk
    obtain ⟨N, rfl⟩ : ∃ N', N = N' + 1 := ⟨N - 1, by omega⟩
    obtain rfl : u = 61 := by omega
    show Rn (fX9_lost_86_b _ _ _ _ _ _ _ _ _ _ _ _ _) _
    unfold fX9_lost_86_b
    simp (disch := first | assumption | with_unfolding_all exact hW.1 _ _ rfl | rfl | exact pu_okI (by first | assumption | with_unfolding_all exact hW.1 _ _ rfl) (by omega) (by omega) | exact pu_oqI (by first | assumption | with_unfolding_all exact hW.1 _ _ rfl) (by omega) (by omega) | omega | decide) only [↓reduceIte, ↓gi_b, ↓pi_b, ↓gr_b, ↓pr_b, ↓al_b, ↓as_b, ↓al_3, ↓as_3, ↓al_12, ↓as_12, ↓al_l, ↓as_l, ↓rc_b, ↓Option.bind_some, ↓zr0_b, ↓zr1_b, ↓zrb_b, ↓pz0_b, ↓pz1_b, al_b, as_b, rc_b, gi_b, pi_b, gr_b, zr0, zr1, zrb, u_s, u_n, v_s, v_n, ↓isIn_b, ↓within_b, ite_T, ite_F, il_t, il_f, li_t, li_f, it_t, it_f, ti_t, ti_f, ie_t, ie_f, ei_t, ei_f, nn_le_t, nn_le_f, nn_lt_t, nn_lt_f, nn_eq_t, nn_eq_f, nI_1, nI_add, ni_addl, ni_ladd, pk_mul, ni_mull, b2_t, b2_f, b2_0, one0, m1_eq, ni_m1, reduceCtorEq, Bool.false_eq_true, nI_clamp, if_true, Option.some.injEq, Prod.mk.injEq, and_true, true_and, Nat.reduceAdd, Nat.reduceMul, Nat.reduceSub, Nat.reduceEqDiff, Nat.reduceLeDiff, Nat.reduceLT]
    exact kk I fun _ _ _ => rfl
  | succ m ih =>
    intro u N I x hu hN hM kk
    obtain ⟨N, rfl⟩ : ∃ N', N = N' + 1 := ⟨N - 1, by omega⟩
    have hW := hM.1
    have hld : Rn (fX9_load 40 (nI i) (-1) (pu_hp s I P J n)) _ := m_load (q := none) hZ hM hi (fun k hk => by cases hk)
    have hK' := kG_B (v := v) (a := a) (u := u) hK ha (by omega)
    show Rn (fX9_lost_86_b k76 (fX9_lost_86 k76 N) _ _ _ _ _ _ _ _ _ _ _) _
    unfold fX9_lost_86_b fX9_lost_141 fX9_lost_155 fX9_lost_160
    simp (disch := first | assumption | with_unfolding_all exact hW.1 _ _ rfl | rfl | exact pu_okI (by first | assumption | with_unfolding_all exact hW.1 _ _ rfl) (by omega) (by omega) | exact pu_oqI (by first | assumption | with_unfolding_all exact hW.1 _ _ rfl) (by omega) (by omega) | omega | decide) only [↓reduceIte, ↓gi_b, ↓pi_b, ↓gr_b, ↓pr_b, ↓al_b, ↓as_b, ↓al_3, ↓as_3, ↓al_12, ↓as_12, ↓al_l, ↓as_l, ↓rc_b, ↓Option.bind_some, ↓zr0_b, ↓zr1_b, ↓zrb_b, ↓pz0_b, ↓pz1_b, al_b, as_b, rc_b, gi_b, pi_b, gr_b, zr0, zr1, zrb, u_s, u_n, v_s, v_n, ↓isIn_b, ↓within_b, ite_T, ite_F, il_t, il_f, li_t, li_f, it_t, it_f, ti_t, ti_f, ie_t, ie_f, ei_t, ei_f, nn_le_t, nn_le_f, nn_lt_t, nn_lt_f, nn_eq_t, nn_eq_f, nI_1, nI_add, ni_addl, ni_ladd, pk_mul, ni_mull, b2_t, b2_f, b2_0, one0, m1_eq, ni_m1, reduceCtorEq, Bool.false_eq_true, nI_clamp, if_true, Option.some.injEq, Prod.mk.injEq, and_true, true_and, Nat.reduceAdd, Nat.reduceMul, Nat.reduceSub, Nat.reduceEqDiff, Nat.reduceLeDiff, Nat.reduceLT]
    refine Rn_bind hld ?_
    rintro _ ⟨I1, rfl, f1, g1⟩
    have hM1 := L_F.inv hM f1
    have hW := hM1.1
    have f1' : RF I I1 := fun b j hb => f1 b j (by unfold scM at hb; omega) (by unfold scM at hb; omega)
    simp (disch := first | assumption | with_unfolding_all exact hW.1 _ _ rfl | rfl | exact pu_okI (by first | assumption | with_unfolding_all exact hW.1 _ _ rfl) (by omega) (by omega) | exact pu_oqI (by first | assumption | with_unfolding_all exact hW.1 _ _ rfl) (by omega) (by omega) | omega | decide) only [↓reduceIte, ↓gi_b, ↓pi_b, ↓gr_b, ↓pr_b, ↓al_b, ↓as_b, ↓al_3, ↓as_3, ↓al_12, ↓as_12, ↓al_l, ↓as_l, ↓rc_b, ↓Option.bind_some, ↓zr0_b, ↓zr1_b, ↓zrb_b, ↓pz0_b, ↓pz1_b, al_b, as_b, rc_b, gi_b, pi_b, gr_b, zr0, zr1, zrb, u_s, u_n, v_s, v_n, ↓isIn_b, ↓within_b, ite_T, ite_F, il_t, il_f, li_t, li_f, it_t, it_f, ti_t, ti_f, ie_t, ie_f, ei_t, ei_f, nn_le_t, nn_le_f, nn_lt_t, nn_lt_f, nn_eq_t, nn_eq_f, nI_1, nI_add, ni_addl, ni_ladd, pk_mul, ni_mull, b2_t, b2_f, b2_0, one0, m1_eq, ni_m1, reduceCtorEq, Bool.false_eq_true, nI_clamp, if_true, Option.some.injEq, Prod.mk.injEq, and_true, true_and, Nat.reduceAdd, Nat.reduceMul, Nat.reduceSub, Nat.reduceEqDiff, Nat.reduceLeDiff, Nat.reduceLT, ↓gr40_43 hW, ↓gr40_1 hW]
    have fr : ∀ b j, ¬ (b = 68 ∧ j = v) → ¬ (b = 40 ∧ j = 44) → pu_u (pu_u I1 68 v (nI a)) 40 44 (nI u) b j = I1 b j := fun b j h1 h2 => by rw [u_n (by omega), u_n (by omega)]
    have f2 : RF I1 (pu_u (pu_u I1 68 v (nI a)) 40 44 (nI u)) := fun b j hb => fr b j (by unfold scM at hb; omega) (by unfold scM at hb; omega)
    have hM2 := f2.inv hM1
    have hl : M_L (pu_u (pu_u I1 68 v (nI a)) 40 44 (nI u)) (kG (zK Z i) v a u) (0, 0, 0, 0) true := by
      obtain ⟨a1, a2, a3, a4, a5, a6, a7⟩ := g1
      refine ⟨fun k hk => ?_, u_s, by rw [fr _ _ (by omega) (by omega), a3], by rw [fr _ _ (by omega) (by omega), a4]; rfl, by rw [fr _ _ (by omega) (by omega), a5]; rfl, by rw [fr _ _ (by omega) (by omega), a6]; rfl, by rw [fr _ _ (by omega) (by omega), a7]; rfl⟩
      show _ = nI (updN (kO (zK Z i)) v a k)
      by_cases e : k = v
      · subst e; rw [updN_s, u_n (by omega), u_s]
      · rw [updN_n e, fr _ _ (by omega) (by omega), a1 k hk]
    have hc2 := (hM2.2.2.2.1 i hi).1
    have hru : Rn (fX9_run 40 (nI i) (nI j) 95 (pu_hp s (pu_u (pu_u I1 68 v (nI a)) 40 44 (nI u)) P J n)) _ := m_runI (e := 95) (J := J) (n := n) (K := kG (zK Z i) v a u) hZ hM2 hi hj hF hK' hc2 hl (by omega)
    refine Rn_bind hru ?_
    rintro _ ⟨I3, rfl, f3, g3, -⟩
    have f3' : RF (pu_u (pu_u I1 68 v (nI a)) 40 44 (nI u)) I3 := fun b j hb => f3 b j (by unfold scM at hb; omega) (by unfold scM at hb; omega)
    have hM3 := f3'.inv hM2
    have hW := hM3.1
    have f03 := (f1'.tr f2).tr f3'
    have eag := m_agr (J := J) (n := n) (K := kG (zK Z i) v a u) hZ hM3 hi rfl (S_at_b (w := tw (zT Z) j) (sip := true) hK' hF 96) g3
    rw [show AGb (kG (zK Z i) v a u) (S_at (kG (zK Z i) v a u) (0, 0, 0, 0) (tw (zT Z) j) true 96) (tl (zT Z)) 12 = lsD (zK Z i) (tw (zT Z) j) (tl (zT Z)) v a u from rfl] at eag
    have go : ∀ x', x' = lsS (lsD (zK Z i) (tw (zT Z) j) (tl (zT Z)) v) a u x → Rn (fX9_lost_86 k76 N (some 40) (nI i) (nI j) (nI v) wh x'.1 x'.2.1 x'.2.2 (nI a) (nI (u + 1)) (pu_hp s I3 P J n)) Q := by
      rintro _ rfl
      exact ih (u + 1) N I3 _ (by omega) (by omega) hM3 fun I' g1 => kk I' (f03.tr g1)
    unfold lsS at go
    cases eB : lsD (zK Z i) (tw (zT Z) j) (tl (zT Z)) v a u with
    | false =>
      rw [eB, if_neg (by decide)] at go
      rw [eB] at eag
      simp (disch := first | assumption | with_unfolding_all exact hW.1 _ _ rfl | rfl | exact pu_okI (by first | assumption | with_unfolding_all exact hW.1 _ _ rfl) (by omega) (by omega) | exact pu_oqI (by first | assumption | with_unfolding_all exact hW.1 _ _ rfl) (by omega) (by omega) | omega | decide) only [↓reduceIte, ↓gi_b, ↓pi_b, ↓gr_b, ↓pr_b, ↓al_b, ↓as_b, ↓al_3, ↓as_3, ↓al_12, ↓as_12, ↓al_l, ↓as_l, ↓rc_b, ↓Option.bind_some, ↓zr0_b, ↓zr1_b, ↓zrb_b, ↓pz0_b, ↓pz1_b, al_b, as_b, rc_b, gi_b, pi_b, gr_b, zr0, zr1, zrb, u_s, u_n, v_s, v_n, ↓isIn_b, ↓within_b, ite_T, ite_F, il_t, il_f, li_t, li_f, it_t, it_f, ti_t, ti_f, ie_t, ie_f, ei_t, ei_f, nn_le_t, nn_le_f, nn_lt_t, nn_lt_f, nn_eq_t, nn_eq_f, nI_1, nI_add, ni_addl, ni_ladd, pk_mul, ni_mull, b2_t, b2_f, b2_0, one0, m1_eq, ni_m1, reduceCtorEq, Bool.false_eq_true, nI_clamp, if_true, Option.some.injEq, Prod.mk.injEq, and_true, true_and, Nat.reduceAdd, Nat.reduceMul, Nat.reduceSub, Nat.reduceEqDiff, Nat.reduceLeDiff, Nat.reduceLT, eag]
      exact go _ rfl
    | true =>
      rw [eB, if_pos rfl] at go
      rw [eB] at eag
      by_cases h0 : x.1 = 0
      · rw [if_pos h0] at go
        simp (disch := first | assumption | with_unfolding_all exact hW.1 _ _ rfl | rfl | exact pu_okI (by first | assumption | with_unfolding_all exact hW.1 _ _ rfl) (by omega) (by omega) | exact pu_oqI (by first | assumption | with_unfolding_all exact hW.1 _ _ rfl) (by omega) (by omega) | omega | decide) only [↓reduceIte, ↓gi_b, ↓pi_b, ↓gr_b, ↓pr_b, ↓al_b, ↓as_b, ↓al_3, ↓as_3, ↓al_12, ↓as_12, ↓al_l, ↓as_l, ↓rc_b, ↓Option.bind_some, ↓zr0_b, ↓zr1_b, ↓zrb_b, ↓pz0_b, ↓pz1_b, al_b, as_b, rc_b, gi_b, pi_b, gr_b, zr0, zr1, zrb, u_s, u_n, v_s, v_n, ↓isIn_b, ↓within_b, ite_T, ite_F, il_t, il_f, li_t, li_f, it_t, it_f, ti_t, ti_f, ie_t, ie_f, ei_t, ei_f, nn_le_t, nn_le_f, nn_lt_t, nn_lt_f, nn_eq_t, nn_eq_f, nI_1, nI_add, ni_addl, ni_ladd, pk_mul, ni_mull, b2_t, b2_f, b2_0, one0, m1_eq, ni_m1, reduceCtorEq, Bool.false_eq_true, nI_clamp, if_true, Option.some.injEq, Prod.mk.injEq, and_true, true_and, Nat.reduceAdd, Nat.reduceMul, Nat.reduceSub, Nat.reduceEqDiff, Nat.reduceLeDiff, Nat.reduceLT, eag, eq_true h0]
        exact go (x.1 + 1, nI a, nI u) rfl
      · rw [if_neg h0] at go
        simp (disch := first | assumption | with_unfolding_all exact hW.1 _ _ rfl | rfl | exact pu_okI (by first | assumption | with_unfolding_all exact hW.1 _ _ rfl) (by omega) (by omega) | exact pu_oqI (by first | assumption | with_unfolding_all exact hW.1 _ _ rfl) (by omega) (by omega) | omega | decide) only [↓reduceIte, ↓gi_b, ↓pi_b, ↓gr_b, ↓pr_b, ↓al_b, ↓as_b, ↓al_3, ↓as_3, ↓al_12, ↓as_12, ↓al_l, ↓as_l, ↓rc_b, ↓Option.bind_some, ↓zr0_b, ↓zr1_b, ↓zrb_b, ↓pz0_b, ↓pz1_b, al_b, as_b, rc_b, gi_b, pi_b, gr_b, zr0, zr1, zrb, u_s, u_n, v_s, v_n, ↓isIn_b, ↓within_b, ite_T, ite_F, il_t, il_f, li_t, li_f, it_t, it_f, ti_t, ti_f, ie_t, ie_f, ei_t, ei_f, nn_le_t, nn_le_f, nn_lt_t, nn_lt_f, nn_eq_t, nn_eq_f, nI_1, nI_add, ni_addl, ni_ladd, pk_mul, ni_mull, b2_t, b2_f, b2_0, one0, m1_eq, ni_m1, reduceCtorEq, Bool.false_eq_true, nI_clamp, if_true, Option.some.injEq, Prod.mk.injEq, and_true, true_and, Nat.reduceAdd, Nat.reduceMul, Nat.reduceSub, Nat.reduceEqDiff, Nat.reduceLeDiff, Nat.reduceLT, eag, eq_false h0]
        exact go (x.1 + 1, x.2.1, x.2.2) rfl
set_option maxHeartbeats 4000000 in
set_option maxRecDepth 100000 in
theorem m_ls76 (hZ : Z_B Z) (hi : i < znc Z) (hj : j < 4) {v : Nat} {wh : Int32} (hv : v < kn (zK Z i)) : ∀ (m a N : Nat) (I : Nat → Nat → Int32) (x : Int32 × Int32 × Int32), a + m = 41 → m < N → InvM s I P Z →
    Rn (fX9_lost_76 N (some 40) (nI i) (nI j) (nI v) wh x.1 x.2.1 x.2.2 (nI a) (pu_hp s I P J n)) fun y => ∃ I', y = (lsW wh (lsA (lsD (zK Z i) (tw (zT Z) j) (tl (zT Z)) v) m a x), pu_hp s I' P J n) ∧ RF I I' := by
  intro m
  induction m with
  | zero =>
    intro a N I x hu hN hM
    obtain ⟨N, rfl⟩ : ∃ N', N = N' + 1 := ⟨N - 1, by omega⟩
    obtain rfl : a = 41 := by omega
    show Rn (fX9_lost_76_b _ _ _ _ _ _ _ _ _ _ _) _
    unfold fX9_lost_76_b
    simp (disch := first | assumption | with_unfolding_all exact hW.1 _ _ rfl | rfl | exact pu_okI (by first | assumption | with_unfolding_all exact hW.1 _ _ rfl) (by omega) (by omega) | exact pu_oqI (by first | assumption | with_unfolding_all exact hW.1 _ _ rfl) (by omega) (by omega) | omega | decide) only [↓reduceIte, ↓gi_b, ↓pi_b, ↓gr_b, ↓pr_b, ↓al_b, ↓as_b, ↓al_3, ↓as_3, ↓al_12, ↓as_12, ↓al_l, ↓as_l, ↓rc_b, ↓Option.bind_some, ↓zr0_b, ↓zr1_b, ↓zrb_b, ↓pz0_b, ↓pz1_b, al_b, as_b, rc_b, gi_b, pi_b, gr_b, zr0, zr1, zrb, u_s, u_n, v_s, v_n, ↓isIn_b, ↓within_b, ite_T, ite_F, il_t, il_f, li_t, li_f, it_t, it_f, ti_t, ti_f, ie_t, ie_f, ei_t, ei_f, nn_le_t, nn_le_f, nn_lt_t, nn_lt_f, nn_eq_t, nn_eq_f, nI_1, nI_add, ni_addl, ni_ladd, pk_mul, ni_mull, b2_t, b2_f, b2_0, one0, m1_eq, ni_m1, reduceCtorEq, Bool.false_eq_true, nI_clamp, if_true, Option.some.injEq, Prod.mk.injEq, and_true, true_and, Nat.reduceAdd, Nat.reduceMul, Nat.reduceSub, Nat.reduceEqDiff, Nat.reduceLeDiff, Nat.reduceLT]
    show Rn _ fun y => ∃ I', y = ((if wh = 0 then x.1 else if wh = 1 then x.2.1 else x.2.2), pu_hp s I' P J n) ∧ RF I I'
    by_cases h0 : wh = 0
    · rw [if_pos h0, if_pos h0]
      exact Rn_some ⟨I, rfl, fun _ _ _ => rfl⟩
    · by_cases h1 : wh = 1
      · rw [if_neg h0, if_neg h0, if_pos h1, if_pos h1]
        exact Rn_some ⟨I, rfl, fun _ _ _ => rfl⟩
      · rw [if_neg h0, if_neg h0, if_neg h1, if_neg h1]
        exact Rn_some ⟨I, rfl, fun _ _ _ => rfl⟩
  | succ m ih =>
    intro a N I x hu hN hM
    obtain ⟨N, rfl⟩ : ∃ N', N = N' + 1 := ⟨N - 1, by omega⟩
    show Rn (fX9_lost_76_b (fX9_lost_76 N) _ _ _ _ _ _ _ _ _ _) _
    unfold fX9_lost_76_b
    simp (disch := first | assumption | with_unfolding_all exact hW.1 _ _ rfl | rfl | exact pu_okI (by first | assumption | with_unfolding_all exact hW.1 _ _ rfl) (by omega) (by omega) | exact pu_oqI (by first | assumption | with_unfolding_all exact hW.1 _ _ rfl) (by omega) (by omega) | omega | decide) only [↓reduceIte, ↓gi_b, ↓pi_b, ↓gr_b, ↓pr_b, ↓al_b, ↓as_b, ↓al_3, ↓as_3, ↓al_12, ↓as_12, ↓al_l, ↓as_l, ↓rc_b, ↓Option.bind_some, ↓zr0_b, ↓zr1_b, ↓zrb_b, ↓pz0_b, ↓pz1_b, al_b, as_b, rc_b, gi_b, pi_b, gr_b, zr0, zr1, zrb, u_s, u_n, v_s, v_n, ↓isIn_b, ↓within_b, ite_T, ite_F, il_t, il_f, li_t, li_f, it_t, it_f, ti_t, ti_f, ie_t, ie_f, ei_t, ei_f, nn_le_t, nn_le_f, nn_lt_t, nn_lt_f, nn_eq_t, nn_eq_f, nI_1, nI_add, ni_addl, ni_ladd, pk_mul, ni_mull, b2_t, b2_f, b2_0, one0, m1_eq, ni_m1, reduceCtorEq, Bool.false_eq_true, nI_clamp, if_true, Option.some.injEq, Prod.mk.injEq, and_true, true_and, Nat.reduceAdd, Nat.reduceMul, Nat.reduceSub, Nat.reduceEqDiff, Nat.reduceLeDiff, Nat.reduceLT]
    rw [show (0 : Int32) = nI 0 from rfl]
    refine m_ls86 hZ hi hj hv (by omega) 61 0 am_fu I x (by omega) (by unfold am_fu; omega) hM fun I1 g1 => ?_
    refine Rn_mono (ih (a + 1) N I1 _ (by omega) (by omega) (g1.inv hM)) ?_
    rintro _ ⟨I2, rfl, g4⟩
    exact ⟨I2, rfl, g1.tr g4⟩
end LO
set_option maxHeartbeats 4000000 in
set_option maxRecDepth 100000 in
theorem d_lost {Z : S_Z} (hZ : Z_B Z) (v1 v2 v3 v4 : Int32) : CallOK Z (fX8_lost 1 v1 v2 v3 v4) (fX9_lost 40 v1 v2 v3 v4) := by
  have hnc := hZ.1.1
  cases hit : inB v1 0 (nI (znc Z) - 1) with
  | false =>
    have hrn : rnOK Z v1 v2 (-1) = false := by unfold rnOK; rw [hit]; rfl
    refine CallOK.no hZ (-101) (fun s I P J n h => ?_) (fun s I P J n h => ?_)
    · have hW := h.1
      unfold fX8_lost
      simp (disch := first | assumption | with_unfolding_all exact hW.1 _ _ rfl | rfl | exact pu_okI (by first | assumption | with_unfolding_all exact hW.1 _ _ rfl) (by omega) (by omega) | exact pu_oqI (by first | assumption | with_unfolding_all exact hW.1 _ _ rfl) (by omega) (by omega) | omega | decide) only [↓reduceIte, ↓gi_b, ↓pi_b, ↓gr_b, ↓pr_b, ↓al_b, ↓as_b, ↓al_3, ↓as_3, ↓al_12, ↓as_12, ↓al_l, ↓as_l, ↓rc_b, ↓Option.bind_some, ↓zr0_b, ↓zr1_b, ↓zrb_b, ↓pz0_b, ↓pz1_b, al_b, as_b, rc_b, gi_b, pi_b, gr_b, zr0, zr1, zrb, u_s, u_n, v_s, v_n, ↓isIn_b, ↓within_b, ite_T, ite_F, il_t, il_f, li_t, li_f, it_t, it_f, ti_t, ti_f, ie_t, ie_f, ei_t, ei_f, nn_le_t, nn_le_f, nn_lt_t, nn_lt_f, nn_eq_t, nn_eq_f, nI_1, nI_add, ni_addl, ni_ladd, pk_mul, ni_mull, b2_t, b2_f, b2_0, one0, m1_eq, ni_m1, reduceCtorEq, Bool.false_eq_true, nI_clamp, if_true, Option.some.injEq, Prod.mk.injEq, and_true, true_and, Nat.reduceAdd, Nat.reduceMul, Nat.reduceSub, Nat.reduceEqDiff, Nat.reduceLeDiff, Nat.reduceLT, q_clockOf hZ h, hit]
    · have hW := h.1
      unfold fX9_lost
      simp (disch := first | assumption | with_unfolding_all exact hW.1 _ _ rfl | rfl | exact pu_okI (by first | assumption | with_unfolding_all exact hW.1 _ _ rfl) (by omega) (by omega) | exact pu_oqI (by first | assumption | with_unfolding_all exact hW.1 _ _ rfl) (by omega) (by omega) | omega | decide) only [↓reduceIte, ↓gi_b, ↓pi_b, ↓gr_b, ↓pr_b, ↓al_b, ↓as_b, ↓al_3, ↓as_3, ↓al_12, ↓as_12, ↓al_l, ↓as_l, ↓rc_b, ↓Option.bind_some, ↓zr0_b, ↓zr1_b, ↓zrb_b, ↓pz0_b, ↓pz1_b, al_b, as_b, rc_b, gi_b, pi_b, gr_b, zr0, zr1, zrb, u_s, u_n, v_s, v_n, ↓isIn_b, ↓within_b, ite_T, ite_F, il_t, il_f, li_t, li_f, it_t, it_f, ti_t, ti_f, ie_t, ie_f, ei_t, ei_f, nn_le_t, nn_le_f, nn_lt_t, nn_lt_f, nn_eq_t, nn_eq_f, nI_1, nI_add, ni_addl, ni_ladd, pk_mul, ni_mull, b2_t, b2_f, b2_0, one0, m1_eq, ni_m1, reduceCtorEq, Bool.false_eq_true, nI_clamp, if_true, Option.some.injEq, Prod.mk.injEq, and_true, true_and, Nat.reduceAdd, Nat.reduceMul, Nat.reduceSub, Nat.reduceEqDiff, Nat.reduceLeDiff, Nat.reduceLT, q_isRun hZ h, hrn]
  | true =>
    obtain ⟨i, hi, rfl⟩ := inB_of1 (by omega) hit
    have hK := (hZ.1.2 i hi).1
    have hkn := hK.1
    cases h2 : inB v2 0 3 with
    | false =>
      have hrn : rnOK Z (nI i) v2 (-1) = false := by unfold rnOK; rw [hit, h2]; rfl
      refine CallOK.no hZ (-101) (fun s I P J n h => ?_) (fun s I P J n h => ?_)
      · have hW := h.1
        obtain ⟨c, b1, b2, b3, b4, b5⟩ := h.2.2.2.2.2.1 i hi
        unfold fX8_lost
        simp (disch := first | assumption | with_unfolding_all exact hW.1 _ _ rfl | rfl | exact pu_okI (by first | assumption | with_unfolding_all exact hW.1 _ _ rfl) (by omega) (by omega) | exact pu_oqI (by first | assumption | with_unfolding_all exact hW.1 _ _ rfl) (by omega) (by omega) | omega | decide) only [↓reduceIte, ↓gi_b, ↓pi_b, ↓gr_b, ↓pr_b, ↓al_b, ↓as_b, ↓al_3, ↓as_3, ↓al_12, ↓as_12, ↓al_l, ↓as_l, ↓rc_b, ↓Option.bind_some, ↓zr0_b, ↓zr1_b, ↓zrb_b, ↓pz0_b, ↓pz1_b, al_b, as_b, rc_b, gi_b, pi_b, gr_b, zr0, zr1, zrb, u_s, u_n, v_s, v_n, ↓isIn_b, ↓within_b, ite_T, ite_F, il_t, il_f, li_t, li_f, it_t, it_f, ti_t, ti_f, ie_t, ie_f, ei_t, ei_f, nn_le_t, nn_le_f, nn_lt_t, nn_lt_f, nn_eq_t, nn_eq_f, nI_1, nI_add, ni_addl, ni_ladd, pk_mul, ni_mull, b2_t, b2_f, b2_0, one0, m1_eq, ni_m1, reduceCtorEq, Bool.false_eq_true, nI_clamp, if_true, Option.some.injEq, Prod.mk.injEq, and_true, true_and, Nat.reduceAdd, Nat.reduceMul, Nat.reduceSub, Nat.reduceEqDiff, Nat.reduceLeDiff, Nat.reduceLT, q_clockOf hZ h, hit, b1, ↓season_b, h2]
      · have hW := h.1
        unfold fX9_lost
        simp (disch := first | assumption | with_unfolding_all exact hW.1 _ _ rfl | rfl | exact pu_okI (by first | assumption | with_unfolding_all exact hW.1 _ _ rfl) (by omega) (by omega) | exact pu_oqI (by first | assumption | with_unfolding_all exact hW.1 _ _ rfl) (by omega) (by omega) | omega | decide) only [↓reduceIte, ↓gi_b, ↓pi_b, ↓gr_b, ↓pr_b, ↓al_b, ↓as_b, ↓al_3, ↓as_3, ↓al_12, ↓as_12, ↓al_l, ↓as_l, ↓rc_b, ↓Option.bind_some, ↓zr0_b, ↓zr1_b, ↓zrb_b, ↓pz0_b, ↓pz1_b, al_b, as_b, rc_b, gi_b, pi_b, gr_b, zr0, zr1, zrb, u_s, u_n, v_s, v_n, ↓isIn_b, ↓within_b, ite_T, ite_F, il_t, il_f, li_t, li_f, it_t, it_f, ti_t, ti_f, ie_t, ie_f, ei_t, ei_f, nn_le_t, nn_le_f, nn_lt_t, nn_lt_f, nn_eq_t, nn_eq_f, nI_1, nI_add, ni_addl, ni_ladd, pk_mul, ni_mull, b2_t, b2_f, b2_0, one0, m1_eq, ni_m1, reduceCtorEq, Bool.false_eq_true, nI_clamp, if_true, Option.some.injEq, Prod.mk.injEq, and_true, true_and, Nat.reduceAdd, Nat.reduceMul, Nat.reduceSub, Nat.reduceEqDiff, Nat.reduceLeDiff, Nat.reduceLT, q_isRun hZ h, hrn]
    | true =>
      obtain ⟨j, hj3, rfl⟩ := inB_of (hi := 3) (by omega) h2
      have hj : j < 4 := by omega
      have hrn : rnOK Z (nI i) (nI j) (-1) = true := by unfold rnOK; rw [hit, h2]; rfl
      cases h3 : inB v3 0 (nI (kn (zK Z i)) - 1) with
      | false =>
        refine CallOK.no hZ (-102) (fun s I P J n h => ?_) (fun s I P J n h => ?_)
        · have hW := h.1
          obtain ⟨c, b1, b2, b3, b4, b5⟩ := h.2.2.2.2.2.1 i hi
          have hc1 := b4.1
          unfold fX8_lost
          simp (disch := first | assumption | with_unfolding_all exact hW.1 _ _ rfl | rfl | exact pu_okI (by first | assumption | with_unfolding_all exact hW.1 _ _ rfl) (by omega) (by omega) | exact pu_oqI (by first | assumption | with_unfolding_all exact hW.1 _ _ rfl) (by omega) (by omega) | omega | decide) only [↓reduceIte, ↓gi_b, ↓pi_b, ↓gr_b, ↓pr_b, ↓al_b, ↓as_b, ↓al_3, ↓as_3, ↓al_12, ↓as_12, ↓al_l, ↓as_l, ↓rc_b, ↓Option.bind_some, ↓zr0_b, ↓zr1_b, ↓zrb_b, ↓pz0_b, ↓pz1_b, al_b, as_b, rc_b, gi_b, pi_b, gr_b, zr0, zr1, zrb, u_s, u_n, v_s, v_n, ↓isIn_b, ↓within_b, ite_T, ite_F, il_t, il_f, li_t, li_f, it_t, it_f, ti_t, ti_f, ie_t, ie_f, ei_t, ei_f, nn_le_t, nn_le_f, nn_lt_t, nn_lt_f, nn_eq_t, nn_eq_f, nI_1, nI_add, ni_addl, ni_ladd, pk_mul, ni_mull, b2_t, b2_f, b2_0, one0, m1_eq, ni_m1, reduceCtorEq, Bool.false_eq_true, nI_clamp, if_true, Option.some.injEq, Prod.mk.injEq, and_true, true_and, Nat.reduceAdd, Nat.reduceMul, Nat.reduceSub, Nat.reduceEqDiff, Nat.reduceLeDiff, Nat.reduceLT, q_clockOf hZ h, hit, b1, ↓season_b, h2, hasV_g hc1 b5.1 hkn.2, h3]
        · have hW := h.1
          have e41 := (h.2.2.2.1 i hi).1.1
          unfold fX9_lost
          simp (disch := first | assumption | with_unfolding_all exact hW.1 _ _ rfl | rfl | exact pu_okI (by first | assumption | with_unfolding_all exact hW.1 _ _ rfl) (by omega) (by omega) | exact pu_oqI (by first | assumption | with_unfolding_all exact hW.1 _ _ rfl) (by omega) (by omega) | omega | decide) only [↓reduceIte, ↓gi_b, ↓pi_b, ↓gr_b, ↓pr_b, ↓al_b, ↓as_b, ↓al_3, ↓as_3, ↓al_12, ↓as_12, ↓al_l, ↓as_l, ↓rc_b, ↓Option.bind_some, ↓zr0_b, ↓zr1_b, ↓zrb_b, ↓pz0_b, ↓pz1_b, al_b, as_b, rc_b, gi_b, pi_b, gr_b, zr0, zr1, zrb, u_s, u_n, v_s, v_n, ↓isIn_b, ↓within_b, ite_T, ite_F, il_t, il_f, li_t, li_f, it_t, it_f, ti_t, ti_f, ie_t, ie_f, ei_t, ei_f, nn_le_t, nn_le_f, nn_lt_t, nn_lt_f, nn_eq_t, nn_eq_f, nI_1, nI_add, ni_addl, ni_ladd, pk_mul, ni_mull, b2_t, b2_f, b2_0, one0, m1_eq, ni_m1, reduceCtorEq, Bool.false_eq_true, nI_clamp, if_true, Option.some.injEq, Prod.mk.injEq, and_true, true_and, Nat.reduceAdd, Nat.reduceMul, Nat.reduceSub, Nat.reduceEqDiff, Nat.reduceLeDiff, Nat.reduceLT, ↓gr40_43 hW, ↓gr40_1 hW, q_isRun hZ h, hrn, e41, h3]
      | true =>
        obtain ⟨v, hv, rfl⟩ := inB_of1 (by omega) h3
        cases h4 : inB v4 0 2 with
        | false =>
          refine CallOK.no hZ (-102) (fun s I P J n h => ?_) (fun s I P J n h => ?_)
          · have hW := h.1
            obtain ⟨c, b1, b2, b3, b4, b5⟩ := h.2.2.2.2.2.1 i hi
            have hc1 := b4.1
            unfold fX8_lost
            simp (disch := first | assumption | with_unfolding_all exact hW.1 _ _ rfl | rfl | exact pu_okI (by first | assumption | with_unfolding_all exact hW.1 _ _ rfl) (by omega) (by omega) | exact pu_oqI (by first | assumption | with_unfolding_all exact hW.1 _ _ rfl) (by omega) (by omega) | omega | decide) only [↓reduceIte, ↓gi_b, ↓pi_b, ↓gr_b, ↓pr_b, ↓al_b, ↓as_b, ↓al_3, ↓as_3, ↓al_12, ↓as_12, ↓al_l, ↓as_l, ↓rc_b, ↓Option.bind_some, ↓zr0_b, ↓zr1_b, ↓zrb_b, ↓pz0_b, ↓pz1_b, al_b, as_b, rc_b, gi_b, pi_b, gr_b, zr0, zr1, zrb, u_s, u_n, v_s, v_n, ↓isIn_b, ↓within_b, ite_T, ite_F, il_t, il_f, li_t, li_f, it_t, it_f, ti_t, ti_f, ie_t, ie_f, ei_t, ei_f, nn_le_t, nn_le_f, nn_lt_t, nn_lt_f, nn_eq_t, nn_eq_f, nI_1, nI_add, ni_addl, ni_ladd, pk_mul, ni_mull, b2_t, b2_f, b2_0, one0, m1_eq, ni_m1, reduceCtorEq, Bool.false_eq_true, nI_clamp, if_true, Option.some.injEq, Prod.mk.injEq, and_true, true_and, Nat.reduceAdd, Nat.reduceMul, Nat.reduceSub, Nat.reduceEqDiff, Nat.reduceLeDiff, Nat.reduceLT, q_clockOf hZ h, hit, b1, ↓season_b, h2, hasV_g hc1 b5.1 hkn.2, h3, h4]
          · have hW := h.1
            have e41 := (h.2.2.2.1 i hi).1.1
            unfold fX9_lost
            simp (disch := first | assumption | with_unfolding_all exact hW.1 _ _ rfl | rfl | exact pu_okI (by first | assumption | with_unfolding_all exact hW.1 _ _ rfl) (by omega) (by omega) | exact pu_oqI (by first | assumption | with_unfolding_all exact hW.1 _ _ rfl) (by omega) (by omega) | omega | decide) only [↓reduceIte, ↓gi_b, ↓pi_b, ↓gr_b, ↓pr_b, ↓al_b, ↓as_b, ↓al_3, ↓as_3, ↓al_12, ↓as_12, ↓al_l, ↓as_l, ↓rc_b, ↓Option.bind_some, ↓zr0_b, ↓zr1_b, ↓zrb_b, ↓pz0_b, ↓pz1_b, al_b, as_b, rc_b, gi_b, pi_b, gr_b, zr0, zr1, zrb, u_s, u_n, v_s, v_n, ↓isIn_b, ↓within_b, ite_T, ite_F, il_t, il_f, li_t, li_f, it_t, it_f, ti_t, ti_f, ie_t, ie_f, ei_t, ei_f, nn_le_t, nn_le_f, nn_lt_t, nn_lt_f, nn_eq_t, nn_eq_f, nI_1, nI_add, ni_addl, ni_ladd, pk_mul, ni_mull, b2_t, b2_f, b2_0, one0, m1_eq, ni_m1, reduceCtorEq, Bool.false_eq_true, nI_clamp, if_true, Option.some.injEq, Prod.mk.injEq, and_true, true_and, Nat.reduceAdd, Nat.reduceMul, Nat.reduceSub, Nat.reduceEqDiff, Nat.reduceLeDiff, Nat.reduceLT, ↓gr40_43 hW, ↓gr40_1 hW, q_isRun hZ h, hrn, e41, h3, h4]
        | true =>
          have has := hZ.2.2.2.2.2.2
          by_cases h20 : zas Z = 20
          · refine CallOK.no hZ (-103) (fun s I P J n h => ?_) (fun s I P J n h => ?_)
            · have hW := h.1
              obtain ⟨c, b1, b2, b3, b4, b5⟩ := h.2.2.2.2.2.1 i hi
              have hc1 := b4.1
              have e10 := h.2.2.1.2.2.2.2.1
              rw [h20] at e10
              unfold fX8_lost
              simp (disch := first | assumption | with_unfolding_all exact hW.1 _ _ rfl | rfl | exact pu_okI (by first | assumption | with_unfolding_all exact hW.1 _ _ rfl) (by omega) (by omega) | exact pu_oqI (by first | assumption | with_unfolding_all exact hW.1 _ _ rfl) (by omega) (by omega) | omega | decide) only [↓reduceIte, ↓gi_b, ↓pi_b, ↓gr_b, ↓pr_b, ↓al_b, ↓as_b, ↓al_3, ↓as_3, ↓al_12, ↓as_12, ↓al_l, ↓as_l, ↓rc_b, ↓Option.bind_some, ↓zr0_b, ↓zr1_b, ↓zrb_b, ↓pz0_b, ↓pz1_b, al_b, as_b, rc_b, gi_b, pi_b, gr_b, zr0, zr1, zrb, u_s, u_n, v_s, v_n, ↓isIn_b, ↓within_b, ite_T, ite_F, il_t, il_f, li_t, li_f, it_t, it_f, ti_t, ti_f, ie_t, ie_f, ei_t, ei_f, nn_le_t, nn_le_f, nn_lt_t, nn_lt_f, nn_eq_t, nn_eq_f, nI_1, nI_add, ni_addl, ni_ladd, pk_mul, ni_mull, b2_t, b2_f, b2_0, one0, m1_eq, ni_m1, reduceCtorEq, Bool.false_eq_true, nI_clamp, if_true, Option.some.injEq, Prod.mk.injEq, and_true, true_and, Nat.reduceAdd, Nat.reduceMul, Nat.reduceSub, Nat.reduceEqDiff, Nat.reduceLeDiff, Nat.reduceLT, q_clockOf hZ h, hit, b1, ↓season_b, h2, hasV_g hc1 b5.1 hkn.2, h3, h4, e10]
            · have hW := h.1
              have e41 := (h.2.2.2.1 i hi).1.1
              have e23 := h.2.1.2.2.2.2.1
              rw [h20] at e23
              unfold fX9_lost
              simp (disch := first | assumption | with_unfolding_all exact hW.1 _ _ rfl | rfl | exact pu_okI (by first | assumption | with_unfolding_all exact hW.1 _ _ rfl) (by omega) (by omega) | exact pu_oqI (by first | assumption | with_unfolding_all exact hW.1 _ _ rfl) (by omega) (by omega) | omega | decide) only [↓reduceIte, ↓gi_b, ↓pi_b, ↓gr_b, ↓pr_b, ↓al_b, ↓as_b, ↓al_3, ↓as_3, ↓al_12, ↓as_12, ↓al_l, ↓as_l, ↓rc_b, ↓Option.bind_some, ↓zr0_b, ↓zr1_b, ↓zrb_b, ↓pz0_b, ↓pz1_b, al_b, as_b, rc_b, gi_b, pi_b, gr_b, zr0, zr1, zrb, u_s, u_n, v_s, v_n, ↓isIn_b, ↓within_b, ite_T, ite_F, il_t, il_f, li_t, li_f, it_t, it_f, ti_t, ti_f, ie_t, ie_f, ei_t, ei_f, nn_le_t, nn_le_f, nn_lt_t, nn_lt_f, nn_eq_t, nn_eq_f, nI_1, nI_add, ni_addl, ni_ladd, pk_mul, ni_mull, b2_t, b2_f, b2_0, one0, m1_eq, ni_m1, reduceCtorEq, Bool.false_eq_true, nI_clamp, if_true, Option.some.injEq, Prod.mk.injEq, and_true, true_and, Nat.reduceAdd, Nat.reduceMul, Nat.reduceSub, Nat.reduceEqDiff, Nat.reduceLeDiff, Nat.reduceLT, ↓gr40_43 hW, ↓gr40_1 hW, q_isRun hZ h, hrn, e41, h3, h4, e23]
          · have hZ' := hZ.ask (by omega)
            refine ⟨lsW v4 (lsA (lsD (zK Z i) (tw (zT Z) j) (tl (zT Z)) v) 40 1 (0, -1, -1)), zsA Z (zas Z + 1), hZ', fun s I P J n h => ?_, fun s I P J n h => ?_⟩
            · have hW := h.1
              obtain ⟨c, b1, b2, b3, b4, b5⟩ := h.2.2.2.2.2.1 i hi
              have hc1 := b4.1
              have e10 := h.2.2.1.2.2.2.2.1
              have hA := h.ask
              have hnb := hK.2.2.2.2.2.1
              have ec8 : I c 8 = nI (knb (zK Z i)) := b5.2.2.2.2.1
              unfold fX8_lost fX8_seekClock
              simp (disch := first | assumption | with_unfolding_all exact hW.1 _ _ rfl | rfl | exact pu_okI (by first | assumption | with_unfolding_all exact hW.1 _ _ rfl) (by omega) (by omega) | exact pu_oqI (by first | assumption | with_unfolding_all exact hW.1 _ _ rfl) (by omega) (by omega) | omega | decide) only [↓reduceIte, ↓gi_b, ↓pi_b, ↓gr_b, ↓pr_b, ↓al_b, ↓as_b, ↓al_3, ↓as_3, ↓al_12, ↓as_12, ↓al_l, ↓as_l, ↓rc_b, ↓Option.bind_some, ↓zr0_b, ↓zr1_b, ↓zrb_b, ↓pz0_b, ↓pz1_b, al_b, as_b, rc_b, gi_b, pi_b, gr_b, zr0, zr1, zrb, u_s, u_n, v_s, v_n, ↓isIn_b, ↓within_b, ite_T, ite_F, il_t, il_f, li_t, li_f, it_t, it_f, ti_t, ti_f, ie_t, ie_f, ei_t, ei_f, nn_le_t, nn_le_f, nn_lt_t, nn_lt_f, nn_eq_t, nn_eq_f, nI_1, nI_add, ni_addl, ni_ladd, pk_mul, ni_mull, b2_t, b2_f, b2_0, one0, m1_eq, ni_m1, reduceCtorEq, Bool.false_eq_true, nI_clamp, if_true, Option.some.injEq, Prod.mk.injEq, and_true, true_and, Nat.reduceAdd, Nat.reduceMul, Nat.reduceSub, Nat.reduceEqDiff, Nat.reduceLeDiff, Nat.reduceLT, ↓gr1_17 hW, ↓gr1_7 hW, ↓gr7_2 hW, ↓gr11_2 hW, ↓gr1_11 hW, q_clockOf hZ h, hit, b1, ↓season_b, h2, hasV_g hc1 b5.1 hkn.2, h3, h4, e10, ec8]
              refine Rn_bind (c_gat hZ' hA hnb.2) ?_
              rintro _ ⟨I1, rfl, hE, f1⟩
              have f1' : SF (pu_u I 1 10 (nI (zas Z + 1))) I1 P P := ⟨fun b j hb => f1 b j (by unfold scC at hb; omega), fun _ _ _ => rfl⟩
              have hI1 := f1'.inv hA
              have b5' : C_I I1 c (zK Z i) := b5.fr fun b j q1 q2 => by rw [f1 b j (by omega), u_n (by omega)]
              simp (disch := first | assumption | with_unfolding_all exact hW.1 _ _ rfl | rfl | exact pu_okI (by first | assumption | with_unfolding_all exact hW.1 _ _ rfl) (by omega) (by omega) | exact pu_oqI (by first | assumption | with_unfolding_all exact hW.1 _ _ rfl) (by omega) (by omega) | omega | decide) only [↓reduceIte, ↓gi_b, ↓pi_b, ↓gr_b, ↓pr_b, ↓al_b, ↓as_b, ↓al_3, ↓as_3, ↓al_12, ↓as_12, ↓al_l, ↓as_l, ↓rc_b, ↓Option.bind_some, ↓zr0_b, ↓zr1_b, ↓zrb_b, ↓pz0_b, ↓pz1_b, al_b, as_b, rc_b, gi_b, pi_b, gr_b, zr0, zr1, zrb, u_s, u_n, v_s, v_n, ↓isIn_b, ↓within_b, ite_T, ite_F, il_t, il_f, li_t, li_f, it_t, it_f, ti_t, ti_f, ie_t, ie_f, ei_t, ei_f, nn_le_t, nn_le_f, nn_lt_t, nn_lt_f, nn_eq_t, nn_eq_f, nI_1, nI_add, ni_addl, ni_ladd, pk_mul, ni_mull, b2_t, b2_f, b2_0, one0, m1_eq, ni_m1, reduceCtorEq, Bool.false_eq_true, nI_clamp, if_true, Option.some.injEq, Prod.mk.injEq, and_true, true_and, Nat.reduceAdd, Nat.reduceMul, Nat.reduceSub, Nat.reduceEqDiff, Nat.reduceLeDiff, Nat.reduceLT, ↓gr1_17 hW, ↓gr1_7 hW, ↓gr7_2 hW, ↓gr11_2 hW, ↓gr1_11 hW]
              refine Rn_bind (c_copyK (CS_15 hW) b4 (by omega) hK b5') ?_
              rintro _ ⟨I2, rfl, g2, f2⟩
              have f2' : SF I1 I2 P P := ⟨fun b j hb => f2 b j (by unfold scC at hb; omega), fun _ _ _ => rfl⟩
              have hI2 := f2'.inv hI1
              have hE2 : EVk I2 (tl (zT Z)) (knb (zK Z i)) 12 := hE.fr fun b j q1 q2 => f2 b j (by omega)
              have ewm : fX8_warmthOf 1 (nI j) (pu_hp s I2 P J n) = some (nI (tw (zT Z) j), pu_hp s I2 P J n) := (q_warmOf (Z := zsA Z (zas Z + 1)) hI2 hj :)
              simp (disch := first | assumption | with_unfolding_all exact hW.1 _ _ rfl | rfl | exact pu_okI (by first | assumption | with_unfolding_all exact hW.1 _ _ rfl) (by omega) (by omega) | exact pu_oqI (by first | assumption | with_unfolding_all exact hW.1 _ _ rfl) (by omega) (by omega) | omega | decide) only [↓reduceIte, ↓gi_b, ↓pi_b, ↓gr_b, ↓pr_b, ↓al_b, ↓as_b, ↓al_3, ↓as_3, ↓al_12, ↓as_12, ↓al_l, ↓as_l, ↓rc_b, ↓Option.bind_some, ↓zr0_b, ↓zr1_b, ↓zrb_b, ↓pz0_b, ↓pz1_b, al_b, as_b, rc_b, gi_b, pi_b, gr_b, zr0, zr1, zrb, u_s, u_n, v_s, v_n, ↓isIn_b, ↓within_b, ite_T, ite_F, il_t, il_f, li_t, li_f, it_t, it_f, ti_t, ti_f, ie_t, ie_f, ei_t, ei_f, nn_le_t, nn_le_f, nn_lt_t, nn_lt_f, nn_eq_t, nn_eq_f, nI_1, nI_add, ni_addl, ni_ladd, pk_mul, ni_mull, b2_t, b2_f, b2_0, one0, m1_eq, ni_m1, reduceCtorEq, Bool.false_eq_true, nI_clamp, if_true, Option.some.injEq, Prod.mk.injEq, and_true, true_and, Nat.reduceAdd, Nat.reduceMul, Nat.reduceSub, Nat.reduceEqDiff, Nat.reduceLeDiff, Nat.reduceLT, ↓gr1_17 hW, ↓gr1_7 hW, ↓gr7_2 hW, ↓gr11_2 hW, ↓gr1_11 hW, ewm]
              have q := c_ls12 (s := s) (J := J) (n := n) (wh := v4) hZ' hi hj hv 40 1 am_fu I2 P (0, -1, -1) _ _ (by omega) (by unfold am_fu; omega) hI2 hE2 (kG_0 g2)
              refine Rn_bind q ?_
              rintro _ ⟨I3, P3, rfl, f3⟩
              have f13 := (f1'.tr f2').tr f3
              exact Rn_some (QC.re (fun b j h1 h2 => u_n (by omega)) (QC.of hA f13.1 f13.2))
            · have hW := h.1
              have e41 := (h.2.2.2.1 i hi).1.1
              have e23 := h.2.1.2.2.2.2.1
              have hA := h.ask
              unfold fX9_lost
              simp (disch := first | assumption | with_unfolding_all exact hW.1 _ _ rfl | rfl | exact pu_okI (by first | assumption | with_unfolding_all exact hW.1 _ _ rfl) (by omega) (by omega) | exact pu_oqI (by first | assumption | with_unfolding_all exact hW.1 _ _ rfl) (by omega) (by omega) | omega | decide) only [↓reduceIte, ↓gi_b, ↓pi_b, ↓gr_b, ↓pr_b, ↓al_b, ↓as_b, ↓al_3, ↓as_3, ↓al_12, ↓as_12, ↓al_l, ↓as_l, ↓rc_b, ↓Option.bind_some, ↓zr0_b, ↓zr1_b, ↓zrb_b, ↓pz0_b, ↓pz1_b, al_b, as_b, rc_b, gi_b, pi_b, gr_b, zr0, zr1, zrb, u_s, u_n, v_s, v_n, ↓isIn_b, ↓within_b, ite_T, ite_F, il_t, il_f, li_t, li_f, it_t, it_f, ti_t, ti_f, ie_t, ie_f, ei_t, ei_f, nn_le_t, nn_le_f, nn_lt_t, nn_lt_f, nn_eq_t, nn_eq_f, nI_1, nI_add, ni_addl, ni_ladd, pk_mul, ni_mull, b2_t, b2_f, b2_0, one0, m1_eq, ni_m1, reduceCtorEq, Bool.false_eq_true, nI_clamp, if_true, Option.some.injEq, Prod.mk.injEq, and_true, true_and, Nat.reduceAdd, Nat.reduceMul, Nat.reduceSub, Nat.reduceEqDiff, Nat.reduceLeDiff, Nat.reduceLT, ↓gr40_43 hW, ↓gr40_1 hW, q_isRun hZ h, hrn, e41, h3, h4, e23]
              have q := m_ls76 (s := s) (J := J) (n := n) (wh := v4) hZ' hi hj hv 40 1 am_fu _ (0, -1, -1) (by omega) (by unfold am_fu; omega) hA
              refine Rn_mono q ?_
              rintro _ ⟨I3, rfl, f3⟩
              exact QM.re (fun b j hb => u_n (by omega)) (QM.of hA f3)
