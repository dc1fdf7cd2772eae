/-! sought: the class -/
def soL (l : S_L) (K : S_K) (w f : Nat) : Bool := !impR l (knb K) 12 && agR l (xd K (0, 0, 0, 0) w) (min f (ltN l)) 0
def soE (l : S_L) (K : S_K) (w k v e f : Nat) : Bool := !impR l (knb K) 12 && agR l (xd K (k, v, e, f) w) (ltN l - f) f
theorem xd_br {K : S_K} {k v e f w u : Nat} (h : u ≤ f) : xd K (k, v, e, f) w u = xd K (0, 0, 0, 0) w u := by unfold xd; rw [at_br u h]
theorem soD_eq {K : S_K} {w k v e f : Nat} {l : S_L} (hK : S_KB K) (hF : S_FB (k, v, e, f)) (hl : ∀ b t, b < 12 → l b = some t → t ≤ 96) : soD K w l k v e f = (soL l K w f && soE l K w k v e f) := by
  unfold soD soL soE
  rw [ag_main hK hF hl]
  cases impR l (knb K) 12 with
  | true => rfl
  | false =>
    show (true && _) = ((true && _) && (true && _))
    rw [Bool.true_and, Bool.true_and, Bool.true_and, Bool.eq_iff_iff, Bool.and_eq_true, agR_iff, agR_iff, agR_iff]
    constructor
    · intro h
      refine ⟨fun u h1 h2 => ?_, fun u h1 h2 => h u (Nat.zero_le _) (by omega)⟩
      have := h u (Nat.zero_le _) (by omega)
      rw [xd_br (by omega)] at this
      exact this
    · rintro ⟨h1, h2⟩ u q1 q2
      by_cases c : u < f
      · have := h1 u (Nat.zero_le _) (by omega)
        rw [xd_br (by omega)]; exact this
      · exact h2 u (by omega) (by omega)
theorem soL_step {K : S_K} {w f : Nat} {l : S_L} : soL l K w (f + 1) = (soL l K w f && (decide (ltN l ≤ f) || alw l f (xd K (0, 0, 0, 0) w (f + 1)))) := by
  unfold soL
  cases impR l (knb K) 12 with
  | true => rfl
  | false =>
    show (true && _) = ((true && _) && _)
    rw [Bool.true_and, Bool.true_and, Bool.eq_iff_iff, Bool.and_eq_true, agR_iff, agR_iff, Bool.or_eq_true, decide_eq_true_eq]
    constructor
    · intro h
      refine ⟨fun u h1 h2 => h u h1 (by omega), ?_⟩
      by_cases c : ltN l ≤ f
      · exact Or.inl c
      · exact Or.inr (h f (Nat.zero_le _) (by omega))
    · rintro ⟨h1, h2⟩ u q1 q2
      by_cases c : u < min f (ltN l)
      · exact h1 u q1 (by omega)
      · obtain rfl : u = f := by omega
        rcases h2 with h2 | h2
        · omega
        · exact h2
theorem soL_dead {K : S_K} {w f : Nat} {l : S_L} (h : soL l K w f = false) : ∀ d, soL l K w (f + d) = false
  | 0 => h
  | d + 1 => by
    show soL l K w (f + d + 1) = false
    rw [soL_step, soL_dead h d]; rfl
def SoB (x : SoX) : Prop := ∀ y, x.2 = some y → y.1 ≤ 20 ∧ y.2.2 ≤ 20
theorem SoB.st {D : Nat → Nat → Bool} {n f : Nat} {x : SoX} (h : SoB x) (hn : n ≤ 20) : SoB (soC D n f x) := by
  obtain ⟨c, o⟩ := x
  unfold soC
  cases D n f with
  | false => rw [if_neg (by decide)]; exact h
  | true =>
    rw [if_pos rfl]
    cases o with
    | none => intro y hy; cases hy; exact ⟨hn, hn⟩
    | some y =>
      have := h y rfl
      intro z hz
      have hz' : (if y.1 ≤ n then some (y.1, y.2.1, max y.2.2 n) else some (n, f, max y.2.2 n)) = some z := hz
      by_cases q : y.1 ≤ n
      · rw [if_pos q] at hz'
        cases hz'
        exact ⟨this.1, by show max y.2.2 n ≤ 20; omega⟩
      · rw [if_neg q] at hz'
        cases hz'
        exact ⟨hn, by show max y.2.2 n ≤ 20; omega⟩
section SQ
variable {s : Nat → Option pu_S} {I : Nat → Nat → Int32} {P : Nat → Nat → Option Nat} {J : Nat → Nat → Int64} {n : Nat × Nat}
variable {Z : S_Z} {i j : Nat}
set_option maxHeartbeats 4000000 in
set_option maxRecDepth 100000 in
theorem r_branch (h : InvC s I P n Z) {K : S_K} {F0 F : S_F} {w t c f0 : Nat} (hR : RunR s K F0 w t I P 23 c f0) (hkn : kn K ≤ 3) (hFI : F_I I 22 F) : Rn (fX5_branchFrom 26 (some 23) (some 22) (pu_hp s I P J n)) fun y => ∃ I' P', y = pu_hp s I' P' J n ∧ (∀ a k, ¬ (a = 26 ∧ k ≤ 1) → P' a k = P a k) ∧ R_F 26 I I' ∧ R_S s P' 26 c 22 ∧ C_S s P' c ∧ C_I I' c K ∧ F_I I' 22 F ∧ R_I I' 26 w t K (S_at K F0 w true t) := by
  have hW := h.1
  obtain ⟨h4, h5, h6, h7, h8⟩ := hR
  obtain ⟨r1, r2, r3, r4, r5, r6, r7, r8, r9, r10⟩ := id h4
  have hc1 := h5.1
  have hcs := shp_c hW hc1
  have s22 : s 22 = some (0, 2, 0) := hW.1 22 _ rfl
  unfold fX5_branchFrom
  simp (disch := first | assumption | with_unfolding_all exact hW.1 _ _ rfl | rfl | exact pu_okI (by first | assumption | with_unfolding_all exact hW.1 _ _ rfl) (by omega) (by omega) | exact pu_oqI (by first | assumption | with_unfolding_all exact hW.1 _ _ rfl) (by omega) (by omega) | omega | decide) only [↓reduceIte, ↓gi_b, ↓pi_b, ↓gr_b, ↓pr_b, ↓al_b, ↓as_b, ↓al_3, ↓as_3, ↓al_12, ↓as_12, ↓al_l, ↓as_l, ↓rc_b, ↓Option.bind_some, ↓zr0_b, ↓zr1_b, ↓zrb_b, ↓pz0_b, ↓pz1_b, al_b, as_b, rc_b, gi_b, pi_b, gr_b, zr0, zr1, zrb, u_s, u_n, v_s, v_n, ↓isIn_b, ↓within_b, ite_T, ite_F, il_t, il_f, li_t, li_f, it_t, it_f, ti_t, ti_f, ie_t, ie_f, ei_t, ei_f, nn_le_t, nn_le_f, nn_lt_t, nn_lt_f, nn_eq_t, nn_eq_f, nI_1, nI_add, ni_addl, ni_ladd, pk_mul, ni_mull, b2_t, b2_f, b2_0, one0, m1_eq, ni_m1, reduceCtorEq, Bool.false_eq_true, nI_clamp, if_true, Option.some.injEq, Prod.mk.injEq, and_true, true_and, Nat.reduceAdd, Nat.reduceMul, Nat.reduceSub, Nat.reduceEqDiff, Nat.reduceLeDiff, Nat.reduceLT, ↓gr_h r1 r6 rfl]
  rw [show (0 : Int32) = nI 0 from rfl]
  generalize hP2 : pu_v (pu_v P 26 0 (some c)) 26 1 (some 22) = P2
  have fp : ∀ a k, ¬ (a = 26 ∧ k ≤ 1) → P2 a k = P a k := fun a k q => by rw [← hP2, v_n (by omega), v_n (by omega)]
  have hW2 : pu_W s P2 := (SF.inv (I' := I) ⟨fun _ _ _ => rfl, fun a k q => fp a k (by unfold scP at q; omega)⟩ h).1
  generalize hI1 : pu_u (pu_u I 26 2 (I 23 2)) 26 3 (I 23 3) = I1
  have fr : ∀ b j, ¬ (b = 26) → I1 b j = I b j := fun b j hb => by rw [← hI1, u_n (by omega), u_n (by omega)]
  refine Rn_mono (r_br31 hW2 3 0 am_fu I1 (by omega) (by unfold am_fu; omega) (fun b hb => by omega)) ?_
  rintro _ ⟨I', rfl, a1, a2, ⟨b1, b2', b3, b4, b5, b6, b7, b8⟩, a4⟩
  have fr2 : R_F 26 I I' := fun b j hb => by rw [a4 b j (by omega) (by omega), fr b j (by omega)]
  refine ⟨I', P2, rfl, fp, fr2, ⟨hW2.1 _ _ rfl, hW2.1 _ _ rfl, hW2.1 _ _ rfl, hW2.2 _ _ _ rfl, hW2.2 _ _ _ rfl, ?_, ?_, s22, by omega, by omega⟩, h5.fr fun k => fp c k (by omega), h6.fr fun b j q1 q2 => fr2 b j (by omega), hFI.fr fun j => fr2 22 j (by omega), ?_⟩
  · rw [← hP2, v_n (by omega), v_s]
  · rw [← hP2, v_s]
  · obtain ⟨g1, g2, g3, g4, g5, g6, g7, g8, g9, g10, g11, g12⟩ := h8
    refine ⟨?_, ?_, by rw [b1, fr _ _ (by omega), g3], by rw [b2', fr _ _ (by omega), g4], by rw [b3, fr _ _ (by omega), g5], by rw [b4, fr _ _ (by omega), g6], by rw [b5, fr _ _ (by omega), g7], by rw [b6, fr _ _ (by omega), g8], by rw [b7, fr _ _ (by omega), g9], by rw [b8, fr _ _ (by omega), g10], fun v hv => ?_, fun b hb => ?_⟩
    · rw [a4 _ _ (by omega) (by omega), ← hI1, u_n (by omega), u_s, g1]
    · rw [a4 _ _ (by omega) (by omega), ← hI1, u_s, g2]
    · show I' 27 v = _
      rw [a1 v (by omega), fr _ _ (by omega)]; exact g11 v hv
    · show I' 28 b = _
      rw [a2 b hb, fr _ _ (by omega)]; exact g12 b hb
theorem RunR.br {K : S_K} {F : S_F} {w t c : Nat} {I' : Nat → Nat → Int32} {P' : Nat → Nat → Option Nat} (h : RunR s K F w t I P 23 c 21) (hc : 78 ≤ c) (hf : ∀ b j, ¬ b = 22 → ¬ (26 ≤ b ∧ b ≤ 28) → I' b j = I b j) (hp : ∀ a k, ¬ (a = 26 ∧ k ≤ 1) → P' a k = P a k) : RunR s K F w t I' P' 23 c 21 := by
  obtain ⟨⟨r1, r2, r3, r4, r5, r6, r7, r8, r9, r10⟩, h5, h6, h7, h8⟩ := h
  obtain ⟨a1, a2, a3, a4, a5, a6, a7, a8, a9, a10, a11, a12⟩ := h8
  exact ⟨⟨r1, r2, r3, by rw [hp _ _ (by omega), r4], by rw [hp _ _ (by omega), r5], by rw [hp _ _ (by omega), r6], by rw [hp _ _ (by omega), r7], r8, r9, r10⟩, h5.fr fun k => hp c k (by omega), h6.fr fun b j q1 q2 => hf b j (by omega) (by omega), h7.fr fun j => hf 21 j (by omega) (by omega), by rw [hf _ _ (by omega) (by omega), a1], by rw [hf _ _ (by omega) (by omega), a2], by rw [hf _ _ (by omega) (by omega), a3], by rw [hf _ _ (by omega) (by omega), a4], by rw [hf _ _ (by omega) (by omega), a5], by rw [hf _ _ (by omega) (by omega), a6], by rw [hf _ _ (by omega) (by omega), a7], by rw [hf _ _ (by omega) (by omega), a8], by rw [hf _ _ (by omega) (by omega), a9], by rw [hf _ _ (by omega) (by omega), a10], fun v hv => by rw [hf _ _ (by omega) (by omega), a11 v hv], fun b hb => by rw [hf _ _ (by omega) (by omega), a12 b hb]⟩
set_option maxHeartbeats 4000000 in
set_option maxRecDepth 100000 in
theorem c_so47 (hZ : Z_B Z) (hi : i < znc Z) (hj : j < 4) {k v f c : Nat} (hc78 : 78 ≤ c) {wh : Int32} (hk : k ≤ 4) (hv : v ≤ 2) (hf : f < 96) (hal : soL (tl (zT Z)) (zK Z i) (tw (zT Z) j) f = true) {k32 : Option Nat → Int32 → Int32 → Int32 → Int32 → Int32 → Int32 → Int32 → Int32 → Int32 → am_H → Option (Int32 × am_H)} {Q : Int32 × am_H → Prop} : ∀ (m e N : Nat) (I : Nat → Nat → Int32) (P : Nat → Nat → Option Nat) (x : SoX), e + m = 21 → 1 ≤ e → m < N → InvC s I P n Z → EVk I (tl (zT Z)) (knb (zK Z i)) 12 → RunR s (zK Z i) (0, 0, 0, 0) (tw (zT Z) j) f I P 23 c 21 → SoB x →
    (∀ I' P' y, y = soCi (soD (zK Z i) (tw (zT Z) j) (tl (zT Z)) k v) f m e x → SF I I' P P' → EVk I' (tl (zT Z)) (knb (zK Z i)) 12 → RunR s (zK Z i) (0, 0, 0, 0) (tw (zT Z) j) (f + 1) I' P' 23 c 21 → SoB y → Rn (k32 (some 1) (nI k) (nI v) wh (nI y.1) (oa y.2) (ob y.2) (oc y.2) (b2 (soL (tl (zT Z)) (zK Z i) (tw (zT Z) j) (f + 1))) (nI (f + 1)) (pu_hp s I' P' J n)) Q) →
    Rn (fX8_seekFault_47 k32 N (some 1) (nI k) (nI v) wh (nI x.1) (oa x.2) (ob x.2) (oc x.2) (nI f) (nI e) (pu_hp s I P J n)) Q := by
  have hK := (hZ.1.2 i hi).1
  have hw := (hZ.2.2.2.1.1 j hj).1
  have hl := hZ.2.2.2.1.2.1
  have hF0 : S_FB (0, 0, 0, 0) := ⟨Nat.zero_le _, Nat.zero_le _, Nat.zero_le _, Nat.zero_le _⟩
  intro m
  induction m with
  | zero =>
    intro e N I P x he he1 hN hI hE hR hB kk
    obtain ⟨N, rfl⟩ : ∃ N', N = N' + 1 := ⟨N - 1, by omega⟩
    obtain rfl : e = 21 := by omega
    have hW := hI.1
    show Rn (fX8_seekFault_47_b _ _ _ _ _ _ _ _ _ _ _ _ _) _
    unfold fX8_seekFault_47_b fX8_seekFault_170 fX8_seekFault_175
    obtain ⟨h4, h5, h6, h7, h8⟩ := hR
    have r1 := h4.1
    simp (disch := first | assumption | with_unfolding_all exact hW.1 _ _ rfl | rfl | exact pu_okI (by first | assumption | with_unfolding_all exact hW.1 _ _ rfl) (by omega) (by omega) | exact pu_oqI (by first | assumption | with_unfolding_all exact hW.1 _ _ rfl) (by omega) (by omega) | omega | decide) only [↓reduceIte, ↓gi_b, ↓pi_b, ↓gr_b, ↓pr_b, ↓al_b, ↓as_b, ↓al_3, ↓as_3, ↓al_12, ↓as_12, ↓al_l, ↓as_l, ↓rc_b, ↓Option.bind_some, ↓zr0_b, ↓zr1_b, ↓zrb_b, ↓pz0_b, ↓pz1_b, al_b, as_b, rc_b, gi_b, pi_b, gr_b, zr0, zr1, zrb, u_s, u_n, v_s, v_n, ↓isIn_b, ↓within_b, ite_T, ite_F, il_t, il_f, li_t, li_f, it_t, it_f, ti_t, ti_f, ie_t, ie_f, ei_t, ei_f, nn_le_t, nn_le_f, nn_lt_t, nn_lt_f, nn_eq_t, nn_eq_f, nI_1, nI_add, ni_addl, ni_ladd, pk_mul, ni_mull, b2_t, b2_f, b2_0, one0, m1_eq, ni_m1, reduceCtorEq, Bool.false_eq_true, nI_clamp, if_true, Option.some.injEq, Prod.mk.injEq, and_true, true_and, Nat.reduceAdd, Nat.reduceMul, Nat.reduceSub, Nat.reduceEqDiff, Nat.reduceLeDiff, Nat.reduceLT, ↓gr1_14 hW, ↓gr1_17 hW, ↓gr1_13 hW, ↓gr1_15 hW]
    refine Rn_bind (r_advance h4 h5 hK hF0 hf hw h6 h7 (S_at_b hK hF0 f) h8) ?_
    rintro _ ⟨I1, rfl, f1, g1⟩
    have f1' : SF I I1 P P := ⟨fun b j hb => f1 b j (by unfold scC at hb; omega), fun _ _ _ => rfl⟩
    have hI1 := f1'.inv hI
    have hE1 : EVk I1 (tl (zT Z)) (knb (zK Z i)) 12 := hE.fr fun b j q1 q2 => f1 b j (by omega)
    have hR1 : RunR s (zK Z i) (0, 0, 0, 0) (tw (zT Z) j) (f + 1) I1 P 23 c 21 := ⟨h4, h5, f1.c h6 h4.2.2.2.2.2.2.2.2.1, f1.f h7 h4.2.2.2.2.2.2.2.2.2, g1⟩
    have e2 := hE1.2.1
    have e10 : I1 23 10 = nI (xd (zK Z i) (0, 0, 0, 0) (tw (zT Z) j) (f + 1)) := g1.2.2.2.2.2.2.2.1
    have hstep := soL_step (K := zK Z i) (w := tw (zT Z) j) (f := f) (l := tl (zT Z))
    rw [hal, Bool.true_and] at hstep
    by_cases hlt : ltN (tl (zT Z)) ≤ f
    · have elt : (oI (ltR (tl (zT Z)) 12) < nI f) = True := by
        cases e : ltR (tl (zT Z)) 12 with
        | none => exact eq_true (Int32.lt_of_lt_of_le (by decide : (-1 : Int32) < 0) (nI_pos' (by omega)))
        | some y =>
          have hN2 : ltN (tl (zT Z)) = y + 1 := by unfold ltN; rw [e]
          rw [show oI (some y) = nI y from rfl, ni_lt (by omega) (by omega)]
          exact eq_true (by omega)
      rw [decide_eq_true hlt, Bool.true_or] at hstep
      simp (disch := first | assumption | with_unfolding_all exact hW.1 _ _ rfl | rfl | exact pu_okI (by first | assumption | with_unfolding_all exact hW.1 _ _ rfl) (by omega) (by omega) | exact pu_oqI (by first | assumption | with_unfolding_all exact hW.1 _ _ rfl) (by omega) (by omega) | omega | decide) only [↓reduceIte, ↓gi_b, ↓pi_b, ↓gr_b, ↓pr_b, ↓al_b, ↓as_b, ↓al_3, ↓as_3, ↓al_12, ↓as_12, ↓al_l, ↓as_l, ↓rc_b, ↓Option.bind_some, ↓zr0_b, ↓zr1_b, ↓zrb_b, ↓pz0_b, ↓pz1_b, al_b, as_b, rc_b, gi_b, pi_b, gr_b, zr0, zr1, zrb, u_s, u_n, v_s, v_n, ↓isIn_b, ↓within_b, ite_T, ite_F, il_t, il_f, li_t, li_f, it_t, it_f, ti_t, ti_f, ie_t, ie_f, ei_t, ei_f, nn_le_t, nn_le_f, nn_lt_t, nn_lt_f, nn_eq_t, nn_eq_f, nI_1, nI_add, ni_addl, ni_ladd, pk_mul, ni_mull, b2_t, b2_f, b2_0, one0, m1_eq, ni_m1, reduceCtorEq, Bool.false_eq_true, nI_clamp, if_true, Option.some.injEq, Prod.mk.injEq, and_true, true_and, Nat.reduceAdd, Nat.reduceMul, Nat.reduceSub, Nat.reduceEqDiff, Nat.reduceLeDiff, Nat.reduceLT, ↓gr1_14 hW, ↓gr1_17 hW, ↓gr1_13 hW, ↓gr1_15 hW, e2, elt]
      have q := kk I1 P x rfl f1' hE1 hR1 hB
      rw [hstep] at q
      exact q
    · have elt : (oI (ltR (tl (zT Z)) 12) < nI f) = False := by
        cases e : ltR (tl (zT Z)) 12 with
        | none =>
          have hN2 : ltN (tl (zT Z)) = 0 := by unfold ltN; rw [e]
          omega
        | some y =>
          have hN2 : ltN (tl (zT Z)) = y + 1 := by unfold ltN; rw [e]
          have := ltR_le 12 y e
          rw [show oI (some y) = nI y from rfl, ni_lt (by omega) (by omega)]
          exact eq_false (by omega)
      rw [decide_eq_false hlt, Bool.false_or] at hstep
      have hall := c_allows (J := J) (n := n) hW hE1 hf (xd_le (K := zK Z i) (F := (0, 0, 0, 0)) (w := tw (zT Z) j) (t := f + 1) hK hF0)
      have q := kk I1 P x rfl f1' hE1 hR1 hB
      rw [hstep] at q
      cases ea : alw (tl (zT Z)) f (xd (zK Z i) (0, 0, 0, 0) (tw (zT Z) j) (f + 1)) with
      | false =>
        rw [ea] at hall q
        simp (disch := first | assumption | with_unfolding_all exact hW.1 _ _ rfl | rfl | exact pu_okI (by first | assumption | with_unfolding_all exact hW.1 _ _ rfl) (by omega) (by omega) | exact pu_oqI (by first | assumption | with_unfolding_all exact hW.1 _ _ rfl) (by omega) (by omega) | omega | decide) only [↓reduceIte, ↓gi_b, ↓pi_b, ↓gr_b, ↓pr_b, ↓al_b, ↓as_b, ↓al_3, ↓as_3, ↓al_12, ↓as_12, ↓al_l, ↓as_l, ↓rc_b, ↓Option.bind_some, ↓zr0_b, ↓zr1_b, ↓zrb_b, ↓pz0_b, ↓pz1_b, al_b, as_b, rc_b, gi_b, pi_b, gr_b, zr0, zr1, zrb, u_s, u_n, v_s, v_n, ↓isIn_b, ↓within_b, ite_T, ite_F, il_t, il_f, li_t, li_f, it_t, it_f, ti_t, ti_f, ie_t, ie_f, ei_t, ei_f, nn_le_t, nn_le_f, nn_lt_t, nn_lt_f, nn_eq_t, nn_eq_f, nI_1, nI_add, ni_addl, ni_ladd, pk_mul, ni_mull, b2_t, b2_f, b2_0, one0, m1_eq, ni_m1, reduceCtorEq, Bool.false_eq_true, nI_clamp, if_true, Option.some.injEq, Prod.mk.injEq, and_true, true_and, Nat.reduceAdd, Nat.reduceMul, Nat.reduceSub, Nat.reduceEqDiff, Nat.reduceLeDiff, Nat.reduceLT, ↓gr1_14 hW, ↓gr1_17 hW, ↓gr1_13 hW, ↓gr1_15 hW, e2, elt, e10, hall]
        exact q
      | true =>
        rw [ea] at hall q
        simp (disch := first | assumption | with_unfolding_all exact hW.1 _ _ rfl | rfl | exact pu_okI (by first | assumption | with_unfolding_all exact hW.1 _ _ rfl) (by omega) (by omega) | exact pu_oqI (by first | assumption | with_unfolding_all exact hW.1 _ _ rfl) (by omega) (by omega) | omega | decide) only [↓reduceIte, ↓gi_b, ↓pi_b, ↓gr_b, ↓pr_b, ↓al_b, ↓as_b, ↓al_3, ↓as_3, ↓al_12, ↓as_12, ↓al_l, ↓as_l, ↓rc_b, ↓Option.bind_some, ↓zr0_b, ↓zr1_b, ↓zrb_b, ↓pz0_b, ↓pz1_b, al_b, as_b, rc_b, gi_b, pi_b, gr_b, zr0, zr1, zrb, u_s, u_n, v_s, v_n, ↓isIn_b, ↓within_b, ite_T, ite_F, il_t, il_f, li_t, li_f, it_t, it_f, ti_t, ti_f, ie_t, ie_f, ei_t, ei_f, nn_le_t, nn_le_f, nn_lt_t, nn_lt_f, nn_eq_t, nn_eq_f, nI_1, nI_add, ni_addl, ni_ladd, pk_mul, ni_mull, b2_t, b2_f, b2_0, one0, m1_eq, ni_m1, reduceCtorEq, Bool.false_eq_true, nI_clamp, if_true, Option.some.injEq, Prod.mk.injEq, and_true, true_and, Nat.reduceAdd, Nat.reduceMul, Nat.reduceSub, Nat.reduceEqDiff, Nat.reduceLeDiff, Nat.reduceLT, ↓gr1_14 hW, ↓gr1_17 hW, ↓gr1_13 hW, ↓gr1_15 hW, e2, elt, e10, hall]
        exact q
  | succ m ih =>
    intro e N I P x he he1 hN hI hE hR hB kk
    obtain ⟨N, rfl⟩ : ∃ N', N = N' + 1 := ⟨N - 1, by omega⟩
    have hW := hI.1
    have hF : S_FB (k, v, e, f) := ⟨hk, hv, (by omega : e ≤ 20), (by omega : f ≤ 95)⟩
    show Rn (fX8_seekFault_47_b k32 (fX8_seekFault_47 k32 N) _ _ _ _ _ _ _ _ _ _ _) _
    unfold fX8_seekFault_47_b fX8_seekFault_126 fX8_seekFault_118 fX2_become
    simp (disch := first | assumption | with_unfolding_all exact hW.1 _ _ rfl | rfl | exact pu_okI (by first | assumption | with_unfolding_all exact hW.1 _ _ rfl) (by omega) (by omega) | exact pu_oqI (by first | assumption | with_unfolding_all exact hW.1 _ _ rfl) (by omega) (by omega) | omega | decide) only [↓reduceIte, ↓gi_b, ↓pi_b, ↓gr_b, ↓pr_b, ↓al_b, ↓as_b, ↓al_3, ↓as_3, ↓al_12, ↓as_12, ↓al_l, ↓as_l, ↓rc_b, ↓Option.bind_some, ↓zr0_b, ↓zr1_b, ↓zrb_b, ↓pz0_b, ↓pz1_b, al_b, as_b, rc_b, gi_b, pi_b, gr_b, zr0, zr1, zrb, u_s, u_n, v_s, v_n, ↓isIn_b, ↓within_b, ite_T, ite_F, il_t, il_f, li_t, li_f, it_t, it_f, ti_t, ti_f, ie_t, ie_f, ei_t, ei_f, nn_le_t, nn_le_f, nn_lt_t, nn_lt_f, nn_eq_t, nn_eq_f, nI_1, nI_add, ni_addl, ni_ladd, pk_mul, ni_mull, b2_t, b2_f, b2_0, one0, m1_eq, ni_m1, reduceCtorEq, Bool.false_eq_true, nI_clamp, if_true, Option.some.injEq, Prod.mk.injEq, and_true, true_and, Nat.reduceAdd, Nat.reduceMul, Nat.reduceSub, Nat.reduceEqDiff, Nat.reduceLeDiff, Nat.reduceLT, ↓gr1_14 hW, ↓gr1_17 hW, ↓gr1_13 hW, ↓gr1_15 hW]
    generalize hI1 : pu_u (pu_u (pu_u (pu_u I 22 0 (nI k)) 22 1 (nI v)) 22 2 (nI e)) 22 3 (nI f) = I1
    have fr : ∀ b j, ¬ b = 22 → I1 b j = I b j := fun b j hb => by rw [← hI1, u_n (by omega), u_n (by omega), u_n (by omega), u_n (by omega)]
    have hFI : F_I I1 22 (k, v, e, f) := ⟨by rw [← hI1, u_n (by omega), u_n (by omega), u_n (by omega), u_s], by rw [← hI1, u_n (by omega), u_n (by omega), u_s], by rw [← hI1, u_n (by omega), u_s], by rw [← hI1, u_s]⟩
    have f1' : SF I I1 P P := ⟨fun b j hb => fr b j (by unfold scC at hb; omega), fun _ _ _ => rfl⟩
    have hI1 := f1'.inv hI
    have hR1 := hR.br (I' := I1) (P' := P) hc78 (fun b j q1 q2 => fr b j q1) (fun _ _ _ => rfl)
    refine Rn_bind (r_branch (F := (k, v, e, f)) hI1 hR1 hK.1.2 hFI) ?_
    rintro _ ⟨I2, P2, rfl, fp, f2, t1, t2, t3, t4, t5⟩
    have f2' : SF I1 I2 P P2 := ⟨fun b j hb => f2 b j (by unfold scC at hb; omega), fun a k q => fp a k (by unfold scP at q; omega)⟩
    have hI2 := f2'.inv hI1
    have hW := hI2.1
    have hE2 : EVk I2 (tl (zT Z)) (knb (zK Z i)) 12 := hE.fr fun b j q1 q2 => by rw [f2 b j (by omega), fr b j (by omega)]
    have hRt : RunR s (zK Z i) (k, v, e, f) (tw (zT Z) j) f I2 P2 26 c 22 := ⟨t1, t2, t3, t4, by rw [at_br f (Nat.le_refl f)]; exact t5⟩
    simp (disch := first | assumption | with_unfolding_all exact hW.1 _ _ rfl | rfl | exact pu_okI (by first | assumption | with_unfolding_all exact hW.1 _ _ rfl) (by omega) (by omega) | exact pu_oqI (by first | assumption | with_unfolding_all exact hW.1 _ _ rfl) (by omega) (by omega) | omega | decide) only [↓reduceIte, ↓gi_b, ↓pi_b, ↓gr_b, ↓pr_b, ↓al_b, ↓as_b, ↓al_3, ↓as_3, ↓al_12, ↓as_12, ↓al_l, ↓as_l, ↓rc_b, ↓Option.bind_some, ↓zr0_b, ↓zr1_b, ↓zrb_b, ↓pz0_b, ↓pz1_b, al_b, as_b, rc_b, gi_b, pi_b, gr_b, zr0, zr1, zrb, u_s, u_n, v_s, v_n, ↓isIn_b, ↓within_b, ite_T, ite_F, il_t, il_f, li_t, li_f, it_t, it_f, ti_t, ti_f, ie_t, ie_f, ei_t, ei_f, nn_le_t, nn_le_f, nn_lt_t, nn_lt_f, nn_eq_t, nn_eq_f, nI_1, nI_add, ni_addl, ni_ladd, pk_mul, ni_mull, b2_t, b2_f, b2_0, one0, m1_eq, ni_m1, reduceCtorEq, Bool.false_eq_true, nI_clamp, if_true, Option.some.injEq, Prod.mk.injEq, and_true, true_and, Nat.reduceAdd, Nat.reduceMul, Nat.reduceSub, Nat.reduceEqDiff, Nat.reduceLeDiff, Nat.reduceLT, ↓gr1_14 hW, ↓gr1_17 hW, ↓gr1_13 hW, ↓gr1_15 hW]
    refine Rn_bind (c_agrees (t := f) hW hK hF hw (by omega) (by omega) hE2 hRt) ?_
    rintro _ ⟨I3, rfl, f3⟩
    have f3' : SF I2 I3 P2 P2 := ⟨fun b j hb => f3 b j (by unfold scC at hb; omega), fun _ _ _ => rfl⟩
    have hI3 := f3'.inv hI2
    have hW := hI3.1
    have hE3 : EVk I3 (tl (zT Z)) (knb (zK Z i)) 12 := hE2.fr fun b j q1 q2 => f3 b j (by omega)
    have hR3 := hR.br (I' := I3) (P' := P2) hc78 (fun b j q1 q2 => by rw [f3 b j (by omega), f2 b j (by omega), fr b j q1]) fp
    have f03 := (f1'.tr f2').tr f3'
    have eD := soD_eq (w := tw (zT Z) j) hK hF hl
    rw [hal, Bool.true_and] at eD
    rw [show (!impR (tl (zT Z)) (knb (zK Z i)) 12 && agR (tl (zT Z)) (xd (zK Z i) (k, v, e, f) (tw (zT Z) j)) (ltN (tl (zT Z)) - f) f) = soE (tl (zT Z)) (zK Z i) (tw (zT Z) j) k v e f from rfl, ← eD]
    have go : ∀ y, y = soC (soD (zK Z i) (tw (zT Z) j) (tl (zT Z)) k v) e f x → Rn (fX8_seekFault_47 k32 N (some 1) (nI k) (nI v) wh (nI y.1) (oa y.2) (ob y.2) (oc y.2) (nI f) (nI (e + 1)) (pu_hp s I3 P2 J n)) Q := by
      rintro _ rfl
      exact ih (e + 1) N I3 P2 _ (by omega) (by omega) (by omega) hI3 hE3 hR3 (hB.st (by omega)) fun I' P' y hy g1 g2 g3 g4 => kk I' P' y hy (f03.tr g1) g2 g3 g4
    cases eB : soD (zK Z i) (tw (zT Z) j) (tl (zT Z)) k v e f with
    | false =>
      unfold soC at go
      rw [eB, if_neg (by decide)] at go
      simp (disch := first | assumption | with_unfolding_all exact hW.1 _ _ rfl | rfl | exact pu_okI (by first | assumption | with_unfolding_all exact hW.1 _ _ rfl) (by omega) (by omega) | exact pu_oqI (by first | assumption | with_unfolding_all exact hW.1 _ _ rfl) (by omega) (by omega) | omega | decide) only [↓reduceIte, ↓gi_b, ↓pi_b, ↓gr_b, ↓pr_b, ↓al_b, ↓as_b, ↓al_3, ↓as_3, ↓al_12, ↓as_12, ↓al_l, ↓as_l, ↓rc_b, ↓Option.bind_some, ↓zr0_b, ↓zr1_b, ↓zrb_b, ↓pz0_b, ↓pz1_b, al_b, as_b, rc_b, gi_b, pi_b, gr_b, zr0, zr1, zrb, u_s, u_n, v_s, v_n, ↓isIn_b, ↓within_b, ite_T, ite_F, il_t, il_f, li_t, li_f, it_t, it_f, ti_t, ti_f, ie_t, ie_f, ei_t, ei_f, nn_le_t, nn_le_f, nn_lt_t, nn_lt_f, nn_eq_t, nn_eq_f, nI_1, nI_add, ni_addl, ni_ladd, pk_mul, ni_mull, b2_t, b2_f, b2_0, one0, m1_eq, ni_m1, reduceCtorEq, Bool.false_eq_true, nI_clamp, if_true, Option.some.injEq, Prod.mk.injEq, and_true, true_and, Nat.reduceAdd, Nat.reduceMul, Nat.reduceSub, Nat.reduceEqDiff, Nat.reduceLeDiff, Nat.reduceLT]
      exact go _ rfl
    | true =>
      obtain ⟨cc, o⟩ := x
      have hm1 : ((-1 : Int32) < nI e) = True := eq_true (Int32.lt_of_lt_of_le (by decide : (-1 : Int32) < 0) (nI_pos' (by omega)))
      cases o with
      | none =>
        simp (disch := first | assumption | with_unfolding_all exact hW.1 _ _ rfl | rfl | exact pu_okI (by first | assumption | with_unfolding_all exact hW.1 _ _ rfl) (by omega) (by omega) | exact pu_oqI (by first | assumption | with_unfolding_all exact hW.1 _ _ rfl) (by omega) (by omega) | omega | decide) only [↓reduceIte, ↓gi_b, ↓pi_b, ↓gr_b, ↓pr_b, ↓al_b, ↓as_b, ↓al_3, ↓as_3, ↓al_12, ↓as_12, ↓al_l, ↓as_l, ↓rc_b, ↓Option.bind_some, ↓zr0_b, ↓zr1_b, ↓zrb_b, ↓pz0_b, ↓pz1_b, al_b, as_b, rc_b, gi_b, pi_b, gr_b, zr0, zr1, zrb, u_s, u_n, v_s, v_n, ↓isIn_b, ↓within_b, ite_T, ite_F, il_t, il_f, li_t, li_f, it_t, it_f, ti_t, ti_f, ie_t, ie_f, ei_t, ei_f, nn_le_t, nn_le_f, nn_lt_t, nn_lt_f, nn_eq_t, nn_eq_f, nI_1, nI_add, ni_addl, ni_ladd, pk_mul, ni_mull, b2_t, b2_f, b2_0, one0, m1_eq, ni_m1, reduceCtorEq, Bool.false_eq_true, nI_clamp, if_true, Option.some.injEq, Prod.mk.injEq, and_true, true_and, Nat.reduceAdd, Nat.reduceMul, Nat.reduceSub, Nat.reduceEqDiff, Nat.reduceLeDiff, Nat.reduceLT, oa, ob, oc, hm1]
        exact go (cc + 1, some (e, f, e)) (by unfold soC; rw [eB, if_pos rfl])
      | some y =>
        have hb := hB y rfl
        by_cases q : y.1 ≤ e
        · by_cases q2 : y.2.2 < e
          · simp (disch := first | assumption | with_unfolding_all exact hW.1 _ _ rfl | rfl | exact pu_okI (by first | assumption | with_unfolding_all exact hW.1 _ _ rfl) (by omega) (by omega) | exact pu_oqI (by first | assumption | with_unfolding_all exact hW.1 _ _ rfl) (by omega) (by omega) | omega | decide) only [↓reduceIte, ↓gi_b, ↓pi_b, ↓gr_b, ↓pr_b, ↓al_b, ↓as_b, ↓al_3, ↓as_3, ↓al_12, ↓as_12, ↓al_l, ↓as_l, ↓rc_b, ↓Option.bind_some, ↓zr0_b, ↓zr1_b, ↓zrb_b, ↓pz0_b, ↓pz1_b, al_b, as_b, rc_b, gi_b, pi_b, gr_b, zr0, zr1, zrb, u_s, u_n, v_s, v_n, ↓isIn_b, ↓within_b, ite_T, ite_F, il_t, il_f, li_t, li_f, it_t, it_f, ti_t, ti_f, ie_t, ie_f, ei_t, ei_f, nn_le_t, nn_le_f, nn_lt_t, nn_lt_f, nn_eq_t, nn_eq_f, nI_1, nI_add, ni_addl, ni_ladd, pk_mul, ni_mull, b2_t, b2_f, b2_0, one0, m1_eq, ni_m1, reduceCtorEq, Bool.false_eq_true, nI_clamp, if_true, Option.some.injEq, Prod.mk.injEq, and_true, true_and, Nat.reduceAdd, Nat.reduceMul, Nat.reduceSub, Nat.reduceEqDiff, Nat.reduceLeDiff, Nat.reduceLT, oa, ob, oc]
            exact go (cc + 1, some (y.1, y.2.1, e)) (by unfold soC; rw [eB, if_pos rfl]; show _ = (cc + 1, if y.1 ≤ e then some (y.1, y.2.1, max y.2.2 e) else _); rw [if_pos q, Nat.max_eq_right (by omega)])
          · simp (disch := first | assumption | with_unfolding_all exact hW.1 _ _ rfl | rfl | exact pu_okI (by first | assumption | with_unfolding_all exact hW.1 _ _ rfl) (by omega) (by omega) | exact pu_oqI (by first | assumption | with_unfolding_all exact hW.1 _ _ rfl) (by omega) (by omega) | omega | decide) only [↓reduceIte, ↓gi_b, ↓pi_b, ↓gr_b, ↓pr_b, ↓al_b, ↓as_b, ↓al_3, ↓as_3, ↓al_12, ↓as_12, ↓al_l, ↓as_l, ↓rc_b, ↓Option.bind_some, ↓zr0_b, ↓zr1_b, ↓zrb_b, ↓pz0_b, ↓pz1_b, al_b, as_b, rc_b, gi_b, pi_b, gr_b, zr0, zr1, zrb, u_s, u_n, v_s, v_n, ↓isIn_b, ↓within_b, ite_T, ite_F, il_t, il_f, li_t, li_f, it_t, it_f, ti_t, ti_f, ie_t, ie_f, ei_t, ei_f, nn_le_t, nn_le_f, nn_lt_t, nn_lt_f, nn_eq_t, nn_eq_f, nI_1, nI_add, ni_addl, ni_ladd, pk_mul, ni_mull, b2_t, b2_f, b2_0, one0, m1_eq, ni_m1, reduceCtorEq, Bool.false_eq_true, nI_clamp, if_true, Option.some.injEq, Prod.mk.injEq, and_true, true_and, Nat.reduceAdd, Nat.reduceMul, Nat.reduceSub, Nat.reduceEqDiff, Nat.reduceLeDiff, Nat.reduceLT, oa, ob, oc]
            exact go (cc + 1, some (y.1, y.2.1, y.2.2)) (by unfold soC; rw [eB, if_pos rfl]; show _ = (cc + 1, if y.1 ≤ e then some (y.1, y.2.1, max y.2.2 e) else _); rw [if_pos q, Nat.max_eq_left (by omega)])
        · by_cases q2 : y.2.2 < e
          · simp (disch := first | assumption | with_unfolding_all exact hW.1 _ _ rfl | rfl | exact pu_okI (by first | assumption | with_unfolding_all exact hW.1 _ _ rfl) (by omega) (by omega) | exact pu_oqI (by first | assumption | with_unfolding_all exact hW.1 _ _ rfl) (by omega) (by omega) | omega | decide) only [↓reduceIte, ↓gi_b, ↓pi_b, ↓gr_b, ↓pr_b, ↓al_b, ↓as_b, ↓al_3, ↓as_3, ↓al_12, ↓as_12, ↓al_l, ↓as_l, ↓rc_b, ↓Option.bind_some, ↓zr0_b, ↓zr1_b, ↓zrb_b, ↓pz0_b, ↓pz1_b, al_b, as_b, rc_b, gi_b, pi_b, gr_b, zr0, zr1, zrb, u_s, u_n, v_s, v_n, ↓isIn_b, ↓within_b, ite_T, ite_F, il_t, il_f, li_t, li_f, it_t, it_f, ti_t, ti_f, ie_t, ie_f, ei_t, ei_f, nn_le_t, nn_le_f, nn_lt_t, nn_lt_f, nn_eq_t, nn_eq_f, nI_1, nI_add, ni_addl, ni_ladd, pk_mul, ni_mull, b2_t, b2_f, b2_0, one0, m1_eq, ni_m1, reduceCtorEq, Bool.false_eq_true, nI_clamp, if_true, Option.some.injEq, Prod.mk.injEq, and_true, true_and, Nat.reduceAdd, Nat.reduceMul, Nat.reduceSub, Nat.reduceEqDiff, Nat.reduceLeDiff, Nat.reduceLT, oa, ob, oc]
            exact go (cc + 1, some (e, f, e)) (by unfold soC; rw [eB, if_pos rfl]; show _ = (cc + 1, if y.1 ≤ e then _ else some (e, f, max y.2.2 e)); rw [if_neg q, Nat.max_eq_right (by omega)])
          · simp (disch := first | assumption | with_unfolding_all exact hW.1 _ _ rfl | rfl | exact pu_okI (by first | assumption | with_unfolding_all exact hW.1 _ _ rfl) (by omega) (by omega) | exact pu_oqI (by first | assumption | with_unfolding_all exact hW.1 _ _ rfl) (by omega) (by omega) | omega | decide) only [↓reduceIte, ↓gi_b, ↓pi_b, ↓gr_b, ↓pr_b, ↓al_b, ↓as_b, ↓al_3, ↓as_3, ↓al_12, ↓as_12, ↓al_l, ↓as_l, ↓rc_b, ↓Option.bind_some, ↓zr0_b, ↓zr1_b, ↓zrb_b, ↓pz0_b, ↓pz1_b, al_b, as_b, rc_b, gi_b, pi_b, gr_b, zr0, zr1, zrb, u_s, u_n, v_s, v_n, ↓isIn_b, ↓within_b, ite_T, ite_F, il_t, il_f, li_t, li_f, it_t, it_f, ti_t, ti_f, ie_t, ie_f, ei_t, ei_f, nn_le_t, nn_le_f, nn_lt_t, nn_lt_f, nn_eq_t, nn_eq_f, nI_1, nI_add, ni_addl, ni_ladd, pk_mul, ni_mull, b2_t, b2_f, b2_0, one0, m1_eq, ni_m1, reduceCtorEq, Bool.false_eq_true, nI_clamp, if_true, Option.some.injEq, Prod.mk.injEq, and_true, true_and, Nat.reduceAdd, Nat.reduceMul, Nat.reduceSub, Nat.reduceEqDiff, Nat.reduceLeDiff, Nat.reduceLT, oa, ob, oc]
            exact go (cc + 1, some (e, f, y.2.2)) (by unfold soC; rw [eB, if_pos rfl]; show _ = (cc + 1, if y.1 ≤ e then _ else some (e, f, max y.2.2 e)); rw [if_neg q, Nat.max_eq_left (by omega)])
theorem q_183 {wh : Int32} {x : SoX} {h : am_H} : fX8_seekFault_183 wh (nI x.1) (oa x.2) (ob x.2) (oc x.2) h = some (soA wh x, h) := by
  unfold fX8_seekFault_183 soA
  by_cases h0 : wh = 0
  · rw [if_pos h0, if_pos h0]
  · by_cases h1 : wh = 1
    · rw [if_neg h0, if_neg h0, if_pos h1, if_pos h1]
    · by_cases h2 : wh = 2
      · rw [if_neg h0, if_neg h0, if_neg h1, if_neg h1, if_pos h2, if_pos h2]
      · rw [if_neg h0, if_neg h0, if_neg h1, if_neg h1, if_neg h2, if_neg h2]
theorem soCo_dead2 {D : Nat → Nat → Bool} : ∀ (m f : Nat) (x : SoX), (∀ e f', 1 ≤ e → e ≤ 20 → f ≤ f' → f' < f + m → D e f' = false) → soCo D m f x = x
  | 0, _, _, _ => rfl
  | m + 1, f, x, h => by
    have e : ∀ (k n : Nat), n + k = 21 → 1 ≤ n → soCi D f k n x = x := by
      intro k
      induction k with
      | zero => intro n _ _; rfl
      | succ k ih =>
        intro n hn h1
        show soCi D f k (n + 1) (soC D n f x) = x
        have : soC D n f x = x := by unfold soC; rw [h n f h1 (by omega) (Nat.le_refl _) (by omega)]; exact if_neg (by decide)
        rw [this]; exact ih (n + 1) (by omega) (by omega)
    show soCo D m (f + 1) (soCi D f 20 1 x) = x
    rw [e 20 1 (by omega) (by omega)]
    exact soCo_dead2 m (f + 1) x fun n f' h1 h2 h3 h4 => h n f' h1 h2 (by omega) (by omega)
set_option maxHeartbeats 4000000 in
set_option maxRecDepth 100000 in
theorem c_so32 (hZ : Z_B Z) (hi : i < znc Z) (hj : j < 4) {k v c : Nat} (hc78 : 78 ≤ c) {wh : Int32} (hk : k ≤ 4) (hv : v ≤ 2) : ∀ (m f N : Nat) (I : Nat → Nat → Int32) (P : Nat → Nat → Option Nat) (x : SoX), f + m = 96 → m < N → InvC s I P n Z → EVk I (tl (zT Z)) (knb (zK Z i)) 12 → RunR s (zK Z i) (0, 0, 0, 0) (tw (zT Z) j) f I P 23 c 21 → SoB x →
    Rn (fX8_seekFault_32 N (some 1) (nI k) (nI v) wh (nI x.1) (oa x.2) (ob x.2) (oc x.2) (b2 (soL (tl (zT Z)) (zK Z i) (tw (zT Z) j) f)) (nI f) (pu_hp s I P J n)) fun y => ∃ I' P', y = (soA wh (soCo (soD (zK Z i) (tw (zT Z) j) (tl (zT Z)) k v) m f x), pu_hp s I' P' J n) ∧ SF I I' P P' := by
  have hK := (hZ.1.2 i hi).1
  have hl := hZ.2.2.2.1.2.1
  intro m
  induction m with
  | zero =>
    intro f N I P x hf hN hI hE hR hB
    obtain ⟨N, rfl⟩ : ∃ N', N = N' + 1 := ⟨N - 1, by omega⟩
    obtain rfl : f = 96 := by omega
    show Rn (fX8_seekFault_32_b _ _ _ _ _ _ _ _ _ _ _ _) _
    unfold fX8_seekFault_32_b
    simp (disch := first | assumption | with_unfolding_all exact hW.1 _ _ rfl | rfl | exact pu_okI (by first | assumption | with_unfolding_all exact hW.1 _ _ rfl) (by omega) (by omega) | exact pu_oqI (by first | assumption | with_unfolding_all exact hW.1 _ _ rfl) (by omega) (by omega) | omega | decide) only [↓reduceIte, ↓gi_b, ↓pi_b, ↓gr_b, ↓pr_b, ↓al_b, ↓as_b, ↓al_3, ↓as_3, ↓al_12, ↓as_12, ↓al_l, ↓as_l, ↓rc_b, ↓Option.bind_some, ↓zr0_b, ↓zr1_b, ↓zrb_b, ↓pz0_b, ↓pz1_b, al_b, as_b, rc_b, gi_b, pi_b, gr_b, zr0, zr1, zrb, u_s, u_n, v_s, v_n, ↓isIn_b, ↓within_b, ite_T, ite_F, il_t, il_f, li_t, li_f, it_t, it_f, ti_t, ti_f, ie_t, ie_f, ei_t, ei_f, nn_le_t, nn_le_f, nn_lt_t, nn_lt_f, nn_eq_t, nn_eq_f, nI_1, nI_add, ni_addl, ni_ladd, pk_mul, ni_mull, b2_t, b2_f, b2_0, one0, m1_eq, ni_m1, reduceCtorEq, Bool.false_eq_true, nI_clamp, if_true, Option.some.injEq, Prod.mk.injEq, and_true, true_and, Nat.reduceAdd, Nat.reduceMul, Nat.reduceSub, Nat.reduceEqDiff, Nat.reduceLeDiff, Nat.reduceLT, q_183]
    exact Rn_some ⟨I, P, rfl, fun _ _ _ => rfl, fun _ _ _ => rfl⟩
  | succ m ih =>
    intro f N I P x hf hN hI hE hR hB
    obtain ⟨N, rfl⟩ : ∃ N', N = N' + 1 := ⟨N - 1, by omega⟩
    show Rn (fX8_seekFault_32_b (fX8_seekFault_32 N) _ _ _ _ _ _ _ _ _ _ _) _
    unfold fX8_seekFault_32_b
    cases ea : soL (tl (zT Z)) (zK Z i) (tw (zT Z) j) f with
    | false =>
      have hd : soCo (soD (zK Z i) (tw (zT Z) j) (tl (zT Z)) k v) (m + 1) f x = x := soCo_dead2 (m + 1) f x fun e f' h1 h2 h3 h4 => by
        rw [soD_eq hK ⟨hk, hv, h2, (by omega : f' ≤ 95)⟩ hl]
        have := soL_dead ea (f' - f)
        rw [show f + (f' - f) = f' by omega] at this
        rw [this]; rfl
      rw [hd]
      simp (disch := first | assumption | with_unfolding_all exact hW.1 _ _ rfl | rfl | exact pu_okI (by first | assumption | with_unfolding_all exact hW.1 _ _ rfl) (by omega) (by omega) | exact pu_oqI (by first | assumption | with_unfolding_all exact hW.1 _ _ rfl) (by omega) (by omega) | omega | decide) only [↓reduceIte, ↓gi_b, ↓pi_b, ↓gr_b, ↓pr_b, ↓al_b, ↓as_b, ↓al_3, ↓as_3, ↓al_12, ↓as_12, ↓al_l, ↓as_l, ↓rc_b, ↓Option.bind_some, ↓zr0_b, ↓zr1_b, ↓zrb_b, ↓pz0_b, ↓pz1_b, al_b, as_b, rc_b, gi_b, pi_b, gr_b, zr0, zr1, zrb, u_s, u_n, v_s, v_n, ↓isIn_b, ↓within_b, ite_T, ite_F, il_t, il_f, li_t, li_f, it_t, it_f, ti_t, ti_f, ie_t, ie_f, ei_t, ei_f, nn_le_t, nn_le_f, nn_lt_t, nn_lt_f, nn_eq_t, nn_eq_f, nI_1, nI_add, ni_addl, ni_ladd, pk_mul, ni_mull, b2_t, b2_f, b2_0, one0, m1_eq, ni_m1, reduceCtorEq, Bool.false_eq_true, nI_clamp, if_true, Option.some.injEq, Prod.mk.injEq, and_true, true_and, Nat.reduceAdd, Nat.reduceMul, Nat.reduceSub, Nat.reduceEqDiff, Nat.reduceLeDiff, Nat.reduceLT, q_183]
      exact Rn_some ⟨I, P, rfl, fun _ _ _ => rfl, fun _ _ _ => rfl⟩
    | true =>
      simp (disch := first | assumption | with_unfolding_all exact hW.1 _ _ rfl | rfl | exact pu_okI (by first | assumption | with_unfolding_all exact hW.1 _ _ rfl) (by omega) (by omega) | exact pu_oqI (by first | assumption | with_unfolding_all exact hW.1 _ _ rfl) (by omega) (by omega) | omega | decide) only [↓reduceIte, ↓gi_b, ↓pi_b, ↓gr_b, ↓pr_b, ↓al_b, ↓as_b, ↓al_3, ↓as_3, ↓al_12, ↓as_12, ↓al_l, ↓as_l, ↓rc_b, ↓Option.bind_some, ↓zr0_b, ↓zr1_b, ↓zrb_b, ↓pz0_b, ↓pz1_b, al_b, as_b, rc_b, gi_b, pi_b, gr_b, zr0, zr1, zrb, u_s, u_n, v_s, v_n, ↓isIn_b, ↓within_b, ite_T, ite_F, il_t, il_f, li_t, li_f, it_t, it_f, ti_t, ti_f, ie_t, ie_f, ei_t, ei_f, nn_le_t, nn_le_f, nn_lt_t, nn_lt_f, nn_eq_t, nn_eq_f, nI_1, nI_add, ni_addl, ni_ladd, pk_mul, ni_mull, b2_t, b2_f, b2_0, one0, m1_eq, ni_m1, reduceCtorEq, Bool.false_eq_true, nI_clamp, if_true, Option.some.injEq, Prod.mk.injEq, and_true, true_and, Nat.reduceAdd, Nat.reduceMul, Nat.reduceSub, Nat.reduceEqDiff, Nat.reduceLeDiff, Nat.reduceLT]
      rw [show (1 : Int32) = nI 1 from rfl]
      refine c_so47 hZ hi hj hc78 hk hv (by omega) ea 20 1 am_fu I P x (by omega) (by omega) (by unfold am_fu; omega) hI hE hR hB fun I1 P1 y hy g1 g2 g3 g4 => ?_
      refine Rn_mono (ih (f + 1) N I1 P1 y (by omega) (by omega) (g1.inv hI) g2 g3 g4) ?_
      rintro _ ⟨I2, P2, rfl, g5⟩
      exact ⟨I2, P2, by rw [hy]; rfl, g1.tr g5⟩
theorem RunR.fr1 {K : S_K} {F : S_F} {w t c : Nat} {x : Int32} (h : RunR s K F w t I P 23 c 21) (hc : 78 ≤ c) : RunR s K F w t (pu_u I 1 10 x) P 23 c 21 := by
  have hf : ∀ b j, ¬ b = 1 → pu_u I 1 10 x b j = I b j := fun b j hb => u_n (by omega)
  obtain ⟨h4, h5, h6, h7, h8⟩ := h
  obtain ⟨a1, a2, a3, a4, a5, a6, a7, a8, a9, a10, a11, a12⟩ := h8
  exact ⟨h4, h5, h6.fr fun b j q1 q2 => hf b j (by omega), h7.fr fun j => hf 21 j (by omega), by rw [hf _ _ (by omega), a1], by rw [hf _ _ (by omega), a2], by rw [hf _ _ (by omega), a3], by rw [hf _ _ (by omega), a4], by rw [hf _ _ (by omega), a5], by rw [hf _ _ (by omega), a6], by rw [hf _ _ (by omega), a7], by rw [hf _ _ (by omega), a8], by rw [hf _ _ (by omega), a9], by rw [hf _ _ (by omega), a10], fun v hv => by rw [hf _ _ (by omega), a11 v hv], fun b hb => by rw [hf _ _ (by omega), a12 b hb]⟩
set_option maxHeartbeats 4000000 in
set_option maxRecDepth 100000 in
theorem c_start_n (hZ : Z_B Z) (h : InvC s I P n Z) (hi : i < znc Z) (hj : j < 4) : Rn (fX8_startRun 1 (nI i) (nI j) (-1) (pu_hp s I P J n)) fun y => ∃ I' P' c, y = (1, pu_hp s I' P' J n) ∧ 78 ≤ c ∧ SF I I' P P' ∧ RunR s (zK Z i) (0, 0, 0, 0) (tw (zT Z) j) 0 I' P' 23 c 21 := by
  have hW := h.1
  have hnc := hZ.1.1
  obtain ⟨c, b1, b2', b3, b4, b5⟩ := h.2.2.2.2.2.1 i hi
  have e1 : fX8_clockOf 1 (nI i) (pu_hp s I P J n) = some (some c, pu_hp s I P J n) := by rw [q_clockOf hZ h, inB_t1 hi (by omega), if_pos rfl, nI_clamp (by omega), b1]
  unfold fX8_startRun fX8_startRun_24
  simp (disch := first | assumption | with_unfolding_all exact hW.1 _ _ rfl | rfl | exact pu_okI (by first | assumption | with_unfolding_all exact hW.1 _ _ rfl) (by omega) (by omega) | exact pu_oqI (by first | assumption | with_unfolding_all exact hW.1 _ _ rfl) (by omega) (by omega) | omega | decide) only [↓reduceIte, ↓gi_b, ↓pi_b, ↓gr_b, ↓pr_b, ↓al_b, ↓as_b, ↓al_3, ↓as_3, ↓al_12, ↓as_12, ↓al_l, ↓as_l, ↓rc_b, ↓Option.bind_some, ↓zr0_b, ↓zr1_b, ↓zrb_b, ↓pz0_b, ↓pz1_b, al_b, as_b, rc_b, gi_b, pi_b, gr_b, zr0, zr1, zrb, u_s, u_n, v_s, v_n, ↓isIn_b, ↓within_b, ite_T, ite_F, il_t, il_f, li_t, li_f, it_t, it_f, ti_t, ti_f, ie_t, ie_f, ei_t, ei_f, nn_le_t, nn_le_f, nn_lt_t, nn_lt_f, nn_eq_t, nn_eq_f, nI_1, nI_add, ni_addl, ni_ladd, pk_mul, ni_mull, b2_t, b2_f, b2_0, one0, m1_eq, ni_m1, reduceCtorEq, Bool.false_eq_true, nI_clamp, if_true, Option.some.injEq, Prod.mk.injEq, and_true, true_and, Nat.reduceAdd, Nat.reduceMul, Nat.reduceSub, Nat.reduceEqDiff, Nat.reduceLeDiff, Nat.reduceLT, ↓gr1_14 hW, ↓gr1_12 hW, e1, ↓season_b, inB_4 hj, q_warmOf h hj]
  refine Rn_bind (r_start (w := tw (zT Z) j) (RS0_23 hW) (hZ.1.2 i hi).1 b4 (hW.1 21 _ rfl) (by omega) (by omega) b5) ?_
  rintro _ ⟨I', P', rfl, p1, p2, p3, p4, p5⟩
  exact Rn_some ⟨I', P', c, rfl, b2', ⟨fun b j hb => p4 b j (by unfold scC at hb; omega), fun a k ha => p1 a k (by unfold scP at ha; omega)⟩, p2, p3, p4.c b5 (by omega), p4.f h.2.2.2.2.1 (by omega), p5⟩
end SQ
