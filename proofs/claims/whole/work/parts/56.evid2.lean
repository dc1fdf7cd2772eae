/-! evidence in the class; agreement in the reference -/
def RunR (s : Nat → Option pu_S) (K : S_K) (F : S_F) (w t : Nat) (I : Nat → Nat → Int32) (P : Nat → Nat → Option Nat) (r c f : Nat) : Prop :=
  R_S s P r c f ∧ C_S s P c ∧ C_I I c K ∧ F_I I f F ∧ R_I I r w t K (S_at K F w true t)
/-- evidence of the first k balls -/
def EVk (I : Nat → Nat → Int32) (l : S_L) (nb k : Nat) : Prop := (∀ t, t < 96 → I 37 t = nI (loR l t k) ∧ I 38 t = nI (hiR l t k)) ∧ I 36 2 = oI (ltR l k) ∧ I 36 3 = b2 (impR l nb k)
theorem EVk.fr {I I' : Nat → Nat → Int32} {l : S_L} {nb k : Nat} (h : EVk I l nb k) (hf : ∀ b j, 36 ≤ b → b ≤ 38 → I' b j = I b j) : EVk I' l nb k :=
  ⟨fun t ht => by rw [hf _ _ (by omega) (by omega), hf _ _ (by omega) (by omega)]; exact h.1 t ht, by rw [hf _ _ (by omega) (by omega), h.2.1], by rw [hf _ _ (by omega) (by omega), h.2.2]⟩
section EV
variable {s : Nat → Option pu_S} {I : Nat → Nat → Int32} {P : Nat → Nat → Option Nat} {J : Nat → Nat → Int64} {n : Nat × Nat}
variable {l : S_L} {nb : Nat}
set_option maxHeartbeats 4000000 in
set_option maxRecDepth 100000 in
theorem c_ask2 (hW : pu_W s P) {b x : Nat} (hb : b < 12) (hx : x ≤ 96) {A B : Nat → Nat} (hA : ∀ t, A t ≤ 12) (hB : ∀ t, B t ≤ 12) : ∀ (m k N : Nat) (I : Nat → Nat → Int32), k + m = 96 → m < N → (∀ t, t < 96 → I 37 t = nI (if t < k ∧ x ≤ t then max (A t) (b + 1) else A t) ∧ I 38 t = nI (if t < k ∧ t < x then min (B t) b else B t)) →
    Rn (fX1_ask_2 N (some 36) (nI b) (nI x) (nI k) (pu_hp s I P J n)) fun h => ∃ I', h = pu_hp s I' P J n ∧ (∀ t, t < 96 → I' 37 t = nI (if x ≤ t then max (A t) (b + 1) else A t) ∧ I' 38 t = nI (if t < x then min (B t) b else B t)) ∧ ∀ c j, ¬ c = 37 → ¬ c = 38 → I' c j = I c j := by
  intro m
  induction m with
  | zero =>
    intro k N I hk hN hI
    obtain ⟨N, rfl⟩ : ∃ N', N = N' + 1 := ⟨N - 1, by omega⟩
    show Rn (fX1_ask_2_b _ _ _ _ _ _) _
    unfold fX1_ask_2_b
    simp (disch := first | assumption | with_unfolding_all exact hW.1 _ _ rfl | rfl | exact pu_okI (by first | assumption | with_unfolding_all exact hW.1 _ _ rfl) (by omega) (by omega) | exact pu_oqI (by first | assumption | with_unfolding_all exact hW.1 _ _ rfl) (by omega) (by omega) | omega | decide) only [↓reduceIte, ↓gi_b, ↓pi_b, ↓gr_b, ↓pr_b, ↓al_b, ↓as_b, ↓al_3, ↓as_3, ↓al_12, ↓as_12, ↓al_l, ↓as_l, ↓rc_b, ↓Option.bind_some, ↓zr0_b, ↓zr1_b, ↓zrb_b, ↓pz0_b, ↓pz1_b, al_b, as_b, rc_b, gi_b, pi_b, gr_b, zr0, zr1, zrb, u_s, u_n, v_s, v_n, ↓isIn_b, ↓within_b, ite_T, ite_F, il_t, il_f, li_t, li_f, it_t, it_f, ti_t, ti_f, ie_t, ie_f, ei_t, ei_f, nn_le_t, nn_le_f, nn_lt_t, nn_lt_f, nn_eq_t, nn_eq_f, nI_1, nI_add, ni_addl, ni_ladd, pk_mul, ni_mull, b2_t, b2_f, b2_0, one0, m1_eq, ni_m1, reduceCtorEq, Bool.false_eq_true, nI_clamp, if_true, Option.some.injEq, Prod.mk.injEq, and_true, true_and, Nat.reduceAdd, Nat.reduceMul, Nat.reduceSub, Nat.reduceEqDiff, Nat.reduceLeDiff, Nat.reduceLT]
    refine Rn_some ⟨I, rfl, fun t ht => ?_, fun _ _ _ _ => rfl⟩
    obtain ⟨q1, q2⟩ := hI t ht
    rw [q1, q2]
    refine ⟨?_, ?_⟩
    · by_cases c : x ≤ t
      · rw [if_pos ⟨by omega, c⟩, if_pos c]
      · rw [if_neg (fun q => c q.2), if_neg c]
    · by_cases c : t < x
      · rw [if_pos ⟨by omega, c⟩, if_pos c]
      · rw [if_neg (fun q => c q.2), if_neg c]
  | succ m ih =>
    intro k N I hk hN hI
    obtain ⟨N, rfl⟩ : ∃ N', N = N' + 1 := ⟨N - 1, by omega⟩
    obtain ⟨q1, q2⟩ := hI k (by omega)
    rw [if_neg (by omega)] at q1 q2
    have hAk := hA k
    have hBk := hB k
    show Rn (fX1_ask_2_b (fX1_ask_2 N) _ _ _ _ _) _
    unfold fX1_ask_2_b fX1_ask_50
    by_cases c : x ≤ k
    · simp (disch := first | assumption | with_unfolding_all exact hW.1 _ _ rfl | rfl | exact pu_okI (by first | assumption | with_unfolding_all exact hW.1 _ _ rfl) (by omega) (by omega) | exact pu_oqI (by first | assumption | with_unfolding_all exact hW.1 _ _ rfl) (by omega) (by omega) | omega | decide) only [↓reduceIte, ↓gi_b, ↓pi_b, ↓gr_b, ↓pr_b, ↓al_b, ↓as_b, ↓al_3, ↓as_3, ↓al_12, ↓as_12, ↓al_l, ↓as_l, ↓rc_b, ↓Option.bind_some, ↓zr0_b, ↓zr1_b, ↓zrb_b, ↓pz0_b, ↓pz1_b, al_b, as_b, rc_b, gi_b, pi_b, gr_b, zr0, zr1, zrb, u_s, u_n, v_s, v_n, ↓isIn_b, ↓within_b, ite_T, ite_F, il_t, il_f, li_t, li_f, it_t, it_f, ti_t, ti_f, ie_t, ie_f, ei_t, ei_f, nn_le_t, nn_le_f, nn_lt_t, nn_lt_f, nn_eq_t, nn_eq_f, nI_1, nI_add, ni_addl, ni_ladd, pk_mul, ni_mull, b2_t, b2_f, b2_0, one0, m1_eq, ni_m1, reduceCtorEq, Bool.false_eq_true, nI_clamp, if_true, Option.some.injEq, Prod.mk.injEq, and_true, true_and, Nat.reduceAdd, Nat.reduceMul, Nat.reduceSub, Nat.reduceEqDiff, Nat.reduceLeDiff, Nat.reduceLT, ↓gr36_0 hW, q1, nI_max']
      refine Rn_mono (ih (k + 1) N _ (by omega) (by omega) (fun t ht => ?_)) ?_
      · obtain ⟨p1, p2⟩ := hI t ht
        refine ⟨?_, ?_⟩
        · by_cases e : t = k
          · subst e; rw [u_s, if_pos ⟨by omega, c⟩]
          · rw [u_n (by omega), p1]
            by_cases d : t < k ∧ x ≤ t
            · rw [if_pos d, if_pos (by omega)]
            · rw [if_neg d, if_neg (by omega)]
        · rw [u_n (by omega), p2]
          by_cases d : t < k ∧ t < x
          · rw [if_pos d, if_pos (by omega)]
          · rw [if_neg d, if_neg (by omega)]
      · rintro _ ⟨I', rfl, a1, a2⟩
        exact ⟨I', rfl, a1, fun c j h1 h2 => by rw [a2 c j h1 h2, u_n (by omega)]⟩
    · simp (disch := first | assumption | with_unfolding_all exact hW.1 _ _ rfl | rfl | exact pu_okI (by first | assumption | with_unfolding_all exact hW.1 _ _ rfl) (by omega) (by omega) | exact pu_oqI (by first | assumption | with_unfolding_all exact hW.1 _ _ rfl) (by omega) (by omega) | omega | decide) only [↓reduceIte, ↓gi_b, ↓pi_b, ↓gr_b, ↓pr_b, ↓al_b, ↓as_b, ↓al_3, ↓as_3, ↓al_12, ↓as_12, ↓al_l, ↓as_l, ↓rc_b, ↓Option.bind_some, ↓zr0_b, ↓zr1_b, ↓zrb_b, ↓pz0_b, ↓pz1_b, al_b, as_b, rc_b, gi_b, pi_b, gr_b, zr0, zr1, zrb, u_s, u_n, v_s, v_n, ↓isIn_b, ↓within_b, ite_T, ite_F, il_t, il_f, li_t, li_f, it_t, it_f, ti_t, ti_f, ie_t, ie_f, ei_t, ei_f, nn_le_t, nn_le_f, nn_lt_t, nn_lt_f, nn_eq_t, nn_eq_f, nI_1, nI_add, ni_addl, ni_ladd, pk_mul, ni_mull, b2_t, b2_f, b2_0, one0, m1_eq, ni_m1, reduceCtorEq, Bool.false_eq_true, nI_clamp, if_true, Option.some.injEq, Prod.mk.injEq, and_true, true_and, Nat.reduceAdd, Nat.reduceMul, Nat.reduceSub, Nat.reduceEqDiff, Nat.reduceLeDiff, Nat.reduceLT, ↓gr36_1 hW, q2, nI_min']
      refine Rn_mono (ih (k + 1) N _ (by omega) (by omega) (fun t ht => ?_)) ?_
      · obtain ⟨p1, p2⟩ := hI t ht
        refine ⟨?_, ?_⟩
        · rw [u_n (by omega), p1]
          by_cases d : t < k ∧ x ≤ t
          · rw [if_pos d, if_pos (by omega)]
          · rw [if_neg d, if_neg (by omega)]
        · by_cases e : t = k
          · subst e; rw [u_s, if_pos ⟨by omega, by omega⟩]
          · rw [u_n (by omega), p2]
            by_cases d : t < k ∧ t < x
            · rw [if_pos d, if_pos (by omega)]
            · rw [if_neg d, if_neg (by omega)]
      · rintro _ ⟨I', rfl, a1, a2⟩
        exact ⟨I', rfl, a1, fun c j h1 h2 => by rw [a2 c j h1 h2, u_n (by omega)]⟩
set_option maxHeartbeats 4000000 in
set_option maxRecDepth 100000 in
theorem c_gather29 (hW : pu_W s P) (hnb : nb ≤ 12) (hl : ∀ b t, b < 12 → l b = some t → t ≤ 96) : ∀ (m k N : Nat) (I : Nat → Nat → Int32), k + m = 12 → m < N → (∀ j, j < 12 → I 10 j = oI (l j)) → EVk I l nb k →
    Rn (fX1_gather_29 N (some 36) (some 10) (nI nb) (nI k) (pu_hp s I P J n)) fun h => ∃ I', h = pu_hp s I' P J n ∧ EVk I' l nb 12 ∧ ∀ b j, ¬ (36 ≤ b ∧ b ≤ 38) → I' b j = I b j := by
  intro m
  induction m with
  | zero =>
    intro k N I hk hN h10 hE
    obtain ⟨N, rfl⟩ : ∃ N', N = N' + 1 := ⟨N - 1, by omega⟩
    obtain rfl : k = 12 := by omega
    show Rn (fX1_gather_29_b _ _ _ _ _ _) _
    unfold fX1_gather_29_b
    simp (disch := first | assumption | with_unfolding_all exact hW.1 _ _ rfl | rfl | exact pu_okI (by first | assumption | with_unfolding_all exact hW.1 _ _ rfl) (by omega) (by omega) | exact pu_oqI (by first | assumption | with_unfolding_all exact hW.1 _ _ rfl) (by omega) (by omega) | omega | decide) only [↓reduceIte, ↓gi_b, ↓pi_b, ↓gr_b, ↓pr_b, ↓al_b, ↓as_b, ↓al_3, ↓as_3, ↓al_12, ↓as_12, ↓al_l, ↓as_l, ↓rc_b, ↓Option.bind_some, ↓zr0_b, ↓zr1_b, ↓zrb_b, ↓pz0_b, ↓pz1_b, al_b, as_b, rc_b, gi_b, pi_b, gr_b, zr0, zr1, zrb, u_s, u_n, v_s, v_n, ↓isIn_b, ↓within_b, ite_T, ite_F, il_t, il_f, li_t, li_f, it_t, it_f, ti_t, ti_f, ie_t, ie_f, ei_t, ei_f, nn_le_t, nn_le_f, nn_lt_t, nn_lt_f, nn_eq_t, nn_eq_f, nI_1, nI_add, ni_addl, ni_ladd, pk_mul, ni_mull, b2_t, b2_f, b2_0, one0, m1_eq, ni_m1, reduceCtorEq, Bool.false_eq_true, nI_clamp, if_true, Option.some.injEq, Prod.mk.injEq, and_true, true_and, Nat.reduceAdd, Nat.reduceMul, Nat.reduceSub, Nat.reduceEqDiff, Nat.reduceLeDiff, Nat.reduceLT, ↓an_b (s := s) (a := 10) (t := 0) (m := 12)]
    exact Rn_some ⟨I, rfl, hE, fun _ _ _ => rfl⟩
  | succ m ih =>
    intro k N I hk hN h10 hE
    obtain ⟨N, rfl⟩ : ∃ N', N = N' + 1 := ⟨N - 1, by omega⟩
    have e10 := h10 k (by omega)
    have elo : ∀ t, loR l t (k + 1) = (match l k with | none => loR l t k | some x => if x ≤ t then max (loR l t k) (k + 1) else loR l t k) := fun _ => rfl
    have ehi : ∀ t, hiR l t (k + 1) = (match l k with | none => hiR l t k | some x => if t < x then min (hiR l t k) k else hiR l t k) := fun _ => rfl
    have elt : ltR l (k + 1) = (match l k with | none => ltR l k | some x => (match ltR l k with | none => some (min x 95) | some y => some (max y (min x 95)))) := rfl
    have eim : impR l nb (k + 1) = (impR l nb k || ((l k).isSome && decide (nb ≤ k))) := rfl
    show Rn (fX1_gather_29_b (fX1_gather_29 N) _ _ _ _ _) _
    unfold fX1_gather_29_b fX1_gather_90
    cases e : l k with
    | none =>
      rw [e] at e10 eim elt
      have hE' : EVk I l nb (k + 1) := by
        refine ⟨fun t ht => ?_, ?_, ?_⟩
        · rw [elo, ehi, e]; exact hE.1 t ht
        · rw [elt]; exact hE.2.1
        · rw [eim, hE.2.2]; simp
      rw [show oI none = (-1 : Int32) from rfl] at e10
      simp (disch := first | assumption | with_unfolding_all exact hW.1 _ _ rfl | rfl | exact pu_okI (by first | assumption | with_unfolding_all exact hW.1 _ _ rfl) (by omega) (by omega) | exact pu_oqI (by first | assumption | with_unfolding_all exact hW.1 _ _ rfl) (by omega) (by omega) | omega | decide) only [↓reduceIte, ↓gi_b, ↓pi_b, ↓gr_b, ↓pr_b, ↓al_b, ↓as_b, ↓al_3, ↓as_3, ↓al_12, ↓as_12, ↓al_l, ↓as_l, ↓rc_b, ↓Option.bind_some, ↓zr0_b, ↓zr1_b, ↓zrb_b, ↓pz0_b, ↓pz1_b, al_b, as_b, rc_b, gi_b, pi_b, gr_b, zr0, zr1, zrb, u_s, u_n, v_s, v_n, ↓isIn_b, ↓within_b, ite_T, ite_F, il_t, il_f, li_t, li_f, it_t, it_f, ti_t, ti_f, ie_t, ie_f, ei_t, ei_f, nn_le_t, nn_le_f, nn_lt_t, nn_lt_f, nn_eq_t, nn_eq_f, nI_1, nI_add, ni_addl, ni_ladd, pk_mul, ni_mull, b2_t, b2_f, b2_0, one0, m1_eq, ni_m1, reduceCtorEq, Bool.false_eq_true, nI_clamp, if_true, Option.some.injEq, Prod.mk.injEq, and_true, true_and, Nat.reduceAdd, Nat.reduceMul, Nat.reduceSub, Nat.reduceEqDiff, Nat.reduceLeDiff, Nat.reduceLT, ↓an_b (s := s) (a := 10) (t := 0) (m := 12), e10]
      exact ih (k + 1) N I (by omega) (by omega) h10 hE'
    | some x =>
      have hx := hl k x (by omega) e
      rw [e] at e10 eim elt
      rw [show oI (some x) = nI x from rfl] at e10
      obtain ⟨E1, E2, E3⟩ := hE
      have hmin : (if (95 : Int32) < nI x then (95 : Int32) else nI x) = nI (min x 95) := nI_min' (a := x) (b := 95) (by omega) (by omega)
      have hmax : (if I 36 2 < nI (min x 95) then nI (min x 95) else I 36 2) = oI (ltR l (k + 1)) := by
        rw [elt, E2]
        cases e2 : ltR l k with
        | none =>
          show (if (-1 : Int32) < nI (min x 95) then _ else _) = nI (min x 95)
          rw [if_pos (Int32.lt_of_lt_of_le (by decide : (-1 : Int32) < 0) (nI_pos' (by omega)))]
        | some y =>
          have := ltR_le k y e2
          exact nI_max' (a := y) (b := min x 95) (by omega) (by omega)
      have main : ∀ I0 : Nat → Nat → Int32, (∀ b j, ¬ (b = 36 ∧ 2 ≤ j) → I0 b j = I b j) → I0 36 2 = oI (ltR l (k + 1)) → I0 36 3 = b2 (impR l nb (k + 1)) → Rn ((fX1_ask 36 (nI k) (nI x) (pu_hp s I0 P J n)).bind fun y6 => fX1_gather_29 N (some 36) (some 10) (nI nb) (nI (k + 1)) y6) fun h => ∃ I', h = pu_hp s I' P J n ∧ EVk I' l nb 12 ∧ ∀ b j, ¬ (36 ≤ b ∧ b ≤ 38) → I' b j = I b j := by
        intro I0 f0 g2 g3
        refine Rn_bind (Q' := fun h => ∃ I', h = pu_hp s I' P J n ∧ (∀ t, t < 96 → I' 37 t = nI (if x ≤ t then max (loR l t k) (k + 1) else loR l t k) ∧ I' 38 t = nI (if t < x then min (hiR l t k) k else hiR l t k)) ∧ ∀ c j, ¬ c = 37 → ¬ c = 38 → I' c j = I0 c j) ?_ ?_
        · unfold fX1_ask
          rw [show (0 : Int32) = nI 0 from rfl]
          refine c_ask2 hW (by omega) hx (fun t => Nat.le_trans (loR_le k) (by omega)) (fun t => hiR_le k) 96 0 am_fu I0 (by omega) (by unfold am_fu; omega) (fun t ht => ?_)
          rw [if_neg (by omega), if_neg (by omega), f0 _ _ (by omega), f0 _ _ (by omega)]
          exact E1 t ht
        · rintro _ ⟨I1, rfl, a1, a2⟩
          refine Rn_mono (ih (k + 1) N I1 (by omega) (by omega) (fun j hj => by rw [a2 _ _ (by omega) (by omega), f0 _ _ (by omega)]; exact h10 j hj) ⟨fun t ht => ?_, by rw [a2 _ _ (by omega) (by omega), g2], by rw [a2 _ _ (by omega) (by omega), g3]⟩) ?_
          · rw [elo, ehi, e]; exact a1 t ht
          · rintro _ ⟨I2, rfl, b1, b2'⟩
            exact ⟨I2, rfl, b1, fun b j hb => by rw [b2' b j hb, a2 _ _ (by omega) (by omega), f0 _ _ (by omega)]⟩
      unfold fX1_gather_55 fX1_gather_60
      cases e3 : impR l nb k with
      | true =>
        rw [e3] at eim
        have ei : impR l nb (k + 1) = true := by rw [eim]; rfl
        simp (disch := first | assumption | with_unfolding_all exact hW.1 _ _ rfl | rfl | exact pu_okI (by first | assumption | with_unfolding_all exact hW.1 _ _ rfl) (by omega) (by omega) | exact pu_oqI (by first | assumption | with_unfolding_all exact hW.1 _ _ rfl) (by omega) (by omega) | omega | decide) only [↓reduceIte, ↓gi_b, ↓pi_b, ↓gr_b, ↓pr_b, ↓al_b, ↓as_b, ↓al_3, ↓as_3, ↓al_12, ↓as_12, ↓al_l, ↓as_l, ↓rc_b, ↓Option.bind_some, ↓zr0_b, ↓zr1_b, ↓zrb_b, ↓pz0_b, ↓pz1_b, al_b, as_b, rc_b, gi_b, pi_b, gr_b, zr0, zr1, zrb, u_s, u_n, v_s, v_n, ↓isIn_b, ↓within_b, ite_T, ite_F, il_t, il_f, li_t, li_f, it_t, it_f, ti_t, ti_f, ie_t, ie_f, ei_t, ei_f, nn_le_t, nn_le_f, nn_lt_t, nn_lt_f, nn_eq_t, nn_eq_f, nI_1, nI_add, ni_addl, ni_ladd, pk_mul, ni_mull, b2_t, b2_f, b2_0, one0, m1_eq, ni_m1, reduceCtorEq, Bool.false_eq_true, nI_clamp, if_true, Option.some.injEq, Prod.mk.injEq, and_true, true_and, Nat.reduceAdd, Nat.reduceMul, Nat.reduceSub, Nat.reduceEqDiff, Nat.reduceLeDiff, Nat.reduceLT, ↓an_b (s := s) (a := 10) (t := 0) (m := 12), e10, E3, e3, hmin, hmax]
        refine main _ (fun b j hb => by rw [u_n (by omega), u_n (by omega)]) (by rw [u_s]) (by rw [u_n (by omega), u_s, ei]; rfl)
      | false =>
        rw [e3] at eim
        by_cases hk2 : k < nb
        · have ei : impR l nb (k + 1) = false := by rw [eim]; simp; omega
          simp (disch := first | assumption | with_unfolding_all exact hW.1 _ _ rfl | rfl | exact pu_okI (by first | assumption | with_unfolding_all exact hW.1 _ _ rfl) (by omega) (by omega) | exact pu_oqI (by first | assumption | with_unfolding_all exact hW.1 _ _ rfl) (by omega) (by omega) | omega | decide) only [↓reduceIte, ↓gi_b, ↓pi_b, ↓gr_b, ↓pr_b, ↓al_b, ↓as_b, ↓al_3, ↓as_3, ↓al_12, ↓as_12, ↓al_l, ↓as_l, ↓rc_b, ↓Option.bind_some, ↓zr0_b, ↓zr1_b, ↓zrb_b, ↓pz0_b, ↓pz1_b, al_b, as_b, rc_b, gi_b, pi_b, gr_b, zr0, zr1, zrb, u_s, u_n, v_s, v_n, ↓isIn_b, ↓within_b, ite_T, ite_F, il_t, il_f, li_t, li_f, it_t, it_f, ti_t, ti_f, ie_t, ie_f, ei_t, ei_f, nn_le_t, nn_le_f, nn_lt_t, nn_lt_f, nn_eq_t, nn_eq_f, nI_1, nI_add, ni_addl, ni_ladd, pk_mul, ni_mull, b2_t, b2_f, b2_0, one0, m1_eq, ni_m1, reduceCtorEq, Bool.false_eq_true, nI_clamp, if_true, Option.some.injEq, Prod.mk.injEq, and_true, true_and, Nat.reduceAdd, Nat.reduceMul, Nat.reduceSub, Nat.reduceEqDiff, Nat.reduceLeDiff, Nat.reduceLT, ↓an_b (s := s) (a := 10) (t := 0) (m := 12), e10, E3, e3, hmin, hmax]
          refine main _ (fun b j hb => by rw [u_n (by omega), u_n (by omega)]) (by rw [u_s]) (by rw [u_n (by omega), u_s, ei]; rfl)
        · have ei : impR l nb (k + 1) = true := by rw [eim]; simp; omega
          simp (disch := first | assumption | with_unfolding_all exact hW.1 _ _ rfl | rfl | exact pu_okI (by first | assumption | with_unfolding_all exact hW.1 _ _ rfl) (by omega) (by omega) | exact pu_oqI (by first | assumption | with_unfolding_all exact hW.1 _ _ rfl) (by omega) (by omega) | omega | decide) only [↓reduceIte, ↓gi_b, ↓pi_b, ↓gr_b, ↓pr_b, ↓al_b, ↓as_b, ↓al_3, ↓as_3, ↓al_12, ↓as_12, ↓al_l, ↓as_l, ↓rc_b, ↓Option.bind_some, ↓zr0_b, ↓zr1_b, ↓zrb_b, ↓pz0_b, ↓pz1_b, al_b, as_b, rc_b, gi_b, pi_b, gr_b, zr0, zr1, zrb, u_s, u_n, v_s, v_n, ↓isIn_b, ↓within_b, ite_T, ite_F, il_t, il_f, li_t, li_f, it_t, it_f, ti_t, ti_f, ie_t, ie_f, ei_t, ei_f, nn_le_t, nn_le_f, nn_lt_t, nn_lt_f, nn_eq_t, nn_eq_f, nI_1, nI_add, ni_addl, ni_ladd, pk_mul, ni_mull, b2_t, b2_f, b2_0, one0, m1_eq, ni_m1, reduceCtorEq, Bool.false_eq_true, nI_clamp, if_true, Option.some.injEq, Prod.mk.injEq, and_true, true_and, Nat.reduceAdd, Nat.reduceMul, Nat.reduceSub, Nat.reduceEqDiff, Nat.reduceLeDiff, Nat.reduceLT, ↓an_b (s := s) (a := 10) (t := 0) (m := 12), e10, E3, e3, hmin, hmax]
          refine main _ (fun b j hb => by rw [u_n (by omega), u_n (by omega)]) (by rw [u_s]) (by rw [u_n (by omega), u_s, ei]; rfl)
set_option maxHeartbeats 4000000 in
set_option maxRecDepth 100000 in
theorem c_gather (hW : pu_W s P) (hnb : nb ≤ 12) (hl : ∀ b t, b < 12 → l b = some t → t ≤ 96) (h10 : ∀ j, j < 12 → I 10 j = oI (l j)) : Rn (fX1_gather 36 (some 10) (nI nb) (pu_hp s I P J n)) fun h => ∃ I', h = pu_hp s I' P J n ∧ EVk I' l nb 12 ∧ ∀ b j, ¬ (36 ≤ b ∧ b ≤ 38) → I' b j = I b j := by
  unfold fX1_gather
  simp (disch := first | assumption | with_unfolding_all exact hW.1 _ _ rfl | rfl | exact pu_okI (by first | assumption | with_unfolding_all exact hW.1 _ _ rfl) (by omega) (by omega) | exact pu_oqI (by first | assumption | with_unfolding_all exact hW.1 _ _ rfl) (by omega) (by omega) | omega | decide) only [↓reduceIte, ↓gi_b, ↓pi_b, ↓gr_b, ↓pr_b, ↓al_b, ↓as_b, ↓al_3, ↓as_3, ↓al_12, ↓as_12, ↓al_l, ↓as_l, ↓rc_b, ↓Option.bind_some, ↓zr0_b, ↓zr1_b, ↓zrb_b, ↓pz0_b, ↓pz1_b, al_b, as_b, rc_b, gi_b, pi_b, gr_b, zr0, zr1, zrb, u_s, u_n, v_s, v_n, ↓isIn_b, ↓within_b, ite_T, ite_F, il_t, il_f, li_t, li_f, it_t, it_f, ti_t, ti_f, ie_t, ie_f, ei_t, ei_f, nn_le_t, nn_le_f, nn_lt_t, nn_lt_f, nn_eq_t, nn_eq_f, nI_1, nI_add, ni_addl, ni_ladd, pk_mul, ni_mull, b2_t, b2_f, b2_0, one0, m1_eq, ni_m1, reduceCtorEq, Bool.false_eq_true, nI_clamp, if_true, Option.some.injEq, Prod.mk.injEq, and_true, true_and, Nat.reduceAdd, Nat.reduceMul, Nat.reduceSub, Nat.reduceEqDiff, Nat.reduceLeDiff, Nat.reduceLT, ↓gr36_0 hW]
  refine Rn_bind (r_fill (m := 96) (hW.1 37 _ rfl) (by omega)) ?_
  rintro _ ⟨I1, rfl, a1, a2⟩
  simp (disch := first | assumption | with_unfolding_all exact hW.1 _ _ rfl | rfl | exact pu_okI (by first | assumption | with_unfolding_all exact hW.1 _ _ rfl) (by omega) (by omega) | exact pu_oqI (by first | assumption | with_unfolding_all exact hW.1 _ _ rfl) (by omega) (by omega) | omega | decide) only [↓reduceIte, ↓gi_b, ↓pi_b, ↓gr_b, ↓pr_b, ↓al_b, ↓as_b, ↓al_3, ↓as_3, ↓al_12, ↓as_12, ↓al_l, ↓as_l, ↓rc_b, ↓Option.bind_some, ↓zr0_b, ↓zr1_b, ↓zrb_b, ↓pz0_b, ↓pz1_b, al_b, as_b, rc_b, gi_b, pi_b, gr_b, zr0, zr1, zrb, u_s, u_n, v_s, v_n, ↓isIn_b, ↓within_b, ite_T, ite_F, il_t, il_f, li_t, li_f, it_t, it_f, ti_t, ti_f, ie_t, ie_f, ei_t, ei_f, nn_le_t, nn_le_f, nn_lt_t, nn_lt_f, nn_eq_t, nn_eq_f, nI_1, nI_add, ni_addl, ni_ladd, pk_mul, ni_mull, b2_t, b2_f, b2_0, one0, m1_eq, ni_m1, reduceCtorEq, Bool.false_eq_true, nI_clamp, if_true, Option.some.injEq, Prod.mk.injEq, and_true, true_and, Nat.reduceAdd, Nat.reduceMul, Nat.reduceSub, Nat.reduceEqDiff, Nat.reduceLeDiff, Nat.reduceLT, ↓gr36_1 hW]
  refine Rn_bind (r_fill (m := 96) (hW.1 38 _ rfl) (by omega)) ?_
  rintro _ ⟨I2, rfl, d1, d2⟩
  simp (disch := first | assumption | with_unfolding_all exact hW.1 _ _ rfl | rfl | exact pu_okI (by first | assumption | with_unfolding_all exact hW.1 _ _ rfl) (by omega) (by omega) | exact pu_oqI (by first | assumption | with_unfolding_all exact hW.1 _ _ rfl) (by omega) (by omega) | omega | decide) only [↓reduceIte, ↓gi_b, ↓pi_b, ↓gr_b, ↓pr_b, ↓al_b, ↓as_b, ↓al_3, ↓as_3, ↓al_12, ↓as_12, ↓al_l, ↓as_l, ↓rc_b, ↓Option.bind_some, ↓zr0_b, ↓zr1_b, ↓zrb_b, ↓pz0_b, ↓pz1_b, al_b, as_b, rc_b, gi_b, pi_b, gr_b, zr0, zr1, zrb, u_s, u_n, v_s, v_n, ↓isIn_b, ↓within_b, ite_T, ite_F, il_t, il_f, li_t, li_f, it_t, it_f, ti_t, ti_f, ie_t, ie_f, ei_t, ei_f, nn_le_t, nn_le_f, nn_lt_t, nn_lt_f, nn_eq_t, nn_eq_f, nI_1, nI_add, ni_addl, ni_ladd, pk_mul, ni_mull, b2_t, b2_f, b2_0, one0, m1_eq, ni_m1, reduceCtorEq, Bool.false_eq_true, nI_clamp, if_true, Option.some.injEq, Prod.mk.injEq, and_true, true_and, Nat.reduceAdd, Nat.reduceMul, Nat.reduceSub, Nat.reduceEqDiff, Nat.reduceLeDiff, Nat.reduceLT]
  rw [show (0 : Int32) = nI 0 from rfl]
  refine Rn_mono (c_gather29 hW hnb hl 12 0 am_fu _ (by omega) (by unfold am_fu; omega) (fun j hj => by rw [u_n (by omega), u_n (by omega), d2 _ _ (by omega), a2 _ _ (by omega)]; exact h10 j hj) ⟨fun t ht => ⟨?_, ?_⟩, ?_, ?_⟩) ?_
  · rw [u_n (by omega), u_n (by omega), d2 _ _ (by omega), a1 t ht]; rfl
  · rw [u_n (by omega), u_n (by omega), d1 t ht]; rfl
  · rw [u_n (by omega), u_s]; rfl
  · rw [u_s]; rfl
  · rintro _ ⟨I', rfl, b1, b2'⟩
    exact ⟨I', rfl, b1, fun b j hb => by rw [b2' b j hb, u_n (by omega), u_n (by omega), d2 _ _ (by omega), a2 _ _ (by omega)]⟩
set_option maxHeartbeats 4000000 in
set_option maxRecDepth 100000 in
theorem c_allows (hW : pu_W s P) (hE : EVk I l nb 12) {t d : Nat} (ht : t < 96) (hd : d ≤ 12) : fX1_allows 36 (nI t) (nI d) (pu_hp s I P J n) = some (b2 (alw l t d), pu_hp s I P J n) := by
  obtain ⟨e1, e2⟩ := hE.1 t ht
  have hlo := loR_le (l := l) (t := t) 12
  have hhi := hiR_le (l := l) (t := t) 12
  have eb : inB (nI d) (nI (loR l t 12)) (nI (hiR l t 12)) = alw l t d := by
    unfold inB alw
    rw [show decide (nI (loR l t 12) ≤ nI d) = decide (loR l t 12 ≤ d) from decide_eq_decide.mpr (nI_leI (by omega) (by omega)), show decide (nI d ≤ nI (hiR l t 12)) = decide (d ≤ hiR l t 12) from decide_eq_decide.mpr (nI_leI (by omega) (by omega))]
  have e95 : inB (nI t) 0 95 = true := inB_t (lo := 0) (hi := 95) (Nat.zero_le _) (by omega) (by omega)
  unfold fX1_allows fX8_isTick
  cases ea : alw l t d with
  | true =>
    rw [ea] at eb
    simp (disch := first | assumption | with_unfolding_all exact hW.1 _ _ rfl | rfl | exact pu_okI (by first | assumption | with_unfolding_all exact hW.1 _ _ rfl) (by omega) (by omega) | exact pu_oqI (by first | assumption | with_unfolding_all exact hW.1 _ _ rfl) (by omega) (by omega) | omega | decide) only [↓reduceIte, ↓gi_b, ↓pi_b, ↓gr_b, ↓pr_b, ↓al_b, ↓as_b, ↓al_3, ↓as_3, ↓al_12, ↓as_12, ↓al_l, ↓as_l, ↓rc_b, ↓Option.bind_some, ↓zr0_b, ↓zr1_b, ↓zrb_b, ↓pz0_b, ↓pz1_b, al_b, as_b, rc_b, gi_b, pi_b, gr_b, zr0, zr1, zrb, u_s, u_n, v_s, v_n, ↓isIn_b, ↓within_b, ite_T, ite_F, il_t, il_f, li_t, li_f, it_t, it_f, ti_t, ti_f, ie_t, ie_f, ei_t, ei_f, nn_le_t, nn_le_f, nn_lt_t, nn_lt_f, nn_eq_t, nn_eq_f, nI_1, nI_add, ni_addl, ni_ladd, pk_mul, ni_mull, b2_t, b2_f, b2_0, one0, m1_eq, ni_m1, reduceCtorEq, Bool.false_eq_true, nI_clamp, if_true, Option.some.injEq, Prod.mk.injEq, and_true, true_and, Nat.reduceAdd, Nat.reduceMul, Nat.reduceSub, Nat.reduceEqDiff, Nat.reduceLeDiff, Nat.reduceLT, e95, ↓gr36_0 hW, ↓gr36_1 hW, e1, e2, eb]
  | false =>
    rw [ea] at eb
    simp (disch := first | assumption | with_unfolding_all exact hW.1 _ _ rfl | rfl | exact pu_okI (by first | assumption | with_unfolding_all exact hW.1 _ _ rfl) (by omega) (by omega) | exact pu_oqI (by first | assumption | with_unfolding_all exact hW.1 _ _ rfl) (by omega) (by omega) | omega | decide) only [↓reduceIte, ↓gi_b, ↓pi_b, ↓gr_b, ↓pr_b, ↓al_b, ↓as_b, ↓al_3, ↓as_3, ↓al_12, ↓as_12, ↓al_l, ↓as_l, ↓rc_b, ↓Option.bind_some, ↓zr0_b, ↓zr1_b, ↓zrb_b, ↓pz0_b, ↓pz1_b, al_b, as_b, rc_b, gi_b, pi_b, gr_b, zr0, zr1, zrb, u_s, u_n, v_s, v_n, ↓isIn_b, ↓within_b, ite_T, ite_F, il_t, il_f, li_t, li_f, it_t, it_f, ti_t, ti_f, ie_t, ie_f, ei_t, ei_f, nn_le_t, nn_le_f, nn_lt_t, nn_lt_f, nn_eq_t, nn_eq_f, nI_1, nI_add, ni_addl, ni_ladd, pk_mul, ni_mull, b2_t, b2_f, b2_0, one0, m1_eq, ni_m1, reduceCtorEq, Bool.false_eq_true, nI_clamp, if_true, Option.some.injEq, Prod.mk.injEq, and_true, true_and, Nat.reduceAdd, Nat.reduceMul, Nat.reduceSub, Nat.reduceEqDiff, Nat.reduceLeDiff, Nat.reduceLT, e95, ↓gr36_0 hW, ↓gr36_1 hW, e1, e2, eb]
set_option maxHeartbeats 4000000 in
set_option maxRecDepth 100000 in
theorem c_agr17 (hW : pu_W s P) {K : S_K} {F : S_F} {w r c f : Nat} (hK : S_KB K) (hF : S_FB F) (hw : 50 ≤ w ∧ w ≤ 150) (hr : r + 2 < 36) : ∀ (m t N : Nat) (I : Nat → Nat → Int32), (t + m = ltN l ∨ (m = 0 ∧ ltN l ≤ t)) → t ≤ 96 → m < N → EVk I l nb 12 → RunR s K F w t I P r c f →
    Rn (fX8_agreesFromHere_17 N (some 1) (some r) (nI t) (pu_hp s I P J n)) fun y => ∃ I', y = (b2 (agR l (xd K F w) m t), pu_hp s I' P J n) ∧ R_F r I I' := by
  have hle := ltN_le (l := l)
  intro m
  induction m with
  | zero =>
    intro t N I ht ht9 hN hE hR
    obtain ⟨N, rfl⟩ : ∃ N', N = N' + 1 := ⟨N - 1, by omega⟩
    have e2 := hE.2.1
    have elt : (oI (ltR l 12) < nI t) = True := by
      cases e : ltR l 12 with
      | none => exact eq_true (Int32.lt_of_lt_of_le (by decide : (-1 : Int32) < 0) (nI_pos' (by omega)))
      | some y =>
        have hN2 : ltN l = y + 1 := by unfold ltN; rw [e]
        rw [show oI (some y) = nI y from rfl, ni_lt (by omega) (by omega)]
        exact eq_true (by omega)
    show Rn (fX8_agreesFromHere_17_b _ _ _ _ _) _
    unfold fX8_agreesFromHere_17_b
    simp (disch := first | assumption | with_unfolding_all exact hW.1 _ _ rfl | rfl | exact pu_okI (by first | assumption | with_unfolding_all exact hW.1 _ _ rfl) (by omega) (by omega) | exact pu_oqI (by first | assumption | with_unfolding_all exact hW.1 _ _ rfl) (by omega) (by omega) | omega | decide) only [↓reduceIte, ↓gi_b, ↓pi_b, ↓gr_b, ↓pr_b, ↓al_b, ↓as_b, ↓al_3, ↓as_3, ↓al_12, ↓as_12, ↓al_l, ↓as_l, ↓rc_b, ↓Option.bind_some, ↓zr0_b, ↓zr1_b, ↓zrb_b, ↓pz0_b, ↓pz1_b, al_b, as_b, rc_b, gi_b, pi_b, gr_b, zr0, zr1, zrb, u_s, u_n, v_s, v_n, ↓isIn_b, ↓within_b, ite_T, ite_F, il_t, il_f, li_t, li_f, it_t, it_f, ti_t, ti_f, ie_t, ie_f, ei_t, ei_f, nn_le_t, nn_le_f, nn_lt_t, nn_lt_f, nn_eq_t, nn_eq_f, nI_1, nI_add, ni_addl, ni_ladd, pk_mul, ni_mull, b2_t, b2_f, b2_0, one0, m1_eq, ni_m1, reduceCtorEq, Bool.false_eq_true, nI_clamp, if_true, Option.some.injEq, Prod.mk.injEq, and_true, true_and, Nat.reduceAdd, Nat.reduceMul, Nat.reduceSub, Nat.reduceEqDiff, Nat.reduceLeDiff, Nat.reduceLT, ↓gr1_17 hW, e2, elt]
    exact Rn_some ⟨I, rfl, fun _ _ _ => rfl⟩
  | succ m ih =>
    intro t N I ht ht9 hN hE hR
    obtain ⟨N, rfl⟩ : ∃ N', N = N' + 1 := ⟨N - 1, by omega⟩
    have ht' : t + (m + 1) = ltN l := by omega
    have e2 := hE.2.1
    have elt : (oI (ltR l 12) < nI t) = False := by
      cases e : ltR l 12 with
      | none =>
        have hN2 : ltN l = 0 := by unfold ltN; rw [e]
        omega
      | some y =>
        have hN2 : ltN l = y + 1 := by unfold ltN; rw [e]
        have := ltR_le 12 y e
        rw [show oI (some y) = nI y from rfl, ni_lt (by omega) (by omega)]
        exact eq_false (by omega)
    obtain ⟨h4, h5, h6, h7, h8⟩ := hR
    have r1 := h4.1
    show Rn (fX8_agreesFromHere_17_b (fX8_agreesFromHere_17 N) _ _ _ _) _
    unfold fX8_agreesFromHere_17_b
    simp (disch := first | assumption | with_unfolding_all exact hW.1 _ _ rfl | rfl | exact pu_okI (by first | assumption | with_unfolding_all exact hW.1 _ _ rfl) (by omega) (by omega) | exact pu_oqI (by first | assumption | with_unfolding_all exact hW.1 _ _ rfl) (by omega) (by omega) | omega | decide) only [↓reduceIte, ↓gi_b, ↓pi_b, ↓gr_b, ↓pr_b, ↓al_b, ↓as_b, ↓al_3, ↓as_3, ↓al_12, ↓as_12, ↓al_l, ↓as_l, ↓rc_b, ↓Option.bind_some, ↓zr0_b, ↓zr1_b, ↓zrb_b, ↓pz0_b, ↓pz1_b, al_b, as_b, rc_b, gi_b, pi_b, gr_b, zr0, zr1, zrb, u_s, u_n, v_s, v_n, ↓isIn_b, ↓within_b, ite_T, ite_F, il_t, il_f, li_t, li_f, it_t, it_f, ti_t, ti_f, ie_t, ie_f, ei_t, ei_f, nn_le_t, nn_le_f, nn_lt_t, nn_lt_f, nn_eq_t, nn_eq_f, nI_1, nI_add, ni_addl, ni_ladd, pk_mul, ni_mull, b2_t, b2_f, b2_0, one0, m1_eq, ni_m1, reduceCtorEq, Bool.false_eq_true, nI_clamp, if_true, Option.some.injEq, Prod.mk.injEq, and_true, true_and, Nat.reduceAdd, Nat.reduceMul, Nat.reduceSub, Nat.reduceEqDiff, Nat.reduceLeDiff, Nat.reduceLT, ↓gr1_17 hW, e2, elt]
    refine Rn_bind (r_advance h4 h5 hK hF (by omega) hw h6 h7 (S_at_b hK hF t) h8) ?_
    rintro _ ⟨I1, rfl, f1, g1⟩
    have hE1 : EVk I1 l nb 12 := hE.fr fun b j q1 q2 => f1 b j (by omega)
    have e10 : I1 r 10 = nI (xd K F w (t + 1)) := g1.2.2.2.2.2.2.2.1
    have hal := c_allows (J := J) (n := n) hW hE1 (show t < 96 by omega) (xd_le (w := w) (t := t + 1) hK hF)
    cases ea : alw l t (xd K F w (t + 1)) with
    | false =>
      rw [ea] at hal
      simp (disch := first | assumption | with_unfolding_all exact hW.1 _ _ rfl | rfl | exact pu_okI (by first | assumption | with_unfolding_all exact hW.1 _ _ rfl) (by omega) (by omega) | exact pu_oqI (by first | assumption | with_unfolding_all exact hW.1 _ _ rfl) (by omega) (by omega) | omega | decide) only [↓reduceIte, ↓gi_b, ↓pi_b, ↓gr_b, ↓pr_b, ↓al_b, ↓as_b, ↓al_3, ↓as_3, ↓al_12, ↓as_12, ↓al_l, ↓as_l, ↓rc_b, ↓Option.bind_some, ↓zr0_b, ↓zr1_b, ↓zrb_b, ↓pz0_b, ↓pz1_b, al_b, as_b, rc_b, gi_b, pi_b, gr_b, zr0, zr1, zrb, u_s, u_n, v_s, v_n, ↓isIn_b, ↓within_b, ite_T, ite_F, il_t, il_f, li_t, li_f, it_t, it_f, ti_t, ti_f, ie_t, ie_f, ei_t, ei_f, nn_le_t, nn_le_f, nn_lt_t, nn_lt_f, nn_eq_t, nn_eq_f, nI_1, nI_add, ni_addl, ni_ladd, pk_mul, ni_mull, b2_t, b2_f, b2_0, one0, m1_eq, ni_m1, reduceCtorEq, Bool.false_eq_true, nI_clamp, if_true, Option.some.injEq, Prod.mk.injEq, and_true, true_and, Nat.reduceAdd, Nat.reduceMul, Nat.reduceSub, Nat.reduceEqDiff, Nat.reduceLeDiff, Nat.reduceLT, ↓gr1_17 hW, e10, hal]
      refine Rn_some ⟨I1, ?_, f1⟩
      show _ = (b2 (alw l t (xd K F w (t + 1)) && agR l (xd K F w) m (t + 1)), _)
      rw [ea]; rfl
    | true =>
      rw [ea] at hal
      simp (disch := first | assumption | with_unfolding_all exact hW.1 _ _ rfl | rfl | exact pu_okI (by first | assumption | with_unfolding_all exact hW.1 _ _ rfl) (by omega) (by omega) | exact pu_oqI (by first | assumption | with_unfolding_all exact hW.1 _ _ rfl) (by omega) (by omega) | omega | decide) only [↓reduceIte, ↓gi_b, ↓pi_b, ↓gr_b, ↓pr_b, ↓al_b, ↓as_b, ↓al_3, ↓as_3, ↓al_12, ↓as_12, ↓al_l, ↓as_l, ↓rc_b, ↓Option.bind_some, ↓zr0_b, ↓zr1_b, ↓zrb_b, ↓pz0_b, ↓pz1_b, al_b, as_b, rc_b, gi_b, pi_b, gr_b, zr0, zr1, zrb, u_s, u_n, v_s, v_n, ↓isIn_b, ↓within_b, ite_T, ite_F, il_t, il_f, li_t, li_f, it_t, it_f, ti_t, ti_f, ie_t, ie_f, ei_t, ei_f, nn_le_t, nn_le_f, nn_lt_t, nn_lt_f, nn_eq_t, nn_eq_f, nI_1, nI_add, ni_addl, ni_ladd, pk_mul, ni_mull, b2_t, b2_f, b2_0, one0, m1_eq, ni_m1, reduceCtorEq, Bool.false_eq_true, nI_clamp, if_true, Option.some.injEq, Prod.mk.injEq, and_true, true_and, Nat.reduceAdd, Nat.reduceMul, Nat.reduceSub, Nat.reduceEqDiff, Nat.reduceLeDiff, Nat.reduceLT, ↓gr1_17 hW, e10, hal]
      refine Rn_mono (ih (t + 1) N I1 (Or.inl (by omega)) (by omega) (by omega) hE1 ⟨h4, h5, f1.c h6 h4.2.2.2.2.2.2.2.2.1, f1.f h7 h4.2.2.2.2.2.2.2.2.2, g1⟩) ?_
      rintro _ ⟨I2, rfl, f2⟩
      refine ⟨I2, ?_, f1.t f2⟩
      show _ = (b2 (alw l t (xd K F w (t + 1)) && agR l (xd K F w) m (t + 1)), _)
      rw [ea]; rfl
set_option maxHeartbeats 4000000 in
set_option maxRecDepth 100000 in
theorem c_agrees (hW : pu_W s P) {K : S_K} {F : S_F} {w r c f t : Nat} (hK : S_KB K) (hF : S_FB F) (hw : 50 ≤ w ∧ w ≤ 150) (hr : r + 2 < 36) (ht : t ≤ 96) (hE : EVk I l nb 12) (hR : RunR s K F w t I P r c f) :
    Rn (fX8_agreesFromHere 1 (some r) (pu_hp s I P J n)) fun y => ∃ I', y = (b2 (!impR l nb 12 && agR l (xd K F w) (ltN l - t) t), pu_hp s I' P J n) ∧ R_F r I I' := by
  have r1 := hR.1.1
  have e3 := hE.2.2
  have e33 := hR.2.2.2.2.2.1
  have hle := ltN_le (l := l)
  unfold fX8_agreesFromHere
  cases ei : impR l nb 12 with
  | true =>
    rw [ei] at e3
    simp (disch := first | assumption | with_unfolding_all exact hW.1 _ _ rfl | rfl | exact pu_okI (by first | assumption | with_unfolding_all exact hW.1 _ _ rfl) (by omega) (by omega) | exact pu_oqI (by first | assumption | with_unfolding_all exact hW.1 _ _ rfl) (by omega) (by omega) | omega | decide) only [↓reduceIte, ↓gi_b, ↓pi_b, ↓gr_b, ↓pr_b, ↓al_b, ↓as_b, ↓al_3, ↓as_3, ↓al_12, ↓as_12, ↓al_l, ↓as_l, ↓rc_b, ↓Option.bind_some, ↓zr0_b, ↓zr1_b, ↓zrb_b, ↓pz0_b, ↓pz1_b, al_b, as_b, rc_b, gi_b, pi_b, gr_b, zr0, zr1, zrb, u_s, u_n, v_s, v_n, ↓isIn_b, ↓within_b, ite_T, ite_F, il_t, il_f, li_t, li_f, it_t, it_f, ti_t, ti_f, ie_t, ie_f, ei_t, ei_f, nn_le_t, nn_le_f, nn_lt_t, nn_lt_f, nn_eq_t, nn_eq_f, nI_1, nI_add, ni_addl, ni_ladd, pk_mul, ni_mull, b2_t, b2_f, b2_0, one0, m1_eq, ni_m1, reduceCtorEq, Bool.false_eq_true, nI_clamp, if_true, Option.some.injEq, Prod.mk.injEq, and_true, true_and, Nat.reduceAdd, Nat.reduceMul, Nat.reduceSub, Nat.reduceEqDiff, Nat.reduceLeDiff, Nat.reduceLT, ↓gr1_17 hW, e3]
    exact Rn_some ⟨I, rfl, fun _ _ _ => rfl⟩
  | false =>
    rw [ei] at e3
    simp (disch := first | assumption | with_unfolding_all exact hW.1 _ _ rfl | rfl | exact pu_okI (by first | assumption | with_unfolding_all exact hW.1 _ _ rfl) (by omega) (by omega) | exact pu_oqI (by first | assumption | with_unfolding_all exact hW.1 _ _ rfl) (by omega) (by omega) | omega | decide) only [↓reduceIte, ↓gi_b, ↓pi_b, ↓gr_b, ↓pr_b, ↓al_b, ↓as_b, ↓al_3, ↓as_3, ↓al_12, ↓as_12, ↓al_l, ↓as_l, ↓rc_b, ↓Option.bind_some, ↓zr0_b, ↓zr1_b, ↓zrb_b, ↓pz0_b, ↓pz1_b, al_b, as_b, rc_b, gi_b, pi_b, gr_b, zr0, zr1, zrb, u_s, u_n, v_s, v_n, ↓isIn_b, ↓within_b, ite_T, ite_F, il_t, il_f, li_t, li_f, it_t, it_f, ti_t, ti_f, ie_t, ie_f, ei_t, ei_f, nn_le_t, nn_le_f, nn_lt_t, nn_lt_f, nn_eq_t, nn_eq_f, nI_1, nI_add, ni_addl, ni_ladd, pk_mul, ni_mull, b2_t, b2_f, b2_0, one0, m1_eq, ni_m1, reduceCtorEq, Bool.false_eq_true, nI_clamp, if_true, Option.some.injEq, Prod.mk.injEq, and_true, true_and, Nat.reduceAdd, Nat.reduceMul, Nat.reduceSub, Nat.reduceEqDiff, Nat.reduceLeDiff, Nat.reduceLT, ↓gr1_17 hW, e3, e33]
    exact c_agr17 hW hK hF hw hr (ltN l - t) t am_fu I (by omega) ht (by unfold am_fu; omega) hE hR
set_option maxHeartbeats 4000000 in
set_option maxRecDepth 100000 in
theorem m_agr4 {Z : S_Z} {i : Nat} (hZ : Z_B Z) (hM : InvM s I P Z) (hi : i < znc Z) {K : S_K} (hKn : knb K = knb (zK Z i)) {X : S_X} (hx : S_XB K 96 X) (hI : M_R I 96 K X) : ∀ (m b N : Nat), b + m = 12 → m < N → fX9_agreesNow_4 N (some 40) (nI i) (b2 (AGb K X (tl (zT Z)) b)) (nI b) (pu_hp s I P J n) = some (b2 (AGb K X (tl (zT Z)) 12), pu_hp s I P J n) := by
  have hW := hM.1
  have hnc := hZ.1.1
  have hnb := (hZ.1.2 i hi).1.2.2.2.2.2.1
  have e48 := (hM.2.2.2.1 i hi).1.2.2.2.1
  have t2 := hM.2.2.2.2.2.2.1.2.1
  have tb := hZ.2.2.2.1.2.1
  intro m
  induction m with
  | zero =>
    intro b N hb hN
    obtain ⟨N, rfl⟩ : ∃ N', N = N' + 1 := ⟨N - 1, by omega⟩
    obtain rfl : b = 12 := by omega
    show fX9_agreesNow_4_b _ _ _ _ _ _ = _
    unfold fX9_agreesNow_4_b
    simp (disch := first | assumption | with_unfolding_all exact hW.1 _ _ rfl | rfl | exact pu_okI (by first | assumption | with_unfolding_all exact hW.1 _ _ rfl) (by omega) (by omega) | exact pu_oqI (by first | assumption | with_unfolding_all exact hW.1 _ _ rfl) (by omega) (by omega) | omega | decide) only [↓reduceIte, ↓gi_b, ↓pi_b, ↓gr_b, ↓pr_b, ↓al_b, ↓as_b, ↓al_3, ↓as_3, ↓al_12, ↓as_12, ↓al_l, ↓as_l, ↓rc_b, ↓Option.bind_some, ↓zr0_b, ↓zr1_b, ↓zrb_b, ↓pz0_b, ↓pz1_b, al_b, as_b, rc_b, gi_b, pi_b, gr_b, zr0, zr1, zrb, u_s, u_n, v_s, v_n, ↓isIn_b, ↓within_b, ite_T, ite_F, il_t, il_f, li_t, li_f, it_t, it_f, ti_t, ti_f, ie_t, ie_f, ei_t, ei_f, nn_le_t, nn_le_f, nn_lt_t, nn_lt_f, nn_eq_t, nn_eq_f, nI_1, nI_add, ni_addl, ni_ladd, pk_mul, ni_mull, b2_t, b2_f, b2_0, one0, m1_eq, ni_m1, reduceCtorEq, Bool.false_eq_true, nI_clamp, if_true, Option.some.injEq, Prod.mk.injEq, and_true, true_and, Nat.reduceAdd, Nat.reduceMul, Nat.reduceSub, Nat.reduceEqDiff, Nat.reduceLeDiff, Nat.reduceLT]
  | succ m ih =>
    intro b N hb hN
    obtain ⟨N, rfl⟩ : ∃ N', N = N' + 1 := ⟨N - 1, by omega⟩
    have e59 := t2 b (by omega)
    have e70 := hI.2.2.2.2.2.2.2 b (by omega)
    have hd := dN_le hx (Nat.le_refl _) b
    have nxt : AGb K X (tl (zT Z)) (b + 1) = (AGb K X (tl (zT Z)) b && (match tl (zT Z) b with | none => true | some x => decide (b < knb K) && decide (dN X b = x))) := rfl
    have go : ∀ v, v = b2 (AGb K X (tl (zT Z)) (b + 1)) → fX9_agreesNow_4 N (some 40) (nI i) v (nI (b + 1)) (pu_hp s I P J n) = some (b2 (AGb K X (tl (zT Z)) 12), pu_hp s I P J n) := fun v hv => by
      rw [hv]; exact ih (b + 1) N (by omega) (by omega)
    have e70' : I 70 b = nI (dN X b) := e70
    show fX9_agreesNow_4_b (fX9_agreesNow_4 N) _ _ _ _ _ = _
    unfold fX9_agreesNow_4_b fX9_agreesNow_49 fX9_agreesNow_53 fX9_agreesNow_54
    cases ea : AGb K X (tl (zT Z)) b with
    | false =>
      rw [ea] at nxt
      simp (disch := first | assumption | with_unfolding_all exact hW.1 _ _ rfl | rfl | exact pu_okI (by first | assumption | with_unfolding_all exact hW.1 _ _ rfl) (by omega) (by omega) | exact pu_oqI (by first | assumption | with_unfolding_all exact hW.1 _ _ rfl) (by omega) (by omega) | omega | decide) only [↓reduceIte, ↓gi_b, ↓pi_b, ↓gr_b, ↓pr_b, ↓al_b, ↓as_b, ↓al_3, ↓as_3, ↓al_12, ↓as_12, ↓al_l, ↓as_l, ↓rc_b, ↓Option.bind_some, ↓zr0_b, ↓zr1_b, ↓zrb_b, ↓pz0_b, ↓pz1_b, al_b, as_b, rc_b, gi_b, pi_b, gr_b, zr0, zr1, zrb, u_s, u_n, v_s, v_n, ↓isIn_b, ↓within_b, ite_T, ite_F, il_t, il_f, li_t, li_f, it_t, it_f, ti_t, ti_f, ie_t, ie_f, ei_t, ei_f, nn_le_t, nn_le_f, nn_lt_t, nn_lt_f, nn_eq_t, nn_eq_f, nI_1, nI_add, ni_addl, ni_ladd, pk_mul, ni_mull, b2_t, b2_f, b2_0, one0, m1_eq, ni_m1, reduceCtorEq, Bool.false_eq_true, nI_clamp, if_true, Option.some.injEq, Prod.mk.injEq, and_true, true_and, Nat.reduceAdd, Nat.reduceMul, Nat.reduceSub, Nat.reduceEqDiff, Nat.reduceLeDiff, Nat.reduceLT]
      exact go 0 (by rw [nxt]; rfl)
    | true =>
      rw [ea] at nxt
      cases el : tl (zT Z) b with
      | none =>
        rw [el] at nxt e59
        rw [show oI none = (-1 : Int32) from rfl] at e59
        simp (disch := first | assumption | with_unfolding_all exact hW.1 _ _ rfl | rfl | exact pu_okI (by first | assumption | with_unfolding_all exact hW.1 _ _ rfl) (by omega) (by omega) | exact pu_oqI (by first | assumption | with_unfolding_all exact hW.1 _ _ rfl) (by omega) (by omega) | omega | decide) only [↓reduceIte, ↓gi_b, ↓pi_b, ↓gr_b, ↓pr_b, ↓al_b, ↓as_b, ↓al_3, ↓as_3, ↓al_12, ↓as_12, ↓al_l, ↓as_l, ↓rc_b, ↓Option.bind_some, ↓zr0_b, ↓zr1_b, ↓zrb_b, ↓pz0_b, ↓pz1_b, al_b, as_b, rc_b, gi_b, pi_b, gr_b, zr0, zr1, zrb, u_s, u_n, v_s, v_n, ↓isIn_b, ↓within_b, ite_T, ite_F, il_t, il_f, li_t, li_f, it_t, it_f, ti_t, ti_f, ie_t, ie_f, ei_t, ei_f, nn_le_t, nn_le_f, nn_lt_t, nn_lt_f, nn_eq_t, nn_eq_f, nI_1, nI_add, ni_addl, ni_ladd, pk_mul, ni_mull, b2_t, b2_f, b2_0, one0, m1_eq, ni_m1, reduceCtorEq, Bool.false_eq_true, nI_clamp, if_true, Option.some.injEq, Prod.mk.injEq, and_true, true_and, Nat.reduceAdd, Nat.reduceMul, Nat.reduceSub, Nat.reduceEqDiff, Nat.reduceLeDiff, Nat.reduceLT, ↓gr40_22 hW, ↓gr40_8 hW, ↓gr40_56 hW, e59]
        exact go 1 (by rw [nxt]; rfl)
      | some x =>
        have hxx := tb b x (by omega) el
        rw [el] at nxt e59
        rw [show oI (some x) = nI x from rfl] at e59
        by_cases hbn : b < knb (zK Z i)
        · by_cases hdx : dN X b = x
          · simp (disch := first | assumption | with_unfolding_all exact hW.1 _ _ rfl | rfl | exact pu_okI (by first | assumption | with_unfolding_all exact hW.1 _ _ rfl) (by omega) (by omega) | exact pu_oqI (by first | assumption | with_unfolding_all exact hW.1 _ _ rfl) (by omega) (by omega) | omega | decide) only [↓reduceIte, ↓gi_b, ↓pi_b, ↓gr_b, ↓pr_b, ↓al_b, ↓as_b, ↓al_3, ↓as_3, ↓al_12, ↓as_12, ↓al_l, ↓as_l, ↓rc_b, ↓Option.bind_some, ↓zr0_b, ↓zr1_b, ↓zrb_b, ↓pz0_b, ↓pz1_b, al_b, as_b, rc_b, gi_b, pi_b, gr_b, zr0, zr1, zrb, u_s, u_n, v_s, v_n, ↓isIn_b, ↓within_b, ite_T, ite_F, il_t, il_f, li_t, li_f, it_t, it_f, ti_t, ti_f, ie_t, ie_f, ei_t, ei_f, nn_le_t, nn_le_f, nn_lt_t, nn_lt_f, nn_eq_t, nn_eq_f, nI_1, nI_add, ni_addl, ni_ladd, pk_mul, ni_mull, b2_t, b2_f, b2_0, one0, m1_eq, ni_m1, reduceCtorEq, Bool.false_eq_true, nI_clamp, if_true, Option.some.injEq, Prod.mk.injEq, and_true, true_and, Nat.reduceAdd, Nat.reduceMul, Nat.reduceSub, Nat.reduceEqDiff, Nat.reduceLeDiff, Nat.reduceLT, ↓gr40_22 hW, ↓gr40_8 hW, ↓gr40_56 hW, e59, e48, e70']
            exact go 1 (by rw [nxt, hKn]; simp [hbn, hdx]; rfl)
          · simp (disch := first | assumption | with_unfolding_all exact hW.1 _ _ rfl | rfl | exact pu_okI (by first | assumption | with_unfolding_all exact hW.1 _ _ rfl) (by omega) (by omega) | exact pu_oqI (by first | assumption | with_unfolding_all exact hW.1 _ _ rfl) (by omega) (by omega) | omega | decide) only [↓reduceIte, ↓gi_b, ↓pi_b, ↓gr_b, ↓pr_b, ↓al_b, ↓as_b, ↓al_3, ↓as_3, ↓al_12, ↓as_12, ↓al_l, ↓as_l, ↓rc_b, ↓Option.bind_some, ↓zr0_b, ↓zr1_b, ↓zrb_b, ↓pz0_b, ↓pz1_b, al_b, as_b, rc_b, gi_b, pi_b, gr_b, zr0, zr1, zrb, u_s, u_n, v_s, v_n, ↓isIn_b, ↓within_b, ite_T, ite_F, il_t, il_f, li_t, li_f, it_t, it_f, ti_t, ti_f, ie_t, ie_f, ei_t, ei_f, nn_le_t, nn_le_f, nn_lt_t, nn_lt_f, nn_eq_t, nn_eq_f, nI_1, nI_add, ni_addl, ni_ladd, pk_mul, ni_mull, b2_t, b2_f, b2_0, one0, m1_eq, ni_m1, reduceCtorEq, Bool.false_eq_true, nI_clamp, if_true, Option.some.injEq, Prod.mk.injEq, and_true, true_and, Nat.reduceAdd, Nat.reduceMul, Nat.reduceSub, Nat.reduceEqDiff, Nat.reduceLeDiff, Nat.reduceLT, ↓gr40_22 hW, ↓gr40_8 hW, ↓gr40_56 hW, e59, e48, e70']
            exact go 0 (by rw [nxt, hKn]; simp [hbn, hdx]; rfl)
        · simp (disch := first | assumption | with_unfolding_all exact hW.1 _ _ rfl | rfl | exact pu_okI (by first | assumption | with_unfolding_all exact hW.1 _ _ rfl) (by omega) (by omega) | exact pu_oqI (by first | assumption | with_unfolding_all exact hW.1 _ _ rfl) (by omega) (by omega) | omega | decide) only [↓reduceIte, ↓gi_b, ↓pi_b, ↓gr_b, ↓pr_b, ↓al_b, ↓as_b, ↓al_3, ↓as_3, ↓al_12, ↓as_12, ↓al_l, ↓as_l, ↓rc_b, ↓Option.bind_some, ↓zr0_b, ↓zr1_b, ↓zrb_b, ↓pz0_b, ↓pz1_b, al_b, as_b, rc_b, gi_b, pi_b, gr_b, zr0, zr1, zrb, u_s, u_n, v_s, v_n, ↓isIn_b, ↓within_b, ite_T, ite_F, il_t, il_f, li_t, li_f, it_t, it_f, ti_t, ti_f, ie_t, ie_f, ei_t, ei_f, nn_le_t, nn_le_f, nn_lt_t, nn_lt_f, nn_eq_t, nn_eq_f, nI_1, nI_add, ni_addl, ni_ladd, pk_mul, ni_mull, b2_t, b2_f, b2_0, one0, m1_eq, ni_m1, reduceCtorEq, Bool.false_eq_true, nI_clamp, if_true, Option.some.injEq, Prod.mk.injEq, and_true, true_and, Nat.reduceAdd, Nat.reduceMul, Nat.reduceSub, Nat.reduceEqDiff, Nat.reduceLeDiff, Nat.reduceLT, ↓gr40_22 hW, ↓gr40_8 hW, ↓gr40_56 hW, e59, e48]
          exact go 0 (by rw [nxt, hKn]; simp [hbn]; rfl)
theorem m_agr {Z : S_Z} {i : Nat} (hZ : Z_B Z) (hM : InvM s I P Z) (hi : i < znc Z) {K : S_K} (hKn : knb K = knb (zK Z i)) {X : S_X} (hx : S_XB K 96 X) (hI : M_R I 96 K X) : fX9_agreesNow 40 (nI i) (pu_hp s I P J n) = some (b2 (AGb K X (tl (zT Z)) 12), pu_hp s I P J n) := m_agr4 hZ hM hi hKn hx hI 12 0 am_fu (by omega) (by unfold am_fu; omega)
end EV
