/-! sought: the reference; a run branched off -/
def oa : Option (Nat × Nat × Nat) → Int32
  | none => -1
  | some y => nI y.1
def ob : Option (Nat × Nat × Nat) → Int32
  | none => -1
  | some y => nI y.2.1
def oc : Option (Nat × Nat × Nat) → Int32
  | none => -1
  | some y => nI y.2.2
def soA (w : Int32) (x : SoX) : Int32 := if w = 0 then nI x.1 else if w = 1 then oa x.2 else if w = 2 then ob x.2 else oc x.2
def soD (K : S_K) (w : Nat) (l : S_L) (k v e f : Nat) : Bool := AGb K (S_at K (k, v, e, f) w true 96) l 12
section SO
variable {s : Nat → Option pu_S} {I : Nat → Nat → Int32} {P : Nat → Nat → Option Nat} {J : Nat → Nat → Int64} {n : Nat × Nat}
variable {Z : S_Z} {i j : Nat}
set_option maxHeartbeats 4000000 in
set_option maxRecDepth 100000 in
theorem m_so92 (hZ : Z_B Z) (hi : i < znc Z) (hj : j < 4) {k v e : Nat} {wh : Int32} (hk : k ≤ 4) (hv : v ≤ 2) (he : 1 ≤ e ∧ e ≤ 20) {k82 : Option Nat → Int32 → Int32 → Int32 → Int32 → Int32 → Int32 → Int32 → Int32 → Int32 → Int32 → am_H → Option (Int32 × am_H)} {Q : Int32 × am_H → Prop} : ∀ (m f N : Nat) (I : Nat → Nat → Int32) (x : SoX), f + m = 96 → m < N → InvM s I P Z → SoN x → x.1 + m ≤ 96 * e →
    (∀ I' y, y = soMi (soD (zK Z i) (tw (zT Z) j) (tl (zT Z)) k v) e m f x → RF I I' → SoN y → y.1 ≤ 96 * e → Rn (k82 (some 40) (nI i) (nI j) (nI k) (nI v) wh (nI y.1) (oa y.2) (ob y.2) (oc y.2) (nI (e + 1)) (pu_hp s I' P J n)) Q) →
    Rn (fX9_sought_92 k82 N (some 40) (nI i) (nI j) (nI k) (nI v) wh (nI x.1) (oa x.2) (ob x.2) (oc x.2) (nI e) (nI f) (pu_hp s I P J n)) Q := by
  have hnc := hZ.1.1
  have hK := (hZ.1.2 i hi).1
  intro m
  induction m with
  | zero =>
    intro f N I x hf hN hM hn hb kk
    obtain ⟨N, rfl⟩ : ∃ N', N = N' + 1 := ⟨N - 1, by omega⟩
    obtain rfl : f = 96 := by omega
    show Rn (fX9_sought_92_b _ _ _ _ _ _ _ _ _ _ _ _ _ _ _) _
    unfold fX9_sought_92_b
    simp (disch := first | assumption | with_unfolding_all exact hW.1 _ _ rfl | rfl | exact pu_okI (by first | assumption | with_unfolding_all exact hW.1 _ _ rfl) (by omega) (by omega) | exact pu_oqI (by first | assumption | with_unfolding_all exact hW.1 _ _ rfl) (by omega) (by omega) | omega | decide) only [↓reduceIte, ↓gi_b, ↓pi_b, ↓gr_b, ↓pr_b, ↓al_b, ↓as_b, ↓al_3, ↓as_3, ↓al_12, ↓as_12, ↓al_l, ↓as_l, ↓rc_b, ↓Option.bind_some, ↓zr0_b, ↓zr1_b, ↓zrb_b, ↓pz0_b, ↓pz1_b, al_b, as_b, rc_b, gi_b, pi_b, gr_b, zr0, zr1, zrb, u_s, u_n, v_s, v_n, ↓isIn_b, ↓within_b, ite_T, ite_F, il_t, il_f, li_t, li_f, it_t, it_f, ti_t, ti_f, ie_t, ie_f, ei_t, ei_f, nn_le_t, nn_le_f, nn_lt_t, nn_lt_f, nn_eq_t, nn_eq_f, nI_1, nI_add, ni_addl, ni_ladd, pk_mul, ni_mull, b2_t, b2_f, b2_0, one0, m1_eq, ni_m1, reduceCtorEq, Bool.false_eq_true, nI_clamp, if_true, Option.some.injEq, Prod.mk.injEq, and_true, true_and, Nat.reduceAdd, Nat.reduceMul, Nat.reduceSub, Nat.reduceEqDiff, Nat.reduceLeDiff, Nat.reduceLT]
    exact kk I x rfl (fun _ _ _ => rfl) hn (by omega)
  | succ m ih =>
    intro f N I x hf hN hM hn hb kk
    obtain ⟨N, rfl⟩ : ∃ N', N = N' + 1 := ⟨N - 1, by omega⟩
    have hF : S_FB (k, v, e, f) := ⟨hk, hv, he.2, (by omega : f ≤ 95)⟩
    have hW := hM.1
    have hld : Rn (fX9_load 40 (nI i) (-1) (pu_hp s I P J n)) _ := m_load (q := none) hZ hM hi (fun k hk => by cases hk)
    show Rn (fX9_sought_92_b k82 (fX9_sought_92 k82 N) _ _ _ _ _ _ _ _ _ _ _ _ _) _
    unfold fX9_sought_92_b fX9_sought_156 fX9_sought_170 fX9_sought_179
    simp (disch := first | assumption | with_unfolding_all exact hW.1 _ _ rfl | rfl | exact pu_okI (by first | assumption | with_unfolding_all exact hW.1 _ _ rfl) (by omega) (by omega) | exact pu_oqI (by first | assumption | with_unfolding_all exact hW.1 _ _ rfl) (by omega) (by omega) | omega | decide) only [↓reduceIte, ↓gi_b, ↓pi_b, ↓gr_b, ↓pr_b, ↓al_b, ↓as_b, ↓al_3, ↓as_3, ↓al_12, ↓as_12, ↓al_l, ↓as_l, ↓rc_b, ↓Option.bind_some, ↓zr0_b, ↓zr1_b, ↓zrb_b, ↓pz0_b, ↓pz1_b, al_b, as_b, rc_b, gi_b, pi_b, gr_b, zr0, zr1, zrb, u_s, u_n, v_s, v_n, ↓isIn_b, ↓within_b, ite_T, ite_F, il_t, il_f, li_t, li_f, it_t, it_f, ti_t, ti_f, ie_t, ie_f, ei_t, ei_f, nn_le_t, nn_le_f, nn_lt_t, nn_lt_f, nn_eq_t, nn_eq_f, nI_1, nI_add, ni_addl, ni_ladd, pk_mul, ni_mull, b2_t, b2_f, b2_0, one0, m1_eq, ni_m1, reduceCtorEq, Bool.false_eq_true, nI_clamp, if_true, Option.some.injEq, Prod.mk.injEq, and_true, true_and, Nat.reduceAdd, Nat.reduceMul, Nat.reduceSub, Nat.reduceEqDiff, Nat.reduceLeDiff, Nat.reduceLT]
    refine Rn_bind hld ?_
    rintro _ ⟨I1, rfl, f1, g1⟩
    have hM1 := L_F.inv hM f1
    have hW := hM1.1
    have f1' : RF I I1 := fun b j hb => f1 b j (by unfold scM at hb; omega) (by unfold scM at hb; omega)
    simp (disch := first | assumption | with_unfolding_all exact hW.1 _ _ rfl | rfl | exact pu_okI (by first | assumption | with_unfolding_all exact hW.1 _ _ rfl) (by omega) (by omega) | exact pu_oqI (by first | assumption | with_unfolding_all exact hW.1 _ _ rfl) (by omega) (by omega) | omega | decide) only [↓reduceIte, ↓gi_b, ↓pi_b, ↓gr_b, ↓pr_b, ↓al_b, ↓as_b, ↓al_3, ↓as_3, ↓al_12, ↓as_12, ↓al_l, ↓as_l, ↓rc_b, ↓Option.bind_some, ↓zr0_b, ↓zr1_b, ↓zrb_b, ↓pz0_b, ↓pz1_b, al_b, as_b, rc_b, gi_b, pi_b, gr_b, zr0, zr1, zrb, u_s, u_n, v_s, v_n, ↓isIn_b, ↓within_b, ite_T, ite_F, il_t, il_f, li_t, li_f, it_t, it_f, ti_t, ti_f, ie_t, ie_f, ei_t, ei_f, nn_le_t, nn_le_f, nn_lt_t, nn_lt_f, nn_eq_t, nn_eq_f, nI_1, nI_add, ni_addl, ni_ladd, pk_mul, ni_mull, b2_t, b2_f, b2_0, one0, m1_eq, ni_m1, reduceCtorEq, Bool.false_eq_true, nI_clamp, if_true, Option.some.injEq, Prod.mk.injEq, and_true, true_and, Nat.reduceAdd, Nat.reduceMul, Nat.reduceSub, Nat.reduceEqDiff, Nat.reduceLeDiff, Nat.reduceLT]
    generalize hI2 : pu_u (pu_u (pu_u (pu_u I1 40 46 (nI k)) 40 47 (nI v)) 40 48 (nI e)) 40 49 (nI f) = I2
    have fr : ∀ b j, ¬ (b = 40 ∧ 46 ≤ j ∧ j ≤ 49) → I2 b j = I1 b j := fun b j h1 => by rw [← hI2, u_n (by omega), u_n (by omega), u_n (by omega), u_n (by omega)]
    have f2 : RF I1 I2 := fun b j hb => fr b j (by unfold scM at hb; omega)
    have hM2 := f2.inv hM1
    have hl : M_L I2 (zK Z i) (k, v, e, f) true := by
      obtain ⟨a1, a2, a3, a4, a5, a6, a7⟩ := g1
      refine ⟨fun k hk => by rw [fr _ _ (by omega), a1 k hk], by rw [fr _ _ (by omega), a2], by rw [fr _ _ (by omega), a3], ?_, ?_, ?_, ?_⟩
      · rw [← hI2, u_n (by omega), u_n (by omega), u_n (by omega), u_s]
      · rw [← hI2, u_n (by omega), u_n (by omega), u_s]
      · rw [← hI2, u_n (by omega), u_s]
      · rw [← hI2, u_s]
    have hc2 := (hM2.2.2.2.1 i hi).1
    have hru : Rn (fX9_run 40 (nI i) (nI j) 95 (pu_hp s I2 P J n)) _ := m_runI (e := 95) (J := J) (n := n) hZ hM2 hi hj hF hK hc2 hl (by omega)
    refine Rn_bind hru ?_
    rintro _ ⟨I3, rfl, f3, g3, -⟩
    have f3' : RF I2 I3 := fun b j hb => f3 b j (by unfold scM at hb; omega) (by unfold scM at hb; omega)
    have hM3 := f3'.inv hM2
    have hW := hM3.1
    have f03 := (f1'.tr f2).tr f3'
    have eag := m_agr (J := J) (n := n) hZ hM3 hi rfl (S_at_b (w := tw (zT Z) j) (sip := true) hK hF 96) g3
    rw [show AGb (zK Z i) (S_at (zK Z i) (k, v, e, f) (tw (zT Z) j) true 96) (tl (zT Z)) 12 = soD (zK Z i) (tw (zT Z) j) (tl (zT Z)) k v e f from rfl] at eag
    have go : ∀ y, y = soM (soD (zK Z i) (tw (zT Z) j) (tl (zT Z)) k v) e f x → Rn (fX9_sought_92 k82 N (some 40) (nI i) (nI j) (nI k) (nI v) wh (nI y.1) (oa y.2) (ob y.2) (oc y.2) (nI e) (nI (f + 1)) (pu_hp s I3 P J n)) Q := by
      rintro _ rfl
      have hb1 : (soM (soD (zK Z i) (tw (zT Z) j) (tl (zT Z)) k v) e f x).1 ≤ x.1 + 1 := by rw [soM_1]; unfold dC; split <;> omega
      exact ih (f + 1) N I3 _ (by omega) (by omega) hM3 hn.st (by omega) fun I' y hy g1 g2 g3 => kk I' y hy (f03.tr g1) g2 g3
    unfold soM at go
    cases eB : soD (zK Z i) (tw (zT Z) j) (tl (zT Z)) k v e f with
    | false =>
      rw [eB, if_neg (by decide)] at go
      rw [eB] at eag
      simp (disch := first | assumption | with_unfolding_all exact hW.1 _ _ rfl | rfl | exact pu_okI (by first | assumption | with_unfolding_all exact hW.1 _ _ rfl) (by omega) (by omega) | exact pu_oqI (by first | assumption | with_unfolding_all exact hW.1 _ _ rfl) (by omega) (by omega) | omega | decide) only [↓reduceIte, ↓gi_b, ↓pi_b, ↓gr_b, ↓pr_b, ↓al_b, ↓as_b, ↓al_3, ↓as_3, ↓al_12, ↓as_12, ↓al_l, ↓as_l, ↓rc_b, ↓Option.bind_some, ↓zr0_b, ↓zr1_b, ↓zrb_b, ↓pz0_b, ↓pz1_b, al_b, as_b, rc_b, gi_b, pi_b, gr_b, zr0, zr1, zrb, u_s, u_n, v_s, v_n, ↓isIn_b, ↓within_b, ite_T, ite_F, il_t, il_f, li_t, li_f, it_t, it_f, ti_t, ti_f, ie_t, ie_f, ei_t, ei_f, nn_le_t, nn_le_f, nn_lt_t, nn_lt_f, nn_eq_t, nn_eq_f, nI_1, nI_add, ni_addl, ni_ladd, pk_mul, ni_mull, b2_t, b2_f, b2_0, one0, m1_eq, ni_m1, reduceCtorEq, Bool.false_eq_true, nI_clamp, if_true, Option.some.injEq, Prod.mk.injEq, and_true, true_and, Nat.reduceAdd, Nat.reduceMul, Nat.reduceSub, Nat.reduceEqDiff, Nat.reduceLeDiff, Nat.reduceLT, eag]
      exact go _ rfl
    | true =>
      rw [eB, if_pos rfl] at go
      rw [eB] at eag
      obtain ⟨c, o⟩ := x
      have hcb : c ≤ 96 * 20 := by have : c + (m + 1) ≤ 96 * e := hb; omega
      cases o with
      | none =>
        have h0 : c = 0 := hn.mpr rfl
        subst h0
        simp (disch := first | assumption | with_unfolding_all exact hW.1 _ _ rfl | rfl | exact pu_okI (by first | assumption | with_unfolding_all exact hW.1 _ _ rfl) (by omega) (by omega) | exact pu_oqI (by first | assumption | with_unfolding_all exact hW.1 _ _ rfl) (by omega) (by omega) | omega | decide) only [↓reduceIte, ↓gi_b, ↓pi_b, ↓gr_b, ↓pr_b, ↓al_b, ↓as_b, ↓al_3, ↓as_3, ↓al_12, ↓as_12, ↓al_l, ↓as_l, ↓rc_b, ↓Option.bind_some, ↓zr0_b, ↓zr1_b, ↓zrb_b, ↓pz0_b, ↓pz1_b, al_b, as_b, rc_b, gi_b, pi_b, gr_b, zr0, zr1, zrb, u_s, u_n, v_s, v_n, ↓isIn_b, ↓within_b, ite_T, ite_F, il_t, il_f, li_t, li_f, it_t, it_f, ti_t, ti_f, ie_t, ie_f, ei_t, ei_f, nn_le_t, nn_le_f, nn_lt_t, nn_lt_f, nn_eq_t, nn_eq_f, nI_1, nI_add, ni_addl, ni_ladd, pk_mul, ni_mull, b2_t, b2_f, b2_0, one0, m1_eq, ni_m1, reduceCtorEq, Bool.false_eq_true, nI_clamp, if_true, Option.some.injEq, Prod.mk.injEq, and_true, true_and, Nat.reduceAdd, Nat.reduceMul, Nat.reduceSub, Nat.reduceEqDiff, Nat.reduceLeDiff, Nat.reduceLT, eag]
        exact go _ rfl
      | some y =>
        have h0 : ¬ c = 0 := fun q => by have := hn.mp q; cases this
        simp (disch := first | assumption | with_unfolding_all exact hW.1 _ _ rfl | rfl | exact pu_okI (by first | assumption | with_unfolding_all exact hW.1 _ _ rfl) (by omega) (by omega) | exact pu_oqI (by first | assumption | with_unfolding_all exact hW.1 _ _ rfl) (by omega) (by omega) | omega | decide) only [↓reduceIte, ↓gi_b, ↓pi_b, ↓gr_b, ↓pr_b, ↓al_b, ↓as_b, ↓al_3, ↓as_3, ↓al_12, ↓as_12, ↓al_l, ↓as_l, ↓rc_b, ↓Option.bind_some, ↓zr0_b, ↓zr1_b, ↓zrb_b, ↓pz0_b, ↓pz1_b, al_b, as_b, rc_b, gi_b, pi_b, gr_b, zr0, zr1, zrb, u_s, u_n, v_s, v_n, ↓isIn_b, ↓within_b, ite_T, ite_F, il_t, il_f, li_t, li_f, it_t, it_f, ti_t, ti_f, ie_t, ie_f, ei_t, ei_f, nn_le_t, nn_le_f, nn_lt_t, nn_lt_f, nn_eq_t, nn_eq_f, nI_1, nI_add, ni_addl, ni_ladd, pk_mul, ni_mull, b2_t, b2_f, b2_0, one0, m1_eq, ni_m1, reduceCtorEq, Bool.false_eq_true, nI_clamp, if_true, Option.some.injEq, Prod.mk.injEq, and_true, true_and, Nat.reduceAdd, Nat.reduceMul, Nat.reduceSub, Nat.reduceEqDiff, Nat.reduceLeDiff, Nat.reduceLT, eag]
        exact go _ rfl
set_option maxHeartbeats 4000000 in
set_option maxRecDepth 100000 in
theorem m_so82 (hZ : Z_B Z) (hi : i < znc Z) (hj : j < 4) {k v : Nat} {wh : Int32} (hk : k ≤ 4) (hv : v ≤ 2) : ∀ (m e N : Nat) (I : Nat → Nat → Int32) (x : SoX), e + m = 21 → 1 ≤ e → m < N → InvM s I P Z → SoN x → x.1 ≤ 96 * (e - 1) →
    Rn (fX9_sought_82 N (some 40) (nI i) (nI j) (nI k) (nI v) wh (nI x.1) (oa x.2) (ob x.2) (oc x.2) (nI e) (pu_hp s I P J n)) fun y => ∃ I', y = (soA wh (soMo (soD (zK Z i) (tw (zT Z) j) (tl (zT Z)) k v) m e x), pu_hp s I' P J n) ∧ RF I I' := by
  intro m
  induction m with
  | zero =>
    intro e N I x he he1 hN hM hn hb
    obtain ⟨N, rfl⟩ : ∃ N', N = N' + 1 := ⟨N - 1, by omega⟩
    obtain rfl : e = 21 := by omega
    show Rn (fX9_sought_82_b _ _ _ _ _ _ _ _ _ _ _ _ _) _
    unfold fX9_sought_82_b
    simp (disch := first | assumption | with_unfolding_all exact hW.1 _ _ rfl | rfl | exact pu_okI (by first | assumption | with_unfolding_all exact hW.1 _ _ rfl) (by omega) (by omega) | exact pu_oqI (by first | assumption | with_unfolding_all exact hW.1 _ _ rfl) (by omega) (by omega) | omega | decide) only [↓reduceIte, ↓gi_b, ↓pi_b, ↓gr_b, ↓pr_b, ↓al_b, ↓as_b, ↓al_3, ↓as_3, ↓al_12, ↓as_12, ↓al_l, ↓as_l, ↓rc_b, ↓Option.bind_some, ↓zr0_b, ↓zr1_b, ↓zrb_b, ↓pz0_b, ↓pz1_b, al_b, as_b, rc_b, gi_b, pi_b, gr_b, zr0, zr1, zrb, u_s, u_n, v_s, v_n, ↓isIn_b, ↓within_b, ite_T, ite_F, il_t, il_f, li_t, li_f, it_t, it_f, ti_t, ti_f, ie_t, ie_f, ei_t, ei_f, nn_le_t, nn_le_f, nn_lt_t, nn_lt_f, nn_eq_t, nn_eq_f, nI_1, nI_add, ni_addl, ni_ladd, pk_mul, ni_mull, b2_t, b2_f, b2_0, one0, m1_eq, ni_m1, reduceCtorEq, Bool.false_eq_true, nI_clamp, if_true, Option.some.injEq, Prod.mk.injEq, and_true, true_and, Nat.reduceAdd, Nat.reduceMul, Nat.reduceSub, Nat.reduceEqDiff, Nat.reduceLeDiff, Nat.reduceLT]
    show Rn _ fun y => ∃ I', y = (soA wh x, pu_hp s I' P J n) ∧ RF I I'
    unfold soA
    by_cases h0 : wh = 0
    · rw [if_pos h0, if_pos h0]
      exact Rn_some ⟨I, rfl, fun _ _ _ => rfl⟩
    · by_cases h1 : wh = 1
      · rw [if_neg h0, if_neg h0, if_pos h1, if_pos h1]
        exact Rn_some ⟨I, rfl, fun _ _ _ => rfl⟩
      · by_cases h2 : wh = 2
        · rw [if_neg h0, if_neg h0, if_neg h1, if_neg h1, if_pos h2, if_pos h2]
          exact Rn_some ⟨I, rfl, fun _ _ _ => rfl⟩
        · rw [if_neg h0, if_neg h0, if_neg h1, if_neg h1, if_neg h2, if_neg h2]
          exact Rn_some ⟨I, rfl, fun _ _ _ => rfl⟩
  | succ m ih =>
    intro e N I x he he1 hN hM hn hb
    obtain ⟨N, rfl⟩ : ∃ N', N = N' + 1 := ⟨N - 1, by omega⟩
    show Rn (fX9_sought_82_b (fX9_sought_82 N) _ _ _ _ _ _ _ _ _ _ _ _) _
    unfold fX9_sought_82_b
    simp (disch := first | assumption | with_unfolding_all exact hW.1 _ _ rfl | rfl | exact pu_okI (by first | assumption | with_unfolding_all exact hW.1 _ _ rfl) (by omega) (by omega) | exact pu_oqI (by first | assumption | with_unfolding_all exact hW.1 _ _ rfl) (by omega) (by omega) | omega | decide) only [↓reduceIte, ↓gi_b, ↓pi_b, ↓gr_b, ↓pr_b, ↓al_b, ↓as_b, ↓al_3, ↓as_3, ↓al_12, ↓as_12, ↓al_l, ↓as_l, ↓rc_b, ↓Option.bind_some, ↓zr0_b, ↓zr1_b, ↓zrb_b, ↓pz0_b, ↓pz1_b, al_b, as_b, rc_b, gi_b, pi_b, gr_b, zr0, zr1, zrb, u_s, u_n, v_s, v_n, ↓isIn_b, ↓within_b, ite_T, ite_F, il_t, il_f, li_t, li_f, it_t, it_f, ti_t, ti_f, ie_t, ie_f, ei_t, ei_f, nn_le_t, nn_le_f, nn_lt_t, nn_lt_f, nn_eq_t, nn_eq_f, nI_1, nI_add, ni_addl, ni_ladd, pk_mul, ni_mull, b2_t, b2_f, b2_0, one0, m1_eq, ni_m1, reduceCtorEq, Bool.false_eq_true, nI_clamp, if_true, Option.some.injEq, Prod.mk.injEq, and_true, true_and, Nat.reduceAdd, Nat.reduceMul, Nat.reduceSub, Nat.reduceEqDiff, Nat.reduceLeDiff, Nat.reduceLT]
    rw [show (0 : Int32) = nI 0 from rfl]
    refine m_so92 hZ hi hj hk hv ⟨he1, by omega⟩ 96 0 am_fu I x (by omega) (by unfold am_fu; omega) hM hn (by omega) fun I1 y hy g1 g2 g3 => ?_
    refine Rn_mono (ih (e + 1) N I1 y (by omega) (by omega) (by omega) (g1.inv hM) g2 (by omega)) ?_
    rintro _ ⟨I2, rfl, g4⟩
    exact ⟨I2, by rw [hy]; rfl, g1.tr g4⟩
set_option maxHeartbeats 4000000 in
set_option maxRecDepth 100000 in
theorem r_br104 (hW : pu_W s P) : ∀ (m k N : Nat) (I : Nat → Nat → Int32), k + m = 12 → m < N → (∀ b, b < k → I 28 b = I 25 b) → Rn (fX5_branchFrom_104 N (some 26) (some 23) (nI k) (pu_hp s I P J n)) fun h => ∃ I', h = pu_hp s I' P J n ∧ (∀ b, b < 12 → I' 28 b = I 25 b) ∧ I' 26 12 = I 23 12 ∧ I' 26 13 = I 23 13 ∧ ∀ b j, ¬ b = 28 → ¬ (b = 26 ∧ 12 ≤ j) → I' b j = I b j := by
  intro m
  induction m with
  | zero =>
    intro k N I hk hN hI
    obtain ⟨N, rfl⟩ : ∃ N', N = N' + 1 := ⟨N - 1, by omega⟩
    obtain rfl : k = 12 := by omega
    show Rn (fX5_branchFrom_104_b _ _ _ _ _) _
    unfold fX5_branchFrom_104_b
    simp (disch := first | assumption | with_unfolding_all exact hW.1 _ _ rfl | rfl | exact pu_okI (by first | assumption | with_unfolding_all exact hW.1 _ _ rfl) (by omega) (by omega) | exact pu_oqI (by first | assumption | with_unfolding_all exact hW.1 _ _ rfl) (by omega) (by omega) | omega | decide) only [↓reduceIte, ↓gi_b, ↓pi_b, ↓gr_b, ↓pr_b, ↓al_b, ↓as_b, ↓al_3, ↓as_3, ↓al_12, ↓as_12, ↓al_l, ↓as_l, ↓rc_b, ↓Option.bind_some, ↓zr0_b, ↓zr1_b, ↓zrb_b, ↓pz0_b, ↓pz1_b, al_b, as_b, rc_b, gi_b, pi_b, gr_b, zr0, zr1, zrb, u_s, u_n, v_s, v_n, ↓isIn_b, ↓within_b, ite_T, ite_F, il_t, il_f, li_t, li_f, it_t, it_f, ti_t, ti_f, ie_t, ie_f, ei_t, ei_f, nn_le_t, nn_le_f, nn_lt_t, nn_lt_f, nn_eq_t, nn_eq_f, nI_1, nI_add, ni_addl, ni_ladd, pk_mul, ni_mull, b2_t, b2_f, b2_0, one0, m1_eq, ni_m1, reduceCtorEq, Bool.false_eq_true, nI_clamp, if_true, Option.some.injEq, Prod.mk.injEq, and_true, true_and, Nat.reduceAdd, Nat.reduceMul, Nat.reduceSub, Nat.reduceEqDiff, Nat.reduceLeDiff, Nat.reduceLT]
    exact Rn_some ⟨_, rfl, fun b hb => by rw [u_n (by omega), u_n (by omega), hI b hb], by rw [u_n (by omega), u_s], by rw [u_s], fun b j h1 h2 => by rw [u_n (by omega), u_n (by omega)]⟩
  | succ m ih =>
    intro k N I hk hN hI
    obtain ⟨N, rfl⟩ : ∃ N', N = N' + 1 := ⟨N - 1, by omega⟩
    show Rn (fX5_branchFrom_104_b (fX5_branchFrom_104 N) _ _ _ _) _
    unfold fX5_branchFrom_104_b
    simp (disch := first | assumption | with_unfolding_all exact hW.1 _ _ rfl | rfl | exact pu_okI (by first | assumption | with_unfolding_all exact hW.1 _ _ rfl) (by omega) (by omega) | exact pu_oqI (by first | assumption | with_unfolding_all exact hW.1 _ _ rfl) (by omega) (by omega) | omega | decide) only [↓reduceIte, ↓gi_b, ↓pi_b, ↓gr_b, ↓pr_b, ↓al_b, ↓as_b, ↓al_3, ↓as_3, ↓al_12, ↓as_12, ↓al_l, ↓as_l, ↓rc_b, ↓Option.bind_some, ↓zr0_b, ↓zr1_b, ↓zrb_b, ↓pz0_b, ↓pz1_b, al_b, as_b, rc_b, gi_b, pi_b, gr_b, zr0, zr1, zrb, u_s, u_n, v_s, v_n, ↓isIn_b, ↓within_b, ite_T, ite_F, il_t, il_f, li_t, li_f, it_t, it_f, ti_t, ti_f, ie_t, ie_f, ei_t, ei_f, nn_le_t, nn_le_f, nn_lt_t, nn_lt_f, nn_eq_t, nn_eq_f, nI_1, nI_add, ni_addl, ni_ladd, pk_mul, ni_mull, b2_t, b2_f, b2_0, one0, m1_eq, ni_m1, reduceCtorEq, Bool.false_eq_true, nI_clamp, if_true, Option.some.injEq, Prod.mk.injEq, and_true, true_and, Nat.reduceAdd, Nat.reduceMul, Nat.reduceSub, Nat.reduceEqDiff, Nat.reduceLeDiff, Nat.reduceLT, ↓gr26_11 hW, ↓gr23_11 hW]
    refine Rn_mono (ih (k + 1) N _ (by omega) (by omega) (fun b hb => ?_)) ?_
    · rw [show pu_u I 28 k (I 25 k) 25 b = I 25 b from u_n (by omega)]
      by_cases e : b = k
      · subst e; rw [u_s]
      · rw [u_n (by omega), hI b (by omega)]
    · rintro _ ⟨I', rfl, a1, a2, a3, a4⟩
      exact ⟨I', rfl, fun b hb => by rw [a1 b hb, u_n (by omega)], by rw [a2, u_n (by omega)], by rw [a3, u_n (by omega)], fun b j h1 h2 => by rw [a4 b j h1 h2, u_n (by omega)]⟩
set_option maxHeartbeats 4000000 in
set_option maxRecDepth 100000 in
theorem r_br31 (hW : pu_W s P) : ∀ (m k N : Nat) (I : Nat → Nat → Int32), k + m = 3 → m < N → (∀ b, b < k → I 27 b = I 24 b) → Rn (fX5_branchFrom_31 N (some 26) (some 23) (nI k) (pu_hp s I P J n)) fun h => ∃ I', h = pu_hp s I' P J n ∧ (∀ b, b < 3 → I' 27 b = I 24 b) ∧ (∀ b, b < 12 → I' 28 b = I 25 b) ∧ (I' 26 5 = I 23 5 ∧ I' 26 6 = I 23 6 ∧ I' 26 7 = I 23 7 ∧ I' 26 8 = I 23 8 ∧ I' 26 9 = I 23 9 ∧ I' 26 10 = I 23 10 ∧ I' 26 12 = I 23 12 ∧ I' 26 13 = I 23 13) ∧ ∀ b j, ¬ (27 ≤ b ∧ b ≤ 28) → ¬ (b = 26 ∧ 5 ≤ j) → I' b j = I b j := by
  intro m
  induction m with
  | zero =>
    intro k N I hk hN hI
    obtain ⟨N, rfl⟩ : ∃ N', N = N' + 1 := ⟨N - 1, by omega⟩
    obtain rfl : k = 3 := by omega
    show Rn (fX5_branchFrom_31_b _ _ _ _ _) _
    unfold fX5_branchFrom_31_b
    simp (disch := first | assumption | with_unfolding_all exact hW.1 _ _ rfl | rfl | exact pu_okI (by first | assumption | with_unfolding_all exact hW.1 _ _ rfl) (by omega) (by omega) | exact pu_oqI (by first | assumption | with_unfolding_all exact hW.1 _ _ rfl) (by omega) (by omega) | omega | decide) only [↓reduceIte, ↓gi_b, ↓pi_b, ↓gr_b, ↓pr_b, ↓al_b, ↓as_b, ↓al_3, ↓as_3, ↓al_12, ↓as_12, ↓al_l, ↓as_l, ↓rc_b, ↓Option.bind_some, ↓zr0_b, ↓zr1_b, ↓zrb_b, ↓pz0_b, ↓pz1_b, al_b, as_b, rc_b, gi_b, pi_b, gr_b, zr0, zr1, zrb, u_s, u_n, v_s, v_n, ↓isIn_b, ↓within_b, ite_T, ite_F, il_t, il_f, li_t, li_f, it_t, it_f, ti_t, ti_f, ie_t, ie_f, ei_t, ei_f, nn_le_t, nn_le_f, nn_lt_t, nn_lt_f, nn_eq_t, nn_eq_f, nI_1, nI_add, ni_addl, ni_ladd, pk_mul, ni_mull, b2_t, b2_f, b2_0, one0, m1_eq, ni_m1, reduceCtorEq, Bool.false_eq_true, nI_clamp, if_true, Option.some.injEq, Prod.mk.injEq, and_true, true_and, Nat.reduceAdd, Nat.reduceMul, Nat.reduceSub, Nat.reduceEqDiff, Nat.reduceLeDiff, Nat.reduceLT]
    rw [show (0 : Int32) = nI 0 from rfl]
    generalize hI1 : pu_u (pu_u (pu_u (pu_u (pu_u (pu_u I 26 5 (I 23 5)) 26 6 (I 23 6)) 26 7 (I 23 7)) 26 8 (I 23 8)) 26 9 (I 23 9)) 26 10 (I 23 10) = I1
    have fr : ∀ b j, ¬ (b = 26 ∧ 5 ≤ j ∧ j ≤ 10) → I1 b j = I b j := fun b j hb => by rw [← hI1, u_n (by omega), u_n (by omega), u_n (by omega), u_n (by omega), u_n (by omega), u_n (by omega)]
    refine Rn_mono (r_br104 hW 12 0 am_fu I1 (by omega) (by unfold am_fu; omega) (fun b hb => by omega)) ?_
    rintro _ ⟨I', rfl, a1, a2, a3, a4⟩
    refine ⟨I', rfl, fun b hb => by rw [a4 _ _ (by omega) (by omega), fr _ _ (by omega), hI b hb], fun b hb => by rw [a1 b hb, fr _ _ (by omega)], ⟨?_, ?_, ?_, ?_, ?_, ?_, by rw [a2, fr _ _ (by omega)], by rw [a3, fr _ _ (by omega)]⟩, fun b j h1 h2 => by rw [a4 _ _ (by omega) (by omega), fr _ _ (by omega)]⟩
    · rw [a4 _ _ (by omega) (by omega), ← hI1, u_n (by omega), u_n (by omega), u_n (by omega), u_n (by omega), u_n (by omega), u_s]
    · rw [a4 _ _ (by omega) (by omega), ← hI1, u_n (by omega), u_n (by omega), u_n (by omega), u_n (by omega), u_s]
    · rw [a4 _ _ (by omega) (by omega), ← hI1, u_n (by omega), u_n (by omega), u_n (by omega), u_s]
    · rw [a4 _ _ (by omega) (by omega), ← hI1, u_n (by omega), u_n (by omega), u_s]
    · rw [a4 _ _ (by omega) (by omega), ← hI1, u_n (by omega), u_s]
    · rw [a4 _ _ (by omega) (by omega), ← hI1, u_s]
  | succ m ih =>
    intro k N I hk hN hI
    obtain ⟨N, rfl⟩ : ∃ N', N = N' + 1 := ⟨N - 1, by omega⟩
    show Rn (fX5_branchFrom_31_b (fX5_branchFrom_31 N) _ _ _ _) _
    unfold fX5_branchFrom_31_b
    simp (disch := first | assumption | with_unfolding_all exact hW.1 _ _ rfl | rfl | exact pu_okI (by first | assumption | with_unfolding_all exact hW.1 _ _ rfl) (by omega) (by omega) | exact pu_oqI (by first | assumption | with_unfolding_all exact hW.1 _ _ rfl) (by omega) (by omega) | omega | decide) only [↓reduceIte, ↓gi_b, ↓pi_b, ↓gr_b, ↓pr_b, ↓al_b, ↓as_b, ↓al_3, ↓as_3, ↓al_12, ↓as_12, ↓al_l, ↓as_l, ↓rc_b, ↓Option.bind_some, ↓zr0_b, ↓zr1_b, ↓zrb_b, ↓pz0_b, ↓pz1_b, al_b, as_b, rc_b, gi_b, pi_b, gr_b, zr0, zr1, zrb, u_s, u_n, v_s, v_n, ↓isIn_b, ↓within_b, ite_T, ite_F, il_t, il_f, li_t, li_f, it_t, it_f, ti_t, ti_f, ie_t, ie_f, ei_t, ei_f, nn_le_t, nn_le_f, nn_lt_t, nn_lt_f, nn_eq_t, nn_eq_f, nI_1, nI_add, ni_addl, ni_ladd, pk_mul, ni_mull, b2_t, b2_f, b2_0, one0, m1_eq, ni_m1, reduceCtorEq, Bool.false_eq_true, nI_clamp, if_true, Option.some.injEq, Prod.mk.injEq, and_true, true_and, Nat.reduceAdd, Nat.reduceMul, Nat.reduceSub, Nat.reduceEqDiff, Nat.reduceLeDiff, Nat.reduceLT, ↓gr26_4 hW, ↓gr23_4 hW]
    refine Rn_mono (ih (k + 1) N _ (by omega) (by omega) (fun b hb => ?_)) ?_
    · rw [show pu_u I 27 k (I 24 k) 24 b = I 24 b from u_n (by omega)]
      by_cases e : b = k
      · subst e; rw [u_s]
      · rw [u_n (by omega), hI b (by omega)]
    · rintro _ ⟨I', rfl, a1, a2, ⟨b1, b2', b3, b4, b5, b6, b7, b8⟩, a4⟩
      exact ⟨I', rfl, fun b hb => by rw [a1 b hb, u_n (by omega)], fun b hb => by rw [a2 b hb, u_n (by omega)], ⟨by rw [b1, u_n (by omega)], by rw [b2', u_n (by omega)], by rw [b3, u_n (by omega)], by rw [b4, u_n (by omega)], by rw [b5, u_n (by omega)], by rw [b6, u_n (by omega)], by rw [b7, u_n (by omega)], by rw [b8, u_n (by omega)]⟩, fun b j h1 h2 => by rw [a4 b j h1 h2, u_n (by omega)]⟩
end SO
