/-! the reference's works: a whole run -/
theorem xdr_tick {K : S_K} {F : S_F} {w t : Nat} {sip : Bool} {X : S_X} : xdr (S_tick K F w sip t X) = S_dn K ((xcy X + (S_fl K F w t X).1) / kca K) 12 (xdr X) := by
  unfold S_tick
  rw [xdr_si]
  unfold S_lk
  split <;> rfl
theorem xD_tick {K : S_K} {F : S_F} {w t : Nat} {sip : Bool} {X : S_X} {b : Nat} : xD (S_tick K F w sip t X) b = if xdr X ≤ b ∧ b < xdr (S_tick K F w sip t X) then t else xD X b := by
  rw [xdr_tick]
  unfold S_tick S_si S_lk
  split <;> split <;> rfl
theorem S_at_d {K : S_K} {F : S_F} {w u : Nat} {sip : Bool} (hK : S_KB K) (hF : S_FB F) : ∀ d, (xdr (S_at K F w sip u) ≤ xdr (S_at K F w sip (u + d)) ∧ (∀ b, b < xdr (S_at K F w sip u) → xD (S_at K F w sip (u + d)) b = xD (S_at K F w sip u) b)) ∧ ∀ b, xdr (S_at K F w sip u) ≤ b → b < xdr (S_at K F w sip (u + d)) → u ≤ xD (S_at K F w sip (u + d)) b
  | 0 => ⟨⟨Nat.le_refl _, fun _ _ => rfl⟩, fun b h1 h2 => absurd (show b < xdr (S_at K F w sip u) from h2) (by omega)⟩
  | d + 1 => by
    obtain ⟨⟨h1, h2⟩, h3⟩ := S_at_d (w := w) (u := u) (sip := sip) hK hF d
    have hx := (S_at_b (w := w) (sip := sip) hK hF (u + d)).2.2.2.2.2.2.1
    have hm : xdr (S_at K F w sip (u + d)) ≤ xdr (S_at K F w sip (u + d + 1)) := by
      show _ ≤ xdr (S_tick K F w sip (u + d) _)
      rw [xdr_tick]; exact (S_dn_b 12 _ hx).2
    refine ⟨⟨Nat.le_trans h1 hm, fun b hb => ?_⟩, fun b hb1 hb2 => ?_⟩
    · show xD (S_tick K F w sip (u + d) (S_at K F w sip (u + d))) b = _
      rw [xD_tick, if_neg (by omega), h2 b hb]
    · have hb2' : b < xdr (S_tick K F w sip (u + d) (S_at K F w sip (u + d))) := hb2
      show u ≤ xD (S_tick K F w sip (u + d) (S_at K F w sip (u + d))) b
      rw [xD_tick]
      by_cases e : xdr (S_at K F w sip (u + d)) ≤ b
      · rw [if_pos ⟨e, hb2'⟩]; omega
      · rw [if_neg (by omega)]; exact h3 b hb1 (by omega)
theorem S_at_e {K : S_K} {F : S_F} {w u v : Nat} {sip : Bool} (hK : S_KB K) (hF : S_FB F) (h : u ≤ v) : (xdr (S_at K F w sip u) ≤ xdr (S_at K F w sip v) ∧ (∀ b, b < xdr (S_at K F w sip u) → xD (S_at K F w sip v) b = xD (S_at K F w sip u) b)) ∧ ∀ b, xdr (S_at K F w sip u) ≤ b → b < xdr (S_at K F w sip v) → u ≤ xD (S_at K F w sip v) b := by
  have := S_at_d (w := w) (u := u) (sip := sip) hK hF (v - u)
  rwa [show u + (v - u) = v by omega] at this
/-- a ball drops on tick t just if it is among those that t adds -/
theorem dN_iff {K : S_K} {F : S_F} {w t : Nat} (hK : S_KB K) (hF : S_FB F) (ht : t < 96) (b : Nat) : (dN (S_at K F w true 96) b = t) ↔ (xdr (S_at K F w true t) ≤ b ∧ b < xdr (S_at K F w true (t + 1))) := by
  obtain ⟨⟨a1, a2⟩, a3⟩ := S_at_e (w := w) (sip := true) hK hF (show t ≤ 96 by omega)
  obtain ⟨⟨c1, c2⟩, c3⟩ := S_at_e (w := w) (sip := true) hK hF (show t + 1 ≤ 96 by omega)
  obtain ⟨⟨d1, -⟩, -⟩ := S_at_e (w := w) (sip := true) hK hF (show t ≤ t + 1 by omega)
  have hx := (S_at_b (w := w) (sip := true) hK hF t).2.2.2.2.2.2.2.2.2
  unfold dN
  by_cases e : b < xdr (S_at K F w true 96)
  · rw [if_pos e]
    by_cases e1 : b < xdr (S_at K F w true t)
    · rw [a2 b e1]
      have := hx b e1
      omega
    · by_cases e2 : b < xdr (S_at K F w true (t + 1))
      · rw [c2 b e2]
        have e3 : xD (S_at K F w true (t + 1)) b = t := by
          show xD (S_tick K F w true t _) b = t
          rw [xD_tick, if_pos ⟨by omega, e2⟩]
        rw [e3]; omega
      · have := c3 b (by omega) e
        omega
  · rw [if_neg e]; omega
theorem S_bal_none {V : Nat → S_W} {t : Nat} : ∀ (m : Nat) (p : S_P), pc (S_bal V t none m p) = pc p
  | 0, _ => rfl
  | m + 1, p => by
    show pc (S_bal V t none m (S_hit p)) = _
    rw [S_bal_none m]; rfl
theorem S_play_none {V : Nat → S_W} {m : Nat → Nat} : ∀ t, pc (S_play V none m t) = 0
  | 0 => rfl
  | t + 1 => by
    show pc (S_bal V t none (m t) (S_due V t (pc (S_play V none m t)) 0 (S_play V none m t))) = 0
    rw [S_bal_none, S_play_none t]
    exact S_play_none t
section MP
variable {s : Nat → Option pu_S} {I : Nat → Nat → Int32} {P : Nat → Nat → Option Nat} {J : Nat → Nat → Int64} {n : Nat × Nat}
variable {Z : S_Z} {w t i : Nat} {p : S_P}
theorem PM_none {V : Nat → S_W} {nw : Nat} : ∀ (m : Nat) (p : S_P), PM I nw V none p → PM I nw V none (S_bal V t none m p)
  | 0, _, h => h
  | m + 1, p, h => by
    obtain ⟨g1, g2, g3, g4, g5, g6, g7, g8, g9, g10⟩ := h
    exact PM_none m (S_hit p) ⟨g1, fun q => absurd rfl q, g3, g4, g5, g6, g7, g8, g9, g10⟩
set_option maxHeartbeats 4000000 in
set_option maxRecDepth 100000 in
theorem m_bal (hZ : Z_B Z) (hi : i < znc Z) (ht : t ≤ 95) {X : S_X} {lo hi' : Nat} (hX : ∀ b, dN X b = t ↔ (lo ≤ b ∧ b < hi')) (hXb : ∀ b, dN X b ≤ 96) (hhi : hi' ≤ knb (zK Z i)) {k82 : Option Nat → Int32 → Int32 → am_H → Option am_H} {Q : am_H → Prop} : ∀ (m b N B C : Nat) (I : Nat → Nat → Int32) (p : S_P), b + m = knb (zK Z i) → m < N → InvM s I P Z → PM I (znw Z) (zW Z) (th (zT Z)) p → P_B (zW Z) (znw Z) t 120 B C p → P_1 p → B + 11 * m < 1000000 → C + 10 * (hi' - max b lo) ≤ 120 → (∀ b, b < 12 → I 70 b = nI (dN X b)) →
    (∀ I', MF I I' → PM I' (znw Z) (zW Z) (th (zT Z)) (S_bal (zW Z) t (th (zT Z)) (hi' - max b lo) p) → Rn (k82 (some 40) (nI i) (nI (t + 1)) (pu_hp s I' P J n)) Q) →
    Rn (fX9_show_134 k82 N (some 40) (nI i) (nI t) (nI b) (pu_hp s I P J n)) Q := by
  have hV := hZ.2.2.1.2
  have hnw := hZ.2.2.1.1
  have hnc := hZ.1.1
  have hnb := (hZ.1.2 i hi).1.2.2.2.2.2.1
  have hh := hZ.2.2.2.1.2.2
  have hl : hdN (th (zT Z)) ≤ 10 := by
    cases e : th (zT Z) with
    | none => exact Nat.zero_le _
    | some w => have := hh w e; show w + 1 ≤ 10; omega
  intro m
  induction m with
  | zero =>
    intro b N B C I p hb hN hM hp hB h1 hb2 hc h70 kk
    obtain ⟨N, rfl⟩ : ∃ N', N = N' + 1 := ⟨N - 1, by omega⟩
    have hW := hM.1
    have e48 := (hM.2.2.2.1 i hi).1.2.2.2.1
    show Rn (fX9_show_134_b _ _ _ _ _ _ _) _
    unfold fX9_show_134_b fX9_show_189
    simp (disch := first | assumption | with_unfolding_all exact hW.1 _ _ rfl | rfl | exact pu_okI (by first | assumption | with_unfolding_all exact hW.1 _ _ rfl) (by omega) (by omega) | exact pu_oqI (by first | assumption | with_unfolding_all exact hW.1 _ _ rfl) (by omega) (by omega) | omega | decide) only [↓reduceIte, ↓gi_b, ↓pi_b, ↓gr_b, ↓pr_b, ↓al_b, ↓as_b, ↓al_3, ↓as_3, ↓al_12, ↓as_12, ↓al_l, ↓as_l, ↓rc_b, ↓Option.bind_some, ↓zr0_b, ↓zr1_b, ↓zrb_b, ↓pz0_b, ↓pz1_b, al_b, as_b, rc_b, gi_b, pi_b, gr_b, zr0, zr1, zrb, u_s, u_n, v_s, v_n, ↓isIn_b, ↓within_b, ite_T, ite_F, il_t, il_f, li_t, li_f, it_t, it_f, ti_t, ti_f, ie_t, ie_f, ei_t, ei_f, nn_le_t, nn_le_f, nn_lt_t, nn_lt_f, nn_eq_t, nn_eq_f, nI_1, nI_add, ni_addl, ni_ladd, pk_mul, ni_mull, b2_t, b2_f, b2_0, one0, m1_eq, ni_m1, reduceCtorEq, Bool.false_eq_true, nI_clamp, if_true, Option.some.injEq, Prod.mk.injEq, and_true, true_and, Nat.reduceAdd, Nat.reduceMul, Nat.reduceSub, Nat.reduceEqDiff, Nat.reduceLeDiff, Nat.reduceLT, ↓gr40_8 hW, ↓gr40_56 hW, ↓gr40_70 hW, ↓gr40_71 hW, ↓gr40_68 hW, ↓gr40_66 hW, ↓gr40_67 hW, e48]
    refine kk I (fun _ _ _ _ => rfl) ?_
    rw [show hi' - max b lo = 0 by omega]; exact hp
  | succ m ih =>
    intro b N B C I p hb hN hM hp hB h1 hb2 hc h70 kk
    obtain ⟨N, rfl⟩ : ∃ N', N = N' + 1 := ⟨N - 1, by omega⟩
    have hW := hM.1
    have e48 := (hM.2.2.2.1 i hi).1.2.2.2.1
    have e21 := hM.2.2.2.2.2.2.1.2.2
    have e70 := h70 b (by omega)
    have hd96 := hXb b
    show Rn (fX9_show_134_b k82 (fX9_show_134 k82 N) _ _ _ _ _) _
    unfold fX9_show_134_b fX9_show_189 fX9_show_183
    cases eh : th (zT Z) with
    | none =>
      rw [eh] at e21 hp
      simp only [oI] at e21
      simp (disch := first | assumption | with_unfolding_all exact hW.1 _ _ rfl | rfl | exact pu_okI (by first | assumption | with_unfolding_all exact hW.1 _ _ rfl) (by omega) (by omega) | exact pu_oqI (by first | assumption | with_unfolding_all exact hW.1 _ _ rfl) (by omega) (by omega) | omega | decide) only [↓reduceIte, ↓gi_b, ↓pi_b, ↓gr_b, ↓pr_b, ↓al_b, ↓as_b, ↓al_3, ↓as_3, ↓al_12, ↓as_12, ↓al_l, ↓as_l, ↓rc_b, ↓Option.bind_some, ↓zr0_b, ↓zr1_b, ↓zrb_b, ↓pz0_b, ↓pz1_b, al_b, as_b, rc_b, gi_b, pi_b, gr_b, zr0, zr1, zrb, u_s, u_n, v_s, v_n, ↓isIn_b, ↓within_b, ite_T, ite_F, il_t, il_f, li_t, li_f, it_t, it_f, ti_t, ti_f, ie_t, ie_f, ei_t, ei_f, nn_le_t, nn_le_f, nn_lt_t, nn_lt_f, nn_eq_t, nn_eq_f, nI_1, nI_add, ni_addl, ni_ladd, pk_mul, ni_mull, b2_t, b2_f, b2_0, one0, m1_eq, ni_m1, reduceCtorEq, Bool.false_eq_true, nI_clamp, if_true, Option.some.injEq, Prod.mk.injEq, and_true, true_and, Nat.reduceAdd, Nat.reduceMul, Nat.reduceSub, Nat.reduceEqDiff, Nat.reduceLeDiff, Nat.reduceLT, ↓gr40_8 hW, ↓gr40_56 hW, ↓gr40_70 hW, ↓gr40_71 hW, ↓gr40_68 hW, ↓gr40_66 hW, ↓gr40_67 hW, e48, e21]
      refine kk I (fun _ _ _ _ => rfl) ?_
      rw [eh]; exact PM_none _ _ hp
    | some hd =>
      have hhd := hh hd eh
      have e21' : I 40 21 = nI hd := by rw [e21, eh]; rfl
      have hnn : ¬ th (zT Z) = none := by rw [eh]; exact fun q => by cases q
      have skip : ¬ dN X b = t → Rn (fX9_show_134 k82 N (some 40) (nI i) (nI t) (nI (b + 1)) (pu_hp s I P J n)) Q := fun hne => by
        have hno : ¬ (lo ≤ b ∧ b < hi') := fun q => hne ((hX b).mpr q)
        have er : hi' - max (b + 1) lo = hi' - max b lo := by omega
        refine ih (b + 1) N B C I p (by omega) (by omega) hM hp hB h1 (by omega) (by rw [er]; exact hc) h70 fun I' f g => kk I' f ?_
        rw [er] at g; exact g
      by_cases e : dN X b = t
      · have hin := (hX b).mp e
        have er : hi' - max b lo = (hi' - max (b + 1) lo) + 1 := by omega
        obtain ⟨g1, g2, g3, g4, g5, g6, g7, g8, g9, g10⟩ := id hp
        simp (disch := first | assumption | with_unfolding_all exact hW.1 _ _ rfl | rfl | exact pu_okI (by first | assumption | with_unfolding_all exact hW.1 _ _ rfl) (by omega) (by omega) | exact pu_oqI (by first | assumption | with_unfolding_all exact hW.1 _ _ rfl) (by omega) (by omega) | omega | decide) only [↓reduceIte, ↓gi_b, ↓pi_b, ↓gr_b, ↓pr_b, ↓al_b, ↓as_b, ↓al_3, ↓as_3, ↓al_12, ↓as_12, ↓al_l, ↓as_l, ↓rc_b, ↓Option.bind_some, ↓zr0_b, ↓zr1_b, ↓zrb_b, ↓pz0_b, ↓pz1_b, al_b, as_b, rc_b, gi_b, pi_b, gr_b, zr0, zr1, zrb, u_s, u_n, v_s, v_n, ↓isIn_b, ↓within_b, ite_T, ite_F, il_t, il_f, li_t, li_f, it_t, it_f, ti_t, ti_f, ie_t, ie_f, ei_t, ei_f, nn_le_t, nn_le_f, nn_lt_t, nn_lt_f, nn_eq_t, nn_eq_f, nI_1, nI_add, ni_addl, ni_ladd, pk_mul, ni_mull, b2_t, b2_f, b2_0, one0, m1_eq, ni_m1, reduceCtorEq, Bool.false_eq_true, nI_clamp, if_true, Option.some.injEq, Prod.mk.injEq, and_true, true_and, Nat.reduceAdd, Nat.reduceMul, Nat.reduceSub, Nat.reduceEqDiff, Nat.reduceLeDiff, Nat.reduceLT, ↓gr40_8 hW, ↓gr40_56 hW, ↓gr40_70 hW, ↓gr40_71 hW, ↓gr40_68 hW, ↓gr40_66 hW, ↓gr40_67 hW, e48, e21', e70, e, g2 hnn]
        have f0 : MF I (pu_u I 40 61 (nI (pb p + 1))) := fun b j h1 h2 => by rw [u_n (by omega)]
        have hp0 : PM (pu_u I 40 61 (nI (pb p + 1))) (znw Z) (zW Z) (th (zT Z)) (S_hit p) := by
          refine ⟨?_, fun q => ?_, ?_, ?_, ?_, ?_, fun x hx => ?_, fun d hd => ?_, fun k hk => ?_, fun k hk hg => ?_⟩
          · simp (disch := first | assumption | with_unfolding_all exact hW.1 _ _ rfl | rfl | exact pu_okI (by first | assumption | with_unfolding_all exact hW.1 _ _ rfl) (by omega) (by omega) | exact pu_oqI (by first | assumption | with_unfolding_all exact hW.1 _ _ rfl) (by omega) (by omega) | omega | decide) only [↓reduceIte, ↓gi_b, ↓pi_b, ↓gr_b, ↓pr_b, ↓al_b, ↓as_b, ↓al_3, ↓as_3, ↓al_12, ↓as_12, ↓al_l, ↓as_l, ↓rc_b, ↓Option.bind_some, ↓zr0_b, ↓zr1_b, ↓zrb_b, ↓pz0_b, ↓pz1_b, al_b, as_b, rc_b, gi_b, pi_b, gr_b, zr0, zr1, zrb, u_s, u_n, v_s, v_n, ↓isIn_b, ↓within_b, ite_T, ite_F, il_t, il_f, li_t, li_f, it_t, it_f, ti_t, ti_f, ie_t, ie_f, ei_t, ei_f, nn_le_t, nn_le_f, nn_lt_t, nn_lt_f, nn_eq_t, nn_eq_f, nI_1, nI_add, ni_addl, ni_ladd, pk_mul, ni_mull, b2_t, b2_f, b2_0, one0, m1_eq, ni_m1, reduceCtorEq, Bool.false_eq_true, nI_clamp, if_true, Option.some.injEq, Prod.mk.injEq, and_true, true_and, Nat.reduceAdd, Nat.reduceMul, Nat.reduceSub, Nat.reduceEqDiff, Nat.reduceLeDiff, Nat.reduceLT, g1] <;> rfl
          · rw [u_s]; rfl
          · simp (disch := first | assumption | with_unfolding_all exact hW.1 _ _ rfl | rfl | exact pu_okI (by first | assumption | with_unfolding_all exact hW.1 _ _ rfl) (by omega) (by omega) | exact pu_oqI (by first | assumption | with_unfolding_all exact hW.1 _ _ rfl) (by omega) (by omega) | omega | decide) only [↓reduceIte, ↓gi_b, ↓pi_b, ↓gr_b, ↓pr_b, ↓al_b, ↓as_b, ↓al_3, ↓as_3, ↓al_12, ↓as_12, ↓al_l, ↓as_l, ↓rc_b, ↓Option.bind_some, ↓zr0_b, ↓zr1_b, ↓zrb_b, ↓pz0_b, ↓pz1_b, al_b, as_b, rc_b, gi_b, pi_b, gr_b, zr0, zr1, zrb, u_s, u_n, v_s, v_n, ↓isIn_b, ↓within_b, ite_T, ite_F, il_t, il_f, li_t, li_f, it_t, it_f, ti_t, ti_f, ie_t, ie_f, ei_t, ei_f, nn_le_t, nn_le_f, nn_lt_t, nn_lt_f, nn_eq_t, nn_eq_f, nI_1, nI_add, ni_addl, ni_ladd, pk_mul, ni_mull, b2_t, b2_f, b2_0, one0, m1_eq, ni_m1, reduceCtorEq, Bool.false_eq_true, nI_clamp, if_true, Option.some.injEq, Prod.mk.injEq, and_true, true_and, Nat.reduceAdd, Nat.reduceMul, Nat.reduceSub, Nat.reduceEqDiff, Nat.reduceLeDiff, Nat.reduceLT, g3] <;> rfl
          · simp (disch := first | assumption | with_unfolding_all exact hW.1 _ _ rfl | rfl | exact pu_okI (by first | assumption | with_unfolding_all exact hW.1 _ _ rfl) (by omega) (by omega) | exact pu_oqI (by first | assumption | with_unfolding_all exact hW.1 _ _ rfl) (by omega) (by omega) | omega | decide) only [↓reduceIte, ↓gi_b, ↓pi_b, ↓gr_b, ↓pr_b, ↓al_b, ↓as_b, ↓al_3, ↓as_3, ↓al_12, ↓as_12, ↓al_l, ↓as_l, ↓rc_b, ↓Option.bind_some, ↓zr0_b, ↓zr1_b, ↓zrb_b, ↓pz0_b, ↓pz1_b, al_b, as_b, rc_b, gi_b, pi_b, gr_b, zr0, zr1, zrb, u_s, u_n, v_s, v_n, ↓isIn_b, ↓within_b, ite_T, ite_F, il_t, il_f, li_t, li_f, it_t, it_f, ti_t, ti_f, ie_t, ie_f, ei_t, ei_f, nn_le_t, nn_le_f, nn_lt_t, nn_lt_f, nn_eq_t, nn_eq_f, nI_1, nI_add, ni_addl, ni_ladd, pk_mul, ni_mull, b2_t, b2_f, b2_0, one0, m1_eq, ni_m1, reduceCtorEq, Bool.false_eq_true, nI_clamp, if_true, Option.some.injEq, Prod.mk.injEq, and_true, true_and, Nat.reduceAdd, Nat.reduceMul, Nat.reduceSub, Nat.reduceEqDiff, Nat.reduceLeDiff, Nat.reduceLT, g4] <;> rfl
          · simp (disch := first | assumption | with_unfolding_all exact hW.1 _ _ rfl | rfl | exact pu_okI (by first | assumption | with_unfolding_all exact hW.1 _ _ rfl) (by omega) (by omega) | exact pu_oqI (by first | assumption | with_unfolding_all exact hW.1 _ _ rfl) (by omega) (by omega) | omega | decide) only [↓reduceIte, ↓gi_b, ↓pi_b, ↓gr_b, ↓pr_b, ↓al_b, ↓as_b, ↓al_3, ↓as_3, ↓al_12, ↓as_12, ↓al_l, ↓as_l, ↓rc_b, ↓Option.bind_some, ↓zr0_b, ↓zr1_b, ↓zrb_b, ↓pz0_b, ↓pz1_b, al_b, as_b, rc_b, gi_b, pi_b, gr_b, zr0, zr1, zrb, u_s, u_n, v_s, v_n, ↓isIn_b, ↓within_b, ite_T, ite_F, il_t, il_f, li_t, li_f, it_t, it_f, ti_t, ti_f, ie_t, ie_f, ei_t, ei_f, nn_le_t, nn_le_f, nn_lt_t, nn_lt_f, nn_eq_t, nn_eq_f, nI_1, nI_add, ni_addl, ni_ladd, pk_mul, ni_mull, b2_t, b2_f, b2_0, one0, m1_eq, ni_m1, reduceCtorEq, Bool.false_eq_true, nI_clamp, if_true, Option.some.injEq, Prod.mk.injEq, and_true, true_and, Nat.reduceAdd, Nat.reduceMul, Nat.reduceSub, Nat.reduceEqDiff, Nat.reduceLeDiff, Nat.reduceLT, g5] <;> rfl
          · simp (disch := first | assumption | with_unfolding_all exact hW.1 _ _ rfl | rfl | exact pu_okI (by first | assumption | with_unfolding_all exact hW.1 _ _ rfl) (by omega) (by omega) | exact pu_oqI (by first | assumption | with_unfolding_all exact hW.1 _ _ rfl) (by omega) (by omega) | omega | decide) only [↓reduceIte, ↓gi_b, ↓pi_b, ↓gr_b, ↓pr_b, ↓al_b, ↓as_b, ↓al_3, ↓as_3, ↓al_12, ↓as_12, ↓al_l, ↓as_l, ↓rc_b, ↓Option.bind_some, ↓zr0_b, ↓zr1_b, ↓zrb_b, ↓pz0_b, ↓pz1_b, al_b, as_b, rc_b, gi_b, pi_b, gr_b, zr0, zr1, zrb, u_s, u_n, v_s, v_n, ↓isIn_b, ↓within_b, ite_T, ite_F, il_t, il_f, li_t, li_f, it_t, it_f, ti_t, ti_f, ie_t, ie_f, ei_t, ei_f, nn_le_t, nn_le_f, nn_lt_t, nn_lt_f, nn_eq_t, nn_eq_f, nI_1, nI_add, ni_addl, ni_ladd, pk_mul, ni_mull, b2_t, b2_f, b2_0, one0, m1_eq, ni_m1, reduceCtorEq, Bool.false_eq_true, nI_clamp, if_true, Option.some.injEq, Prod.mk.injEq, and_true, true_and, Nat.reduceAdd, Nat.reduceMul, Nat.reduceSub, Nat.reduceEqDiff, Nat.reduceLeDiff, Nat.reduceLT, g6] <;> rfl
          · rw [u_n (by omega), u_n (by omega)]; exact g7 x hx
          · rw [u_n (by omega)]; exact g8 d hd
          · rw [u_n (by omega)]; exact g9 k hk
          · rw [u_n (by omega), u_n (by omega)]; exact g10 k hk hg
        have ms := m_strike (J := J) (n := n) (o := th (zT Z)) hZ hnn ht hh (f0.inv hM) hp0 (S_hit_b hB) h1 (by omega) (by omega)
        rw [show oI (th (zT Z)) = nI hd by rw [eh]; rfl] at ms
        refine Rn_bind ms ?_
        rintro _ ⟨I1, rfl, f1, gg⟩
        have a := S_strike_b (i := 120) hV ht 11 (th (zT Z)) B C (S_hit p) hh (S_hit_b hB)
        have a1 := S_strike_1 (t := t) hV hnw ht 11 (th (zT Z)) (S_hit p) hh h1
        have f01 := f0.tr f1
        refine ih (b + 1) N (B + 11) (C + 10) I1 _ (by omega) (by omega) (f01.inv hM) gg (a.w (Nat.le_refl _) (by omega)) a1 (by omega) (by omega) (fun b hb => by rw [f01 _ _ (by omega) (by omega), h70 b hb]) fun I' f g => kk I' (f01.tr f) ?_
        rw [er]; exact g
      · simp (disch := first | assumption | with_unfolding_all exact hW.1 _ _ rfl | rfl | exact pu_okI (by first | assumption | with_unfolding_all exact hW.1 _ _ rfl) (by omega) (by omega) | exact pu_oqI (by first | assumption | with_unfolding_all exact hW.1 _ _ rfl) (by omega) (by omega) | omega | decide) only [↓reduceIte, ↓gi_b, ↓pi_b, ↓gr_b, ↓pr_b, ↓al_b, ↓as_b, ↓al_3, ↓as_3, ↓al_12, ↓as_12, ↓al_l, ↓as_l, ↓rc_b, ↓Option.bind_some, ↓zr0_b, ↓zr1_b, ↓zrb_b, ↓pz0_b, ↓pz1_b, al_b, as_b, rc_b, gi_b, pi_b, gr_b, zr0, zr1, zrb, u_s, u_n, v_s, v_n, ↓isIn_b, ↓within_b, ite_T, ite_F, il_t, il_f, li_t, li_f, it_t, it_f, ti_t, ti_f, ie_t, ie_f, ei_t, ei_f, nn_le_t, nn_le_f, nn_lt_t, nn_lt_f, nn_eq_t, nn_eq_f, nI_1, nI_add, ni_addl, ni_ladd, pk_mul, ni_mull, b2_t, b2_f, b2_0, one0, m1_eq, ni_m1, reduceCtorEq, Bool.false_eq_true, nI_clamp, if_true, Option.some.injEq, Prod.mk.injEq, and_true, true_and, Nat.reduceAdd, Nat.reduceMul, Nat.reduceSub, Nat.reduceEqDiff, Nat.reduceLeDiff, Nat.reduceLT, ↓gr40_8 hW, ↓gr40_56 hW, ↓gr40_70 hW, ↓gr40_71 hW, ↓gr40_68 hW, ↓gr40_66 hW, ↓gr40_67 hW, e48, e21', e70]
        exact skip e
set_option maxHeartbeats 4000000 in
set_option maxRecDepth 100000 in
theorem m_due (hZ : Z_B Z) (ht : t ≤ 95) {cc C : Nat} (hcc : cc ≤ 120) (hC12 : C ≤ 120) {c : Int32} {k82 : Option Nat → Int32 → Int32 → am_H → Option am_H} {Q : am_H → Prop} : ∀ (m k N B : Nat) (I : Nat → Nat → Int32) (p : S_P) (G : Nat), k + m = cc → m < N → cc ≤ pc p → (¬ cc = 0 → ¬ th (zT Z) = none) → G = gN (zW Z) (pe p) cc → InvM s I P Z → PM I (znw Z) (zW Z) (th (zT Z)) p → P_B (zW Z) (znw Z) t k B C p → P_1 p → B + 11 * m < 1000000 →
    (∀ I', MF I I' → PM I' (znw Z) (zW Z) (th (zT Z)) (S_due (zW Z) t m k p) → Rn (fX9_show_134 k82 am_fu (some 40) c (nI t) 0 (pu_hp s I' P J n)) Q) →
    Rn (fX9_show_96 k82 N (some 40) c (nI t) (nI G) (nI (gN (zW Z) (pe p) k)) (pu_hp s I P J n)) Q := by
  have hV := hZ.2.2.1.2
  have hnw := hZ.2.2.1.1
  intro m
  induction m with
  | zero =>
    intro k N B I p G hk hN hcp hne hG hM hp hB h1 hb kk
    obtain ⟨N, rfl⟩ : ∃ N', N = N' + 1 := ⟨N - 1, by omega⟩
    obtain rfl : k = cc := by omega
    subst hG
    have hle := gN_le (V := zW Z) (E := pe p) k
    show Rn (fX9_show_96_b _ _ _ _ _ _ _ _) _
    unfold fX9_show_96_b
    simp (disch := first | assumption | with_unfolding_all exact hW.1 _ _ rfl | rfl | exact pu_okI (by first | assumption | with_unfolding_all exact hW.1 _ _ rfl) (by omega) (by omega) | exact pu_oqI (by first | assumption | with_unfolding_all exact hW.1 _ _ rfl) (by omega) (by omega) | omega | decide) only [↓reduceIte, ↓gi_b, ↓pi_b, ↓gr_b, ↓pr_b, ↓al_b, ↓as_b, ↓al_3, ↓as_3, ↓al_12, ↓as_12, ↓al_l, ↓as_l, ↓rc_b, ↓Option.bind_some, ↓zr0_b, ↓zr1_b, ↓zrb_b, ↓pz0_b, ↓pz1_b, al_b, as_b, rc_b, gi_b, pi_b, gr_b, zr0, zr1, zrb, u_s, u_n, v_s, v_n, ↓isIn_b, ↓within_b, ite_T, ite_F, il_t, il_f, li_t, li_f, it_t, it_f, ti_t, ti_f, ie_t, ie_f, ei_t, ei_f, nn_le_t, nn_le_f, nn_lt_t, nn_lt_f, nn_eq_t, nn_eq_f, nI_1, nI_add, ni_addl, ni_ladd, pk_mul, ni_mull, b2_t, b2_f, b2_0, one0, m1_eq, ni_m1, reduceCtorEq, Bool.false_eq_true, nI_clamp, if_true, Option.some.injEq, Prod.mk.injEq, and_true, true_and, Nat.reduceAdd, Nat.reduceMul, Nat.reduceSub, Nat.reduceEqDiff, Nat.reduceLeDiff, Nat.reduceLT]
    exact kk I (fun _ _ _ _ => rfl) hp
  | succ m ih =>
    intro k N B I p G hk hN hcp hne hG hM hp hB h1 hb kk
    have hkp : k < pc p := by omega
    obtain ⟨q1, q2⟩ := hB.2.2.2.1 k hkp
    have hnn := hne (by omega)
    have bb := S_dst_b (k := k) hV ht hkp hB
    have bb1 := S_dst_1 (k := k) (t := t) hV hnw ht q1 h1
    have hlt : ∀ w', (zW Z (pe p k).1).2.2 = some w' → w' < (pe p k).1 := (hV _ q1).2.2
    have hcp' : cc ≤ pc (S_dst (zW Z) t k p) := by
      have := (S_dst_e (V := zW Z) (t := t) (j := k) (p := p) (k := cc - 1) (by omega)).1
      omega
    have hge : ∀ x, x ≤ cc → gN (zW Z) (pe (S_dst (zW Z) t k p)) x = gN (zW Z) (pe p) x := by
      intro x
      induction x with
      | zero => intro _; rfl
      | succ x ihx =>
        intro hx
        show gN _ _ x + _ = gN _ _ x + _
        rw [ihx (by omega), (S_dst_e (V := zW Z) (t := t) (j := k) (p := p) (k := x) (by omega)).2]
    have hGle := gN_le (V := zW Z) (E := pe p) cc
    have hgs : gN (zW Z) (pe p) (k + 1) = gN (zW Z) (pe p) k + (if gd (zW Z) (pe p k) = true then 1 else 0) := rfl
    cases hg : gd (zW Z) (pe p k) with
    | false =>
      rw [hg, if_neg (by decide)] at hgs
      have es : S_dst (zW Z) t k p = p := by
        unfold S_dst
        by_cases e : (pe p k).2 = t
        · rw [if_pos e]
          have : (zW Z (pe p k).1).2.2 = none := by
            unfold gd at hg
            rw [decide_eq_true (by omega), Bool.and_true] at hg
            cases e2 : (zW Z (pe p k).1).2.2 with
            | none => rfl
            | some x => rw [e2] at hg; cases hg
          rw [this]; rfl
        · rw [if_neg e]
      rw [es] at bb bb1 hcp'
      rw [show gN (zW Z) (pe p) k = gN (zW Z) (pe p) (k + 1) from hgs.symm]
      refine ih (k + 1) N (B + 11) I p G (by omega) (by omega) hcp' hne hG hM hp bb bb1 (by omega) fun I' f g => kk I' f ?_
      rw [S_due_s, es]; exact g
    | true =>
      rw [hg, if_pos rfl] at hgs
      obtain ⟨N, rfl⟩ : ∃ N', N = N' + 1 := ⟨N - 1, by omega⟩
      have hW := hM.1
      obtain ⟨e76, e77⟩ := hp.2.2.2.2.2.2.2.2.2 k hkp hg
      have hglt := gN_lt (V := zW Z) (E := pe p) (show k < cc by omega) hg
      have hpt := h1.2 k
      show Rn (fX9_show_96_b k82 (fX9_show_96 k82 N) _ _ _ _ _ _) _
      unfold fX9_show_96_b fX9_show_125
      by_cases e : (pe p k).2 = t
      · simp (disch := first | assumption | with_unfolding_all exact hW.1 _ _ rfl | rfl | exact pu_okI (by first | assumption | with_unfolding_all exact hW.1 _ _ rfl) (by omega) (by omega) | exact pu_oqI (by first | assumption | with_unfolding_all exact hW.1 _ _ rfl) (by omega) (by omega) | omega | decide) only [↓reduceIte, ↓gi_b, ↓pi_b, ↓gr_b, ↓pr_b, ↓al_b, ↓as_b, ↓al_3, ↓as_3, ↓al_12, ↓as_12, ↓al_l, ↓as_l, ↓rc_b, ↓Option.bind_some, ↓zr0_b, ↓zr1_b, ↓zrb_b, ↓pz0_b, ↓pz1_b, al_b, as_b, rc_b, gi_b, pi_b, gr_b, zr0, zr1, zrb, u_s, u_n, v_s, v_n, ↓isIn_b, ↓within_b, ite_T, ite_F, il_t, il_f, li_t, li_f, it_t, it_f, ti_t, ti_f, ie_t, ie_f, ei_t, ei_f, nn_le_t, nn_le_f, nn_lt_t, nn_lt_f, nn_eq_t, nn_eq_f, nI_1, nI_add, ni_addl, ni_ladd, pk_mul, ni_mull, b2_t, b2_f, b2_0, one0, m1_eq, ni_m1, reduceCtorEq, Bool.false_eq_true, nI_clamp, if_true, Option.some.injEq, Prod.mk.injEq, and_true, true_and, Nat.reduceAdd, Nat.reduceMul, Nat.reduceSub, Nat.reduceEqDiff, Nat.reduceLeDiff, Nat.reduceLT, ↓gr40_8 hW, ↓gr40_56 hW, ↓gr40_70 hW, ↓gr40_71 hW, ↓gr40_68 hW, ↓gr40_66 hW, ↓gr40_67 hW, e76, e, e77, hG]
        have hD := S_D_s (t := t) (i := k) (E := pe p) (pc p) hkp
        rw [if_pos e] at hD
        have hB' : P_B (zW Z) (znw Z) t (k + 1) B (C - (pe p k).1) p := ⟨hB.1, hB.2.1, hB.2.2.1, hB.2.2.2.1, by have := hB.2.2.2.2; omega⟩
        refine Rn_bind (m_strike (o := (zW Z (pe p k).1).2.2) hZ hnn ht (fun w' q => by have := hlt w' q; omega) hM hp hB' h1 (by omega) ?_) ?_
        · have h5 := hB.2.2.2.2
          cases q : (zW Z (pe p k).1).2.2 with
          | none => show C - _ + 0 ≤ 120; omega
          | some w' => have := hlt w' q; show C - _ + (w' + 1) ≤ 120; omega
        · rintro _ ⟨I1, rfl, f1, gg⟩
          have es : S_dst (zW Z) t k p = S_strike (zW Z) t 11 (zW Z (pe p k).1).2.2 p := if_pos e
          rw [es] at bb bb1 hcp' hge
          rw [← hgs, ← hge (k + 1) (by omega), ← hge cc (Nat.le_refl _)]
          refine ih (k + 1) N (B + 11) I1 _ _ (by omega) (by omega) hcp' hne rfl (f1.inv hM) gg bb bb1 (by omega) fun I' f2 g2 => kk I' (f1.tr f2) ?_
          rw [S_due_s, es]; exact g2
      · have es : S_dst (zW Z) t k p = p := if_neg e
        rw [es] at bb bb1 hcp'
        have ene : (nI (pe p k).2 = nI t) = False := nn_eq_f e (by omega) (by omega)
        simp (disch := first | assumption | with_unfolding_all exact hW.1 _ _ rfl | rfl | exact pu_okI (by first | assumption | with_unfolding_all exact hW.1 _ _ rfl) (by omega) (by omega) | exact pu_oqI (by first | assumption | with_unfolding_all exact hW.1 _ _ rfl) (by omega) (by omega) | omega | decide) only [↓reduceIte, ↓gi_b, ↓pi_b, ↓gr_b, ↓pr_b, ↓al_b, ↓as_b, ↓al_3, ↓as_3, ↓al_12, ↓as_12, ↓al_l, ↓as_l, ↓rc_b, ↓Option.bind_some, ↓zr0_b, ↓zr1_b, ↓zrb_b, ↓pz0_b, ↓pz1_b, al_b, as_b, rc_b, gi_b, pi_b, gr_b, zr0, zr1, zrb, u_s, u_n, v_s, v_n, ↓isIn_b, ↓within_b, ite_T, ite_F, il_t, il_f, li_t, li_f, it_t, it_f, ti_t, ti_f, ie_t, ie_f, ei_t, ei_f, nn_le_t, nn_le_f, nn_lt_t, nn_lt_f, nn_eq_t, nn_eq_f, nI_1, nI_add, ni_addl, ni_ladd, pk_mul, ni_mull, b2_t, b2_f, b2_0, one0, m1_eq, ni_m1, reduceCtorEq, Bool.false_eq_true, nI_clamp, if_true, Option.some.injEq, Prod.mk.injEq, and_true, true_and, Nat.reduceAdd, Nat.reduceMul, Nat.reduceSub, Nat.reduceEqDiff, Nat.reduceLeDiff, Nat.reduceLT, ↓gr40_8 hW, ↓gr40_56 hW, ↓gr40_70 hW, ↓gr40_71 hW, ↓gr40_68 hW, ↓gr40_66 hW, ↓gr40_67 hW, e76, ene, hG]
        rw [← hgs, ← hG]
        refine ih (k + 1) N (B + 11) I p G (by omega) (by omega) hcp' hne hG hM hp bb bb1 (by omega) fun I' f2 g2 => kk I' f2 ?_
        rw [S_due_s, es]; exact g2
end MP
