/-! a run of the class by any clock and fault; the worst error -/
def RunG (s : Nat → Option pu_S) (K : S_K) (F : S_F) (w t : Nat) (I0 : Nat → Nat → Int32) (P0 : Nat → Nat → Option Nat) (c f : Nat) : Prop :=
  R_S s P0 23 c f ∧ C_S s P0 c ∧ C_I I0 c K ∧ F_I I0 f F ∧ R_I I0 23 w t K (S_at K F w true t)
def RGF (I I0 : Nat → Nat → Int32) (P P0 : Nat → Nat → Option Nat) : Prop := R_F 23 I I0 ∧ ∀ a k, ¬ (a = 23 ∧ k ≤ 1) → P0 a k = P a k
theorem RGF.sf {I I0 : Nat → Nat → Int32} {P P0 : Nat → Nat → Option Nat} (h : RGF I I0 P P0) : SF I I0 P P0 := ⟨fun b j hb => h.1 b j (by unfold scC at hb; omega), fun a k ha => h.2 a k (by unfold scP at ha; omega)⟩
section RG
variable {s : Nat → Option pu_S} {I : Nat → Nat → Int32} {P : Nat → Nat → Option Nat} {J : Nat → Nat → Int64} {n : Nat × Nat}
variable {K : S_K} {F : S_F} {w t c f : Nat}
set_option maxHeartbeats 4000000 in
set_option maxRecDepth 100000 in
theorem g_start (hW : pu_W s P) (hK : S_KB K) (hc : C_S s P c) (hci : C_I I c K) (hf : s f = some (0, 2, 0)) (hfi : F_I I f F) (hd : c + 5 < 23 ∨ 25 < c) (hdf : f < 23 ∨ 25 < f) : Rn (fX5_start 23 (some c) (nI w) (some f) (pu_hp s I P J n)) fun h => ∃ I' P', h = pu_hp s I' P' J n ∧ RGF I I' P P' ∧ RunG s K F w 0 I' P' c f := by
  refine Rn_mono (r_start (w := w) (RS0_23 hW) hK hc hf (by omega) (by omega) hci) ?_
  rintro _ ⟨I', P', rfl, p1, p2, p3, p4, p5⟩
  exact ⟨I', P', rfl, ⟨p4, p1⟩, p2, p3, p4.c hci (by omega), p4.f hfi (by omega), p5⟩
theorem RunG.fr {I' : Nat → Nat → Int32} (hR : RunG s K F w t I P c f) (hf : ∀ b j, ¬ b = 39 → I' b j = I b j) (hc : c + 5 < 39 ∨ 39 < c) (hff : ¬ f = 39) : RunG s K F w t I' P c f := by
  obtain ⟨h4, h5, h6, h7, h8⟩ := hR
  obtain ⟨a1, a2, a3, a4, a5, a6, a7, a8, a9, a10, a11, a12⟩ := h8
  exact ⟨h4, h5, h6.fr fun b j q1 q2 => hf b j (by omega), h7.fr fun j => hf f j hff, by rw [hf _ _ (by omega), a1], by rw [hf _ _ (by omega), a2], by rw [hf _ _ (by omega), a3], by rw [hf _ _ (by omega), a4], by rw [hf _ _ (by omega), a5], by rw [hf _ _ (by omega), a6], by rw [hf _ _ (by omega), a7], by rw [hf _ _ (by omega), a8], by rw [hf _ _ (by omega), a9], by rw [hf _ _ (by omega), a10], fun v hv => by rw [hf _ _ (by omega), a11 v hv], fun b hb => by rw [hf _ _ (by omega), a12 b hb]⟩
theorem RunG.go (hK : S_KB K) (hF : S_FB F) (hw : 50 ≤ w ∧ w ≤ 150) (hR : RunG s K F w t I P c f) {e : Nat} (hte : t ≤ e) (he : e ≤ 96) : Rn (fX5_goOnTo 23 (nI e) (pu_hp s I P J n)) fun h => ∃ I1, h = pu_hp s I1 P J n ∧ R_F 23 I I1 ∧ RunG s K F w e I1 P c f := by
  obtain ⟨h4, h5, h6, h7, h8⟩ := hR
  refine Rn_mono (r_goOn h4 h5 hK hF hw he hte h6 h7 h8) ?_
  rintro _ ⟨I1, rfl, f1, g1⟩
  exact ⟨I1, rfl, f1, h4, h5, f1.c h6 h4.2.2.2.2.2.2.2.2.1, f1.f h7 h4.2.2.2.2.2.2.2.2.2, g1⟩
set_option maxHeartbeats 4000000 in
set_option maxRecDepth 100000 in
theorem RunG.tick (hK : S_KB K) (hR : RunG s K F w t I P c f) {b : Nat} (hb : b < knb K) : fX5_tickOf 23 (nI b) (pu_hp s I P J n) = some (dI (S_at K F w true t) b, pu_hp s I P J n) := by
  obtain ⟨h4, h5, h6, h7, h8⟩ := hR
  obtain ⟨r1, r2, r3, r4, r5, r6, r7, r8, r9, r10⟩ := id h4
  have hc1 := h5.1
  have hnb := hK.2.2.2.2.2.1
  have e := h8.2.2.2.2.2.2.2.2.2.2.2 b (by omega)
  unfold fX5_tickOf
  simp (disch := first | assumption | with_unfolding_all exact hW.1 _ _ rfl | rfl | exact pu_okI (by first | assumption | with_unfolding_all exact hW.1 _ _ rfl) (by omega) (by omega) | exact pu_oqI (by first | assumption | with_unfolding_all exact hW.1 _ _ rfl) (by omega) (by omega) | omega | decide) only [↓reduceIte, ↓gi_b, ↓pi_b, ↓gr_b, ↓pr_b, ↓al_b, ↓as_b, ↓al_3, ↓as_3, ↓al_12, ↓as_12, ↓al_l, ↓as_l, ↓rc_b, ↓Option.bind_some, ↓zr0_b, ↓zr1_b, ↓zrb_b, ↓pz0_b, ↓pz1_b, al_b, as_b, rc_b, gi_b, pi_b, gr_b, zr0, zr1, zrb, u_s, u_n, v_s, v_n, ↓isIn_b, ite_T, ite_F, il_t, il_f, li_t, li_f, it_t, it_f, ti_t, ti_f, ie_t, ie_f, ei_t, ei_f, nn_le_t, nn_le_f, nn_lt_t, nn_lt_f, nn_eq_t, nn_eq_f, nI_1, nI_add, ni_addl, ni_ladd, pk_mul, ni_mull, b2_t, b2_f, b2_0, one0, m1_eq, ni_m1, reduceCtorEq, Bool.false_eq_true, nI_clamp, if_true, Option.some.injEq, Prod.mk.injEq, and_true, true_and, Nat.reduceAdd, Nat.reduceMul, Nat.reduceSub, Nat.reduceEqDiff, Nat.reduceLeDiff, Nat.reduceLT, ↓gr_h r1 r6 rfl, ↓gr_h r1 r5 rfl, ↓hasB_b hc1 h6.2.2.2.2.1 hnb.2, decide_eq_true hb, e]
  rfl
set_option maxHeartbeats 4000000 in
set_option maxRecDepth 100000 in
theorem RunG.size (hK : S_KB K) (hF : S_FB F) (ht : t ≤ 96) (hR : RunG s K F w t I P c f) {b day : Nat} (hb : b < knb K) (hd : day ≤ 72) : fX5_errorSize 23 (nI b) (nI day) (pu_hp s I P J n) = some (nI (eZ K (S_at K F w true t) day b), pu_hp s I P J n) := by
  have hx := S_at_b (w := w) (sip := true) hK hF t
  have et := RunG.tick (J := J) (n := n) hK hR hb
  have h1 := dN_le hx ht b
  have h2 := tT_le hK hb hd
  obtain ⟨h4, h5, h6, h7, h8⟩ := hR
  obtain ⟨r1, r2, r3, r4, r5, r6, r7, r8, r9, r10⟩ := id h4
  have hc1 := h5.1
  have hnb := hK.2.2.2.2.2.1
  have e8 := h6.2.2.2.2.1
  have hm : (b + 1) * day ≤ 12 * 72 := Nat.mul_le_mul (by omega) hd
  have e1 : fX5_errorOf 23 (nI b) (nI day) (pu_hp s I P J n) = some (nI (dN (S_at K F w true t) b) - nI (tT K day b), pu_hp s I P J n) := by
    unfold fX5_errorOf fX5_errorOf_17 fX0_trueTick
    by_cases hdr : b < xdr (S_at K F w true t)
    · simp (disch := first | assumption | with_unfolding_all exact hW.1 _ _ rfl | rfl | exact pu_okI (by first | assumption | with_unfolding_all exact hW.1 _ _ rfl) (by omega) (by omega) | exact pu_oqI (by first | assumption | with_unfolding_all exact hW.1 _ _ rfl) (by omega) (by omega) | omega | decide) only [↓reduceIte, ↓gi_b, ↓pi_b, ↓gr_b, ↓pr_b, ↓al_b, ↓as_b, ↓al_3, ↓as_3, ↓al_12, ↓as_12, ↓al_l, ↓as_l, ↓rc_b, ↓Option.bind_some, ↓zr0_b, ↓zr1_b, ↓zrb_b, ↓pz0_b, ↓pz1_b, al_b, as_b, rc_b, gi_b, pi_b, gr_b, zr0, zr1, zrb, u_s, u_n, v_s, v_n, ↓isIn_b, ite_T, ite_F, il_t, il_f, li_t, li_f, it_t, it_f, ti_t, ti_f, ie_t, ie_f, ei_t, ei_f, nn_le_t, nn_le_f, nn_lt_t, nn_lt_f, nn_eq_t, nn_eq_f, nI_1, nI_add, ni_addl, ni_ladd, pk_mul, ni_mull, b2_t, b2_f, b2_0, one0, m1_eq, ni_m1, reduceCtorEq, Bool.false_eq_true, nI_clamp, if_true, Option.some.injEq, Prod.mk.injEq, and_true, true_and, Nat.reduceAdd, Nat.reduceMul, Nat.reduceSub, Nat.reduceEqDiff, Nat.reduceLeDiff, Nat.reduceLT, et, dI_m1 hx ht, eq_true hdr, not_true_eq_false, ↓gr_h r1 r6 rfl, e8, ↓quot_b]
      unfold dI dN tT
      rw [if_pos hdr, if_pos hdr]
    · simp (disch := first | assumption | with_unfolding_all exact hW.1 _ _ rfl | rfl | exact pu_okI (by first | assumption | with_unfolding_all exact hW.1 _ _ rfl) (by omega) (by omega) | exact pu_oqI (by first | assumption | with_unfolding_all exact hW.1 _ _ rfl) (by omega) (by omega) | omega | decide) only [↓reduceIte, ↓gi_b, ↓pi_b, ↓gr_b, ↓pr_b, ↓al_b, ↓as_b, ↓al_3, ↓as_3, ↓al_12, ↓as_12, ↓al_l, ↓as_l, ↓rc_b, ↓Option.bind_some, ↓zr0_b, ↓zr1_b, ↓zrb_b, ↓pz0_b, ↓pz1_b, al_b, as_b, rc_b, gi_b, pi_b, gr_b, zr0, zr1, zrb, u_s, u_n, v_s, v_n, ↓isIn_b, ite_T, ite_F, il_t, il_f, li_t, li_f, it_t, it_f, ti_t, ti_f, ie_t, ie_f, ei_t, ei_f, nn_le_t, nn_le_f, nn_lt_t, nn_lt_f, nn_eq_t, nn_eq_f, nI_1, nI_add, ni_addl, ni_ladd, pk_mul, ni_mull, b2_t, b2_f, b2_0, one0, m1_eq, ni_m1, reduceCtorEq, Bool.false_eq_true, nI_clamp, if_true, Option.some.injEq, Prod.mk.injEq, and_true, true_and, Nat.reduceAdd, Nat.reduceMul, Nat.reduceSub, Nat.reduceEqDiff, Nat.reduceLeDiff, Nat.reduceLT, et, dI_m1 hx ht, eq_false hdr, not_false_eq_true, ↓gr_h r1 r6 rfl, e8, ↓quot_b]
      unfold dN tT
      rw [if_neg hdr]
      rfl
  unfold fX5_errorSize
  simp (disch := first | assumption | with_unfolding_all exact hW.1 _ _ rfl | rfl | exact pu_okI (by first | assumption | with_unfolding_all exact hW.1 _ _ rfl) (by omega) (by omega) | exact pu_oqI (by first | assumption | with_unfolding_all exact hW.1 _ _ rfl) (by omega) (by omega) | omega | decide) only [↓reduceIte, ↓gi_b, ↓pi_b, ↓gr_b, ↓pr_b, ↓al_b, ↓as_b, ↓al_3, ↓as_3, ↓al_12, ↓as_12, ↓al_l, ↓as_l, ↓rc_b, ↓Option.bind_some, ↓zr0_b, ↓zr1_b, ↓zrb_b, ↓pz0_b, ↓pz1_b, al_b, as_b, rc_b, gi_b, pi_b, gr_b, zr0, zr1, zrb, u_s, u_n, v_s, v_n, ↓isIn_b, ite_T, ite_F, il_t, il_f, li_t, li_f, it_t, it_f, ti_t, ti_f, ie_t, ie_f, ei_t, ei_f, nn_le_t, nn_le_f, nn_lt_t, nn_lt_f, nn_eq_t, nn_eq_f, nI_1, nI_add, ni_addl, ni_ladd, pk_mul, ni_mull, b2_t, b2_f, b2_0, one0, m1_eq, ni_m1, reduceCtorEq, Bool.false_eq_true, nI_clamp, if_true, Option.some.injEq, Prod.mk.injEq, and_true, true_and, Nat.reduceAdd, Nat.reduceMul, Nat.reduceSub, Nat.reduceEqDiff, Nat.reduceLeDiff, Nat.reduceLT, e1]
  rw [sz_sub (by omega) (by omega)]; rfl
end RG
/-- the worst so far: size, season, ball -/
def wst (o : Option (Nat × Nat × Nat)) (e s b : Nat) : Option (Nat × Nat × Nat) := match o with
  | none => some (e, s, b)
  | some x => if x.1 < e then some (e, s, b) else some x
def wB (E : Nat → Nat) (s : Nat) : Nat → Nat → Option (Nat × Nat × Nat) → Option (Nat × Nat × Nat)
  | 0, _, o => o
  | m + 1, b, o => wB E s m (b + 1) (wst o (E b) s b)
def wE (K : S_K) (T : S_T) (s : Nat) : Nat → Nat := eZ K (S_at K (0, 0, 0, 0) (tw T s) true 96) (td T s)
def wS (K : S_K) (T : S_T) : Nat → Nat → Option (Nat × Nat × Nat) → Option (Nat × Nat × Nat)
  | 0, _, o => o
  | m + 1, s, o => wS K T m (s + 1) (wB (wE K T s) s (knb K) 0 o)
def wI (I : Nat → Nat → Int32) (a1 k1 a2 k2 a3 k3 : Nat) (o : Option (Nat × Nat × Nat)) : Prop := match o with
  | none => I a1 k1 = -1
  | some x => I a1 k1 = nI x.1 ∧ I a2 k2 = nI x.2.1 ∧ I a3 k3 = nI x.2.2
def wBd (o : Option (Nat × Nat × Nat)) : Prop := ∀ x, o = some x → x.1 ≤ 96
theorem wst_b {o : Option (Nat × Nat × Nat)} {e s b : Nat} (h : wBd o) (he : e ≤ 96) : wBd (wst o e s b) := by
  intro x hx
  unfold wst at hx
  split at hx
  · cases hx; exact he
  · rename_i y
    by_cases c : y.1 < e
    · rw [if_pos c] at hx; cases hx; exact he
    · rw [if_neg c] at hx; cases hx; exact h _ rfl
theorem wst_s {o : Option (Nat × Nat × Nat)} {e s b : Nat} : (wst o e s b).isSome = true := by
  unfold wst; split
  · rfl
  · split <;> rfl
theorem wB_b {E : Nat → Nat} {s : Nat} : ∀ (m b : Nat) (o : Option (Nat × Nat × Nat)), (∀ x, x < b + m → E x ≤ 96) → wBd o → wBd (wB E s m b o)
  | 0, _, _, _, h => h
  | m + 1, b, o, hE, h => wB_b m (b + 1) _ (fun x hx => hE x (by omega)) (wst_b h (hE b (by omega)))
theorem wB_s {E : Nat → Nat} {s : Nat} : ∀ (m b : Nat) (o : Option (Nat × Nat × Nat)), 0 < m ∨ o.isSome = true → (wB E s m b o).isSome = true
  | 0, _, _, h => by rcases h with h | h; omega; exact h
  | m + 1, b, o, _ => wB_s m (b + 1) _ (Or.inr wst_s)
theorem wE_le {K : S_K} {T : S_T} {nw s : Nat} (hK : S_KB K) (hT : T_B nw T) (hs : s < 4) {b : Nat} (hb : b < knb K) : wE K T s b ≤ 96 :=
  eZ_le hK (S_at_b hK ⟨Nat.zero_le _, Nat.zero_le _, Nat.zero_le _, Nat.zero_le _⟩ 96) (Nat.le_refl _) (hT.1 s hs).2.2 hb
theorem wS_b {K : S_K} {T : S_T} {nw : Nat} (hK : S_KB K) (hT : T_B nw T) : ∀ (m s : Nat) (o : Option (Nat × Nat × Nat)), s + m = 4 → wBd o → wBd (wS K T m s o)
  | 0, _, _, _, h => h
  | m + 1, s, o, hs, h => wS_b hK hT m (s + 1) _ (by omega) (wB_b _ _ _ (fun x hx => wE_le hK hT (by omega) (by omega)) h)
theorem wS_s {K : S_K} {T : S_T} (hK : S_KB K) : ∀ (m s : Nat) (o : Option (Nat × Nat × Nat)), 0 < m ∨ o.isSome = true → (wS K T m s o).isSome = true
  | 0, _, _, h => by rcases h with h | h; omega; exact h
  | m + 1, s, o, _ => wS_s hK m (s + 1) _ (Or.inr (wB_s _ _ _ (Or.inl (by have := hK.2.2.2.2.2.1; omega))))
section WO2
variable {s : Nat → Option pu_S} {I : Nat → Nat → Int32} {P : Nat → Nat → Option Nat} {J : Nat → Nat → Int64} {n : Nat × Nat}
variable {Z : S_Z} {i : Nat}
set_option maxHeartbeats 4000000 in
set_option maxRecDepth 100000 in
theorem c_w42 (hZ : Z_B Z) (hi : i < znc Z) {sn c : Nat} (hs : sn < 4) {k9 : Option Nat → Option Nat → Int32 → am_H → Option am_H} {Q : am_H → Prop} : ∀ (m b N : Nat) (I : Nat → Nat → Int32) (P : Nat → Nat → Option Nat) (o : Option (Nat × Nat × Nat)), b + m = knb (zK Z i) → m < N → InvC s I P n Z → RunG s (zK Z i) (0, 0, 0, 0) (tw (zT Z) sn) 96 I P c 21 → (c + 5 < 23 ∨ 39 < c) → wBd o → wI I 39 0 39 1 39 2 o →
    (∀ I', SF I I' P P → wI I' 39 0 39 1 39 2 (wB (wE (zK Z i) (zT Z) sn) sn m b o) → Rn (k9 (some 1) (some c) (nI (sn + 1)) (pu_hp s I' P J n)) Q) → Rn (fX8_findWorst_42 k9 N (some 1) (some c) (nI sn) (nI b) (pu_hp s I P J n)) Q := by
  have hK := (hZ.1.2 i hi).1
  have hnb := hK.2.2.2.2.2.1
  have hT := hZ.2.2.2.1
  have hd := (hT.1 sn hs).2.2
  intro m
  induction m with
  | zero =>
    intro b N I P o hb hN hI hR hcd ho hw kk
    obtain ⟨N, rfl⟩ : ∃ N', N = N' + 1 := ⟨N - 1, by omega⟩
    have hW := hI.1
    have hc1 := hR.2.1.1
    show Rn (fX8_findWorst_42_b _ _ _ _ _ _ _) _
    unfold fX8_findWorst_42_b
    simp (disch := first | assumption | with_unfolding_all exact hW.1 _ _ rfl | rfl | exact pu_okI (by first | assumption | with_unfolding_all exact hW.1 _ _ rfl) (by omega) (by omega) | exact pu_oqI (by first | assumption | with_unfolding_all exact hW.1 _ _ rfl) (by omega) (by omega) | omega | decide) only [↓reduceIte, ↓gi_b, ↓pi_b, ↓gr_b, ↓pr_b, ↓al_b, ↓as_b, ↓al_3, ↓as_3, ↓al_12, ↓as_12, ↓al_l, ↓as_l, ↓rc_b, ↓Option.bind_some, ↓zr0_b, ↓zr1_b, ↓zrb_b, ↓pz0_b, ↓pz1_b, al_b, as_b, rc_b, gi_b, pi_b, gr_b, zr0, zr1, zrb, u_s, u_n, v_s, v_n, ↓isIn_b, ite_T, ite_F, il_t, il_f, li_t, li_f, it_t, it_f, ti_t, ti_f, ie_t, ie_f, ei_t, ei_f, nn_le_t, nn_le_f, nn_lt_t, nn_lt_f, nn_eq_t, nn_eq_f, nI_1, nI_add, ni_addl, ni_ladd, pk_mul, ni_mull, b2_t, b2_f, b2_0, one0, m1_eq, ni_m1, reduceCtorEq, Bool.false_eq_true, nI_clamp, if_true, Option.some.injEq, Prod.mk.injEq, and_true, true_and, Nat.reduceAdd, Nat.reduceMul, Nat.reduceSub, Nat.reduceEqDiff, Nat.reduceLeDiff, Nat.reduceLT, hR.2.2.1.2.2.2.2.1]
    exact kk I ⟨fun _ _ _ => rfl, fun _ _ _ => rfl⟩ hw
  | succ m ih =>
    intro b N I P o hb hN hI hR hcd ho hw kk
    obtain ⟨N, rfl⟩ : ∃ N', N = N' + 1 := ⟨N - 1, by omega⟩
    have hW := hI.1
    have hc1 := hR.2.1.1
    have hE := wE_le hK hT hs (show b < knb (zK Z i) by omega)
    have esz : fX5_errorSize 23 (nI b) (nI (td (zT Z) sn)) (pu_hp s I P J n) = some (nI (wE (zK Z i) (zT Z) sn b), pu_hp s I P J n) := hR.size hK ⟨Nat.zero_le _, Nat.zero_le _, Nat.zero_le _, Nat.zero_le _⟩ (Nat.le_refl _) (by omega) hd
    have keep : wst o (wE (zK Z i) (zT Z) sn b) sn b = o → Rn (fX8_findWorst_42 k9 N (some 1) (some c) (nI sn) (nI (b + 1)) (pu_hp s I P J n)) Q := fun e =>
      ih (b + 1) N I P o (by omega) (by omega) hI hR hcd ho hw fun I' f g => kk I' f (by
        show wI I' 39 0 39 1 39 2 (wB _ _ m (b + 1) (wst o _ sn b))
        rw [e]; exact g)
    have take : wst o (wE (zK Z i) (zT Z) sn b) sn b = some (wE (zK Z i) (zT Z) sn b, sn, b) → Rn (fX8_findWorst_42 k9 N (some 1) (some c) (nI sn) (nI (b + 1)) (pu_hp s (pu_u (pu_u (pu_u I 39 0 (nI (wE (zK Z i) (zT Z) sn b))) 39 1 (nI sn)) 39 2 (nI b)) P J n)) Q := fun e => by
      have hf : SF I (pu_u (pu_u (pu_u I 39 0 (nI (wE (zK Z i) (zT Z) sn b))) 39 1 (nI sn)) 39 2 (nI b)) P P := ⟨fun x j hb => by unfold scC at hb; rw [u_n (by omega), u_n (by omega), u_n (by omega)], fun _ _ _ => rfl⟩
      have fr : ∀ x j, ¬ x = 39 → pu_u (pu_u (pu_u I 39 0 (nI (wE (zK Z i) (zT Z) sn b))) 39 1 (nI sn)) 39 2 (nI b) x j = I x j := fun x j hb => by rw [u_n (by omega), u_n (by omega), u_n (by omega)]
      refine ih (b + 1) N _ P (some (wE (zK Z i) (zT Z) sn b, sn, b)) (by omega) (by omega) (hf.inv hI) (hR.fr fr (by omega) (by omega)) hcd (fun x hx => by cases hx; exact hE) ⟨?_, ?_, ?_⟩ fun I' f g => kk I' (hf.tr f) (by
        show wI I' 39 0 39 1 39 2 (wB _ _ m (b + 1) (wst o _ sn b))
        rw [e]; exact g)
      · rw [u_n (by omega), u_n (by omega), u_s]
      · rw [u_n (by omega), u_s]
      · rw [u_s]
    show Rn (fX8_findWorst_42_b k9 (fX8_findWorst_42 k9 N) _ _ _ _ _) _
    unfold fX8_findWorst_42_b fX8_findWorst_98
    cases o with
    | none =>
      have hw' : I 39 0 = -1 := hw
      have hle : (nI (wE (zK Z i) (zT Z) sn b) ≤ (-1 : Int32)) = False := by
        rw [i_le]
        exact eq_false fun q => q (Int32.lt_of_lt_of_le (by decide : (-1 : Int32) < 0) (nI_pos' (by omega)))
      simp (disch := first | assumption | with_unfolding_all exact hW.1 _ _ rfl | rfl | exact pu_okI (by first | assumption | with_unfolding_all exact hW.1 _ _ rfl) (by omega) (by omega) | exact pu_oqI (by first | assumption | with_unfolding_all exact hW.1 _ _ rfl) (by omega) (by omega) | omega | decide) only [↓reduceIte, ↓gi_b, ↓pi_b, ↓gr_b, ↓pr_b, ↓al_b, ↓as_b, ↓al_3, ↓as_3, ↓al_12, ↓as_12, ↓al_l, ↓as_l, ↓rc_b, ↓Option.bind_some, ↓zr0_b, ↓zr1_b, ↓zrb_b, ↓pz0_b, ↓pz1_b, al_b, as_b, rc_b, gi_b, pi_b, gr_b, zr0, zr1, zrb, u_s, u_n, v_s, v_n, ↓isIn_b, ite_T, ite_F, il_t, il_f, li_t, li_f, it_t, it_f, ti_t, ti_f, ie_t, ie_f, ei_t, ei_f, nn_le_t, nn_le_f, nn_lt_t, nn_lt_f, nn_eq_t, nn_eq_f, nI_1, nI_add, ni_addl, ni_ladd, pk_mul, ni_mull, b2_t, b2_f, b2_0, one0, m1_eq, ni_m1, reduceCtorEq, Bool.false_eq_true, nI_clamp, if_true, Option.some.injEq, Prod.mk.injEq, and_true, true_and, Nat.reduceAdd, Nat.reduceMul, Nat.reduceSub, Nat.reduceEqDiff, Nat.reduceLeDiff, Nat.reduceLT, ↓gr1_14 hW, ↓gr1_18 hW, ↓gr1_12 hW, hR.2.2.1.2.2.2.2.1, q_dayOf hI hs, esz, hw', hle]
      exact take rfl
    | some x =>
      obtain ⟨w1, w2, w3⟩ := hw
      have hx := ho x rfl
      by_cases e : wE (zK Z i) (zT Z) sn b ≤ x.1
      · simp (disch := first | assumption | with_unfolding_all exact hW.1 _ _ rfl | rfl | exact pu_okI (by first | assumption | with_unfolding_all exact hW.1 _ _ rfl) (by omega) (by omega) | exact pu_oqI (by first | assumption | with_unfolding_all exact hW.1 _ _ rfl) (by omega) (by omega) | omega | decide) only [↓reduceIte, ↓gi_b, ↓pi_b, ↓gr_b, ↓pr_b, ↓al_b, ↓as_b, ↓al_3, ↓as_3, ↓al_12, ↓as_12, ↓al_l, ↓as_l, ↓rc_b, ↓Option.bind_some, ↓zr0_b, ↓zr1_b, ↓zrb_b, ↓pz0_b, ↓pz1_b, al_b, as_b, rc_b, gi_b, pi_b, gr_b, zr0, zr1, zrb, u_s, u_n, v_s, v_n, ↓isIn_b, ite_T, ite_F, il_t, il_f, li_t, li_f, it_t, it_f, ti_t, ti_f, ie_t, ie_f, ei_t, ei_f, nn_le_t, nn_le_f, nn_lt_t, nn_lt_f, nn_eq_t, nn_eq_f, nI_1, nI_add, ni_addl, ni_ladd, pk_mul, ni_mull, b2_t, b2_f, b2_0, one0, m1_eq, ni_m1, reduceCtorEq, Bool.false_eq_true, nI_clamp, if_true, Option.some.injEq, Prod.mk.injEq, and_true, true_and, Nat.reduceAdd, Nat.reduceMul, Nat.reduceSub, Nat.reduceEqDiff, Nat.reduceLeDiff, Nat.reduceLT, ↓gr1_14 hW, ↓gr1_18 hW, ↓gr1_12 hW, hR.2.2.1.2.2.2.2.1, q_dayOf hI hs, esz, w1]
        exact keep (by unfold wst; exact if_neg (by omega))
      · simp (disch := first | assumption | with_unfolding_all exact hW.1 _ _ rfl | rfl | exact pu_okI (by first | assumption | with_unfolding_all exact hW.1 _ _ rfl) (by omega) (by omega) | exact pu_oqI (by first | assumption | with_unfolding_all exact hW.1 _ _ rfl) (by omega) (by omega) | omega | decide) only [↓reduceIte, ↓gi_b, ↓pi_b, ↓gr_b, ↓pr_b, ↓al_b, ↓as_b, ↓al_3, ↓as_3, ↓al_12, ↓as_12, ↓al_l, ↓as_l, ↓rc_b, ↓Option.bind_some, ↓zr0_b, ↓zr1_b, ↓zrb_b, ↓pz0_b, ↓pz1_b, al_b, as_b, rc_b, gi_b, pi_b, gr_b, zr0, zr1, zrb, u_s, u_n, v_s, v_n, ↓isIn_b, ite_T, ite_F, il_t, il_f, li_t, li_f, it_t, it_f, ti_t, ti_f, ie_t, ie_f, ei_t, ei_f, nn_le_t, nn_le_f, nn_lt_t, nn_lt_f, nn_eq_t, nn_eq_f, nI_1, nI_add, ni_addl, ni_ladd, pk_mul, ni_mull, b2_t, b2_f, b2_0, one0, m1_eq, ni_m1, reduceCtorEq, Bool.false_eq_true, nI_clamp, if_true, Option.some.injEq, Prod.mk.injEq, and_true, true_and, Nat.reduceAdd, Nat.reduceMul, Nat.reduceSub, Nat.reduceEqDiff, Nat.reduceLeDiff, Nat.reduceLT, ↓gr1_14 hW, ↓gr1_18 hW, ↓gr1_12 hW, hR.2.2.1.2.2.2.2.1, q_dayOf hI hs, esz, w1]
        exact take (by unfold wst; exact if_pos (by omega))
set_option maxHeartbeats 4000000 in
set_option maxRecDepth 100000 in
theorem c_w9 (hZ : Z_B Z) (hi : i < znc Z) {c : Nat} (hcd : 40 ≤ c) : ∀ (m sn N : Nat) (I : Nat → Nat → Int32) (P : Nat → Nat → Option Nat) (o : Option (Nat × Nat × Nat)), sn + m = 4 → m < N → InvC s I P n Z → P 2 i = some c → wBd o → wI I 39 0 39 1 39 2 o →
    Rn (fX8_findWorst_9 N (some 1) (some c) (nI sn) (pu_hp s I P J n)) fun h => ∃ I' P', h = pu_hp s I' P' J n ∧ SF I I' P P' ∧ wI I' 39 0 39 1 39 2 (wS (zK Z i) (zT Z) m sn o) := by
  have hK := (hZ.1.2 i hi).1
  have hnb := hK.2.2.2.2.2.1
  have hT := hZ.2.2.2.1
  intro m
  induction m with
  | zero =>
    intro sn N I P o hs hN hI hP ho hw
    obtain ⟨N, rfl⟩ : ∃ N', N = N' + 1 := ⟨N - 1, by omega⟩
    have hW := hI.1
    show Rn (fX8_findWorst_9_b _ _ _ _ _) _
    unfold fX8_findWorst_9_b
    simp (disch := first | assumption | with_unfolding_all exact hW.1 _ _ rfl | rfl | exact pu_okI (by first | assumption | with_unfolding_all exact hW.1 _ _ rfl) (by omega) (by omega) | exact pu_oqI (by first | assumption | with_unfolding_all exact hW.1 _ _ rfl) (by omega) (by omega) | omega | decide) only [↓reduceIte, ↓gi_b, ↓pi_b, ↓gr_b, ↓pr_b, ↓al_b, ↓as_b, ↓al_3, ↓as_3, ↓al_12, ↓as_12, ↓al_l, ↓as_l, ↓rc_b, ↓Option.bind_some, ↓zr0_b, ↓zr1_b, ↓zrb_b, ↓pz0_b, ↓pz1_b, al_b, as_b, rc_b, gi_b, pi_b, gr_b, zr0, zr1, zrb, u_s, u_n, v_s, v_n, ↓isIn_b, ite_T, ite_F, il_t, il_f, li_t, li_f, it_t, it_f, ti_t, ti_f, ie_t, ie_f, ei_t, ei_f, nn_le_t, nn_le_f, nn_lt_t, nn_lt_f, nn_eq_t, nn_eq_f, nI_1, nI_add, ni_addl, ni_ladd, pk_mul, ni_mull, b2_t, b2_f, b2_0, one0, m1_eq, ni_m1, reduceCtorEq, Bool.false_eq_true, nI_clamp, if_true, Option.some.injEq, Prod.mk.injEq, and_true, true_and, Nat.reduceAdd, Nat.reduceMul, Nat.reduceSub, Nat.reduceEqDiff, Nat.reduceLeDiff, Nat.reduceLT]
    exact Rn_some ⟨I, P, rfl, ⟨fun _ _ _ => rfl, fun _ _ _ => rfl⟩, hw⟩
  | succ m ih =>
    intro sn N I P o hs hN hI hP ho hw
    obtain ⟨N, rfl⟩ : ∃ N', N = N' + 1 := ⟨N - 1, by omega⟩
    have hW := hI.1
    obtain ⟨c', b1, b2, b3, b4, b5⟩ := hI.2.2.2.2.2.1 i hi
    rw [hP] at b1
    obtain rfl := Option.some.inj b1
    have hs4 : sn < 4 := by omega
    show Rn (fX8_findWorst_9_b (fX8_findWorst_9 N) _ _ _ _) _
    unfold fX8_findWorst_9_b
    simp (disch := first | assumption | with_unfolding_all exact hW.1 _ _ rfl | rfl | exact pu_okI (by first | assumption | with_unfolding_all exact hW.1 _ _ rfl) (by omega) (by omega) | exact pu_oqI (by first | assumption | with_unfolding_all exact hW.1 _ _ rfl) (by omega) (by omega) | omega | decide) only [↓reduceIte, ↓gi_b, ↓pi_b, ↓gr_b, ↓pr_b, ↓al_b, ↓as_b, ↓al_3, ↓as_3, ↓al_12, ↓as_12, ↓al_l, ↓as_l, ↓rc_b, ↓Option.bind_some, ↓zr0_b, ↓zr1_b, ↓zrb_b, ↓pz0_b, ↓pz1_b, al_b, as_b, rc_b, gi_b, pi_b, gr_b, zr0, zr1, zrb, u_s, u_n, v_s, v_n, ↓isIn_b, ite_T, ite_F, il_t, il_f, li_t, li_f, it_t, it_f, ti_t, ti_f, ie_t, ie_f, ei_t, ei_f, nn_le_t, nn_le_f, nn_lt_t, nn_lt_f, nn_eq_t, nn_eq_f, nI_1, nI_add, ni_addl, ni_ladd, pk_mul, ni_mull, b2_t, b2_f, b2_0, one0, m1_eq, ni_m1, reduceCtorEq, Bool.false_eq_true, nI_clamp, if_true, Option.some.injEq, Prod.mk.injEq, and_true, true_and, Nat.reduceAdd, Nat.reduceMul, Nat.reduceSub, Nat.reduceEqDiff, Nat.reduceLeDiff, Nat.reduceLT, ↓gr1_14 hW, ↓gr1_18 hW, ↓gr1_12 hW, q_warmOf hI hs4]
    refine Rn_bind (g_start (F := (0, 0, 0, 0)) (w := tw (zT Z) sn) (f := 21) hW hK b4 b5 (hW.1 _ _ rfl) hI.2.2.2.2.1 (by omega) (by omega)) ?_
    rintro _ ⟨I1, P1, rfl, f1, hR⟩
    have hI1 := f1.sf.inv hI
    have hW := hI1.1
    simp (disch := first | assumption | with_unfolding_all exact hW.1 _ _ rfl | rfl | exact pu_okI (by first | assumption | with_unfolding_all exact hW.1 _ _ rfl) (by omega) (by omega) | exact pu_oqI (by first | assumption | with_unfolding_all exact hW.1 _ _ rfl) (by omega) (by omega) | omega | decide) only [↓reduceIte, ↓gi_b, ↓pi_b, ↓gr_b, ↓pr_b, ↓al_b, ↓as_b, ↓al_3, ↓as_3, ↓al_12, ↓as_12, ↓al_l, ↓as_l, ↓rc_b, ↓Option.bind_some, ↓zr0_b, ↓zr1_b, ↓zrb_b, ↓pz0_b, ↓pz1_b, al_b, as_b, rc_b, gi_b, pi_b, gr_b, zr0, zr1, zrb, u_s, u_n, v_s, v_n, ↓isIn_b, ite_T, ite_F, il_t, il_f, li_t, li_f, it_t, it_f, ti_t, ti_f, ie_t, ie_f, ei_t, ei_f, nn_le_t, nn_le_f, nn_lt_t, nn_lt_f, nn_eq_t, nn_eq_f, nI_1, nI_add, ni_addl, ni_ladd, pk_mul, ni_mull, b2_t, b2_f, b2_0, one0, m1_eq, ni_m1, reduceCtorEq, Bool.false_eq_true, nI_clamp, if_true, Option.some.injEq, Prod.mk.injEq, and_true, true_and, Nat.reduceAdd, Nat.reduceMul, Nat.reduceSub, Nat.reduceEqDiff, Nat.reduceLeDiff, Nat.reduceLT, ↓gr1_14 hW, ↓gr1_18 hW, ↓gr1_12 hW]
    refine Rn_bind (hR.go (e := 96) hK ⟨Nat.zero_le _, Nat.zero_le _, Nat.zero_le _, Nat.zero_le _⟩ (hT.1 sn hs4).1 (by omega) (by omega)) ?_
    rintro _ ⟨I2, rfl, f2, hR2⟩
    have f12 : RGF I I2 P P1 := ⟨f1.1.t f2, f1.2⟩
    have hI2 := f12.sf.inv hI
    rw [show (0 : Int32) = nI 0 from rfl]
    have hw2 : wI I2 39 0 39 1 39 2 o := by
      cases o with
      | none => show I2 39 0 = -1; rw [f12.1 _ _ (by omega)]; exact hw
      | some x => exact ⟨by rw [f12.1 _ _ (by omega)]; exact hw.1, by rw [f12.1 _ _ (by omega)]; exact hw.2.1, by rw [f12.1 _ _ (by omega)]; exact hw.2.2⟩
    refine c_w42 hZ hi hs4 (knb (zK Z i)) 0 am_fu I2 P1 o (by omega) (by unfold am_fu; omega) hI2 hR2 (by omega) ho hw2 fun I3 f3 g3 => ?_
    have f13 := f12.sf.tr f3
    refine Rn_mono (ih (sn + 1) N I3 P1 _ (by omega) (by omega) (f13.inv hI) (by rw [f13.2 _ _ (by unfold scP; omega), hP]) (wB_b _ _ _ (fun x hx => wE_le hK hT hs4 (by omega)) ho) g3) ?_
    rintro _ ⟨I4, P4, rfl, f4, g4⟩
    exact ⟨I4, P4, rfl, f13.tr f4, g4⟩
set_option maxHeartbeats 4000000 in
set_option maxRecDepth 100000 in
theorem c_worst (hZ : Z_B Z) (hi : i < znc Z) (hI : InvC s I P n Z) {c : Nat} (hc : P 2 i = some c) : Rn (fX8_findWorst 1 (some c) (pu_hp s I P J n)) fun h => ∃ I' P', h = pu_hp s I' P' J n ∧ SF I I' P P' ∧ wI I' 39 0 39 1 39 2 (wS (zK Z i) (zT Z) 4 0 none) := by
  have hW := hI.1
  obtain ⟨c', b1, b2, b3, b4, b5⟩ := hI.2.2.2.2.2.1 i hi
  rw [hc] at b1
  obtain rfl := Option.some.inj b1
  unfold fX8_findWorst
  simp (disch := first | assumption | with_unfolding_all exact hW.1 _ _ rfl | rfl | exact pu_okI (by first | assumption | with_unfolding_all exact hW.1 _ _ rfl) (by omega) (by omega) | exact pu_oqI (by first | assumption | with_unfolding_all exact hW.1 _ _ rfl) (by omega) (by omega) | omega | decide) only [↓reduceIte, ↓gi_b, ↓pi_b, ↓gr_b, ↓pr_b, ↓al_b, ↓as_b, ↓al_3, ↓as_3, ↓al_12, ↓as_12, ↓al_l, ↓as_l, ↓rc_b, ↓Option.bind_some, ↓zr0_b, ↓zr1_b, ↓zrb_b, ↓pz0_b, ↓pz1_b, al_b, as_b, rc_b, gi_b, pi_b, gr_b, zr0, zr1, zrb, u_s, u_n, v_s, v_n, ↓isIn_b, ite_T, ite_F, il_t, il_f, li_t, li_f, it_t, it_f, ti_t, ti_f, ie_t, ie_f, ei_t, ei_f, nn_le_t, nn_le_f, nn_lt_t, nn_lt_f, nn_eq_t, nn_eq_f, nI_1, nI_add, ni_addl, ni_ladd, pk_mul, ni_mull, b2_t, b2_f, b2_0, one0, m1_eq, ni_m1, reduceCtorEq, Bool.false_eq_true, nI_clamp, if_true, Option.some.injEq, Prod.mk.injEq, and_true, true_and, Nat.reduceAdd, Nat.reduceMul, Nat.reduceSub, Nat.reduceEqDiff, Nat.reduceLeDiff, Nat.reduceLT, ↓gr1_14 hW, ↓gr1_18 hW, ↓gr1_12 hW]
  rw [show (0 : Int32) = nI 0 from rfl]
  have hf : SF I (pu_u I 39 0 (-1)) P P := ⟨fun b j hb => by unfold scC at hb; rw [u_n (by omega)], fun _ _ _ => rfl⟩
  refine Rn_mono (c_w9 hZ hi b2 4 0 am_fu _ P none (by omega) (by unfold am_fu; omega) (hf.inv hI) hc (fun x hx => by cases hx) u_s) ?_
  rintro _ ⟨I1, P1, rfl, f1, g1⟩
  exact ⟨I1, P1, rfl, hf.tr f1, g1⟩
end WO2
