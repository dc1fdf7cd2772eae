/-! the call clock: a new clock -/
theorem C_S.fr2 {s s' : Nat → Option pu_S} {P P' : Nat → Nat → Option Nat} {c : Nat} (h : C_S s P c) (hs : ∀ b, c ≤ b → b ≤ c + 5 → s' b = s b) (hP : ∀ k, P' c k = P c k) : C_S s' P' c := by
  obtain ⟨c1, c2, c3, c4, c5, c6, c7, c8, c9, c10, c11⟩ := h
  exact ⟨by rw [hs _ (by omega) (by omega), c1], by rw [hs _ (by omega) (by omega), c2], by rw [hs _ (by omega) (by omega), c3], by rw [hs _ (by omega) (by omega), c4], by rw [hs _ (by omega) (by omega), c5], by rw [hs _ (by omega) (by omega), c6], by rw [hP, c7], by rw [hP, c8], by rw [hP, c9], by rw [hP, c10], by rw [hP, c11]⟩
theorem nwo_0 {s : Nat → Option pu_S} {I : Nat → Nat → Int32} {P : Nat → Nat → Option Nat} {J : Nat → Nat → Int64} {n : Nat × Nat} {ρ : Type} (F : Nat × am_H → Option ρ) : (am_nwo (pu_hp s I P J n) 0 df_0).bind F = F (n.1 + 1, pu_hp (pu_row s (n.1 + 1) (some (0, 0, 0))) (pu_row I (n.1 + 1) (fun _ => 0)) (pu_row P (n.1 + 1) (fun _ => none)) J (n.1 + 1, n.2 + 10)) := by
  rw [pu_nw (ci := 0) (by rfl), pu_hp_J (pu_row_s _ _ _) (by decide)]; rfl
theorem init_st {s : Nat → Option pu_S} {I : Nat → Nat → Int32} {P : Nat → Nat → Option Nat} {J : Nat → Nat → Int64} {n : Nat × Nat} {ρ : Type} {a ci k t : Nat} {x : Int32} {F : am_H → Option ρ} (hs : s a = some (0, ci, 0)) (hk : (pu_fk ci)[k]? = some 1) (ha : a ≤ n.1) (m : Nat) (hx : ¬ (x < 0 ∨ 100000 < x.toNatClampNeg)) (hm : x.toNatClampNeg = m) : (am_na (pu_hp s I P J n) t x).bind (fun y => (am_pr y.2 (some a) ci k y.1).bind F) = F (pu_hp (pu_row s (n.1 + 1) (some (1, t, m))) (pu_row I (n.1 + 1) fun _ => 0) (pu_v P a k (some (n.1 + 1))) J (n.1 + 1, n.2 + m)) := by
  subst hm
  rw [pu_na hx]
  show (am_pr (pu_hp _ _ _ _ _) (some a) ci k (some (n.1 + 1))).bind F = _
  rw [pr_b (by rw [pu_row_n (by omega)]; exact hs) hk]
section CI
variable {s : Nat → Option pu_S} {I : Nat → Nat → Int32} {P : Nat → Nat → Option Nat} {J : Nat → Nat → Int64} {n : Nat × Nat}
set_option maxHeartbeats 4000000 in
set_option maxRecDepth 100000 in
theorem c_init0 {a : Nat} (hs : s a = some (0, 0, 0)) (ha : a ≤ n.1) : ∃ s' I' P', fX0_init a (pu_hp s I P J n) = some (pu_hp s' I' P' J (n.1 + 5, n.2 + 24)) ∧ (s' (n.1 + 1) = some (1, 0, 3) ∧ s' (n.1 + 2) = some (1, 0, 3) ∧ s' (n.1 + 3) = some (1, 0, 3) ∧ s' (n.1 + 4) = some (1, 0, 3) ∧ s' (n.1 + 5) = some (1, 0, 12)) ∧ (P' a 1 = some (n.1 + 1) ∧ P' a 2 = some (n.1 + 2) ∧ P' a 3 = some (n.1 + 3) ∧ P' a 4 = some (n.1 + 4) ∧ P' a 9 = some (n.1 + 5)) ∧ (∀ b, b ≤ n.1 → s' b = s b) ∧ (∀ b j, b ≤ n.1 → I' b j = I b j) ∧ ∀ b k, b ≤ n.1 → ¬ (b = a ∧ (k = 1 ∨ k = 2 ∨ k = 3 ∨ k = 4 ∨ k = 9)) → P' b k = P b k := by
  obtain ⟨na, ns⟩ := n
  have ha : a ≤ na := ha
  refine ⟨pu_row (pu_row (pu_row (pu_row (pu_row s (na + 1) (some (1, 0, 3))) (na + 2) (some (1, 0, 3))) (na + 3) (some (1, 0, 3))) (na + 4) (some (1, 0, 3))) (na + 5) (some (1, 0, 12)), pu_row (pu_row (pu_row (pu_row (pu_row I (na + 1) fun _ => 0) (na + 2) fun _ => 0) (na + 3) fun _ => 0) (na + 4) fun _ => 0) (na + 5) fun _ => 0, pu_v (pu_v (pu_v (pu_v (pu_v P a 1 (some (na + 1))) a 2 (some (na + 2))) a 3 (some (na + 3))) a 4 (some (na + 4))) a 9 (some (na + 5)), ?_, ⟨?_, ?_, ?_, ?_, ?_⟩, ⟨?_, ?_, ?_, ?_, ?_⟩, fun b hb => ?_, fun b j hb => ?_, fun b k hb hk => ?_⟩
  · unfold fX0_init
    rw [init_st hs rfl ha 3 (by decide) (by decide)]
    rw [init_st (by rw [pu_row_n (by show ¬ a = na + 1; omega)]; exact hs) rfl (by show a ≤ na + 1; omega) 3 (by decide) (by decide)]
    rw [init_st (by rw [pu_row_n (by show ¬ a = na + 1 + 1; omega), pu_row_n (by show ¬ a = na + 1; omega)]; exact hs) rfl (by show a ≤ na + 1 + 1; omega) 3 (by decide) (by decide)]
    rw [init_st (by rw [pu_row_n (by show ¬ a = na + 1 + 1 + 1; omega), pu_row_n (by show ¬ a = na + 1 + 1; omega), pu_row_n (by show ¬ a = na + 1; omega)]; exact hs) rfl (by show a ≤ na + 1 + 1 + 1; omega) 3 (by decide) (by decide)]
    rw [init_st (by rw [pu_row_n (by show ¬ a = na + 1 + 1 + 1 + 1; omega), pu_row_n (by show ¬ a = na + 1 + 1 + 1; omega), pu_row_n (by show ¬ a = na + 1 + 1; omega), pu_row_n (by show ¬ a = na + 1; omega)]; exact hs) rfl (by show a ≤ na + 1 + 1 + 1 + 1; omega) 12 (by decide) (by decide)]
  · show pu_row _ _ _ (na + 1) = _
    rw [pu_row_n (by omega), pu_row_n (by omega), pu_row_n (by omega), pu_row_n (by omega), pu_row_s]
  · show pu_row _ _ _ (na + 2) = _
    rw [pu_row_n (by omega), pu_row_n (by omega), pu_row_n (by omega), pu_row_s]
  · show pu_row _ _ _ (na + 3) = _
    rw [pu_row_n (by omega), pu_row_n (by omega), pu_row_s]
  · show pu_row _ _ _ (na + 4) = _
    rw [pu_row_n (by omega), pu_row_s]
  · exact pu_row_s _ _ _
  · rw [v_n (by omega), v_n (by omega), v_n (by omega), v_n (by omega), v_s]
  · rw [v_n (by omega), v_n (by omega), v_n (by omega), v_s]
  · rw [v_n (by omega), v_n (by omega), v_s]
  · rw [v_n (by omega), v_s]
  · exact v_s
  · have hb : b ≤ na := hb
    rw [pu_row_n (by omega), pu_row_n (by omega), pu_row_n (by omega), pu_row_n (by omega), pu_row_n (by omega)]
  · have hb : b ≤ na := hb
    rw [pu_row_n (by omega), pu_row_n (by omega), pu_row_n (by omega), pu_row_n (by omega), pu_row_n (by omega)]
  · rw [v_n (by omega), v_n (by omega), v_n (by omega), v_n (by omega), v_n (by omega)]
end CI
def zsK (Z : S_Z) (K : S_K) : S_Z := ((znc Z + 1, upG (zK Z) (znc Z) K), Z.2.1, Z.2.2.1, Z.2.2.2.1, Z.2.2.2.2.1, (0, fun _ => 0), Z.2.2.2.2.2.2)
theorem zsK_B {Z : S_Z} (hZ : Z_B Z) {K : S_K} (h4 : znc Z < 4) (hK : S_KB K) (hO : ∀ v, v < kn K → kO K v ≤ 40) : Z_B (zsK Z K) := by
  refine ⟨⟨by show znc Z + 1 ≤ 4; omega, fun i hi => ?_⟩, hZ.2.1, hZ.2.2.1, hZ.2.2.2.1, hZ.2.2.2.2.1, ⟨Nat.zero_le _, fun k hk => absurd hk (Nat.not_lt_zero k)⟩, hZ.2.2.2.2.2.2⟩
  have hi : i < znc Z + 1 := hi
  show S_KB (upG (zK Z) (znc Z) K i) ∧ ∀ v, v < kn (upG (zK Z) (znc Z) K i) → kO (upG (zK Z) (znc Z) K i) v ≤ 40
  by_cases e : i = znc Z
  · subst e; rw [upG_s]; exact ⟨hK, hO⟩
  · rw [upG_n e]; exact hZ.1.2 i (by omega)
theorem CKd.CI {I : Nat → Nat → Int32} {K : S_K} (h : CKd I K 2) : C_I I 15 K := by
  obtain ⟨t1, t2, t3, t4, t5, t6⟩ := h
  exact ⟨t1, (t5 (by omega)).1, (t5 (by omega)).2, t6 (by omega), t2, t3, t4⟩
theorem rft_2 (k : Nat) : rft 2 k = none := rfl
section CL
variable {s : Nat → Option pu_S} {I : Nat → Nat → Int32} {P : Nat → Nat → Option Nat} {J : Nat → Nat → Int64} {n : Nat × Nat}
variable {Z : S_Z} {K : S_K}

set_option maxHeartbeats 4000000 in
set_option maxRecDepth 100000 in
theorem c_newK (hZ : Z_B Z) (h : InvC s I P n Z) (h4 : znc Z < 4) (hK : S_KB K) (hk : CKd I K 2) {R : Int32 × am_H → Prop} (hR : ∀ s' I' P', InvC s' I' P' (n.1 + 6, n.2 + 34) (zsK Z K) → (∀ b, b ≤ n.1 → s' b = s b) → (∀ b j, 40 ≤ b → b ≤ n.1 → I' b j = I b j) → R (nI (znc Z), pu_hp s' I' P' J (n.1 + 6, n.2 + 34))) :
    Rn ((am_nwo (pu_hp s I P J n) 0 df_0).bind fun y6 =>
    (fX0_init y6.1 y6.2).bind fun y7 =>
    (am_gr y7 (some 1) 8 11).bind fun x8 =>
    (am_rc y7 (some y6.1) 0).bind fun b10 =>
    (fX0_copyFrom b10 x8 y7).bind fun y9 =>
    (am_gr y9 (some 1) 8 0).bind fun x11 =>
    (am_gi y9 (some 1) 8 3).bind fun x12 =>
    (am_asr y9 x11 4 x12 (some y6.1)).bind fun h13 =>
    (am_gi h13 (some 1) 8 3).bind fun x14 =>
    (am_pi h13 (some 1) 8 3 (x14 + (1 : Int32))).bind fun h15 =>
    (am_gr h15 (some 1) 8 6).bind fun x16 =>
    (am_pi h15 x16 3 1 (0 : Int32)).bind fun h17 =>
    (am_gi h17 (some 1) 8 3).bind fun x18 =>
    some (x18 - (1 : Int32), h17)) R := by
  have hW := h.1
  have hn := h.2.1
  have e13 := h.2.2.1.1
  rw [nwo_0]
  dsimp only
  obtain ⟨s2, I3, P2, ei, ⟨t1, t2, t3, t4, t5⟩, ⟨u1, u2, u3, u4, u5⟩, fs, fI, fP⟩ := c_init0 (s := pu_row s (n.1 + 1) (some (0, 0, 0))) (I := pu_row I (n.1 + 1) (fun _ => 0)) (P := pu_row P (n.1 + 1) (fun _ => none)) (J := J) (n := (n.1 + 1, n.2 + 10)) (a := n.1 + 1) (pu_row_s _ _ _) (Nat.le_refl _)
  dsimp only at t1 t2 t3 t4 t5 u1 u2 u3 u4 u5 fs fI fP ei
  rw [ei]
  dsimp only [Option.bind_some]
  have fs' : ∀ b, b ≤ n.1 → s2 b = s b := fun b hb => by rw [fs b (by omega), pu_row_n (by omega)]
  have fI' : ∀ b j, b ≤ n.1 → I3 b j = I b j := fun b j hb => by rw [fI b j (by omega), pu_row_n (by omega)]
  have fP' : ∀ b k, b ≤ n.1 → P2 b k = P b k := fun b k hb => by rw [fP b k (by omega) (by omega), pu_row_n (by omega)]
  have hW2 : pu_W s2 P2 := hW.grow (fun x hx => fs' x (by omega)) (fun x k hx => fP' x k (by have := rft_le hx; omega))
  have hd1 : s2 (n.1 + 1) = some (0, 0, 0) := by rw [fs _ (Nat.le_refl _), pu_row_s]
  have hd : C_S s2 P2 (n.1 + 1) := ⟨hd1, t1, t2, t3, t4, t5, u1, u2, u3, u4, u5⟩
  have hci : C_I I3 15 K := hk.CI.fr fun b j q1 q2 => fI' b j (by omega)
  rw [gr1_11 hW2, rc_b hd1]
  refine Rn_bind (c_copyK hd (CS_15 hW2) (Or.inr (by omega)) hK hci) ?_
  rintro _ ⟨I4, rfl, k1, k2⟩
  have e4 : I4 1 3 = nI (znc Z) := by rw [k2 _ _ (by omega), fI' _ _ (by omega), e13]
  have h2 := hW2.1 2 _ rfl
  have h1 := hW2.1 1 _ rfl
  rw [gr1_0 hW2, gi_b h1 rfl, e4, asr_b (pu_oqI h2 h4 (by omega)) hd1]
  have hW3 : pu_W s2 (pu_v P2 2 (znc Z) (some (n.1 + 1))) := hW2.v (rft_2 _)
  have h5 := hW2.1 5 _ rfl
  rw [gi_b h1 rfl, e4, pi_b h1 rfl, gr1_6 hW3, pi_b h5 rfl, gi_b h1 rfl, u_n (by omega), u_s, nI_1, nI_pred]
  generalize hI6 : pu_u (pu_u I4 1 3 (nI (znc Z + 1))) 5 1 0 = I6
  generalize hP3 : pu_v P2 2 (znc Z) (some (n.1 + 1)) = P3 at hW3
  have gI : ∀ b j, b ≤ n.1 → ¬ (b = 1 ∧ j = 3) → ¬ (b = 5 ∧ j = 1) → I6 b j = I b j := fun b j q1 q2 q3 => by rw [← hI6, u_n (by omega), u_n (by omega), k2 _ _ (by omega), fI' _ _ q1]
  have gP : ∀ a k, a ≤ n.1 → ¬ (a = 2 ∧ k = znc Z) → P3 a k = P a k := fun a k q1 q2 => by rw [← hP3, v_n (by omega), fP' _ _ q1]
  have e14 := h.2.2.1.2.1
  have e15 := h.2.2.1.2.2.1
  refine Rn_some (hR s2 I6 P3 (h.grow hW3 (by show n.1 ≤ n.1 + 6; omega) fs' (fun b j q1 q2 q3 _ => gI b j q1 (by omega) (by omega)) (fun a k q1 q2 _ => gP a k q1 (by omega)) (fun _ _ => Or.inr trivial) ⟨rfl, rfl, rfl⟩ ?_ ?_ ?_ ?_ (fun k hk => absurd hk (Nat.not_lt_zero k)) (fun i hi => ?_) (fun i hi => ?_) (fun i hi => ?_)) fs' (fun b j q1 q2 => gI b j q2 (by omega) (by omega)))
  · rw [← hI6, u_n (by omega), u_s]; rfl
  · rw [gI _ _ (by omega) (by omega) (by omega), e14]; rfl
  · rw [gI _ _ (by omega) (by omega) (by omega), e15]; rfl
  · rw [← hI6, u_s]; rfl
  · have hi : i < znc Z + 1 := hi
    show ∃ c, P3 2 i = some c ∧ 40 ≤ c ∧ c + 5 ≤ n.1 + 6 ∧ C_S s2 P3 c ∧ C_I I6 c (upG (zK Z) (znc Z) K i)
    by_cases e : i = znc Z
    · subst e
      rw [upG_s]
      exact ⟨n.1 + 1, by rw [← hP3, v_s], by omega, by omega, hd.fr2 (fun _ _ _ => rfl) (fun k => by rw [← hP3, v_n (by omega)]), k1.fr fun b j q1 q2 => by rw [← hI6, u_n (by omega), u_n (by omega)]⟩
    · rw [upG_n e]
      obtain ⟨c', b1, b2, b3, b4, b5⟩ := h.2.2.2.2.2.1 i (by omega)
      exact ⟨c', by rw [gP _ _ (by omega) (by omega), b1], b2, by omega, b4.fr2 (fun b q1 q2 => fs' b (by omega)) (fun k => gP _ _ (by omega) (by omega)), b5.fr fun b j q1 q2 => gI _ _ (by omega) (by omega) (by omega)⟩
  · obtain ⟨f, b1, b2, b3, b4, b5⟩ := h.2.2.2.2.2.2.1 i hi
    exact ⟨f, by rw [gP _ _ (by omega) (by omega), b1], b2, by show f ≤ n.1 + 6; omega, by rw [fs' _ b3, b4], b5.fr fun j => gI _ _ b3 (by omega) (by omega)⟩
  · obtain ⟨w, d1, d2, d3, d4, d5, d6, d7, d8⟩ := h.2.2.2.2.2.2.2.1 i hi
    refine ⟨w, by rw [gP _ _ (by omega) (by omega), d1], d2, by show w ≤ n.1 + 6; omega, by rw [fs' _ d3, d4], by rw [gI _ _ d3 (by omega) (by omega), d5], by rw [gI _ _ d3 (by omega) (by omega)]; exact d6, by rw [gI _ _ d3 (by omega) (by omega)]; exact d7, ?_⟩
    rw [gP _ _ d3 (by omega), d8]
    show oP P (zW Z i).2.2 = oP P3 (zW Z i).2.2
    cases (zW Z i).2.2 with
    | none => rfl
    | some j => exact (gP _ _ (by omega) (by omega)).symm
end CL

set_option maxHeartbeats 4000000 in
set_option maxRecDepth 100000 in
theorem c_clock {s : Nat → Option pu_S} {I : Nat → Nat → Int32} {P : Nat → Nat → Option Nat} {J : Nat → Nat → Int64} {n : Nat × Nat} {Z : S_Z} (hZ : Z_B Z) (h : InvC s I P n Z) {K : S_K} (eK : (rAll (zpl Z) (zpc Z) K_0).1 = some K) (hl : (rAll (zpl Z) (zpc Z) K_0).2 = zpl Z) (h4 : znc Z < 4) (hKB : S_KB K) (hO : ∀ v, v < kn K → kO K v ≤ 40) : Rn (fX8_clock 1 (pu_hp s I P J n)) (QN s I J n 6 34 (zsK Z K) (nI (znc Z))) := by
  have hpl := hZ.2.2.2.2.2.1.1
  have hnc := hZ.1.1
  have hq : ∃ K', (rAll (zpl Z) (zpc Z) K_0).1 = some K' := ⟨K, eK⟩
  have hW := h.1
  have e51 := h.2.2.1.2.2.2.2.2
  unfold fX8_clock
  simp (disch := first | assumption | with_unfolding_all exact hW.1 _ _ rfl | rfl | exact pu_okI (by first | assumption | with_unfolding_all exact hW.1 _ _ rfl) (by omega) (by omega) | exact pu_oqI (by first | assumption | with_unfolding_all exact hW.1 _ _ rfl) (by omega) (by omega) | omega | decide) only [↓reduceIte, ↓gi_b, ↓pi_b, ↓gr_b, ↓pr_b, ↓al_b, ↓as_b, ↓al_3, ↓as_3, ↓al_12, ↓as_12, ↓al_l, ↓as_l, ↓rc_b, ↓Option.bind_some, ↓zr0_b, ↓zr1_b, ↓zrb_b, ↓pz0_b, ↓pz1_b, al_b, as_b, rc_b, gi_b, pi_b, gr_b, zr0, zr1, zrb, u_s, u_n, v_s, v_n, ↓isIn_b, ite_T, ite_F, il_t, il_f, li_t, li_f, it_t, it_f, ti_t, ti_f, ie_t, ie_f, ei_t, ei_f, nn_le_t, nn_le_f, nn_lt_t, nn_lt_f, nn_eq_t, nn_eq_f, nI_1, nI_add, ni_addl, ni_ladd, pk_mul, ni_mull, b2_t, b2_f, b2_0, one0, m1_eq, ni_m1, reduceCtorEq, Bool.false_eq_true, nI_clamp, if_true, Option.some.injEq, Prod.mk.injEq, and_true, true_and, Nat.reduceAdd, Nat.reduceMul, Nat.reduceSub, Nat.reduceEqDiff, Nat.reduceLeDiff, Nat.reduceLT, ↓gr1_6 hW, ↓gr1_11 hW, ↓gr1_0 hW]
  refine Rn_bind (c_readC hW e51 hpl (h.pg hZ)) ?_
  rintro _ ⟨I1, a, rfl, g1, g2, g3, g4, g5⟩
  obtain rfl : a = 1 := g4 ⟨hq, hl⟩
  have h' : InvC s I1 P n Z := h.sc (fun b j q => g3.sc b j q) (fun _ _ _ => rfl)
  have e13 := h'.2.2.1.1
  have h1 := hW.1 1 _ rfl
  rw [if_neg (show ¬ (1 : Int32) = 0 by decide), gi_b h1 rfl, e13, if_pos (show nI (znc Z) < (4 : Int32) by rw [ti_t (by show znc Z < 4; omega) (by decide)]; trivial)]
  exact c_newK hZ h' h4 hKB (g2 _ eK) (fun s' I' P' k1 k3 k2 => ⟨s', I', P', rfl, k1, fun b q1 q2 => k3 b q2, fun b j q1 q2 => by rw [k2 b j q1 q2, g3 b j (by omega) (by omega)]⟩)
