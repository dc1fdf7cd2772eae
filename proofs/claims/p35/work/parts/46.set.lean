/-! calls that set something: what becomes of the state -/
def zsT (Z : S_Z) (T : S_T) : S_Z := (Z.1, Z.2.1, Z.2.2.1, T, Z.2.2.2.2)
def zsI (Z : S_Z) (T : S_T) : S_Z := (Z.1, Z.2.1, Z.2.2.1, Z.2.2.2.1, (true, T), Z.2.2.2.2.2)
def zsP (Z : S_Z) (l : Nat) (c : Nat → Nat) : S_Z := (Z.1, Z.2.1, Z.2.2.1, Z.2.2.2.1, Z.2.2.2.2.1, (l, c), Z.2.2.2.2.2.2)
def zsA (Z : S_Z) (a : Nat) : S_Z := (Z.1, Z.2.1, Z.2.2.1, Z.2.2.2.1, Z.2.2.2.2.1, Z.2.2.2.2.2.1, a)
section SE
variable {s : Nat → Option pu_S} {I : Nat → Nat → Int32} {P : Nat → Nat → Option Nat} {J : Nat → Nat → Int64} {n : Nat × Nat}
variable {Z : S_Z} {I' : Nat → Nat → Int32}
theorem InvC.gen {Z' : S_Z} (h : InvC s I P n Z) (e1 : Z'.1 = Z.1) (e2 : Z'.2.1 = Z.2.1) (e3 : Z'.2.2.1 = Z.2.2.1) (hf : ∀ b j, ¬ (b = 1 ∧ 9 ≤ j) → ¬ (5 ≤ b ∧ b ≤ 14) → I' b j = I b j) (k1 : I' 1 9 = b2 (zH Z')) (k2 : I' 1 10 = nI (zas Z')) (k3 : I' 5 1 = nI (zpl Z')) (k4 : ∀ k, k < zpl Z' → I' 6 k = nI (zpc Z' k)) (k5 : T_I I' 8 9 10 7 3 (zT Z')) (k6 : zH Z' = true → T_I I' 12 13 14 11 3 (zTk Z')) : InvC s I' P n Z' := by
  obtain ⟨h1, h2, ⟨a1, a2, a3, a4, a5, a6⟩, h4, h5, h6, h7, h8, h9, h10⟩ := h
  have E1 : znc Z' = znc Z ∧ zK Z' = zK Z := ⟨congrArg Prod.fst e1, congrArg Prod.snd e1⟩
  have E2 : znf Z' = znf Z ∧ zF Z' = zF Z := ⟨congrArg Prod.fst e2, congrArg Prod.snd e2⟩
  have E3 : znw Z' = znw Z ∧ zW Z' = zW Z := ⟨congrArg Prod.fst e3, congrArg Prod.snd e3⟩
  refine ⟨h1, h2, ⟨by rw [hf _ _ (by omega) (by omega), a1, E1.1], by rw [hf _ _ (by omega) (by omega), a2, E2.1], by rw [hf _ _ (by omega) (by omega), a3, E3.1], k1, k2, k3⟩, k4, h5.fr fun j => hf _ _ (by omega) (by omega), fun i hi => ?_, fun i hi => ?_, fun i hi => ?_, k5, k6⟩
  · rw [E1.1] at hi; rw [E1.2]
    obtain ⟨c, b1, b2, b3, b4, b5⟩ := h6 i hi
    exact ⟨c, b1, b2, b3, b4, b5.fr fun b j q1 q2 => hf _ _ (by omega) (by omega)⟩
  · rw [E2.1] at hi; rw [E2.2]
    obtain ⟨f, b1, b2, b3, b4, b5⟩ := h7 i hi
    exact ⟨f, b1, b2, b3, b4, b5.fr fun j => hf _ _ (by omega) (by omega)⟩
  · rw [E3.1] at hi; rw [E3.2]
    obtain ⟨a, b1, b2, b3, b4, b5, b6, b7, b8⟩ := h8 i hi
    exact ⟨a, b1, b2, b3, b4, by rw [hf _ _ (by omega) (by omega), b5], by rw [hf _ _ (by omega) (by omega), b6], by rw [hf _ _ (by omega) (by omega), b7], b8⟩
/-- a setting of the class becomes T -/
theorem InvC.setT {T : S_T} (h : InvC s I P n Z) (hf : ∀ b j, ¬ (b = 7 ∧ j = 3) → ¬ (8 ≤ b ∧ b ≤ 10) → I' b j = I b j) (k5 : T_I I' 8 9 10 7 3 T) : InvC s I' P n (zsT Z T) := by
  obtain ⟨a1, a2, a3, a4, a5, a6⟩ := h.2.2.1
  exact h.gen rfl rfl rfl (fun b j q1 q2 => hf b j (by omega) (by omega)) (by rw [hf _ _ (by omega) (by omega), a4]; rfl) (by rw [hf _ _ (by omega) (by omega), a5]; rfl) (by rw [hf _ _ (by omega) (by omega), a6]; rfl) (fun k hk => by rw [hf _ _ (by omega) (by omega)]; exact h.2.2.2.1 k hk) k5 (fun hh => (h.2.2.2.2.2.2.2.2.2 hh).fr fun x j hx => hf x j (by omega) (by omega))
theorem QT.set {α : Type} {a : α} {Z' : S_Z} (h : InvC s I' P n Z') (hf : ∀ b j, 40 ≤ b → b ≤ b → I' b j = I b j) : QT s I P J n Z' a (a, pu_hp s I' P J n) := ⟨I', rfl, h, fun b j q => hf b j q (Nat.le_refl _)⟩
theorem Z_B.setT (hZ : Z_B Z) {T : S_T} (hT : T_B (znw Z) T) : Z_B (zsT Z T) := ⟨hZ.1, hZ.2.1, hZ.2.2.1, hT, hZ.2.2.2.2⟩
set_option maxHeartbeats 4000000 in
set_option maxRecDepth 100000 in
theorem q_exchange {a m k : Nat} {v : Int32} (hs : s a = some (1, 0, m)) (hk : k < m) (hm : m < 1000) : fX8_exchange (some a) (nI k) v (pu_hp s I P J n) = some (I a k, pu_hp s (pu_u I a k v) P J n) := by
  unfold fX8_exchange
  rw [an_b hs (by omega)]
  simp (disch := first | assumption | with_unfolding_all exact hW.1 _ _ rfl | rfl | exact pu_okI (by first | assumption | with_unfolding_all exact hW.1 _ _ rfl) (by omega) (by omega) | exact pu_oqI (by first | assumption | with_unfolding_all exact hW.1 _ _ rfl) (by omega) (by omega) | omega | decide) only [↓reduceIte, ↓gi_b, ↓pi_b, ↓gr_b, ↓pr_b, ↓al_b, ↓as_b, ↓al_3, ↓as_3, ↓al_12, ↓as_12, ↓al_l, ↓as_l, ↓rc_b, ↓Option.bind_some, ↓zr0_b, ↓zr1_b, ↓zrb_b, ↓pz0_b, ↓pz1_b, al_b, as_b, rc_b, gi_b, pi_b, gr_b, zr0, zr1, zrb, u_s, u_n, v_s, v_n, ↓isIn_b, ite_T, ite_F, il_t, il_f, li_t, li_f, it_t, it_f, ti_t, ti_f, ie_t, ie_f, ei_t, ei_f, nn_le_t, nn_le_f, nn_lt_t, nn_lt_f, nn_eq_t, nn_eq_f, nI_1, nI_add, ni_addl, ni_ladd, pk_mul, ni_mull, b2_t, b2_f, b2_0, one0, m1_eq, ni_m1, reduceCtorEq, Bool.false_eq_true, nI_clamp, if_true, Option.some.injEq, Prod.mk.injEq, and_true, true_and, Nat.reduceAdd, Nat.reduceMul, Nat.reduceSub, Nat.reduceEqDiff, Nat.reduceLeDiff, Nat.reduceLT, inB_t1 hk (by omega)]
end SE
set_option maxHeartbeats 4000000 in
set_option maxRecDepth 100000 in
theorem c_season0 {s : Nat → Option pu_S} {I : Nat → Nat → Int32} {P : Nat → Nat → Option Nat} {J : Nat → Nat → Int64} {n : Nat × Nat} {Z : S_Z} (hZ : Z_B Z) (h : InvC s I P n Z) {j w : Nat} (hj4 : j < 4) (hw : 50 ≤ w ∧ w ≤ 150) : Rn (fX8_season 1 (nI j) 0 (nI w) (pu_hp s I P J n)) (QT s I P J n (zsT Z (updN (tw (zT Z)) j w, td (zT Z), tl (zT Z), th (zT Z))) (nI (tw (zT Z) j))) := by
  have h1 : inB (nI j) 0 3 = true := inB_4 hj4
  have h2 : inB (nI w) 50 150 = true := inB_t (lo := 50) (hi := 150) hw.1 hw.2 (by omega)
  have hW := h.1
  obtain ⟨t1, t2, t3⟩ := h.2.2.2.2.2.2.2.2.1
  unfold fX8_season
  simp (disch := first | assumption | with_unfolding_all exact hW.1 _ _ rfl | rfl | exact pu_okI (by first | assumption | with_unfolding_all exact hW.1 _ _ rfl) (by omega) (by omega) | exact pu_oqI (by first | assumption | with_unfolding_all exact hW.1 _ _ rfl) (by omega) (by omega) | omega | decide) only [↓reduceIte, ↓gi_b, ↓pi_b, ↓gr_b, ↓pr_b, ↓al_b, ↓as_b, ↓al_3, ↓as_3, ↓al_12, ↓as_12, ↓al_l, ↓as_l, ↓rc_b, ↓Option.bind_some, ↓zr0_b, ↓zr1_b, ↓zrb_b, ↓pz0_b, ↓pz1_b, al_b, as_b, rc_b, gi_b, pi_b, gr_b, zr0, zr1, zrb, u_s, u_n, v_s, v_n, ↓isIn_b, ite_T, ite_F, il_t, il_f, li_t, li_f, it_t, it_f, ti_t, ti_f, ie_t, ie_f, ei_t, ei_f, nn_le_t, nn_le_f, nn_lt_t, nn_lt_f, nn_eq_t, nn_eq_f, nI_1, nI_add, ni_addl, ni_ladd, pk_mul, ni_mull, b2_t, b2_f, b2_0, one0, m1_eq, ni_m1, reduceCtorEq, Bool.false_eq_true, nI_clamp, if_true, Option.some.injEq, Prod.mk.injEq, and_true, true_and, Nat.reduceAdd, Nat.reduceMul, Nat.reduceSub, Nat.reduceEqDiff, Nat.reduceLeDiff, Nat.reduceLT, ↓gr1_7 hW, ↓gr7_1 hW, ↓gr11_1 hW, ↓gr7_0 hW, ↓gr11_0 hW, ↓season_b, h1, h2, ↓gr7_0 hW, q_exchange (J := J) (n := n) (hW.1 8 _ rfl) hj4 (by omega), (t1 j hj4).1]
  refine Rn_some (QT.set (h.setT (fun b j q1 q2 => by rw [u_n (by omega)]) ⟨fun x hx => ⟨?_, ?_⟩, fun x hx => ?_, ?_⟩) (fun b j q1 q2 => by rw [u_n (by omega)]))
  · show _ = nI (updN (tw (zT Z)) j w x)
    by_cases e : x = j
    · subst e; rw [u_s, updN_s]
    · rw [u_n (by omega), updN_n e]; exact (t1 x hx).1
  · rw [u_n (by omega)]; exact (t1 x hx).2
  · rw [u_n (by omega)]; exact t2 x hx
  · rw [u_n (by omega)]; exact t3
set_option maxHeartbeats 4000000 in
set_option maxRecDepth 100000 in
theorem c_season1 {s : Nat → Option pu_S} {I : Nat → Nat → Int32} {P : Nat → Nat → Option Nat} {J : Nat → Nat → Int64} {n : Nat × Nat} {Z : S_Z} (hZ : Z_B Z) (h : InvC s I P n Z) {j w : Nat} (hj4 : j < 4) (hw : 24 ≤ w ∧ w ≤ 72) : Rn (fX8_season 1 (nI j) 1 (nI w) (pu_hp s I P J n)) (QT s I P J n (zsT Z (tw (zT Z), updN (td (zT Z)) j w, tl (zT Z), th (zT Z))) (nI (td (zT Z) j))) := by
  have h1 : inB (nI j) 0 3 = true := inB_4 hj4
  have h2 : inB (nI w) 24 72 = true := inB_t (lo := 24) (hi := 72) hw.1 hw.2 (by omega)
  have hW := h.1
  obtain ⟨t1, t2, t3⟩ := h.2.2.2.2.2.2.2.2.1
  unfold fX8_season fX8_season_39
  simp (disch := first | assumption | with_unfolding_all exact hW.1 _ _ rfl | rfl | exact pu_okI (by first | assumption | with_unfolding_all exact hW.1 _ _ rfl) (by omega) (by omega) | exact pu_oqI (by first | assumption | with_unfolding_all exact hW.1 _ _ rfl) (by omega) (by omega) | omega | decide) only [↓reduceIte, ↓gi_b, ↓pi_b, ↓gr_b, ↓pr_b, ↓al_b, ↓as_b, ↓al_3, ↓as_3, ↓al_12, ↓as_12, ↓al_l, ↓as_l, ↓rc_b, ↓Option.bind_some, ↓zr0_b, ↓zr1_b, ↓zrb_b, ↓pz0_b, ↓pz1_b, al_b, as_b, rc_b, gi_b, pi_b, gr_b, zr0, zr1, zrb, u_s, u_n, v_s, v_n, ↓isIn_b, ite_T, ite_F, il_t, il_f, li_t, li_f, it_t, it_f, ti_t, ti_f, ie_t, ie_f, ei_t, ei_f, nn_le_t, nn_le_f, nn_lt_t, nn_lt_f, nn_eq_t, nn_eq_f, nI_1, nI_add, ni_addl, ni_ladd, pk_mul, ni_mull, b2_t, b2_f, b2_0, one0, m1_eq, ni_m1, reduceCtorEq, Bool.false_eq_true, nI_clamp, if_true, Option.some.injEq, Prod.mk.injEq, and_true, true_and, Nat.reduceAdd, Nat.reduceMul, Nat.reduceSub, Nat.reduceEqDiff, Nat.reduceLeDiff, Nat.reduceLT, ↓gr1_7 hW, ↓gr7_1 hW, ↓gr11_1 hW, ↓gr7_0 hW, ↓gr11_0 hW, ↓season_b, h1, h2, ↓gr7_1 hW, q_exchange (J := J) (n := n) (hW.1 9 _ rfl) hj4 (by omega), (t1 j hj4).2]
  refine Rn_some (QT.set (h.setT (fun b j q1 q2 => by rw [u_n (by omega)]) ⟨fun x hx => ⟨?_, ?_⟩, fun x hx => ?_, ?_⟩) (fun b j q1 q2 => by rw [u_n (by omega)]))
  · rw [u_n (by omega)]; exact (t1 x hx).1
  · show _ = nI (updN (td (zT Z)) j w x)
    by_cases e : x = j
    · subst e; rw [u_s, updN_s]
    · rw [u_n (by omega), updN_n e]; exact (t1 x hx).2
  · rw [u_n (by omega)]; exact t2 x hx
  · rw [u_n (by omega)]; exact t3
