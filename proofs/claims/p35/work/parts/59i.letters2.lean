/-! the call letters -/
theorem nar_c : ∀ k : Fin 128, vp_nar .char (((Int32.toUInt32 (nI k.1)) % 65536).toInt32) = nI k.1 := by decide +kernel
def zsL (Z : S_Z) (w : Int64) (x : Nat) : S_Z := zsP Z (zpl Z + x) (fun k => if k < zpl Z then zpc Z k else byN w (k - zpl Z))
section L2
variable {s : Nat → Option pu_S} {I : Nat → Nat → Int32} {P : Nat → Nat → Option Nat} {J : Nat → Nat → Int64} {n : Nat × Nat}
variable {Z : S_Z}
set_option maxHeartbeats 4000000 in
set_option maxRecDepth 100000 in
theorem c_l33 (hW : pu_W s P) {w : Int64} {x len : Nat} (hx : x ≤ 8) (hl : len + x ≤ 80) (hb : ∀ k, k < x → 1 ≤ byN w k ∧ byN w k ≤ 126) : ∀ (m k N : Nat) (I : Nat → Nat → Int32), k + m = x → m < N → I 5 1 = nI (len + k) →
    Rn (fX8_letters_33 N (some 1) w (nI x) (nI k) (pu_hp s I P J n)) fun y => ∃ I', y = (nI (len + x), pu_hp s I' P J n) ∧ I' 5 1 = nI (len + x) ∧ (∀ e, k ≤ e → e < x → I' 6 (len + e) = nI (byN w e)) ∧ ∀ b j, ¬ (b = 5 ∧ j = 1) → ¬ (b = 6 ∧ len + k ≤ j) → I' b j = I b j := by
  intro m
  induction m with
  | zero =>
    intro k N I hk hN h5
    obtain ⟨N, rfl⟩ : ∃ N', N = N' + 1 := ⟨N - 1, by omega⟩
    obtain rfl : k = x := by omega
    show Rn (fX8_letters_33_b _ _ _ _ _ _) _
    unfold fX8_letters_33_b
    simp (disch := first | assumption | with_unfolding_all exact hW.1 _ _ rfl | rfl | exact pu_okI (by first | assumption | with_unfolding_all exact hW.1 _ _ rfl) (by omega) (by omega) | exact pu_oqI (by first | assumption | with_unfolding_all exact hW.1 _ _ rfl) (by omega) (by omega) | omega | decide) only [↓reduceIte, ↓gi_b, ↓pi_b, ↓gr_b, ↓pr_b, ↓al_b, ↓as_b, ↓al_3, ↓as_3, ↓al_12, ↓as_12, ↓al_l, ↓as_l, ↓rc_b, ↓Option.bind_some, ↓zr0_b, ↓zr1_b, ↓zrb_b, ↓pz0_b, ↓pz1_b, al_b, as_b, rc_b, gi_b, pi_b, gr_b, zr0, zr1, zrb, u_s, u_n, v_s, v_n, ↓isIn_b, ite_T, ite_F, il_t, il_f, li_t, li_f, it_t, it_f, ti_t, ti_f, ie_t, ie_f, ei_t, ei_f, nn_le_t, nn_le_f, nn_lt_t, nn_lt_f, nn_eq_t, nn_eq_f, nI_1, nI_add, ni_addl, ni_ladd, pk_mul, ni_mull, b2_t, b2_f, b2_0, one0, m1_eq, ni_m1, reduceCtorEq, Bool.false_eq_true, nI_clamp, if_true, Option.some.injEq, Prod.mk.injEq, and_true, true_and, Nat.reduceAdd, Nat.reduceMul, Nat.reduceSub, Nat.reduceEqDiff, Nat.reduceLeDiff, Nat.reduceLT, ↓gr1_6 hW, h5]
    exact Rn_some ⟨I, rfl, h5, fun e h1 h2 => by omega, fun _ _ _ _ => rfl⟩
  | succ m ih =>
    intro k N I hk hN h5
    obtain ⟨N, rfl⟩ : ∃ N', N = N' + 1 := ⟨N - 1, by omega⟩
    have hbk := hb k (by omega)
    have hn : vp_nar .char (((Int32.toUInt32 (nI (byN w k))) % 65536).toInt32) = nI (byN w k) := nar_c ⟨byN w k, by omega⟩
    have hn0 : (nI (len + k) < 0) = False := eq_false (by rw [Int32.not_lt]; exact nI_pos' (by omega))
    show Rn (fX8_letters_33_b (fX8_letters_33 N) _ _ _ _ _) _
    unfold fX8_letters_33_b fX3_add
    simp (disch := first | assumption | with_unfolding_all exact hW.1 _ _ rfl | rfl | exact pu_okI (by first | assumption | with_unfolding_all exact hW.1 _ _ rfl) (by omega) (by omega) | exact pu_oqI (by first | assumption | with_unfolding_all exact hW.1 _ _ rfl) (by omega) (by omega) | omega | decide) only [↓reduceIte, ↓gi_b, ↓pi_b, ↓gr_b, ↓pr_b, ↓al_b, ↓as_b, ↓al_3, ↓as_3, ↓al_12, ↓as_12, ↓al_l, ↓as_l, ↓rc_b, ↓Option.bind_some, ↓zr0_b, ↓zr1_b, ↓zrb_b, ↓pz0_b, ↓pz1_b, al_b, as_b, rc_b, gi_b, pi_b, gr_b, zr0, zr1, zrb, u_s, u_n, v_s, v_n, ↓isIn_b, ite_T, ite_F, il_t, il_f, li_t, li_f, it_t, it_f, ti_t, ti_f, ie_t, ie_f, ei_t, ei_f, nn_le_t, nn_le_f, nn_lt_t, nn_lt_f, nn_eq_t, nn_eq_f, nI_1, nI_add, ni_addl, ni_ladd, pk_mul, ni_mull, b2_t, b2_f, b2_0, one0, m1_eq, ni_m1, reduceCtorEq, Bool.false_eq_true, nI_clamp, if_true, Option.some.injEq, Prod.mk.injEq, and_true, true_and, Nat.reduceAdd, Nat.reduceMul, Nat.reduceSub, Nat.reduceEqDiff, Nat.reduceLeDiff, Nat.reduceLT, ↓gr1_6 hW, ↓gr5_0 hW, byteOf_e (w := w) (show k < 8 by omega), h5, hn, hn0]
    refine Rn_mono (ih (k + 1) N _ (by omega) (by omega) (by rw [u_s]; rfl)) ?_
    rintro _ ⟨I', rfl, a1, a2, a3⟩
    refine ⟨I', rfl, a1, fun e h1 h2 => ?_, fun b j h1 h2 => by rw [a3 b j h1 (by omega), u_n (by omega), u_n (by omega)]⟩
    by_cases q : e = k
    · subst q
      rw [a3 _ _ (by omega) (by omega), u_n (by omega), u_s]
    · exact a2 e (by omega) h2
end L2
theorem by_1 {c k : Nat} (hc : c < 256) : byN (Int32.toInt64 (nI c)) k = if k = 0 then c else 0 := by
  unfold byN
  have e : (Int32.toInt64 (nI c)).toBitVec.toNat = c := by
    have : ∀ c : Fin 256, (Int32.toInt64 (nI c.1)).toBitVec.toNat = c.1 := by decide +kernel
    exact this ⟨c, hc⟩
  rw [e]
  by_cases hk : k = 0
  · subst hk; rw [if_pos rfl]; simp; omega
  · rw [if_neg hk]
    have : c / 2 ^ (8 * k) = 0 := Nat.div_eq_of_lt (Nat.lt_of_lt_of_le hc (show 256 ≤ 2 ^ (8 * k) from Nat.pow_le_pow_right (n := 2) (by omega) (show 8 ≤ 8 * k by omega)))
    rw [this]
theorem ltr_1c {c : Nat} (h1 : 1 ≤ c) (h2 : c ≤ 126) : ltr (Int32.toInt64 (nI c)) 8 0 0 = some 1 := by
  have b0 : byN (Int32.toInt64 (nI c)) 0 = c := by rw [by_1 (by omega), if_pos rfl]
  have bk : ∀ k, ¬ k = 0 → byN (Int32.toInt64 (nI c)) k = 0 := fun k hk => by rw [by_1 (by omega), if_neg hk]
  rw [ltr_1 (by omega) (by omega) (by omega), ltr_0 (bk _ (by omega)), ltr_0 (bk _ (by omega)), ltr_0 (bk _ (by omega)), ltr_0 (bk _ (by omega)), ltr_0 (bk _ (by omega)), ltr_0 (bk _ (by omega)), ltr_0 (bk _ (by omega))]
  rfl
set_option maxHeartbeats 4000000 in
set_option maxRecDepth 100000 in
theorem c_letters {s : Nat → Option pu_S} {I : Nat → Nat → Int32} {P : Nat → Nat → Option Nat} {J : Nat → Nat → Int64} {n : Nat × Nat} {Z : S_Z} (hZ : Z_B Z) (h : InvC s I P n Z) {w : Int64} {x : Nat} (e : ltr w 8 0 0 = some x) (h80 : zpl Z + x ≤ 80) : Rn (fX8_letters 1 w (pu_hp s I P J n)) (QT s I P J n (zsL Z w x) (nI (zpl Z + x))) := by
  have hpl := hZ.2.2.2.2.2.1.1
  have hcl := c_ltr (w := w)
  obtain ⟨hx, hb⟩ := ltr_b 8 0 0 x (by omega) (fun k hk => by omega) e
  have hW := h.1
  obtain ⟨a1, a2, a3, a4, a5, a6⟩ := h.2.2.1
  have q := hcl (pu_hp s I P J n) 8 0 am_fu 0 (by omega) (by unfold am_fu; omega) (by omega)
  rw [e] at q
  have q' : fX8_lettersIn w (pu_hp s I P J n) = some (nI x, pu_hp s I P J n) := q
  unfold fX8_letters
  simp (disch := first | assumption | with_unfolding_all exact hW.1 _ _ rfl | rfl | exact pu_okI (by first | assumption | with_unfolding_all exact hW.1 _ _ rfl) (by omega) (by omega) | exact pu_oqI (by first | assumption | with_unfolding_all exact hW.1 _ _ rfl) (by omega) (by omega) | omega | decide) only [↓reduceIte, ↓gi_b, ↓pi_b, ↓gr_b, ↓pr_b, ↓al_b, ↓as_b, ↓al_3, ↓as_3, ↓al_12, ↓as_12, ↓al_l, ↓as_l, ↓rc_b, ↓Option.bind_some, ↓zr0_b, ↓zr1_b, ↓zrb_b, ↓pz0_b, ↓pz1_b, al_b, as_b, rc_b, gi_b, pi_b, gr_b, zr0, zr1, zrb, u_s, u_n, v_s, v_n, ↓isIn_b, ite_T, ite_F, il_t, il_f, li_t, li_f, it_t, it_f, ti_t, ti_f, ie_t, ie_f, ei_t, ei_f, nn_le_t, nn_le_f, nn_lt_t, nn_lt_f, nn_eq_t, nn_eq_f, nI_1, nI_add, ni_addl, ni_ladd, pk_mul, ni_mull, b2_t, b2_f, b2_0, one0, m1_eq, ni_m1, reduceCtorEq, Bool.false_eq_true, nI_clamp, if_true, Option.some.injEq, Prod.mk.injEq, and_true, true_and, Nat.reduceAdd, Nat.reduceMul, Nat.reduceSub, Nat.reduceEqDiff, Nat.reduceLeDiff, Nat.reduceLT, ↓gr1_6 hW, q', a6]
  rw [show (0 : Int32) = nI 0 from rfl]
  refine Rn_mono (c_l33 hW (len := zpl Z) (by omega) h80 hb x 0 am_fu I (by omega) (by unfold am_fu; omega) a6) ?_
  rintro _ ⟨I1, rfl, c1, c2, c3⟩
  refine QT.set (h.gen rfl rfl rfl (fun b j q1 q2 => c3 b j (by omega) (by omega)) ?_ ?_ c1 (fun k hk => ?_) (h.2.2.2.2.2.2.2.2.1.fr fun x j hx => c3 _ _ (by omega) (by omega)) (fun hh => (h.2.2.2.2.2.2.2.2.2 hh).fr fun x j hx => c3 _ _ (by omega) (by omega))) fun b j q1 q2 => c3 b j (by omega) (by omega)
  · rw [c3 _ _ (by omega) (by omega), a4]; rfl
  · rw [c3 _ _ (by omega) (by omega), a5]; rfl
  · show I1 6 k = nI (if k < zpl Z then zpc Z k else byN w (k - zpl Z))
    have hk : k < zpl Z + x := hk
    by_cases c : k < zpl Z
    · rw [if_pos c, c3 _ _ (by omega) (by omega)]; exact h.2.2.2.1 k c
    · rw [if_neg c]
      have := c2 (k - zpl Z) (by omega) (by omega)
      rw [show zpl Z + (k - zpl Z) = k by omega] at this
      exact this
theorem zsL_B {Z : S_Z} (hZ : Z_B Z) {w : Int64} {x : Nat} (e : ltr w 8 0 0 = some x) (h80 : zpl Z + x ≤ 80) : Z_B (zsL Z w x) := by
  obtain ⟨hx, hb⟩ := ltr_b 8 0 0 x (by omega) (fun k hk => by omega) e
  refine ⟨hZ.1, hZ.2.1, hZ.2.2.1, hZ.2.2.2.1, hZ.2.2.2.2.1, ⟨h80, fun k hk => ?_⟩, hZ.2.2.2.2.2.2⟩
  show 1 ≤ (if k < zpl Z then zpc Z k else byN w (k - zpl Z)) ∧ (if k < zpl Z then zpc Z k else byN w (k - zpl Z)) ≤ 126
  have hk : k < zpl Z + x := hk
  by_cases c : k < zpl Z
  · rw [if_pos c]; exact hZ.2.2.2.2.2.1.2 k c
  · rw [if_neg c]; exact hb _ (by omega)
