/-! the class's Run against the spec -/
def R_S (s : Nat → Option pu_S) (P : Nat → Nat → Option Nat) (r c f : Nat) : Prop := s r = some (0, 5, 0) ∧ s (r + 1) = some (1, 0, 3) ∧ s (r + 2) = some (1, 0, 12) ∧ P r 4 = some (r + 1) ∧ P r 11 = some (r + 2) ∧ P r 0 = some c ∧ P r 1 = some f ∧ s f = some (0, 2, 0) ∧ (c + 5 < r ∨ r + 2 < c) ∧ (f < r ∨ r + 2 < f)
def R_I (I : Nat → Nat → Int32) (r w t : Nat) (K : S_K) (X : S_X) : Prop := I r 2 = nI w ∧ I r 3 = nI t ∧ I r 5 = nI (xcy X) ∧ I r 6 = nI (xpo X) ∧ I r 7 = nI (xov X) ∧ I r 8 = nI (xle X) ∧ I r 9 = nI (xem X) ∧ I r 10 = nI (xdr X) ∧ I r 12 = nI (xli X) ∧ I r 13 = nI (xmo X) ∧ (∀ v, v < kn K → I (r + 1) v = nI (xW X v)) ∧ ∀ b, b < 12 → I (r + 2) b = if b < xdr X then nI (xD X b) else -1
/-- nothing but the run's cells has changed -/
def R_F (r : Nat) (I I' : Nat → Nat → Int32) : Prop := ∀ b j, b < r ∨ r + 2 < b → I' b j = I b j
theorem R_F.t {r : Nat} {I I' I'' : Nat → Nat → Int32} (h : R_F r I I') (h' : R_F r I' I'') : R_F r I I'' := fun b j hb => by rw [h' b j hb, h b j hb]
theorem R_F.c {r c : Nat} {I I' : Nat → Nat → Int32} {K : S_K} (h : R_F r I I') (hc : C_I I c K) (hd : c + 5 < r ∨ r + 2 < c) : C_I I' c K := hc.fr fun b j h1 h2 => h b j (by omega)
theorem R_F.f {r f : Nat} {I I' : Nat → Nat → Int32} {F : S_F} (h : R_F r I I') (hc : F_I I f F) (hd : f < r ∨ r + 2 < f) : F_I I' f F := hc.fr fun j => h f j hd
section DR
variable {s : Nat → Option pu_S} {I : Nat → Nat → Int32} {P : Nat → Nat → Option Nat} {J : Nat → Nat → Int64} {n : Nat × Nat}
variable {r c f : Nat} {K : S_K} {F : S_F} {w t : Nat}
set_option maxHeartbeats 4000000 in
set_option maxRecDepth 100000 in
theorem r_drip98 (hR : R_S s P r c f) (hc : C_S s P c) (hK : S_KB K) (hF : S_FB F) (ht : t < 96) (hw : w ≤ 150) {rec : Option Nat → Int32 → Int32 → Int32 → am_H → Option am_H} {Q : am_H → Prop} {k held : Nat} (hk : k < kn K) (hh : held ≤ 1800) (hci : C_I I c K) (hfi : F_I I f F) (h3 : I r 3 = nI t)
    (kk : Rn (rec (some r) (nI (S_warm F w t)) (nI (S_out K F w t k held)) (nI (k + 1)) (pu_hp s (pu_u I (r + 1) k (nI (held - S_out K F w t k held))) P J n)) Q) :
    Rn (fX5_drip_98 rec (some r) (nI (S_warm F w t)) (nI k) (nI held) (pu_hp s I P J n)) Q := by
  obtain ⟨r1, r2, r3, r4, r5, r6, r7, r8, r9, r10⟩ := hR
  obtain ⟨c1, c2, c3, c4, c5, c6, c7, c8, c9, c10, c11⟩ := hc
  obtain ⟨⟨k1, k2⟩, k3, k4, k5, k6, k7, k8, k9⟩ := id hK
  obtain ⟨i6a, i6b, i6c, i6d⟩ := hci.2.2.2.2.2.1 k hk
  obtain ⟨⟨a1, a2⟩, ⟨b1, b2⟩, o1⟩ := k3 k hk
  have hwn := S_warm_le (F := F) (t := t) hw
  have hho := S_hole_le hF (v := k) (t := t) o1
  have hlev : held / kA K k ≤ 1800 := Nat.le_trans (Nat.div_le_self _ _) hh
  have hp1 : S_hole F (kO K k) k t * (held / kA K k) ≤ 220 * 1800 := Nat.mul_le_mul hho hlev
  have hp2 : S_hole F (kO K k) k t * (held / kA K k) * S_warm F w t ≤ 220 * 1800 * 150 := Nat.mul_le_mul hp1 hwn
  have hq : S_hole F (kO K k) k t * (held / kA K k) * S_warm F w t / 1000 < 2147483648 := Nat.lt_of_le_of_lt (Nat.div_le_self _ _) (by omega)
  have ho : S_out K F w t k held ≤ held := S_out_le
  unfold fX5_drip_98
  simp (disch := first | assumption | with_unfolding_all exact hW.1 _ _ rfl | rfl | exact pu_okI (by first | assumption | with_unfolding_all exact hW.1 _ _ rfl) (by omega) (by omega) | exact pu_oqI (by first | assumption | with_unfolding_all exact hW.1 _ _ rfl) (by omega) (by omega) | omega | decide) only [↓reduceIte, ↓gi_b, ↓pi_b, ↓gr_b, ↓pr_b, ↓al_b, ↓as_b, ↓al_3, ↓as_3, ↓al_12, ↓as_12, ↓rc_b, ↓Option.bind_some, ↓zr0_b, ↓zr1_b, ↓zrb_b, ↓pz0_b, ↓pz1_b, al_b, as_b, rc_b, gi_b, pi_b, gr_b, zr0, zr1, zrb, u_s, u_n, v_s, v_n, ↓isIn_b, ↓within_b, ite_T, ite_F, il_t, il_f, li_t, li_f, it_t, it_f, ti_t, ti_f, ie_t, ie_f, ei_t, ei_f, nn_le_t, nn_le_f, nn_lt_t, nn_lt_f, nn_eq_t, nn_eq_f, nI_1, nI_add, ni_addl, ni_ladd, pk_mul, ni_mull, b2_t, b2_f, b2_0, Option.some.injEq, Prod.mk.injEq, and_true, true_and, Nat.reduceAdd, Nat.reduceMul, Nat.reduceSub, Nat.reduceEqDiff, Nat.reduceLeDiff, Nat.reduceLT, ↓gr_h r1 r6 rfl, ↓gr_h r1 r7 rfl, ↓gr_h r1 r4 rfl, ↓gr_h c1 c7 rfl, ↓gr_h c1 c9 rfl, i6a, i6c, h3, ↓quot_b, ↓holeOf_b r8 hF hfi]
  rw [show (1000 : Int32) = nI 1000 from rfl, if_neg (by decide), pk_div (by omega) (by omega) (by omega), nI_min' (by omega) hq]
  simp (disch := first | assumption | with_unfolding_all exact hW.1 _ _ rfl | rfl | exact pu_okI (by first | assumption | with_unfolding_all exact hW.1 _ _ rfl) (by omega) (by omega) | exact pu_oqI (by first | assumption | with_unfolding_all exact hW.1 _ _ rfl) (by omega) (by omega) | omega | decide) only [↓reduceIte, ↓gi_b, ↓pi_b, ↓gr_b, ↓pr_b, ↓al_b, ↓as_b, ↓al_3, ↓as_3, ↓al_12, ↓as_12, ↓rc_b, ↓Option.bind_some, ↓zr0_b, ↓zr1_b, ↓zrb_b, ↓pz0_b, ↓pz1_b, al_b, as_b, rc_b, gi_b, pi_b, gr_b, zr0, zr1, zrb, u_s, u_n, v_s, v_n, ↓isIn_b, ↓within_b, ite_T, ite_F, il_t, il_f, li_t, li_f, it_t, it_f, ti_t, ti_f, ie_t, ie_f, ei_t, ei_f, nn_le_t, nn_le_f, nn_lt_t, nn_lt_f, nn_eq_t, nn_eq_f, nI_1, nI_add, ni_addl, ni_ladd, pk_mul, ni_mull, b2_t, b2_f, b2_0, Option.some.injEq, Prod.mk.injEq, and_true, true_and, Nat.reduceAdd, Nat.reduceMul, Nat.reduceSub, Nat.reduceEqDiff, Nat.reduceLeDiff, Nat.reduceLT, ↓gr_h r1 r4 rfl, ni_sub]
  have e : min held (S_hole F (kO K k) k t * (held / kA K k) * S_warm F w t / 1000) = S_out K F w t k held := rfl
  rw [e]
  exact kk
set_option maxHeartbeats 4000000 in
set_option maxRecDepth 100000 in
theorem r_drip26 (hR : R_S s P r c f) (hc : C_S s P c) (hK : S_KB K) (hF : S_FB F) (ht : t < 96) (hw : w ≤ 150) {Q : am_H → Prop} : ∀ (m k N fl ov : Nat) (W : Nat → Nat) (I : Nat → Nat → Int32), k + m = kn K → m < N → C_I I c K → F_I I f F → I r 3 = nI t → (∀ j, j < kn K → W j ≤ kA K j * kH K j) → fl ≤ 1800 → ov ≤ 1000000 + 1800 * k → (∀ j, j < kn K → I (r + 1) j = nI (W j)) → I r 7 = nI ov →
    (∀ I', (∀ j, j < kn K → I' (r + 1) j = nI ((S_vs K F w t m k (fl, W, ov)).2.1 j)) → I' r 7 = nI (S_vs K F w t m k (fl, W, ov)).2.2 → (∀ b j, ¬ b = r + 1 → ¬ (b = r ∧ j = 7) → I' b j = I b j) → Rn (fX5_drip_170 (some r) (nI (S_vs K F w t m k (fl, W, ov)).1) (pu_hp s I' P J n)) Q) →
    Rn (fX5_drip_26 N (some r) (nI (S_warm F w t)) (nI fl) (nI k) (pu_hp s I P J n)) Q := by
  obtain ⟨r1, r2, r3, r4, r5, r6, r7, r8, r9, r10⟩ := id hR
  obtain ⟨c1, c2, c3, c4, c5, c6, c7, c8, c9, c10, c11⟩ := id hc
  obtain ⟨⟨k1, k2⟩, k3, k4, k5, k6, k7, k8, k9⟩ := id hK
  intro m
  induction m with
  | zero =>
    intro k N fl ov W I hk hN hci hfi h3 hW hfl hov hIW hI7 kk
    obtain ⟨N, rfl⟩ : ∃ N', N = N' + 1 := ⟨N - 1, by omega⟩
    show Rn (fX5_drip_26_b _ _ _ _ _ _) _
    unfold fX5_drip_26_b
    simp (disch := first | assumption | with_unfolding_all exact hW.1 _ _ rfl | rfl | exact pu_okI (by first | assumption | with_unfolding_all exact hW.1 _ _ rfl) (by omega) (by omega) | exact pu_oqI (by first | assumption | with_unfolding_all exact hW.1 _ _ rfl) (by omega) (by omega) | omega | decide) only [↓reduceIte, ↓gi_b, ↓pi_b, ↓gr_b, ↓pr_b, ↓al_b, ↓as_b, ↓al_3, ↓as_3, ↓al_12, ↓as_12, ↓rc_b, ↓Option.bind_some, ↓zr0_b, ↓zr1_b, ↓zrb_b, ↓pz0_b, ↓pz1_b, al_b, as_b, rc_b, gi_b, pi_b, gr_b, zr0, zr1, zrb, u_s, u_n, v_s, v_n, ↓isIn_b, ↓within_b, ite_T, ite_F, il_t, il_f, li_t, li_f, it_t, it_f, ti_t, ti_f, ie_t, ie_f, ei_t, ei_f, nn_le_t, nn_le_f, nn_lt_t, nn_lt_f, nn_eq_t, nn_eq_f, nI_1, nI_add, ni_addl, ni_ladd, pk_mul, ni_mull, b2_t, b2_f, b2_0, Option.some.injEq, Prod.mk.injEq, and_true, true_and, Nat.reduceAdd, Nat.reduceMul, Nat.reduceSub, Nat.reduceEqDiff, Nat.reduceLeDiff, Nat.reduceLT, ↓gr_h r1 r6 rfl, hci.1]
    exact kk I hIW hI7 (fun _ _ _ _ => rfl)
  | succ m ih =>
    intro k N fl ov W I hk hN hci hfi h3 hW hfl hov hIW hI7 kk
    obtain ⟨N, rfl⟩ : ∃ N', N = N' + 1 := ⟨N - 1, by omega⟩
    have hk1 : k < kn K := by omega
    have hWk := hW k hk1
    obtain ⟨f1, f2⟩ := S_full hK hk1
    obtain ⟨i6a, i6b, i6c, i6d⟩ := hci.2.2.2.2.2.1 k hk1
    have hIk := hIW k hk1
    have hheld : S_held K k fl W ≤ kA K k * kH K k := S_held_le
    have hstep := fun (I0 : Nat → Nat → Int32) (h0 : ∀ j, j < kn K → I0 (r + 1) j = nI (W j)) (h7 : I0 r 7 = nI (ov + (W k + fl - kA K k * kH K k))) (hfr : ∀ b j, ¬ (b = r ∧ j = 7) → I0 b j = I b j) => ih (k + 1) N (S_v K F w t k (fl, W, ov)).1 (S_v K F w t k (fl, W, ov)).2.2 (S_v K F w t k (fl, W, ov)).2.1 (pu_u I0 (r + 1) k (nI (S_held K k fl W - S_out K F w t k (S_held K k fl W)))) (by omega) (by omega)
      (hci.fr fun b j h1 h2 => by rw [u_n (by omega), hfr b j (by omega)]) (hfi.fr fun j => by rw [u_n (by omega), hfr f j (by omega)]) (by rw [u_n (by omega), hfr r 3 (by omega), h3])
      (S_v_b hW hfl hk1 hK).1 (S_v_b hW hfl hk1 hK).2.1 (by show ov + (W k + fl - kA K k * kH K k) ≤ _; omega)
      (fun j hj => by
        show _ = nI (updN W k (S_held K k fl W - S_out K F w t k (S_held K k fl W)) j)
        by_cases e : j = k
        · subst e; rw [u_s, updN_s]
        · rw [u_n (by omega), updN_n e, h0 j hj])
      (by rw [u_n (by omega)]; exact h7)
      (fun I' a1 a2 a3 => kk I' a1 a2 fun b j h1 h2 => by rw [a3 b j h1 h2, u_n (by omega), hfr b j h2])
    show Rn (fX5_drip_26_b (fX5_drip_26 N) _ _ _ _ _) _
    unfold fX5_drip_26_b
    by_cases hle : W k + fl ≤ kA K k * kH K k
    · simp (disch := first | assumption | with_unfolding_all exact hW.1 _ _ rfl | rfl | exact pu_okI (by first | assumption | with_unfolding_all exact hW.1 _ _ rfl) (by omega) (by omega) | exact pu_oqI (by first | assumption | with_unfolding_all exact hW.1 _ _ rfl) (by omega) (by omega) | omega | decide) only [↓reduceIte, ↓gi_b, ↓pi_b, ↓gr_b, ↓pr_b, ↓al_b, ↓as_b, ↓al_3, ↓as_3, ↓al_12, ↓as_12, ↓rc_b, ↓Option.bind_some, ↓zr0_b, ↓zr1_b, ↓zrb_b, ↓pz0_b, ↓pz1_b, al_b, as_b, rc_b, gi_b, pi_b, gr_b, zr0, zr1, zrb, u_s, u_n, v_s, v_n, ↓isIn_b, ↓within_b, ite_T, ite_F, il_t, il_f, li_t, li_f, it_t, it_f, ti_t, ti_f, ie_t, ie_f, ei_t, ei_f, nn_le_t, nn_le_f, nn_lt_t, nn_lt_f, nn_eq_t, nn_eq_f, nI_1, nI_add, ni_addl, ni_ladd, pk_mul, ni_mull, b2_t, b2_f, b2_0, Option.some.injEq, Prod.mk.injEq, and_true, true_and, Nat.reduceAdd, Nat.reduceMul, Nat.reduceSub, Nat.reduceEqDiff, Nat.reduceLeDiff, Nat.reduceLT, ↓gr_h r1 r6 rfl, ↓gr_h r1 r4 rfl, ↓gr_h c1 c10 rfl, hci.1, i6d, hIk]
      refine r_drip98 hR hc hK hF ht hw hk1 (by omega) hci hfi h3 ?_
      have e : W k + fl = S_held K k fl W := by unfold S_held; omega
      rw [e]
      exact hstep I hIW (by rw [hI7]; congr 1; omega) (fun _ _ _ => rfl)
    · simp (disch := first | assumption | with_unfolding_all exact hW.1 _ _ rfl | rfl | exact pu_okI (by first | assumption | with_unfolding_all exact hW.1 _ _ rfl) (by omega) (by omega) | exact pu_oqI (by first | assumption | with_unfolding_all exact hW.1 _ _ rfl) (by omega) (by omega) | omega | decide) only [↓reduceIte, ↓gi_b, ↓pi_b, ↓gr_b, ↓pr_b, ↓al_b, ↓as_b, ↓al_3, ↓as_3, ↓al_12, ↓as_12, ↓rc_b, ↓Option.bind_some, ↓zr0_b, ↓zr1_b, ↓zrb_b, ↓pz0_b, ↓pz1_b, al_b, as_b, rc_b, gi_b, pi_b, gr_b, zr0, zr1, zrb, u_s, u_n, v_s, v_n, ↓isIn_b, ↓within_b, ite_T, ite_F, il_t, il_f, li_t, li_f, it_t, it_f, ti_t, ti_f, ie_t, ie_f, ei_t, ei_f, nn_le_t, nn_le_f, nn_lt_t, nn_lt_f, nn_eq_t, nn_eq_f, nI_1, nI_add, ni_addl, ni_ladd, pk_mul, ni_mull, b2_t, b2_f, b2_0, Option.some.injEq, Prod.mk.injEq, and_true, true_and, Nat.reduceAdd, Nat.reduceMul, Nat.reduceSub, Nat.reduceEqDiff, Nat.reduceLeDiff, Nat.reduceLT, ↓gr_h r1 r6 rfl, ↓gr_h r1 r4 rfl, ↓gr_h c1 c10 rfl, hci.1, i6d, hIk, hI7, ni_sub]
      have e : kA K k * kH K k = S_held K k fl W := by unfold S_held; omega
      rw [show nI (kA K k * kH K k) = nI (S_held K k fl W) from congrArg nI e]
      refine r_drip98 hR hc hK hF ht hw hk1 (by omega) ?_ ?_ ?_ ?_
      · exact hci.fr fun b j h1 h2 => by rw [u_n (by omega)]
      · exact hfi.fr fun j => by rw [u_n (by omega)]
      · rw [u_n (by omega), h3]
      exact hstep _ (fun j hj => by rw [u_n (by omega), hIW j hj]) u_s (fun b j hb => u_n hb)
set_option maxHeartbeats 4000000 in
set_option maxRecDepth 100000 in
theorem r_drip170 (hR : R_S s P r c f) {po cy li mo fl : Nat} (h5 : I r 5 = nI cy) (h6 : I r 6 = nI po) (h3 : I r 3 = nI t) (h12 : I r 12 = nI li) (h13 : I r 13 = nI mo) (b5 : cy + fl < 1000000) (b6 : po + fl < 1000000) (ht : t < 96) (bl : li < 1000000) (bm : mo < 1000000) {Q : am_H → Prop}
    (kk : ∀ I', I' r 5 = nI (cy + fl) → I' r 6 = nI (po + fl) → I' r 12 = nI (if t = 0 then fl else min li fl) → I' r 13 = nI (max mo fl) → (∀ b j, ¬ (b = r ∧ (j = 5 ∨ j = 6 ∨ j = 12 ∨ j = 13)) → I' b j = I b j) → Rn (some (pu_hp s I' P J n)) Q) :
    Rn (fX5_drip_170 (some r) (nI fl) (pu_hp s I P J n)) Q := by
  obtain ⟨r1, r2, r3, r4, r5, r6, r7, r8, r9, r10⟩ := hR
  unfold fX5_drip_170 fX5_drip_210
  by_cases h0 : t = 0
  · simp (disch := first | assumption | with_unfolding_all exact hW.1 _ _ rfl | rfl | exact pu_okI (by first | assumption | with_unfolding_all exact hW.1 _ _ rfl) (by omega) (by omega) | exact pu_oqI (by first | assumption | with_unfolding_all exact hW.1 _ _ rfl) (by omega) (by omega) | omega | decide) only [↓reduceIte, ↓gi_b, ↓pi_b, ↓gr_b, ↓pr_b, ↓al_b, ↓as_b, ↓al_3, ↓as_3, ↓al_12, ↓as_12, ↓rc_b, ↓Option.bind_some, ↓zr0_b, ↓zr1_b, ↓zrb_b, ↓pz0_b, ↓pz1_b, al_b, as_b, rc_b, gi_b, pi_b, gr_b, zr0, zr1, zrb, u_s, u_n, v_s, v_n, ↓isIn_b, ↓within_b, ite_T, ite_F, il_t, il_f, li_t, li_f, it_t, it_f, ti_t, ti_f, ie_t, ie_f, ei_t, ei_f, nn_le_t, nn_le_f, nn_lt_t, nn_lt_f, nn_eq_t, nn_eq_f, nI_1, nI_add, ni_addl, ni_ladd, pk_mul, ni_mull, b2_t, b2_f, b2_0, Option.some.injEq, Prod.mk.injEq, and_true, true_and, Nat.reduceAdd, Nat.reduceMul, Nat.reduceSub, Nat.reduceEqDiff, Nat.reduceLeDiff, Nat.reduceLT, h5, h6, h3, h13, h0, nI_max']
    refine kk _ ?_ ?_ ?_ ?_ fun b j hb => ?_
    · simp (disch := first | assumption | with_unfolding_all exact hW.1 _ _ rfl | rfl | exact pu_okI (by first | assumption | with_unfolding_all exact hW.1 _ _ rfl) (by omega) (by omega) | exact pu_oqI (by first | assumption | with_unfolding_all exact hW.1 _ _ rfl) (by omega) (by omega) | omega | decide) only [↓reduceIte, ↓gi_b, ↓pi_b, ↓gr_b, ↓pr_b, ↓al_b, ↓as_b, ↓al_3, ↓as_3, ↓al_12, ↓as_12, ↓rc_b, ↓Option.bind_some, ↓zr0_b, ↓zr1_b, ↓zrb_b, ↓pz0_b, ↓pz1_b, al_b, as_b, rc_b, gi_b, pi_b, gr_b, zr0, zr1, zrb, u_s, u_n, v_s, v_n, ↓isIn_b, ↓within_b, ite_T, ite_F, il_t, il_f, li_t, li_f, it_t, it_f, ti_t, ti_f, ie_t, ie_f, ei_t, ei_f, nn_le_t, nn_le_f, nn_lt_t, nn_lt_f, nn_eq_t, nn_eq_f, nI_1, nI_add, ni_addl, ni_ladd, pk_mul, ni_mull, b2_t, b2_f, b2_0, Option.some.injEq, Prod.mk.injEq, and_true, true_and, Nat.reduceAdd, Nat.reduceMul, Nat.reduceSub, Nat.reduceEqDiff, Nat.reduceLeDiff, Nat.reduceLT]
    · simp (disch := first | assumption | with_unfolding_all exact hW.1 _ _ rfl | rfl | exact pu_okI (by first | assumption | with_unfolding_all exact hW.1 _ _ rfl) (by omega) (by omega) | exact pu_oqI (by first | assumption | with_unfolding_all exact hW.1 _ _ rfl) (by omega) (by omega) | omega | decide) only [↓reduceIte, ↓gi_b, ↓pi_b, ↓gr_b, ↓pr_b, ↓al_b, ↓as_b, ↓al_3, ↓as_3, ↓al_12, ↓as_12, ↓rc_b, ↓Option.bind_some, ↓zr0_b, ↓zr1_b, ↓zrb_b, ↓pz0_b, ↓pz1_b, al_b, as_b, rc_b, gi_b, pi_b, gr_b, zr0, zr1, zrb, u_s, u_n, v_s, v_n, ↓isIn_b, ↓within_b, ite_T, ite_F, il_t, il_f, li_t, li_f, it_t, it_f, ti_t, ti_f, ie_t, ie_f, ei_t, ei_f, nn_le_t, nn_le_f, nn_lt_t, nn_lt_f, nn_eq_t, nn_eq_f, nI_1, nI_add, ni_addl, ni_ladd, pk_mul, ni_mull, b2_t, b2_f, b2_0, Option.some.injEq, Prod.mk.injEq, and_true, true_and, Nat.reduceAdd, Nat.reduceMul, Nat.reduceSub, Nat.reduceEqDiff, Nat.reduceLeDiff, Nat.reduceLT]
    · simp (disch := first | assumption | with_unfolding_all exact hW.1 _ _ rfl | rfl | exact pu_okI (by first | assumption | with_unfolding_all exact hW.1 _ _ rfl) (by omega) (by omega) | exact pu_oqI (by first | assumption | with_unfolding_all exact hW.1 _ _ rfl) (by omega) (by omega) | omega | decide) only [↓reduceIte, ↓gi_b, ↓pi_b, ↓gr_b, ↓pr_b, ↓al_b, ↓as_b, ↓al_3, ↓as_3, ↓al_12, ↓as_12, ↓rc_b, ↓Option.bind_some, ↓zr0_b, ↓zr1_b, ↓zrb_b, ↓pz0_b, ↓pz1_b, al_b, as_b, rc_b, gi_b, pi_b, gr_b, zr0, zr1, zrb, u_s, u_n, v_s, v_n, ↓isIn_b, ↓within_b, ite_T, ite_F, il_t, il_f, li_t, li_f, it_t, it_f, ti_t, ti_f, ie_t, ie_f, ei_t, ei_f, nn_le_t, nn_le_f, nn_lt_t, nn_lt_f, nn_eq_t, nn_eq_f, nI_1, nI_add, ni_addl, ni_ladd, pk_mul, ni_mull, b2_t, b2_f, b2_0, Option.some.injEq, Prod.mk.injEq, and_true, true_and, Nat.reduceAdd, Nat.reduceMul, Nat.reduceSub, Nat.reduceEqDiff, Nat.reduceLeDiff, Nat.reduceLT, h0, if_true]
    · simp (disch := first | assumption | with_unfolding_all exact hW.1 _ _ rfl | rfl | exact pu_okI (by first | assumption | with_unfolding_all exact hW.1 _ _ rfl) (by omega) (by omega) | exact pu_oqI (by first | assumption | with_unfolding_all exact hW.1 _ _ rfl) (by omega) (by omega) | omega | decide) only [↓reduceIte, ↓gi_b, ↓pi_b, ↓gr_b, ↓pr_b, ↓al_b, ↓as_b, ↓al_3, ↓as_3, ↓al_12, ↓as_12, ↓rc_b, ↓Option.bind_some, ↓zr0_b, ↓zr1_b, ↓zrb_b, ↓pz0_b, ↓pz1_b, al_b, as_b, rc_b, gi_b, pi_b, gr_b, zr0, zr1, zrb, u_s, u_n, v_s, v_n, ↓isIn_b, ↓within_b, ite_T, ite_F, il_t, il_f, li_t, li_f, it_t, it_f, ti_t, ti_f, ie_t, ie_f, ei_t, ei_f, nn_le_t, nn_le_f, nn_lt_t, nn_lt_f, nn_eq_t, nn_eq_f, nI_1, nI_add, ni_addl, ni_ladd, pk_mul, ni_mull, b2_t, b2_f, b2_0, Option.some.injEq, Prod.mk.injEq, and_true, true_and, Nat.reduceAdd, Nat.reduceMul, Nat.reduceSub, Nat.reduceEqDiff, Nat.reduceLeDiff, Nat.reduceLT]
    · rw [u_n (by omega), u_n (by omega), u_n (by omega), u_n (by omega)]
  · simp (disch := first | assumption | with_unfolding_all exact hW.1 _ _ rfl | rfl | exact pu_okI (by first | assumption | with_unfolding_all exact hW.1 _ _ rfl) (by omega) (by omega) | exact pu_oqI (by first | assumption | with_unfolding_all exact hW.1 _ _ rfl) (by omega) (by omega) | omega | decide) only [↓reduceIte, ↓gi_b, ↓pi_b, ↓gr_b, ↓pr_b, ↓al_b, ↓as_b, ↓al_3, ↓as_3, ↓al_12, ↓as_12, ↓rc_b, ↓Option.bind_some, ↓zr0_b, ↓zr1_b, ↓zrb_b, ↓pz0_b, ↓pz1_b, al_b, as_b, rc_b, gi_b, pi_b, gr_b, zr0, zr1, zrb, u_s, u_n, v_s, v_n, ↓isIn_b, ↓within_b, ite_T, ite_F, il_t, il_f, li_t, li_f, it_t, it_f, ti_t, ti_f, ie_t, ie_f, ei_t, ei_f, nn_le_t, nn_le_f, nn_lt_t, nn_lt_f, nn_eq_t, nn_eq_f, nI_1, nI_add, ni_addl, ni_ladd, pk_mul, ni_mull, b2_t, b2_f, b2_0, Option.some.injEq, Prod.mk.injEq, and_true, true_and, Nat.reduceAdd, Nat.reduceMul, Nat.reduceSub, Nat.reduceEqDiff, Nat.reduceLeDiff, Nat.reduceLT, h5, h6, h3, h12, h13, nI_max', nI_min']
    refine kk _ ?_ ?_ ?_ ?_ fun b j hb => ?_
    · simp (disch := first | assumption | with_unfolding_all exact hW.1 _ _ rfl | rfl | exact pu_okI (by first | assumption | with_unfolding_all exact hW.1 _ _ rfl) (by omega) (by omega) | exact pu_oqI (by first | assumption | with_unfolding_all exact hW.1 _ _ rfl) (by omega) (by omega) | omega | decide) only [↓reduceIte, ↓gi_b, ↓pi_b, ↓gr_b, ↓pr_b, ↓al_b, ↓as_b, ↓al_3, ↓as_3, ↓al_12, ↓as_12, ↓rc_b, ↓Option.bind_some, ↓zr0_b, ↓zr1_b, ↓zrb_b, ↓pz0_b, ↓pz1_b, al_b, as_b, rc_b, gi_b, pi_b, gr_b, zr0, zr1, zrb, u_s, u_n, v_s, v_n, ↓isIn_b, ↓within_b, ite_T, ite_F, il_t, il_f, li_t, li_f, it_t, it_f, ti_t, ti_f, ie_t, ie_f, ei_t, ei_f, nn_le_t, nn_le_f, nn_lt_t, nn_lt_f, nn_eq_t, nn_eq_f, nI_1, nI_add, ni_addl, ni_ladd, pk_mul, ni_mull, b2_t, b2_f, b2_0, Option.some.injEq, Prod.mk.injEq, and_true, true_and, Nat.reduceAdd, Nat.reduceMul, Nat.reduceSub, Nat.reduceEqDiff, Nat.reduceLeDiff, Nat.reduceLT]
    · simp (disch := first | assumption | with_unfolding_all exact hW.1 _ _ rfl | rfl | exact pu_okI (by first | assumption | with_unfolding_all exact hW.1 _ _ rfl) (by omega) (by omega) | exact pu_oqI (by first | assumption | with_unfolding_all exact hW.1 _ _ rfl) (by omega) (by omega) | omega | decide) only [↓reduceIte, ↓gi_b, ↓pi_b, ↓gr_b, ↓pr_b, ↓al_b, ↓as_b, ↓al_3, ↓as_3, ↓al_12, ↓as_12, ↓rc_b, ↓Option.bind_some, ↓zr0_b, ↓zr1_b, ↓zrb_b, ↓pz0_b, ↓pz1_b, al_b, as_b, rc_b, gi_b, pi_b, gr_b, zr0, zr1, zrb, u_s, u_n, v_s, v_n, ↓isIn_b, ↓within_b, ite_T, ite_F, il_t, il_f, li_t, li_f, it_t, it_f, ti_t, ti_f, ie_t, ie_f, ei_t, ei_f, nn_le_t, nn_le_f, nn_lt_t, nn_lt_f, nn_eq_t, nn_eq_f, nI_1, nI_add, ni_addl, ni_ladd, pk_mul, ni_mull, b2_t, b2_f, b2_0, Option.some.injEq, Prod.mk.injEq, and_true, true_and, Nat.reduceAdd, Nat.reduceMul, Nat.reduceSub, Nat.reduceEqDiff, Nat.reduceLeDiff, Nat.reduceLT]
    · simp (disch := first | assumption | with_unfolding_all exact hW.1 _ _ rfl | rfl | exact pu_okI (by first | assumption | with_unfolding_all exact hW.1 _ _ rfl) (by omega) (by omega) | exact pu_oqI (by first | assumption | with_unfolding_all exact hW.1 _ _ rfl) (by omega) (by omega) | omega | decide) only [↓reduceIte, ↓gi_b, ↓pi_b, ↓gr_b, ↓pr_b, ↓al_b, ↓as_b, ↓al_3, ↓as_3, ↓al_12, ↓as_12, ↓rc_b, ↓Option.bind_some, ↓zr0_b, ↓zr1_b, ↓zrb_b, ↓pz0_b, ↓pz1_b, al_b, as_b, rc_b, gi_b, pi_b, gr_b, zr0, zr1, zrb, u_s, u_n, v_s, v_n, ↓isIn_b, ↓within_b, ite_T, ite_F, il_t, il_f, li_t, li_f, it_t, it_f, ti_t, ti_f, ie_t, ie_f, ei_t, ei_f, nn_le_t, nn_le_f, nn_lt_t, nn_lt_f, nn_eq_t, nn_eq_f, nI_1, nI_add, ni_addl, ni_ladd, pk_mul, ni_mull, b2_t, b2_f, b2_0, Option.some.injEq, Prod.mk.injEq, and_true, true_and, Nat.reduceAdd, Nat.reduceMul, Nat.reduceSub, Nat.reduceEqDiff, Nat.reduceLeDiff, Nat.reduceLT, h0, if_false]
    · simp (disch := first | assumption | with_unfolding_all exact hW.1 _ _ rfl | rfl | exact pu_okI (by first | assumption | with_unfolding_all exact hW.1 _ _ rfl) (by omega) (by omega) | exact pu_oqI (by first | assumption | with_unfolding_all exact hW.1 _ _ rfl) (by omega) (by omega) | omega | decide) only [↓reduceIte, ↓gi_b, ↓pi_b, ↓gr_b, ↓pr_b, ↓al_b, ↓as_b, ↓al_3, ↓as_3, ↓al_12, ↓as_12, ↓rc_b, ↓Option.bind_some, ↓zr0_b, ↓zr1_b, ↓zrb_b, ↓pz0_b, ↓pz1_b, al_b, as_b, rc_b, gi_b, pi_b, gr_b, zr0, zr1, zrb, u_s, u_n, v_s, v_n, ↓isIn_b, ↓within_b, ite_T, ite_F, il_t, il_f, li_t, li_f, it_t, it_f, ti_t, ti_f, ie_t, ie_f, ei_t, ei_f, nn_le_t, nn_le_f, nn_lt_t, nn_lt_f, nn_eq_t, nn_eq_f, nI_1, nI_add, ni_addl, ni_ladd, pk_mul, ni_mull, b2_t, b2_f, b2_0, Option.some.injEq, Prod.mk.injEq, and_true, true_and, Nat.reduceAdd, Nat.reduceMul, Nat.reduceSub, Nat.reduceEqDiff, Nat.reduceLeDiff, Nat.reduceLT]
    · rw [u_n (by omega), u_n (by omega), u_n (by omega), u_n (by omega)]
set_option maxHeartbeats 4000000 in
set_option maxRecDepth 100000 in
theorem r_drip (hR : R_S s P r c f) (hc : C_S s P c) (hK : S_KB K) (hF : S_FB F) (ht : t < 96) (hw : 50 ≤ w ∧ w ≤ 150) (hci : C_I I c K) (hfi : F_I I f F) {X : S_X} (hX : S_XB K t X) (hI : R_I I r w t K X) : Rn (fX5_drip r (pu_hp s I P J n)) fun h => ∃ I', h = pu_hp s I' P J n ∧ R_F r I I' ∧ R_I I' r w t K (S_drip K t X (S_fl K F w t X)) := by
  obtain ⟨r1, r2, r3, r4, r5, r6, r7, r8, r9, r10⟩ := id hR
  obtain ⟨c1, c2, c3, c4, c5, c6, c7, c8, c9, c10, c11⟩ := id hc
  obtain ⟨g1, g2, g3, g4, g5, g6, g7, g8, g9, g10, g11, g12⟩ := hI
  obtain ⟨x1, x2, x3, x4, x5, x6, x7, x8, x9, x10⟩ := hX
  have hkn := hK.1
  have hsu := hK.2.2.2.2.1
  unfold fX5_drip
  simp (disch := first | assumption | with_unfolding_all exact hW.1 _ _ rfl | rfl | exact pu_okI (by first | assumption | with_unfolding_all exact hW.1 _ _ rfl) (by omega) (by omega) | exact pu_oqI (by first | assumption | with_unfolding_all exact hW.1 _ _ rfl) (by omega) (by omega) | omega | decide) only [↓reduceIte, ↓gi_b, ↓pi_b, ↓gr_b, ↓pr_b, ↓al_b, ↓as_b, ↓al_3, ↓as_3, ↓al_12, ↓as_12, ↓rc_b, ↓Option.bind_some, ↓zr0_b, ↓zr1_b, ↓zrb_b, ↓pz0_b, ↓pz1_b, al_b, as_b, rc_b, gi_b, pi_b, gr_b, zr0, zr1, zrb, u_s, u_n, v_s, v_n, ↓isIn_b, ↓within_b, ite_T, ite_F, il_t, il_f, li_t, li_f, it_t, it_f, ti_t, ti_f, ie_t, ie_f, ei_t, ei_f, nn_le_t, nn_le_f, nn_lt_t, nn_lt_f, nn_eq_t, nn_eq_f, nI_1, nI_add, ni_addl, ni_ladd, pk_mul, ni_mull, b2_t, b2_f, b2_0, Option.some.injEq, Prod.mk.injEq, and_true, true_and, Nat.reduceAdd, Nat.reduceMul, Nat.reduceSub, Nat.reduceEqDiff, Nat.reduceLeDiff, Nat.reduceLT, ↓gr_h r1 r6 rfl, ↓gr_h r1 r7 rfl, ↓warm_b r8 hF hfi hw, g1, g2, hci.2.2.2.1, show (0 : Int32) = nI 0 from rfl]
  obtain ⟨y1, y2, y3⟩ := S_fl_b (F := F) (w := w) (t := t) hK x1
  refine r_drip26 hR hc hK hF ht hw.2 (kn K) 0 am_fu (ksu K) (xov X) (xW X) I (by omega) (by unfold am_fu; omega) hci hfi g2 x1 (by omega) (by omega) g11 g5 ?_
  intro I1 a1 a2 a3
  refine r_drip170 (fl := (S_fl K F w t X).1) hR (cy := xcy X) (po := xpo X) (li := xli X) (mo := xmo X) (by rw [a3 _ _ (by omega) (by omega), g3]) (by rw [a3 _ _ (by omega) (by omega), g4]) (by rw [a3 _ _ (by omega) (by omega), g2]) (by rw [a3 _ _ (by omega) (by omega), g9]) (by rw [a3 _ _ (by omega) (by omega), g10]) (by omega) (by omega) ht (by omega) (by omega) ?_
  intro I2 d1 d2 d3 d4 d5
  have fr : ∀ b j, ¬ b = r + 1 → ¬ (b = r ∧ (j = 5 ∨ j = 6 ∨ j = 7 ∨ j = 12 ∨ j = 13)) → I2 b j = I b j := fun b j h1 h2 => by rw [d5 b j (by omega), a3 b j h1 (by omega)]
  refine Rn_some ⟨I2, rfl, fun b j hb => fr b j (by omega) (by omega), ?_⟩
  refine ⟨by rw [fr _ _ (by omega) (by omega), g1], by rw [fr _ _ (by omega) (by omega), g2], d1, d2, ?_, by rw [fr _ _ (by omega) (by omega), g6]; rfl, by rw [fr _ _ (by omega) (by omega), g7]; rfl, by rw [fr _ _ (by omega) (by omega), g8]; rfl, d3, d4, fun v hv => ?_, fun b hb => by rw [fr _ _ (by omega) (by omega), g12 b hb]; rfl⟩
  · rw [d5 _ _ (by omega), a2]; rfl
  · rw [d5 _ _ (by omega), a1 v hv]; rfl
end DR
