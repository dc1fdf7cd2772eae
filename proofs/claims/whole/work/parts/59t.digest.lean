/-! digest: what it is; the class -/
def mx (h : Int64) (x : Int32) : Int64 := (31 : Int64) * h + Int32.toInt64 x
def mxG (g : Nat → Int64 → Int64) : Nat → Nat → Int64 → Int64
  | 0, _, h => h
  | m + 1, k, h => mxG g m (k + 1) (g k h)
theorem q_mixed (h : Int64) (x : Int32) (H : am_H) : fX8_mixed h (Int32.toInt64 x) H = some (mx h x, H) := rfl
def gKm (K : S_K) : Nat → Int64 → Int64 := fun w h => mx h (nI (cmN K w))
def gKw (K : S_K) (v : Nat) : Nat → Int64 → Int64 := fun w h => mx h (cvN K v w)
def gKv (K : S_K) : Nat → Int64 → Int64 := fun v h => mx (mx (mx h (nI (kA K v))) (nI (kH K v))) (nI (kO K v))
def gKb (K : S_K) : Nat → Int64 → Int64 := fun b h => mx h (nI (kM K b))
def gKd (X : S_X) : Nat → Int64 → Int64 := fun b h => mx h (dI X b)
def gKs (p : S_P) : Nat → Int64 → Int64 := fun w h => mx h (shA p w)
def gX (Z : S_Z) (i : Nat) : S_X := S_at (zK Z i) (oF Z none) (tw (zT Z) 0) true 96
def gY (Z : S_Z) (i : Nat) : S_P := S_play (zW Z) (th (zT Z)) (dm (zK Z i) (oF Z none) (tw (zT Z) 0)) 96
def gK5 (Z : S_Z) (i : Nat) (h : Int64) : Int64 := mxG (gKs (gY Z i)) 4 0 h
def gK4 (Z : S_Z) (i : Nat) (h : Int64) : Int64 := gK5 Z i (mxG (gKd (gX Z i)) (knb (zK Z i)) 0 h)
def gK3 (Z : S_Z) (i : Nat) (h : Int64) : Int64 := gK4 Z i (mxG (gKb (zK Z i)) (knb (zK Z i)) 0 h)
def gK2 (Z : S_Z) (i : Nat) (h : Int64) : Int64 := gK3 Z i (mxG (gKv (zK Z i)) (kn (zK Z i)) 0 h)
def gK1 (Z : S_Z) : Nat → Int64 → Int64 := fun i h => gK2 Z i (mxG (gKm (zK Z i)) 5 0 h)
def gFf (Z : S_Z) : Nat → Int64 → Int64 := fun i h => mx (mx (mx (mx h (nI (zF Z i).1)) (nI (zF Z i).2.1)) (nI (zF Z i).2.2.1)) (nI (zF Z i).2.2.2)
def gWw (Z : S_Z) : Nat → Int64 → Int64 := fun i h => mx (mx (mx h (nI (zW Z i).1)) (nI (zW Z i).2.1)) (oI (zW Z i).2.2)
def gLl (Z : S_Z) : Nat → Int64 → Int64 := fun b h => mx h (oI (tl (zT Z) b))
def gPp (Z : S_Z) : Nat → Int64 → Int64 := fun k h => mx h (nI (zpc Z k))
def gHh (Z : S_Z) : Nat → Int64 → Int64 := fun w h => mx h (hmA Z (nI w))
def gSs (Z : S_Z) : Nat → Int64 → Int64 := fun j h => mx (mx h (nI (tw (zT Z) j))) (nI (td (zT Z) j))
def dg7 (Z : S_Z) (h : Int64) : Int64 := mxG (gHh Z) 6 0 h
def dg6 (Z : S_Z) (h : Int64) : Int64 := dg7 Z (mxG (gPp Z) (zpl Z) 0 h)
def dg5 (Z : S_Z) (h : Int64) : Int64 := dg6 Z (mxG (gLl Z) 12 0 h)
def dg4 (Z : S_Z) (h : Int64) : Int64 := dg5 Z (mx (mxG (gWw Z) (znw Z) 0 h) (oI (th (zT Z))))
def dg3 (Z : S_Z) (h : Int64) : Int64 := dg4 Z (mxG (gFf Z) (znf Z) 0 h)
def dg2 (Z : S_Z) (h : Int64) : Int64 := dg3 Z (mxG (gK1 Z) (znc Z) 0 h)
def dg1 (Z : S_Z) : Int64 := dg2 Z (mxG (gSs Z) 4 0 409)
theorem RunQ.tick {s : Nat → Option pu_S} {I : Nat → Nat → Int32} {P : Nat → Nat → Option Nat} {J : Nat → Nat → Int64} {n : Nat × Nat} {Z : S_Z} {i j t : Nat} {q : Option Nat} (hZ : Z_B Z) (hi : i < znc Z) (hR : RunQ s I P Z i j q t) {b : Nat} (hb : b < knb (zK Z i)) : fX5_tickOf 23 (nI b) (pu_hp s I P J n) = some (dI (S_at (zK Z i) (oF Z q) (tw (zT Z) j) true t) b, pu_hp s I P J n) := by
  obtain ⟨c, f, h4, h5, h6, h7, h8⟩ := hR
  obtain ⟨r1, r2, r3, r4, r5, r6, r7, r8, r9, r10⟩ := id h4
  have hc1 := h5.1
  have hnb := (hZ.1.2 i hi).1.2.2.2.2.2.1
  have e := h8.2.2.2.2.2.2.2.2.2.2.2 b (by omega)
  unfold fX5_tickOf
  simp (disch := first | assumption | with_unfolding_all exact hW.1 _ _ rfl | rfl | exact pu_okI (by first | assumption | with_unfolding_all exact hW.1 _ _ rfl) (by omega) (by omega) | exact pu_oqI (by first | assumption | with_unfolding_all exact hW.1 _ _ rfl) (by omega) (by omega) | omega | decide) only [↓reduceIte, ↓gi_b, ↓pi_b, ↓gr_b, ↓pr_b, ↓al_b, ↓as_b, ↓al_3, ↓as_3, ↓al_12, ↓as_12, ↓al_l, ↓as_l, ↓rc_b, ↓Option.bind_some, ↓zr0_b, ↓zr1_b, ↓zrb_b, ↓pz0_b, ↓pz1_b, al_b, as_b, rc_b, gi_b, pi_b, gr_b, zr0, zr1, zrb, u_s, u_n, v_s, v_n, ↓isIn_b, ↓within_b, ite_T, ite_F, il_t, il_f, li_t, li_f, it_t, it_f, ti_t, ti_f, ie_t, ie_f, ei_t, ei_f, nn_le_t, nn_le_f, nn_lt_t, nn_lt_f, nn_eq_t, nn_eq_f, nI_1, nI_add, ni_addl, ni_ladd, pk_mul, ni_mull, b2_t, b2_f, b2_0, one0, m1_eq, ni_m1, reduceCtorEq, Bool.false_eq_true, nI_clamp, if_true, Option.some.injEq, Prod.mk.injEq, and_true, true_and, Nat.reduceAdd, Nat.reduceMul, Nat.reduceSub, Nat.reduceEqDiff, Nat.reduceLeDiff, Nat.reduceLT, ↓gr_h r1 r6 rfl, ↓gr_h r1 r5 rfl, ↓hasB_b hc1 h6.2.2.2.2.1 hnb.2, decide_eq_true hb, e]
  rfl
section DG
variable {s : Nat → Option pu_S} {I : Nat → Nat → Int32} {P : Nat → Nat → Option Nat} {J : Nat → Nat → Int64} {n : Nat × Nat}
variable {Z : S_Z} {i c : Nat}
set_option maxHeartbeats 4000000 in
set_option maxRecDepth 100000 in
theorem c_d171 {p : S_P} (hW : pu_W s P) (hp : PC I P p) : ∀ (m k N : Nat) (h : Int64), k + m = 4 → m < N → fX8_mixedClock_171 N (some 1) h (nI k) (pu_hp s I P J n) = some (mxG (gKs p) m k h, pu_hp s I P J n) := by
  intro m
  induction m with
  | zero =>
    intro k N h hk hN
    obtain ⟨N, rfl⟩ : ∃ N', N = N' + 1 := ⟨N - 1, by omega⟩
    obtain rfl : k = 4 := by omega
    show fX8_mixedClock_171_b _ _ _ _ _ = _
    unfold fX8_mixedClock_171_b
    simp (disch := first | assumption | with_unfolding_all exact hW.1 _ _ rfl | rfl | exact pu_okI (by first | assumption | with_unfolding_all exact hW.1 _ _ rfl) (by omega) (by omega) | exact pu_oqI (by first | assumption | with_unfolding_all exact hW.1 _ _ rfl) (by omega) (by omega) | omega | decide) only [↓reduceIte, ↓gi_b, ↓pi_b, ↓gr_b, ↓pr_b, ↓al_b, ↓as_b, ↓al_3, ↓as_3, ↓al_12, ↓as_12, ↓al_l, ↓as_l, ↓rc_b, ↓Option.bind_some, ↓zr0_b, ↓zr1_b, ↓zrb_b, ↓pz0_b, ↓pz1_b, al_b, as_b, rc_b, gi_b, pi_b, gr_b, zr0, zr1, zrb, u_s, u_n, v_s, v_n, ↓isIn_b, ↓within_b, ite_T, ite_F, il_t, il_f, li_t, li_f, it_t, it_f, ti_t, ti_f, ie_t, ie_f, ei_t, ei_f, nn_le_t, nn_le_f, nn_lt_t, nn_lt_f, nn_eq_t, nn_eq_f, nI_1, nI_add, ni_addl, ni_ladd, pk_mul, ni_mull, b2_t, b2_f, b2_0, one0, m1_eq, ni_m1, reduceCtorEq, Bool.false_eq_true, nI_clamp, if_true, Option.some.injEq, Prod.mk.injEq, and_true, true_and, Nat.reduceAdd, Nat.reduceMul, Nat.reduceSub, Nat.reduceEqDiff, Nat.reduceLeDiff, Nat.reduceLT]
    rfl
  | succ m ih =>
    intro k N h hk hN
    obtain ⟨N, rfl⟩ : ∃ N', N = N' + 1 := ⟨N - 1, by omega⟩
    have e := ih (k + 1) N (mx h (shA p k)) (by omega) (by omega)
    show fX8_mixedClock_171_b (fX8_mixedClock_171 N) _ _ _ _ = _
    unfold fX8_mixedClock_171_b
    simp (disch := first | assumption | with_unfolding_all exact hW.1 _ _ rfl | rfl | exact pu_okI (by first | assumption | with_unfolding_all exact hW.1 _ _ rfl) (by omega) (by omega) | exact pu_oqI (by first | assumption | with_unfolding_all exact hW.1 _ _ rfl) (by omega) (by omega) | omega | decide) only [↓reduceIte, ↓gi_b, ↓pi_b, ↓gr_b, ↓pr_b, ↓al_b, ↓as_b, ↓al_3, ↓as_3, ↓al_12, ↓as_12, ↓al_l, ↓as_l, ↓rc_b, ↓Option.bind_some, ↓zr0_b, ↓zr1_b, ↓zrb_b, ↓pz0_b, ↓pz1_b, al_b, as_b, rc_b, gi_b, pi_b, gr_b, zr0, zr1, zrb, u_s, u_n, v_s, v_n, ↓isIn_b, ↓within_b, ite_T, ite_F, il_t, il_f, li_t, li_f, it_t, it_f, ti_t, ti_f, ie_t, ie_f, ei_t, ei_f, nn_le_t, nn_le_f, nn_lt_t, nn_lt_f, nn_eq_t, nn_eq_f, nI_1, nI_add, ni_addl, ni_ladd, pk_mul, ni_mull, b2_t, b2_f, b2_0, one0, m1_eq, ni_m1, reduceCtorEq, Bool.false_eq_true, nI_clamp, if_true, Option.some.injEq, Prod.mk.injEq, and_true, true_and, Nat.reduceAdd, Nat.reduceMul, Nat.reduceSub, Nat.reduceEqDiff, Nat.reduceLeDiff, Nat.reduceLT, ↓gr1_16 hW, ↓gr1_14 hW, c_meas hW hp (show k ≤ 3 by omega), q_mixed, e]
    rfl
set_option maxHeartbeats 4000000 in
set_option maxRecDepth 100000 in
theorem c_d137 (hZ : Z_B Z) (h : InvC s I P n Z) (hi : i < znc Z) (hR : RunQ s I P Z i 0 none 96) (hp : PC I P (gY Z i)) (hs : s c = some (0, 0, 0)) (e8 : I c 8 = nI (knb (zK Z i))) : ∀ (m k N : Nat) (h : Int64), k + m = knb (zK Z i) → m < N → fX8_mixedClock_137 N (some 1) h (some c) (nI k) (pu_hp s I P J n) = some (gK5 Z i (mxG (gKd (gX Z i)) m k h), pu_hp s I P J n) := by
  have hW := h.1
  have hnb := (hZ.1.2 i hi).1.2.2.2.2.2.1
  intro m
  induction m with
  | zero =>
    intro k N h hk hN
    obtain ⟨N, rfl⟩ : ∃ N', N = N' + 1 := ⟨N - 1, by omega⟩
    obtain rfl : k = knb (zK Z i) := by omega
    show fX8_mixedClock_137_b _ _ _ _ _ _ = _
    unfold fX8_mixedClock_137_b
    rw [gi_b hs rfl, e8, if_pos (show nI (knb (zK Z i)) ≤ nI (knb (zK Z i)) from Int32.le_refl _), show (0 : Int32) = nI 0 from rfl]
    exact c_d171 hW hp 4 0 am_fu h (by omega) (by unfold am_fu; omega)
  | succ m ih =>
    intro k N h hk hN
    obtain ⟨N, rfl⟩ : ∃ N', N = N' + 1 := ⟨N - 1, by omega⟩
    have e := ih (k + 1) N (mx h (dI (gX Z i) k)) (by omega) (by omega)
    have et : fX5_tickOf 23 (nI k) (pu_hp s I P J n) = some (dI (gX Z i) k, pu_hp s I P J n) := hR.tick hZ hi (show k < knb (zK Z i) by omega)
    show fX8_mixedClock_137_b (fX8_mixedClock_137 N) _ _ _ _ _ = _
    unfold fX8_mixedClock_137_b
    simp (disch := first | assumption | with_unfolding_all exact hW.1 _ _ rfl | rfl | exact pu_okI (by first | assumption | with_unfolding_all exact hW.1 _ _ rfl) (by omega) (by omega) | exact pu_oqI (by first | assumption | with_unfolding_all exact hW.1 _ _ rfl) (by omega) (by omega) | omega | decide) only [↓reduceIte, ↓gi_b, ↓pi_b, ↓gr_b, ↓pr_b, ↓al_b, ↓as_b, ↓al_3, ↓as_3, ↓al_12, ↓as_12, ↓al_l, ↓as_l, ↓rc_b, ↓Option.bind_some, ↓zr0_b, ↓zr1_b, ↓zrb_b, ↓pz0_b, ↓pz1_b, al_b, as_b, rc_b, gi_b, pi_b, gr_b, zr0, zr1, zrb, u_s, u_n, v_s, v_n, ↓isIn_b, ↓within_b, ite_T, ite_F, il_t, il_f, li_t, li_f, it_t, it_f, ti_t, ti_f, ie_t, ie_f, ei_t, ei_f, nn_le_t, nn_le_f, nn_lt_t, nn_lt_f, nn_eq_t, nn_eq_f, nI_1, nI_add, ni_addl, ni_ladd, pk_mul, ni_mull, b2_t, b2_f, b2_0, one0, m1_eq, ni_m1, reduceCtorEq, Bool.false_eq_true, nI_clamp, if_true, Option.some.injEq, Prod.mk.injEq, and_true, true_and, Nat.reduceAdd, Nat.reduceMul, Nat.reduceSub, Nat.reduceEqDiff, Nat.reduceLeDiff, Nat.reduceLT, ↓gr1_16 hW, ↓gr1_14 hW, e8, et, q_mixed, e]
    rfl
set_option maxHeartbeats 4000000 in
set_option maxRecDepth 100000 in
theorem c_d101 {I0 : Nat → Nat → Int32} {P0 : Nat → Nat → Option Nat} (hZ : Z_B Z) (h : InvC s I P n Z) (hi : i < znc Z) (hR : RunAt s I P Z i 0 none 0 I0 P0) (hc2 : P0 2 i = some c) (hc : C_S s P0 c) (hci : C_I I0 c (zK Z i)) : ∀ (m k N : Nat) (h : Int64), k + m = knb (zK Z i) → m < N → Rn (fX8_mixedClock_101 N (some 1) h (some c) (nI k) (pu_hp s I0 P0 J n)) fun y => ∃ I' P', y = (gK4 Z i (mxG (gKb (zK Z i)) m k h), pu_hp s I' P' J n) ∧ SF I I' P P' := by
  have hW := (hR.inv h).1
  have hK := (hZ.1.2 i hi).1
  have hnb := hK.2.2.2.2.2.1
  have hc1 := hc.1
  have h1 := hW.1 1 _ rfl
  have e8 : I0 c 8 = nI (knb (zK Z i)) := hci.2.2.2.2.1
  intro m
  induction m with
  | zero =>
    intro k N h' hk hN
    obtain ⟨N, rfl⟩ : ∃ N', N = N' + 1 := ⟨N - 1, by omega⟩
    obtain rfl : k = knb (zK Z i) := by omega
    show Rn (fX8_mixedClock_101_b _ _ _ _ _ _) _
    unfold fX8_mixedClock_101_b
    rw [gi_b hc1 rfl, e8, if_pos (show nI (knb (zK Z i)) ≤ nI (knb (zK Z i)) from Int32.le_refl _), rc_b h1]
    refine Rn_bind (c_playRun hZ h hi (by omega) (fun k q => (by cases q)) hR) ?_
    rintro _ ⟨I2, P2, rfl, f2, hQ, hp⟩
    have h2 := f2.inv h
    have hP2 : P2 2 i = some c := by rw [f2.2 _ _ (by unfold scP; omega), ← hc2, hR.sf.2 _ _ (by unfold scP; omega)]
    obtain ⟨c', b1, b2, b3, b4, b5⟩ := h2.2.2.2.2.2.1 i hi
    have ec : c' = c := Option.some.inj (b1.symm.trans hP2)
    subst ec
    rw [show (0 : Int32) = nI 0 from rfl]
    refine Rn_eq (c_d137 (J := J) hZ h2 hi hQ hp b4.1 b5.2.2.2.2.1 (knb (zK Z i)) 0 am_fu h' (by omega) (by unfold am_fu; omega)) (Rn_some ⟨I2, P2, rfl, f2⟩)
  | succ m ih =>
    intro k N h' hk hN
    obtain ⟨N, rfl⟩ : ∃ N', N = N' + 1 := ⟨N - 1, by omega⟩
    have e := ih (k + 1) N (mx h' (nI (kM (zK Z i) k))) (by omega) (by omega)
    have em : fX0_markOf c (nI k) (pu_hp s I0 P0 J n) = some (nI (kM (zK Z i) k), pu_hp s I0 P0 J n) := by
      rw [q_markOf hK hc hci (by omega)]
      unfold cbN
      rw [if_pos (by omega)]
    show Rn (fX8_mixedClock_101_b (fX8_mixedClock_101 N) _ _ _ _ _) _
    unfold fX8_mixedClock_101_b
    simp (disch := first | assumption | with_unfolding_all exact hW.1 _ _ rfl | rfl | exact pu_okI (by first | assumption | with_unfolding_all exact hW.1 _ _ rfl) (by omega) (by omega) | exact pu_oqI (by first | assumption | with_unfolding_all exact hW.1 _ _ rfl) (by omega) (by omega) | omega | decide) only [↓reduceIte, ↓gi_b, ↓pi_b, ↓gr_b, ↓pr_b, ↓al_b, ↓as_b, ↓al_3, ↓as_3, ↓al_12, ↓as_12, ↓al_l, ↓as_l, ↓rc_b, ↓Option.bind_some, ↓zr0_b, ↓zr1_b, ↓zrb_b, ↓pz0_b, ↓pz1_b, al_b, as_b, rc_b, gi_b, pi_b, gr_b, zr0, zr1, zrb, u_s, u_n, v_s, v_n, ↓isIn_b, ↓within_b, ite_T, ite_F, il_t, il_f, li_t, li_f, it_t, it_f, ti_t, ti_f, ie_t, ie_f, ei_t, ei_f, nn_le_t, nn_le_f, nn_lt_t, nn_lt_f, nn_eq_t, nn_eq_f, nI_1, nI_add, ni_addl, ni_ladd, pk_mul, ni_mull, b2_t, b2_f, b2_0, one0, m1_eq, ni_m1, reduceCtorEq, Bool.false_eq_true, nI_clamp, if_true, Option.some.injEq, Prod.mk.injEq, and_true, true_and, Nat.reduceAdd, Nat.reduceMul, Nat.reduceSub, Nat.reduceEqDiff, Nat.reduceLeDiff, Nat.reduceLT, e8, em, q_mixed]
    exact e
set_option maxHeartbeats 4000000 in
set_option maxRecDepth 100000 in
theorem c_d65 {K : S_K} (hK : S_KB K) (hc : C_S s P c) (hci : C_I I c K) {v : Nat} (hv : v < kn K) {k52 : Option Nat → Int64 → Option Nat → Int32 → am_H → Option (Int64 × am_H)} {Q : Int64 × am_H → Prop} : ∀ (m k N : Nat) (h : Int64), k + m = 3 → m < N → Rn (k52 (some 1) (mxG (gKw K v) m k h) (some c) (nI (v + 1)) (pu_hp s I P J n)) Q → Rn (fX8_mixedClock_65 k52 N (some 1) h (some c) (nI v) (nI k) (pu_hp s I P J n)) Q := by
  have hc1 := hc.1
  intro m
  induction m with
  | zero =>
    intro k N h hk hN kk
    obtain ⟨N, rfl⟩ : ∃ N', N = N' + 1 := ⟨N - 1, by omega⟩
    obtain rfl : k = 3 := by omega
    show Rn (fX8_mixedClock_65_b _ _ _ _ _ _ _ _) _
    unfold fX8_mixedClock_65_b
    simp (disch := first | assumption | with_unfolding_all exact hW.1 _ _ rfl | rfl | exact pu_okI (by first | assumption | with_unfolding_all exact hW.1 _ _ rfl) (by omega) (by omega) | exact pu_oqI (by first | assumption | with_unfolding_all exact hW.1 _ _ rfl) (by omega) (by omega) | omega | decide) only [↓reduceIte, ↓gi_b, ↓pi_b, ↓gr_b, ↓pr_b, ↓al_b, ↓as_b, ↓al_3, ↓as_3, ↓al_12, ↓as_12, ↓al_l, ↓as_l, ↓rc_b, ↓Option.bind_some, ↓zr0_b, ↓zr1_b, ↓zrb_b, ↓pz0_b, ↓pz1_b, al_b, as_b, rc_b, gi_b, pi_b, gr_b, zr0, zr1, zrb, u_s, u_n, v_s, v_n, ↓isIn_b, ↓within_b, ite_T, ite_F, il_t, il_f, li_t, li_f, it_t, it_f, ti_t, ti_f, ie_t, ie_f, ei_t, ei_f, nn_le_t, nn_le_f, nn_lt_t, nn_lt_f, nn_eq_t, nn_eq_f, nI_1, nI_add, ni_addl, ni_ladd, pk_mul, ni_mull, b2_t, b2_f, b2_0, one0, m1_eq, ni_m1, reduceCtorEq, Bool.false_eq_true, nI_clamp, if_true, Option.some.injEq, Prod.mk.injEq, and_true, true_and, Nat.reduceAdd, Nat.reduceMul, Nat.reduceSub, Nat.reduceEqDiff, Nat.reduceLeDiff, Nat.reduceLT]
    exact kk
  | succ m ih =>
    intro k N h hk hN kk
    obtain ⟨N, rfl⟩ : ∃ N', N = N' + 1 := ⟨N - 1, by omega⟩
    have e := ih (k + 1) N (mx h (cvN K v k)) (by omega) (by omega) kk
    have em := q_vmeas (J := J) (n := n) hK hc hci (v := v) (w := k) (by have := hK.1.2; omega) (by omega)
    show Rn (fX8_mixedClock_65_b k52 (fX8_mixedClock_65 k52 N) _ _ _ _ _ _) _
    unfold fX8_mixedClock_65_b
    simp (disch := first | assumption | with_unfolding_all exact hW.1 _ _ rfl | rfl | exact pu_okI (by first | assumption | with_unfolding_all exact hW.1 _ _ rfl) (by omega) (by omega) | exact pu_oqI (by first | assumption | with_unfolding_all exact hW.1 _ _ rfl) (by omega) (by omega) | omega | decide) only [↓reduceIte, ↓gi_b, ↓pi_b, ↓gr_b, ↓pr_b, ↓al_b, ↓as_b, ↓al_3, ↓as_3, ↓al_12, ↓as_12, ↓al_l, ↓as_l, ↓rc_b, ↓Option.bind_some, ↓zr0_b, ↓zr1_b, ↓zrb_b, ↓pz0_b, ↓pz1_b, al_b, as_b, rc_b, gi_b, pi_b, gr_b, zr0, zr1, zrb, u_s, u_n, v_s, v_n, ↓isIn_b, ↓within_b, ite_T, ite_F, il_t, il_f, li_t, li_f, it_t, it_f, ti_t, ti_f, ie_t, ie_f, ei_t, ei_f, nn_le_t, nn_le_f, nn_lt_t, nn_lt_f, nn_eq_t, nn_eq_f, nI_1, nI_add, ni_addl, ni_ladd, pk_mul, ni_mull, b2_t, b2_f, b2_0, one0, m1_eq, ni_m1, reduceCtorEq, Bool.false_eq_true, nI_clamp, if_true, Option.some.injEq, Prod.mk.injEq, and_true, true_and, Nat.reduceAdd, Nat.reduceMul, Nat.reduceSub, Nat.reduceEqDiff, Nat.reduceLeDiff, Nat.reduceLT, em, q_mixed]
    exact e
theorem gKw_3 {K : S_K} {v : Nat} (hv : v < kn K) (h : Int64) : mxG (gKw K v) 3 0 h = gKv K v h := by
  show mx (mx (mx h (cvN K v 0)) (cvN K v 1)) (cvN K v 2) = _
  unfold cvN
  rw [if_pos hv, if_pos hv, if_pos hv]
  rfl
set_option maxHeartbeats 4000000 in
set_option maxRecDepth 100000 in
theorem c_d52 {K : S_K} (hK : S_KB K) (hc : C_S s P c) (hci : C_I I c K) {Q : Int64 × am_H → Prop} : ∀ (m v N : Nat) (h : Int64), v + m = kn K → m < N → Rn (fX8_mixedClock_101 am_fu (some 1) (mxG (gKv K) m v h) (some c) (nI 0) (pu_hp s I P J n)) Q → Rn (fX8_mixedClock_52 N (some 1) h (some c) (nI v) (pu_hp s I P J n)) Q := by
  have hc1 := hc.1
  have e0 := hci.1
  have hkn := hK.1.2
  intro m
  induction m with
  | zero =>
    intro v N h hk hN kk
    obtain ⟨N, rfl⟩ : ∃ N', N = N' + 1 := ⟨N - 1, by omega⟩
    obtain rfl : v = kn K := by omega
    show Rn (fX8_mixedClock_52_b _ _ _ _ _ _) _
    unfold fX8_mixedClock_52_b
    rw [gi_b hc1 rfl, e0, if_pos (show nI (kn K) ≤ nI (kn K) from Int32.le_refl _), show (0 : Int32) = nI 0 from rfl]
    exact kk
  | succ m ih =>
    intro v N h hk hN kk
    obtain ⟨N, rfl⟩ : ∃ N', N = N' + 1 := ⟨N - 1, by omega⟩
    show Rn (fX8_mixedClock_52_b (fX8_mixedClock_52 N) _ _ _ _ _) _
    unfold fX8_mixedClock_52_b
    rw [gi_b hc1 rfl, e0, if_neg (show ¬ nI (kn K) ≤ nI v by rw [nn_le_f (by omega) (by omega)]; exact id), show (0 : Int32) = nI 0 from rfl]
    refine c_d65 hK hc hci (v := v) (by omega) 3 0 am_fu h (by omega) (by unfold am_fu; omega) ?_
    rw [gKw_3 (by omega)]
    exact ih (v + 1) N (gKv K v h) (by omega) (by omega) kk
set_option maxHeartbeats 4000000 in
set_option maxRecDepth 100000 in
theorem c_d24 {K : S_K} (hK : S_KB K) (hc : C_S s P c) (hci : C_I I c K) {Q : Int64 × am_H → Prop} : ∀ (m k N : Nat) (h : Int64), k + m = 5 → m < N → Rn (fX8_mixedClock_52 am_fu (some 1) (mxG (gKm K) m k h) (some c) (nI 0) (pu_hp s I P J n)) Q → Rn (fX8_mixedClock_24 N (some 1) h (some c) (nI k) (pu_hp s I P J n)) Q := by
  have hc1 := hc.1
  intro m
  induction m with
  | zero =>
    intro k N h hk hN kk
    obtain ⟨N, rfl⟩ : ∃ N', N = N' + 1 := ⟨N - 1, by omega⟩
    obtain rfl : k = 5 := by omega
    show Rn (fX8_mixedClock_24_b _ _ _ _ _ _) _
    unfold fX8_mixedClock_24_b
    rw [if_pos (show (4 : Int32) < nI 5 by decide), show (0 : Int32) = nI 0 from rfl]
    exact kk
  | succ m ih =>
    intro k N h hk hN kk
    obtain ⟨N, rfl⟩ : ∃ N', N = N' + 1 := ⟨N - 1, by omega⟩
    have e := ih (k + 1) N (mx h (nI (cmN K k))) (by omega) (by omega) kk
    have em := q_measure (J := J) (n := n) hc hci (w := k) (by omega)
    show Rn (fX8_mixedClock_24_b (fX8_mixedClock_24 N) _ _ _ _ _) _
    unfold fX8_mixedClock_24_b
    rw [if_neg (show ¬ (4 : Int32) < nI k by rw [it_f (by show k ≤ 4; omega) (by decide)]; exact id)]
    simp (disch := first | assumption | with_unfolding_all exact hW.1 _ _ rfl | rfl | exact pu_okI (by first | assumption | with_unfolding_all exact hW.1 _ _ rfl) (by omega) (by omega) | exact pu_oqI (by first | assumption | with_unfolding_all exact hW.1 _ _ rfl) (by omega) (by omega) | omega | decide) only [↓reduceIte, ↓gi_b, ↓pi_b, ↓gr_b, ↓pr_b, ↓al_b, ↓as_b, ↓al_3, ↓as_3, ↓al_12, ↓as_12, ↓al_l, ↓as_l, ↓rc_b, ↓Option.bind_some, ↓zr0_b, ↓zr1_b, ↓zrb_b, ↓pz0_b, ↓pz1_b, al_b, as_b, rc_b, gi_b, pi_b, gr_b, zr0, zr1, zrb, u_s, u_n, v_s, v_n, ↓isIn_b, ↓within_b, ite_T, ite_F, il_t, il_f, li_t, li_f, it_t, it_f, ti_t, ti_f, ie_t, ie_f, ei_t, ei_f, nn_le_t, nn_le_f, nn_lt_t, nn_lt_f, nn_eq_t, nn_eq_f, nI_1, nI_add, ni_addl, ni_ladd, pk_mul, ni_mull, b2_t, b2_f, b2_0, one0, m1_eq, ni_m1, reduceCtorEq, Bool.false_eq_true, nI_clamp, if_true, Option.some.injEq, Prod.mk.injEq, and_true, true_and, Nat.reduceAdd, Nat.reduceMul, Nat.reduceSub, Nat.reduceEqDiff, Nat.reduceLeDiff, Nat.reduceLT, em, q_mixed]
    exact e
set_option maxHeartbeats 4000000 in
set_option maxRecDepth 100000 in
theorem c_dC (hZ : Z_B Z) (h : InvC s I P n Z) (hi : i < znc Z) (h' : Int64) : Rn (fX8_mixedClock 1 h' (nI i) (pu_hp s I P J n)) fun y => ∃ I' P', y = (gK1 Z i h', pu_hp s I' P' J n) ∧ SF I I' P P' := by
  have hW := h.1
  have h1 := hW.1 1 _ rfl
  have hK := (hZ.1.2 i hi).1
  unfold fX8_mixedClock
  rw [rc_b h1, show (0 : Int32) = nI 0 from rfl, show (-1 : Int32) = oI none from rfl]
  refine Rn_bind (c_start_t hZ h hi (j := 0) (by omega) (fun k q => (by cases q))) ?_
  rintro _ ⟨I1, P1, rfl, hR⟩
  have h1' := hR.inv h
  have hW1 := h1'.1
  have h23 := hW1.1 23 _ rfl
  have h11 := hW1.1 1 _ rfl
  obtain ⟨c, f, r2, -, -, r4, r5, r6, -, -⟩ := id hR
  have e23 : P1 23 0 = some c := r4.2.2.2.2.2.1
  show Rn (if (1 : Int32) = nI 0 then some (h', pu_hp s I1 P1 J n) else _) _
  rw [if_neg (show ¬ (1 : Int32) = nI 0 by decide), gr1_14 hW1, gr_b h23 rfl, e23]
  refine c_d24 hK r5 r6 5 0 am_fu h' (by omega) (by unfold am_fu; omega) ?_
  refine c_d52 hK r5 r6 (kn (zK Z i)) 0 am_fu _ (by omega) (by have := hK.1.2; unfold am_fu; omega) ?_
  exact c_d101 hZ h hi hR r2 r5 r6 (knb (zK Z i)) 0 am_fu _ (by omega) (by have := hK.2.2.2.2.2.1.2; unfold am_fu; omega)
set_option maxHeartbeats 4000000 in
set_option maxRecDepth 100000 in
theorem c_dF (h : InvC s I P n Z) (hi : i < znf Z) (h' : Int64) : ∃ f, P 3 i = some f ∧ fX8_mixedFault h' (some f) (pu_hp s I P J n) = some (gFf Z i h', pu_hp s I P J n) := by
  obtain ⟨f, d1, d2, d3, d4, d5⟩ := h.2.2.2.2.2.2.1 i hi
  obtain ⟨e1, e2, e3, e4⟩ := d5
  refine ⟨f, d1, ?_⟩
  unfold fX8_mixedFault
  rw [if_neg (fun q => by cases q)]
  simp (disch := first | assumption | with_unfolding_all exact hW.1 _ _ rfl | rfl | exact pu_okI (by first | assumption | with_unfolding_all exact hW.1 _ _ rfl) (by omega) (by omega) | exact pu_oqI (by first | assumption | with_unfolding_all exact hW.1 _ _ rfl) (by omega) (by omega) | omega | decide) only [↓reduceIte, ↓gi_b, ↓pi_b, ↓gr_b, ↓pr_b, ↓al_b, ↓as_b, ↓al_3, ↓as_3, ↓al_12, ↓as_12, ↓al_l, ↓as_l, ↓rc_b, ↓Option.bind_some, ↓zr0_b, ↓zr1_b, ↓zrb_b, ↓pz0_b, ↓pz1_b, al_b, as_b, rc_b, gi_b, pi_b, gr_b, zr0, zr1, zrb, u_s, u_n, v_s, v_n, ↓isIn_b, ↓within_b, ite_T, ite_F, il_t, il_f, li_t, li_f, it_t, it_f, ti_t, ti_f, ie_t, ie_f, ei_t, ei_f, nn_le_t, nn_le_f, nn_lt_t, nn_lt_f, nn_eq_t, nn_eq_f, nI_1, nI_add, ni_addl, ni_ladd, pk_mul, ni_mull, b2_t, b2_f, b2_0, one0, m1_eq, ni_m1, reduceCtorEq, Bool.false_eq_true, nI_clamp, if_true, Option.some.injEq, Prod.mk.injEq, and_true, true_and, Nat.reduceAdd, Nat.reduceMul, Nat.reduceSub, Nat.reduceEqDiff, Nat.reduceLeDiff, Nat.reduceLT, e1, e2, e3, e4, q_mixed]
  rfl
set_option maxHeartbeats 4000000 in
set_option maxRecDepth 100000 in
theorem c_dW (hZ : Z_B Z) (h : InvC s I P n Z) (hi : i < znw Z) (h' : Int64) : ∃ w, P 4 i = some w ∧ fX8_mixedWork h' (some w) (pu_hp s I P J n) = some (gWw Z i h', pu_hp s I P J n) := by
  obtain ⟨w, d1, d2, d3, d4, d5⟩ := h.2.2.2.2.2.2.2.1 i hi
  obtain ⟨e1, e2, e3, e4⟩ := d5
  have hWi := (hZ.2.2.1.2 i hi).2.2
  refine ⟨w, d1, ?_⟩
  unfold fX8_mixedWork fX8_mixedWork_44 gWw
  rw [if_neg (fun q => by cases q)]
  cases e : (zW Z i).2.2 with
  | none =>
    have e4 : P w 3 = none := by rw [e4, e]; rfl
    simp (disch := first | assumption | with_unfolding_all exact hW.1 _ _ rfl | rfl | exact pu_okI (by first | assumption | with_unfolding_all exact hW.1 _ _ rfl) (by omega) (by omega) | exact pu_oqI (by first | assumption | with_unfolding_all exact hW.1 _ _ rfl) (by omega) (by omega) | omega | decide) only [↓reduceIte, ↓gi_b, ↓pi_b, ↓gr_b, ↓pr_b, ↓al_b, ↓as_b, ↓al_3, ↓as_3, ↓al_12, ↓as_12, ↓al_l, ↓as_l, ↓rc_b, ↓Option.bind_some, ↓zr0_b, ↓zr1_b, ↓zrb_b, ↓pz0_b, ↓pz1_b, al_b, as_b, rc_b, gi_b, pi_b, gr_b, zr0, zr1, zrb, u_s, u_n, v_s, v_n, ↓isIn_b, ↓within_b, ite_T, ite_F, il_t, il_f, li_t, li_f, it_t, it_f, ti_t, ti_f, ie_t, ie_f, ei_t, ei_f, nn_le_t, nn_le_f, nn_lt_t, nn_lt_f, nn_eq_t, nn_eq_f, nI_1, nI_add, ni_addl, ni_ladd, pk_mul, ni_mull, b2_t, b2_f, b2_0, one0, m1_eq, ni_m1, reduceCtorEq, Bool.false_eq_true, nI_clamp, if_true, Option.some.injEq, Prod.mk.injEq, and_true, true_and, Nat.reduceAdd, Nat.reduceMul, Nat.reduceSub, Nat.reduceEqDiff, Nat.reduceLeDiff, Nat.reduceLT, e2, e3, e4, q_mixed]
    rfl
  | some x =>
    have hx := hWi x e
    obtain ⟨w2, g1, g2, g3, g4, g5⟩ := h.2.2.2.2.2.2.2.1 x (by omega)
    have e4 : P w 3 = some w2 := by rw [e4, e]; exact g1
    have g5 := g5.1
    simp (disch := first | assumption | with_unfolding_all exact hW.1 _ _ rfl | rfl | exact pu_okI (by first | assumption | with_unfolding_all exact hW.1 _ _ rfl) (by omega) (by omega) | exact pu_oqI (by first | assumption | with_unfolding_all exact hW.1 _ _ rfl) (by omega) (by omega) | omega | decide) only [↓reduceIte, ↓gi_b, ↓pi_b, ↓gr_b, ↓pr_b, ↓al_b, ↓as_b, ↓al_3, ↓as_3, ↓al_12, ↓as_12, ↓al_l, ↓as_l, ↓rc_b, ↓Option.bind_some, ↓zr0_b, ↓zr1_b, ↓zrb_b, ↓pz0_b, ↓pz1_b, al_b, as_b, rc_b, gi_b, pi_b, gr_b, zr0, zr1, zrb, u_s, u_n, v_s, v_n, ↓isIn_b, ↓within_b, ite_T, ite_F, il_t, il_f, li_t, li_f, it_t, it_f, ti_t, ti_f, ie_t, ie_f, ei_t, ei_f, nn_le_t, nn_le_f, nn_lt_t, nn_lt_f, nn_eq_t, nn_eq_f, nI_1, nI_add, ni_addl, ni_ladd, pk_mul, ni_mull, b2_t, b2_f, b2_0, one0, m1_eq, ni_m1, reduceCtorEq, Bool.false_eq_true, nI_clamp, if_true, Option.some.injEq, Prod.mk.injEq, and_true, true_and, Nat.reduceAdd, Nat.reduceMul, Nat.reduceSub, Nat.reduceEqDiff, Nat.reduceLeDiff, Nat.reduceLT, e2, e3, e4, q_mixed, g5]
    rfl
set_option maxHeartbeats 4000000 in
set_option maxRecDepth 100000 in
theorem c_d189 (hZ : Z_B Z) (h : InvC s I P n Z) : ∀ (m k N : Nat) (h' : Int64), k + m = 6 → m < N → fX8_digest_189 N (some 1) h' (nI k) (pu_hp s I P J n) = some (mxG (gHh Z) m k h', pu_hp s I P J n) := by
  have hW := h.1
  intro m
  induction m with
  | zero =>
    intro k N h' hk hN
    obtain ⟨N, rfl⟩ : ∃ N', N = N' + 1 := ⟨N - 1, by omega⟩
    obtain rfl : k = 6 := by omega
    show fX8_digest_189_b _ _ _ _ _ = _
    unfold fX8_digest_189_b
    simp (disch := first | assumption | with_unfolding_all exact hW.1 _ _ rfl | rfl | exact pu_okI (by first | assumption | with_unfolding_all exact hW.1 _ _ rfl) (by omega) (by omega) | exact pu_oqI (by first | assumption | with_unfolding_all exact hW.1 _ _ rfl) (by omega) (by omega) | omega | decide) only [↓reduceIte, ↓gi_b, ↓pi_b, ↓gr_b, ↓pr_b, ↓al_b, ↓as_b, ↓al_3, ↓as_3, ↓al_12, ↓as_12, ↓al_l, ↓as_l, ↓rc_b, ↓Option.bind_some, ↓zr0_b, ↓zr1_b, ↓zrb_b, ↓pz0_b, ↓pz1_b, al_b, as_b, rc_b, gi_b, pi_b, gr_b, zr0, zr1, zrb, u_s, u_n, v_s, v_n, ↓isIn_b, ↓within_b, ite_T, ite_F, il_t, il_f, li_t, li_f, it_t, it_f, ti_t, ti_f, ie_t, ie_f, ei_t, ei_f, nn_le_t, nn_le_f, nn_lt_t, nn_lt_f, nn_eq_t, nn_eq_f, nI_1, nI_add, ni_addl, ni_ladd, pk_mul, ni_mull, b2_t, b2_f, b2_0, one0, m1_eq, ni_m1, reduceCtorEq, Bool.false_eq_true, nI_clamp, if_true, Option.some.injEq, Prod.mk.injEq, and_true, true_and, Nat.reduceAdd, Nat.reduceMul, Nat.reduceSub, Nat.reduceEqDiff, Nat.reduceLeDiff, Nat.reduceLT]
    rfl
  | succ m ih =>
    intro k N h' hk hN
    obtain ⟨N, rfl⟩ : ∃ N', N = N' + 1 := ⟨N - 1, by omega⟩
    have e := ih (k + 1) N (mx h' (hmA Z (nI k))) (by omega) (by omega)
    show fX8_digest_189_b (fX8_digest_189 N) _ _ _ _ = _
    unfold fX8_digest_189_b
    simp (disch := first | assumption | with_unfolding_all exact hW.1 _ _ rfl | rfl | exact pu_okI (by first | assumption | with_unfolding_all exact hW.1 _ _ rfl) (by omega) (by omega) | exact pu_oqI (by first | assumption | with_unfolding_all exact hW.1 _ _ rfl) (by omega) (by omega) | omega | decide) only [↓reduceIte, ↓gi_b, ↓pi_b, ↓gr_b, ↓pr_b, ↓al_b, ↓as_b, ↓al_3, ↓as_3, ↓al_12, ↓as_12, ↓al_l, ↓as_l, ↓rc_b, ↓Option.bind_some, ↓zr0_b, ↓zr1_b, ↓zrb_b, ↓pz0_b, ↓pz1_b, al_b, as_b, rc_b, gi_b, pi_b, gr_b, zr0, zr1, zrb, u_s, u_n, v_s, v_n, ↓isIn_b, ↓within_b, ite_T, ite_F, il_t, il_f, li_t, li_f, it_t, it_f, ti_t, ti_f, ie_t, ie_f, ei_t, ei_f, nn_le_t, nn_le_f, nn_lt_t, nn_lt_f, nn_eq_t, nn_eq_f, nI_1, nI_add, ni_addl, ni_ladd, pk_mul, ni_mull, b2_t, b2_f, b2_0, one0, m1_eq, ni_m1, reduceCtorEq, Bool.false_eq_true, nI_clamp, if_true, Option.some.injEq, Prod.mk.injEq, and_true, true_and, Nat.reduceAdd, Nat.reduceMul, Nat.reduceSub, Nat.reduceEqDiff, Nat.reduceLeDiff, Nat.reduceLT, ↓gr1_6 hW, ↓gr1_7 hW, ↓gr7_2 hW, ↓gr11_2 hW, q_count hZ h, q_mixed, e]
    rfl
set_option maxHeartbeats 4000000 in
set_option maxRecDepth 100000 in
theorem c_codeZ (h : InvC s I P n Z) (hZ : Z_B Z) {k : Nat} (hk : k < zpl Z) : fX3_codeAt 5 (nI k) (pu_hp s I P J n) = some (nI (zpc Z k), pu_hp s I P J n) := by
  have hW := h.1
  have h1 := h.2.2.1.2.2.2.2.2
  have h5 := h.2.2.2.1 k hk
  have h4 := hZ.2.2.2.2.2.1.1
  have hn0 : (nI k < 0) = False := eq_false (by rw [Int32.not_lt]; exact nI_pos' (by omega))
  unfold fX3_codeAt
  simp (disch := first | assumption | with_unfolding_all exact hW.1 _ _ rfl | rfl | exact pu_okI (by first | assumption | with_unfolding_all exact hW.1 _ _ rfl) (by omega) (by omega) | exact pu_oqI (by first | assumption | with_unfolding_all exact hW.1 _ _ rfl) (by omega) (by omega) | omega | decide) only [↓reduceIte, ↓gi_b, ↓pi_b, ↓gr_b, ↓pr_b, ↓al_b, ↓as_b, ↓al_3, ↓as_3, ↓al_12, ↓as_12, ↓al_l, ↓as_l, ↓rc_b, ↓Option.bind_some, ↓zr0_b, ↓zr1_b, ↓zrb_b, ↓pz0_b, ↓pz1_b, al_b, as_b, rc_b, gi_b, pi_b, gr_b, zr0, zr1, zrb, u_s, u_n, v_s, v_n, ↓isIn_b, ↓within_b, ite_T, ite_F, il_t, il_f, li_t, li_f, it_t, it_f, ti_t, ti_f, ie_t, ie_f, ei_t, ei_f, nn_le_t, nn_le_f, nn_lt_t, nn_lt_f, nn_eq_t, nn_eq_f, nI_1, nI_add, ni_addl, ni_ladd, pk_mul, ni_mull, b2_t, b2_f, b2_0, one0, m1_eq, ni_m1, reduceCtorEq, Bool.false_eq_true, nI_clamp, if_true, Option.some.injEq, Prod.mk.injEq, and_true, true_and, Nat.reduceAdd, Nat.reduceMul, Nat.reduceSub, Nat.reduceEqDiff, Nat.reduceLeDiff, Nat.reduceLT, ↓gr5_0 hW, h1, hn0, h5]
set_option maxHeartbeats 4000000 in
set_option maxRecDepth 100000 in
theorem c_d156 (hZ : Z_B Z) (h : InvC s I P n Z) : ∀ (m k N : Nat) (h' : Int64), k + m = zpl Z → m < N → fX8_digest_156 N (some 1) h' (nI k) (pu_hp s I P J n) = some (dg7 Z (mxG (gPp Z) m k h'), pu_hp s I P J n) := by
  have hW := h.1
  have h11 := hW.1 1 _ rfl
  have h5 := hW.1 5 _ rfl
  have e51 := h.2.2.1.2.2.2.2.2
  have h4 := hZ.2.2.2.2.2.1.1
  intro m
  induction m with
  | zero =>
    intro k N h' hk hN
    obtain ⟨N, rfl⟩ : ∃ N', N = N' + 1 := ⟨N - 1, by omega⟩
    obtain rfl : k = zpl Z := by omega
    show fX8_digest_156_b _ _ _ _ _ = _
    unfold fX8_digest_156_b
    rw [gr1_6 hW, gi_b h5 rfl, e51, if_pos (show nI (zpl Z) ≤ nI (zpl Z) from Int32.le_refl _), show (0 : Int32) = nI 0 from rfl]
    exact c_d189 hZ h 6 0 am_fu h' (by omega) (by unfold am_fu; omega)
  | succ m ih =>
    intro k N h' hk hN
    obtain ⟨N, rfl⟩ : ∃ N', N = N' + 1 := ⟨N - 1, by omega⟩
    have e := ih (k + 1) N (mx h' (nI (zpc Z k))) (by omega) (by omega)
    show fX8_digest_156_b (fX8_digest_156 N) _ _ _ _ = _
    unfold fX8_digest_156_b
    simp (disch := first | assumption | with_unfolding_all exact hW.1 _ _ rfl | rfl | exact pu_okI (by first | assumption | with_unfolding_all exact hW.1 _ _ rfl) (by omega) (by omega) | exact pu_oqI (by first | assumption | with_unfolding_all exact hW.1 _ _ rfl) (by omega) (by omega) | omega | decide) only [↓reduceIte, ↓gi_b, ↓pi_b, ↓gr_b, ↓pr_b, ↓al_b, ↓as_b, ↓al_3, ↓as_3, ↓al_12, ↓as_12, ↓al_l, ↓as_l, ↓rc_b, ↓Option.bind_some, ↓zr0_b, ↓zr1_b, ↓zrb_b, ↓pz0_b, ↓pz1_b, al_b, as_b, rc_b, gi_b, pi_b, gr_b, zr0, zr1, zrb, u_s, u_n, v_s, v_n, ↓isIn_b, ↓within_b, ite_T, ite_F, il_t, il_f, li_t, li_f, it_t, it_f, ti_t, ti_f, ie_t, ie_f, ei_t, ei_f, nn_le_t, nn_le_f, nn_lt_t, nn_lt_f, nn_eq_t, nn_eq_f, nI_1, nI_add, ni_addl, ni_ladd, pk_mul, ni_mull, b2_t, b2_f, b2_0, one0, m1_eq, ni_m1, reduceCtorEq, Bool.false_eq_true, nI_clamp, if_true, Option.some.injEq, Prod.mk.injEq, and_true, true_and, Nat.reduceAdd, Nat.reduceMul, Nat.reduceSub, Nat.reduceEqDiff, Nat.reduceLeDiff, Nat.reduceLT, ↓gr1_6 hW, ↓gr1_7 hW, ↓gr7_2 hW, ↓gr11_2 hW, e51, c_codeZ h hZ (show k < zpl Z by omega), q_mixed, e]
    rfl
set_option maxHeartbeats 4000000 in
set_option maxRecDepth 100000 in
theorem c_d127 (hZ : Z_B Z) (h : InvC s I P n Z) : ∀ (m k N : Nat) (h' : Int64), k + m = 12 → m < N → fX8_digest_127 N (some 1) h' (nI k) (pu_hp s I P J n) = some (dg6 Z (mxG (gLl Z) m k h'), pu_hp s I P J n) := by
  have hW := h.1
  have hl := h.2.2.2.2.2.2.2.2.1.2.1
  have h4 := hZ.2.2.2.2.2.1.1
  intro m
  induction m with
  | zero =>
    intro k N h' hk hN
    obtain ⟨N, rfl⟩ : ∃ N', N = N' + 1 := ⟨N - 1, by omega⟩
    obtain rfl : k = 12 := by omega
    show fX8_digest_127_b _ _ _ _ _ = _
    unfold fX8_digest_127_b
    rw [if_pos (show (12 : Int32) ≤ nI 12 by decide), show (0 : Int32) = nI 0 from rfl]
    exact c_d156 hZ h (zpl Z) 0 am_fu h' (by omega) (by unfold am_fu; omega)
  | succ m ih =>
    intro k N h' hk hN
    obtain ⟨N, rfl⟩ : ∃ N', N = N' + 1 := ⟨N - 1, by omega⟩
    have e := ih (k + 1) N (mx h' (oI (tl (zT Z) k))) (by omega) (by omega)
    show fX8_digest_127_b (fX8_digest_127 N) _ _ _ _ = _
    unfold fX8_digest_127_b
    rw [if_neg (show ¬ (12 : Int32) ≤ nI k by rw [il_f (by show k < 12; omega) (by decide)]; exact id)]
    simp (disch := first | assumption | with_unfolding_all exact hW.1 _ _ rfl | rfl | exact pu_okI (by first | assumption | with_unfolding_all exact hW.1 _ _ rfl) (by omega) (by omega) | exact pu_oqI (by first | assumption | with_unfolding_all exact hW.1 _ _ rfl) (by omega) (by omega) | omega | decide) only [↓reduceIte, ↓gi_b, ↓pi_b, ↓gr_b, ↓pr_b, ↓al_b, ↓as_b, ↓al_3, ↓as_3, ↓al_12, ↓as_12, ↓al_l, ↓as_l, ↓rc_b, ↓Option.bind_some, ↓zr0_b, ↓zr1_b, ↓zrb_b, ↓pz0_b, ↓pz1_b, al_b, as_b, rc_b, gi_b, pi_b, gr_b, zr0, zr1, zrb, u_s, u_n, v_s, v_n, ↓isIn_b, ↓within_b, ite_T, ite_F, il_t, il_f, li_t, li_f, it_t, it_f, ti_t, ti_f, ie_t, ie_f, ei_t, ei_f, nn_le_t, nn_le_f, nn_lt_t, nn_lt_f, nn_eq_t, nn_eq_f, nI_1, nI_add, ni_addl, ni_ladd, pk_mul, ni_mull, b2_t, b2_f, b2_0, one0, m1_eq, ni_m1, reduceCtorEq, Bool.false_eq_true, nI_clamp, if_true, Option.some.injEq, Prod.mk.injEq, and_true, true_and, Nat.reduceAdd, Nat.reduceMul, Nat.reduceSub, Nat.reduceEqDiff, Nat.reduceLeDiff, Nat.reduceLT, ↓gr1_6 hW, ↓gr1_7 hW, ↓gr7_2 hW, ↓gr11_2 hW, hl k (by omega), q_mixed, e]
    rfl
set_option maxHeartbeats 4000000 in
set_option maxRecDepth 100000 in
theorem c_d88 (hZ : Z_B Z) (h : InvC s I P n Z) : ∀ (m k N : Nat) (h' : Int64), k + m = znw Z → m < N → fX8_digest_88 N (some 1) h' (nI k) (pu_hp s I P J n) = some (dg5 Z (mx (mxG (gWw Z) m k h') (oI (th (zT Z)))), pu_hp s I P J n) := by
  have hW := h.1
  have h11 := hW.1 1 _ rfl
  have h7 := hW.1 7 _ rfl
  have e15 := h.2.2.1.2.2.1
  have e73 := h.2.2.2.2.2.2.2.2.1.2.2
  have hnw := hZ.2.2.1.1
  intro m
  induction m with
  | zero =>
    intro k N h' hk hN
    obtain ⟨N, rfl⟩ : ∃ N', N = N' + 1 := ⟨N - 1, by omega⟩
    obtain rfl : k = znw Z := by omega
    show fX8_digest_88_b _ _ _ _ _ = _
    unfold fX8_digest_88_b
    rw [gi_b h11 rfl, e15, if_pos (show nI (znw Z) ≤ nI (znw Z) from Int32.le_refl _), gr1_7 hW, gi_b h7 rfl, e73, q_mixed, show (0 : Int32) = nI 0 from rfl]
    exact c_d127 hZ h 12 0 am_fu _ (by omega) (by unfold am_fu; omega)
  | succ m ih =>
    intro k N h' hk hN
    obtain ⟨N, rfl⟩ : ∃ N', N = N' + 1 := ⟨N - 1, by omega⟩
    have e := ih (k + 1) N (gWw Z k h') (by omega) (by omega)
    obtain ⟨w, w1, w2⟩ := c_dW (J := J) hZ h (show k < znw Z by omega) h'
    show fX8_digest_88_b (fX8_digest_88 N) _ _ _ _ = _
    unfold fX8_digest_88_b
    have ew : fX8_workOf 1 (nI k) (pu_hp s I P J n) = some (some w, pu_hp s I P J n) := by rw [q_workOf hZ h, inB_t1 (show k < znw Z by omega) (by omega), if_pos rfl, nI_clamp (by omega), w1]
    simp (disch := first | assumption | with_unfolding_all exact hW.1 _ _ rfl | rfl | exact pu_okI (by first | assumption | with_unfolding_all exact hW.1 _ _ rfl) (by omega) (by omega) | exact pu_oqI (by first | assumption | with_unfolding_all exact hW.1 _ _ rfl) (by omega) (by omega) | omega | decide) only [↓reduceIte, ↓gi_b, ↓pi_b, ↓gr_b, ↓pr_b, ↓al_b, ↓as_b, ↓al_3, ↓as_3, ↓al_12, ↓as_12, ↓al_l, ↓as_l, ↓rc_b, ↓Option.bind_some, ↓zr0_b, ↓zr1_b, ↓zrb_b, ↓pz0_b, ↓pz1_b, al_b, as_b, rc_b, gi_b, pi_b, gr_b, zr0, zr1, zrb, u_s, u_n, v_s, v_n, ↓isIn_b, ↓within_b, ite_T, ite_F, il_t, il_f, li_t, li_f, it_t, it_f, ti_t, ti_f, ie_t, ie_f, ei_t, ei_f, nn_le_t, nn_le_f, nn_lt_t, nn_lt_f, nn_eq_t, nn_eq_f, nI_1, nI_add, ni_addl, ni_ladd, pk_mul, ni_mull, b2_t, b2_f, b2_0, one0, m1_eq, ni_m1, reduceCtorEq, Bool.false_eq_true, nI_clamp, if_true, Option.some.injEq, Prod.mk.injEq, and_true, true_and, Nat.reduceAdd, Nat.reduceMul, Nat.reduceSub, Nat.reduceEqDiff, Nat.reduceLeDiff, Nat.reduceLT, ↓gr1_6 hW, ↓gr1_7 hW, ↓gr7_2 hW, ↓gr11_2 hW, e15, ew, w2, e]
    rfl
set_option maxHeartbeats 4000000 in
set_option maxRecDepth 100000 in
theorem c_d62 (hZ : Z_B Z) (h : InvC s I P n Z) : ∀ (m k N : Nat) (h' : Int64), k + m = znf Z → m < N → fX8_digest_62 N (some 1) h' (nI k) (pu_hp s I P J n) = some (dg4 Z (mxG (gFf Z) m k h'), pu_hp s I P J n) := by
  have hW := h.1
  have h11 := hW.1 1 _ rfl
  have e14 := h.2.2.1.2.1
  have hnf := hZ.2.1.1
  have hnw := hZ.2.2.1.1
  intro m
  induction m with
  | zero =>
    intro k N h' hk hN
    obtain ⟨N, rfl⟩ : ∃ N', N = N' + 1 := ⟨N - 1, by omega⟩
    obtain rfl : k = znf Z := by omega
    show fX8_digest_62_b _ _ _ _ _ = _
    unfold fX8_digest_62_b
    rw [gi_b h11 rfl, e14, if_pos (show nI (znf Z) ≤ nI (znf Z) from Int32.le_refl _), show (0 : Int32) = nI 0 from rfl]
    exact c_d88 hZ h (znw Z) 0 am_fu _ (by omega) (by unfold am_fu; omega)
  | succ m ih =>
    intro k N h' hk hN
    obtain ⟨N, rfl⟩ : ∃ N', N = N' + 1 := ⟨N - 1, by omega⟩
    have e := ih (k + 1) N (gFf Z k h') (by omega) (by omega)
    obtain ⟨w, w1, w2⟩ := c_dF (J := J) h (show k < znf Z by omega) h'
    show fX8_digest_62_b (fX8_digest_62 N) _ _ _ _ = _
    unfold fX8_digest_62_b
    have ew : fX8_faultOf 1 (nI k) (pu_hp s I P J n) = some (some w, pu_hp s I P J n) := by rw [q_faultOf hZ h, inB_t1 (show k < znf Z by omega) (by omega), if_pos rfl, nI_clamp (by omega), w1]
    simp (disch := first | assumption | with_unfolding_all exact hW.1 _ _ rfl | rfl | exact pu_okI (by first | assumption | with_unfolding_all exact hW.1 _ _ rfl) (by omega) (by omega) | exact pu_oqI (by first | assumption | with_unfolding_all exact hW.1 _ _ rfl) (by omega) (by omega) | omega | decide) only [↓reduceIte, ↓gi_b, ↓pi_b, ↓gr_b, ↓pr_b, ↓al_b, ↓as_b, ↓al_3, ↓as_3, ↓al_12, ↓as_12, ↓al_l, ↓as_l, ↓rc_b, ↓Option.bind_some, ↓zr0_b, ↓zr1_b, ↓zrb_b, ↓pz0_b, ↓pz1_b, al_b, as_b, rc_b, gi_b, pi_b, gr_b, zr0, zr1, zrb, u_s, u_n, v_s, v_n, ↓isIn_b, ↓within_b, ite_T, ite_F, il_t, il_f, li_t, li_f, it_t, it_f, ti_t, ti_f, ie_t, ie_f, ei_t, ei_f, nn_le_t, nn_le_f, nn_lt_t, nn_lt_f, nn_eq_t, nn_eq_f, nI_1, nI_add, ni_addl, ni_ladd, pk_mul, ni_mull, b2_t, b2_f, b2_0, one0, m1_eq, ni_m1, reduceCtorEq, Bool.false_eq_true, nI_clamp, if_true, Option.some.injEq, Prod.mk.injEq, and_true, true_and, Nat.reduceAdd, Nat.reduceMul, Nat.reduceSub, Nat.reduceEqDiff, Nat.reduceLeDiff, Nat.reduceLT, ↓gr1_6 hW, ↓gr1_7 hW, ↓gr7_2 hW, ↓gr11_2 hW, e14, ew, w2, e]
    rfl
set_option maxHeartbeats 4000000 in
set_option maxRecDepth 100000 in
theorem c_d39 (hZ : Z_B Z) : ∀ (m k N : Nat) (h' : Int64) (I : Nat → Nat → Int32) (P : Nat → Nat → Option Nat), InvC s I P n Z → k + m = znc Z → m < N → Rn (fX8_digest_39 N (some 1) h' (nI k) (pu_hp s I P J n)) fun y => ∃ I' P', y = (dg3 Z (mxG (gK1 Z) m k h'), pu_hp s I' P' J n) ∧ SF I I' P P' := by
  have hnc := hZ.1.1
  have hnf := hZ.2.1.1
  intro m
  induction m with
  | zero =>
    intro k N h' I P h hk hN
    obtain ⟨N, rfl⟩ : ∃ N', N = N' + 1 := ⟨N - 1, by omega⟩
    obtain rfl : k = znc Z := by omega
    have hW := h.1
    have h11 := hW.1 1 _ rfl
    have e13 := h.2.2.1.1
    show Rn (fX8_digest_39_b _ _ _ _ _) _
    unfold fX8_digest_39_b
    rw [gi_b h11 rfl, e13, if_pos (show nI (znc Z) ≤ nI (znc Z) from Int32.le_refl _), show (0 : Int32) = nI 0 from rfl]
    exact Rn_eq (c_d62 hZ h (znf Z) 0 am_fu _ (by omega) (by unfold am_fu; omega)) (Rn_some ⟨I, P, rfl, fun _ _ _ => rfl, fun _ _ _ => rfl⟩)
  | succ m ih =>
    intro k N h' I P h hk hN
    obtain ⟨N, rfl⟩ : ∃ N', N = N' + 1 := ⟨N - 1, by omega⟩
    have hW := h.1
    have h11 := hW.1 1 _ rfl
    have e13 := h.2.2.1.1
    show Rn (fX8_digest_39_b (fX8_digest_39 N) _ _ _ _) _
    unfold fX8_digest_39_b
    rw [gi_b h11 rfl, e13, if_neg (show ¬ nI (znc Z) ≤ nI k by rw [nn_le_f (by omega) (by omega)]; exact id), rc_b h11]
    refine Rn_bind (c_dC hZ h (show k < znc Z by omega) h') ?_
    rintro _ ⟨I1, P1, rfl, f1⟩
    show Rn (fX8_digest_39 N (some 1) (gK1 Z k h') (nI k + 1) _) _
    rw [nI_1]
    refine Rn_mono (ih (k + 1) N (gK1 Z k h') I1 P1 (f1.inv h) (by omega) (by omega)) ?_
    rintro _ ⟨I2, P2, rfl, f2⟩
    exact ⟨I2, P2, rfl, f1.tr f2⟩
set_option maxHeartbeats 4000000 in
set_option maxRecDepth 100000 in
theorem c_d6 (hZ : Z_B Z) (h : InvC s I P n Z) : ∀ (m k N : Nat) (h' : Int64), k + m = 4 → m < N → Rn (fX8_digest_6 N (some 1) h' (nI k) (pu_hp s I P J n)) fun y => ∃ I' P', y = (dg2 Z (mxG (gSs Z) m k h'), pu_hp s I' P' J n) ∧ SF I I' P P' := by
  have hW := h.1
  have hnc := hZ.1.1
  intro m
  induction m with
  | zero =>
    intro k N h' hk hN
    obtain ⟨N, rfl⟩ : ∃ N', N = N' + 1 := ⟨N - 1, by omega⟩
    obtain rfl : k = 4 := by omega
    show Rn (fX8_digest_6_b _ _ _ _ _) _
    unfold fX8_digest_6_b
    rw [if_pos (show (4 : Int32) ≤ nI 4 by decide), show (0 : Int32) = nI 0 from rfl]
    exact c_d39 hZ (znc Z) 0 am_fu _ I P h (by omega) (by unfold am_fu; omega)
  | succ m ih =>
    intro k N h' hk hN
    obtain ⟨N, rfl⟩ : ∃ N', N = N' + 1 := ⟨N - 1, by omega⟩
    have e := ih (k + 1) N (gSs Z k h') (by omega) (by omega)
    show Rn (fX8_digest_6_b (fX8_digest_6 N) _ _ _ _) _
    unfold fX8_digest_6_b
    rw [if_neg (show ¬ (4 : Int32) ≤ nI k by rw [il_f (by show k < 4; omega) (by decide)]; exact id)]
    simp (disch := first | assumption | with_unfolding_all exact hW.1 _ _ rfl | rfl | exact pu_okI (by first | assumption | with_unfolding_all exact hW.1 _ _ rfl) (by omega) (by omega) | exact pu_oqI (by first | assumption | with_unfolding_all exact hW.1 _ _ rfl) (by omega) (by omega) | omega | decide) only [↓reduceIte, ↓gi_b, ↓pi_b, ↓gr_b, ↓pr_b, ↓al_b, ↓as_b, ↓al_3, ↓as_3, ↓al_12, ↓as_12, ↓al_l, ↓as_l, ↓rc_b, ↓Option.bind_some, ↓zr0_b, ↓zr1_b, ↓zrb_b, ↓pz0_b, ↓pz1_b, al_b, as_b, rc_b, gi_b, pi_b, gr_b, zr0, zr1, zrb, u_s, u_n, v_s, v_n, ↓isIn_b, ↓within_b, ite_T, ite_F, il_t, il_f, li_t, li_f, it_t, it_f, ti_t, ti_f, ie_t, ie_f, ei_t, ei_f, nn_le_t, nn_le_f, nn_lt_t, nn_lt_f, nn_eq_t, nn_eq_f, nI_1, nI_add, ni_addl, ni_ladd, pk_mul, ni_mull, b2_t, b2_f, b2_0, one0, m1_eq, ni_m1, reduceCtorEq, Bool.false_eq_true, nI_clamp, if_true, Option.some.injEq, Prod.mk.injEq, and_true, true_and, Nat.reduceAdd, Nat.reduceMul, Nat.reduceSub, Nat.reduceEqDiff, Nat.reduceLeDiff, Nat.reduceLT, q_warmOf h (show k < 4 by omega), q_dayOf h (show k < 4 by omega), q_mixed]
    exact e
set_option maxHeartbeats 4000000 in
set_option maxRecDepth 100000 in
theorem c_digest (hZ : Z_B Z) (h : InvC s I P n Z) : Rn (fX8_digest 1 (pu_hp s I P J n)) (QC s I P J n Z (dg1 Z)) := by
  unfold fX8_digest
  rw [show (0 : Int32) = nI 0 from rfl]
  refine Rn_mono (c_d6 hZ h 4 0 am_fu 409 (by omega) (by unfold am_fu; omega)) ?_
  rintro _ ⟨I', P', rfl, f⟩
  exact QC.of h f.1 f.2
end DG
