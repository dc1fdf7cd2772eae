/-! drip -/
section DR
variable {s : Nat → Option pu_S} {I : Nat → Nat → Int32} {P : Nat → Nat → Option Nat} {J : Nat → Nat → Int64} {n : Nat × Nat} {r c f : Nat} {K : S_K} {F : S_F}
variable {wm t cy po ov le em dr li mo y : Nat} {W D W2 : Nat → Nat} {X Y : S_X} {b : Nat}
theorem iR_c (h : b < r ∨ r + 2 < b) : iR I r wm t X b = I b := by
  unfold iR; rw [pu_row_n (by omega), pu_row_n (by omega), pu_row_n (by omega)]
theorem iR_r : iR I r wm t X r = zR (I r) wm t X := by unfold iR; rw [pu_row_s]
theorem iR_w : iR I r wm t X (r + 1) = wR X := by unfold iR; rw [pu_row_n (by omega), pu_row_n (by omega), pu_row_s]
theorem iR_d : iR I r wm t X (r + 2) = dR X := by unfold iR; rw [pu_row_n (by omega), pu_row_s]
theorem iR_eq {I' : Nat → Nat → Int32} (h1 : I' r = zR (I r) wm t X) (h2 : I' (r + 1) = wR X) (h3 : I' (r + 2) = dR X) (h4 : ∀ b, b < r ∨ r + 2 < b → I' b = I b) : I' = iR I r wm t X := by
  funext b
  by_cases e1 : b = r
  · subst e1; rw [iR_r, h1]
  · by_cases e2 : b = r + 1
    · subst e2; rw [iR_w, h2]
    · by_cases e3 : b = r + 2
      · subst e3; rw [iR_d, h3]
      · rw [h4 b (by omega), iR_c (by omega)]
theorem iR_pw : pu_row (iR I r wm t (W, cy, po, ov, le, em, dr, D, li, mo)) (r + 1) (wR (W2, cy, po, ov, le, em, dr, D, li, mo)) = iR I r wm t (W2, cy, po, ov, le, em, dr, D, li, mo) := by
  refine iR_eq ?_ ?_ ?_ (fun b hb => ?_)
  · rw [pu_row_n (by omega), iR_r]; rfl
  · rw [pu_row_s]
  · rw [pu_row_n (by omega), iR_d]; rfl
  · rw [pu_row_n (by omega), iR_c hb]
theorem iR_pz {t2 : Nat} (h1 : wR Y = wR X) (h2 : dR Y = dR X) : pu_row (iR I r wm t X) r (zR (I r) wm t2 Y) = iR I r wm t2 Y := by
  refine iR_eq ?_ ?_ ?_ (fun b hb => ?_)
  · rw [pu_row_s]
  · rw [pu_row_n (by omega), iR_w, h1]
  · rw [pu_row_n (by omega), iR_d, h2]
  · rw [pu_row_n (by omega), iR_c hb]
theorem iR_p {t2 cy2 po2 ov2 le2 em2 li2 mo2 : Nat} : pu_row (iR I r wm t (W, cy, po, ov, le, em, dr, D, li, mo)) r (zR (I r) wm t2 (W, cy2, po2, ov2, le2, em2, dr, D, li2, mo2)) = iR I r wm t2 (W, cy2, po2, ov2, le2, em2, dr, D, li2, mo2) := iR_pz rfl rfl
set_option maxHeartbeats 4000000 in
set_option maxRecDepth 100000 in
theorem q_drip98 (hR : S_RS s P r c f) (hcs : S_CS s P c) (hci : S_CI I c K) (hfi : S_FI I f F) (hK : S_KB K) (hFB : S_FB F) (ht : t < 96) {rec : Option Nat → Int32 → Int32 → Int32 → am_H → Option am_H} {wn k held : Nat} (hwn : wn ≤ 150) (hk : k < kn K) (hh : held ≤ 1800) :
    fX5_drip_98 rec (some r) (nI wn) (nI k) (nI held) (pu_hp s (iR I r wm t (W, cy, po, ov, le, em, dr, D, li, mo)) P J n) = rec (some r) (nI wn) (nI (min held (S_hole F (kO K k) k t * (held / kA K k) * wn / 1000))) (nI (k + 1)) (pu_hp s (iR I r wm t (updN W k (held - min held (S_hole F (kO K k) k t * (held / kA K k) * wn / 1000)), cy, po, ov, le, em, dr, D, li, mo)) P J n) := by
  obtain ⟨r1, r2, r3, r4, r5, r6, r7, r8, r9, r10⟩ := hR
  obtain ⟨c1, c2, c3, c4, c5, c6, c7, c8, c9, c10, c11⟩ := hcs
  obtain ⟨i1, i2, i3, i4, i5, i6, i7, i8, i9, i10⟩ := id hci
  obtain ⟨⟨k1, k2⟩, k3, k4, k5, k6, k7, k8, k9⟩ := id hK
  obtain ⟨⟨a1, a2⟩, ⟨b1, b2⟩, o1⟩ := k3 k hk
  have hho := S_hole_le hFB (v := k) (t := t) o1
  have hlev : held / kA K k ≤ 1800 := Nat.le_trans (Nat.div_le_self _ _) hh
  have hp1 : S_hole F (kO K k) k t * (held / kA K k) ≤ 220 * 1800 := Nat.mul_le_mul hho hlev
  have hp2 : S_hole F (kO K k) k t * (held / kA K k) * wn ≤ 220 * 1800 * 150 := Nat.mul_le_mul hp1 hwn
  have hq : S_hole F (kO K k) k t * (held / kA K k) * wn / 1000 < 2147483648 := Nat.lt_of_le_of_lt (Nat.div_le_self _ _) (by omega)
  have z3 : zR (I r) wm t (W, cy, po, ov, le, em, dr, D, li, mo) 3 = nI t := rfl
  unfold fX5_drip_98
  simp (disch := first | assumption | decide | omega) only [Option.bind_some, Option.bind_none, pu_gi, pu_gr, pu_gl, pu_pi, pu_pr, pu_pl, pu_rc, pu_row_s, pu_row_n, pu_row_r, pu_up_s, pu_up_n, am_zr0, am_zr1, Option.some.injEq, Prod.mk.injEq, reduceIte, ite_true, ite_false, if_true, if_false, pu_al3, pu_al4, pu_al8, pu_al10, pu_al12, pu_al20, pu_al48, pu_al80, pu_al96, pu_al120, pu_al128, pu_as3, pu_as4, pu_as8, pu_as10, pu_as12, pu_as20, pu_as48, pu_as80, pu_as96, pu_as120, pu_as128, r4, r6, r7, c7, c9, iR_c, iR_w, iR_r, i6, i8, q_quotient, q_holeOf, sp_q_N, z3, sp_hole_N hFB hfi o1 (show k < 3 by omega) ht]
  rw [if_neg (show ¬ (1000 : Int32) = 0 by decide), show (1000 : Int32) = nI 1000 from rfl, pk_mul, pk_mul, pk_div (by omega) (by omega) (by omega), nI_min (by omega) hq, pk_sub (Nat.min_le_left _ _)]
  simp (disch := first | assumption | decide | omega) only [Option.bind_some, Option.bind_none, pu_gi, pu_gr, pu_gl, pu_pi, pu_pr, pu_pl, pu_rc, pu_row_s, pu_row_n, pu_row_r, pu_up_s, pu_up_n, am_zr0, am_zr1, Option.some.injEq, Prod.mk.injEq, reduceIte, ite_true, ite_false, if_true, if_false, pu_al3, pu_al4, pu_al8, pu_al10, pu_al12, pu_al20, pu_al48, pu_al80, pu_al96, pu_al120, pu_al128, pu_as3, pu_as4, pu_as8, pu_as10, pu_as12, pu_as20, pu_as48, pu_as80, pu_as96, pu_as120, pu_as128, r4, iR_w, wR_u, iR_pw, nI_1]
set_option maxHeartbeats 4000000 in
set_option maxRecDepth 100000 in
theorem q_drip26 (hR : S_RS s P r c f) (hcs : S_CS s P c) (hci : S_CI I c K) (hfi : S_FI I f F) (hK : S_KB K) (hFB : S_FB F) (ht : t < 96) (hw : 50 ≤ wm ∧ wm ≤ 150) : ∀ (m k N fl ov : Nat) (W : Nat → Nat), k + m = kn K → (∀ j, j < kn K → W j ≤ kA K j * kH K j) → fl ≤ 1800 →
    fX5_drip_26 (N + m + 1) (some r) (nI (S_warm F wm t)) (nI fl) (nI k) (pu_hp s (iR I r wm t (W, cy, po, ov, le, em, dr, D, li, mo)) P J n) = fX5_drip_170 (some r) (nI (S_vs K F wm t m k (fl, W, ov)).1) (pu_hp s (iR I r wm t ((S_vs K F wm t m k (fl, W, ov)).2.1, cy, po, (S_vs K F wm t m k (fl, W, ov)).2.2, le, em, dr, D, li, mo)) P J n) := by
  obtain ⟨r1, r2, r3, r4, r5, r6, r7, r8, r9, r10⟩ := id hR
  obtain ⟨c1, c2, c3, c4, c5, c6, c7, c8, c9, c10, c11⟩ := id hcs
  obtain ⟨i1, i2, i3, i4, i5, i6, i7, i8, i9, i10⟩ := id hci
  obtain ⟨⟨k1, k2⟩, k3, k4, k5, k6, k7, k8, k9⟩ := id hK
  intro m
  induction m with
  | zero =>
    intro k N fl ov W hk hW hfl
    show fX5_drip_26_b _ _ _ _ _ _ = _
    unfold fX5_drip_26_b
    simp (disch := first | assumption | decide | omega) only [Option.bind_some, Option.bind_none, pu_gi, pu_gr, pu_gl, pu_pi, pu_pr, pu_pl, pu_rc, pu_row_s, pu_row_n, pu_row_r, pu_up_s, pu_up_n, am_zr0, am_zr1, Option.some.injEq, Prod.mk.injEq, reduceIte, ite_true, ite_false, if_true, if_false, pu_al3, pu_al4, pu_al8, pu_al10, pu_al12, pu_al20, pu_al48, pu_al80, pu_al96, pu_al120, pu_al128, pu_as3, pu_as4, pu_as8, pu_as10, pu_as12, pu_as20, pu_as48, pu_as80, pu_as96, pu_as120, pu_as128, r6, iR_c, i1, nI_leI, show kn K ≤ k by omega]
    rfl
  | succ m ih =>
    intro k N fl ov W hk hW hfl
    have hk1 : k < kn K := by omega
    have hWk := hW k hk1
    obtain ⟨f1, f2⟩ := S_full hK hk1
    obtain ⟨⟨a1, a2⟩, ⟨b1, b2⟩, o1⟩ := k3 k hk1
    have i9k := i9 k hk1
    have hwn := S_warm_le (F := F) (t := t) hw.2
    have hho := S_hole_le hFB (v := k) (t := t) o1
    show fX5_drip_26_b (fX5_drip_26 (N + m + 1)) _ _ _ _ _ = _
    unfold fX5_drip_26_b
    simp (disch := first | assumption | decide | omega) only [Option.bind_some, Option.bind_none, pu_gi, pu_gr, pu_gl, pu_pi, pu_pr, pu_pl, pu_rc, pu_row_s, pu_row_n, pu_row_r, pu_up_s, pu_up_n, am_zr0, am_zr1, Option.some.injEq, Prod.mk.injEq, reduceIte, ite_true, ite_false, if_true, if_false, pu_al3, pu_al4, pu_al8, pu_al10, pu_al12, pu_al20, pu_al48, pu_al80, pu_al96, pu_al120, pu_al128, pu_as3, pu_as4, pu_as8, pu_as10, pu_as12, pu_as20, pu_as48, pu_as80, pu_as96, pu_as120, pu_as128, r6, r4, c10, iR_c, iR_w, iR_r, i1, i9k, nI_leI, show ¬ kn K ≤ k by omega, show ¬ 3 ≤ k by omega, L3, wR, xW, nI_add]
    by_cases hle : W k + fl ≤ kA K k * kH K k
    · rw [if_pos hle, q_drip98 hR hcs hci hfi hK hFB ht hwn hk1 (by omega)]
      have e : S_v K F wm t k (fl, W, ov) = (min (W k + fl) (S_hole F (kO K k) k t * ((W k + fl) / kA K k) * S_warm F wm t / 1000), updN W k (W k + fl - min (W k + fl) (S_hole F (kO K k) k t * ((W k + fl) / kA K k) * S_warm F wm t / 1000)), ov) := by
        unfold S_v
        rw [Nat.min_eq_left hle, Nat.sub_eq_zero_of_le hle]; rfl
      obtain ⟨g1, g2⟩ := S_v_b (F := F) (w := wm) (t := t) (x := (fl, W, ov)) hW hk1 hK
      show _ = fX5_drip_170 (some r) (nI (S_vs K F wm t m (k + 1) (S_v K F wm t k (fl, W, ov))).1) _
      rw [e] at g1 g2
      rw [ih (k + 1) N _ _ _ (by omega) g1 g2]
      show _ = fX5_drip_170 (some r) _ (pu_hp s (iR I r wm t ((S_vs K F wm t m (k + 1) (S_v K F wm t k (fl, W, ov))).2.1, cy, po, (S_vs K F wm t m (k + 1) (S_v K F wm t k (fl, W, ov))).2.2, le, em, dr, D, li, mo)) P J n)
      rw [e]
    · have z7 : zR (I r) wm t (W, cy, po, ov, le, em, dr, D, li, mo) 7 = nI ov := rfl
      rw [if_neg hle, z7, pk_sub (by omega), nI_add, zR_7, iR_p, q_drip98 hR hcs hci hfi hK hFB ht hwn hk1 (by omega)]
      have e : S_v K F wm t k (fl, W, ov) = (min (kA K k * kH K k) (S_hole F (kO K k) k t * ((kA K k * kH K k) / kA K k) * S_warm F wm t / 1000), updN W k (kA K k * kH K k - min (kA K k * kH K k) (S_hole F (kO K k) k t * ((kA K k * kH K k) / kA K k) * S_warm F wm t / 1000)), ov + (W k + fl - kA K k * kH K k)) := by
        unfold S_v
        rw [Nat.min_eq_right (show kA K k * kH K k ≤ W k + fl by omega)]
      obtain ⟨g1, g2⟩ := S_v_b (F := F) (w := wm) (t := t) (x := (fl, W, ov)) hW hk1 hK
      show _ = fX5_drip_170 (some r) (nI (S_vs K F wm t m (k + 1) (S_v K F wm t k (fl, W, ov))).1) _
      rw [e] at g1 g2
      rw [ih (k + 1) N _ _ _ (by omega) g1 g2]
      show _ = fX5_drip_170 (some r) _ (pu_hp s (iR I r wm t ((S_vs K F wm t m (k + 1) (S_v K F wm t k (fl, W, ov))).2.1, cy, po, (S_vs K F wm t m (k + 1) (S_v K F wm t k (fl, W, ov))).2.2, le, em, dr, D, li, mo)) P J n)
      rw [e]
set_option maxHeartbeats 4000000 in
set_option maxRecDepth 100000 in
theorem q_drip (hR : S_RS s P r c f) (hcs : S_CS s P c) (hci : S_CI I c K) (hfi : S_FI I f F) (hK : S_KB K) (hFB : S_FB F) (ht : t < 96) (hw : 50 ≤ wm ∧ wm ≤ 150) (hX : S_XB K t X) (hli : xli X ≤ 1800) (hmo : xmo X ≤ 1800) : fX5_drip r (pu_hp s (iR I r wm t X) P J n) = some (pu_hp s (iR I r wm t (S_drip K F wm t X)) P J n) := by
  obtain ⟨r1, r2, r3, r4, r5, r6, r7, r8, r9, r10⟩ := id hR
  obtain ⟨c1, c2, c3, c4, c5, c6, c7, c8, c9, c10, c11⟩ := id hcs
  obtain ⟨i1, i2, i3, i4, i5, i6, i7, i8, i9, i10⟩ := id hci
  obtain ⟨⟨k1, k2⟩, k3, k4, k5, k6, k7, k8, k9⟩ := id hK
  obtain ⟨x1, x2, x3, x4⟩ := hX
  obtain ⟨W, cy, po, ov, le, em, dr, D, li, mo⟩ := X
  have z2 : zR (I r) wm t (W, cy, po, ov, le, em, dr, D, li, mo) 2 = nI wm := rfl
  have z3 : zR (I r) wm t (W, cy, po, ov, le, em, dr, D, li, mo) 3 = nI t := rfl
  obtain ⟨g1, g2⟩ := S_vs_b (F := F) (w := wm) (t := t) (x := (ksu K, W, ov)) hK (kn K) 0 x1 (by show ksu K ≤ 1800; omega) (by omega)
  unfold fX5_drip
  simp (disch := first | assumption | decide | omega) only [Option.bind_some, Option.bind_none, pu_gi, pu_gr, pu_gl, pu_pi, pu_pr, pu_pl, pu_rc, pu_row_s, pu_row_n, pu_row_r, pu_up_s, pu_up_n, am_zr0, am_zr1, Option.some.injEq, Prod.mk.injEq, reduceIte, ite_true, ite_false, if_true, if_false, pu_al3, pu_al4, pu_al8, pu_al10, pu_al12, pu_al20, pu_al48, pu_al80, pu_al96, pu_al120, pu_al128, pu_as3, pu_as4, pu_as8, pu_as10, pu_as12, pu_as20, pu_as48, pu_as80, pu_as96, pu_as120, pu_as128, r6, r7, iR_c, iR_r, z2, z3, i4, q_warmthOf, sp_warm_N hFB hfi hw ht]
  rw [show am_fu = (99999 - kn K) + kn K + 1 by unfold am_fu; omega, L0, q_drip26 hR hcs hci hfi hK hFB ht hw (kn K) 0 (99999 - kn K) (ksu K) ov W (by omega) x1 (by omega)]
  unfold fX5_drip_170
  exact ()
end DR
