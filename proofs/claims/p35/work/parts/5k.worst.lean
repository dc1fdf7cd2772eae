/-! the law's worst of a year, and its last calls -/
def wR : Option (Nat × Nat × Nat) → Int32 × Int32 × Int32
  | none => (-1, 0, 0)
  | some x => (nI x.1, nI x.2.1, nI x.2.2)
section WL
variable {L : Nat} {xs : Nat → Int32} {nw fc ao : Nat}
set_option maxHeartbeats 4000000 in
set_option maxRecDepth 100000 in
theorem l_1545 {s : Nat → Option pu_S} {P : Nat → Nat → Option Nat} {I : Nat → Nat → Int32} {J : Nat → Nat → Int64} {n : Nat × Nat} {Z : S_Z} {k : Nat} (hk : k < 4) (hw : FW s I P n Z ao nw) (hO : ∀ b, b < 12 → I ao b = nI (dN (S_at (zK Z 0) (0, 0, 0, 0) (tw (zT Z) k) true 96) b)) {k1521 : Option Nat → Option Nat → Option Nat → Option Nat → Int32 → Int32 → Option Nat → Int32 → Int32 → Int32 → Int32 → am_H → Option (Int32 × am_H)} {Q : Int32 × am_H → Prop} : ∀ (m b N : Nat) (o : Option (Nat × Nat × Nat)), b + m = knb (zK Z 0) → m < N → wBd o →
    Rn (k1521 (some 1) (some 40) (some 47) (some 48) (nI nw) (nI fc) (some ao) (wR (wB (wE (zK Z 0) (zT Z) k) k m b o)).1 (wR (wB (wE (zK Z 0) (zT Z) k) k m b o)).2.1 (wR (wB (wE (zK Z 0) (zT Z) k) k m b o)).2.2 (nI k + 1) (pu_hp s I P J n)) Q →
    Rn (fL_law_1545 L xs k1521 N (some 1) (some 40) (some 47) (some 48) (nI nw) (nI fc) (some ao) (wR o).1 (wR o).2.1 (wR o).2.2 (nI k) (nI b) (pu_hp s I P J n)) Q := by
  obtain ⟨hZ, h, ⟨hls, ho1, ho2⟩, hlk, hlt, hlw, hc1, hnw, hn5, hhd⟩ := id hw
  have hK := (hZ.1.2 0 (by omega)).1
  have hT := hZ.2.2.2.1
  have hX := S_at_b (w := tw (zT Z) k) (sip := true) hK (F := (0, 0, 0, 0)) ⟨by decide, by decide, by decide, by decide⟩ 96
  have hd := (hZ.2.2.2.1.1 k hk).2.2
  have hnb := hK.2.2.2.2.2.1
  have e4 := hlk.2.2.2.2.1
  have eT := (hlt k hk).2
  intro m
  induction m with
  | zero =>
    intro b N o hb hN ho kk
    obtain ⟨N, rfl⟩ : ∃ N', N = N' + 1 := ⟨N - 1, by omega⟩
    obtain rfl : b = knb (zK Z 0) := by omega
    show Rn (fL_law_1545_b L xs k1521 (fL_law_1545 L xs k1521 N) _ _ _ _ _ _ _ _ _ _ _ _ _) _
    unfold fL_law_1545_b
    rw [al_l (pu_okI hls.1 (by decide) (by decide)), show I 40 4 = nI (knb (zK Z 0)) from e4, if_pos (Int32.le_refl _)]
    exact kk
  | succ m ih =>
    intro b N o hb hN ho kk
    obtain ⟨N, rfl⟩ : ∃ N', N = N' + 1 := ⟨N - 1, by omega⟩
    have hbn : b < knb (zK Z 0) := by omega
    have hDle := dN_le hX (Nat.le_refl _) b
    have hTle := tT_le hK hbn hd
    have hEle := wE_le (T := zT Z) hK hT hk hbn
    have hmul : (b + 1) * td (zT Z) k ≤ 12 * 72 := Nat.mul_le_mul (by omega) hd
    have eTT : nI (b + 1) * nI (td (zT Z) k) / nI (knb (zK Z 0)) = nI (tT (zK Z 0) (td (zT Z) k) b) := by
      rw [pk_mul, ni_divn (by omega) (by omega) (by omega)]; rfl
    have eE : szN (dN (S_at (zK Z 0) (0, 0, 0, 0) (tw (zT Z) k) true 96) b) (tT (zK Z 0) (td (zT Z) k) b) = wE (zK Z 0) (zT Z) k b := rfl
    have hrec := ih (b + 1) N (wst o (wE (zK Z 0) (zT Z) k b) k b) (by omega) (by omega) (wst_b ho hEle) kk
    show Rn (fL_law_1545_b L xs k1521 (fL_law_1545 L xs k1521 N) _ _ _ _ _ _ _ _ _ _ _ _ _) _
    unfold fL_law_1545_b
    rw [al_l (pu_okI hls.1 (by decide) (by decide)), show I 40 4 = nI (knb (zK Z 0)) from e4, if_neg (fun z => by have := (nI_leI (by omega) (by omega)).mp z; omega), al_b (pu_okI hls.2.2.2.2.2.2 (by omega) (by omega)), hO b (by omega), al_b (pu_okI hls.2.2.1 (by omega) (by omega)), eT, al_l (pu_okI hls.1 (by decide) (by decide)), show I 40 4 = nI (knb (zK Z 0)) from e4, if_neg (nI_ne0 (by omega) (by omega)), nI_1, eTT, size_e (by omega) (by omega), eE]
    dsimp only [Option.bind_some]
    unfold fL_law_1592 fL_law_1608 fL_law_1624
    rw [nI_1]
    cases o with
    | none =>
      have hc : ¬ nI (wE (zK Z 0) (zT Z) k b) ≤ (-1 : Int32) := fun z => absurd (show nI (wE (zK Z 0) (zT Z) k b) < 0 from Int32.lt_of_le_of_lt z (by decide)) (nI_pos (by omega))
      show Rn (if nI (wE (zK Z 0) (zT Z) k b) ≤ (-1 : Int32) then _ else _) _
      rw [if_neg hc]
      show Rn (if nI (wE (zK Z 0) (zT Z) k b) ≤ (-1 : Int32) then _ else _) _
      rw [if_neg hc]
      show Rn (if nI (wE (zK Z 0) (zT Z) k b) ≤ (-1 : Int32) then _ else _) _
      rw [if_neg hc]
      exact hrec
    | some x =>
      have hx := ho x rfl
      by_cases c : wE (zK Z 0) (zT Z) k b ≤ x.1
      · have hc : nI (wE (zK Z 0) (zT Z) k b) ≤ nI x.1 := (nI_leI (by omega) (by omega)).mpr c
        have ew : wst (some x) (wE (zK Z 0) (zT Z) k b) k b = some x := by
          show (if x.1 < _ then _ else _) = _
          rw [if_neg (by omega)]
        rw [ew] at hrec
        show Rn (if nI (wE (zK Z 0) (zT Z) k b) ≤ nI x.1 then _ else _) _
        rw [if_pos hc]
        show Rn (if nI (wE (zK Z 0) (zT Z) k b) ≤ nI x.1 then _ else _) _
        rw [if_pos hc]
        show Rn (if nI (wE (zK Z 0) (zT Z) k b) ≤ nI x.1 then _ else _) _
        rw [if_pos hc]
        exact hrec
      · have hc : ¬ nI (wE (zK Z 0) (zT Z) k b) ≤ nI x.1 := fun z => c ((nI_leI (by omega) (by omega)).mp z)
        have ew : wst (some x) (wE (zK Z 0) (zT Z) k b) k b = some (wE (zK Z 0) (zT Z) k b, k, b) := by
          show (if x.1 < _ then _ else _) = _
          rw [if_pos (by omega)]
        rw [ew] at hrec
        show Rn (if nI (wE (zK Z 0) (zT Z) k b) ≤ nI x.1 then _ else _) _
        rw [if_neg hc]
        show Rn (if nI (wE (zK Z 0) (zT Z) k b) ≤ nI x.1 then _ else _) _
        rw [if_neg hc]
        show Rn (if nI (wE (zK Z 0) (zT Z) k b) ≤ nI x.1 then _ else _) _
        rw [if_neg hc]
        exact hrec
def RQ (r : Int32 × am_H) : Prop := r.1 = 1 ∧ r.2.2.1 ≤ 600000 ∧ r.2.2.2 ≤ 7302250
theorem bad_1 {Z : S_Z} {v1 v2 v3 : Int32} (h : inB v1 0 (nI (znc Z) - 1) = false) : rnOK Z v1 v2 v3 = false := by unfold rnOK; rw [h]; rfl
theorem bad_2 {Z : S_Z} {v1 v2 v3 : Int32} (h : inB v2 0 3 = false) : rnOK Z v1 v2 v3 = false := by unfold rnOK; rw [h]; simp
theorem bad_3 {Z : S_Z} {v1 v2 v3 : Int32} (h0 : ¬ v3 = -1) (h : inB v3 0 (nI (znf Z) - 1) = false) : rnOK Z v1 v2 v3 = false := by unfold rnOK; rw [h, decide_eq_false h0]; simp
theorem inB_self {k : Nat} (h1 : 1 ≤ k) (h : k < 2147483648) : inB (nI k) 0 (nI k - 1) = false := inB_f (Or.inr (by
  obtain ⟨k, rfl⟩ : ∃ k', k = k' + 1 := ⟨k - 1, by omega⟩
  rw [nI_pred]; exact (nI_ltI (by omega) (by omega)).mpr (by omega)))
set_option maxHeartbeats 4000000 in
set_option maxRecDepth 100000 in
theorem l_last {s : Nat → Option pu_S} {P : Nat → Nat → Option Nat} {I : Nat → Nat → Int32} {J : Nat → Nat → Int64} {n : Nat × Nat} {Z : S_Z} (hfc : 1 ≤ fc ∧ fc ≤ 4) (hw : FW s I P n Z ao nw) (hzf : znf Z = fc) (hn1 : n.1 ≤ 1000) (hn2 : n.2 ≤ 100000) {N : Nat} {x : Nat × Nat × Nat} (hx : wS (zK Z 0) (zT Z) 4 0 none = some x) : Rn (fL_law_1521 L xs (N + 1) (some 1) (some 40) (some 47) (some 48) (nI nw) (nI fc) (some ao) (nI x.1) (nI x.2.1) (nI x.2.2) (nI 4) (pu_hp s I P J n)) RQ := by
  obtain ⟨hZ, h, ⟨hls, ho1, ho2⟩, hlk, hlt, hlw, hc1, hnw, hn5, hhd⟩ := id hw
  have hK := (hZ.1.2 0 (by omega)).1
  have hnb := hK.2.2.2.2.2.1
  have hi0 : 0 < znc Z := by omega
  have i1 : inB (1 : Int32) 0 (nI (znc Z) - 1) = false := by rw [hc1]; decide
  show Rn (fL_law_1521_b L xs (fL_law_1521 L xs N) _ _ _ _ _ _ _ _ _ _ _ _) _
  unfold fL_law_1521_b
  rw [if_pos (show (4 : Int32) ≤ nI 4 from Int32.le_refl _), rc_b (h.1.1 1 _ rfl)]
  refine Rn_bind (c_worstQ hZ h (i := 0) (w := 0) hi0 (by omega) hx) ?_
  rintro _ ⟨I1, P1, rfl, f1⟩
  have w1 := hw.q f1
  dsimp only
  rw [if_pos (show (0 : Nat) = 0 from rfl), if_pos rfl, rc_b (w1.2.1.1.1 1 _ rfl)]
  refine Rn_bind (c_worstQ hZ w1.2.1 (i := 0) (w := 1) hi0 (by omega) hx) ?_
  rintro _ ⟨I2, P2, rfl, f2⟩
  have w2 := w1.q f2
  dsimp only
  rw [if_neg (show ¬ (1 : Nat) = 0 by omega), if_pos (show (1 : Nat) = 1 from rfl), if_pos rfl, rc_b (w2.2.1.1.1 1 _ rfl)]
  refine Rn_bind (c_worstQ hZ w2.2.1 (i := 0) (w := 2) hi0 (by omega) hx) ?_
  rintro _ ⟨I3, P3, rfl, f3⟩
  have w3 := w2.q f3
  dsimp only
  rw [if_neg (show ¬ (2 : Nat) = 0 by omega), if_neg (show ¬ (2 : Nat) = 1 by omega), if_pos rfl, rc_b (w3.2.1.1.1 1 _ rfl)]
  refine Rn_bind (c_better hZ w3.2.1 (i := 0) (k := 0) hi0 hi0 hx hx) ?_
  rintro _ ⟨I4, P4, rfl, f4⟩
  have w4 := w3.q f4
  dsimp only
  rw [if_pos (Nat.le_refl _), if_pos (show nI 0 = (0 : Int32) from rfl), al_l (pu_okI hls.1 (by decide) (by decide)), show I4 40 4 = nI (knb (zK Z 0)) from w4.2.2.2.1.2.2.2.2.1, rc_b (w4.2.1.1.1 1 _ rfl)]
  refine Rn_bind (c_drops_b hZ w4.2.1 (i := 0) (j := 0) (q := none) hi0 (by omega) (fun k z => by cases z) (inB_self (by omega) (by omega))) ?_
  rintro _ ⟨I5, P5, rfl, f5⟩
  have w5 := w4.q f5
  dsimp only
  rw [if_pos rfl, rc_b (w5.2.1.1.1 1 _ rfl)]
  refine Rn_bind (c_drops_f hZ w5.2.1 (bad_1 i1)) ?_
  rintro _ ⟨I6, P6, rfl, f6⟩
  have w6 := w5.q f6
  dsimp only
  rw [if_pos rfl, rc_b (w6.2.1.1.1 1 _ rfl)]
  refine Rn_bind (c_drops_f hZ w6.2.1 (bad_2 (by decide))) ?_
  rintro _ ⟨I7, P7, rfl, f7⟩
  have w7 := w6.q f7
  dsimp only
  rw [if_pos rfl, rc_b (w7.2.1.1.1 1 _ rfl)]
  refine Rn_bind (c_drops_f hZ w7.2.1 (bad_3 (by rw [ni_m1 (by omega)]; exact id) (by rw [hzf]; exact inB_self (by omega) (by omega)))) ?_
  rintro _ ⟨I8, P8, rfl, f8⟩
  have w8 := w7.q f8
  dsimp only
  rw [if_pos rfl, rc_b (w8.2.1.1.1 1 _ rfl)]
  refine Rn_bind (c_error_f hZ w8.2.1 (bad_3 (by decide) (inB_f (Or.inl (by decide))))) ?_
  rintro _ ⟨I9, P9, rfl, f9⟩
  have w9 := w8.q f9
  dsimp only
  rw [if_pos rfl, rc_b (w9.2.1.1.1 1 _ rfl)]
  refine Rn_bind (c_at_t hZ w9.2.1 (i := 0) (j := 0) (q := none) hi0 (by omega) (fun k z => by cases z) (by decide)) ?_
  rintro _ ⟨Ia, Pa, rfl, fa⟩
  have wa := w9.q fa
  dsimp only
  rw [if_pos rfl, rc_b (wa.2.1.1.1 1 _ rfl)]
  refine Rn_bind (c_at_w hZ wa.2.1 (i := 0) (j := 0) (q := none) (t := 0) hi0 (by omega) (fun k z => by cases z) (by omega) (by decide)) ?_
  rintro _ ⟨Ib, Pb, rfl, fb⟩
  have wb := wa.q fb
  dsimp only
  rw [if_pos rfl, rc_b (wb.2.1.1.1 1 _ rfl)]
  refine Rn_bind (c_even_b hZ wb.2.1 (i := 0) (j := 0) (q := none) hi0 (by omega) (fun k z => by cases z) (by decide)) ?_
  rintro _ ⟨Ic, Pc, rfl, fc'⟩
  have wc := wb.q fc'
  dsimp only
  rw [if_pos rfl, rc_b (wc.2.1.1.1 1 _ rfl)]
  refine Rn_bind (c_mean_b hZ wc.2.1 (i := 0) (j := 0) (q := none) hi0 (by omega) (fun k z => by cases z) (by decide)) ?_
  rintro _ ⟨Id, Pd, rfl, fd⟩
  have wd := wc.q fd
  dsimp only
  rw [if_pos rfl, rc_b (wd.2.1.1.1 1 _ rfl)]
  refine Rn_bind (c_shows_b hZ wd.2.1 (i := 0) (j := 0) (q := none) hi0 (by omega) (fun k z => by cases z) (by decide) (by decide)) ?_
  rintro _ ⟨Ie, Pe, rfl, fe⟩
  have we := wd.q fe
  dsimp only
  rw [if_pos rfl, rc_b (we.2.1.1.1 1 _ rfl)]
  refine Rn_bind (c_shows_b hZ we.2.1 (i := 0) (j := 0) (q := none) hi0 (by omega) (fun k z => by cases z) (by decide) (by decide)) ?_
  rintro _ ⟨If, Pf, rfl, ff⟩
  have wf := we.q ff
  dsimp only
  rw [if_pos rfl, rc_b (wf.2.1.1.1 1 _ rfl)]
  refine Rn_bind (c_worst_f hZ wf.2.1 i1) ?_
  rintro _ ⟨Ig, Pg, rfl, fg⟩
  have wg := wf.q fg
  dsimp only
  rw [if_pos rfl, rc_b (wg.2.1.1.1 1 _ rfl)]
  refine Rn_bind (c_worst_w hZ wg.2.1 (i := 0) hi0 (by decide)) ?_
  rintro _ ⟨Ih, Ph, rfl, fh⟩
  have wh := wg.q fh
  dsimp only
  rw [if_pos rfl, rc_b (wh.2.1.1.1 1 _ rfl)]
  refine Rn_bind (c_better_f hZ wh.2.1 (i := 0) hi0 i1) ?_
  rintro _ ⟨Ii, Pi, rfl, fi⟩
  have wi := wh.q fi
  dsimp only
  have hhf : inB (nI nw) 0 (nI (znw Z) - 1) = false := by
    rw [hnw]
    by_cases z : nw = 0
    · rw [z]; decide
    · exact inB_self (by omega) (by omega)
  rw [if_pos rfl, rc_b (wi.2.1.1.1 1 _ rfl), c_head_f hZ wi.2.1 (by rw [ni_m1 (by omega)]; exact id) hhf]
  dsimp only [Option.bind_some]
  rw [if_pos rfl, zr1]
  exact Rn_some ⟨rfl, by show n.1 ≤ 600000; omega, by show n.2 ≤ 7302250; omega⟩
set_option maxHeartbeats 4000000 in
set_option maxRecDepth 100000 in
theorem l_1521 {J : Nat → Nat → Int64} {Z : S_Z} (hfc : 1 ≤ fc ∧ fc ≤ 4) (hzf : znf Z = fc) : ∀ (m k N : Nat) (s : Nat → Option pu_S) (I : Nat → Nat → Int32) (P : Nat → Nat → Option Nat) (n : Nat × Nat) (o : Option (Nat × Nat × Nat)), k + m = 4 → m < N → FW s I P n Z ao nw → n.1 + m ≤ 1000 → n.2 + 3 * m ≤ 100000 → wBd o → wS (zK Z 0) (zT Z) m k o = wS (zK Z 0) (zT Z) 4 0 none → Rn (fL_law_1521 L xs N (some 1) (some 40) (some 47) (some 48) (nI nw) (nI fc) (some ao) (wR o).1 (wR o).2.1 (wR o).2.2 (nI k) (pu_hp s I P J n)) RQ := by
  intro m
  induction m with
  | zero =>
    intro k N s I P n o hk hN hw hn1 hn2 ho hS
    obtain ⟨N, rfl⟩ : ∃ N', N = N' + 1 := ⟨N - 1, by omega⟩
    obtain rfl : k = 4 := by omega
    obtain ⟨x, hx, hxb⟩ := wS_some hw.1 (show 0 < znc Z by have := hw.2.2.2.2.2.2.1; omega)
    have hS : o = wS (zK Z 0) (zT Z) 4 0 none := hS
    rw [hx] at hS
    subst hS
    exact l_last hfc hw hzf (by omega) (by omega) hx
  | succ m ih =>
    intro k N s I P n o hk hN hw hn1 hn2 ho hS
    obtain ⟨N, rfl⟩ : ∃ N', N = N' + 1 := ⟨N - 1, by omega⟩
    obtain ⟨hZ, h, ⟨hls, ho1, ho2⟩, hlk, hlt, hlw, hc1, hnw, hn5, hhd⟩ := id hw
    have hK := (hZ.1.2 0 (by omega)).1
    have hT := hZ.2.2.2.1
    have hwm := (hZ.2.2.2.1.1 k (by omega)).1
    have eW := (hlt k (by omega)).1
    have hnb := hK.2.2.2.2.2.1
    show Rn (fL_law_1521_b L xs (fL_law_1521 L xs N) _ _ _ _ _ _ _ _ _ _ _ _) _
    unfold fL_law_1521_b
    rw [if_neg (fun z => by have := (nI_leI (a := 4) (b := k) (by omega) (by omega)).mp z; omega), al_b (pu_okI hls.2.1 (by omega) (by omega)), eW]
    refine Rn_bind (l_run (F := (0, 0, 0, 0)) (tick := 0) hls.1 hls.2.2.2.2.2.2 (by omega) hK ⟨by decide, by decide, by decide, by decide⟩ hwm (by omega) hlk) ?_
    rintro _ ⟨I1, rfl, g1, g2⟩
    have w1 : FW (pu_row s (n.1 + 1) (some (1, 0, 3))) I1 P (n.1 + 1, n.2 + 3) Z ao nw := hw.law (by show n.1 ≤ n.1 + 1; omega) (fun b hb => pu_row_n (by omega)) g1
    rw [show (0 : Int32) = nI 0 from rfl]
    refine l_1545 (k := k) (by omega) w1 (fun b hb => g2.1 b hb) (knb (zK Z 0)) 0 am_fu o (by omega) (by unfold am_fu; omega) ho ?_
    rw [nI_1]
    refine ih (k + 1) N _ I1 P _ _ (by omega) (by omega) w1 (by show n.1 + 1 + m ≤ 1000; omega) (by show n.2 + 3 + 3 * m ≤ 100000; omega) (wB_b (knb (zK Z 0)) 0 o (fun b hb => wE_le hK hT (by omega) (by omega)) ho) hS
end WL
