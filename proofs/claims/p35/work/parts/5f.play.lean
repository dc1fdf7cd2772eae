/-! the law's works: what they use up, how the law holds them -/
def P_F (t i C : Nat) (p : S_P) : Prop := pf p + pc p + S_D t i (pe p) (pc p) ≤ C
def P_L (V : Nat → S_W) (nw t i B C : Nat) (p : S_P) : Prop := P_B V nw t i B C p ∧ P_1 p ∧ P_F t i C p
section PF
variable {V : Nat → S_W} {nw t i j B C : Nat} {p : S_P}
theorem S_st_f {w : Nat} (h : P_F t i C p) : P_F t i (C + (if (V w).1 = 3 then w + 1 else 1)) (S_st V w t p).1 := by
  unfold P_F at h ⊢
  unfold S_st
  by_cases c1 : (V w).1 = 1
  · rw [if_pos c1, if_neg (show ¬ (V w).1 = 3 by omega)]
    show pf p + pc p + S_D t i (pe p) (pc p) ≤ _; omega
  rw [if_neg c1]
  by_cases c2 : (V w).1 = 2
  · rw [if_pos c2, if_neg (show ¬ (V w).1 = 3 by omega)]
    split
    · show pf p + pc p + S_D t i (pe p) (pc p) ≤ _; omega
    split
    · show pf p + 1 + pc p + S_D t i (pe p) (pc p) ≤ _; omega
    · show pf p + pc p + S_D t i (pe p) (pc p) ≤ _; omega
  rw [if_neg c2]
  by_cases c3 : (V w).1 = 3
  · rw [if_pos c3, if_pos c3]
    show pf p + (pc p + 1) + (S_D t i (upG (pe p) (pc p) (w, t + (V w).2.1)) (pc p) + (if _ then (upG (pe p) (pc p) (w, t + (V w).2.1) (pc p)).1 else 0)) ≤ _
    rw [S_D_up (pc p) (Nat.le_refl _), upG_s]
    split
    · show pf p + (pc p + 1) + (S_D t i (pe p) (pc p) + w) ≤ _; omega
    · omega
  rw [if_neg c3, if_neg c3]
  split
  · show pf p + pc p + S_D t i (pe p) (pc p) ≤ _; omega
  · show pf p + pc p + S_D t i (pe p) (pc p) ≤ _; omega
theorem P_L.st {w : Nat} (hV : ∀ i, i < nw → W_B i (V i)) (hnw : nw ≤ 10) (hw : w < nw) (ht : t ≤ 95) (h : P_L V nw t i B C p) : P_L V nw t i (B + 1) (C + (if (V w).1 = 3 then w + 1 else 1)) (S_st V w t p).1 ∧ ((V w).1 = 3 → (S_st V w t p).2 = false) := by
  obtain ⟨h1, h2, h3⟩ := h
  obtain ⟨a1, a2⟩ := S_st_b hV hw ht h1
  refine ⟨⟨a1.w (Nat.le_refl _) (by split <;> omega), S_st_1 (show w < 10 by omega) (hV w hw) ht h2, S_st_f h3⟩, a2⟩
theorem P_L.w {B' C' : Nat} (h : P_L V nw t i B C p) (hB : B ≤ B') (hC : C ≤ C') : P_L V nw t i B' C' p := ⟨h.1.w hB hC, h.2.1, Nat.le_trans h.2.2 hC⟩
theorem P_L.strike (hV : ∀ i, i < nw → W_B i (V i)) (hnw : nw ≤ 10) (ht : t ≤ 95) : ∀ (f : Nat) (o : Option Nat) (B C : Nat) (p : S_P), (∀ w, o = some w → w < nw) → P_L V nw t i B C p → P_L V nw t i (B + f) (C + hdN o) (S_strike V t f o p)
  | 0, o, B, C, p, _, h => h.w (Nat.le_refl _) (Nat.le_add_right _ _)
  | f + 1, none, B, C, p, _, h => h.w (Nat.le_add_right _ _) (Nat.le_refl _)
  | f + 1, some w, B, C, p, ho, h => by
    have hw := ho w rfl
    obtain ⟨a1, a2⟩ := h.st hV hnw hw ht
    show P_L V nw t i (B + (f + 1)) (C + (w + 1)) (if (S_st V w t p).2 = true then _ else _)
    by_cases e : (S_st V w t p).2 = true
    · rw [if_pos e]
      have e3 : ¬ (V w).1 = 3 := fun q => by rw [a2 q] at e; cases e
      rw [if_neg e3] at a1
      have hlt : ∀ w', (V w).2.2 = some w' → w' < w := (hV w hw).2.2
      refine (P_L.strike hV hnw ht f (V w).2.2 (B + 1) (C + 1) _ (fun w' q => ?_) a1).w (by omega) ?_
      · have := hlt w' q; omega
      · cases q : (V w).2.2 with
        | none => show C + 1 + 0 ≤ _; omega
        | some w' => have := hlt w' q; show C + 1 + (w' + 1) ≤ _; omega
    · rw [if_neg e]
      refine a1.w (by omega) ?_
      split <;> omega
theorem P_L.dst {k : Nat} (hV : ∀ i, i < nw → W_B i (V i)) (hnw : nw ≤ 10) (ht : t ≤ 95) (hk : k < pc p) (h : P_L V nw t k B C p) : P_L V nw t (k + 1) (B + 11) C (S_dst V t k p) := by
  obtain ⟨h1, h2, h3⟩ := h
  obtain ⟨q1, q2⟩ := h1.2.2.2.1 k hk
  refine ⟨S_dst_b hV ht hk h1, S_dst_1 hV hnw ht q1 h2, ?_⟩
  have hD := S_D_s (t := t) (i := k) (E := pe p) (pc p) hk
  have hlt : ∀ w', (V (pe p k).1).2.2 = some w' → w' < (pe p k).1 := (hV _ q1).2.2
  unfold P_F at h3
  unfold S_dst
  by_cases e : (pe p k).2 = t
  · rw [if_pos e]
    rw [if_pos e] at hD
    have hb : P_B V nw t (k + 1) B (C - (pe p k).1) p := ⟨h1.1, h1.2.1, h1.2.2.1, h1.2.2.2.1, by have := h1.2.2.2.2; omega⟩
    have a := P_L.strike (i := k + 1) hV hnw ht 11 (V (pe p k).1).2.2 B (C - (pe p k).1) p (fun w' q => by have := hlt w' q; omega) ⟨hb, h2, by unfold P_F; omega⟩
    refine Nat.le_trans a.2.2 ?_
    cases q : (V (pe p k).1).2.2 with
    | none => show C - _ + 0 ≤ C; omega
    | some w' => have := hlt w' q; show C - _ + (w' + 1) ≤ C; omega
  · rw [if_neg e]
    rw [if_neg e] at hD
    unfold P_F; omega
theorem P_L.ii (h : P_L V nw t i B C p) (hij : i ≤ j) : P_L V nw t j B C p := ⟨h.1.i hij, h.2.1, by have := S_D_le (t := t) (E := pe p) hij (pc p); have := h.2.2; unfold P_F at this ⊢; omega⟩
theorem P_L.hit (h : P_L V nw t i B C p) : P_L V nw t i B C (S_hit p) := h
theorem P_L.tt (h : P_L V nw t i B C p) (hi : pc p ≤ i) : P_L V nw (t + 1) 0 B C p := ⟨h.1.t hi, h.2.1, by have := S_D_t (t := t) (i := i) (E := pe p) (pc p) hi; have := h.2.2; unfold P_F at this ⊢; omega⟩
theorem S_strike_none {f : Nat} : S_strike V t f none p = p := by cases f <;> rfl
end PF
/-- how many of the first k cranks the law keeps -/
def hN (V : Nat → S_W) (E : Nat → Nat × Nat) : Nat → Nat
  | 0 => 0
  | k + 1 => hN V E k + (if (V (E k).1).2.2.isSome = true then 1 else 0)
theorem hN_le {V : Nat → S_W} {E : Nat → Nat × Nat} : ∀ k, hN V E k ≤ k
  | 0 => Nat.le_refl _
  | k + 1 => by
    have := hN_le (V := V) (E := E) k
    show hN V E k + _ ≤ _
    split <;> omega
theorem hN_mono {V : Nat → S_W} {E : Nat → Nat × Nat} : ∀ {k m}, k ≤ m → hN V E k ≤ hN V E m := by
  intro k m
  induction m with
  | zero => intro h; obtain rfl : k = 0 := by omega
            exact Nat.le_refl _
  | succ m ih =>
    intro h
    by_cases e : k = m + 1
    · subst e; exact Nat.le_refl _
    · have := ih (by omega)
      show _ ≤ hN V E m + _
      omega
theorem hN_s {V : Nat → S_W} {E : Nat → Nat × Nat} {k : Nat} (hg : (V (E k).1).2.2.isSome = true) : hN V E (k + 1) = hN V E k + 1 := by show hN V E k + _ = _; rw [if_pos hg]
theorem hN_lt {V : Nat → S_W} {E : Nat → Nat × Nat} {k m : Nat} (h : k < m) (hg : (V (E k).1).2.2.isSome = true) : hN V E k < hN V E m := by
  have h1 := hN_mono (V := V) (E := E) (show k + 1 ≤ m by omega)
  rw [hN_s hg] at h1
  omega
theorem hN_up {V : Nat → S_W} {E : Nat → Nat × Nat} {c : Nat} {x : Nat × Nat} : ∀ k, k ≤ c → hN V (upG E c x) k = hN V E k
  | 0, _ => rfl
  | k + 1, h => by
    show hN V (upG E c x) k + _ = hN V E k + _
    rw [hN_up k (by omega), upG_n (by omega)]
theorem hN_find {V : Nat → S_W} {E : Nat → Nat × Nat} {i : Nat} : ∀ c, hN V E i < hN V E c → ∃ j, i ≤ j ∧ j < c ∧ (V (E j).1).2.2.isSome = true ∧ hN V E j = hN V E i
  | 0, h => absurd h (Nat.not_lt_zero _)
  | c + 1, h => by
    have hic : i ≤ c := by
      apply Classical.byContradiction
      intro q
      have := hN_mono (V := V) (E := E) (show c + 1 ≤ i by omega)
      omega
    by_cases e : hN V E i < hN V E c
    · obtain ⟨j, h1, h2, h3, h4⟩ := hN_find c e
      exact ⟨j, h1, by omega, h3, h4⟩
    · have hm := hN_mono (V := V) (E := E) hic
      refine ⟨c, hic, by omega, ?_, by omega⟩
      apply Classical.byContradiction
      intro q
      have : hN V E (c + 1) = hN V E c := by show hN V E c + _ = _; rw [if_neg q]; rfl
      omega
theorem hN_none {V : Nat → S_W} {E : Nat → Nat × Nat} {i c k : Nat} (h : hN V E c ≤ hN V E i) (h1 : i ≤ k) (h2 : k < c) : (V (E k).1).2.2 = none := by
  cases e : (V (E k).1).2.2 with
  | none => rfl
  | some w =>
    have h3 := hN_lt (V := V) (E := E) h2 (by rw [e]; rfl)
    have h4 := hN_mono (V := V) (E := E) h1
    omega
/-! bits: which figures stick -/
theorem bt_r {M w : Nat} (hM : M < 32) (hw : w < 5) : (((nI M >>> (nI w &&& 31)) &&& (1 : Int32)) = 1) = (M.testBit w = true) := by
  have h : ∀ M : Fin 32, ∀ w : Fin 5, decide (((nI M.1 >>> (nI w.1 &&& 31)) &&& (1 : Int32)) = 1) = M.1.testBit w.1 := by decide +kernel
  rw [← h ⟨M, hM⟩ ⟨w, hw⟩, decide_eq_true_eq]
theorem bt_o {M w : Nat} (hM : M < 32) (hw : w < 5) : nI M ||| ((1 : Int32) <<< (nI w &&& 31)) = nI (M ||| 2 ^ w) := by
  have h : ∀ M : Fin 32, ∀ w : Fin 5, nI M.1 ||| ((1 : Int32) <<< (nI w.1 &&& 31)) = nI (M.1 ||| 2 ^ w.1) := by decide +kernel
  exact h ⟨M, hM⟩ ⟨w, hw⟩
theorem bt_b {M w : Nat} (hM : M < 32) (hw : w < 5) : M ||| 2 ^ w < 32 := by
  have h : ∀ M : Fin 32, ∀ w : Fin 5, M.1 ||| 2 ^ w.1 < 32 := by decide +kernel
  exact h ⟨M, hM⟩ ⟨w, hw⟩
theorem bt_t {M w v : Nat} (hM : M < 32) (hw : w < 5) (hv : v < 5) : (M ||| 2 ^ w).testBit v = (decide (v = w) || M.testBit v) := by
  have h : ∀ M : Fin 32, ∀ w : Fin 5, ∀ v : Fin 5, (M.1 ||| 2 ^ w.1).testBit v.1 = (decide (v.1 = w.1) || M.1.testBit v.1) := by decide +kernel
  exact h ⟨M, hM⟩ ⟨w, hw⟩ ⟨v, hv⟩
/-- how the law holds what works have done -/
def PLx (I : Nat → Nat → Int32) (V : Nat → S_W) (nw a0 : Nat) (p : S_P) (M : Nat) : Prop :=
  (∀ d, d < 4 → I (a0 + 2) d = nI (pd p d)) ∧ (∀ w, w < nw → I (a0 + 3) w = nI (pt p w)) ∧ (∀ k, k < pf p → I (a0 + 4) k = nI (pg p k)) ∧ (∀ k, k < pc p → (V (pe p k).1).2.2.isSome = true → I (a0 + 1) (hN V (pe p) k) = nI (pe p k).2 ∧ I a0 (hN V (pe p) k) = oI (V (pe p k).1).2.2) ∧ M < 32 ∧ ∀ w, w < 5 → (M.testBit w = true ↔ pk p w = true)
def FP (a0 : Nat) (I I' : Nat → Nat → Int32) : Prop := ∀ b j, b < a0 → I' b j = I b j
theorem FP.tr {a0 : Nat} {I I' I'' : Nat → Nat → Int32} (h : FP a0 I I') (h' : FP a0 I' I'') : FP a0 I I'' := fun b j q => by rw [h' b j q, h b j q]
def PLs (s : Nat → Option pu_S) (ao a0 : Nat) : Prop := LSz s ao ∧ (s a0 = some (1, 0, 64) ∧ s (a0 + 1) = some (1, 0, 64) ∧ s (a0 + 2) = some (1, 0, 4) ∧ s (a0 + 3) = some (1, 0, 6) ∧ s (a0 + 4) = some (1, 0, 64)) ∧ 52 ≤ ao ∧ ao < a0
theorem nlit {a b : Nat} (h : ¬ a = OfNat.ofNat b) (ha : a < 2147483648) (hb : OfNat.ofNat b < 2147483648) : ¬ (nI a = (no_index (OfNat.ofNat b) : Int32)) := fun q => h ((nI_eq ha hb).mp q)
theorem oI_neg : (oI none < 0) = True := eq_true (by decide)
theorem oI_nneg {k : Nat} (h : k < 2147483648) : (nI k < 0) = False := eq_false (nI_pos h)
theorem oI_ge {k : Nat} (h : k < 2147483648) : ((0 : Int32) ≤ nI k) = True := eq_true (nI_pos' h)
theorem oI_nge : ((0 : Int32) ≤ -1) = False := eq_false (by decide)
section LP
variable {s : Nat → Option pu_S} {I : Nat → Nat → Int32} {P : Nat → Nat → Option Nat} {J : Nat → Nat → Int64} {n : Nat × Nat}
variable {L : Nat} {xs : Nat → Int32} {nw fc ao a0 sn t : Nat} {q : Option Nat} {V : Nat → S_W}
set_option maxHeartbeats 4000000 in
set_option maxRecDepth 100000 in
theorem l_1129 (hs : PLs s ao a0) (hV : ∀ i, i < nw → W_B i (V i)) (hnw : nw ≤ 5) (ht : t ≤ 95) {i : Nat} {v34 v35 : Int32} {k1032 : Option Nat → Option Nat → Option Nat → Option Nat → Int32 → Option Nat → Option Nat → Option Nat → Int32 → Option Nat → Int32 → Int32 → Option Nat → Option Nat → Int32 → Option Nat → Option Nat → Option Nat → Int32 → Int32 → Int32 → Int32 → Int32 → Int32 → Int32 → Int32 → Int32 → am_H → Option (Int32 × am_H)} {Q : Int32 × am_H → Prop} : ∀ (f N : Nat) (o : Option Nat) (p : S_P) (M B C : Nat) (I : Nat → Nat → Int32), hdN o ≤ f → f < N → (∀ w, o = some w → w < nw) → LWs I nw V → PLx I V nw a0 p M → P_L V nw t i B C p → C + hdN o ≤ 60 → B + f < 1000000 →
    (∀ I' M', FP a0 I I' → PLx I' V nw a0 (S_strike V t f o p) M' → Rn (k1032 (some 1) (some 40) (some 47) (some 48) (nI nw) (some 49) (some 50) (some 51) (nI fc) (some ao) (oI q) (nI sn) (some a0) (some (a0 + 1)) (nI (hN V (pe (S_strike V t f o p)) (pc (S_strike V t f o p)))) (some (a0 + 2)) (some (a0 + 3)) (some (a0 + 4)) (nI M') (nI (ps (S_strike V t f o p))) (nI (pf (S_strike V t f o p))) (oI ((p1 (S_strike V t f o p)).map fun x => x.1)) (oI ((p1 (S_strike V t f o p)).map fun x => x.2)) (nI (pb (S_strike V t f o p))) (nI t) v34 v35 (pu_hp s I' P J n)) Q) →
    Rn (fL_law_1129 L xs k1032 N (some 1) (some 40) (some 47) (some 48) (nI nw) (some 49) (some 50) (some 51) (nI fc) (some ao) (oI q) (nI sn) (some a0) (some (a0 + 1)) (nI (hN V (pe p) (pc p))) (some (a0 + 2)) (some (a0 + 3)) (some (a0 + 4)) (nI M) (nI (ps p)) (nI (pf p)) (oI ((p1 p).map fun x => x.1)) (oI ((p1 p).map fun x => x.2)) (nI (pb p)) (nI t) v34 v35 (oI o) (pu_hp s I P J n)) Q := by
  obtain ⟨⟨s40, s47, s48, s49, s50, s51, sao⟩, ⟨t0, t1, t2, t3, t4⟩, b1, b2⟩ := hs
  intro f
  induction f with
  | zero =>
    intro N o p M B C I hf hNf ho hw hp hL hC hB kk
    obtain ⟨N, rfl⟩ : ∃ N', N = N' + 1 := ⟨N - 1, by omega⟩
    cases o with
    | some w => exact absurd hf (by show ¬ w + 1 ≤ 0; omega)
    | none =>
      show Rn (fL_law_1129_b L xs k1032 (fL_law_1129 L xs k1032 N) _ _ _ _ _ _ _ _ _ _ _ _ _ _ _ _ _ _ _ _ _ _ _ _ _ _ _ _ _) _
      unfold fL_law_1129_b
      rw [if_pos (show oI none < 0 by decide)]
      exact kk I M (fun _ _ _ => rfl) hp
  | succ f ih =>
    intro N o p M B C I hf hNf ho hw hp hL hC hB kk
    obtain ⟨N, rfl⟩ : ∃ N', N = N' + 1 := ⟨N - 1, by omega⟩
    cases o with
    | none =>
      show Rn (fL_law_1129_b L xs k1032 (fL_law_1129 L xs k1032 N) _ _ _ _ _ _ _ _ _ _ _ _ _ _ _ _ _ _ _ _ _ _ _ _ _ _ _ _ _) _
      unfold fL_law_1129_b
      rw [if_pos (show oI none < 0 by decide)]
      exact kk I M (fun _ _ _ => rfl) hp
    | some w =>
    have hwn := ho w rfl
    obtain ⟨w1, w2, w3⟩ := hw w hwn
    obtain ⟨k1, k2, k3⟩ := hV w hwn
    obtain ⟨g1, g2, g3, g4, gM, g5⟩ := id hp
    obtain ⟨a1, a2⟩ := hL.st hV (show nw ≤ 10 by omega) hwn ht
    have hCw : C + (w + 1) ≤ 60 := hC
    have hlt : ∀ w', (V w).2.2 = some w' → w' < w := k3
    have hnx : hdN (V w).2.2 ≤ w := by
      cases e : (V w).2.2 with
      | none => exact Nat.zero_le _
      | some w' => have := hlt w' e; show w' + 1 ≤ w; omega
    have hPF := hL.2.2
    unfold P_F at hPF
    have hpd := hL.1.2.2.1.2
    have hpt := hL.1.2.1 w
    have hf' : w + 1 ≤ f + 1 := hf
    have e0 : oI (some w) = nI w := rfl
    -- what is left: the state behind the strike, and what is struck then
    have go : ∀ (p' : S_P) (I1 : Nat → Nat → Int32) (M1 : Nat), S_st V w t p = (p', true) → ¬ (V w).1 = 3 → FP a0 I I1 → PLx I1 V nw a0 p' M1 → Rn (fL_law_1129 L xs k1032 N (some 1) (some 40) (some 47) (some 48) (nI nw) (some 49) (some 50) (some 51) (nI fc) (some ao) (oI q) (nI sn) (some a0) (some (a0 + 1)) (nI (hN V (pe p') (pc p'))) (some (a0 + 2)) (some (a0 + 3)) (some (a0 + 4)) (nI M1) (nI (ps p')) (nI (pf p')) (oI ((p1 p').map fun x => x.1)) (oI ((p1 p').map fun x => x.2)) (nI (pb p')) (nI t) v34 v35 (oI (V w).2.2) (pu_hp s I1 P J n)) Q := by
      intro p' I1 M1 es e3 f1 hp1
      rw [if_neg e3, es] at a1
      have ek : S_strike V t (f + 1) (some w) p = S_strike V t f (V w).2.2 p' := by
        show (if (S_st V w t p).2 = true then S_strike V t f (V w).2.2 (S_st V w t p).1 else (S_st V w t p).1) = _
        rw [es]; rfl
      rw [ek] at kk
      exact ih N (V w).2.2 p' M1 (B + 1) (C + 1) I1 (by omega) (by omega) (fun w' e => by have := hlt w' e; omega) (hw.fr fun b j q1 q2 => f1 b j (by omega)) hp1 a1 (by omega) (by omega) (fun I' M' f2 h2 => kk I' M' (f1.tr f2) h2)
    have no : ∀ (p' : S_P) (I1 : Nat → Nat → Int32) (M1 : Nat), S_st V w t p = (p', false) → FP a0 I I1 → PLx I1 V nw a0 p' M1 → Rn (fL_law_1129 L xs k1032 N (some 1) (some 40) (some 47) (some 48) (nI nw) (some 49) (some 50) (some 51) (nI fc) (some ao) (oI q) (nI sn) (some a0) (some (a0 + 1)) (nI (hN V (pe p') (pc p'))) (some (a0 + 2)) (some (a0 + 3)) (some (a0 + 4)) (nI M1) (nI (ps p')) (nI (pf p')) (oI ((p1 p').map fun x => x.1)) (oI ((p1 p').map fun x => x.2)) (nI (pb p')) (nI t) v34 v35 (-1 : Int32) (pu_hp s I1 P J n)) Q := by
      intro p' I1 M1 es f1 hp1
      rw [es] at a1
      have ek : S_strike V t (f + 1) (some w) p = p' := by
        show (if (S_st V w t p).2 = true then S_strike V t f (V w).2.2 (S_st V w t p).1 else (S_st V w t p).1) = _
        rw [es]; rfl
      rw [ek] at kk
      have hcc : C + (if (V w).1 = 3 then w + 1 else 1) ≤ 60 := by split <;> omega
      refine ih N none p' M1 (B + 1) (C + (if (V w).1 = 3 then w + 1 else 1)) I1 (Nat.zero_le _) (by omega) (fun w' e => by cases e) (hw.fr fun b j q1 q2 => f1 b j (by omega)) hp1 a1 hcc (by omega) (fun I' M' f2 h2 => ?_)
      rw [S_strike_none] at h2 ⊢
      exact kk I' M' (f1.tr f2) h2
    show Rn (fL_law_1129_b L xs k1032 (fL_law_1129 L xs k1032 N) _ _ _ _ _ _ _ _ _ _ _ _ _ _ _ _ _ _ _ _ _ _ _ _ _ _ _ _ _) _
    rw [e0]
    unfold fL_law_1129_b
    rw [if_neg (nI_pos (show w < 2 ^ 31 by omega)), al_b (pu_okI s51 (by omega) (by omega)), w3, al_b (pu_okI s49 (by omega) (by omega)), w1]
    by_cases c1 : (V w).1 = 1
    · have es : S_st V w t p = (S_gong (V w).2.1 p, true) := if_pos c1
      rw [if_pos (by rw [c1]; rfl), al_b (pu_okI s50 (by omega) (by omega)), w2]
      unfold fL_law_1374
      have := go _ I M es (by omega) (fun _ _ _ => rfl) ⟨g1, g2, g3, g4, gM, g5⟩
      rw [nI_add, nI_add]
      exact this
    rw [if_neg (nlit c1 (by omega) (by decide)), al_b (pu_okI s49 (by omega) (by omega)), w1]
    by_cases c2 : (V w).1 = 2
    · have hn : (V w).2.1 ≤ 3 := by omega
      have es0 : S_st V w t p = (if pk p w = true then (p, false) else if pd p (V w).2.1 ≤ t then (S_fig w (V w).2.1 t p, true) else (S_stk w t p, false)) := by
        unfold S_st; rw [if_neg c1, if_pos c2]
      rw [if_pos (by rw [c2]; rfl)]
      by_cases c4 : pk p w = true
      · rw [if_pos (by rw [bt_r gM (by omega)]; exact (g5 w (by omega)).mpr c4)]
        rw [if_pos c4] at es0
        unfold fL_law_1374
        exact no p I M es0 (fun _ _ _ => rfl) hp
      · rw [if_neg (by rw [bt_r gM (by omega)]; exact fun z => c4 ((g5 w (by omega)).mp z))]
        rw [if_neg c4] at es0
        have ed := g1 (V w).2.1 (by omega)
        have hpdn := hpd (V w).2.1
        unfold fL_law_1192
        rw [al_b (pu_okI s49 (by omega) (by omega)), w1, if_pos (by rw [c2]; rfl), al_b (pu_okI s50 (by omega) (by omega)), w2, al_b (pu_okI t2 (by omega) (by omega)), ed]
        by_cases c5 : pd p (V w).2.1 ≤ t
        · rw [if_pos c5] at es0
          rw [if_pos ((nI_leI (by omega) (by omega)).mpr c5)]
          unfold fL_law_1257
          rw [al_b (pu_okI s49 (by omega) (by omega)), w1, if_pos (by rw [c2]; rfl), al_b (pu_okI s50 (by omega) (by omega)), w2, show nI t + (3 : Int32) = nI (t + 3) from nI_add t 3, as_b (pu_okI t2 (by omega) (by omega)), as_b (pu_okI t4 (by omega) (by omega)), nI_1]
          unfold fL_law_1374
          refine go _ _ M es0 (by omega) (fun b j hb => by rw [u_n (by omega), u_n (by omega)]) ⟨fun d hd => ?_, fun v hv => ?_, fun k hk => ?_, fun k hk hg => ?_, gM, g5⟩
          · show _ = nI (upG (pd p) (V w).2.1 (t + 3) d)
            rw [u_n (by omega)]
            by_cases e : d = (V w).2.1
            · subst e; rw [u_s, upG_s]
            · rw [u_n (by omega), upG_n e]; exact g1 d hd
          · rw [u_n (by omega), u_n (by omega)]; exact g2 v hv
          · have hk : k < pf p + 1 := hk
            show _ = nI (upG (pg p) (pf p) w k)
            by_cases e : k = pf p
            · subst e; rw [u_s, upG_s]
            · rw [u_n (by omega), u_n (by omega), upG_n e]; exact g3 k (by omega)
          · rw [u_n (by omega), u_n (by omega), u_n (by omega), u_n (by omega)]; exact g4 k hk hg
        · rw [if_neg c5] at es0
          rw [if_neg (fun z => c5 ((nI_leI (by omega) (by omega)).mp z)), bt_o gM (by omega)]
          have hp1 : PLx I V nw a0 (S_stk w t p) (M ||| 2 ^ w) := by
            refine ⟨g1, g2, g3, g4, bt_b gM (by omega), fun v hv => ?_⟩
            show _ ↔ upG (pk p) w true v = true
            rw [bt_t gM (by omega) hv]
            by_cases e : v = w
            · subst e; rw [upG_s]; simp
            · rw [upG_n e, decide_eq_false e, Bool.false_or]; exact g5 v hv
          have := no _ I _ es0 (fun _ _ _ => rfl) hp1
          unfold fL_law_1235 fL_law_1249 fL_law_1374
          cases ep : p1 p with
          | none =>
            rw [show oI ((none : Option (Nat × Nat)).map fun x => x.1) = (-1 : Int32) from rfl, if_neg (show ¬ (0 : Int32) ≤ -1 by decide), if_neg (show ¬ (0 : Int32) ≤ -1 by decide)]
            have e1 : p1 (S_stk w t p) = some (w, t) := by show (match p1 p with | none => some (w, t) | some x => some x) = _; rw [ep]
            rw [e1] at this
            exact this
          | some z =>
            have hz := hL.2.1.1 z ep
            rw [show oI ((some z).map fun x => x.1) = nI z.1 from rfl, show oI ((some z).map fun x => x.2) = nI z.2 from rfl, if_pos (nI_pos' (by omega)), if_pos (nI_pos' (by omega))]
            have e1 : p1 (S_stk w t p) = some z := by show (match p1 p with | none => some (w, t) | some x => some x) = _; rw [ep]
            rw [e1] at this
            exact this
    rw [if_neg (nlit c2 (by omega) (by decide))]
    unfold fL_law_1192
    rw [al_b (pu_okI s49 (by omega) (by omega)), w1, if_neg (nlit c2 (by omega) (by decide))]
    unfold fL_law_1257
    rw [al_b (pu_okI s49 (by omega) (by omega)), w1, if_neg (nlit c2 (by omega) (by decide)), al_b (pu_okI s49 (by omega) (by omega)), w1]
    by_cases c3 : (V w).1 = 3
    · have hn : 1 ≤ (V w).2.1 ∧ (V w).2.1 ≤ 9 := by omega
      have es : S_st V w t p = (S_turn w (V w).2.1 t p, false) := by unfold S_st; rw [if_neg c1, if_neg c2, if_pos c3]
      have hNc := hN_le (V := V) (E := pe p) (pc p)
      rw [if_pos (by rw [c3]; rfl)]
      unfold fL_law_1328
      cases ex : (V w).2.2 with
      | none =>
        rw [if_pos (show oI none < 0 by decide)]
        unfold fL_law_1374
        have hnc : hN V (pe (S_turn w (V w).2.1 t p)) (pc (S_turn w (V w).2.1 t p)) = hN V (pe p) (pc p) := by
          show hN V (upG (pe p) (pc p) (w, t + (V w).2.1)) (pc p) + (if (V (upG (pe p) (pc p) (w, t + (V w).2.1) (pc p)).1).2.2.isSome = true then 1 else 0) = _
          rw [hN_up _ (Nat.le_refl _), upG_s, ex]; rfl
        have hp1 : PLx I V nw a0 (S_turn w (V w).2.1 t p) M := by
          refine ⟨g1, g2, g3, fun k hk hg => ?_, gM, g5⟩
          have hk : k < pc p + 1 := hk
          have hg : (V (upG (pe p) (pc p) (w, t + (V w).2.1) k).1).2.2.isSome = true := hg
          show I (a0 + 1) (hN V (upG (pe p) (pc p) (w, t + (V w).2.1)) k) = nI (upG (pe p) (pc p) (w, t + (V w).2.1) k).2 ∧ I a0 (hN V (upG (pe p) (pc p) (w, t + (V w).2.1)) k) = oI (V (upG (pe p) (pc p) (w, t + (V w).2.1) k).1).2.2
          rw [hN_up k (by omega)]
          by_cases e : k = pc p
          · subst e
            rw [upG_s, ex] at hg
            cases hg
          · rw [upG_n e] at hg ⊢
            exact g4 k (by omega) hg
        have := no _ I M es (fun _ _ _ => rfl) hp1
        rw [hnc] at this
        exact this
      | some w' =>
        have hw' := hlt w' ex
        rw [show oI (some w') = nI w' from rfl, if_neg (nI_pos (by omega)), as_b (pu_okI t0 (by omega) (by omega)), al_b (pu_okI s50 (by omega) (by omega)), u_n (by omega), w2, nI_add, as_b (pu_okI t1 (by omega) (by omega)), nI_1]
        unfold fL_law_1374
        have hnc : hN V (pe (S_turn w (V w).2.1 t p)) (pc (S_turn w (V w).2.1 t p)) = hN V (pe p) (pc p) + 1 := by
          show hN V (upG (pe p) (pc p) (w, t + (V w).2.1)) (pc p) + (if (V (upG (pe p) (pc p) (w, t + (V w).2.1) (pc p)).1).2.2.isSome = true then 1 else 0) = _
          rw [hN_up _ (Nat.le_refl _), upG_s, ex]; rfl
        have hp1 : PLx (pu_u (pu_u I a0 (hN V (pe p) (pc p)) (nI w')) (a0 + 1) (hN V (pe p) (pc p)) (nI (t + (V w).2.1))) V nw a0 (S_turn w (V w).2.1 t p) M := by
          refine ⟨fun d hd => by rw [u_n (by omega), u_n (by omega)]; exact g1 d hd, fun v hv => by rw [u_n (by omega), u_n (by omega)]; exact g2 v hv, fun k hk => by rw [u_n (by omega), u_n (by omega)]; exact g3 k hk, fun k hk hg => ?_, gM, g5⟩
          have hk : k < pc p + 1 := hk
          have hg : (V (upG (pe p) (pc p) (w, t + (V w).2.1) k).1).2.2.isSome = true := hg
          show pu_u _ _ _ _ (a0 + 1) (hN V (upG (pe p) (pc p) (w, t + (V w).2.1)) k) = nI (upG (pe p) (pc p) (w, t + (V w).2.1) k).2 ∧ pu_u _ _ _ _ a0 (hN V (upG (pe p) (pc p) (w, t + (V w).2.1)) k) = oI (V (upG (pe p) (pc p) (w, t + (V w).2.1) k).1).2.2
          rw [hN_up k (by omega)]
          by_cases e : k = pc p
          · subst e
            rw [upG_s, u_s, u_n (by omega), u_s]
            refine ⟨rfl, ?_⟩
            show nI w' = oI (V w).2.2
            rw [ex]; rfl
          · rw [upG_n e] at hg ⊢
            have hlt2 := hN_lt (V := V) (E := pe p) (show k < pc p by omega) hg
            rw [u_n (by omega), u_n (by omega), u_n (by omega), u_n (by omega)]
            exact g4 k (by omega) hg
        have := no _ _ M es (fun b j hb => by rw [u_n (by omega), u_n (by omega)]) hp1
        rw [hnc] at this
        exact this
    rw [if_neg (nlit c3 (by omega) (by decide)), al_b (pu_okI s49 (by omega) (by omega)), w1]
    by_cases c4 : (V w).1 = 4
    · have hn : 2 ≤ (V w).2.1 ∧ (V w).2.1 ≤ 5 := by omega
      have es : S_st V w t p = (S_cnt w p, decide ((pt p w + 1) % (V w).2.1 = 0)) := by unfold S_st; rw [if_neg c1, if_neg c2, if_neg c3, if_pos c4]
      have ex := g2 w hwn
      have hmod := Nat.mod_lt (pt p w + 1) (show 0 < (V w).2.1 by omega)
      rw [if_pos (by rw [c4]; rfl), al_b (pu_okI t3 (by omega) (by omega)), ex, nI_1, as_b (pu_okI t3 (by omega) (by omega)), al_b (pu_okI t3 (by omega) (by omega)), u_s, al_b (pu_okI s50 (by omega) (by omega)), u_n (by omega), w2, if_neg (nI_ne0 (by omega) (by omega)), rem_n (by omega) (by omega) (by omega)]
      unfold fL_law_1372 fL_law_1374
      have hp1 : PLx (pu_u I (a0 + 3) w (nI (pt p w + 1))) V nw a0 (S_cnt w p) M := by
        refine ⟨fun d hd => by rw [u_n (by omega)]; exact g1 d hd, fun v hv => ?_, fun k hk => by rw [u_n (by omega)]; exact g3 k hk, fun k hk hg => by rw [u_n (by omega), u_n (by omega)]; exact g4 k hk hg, gM, g5⟩
        show _ = nI (upG (pt p) w (pt p w + 1) v)
        by_cases e : v = w
        · subst e; rw [u_s, upG_s]
        · rw [u_n (by omega), upG_n e]; exact g2 v hv
      by_cases c5 : (pt p w + 1) % (V w).2.1 = 0
      · rw [decide_eq_true c5] at es
        rw [if_pos (show nI ((pt p w + 1) % (V w).2.1) = 0 by rw [c5]; rfl)]
        exact go (S_cnt w p) _ M es c3 (fun b j hb => by rw [u_n (by omega)]) hp1
      · rw [decide_eq_false c5] at es
        rw [if_neg (nI_ne0 (by omega) (by omega))]
        exact no (S_cnt w p) _ M es (fun b j hb => by rw [u_n (by omega)]) hp1
    · have es : S_st V w t p = (p, true) := by unfold S_st; rw [if_neg c1, if_neg c2, if_neg c3, if_neg c4]
      rw [if_neg (nlit c4 (by omega) (by decide))]
      unfold fL_law_1374
      exact go p I M es c3 (fun _ _ _ => rfl) hp
end LP
