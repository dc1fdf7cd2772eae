/-! the law's works: a tick, a run -/
theorem hN_c {V : Nat → S_W} {E E' : Nat → Nat × Nat} : ∀ c, (∀ k, k < c → E' k = E k) → hN V E' c = hN V E c
  | 0, _ => rfl
  | c + 1, h => by
    show hN V E' c + _ = hN V E c + _
    rw [hN_c c (fun k hk => h k (by omega)), h c (by omega)]
section PG
variable {V : Nat → S_W} {nw t i B C c : Nat} {p : S_P}
theorem S_st_pb {w : Nat} : pb (S_st V w t p).1 = pb p := by
  unfold S_st
  split
  · rfl
  split
  · split
    · rfl
    · split <;> rfl
  split
  · rfl
  split <;> rfl
theorem S_strike_pb : ∀ (f : Nat) (o : Option Nat) (p : S_P), pb (S_strike V t f o p) = pb p
  | 0, _, _ => rfl
  | _ + 1, none, _ => rfl
  | f + 1, some w, p => by
    show pb (if (S_st V w t p).2 = true then _ else _) = _
    split
    · rw [S_strike_pb f, S_st_pb]
    · exact S_st_pb
/-- all from place c on are due later than t -/
def NLp (t c : Nat) (p : S_P) : Prop := ∀ k, c ≤ k → k < pc p → t < (pe p k).2
theorem NLp.st {w : Nat} (hw : W_B w (V w)) (h : NLp t c p) : NLp t c (S_st V w t p).1 := by
  unfold S_st
  split
  · exact h
  split
  · split
    · exact h
    · split <;> exact h
  split
  · rename_i c1 c2 c3
    intro k h1 h2
    have h2 : k < pc p + 1 := h2
    show t < (upG (pe p) (pc p) (w, t + (V w).2.1) k).2
    by_cases e : k = pc p
    · subst e; rw [upG_s]
      show t < t + (V w).2.1
      have := hw.2.1
      omega
    · rw [upG_n e]; exact h k h1 (by omega)
  split <;> exact h
theorem NLp.strike (hV : ∀ i, i < nw → W_B i (V i)) : ∀ (f : Nat) (o : Option Nat) (p : S_P), (∀ w, o = some w → w < nw) → NLp t c p → NLp t c (S_strike V t f o p)
  | 0, _, _, _, h => h
  | _ + 1, none, _, _, h => h
  | f + 1, some w, p, ho, h => by
    have hw := ho w rfl
    have a := NLp.st (hV w hw) h
    show NLp t c (if (S_st V w t p).2 = true then _ else _)
    split
    · exact NLp.strike hV f (V w).2.2 _ (fun w' e => by have := (hV w hw).2.2 w' e; omega) a
    · exact a
theorem S_due_skip : ∀ (d i m : Nat), (∀ k, i ≤ k → k < i + d → S_dst V t k p = p) → S_due V t (d + m) i p = S_due V t m (i + d) p
  | 0, i, m, _ => by rw [Nat.zero_add, Nat.add_zero]
  | d + 1, i, m, h => by
    rw [show d + 1 + m = (d + m) + 1 by omega, S_due_s, h i (Nat.le_refl _) (by omega), S_due_skip d (i + 1) m (fun k h1 h2 => h k (by omega) (by omega)), show i + 1 + d = i + (d + 1) by omega]
theorem S_dst_no {k : Nat} (h : (V (pe p k).1).2.2 = none ∨ ¬ (pe p k).2 = t) : S_dst V t k p = p := by
  unfold S_dst
  by_cases e : (pe p k).2 = t
  · rw [if_pos e]
    rcases h with h | h
    · rw [h]; exact S_strike_none
    · exact absurd e h
  · rw [if_neg e]
theorem S_due_pb : ∀ (m k : Nat) (p : S_P), pb (S_due V t m k p) = pb p
  | 0, _, _ => rfl
  | m + 1, k, p => by
    rw [S_due_s, S_due_pb m]
    unfold S_dst
    split
    · exact S_strike_pb 11 _ _
    · rfl
theorem S_bal_pb {hd : Option Nat} : ∀ (m : Nat) (p : S_P), pb (S_bal V t hd m p) = pb p + m
  | 0, _ => rfl
  | m + 1, p => by
    show pb (S_bal V t hd m (S_strike V t 11 hd (S_hit p))) = _
    rw [S_bal_pb m, S_strike_pb]
    show pb p + 1 + m = _
    omega
theorem P_L.due (hV : ∀ i, i < nw → W_B i (V i)) (hnw : nw ≤ 10) (ht : t ≤ 95) : ∀ (m k B : Nat) (p : S_P), k + m ≤ pc p → P_L V nw t k B C p → P_L V nw t (k + m) (B + 11 * m) C (S_due V t m k p)
  | 0, k, B, p, _, h => h
  | m + 1, k, B, p, hk, h => by
    have a := P_L.dst (k := k) hV hnw ht (by omega) h
    have hm : k + 1 + m ≤ pc (S_dst V t k p) := by
      have := (S_dst_e (V := V) (t := t) (j := k) (p := p) (k := k + m) (by omega)).1
      omega
    have b := P_L.due hV hnw ht m (k + 1) (B + 11) _ hm a
    rw [S_due_s, show k + (m + 1) = k + 1 + m by omega]
    exact b.w (by omega) (Nat.le_refl _)
theorem P_L.bal {hd : Option Nat} (hV : ∀ i, i < nw → W_B i (V i)) (hnw : nw ≤ 5) (ht : t ≤ 95) (hh : ∀ w, hd = some w → w < nw) : ∀ (m B C : Nat) (p : S_P), P_L V nw t i B C p → P_L V nw t i (B + 11 * m) (C + 5 * m) (S_bal V t hd m p)
  | 0, B, C, p, h => h
  | m + 1, B, C, p, h => by
    have a := P_L.strike (i := i) hV (show nw ≤ 10 by omega) ht 11 hd B C (S_hit p) hh h.hit
    have hl : hdN hd ≤ 5 := by
      cases hd with
      | none => exact Nat.zero_le _
      | some w => have := hh w rfl; show w + 1 ≤ 5; omega
    have b := P_L.bal hV hnw ht hh m (B + 11) (C + 5) _ (a.w (Nat.le_refl _) (by omega))
    exact b.w (by omega) (by omega)
theorem P_L.go {hd : Option Nat} {m : Nat} (hV : ∀ i, i < nw → W_B i (V i)) (hnw : nw ≤ 5) (ht : t ≤ 95) (hh : ∀ w, hd = some w → w < nw) (h : P_L V nw t 0 B C p) (hC : C + 5 * m ≤ 60) : P_L V nw (t + 1) 0 (B + 1500) (C + 5 * m) (S_go V t hd m p) := by
  have hpc := h.1.2.2.2.2
  have a := P_L.due hV (show nw ≤ 10 by omega) ht (pc p) 0 B p (by omega) h
  rw [Nat.zero_add] at a
  have b := P_L.bal hV hnw ht hh m _ C _ (a.ii (j := max 60 (pc p)) (by omega))
  have hb := b.1.2.2.2.2
  exact (b.tt (by show pc (S_bal V t hd m (S_due V t (pc p) 0 p)) ≤ _; omega)).w (by omega) (Nat.le_refl _)
theorem P_L.play {w : Nat} {hd : Option Nat} {K : S_K} {F : S_F} (hV : ∀ i, i < nw → W_B i (V i)) (hnw : nw ≤ 5) (hh : ∀ w, hd = some w → w < nw) (hK : S_KB K) (hF : S_FB F) : ∀ t, t ≤ 96 → P_L V nw t 0 (1500 * t) (5 * xdr (S_at K F w true t)) (S_play V hd (dm K F w) t) ∧ pb (S_play V hd (dm K F w) t) = xdr (S_at K F w true t)
  | 0, _ => ⟨⟨(P_0 (V := V) (nw := nw)).1, (P_0 (V := V) (nw := nw)).2, Nat.le_refl _⟩, rfl⟩
  | t + 1, ht => by
    obtain ⟨a, a1⟩ := P_L.play (w := w) hV hnw hh hK hF t (by omega)
    have hx := (S_at_b (w := w) (sip := true) hK hF (t + 1)).2.2.2.2.2.2.1
    have hm := xdr_mono (w := w) (t := t) hK hF
    have hnb := hK.2.2.2.2.2.1
    have hdm : dm K F w t = xdr (S_at K F w true (t + 1)) - xdr (S_at K F w true t) := rfl
    refine ⟨(P_L.go (m := dm K F w t) hV hnw (by omega) hh a (by omega)).w (by omega) (by omega), ?_⟩
    show pb (S_bal V t hd (dm K F w t) (S_due V t _ 0 _)) = _
    rw [S_bal_pb, S_due_pb, a1]
    omega
end PG
section LP
variable {s : Nat → Option pu_S} {I : Nat → Nat → Int32} {P : Nat → Nat → Option Nat} {J : Nat → Nat → Int64} {n : Nat × Nat}
variable {L : Nat} {xs : Nat → Int32} {nw fc ao a0 sn t : Nat} {q : Option Nat} {V : Nat → S_W}
set_option maxHeartbeats 4000000 in
set_option maxRecDepth 100000 in
theorem l_1040 (hs : PLs s ao a0) {p : S_P} {M B C i0 : Nat} (hp : PLx I V nw a0 p M) (hL : P_L V nw t i0 B C p) (hC : C ≤ 60) (ht : t ≤ 95) (hn5 : nw ≤ 5) (hV : ∀ i, i < nw → W_B i (V i)) {k1032 : Option Nat → Option Nat → Option Nat → Option Nat → Int32 → Option Nat → Option Nat → Option Nat → Int32 → Option Nat → Int32 → Int32 → Option Nat → Option Nat → Int32 → Option Nat → Option Nat → Option Nat → Int32 → Int32 → Int32 → Int32 → Int32 → Int32 → Int32 → Int32 → Int32 → am_H → Option (Int32 × am_H)} {Q : Int32 × am_H → Prop} : ∀ (m i N : Nat), i ≤ pc p → hN V (pe p) (pc p) ≤ hN V (pe p) i + m → m + 1 < N →
    (∀ j w', i ≤ j → j < pc p → (V (pe p j).1).2.2 = some w' → (pe p j).2 = t → (∀ k, i ≤ k → k < j → (V (pe p k).1).2.2 = none ∨ ¬ (pe p k).2 = t) → Rn (fL_law_1079 L xs k1032 (some 1) (some 40) (some 47) (some 48) (nI nw) (some 49) (some 50) (some 51) (nI fc) (some ao) (oI q) (nI sn) (some a0) (some (a0 + 1)) (nI (hN V (pe p) (pc p))) (some (a0 + 2)) (some (a0 + 3)) (some (a0 + 4)) (nI M) (nI (ps p)) (nI (pf p)) (oI ((p1 p).map fun x => x.1)) (oI ((p1 p).map fun x => x.2)) (nI (pb p)) (nI t) (nI (hN V (pe p) (j + 1))) (nI w') (pu_hp s I P J n)) Q) →
    ((∀ k, i ≤ k → k < pc p → (V (pe p k).1).2.2 = none ∨ ¬ (pe p k).2 = t) → Rn (fL_law_1079 L xs k1032 (some 1) (some 40) (some 47) (some 48) (nI nw) (some 49) (some 50) (some 51) (nI fc) (some ao) (oI q) (nI sn) (some a0) (some (a0 + 1)) (nI (hN V (pe p) (pc p))) (some (a0 + 2)) (some (a0 + 3)) (some (a0 + 4)) (nI M) (nI (ps p)) (nI (pf p)) (oI ((p1 p).map fun x => x.1)) (oI ((p1 p).map fun x => x.2)) (nI (pb p)) (nI t) (nI (hN V (pe p) (pc p))) (-1 : Int32) (pu_hp s I P J n)) Q) →
    Rn (fL_law_1040 L xs k1032 N (some 1) (some 40) (some 47) (some 48) (nI nw) (some 49) (some 50) (some 51) (nI fc) (some ao) (oI q) (nI sn) (some a0) (some (a0 + 1)) (nI (hN V (pe p) (pc p))) (some (a0 + 2)) (some (a0 + 3)) (some (a0 + 4)) (nI M) (nI (ps p)) (nI (pf p)) (oI ((p1 p).map fun x => x.1)) (oI ((p1 p).map fun x => x.2)) (nI (pb p)) (nI t) (nI (hN V (pe p) i)) (-1 : Int32) (pu_hp s I P J n)) Q := by
  obtain ⟨-, ⟨t0, t1, -⟩, -⟩ := hs
  obtain ⟨-, -, -, g4, -⟩ := id hp
  have hF := hL.2.2
  unfold P_F at hF
  have hNc := hN_le (V := V) (E := pe p) (pc p)
  have base : ∀ i N, i ≤ pc p → hN V (pe p) (pc p) ≤ hN V (pe p) i → ((∀ k, i ≤ k → k < pc p → (V (pe p k).1).2.2 = none ∨ ¬ (pe p k).2 = t) → Rn (fL_law_1079 L xs k1032 (some 1) (some 40) (some 47) (some 48) (nI nw) (some 49) (some 50) (some 51) (nI fc) (some ao) (oI q) (nI sn) (some a0) (some (a0 + 1)) (nI (hN V (pe p) (pc p))) (some (a0 + 2)) (some (a0 + 3)) (some (a0 + 4)) (nI M) (nI (ps p)) (nI (pf p)) (oI ((p1 p).map fun x => x.1)) (oI ((p1 p).map fun x => x.2)) (nI (pb p)) (nI t) (nI (hN V (pe p) (pc p))) (-1 : Int32) (pu_hp s I P J n)) Q) → Rn (fL_law_1040 L xs k1032 (N + 1) (some 1) (some 40) (some 47) (some 48) (nI nw) (some 49) (some 50) (some 51) (nI fc) (some ao) (oI q) (nI sn) (some a0) (some (a0 + 1)) (nI (hN V (pe p) (pc p))) (some (a0 + 2)) (some (a0 + 3)) (some (a0 + 4)) (nI M) (nI (ps p)) (nI (pf p)) (oI ((p1 p).map fun x => x.1)) (oI ((p1 p).map fun x => x.2)) (nI (pb p)) (nI t) (nI (hN V (pe p) i)) (-1 : Int32) (pu_hp s I P J n)) Q := by
    intro i N hi hm hnone
    have he : hN V (pe p) i = hN V (pe p) (pc p) := by have := hN_mono (V := V) (E := pe p) hi; omega
    show Rn (fL_law_1040_b L xs k1032 (fL_law_1040 L xs k1032 N) _ _ _ _ _ _ _ _ _ _ _ _ _ _ _ _ _ _ _ _ _ _ _ _ _ _ _ _) _
    unfold fL_law_1040_b
    rw [he, if_pos (Int32.le_refl _)]
    exact hnone (fun k h1 h2 => Or.inl (hN_none hm h1 h2))
  intro m
  induction m with
  | zero =>
    intro i N hi hm hNf hdue hnone
    obtain ⟨N, rfl⟩ : ∃ N', N = N' + 1 := ⟨N - 1, by omega⟩
    exact base i N hi hm hnone
  | succ m ih =>
    intro i N hi hm hNf hdue hnone
    obtain ⟨N, rfl⟩ : ∃ N', N = N' + 2 := ⟨N - 2, by omega⟩
    by_cases hlt : hN V (pe p) i < hN V (pe p) (pc p)
    · obtain ⟨j, j1, j2, j3, j4⟩ := hN_find (pc p) hlt
      obtain ⟨e1, e2⟩ := g4 j j2 j3
      have hdb := hL.2.1.2 j
      have hq := hL.1.2.2.2.1 j j2
      have hbe : ∀ k, i ≤ k → k < j → (V (pe p k).1).2.2 = none := fun k h1 h2 => hN_none (by omega) h1 h2
      show Rn (fL_law_1040_b L xs k1032 (fL_law_1040 L xs k1032 (N + 1)) _ _ _ _ _ _ _ _ _ _ _ _ _ _ _ _ _ _ _ _ _ _ _ _ _ _ _ _) _
      unfold fL_law_1040_b fL_law_1071
      rw [← j4, if_neg (fun z => by have := (nI_leI (by omega) (by omega)).mp z; omega), if_neg (show ¬ (0 : Int32) ≤ -1 by decide), al_b (pu_okI t1 (by omega) (by omega)), e1]
      by_cases hd : (pe p j).2 = t
      · rw [if_pos (by rw [hd]), al_b (pu_okI t0 (by omega) (by omega)), e2, nI_1, ← hN_s j3]
        cases ew : (V (pe p j).1).2.2 with
        | none => rw [ew] at j3; cases j3
        | some w' =>
          have hw' := (hV _ hq.1).2.2 w' ew
          have f := hdue j w' j1 j2 ew hd (fun k h1 h2 => Or.inl (hbe k h1 h2))
          show Rn (fL_law_1040_b L xs k1032 (fL_law_1040 L xs k1032 N) _ _ _ _ _ _ _ _ _ _ _ _ _ _ _ _ _ _ _ _ _ _ _ _ _ _ (nI w') _) _
          unfold fL_law_1040_b
          split
          · exact f
          · rw [if_pos (nI_pos' (by omega))]
            exact f
      · rw [if_neg (fun z => hd ((nI_eq (by omega) (by omega)).mp z)), nI_1, ← hN_s j3]
        refine ih (j + 1) (N + 1) (by omega) (by rw [hN_s j3]; omega) (by omega) (fun j' w' h1 h2 h3 h4 h5 => hdue j' w' (by omega) h2 h3 h4 (fun k k1 k2 => ?_)) (fun h => hnone (fun k k1 k2 => ?_))
        · by_cases e : k < j
          · exact Or.inl (hbe k k1 e)
          · by_cases e' : k = j
            · subst e'; exact Or.inr hd
            · exact h5 k (by omega) k2
        · by_cases e : k < j
          · exact Or.inl (hbe k k1 e)
          · by_cases e' : k = j
            · subst e'; exact Or.inr hd
            · exact h k (by omega) k2
    · exact base i (N + 1) hi (by omega) hnone
set_option maxHeartbeats 4000000 in
set_option maxRecDepth 100000 in
/-- a ball, or the end of the tick -/
theorem l_1117 (hw' : True) {p : S_P} {M : Nat} {v34 v36 : Int32} {k1032 : Option Nat → Option Nat → Option Nat → Option Nat → Int32 → Option Nat → Option Nat → Option Nat → Int32 → Option Nat → Int32 → Int32 → Option Nat → Option Nat → Int32 → Option Nat → Option Nat → Option Nat → Int32 → Int32 → Int32 → Int32 → Int32 → Int32 → Int32 → Int32 → Int32 → am_H → Option (Int32 × am_H)} {Q : Int32 × am_H → Prop} (h : (v36 < 0 → Rn (fL_law_1129 L xs k1032 am_fu (some 1) (some 40) (some 47) (some 48) (nI nw) (some 49) (some 50) (some 51) (nI fc) (some ao) (oI q) (nI sn) (some a0) (some (a0 + 1)) (nI (hN V (pe p) (pc p))) (some (a0 + 2)) (some (a0 + 3)) (some (a0 + 4)) (nI M) (nI (ps p)) (nI (pf p)) (oI ((p1 p).map fun x => x.1)) (oI ((p1 p).map fun x => x.2)) (nI (pb p)) (nI t) v34 (0 : Int32) v36 (pu_hp s I P J n)) Q) ∧ (¬ v36 < 0 → Rn (fL_law_1129 L xs k1032 am_fu (some 1) (some 40) (some 47) (some 48) (nI nw) (some 49) (some 50) (some 51) (nI fc) (some ao) (oI q) (nI sn) (some a0) (some (a0 + 1)) (nI (hN V (pe p) (pc p))) (some (a0 + 2)) (some (a0 + 3)) (some (a0 + 4)) (nI M) (nI (ps p)) (nI (pf p)) (oI ((p1 p).map fun x => x.1)) (oI ((p1 p).map fun x => x.2)) (nI (pb p)) (nI t) v34 (1 : Int32) v36 (pu_hp s I P J n)) Q)) : Rn (fL_law_1117 L xs (fL_law_1129 L xs k1032 am_fu) (some 1) (some 40) (some 47) (some 48) (nI nw) (some 49) (some 50) (some 51) (nI fc) (some ao) (oI q) (nI sn) (some a0) (some (a0 + 1)) (nI (hN V (pe p) (pc p))) (some (a0 + 2)) (some (a0 + 3)) (some (a0 + 4)) (nI M) (nI (ps p)) (nI (pf p)) (oI ((p1 p).map fun x => x.1)) (oI ((p1 p).map fun x => x.2)) (nI (pb p)) (nI t) v34 v36 (pu_hp s I P J n)) Q := by
  unfold fL_law_1117 fL_law_1127
  by_cases c : v36 < 0
  · rw [if_pos c]; exact h.1 c
  · rw [if_neg c]; exact h.2 c
def SG (V : Nat → S_W) (t c0 : Nat) (hd : Option Nat) (i mb : Nat) (p : S_P) : S_P := S_bal V t hd mb (S_due V t (c0 - i) i p)
set_option maxHeartbeats 4000000 in
set_option maxRecDepth 100000 in
theorem l_1032 (hs : PLs s ao a0) (hV : ∀ i, i < nw → W_B i (V i)) (hnw : nw ≤ 5) (ht : t ≤ 95) {K : S_K} {F : S_F} {w : Nat} (hK : S_KB K) (hF : S_FB F) {hd : Option Nat} (hh : ∀ w, hd = some w → w < nw) (hhd : nI nw - 1 = oI hd) {c0 : Nat} {k1019 : Option Nat → Option Nat → Option Nat → Option Nat → Int32 → Option Nat → Option Nat → Option Nat → Int32 → Option Nat → Int32 → Int32 → Option Nat → Option Nat → Int32 → Option Nat → Option Nat → Option Nat → Int32 → Int32 → Int32 → Int32 → Int32 → Int32 → Int32 → am_H → Option (Int32 × am_H)} {Q : Int32 × am_H → Prop} : ∀ (m i N mb : Nat) (p : S_P) (M B C : Nat) (I : Nat → Nat → Int32), (c0 - i) + mb ≤ m → m + 1 < N → i ≤ pc p → c0 ≤ pc p → NLp t c0 p → xdr (S_at K F w true t) ≤ pb p → pb p + mb = xdr (S_at K F w true (t + 1)) → LWs I nw V → I 40 4 = nI (knb K) → (∀ b, b < 12 → I ao b = nI (dN (S_at K F w true 96) b)) → PLx I V nw a0 p M → P_L V nw t i B C p → C + 5 * mb ≤ 60 → B + 11 * m + 11 < 1000000 →
    (∀ I' M', FP a0 I I' → PLx I' V nw a0 (SG V t c0 hd i mb p) M' → Rn (k1019 (some 1) (some 40) (some 47) (some 48) (nI nw) (some 49) (some 50) (some 51) (nI fc) (some ao) (oI q) (nI sn) (some a0) (some (a0 + 1)) (nI (hN V (pe (SG V t c0 hd i mb p)) (pc (SG V t c0 hd i mb p)))) (some (a0 + 2)) (some (a0 + 3)) (some (a0 + 4)) (nI M') (nI (ps (SG V t c0 hd i mb p))) (nI (pf (SG V t c0 hd i mb p))) (oI ((p1 (SG V t c0 hd i mb p)).map fun x => x.1)) (oI ((p1 (SG V t c0 hd i mb p)).map fun x => x.2)) (nI (pb (SG V t c0 hd i mb p))) (nI (t + 1)) (pu_hp s I' P J n)) Q) →
    Rn (fL_law_1032 L xs k1019 N (some 1) (some 40) (some 47) (some 48) (nI nw) (some 49) (some 50) (some 51) (nI fc) (some ao) (oI q) (nI sn) (some a0) (some (a0 + 1)) (nI (hN V (pe p) (pc p))) (some (a0 + 2)) (some (a0 + 3)) (some (a0 + 4)) (nI M) (nI (ps p)) (nI (pf p)) (oI ((p1 p).map fun x => x.1)) (oI ((p1 p).map fun x => x.2)) (nI (pb p)) (nI t) (nI (hN V (pe p) i)) (1 : Int32) (pu_hp s I P J n)) Q := by
  have hs0 := hs
  obtain ⟨⟨s40, s47, s48, s49, s50, s51, sao⟩, ⟨t0, t1, t2, t3, t4⟩, b1, b2⟩ := hs
  have hnb := hK.2.2.2.2.2.1
  have hx1 := (S_at_b (w := w) (sip := true) hK hF (t + 1)).2.2.2.2.2.2.1
  have hDn := dN_iff (w := w) hK hF (show t < 96 by omega)
  have hDle := fun b => dN_le (S_at_b (w := w) (sip := true) hK hF 96) (Nat.le_refl _) b
  intro m
  induction m with
  | zero =>
    intro i N mb p M B C I hm hNf hip hcp hnl hp1 hp2 hw h40 hao hp hL hC hB kk
    obtain ⟨N, rfl⟩ : ∃ N', N = N' + 2 := ⟨N - 2, by omega⟩
    obtain rfl : mb = 0 := by omega
    have hNc := hN_le (V := V) (E := pe p) (pc p)
    have hFF := hL.2.2
    unfold P_F at hFF
    show Rn (fL_law_1032_b L xs k1019 (fL_law_1032 L xs k1019 (N + 1)) _ _ _ _ _ _ _ _ _ _ _ _ _ _ _ _ _ _ _ _ _ _ _ _ _ _ _ _) _
    unfold fL_law_1032_b
    rw [if_neg (show ¬ (1 : Int32) = 0 by decide)]
    refine l_1040 hs0 hp hL (by omega) ht hnw hV (pc p) i am_fu hip (by omega) (by unfold am_fu; omega) (fun j w' h1 h2 h3 h4 _ => ?_) (fun hno => ?_)
    · have := hnl j (by omega) h2; omega
    · have hSG : SG V t c0 hd i 0 p = p := by unfold SG; rw [show c0 - i = 0 by omega]; rfl
      rw [hSG] at kk
      have fin : Rn (fL_law_1117 L xs (fL_law_1129 L xs (fL_law_1032 L xs k1019 (N + 1)) am_fu) (some 1) (some 40) (some 47) (some 48) (nI nw) (some 49) (some 50) (some 51) (nI fc) (some ao) (oI q) (nI sn) (some a0) (some (a0 + 1)) (nI (hN V (pe p) (pc p))) (some (a0 + 2)) (some (a0 + 3)) (some (a0 + 4)) (nI M) (nI (ps p)) (nI (pf p)) (oI ((p1 p).map fun x => x.1)) (oI ((p1 p).map fun x => x.2)) (nI (pb p)) (nI t) (nI (hN V (pe p) (pc p))) (-1 : Int32) (pu_hp s I P J n)) Q := by
        refine l_1117 trivial ⟨fun _ => ?_, fun z => absurd (show (-1 : Int32) < 0 by decide) z⟩
        show Rn (fL_law_1129_b L xs _ (fL_law_1129 L xs _ 99999) _ _ _ _ _ _ _ _ _ _ _ _ _ _ _ _ _ _ _ _ _ _ _ _ _ _ _ _ _) _
        unfold fL_law_1129_b
        rw [if_pos (show (-1 : Int32) < 0 by decide)]
        show Rn (fL_law_1032_b L xs k1019 (fL_law_1032 L xs k1019 N) _ _ _ _ _ _ _ _ _ _ _ _ _ _ _ _ _ _ _ _ _ _ _ _ _ _ _ _) _
        unfold fL_law_1032_b
        rw [if_pos rfl, nI_1]
        exact kk I M (fun _ _ _ => rfl) hp
      unfold fL_law_1079
      rw [if_neg (show ¬ (0 : Int32) ≤ -1 by decide), al_l (pu_okI s40 (by decide) (by decide)), show I 40 4 = nI (knb K) from h40]
      by_cases c1 : knb K ≤ pb p
      · rw [if_pos ((nI_leI (by omega) (by omega)).mpr c1)]
        exact fin
      · rw [if_neg (fun z => c1 ((nI_leI (by omega) (by omega)).mp z)), al_b (pu_okI sao (by omega) (by omega)), hao _ (by omega)]
        have hne : ¬ dN (S_at K F w true 96) (pb p) = t := fun z => by
          have := (hDn (pb p)).mp z; omega
        have := hDle (pb p)
        rw [if_neg (fun z => hne ((nI_eq (by omega) (by omega)).mp z))]
        exact fin
  | succ m ih =>
    intro i N mb p M B C I hm hNf hip hcp hnl hp1 hp2 hw h40 hao hp hL hC hB kk
    obtain ⟨N, rfl⟩ : ∃ N', N = N' + 2 := ⟨N - 2, by omega⟩
    have hNc := hN_le (V := V) (E := pe p) (pc p)
    have hFF := hL.2.2
    unfold P_F at hFF
    have hlen : pc p ≤ 60 := by omega
    show Rn (fL_law_1032_b L xs k1019 (fL_law_1032 L xs k1019 (N + 1)) _ _ _ _ _ _ _ _ _ _ _ _ _ _ _ _ _ _ _ _ _ _ _ _ _ _ _ _) _
    unfold fL_law_1032_b
    rw [if_neg (show ¬ (1 : Int32) = 0 by decide)]
    refine l_1040 hs0 hp hL (by omega) ht hnw hV (pc p) i am_fu hip (by omega) (by unfold am_fu; omega) (fun j w' h1 h2 h3 h4 h5 => ?_) (fun hno => ?_)
    · -- a crank is due
      have hjc : j < c0 := by
        apply Classical.byContradiction
        intro z
        have := hnl j (by omega) h2; omega
      have hq := hL.1.2.2.2.1 j h2
      have hww := (hV _ hq.1).2.2 w' h3
      have hLj := hL.ii h1
      have e1 : S_dst V t j p = S_strike V t 11 (some w') p := by unfold S_dst; rw [if_pos h4, h3]
      have hLd := P_L.dst (k := j) hV (show nw ≤ 10 by omega) ht h2 hLj
      have hSG : SG V t c0 hd i mb p = SG V t c0 hd (j + 1) mb (S_strike V t 11 (some w') p) := by
        unfold SG
        rw [show c0 - i = (j - i) + (c0 - j) by omega, S_due_skip (j - i) i (c0 - j) (fun k k1 k2 => S_dst_no (h5 k k1 (by omega))), show i + (j - i) = j by omega, show c0 - j = (c0 - (j + 1)) + 1 by omega, S_due_s, e1]
      rw [hSG] at kk
      have hse : ∀ k, k < pc p → k < pc (S_strike V t 11 (some w') p) ∧ pe (S_strike V t 11 (some w') p) k = pe p k := fun k hk => S_strike_e 11 (some w') p k hk
      have hpcle : j + 1 ≤ pc (S_strike V t 11 (some w') p) := by have := (hse j h2).1; omega
      have hpcle2 : c0 ≤ pc (S_strike V t 11 (some w') p) := by have := (hse (c0 - 1) (by omega)).1; omega
      have ehN : hN V (pe (S_strike V t 11 (some w') p)) (j + 1) = hN V (pe p) (j + 1) := hN_c (j + 1) (fun k hk => (hse k (by omega)).2)
      unfold fL_law_1079
      rw [if_pos (nI_pos' (by omega))]
      refine l_1117 trivial ⟨fun z => absurd z (nI_pos (by omega)), fun _ => ?_⟩
      -- the crank's own entry is used up: room for the strike
      rw [e1] at hLd
      have hD := S_D_s (t := t) (i := j) (E := pe p) (pc p) h2
      rw [if_pos h4] at hD
      have hF3 := hLj.2.2
      unfold P_F at hF3
      have hB3 := hLj.1.2.2.2.2
      have hLs : P_L V nw t (j + 1) B (C - (pe p j).1) p := ⟨⟨hL.1.1, hL.1.2.1, hL.1.2.2.1, hL.1.2.2.2.1, by omega⟩, hL.2.1, by unfold P_F; omega⟩
      have hpj : (pe p j).1 ≤ C := by omega
      refine l_1129 (o := some w') hs0 hV hnw ht 11 am_fu p M B (C - (pe p j).1) I (by show w' + 1 ≤ 11; omega) (by unfold am_fu; omega) (fun w2 e => by cases e; omega) hw hp hLs (by show C - _ + (w' + 1) ≤ 60; omega) (by omega) (fun I' M' f1 g1 => ?_)
      rw [← ehN]
      exact ih (j + 1) (N + 1) mb (S_strike V t 11 (some w') p) M' (B + 11) C I' (by omega) (by omega) hpcle hpcle2 (NLp.strike hV 11 (some w') p (fun w2 e => by cases e; omega) hnl) (by rw [S_strike_pb]; exact hp1) (by rw [S_strike_pb]; exact hp2) (hw.fr fun b j q1 q2 => f1 b j (by omega)) (by rw [f1 _ _ (by omega)]; exact h40) (fun b hb => by rw [f1 _ _ (by omega)]; exact hao b hb) g1 hLd hC (by omega) (fun I2 M2 f2 g2 => kk I2 M2 (f1.tr f2) g2)
    · -- no crank is due
      have hdn : S_due V t (c0 - i) i p = p := by
        have := S_due_skip (V := V) (t := t) (p := p) (c0 - i) i 0 (fun k k1 k2 => S_dst_no (hno k k1 (by omega)))
        exact this
      have fin : mb = 0 → Rn (fL_law_1117 L xs (fL_law_1129 L xs (fL_law_1032 L xs k1019 (N + 1)) am_fu) (some 1) (some 40) (some 47) (some 48) (nI nw) (some 49) (some 50) (some 51) (nI fc) (some ao) (oI q) (nI sn) (some a0) (some (a0 + 1)) (nI (hN V (pe p) (pc p))) (some (a0 + 2)) (some (a0 + 3)) (some (a0 + 4)) (nI M) (nI (ps p)) (nI (pf p)) (oI ((p1 p).map fun x => x.1)) (oI ((p1 p).map fun x => x.2)) (nI (pb p)) (nI t) (nI (hN V (pe p) (pc p))) (-1 : Int32) (pu_hp s I P J n)) Q := by
        intro hmb
        have hSG : SG V t c0 hd i mb p = p := by unfold SG; rw [hdn, hmb]; rfl
        rw [hSG] at kk
        refine l_1117 trivial ⟨fun _ => ?_, fun z => absurd (show (-1 : Int32) < 0 by decide) z⟩
        show Rn (fL_law_1129_b L xs _ (fL_law_1129 L xs _ 99999) _ _ _ _ _ _ _ _ _ _ _ _ _ _ _ _ _ _ _ _ _ _ _ _ _ _ _ _ _) _
        unfold fL_law_1129_b
        rw [if_pos (show (-1 : Int32) < 0 by decide)]
        show Rn (fL_law_1032_b L xs k1019 (fL_law_1032 L xs k1019 N) _ _ _ _ _ _ _ _ _ _ _ _ _ _ _ _ _ _ _ _ _ _ _ _ _ _ _ _) _
        unfold fL_law_1032_b
        rw [if_pos rfl, nI_1]
        exact kk I M (fun _ _ _ => rfl) hp
      unfold fL_law_1079
      rw [if_neg (show ¬ (0 : Int32) ≤ -1 by decide), al_l (pu_okI s40 (by decide) (by decide)), show I 40 4 = nI (knb K) from h40]
      by_cases c1 : knb K ≤ pb p
      · rw [if_pos ((nI_leI (by omega) (by omega)).mpr c1)]
        exact fin (by omega)
      · rw [if_neg (fun z => c1 ((nI_leI (by omega) (by omega)).mp z)), al_b (pu_okI sao (by omega) (by omega)), hao _ (by omega)]
        have hle := hDle (pb p)
        by_cases hmb : mb = 0
        · have hne : ¬ dN (S_at K F w true 96) (pb p) = t := fun z => by
            have := (hDn (pb p)).mp z; omega
          rw [if_neg (fun z => hne ((nI_eq (by omega) (by omega)).mp z))]
          exact fin hmb
        · obtain ⟨mb, rfl⟩ : ∃ m', mb = m' + 1 := ⟨mb - 1, by omega⟩
          have hde : dN (S_at K F w true 96) (pb p) = t := (hDn (pb p)).mpr ⟨hp1, by omega⟩
          rw [if_pos (by rw [hde]), nI_1, hhd]
          have hl5 : hdN hd ≤ 5 := by
            cases hd with
            | none => exact Nat.zero_le _
            | some w2 => have := hh w2 rfl; show w2 + 1 ≤ 5; omega
          have hLp := hL.ii hip
          have hLh : P_L V nw t (pc p) B C (S_hit p) := hLp
          have hLb := (P_L.strike (i := pc p) hV (show nw ≤ 10 by omega) ht 11 hd B C (S_hit p) hh hLh).w (Nat.le_refl (B + 11)) (show C + hdN hd ≤ C + 5 by omega)
          have hse : ∀ k, k < pc p → k < pc (S_strike V t 11 hd (S_hit p)) ∧ pe (S_strike V t 11 hd (S_hit p)) k = pe p k := fun k hk => S_strike_e 11 hd (S_hit p) k hk
          have hpcle : pc p ≤ pc (S_strike V t 11 hd (S_hit p)) := by
            by_cases z : pc p = 0
            · omega
            · have := (hse (pc p - 1) (by omega)).1; omega
          have ehN : hN V (pe (S_strike V t 11 hd (S_hit p))) (pc p) = hN V (pe p) (pc p) := hN_c (pc p) (fun k hk => (hse k hk).2)
          have hSG : SG V t c0 hd i (mb + 1) p = SG V t c0 hd (pc p) mb (S_strike V t 11 hd (S_hit p)) := by
            unfold SG
            rw [hdn, show c0 - pc p = 0 by omega]; rfl
          rw [hSG] at kk
          have hph : PLx I V nw a0 (S_hit p) M := hp
          refine l_1129 (o := hd) hs0 hV hnw ht 11 am_fu (S_hit p) M B C I (by omega) (by unfold am_fu; omega) hh hw hph hLh (by omega) (by omega) (fun I' M' f1 g1 => ?_)
          rw [← ehN]
          exact ih (pc p) (N + 1) mb (S_strike V t 11 hd (S_hit p)) M' (B + 11) (C + 5) I' (by omega) (by omega) hpcle (by omega) (NLp.strike hV 11 hd (S_hit p) hh hnl) (by rw [S_strike_pb]; show _ ≤ pb p + 1; omega) (by rw [S_strike_pb]; show pb p + 1 + mb = _; omega) (hw.fr fun b j q1 q2 => f1 b j (by omega)) (by rw [f1 _ _ (by omega)]; exact h40) (fun b hb => by rw [f1 _ _ (by omega)]; exact hao b hb) g1 hLb (by omega) (by omega) (fun I2 M2 f2 g2 => kk I2 M2 (f1.tr f2) g2)
end LP
