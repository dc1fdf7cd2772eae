/-! what works do: the spec -/
/-- strokes, balls struck, how many came out, which, stuck, the first that stuck with its tick, times struck, doors free from, cranks struck, each with its tick -/
abbrev S_P : Type := Nat × Nat × Nat × (Nat → Nat) × (Nat → Bool) × Option (Nat × Nat) × (Nat → Nat) × (Nat → Nat) × Nat × (Nat → Nat × Nat)
def ps (p : S_P) : Nat := p.1
def pb (p : S_P) : Nat := p.2.1
def pf (p : S_P) : Nat := p.2.2.1
def pg (p : S_P) : Nat → Nat := p.2.2.2.1
def pk (p : S_P) : Nat → Bool := p.2.2.2.2.1
def p1 (p : S_P) : Option (Nat × Nat) := p.2.2.2.2.2.1
def pt (p : S_P) : Nat → Nat := p.2.2.2.2.2.2.1
def pd (p : S_P) : Nat → Nat := p.2.2.2.2.2.2.2.1
def pc (p : S_P) : Nat := p.2.2.2.2.2.2.2.2.1
def pe (p : S_P) : Nat → Nat × Nat := p.2.2.2.2.2.2.2.2.2
def upG {α : Type} (f : Nat → α) (k : Nat) (x : α) : Nat → α := fun j => if j = k then x else f j
theorem upG_s {α : Type} {f : Nat → α} {k : Nat} {x : α} : upG f k x k = x := if_pos rfl
theorem upG_n {α : Type} {f : Nat → α} {k j : Nat} {x : α} (h : ¬ j = k) : upG f k x j = f j := if_neg h
def S_gong (n : Nat) (p : S_P) : S_P := (ps p + (pb p + n), pb p, pf p, pg p, pk p, p1 p, pt p, pd p, pc p, pe p)
def S_fig (w n t : Nat) (p : S_P) : S_P := (ps p, pb p, pf p + 1, upG (pg p) (pf p) w, pk p, p1 p, pt p, upG (pd p) n (t + 3), pc p, pe p)
def S_stk (w t : Nat) (p : S_P) : S_P := (ps p, pb p, pf p, pg p, upG (pk p) w true, (match p1 p with | none => some (w, t) | some x => some x), pt p, pd p, pc p, pe p)
def S_turn (w n t : Nat) (p : S_P) : S_P := (ps p, pb p, pf p, pg p, pk p, p1 p, pt p, pd p, pc p + 1, upG (pe p) (pc p) (w, t + n))
def S_cnt (w : Nat) (p : S_P) : S_P := (ps p, pb p, pf p, pg p, pk p, p1 p, upG (pt p) w (pt p w + 1), pd p, pc p, pe p)
def S_hit (p : S_P) : S_P := (ps p, pb p + 1, pf p, pg p, pk p, p1 p, pt p, pd p, pc p, pe p)
def S_st (V : Nat → S_W) (w t : Nat) (p : S_P) : S_P × Bool :=
  if (V w).1 = 1 then (S_gong (V w).2.1 p, true)
  else if (V w).1 = 2 then (if pk p w = true then (p, false) else if pd p (V w).2.1 ≤ t then (S_fig w (V w).2.1 t p, true) else (S_stk w t p, false))
  else if (V w).1 = 3 then (S_turn w (V w).2.1 t p, false)
  else if (V w).1 = 4 then (S_cnt w p, decide ((pt p w + 1) % (V w).2.1 = 0))
  else (p, true)
def S_strike (V : Nat → S_W) (t : Nat) : Nat → Option Nat → S_P → S_P
  | 0, _, p => p
  | _ + 1, none, p => p
  | f + 1, some w, p => if (S_st V w t p).2 = true then S_strike V t f (V w).2.2 (S_st V w t p).1 else (S_st V w t p).1
def S_due (V : Nat → S_W) (t : Nat) : Nat → Nat → S_P → S_P
  | 0, _, p => p
  | m + 1, k, p => S_due V t m (k + 1) (if (pe p k).2 = t then S_strike V t 11 (V (pe p k).1).2.2 p else p)
def S_bal (V : Nat → S_W) (t : Nat) (hd : Option Nat) : Nat → S_P → S_P
  | 0, p => p
  | m + 1, p => S_bal V t hd m (S_strike V t 11 hd (S_hit p))
def S_go (V : Nat → S_W) (t : Nat) (hd : Option Nat) (m : Nat) (p : S_P) : S_P := S_bal V t hd m (S_due V t (pc p) 0 p)
def S_p0 : S_P := (0, 0, 0, fun _ => 0, fun _ => false, none, fun _ => 0, fun _ => 0, 0, fun _ => (0, 0))
/-- behind t ticks; m: how many balls drop on each -/
def S_play (V : Nat → S_W) (hd : Option Nat) (m : Nat → Nat) : Nat → S_P
  | 0 => S_p0
  | t + 1 => S_go V t hd (m t) (S_play V hd m t)
/-! what holds of it -/
/-- what cranks still may do: at place i of tick t -/
def S_D (t i : Nat) (E : Nat → Nat × Nat) : Nat → Nat
  | 0 => 0
  | c + 1 => S_D t i E c + (if t < (E c).2 ∨ (t = (E c).2 ∧ i ≤ c) then (E c).1 else 0)
theorem S_D_up {t i : Nat} {E : Nat → Nat × Nat} {k : Nat} {x : Nat × Nat} : ∀ c, c ≤ k → S_D t i (upG E k x) c = S_D t i E c
  | 0, _ => rfl
  | c + 1, h => by
    show S_D t i (upG E k x) c + _ = S_D t i E c + _
    rw [S_D_up c (by omega), upG_n (by omega)]
theorem S_D_i {t i : Nat} {E : Nat → Nat × Nat} : ∀ c, c ≤ i → S_D t (i + 1) E c = S_D t i E c
  | 0, _ => rfl
  | c + 1, h => by
    show S_D t (i + 1) E c + _ = S_D t i E c + _
    rw [S_D_i c (by omega)]
    congr 1
    by_cases e : t < (E c).2
    · rw [if_pos (Or.inl e), if_pos (Or.inl e)]
    · rw [if_neg (by omega), if_neg (by omega)]
theorem S_D_s {t i : Nat} {E : Nat → Nat × Nat} : ∀ c, i < c → S_D t i E c = S_D t (i + 1) E c + (if (E i).2 = t then (E i).1 else 0)
  | 0, h => by omega
  | c + 1, h => by
    show S_D t i E c + _ = S_D t (i + 1) E c + _ + _
    by_cases e : i = c
    · subst e
      rw [S_D_i i (Nat.le_refl _)]
      by_cases e2 : t < (E i).2
      · rw [if_pos (Or.inl e2), if_pos (Or.inl e2), if_neg (by omega)]; omega
      · by_cases e3 : (E i).2 = t
        · rw [if_pos (Or.inr ⟨e3.symm, Nat.le_refl _⟩), if_neg (by omega), if_pos e3]; omega
        · rw [if_neg (by omega), if_neg (by omega), if_neg e3]
    · rw [S_D_s c (by omega)]
      have e1 : (t < (E c).2 ∨ (t = (E c).2 ∧ i ≤ c)) ↔ (t < (E c).2 ∨ (t = (E c).2 ∧ i + 1 ≤ c)) := by omega
      have e2 : (if t < (E c).2 ∨ (t = (E c).2 ∧ i ≤ c) then (E c).1 else 0) = (if t < (E c).2 ∨ (t = (E c).2 ∧ i + 1 ≤ c) then (E c).1 else 0) := by
        by_cases e3 : t < (E c).2 ∨ (t = (E c).2 ∧ i ≤ c)
        · rw [if_pos e3, if_pos (e1.mp e3)]
        · rw [if_neg e3, if_neg (fun q => e3 (e1.mpr q))]
      rw [e2]; omega
theorem S_D_t {t i : Nat} {E : Nat → Nat × Nat} : ∀ c, c ≤ i → S_D (t + 1) 0 E c ≤ S_D t i E c
  | 0, _ => Nat.le_refl _
  | c + 1, h => by
    show S_D (t + 1) 0 E c + _ ≤ S_D t i E c + _
    have := S_D_t (t := t) (i := i) (E := E) c (by omega)
    by_cases e : t + 1 ≤ (E c).2
    · rw [if_pos (show t < (E c).2 ∨ _ from Or.inl (by omega)), if_pos (by omega)]; omega
    · rw [if_neg (by omega)]; omega
def S_d4 (d : Nat → Nat) : Nat := d 0 / 3 + d 1 / 3 + d 2 / 3 + d 3 / 3
/-- B bounds the times, C the cranks -/
def P_B (V : Nat → S_W) (nw t i B C : Nat) (p : S_P) : Prop := (∀ w, pk p w = true → (V w).1 = 2) ∧ (∀ w, pt p w ≤ B) ∧ (pf p ≤ S_d4 (pd p) ∧ ∀ d, pd p d ≤ 98) ∧ (∀ k, k < pc p → (pe p k).1 < nw ∧ (V (pe p k).1).1 = 3) ∧ pc p + S_D t i (pe p) (pc p) ≤ C
theorem S_d4_up {d : Nat → Nat} {n t : Nat} (hn : n ≤ 3) (h : d n ≤ t) : S_d4 d + 1 ≤ S_d4 (upG d n (t + 3)) := by
  unfold S_d4
  have h4 : n = 0 ∨ n = 1 ∨ n = 2 ∨ n = 3 := by omega
  rcases h4 with rfl | rfl | rfl | rfl
  · rw [upG_s, upG_n (by omega), upG_n (by omega), upG_n (by omega)]; omega
  · rw [upG_s, upG_n (by omega), upG_n (by omega), upG_n (by omega)]; omega
  · rw [upG_s, upG_n (by omega), upG_n (by omega), upG_n (by omega)]; omega
  · rw [upG_s, upG_n (by omega), upG_n (by omega), upG_n (by omega)]; omega
theorem S_d4_lt {d : Nat → Nat} {n t : Nat} (hn : n ≤ 3) (h : d n ≤ t) (ht : t ≤ 95) (hd : ∀ k, d k ≤ 98) : S_d4 d ≤ 127 := by
  unfold S_d4
  have h0 := hd 0
  have h1 := hd 1
  have h2 := hd 2
  have h3 := hd 3
  have h4 : n = 0 ∨ n = 1 ∨ n = 2 ∨ n = 3 := by omega
  rcases h4 with rfl | rfl | rfl | rfl <;> omega
theorem S_st_b {V : Nat → S_W} {nw w t i B C : Nat} {p : S_P} (hV : ∀ i, i < nw → W_B i (V i)) (hw : w < nw) (ht : t ≤ 95) (h : P_B V nw t i B C p) : P_B V nw t i (B + 1) (if (V w).1 = 3 then C + (w + 1) else C) (S_st V w t p).1 ∧ ((V w).1 = 3 → (S_st V w t p).2 = false) := by
  obtain ⟨h1, h2, ⟨h3, h3'⟩, h4, h5⟩ := h
  obtain ⟨k1, k2, k3⟩ := hV w hw
  have h2' : ∀ x, pt p x ≤ B + 1 := fun x => Nat.le_succ_of_le (h2 x)
  unfold S_st
  by_cases e1 : (V w).1 = 1
  · rw [if_pos e1]
    refine ⟨⟨h1, h2', ⟨h3, h3'⟩, h4, ?_⟩, fun q => by omega⟩
    rw [if_neg (by omega)]; exact h5
  rw [if_neg e1]
  by_cases e2 : (V w).1 = 2
  · rw [if_pos e2]
    refine ⟨?_, fun q => by omega⟩
    rw [if_neg (by omega)]
    by_cases e3 : pk p w = true
    · rw [if_pos e3]; exact ⟨h1, h2', ⟨h3, h3'⟩, h4, h5⟩
    · rw [if_neg e3]
      by_cases e4 : pd p (V w).2.1 ≤ t
      · rw [if_pos e4]
        refine ⟨h1, h2', ⟨?_, fun d => ?_⟩, h4, h5⟩
        · have := S_d4_up (d := pd p) (n := (V w).2.1) (by omega) e4
          show pf p + 1 ≤ S_d4 (upG (pd p) (V w).2.1 (t + 3))
          omega
        · show upG (pd p) _ _ d ≤ 98
          by_cases e5 : d = (V w).2.1
          · subst e5; rw [upG_s]; omega
          · rw [upG_n e5]; exact h3' d
      · rw [if_neg e4]
        refine ⟨fun x hx => ?_, h2', ⟨h3, h3'⟩, h4, h5⟩
        have hx' : upG (pk p) w true x = true := hx
        by_cases e5 : x = w
        · subst e5; exact e2
        · rw [upG_n e5] at hx'; exact h1 x hx'
  rw [if_neg e2]
  by_cases e3 : (V w).1 = 3
  · rw [if_pos e3, if_pos e3]
    refine ⟨⟨h1, h2', ⟨h3, h3'⟩, fun k hk => ?_, ?_⟩, fun _ => rfl⟩
    · have hk' : k < pc p + 1 := hk
      show (upG (pe p) (pc p) (w, t + (V w).2.1) k).1 < nw ∧ (V (upG (pe p) (pc p) (w, t + (V w).2.1) k).1).1 = 3
      by_cases e5 : k = pc p
      · subst e5; rw [upG_s]; exact ⟨hw, e3⟩
      · rw [upG_n e5]; exact h4 k (by omega)
    · have e6 : pe (S_turn w (V w).2.1 t p) (pc p) = (w, t + (V w).2.1) := upG_s
      show pc p + 1 + (S_D t i (upG (pe p) (pc p) (w, t + (V w).2.1)) (pc p) + (if t < (pe (S_turn w (V w).2.1 t p) (pc p)).2 ∨ (t = (pe (S_turn w (V w).2.1 t p) (pc p)).2 ∧ i ≤ pc p) then (pe (S_turn w (V w).2.1 t p) (pc p)).1 else 0)) ≤ _
      rw [S_D_up _ (Nat.le_refl _), e6]
      split <;> (try dsimp only) <;> omega
  rw [if_neg e3, if_neg e3]
  have fin : P_B V nw t i (B + 1) C p := ⟨h1, h2', ⟨h3, h3'⟩, h4, h5⟩
  by_cases e4 : (V w).1 = 4
  · rw [if_pos e4]
    refine ⟨⟨h1, fun x => ?_, ⟨h3, h3'⟩, h4, h5⟩, fun q => absurd q e3⟩
    show upG (pt p) w (pt p w + 1) x ≤ B + 1
    by_cases e5 : x = w
    · subst e5; rw [upG_s]; have := h2 x; omega
    · rw [upG_n e5]; exact h2' x
  · rw [if_neg e4]
    exact ⟨fin, fun q => absurd q e3⟩
theorem P_B.w {V : Nat → S_W} {nw t i B C B' C' : Nat} {p : S_P} (h : P_B V nw t i B C p) (hB : B ≤ B') (hC : C ≤ C') : P_B V nw t i B' C' p :=
  ⟨h.1, fun w => Nat.le_trans (h.2.1 w) hB, h.2.2.1, h.2.2.2.1, Nat.le_trans h.2.2.2.2 hC⟩
def hdN : Option Nat → Nat
  | none => 0
  | some w => w + 1
theorem S_strike_b {V : Nat → S_W} {nw t i : Nat} (hV : ∀ i, i < nw → W_B i (V i)) (ht : t ≤ 95) : ∀ (f : Nat) (o : Option Nat) (B C : Nat) (p : S_P), (∀ w, o = some w → w < nw) → P_B V nw t i B C p → P_B V nw t i (B + f) (C + hdN o) (S_strike V t f o p)
  | 0, o, B, C, p, _, h => h.w (Nat.le_refl _) (Nat.le_add_right _ _)
  | f + 1, none, B, C, p, _, h => h.w (Nat.le_add_right _ _) (Nat.le_refl _)
  | f + 1, some w, B, C, p, ho, h => by
    have hw := ho w rfl
    obtain ⟨a1, a2⟩ := S_st_b (i := i) hV hw ht h
    show P_B V nw t i (B + (f + 1)) (C + (w + 1)) (if (S_st V w t p).2 = true then _ else _)
    by_cases e : (S_st V w t p).2 = true
    · rw [if_pos e]
      have e3 : ¬ (V w).1 = 3 := fun q => by rw [a2 q] at e; cases e
      rw [if_neg e3] at a1
      have hlt : ∀ w', (V w).2.2 = some w' → w' < w := (hV w hw).2.2
      refine (S_strike_b hV ht f (V w).2.2 (B + 1) C _ (fun w' q => ?_) a1).w (by omega) ?_
      · have := hlt w' q; omega
      · cases q : (V w).2.2 with
        | none => exact Nat.add_le_add_left (Nat.zero_le _) _
        | some w' => have := hlt w' q; show C + (w' + 1) ≤ _; omega
    · rw [if_neg e]
      refine a1.w (by omega) ?_
      split <;> omega
theorem S_st_e {V : Nat → S_W} {w t : Nat} {p : S_P} {k : Nat} (hk : k < pc p) : k < pc (S_st V w t p).1 ∧ pe (S_st V w t p).1 k = pe p k := by
  unfold S_st
  split
  · exact ⟨hk, rfl⟩
  split
  · split
    · exact ⟨hk, rfl⟩
    · split <;> exact ⟨hk, rfl⟩
  split
  · refine ⟨Nat.lt_succ_of_lt hk, ?_⟩
    show upG (pe p) (pc p) _ k = _
    rw [upG_n (by omega)]
  split <;> exact ⟨hk, rfl⟩
theorem S_strike_e {V : Nat → S_W} {t : Nat} : ∀ (f : Nat) (o : Option Nat) (p : S_P) (k : Nat), k < pc p → k < pc (S_strike V t f o p) ∧ pe (S_strike V t f o p) k = pe p k
  | 0, _, _, _, h => ⟨h, rfl⟩
  | f + 1, none, _, _, h => ⟨h, rfl⟩
  | f + 1, some w, p, k, h => by
    have a := S_st_e (V := V) (w := w) (t := t) h
    show k < pc (if (S_st V w t p).2 = true then _ else _) ∧ pe (if (S_st V w t p).2 = true then _ else _) k = _
    split
    · have b := S_strike_e (V := V) (t := t) f (V w).2.2 _ k a.1
      exact ⟨b.1, b.2.trans a.2⟩
    · exact a
/-- one step of the loop over the cranks -/
def S_dst (V : Nat → S_W) (t k : Nat) (p : S_P) : S_P := if (pe p k).2 = t then S_strike V t 11 (V (pe p k).1).2.2 p else p
theorem S_dst_b {V : Nat → S_W} {nw t k B C : Nat} {p : S_P} (hV : ∀ i, i < nw → W_B i (V i)) (ht : t ≤ 95) (hk : k < pc p) (h : P_B V nw t k B C p) : P_B V nw t (k + 1) (B + 11) C (S_dst V t k p) := by
  obtain ⟨h1, h2, h3, h4, h5⟩ := h
  obtain ⟨q1, q2⟩ := h4 k hk
  have hD := S_D_s (t := t) (i := k) (E := pe p) (pc p) hk
  have hlt : ∀ w', (V (pe p k).1).2.2 = some w' → w' < (pe p k).1 := (hV _ q1).2.2
  unfold S_dst
  by_cases e : (pe p k).2 = t
  · rw [if_pos e]
    rw [if_pos e] at hD
    refine (S_strike_b (i := k + 1) hV ht 11 _ B (C - (pe p k).1) p (fun w' q => by have := hlt w' q; omega) ⟨h1, h2, h3, h4, by omega⟩).w (Nat.le_refl _) ?_
    cases q : (V (pe p k).1).2.2 with
    | none => show C - _ + 0 ≤ C; omega
    | some w' => have := hlt w' q; show C - _ + (w' + 1) ≤ C; omega
  · rw [if_neg e]
    rw [if_neg e] at hD
    exact ⟨h1, fun w => Nat.le_trans (h2 w) (by omega), h3, h4, by omega⟩
theorem S_dst_e {V : Nat → S_W} {t j k : Nat} {p : S_P} (hk : k < pc p) : k < pc (S_dst V t j p) ∧ pe (S_dst V t j p) k = pe p k := by
  unfold S_dst
  split
  · exact S_strike_e 11 _ p k hk
  · exact ⟨hk, rfl⟩
theorem S_hit_b {V : Nat → S_W} {nw t i B C : Nat} {p : S_P} (h : P_B V nw t i B C p) : P_B V nw t i B C (S_hit p) := h
theorem P_B.t {V : Nat → S_W} {nw t i B C : Nat} {p : S_P} (h : P_B V nw t i B C p) (hi : pc p ≤ i) : P_B V nw (t + 1) 0 B C p := by
  obtain ⟨h1, h2, h3, h4, h5⟩ := h
  have := S_D_t (t := t) (i := i) (E := pe p) (pc p) hi
  exact ⟨h1, h2, h3, h4, by omega⟩
