/-! small things: indices that are numbers, answers that are truths; the smallest functions of both sides -/
section PU2
variable {s : Nat → Option pu_S} {I : Nat → Nat → Int32} {P : Nat → Nat → Option Nat} {J : Nat → Nat → Int64} {n : Nat × Nat} {a ci k t : Nat}
theorem pu_ix {k m : Nat} (hk : k < m) (hm : m < 2147483648) : ¬ (nI k < 0 ∨ m ≤ (nI k).toNatClampNeg) := by
  rw [nI_clamp (by omega)]
  rintro (q | q)
  · exact nI_pos (by omega) q
  · omega
theorem pu_alN {m : Nat} (hs : s a = some (1, t, m)) (hk : k < m) (hm : m < 2147483648) : am_al (pu_hp s I P J n) (some a) t (nI k) = some (I a k) := by
  rw [pu_al hs (pu_ix hk hm), nI_clamp (by omega)]
theorem pu_asN {m : Nat} {x : Int32} (hs : s a = some (1, t, m)) (hk : k < m) (hm : m < 2147483648) : am_as (pu_hp s I P J n) (some a) t (nI k) x = some (pu_hp s (pu_row I a (upd (I a) k x)) P J n) := by
  rw [pu_as hs (pu_ix hk hm), nI_clamp (by omega)]
theorem pu_al3 (hs : s a = some (1, t, 3)) (hk : k < 3) : am_al (pu_hp s I P J n) (some a) t (nI k) = some (I a k) := pu_alN hs hk (by omega)
theorem pu_as3 {x : Int32} (hs : s a = some (1, t, 3)) (hk : k < 3) : am_as (pu_hp s I P J n) (some a) t (nI k) x = some (pu_hp s (pu_row I a (upd (I a) k x)) P J n) := pu_asN hs hk (by omega)
theorem pu_al4 (hs : s a = some (1, t, 4)) (hk : k < 4) : am_al (pu_hp s I P J n) (some a) t (nI k) = some (I a k) := pu_alN hs hk (by omega)
theorem pu_as4 {x : Int32} (hs : s a = some (1, t, 4)) (hk : k < 4) : am_as (pu_hp s I P J n) (some a) t (nI k) x = some (pu_hp s (pu_row I a (upd (I a) k x)) P J n) := pu_asN hs hk (by omega)
theorem pu_al8 (hs : s a = some (1, t, 8)) (hk : k < 8) : am_al (pu_hp s I P J n) (some a) t (nI k) = some (I a k) := pu_alN hs hk (by omega)
theorem pu_as8 {x : Int32} (hs : s a = some (1, t, 8)) (hk : k < 8) : am_as (pu_hp s I P J n) (some a) t (nI k) x = some (pu_hp s (pu_row I a (upd (I a) k x)) P J n) := pu_asN hs hk (by omega)
theorem pu_al10 (hs : s a = some (1, t, 10)) (hk : k < 10) : am_al (pu_hp s I P J n) (some a) t (nI k) = some (I a k) := pu_alN hs hk (by omega)
theorem pu_as10 {x : Int32} (hs : s a = some (1, t, 10)) (hk : k < 10) : am_as (pu_hp s I P J n) (some a) t (nI k) x = some (pu_hp s (pu_row I a (upd (I a) k x)) P J n) := pu_asN hs hk (by omega)
theorem pu_al12 (hs : s a = some (1, t, 12)) (hk : k < 12) : am_al (pu_hp s I P J n) (some a) t (nI k) = some (I a k) := pu_alN hs hk (by omega)
theorem pu_as12 {x : Int32} (hs : s a = some (1, t, 12)) (hk : k < 12) : am_as (pu_hp s I P J n) (some a) t (nI k) x = some (pu_hp s (pu_row I a (upd (I a) k x)) P J n) := pu_asN hs hk (by omega)
theorem pu_al20 (hs : s a = some (1, t, 20)) (hk : k < 20) : am_al (pu_hp s I P J n) (some a) t (nI k) = some (I a k) := pu_alN hs hk (by omega)
theorem pu_as20 {x : Int32} (hs : s a = some (1, t, 20)) (hk : k < 20) : am_as (pu_hp s I P J n) (some a) t (nI k) x = some (pu_hp s (pu_row I a (upd (I a) k x)) P J n) := pu_asN hs hk (by omega)
theorem pu_al48 (hs : s a = some (1, t, 48)) (hk : k < 48) : am_al (pu_hp s I P J n) (some a) t (nI k) = some (I a k) := pu_alN hs hk (by omega)
theorem pu_as48 {x : Int32} (hs : s a = some (1, t, 48)) (hk : k < 48) : am_as (pu_hp s I P J n) (some a) t (nI k) x = some (pu_hp s (pu_row I a (upd (I a) k x)) P J n) := pu_asN hs hk (by omega)
theorem pu_al80 (hs : s a = some (1, t, 80)) (hk : k < 80) : am_al (pu_hp s I P J n) (some a) t (nI k) = some (I a k) := pu_alN hs hk (by omega)
theorem pu_as80 {x : Int32} (hs : s a = some (1, t, 80)) (hk : k < 80) : am_as (pu_hp s I P J n) (some a) t (nI k) x = some (pu_hp s (pu_row I a (upd (I a) k x)) P J n) := pu_asN hs hk (by omega)
theorem pu_al96 (hs : s a = some (1, t, 96)) (hk : k < 96) : am_al (pu_hp s I P J n) (some a) t (nI k) = some (I a k) := pu_alN hs hk (by omega)
theorem pu_as96 {x : Int32} (hs : s a = some (1, t, 96)) (hk : k < 96) : am_as (pu_hp s I P J n) (some a) t (nI k) x = some (pu_hp s (pu_row I a (upd (I a) k x)) P J n) := pu_asN hs hk (by omega)
theorem pu_al120 (hs : s a = some (1, t, 120)) (hk : k < 120) : am_al (pu_hp s I P J n) (some a) t (nI k) = some (I a k) := pu_alN hs hk (by omega)
theorem pu_as120 {x : Int32} (hs : s a = some (1, t, 120)) (hk : k < 120) : am_as (pu_hp s I P J n) (some a) t (nI k) x = some (pu_hp s (pu_row I a (upd (I a) k x)) P J n) := pu_asN hs hk (by omega)
theorem pu_al128 (hs : s a = some (1, t, 128)) (hk : k < 128) : am_al (pu_hp s I P J n) (some a) t (nI k) = some (I a k) := pu_alN hs hk (by omega)
theorem pu_as128 {x : Int32} (hs : s a = some (1, t, 128)) (hk : k < 128) : am_as (pu_hp s I P J n) (some a) t (nI k) x = some (pu_hp s (pu_row I a (upd (I a) k x)) P J n) := pu_asN hs hk (by omega)
end PU2
def b2 (b : Bool) : Int32 := if b then 1 else 0
theorem b2_0 (b : Bool) : (b2 b = 0) = (b = false) := by cases b <;> decide
theorem b2_t : b2 true = 1 := rfl
theorem b2_f : b2 false = 0 := rfl
def inB (v lo hi : Int32) : Bool := decide (lo ≤ v) && decide (v ≤ hi)
theorem i_le (a b : Int32) : (a ≤ b) = ¬ b < a := by rw [eq_iff_iff]; exact Int32.not_lt.symm
theorem q_isIn (v lo hi : Int32) (h : am_H) : fX8_isIn v lo hi h = some (b2 (inB v lo hi), h) := by
  unfold fX8_isIn inB
  by_cases h1 : v < lo
  · rw [if_pos h1, am_zr0, decide_eq_false (by rw [i_le]; exact fun q => q h1)]; rfl
  · rw [if_neg h1, decide_eq_true (by rw [i_le]; exact h1)]
    by_cases h2 : hi < v
    · rw [if_pos h2, am_zr0, decide_eq_false (by rw [i_le]; exact fun q => q h2)]; rfl
    · rw [if_neg h2, am_zr1, decide_eq_true (by rw [i_le]; exact h2)]; rfl
theorem q_within (v lo hi : Int32) (h : am_H) : fX9_within v lo hi h = some (b2 (inB v lo hi), h) := by
  unfold fX9_within inB
  by_cases h1 : v < lo
  · rw [if_pos h1, am_zr0, decide_eq_false (by rw [i_le]; exact fun q => q h1)]; rfl
  · rw [if_neg h1, decide_eq_true (by rw [i_le]; exact h1)]
    by_cases h2 : hi < v
    · rw [if_pos h2, am_zr0, decide_eq_false (by rw [i_le]; exact fun q => q h2)]; rfl
    · rw [if_neg h2, am_zr1, decide_eq_true (by rw [i_le]; exact h2)]; rfl
def sp_q (x y : Int32) : Int32 := if 1 ≤ y then x / y else 0
theorem q_quotient (x y : Int32) (h : am_H) : fX8_quotient x y h = some (sp_q x y, h) := by
  unfold fX8_quotient sp_q
  by_cases h1 : 1 ≤ y
  · rw [if_pos h1, if_pos h1, if_neg]
    intro e; subst e; exact absurd h1 (by decide)
  · rw [if_neg h1, if_neg h1]
def sp_hole (fz : Nat → Int32) (ho v t : Int32) : Int32 := if fz 1 = v then (if fz 3 ≤ t then (if fz 0 = 1 then (if 0 < ho - fz 2 then ho - fz 2 else 0) else if fz 0 = 2 then ho + fz 2 else ho) else ho) else ho
def sp_warm (fz : Nat → Int32) (w t : Int32) : Int32 := if fz 0 = 4 then (if t < fz 3 then w else w - fz 2) else w
def sp_leak (fz : Nat → Int32) (t : Int32) : Int32 := if fz 0 = 3 then (if t < fz 3 then 0 else fz 2) else 0
section SM
variable {s : Nat → Option pu_S} {I : Nat → Nat → Int32} {P : Nat → Nat → Option Nat} {J : Nat → Nat → Int64} {n : Nat × Nat} {f c : Nat}
theorem q_holeOf (hf : s f = some (0, 2, 0)) (ho v t : Int32) : fX2_holeOf f ho v t (pu_hp s I P J n) = some (sp_hole (I f) ho v t, pu_hp s I P J n) := by
  unfold fX2_holeOf sp_hole
  simp (disch := first | assumption | decide | omega) only [Option.bind_some, Option.bind_none, pu_gi, pu_gr, pu_gl, pu_pi, pu_pr, pu_pl, pu_rc, pu_row_s, pu_row_n, pu_row_r, pu_up_s, pu_up_n, am_zr0, am_zr1, Option.some.injEq, Prod.mk.injEq, reduceIte, ite_true, ite_false, if_true, if_false]
  repeat' split
  all_goals first | rfl | contradiction | skip
theorem q_warmthOf (hf : s f = some (0, 2, 0)) (w t : Int32) : fX2_warmthOf f w t (pu_hp s I P J n) = some (sp_warm (I f) w t, pu_hp s I P J n) := by
  unfold fX2_warmthOf sp_warm
  simp (disch := first | assumption | decide | omega) only [Option.bind_some, Option.bind_none, pu_gi, pu_gr, pu_gl, pu_pi, pu_pr, pu_pl, pu_rc, pu_row_s, pu_row_n, pu_row_r, pu_up_s, pu_up_n, am_zr0, am_zr1, Option.some.injEq, Prod.mk.injEq, reduceIte, ite_true, ite_false, if_true, if_false]
  repeat' split
  all_goals first | rfl | contradiction | skip
theorem q_leakAt (hf : s f = some (0, 2, 0)) (t : Int32) : fX2_leakAt f t (pu_hp s I P J n) = some (sp_leak (I f) t, pu_hp s I P J n) := by
  unfold fX2_leakAt sp_leak
  simp (disch := first | assumption | decide | omega) only [Option.bind_some, Option.bind_none, pu_gi, pu_gr, pu_gl, pu_pi, pu_pr, pu_pl, pu_rc, pu_row_s, pu_row_n, pu_row_r, pu_up_s, pu_up_n, am_zr0, am_zr1, Option.some.injEq, Prod.mk.injEq, reduceIte, ite_true, ite_false, if_true, if_false]
  repeat' split
  all_goals first | rfl | contradiction | skip
end SM
