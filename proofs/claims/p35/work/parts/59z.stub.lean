/-! what is left: the pure function of the law answers 1 -/
def am_h0 : am_H := (fun _ => none, 0, 0)
theorem pure_law (L : Nat) (xs : Nat → Int32) (hL : L ≤ 260) : ∃ h' : am_H, fL_law L xs am_h0 = some (1, h') ∧ h'.2.1 ≤ 600000 ∧ h'.2.2 ≤ 7302250 := sorry
