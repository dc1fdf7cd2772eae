/-! what a call of the class, then the same of the reference, leave to the law's loop -/
section OU
variable {s : Nat → Option pu_S} {I : Nat → Nat → Int32} {P : Nat → Nat → Option Nat} {J : Nat → Nat → Int64} {n : Nat × Nat}
variable {Z Z' : S_Z}
theorem QC.out {α : Type} {a : α} {y : α × am_H} (h : QC s I P J n Z' a y) (hM : InvM s I P Z) : ∃ s' I' P' n', y = (a, pu_hp s' I' P' J n') ∧ InvC s' I' P' n' Z' ∧ InvM s' I' P' Z ∧ n'.1 ≤ n.1 + 6 ∧ n'.2 ≤ n.2 + 60 := by
  obtain ⟨y1, y2⟩ := y
  obtain ⟨h1, s', I', P', n', h2, h3, h4, h5, h6⟩ := h
  dsimp only at h1 h2
  subst h1 h2
  exact ⟨s', I', P', n', rfl, h3, hM.sc h3.1 fun b j q1 q2 _ => h4 b j q1 (by omega), h5, h6⟩
theorem QM.out {α : Type} {a : α} {y : α × am_H} (h : QM s I P n Z' a y) (hC : InvC s I P n Z') : ∃ I' J', y = (a, pu_hp s I' P J' n) ∧ InvC s I' P n Z' ∧ InvM s I' P Z' := by
  obtain ⟨y1, y2⟩ := y
  obtain ⟨h1, I', J', h2, h3, h4⟩ := h
  dsimp only at h1 h2
  subst h1 h2
  exact ⟨I', J', rfl, hC.sc (fun b j _ q => h4 b j q) (fun _ _ _ => rfl), h3⟩
end OU
