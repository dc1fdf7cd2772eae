/-! the state of an object, and how the class and the reference hold it -/
abbrev S_T : Type := (Nat → Nat) × (Nat → Nat) × (Nat → Option Nat) × Option Nat
abbrev S_W : Type := Nat × Nat × Option Nat
abbrev S_Z : Type := (Nat × (Nat → S_K)) × (Nat × (Nat → S_F)) × (Nat × (Nat → S_W)) × S_T × (Bool × S_T) × (Nat × (Nat → Nat)) × Nat
def znc (Z : S_Z) : Nat := Z.1.1
def zK (Z : S_Z) : Nat → S_K := Z.1.2
def znf (Z : S_Z) : Nat := Z.2.1.1
def zF (Z : S_Z) : Nat → S_F := Z.2.1.2
def znw (Z : S_Z) : Nat := Z.2.2.1.1
def zW (Z : S_Z) : Nat → S_W := Z.2.2.1.2
def zT (Z : S_Z) : S_T := Z.2.2.2.1
def zH (Z : S_Z) : Bool := Z.2.2.2.2.1.1
def zTk (Z : S_Z) : S_T := Z.2.2.2.2.1.2
def zpl (Z : S_Z) : Nat := Z.2.2.2.2.2.1.1
def zpc (Z : S_Z) : Nat → Nat := Z.2.2.2.2.2.1.2
def zas (Z : S_Z) : Nat := Z.2.2.2.2.2.2
def tw (T : S_T) : Nat → Nat := T.1
def td (T : S_T) : Nat → Nat := T.2.1
def tl (T : S_T) : Nat → Option Nat := T.2.2.1
def th (T : S_T) : Option Nat := T.2.2.2
def oI : Option Nat → Int32
  | none => -1
  | some k => nI k
def T_B (nw : Nat) (T : S_T) : Prop := (∀ j, j < 4 → (50 ≤ tw T j ∧ tw T j ≤ 150) ∧ 24 ≤ td T j ∧ td T j ≤ 72) ∧ (∀ b t, b < 12 → tl T b = some t → t ≤ 96) ∧ ∀ h, th T = some h → h < nw
def W_B (i : Nat) (W : S_W) : Prop := W.1 ≤ 4 ∧ ((W.1 = 0 ∧ W.2.1 = 0) ∨ (W.1 = 1 ∧ W.2.1 ≤ 9) ∨ (W.1 = 2 ∧ W.2.1 ≤ 3) ∨ (W.1 = 3 ∧ 1 ≤ W.2.1 ∧ W.2.1 ≤ 9) ∨ (W.1 = 4 ∧ 2 ≤ W.2.1 ∧ W.2.1 ≤ 5)) ∧ ∀ j, W.2.2 = some j → j < i
def Z_B (Z : S_Z) : Prop := (znc Z ≤ 4 ∧ ∀ i, i < znc Z → S_KB (zK Z i) ∧ ∀ v, v < kn (zK Z i) → kO (zK Z i) v ≤ 40) ∧ (znf Z ≤ 8 ∧ ∀ i, i < znf Z → S_FB (zF Z i)) ∧ (znw Z ≤ 10 ∧ ∀ i, i < znw Z → W_B i (zW Z i)) ∧ T_B (znw Z) (zT Z) ∧ (zH Z = true → T_B (znw Z) (zTk Z)) ∧ (zpl Z ≤ 80 ∧ ∀ k, k < zpl Z → 1 ≤ zpc Z k ∧ zpc Z k ≤ 126) ∧ zas Z ≤ 20
def T_I (I : Nat → Nat → Int32) (a b c d k : Nat) (T : S_T) : Prop := (∀ j, j < 4 → I a j = nI (tw T j) ∧ I b j = nI (td T j)) ∧ (∀ j, j < 12 → I c j = oI (tl T j)) ∧ I d k = oI (th T)
def oP (P : Nat → Nat → Option Nat) : Option Nat → Option Nat
  | none => none
  | some j => P 4 j
def W_I (I : Nat → Nat → Int32) (P : Nat → Nat → Option Nat) (a i : Nat) (W : S_W) : Prop := I a 0 = nI i ∧ I a 1 = nI W.1 ∧ I a 2 = nI W.2.1 ∧ P a 3 = oP P W.2.2
def InvC (s : Nat → Option pu_S) (I : Nat → Nat → Int32) (P : Nat → Nat → Option Nat) (n : Nat × Nat) (Z : S_Z) : Prop :=
  pu_W s P ∧ 39 ≤ n.1 ∧ (I 1 3 = nI (znc Z) ∧ I 1 4 = nI (znf Z) ∧ I 1 5 = nI (znw Z) ∧ I 1 9 = b2 (zH Z) ∧ I 1 10 = nI (zas Z) ∧ I 5 1 = nI (zpl Z)) ∧ (∀ k, k < zpl Z → I 6 k = nI (zpc Z k)) ∧ F_I I 21 (0, 0, 0, 0) ∧
  (∀ i, i < znc Z → ∃ c, P 2 i = some c ∧ 40 ≤ c ∧ c + 5 ≤ n.1 ∧ C_S s P c ∧ C_I I c (zK Z i)) ∧
  (∀ i, i < znf Z → ∃ f, P 3 i = some f ∧ 40 ≤ f ∧ f ≤ n.1 ∧ s f = some (0, 2, 0) ∧ F_I I f (zF Z i)) ∧
  (∀ i, i < znw Z → ∃ a, P 4 i = some a ∧ 40 ≤ a ∧ a ≤ n.1 ∧ s a = some (0, 7, 0) ∧ W_I I P a i (zW Z i)) ∧
  T_I I 8 9 10 7 3 (zT Z) ∧ (zH Z = true → T_I I 12 13 14 11 3 (zTk Z))
/-- the cells that the class, the reference may use up -/
def scC (b j : Nat) : Prop := (15 ≤ b ∧ b ≤ 39 ∧ ¬ b = 21) ∨ (b = 5 ∧ j = 2)
def scP (a k : Nat) : Prop := ((a = 23 ∨ a = 26) ∧ k ≤ 1) ∨ a = 33
theorem T_I.fr {I I' : Nat → Nat → Int32} {a b c d k : Nat} {T : S_T} (h : T_I I a b c d k T) (hf : ∀ x j, x = a ∨ x = b ∨ x = c ∨ (x = d ∧ j = k) → I' x j = I x j) : T_I I' a b c d k T := by
  obtain ⟨h1, h2, h3⟩ := h
  refine ⟨fun j hj => ?_, fun j hj => by rw [hf c j (Or.inr (Or.inr (Or.inl rfl))), h2 j hj], by rw [hf d k (Or.inr (Or.inr (Or.inr ⟨rfl, rfl⟩))), h3]⟩
  obtain ⟨a1, a2⟩ := h1 j hj
  exact ⟨by rw [hf a j (Or.inl rfl), a1], by rw [hf b j (Or.inr (Or.inl rfl)), a2]⟩
theorem rft_dyn {a k : Nat} (h : scP a k) : rft a k = none := by
  unfold scP at h
  rcases h with ⟨h1 | h1, h2⟩ | h1
  · subst h1
    match k, h2 with
    | 0, _ => rfl
    | 1, _ => rfl
  · subst h1
    match k, h2 with
    | 0, _ => rfl
    | 1, _ => rfl
  · subst h1; rfl
theorem rft_hi {a k : Nat} (h : 40 ≤ a) : rft a k = none := by
  unfold rft
  split <;> first | omega | rfl
theorem pu_W.sc {s : Nat → Option pu_S} {P P' : Nat → Nat → Option Nat} (hW : pu_W s P) (h : ∀ a k, ¬ scP a k → P' a k = P a k) : pu_W s P' :=
  hW.f fun a k q => h a k fun z => q (rft_dyn z)
theorem InvC.sc {s : Nat → Option pu_S} {I I' : Nat → Nat → Int32} {P P' : Nat → Nat → Option Nat} {n : Nat × Nat} {Z : S_Z} (h : InvC s I P n Z) (hI : ∀ b j, ¬ scC b j → I' b j = I b j) (hP : ∀ a k, ¬ scP a k → P' a k = P a k) : InvC s I' P' n Z := by
  obtain ⟨h1, h2, ⟨a1, a2, a3, a4, a5, a6⟩, h4, h5, h6, h7, h8, h9, h10⟩ := h
  have q : ∀ b j, b ≤ 14 → ¬ b = 5 → I' b j = I b j := fun b j hb h5 => hI b j (by unfold scC; omega)
  refine ⟨h1.sc hP, h2, ⟨by rw [q _ _ (by omega) (by omega), a1], by rw [q _ _ (by omega) (by omega), a2], by rw [q _ _ (by omega) (by omega), a3], by rw [q _ _ (by omega) (by omega), a4], by rw [q _ _ (by omega) (by omega), a5], by rw [hI _ _ (by unfold scC; omega), a6]⟩, fun k hk => by rw [q _ _ (by omega) (by omega), h4 k hk], h5.fr fun j => hI _ _ (by unfold scC; omega), fun i hi => ?_, fun i hi => ?_, fun i hi => ?_, h9.fr fun x j hx => q x j (by omega) (by omega), fun hh => (h10 hh).fr fun x j hx => q x j (by omega) (by omega)⟩
  · obtain ⟨c, b1, b2, b3, b4, b5⟩ := h6 i hi
    exact ⟨c, by rw [hP _ _ (by unfold scP; omega), b1], b2, b3, b4.fr fun k => hP _ _ (by unfold scP; omega), b5.fr fun b j q1 q2 => hI _ _ (by unfold scC; omega)⟩
  · obtain ⟨f, b1, b2, b3, b4, b5⟩ := h7 i hi
    exact ⟨f, by rw [hP _ _ (by unfold scP; omega), b1], b2, b3, b4, b5.fr fun j => hI _ _ (by unfold scC; omega)⟩
  · obtain ⟨a, b1, b2, b3, b4, b5, b6, b7, b8⟩ := h8 i hi
    refine ⟨a, by rw [hP _ _ (by unfold scP; omega), b1], b2, b3, b4, by rw [hI _ _ (by unfold scC; omega), b5], by rw [hI _ _ (by unfold scC; omega), b6], by rw [hI _ _ (by unfold scC; omega), b7], ?_⟩
    rw [hP _ _ (by unfold scP; omega), b8]
    cases (zW Z i).2.2 with
    | none => rfl
    | some j => exact (hP _ _ (by unfold scP; omega)).symm
def SF (I I' : Nat → Nat → Int32) (P P' : Nat → Nat → Option Nat) : Prop := (∀ b j, ¬ scC b j → I' b j = I b j) ∧ ∀ a k, ¬ scP a k → P' a k = P a k
theorem SF.tr {I I' I'' : Nat → Nat → Int32} {P P' P'' : Nat → Nat → Option Nat} (h : SF I I' P P') (h' : SF I' I'' P' P'') : SF I I'' P P'' := ⟨fun b j hb => by rw [h'.1 b j hb, h.1 b j hb], fun a k ha => by rw [h'.2 a k ha, h.2 a k ha]⟩
theorem SF.inv {s : Nat → Option pu_S} {n : Nat × Nat} {Z : S_Z} {I I' : Nat → Nat → Int32} {P P' : Nat → Nat → Option Nat} (h : SF I I' P P') (hi : InvC s I P n Z) : InvC s I' P' n Z := hi.sc h.1 h.2
/-- what a question leaves: the answer, the cells that the class uses up -/
def QC {α : Type} (s : Nat → Option pu_S) (I : Nat → Nat → Int32) (P : Nat → Nat → Option Nat) (J : Nat → Nat → Int64) (n : Nat × Nat) (Z : S_Z) (a : α) (y : α × am_H) : Prop := ∃ I' P', y = (a, pu_hp s I' P' J n) ∧ SF I I' P P'
theorem QC.of {α : Type} {s : Nat → Option pu_S} {I I' : Nat → Nat → Int32} {P P' : Nat → Nat → Option Nat} {J : Nat → Nat → Int64} {n : Nat × Nat} {Z : S_Z} {a : α} (_ : InvC s I P n Z) (hI : ∀ b j, ¬ scC b j → I' b j = I b j) (hP : ∀ a k, ¬ scP a k → P' a k = P a k) : QC s I P J n Z a (a, pu_hp s I' P' J n) := ⟨I', P', rfl, hI, hP⟩
theorem QC.id {α : Type} {s : Nat → Option pu_S} {I : Nat → Nat → Int32} {P : Nat → Nat → Option Nat} {J : Nat → Nat → Int64} {n : Nat × Nat} {Z : S_Z} {a : α} (h : InvC s I P n Z) : QC s I P J n Z a (a, pu_hp s I P J n) := QC.of h (fun _ _ _ => rfl) (fun _ _ _ => rfl)
/-- what a call that sets something leaves -/
def QT {α : Type} (s : Nat → Option pu_S) (I : Nat → Nat → Int32) (P : Nat → Nat → Option Nat) (J : Nat → Nat → Int64) (n : Nat × Nat) (Z : S_Z) (a : α) (y : α × am_H) : Prop := ∃ I', y = (a, pu_hp s I' P J n) ∧ InvC s I' P n Z ∧ ∀ b j, 40 ≤ b → I' b j = I b j
/-- what a call that makes cells leaves: d of them, e places -/
def QN {α : Type} (s : Nat → Option pu_S) (I : Nat → Nat → Int32) (J : Nat → Nat → Int64) (n : Nat × Nat) (d e : Nat) (Z : S_Z) (a : α) (y : α × am_H) : Prop := ∃ s' I' P', y = (a, pu_hp s' I' P' J (n.1 + d, n.2 + e)) ∧ InvC s' I' P' (n.1 + d, n.2 + e) Z ∧ (∀ b, 40 ≤ b → b ≤ n.1 → s' b = s b) ∧ ∀ b j, 40 ≤ b → b ≤ n.1 → I' b j = I b j
