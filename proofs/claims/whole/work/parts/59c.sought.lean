/-! sought: the two orders of search come to the same -/
abbrev SoX : Type := Nat × Option (Nat × Nat × Nat)
def soM (D : Nat → Nat → Bool) (n f : Nat) (x : SoX) : SoX := if D n f = true then (x.1 + 1, match x.2 with
  | none => some (n, f, n)
  | some y => some (y.1, y.2.1, n)) else x
def soC (D : Nat → Nat → Bool) (n f : Nat) (x : SoX) : SoX := if D n f = true then (x.1 + 1, match x.2 with
  | none => some (n, f, n)
  | some y => if y.1 ≤ n then some (y.1, y.2.1, max y.2.2 n) else some (n, f, max y.2.2 n)) else x
def soMi (D : Nat → Nat → Bool) (n : Nat) : Nat → Nat → SoX → SoX
  | 0, _, x => x
  | m + 1, f, x => soMi D n m (f + 1) (soM D n f x)
def soMo (D : Nat → Nat → Bool) : Nat → Nat → SoX → SoX
  | 0, _, x => x
  | m + 1, n, x => soMo D m (n + 1) (soMi D n 96 0 x)
def soCi (D : Nat → Nat → Bool) (f : Nat) : Nat → Nat → SoX → SoX
  | 0, _, x => x
  | m + 1, n, x => soCi D f m (n + 1) (soC D n f x)
def soCo (D : Nat → Nat → Bool) : Nat → Nat → SoX → SoX
  | 0, _, x => x
  | m + 1, f, x => soCo D m (f + 1) (soCi D f 20 1 x)
def SoI (D : Nat → Nat → Bool) (S : Nat → Nat → Prop) (o : Option (Nat × Nat × Nat)) : Prop := match o with
  | none => ∀ n f, S n f → D n f = false
  | some y => S y.1 y.2.1 ∧ D y.1 y.2.1 = true ∧ (∃ f, S y.2.2 f ∧ D y.2.2 f = true) ∧ ∀ n f, S n f → D n f = true → (y.1 < n ∨ (y.1 = n ∧ y.2.1 ≤ f)) ∧ n ≤ y.2.2
theorem SoI.iff {D : Nat → Nat → Bool} {S S' : Nat → Nat → Prop} {o : Option (Nat × Nat × Nat)} (h : SoI D S o) (e : ∀ n f, S' n f ↔ S n f) : SoI D S' o := by
  obtain rfl : S' = S := funext fun n => funext fun f => propext (e n f)
  exact h
theorem soM_I {D : Nat → Nat → Bool} {S S' : Nat → Nat → Prop} {x : SoX} {n f : Nat} (h : SoI D S x.2) (hS : ∀ n' f', S' n' f' ↔ S n' f' ∨ (n' = n ∧ f' = f)) (ho : ∀ n' f', S n' f' → n' < n ∨ (n' = n ∧ f' < f)) : SoI D S' (soM D n f x).2 := by
  obtain ⟨c, o⟩ := x
  unfold soM
  cases hD : D n f with
  | false =>
    rw [if_neg (by decide)]
    cases o with
    | none =>
      intro n' f' h'
      rcases (hS n' f').mp h' with q | ⟨rfl, rfl⟩
      · exact h n' f' q
      · exact hD
    | some y =>
      obtain ⟨h1, h2, ⟨g, h3, h3'⟩, h4⟩ := h
      refine ⟨(hS _ _).mpr (Or.inl h1), h2, ⟨g, (hS _ _).mpr (Or.inl h3), h3'⟩, fun n' f' h' hd => ?_⟩
      rcases (hS n' f').mp h' with q | ⟨rfl, rfl⟩
      · exact h4 n' f' q hd
      · rw [hD] at hd; cases hd
  | true =>
    rw [if_pos rfl]
    cases o with
    | none =>
      refine ⟨(hS _ _).mpr (Or.inr ⟨rfl, rfl⟩), hD, ⟨f, (hS _ _).mpr (Or.inr ⟨rfl, rfl⟩), hD⟩, fun n' f' h' hd => ?_⟩
      rcases (hS n' f').mp h' with q | ⟨rfl, rfl⟩
      · rw [h n' f' q] at hd; cases hd
      · exact ⟨Or.inr ⟨rfl, Nat.le_refl _⟩, Nat.le_refl _⟩
    | some y =>
      obtain ⟨h1, h2, ⟨g, h3, h3'⟩, h4⟩ := h
      refine ⟨(hS _ _).mpr (Or.inl h1), h2, ⟨f, (hS _ _).mpr (Or.inr ⟨rfl, rfl⟩), hD⟩, fun n' f' h' hd => ?_⟩
      have p := ho _ _ h1
      rcases (hS n' f').mp h' with q | ⟨rfl, rfl⟩
      · have p2 := ho _ _ q
        refine ⟨(h4 n' f' q hd).1, ?_⟩
        show n' ≤ n
        omega
      · refine ⟨?_, Nat.le_refl _⟩
        show y.1 < n' ∨ (y.1 = n' ∧ y.2.1 ≤ f')
        omega
theorem soC_I {D : Nat → Nat → Bool} {S S' : Nat → Nat → Prop} {x : SoX} {n f : Nat} (h : SoI D S x.2) (hS : ∀ n' f', S' n' f' ↔ S n' f' ∨ (n' = n ∧ f' = f)) (ho : ∀ n' f', S n' f' → f' < f ∨ (f' = f ∧ n' < n)) : SoI D S' (soC D n f x).2 := by
  obtain ⟨c, o⟩ := x
  unfold soC
  cases hD : D n f with
  | false =>
    rw [if_neg (by decide)]
    cases o with
    | none =>
      intro n' f' h'
      rcases (hS n' f').mp h' with q | ⟨rfl, rfl⟩
      · exact h n' f' q
      · exact hD
    | some y =>
      obtain ⟨h1, h2, ⟨g, h3, h3'⟩, h4⟩ := h
      refine ⟨(hS _ _).mpr (Or.inl h1), h2, ⟨g, (hS _ _).mpr (Or.inl h3), h3'⟩, fun n' f' h' hd => ?_⟩
      rcases (hS n' f').mp h' with q | ⟨rfl, rfl⟩
      · exact h4 n' f' q hd
      · rw [hD] at hd; cases hd
  | true =>
    rw [if_pos rfl]
    cases o with
    | none =>
      refine ⟨(hS _ _).mpr (Or.inr ⟨rfl, rfl⟩), hD, ⟨f, (hS _ _).mpr (Or.inr ⟨rfl, rfl⟩), hD⟩, fun n' f' h' hd => ?_⟩
      rcases (hS n' f').mp h' with q | ⟨rfl, rfl⟩
      · rw [h n' f' q] at hd; cases hd
      · exact ⟨Or.inr ⟨rfl, Nat.le_refl _⟩, Nat.le_refl _⟩
    | some y =>
      obtain ⟨h1, h2, ⟨g, h3, h3'⟩, h4⟩ := h
      have p := ho _ _ h1
      have hmx : ∃ g', S' (max y.2.2 n) g' ∧ D (max y.2.2 n) g' = true := by
        by_cases c : y.2.2 ≤ n
        · rw [Nat.max_eq_right c]; exact ⟨f, (hS _ _).mpr (Or.inr ⟨rfl, rfl⟩), hD⟩
        · rw [Nat.max_eq_left (by omega)]; exact ⟨g, (hS _ _).mpr (Or.inl h3), h3'⟩
      show SoI D S' (if y.1 ≤ n then some (y.1, y.2.1, max y.2.2 n) else some (n, f, max y.2.2 n))
      by_cases c : y.1 ≤ n
      · rw [if_pos c]
        refine ⟨(hS _ _).mpr (Or.inl h1), h2, hmx, fun n' f' h' hd => ?_⟩
        show (y.1 < n' ∨ (y.1 = n' ∧ y.2.1 ≤ f')) ∧ n' ≤ max y.2.2 n
        rcases (hS n' f').mp h' with q | ⟨rfl, rfl⟩
        · have := h4 n' f' q hd
          omega
        · omega
      · rw [if_neg c]
        refine ⟨(hS _ _).mpr (Or.inr ⟨rfl, rfl⟩), hD, hmx, fun n' f' h' hd => ?_⟩
        show (n < n' ∨ (n = n' ∧ f ≤ f')) ∧ n' ≤ max y.2.2 n
        rcases (hS n' f').mp h' with q | ⟨rfl, rfl⟩
        · have := h4 n' f' q hd
          omega
        · omega
theorem SoI.uniq {D : Nat → Nat → Bool} {S : Nat → Nat → Prop} {o o' : Option (Nat × Nat × Nat)} (h : SoI D S o) (h' : SoI D S o') : o = o' := by
  cases o with
  | none =>
    cases o' with
    | none => rfl
    | some y => have := h _ _ h'.1; rw [h'.2.1] at this; cases this
  | some x =>
    cases o' with
    | none => have := h' _ _ h.1; rw [h.2.1] at this; cases this
    | some y =>
      obtain ⟨x1, x2, x3⟩ := x
      obtain ⟨y1, y2, y3⟩ := y
      obtain ⟨a1, a2, ⟨f, a3, a3'⟩, a4⟩ := h
      obtain ⟨b1, b2, ⟨g, b3, b3'⟩, b4⟩ := h'
      have p1 := (a4 _ _ b1 b2).1
      have p2 := (b4 _ _ a1 a2).1
      have p3 := (a4 _ _ b3 b3').2
      have p4 := (b4 _ _ a3 a3').2
      dsimp only at p1 p2 p3 p4
      have e1 : x1 = y1 := by omega
      have e2 : x2 = y2 := by omega
      have e3 : x3 = y3 := by omega
      rw [e1, e2, e3]
def SM (n f n' f' : Nat) : Prop := 1 ≤ n' ∧ f' < 96 ∧ (n' < n ∨ (n' = n ∧ f' < f))
def SC (n f n' f' : Nat) : Prop := 1 ≤ n' ∧ n' ≤ 20 ∧ (f' < f ∨ (f' = f ∧ n' < n))
theorem soMi_I {D : Nat → Nat → Bool} {n : Nat} (hn : 1 ≤ n) : ∀ (m f : Nat) (x : SoX), f + m = 96 → SoI D (SM n f) x.2 → SoI D (SM (n + 1) 0) (soMi D n m f x).2
  | 0, f, x, hf, h => h.iff fun n' f' => by unfold SM; omega
  | m + 1, f, x, hf, h => soMi_I hn m (f + 1) _ (by omega) (soM_I h (fun n' f' => by unfold SM; omega) (fun n' f' q => by unfold SM at q; omega))
theorem soMo_I {D : Nat → Nat → Bool} : ∀ (m n : Nat) (x : SoX), 1 ≤ n → SoI D (SM n 0) x.2 → SoI D (SM (n + m) 0) (soMo D m n x).2
  | 0, _, _, _, h => h
  | m + 1, n, x, hn, h => by
    have := soMo_I m (n + 1) _ (by omega) (soMi_I hn 96 0 x (by omega) h)
    rw [show n + (m + 1) = n + 1 + m by omega]
    exact this
theorem soCi_I {D : Nat → Nat → Bool} {f : Nat} : ∀ (m n : Nat) (x : SoX), n + m = 21 → 1 ≤ n → SoI D (SC n f) x.2 → SoI D (SC 1 (f + 1)) (soCi D f m n x).2
  | 0, n, x, hf, _, h => h.iff fun n' f' => by unfold SC; omega
  | m + 1, n, x, hf, hn, h => soCi_I m (n + 1) _ (by omega) (by omega) (soC_I h (fun n' f' => by unfold SC; omega) (fun n' f' q => by unfold SC at q; omega))
theorem soCo_I {D : Nat → Nat → Bool} : ∀ (m f : Nat) (x : SoX), SoI D (SC 1 f) x.2 → SoI D (SC 1 (f + m)) (soCo D m f x).2
  | 0, _, _, h => h
  | m + 1, f, x, h => by
    have := soCo_I m (f + 1) _ (soCi_I 20 1 x (by omega) (by omega) h)
    rw [show f + (m + 1) = f + 1 + m by omega]
    exact this
/-- sums -/
def sg (g : Nat → Nat) : Nat → Nat → Nat
  | 0, _ => 0
  | m + 1, k => g k + sg g m (k + 1)
theorem sg_add (g h : Nat → Nat) : ∀ m k, sg (fun a => g a + h a) m k = sg g m k + sg h m k
  | 0, _ => rfl
  | m + 1, k => by
    show g k + h k + sg _ m (k + 1) = g k + sg g m (k + 1) + (h k + sg h m (k + 1))
    rw [sg_add g h m (k + 1)]; omega
theorem sg_0 : ∀ m k, sg (fun _ => 0) m k = 0
  | 0, _ => rfl
  | m + 1, k => by show 0 + sg _ m (k + 1) = 0; rw [sg_0 m]
theorem sg_comm (g : Nat → Nat → Nat) (p q : Nat) : ∀ m k, sg (fun a => sg (g a) p q) m k = sg (fun b => sg (fun a => g a b) m k) p q
  | 0, _ => (sg_0 p q).symm
  | m + 1, k => by
    show sg (g k) p q + sg _ m (k + 1) = sg (fun b => g k b + sg (fun a => g a b) m (k + 1)) p q
    rw [sg_comm g p q m (k + 1), sg_add]
def dC (D : Nat → Nat → Bool) (n f : Nat) : Nat := if D n f = true then 1 else 0
theorem soM_1 {D : Nat → Nat → Bool} {n f : Nat} {x : SoX} : (soM D n f x).1 = x.1 + dC D n f := by unfold soM dC; split <;> rfl
theorem soC_1 {D : Nat → Nat → Bool} {n f : Nat} {x : SoX} : (soC D n f x).1 = x.1 + dC D n f := by unfold soC dC; split <;> rfl
theorem soMi_1 {D : Nat → Nat → Bool} {n : Nat} : ∀ (m f : Nat) (x : SoX), (soMi D n m f x).1 = x.1 + sg (dC D n) m f
  | 0, _, _ => rfl
  | m + 1, f, x => by
    show (soMi D n m (f + 1) _).1 = x.1 + (dC D n f + sg _ m (f + 1))
    rw [soMi_1 m, soM_1]; omega
theorem soMo_1 {D : Nat → Nat → Bool} : ∀ (m n : Nat) (x : SoX), (soMo D m n x).1 = x.1 + sg (fun n => sg (dC D n) 96 0) m n
  | 0, _, _ => rfl
  | m + 1, n, x => by
    show (soMo D m (n + 1) _).1 = x.1 + (sg (dC D n) 96 0 + sg _ m (n + 1))
    rw [soMo_1 m, soMi_1]; omega
theorem soCi_1 {D : Nat → Nat → Bool} {f : Nat} : ∀ (m n : Nat) (x : SoX), (soCi D f m n x).1 = x.1 + sg (fun n => dC D n f) m n
  | 0, _, _ => rfl
  | m + 1, n, x => by
    show (soCi D f m (n + 1) _).1 = x.1 + (dC D n f + sg _ m (n + 1))
    rw [soCi_1 m, soC_1]; omega
theorem soCo_1 {D : Nat → Nat → Bool} : ∀ (m f : Nat) (x : SoX), (soCo D m f x).1 = x.1 + sg (fun f => sg (fun n => dC D n f) 20 1) m f
  | 0, _, _ => rfl
  | m + 1, f, x => by
    show (soCo D m (f + 1) _).1 = x.1 + (sg (fun n => dC D n f) 20 1 + sg _ m (f + 1))
    rw [soCo_1 m, soCi_1]; omega
/-- both orders -/
theorem so_eq (D : Nat → Nat → Bool) : soMo D 20 1 (0, none) = soCo D 96 0 (0, none) := by
  refine Prod.ext ?_ ?_
  · rw [soMo_1, soCo_1, sg_comm]
  · have h1 : SoI D (SM 21 0) (soMo D 20 1 (0, none)).2 := soMo_I 20 1 (0, none) (by omega) (fun n f q => by unfold SM at q; omega)
    have h2 : SoI D (SC 1 96) (soCo D 96 0 (0, none)).2 := by
      have := soCo_I (D := D) 96 0 (0, none) (fun n f q => by unfold SC at q; omega)
      rw [Nat.zero_add] at this; exact this
    exact (h1.iff fun n' f' => by unfold SC SM; omega).uniq h2
theorem soCo_dead {D : Nat → Nat → Bool} : ∀ (m f : Nat) (x : SoX), (∀ n f', f ≤ f' → D n f' = false) → soCo D m f x = x
  | 0, _, _, _ => rfl
  | m + 1, f, x, h => by
    have e : ∀ (k n : Nat), soCi D f k n x = x := by
      intro k
      induction k with
      | zero => intro n; rfl
      | succ k ih =>
        intro n
        show soCi D f k (n + 1) (soC D n f x) = x
        have : soC D n f x = x := by unfold soC; rw [h n f (Nat.le_refl _)]; exact if_neg (by decide)
        rw [this]; exact ih (n + 1)
    show soCo D m (f + 1) (soCi D f 20 1 x) = x
    rw [e]
    exact soCo_dead m (f + 1) x fun n f' hf => h n f' (by omega)
/-- none counted where nothing is held, and the other way -/
def SoN (x : SoX) : Prop := x.1 = 0 ↔ x.2 = none
theorem SoN.st {D : Nat → Nat → Bool} {n f : Nat} {x : SoX} (h : SoN x) : SoN (soM D n f x) := by
  obtain ⟨c, o⟩ := x
  unfold soM SoN
  cases D n f with
  | false => rw [if_neg (by decide)]; exact h
  | true =>
    rw [if_pos rfl]
    cases o with
    | none => exact ⟨fun q => (by cases q), fun q => (by cases q)⟩
    | some y => exact ⟨fun q => (by cases q), fun q => (by cases q)⟩
/-- a fault that has not come yet -/
theorem S_vs_cg {K : S_K} {F F' : S_F} {w t : Nat} (h : ∀ k held, S_out K F w t k held = S_out K F' w t k held) : ∀ (m k : Nat) (x : Nat × (Nat → Nat) × Nat), S_vs K F w t m k x = S_vs K F' w t m k x
  | 0, _, _ => rfl
  | m + 1, k, x => by
    show S_vs K F w t m (k + 1) (S_v K F w t k x) = S_vs K F' w t m (k + 1) (S_v K F' w t k x)
    have e : S_v K F w t k x = S_v K F' w t k x := by unfold S_v; rw [h]
    rw [e]; exact S_vs_cg h m (k + 1) _
theorem S_lk_0 {K : S_K} {F : S_F} {t : Nat} {X : S_X} (h : S_leak F t = 0) : S_lk K F t X = X := by
  unfold S_lk
  rw [h]
  split
  · rw [Nat.min_zero]
    have : updN (xW X) F.2.1 (xW X F.2.1 - 0) = xW X := funext fun j => by
      by_cases e : j = F.2.1
      · subst e; rw [updN_s]; rfl
      · rw [updN_n e]
    rw [this]; rfl
  · rfl
theorem at_br {K : S_K} {k v n f w : Nat} {sip : Bool} : ∀ u, u ≤ f → S_at K (k, v, n, f) w sip u = S_at K (0, 0, 0, 0) w sip u
  | 0, _ => rfl
  | u + 1, hu => by
    show S_tick K (k, v, n, f) w sip u (S_at K (k, v, n, f) w sip u) = S_tick K (0, 0, 0, 0) w sip u (S_at K (0, 0, 0, 0) w sip u)
    rw [at_br u (by omega)]
    generalize S_at K (0, 0, 0, 0) w sip u = X
    have hl : S_leak (k, v, n, f) u = 0 := by unfold S_leak; exact if_neg (fun q => by have := q.2; dsimp only at this; omega)
    have hl0 : S_leak (0, 0, 0, 0) u = 0 := by unfold S_leak; exact if_neg (fun q => by cases q.1)
    have hw : S_warm (k, v, n, f) w u = S_warm (0, 0, 0, 0) w u := by
      unfold S_warm
      rw [if_neg (fun q => by have := q.2; dsimp only at this; omega), if_neg (fun q => by cases q.1)]
    have hh : ∀ ho x, S_hole (k, v, n, f) ho x u = S_hole (0, 0, 0, 0) ho x u := fun ho x => by
      unfold S_hole
      rw [if_neg (fun q => by have := q.2; dsimp only at this; omega)]
      split
      · rfl
      · rfl
    have hfl : S_fl K (k, v, n, f) w u X = S_fl K (0, 0, 0, 0) w u X := by
      unfold S_fl
      exact S_vs_cg (fun x held => by unfold S_out; rw [hh, hw]) _ _ _
    unfold S_tick
    rw [hfl, S_lk_0 hl, S_lk_0 hl0]
