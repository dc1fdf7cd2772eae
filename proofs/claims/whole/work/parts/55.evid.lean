/-! evidence: the spec -/
abbrev S_L : Type := Nat → Option Nat
def loR (l : S_L) (t : Nat) : Nat → Nat
  | 0 => 0
  | k + 1 => match l k with
    | none => loR l t k
    | some x => if x ≤ t then max (loR l t k) (k + 1) else loR l t k
def hiR (l : S_L) (t : Nat) : Nat → Nat
  | 0 => 12
  | k + 1 => match l k with
    | none => hiR l t k
    | some x => if t < x then min (hiR l t k) k else hiR l t k
def ltR (l : S_L) : Nat → Option Nat
  | 0 => none
  | k + 1 => match l k with
    | none => ltR l k
    | some x => match ltR l k with
      | none => some (min x 95)
      | some y => some (max y (min x 95))
def impR (l : S_L) (nb : Nat) : Nat → Bool
  | 0 => false
  | k + 1 => impR l nb k || ((l k).isSome && decide (nb ≤ k))
def alw (l : S_L) (t d : Nat) : Bool := decide (loR l t 12 ≤ d) && decide (d ≤ hiR l t 12)
theorem loR_le {l : S_L} {t : Nat} : ∀ k, loR l t k ≤ k
  | 0 => Nat.le_refl _
  | k + 1 => by
    have := loR_le (l := l) (t := t) k
    rw [show loR l t (k + 1) = (match l k with | none => loR l t k | some x => if x ≤ t then max (loR l t k) (k + 1) else loR l t k) from rfl]
    split
    · omega
    · split
      · exact Nat.max_le.mpr ⟨by omega, Nat.le_refl _⟩
      · omega
theorem hiR_le {l : S_L} {t : Nat} : ∀ k, hiR l t k ≤ 12
  | 0 => Nat.le_refl _
  | k + 1 => by
    have := hiR_le (l := l) (t := t) k
    rw [show hiR l t (k + 1) = (match l k with | none => hiR l t k | some x => if t < x then min (hiR l t k) k else hiR l t k) from rfl]
    split
    · omega
    · split
      · exact Nat.le_trans (Nat.min_le_left _ _) this
      · omega
theorem ltR_le {l : S_L} : ∀ k y, ltR l k = some y → y ≤ 95
  | 0, y, h => by cases h
  | k + 1, y, h => by
    have ih := ltR_le (l := l) k
    rw [show ltR l (k + 1) = (match l k with | none => ltR l k | some x => (match ltR l k with | none => some (min x 95) | some y => some (max y (min x 95)))) from rfl] at h
    split at h
    · exact ih y h
    · split at h
      · cases h; omega
      · rename_i z hz
        have := ih z hz
        cases h; omega
theorem lo_iff {l : S_L} {t d : Nat} : ∀ k, (loR l t k ≤ d) ↔ ∀ b, b < k → ∀ x, l b = some x → x ≤ t → b + 1 ≤ d
  | 0 => ⟨fun _ b hb => absurd hb (Nat.not_lt_zero b), fun _ => Nat.zero_le _⟩
  | k + 1 => by
    have ih := lo_iff (l := l) (t := t) (d := d) k
    have step : (loR l t (k + 1) ≤ d) ↔ ((loR l t k ≤ d) ∧ ∀ x, l k = some x → x ≤ t → k + 1 ≤ d) := by
      rw [show loR l t (k + 1) = (match l k with | none => loR l t k | some x => if x ≤ t then max (loR l t k) (k + 1) else loR l t k) from rfl]
      cases e : l k with
      | none =>
        dsimp only
        exact ⟨fun h => ⟨h, fun x hx => by cases hx⟩, fun h => h.1⟩
      | some y =>
        dsimp only
        by_cases hy : y ≤ t
        · rw [if_pos hy]
          exact ⟨fun h => ⟨by omega, fun x hx _ => by omega⟩, fun h => by have := h.2 y rfl hy; have := h.1; omega⟩
        · rw [if_neg hy]
          exact ⟨fun h => ⟨h, fun x hx hxt => by cases hx; exact absurd hxt hy⟩, fun h => h.1⟩
    rw [step, ih]
    constructor
    · rintro ⟨h1, h2⟩ b hb x hx hxt
      by_cases e : b = k
      · subst e; exact h2 x hx hxt
      · exact h1 b (by omega) x hx hxt
    · intro h
      exact ⟨fun b hb x hx hxt => h b (by omega) x hx hxt, fun x hx hxt => h k (by omega) x hx hxt⟩
theorem hi_iff {l : S_L} {t d : Nat} (hd : d ≤ 12) : ∀ k, (d ≤ hiR l t k) ↔ ∀ b, b < k → ∀ x, l b = some x → t < x → d ≤ b
  | 0 => ⟨fun _ b hb => absurd hb (Nat.not_lt_zero b), fun _ => hd⟩
  | k + 1 => by
    have ih := hi_iff (l := l) (t := t) hd k
    have step : (d ≤ hiR l t (k + 1)) ↔ ((d ≤ hiR l t k) ∧ ∀ x, l k = some x → t < x → d ≤ k) := by
      rw [show hiR l t (k + 1) = (match l k with | none => hiR l t k | some x => if t < x then min (hiR l t k) k else hiR l t k) from rfl]
      cases e : l k with
      | none =>
        dsimp only
        exact ⟨fun h => ⟨h, fun x hx => by cases hx⟩, fun h => h.1⟩
      | some y =>
        dsimp only
        by_cases hy : t < y
        · rw [if_pos hy]
          exact ⟨fun h => ⟨by omega, fun x hx _ => by omega⟩, fun h => by have := h.2 y rfl hy; have := h.1; omega⟩
        · rw [if_neg hy]
          exact ⟨fun h => ⟨h, fun x hx hxt => by cases hx; exact absurd hxt hy⟩, fun h => h.1⟩
    rw [step, ih]
    constructor
    · rintro ⟨h1, h2⟩ b hb x hx hxt
      by_cases e : b = k
      · subst e; exact h2 x hx hxt
      · exact h1 b (by omega) x hx hxt
    · intro h
      exact ⟨fun b hb x hx hxt => h b (by omega) x hx hxt, fun x hx hxt => h k (by omega) x hx hxt⟩
theorem alw_iff {l : S_L} {t d : Nat} (hd : d ≤ 12) : (alw l t d = true) ↔ ∀ b, b < 12 → ∀ x, l b = some x → (x ≤ t → b + 1 ≤ d) ∧ (t < x → d ≤ b) := by
  unfold alw
  rw [Bool.and_eq_true, decide_eq_true_eq, decide_eq_true_eq, lo_iff, hi_iff hd]
  exact ⟨fun h b hb x hx => ⟨h.1 b hb x hx, h.2 b hb x hx⟩, fun h => ⟨fun b hb x hx => (h b hb x hx).1, fun b hb x hx => (h b hb x hx).2⟩⟩
theorem lt_get {l : S_L} : ∀ k b x, b < k → l b = some x → ∃ y, ltR l k = some y ∧ min x 95 ≤ y
  | 0, b, x, hb, _ => absurd hb (Nat.not_lt_zero b)
  | k + 1, b, x, hb, hx => by
    have ih := lt_get (l := l) k
    rw [show ltR l (k + 1) = (match l k with | none => ltR l k | some x => (match ltR l k with | none => some (min x 95) | some y => some (max y (min x 95)))) from rfl]
    cases e : l k with
    | none =>
      dsimp only
      have hbk : b < k := by
        by_cases q : b = k
        · subst q; rw [e] at hx; cases hx
        · omega
      exact ih b x hbk hx
    | some z =>
      dsimp only
      by_cases q : b = k
      · subst q
        rw [e] at hx; cases hx
        cases ltR l b with
        | none => exact ⟨_, rfl, Nat.le_refl _⟩
        | some y => exact ⟨_, rfl, Nat.le_max_right _ _⟩
      · obtain ⟨y, h1, h2⟩ := ih b x (by omega) hx
        rw [h1]
        exact ⟨_, rfl, Nat.le_trans h2 (Nat.le_max_left _ _)⟩
theorem imp_iff {l : S_L} {nb : Nat} : ∀ k, (impR l nb k = false) ↔ ∀ b, b < k → ∀ x, l b = some x → b < nb
  | 0 => ⟨fun _ b hb => absurd hb (Nat.not_lt_zero b), fun _ => rfl⟩
  | k + 1 => by
    have ih := imp_iff (l := l) (nb := nb) k
    show (impR l nb k || ((l k).isSome && decide (nb ≤ k))) = false ↔ _
    rw [Bool.or_eq_false_iff, ih]
    constructor
    · rintro ⟨h1, h2⟩ b hb x hx
      by_cases e : b = k
      · subst e
        rw [hx] at h2
        simp at h2
        omega
      · exact h1 b (by omega) x hx
    · intro h
      refine ⟨fun b hb x hx => h b (by omega) x hx, ?_⟩
      cases e : l k with
      | none => rfl
      | some x =>
        have := h k (by omega) x e
        simp; omega
/-- ticks from t on, m of them, in line -/
def agR (l : S_L) (D : Nat → Nat) : Nat → Nat → Bool
  | 0, _ => true
  | m + 1, t => alw l t (D (t + 1)) && agR l D m (t + 1)
theorem agR_iff {l : S_L} {D : Nat → Nat} : ∀ m t, (agR l D m t = true) ↔ ∀ u, t ≤ u → u < t + m → alw l u (D (u + 1)) = true
  | 0, t => ⟨fun _ u h1 h2 => absurd h2 (by omega), fun _ => rfl⟩
  | m + 1, t => by
    show (alw l t (D (t + 1)) && agR l D m (t + 1)) = true ↔ _
    rw [Bool.and_eq_true, agR_iff m (t + 1)]
    constructor
    · rintro ⟨h1, h2⟩ u hu1 hu2
      by_cases e : u = t
      · subst e; exact h1
      · exact h2 u (by omega) (by omega)
    · intro h
      exact ⟨h t (Nat.le_refl _) (by omega), fun u h1 h2 => h u (by omega) (by omega)⟩
def ltN (l : S_L) : Nat := match ltR l 12 with
  | none => 0
  | some y => y + 1
theorem ltN_le {l : S_L} : ltN l ≤ 96 := by
  unfold ltN
  split
  · omega
  · rename_i y hy
    have := ltR_le 12 y hy
    omega
/-- a run agrees with the log -/
def AGb (K : S_K) (X : S_X) (l : S_L) : Nat → Bool
  | 0 => true
  | b + 1 => AGb K X l b && (match l b with
    | none => true
    | some x => decide (b < knb K) && decide (dN X b = x))
theorem AGb_iff {K : S_K} {X : S_X} {l : S_L} : ∀ k, (AGb K X l k = true) ↔ ∀ b, b < k → ∀ x, l b = some x → b < knb K ∧ dN X b = x
  | 0 => ⟨fun _ b hb => absurd hb (Nat.not_lt_zero b), fun _ => rfl⟩
  | k + 1 => by
    have ih := AGb_iff (K := K) (X := X) (l := l) k
    show (AGb K X l k && _) = true ↔ _
    rw [Bool.and_eq_true, ih]
    constructor
    · rintro ⟨h1, h2⟩ b hb x hx
      by_cases e : b = k
      · subst e
        rw [hx] at h2
        simpa using h2
      · exact h1 b (by omega) x hx
    · intro h
      refine ⟨fun b hb x hx => h b (by omega) x hx, ?_⟩
      cases e : l k with
      | none => rfl
      | some x =>
        have := h k (by omega) x e
        simp [this]
def xd (K : S_K) (F : S_F) (w t : Nat) : Nat := xdr (S_at K F w true t)
theorem xd_le {K : S_K} {F : S_F} {w t : Nat} (hK : S_KB K) (hF : S_FB F) : xd K F w t ≤ 12 := by
  have := (S_at_b (w := w) (sip := true) hK hF t).2.2.2.2.2.2.1
  have h2 := hK.2.2.2.2.2.1
  unfold xd; omega
theorem xd_mono {K : S_K} {F : S_F} {w u v : Nat} (hK : S_KB K) (hF : S_FB F) (h : u ≤ v) : xd K F w u ≤ xd K F w v := (S_at_e (w := w) (sip := true) hK hF h).1.1
theorem dN96 {K : S_K} {F : S_F} {w b : Nat} : (dN (S_at K F w true 96) b = 96) ↔ (xd K F w 96 ≤ b ∨ dN (S_at K F w true 96) b = 96) := ⟨Or.inr, fun h => by
  rcases h with h | h
  · unfold dN; exact if_neg (by unfold xd at h; omega)
  · exact h⟩
/-- the ticks up to the last that is asked for tell it all -/
theorem ag_main {K : S_K} {F : S_F} {w : Nat} {l : S_L} (hK : S_KB K) (hF : S_FB F) (hl : ∀ b t, b < 12 → l b = some t → t ≤ 96) : AGb K (S_at K F w true 96) l 12 = (!impR l (knb K) 12 && agR l (xd K F w) (ltN l) 0) := by
  rw [Bool.eq_iff_iff, AGb_iff, Bool.and_eq_true, Bool.not_eq_true', imp_iff, agR_iff]
  have hxb := (S_at_b (w := w) (sip := true) hK hF 96).2.2.2.2.2.2.2.2.2
  constructor
  · intro h
    refine ⟨fun b hb x hx => (h b hb x hx).1, fun u hu1 hu2 => ?_⟩
    have hu : u < 96 := by have := ltN_le (l := l); omega
    rw [alw_iff (xd_le hK hF)]
    intro b hb x hx
    have hd := (h b hb x hx).2
    have hx96 := hl b x hb hx
    refine ⟨fun hxu => ?_, fun hux => ?_⟩
    · have := (dN_iff (w := w) hK hF (show x < 96 by omega) b).mp hd
      have h2 := xd_mono (w := w) (u := x + 1) (v := u + 1) hK hF (by omega)
      unfold xd at h2 ⊢; omega
    · by_cases hx6 : x = 96
      · have h2 := xd_mono (w := w) (u := u + 1) (v := 96) hK hF (by omega)
        have h3 : ¬ b < xdr (S_at K F w true 96) := fun q => by
          unfold dN at hd; rw [if_pos q] at hd
          have := hxb b q; omega
        unfold xd at h2 ⊢; omega
      · have := (dN_iff (w := w) hK hF (show x < 96 by omega) b).mp hd
        have h2 := xd_mono (w := w) (u := u + 1) (v := x) hK hF (by omega)
        unfold xd at h2 ⊢; omega
  · rintro ⟨h1, h2⟩ b hb x hx
    refine ⟨h1 b hb x hx, ?_⟩
    have hx96 := hl b x hb hx
    obtain ⟨y, hy1, hy2⟩ := lt_get 12 b x hb hx
    have hN : ltN l = y + 1 := by unfold ltN; rw [hy1]
    have at_ : ∀ u, u ≤ y → u < 96 → (x ≤ u → b + 1 ≤ xd K F w (u + 1)) ∧ (u < x → xd K F w (u + 1) ≤ b) := fun u hu hu9 => by
      have := h2 u (Nat.zero_le _) (by omega)
      rw [alw_iff (xd_le hK hF)] at this
      exact this b hb x hx
    by_cases hx6 : x = 96
    · have := (at_ 95 (by omega) (by omega)).2 (by omega)
      subst hx6
      exact dN96.mpr (Or.inl this)
    · rw [dN_iff hK hF (by omega)]
      have a1 := (at_ x (by omega) (by omega)).1 (Nat.le_refl _)
      have a2 : xdr (S_at K F w true x) ≤ b := by
        cases x with
        | zero => exact Nat.zero_le _
        | succ x => exact (at_ x (by omega) (by omega)).2 (by omega)
      unfold xd at a1
      exact ⟨a2, by omega⟩
