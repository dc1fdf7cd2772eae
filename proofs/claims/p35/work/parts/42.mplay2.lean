/-! the reference's works: a whole run -/
theorem xdr_tick {K : S_K} {F : S_F} {w t : Nat} {sip : Bool} {X : S_X} : xdr (S_tick K F w sip t X) = S_dn K ((xcy X + (S_fl K F w t X).1) / kca K) 12 (xdr X) := by
  unfold S_tick
  rw [xdr_si]
  unfold S_lk
  split <;> rfl
theorem xD_tick {K : S_K} {F : S_F} {w t : Nat} {sip : Bool} {X : S_X} {b : Nat} : xD (S_tick K F w sip t X) b = if xdr X ≤ b ∧ b < xdr (S_tick K F w sip t X) then t else xD X b := by
  rw [xdr_tick]
  unfold S_tick S_si S_lk
  split <;> split <;> rfl
theorem S_at_d {K : S_K} {F : S_F} {w u : Nat} {sip : Bool} (hK : S_KB K) (hF : S_FB F) : ∀ d, (xdr (S_at K F w sip u) ≤ xdr (S_at K F w sip (u + d)) ∧ (∀ b, b < xdr (S_at K F w sip u) → xD (S_at K F w sip (u + d)) b = xD (S_at K F w sip u) b)) ∧ ∀ b, xdr (S_at K F w sip u) ≤ b → b < xdr (S_at K F w sip (u + d)) → u ≤ xD (S_at K F w sip (u + d)) b
  | 0 => ⟨⟨Nat.le_refl _, fun _ _ => rfl⟩, fun b h1 h2 => absurd (show b < xdr (S_at K F w sip u) from h2) (by omega)⟩
  | d + 1 => by
    obtain ⟨⟨h1, h2⟩, h3⟩ := S_at_d (w := w) (u := u) (sip := sip) hK hF d
    have hx := (S_at_b (w := w) (sip := sip) hK hF (u + d)).2.2.2.2.2.2.1
    have hm : xdr (S_at K F w sip (u + d)) ≤ xdr (S_at K F w sip (u + d + 1)) := by
      show _ ≤ xdr (S_tick K F w sip (u + d) _)
      rw [xdr_tick]; exact (S_dn_b 12 _ hx).2
    refine ⟨⟨Nat.le_trans h1 hm, fun b hb => ?_⟩, fun b hb1 hb2 => ?_⟩
    · show xD (S_tick K F w sip (u + d) (S_at K F w sip (u + d))) b = _
      rw [xD_tick, if_neg (by omega), h2 b hb]
    · have hb2' : b < xdr (S_tick K F w sip (u + d) (S_at K F w sip (u + d))) := hb2
      show u ≤ xD (S_tick K F w sip (u + d) (S_at K F w sip (u + d))) b
      rw [xD_tick]
      by_cases e : xdr (S_at K F w sip (u + d)) ≤ b
      · rw [if_pos ⟨e, hb2'⟩]; omega
      · rw [if_neg (by omega)]; exact h3 b hb1 (by omega)
theorem S_at_e {K : S_K} {F : S_F} {w u v : Nat} {sip : Bool} (hK : S_KB K) (hF : S_FB F) (h : u ≤ v) : (xdr (S_at K F w sip u) ≤ xdr (S_at K F w sip v) ∧ (∀ b, b < xdr (S_at K F w sip u) → xD (S_at K F w sip v) b = xD (S_at K F w sip u) b)) ∧ ∀ b, xdr (S_at K F w sip u) ≤ b → b < xdr (S_at K F w sip v) → u ≤ xD (S_at K F w sip v) b := by
  have := S_at_d (w := w) (u := u) (sip := sip) hK hF (v - u)
  rwa [show u + (v - u) = v by omega] at this
/-- a ball drops on tick t just if it is among those that t adds -/
theorem dN_iff {K : S_K} {F : S_F} {w t : Nat} (hK : S_KB K) (hF : S_FB F) (ht : t < 96) (b : Nat) : (dN (S_at K F w true 96) b = t) ↔ (xdr (S_at K F w true t) ≤ b ∧ b < xdr (S_at K F w true (t + 1))) := by
  obtain ⟨⟨a1, a2⟩, a3⟩ := S_at_e (w := w) (sip := true) hK hF (show t ≤ 96 by omega)
  obtain ⟨⟨c1, c2⟩, c3⟩ := S_at_e (w := w) (sip := true) hK hF (show t + 1 ≤ 96 by omega)
  obtain ⟨⟨d1, -⟩, -⟩ := S_at_e (w := w) (sip := true) hK hF (show t ≤ t + 1 by omega)
  have hx := (S_at_b (w := w) (sip := true) hK hF t).2.2.2.2.2.2.2.2.2
  unfold dN
  by_cases e : b < xdr (S_at K F w true 96)
  · rw [if_pos e]
    by_cases e1 : b < xdr (S_at K F w true t)
    · rw [a2 b e1]
      have := hx b e1
      omega
    · by_cases e2 : b < xdr (S_at K F w true (t + 1))
      · rw [c2 b e2]
        have e3 : xD (S_at K F w true (t + 1)) b = t := by
          show xD (S_tick K F w true t _) b = t
          rw [xD_tick, if_pos ⟨by omega, e2⟩]
        rw [e3]; omega
      · have := c3 b (by omega) e
        omega
  · rw [if_neg e]; omega
section MP
variable {s : Nat → Option pu_S} {I : Nat → Nat → Int32} {P : Nat → Nat → Option Nat} {J : Nat → Nat → Int64} {n : Nat × Nat}
variable {Z : S_Z} {w t i : Nat} {p : S_P}
end MP
