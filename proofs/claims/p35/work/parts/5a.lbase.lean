/-! the law: cells of the script, new arrays, what its own writes leave -/
theorem rem_l {k n : Nat} (hk : k < 2147483648) (h0 : 0 < (OfNat.ofNat n : Nat)) (hn : (OfNat.ofNat n : Nat) < 2147483648) : nI k - nI k / (no_index (OfNat.ofNat n) : Int32) * (no_index (OfNat.ofNat n) : Int32) = nI (k % OfNat.ofNat n) := pk_rem hk h0 hn
theorem rem_n {k n : Nat} (hk : k < 2147483648) (h0 : 0 < n) (hn : n < 2147483648) : nI k - nI k / nI n * nI n = nI (k % n) := pk_rem hk h0 hn
theorem ni_divl {k n : Nat} (hk : k < 2147483648) (h0 : 0 < (OfNat.ofNat n : Nat)) (hn : (OfNat.ofNat n : Nat) < 2147483648) : nI k / (no_index (OfNat.ofNat n) : Int32) = nI (k / OfNat.ofNat n) := pk_div hk h0 hn
theorem ni_divn {k n : Nat} (hk : k < 2147483648) (h0 : 0 < n) (hn : n < 2147483648) : nI k / nI n = nI (k / n) := pk_div hk h0 hn
theorem and_15 (x : Int32) : ∃ k, k < 16 ∧ x &&& 15 = nI k := pk_andE x 4 rfl
theorem and_31 (x : Int32) : ∃ k, k < 32 ∧ x &&& 31 = nI k := pk_andE x 5 rfl
theorem and_63 (x : Int32) : ∃ k, k < 64 ∧ x &&& 63 = nI k := pk_andE x 6 rfl
theorem lit_ne0 {n : Nat} (h : ¬ (OfNat.ofNat n : Nat) = 0) (hn : (OfNat.ofNat n : Nat) < 2147483648) : ((no_index (OfNat.ofNat n) : Int32) = 0) = False := eq_false fun q => h ((nI_eq hn (by omega)).mp (show nI n = nI 0 from q))
/-- a cell of the script -/
def cl (L : Nat) (xs : Nat → Int32) (i : Nat) : Nat := (if L ≤ i then (7919 : Int32) * nI i + 13 else xs i).toBitVec.toNat % 2147483648
theorem cl_lt {L : Nat} {xs : Nat → Int32} {i : Nat} : cl L xs i < 2147483648 := Nat.mod_lt _ (by decide)
theorem cell_e {L : Nat} {xs : Nat → Int32} {i : Nat} (hL : L ≤ 260) (hi : i < 1000) (h : am_H) : fL_cell L xs (nI i) h = some (nI (cl L xs i), h) := by
  unfold fL_cell fL_cell_20 cl
  by_cases c : L ≤ i
  · rw [if_pos (show Int32.ofNat L ≤ nI i from (nI_leI (by omega) (by omega)).mpr c), if_pos c, pk_and _ 31 rfl]
  · rw [if_neg (show ¬ Int32.ofNat L ≤ nI i from fun q => c ((nI_leI (by omega) (by omega)).mp q)), if_neg c]
    unfold am_sl
    rw [nI_clamp (by omega), if_neg (fun q => ?_)]
    · show some (xs i &&& 2147483647, h) = _
      rw [pk_and _ 31 rfl]
    · rcases q with q | q
      · exact nI_pos (by omega) q
      · exact c q
theorem cell_b {L : Nat} {xs : Nat → Int32} {i : Nat} {ρ : Type} (hL : L ≤ 260) (hi : i < 1000) (h : am_H) (F : Int32 × am_H → Option ρ) : (fL_cell L xs (nI i) h).bind F = F (nI (cl L xs i), h) := by rw [cell_e hL hi]; rfl
theorem cell_l {L : Nat} {xs : Nat → Int32} {i : Nat} {ρ : Type} (hL : L ≤ 260) (hi : (OfNat.ofNat i : Nat) < 1000) (h : am_H) (F : Int32 × am_H → Option ρ) : (fL_cell L xs (no_index (OfNat.ofNat i) : Int32) h).bind F = F (nI (cl L xs (OfNat.ofNat i)), h) := cell_b hL hi h F
section LB
variable {s : Nat → Option pu_S} {I : Nat → Nat → Int32} {P : Nat → Nat → Option Nat} {J : Nat → Nat → Int64} {n : Nat × Nat}
theorem na_b {ρ : Type} {t m : Nat} {x : Int32} (hx : ¬ (x < 0 ∨ 100000 < x.toNatClampNeg)) (hm : x.toNatClampNeg = m) (F : Option Nat × am_H → Option ρ) : (am_na (pu_hp s I P J n) t x).bind F = F (some (n.1 + 1), pu_hp (pu_row s (n.1 + 1) (some (1, t, m))) (pu_row I (n.1 + 1) (fun _ => 0)) P J (n.1 + 1, n.2 + m)) := by
  rw [pu_na hx, hm]; rfl
/-- the law's own arrays -/
def LSz (s : Nat → Option pu_S) (ao : Nat) : Prop := s 40 = some (1, 0, 26) ∧ s 47 = some (1, 0, 4) ∧ s 48 = some (1, 0, 4) ∧ s 49 = some (1, 0, 6) ∧ s 50 = some (1, 0, 6) ∧ s 51 = some (1, 0, 6) ∧ s ao = some (1, 0, 22)
def LK (I : Nat → Nat → Int32) (K : S_K) : Prop := I 40 0 = nI (kn K) ∧ I 40 1 = nI (kca K) ∧ I 40 2 = nI (kch K) ∧ I 40 3 = nI (ksu K) ∧ I 40 4 = nI (knb K) ∧ (∀ v, v < kn K → I 40 (5 + 3 * v) = nI (kA K v) ∧ I 40 (6 + 3 * v) = nI (kH K v) ∧ I 40 (7 + 3 * v) = nI (kO K v)) ∧ ∀ b, b < knb K → I 40 (14 + b) = nI (kM K b)
def LT (I : Nat → Nat → Int32) (T : S_T) : Prop := ∀ j, j < 4 → I 47 j = nI (tw T j) ∧ I 48 j = nI (td T j)
def LWs (I : Nat → Nat → Int32) (nw : Nat) (V : Nat → S_W) : Prop := ∀ w, w < nw → I 49 w = nI (V w).1 ∧ I 50 w = nI (V w).2.1 ∧ I 51 w = oI (V w).2.2
theorem LK.fr {I' : Nat → Nat → Int32} {K : S_K} (h : LK I K) (hf : ∀ j, I' 40 j = I 40 j) : LK I' K := by
  obtain ⟨h1, h2, h3, h4, h5, h6, h7⟩ := h
  exact ⟨by rw [hf, h1], by rw [hf, h2], by rw [hf, h3], by rw [hf, h4], by rw [hf, h5], fun v hv => by rw [hf, hf, hf]; exact h6 v hv, fun b hb => by rw [hf]; exact h7 b hb⟩
theorem LT.fr {I' : Nat → Nat → Int32} {T : S_T} (h : LT I T) (hf : ∀ b j, b = 47 ∨ b = 48 → I' b j = I b j) : LT I' T := fun j hj => by rw [hf _ _ (Or.inl rfl), hf _ _ (Or.inr rfl)]; exact h j hj
theorem LWs.fr {I' : Nat → Nat → Int32} {nw : Nat} {V : Nat → S_W} (h : LWs I nw V) (hf : ∀ b j, 49 ≤ b → b ≤ 51 → I' b j = I b j) : LWs I' nw V := fun w hw => by rw [hf _ _ (by omega) (by omega), hf _ _ (by omega) (by omega), hf _ _ (by omega) (by omega)]; exact h w hw
/-- what the law writes into its own arrays leaves the object as it was -/
theorem InvC.law {s' : Nat → Option pu_S} {I' : Nat → Nat → Int32} {P' : Nat → Nat → Option Nat} {n' : Nat × Nat} {Z : S_Z} (h : InvC s I P n Z) (hn : n.1 ≤ n'.1) (hs : ∀ b, b ≤ n.1 → s' b = s b) (hI : ∀ b j, b ≤ n.1 → (b ≤ 39 ∨ ∀ m, s b = some (1, 0, m) → m = 3 ∨ m = 12) → I' b j = I b j) (hP : ∀ b k, b ≤ n.1 → P' b k = P b k) : InvC s' I' P' n' Z := by
  obtain ⟨h1, h2, ⟨a1, a2, a3, a4, a5, a6⟩, h4, h5, h6, h7, h8, h9, h10⟩ := h
  have q : ∀ b j, b ≤ 39 → I' b j = I b j := fun b j hb => hI b j (by omega) (Or.inl hb)
  refine ⟨h1.grow (fun a ha => hs a (by omega)) (fun a k hk => hP a k (by have := rft_le hk; omega)), by omega, ⟨by rw [q _ _ (by omega), a1], by rw [q _ _ (by omega), a2], by rw [q _ _ (by omega), a3], by rw [q _ _ (by omega), a4], by rw [q _ _ (by omega), a5], by rw [q _ _ (by omega), a6]⟩, fun k hk => by rw [q _ _ (by omega)]; exact h4 k hk, h5.fr fun j => q _ _ (by omega), fun i hi => ?_, fun i hi => ?_, fun i hi => ?_, h9.fr fun x j hx => q x j (by omega), fun hh => (h10 hh).fr fun x j hx => q x j (by omega)⟩
  · obtain ⟨c, b1, b2, b3, b4, b5⟩ := h6 i hi
    obtain ⟨c1, c2, c3, c4, c5, c6, -⟩ := id b4
    refine ⟨c, by rw [hP _ _ (by omega), b1], b2, by omega, b4.fr2 (fun b q1 q2 => hs b (by omega)) (fun k => hP _ _ (by omega)), b5.fr fun b j q1 q2 => hI b j (by omega) (Or.inr fun m hm => ?_)⟩
    have hb : b = c ∨ b = c + 1 ∨ b = c + 2 ∨ b = c + 3 ∨ b = c + 4 ∨ b = c + 5 := by omega
    rcases hb with rfl | rfl | rfl | rfl | rfl | rfl
    · rw [c1] at hm; cases hm
    · rw [c2] at hm; cases hm; exact Or.inl rfl
    · rw [c3] at hm; cases hm; exact Or.inl rfl
    · rw [c4] at hm; cases hm; exact Or.inl rfl
    · rw [c5] at hm; cases hm; exact Or.inl rfl
    · rw [c6] at hm; cases hm; exact Or.inr rfl
  · obtain ⟨f, b1, b2, b3, b4, b5⟩ := h7 i hi
    exact ⟨f, by rw [hP _ _ (by omega), b1], b2, by omega, by rw [hs _ b3, b4], b5.fr fun j => hI f j b3 (Or.inr fun m hm => by rw [b4] at hm; cases hm)⟩
  · obtain ⟨a, b1, b2, b3, b4, b5, b6, b7, b8⟩ := h8 i hi
    have qa : ∀ j, I' a j = I a j := fun j => hI a j b3 (Or.inr fun m hm => by rw [b4] at hm; cases hm)
    refine ⟨a, by rw [hP _ _ (by omega), b1], b2, by omega, by rw [hs _ b3, b4], by rw [qa, b5], by rw [qa, b6], by rw [qa, b7], ?_⟩
    rw [hP _ _ b3, b8]
    cases (zW Z i).2.2 with
    | none => rfl
    | some j => exact (hP _ _ (by omega)).symm
end LB
