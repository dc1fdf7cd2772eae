/-! the static world: the cells that the two constructors make (printed) -/
def shp : Nat → Option pu_S
  | 1 => some (0, 8, 0)
  | 2 => some (2, 4, 4)
  | 3 => some (2, 5, 8)
  | 4 => some (2, 6, 10)
  | 5 => some (0, 3, 0)
  | 6 => some (1, 2, 80)
  | 7 => some (0, 6, 0)
  | 8 => some (1, 0, 4)
  | 9 => some (1, 0, 4)
  | 10 => some (1, 0, 12)
  | 11 => some (0, 6, 0)
  | 12 => some (1, 0, 4)
  | 13 => some (1, 0, 4)
  | 14 => some (1, 0, 12)
  | 15 => some (0, 0, 0)
  | 16 => some (1, 0, 3)
  | 17 => some (1, 0, 3)
  | 18 => some (1, 0, 3)
  | 19 => some (1, 0, 3)
  | 20 => some (1, 0, 12)
  | 21 => some (0, 2, 0)
  | 22 => some (0, 2, 0)
  | 23 => some (0, 5, 0)
  | 24 => some (1, 0, 3)
  | 25 => some (1, 0, 12)
  | 26 => some (0, 5, 0)
  | 27 => some (1, 0, 3)
  | 28 => some (1, 0, 12)
  | 29 => some (0, 4, 0)
  | 30 => some (1, 0, 10)
  | 31 => some (1, 3, 10)
  | 32 => some (1, 0, 4)
  | 33 => some (2, 6, 120)
  | 34 => some (1, 0, 120)
  | 35 => some (1, 0, 20)
  | 36 => some (0, 1, 0)
  | 37 => some (1, 0, 96)
  | 38 => some (1, 0, 96)
  | 39 => some (1, 0, 3)
  | _ => none
def rft : Nat → Nat → Option Nat
  | 1, 0 => some 2
  | 1, 1 => some 3
  | 1, 2 => some 4
  | 1, 6 => some 5
  | 1, 7 => some 7
  | 1, 8 => some 11
  | 1, 11 => some 15
  | 1, 12 => some 21
  | 1, 13 => some 22
  | 1, 14 => some 23
  | 1, 15 => some 26
  | 1, 16 => some 29
  | 1, 17 => some 36
  | 1, 18 => some 39
  | 5, 0 => some 6
  | 7, 0 => some 8
  | 7, 1 => some 9
  | 7, 2 => some 10
  | 11, 0 => some 12
  | 11, 1 => some 13
  | 11, 2 => some 14
  | 15, 1 => some 16
  | 15, 2 => some 17
  | 15, 3 => some 18
  | 15, 4 => some 19
  | 15, 9 => some 20
  | 23, 4 => some 24
  | 23, 11 => some 25
  | 26, 4 => some 27
  | 26, 11 => some 28
  | 29, 0 => some 30
  | 29, 1 => some 31
  | 29, 2 => some 32
  | 29, 3 => some 33
  | 29, 4 => some 34
  | 29, 6 => some 35
  | 36, 0 => some 37
  | 36, 1 => some 38
  | _, _ => none
def pu_W (s : Nat → Option pu_S) (P : Nat → Nat → Option Nat) : Prop := (∀ a z, shp a = some z → s a = some z) ∧ ∀ a k b, rft a k = some b → P a k = some b
section WO
variable {s : Nat → Option pu_S} {P : Nat → Nat → Option Nat}
theorem gr1_0 (hW : pu_W s P) (I : Nat → Nat → Int32) (J : Nat → Nat → Int64) (n : Nat × Nat) {ρ : Type} (F : Option Nat → Option ρ) : (am_gr (pu_hp s I P J n) (some 1) 8 0).bind F = F (some 2) := gr_h (hW.1 1 _ rfl) (hW.2 1 0 _ rfl) rfl I J n F
theorem gr1_1 (hW : pu_W s P) (I : Nat → Nat → Int32) (J : Nat → Nat → Int64) (n : Nat × Nat) {ρ : Type} (F : Option Nat → Option ρ) : (am_gr (pu_hp s I P J n) (some 1) 8 1).bind F = F (some 3) := gr_h (hW.1 1 _ rfl) (hW.2 1 1 _ rfl) rfl I J n F
theorem gr1_2 (hW : pu_W s P) (I : Nat → Nat → Int32) (J : Nat → Nat → Int64) (n : Nat × Nat) {ρ : Type} (F : Option Nat → Option ρ) : (am_gr (pu_hp s I P J n) (some 1) 8 2).bind F = F (some 4) := gr_h (hW.1 1 _ rfl) (hW.2 1 2 _ rfl) rfl I J n F
theorem gr1_6 (hW : pu_W s P) (I : Nat → Nat → Int32) (J : Nat → Nat → Int64) (n : Nat × Nat) {ρ : Type} (F : Option Nat → Option ρ) : (am_gr (pu_hp s I P J n) (some 1) 8 6).bind F = F (some 5) := gr_h (hW.1 1 _ rfl) (hW.2 1 6 _ rfl) rfl I J n F
theorem gr1_7 (hW : pu_W s P) (I : Nat → Nat → Int32) (J : Nat → Nat → Int64) (n : Nat × Nat) {ρ : Type} (F : Option Nat → Option ρ) : (am_gr (pu_hp s I P J n) (some 1) 8 7).bind F = F (some 7) := gr_h (hW.1 1 _ rfl) (hW.2 1 7 _ rfl) rfl I J n F
theorem gr1_8 (hW : pu_W s P) (I : Nat → Nat → Int32) (J : Nat → Nat → Int64) (n : Nat × Nat) {ρ : Type} (F : Option Nat → Option ρ) : (am_gr (pu_hp s I P J n) (some 1) 8 8).bind F = F (some 11) := gr_h (hW.1 1 _ rfl) (hW.2 1 8 _ rfl) rfl I J n F
theorem gr1_11 (hW : pu_W s P) (I : Nat → Nat → Int32) (J : Nat → Nat → Int64) (n : Nat × Nat) {ρ : Type} (F : Option Nat → Option ρ) : (am_gr (pu_hp s I P J n) (some 1) 8 11).bind F = F (some 15) := gr_h (hW.1 1 _ rfl) (hW.2 1 11 _ rfl) rfl I J n F
theorem gr1_12 (hW : pu_W s P) (I : Nat → Nat → Int32) (J : Nat → Nat → Int64) (n : Nat × Nat) {ρ : Type} (F : Option Nat → Option ρ) : (am_gr (pu_hp s I P J n) (some 1) 8 12).bind F = F (some 21) := gr_h (hW.1 1 _ rfl) (hW.2 1 12 _ rfl) rfl I J n F
theorem gr1_13 (hW : pu_W s P) (I : Nat → Nat → Int32) (J : Nat → Nat → Int64) (n : Nat × Nat) {ρ : Type} (F : Option Nat → Option ρ) : (am_gr (pu_hp s I P J n) (some 1) 8 13).bind F = F (some 22) := gr_h (hW.1 1 _ rfl) (hW.2 1 13 _ rfl) rfl I J n F
theorem gr1_14 (hW : pu_W s P) (I : Nat → Nat → Int32) (J : Nat → Nat → Int64) (n : Nat × Nat) {ρ : Type} (F : Option Nat → Option ρ) : (am_gr (pu_hp s I P J n) (some 1) 8 14).bind F = F (some 23) := gr_h (hW.1 1 _ rfl) (hW.2 1 14 _ rfl) rfl I J n F
theorem gr1_15 (hW : pu_W s P) (I : Nat → Nat → Int32) (J : Nat → Nat → Int64) (n : Nat × Nat) {ρ : Type} (F : Option Nat → Option ρ) : (am_gr (pu_hp s I P J n) (some 1) 8 15).bind F = F (some 26) := gr_h (hW.1 1 _ rfl) (hW.2 1 15 _ rfl) rfl I J n F
theorem gr1_16 (hW : pu_W s P) (I : Nat → Nat → Int32) (J : Nat → Nat → Int64) (n : Nat × Nat) {ρ : Type} (F : Option Nat → Option ρ) : (am_gr (pu_hp s I P J n) (some 1) 8 16).bind F = F (some 29) := gr_h (hW.1 1 _ rfl) (hW.2 1 16 _ rfl) rfl I J n F
theorem gr1_17 (hW : pu_W s P) (I : Nat → Nat → Int32) (J : Nat → Nat → Int64) (n : Nat × Nat) {ρ : Type} (F : Option Nat → Option ρ) : (am_gr (pu_hp s I P J n) (some 1) 8 17).bind F = F (some 36) := gr_h (hW.1 1 _ rfl) (hW.2 1 17 _ rfl) rfl I J n F
theorem gr1_18 (hW : pu_W s P) (I : Nat → Nat → Int32) (J : Nat → Nat → Int64) (n : Nat × Nat) {ρ : Type} (F : Option Nat → Option ρ) : (am_gr (pu_hp s I P J n) (some 1) 8 18).bind F = F (some 39) := gr_h (hW.1 1 _ rfl) (hW.2 1 18 _ rfl) rfl I J n F
theorem gr5_0 (hW : pu_W s P) (I : Nat → Nat → Int32) (J : Nat → Nat → Int64) (n : Nat × Nat) {ρ : Type} (F : Option Nat → Option ρ) : (am_gr (pu_hp s I P J n) (some 5) 3 0).bind F = F (some 6) := gr_h (hW.1 5 _ rfl) (hW.2 5 0 _ rfl) rfl I J n F
theorem gr7_0 (hW : pu_W s P) (I : Nat → Nat → Int32) (J : Nat → Nat → Int64) (n : Nat × Nat) {ρ : Type} (F : Option Nat → Option ρ) : (am_gr (pu_hp s I P J n) (some 7) 6 0).bind F = F (some 8) := gr_h (hW.1 7 _ rfl) (hW.2 7 0 _ rfl) rfl I J n F
theorem gr7_1 (hW : pu_W s P) (I : Nat → Nat → Int32) (J : Nat → Nat → Int64) (n : Nat × Nat) {ρ : Type} (F : Option Nat → Option ρ) : (am_gr (pu_hp s I P J n) (some 7) 6 1).bind F = F (some 9) := gr_h (hW.1 7 _ rfl) (hW.2 7 1 _ rfl) rfl I J n F
theorem gr7_2 (hW : pu_W s P) (I : Nat → Nat → Int32) (J : Nat → Nat → Int64) (n : Nat × Nat) {ρ : Type} (F : Option Nat → Option ρ) : (am_gr (pu_hp s I P J n) (some 7) 6 2).bind F = F (some 10) := gr_h (hW.1 7 _ rfl) (hW.2 7 2 _ rfl) rfl I J n F
theorem gr11_0 (hW : pu_W s P) (I : Nat → Nat → Int32) (J : Nat → Nat → Int64) (n : Nat × Nat) {ρ : Type} (F : Option Nat → Option ρ) : (am_gr (pu_hp s I P J n) (some 11) 6 0).bind F = F (some 12) := gr_h (hW.1 11 _ rfl) (hW.2 11 0 _ rfl) rfl I J n F
theorem gr11_1 (hW : pu_W s P) (I : Nat → Nat → Int32) (J : Nat → Nat → Int64) (n : Nat × Nat) {ρ : Type} (F : Option Nat → Option ρ) : (am_gr (pu_hp s I P J n) (some 11) 6 1).bind F = F (some 13) := gr_h (hW.1 11 _ rfl) (hW.2 11 1 _ rfl) rfl I J n F
theorem gr11_2 (hW : pu_W s P) (I : Nat → Nat → Int32) (J : Nat → Nat → Int64) (n : Nat × Nat) {ρ : Type} (F : Option Nat → Option ρ) : (am_gr (pu_hp s I P J n) (some 11) 6 2).bind F = F (some 14) := gr_h (hW.1 11 _ rfl) (hW.2 11 2 _ rfl) rfl I J n F
theorem gr15_1 (hW : pu_W s P) (I : Nat → Nat → Int32) (J : Nat → Nat → Int64) (n : Nat × Nat) {ρ : Type} (F : Option Nat → Option ρ) : (am_gr (pu_hp s I P J n) (some 15) 0 1).bind F = F (some 16) := gr_h (hW.1 15 _ rfl) (hW.2 15 1 _ rfl) rfl I J n F
theorem gr15_2 (hW : pu_W s P) (I : Nat → Nat → Int32) (J : Nat → Nat → Int64) (n : Nat × Nat) {ρ : Type} (F : Option Nat → Option ρ) : (am_gr (pu_hp s I P J n) (some 15) 0 2).bind F = F (some 17) := gr_h (hW.1 15 _ rfl) (hW.2 15 2 _ rfl) rfl I J n F
theorem gr15_3 (hW : pu_W s P) (I : Nat → Nat → Int32) (J : Nat → Nat → Int64) (n : Nat × Nat) {ρ : Type} (F : Option Nat → Option ρ) : (am_gr (pu_hp s I P J n) (some 15) 0 3).bind F = F (some 18) := gr_h (hW.1 15 _ rfl) (hW.2 15 3 _ rfl) rfl I J n F
theorem gr15_4 (hW : pu_W s P) (I : Nat → Nat → Int32) (J : Nat → Nat → Int64) (n : Nat × Nat) {ρ : Type} (F : Option Nat → Option ρ) : (am_gr (pu_hp s I P J n) (some 15) 0 4).bind F = F (some 19) := gr_h (hW.1 15 _ rfl) (hW.2 15 4 _ rfl) rfl I J n F
theorem gr15_9 (hW : pu_W s P) (I : Nat → Nat → Int32) (J : Nat → Nat → Int64) (n : Nat × Nat) {ρ : Type} (F : Option Nat → Option ρ) : (am_gr (pu_hp s I P J n) (some 15) 0 9).bind F = F (some 20) := gr_h (hW.1 15 _ rfl) (hW.2 15 9 _ rfl) rfl I J n F
theorem gr23_4 (hW : pu_W s P) (I : Nat → Nat → Int32) (J : Nat → Nat → Int64) (n : Nat × Nat) {ρ : Type} (F : Option Nat → Option ρ) : (am_gr (pu_hp s I P J n) (some 23) 5 4).bind F = F (some 24) := gr_h (hW.1 23 _ rfl) (hW.2 23 4 _ rfl) rfl I J n F
theorem gr23_11 (hW : pu_W s P) (I : Nat → Nat → Int32) (J : Nat → Nat → Int64) (n : Nat × Nat) {ρ : Type} (F : Option Nat → Option ρ) : (am_gr (pu_hp s I P J n) (some 23) 5 11).bind F = F (some 25) := gr_h (hW.1 23 _ rfl) (hW.2 23 11 _ rfl) rfl I J n F
theorem gr26_4 (hW : pu_W s P) (I : Nat → Nat → Int32) (J : Nat → Nat → Int64) (n : Nat × Nat) {ρ : Type} (F : Option Nat → Option ρ) : (am_gr (pu_hp s I P J n) (some 26) 5 4).bind F = F (some 27) := gr_h (hW.1 26 _ rfl) (hW.2 26 4 _ rfl) rfl I J n F
theorem gr26_11 (hW : pu_W s P) (I : Nat → Nat → Int32) (J : Nat → Nat → Int64) (n : Nat × Nat) {ρ : Type} (F : Option Nat → Option ρ) : (am_gr (pu_hp s I P J n) (some 26) 5 11).bind F = F (some 28) := gr_h (hW.1 26 _ rfl) (hW.2 26 11 _ rfl) rfl I J n F
theorem gr29_0 (hW : pu_W s P) (I : Nat → Nat → Int32) (J : Nat → Nat → Int64) (n : Nat × Nat) {ρ : Type} (F : Option Nat → Option ρ) : (am_gr (pu_hp s I P J n) (some 29) 4 0).bind F = F (some 30) := gr_h (hW.1 29 _ rfl) (hW.2 29 0 _ rfl) rfl I J n F
theorem gr29_1 (hW : pu_W s P) (I : Nat → Nat → Int32) (J : Nat → Nat → Int64) (n : Nat × Nat) {ρ : Type} (F : Option Nat → Option ρ) : (am_gr (pu_hp s I P J n) (some 29) 4 1).bind F = F (some 31) := gr_h (hW.1 29 _ rfl) (hW.2 29 1 _ rfl) rfl I J n F
theorem gr29_2 (hW : pu_W s P) (I : Nat → Nat → Int32) (J : Nat → Nat → Int64) (n : Nat × Nat) {ρ : Type} (F : Option Nat → Option ρ) : (am_gr (pu_hp s I P J n) (some 29) 4 2).bind F = F (some 32) := gr_h (hW.1 29 _ rfl) (hW.2 29 2 _ rfl) rfl I J n F
theorem gr29_3 (hW : pu_W s P) (I : Nat → Nat → Int32) (J : Nat → Nat → Int64) (n : Nat × Nat) {ρ : Type} (F : Option Nat → Option ρ) : (am_gr (pu_hp s I P J n) (some 29) 4 3).bind F = F (some 33) := gr_h (hW.1 29 _ rfl) (hW.2 29 3 _ rfl) rfl I J n F
theorem gr29_4 (hW : pu_W s P) (I : Nat → Nat → Int32) (J : Nat → Nat → Int64) (n : Nat × Nat) {ρ : Type} (F : Option Nat → Option ρ) : (am_gr (pu_hp s I P J n) (some 29) 4 4).bind F = F (some 34) := gr_h (hW.1 29 _ rfl) (hW.2 29 4 _ rfl) rfl I J n F
theorem gr29_6 (hW : pu_W s P) (I : Nat → Nat → Int32) (J : Nat → Nat → Int64) (n : Nat × Nat) {ρ : Type} (F : Option Nat → Option ρ) : (am_gr (pu_hp s I P J n) (some 29) 4 6).bind F = F (some 35) := gr_h (hW.1 29 _ rfl) (hW.2 29 6 _ rfl) rfl I J n F
theorem gr36_0 (hW : pu_W s P) (I : Nat → Nat → Int32) (J : Nat → Nat → Int64) (n : Nat × Nat) {ρ : Type} (F : Option Nat → Option ρ) : (am_gr (pu_hp s I P J n) (some 36) 1 0).bind F = F (some 37) := gr_h (hW.1 36 _ rfl) (hW.2 36 0 _ rfl) rfl I J n F
theorem gr36_1 (hW : pu_W s P) (I : Nat → Nat → Int32) (J : Nat → Nat → Int64) (n : Nat × Nat) {ρ : Type} (F : Option Nat → Option ρ) : (am_gr (pu_hp s I P J n) (some 36) 1 1).bind F = F (some 38) := gr_h (hW.1 36 _ rfl) (hW.2 36 1 _ rfl) rfl I J n F
theorem pu_W.v {a k : Nat} {x : Option Nat} (hW : pu_W s P) (h : rft a k = none) : pu_W s (pu_v P a k x) := by
  refine ⟨hW.1, fun b j c hc => ?_⟩
  rw [v_n]
  · exact hW.2 b j c hc
  · rintro ⟨rfl, rfl⟩; rw [h] at hc; cases hc
theorem pu_W.f {P' : Nat → Nat → Option Nat} (hW : pu_W s P) (h : ∀ a k, rft a k ≠ none → P' a k = P a k) : pu_W s P' := ⟨hW.1, fun b j c hc => by rw [h b j (by rw [hc]; exact fun q => by cases q)]; exact hW.2 b j c hc⟩
end WO
