/-! the static world: the cells that the two constructors make (printed) -/
def shp : Nat → Option pu_S
  | 1 => some (0, 8, 0)
  | 2 => some (2, 4, 4)
  | 3 => some (2, 5, 8)
  | 4 => some (2, 6, 10)
  | 5 => some (0, 3, 0)
  | 6 => some (1, 2, 80)
  | 7 => some (0, 6, 0)
  | 8 => some (1, 0, 4)
  | 9 => some (1, 0, 4)
  | 10 => some (1, 0, 12)
  | 11 => some (0, 6, 0)
  | 12 => some (1, 0, 4)
  | 13 => some (1, 0, 4)
  | 14 => some (1, 0, 12)
  | 15 => some (0, 0, 0)
  | 16 => some (1, 0, 3)
  | 17 => some (1, 0, 3)
  | 18 => some (1, 0, 3)
  | 19 => some (1, 0, 3)
  | 20 => some (1, 0, 12)
  | 21 => some (0, 2, 0)
  | 22 => some (0, 2, 0)
  | 23 => some (0, 5, 0)
  | 24 => some (1, 0, 3)
  | 25 => some (1, 0, 12)
  | 26 => some (0, 5, 0)
  | 27 => some (1, 0, 3)
  | 28 => some (1, 0, 12)
  | 29 => some (0, 4, 0)
  | 30 => some (1, 0, 10)
  | 31 => some (1, 3, 10)
  | 32 => some (1, 0, 4)
  | 33 => some (2, 6, 120)
  | 34 => some (1, 0, 120)
  | 35 => some (1, 0, 20)
  | 36 => some (0, 1, 0)
  | 37 => some (1, 0, 96)
  | 38 => some (1, 0, 96)
  | 39 => some (1, 0, 3)
  | 40 => some (0, 9, 0)
  | 41 => some (1, 0, 4)
  | 42 => some (1, 0, 12)
  | 43 => some (1, 0, 12)
  | 44 => some (1, 0, 12)
  | 45 => some (1, 0, 4)
  | 46 => some (1, 0, 4)
  | 47 => some (1, 0, 4)
  | 48 => some (1, 0, 4)
  | 49 => some (1, 0, 48)
  | 50 => some (1, 0, 4)
  | 51 => some (1, 0, 4)
  | 52 => some (1, 0, 8)
  | 53 => some (1, 0, 8)
  | 54 => some (1, 0, 8)
  | 55 => some (1, 0, 8)
  | 56 => some (1, 0, 10)
  | 57 => some (1, 0, 10)
  | 58 => some (1, 0, 10)
  | 59 => some (1, 0, 12)
  | 60 => some (1, 1, 80)
  | 61 => some (1, 0, 4)
  | 62 => some (1, 0, 4)
  | 63 => some (1, 0, 12)
  | 64 => some (1, 0, 3)
  | 65 => some (1, 0, 3)
  | 66 => some (1, 0, 3)
  | 67 => some (1, 0, 12)
  | 68 => some (1, 0, 3)
  | 69 => some (1, 0, 3)
  | 70 => some (1, 0, 12)
  | 71 => some (1, 0, 96)
  | 72 => some (1, 0, 128)
  | 73 => some (1, 3, 10)
  | 74 => some (1, 0, 10)
  | 75 => some (1, 0, 4)
  | 76 => some (1, 0, 128)
  | 77 => some (1, 0, 128)
  | _ => none
def rft : Nat → Nat → Option Nat
  | 1, 0 => some 2
  | 1, 1 => some 3
  | 1, 2 => some 4
  | 1, 6 => some 5
  | 1, 7 => some 7
  | 1, 8 => some 11
  | 1, 11 => some 15
  | 1, 12 => some 21
  | 1, 13 => some 22
  | 1, 14 => some 23
  | 1, 15 => some 26
  | 1, 16 => some 29
  | 1, 17 => some 36
  | 1, 18 => some 39
  | 5, 0 => some 6
  | 7, 0 => some 8
  | 7, 1 => some 9
  | 7, 2 => some 10
  | 11, 0 => some 12
  | 11, 1 => some 13
  | 11, 2 => some 14
  | 15, 1 => some 16
  | 15, 2 => some 17
  | 15, 3 => some 18
  | 15, 4 => some 19
  | 15, 9 => some 20
  | 23, 4 => some 24
  | 23, 11 => some 25
  | 26, 4 => some 27
  | 26, 11 => some 28
  | 29, 0 => some 30
  | 29, 1 => some 31
  | 29, 2 => some 32
  | 29, 3 => some 33
  | 29, 4 => some 34
  | 29, 6 => some 35
  | 36, 0 => some 37
  | 36, 1 => some 38
  | 40, 1 => some 41
  | 40, 2 => some 42
  | 40, 3 => some 43
  | 40, 4 => some 44
  | 40, 5 => some 45
  | 40, 6 => some 46
  | 40, 7 => some 47
  | 40, 8 => some 48
  | 40, 9 => some 49
  | 40, 10 => some 50
  | 40, 11 => some 51
  | 40, 13 => some 52
  | 40, 14 => some 53
  | 40, 15 => some 54
  | 40, 16 => some 55
  | 40, 18 => some 56
  | 40, 19 => some 57
  | 40, 20 => some 58
  | 40, 22 => some 59
  | 40, 25 => some 60
  | 40, 28 => some 61
  | 40, 29 => some 62
  | 40, 30 => some 63
  | 40, 34 => some 64
  | 40, 35 => some 65
  | 40, 36 => some 66
  | 40, 41 => some 67
  | 40, 43 => some 68
  | 40, 50 => some 69
  | 40, 56 => some 70
  | 40, 59 => some 71
  | 40, 63 => some 72
  | 40, 66 => some 73
  | 40, 67 => some 74
  | 40, 68 => some 75
  | 40, 70 => some 76
  | 40, 71 => some 77
  | _, _ => none
def pu_W (s : Nat → Option pu_S) (P : Nat → Nat → Option Nat) : Prop := (∀ a z, shp a = some z → s a = some z) ∧ ∀ a k b, rft a k = some b → P a k = some b
section WO
variable {s : Nat → Option pu_S} {P : Nat → Nat → Option Nat}
theorem gr1_0 (hW : pu_W s P) (I : Nat → Nat → Int32) (J : Nat → Nat → Int64) (n : Nat × Nat) {ρ : Type} (F : Option Nat → Option ρ) : (am_gr (pu_hp s I P J n) (some 1) 8 0).bind F = F (some 2) := gr_h (hW.1 1 _ rfl) (hW.2 1 0 _ rfl) rfl I J n F
theorem gr1_1 (hW : pu_W s P) (I : Nat → Nat → Int32) (J : Nat → Nat → Int64) (n : Nat × Nat) {ρ : Type} (F : Option Nat → Option ρ) : (am_gr (pu_hp s I P J n) (some 1) 8 1).bind F = F (some 3) := gr_h (hW.1 1 _ rfl) (hW.2 1 1 _ rfl) rfl I J n F
theorem gr1_2 (hW : pu_W s P) (I : Nat → Nat → Int32) (J : Nat → Nat → Int64) (n : Nat × Nat) {ρ : Type} (F : Option Nat → Option ρ) : (am_gr (pu_hp s I P J n) (some 1) 8 2).bind F = F (some 4) := gr_h (hW.1 1 _ rfl) (hW.2 1 2 _ rfl) rfl I J n F
theorem gr1_6 (hW : pu_W s P) (I : Nat → Nat → Int32) (J : Nat → Nat → Int64) (n : Nat × Nat) {ρ : Type} (F : Option Nat → Option ρ) : (am_gr (pu_hp s I P J n) (some 1) 8 6).bind F = F (some 5) := gr_h (hW.1 1 _ rfl) (hW.2 1 6 _ rfl) rfl I J n F
theorem gr1_7 (hW : pu_W s P) (I : Nat → Nat → Int32) (J : Nat → Nat → Int64) (n : Nat × Nat) {ρ : Type} (F : Option Nat → Option ρ) : (am_gr (pu_hp s I P J n) (some 1) 8 7).bind F = F (some 7) := gr_h (hW.1 1 _ rfl) (hW.2 1 7 _ rfl) rfl I J n F
theorem gr1_8 (hW : pu_W s P) (I : Nat → Nat → Int32) (J : Nat → Nat → Int64) (n : Nat × Nat) {ρ : Type} (F : Option Nat → Option ρ) : (am_gr (pu_hp s I P J n) (some 1) 8 8).bind F = F (some 11) := gr_h (hW.1 1 _ rfl) (hW.2 1 8 _ rfl) rfl I J n F
theorem gr1_11 (hW : pu_W s P) (I : Nat → Nat → Int32) (J : Nat → Nat → Int64) (n : Nat × Nat) {ρ : Type} (F : Option Nat → Option ρ) : (am_gr (pu_hp s I P J n) (some 1) 8 11).bind F = F (some 15) := gr_h (hW.1 1 _ rfl) (hW.2 1 11 _ rfl) rfl I J n F
theorem gr1_12 (hW : pu_W s P) (I : Nat → Nat → Int32) (J : Nat → Nat → Int64) (n : Nat × Nat) {ρ : Type} (F : Option Nat → Option ρ) : (am_gr (pu_hp s I P J n) (some 1) 8 12).bind F = F (some 21) := gr_h (hW.1 1 _ rfl) (hW.2 1 12 _ rfl) rfl I J n F
theorem gr1_13 (hW : pu_W s P) (I : Nat → Nat → Int32) (J : Nat → Nat → Int64) (n : Nat × Nat) {ρ : Type} (F : Option Nat → Option ρ) : (am_gr (pu_hp s I P J n) (some 1) 8 13).bind F = F (some 22) := gr_h (hW.1 1 _ rfl) (hW.2 1 13 _ rfl) rfl I J n F
theorem gr1_14 (hW : pu_W s P) (I : Nat → Nat → Int32) (J : Nat → Nat → Int64) (n : Nat × Nat) {ρ : Type} (F : Option Nat → Option ρ) : (am_gr (pu_hp s I P J n) (some 1) 8 14).bind F = F (some 23) := gr_h (hW.1 1 _ rfl) (hW.2 1 14 _ rfl) rfl I J n F
theorem gr1_15 (hW : pu_W s P) (I : Nat → Nat → Int32) (J : Nat → Nat → Int64) (n : Nat × Nat) {ρ : Type} (F : Option Nat → Option ρ) : (am_gr (pu_hp s I P J n) (some 1) 8 15).bind F = F (some 26) := gr_h (hW.1 1 _ rfl) (hW.2 1 15 _ rfl) rfl I J n F
theorem gr1_16 (hW : pu_W s P) (I : Nat → Nat → Int32) (J : Nat → Nat → Int64) (n : Nat × Nat) {ρ : Type} (F : Option Nat → Option ρ) : (am_gr (pu_hp s I P J n) (some 1) 8 16).bind F = F (some 29) := gr_h (hW.1 1 _ rfl) (hW.2 1 16 _ rfl) rfl I J n F
theorem gr1_17 (hW : pu_W s P) (I : Nat → Nat → Int32) (J : Nat → Nat → Int64) (n : Nat × Nat) {ρ : Type} (F : Option Nat → Option ρ) : (am_gr (pu_hp s I P J n) (some 1) 8 17).bind F = F (some 36) := gr_h (hW.1 1 _ rfl) (hW.2 1 17 _ rfl) rfl I J n F
theorem gr1_18 (hW : pu_W s P) (I : Nat → Nat → Int32) (J : Nat → Nat → Int64) (n : Nat × Nat) {ρ : Type} (F : Option Nat → Option ρ) : (am_gr (pu_hp s I P J n) (some 1) 8 18).bind F = F (some 39) := gr_h (hW.1 1 _ rfl) (hW.2 1 18 _ rfl) rfl I J n F
theorem gr5_0 (hW : pu_W s P) (I : Nat → Nat → Int32) (J : Nat → Nat → Int64) (n : Nat × Nat) {ρ : Type} (F : Option Nat → Option ρ) : (am_gr (pu_hp s I P J n) (some 5) 3 0).bind F = F (some 6) := gr_h (hW.1 5 _ rfl) (hW.2 5 0 _ rfl) rfl I J n F
theorem gr7_0 (hW : pu_W s P) (I : Nat → Nat → Int32) (J : Nat → Nat → Int64) (n : Nat × Nat) {ρ : Type} (F : Option Nat → Option ρ) : (am_gr (pu_hp s I P J n) (some 7) 6 0).bind F = F (some 8) := gr_h (hW.1 7 _ rfl) (hW.2 7 0 _ rfl) rfl I J n F
theorem gr7_1 (hW : pu_W s P) (I : Nat → Nat → Int32) (J : Nat → Nat → Int64) (n : Nat × Nat) {ρ : Type} (F : Option Nat → Option ρ) : (am_gr (pu_hp s I P J n) (some 7) 6 1).bind F = F (some 9) := gr_h (hW.1 7 _ rfl) (hW.2 7 1 _ rfl) rfl I J n F
theorem gr7_2 (hW : pu_W s P) (I : Nat → Nat → Int32) (J : Nat → Nat → Int64) (n : Nat × Nat) {ρ : Type} (F : Option Nat → Option ρ) : (am_gr (pu_hp s I P J n) (some 7) 6 2).bind F = F (some 10) := gr_h (hW.1 7 _ rfl) (hW.2 7 2 _ rfl) rfl I J n F
theorem gr11_0 (hW : pu_W s P) (I : Nat → Nat → Int32) (J : Nat → Nat → Int64) (n : Nat × Nat) {ρ : Type} (F : Option Nat → Option ρ) : (am_gr (pu_hp s I P J n) (some 11) 6 0).bind F = F (some 12) := gr_h (hW.1 11 _ rfl) (hW.2 11 0 _ rfl) rfl I J n F
theorem gr11_1 (hW : pu_W s P) (I : Nat → Nat → Int32) (J : Nat → Nat → Int64) (n : Nat × Nat) {ρ : Type} (F : Option Nat → Option ρ) : (am_gr (pu_hp s I P J n) (some 11) 6 1).bind F = F (some 13) := gr_h (hW.1 11 _ rfl) (hW.2 11 1 _ rfl) rfl I J n F
theorem gr11_2 (hW : pu_W s P) (I : Nat → Nat → Int32) (J : Nat → Nat → Int64) (n : Nat × Nat) {ρ : Type} (F : Option Nat → Option ρ) : (am_gr (pu_hp s I P J n) (some 11) 6 2).bind F = F (some 14) := gr_h (hW.1 11 _ rfl) (hW.2 11 2 _ rfl) rfl I J n F
theorem gr15_1 (hW : pu_W s P) (I : Nat → Nat → Int32) (J : Nat → Nat → Int64) (n : Nat × Nat) {ρ : Type} (F : Option Nat → Option ρ) : (am_gr (pu_hp s I P J n) (some 15) 0 1).bind F = F (some 16) := gr_h (hW.1 15 _ rfl) (hW.2 15 1 _ rfl) rfl I J n F
theorem gr15_2 (hW : pu_W s P) (I : Nat → Nat → Int32) (J : Nat → Nat → Int64) (n : Nat × Nat) {ρ : Type} (F : Option Nat → Option ρ) : (am_gr (pu_hp s I P J n) (some 15) 0 2).bind F = F (some 17) := gr_h (hW.1 15 _ rfl) (hW.2 15 2 _ rfl) rfl I J n F
theorem gr15_3 (hW : pu_W s P) (I : Nat → Nat → Int32) (J : Nat → Nat → Int64) (n : Nat × Nat) {ρ : Type} (F : Option Nat → Option ρ) : (am_gr (pu_hp s I P J n) (some 15) 0 3).bind F = F (some 18) := gr_h (hW.1 15 _ rfl) (hW.2 15 3 _ rfl) rfl I J n F
theorem gr15_4 (hW : pu_W s P) (I : Nat → Nat → Int32) (J : Nat → Nat → Int64) (n : Nat × Nat) {ρ : Type} (F : Option Nat → Option ρ) : (am_gr (pu_hp s I P J n) (some 15) 0 4).bind F = F (some 19) := gr_h (hW.1 15 _ rfl) (hW.2 15 4 _ rfl) rfl I J n F
theorem gr15_9 (hW : pu_W s P) (I : Nat → Nat → Int32) (J : Nat → Nat → Int64) (n : Nat × Nat) {ρ : Type} (F : Option Nat → Option ρ) : (am_gr (pu_hp s I P J n) (some 15) 0 9).bind F = F (some 20) := gr_h (hW.1 15 _ rfl) (hW.2 15 9 _ rfl) rfl I J n F
theorem gr23_4 (hW : pu_W s P) (I : Nat → Nat → Int32) (J : Nat → Nat → Int64) (n : Nat × Nat) {ρ : Type} (F : Option Nat → Option ρ) : (am_gr (pu_hp s I P J n) (some 23) 5 4).bind F = F (some 24) := gr_h (hW.1 23 _ rfl) (hW.2 23 4 _ rfl) rfl I J n F
theorem gr23_11 (hW : pu_W s P) (I : Nat → Nat → Int32) (J : Nat → Nat → Int64) (n : Nat × Nat) {ρ : Type} (F : Option Nat → Option ρ) : (am_gr (pu_hp s I P J n) (some 23) 5 11).bind F = F (some 25) := gr_h (hW.1 23 _ rfl) (hW.2 23 11 _ rfl) rfl I J n F
theorem gr26_4 (hW : pu_W s P) (I : Nat → Nat → Int32) (J : Nat → Nat → Int64) (n : Nat × Nat) {ρ : Type} (F : Option Nat → Option ρ) : (am_gr (pu_hp s I P J n) (some 26) 5 4).bind F = F (some 27) := gr_h (hW.1 26 _ rfl) (hW.2 26 4 _ rfl) rfl I J n F
theorem gr26_11 (hW : pu_W s P) (I : Nat → Nat → Int32) (J : Nat → Nat → Int64) (n : Nat × Nat) {ρ : Type} (F : Option Nat → Option ρ) : (am_gr (pu_hp s I P J n) (some 26) 5 11).bind F = F (some 28) := gr_h (hW.1 26 _ rfl) (hW.2 26 11 _ rfl) rfl I J n F
theorem gr29_0 (hW : pu_W s P) (I : Nat → Nat → Int32) (J : Nat → Nat → Int64) (n : Nat × Nat) {ρ : Type} (F : Option Nat → Option ρ) : (am_gr (pu_hp s I P J n) (some 29) 4 0).bind F = F (some 30) := gr_h (hW.1 29 _ rfl) (hW.2 29 0 _ rfl) rfl I J n F
theorem gr29_1 (hW : pu_W s P) (I : Nat → Nat → Int32) (J : Nat → Nat → Int64) (n : Nat × Nat) {ρ : Type} (F : Option Nat → Option ρ) : (am_gr (pu_hp s I P J n) (some 29) 4 1).bind F = F (some 31) := gr_h (hW.1 29 _ rfl) (hW.2 29 1 _ rfl) rfl I J n F
theorem gr29_2 (hW : pu_W s P) (I : Nat → Nat → Int32) (J : Nat → Nat → Int64) (n : Nat × Nat) {ρ : Type} (F : Option Nat → Option ρ) : (am_gr (pu_hp s I P J n) (some 29) 4 2).bind F = F (some 32) := gr_h (hW.1 29 _ rfl) (hW.2 29 2 _ rfl) rfl I J n F
theorem gr29_3 (hW : pu_W s P) (I : Nat → Nat → Int32) (J : Nat → Nat → Int64) (n : Nat × Nat) {ρ : Type} (F : Option Nat → Option ρ) : (am_gr (pu_hp s I P J n) (some 29) 4 3).bind F = F (some 33) := gr_h (hW.1 29 _ rfl) (hW.2 29 3 _ rfl) rfl I J n F
theorem gr29_4 (hW : pu_W s P) (I : Nat → Nat → Int32) (J : Nat → Nat → Int64) (n : Nat × Nat) {ρ : Type} (F : Option Nat → Option ρ) : (am_gr (pu_hp s I P J n) (some 29) 4 4).bind F = F (some 34) := gr_h (hW.1 29 _ rfl) (hW.2 29 4 _ rfl) rfl I J n F
theorem gr29_6 (hW : pu_W s P) (I : Nat → Nat → Int32) (J : Nat → Nat → Int64) (n : Nat × Nat) {ρ : Type} (F : Option Nat → Option ρ) : (am_gr (pu_hp s I P J n) (some 29) 4 6).bind F = F (some 35) := gr_h (hW.1 29 _ rfl) (hW.2 29 6 _ rfl) rfl I J n F
theorem gr36_0 (hW : pu_W s P) (I : Nat → Nat → Int32) (J : Nat → Nat → Int64) (n : Nat × Nat) {ρ : Type} (F : Option Nat → Option ρ) : (am_gr (pu_hp s I P J n) (some 36) 1 0).bind F = F (some 37) := gr_h (hW.1 36 _ rfl) (hW.2 36 0 _ rfl) rfl I J n F
theorem gr36_1 (hW : pu_W s P) (I : Nat → Nat → Int32) (J : Nat → Nat → Int64) (n : Nat × Nat) {ρ : Type} (F : Option Nat → Option ρ) : (am_gr (pu_hp s I P J n) (some 36) 1 1).bind F = F (some 38) := gr_h (hW.1 36 _ rfl) (hW.2 36 1 _ rfl) rfl I J n F
theorem gr40_1 (hW : pu_W s P) (I : Nat → Nat → Int32) (J : Nat → Nat → Int64) (n : Nat × Nat) {ρ : Type} (F : Option Nat → Option ρ) : (am_gr (pu_hp s I P J n) (some 40) 9 1).bind F = F (some 41) := gr_h (hW.1 40 _ rfl) (hW.2 40 1 _ rfl) rfl I J n F
theorem gr40_2 (hW : pu_W s P) (I : Nat → Nat → Int32) (J : Nat → Nat → Int64) (n : Nat × Nat) {ρ : Type} (F : Option Nat → Option ρ) : (am_gr (pu_hp s I P J n) (some 40) 9 2).bind F = F (some 42) := gr_h (hW.1 40 _ rfl) (hW.2 40 2 _ rfl) rfl I J n F
theorem gr40_3 (hW : pu_W s P) (I : Nat → Nat → Int32) (J : Nat → Nat → Int64) (n : Nat × Nat) {ρ : Type} (F : Option Nat → Option ρ) : (am_gr (pu_hp s I P J n) (some 40) 9 3).bind F = F (some 43) := gr_h (hW.1 40 _ rfl) (hW.2 40 3 _ rfl) rfl I J n F
theorem gr40_4 (hW : pu_W s P) (I : Nat → Nat → Int32) (J : Nat → Nat → Int64) (n : Nat × Nat) {ρ : Type} (F : Option Nat → Option ρ) : (am_gr (pu_hp s I P J n) (some 40) 9 4).bind F = F (some 44) := gr_h (hW.1 40 _ rfl) (hW.2 40 4 _ rfl) rfl I J n F
theorem gr40_5 (hW : pu_W s P) (I : Nat → Nat → Int32) (J : Nat → Nat → Int64) (n : Nat × Nat) {ρ : Type} (F : Option Nat → Option ρ) : (am_gr (pu_hp s I P J n) (some 40) 9 5).bind F = F (some 45) := gr_h (hW.1 40 _ rfl) (hW.2 40 5 _ rfl) rfl I J n F
theorem gr40_6 (hW : pu_W s P) (I : Nat → Nat → Int32) (J : Nat → Nat → Int64) (n : Nat × Nat) {ρ : Type} (F : Option Nat → Option ρ) : (am_gr (pu_hp s I P J n) (some 40) 9 6).bind F = F (some 46) := gr_h (hW.1 40 _ rfl) (hW.2 40 6 _ rfl) rfl I J n F
theorem gr40_7 (hW : pu_W s P) (I : Nat → Nat → Int32) (J : Nat → Nat → Int64) (n : Nat × Nat) {ρ : Type} (F : Option Nat → Option ρ) : (am_gr (pu_hp s I P J n) (some 40) 9 7).bind F = F (some 47) := gr_h (hW.1 40 _ rfl) (hW.2 40 7 _ rfl) rfl I J n F
theorem gr40_8 (hW : pu_W s P) (I : Nat → Nat → Int32) (J : Nat → Nat → Int64) (n : Nat × Nat) {ρ : Type} (F : Option Nat → Option ρ) : (am_gr (pu_hp s I P J n) (some 40) 9 8).bind F = F (some 48) := gr_h (hW.1 40 _ rfl) (hW.2 40 8 _ rfl) rfl I J n F
theorem gr40_9 (hW : pu_W s P) (I : Nat → Nat → Int32) (J : Nat → Nat → Int64) (n : Nat × Nat) {ρ : Type} (F : Option Nat → Option ρ) : (am_gr (pu_hp s I P J n) (some 40) 9 9).bind F = F (some 49) := gr_h (hW.1 40 _ rfl) (hW.2 40 9 _ rfl) rfl I J n F
theorem gr40_10 (hW : pu_W s P) (I : Nat → Nat → Int32) (J : Nat → Nat → Int64) (n : Nat × Nat) {ρ : Type} (F : Option Nat → Option ρ) : (am_gr (pu_hp s I P J n) (some 40) 9 10).bind F = F (some 50) := gr_h (hW.1 40 _ rfl) (hW.2 40 10 _ rfl) rfl I J n F
theorem gr40_11 (hW : pu_W s P) (I : Nat → Nat → Int32) (J : Nat → Nat → Int64) (n : Nat × Nat) {ρ : Type} (F : Option Nat → Option ρ) : (am_gr (pu_hp s I P J n) (some 40) 9 11).bind F = F (some 51) := gr_h (hW.1 40 _ rfl) (hW.2 40 11 _ rfl) rfl I J n F
theorem gr40_13 (hW : pu_W s P) (I : Nat → Nat → Int32) (J : Nat → Nat → Int64) (n : Nat × Nat) {ρ : Type} (F : Option Nat → Option ρ) : (am_gr (pu_hp s I P J n) (some 40) 9 13).bind F = F (some 52) := gr_h (hW.1 40 _ rfl) (hW.2 40 13 _ rfl) rfl I J n F
theorem gr40_14 (hW : pu_W s P) (I : Nat → Nat → Int32) (J : Nat → Nat → Int64) (n : Nat × Nat) {ρ : Type} (F : Option Nat → Option ρ) : (am_gr (pu_hp s I P J n) (some 40) 9 14).bind F = F (some 53) := gr_h (hW.1 40 _ rfl) (hW.2 40 14 _ rfl) rfl I J n F
theorem gr40_15 (hW : pu_W s P) (I : Nat → Nat → Int32) (J : Nat → Nat → Int64) (n : Nat × Nat) {ρ : Type} (F : Option Nat → Option ρ) : (am_gr (pu_hp s I P J n) (some 40) 9 15).bind F = F (some 54) := gr_h (hW.1 40 _ rfl) (hW.2 40 15 _ rfl) rfl I J n F
theorem gr40_16 (hW : pu_W s P) (I : Nat → Nat → Int32) (J : Nat → Nat → Int64) (n : Nat × Nat) {ρ : Type} (F : Option Nat → Option ρ) : (am_gr (pu_hp s I P J n) (some 40) 9 16).bind F = F (some 55) := gr_h (hW.1 40 _ rfl) (hW.2 40 16 _ rfl) rfl I J n F
theorem gr40_18 (hW : pu_W s P) (I : Nat → Nat → Int32) (J : Nat → Nat → Int64) (n : Nat × Nat) {ρ : Type} (F : Option Nat → Option ρ) : (am_gr (pu_hp s I P J n) (some 40) 9 18).bind F = F (some 56) := gr_h (hW.1 40 _ rfl) (hW.2 40 18 _ rfl) rfl I J n F
theorem gr40_19 (hW : pu_W s P) (I : Nat → Nat → Int32) (J : Nat → Nat → Int64) (n : Nat × Nat) {ρ : Type} (F : Option Nat → Option ρ) : (am_gr (pu_hp s I P J n) (some 40) 9 19).bind F = F (some 57) := gr_h (hW.1 40 _ rfl) (hW.2 40 19 _ rfl) rfl I J n F
theorem gr40_20 (hW : pu_W s P) (I : Nat → Nat → Int32) (J : Nat → Nat → Int64) (n : Nat × Nat) {ρ : Type} (F : Option Nat → Option ρ) : (am_gr (pu_hp s I P J n) (some 40) 9 20).bind F = F (some 58) := gr_h (hW.1 40 _ rfl) (hW.2 40 20 _ rfl) rfl I J n F
theorem gr40_22 (hW : pu_W s P) (I : Nat → Nat → Int32) (J : Nat → Nat → Int64) (n : Nat × Nat) {ρ : Type} (F : Option Nat → Option ρ) : (am_gr (pu_hp s I P J n) (some 40) 9 22).bind F = F (some 59) := gr_h (hW.1 40 _ rfl) (hW.2 40 22 _ rfl) rfl I J n F
theorem gr40_25 (hW : pu_W s P) (I : Nat → Nat → Int32) (J : Nat → Nat → Int64) (n : Nat × Nat) {ρ : Type} (F : Option Nat → Option ρ) : (am_gr (pu_hp s I P J n) (some 40) 9 25).bind F = F (some 60) := gr_h (hW.1 40 _ rfl) (hW.2 40 25 _ rfl) rfl I J n F
theorem gr40_28 (hW : pu_W s P) (I : Nat → Nat → Int32) (J : Nat → Nat → Int64) (n : Nat × Nat) {ρ : Type} (F : Option Nat → Option ρ) : (am_gr (pu_hp s I P J n) (some 40) 9 28).bind F = F (some 61) := gr_h (hW.1 40 _ rfl) (hW.2 40 28 _ rfl) rfl I J n F
theorem gr40_29 (hW : pu_W s P) (I : Nat → Nat → Int32) (J : Nat → Nat → Int64) (n : Nat × Nat) {ρ : Type} (F : Option Nat → Option ρ) : (am_gr (pu_hp s I P J n) (some 40) 9 29).bind F = F (some 62) := gr_h (hW.1 40 _ rfl) (hW.2 40 29 _ rfl) rfl I J n F
theorem gr40_30 (hW : pu_W s P) (I : Nat → Nat → Int32) (J : Nat → Nat → Int64) (n : Nat × Nat) {ρ : Type} (F : Option Nat → Option ρ) : (am_gr (pu_hp s I P J n) (some 40) 9 30).bind F = F (some 63) := gr_h (hW.1 40 _ rfl) (hW.2 40 30 _ rfl) rfl I J n F
theorem gr40_34 (hW : pu_W s P) (I : Nat → Nat → Int32) (J : Nat → Nat → Int64) (n : Nat × Nat) {ρ : Type} (F : Option Nat → Option ρ) : (am_gr (pu_hp s I P J n) (some 40) 9 34).bind F = F (some 64) := gr_h (hW.1 40 _ rfl) (hW.2 40 34 _ rfl) rfl I J n F
theorem gr40_35 (hW : pu_W s P) (I : Nat → Nat → Int32) (J : Nat → Nat → Int64) (n : Nat × Nat) {ρ : Type} (F : Option Nat → Option ρ) : (am_gr (pu_hp s I P J n) (some 40) 9 35).bind F = F (some 65) := gr_h (hW.1 40 _ rfl) (hW.2 40 35 _ rfl) rfl I J n F
theorem gr40_36 (hW : pu_W s P) (I : Nat → Nat → Int32) (J : Nat → Nat → Int64) (n : Nat × Nat) {ρ : Type} (F : Option Nat → Option ρ) : (am_gr (pu_hp s I P J n) (some 40) 9 36).bind F = F (some 66) := gr_h (hW.1 40 _ rfl) (hW.2 40 36 _ rfl) rfl I J n F
theorem gr40_41 (hW : pu_W s P) (I : Nat → Nat → Int32) (J : Nat → Nat → Int64) (n : Nat × Nat) {ρ : Type} (F : Option Nat → Option ρ) : (am_gr (pu_hp s I P J n) (some 40) 9 41).bind F = F (some 67) := gr_h (hW.1 40 _ rfl) (hW.2 40 41 _ rfl) rfl I J n F
theorem gr40_43 (hW : pu_W s P) (I : Nat → Nat → Int32) (J : Nat → Nat → Int64) (n : Nat × Nat) {ρ : Type} (F : Option Nat → Option ρ) : (am_gr (pu_hp s I P J n) (some 40) 9 43).bind F = F (some 68) := gr_h (hW.1 40 _ rfl) (hW.2 40 43 _ rfl) rfl I J n F
theorem gr40_50 (hW : pu_W s P) (I : Nat → Nat → Int32) (J : Nat → Nat → Int64) (n : Nat × Nat) {ρ : Type} (F : Option Nat → Option ρ) : (am_gr (pu_hp s I P J n) (some 40) 9 50).bind F = F (some 69) := gr_h (hW.1 40 _ rfl) (hW.2 40 50 _ rfl) rfl I J n F
theorem gr40_56 (hW : pu_W s P) (I : Nat → Nat → Int32) (J : Nat → Nat → Int64) (n : Nat × Nat) {ρ : Type} (F : Option Nat → Option ρ) : (am_gr (pu_hp s I P J n) (some 40) 9 56).bind F = F (some 70) := gr_h (hW.1 40 _ rfl) (hW.2 40 56 _ rfl) rfl I J n F
theorem gr40_59 (hW : pu_W s P) (I : Nat → Nat → Int32) (J : Nat → Nat → Int64) (n : Nat × Nat) {ρ : Type} (F : Option Nat → Option ρ) : (am_gr (pu_hp s I P J n) (some 40) 9 59).bind F = F (some 71) := gr_h (hW.1 40 _ rfl) (hW.2 40 59 _ rfl) rfl I J n F
theorem gr40_63 (hW : pu_W s P) (I : Nat → Nat → Int32) (J : Nat → Nat → Int64) (n : Nat × Nat) {ρ : Type} (F : Option Nat → Option ρ) : (am_gr (pu_hp s I P J n) (some 40) 9 63).bind F = F (some 72) := gr_h (hW.1 40 _ rfl) (hW.2 40 63 _ rfl) rfl I J n F
theorem gr40_66 (hW : pu_W s P) (I : Nat → Nat → Int32) (J : Nat → Nat → Int64) (n : Nat × Nat) {ρ : Type} (F : Option Nat → Option ρ) : (am_gr (pu_hp s I P J n) (some 40) 9 66).bind F = F (some 73) := gr_h (hW.1 40 _ rfl) (hW.2 40 66 _ rfl) rfl I J n F
theorem gr40_67 (hW : pu_W s P) (I : Nat → Nat → Int32) (J : Nat → Nat → Int64) (n : Nat × Nat) {ρ : Type} (F : Option Nat → Option ρ) : (am_gr (pu_hp s I P J n) (some 40) 9 67).bind F = F (some 74) := gr_h (hW.1 40 _ rfl) (hW.2 40 67 _ rfl) rfl I J n F
theorem gr40_68 (hW : pu_W s P) (I : Nat → Nat → Int32) (J : Nat → Nat → Int64) (n : Nat × Nat) {ρ : Type} (F : Option Nat → Option ρ) : (am_gr (pu_hp s I P J n) (some 40) 9 68).bind F = F (some 75) := gr_h (hW.1 40 _ rfl) (hW.2 40 68 _ rfl) rfl I J n F
theorem gr40_70 (hW : pu_W s P) (I : Nat → Nat → Int32) (J : Nat → Nat → Int64) (n : Nat × Nat) {ρ : Type} (F : Option Nat → Option ρ) : (am_gr (pu_hp s I P J n) (some 40) 9 70).bind F = F (some 76) := gr_h (hW.1 40 _ rfl) (hW.2 40 70 _ rfl) rfl I J n F
theorem gr40_71 (hW : pu_W s P) (I : Nat → Nat → Int32) (J : Nat → Nat → Int64) (n : Nat × Nat) {ρ : Type} (F : Option Nat → Option ρ) : (am_gr (pu_hp s I P J n) (some 40) 9 71).bind F = F (some 77) := gr_h (hW.1 40 _ rfl) (hW.2 40 71 _ rfl) rfl I J n F
theorem pu_W.v {a k : Nat} {x : Option Nat} (hW : pu_W s P) (h : rft a k = none) : pu_W s (pu_v P a k x) := by
  refine ⟨hW.1, fun b j c hc => ?_⟩
  rw [v_n]
  · exact hW.2 b j c hc
  · rintro ⟨rfl, rfl⟩; rw [h] at hc; cases hc
theorem pu_W.f {P' : Nat → Nat → Option Nat} (hW : pu_W s P) (h : ∀ a k, rft a k ≠ none → P' a k = P a k) : pu_W s P' := ⟨hW.1, fun b j c hc => by rw [h b j (by rw [hc]; exact fun q => by cases q)]; exact hW.2 b j c hc⟩
end WO
