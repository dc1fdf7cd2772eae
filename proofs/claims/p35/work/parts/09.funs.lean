/-! the pure functions, printed out of the bytecode -/
/-! DroppingBalls$Page.<init>()V -/
def fX3_init (v0 : Nat) (h : am_H) : Option (am_H) :=
  (am_na h 2 (80 : Int32)).bind fun y1 =>
  (am_pr y1.2 (some v0) 3 0 y1.1).bind fun h2 =>
  some h2
/-! java/util/Arrays.fill([II)V -/
def fJ7_fill_53178_5_b (rec : Option Nat → Int32 → Int32 → Int32 → am_H → Option (am_H)) (v0 : Option Nat) (v1 : Int32) (v2 : Int32) (v3 : Int32) (h : am_H) : Option (am_H) :=
  if v3 ≤ v2 then
    some h
  else
  (am_as h v0 0 v2 v1).bind fun h1 =>
  rec v0 v1 (v2 + (1 : Int32)) v3 h1
def fJ7_fill_53178_5 : Nat → Option Nat → Int32 → Int32 → Int32 → am_H → Option (am_H)
  | 0, _, _, _, _, _ => none
  | n + 1, v0, v1, v2, v3, h => fJ7_fill_53178_5_b  (fJ7_fill_53178_5  n) v0 v1 v2 v3 h
def fJ7_fill_53178 (v0 : Option Nat) (v1 : Int32) (h : am_H) : Option (am_H) :=
  (am_an h v0).bind fun x1 =>
  (fJ7_fill_53178_5 am_fu) v0 v1 (0 : Int32) x1 h
/-! DroppingBalls$Setting.<init>()V -/
def fX6_init (v0 : Nat) (h : am_H) : Option (am_H) :=
  (am_na h 0 (4 : Int32)).bind fun y1 =>
  (am_pr y1.2 (some v0) 6 0 y1.1).bind fun h2 =>
  (am_na h2 0 (4 : Int32)).bind fun y3 =>
  (am_pr y3.2 (some v0) 6 1 y3.1).bind fun h4 =>
  (am_na h4 0 (12 : Int32)).bind fun y5 =>
  (am_pr y5.2 (some v0) 6 2 y5.1).bind fun h6 =>
  (am_pi h6 (some v0) 6 3 (-1 : Int32)).bind fun h7 =>
  (am_gr h7 (some v0) 6 0).bind fun x8 =>
  (fJ7_fill_53178 x8 (100 : Int32) h7).bind fun y9 =>
  (am_gr y9 (some v0) 6 1).bind fun x10 =>
  (fJ7_fill_53178 x10 (48 : Int32) y9).bind fun y11 =>
  (am_gr y11 (some v0) 6 2).bind fun x12 =>
  (fJ7_fill_53178 x12 (-1 : Int32) y11).bind fun y13 =>
  some y13
/-! DroppingBalls$Clock.<init>()V -/
def fX0_init (v0 : Nat) (h : am_H) : Option (am_H) :=
  (am_na h 0 (3 : Int32)).bind fun y1 =>
  (am_pr y1.2 (some v0) 0 1 y1.1).bind fun h2 =>
  (am_na h2 0 (3 : Int32)).bind fun y3 =>
  (am_pr y3.2 (some v0) 0 2 y3.1).bind fun h4 =>
  (am_na h4 0 (3 : Int32)).bind fun y5 =>
  (am_pr y5.2 (some v0) 0 3 y5.1).bind fun h6 =>
  (am_na h6 0 (3 : Int32)).bind fun y7 =>
  (am_pr y7.2 (some v0) 0 4 y7.1).bind fun h8 =>
  (am_na h8 0 (12 : Int32)).bind fun y9 =>
  (am_pr y9.2 (some v0) 0 9 y9.1).bind fun h10 =>
  some h10
/-! DroppingBalls$Fault.<init>()V -/
def fX2_init (v0 : Nat) (h : am_H) : Option (am_H) :=
  (am_pi h (some v0) 2 0 (0 : Int32)).bind fun h1 =>
  some h1
/-! DroppingBalls$Run.<init>(LDroppingBalls$Clock;LDroppingBalls$Fault;)V -/
def fX5_init (v0 : Nat) (v1 : Option Nat) (v2 : Option Nat) (h : am_H) : Option (am_H) :=
  (am_na h 0 (3 : Int32)).bind fun y1 =>
  (am_pr y1.2 (some v0) 5 4 y1.1).bind fun h2 =>
  (am_na h2 0 (12 : Int32)).bind fun y3 =>
  (am_pr y3.2 (some v0) 5 11 y3.1).bind fun h4 =>
  (am_pr h4 (some v0) 5 0 v1).bind fun h5 =>
  (am_pr h5 (some v0) 5 1 v2).bind fun h6 =>
  some h6
/-! DroppingBalls$Play.<init>()V -/
def fX4_init (v0 : Nat) (h : am_H) : Option (am_H) :=
  (am_na h 0 (10 : Int32)).bind fun y1 =>
  (am_pr y1.2 (some v0) 4 0 y1.1).bind fun h2 =>
  (am_na h2 3 (10 : Int32)).bind fun y3 =>
  (am_pr y3.2 (some v0) 4 1 y3.1).bind fun h4 =>
  (am_na h4 0 (4 : Int32)).bind fun y5 =>
  (am_pr y5.2 (some v0) 4 2 y5.1).bind fun h6 =>
  (am_nq h6 6 (120 : Int32)).bind fun y7 =>
  (am_pr y7.2 (some v0) 4 3 y7.1).bind fun h8 =>
  (am_na h8 0 (120 : Int32)).bind fun y9 =>
  (am_pr y9.2 (some v0) 4 4 y9.1).bind fun h10 =>
  (am_na h10 0 (20 : Int32)).bind fun y11 =>
  (am_pr y11.2 (some v0) 4 6 y11.1).bind fun h12 =>
  some h12
/-! DroppingBalls$Evidence.<init>()V -/
def fX1_init (v0 : Nat) (h : am_H) : Option (am_H) :=
  (am_na h 0 (96 : Int32)).bind fun y1 =>
  (am_pr y1.2 (some v0) 1 0 y1.1).bind fun h2 =>
  (am_na h2 0 (96 : Int32)).bind fun y3 =>
  (am_pr y3.2 (some v0) 1 1 y3.1).bind fun h4 =>
  some h4
/-! DroppingBalls.<init>()V -/
def fX8_init (v0 : Nat) (h : am_H) : Option (am_H) :=
  (am_nq h 4 (4 : Int32)).bind fun y1 =>
  (am_pr y1.2 (some v0) 8 0 y1.1).bind fun h2 =>
  (am_nq h2 5 (8 : Int32)).bind fun y3 =>
  (am_pr y3.2 (some v0) 8 1 y3.1).bind fun h4 =>
  (am_nq h4 6 (10 : Int32)).bind fun y5 =>
  (am_pr y5.2 (some v0) 8 2 y5.1).bind fun h6 =>
  (am_nwo h6 3 df_3).bind fun y7 =>
  (fX3_init y7.1 y7.2).bind fun y8 =>
  (am_pr y8 (some v0) 8 6 (some y7.1)).bind fun h9 =>
  (am_nwo h9 6 df_6).bind fun y10 =>
  (fX6_init y10.1 y10.2).bind fun y11 =>
  (am_pr y11 (some v0) 8 7 (some y10.1)).bind fun h12 =>
  (am_nwo h12 6 df_6).bind fun y13 =>
  (fX6_init y13.1 y13.2).bind fun y14 =>
  (am_pr y14 (some v0) 8 8 (some y13.1)).bind fun h15 =>
  (am_nwo h15 0 df_0).bind fun y16 =>
  (fX0_init y16.1 y16.2).bind fun y17 =>
  (am_pr y17 (some v0) 8 11 (some y16.1)).bind fun h18 =>
  (am_nwo h18 2 df_2).bind fun y19 =>
  (fX2_init y19.1 y19.2).bind fun y20 =>
  (am_pr y20 (some v0) 8 12 (some y19.1)).bind fun h21 =>
  (am_nwo h21 2 df_2).bind fun y22 =>
  (fX2_init y22.1 y22.2).bind fun y23 =>
  (am_pr y23 (some v0) 8 13 (some y22.1)).bind fun h24 =>
  (am_nwo h24 5 df_5).bind fun y25 =>
  (am_gr y25.2 (some v0) 8 11).bind fun x26 =>
  (am_gr y25.2 (some v0) 8 12).bind fun x27 =>
  (fX5_init y25.1 x26 x27 y25.2).bind fun y28 =>
  (am_pr y28 (some v0) 8 14 (some y25.1)).bind fun h29 =>
  (am_nwo h29 5 df_5).bind fun y30 =>
  (am_gr y30.2 (some v0) 8 11).bind fun x31 =>
  (am_gr y30.2 (some v0) 8 12).bind fun x32 =>
  (fX5_init y30.1 x31 x32 y30.2).bind fun y33 =>
  (am_pr y33 (some v0) 8 15 (some y30.1)).bind fun h34 =>
  (am_nwo h34 4 df_4).bind fun y35 =>
  (fX4_init y35.1 y35.2).bind fun y36 =>
  (am_pr y36 (some v0) 8 16 (some y35.1)).bind fun h37 =>
  (am_nwo h37 1 df_1).bind fun y38 =>
  (fX1_init y38.1 y38.2).bind fun y39 =>
  (am_pr y39 (some v0) 8 17 (some y38.1)).bind fun h40 =>
  (am_na h40 0 (3 : Int32)).bind fun y41 =>
  (am_pr y41.2 (some v0) 8 18 y41.1).bind fun h42 =>
  some h42
/-! DroppingBallsLaw.cell([II)I -/
def fL_cell_20 (L : Nat) (xs : Nat → Int32) (s0 : Int32) (h : am_H) : Option (Int32 × am_H) :=
  some (s0 &&& (2147483647 : Int32), h)
def fL_cell (L : Nat) (xs : Nat → Int32) (v1 : Int32) (h : am_H) : Option (Int32 × am_H) :=
  if (Int32.ofNat L) ≤ v1 then
    fL_cell_20 L xs (((7919 : Int32) * v1) + (13 : Int32)) h
  else
  (am_sl L xs v1).bind fun x1 =>
  fL_cell_20 L xs x1 h
/-! DroppingBalls.byteOf(JI)I -/
def fX8_byteOf (v0 : Int64) (v2 : Int32) (h : am_H) : Option (Int32 × am_H) :=
  some ((Int64.toInt32 (((Int64.toUInt64 v0) >>> ((Int32.toInt64 ((8 : Int32) * v2)).toUInt64 &&& Int64.toUInt64 63)).toInt64)) &&& (255 : Int32), h)
/-! DroppingBalls.lettersIn(J)I -/
def fX8_lettersIn_56 (k4 : Int64 → Int32 → Int32 → am_H → Option (Int32 × am_H)) (v0 : Int64) (v2 : Int32) (v3 : Int32) (h : am_H) : Option (Int32 × am_H) :=
  k4 v0 v2 (v3 + (1 : Int32)) h
def fX8_lettersIn_32 (k4 : Int64 → Int32 → Int32 → am_H → Option (Int32 × am_H)) (v0 : Int64) (v2 : Int32) (v3 : Int32) (v4 : Int32) (s0 : Int32) (h : am_H) : Option (Int32 × am_H) :=
  if (126 : Int32) < v4 then
    some ((-1 : Int32), h)
  else
  if s0 = 0 then
    if v4 = 0 then
      (fX8_lettersIn_56 k4) v0 v2 v3 h
    else
    (fX8_lettersIn_56 k4) v0 (v2 + (1 : Int32)) v3 h
  else
  some ((-1 : Int32), h)
def fX8_lettersIn_31 (k32 : Int64 → Int32 → Int32 → Int32 → Int32 → am_H → Option (Int32 × am_H)) (v0 : Int64) (v2 : Int32) (v3 : Int32) (v4 : Int32) (h : am_H) : Option (Int32 × am_H) :=
  k32 v0 v2 v3 v4 (0 : Int32) h
def fX8_lettersIn_4_b (rec : Int64 → Int32 → Int32 → am_H → Option (Int32 × am_H)) (v0 : Int64) (v2 : Int32) (v3 : Int32) (h : am_H) : Option (Int32 × am_H) :=
  if (8 : Int32) ≤ v3 then
    some (v2, h)
  else
  (fX8_byteOf v0 v3 h).bind fun y1 =>
  if y1.1 = 0 then
    (fX8_lettersIn_31 (fX8_lettersIn_32 rec)) v0 v2 v3 y1.1 y1.2
  else
  if v3 ≤ v2 then
    (fX8_lettersIn_31 (fX8_lettersIn_32 rec)) v0 v2 v3 y1.1 y1.2
  else
  (fX8_lettersIn_32 rec) v0 v2 v3 y1.1 (1 : Int32) y1.2
def fX8_lettersIn_4 : Nat → Int64 → Int32 → Int32 → am_H → Option (Int32 × am_H)
  | 0, _, _, _, _ => none
  | n + 1, v0, v2, v3, h => fX8_lettersIn_4_b  (fX8_lettersIn_4  n) v0 v2 v3 h
def fX8_lettersIn (v0 : Int64) (h : am_H) : Option (Int32 × am_H) :=
  (fX8_lettersIn_4 am_fu) v0 (0 : Int32) (0 : Int32) h
/-! DroppingBalls$Page.add(C)V -/
def fX3_add (v0 : Nat) (v1 : Int32) (h : am_H) : Option (am_H) :=
  (am_gi h (some v0) 3 1).bind fun x1 =>
  if x1 < 0 then
    some h
  else
  (am_gi h (some v0) 3 1).bind fun x2 =>
  if (80 : Int32) ≤ x2 then
    some h
  else
  (am_gr h (some v0) 3 0).bind fun x3 =>
  (am_gi h (some v0) 3 1).bind fun x4 =>
  (am_as h x3 2 x4 (vp_nar .char v1)).bind fun h5 =>
  (am_gi h5 (some v0) 3 1).bind fun x6 =>
  (am_pi h5 (some v0) 3 1 (x6 + (1 : Int32))).bind fun h7 =>
  some h7
/-! DroppingBalls.letters(J)I -/
def fX8_letters_33_b (rec : Option Nat → Int64 → Int32 → Int32 → am_H → Option (Int32 × am_H)) (v0 : Option Nat) (v1 : Int64) (v3 : Int32) (v4 : Int32) (h : am_H) : Option (Int32 × am_H) :=
  if v3 ≤ v4 then
    (am_gr h v0 8 6).bind fun x1 =>
    (am_gi h x1 3 1).bind fun x2 =>
    some (x2, h)
  else
  (am_gr h v0 8 6).bind fun x3 =>
  (fX8_byteOf v1 v4 h).bind fun y4 =>
  (am_rc y4.2 x3 3).bind fun b6 =>
  (fX3_add b6 (((Int32.toUInt32 y4.1) % 65536).toInt32) y4.2).bind fun y5 =>
  rec v0 v1 v3 (v4 + (1 : Int32)) y5
def fX8_letters_33 : Nat → Option Nat → Int64 → Int32 → Int32 → am_H → Option (Int32 × am_H)
  | 0, _, _, _, _, _ => none
  | n + 1, v0, v1, v3, v4, h => fX8_letters_33_b  (fX8_letters_33  n) v0 v1 v3 v4 h
def fX8_letters (v0 : Nat) (v1 : Int64) (h : am_H) : Option (Int32 × am_H) :=
  (fX8_lettersIn v1 h).bind fun y1 =>
  if y1.1 = (-1 : Int32) then
    some ((-102 : Int32), y1.2)
  else
  (am_gr y1.2 (some v0) 8 6).bind fun x2 =>
  (am_gi y1.2 x2 3 1).bind fun x3 =>
  if (x3 + y1.1) ≤ (80 : Int32) then
    (fX8_letters_33 am_fu) (some v0) v1 y1.1 (0 : Int32) y1.2
  else
  some ((-104 : Int32), y1.2)
/-! DroppingBallsLaw.put(LDroppingBalls;I)Z -/
def fL_put (v0 : Option Nat) (v1 : Int32) (h : am_H) : Option (Int32 × am_H) :=
  (am_rc h v0 8).bind fun b2 =>
  (fX8_letters b2 (Int32.toInt64 v1) h).bind fun y1 =>
  if y1.1 ≤ 0 then
    am_zr (0 : Int32) y1.2
  else
  am_zr (1 : Int32) y1.2
/-! DroppingBallsLaw.number(LDroppingBalls;I)Z -/
def fL_number_20 (v0 : Option Nat) (v1 : Int32) (h : am_H) : Option (Int32 × am_H) :=
  if (10 : Int32) = 0 then none else
  (fL_put v0 ((48 : Int32) + (v1 - v1 / (10 : Int32) * (10 : Int32))) h).bind fun y1 =>
  if y1.1 = 0 then
    am_zr (0 : Int32) y1.2
  else
  am_zr (1 : Int32) y1.2
def fL_number (v0 : Option Nat) (v1 : Int32) (h : am_H) : Option (Int32 × am_H) :=
  if v1 < (10 : Int32) then
    fL_number_20 v0 v1 h
  else
  if (10 : Int32) = 0 then none else
  (fL_put v0 ((48 : Int32) + (v1 / (10 : Int32))) h).bind fun y1 =>
  if y1.1 = 0 then
    am_zr (0 : Int32) y1.2
  else
  fL_number_20 v0 v1 y1.2
/-! DroppingBalls$Page.codeAt(I)I -/
def fX3_codeAt (v0 : Nat) (v1 : Int32) (h : am_H) : Option (Int32 × am_H) :=
  if v1 < 0 then
    some ((-1 : Int32), h)
  else
  (am_gi h (some v0) 3 1).bind fun x1 =>
  if x1 ≤ v1 then
    some ((-1 : Int32), h)
  else
  if (80 : Int32) ≤ v1 then
    some ((-1 : Int32), h)
  else
  (am_gr h (some v0) 3 0).bind fun x2 =>
  (am_al h x2 2 v1).bind fun x3 =>
  some (x3, h)
/-! DroppingBalls.isIn(III)Z -/
def fX8_isIn (v0 : Int32) (v1 : Int32) (v2 : Int32) (h : am_H) : Option (Int32 × am_H) :=
  if v0 < v1 then
    am_zr (0 : Int32) h
  else
  if v2 < v0 then
    am_zr (0 : Int32) h
  else
  am_zr (1 : Int32) h
/-! DroppingBalls$Page.figureHere()I -/
def fX3_figureHere (v0 : Nat) (h : am_H) : Option (Int32 × am_H) :=
  (am_gi h (some v0) 3 2).bind fun x1 =>
  (am_rc h (some v0) 3).bind fun b3 =>
  (fX3_codeAt b3 x1 h).bind fun y2 =>
  (fX8_isIn y2.1 (48 : Int32) (57 : Int32) y2.2).bind fun y4 =>
  if y4.1 = 0 then
    some ((-1 : Int32), y4.2)
  else
  some (y2.1 - (48 : Int32), y4.2)
/-! DroppingBalls$Page.canStart(III)Z -/
def fX3_canStart_35 (v3 : Int32) (s0 : Int32) (h : am_H) : Option (Int32 × am_H) :=
  if v3 = 0 then
    if s0 = 0 then
      am_zr (0 : Int32) h
    else
    am_zr (1 : Int32) h
  else
  am_zr (1 : Int32) h
def fX3_canStart_34 (k35 : Int32 → Int32 → am_H → Option (Int32 × am_H)) (v3 : Int32) (h : am_H) : Option (Int32 × am_H) :=
  k35 v3 (0 : Int32) h
def fX3_canStart (v0 : Int32) (v1 : Int32) (v2 : Int32) (h : am_H) : Option (Int32 × am_H) :=
  (fX8_isIn v0 v1 v2 h).bind fun y1 =>
  if v0 ≤ 0 then
    (fX3_canStart_34 fX3_canStart_35) y1.1 y1.2
  else
  if v2 < ((10 : Int32) * v0) then
    (fX3_canStart_34 fX3_canStart_35) y1.1 y1.2
  else
  if (((10 : Int32) * v0) + (9 : Int32)) < v1 then
    (fX3_canStart_34 fX3_canStart_35) y1.1 y1.2
  else
  fX3_canStart_35 y1.1 (1 : Int32) y1.2
/-! DroppingBalls$Page.readNumber(II)I -/
def fX3_readNumber_79 (v1 : Int32) (v3 : Int32) (h : am_H) : Option (Int32 × am_H) :=
  if v3 < v1 then
    some ((-1 : Int32), h)
  else
  some (v3, h)
def fX3_readNumber (v0 : Nat) (v1 : Int32) (v2 : Int32) (h : am_H) : Option (Int32 × am_H) :=
  (am_rc h (some v0) 3).bind fun b2 =>
  (fX3_figureHere b2 h).bind fun y1 =>
  if y1.1 = (-1 : Int32) then
    some ((-1 : Int32), y1.2)
  else
  (fX3_canStart y1.1 v1 v2 y1.2).bind fun y3 =>
  if y3.1 = 0 then
    some ((-1 : Int32), y3.2)
  else
  (am_gi y3.2 (some v0) 3 2).bind fun x4 =>
  (am_pi y3.2 (some v0) 3 2 (x4 + (1 : Int32))).bind fun h5 =>
  (am_rc h5 (some v0) 3).bind fun b7 =>
  (fX3_figureHere b7 h5).bind fun y6 =>
  if y1.1 ≤ 0 then
    fX3_readNumber_79 v1 y1.1 y6.2
  else
  if y6.1 = (-1 : Int32) then
    fX3_readNumber_79 v1 y1.1 y6.2
  else
  (fX8_isIn (((10 : Int32) * y1.1) + y6.1) v1 v2 y6.2).bind fun y8 =>
  if y8.1 = 0 then
    fX3_readNumber_79 v1 y1.1 y8.2
  else
  (am_gi y8.2 (some v0) 3 2).bind fun x9 =>
  (am_pi y8.2 (some v0) 3 2 (x9 + (1 : Int32))).bind fun h10 =>
  some (((10 : Int32) * y1.1) + y6.1, h10)
/-! DroppingBalls$Page.readSign(C)Z -/
def fX3_readSign (v0 : Nat) (v1 : Int32) (h : am_H) : Option (Int32 × am_H) :=
  (am_gi h (some v0) 3 2).bind fun x1 =>
  (am_rc h (some v0) 3).bind fun b3 =>
  (fX3_codeAt b3 x1 h).bind fun y2 =>
  if y2.1 = v1 then
    (am_gi y2.2 (some v0) 3 2).bind fun x4 =>
    (am_pi y2.2 (some v0) 3 2 (x4 + (1 : Int32))).bind fun h5 =>
    am_zr (1 : Int32) h5
  else
  am_zr (0 : Int32) y2.2
/-! DroppingBalls$Clock.addVessel(III)V -/
def fX0_addVessel (v0 : Nat) (v1 : Int32) (v2 : Int32) (v3 : Int32) (h : am_H) : Option (am_H) :=
  (am_gi h (some v0) 0 0).bind fun x1 =>
  if (3 : Int32) ≤ x1 then
    some h
  else
  (am_gr h (some v0) 0 1).bind fun x2 =>
  (am_gi h (some v0) 0 0).bind fun x3 =>
  (am_as h x2 0 x3 v1).bind fun h4 =>
  (am_gr h4 (some v0) 0 2).bind fun x5 =>
  (am_gi h4 (some v0) 0 0).bind fun x6 =>
  (am_as h4 x5 0 x6 v2).bind fun h7 =>
  (am_gr h7 (some v0) 0 3).bind fun x8 =>
  (am_gi h7 (some v0) 0 0).bind fun x9 =>
  (am_as h7 x8 0 x9 v3).bind fun h10 =>
  (am_gr h10 (some v0) 0 4).bind fun x11 =>
  (am_gi h10 (some v0) 0 0).bind fun x12 =>
  (am_as h10 x11 0 x12 (v1 * v2)).bind fun h13 =>
  (am_gi h13 (some v0) 0 0).bind fun x14 =>
  (am_pi h13 (some v0) 0 0 (x14 + (1 : Int32))).bind fun h15 =>
  some h15
/-! DroppingBalls$Page.readVessel(LDroppingBalls$Clock;)Z -/
def fX3_readVessel (v0 : Nat) (v1 : Option Nat) (h : am_H) : Option (Int32 × am_H) :=
  (am_rc h (some v0) 3).bind fun b2 =>
  (fX3_readNumber b2 (1 : Int32) (30 : Int32) h).bind fun y1 =>
  if y1.1 = (-1 : Int32) then
    am_zr (0 : Int32) y1.2
  else
  (am_rc y1.2 (some v0) 3).bind fun b4 =>
  (fX3_readSign b4 (120 : Int32) y1.2).bind fun y3 =>
  if y3.1 = 0 then
    am_zr (0 : Int32) y3.2
  else
  (am_rc y3.2 (some v0) 3).bind fun b6 =>
  (fX3_readNumber b6 (1 : Int32) (60 : Int32) y3.2).bind fun y5 =>
  if y5.1 = (-1 : Int32) then
    am_zr (0 : Int32) y5.2
  else
  (am_rc y5.2 (some v0) 3).bind fun b8 =>
  (fX3_readSign b8 (104 : Int32) y5.2).bind fun y7 =>
  if y7.1 = 0 then
    am_zr (0 : Int32) y7.2
  else
  (am_rc y7.2 (some v0) 3).bind fun b10 =>
  (fX3_readNumber b10 (1 : Int32) (40 : Int32) y7.2).bind fun y9 =>
  if y9.1 = (-1 : Int32) then
    am_zr (0 : Int32) y9.2
  else
  (am_rc y9.2 v1 0).bind fun b12 =>
  (fX0_addVessel b12 y1.1 y5.1 y9.1 y9.2).bind fun y11 =>
  am_zr (1 : Int32) y11
/-! DroppingBalls$Page.readVessels(LDroppingBalls$Clock;)Z -/
def fX3_readVessels_44 (k4 : Option Nat → Option Nat → Int32 → Int32 → am_H → Option (Int32 × am_H)) (v0 : Option Nat) (v1 : Option Nat) (v3 : Int32) (s0 : Int32) (h : am_H) : Option (Int32 × am_H) :=
  k4 v0 v1 s0 (v3 + (1 : Int32)) h
def fX3_readVessels_43 (k44 : Option Nat → Option Nat → Int32 → Int32 → am_H → Option (Int32 × am_H)) (v0 : Option Nat) (v1 : Option Nat) (v3 : Int32) (h : am_H) : Option (Int32 × am_H) :=
  k44 v0 v1 v3 (0 : Int32) h
def fX3_readVessels_4_b (rec : Option Nat → Option Nat → Int32 → Int32 → am_H → Option (Int32 × am_H)) (v0 : Option Nat) (v1 : Option Nat) (v2 : Int32) (v3 : Int32) (h : am_H) : Option (Int32 × am_H) :=
  if (3 : Int32) ≤ v3 then
    am_zr (1 : Int32) h
  else
  if v2 = 0 then
    am_zr (1 : Int32) h
  else
  (am_rc h v0 3).bind fun b2 =>
  (fX3_readVessel b2 v1 h).bind fun y1 =>
  if y1.1 = 0 then
    am_zr (0 : Int32) y1.2
  else
  if (3 : Int32) ≤ (v3 + (1 : Int32)) then
    (fX3_readVessels_43 (fX3_readVessels_44 rec)) v0 v1 v3 y1.2
  else
  (am_rc y1.2 v0 3).bind fun b4 =>
  (fX3_readSign b4 (62 : Int32) y1.2).bind fun y3 =>
  if y3.1 = 0 then
    (fX3_readVessels_43 (fX3_readVessels_44 rec)) v0 v1 v3 y3.2
  else
  (fX3_readVessels_44 rec) v0 v1 v3 (1 : Int32) y3.2
def fX3_readVessels_4 : Nat → Option Nat → Option Nat → Int32 → Int32 → am_H → Option (Int32 × am_H)
  | 0, _, _, _, _, _ => none
  | n + 1, v0, v1, v2, v3, h => fX3_readVessels_4_b  (fX3_readVessels_4  n) v0 v1 v2 v3 h
def fX3_readVessels (v0 : Nat) (v1 : Option Nat) (h : am_H) : Option (Int32 × am_H) :=
  (fX3_readVessels_4 am_fu) (some v0) v1 (1 : Int32) (0 : Int32) h
/-! DroppingBalls$Page.readCylinder(LDroppingBalls$Clock;)Z -/
def fX3_readCylinder (v0 : Nat) (v1 : Option Nat) (h : am_H) : Option (Int32 × am_H) :=
  (am_rc h (some v0) 3).bind fun b2 =>
  (fX3_readSign b2 (61 : Int32) h).bind fun y1 =>
  if y1.1 = 0 then
    am_zr (0 : Int32) y1.2
  else
  (am_rc y1.2 (some v0) 3).bind fun b4 =>
  (fX3_readNumber b4 (1 : Int32) (99 : Int32) y1.2).bind fun y3 =>
  (am_pi y3.2 v1 0 5 y3.1).bind fun h5 =>
  (am_gi h5 v1 0 5).bind fun x6 =>
  if x6 = (-1 : Int32) then
    am_zr (0 : Int32) h5
  else
  (am_rc h5 (some v0) 3).bind fun b8 =>
  (fX3_readSign b8 (120 : Int32) h5).bind fun y7 =>
  if y7.1 = 0 then
    am_zr (0 : Int32) y7.2
  else
  (am_rc y7.2 (some v0) 3).bind fun b10 =>
  (fX3_readNumber b10 (1 : Int32) (99 : Int32) y7.2).bind fun y9 =>
  (am_pi y9.2 v1 0 6 y9.1).bind fun h11 =>
  (am_gi h11 v1 0 6).bind fun x12 =>
  if x12 = (-1 : Int32) then
    am_zr (0 : Int32) h11
  else
  am_zr (1 : Int32) h11
/-! DroppingBalls$Page.readSupply(LDroppingBalls$Clock;)Z -/
def fX3_readSupply (v0 : Nat) (v1 : Option Nat) (h : am_H) : Option (Int32 × am_H) :=
  (am_rc h (some v0) 3).bind fun b2 =>
  (fX3_readSign b2 (59 : Int32) h).bind fun y1 =>
  if y1.1 = 0 then
    am_zr (0 : Int32) y1.2
  else
  (am_rc y1.2 (some v0) 3).bind fun b4 =>
  (fX3_readSign b4 (115 : Int32) y1.2).bind fun y3 =>
  if y3.1 = 0 then
    am_zr (0 : Int32) y3.2
  else
  (am_rc y3.2 (some v0) 3).bind fun b6 =>
  (fX3_readNumber b6 (0 : Int32) (60 : Int32) y3.2).bind fun y5 =>
  (am_pi y5.2 v1 0 7 y5.1).bind fun h7 =>
  (am_gi h7 v1 0 7).bind fun x8 =>
  if x8 = (-1 : Int32) then
    am_zr (0 : Int32) h7
  else
  am_zr (1 : Int32) h7
/-! DroppingBalls$Clock.addMark(I)V -/
def fX0_addMark (v0 : Nat) (v1 : Int32) (h : am_H) : Option (am_H) :=
  (am_gi h (some v0) 0 8).bind fun x1 =>
  if (12 : Int32) ≤ x1 then
    some h
  else
  (am_gr h (some v0) 0 9).bind fun x2 =>
  (am_gi h (some v0) 0 8).bind fun x3 =>
  (am_as h x2 0 x3 v1).bind fun h4 =>
  (am_gi h4 (some v0) 0 8).bind fun x5 =>
  (am_pi h4 (some v0) 0 8 (x5 + (1 : Int32))).bind fun h6 =>
  some h6
/-! DroppingBalls$Page.readMarks(LDroppingBalls$Clock;)Z -/
def fX3_readMarks_89 (k27 : Option Nat → Option Nat → Int32 → Int32 → Int32 → am_H → Option (Int32 × am_H)) (v0 : Option Nat) (v1 : Option Nat) (v2 : Int32) (v4 : Int32) (s0 : Int32) (h : am_H) : Option (Int32 × am_H) :=
  k27 v0 v1 v2 s0 (v4 + (1 : Int32)) h
def fX3_readMarks_88 (k89 : Option Nat → Option Nat → Int32 → Int32 → Int32 → am_H → Option (Int32 × am_H)) (v0 : Option Nat) (v1 : Option Nat) (v2 : Int32) (v4 : Int32) (h : am_H) : Option (Int32 × am_H) :=
  k89 v0 v1 v2 v4 (0 : Int32) h
def fX3_readMarks_27_b (rec : Option Nat → Option Nat → Int32 → Int32 → Int32 → am_H → Option (Int32 × am_H)) (v0 : Option Nat) (v1 : Option Nat) (v2 : Int32) (v3 : Int32) (v4 : Int32) (h : am_H) : Option (Int32 × am_H) :=
  if (12 : Int32) ≤ v4 then
    am_zr (1 : Int32) h
  else
  if v3 = 0 then
    am_zr (1 : Int32) h
  else
  (am_rc h v0 3).bind fun b2 =>
  (fX3_readNumber b2 (v2 + (1 : Int32)) (99 : Int32) h).bind fun y1 =>
  if y1.1 = (-1 : Int32) then
    am_zr (0 : Int32) y1.2
  else
  (am_rc y1.2 v1 0).bind fun b4 =>
  (fX0_addMark b4 y1.1 y1.2).bind fun y3 =>
  if (12 : Int32) ≤ (v4 + (1 : Int32)) then
    (fX3_readMarks_88 (fX3_readMarks_89 rec)) v0 v1 y1.1 v4 y3
  else
  if (99 : Int32) ≤ y1.1 then
    (fX3_readMarks_88 (fX3_readMarks_89 rec)) v0 v1 y1.1 v4 y3
  else
  (am_rc y3 v0 3).bind fun b6 =>
  (fX3_readSign b6 (44 : Int32) y3).bind fun y5 =>
  if y5.1 = 0 then
    (fX3_readMarks_88 (fX3_readMarks_89 rec)) v0 v1 y1.1 v4 y5.2
  else
  (fX3_readMarks_89 rec) v0 v1 y1.1 v4 (1 : Int32) y5.2
def fX3_readMarks_27 : Nat → Option Nat → Option Nat → Int32 → Int32 → Int32 → am_H → Option (Int32 × am_H)
  | 0, _, _, _, _, _, _ => none
  | n + 1, v0, v1, v2, v3, v4, h => fX3_readMarks_27_b  (fX3_readMarks_27  n) v0 v1 v2 v3 v4 h
def fX3_readMarks (v0 : Nat) (v1 : Option Nat) (h : am_H) : Option (Int32 × am_H) :=
  (am_rc h (some v0) 3).bind fun b2 =>
  (fX3_readSign b2 (59 : Int32) h).bind fun y1 =>
  if y1.1 = 0 then
    am_zr (0 : Int32) y1.2
  else
  (am_rc y1.2 (some v0) 3).bind fun b4 =>
  (fX3_readSign b4 (109 : Int32) y1.2).bind fun y3 =>
  if y3.1 = 0 then
    am_zr (0 : Int32) y3.2
  else
  (fX3_readMarks_27 am_fu) (some v0) v1 (0 : Int32) (1 : Int32) (0 : Int32) y3.2
/-! DroppingBalls$Page.readClock(LDroppingBalls$Clock;)Z -/
def fX3_readClock (v0 : Nat) (v1 : Option Nat) (h : am_H) : Option (Int32 × am_H) :=
  (am_pi h (some v0) 3 2 (0 : Int32)).bind fun h1 =>
  (am_pi h1 v1 0 0 (0 : Int32)).bind fun h2 =>
  (am_pi h2 v1 0 8 (0 : Int32)).bind fun h3 =>
  (am_rc h3 (some v0) 3).bind fun b5 =>
  (fX3_readVessels b5 v1 h3).bind fun y4 =>
  if y4.1 = 0 then
    am_zr (0 : Int32) y4.2
  else
  (am_rc y4.2 (some v0) 3).bind fun b7 =>
  (fX3_readCylinder b7 v1 y4.2).bind fun y6 =>
  if y6.1 = 0 then
    am_zr (0 : Int32) y6.2
  else
  (am_rc y6.2 (some v0) 3).bind fun b9 =>
  (fX3_readSupply b9 v1 y6.2).bind fun y8 =>
  if y8.1 = 0 then
    am_zr (0 : Int32) y8.2
  else
  (am_rc y8.2 (some v0) 3).bind fun b11 =>
  (fX3_readMarks b11 v1 y8.2).bind fun y10 =>
  if y10.1 = 0 then
    am_zr (0 : Int32) y10.2
  else
  (am_gi y10.2 (some v0) 3 2).bind fun x12 =>
  (am_gi y10.2 (some v0) 3 1).bind fun x13 =>
  if x12 = x13 then
    am_zr (1 : Int32) y10.2
  else
  am_zr (0 : Int32) y10.2
/-! DroppingBalls.fault()I -/
def fX8_fault (v0 : Nat) (h : am_H) : Option (Int32 × am_H) :=
  (am_gr h (some v0) 8 6).bind fun x1 =>
  (am_gr h (some v0) 8 11).bind fun x2 =>
  (am_rc h x1 3).bind fun b4 =>
  (fX3_readClock b4 x2 h).bind fun y3 =>
  (am_gr y3.2 (some v0) 8 6).bind fun x5 =>
  (am_gi y3.2 x5 3 2).bind fun x6 =>
  some (x6, y3.2)
/-! DroppingBalls$Setting.ballsTold()I -/
def fX6_ballsTold_23 (k4 : Option Nat → Int32 → Int32 → am_H → Option (Int32 × am_H)) (v0 : Option Nat) (v1 : Int32) (v2 : Int32) (h : am_H) : Option (Int32 × am_H) :=
  k4 v0 v1 (v2 + (1 : Int32)) h
def fX6_ballsTold_4_b (rec : Option Nat → Int32 → Int32 → am_H → Option (Int32 × am_H)) (v0 : Option Nat) (v1 : Int32) (v2 : Int32) (h : am_H) : Option (Int32 × am_H) :=
  if (12 : Int32) ≤ v2 then
    some (v1, h)
  else
  (am_gr h v0 6 2).bind fun x1 =>
  (am_al h x1 0 v2).bind fun x2 =>
  if x2 = (-1 : Int32) then
    (fX6_ballsTold_23 rec) v0 v1 v2 h
  else
  (fX6_ballsTold_23 rec) v0 (v1 + (1 : Int32)) v2 h
def fX6_ballsTold_4 : Nat → Option Nat → Int32 → Int32 → am_H → Option (Int32 × am_H)
  | 0, _, _, _, _ => none
  | n + 1, v0, v1, v2, h => fX6_ballsTold_4_b  (fX6_ballsTold_4  n) v0 v1 v2 h
def fX6_ballsTold (v0 : Nat) (h : am_H) : Option (Int32 × am_H) :=
  (fX6_ballsTold_4 am_fu) (some v0) (0 : Int32) (0 : Int32) h
/-! DroppingBalls.count(I)I -/
def fX8_count (v0 : Nat) (v1 : Int32) (h : am_H) : Option (Int32 × am_H) :=
  if v1 = (0 : Int32) then
    (am_gi h (some v0) 8 3).bind fun x1 =>
    some (x1, h)
  else
  if v1 = (1 : Int32) then
    (am_gi h (some v0) 8 4).bind fun x2 =>
    some (x2, h)
  else
  if v1 = (2 : Int32) then
    (am_gi h (some v0) 8 5).bind fun x3 =>
    some (x3, h)
  else
  if v1 = (3 : Int32) then
    (am_gr h (some v0) 8 6).bind fun x4 =>
    (am_gi h x4 3 1).bind fun x5 =>
    some (x5, h)
  else
  if v1 = (4 : Int32) then
    (am_gr h (some v0) 8 7).bind fun x6 =>
    (am_rc h x6 6).bind fun b8 =>
    (fX6_ballsTold b8 h).bind fun y7 =>
    some (y7.1, y7.2)
  else
  if v1 = (5 : Int32) then
    (am_gi h (some v0) 8 10).bind fun x9 =>
    some (x9, h)
  else
  some ((-102 : Int32), h)
/-! DroppingBalls$Clock.copyFrom(LDroppingBalls$Clock;)V -/
def fX0_copyFrom_103_b (rec : Option Nat → Option Nat → Int32 → am_H → Option (am_H)) (v0 : Option Nat) (v1 : Option Nat) (v2 : Int32) (h : am_H) : Option (am_H) :=
  if (12 : Int32) ≤ v2 then
    some h
  else
  (am_gr h v0 0 9).bind fun x1 =>
  (am_gr h v1 0 9).bind fun x2 =>
  (am_al h x2 0 v2).bind fun x3 =>
  (am_as h x1 0 v2 x3).bind fun h4 =>
  rec v0 v1 (v2 + (1 : Int32)) h4
def fX0_copyFrom_103 : Nat → Option Nat → Option Nat → Int32 → am_H → Option (am_H)
  | 0, _, _, _, _ => none
  | n + 1, v0, v1, v2, h => fX0_copyFrom_103_b  (fX0_copyFrom_103  n) v0 v1 v2 h
def fX0_copyFrom_10_b (rec : Option Nat → Option Nat → Int32 → am_H → Option (am_H)) (v0 : Option Nat) (v1 : Option Nat) (v2 : Int32) (h : am_H) : Option (am_H) :=
  if (3 : Int32) ≤ v2 then
    (am_gi h v1 0 5).bind fun x1 =>
    (am_pi h v0 0 5 x1).bind fun h2 =>
    (am_gi h2 v1 0 6).bind fun x3 =>
    (am_pi h2 v0 0 6 x3).bind fun h4 =>
    (am_gi h4 v1 0 7).bind fun x5 =>
    (am_pi h4 v0 0 7 x5).bind fun h6 =>
    (am_gi h6 v1 0 8).bind fun x7 =>
    (am_pi h6 v0 0 8 x7).bind fun h8 =>
    (fX0_copyFrom_103 am_fu) v0 v1 (0 : Int32) h8
  else
  (am_gr h v0 0 1).bind fun x9 =>
  (am_gr h v1 0 1).bind fun x10 =>
  (am_al h x10 0 v2).bind fun x11 =>
  (am_as h x9 0 v2 x11).bind fun h12 =>
  (am_gr h12 v0 0 2).bind fun x13 =>
  (am_gr h12 v1 0 2).bind fun x14 =>
  (am_al h12 x14 0 v2).bind fun x15 =>
  (am_as h12 x13 0 v2 x15).bind fun h16 =>
  (am_gr h16 v0 0 3).bind fun x17 =>
  (am_gr h16 v1 0 3).bind fun x18 =>
  (am_al h16 x18 0 v2).bind fun x19 =>
  (am_as h16 x17 0 v2 x19).bind fun h20 =>
  (am_gr h20 v0 0 4).bind fun x21 =>
  (am_gr h20 v1 0 4).bind fun x22 =>
  (am_al h20 x22 0 v2).bind fun x23 =>
  (am_as h20 x21 0 v2 x23).bind fun h24 =>
  rec v0 v1 (v2 + (1 : Int32)) h24
def fX0_copyFrom_10 : Nat → Option Nat → Option Nat → Int32 → am_H → Option (am_H)
  | 0, _, _, _, _ => none
  | n + 1, v0, v1, v2, h => fX0_copyFrom_10_b  (fX0_copyFrom_10  n) v0 v1 v2 h
def fX0_copyFrom (v0 : Nat) (v1 : Option Nat) (h : am_H) : Option (am_H) :=
  (am_gi h v1 0 0).bind fun x1 =>
  (am_pi h (some v0) 0 0 x1).bind fun h2 =>
  (fX0_copyFrom_10 am_fu) (some v0) v1 (0 : Int32) h2
/-! DroppingBalls.clock()I -/
def fX8_clock (v0 : Nat) (h : am_H) : Option (Int32 × am_H) :=
  (am_gr h (some v0) 8 6).bind fun x1 =>
  (am_gr h (some v0) 8 11).bind fun x2 =>
  (am_rc h x1 3).bind fun b4 =>
  (fX3_readClock b4 x2 h).bind fun y3 =>
  if y3.1 = 0 then
    some ((-103 : Int32), y3.2)
  else
  (am_gi y3.2 (some v0) 8 3).bind fun x5 =>
  if x5 < (4 : Int32) then
    (am_nwo y3.2 0 df_0).bind fun y6 =>
    (fX0_init y6.1 y6.2).bind fun y7 =>
    (am_gr y7 (some v0) 8 11).bind fun x8 =>
    (am_rc y7 (some y6.1) 0).bind fun b10 =>
    (fX0_copyFrom b10 x8 y7).bind fun y9 =>
    (am_gr y9 (some v0) 8 0).bind fun x11 =>
    (am_gi y9 (some v0) 8 3).bind fun x12 =>
    (am_asr y9 x11 4 x12 (some y6.1)).bind fun h13 =>
    (am_gi h13 (some v0) 8 3).bind fun x14 =>
    (am_pi h13 (some v0) 8 3 (x14 + (1 : Int32))).bind fun h15 =>
    (am_gr h15 (some v0) 8 6).bind fun x16 =>
    (am_pi h15 x16 3 1 (0 : Int32)).bind fun h17 =>
    (am_gi h17 (some v0) 8 3).bind fun x18 =>
    some (x18 - (1 : Int32), h17)
  else
  some ((-104 : Int32), y3.2)
/-! DroppingBallsLaw.clock(LDroppingBalls;IIII[I)Z -/
def fL_clock_436 (k365 : Option Nat → Int32 → Int32 → Option Nat → Int32 → Int32 → Int32 → am_H → Option (Int32 × am_H)) (v0 : Option Nat) (v2 : Int32) (v4 : Int32) (v5 : Option Nat) (v7 : Int32) (v8 : Int32) (s0 : Int32) (h : am_H) : Option (Int32 × am_H) :=
  k365 v0 v2 v4 v5 s0 v7 (v8 + (1 : Int32)) h
def fL_clock_435 (k436 : Option Nat → Int32 → Int32 → Option Nat → Int32 → Int32 → Int32 → am_H → Option (Int32 × am_H)) (v0 : Option Nat) (v2 : Int32) (v4 : Int32) (v5 : Option Nat) (v7 : Int32) (v8 : Int32) (h : am_H) : Option (Int32 × am_H) :=
  k436 v0 v2 v4 v5 v7 v8 (0 : Int32) h
def fL_clock_422 (k435 : Option Nat → Int32 → Int32 → Option Nat → Int32 → Int32 → am_H → Option (Int32 × am_H)) (k436 : Option Nat → Int32 → Int32 → Option Nat → Int32 → Int32 → Int32 → am_H → Option (Int32 × am_H)) (v0 : Option Nat) (v2 : Int32) (v4 : Int32) (v5 : Option Nat) (v7 : Int32) (v8 : Int32) (h : am_H) : Option (Int32 × am_H) :=
  (fL_number v0 v7 h).bind fun y1 =>
  if y1.1 = 0 then
    k435 v0 v2 v4 v5 v7 v8 y1.2
  else
  k436 v0 v2 v4 v5 v7 v8 (1 : Int32) y1.2
def fL_clock_365_b (rec : Option Nat → Int32 → Int32 → Option Nat → Int32 → Int32 → Int32 → am_H → Option (Int32 × am_H)) (v0 : Option Nat) (v2 : Int32) (v4 : Int32) (v5 : Option Nat) (v6 : Int32) (v7 : Int32) (v8 : Int32) (h : am_H) : Option (Int32 × am_H) :=
  (am_al h v5 0 (4 : Int32)).bind fun x1 =>
  if x1 ≤ v8 then
    if v6 = 0 then
      am_zr (0 : Int32) h
    else
    (am_rc h v0 8).bind fun b3 =>
    (fX8_fault b3 h).bind fun y2 =>
    (am_rc y2.2 v0 8).bind fun b5 =>
    (fX8_count b5 (3 : Int32) y2.2).bind fun y4 =>
    if y2.1 = y4.1 then
      (am_rc y4.2 v0 8).bind fun b7 =>
      (fX8_clock b7 y4.2).bind fun y6 =>
      if y6.1 = v4 then
        am_zr (1 : Int32) y6.2
      else
      am_zr (0 : Int32) y6.2
    else
    am_zr (0 : Int32) y4.2
  else
  if (8 : Int32) = 0 then none else
  (am_as h v5 0 ((14 : Int32) + v8) (v7 + ((1 : Int32) + (((v2 >>> (((2 : Int32) * v8) &&& 31)) &&& (15 : Int32)) - ((v2 >>> (((2 : Int32) * v8) &&& 31)) &&& (15 : Int32)) / (8 : Int32) * (8 : Int32))))).bind fun h8 =>
  if v6 = 0 then
    (fL_clock_435 (fL_clock_436 rec)) v0 v2 v4 v5 (v7 + ((1 : Int32) + (((v2 >>> (((2 : Int32) * v8) &&& 31)) &&& (15 : Int32)) - ((v2 >>> (((2 : Int32) * v8) &&& 31)) &&& (15 : Int32)) / (8 : Int32) * (8 : Int32)))) v8 h8
  else
  if v8 = 0 then
    (fL_clock_422 (fL_clock_435 (fL_clock_436 rec)) (fL_clock_436 rec)) v0 v2 v4 v5 (v7 + ((1 : Int32) + (((v2 >>> (((2 : Int32) * v8) &&& 31)) &&& (15 : Int32)) - ((v2 >>> (((2 : Int32) * v8) &&& 31)) &&& (15 : Int32)) / (8 : Int32) * (8 : Int32)))) v8 h8
  else
  (fL_put v0 (44 : Int32) h8).bind fun y9 =>
  if y9.1 = 0 then
    (fL_clock_435 (fL_clock_436 rec)) v0 v2 v4 v5 (v7 + ((1 : Int32) + (((v2 >>> (((2 : Int32) * v8) &&& 31)) &&& (15 : Int32)) - ((v2 >>> (((2 : Int32) * v8) &&& 31)) &&& (15 : Int32)) / (8 : Int32) * (8 : Int32)))) v8 y9.2
  else
  (fL_clock_422 (fL_clock_435 (fL_clock_436 rec)) (fL_clock_436 rec)) v0 v2 v4 v5 (v7 + ((1 : Int32) + (((v2 >>> (((2 : Int32) * v8) &&& 31)) &&& (15 : Int32)) - ((v2 >>> (((2 : Int32) * v8) &&& 31)) &&& (15 : Int32)) / (8 : Int32) * (8 : Int32)))) v8 y9.2
def fL_clock_365 : Nat → Option Nat → Int32 → Int32 → Option Nat → Int32 → Int32 → Int32 → am_H → Option (Int32 × am_H)
  | 0, _, _, _, _, _, _, _, _ => none
  | n + 1, v0, v2, v4, v5, v6, v7, v8, h => fL_clock_365_b  (fL_clock_365  n) v0 v2 v4 v5 v6 v7 v8 h
def fL_clock_357 (v0 : Option Nat) (v2 : Int32) (v4 : Int32) (v5 : Option Nat) (s0 : Int32) (h : am_H) : Option (Int32 × am_H) :=
  (fL_clock_365 am_fu) v0 v2 v4 v5 s0 (0 : Int32) (0 : Int32) h
def fL_clock_356 (k357 : Option Nat → Int32 → Int32 → Option Nat → Int32 → am_H → Option (Int32 × am_H)) (v0 : Option Nat) (v2 : Int32) (v4 : Int32) (v5 : Option Nat) (h : am_H) : Option (Int32 × am_H) :=
  k357 v0 v2 v4 v5 (0 : Int32) h
def fL_clock_252 (k73 : Option Nat → Int32 → Int32 → Int32 → Option Nat → Int32 → Int32 → am_H → Option (Int32 × am_H)) (v0 : Option Nat) (v2 : Int32) (v3 : Int32) (v4 : Int32) (v5 : Option Nat) (v7 : Int32) (s0 : Int32) (h : am_H) : Option (Int32 × am_H) :=
  k73 v0 v2 v3 v4 v5 s0 (v7 + (1 : Int32)) h
def fL_clock_251 (k252 : Option Nat → Int32 → Int32 → Int32 → Option Nat → Int32 → Int32 → am_H → Option (Int32 × am_H)) (v0 : Option Nat) (v2 : Int32) (v3 : Int32) (v4 : Int32) (v5 : Option Nat) (v7 : Int32) (h : am_H) : Option (Int32 × am_H) :=
  k252 v0 v2 v3 v4 v5 v7 (0 : Int32) h
def fL_clock_179 (k251 : Option Nat → Int32 → Int32 → Int32 → Option Nat → Int32 → am_H → Option (Int32 × am_H)) (k252 : Option Nat → Int32 → Int32 → Int32 → Option Nat → Int32 → Int32 → am_H → Option (Int32 × am_H)) (v0 : Option Nat) (v2 : Int32) (v3 : Int32) (v4 : Int32) (v5 : Option Nat) (v7 : Int32) (h : am_H) : Option (Int32 × am_H) :=
  (am_al h v5 0 ((5 : Int32) + ((3 : Int32) * v7))).bind fun x1 =>
  (fL_number v0 x1 h).bind fun y2 =>
  if y2.1 = 0 then
    k251 v0 v2 v3 v4 v5 v7 y2.2
  else
  (fL_put v0 (120 : Int32) y2.2).bind fun y3 =>
  if y3.1 = 0 then
    k251 v0 v2 v3 v4 v5 v7 y3.2
  else
  (am_al y3.2 v5 0 ((6 : Int32) + ((3 : Int32) * v7))).bind fun x4 =>
  (fL_number v0 x4 y3.2).bind fun y5 =>
  if y5.1 = 0 then
    k251 v0 v2 v3 v4 v5 v7 y5.2
  else
  (fL_put v0 (104 : Int32) y5.2).bind fun y6 =>
  if y6.1 = 0 then
    k251 v0 v2 v3 v4 v5 v7 y6.2
  else
  (am_al y6.2 v5 0 ((7 : Int32) + ((3 : Int32) * v7))).bind fun x7 =>
  (fL_number v0 x7 y6.2).bind fun y8 =>
  if y8.1 = 0 then
    k251 v0 v2 v3 v4 v5 v7 y8.2
  else
  k252 v0 v2 v3 v4 v5 v7 (1 : Int32) y8.2
def fL_clock_73_b (rec : Option Nat → Int32 → Int32 → Int32 → Option Nat → Int32 → Int32 → am_H → Option (Int32 × am_H)) (v0 : Option Nat) (v2 : Int32) (v3 : Int32) (v4 : Int32) (v5 : Option Nat) (v6 : Int32) (v7 : Int32) (h : am_H) : Option (Int32 × am_H) :=
  (am_al h v5 0 (0 : Int32)).bind fun x1 =>
  if x1 ≤ v7 then
    if v6 = 0 then
      (fL_clock_356 fL_clock_357) v0 v2 v4 v5 h
    else
    (fL_put v0 (61 : Int32) h).bind fun y2 =>
    if y2.1 = 0 then
      (fL_clock_356 fL_clock_357) v0 v2 v4 v5 y2.2
    else
    (am_al y2.2 v5 0 (1 : Int32)).bind fun x3 =>
    (fL_number v0 x3 y2.2).bind fun y4 =>
    if y4.1 = 0 then
      (fL_clock_356 fL_clock_357) v0 v2 v4 v5 y4.2
    else
    (fL_put v0 (120 : Int32) y4.2).bind fun y5 =>
    if y5.1 = 0 then
      (fL_clock_356 fL_clock_357) v0 v2 v4 v5 y5.2
    else
    (am_al y5.2 v5 0 (2 : Int32)).bind fun x6 =>
    (fL_number v0 x6 y5.2).bind fun y7 =>
    if y7.1 = 0 then
      (fL_clock_356 fL_clock_357) v0 v2 v4 v5 y7.2
    else
    (fL_put v0 (59 : Int32) y7.2).bind fun y8 =>
    if y8.1 = 0 then
      (fL_clock_356 fL_clock_357) v0 v2 v4 v5 y8.2
    else
    (fL_put v0 (115 : Int32) y8.2).bind fun y9 =>
    if y9.1 = 0 then
      (fL_clock_356 fL_clock_357) v0 v2 v4 v5 y9.2
    else
    (am_al y9.2 v5 0 (3 : Int32)).bind fun x10 =>
    (fL_number v0 x10 y9.2).bind fun y11 =>
    if y11.1 = 0 then
      (fL_clock_356 fL_clock_357) v0 v2 v4 v5 y11.2
    else
    (fL_put v0 (59 : Int32) y11.2).bind fun y12 =>
    if y12.1 = 0 then
      (fL_clock_356 fL_clock_357) v0 v2 v4 v5 y12.2
    else
    (fL_put v0 (109 : Int32) y12.2).bind fun y13 =>
    if y13.1 = 0 then
      (fL_clock_356 fL_clock_357) v0 v2 v4 v5 y13.2
    else
    fL_clock_357 v0 v2 v4 v5 (1 : Int32) y13.2
  else
  if (30 : Int32) = 0 then none else
  (am_as h v5 0 ((5 : Int32) + ((3 : Int32) * v7)) ((1 : Int32) + (((v2 >>> (((4 : Int32) + ((5 : Int32) * v7)) &&& 31)) &&& (31 : Int32)) - ((v2 >>> (((4 : Int32) + ((5 : Int32) * v7)) &&& 31)) &&& (31 : Int32)) / (30 : Int32) * (30 : Int32)))).bind fun h14 =>
  if (60 : Int32) = 0 then none else
  (am_as h14 v5 0 ((6 : Int32) + ((3 : Int32) * v7)) ((1 : Int32) + (((v3 >>> (((6 : Int32) * v7) &&& 31)) &&& (63 : Int32)) - ((v3 >>> (((6 : Int32) * v7) &&& 31)) &&& (63 : Int32)) / (60 : Int32) * (60 : Int32)))).bind fun h15 =>
  if (40 : Int32) = 0 then none else
  (am_as h15 v5 0 ((7 : Int32) + ((3 : Int32) * v7)) ((1 : Int32) + (((v3 >>> (((10 : Int32) + ((6 : Int32) * v7)) &&& 31)) &&& (63 : Int32)) - ((v3 >>> (((10 : Int32) + ((6 : Int32) * v7)) &&& 31)) &&& (63 : Int32)) / (40 : Int32) * (40 : Int32)))).bind fun h16 =>
  if v6 = 0 then
    (fL_clock_251 (fL_clock_252 rec)) v0 v2 v3 v4 v5 v7 h16
  else
  if v7 = 0 then
    (fL_clock_179 (fL_clock_251 (fL_clock_252 rec)) (fL_clock_252 rec)) v0 v2 v3 v4 v5 v7 h16
  else
  (fL_put v0 (62 : Int32) h16).bind fun y17 =>
  if y17.1 = 0 then
    (fL_clock_251 (fL_clock_252 rec)) v0 v2 v3 v4 v5 v7 y17.2
  else
  (fL_clock_179 (fL_clock_251 (fL_clock_252 rec)) (fL_clock_252 rec)) v0 v2 v3 v4 v5 v7 y17.2
def fL_clock_73 : Nat → Option Nat → Int32 → Int32 → Int32 → Option Nat → Int32 → Int32 → am_H → Option (Int32 × am_H)
  | 0, _, _, _, _, _, _, _, _ => none
  | n + 1, v0, v2, v3, v4, v5, v6, v7, h => fL_clock_73_b  (fL_clock_73  n) v0 v2 v3 v4 v5 v6 v7 h
def fL_clock_29 (v0 : Option Nat) (v1 : Int32) (v2 : Int32) (v3 : Int32) (v4 : Int32) (v5 : Option Nat) (s0 : Option Nat) (s1 : Int32) (s2 : Int32) (s3 : Int32) (s4 : Int32) (h : am_H) : Option (Int32 × am_H) :=
  if s4 = 0 then none else
  (am_as h s0 0 s1 (s2 + (s3 - s3 / s4 * s4))).bind fun h1 =>
  if (512 : Int32) = 0 then none else
  if (99 : Int32) = 0 then none else
  (am_as h1 v5 0 (2 : Int32) ((1 : Int32) + ((v1 / (512 : Int32)) - (v1 / (512 : Int32)) / (99 : Int32) * (99 : Int32)))).bind fun h2 =>
  if (65536 : Int32) = 0 then none else
  if (61 : Int32) = 0 then none else
  (am_as h2 v5 0 (3 : Int32) ((v1 / (65536 : Int32)) - (v1 / (65536 : Int32)) / (61 : Int32) * (61 : Int32))).bind fun h3 =>
  if (12 : Int32) = 0 then none else
  (am_as h3 v5 0 (4 : Int32) ((1 : Int32) + (v2 - v2 / (12 : Int32) * (12 : Int32)))).bind fun h4 =>
  (fL_clock_73 am_fu) v0 v2 v3 v4 v5 (1 : Int32) (0 : Int32) h4
def fL_clock (v0 : Option Nat) (v1 : Int32) (v2 : Int32) (v3 : Int32) (v4 : Int32) (v5 : Option Nat) (h : am_H) : Option (Int32 × am_H) :=
  if (3 : Int32) = 0 then none else
  (am_as h v5 0 (0 : Int32) ((1 : Int32) + (v1 - v1 / (3 : Int32) * (3 : Int32)))).bind fun h1 =>
  if (4 : Int32) = 0 then none else
  if (5 : Int32) = 0 then none else
  if (v1 - v1 / (5 : Int32) * (5 : Int32)) = 0 then
    fL_clock_29 v0 v1 v2 v3 v4 v5 v5 (1 : Int32) (1 : Int32) (v1 / (4 : Int32)) (99 : Int32) h1
  else
  fL_clock_29 v0 v1 v2 v3 v4 v5 v5 (1 : Int32) (1 : Int32) (v1 / (4 : Int32)) (30 : Int32) h1
/-! DroppingBalls.isSeason(I)Z -/
def fX8_isSeason (v0 : Int32) (h : am_H) : Option (Int32 × am_H) :=
  (fX8_isIn v0 (0 : Int32) (3 : Int32) h).bind fun y1 =>
  am_zr y1.1 y1.2
/-! DroppingBalls.exchange([III)I -/
def fX8_exchange (v0 : Option Nat) (v1 : Int32) (v2 : Int32) (h : am_H) : Option (Int32 × am_H) :=
  (am_an h v0).bind fun x1 =>
  (fX8_isIn v1 (0 : Int32) (x1 - (1 : Int32)) h).bind fun y2 =>
  if y2.1 = 0 then
    some ((-1 : Int32), y2.2)
  else
  (am_al y2.2 v0 0 v1).bind fun x3 =>
  (am_as y2.2 v0 0 v1 v2).bind fun h4 =>
  some (x3, h4)
/-! DroppingBalls.season(III)I -/
def fX8_season_39 (v0 : Option Nat) (v1 : Int32) (v2 : Int32) (v3 : Int32) (h : am_H) : Option (Int32 × am_H) :=
  if v2 = (1 : Int32) then
    (fX8_isIn v3 (24 : Int32) (72 : Int32) h).bind fun y1 =>
    if y1.1 = 0 then
      some ((-102 : Int32), y1.2)
    else
    (am_gr y1.2 v0 8 7).bind fun x2 =>
    (am_gr y1.2 x2 6 1).bind fun x3 =>
    (fX8_exchange x3 v1 v3 y1.2).bind fun y4 =>
    some (y4.1, y4.2)
  else
  some ((-102 : Int32), h)
def fX8_season (v0 : Nat) (v1 : Int32) (v2 : Int32) (v3 : Int32) (h : am_H) : Option (Int32 × am_H) :=
  (fX8_isSeason v1 h).bind fun y1 =>
  if y1.1 = 0 then
    some ((-101 : Int32), y1.2)
  else
  if v2 = 0 then
    (fX8_isIn v3 (50 : Int32) (150 : Int32) y1.2).bind fun y2 =>
    if y2.1 = 0 then
      fX8_season_39 (some v0) v1 v2 v3 y2.2
    else
    (am_gr y2.2 (some v0) 8 7).bind fun x3 =>
    (am_gr y2.2 x3 6 0).bind fun x4 =>
    (fX8_exchange x4 v1 v3 y2.2).bind fun y5 =>
    some (y5.1, y5.2)
  else
  fX8_season_39 (some v0) v1 v2 v3 y1.2
/-! DroppingBalls.isKind(I)Z -/
def fX8_isKind (v0 : Int32) (h : am_H) : Option (Int32 × am_H) :=
  (fX8_isIn v0 (0 : Int32) (4 : Int32) h).bind fun y1 =>
  am_zr y1.1 y1.2
/-! DroppingBalls.leastNumber(I)I -/
def fX8_leastNumber (v0 : Int32) (h : am_H) : Option (Int32 × am_H) :=
  if v0 = (3 : Int32) then
    some ((1 : Int32), h)
  else
  if v0 = (4 : Int32) then
    some ((2 : Int32), h)
  else
  some ((0 : Int32), h)
/-! DroppingBalls.mostNumber(I)I -/
def fX8_mostNumber (v0 : Int32) (h : am_H) : Option (Int32 × am_H) :=
  if v0 = (1 : Int32) then
    some ((9 : Int32), h)
  else
  if v0 = (2 : Int32) then
    some ((3 : Int32), h)
  else
  if v0 = (3 : Int32) then
    some ((9 : Int32), h)
  else
  if v0 = (4 : Int32) then
    some ((5 : Int32), h)
  else
  some ((0 : Int32), h)
/-! DroppingBalls.isWorkOrNone(I)Z -/
def fX8_isWorkOrNone (v0 : Nat) (v1 : Int32) (h : am_H) : Option (Int32 × am_H) :=
  (am_gi h (some v0) 8 5).bind fun x1 =>
  (fX8_isIn v1 (-1 : Int32) (x1 - (1 : Int32)) h).bind fun y2 =>
  am_zr y2.1 y2.2
/-! DroppingBalls.workOf(I)LDroppingBalls$Work; -/
def fX8_workOf (v0 : Nat) (v1 : Int32) (h : am_H) : Option (Option Nat × am_H) :=
  (am_gi h (some v0) 8 5).bind fun x1 =>
  (fX8_isIn v1 (0 : Int32) (x1 - (1 : Int32)) h).bind fun y2 =>
  if y2.1 = 0 then
    some (none, y2.2)
  else
  if (10 : Int32) ≤ v1 then
    some (none, y2.2)
  else
  (am_gr y2.2 (some v0) 8 2).bind fun x3 =>
  (am_alr y2.2 x3 6 v1).bind fun x4 =>
  some (x4, y2.2)
/-! DroppingBalls$Work.<init>(IIILDroppingBalls$Work;)V -/
def fX7_init (v0 : Nat) (v1 : Int32) (v2 : Int32) (v3 : Int32) (v4 : Option Nat) (h : am_H) : Option (am_H) :=
  (am_pi h (some v0) 7 0 v1).bind fun h1 =>
  (am_pi h1 (some v0) 7 1 v2).bind fun h2 =>
  (am_pi h2 (some v0) 7 2 v3).bind fun h3 =>
  (am_pr h3 (some v0) 7 3 v4).bind fun h4 =>
  some h4
/-! DroppingBalls.work(III)I -/
def fX8_work (v0 : Nat) (v1 : Int32) (v2 : Int32) (v3 : Int32) (h : am_H) : Option (Int32 × am_H) :=
  (fX8_isKind v1 h).bind fun y1 =>
  if y1.1 = 0 then
    some ((-102 : Int32), y1.2)
  else
  (fX8_leastNumber v1 y1.2).bind fun y2 =>
  (fX8_mostNumber v1 y2.2).bind fun y3 =>
  (fX8_isIn v2 y2.1 y3.1 y3.2).bind fun y4 =>
  if y4.1 = 0 then
    some ((-102 : Int32), y4.2)
  else
  (am_rc y4.2 (some v0) 8).bind fun b6 =>
  (fX8_isWorkOrNone b6 v3 y4.2).bind fun y5 =>
  if y5.1 = 0 then
    some ((-101 : Int32), y5.2)
  else
  (am_gi y5.2 (some v0) 8 5).bind fun x7 =>
  if x7 < (10 : Int32) then
    (am_gr y5.2 (some v0) 8 2).bind fun x8 =>
    (am_gi y5.2 (some v0) 8 5).bind fun x9 =>
    (am_nwo y5.2 7 df_7).bind fun y10 =>
    (am_gi y10.2 (some v0) 8 5).bind fun x11 =>
    (am_rc y10.2 (some v0) 8).bind fun b13 =>
    (fX8_workOf b13 v3 y10.2).bind fun y12 =>
    (fX7_init y10.1 x11 v1 v2 y12.1 y12.2).bind fun y14 =>
    (am_asr y14 x8 6 x9 (some y10.1)).bind fun h15 =>
    (am_gi h15 (some v0) 8 5).bind fun x16 =>
    (am_pi h15 (some v0) 8 5 (x16 + (1 : Int32))).bind fun h17 =>
    (am_gi h17 (some v0) 8 5).bind fun x18 =>
    some (x18 - (1 : Int32), h17)
  else
  some ((-104 : Int32), y5.2)
/-! DroppingBalls.isWorkOfKind(II)Z -/
def fX8_isWorkOfKind (v0 : Int32) (v1 : Int32) (h : am_H) : Option (Int32 × am_H) :=
  if v1 = 0 then
    am_zr (1 : Int32) h
  else
  if v1 = v0 then
    am_zr (1 : Int32) h
  else
  if v0 = (4 : Int32) then
    if v1 = (3 : Int32) then
      am_zr (1 : Int32) h
    else
    am_zr (0 : Int32) h
  else
  am_zr (0 : Int32) h
/-! DroppingBalls.workAs(II)I -/
def fX8_workAs (v0 : Nat) (v1 : Int32) (v2 : Int32) (h : am_H) : Option (Int32 × am_H) :=
  (am_rc h (some v0) 8).bind fun b2 =>
  (fX8_workOf b2 v1 h).bind fun y1 =>
  if y1.1 = none then
    some ((-101 : Int32), y1.2)
  else
  (fX8_isKind v2 y1.2).bind fun y3 =>
  if y3.1 = 0 then
    some ((-102 : Int32), y3.2)
  else
  (am_gi y3.2 y1.1 7 1).bind fun x4 =>
  (fX8_isWorkOfKind x4 v2 y3.2).bind fun y5 =>
  if y5.1 = 0 then
    some ((-1 : Int32), y5.2)
  else
  some (v1, y5.2)
/-! DroppingBalls.head(I)I -/
def fX8_head (v0 : Nat) (v1 : Int32) (h : am_H) : Option (Int32 × am_H) :=
  (am_rc h (some v0) 8).bind fun b2 =>
  (fX8_isWorkOrNone b2 v1 h).bind fun y1 =>
  if y1.1 = 0 then
    some ((-101 : Int32), y1.2)
  else
  (am_gr y1.2 (some v0) 8 7).bind fun x3 =>
  (am_gi y1.2 x3 6 3).bind fun x4 =>
  (am_gr y1.2 (some v0) 8 7).bind fun x5 =>
  (am_pi y1.2 x5 6 3 v1).bind fun h6 =>
  some (x4, h6)
/-! DroppingBalls.isTick(I)Z -/
def fX8_isTick (v0 : Int32) (h : am_H) : Option (Int32 × am_H) :=
  (fX8_isIn v0 (0 : Int32) (95 : Int32) h).bind fun y1 =>
  am_zr y1.1 y1.2
/-! DroppingBalls$Fault.become(IIII)V -/
def fX2_become (v0 : Nat) (v1 : Int32) (v2 : Int32) (v3 : Int32) (v4 : Int32) (h : am_H) : Option (am_H) :=
  (am_pi h (some v0) 2 0 v1).bind fun h1 =>
  (am_pi h1 (some v0) 2 1 v2).bind fun h2 =>
  (am_pi h2 (some v0) 2 2 v3).bind fun h3 =>
  (am_pi h3 (some v0) 2 3 v4).bind fun h4 =>
  some h4
/-! DroppingBalls.faulty(IIII)I -/
def fX8_faulty (v0 : Nat) (v1 : Int32) (v2 : Int32) (v3 : Int32) (v4 : Int32) (h : am_H) : Option (Int32 × am_H) :=
  (fX8_isKind v1 h).bind fun y1 =>
  if y1.1 = 0 then
    some ((-102 : Int32), y1.2)
  else
  (fX8_isIn v2 (0 : Int32) (2 : Int32) y1.2).bind fun y2 =>
  if y2.1 = 0 then
    some ((-102 : Int32), y2.2)
  else
  (fX8_isIn v3 (1 : Int32) (20 : Int32) y2.2).bind fun y3 =>
  if y3.1 = 0 then
    some ((-102 : Int32), y3.2)
  else
  (fX8_isTick v4 y3.2).bind fun y4 =>
  if y4.1 = 0 then
    some ((-102 : Int32), y4.2)
  else
  (am_gi y4.2 (some v0) 8 4).bind fun x5 =>
  if x5 < (8 : Int32) then
    (am_nwo y4.2 2 df_2).bind fun y6 =>
    (fX2_init y6.1 y6.2).bind fun y7 =>
    (am_rc y7 (some y6.1) 2).bind fun b9 =>
    (fX2_become b9 v1 v2 v3 v4 y7).bind fun y8 =>
    (am_gr y8 (some v0) 8 1).bind fun x10 =>
    (am_gi y8 (some v0) 8 4).bind fun x11 =>
    (am_asr y8 x10 5 x11 (some y6.1)).bind fun h12 =>
    (am_gi h12 (some v0) 8 4).bind fun x13 =>
    (am_pi h12 (some v0) 8 4 (x13 + (1 : Int32))).bind fun h14 =>
    (am_gi h14 (some v0) 8 4).bind fun x15 =>
    some (x15 - (1 : Int32), h14)
  else
  some ((-104 : Int32), y4.2)
/-! DroppingBalls.faultOf(I)LDroppingBalls$Fault; -/
def fX8_faultOf (v0 : Nat) (v1 : Int32) (h : am_H) : Option (Option Nat × am_H) :=
  (am_gi h (some v0) 8 4).bind fun x1 =>
  (fX8_isIn v1 (0 : Int32) (x1 - (1 : Int32)) h).bind fun y2 =>
  if y2.1 = 0 then
    some (none, y2.2)
  else
  if (8 : Int32) ≤ v1 then
    some (none, y2.2)
  else
  (am_gr y2.2 (some v0) 8 1).bind fun x3 =>
  (am_alr y2.2 x3 5 v1).bind fun x4 =>
  some (x4, y2.2)
/-! DroppingBalls.isFaultOfKind(II)Z -/
def fX8_isFaultOfKind (v0 : Int32) (v1 : Int32) (h : am_H) : Option (Int32 × am_H) :=
  if v1 = 0 then
    am_zr (1 : Int32) h
  else
  if v1 = v0 then
    am_zr (1 : Int32) h
  else
  if v0 = (2 : Int32) then
    if v1 = (1 : Int32) then
      am_zr (1 : Int32) h
    else
    am_zr (0 : Int32) h
  else
  am_zr (0 : Int32) h
/-! DroppingBalls.as(II)I -/
def fX8_as (v0 : Nat) (v1 : Int32) (v2 : Int32) (h : am_H) : Option (Int32 × am_H) :=
  (am_gi h (some v0) 8 4).bind fun x1 =>
  (fX8_isIn v1 (0 : Int32) (x1 - (1 : Int32)) h).bind fun y2 =>
  if y2.1 = 0 then
    some ((-101 : Int32), y2.2)
  else
  (fX8_isKind v2 y2.2).bind fun y3 =>
  if y3.1 = 0 then
    some ((-102 : Int32), y3.2)
  else
  (am_rc y3.2 (some v0) 8).bind fun b5 =>
  (fX8_faultOf b5 v1 y3.2).bind fun y4 =>
  if y4.1 = none then
    some ((-1 : Int32), y4.2)
  else
  (am_gi y4.2 y4.1 2 0).bind fun x6 =>
  (fX8_isFaultOfKind x6 v2 y4.2).bind fun y7 =>
  if y7.1 = 0 then
    some ((-1 : Int32), y7.2)
  else
  some (v1, y7.2)
/-! DroppingBallsLaw.run([IIIIIII[I)V -/
def fL_run_584 (k554 : Option Nat → Int32 → Int32 → Int32 → Int32 → Int32 → Int32 → Option Nat → Option Nat → Int32 → Int32 → Int32 → Int32 → Int32 → Int32 → Int32 → am_H → Option (am_H)) (v0 : Option Nat) (v1 : Int32) (v2 : Int32) (v3 : Int32) (v4 : Int32) (v5 : Int32) (v6 : Int32) (v7 : Option Nat) (v8 : Option Nat) (v9 : Int32) (v10 : Int32) (v11 : Int32) (v12 : Int32) (v13 : Int32) (v14 : Int32) (v17 : Int32) (s0 : Option Nat) (s1 : Int32) (s2 : Int32) (h : am_H) : Option (am_H) :=
  (am_as h s0 0 s1 s2).bind fun h1 =>
  k554 v0 v1 v2 v3 v4 v5 v6 v7 v8 v9 v10 v11 v12 v13 v14 (v17 + (1 : Int32)) h1
def fL_run_626 (k99 : Option Nat → Int32 → Int32 → Int32 → Int32 → Int32 → Int32 → Option Nat → Option Nat → Int32 → Int32 → Int32 → Int32 → Int32 → Int32 → am_H → Option (am_H)) (v0 : Option Nat) (v1 : Int32) (v2 : Int32) (v3 : Int32) (v4 : Int32) (v5 : Int32) (v6 : Int32) (v7 : Option Nat) (v8 : Option Nat) (v9 : Int32) (v10 : Int32) (v11 : Int32) (v12 : Int32) (v13 : Int32) (v14 : Int32) (h : am_H) : Option (am_H) :=
  k99 v0 v1 v2 v3 v4 v5 v6 v7 v8 v9 v10 v11 v12 v13 (v14 + (1 : Int32)) h
def fL_run_554_b (k626 : Option Nat → Int32 → Int32 → Int32 → Int32 → Int32 → Int32 → Option Nat → Option Nat → Int32 → Int32 → Int32 → Int32 → Int32 → Int32 → am_H → Option (am_H)) (rec : Option Nat → Int32 → Int32 → Int32 → Int32 → Int32 → Int32 → Option Nat → Option Nat → Int32 → Int32 → Int32 → Int32 → Int32 → Int32 → Int32 → am_H → Option (am_H)) (v0 : Option Nat) (v1 : Int32) (v2 : Int32) (v3 : Int32) (v4 : Int32) (v5 : Int32) (v6 : Int32) (v7 : Option Nat) (v8 : Option Nat) (v9 : Int32) (v10 : Int32) (v11 : Int32) (v12 : Int32) (v13 : Int32) (v14 : Int32) (v17 : Int32) (h : am_H) : Option (am_H) :=
  if (3 : Int32) ≤ v17 then
    (am_as h v7 0 (15 : Int32) v9).bind fun h1 =>
    (am_as h1 v7 0 (16 : Int32) v10).bind fun h2 =>
    (am_as h2 v7 0 (17 : Int32) v11).bind fun h3 =>
    (am_as h3 v7 0 (18 : Int32) v12).bind fun h4 =>
    (am_as h4 v7 0 (19 : Int32) v13).bind fun h5 =>
    k626 v0 v1 v2 v3 v4 v5 v6 v7 v8 v9 v10 v11 v12 v13 v14 h5
  else
  (am_al h v0 0 (0 : Int32)).bind fun x6 =>
  if x6 ≤ v17 then
    (fL_run_584 rec) v0 v1 v2 v3 v4 v5 v6 v7 v8 v9 v10 v11 v12 v13 v14 v17 v7 ((12 : Int32) + v17) (-1 : Int32) h
  else
  (am_al h v8 0 v17).bind fun x7 =>
  (fL_run_584 rec) v0 v1 v2 v3 v4 v5 v6 v7 v8 v9 v10 v11 v12 v13 v14 v17 v7 ((12 : Int32) + v17) x7 h
def fL_run_554 (k626 : Option Nat → Int32 → Int32 → Int32 → Int32 → Int32 → Int32 → Option Nat → Option Nat → Int32 → Int32 → Int32 → Int32 → Int32 → Int32 → am_H → Option (am_H)) : Nat → Option Nat → Int32 → Int32 → Int32 → Int32 → Int32 → Int32 → Option Nat → Option Nat → Int32 → Int32 → Int32 → Int32 → Int32 → Int32 → Int32 → am_H → Option (am_H)
  | 0, _, _, _, _, _, _, _, _, _, _, _, _, _, _, _, _, _ => none
  | n + 1, v0, v1, v2, v3, v4, v5, v6, v7, v8, v9, v10, v11, v12, v13, v14, v17, h => fL_run_554_b k626 (fL_run_554 k626 n) v0 v1 v2 v3 v4 v5 v6 v7 v8 v9 v10 v11 v12 v13 v14 v17 h
def fL_run_353 (k128 : Option Nat → Int32 → Int32 → Int32 → Int32 → Int32 → Int32 → Option Nat → Option Nat → Int32 → Int32 → Int32 → Int32 → Int32 → Int32 → Int32 → Int32 → Int32 → am_H → Option (am_H)) (v0 : Option Nat) (v1 : Int32) (v2 : Int32) (v3 : Int32) (v4 : Int32) (v5 : Int32) (v6 : Int32) (v7 : Option Nat) (v8 : Option Nat) (v9 : Int32) (v10 : Int32) (v11 : Int32) (v12 : Int32) (v13 : Int32) (v14 : Int32) (v15 : Int32) (v17 : Int32) (s0 : Int32) (h : am_H) : Option (am_H) :=
  (am_al h v8 0 v17).bind fun x1 =>
  (am_as h v8 0 v17 (x1 - s0)).bind fun h2 =>
  k128 v0 v1 v2 v3 v4 v5 v6 v7 v8 v9 v10 v11 v12 v13 v14 v15 s0 (v17 + (1 : Int32)) h2
def fL_run_544 (k99 : Option Nat → Int32 → Int32 → Int32 → Int32 → Int32 → Int32 → Option Nat → Option Nat → Int32 → Int32 → Int32 → Int32 → Int32 → Int32 → am_H → Option (am_H)) (v0 : Option Nat) (v1 : Int32) (v2 : Int32) (v3 : Int32) (v4 : Int32) (v5 : Int32) (v6 : Int32) (v7 : Option Nat) (v8 : Option Nat) (v9 : Int32) (v10 : Int32) (v11 : Int32) (v12 : Int32) (v13 : Int32) (v14 : Int32) (h : am_H) : Option (am_H) :=
  if v14 = v6 then
    (fL_run_554 (fL_run_626 k99) am_fu) v0 v1 v2 v3 v4 v5 v6 v7 v8 v9 v10 v11 v12 v13 v14 (0 : Int32) h
  else
  (fL_run_626 k99) v0 v1 v2 v3 v4 v5 v6 v7 v8 v9 v10 v11 v12 v13 v14 h
def fL_run_326 (k128 : Option Nat → Int32 → Int32 → Int32 → Int32 → Int32 → Int32 → Option Nat → Option Nat → Int32 → Int32 → Int32 → Int32 → Int32 → Int32 → Int32 → Int32 → Int32 → am_H → Option (am_H)) (v0 : Option Nat) (v1 : Int32) (v2 : Int32) (v3 : Int32) (v4 : Int32) (v5 : Int32) (v6 : Int32) (v7 : Option Nat) (v8 : Option Nat) (v9 : Int32) (v10 : Int32) (v11 : Int32) (v12 : Int32) (v13 : Int32) (v14 : Int32) (v15 : Int32) (v17 : Int32) (s0 : Int32) (s1 : Int32) (h : am_H) : Option (am_H) :=
  if (1000 : Int32) = 0 then none else
  (am_al h v8 0 v17).bind fun x1 =>
  if ((s0 * s1) / (1000 : Int32)) ≤ x1 then
    (fL_run_353 k128) v0 v1 v2 v3 v4 v5 v6 v7 v8 v9 v10 v11 v12 v13 v14 v15 v17 ((s0 * s1) / (1000 : Int32)) h
  else
  (am_al h v8 0 v17).bind fun x2 =>
  (fL_run_353 k128) v0 v1 v2 v3 v4 v5 v6 v7 v8 v9 v10 v11 v12 v13 v14 v15 v17 x2 h
def fL_run_325 (k326 : Option Nat → Int32 → Int32 → Int32 → Int32 → Int32 → Int32 → Option Nat → Option Nat → Int32 → Int32 → Int32 → Int32 → Int32 → Int32 → Int32 → Int32 → Int32 → Int32 → am_H → Option (am_H)) (v0 : Option Nat) (v1 : Int32) (v2 : Int32) (v3 : Int32) (v4 : Int32) (v5 : Int32) (v6 : Int32) (v7 : Option Nat) (v8 : Option Nat) (v9 : Int32) (v10 : Int32) (v11 : Int32) (v12 : Int32) (v13 : Int32) (v14 : Int32) (v15 : Int32) (v17 : Int32) (s0 : Int32) (h : am_H) : Option (am_H) :=
  k326 v0 v1 v2 v3 v4 v5 v6 v7 v8 v9 v10 v11 v12 v13 v14 v15 v17 s0 v1 h
def fL_run_518 (k99 : Option Nat → Int32 → Int32 → Int32 → Int32 → Int32 → Int32 → Option Nat → Option Nat → Int32 → Int32 → Int32 → Int32 → Int32 → Int32 → am_H → Option (am_H)) (v0 : Option Nat) (v1 : Int32) (v2 : Int32) (v3 : Int32) (v4 : Int32) (v5 : Int32) (v6 : Int32) (v7 : Option Nat) (v8 : Option Nat) (v9 : Int32) (v10 : Int32) (v11 : Int32) (v12 : Int32) (v13 : Int32) (v14 : Int32) (h : am_H) : Option (am_H) :=
  (am_al h v0 0 (4 : Int32)).bind fun x1 =>
  if v10 = x1 then
    (am_al h v0 0 (1 : Int32)).bind fun x2 =>
    if x2 = 0 then none else
    (am_al h v0 0 (2 : Int32)).bind fun x3 =>
    if (v9 / x2) < x3 then
      (fL_run_544 k99) v0 v1 v2 v3 v4 v5 v6 v7 v8 v9 v10 v11 v12 v13 v14 h
    else
    (fL_run_544 k99) v0 v1 v2 v3 v4 v5 v6 v7 v8 (0 : Int32) v10 v11 v12 (v13 + (1 : Int32)) v14 h
  else
  (fL_run_544 k99) v0 v1 v2 v3 v4 v5 v6 v7 v8 v9 v10 v11 v12 v13 v14 h
def fL_run_289 (k128 : Option Nat → Int32 → Int32 → Int32 → Int32 → Int32 → Int32 → Option Nat → Option Nat → Int32 → Int32 → Int32 → Int32 → Int32 → Int32 → Int32 → Int32 → Int32 → am_H → Option (am_H)) (v0 : Option Nat) (v1 : Int32) (v2 : Int32) (v3 : Int32) (v4 : Int32) (v5 : Int32) (v6 : Int32) (v7 : Option Nat) (v8 : Option Nat) (v9 : Int32) (v10 : Int32) (v11 : Int32) (v12 : Int32) (v13 : Int32) (v14 : Int32) (v15 : Int32) (v17 : Int32) (s0 : Int32) (h : am_H) : Option (am_H) :=
  (am_al h v8 0 v17).bind fun x1 =>
  (am_al h v0 0 ((5 : Int32) + ((3 : Int32) * v17))).bind fun x2 =>
  if x2 = 0 then none else
  if v2 = (4 : Int32) then
    if v15 = 0 then
      (fL_run_325 (fL_run_326 k128)) v0 v1 v2 v3 v4 v5 v6 v7 v8 v9 v10 v11 v12 v13 v14 v15 v17 (s0 * (x1 / x2)) h
    else
    (fL_run_326 k128) v0 v1 v2 v3 v4 v5 v6 v7 v8 v9 v10 v11 v12 v13 v14 v15 v17 (s0 * (x1 / x2)) (v1 - v4) h
  else
  (fL_run_325 (fL_run_326 k128)) v0 v1 v2 v3 v4 v5 v6 v7 v8 v9 v10 v11 v12 v13 v14 v15 v17 (s0 * (x1 / x2)) h
def fL_run_274 (k275 : Option Nat → Int32 → Int32 → Int32 → Int32 → Int32 → Int32 → Option Nat → Option Nat → Int32 → Int32 → Int32 → Int32 → Int32 → Int32 → Int32 → Int32 → Int32 → Int32 → am_H → Option (am_H)) (v0 : Option Nat) (v1 : Int32) (v2 : Int32) (v3 : Int32) (v4 : Int32) (v5 : Int32) (v6 : Int32) (v7 : Option Nat) (v8 : Option Nat) (v9 : Int32) (v10 : Int32) (v11 : Int32) (v12 : Int32) (v13 : Int32) (v14 : Int32) (v15 : Int32) (v17 : Int32) (s0 : Int32) (h : am_H) : Option (am_H) :=
  k275 v0 v1 v2 v3 v4 v5 v6 v7 v8 v9 v10 v11 v12 v13 v14 v15 v17 s0 (0 : Int32) h
def fL_run_481_b (k99 : Option Nat → Int32 → Int32 → Int32 → Int32 → Int32 → Int32 → Option Nat → Option Nat → Int32 → Int32 → Int32 → Int32 → Int32 → Int32 → am_H → Option (am_H)) (rec : Option Nat → Int32 → Int32 → Int32 → Int32 → Int32 → Int32 → Option Nat → Option Nat → Int32 → Int32 → Int32 → Int32 → Int32 → Int32 → am_H → Option (am_H)) (v0 : Option Nat) (v1 : Int32) (v2 : Int32) (v3 : Int32) (v4 : Int32) (v5 : Int32) (v6 : Int32) (v7 : Option Nat) (v8 : Option Nat) (v9 : Int32) (v10 : Int32) (v11 : Int32) (v12 : Int32) (v13 : Int32) (v14 : Int32) (h : am_H) : Option (am_H) :=
  (am_al h v0 0 (4 : Int32)).bind fun x1 =>
  if x1 ≤ v10 then
    (fL_run_518 k99) v0 v1 v2 v3 v4 v5 v6 v7 v8 v9 v10 v11 v12 v13 v14 h
  else
  (am_al h v0 0 (1 : Int32)).bind fun x2 =>
  if x2 = 0 then none else
  (am_al h v0 0 ((14 : Int32) + v10)).bind fun x3 =>
  if (v9 / x2) < x3 then
    (fL_run_518 k99) v0 v1 v2 v3 v4 v5 v6 v7 v8 v9 v10 v11 v12 v13 v14 h
  else
  (am_as h v7 0 v10 v14).bind fun h4 =>
  rec v0 v1 v2 v3 v4 v5 v6 v7 v8 v9 (v10 + (1 : Int32)) v11 v12 v13 v14 h4
def fL_run_481 (k99 : Option Nat → Int32 → Int32 → Int32 → Int32 → Int32 → Int32 → Option Nat → Option Nat → Int32 → Int32 → Int32 → Int32 → Int32 → Int32 → am_H → Option (am_H)) : Nat → Option Nat → Int32 → Int32 → Int32 → Int32 → Int32 → Int32 → Option Nat → Option Nat → Int32 → Int32 → Int32 → Int32 → Int32 → Int32 → am_H → Option (am_H)
  | 0, _, _, _, _, _, _, _, _, _, _, _, _, _, _, _, _ => none
  | n + 1, v0, v1, v2, v3, v4, v5, v6, v7, v8, v9, v10, v11, v12, v13, v14, h => fL_run_481_b k99 (fL_run_481 k99 n) v0 v1 v2 v3 v4 v5 v6 v7 v8 v9 v10 v11 v12 v13 v14 h
def fL_run_463 (k481 : Option Nat → Int32 → Int32 → Int32 → Int32 → Int32 → Int32 → Option Nat → Option Nat → Int32 → Int32 → Int32 → Int32 → Int32 → Int32 → am_H → Option (am_H)) (v0 : Option Nat) (v1 : Int32) (v2 : Int32) (v3 : Int32) (v4 : Int32) (v5 : Int32) (v6 : Int32) (v7 : Option Nat) (v8 : Option Nat) (v9 : Int32) (v10 : Int32) (v11 : Int32) (v12 : Int32) (v13 : Int32) (v14 : Int32) (s0 : Int32) (h : am_H) : Option (am_H) :=
  (am_al h v8 0 v3).bind fun x1 =>
  (am_as h v8 0 v3 (x1 - s0)).bind fun h2 =>
  k481 v0 v1 v2 v3 v4 v5 v6 v7 v8 v9 v10 v11 (v12 + s0) v13 v14 h2
def fL_run_275 (k128 : Option Nat → Int32 → Int32 → Int32 → Int32 → Int32 → Int32 → Option Nat → Option Nat → Int32 → Int32 → Int32 → Int32 → Int32 → Int32 → Int32 → Int32 → Int32 → am_H → Option (am_H)) (v0 : Option Nat) (v1 : Int32) (v2 : Int32) (v3 : Int32) (v4 : Int32) (v5 : Int32) (v6 : Int32) (v7 : Option Nat) (v8 : Option Nat) (v9 : Int32) (v10 : Int32) (v11 : Int32) (v12 : Int32) (v13 : Int32) (v14 : Int32) (v15 : Int32) (v17 : Int32) (s0 : Int32) (s1 : Int32) (h : am_H) : Option (am_H) :=
  if 0 ≤ (s0 + s1) then
    (fL_run_289 k128) v0 v1 v2 v3 v4 v5 v6 v7 v8 v9 v10 v11 v12 v13 v14 v15 v17 (s0 + s1) h
  else
  (fL_run_289 k128) v0 v1 v2 v3 v4 v5 v6 v7 v8 v9 v10 v11 v12 v13 v14 v15 v17 (0 : Int32) h
def fL_run_253 (k275 : Option Nat → Int32 → Int32 → Int32 → Int32 → Int32 → Int32 → Option Nat → Option Nat → Int32 → Int32 → Int32 → Int32 → Int32 → Int32 → Int32 → Int32 → Int32 → Int32 → am_H → Option (am_H)) (v0 : Option Nat) (v1 : Int32) (v2 : Int32) (v3 : Int32) (v4 : Int32) (v5 : Int32) (v6 : Int32) (v7 : Option Nat) (v8 : Option Nat) (v9 : Int32) (v10 : Int32) (v11 : Int32) (v12 : Int32) (v13 : Int32) (v14 : Int32) (v15 : Int32) (v17 : Int32) (s0 : Int32) (h : am_H) : Option (am_H) :=
  if v2 = (2 : Int32) then
    if v15 = 0 then
      (fL_run_274 k275) v0 v1 v2 v3 v4 v5 v6 v7 v8 v9 v10 v11 v12 v13 v14 v15 v17 s0 h
    else
    if v17 = v3 then
      k275 v0 v1 v2 v3 v4 v5 v6 v7 v8 v9 v10 v11 v12 v13 v14 v15 v17 s0 v4 h
    else
    (fL_run_274 k275) v0 v1 v2 v3 v4 v5 v6 v7 v8 v9 v10 v11 v12 v13 v14 v15 v17 s0 h
  else
  (fL_run_274 k275) v0 v1 v2 v3 v4 v5 v6 v7 v8 v9 v10 v11 v12 v13 v14 v15 v17 s0 h
def fL_run_427 (k99 : Option Nat → Int32 → Int32 → Int32 → Int32 → Int32 → Int32 → Option Nat → Option Nat → Int32 → Int32 → Int32 → Int32 → Int32 → Int32 → am_H → Option (am_H)) (v0 : Option Nat) (v1 : Int32) (v2 : Int32) (v3 : Int32) (v4 : Int32) (v5 : Int32) (v6 : Int32) (v7 : Option Nat) (v8 : Option Nat) (v9 : Int32) (v10 : Int32) (v11 : Int32) (v12 : Int32) (v13 : Int32) (v14 : Int32) (v15 : Int32) (s0 : Option Nat) (s1 : Int32) (s2 : Int32) (h : am_H) : Option (am_H) :=
  (am_as h s0 0 s1 s2).bind fun h1 =>
  if v2 = (3 : Int32) then
    if v15 = 0 then
      (fL_run_481 k99 am_fu) v0 v1 v2 v3 v4 v5 v6 v7 v8 v9 v10 v11 v12 v13 v14 h1
    else
    (am_al h1 v0 0 (0 : Int32)).bind fun x2 =>
    if x2 ≤ v3 then
      (fL_run_481 k99 am_fu) v0 v1 v2 v3 v4 v5 v6 v7 v8 v9 v10 v11 v12 v13 v14 h1
    else
    (am_al h1 v8 0 v3).bind fun x3 =>
    if v4 ≤ x3 then
      (fL_run_463 (fL_run_481 k99 am_fu)) v0 v1 v2 v3 v4 v5 v6 v7 v8 v9 v10 v11 v12 v13 v14 v4 h1
    else
    (am_al h1 v8 0 v3).bind fun x4 =>
    (fL_run_463 (fL_run_481 k99 am_fu)) v0 v1 v2 v3 v4 v5 v6 v7 v8 v9 v10 v11 v12 v13 v14 x4 h1
  else
  (fL_run_481 k99 am_fu) v0 v1 v2 v3 v4 v5 v6 v7 v8 v9 v10 v11 v12 v13 v14 h1
def fL_run_217 (k128 : Option Nat → Int32 → Int32 → Int32 → Int32 → Int32 → Int32 → Option Nat → Option Nat → Int32 → Int32 → Int32 → Int32 → Int32 → Int32 → Int32 → Int32 → Int32 → am_H → Option (am_H)) (v0 : Option Nat) (v1 : Int32) (v2 : Int32) (v3 : Int32) (v4 : Int32) (v5 : Int32) (v6 : Int32) (v7 : Option Nat) (v8 : Option Nat) (v9 : Int32) (v10 : Int32) (v11 : Int32) (v12 : Int32) (v13 : Int32) (v14 : Int32) (v15 : Int32) (v17 : Int32) (s0 : Option Nat) (s1 : Int32) (s2 : Int32) (h : am_H) : Option (am_H) :=
  (am_as h s0 0 s1 s2).bind fun h1 =>
  (am_al h1 v0 0 ((7 : Int32) + ((3 : Int32) * v17))).bind fun x2 =>
  if v2 = (1 : Int32) then
    if v15 = 0 then
      (fL_run_253 (fL_run_275 k128)) v0 v1 v2 v3 v4 v5 v6 v7 v8 v9 v10 v11 v12 v13 v14 v15 v17 x2 h1
    else
    if v17 = v3 then
      (fL_run_275 k128) v0 v1 v2 v3 v4 v5 v6 v7 v8 v9 v10 v11 v12 v13 v14 v15 v17 x2 (-v4) h1
    else
    (fL_run_253 (fL_run_275 k128)) v0 v1 v2 v3 v4 v5 v6 v7 v8 v9 v10 v11 v12 v13 v14 v15 v17 x2 h1
  else
  (fL_run_253 (fL_run_275 k128)) v0 v1 v2 v3 v4 v5 v6 v7 v8 v9 v10 v11 v12 v13 v14 v15 v17 x2 h1
def fL_run_402 (k99 : Option Nat → Int32 → Int32 → Int32 → Int32 → Int32 → Int32 → Option Nat → Option Nat → Int32 → Int32 → Int32 → Int32 → Int32 → Int32 → am_H → Option (am_H)) (v0 : Option Nat) (v1 : Int32) (v2 : Int32) (v3 : Int32) (v4 : Int32) (v5 : Int32) (v6 : Int32) (v7 : Option Nat) (v8 : Option Nat) (v9 : Int32) (v10 : Int32) (v11 : Int32) (v12 : Int32) (v13 : Int32) (v14 : Int32) (v15 : Int32) (v16 : Int32) (s0 : Option Nat) (s1 : Int32) (s2 : Int32) (h : am_H) : Option (am_H) :=
  (am_as h s0 0 s1 s2).bind fun h1 =>
  (am_al h1 v7 0 (21 : Int32)).bind fun x2 =>
  if v16 ≤ x2 then
    (am_al h1 v7 0 (21 : Int32)).bind fun x3 =>
    (fL_run_427 k99) v0 v1 v2 v3 v4 v5 v6 v7 v8 v9 v10 v11 v12 v13 v14 v15 v7 (21 : Int32) x3 h1
  else
  (fL_run_427 k99) v0 v1 v2 v3 v4 v5 v6 v7 v8 v9 v10 v11 v12 v13 v14 v15 v7 (21 : Int32) v16 h1
def fL_run_190 (k128 : Option Nat → Int32 → Int32 → Int32 → Int32 → Int32 → Int32 → Option Nat → Option Nat → Int32 → Int32 → Int32 → Int32 → Int32 → Int32 → Int32 → Int32 → Int32 → am_H → Option (am_H)) (v0 : Option Nat) (v1 : Int32) (v2 : Int32) (v3 : Int32) (v4 : Int32) (v5 : Int32) (v6 : Int32) (v7 : Option Nat) (v8 : Option Nat) (v9 : Int32) (v10 : Int32) (v12 : Int32) (v13 : Int32) (v14 : Int32) (v15 : Int32) (v17 : Int32) (v18 : Int32) (s0 : Int32) (s1 : Int32) (h : am_H) : Option (am_H) :=
  (am_al h v8 0 v17).bind fun x1 =>
  if x1 ≤ v18 then
    (am_al h v8 0 v17).bind fun x2 =>
    (fL_run_217 k128) v0 v1 v2 v3 v4 v5 v6 v7 v8 v9 v10 (s0 + s1) v12 v13 v14 v15 v17 v8 v17 x2 h
  else
  (fL_run_217 k128) v0 v1 v2 v3 v4 v5 v6 v7 v8 v9 v10 (s0 + s1) v12 v13 v14 v15 v17 v8 v17 v18 h
def fL_run_128_b (k99 : Option Nat → Int32 → Int32 → Int32 → Int32 → Int32 → Int32 → Option Nat → Option Nat → Int32 → Int32 → Int32 → Int32 → Int32 → Int32 → am_H → Option (am_H)) (rec : Option Nat → Int32 → Int32 → Int32 → Int32 → Int32 → Int32 → Option Nat → Option Nat → Int32 → Int32 → Int32 → Int32 → Int32 → Int32 → Int32 → Int32 → Int32 → am_H → Option (am_H)) (v0 : Option Nat) (v1 : Int32) (v2 : Int32) (v3 : Int32) (v4 : Int32) (v5 : Int32) (v6 : Int32) (v7 : Option Nat) (v8 : Option Nat) (v9 : Int32) (v10 : Int32) (v11 : Int32) (v12 : Int32) (v13 : Int32) (v14 : Int32) (v15 : Int32) (v16 : Int32) (v17 : Int32) (h : am_H) : Option (am_H) :=
  (am_al h v0 0 (0 : Int32)).bind fun x1 =>
  if x1 ≤ v17 then
    (am_al h v7 0 (20 : Int32)).bind fun x2 =>
    if x2 ≤ v16 then
      (am_al h v7 0 (20 : Int32)).bind fun x3 =>
      (fL_run_402 k99) v0 v1 v2 v3 v4 v5 v6 v7 v8 (v9 + v16) v10 v11 v12 v13 v14 v15 v16 v7 (20 : Int32) x3 h
    else
    (fL_run_402 k99) v0 v1 v2 v3 v4 v5 v6 v7 v8 (v9 + v16) v10 v11 v12 v13 v14 v15 v16 v7 (20 : Int32) v16 h
  else
  (am_al h v0 0 ((5 : Int32) + ((3 : Int32) * v17))).bind fun x4 =>
  (am_al h v0 0 ((6 : Int32) + ((3 : Int32) * v17))).bind fun x5 =>
  (am_al h v8 0 v17).bind fun x6 =>
  (am_as h v8 0 v17 (x6 + v16)).bind fun h7 =>
  (am_al h7 v8 0 v17).bind fun x8 =>
  if x8 ≤ (x4 * x5) then
    (fL_run_190 rec) v0 v1 v2 v3 v4 v5 v6 v7 v8 v9 v10 v12 v13 v14 v15 v17 (x4 * x5) v11 (0 : Int32) h7
  else
  (am_al h7 v8 0 v17).bind fun x9 =>
  (fL_run_190 rec) v0 v1 v2 v3 v4 v5 v6 v7 v8 v9 v10 v12 v13 v14 v15 v17 (x4 * x5) v11 (x9 - (x4 * x5)) h7
def fL_run_128 (k99 : Option Nat → Int32 → Int32 → Int32 → Int32 → Int32 → Int32 → Option Nat → Option Nat → Int32 → Int32 → Int32 → Int32 → Int32 → Int32 → am_H → Option (am_H)) : Nat → Option Nat → Int32 → Int32 → Int32 → Int32 → Int32 → Int32 → Option Nat → Option Nat → Int32 → Int32 → Int32 → Int32 → Int32 → Int32 → Int32 → Int32 → Int32 → am_H → Option (am_H)
  | 0, _, _, _, _, _, _, _, _, _, _, _, _, _, _, _, _, _, _, _ => none
  | n + 1, v0, v1, v2, v3, v4, v5, v6, v7, v8, v9, v10, v11, v12, v13, v14, v15, v16, v17, h => fL_run_128_b k99 (fL_run_128 k99 n) v0 v1 v2 v3 v4 v5 v6 v7 v8 v9 v10 v11 v12 v13 v14 v15 v16 v17 h
def fL_run_118 (k99 : Option Nat → Int32 → Int32 → Int32 → Int32 → Int32 → Int32 → Option Nat → Option Nat → Int32 → Int32 → Int32 → Int32 → Int32 → Int32 → am_H → Option (am_H)) (v0 : Option Nat) (v1 : Int32) (v2 : Int32) (v3 : Int32) (v4 : Int32) (v5 : Int32) (v6 : Int32) (v7 : Option Nat) (v8 : Option Nat) (v9 : Int32) (v10 : Int32) (v11 : Int32) (v12 : Int32) (v13 : Int32) (v14 : Int32) (s0 : Int32) (h : am_H) : Option (am_H) :=
  (am_al h v0 0 (3 : Int32)).bind fun x1 =>
  (fL_run_128 k99 am_fu) v0 v1 v2 v3 v4 v5 v6 v7 v8 v9 v10 v11 v12 v13 v14 s0 x1 (0 : Int32) h
def fL_run_99_b (rec : Option Nat → Int32 → Int32 → Int32 → Int32 → Int32 → Int32 → Option Nat → Option Nat → Int32 → Int32 → Int32 → Int32 → Int32 → Int32 → am_H → Option (am_H)) (v0 : Option Nat) (v1 : Int32) (v2 : Int32) (v3 : Int32) (v4 : Int32) (v5 : Int32) (v6 : Int32) (v7 : Option Nat) (v8 : Option Nat) (v9 : Int32) (v10 : Int32) (v11 : Int32) (v12 : Int32) (v13 : Int32) (v14 : Int32) (h : am_H) : Option (am_H) :=
  if (96 : Int32) ≤ v14 then
    some h
  else
  if v14 < v5 then
    (fL_run_118 rec) v0 v1 v2 v3 v4 v5 v6 v7 v8 v9 v10 v11 v12 v13 v14 (0 : Int32) h
  else
  (fL_run_118 rec) v0 v1 v2 v3 v4 v5 v6 v7 v8 v9 v10 v11 v12 v13 v14 (1 : Int32) h
def fL_run_99 : Nat → Option Nat → Int32 → Int32 → Int32 → Int32 → Int32 → Int32 → Option Nat → Option Nat → Int32 → Int32 → Int32 → Int32 → Int32 → Int32 → am_H → Option (am_H)
  | 0, _, _, _, _, _, _, _, _, _, _, _, _, _, _, _, _ => none
  | n + 1, v0, v1, v2, v3, v4, v5, v6, v7, v8, v9, v10, v11, v12, v13, v14, h => fL_run_99_b  (fL_run_99  n) v0 v1 v2 v3 v4 v5 v6 v7 v8 v9 v10 v11 v12 v13 v14 h
def fL_run_48_b (rec : Option Nat → Int32 → Int32 → Int32 → Int32 → Int32 → Int32 → Option Nat → Option Nat → Int32 → am_H → Option (am_H)) (v0 : Option Nat) (v1 : Int32) (v2 : Int32) (v3 : Int32) (v4 : Int32) (v5 : Int32) (v6 : Int32) (v7 : Option Nat) (v8 : Option Nat) (v9 : Int32) (h : am_H) : Option (am_H) :=
  if (12 : Int32) ≤ v9 then
    (am_as h v7 0 (20 : Int32) (1000000 : Int32)).bind fun h1 =>
    (am_as h1 v7 0 (21 : Int32) (0 : Int32)).bind fun h2 =>
    (fL_run_99 am_fu) v0 v1 v2 v3 v4 v5 v6 v7 v8 (0 : Int32) (0 : Int32) (0 : Int32) (0 : Int32) (0 : Int32) (0 : Int32) h2
  else
  (am_as h v7 0 v9 (96 : Int32)).bind fun h3 =>
  rec v0 v1 v2 v3 v4 v5 v6 v7 v8 (v9 + (1 : Int32)) h3
def fL_run_48 : Nat → Option Nat → Int32 → Int32 → Int32 → Int32 → Int32 → Int32 → Option Nat → Option Nat → Int32 → am_H → Option (am_H)
  | 0, _, _, _, _, _, _, _, _, _, _, _ => none
  | n + 1, v0, v1, v2, v3, v4, v5, v6, v7, v8, v9, h => fL_run_48_b  (fL_run_48  n) v0 v1 v2 v3 v4 v5 v6 v7 v8 v9 h
def fL_run_8_b (rec : Option Nat → Int32 → Int32 → Int32 → Int32 → Int32 → Int32 → Option Nat → Option Nat → Int32 → am_H → Option (am_H)) (v0 : Option Nat) (v1 : Int32) (v2 : Int32) (v3 : Int32) (v4 : Int32) (v5 : Int32) (v6 : Int32) (v7 : Option Nat) (v8 : Option Nat) (v9 : Int32) (h : am_H) : Option (am_H) :=
  (am_al h v0 0 (0 : Int32)).bind fun x1 =>
  if x1 ≤ v9 then
    (fL_run_48 am_fu) v0 v1 v2 v3 v4 v5 v6 v7 v8 (0 : Int32) h
  else
  (am_al h v0 0 ((5 : Int32) + ((3 : Int32) * v9))).bind fun x2 =>
  (am_al h v0 0 ((6 : Int32) + ((3 : Int32) * v9))).bind fun x3 =>
  (am_as h v8 0 v9 (x2 * x3)).bind fun h4 =>
  rec v0 v1 v2 v3 v4 v5 v6 v7 v8 (v9 + (1 : Int32)) h4
def fL_run_8 : Nat → Option Nat → Int32 → Int32 → Int32 → Int32 → Int32 → Int32 → Option Nat → Option Nat → Int32 → am_H → Option (am_H)
  | 0, _, _, _, _, _, _, _, _, _, _, _ => none
  | n + 1, v0, v1, v2, v3, v4, v5, v6, v7, v8, v9, h => fL_run_8_b  (fL_run_8  n) v0 v1 v2 v3 v4 v5 v6 v7 v8 v9 h
def fL_run (v0 : Option Nat) (v1 : Int32) (v2 : Int32) (v3 : Int32) (v4 : Int32) (v5 : Int32) (v6 : Int32) (v7 : Option Nat) (h : am_H) : Option (am_H) :=
  (am_na h 0 (3 : Int32)).bind fun y1 =>
  (fL_run_8 am_fu) v0 v1 v2 v3 v4 v5 v6 v7 y1.1 (0 : Int32) y1.2
/-! DroppingBalls.clockOf(I)LDroppingBalls$Clock; -/
def fX8_clockOf (v0 : Nat) (v1 : Int32) (h : am_H) : Option (Option Nat × am_H) :=
  (am_gi h (some v0) 8 3).bind fun x1 =>
  (fX8_isIn v1 (0 : Int32) (x1 - (1 : Int32)) h).bind fun y2 =>
  if y2.1 = 0 then
    some (none, y2.2)
  else
  if (4 : Int32) ≤ v1 then
    some (none, y2.2)
  else
  (am_gr y2.2 (some v0) 8 0).bind fun x3 =>
  (am_alr y2.2 x3 4 v1).bind fun x4 =>
  some (x4, y2.2)
/-! DroppingBalls.warmthOf(I)I -/
def fX8_warmthOf (v0 : Nat) (v1 : Int32) (h : am_H) : Option (Int32 × am_H) :=
  (fX8_isSeason v1 h).bind fun y1 =>
  if y1.1 = 0 then
    some ((100 : Int32), y1.2)
  else
  (am_gr y1.2 (some v0) 8 7).bind fun x2 =>
  (am_gr y1.2 x2 6 0).bind fun x3 =>
  (am_al y1.2 x3 0 v1).bind fun x4 =>
  some (x4, y1.2)
/-! DroppingBalls$Run.start(LDroppingBalls$Clock;ILDroppingBalls$Fault;)V -/
def fX5_start_23_b (rec : Option Nat → Int32 → am_H → Option (am_H)) (v0 : Option Nat) (v4 : Int32) (h : am_H) : Option (am_H) :=
  if (3 : Int32) ≤ v4 then
    (am_pi h v0 5 5 (0 : Int32)).bind fun h1 =>
    (am_pi h1 v0 5 6 (0 : Int32)).bind fun h2 =>
    (am_pi h2 v0 5 7 (0 : Int32)).bind fun h3 =>
    (am_pi h3 v0 5 8 (0 : Int32)).bind fun h4 =>
    (am_pi h4 v0 5 9 (0 : Int32)).bind fun h5 =>
    (am_pi h5 v0 5 10 (0 : Int32)).bind fun h6 =>
    (am_gr h6 v0 5 11).bind fun x7 =>
    (fJ7_fill_53178 x7 (-1 : Int32) h6).bind fun y8 =>
    (am_pi y8 v0 5 12 (0 : Int32)).bind fun h9 =>
    (am_pi h9 v0 5 13 (0 : Int32)).bind fun h10 =>
    some h10
  else
  (am_gr h v0 5 4).bind fun x11 =>
  (am_gr h v0 5 0).bind fun x12 =>
  (am_gr h x12 0 4).bind fun x13 =>
  (am_al h x13 0 v4).bind fun x14 =>
  (am_as h x11 0 v4 x14).bind fun h15 =>
  rec v0 (v4 + (1 : Int32)) h15
def fX5_start_23 : Nat → Option Nat → Int32 → am_H → Option (am_H)
  | 0, _, _, _ => none
  | n + 1, v0, v4, h => fX5_start_23_b  (fX5_start_23  n) v0 v4 h
def fX5_start (v0 : Nat) (v1 : Option Nat) (v2 : Int32) (v3 : Option Nat) (h : am_H) : Option (am_H) :=
  (am_pr h (some v0) 5 0 v1).bind fun h1 =>
  (am_pr h1 (some v0) 5 1 v3).bind fun h2 =>
  (am_pi h2 (some v0) 5 2 v2).bind fun h3 =>
  (am_pi h3 (some v0) 5 3 (0 : Int32)).bind fun h4 =>
  (fX5_start_23 am_fu) (some v0) (0 : Int32) h4
/-! DroppingBalls.startRun(III)Z -/
def fX8_startRun_24 (v0 : Option Nat) (v2 : Int32) (v4 : Option Nat) (s0 : Option Nat) (h : am_H) : Option (Int32 × am_H) :=
  if v4 = none then
    am_zr (0 : Int32) h
  else
  if s0 = none then
    am_zr (0 : Int32) h
  else
  (fX8_isSeason v2 h).bind fun y1 =>
  if y1.1 = 0 then
    am_zr (0 : Int32) y1.2
  else
  (am_gr y1.2 v0 8 14).bind fun x2 =>
  (am_rc y1.2 v0 8).bind fun b4 =>
  (fX8_warmthOf b4 v2 y1.2).bind fun y3 =>
  (am_rc y3.2 x2 5).bind fun b6 =>
  (fX5_start b6 v4 y3.1 s0 y3.2).bind fun y5 =>
  am_zr (1 : Int32) y5
def fX8_startRun (v0 : Nat) (v1 : Int32) (v2 : Int32) (v3 : Int32) (h : am_H) : Option (Int32 × am_H) :=
  (am_rc h (some v0) 8).bind fun b2 =>
  (fX8_clockOf b2 v1 h).bind fun y1 =>
  if v3 = (-1 : Int32) then
    (am_gr y1.2 (some v0) 8 12).bind fun x5 =>
    fX8_startRun_24 (some v0) v2 y1.1 x5 y1.2
  else
  (am_rc y1.2 (some v0) 8).bind fun b4 =>
  (fX8_faultOf b4 v3 y1.2).bind fun y3 =>
  fX8_startRun_24 (some v0) v2 y1.1 y3.1 y3.2
/-! DroppingBalls$Fault.warmthOf(II)I -/
def fX2_warmthOf (v0 : Nat) (v1 : Int32) (v2 : Int32) (h : am_H) : Option (Int32 × am_H) :=
  (am_gi h (some v0) 2 0).bind fun x1 =>
  if x1 = (4 : Int32) then
    (am_gi h (some v0) 2 3).bind fun x2 =>
    if v2 < x2 then
      some (v1, h)
    else
    (am_gi h (some v0) 2 2).bind fun x3 =>
    some (v1 - x3, h)
  else
  some (v1, h)
/-! DroppingBalls.quotient(II)I -/
def fX8_quotient (v0 : Int32) (v1 : Int32) (h : am_H) : Option (Int32 × am_H) :=
  if (1 : Int32) ≤ v1 then
    if v1 = 0 then none else
    some (v0 / v1, h)
  else
  some ((0 : Int32), h)
/-! DroppingBalls$Fault.holeOf(III)I -/
def fX2_holeOf (v0 : Nat) (v1 : Int32) (v2 : Int32) (v3 : Int32) (h : am_H) : Option (Int32 × am_H) :=
  (am_gi h (some v0) 2 1).bind fun x1 =>
  if x1 = v2 then
    (am_gi h (some v0) 2 3).bind fun x2 =>
    if x2 ≤ v3 then
      (am_gi h (some v0) 2 0).bind fun x3 =>
      if x3 = (1 : Int32) then
        (am_gi h (some v0) 2 2).bind fun x4 =>
        some (if (0 : Int32) < (v1 - x4) then (v1 - x4) else (0 : Int32), h)
      else
      if x3 = (2 : Int32) then
        (am_gi h (some v0) 2 2).bind fun x5 =>
        some (v1 + x5, h)
      else
      some (v1, h)
    else
    some (v1, h)
  else
  some (v1, h)
/-! DroppingBalls$Run.drip()V -/
def fX5_drip_210 (v0 : Option Nat) (v2 : Int32) (s0 : Option Nat) (s1 : Int32) (h : am_H) : Option (am_H) :=
  (am_pi h s0 5 12 s1).bind fun h1 =>
  (am_gi h1 v0 5 13).bind fun x2 =>
  (am_pi h1 v0 5 13 (if x2 < v2 then v2 else x2)).bind fun h3 =>
  some h3
def fX5_drip_170 (v0 : Option Nat) (v2 : Int32) (h : am_H) : Option (am_H) :=
  (am_gi h v0 5 5).bind fun x1 =>
  (am_pi h v0 5 5 (x1 + v2)).bind fun h2 =>
  (am_gi h2 v0 5 6).bind fun x3 =>
  (am_pi h2 v0 5 6 (x3 + v2)).bind fun h4 =>
  (am_gi h4 v0 5 3).bind fun x5 =>
  if x5 = 0 then
    fX5_drip_210 v0 v2 v0 v2 h4
  else
  (am_gi h4 v0 5 12).bind fun x6 =>
  fX5_drip_210 v0 v2 v0 (if v2 < x6 then v2 else x6) h4
def fX5_drip_98 (k26 : Option Nat → Int32 → Int32 → Int32 → am_H → Option (am_H)) (v0 : Option Nat) (v1 : Int32) (v3 : Int32) (v4 : Int32) (h : am_H) : Option (am_H) :=
  (am_gr h v0 5 0).bind fun x1 =>
  (am_gr h x1 0 1).bind fun x2 =>
  (am_al h x2 0 v3).bind fun x3 =>
  (fX8_quotient v4 x3 h).bind fun y4 =>
  (am_gr y4.2 v0 5 1).bind fun x5 =>
  (am_gr y4.2 v0 5 0).bind fun x6 =>
  (am_gr y4.2 x6 0 3).bind fun x7 =>
  (am_al y4.2 x7 0 v3).bind fun x8 =>
  (am_gi y4.2 v0 5 3).bind fun x9 =>
  (am_rc y4.2 x5 2).bind fun b11 =>
  (fX2_holeOf b11 x8 v3 x9 y4.2).bind fun y10 =>
  if (1000 : Int32) = 0 then none else
  (am_gr y10.2 v0 5 4).bind fun x12 =>
  (am_as y10.2 x12 0 v3 (v4 - (if (((y10.1 * y4.1) * v1) / (1000 : Int32)) < v4 then (((y10.1 * y4.1) * v1) / (1000 : Int32)) else v4))).bind fun h13 =>
  k26 v0 v1 (if (((y10.1 * y4.1) * v1) / (1000 : Int32)) < v4 then (((y10.1 * y4.1) * v1) / (1000 : Int32)) else v4) (v3 + (1 : Int32)) h13
def fX5_drip_26_b (rec : Option Nat → Int32 → Int32 → Int32 → am_H → Option (am_H)) (v0 : Option Nat) (v1 : Int32) (v2 : Int32) (v3 : Int32) (h : am_H) : Option (am_H) :=
  (am_gr h v0 5 0).bind fun x1 =>
  (am_gi h x1 0 0).bind fun x2 =>
  if x2 ≤ v3 then
    fX5_drip_170 v0 v2 h
  else
  if (3 : Int32) ≤ v3 then
    fX5_drip_170 v0 v2 h
  else
  (am_gr h v0 5 4).bind fun x3 =>
  (am_al h x3 0 v3).bind fun x4 =>
  (am_gr h v0 5 0).bind fun x5 =>
  (am_gr h x5 0 4).bind fun x6 =>
  (am_al h x6 0 v3).bind fun x7 =>
  if (x4 + v2) ≤ x7 then
    (fX5_drip_98 rec) v0 v1 v3 (x4 + v2) h
  else
  (am_gi h v0 5 7).bind fun x8 =>
  (am_gr h v0 5 0).bind fun x9 =>
  (am_gr h x9 0 4).bind fun x10 =>
  (am_al h x10 0 v3).bind fun x11 =>
  (am_pi h v0 5 7 (x8 + ((x4 + v2) - x11))).bind fun h12 =>
  (am_gr h12 v0 5 0).bind fun x13 =>
  (am_gr h12 x13 0 4).bind fun x14 =>
  (am_al h12 x14 0 v3).bind fun x15 =>
  (fX5_drip_98 rec) v0 v1 v3 x15 h12
def fX5_drip_26 : Nat → Option Nat → Int32 → Int32 → Int32 → am_H → Option (am_H)
  | 0, _, _, _, _, _ => none
  | n + 1, v0, v1, v2, v3, h => fX5_drip_26_b  (fX5_drip_26  n) v0 v1 v2 v3 h
def fX5_drip (v0 : Nat) (h : am_H) : Option (am_H) :=
  (am_gr h (some v0) 5 1).bind fun x1 =>
  (am_gi h (some v0) 5 2).bind fun x2 =>
  (am_gi h (some v0) 5 3).bind fun x3 =>
  (am_rc h x1 2).bind fun b5 =>
  (fX2_warmthOf b5 x2 x3 h).bind fun y4 =>
  (am_gr y4.2 (some v0) 5 0).bind fun x6 =>
  (am_gi y4.2 x6 0 7).bind fun x7 =>
  (fX5_drip_26 am_fu) (some v0) y4.1 x7 (0 : Int32) y4.2
/-! DroppingBalls$Clock.hasVessel(I)Z -/
def fX0_hasVessel (v0 : Nat) (v1 : Int32) (h : am_H) : Option (Int32 × am_H) :=
  if v1 < 0 then
    am_zr (0 : Int32) h
  else
  (am_gi h (some v0) 0 0).bind fun x1 =>
  if x1 ≤ v1 then
    am_zr (0 : Int32) h
  else
  if (3 : Int32) ≤ v1 then
    am_zr (0 : Int32) h
  else
  am_zr (1 : Int32) h
/-! DroppingBalls$Fault.leakAt(I)I -/
def fX2_leakAt (v0 : Nat) (v1 : Int32) (h : am_H) : Option (Int32 × am_H) :=
  (am_gi h (some v0) 2 0).bind fun x1 =>
  if x1 = (3 : Int32) then
    (am_gi h (some v0) 2 3).bind fun x2 =>
    if v1 < x2 then
      some ((0 : Int32), h)
    else
    (am_gi h (some v0) 2 2).bind fun x3 =>
    some (x3, h)
  else
  some ((0 : Int32), h)
/-! DroppingBalls$Run.leak()V -/
def fX5_leak (v0 : Nat) (h : am_H) : Option (am_H) :=
  (am_gr h (some v0) 5 1).bind fun x1 =>
  (am_gi h x1 2 1).bind fun x2 =>
  (am_gr h (some v0) 5 0).bind fun x3 =>
  (am_rc h x3 0).bind fun b5 =>
  (fX0_hasVessel b5 x2 h).bind fun y4 =>
  if y4.1 = 0 then
    some y4.2
  else
  (am_gr y4.2 (some v0) 5 4).bind fun x6 =>
  (am_al y4.2 x6 0 x2).bind fun x7 =>
  (am_gr y4.2 (some v0) 5 1).bind fun x8 =>
  (am_gi y4.2 (some v0) 5 3).bind fun x9 =>
  (am_rc y4.2 x8 2).bind fun b11 =>
  (fX2_leakAt b11 x9 y4.2).bind fun y10 =>
  (am_gr y10.2 (some v0) 5 4).bind fun x12 =>
  (am_al y10.2 x12 0 x2).bind fun x13 =>
  (am_as y10.2 x12 0 x2 (x13 - (if y10.1 < x7 then y10.1 else x7))).bind fun h14 =>
  (am_gi h14 (some v0) 5 8).bind fun x15 =>
  (am_pi h14 (some v0) 5 8 (x15 + (if y10.1 < x7 then y10.1 else x7))).bind fun h16 =>
  some h16
/-! DroppingBalls$Run.dropBalls()V -/
def fX5_dropBalls_20_b (rec : Option Nat → Int32 → Int32 → am_H → Option (am_H)) (v0 : Option Nat) (v1 : Int32) (v2 : Int32) (h : am_H) : Option (am_H) :=
  (am_gr h v0 5 0).bind fun x1 =>
  (am_gi h x1 0 8).bind fun x2 =>
  if x2 ≤ v2 then
    some h
  else
  if (12 : Int32) ≤ v2 then
    some h
  else
  (am_gr h v0 5 0).bind fun x3 =>
  (am_gr h x3 0 9).bind fun x4 =>
  (am_al h x4 0 v2).bind fun x5 =>
  if x5 ≤ v1 then
    (am_gr h v0 5 11).bind fun x6 =>
    (am_gi h v0 5 3).bind fun x7 =>
    (am_as h x6 0 v2 x7).bind fun h8 =>
    (am_gi h8 v0 5 10).bind fun x9 =>
    (am_pi h8 v0 5 10 (x9 + (1 : Int32))).bind fun h10 =>
    rec v0 v1 (v2 + (1 : Int32)) h10
  else
  some h
def fX5_dropBalls_20 : Nat → Option Nat → Int32 → Int32 → am_H → Option (am_H)
  | 0, _, _, _, _ => none
  | n + 1, v0, v1, v2, h => fX5_dropBalls_20_b  (fX5_dropBalls_20  n) v0 v1 v2 h
def fX5_dropBalls (v0 : Nat) (h : am_H) : Option (am_H) :=
  (am_gi h (some v0) 5 5).bind fun x1 =>
  (am_gr h (some v0) 5 0).bind fun x2 =>
  (am_gi h x2 0 5).bind fun x3 =>
  (fX8_quotient x1 x3 h).bind fun y4 =>
  (am_gi y4.2 (some v0) 5 10).bind fun x5 =>
  (fX5_dropBalls_20 am_fu) (some v0) y4.1 x5 y4.2
/-! DroppingBalls$Run.siphon()V -/
def fX5_siphon (v0 : Nat) (h : am_H) : Option (am_H) :=
  (am_gi h (some v0) 5 5).bind fun x1 =>
  (am_gr h (some v0) 5 0).bind fun x2 =>
  (am_gi h x2 0 5).bind fun x3 =>
  (fX8_quotient x1 x3 h).bind fun y4 =>
  (am_gr y4.2 (some v0) 5 0).bind fun x5 =>
  (am_gi y4.2 x5 0 6).bind fun x6 =>
  if y4.1 < x6 then
    some y4.2
  else
  (am_gi y4.2 (some v0) 5 10).bind fun x7 =>
  (am_gr y4.2 (some v0) 5 0).bind fun x8 =>
  (am_gi y4.2 x8 0 8).bind fun x9 =>
  if x7 < x9 then
    some y4.2
  else
  (am_pi y4.2 (some v0) 5 5 (0 : Int32)).bind fun h10 =>
  (am_gi h10 (some v0) 5 9).bind fun x11 =>
  (am_pi h10 (some v0) 5 9 (x11 + (1 : Int32))).bind fun h12 =>
  some h12
/-! DroppingBalls$Run.advance()V -/
def fX5_advance (v0 : Nat) (h : am_H) : Option (am_H) :=
  (am_rc h (some v0) 5).bind fun b2 =>
  (fX5_drip b2 h).bind fun y1 =>
  (am_rc y1 (some v0) 5).bind fun b4 =>
  (fX5_leak b4 y1).bind fun y3 =>
  (am_rc y3 (some v0) 5).bind fun b6 =>
  (fX5_dropBalls b6 y3).bind fun y5 =>
  (am_rc y5 (some v0) 5).bind fun b8 =>
  (fX5_siphon b8 y5).bind fun y7 =>
  (am_gi y7 (some v0) 5 3).bind fun x9 =>
  (am_pi y7 (some v0) 5 3 (x9 + (1 : Int32))).bind fun h10 =>
  some h10
/-! DroppingBalls$Run.goOnTo(I)V -/
def fX5_goOnTo_5_b (rec : Option Nat → Int32 → Int32 → am_H → Option (am_H)) (v0 : Option Nat) (v1 : Int32) (v2 : Int32) (h : am_H) : Option (am_H) :=
  if v1 ≤ v2 then
    some h
  else
  (am_rc h v0 5).bind fun b2 =>
  (fX5_advance b2 h).bind fun y1 =>
  rec v0 v1 (v2 + (1 : Int32)) y1
def fX5_goOnTo_5 : Nat → Option Nat → Int32 → Int32 → am_H → Option (am_H)
  | 0, _, _, _, _ => none
  | n + 1, v0, v1, v2, h => fX5_goOnTo_5_b  (fX5_goOnTo_5  n) v0 v1 v2 h
def fX5_goOnTo (v0 : Nat) (v1 : Int32) (h : am_H) : Option (am_H) :=
  (am_gi h (some v0) 5 3).bind fun x1 =>
  (fX5_goOnTo_5 am_fu) (some v0) v1 x1 h
/-! DroppingBalls$Run.measure(I)I -/
def fX5_measure (v0 : Nat) (v1 : Int32) (h : am_H) : Option (Int32 × am_H) :=
  if v1 = (3 : Int32) then
    (am_gi h (some v0) 5 5).bind fun x1 =>
    some (x1, h)
  else
  if v1 = (4 : Int32) then
    (am_gi h (some v0) 5 10).bind fun x2 =>
    some (x2, h)
  else
  if v1 = (5 : Int32) then
    (am_gi h (some v0) 5 7).bind fun x3 =>
    some (x3, h)
  else
  if v1 = (6 : Int32) then
    (am_gi h (some v0) 5 8).bind fun x4 =>
    some (x4, h)
  else
  if v1 = (7 : Int32) then
    (am_gi h (some v0) 5 9).bind fun x5 =>
    some (x5, h)
  else
  (am_gr h (some v0) 5 0).bind fun x6 =>
  (am_rc h x6 0).bind fun b8 =>
  (fX0_hasVessel b8 v1 h).bind fun y7 =>
  if y7.1 = 0 then
    some ((-1 : Int32), y7.2)
  else
  (am_gr y7.2 (some v0) 5 4).bind fun x9 =>
  (am_al y7.2 x9 0 v1).bind fun x10 =>
  some (x10, y7.2)
/-! DroppingBalls.at(IIIII)I -/
def fX8_at (v0 : Nat) (v1 : Int32) (v2 : Int32) (v3 : Int32) (v4 : Int32) (v5 : Int32) (h : am_H) : Option (Int32 × am_H) :=
  (am_rc h (some v0) 8).bind fun b2 =>
  (fX8_startRun b2 v1 v2 v3 h).bind fun y1 =>
  if y1.1 = 0 then
    some ((-101 : Int32), y1.2)
  else
  (fX8_isTick v4 y1.2).bind fun y3 =>
  if y3.1 = 0 then
    some ((-102 : Int32), y3.2)
  else
  (fX8_isIn v5 (0 : Int32) (7 : Int32) y3.2).bind fun y4 =>
  if y4.1 = 0 then
    some ((-102 : Int32), y4.2)
  else
  (am_gr y4.2 (some v0) 8 14).bind fun x5 =>
  (am_rc y4.2 x5 5).bind fun b7 =>
  (fX5_goOnTo b7 (v4 + (1 : Int32)) y4.2).bind fun y6 =>
  (am_gr y6 (some v0) 8 14).bind fun x8 =>
  (am_rc y6 x8 5).bind fun b10 =>
  (fX5_measure b10 v5 y6).bind fun y9 =>
  some (y9.1, y9.2)
/-! DroppingBalls.even(IIII)I -/
def fX8_even (v0 : Nat) (v1 : Int32) (v2 : Int32) (v3 : Int32) (v4 : Int32) (h : am_H) : Option (Int32 × am_H) :=
  (am_rc h (some v0) 8).bind fun b2 =>
  (fX8_startRun b2 v1 v2 v3 h).bind fun y1 =>
  if y1.1 = 0 then
    some ((-101 : Int32), y1.2)
  else
  (fX8_isIn v4 (0 : Int32) (1 : Int32) y1.2).bind fun y3 =>
  if y3.1 = 0 then
    some ((-102 : Int32), y3.2)
  else
  (am_gr y3.2 (some v0) 8 14).bind fun x4 =>
  (am_rc y3.2 x4 5).bind fun b6 =>
  (fX5_goOnTo b6 (96 : Int32) y3.2).bind fun y5 =>
  if v4 = 0 then
    (am_gr y5 (some v0) 8 14).bind fun x9 =>
    (am_gi y5 x9 5 12).bind fun x10 =>
    some (x10, y5)
  else
  (am_gr y5 (some v0) 8 14).bind fun x7 =>
  (am_gi y5 x7 5 13).bind fun x8 =>
  some (x8, y5)
/-! DroppingBallsLaw.size(I)I -/
def fL_size (v0 : Int32) (h : am_H) : Option (Int32 × am_H) :=
  if 0 ≤ v0 then
    some (v0, h)
  else
  some (-v0, h)
/-! DroppingBalls$Clock.hasBall(I)Z -/
def fX0_hasBall (v0 : Nat) (v1 : Int32) (h : am_H) : Option (Int32 × am_H) :=
  if v1 < 0 then
    am_zr (0 : Int32) h
  else
  (am_gi h (some v0) 0 8).bind fun x1 =>
  if x1 ≤ v1 then
    am_zr (0 : Int32) h
  else
  if (12 : Int32) ≤ v1 then
    am_zr (0 : Int32) h
  else
  am_zr (1 : Int32) h
/-! DroppingBalls$Run.tickOf(I)I -/
def fX5_tickOf (v0 : Nat) (v1 : Int32) (h : am_H) : Option (Int32 × am_H) :=
  (am_gr h (some v0) 5 0).bind fun x1 =>
  (am_rc h x1 0).bind fun b3 =>
  (fX0_hasBall b3 v1 h).bind fun y2 =>
  if y2.1 = 0 then
    some ((-1 : Int32), y2.2)
  else
  (am_gr y2.2 (some v0) 5 11).bind fun x4 =>
  (am_al y2.2 x4 0 v1).bind fun x5 =>
  some (x5, y2.2)
/-! DroppingBalls.drops(IIII)I -/
def fX8_drops (v0 : Nat) (v1 : Int32) (v2 : Int32) (v3 : Int32) (v4 : Int32) (h : am_H) : Option (Int32 × am_H) :=
  (am_rc h (some v0) 8).bind fun b2 =>
  (fX8_startRun b2 v1 v2 v3 h).bind fun y1 =>
  if y1.1 = 0 then
    some ((-101 : Int32), y1.2)
  else
  (am_gr y1.2 (some v0) 8 14).bind fun x3 =>
  (am_gr y1.2 x3 5 0).bind fun x4 =>
  (am_rc y1.2 x4 0).bind fun b6 =>
  (fX0_hasBall b6 v4 y1.2).bind fun y5 =>
  if y5.1 = 0 then
    some ((-101 : Int32), y5.2)
  else
  (am_gr y5.2 (some v0) 8 14).bind fun x7 =>
  (am_rc y5.2 x7 5).bind fun b9 =>
  (fX5_goOnTo b9 (96 : Int32) y5.2).bind fun y8 =>
  (am_gr y8 (some v0) 8 14).bind fun x10 =>
  (am_rc y8 x10 5).bind fun b12 =>
  (fX5_tickOf b12 v4 y8).bind fun y11 =>
  some (y11.1, y11.2)
/-! DroppingBalls.daylightOf(I)I -/
def fX8_daylightOf (v0 : Nat) (v1 : Int32) (h : am_H) : Option (Int32 × am_H) :=
  (fX8_isSeason v1 h).bind fun y1 =>
  if y1.1 = 0 then
    some ((48 : Int32), y1.2)
  else
  (am_gr y1.2 (some v0) 8 7).bind fun x2 =>
  (am_gr y1.2 x2 6 1).bind fun x3 =>
  (am_al y1.2 x3 0 v1).bind fun x4 =>
  some (x4, y1.2)
/-! DroppingBalls$Clock.trueTick(II)I -/
def fX0_trueTick (v0 : Nat) (v1 : Int32) (v2 : Int32) (h : am_H) : Option (Int32 × am_H) :=
  (am_gi h (some v0) 0 8).bind fun x1 =>
  (fX8_quotient ((v1 + (1 : Int32)) * v2) x1 h).bind fun y2 =>
  some (y2.1, y2.2)
/-! DroppingBalls$Run.errorOf(II)I -/
def fX5_errorOf_17 (v0 : Option Nat) (v1 : Int32) (v2 : Int32) (s0 : Int32) (h : am_H) : Option (Int32 × am_H) :=
  (am_gr h v0 5 0).bind fun x1 =>
  (am_rc h x1 0).bind fun b3 =>
  (fX0_trueTick b3 v1 v2 h).bind fun y2 =>
  some (s0 - y2.1, y2.2)
def fX5_errorOf (v0 : Nat) (v1 : Int32) (v2 : Int32) (h : am_H) : Option (Int32 × am_H) :=
  (am_rc h (some v0) 5).bind fun b2 =>
  (fX5_tickOf b2 v1 h).bind fun y1 =>
  if y1.1 = (-1 : Int32) then
    fX5_errorOf_17 (some v0) v1 v2 (96 : Int32) y1.2
  else
  fX5_errorOf_17 (some v0) v1 v2 y1.1 y1.2
/-! DroppingBalls.error(IIII)I -/
def fX8_error (v0 : Nat) (v1 : Int32) (v2 : Int32) (v3 : Int32) (v4 : Int32) (h : am_H) : Option (Int32 × am_H) :=
  (am_rc h (some v0) 8).bind fun b2 =>
  (fX8_startRun b2 v1 v2 v3 h).bind fun y1 =>
  if y1.1 = 0 then
    some ((-1001 : Int32), y1.2)
  else
  (am_gr y1.2 (some v0) 8 14).bind fun x3 =>
  (am_gr y1.2 x3 5 0).bind fun x4 =>
  (am_rc y1.2 x4 0).bind fun b6 =>
  (fX0_hasBall b6 v4 y1.2).bind fun y5 =>
  if y5.1 = 0 then
    some ((-1001 : Int32), y5.2)
  else
  (am_gr y5.2 (some v0) 8 14).bind fun x7 =>
  (am_rc y5.2 x7 5).bind fun b9 =>
  (fX5_goOnTo b9 (96 : Int32) y5.2).bind fun y8 =>
  (am_gr y8 (some v0) 8 14).bind fun x10 =>
  (am_rc y8 (some v0) 8).bind fun b12 =>
  (fX8_daylightOf b12 v2 y8).bind fun y11 =>
  (am_rc y11.2 x10 5).bind fun b14 =>
  (fX5_errorOf b14 v4 y11.1 y11.2).bind fun y13 =>
  some (y13.1, y13.2)
/-! DroppingBalls$Run.errorSize(II)I -/
def fX5_errorSize (v0 : Nat) (v1 : Int32) (v2 : Int32) (h : am_H) : Option (Int32 × am_H) :=
  (am_rc h (some v0) 5).bind fun b2 =>
  (fX5_errorOf b2 v1 v2 h).bind fun y1 =>
  some (if 0 ≤ y1.1 then y1.1 else 0 - y1.1, y1.2)
/-! DroppingBalls.commonMeasure(II)I -/
def fX8_commonMeasure_7_b (rec : Int32 → Int32 → Int32 → am_H → Option (Int32 × am_H)) (v2 : Int32) (v3 : Int32) (v4 : Int32) (h : am_H) : Option (Int32 × am_H) :=
  if (100 : Int32) ≤ v4 then
    some (v2, h)
  else
  if v3 ≤ 0 then
    some (v2, h)
  else
  if v3 = 0 then none else
  rec v3 (v2 - v2 / v3 * v3) (v4 + (1 : Int32)) h
def fX8_commonMeasure_7 : Nat → Int32 → Int32 → Int32 → am_H → Option (Int32 × am_H)
  | 0, _, _, _, _ => none
  | n + 1, v2, v3, v4, h => fX8_commonMeasure_7_b  (fX8_commonMeasure_7  n) v2 v3 v4 h
def fX8_commonMeasure (v0 : Int32) (v1 : Int32) (h : am_H) : Option (Int32 × am_H) :=
  (fX8_commonMeasure_7 am_fu) v0 v1 (0 : Int32) h
/-! DroppingBalls.mean(IIII)I -/
def fX8_mean_105 (v5 : Int32) (v6 : Int32) (s0 : Int32) (h : am_H) : Option (Int32 × am_H) :=
  (fX8_commonMeasure v5 v6 h).bind fun y1 =>
  (fX8_quotient s0 y1.1 y1.2).bind fun y2 =>
  some (y2.1, y2.2)
def fX8_mean_41_b (rec : Option Nat → Int32 → Int32 → Int32 → Int32 → am_H → Option (Int32 × am_H)) (v0 : Option Nat) (v2 : Int32) (v4 : Int32) (v5 : Int32) (v6 : Int32) (h : am_H) : Option (Int32 × am_H) :=
  (am_gr h v0 8 14).bind fun x1 =>
  (am_gr h x1 5 0).bind fun x2 =>
  (am_gi h x2 0 8).bind fun x3 =>
  if x3 ≤ v6 then
    (am_gr h v0 8 14).bind fun x4 =>
    (am_gr h x4 5 0).bind fun x5 =>
    (am_gi h x5 0 8).bind fun x6 =>
    if v4 = 0 then
      fX8_mean_105 v5 x6 v5 h
    else
    fX8_mean_105 v5 x6 x6 h
  else
  (am_gr h v0 8 14).bind fun x7 =>
  (am_rc h v0 8).bind fun b9 =>
  (fX8_daylightOf b9 v2 h).bind fun y8 =>
  (am_rc y8.2 x7 5).bind fun b11 =>
  (fX5_errorSize b11 v6 y8.1 y8.2).bind fun y10 =>
  rec v0 v2 v4 (v5 + y10.1) (v6 + (1 : Int32)) y10.2
def fX8_mean_41 : Nat → Option Nat → Int32 → Int32 → Int32 → Int32 → am_H → Option (Int32 × am_H)
  | 0, _, _, _, _, _, _ => none
  | n + 1, v0, v2, v4, v5, v6, h => fX8_mean_41_b  (fX8_mean_41  n) v0 v2 v4 v5 v6 h
def fX8_mean (v0 : Nat) (v1 : Int32) (v2 : Int32) (v3 : Int32) (v4 : Int32) (h : am_H) : Option (Int32 × am_H) :=
  (am_rc h (some v0) 8).bind fun b2 =>
  (fX8_startRun b2 v1 v2 v3 h).bind fun y1 =>
  if y1.1 = 0 then
    some ((-101 : Int32), y1.2)
  else
  (fX8_isIn v4 (0 : Int32) (1 : Int32) y1.2).bind fun y3 =>
  if y3.1 = 0 then
    some ((-102 : Int32), y3.2)
  else
  (am_gr y3.2 (some v0) 8 14).bind fun x4 =>
  (am_rc y3.2 x4 5).bind fun b6 =>
  (fX5_goOnTo b6 (96 : Int32) y3.2).bind fun y5 =>
  (fX8_mean_41 am_fu) (some v0) v2 v4 (0 : Int32) (0 : Int32) y5
/-! DroppingBalls$Play.start()V -/
def fX4_start_2_b (rec : Option Nat → Int32 → am_H → Option (am_H)) (v0 : Option Nat) (v1 : Int32) (h : am_H) : Option (am_H) :=
  if (10 : Int32) ≤ v1 then
    (am_gr h v0 4 2).bind fun x1 =>
    (fJ7_fill_53178 x1 (0 : Int32) h).bind fun y2 =>
    (am_gr y2 v0 4 6).bind fun x3 =>
    (fJ7_fill_53178 x3 (-1 : Int32) y2).bind fun y4 =>
    (am_pi y4 v0 4 5 (0 : Int32)).bind fun h5 =>
    (am_pi h5 v0 4 7 (0 : Int32)).bind fun h6 =>
    (am_pi h6 v0 4 8 (0 : Int32)).bind fun h7 =>
    (am_pi h7 v0 4 9 (0 : Int32)).bind fun h8 =>
    (am_pi h8 v0 4 10 (-1 : Int32)).bind fun h9 =>
    (am_pi h9 v0 4 11 (-1 : Int32)).bind fun h10 =>
    some h10
  else
  (am_gr h v0 4 0).bind fun x11 =>
  (am_as h x11 0 v1 (0 : Int32)).bind fun h12 =>
  (am_gr h12 v0 4 1).bind fun x13 =>
  (am_as h12 x13 3 v1 (vp_nar .boolean (0 : Int32))).bind fun h14 =>
  rec v0 (v1 + (1 : Int32)) h14
def fX4_start_2 : Nat → Option Nat → Int32 → am_H → Option (am_H)
  | 0, _, _, _ => none
  | n + 1, v0, v1, h => fX4_start_2_b  (fX4_start_2  n) v0 v1 h
def fX4_start (v0 : Nat) (h : am_H) : Option (am_H) :=
  (fX4_start_2 am_fu) (some v0) (0 : Int32) h
/-! DroppingBalls$Play.comesOut(LDroppingBalls$Work;I)Z -/
def fX4_comesOut_98 (s0 : Option Nat) (s1 : Int32) (h : am_H) : Option (Int32 × am_H) :=
  (am_pi h s0 4 10 s1).bind fun h1 =>
  am_zr (0 : Int32) h1
def fX4_comesOut_132 (v0 : Option Nat) (h : am_H) : Option (Int32 × am_H) :=
  (am_gi h v0 4 7).bind fun x1 =>
  (am_pi h v0 4 7 (x1 + (1 : Int32))).bind fun h2 =>
  am_zr (1 : Int32) h2
def fX4_comesOut_78 (v0 : Option Nat) (v3 : Int32) (s0 : Option Nat) (s1 : Int32) (h : am_H) : Option (Int32 × am_H) :=
  (am_pi h s0 4 11 s1).bind fun h1 =>
  (am_gi h1 v0 4 10).bind fun x2 =>
  if x2 = (-1 : Int32) then
    fX4_comesOut_98 v0 v3 h1
  else
  (am_gi h1 v0 4 10).bind fun x3 =>
  fX4_comesOut_98 v0 x3 h1
def fX4_comesOut (v0 : Nat) (v1 : Option Nat) (v2 : Int32) (h : am_H) : Option (Int32 × am_H) :=
  (am_gi h v1 7 0).bind fun x1 =>
  (am_gi h v1 7 2).bind fun x2 =>
  if x1 < 0 then
    am_zr (0 : Int32) h
  else
  if (10 : Int32) ≤ x1 then
    am_zr (0 : Int32) h
  else
  if x2 < 0 then
    am_zr (0 : Int32) h
  else
  if (4 : Int32) ≤ x2 then
    am_zr (0 : Int32) h
  else
  (am_gr h (some v0) 4 1).bind fun x3 =>
  (am_al h x3 3 x1).bind fun x4 =>
  if x4 = 0 then
    (am_gr h (some v0) 4 2).bind fun x5 =>
    (am_al h x5 0 x2).bind fun x6 =>
    if x6 ≤ v2 then
      (am_gr h (some v0) 4 2).bind fun x7 =>
      (am_as h x7 0 x2 (v2 + (3 : Int32))).bind fun h8 =>
      (am_gi h8 (some v0) 4 7).bind fun x9 =>
      if (20 : Int32) ≤ x9 then
        fX4_comesOut_132 (some v0) h8
      else
      (am_gr h8 (some v0) 4 6).bind fun x10 =>
      (am_gi h8 (some v0) 4 7).bind fun x11 =>
      (am_as h8 x10 0 x11 x1).bind fun h12 =>
      fX4_comesOut_132 (some v0) h12
    else
    (am_gr h (some v0) 4 1).bind fun x13 =>
    (am_as h x13 3 x1 (vp_nar .boolean (1 : Int32))).bind fun h14 =>
    (am_gi h14 (some v0) 4 10).bind fun x15 =>
    if x15 = (-1 : Int32) then
      fX4_comesOut_78 (some v0) x1 (some v0) v2 h14
    else
    (am_gi h14 (some v0) 4 11).bind fun x16 =>
    fX4_comesOut_78 (some v0) x1 (some v0) x16 h14
  else
  am_zr (0 : Int32) h
/-! DroppingBalls$Play.turn(LDroppingBalls$Work;I)V -/
def fX4_turn (v0 : Nat) (v1 : Option Nat) (v2 : Int32) (h : am_H) : Option (am_H) :=
  (am_gi h (some v0) 4 5).bind fun x1 =>
  (am_gr h (some v0) 4 3).bind fun x2 =>
  (am_an h x2).bind fun x3 =>
  if x3 ≤ x1 then
    some h
  else
  (am_gi h (some v0) 4 5).bind fun x4 =>
  (am_gr h (some v0) 4 4).bind fun x5 =>
  (am_an h x5).bind fun x6 =>
  if x6 ≤ x4 then
    some h
  else
  (am_gr h (some v0) 4 3).bind fun x7 =>
  (am_gi h (some v0) 4 5).bind fun x8 =>
  (am_asr h x7 6 x8 v1).bind fun h9 =>
  (am_gr h9 (some v0) 4 4).bind fun x10 =>
  (am_gi h9 (some v0) 4 5).bind fun x11 =>
  (am_gi h9 v1 7 2).bind fun x12 =>
  (am_as h9 x10 0 x11 (v2 + x12)).bind fun h13 =>
  (am_gi h13 (some v0) 4 5).bind fun x14 =>
  (am_pi h13 (some v0) 4 5 (x14 + (1 : Int32))).bind fun h15 =>
  some h15
/-! DroppingBalls$Play.isCountedOut(LDroppingBalls$Work;)Z -/
def fX4_isCountedOut (v0 : Nat) (v1 : Option Nat) (h : am_H) : Option (Int32 × am_H) :=
  (am_gi h v1 7 0).bind fun x1 =>
  if x1 < 0 then
    am_zr (0 : Int32) h
  else
  if (10 : Int32) ≤ x1 then
    am_zr (0 : Int32) h
  else
  (am_gi h v1 7 2).bind fun x2 =>
  if (1 : Int32) ≤ x2 then
    (am_gr h (some v0) 4 0).bind fun x3 =>
    (am_al h x3 0 x1).bind fun x4 =>
    (am_as h x3 0 x1 (x4 + (1 : Int32))).bind fun h5 =>
    (am_gr h5 (some v0) 4 0).bind fun x6 =>
    (am_al h5 x6 0 x1).bind fun x7 =>
    (am_gi h5 v1 7 2).bind fun x8 =>
    if x8 = 0 then none else
    if (x7 - x7 / x8 * x8) = 0 then
      am_zr (1 : Int32) h5
    else
    am_zr (0 : Int32) h5
  else
  am_zr (0 : Int32) h
/-! DroppingBalls$Play.strikesOn(LDroppingBalls$Work;I)Z -/
def fX4_strikesOn (v0 : Nat) (v1 : Option Nat) (v2 : Int32) (h : am_H) : Option (Int32 × am_H) :=
  (am_gi h v1 7 1).bind fun x1 =>
  if x1 = (1 : Int32) then
    (am_gi h (some v0) 4 9).bind fun x2 =>
    (am_gi h (some v0) 4 8).bind fun x3 =>
    (am_gi h v1 7 2).bind fun x4 =>
    (am_pi h (some v0) 4 9 (x2 + (x3 + x4))).bind fun h5 =>
    am_zr (1 : Int32) h5
  else
  if x1 = (2 : Int32) then
    (am_rc h (some v0) 4).bind fun b7 =>
    (fX4_comesOut b7 v1 v2 h).bind fun y6 =>
    am_zr y6.1 y6.2
  else
  if x1 = (3 : Int32) then
    (am_rc h (some v0) 4).bind fun b9 =>
    (fX4_turn b9 v1 v2 h).bind fun y8 =>
    am_zr (0 : Int32) y8
  else
  if x1 = (4 : Int32) then
    (am_rc h (some v0) 4).bind fun b11 =>
    (fX4_isCountedOut b11 v1 h).bind fun y10 =>
    am_zr y10.1 y10.2
  else
  am_zr (1 : Int32) h
/-! DroppingBalls$Play.strike(LDroppingBalls$Work;I)V -/
def fX4_strike_2_b (rec : Option Nat → Int32 → Option Nat → am_H → Option (am_H)) (v0 : Option Nat) (v2 : Int32) (v3 : Option Nat) (h : am_H) : Option (am_H) :=
  if v3 = none then
    some h
  else
  (am_rc h v0 4).bind fun b2 =>
  (fX4_strikesOn b2 v3 v2 h).bind fun y1 =>
  if y1.1 = 0 then
    some y1.2
  else
  (am_gr y1.2 v3 7 3).bind fun x3 =>
  rec v0 v2 x3 y1.2
def fX4_strike_2 : Nat → Option Nat → Int32 → Option Nat → am_H → Option (am_H)
  | 0, _, _, _, _ => none
  | n + 1, v0, v2, v3, h => fX4_strike_2_b  (fX4_strike_2  n) v0 v2 v3 h
def fX4_strike (v0 : Nat) (v1 : Option Nat) (v2 : Int32) (h : am_H) : Option (am_H) :=
  (fX4_strike_2 am_fu) (some v0) v2 v1 h
/-! DroppingBalls$Play.goThrough(IILDroppingBalls$Work;)V -/
def fX4_goThrough_81_b (rec : Option Nat → Int32 → Int32 → Option Nat → Int32 → am_H → Option (am_H)) (v0 : Option Nat) (v1 : Int32) (v2 : Int32) (v3 : Option Nat) (v5 : Int32) (h : am_H) : Option (am_H) :=
  if v2 ≤ v5 then
    some h
  else
  (am_gi h v0 4 8).bind fun x1 =>
  (am_pi h v0 4 8 (x1 + (1 : Int32))).bind fun h2 =>
  (am_rc h2 v0 4).bind fun b4 =>
  (fX4_strike b4 v3 v1 h2).bind fun y3 =>
  rec v0 v1 v2 v3 (v5 + (1 : Int32)) y3
def fX4_goThrough_81 : Nat → Option Nat → Int32 → Int32 → Option Nat → Int32 → am_H → Option (am_H)
  | 0, _, _, _, _, _, _ => none
  | n + 1, v0, v1, v2, v3, v5, h => fX4_goThrough_81_b  (fX4_goThrough_81  n) v0 v1 v2 v3 v5 h
def fX4_goThrough_78 (v0 : Option Nat) (v1 : Int32) (v2 : Int32) (v3 : Option Nat) (h : am_H) : Option (am_H) :=
  (fX4_goThrough_81 am_fu) v0 v1 v2 v3 (0 : Int32) h
def fX4_goThrough_72 (k9 : Option Nat → Int32 → Int32 → Option Nat → Int32 → Int32 → am_H → Option (am_H)) (v0 : Option Nat) (v1 : Int32) (v2 : Int32) (v3 : Option Nat) (v4 : Int32) (v5 : Int32) (h : am_H) : Option (am_H) :=
  k9 v0 v1 v2 v3 v4 (v5 + (1 : Int32)) h
def fX4_goThrough_9_b (rec : Option Nat → Int32 → Int32 → Option Nat → Int32 → Int32 → am_H → Option (am_H)) (v0 : Option Nat) (v1 : Int32) (v2 : Int32) (v3 : Option Nat) (v4 : Int32) (v5 : Int32) (h : am_H) : Option (am_H) :=
  if v4 ≤ v5 then
    fX4_goThrough_78 v0 v1 v2 v3 h
  else
  (am_gr h v0 4 3).bind fun x1 =>
  (am_an h x1).bind fun x2 =>
  if x2 ≤ v5 then
    fX4_goThrough_78 v0 v1 v2 v3 h
  else
  (am_gr h v0 4 4).bind fun x3 =>
  (am_an h x3).bind fun x4 =>
  if x4 ≤ v5 then
    fX4_goThrough_78 v0 v1 v2 v3 h
  else
  (am_gr h v0 4 4).bind fun x5 =>
  (am_al h x5 0 v5).bind fun x6 =>
  if x6 = v1 then
    (am_gr h v0 4 3).bind fun x7 =>
    (am_alr h x7 6 v5).bind fun x8 =>
    if x8 = none then
      (fX4_goThrough_72 rec) v0 v1 v2 v3 v4 v5 h
    else
    (am_gr h v0 4 3).bind fun x9 =>
    (am_alr h x9 6 v5).bind fun x10 =>
    (am_gr h x10 7 3).bind fun x11 =>
    (am_rc h v0 4).bind fun b13 =>
    (fX4_strike b13 x11 v1 h).bind fun y12 =>
    (fX4_goThrough_72 rec) v0 v1 v2 v3 v4 v5 y12
  else
  (fX4_goThrough_72 rec) v0 v1 v2 v3 v4 v5 h
def fX4_goThrough_9 : Nat → Option Nat → Int32 → Int32 → Option Nat → Int32 → Int32 → am_H → Option (am_H)
  | 0, _, _, _, _, _, _, _ => none
  | n + 1, v0, v1, v2, v3, v4, v5, h => fX4_goThrough_9_b  (fX4_goThrough_9  n) v0 v1 v2 v3 v4 v5 h
def fX4_goThrough (v0 : Nat) (v1 : Int32) (v2 : Int32) (v3 : Option Nat) (h : am_H) : Option (am_H) :=
  (am_gi h (some v0) 4 5).bind fun x1 =>
  (fX4_goThrough_9 am_fu) (some v0) v1 v2 v3 x1 (0 : Int32) h
/-! DroppingBalls.playRun()V -/
def fX8_playRun_21_b (rec : Option Nat → Option Nat → Int32 → am_H → Option (am_H)) (v0 : Option Nat) (v1 : Option Nat) (v2 : Int32) (h : am_H) : Option (am_H) :=
  if (96 : Int32) ≤ v2 then
    some h
  else
  (am_gr h v0 8 14).bind fun x1 =>
  (am_gi h x1 5 10).bind fun x2 =>
  (am_gr h v0 8 14).bind fun x3 =>
  (am_rc h x3 5).bind fun b5 =>
  (fX5_advance b5 h).bind fun y4 =>
  (am_gr y4 v0 8 16).bind fun x6 =>
  (am_gr y4 v0 8 14).bind fun x7 =>
  (am_gi y4 x7 5 10).bind fun x8 =>
  (am_rc y4 x6 4).bind fun b10 =>
  (fX4_goThrough b10 v2 (x8 - x2) v1 y4).bind fun y9 =>
  rec v0 v1 (v2 + (1 : Int32)) y9
def fX8_playRun_21 : Nat → Option Nat → Option Nat → Int32 → am_H → Option (am_H)
  | 0, _, _, _, _ => none
  | n + 1, v0, v1, v2, h => fX8_playRun_21_b  (fX8_playRun_21  n) v0 v1 v2 h
def fX8_playRun (v0 : Nat) (h : am_H) : Option (am_H) :=
  (am_gr h (some v0) 8 7).bind fun x1 =>
  (am_gi h x1 6 3).bind fun x2 =>
  (am_rc h (some v0) 8).bind fun b4 =>
  (fX8_workOf b4 x2 h).bind fun y3 =>
  (am_gr y3.2 (some v0) 8 16).bind fun x5 =>
  (am_rc y3.2 x5 4).bind fun b7 =>
  (fX4_start b7 y3.2).bind fun y6 =>
  (fX8_playRun_21 am_fu) (some v0) y3.1 (0 : Int32) y6
/-! DroppingBalls$Play.measure(I)I -/
def fX4_measure (v0 : Nat) (v1 : Int32) (h : am_H) : Option (Int32 × am_H) :=
  if v1 = (0 : Int32) then
    (am_gi h (some v0) 4 9).bind fun x1 =>
    some (x1, h)
  else
  if v1 = (1 : Int32) then
    (am_gi h (some v0) 4 7).bind fun x2 =>
    some (x2, h)
  else
  if v1 = (2 : Int32) then
    (am_gi h (some v0) 4 10).bind fun x3 =>
    some (x3, h)
  else
  (am_gi h (some v0) 4 11).bind fun x4 =>
  some (x4, h)
/-! DroppingBalls$Play.figureOf(I)I -/
def fX4_figureOf (v0 : Nat) (v1 : Int32) (h : am_H) : Option (Int32 × am_H) :=
  (fX8_isIn v1 (0 : Int32) (19 : Int32) h).bind fun y1 =>
  if y1.1 = 0 then
    some ((-1 : Int32), y1.2)
  else
  (am_gr y1.2 (some v0) 4 6).bind fun x2 =>
  (am_al y1.2 x2 0 v1).bind fun x3 =>
  some (x3, y1.2)
/-! DroppingBalls.shows(IIII)I -/
def fX8_shows_38 (v0 : Option Nat) (v4 : Int32) (h : am_H) : Option (Int32 × am_H) :=
  (am_rc h v0 8).bind fun b2 =>
  (fX8_playRun b2 h).bind fun y1 =>
  if (10 : Int32) ≤ v4 then
    (am_gr y1 v0 8 16).bind fun x3 =>
    (am_rc y1 x3 4).bind fun b5 =>
    (fX4_figureOf b5 (v4 - (10 : Int32)) y1).bind fun y4 =>
    some (y4.1, y4.2)
  else
  (am_gr y1 v0 8 16).bind fun x6 =>
  (am_rc y1 x6 4).bind fun b8 =>
  (fX4_measure b8 v4 y1).bind fun y7 =>
  some (y7.1, y7.2)
def fX8_shows (v0 : Nat) (v1 : Int32) (v2 : Int32) (v3 : Int32) (v4 : Int32) (h : am_H) : Option (Int32 × am_H) :=
  (am_rc h (some v0) 8).bind fun b2 =>
  (fX8_startRun b2 v1 v2 v3 h).bind fun y1 =>
  if y1.1 = 0 then
    some ((-101 : Int32), y1.2)
  else
  (fX8_isIn v4 (0 : Int32) (3 : Int32) y1.2).bind fun y3 =>
  if y3.1 = 0 then
    (fX8_isIn v4 (10 : Int32) (29 : Int32) y3.2).bind fun y4 =>
    if y4.1 = 0 then
      some ((-102 : Int32), y4.2)
    else
    fX8_shows_38 (some v0) v4 y4.2
  else
  fX8_shows_38 (some v0) v4 y3.2
/-! DroppingBalls.findWorst(LDroppingBalls$Clock;)V -/
def fX8_findWorst_98 (k42 : Option Nat → Option Nat → Int32 → Int32 → am_H → Option (am_H)) (v0 : Option Nat) (v1 : Option Nat) (v2 : Int32) (v3 : Int32) (h : am_H) : Option (am_H) :=
  k42 v0 v1 v2 (v3 + (1 : Int32)) h
def fX8_findWorst_42_b (k9 : Option Nat → Option Nat → Int32 → am_H → Option (am_H)) (rec : Option Nat → Option Nat → Int32 → Int32 → am_H → Option (am_H)) (v0 : Option Nat) (v1 : Option Nat) (v2 : Int32) (v3 : Int32) (h : am_H) : Option (am_H) :=
  (am_gi h v1 0 8).bind fun x1 =>
  if x1 ≤ v3 then
    k9 v0 v1 (v2 + (1 : Int32)) h
  else
  (am_gr h v0 8 14).bind fun x2 =>
  (am_rc h v0 8).bind fun b4 =>
  (fX8_daylightOf b4 v2 h).bind fun y3 =>
  (am_rc y3.2 x2 5).bind fun b6 =>
  (fX5_errorSize b6 v3 y3.1 y3.2).bind fun y5 =>
  (am_gr y5.2 v0 8 18).bind fun x7 =>
  (am_al y5.2 x7 0 (0 : Int32)).bind fun x8 =>
  if y5.1 ≤ x8 then
    (fX8_findWorst_98 rec) v0 v1 v2 v3 y5.2
  else
  (am_gr y5.2 v0 8 18).bind fun x9 =>
  (am_as y5.2 x9 0 (0 : Int32) y5.1).bind fun h10 =>
  (am_gr h10 v0 8 18).bind fun x11 =>
  (am_as h10 x11 0 (1 : Int32) v2).bind fun h12 =>
  (am_gr h12 v0 8 18).bind fun x13 =>
  (am_as h12 x13 0 (2 : Int32) v3).bind fun h14 =>
  (fX8_findWorst_98 rec) v0 v1 v2 v3 h14
def fX8_findWorst_42 (k9 : Option Nat → Option Nat → Int32 → am_H → Option (am_H)) : Nat → Option Nat → Option Nat → Int32 → Int32 → am_H → Option (am_H)
  | 0, _, _, _, _, _ => none
  | n + 1, v0, v1, v2, v3, h => fX8_findWorst_42_b k9 (fX8_findWorst_42 k9 n) v0 v1 v2 v3 h
def fX8_findWorst_9_b (rec : Option Nat → Option Nat → Int32 → am_H → Option (am_H)) (v0 : Option Nat) (v1 : Option Nat) (v2 : Int32) (h : am_H) : Option (am_H) :=
  if (4 : Int32) ≤ v2 then
    some h
  else
  (am_gr h v0 8 14).bind fun x1 =>
  (am_rc h v0 8).bind fun b3 =>
  (fX8_warmthOf b3 v2 h).bind fun y2 =>
  (am_gr y2.2 v0 8 12).bind fun x4 =>
  (am_rc y2.2 x1 5).bind fun b6 =>
  (fX5_start b6 v1 y2.1 x4 y2.2).bind fun y5 =>
  (am_gr y5 v0 8 14).bind fun x7 =>
  (am_rc y5 x7 5).bind fun b9 =>
  (fX5_goOnTo b9 (96 : Int32) y5).bind fun y8 =>
  (fX8_findWorst_42 rec am_fu) v0 v1 v2 (0 : Int32) y8
def fX8_findWorst_9 : Nat → Option Nat → Option Nat → Int32 → am_H → Option (am_H)
  | 0, _, _, _, _ => none
  | n + 1, v0, v1, v2, h => fX8_findWorst_9_b  (fX8_findWorst_9  n) v0 v1 v2 h
def fX8_findWorst (v0 : Nat) (v1 : Option Nat) (h : am_H) : Option (am_H) :=
  (am_gr h (some v0) 8 18).bind fun x1 =>
  (am_as h x1 0 (0 : Int32) (-1 : Int32)).bind fun h2 =>
  (fX8_findWorst_9 am_fu) (some v0) v1 (0 : Int32) h2
/-! DroppingBalls.worst(II)I -/
def fX8_worst (v0 : Nat) (v1 : Int32) (v2 : Int32) (h : am_H) : Option (Int32 × am_H) :=
  (am_rc h (some v0) 8).bind fun b2 =>
  (fX8_clockOf b2 v1 h).bind fun y1 =>
  if y1.1 = none then
    some ((-101 : Int32), y1.2)
  else
  (fX8_isIn v2 (0 : Int32) (2 : Int32) y1.2).bind fun y3 =>
  if y3.1 = 0 then
    some ((-102 : Int32), y3.2)
  else
  (am_rc y3.2 (some v0) 8).bind fun b5 =>
  (fX8_findWorst b5 y1.1 y3.2).bind fun y4 =>
  (am_gr y4 (some v0) 8 18).bind fun x6 =>
  (am_al y4 x6 0 v2).bind fun x7 =>
  some (x7, y4)
/-! DroppingBalls.better(II)I -/
def fX8_better (v0 : Nat) (v1 : Int32) (v2 : Int32) (h : am_H) : Option (Int32 × am_H) :=
  (am_rc h (some v0) 8).bind fun b2 =>
  (fX8_clockOf b2 v1 h).bind fun y1 =>
  (am_rc y1.2 (some v0) 8).bind fun b4 =>
  (fX8_clockOf b4 v2 y1.2).bind fun y3 =>
  if y1.1 = none then
    some ((-101 : Int32), y3.2)
  else
  if y3.1 = none then
    some ((-101 : Int32), y3.2)
  else
  (am_rc y3.2 (some v0) 8).bind fun b6 =>
  (fX8_findWorst b6 y1.1 y3.2).bind fun y5 =>
  (am_gr y5 (some v0) 8 18).bind fun x7 =>
  (am_al y5 x7 0 (0 : Int32)).bind fun x8 =>
  (am_rc y5 (some v0) 8).bind fun b10 =>
  (fX8_findWorst b10 y3.1 y5).bind fun y9 =>
  (am_gr y9 (some v0) 8 18).bind fun x11 =>
  (am_al y9 x11 0 (0 : Int32)).bind fun x12 =>
  if x8 ≤ x12 then
    some (v1, y9)
  else
  some (v2, y9)
/-! DroppingBallsLaw.law([I)Z -/
def fL_law_1372 (L : Nat) (xs : Nat → Int32) (k1374 : Option Nat → Option Nat → Option Nat → Option Nat → Int32 → Option Nat → Option Nat → Option Nat → Int32 → Option Nat → Int32 → Int32 → Option Nat → Option Nat → Int32 → Option Nat → Option Nat → Option Nat → Int32 → Int32 → Int32 → Int32 → Int32 → Int32 → Int32 → Int32 → Int32 → Int32 → am_H → Option (Int32 × am_H)) (v1 : Option Nat) (v2 : Option Nat) (v3 : Option Nat) (v4 : Option Nat) (v5 : Int32) (v6 : Option Nat) (v7 : Option Nat) (v8 : Option Nat) (v9 : Int32) (v10 : Option Nat) (v11 : Int32) (v17 : Int32) (v21 : Option Nat) (v22 : Option Nat) (v23 : Int32) (v24 : Option Nat) (v25 : Option Nat) (v26 : Option Nat) (v27 : Int32) (v28 : Int32) (v29 : Int32) (v30 : Int32) (v31 : Int32) (v32 : Int32) (v33 : Int32) (v34 : Int32) (v35 : Int32) (s0 : Int32) (h : am_H) : Option (Int32 × am_H) :=
  k1374 v1 v2 v3 v4 v5 v6 v7 v8 v9 v10 v11 v17 v21 v22 v23 v24 v25 v26 v27 v28 v29 v30 v31 v32 v33 v34 v35 s0 h
def fL_law_1328 (L : Nat) (xs : Nat → Int32) (k1374 : Option Nat → Option Nat → Option Nat → Option Nat → Int32 → Option Nat → Option Nat → Option Nat → Int32 → Option Nat → Int32 → Int32 → Option Nat → Option Nat → Int32 → Option Nat → Option Nat → Option Nat → Int32 → Int32 → Int32 → Int32 → Int32 → Int32 → Int32 → Int32 → Int32 → Int32 → am_H → Option (Int32 × am_H)) (v1 : Option Nat) (v2 : Option Nat) (v3 : Option Nat) (v4 : Option Nat) (v5 : Int32) (v6 : Option Nat) (v7 : Option Nat) (v8 : Option Nat) (v9 : Int32) (v10 : Option Nat) (v11 : Int32) (v17 : Int32) (v21 : Option Nat) (v22 : Option Nat) (v23 : Int32) (v24 : Option Nat) (v25 : Option Nat) (v26 : Option Nat) (v27 : Int32) (v28 : Int32) (v29 : Int32) (v30 : Int32) (v31 : Int32) (v32 : Int32) (v33 : Int32) (v34 : Int32) (v35 : Int32) (h : am_H) : Option (Int32 × am_H) :=
  k1374 v1 v2 v3 v4 v5 v6 v7 v8 v9 v10 v11 v17 v21 v22 v23 v24 v25 v26 v27 v28 v29 v30 v31 v32 v33 v34 v35 (-1 : Int32) h
def fL_law_1249 (L : Nat) (xs : Nat → Int32) (k1374 : Option Nat → Option Nat → Option Nat → Option Nat → Int32 → Option Nat → Option Nat → Option Nat → Int32 → Option Nat → Int32 → Int32 → Option Nat → Option Nat → Int32 → Option Nat → Option Nat → Option Nat → Int32 → Int32 → Int32 → Int32 → Int32 → Int32 → Int32 → Int32 → Int32 → Int32 → am_H → Option (Int32 × am_H)) (v1 : Option Nat) (v2 : Option Nat) (v3 : Option Nat) (v4 : Option Nat) (v5 : Int32) (v6 : Option Nat) (v7 : Option Nat) (v8 : Option Nat) (v9 : Int32) (v10 : Option Nat) (v11 : Int32) (v17 : Int32) (v21 : Option Nat) (v22 : Option Nat) (v23 : Int32) (v24 : Option Nat) (v25 : Option Nat) (v26 : Option Nat) (v27 : Int32) (v28 : Int32) (v29 : Int32) (v31 : Int32) (v32 : Int32) (v33 : Int32) (v34 : Int32) (v35 : Int32) (s0 : Int32) (h : am_H) : Option (Int32 × am_H) :=
  k1374 v1 v2 v3 v4 v5 v6 v7 v8 v9 v10 v11 v17 v21 v22 v23 v24 v25 v26 v27 v28 v29 s0 v31 v32 v33 v34 v35 (-1 : Int32) h
def fL_law_1257 (L : Nat) (xs : Nat → Int32) (k1374 : Option Nat → Option Nat → Option Nat → Option Nat → Int32 → Option Nat → Option Nat → Option Nat → Int32 → Option Nat → Int32 → Int32 → Option Nat → Option Nat → Int32 → Option Nat → Option Nat → Option Nat → Int32 → Int32 → Int32 → Int32 → Int32 → Int32 → Int32 → Int32 → Int32 → Int32 → am_H → Option (Int32 × am_H)) (v1 : Option Nat) (v2 : Option Nat) (v3 : Option Nat) (v4 : Option Nat) (v5 : Int32) (v6 : Option Nat) (v7 : Option Nat) (v8 : Option Nat) (v9 : Int32) (v10 : Option Nat) (v11 : Int32) (v17 : Int32) (v21 : Option Nat) (v22 : Option Nat) (v23 : Int32) (v24 : Option Nat) (v25 : Option Nat) (v26 : Option Nat) (v27 : Int32) (v28 : Int32) (v29 : Int32) (v30 : Int32) (v31 : Int32) (v32 : Int32) (v33 : Int32) (v34 : Int32) (v35 : Int32) (v36 : Int32) (v37 : Int32) (h : am_H) : Option (Int32 × am_H) :=
  (am_al h v6 0 v36).bind fun x1 =>
  if x1 = (2 : Int32) then
    (am_al h v7 0 v36).bind fun x11 =>
    (am_as h v24 0 x11 (v33 + (3 : Int32))).bind fun h12 =>
    (am_as h12 v26 0 v29 v36).bind fun h13 =>
    k1374 v1 v2 v3 v4 v5 v6 v7 v8 v9 v10 v11 v17 v21 v22 v23 v24 v25 v26 v27 v28 (v29 + (1 : Int32)) v30 v31 v32 v33 v34 v35 v37 h13
  else
  (am_al h v6 0 v36).bind fun x2 =>
  if x2 = (3 : Int32) then
    if v37 < 0 then
      (fL_law_1328 L xs k1374) v1 v2 v3 v4 v5 v6 v7 v8 v9 v10 v11 v17 v21 v22 v23 v24 v25 v26 v27 v28 v29 v30 v31 v32 v33 v34 v35 h
    else
    (am_as h v21 0 v23 v37).bind fun h8 =>
    (am_al h8 v7 0 v36).bind fun x9 =>
    (am_as h8 v22 0 v23 (v33 + x9)).bind fun h10 =>
    (fL_law_1328 L xs k1374) v1 v2 v3 v4 v5 v6 v7 v8 v9 v10 v11 v17 v21 v22 (v23 + (1 : Int32)) v24 v25 v26 v27 v28 v29 v30 v31 v32 v33 v34 v35 h10
  else
  (am_al h v6 0 v36).bind fun x3 =>
  if x3 = (4 : Int32) then
    (am_al h v25 0 v36).bind fun x4 =>
    (am_as h v25 0 v36 (x4 + (1 : Int32))).bind fun h5 =>
    (am_al h5 v25 0 v36).bind fun x6 =>
    (am_al h5 v7 0 v36).bind fun x7 =>
    if x7 = 0 then none else
    if (x6 - x6 / x7 * x7) = 0 then
      (fL_law_1372 L xs k1374) v1 v2 v3 v4 v5 v6 v7 v8 v9 v10 v11 v17 v21 v22 v23 v24 v25 v26 v27 v28 v29 v30 v31 v32 v33 v34 v35 v37 h5
    else
    (fL_law_1372 L xs k1374) v1 v2 v3 v4 v5 v6 v7 v8 v9 v10 v11 v17 v21 v22 v23 v24 v25 v26 v27 v28 v29 v30 v31 v32 v33 v34 v35 (-1 : Int32) h5
  else
  k1374 v1 v2 v3 v4 v5 v6 v7 v8 v9 v10 v11 v17 v21 v22 v23 v24 v25 v26 v27 v28 v29 v30 v31 v32 v33 v34 v35 v37 h
def fL_law_1235 (L : Nat) (xs : Nat → Int32) (k1374 : Option Nat → Option Nat → Option Nat → Option Nat → Int32 → Option Nat → Option Nat → Option Nat → Int32 → Option Nat → Int32 → Int32 → Option Nat → Option Nat → Int32 → Option Nat → Option Nat → Option Nat → Int32 → Int32 → Int32 → Int32 → Int32 → Int32 → Int32 → Int32 → Int32 → Int32 → am_H → Option (Int32 × am_H)) (v1 : Option Nat) (v2 : Option Nat) (v3 : Option Nat) (v4 : Option Nat) (v5 : Int32) (v6 : Option Nat) (v7 : Option Nat) (v8 : Option Nat) (v9 : Int32) (v10 : Option Nat) (v11 : Int32) (v17 : Int32) (v21 : Option Nat) (v22 : Option Nat) (v23 : Int32) (v24 : Option Nat) (v25 : Option Nat) (v26 : Option Nat) (v27 : Int32) (v28 : Int32) (v29 : Int32) (v30 : Int32) (v32 : Int32) (v33 : Int32) (v34 : Int32) (v35 : Int32) (v36 : Int32) (s0 : Int32) (h : am_H) : Option (Int32 × am_H) :=
  if 0 ≤ v30 then
    (fL_law_1249 L xs k1374) v1 v2 v3 v4 v5 v6 v7 v8 v9 v10 v11 v17 v21 v22 v23 v24 v25 v26 v27 v28 v29 s0 v32 v33 v34 v35 v30 h
  else
  (fL_law_1249 L xs k1374) v1 v2 v3 v4 v5 v6 v7 v8 v9 v10 v11 v17 v21 v22 v23 v24 v25 v26 v27 v28 v29 s0 v32 v33 v34 v35 v36 h
def fL_law_1374 (L : Nat) (xs : Nat → Int32) (k1129 : Option Nat → Option Nat → Option Nat → Option Nat → Int32 → Option Nat → Option Nat → Option Nat → Int32 → Option Nat → Int32 → Int32 → Option Nat → Option Nat → Int32 → Option Nat → Option Nat → Option Nat → Int32 → Int32 → Int32 → Int32 → Int32 → Int32 → Int32 → Int32 → Int32 → Int32 → am_H → Option (Int32 × am_H)) (v1 : Option Nat) (v2 : Option Nat) (v3 : Option Nat) (v4 : Option Nat) (v5 : Int32) (v6 : Option Nat) (v7 : Option Nat) (v8 : Option Nat) (v9 : Int32) (v10 : Option Nat) (v11 : Int32) (v17 : Int32) (v21 : Option Nat) (v22 : Option Nat) (v23 : Int32) (v24 : Option Nat) (v25 : Option Nat) (v26 : Option Nat) (v27 : Int32) (v28 : Int32) (v29 : Int32) (v30 : Int32) (v31 : Int32) (v32 : Int32) (v33 : Int32) (v34 : Int32) (v35 : Int32) (v37 : Int32) (h : am_H) : Option (Int32 × am_H) :=
  k1129 v1 v2 v3 v4 v5 v6 v7 v8 v9 v10 v11 v17 v21 v22 v23 v24 v25 v26 v27 v28 v29 v30 v31 v32 v33 v34 v35 v37 h
def fL_law_1192 (L : Nat) (xs : Nat → Int32) (k1374 : Option Nat → Option Nat → Option Nat → Option Nat → Int32 → Option Nat → Option Nat → Option Nat → Int32 → Option Nat → Int32 → Int32 → Option Nat → Option Nat → Int32 → Option Nat → Option Nat → Option Nat → Int32 → Int32 → Int32 → Int32 → Int32 → Int32 → Int32 → Int32 → Int32 → Int32 → am_H → Option (Int32 × am_H)) (v1 : Option Nat) (v2 : Option Nat) (v3 : Option Nat) (v4 : Option Nat) (v5 : Int32) (v6 : Option Nat) (v7 : Option Nat) (v8 : Option Nat) (v9 : Int32) (v10 : Option Nat) (v11 : Int32) (v17 : Int32) (v21 : Option Nat) (v22 : Option Nat) (v23 : Int32) (v24 : Option Nat) (v25 : Option Nat) (v26 : Option Nat) (v27 : Int32) (v28 : Int32) (v29 : Int32) (v30 : Int32) (v31 : Int32) (v32 : Int32) (v33 : Int32) (v34 : Int32) (v35 : Int32) (v36 : Int32) (v37 : Int32) (h : am_H) : Option (Int32 × am_H) :=
  (am_al h v6 0 v36).bind fun x1 =>
  if x1 = (2 : Int32) then
    (am_al h v7 0 v36).bind fun x2 =>
    (am_al h v24 0 x2).bind fun x3 =>
    if x3 ≤ v33 then
      (fL_law_1257 L xs k1374) v1 v2 v3 v4 v5 v6 v7 v8 v9 v10 v11 v17 v21 v22 v23 v24 v25 v26 v27 v28 v29 v30 v31 v32 v33 v34 v35 v36 v37 h
    else
    if 0 ≤ v30 then
      (fL_law_1235 L xs k1374) v1 v2 v3 v4 v5 v6 v7 v8 v9 v10 v11 v17 v21 v22 v23 v24 v25 v26 (v27 ||| ((1 : Int32) <<< (v36 &&& 31))) v28 v29 v30 v32 v33 v34 v35 v36 v31 h
    else
    (fL_law_1235 L xs k1374) v1 v2 v3 v4 v5 v6 v7 v8 v9 v10 v11 v17 v21 v22 v23 v24 v25 v26 (v27 ||| ((1 : Int32) <<< (v36 &&& 31))) v28 v29 v30 v32 v33 v34 v35 v36 v33 h
  else
  (fL_law_1257 L xs k1374) v1 v2 v3 v4 v5 v6 v7 v8 v9 v10 v11 v17 v21 v22 v23 v24 v25 v26 v27 v28 v29 v30 v31 v32 v33 v34 v35 v36 v37 h
def fL_law_1127 (L : Nat) (xs : Nat → Int32) (k1129 : Option Nat → Option Nat → Option Nat → Option Nat → Int32 → Option Nat → Option Nat → Option Nat → Int32 → Option Nat → Int32 → Int32 → Option Nat → Option Nat → Int32 → Option Nat → Option Nat → Option Nat → Int32 → Int32 → Int32 → Int32 → Int32 → Int32 → Int32 → Int32 → Int32 → Int32 → am_H → Option (Int32 × am_H)) (v1 : Option Nat) (v2 : Option Nat) (v3 : Option Nat) (v4 : Option Nat) (v5 : Int32) (v6 : Option Nat) (v7 : Option Nat) (v8 : Option Nat) (v9 : Int32) (v10 : Option Nat) (v11 : Int32) (v17 : Int32) (v21 : Option Nat) (v22 : Option Nat) (v23 : Int32) (v24 : Option Nat) (v25 : Option Nat) (v26 : Option Nat) (v27 : Int32) (v28 : Int32) (v29 : Int32) (v30 : Int32) (v31 : Int32) (v32 : Int32) (v33 : Int32) (v34 : Int32) (v36 : Int32) (s0 : Int32) (h : am_H) : Option (Int32 × am_H) :=
  k1129 v1 v2 v3 v4 v5 v6 v7 v8 v9 v10 v11 v17 v21 v22 v23 v24 v25 v26 v27 v28 v29 v30 v31 v32 v33 v34 s0 v36 h
def fL_law_1129_b (L : Nat) (xs : Nat → Int32) (k1032 : Option Nat → Option Nat → Option Nat → Option Nat → Int32 → Option Nat → Option Nat → Option Nat → Int32 → Option Nat → Int32 → Int32 → Option Nat → Option Nat → Int32 → Option Nat → Option Nat → Option Nat → Int32 → Int32 → Int32 → Int32 → Int32 → Int32 → Int32 → Int32 → Int32 → am_H → Option (Int32 × am_H)) (rec : Option Nat → Option Nat → Option Nat → Option Nat → Int32 → Option Nat → Option Nat → Option Nat → Int32 → Option Nat → Int32 → Int32 → Option Nat → Option Nat → Int32 → Option Nat → Option Nat → Option Nat → Int32 → Int32 → Int32 → Int32 → Int32 → Int32 → Int32 → Int32 → Int32 → Int32 → am_H → Option (Int32 × am_H)) (v1 : Option Nat) (v2 : Option Nat) (v3 : Option Nat) (v4 : Option Nat) (v5 : Int32) (v6 : Option Nat) (v7 : Option Nat) (v8 : Option Nat) (v9 : Int32) (v10 : Option Nat) (v11 : Int32) (v17 : Int32) (v21 : Option Nat) (v22 : Option Nat) (v23 : Int32) (v24 : Option Nat) (v25 : Option Nat) (v26 : Option Nat) (v27 : Int32) (v28 : Int32) (v29 : Int32) (v30 : Int32) (v31 : Int32) (v32 : Int32) (v33 : Int32) (v34 : Int32) (v35 : Int32) (v36 : Int32) (h : am_H) : Option (Int32 × am_H) :=
  if v36 < 0 then
    k1032 v1 v2 v3 v4 v5 v6 v7 v8 v9 v10 v11 v17 v21 v22 v23 v24 v25 v26 v27 v28 v29 v30 v31 v32 v33 v34 v35 h
  else
  (am_al h v8 0 v36).bind fun x1 =>
  (am_al h v6 0 v36).bind fun x2 =>
  if x2 = (1 : Int32) then
    (am_al h v7 0 v36).bind fun x4 =>
    (fL_law_1374 L xs rec) v1 v2 v3 v4 v5 v6 v7 v8 v9 v10 v11 v17 v21 v22 v23 v24 v25 v26 v27 (v28 + (v32 + x4)) v29 v30 v31 v32 v33 v34 v35 x1 h
  else
  (am_al h v6 0 v36).bind fun x3 =>
  if x3 = (2 : Int32) then
    if ((v27 >>> (v36 &&& 31)) &&& (1 : Int32)) = (1 : Int32) then
      (fL_law_1374 L xs rec) v1 v2 v3 v4 v5 v6 v7 v8 v9 v10 v11 v17 v21 v22 v23 v24 v25 v26 v27 v28 v29 v30 v31 v32 v33 v34 v35 (-1 : Int32) h
    else
    (fL_law_1192 L xs (fL_law_1374 L xs rec)) v1 v2 v3 v4 v5 v6 v7 v8 v9 v10 v11 v17 v21 v22 v23 v24 v25 v26 v27 v28 v29 v30 v31 v32 v33 v34 v35 v36 x1 h
  else
  (fL_law_1192 L xs (fL_law_1374 L xs rec)) v1 v2 v3 v4 v5 v6 v7 v8 v9 v10 v11 v17 v21 v22 v23 v24 v25 v26 v27 v28 v29 v30 v31 v32 v33 v34 v35 v36 x1 h
def fL_law_1129 (L : Nat) (xs : Nat → Int32) (k1032 : Option Nat → Option Nat → Option Nat → Option Nat → Int32 → Option Nat → Option Nat → Option Nat → Int32 → Option Nat → Int32 → Int32 → Option Nat → Option Nat → Int32 → Option Nat → Option Nat → Option Nat → Int32 → Int32 → Int32 → Int32 → Int32 → Int32 → Int32 → Int32 → Int32 → am_H → Option (Int32 × am_H)) : Nat → Option Nat → Option Nat → Option Nat → Option Nat → Int32 → Option Nat → Option Nat → Option Nat → Int32 → Option Nat → Int32 → Int32 → Option Nat → Option Nat → Int32 → Option Nat → Option Nat → Option Nat → Int32 → Int32 → Int32 → Int32 → Int32 → Int32 → Int32 → Int32 → Int32 → Int32 → am_H → Option (Int32 × am_H)
  | 0, _, _, _, _, _, _, _, _, _, _, _, _, _, _, _, _, _, _, _, _, _, _, _, _, _, _, _, _, _ => none
  | n + 1, v1, v2, v3, v4, v5, v6, v7, v8, v9, v10, v11, v17, v21, v22, v23, v24, v25, v26, v27, v28, v29, v30, v31, v32, v33, v34, v35, v36, h => fL_law_1129_b L xs k1032 (fL_law_1129 L xs k1032 n) v1 v2 v3 v4 v5 v6 v7 v8 v9 v10 v11 v17 v21 v22 v23 v24 v25 v26 v27 v28 v29 v30 v31 v32 v33 v34 v35 v36 h
def fL_law_1117 (L : Nat) (xs : Nat → Int32) (k1129 : Option Nat → Option Nat → Option Nat → Option Nat → Int32 → Option Nat → Option Nat → Option Nat → Int32 → Option Nat → Int32 → Int32 → Option Nat → Option Nat → Int32 → Option Nat → Option Nat → Option Nat → Int32 → Int32 → Int32 → Int32 → Int32 → Int32 → Int32 → Int32 → Int32 → Int32 → am_H → Option (Int32 × am_H)) (v1 : Option Nat) (v2 : Option Nat) (v3 : Option Nat) (v4 : Option Nat) (v5 : Int32) (v6 : Option Nat) (v7 : Option Nat) (v8 : Option Nat) (v9 : Int32) (v10 : Option Nat) (v11 : Int32) (v17 : Int32) (v21 : Option Nat) (v22 : Option Nat) (v23 : Int32) (v24 : Option Nat) (v25 : Option Nat) (v26 : Option Nat) (v27 : Int32) (v28 : Int32) (v29 : Int32) (v30 : Int32) (v31 : Int32) (v32 : Int32) (v33 : Int32) (v34 : Int32) (v36 : Int32) (h : am_H) : Option (Int32 × am_H) :=
  if v36 < 0 then
    (fL_law_1127 L xs k1129) v1 v2 v3 v4 v5 v6 v7 v8 v9 v10 v11 v17 v21 v22 v23 v24 v25 v26 v27 v28 v29 v30 v31 v32 v33 v34 v36 (0 : Int32) h
  else
  (fL_law_1127 L xs k1129) v1 v2 v3 v4 v5 v6 v7 v8 v9 v10 v11 v17 v21 v22 v23 v24 v25 v26 v27 v28 v29 v30 v31 v32 v33 v34 v36 (1 : Int32) h
def fL_law_1079 (L : Nat) (xs : Nat → Int32) (k1032 : Option Nat → Option Nat → Option Nat → Option Nat → Int32 → Option Nat → Option Nat → Option Nat → Int32 → Option Nat → Int32 → Int32 → Option Nat → Option Nat → Int32 → Option Nat → Option Nat → Option Nat → Int32 → Int32 → Int32 → Int32 → Int32 → Int32 → Int32 → Int32 → Int32 → am_H → Option (Int32 × am_H)) (v1 : Option Nat) (v2 : Option Nat) (v3 : Option Nat) (v4 : Option Nat) (v5 : Int32) (v6 : Option Nat) (v7 : Option Nat) (v8 : Option Nat) (v9 : Int32) (v10 : Option Nat) (v11 : Int32) (v17 : Int32) (v21 : Option Nat) (v22 : Option Nat) (v23 : Int32) (v24 : Option Nat) (v25 : Option Nat) (v26 : Option Nat) (v27 : Int32) (v28 : Int32) (v29 : Int32) (v30 : Int32) (v31 : Int32) (v32 : Int32) (v33 : Int32) (v34 : Int32) (v36 : Int32) (h : am_H) : Option (Int32 × am_H) :=
  if 0 ≤ v36 then
    (fL_law_1117 L xs (fL_law_1129 L xs k1032 am_fu)) v1 v2 v3 v4 v5 v6 v7 v8 v9 v10 v11 v17 v21 v22 v23 v24 v25 v26 v27 v28 v29 v30 v31 v32 v33 v34 v36 h
  else
  (am_al h v2 0 (4 : Int32)).bind fun x1 =>
  if x1 ≤ v32 then
    (fL_law_1117 L xs (fL_law_1129 L xs k1032 am_fu)) v1 v2 v3 v4 v5 v6 v7 v8 v9 v10 v11 v17 v21 v22 v23 v24 v25 v26 v27 v28 v29 v30 v31 v32 v33 v34 v36 h
  else
  (am_al h v10 0 v32).bind fun x2 =>
  if x2 = v33 then
    (fL_law_1129 L xs k1032 am_fu) v1 v2 v3 v4 v5 v6 v7 v8 v9 v10 v11 v17 v21 v22 v23 v24 v25 v26 v27 v28 v29 v30 v31 (v32 + (1 : Int32)) v33 v34 (1 : Int32) (v5 - (1 : Int32)) h
  else
  (fL_law_1117 L xs (fL_law_1129 L xs k1032 am_fu)) v1 v2 v3 v4 v5 v6 v7 v8 v9 v10 v11 v17 v21 v22 v23 v24 v25 v26 v27 v28 v29 v30 v31 v32 v33 v34 v36 h
def fL_law_1071 (L : Nat) (xs : Nat → Int32) (k1040 : Option Nat → Option Nat → Option Nat → Option Nat → Int32 → Option Nat → Option Nat → Option Nat → Int32 → Option Nat → Int32 → Int32 → Option Nat → Option Nat → Int32 → Option Nat → Option Nat → Option Nat → Int32 → Int32 → Int32 → Int32 → Int32 → Int32 → Int32 → Int32 → Int32 → am_H → Option (Int32 × am_H)) (v1 : Option Nat) (v2 : Option Nat) (v3 : Option Nat) (v4 : Option Nat) (v5 : Int32) (v6 : Option Nat) (v7 : Option Nat) (v8 : Option Nat) (v9 : Int32) (v10 : Option Nat) (v11 : Int32) (v17 : Int32) (v21 : Option Nat) (v22 : Option Nat) (v23 : Int32) (v24 : Option Nat) (v25 : Option Nat) (v26 : Option Nat) (v27 : Int32) (v28 : Int32) (v29 : Int32) (v30 : Int32) (v31 : Int32) (v32 : Int32) (v33 : Int32) (v34 : Int32) (s0 : Int32) (h : am_H) : Option (Int32 × am_H) :=
  k1040 v1 v2 v3 v4 v5 v6 v7 v8 v9 v10 v11 v17 v21 v22 v23 v24 v25 v26 v27 v28 v29 v30 v31 v32 v33 (v34 + (1 : Int32)) s0 h
def fL_law_1492 (L : Nat) (xs : Nat → Int32) (k1455 : Option Nat → Option Nat → Option Nat → Option Nat → Int32 → Option Nat → Option Nat → Option Nat → Int32 → Option Nat → Int32 → Int32 → Option Nat → Int32 → Int32 → am_H → Option (Int32 × am_H)) (v1 : Option Nat) (v2 : Option Nat) (v3 : Option Nat) (v4 : Option Nat) (v5 : Int32) (v6 : Option Nat) (v7 : Option Nat) (v8 : Option Nat) (v9 : Int32) (v10 : Option Nat) (v11 : Int32) (v17 : Int32) (v26 : Option Nat) (v29 : Int32) (v33 : Int32) (s0 : Int32) (s1 : Int32) (h : am_H) : Option (Int32 × am_H) :=
  if s0 = s1 then
    k1455 v1 v2 v3 v4 v5 v6 v7 v8 v9 v10 v11 v17 v26 v29 (v33 + (1 : Int32)) h
  else
  am_zr (0 : Int32) h
def fL_law_1040_b (L : Nat) (xs : Nat → Int32) (k1032 : Option Nat → Option Nat → Option Nat → Option Nat → Int32 → Option Nat → Option Nat → Option Nat → Int32 → Option Nat → Int32 → Int32 → Option Nat → Option Nat → Int32 → Option Nat → Option Nat → Option Nat → Int32 → Int32 → Int32 → Int32 → Int32 → Int32 → Int32 → Int32 → Int32 → am_H → Option (Int32 × am_H)) (rec : Option Nat → Option Nat → Option Nat → Option Nat → Int32 → Option Nat → Option Nat → Option Nat → Int32 → Option Nat → Int32 → Int32 → Option Nat → Option Nat → Int32 → Option Nat → Option Nat → Option Nat → Int32 → Int32 → Int32 → Int32 → Int32 → Int32 → Int32 → Int32 → Int32 → am_H → Option (Int32 × am_H)) (v1 : Option Nat) (v2 : Option Nat) (v3 : Option Nat) (v4 : Option Nat) (v5 : Int32) (v6 : Option Nat) (v7 : Option Nat) (v8 : Option Nat) (v9 : Int32) (v10 : Option Nat) (v11 : Int32) (v17 : Int32) (v21 : Option Nat) (v22 : Option Nat) (v23 : Int32) (v24 : Option Nat) (v25 : Option Nat) (v26 : Option Nat) (v27 : Int32) (v28 : Int32) (v29 : Int32) (v30 : Int32) (v31 : Int32) (v32 : Int32) (v33 : Int32) (v34 : Int32) (v36 : Int32) (h : am_H) : Option (Int32 × am_H) :=
  if v23 ≤ v34 then
    (fL_law_1079 L xs k1032) v1 v2 v3 v4 v5 v6 v7 v8 v9 v10 v11 v17 v21 v22 v23 v24 v25 v26 v27 v28 v29 v30 v31 v32 v33 v34 v36 h
  else
  if 0 ≤ v36 then
    (fL_law_1079 L xs k1032) v1 v2 v3 v4 v5 v6 v7 v8 v9 v10 v11 v17 v21 v22 v23 v24 v25 v26 v27 v28 v29 v30 v31 v32 v33 v34 v36 h
  else
  (am_al h v22 0 v34).bind fun x1 =>
  if x1 = v33 then
    (am_al h v21 0 v34).bind fun x2 =>
    (fL_law_1071 L xs rec) v1 v2 v3 v4 v5 v6 v7 v8 v9 v10 v11 v17 v21 v22 v23 v24 v25 v26 v27 v28 v29 v30 v31 v32 v33 v34 x2 h
  else
  (fL_law_1071 L xs rec) v1 v2 v3 v4 v5 v6 v7 v8 v9 v10 v11 v17 v21 v22 v23 v24 v25 v26 v27 v28 v29 v30 v31 v32 v33 v34 (-1 : Int32) h
def fL_law_1040 (L : Nat) (xs : Nat → Int32) (k1032 : Option Nat → Option Nat → Option Nat → Option Nat → Int32 → Option Nat → Option Nat → Option Nat → Int32 → Option Nat → Int32 → Int32 → Option Nat → Option Nat → Int32 → Option Nat → Option Nat → Option Nat → Int32 → Int32 → Int32 → Int32 → Int32 → Int32 → Int32 → Int32 → Int32 → am_H → Option (Int32 × am_H)) : Nat → Option Nat → Option Nat → Option Nat → Option Nat → Int32 → Option Nat → Option Nat → Option Nat → Int32 → Option Nat → Int32 → Int32 → Option Nat → Option Nat → Int32 → Option Nat → Option Nat → Option Nat → Int32 → Int32 → Int32 → Int32 → Int32 → Int32 → Int32 → Int32 → Int32 → am_H → Option (Int32 × am_H)
  | 0, _, _, _, _, _, _, _, _, _, _, _, _, _, _, _, _, _, _, _, _, _, _, _, _, _, _, _, _ => none
  | n + 1, v1, v2, v3, v4, v5, v6, v7, v8, v9, v10, v11, v17, v21, v22, v23, v24, v25, v26, v27, v28, v29, v30, v31, v32, v33, v34, v36, h => fL_law_1040_b L xs k1032 (fL_law_1040 L xs k1032 n) v1 v2 v3 v4 v5 v6 v7 v8 v9 v10 v11 v17 v21 v22 v23 v24 v25 v26 v27 v28 v29 v30 v31 v32 v33 v34 v36 h
def fL_law_1455_b (L : Nat) (xs : Nat → Int32) (k489 : Option Nat → Option Nat → Option Nat → Option Nat → Int32 → Option Nat → Option Nat → Option Nat → Int32 → Option Nat → Int32 → am_H → Option (Int32 × am_H)) (rec : Option Nat → Option Nat → Option Nat → Option Nat → Int32 → Option Nat → Option Nat → Option Nat → Int32 → Option Nat → Int32 → Int32 → Option Nat → Int32 → Int32 → am_H → Option (Int32 × am_H)) (v1 : Option Nat) (v2 : Option Nat) (v3 : Option Nat) (v4 : Option Nat) (v5 : Int32) (v6 : Option Nat) (v7 : Option Nat) (v8 : Option Nat) (v9 : Int32) (v10 : Option Nat) (v11 : Int32) (v17 : Int32) (v26 : Option Nat) (v29 : Int32) (v33 : Int32) (h : am_H) : Option (Int32 × am_H) :=
  if (20 : Int32) ≤ v33 then
    k489 v1 v2 v3 v4 v5 v6 v7 v8 v9 v10 (v11 + (1 : Int32)) h
  else
  (am_rc h v1 8).bind fun b2 =>
  (fX8_shows b2 (0 : Int32) v17 v11 ((10 : Int32) + v33) h).bind fun y1 =>
  if v29 ≤ v33 then
    (fL_law_1492 L xs rec) v1 v2 v3 v4 v5 v6 v7 v8 v9 v10 v11 v17 v26 v29 v33 y1.1 (-1 : Int32) y1.2
  else
  (am_al y1.2 v26 0 v33).bind fun x3 =>
  (fL_law_1492 L xs rec) v1 v2 v3 v4 v5 v6 v7 v8 v9 v10 v11 v17 v26 v29 v33 y1.1 x3 y1.2
def fL_law_1455 (L : Nat) (xs : Nat → Int32) (k489 : Option Nat → Option Nat → Option Nat → Option Nat → Int32 → Option Nat → Option Nat → Option Nat → Int32 → Option Nat → Int32 → am_H → Option (Int32 × am_H)) : Nat → Option Nat → Option Nat → Option Nat → Option Nat → Int32 → Option Nat → Option Nat → Option Nat → Int32 → Option Nat → Int32 → Int32 → Option Nat → Int32 → Int32 → am_H → Option (Int32 × am_H)
  | 0, _, _, _, _, _, _, _, _, _, _, _, _, _, _, _, _ => none
  | n + 1, v1, v2, v3, v4, v5, v6, v7, v8, v9, v10, v11, v17, v26, v29, v33, h => fL_law_1455_b L xs k489 (fL_law_1455 L xs k489 n) v1 v2 v3 v4 v5 v6 v7 v8 v9 v10 v11 v17 v26 v29 v33 h
def fL_law_1032_b (L : Nat) (xs : Nat → Int32) (k1019 : Option Nat → Option Nat → Option Nat → Option Nat → Int32 → Option Nat → Option Nat → Option Nat → Int32 → Option Nat → Int32 → Int32 → Option Nat → Option Nat → Int32 → Option Nat → Option Nat → Option Nat → Int32 → Int32 → Int32 → Int32 → Int32 → Int32 → Int32 → am_H → Option (Int32 × am_H)) (rec : Option Nat → Option Nat → Option Nat → Option Nat → Int32 → Option Nat → Option Nat → Option Nat → Int32 → Option Nat → Int32 → Int32 → Option Nat → Option Nat → Int32 → Option Nat → Option Nat → Option Nat → Int32 → Int32 → Int32 → Int32 → Int32 → Int32 → Int32 → Int32 → Int32 → am_H → Option (Int32 × am_H)) (v1 : Option Nat) (v2 : Option Nat) (v3 : Option Nat) (v4 : Option Nat) (v5 : Int32) (v6 : Option Nat) (v7 : Option Nat) (v8 : Option Nat) (v9 : Int32) (v10 : Option Nat) (v11 : Int32) (v17 : Int32) (v21 : Option Nat) (v22 : Option Nat) (v23 : Int32) (v24 : Option Nat) (v25 : Option Nat) (v26 : Option Nat) (v27 : Int32) (v28 : Int32) (v29 : Int32) (v30 : Int32) (v31 : Int32) (v32 : Int32) (v33 : Int32) (v34 : Int32) (v35 : Int32) (h : am_H) : Option (Int32 × am_H) :=
  if v35 = 0 then
    k1019 v1 v2 v3 v4 v5 v6 v7 v8 v9 v10 v11 v17 v21 v22 v23 v24 v25 v26 v27 v28 v29 v30 v31 v32 (v33 + (1 : Int32)) h
  else
  (fL_law_1040 L xs rec am_fu) v1 v2 v3 v4 v5 v6 v7 v8 v9 v10 v11 v17 v21 v22 v23 v24 v25 v26 v27 v28 v29 v30 v31 v32 v33 v34 (-1 : Int32) h
def fL_law_1032 (L : Nat) (xs : Nat → Int32) (k1019 : Option Nat → Option Nat → Option Nat → Option Nat → Int32 → Option Nat → Option Nat → Option Nat → Int32 → Option Nat → Int32 → Int32 → Option Nat → Option Nat → Int32 → Option Nat → Option Nat → Option Nat → Int32 → Int32 → Int32 → Int32 → Int32 → Int32 → Int32 → am_H → Option (Int32 × am_H)) : Nat → Option Nat → Option Nat → Option Nat → Option Nat → Int32 → Option Nat → Option Nat → Option Nat → Int32 → Option Nat → Int32 → Int32 → Option Nat → Option Nat → Int32 → Option Nat → Option Nat → Option Nat → Int32 → Int32 → Int32 → Int32 → Int32 → Int32 → Int32 → Int32 → Int32 → am_H → Option (Int32 × am_H)
  | 0, _, _, _, _, _, _, _, _, _, _, _, _, _, _, _, _, _, _, _, _, _, _, _, _, _, _, _, _ => none
  | n + 1, v1, v2, v3, v4, v5, v6, v7, v8, v9, v10, v11, v17, v21, v22, v23, v24, v25, v26, v27, v28, v29, v30, v31, v32, v33, v34, v35, h => fL_law_1032_b L xs k1019 (fL_law_1032 L xs k1019 n) v1 v2 v3 v4 v5 v6 v7 v8 v9 v10 v11 v17 v21 v22 v23 v24 v25 v26 v27 v28 v29 v30 v31 v32 v33 v34 v35 h
def fL_law_1019_b (L : Nat) (xs : Nat → Int32) (k489 : Option Nat → Option Nat → Option Nat → Option Nat → Int32 → Option Nat → Option Nat → Option Nat → Int32 → Option Nat → Int32 → am_H → Option (Int32 × am_H)) (rec : Option Nat → Option Nat → Option Nat → Option Nat → Int32 → Option Nat → Option Nat → Option Nat → Int32 → Option Nat → Int32 → Int32 → Option Nat → Option Nat → Int32 → Option Nat → Option Nat → Option Nat → Int32 → Int32 → Int32 → Int32 → Int32 → Int32 → Int32 → am_H → Option (Int32 × am_H)) (v1 : Option Nat) (v2 : Option Nat) (v3 : Option Nat) (v4 : Option Nat) (v5 : Int32) (v6 : Option Nat) (v7 : Option Nat) (v8 : Option Nat) (v9 : Int32) (v10 : Option Nat) (v11 : Int32) (v17 : Int32) (v21 : Option Nat) (v22 : Option Nat) (v23 : Int32) (v24 : Option Nat) (v25 : Option Nat) (v26 : Option Nat) (v27 : Int32) (v28 : Int32) (v29 : Int32) (v30 : Int32) (v31 : Int32) (v32 : Int32) (v33 : Int32) (h : am_H) : Option (Int32 × am_H) :=
  if (96 : Int32) ≤ v33 then
    (am_rc h v1 8).bind fun b2 =>
    (fX8_shows b2 (0 : Int32) v17 v11 (0 : Int32) h).bind fun y1 =>
    if y1.1 = v28 then
      (am_rc y1.2 v1 8).bind fun b4 =>
      (fX8_shows b4 (0 : Int32) v17 v11 (1 : Int32) y1.2).bind fun y3 =>
      if y3.1 = v29 then
        (am_rc y3.2 v1 8).bind fun b6 =>
        (fX8_shows b6 (0 : Int32) v17 v11 (2 : Int32) y3.2).bind fun y5 =>
        if y5.1 = v30 then
          (am_rc y5.2 v1 8).bind fun b8 =>
          (fX8_shows b8 (0 : Int32) v17 v11 (3 : Int32) y5.2).bind fun y7 =>
          if y7.1 = v31 then
            (fL_law_1455 L xs k489 am_fu) v1 v2 v3 v4 v5 v6 v7 v8 v9 v10 v11 v17 v26 v29 (0 : Int32) y7.2
          else
          am_zr (0 : Int32) y7.2
        else
        am_zr (0 : Int32) y5.2
      else
      am_zr (0 : Int32) y3.2
    else
    am_zr (0 : Int32) y1.2
  else
  (fL_law_1032 L xs rec am_fu) v1 v2 v3 v4 v5 v6 v7 v8 v9 v10 v11 v17 v21 v22 v23 v24 v25 v26 v27 v28 v29 v30 v31 v32 v33 (0 : Int32) (1 : Int32) h
def fL_law_1019 (L : Nat) (xs : Nat → Int32) (k489 : Option Nat → Option Nat → Option Nat → Option Nat → Int32 → Option Nat → Option Nat → Option Nat → Int32 → Option Nat → Int32 → am_H → Option (Int32 × am_H)) : Nat → Option Nat → Option Nat → Option Nat → Option Nat → Int32 → Option Nat → Option Nat → Option Nat → Int32 → Option Nat → Int32 → Int32 → Option Nat → Option Nat → Int32 → Option Nat → Option Nat → Option Nat → Int32 → Int32 → Int32 → Int32 → Int32 → Int32 → Int32 → am_H → Option (Int32 × am_H)
  | 0, _, _, _, _, _, _, _, _, _, _, _, _, _, _, _, _, _, _, _, _, _, _, _, _, _, _ => none
  | n + 1, v1, v2, v3, v4, v5, v6, v7, v8, v9, v10, v11, v17, v21, v22, v23, v24, v25, v26, v27, v28, v29, v30, v31, v32, v33, h => fL_law_1019_b L xs k489 (fL_law_1019 L xs k489 n) v1 v2 v3 v4 v5 v6 v7 v8 v9 v10 v11 v17 v21 v22 v23 v24 v25 v26 v27 v28 v29 v30 v31 v32 v33 h
def fL_law_904_b (L : Nat) (xs : Nat → Int32) (k489 : Option Nat → Option Nat → Option Nat → Option Nat → Int32 → Option Nat → Option Nat → Option Nat → Int32 → Option Nat → Int32 → am_H → Option (Int32 × am_H)) (rec : Option Nat → Option Nat → Option Nat → Option Nat → Int32 → Option Nat → Option Nat → Option Nat → Int32 → Option Nat → Int32 → Int32 → Int32 → Int32 → Int32 → am_H → Option (Int32 × am_H)) (v1 : Option Nat) (v2 : Option Nat) (v3 : Option Nat) (v4 : Option Nat) (v5 : Int32) (v6 : Option Nat) (v7 : Option Nat) (v8 : Option Nat) (v9 : Int32) (v10 : Option Nat) (v11 : Int32) (v17 : Int32) (v18 : Int32) (v19 : Int32) (v20 : Int32) (h : am_H) : Option (Int32 × am_H) :=
  if v19 ≤ 0 then
    (am_rc h v1 8).bind fun b2 =>
    (fX8_mean b2 (0 : Int32) v17 v11 (0 : Int32) h).bind fun y1 =>
    if v20 = 0 then none else
    if y1.1 = (v18 / v20) then
      (am_rc y1.2 v1 8).bind fun b4 =>
      (fX8_mean b4 (0 : Int32) v17 v11 (1 : Int32) y1.2).bind fun y3 =>
      (am_al y3.2 v2 0 (4 : Int32)).bind fun x5 =>
      if v20 = 0 then none else
      if y3.1 = (x5 / v20) then
        (am_na y3.2 0 (64 : Int32)).bind fun y6 =>
        (am_na y6.2 0 (64 : Int32)).bind fun y7 =>
        (am_na y7.2 0 (4 : Int32)).bind fun y8 =>
        (am_na y8.2 0 (6 : Int32)).bind fun y9 =>
        (am_na y9.2 0 (64 : Int32)).bind fun y10 =>
        (fL_law_1019 L xs k489 am_fu) v1 v2 v3 v4 v5 v6 v7 v8 v9 v10 v11 v17 y6.1 y7.1 (0 : Int32) y8.1 y9.1 y10.1 (0 : Int32) (0 : Int32) (0 : Int32) (-1 : Int32) (-1 : Int32) (0 : Int32) (0 : Int32) y10.2
      else
      am_zr (0 : Int32) y3.2
    else
    am_zr (0 : Int32) y1.2
  else
  if v19 = 0 then none else
  rec v1 v2 v3 v4 v5 v6 v7 v8 v9 v10 v11 v17 v18 (v20 - v20 / v19 * v19) v19 h
def fL_law_904 (L : Nat) (xs : Nat → Int32) (k489 : Option Nat → Option Nat → Option Nat → Option Nat → Int32 → Option Nat → Option Nat → Option Nat → Int32 → Option Nat → Int32 → am_H → Option (Int32 × am_H)) : Nat → Option Nat → Option Nat → Option Nat → Option Nat → Int32 → Option Nat → Option Nat → Option Nat → Int32 → Option Nat → Int32 → Int32 → Int32 → Int32 → Int32 → am_H → Option (Int32 × am_H)
  | 0, _, _, _, _, _, _, _, _, _, _, _, _, _, _, _, _ => none
  | n + 1, v1, v2, v3, v4, v5, v6, v7, v8, v9, v10, v11, v17, v18, v19, v20, h => fL_law_904_b L xs k489 (fL_law_904 L xs k489 n) v1 v2 v3 v4 v5 v6 v7 v8 v9 v10 v11 v17 v18 v19 v20 h
def fL_law_868 (L : Nat) (xs : Nat → Int32) (k798 : Option Nat → Option Nat → Option Nat → Option Nat → Int32 → Option Nat → Option Nat → Option Nat → Int32 → Option Nat → Int32 → Int32 → Int32 → Int32 → am_H → Option (Int32 × am_H)) (v1 : Option Nat) (v2 : Option Nat) (v3 : Option Nat) (v4 : Option Nat) (v5 : Int32) (v6 : Option Nat) (v7 : Option Nat) (v8 : Option Nat) (v9 : Int32) (v10 : Option Nat) (v11 : Int32) (v17 : Int32) (v18 : Int32) (v19 : Int32) (v20 : Int32) (s0 : Int32) (s1 : Int32) (h : am_H) : Option (Int32 × am_H) :=
  if s0 = s1 then
    (am_rc h v1 8).bind fun b2 =>
    (fX8_error b2 (0 : Int32) v17 v11 v19 h).bind fun y1 =>
    if y1.1 = v20 then
      k798 v1 v2 v3 v4 v5 v6 v7 v8 v9 v10 v11 v17 v18 (v19 + (1 : Int32)) y1.2
    else
    am_zr (0 : Int32) y1.2
  else
  am_zr (0 : Int32) h
def fL_law_798_b (L : Nat) (xs : Nat → Int32) (k489 : Option Nat → Option Nat → Option Nat → Option Nat → Int32 → Option Nat → Option Nat → Option Nat → Int32 → Option Nat → Int32 → am_H → Option (Int32 × am_H)) (rec : Option Nat → Option Nat → Option Nat → Option Nat → Int32 → Option Nat → Option Nat → Option Nat → Int32 → Option Nat → Int32 → Int32 → Int32 → Int32 → am_H → Option (Int32 × am_H)) (v1 : Option Nat) (v2 : Option Nat) (v3 : Option Nat) (v4 : Option Nat) (v5 : Int32) (v6 : Option Nat) (v7 : Option Nat) (v8 : Option Nat) (v9 : Int32) (v10 : Option Nat) (v11 : Int32) (v17 : Int32) (v18 : Int32) (v19 : Int32) (h : am_H) : Option (Int32 × am_H) :=
  (am_al h v2 0 (4 : Int32)).bind fun x1 =>
  if x1 ≤ v19 then
    (am_al h v2 0 (4 : Int32)).bind fun x2 =>
    (fL_law_904 L xs k489 am_fu) v1 v2 v3 v4 v5 v6 v7 v8 v9 v10 v11 v17 v18 v18 x2 h
  else
  (am_al h v10 0 v19).bind fun x3 =>
  (am_al h v4 0 v17).bind fun x4 =>
  (am_al h v2 0 (4 : Int32)).bind fun x5 =>
  if x5 = 0 then none else
  (fL_size (x3 - (((v19 + (1 : Int32)) * x4) / x5)) h).bind fun y6 =>
  (am_rc y6.2 v1 8).bind fun b8 =>
  (fX8_drops b8 (0 : Int32) v17 v11 v19 y6.2).bind fun y7 =>
  (am_al y7.2 v10 0 v19).bind fun x9 =>
  if x9 ≤ (95 : Int32) then
    (am_al y7.2 v10 0 v19).bind fun x10 =>
    (fL_law_868 L xs rec) v1 v2 v3 v4 v5 v6 v7 v8 v9 v10 v11 v17 (v18 + y6.1) v19 (x3 - (((v19 + (1 : Int32)) * x4) / x5)) y7.1 x10 y7.2
  else
  (fL_law_868 L xs rec) v1 v2 v3 v4 v5 v6 v7 v8 v9 v10 v11 v17 (v18 + y6.1) v19 (x3 - (((v19 + (1 : Int32)) * x4) / x5)) y7.1 (-1 : Int32) y7.2
def fL_law_798 (L : Nat) (xs : Nat → Int32) (k489 : Option Nat → Option Nat → Option Nat → Option Nat → Int32 → Option Nat → Option Nat → Option Nat → Int32 → Option Nat → Int32 → am_H → Option (Int32 × am_H)) : Nat → Option Nat → Option Nat → Option Nat → Option Nat → Int32 → Option Nat → Option Nat → Option Nat → Int32 → Option Nat → Int32 → Int32 → Int32 → Int32 → am_H → Option (Int32 × am_H)
  | 0, _, _, _, _, _, _, _, _, _, _, _, _, _, _, _ => none
  | n + 1, v1, v2, v3, v4, v5, v6, v7, v8, v9, v10, v11, v17, v18, v19, h => fL_law_798_b L xs k489 (fL_law_798 L xs k489 n) v1 v2 v3 v4 v5 v6 v7 v8 v9 v10 v11 v17 v18 v19 h
def fL_law_709_b (L : Nat) (xs : Nat → Int32) (k666 : Option Nat → Option Nat → Option Nat → Option Nat → Int32 → Option Nat → Option Nat → Option Nat → Int32 → Option Nat → Int32 → Int32 → Int32 → Int32 → Int32 → Int32 → Int32 → am_H → Option (Int32 × am_H)) (rec : Option Nat → Option Nat → Option Nat → Option Nat → Int32 → Option Nat → Option Nat → Option Nat → Int32 → Option Nat → Int32 → Int32 → Int32 → Int32 → Int32 → Int32 → Int32 → Int32 → Int32 → am_H → Option (Int32 × am_H)) (v1 : Option Nat) (v2 : Option Nat) (v3 : Option Nat) (v4 : Option Nat) (v5 : Int32) (v6 : Option Nat) (v7 : Option Nat) (v8 : Option Nat) (v9 : Int32) (v10 : Option Nat) (v11 : Int32) (v13 : Int32) (v14 : Int32) (v15 : Int32) (v16 : Int32) (v17 : Int32) (v18 : Int32) (v19 : Int32) (v20 : Int32) (h : am_H) : Option (Int32 × am_H) :=
  if (8 : Int32) ≤ v20 then
    k666 v1 v2 v3 v4 v5 v6 v7 v8 v9 v10 v11 v13 v14 v15 v16 v17 (v18 + (1 : Int32)) h
  else
  (am_rc h v1 8).bind fun b2 =>
  (fX8_at b2 (0 : Int32) v17 v11 v19 v20 h).bind fun y1 =>
  (am_al y1.2 v10 0 ((12 : Int32) + v20)).bind fun x3 =>
  if y1.1 = x3 then
    rec v1 v2 v3 v4 v5 v6 v7 v8 v9 v10 v11 v13 v14 v15 v16 v17 v18 v19 (v20 + (1 : Int32)) y1.2
  else
  am_zr (0 : Int32) y1.2
def fL_law_709 (L : Nat) (xs : Nat → Int32) (k666 : Option Nat → Option Nat → Option Nat → Option Nat → Int32 → Option Nat → Option Nat → Option Nat → Int32 → Option Nat → Int32 → Int32 → Int32 → Int32 → Int32 → Int32 → Int32 → am_H → Option (Int32 × am_H)) : Nat → Option Nat → Option Nat → Option Nat → Option Nat → Int32 → Option Nat → Option Nat → Option Nat → Int32 → Option Nat → Int32 → Int32 → Int32 → Int32 → Int32 → Int32 → Int32 → Int32 → Int32 → am_H → Option (Int32 × am_H)
  | 0, _, _, _, _, _, _, _, _, _, _, _, _, _, _, _, _, _, _, _, _ => none
  | n + 1, v1, v2, v3, v4, v5, v6, v7, v8, v9, v10, v11, v13, v14, v15, v16, v17, v18, v19, v20, h => fL_law_709_b L xs k666 (fL_law_709 L xs k666 n) v1 v2 v3 v4 v5 v6 v7 v8 v9 v10 v11 v13 v14 v15 v16 v17 v18 v19 v20 h
def fL_law_666_b (L : Nat) (xs : Nat → Int32) (k489 : Option Nat → Option Nat → Option Nat → Option Nat → Int32 → Option Nat → Option Nat → Option Nat → Int32 → Option Nat → Int32 → am_H → Option (Int32 × am_H)) (rec : Option Nat → Option Nat → Option Nat → Option Nat → Int32 → Option Nat → Option Nat → Option Nat → Int32 → Option Nat → Int32 → Int32 → Int32 → Int32 → Int32 → Int32 → Int32 → am_H → Option (Int32 × am_H)) (v1 : Option Nat) (v2 : Option Nat) (v3 : Option Nat) (v4 : Option Nat) (v5 : Int32) (v6 : Option Nat) (v7 : Option Nat) (v8 : Option Nat) (v9 : Int32) (v10 : Option Nat) (v11 : Int32) (v13 : Int32) (v14 : Int32) (v15 : Int32) (v16 : Int32) (v17 : Int32) (v18 : Int32) (h : am_H) : Option (Int32 × am_H) :=
  if (4 : Int32) ≤ v18 then
    (am_rc h v1 8).bind fun b2 =>
    (fX8_even b2 (0 : Int32) v17 v11 (0 : Int32) h).bind fun y1 =>
    (am_al y1.2 v10 0 (20 : Int32)).bind fun x3 =>
    if y1.1 = x3 then
      (am_rc y1.2 v1 8).bind fun b5 =>
      (fX8_even b5 (0 : Int32) v17 v11 (1 : Int32) y1.2).bind fun y4 =>
      (am_al y4.2 v10 0 (21 : Int32)).bind fun x6 =>
      if y4.1 = x6 then
        (fL_law_798 L xs k489 am_fu) v1 v2 v3 v4 v5 v6 v7 v8 v9 v10 v11 v17 (0 : Int32) (0 : Int32) y4.2
      else
      am_zr (0 : Int32) y4.2
    else
    am_zr (0 : Int32) y1.2
  else
  (fL_cell L xs ((25 : Int32) + v18) h).bind fun y7 =>
  if (96 : Int32) = 0 then none else
  (am_al y7.2 v3 0 v17).bind fun x8 =>
  (fL_run v2 x8 v13 v14 v15 v16 (y7.1 - y7.1 / (96 : Int32) * (96 : Int32)) v10 y7.2).bind fun y9 =>
  (fL_law_709 L xs rec am_fu) v1 v2 v3 v4 v5 v6 v7 v8 v9 v10 v11 v13 v14 v15 v16 v17 v18 (y7.1 - y7.1 / (96 : Int32) * (96 : Int32)) (0 : Int32) y9
def fL_law_666 (L : Nat) (xs : Nat → Int32) (k489 : Option Nat → Option Nat → Option Nat → Option Nat → Int32 → Option Nat → Option Nat → Option Nat → Int32 → Option Nat → Int32 → am_H → Option (Int32 × am_H)) : Nat → Option Nat → Option Nat → Option Nat → Option Nat → Int32 → Option Nat → Option Nat → Option Nat → Int32 → Option Nat → Int32 → Int32 → Int32 → Int32 → Int32 → Int32 → Int32 → am_H → Option (Int32 × am_H)
  | 0, _, _, _, _, _, _, _, _, _, _, _, _, _, _, _, _, _, _ => none
  | n + 1, v1, v2, v3, v4, v5, v6, v7, v8, v9, v10, v11, v13, v14, v15, v16, v17, v18, h => fL_law_666_b L xs k489 (fL_law_666 L xs k489 n) v1 v2 v3 v4 v5 v6 v7 v8 v9 v10 v11 v13 v14 v15 v16 v17 v18 h
def fL_law_1624 (L : Nat) (xs : Nat → Int32) (k1545 : Option Nat → Option Nat → Option Nat → Option Nat → Int32 → Int32 → Option Nat → Int32 → Int32 → Int32 → Int32 → Int32 → am_H → Option (Int32 × am_H)) (v1 : Option Nat) (v2 : Option Nat) (v3 : Option Nat) (v4 : Option Nat) (v5 : Int32) (v9 : Int32) (v10 : Option Nat) (v12 : Int32) (v13 : Int32) (v14 : Int32) (v15 : Int32) (s0 : Int32) (h : am_H) : Option (Int32 × am_H) :=
  k1545 v1 v2 v3 v4 v5 v9 v10 s0 v12 v13 v14 (v15 + (1 : Int32)) h
def fL_law_650 (L : Nat) (xs : Nat → Int32) (k489 : Option Nat → Option Nat → Option Nat → Option Nat → Int32 → Option Nat → Option Nat → Option Nat → Int32 → Option Nat → Int32 → am_H → Option (Int32 × am_H)) (v1 : Option Nat) (v2 : Option Nat) (v3 : Option Nat) (v4 : Option Nat) (v5 : Int32) (v6 : Option Nat) (v7 : Option Nat) (v8 : Option Nat) (v9 : Int32) (v10 : Option Nat) (v11 : Int32) (v13 : Int32) (v14 : Int32) (v15 : Int32) (v16 : Int32) (h : am_H) : Option (Int32 × am_H) :=
  (fL_cell L xs ((20 : Int32) + v11) h).bind fun y1 =>
  if (4 : Int32) = 0 then none else
  (fL_law_666 L xs k489 am_fu) v1 v2 v3 v4 v5 v6 v7 v8 v9 v10 v11 v13 v14 v15 v16 (y1.1 - y1.1 / (4 : Int32) * (4 : Int32)) (0 : Int32) y1.2
def fL_law_639 (L : Nat) (xs : Nat → Int32) (k590 : Option Nat → Option Nat → Option Nat → Option Nat → Int32 → Option Nat → Option Nat → Option Nat → Int32 → Option Nat → Int32 → Int32 → Int32 → Int32 → Int32 → Int32 → am_H → Option (Int32 × am_H)) (v1 : Option Nat) (v2 : Option Nat) (v3 : Option Nat) (v4 : Option Nat) (v5 : Int32) (v6 : Option Nat) (v7 : Option Nat) (v8 : Option Nat) (v9 : Int32) (v10 : Option Nat) (v11 : Int32) (v13 : Int32) (v14 : Int32) (v15 : Int32) (v16 : Int32) (v17 : Int32) (s0 : Int32) (s1 : Int32) (h : am_H) : Option (Int32 × am_H) :=
  if s0 = s1 then
    k590 v1 v2 v3 v4 v5 v6 v7 v8 v9 v10 v11 v13 v14 v15 v16 (v17 + (1 : Int32)) h
  else
  am_zr (0 : Int32) h
def fL_law_633 (L : Nat) (xs : Nat → Int32) (k639 : Option Nat → Option Nat → Option Nat → Option Nat → Int32 → Option Nat → Option Nat → Option Nat → Int32 → Option Nat → Int32 → Int32 → Int32 → Int32 → Int32 → Int32 → Int32 → Int32 → am_H → Option (Int32 × am_H)) (v1 : Option Nat) (v2 : Option Nat) (v3 : Option Nat) (v4 : Option Nat) (v5 : Int32) (v6 : Option Nat) (v7 : Option Nat) (v8 : Option Nat) (v9 : Int32) (v10 : Option Nat) (v11 : Int32) (v13 : Int32) (v14 : Int32) (v15 : Int32) (v16 : Int32) (v17 : Int32) (s0 : Int32) (h : am_H) : Option (Int32 × am_H) :=
  k639 v1 v2 v3 v4 v5 v6 v7 v8 v9 v10 v11 v13 v14 v15 v16 v17 s0 v11 h
def fL_law_638 (L : Nat) (xs : Nat → Int32) (k639 : Option Nat → Option Nat → Option Nat → Option Nat → Int32 → Option Nat → Option Nat → Option Nat → Int32 → Option Nat → Int32 → Int32 → Int32 → Int32 → Int32 → Int32 → Int32 → Int32 → am_H → Option (Int32 × am_H)) (v1 : Option Nat) (v2 : Option Nat) (v3 : Option Nat) (v4 : Option Nat) (v5 : Int32) (v6 : Option Nat) (v7 : Option Nat) (v8 : Option Nat) (v9 : Int32) (v10 : Option Nat) (v11 : Int32) (v13 : Int32) (v14 : Int32) (v15 : Int32) (v16 : Int32) (v17 : Int32) (s0 : Int32) (h : am_H) : Option (Int32 × am_H) :=
  k639 v1 v2 v3 v4 v5 v6 v7 v8 v9 v10 v11 v13 v14 v15 v16 v17 s0 (-1 : Int32) h
def fL_law_1608 (L : Nat) (xs : Nat → Int32) (k1545 : Option Nat → Option Nat → Option Nat → Option Nat → Int32 → Int32 → Option Nat → Int32 → Int32 → Int32 → Int32 → Int32 → am_H → Option (Int32 × am_H)) (v1 : Option Nat) (v2 : Option Nat) (v3 : Option Nat) (v4 : Option Nat) (v5 : Int32) (v9 : Int32) (v10 : Option Nat) (v11 : Int32) (v12 : Int32) (v14 : Int32) (v15 : Int32) (v16 : Int32) (s0 : Int32) (h : am_H) : Option (Int32 × am_H) :=
  if v16 ≤ v11 then
    (fL_law_1624 L xs k1545) v1 v2 v3 v4 v5 v9 v10 v12 s0 v14 v15 v11 h
  else
  (fL_law_1624 L xs k1545) v1 v2 v3 v4 v5 v9 v10 v12 s0 v14 v15 v16 h
def fL_law_590_b (L : Nat) (xs : Nat → Int32) (k489 : Option Nat → Option Nat → Option Nat → Option Nat → Int32 → Option Nat → Option Nat → Option Nat → Int32 → Option Nat → Int32 → am_H → Option (Int32 × am_H)) (rec : Option Nat → Option Nat → Option Nat → Option Nat → Int32 → Option Nat → Option Nat → Option Nat → Int32 → Option Nat → Int32 → Int32 → Int32 → Int32 → Int32 → Int32 → am_H → Option (Int32 × am_H)) (v1 : Option Nat) (v2 : Option Nat) (v3 : Option Nat) (v4 : Option Nat) (v5 : Int32) (v6 : Option Nat) (v7 : Option Nat) (v8 : Option Nat) (v9 : Int32) (v10 : Option Nat) (v11 : Int32) (v13 : Int32) (v14 : Int32) (v15 : Int32) (v16 : Int32) (v17 : Int32) (h : am_H) : Option (Int32 × am_H) :=
  if (5 : Int32) ≤ v17 then
    (fL_law_650 L xs k489) v1 v2 v3 v4 v5 v6 v7 v8 v9 v10 v11 v13 v14 v15 v16 h
  else
  if v11 < 0 then
    (fL_law_650 L xs k489) v1 v2 v3 v4 v5 v6 v7 v8 v9 v10 v11 v13 v14 v15 v16 h
  else
  (am_rc h v1 8).bind fun b2 =>
  (fX8_as b2 v11 v17 h).bind fun y1 =>
  if v17 = 0 then
    (fL_law_633 L xs (fL_law_639 L xs rec)) v1 v2 v3 v4 v5 v6 v7 v8 v9 v10 v11 v13 v14 v15 v16 v17 y1.1 y1.2
  else
  if v17 = v13 then
    (fL_law_633 L xs (fL_law_639 L xs rec)) v1 v2 v3 v4 v5 v6 v7 v8 v9 v10 v11 v13 v14 v15 v16 v17 y1.1 y1.2
  else
  if v17 = (1 : Int32) then
    if v13 = (2 : Int32) then
      (fL_law_633 L xs (fL_law_639 L xs rec)) v1 v2 v3 v4 v5 v6 v7 v8 v9 v10 v11 v13 v14 v15 v16 v17 y1.1 y1.2
    else
    (fL_law_638 L xs (fL_law_639 L xs rec)) v1 v2 v3 v4 v5 v6 v7 v8 v9 v10 v11 v13 v14 v15 v16 v17 y1.1 y1.2
  else
  (fL_law_638 L xs (fL_law_639 L xs rec)) v1 v2 v3 v4 v5 v6 v7 v8 v9 v10 v11 v13 v14 v15 v16 v17 y1.1 y1.2
def fL_law_590 (L : Nat) (xs : Nat → Int32) (k489 : Option Nat → Option Nat → Option Nat → Option Nat → Int32 → Option Nat → Option Nat → Option Nat → Int32 → Option Nat → Int32 → am_H → Option (Int32 × am_H)) : Nat → Option Nat → Option Nat → Option Nat → Option Nat → Int32 → Option Nat → Option Nat → Option Nat → Int32 → Option Nat → Int32 → Int32 → Int32 → Int32 → Int32 → Int32 → am_H → Option (Int32 × am_H)
  | 0, _, _, _, _, _, _, _, _, _, _, _, _, _, _, _, _, _ => none
  | n + 1, v1, v2, v3, v4, v5, v6, v7, v8, v9, v10, v11, v13, v14, v15, v16, v17, h => fL_law_590_b L xs k489 (fL_law_590 L xs k489 n) v1 v2 v3 v4 v5 v6 v7 v8 v9 v10 v11 v13 v14 v15 v16 v17 h
def fL_law_1592 (L : Nat) (xs : Nat → Int32) (k1545 : Option Nat → Option Nat → Option Nat → Option Nat → Int32 → Int32 → Option Nat → Int32 → Int32 → Int32 → Int32 → Int32 → am_H → Option (Int32 × am_H)) (v1 : Option Nat) (v2 : Option Nat) (v3 : Option Nat) (v4 : Option Nat) (v5 : Int32) (v9 : Int32) (v10 : Option Nat) (v11 : Int32) (v13 : Int32) (v14 : Int32) (v15 : Int32) (v16 : Int32) (s0 : Int32) (h : am_H) : Option (Int32 × am_H) :=
  if v16 ≤ v11 then
    (fL_law_1608 L xs k1545) v1 v2 v3 v4 v5 v9 v10 v11 s0 v14 v15 v16 v13 h
  else
  (fL_law_1608 L xs k1545) v1 v2 v3 v4 v5 v9 v10 v11 s0 v14 v15 v16 v15 h
def fL_law_587 (L : Nat) (xs : Nat → Int32) (k489 : Option Nat → Option Nat → Option Nat → Option Nat → Int32 → Option Nat → Option Nat → Option Nat → Int32 → Option Nat → Int32 → am_H → Option (Int32 × am_H)) (v1 : Option Nat) (v2 : Option Nat) (v3 : Option Nat) (v4 : Option Nat) (v5 : Int32) (v6 : Option Nat) (v7 : Option Nat) (v8 : Option Nat) (v9 : Int32) (v10 : Option Nat) (v11 : Int32) (v13 : Int32) (v14 : Int32) (v15 : Int32) (v16 : Int32) (h : am_H) : Option (Int32 × am_H) :=
  (fL_law_590 L xs k489 am_fu) v1 v2 v3 v4 v5 v6 v7 v8 v9 v10 v11 v13 v14 v15 v16 (0 : Int32) h
def fL_law_422 (L : Nat) (xs : Nat → Int32) (k372 : Option Nat → Option Nat → Option Nat → Option Nat → Int32 → Option Nat → Option Nat → Option Nat → Int32 → Int32 → am_H → Option (Int32 × am_H)) (v1 : Option Nat) (v2 : Option Nat) (v3 : Option Nat) (v4 : Option Nat) (v5 : Int32) (v6 : Option Nat) (v7 : Option Nat) (v8 : Option Nat) (v9 : Int32) (v11 : Int32) (s0 : Int32) (s1 : Int32) (h : am_H) : Option (Int32 × am_H) :=
  if s0 = s1 then
    k372 v1 v2 v3 v4 v5 v6 v7 v8 v9 (v11 + (1 : Int32)) h
  else
  am_zr (0 : Int32) h
def fL_law_416 (L : Nat) (xs : Nat → Int32) (k422 : Option Nat → Option Nat → Option Nat → Option Nat → Int32 → Option Nat → Option Nat → Option Nat → Int32 → Int32 → Int32 → Int32 → am_H → Option (Int32 × am_H)) (v1 : Option Nat) (v2 : Option Nat) (v3 : Option Nat) (v4 : Option Nat) (v5 : Int32) (v6 : Option Nat) (v7 : Option Nat) (v8 : Option Nat) (v9 : Int32) (v11 : Int32) (s0 : Int32) (h : am_H) : Option (Int32 × am_H) :=
  k422 v1 v2 v3 v4 v5 v6 v7 v8 v9 v11 s0 v9 h
def fL_law_421 (L : Nat) (xs : Nat → Int32) (k422 : Option Nat → Option Nat → Option Nat → Option Nat → Int32 → Option Nat → Option Nat → Option Nat → Int32 → Int32 → Int32 → Int32 → am_H → Option (Int32 × am_H)) (v1 : Option Nat) (v2 : Option Nat) (v3 : Option Nat) (v4 : Option Nat) (v5 : Int32) (v6 : Option Nat) (v7 : Option Nat) (v8 : Option Nat) (v9 : Int32) (v11 : Int32) (s0 : Int32) (h : am_H) : Option (Int32 × am_H) :=
  k422 v1 v2 v3 v4 v5 v6 v7 v8 v9 v11 s0 (-1 : Int32) h
def fL_law_1545_b (L : Nat) (xs : Nat → Int32) (k1521 : Option Nat → Option Nat → Option Nat → Option Nat → Int32 → Int32 → Option Nat → Int32 → Int32 → Int32 → Int32 → am_H → Option (Int32 × am_H)) (rec : Option Nat → Option Nat → Option Nat → Option Nat → Int32 → Int32 → Option Nat → Int32 → Int32 → Int32 → Int32 → Int32 → am_H → Option (Int32 × am_H)) (v1 : Option Nat) (v2 : Option Nat) (v3 : Option Nat) (v4 : Option Nat) (v5 : Int32) (v9 : Int32) (v10 : Option Nat) (v11 : Int32) (v12 : Int32) (v13 : Int32) (v14 : Int32) (v15 : Int32) (h : am_H) : Option (Int32 × am_H) :=
  (am_al h v2 0 (4 : Int32)).bind fun x1 =>
  if x1 ≤ v15 then
    k1521 v1 v2 v3 v4 v5 v9 v10 v11 v12 v13 (v14 + (1 : Int32)) h
  else
  (am_al h v10 0 v15).bind fun x2 =>
  (am_al h v4 0 v14).bind fun x3 =>
  (am_al h v2 0 (4 : Int32)).bind fun x4 =>
  if x4 = 0 then none else
  (fL_size (x2 - (((v15 + (1 : Int32)) * x3) / x4)) h).bind fun y5 =>
  if y5.1 ≤ v11 then
    (fL_law_1592 L xs rec) v1 v2 v3 v4 v5 v9 v10 v11 v13 v14 v15 y5.1 v12 y5.2
  else
  (fL_law_1592 L xs rec) v1 v2 v3 v4 v5 v9 v10 v11 v13 v14 v15 y5.1 v14 y5.2
def fL_law_1545 (L : Nat) (xs : Nat → Int32) (k1521 : Option Nat → Option Nat → Option Nat → Option Nat → Int32 → Int32 → Option Nat → Int32 → Int32 → Int32 → Int32 → am_H → Option (Int32 × am_H)) : Nat → Option Nat → Option Nat → Option Nat → Option Nat → Int32 → Int32 → Option Nat → Int32 → Int32 → Int32 → Int32 → Int32 → am_H → Option (Int32 × am_H)
  | 0, _, _, _, _, _, _, _, _, _, _, _, _, _ => none
  | n + 1, v1, v2, v3, v4, v5, v9, v10, v11, v12, v13, v14, v15, h => fL_law_1545_b L xs k1521 (fL_law_1545 L xs k1521 n) v1 v2 v3 v4 v5 v9 v10 v11 v12 v13 v14 v15 h
def fL_law_529 (L : Nat) (xs : Nat → Int32) (k489 : Option Nat → Option Nat → Option Nat → Option Nat → Int32 → Option Nat → Option Nat → Option Nat → Int32 → Option Nat → Int32 → am_H → Option (Int32 × am_H)) (v1 : Option Nat) (v2 : Option Nat) (v3 : Option Nat) (v4 : Option Nat) (v5 : Int32) (v6 : Option Nat) (v7 : Option Nat) (v8 : Option Nat) (v9 : Int32) (v10 : Option Nat) (v11 : Int32) (v12 : Int32) (s0 : Int32) (h : am_H) : Option (Int32 × am_H) :=
  if (8 : Int32) = 0 then none else
  if (3 : Int32) = 0 then none else
  if (32 : Int32) = 0 then none else
  if (20 : Int32) = 0 then none else
  if (1024 : Int32) = 0 then none else
  if (96 : Int32) = 0 then none else
  if v11 < 0 then
    (fL_law_587 L xs k489) v1 v2 v3 v4 v5 v6 v7 v8 v9 v10 v11 s0 ((v12 / (8 : Int32)) - (v12 / (8 : Int32)) / (3 : Int32) * (3 : Int32)) ((1 : Int32) + ((v12 / (32 : Int32)) - (v12 / (32 : Int32)) / (20 : Int32) * (20 : Int32))) ((v12 / (1024 : Int32)) - (v12 / (1024 : Int32)) / (96 : Int32) * (96 : Int32)) h
  else
  (am_rc h v1 8).bind fun b2 =>
  (fX8_faulty b2 s0 ((v12 / (8 : Int32)) - (v12 / (8 : Int32)) / (3 : Int32) * (3 : Int32)) ((1 : Int32) + ((v12 / (32 : Int32)) - (v12 / (32 : Int32)) / (20 : Int32) * (20 : Int32))) ((v12 / (1024 : Int32)) - (v12 / (1024 : Int32)) / (96 : Int32) * (96 : Int32)) h).bind fun y1 =>
  if y1.1 = v11 then
    (fL_law_587 L xs k489) v1 v2 v3 v4 v5 v6 v7 v8 v9 v10 v11 s0 ((v12 / (8 : Int32)) - (v12 / (8 : Int32)) / (3 : Int32) * (3 : Int32)) ((1 : Int32) + ((v12 / (32 : Int32)) - (v12 / (32 : Int32)) / (20 : Int32) * (20 : Int32))) ((v12 / (1024 : Int32)) - (v12 / (1024 : Int32)) / (96 : Int32) * (96 : Int32)) y1.2
  else
  am_zr (0 : Int32) y1.2
def fL_law_372_b (L : Nat) (xs : Nat → Int32) (k195 : Option Nat → Option Nat → Option Nat → Option Nat → Int32 → Option Nat → Option Nat → Option Nat → Int32 → am_H → Option (Int32 × am_H)) (rec : Option Nat → Option Nat → Option Nat → Option Nat → Int32 → Option Nat → Option Nat → Option Nat → Int32 → Int32 → am_H → Option (Int32 × am_H)) (v1 : Option Nat) (v2 : Option Nat) (v3 : Option Nat) (v4 : Option Nat) (v5 : Int32) (v6 : Option Nat) (v7 : Option Nat) (v8 : Option Nat) (v9 : Int32) (v11 : Int32) (h : am_H) : Option (Int32 × am_H) :=
  if (5 : Int32) ≤ v11 then
    k195 v1 v2 v3 v4 v5 v6 v7 v8 (v9 + (1 : Int32)) h
  else
  (am_rc h v1 8).bind fun b2 =>
  (fX8_workAs b2 v9 v11 h).bind fun y1 =>
  if v11 = 0 then
    (fL_law_416 L xs (fL_law_422 L xs rec)) v1 v2 v3 v4 v5 v6 v7 v8 v9 v11 y1.1 y1.2
  else
  (am_al y1.2 v6 0 v9).bind fun x3 =>
  if v11 = x3 then
    (fL_law_416 L xs (fL_law_422 L xs rec)) v1 v2 v3 v4 v5 v6 v7 v8 v9 v11 y1.1 y1.2
  else
  if v11 = (3 : Int32) then
    (am_al y1.2 v6 0 v9).bind fun x4 =>
    if x4 = (4 : Int32) then
      (fL_law_416 L xs (fL_law_422 L xs rec)) v1 v2 v3 v4 v5 v6 v7 v8 v9 v11 y1.1 y1.2
    else
    (fL_law_421 L xs (fL_law_422 L xs rec)) v1 v2 v3 v4 v5 v6 v7 v8 v9 v11 y1.1 y1.2
  else
  (fL_law_421 L xs (fL_law_422 L xs rec)) v1 v2 v3 v4 v5 v6 v7 v8 v9 v11 y1.1 y1.2
def fL_law_372 (L : Nat) (xs : Nat → Int32) (k195 : Option Nat → Option Nat → Option Nat → Option Nat → Int32 → Option Nat → Option Nat → Option Nat → Int32 → am_H → Option (Int32 × am_H)) : Nat → Option Nat → Option Nat → Option Nat → Option Nat → Int32 → Option Nat → Option Nat → Option Nat → Int32 → Int32 → am_H → Option (Int32 × am_H)
  | 0, _, _, _, _, _, _, _, _, _, _, _ => none
  | n + 1, v1, v2, v3, v4, v5, v6, v7, v8, v9, v11, h => fL_law_372_b L xs k195 (fL_law_372 L xs k195 n) v1 v2 v3 v4 v5 v6 v7 v8 v9 v11 h
def fL_law_1521_b (L : Nat) (xs : Nat → Int32) (rec : Option Nat → Option Nat → Option Nat → Option Nat → Int32 → Int32 → Option Nat → Int32 → Int32 → Int32 → Int32 → am_H → Option (Int32 × am_H)) (v1 : Option Nat) (v2 : Option Nat) (v3 : Option Nat) (v4 : Option Nat) (v5 : Int32) (v9 : Int32) (v10 : Option Nat) (v11 : Int32) (v12 : Int32) (v13 : Int32) (v14 : Int32) (h : am_H) : Option (Int32 × am_H) :=
  if (4 : Int32) ≤ v14 then
    (am_rc h v1 8).bind fun b2 =>
    (fX8_worst b2 (0 : Int32) (0 : Int32) h).bind fun y1 =>
    if y1.1 = v11 then
      (am_rc y1.2 v1 8).bind fun b4 =>
      (fX8_worst b4 (0 : Int32) (1 : Int32) y1.2).bind fun y3 =>
      if y3.1 = v12 then
        (am_rc y3.2 v1 8).bind fun b6 =>
        (fX8_worst b6 (0 : Int32) (2 : Int32) y3.2).bind fun y5 =>
        if y5.1 = v13 then
          (am_rc y5.2 v1 8).bind fun b8 =>
          (fX8_better b8 (0 : Int32) (0 : Int32) y5.2).bind fun y7 =>
          if y7.1 = 0 then
            (am_al y7.2 v2 0 (4 : Int32)).bind fun x9 =>
            (am_rc y7.2 v1 8).bind fun b11 =>
            (fX8_drops b11 (0 : Int32) (0 : Int32) (-1 : Int32) x9 y7.2).bind fun y10 =>
            if y10.1 = (-101 : Int32) then
              (am_rc y10.2 v1 8).bind fun b13 =>
              (fX8_drops b13 (1 : Int32) (0 : Int32) (-1 : Int32) (0 : Int32) y10.2).bind fun y12 =>
              if y12.1 = (-101 : Int32) then
                (am_rc y12.2 v1 8).bind fun b15 =>
                (fX8_drops b15 (0 : Int32) (4 : Int32) (-1 : Int32) (0 : Int32) y12.2).bind fun y14 =>
                if y14.1 = (-101 : Int32) then
                  (am_rc y14.2 v1 8).bind fun b17 =>
                  (fX8_drops b17 (0 : Int32) (0 : Int32) v9 (0 : Int32) y14.2).bind fun y16 =>
                  if y16.1 = (-101 : Int32) then
                    (am_rc y16.2 v1 8).bind fun b19 =>
                    (fX8_error b19 (0 : Int32) (0 : Int32) (-2 : Int32) (0 : Int32) y16.2).bind fun y18 =>
                    if y18.1 = (-1001 : Int32) then
                      (am_rc y18.2 v1 8).bind fun b21 =>
                      (fX8_at b21 (0 : Int32) (0 : Int32) (-1 : Int32) (96 : Int32) (0 : Int32) y18.2).bind fun y20 =>
                      if y20.1 = (-102 : Int32) then
                        (am_rc y20.2 v1 8).bind fun b23 =>
                        (fX8_at b23 (0 : Int32) (0 : Int32) (-1 : Int32) (0 : Int32) (8 : Int32) y20.2).bind fun y22 =>
                        if y22.1 = (-102 : Int32) then
                          (am_rc y22.2 v1 8).bind fun b25 =>
                          (fX8_even b25 (0 : Int32) (0 : Int32) (-1 : Int32) (2 : Int32) y22.2).bind fun y24 =>
                          if y24.1 = (-102 : Int32) then
                            (am_rc y24.2 v1 8).bind fun b27 =>
                            (fX8_mean b27 (0 : Int32) (0 : Int32) (-1 : Int32) (2 : Int32) y24.2).bind fun y26 =>
                            if y26.1 = (-102 : Int32) then
                              (am_rc y26.2 v1 8).bind fun b29 =>
                              (fX8_shows b29 (0 : Int32) (0 : Int32) (-1 : Int32) (4 : Int32) y26.2).bind fun y28 =>
                              if y28.1 = (-102 : Int32) then
                                (am_rc y28.2 v1 8).bind fun b31 =>
                                (fX8_shows b31 (0 : Int32) (0 : Int32) (-1 : Int32) (30 : Int32) y28.2).bind fun y30 =>
                                if y30.1 = (-102 : Int32) then
                                  (am_rc y30.2 v1 8).bind fun b33 =>
                                  (fX8_worst b33 (1 : Int32) (0 : Int32) y30.2).bind fun y32 =>
                                  if y32.1 = (-101 : Int32) then
                                    (am_rc y32.2 v1 8).bind fun b35 =>
                                    (fX8_worst b35 (0 : Int32) (3 : Int32) y32.2).bind fun y34 =>
                                    if y34.1 = (-102 : Int32) then
                                      (am_rc y34.2 v1 8).bind fun b37 =>
                                      (fX8_better b37 (0 : Int32) (1 : Int32) y34.2).bind fun y36 =>
                                      if y36.1 = (-101 : Int32) then
                                        (am_rc y36.2 v1 8).bind fun b39 =>
                                        (fX8_head b39 v5 y36.2).bind fun y38 =>
                                        if y38.1 = (-101 : Int32) then
                                          am_zr (1 : Int32) y38.2
                                        else
                                        am_zr (0 : Int32) y38.2
                                      else
                                      am_zr (0 : Int32) y36.2
                                    else
                                    am_zr (0 : Int32) y34.2
                                  else
                                  am_zr (0 : Int32) y32.2
                                else
                                am_zr (0 : Int32) y30.2
                              else
                              am_zr (0 : Int32) y28.2
                            else
                            am_zr (0 : Int32) y26.2
                          else
                          am_zr (0 : Int32) y24.2
                        else
                        am_zr (0 : Int32) y22.2
                      else
                      am_zr (0 : Int32) y20.2
                    else
                    am_zr (0 : Int32) y18.2
                  else
                  am_zr (0 : Int32) y16.2
                else
                am_zr (0 : Int32) y14.2
              else
              am_zr (0 : Int32) y12.2
            else
            am_zr (0 : Int32) y10.2
          else
          am_zr (0 : Int32) y7.2
        else
        am_zr (0 : Int32) y5.2
      else
      am_zr (0 : Int32) y3.2
    else
    am_zr (0 : Int32) y1.2
  else
  (am_al h v3 0 v14).bind fun x40 =>
  (fL_run v2 x40 (0 : Int32) (0 : Int32) (0 : Int32) (0 : Int32) (0 : Int32) v10 h).bind fun y41 =>
  (fL_law_1545 L xs rec am_fu) v1 v2 v3 v4 v5 v9 v10 v11 v12 v13 v14 (0 : Int32) y41
def fL_law_1521 (L : Nat) (xs : Nat → Int32) : Nat → Option Nat → Option Nat → Option Nat → Option Nat → Int32 → Int32 → Option Nat → Int32 → Int32 → Int32 → Int32 → am_H → Option (Int32 × am_H)
  | 0, _, _, _, _, _, _, _, _, _, _, _, _ => none
  | n + 1, v1, v2, v3, v4, v5, v9, v10, v11, v12, v13, v14, h => fL_law_1521_b L xs  (fL_law_1521 L xs  n) v1 v2 v3 v4 v5 v9 v10 v11 v12 v13 v14 h
def fL_law_514 (L : Nat) (xs : Nat → Int32) (k489 : Option Nat → Option Nat → Option Nat → Option Nat → Int32 → Option Nat → Option Nat → Option Nat → Int32 → Option Nat → Int32 → am_H → Option (Int32 × am_H)) (v1 : Option Nat) (v2 : Option Nat) (v3 : Option Nat) (v4 : Option Nat) (v5 : Int32) (v6 : Option Nat) (v7 : Option Nat) (v8 : Option Nat) (v9 : Int32) (v10 : Option Nat) (v11 : Int32) (s0 : Int32) (h : am_H) : Option (Int32 × am_H) :=
  if 0 ≤ v11 then
    if (5 : Int32) = 0 then none else
    (fL_law_529 L xs k489) v1 v2 v3 v4 v5 v6 v7 v8 v9 v10 v11 s0 (s0 - s0 / (5 : Int32) * (5 : Int32)) h
  else
  (fL_law_529 L xs k489) v1 v2 v3 v4 v5 v6 v7 v8 v9 v10 v11 s0 (0 : Int32) h
def fL_law_342 (L : Nat) (xs : Nat → Int32) (k195 : Option Nat → Option Nat → Option Nat → Option Nat → Int32 → Option Nat → Option Nat → Option Nat → Int32 → am_H → Option (Int32 × am_H)) (v1 : Option Nat) (v2 : Option Nat) (v3 : Option Nat) (v4 : Option Nat) (v5 : Int32) (v6 : Option Nat) (v7 : Option Nat) (v8 : Option Nat) (v9 : Int32) (s0 : Option Nat) (s1 : Int32) (s2 : Int32) (h : am_H) : Option (Int32 × am_H) :=
  (am_as h s0 0 s1 s2).bind fun h1 =>
  (am_al h1 v6 0 v9).bind fun x2 =>
  (am_al h1 v7 0 v9).bind fun x3 =>
  (am_al h1 v8 0 v9).bind fun x4 =>
  (am_rc h1 v1 8).bind fun b6 =>
  (fX8_work b6 x2 x3 x4 h1).bind fun y5 =>
  if y5.1 = v9 then
    (fL_law_372 L xs k195 am_fu) v1 v2 v3 v4 v5 v6 v7 v8 v9 (0 : Int32) y5.2
  else
  am_zr (0 : Int32) y5.2
def fL_law_329 (L : Nat) (xs : Nat → Int32) (k342 : Option Nat → Option Nat → Option Nat → Option Nat → Int32 → Option Nat → Option Nat → Option Nat → Int32 → Option Nat → Int32 → Int32 → am_H → Option (Int32 × am_H)) (v1 : Option Nat) (v2 : Option Nat) (v3 : Option Nat) (v4 : Option Nat) (v5 : Int32) (v6 : Option Nat) (v7 : Option Nat) (v8 : Option Nat) (v9 : Int32) (s0 : Option Nat) (s1 : Int32) (h : am_H) : Option (Int32 × am_H) :=
  k342 v1 v2 v3 v4 v5 v6 v7 v8 v9 s0 s1 (-1 : Int32) h
def fL_law_489_b (L : Nat) (xs : Nat → Int32) (rec : Option Nat → Option Nat → Option Nat → Option Nat → Int32 → Option Nat → Option Nat → Option Nat → Int32 → Option Nat → Int32 → am_H → Option (Int32 × am_H)) (v1 : Option Nat) (v2 : Option Nat) (v3 : Option Nat) (v4 : Option Nat) (v5 : Int32) (v6 : Option Nat) (v7 : Option Nat) (v8 : Option Nat) (v9 : Int32) (v10 : Option Nat) (v11 : Int32) (h : am_H) : Option (Int32 × am_H) :=
  if v9 ≤ v11 then
    (fL_law_1521 L xs am_fu) v1 v2 v3 v4 v5 v9 v10 (-1 : Int32) (0 : Int32) (0 : Int32) (0 : Int32) h
  else
  if 0 ≤ v11 then
    (fL_cell L xs ((15 : Int32) + v11) h).bind fun y1 =>
    (fL_law_514 L xs rec) v1 v2 v3 v4 v5 v6 v7 v8 v9 v10 v11 y1.1 y1.2
  else
  (fL_law_514 L xs rec) v1 v2 v3 v4 v5 v6 v7 v8 v9 v10 v11 (0 : Int32) h
def fL_law_489 (L : Nat) (xs : Nat → Int32) : Nat → Option Nat → Option Nat → Option Nat → Option Nat → Int32 → Option Nat → Option Nat → Option Nat → Int32 → Option Nat → Int32 → am_H → Option (Int32 × am_H)
  | 0, _, _, _, _, _, _, _, _, _, _, _, _ => none
  | n + 1, v1, v2, v3, v4, v5, v6, v7, v8, v9, v10, v11, h => fL_law_489_b L xs  (fL_law_489 L xs  n) v1 v2 v3 v4 v5 v6 v7 v8 v9 v10 v11 h
def fL_law_308 (L : Nat) (xs : Nat → Int32) (k195 : Option Nat → Option Nat → Option Nat → Option Nat → Int32 → Option Nat → Option Nat → Option Nat → Int32 → am_H → Option (Int32 × am_H)) (v1 : Option Nat) (v2 : Option Nat) (v3 : Option Nat) (v4 : Option Nat) (v5 : Int32) (v6 : Option Nat) (v7 : Option Nat) (v8 : Option Nat) (v9 : Int32) (v10 : Int32) (s0 : Option Nat) (s1 : Int32) (s2 : Int32) (h : am_H) : Option (Int32 × am_H) :=
  (am_as h s0 0 s1 s2).bind fun h1 =>
  if v9 = 0 then
    (fL_law_329 L xs (fL_law_342 L xs k195)) v1 v2 v3 v4 v5 v6 v7 v8 v9 v8 v9 h1
  else
  if (256 : Int32) = 0 then none else
  if (4 : Int32) = 0 then none else
  if ((v10 / (256 : Int32)) - (v10 / (256 : Int32)) / (4 : Int32) * (4 : Int32)) = 0 then
    (fL_law_329 L xs (fL_law_342 L xs k195)) v1 v2 v3 v4 v5 v6 v7 v8 v9 v8 v9 h1
  else
  if (1024 : Int32) = 0 then none else
  if v9 = 0 then none else
  (fL_law_342 L xs k195) v1 v2 v3 v4 v5 v6 v7 v8 v9 v8 v9 ((v10 / (1024 : Int32)) - (v10 / (1024 : Int32)) / v9 * v9) h1
def fL_law_121 (L : Nat) (xs : Nat → Int32) (k51 : Option Nat → Option Nat → Option Nat → Option Nat → Int32 → am_H → Option (Int32 × am_H)) (v1 : Option Nat) (v2 : Option Nat) (v3 : Option Nat) (v4 : Option Nat) (v5 : Int32) (s0 : Option Nat) (s1 : Int32) (s2 : Int32) (h : am_H) : Option (Int32 × am_H) :=
  (am_as h s0 0 s1 s2).bind fun h1 =>
  (am_al h1 v3 0 v5).bind fun x2 =>
  (am_rc h1 v1 8).bind fun b4 =>
  (fX8_season b4 v5 (0 : Int32) x2 h1).bind fun y3 =>
  if y3.1 = (100 : Int32) then
    (am_al y3.2 v4 0 v5).bind fun x5 =>
    (am_rc y3.2 v1 8).bind fun b7 =>
    (fX8_season b7 v5 (1 : Int32) x5 y3.2).bind fun y6 =>
    if y6.1 = (48 : Int32) then
      k51 v1 v2 v3 v4 (v5 + (1 : Int32)) y6.2
    else
    am_zr (0 : Int32) y6.2
  else
  am_zr (0 : Int32) y3.2
def fL_law_195_b (L : Nat) (xs : Nat → Int32) (rec : Option Nat → Option Nat → Option Nat → Option Nat → Int32 → Option Nat → Option Nat → Option Nat → Int32 → am_H → Option (Int32 × am_H)) (v1 : Option Nat) (v2 : Option Nat) (v3 : Option Nat) (v4 : Option Nat) (v5 : Int32) (v6 : Option Nat) (v7 : Option Nat) (v8 : Option Nat) (v9 : Int32) (h : am_H) : Option (Int32 × am_H) :=
  if v5 ≤ v9 then
    (am_rc h v1 8).bind fun b2 =>
    (fX8_head b2 (v5 - (1 : Int32)) h).bind fun y1 =>
    if y1.1 = (-1 : Int32) then
      (am_rc y1.2 v1 8).bind fun b4 =>
      (fX8_head b4 (v5 - (1 : Int32)) y1.2).bind fun y3 =>
      if y3.1 = (v5 - (1 : Int32)) then
        (fL_cell L xs (14 : Int32) y3.2).bind fun y5 =>
        if (4 : Int32) = 0 then none else
        (am_na y5.2 0 (22 : Int32)).bind fun y6 =>
        (fL_law_489 L xs am_fu) v1 v2 v3 v4 v5 v6 v7 v8 ((1 : Int32) + (y5.1 - y5.1 / (4 : Int32) * (4 : Int32))) y6.1 (-1 : Int32) y6.2
      else
      am_zr (0 : Int32) y3.2
    else
    am_zr (0 : Int32) y1.2
  else
  (fL_cell L xs ((8 : Int32) + v9) h).bind fun y7 =>
  if (5 : Int32) = 0 then none else
  (am_as y7.2 v6 0 v9 (y7.1 - y7.1 / (5 : Int32) * (5 : Int32))).bind fun h8 =>
  (am_al h8 v6 0 v9).bind fun x9 =>
  if x9 = 0 then
    (fL_law_308 L xs rec) v1 v2 v3 v4 v5 v6 v7 v8 v9 y7.1 v7 v9 (0 : Int32) h8
  else
  (am_al h8 v6 0 v9).bind fun x10 =>
  if x10 = (1 : Int32) then
    if (8 : Int32) = 0 then none else
    if (10 : Int32) = 0 then none else
    (fL_law_308 L xs rec) v1 v2 v3 v4 v5 v6 v7 v8 v9 y7.1 v7 v9 ((y7.1 / (8 : Int32)) - (y7.1 / (8 : Int32)) / (10 : Int32) * (10 : Int32)) h8
  else
  (am_al h8 v6 0 v9).bind fun x11 =>
  if x11 = (2 : Int32) then
    if (8 : Int32) = 0 then none else
    if (4 : Int32) = 0 then none else
    (fL_law_308 L xs rec) v1 v2 v3 v4 v5 v6 v7 v8 v9 y7.1 v7 v9 ((y7.1 / (8 : Int32)) - (y7.1 / (8 : Int32)) / (4 : Int32) * (4 : Int32)) h8
  else
  (am_al h8 v6 0 v9).bind fun x12 =>
  if x12 = (3 : Int32) then
    if (8 : Int32) = 0 then none else
    if (9 : Int32) = 0 then none else
    (fL_law_308 L xs rec) v1 v2 v3 v4 v5 v6 v7 v8 v9 y7.1 v7 v9 ((1 : Int32) + ((y7.1 / (8 : Int32)) - (y7.1 / (8 : Int32)) / (9 : Int32) * (9 : Int32))) h8
  else
  if (8 : Int32) = 0 then none else
  if (4 : Int32) = 0 then none else
  (fL_law_308 L xs rec) v1 v2 v3 v4 v5 v6 v7 v8 v9 y7.1 v7 v9 ((2 : Int32) + ((y7.1 / (8 : Int32)) - (y7.1 / (8 : Int32)) / (4 : Int32) * (4 : Int32))) h8
def fL_law_195 (L : Nat) (xs : Nat → Int32) : Nat → Option Nat → Option Nat → Option Nat → Option Nat → Int32 → Option Nat → Option Nat → Option Nat → Int32 → am_H → Option (Int32 × am_H)
  | 0, _, _, _, _, _, _, _, _, _, _ => none
  | n + 1, v1, v2, v3, v4, v5, v6, v7, v8, v9, h => fL_law_195_b L xs  (fL_law_195 L xs  n) v1 v2 v3 v4 v5 v6 v7 v8 v9 h
def fL_law_92 (L : Nat) (xs : Nat → Int32) (k51 : Option Nat → Option Nat → Option Nat → Option Nat → Int32 → am_H → Option (Int32 × am_H)) (v1 : Option Nat) (v2 : Option Nat) (v3 : Option Nat) (v4 : Option Nat) (v5 : Int32) (v6 : Int32) (s0 : Option Nat) (s1 : Int32) (s2 : Int32) (h : am_H) : Option (Int32 × am_H) :=
  (am_as h s0 0 s1 s2).bind fun h1 =>
  if (5 : Int32) = 0 then none else
  if (v6 - v6 / (5 : Int32) * (5 : Int32)) = 0 then
    (fL_law_121 L xs k51) v1 v2 v3 v4 v5 v4 v5 (48 : Int32) h1
  else
  if (512 : Int32) = 0 then none else
  if (49 : Int32) = 0 then none else
  (fL_law_121 L xs k51) v1 v2 v3 v4 v5 v4 v5 ((24 : Int32) + ((v6 / (512 : Int32)) - (v6 / (512 : Int32)) / (49 : Int32) * (49 : Int32))) h1
def fL_law_51_b (L : Nat) (xs : Nat → Int32) (rec : Option Nat → Option Nat → Option Nat → Option Nat → Int32 → am_H → Option (Int32 × am_H)) (v1 : Option Nat) (v2 : Option Nat) (v3 : Option Nat) (v4 : Option Nat) (v5 : Int32) (h : am_H) : Option (Int32 × am_H) :=
  if (4 : Int32) ≤ v5 then
    (fL_cell L xs (7 : Int32) h).bind fun y1 =>
    if (6 : Int32) = 0 then none else
    (am_na y1.2 0 (6 : Int32)).bind fun y2 =>
    (am_na y2.2 0 (6 : Int32)).bind fun y3 =>
    (am_na y3.2 0 (6 : Int32)).bind fun y4 =>
    (fL_law_195 L xs am_fu) v1 v2 v3 v4 (y1.1 - y1.1 / (6 : Int32) * (6 : Int32)) y2.1 y3.1 y4.1 (0 : Int32) y4.2
  else
  (fL_cell L xs ((3 : Int32) + v5) h).bind fun y5 =>
  if (3 : Int32) = 0 then none else
  if (y5.1 - y5.1 / (3 : Int32) * (3 : Int32)) = 0 then
    (fL_law_92 L xs rec) v1 v2 v3 v4 v5 y5.1 v3 v5 (100 : Int32) y5.2
  else
  if (4 : Int32) = 0 then none else
  if (101 : Int32) = 0 then none else
  (fL_law_92 L xs rec) v1 v2 v3 v4 v5 y5.1 v3 v5 ((50 : Int32) + ((y5.1 / (4 : Int32)) - (y5.1 / (4 : Int32)) / (101 : Int32) * (101 : Int32))) y5.2
def fL_law_51 (L : Nat) (xs : Nat → Int32) : Nat → Option Nat → Option Nat → Option Nat → Option Nat → Int32 → am_H → Option (Int32 × am_H)
  | 0, _, _, _, _, _, _ => none
  | n + 1, v1, v2, v3, v4, v5, h => fL_law_51_b L xs  (fL_law_51 L xs  n) v1 v2 v3 v4 v5 h
def fL_law (L : Nat) (xs : Nat → Int32) (h : am_H) : Option (Int32 × am_H) :=
  (am_nwo h 8 df_8).bind fun y1 =>
  (fX8_init y1.1 y1.2).bind fun y2 =>
  (am_na y2 0 (26 : Int32)).bind fun y3 =>
  (fL_cell L xs (0 : Int32) y3.2).bind fun y4 =>
  (fL_cell L xs (1 : Int32) y4.2).bind fun y5 =>
  (fL_cell L xs (2 : Int32) y5.2).bind fun y6 =>
  (fL_clock (some y1.1) y4.1 y5.1 y6.1 (0 : Int32) y3.1 y6.2).bind fun y7 =>
  if y7.1 = 0 then
    am_zr (0 : Int32) y7.2
  else
  (am_na y7.2 0 (4 : Int32)).bind fun y8 =>
  (am_na y8.2 0 (4 : Int32)).bind fun y9 =>
  (fL_law_51 L xs am_fu) (some y1.1) y3.1 y8.1 y9.1 (0 : Int32) y9.2
