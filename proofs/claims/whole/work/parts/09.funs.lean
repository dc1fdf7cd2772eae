/-! the pure functions, printed out of the bytecode -/
/-! DroppingBalls$Page.<init>()V -/
def fX3_init (v0 : Nat) (h : am_H) : Option (am_H) :=
  (am_na h 2 (80 : Int32)).bind fun y1 =>
  (am_pr y1.2 (some v0) 3 0 y1.1).bind fun h2 =>
  some h2
/-! java/util/Arrays.fill([II)V -/
def fJ7_fill_53178_5_b (rec : Option Nat → Int32 → Int32 → Int32 → am_H → Option (am_H)) (v0 : Option Nat) (v1 : Int32) (v2 : Int32) (v3 : Int32) (h : am_H) : Option (am_H) :=
  if v3 ≤ v2 then
    some h
  else
  (am_as h v0 0 v2 v1).bind fun h1 =>
  rec v0 v1 (v2 + (1 : Int32)) v3 h1
def fJ7_fill_53178_5 : Nat → Option Nat → Int32 → Int32 → Int32 → am_H → Option (am_H)
  | 0, _, _, _, _, _ => none
  | n + 1, v0, v1, v2, v3, h => fJ7_fill_53178_5_b  (fJ7_fill_53178_5  n) v0 v1 v2 v3 h
def fJ7_fill_53178 (v0 : Option Nat) (v1 : Int32) (h : am_H) : Option (am_H) :=
  (am_an h v0).bind fun x1 =>
  (fJ7_fill_53178_5 am_fu) v0 v1 (0 : Int32) x1 h
/-! DroppingBalls$Setting.<init>()V -/
def fX6_init (v0 : Nat) (h : am_H) : Option (am_H) :=
  (am_na h 0 (4 : Int32)).bind fun y1 =>
  (am_pr y1.2 (some v0) 6 0 y1.1).bind fun h2 =>
  (am_na h2 0 (4 : Int32)).bind fun y3 =>
  (am_pr y3.2 (some v0) 6 1 y3.1).bind fun h4 =>
  (am_na h4 0 (12 : Int32)).bind fun y5 =>
  (am_pr y5.2 (some v0) 6 2 y5.1).bind fun h6 =>
  (am_pi h6 (some v0) 6 3 (-1 : Int32)).bind fun h7 =>
  (am_gr h7 (some v0) 6 0).bind fun x8 =>
  (fJ7_fill_53178 x8 (100 : Int32) h7).bind fun y9 =>
  (am_gr y9 (some v0) 6 1).bind fun x10 =>
  (fJ7_fill_53178 x10 (48 : Int32) y9).bind fun y11 =>
  (am_gr y11 (some v0) 6 2).bind fun x12 =>
  (fJ7_fill_53178 x12 (-1 : Int32) y11).bind fun y13 =>
  some y13
/-! DroppingBalls$Clock.<init>()V -/
def fX0_init (v0 : Nat) (h : am_H) : Option (am_H) :=
  (am_na h 0 (3 : Int32)).bind fun y1 =>
  (am_pr y1.2 (some v0) 0 1 y1.1).bind fun h2 =>
  (am_na h2 0 (3 : Int32)).bind fun y3 =>
  (am_pr y3.2 (some v0) 0 2 y3.1).bind fun h4 =>
  (am_na h4 0 (3 : Int32)).bind fun y5 =>
  (am_pr y5.2 (some v0) 0 3 y5.1).bind fun h6 =>
  (am_na h6 0 (3 : Int32)).bind fun y7 =>
  (am_pr y7.2 (some v0) 0 4 y7.1).bind fun h8 =>
  (am_na h8 0 (12 : Int32)).bind fun y9 =>
  (am_pr y9.2 (some v0) 0 9 y9.1).bind fun h10 =>
  some h10
/-! DroppingBalls$Fault.<init>()V -/
def fX2_init (v0 : Nat) (h : am_H) : Option (am_H) :=
  (am_pi h (some v0) 2 0 (0 : Int32)).bind fun h1 =>
  some h1
/-! DroppingBalls$Run.<init>(LDroppingBalls$Clock;LDroppingBalls$Fault;)V -/
def fX5_init (v0 : Nat) (v1 : Option Nat) (v2 : Option Nat) (h : am_H) : Option (am_H) :=
  (am_na h 0 (3 : Int32)).bind fun y1 =>
  (am_pr y1.2 (some v0) 5 4 y1.1).bind fun h2 =>
  (am_na h2 0 (12 : Int32)).bind fun y3 =>
  (am_pr y3.2 (some v0) 5 11 y3.1).bind fun h4 =>
  (am_pr h4 (some v0) 5 0 v1).bind fun h5 =>
  (am_pr h5 (some v0) 5 1 v2).bind fun h6 =>
  some h6
/-! DroppingBalls$Play.<init>()V -/
def fX4_init (v0 : Nat) (h : am_H) : Option (am_H) :=
  (am_na h 0 (10 : Int32)).bind fun y1 =>
  (am_pr y1.2 (some v0) 4 0 y1.1).bind fun h2 =>
  (am_na h2 3 (10 : Int32)).bind fun y3 =>
  (am_pr y3.2 (some v0) 4 1 y3.1).bind fun h4 =>
  (am_na h4 0 (4 : Int32)).bind fun y5 =>
  (am_pr y5.2 (some v0) 4 2 y5.1).bind fun h6 =>
  (am_nq h6 6 (120 : Int32)).bind fun y7 =>
  (am_pr y7.2 (some v0) 4 3 y7.1).bind fun h8 =>
  (am_na h8 0 (120 : Int32)).bind fun y9 =>
  (am_pr y9.2 (some v0) 4 4 y9.1).bind fun h10 =>
  (am_na h10 0 (20 : Int32)).bind fun y11 =>
  (am_pr y11.2 (some v0) 4 6 y11.1).bind fun h12 =>
  some h12
/-! DroppingBalls$Evidence.<init>()V -/
def fX1_init (v0 : Nat) (h : am_H) : Option (am_H) :=
  (am_na h 0 (96 : Int32)).bind fun y1 =>
  (am_pr y1.2 (some v0) 1 0 y1.1).bind fun h2 =>
  (am_na h2 0 (96 : Int32)).bind fun y3 =>
  (am_pr y3.2 (some v0) 1 1 y3.1).bind fun h4 =>
  some h4
/-! DroppingBalls.<init>()V -/
def fX8_init (v0 : Nat) (h : am_H) : Option (am_H) :=
  (am_nq h 4 (4 : Int32)).bind fun y1 =>
  (am_pr y1.2 (some v0) 8 0 y1.1).bind fun h2 =>
  (am_nq h2 5 (8 : Int32)).bind fun y3 =>
  (am_pr y3.2 (some v0) 8 1 y3.1).bind fun h4 =>
  (am_nq h4 6 (10 : Int32)).bind fun y5 =>
  (am_pr y5.2 (some v0) 8 2 y5.1).bind fun h6 =>
  (am_nwo h6 3 df_3).bind fun y7 =>
  (fX3_init y7.1 y7.2).bind fun y8 =>
  (am_pr y8 (some v0) 8 6 (some y7.1)).bind fun h9 =>
  (am_nwo h9 6 df_6).bind fun y10 =>
  (fX6_init y10.1 y10.2).bind fun y11 =>
  (am_pr y11 (some v0) 8 7 (some y10.1)).bind fun h12 =>
  (am_nwo h12 6 df_6).bind fun y13 =>
  (fX6_init y13.1 y13.2).bind fun y14 =>
  (am_pr y14 (some v0) 8 8 (some y13.1)).bind fun h15 =>
  (am_nwo h15 0 df_0).bind fun y16 =>
  (fX0_init y16.1 y16.2).bind fun y17 =>
  (am_pr y17 (some v0) 8 11 (some y16.1)).bind fun h18 =>
  (am_nwo h18 2 df_2).bind fun y19 =>
  (fX2_init y19.1 y19.2).bind fun y20 =>
  (am_pr y20 (some v0) 8 12 (some y19.1)).bind fun h21 =>
  (am_nwo h21 2 df_2).bind fun y22 =>
  (fX2_init y22.1 y22.2).bind fun y23 =>
  (am_pr y23 (some v0) 8 13 (some y22.1)).bind fun h24 =>
  (am_nwo h24 5 df_5).bind fun y25 =>
  (am_gr y25.2 (some v0) 8 11).bind fun x26 =>
  (am_gr y25.2 (some v0) 8 12).bind fun x27 =>
  (fX5_init y25.1 x26 x27 y25.2).bind fun y28 =>
  (am_pr y28 (some v0) 8 14 (some y25.1)).bind fun h29 =>
  (am_nwo h29 5 df_5).bind fun y30 =>
  (am_gr y30.2 (some v0) 8 11).bind fun x31 =>
  (am_gr y30.2 (some v0) 8 12).bind fun x32 =>
  (fX5_init y30.1 x31 x32 y30.2).bind fun y33 =>
  (am_pr y33 (some v0) 8 15 (some y30.1)).bind fun h34 =>
  (am_nwo h34 4 df_4).bind fun y35 =>
  (fX4_init y35.1 y35.2).bind fun y36 =>
  (am_pr y36 (some v0) 8 16 (some y35.1)).bind fun h37 =>
  (am_nwo h37 1 df_1).bind fun y38 =>
  (fX1_init y38.1 y38.2).bind fun y39 =>
  (am_pr y39 (some v0) 8 17 (some y38.1)).bind fun h40 =>
  (am_na h40 0 (3 : Int32)).bind fun y41 =>
  (am_pr y41.2 (some v0) 8 18 y41.1).bind fun h42 =>
  some h42
/-! DroppingBallsModel.<init>()V -/
def fX9_init_324_b (rec : Option Nat → Int32 → am_H → Option (am_H)) (v0 : Option Nat) (v1 : Int32) (h : am_H) : Option (am_H) :=
  if (12 : Int32) ≤ v1 then
    some h
  else
  (am_gr h v0 9 22).bind fun x1 =>
  (am_as h x1 0 v1 (-1 : Int32)).bind fun h2 =>
  rec v0 (v1 + (1 : Int32)) h2
def fX9_init_324 : Nat → Option Nat → Int32 → am_H → Option (am_H)
  | 0, _, _, _ => none
  | n + 1, v0, v1, h => fX9_init_324_b  (fX9_init_324  n) v0 v1 h
def fX9_init_295_b (rec : Option Nat → Int32 → am_H → Option (am_H)) (v0 : Option Nat) (v1 : Int32) (h : am_H) : Option (am_H) :=
  if (4 : Int32) ≤ v1 then
    (fX9_init_324 am_fu) v0 (0 : Int32) h
  else
  (am_gr h v0 9 10).bind fun x1 =>
  (am_as h x1 0 v1 (100 : Int32)).bind fun h2 =>
  (am_gr h2 v0 9 11).bind fun x3 =>
  (am_as h2 x3 0 v1 (48 : Int32)).bind fun h4 =>
  rec v0 (v1 + (1 : Int32)) h4
def fX9_init_295 : Nat → Option Nat → Int32 → am_H → Option (am_H)
  | 0, _, _, _ => none
  | n + 1, v0, v1, h => fX9_init_295_b  (fX9_init_295  n) v0 v1 h
def fX9_init (v0 : Nat) (h : am_H) : Option (am_H) :=
  (am_na h 0 (4 : Int32)).bind fun y1 =>
  (am_pr y1.2 (some v0) 9 1 y1.1).bind fun h2 =>
  (am_na h2 0 (12 : Int32)).bind fun y3 =>
  (am_pr y3.2 (some v0) 9 2 y3.1).bind fun h4 =>
  (am_na h4 0 (12 : Int32)).bind fun y5 =>
  (am_pr y5.2 (some v0) 9 3 y5.1).bind fun h6 =>
  (am_na h6 0 (12 : Int32)).bind fun y7 =>
  (am_pr y7.2 (some v0) 9 4 y7.1).bind fun h8 =>
  (am_na h8 0 (4 : Int32)).bind fun y9 =>
  (am_pr y9.2 (some v0) 9 5 y9.1).bind fun h10 =>
  (am_na h10 0 (4 : Int32)).bind fun y11 =>
  (am_pr y11.2 (some v0) 9 6 y11.1).bind fun h12 =>
  (am_na h12 0 (4 : Int32)).bind fun y13 =>
  (am_pr y13.2 (some v0) 9 7 y13.1).bind fun h14 =>
  (am_na h14 0 (4 : Int32)).bind fun y15 =>
  (am_pr y15.2 (some v0) 9 8 y15.1).bind fun h16 =>
  (am_na h16 0 (48 : Int32)).bind fun y17 =>
  (am_pr y17.2 (some v0) 9 9 y17.1).bind fun h18 =>
  (am_na h18 0 (4 : Int32)).bind fun y19 =>
  (am_pr y19.2 (some v0) 9 10 y19.1).bind fun h20 =>
  (am_na h20 0 (4 : Int32)).bind fun y21 =>
  (am_pr y21.2 (some v0) 9 11 y21.1).bind fun h22 =>
  (am_na h22 0 (8 : Int32)).bind fun y23 =>
  (am_pr y23.2 (some v0) 9 13 y23.1).bind fun h24 =>
  (am_na h24 0 (8 : Int32)).bind fun y25 =>
  (am_pr y25.2 (some v0) 9 14 y25.1).bind fun h26 =>
  (am_na h26 0 (8 : Int32)).bind fun y27 =>
  (am_pr y27.2 (some v0) 9 15 y27.1).bind fun h28 =>
  (am_na h28 0 (8 : Int32)).bind fun y29 =>
  (am_pr y29.2 (some v0) 9 16 y29.1).bind fun h30 =>
  (am_na h30 0 (10 : Int32)).bind fun y31 =>
  (am_pr y31.2 (some v0) 9 18 y31.1).bind fun h32 =>
  (am_na h32 0 (10 : Int32)).bind fun y33 =>
  (am_pr y33.2 (some v0) 9 19 y33.1).bind fun h34 =>
  (am_na h34 0 (10 : Int32)).bind fun y35 =>
  (am_pr y35.2 (some v0) 9 20 y35.1).bind fun h36 =>
  (am_pi h36 (some v0) 9 21 (-1 : Int32)).bind fun h37 =>
  (am_na h37 0 (12 : Int32)).bind fun y38 =>
  (am_pr y38.2 (some v0) 9 22 y38.1).bind fun h39 =>
  (am_na h39 1 (80 : Int32)).bind fun y40 =>
  (am_pr y40.2 (some v0) 9 25 y40.1).bind fun h41 =>
  (am_na h41 0 (4 : Int32)).bind fun y42 =>
  (am_pr y42.2 (some v0) 9 28 y42.1).bind fun h43 =>
  (am_na h43 0 (4 : Int32)).bind fun y44 =>
  (am_pr y44.2 (some v0) 9 29 y44.1).bind fun h45 =>
  (am_na h45 0 (12 : Int32)).bind fun y46 =>
  (am_pr y46.2 (some v0) 9 30 y46.1).bind fun h47 =>
  (am_na h47 0 (3 : Int32)).bind fun y48 =>
  (am_pr y48.2 (some v0) 9 34 y48.1).bind fun h49 =>
  (am_na h49 0 (3 : Int32)).bind fun y50 =>
  (am_pr y50.2 (some v0) 9 35 y50.1).bind fun h51 =>
  (am_na h51 0 (3 : Int32)).bind fun y52 =>
  (am_pr y52.2 (some v0) 9 36 y52.1).bind fun h53 =>
  (am_na h53 0 (12 : Int32)).bind fun y54 =>
  (am_pr y54.2 (some v0) 9 41 y54.1).bind fun h55 =>
  (am_na h55 0 (3 : Int32)).bind fun y56 =>
  (am_pr y56.2 (some v0) 9 43 y56.1).bind fun h57 =>
  (am_na h57 0 (3 : Int32)).bind fun y58 =>
  (am_pr y58.2 (some v0) 9 50 y58.1).bind fun h59 =>
  (am_na h59 0 (12 : Int32)).bind fun y60 =>
  (am_pr y60.2 (some v0) 9 56 y60.1).bind fun h61 =>
  (am_na h61 0 (96 : Int32)).bind fun y62 =>
  (am_pr y62.2 (some v0) 9 59 y62.1).bind fun h63 =>
  (am_na h63 0 (128 : Int32)).bind fun y64 =>
  (am_pr y64.2 (some v0) 9 63 y64.1).bind fun h65 =>
  (am_na h65 3 (10 : Int32)).bind fun y66 =>
  (am_pr y66.2 (some v0) 9 66 y66.1).bind fun h67 =>
  (am_na h67 0 (10 : Int32)).bind fun y68 =>
  (am_pr y68.2 (some v0) 9 67 y68.1).bind fun h69 =>
  (am_na h69 0 (4 : Int32)).bind fun y70 =>
  (am_pr y70.2 (some v0) 9 68 y70.1).bind fun h71 =>
  (am_na h71 0 (128 : Int32)).bind fun y72 =>
  (am_pr y72.2 (some v0) 9 70 y72.1).bind fun h73 =>
  (am_na h73 0 (128 : Int32)).bind fun y74 =>
  (am_pr y74.2 (some v0) 9 71 y74.1).bind fun h75 =>
  (fX9_init_295 am_fu) (some v0) (0 : Int32) h75
/-! DroppingBalls.byteOf(JI)I -/
def fX8_byteOf (v0 : Int64) (v2 : Int32) (h : am_H) : Option (Int32 × am_H) :=
  some ((Int64.toInt32 (((Int64.toUInt64 v0) >>> ((Int32.toInt64 ((8 : Int32) * v2)).toUInt64 &&& Int64.toUInt64 63)).toInt64)) &&& (255 : Int32), h)
/-! DroppingBalls.lettersIn(J)I -/
def fX8_lettersIn_56 (k4 : Int64 → Int32 → Int32 → am_H → Option (Int32 × am_H)) (v0 : Int64) (v2 : Int32) (v3 : Int32) (h : am_H) : Option (Int32 × am_H) :=
  k4 v0 v2 (v3 + (1 : Int32)) h
def fX8_lettersIn_32 (k4 : Int64 → Int32 → Int32 → am_H → Option (Int32 × am_H)) (v0 : Int64) (v2 : Int32) (v3 : Int32) (v4 : Int32) (s0 : Int32) (h : am_H) : Option (Int32 × am_H) :=
  if (126 : Int32) < v4 then
    some ((-1 : Int32), h)
  else
  if s0 = 0 then
    if v4 = 0 then
      (fX8_lettersIn_56 k4) v0 v2 v3 h
    else
    (fX8_lettersIn_56 k4) v0 (v2 + (1 : Int32)) v3 h
  else
  some ((-1 : Int32), h)
def fX8_lettersIn_31 (k32 : Int64 → Int32 → Int32 → Int32 → Int32 → am_H → Option (Int32 × am_H)) (v0 : Int64) (v2 : Int32) (v3 : Int32) (v4 : Int32) (h : am_H) : Option (Int32 × am_H) :=
  k32 v0 v2 v3 v4 (0 : Int32) h
def fX8_lettersIn_4_b (rec : Int64 → Int32 → Int32 → am_H → Option (Int32 × am_H)) (v0 : Int64) (v2 : Int32) (v3 : Int32) (h : am_H) : Option (Int32 × am_H) :=
  if (8 : Int32) ≤ v3 then
    some (v2, h)
  else
  (fX8_byteOf v0 v3 h).bind fun y1 =>
  if y1.1 = 0 then
    (fX8_lettersIn_31 (fX8_lettersIn_32 rec)) v0 v2 v3 y1.1 y1.2
  else
  if v3 ≤ v2 then
    (fX8_lettersIn_31 (fX8_lettersIn_32 rec)) v0 v2 v3 y1.1 y1.2
  else
  (fX8_lettersIn_32 rec) v0 v2 v3 y1.1 (1 : Int32) y1.2
def fX8_lettersIn_4 : Nat → Int64 → Int32 → Int32 → am_H → Option (Int32 × am_H)
  | 0, _, _, _, _ => none
  | n + 1, v0, v2, v3, h => fX8_lettersIn_4_b  (fX8_lettersIn_4  n) v0 v2 v3 h
def fX8_lettersIn (v0 : Int64) (h : am_H) : Option (Int32 × am_H) :=
  (fX8_lettersIn_4 am_fu) v0 (0 : Int32) (0 : Int32) h
/-! DroppingBalls$Page.add(C)V -/
def fX3_add (v0 : Nat) (v1 : Int32) (h : am_H) : Option (am_H) :=
  (am_gi h (some v0) 3 1).bind fun x1 =>
  if x1 < 0 then
    some h
  else
  (am_gi h (some v0) 3 1).bind fun x2 =>
  if (80 : Int32) ≤ x2 then
    some h
  else
  (am_gr h (some v0) 3 0).bind fun x3 =>
  (am_gi h (some v0) 3 1).bind fun x4 =>
  (am_as h x3 2 x4 (vp_nar .char v1)).bind fun h5 =>
  (am_gi h5 (some v0) 3 1).bind fun x6 =>
  (am_pi h5 (some v0) 3 1 (x6 + (1 : Int32))).bind fun h7 =>
  some h7
/-! DroppingBalls.letters(J)I -/
def fX8_letters_33_b (rec : Option Nat → Int64 → Int32 → Int32 → am_H → Option (Int32 × am_H)) (v0 : Option Nat) (v1 : Int64) (v3 : Int32) (v4 : Int32) (h : am_H) : Option (Int32 × am_H) :=
  if v3 ≤ v4 then
    (am_gr h v0 8 6).bind fun x1 =>
    (am_gi h x1 3 1).bind fun x2 =>
    some (x2, h)
  else
  (am_gr h v0 8 6).bind fun x3 =>
  (fX8_byteOf v1 v4 h).bind fun y4 =>
  (am_rc y4.2 x3 3).bind fun b6 =>
  (fX3_add b6 (((Int32.toUInt32 y4.1) % 65536).toInt32) y4.2).bind fun y5 =>
  rec v0 v1 v3 (v4 + (1 : Int32)) y5
def fX8_letters_33 : Nat → Option Nat → Int64 → Int32 → Int32 → am_H → Option (Int32 × am_H)
  | 0, _, _, _, _, _ => none
  | n + 1, v0, v1, v3, v4, h => fX8_letters_33_b  (fX8_letters_33  n) v0 v1 v3 v4 h
def fX8_letters (v0 : Nat) (v1 : Int64) (h : am_H) : Option (Int32 × am_H) :=
  (fX8_lettersIn v1 h).bind fun y1 =>
  if y1.1 = (-1 : Int32) then
    some ((-102 : Int32), y1.2)
  else
  (am_gr y1.2 (some v0) 8 6).bind fun x2 =>
  (am_gi y1.2 x2 3 1).bind fun x3 =>
  if (x3 + y1.1) ≤ (80 : Int32) then
    (fX8_letters_33 am_fu) (some v0) v1 y1.1 (0 : Int32) y1.2
  else
  some ((-104 : Int32), y1.2)
/-! DroppingBallsModel.letters(J)I -/
def fX9_letters_77 (k8 : Option Nat → Int64 → Int32 → Int32 → Int32 → am_H → Option (Int32 × am_H)) (v0 : Option Nat) (v1 : Int64) (v4 : Int32) (v5 : Int32) (s0 : Int32) (s1 : Int32) (h : am_H) : Option (Int32 × am_H) :=
  k8 v0 v1 (s0 + s1) v4 (v5 + (1 : Int32)) h
def fX9_letters_64 (k8 : Option Nat → Int64 → Int32 → Int32 → Int32 → am_H → Option (Int32 × am_H)) (v0 : Option Nat) (v1 : Int64) (v3 : Int32) (v5 : Int32) (v6 : Int32) (s0 : Int32) (h : am_H) : Option (Int32 × am_H) :=
  if v6 = 0 then
    (fX9_letters_77 k8) v0 v1 s0 v5 v3 (0 : Int32) h
  else
  (fX9_letters_77 k8) v0 v1 s0 v5 v3 (1 : Int32) h
def fX9_letters_59 (k64 : Option Nat → Int64 → Int32 → Int32 → Int32 → Int32 → am_H → Option (Int32 × am_H)) (v0 : Option Nat) (v1 : Int64) (v3 : Int32) (v5 : Int32) (v6 : Int32) (h : am_H) : Option (Int32 × am_H) :=
  k64 v0 v1 v3 v5 v6 (1 : Int32) h
def fX9_letters_102_b (rec : Option Nat → Int64 → Int32 → Int32 → am_H → Option (Int32 × am_H)) (v0 : Option Nat) (v1 : Int64) (v3 : Int32) (v5 : Int32) (h : am_H) : Option (Int32 × am_H) :=
  if v3 ≤ v5 then
    (am_gi h v0 9 24).bind fun x1 =>
    (am_pi h v0 9 24 (x1 + v3)).bind fun h2 =>
    (am_gi h2 v0 9 24).bind fun x3 =>
    some (x3, h2)
  else
  (am_gr h v0 9 25).bind fun x4 =>
  (am_gi h v0 9 24).bind fun x5 =>
  (am_as h x4 1 (x5 + v5) (vp_nar .byte ((Int32.toInt8 (Int64.toInt32 (v1 >>> (Int32.toInt64 ((8 : Int32) * v5) &&& 63)))).toInt32))).bind fun h6 =>
  rec v0 v1 v3 (v5 + (1 : Int32)) h6
def fX9_letters_102 : Nat → Option Nat → Int64 → Int32 → Int32 → am_H → Option (Int32 × am_H)
  | 0, _, _, _, _, _ => none
  | n + 1, v0, v1, v3, v5, h => fX9_letters_102_b  (fX9_letters_102  n) v0 v1 v3 v5 h
def fX9_letters_49 (k8 : Option Nat → Int64 → Int32 → Int32 → Int32 → am_H → Option (Int32 × am_H)) (v0 : Option Nat) (v1 : Int64) (v3 : Int32) (v4 : Int32) (v5 : Int32) (v6 : Int32) (h : am_H) : Option (Int32 × am_H) :=
  if v4 = 0 then
    if v6 = 0 then
      (fX9_letters_59 (fX9_letters_64 k8)) v0 v1 v3 v5 v6 h
    else
    (fX9_letters_64 k8) v0 v1 v3 v5 v6 (0 : Int32) h
  else
  (fX9_letters_59 (fX9_letters_64 k8)) v0 v1 v3 v5 v6 h
def fX9_letters_8_b (rec : Option Nat → Int64 → Int32 → Int32 → Int32 → am_H → Option (Int32 × am_H)) (v0 : Option Nat) (v1 : Int64) (v3 : Int32) (v4 : Int32) (v5 : Int32) (h : am_H) : Option (Int32 × am_H) :=
  if (8 : Int32) ≤ v5 then
    (am_gi h v0 9 24).bind fun x1 =>
    if (x1 + v3) ≤ (80 : Int32) then
      (fX9_letters_102 am_fu) v0 v1 v3 (0 : Int32) h
    else
    some ((-104 : Int32), h)
  else
  if (126 : Int32) < (Int64.toInt32 ((v1 >>> (Int32.toInt64 ((8 : Int32) * v5) &&& 63)) &&& (255 : Int64))) then
    some ((-102 : Int32), h)
  else
  if v4 = 0 then
    (fX9_letters_49 rec) v0 v1 v3 v4 v5 (Int64.toInt32 ((v1 >>> (Int32.toInt64 ((8 : Int32) * v5) &&& 63)) &&& (255 : Int64))) h
  else
  if (Int64.toInt32 ((v1 >>> (Int32.toInt64 ((8 : Int32) * v5) &&& 63)) &&& (255 : Int64))) = 0 then
    (fX9_letters_49 rec) v0 v1 v3 v4 v5 (Int64.toInt32 ((v1 >>> (Int32.toInt64 ((8 : Int32) * v5) &&& 63)) &&& (255 : Int64))) h
  else
  some ((-102 : Int32), h)
def fX9_letters_8 : Nat → Option Nat → Int64 → Int32 → Int32 → Int32 → am_H → Option (Int32 × am_H)
  | 0, _, _, _, _, _, _ => none
  | n + 1, v0, v1, v3, v4, v5, h => fX9_letters_8_b  (fX9_letters_8  n) v0 v1 v3 v4 v5 h
def fX9_letters (v0 : Nat) (v1 : Int64) (h : am_H) : Option (Int32 × am_H) :=
  (fX9_letters_8 am_fu) (some v0) v1 (0 : Int32) (0 : Int32) (0 : Int32) h
/-! DroppingBalls.blank()I -/
def fX8_blank (v0 : Nat) (h : am_H) : Option (Int32 × am_H) :=
  (am_gr h (some v0) 8 6).bind fun x1 =>
  (am_gi h x1 3 1).bind fun x2 =>
  (am_gr h (some v0) 8 6).bind fun x3 =>
  (am_pi h x3 3 1 (0 : Int32)).bind fun h4 =>
  some (x2, h4)
/-! DroppingBallsModel.blank()I -/
def fX9_blank (v0 : Nat) (h : am_H) : Option (Int32 × am_H) :=
  (am_gi h (some v0) 9 24).bind fun x1 =>
  (am_pi h (some v0) 9 24 (0 : Int32)).bind fun h2 =>
  some (x1, h2)
/-! DroppingBalls$Page.codeAt(I)I -/
def fX3_codeAt (v0 : Nat) (v1 : Int32) (h : am_H) : Option (Int32 × am_H) :=
  if v1 < 0 then
    some ((-1 : Int32), h)
  else
  (am_gi h (some v0) 3 1).bind fun x1 =>
  if x1 ≤ v1 then
    some ((-1 : Int32), h)
  else
  if (80 : Int32) ≤ v1 then
    some ((-1 : Int32), h)
  else
  (am_gr h (some v0) 3 0).bind fun x2 =>
  (am_al h x2 2 v1).bind fun x3 =>
  some (x3, h)
/-! DroppingBalls.isIn(III)Z -/
def fX8_isIn (v0 : Int32) (v1 : Int32) (v2 : Int32) (h : am_H) : Option (Int32 × am_H) :=
  if v0 < v1 then
    am_zr (0 : Int32) h
  else
  if v2 < v0 then
    am_zr (0 : Int32) h
  else
  am_zr (1 : Int32) h
/-! DroppingBalls$Page.figureHere()I -/
def fX3_figureHere (v0 : Nat) (h : am_H) : Option (Int32 × am_H) :=
  (am_gi h (some v0) 3 2).bind fun x1 =>
  (am_rc h (some v0) 3).bind fun b3 =>
  (fX3_codeAt b3 x1 h).bind fun y2 =>
  (fX8_isIn y2.1 (48 : Int32) (57 : Int32) y2.2).bind fun y4 =>
  if y4.1 = 0 then
    some ((-1 : Int32), y4.2)
  else
  some (y2.1 - (48 : Int32), y4.2)
/-! DroppingBalls$Page.canStart(III)Z -/
def fX3_canStart_35 (v3 : Int32) (s0 : Int32) (h : am_H) : Option (Int32 × am_H) :=
  if v3 = 0 then
    if s0 = 0 then
      am_zr (0 : Int32) h
    else
    am_zr (1 : Int32) h
  else
  am_zr (1 : Int32) h
def fX3_canStart_34 (k35 : Int32 → Int32 → am_H → Option (Int32 × am_H)) (v3 : Int32) (h : am_H) : Option (Int32 × am_H) :=
  k35 v3 (0 : Int32) h
def fX3_canStart (v0 : Int32) (v1 : Int32) (v2 : Int32) (h : am_H) : Option (Int32 × am_H) :=
  (fX8_isIn v0 v1 v2 h).bind fun y1 =>
  if v0 ≤ 0 then
    (fX3_canStart_34 fX3_canStart_35) y1.1 y1.2
  else
  if v2 < ((10 : Int32) * v0) then
    (fX3_canStart_34 fX3_canStart_35) y1.1 y1.2
  else
  if (((10 : Int32) * v0) + (9 : Int32)) < v1 then
    (fX3_canStart_34 fX3_canStart_35) y1.1 y1.2
  else
  fX3_canStart_35 y1.1 (1 : Int32) y1.2
/-! DroppingBalls$Page.readNumber(II)I -/
def fX3_readNumber_79 (v1 : Int32) (v3 : Int32) (h : am_H) : Option (Int32 × am_H) :=
  if v3 < v1 then
    some ((-1 : Int32), h)
  else
  some (v3, h)
def fX3_readNumber (v0 : Nat) (v1 : Int32) (v2 : Int32) (h : am_H) : Option (Int32 × am_H) :=
  (am_rc h (some v0) 3).bind fun b2 =>
  (fX3_figureHere b2 h).bind fun y1 =>
  if y1.1 = (-1 : Int32) then
    some ((-1 : Int32), y1.2)
  else
  (fX3_canStart y1.1 v1 v2 y1.2).bind fun y3 =>
  if y3.1 = 0 then
    some ((-1 : Int32), y3.2)
  else
  (am_gi y3.2 (some v0) 3 2).bind fun x4 =>
  (am_pi y3.2 (some v0) 3 2 (x4 + (1 : Int32))).bind fun h5 =>
  (am_rc h5 (some v0) 3).bind fun b7 =>
  (fX3_figureHere b7 h5).bind fun y6 =>
  if y1.1 ≤ 0 then
    fX3_readNumber_79 v1 y1.1 y6.2
  else
  if y6.1 = (-1 : Int32) then
    fX3_readNumber_79 v1 y1.1 y6.2
  else
  (fX8_isIn (((10 : Int32) * y1.1) + y6.1) v1 v2 y6.2).bind fun y8 =>
  if y8.1 = 0 then
    fX3_readNumber_79 v1 y1.1 y8.2
  else
  (am_gi y8.2 (some v0) 3 2).bind fun x9 =>
  (am_pi y8.2 (some v0) 3 2 (x9 + (1 : Int32))).bind fun h10 =>
  some (((10 : Int32) * y1.1) + y6.1, h10)
/-! DroppingBalls$Page.readSign(C)Z -/
def fX3_readSign (v0 : Nat) (v1 : Int32) (h : am_H) : Option (Int32 × am_H) :=
  (am_gi h (some v0) 3 2).bind fun x1 =>
  (am_rc h (some v0) 3).bind fun b3 =>
  (fX3_codeAt b3 x1 h).bind fun y2 =>
  if y2.1 = v1 then
    (am_gi y2.2 (some v0) 3 2).bind fun x4 =>
    (am_pi y2.2 (some v0) 3 2 (x4 + (1 : Int32))).bind fun h5 =>
    am_zr (1 : Int32) h5
  else
  am_zr (0 : Int32) y2.2
/-! DroppingBalls$Clock.addVessel(III)V -/
def fX0_addVessel (v0 : Nat) (v1 : Int32) (v2 : Int32) (v3 : Int32) (h : am_H) : Option (am_H) :=
  (am_gi h (some v0) 0 0).bind fun x1 =>
  if (3 : Int32) ≤ x1 then
    some h
  else
  (am_gr h (some v0) 0 1).bind fun x2 =>
  (am_gi h (some v0) 0 0).bind fun x3 =>
  (am_as h x2 0 x3 v1).bind fun h4 =>
  (am_gr h4 (some v0) 0 2).bind fun x5 =>
  (am_gi h4 (some v0) 0 0).bind fun x6 =>
  (am_as h4 x5 0 x6 v2).bind fun h7 =>
  (am_gr h7 (some v0) 0 3).bind fun x8 =>
  (am_gi h7 (some v0) 0 0).bind fun x9 =>
  (am_as h7 x8 0 x9 v3).bind fun h10 =>
  (am_gr h10 (some v0) 0 4).bind fun x11 =>
  (am_gi h10 (some v0) 0 0).bind fun x12 =>
  (am_as h10 x11 0 x12 (v1 * v2)).bind fun h13 =>
  (am_gi h13 (some v0) 0 0).bind fun x14 =>
  (am_pi h13 (some v0) 0 0 (x14 + (1 : Int32))).bind fun h15 =>
  some h15
/-! DroppingBalls$Page.readVessel(LDroppingBalls$Clock;)Z -/
def fX3_readVessel (v0 : Nat) (v1 : Option Nat) (h : am_H) : Option (Int32 × am_H) :=
  (am_rc h (some v0) 3).bind fun b2 =>
  (fX3_readNumber b2 (1 : Int32) (30 : Int32) h).bind fun y1 =>
  if y1.1 = (-1 : Int32) then
    am_zr (0 : Int32) y1.2
  else
  (am_rc y1.2 (some v0) 3).bind fun b4 =>
  (fX3_readSign b4 (120 : Int32) y1.2).bind fun y3 =>
  if y3.1 = 0 then
    am_zr (0 : Int32) y3.2
  else
  (am_rc y3.2 (some v0) 3).bind fun b6 =>
  (fX3_readNumber b6 (1 : Int32) (60 : Int32) y3.2).bind fun y5 =>
  if y5.1 = (-1 : Int32) then
    am_zr (0 : Int32) y5.2
  else
  (am_rc y5.2 (some v0) 3).bind fun b8 =>
  (fX3_readSign b8 (104 : Int32) y5.2).bind fun y7 =>
  if y7.1 = 0 then
    am_zr (0 : Int32) y7.2
  else
  (am_rc y7.2 (some v0) 3).bind fun b10 =>
  (fX3_readNumber b10 (1 : Int32) (40 : Int32) y7.2).bind fun y9 =>
  if y9.1 = (-1 : Int32) then
    am_zr (0 : Int32) y9.2
  else
  (am_rc y9.2 v1 0).bind fun b12 =>
  (fX0_addVessel b12 y1.1 y5.1 y9.1 y9.2).bind fun y11 =>
  am_zr (1 : Int32) y11
/-! DroppingBalls$Page.readVessels(LDroppingBalls$Clock;)Z -/
def fX3_readVessels_44 (k4 : Option Nat → Option Nat → Int32 → Int32 → am_H → Option (Int32 × am_H)) (v0 : Option Nat) (v1 : Option Nat) (v3 : Int32) (s0 : Int32) (h : am_H) : Option (Int32 × am_H) :=
  k4 v0 v1 s0 (v3 + (1 : Int32)) h
def fX3_readVessels_43 (k44 : Option Nat → Option Nat → Int32 → Int32 → am_H → Option (Int32 × am_H)) (v0 : Option Nat) (v1 : Option Nat) (v3 : Int32) (h : am_H) : Option (Int32 × am_H) :=
  k44 v0 v1 v3 (0 : Int32) h
def fX3_readVessels_4_b (rec : Option Nat → Option Nat → Int32 → Int32 → am_H → Option (Int32 × am_H)) (v0 : Option Nat) (v1 : Option Nat) (v2 : Int32) (v3 : Int32) (h : am_H) : Option (Int32 × am_H) :=
  if (3 : Int32) ≤ v3 then
    am_zr (1 : Int32) h
  else
  if v2 = 0 then
    am_zr (1 : Int32) h
  else
  (am_rc h v0 3).bind fun b2 =>
  (fX3_readVessel b2 v1 h).bind fun y1 =>
  if y1.1 = 0 then
    am_zr (0 : Int32) y1.2
  else
  if (3 : Int32) ≤ (v3 + (1 : Int32)) then
    (fX3_readVessels_43 (fX3_readVessels_44 rec)) v0 v1 v3 y1.2
  else
  (am_rc y1.2 v0 3).bind fun b4 =>
  (fX3_readSign b4 (62 : Int32) y1.2).bind fun y3 =>
  if y3.1 = 0 then
    (fX3_readVessels_43 (fX3_readVessels_44 rec)) v0 v1 v3 y3.2
  else
  (fX3_readVessels_44 rec) v0 v1 v3 (1 : Int32) y3.2
def fX3_readVessels_4 : Nat → Option Nat → Option Nat → Int32 → Int32 → am_H → Option (Int32 × am_H)
  | 0, _, _, _, _, _ => none
  | n + 1, v0, v1, v2, v3, h => fX3_readVessels_4_b  (fX3_readVessels_4  n) v0 v1 v2 v3 h
def fX3_readVessels (v0 : Nat) (v1 : Option Nat) (h : am_H) : Option (Int32 × am_H) :=
  (fX3_readVessels_4 am_fu) (some v0) v1 (1 : Int32) (0 : Int32) h
/-! DroppingBalls$Page.readCylinder(LDroppingBalls$Clock;)Z -/
def fX3_readCylinder (v0 : Nat) (v1 : Option Nat) (h : am_H) : Option (Int32 × am_H) :=
  (am_rc h (some v0) 3).bind fun b2 =>
  (fX3_readSign b2 (61 : Int32) h).bind fun y1 =>
  if y1.1 = 0 then
    am_zr (0 : Int32) y1.2
  else
  (am_rc y1.2 (some v0) 3).bind fun b4 =>
  (fX3_readNumber b4 (1 : Int32) (99 : Int32) y1.2).bind fun y3 =>
  (am_pi y3.2 v1 0 5 y3.1).bind fun h5 =>
  (am_gi h5 v1 0 5).bind fun x6 =>
  if x6 = (-1 : Int32) then
    am_zr (0 : Int32) h5
  else
  (am_rc h5 (some v0) 3).bind fun b8 =>
  (fX3_readSign b8 (120 : Int32) h5).bind fun y7 =>
  if y7.1 = 0 then
    am_zr (0 : Int32) y7.2
  else
  (am_rc y7.2 (some v0) 3).bind fun b10 =>
  (fX3_readNumber b10 (1 : Int32) (99 : Int32) y7.2).bind fun y9 =>
  (am_pi y9.2 v1 0 6 y9.1).bind fun h11 =>
  (am_gi h11 v1 0 6).bind fun x12 =>
  if x12 = (-1 : Int32) then
    am_zr (0 : Int32) h11
  else
  am_zr (1 : Int32) h11
/-! DroppingBalls$Page.readSupply(LDroppingBalls$Clock;)Z -/
def fX3_readSupply (v0 : Nat) (v1 : Option Nat) (h : am_H) : Option (Int32 × am_H) :=
  (am_rc h (some v0) 3).bind fun b2 =>
  (fX3_readSign b2 (59 : Int32) h).bind fun y1 =>
  if y1.1 = 0 then
    am_zr (0 : Int32) y1.2
  else
  (am_rc y1.2 (some v0) 3).bind fun b4 =>
  (fX3_readSign b4 (115 : Int32) y1.2).bind fun y3 =>
  if y3.1 = 0 then
    am_zr (0 : Int32) y3.2
  else
  (am_rc y3.2 (some v0) 3).bind fun b6 =>
  (fX3_readNumber b6 (0 : Int32) (60 : Int32) y3.2).bind fun y5 =>
  (am_pi y5.2 v1 0 7 y5.1).bind fun h7 =>
  (am_gi h7 v1 0 7).bind fun x8 =>
  if x8 = (-1 : Int32) then
    am_zr (0 : Int32) h7
  else
  am_zr (1 : Int32) h7
/-! DroppingBalls$Clock.addMark(I)V -/
def fX0_addMark (v0 : Nat) (v1 : Int32) (h : am_H) : Option (am_H) :=
  (am_gi h (some v0) 0 8).bind fun x1 =>
  if (12 : Int32) ≤ x1 then
    some h
  else
  (am_gr h (some v0) 0 9).bind fun x2 =>
  (am_gi h (some v0) 0 8).bind fun x3 =>
  (am_as h x2 0 x3 v1).bind fun h4 =>
  (am_gi h4 (some v0) 0 8).bind fun x5 =>
  (am_pi h4 (some v0) 0 8 (x5 + (1 : Int32))).bind fun h6 =>
  some h6
/-! DroppingBalls$Page.readMarks(LDroppingBalls$Clock;)Z -/
def fX3_readMarks_89 (k27 : Option Nat → Option Nat → Int32 → Int32 → Int32 → am_H → Option (Int32 × am_H)) (v0 : Option Nat) (v1 : Option Nat) (v2 : Int32) (v4 : Int32) (s0 : Int32) (h : am_H) : Option (Int32 × am_H) :=
  k27 v0 v1 v2 s0 (v4 + (1 : Int32)) h
def fX3_readMarks_88 (k89 : Option Nat → Option Nat → Int32 → Int32 → Int32 → am_H → Option (Int32 × am_H)) (v0 : Option Nat) (v1 : Option Nat) (v2 : Int32) (v4 : Int32) (h : am_H) : Option (Int32 × am_H) :=
  k89 v0 v1 v2 v4 (0 : Int32) h
def fX3_readMarks_27_b (rec : Option Nat → Option Nat → Int32 → Int32 → Int32 → am_H → Option (Int32 × am_H)) (v0 : Option Nat) (v1 : Option Nat) (v2 : Int32) (v3 : Int32) (v4 : Int32) (h : am_H) : Option (Int32 × am_H) :=
  if (12 : Int32) ≤ v4 then
    am_zr (1 : Int32) h
  else
  if v3 = 0 then
    am_zr (1 : Int32) h
  else
  (am_rc h v0 3).bind fun b2 =>
  (fX3_readNumber b2 (v2 + (1 : Int32)) (99 : Int32) h).bind fun y1 =>
  if y1.1 = (-1 : Int32) then
    am_zr (0 : Int32) y1.2
  else
  (am_rc y1.2 v1 0).bind fun b4 =>
  (fX0_addMark b4 y1.1 y1.2).bind fun y3 =>
  if (12 : Int32) ≤ (v4 + (1 : Int32)) then
    (fX3_readMarks_88 (fX3_readMarks_89 rec)) v0 v1 y1.1 v4 y3
  else
  if (99 : Int32) ≤ y1.1 then
    (fX3_readMarks_88 (fX3_readMarks_89 rec)) v0 v1 y1.1 v4 y3
  else
  (am_rc y3 v0 3).bind fun b6 =>
  (fX3_readSign b6 (44 : Int32) y3).bind fun y5 =>
  if y5.1 = 0 then
    (fX3_readMarks_88 (fX3_readMarks_89 rec)) v0 v1 y1.1 v4 y5.2
  else
  (fX3_readMarks_89 rec) v0 v1 y1.1 v4 (1 : Int32) y5.2
def fX3_readMarks_27 : Nat → Option Nat → Option Nat → Int32 → Int32 → Int32 → am_H → Option (Int32 × am_H)
  | 0, _, _, _, _, _, _ => none
  | n + 1, v0, v1, v2, v3, v4, h => fX3_readMarks_27_b  (fX3_readMarks_27  n) v0 v1 v2 v3 v4 h
def fX3_readMarks (v0 : Nat) (v1 : Option Nat) (h : am_H) : Option (Int32 × am_H) :=
  (am_rc h (some v0) 3).bind fun b2 =>
  (fX3_readSign b2 (59 : Int32) h).bind fun y1 =>
  if y1.1 = 0 then
    am_zr (0 : Int32) y1.2
  else
  (am_rc y1.2 (some v0) 3).bind fun b4 =>
  (fX3_readSign b4 (109 : Int32) y1.2).bind fun y3 =>
  if y3.1 = 0 then
    am_zr (0 : Int32) y3.2
  else
  (fX3_readMarks_27 am_fu) (some v0) v1 (0 : Int32) (1 : Int32) (0 : Int32) y3.2
/-! DroppingBalls$Page.readClock(LDroppingBalls$Clock;)Z -/
def fX3_readClock (v0 : Nat) (v1 : Option Nat) (h : am_H) : Option (Int32 × am_H) :=
  (am_pi h (some v0) 3 2 (0 : Int32)).bind fun h1 =>
  (am_pi h1 v1 0 0 (0 : Int32)).bind fun h2 =>
  (am_pi h2 v1 0 8 (0 : Int32)).bind fun h3 =>
  (am_rc h3 (some v0) 3).bind fun b5 =>
  (fX3_readVessels b5 v1 h3).bind fun y4 =>
  if y4.1 = 0 then
    am_zr (0 : Int32) y4.2
  else
  (am_rc y4.2 (some v0) 3).bind fun b7 =>
  (fX3_readCylinder b7 v1 y4.2).bind fun y6 =>
  if y6.1 = 0 then
    am_zr (0 : Int32) y6.2
  else
  (am_rc y6.2 (some v0) 3).bind fun b9 =>
  (fX3_readSupply b9 v1 y6.2).bind fun y8 =>
  if y8.1 = 0 then
    am_zr (0 : Int32) y8.2
  else
  (am_rc y8.2 (some v0) 3).bind fun b11 =>
  (fX3_readMarks b11 v1 y8.2).bind fun y10 =>
  if y10.1 = 0 then
    am_zr (0 : Int32) y10.2
  else
  (am_gi y10.2 (some v0) 3 2).bind fun x12 =>
  (am_gi y10.2 (some v0) 3 1).bind fun x13 =>
  if x12 = x13 then
    am_zr (1 : Int32) y10.2
  else
  am_zr (0 : Int32) y10.2
/-! DroppingBalls.fault()I -/
def fX8_fault (v0 : Nat) (h : am_H) : Option (Int32 × am_H) :=
  (am_gr h (some v0) 8 6).bind fun x1 =>
  (am_gr h (some v0) 8 11).bind fun x2 =>
  (am_rc h x1 3).bind fun b4 =>
  (fX3_readClock b4 x2 h).bind fun y3 =>
  (am_gr y3.2 (some v0) 8 6).bind fun x5 =>
  (am_gi y3.2 x5 3 2).bind fun x6 =>
  some (x6, y3.2)
/-! DroppingBallsModel.within(III)Z -/
def fX9_within (v0 : Int32) (v1 : Int32) (v2 : Int32) (h : am_H) : Option (Int32 × am_H) :=
  if v0 < v1 then
    am_zr (0 : Int32) h
  else
  if v2 < v0 then
    am_zr (0 : Int32) h
  else
  am_zr (1 : Int32) h
/-! DroppingBallsModel.isDigit(I)Z -/
def fX9_isDigit (v0 : Int32) (h : am_H) : Option (Int32 × am_H) :=
  (fX9_within v0 (48 : Int32) (57 : Int32) h).bind fun y1 =>
  am_zr y1.1 y1.2
/-! DroppingBallsModel.markAhead()I -/
def fX9_markAhead (v0 : Nat) (h : am_H) : Option (Int32 × am_H) :=
  (am_gi h (some v0) 9 40).bind fun x1 =>
  if x1 = 0 then
    some ((0 : Int32), h)
  else
  (am_gr h (some v0) 9 41).bind fun x2 =>
  (am_gi h (some v0) 9 40).bind fun x3 =>
  (am_al h x2 0 (x3 - (1 : Int32))).bind fun x4 =>
  some (x4, h)
/-! DroppingBallsModel.most(I)I -/
def fX9_most (v0 : Int32) (h : am_H) : Option (Int32 × am_H) :=
  if v0 = 0 then
    some ((30 : Int32), h)
  else
  if v0 = (1 : Int32) then
    some ((60 : Int32), h)
  else
  if v0 = (2 : Int32) then
    some ((40 : Int32), h)
  else
  if v0 = (5 : Int32) then
    some ((60 : Int32), h)
  else
  some ((99 : Int32), h)
/-! DroppingBallsModel.fits(II)Z -/
def fX9_fits_51 (v3 : Int32) (h : am_H) : Option (Int32 × am_H) :=
  if v3 = 0 then
    am_zr (0 : Int32) h
  else
  am_zr (1 : Int32) h
def fX9_fits_41 (v1 : Int32) (v2 : Int32) (s0 : Int32) (h : am_H) : Option (Int32 × am_H) :=
  if 0 < v2 then
    fX9_fits_51 s0 h
  else
  if v1 = (5 : Int32) then
    fX9_fits_51 s0 h
  else
  am_zr (0 : Int32) h
def fX9_fits_36 (k41 : Int32 → Int32 → Int32 → am_H → Option (Int32 × am_H)) (v1 : Int32) (v2 : Int32) (h : am_H) : Option (Int32 × am_H) :=
  k41 v1 v2 (1 : Int32) h
def fX9_fits (v0 : Nat) (v1 : Int32) (v2 : Int32) (h : am_H) : Option (Int32 × am_H) :=
  (am_gi h (some v0) 9 42).bind fun x1 =>
  if x1 = (-1 : Int32) then
    if v1 = (6 : Int32) then
      (am_rc h (some v0) 9).bind fun b8 =>
      (fX9_markAhead b8 h).bind fun y7 =>
      if y7.1 < v2 then
        (fX9_fits_36 fX9_fits_41) v1 v2 y7.2
      else
      (am_rc y7.2 (some v0) 9).bind fun b10 =>
      (fX9_markAhead b10 y7.2).bind fun y9 =>
      if (((10 : Int32) * v2) + (9 : Int32)) ≤ y9.1 then
        fX9_fits_41 v1 v2 (0 : Int32) y9.2
      else
      (fX9_fits_36 fX9_fits_41) v1 v2 y9.2
    else
    (fX9_fits_36 fX9_fits_41) v1 v2 h
  else
  (am_gi h (some v0) 9 42).bind fun x2 =>
  (am_gi h (some v0) 9 42).bind fun x3 =>
  if x3 ≤ 0 then
    am_zr (0 : Int32) h
  else
  (fX9_most v1 h).bind fun y4 =>
  if y4.1 < (((10 : Int32) * x2) + v2) then
    am_zr (0 : Int32) y4.2
  else
  if v1 = (6 : Int32) then
    (am_rc y4.2 (some v0) 9).bind fun b6 =>
    (fX9_markAhead b6 y4.2).bind fun y5 =>
    if (((10 : Int32) * x2) + v2) ≤ y5.1 then
      am_zr (0 : Int32) y5.2
    else
    am_zr (1 : Int32) y5.2
  else
  am_zr (1 : Int32) y4.2
/-! DroppingBallsModel.behind(II)I -/
def fX9_behind (v0 : Nat) (v1 : Int32) (v2 : Int32) (h : am_H) : Option (Int32 × am_H) :=
  if v1 = (0 : Int32) then
    if v2 = (120 : Int32) then
      some ((1 : Int32), h)
    else
    some ((-1 : Int32), h)
  else
  if v1 = (1 : Int32) then
    if v2 = (104 : Int32) then
      some ((2 : Int32), h)
    else
    some ((-1 : Int32), h)
  else
  if v1 = (2 : Int32) then
    if v2 = (61 : Int32) then
      some ((3 : Int32), h)
    else
    if v2 = (62 : Int32) then
      (am_gi h (some v0) 9 33).bind fun x1 =>
      if (2 : Int32) ≤ x1 then
        some ((-1 : Int32), h)
      else
      some ((0 : Int32), h)
    else
    some ((-1 : Int32), h)
  else
  if v1 = (3 : Int32) then
    if v2 = (120 : Int32) then
      some ((4 : Int32), h)
    else
    some ((-1 : Int32), h)
  else
  if v1 = (4 : Int32) then
    if v2 = (59 : Int32) then
      some ((7 : Int32), h)
    else
    some ((-1 : Int32), h)
  else
  if v1 = (5 : Int32) then
    if v2 = (59 : Int32) then
      some ((8 : Int32), h)
    else
    some ((-1 : Int32), h)
  else
  if v2 = (44 : Int32) then
    (am_gi h (some v0) 9 40).bind fun x2 =>
    if (11 : Int32) ≤ x2 then
      some ((-1 : Int32), h)
    else
    (am_gi h (some v0) 9 42).bind fun x3 =>
    (am_rc h (some v0) 9).bind fun b5 =>
    (fX9_markAhead b5 h).bind fun y4 =>
    if x3 ≤ y4.1 then
      some ((-1 : Int32), y4.2)
    else
    (am_gi y4.2 (some v0) 9 42).bind fun x6 =>
    if (99 : Int32) ≤ x6 then
      some ((-1 : Int32), y4.2)
    else
    some ((6 : Int32), y4.2)
  else
  some ((-1 : Int32), h)
/-! DroppingBallsModel.keep(I)V -/
def fX9_keep_154 (v0 : Option Nat) (h : am_H) : Option (am_H) :=
  (am_pi h v0 9 42 (-1 : Int32)).bind fun h1 =>
  some h1
def fX9_keep (v0 : Nat) (v1 : Int32) (h : am_H) : Option (am_H) :=
  if v1 = (0 : Int32) then
    (am_gr h (some v0) 9 34).bind fun x1 =>
    (am_gi h (some v0) 9 33).bind fun x2 =>
    (am_gi h (some v0) 9 42).bind fun x3 =>
    (am_as h x1 0 x2 x3).bind fun h4 =>
    fX9_keep_154 (some v0) h4
  else
  if v1 = (1 : Int32) then
    (am_gr h (some v0) 9 35).bind fun x5 =>
    (am_gi h (some v0) 9 33).bind fun x6 =>
    (am_gi h (some v0) 9 42).bind fun x7 =>
    (am_as h x5 0 x6 x7).bind fun h8 =>
    fX9_keep_154 (some v0) h8
  else
  if v1 = (2 : Int32) then
    (am_gr h (some v0) 9 36).bind fun x9 =>
    (am_gi h (some v0) 9 33).bind fun x10 =>
    (am_gi h (some v0) 9 42).bind fun x11 =>
    (am_as h x9 0 x10 x11).bind fun h12 =>
    (am_gi h12 (some v0) 9 33).bind fun x13 =>
    (am_pi h12 (some v0) 9 33 (x13 + (1 : Int32))).bind fun h14 =>
    fX9_keep_154 (some v0) h14
  else
  if v1 = (3 : Int32) then
    (am_gi h (some v0) 9 42).bind fun x15 =>
    (am_pi h (some v0) 9 37 x15).bind fun h16 =>
    fX9_keep_154 (some v0) h16
  else
  if v1 = (4 : Int32) then
    (am_gi h (some v0) 9 42).bind fun x17 =>
    (am_pi h (some v0) 9 38 x17).bind fun h18 =>
    fX9_keep_154 (some v0) h18
  else
  if v1 = (5 : Int32) then
    (am_gi h (some v0) 9 42).bind fun x19 =>
    (am_pi h (some v0) 9 39 x19).bind fun h20 =>
    fX9_keep_154 (some v0) h20
  else
  (am_gr h (some v0) 9 41).bind fun x21 =>
  (am_gi h (some v0) 9 40).bind fun x22 =>
  (am_gi h (some v0) 9 42).bind fun x23 =>
  (am_as h x21 0 x22 x23).bind fun h24 =>
  (am_gi h24 (some v0) 9 40).bind fun x25 =>
  (am_pi h24 (some v0) 9 40 (x25 + (1 : Int32))).bind fun h26 =>
  fX9_keep_154 (some v0) h26
/-! DroppingBallsModel.readPage()V -/
def fX9_readPage_82 (k197 : Option Nat → Int32 → Int32 → Int32 → am_H → Option (am_H)) (v0 : Option Nat) (v2 : Int32) (v3 : Int32) (s0 : Int32) (h : am_H) : Option (am_H) :=
  k197 v0 s0 v2 v3 h
def fX9_readPage_248 (s0 : Option Nat) (s1 : Int32) (h : am_H) : Option (am_H) :=
  (am_pz h s0 9 32 s1).bind fun h1 =>
  some h1
def fX9_readPage_247 (k248 : Option Nat → Int32 → am_H → Option (am_H)) (s0 : Option Nat) (h : am_H) : Option (am_H) :=
  k248 s0 (0 : Int32) h
def fX9_readPage_207 (k21 : Option Nat → Int32 → Int32 → Int32 → am_H → Option (am_H)) (v0 : Option Nat) (v1 : Int32) (v3 : Int32) (s0 : Int32) (s1 : Int32) (h : am_H) : Option (am_H) :=
  k21 v0 v1 (s0 + s1) v3 h
def fX9_readPage_184 (k197 : Option Nat → Int32 → Int32 → Int32 → am_H → Option (am_H)) (v0 : Option Nat) (v1 : Int32) (v2 : Int32) (v5 : Int32) (s0 : Int32) (h : am_H) : Option (am_H) :=
  if s0 = 0 then
    k197 v0 v1 v2 s0 h
  else
  (am_rc h v0 9).bind fun b2 =>
  (fX9_keep b2 v1 h).bind fun y1 =>
  k197 v0 v5 v2 s0 y1
def fX9_readPage_70 (k197 : Option Nat → Int32 → Int32 → Int32 → am_H → Option (am_H)) (v0 : Option Nat) (v1 : Int32) (v2 : Int32) (s0 : Int32) (h : am_H) : Option (am_H) :=
  if s0 = 0 then
    (fX9_readPage_82 k197) v0 v2 s0 v1 h
  else
  (fX9_readPage_82 k197) v0 v2 s0 (v1 - (2 : Int32)) h
def fX9_readPage_212 (v0 : Option Nat) (v1 : Int32) (v2 : Int32) (h : am_H) : Option (am_H) :=
  (am_pi h v0 9 31 v2).bind fun h1 =>
  (am_gi h1 v0 9 24).bind fun x2 =>
  if v2 = x2 then
    if v1 = (6 : Int32) then
      (am_gi h1 v0 9 42).bind fun x3 =>
      (am_rc h1 v0 9).bind fun b5 =>
      (fX9_markAhead b5 h1).bind fun y4 =>
      if x3 ≤ y4.1 then
        (fX9_readPage_247 fX9_readPage_248) v0 y4.2
      else
      fX9_readPage_248 v0 (1 : Int32) y4.2
    else
    (fX9_readPage_247 fX9_readPage_248) v0 h1
  else
  (fX9_readPage_247 fX9_readPage_248) v0 h1
def fX9_readPage_197 (k21 : Option Nat → Int32 → Int32 → Int32 → am_H → Option (am_H)) (v0 : Option Nat) (v1 : Int32) (v2 : Int32) (v3 : Int32) (h : am_H) : Option (am_H) :=
  if v3 = 0 then
    (fX9_readPage_207 k21) v0 v1 v3 v2 (0 : Int32) h
  else
  (fX9_readPage_207 k21) v0 v1 v3 v2 (1 : Int32) h
def fX9_readPage_171 (k197 : Option Nat → Int32 → Int32 → Int32 → am_H → Option (am_H)) (v0 : Option Nat) (v1 : Int32) (v2 : Int32) (s0 : Int32) (h : am_H) : Option (am_H) :=
  if s0 = (-1 : Int32) then
    (fX9_readPage_184 k197) v0 v1 v2 s0 (0 : Int32) h
  else
  (fX9_readPage_184 k197) v0 v1 v2 s0 (1 : Int32) h
def fX9_readPage_146 (k197 : Option Nat → Int32 → Int32 → Int32 → am_H → Option (am_H)) (v0 : Option Nat) (v1 : Int32) (v2 : Int32) (v3 : Int32) (s0 : Option Nat) (s1 : Int32) (h : am_H) : Option (am_H) :=
  (am_pi h s0 9 42 s1).bind fun h1 =>
  k197 v0 v1 v2 v3 h1
def fX9_readPage_62 (k197 : Option Nat → Int32 → Int32 → Int32 → am_H → Option (am_H)) (v0 : Option Nat) (v1 : Int32) (v2 : Int32) (s0 : Int32) (s1 : Int32) (h : am_H) : Option (am_H) :=
  if s0 = s1 then
    (fX9_readPage_70 k197) v0 v1 v2 (1 : Int32) h
  else
  (fX9_readPage_70 k197) v0 v1 v2 (0 : Int32) h
def fX9_readPage_21_b (rec : Option Nat → Int32 → Int32 → Int32 → am_H → Option (am_H)) (v0 : Option Nat) (v1 : Int32) (v2 : Int32) (v3 : Int32) (h : am_H) : Option (am_H) :=
  (am_gi h v0 9 24).bind fun x1 =>
  if x1 ≤ v2 then
    fX9_readPage_212 v0 v1 v2 h
  else
  if v3 = 0 then
    fX9_readPage_212 v0 v1 v2 h
  else
  (am_gr h v0 9 25).bind fun x2 =>
  (am_al h x2 1 v2).bind fun x3 =>
  if v1 ≤ (6 : Int32) then
    (fX9_isDigit x3 h).bind fun y4 =>
    if y4.1 = 0 then
      (am_gi y4.2 v0 9 42).bind fun x5 =>
      if x5 = (-1 : Int32) then
        (fX9_readPage_171 (fX9_readPage_197 rec)) v0 v1 v2 (-1 : Int32) y4.2
      else
      (am_rc y4.2 v0 9).bind fun b7 =>
      (fX9_behind b7 v1 x3 y4.2).bind fun y6 =>
      (fX9_readPage_171 (fX9_readPage_197 rec)) v0 v1 v2 y6.1 y6.2
    else
    (am_rc y4.2 v0 9).bind fun b9 =>
    (fX9_fits b9 v1 (x3 - (48 : Int32)) y4.2).bind fun y8 =>
    if y8.1 = 0 then
      (am_gi y8.2 v0 9 42).bind fun x12 =>
      (fX9_readPage_146 (fX9_readPage_197 rec)) v0 v1 v2 y8.1 v0 x12 y8.2
    else
    (am_gi y8.2 v0 9 42).bind fun x10 =>
    if x10 = (-1 : Int32) then
      (fX9_readPage_146 (fX9_readPage_197 rec)) v0 v1 v2 y8.1 v0 (x3 - (48 : Int32)) y8.2
    else
    (am_gi y8.2 v0 9 42).bind fun x11 =>
    (fX9_readPage_146 (fX9_readPage_197 rec)) v0 v1 v2 y8.1 v0 ((((10 : Int32) * x11) + x3) - (48 : Int32)) y8.2
  else
  if v1 = (7 : Int32) then
    (fX9_readPage_62 (fX9_readPage_197 rec)) v0 v1 v2 x3 (115 : Int32) h
  else
  (fX9_readPage_62 (fX9_readPage_197 rec)) v0 v1 v2 x3 (109 : Int32) h
def fX9_readPage_21 : Nat → Option Nat → Int32 → Int32 → Int32 → am_H → Option (am_H)
  | 0, _, _, _, _, _ => none
  | n + 1, v0, v1, v2, v3, h => fX9_readPage_21_b  (fX9_readPage_21  n) v0 v1 v2 v3 h
def fX9_readPage (v0 : Nat) (h : am_H) : Option (am_H) :=
  (am_pi h (some v0) 9 33 (0 : Int32)).bind fun h1 =>
  (am_pi h1 (some v0) 9 40 (0 : Int32)).bind fun h2 =>
  (am_pi h2 (some v0) 9 42 (-1 : Int32)).bind fun h3 =>
  (fX9_readPage_21 am_fu) (some v0) (0 : Int32) (0 : Int32) (1 : Int32) h3
/-! DroppingBallsModel.fault()I -/
def fX9_fault (v0 : Nat) (h : am_H) : Option (Int32 × am_H) :=
  (am_rc h (some v0) 9).bind fun b2 =>
  (fX9_readPage b2 h).bind fun y1 =>
  (am_gi y1 (some v0) 9 31).bind fun x3 =>
  some (x3, y1)
/-! DroppingBalls$Clock.copyFrom(LDroppingBalls$Clock;)V -/
def fX0_copyFrom_103_b (rec : Option Nat → Option Nat → Int32 → am_H → Option (am_H)) (v0 : Option Nat) (v1 : Option Nat) (v2 : Int32) (h : am_H) : Option (am_H) :=
  if (12 : Int32) ≤ v2 then
    some h
  else
  (am_gr h v0 0 9).bind fun x1 =>
  (am_gr h v1 0 9).bind fun x2 =>
  (am_al h x2 0 v2).bind fun x3 =>
  (am_as h x1 0 v2 x3).bind fun h4 =>
  rec v0 v1 (v2 + (1 : Int32)) h4
def fX0_copyFrom_103 : Nat → Option Nat → Option Nat → Int32 → am_H → Option (am_H)
  | 0, _, _, _, _ => none
  | n + 1, v0, v1, v2, h => fX0_copyFrom_103_b  (fX0_copyFrom_103  n) v0 v1 v2 h
def fX0_copyFrom_10_b (rec : Option Nat → Option Nat → Int32 → am_H → Option (am_H)) (v0 : Option Nat) (v1 : Option Nat) (v2 : Int32) (h : am_H) : Option (am_H) :=
  if (3 : Int32) ≤ v2 then
    (am_gi h v1 0 5).bind fun x1 =>
    (am_pi h v0 0 5 x1).bind fun h2 =>
    (am_gi h2 v1 0 6).bind fun x3 =>
    (am_pi h2 v0 0 6 x3).bind fun h4 =>
    (am_gi h4 v1 0 7).bind fun x5 =>
    (am_pi h4 v0 0 7 x5).bind fun h6 =>
    (am_gi h6 v1 0 8).bind fun x7 =>
    (am_pi h6 v0 0 8 x7).bind fun h8 =>
    (fX0_copyFrom_103 am_fu) v0 v1 (0 : Int32) h8
  else
  (am_gr h v0 0 1).bind fun x9 =>
  (am_gr h v1 0 1).bind fun x10 =>
  (am_al h x10 0 v2).bind fun x11 =>
  (am_as h x9 0 v2 x11).bind fun h12 =>
  (am_gr h12 v0 0 2).bind fun x13 =>
  (am_gr h12 v1 0 2).bind fun x14 =>
  (am_al h12 x14 0 v2).bind fun x15 =>
  (am_as h12 x13 0 v2 x15).bind fun h16 =>
  (am_gr h16 v0 0 3).bind fun x17 =>
  (am_gr h16 v1 0 3).bind fun x18 =>
  (am_al h16 x18 0 v2).bind fun x19 =>
  (am_as h16 x17 0 v2 x19).bind fun h20 =>
  (am_gr h20 v0 0 4).bind fun x21 =>
  (am_gr h20 v1 0 4).bind fun x22 =>
  (am_al h20 x22 0 v2).bind fun x23 =>
  (am_as h20 x21 0 v2 x23).bind fun h24 =>
  rec v0 v1 (v2 + (1 : Int32)) h24
def fX0_copyFrom_10 : Nat → Option Nat → Option Nat → Int32 → am_H → Option (am_H)
  | 0, _, _, _, _ => none
  | n + 1, v0, v1, v2, h => fX0_copyFrom_10_b  (fX0_copyFrom_10  n) v0 v1 v2 h
def fX0_copyFrom (v0 : Nat) (v1 : Option Nat) (h : am_H) : Option (am_H) :=
  (am_gi h v1 0 0).bind fun x1 =>
  (am_pi h (some v0) 0 0 x1).bind fun h2 =>
  (fX0_copyFrom_10 am_fu) (some v0) v1 (0 : Int32) h2
/-! DroppingBalls.clock()I -/
def fX8_clock (v0 : Nat) (h : am_H) : Option (Int32 × am_H) :=
  (am_gr h (some v0) 8 6).bind fun x1 =>
  (am_gr h (some v0) 8 11).bind fun x2 =>
  (am_rc h x1 3).bind fun b4 =>
  (fX3_readClock b4 x2 h).bind fun y3 =>
  if y3.1 = 0 then
    some ((-103 : Int32), y3.2)
  else
  (am_gi y3.2 (some v0) 8 3).bind fun x5 =>
  if x5 < (4 : Int32) then
    (am_nwo y3.2 0 df_0).bind fun y6 =>
    (fX0_init y6.1 y6.2).bind fun y7 =>
    (am_gr y7 (some v0) 8 11).bind fun x8 =>
    (am_rc y7 (some y6.1) 0).bind fun b10 =>
    (fX0_copyFrom b10 x8 y7).bind fun y9 =>
    (am_gr y9 (some v0) 8 0).bind fun x11 =>
    (am_gi y9 (some v0) 8 3).bind fun x12 =>
    (am_asr y9 x11 4 x12 (some y6.1)).bind fun h13 =>
    (am_gi h13 (some v0) 8 3).bind fun x14 =>
    (am_pi h13 (some v0) 8 3 (x14 + (1 : Int32))).bind fun h15 =>
    (am_gr h15 (some v0) 8 6).bind fun x16 =>
    (am_pi h15 x16 3 1 (0 : Int32)).bind fun h17 =>
    (am_gi h17 (some v0) 8 3).bind fun x18 =>
    some (x18 - (1 : Int32), h17)
  else
  some ((-104 : Int32), y3.2)
/-! DroppingBallsModel.clock()I -/
def fX9_clock_171_b (rec : Option Nat → Int32 → am_H → Option (Int32 × am_H)) (v0 : Option Nat) (v1 : Int32) (h : am_H) : Option (Int32 × am_H) :=
  (am_gi h v0 9 40).bind fun x1 =>
  if x1 ≤ v1 then
    (am_gi h v0 9 0).bind fun x2 =>
    (am_pi h v0 9 0 (x2 + (1 : Int32))).bind fun h3 =>
    (am_pi h3 v0 9 24 (0 : Int32)).bind fun h4 =>
    (am_gi h4 v0 9 0).bind fun x5 =>
    some (x5 - (1 : Int32), h4)
  else
  (am_gr h v0 9 9).bind fun x6 =>
  (am_gi h v0 9 0).bind fun x7 =>
  (am_gr h v0 9 41).bind fun x8 =>
  (am_al h x8 0 v1).bind fun x9 =>
  (am_as h x6 0 (((12 : Int32) * x7) + v1) x9).bind fun h10 =>
  rec v0 (v1 + (1 : Int32)) h10
def fX9_clock_171 : Nat → Option Nat → Int32 → am_H → Option (Int32 × am_H)
  | 0, _, _, _ => none
  | n + 1, v0, v1, h => fX9_clock_171_b  (fX9_clock_171  n) v0 v1 h
def fX9_clock_46_b (rec : Option Nat → Int32 → am_H → Option (Int32 × am_H)) (v0 : Option Nat) (v1 : Int32) (h : am_H) : Option (Int32 × am_H) :=
  (am_gi h v0 9 33).bind fun x1 =>
  if x1 ≤ v1 then
    (am_gr h v0 9 5).bind fun x2 =>
    (am_gi h v0 9 0).bind fun x3 =>
    (am_gi h v0 9 37).bind fun x4 =>
    (am_as h x2 0 x3 x4).bind fun h5 =>
    (am_gr h5 v0 9 6).bind fun x6 =>
    (am_gi h5 v0 9 0).bind fun x7 =>
    (am_gi h5 v0 9 38).bind fun x8 =>
    (am_as h5 x6 0 x7 x8).bind fun h9 =>
    (am_gr h9 v0 9 7).bind fun x10 =>
    (am_gi h9 v0 9 0).bind fun x11 =>
    (am_gi h9 v0 9 39).bind fun x12 =>
    (am_as h9 x10 0 x11 x12).bind fun h13 =>
    (am_gr h13 v0 9 8).bind fun x14 =>
    (am_gi h13 v0 9 0).bind fun x15 =>
    (am_gi h13 v0 9 40).bind fun x16 =>
    (am_as h13 x14 0 x15 x16).bind fun h17 =>
    (fX9_clock_171 am_fu) v0 (0 : Int32) h17
  else
  (am_gr h v0 9 2).bind fun x18 =>
  (am_gi h v0 9 0).bind fun x19 =>
  (am_gr h v0 9 34).bind fun x20 =>
  (am_al h x20 0 v1).bind fun x21 =>
  (am_as h x18 0 (((3 : Int32) * x19) + v1) x21).bind fun h22 =>
  (am_gr h22 v0 9 3).bind fun x23 =>
  (am_gi h22 v0 9 0).bind fun x24 =>
  (am_gr h22 v0 9 35).bind fun x25 =>
  (am_al h22 x25 0 v1).bind fun x26 =>
  (am_as h22 x23 0 (((3 : Int32) * x24) + v1) x26).bind fun h27 =>
  (am_gr h27 v0 9 4).bind fun x28 =>
  (am_gi h27 v0 9 0).bind fun x29 =>
  (am_gr h27 v0 9 36).bind fun x30 =>
  (am_al h27 x30 0 v1).bind fun x31 =>
  (am_as h27 x28 0 (((3 : Int32) * x29) + v1) x31).bind fun h32 =>
  rec v0 (v1 + (1 : Int32)) h32
def fX9_clock_46 : Nat → Option Nat → Int32 → am_H → Option (Int32 × am_H)
  | 0, _, _, _ => none
  | n + 1, v0, v1, h => fX9_clock_46_b  (fX9_clock_46  n) v0 v1 h
def fX9_clock (v0 : Nat) (h : am_H) : Option (Int32 × am_H) :=
  (am_rc h (some v0) 9).bind fun b2 =>
  (fX9_readPage b2 h).bind fun y1 =>
  (am_gi y1 (some v0) 9 32).bind fun x3 =>
  if x3 = 0 then
    some ((-103 : Int32), y1)
  else
  (am_gi y1 (some v0) 9 0).bind fun x4 =>
  if x4 = (4 : Int32) then
    some ((-104 : Int32), y1)
  else
  (am_rc y1 (some v0) 9).bind fun b6 =>
  (fX9_keep b6 (6 : Int32) y1).bind fun y5 =>
  (am_gr y5 (some v0) 9 1).bind fun x7 =>
  (am_gi y5 (some v0) 9 0).bind fun x8 =>
  (am_gi y5 (some v0) 9 33).bind fun x9 =>
  (am_as y5 x7 0 x8 x9).bind fun h10 =>
  (fX9_clock_46 am_fu) (some v0) (0 : Int32) h10
/-! DroppingBalls.clockOf(I)LDroppingBalls$Clock; -/
def fX8_clockOf (v0 : Nat) (v1 : Int32) (h : am_H) : Option (Option Nat × am_H) :=
  (am_gi h (some v0) 8 3).bind fun x1 =>
  (fX8_isIn v1 (0 : Int32) (x1 - (1 : Int32)) h).bind fun y2 =>
  if y2.1 = 0 then
    some (none, y2.2)
  else
  if (4 : Int32) ≤ v1 then
    some (none, y2.2)
  else
  (am_gr y2.2 (some v0) 8 0).bind fun x3 =>
  (am_alr y2.2 x3 4 v1).bind fun x4 =>
  some (x4, y2.2)
/-! DroppingBalls$Clock.measure(I)I -/
def fX0_measure (v0 : Nat) (v1 : Int32) (h : am_H) : Option (Int32 × am_H) :=
  if v1 = (0 : Int32) then
    (am_gi h (some v0) 0 0).bind fun x1 =>
    some (x1, h)
  else
  if v1 = (1 : Int32) then
    (am_gi h (some v0) 0 5).bind fun x2 =>
    some (x2, h)
  else
  if v1 = (2 : Int32) then
    (am_gi h (some v0) 0 6).bind fun x3 =>
    some (x3, h)
  else
  if v1 = (3 : Int32) then
    (am_gi h (some v0) 0 7).bind fun x4 =>
    some (x4, h)
  else
  (am_gi h (some v0) 0 8).bind fun x5 =>
  some (x5, h)
/-! DroppingBalls$Clock.hasBall(I)Z -/
def fX0_hasBall (v0 : Nat) (v1 : Int32) (h : am_H) : Option (Int32 × am_H) :=
  if v1 < 0 then
    am_zr (0 : Int32) h
  else
  (am_gi h (some v0) 0 8).bind fun x1 =>
  if x1 ≤ v1 then
    am_zr (0 : Int32) h
  else
  if (12 : Int32) ≤ v1 then
    am_zr (0 : Int32) h
  else
  am_zr (1 : Int32) h
/-! DroppingBalls$Clock.markOf(I)I -/
def fX0_markOf (v0 : Nat) (v1 : Int32) (h : am_H) : Option (Int32 × am_H) :=
  (am_rc h (some v0) 0).bind fun b2 =>
  (fX0_hasBall b2 v1 h).bind fun y1 =>
  if y1.1 = 0 then
    some ((-1 : Int32), y1.2)
  else
  (am_gr y1.2 (some v0) 0 9).bind fun x3 =>
  (am_al y1.2 x3 0 v1).bind fun x4 =>
  some (x4, y1.2)
/-! DroppingBalls$Clock.hasVessel(I)Z -/
def fX0_hasVessel (v0 : Nat) (v1 : Int32) (h : am_H) : Option (Int32 × am_H) :=
  if v1 < 0 then
    am_zr (0 : Int32) h
  else
  (am_gi h (some v0) 0 0).bind fun x1 =>
  if x1 ≤ v1 then
    am_zr (0 : Int32) h
  else
  if (3 : Int32) ≤ v1 then
    am_zr (0 : Int32) h
  else
  am_zr (1 : Int32) h
/-! DroppingBalls$Clock.vesselMeasure(II)I -/
def fX0_vesselMeasure (v0 : Nat) (v1 : Int32) (v2 : Int32) (h : am_H) : Option (Int32 × am_H) :=
  (am_rc h (some v0) 0).bind fun b2 =>
  (fX0_hasVessel b2 v1 h).bind fun y1 =>
  if y1.1 = 0 then
    some ((-1 : Int32), y1.2)
  else
  if v2 = (0 : Int32) then
    (am_gr y1.2 (some v0) 0 1).bind fun x3 =>
    (am_al y1.2 x3 0 v1).bind fun x4 =>
    some (x4, y1.2)
  else
  if v2 = (1 : Int32) then
    (am_gr y1.2 (some v0) 0 2).bind fun x5 =>
    (am_al y1.2 x5 0 v1).bind fun x6 =>
    some (x6, y1.2)
  else
  (am_gr y1.2 (some v0) 0 3).bind fun x7 =>
  (am_al y1.2 x7 0 v1).bind fun x8 =>
  some (x8, y1.2)
/-! DroppingBalls.told(II)I -/
def fX8_told (v0 : Nat) (v1 : Int32) (v2 : Int32) (h : am_H) : Option (Int32 × am_H) :=
  (am_rc h (some v0) 8).bind fun b2 =>
  (fX8_clockOf b2 v1 h).bind fun y1 =>
  if y1.1 = none then
    some ((-101 : Int32), y1.2)
  else
  (fX8_isIn v2 (0 : Int32) (4 : Int32) y1.2).bind fun y3 =>
  if y3.1 = 0 then
    (fX8_isIn v2 (40 : Int32) (51 : Int32) y3.2).bind fun y4 =>
    if y4.1 = 0 then
      (fX8_isIn v2 (10 : Int32) (32 : Int32) y4.2).bind fun y5 =>
      if y5.1 = 0 then
        some ((-102 : Int32), y5.2)
      else
      if (10 : Int32) = 0 then none else
      if (v2 - v2 / (10 : Int32) * (10 : Int32)) ≤ (2 : Int32) then
        if (10 : Int32) = 0 then none else
        if (10 : Int32) = 0 then none else
        (am_rc y5.2 y1.1 0).bind fun b7 =>
        (fX0_vesselMeasure b7 ((v2 / (10 : Int32)) - (1 : Int32)) (v2 - v2 / (10 : Int32) * (10 : Int32)) y5.2).bind fun y6 =>
        some (y6.1, y6.2)
      else
      some ((-102 : Int32), y5.2)
    else
    (am_rc y4.2 y1.1 0).bind fun b9 =>
    (fX0_markOf b9 (v2 - (40 : Int32)) y4.2).bind fun y8 =>
    some (y8.1, y8.2)
  else
  (am_rc y3.2 y1.1 0).bind fun b11 =>
  (fX0_measure b11 v2 y3.2).bind fun y10 =>
  some (y10.1, y10.2)
/-! DroppingBallsModel.isClock(I)Z -/
def fX9_isClock (v0 : Nat) (v1 : Int32) (h : am_H) : Option (Int32 × am_H) :=
  (am_gi h (some v0) 9 0).bind fun x1 =>
  (fX9_within v1 (0 : Int32) (x1 - (1 : Int32)) h).bind fun y2 =>
  am_zr y2.1 y2.2
/-! DroppingBallsModel.isBall(II)Z -/
def fX9_isBall (v0 : Nat) (v1 : Int32) (v2 : Int32) (h : am_H) : Option (Int32 × am_H) :=
  (am_gr h (some v0) 9 8).bind fun x1 =>
  (am_al h x1 0 v1).bind fun x2 =>
  (fX9_within v2 (0 : Int32) (x2 - (1 : Int32)) h).bind fun y3 =>
  am_zr y3.1 y3.2
/-! DroppingBallsModel.toldOf(II)I -/
def fX9_toldOf (v0 : Nat) (v1 : Int32) (v2 : Int32) (h : am_H) : Option (Int32 × am_H) :=
  if (5 : Int32) ≤ v2 then
    if v2 ≤ (39 : Int32) then
      if (10 : Int32) = 0 then none else
      (am_gr h (some v0) 9 1).bind fun x1 =>
      (am_al h x1 0 v1).bind fun x2 =>
      if ((v2 / (10 : Int32)) - (1 : Int32)) < x2 then
        if (10 : Int32) = 0 then none else
        if (v2 - v2 / (10 : Int32) * (10 : Int32)) = 0 then
          (am_gr h (some v0) 9 2).bind fun x7 =>
          (am_al h x7 0 (((3 : Int32) * v1) + ((v2 / (10 : Int32)) - (1 : Int32)))).bind fun x8 =>
          some (x8, h)
        else
        if (10 : Int32) = 0 then none else
        if (v2 - v2 / (10 : Int32) * (10 : Int32)) = (1 : Int32) then
          (am_gr h (some v0) 9 3).bind fun x5 =>
          (am_al h x5 0 (((3 : Int32) * v1) + ((v2 / (10 : Int32)) - (1 : Int32)))).bind fun x6 =>
          some (x6, h)
        else
        (am_gr h (some v0) 9 4).bind fun x3 =>
        (am_al h x3 0 (((3 : Int32) * v1) + ((v2 / (10 : Int32)) - (1 : Int32)))).bind fun x4 =>
        some (x4, h)
      else
      some ((-1 : Int32), h)
    else
    (am_rc h (some v0) 9).bind fun b10 =>
    (fX9_isBall b10 v1 (v2 - (40 : Int32)) h).bind fun y9 =>
    if y9.1 = 0 then
      some ((-1 : Int32), y9.2)
    else
    (am_gr y9.2 (some v0) 9 9).bind fun x11 =>
    (am_al y9.2 x11 0 ((((12 : Int32) * v1) + v2) - (40 : Int32))).bind fun x12 =>
    some (x12, y9.2)
  else
  if v2 = 0 then
    (am_gr h (some v0) 9 1).bind fun x21 =>
    (am_al h x21 0 v1).bind fun x22 =>
    some (x22, h)
  else
  if v2 = (1 : Int32) then
    (am_gr h (some v0) 9 5).bind fun x19 =>
    (am_al h x19 0 v1).bind fun x20 =>
    some (x20, h)
  else
  if v2 = (2 : Int32) then
    (am_gr h (some v0) 9 6).bind fun x17 =>
    (am_al h x17 0 v1).bind fun x18 =>
    some (x18, h)
  else
  if v2 = (3 : Int32) then
    (am_gr h (some v0) 9 7).bind fun x15 =>
    (am_al h x15 0 v1).bind fun x16 =>
    some (x16, h)
  else
  (am_gr h (some v0) 9 8).bind fun x13 =>
  (am_al h x13 0 v1).bind fun x14 =>
  some (x14, h)
/-! DroppingBallsModel.told(II)I -/
def fX9_told_55 (v0 : Option Nat) (v1 : Int32) (v2 : Int32) (s0 : Int32) (h : am_H) : Option (Int32 × am_H) :=
  if s0 = 0 then
    some ((-102 : Int32), h)
  else
  (am_rc h v0 9).bind fun b2 =>
  (fX9_toldOf b2 v1 v2 h).bind fun y1 =>
  some (y1.1, y1.2)
def fX9_told_50 (k55 : Option Nat → Int32 → Int32 → Int32 → am_H → Option (Int32 × am_H)) (v0 : Option Nat) (v1 : Int32) (v2 : Int32) (h : am_H) : Option (Int32 × am_H) :=
  k55 v0 v1 v2 (1 : Int32) h
def fX9_told_39 (k50 : Option Nat → Int32 → Int32 → am_H → Option (Int32 × am_H)) (k55 : Option Nat → Int32 → Int32 → Int32 → am_H → Option (Int32 × am_H)) (v0 : Option Nat) (v1 : Int32) (v2 : Int32) (h : am_H) : Option (Int32 × am_H) :=
  (fX9_within v2 (40 : Int32) (51 : Int32) h).bind fun y1 =>
  if y1.1 = 0 then
    k55 v0 v1 v2 (0 : Int32) y1.2
  else
  k50 v0 v1 v2 y1.2
def fX9_told (v0 : Nat) (v1 : Int32) (v2 : Int32) (h : am_H) : Option (Int32 × am_H) :=
  (am_rc h (some v0) 9).bind fun b2 =>
  (fX9_isClock b2 v1 h).bind fun y1 =>
  if y1.1 = 0 then
    some ((-101 : Int32), y1.2)
  else
  (fX9_within v2 (0 : Int32) (4 : Int32) y1.2).bind fun y3 =>
  if y3.1 = 0 then
    (fX9_within v2 (10 : Int32) (32 : Int32) y3.2).bind fun y4 =>
    if y4.1 = 0 then
      (fX9_told_39 (fX9_told_50 fX9_told_55) fX9_told_55) (some v0) v1 v2 y4.2
    else
    if (10 : Int32) = 0 then none else
    if (v2 - v2 / (10 : Int32) * (10 : Int32)) < (3 : Int32) then
      (fX9_told_50 fX9_told_55) (some v0) v1 v2 y4.2
    else
    (fX9_told_39 (fX9_told_50 fX9_told_55) fX9_told_55) (some v0) v1 v2 y4.2
  else
  (fX9_told_50 fX9_told_55) (some v0) v1 v2 y3.2
/-! DroppingBalls.isSeason(I)Z -/
def fX8_isSeason (v0 : Int32) (h : am_H) : Option (Int32 × am_H) :=
  (fX8_isIn v0 (0 : Int32) (3 : Int32) h).bind fun y1 =>
  am_zr y1.1 y1.2
/-! DroppingBalls.exchange([III)I -/
def fX8_exchange (v0 : Option Nat) (v1 : Int32) (v2 : Int32) (h : am_H) : Option (Int32 × am_H) :=
  (am_an h v0).bind fun x1 =>
  (fX8_isIn v1 (0 : Int32) (x1 - (1 : Int32)) h).bind fun y2 =>
  if y2.1 = 0 then
    some ((-1 : Int32), y2.2)
  else
  (am_al y2.2 v0 0 v1).bind fun x3 =>
  (am_as y2.2 v0 0 v1 v2).bind fun h4 =>
  some (x3, h4)
/-! DroppingBalls.season(III)I -/
def fX8_season_39 (v0 : Option Nat) (v1 : Int32) (v2 : Int32) (v3 : Int32) (h : am_H) : Option (Int32 × am_H) :=
  if v2 = (1 : Int32) then
    (fX8_isIn v3 (24 : Int32) (72 : Int32) h).bind fun y1 =>
    if y1.1 = 0 then
      some ((-102 : Int32), y1.2)
    else
    (am_gr y1.2 v0 8 7).bind fun x2 =>
    (am_gr y1.2 x2 6 1).bind fun x3 =>
    (fX8_exchange x3 v1 v3 y1.2).bind fun y4 =>
    some (y4.1, y4.2)
  else
  some ((-102 : Int32), h)
def fX8_season (v0 : Nat) (v1 : Int32) (v2 : Int32) (v3 : Int32) (h : am_H) : Option (Int32 × am_H) :=
  (fX8_isSeason v1 h).bind fun y1 =>
  if y1.1 = 0 then
    some ((-101 : Int32), y1.2)
  else
  if v2 = 0 then
    (fX8_isIn v3 (50 : Int32) (150 : Int32) y1.2).bind fun y2 =>
    if y2.1 = 0 then
      fX8_season_39 (some v0) v1 v2 v3 y2.2
    else
    (am_gr y2.2 (some v0) 8 7).bind fun x3 =>
    (am_gr y2.2 x3 6 0).bind fun x4 =>
    (fX8_exchange x4 v1 v3 y2.2).bind fun y5 =>
    some (y5.1, y5.2)
  else
  fX8_season_39 (some v0) v1 v2 v3 y1.2
/-! DroppingBallsModel.isSeason(I)Z -/
def fX9_isSeason (v0 : Int32) (h : am_H) : Option (Int32 × am_H) :=
  (fX9_within v0 (0 : Int32) (3 : Int32) h).bind fun y1 =>
  am_zr y1.1 y1.2
/-! DroppingBallsModel.season(III)I -/
def fX9_season_71 (v0 : Option Nat) (v1 : Int32) (v2 : Int32) (v3 : Int32) (s0 : Int32) (h : am_H) : Option (Int32 × am_H) :=
  if v2 = 0 then
    (am_gr h v0 9 10).bind fun x3 =>
    (am_as h x3 0 v1 v3).bind fun h4 =>
    some (s0, h4)
  else
  (am_gr h v0 9 11).bind fun x1 =>
  (am_as h x1 0 v1 v3).bind fun h2 =>
  some (s0, h2)
def fX9_season_43 (v0 : Option Nat) (v1 : Int32) (v2 : Int32) (v3 : Int32) (s0 : Int32) (s1 : Int32) (s2 : Int32) (h : am_H) : Option (Int32 × am_H) :=
  (fX9_within s0 s1 s2 h).bind fun y1 =>
  if y1.1 = 0 then
    some ((-102 : Int32), y1.2)
  else
  if v2 = 0 then
    (am_gr y1.2 v0 9 10).bind fun x4 =>
    (am_al y1.2 x4 0 v1).bind fun x5 =>
    fX9_season_71 v0 v1 v2 v3 x5 y1.2
  else
  (am_gr y1.2 v0 9 11).bind fun x2 =>
  (am_al y1.2 x2 0 v1).bind fun x3 =>
  fX9_season_71 v0 v1 v2 v3 x3 y1.2
def fX9_season_31 (v0 : Option Nat) (v1 : Int32) (v2 : Int32) (v3 : Int32) (s0 : Int32) (s1 : Int32) (h : am_H) : Option (Int32 × am_H) :=
  if v2 = 0 then
    fX9_season_43 v0 v1 v2 v3 s0 s1 (150 : Int32) h
  else
  fX9_season_43 v0 v1 v2 v3 s0 s1 (72 : Int32) h
def fX9_season (v0 : Nat) (v1 : Int32) (v2 : Int32) (v3 : Int32) (h : am_H) : Option (Int32 × am_H) :=
  (fX9_isSeason v1 h).bind fun y1 =>
  if y1.1 = 0 then
    some ((-101 : Int32), y1.2)
  else
  (fX9_within v2 (0 : Int32) (1 : Int32) y1.2).bind fun y2 =>
  if y2.1 = 0 then
    some ((-102 : Int32), y2.2)
  else
  if v2 = 0 then
    fX9_season_31 (some v0) v1 v2 v3 v3 (50 : Int32) y2.2
  else
  fX9_season_31 (some v0) v1 v2 v3 v3 (24 : Int32) y2.2
/-! DroppingBalls.isKind(I)Z -/
def fX8_isKind (v0 : Int32) (h : am_H) : Option (Int32 × am_H) :=
  (fX8_isIn v0 (0 : Int32) (4 : Int32) h).bind fun y1 =>
  am_zr y1.1 y1.2
/-! DroppingBalls.isTick(I)Z -/
def fX8_isTick (v0 : Int32) (h : am_H) : Option (Int32 × am_H) :=
  (fX8_isIn v0 (0 : Int32) (95 : Int32) h).bind fun y1 =>
  am_zr y1.1 y1.2
/-! DroppingBalls$Fault.become(IIII)V -/
def fX2_become (v0 : Nat) (v1 : Int32) (v2 : Int32) (v3 : Int32) (v4 : Int32) (h : am_H) : Option (am_H) :=
  (am_pi h (some v0) 2 0 v1).bind fun h1 =>
  (am_pi h1 (some v0) 2 1 v2).bind fun h2 =>
  (am_pi h2 (some v0) 2 2 v3).bind fun h3 =>
  (am_pi h3 (some v0) 2 3 v4).bind fun h4 =>
  some h4
/-! DroppingBalls.faulty(IIII)I -/
def fX8_faulty (v0 : Nat) (v1 : Int32) (v2 : Int32) (v3 : Int32) (v4 : Int32) (h : am_H) : Option (Int32 × am_H) :=
  (fX8_isKind v1 h).bind fun y1 =>
  if y1.1 = 0 then
    some ((-102 : Int32), y1.2)
  else
  (fX8_isIn v2 (0 : Int32) (2 : Int32) y1.2).bind fun y2 =>
  if y2.1 = 0 then
    some ((-102 : Int32), y2.2)
  else
  (fX8_isIn v3 (1 : Int32) (20 : Int32) y2.2).bind fun y3 =>
  if y3.1 = 0 then
    some ((-102 : Int32), y3.2)
  else
  (fX8_isTick v4 y3.2).bind fun y4 =>
  if y4.1 = 0 then
    some ((-102 : Int32), y4.2)
  else
  (am_gi y4.2 (some v0) 8 4).bind fun x5 =>
  if x5 < (8 : Int32) then
    (am_nwo y4.2 2 df_2).bind fun y6 =>
    (fX2_init y6.1 y6.2).bind fun y7 =>
    (am_rc y7 (some y6.1) 2).bind fun b9 =>
    (fX2_become b9 v1 v2 v3 v4 y7).bind fun y8 =>
    (am_gr y8 (some v0) 8 1).bind fun x10 =>
    (am_gi y8 (some v0) 8 4).bind fun x11 =>
    (am_asr y8 x10 5 x11 (some y6.1)).bind fun h12 =>
    (am_gi h12 (some v0) 8 4).bind fun x13 =>
    (am_pi h12 (some v0) 8 4 (x13 + (1 : Int32))).bind fun h14 =>
    (am_gi h14 (some v0) 8 4).bind fun x15 =>
    some (x15 - (1 : Int32), h14)
  else
  some ((-104 : Int32), y4.2)
/-! DroppingBallsModel.faulty(IIII)I -/
def fX9_faulty (v0 : Nat) (v1 : Int32) (v2 : Int32) (v3 : Int32) (v4 : Int32) (h : am_H) : Option (Int32 × am_H) :=
  (fX9_within v1 (0 : Int32) (4 : Int32) h).bind fun y1 =>
  if y1.1 = 0 then
    some ((-102 : Int32), y1.2)
  else
  (fX9_within v2 (0 : Int32) (2 : Int32) y1.2).bind fun y2 =>
  if y2.1 = 0 then
    some ((-102 : Int32), y2.2)
  else
  (fX9_within v3 (1 : Int32) (20 : Int32) y2.2).bind fun y3 =>
  if y3.1 = 0 then
    some ((-102 : Int32), y3.2)
  else
  (fX9_within v4 (0 : Int32) (95 : Int32) y3.2).bind fun y4 =>
  if y4.1 = 0 then
    some ((-102 : Int32), y4.2)
  else
  (am_gi y4.2 (some v0) 9 12).bind fun x5 =>
  if x5 = (8 : Int32) then
    some ((-104 : Int32), y4.2)
  else
  (am_gr y4.2 (some v0) 9 13).bind fun x6 =>
  (am_gi y4.2 (some v0) 9 12).bind fun x7 =>
  (am_as y4.2 x6 0 x7 v1).bind fun h8 =>
  (am_gr h8 (some v0) 9 14).bind fun x9 =>
  (am_gi h8 (some v0) 9 12).bind fun x10 =>
  (am_as h8 x9 0 x10 v2).bind fun h11 =>
  (am_gr h11 (some v0) 9 15).bind fun x12 =>
  (am_gi h11 (some v0) 9 12).bind fun x13 =>
  (am_as h11 x12 0 x13 v3).bind fun h14 =>
  (am_gr h14 (some v0) 9 16).bind fun x15 =>
  (am_gi h14 (some v0) 9 12).bind fun x16 =>
  (am_as h14 x15 0 x16 v4).bind fun h17 =>
  (am_gi h17 (some v0) 9 12).bind fun x18 =>
  (am_pi h17 (some v0) 9 12 (x18 + (1 : Int32))).bind fun h19 =>
  (am_gi h19 (some v0) 9 12).bind fun x20 =>
  some (x20 - (1 : Int32), h19)
/-! DroppingBalls.faultOf(I)LDroppingBalls$Fault; -/
def fX8_faultOf (v0 : Nat) (v1 : Int32) (h : am_H) : Option (Option Nat × am_H) :=
  (am_gi h (some v0) 8 4).bind fun x1 =>
  (fX8_isIn v1 (0 : Int32) (x1 - (1 : Int32)) h).bind fun y2 =>
  if y2.1 = 0 then
    some (none, y2.2)
  else
  if (8 : Int32) ≤ v1 then
    some (none, y2.2)
  else
  (am_gr y2.2 (some v0) 8 1).bind fun x3 =>
  (am_alr y2.2 x3 5 v1).bind fun x4 =>
  some (x4, y2.2)
/-! DroppingBalls.isFaultOfKind(II)Z -/
def fX8_isFaultOfKind (v0 : Int32) (v1 : Int32) (h : am_H) : Option (Int32 × am_H) :=
  if v1 = 0 then
    am_zr (1 : Int32) h
  else
  if v1 = v0 then
    am_zr (1 : Int32) h
  else
  if v0 = (2 : Int32) then
    if v1 = (1 : Int32) then
      am_zr (1 : Int32) h
    else
    am_zr (0 : Int32) h
  else
  am_zr (0 : Int32) h
/-! DroppingBalls.as(II)I -/
def fX8_as (v0 : Nat) (v1 : Int32) (v2 : Int32) (h : am_H) : Option (Int32 × am_H) :=
  (am_gi h (some v0) 8 4).bind fun x1 =>
  (fX8_isIn v1 (0 : Int32) (x1 - (1 : Int32)) h).bind fun y2 =>
  if y2.1 = 0 then
    some ((-101 : Int32), y2.2)
  else
  (fX8_isKind v2 y2.2).bind fun y3 =>
  if y3.1 = 0 then
    some ((-102 : Int32), y3.2)
  else
  (am_rc y3.2 (some v0) 8).bind fun b5 =>
  (fX8_faultOf b5 v1 y3.2).bind fun y4 =>
  if y4.1 = none then
    some ((-1 : Int32), y4.2)
  else
  (am_gi y4.2 y4.1 2 0).bind fun x6 =>
  (fX8_isFaultOfKind x6 v2 y4.2).bind fun y7 =>
  if y7.1 = 0 then
    some ((-1 : Int32), y7.2)
  else
  some (v1, y7.2)
/-! DroppingBallsModel.isFault(I)Z -/
def fX9_isFault (v0 : Nat) (v1 : Int32) (h : am_H) : Option (Int32 × am_H) :=
  (am_gi h (some v0) 9 12).bind fun x1 =>
  (fX9_within v1 (0 : Int32) (x1 - (1 : Int32)) h).bind fun y2 =>
  am_zr y2.1 y2.2
/-! DroppingBallsModel.as(II)I -/
def fX9_as (v0 : Nat) (v1 : Int32) (v2 : Int32) (h : am_H) : Option (Int32 × am_H) :=
  (am_rc h (some v0) 9).bind fun b2 =>
  (fX9_isFault b2 v1 h).bind fun y1 =>
  if y1.1 = 0 then
    some ((-101 : Int32), y1.2)
  else
  (fX9_within v2 (0 : Int32) (4 : Int32) y1.2).bind fun y3 =>
  if y3.1 = 0 then
    some ((-102 : Int32), y3.2)
  else
  (am_gr y3.2 (some v0) 9 13).bind fun x4 =>
  (am_al y3.2 x4 0 v1).bind fun x5 =>
  if v2 = 0 then
    some (v1, y3.2)
  else
  if x5 = v2 then
    some (v1, y3.2)
  else
  if v2 = (1 : Int32) then
    if x5 = (2 : Int32) then
      some (v1, y3.2)
    else
    some ((-1 : Int32), y3.2)
  else
  some ((-1 : Int32), y3.2)
/-! DroppingBalls.leastNumber(I)I -/
def fX8_leastNumber (v0 : Int32) (h : am_H) : Option (Int32 × am_H) :=
  if v0 = (3 : Int32) then
    some ((1 : Int32), h)
  else
  if v0 = (4 : Int32) then
    some ((2 : Int32), h)
  else
  some ((0 : Int32), h)
/-! DroppingBalls.mostNumber(I)I -/
def fX8_mostNumber (v0 : Int32) (h : am_H) : Option (Int32 × am_H) :=
  if v0 = (1 : Int32) then
    some ((9 : Int32), h)
  else
  if v0 = (2 : Int32) then
    some ((3 : Int32), h)
  else
  if v0 = (3 : Int32) then
    some ((9 : Int32), h)
  else
  if v0 = (4 : Int32) then
    some ((5 : Int32), h)
  else
  some ((0 : Int32), h)
/-! DroppingBalls.isWorkOrNone(I)Z -/
def fX8_isWorkOrNone (v0 : Nat) (v1 : Int32) (h : am_H) : Option (Int32 × am_H) :=
  (am_gi h (some v0) 8 5).bind fun x1 =>
  (fX8_isIn v1 (-1 : Int32) (x1 - (1 : Int32)) h).bind fun y2 =>
  am_zr y2.1 y2.2
/-! DroppingBalls.workOf(I)LDroppingBalls$Work; -/
def fX8_workOf (v0 : Nat) (v1 : Int32) (h : am_H) : Option (Option Nat × am_H) :=
  (am_gi h (some v0) 8 5).bind fun x1 =>
  (fX8_isIn v1 (0 : Int32) (x1 - (1 : Int32)) h).bind fun y2 =>
  if y2.1 = 0 then
    some (none, y2.2)
  else
  if (10 : Int32) ≤ v1 then
    some (none, y2.2)
  else
  (am_gr y2.2 (some v0) 8 2).bind fun x3 =>
  (am_alr y2.2 x3 6 v1).bind fun x4 =>
  some (x4, y2.2)
/-! DroppingBalls$Work.<init>(IIILDroppingBalls$Work;)V -/
def fX7_init (v0 : Nat) (v1 : Int32) (v2 : Int32) (v3 : Int32) (v4 : Option Nat) (h : am_H) : Option (am_H) :=
  (am_pi h (some v0) 7 0 v1).bind fun h1 =>
  (am_pi h1 (some v0) 7 1 v2).bind fun h2 =>
  (am_pi h2 (some v0) 7 2 v3).bind fun h3 =>
  (am_pr h3 (some v0) 7 3 v4).bind fun h4 =>
  some h4
/-! DroppingBalls.work(III)I -/
def fX8_work (v0 : Nat) (v1 : Int32) (v2 : Int32) (v3 : Int32) (h : am_H) : Option (Int32 × am_H) :=
  (fX8_isKind v1 h).bind fun y1 =>
  if y1.1 = 0 then
    some ((-102 : Int32), y1.2)
  else
  (fX8_leastNumber v1 y1.2).bind fun y2 =>
  (fX8_mostNumber v1 y2.2).bind fun y3 =>
  (fX8_isIn v2 y2.1 y3.1 y3.2).bind fun y4 =>
  if y4.1 = 0 then
    some ((-102 : Int32), y4.2)
  else
  (am_rc y4.2 (some v0) 8).bind fun b6 =>
  (fX8_isWorkOrNone b6 v3 y4.2).bind fun y5 =>
  if y5.1 = 0 then
    some ((-101 : Int32), y5.2)
  else
  (am_gi y5.2 (some v0) 8 5).bind fun x7 =>
  if x7 < (10 : Int32) then
    (am_gr y5.2 (some v0) 8 2).bind fun x8 =>
    (am_gi y5.2 (some v0) 8 5).bind fun x9 =>
    (am_nwo y5.2 7 df_7).bind fun y10 =>
    (am_gi y10.2 (some v0) 8 5).bind fun x11 =>
    (am_rc y10.2 (some v0) 8).bind fun b13 =>
    (fX8_workOf b13 v3 y10.2).bind fun y12 =>
    (fX7_init y10.1 x11 v1 v2 y12.1 y12.2).bind fun y14 =>
    (am_asr y14 x8 6 x9 (some y10.1)).bind fun h15 =>
    (am_gi h15 (some v0) 8 5).bind fun x16 =>
    (am_pi h15 (some v0) 8 5 (x16 + (1 : Int32))).bind fun h17 =>
    (am_gi h17 (some v0) 8 5).bind fun x18 =>
    some (x18 - (1 : Int32), h17)
  else
  some ((-104 : Int32), y5.2)
/-! DroppingBallsModel.isNumber(II)Z -/
def fX9_isNumber (v0 : Int32) (v1 : Int32) (h : am_H) : Option (Int32 × am_H) :=
  if v0 = (1 : Int32) then
    (fX9_within v1 (0 : Int32) (9 : Int32) h).bind fun y1 =>
    am_zr y1.1 y1.2
  else
  if v0 = (2 : Int32) then
    (fX9_within v1 (0 : Int32) (3 : Int32) h).bind fun y2 =>
    am_zr y2.1 y2.2
  else
  if v0 = (3 : Int32) then
    (fX9_within v1 (1 : Int32) (9 : Int32) h).bind fun y3 =>
    am_zr y3.1 y3.2
  else
  if v0 = (4 : Int32) then
    (fX9_within v1 (2 : Int32) (5 : Int32) h).bind fun y4 =>
    am_zr y4.1 y4.2
  else
  if v1 = 0 then
    am_zr (1 : Int32) h
  else
  am_zr (0 : Int32) h
/-! DroppingBallsModel.isWork(I)Z -/
def fX9_isWork (v0 : Nat) (v1 : Int32) (h : am_H) : Option (Int32 × am_H) :=
  (am_gi h (some v0) 9 17).bind fun x1 =>
  (fX9_within v1 (0 : Int32) (x1 - (1 : Int32)) h).bind fun y2 =>
  am_zr y2.1 y2.2
/-! DroppingBallsModel.work(III)I -/
def fX9_work_36 (v0 : Option Nat) (v1 : Int32) (v2 : Int32) (v3 : Int32) (h : am_H) : Option (Int32 × am_H) :=
  (am_gi h v0 9 17).bind fun x1 =>
  if x1 = (10 : Int32) then
    some ((-104 : Int32), h)
  else
  (am_gr h v0 9 18).bind fun x2 =>
  (am_gi h v0 9 17).bind fun x3 =>
  (am_as h x2 0 x3 v1).bind fun h4 =>
  (am_gr h4 v0 9 19).bind fun x5 =>
  (am_gi h4 v0 9 17).bind fun x6 =>
  (am_as h4 x5 0 x6 v2).bind fun h7 =>
  (am_gr h7 v0 9 20).bind fun x8 =>
  (am_gi h7 v0 9 17).bind fun x9 =>
  (am_as h7 x8 0 x9 v3).bind fun h10 =>
  (am_gi h10 v0 9 17).bind fun x11 =>
  (am_pi h10 v0 9 17 (x11 + (1 : Int32))).bind fun h12 =>
  (am_gi h12 v0 9 17).bind fun x13 =>
  some (x13 - (1 : Int32), h12)
def fX9_work (v0 : Nat) (v1 : Int32) (v2 : Int32) (v3 : Int32) (h : am_H) : Option (Int32 × am_H) :=
  (fX9_within v1 (0 : Int32) (4 : Int32) h).bind fun y1 =>
  if y1.1 = 0 then
    some ((-102 : Int32), y1.2)
  else
  (fX9_isNumber v1 v2 y1.2).bind fun y2 =>
  if y2.1 = 0 then
    some ((-102 : Int32), y2.2)
  else
  if v3 = (-1 : Int32) then
    fX9_work_36 (some v0) v1 v2 v3 y2.2
  else
  (am_rc y2.2 (some v0) 9).bind fun b4 =>
  (fX9_isWork b4 v3 y2.2).bind fun y3 =>
  if y3.1 = 0 then
    some ((-101 : Int32), y3.2)
  else
  fX9_work_36 (some v0) v1 v2 v3 y3.2
/-! DroppingBalls.isWorkOfKind(II)Z -/
def fX8_isWorkOfKind (v0 : Int32) (v1 : Int32) (h : am_H) : Option (Int32 × am_H) :=
  if v1 = 0 then
    am_zr (1 : Int32) h
  else
  if v1 = v0 then
    am_zr (1 : Int32) h
  else
  if v0 = (4 : Int32) then
    if v1 = (3 : Int32) then
      am_zr (1 : Int32) h
    else
    am_zr (0 : Int32) h
  else
  am_zr (0 : Int32) h
/-! DroppingBalls.workAs(II)I -/
def fX8_workAs (v0 : Nat) (v1 : Int32) (v2 : Int32) (h : am_H) : Option (Int32 × am_H) :=
  (am_rc h (some v0) 8).bind fun b2 =>
  (fX8_workOf b2 v1 h).bind fun y1 =>
  if y1.1 = none then
    some ((-101 : Int32), y1.2)
  else
  (fX8_isKind v2 y1.2).bind fun y3 =>
  if y3.1 = 0 then
    some ((-102 : Int32), y3.2)
  else
  (am_gi y3.2 y1.1 7 1).bind fun x4 =>
  (fX8_isWorkOfKind x4 v2 y3.2).bind fun y5 =>
  if y5.1 = 0 then
    some ((-1 : Int32), y5.2)
  else
  some (v1, y5.2)
/-! DroppingBallsModel.workAs(II)I -/
def fX9_workAs (v0 : Nat) (v1 : Int32) (v2 : Int32) (h : am_H) : Option (Int32 × am_H) :=
  (am_rc h (some v0) 9).bind fun b2 =>
  (fX9_isWork b2 v1 h).bind fun y1 =>
  if y1.1 = 0 then
    some ((-101 : Int32), y1.2)
  else
  (fX9_within v2 (0 : Int32) (4 : Int32) y1.2).bind fun y3 =>
  if y3.1 = 0 then
    some ((-102 : Int32), y3.2)
  else
  (am_gr y3.2 (some v0) 9 18).bind fun x4 =>
  (am_al y3.2 x4 0 v1).bind fun x5 =>
  if v2 = 0 then
    some (v1, y3.2)
  else
  if x5 = v2 then
    some (v1, y3.2)
  else
  if v2 = (3 : Int32) then
    if x5 = (4 : Int32) then
      some (v1, y3.2)
    else
    some ((-1 : Int32), y3.2)
  else
  some ((-1 : Int32), y3.2)
/-! DroppingBalls.head(I)I -/
def fX8_head (v0 : Nat) (v1 : Int32) (h : am_H) : Option (Int32 × am_H) :=
  (am_rc h (some v0) 8).bind fun b2 =>
  (fX8_isWorkOrNone b2 v1 h).bind fun y1 =>
  if y1.1 = 0 then
    some ((-101 : Int32), y1.2)
  else
  (am_gr y1.2 (some v0) 8 7).bind fun x3 =>
  (am_gi y1.2 x3 6 3).bind fun x4 =>
  (am_gr y1.2 (some v0) 8 7).bind fun x5 =>
  (am_pi y1.2 x5 6 3 v1).bind fun h6 =>
  some (x4, h6)
/-! DroppingBallsModel.head(I)I -/
def fX9_head_16 (v0 : Option Nat) (v1 : Int32) (h : am_H) : Option (Int32 × am_H) :=
  (am_gi h v0 9 21).bind fun x1 =>
  (am_pi h v0 9 21 v1).bind fun h2 =>
  some (x1, h2)
def fX9_head (v0 : Nat) (v1 : Int32) (h : am_H) : Option (Int32 × am_H) :=
  if v1 = (-1 : Int32) then
    fX9_head_16 (some v0) v1 h
  else
  (am_rc h (some v0) 9).bind fun b2 =>
  (fX9_isWork b2 v1 h).bind fun y1 =>
  if y1.1 = 0 then
    some ((-101 : Int32), y1.2)
  else
  fX9_head_16 (some v0) v1 y1.2
/-! DroppingBalls.warmthOf(I)I -/
def fX8_warmthOf (v0 : Nat) (v1 : Int32) (h : am_H) : Option (Int32 × am_H) :=
  (fX8_isSeason v1 h).bind fun y1 =>
  if y1.1 = 0 then
    some ((100 : Int32), y1.2)
  else
  (am_gr y1.2 (some v0) 8 7).bind fun x2 =>
  (am_gr y1.2 x2 6 0).bind fun x3 =>
  (am_al y1.2 x3 0 v1).bind fun x4 =>
  some (x4, y1.2)
/-! DroppingBalls$Run.start(LDroppingBalls$Clock;ILDroppingBalls$Fault;)V -/
def fX5_start_23_b (rec : Option Nat → Int32 → am_H → Option (am_H)) (v0 : Option Nat) (v4 : Int32) (h : am_H) : Option (am_H) :=
  if (3 : Int32) ≤ v4 then
    (am_pi h v0 5 5 (0 : Int32)).bind fun h1 =>
    (am_pi h1 v0 5 6 (0 : Int32)).bind fun h2 =>
    (am_pi h2 v0 5 7 (0 : Int32)).bind fun h3 =>
    (am_pi h3 v0 5 8 (0 : Int32)).bind fun h4 =>
    (am_pi h4 v0 5 9 (0 : Int32)).bind fun h5 =>
    (am_pi h5 v0 5 10 (0 : Int32)).bind fun h6 =>
    (am_gr h6 v0 5 11).bind fun x7 =>
    (fJ7_fill_53178 x7 (-1 : Int32) h6).bind fun y8 =>
    (am_pi y8 v0 5 12 (0 : Int32)).bind fun h9 =>
    (am_pi h9 v0 5 13 (0 : Int32)).bind fun h10 =>
    some h10
  else
  (am_gr h v0 5 4).bind fun x11 =>
  (am_gr h v0 5 0).bind fun x12 =>
  (am_gr h x12 0 4).bind fun x13 =>
  (am_al h x13 0 v4).bind fun x14 =>
  (am_as h x11 0 v4 x14).bind fun h15 =>
  rec v0 (v4 + (1 : Int32)) h15
def fX5_start_23 : Nat → Option Nat → Int32 → am_H → Option (am_H)
  | 0, _, _, _ => none
  | n + 1, v0, v4, h => fX5_start_23_b  (fX5_start_23  n) v0 v4 h
def fX5_start (v0 : Nat) (v1 : Option Nat) (v2 : Int32) (v3 : Option Nat) (h : am_H) : Option (am_H) :=
  (am_pr h (some v0) 5 0 v1).bind fun h1 =>
  (am_pr h1 (some v0) 5 1 v3).bind fun h2 =>
  (am_pi h2 (some v0) 5 2 v2).bind fun h3 =>
  (am_pi h3 (some v0) 5 3 (0 : Int32)).bind fun h4 =>
  (fX5_start_23 am_fu) (some v0) (0 : Int32) h4
/-! DroppingBalls.startRun(III)Z -/
def fX8_startRun_24 (v0 : Option Nat) (v2 : Int32) (v4 : Option Nat) (s0 : Option Nat) (h : am_H) : Option (Int32 × am_H) :=
  if v4 = none then
    am_zr (0 : Int32) h
  else
  if s0 = none then
    am_zr (0 : Int32) h
  else
  (fX8_isSeason v2 h).bind fun y1 =>
  if y1.1 = 0 then
    am_zr (0 : Int32) y1.2
  else
  (am_gr y1.2 v0 8 14).bind fun x2 =>
  (am_rc y1.2 v0 8).bind fun b4 =>
  (fX8_warmthOf b4 v2 y1.2).bind fun y3 =>
  (am_rc y3.2 x2 5).bind fun b6 =>
  (fX5_start b6 v4 y3.1 s0 y3.2).bind fun y5 =>
  am_zr (1 : Int32) y5
def fX8_startRun (v0 : Nat) (v1 : Int32) (v2 : Int32) (v3 : Int32) (h : am_H) : Option (Int32 × am_H) :=
  (am_rc h (some v0) 8).bind fun b2 =>
  (fX8_clockOf b2 v1 h).bind fun y1 =>
  if v3 = (-1 : Int32) then
    (am_gr y1.2 (some v0) 8 12).bind fun x5 =>
    fX8_startRun_24 (some v0) v2 y1.1 x5 y1.2
  else
  (am_rc y1.2 (some v0) 8).bind fun b4 =>
  (fX8_faultOf b4 v3 y1.2).bind fun y3 =>
  fX8_startRun_24 (some v0) v2 y1.1 y3.1 y3.2
/-! DroppingBalls$Fault.warmthOf(II)I -/
def fX2_warmthOf (v0 : Nat) (v1 : Int32) (v2 : Int32) (h : am_H) : Option (Int32 × am_H) :=
  (am_gi h (some v0) 2 0).bind fun x1 =>
  if x1 = (4 : Int32) then
    (am_gi h (some v0) 2 3).bind fun x2 =>
    if v2 < x2 then
      some (v1, h)
    else
    (am_gi h (some v0) 2 2).bind fun x3 =>
    some (v1 - x3, h)
  else
  some (v1, h)
/-! DroppingBalls.quotient(II)I -/
def fX8_quotient (v0 : Int32) (v1 : Int32) (h : am_H) : Option (Int32 × am_H) :=
  if (1 : Int32) ≤ v1 then
    if v1 = 0 then none else
    some (v0 / v1, h)
  else
  some ((0 : Int32), h)
/-! DroppingBalls$Fault.holeOf(III)I -/
def fX2_holeOf (v0 : Nat) (v1 : Int32) (v2 : Int32) (v3 : Int32) (h : am_H) : Option (Int32 × am_H) :=
  (am_gi h (some v0) 2 1).bind fun x1 =>
  if x1 = v2 then
    (am_gi h (some v0) 2 3).bind fun x2 =>
    if x2 ≤ v3 then
      (am_gi h (some v0) 2 0).bind fun x3 =>
      if x3 = (1 : Int32) then
        (am_gi h (some v0) 2 2).bind fun x4 =>
        some (if (0 : Int32) < (v1 - x4) then (v1 - x4) else (0 : Int32), h)
      else
      if x3 = (2 : Int32) then
        (am_gi h (some v0) 2 2).bind fun x5 =>
        some (v1 + x5, h)
      else
      some (v1, h)
    else
    some (v1, h)
  else
  some (v1, h)
/-! DroppingBalls$Run.drip()V -/
def fX5_drip_210 (v0 : Option Nat) (v2 : Int32) (s0 : Option Nat) (s1 : Int32) (h : am_H) : Option (am_H) :=
  (am_pi h s0 5 12 s1).bind fun h1 =>
  (am_gi h1 v0 5 13).bind fun x2 =>
  (am_pi h1 v0 5 13 (if x2 < v2 then v2 else x2)).bind fun h3 =>
  some h3
def fX5_drip_170 (v0 : Option Nat) (v2 : Int32) (h : am_H) : Option (am_H) :=
  (am_gi h v0 5 5).bind fun x1 =>
  (am_pi h v0 5 5 (x1 + v2)).bind fun h2 =>
  (am_gi h2 v0 5 6).bind fun x3 =>
  (am_pi h2 v0 5 6 (x3 + v2)).bind fun h4 =>
  (am_gi h4 v0 5 3).bind fun x5 =>
  if x5 = 0 then
    fX5_drip_210 v0 v2 v0 v2 h4
  else
  (am_gi h4 v0 5 12).bind fun x6 =>
  fX5_drip_210 v0 v2 v0 (if v2 < x6 then v2 else x6) h4
def fX5_drip_98 (k26 : Option Nat → Int32 → Int32 → Int32 → am_H → Option (am_H)) (v0 : Option Nat) (v1 : Int32) (v3 : Int32) (v4 : Int32) (h : am_H) : Option (am_H) :=
  (am_gr h v0 5 0).bind fun x1 =>
  (am_gr h x1 0 1).bind fun x2 =>
  (am_al h x2 0 v3).bind fun x3 =>
  (fX8_quotient v4 x3 h).bind fun y4 =>
  (am_gr y4.2 v0 5 1).bind fun x5 =>
  (am_gr y4.2 v0 5 0).bind fun x6 =>
  (am_gr y4.2 x6 0 3).bind fun x7 =>
  (am_al y4.2 x7 0 v3).bind fun x8 =>
  (am_gi y4.2 v0 5 3).bind fun x9 =>
  (am_rc y4.2 x5 2).bind fun b11 =>
  (fX2_holeOf b11 x8 v3 x9 y4.2).bind fun y10 =>
  if (1000 : Int32) = 0 then none else
  (am_gr y10.2 v0 5 4).bind fun x12 =>
  (am_as y10.2 x12 0 v3 (v4 - (if (((y10.1 * y4.1) * v1) / (1000 : Int32)) < v4 then (((y10.1 * y4.1) * v1) / (1000 : Int32)) else v4))).bind fun h13 =>
  k26 v0 v1 (if (((y10.1 * y4.1) * v1) / (1000 : Int32)) < v4 then (((y10.1 * y4.1) * v1) / (1000 : Int32)) else v4) (v3 + (1 : Int32)) h13
def fX5_drip_26_b (rec : Option Nat → Int32 → Int32 → Int32 → am_H → Option (am_H)) (v0 : Option Nat) (v1 : Int32) (v2 : Int32) (v3 : Int32) (h : am_H) : Option (am_H) :=
  (am_gr h v0 5 0).bind fun x1 =>
  (am_gi h x1 0 0).bind fun x2 =>
  if x2 ≤ v3 then
    fX5_drip_170 v0 v2 h
  else
  if (3 : Int32) ≤ v3 then
    fX5_drip_170 v0 v2 h
  else
  (am_gr h v0 5 4).bind fun x3 =>
  (am_al h x3 0 v3).bind fun x4 =>
  (am_gr h v0 5 0).bind fun x5 =>
  (am_gr h x5 0 4).bind fun x6 =>
  (am_al h x6 0 v3).bind fun x7 =>
  if (x4 + v2) ≤ x7 then
    (fX5_drip_98 rec) v0 v1 v3 (x4 + v2) h
  else
  (am_gi h v0 5 7).bind fun x8 =>
  (am_gr h v0 5 0).bind fun x9 =>
  (am_gr h x9 0 4).bind fun x10 =>
  (am_al h x10 0 v3).bind fun x11 =>
  (am_pi h v0 5 7 (x8 + ((x4 + v2) - x11))).bind fun h12 =>
  (am_gr h12 v0 5 0).bind fun x13 =>
  (am_gr h12 x13 0 4).bind fun x14 =>
  (am_al h12 x14 0 v3).bind fun x15 =>
  (fX5_drip_98 rec) v0 v1 v3 x15 h12
def fX5_drip_26 : Nat → Option Nat → Int32 → Int32 → Int32 → am_H → Option (am_H)
  | 0, _, _, _, _, _ => none
  | n + 1, v0, v1, v2, v3, h => fX5_drip_26_b  (fX5_drip_26  n) v0 v1 v2 v3 h
def fX5_drip (v0 : Nat) (h : am_H) : Option (am_H) :=
  (am_gr h (some v0) 5 1).bind fun x1 =>
  (am_gi h (some v0) 5 2).bind fun x2 =>
  (am_gi h (some v0) 5 3).bind fun x3 =>
  (am_rc h x1 2).bind fun b5 =>
  (fX2_warmthOf b5 x2 x3 h).bind fun y4 =>
  (am_gr y4.2 (some v0) 5 0).bind fun x6 =>
  (am_gi y4.2 x6 0 7).bind fun x7 =>
  (fX5_drip_26 am_fu) (some v0) y4.1 x7 (0 : Int32) y4.2
/-! DroppingBalls$Fault.leakAt(I)I -/
def fX2_leakAt (v0 : Nat) (v1 : Int32) (h : am_H) : Option (Int32 × am_H) :=
  (am_gi h (some v0) 2 0).bind fun x1 =>
  if x1 = (3 : Int32) then
    (am_gi h (some v0) 2 3).bind fun x2 =>
    if v1 < x2 then
      some ((0 : Int32), h)
    else
    (am_gi h (some v0) 2 2).bind fun x3 =>
    some (x3, h)
  else
  some ((0 : Int32), h)
/-! DroppingBalls$Run.leak()V -/
def fX5_leak (v0 : Nat) (h : am_H) : Option (am_H) :=
  (am_gr h (some v0) 5 1).bind fun x1 =>
  (am_gi h x1 2 1).bind fun x2 =>
  (am_gr h (some v0) 5 0).bind fun x3 =>
  (am_rc h x3 0).bind fun b5 =>
  (fX0_hasVessel b5 x2 h).bind fun y4 =>
  if y4.1 = 0 then
    some y4.2
  else
  (am_gr y4.2 (some v0) 5 4).bind fun x6 =>
  (am_al y4.2 x6 0 x2).bind fun x7 =>
  (am_gr y4.2 (some v0) 5 1).bind fun x8 =>
  (am_gi y4.2 (some v0) 5 3).bind fun x9 =>
  (am_rc y4.2 x8 2).bind fun b11 =>
  (fX2_leakAt b11 x9 y4.2).bind fun y10 =>
  (am_gr y10.2 (some v0) 5 4).bind fun x12 =>
  (am_al y10.2 x12 0 x2).bind fun x13 =>
  (am_as y10.2 x12 0 x2 (x13 - (if y10.1 < x7 then y10.1 else x7))).bind fun h14 =>
  (am_gi h14 (some v0) 5 8).bind fun x15 =>
  (am_pi h14 (some v0) 5 8 (x15 + (if y10.1 < x7 then y10.1 else x7))).bind fun h16 =>
  some h16
/-! DroppingBalls$Run.dropBalls()V -/
def fX5_dropBalls_20_b (rec : Option Nat → Int32 → Int32 → am_H → Option (am_H)) (v0 : Option Nat) (v1 : Int32) (v2 : Int32) (h : am_H) : Option (am_H) :=
  (am_gr h v0 5 0).bind fun x1 =>
  (am_gi h x1 0 8).bind fun x2 =>
  if x2 ≤ v2 then
    some h
  else
  if (12 : Int32) ≤ v2 then
    some h
  else
  (am_gr h v0 5 0).bind fun x3 =>
  (am_gr h x3 0 9).bind fun x4 =>
  (am_al h x4 0 v2).bind fun x5 =>
  if x5 ≤ v1 then
    (am_gr h v0 5 11).bind fun x6 =>
    (am_gi h v0 5 3).bind fun x7 =>
    (am_as h x6 0 v2 x7).bind fun h8 =>
    (am_gi h8 v0 5 10).bind fun x9 =>
    (am_pi h8 v0 5 10 (x9 + (1 : Int32))).bind fun h10 =>
    rec v0 v1 (v2 + (1 : Int32)) h10
  else
  some h
def fX5_dropBalls_20 : Nat → Option Nat → Int32 → Int32 → am_H → Option (am_H)
  | 0, _, _, _, _ => none
  | n + 1, v0, v1, v2, h => fX5_dropBalls_20_b  (fX5_dropBalls_20  n) v0 v1 v2 h
def fX5_dropBalls (v0 : Nat) (h : am_H) : Option (am_H) :=
  (am_gi h (some v0) 5 5).bind fun x1 =>
  (am_gr h (some v0) 5 0).bind fun x2 =>
  (am_gi h x2 0 5).bind fun x3 =>
  (fX8_quotient x1 x3 h).bind fun y4 =>
  (am_gi y4.2 (some v0) 5 10).bind fun x5 =>
  (fX5_dropBalls_20 am_fu) (some v0) y4.1 x5 y4.2
/-! DroppingBalls$Run.siphon()V -/
def fX5_siphon (v0 : Nat) (h : am_H) : Option (am_H) :=
  (am_gi h (some v0) 5 5).bind fun x1 =>
  (am_gr h (some v0) 5 0).bind fun x2 =>
  (am_gi h x2 0 5).bind fun x3 =>
  (fX8_quotient x1 x3 h).bind fun y4 =>
  (am_gr y4.2 (some v0) 5 0).bind fun x5 =>
  (am_gi y4.2 x5 0 6).bind fun x6 =>
  if y4.1 < x6 then
    some y4.2
  else
  (am_gi y4.2 (some v0) 5 10).bind fun x7 =>
  (am_gr y4.2 (some v0) 5 0).bind fun x8 =>
  (am_gi y4.2 x8 0 8).bind fun x9 =>
  if x7 < x9 then
    some y4.2
  else
  (am_pi y4.2 (some v0) 5 5 (0 : Int32)).bind fun h10 =>
  (am_gi h10 (some v0) 5 9).bind fun x11 =>
  (am_pi h10 (some v0) 5 9 (x11 + (1 : Int32))).bind fun h12 =>
  some h12
/-! DroppingBalls$Run.advance()V -/
def fX5_advance (v0 : Nat) (h : am_H) : Option (am_H) :=
  (am_rc h (some v0) 5).bind fun b2 =>
  (fX5_drip b2 h).bind fun y1 =>
  (am_rc y1 (some v0) 5).bind fun b4 =>
  (fX5_leak b4 y1).bind fun y3 =>
  (am_rc y3 (some v0) 5).bind fun b6 =>
  (fX5_dropBalls b6 y3).bind fun y5 =>
  (am_rc y5 (some v0) 5).bind fun b8 =>
  (fX5_siphon b8 y5).bind fun y7 =>
  (am_gi y7 (some v0) 5 3).bind fun x9 =>
  (am_pi y7 (some v0) 5 3 (x9 + (1 : Int32))).bind fun h10 =>
  some h10
/-! DroppingBalls$Run.goOnTo(I)V -/
def fX5_goOnTo_5_b (rec : Option Nat → Int32 → Int32 → am_H → Option (am_H)) (v0 : Option Nat) (v1 : Int32) (v2 : Int32) (h : am_H) : Option (am_H) :=
  if v1 ≤ v2 then
    some h
  else
  (am_rc h v0 5).bind fun b2 =>
  (fX5_advance b2 h).bind fun y1 =>
  rec v0 v1 (v2 + (1 : Int32)) y1
def fX5_goOnTo_5 : Nat → Option Nat → Int32 → Int32 → am_H → Option (am_H)
  | 0, _, _, _, _ => none
  | n + 1, v0, v1, v2, h => fX5_goOnTo_5_b  (fX5_goOnTo_5  n) v0 v1 v2 h
def fX5_goOnTo (v0 : Nat) (v1 : Int32) (h : am_H) : Option (am_H) :=
  (am_gi h (some v0) 5 3).bind fun x1 =>
  (fX5_goOnTo_5 am_fu) (some v0) v1 x1 h
/-! DroppingBalls$Run.tickOf(I)I -/
def fX5_tickOf (v0 : Nat) (v1 : Int32) (h : am_H) : Option (Int32 × am_H) :=
  (am_gr h (some v0) 5 0).bind fun x1 =>
  (am_rc h x1 0).bind fun b3 =>
  (fX0_hasBall b3 v1 h).bind fun y2 =>
  if y2.1 = 0 then
    some ((-1 : Int32), y2.2)
  else
  (am_gr y2.2 (some v0) 5 11).bind fun x4 =>
  (am_al y2.2 x4 0 v1).bind fun x5 =>
  some (x5, y2.2)
/-! DroppingBalls.drops(IIII)I -/
def fX8_drops (v0 : Nat) (v1 : Int32) (v2 : Int32) (v3 : Int32) (v4 : Int32) (h : am_H) : Option (Int32 × am_H) :=
  (am_rc h (some v0) 8).bind fun b2 =>
  (fX8_startRun b2 v1 v2 v3 h).bind fun y1 =>
  if y1.1 = 0 then
    some ((-101 : Int32), y1.2)
  else
  (am_gr y1.2 (some v0) 8 14).bind fun x3 =>
  (am_gr y1.2 x3 5 0).bind fun x4 =>
  (am_rc y1.2 x4 0).bind fun b6 =>
  (fX0_hasBall b6 v4 y1.2).bind fun y5 =>
  if y5.1 = 0 then
    some ((-101 : Int32), y5.2)
  else
  (am_gr y5.2 (some v0) 8 14).bind fun x7 =>
  (am_rc y5.2 x7 5).bind fun b9 =>
  (fX5_goOnTo b9 (96 : Int32) y5.2).bind fun y8 =>
  (am_gr y8 (some v0) 8 14).bind fun x10 =>
  (am_rc y8 x10 5).bind fun b12 =>
  (fX5_tickOf b12 v4 y8).bind fun y11 =>
  some (y11.1, y11.2)
/-! DroppingBallsModel.isRun(III)Z -/
def fX9_isRun (v0 : Nat) (v1 : Int32) (v2 : Int32) (v3 : Int32) (h : am_H) : Option (Int32 × am_H) :=
  (am_rc h (some v0) 9).bind fun b2 =>
  (fX9_isClock b2 v1 h).bind fun y1 =>
  if y1.1 = 0 then
    am_zr (0 : Int32) y1.2
  else
  (fX9_isSeason v2 y1.2).bind fun y3 =>
  if y3.1 = 0 then
    am_zr (0 : Int32) y3.2
  else
  if v3 = (-1 : Int32) then
    am_zr (1 : Int32) y3.2
  else
  (am_rc y3.2 (some v0) 9).bind fun b5 =>
  (fX9_isFault b5 v3 y3.2).bind fun y4 =>
  if y4.1 = 0 then
    am_zr (0 : Int32) y4.2
  else
  am_zr (1 : Int32) y4.2
/-! DroppingBallsModel.load(II)V -/
def fX9_load_122 (s0 : Option Nat) (s1 : Int32) (h : am_H) : Option (am_H) :=
  (am_pi h s0 9 49 s1).bind fun h1 =>
  some h1
def fX9_load_103 (v0 : Option Nat) (v2 : Int32) (s0 : Option Nat) (s1 : Int32) (h : am_H) : Option (am_H) :=
  (am_pi h s0 9 48 s1).bind fun h1 =>
  if v2 = (-1 : Int32) then
    fX9_load_122 v0 (0 : Int32) h1
  else
  (am_gr h1 v0 9 16).bind fun x2 =>
  (am_al h1 x2 0 v2).bind fun x3 =>
  fX9_load_122 v0 x3 h1
def fX9_load_84 (v0 : Option Nat) (v2 : Int32) (s0 : Option Nat) (s1 : Int32) (h : am_H) : Option (am_H) :=
  (am_pi h s0 9 47 s1).bind fun h1 =>
  if v2 = (-1 : Int32) then
    fX9_load_103 v0 v2 v0 (0 : Int32) h1
  else
  (am_gr h1 v0 9 15).bind fun x2 =>
  (am_al h1 x2 0 v2).bind fun x3 =>
  fX9_load_103 v0 v2 v0 x3 h1
def fX9_load_65 (v0 : Option Nat) (v2 : Int32) (s0 : Option Nat) (s1 : Int32) (h : am_H) : Option (am_H) :=
  (am_pi h s0 9 46 s1).bind fun h1 =>
  if v2 = (-1 : Int32) then
    fX9_load_84 v0 v2 v0 (0 : Int32) h1
  else
  (am_gr h1 v0 9 14).bind fun x2 =>
  (am_al h1 x2 0 v2).bind fun x3 =>
  fX9_load_84 v0 v2 v0 x3 h1
def fX9_load_2_b (rec : Option Nat → Int32 → Int32 → Int32 → am_H → Option (am_H)) (v0 : Option Nat) (v1 : Int32) (v2 : Int32) (v3 : Int32) (h : am_H) : Option (am_H) :=
  (am_gr h v0 9 1).bind fun x1 =>
  (am_al h x1 0 v1).bind fun x2 =>
  if x2 ≤ v3 then
    (am_gr h v0 9 7).bind fun x3 =>
    (am_al h x3 0 v1).bind fun x4 =>
    (am_pi h v0 9 44 x4).bind fun h5 =>
    (am_pz h5 v0 9 45 (1 : Int32)).bind fun h6 =>
    if v2 = (-1 : Int32) then
      fX9_load_65 v0 v2 v0 (0 : Int32) h6
    else
    (am_gr h6 v0 9 13).bind fun x7 =>
    (am_al h6 x7 0 v2).bind fun x8 =>
    fX9_load_65 v0 v2 v0 x8 h6
  else
  (am_gr h v0 9 43).bind fun x9 =>
  (am_gr h v0 9 4).bind fun x10 =>
  (am_al h x10 0 (((3 : Int32) * v1) + v3)).bind fun x11 =>
  (am_as h x9 0 v3 x11).bind fun h12 =>
  rec v0 v1 v2 (v3 + (1 : Int32)) h12
def fX9_load_2 : Nat → Option Nat → Int32 → Int32 → Int32 → am_H → Option (am_H)
  | 0, _, _, _, _, _ => none
  | n + 1, v0, v1, v2, v3, h => fX9_load_2_b  (fX9_load_2  n) v0 v1 v2 v3 h
def fX9_load (v0 : Nat) (v1 : Int32) (v2 : Int32) (h : am_H) : Option (am_H) :=
  (fX9_load_2 am_fu) (some v0) v1 v2 (0 : Int32) h
/-! DroppingBallsModel.lesser(II)I -/
def fX9_lesser (v0 : Int32) (v1 : Int32) (h : am_H) : Option (Int32 × am_H) :=
  if v1 ≤ v0 then
    some (v1, h)
  else
  some (v0, h)
/-! DroppingBallsModel.come(III)V -/
def fX9_come_54 (v0 : Option Nat) (v2 : Int32) (v4 : Int32) (v5 : Int32) (s0 : Option Nat) (s1 : Int32) (s2 : Int32) (h : am_H) : Option (am_H) :=
  (am_pi h s0 9 52 (s1 + s2)).bind fun h1 =>
  (am_gr h1 v0 9 50).bind fun x2 =>
  (fX9_lesser v5 v4 h1).bind fun y3 =>
  (am_as y3.2 x2 0 v2 y3.1).bind fun h4 =>
  some h4
def fX9_come (v0 : Nat) (v1 : Int32) (v2 : Int32) (v3 : Int32) (h : am_H) : Option (am_H) :=
  (am_gr h (some v0) 9 2).bind fun x1 =>
  (am_al h x1 0 (((3 : Int32) * v1) + v2)).bind fun x2 =>
  (am_gr h (some v0) 9 3).bind fun x3 =>
  (am_al h x3 0 (((3 : Int32) * v1) + v2)).bind fun x4 =>
  (am_gr h (some v0) 9 50).bind fun x5 =>
  (am_al h x5 0 v2).bind fun x6 =>
  (am_gi h (some v0) 9 52).bind fun x7 =>
  if (x6 + v3) ≤ (x2 * x4) then
    fX9_come_54 (some v0) v2 (x2 * x4) (x6 + v3) (some v0) x7 (0 : Int32) h
  else
  fX9_come_54 (some v0) v2 (x2 * x4) (x6 + v3) (some v0) x7 ((x6 + v3) - (x2 * x4)) h
/-! DroppingBallsModel.hole(II)I -/
def fX9_hole_59 (k61 : Int32 → am_H → Option (Int32 × am_H)) (s0 : Int32) (s1 : Int32) (h : am_H) : Option (Int32 × am_H) :=
  k61 (s0 + s1) h
def fX9_hole_61 (v3 : Int32) (h : am_H) : Option (Int32 × am_H) :=
  if 0 ≤ v3 then
    some (v3, h)
  else
  some ((0 : Int32), h)
def fX9_hole_40 (k61 : Int32 → am_H → Option (Int32 × am_H)) (v0 : Option Nat) (s0 : Int32) (s1 : Int32) (h : am_H) : Option (Int32 × am_H) :=
  (am_gi h v0 9 46).bind fun x1 =>
  if x1 = (2 : Int32) then
    (am_gi h v0 9 48).bind fun x2 =>
    (fX9_hole_59 k61) (s0 - s1) x2 h
  else
  (fX9_hole_59 k61) (s0 - s1) (0 : Int32) h
def fX9_hole (v0 : Nat) (v1 : Int32) (v2 : Int32) (h : am_H) : Option (Int32 × am_H) :=
  (am_gr h (some v0) 9 43).bind fun x1 =>
  (am_al h x1 0 v1).bind fun x2 =>
  (am_gi h (some v0) 9 49).bind fun x3 =>
  if v2 < x3 then
    fX9_hole_61 x2 h
  else
  (am_gi h (some v0) 9 47).bind fun x4 =>
  if v1 = x4 then
    (am_gi h (some v0) 9 46).bind fun x5 =>
    if x5 = (1 : Int32) then
      (am_gi h (some v0) 9 48).bind fun x6 =>
      (fX9_hole_40 fX9_hole_61) (some v0) x2 x6 h
    else
    (fX9_hole_40 fX9_hole_61) (some v0) x2 (0 : Int32) h
  else
  fX9_hole_61 x2 h
/-! DroppingBallsModel.tick(III)V -/
def fX9_tick_378 (v0 : Option Nat) (v1 : Int32) (v6 : Int32) (h : am_H) : Option (am_H) :=
  (am_gi h v0 9 45).bind fun x1 =>
  if x1 = 0 then
    some h
  else
  (am_gr h v0 9 6).bind fun x2 =>
  (am_al h x2 0 v1).bind fun x3 =>
  if v6 < x3 then
    some h
  else
  (am_gi h v0 9 55).bind fun x4 =>
  (am_gr h v0 9 8).bind fun x5 =>
  (am_al h x5 0 v1).bind fun x6 =>
  if x4 = x6 then
    (am_pi h v0 9 51 (0 : Int32)).bind fun h7 =>
    (am_gi h7 v0 9 54).bind fun x8 =>
    (am_pi h7 v0 9 54 (x8 + (1 : Int32))).bind fun h9 =>
    some h9
  else
  some h
def fX9_tick_300 (k242 : Option Nat → Int32 → Int32 → Int32 → Int32 → am_H → Option (am_H)) (v0 : Option Nat) (v1 : Int32) (v3 : Int32) (v6 : Int32) (v7 : Int32) (h : am_H) : Option (am_H) :=
  k242 v0 v1 v3 v6 (v7 + (1 : Int32)) h
def fX9_tick_242_b (rec : Option Nat → Int32 → Int32 → Int32 → Int32 → am_H → Option (am_H)) (v0 : Option Nat) (v1 : Int32) (v3 : Int32) (v6 : Int32) (v7 : Int32) (h : am_H) : Option (am_H) :=
  (am_gr h v0 9 8).bind fun x1 =>
  (am_al h x1 0 v1).bind fun x2 =>
  if x2 ≤ v7 then
    (am_gi h v0 9 46).bind fun x3 =>
    if x3 = (3 : Int32) then
      (am_gi h v0 9 49).bind fun x4 =>
      if v3 < x4 then
        fX9_tick_378 v0 v1 v6 h
      else
      (am_gi h v0 9 47).bind fun x5 =>
      (am_gr h v0 9 1).bind fun x6 =>
      (am_al h x6 0 v1).bind fun x7 =>
      if x7 ≤ x5 then
        fX9_tick_378 v0 v1 v6 h
      else
      (am_gi h v0 9 48).bind fun x8 =>
      (am_gr h v0 9 50).bind fun x9 =>
      (am_gi h v0 9 47).bind fun x10 =>
      (am_al h x9 0 x10).bind fun x11 =>
      (fX9_lesser x8 x11 h).bind fun y12 =>
      (am_gr y12.2 v0 9 50).bind fun x13 =>
      (am_gi y12.2 v0 9 47).bind fun x14 =>
      (am_al y12.2 x13 0 x14).bind fun x15 =>
      (am_as y12.2 x13 0 x14 (x15 - y12.1)).bind fun h16 =>
      (am_gi h16 v0 9 53).bind fun x17 =>
      (am_pi h16 v0 9 53 (x17 + y12.1)).bind fun h18 =>
      fX9_tick_378 v0 v1 v6 h18
    else
    fX9_tick_378 v0 v1 v6 h
  else
  (am_gr h v0 9 56).bind fun x19 =>
  (am_al h x19 0 v7).bind fun x20 =>
  if x20 = (96 : Int32) then
    (am_gr h v0 9 9).bind fun x21 =>
    (am_al h x21 0 (((12 : Int32) * v1) + v7)).bind fun x22 =>
    if v6 < x22 then
      (fX9_tick_300 rec) v0 v1 v3 v6 v7 h
    else
    (am_gr h v0 9 56).bind fun x23 =>
    (am_as h x23 0 v7 v3).bind fun h24 =>
    (am_gi h24 v0 9 55).bind fun x25 =>
    (am_pi h24 v0 9 55 (x25 + (1 : Int32))).bind fun h26 =>
    (fX9_tick_300 rec) v0 v1 v3 v6 v7 h26
  else
  (fX9_tick_300 rec) v0 v1 v3 v6 v7 h
def fX9_tick_242 : Nat → Option Nat → Int32 → Int32 → Int32 → Int32 → am_H → Option (am_H)
  | 0, _, _, _, _, _, _ => none
  | n + 1, v0, v1, v3, v6, v7, h => fX9_tick_242_b  (fX9_tick_242  n) v0 v1 v3 v6 v7 h
def fX9_tick_215 (v0 : Option Nat) (v1 : Int32) (v3 : Int32) (s0 : Option Nat) (s1 : Int32) (h : am_H) : Option (am_H) :=
  (am_pi h s0 9 58 s1).bind fun h1 =>
  (am_gi h1 v0 9 51).bind fun x2 =>
  (am_gr h1 v0 9 5).bind fun x3 =>
  (am_al h1 x3 0 v1).bind fun x4 =>
  if x4 = 0 then none else
  (am_gr h1 v0 9 59).bind fun x5 =>
  (am_as h1 x5 0 v3 (x2 / x4)).bind fun h6 =>
  (fX9_tick_242 am_fu) v0 v1 v3 (x2 / x4) (0 : Int32) h6
def fX9_tick_206 (k215 : Option Nat → Int32 → Int32 → Option Nat → Int32 → am_H → Option (am_H)) (v0 : Option Nat) (v1 : Int32) (v3 : Int32) (v5 : Int32) (s0 : Option Nat) (h : am_H) : Option (am_H) :=
  k215 v0 v1 v3 s0 v5 h
def fX9_tick_189 (v0 : Option Nat) (v1 : Int32) (v3 : Int32) (v5 : Int32) (s0 : Option Nat) (s1 : Int32) (h : am_H) : Option (am_H) :=
  (am_pi h s0 9 57 s1).bind fun h1 =>
  if v3 = 0 then
    (fX9_tick_206 fX9_tick_215) v0 v1 v3 v5 v0 h1
  else
  (am_gi h1 v0 9 58).bind fun x2 =>
  if v5 ≤ x2 then
    (am_gi h1 v0 9 58).bind fun x3 =>
    fX9_tick_215 v0 v1 v3 v0 x3 h1
  else
  (fX9_tick_206 fX9_tick_215) v0 v1 v3 v5 v0 h1
def fX9_tick_180 (k189 : Option Nat → Int32 → Int32 → Int32 → Option Nat → Int32 → am_H → Option (am_H)) (v0 : Option Nat) (v1 : Int32) (v3 : Int32) (v5 : Int32) (s0 : Option Nat) (h : am_H) : Option (am_H) :=
  k189 v0 v1 v3 v5 s0 v5 h
def fX9_tick_149 (k49 : Option Nat → Int32 → Int32 → Int32 → Int32 → Int32 → am_H → Option (am_H)) (v0 : Option Nat) (v1 : Int32) (v3 : Int32) (v4 : Int32) (v5 : Int32) (v6 : Int32) (h : am_H) : Option (am_H) :=
  k49 v0 v1 v3 v4 v5 (v6 + (1 : Int32)) h
def fX9_tick_49_b (rec : Option Nat → Int32 → Int32 → Int32 → Int32 → Int32 → am_H → Option (am_H)) (v0 : Option Nat) (v1 : Int32) (v3 : Int32) (v4 : Int32) (v5 : Int32) (v6 : Int32) (h : am_H) : Option (am_H) :=
  (am_gr h v0 9 1).bind fun x1 =>
  (am_al h x1 0 v1).bind fun x2 =>
  if x2 ≤ v6 then
    (am_gi h v0 9 51).bind fun x3 =>
    (am_pi h v0 9 51 (x3 + v5)).bind fun h4 =>
    if v3 = 0 then
      (fX9_tick_180 fX9_tick_189) v0 v1 v3 v5 v0 h4
    else
    (am_gi h4 v0 9 57).bind fun x5 =>
    if x5 ≤ v5 then
      (am_gi h4 v0 9 57).bind fun x6 =>
      fX9_tick_189 v0 v1 v3 v5 v0 x6 h4
    else
    (fX9_tick_180 fX9_tick_189) v0 v1 v3 v5 v0 h4
  else
  (am_gr h v0 9 50).bind fun x7 =>
  (am_al h x7 0 v6).bind fun x8 =>
  (am_rc h v0 9).bind fun b10 =>
  (fX9_hole b10 v6 v3 h).bind fun y9 =>
  (am_gr y9.2 v0 9 50).bind fun x11 =>
  (am_al y9.2 x11 0 v6).bind fun x12 =>
  (am_gr y9.2 v0 9 2).bind fun x13 =>
  (am_al y9.2 x13 0 (((3 : Int32) * v1) + v6)).bind fun x14 =>
  if x14 = 0 then none else
  if (1000 : Int32) = 0 then none else
  (fX9_lesser x8 (((y9.1 * (x12 / x14)) * v4) / (1000 : Int32)) y9.2).bind fun y15 =>
  (am_gr y15.2 v0 9 50).bind fun x16 =>
  (am_al y15.2 x16 0 v6).bind fun x17 =>
  (am_as y15.2 x16 0 v6 (x17 - y15.1)).bind fun h18 =>
  (am_gr h18 v0 9 1).bind fun x19 =>
  (am_al h18 x19 0 v1).bind fun x20 =>
  if x20 ≤ (v6 + (1 : Int32)) then
    (fX9_tick_149 rec) v0 v1 v3 v4 y15.1 v6 h18
  else
  (am_rc h18 v0 9).bind fun b22 =>
  (fX9_come b22 v1 (v6 + (1 : Int32)) y15.1 h18).bind fun y21 =>
  (fX9_tick_149 rec) v0 v1 v3 v4 v5 v6 y21
def fX9_tick_49 : Nat → Option Nat → Int32 → Int32 → Int32 → Int32 → Int32 → am_H → Option (am_H)
  | 0, _, _, _, _, _, _, _ => none
  | n + 1, v0, v1, v3, v4, v5, v6, h => fX9_tick_49_b  (fX9_tick_49  n) v0 v1 v3 v4 v5 v6 h
def fX9_tick_40 (v0 : Option Nat) (v1 : Int32) (v3 : Int32) (s0 : Int32) (s1 : Int32) (h : am_H) : Option (am_H) :=
  (fX9_tick_49 am_fu) v0 v1 v3 (s0 - s1) (0 : Int32) (0 : Int32) h
def fX9_tick_39 (k40 : Option Nat → Int32 → Int32 → Int32 → Int32 → am_H → Option (am_H)) (v0 : Option Nat) (v1 : Int32) (v3 : Int32) (s0 : Int32) (h : am_H) : Option (am_H) :=
  k40 v0 v1 v3 s0 (0 : Int32) h
def fX9_tick (v0 : Nat) (v1 : Int32) (v2 : Int32) (v3 : Int32) (h : am_H) : Option (am_H) :=
  (am_gi h (some v0) 9 44).bind fun x1 =>
  (am_rc h (some v0) 9).bind fun b3 =>
  (fX9_come b3 v1 (0 : Int32) x1 h).bind fun y2 =>
  (am_gr y2 (some v0) 9 10).bind fun x4 =>
  (am_al y2 x4 0 v2).bind fun x5 =>
  (am_gi y2 (some v0) 9 46).bind fun x6 =>
  if x6 = (4 : Int32) then
    (am_gi y2 (some v0) 9 49).bind fun x7 =>
    if v3 < x7 then
      (fX9_tick_39 fX9_tick_40) (some v0) v1 v3 x5 y2
    else
    (am_gi y2 (some v0) 9 48).bind fun x8 =>
    fX9_tick_40 (some v0) v1 v3 x5 x8 y2
  else
  (fX9_tick_39 fX9_tick_40) (some v0) v1 v3 x5 y2
/-! DroppingBallsModel.run(III)V -/
def fX9_run_103_b (rec : Option Nat → Int32 → Int32 → Int32 → Int32 → am_H → Option (am_H)) (v0 : Option Nat) (v1 : Int32) (v2 : Int32) (v3 : Int32) (v4 : Int32) (h : am_H) : Option (am_H) :=
  if v3 < v4 then
    some h
  else
  (am_rc h v0 9).bind fun b2 =>
  (fX9_tick b2 v1 v2 v4 h).bind fun y1 =>
  rec v0 v1 v2 v3 (v4 + (1 : Int32)) y1
def fX9_run_103 : Nat → Option Nat → Int32 → Int32 → Int32 → Int32 → am_H → Option (am_H)
  | 0, _, _, _, _, _, _ => none
  | n + 1, v0, v1, v2, v3, v4, h => fX9_run_103_b  (fX9_run_103  n) v0 v1 v2 v3 v4 h
def fX9_run_78_b (rec : Option Nat → Int32 → Int32 → Int32 → Int32 → am_H → Option (am_H)) (v0 : Option Nat) (v1 : Int32) (v2 : Int32) (v3 : Int32) (v4 : Int32) (h : am_H) : Option (am_H) :=
  if (12 : Int32) ≤ v4 then
    (fX9_run_103 am_fu) v0 v1 v2 v3 (0 : Int32) h
  else
  (am_gr h v0 9 56).bind fun x1 =>
  (am_as h x1 0 v4 (96 : Int32)).bind fun h2 =>
  rec v0 v1 v2 v3 (v4 + (1 : Int32)) h2
def fX9_run_78 : Nat → Option Nat → Int32 → Int32 → Int32 → Int32 → am_H → Option (am_H)
  | 0, _, _, _, _, _, _ => none
  | n + 1, v0, v1, v2, v3, v4, h => fX9_run_78_b  (fX9_run_78  n) v0 v1 v2 v3 v4 h
def fX9_run_3_b (rec : Option Nat → Int32 → Int32 → Int32 → Int32 → am_H → Option (am_H)) (v0 : Option Nat) (v1 : Int32) (v2 : Int32) (v3 : Int32) (v4 : Int32) (h : am_H) : Option (am_H) :=
  (am_gr h v0 9 1).bind fun x1 =>
  (am_al h x1 0 v1).bind fun x2 =>
  if x2 ≤ v4 then
    (am_pi h v0 9 51 (0 : Int32)).bind fun h3 =>
    (am_pi h3 v0 9 52 (0 : Int32)).bind fun h4 =>
    (am_pi h4 v0 9 53 (0 : Int32)).bind fun h5 =>
    (am_pi h5 v0 9 54 (0 : Int32)).bind fun h6 =>
    (am_pi h6 v0 9 55 (0 : Int32)).bind fun h7 =>
    (fX9_run_78 am_fu) v0 v1 v2 v3 (0 : Int32) h7
  else
  (am_gr h v0 9 50).bind fun x8 =>
  (am_gr h v0 9 2).bind fun x9 =>
  (am_al h x9 0 (((3 : Int32) * v1) + v4)).bind fun x10 =>
  (am_gr h v0 9 3).bind fun x11 =>
  (am_al h x11 0 (((3 : Int32) * v1) + v4)).bind fun x12 =>
  (am_as h x8 0 v4 (x10 * x12)).bind fun h13 =>
  rec v0 v1 v2 v3 (v4 + (1 : Int32)) h13
def fX9_run_3 : Nat → Option Nat → Int32 → Int32 → Int32 → Int32 → am_H → Option (am_H)
  | 0, _, _, _, _, _, _ => none
  | n + 1, v0, v1, v2, v3, v4, h => fX9_run_3_b  (fX9_run_3  n) v0 v1 v2 v3 v4 h
def fX9_run (v0 : Nat) (v1 : Int32) (v2 : Int32) (v3 : Int32) (h : am_H) : Option (am_H) :=
  (fX9_run_3 am_fu) (some v0) v1 v2 v3 (0 : Int32) h
/-! DroppingBallsModel.runAll(III)V -/
def fX9_runAll (v0 : Nat) (v1 : Int32) (v2 : Int32) (v3 : Int32) (h : am_H) : Option (am_H) :=
  (am_rc h (some v0) 9).bind fun b2 =>
  (fX9_load b2 v1 v3 h).bind fun y1 =>
  (am_rc y1 (some v0) 9).bind fun b4 =>
  (fX9_run b4 v1 v2 (95 : Int32) y1).bind fun y3 =>
  some y3
/-! DroppingBallsModel.asTick(I)I -/
def fX9_asTick (v0 : Int32) (h : am_H) : Option (Int32 × am_H) :=
  if v0 = (96 : Int32) then
    some ((-1 : Int32), h)
  else
  some (v0, h)
/-! DroppingBallsModel.drops(IIII)I -/
def fX9_drops (v0 : Nat) (v1 : Int32) (v2 : Int32) (v3 : Int32) (v4 : Int32) (h : am_H) : Option (Int32 × am_H) :=
  (am_rc h (some v0) 9).bind fun b2 =>
  (fX9_isRun b2 v1 v2 v3 h).bind fun y1 =>
  if y1.1 = 0 then
    some ((-101 : Int32), y1.2)
  else
  (am_rc y1.2 (some v0) 9).bind fun b4 =>
  (fX9_isBall b4 v1 v4 y1.2).bind fun y3 =>
  if y3.1 = 0 then
    some ((-101 : Int32), y3.2)
  else
  (am_rc y3.2 (some v0) 9).bind fun b6 =>
  (fX9_runAll b6 v1 v2 v3 y3.2).bind fun y5 =>
  (am_gr y5 (some v0) 9 56).bind fun x7 =>
  (am_al y5 x7 0 v4).bind fun x8 =>
  (fX9_asTick x8 y5).bind fun y9 =>
  some (y9.1, y9.2)
/-! DroppingBalls.daylightOf(I)I -/
def fX8_daylightOf (v0 : Nat) (v1 : Int32) (h : am_H) : Option (Int32 × am_H) :=
  (fX8_isSeason v1 h).bind fun y1 =>
  if y1.1 = 0 then
    some ((48 : Int32), y1.2)
  else
  (am_gr y1.2 (some v0) 8 7).bind fun x2 =>
  (am_gr y1.2 x2 6 1).bind fun x3 =>
  (am_al y1.2 x3 0 v1).bind fun x4 =>
  some (x4, y1.2)
/-! DroppingBalls$Clock.trueTick(II)I -/
def fX0_trueTick (v0 : Nat) (v1 : Int32) (v2 : Int32) (h : am_H) : Option (Int32 × am_H) :=
  (am_gi h (some v0) 0 8).bind fun x1 =>
  (fX8_quotient ((v1 + (1 : Int32)) * v2) x1 h).bind fun y2 =>
  some (y2.1, y2.2)
/-! DroppingBalls$Run.errorOf(II)I -/
def fX5_errorOf_17 (v0 : Option Nat) (v1 : Int32) (v2 : Int32) (s0 : Int32) (h : am_H) : Option (Int32 × am_H) :=
  (am_gr h v0 5 0).bind fun x1 =>
  (am_rc h x1 0).bind fun b3 =>
  (fX0_trueTick b3 v1 v2 h).bind fun y2 =>
  some (s0 - y2.1, y2.2)
def fX5_errorOf (v0 : Nat) (v1 : Int32) (v2 : Int32) (h : am_H) : Option (Int32 × am_H) :=
  (am_rc h (some v0) 5).bind fun b2 =>
  (fX5_tickOf b2 v1 h).bind fun y1 =>
  if y1.1 = (-1 : Int32) then
    fX5_errorOf_17 (some v0) v1 v2 (96 : Int32) y1.2
  else
  fX5_errorOf_17 (some v0) v1 v2 y1.1 y1.2
/-! DroppingBalls.error(IIII)I -/
def fX8_error (v0 : Nat) (v1 : Int32) (v2 : Int32) (v3 : Int32) (v4 : Int32) (h : am_H) : Option (Int32 × am_H) :=
  (am_rc h (some v0) 8).bind fun b2 =>
  (fX8_startRun b2 v1 v2 v3 h).bind fun y1 =>
  if y1.1 = 0 then
    some ((-1001 : Int32), y1.2)
  else
  (am_gr y1.2 (some v0) 8 14).bind fun x3 =>
  (am_gr y1.2 x3 5 0).bind fun x4 =>
  (am_rc y1.2 x4 0).bind fun b6 =>
  (fX0_hasBall b6 v4 y1.2).bind fun y5 =>
  if y5.1 = 0 then
    some ((-1001 : Int32), y5.2)
  else
  (am_gr y5.2 (some v0) 8 14).bind fun x7 =>
  (am_rc y5.2 x7 5).bind fun b9 =>
  (fX5_goOnTo b9 (96 : Int32) y5.2).bind fun y8 =>
  (am_gr y8 (some v0) 8 14).bind fun x10 =>
  (am_rc y8 (some v0) 8).bind fun b12 =>
  (fX8_daylightOf b12 v2 y8).bind fun y11 =>
  (am_rc y11.2 x10 5).bind fun b14 =>
  (fX5_errorOf b14 v4 y11.1 y11.2).bind fun y13 =>
  some (y13.1, y13.2)
/-! DroppingBallsModel.errorOf(III)I -/
def fX9_errorOf (v0 : Nat) (v1 : Int32) (v2 : Int32) (v3 : Int32) (h : am_H) : Option (Int32 × am_H) :=
  (am_gr h (some v0) 9 56).bind fun x1 =>
  (am_al h x1 0 v3).bind fun x2 =>
  (am_gr h (some v0) 9 11).bind fun x3 =>
  (am_al h x3 0 v2).bind fun x4 =>
  (am_gr h (some v0) 9 8).bind fun x5 =>
  (am_al h x5 0 v1).bind fun x6 =>
  if x6 = 0 then none else
  some (x2 - (((v3 + (1 : Int32)) * x4) / x6), h)
/-! DroppingBallsModel.error(IIII)I -/
def fX9_error (v0 : Nat) (v1 : Int32) (v2 : Int32) (v3 : Int32) (v4 : Int32) (h : am_H) : Option (Int32 × am_H) :=
  (am_rc h (some v0) 9).bind fun b2 =>
  (fX9_isRun b2 v1 v2 v3 h).bind fun y1 =>
  if y1.1 = 0 then
    some ((-1001 : Int32), y1.2)
  else
  (am_rc y1.2 (some v0) 9).bind fun b4 =>
  (fX9_isBall b4 v1 v4 y1.2).bind fun y3 =>
  if y3.1 = 0 then
    some ((-1001 : Int32), y3.2)
  else
  (am_rc y3.2 (some v0) 9).bind fun b6 =>
  (fX9_runAll b6 v1 v2 v3 y3.2).bind fun y5 =>
  (am_rc y5 (some v0) 9).bind fun b8 =>
  (fX9_errorOf b8 v1 v2 v4 y5).bind fun y7 =>
  some (y7.1, y7.2)
/-! DroppingBalls$Run.measure(I)I -/
def fX5_measure (v0 : Nat) (v1 : Int32) (h : am_H) : Option (Int32 × am_H) :=
  if v1 = (3 : Int32) then
    (am_gi h (some v0) 5 5).bind fun x1 =>
    some (x1, h)
  else
  if v1 = (4 : Int32) then
    (am_gi h (some v0) 5 10).bind fun x2 =>
    some (x2, h)
  else
  if v1 = (5 : Int32) then
    (am_gi h (some v0) 5 7).bind fun x3 =>
    some (x3, h)
  else
  if v1 = (6 : Int32) then
    (am_gi h (some v0) 5 8).bind fun x4 =>
    some (x4, h)
  else
  if v1 = (7 : Int32) then
    (am_gi h (some v0) 5 9).bind fun x5 =>
    some (x5, h)
  else
  (am_gr h (some v0) 5 0).bind fun x6 =>
  (am_rc h x6 0).bind fun b8 =>
  (fX0_hasVessel b8 v1 h).bind fun y7 =>
  if y7.1 = 0 then
    some ((-1 : Int32), y7.2)
  else
  (am_gr y7.2 (some v0) 5 4).bind fun x9 =>
  (am_al y7.2 x9 0 v1).bind fun x10 =>
  some (x10, y7.2)
/-! DroppingBalls.at(IIIII)I -/
def fX8_at (v0 : Nat) (v1 : Int32) (v2 : Int32) (v3 : Int32) (v4 : Int32) (v5 : Int32) (h : am_H) : Option (Int32 × am_H) :=
  (am_rc h (some v0) 8).bind fun b2 =>
  (fX8_startRun b2 v1 v2 v3 h).bind fun y1 =>
  if y1.1 = 0 then
    some ((-101 : Int32), y1.2)
  else
  (fX8_isTick v4 y1.2).bind fun y3 =>
  if y3.1 = 0 then
    some ((-102 : Int32), y3.2)
  else
  (fX8_isIn v5 (0 : Int32) (7 : Int32) y3.2).bind fun y4 =>
  if y4.1 = 0 then
    some ((-102 : Int32), y4.2)
  else
  (am_gr y4.2 (some v0) 8 14).bind fun x5 =>
  (am_rc y4.2 x5 5).bind fun b7 =>
  (fX5_goOnTo b7 (v4 + (1 : Int32)) y4.2).bind fun y6 =>
  (am_gr y6 (some v0) 8 14).bind fun x8 =>
  (am_rc y6 x8 5).bind fun b10 =>
  (fX5_measure b10 v5 y6).bind fun y9 =>
  some (y9.1, y9.2)
/-! DroppingBallsModel.at(IIIII)I -/
def fX9_at (v0 : Nat) (v1 : Int32) (v2 : Int32) (v3 : Int32) (v4 : Int32) (v5 : Int32) (h : am_H) : Option (Int32 × am_H) :=
  (am_rc h (some v0) 9).bind fun b2 =>
  (fX9_isRun b2 v1 v2 v3 h).bind fun y1 =>
  if y1.1 = 0 then
    some ((-101 : Int32), y1.2)
  else
  (fX9_within v4 (0 : Int32) (95 : Int32) y1.2).bind fun y3 =>
  if y3.1 = 0 then
    some ((-102 : Int32), y3.2)
  else
  (fX9_within v5 (0 : Int32) (7 : Int32) y3.2).bind fun y4 =>
  if y4.1 = 0 then
    some ((-102 : Int32), y4.2)
  else
  (am_rc y4.2 (some v0) 9).bind fun b6 =>
  (fX9_load b6 v1 v3 y4.2).bind fun y5 =>
  (am_rc y5 (some v0) 9).bind fun b8 =>
  (fX9_run b8 v1 v2 v4 y5).bind fun y7 =>
  if v5 = (3 : Int32) then
    (am_gi y7 (some v0) 9 51).bind fun x9 =>
    some (x9, y7)
  else
  if v5 = (4 : Int32) then
    (am_gi y7 (some v0) 9 55).bind fun x10 =>
    some (x10, y7)
  else
  if v5 = (5 : Int32) then
    (am_gi y7 (some v0) 9 52).bind fun x11 =>
    some (x11, y7)
  else
  if v5 = (6 : Int32) then
    (am_gi y7 (some v0) 9 53).bind fun x12 =>
    some (x12, y7)
  else
  if v5 = (7 : Int32) then
    (am_gi y7 (some v0) 9 54).bind fun x13 =>
    some (x13, y7)
  else
  (am_gr y7 (some v0) 9 1).bind fun x14 =>
  (am_al y7 x14 0 v1).bind fun x15 =>
  if x15 ≤ v5 then
    some ((-1 : Int32), y7)
  else
  (am_gr y7 (some v0) 9 50).bind fun x16 =>
  (am_al y7 x16 0 v5).bind fun x17 =>
  some (x17, y7)
/-! DroppingBalls.even(IIII)I -/
def fX8_even (v0 : Nat) (v1 : Int32) (v2 : Int32) (v3 : Int32) (v4 : Int32) (h : am_H) : Option (Int32 × am_H) :=
  (am_rc h (some v0) 8).bind fun b2 =>
  (fX8_startRun b2 v1 v2 v3 h).bind fun y1 =>
  if y1.1 = 0 then
    some ((-101 : Int32), y1.2)
  else
  (fX8_isIn v4 (0 : Int32) (1 : Int32) y1.2).bind fun y3 =>
  if y3.1 = 0 then
    some ((-102 : Int32), y3.2)
  else
  (am_gr y3.2 (some v0) 8 14).bind fun x4 =>
  (am_rc y3.2 x4 5).bind fun b6 =>
  (fX5_goOnTo b6 (96 : Int32) y3.2).bind fun y5 =>
  if v4 = 0 then
    (am_gr y5 (some v0) 8 14).bind fun x9 =>
    (am_gi y5 x9 5 12).bind fun x10 =>
    some (x10, y5)
  else
  (am_gr y5 (some v0) 8 14).bind fun x7 =>
  (am_gi y5 x7 5 13).bind fun x8 =>
  some (x8, y5)
/-! DroppingBallsModel.even(IIII)I -/
def fX9_even (v0 : Nat) (v1 : Int32) (v2 : Int32) (v3 : Int32) (v4 : Int32) (h : am_H) : Option (Int32 × am_H) :=
  (am_rc h (some v0) 9).bind fun b2 =>
  (fX9_isRun b2 v1 v2 v3 h).bind fun y1 =>
  if y1.1 = 0 then
    some ((-101 : Int32), y1.2)
  else
  (fX9_within v4 (0 : Int32) (1 : Int32) y1.2).bind fun y3 =>
  if y3.1 = 0 then
    some ((-102 : Int32), y3.2)
  else
  (am_rc y3.2 (some v0) 9).bind fun b5 =>
  (fX9_runAll b5 v1 v2 v3 y3.2).bind fun y4 =>
  if v4 = 0 then
    (am_gi y4 (some v0) 9 57).bind fun x7 =>
    some (x7, y4)
  else
  (am_gi y4 (some v0) 9 58).bind fun x6 =>
  some (x6, y4)
/-! DroppingBalls$Run.errorSize(II)I -/
def fX5_errorSize (v0 : Nat) (v1 : Int32) (v2 : Int32) (h : am_H) : Option (Int32 × am_H) :=
  (am_rc h (some v0) 5).bind fun b2 =>
  (fX5_errorOf b2 v1 v2 h).bind fun y1 =>
  some (if 0 ≤ y1.1 then y1.1 else 0 - y1.1, y1.2)
/-! DroppingBalls.commonMeasure(II)I -/
def fX8_commonMeasure_7_b (rec : Int32 → Int32 → Int32 → am_H → Option (Int32 × am_H)) (v2 : Int32) (v3 : Int32) (v4 : Int32) (h : am_H) : Option (Int32 × am_H) :=
  if (100 : Int32) ≤ v4 then
    some (v2, h)
  else
  if v3 ≤ 0 then
    some (v2, h)
  else
  if v3 = 0 then none else
  rec v3 (v2 - v2 / v3 * v3) (v4 + (1 : Int32)) h
def fX8_commonMeasure_7 : Nat → Int32 → Int32 → Int32 → am_H → Option (Int32 × am_H)
  | 0, _, _, _, _ => none
  | n + 1, v2, v3, v4, h => fX8_commonMeasure_7_b  (fX8_commonMeasure_7  n) v2 v3 v4 h
def fX8_commonMeasure (v0 : Int32) (v1 : Int32) (h : am_H) : Option (Int32 × am_H) :=
  (fX8_commonMeasure_7 am_fu) v0 v1 (0 : Int32) h
/-! DroppingBalls.mean(IIII)I -/
def fX8_mean_105 (v5 : Int32) (v6 : Int32) (s0 : Int32) (h : am_H) : Option (Int32 × am_H) :=
  (fX8_commonMeasure v5 v6 h).bind fun y1 =>
  (fX8_quotient s0 y1.1 y1.2).bind fun y2 =>
  some (y2.1, y2.2)
def fX8_mean_41_b (rec : Option Nat → Int32 → Int32 → Int32 → Int32 → am_H → Option (Int32 × am_H)) (v0 : Option Nat) (v2 : Int32) (v4 : Int32) (v5 : Int32) (v6 : Int32) (h : am_H) : Option (Int32 × am_H) :=
  (am_gr h v0 8 14).bind fun x1 =>
  (am_gr h x1 5 0).bind fun x2 =>
  (am_gi h x2 0 8).bind fun x3 =>
  if x3 ≤ v6 then
    (am_gr h v0 8 14).bind fun x4 =>
    (am_gr h x4 5 0).bind fun x5 =>
    (am_gi h x5 0 8).bind fun x6 =>
    if v4 = 0 then
      fX8_mean_105 v5 x6 v5 h
    else
    fX8_mean_105 v5 x6 x6 h
  else
  (am_gr h v0 8 14).bind fun x7 =>
  (am_rc h v0 8).bind fun b9 =>
  (fX8_daylightOf b9 v2 h).bind fun y8 =>
  (am_rc y8.2 x7 5).bind fun b11 =>
  (fX5_errorSize b11 v6 y8.1 y8.2).bind fun y10 =>
  rec v0 v2 v4 (v5 + y10.1) (v6 + (1 : Int32)) y10.2
def fX8_mean_41 : Nat → Option Nat → Int32 → Int32 → Int32 → Int32 → am_H → Option (Int32 × am_H)
  | 0, _, _, _, _, _, _ => none
  | n + 1, v0, v2, v4, v5, v6, h => fX8_mean_41_b  (fX8_mean_41  n) v0 v2 v4 v5 v6 h
def fX8_mean (v0 : Nat) (v1 : Int32) (v2 : Int32) (v3 : Int32) (v4 : Int32) (h : am_H) : Option (Int32 × am_H) :=
  (am_rc h (some v0) 8).bind fun b2 =>
  (fX8_startRun b2 v1 v2 v3 h).bind fun y1 =>
  if y1.1 = 0 then
    some ((-101 : Int32), y1.2)
  else
  (fX8_isIn v4 (0 : Int32) (1 : Int32) y1.2).bind fun y3 =>
  if y3.1 = 0 then
    some ((-102 : Int32), y3.2)
  else
  (am_gr y3.2 (some v0) 8 14).bind fun x4 =>
  (am_rc y3.2 x4 5).bind fun b6 =>
  (fX5_goOnTo b6 (96 : Int32) y3.2).bind fun y5 =>
  (fX8_mean_41 am_fu) (some v0) v2 v4 (0 : Int32) (0 : Int32) y5
/-! DroppingBallsModel.size(I)I -/
def fX9_size (v0 : Int32) (h : am_H) : Option (Int32 × am_H) :=
  if 0 ≤ v0 then
    some (v0, h)
  else
  some (-v0, h)
/-! DroppingBallsModel.errors(II)I -/
def fX9_errors_5_b (rec : Option Nat → Int32 → Int32 → Int32 → Int32 → am_H → Option (Int32 × am_H)) (v0 : Option Nat) (v1 : Int32) (v2 : Int32) (v3 : Int32) (v4 : Int32) (h : am_H) : Option (Int32 × am_H) :=
  (am_gr h v0 9 8).bind fun x1 =>
  (am_al h x1 0 v1).bind fun x2 =>
  if x2 ≤ v4 then
    some (v3, h)
  else
  (am_rc h v0 9).bind fun b4 =>
  (fX9_errorOf b4 v1 v2 v4 h).bind fun y3 =>
  (fX9_size y3.1 y3.2).bind fun y5 =>
  rec v0 v1 v2 (v3 + y5.1) (v4 + (1 : Int32)) y5.2
def fX9_errors_5 : Nat → Option Nat → Int32 → Int32 → Int32 → Int32 → am_H → Option (Int32 × am_H)
  | 0, _, _, _, _, _, _ => none
  | n + 1, v0, v1, v2, v3, v4, h => fX9_errors_5_b  (fX9_errors_5  n) v0 v1 v2 v3 v4 h
def fX9_errors (v0 : Nat) (v1 : Int32) (v2 : Int32) (h : am_H) : Option (Int32 × am_H) :=
  (fX9_errors_5 am_fu) (some v0) v1 v2 (0 : Int32) (0 : Int32) h
/-! DroppingBallsModel.mean(IIII)I -/
def fX9_mean_53_b (rec : Option Nat → Int32 → Int32 → Int32 → Int32 → Int32 → am_H → Option (Int32 × am_H)) (v0 : Option Nat) (v1 : Int32) (v4 : Int32) (v5 : Int32) (v6 : Int32) (v7 : Int32) (h : am_H) : Option (Int32 × am_H) :=
  if v7 = 0 then
    if v4 = 0 then
      if v6 = 0 then none else
      some (v5 / v6, h)
    else
    (am_gr h v0 9 8).bind fun x1 =>
    (am_al h x1 0 v1).bind fun x2 =>
    if v6 = 0 then none else
    some (x2 / v6, h)
  else
  if v7 = 0 then none else
  rec v0 v1 v4 v5 v7 (v6 - v6 / v7 * v7) h
def fX9_mean_53 : Nat → Option Nat → Int32 → Int32 → Int32 → Int32 → Int32 → am_H → Option (Int32 × am_H)
  | 0, _, _, _, _, _, _, _ => none
  | n + 1, v0, v1, v4, v5, v6, v7, h => fX9_mean_53_b  (fX9_mean_53  n) v0 v1 v4 v5 v6 v7 h
def fX9_mean (v0 : Nat) (v1 : Int32) (v2 : Int32) (v3 : Int32) (v4 : Int32) (h : am_H) : Option (Int32 × am_H) :=
  (am_rc h (some v0) 9).bind fun b2 =>
  (fX9_isRun b2 v1 v2 v3 h).bind fun y1 =>
  if y1.1 = 0 then
    some ((-101 : Int32), y1.2)
  else
  (fX9_within v4 (0 : Int32) (1 : Int32) y1.2).bind fun y3 =>
  if y3.1 = 0 then
    some ((-102 : Int32), y3.2)
  else
  (am_rc y3.2 (some v0) 9).bind fun b5 =>
  (fX9_runAll b5 v1 v2 v3 y3.2).bind fun y4 =>
  (am_rc y4 (some v0) 9).bind fun b7 =>
  (fX9_errors b7 v1 v2 y4).bind fun y6 =>
  (am_gr y6.2 (some v0) 9 8).bind fun x8 =>
  (am_al y6.2 x8 0 v1).bind fun x9 =>
  (fX9_mean_53 am_fu) (some v0) v1 v4 y6.1 y6.1 x9 y6.2
/-! DroppingBalls$Play.start()V -/
def fX4_start_2_b (rec : Option Nat → Int32 → am_H → Option (am_H)) (v0 : Option Nat) (v1 : Int32) (h : am_H) : Option (am_H) :=
  if (10 : Int32) ≤ v1 then
    (am_gr h v0 4 2).bind fun x1 =>
    (fJ7_fill_53178 x1 (0 : Int32) h).bind fun y2 =>
    (am_gr y2 v0 4 6).bind fun x3 =>
    (fJ7_fill_53178 x3 (-1 : Int32) y2).bind fun y4 =>
    (am_pi y4 v0 4 5 (0 : Int32)).bind fun h5 =>
    (am_pi h5 v0 4 7 (0 : Int32)).bind fun h6 =>
    (am_pi h6 v0 4 8 (0 : Int32)).bind fun h7 =>
    (am_pi h7 v0 4 9 (0 : Int32)).bind fun h8 =>
    (am_pi h8 v0 4 10 (-1 : Int32)).bind fun h9 =>
    (am_pi h9 v0 4 11 (-1 : Int32)).bind fun h10 =>
    some h10
  else
  (am_gr h v0 4 0).bind fun x11 =>
  (am_as h x11 0 v1 (0 : Int32)).bind fun h12 =>
  (am_gr h12 v0 4 1).bind fun x13 =>
  (am_as h12 x13 3 v1 (vp_nar .boolean (0 : Int32))).bind fun h14 =>
  rec v0 (v1 + (1 : Int32)) h14
def fX4_start_2 : Nat → Option Nat → Int32 → am_H → Option (am_H)
  | 0, _, _, _ => none
  | n + 1, v0, v1, h => fX4_start_2_b  (fX4_start_2  n) v0 v1 h
def fX4_start (v0 : Nat) (h : am_H) : Option (am_H) :=
  (fX4_start_2 am_fu) (some v0) (0 : Int32) h
/-! DroppingBalls$Play.comesOut(LDroppingBalls$Work;I)Z -/
def fX4_comesOut_98 (s0 : Option Nat) (s1 : Int32) (h : am_H) : Option (Int32 × am_H) :=
  (am_pi h s0 4 10 s1).bind fun h1 =>
  am_zr (0 : Int32) h1
def fX4_comesOut_132 (v0 : Option Nat) (h : am_H) : Option (Int32 × am_H) :=
  (am_gi h v0 4 7).bind fun x1 =>
  (am_pi h v0 4 7 (x1 + (1 : Int32))).bind fun h2 =>
  am_zr (1 : Int32) h2
def fX4_comesOut_78 (v0 : Option Nat) (v3 : Int32) (s0 : Option Nat) (s1 : Int32) (h : am_H) : Option (Int32 × am_H) :=
  (am_pi h s0 4 11 s1).bind fun h1 =>
  (am_gi h1 v0 4 10).bind fun x2 =>
  if x2 = (-1 : Int32) then
    fX4_comesOut_98 v0 v3 h1
  else
  (am_gi h1 v0 4 10).bind fun x3 =>
  fX4_comesOut_98 v0 x3 h1
def fX4_comesOut (v0 : Nat) (v1 : Option Nat) (v2 : Int32) (h : am_H) : Option (Int32 × am_H) :=
  (am_gi h v1 7 0).bind fun x1 =>
  (am_gi h v1 7 2).bind fun x2 =>
  if x1 < 0 then
    am_zr (0 : Int32) h
  else
  if (10 : Int32) ≤ x1 then
    am_zr (0 : Int32) h
  else
  if x2 < 0 then
    am_zr (0 : Int32) h
  else
  if (4 : Int32) ≤ x2 then
    am_zr (0 : Int32) h
  else
  (am_gr h (some v0) 4 1).bind fun x3 =>
  (am_al h x3 3 x1).bind fun x4 =>
  if x4 = 0 then
    (am_gr h (some v0) 4 2).bind fun x5 =>
    (am_al h x5 0 x2).bind fun x6 =>
    if x6 ≤ v2 then
      (am_gr h (some v0) 4 2).bind fun x7 =>
      (am_as h x7 0 x2 (v2 + (3 : Int32))).bind fun h8 =>
      (am_gi h8 (some v0) 4 7).bind fun x9 =>
      if (20 : Int32) ≤ x9 then
        fX4_comesOut_132 (some v0) h8
      else
      (am_gr h8 (some v0) 4 6).bind fun x10 =>
      (am_gi h8 (some v0) 4 7).bind fun x11 =>
      (am_as h8 x10 0 x11 x1).bind fun h12 =>
      fX4_comesOut_132 (some v0) h12
    else
    (am_gr h (some v0) 4 1).bind fun x13 =>
    (am_as h x13 3 x1 (vp_nar .boolean (1 : Int32))).bind fun h14 =>
    (am_gi h14 (some v0) 4 10).bind fun x15 =>
    if x15 = (-1 : Int32) then
      fX4_comesOut_78 (some v0) x1 (some v0) v2 h14
    else
    (am_gi h14 (some v0) 4 11).bind fun x16 =>
    fX4_comesOut_78 (some v0) x1 (some v0) x16 h14
  else
  am_zr (0 : Int32) h
/-! DroppingBalls$Play.turn(LDroppingBalls$Work;I)V -/
def fX4_turn (v0 : Nat) (v1 : Option Nat) (v2 : Int32) (h : am_H) : Option (am_H) :=
  (am_gi h (some v0) 4 5).bind fun x1 =>
  (am_gr h (some v0) 4 3).bind fun x2 =>
  (am_an h x2).bind fun x3 =>
  if x3 ≤ x1 then
    some h
  else
  (am_gi h (some v0) 4 5).bind fun x4 =>
  (am_gr h (some v0) 4 4).bind fun x5 =>
  (am_an h x5).bind fun x6 =>
  if x6 ≤ x4 then
    some h
  else
  (am_gr h (some v0) 4 3).bind fun x7 =>
  (am_gi h (some v0) 4 5).bind fun x8 =>
  (am_asr h x7 6 x8 v1).bind fun h9 =>
  (am_gr h9 (some v0) 4 4).bind fun x10 =>
  (am_gi h9 (some v0) 4 5).bind fun x11 =>
  (am_gi h9 v1 7 2).bind fun x12 =>
  (am_as h9 x10 0 x11 (v2 + x12)).bind fun h13 =>
  (am_gi h13 (some v0) 4 5).bind fun x14 =>
  (am_pi h13 (some v0) 4 5 (x14 + (1 : Int32))).bind fun h15 =>
  some h15
/-! DroppingBalls$Play.isCountedOut(LDroppingBalls$Work;)Z -/
def fX4_isCountedOut (v0 : Nat) (v1 : Option Nat) (h : am_H) : Option (Int32 × am_H) :=
  (am_gi h v1 7 0).bind fun x1 =>
  if x1 < 0 then
    am_zr (0 : Int32) h
  else
  if (10 : Int32) ≤ x1 then
    am_zr (0 : Int32) h
  else
  (am_gi h v1 7 2).bind fun x2 =>
  if (1 : Int32) ≤ x2 then
    (am_gr h (some v0) 4 0).bind fun x3 =>
    (am_al h x3 0 x1).bind fun x4 =>
    (am_as h x3 0 x1 (x4 + (1 : Int32))).bind fun h5 =>
    (am_gr h5 (some v0) 4 0).bind fun x6 =>
    (am_al h5 x6 0 x1).bind fun x7 =>
    (am_gi h5 v1 7 2).bind fun x8 =>
    if x8 = 0 then none else
    if (x7 - x7 / x8 * x8) = 0 then
      am_zr (1 : Int32) h5
    else
    am_zr (0 : Int32) h5
  else
  am_zr (0 : Int32) h
/-! DroppingBalls$Play.strikesOn(LDroppingBalls$Work;I)Z -/
def fX4_strikesOn (v0 : Nat) (v1 : Option Nat) (v2 : Int32) (h : am_H) : Option (Int32 × am_H) :=
  (am_gi h v1 7 1).bind fun x1 =>
  if x1 = (1 : Int32) then
    (am_gi h (some v0) 4 9).bind fun x2 =>
    (am_gi h (some v0) 4 8).bind fun x3 =>
    (am_gi h v1 7 2).bind fun x4 =>
    (am_pi h (some v0) 4 9 (x2 + (x3 + x4))).bind fun h5 =>
    am_zr (1 : Int32) h5
  else
  if x1 = (2 : Int32) then
    (am_rc h (some v0) 4).bind fun b7 =>
    (fX4_comesOut b7 v1 v2 h).bind fun y6 =>
    am_zr y6.1 y6.2
  else
  if x1 = (3 : Int32) then
    (am_rc h (some v0) 4).bind fun b9 =>
    (fX4_turn b9 v1 v2 h).bind fun y8 =>
    am_zr (0 : Int32) y8
  else
  if x1 = (4 : Int32) then
    (am_rc h (some v0) 4).bind fun b11 =>
    (fX4_isCountedOut b11 v1 h).bind fun y10 =>
    am_zr y10.1 y10.2
  else
  am_zr (1 : Int32) h
/-! DroppingBalls$Play.strike(LDroppingBalls$Work;I)V -/
def fX4_strike_2_b (rec : Option Nat → Int32 → Option Nat → am_H → Option (am_H)) (v0 : Option Nat) (v2 : Int32) (v3 : Option Nat) (h : am_H) : Option (am_H) :=
  if v3 = none then
    some h
  else
  (am_rc h v0 4).bind fun b2 =>
  (fX4_strikesOn b2 v3 v2 h).bind fun y1 =>
  if y1.1 = 0 then
    some y1.2
  else
  (am_gr y1.2 v3 7 3).bind fun x3 =>
  rec v0 v2 x3 y1.2
def fX4_strike_2 : Nat → Option Nat → Int32 → Option Nat → am_H → Option (am_H)
  | 0, _, _, _, _ => none
  | n + 1, v0, v2, v3, h => fX4_strike_2_b  (fX4_strike_2  n) v0 v2 v3 h
def fX4_strike (v0 : Nat) (v1 : Option Nat) (v2 : Int32) (h : am_H) : Option (am_H) :=
  (fX4_strike_2 am_fu) (some v0) v2 v1 h
/-! DroppingBalls$Play.goThrough(IILDroppingBalls$Work;)V -/
def fX4_goThrough_81_b (rec : Option Nat → Int32 → Int32 → Option Nat → Int32 → am_H → Option (am_H)) (v0 : Option Nat) (v1 : Int32) (v2 : Int32) (v3 : Option Nat) (v5 : Int32) (h : am_H) : Option (am_H) :=
  if v2 ≤ v5 then
    some h
  else
  (am_gi h v0 4 8).bind fun x1 =>
  (am_pi h v0 4 8 (x1 + (1 : Int32))).bind fun h2 =>
  (am_rc h2 v0 4).bind fun b4 =>
  (fX4_strike b4 v3 v1 h2).bind fun y3 =>
  rec v0 v1 v2 v3 (v5 + (1 : Int32)) y3
def fX4_goThrough_81 : Nat → Option Nat → Int32 → Int32 → Option Nat → Int32 → am_H → Option (am_H)
  | 0, _, _, _, _, _, _ => none
  | n + 1, v0, v1, v2, v3, v5, h => fX4_goThrough_81_b  (fX4_goThrough_81  n) v0 v1 v2 v3 v5 h
def fX4_goThrough_78 (v0 : Option Nat) (v1 : Int32) (v2 : Int32) (v3 : Option Nat) (h : am_H) : Option (am_H) :=
  (fX4_goThrough_81 am_fu) v0 v1 v2 v3 (0 : Int32) h
def fX4_goThrough_72 (k9 : Option Nat → Int32 → Int32 → Option Nat → Int32 → Int32 → am_H → Option (am_H)) (v0 : Option Nat) (v1 : Int32) (v2 : Int32) (v3 : Option Nat) (v4 : Int32) (v5 : Int32) (h : am_H) : Option (am_H) :=
  k9 v0 v1 v2 v3 v4 (v5 + (1 : Int32)) h
def fX4_goThrough_9_b (rec : Option Nat → Int32 → Int32 → Option Nat → Int32 → Int32 → am_H → Option (am_H)) (v0 : Option Nat) (v1 : Int32) (v2 : Int32) (v3 : Option Nat) (v4 : Int32) (v5 : Int32) (h : am_H) : Option (am_H) :=
  if v4 ≤ v5 then
    fX4_goThrough_78 v0 v1 v2 v3 h
  else
  (am_gr h v0 4 3).bind fun x1 =>
  (am_an h x1).bind fun x2 =>
  if x2 ≤ v5 then
    fX4_goThrough_78 v0 v1 v2 v3 h
  else
  (am_gr h v0 4 4).bind fun x3 =>
  (am_an h x3).bind fun x4 =>
  if x4 ≤ v5 then
    fX4_goThrough_78 v0 v1 v2 v3 h
  else
  (am_gr h v0 4 4).bind fun x5 =>
  (am_al h x5 0 v5).bind fun x6 =>
  if x6 = v1 then
    (am_gr h v0 4 3).bind fun x7 =>
    (am_alr h x7 6 v5).bind fun x8 =>
    if x8 = none then
      (fX4_goThrough_72 rec) v0 v1 v2 v3 v4 v5 h
    else
    (am_gr h v0 4 3).bind fun x9 =>
    (am_alr h x9 6 v5).bind fun x10 =>
    (am_gr h x10 7 3).bind fun x11 =>
    (am_rc h v0 4).bind fun b13 =>
    (fX4_strike b13 x11 v1 h).bind fun y12 =>
    (fX4_goThrough_72 rec) v0 v1 v2 v3 v4 v5 y12
  else
  (fX4_goThrough_72 rec) v0 v1 v2 v3 v4 v5 h
def fX4_goThrough_9 : Nat → Option Nat → Int32 → Int32 → Option Nat → Int32 → Int32 → am_H → Option (am_H)
  | 0, _, _, _, _, _, _, _ => none
  | n + 1, v0, v1, v2, v3, v4, v5, h => fX4_goThrough_9_b  (fX4_goThrough_9  n) v0 v1 v2 v3 v4 v5 h
def fX4_goThrough (v0 : Nat) (v1 : Int32) (v2 : Int32) (v3 : Option Nat) (h : am_H) : Option (am_H) :=
  (am_gi h (some v0) 4 5).bind fun x1 =>
  (fX4_goThrough_9 am_fu) (some v0) v1 v2 v3 x1 (0 : Int32) h
/-! DroppingBalls.playRun()V -/
def fX8_playRun_21_b (rec : Option Nat → Option Nat → Int32 → am_H → Option (am_H)) (v0 : Option Nat) (v1 : Option Nat) (v2 : Int32) (h : am_H) : Option (am_H) :=
  if (96 : Int32) ≤ v2 then
    some h
  else
  (am_gr h v0 8 14).bind fun x1 =>
  (am_gi h x1 5 10).bind fun x2 =>
  (am_gr h v0 8 14).bind fun x3 =>
  (am_rc h x3 5).bind fun b5 =>
  (fX5_advance b5 h).bind fun y4 =>
  (am_gr y4 v0 8 16).bind fun x6 =>
  (am_gr y4 v0 8 14).bind fun x7 =>
  (am_gi y4 x7 5 10).bind fun x8 =>
  (am_rc y4 x6 4).bind fun b10 =>
  (fX4_goThrough b10 v2 (x8 - x2) v1 y4).bind fun y9 =>
  rec v0 v1 (v2 + (1 : Int32)) y9
def fX8_playRun_21 : Nat → Option Nat → Option Nat → Int32 → am_H → Option (am_H)
  | 0, _, _, _, _ => none
  | n + 1, v0, v1, v2, h => fX8_playRun_21_b  (fX8_playRun_21  n) v0 v1 v2 h
def fX8_playRun (v0 : Nat) (h : am_H) : Option (am_H) :=
  (am_gr h (some v0) 8 7).bind fun x1 =>
  (am_gi h x1 6 3).bind fun x2 =>
  (am_rc h (some v0) 8).bind fun b4 =>
  (fX8_workOf b4 x2 h).bind fun y3 =>
  (am_gr y3.2 (some v0) 8 16).bind fun x5 =>
  (am_rc y3.2 x5 4).bind fun b7 =>
  (fX4_start b7 y3.2).bind fun y6 =>
  (fX8_playRun_21 am_fu) (some v0) y3.1 (0 : Int32) y6
/-! DroppingBalls$Play.measure(I)I -/
def fX4_measure (v0 : Nat) (v1 : Int32) (h : am_H) : Option (Int32 × am_H) :=
  if v1 = (0 : Int32) then
    (am_gi h (some v0) 4 9).bind fun x1 =>
    some (x1, h)
  else
  if v1 = (1 : Int32) then
    (am_gi h (some v0) 4 7).bind fun x2 =>
    some (x2, h)
  else
  if v1 = (2 : Int32) then
    (am_gi h (some v0) 4 10).bind fun x3 =>
    some (x3, h)
  else
  (am_gi h (some v0) 4 11).bind fun x4 =>
  some (x4, h)
/-! DroppingBalls$Play.figureOf(I)I -/
def fX4_figureOf (v0 : Nat) (v1 : Int32) (h : am_H) : Option (Int32 × am_H) :=
  (fX8_isIn v1 (0 : Int32) (19 : Int32) h).bind fun y1 =>
  if y1.1 = 0 then
    some ((-1 : Int32), y1.2)
  else
  (am_gr y1.2 (some v0) 4 6).bind fun x2 =>
  (am_al y1.2 x2 0 v1).bind fun x3 =>
  some (x3, y1.2)
/-! DroppingBalls.shows(IIII)I -/
def fX8_shows_38 (v0 : Option Nat) (v4 : Int32) (h : am_H) : Option (Int32 × am_H) :=
  (am_rc h v0 8).bind fun b2 =>
  (fX8_playRun b2 h).bind fun y1 =>
  if (10 : Int32) ≤ v4 then
    (am_gr y1 v0 8 16).bind fun x3 =>
    (am_rc y1 x3 4).bind fun b5 =>
    (fX4_figureOf b5 (v4 - (10 : Int32)) y1).bind fun y4 =>
    some (y4.1, y4.2)
  else
  (am_gr y1 v0 8 16).bind fun x6 =>
  (am_rc y1 x6 4).bind fun b8 =>
  (fX4_measure b8 v4 y1).bind fun y7 =>
  some (y7.1, y7.2)
def fX8_shows (v0 : Nat) (v1 : Int32) (v2 : Int32) (v3 : Int32) (v4 : Int32) (h : am_H) : Option (Int32 × am_H) :=
  (am_rc h (some v0) 8).bind fun b2 =>
  (fX8_startRun b2 v1 v2 v3 h).bind fun y1 =>
  if y1.1 = 0 then
    some ((-101 : Int32), y1.2)
  else
  (fX8_isIn v4 (0 : Int32) (3 : Int32) y1.2).bind fun y3 =>
  if y3.1 = 0 then
    (fX8_isIn v4 (10 : Int32) (29 : Int32) y3.2).bind fun y4 =>
    if y4.1 = 0 then
      some ((-102 : Int32), y4.2)
    else
    fX8_shows_38 (some v0) v4 y4.2
  else
  fX8_shows_38 (some v0) v4 y3.2
/-! DroppingBallsModel.struck(II)I -/
def fX9_struck_136 (s0 : Option Nat) (s1 : Int32) (h : am_H) : Option (Int32 × am_H) :=
  (am_pi h s0 9 64 s1).bind fun h1 =>
  some ((-1 : Int32), h1)
def fX9_struck_116 (v0 : Option Nat) (v1 : Int32) (s0 : Option Nat) (s1 : Int32) (h : am_H) : Option (Int32 × am_H) :=
  (am_pi h s0 9 65 s1).bind fun h1 =>
  (am_gi h1 v0 9 64).bind fun x2 =>
  if x2 = (-1 : Int32) then
    fX9_struck_136 v0 v1 h1
  else
  (am_gi h1 v0 9 64).bind fun x3 =>
  fX9_struck_136 v0 x3 h1
def fX9_struck (v0 : Nat) (v1 : Int32) (v2 : Int32) (h : am_H) : Option (Int32 × am_H) :=
  (am_gr h (some v0) 9 19).bind fun x1 =>
  (am_al h x1 0 v1).bind fun x2 =>
  (am_gr h (some v0) 9 20).bind fun x3 =>
  (am_al h x3 0 v1).bind fun x4 =>
  (am_gr h (some v0) 9 66).bind fun x5 =>
  (am_al h x5 3 v1).bind fun x6 =>
  if x6 = 0 then
    (am_gr h (some v0) 9 18).bind fun x7 =>
    (am_al h x7 0 v1).bind fun x8 =>
    if x8 = (1 : Int32) then
      (am_gi h (some v0) 9 60).bind fun x9 =>
      (am_gi h (some v0) 9 61).bind fun x10 =>
      (am_pi h (some v0) 9 60 (x9 + (x10 + x2))).bind fun h11 =>
      some (x4, h11)
    else
    if x8 = (2 : Int32) then
      (am_gr h (some v0) 9 68).bind fun x12 =>
      (am_al h x12 0 x2).bind fun x13 =>
      if x13 < v2 then
        (am_gr h (some v0) 9 68).bind fun x14 =>
        (am_as h x14 0 x2 (v2 + (2 : Int32))).bind fun h15 =>
        (am_gr h15 (some v0) 9 63).bind fun x16 =>
        (am_gi h15 (some v0) 9 62).bind fun x17 =>
        (am_as h15 x16 0 x17 v1).bind fun h18 =>
        (am_gi h18 (some v0) 9 62).bind fun x19 =>
        (am_pi h18 (some v0) 9 62 (x19 + (1 : Int32))).bind fun h20 =>
        some (x4, h20)
      else
      (am_gr h (some v0) 9 66).bind fun x21 =>
      (am_as h x21 3 v1 (vp_nar .boolean (1 : Int32))).bind fun h22 =>
      (am_gi h22 (some v0) 9 64).bind fun x23 =>
      if x23 = (-1 : Int32) then
        fX9_struck_116 (some v0) v1 (some v0) v2 h22
      else
      (am_gi h22 (some v0) 9 65).bind fun x24 =>
      fX9_struck_116 (some v0) v1 (some v0) x24 h22
    else
    if x8 = (3 : Int32) then
      if x4 = (-1 : Int32) then
        some ((-1 : Int32), h)
      else
      if (96 : Int32) ≤ (v2 + x2) then
        some ((-1 : Int32), h)
      else
      (am_gr h (some v0) 9 70).bind fun x25 =>
      (am_gi h (some v0) 9 69).bind fun x26 =>
      (am_as h x25 0 x26 (v2 + x2)).bind fun h27 =>
      (am_gr h27 (some v0) 9 71).bind fun x28 =>
      (am_gi h27 (some v0) 9 69).bind fun x29 =>
      (am_as h27 x28 0 x29 x4).bind fun h30 =>
      (am_gi h30 (some v0) 9 69).bind fun x31 =>
      (am_pi h30 (some v0) 9 69 (x31 + (1 : Int32))).bind fun h32 =>
      some ((-1 : Int32), h32)
    else
    if x8 = (4 : Int32) then
      (am_gr h (some v0) 9 67).bind fun x33 =>
      (am_al h x33 0 v1).bind fun x34 =>
      (am_as h x33 0 v1 (x34 + (1 : Int32))).bind fun h35 =>
      (am_gr h35 (some v0) 9 67).bind fun x36 =>
      (am_al h35 x36 0 v1).bind fun x37 =>
      if x2 = 0 then none else
      if (x37 - x37 / x2 * x2) = 0 then
        some (x4, h35)
      else
      some ((-1 : Int32), h35)
    else
    some (x4, h)
  else
  some ((-1 : Int32), h)
/-! DroppingBallsModel.strike(II)V -/
def fX9_strike_2_b (rec : Option Nat → Int32 → Int32 → am_H → Option (am_H)) (v0 : Option Nat) (v2 : Int32) (v3 : Int32) (h : am_H) : Option (am_H) :=
  if v3 = (-1 : Int32) then
    some h
  else
  (am_rc h v0 9).bind fun b2 =>
  (fX9_struck b2 v3 v2 h).bind fun y1 =>
  rec v0 v2 y1.1 y1.2
def fX9_strike_2 : Nat → Option Nat → Int32 → Int32 → am_H → Option (am_H)
  | 0, _, _, _, _ => none
  | n + 1, v0, v2, v3, h => fX9_strike_2_b  (fX9_strike_2  n) v0 v2 v3 h
def fX9_strike (v0 : Nat) (v1 : Int32) (v2 : Int32) (h : am_H) : Option (am_H) :=
  (fX9_strike_2 am_fu) (some v0) v2 v1 h
/-! DroppingBallsModel.show(I)V -/
def fX9_show_189 (k82 : Option Nat → Int32 → Int32 → am_H → Option (am_H)) (v0 : Option Nat) (v1 : Int32) (v2 : Int32) (h : am_H) : Option (am_H) :=
  k82 v0 v1 (v2 + (1 : Int32)) h
def fX9_show_183 (k134 : Option Nat → Int32 → Int32 → Int32 → am_H → Option (am_H)) (v0 : Option Nat) (v1 : Int32) (v2 : Int32) (v4 : Int32) (h : am_H) : Option (am_H) :=
  k134 v0 v1 v2 (v4 + (1 : Int32)) h
def fX9_show_134_b (k82 : Option Nat → Int32 → Int32 → am_H → Option (am_H)) (rec : Option Nat → Int32 → Int32 → Int32 → am_H → Option (am_H)) (v0 : Option Nat) (v1 : Int32) (v2 : Int32) (v4 : Int32) (h : am_H) : Option (am_H) :=
  (am_gr h v0 9 8).bind fun x1 =>
  (am_al h x1 0 v1).bind fun x2 =>
  if x2 ≤ v4 then
    (fX9_show_189 k82) v0 v1 v2 h
  else
  (am_gi h v0 9 21).bind fun x3 =>
  if x3 = (-1 : Int32) then
    (fX9_show_189 k82) v0 v1 v2 h
  else
  (am_gr h v0 9 56).bind fun x4 =>
  (am_al h x4 0 v4).bind fun x5 =>
  if x5 = v2 then
    (am_gi h v0 9 61).bind fun x6 =>
    (am_pi h v0 9 61 (x6 + (1 : Int32))).bind fun h7 =>
    (am_gi h7 v0 9 21).bind fun x8 =>
    (am_rc h7 v0 9).bind fun b10 =>
    (fX9_strike b10 x8 v2 h7).bind fun y9 =>
    (fX9_show_183 rec) v0 v1 v2 v4 y9
  else
  (fX9_show_183 rec) v0 v1 v2 v4 h
def fX9_show_134 (k82 : Option Nat → Int32 → Int32 → am_H → Option (am_H)) : Nat → Option Nat → Int32 → Int32 → Int32 → am_H → Option (am_H)
  | 0, _, _, _, _, _ => none
  | n + 1, v0, v1, v2, v4, h => fX9_show_134_b k82 (fX9_show_134 k82 n) v0 v1 v2 v4 h
def fX9_show_125 (k96 : Option Nat → Int32 → Int32 → Int32 → Int32 → am_H → Option (am_H)) (v0 : Option Nat) (v1 : Int32) (v2 : Int32) (v3 : Int32) (v4 : Int32) (h : am_H) : Option (am_H) :=
  k96 v0 v1 v2 v3 (v4 + (1 : Int32)) h
def fX9_show_96_b (k82 : Option Nat → Int32 → Int32 → am_H → Option (am_H)) (rec : Option Nat → Int32 → Int32 → Int32 → Int32 → am_H → Option (am_H)) (v0 : Option Nat) (v1 : Int32) (v2 : Int32) (v3 : Int32) (v4 : Int32) (h : am_H) : Option (am_H) :=
  if v3 ≤ v4 then
    (fX9_show_134 k82 am_fu) v0 v1 v2 (0 : Int32) h
  else
  (am_gr h v0 9 70).bind fun x1 =>
  (am_al h x1 0 v4).bind fun x2 =>
  if x2 = v2 then
    (am_gr h v0 9 71).bind fun x3 =>
    (am_al h x3 0 v4).bind fun x4 =>
    (am_rc h v0 9).bind fun b6 =>
    (fX9_strike b6 x4 v2 h).bind fun y5 =>
    (fX9_show_125 rec) v0 v1 v2 v3 v4 y5
  else
  (fX9_show_125 rec) v0 v1 v2 v3 v4 h
def fX9_show_96 (k82 : Option Nat → Int32 → Int32 → am_H → Option (am_H)) : Nat → Option Nat → Int32 → Int32 → Int32 → Int32 → am_H → Option (am_H)
  | 0, _, _, _, _, _, _ => none
  | n + 1, v0, v1, v2, v3, v4, h => fX9_show_96_b k82 (fX9_show_96 k82 n) v0 v1 v2 v3 v4 h
def fX9_show_82_b (rec : Option Nat → Int32 → Int32 → am_H → Option (am_H)) (v0 : Option Nat) (v1 : Int32) (v2 : Int32) (h : am_H) : Option (am_H) :=
  if (96 : Int32) ≤ v2 then
    some h
  else
  (am_gi h v0 9 69).bind fun x1 =>
  (fX9_show_96 rec am_fu) v0 v1 v2 x1 (0 : Int32) h
def fX9_show_82 : Nat → Option Nat → Int32 → Int32 → am_H → Option (am_H)
  | 0, _, _, _, _ => none
  | n + 1, v0, v1, v2, h => fX9_show_82_b  (fX9_show_82  n) v0 v1 v2 h
def fX9_show_62_b (rec : Option Nat → Int32 → Int32 → am_H → Option (am_H)) (v0 : Option Nat) (v1 : Int32) (v2 : Int32) (h : am_H) : Option (am_H) :=
  if (4 : Int32) ≤ v2 then
    (fX9_show_82 am_fu) v0 v1 (0 : Int32) h
  else
  (am_gr h v0 9 68).bind fun x1 =>
  (am_as h x1 0 v2 (-1 : Int32)).bind fun h2 =>
  rec v0 v1 (v2 + (1 : Int32)) h2
def fX9_show_62 : Nat → Option Nat → Int32 → Int32 → am_H → Option (am_H)
  | 0, _, _, _, _ => none
  | n + 1, v0, v1, v2, h => fX9_show_62_b  (fX9_show_62  n) v0 v1 v2 h
def fX9_show_32_b (rec : Option Nat → Int32 → Int32 → am_H → Option (am_H)) (v0 : Option Nat) (v1 : Int32) (v2 : Int32) (h : am_H) : Option (am_H) :=
  (am_gi h v0 9 17).bind fun x1 =>
  if x1 ≤ v2 then
    (fX9_show_62 am_fu) v0 v1 (0 : Int32) h
  else
  (am_gr h v0 9 66).bind fun x2 =>
  (am_as h x2 3 v2 (vp_nar .boolean (0 : Int32))).bind fun h3 =>
  (am_gr h3 v0 9 67).bind fun x4 =>
  (am_as h3 x4 0 v2 (0 : Int32)).bind fun h5 =>
  rec v0 v1 (v2 + (1 : Int32)) h5
def fX9_show_32 : Nat → Option Nat → Int32 → Int32 → am_H → Option (am_H)
  | 0, _, _, _, _ => none
  | n + 1, v0, v1, v2, h => fX9_show_32_b  (fX9_show_32  n) v0 v1 v2 h
def fX9_show (v0 : Nat) (v1 : Int32) (h : am_H) : Option (am_H) :=
  (am_pi h (some v0) 9 60 (0 : Int32)).bind fun h1 =>
  (am_pi h1 (some v0) 9 61 (0 : Int32)).bind fun h2 =>
  (am_pi h2 (some v0) 9 62 (0 : Int32)).bind fun h3 =>
  (am_pi h3 (some v0) 9 64 (-1 : Int32)).bind fun h4 =>
  (am_pi h4 (some v0) 9 65 (-1 : Int32)).bind fun h5 =>
  (am_pi h5 (some v0) 9 69 (0 : Int32)).bind fun h6 =>
  (fX9_show_32 am_fu) (some v0) v1 (0 : Int32) h6
/-! DroppingBallsModel.shown(I)I -/
def fX9_shown (v0 : Nat) (v1 : Int32) (h : am_H) : Option (Int32 × am_H) :=
  if v1 = (0 : Int32) then
    (am_gi h (some v0) 9 60).bind fun x1 =>
    some (x1, h)
  else
  if v1 = (1 : Int32) then
    (am_gi h (some v0) 9 62).bind fun x2 =>
    some (x2, h)
  else
  if v1 = (2 : Int32) then
    (am_gi h (some v0) 9 64).bind fun x3 =>
    some (x3, h)
  else
  if v1 = (3 : Int32) then
    (am_gi h (some v0) 9 65).bind fun x4 =>
    some (x4, h)
  else
  (am_gi h (some v0) 9 62).bind fun x5 =>
  if x5 ≤ (v1 - (10 : Int32)) then
    some ((-1 : Int32), h)
  else
  (am_gr h (some v0) 9 63).bind fun x6 =>
  (am_al h x6 0 (v1 - (10 : Int32))).bind fun x7 =>
  some (x7, h)
/-! DroppingBallsModel.shows(IIII)I -/
def fX9_shows_38 (v0 : Option Nat) (v1 : Int32) (v2 : Int32) (v3 : Int32) (v4 : Int32) (h : am_H) : Option (Int32 × am_H) :=
  (am_rc h v0 9).bind fun b2 =>
  (fX9_runAll b2 v1 v2 v3 h).bind fun y1 =>
  (am_rc y1 v0 9).bind fun b4 =>
  (fX9_show b4 v1 y1).bind fun y3 =>
  (am_rc y3 v0 9).bind fun b6 =>
  (fX9_shown b6 v4 y3).bind fun y5 =>
  some (y5.1, y5.2)
def fX9_shows (v0 : Nat) (v1 : Int32) (v2 : Int32) (v3 : Int32) (v4 : Int32) (h : am_H) : Option (Int32 × am_H) :=
  (am_rc h (some v0) 9).bind fun b2 =>
  (fX9_isRun b2 v1 v2 v3 h).bind fun y1 =>
  if y1.1 = 0 then
    some ((-101 : Int32), y1.2)
  else
  (fX9_within v4 (0 : Int32) (3 : Int32) y1.2).bind fun y3 =>
  if y3.1 = 0 then
    (fX9_within v4 (10 : Int32) (29 : Int32) y3.2).bind fun y4 =>
    if y4.1 = 0 then
      some ((-102 : Int32), y4.2)
    else
    fX9_shows_38 (some v0) v1 v2 v3 v4 y4.2
  else
  fX9_shows_38 (some v0) v1 v2 v3 v4 y3.2
/-! DroppingBalls.findWorst(LDroppingBalls$Clock;)V -/
def fX8_findWorst_98 (k42 : Option Nat → Option Nat → Int32 → Int32 → am_H → Option (am_H)) (v0 : Option Nat) (v1 : Option Nat) (v2 : Int32) (v3 : Int32) (h : am_H) : Option (am_H) :=
  k42 v0 v1 v2 (v3 + (1 : Int32)) h
def fX8_findWorst_42_b (k9 : Option Nat → Option Nat → Int32 → am_H → Option (am_H)) (rec : Option Nat → Option Nat → Int32 → Int32 → am_H → Option (am_H)) (v0 : Option Nat) (v1 : Option Nat) (v2 : Int32) (v3 : Int32) (h : am_H) : Option (am_H) :=
  (am_gi h v1 0 8).bind fun x1 =>
  if x1 ≤ v3 then
    k9 v0 v1 (v2 + (1 : Int32)) h
  else
  (am_gr h v0 8 14).bind fun x2 =>
  (am_rc h v0 8).bind fun b4 =>
  (fX8_daylightOf b4 v2 h).bind fun y3 =>
  (am_rc y3.2 x2 5).bind fun b6 =>
  (fX5_errorSize b6 v3 y3.1 y3.2).bind fun y5 =>
  (am_gr y5.2 v0 8 18).bind fun x7 =>
  (am_al y5.2 x7 0 (0 : Int32)).bind fun x8 =>
  if y5.1 ≤ x8 then
    (fX8_findWorst_98 rec) v0 v1 v2 v3 y5.2
  else
  (am_gr y5.2 v0 8 18).bind fun x9 =>
  (am_as y5.2 x9 0 (0 : Int32) y5.1).bind fun h10 =>
  (am_gr h10 v0 8 18).bind fun x11 =>
  (am_as h10 x11 0 (1 : Int32) v2).bind fun h12 =>
  (am_gr h12 v0 8 18).bind fun x13 =>
  (am_as h12 x13 0 (2 : Int32) v3).bind fun h14 =>
  (fX8_findWorst_98 rec) v0 v1 v2 v3 h14
def fX8_findWorst_42 (k9 : Option Nat → Option Nat → Int32 → am_H → Option (am_H)) : Nat → Option Nat → Option Nat → Int32 → Int32 → am_H → Option (am_H)
  | 0, _, _, _, _, _ => none
  | n + 1, v0, v1, v2, v3, h => fX8_findWorst_42_b k9 (fX8_findWorst_42 k9 n) v0 v1 v2 v3 h
def fX8_findWorst_9_b (rec : Option Nat → Option Nat → Int32 → am_H → Option (am_H)) (v0 : Option Nat) (v1 : Option Nat) (v2 : Int32) (h : am_H) : Option (am_H) :=
  if (4 : Int32) ≤ v2 then
    some h
  else
  (am_gr h v0 8 14).bind fun x1 =>
  (am_rc h v0 8).bind fun b3 =>
  (fX8_warmthOf b3 v2 h).bind fun y2 =>
  (am_gr y2.2 v0 8 12).bind fun x4 =>
  (am_rc y2.2 x1 5).bind fun b6 =>
  (fX5_start b6 v1 y2.1 x4 y2.2).bind fun y5 =>
  (am_gr y5 v0 8 14).bind fun x7 =>
  (am_rc y5 x7 5).bind fun b9 =>
  (fX5_goOnTo b9 (96 : Int32) y5).bind fun y8 =>
  (fX8_findWorst_42 rec am_fu) v0 v1 v2 (0 : Int32) y8
def fX8_findWorst_9 : Nat → Option Nat → Option Nat → Int32 → am_H → Option (am_H)
  | 0, _, _, _, _ => none
  | n + 1, v0, v1, v2, h => fX8_findWorst_9_b  (fX8_findWorst_9  n) v0 v1 v2 h
def fX8_findWorst (v0 : Nat) (v1 : Option Nat) (h : am_H) : Option (am_H) :=
  (am_gr h (some v0) 8 18).bind fun x1 =>
  (am_as h x1 0 (0 : Int32) (-1 : Int32)).bind fun h2 =>
  (fX8_findWorst_9 am_fu) (some v0) v1 (0 : Int32) h2
/-! DroppingBalls.worst(II)I -/
def fX8_worst (v0 : Nat) (v1 : Int32) (v2 : Int32) (h : am_H) : Option (Int32 × am_H) :=
  (am_rc h (some v0) 8).bind fun b2 =>
  (fX8_clockOf b2 v1 h).bind fun y1 =>
  if y1.1 = none then
    some ((-101 : Int32), y1.2)
  else
  (fX8_isIn v2 (0 : Int32) (2 : Int32) y1.2).bind fun y3 =>
  if y3.1 = 0 then
    some ((-102 : Int32), y3.2)
  else
  (am_rc y3.2 (some v0) 8).bind fun b5 =>
  (fX8_findWorst b5 y1.1 y3.2).bind fun y4 =>
  (am_gr y4 (some v0) 8 18).bind fun x6 =>
  (am_al y4 x6 0 v2).bind fun x7 =>
  some (x7, y4)
/-! DroppingBallsModel.layWorst(I)V -/
def fX9_layWorst_68 (k21 : Option Nat → Int32 → Int32 → Int32 → am_H → Option (am_H)) (v0 : Option Nat) (v1 : Int32) (v2 : Int32) (v3 : Int32) (h : am_H) : Option (am_H) :=
  k21 v0 v1 v2 (v3 + (1 : Int32)) h
def fX9_layWorst_21_b (k7 : Option Nat → Int32 → Int32 → am_H → Option (am_H)) (rec : Option Nat → Int32 → Int32 → Int32 → am_H → Option (am_H)) (v0 : Option Nat) (v1 : Int32) (v2 : Int32) (v3 : Int32) (h : am_H) : Option (am_H) :=
  (am_gr h v0 9 8).bind fun x1 =>
  (am_al h x1 0 v1).bind fun x2 =>
  if x2 ≤ v3 then
    k7 v0 v1 (v2 + (1 : Int32)) h
  else
  (am_rc h v0 9).bind fun b4 =>
  (fX9_errorOf b4 v1 v2 v3 h).bind fun y3 =>
  (fX9_size y3.1 y3.2).bind fun y5 =>
  (am_gi y5.2 v0 9 72).bind fun x6 =>
  if y5.1 ≤ x6 then
    (fX9_layWorst_68 rec) v0 v1 v2 v3 y5.2
  else
  (am_pi y5.2 v0 9 72 y5.1).bind fun h7 =>
  (am_pi h7 v0 9 73 v2).bind fun h8 =>
  (am_pi h8 v0 9 74 v3).bind fun h9 =>
  (fX9_layWorst_68 rec) v0 v1 v2 v3 h9
def fX9_layWorst_21 (k7 : Option Nat → Int32 → Int32 → am_H → Option (am_H)) : Nat → Option Nat → Int32 → Int32 → Int32 → am_H → Option (am_H)
  | 0, _, _, _, _, _ => none
  | n + 1, v0, v1, v2, v3, h => fX9_layWorst_21_b k7 (fX9_layWorst_21 k7 n) v0 v1 v2 v3 h
def fX9_layWorst_7_b (rec : Option Nat → Int32 → Int32 → am_H → Option (am_H)) (v0 : Option Nat) (v1 : Int32) (v2 : Int32) (h : am_H) : Option (am_H) :=
  if (4 : Int32) ≤ v2 then
    some h
  else
  (am_rc h v0 9).bind fun b2 =>
  (fX9_runAll b2 v1 v2 (-1 : Int32) h).bind fun y1 =>
  (fX9_layWorst_21 rec am_fu) v0 v1 v2 (0 : Int32) y1
def fX9_layWorst_7 : Nat → Option Nat → Int32 → Int32 → am_H → Option (am_H)
  | 0, _, _, _, _ => none
  | n + 1, v0, v1, v2, h => fX9_layWorst_7_b  (fX9_layWorst_7  n) v0 v1 v2 h
def fX9_layWorst (v0 : Nat) (v1 : Int32) (h : am_H) : Option (am_H) :=
  (am_pi h (some v0) 9 72 (-1 : Int32)).bind fun h1 =>
  (fX9_layWorst_7 am_fu) (some v0) v1 (0 : Int32) h1
/-! DroppingBallsModel.worst(II)I -/
def fX9_worst (v0 : Nat) (v1 : Int32) (v2 : Int32) (h : am_H) : Option (Int32 × am_H) :=
  (am_rc h (some v0) 9).bind fun b2 =>
  (fX9_isClock b2 v1 h).bind fun y1 =>
  if y1.1 = 0 then
    some ((-101 : Int32), y1.2)
  else
  (fX9_within v2 (0 : Int32) (2 : Int32) y1.2).bind fun y3 =>
  if y3.1 = 0 then
    some ((-102 : Int32), y3.2)
  else
  (am_rc y3.2 (some v0) 9).bind fun b5 =>
  (fX9_layWorst b5 v1 y3.2).bind fun y4 =>
  if v2 = 0 then
    (am_gi y4 (some v0) 9 72).bind fun x8 =>
    some (x8, y4)
  else
  if v2 = (1 : Int32) then
    (am_gi y4 (some v0) 9 73).bind fun x7 =>
    some (x7, y4)
  else
  (am_gi y4 (some v0) 9 74).bind fun x6 =>
  some (x6, y4)
/-! DroppingBalls.better(II)I -/
def fX8_better (v0 : Nat) (v1 : Int32) (v2 : Int32) (h : am_H) : Option (Int32 × am_H) :=
  (am_rc h (some v0) 8).bind fun b2 =>
  (fX8_clockOf b2 v1 h).bind fun y1 =>
  (am_rc y1.2 (some v0) 8).bind fun b4 =>
  (fX8_clockOf b4 v2 y1.2).bind fun y3 =>
  if y1.1 = none then
    some ((-101 : Int32), y3.2)
  else
  if y3.1 = none then
    some ((-101 : Int32), y3.2)
  else
  (am_rc y3.2 (some v0) 8).bind fun b6 =>
  (fX8_findWorst b6 y1.1 y3.2).bind fun y5 =>
  (am_gr y5 (some v0) 8 18).bind fun x7 =>
  (am_al y5 x7 0 (0 : Int32)).bind fun x8 =>
  (am_rc y5 (some v0) 8).bind fun b10 =>
  (fX8_findWorst b10 y3.1 y5).bind fun y9 =>
  (am_gr y9 (some v0) 8 18).bind fun x11 =>
  (am_al y9 x11 0 (0 : Int32)).bind fun x12 =>
  if x8 ≤ x12 then
    some (v1, y9)
  else
  some (v2, y9)
/-! DroppingBallsModel.better(II)I -/
def fX9_better (v0 : Nat) (v1 : Int32) (v2 : Int32) (h : am_H) : Option (Int32 × am_H) :=
  (am_rc h (some v0) 9).bind fun b2 =>
  (fX9_isClock b2 v1 h).bind fun y1 =>
  if y1.1 = 0 then
    some ((-101 : Int32), y1.2)
  else
  (am_rc y1.2 (some v0) 9).bind fun b4 =>
  (fX9_isClock b4 v2 y1.2).bind fun y3 =>
  if y3.1 = 0 then
    some ((-101 : Int32), y3.2)
  else
  (am_rc y3.2 (some v0) 9).bind fun b6 =>
  (fX9_layWorst b6 v1 y3.2).bind fun y5 =>
  (am_gi y5 (some v0) 9 72).bind fun x7 =>
  (am_rc y5 (some v0) 9).bind fun b9 =>
  (fX9_layWorst b9 v2 y5).bind fun y8 =>
  (am_gi y8 (some v0) 9 72).bind fun x10 =>
  if x7 ≤ x10 then
    some (v1, y8)
  else
  some (v2, y8)
/-! DroppingBalls$Run.levelWithoutSiphon()I -/
def fX5_levelWithoutSiphon (v0 : Nat) (h : am_H) : Option (Int32 × am_H) :=
  (am_gi h (some v0) 5 6).bind fun x1 =>
  (am_gr h (some v0) 5 0).bind fun x2 =>
  (am_gi h x2 0 5).bind fun x3 =>
  (fX8_quotient x1 x3 h).bind fun y4 =>
  some (y4.1, y4.2)
/-! DroppingBalls.mark(III)I -/
def fX8_mark_91 (v5 : Int32) (s0 : Int32) (h : am_H) : Option (Int32 × am_H) :=
  if s0 = 0 then
    some ((-1 : Int32), h)
  else
  if (99 : Int32) ≤ v5 then
    some ((-1 : Int32), h)
  else
  some (v5 + (1 : Int32), h)
def fX8_mark (v0 : Nat) (v1 : Int32) (v2 : Int32) (v3 : Int32) (h : am_H) : Option (Int32 × am_H) :=
  (am_rc h (some v0) 8).bind fun b2 =>
  (fX8_startRun b2 v1 v2 (-1 : Int32) h).bind fun y1 =>
  if y1.1 = 0 then
    some ((-101 : Int32), y1.2)
  else
  (am_gr y1.2 (some v0) 8 14).bind fun x3 =>
  (am_gr y1.2 x3 5 0).bind fun x4 =>
  (am_rc y1.2 x4 0).bind fun b6 =>
  (fX0_hasBall b6 v3 y1.2).bind fun y5 =>
  if y5.1 = 0 then
    some ((-101 : Int32), y5.2)
  else
  (am_gr y5.2 (some v0) 8 14).bind fun x7 =>
  (am_gr y5.2 x7 5 0).bind fun x8 =>
  (am_rc y5.2 (some v0) 8).bind fun b10 =>
  (fX8_daylightOf b10 v2 y5.2).bind fun y9 =>
  (am_rc y9.2 x8 0).bind fun b12 =>
  (fX0_trueTick b12 v3 y9.1 y9.2).bind fun y11 =>
  (am_gr y11.2 (some v0) 8 14).bind fun x13 =>
  (am_rc y11.2 x13 5).bind fun b15 =>
  (fX5_goOnTo b15 y11.1 y11.2).bind fun y14 =>
  (am_gr y14 (some v0) 8 14).bind fun x16 =>
  (am_rc y14 x16 5).bind fun b18 =>
  (fX5_levelWithoutSiphon b18 y14).bind fun y17 =>
  (am_gr y17.2 (some v0) 8 14).bind fun x19 =>
  (am_rc y17.2 x19 5).bind fun b21 =>
  (fX5_goOnTo b21 (y11.1 + (1 : Int32)) y17.2).bind fun y20 =>
  (am_gr y20 (some v0) 8 14).bind fun x22 =>
  (am_rc y20 x22 5).bind fun b24 =>
  (fX5_levelWithoutSiphon b24 y20).bind fun y23 =>
  if y23.1 ≤ y17.1 then
    fX8_mark_91 y17.1 (0 : Int32) y23.2
  else
  fX8_mark_91 y17.1 (1 : Int32) y23.2
/-! DroppingBallsModel.mark(III)I -/
def fX9_mark_83 (v0 : Option Nat) (v4 : Int32) (s0 : Int32) (h : am_H) : Option (Int32 × am_H) :=
  (am_gr h v0 9 59).bind fun x1 =>
  (am_al h x1 0 v4).bind fun x2 =>
  if x2 < (s0 + (1 : Int32)) then
    some ((-1 : Int32), h)
  else
  if (99 : Int32) < (s0 + (1 : Int32)) then
    some ((-1 : Int32), h)
  else
  some (s0 + (1 : Int32), h)
def fX9_mark (v0 : Nat) (v1 : Int32) (v2 : Int32) (v3 : Int32) (h : am_H) : Option (Int32 × am_H) :=
  (am_rc h (some v0) 9).bind fun b2 =>
  (fX9_isClock b2 v1 h).bind fun y1 =>
  if y1.1 = 0 then
    some ((-101 : Int32), y1.2)
  else
  (fX9_isSeason v2 y1.2).bind fun y3 =>
  if y3.1 = 0 then
    some ((-101 : Int32), y3.2)
  else
  (am_rc y3.2 (some v0) 9).bind fun b5 =>
  (fX9_isBall b5 v1 v3 y3.2).bind fun y4 =>
  if y4.1 = 0 then
    some ((-101 : Int32), y4.2)
  else
  (am_rc y4.2 (some v0) 9).bind fun b7 =>
  (fX9_load b7 v1 (-1 : Int32) y4.2).bind fun y6 =>
  (am_pz y6 (some v0) 9 45 (0 : Int32)).bind fun h8 =>
  (am_rc h8 (some v0) 9).bind fun b10 =>
  (fX9_run b10 v1 v2 (95 : Int32) h8).bind fun y9 =>
  (am_gr y9 (some v0) 9 11).bind fun x11 =>
  (am_al y9 x11 0 v2).bind fun x12 =>
  (am_gr y9 (some v0) 9 8).bind fun x13 =>
  (am_al y9 x13 0 v1).bind fun x14 =>
  if x14 = 0 then none else
  if (((v3 + (1 : Int32)) * x12) / x14) = 0 then
    fX9_mark_83 (some v0) (((v3 + (1 : Int32)) * x12) / x14) (0 : Int32) y9
  else
  (am_gr y9 (some v0) 9 59).bind fun x15 =>
  (am_al y9 x15 0 ((((v3 + (1 : Int32)) * x12) / x14) - (1 : Int32))).bind fun x16 =>
  fX9_mark_83 (some v0) (((v3 + (1 : Int32)) * x12) / x14) x16 y9
/-! DroppingBalls$Run.hasErrorAbove(II)Z -/
def fX5_hasErrorAbove_2_b (rec : Option Nat → Int32 → Int32 → Int32 → am_H → Option (Int32 × am_H)) (v0 : Option Nat) (v1 : Int32) (v2 : Int32) (v3 : Int32) (h : am_H) : Option (Int32 × am_H) :=
  (am_gr h v0 5 0).bind fun x1 =>
  (am_gi h x1 0 8).bind fun x2 =>
  if x2 ≤ v3 then
    am_zr (0 : Int32) h
  else
  (am_rc h v0 5).bind fun b4 =>
  (fX5_errorSize b4 v3 v2 h).bind fun y3 =>
  if y3.1 ≤ v1 then
    rec v0 v1 v2 (v3 + (1 : Int32)) y3.2
  else
  am_zr (1 : Int32) y3.2
def fX5_hasErrorAbove_2 : Nat → Option Nat → Int32 → Int32 → Int32 → am_H → Option (Int32 × am_H)
  | 0, _, _, _, _, _ => none
  | n + 1, v0, v1, v2, v3, h => fX5_hasErrorAbove_2_b  (fX5_hasErrorAbove_2  n) v0 v1 v2 v3 h
def fX5_hasErrorAbove (v0 : Nat) (v1 : Int32) (v2 : Int32) (h : am_H) : Option (Int32 × am_H) :=
  (fX5_hasErrorAbove_2 am_fu) (some v0) v1 v2 (0 : Int32) h
/-! DroppingBalls$Clock.widen(I)V -/
def fX0_widen (v0 : Nat) (v1 : Int32) (h : am_H) : Option (am_H) :=
  (am_rc h (some v0) 0).bind fun b2 =>
  (fX0_hasVessel b2 v1 h).bind fun y1 =>
  if y1.1 = 0 then
    some y1.2
  else
  (am_gr y1.2 (some v0) 0 3).bind fun x3 =>
  (am_al y1.2 x3 0 v1).bind fun x4 =>
  (am_as y1.2 x3 0 v1 (x4 + (1 : Int32))).bind fun h5 =>
  some h5
/-! DroppingBalls.mended(IIIII)I -/
def fX8_mended_68_b (rec : Option Nat → Int32 → Int32 → Int32 → Int32 → Int32 → am_H → Option (Int32 × am_H)) (v0 : Option Nat) (v2 : Int32) (v3 : Int32) (v4 : Int32) (v5 : Int32) (v7 : Int32) (h : am_H) : Option (Int32 × am_H) :=
  if (60 : Int32) < v7 then
    some ((-1 : Int32), h)
  else
  if (60 : Int32) < (v7 * v4) then
    some ((-1 : Int32), h)
  else
  (am_gr h v0 8 14).bind fun x1 =>
  (am_gr h v0 8 11).bind fun x2 =>
  (am_rc h v0 8).bind fun b4 =>
  (fX8_warmthOf b4 v2 h).bind fun y3 =>
  (am_gr y3.2 v0 8 12).bind fun x5 =>
  (am_rc y3.2 x1 5).bind fun b7 =>
  (fX5_start b7 x2 y3.1 x5 y3.2).bind fun y6 =>
  (am_gr y6 v0 8 14).bind fun x8 =>
  (am_rc y6 x8 5).bind fun b10 =>
  (fX5_goOnTo b10 (96 : Int32) y6).bind fun y9 =>
  (am_gr y9 v0 8 14).bind fun x11 =>
  (am_rc y9 v0 8).bind fun b13 =>
  (fX8_daylightOf b13 v2 y9).bind fun y12 =>
  (am_rc y12.2 x11 5).bind fun b15 =>
  (fX5_hasErrorAbove b15 v5 y12.1 y12.2).bind fun y14 =>
  if y14.1 = 0 then
    (am_gr y14.2 v0 8 11).bind fun x16 =>
    (am_rc y14.2 x16 0).bind fun b18 =>
    (fX0_widen b18 v3 y14.2).bind fun y17 =>
    rec v0 v2 v3 v4 v5 (v7 + (1 : Int32)) y17
  else
  some (v7 * v4, y14.2)
def fX8_mended_68 : Nat → Option Nat → Int32 → Int32 → Int32 → Int32 → Int32 → am_H → Option (Int32 × am_H)
  | 0, _, _, _, _, _, _, _ => none
  | n + 1, v0, v2, v3, v4, v5, v7, h => fX8_mended_68_b  (fX8_mended_68  n) v0 v2 v3 v4 v5 v7 h
def fX8_mended (v0 : Nat) (v1 : Int32) (v2 : Int32) (v3 : Int32) (v4 : Int32) (v5 : Int32) (h : am_H) : Option (Int32 × am_H) :=
  (am_rc h (some v0) 8).bind fun b2 =>
  (fX8_clockOf b2 v1 h).bind fun y1 =>
  if y1.1 = none then
    some ((-101 : Int32), y1.2)
  else
  (fX8_isSeason v2 y1.2).bind fun y3 =>
  if y3.1 = 0 then
    some ((-101 : Int32), y3.2)
  else
  (fX8_isIn v3 (0 : Int32) (2 : Int32) y3.2).bind fun y4 =>
  if y4.1 = 0 then
    some ((-102 : Int32), y4.2)
  else
  (fX8_isIn v4 (1 : Int32) (30 : Int32) y4.2).bind fun y5 =>
  if y5.1 = 0 then
    some ((-102 : Int32), y5.2)
  else
  (fX8_isIn v5 (0 : Int32) (96 : Int32) y5.2).bind fun y6 =>
  if y6.1 = 0 then
    some ((-102 : Int32), y6.2)
  else
  (am_gr y6.2 (some v0) 8 11).bind fun x7 =>
  (am_rc y6.2 x7 0).bind fun b9 =>
  (fX0_copyFrom b9 y1.1 y6.2).bind fun y8 =>
  (fX8_mended_68 am_fu) (some v0) v2 v3 v4 v5 (0 : Int32) y8
/-! DroppingBallsModel.mended(IIIII)I -/
def fX9_mended_143 (k106 : Option Nat → Int32 → Int32 → Int32 → Int32 → Int32 → Int32 → Int32 → Int32 → am_H → Option (Int32 × am_H)) (v0 : Option Nat) (v1 : Int32) (v2 : Int32) (v3 : Int32) (v4 : Int32) (v5 : Int32) (v6 : Int32) (v8 : Int32) (s0 : Int32) (h : am_H) : Option (Int32 × am_H) :=
  k106 v0 v1 v2 v3 v4 v5 v6 s0 (v8 + (1 : Int32)) h
def fX9_mended_138 (k143 : Option Nat → Int32 → Int32 → Int32 → Int32 → Int32 → Int32 → Int32 → Int32 → am_H → Option (Int32 × am_H)) (v0 : Option Nat) (v1 : Int32) (v2 : Int32) (v3 : Int32) (v4 : Int32) (v5 : Int32) (v6 : Int32) (v8 : Int32) (h : am_H) : Option (Int32 × am_H) :=
  k143 v0 v1 v2 v3 v4 v5 v6 v8 (1 : Int32) h
def fX9_mended_106_b (k55 : Option Nat → Int32 → Int32 → Int32 → Int32 → Int32 → Int32 → am_H → Option (Int32 × am_H)) (rec : Option Nat → Int32 → Int32 → Int32 → Int32 → Int32 → Int32 → Int32 → Int32 → am_H → Option (Int32 × am_H)) (v0 : Option Nat) (v1 : Int32) (v2 : Int32) (v3 : Int32) (v4 : Int32) (v5 : Int32) (v6 : Int32) (v7 : Int32) (v8 : Int32) (h : am_H) : Option (Int32 × am_H) :=
  (am_gr h v0 9 8).bind fun x1 =>
  (am_al h x1 0 v1).bind fun x2 =>
  if x2 ≤ v8 then
    if v7 = 0 then
      k55 v0 v1 v2 v3 v4 v5 (v6 + (1 : Int32)) h
    else
    some (v6, h)
  else
  if v7 = 0 then
    (am_rc h v0 9).bind fun b4 =>
    (fX9_errorOf b4 v1 v2 v8 h).bind fun y3 =>
    (fX9_size y3.1 y3.2).bind fun y5 =>
    if y5.1 ≤ v5 then
      (fX9_mended_143 rec) v0 v1 v2 v3 v4 v5 v6 v8 (0 : Int32) y5.2
    else
    (fX9_mended_138 (fX9_mended_143 rec)) v0 v1 v2 v3 v4 v5 v6 v8 y5.2
  else
  (fX9_mended_138 (fX9_mended_143 rec)) v0 v1 v2 v3 v4 v5 v6 v8 h
def fX9_mended_106 (k55 : Option Nat → Int32 → Int32 → Int32 → Int32 → Int32 → Int32 → am_H → Option (Int32 × am_H)) : Nat → Option Nat → Int32 → Int32 → Int32 → Int32 → Int32 → Int32 → Int32 → Int32 → am_H → Option (Int32 × am_H)
  | 0, _, _, _, _, _, _, _, _, _, _ => none
  | n + 1, v0, v1, v2, v3, v4, v5, v6, v7, v8, h => fX9_mended_106_b k55 (fX9_mended_106 k55 n) v0 v1 v2 v3 v4 v5 v6 v7 v8 h
def fX9_mended_92 (k55 : Option Nat → Int32 → Int32 → Int32 → Int32 → Int32 → Int32 → am_H → Option (Int32 × am_H)) (v0 : Option Nat) (v1 : Int32) (v2 : Int32) (v3 : Int32) (v4 : Int32) (v5 : Int32) (v6 : Int32) (h : am_H) : Option (Int32 × am_H) :=
  (am_rc h v0 9).bind fun b2 =>
  (fX9_run b2 v1 v2 (95 : Int32) h).bind fun y1 =>
  (fX9_mended_106 k55 am_fu) v0 v1 v2 v3 v4 v5 v6 (0 : Int32) (0 : Int32) y1
def fX9_mended_55_b (rec : Option Nat → Int32 → Int32 → Int32 → Int32 → Int32 → Int32 → am_H → Option (Int32 × am_H)) (v0 : Option Nat) (v1 : Int32) (v2 : Int32) (v3 : Int32) (v4 : Int32) (v5 : Int32) (v6 : Int32) (h : am_H) : Option (Int32 × am_H) :=
  if (60 : Int32) < v6 then
    some ((-1 : Int32), h)
  else
  (am_rc h v0 9).bind fun b2 =>
  (fX9_load b2 v1 (-1 : Int32) h).bind fun y1 =>
  (am_gr y1 v0 9 1).bind fun x3 =>
  (am_al y1 x3 0 v1).bind fun x4 =>
  if x4 ≤ v3 then
    (fX9_mended_92 rec) v0 v1 v2 v3 v4 v5 v6 y1
  else
  (am_gr y1 v0 9 43).bind fun x5 =>
  (am_al y1 x5 0 v3).bind fun x6 =>
  if v4 = 0 then none else
  (am_as y1 x5 0 v3 (x6 + (v6 / v4))).bind fun h7 =>
  (fX9_mended_92 rec) v0 v1 v2 v3 v4 v5 v6 h7
def fX9_mended_55 : Nat → Option Nat → Int32 → Int32 → Int32 → Int32 → Int32 → Int32 → am_H → Option (Int32 × am_H)
  | 0, _, _, _, _, _, _, _, _ => none
  | n + 1, v0, v1, v2, v3, v4, v5, v6, h => fX9_mended_55_b  (fX9_mended_55  n) v0 v1 v2 v3 v4 v5 v6 h
def fX9_mended (v0 : Nat) (v1 : Int32) (v2 : Int32) (v3 : Int32) (v4 : Int32) (v5 : Int32) (h : am_H) : Option (Int32 × am_H) :=
  (am_rc h (some v0) 9).bind fun b2 =>
  (fX9_isClock b2 v1 h).bind fun y1 =>
  if y1.1 = 0 then
    some ((-101 : Int32), y1.2)
  else
  (fX9_isSeason v2 y1.2).bind fun y3 =>
  if y3.1 = 0 then
    some ((-101 : Int32), y3.2)
  else
  (fX9_within v3 (0 : Int32) (2 : Int32) y3.2).bind fun y4 =>
  if y4.1 = 0 then
    some ((-102 : Int32), y4.2)
  else
  (fX9_within v4 (1 : Int32) (30 : Int32) y4.2).bind fun y5 =>
  if y5.1 = 0 then
    some ((-102 : Int32), y5.2)
  else
  (fX9_within v5 (0 : Int32) (96 : Int32) y5.2).bind fun y6 =>
  if y6.1 = 0 then
    some ((-102 : Int32), y6.2)
  else
  (fX9_mended_55 am_fu) (some v0) v1 v2 v3 v4 v5 (0 : Int32) y6.2
/-! DroppingBalls.log(II)I -/
def fX8_log (v0 : Nat) (v1 : Int32) (v2 : Int32) (h : am_H) : Option (Int32 × am_H) :=
  (fX8_isIn v1 (0 : Int32) (11 : Int32) h).bind fun y1 =>
  if y1.1 = 0 then
    some ((-101 : Int32), y1.2)
  else
  (fX8_isIn v2 (-1 : Int32) (96 : Int32) y1.2).bind fun y2 =>
  if y2.1 = 0 then
    some ((-102 : Int32), y2.2)
  else
  (am_gr y2.2 (some v0) 8 7).bind fun x3 =>
  (am_gr y2.2 x3 6 2).bind fun x4 =>
  (fX8_exchange x4 v1 v2 y2.2).bind fun y5 =>
  some (y5.1, y5.2)
/-! DroppingBallsModel.log(II)I -/
def fX9_log (v0 : Nat) (v1 : Int32) (v2 : Int32) (h : am_H) : Option (Int32 × am_H) :=
  (fX9_within v1 (0 : Int32) (11 : Int32) h).bind fun y1 =>
  if y1.1 = 0 then
    some ((-101 : Int32), y1.2)
  else
  (fX9_within v2 (-1 : Int32) (96 : Int32) y1.2).bind fun y2 =>
  if y2.1 = 0 then
    some ((-102 : Int32), y2.2)
  else
  (am_gr y2.2 (some v0) 9 22).bind fun x3 =>
  (am_al y2.2 x3 0 v1).bind fun x4 =>
  (am_gr y2.2 (some v0) 9 22).bind fun x5 =>
  (am_as y2.2 x5 0 v1 v2).bind fun h6 =>
  some (x4, h6)
/-! DroppingBalls$Evidence.ask(II)V -/
def fX1_ask_50 (k2 : Option Nat → Int32 → Int32 → Int32 → am_H → Option (am_H)) (v0 : Option Nat) (v1 : Int32) (v2 : Int32) (v3 : Int32) (h : am_H) : Option (am_H) :=
  k2 v0 v1 v2 (v3 + (1 : Int32)) h
def fX1_ask_2_b (rec : Option Nat → Int32 → Int32 → Int32 → am_H → Option (am_H)) (v0 : Option Nat) (v1 : Int32) (v2 : Int32) (v3 : Int32) (h : am_H) : Option (am_H) :=
  if (96 : Int32) ≤ v3 then
    some h
  else
  if v2 ≤ v3 then
    (am_gr h v0 1 0).bind fun x1 =>
    (am_gr h v0 1 0).bind fun x2 =>
    (am_al h x2 0 v3).bind fun x3 =>
    (am_as h x1 0 v3 (if x3 < (v1 + (1 : Int32)) then (v1 + (1 : Int32)) else x3)).bind fun h4 =>
    (fX1_ask_50 rec) v0 v1 v2 v3 h4
  else
  (am_gr h v0 1 1).bind fun x5 =>
  (am_gr h v0 1 1).bind fun x6 =>
  (am_al h x6 0 v3).bind fun x7 =>
  (am_as h x5 0 v3 (if v1 < x7 then v1 else x7)).bind fun h8 =>
  (fX1_ask_50 rec) v0 v1 v2 v3 h8
def fX1_ask_2 : Nat → Option Nat → Int32 → Int32 → Int32 → am_H → Option (am_H)
  | 0, _, _, _, _, _ => none
  | n + 1, v0, v1, v2, v3, h => fX1_ask_2_b  (fX1_ask_2  n) v0 v1 v2 v3 h
def fX1_ask (v0 : Nat) (v1 : Int32) (v2 : Int32) (h : am_H) : Option (am_H) :=
  (fX1_ask_2 am_fu) (some v0) v1 v2 (0 : Int32) h
/-! DroppingBalls$Evidence.gather([II)V -/
def fX1_gather_90 (k29 : Option Nat → Option Nat → Int32 → Int32 → am_H → Option (am_H)) (v0 : Option Nat) (v1 : Option Nat) (v2 : Int32) (v3 : Int32) (h : am_H) : Option (am_H) :=
  k29 v0 v1 v2 (v3 + (1 : Int32)) h
def fX1_gather_60 (k90 : Option Nat → Option Nat → Int32 → Int32 → am_H → Option (am_H)) (v0 : Option Nat) (v1 : Option Nat) (v2 : Int32) (v3 : Int32) (s0 : Option Nat) (s1 : Int32) (h : am_H) : Option (am_H) :=
  (am_pz h s0 1 3 s1).bind fun h1 =>
  (am_gi h1 v0 1 2).bind fun x2 =>
  (am_al h1 v1 0 v3).bind fun x3 =>
  (am_pi h1 v0 1 2 (if x2 < (if (95 : Int32) < x3 then (95 : Int32) else x3) then (if (95 : Int32) < x3 then (95 : Int32) else x3) else x2)).bind fun h4 =>
  (am_al h4 v1 0 v3).bind fun x5 =>
  (am_rc h4 v0 1).bind fun b7 =>
  (fX1_ask b7 v3 x5 h4).bind fun y6 =>
  k90 v0 v1 v2 v3 y6
def fX1_gather_55 (k60 : Option Nat → Option Nat → Int32 → Int32 → Option Nat → Int32 → am_H → Option (am_H)) (v0 : Option Nat) (v1 : Option Nat) (v2 : Int32) (v3 : Int32) (s0 : Option Nat) (h : am_H) : Option (am_H) :=
  k60 v0 v1 v2 v3 s0 (1 : Int32) h
def fX1_gather_29_b (rec : Option Nat → Option Nat → Int32 → Int32 → am_H → Option (am_H)) (v0 : Option Nat) (v1 : Option Nat) (v2 : Int32) (v3 : Int32) (h : am_H) : Option (am_H) :=
  (am_an h v1).bind fun x1 =>
  if x1 ≤ v3 then
    some h
  else
  (am_al h v1 0 v3).bind fun x2 =>
  if x2 = (-1 : Int32) then
    (fX1_gather_90 rec) v0 v1 v2 v3 h
  else
  (am_gi h v0 1 3).bind fun x3 =>
  if x3 = 0 then
    if v3 < v2 then
      (fX1_gather_60 (fX1_gather_90 rec)) v0 v1 v2 v3 v0 (0 : Int32) h
    else
    (fX1_gather_55 (fX1_gather_60 (fX1_gather_90 rec))) v0 v1 v2 v3 v0 h
  else
  (fX1_gather_55 (fX1_gather_60 (fX1_gather_90 rec))) v0 v1 v2 v3 v0 h
def fX1_gather_29 : Nat → Option Nat → Option Nat → Int32 → Int32 → am_H → Option (am_H)
  | 0, _, _, _, _, _ => none
  | n + 1, v0, v1, v2, v3, h => fX1_gather_29_b  (fX1_gather_29  n) v0 v1 v2 v3 h
def fX1_gather (v0 : Nat) (v1 : Option Nat) (v2 : Int32) (h : am_H) : Option (am_H) :=
  (am_gr h (some v0) 1 0).bind fun x1 =>
  (fJ7_fill_53178 x1 (0 : Int32) h).bind fun y2 =>
  (am_gr y2 (some v0) 1 1).bind fun x3 =>
  (fJ7_fill_53178 x3 (12 : Int32) y2).bind fun y4 =>
  (am_pi y4 (some v0) 1 2 (-1 : Int32)).bind fun h5 =>
  (am_pz h5 (some v0) 1 3 (0 : Int32)).bind fun h6 =>
  (fX1_gather_29 am_fu) (some v0) v1 v2 (0 : Int32) h6
/-! DroppingBalls$Evidence.allows(II)Z -/
def fX1_allows (v0 : Nat) (v1 : Int32) (v2 : Int32) (h : am_H) : Option (Int32 × am_H) :=
  (fX8_isTick v1 h).bind fun y1 =>
  if y1.1 = 0 then
    am_zr (0 : Int32) y1.2
  else
  (am_gr y1.2 (some v0) 1 0).bind fun x2 =>
  (am_al y1.2 x2 0 v1).bind fun x3 =>
  (am_gr y1.2 (some v0) 1 1).bind fun x4 =>
  (am_al y1.2 x4 0 v1).bind fun x5 =>
  (fX8_isIn v2 x3 x5 y1.2).bind fun y6 =>
  if y6.1 = 0 then
    am_zr (0 : Int32) y6.2
  else
  am_zr (1 : Int32) y6.2
/-! DroppingBalls.agreesFromHere(LDroppingBalls$Run;)Z -/
def fX8_agreesFromHere_17_b (rec : Option Nat → Option Nat → Int32 → am_H → Option (Int32 × am_H)) (v0 : Option Nat) (v1 : Option Nat) (v2 : Int32) (h : am_H) : Option (Int32 × am_H) :=
  (am_gr h v0 8 17).bind fun x1 =>
  (am_gi h x1 1 2).bind fun x2 =>
  if x2 < v2 then
    am_zr (1 : Int32) h
  else
  (am_rc h v1 5).bind fun b4 =>
  (fX5_advance b4 h).bind fun y3 =>
  (am_gr y3 v0 8 17).bind fun x5 =>
  (am_gi y3 v1 5 10).bind fun x6 =>
  (am_rc y3 x5 1).bind fun b8 =>
  (fX1_allows b8 v2 x6 y3).bind fun y7 =>
  if y7.1 = 0 then
    am_zr (0 : Int32) y7.2
  else
  rec v0 v1 (v2 + (1 : Int32)) y7.2
def fX8_agreesFromHere_17 : Nat → Option Nat → Option Nat → Int32 → am_H → Option (Int32 × am_H)
  | 0, _, _, _, _ => none
  | n + 1, v0, v1, v2, h => fX8_agreesFromHere_17_b  (fX8_agreesFromHere_17  n) v0 v1 v2 h
def fX8_agreesFromHere (v0 : Nat) (v1 : Option Nat) (h : am_H) : Option (Int32 × am_H) :=
  (am_gr h (some v0) 8 17).bind fun x1 =>
  (am_gi h x1 1 3).bind fun x2 =>
  if x2 = 0 then
    (am_gi h v1 5 3).bind fun x3 =>
    (fX8_agreesFromHere_17 am_fu) (some v0) v1 x3 h
  else
  am_zr (0 : Int32) h
/-! DroppingBalls.agrees(III)I -/
def fX8_agrees (v0 : Nat) (v1 : Int32) (v2 : Int32) (v3 : Int32) (h : am_H) : Option (Int32 × am_H) :=
  (am_rc h (some v0) 8).bind fun b2 =>
  (fX8_startRun b2 v1 v2 v3 h).bind fun y1 =>
  if y1.1 = 0 then
    some ((-101 : Int32), y1.2)
  else
  (am_gr y1.2 (some v0) 8 17).bind fun x3 =>
  (am_gr y1.2 (some v0) 8 7).bind fun x4 =>
  (am_gr y1.2 x4 6 2).bind fun x5 =>
  (am_gr y1.2 (some v0) 8 14).bind fun x6 =>
  (am_gr y1.2 x6 5 0).bind fun x7 =>
  (am_gi y1.2 x7 0 8).bind fun x8 =>
  (am_rc y1.2 x3 1).bind fun b10 =>
  (fX1_gather b10 x5 x8 y1.2).bind fun y9 =>
  (am_gr y9 (some v0) 8 14).bind fun x11 =>
  (am_rc y9 (some v0) 8).bind fun b13 =>
  (fX8_agreesFromHere b13 x11 y9).bind fun y12 =>
  if y12.1 = 0 then
    some ((0 : Int32), y12.2)
  else
  some ((1 : Int32), y12.2)
/-! DroppingBallsModel.agreesNow(I)Z -/
def fX9_agreesNow_54 (k4 : Option Nat → Int32 → Int32 → Int32 → am_H → Option (Int32 × am_H)) (v0 : Option Nat) (v1 : Int32) (v3 : Int32) (s0 : Int32) (h : am_H) : Option (Int32 × am_H) :=
  k4 v0 v1 s0 (v3 + (1 : Int32)) h
def fX9_agreesNow_53 (k54 : Option Nat → Int32 → Int32 → Int32 → am_H → Option (Int32 × am_H)) (v0 : Option Nat) (v1 : Int32) (v3 : Int32) (h : am_H) : Option (Int32 × am_H) :=
  k54 v0 v1 v3 (0 : Int32) h
def fX9_agreesNow_49 (k54 : Option Nat → Int32 → Int32 → Int32 → am_H → Option (Int32 × am_H)) (v0 : Option Nat) (v1 : Int32) (v3 : Int32) (h : am_H) : Option (Int32 × am_H) :=
  k54 v0 v1 v3 (1 : Int32) h
def fX9_agreesNow_4_b (rec : Option Nat → Int32 → Int32 → Int32 → am_H → Option (Int32 × am_H)) (v0 : Option Nat) (v1 : Int32) (v2 : Int32) (v3 : Int32) (h : am_H) : Option (Int32 × am_H) :=
  if (12 : Int32) ≤ v3 then
    am_zr v2 h
  else
  if v2 = 0 then
    (fX9_agreesNow_53 (fX9_agreesNow_54 rec)) v0 v1 v3 h
  else
  (am_gr h v0 9 22).bind fun x1 =>
  (am_al h x1 0 v3).bind fun x2 =>
  if x2 = (-1 : Int32) then
    (fX9_agreesNow_49 (fX9_agreesNow_54 rec)) v0 v1 v3 h
  else
  (am_gr h v0 9 8).bind fun x3 =>
  (am_al h x3 0 v1).bind fun x4 =>
  if x4 ≤ v3 then
    (fX9_agreesNow_53 (fX9_agreesNow_54 rec)) v0 v1 v3 h
  else
  (am_gr h v0 9 56).bind fun x5 =>
  (am_al h x5 0 v3).bind fun x6 =>
  (am_gr h v0 9 22).bind fun x7 =>
  (am_al h x7 0 v3).bind fun x8 =>
  if x6 = x8 then
    (fX9_agreesNow_49 (fX9_agreesNow_54 rec)) v0 v1 v3 h
  else
  (fX9_agreesNow_53 (fX9_agreesNow_54 rec)) v0 v1 v3 h
def fX9_agreesNow_4 : Nat → Option Nat → Int32 → Int32 → Int32 → am_H → Option (Int32 × am_H)
  | 0, _, _, _, _, _ => none
  | n + 1, v0, v1, v2, v3, h => fX9_agreesNow_4_b  (fX9_agreesNow_4  n) v0 v1 v2 v3 h
def fX9_agreesNow (v0 : Nat) (v1 : Int32) (h : am_H) : Option (Int32 × am_H) :=
  (fX9_agreesNow_4 am_fu) (some v0) v1 (1 : Int32) (0 : Int32) h
/-! DroppingBallsModel.agrees(III)I -/
def fX9_agrees (v0 : Nat) (v1 : Int32) (v2 : Int32) (v3 : Int32) (h : am_H) : Option (Int32 × am_H) :=
  (am_rc h (some v0) 9).bind fun b2 =>
  (fX9_isRun b2 v1 v2 v3 h).bind fun y1 =>
  if y1.1 = 0 then
    some ((-101 : Int32), y1.2)
  else
  (am_rc y1.2 (some v0) 9).bind fun b4 =>
  (fX9_runAll b4 v1 v2 v3 y1.2).bind fun y3 =>
  (am_rc y3 (some v0) 9).bind fun b6 =>
  (fX9_agreesNow b6 v1 y3).bind fun y5 =>
  if y5.1 = 0 then
    some ((0 : Int32), y5.2)
  else
  some ((1 : Int32), y5.2)
/-! DroppingBalls.which(II)I -/
def fX8_which_97 (k59 : Option Nat → Int32 → Int32 → Int32 → Int32 → am_H → Option (Int32 × am_H)) (v0 : Option Nat) (v1 : Int32) (v2 : Int32) (v3 : Int32) (v4 : Int32) (h : am_H) : Option (Int32 × am_H) :=
  k59 v0 v1 v2 v3 (v4 + (1 : Int32)) h
def fX8_which_59_b (rec : Option Nat → Int32 → Int32 → Int32 → Int32 → am_H → Option (Int32 × am_H)) (v0 : Option Nat) (v1 : Int32) (v2 : Int32) (v3 : Int32) (v4 : Int32) (h : am_H) : Option (Int32 × am_H) :=
  (am_gi h v0 8 4).bind fun x1 =>
  if x1 ≤ v4 then
    some (v3, h)
  else
  (am_rc h v0 8).bind fun b3 =>
  (fX8_startRun b3 v1 v2 v4 h).bind fun y2 =>
  if y2.1 = 0 then
    (fX8_which_97 rec) v0 v1 v2 v3 v4 y2.2
  else
  (am_gr y2.2 v0 8 14).bind fun x4 =>
  (am_rc y2.2 v0 8).bind fun b6 =>
  (fX8_agreesFromHere b6 x4 y2.2).bind fun y5 =>
  if y5.1 = 0 then
    (fX8_which_97 rec) v0 v1 v2 v3 v4 y5.2
  else
  (fX8_which_97 rec) v0 v1 v2 (v3 ||| ((1 : Int32) <<< (v4 &&& 31))) v4 y5.2
def fX8_which_59 : Nat → Option Nat → Int32 → Int32 → Int32 → Int32 → am_H → Option (Int32 × am_H)
  | 0, _, _, _, _, _, _ => none
  | n + 1, v0, v1, v2, v3, v4, h => fX8_which_59_b  (fX8_which_59  n) v0 v1 v2 v3 v4 h
def fX8_which_55 (v0 : Option Nat) (v1 : Int32) (v2 : Int32) (s0 : Int32) (h : am_H) : Option (Int32 × am_H) :=
  (fX8_which_59 am_fu) v0 v1 v2 s0 (0 : Int32) h
def fX8_which (v0 : Nat) (v1 : Int32) (v2 : Int32) (h : am_H) : Option (Int32 × am_H) :=
  (am_rc h (some v0) 8).bind fun b2 =>
  (fX8_startRun b2 v1 v2 (-1 : Int32) h).bind fun y1 =>
  if y1.1 = 0 then
    some ((-101 : Int32), y1.2)
  else
  (am_gr y1.2 (some v0) 8 17).bind fun x3 =>
  (am_gr y1.2 (some v0) 8 7).bind fun x4 =>
  (am_gr y1.2 x4 6 2).bind fun x5 =>
  (am_gr y1.2 (some v0) 8 14).bind fun x6 =>
  (am_gr y1.2 x6 5 0).bind fun x7 =>
  (am_gi y1.2 x7 0 8).bind fun x8 =>
  (am_rc y1.2 x3 1).bind fun b10 =>
  (fX1_gather b10 x5 x8 y1.2).bind fun y9 =>
  (am_gr y9 (some v0) 8 14).bind fun x11 =>
  (am_rc y9 (some v0) 8).bind fun b13 =>
  (fX8_agreesFromHere b13 x11 y9).bind fun y12 =>
  if y12.1 = 0 then
    fX8_which_55 (some v0) v1 v2 (0 : Int32) y12.2
  else
  fX8_which_55 (some v0) v1 v2 (256 : Int32) y12.2
/-! DroppingBallsModel.which(II)I -/
def fX9_which_73 (k39 : Option Nat → Int32 → Int32 → Int32 → Int32 → am_H → Option (Int32 × am_H)) (v0 : Option Nat) (v1 : Int32) (v2 : Int32) (v4 : Int32) (s0 : Int32) (s1 : Int32) (h : am_H) : Option (Int32 × am_H) :=
  k39 v0 v1 v2 (s0 ||| s1) (v4 + (1 : Int32)) h
def fX9_which_39_b (rec : Option Nat → Int32 → Int32 → Int32 → Int32 → am_H → Option (Int32 × am_H)) (v0 : Option Nat) (v1 : Int32) (v2 : Int32) (v3 : Int32) (v4 : Int32) (h : am_H) : Option (Int32 × am_H) :=
  (am_gi h v0 9 12).bind fun x1 =>
  if x1 ≤ v4 then
    some (v3, h)
  else
  (am_rc h v0 9).bind fun b3 =>
  (fX9_runAll b3 v1 v2 v4 h).bind fun y2 =>
  (am_rc y2 v0 9).bind fun b5 =>
  (fX9_agreesNow b5 v1 y2).bind fun y4 =>
  if y4.1 = 0 then
    (fX9_which_73 rec) v0 v1 v2 v4 v3 (0 : Int32) y4.2
  else
  (fX9_which_73 rec) v0 v1 v2 v4 v3 ((1 : Int32) <<< (v4 &&& 31)) y4.2
def fX9_which_39 : Nat → Option Nat → Int32 → Int32 → Int32 → Int32 → am_H → Option (Int32 × am_H)
  | 0, _, _, _, _, _, _ => none
  | n + 1, v0, v1, v2, v3, v4, h => fX9_which_39_b  (fX9_which_39  n) v0 v1 v2 v3 v4 h
def fX9_which_35 (v0 : Option Nat) (v1 : Int32) (v2 : Int32) (s0 : Int32) (h : am_H) : Option (Int32 × am_H) :=
  (fX9_which_39 am_fu) v0 v1 v2 s0 (0 : Int32) h
def fX9_which (v0 : Nat) (v1 : Int32) (v2 : Int32) (h : am_H) : Option (Int32 × am_H) :=
  (am_rc h (some v0) 9).bind fun b2 =>
  (fX9_isRun b2 v1 v2 (-1 : Int32) h).bind fun y1 =>
  if y1.1 = 0 then
    some ((-101 : Int32), y1.2)
  else
  (am_rc y1.2 (some v0) 9).bind fun b4 =>
  (fX9_runAll b4 v1 v2 (-1 : Int32) y1.2).bind fun y3 =>
  (am_rc y3 (some v0) 9).bind fun b6 =>
  (fX9_agreesNow b6 v1 y3).bind fun y5 =>
  if y5.1 = 0 then
    fX9_which_35 (some v0) v1 v2 (0 : Int32) y5.2
  else
  fX9_which_35 (some v0) v1 v2 (256 : Int32) y5.2
/-! DroppingBalls$Run.branchFrom(LDroppingBalls$Run;LDroppingBalls$Fault;)V -/
def fX5_branchFrom_104_b (rec : Option Nat → Option Nat → Int32 → am_H → Option (am_H)) (v0 : Option Nat) (v1 : Option Nat) (v3 : Int32) (h : am_H) : Option (am_H) :=
  if (12 : Int32) ≤ v3 then
    (am_gi h v1 5 12).bind fun x1 =>
    (am_pi h v0 5 12 x1).bind fun h2 =>
    (am_gi h2 v1 5 13).bind fun x3 =>
    (am_pi h2 v0 5 13 x3).bind fun h4 =>
    some h4
  else
  (am_gr h v0 5 11).bind fun x5 =>
  (am_gr h v1 5 11).bind fun x6 =>
  (am_al h x6 0 v3).bind fun x7 =>
  (am_as h x5 0 v3 x7).bind fun h8 =>
  rec v0 v1 (v3 + (1 : Int32)) h8
def fX5_branchFrom_104 : Nat → Option Nat → Option Nat → Int32 → am_H → Option (am_H)
  | 0, _, _, _, _ => none
  | n + 1, v0, v1, v3, h => fX5_branchFrom_104_b  (fX5_branchFrom_104  n) v0 v1 v3 h
def fX5_branchFrom_31_b (rec : Option Nat → Option Nat → Int32 → am_H → Option (am_H)) (v0 : Option Nat) (v1 : Option Nat) (v3 : Int32) (h : am_H) : Option (am_H) :=
  if (3 : Int32) ≤ v3 then
    (am_gi h v1 5 5).bind fun x1 =>
    (am_pi h v0 5 5 x1).bind fun h2 =>
    (am_gi h2 v1 5 6).bind fun x3 =>
    (am_pi h2 v0 5 6 x3).bind fun h4 =>
    (am_gi h4 v1 5 7).bind fun x5 =>
    (am_pi h4 v0 5 7 x5).bind fun h6 =>
    (am_gi h6 v1 5 8).bind fun x7 =>
    (am_pi h6 v0 5 8 x7).bind fun h8 =>
    (am_gi h8 v1 5 9).bind fun x9 =>
    (am_pi h8 v0 5 9 x9).bind fun h10 =>
    (am_gi h10 v1 5 10).bind fun x11 =>
    (am_pi h10 v0 5 10 x11).bind fun h12 =>
    (fX5_branchFrom_104 am_fu) v0 v1 (0 : Int32) h12
  else
  (am_gr h v0 5 4).bind fun x13 =>
  (am_gr h v1 5 4).bind fun x14 =>
  (am_al h x14 0 v3).bind fun x15 =>
  (am_as h x13 0 v3 x15).bind fun h16 =>
  rec v0 v1 (v3 + (1 : Int32)) h16
def fX5_branchFrom_31 : Nat → Option Nat → Option Nat → Int32 → am_H → Option (am_H)
  | 0, _, _, _, _ => none
  | n + 1, v0, v1, v3, h => fX5_branchFrom_31_b  (fX5_branchFrom_31  n) v0 v1 v3 h
def fX5_branchFrom (v0 : Nat) (v1 : Option Nat) (v2 : Option Nat) (h : am_H) : Option (am_H) :=
  (am_gr h v1 5 0).bind fun x1 =>
  (am_pr h (some v0) 5 0 x1).bind fun h2 =>
  (am_pr h2 (some v0) 5 1 v2).bind fun h3 =>
  (am_gi h3 v1 5 2).bind fun x4 =>
  (am_pi h3 (some v0) 5 2 x4).bind fun h5 =>
  (am_gi h5 v1 5 3).bind fun x6 =>
  (am_pi h5 (some v0) 5 3 x6).bind fun h7 =>
  (fX5_branchFrom_31 am_fu) (some v0) v1 (0 : Int32) h7
/-! DroppingBalls.seekFault(III)I -/
def fX8_seekFault_175 (k32 : Option Nat → Int32 → Int32 → Int32 → Int32 → Int32 → Int32 → Int32 → Int32 → Int32 → am_H → Option (Int32 × am_H)) (v0 : Option Nat) (v1 : Int32) (v2 : Int32) (v3 : Int32) (v4 : Int32) (v5 : Int32) (v6 : Int32) (v7 : Int32) (v9 : Int32) (s0 : Int32) (h : am_H) : Option (Int32 × am_H) :=
  k32 v0 v1 v2 v3 v4 v5 v6 v7 s0 (v9 + (1 : Int32)) h
def fX8_seekFault_170 (k175 : Option Nat → Int32 → Int32 → Int32 → Int32 → Int32 → Int32 → Int32 → Int32 → Int32 → am_H → Option (Int32 × am_H)) (v0 : Option Nat) (v1 : Int32) (v2 : Int32) (v3 : Int32) (v4 : Int32) (v5 : Int32) (v6 : Int32) (v7 : Int32) (v9 : Int32) (h : am_H) : Option (Int32 × am_H) :=
  k175 v0 v1 v2 v3 v4 v5 v6 v7 v9 (1 : Int32) h
def fX8_seekFault_126 (k47 : Option Nat → Int32 → Int32 → Int32 → Int32 → Int32 → Int32 → Int32 → Int32 → Int32 → am_H → Option (Int32 × am_H)) (v0 : Option Nat) (v1 : Int32) (v2 : Int32) (v3 : Int32) (v4 : Int32) (v5 : Int32) (v6 : Int32) (v7 : Int32) (v9 : Int32) (v10 : Int32) (h : am_H) : Option (Int32 × am_H) :=
  k47 v0 v1 v2 v3 v4 v5 v6 v7 v9 (v10 + (1 : Int32)) h
def fX8_seekFault_118 (k126 : Option Nat → Int32 → Int32 → Int32 → Int32 → Int32 → Int32 → Int32 → Int32 → Int32 → am_H → Option (Int32 × am_H)) (v0 : Option Nat) (v1 : Int32) (v2 : Int32) (v3 : Int32) (v4 : Int32) (v7 : Int32) (v9 : Int32) (v10 : Int32) (h : am_H) : Option (Int32 × am_H) :=
  k126 v0 v1 v2 v3 v4 v10 v9 v7 v9 v10 h
def fX8_seekFault_183 (v3 : Int32) (v4 : Int32) (v5 : Int32) (v6 : Int32) (v7 : Int32) (h : am_H) : Option (Int32 × am_H) :=
  if v3 = (0 : Int32) then
    some (v4, h)
  else
  if v3 = (1 : Int32) then
    some (v5, h)
  else
  if v3 = (2 : Int32) then
    some (v6, h)
  else
  some (v7, h)
def fX8_seekFault_47_b (k32 : Option Nat → Int32 → Int32 → Int32 → Int32 → Int32 → Int32 → Int32 → Int32 → Int32 → am_H → Option (Int32 × am_H)) (rec : Option Nat → Int32 → Int32 → Int32 → Int32 → Int32 → Int32 → Int32 → Int32 → Int32 → am_H → Option (Int32 × am_H)) (v0 : Option Nat) (v1 : Int32) (v2 : Int32) (v3 : Int32) (v4 : Int32) (v5 : Int32) (v6 : Int32) (v7 : Int32) (v9 : Int32) (v10 : Int32) (h : am_H) : Option (Int32 × am_H) :=
  if (20 : Int32) < v10 then
    (am_gr h v0 8 14).bind fun x1 =>
    (am_rc h x1 5).bind fun b3 =>
    (fX5_advance b3 h).bind fun y2 =>
    (am_gr y2 v0 8 17).bind fun x4 =>
    (am_gi y2 x4 1 2).bind fun x5 =>
    if x5 < v9 then
      (fX8_seekFault_170 (fX8_seekFault_175 k32)) v0 v1 v2 v3 v4 v5 v6 v7 v9 y2
    else
    (am_gr y2 v0 8 17).bind fun x6 =>
    (am_gr y2 v0 8 14).bind fun x7 =>
    (am_gi y2 x7 5 10).bind fun x8 =>
    (am_rc y2 x6 1).bind fun b10 =>
    (fX1_allows b10 v9 x8 y2).bind fun y9 =>
    if y9.1 = 0 then
      (fX8_seekFault_175 k32) v0 v1 v2 v3 v4 v5 v6 v7 v9 (0 : Int32) y9.2
    else
    (fX8_seekFault_170 (fX8_seekFault_175 k32)) v0 v1 v2 v3 v4 v5 v6 v7 v9 y9.2
  else
  (am_gr h v0 8 13).bind fun x11 =>
  (am_rc h x11 2).bind fun b13 =>
  (fX2_become b13 v1 v2 v10 v9 h).bind fun y12 =>
  (am_gr y12 v0 8 15).bind fun x14 =>
  (am_gr y12 v0 8 14).bind fun x15 =>
  (am_gr y12 v0 8 13).bind fun x16 =>
  (am_rc y12 x14 5).bind fun b18 =>
  (fX5_branchFrom b18 x15 x16 y12).bind fun y17 =>
  (am_gr y17 v0 8 15).bind fun x19 =>
  (am_rc y17 v0 8).bind fun b21 =>
  (fX8_agreesFromHere b21 x19 y17).bind fun y20 =>
  if y20.1 = 0 then
    (fX8_seekFault_126 rec) v0 v1 v2 v3 v4 v5 v6 v7 v9 v10 y20.2
  else
  if v5 = (-1 : Int32) then
    (fX8_seekFault_118 (fX8_seekFault_126 rec)) v0 v1 v2 v3 (v4 + (1 : Int32)) (if v7 < v10 then v10 else v7) v9 v10 y20.2
  else
  if v5 ≤ v10 then
    (fX8_seekFault_126 rec) v0 v1 v2 v3 (v4 + (1 : Int32)) v5 v6 (if v7 < v10 then v10 else v7) v9 v10 y20.2
  else
  (fX8_seekFault_118 (fX8_seekFault_126 rec)) v0 v1 v2 v3 (v4 + (1 : Int32)) (if v7 < v10 then v10 else v7) v9 v10 y20.2
def fX8_seekFault_47 (k32 : Option Nat → Int32 → Int32 → Int32 → Int32 → Int32 → Int32 → Int32 → Int32 → Int32 → am_H → Option (Int32 × am_H)) : Nat → Option Nat → Int32 → Int32 → Int32 → Int32 → Int32 → Int32 → Int32 → Int32 → Int32 → am_H → Option (Int32 × am_H)
  | 0, _, _, _, _, _, _, _, _, _, _, _ => none
  | n + 1, v0, v1, v2, v3, v4, v5, v6, v7, v9, v10, h => fX8_seekFault_47_b k32 (fX8_seekFault_47 k32 n) v0 v1 v2 v3 v4 v5 v6 v7 v9 v10 h
def fX8_seekFault_32_b (rec : Option Nat → Int32 → Int32 → Int32 → Int32 → Int32 → Int32 → Int32 → Int32 → Int32 → am_H → Option (Int32 × am_H)) (v0 : Option Nat) (v1 : Int32) (v2 : Int32) (v3 : Int32) (v4 : Int32) (v5 : Int32) (v6 : Int32) (v7 : Int32) (v8 : Int32) (v9 : Int32) (h : am_H) : Option (Int32 × am_H) :=
  if (96 : Int32) ≤ v9 then
    fX8_seekFault_183 v3 v4 v5 v6 v7 h
  else
  if v8 = 0 then
    fX8_seekFault_183 v3 v4 v5 v6 v7 h
  else
  (fX8_seekFault_47 rec am_fu) v0 v1 v2 v3 v4 v5 v6 v7 v9 (1 : Int32) h
def fX8_seekFault_32 : Nat → Option Nat → Int32 → Int32 → Int32 → Int32 → Int32 → Int32 → Int32 → Int32 → Int32 → am_H → Option (Int32 × am_H)
  | 0, _, _, _, _, _, _, _, _, _, _, _ => none
  | n + 1, v0, v1, v2, v3, v4, v5, v6, v7, v8, v9, h => fX8_seekFault_32_b  (fX8_seekFault_32  n) v0 v1 v2 v3 v4 v5 v6 v7 v8 v9 h
def fX8_seekFault_27 (v0 : Option Nat) (v1 : Int32) (v2 : Int32) (v3 : Int32) (v4 : Int32) (v5 : Int32) (v6 : Int32) (v7 : Int32) (s0 : Int32) (h : am_H) : Option (Int32 × am_H) :=
  (fX8_seekFault_32 am_fu) v0 v1 v2 v3 v4 v5 v6 v7 s0 (0 : Int32) h
def fX8_seekFault (v0 : Nat) (v1 : Int32) (v2 : Int32) (v3 : Int32) (h : am_H) : Option (Int32 × am_H) :=
  (am_gr h (some v0) 8 17).bind fun x1 =>
  (am_gi h x1 1 3).bind fun x2 =>
  if x2 = 0 then
    fX8_seekFault_27 (some v0) v1 v2 v3 (0 : Int32) (-1 : Int32) (-1 : Int32) (-1 : Int32) (1 : Int32) h
  else
  fX8_seekFault_27 (some v0) v1 v2 v3 (0 : Int32) (-1 : Int32) (-1 : Int32) (-1 : Int32) (0 : Int32) h
/-! DroppingBalls.sought(IIIII)I -/
def fX8_sought (v0 : Nat) (v1 : Int32) (v2 : Int32) (v3 : Int32) (v4 : Int32) (v5 : Int32) (h : am_H) : Option (Int32 × am_H) :=
  (am_rc h (some v0) 8).bind fun b2 =>
  (fX8_startRun b2 v1 v2 (-1 : Int32) h).bind fun y1 =>
  if y1.1 = 0 then
    some ((-101 : Int32), y1.2)
  else
  (fX8_isIn v3 (1 : Int32) (4 : Int32) y1.2).bind fun y3 =>
  if y3.1 = 0 then
    some ((-102 : Int32), y3.2)
  else
  (fX8_isIn v4 (0 : Int32) (2 : Int32) y3.2).bind fun y4 =>
  if y4.1 = 0 then
    some ((-102 : Int32), y4.2)
  else
  (fX8_isIn v5 (0 : Int32) (3 : Int32) y4.2).bind fun y5 =>
  if y5.1 = 0 then
    some ((-102 : Int32), y5.2)
  else
  (am_gi y5.2 (some v0) 8 10).bind fun x6 =>
  if x6 < (20 : Int32) then
    (am_gi y5.2 (some v0) 8 10).bind fun x7 =>
    (am_pi y5.2 (some v0) 8 10 (x7 + (1 : Int32))).bind fun h8 =>
    (am_gr h8 (some v0) 8 17).bind fun x9 =>
    (am_gr h8 (some v0) 8 7).bind fun x10 =>
    (am_gr h8 x10 6 2).bind fun x11 =>
    (am_gr h8 (some v0) 8 14).bind fun x12 =>
    (am_gr h8 x12 5 0).bind fun x13 =>
    (am_gi h8 x13 0 8).bind fun x14 =>
    (am_rc h8 x9 1).bind fun b16 =>
    (fX1_gather b16 x11 x14 h8).bind fun y15 =>
    (am_rc y15 (some v0) 8).bind fun b18 =>
    (fX8_seekFault b18 v3 v4 v5 y15).bind fun y17 =>
    some (y17.1, y17.2)
  else
  some ((-103 : Int32), y5.2)
/-! DroppingBallsModel.sought(IIIII)I -/
def fX9_sought_170 (k179 : Option Nat → Int32 → Int32 → Int32 → Int32 → Int32 → Int32 → Int32 → Int32 → Int32 → Int32 → Int32 → am_H → Option (Int32 × am_H)) (v0 : Option Nat) (v1 : Int32) (v2 : Int32) (v3 : Int32) (v4 : Int32) (v5 : Int32) (v6 : Int32) (v8 : Int32) (v10 : Int32) (v11 : Int32) (s0 : Int32) (h : am_H) : Option (Int32 × am_H) :=
  k179 v0 v1 v2 v3 v4 v5 (v6 + (1 : Int32)) s0 v8 v10 v10 v11 h
def fX9_sought_179 (k92 : Option Nat → Int32 → Int32 → Int32 → Int32 → Int32 → Int32 → Int32 → Int32 → Int32 → Int32 → Int32 → am_H → Option (Int32 × am_H)) (v0 : Option Nat) (v1 : Int32) (v2 : Int32) (v3 : Int32) (v4 : Int32) (v5 : Int32) (v6 : Int32) (v7 : Int32) (v8 : Int32) (v9 : Int32) (v10 : Int32) (v11 : Int32) (h : am_H) : Option (Int32 × am_H) :=
  k92 v0 v1 v2 v3 v4 v5 v6 v7 v8 v9 v10 (v11 + (1 : Int32)) h
def fX9_sought_156 (k179 : Option Nat → Int32 → Int32 → Int32 → Int32 → Int32 → Int32 → Int32 → Int32 → Int32 → Int32 → Int32 → am_H → Option (Int32 × am_H)) (v0 : Option Nat) (v1 : Int32) (v2 : Int32) (v3 : Int32) (v4 : Int32) (v5 : Int32) (v6 : Int32) (v7 : Int32) (v10 : Int32) (v11 : Int32) (s0 : Int32) (h : am_H) : Option (Int32 × am_H) :=
  if v6 = 0 then
    (fX9_sought_170 k179) v0 v1 v2 v3 v4 v5 v6 s0 v10 v11 v10 h
  else
  (fX9_sought_170 k179) v0 v1 v2 v3 v4 v5 v6 s0 v10 v11 v7 h
def fX9_sought_92_b (k82 : Option Nat → Int32 → Int32 → Int32 → Int32 → Int32 → Int32 → Int32 → Int32 → Int32 → Int32 → am_H → Option (Int32 × am_H)) (rec : Option Nat → Int32 → Int32 → Int32 → Int32 → Int32 → Int32 → Int32 → Int32 → Int32 → Int32 → Int32 → am_H → Option (Int32 × am_H)) (v0 : Option Nat) (v1 : Int32) (v2 : Int32) (v3 : Int32) (v4 : Int32) (v5 : Int32) (v6 : Int32) (v7 : Int32) (v8 : Int32) (v9 : Int32) (v10 : Int32) (v11 : Int32) (h : am_H) : Option (Int32 × am_H) :=
  if (96 : Int32) ≤ v11 then
    k82 v0 v1 v2 v3 v4 v5 v6 v7 v8 v9 (v10 + (1 : Int32)) h
  else
  (am_rc h v0 9).bind fun b2 =>
  (fX9_load b2 v1 (-1 : Int32) h).bind fun y1 =>
  (am_pi y1 v0 9 46 v3).bind fun h3 =>
  (am_pi h3 v0 9 47 v4).bind fun h4 =>
  (am_pi h4 v0 9 48 v10).bind fun h5 =>
  (am_pi h5 v0 9 49 v11).bind fun h6 =>
  (am_rc h6 v0 9).bind fun b8 =>
  (fX9_run b8 v1 v2 (95 : Int32) h6).bind fun y7 =>
  (am_rc y7 v0 9).bind fun b10 =>
  (fX9_agreesNow b10 v1 y7).bind fun y9 =>
  if y9.1 = 0 then
    (fX9_sought_179 rec) v0 v1 v2 v3 v4 v5 v6 v7 v8 v9 v10 v11 y9.2
  else
  if v6 = 0 then
    (fX9_sought_156 (fX9_sought_179 rec)) v0 v1 v2 v3 v4 v5 v6 v7 v10 v11 v11 y9.2
  else
  (fX9_sought_156 (fX9_sought_179 rec)) v0 v1 v2 v3 v4 v5 v6 v7 v10 v11 v8 y9.2
def fX9_sought_92 (k82 : Option Nat → Int32 → Int32 → Int32 → Int32 → Int32 → Int32 → Int32 → Int32 → Int32 → Int32 → am_H → Option (Int32 × am_H)) : Nat → Option Nat → Int32 → Int32 → Int32 → Int32 → Int32 → Int32 → Int32 → Int32 → Int32 → Int32 → Int32 → am_H → Option (Int32 × am_H)
  | 0, _, _, _, _, _, _, _, _, _, _, _, _, _ => none
  | n + 1, v0, v1, v2, v3, v4, v5, v6, v7, v8, v9, v10, v11, h => fX9_sought_92_b k82 (fX9_sought_92 k82 n) v0 v1 v2 v3 v4 v5 v6 v7 v8 v9 v10 v11 h
def fX9_sought_82_b (rec : Option Nat → Int32 → Int32 → Int32 → Int32 → Int32 → Int32 → Int32 → Int32 → Int32 → Int32 → am_H → Option (Int32 × am_H)) (v0 : Option Nat) (v1 : Int32) (v2 : Int32) (v3 : Int32) (v4 : Int32) (v5 : Int32) (v6 : Int32) (v7 : Int32) (v8 : Int32) (v9 : Int32) (v10 : Int32) (h : am_H) : Option (Int32 × am_H) :=
  if (20 : Int32) < v10 then
    if v5 = 0 then
      some (v6, h)
    else
    if v5 = (1 : Int32) then
      some (v7, h)
    else
    if v5 = (2 : Int32) then
      some (v8, h)
    else
    some (v9, h)
  else
  (fX9_sought_92 rec am_fu) v0 v1 v2 v3 v4 v5 v6 v7 v8 v9 v10 (0 : Int32) h
def fX9_sought_82 : Nat → Option Nat → Int32 → Int32 → Int32 → Int32 → Int32 → Int32 → Int32 → Int32 → Int32 → Int32 → am_H → Option (Int32 × am_H)
  | 0, _, _, _, _, _, _, _, _, _, _, _, _ => none
  | n + 1, v0, v1, v2, v3, v4, v5, v6, v7, v8, v9, v10, h => fX9_sought_82_b  (fX9_sought_82  n) v0 v1 v2 v3 v4 v5 v6 v7 v8 v9 v10 h
def fX9_sought (v0 : Nat) (v1 : Int32) (v2 : Int32) (v3 : Int32) (v4 : Int32) (v5 : Int32) (h : am_H) : Option (Int32 × am_H) :=
  (am_rc h (some v0) 9).bind fun b2 =>
  (fX9_isRun b2 v1 v2 (-1 : Int32) h).bind fun y1 =>
  if y1.1 = 0 then
    some ((-101 : Int32), y1.2)
  else
  (fX9_within v3 (1 : Int32) (4 : Int32) y1.2).bind fun y3 =>
  if y3.1 = 0 then
    some ((-102 : Int32), y3.2)
  else
  (fX9_within v4 (0 : Int32) (2 : Int32) y3.2).bind fun y4 =>
  if y4.1 = 0 then
    some ((-102 : Int32), y4.2)
  else
  (fX9_within v5 (0 : Int32) (3 : Int32) y4.2).bind fun y5 =>
  if y5.1 = 0 then
    some ((-102 : Int32), y5.2)
  else
  (am_gi y5.2 (some v0) 9 23).bind fun x6 =>
  if x6 = (20 : Int32) then
    some ((-103 : Int32), y5.2)
  else
  (am_gi y5.2 (some v0) 9 23).bind fun x7 =>
  (am_pi y5.2 (some v0) 9 23 (x7 + (1 : Int32))).bind fun h8 =>
  (fX9_sought_82 am_fu) (some v0) v1 v2 v3 v4 v5 (0 : Int32) (-1 : Int32) (-1 : Int32) (-1 : Int32) (1 : Int32) h8
/-! DroppingBalls$Clock.guess(III)V -/
def fX0_guess (v0 : Nat) (v1 : Int32) (v2 : Int32) (v3 : Int32) (h : am_H) : Option (am_H) :=
  (am_pi h (some v0) 0 7 v3).bind fun h1 =>
  (am_rc h1 (some v0) 0).bind fun b3 =>
  (fX0_hasVessel b3 v1 h1).bind fun y2 =>
  if y2.1 = 0 then
    some y2.2
  else
  (am_gr y2.2 (some v0) 0 3).bind fun x4 =>
  (am_as y2.2 x4 0 v1 v2).bind fun h5 =>
  some h5
/-! DroppingBalls.seekClock(III)I -/
def fX8_seekClock_84 (k22 : Option Nat → Int32 → Int32 → Int32 → Int32 → Int32 → Int32 → Int32 → Int32 → am_H → Option (Int32 × am_H)) (v0 : Option Nat) (v1 : Int32) (v2 : Int32) (v3 : Int32) (v4 : Int32) (v5 : Int32) (v6 : Int32) (v7 : Int32) (v8 : Int32) (h : am_H) : Option (Int32 × am_H) :=
  k22 v0 v1 v2 v3 v4 v5 v6 v7 (v8 + (1 : Int32)) h
def fX8_seekClock_81 (k84 : Option Nat → Int32 → Int32 → Int32 → Int32 → Int32 → Int32 → Int32 → Int32 → am_H → Option (Int32 × am_H)) (v0 : Option Nat) (v1 : Int32) (v2 : Int32) (v3 : Int32) (v4 : Int32) (v5 : Int32) (v6 : Int32) (v7 : Int32) (v8 : Int32) (h : am_H) : Option (Int32 × am_H) :=
  k84 v0 v1 v2 v3 (v4 + (1 : Int32)) v5 v6 v7 v8 h
def fX8_seekClock_22_b (k12 : Option Nat → Int32 → Int32 → Int32 → Int32 → Int32 → Int32 → Int32 → am_H → Option (Int32 × am_H)) (rec : Option Nat → Int32 → Int32 → Int32 → Int32 → Int32 → Int32 → Int32 → Int32 → am_H → Option (Int32 × am_H)) (v0 : Option Nat) (v1 : Int32) (v2 : Int32) (v3 : Int32) (v4 : Int32) (v5 : Int32) (v6 : Int32) (v7 : Int32) (v8 : Int32) (h : am_H) : Option (Int32 × am_H) :=
  if (60 : Int32) < v8 then
    k12 v0 v1 v2 v3 v4 v5 v6 (v7 + (1 : Int32)) h
  else
  (am_gr h v0 8 11).bind fun x1 =>
  (am_rc h x1 0).bind fun b3 =>
  (fX0_guess b3 v2 v7 v8 h).bind fun y2 =>
  (am_gr y2 v0 8 14).bind fun x4 =>
  (am_gr y2 v0 8 11).bind fun x5 =>
  (am_gr y2 v0 8 12).bind fun x6 =>
  (am_rc y2 x4 5).bind fun b8 =>
  (fX5_start b8 x5 v1 x6 y2).bind fun y7 =>
  (am_gr y7 v0 8 14).bind fun x9 =>
  (am_rc y7 v0 8).bind fun b11 =>
  (fX8_agreesFromHere b11 x9 y7).bind fun y10 =>
  if y10.1 = 0 then
    (fX8_seekClock_84 rec) v0 v1 v2 v3 v4 v5 v6 v7 v8 y10.2
  else
  if v4 = 0 then
    (fX8_seekClock_81 (fX8_seekClock_84 rec)) v0 v1 v2 v3 v4 v7 v8 v7 v8 y10.2
  else
  (fX8_seekClock_81 (fX8_seekClock_84 rec)) v0 v1 v2 v3 v4 v5 v6 v7 v8 y10.2
def fX8_seekClock_22 (k12 : Option Nat → Int32 → Int32 → Int32 → Int32 → Int32 → Int32 → Int32 → am_H → Option (Int32 × am_H)) : Nat → Option Nat → Int32 → Int32 → Int32 → Int32 → Int32 → Int32 → Int32 → Int32 → am_H → Option (Int32 × am_H)
  | 0, _, _, _, _, _, _, _, _, _, _ => none
  | n + 1, v0, v1, v2, v3, v4, v5, v6, v7, v8, h => fX8_seekClock_22_b k12 (fX8_seekClock_22 k12 n) v0 v1 v2 v3 v4 v5 v6 v7 v8 h
def fX8_seekClock_12_b (rec : Option Nat → Int32 → Int32 → Int32 → Int32 → Int32 → Int32 → Int32 → am_H → Option (Int32 × am_H)) (v0 : Option Nat) (v1 : Int32) (v2 : Int32) (v3 : Int32) (v4 : Int32) (v5 : Int32) (v6 : Int32) (v7 : Int32) (h : am_H) : Option (Int32 × am_H) :=
  if (40 : Int32) < v7 then
    if v3 = (0 : Int32) then
      some (v4, h)
    else
    if v3 = (1 : Int32) then
      some (v5, h)
    else
    some (v6, h)
  else
  (fX8_seekClock_22 rec am_fu) v0 v1 v2 v3 v4 v5 v6 v7 (0 : Int32) h
def fX8_seekClock_12 : Nat → Option Nat → Int32 → Int32 → Int32 → Int32 → Int32 → Int32 → Int32 → am_H → Option (Int32 × am_H)
  | 0, _, _, _, _, _, _, _, _, _ => none
  | n + 1, v0, v1, v2, v3, v4, v5, v6, v7, h => fX8_seekClock_12_b  (fX8_seekClock_12  n) v0 v1 v2 v3 v4 v5 v6 v7 h
def fX8_seekClock (v0 : Nat) (v1 : Int32) (v2 : Int32) (v3 : Int32) (h : am_H) : Option (Int32 × am_H) :=
  (fX8_seekClock_12 am_fu) (some v0) v1 v2 v3 (0 : Int32) (-1 : Int32) (-1 : Int32) (1 : Int32) h
/-! DroppingBalls.lost(IIII)I -/
def fX8_lost (v0 : Nat) (v1 : Int32) (v2 : Int32) (v3 : Int32) (v4 : Int32) (h : am_H) : Option (Int32 × am_H) :=
  (am_rc h (some v0) 8).bind fun b2 =>
  (fX8_clockOf b2 v1 h).bind fun y1 =>
  if y1.1 = none then
    some ((-101 : Int32), y1.2)
  else
  (fX8_isSeason v2 y1.2).bind fun y3 =>
  if y3.1 = 0 then
    some ((-101 : Int32), y3.2)
  else
  (am_rc y3.2 y1.1 0).bind fun b5 =>
  (fX0_hasVessel b5 v3 y3.2).bind fun y4 =>
  if y4.1 = 0 then
    some ((-102 : Int32), y4.2)
  else
  (fX8_isIn v4 (0 : Int32) (2 : Int32) y4.2).bind fun y6 =>
  if y6.1 = 0 then
    some ((-102 : Int32), y6.2)
  else
  (am_gi y6.2 (some v0) 8 10).bind fun x7 =>
  if x7 < (20 : Int32) then
    (am_gi y6.2 (some v0) 8 10).bind fun x8 =>
    (am_pi y6.2 (some v0) 8 10 (x8 + (1 : Int32))).bind fun h9 =>
    (am_gr h9 (some v0) 8 17).bind fun x10 =>
    (am_gr h9 (some v0) 8 7).bind fun x11 =>
    (am_gr h9 x11 6 2).bind fun x12 =>
    (am_gi h9 y1.1 0 8).bind fun x13 =>
    (am_rc h9 x10 1).bind fun b15 =>
    (fX1_gather b15 x12 x13 h9).bind fun y14 =>
    (am_gr y14 (some v0) 8 11).bind fun x16 =>
    (am_rc y14 x16 0).bind fun b18 =>
    (fX0_copyFrom b18 y1.1 y14).bind fun y17 =>
    (am_rc y17 (some v0) 8).bind fun b20 =>
    (fX8_warmthOf b20 v2 y17).bind fun y19 =>
    (am_rc y19.2 (some v0) 8).bind fun b22 =>
    (fX8_seekClock b22 y19.1 v3 v4 y19.2).bind fun y21 =>
    some (y21.1, y21.2)
  else
  some ((-103 : Int32), y6.2)
/-! DroppingBallsModel.lost(IIII)I -/
def fX9_lost_155 (k160 : Option Nat → Int32 → Int32 → Int32 → Int32 → Int32 → Int32 → Int32 → Int32 → Int32 → am_H → Option (Int32 × am_H)) (v0 : Option Nat) (v1 : Int32) (v2 : Int32) (v3 : Int32) (v4 : Int32) (v5 : Int32) (v6 : Int32) (v8 : Int32) (v9 : Int32) (s0 : Int32) (h : am_H) : Option (Int32 × am_H) :=
  k160 v0 v1 v2 v3 v4 (v5 + (1 : Int32)) v6 s0 v8 v9 h
def fX9_lost_160 (k86 : Option Nat → Int32 → Int32 → Int32 → Int32 → Int32 → Int32 → Int32 → Int32 → Int32 → am_H → Option (Int32 × am_H)) (v0 : Option Nat) (v1 : Int32) (v2 : Int32) (v3 : Int32) (v4 : Int32) (v5 : Int32) (v6 : Int32) (v7 : Int32) (v8 : Int32) (v9 : Int32) (h : am_H) : Option (Int32 × am_H) :=
  k86 v0 v1 v2 v3 v4 v5 v6 v7 v8 (v9 + (1 : Int32)) h
def fX9_lost_141 (k160 : Option Nat → Int32 → Int32 → Int32 → Int32 → Int32 → Int32 → Int32 → Int32 → Int32 → am_H → Option (Int32 × am_H)) (v0 : Option Nat) (v1 : Int32) (v2 : Int32) (v3 : Int32) (v4 : Int32) (v5 : Int32) (v7 : Int32) (v8 : Int32) (v9 : Int32) (s0 : Int32) (h : am_H) : Option (Int32 × am_H) :=
  if v5 = 0 then
    (fX9_lost_155 k160) v0 v1 v2 v3 v4 v5 s0 v8 v9 v9 h
  else
  (fX9_lost_155 k160) v0 v1 v2 v3 v4 v5 s0 v8 v9 v7 h
def fX9_lost_86_b (k76 : Option Nat → Int32 → Int32 → Int32 → Int32 → Int32 → Int32 → Int32 → Int32 → am_H → Option (Int32 × am_H)) (rec : Option Nat → Int32 → Int32 → Int32 → Int32 → Int32 → Int32 → Int32 → Int32 → Int32 → am_H → Option (Int32 × am_H)) (v0 : Option Nat) (v1 : Int32) (v2 : Int32) (v3 : Int32) (v4 : Int32) (v5 : Int32) (v6 : Int32) (v7 : Int32) (v8 : Int32) (v9 : Int32) (h : am_H) : Option (Int32 × am_H) :=
  if (60 : Int32) < v9 then
    k76 v0 v1 v2 v3 v4 v5 v6 v7 (v8 + (1 : Int32)) h
  else
  (am_rc h v0 9).bind fun b2 =>
  (fX9_load b2 v1 (-1 : Int32) h).bind fun y1 =>
  (am_gr y1 v0 9 43).bind fun x3 =>
  (am_as y1 x3 0 v3 v8).bind fun h4 =>
  (am_pi h4 v0 9 44 v9).bind fun h5 =>
  (am_rc h5 v0 9).bind fun b7 =>
  (fX9_run b7 v1 v2 (95 : Int32) h5).bind fun y6 =>
  (am_rc y6 v0 9).bind fun b9 =>
  (fX9_agreesNow b9 v1 y6).bind fun y8 =>
  if y8.1 = 0 then
    (fX9_lost_160 rec) v0 v1 v2 v3 v4 v5 v6 v7 v8 v9 y8.2
  else
  if v5 = 0 then
    (fX9_lost_141 (fX9_lost_160 rec)) v0 v1 v2 v3 v4 v5 v7 v8 v9 v8 y8.2
  else
  (fX9_lost_141 (fX9_lost_160 rec)) v0 v1 v2 v3 v4 v5 v7 v8 v9 v6 y8.2
def fX9_lost_86 (k76 : Option Nat → Int32 → Int32 → Int32 → Int32 → Int32 → Int32 → Int32 → Int32 → am_H → Option (Int32 × am_H)) : Nat → Option Nat → Int32 → Int32 → Int32 → Int32 → Int32 → Int32 → Int32 → Int32 → Int32 → am_H → Option (Int32 × am_H)
  | 0, _, _, _, _, _, _, _, _, _, _, _ => none
  | n + 1, v0, v1, v2, v3, v4, v5, v6, v7, v8, v9, h => fX9_lost_86_b k76 (fX9_lost_86 k76 n) v0 v1 v2 v3 v4 v5 v6 v7 v8 v9 h
def fX9_lost_76_b (rec : Option Nat → Int32 → Int32 → Int32 → Int32 → Int32 → Int32 → Int32 → Int32 → am_H → Option (Int32 × am_H)) (v0 : Option Nat) (v1 : Int32) (v2 : Int32) (v3 : Int32) (v4 : Int32) (v5 : Int32) (v6 : Int32) (v7 : Int32) (v8 : Int32) (h : am_H) : Option (Int32 × am_H) :=
  if (40 : Int32) < v8 then
    if v4 = 0 then
      some (v5, h)
    else
    if v4 = (1 : Int32) then
      some (v6, h)
    else
    some (v7, h)
  else
  (fX9_lost_86 rec am_fu) v0 v1 v2 v3 v4 v5 v6 v7 v8 (0 : Int32) h
def fX9_lost_76 : Nat → Option Nat → Int32 → Int32 → Int32 → Int32 → Int32 → Int32 → Int32 → Int32 → am_H → Option (Int32 × am_H)
  | 0, _, _, _, _, _, _, _, _, _, _ => none
  | n + 1, v0, v1, v2, v3, v4, v5, v6, v7, v8, h => fX9_lost_76_b  (fX9_lost_76  n) v0 v1 v2 v3 v4 v5 v6 v7 v8 h
def fX9_lost (v0 : Nat) (v1 : Int32) (v2 : Int32) (v3 : Int32) (v4 : Int32) (h : am_H) : Option (Int32 × am_H) :=
  (am_rc h (some v0) 9).bind fun b2 =>
  (fX9_isRun b2 v1 v2 (-1 : Int32) h).bind fun y1 =>
  if y1.1 = 0 then
    some ((-101 : Int32), y1.2)
  else
  (am_gr y1.2 (some v0) 9 1).bind fun x3 =>
  (am_al y1.2 x3 0 v1).bind fun x4 =>
  (fX9_within v3 (0 : Int32) (x4 - (1 : Int32)) y1.2).bind fun y5 =>
  if y5.1 = 0 then
    some ((-102 : Int32), y5.2)
  else
  (fX9_within v4 (0 : Int32) (2 : Int32) y5.2).bind fun y6 =>
  if y6.1 = 0 then
    some ((-102 : Int32), y6.2)
  else
  (am_gi y6.2 (some v0) 9 23).bind fun x7 =>
  if x7 = (20 : Int32) then
    some ((-103 : Int32), y6.2)
  else
  (am_gi y6.2 (some v0) 9 23).bind fun x8 =>
  (am_pi y6.2 (some v0) 9 23 (x8 + (1 : Int32))).bind fun h9 =>
  (fX9_lost_76 am_fu) (some v0) v1 v2 v3 v4 (0 : Int32) (-1 : Int32) (-1 : Int32) (1 : Int32) h9
/-! DroppingBalls.isBallOrNone(LDroppingBalls$Clock;I)Z -/
def fX8_isBallOrNone (v0 : Option Nat) (v1 : Int32) (h : am_H) : Option (Int32 × am_H) :=
  if v1 = (-1 : Int32) then
    am_zr (1 : Int32) h
  else
  (am_rc h v0 0).bind fun b2 =>
  (fX0_hasBall b2 v1 h).bind fun y1 =>
  if y1.1 = 0 then
    am_zr (0 : Int32) y1.2
  else
  am_zr (1 : Int32) y1.2
/-! DroppingBalls$Run.spanFirst(I)I -/
def fX5_spanFirst (v0 : Nat) (v1 : Int32) (h : am_H) : Option (Int32 × am_H) :=
  if v1 = (-1 : Int32) then
    some ((0 : Int32), h)
  else
  (am_rc h (some v0) 5).bind fun b2 =>
  (fX5_tickOf b2 v1 h).bind fun y1 =>
  some (y1.1, y1.2)
/-! DroppingBalls$Run.spanLast(I)I -/
def fX5_spanLast (v0 : Nat) (v1 : Int32) (h : am_H) : Option (Int32 × am_H) :=
  (am_rc h (some v0) 5).bind fun b2 =>
  (fX5_tickOf b2 (v1 + (1 : Int32)) h).bind fun y1 =>
  if y1.1 = (-1 : Int32) then
    some ((95 : Int32), y1.2)
  else
  some (y1.1 - (1 : Int32), y1.2)
/-! DroppingBalls$Run.hasSpan(I)Z -/
def fX5_hasSpan (v0 : Nat) (v1 : Int32) (h : am_H) : Option (Int32 × am_H) :=
  (am_rc h (some v0) 5).bind fun b2 =>
  (fX5_spanFirst b2 v1 h).bind fun y1 =>
  if y1.1 = (-1 : Int32) then
    am_zr (0 : Int32) y1.2
  else
  (am_rc y1.2 (some v0) 5).bind fun b4 =>
  (fX5_spanLast b4 v1 y1.2).bind fun y3 =>
  if y3.1 < y1.1 then
    am_zr (0 : Int32) y3.2
  else
  am_zr (1 : Int32) y3.2
/-! DroppingBalls.span(IIIII)I -/
def fX8_span (v0 : Nat) (v1 : Int32) (v2 : Int32) (v3 : Int32) (v4 : Int32) (v5 : Int32) (h : am_H) : Option (Int32 × am_H) :=
  (am_rc h (some v0) 8).bind fun b2 =>
  (fX8_startRun b2 v1 v2 v3 h).bind fun y1 =>
  if y1.1 = 0 then
    some ((-101 : Int32), y1.2)
  else
  (am_gr y1.2 (some v0) 8 14).bind fun x3 =>
  (am_gr y1.2 x3 5 0).bind fun x4 =>
  (fX8_isBallOrNone x4 v4 y1.2).bind fun y5 =>
  if y5.1 = 0 then
    some ((-101 : Int32), y5.2)
  else
  (fX8_isIn v5 (0 : Int32) (1 : Int32) y5.2).bind fun y6 =>
  if y6.1 = 0 then
    some ((-102 : Int32), y6.2)
  else
  (am_gr y6.2 (some v0) 8 14).bind fun x7 =>
  (am_rc y6.2 x7 5).bind fun b9 =>
  (fX5_goOnTo b9 (96 : Int32) y6.2).bind fun y8 =>
  (am_gr y8 (some v0) 8 14).bind fun x10 =>
  (am_rc y8 x10 5).bind fun b12 =>
  (fX5_hasSpan b12 v4 y8).bind fun y11 =>
  if y11.1 = 0 then
    some ((-1 : Int32), y11.2)
  else
  if v5 = 0 then
    (am_gr y11.2 (some v0) 8 14).bind fun x16 =>
    (am_rc y11.2 x16 5).bind fun b18 =>
    (fX5_spanFirst b18 v4 y11.2).bind fun y17 =>
    some (y17.1, y17.2)
  else
  (am_gr y11.2 (some v0) 8 14).bind fun x13 =>
  (am_rc y11.2 x13 5).bind fun b15 =>
  (fX5_spanLast b15 v4 y11.2).bind fun y14 =>
  some (y14.1, y14.2)
/-! DroppingBallsModel.isRecord(II)Z -/
def fX9_isRecord (v0 : Nat) (v1 : Int32) (v2 : Int32) (h : am_H) : Option (Int32 × am_H) :=
  if v2 = (-1 : Int32) then
    am_zr (1 : Int32) h
  else
  (am_rc h (some v0) 9).bind fun b2 =>
  (fX9_isBall b2 v1 v2 h).bind fun y1 =>
  if y1.1 = 0 then
    am_zr (0 : Int32) y1.2
  else
  am_zr (1 : Int32) y1.2
/-! DroppingBallsModel.spanFrom(I)I -/
def fX9_spanFrom (v0 : Nat) (v1 : Int32) (h : am_H) : Option (Int32 × am_H) :=
  if v1 = (-1 : Int32) then
    some ((0 : Int32), h)
  else
  (am_gr h (some v0) 9 56).bind fun x1 =>
  (am_al h x1 0 v1).bind fun x2 =>
  some (x2, h)
/-! DroppingBallsModel.spanTo(II)I -/
def fX9_spanTo (v0 : Nat) (v1 : Int32) (v2 : Int32) (h : am_H) : Option (Int32 × am_H) :=
  (am_gr h (some v0) 9 8).bind fun x1 =>
  (am_al h x1 0 v1).bind fun x2 =>
  if x2 ≤ (v2 + (1 : Int32)) then
    some ((95 : Int32), h)
  else
  (am_gr h (some v0) 9 56).bind fun x3 =>
  (am_al h x3 0 (v2 + (1 : Int32))).bind fun x4 =>
  some (x4 - (1 : Int32), h)
/-! DroppingBallsModel.span(IIIII)I -/
def fX9_span (v0 : Nat) (v1 : Int32) (v2 : Int32) (v3 : Int32) (v4 : Int32) (v5 : Int32) (h : am_H) : Option (Int32 × am_H) :=
  (am_rc h (some v0) 9).bind fun b2 =>
  (fX9_isRun b2 v1 v2 v3 h).bind fun y1 =>
  if y1.1 = 0 then
    some ((-101 : Int32), y1.2)
  else
  (am_rc y1.2 (some v0) 9).bind fun b4 =>
  (fX9_isRecord b4 v1 v4 y1.2).bind fun y3 =>
  if y3.1 = 0 then
    some ((-101 : Int32), y3.2)
  else
  (fX9_within v5 (0 : Int32) (1 : Int32) y3.2).bind fun y5 =>
  if y5.1 = 0 then
    some ((-102 : Int32), y5.2)
  else
  (am_rc y5.2 (some v0) 9).bind fun b7 =>
  (fX9_runAll b7 v1 v2 v3 y5.2).bind fun y6 =>
  (am_rc y6 (some v0) 9).bind fun b9 =>
  (fX9_spanFrom b9 v4 y6).bind fun y8 =>
  (am_rc y8.2 (some v0) 9).bind fun b11 =>
  (fX9_spanTo b11 v1 v4 y8.2).bind fun y10 =>
  if y8.1 ≤ y10.1 then
    if v5 = 0 then
      some (y8.1, y10.2)
    else
    some (y10.1, y10.2)
  else
  some ((-1 : Int32), y10.2)
/-! DroppingBalls.holdsInRun(II)Z -/
def fX8_holdsInRun (v0 : Nat) (v1 : Int32) (v2 : Int32) (h : am_H) : Option (Int32 × am_H) :=
  (am_gr h (some v0) 8 14).bind fun x1 =>
  (am_rc h x1 5).bind fun b3 =>
  (fX5_goOnTo b3 (96 : Int32) h).bind fun y2 =>
  (am_gr y2 (some v0) 8 14).bind fun x4 =>
  (am_rc y2 x4 5).bind fun b6 =>
  (fX5_hasSpan b6 v1 y2).bind fun y5 =>
  if y5.1 = 0 then
    am_zr (0 : Int32) y5.2
  else
  (am_gr y5.2 (some v0) 8 14).bind fun x7 =>
  (am_rc y5.2 x7 5).bind fun b9 =>
  (fX5_spanFirst b9 v1 y5.2).bind fun y8 =>
  (am_gr y8.2 (some v0) 8 14).bind fun x10 =>
  (am_rc y8.2 x10 5).bind fun b12 =>
  (fX5_spanLast b12 v1 y8.2).bind fun y11 =>
  (fX8_isIn v2 y8.1 y11.1 y11.2).bind fun y13 =>
  if y13.1 = 0 then
    am_zr (0 : Int32) y13.2
  else
  am_zr (1 : Int32) y13.2
/-! DroppingBalls.record(IIIII)I -/
def fX8_record_105 (k72 : Option Nat → Int32 → Int32 → Int32 → Int32 → Int32 → am_H → Option (Int32 × am_H)) (v0 : Option Nat) (v1 : Int32) (v2 : Int32) (v3 : Int32) (v4 : Int32) (v6 : Int32) (h : am_H) : Option (Int32 × am_H) :=
  k72 v0 v1 v2 v3 v4 (v6 + (1 : Int32)) h
def fX8_record_72_b (rec : Option Nat → Int32 → Int32 → Int32 → Int32 → Int32 → am_H → Option (Int32 × am_H)) (v0 : Option Nat) (v1 : Int32) (v2 : Int32) (v3 : Int32) (v4 : Int32) (v6 : Int32) (h : am_H) : Option (Int32 × am_H) :=
  (am_gi h v0 8 4).bind fun x1 =>
  if x1 ≤ v6 then
    some ((-1 : Int32), h)
  else
  (am_rc h v0 8).bind fun b3 =>
  (fX8_startRun b3 v1 v2 v6 h).bind fun y2 =>
  if y2.1 = 0 then
    (fX8_record_105 rec) v0 v1 v2 v3 v4 v6 y2.2
  else
  (am_rc y2.2 v0 8).bind fun b5 =>
  (fX8_holdsInRun b5 v3 v4 y2.2).bind fun y4 =>
  if y4.1 = 0 then
    (fX8_record_105 rec) v0 v1 v2 v3 v4 v6 y4.2
  else
  some (v6, y4.2)
def fX8_record_72 : Nat → Option Nat → Int32 → Int32 → Int32 → Int32 → Int32 → am_H → Option (Int32 × am_H)
  | 0, _, _, _, _, _, _, _ => none
  | n + 1, v0, v1, v2, v3, v4, v6, h => fX8_record_72_b  (fX8_record_72  n) v0 v1 v2 v3 v4 v6 h
def fX8_record (v0 : Nat) (v1 : Int32) (v2 : Int32) (v3 : Int32) (v4 : Int32) (v5 : Int32) (h : am_H) : Option (Int32 × am_H) :=
  (am_rc h (some v0) 8).bind fun b2 =>
  (fX8_startRun b2 v1 v2 (-1 : Int32) h).bind fun y1 =>
  if y1.1 = 0 then
    some ((-101 : Int32), y1.2)
  else
  (am_gr y1.2 (some v0) 8 14).bind fun x3 =>
  (am_gr y1.2 x3 5 0).bind fun x4 =>
  (fX8_isBallOrNone x4 v3 y1.2).bind fun y5 =>
  if y5.1 = 0 then
    some ((-101 : Int32), y5.2)
  else
  (fX8_isTick v4 y5.2).bind fun y6 =>
  if y6.1 = 0 then
    some ((-102 : Int32), y6.2)
  else
  (fX8_isIn v5 (0 : Int32) (1 : Int32) y6.2).bind fun y7 =>
  if y7.1 = 0 then
    some ((-102 : Int32), y7.2)
  else
  if v5 = 0 then
    (am_rc y7.2 (some v0) 8).bind fun b9 =>
    (fX8_holdsInRun b9 v3 v4 y7.2).bind fun y8 =>
    if y8.1 = 0 then
      some ((0 : Int32), y8.2)
    else
    some ((1 : Int32), y8.2)
  else
  (fX8_record_72 am_fu) (some v0) v1 v2 v3 v4 (0 : Int32) y7.2
/-! DroppingBallsModel.holds(IIIII)Z -/
def fX9_holds (v0 : Nat) (v1 : Int32) (v2 : Int32) (v3 : Int32) (v4 : Int32) (v5 : Int32) (h : am_H) : Option (Int32 × am_H) :=
  (am_rc h (some v0) 9).bind fun b2 =>
  (fX9_runAll b2 v1 v2 v3 h).bind fun y1 =>
  (am_rc y1 (some v0) 9).bind fun b4 =>
  (fX9_spanFrom b4 v4 y1).bind fun y3 =>
  (am_rc y3.2 (some v0) 9).bind fun b6 =>
  (fX9_spanTo b6 v1 v4 y3.2).bind fun y5 =>
  (fX9_within v5 y3.1 y5.1 y5.2).bind fun y7 =>
  am_zr y7.1 y7.2
/-! DroppingBallsModel.record(IIIII)I -/
def fX9_record_73_b (rec : Option Nat → Int32 → Int32 → Int32 → Int32 → Int32 → am_H → Option (Int32 × am_H)) (v0 : Option Nat) (v1 : Int32) (v2 : Int32) (v3 : Int32) (v4 : Int32) (v6 : Int32) (h : am_H) : Option (Int32 × am_H) :=
  (am_gi h v0 9 12).bind fun x1 =>
  if x1 ≤ v6 then
    some ((-1 : Int32), h)
  else
  (am_rc h v0 9).bind fun b3 =>
  (fX9_holds b3 v1 v2 v6 v3 v4 h).bind fun y2 =>
  if y2.1 = 0 then
    rec v0 v1 v2 v3 v4 (v6 + (1 : Int32)) y2.2
  else
  some (v6, y2.2)
def fX9_record_73 : Nat → Option Nat → Int32 → Int32 → Int32 → Int32 → Int32 → am_H → Option (Int32 × am_H)
  | 0, _, _, _, _, _, _, _ => none
  | n + 1, v0, v1, v2, v3, v4, v6, h => fX9_record_73_b  (fX9_record_73  n) v0 v1 v2 v3 v4 v6 h
def fX9_record (v0 : Nat) (v1 : Int32) (v2 : Int32) (v3 : Int32) (v4 : Int32) (v5 : Int32) (h : am_H) : Option (Int32 × am_H) :=
  (am_rc h (some v0) 9).bind fun b2 =>
  (fX9_isRun b2 v1 v2 (-1 : Int32) h).bind fun y1 =>
  if y1.1 = 0 then
    some ((-101 : Int32), y1.2)
  else
  (am_rc y1.2 (some v0) 9).bind fun b4 =>
  (fX9_isRecord b4 v1 v3 y1.2).bind fun y3 =>
  if y3.1 = 0 then
    some ((-101 : Int32), y3.2)
  else
  (fX9_within v4 (0 : Int32) (95 : Int32) y3.2).bind fun y5 =>
  if y5.1 = 0 then
    some ((-102 : Int32), y5.2)
  else
  (fX9_within v5 (0 : Int32) (1 : Int32) y5.2).bind fun y6 =>
  if y6.1 = 0 then
    some ((-102 : Int32), y6.2)
  else
  if v5 = 0 then
    (am_rc y6.2 (some v0) 9).bind fun b8 =>
    (fX9_holds b8 v1 v2 (-1 : Int32) v3 v4 y6.2).bind fun y7 =>
    if y7.1 = 0 then
      some ((0 : Int32), y7.2)
    else
    some ((1 : Int32), y7.2)
  else
  (fX9_record_73 am_fu) (some v0) v1 v2 v3 v4 (0 : Int32) y6.2
/-! DroppingBalls$Setting.copyFrom(LDroppingBalls$Setting;)V -/
def fX6_copyFrom_39_b (rec : Option Nat → Option Nat → Int32 → am_H → Option (am_H)) (v0 : Option Nat) (v1 : Option Nat) (v2 : Int32) (h : am_H) : Option (am_H) :=
  if (12 : Int32) ≤ v2 then
    (am_gi h v1 6 3).bind fun x1 =>
    (am_pi h v0 6 3 x1).bind fun h2 =>
    some h2
  else
  (am_gr h v0 6 2).bind fun x3 =>
  (am_gr h v1 6 2).bind fun x4 =>
  (am_al h x4 0 v2).bind fun x5 =>
  (am_as h x3 0 v2 x5).bind fun h6 =>
  rec v0 v1 (v2 + (1 : Int32)) h6
def fX6_copyFrom_39 : Nat → Option Nat → Option Nat → Int32 → am_H → Option (am_H)
  | 0, _, _, _, _ => none
  | n + 1, v0, v1, v2, h => fX6_copyFrom_39_b  (fX6_copyFrom_39  n) v0 v1 v2 h
def fX6_copyFrom_2_b (rec : Option Nat → Option Nat → Int32 → am_H → Option (am_H)) (v0 : Option Nat) (v1 : Option Nat) (v2 : Int32) (h : am_H) : Option (am_H) :=
  if (4 : Int32) ≤ v2 then
    (fX6_copyFrom_39 am_fu) v0 v1 (0 : Int32) h
  else
  (am_gr h v0 6 0).bind fun x1 =>
  (am_gr h v1 6 0).bind fun x2 =>
  (am_al h x2 0 v2).bind fun x3 =>
  (am_as h x1 0 v2 x3).bind fun h4 =>
  (am_gr h4 v0 6 1).bind fun x5 =>
  (am_gr h4 v1 6 1).bind fun x6 =>
  (am_al h4 x6 0 v2).bind fun x7 =>
  (am_as h4 x5 0 v2 x7).bind fun h8 =>
  rec v0 v1 (v2 + (1 : Int32)) h8
def fX6_copyFrom_2 : Nat → Option Nat → Option Nat → Int32 → am_H → Option (am_H)
  | 0, _, _, _, _ => none
  | n + 1, v0, v1, v2, h => fX6_copyFrom_2_b  (fX6_copyFrom_2  n) v0 v1 v2 h
def fX6_copyFrom (v0 : Nat) (v1 : Option Nat) (h : am_H) : Option (am_H) :=
  (fX6_copyFrom_2 am_fu) (some v0) v1 (0 : Int32) h
/-! DroppingBalls$Setting.ballsTold()I -/
def fX6_ballsTold_23 (k4 : Option Nat → Int32 → Int32 → am_H → Option (Int32 × am_H)) (v0 : Option Nat) (v1 : Int32) (v2 : Int32) (h : am_H) : Option (Int32 × am_H) :=
  k4 v0 v1 (v2 + (1 : Int32)) h
def fX6_ballsTold_4_b (rec : Option Nat → Int32 → Int32 → am_H → Option (Int32 × am_H)) (v0 : Option Nat) (v1 : Int32) (v2 : Int32) (h : am_H) : Option (Int32 × am_H) :=
  if (12 : Int32) ≤ v2 then
    some (v1, h)
  else
  (am_gr h v0 6 2).bind fun x1 =>
  (am_al h x1 0 v2).bind fun x2 =>
  if x2 = (-1 : Int32) then
    (fX6_ballsTold_23 rec) v0 v1 v2 h
  else
  (fX6_ballsTold_23 rec) v0 (v1 + (1 : Int32)) v2 h
def fX6_ballsTold_4 : Nat → Option Nat → Int32 → Int32 → am_H → Option (Int32 × am_H)
  | 0, _, _, _, _ => none
  | n + 1, v0, v1, v2, h => fX6_ballsTold_4_b  (fX6_ballsTold_4  n) v0 v1 v2 h
def fX6_ballsTold (v0 : Nat) (h : am_H) : Option (Int32 × am_H) :=
  (fX6_ballsTold_4 am_fu) (some v0) (0 : Int32) (0 : Int32) h
/-! DroppingBalls.image()I -/
def fX8_image (v0 : Nat) (h : am_H) : Option (Int32 × am_H) :=
  (am_gr h (some v0) 8 8).bind fun x1 =>
  (am_gr h (some v0) 8 7).bind fun x2 =>
  (am_rc h x1 6).bind fun b4 =>
  (fX6_copyFrom b4 x2 h).bind fun y3 =>
  (am_pz y3 (some v0) 8 9 (1 : Int32)).bind fun h5 =>
  (am_gr h5 (some v0) 8 7).bind fun x6 =>
  (am_rc h5 x6 6).bind fun b8 =>
  (fX6_ballsTold b8 h5).bind fun y7 =>
  some (y7.1, y7.2)
/-! DroppingBallsModel.logMany()I -/
def fX9_logMany_26 (k4 : Option Nat → Int32 → Int32 → am_H → Option (Int32 × am_H)) (v0 : Option Nat) (v2 : Int32) (s0 : Int32) (s1 : Int32) (h : am_H) : Option (Int32 × am_H) :=
  k4 v0 (s0 + s1) (v2 + (1 : Int32)) h
def fX9_logMany_4_b (rec : Option Nat → Int32 → Int32 → am_H → Option (Int32 × am_H)) (v0 : Option Nat) (v1 : Int32) (v2 : Int32) (h : am_H) : Option (Int32 × am_H) :=
  if (12 : Int32) ≤ v2 then
    some (v1, h)
  else
  (am_gr h v0 9 22).bind fun x1 =>
  (am_al h x1 0 v2).bind fun x2 =>
  if x2 = (-1 : Int32) then
    (fX9_logMany_26 rec) v0 v2 v1 (0 : Int32) h
  else
  (fX9_logMany_26 rec) v0 v2 v1 (1 : Int32) h
def fX9_logMany_4 : Nat → Option Nat → Int32 → Int32 → am_H → Option (Int32 × am_H)
  | 0, _, _, _, _ => none
  | n + 1, v0, v1, v2, h => fX9_logMany_4_b  (fX9_logMany_4  n) v0 v1 v2 h
def fX9_logMany (v0 : Nat) (h : am_H) : Option (Int32 × am_H) :=
  (fX9_logMany_4 am_fu) (some v0) (0 : Int32) (0 : Int32) h
/-! DroppingBallsModel.image()I -/
def fX9_image_52_b (rec : Option Nat → Int32 → am_H → Option (Int32 × am_H)) (v0 : Option Nat) (v1 : Int32) (h : am_H) : Option (Int32 × am_H) :=
  if (12 : Int32) ≤ v1 then
    (am_rc h v0 9).bind fun b2 =>
    (fX9_logMany b2 h).bind fun y1 =>
    some (y1.1, y1.2)
  else
  (am_gr h v0 9 30).bind fun x3 =>
  (am_gr h v0 9 22).bind fun x4 =>
  (am_al h x4 0 v1).bind fun x5 =>
  (am_as h x3 0 v1 x5).bind fun h6 =>
  rec v0 (v1 + (1 : Int32)) h6
def fX9_image_52 : Nat → Option Nat → Int32 → am_H → Option (Int32 × am_H)
  | 0, _, _, _ => none
  | n + 1, v0, v1, h => fX9_image_52_b  (fX9_image_52  n) v0 v1 h
def fX9_image_15_b (rec : Option Nat → Int32 → am_H → Option (Int32 × am_H)) (v0 : Option Nat) (v1 : Int32) (h : am_H) : Option (Int32 × am_H) :=
  if (4 : Int32) ≤ v1 then
    (fX9_image_52 am_fu) v0 (0 : Int32) h
  else
  (am_gr h v0 9 28).bind fun x1 =>
  (am_gr h v0 9 10).bind fun x2 =>
  (am_al h x2 0 v1).bind fun x3 =>
  (am_as h x1 0 v1 x3).bind fun h4 =>
  (am_gr h4 v0 9 29).bind fun x5 =>
  (am_gr h4 v0 9 11).bind fun x6 =>
  (am_al h4 x6 0 v1).bind fun x7 =>
  (am_as h4 x5 0 v1 x7).bind fun h8 =>
  rec v0 (v1 + (1 : Int32)) h8
def fX9_image_15 : Nat → Option Nat → Int32 → am_H → Option (Int32 × am_H)
  | 0, _, _, _ => none
  | n + 1, v0, v1, h => fX9_image_15_b  (fX9_image_15  n) v0 v1 h
def fX9_image (v0 : Nat) (h : am_H) : Option (Int32 × am_H) :=
  (am_pz h (some v0) 9 26 (1 : Int32)).bind fun h1 =>
  (am_gi h1 (some v0) 9 21).bind fun x2 =>
  (am_pi h1 (some v0) 9 27 x2).bind fun h3 =>
  (fX9_image_15 am_fu) (some v0) (0 : Int32) h3
/-! DroppingBalls.restore()I -/
def fX8_restore (v0 : Nat) (h : am_H) : Option (Int32 × am_H) :=
  (am_gi h (some v0) 8 9).bind fun x1 =>
  if x1 = 0 then
    some ((-103 : Int32), h)
  else
  (am_gr h (some v0) 8 7).bind fun x2 =>
  (am_gr h (some v0) 8 8).bind fun x3 =>
  (am_rc h x2 6).bind fun b5 =>
  (fX6_copyFrom b5 x3 h).bind fun y4 =>
  (am_gr y4 (some v0) 8 7).bind fun x6 =>
  (am_rc y4 x6 6).bind fun b8 =>
  (fX6_ballsTold b8 y4).bind fun y7 =>
  some (y7.1, y7.2)
/-! DroppingBallsModel.restore()I -/
def fX9_restore_57_b (rec : Option Nat → Int32 → am_H → Option (Int32 × am_H)) (v0 : Option Nat) (v1 : Int32) (h : am_H) : Option (Int32 × am_H) :=
  if (12 : Int32) ≤ v1 then
    (am_rc h v0 9).bind fun b2 =>
    (fX9_logMany b2 h).bind fun y1 =>
    some (y1.1, y1.2)
  else
  (am_gr h v0 9 22).bind fun x3 =>
  (am_gr h v0 9 30).bind fun x4 =>
  (am_al h x4 0 v1).bind fun x5 =>
  (am_as h x3 0 v1 x5).bind fun h6 =>
  rec v0 (v1 + (1 : Int32)) h6
def fX9_restore_57 : Nat → Option Nat → Int32 → am_H → Option (Int32 × am_H)
  | 0, _, _, _ => none
  | n + 1, v0, v1, h => fX9_restore_57_b  (fX9_restore_57  n) v0 v1 h
def fX9_restore_20_b (rec : Option Nat → Int32 → am_H → Option (Int32 × am_H)) (v0 : Option Nat) (v1 : Int32) (h : am_H) : Option (Int32 × am_H) :=
  if (4 : Int32) ≤ v1 then
    (fX9_restore_57 am_fu) v0 (0 : Int32) h
  else
  (am_gr h v0 9 10).bind fun x1 =>
  (am_gr h v0 9 28).bind fun x2 =>
  (am_al h x2 0 v1).bind fun x3 =>
  (am_as h x1 0 v1 x3).bind fun h4 =>
  (am_gr h4 v0 9 11).bind fun x5 =>
  (am_gr h4 v0 9 29).bind fun x6 =>
  (am_al h4 x6 0 v1).bind fun x7 =>
  (am_as h4 x5 0 v1 x7).bind fun h8 =>
  rec v0 (v1 + (1 : Int32)) h8
def fX9_restore_20 : Nat → Option Nat → Int32 → am_H → Option (Int32 × am_H)
  | 0, _, _, _ => none
  | n + 1, v0, v1, h => fX9_restore_20_b  (fX9_restore_20  n) v0 v1 h
def fX9_restore (v0 : Nat) (h : am_H) : Option (Int32 × am_H) :=
  (am_gi h (some v0) 9 26).bind fun x1 =>
  if x1 = 0 then
    some ((-103 : Int32), h)
  else
  (am_gi h (some v0) 9 27).bind fun x2 =>
  (am_pi h (some v0) 9 21 x2).bind fun h3 =>
  (fX9_restore_20 am_fu) (some v0) (0 : Int32) h3
/-! DroppingBalls.count(I)I -/
def fX8_count (v0 : Nat) (v1 : Int32) (h : am_H) : Option (Int32 × am_H) :=
  if v1 = (0 : Int32) then
    (am_gi h (some v0) 8 3).bind fun x1 =>
    some (x1, h)
  else
  if v1 = (1 : Int32) then
    (am_gi h (some v0) 8 4).bind fun x2 =>
    some (x2, h)
  else
  if v1 = (2 : Int32) then
    (am_gi h (some v0) 8 5).bind fun x3 =>
    some (x3, h)
  else
  if v1 = (3 : Int32) then
    (am_gr h (some v0) 8 6).bind fun x4 =>
    (am_gi h x4 3 1).bind fun x5 =>
    some (x5, h)
  else
  if v1 = (4 : Int32) then
    (am_gr h (some v0) 8 7).bind fun x6 =>
    (am_rc h x6 6).bind fun b8 =>
    (fX6_ballsTold b8 h).bind fun y7 =>
    some (y7.1, y7.2)
  else
  if v1 = (5 : Int32) then
    (am_gi h (some v0) 8 10).bind fun x9 =>
    some (x9, h)
  else
  some ((-102 : Int32), h)
/-! DroppingBallsModel.howMany(I)I -/
def fX9_howMany (v0 : Nat) (v1 : Int32) (h : am_H) : Option (Int32 × am_H) :=
  if v1 = (0 : Int32) then
    (am_gi h (some v0) 9 0).bind fun x1 =>
    some (x1, h)
  else
  if v1 = (1 : Int32) then
    (am_gi h (some v0) 9 12).bind fun x2 =>
    some (x2, h)
  else
  if v1 = (2 : Int32) then
    (am_gi h (some v0) 9 17).bind fun x3 =>
    some (x3, h)
  else
  if v1 = (3 : Int32) then
    (am_gi h (some v0) 9 24).bind fun x4 =>
    some (x4, h)
  else
  if v1 = (4 : Int32) then
    (am_rc h (some v0) 9).bind fun b6 =>
    (fX9_logMany b6 h).bind fun y5 =>
    some (y5.1, y5.2)
  else
  if v1 = (5 : Int32) then
    (am_gi h (some v0) 9 23).bind fun x7 =>
    some (x7, h)
  else
  some ((-102 : Int32), h)
/-! DroppingBallsModel.count(I)I -/
def fX9_count (v0 : Nat) (v1 : Int32) (h : am_H) : Option (Int32 × am_H) :=
  (am_rc h (some v0) 9).bind fun b2 =>
  (fX9_howMany b2 v1 h).bind fun y1 =>
  some (y1.1, y1.2)
/-! DroppingBalls.mixed(JJ)J -/
def fX8_mixed (v0 : Int64) (v2 : Int64) (h : am_H) : Option (Int64 × am_H) :=
  some (((31 : Int64) * v0) + v2, h)
/-! DroppingBalls.mixedClock(JI)J -/
def fX8_mixedClock_171_b (rec : Option Nat → Int64 → Int32 → am_H → Option (Int64 × am_H)) (v0 : Option Nat) (v1 : Int64) (v5 : Int32) (h : am_H) : Option (Int64 × am_H) :=
  if (3 : Int32) < v5 then
    some (v1, h)
  else
  (am_gr h v0 8 16).bind fun x1 =>
  (am_rc h x1 4).bind fun b3 =>
  (fX4_measure b3 v5 h).bind fun y2 =>
  (fX8_mixed v1 (Int32.toInt64 y2.1) y2.2).bind fun y4 =>
  rec v0 y4.1 (v5 + (1 : Int32)) y4.2
def fX8_mixedClock_171 : Nat → Option Nat → Int64 → Int32 → am_H → Option (Int64 × am_H)
  | 0, _, _, _, _ => none
  | n + 1, v0, v1, v5, h => fX8_mixedClock_171_b  (fX8_mixedClock_171  n) v0 v1 v5 h
def fX8_mixedClock_137_b (rec : Option Nat → Int64 → Option Nat → Int32 → am_H → Option (Int64 × am_H)) (v0 : Option Nat) (v1 : Int64) (v4 : Option Nat) (v5 : Int32) (h : am_H) : Option (Int64 × am_H) :=
  (am_gi h v4 0 8).bind fun x1 =>
  if x1 ≤ v5 then
    (fX8_mixedClock_171 am_fu) v0 v1 (0 : Int32) h
  else
  (am_gr h v0 8 14).bind fun x2 =>
  (am_rc h x2 5).bind fun b4 =>
  (fX5_tickOf b4 v5 h).bind fun y3 =>
  (fX8_mixed v1 (Int32.toInt64 y3.1) y3.2).bind fun y5 =>
  rec v0 y5.1 v4 (v5 + (1 : Int32)) y5.2
def fX8_mixedClock_137 : Nat → Option Nat → Int64 → Option Nat → Int32 → am_H → Option (Int64 × am_H)
  | 0, _, _, _, _, _ => none
  | n + 1, v0, v1, v4, v5, h => fX8_mixedClock_137_b  (fX8_mixedClock_137  n) v0 v1 v4 v5 h
def fX8_mixedClock_101_b (rec : Option Nat → Int64 → Option Nat → Int32 → am_H → Option (Int64 × am_H)) (v0 : Option Nat) (v1 : Int64) (v4 : Option Nat) (v5 : Int32) (h : am_H) : Option (Int64 × am_H) :=
  (am_gi h v4 0 8).bind fun x1 =>
  if x1 ≤ v5 then
    (am_rc h v0 8).bind fun b3 =>
    (fX8_playRun b3 h).bind fun y2 =>
    (fX8_mixedClock_137 am_fu) v0 v1 v4 (0 : Int32) y2
  else
  (am_rc h v4 0).bind fun b5 =>
  (fX0_markOf b5 v5 h).bind fun y4 =>
  (fX8_mixed v1 (Int32.toInt64 y4.1) y4.2).bind fun y6 =>
  rec v0 y6.1 v4 (v5 + (1 : Int32)) y6.2
def fX8_mixedClock_101 : Nat → Option Nat → Int64 → Option Nat → Int32 → am_H → Option (Int64 × am_H)
  | 0, _, _, _, _, _ => none
  | n + 1, v0, v1, v4, v5, h => fX8_mixedClock_101_b  (fX8_mixedClock_101  n) v0 v1 v4 v5 h
def fX8_mixedClock_65_b (k52 : Option Nat → Int64 → Option Nat → Int32 → am_H → Option (Int64 × am_H)) (rec : Option Nat → Int64 → Option Nat → Int32 → Int32 → am_H → Option (Int64 × am_H)) (v0 : Option Nat) (v1 : Int64) (v4 : Option Nat) (v5 : Int32) (v6 : Int32) (h : am_H) : Option (Int64 × am_H) :=
  if (2 : Int32) < v6 then
    k52 v0 v1 v4 (v5 + (1 : Int32)) h
  else
  (am_rc h v4 0).bind fun b2 =>
  (fX0_vesselMeasure b2 v5 v6 h).bind fun y1 =>
  (fX8_mixed v1 (Int32.toInt64 y1.1) y1.2).bind fun y3 =>
  rec v0 y3.1 v4 v5 (v6 + (1 : Int32)) y3.2
def fX8_mixedClock_65 (k52 : Option Nat → Int64 → Option Nat → Int32 → am_H → Option (Int64 × am_H)) : Nat → Option Nat → Int64 → Option Nat → Int32 → Int32 → am_H → Option (Int64 × am_H)
  | 0, _, _, _, _, _, _ => none
  | n + 1, v0, v1, v4, v5, v6, h => fX8_mixedClock_65_b k52 (fX8_mixedClock_65 k52 n) v0 v1 v4 v5 v6 h
def fX8_mixedClock_52_b (rec : Option Nat → Int64 → Option Nat → Int32 → am_H → Option (Int64 × am_H)) (v0 : Option Nat) (v1 : Int64) (v4 : Option Nat) (v5 : Int32) (h : am_H) : Option (Int64 × am_H) :=
  (am_gi h v4 0 0).bind fun x1 =>
  if x1 ≤ v5 then
    (fX8_mixedClock_101 am_fu) v0 v1 v4 (0 : Int32) h
  else
  (fX8_mixedClock_65 rec am_fu) v0 v1 v4 v5 (0 : Int32) h
def fX8_mixedClock_52 : Nat → Option Nat → Int64 → Option Nat → Int32 → am_H → Option (Int64 × am_H)
  | 0, _, _, _, _, _ => none
  | n + 1, v0, v1, v4, v5, h => fX8_mixedClock_52_b  (fX8_mixedClock_52  n) v0 v1 v4 v5 h
def fX8_mixedClock_24_b (rec : Option Nat → Int64 → Option Nat → Int32 → am_H → Option (Int64 × am_H)) (v0 : Option Nat) (v1 : Int64) (v4 : Option Nat) (v5 : Int32) (h : am_H) : Option (Int64 × am_H) :=
  if (4 : Int32) < v5 then
    (fX8_mixedClock_52 am_fu) v0 v1 v4 (0 : Int32) h
  else
  (am_rc h v4 0).bind fun b2 =>
  (fX0_measure b2 v5 h).bind fun y1 =>
  (fX8_mixed v1 (Int32.toInt64 y1.1) y1.2).bind fun y3 =>
  rec v0 y3.1 v4 (v5 + (1 : Int32)) y3.2
def fX8_mixedClock_24 : Nat → Option Nat → Int64 → Option Nat → Int32 → am_H → Option (Int64 × am_H)
  | 0, _, _, _, _, _ => none
  | n + 1, v0, v1, v4, v5, h => fX8_mixedClock_24_b  (fX8_mixedClock_24  n) v0 v1 v4 v5 h
def fX8_mixedClock (v0 : Nat) (v1 : Int64) (v3 : Int32) (h : am_H) : Option (Int64 × am_H) :=
  (am_rc h (some v0) 8).bind fun b2 =>
  (fX8_startRun b2 v3 (0 : Int32) (-1 : Int32) h).bind fun y1 =>
  if y1.1 = 0 then
    some (v1, y1.2)
  else
  (am_gr y1.2 (some v0) 8 14).bind fun x3 =>
  (am_gr y1.2 x3 5 0).bind fun x4 =>
  (fX8_mixedClock_24 am_fu) (some v0) v1 x4 (0 : Int32) y1.2
/-! DroppingBalls.mixedFault(JLDroppingBalls$Fault;)J -/
def fX8_mixedFault (v0 : Int64) (v2 : Option Nat) (h : am_H) : Option (Int64 × am_H) :=
  if v2 = none then
    some (v0, h)
  else
  (am_gi h v2 2 0).bind fun x1 =>
  (fX8_mixed v0 (Int32.toInt64 x1) h).bind fun y2 =>
  (am_gi y2.2 v2 2 1).bind fun x3 =>
  (fX8_mixed y2.1 (Int32.toInt64 x3) y2.2).bind fun y4 =>
  (am_gi y4.2 v2 2 2).bind fun x5 =>
  (fX8_mixed y4.1 (Int32.toInt64 x5) y4.2).bind fun y6 =>
  (am_gi y6.2 v2 2 3).bind fun x7 =>
  (fX8_mixed y6.1 (Int32.toInt64 x7) y6.2).bind fun y8 =>
  some (y8.1, y8.2)
/-! DroppingBalls.mixedWork(JLDroppingBalls$Work;)J -/
def fX8_mixedWork_44 (s0 : Int64) (s1 : Int64) (h : am_H) : Option (Int64 × am_H) :=
  (fX8_mixed s0 s1 h).bind fun y1 =>
  some (y1.1, y1.2)
def fX8_mixedWork (v0 : Int64) (v2 : Option Nat) (h : am_H) : Option (Int64 × am_H) :=
  if v2 = none then
    some (v0, h)
  else
  (am_gi h v2 7 1).bind fun x1 =>
  (fX8_mixed v0 (Int32.toInt64 x1) h).bind fun y2 =>
  (am_gi y2.2 v2 7 2).bind fun x3 =>
  (fX8_mixed y2.1 (Int32.toInt64 x3) y2.2).bind fun y4 =>
  (am_gr y4.2 v2 7 3).bind fun x5 =>
  if x5 = none then
    fX8_mixedWork_44 y4.1 (-1 : Int64) y4.2
  else
  (am_gr y4.2 v2 7 3).bind fun x6 =>
  (am_gi y4.2 x6 7 0).bind fun x7 =>
  fX8_mixedWork_44 y4.1 (Int32.toInt64 x7) y4.2
/-! DroppingBalls.digest()J -/
def fX8_digest_189_b (rec : Option Nat → Int64 → Int32 → am_H → Option (Int64 × am_H)) (v0 : Option Nat) (v1 : Int64) (v3 : Int32) (h : am_H) : Option (Int64 × am_H) :=
  if (5 : Int32) < v3 then
    some (v1, h)
  else
  (am_rc h v0 8).bind fun b2 =>
  (fX8_count b2 v3 h).bind fun y1 =>
  (fX8_mixed v1 (Int32.toInt64 y1.1) y1.2).bind fun y3 =>
  rec v0 y3.1 (v3 + (1 : Int32)) y3.2
def fX8_digest_189 : Nat → Option Nat → Int64 → Int32 → am_H → Option (Int64 × am_H)
  | 0, _, _, _, _ => none
  | n + 1, v0, v1, v3, h => fX8_digest_189_b  (fX8_digest_189  n) v0 v1 v3 h
def fX8_digest_156_b (rec : Option Nat → Int64 → Int32 → am_H → Option (Int64 × am_H)) (v0 : Option Nat) (v1 : Int64) (v3 : Int32) (h : am_H) : Option (Int64 × am_H) :=
  (am_gr h v0 8 6).bind fun x1 =>
  (am_gi h x1 3 1).bind fun x2 =>
  if x2 ≤ v3 then
    (fX8_digest_189 am_fu) v0 v1 (0 : Int32) h
  else
  (am_gr h v0 8 6).bind fun x3 =>
  (am_rc h x3 3).bind fun b5 =>
  (fX3_codeAt b5 v3 h).bind fun y4 =>
  (fX8_mixed v1 (Int32.toInt64 y4.1) y4.2).bind fun y6 =>
  rec v0 y6.1 (v3 + (1 : Int32)) y6.2
def fX8_digest_156 : Nat → Option Nat → Int64 → Int32 → am_H → Option (Int64 × am_H)
  | 0, _, _, _, _ => none
  | n + 1, v0, v1, v3, h => fX8_digest_156_b  (fX8_digest_156  n) v0 v1 v3 h
def fX8_digest_127_b (rec : Option Nat → Int64 → Int32 → am_H → Option (Int64 × am_H)) (v0 : Option Nat) (v1 : Int64) (v3 : Int32) (h : am_H) : Option (Int64 × am_H) :=
  if (12 : Int32) ≤ v3 then
    (fX8_digest_156 am_fu) v0 v1 (0 : Int32) h
  else
  (am_gr h v0 8 7).bind fun x1 =>
  (am_gr h x1 6 2).bind fun x2 =>
  (am_al h x2 0 v3).bind fun x3 =>
  (fX8_mixed v1 (Int32.toInt64 x3) h).bind fun y4 =>
  rec v0 y4.1 (v3 + (1 : Int32)) y4.2
def fX8_digest_127 : Nat → Option Nat → Int64 → Int32 → am_H → Option (Int64 × am_H)
  | 0, _, _, _, _ => none
  | n + 1, v0, v1, v3, h => fX8_digest_127_b  (fX8_digest_127  n) v0 v1 v3 h
def fX8_digest_88_b (rec : Option Nat → Int64 → Int32 → am_H → Option (Int64 × am_H)) (v0 : Option Nat) (v1 : Int64) (v3 : Int32) (h : am_H) : Option (Int64 × am_H) :=
  (am_gi h v0 8 5).bind fun x1 =>
  if x1 ≤ v3 then
    (am_gr h v0 8 7).bind fun x2 =>
    (am_gi h x2 6 3).bind fun x3 =>
    (fX8_mixed v1 (Int32.toInt64 x3) h).bind fun y4 =>
    (fX8_digest_127 am_fu) v0 y4.1 (0 : Int32) y4.2
  else
  (am_rc h v0 8).bind fun b6 =>
  (fX8_workOf b6 v3 h).bind fun y5 =>
  (fX8_mixedWork v1 y5.1 y5.2).bind fun y7 =>
  rec v0 y7.1 (v3 + (1 : Int32)) y7.2
def fX8_digest_88 : Nat → Option Nat → Int64 → Int32 → am_H → Option (Int64 × am_H)
  | 0, _, _, _, _ => none
  | n + 1, v0, v1, v3, h => fX8_digest_88_b  (fX8_digest_88  n) v0 v1 v3 h
def fX8_digest_62_b (rec : Option Nat → Int64 → Int32 → am_H → Option (Int64 × am_H)) (v0 : Option Nat) (v1 : Int64) (v3 : Int32) (h : am_H) : Option (Int64 × am_H) :=
  (am_gi h v0 8 4).bind fun x1 =>
  if x1 ≤ v3 then
    (fX8_digest_88 am_fu) v0 v1 (0 : Int32) h
  else
  (am_rc h v0 8).bind fun b3 =>
  (fX8_faultOf b3 v3 h).bind fun y2 =>
  (fX8_mixedFault v1 y2.1 y2.2).bind fun y4 =>
  rec v0 y4.1 (v3 + (1 : Int32)) y4.2
def fX8_digest_62 : Nat → Option Nat → Int64 → Int32 → am_H → Option (Int64 × am_H)
  | 0, _, _, _, _ => none
  | n + 1, v0, v1, v3, h => fX8_digest_62_b  (fX8_digest_62  n) v0 v1 v3 h
def fX8_digest_39_b (rec : Option Nat → Int64 → Int32 → am_H → Option (Int64 × am_H)) (v0 : Option Nat) (v1 : Int64) (v3 : Int32) (h : am_H) : Option (Int64 × am_H) :=
  (am_gi h v0 8 3).bind fun x1 =>
  if x1 ≤ v3 then
    (fX8_digest_62 am_fu) v0 v1 (0 : Int32) h
  else
  (am_rc h v0 8).bind fun b3 =>
  (fX8_mixedClock b3 v1 v3 h).bind fun y2 =>
  rec v0 y2.1 (v3 + (1 : Int32)) y2.2
def fX8_digest_39 : Nat → Option Nat → Int64 → Int32 → am_H → Option (Int64 × am_H)
  | 0, _, _, _, _ => none
  | n + 1, v0, v1, v3, h => fX8_digest_39_b  (fX8_digest_39  n) v0 v1 v3 h
def fX8_digest_6_b (rec : Option Nat → Int64 → Int32 → am_H → Option (Int64 × am_H)) (v0 : Option Nat) (v1 : Int64) (v3 : Int32) (h : am_H) : Option (Int64 × am_H) :=
  if (4 : Int32) ≤ v3 then
    (fX8_digest_39 am_fu) v0 v1 (0 : Int32) h
  else
  (am_rc h v0 8).bind fun b2 =>
  (fX8_warmthOf b2 v3 h).bind fun y1 =>
  (fX8_mixed v1 (Int32.toInt64 y1.1) y1.2).bind fun y3 =>
  (am_rc y3.2 v0 8).bind fun b5 =>
  (fX8_daylightOf b5 v3 y3.2).bind fun y4 =>
  (fX8_mixed y3.1 (Int32.toInt64 y4.1) y4.2).bind fun y6 =>
  rec v0 y6.1 (v3 + (1 : Int32)) y6.2
def fX8_digest_6 : Nat → Option Nat → Int64 → Int32 → am_H → Option (Int64 × am_H)
  | 0, _, _, _, _ => none
  | n + 1, v0, v1, v3, h => fX8_digest_6_b  (fX8_digest_6  n) v0 v1 v3 h
def fX8_digest (v0 : Nat) (h : am_H) : Option (Int64 × am_H) :=
  (fX8_digest_6 am_fu) (some v0) (409 : Int64) (0 : Int32) h
/-! DroppingBallsModel.mix(J)V -/
def fX9_mix (v0 : Nat) (v1 : Int64) (h : am_H) : Option (am_H) :=
  (am_gl h (some v0) 9 75).bind fun x1 =>
  (am_pl h (some v0) 9 75 (((31 : Int64) * x1) + v1)).bind fun h2 =>
  some h2
/-! DroppingBallsModel.mixClock(I)V -/
def fX9_mixClock_167_b (rec : Option Nat → Int32 → am_H → Option (am_H)) (v0 : Option Nat) (v2 : Int32) (h : am_H) : Option (am_H) :=
  if (4 : Int32) ≤ v2 then
    some h
  else
  (am_rc h v0 9).bind fun b2 =>
  (fX9_shown b2 v2 h).bind fun y1 =>
  (am_rc y1.2 v0 9).bind fun b4 =>
  (fX9_mix b4 (Int32.toInt64 y1.1) y1.2).bind fun y3 =>
  rec v0 (v2 + (1 : Int32)) y3
def fX9_mixClock_167 : Nat → Option Nat → Int32 → am_H → Option (am_H)
  | 0, _, _, _ => none
  | n + 1, v0, v2, h => fX9_mixClock_167_b  (fX9_mixClock_167  n) v0 v2 h
def fX9_mixClock_130_b (rec : Option Nat → Int32 → Int32 → am_H → Option (am_H)) (v0 : Option Nat) (v1 : Int32) (v2 : Int32) (h : am_H) : Option (am_H) :=
  (am_gr h v0 9 8).bind fun x1 =>
  (am_al h x1 0 v1).bind fun x2 =>
  if x2 ≤ v2 then
    (am_rc h v0 9).bind fun b4 =>
    (fX9_show b4 v1 h).bind fun y3 =>
    (fX9_mixClock_167 am_fu) v0 (0 : Int32) y3
  else
  (am_gr h v0 9 56).bind fun x5 =>
  (am_al h x5 0 v2).bind fun x6 =>
  (fX9_asTick x6 h).bind fun y7 =>
  (am_rc y7.2 v0 9).bind fun b9 =>
  (fX9_mix b9 (Int32.toInt64 y7.1) y7.2).bind fun y8 =>
  rec v0 v1 (v2 + (1 : Int32)) y8
def fX9_mixClock_130 : Nat → Option Nat → Int32 → Int32 → am_H → Option (am_H)
  | 0, _, _, _, _ => none
  | n + 1, v0, v1, v2, h => fX9_mixClock_130_b  (fX9_mixClock_130  n) v0 v1 v2 h
def fX9_mixClock_89_b (rec : Option Nat → Int32 → Int32 → am_H → Option (am_H)) (v0 : Option Nat) (v1 : Int32) (v2 : Int32) (h : am_H) : Option (am_H) :=
  (am_gr h v0 9 8).bind fun x1 =>
  (am_al h x1 0 v1).bind fun x2 =>
  if x2 ≤ v2 then
    (am_rc h v0 9).bind fun b4 =>
    (fX9_runAll b4 v1 (0 : Int32) (-1 : Int32) h).bind fun y3 =>
    (fX9_mixClock_130 am_fu) v0 v1 (0 : Int32) y3
  else
  (am_gr h v0 9 9).bind fun x5 =>
  (am_al h x5 0 (((12 : Int32) * v1) + v2)).bind fun x6 =>
  (am_rc h v0 9).bind fun b8 =>
  (fX9_mix b8 (Int32.toInt64 x6) h).bind fun y7 =>
  rec v0 v1 (v2 + (1 : Int32)) y7
def fX9_mixClock_89 : Nat → Option Nat → Int32 → Int32 → am_H → Option (am_H)
  | 0, _, _, _, _ => none
  | n + 1, v0, v1, v2, h => fX9_mixClock_89_b  (fX9_mixClock_89  n) v0 v1 v2 h
def fX9_mixClock_26_b (rec : Option Nat → Int32 → Int32 → am_H → Option (am_H)) (v0 : Option Nat) (v1 : Int32) (v2 : Int32) (h : am_H) : Option (am_H) :=
  (am_gr h v0 9 1).bind fun x1 =>
  (am_al h x1 0 v1).bind fun x2 =>
  if x2 ≤ v2 then
    (fX9_mixClock_89 am_fu) v0 v1 (0 : Int32) h
  else
  (am_gr h v0 9 2).bind fun x3 =>
  (am_al h x3 0 (((3 : Int32) * v1) + v2)).bind fun x4 =>
  (am_rc h v0 9).bind fun b6 =>
  (fX9_mix b6 (Int32.toInt64 x4) h).bind fun y5 =>
  (am_gr y5 v0 9 3).bind fun x7 =>
  (am_al y5 x7 0 (((3 : Int32) * v1) + v2)).bind fun x8 =>
  (am_rc y5 v0 9).bind fun b10 =>
  (fX9_mix b10 (Int32.toInt64 x8) y5).bind fun y9 =>
  (am_gr y9 v0 9 4).bind fun x11 =>
  (am_al y9 x11 0 (((3 : Int32) * v1) + v2)).bind fun x12 =>
  (am_rc y9 v0 9).bind fun b14 =>
  (fX9_mix b14 (Int32.toInt64 x12) y9).bind fun y13 =>
  rec v0 v1 (v2 + (1 : Int32)) y13
def fX9_mixClock_26 : Nat → Option Nat → Int32 → Int32 → am_H → Option (am_H)
  | 0, _, _, _, _ => none
  | n + 1, v0, v1, v2, h => fX9_mixClock_26_b  (fX9_mixClock_26  n) v0 v1 v2 h
def fX9_mixClock_2_b (rec : Option Nat → Int32 → Int32 → am_H → Option (am_H)) (v0 : Option Nat) (v1 : Int32) (v2 : Int32) (h : am_H) : Option (am_H) :=
  if (5 : Int32) ≤ v2 then
    (fX9_mixClock_26 am_fu) v0 v1 (0 : Int32) h
  else
  (am_rc h v0 9).bind fun b2 =>
  (fX9_toldOf b2 v1 v2 h).bind fun y1 =>
  (am_rc y1.2 v0 9).bind fun b4 =>
  (fX9_mix b4 (Int32.toInt64 y1.1) y1.2).bind fun y3 =>
  rec v0 v1 (v2 + (1 : Int32)) y3
def fX9_mixClock_2 : Nat → Option Nat → Int32 → Int32 → am_H → Option (am_H)
  | 0, _, _, _, _ => none
  | n + 1, v0, v1, v2, h => fX9_mixClock_2_b  (fX9_mixClock_2  n) v0 v1 v2 h
def fX9_mixClock (v0 : Nat) (v1 : Int32) (h : am_H) : Option (am_H) :=
  (fX9_mixClock_2 am_fu) (some v0) v1 (0 : Int32) h
/-! DroppingBallsModel.digest()J -/
def fX9_digest_235_b (rec : Option Nat → Int32 → am_H → Option (Int64 × am_H)) (v0 : Option Nat) (v1 : Int32) (h : am_H) : Option (Int64 × am_H) :=
  if (6 : Int32) ≤ v1 then
    (am_gl h v0 9 75).bind fun x1 =>
    some (x1, h)
  else
  (am_rc h v0 9).bind fun b3 =>
  (fX9_howMany b3 v1 h).bind fun y2 =>
  (am_rc y2.2 v0 9).bind fun b5 =>
  (fX9_mix b5 (Int32.toInt64 y2.1) y2.2).bind fun y4 =>
  rec v0 (v1 + (1 : Int32)) y4
def fX9_digest_235 : Nat → Option Nat → Int32 → am_H → Option (Int64 × am_H)
  | 0, _, _, _ => none
  | n + 1, v0, v1, h => fX9_digest_235_b  (fX9_digest_235  n) v0 v1 h
def fX9_digest_208_b (rec : Option Nat → Int32 → am_H → Option (Int64 × am_H)) (v0 : Option Nat) (v1 : Int32) (h : am_H) : Option (Int64 × am_H) :=
  (am_gi h v0 9 24).bind fun x1 =>
  if x1 ≤ v1 then
    (fX9_digest_235 am_fu) v0 (0 : Int32) h
  else
  (am_gr h v0 9 25).bind fun x2 =>
  (am_al h x2 1 v1).bind fun x3 =>
  (am_rc h v0 9).bind fun b5 =>
  (fX9_mix b5 (Int32.toInt64 x3) h).bind fun y4 =>
  rec v0 (v1 + (1 : Int32)) y4
def fX9_digest_208 : Nat → Option Nat → Int32 → am_H → Option (Int64 × am_H)
  | 0, _, _, _ => none
  | n + 1, v0, v1, h => fX9_digest_208_b  (fX9_digest_208  n) v0 v1 h
def fX9_digest_183_b (rec : Option Nat → Int32 → am_H → Option (Int64 × am_H)) (v0 : Option Nat) (v1 : Int32) (h : am_H) : Option (Int64 × am_H) :=
  if (12 : Int32) ≤ v1 then
    (fX9_digest_208 am_fu) v0 (0 : Int32) h
  else
  (am_gr h v0 9 22).bind fun x1 =>
  (am_al h x1 0 v1).bind fun x2 =>
  (am_rc h v0 9).bind fun b4 =>
  (fX9_mix b4 (Int32.toInt64 x2) h).bind fun y3 =>
  rec v0 (v1 + (1 : Int32)) y3
def fX9_digest_183 : Nat → Option Nat → Int32 → am_H → Option (Int64 × am_H)
  | 0, _, _, _ => none
  | n + 1, v0, v1, h => fX9_digest_183_b  (fX9_digest_183  n) v0 v1 h
def fX9_digest_125_b (rec : Option Nat → Int32 → am_H → Option (Int64 × am_H)) (v0 : Option Nat) (v1 : Int32) (h : am_H) : Option (Int64 × am_H) :=
  (am_gi h v0 9 17).bind fun x1 =>
  if x1 ≤ v1 then
    (am_gi h v0 9 21).bind fun x2 =>
    (am_rc h v0 9).bind fun b4 =>
    (fX9_mix b4 (Int32.toInt64 x2) h).bind fun y3 =>
    (fX9_digest_183 am_fu) v0 (0 : Int32) y3
  else
  (am_gr h v0 9 18).bind fun x5 =>
  (am_al h x5 0 v1).bind fun x6 =>
  (am_rc h v0 9).bind fun b8 =>
  (fX9_mix b8 (Int32.toInt64 x6) h).bind fun y7 =>
  (am_gr y7 v0 9 19).bind fun x9 =>
  (am_al y7 x9 0 v1).bind fun x10 =>
  (am_rc y7 v0 9).bind fun b12 =>
  (fX9_mix b12 (Int32.toInt64 x10) y7).bind fun y11 =>
  (am_gr y11 v0 9 20).bind fun x13 =>
  (am_al y11 x13 0 v1).bind fun x14 =>
  (am_rc y11 v0 9).bind fun b16 =>
  (fX9_mix b16 (Int32.toInt64 x14) y11).bind fun y15 =>
  rec v0 (v1 + (1 : Int32)) y15
def fX9_digest_125 : Nat → Option Nat → Int32 → am_H → Option (Int64 × am_H)
  | 0, _, _, _ => none
  | n + 1, v0, v1, h => fX9_digest_125_b  (fX9_digest_125  n) v0 v1 h
def fX9_digest_65_b (rec : Option Nat → Int32 → am_H → Option (Int64 × am_H)) (v0 : Option Nat) (v1 : Int32) (h : am_H) : Option (Int64 × am_H) :=
  (am_gi h v0 9 12).bind fun x1 =>
  if x1 ≤ v1 then
    (fX9_digest_125 am_fu) v0 (0 : Int32) h
  else
  (am_gr h v0 9 13).bind fun x2 =>
  (am_al h x2 0 v1).bind fun x3 =>
  (am_rc h v0 9).bind fun b5 =>
  (fX9_mix b5 (Int32.toInt64 x3) h).bind fun y4 =>
  (am_gr y4 v0 9 14).bind fun x6 =>
  (am_al y4 x6 0 v1).bind fun x7 =>
  (am_rc y4 v0 9).bind fun b9 =>
  (fX9_mix b9 (Int32.toInt64 x7) y4).bind fun y8 =>
  (am_gr y8 v0 9 15).bind fun x10 =>
  (am_al y8 x10 0 v1).bind fun x11 =>
  (am_rc y8 v0 9).bind fun b13 =>
  (fX9_mix b13 (Int32.toInt64 x11) y8).bind fun y12 =>
  (am_gr y12 v0 9 16).bind fun x14 =>
  (am_al y12 x14 0 v1).bind fun x15 =>
  (am_rc y12 v0 9).bind fun b17 =>
  (fX9_mix b17 (Int32.toInt64 x15) y12).bind fun y16 =>
  rec v0 (v1 + (1 : Int32)) y16
def fX9_digest_65 : Nat → Option Nat → Int32 → am_H → Option (Int64 × am_H)
  | 0, _, _, _ => none
  | n + 1, v0, v1, h => fX9_digest_65_b  (fX9_digest_65  n) v0 v1 h
def fX9_digest_44_b (rec : Option Nat → Int32 → am_H → Option (Int64 × am_H)) (v0 : Option Nat) (v1 : Int32) (h : am_H) : Option (Int64 × am_H) :=
  (am_gi h v0 9 0).bind fun x1 =>
  if x1 ≤ v1 then
    (fX9_digest_65 am_fu) v0 (0 : Int32) h
  else
  (am_rc h v0 9).bind fun b3 =>
  (fX9_mixClock b3 v1 h).bind fun y2 =>
  rec v0 (v1 + (1 : Int32)) y2
def fX9_digest_44 : Nat → Option Nat → Int32 → am_H → Option (Int64 × am_H)
  | 0, _, _, _ => none
  | n + 1, v0, v1, h => fX9_digest_44_b  (fX9_digest_44  n) v0 v1 h
def fX9_digest_9_b (rec : Option Nat → Int32 → am_H → Option (Int64 × am_H)) (v0 : Option Nat) (v1 : Int32) (h : am_H) : Option (Int64 × am_H) :=
  if (4 : Int32) ≤ v1 then
    (fX9_digest_44 am_fu) v0 (0 : Int32) h
  else
  (am_gr h v0 9 10).bind fun x1 =>
  (am_al h x1 0 v1).bind fun x2 =>
  (am_rc h v0 9).bind fun b4 =>
  (fX9_mix b4 (Int32.toInt64 x2) h).bind fun y3 =>
  (am_gr y3 v0 9 11).bind fun x5 =>
  (am_al y3 x5 0 v1).bind fun x6 =>
  (am_rc y3 v0 9).bind fun b8 =>
  (fX9_mix b8 (Int32.toInt64 x6) y3).bind fun y7 =>
  rec v0 (v1 + (1 : Int32)) y7
def fX9_digest_9 : Nat → Option Nat → Int32 → am_H → Option (Int64 × am_H)
  | 0, _, _, _ => none
  | n + 1, v0, v1, h => fX9_digest_9_b  (fX9_digest_9  n) v0 v1 h
def fX9_digest (v0 : Nat) (h : am_H) : Option (Int64 × am_H) :=
  (am_pl h (some v0) 9 75 (409 : Int64)).bind fun h1 =>
  (fX9_digest_9 am_fu) (some v0) (0 : Int32) h1
/-! DroppingBallsLaw.law([I)Z -/
def fL_law_1443 (k18 : Option Nat → Option Nat → Option Nat → Int32 → am_H → Option (Int32 × am_H)) (v0 : Option Nat) (v1 : Option Nat) (v2 : Option Nat) (v3 : Int32) (h : am_H) : Option (Int32 × am_H) :=
  k18 v0 v1 v2 (v3 + (6 : Int32)) h
def fL_law_18_b (rec : Option Nat → Option Nat → Option Nat → Int32 → am_H → Option (Int32 × am_H)) (v0 : Option Nat) (v1 : Option Nat) (v2 : Option Nat) (v3 : Int32) (h : am_H) : Option (Int32 × am_H) :=
  (am_an h v0).bind fun x1 =>
  if (x1 - (6 : Int32)) < v3 then
    am_zr (1 : Int32) h
  else
  (am_al h v0 0 v3).bind fun x2 =>
  if (x2 &&& (31 : Int32)) = (0 : Int32) then
    (am_al h v0 0 (v3 + (1 : Int32))).bind fun x3 =>
    (am_al h v0 0 (v3 + (2 : Int32))).bind fun x4 =>
    (am_rc h v1 8).bind fun b6 =>
    (fX8_letters b6 (((Int32.toInt64 x3) <<< (Int32.toInt64 (32 : Int32) &&& 63)) ||| ((Int32.toInt64 x4) &&& (4294967295 : Int64))) h).bind fun y5 =>
    (am_al y5.2 v0 0 (v3 + (1 : Int32))).bind fun x7 =>
    (am_al y5.2 v0 0 (v3 + (2 : Int32))).bind fun x8 =>
    (am_rc y5.2 v2 9).bind fun b10 =>
    (fX9_letters b10 (((Int32.toInt64 x7) <<< (Int32.toInt64 (32 : Int32) &&& 63)) ||| ((Int32.toInt64 x8) &&& (4294967295 : Int64))) y5.2).bind fun y9 =>
    if y5.1 = y9.1 then
      (fL_law_1443 rec) v0 v1 v2 v3 y9.2
    else
    am_zr (0 : Int32) y9.2
  else
  if (x2 &&& (31 : Int32)) = (1 : Int32) then
    (am_rc h v1 8).bind fun b12 =>
    (fX8_blank b12 h).bind fun y11 =>
    (am_rc y11.2 v2 9).bind fun b14 =>
    (fX9_blank b14 y11.2).bind fun y13 =>
    if y11.1 = y13.1 then
      (fL_law_1443 rec) v0 v1 v2 v3 y13.2
    else
    am_zr (0 : Int32) y13.2
  else
  if (x2 &&& (31 : Int32)) = (2 : Int32) then
    (am_rc h v1 8).bind fun b16 =>
    (fX8_fault b16 h).bind fun y15 =>
    (am_rc y15.2 v2 9).bind fun b18 =>
    (fX9_fault b18 y15.2).bind fun y17 =>
    if y15.1 = y17.1 then
      (fL_law_1443 rec) v0 v1 v2 v3 y17.2
    else
    am_zr (0 : Int32) y17.2
  else
  if (x2 &&& (31 : Int32)) = (3 : Int32) then
    (am_rc h v1 8).bind fun b20 =>
    (fX8_clock b20 h).bind fun y19 =>
    (am_rc y19.2 v2 9).bind fun b22 =>
    (fX9_clock b22 y19.2).bind fun y21 =>
    if y19.1 = y21.1 then
      (fL_law_1443 rec) v0 v1 v2 v3 y21.2
    else
    am_zr (0 : Int32) y21.2
  else
  if (x2 &&& (31 : Int32)) = (4 : Int32) then
    (am_al h v0 0 (v3 + (1 : Int32))).bind fun x23 =>
    (am_al h v0 0 (v3 + (2 : Int32))).bind fun x24 =>
    (am_rc h v1 8).bind fun b26 =>
    (fX8_told b26 x23 x24 h).bind fun y25 =>
    (am_al y25.2 v0 0 (v3 + (1 : Int32))).bind fun x27 =>
    (am_al y25.2 v0 0 (v3 + (2 : Int32))).bind fun x28 =>
    (am_rc y25.2 v2 9).bind fun b30 =>
    (fX9_told b30 x27 x28 y25.2).bind fun y29 =>
    if y25.1 = y29.1 then
      (fL_law_1443 rec) v0 v1 v2 v3 y29.2
    else
    am_zr (0 : Int32) y29.2
  else
  if (x2 &&& (31 : Int32)) = (5 : Int32) then
    (am_al h v0 0 (v3 + (1 : Int32))).bind fun x31 =>
    (am_al h v0 0 (v3 + (2 : Int32))).bind fun x32 =>
    (am_al h v0 0 (v3 + (3 : Int32))).bind fun x33 =>
    (am_rc h v1 8).bind fun b35 =>
    (fX8_season b35 x31 x32 x33 h).bind fun y34 =>
    (am_al y34.2 v0 0 (v3 + (1 : Int32))).bind fun x36 =>
    (am_al y34.2 v0 0 (v3 + (2 : Int32))).bind fun x37 =>
    (am_al y34.2 v0 0 (v3 + (3 : Int32))).bind fun x38 =>
    (am_rc y34.2 v2 9).bind fun b40 =>
    (fX9_season b40 x36 x37 x38 y34.2).bind fun y39 =>
    if y34.1 = y39.1 then
      (fL_law_1443 rec) v0 v1 v2 v3 y39.2
    else
    am_zr (0 : Int32) y39.2
  else
  if (x2 &&& (31 : Int32)) = (6 : Int32) then
    (am_al h v0 0 (v3 + (1 : Int32))).bind fun x41 =>
    (am_al h v0 0 (v3 + (2 : Int32))).bind fun x42 =>
    (am_al h v0 0 (v3 + (3 : Int32))).bind fun x43 =>
    (am_al h v0 0 (v3 + (4 : Int32))).bind fun x44 =>
    (am_rc h v1 8).bind fun b46 =>
    (fX8_faulty b46 x41 x42 x43 x44 h).bind fun y45 =>
    (am_al y45.2 v0 0 (v3 + (1 : Int32))).bind fun x47 =>
    (am_al y45.2 v0 0 (v3 + (2 : Int32))).bind fun x48 =>
    (am_al y45.2 v0 0 (v3 + (3 : Int32))).bind fun x49 =>
    (am_al y45.2 v0 0 (v3 + (4 : Int32))).bind fun x50 =>
    (am_rc y45.2 v2 9).bind fun b52 =>
    (fX9_faulty b52 x47 x48 x49 x50 y45.2).bind fun y51 =>
    if y45.1 = y51.1 then
      (fL_law_1443 rec) v0 v1 v2 v3 y51.2
    else
    am_zr (0 : Int32) y51.2
  else
  if (x2 &&& (31 : Int32)) = (7 : Int32) then
    (am_al h v0 0 (v3 + (1 : Int32))).bind fun x53 =>
    (am_al h v0 0 (v3 + (2 : Int32))).bind fun x54 =>
    (am_rc h v1 8).bind fun b56 =>
    (fX8_as b56 x53 x54 h).bind fun y55 =>
    (am_al y55.2 v0 0 (v3 + (1 : Int32))).bind fun x57 =>
    (am_al y55.2 v0 0 (v3 + (2 : Int32))).bind fun x58 =>
    (am_rc y55.2 v2 9).bind fun b60 =>
    (fX9_as b60 x57 x58 y55.2).bind fun y59 =>
    if y55.1 = y59.1 then
      (fL_law_1443 rec) v0 v1 v2 v3 y59.2
    else
    am_zr (0 : Int32) y59.2
  else
  if (x2 &&& (31 : Int32)) = (8 : Int32) then
    (am_al h v0 0 (v3 + (1 : Int32))).bind fun x61 =>
    (am_al h v0 0 (v3 + (2 : Int32))).bind fun x62 =>
    (am_al h v0 0 (v3 + (3 : Int32))).bind fun x63 =>
    (am_rc h v1 8).bind fun b65 =>
    (fX8_work b65 x61 x62 x63 h).bind fun y64 =>
    (am_al y64.2 v0 0 (v3 + (1 : Int32))).bind fun x66 =>
    (am_al y64.2 v0 0 (v3 + (2 : Int32))).bind fun x67 =>
    (am_al y64.2 v0 0 (v3 + (3 : Int32))).bind fun x68 =>
    (am_rc y64.2 v2 9).bind fun b70 =>
    (fX9_work b70 x66 x67 x68 y64.2).bind fun y69 =>
    if y64.1 = y69.1 then
      (fL_law_1443 rec) v0 v1 v2 v3 y69.2
    else
    am_zr (0 : Int32) y69.2
  else
  if (x2 &&& (31 : Int32)) = (9 : Int32) then
    (am_al h v0 0 (v3 + (1 : Int32))).bind fun x71 =>
    (am_al h v0 0 (v3 + (2 : Int32))).bind fun x72 =>
    (am_rc h v1 8).bind fun b74 =>
    (fX8_workAs b74 x71 x72 h).bind fun y73 =>
    (am_al y73.2 v0 0 (v3 + (1 : Int32))).bind fun x75 =>
    (am_al y73.2 v0 0 (v3 + (2 : Int32))).bind fun x76 =>
    (am_rc y73.2 v2 9).bind fun b78 =>
    (fX9_workAs b78 x75 x76 y73.2).bind fun y77 =>
    if y73.1 = y77.1 then
      (fL_law_1443 rec) v0 v1 v2 v3 y77.2
    else
    am_zr (0 : Int32) y77.2
  else
  if (x2 &&& (31 : Int32)) = (10 : Int32) then
    (am_al h v0 0 (v3 + (1 : Int32))).bind fun x79 =>
    (am_rc h v1 8).bind fun b81 =>
    (fX8_head b81 x79 h).bind fun y80 =>
    (am_al y80.2 v0 0 (v3 + (1 : Int32))).bind fun x82 =>
    (am_rc y80.2 v2 9).bind fun b84 =>
    (fX9_head b84 x82 y80.2).bind fun y83 =>
    if y80.1 = y83.1 then
      (fL_law_1443 rec) v0 v1 v2 v3 y83.2
    else
    am_zr (0 : Int32) y83.2
  else
  if (x2 &&& (31 : Int32)) = (11 : Int32) then
    (am_al h v0 0 (v3 + (1 : Int32))).bind fun x85 =>
    (am_al h v0 0 (v3 + (2 : Int32))).bind fun x86 =>
    (am_al h v0 0 (v3 + (3 : Int32))).bind fun x87 =>
    (am_al h v0 0 (v3 + (4 : Int32))).bind fun x88 =>
    (am_rc h v1 8).bind fun b90 =>
    (fX8_drops b90 x85 x86 x87 x88 h).bind fun y89 =>
    (am_al y89.2 v0 0 (v3 + (1 : Int32))).bind fun x91 =>
    (am_al y89.2 v0 0 (v3 + (2 : Int32))).bind fun x92 =>
    (am_al y89.2 v0 0 (v3 + (3 : Int32))).bind fun x93 =>
    (am_al y89.2 v0 0 (v3 + (4 : Int32))).bind fun x94 =>
    (am_rc y89.2 v2 9).bind fun b96 =>
    (fX9_drops b96 x91 x92 x93 x94 y89.2).bind fun y95 =>
    if y89.1 = y95.1 then
      (fL_law_1443 rec) v0 v1 v2 v3 y95.2
    else
    am_zr (0 : Int32) y95.2
  else
  if (x2 &&& (31 : Int32)) = (12 : Int32) then
    (am_al h v0 0 (v3 + (1 : Int32))).bind fun x97 =>
    (am_al h v0 0 (v3 + (2 : Int32))).bind fun x98 =>
    (am_al h v0 0 (v3 + (3 : Int32))).bind fun x99 =>
    (am_al h v0 0 (v3 + (4 : Int32))).bind fun x100 =>
    (am_rc h v1 8).bind fun b102 =>
    (fX8_error b102 x97 x98 x99 x100 h).bind fun y101 =>
    (am_al y101.2 v0 0 (v3 + (1 : Int32))).bind fun x103 =>
    (am_al y101.2 v0 0 (v3 + (2 : Int32))).bind fun x104 =>
    (am_al y101.2 v0 0 (v3 + (3 : Int32))).bind fun x105 =>
    (am_al y101.2 v0 0 (v3 + (4 : Int32))).bind fun x106 =>
    (am_rc y101.2 v2 9).bind fun b108 =>
    (fX9_error b108 x103 x104 x105 x106 y101.2).bind fun y107 =>
    if y101.1 = y107.1 then
      (fL_law_1443 rec) v0 v1 v2 v3 y107.2
    else
    am_zr (0 : Int32) y107.2
  else
  if (x2 &&& (31 : Int32)) = (13 : Int32) then
    (am_al h v0 0 (v3 + (1 : Int32))).bind fun x109 =>
    (am_al h v0 0 (v3 + (2 : Int32))).bind fun x110 =>
    (am_al h v0 0 (v3 + (3 : Int32))).bind fun x111 =>
    (am_al h v0 0 (v3 + (4 : Int32))).bind fun x112 =>
    (am_al h v0 0 (v3 + (5 : Int32))).bind fun x113 =>
    (am_rc h v1 8).bind fun b115 =>
    (fX8_at b115 x109 x110 x111 x112 x113 h).bind fun y114 =>
    (am_al y114.2 v0 0 (v3 + (1 : Int32))).bind fun x116 =>
    (am_al y114.2 v0 0 (v3 + (2 : Int32))).bind fun x117 =>
    (am_al y114.2 v0 0 (v3 + (3 : Int32))).bind fun x118 =>
    (am_al y114.2 v0 0 (v3 + (4 : Int32))).bind fun x119 =>
    (am_al y114.2 v0 0 (v3 + (5 : Int32))).bind fun x120 =>
    (am_rc y114.2 v2 9).bind fun b122 =>
    (fX9_at b122 x116 x117 x118 x119 x120 y114.2).bind fun y121 =>
    if y114.1 = y121.1 then
      (fL_law_1443 rec) v0 v1 v2 v3 y121.2
    else
    am_zr (0 : Int32) y121.2
  else
  if (x2 &&& (31 : Int32)) = (14 : Int32) then
    (am_al h v0 0 (v3 + (1 : Int32))).bind fun x123 =>
    (am_al h v0 0 (v3 + (2 : Int32))).bind fun x124 =>
    (am_al h v0 0 (v3 + (3 : Int32))).bind fun x125 =>
    (am_al h v0 0 (v3 + (4 : Int32))).bind fun x126 =>
    (am_rc h v1 8).bind fun b128 =>
    (fX8_even b128 x123 x124 x125 x126 h).bind fun y127 =>
    (am_al y127.2 v0 0 (v3 + (1 : Int32))).bind fun x129 =>
    (am_al y127.2 v0 0 (v3 + (2 : Int32))).bind fun x130 =>
    (am_al y127.2 v0 0 (v3 + (3 : Int32))).bind fun x131 =>
    (am_al y127.2 v0 0 (v3 + (4 : Int32))).bind fun x132 =>
    (am_rc y127.2 v2 9).bind fun b134 =>
    (fX9_even b134 x129 x130 x131 x132 y127.2).bind fun y133 =>
    if y127.1 = y133.1 then
      (fL_law_1443 rec) v0 v1 v2 v3 y133.2
    else
    am_zr (0 : Int32) y133.2
  else
  if (x2 &&& (31 : Int32)) = (15 : Int32) then
    (am_al h v0 0 (v3 + (1 : Int32))).bind fun x135 =>
    (am_al h v0 0 (v3 + (2 : Int32))).bind fun x136 =>
    (am_al h v0 0 (v3 + (3 : Int32))).bind fun x137 =>
    (am_al h v0 0 (v3 + (4 : Int32))).bind fun x138 =>
    (am_rc h v1 8).bind fun b140 =>
    (fX8_mean b140 x135 x136 x137 x138 h).bind fun y139 =>
    (am_al y139.2 v0 0 (v3 + (1 : Int32))).bind fun x141 =>
    (am_al y139.2 v0 0 (v3 + (2 : Int32))).bind fun x142 =>
    (am_al y139.2 v0 0 (v3 + (3 : Int32))).bind fun x143 =>
    (am_al y139.2 v0 0 (v3 + (4 : Int32))).bind fun x144 =>
    (am_rc y139.2 v2 9).bind fun b146 =>
    (fX9_mean b146 x141 x142 x143 x144 y139.2).bind fun y145 =>
    if y139.1 = y145.1 then
      (fL_law_1443 rec) v0 v1 v2 v3 y145.2
    else
    am_zr (0 : Int32) y145.2
  else
  if (x2 &&& (31 : Int32)) = (16 : Int32) then
    (am_al h v0 0 (v3 + (1 : Int32))).bind fun x147 =>
    (am_al h v0 0 (v3 + (2 : Int32))).bind fun x148 =>
    (am_al h v0 0 (v3 + (3 : Int32))).bind fun x149 =>
    (am_al h v0 0 (v3 + (4 : Int32))).bind fun x150 =>
    (am_rc h v1 8).bind fun b152 =>
    (fX8_shows b152 x147 x148 x149 x150 h).bind fun y151 =>
    (am_al y151.2 v0 0 (v3 + (1 : Int32))).bind fun x153 =>
    (am_al y151.2 v0 0 (v3 + (2 : Int32))).bind fun x154 =>
    (am_al y151.2 v0 0 (v3 + (3 : Int32))).bind fun x155 =>
    (am_al y151.2 v0 0 (v3 + (4 : Int32))).bind fun x156 =>
    (am_rc y151.2 v2 9).bind fun b158 =>
    (fX9_shows b158 x153 x154 x155 x156 y151.2).bind fun y157 =>
    if y151.1 = y157.1 then
      (fL_law_1443 rec) v0 v1 v2 v3 y157.2
    else
    am_zr (0 : Int32) y157.2
  else
  if (x2 &&& (31 : Int32)) = (17 : Int32) then
    (am_al h v0 0 (v3 + (1 : Int32))).bind fun x159 =>
    (am_al h v0 0 (v3 + (2 : Int32))).bind fun x160 =>
    (am_rc h v1 8).bind fun b162 =>
    (fX8_worst b162 x159 x160 h).bind fun y161 =>
    (am_al y161.2 v0 0 (v3 + (1 : Int32))).bind fun x163 =>
    (am_al y161.2 v0 0 (v3 + (2 : Int32))).bind fun x164 =>
    (am_rc y161.2 v2 9).bind fun b166 =>
    (fX9_worst b166 x163 x164 y161.2).bind fun y165 =>
    if y161.1 = y165.1 then
      (fL_law_1443 rec) v0 v1 v2 v3 y165.2
    else
    am_zr (0 : Int32) y165.2
  else
  if (x2 &&& (31 : Int32)) = (18 : Int32) then
    (am_al h v0 0 (v3 + (1 : Int32))).bind fun x167 =>
    (am_al h v0 0 (v3 + (2 : Int32))).bind fun x168 =>
    (am_rc h v1 8).bind fun b170 =>
    (fX8_better b170 x167 x168 h).bind fun y169 =>
    (am_al y169.2 v0 0 (v3 + (1 : Int32))).bind fun x171 =>
    (am_al y169.2 v0 0 (v3 + (2 : Int32))).bind fun x172 =>
    (am_rc y169.2 v2 9).bind fun b174 =>
    (fX9_better b174 x171 x172 y169.2).bind fun y173 =>
    if y169.1 = y173.1 then
      (fL_law_1443 rec) v0 v1 v2 v3 y173.2
    else
    am_zr (0 : Int32) y173.2
  else
  if (x2 &&& (31 : Int32)) = (19 : Int32) then
    (am_al h v0 0 (v3 + (1 : Int32))).bind fun x175 =>
    (am_al h v0 0 (v3 + (2 : Int32))).bind fun x176 =>
    (am_al h v0 0 (v3 + (3 : Int32))).bind fun x177 =>
    (am_rc h v1 8).bind fun b179 =>
    (fX8_mark b179 x175 x176 x177 h).bind fun y178 =>
    (am_al y178.2 v0 0 (v3 + (1 : Int32))).bind fun x180 =>
    (am_al y178.2 v0 0 (v3 + (2 : Int32))).bind fun x181 =>
    (am_al y178.2 v0 0 (v3 + (3 : Int32))).bind fun x182 =>
    (am_rc y178.2 v2 9).bind fun b184 =>
    (fX9_mark b184 x180 x181 x182 y178.2).bind fun y183 =>
    if y178.1 = y183.1 then
      (fL_law_1443 rec) v0 v1 v2 v3 y183.2
    else
    am_zr (0 : Int32) y183.2
  else
  if (x2 &&& (31 : Int32)) = (20 : Int32) then
    (am_al h v0 0 (v3 + (1 : Int32))).bind fun x185 =>
    (am_al h v0 0 (v3 + (2 : Int32))).bind fun x186 =>
    (am_al h v0 0 (v3 + (3 : Int32))).bind fun x187 =>
    (am_al h v0 0 (v3 + (4 : Int32))).bind fun x188 =>
    (am_al h v0 0 (v3 + (5 : Int32))).bind fun x189 =>
    (am_rc h v1 8).bind fun b191 =>
    (fX8_mended b191 x185 x186 x187 x188 x189 h).bind fun y190 =>
    (am_al y190.2 v0 0 (v3 + (1 : Int32))).bind fun x192 =>
    (am_al y190.2 v0 0 (v3 + (2 : Int32))).bind fun x193 =>
    (am_al y190.2 v0 0 (v3 + (3 : Int32))).bind fun x194 =>
    (am_al y190.2 v0 0 (v3 + (4 : Int32))).bind fun x195 =>
    (am_al y190.2 v0 0 (v3 + (5 : Int32))).bind fun x196 =>
    (am_rc y190.2 v2 9).bind fun b198 =>
    (fX9_mended b198 x192 x193 x194 x195 x196 y190.2).bind fun y197 =>
    if y190.1 = y197.1 then
      (fL_law_1443 rec) v0 v1 v2 v3 y197.2
    else
    am_zr (0 : Int32) y197.2
  else
  if (x2 &&& (31 : Int32)) = (21 : Int32) then
    (am_al h v0 0 (v3 + (1 : Int32))).bind fun x199 =>
    (am_al h v0 0 (v3 + (2 : Int32))).bind fun x200 =>
    (am_rc h v1 8).bind fun b202 =>
    (fX8_log b202 x199 x200 h).bind fun y201 =>
    (am_al y201.2 v0 0 (v3 + (1 : Int32))).bind fun x203 =>
    (am_al y201.2 v0 0 (v3 + (2 : Int32))).bind fun x204 =>
    (am_rc y201.2 v2 9).bind fun b206 =>
    (fX9_log b206 x203 x204 y201.2).bind fun y205 =>
    if y201.1 = y205.1 then
      (fL_law_1443 rec) v0 v1 v2 v3 y205.2
    else
    am_zr (0 : Int32) y205.2
  else
  if (x2 &&& (31 : Int32)) = (22 : Int32) then
    (am_al h v0 0 (v3 + (1 : Int32))).bind fun x207 =>
    (am_al h v0 0 (v3 + (2 : Int32))).bind fun x208 =>
    (am_al h v0 0 (v3 + (3 : Int32))).bind fun x209 =>
    (am_rc h v1 8).bind fun b211 =>
    (fX8_agrees b211 x207 x208 x209 h).bind fun y210 =>
    (am_al y210.2 v0 0 (v3 + (1 : Int32))).bind fun x212 =>
    (am_al y210.2 v0 0 (v3 + (2 : Int32))).bind fun x213 =>
    (am_al y210.2 v0 0 (v3 + (3 : Int32))).bind fun x214 =>
    (am_rc y210.2 v2 9).bind fun b216 =>
    (fX9_agrees b216 x212 x213 x214 y210.2).bind fun y215 =>
    if y210.1 = y215.1 then
      (fL_law_1443 rec) v0 v1 v2 v3 y215.2
    else
    am_zr (0 : Int32) y215.2
  else
  if (x2 &&& (31 : Int32)) = (23 : Int32) then
    (am_al h v0 0 (v3 + (1 : Int32))).bind fun x217 =>
    (am_al h v0 0 (v3 + (2 : Int32))).bind fun x218 =>
    (am_rc h v1 8).bind fun b220 =>
    (fX8_which b220 x217 x218 h).bind fun y219 =>
    (am_al y219.2 v0 0 (v3 + (1 : Int32))).bind fun x221 =>
    (am_al y219.2 v0 0 (v3 + (2 : Int32))).bind fun x222 =>
    (am_rc y219.2 v2 9).bind fun b224 =>
    (fX9_which b224 x221 x222 y219.2).bind fun y223 =>
    if y219.1 = y223.1 then
      (fL_law_1443 rec) v0 v1 v2 v3 y223.2
    else
    am_zr (0 : Int32) y223.2
  else
  if (x2 &&& (31 : Int32)) = (24 : Int32) then
    (am_al h v0 0 (v3 + (1 : Int32))).bind fun x225 =>
    (am_al h v0 0 (v3 + (2 : Int32))).bind fun x226 =>
    (am_al h v0 0 (v3 + (3 : Int32))).bind fun x227 =>
    (am_al h v0 0 (v3 + (4 : Int32))).bind fun x228 =>
    (am_al h v0 0 (v3 + (5 : Int32))).bind fun x229 =>
    (am_rc h v1 8).bind fun b231 =>
    (fX8_sought b231 x225 x226 x227 x228 x229 h).bind fun y230 =>
    (am_al y230.2 v0 0 (v3 + (1 : Int32))).bind fun x232 =>
    (am_al y230.2 v0 0 (v3 + (2 : Int32))).bind fun x233 =>
    (am_al y230.2 v0 0 (v3 + (3 : Int32))).bind fun x234 =>
    (am_al y230.2 v0 0 (v3 + (4 : Int32))).bind fun x235 =>
    (am_al y230.2 v0 0 (v3 + (5 : Int32))).bind fun x236 =>
    (am_rc y230.2 v2 9).bind fun b238 =>
    (fX9_sought b238 x232 x233 x234 x235 x236 y230.2).bind fun y237 =>
    if y230.1 = y237.1 then
      (fL_law_1443 rec) v0 v1 v2 v3 y237.2
    else
    am_zr (0 : Int32) y237.2
  else
  if (x2 &&& (31 : Int32)) = (25 : Int32) then
    (am_al h v0 0 (v3 + (1 : Int32))).bind fun x239 =>
    (am_al h v0 0 (v3 + (2 : Int32))).bind fun x240 =>
    (am_al h v0 0 (v3 + (3 : Int32))).bind fun x241 =>
    (am_al h v0 0 (v3 + (4 : Int32))).bind fun x242 =>
    (am_rc h v1 8).bind fun b244 =>
    (fX8_lost b244 x239 x240 x241 x242 h).bind fun y243 =>
    (am_al y243.2 v0 0 (v3 + (1 : Int32))).bind fun x245 =>
    (am_al y243.2 v0 0 (v3 + (2 : Int32))).bind fun x246 =>
    (am_al y243.2 v0 0 (v3 + (3 : Int32))).bind fun x247 =>
    (am_al y243.2 v0 0 (v3 + (4 : Int32))).bind fun x248 =>
    (am_rc y243.2 v2 9).bind fun b250 =>
    (fX9_lost b250 x245 x246 x247 x248 y243.2).bind fun y249 =>
    if y243.1 = y249.1 then
      (fL_law_1443 rec) v0 v1 v2 v3 y249.2
    else
    am_zr (0 : Int32) y249.2
  else
  if (x2 &&& (31 : Int32)) = (26 : Int32) then
    (am_al h v0 0 (v3 + (1 : Int32))).bind fun x251 =>
    (am_al h v0 0 (v3 + (2 : Int32))).bind fun x252 =>
    (am_al h v0 0 (v3 + (3 : Int32))).bind fun x253 =>
    (am_al h v0 0 (v3 + (4 : Int32))).bind fun x254 =>
    (am_al h v0 0 (v3 + (5 : Int32))).bind fun x255 =>
    (am_rc h v1 8).bind fun b257 =>
    (fX8_span b257 x251 x252 x253 x254 x255 h).bind fun y256 =>
    (am_al y256.2 v0 0 (v3 + (1 : Int32))).bind fun x258 =>
    (am_al y256.2 v0 0 (v3 + (2 : Int32))).bind fun x259 =>
    (am_al y256.2 v0 0 (v3 + (3 : Int32))).bind fun x260 =>
    (am_al y256.2 v0 0 (v3 + (4 : Int32))).bind fun x261 =>
    (am_al y256.2 v0 0 (v3 + (5 : Int32))).bind fun x262 =>
    (am_rc y256.2 v2 9).bind fun b264 =>
    (fX9_span b264 x258 x259 x260 x261 x262 y256.2).bind fun y263 =>
    if y256.1 = y263.1 then
      (fL_law_1443 rec) v0 v1 v2 v3 y263.2
    else
    am_zr (0 : Int32) y263.2
  else
  if (x2 &&& (31 : Int32)) = (27 : Int32) then
    (am_al h v0 0 (v3 + (1 : Int32))).bind fun x265 =>
    (am_al h v0 0 (v3 + (2 : Int32))).bind fun x266 =>
    (am_al h v0 0 (v3 + (3 : Int32))).bind fun x267 =>
    (am_al h v0 0 (v3 + (4 : Int32))).bind fun x268 =>
    (am_al h v0 0 (v3 + (5 : Int32))).bind fun x269 =>
    (am_rc h v1 8).bind fun b271 =>
    (fX8_record b271 x265 x266 x267 x268 x269 h).bind fun y270 =>
    (am_al y270.2 v0 0 (v3 + (1 : Int32))).bind fun x272 =>
    (am_al y270.2 v0 0 (v3 + (2 : Int32))).bind fun x273 =>
    (am_al y270.2 v0 0 (v3 + (3 : Int32))).bind fun x274 =>
    (am_al y270.2 v0 0 (v3 + (4 : Int32))).bind fun x275 =>
    (am_al y270.2 v0 0 (v3 + (5 : Int32))).bind fun x276 =>
    (am_rc y270.2 v2 9).bind fun b278 =>
    (fX9_record b278 x272 x273 x274 x275 x276 y270.2).bind fun y277 =>
    if y270.1 = y277.1 then
      (fL_law_1443 rec) v0 v1 v2 v3 y277.2
    else
    am_zr (0 : Int32) y277.2
  else
  if (x2 &&& (31 : Int32)) = (28 : Int32) then
    (am_rc h v1 8).bind fun b280 =>
    (fX8_image b280 h).bind fun y279 =>
    (am_rc y279.2 v2 9).bind fun b282 =>
    (fX9_image b282 y279.2).bind fun y281 =>
    if y279.1 = y281.1 then
      (fL_law_1443 rec) v0 v1 v2 v3 y281.2
    else
    am_zr (0 : Int32) y281.2
  else
  if (x2 &&& (31 : Int32)) = (29 : Int32) then
    (am_rc h v1 8).bind fun b284 =>
    (fX8_restore b284 h).bind fun y283 =>
    (am_rc y283.2 v2 9).bind fun b286 =>
    (fX9_restore b286 y283.2).bind fun y285 =>
    if y283.1 = y285.1 then
      (fL_law_1443 rec) v0 v1 v2 v3 y285.2
    else
    am_zr (0 : Int32) y285.2
  else
  if (x2 &&& (31 : Int32)) = (30 : Int32) then
    (am_al h v0 0 (v3 + (1 : Int32))).bind fun x287 =>
    (am_rc h v1 8).bind fun b289 =>
    (fX8_count b289 x287 h).bind fun y288 =>
    (am_al y288.2 v0 0 (v3 + (1 : Int32))).bind fun x290 =>
    (am_rc y288.2 v2 9).bind fun b292 =>
    (fX9_count b292 x290 y288.2).bind fun y291 =>
    if y288.1 = y291.1 then
      (fL_law_1443 rec) v0 v1 v2 v3 y291.2
    else
    am_zr (0 : Int32) y291.2
  else
  if (x2 &&& (31 : Int32)) = (31 : Int32) then
    (am_rc h v1 8).bind fun b294 =>
    (fX8_digest b294 h).bind fun y293 =>
    (am_rc y293.2 v2 9).bind fun b296 =>
    (fX9_digest b296 y293.2).bind fun y295 =>
    if (lg_cmp y293.1 y295.1) = 0 then
      (fL_law_1443 rec) v0 v1 v2 v3 y295.2
    else
    am_zr (0 : Int32) y295.2
  else
  (fL_law_1443 rec) v0 v1 v2 v3 h
def fL_law_18 : Nat → Option Nat → Option Nat → Option Nat → Int32 → am_H → Option (Int32 × am_H)
  | 0, _, _, _, _, _ => none
  | n + 1, v0, v1, v2, v3, h => fL_law_18_b  (fL_law_18  n) v0 v1 v2 v3 h
def fL_law (L : Nat) (xs : Nat → Int32) (h : am_H) : Option (Int32 × am_H) :=
  (am_nwo h 8 df_8).bind fun y1 =>
  (fX8_init y1.1 y1.2).bind fun y2 =>
  (am_nwo y2 9 df_9).bind fun y3 =>
  (fX9_init y3.1 y3.2).bind fun y4 =>
  (fL_law_18 am_fu) (some 0) (some y1.1) (some y3.1) (0 : Int32) y4
