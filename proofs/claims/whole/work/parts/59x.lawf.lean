/-! the law, its script read where it lies -/
def fS_law_1443 (k18 : Option Nat → Option Nat → Int32 → am_H → Option (Int32 × am_H)) (v1 : Option Nat) (v2 : Option Nat) (v3 : Int32) (h : am_H) : Option (Int32 × am_H) :=
  k18 v1 v2 (v3 + (6 : Int32)) h
def fS_law_18_b (L : Nat) (xs : Nat → Int32) (rec : Option Nat → Option Nat → Int32 → am_H → Option (Int32 × am_H)) (v1 : Option Nat) (v2 : Option Nat) (v3 : Int32) (h : am_H) : Option (Int32 × am_H) :=
  if (Int32.ofNat L - (6 : Int32)) < v3 then
    am_zr (1 : Int32) h
  else
  (am_sl L xs v3).bind fun x2 =>
  if (x2 &&& (31 : Int32)) = (0 : Int32) then
    (am_sl L xs (v3 + (1 : Int32))).bind fun x3 =>
    (am_sl L xs (v3 + (2 : Int32))).bind fun x4 =>
    (am_rc h v1 8).bind fun b6 =>
    (fX8_letters b6 (((Int32.toInt64 x3) <<< (Int32.toInt64 (32 : Int32) &&& 63)) ||| ((Int32.toInt64 x4) &&& (4294967295 : Int64))) h).bind fun y5 =>
    (am_sl L xs (v3 + (1 : Int32))).bind fun x7 =>
    (am_sl L xs (v3 + (2 : Int32))).bind fun x8 =>
    (am_rc y5.2 v2 9).bind fun b10 =>
    (fX9_letters b10 (((Int32.toInt64 x7) <<< (Int32.toInt64 (32 : Int32) &&& 63)) ||| ((Int32.toInt64 x8) &&& (4294967295 : Int64))) y5.2).bind fun y9 =>
    if y5.1 = y9.1 then
      (fS_law_1443 rec) v1 v2 v3 y9.2
    else
    am_zr (0 : Int32) y9.2
  else
  if (x2 &&& (31 : Int32)) = (1 : Int32) then
    (am_rc h v1 8).bind fun b12 =>
    (fX8_blank b12 h).bind fun y11 =>
    (am_rc y11.2 v2 9).bind fun b14 =>
    (fX9_blank b14 y11.2).bind fun y13 =>
    if y11.1 = y13.1 then
      (fS_law_1443 rec) v1 v2 v3 y13.2
    else
    am_zr (0 : Int32) y13.2
  else
  if (x2 &&& (31 : Int32)) = (2 : Int32) then
    (am_rc h v1 8).bind fun b16 =>
    (fX8_fault b16 h).bind fun y15 =>
    (am_rc y15.2 v2 9).bind fun b18 =>
    (fX9_fault b18 y15.2).bind fun y17 =>
    if y15.1 = y17.1 then
      (fS_law_1443 rec) v1 v2 v3 y17.2
    else
    am_zr (0 : Int32) y17.2
  else
  if (x2 &&& (31 : Int32)) = (3 : Int32) then
    (am_rc h v1 8).bind fun b20 =>
    (fX8_clock b20 h).bind fun y19 =>
    (am_rc y19.2 v2 9).bind fun b22 =>
    (fX9_clock b22 y19.2).bind fun y21 =>
    if y19.1 = y21.1 then
      (fS_law_1443 rec) v1 v2 v3 y21.2
    else
    am_zr (0 : Int32) y21.2
  else
  if (x2 &&& (31 : Int32)) = (4 : Int32) then
    (am_sl L xs (v3 + (1 : Int32))).bind fun x23 =>
    (am_sl L xs (v3 + (2 : Int32))).bind fun x24 =>
    (am_rc h v1 8).bind fun b26 =>
    (fX8_told b26 x23 x24 h).bind fun y25 =>
    (am_sl L xs (v3 + (1 : Int32))).bind fun x27 =>
    (am_sl L xs (v3 + (2 : Int32))).bind fun x28 =>
    (am_rc y25.2 v2 9).bind fun b30 =>
    (fX9_told b30 x27 x28 y25.2).bind fun y29 =>
    if y25.1 = y29.1 then
      (fS_law_1443 rec) v1 v2 v3 y29.2
    else
    am_zr (0 : Int32) y29.2
  else
  if (x2 &&& (31 : Int32)) = (5 : Int32) then
    (am_sl L xs (v3 + (1 : Int32))).bind fun x31 =>
    (am_sl L xs (v3 + (2 : Int32))).bind fun x32 =>
    (am_sl L xs (v3 + (3 : Int32))).bind fun x33 =>
    (am_rc h v1 8).bind fun b35 =>
    (fX8_season b35 x31 x32 x33 h).bind fun y34 =>
    (am_sl L xs (v3 + (1 : Int32))).bind fun x36 =>
    (am_sl L xs (v3 + (2 : Int32))).bind fun x37 =>
    (am_sl L xs (v3 + (3 : Int32))).bind fun x38 =>
    (am_rc y34.2 v2 9).bind fun b40 =>
    (fX9_season b40 x36 x37 x38 y34.2).bind fun y39 =>
    if y34.1 = y39.1 then
      (fS_law_1443 rec) v1 v2 v3 y39.2
    else
    am_zr (0 : Int32) y39.2
  else
  if (x2 &&& (31 : Int32)) = (6 : Int32) then
    (am_sl L xs (v3 + (1 : Int32))).bind fun x41 =>
    (am_sl L xs (v3 + (2 : Int32))).bind fun x42 =>
    (am_sl L xs (v3 + (3 : Int32))).bind fun x43 =>
    (am_sl L xs (v3 + (4 : Int32))).bind fun x44 =>
    (am_rc h v1 8).bind fun b46 =>
    (fX8_faulty b46 x41 x42 x43 x44 h).bind fun y45 =>
    (am_sl L xs (v3 + (1 : Int32))).bind fun x47 =>
    (am_sl L xs (v3 + (2 : Int32))).bind fun x48 =>
    (am_sl L xs (v3 + (3 : Int32))).bind fun x49 =>
    (am_sl L xs (v3 + (4 : Int32))).bind fun x50 =>
    (am_rc y45.2 v2 9).bind fun b52 =>
    (fX9_faulty b52 x47 x48 x49 x50 y45.2).bind fun y51 =>
    if y45.1 = y51.1 then
      (fS_law_1443 rec) v1 v2 v3 y51.2
    else
    am_zr (0 : Int32) y51.2
  else
  if (x2 &&& (31 : Int32)) = (7 : Int32) then
    (am_sl L xs (v3 + (1 : Int32))).bind fun x53 =>
    (am_sl L xs (v3 + (2 : Int32))).bind fun x54 =>
    (am_rc h v1 8).bind fun b56 =>
    (fX8_as b56 x53 x54 h).bind fun y55 =>
    (am_sl L xs (v3 + (1 : Int32))).bind fun x57 =>
    (am_sl L xs (v3 + (2 : Int32))).bind fun x58 =>
    (am_rc y55.2 v2 9).bind fun b60 =>
    (fX9_as b60 x57 x58 y55.2).bind fun y59 =>
    if y55.1 = y59.1 then
      (fS_law_1443 rec) v1 v2 v3 y59.2
    else
    am_zr (0 : Int32) y59.2
  else
  if (x2 &&& (31 : Int32)) = (8 : Int32) then
    (am_sl L xs (v3 + (1 : Int32))).bind fun x61 =>
    (am_sl L xs (v3 + (2 : Int32))).bind fun x62 =>
    (am_sl L xs (v3 + (3 : Int32))).bind fun x63 =>
    (am_rc h v1 8).bind fun b65 =>
    (fX8_work b65 x61 x62 x63 h).bind fun y64 =>
    (am_sl L xs (v3 + (1 : Int32))).bind fun x66 =>
    (am_sl L xs (v3 + (2 : Int32))).bind fun x67 =>
    (am_sl L xs (v3 + (3 : Int32))).bind fun x68 =>
    (am_rc y64.2 v2 9).bind fun b70 =>
    (fX9_work b70 x66 x67 x68 y64.2).bind fun y69 =>
    if y64.1 = y69.1 then
      (fS_law_1443 rec) v1 v2 v3 y69.2
    else
    am_zr (0 : Int32) y69.2
  else
  if (x2 &&& (31 : Int32)) = (9 : Int32) then
    (am_sl L xs (v3 + (1 : Int32))).bind fun x71 =>
    (am_sl L xs (v3 + (2 : Int32))).bind fun x72 =>
    (am_rc h v1 8).bind fun b74 =>
    (fX8_workAs b74 x71 x72 h).bind fun y73 =>
    (am_sl L xs (v3 + (1 : Int32))).bind fun x75 =>
    (am_sl L xs (v3 + (2 : Int32))).bind fun x76 =>
    (am_rc y73.2 v2 9).bind fun b78 =>
    (fX9_workAs b78 x75 x76 y73.2).bind fun y77 =>
    if y73.1 = y77.1 then
      (fS_law_1443 rec) v1 v2 v3 y77.2
    else
    am_zr (0 : Int32) y77.2
  else
  if (x2 &&& (31 : Int32)) = (10 : Int32) then
    (am_sl L xs (v3 + (1 : Int32))).bind fun x79 =>
    (am_rc h v1 8).bind fun b81 =>
    (fX8_head b81 x79 h).bind fun y80 =>
    (am_sl L xs (v3 + (1 : Int32))).bind fun x82 =>
    (am_rc y80.2 v2 9).bind fun b84 =>
    (fX9_head b84 x82 y80.2).bind fun y83 =>
    if y80.1 = y83.1 then
      (fS_law_1443 rec) v1 v2 v3 y83.2
    else
    am_zr (0 : Int32) y83.2
  else
  if (x2 &&& (31 : Int32)) = (11 : Int32) then
    (am_sl L xs (v3 + (1 : Int32))).bind fun x85 =>
    (am_sl L xs (v3 + (2 : Int32))).bind fun x86 =>
    (am_sl L xs (v3 + (3 : Int32))).bind fun x87 =>
    (am_sl L xs (v3 + (4 : Int32))).bind fun x88 =>
    (am_rc h v1 8).bind fun b90 =>
    (fX8_drops b90 x85 x86 x87 x88 h).bind fun y89 =>
    (am_sl L xs (v3 + (1 : Int32))).bind fun x91 =>
    (am_sl L xs (v3 + (2 : Int32))).bind fun x92 =>
    (am_sl L xs (v3 + (3 : Int32))).bind fun x93 =>
    (am_sl L xs (v3 + (4 : Int32))).bind fun x94 =>
    (am_rc y89.2 v2 9).bind fun b96 =>
    (fX9_drops b96 x91 x92 x93 x94 y89.2).bind fun y95 =>
    if y89.1 = y95.1 then
      (fS_law_1443 rec) v1 v2 v3 y95.2
    else
    am_zr (0 : Int32) y95.2
  else
  if (x2 &&& (31 : Int32)) = (12 : Int32) then
    (am_sl L xs (v3 + (1 : Int32))).bind fun x97 =>
    (am_sl L xs (v3 + (2 : Int32))).bind fun x98 =>
    (am_sl L xs (v3 + (3 : Int32))).bind fun x99 =>
    (am_sl L xs (v3 + (4 : Int32))).bind fun x100 =>
    (am_rc h v1 8).bind fun b102 =>
    (fX8_error b102 x97 x98 x99 x100 h).bind fun y101 =>
    (am_sl L xs (v3 + (1 : Int32))).bind fun x103 =>
    (am_sl L xs (v3 + (2 : Int32))).bind fun x104 =>
    (am_sl L xs (v3 + (3 : Int32))).bind fun x105 =>
    (am_sl L xs (v3 + (4 : Int32))).bind fun x106 =>
    (am_rc y101.2 v2 9).bind fun b108 =>
    (fX9_error b108 x103 x104 x105 x106 y101.2).bind fun y107 =>
    if y101.1 = y107.1 then
      (fS_law_1443 rec) v1 v2 v3 y107.2
    else
    am_zr (0 : Int32) y107.2
  else
  if (x2 &&& (31 : Int32)) = (13 : Int32) then
    (am_sl L xs (v3 + (1 : Int32))).bind fun x109 =>
    (am_sl L xs (v3 + (2 : Int32))).bind fun x110 =>
    (am_sl L xs (v3 + (3 : Int32))).bind fun x111 =>
    (am_sl L xs (v3 + (4 : Int32))).bind fun x112 =>
    (am_sl L xs (v3 + (5 : Int32))).bind fun x113 =>
    (am_rc h v1 8).bind fun b115 =>
    (fX8_at b115 x109 x110 x111 x112 x113 h).bind fun y114 =>
    (am_sl L xs (v3 + (1 : Int32))).bind fun x116 =>
    (am_sl L xs (v3 + (2 : Int32))).bind fun x117 =>
    (am_sl L xs (v3 + (3 : Int32))).bind fun x118 =>
    (am_sl L xs (v3 + (4 : Int32))).bind fun x119 =>
    (am_sl L xs (v3 + (5 : Int32))).bind fun x120 =>
    (am_rc y114.2 v2 9).bind fun b122 =>
    (fX9_at b122 x116 x117 x118 x119 x120 y114.2).bind fun y121 =>
    if y114.1 = y121.1 then
      (fS_law_1443 rec) v1 v2 v3 y121.2
    else
    am_zr (0 : Int32) y121.2
  else
  if (x2 &&& (31 : Int32)) = (14 : Int32) then
    (am_sl L xs (v3 + (1 : Int32))).bind fun x123 =>
    (am_sl L xs (v3 + (2 : Int32))).bind fun x124 =>
    (am_sl L xs (v3 + (3 : Int32))).bind fun x125 =>
    (am_sl L xs (v3 + (4 : Int32))).bind fun x126 =>
    (am_rc h v1 8).bind fun b128 =>
    (fX8_even b128 x123 x124 x125 x126 h).bind fun y127 =>
    (am_sl L xs (v3 + (1 : Int32))).bind fun x129 =>
    (am_sl L xs (v3 + (2 : Int32))).bind fun x130 =>
    (am_sl L xs (v3 + (3 : Int32))).bind fun x131 =>
    (am_sl L xs (v3 + (4 : Int32))).bind fun x132 =>
    (am_rc y127.2 v2 9).bind fun b134 =>
    (fX9_even b134 x129 x130 x131 x132 y127.2).bind fun y133 =>
    if y127.1 = y133.1 then
      (fS_law_1443 rec) v1 v2 v3 y133.2
    else
    am_zr (0 : Int32) y133.2
  else
  if (x2 &&& (31 : Int32)) = (15 : Int32) then
    (am_sl L xs (v3 + (1 : Int32))).bind fun x135 =>
    (am_sl L xs (v3 + (2 : Int32))).bind fun x136 =>
    (am_sl L xs (v3 + (3 : Int32))).bind fun x137 =>
    (am_sl L xs (v3 + (4 : Int32))).bind fun x138 =>
    (am_rc h v1 8).bind fun b140 =>
    (fX8_mean b140 x135 x136 x137 x138 h).bind fun y139 =>
    (am_sl L xs (v3 + (1 : Int32))).bind fun x141 =>
    (am_sl L xs (v3 + (2 : Int32))).bind fun x142 =>
    (am_sl L xs (v3 + (3 : Int32))).bind fun x143 =>
    (am_sl L xs (v3 + (4 : Int32))).bind fun x144 =>
    (am_rc y139.2 v2 9).bind fun b146 =>
    (fX9_mean b146 x141 x142 x143 x144 y139.2).bind fun y145 =>
    if y139.1 = y145.1 then
      (fS_law_1443 rec) v1 v2 v3 y145.2
    else
    am_zr (0 : Int32) y145.2
  else
  if (x2 &&& (31 : Int32)) = (16 : Int32) then
    (am_sl L xs (v3 + (1 : Int32))).bind fun x147 =>
    (am_sl L xs (v3 + (2 : Int32))).bind fun x148 =>
    (am_sl L xs (v3 + (3 : Int32))).bind fun x149 =>
    (am_sl L xs (v3 + (4 : Int32))).bind fun x150 =>
    (am_rc h v1 8).bind fun b152 =>
    (fX8_shows b152 x147 x148 x149 x150 h).bind fun y151 =>
    (am_sl L xs (v3 + (1 : Int32))).bind fun x153 =>
    (am_sl L xs (v3 + (2 : Int32))).bind fun x154 =>
    (am_sl L xs (v3 + (3 : Int32))).bind fun x155 =>
    (am_sl L xs (v3 + (4 : Int32))).bind fun x156 =>
    (am_rc y151.2 v2 9).bind fun b158 =>
    (fX9_shows b158 x153 x154 x155 x156 y151.2).bind fun y157 =>
    if y151.1 = y157.1 then
      (fS_law_1443 rec) v1 v2 v3 y157.2
    else
    am_zr (0 : Int32) y157.2
  else
  if (x2 &&& (31 : Int32)) = (17 : Int32) then
    (am_sl L xs (v3 + (1 : Int32))).bind fun x159 =>
    (am_sl L xs (v3 + (2 : Int32))).bind fun x160 =>
    (am_rc h v1 8).bind fun b162 =>
    (fX8_worst b162 x159 x160 h).bind fun y161 =>
    (am_sl L xs (v3 + (1 : Int32))).bind fun x163 =>
    (am_sl L xs (v3 + (2 : Int32))).bind fun x164 =>
    (am_rc y161.2 v2 9).bind fun b166 =>
    (fX9_worst b166 x163 x164 y161.2).bind fun y165 =>
    if y161.1 = y165.1 then
      (fS_law_1443 rec) v1 v2 v3 y165.2
    else
    am_zr (0 : Int32) y165.2
  else
  if (x2 &&& (31 : Int32)) = (18 : Int32) then
    (am_sl L xs (v3 + (1 : Int32))).bind fun x167 =>
    (am_sl L xs (v3 + (2 : Int32))).bind fun x168 =>
    (am_rc h v1 8).bind fun b170 =>
    (fX8_better b170 x167 x168 h).bind fun y169 =>
    (am_sl L xs (v3 + (1 : Int32))).bind fun x171 =>
    (am_sl L xs (v3 + (2 : Int32))).bind fun x172 =>
    (am_rc y169.2 v2 9).bind fun b174 =>
    (fX9_better b174 x171 x172 y169.2).bind fun y173 =>
    if y169.1 = y173.1 then
      (fS_law_1443 rec) v1 v2 v3 y173.2
    else
    am_zr (0 : Int32) y173.2
  else
  if (x2 &&& (31 : Int32)) = (19 : Int32) then
    (am_sl L xs (v3 + (1 : Int32))).bind fun x175 =>
    (am_sl L xs (v3 + (2 : Int32))).bind fun x176 =>
    (am_sl L xs (v3 + (3 : Int32))).bind fun x177 =>
    (am_rc h v1 8).bind fun b179 =>
    (fX8_mark b179 x175 x176 x177 h).bind fun y178 =>
    (am_sl L xs (v3 + (1 : Int32))).bind fun x180 =>
    (am_sl L xs (v3 + (2 : Int32))).bind fun x181 =>
    (am_sl L xs (v3 + (3 : Int32))).bind fun x182 =>
    (am_rc y178.2 v2 9).bind fun b184 =>
    (fX9_mark b184 x180 x181 x182 y178.2).bind fun y183 =>
    if y178.1 = y183.1 then
      (fS_law_1443 rec) v1 v2 v3 y183.2
    else
    am_zr (0 : Int32) y183.2
  else
  if (x2 &&& (31 : Int32)) = (20 : Int32) then
    (am_sl L xs (v3 + (1 : Int32))).bind fun x185 =>
    (am_sl L xs (v3 + (2 : Int32))).bind fun x186 =>
    (am_sl L xs (v3 + (3 : Int32))).bind fun x187 =>
    (am_sl L xs (v3 + (4 : Int32))).bind fun x188 =>
    (am_sl L xs (v3 + (5 : Int32))).bind fun x189 =>
    (am_rc h v1 8).bind fun b191 =>
    (fX8_mended b191 x185 x186 x187 x188 x189 h).bind fun y190 =>
    (am_sl L xs (v3 + (1 : Int32))).bind fun x192 =>
    (am_sl L xs (v3 + (2 : Int32))).bind fun x193 =>
    (am_sl L xs (v3 + (3 : Int32))).bind fun x194 =>
    (am_sl L xs (v3 + (4 : Int32))).bind fun x195 =>
    (am_sl L xs (v3 + (5 : Int32))).bind fun x196 =>
    (am_rc y190.2 v2 9).bind fun b198 =>
    (fX9_mended b198 x192 x193 x194 x195 x196 y190.2).bind fun y197 =>
    if y190.1 = y197.1 then
      (fS_law_1443 rec) v1 v2 v3 y197.2
    else
    am_zr (0 : Int32) y197.2
  else
  if (x2 &&& (31 : Int32)) = (21 : Int32) then
    (am_sl L xs (v3 + (1 : Int32))).bind fun x199 =>
    (am_sl L xs (v3 + (2 : Int32))).bind fun x200 =>
    (am_rc h v1 8).bind fun b202 =>
    (fX8_log b202 x199 x200 h).bind fun y201 =>
    (am_sl L xs (v3 + (1 : Int32))).bind fun x203 =>
    (am_sl L xs (v3 + (2 : Int32))).bind fun x204 =>
    (am_rc y201.2 v2 9).bind fun b206 =>
    (fX9_log b206 x203 x204 y201.2).bind fun y205 =>
    if y201.1 = y205.1 then
      (fS_law_1443 rec) v1 v2 v3 y205.2
    else
    am_zr (0 : Int32) y205.2
  else
  if (x2 &&& (31 : Int32)) = (22 : Int32) then
    (am_sl L xs (v3 + (1 : Int32))).bind fun x207 =>
    (am_sl L xs (v3 + (2 : Int32))).bind fun x208 =>
    (am_sl L xs (v3 + (3 : Int32))).bind fun x209 =>
    (am_rc h v1 8).bind fun b211 =>
    (fX8_agrees b211 x207 x208 x209 h).bind fun y210 =>
    (am_sl L xs (v3 + (1 : Int32))).bind fun x212 =>
    (am_sl L xs (v3 + (2 : Int32))).bind fun x213 =>
    (am_sl L xs (v3 + (3 : Int32))).bind fun x214 =>
    (am_rc y210.2 v2 9).bind fun b216 =>
    (fX9_agrees b216 x212 x213 x214 y210.2).bind fun y215 =>
    if y210.1 = y215.1 then
      (fS_law_1443 rec) v1 v2 v3 y215.2
    else
    am_zr (0 : Int32) y215.2
  else
  if (x2 &&& (31 : Int32)) = (23 : Int32) then
    (am_sl L xs (v3 + (1 : Int32))).bind fun x217 =>
    (am_sl L xs (v3 + (2 : Int32))).bind fun x218 =>
    (am_rc h v1 8).bind fun b220 =>
    (fX8_which b220 x217 x218 h).bind fun y219 =>
    (am_sl L xs (v3 + (1 : Int32))).bind fun x221 =>
    (am_sl L xs (v3 + (2 : Int32))).bind fun x222 =>
    (am_rc y219.2 v2 9).bind fun b224 =>
    (fX9_which b224 x221 x222 y219.2).bind fun y223 =>
    if y219.1 = y223.1 then
      (fS_law_1443 rec) v1 v2 v3 y223.2
    else
    am_zr (0 : Int32) y223.2
  else
  if (x2 &&& (31 : Int32)) = (24 : Int32) then
    (am_sl L xs (v3 + (1 : Int32))).bind fun x225 =>
    (am_sl L xs (v3 + (2 : Int32))).bind fun x226 =>
    (am_sl L xs (v3 + (3 : Int32))).bind fun x227 =>
    (am_sl L xs (v3 + (4 : Int32))).bind fun x228 =>
    (am_sl L xs (v3 + (5 : Int32))).bind fun x229 =>
    (am_rc h v1 8).bind fun b231 =>
    (fX8_sought b231 x225 x226 x227 x228 x229 h).bind fun y230 =>
    (am_sl L xs (v3 + (1 : Int32))).bind fun x232 =>
    (am_sl L xs (v3 + (2 : Int32))).bind fun x233 =>
    (am_sl L xs (v3 + (3 : Int32))).bind fun x234 =>
    (am_sl L xs (v3 + (4 : Int32))).bind fun x235 =>
    (am_sl L xs (v3 + (5 : Int32))).bind fun x236 =>
    (am_rc y230.2 v2 9).bind fun b238 =>
    (fX9_sought b238 x232 x233 x234 x235 x236 y230.2).bind fun y237 =>
    if y230.1 = y237.1 then
      (fS_law_1443 rec) v1 v2 v3 y237.2
    else
    am_zr (0 : Int32) y237.2
  else
  if (x2 &&& (31 : Int32)) = (25 : Int32) then
    (am_sl L xs (v3 + (1 : Int32))).bind fun x239 =>
    (am_sl L xs (v3 + (2 : Int32))).bind fun x240 =>
    (am_sl L xs (v3 + (3 : Int32))).bind fun x241 =>
    (am_sl L xs (v3 + (4 : Int32))).bind fun x242 =>
    (am_rc h v1 8).bind fun b244 =>
    (fX8_lost b244 x239 x240 x241 x242 h).bind fun y243 =>
    (am_sl L xs (v3 + (1 : Int32))).bind fun x245 =>
    (am_sl L xs (v3 + (2 : Int32))).bind fun x246 =>
    (am_sl L xs (v3 + (3 : Int32))).bind fun x247 =>
    (am_sl L xs (v3 + (4 : Int32))).bind fun x248 =>
    (am_rc y243.2 v2 9).bind fun b250 =>
    (fX9_lost b250 x245 x246 x247 x248 y243.2).bind fun y249 =>
    if y243.1 = y249.1 then
      (fS_law_1443 rec) v1 v2 v3 y249.2
    else
    am_zr (0 : Int32) y249.2
  else
  if (x2 &&& (31 : Int32)) = (26 : Int32) then
    (am_sl L xs (v3 + (1 : Int32))).bind fun x251 =>
    (am_sl L xs (v3 + (2 : Int32))).bind fun x252 =>
    (am_sl L xs (v3 + (3 : Int32))).bind fun x253 =>
    (am_sl L xs (v3 + (4 : Int32))).bind fun x254 =>
    (am_sl L xs (v3 + (5 : Int32))).bind fun x255 =>
    (am_rc h v1 8).bind fun b257 =>
    (fX8_span b257 x251 x252 x253 x254 x255 h).bind fun y256 =>
    (am_sl L xs (v3 + (1 : Int32))).bind fun x258 =>
    (am_sl L xs (v3 + (2 : Int32))).bind fun x259 =>
    (am_sl L xs (v3 + (3 : Int32))).bind fun x260 =>
    (am_sl L xs (v3 + (4 : Int32))).bind fun x261 =>
    (am_sl L xs (v3 + (5 : Int32))).bind fun x262 =>
    (am_rc y256.2 v2 9).bind fun b264 =>
    (fX9_span b264 x258 x259 x260 x261 x262 y256.2).bind fun y263 =>
    if y256.1 = y263.1 then
      (fS_law_1443 rec) v1 v2 v3 y263.2
    else
    am_zr (0 : Int32) y263.2
  else
  if (x2 &&& (31 : Int32)) = (27 : Int32) then
    (am_sl L xs (v3 + (1 : Int32))).bind fun x265 =>
    (am_sl L xs (v3 + (2 : Int32))).bind fun x266 =>
    (am_sl L xs (v3 + (3 : Int32))).bind fun x267 =>
    (am_sl L xs (v3 + (4 : Int32))).bind fun x268 =>
    (am_sl L xs (v3 + (5 : Int32))).bind fun x269 =>
    (am_rc h v1 8).bind fun b271 =>
    (fX8_record b271 x265 x266 x267 x268 x269 h).bind fun y270 =>
    (am_sl L xs (v3 + (1 : Int32))).bind fun x272 =>
    (am_sl L xs (v3 + (2 : Int32))).bind fun x273 =>
    (am_sl L xs (v3 + (3 : Int32))).bind fun x274 =>
    (am_sl L xs (v3 + (4 : Int32))).bind fun x275 =>
    (am_sl L xs (v3 + (5 : Int32))).bind fun x276 =>
    (am_rc y270.2 v2 9).bind fun b278 =>
    (fX9_record b278 x272 x273 x274 x275 x276 y270.2).bind fun y277 =>
    if y270.1 = y277.1 then
      (fS_law_1443 rec) v1 v2 v3 y277.2
    else
    am_zr (0 : Int32) y277.2
  else
  if (x2 &&& (31 : Int32)) = (28 : Int32) then
    (am_rc h v1 8).bind fun b280 =>
    (fX8_image b280 h).bind fun y279 =>
    (am_rc y279.2 v2 9).bind fun b282 =>
    (fX9_image b282 y279.2).bind fun y281 =>
    if y279.1 = y281.1 then
      (fS_law_1443 rec) v1 v2 v3 y281.2
    else
    am_zr (0 : Int32) y281.2
  else
  if (x2 &&& (31 : Int32)) = (29 : Int32) then
    (am_rc h v1 8).bind fun b284 =>
    (fX8_restore b284 h).bind fun y283 =>
    (am_rc y283.2 v2 9).bind fun b286 =>
    (fX9_restore b286 y283.2).bind fun y285 =>
    if y283.1 = y285.1 then
      (fS_law_1443 rec) v1 v2 v3 y285.2
    else
    am_zr (0 : Int32) y285.2
  else
  if (x2 &&& (31 : Int32)) = (30 : Int32) then
    (am_sl L xs (v3 + (1 : Int32))).bind fun x287 =>
    (am_rc h v1 8).bind fun b289 =>
    (fX8_count b289 x287 h).bind fun y288 =>
    (am_sl L xs (v3 + (1 : Int32))).bind fun x290 =>
    (am_rc y288.2 v2 9).bind fun b292 =>
    (fX9_count b292 x290 y288.2).bind fun y291 =>
    if y288.1 = y291.1 then
      (fS_law_1443 rec) v1 v2 v3 y291.2
    else
    am_zr (0 : Int32) y291.2
  else
  if (x2 &&& (31 : Int32)) = (31 : Int32) then
    (am_rc h v1 8).bind fun b294 =>
    (fX8_digest b294 h).bind fun y293 =>
    (am_rc y293.2 v2 9).bind fun b296 =>
    (fX9_digest b296 y293.2).bind fun y295 =>
    if (lg_cmp y293.1 y295.1) = 0 then
      (fS_law_1443 rec) v1 v2 v3 y295.2
    else
    am_zr (0 : Int32) y295.2
  else
  (fS_law_1443 rec) v1 v2 v3 h
def fS_law_18 (L : Nat) (xs : Nat → Int32) : Nat → Option Nat → Option Nat → Int32 → am_H → Option (Int32 × am_H)
  | 0, _, _, _, _ => none
  | n + 1, v1, v2, v3, h => fS_law_18_b L xs (fS_law_18 L xs n) v1 v2 v3 h
def fS_law (L : Nat) (xs : Nat → Int32) (h : am_H) : Option (Int32 × am_H) :=
  (am_nwo h 8 df_8).bind fun y1 =>
  (fX8_init y1.1 y1.2).bind fun y2 =>
  (am_nwo y2 9 df_9).bind fun y3 =>
  (fX9_init y3.1 y3.2).bind fun y4 =>
  (fS_law_18 L xs am_fu) (some y1.1) (some y3.1) (0 : Int32) y4
