/-! the law writes a clock -/
def ZE (Z Z' : S_Z) : Prop := Z'.1 = Z.1 ∧ Z'.2.1 = Z.2.1 ∧ Z'.2.2.1 = Z.2.2.1 ∧ Z'.2.2.2.1 = Z.2.2.2.1
def PT (Z : S_Z) (l : List Nat) : Prop := zpl Z = l.length ∧ ∀ k, k < l.length → zpc Z k = l.getD k 0
def F40 (I I' : Nat → Nat → Int32) : Prop := ∀ b j, 40 ≤ b → I' b j = I b j
theorem F40.t {I I' I'' : Nat → Nat → Int32} (h : F40 I I') (h' : F40 I' I'') : F40 I I'' := fun b j q => by rw [h' b j q, h b j q]
theorem PT.put {Z : S_Z} {l : List Nat} (h : PT Z l) {c : Nat} (hc : c ≤ 126) : PT (zsL Z (Int32.toInt64 (nI c)) 1) (l ++ [c]) := by
  obtain ⟨h1, h2⟩ := h
  refine ⟨by show zpl Z + 1 = _; rw [List.length_append, h1]; rfl, fun k hk => ?_⟩
  rw [List.length_append] at hk
  have hk : k < l.length + 1 := hk
  show (if k < zpl Z then zpc Z k else byN (Int32.toInt64 (nI c)) (k - zpl Z)) = _
  rw [h1]
  by_cases q : k < l.length
  · rw [if_pos q, h2 k q, List.getD_eq_getElem?_getD, List.getD_eq_getElem?_getD, List.getElem?_append_left q]
  · rw [if_neg q, by_1 (by omega), if_pos (by omega), List.getD_eq_getElem?_getD, List.getElem?_append_right (by omega), show k - l.length = 0 by omega]
    rfl
theorem PT.tx {Z : S_Z} {l : List Nat} (h : PT Z l) : Tx (zpl Z) (zpc Z) 0 l := fun i hi => by
  rw [Nat.zero_add, cd_eq (by rw [h.1]; exact hi), h.2 i hi]
def PW (s : Nat → Option pu_S) (P : Nat → Nat → Option Nat) (n : Nat × Nat) (l : List Nat) (I : Nat → Nat → Int32) : Prop := ∃ Z, Z_B Z ∧ InvC s I P n Z ∧ PT Z l ∧ ZE Z_0 Z
section WR
variable {s : Nat → Option pu_S} {I : Nat → Nat → Int32} {P : Nat → Nat → Option Nat} {J : Nat → Nat → Int64} {n : Nat × Nat}
variable {l : List Nat}
theorem PW.u {k : Nat} {x : Int32} (h : PW s P n l I) (h40 : s 40 = some (1, 0, 26)) : PW s P n l (pu_u I 40 k x) := by
  obtain ⟨Z, h1, h2, h3, h4⟩ := h
  refine ⟨Z, h1, h2.law (Nat.le_refl _) (fun _ _ => rfl) (fun b j _ q => ?_) (fun _ _ _ => rfl), h3, h4⟩
  refine u_n fun e => ?_
  rcases q with q | q
  · omega
  · have := q 26 (by rw [e.1]; exact h40)
    omega
set_option maxHeartbeats 4000000 in
set_option maxRecDepth 100000 in
theorem l_put {c : Nat} (hpw : PW s P n l I) (hc : 1 ≤ c ∧ c ≤ 126) (hl : l.length + 1 ≤ 80) : Rn (fL_put (some 1) (nI c) (pu_hp s I P J n)) fun y => ∃ I', y = (1, pu_hp s I' P J n) ∧ PW s P n (l ++ [c]) I' ∧ F40 I I' := by
  obtain ⟨Z, hZ, h, ht, hz⟩ := hpw
  have hW := h.1
  have e := ltr_1c hc.1 hc.2
  have h80 : zpl Z + 1 ≤ 80 := by rw [ht.1]; exact hl
  unfold fL_put
  rw [rc_b (hW.1 1 _ rfl)]
  refine Rn_bind (c_letters hZ h e h80) ?_
  rintro _ ⟨I', rfl, h', hf⟩
  dsimp only
  rw [if_neg (nI_nle (by omega) (by omega)), zr1]
  exact Rn_some ⟨I', rfl, ⟨_, zsL_B hZ e h80, h', ht.put hc.2, hz⟩, hf⟩
set_option maxHeartbeats 4000000 in
set_option maxRecDepth 100000 in
theorem l_num {v : Nat} (hpw : PW s P n l I) (hv : v < 100) (hl : l.length + 2 ≤ 80) : Rn (fL_number (some 1) (nI v) (pu_hp s I P J n)) fun y => ∃ I', y = (1, pu_hp s I' P J n) ∧ PW s P n (l ++ dg v) I' ∧ F40 I I' := by
  unfold fL_number fL_number_20
  have e1 : nI v - nI v / (10 : Int32) * (10 : Int32) = nI (v % 10) := rem_l (by omega) (by decide) (by decide)
  have e2 : nI v / (10 : Int32) = nI (v / 10) := ni_divl (by omega) (by decide) (by decide)
  have e3 : (48 : Int32) + nI (v % 10) = nI (48 + v % 10) := ni_ladd
  have e4 : (48 : Int32) + nI (v / 10) = nI (48 + v / 10) := ni_ladd
  rw [if_neg (show ¬ (10 : Int32) = 0 by decide), e1, e2, e3, e4]
  by_cases h10 : v < 10
  · have e : dg v = [48 + v % 10] := by unfold dg; rw [if_pos h10, show v % 10 = v by omega]
    rw [if_pos (show nI v < (10 : Int32) from (nI_ltI (b := 10) (by omega) (by omega)).mpr h10)]
    refine Rn_bind (l_put hpw (by omega) (by omega)) ?_
    rintro _ ⟨I', rfl, p, f⟩
    dsimp only
    rw [if_neg (show ¬ (1 : Int32) = 0 by decide), zr1]
    exact Rn_some ⟨I', rfl, by rw [e]; exact p, f⟩
  · have e : dg v = [48 + v / 10, 48 + v % 10] := by unfold dg; rw [if_neg h10]
    rw [if_neg (show ¬ nI v < (10 : Int32) from fun q => h10 ((nI_ltI (b := 10) (by omega) (by omega)).mp q))]
    refine Rn_bind (l_put hpw (by omega) (by omega)) ?_
    rintro _ ⟨I', rfl, p, f⟩
    dsimp only
    rw [if_neg (show ¬ (1 : Int32) = 0 by decide)]
    refine Rn_bind (l_put p (by omega) (by rw [List.length_append]; show l.length + 1 + 1 ≤ 80; omega)) ?_
    rintro _ ⟨I2, rfl, p2, f2⟩
    dsimp only
    rw [if_neg (show ¬ (1 : Int32) = 0 by decide), zr1]
    refine Rn_some ⟨I2, rfl, ?_, f.t f2⟩
    rw [List.append_assoc] at p2
    rw [e]; exact p2
end WR
/-! the numbers that the law's clock has -/
def aL (y v : Nat) : Nat := 1 + ((nI y >>> (nI (4 + 5 * v) &&& 31)) &&& 31).toNatClampNeg % 30
def hL (z v : Nat) : Nat := 1 + ((nI z >>> (nI (6 * v) &&& 31)) &&& 63).toNatClampNeg % 60
def oL (z v : Nat) : Nat := 1 + ((nI z >>> (nI (10 + 6 * v) &&& 31)) &&& 63).toNatClampNeg % 40
def iL (y i : Nat) : Nat := 1 + ((nI y >>> (nI (2 * i) &&& 31)) &&& 15).toNatClampNeg % 8
def mL (y : Nat) : Nat → Nat
  | 0 => 0
  | i + 1 => mL y i + iL y i
def KL (x y z : Nat) : S_K := (1 + x % 3, aL y, hL z, oL z, 1 + x / 4 % (if x % 5 = 0 then 99 else 30), 1 + x / 512 % 99, x / 65536 % 61, 1 + y % 12, fun i => mL y (i + 1))
theorem an_30 (e : Int32) : (1 : Int32) + ((e &&& 31) - (e &&& 31) / 30 * 30) = nI (1 + (e &&& 31).toNatClampNeg % 30) := by
  obtain ⟨k, hk, h⟩ := and_31 e
  rw [h, rem_l (by omega) (by decide) (by decide), nI_clamp (by omega)]; exact ni_ladd
theorem an_60 (e : Int32) : (1 : Int32) + ((e &&& 63) - (e &&& 63) / 60 * 60) = nI (1 + (e &&& 63).toNatClampNeg % 60) := by
  obtain ⟨k, hk, h⟩ := and_63 e
  rw [h, rem_l (by omega) (by decide) (by decide), nI_clamp (by omega)]; exact ni_ladd
theorem an_40 (e : Int32) : (1 : Int32) + ((e &&& 63) - (e &&& 63) / 40 * 40) = nI (1 + (e &&& 63).toNatClampNeg % 40) := by
  obtain ⟨k, hk, h⟩ := and_63 e
  rw [h, rem_l (by omega) (by decide) (by decide), nI_clamp (by omega)]; exact ni_ladd
theorem an_8 (e : Int32) : (1 : Int32) + ((e &&& 15) - (e &&& 15) / 8 * 8) = nI (1 + (e &&& 15).toNatClampNeg % 8) := by
  obtain ⟨k, hk, h⟩ := and_15 e
  rw [h, rem_l (by omega) (by decide) (by decide), nI_clamp (by omega)]; exact ni_ladd
theorem iL_b {y i : Nat} : 1 ≤ iL y i ∧ iL y i ≤ 8 := by
  unfold iL
  have := Nat.mod_lt ((nI y >>> (nI (2 * i) &&& 31)) &&& 15).toNatClampNeg (show 0 < 8 by decide)
  omega
theorem mL_b {y : Nat} : ∀ i, i ≤ mL y i ∧ mL y i ≤ 8 * i
  | 0 => ⟨Nat.le_refl _, Nat.le_refl _⟩
  | i + 1 => by
    have h1 := mL_b (y := y) i
    have h2 := iL_b (y := y) (i := i)
    show i + 1 ≤ mL y i + iL y i ∧ mL y i + iL y i ≤ 8 * (i + 1)
    omega
theorem mL_lt {y i : Nat} : ∀ j, i < j → mL y i < mL y j
  | 0, h => absurd h (Nat.not_lt_zero _)
  | j + 1, h => by
    have h2 := iL_b (y := y) (i := j)
    show mL y i < mL y j + iL y j
    by_cases e : i = j
    · subst e; omega
    · have := mL_lt (y := y) (i := i) j (by omega)
      omega
theorem oL_b {z v : Nat} : oL z v ≤ 40 ∧ 1 ≤ oL z v := by
  unfold oL
  have := Nat.mod_lt ((nI z >>> (nI (10 + 6 * v) &&& 31)) &&& 63).toNatClampNeg (show 0 < 40 by decide)
  omega
theorem KL_B (x y z : Nat) : S_KB (KL x y z) := by
  refine ⟨?_, fun k hk => ⟨?_, ?_, ?_⟩, ?_, ?_, ?_, ?_, fun k hk => ?_, fun i j hij hj => ?_⟩
  · show 1 ≤ 1 + x % 3 ∧ 1 + x % 3 ≤ 3; omega
  · show 1 ≤ aL y k ∧ aL y k ≤ 30
    unfold aL
    have := Nat.mod_lt ((nI y >>> (nI (4 + 5 * k) &&& 31)) &&& 31).toNatClampNeg (show 0 < 30 by decide)
    omega
  · show 1 ≤ hL z k ∧ hL z k ≤ 60
    unfold hL
    have := Nat.mod_lt ((nI z >>> (nI (6 * k) &&& 31)) &&& 63).toNatClampNeg (show 0 < 60 by decide)
    omega
  · show oL z k ≤ 200
    have := oL_b (z := z) (v := k); omega
  · show 1 ≤ 1 + x / 4 % (if x % 5 = 0 then 99 else 30) ∧ 1 + x / 4 % (if x % 5 = 0 then 99 else 30) ≤ 99
    split
    · have := Nat.mod_lt (x / 4) (show 0 < 99 by decide); omega
    · have := Nat.mod_lt (x / 4) (show 0 < 30 by decide); omega
  · show 1 ≤ 1 + x / 512 % 99 ∧ 1 + x / 512 % 99 ≤ 99
    have := Nat.mod_lt (x / 512) (show 0 < 99 by decide); omega
  · show x / 65536 % 61 ≤ 60
    have := Nat.mod_lt (x / 65536) (show 0 < 61 by decide); omega
  · show 1 ≤ 1 + y % 12 ∧ 1 + y % 12 ≤ 12
    have := Nat.mod_lt y (show 0 < 12 by decide); omega
  · have hk : k < 1 + y % 12 := hk
    show 1 ≤ mL y (k + 1) ∧ mL y (k + 1) ≤ 99
    have h1 := mL_b (y := y) (k + 1)
    have := Nat.mod_lt y (show 0 < 12 by decide)
    omega
  · exact mL_lt (y := y) (j + 1) (by omega)
def LKp (I : Nat → Nat → Int32) (K : S_K) (v b : Nat) : Prop := (I 40 0 = nI (kn K) ∧ I 40 1 = nI (kca K) ∧ I 40 2 = nI (kch K) ∧ I 40 3 = nI (ksu K) ∧ I 40 4 = nI (knb K)) ∧ (∀ j, j < v → I 40 (5 + 3 * j) = nI (kA K j) ∧ I 40 (6 + 3 * j) = nI (kH K j) ∧ I 40 (7 + 3 * j) = nI (kO K j)) ∧ ∀ i, i < b → I 40 (14 + i) = nI (kM K i)
theorem LKp.fr {I I' : Nat → Nat → Int32} {K : S_K} {v b : Nat} (h : LKp I K v b) (hf : ∀ j, I' 40 j = I 40 j) : LKp I' K v b := by
  obtain ⟨⟨a1, a2, a3, a4, a5⟩, h2, h3⟩ := h
  exact ⟨⟨by rw [hf, a1], by rw [hf, a2], by rw [hf, a3], by rw [hf, a4], by rw [hf, a5]⟩, fun j hj => by rw [hf, hf, hf]; exact h2 j hj, fun i hi => by rw [hf]; exact h3 i hi⟩
/-- behind the marks: what the law's clock() leaves -/
def CQ (J : Nat → Nat → Int64) (n : Nat × Nat) (r : Int32 × am_H) : Prop := ∃ s' I' P' Z K, r = (1, pu_hp s' I' P' J (n.1 + 6, n.2 + 34)) ∧ Z_B Z ∧ InvC s' I' P' (n.1 + 6, n.2 + 34) Z ∧ s' 40 = some (1, 0, 26) ∧ LK I' K ∧ S_KB K ∧ (znc Z = 1 ∧ zK Z 0 = K) ∧ znf Z = 0 ∧ znw Z = 0 ∧ zT Z = T_0
section CW
variable {s : Nat → Option pu_S} {I : Nat → Nat → Int32} {P : Nat → Nat → Option Nat} {J : Nat → Nat → Int64} {n : Nat × Nat}
variable {x y z : Nat} {l : List Nat}
set_option maxHeartbeats 4000000 in
set_option maxRecDepth 100000 in
theorem l_end (hn : n.1 = 40) (h40 : s 40 = some (1, 0, 26)) (hpw : PW s P n (wA (KL x y z)) I) (hk : LKp I (KL x y z) (kn (KL x y z)) (knb (KL x y z))) : Rn ((am_rc (pu_hp s I P J n) (some 1) 8).bind fun b3 => (fX8_fault b3 (pu_hp s I P J n)).bind fun y2 => (am_rc y2.2 (some 1) 8).bind fun b5 => (fX8_count b5 (3 : Int32) y2.2).bind fun y4 => if y2.1 = y4.1 then (am_rc y4.2 (some 1) 8).bind fun b7 => (fX8_clock b7 y4.2).bind fun y6 => if y6.1 = (0 : Int32) then am_zr (1 : Int32) y6.2 else am_zr (0 : Int32) y6.2 else am_zr (0 : Int32) y4.2) (CQ J n) := by
  obtain ⟨Z, hZ, h, ht, hz1, hz2, hz3, hz4⟩ := hpw
  have hKB := KL_B x y z
  have hO : ∀ v, v < kn (KL x y z) → kO (KL x y z) v ≤ 40 ∧ 1 ≤ kO (KL x y z) v := fun v _ => oL_b
  obtain ⟨K1, g1, g2⟩ := rAll_ok hKB hO ht.tx ht.1
  have hW := h.1
  rw [rc_b (hW.1 1 _ rfl)]
  refine Rn_bind (c_fault hZ h) ?_
  rintro _ ⟨I1, P1, rfl, sf1⟩
  have h1 := sf1.inv h
  have hW1 := h1.1
  dsimp only
  rw [rc_b (hW1.1 1 _ rfl), c_count3 hZ h1]
  dsimp only [Option.bind_some]
  rw [g1, if_pos rfl, rc_b (hW1.1 1 _ rfl)]
  have e0 : znc Z = 0 := congrArg Prod.fst hz1
  have hK1 := g2.B hKB
  refine Rn_bind (c_clock hZ h1 (K := K1) (by rw [g1]) (by rw [g1]) (by omega) hK1 (fun v hv => ?_)) ?_
  · rw [g2.1] at hv
    rw [(g2.2.1 v hv).2.2]; exact (hO v hv).1
  rintro _ ⟨s', I', P', rfl, h', fs, fI⟩
  dsimp only
  rw [e0, if_pos (show nI 0 = (0 : Int32) from rfl), zr1]
  refine Rn_some ⟨s', I', P', _, K1, rfl, zsK_B hZ (by omega) hK1 (fun v hv => ?_), h', by rw [fs _ (by omega) (by omega)]; exact h40, ?_, hK1, ⟨by show znc Z + 1 = 1; omega, by show upG (zK Z) (znc Z) K1 0 = K1; rw [e0, upG_s]⟩, congrArg Prod.fst hz2, congrArg Prod.fst hz3, hz4⟩
  · rw [g2.1] at hv
    rw [(g2.2.1 v hv).2.2]; exact (hO v hv).1
  · refine g2.LK ?_
    have hfr : ∀ j, I' 40 j = I 40 j := fun j => by rw [fI _ _ (by omega) (by omega), sf1.1 _ _ (by unfold scC; omega)]
    obtain ⟨⟨a1, a2, a3, a4, a5⟩, a6, a7⟩ := hk.fr hfr
    exact ⟨a1, a2, a3, a4, a5, a6, a7⟩
def pA (K : S_K) : List Nat := wV K (kn K) ++ (61 :: (dg (kca K) ++ (120 :: (dg (kch K) ++ (59 :: 115 :: (dg (ksu K) ++ [59, 109]))))))
theorem pA_A (K : S_K) : pA K ++ wM K (knb K) = wA K := by
  unfold pA wA
  simp only [List.append_assoc, List.cons_append, List.nil_append]
theorem pA_len {K : S_K} (hK : S_KB K) : (pA K).length ≤ 39 := by
  have h1 := wV_len hK (kn K) (Nat.le_refl _)
  have h2 := hK.1
  have h3 := @dg_len (kca K)
  have h4 := @dg_len (kch K)
  have h5 := @dg_len (ksu K)
  unfold pA
  simp only [List.length_append, List.length_cons, List.length_nil]
  omega
set_option maxHeartbeats 4000000 in
set_option maxRecDepth 100000 in
theorem l_365 (hn : n.1 = 40) (h40 : s 40 = some (1, 0, 26)) : ∀ (m i N : Nat) (I : Nat → Nat → Int32), i + m = knb (KL x y z) → m < N → LKp I (KL x y z) (kn (KL x y z)) i → PW s P n (pA (KL x y z) ++ wM (KL x y z) i) I → Rn (fL_clock_365 N (some 1) (nI y) (0 : Int32) (some 40) (1 : Int32) (nI (mL y i)) (nI i) (pu_hp s I P J n)) (CQ J n) := by
  have hKB := KL_B x y z
  have hnb := hKB.2.2.2.2.2.1
  have hpl := pA_len hKB
  intro m
  induction m with
  | zero =>
    intro i N I him hN hk hpw
    obtain ⟨N, rfl⟩ : ∃ N', N = N' + 1 := ⟨N - 1, by omega⟩
    obtain rfl : i = knb (KL x y z) := by omega
    have e4 := hk.1.2.2.2.2
    rw [pA_A] at hpw
    show Rn (fL_clock_365_b (fL_clock_365 N) _ _ _ _ _ _ _ _) _
    unfold fL_clock_365_b
    rw [al_l (pu_okI h40 (by decide) (by decide)), show I 40 4 = nI (knb (KL x y z)) from e4, if_pos (Int32.le_refl _), if_neg (show ¬ (1 : Int32) = 0 by decide)]
    exact l_end hn h40 hpw hk
  | succ m ih =>
    intro i N I him hN hk hpw
    obtain ⟨N, rfl⟩ : ∃ N', N = N' + 1 := ⟨N - 1, by omega⟩
    have e4 := hk.1.2.2.2.2
    have hml := mL_b (y := y) (i + 1)
    have hwl := @wM_len (KL x y z) i
    have hwl2 : (pA (KL x y z) ++ wM (KL x y z) i).length ≤ 39 + (3 * i - if i = 0 then 0 else 1) := by rw [List.length_append]; omega
    have e1 : nI (mL y i) + ((1 : Int32) + (((nI y >>> (nI (2 * i) &&& 31)) &&& (15 : Int32)) - ((nI y >>> (nI (2 * i) &&& 31)) &&& (15 : Int32)) / (8 : Int32) * (8 : Int32))) = nI (mL y (i + 1)) := by
      rw [an_8, nI_add]; rfl
    have hk2 : LKp (pu_u I 40 (14 + i) (nI (mL y (i + 1)))) (KL x y z) (kn (KL x y z)) (i + 1) := by
      obtain ⟨⟨a1, a2, a3, a4, a5⟩, a6, a7⟩ := hk
      have hkn := hKB.1
      refine ⟨⟨by rw [u_n (by omega)]; exact a1, by rw [u_n (by omega)]; exact a2, by rw [u_n (by omega)]; exact a3, by rw [u_n (by omega)]; exact a4, by rw [u_n (by omega)]; exact a5⟩, fun j hj => by rw [u_n (by omega), u_n (by omega), u_n (by omega)]; exact a6 j hj, fun b hb => ?_⟩
      by_cases e : b = i
      · subst e; rw [u_s]; rfl
      · rw [u_n (by omega)]; exact a7 b (by omega)
    have hpw2 : PW s P n (pA (KL x y z) ++ wM (KL x y z) i) (pu_u I 40 (14 + i) (nI (mL y (i + 1)))) := hpw.u h40
    have fin : ∀ I2, F40 (pu_u I 40 (14 + i) (nI (mL y (i + 1)))) I2 → PW s P n ((pA (KL x y z) ++ wM (KL x y z) i) ++ sepV i 44) I2 → Rn (fL_clock_422 (fL_clock_435 (fL_clock_436 (fL_clock_365 N))) (fL_clock_436 (fL_clock_365 N)) (some 1) (nI y) (0 : Int32) (some 40) (nI (mL y (i + 1))) (nI i) (pu_hp s I2 P J n)) (CQ J n) := by
      intro I2 f2 p2
      unfold fL_clock_422
      refine Rn_bind (l_num p2 (by omega) (by rw [List.length_append, sepV_len]; split at hwl2 <;> split <;> omega)) ?_
      rintro _ ⟨I3, rfl, p3, f3⟩
      dsimp only
      rw [if_neg (show ¬ (1 : Int32) = 0 by decide)]
      unfold fL_clock_436
      rw [nI_1]
      refine ih (i + 1) N I3 (by omega) (by omega) (hk2.fr fun j => by rw [f3 _ _ (by omega), f2 _ _ (by omega)]) ?_
      have e : (pA (KL x y z) ++ wM (KL x y z) i ++ sepV i 44) ++ dg (mL y (i + 1)) = pA (KL x y z) ++ wM (KL x y z) (i + 1) := by
        show _ = pA (KL x y z) ++ (wM (KL x y z) i ++ (sepV i 44 ++ dg (mL y (i + 1))))
        simp only [List.append_assoc]
      rw [← e]; exact p3
    show Rn (fL_clock_365_b (fL_clock_365 N) _ _ _ _ _ _ _ _) _
    unfold fL_clock_365_b
    rw [al_l (pu_okI h40 (by decide) (by decide)), show I 40 4 = nI (knb (KL x y z)) from e4, if_neg (show ¬ nI (knb (KL x y z)) ≤ nI i from fun q => by have := (nI_leI (by omega) (by omega)).mp q; omega), if_neg (show ¬ (8 : Int32) = 0 by decide), show (2 : Int32) * nI i = nI (2 * i) from pk_mul 2 i, e1, show (14 : Int32) + nI i = nI (14 + i) from nI_add 14 i, as_b (pu_okI h40 (by omega) (by omega)), if_neg (show ¬ (1 : Int32) = 0 by decide)]
    by_cases hi0 : i = 0
    · rw [if_pos (show nI i = 0 by rw [hi0]; rfl)]
      refine fin _ (fun _ _ _ => rfl) ?_
      rw [hi0, show sepV 0 44 = [] from rfl, List.append_nil]
      rw [hi0] at hpw2
      exact hpw2
    · rw [if_neg (nI_ne0 (by omega) (by omega))]
      refine Rn_bind (l_put (c := 44) hpw2 (by omega) (by rw [if_neg hi0] at hwl2; omega)) ?_
      rintro _ ⟨I3, rfl, p3, f3⟩
      dsimp only
      rw [if_neg (show ¬ (1 : Int32) = 0 by decide)]
      refine fin I3 f3 ?_
      rw [show sepV i 44 = [44] from if_neg hi0]
      exact p3
set_option maxHeartbeats 4000000 in
set_option maxRecDepth 100000 in
theorem l_179 (hn : n.1 = 40) (h40 : s 40 = some (1, 0, 26)) {v N : Nat} (hv : v < kn (KL x y z)) {l : List Nat} (hl : l.length ≤ 28) (hk : LKp I (KL x y z) (v + 1) 0) (hpw : PW s P n l I) {Q : Int32 × am_H → Prop} (kk : ∀ I', LKp I' (KL x y z) (v + 1) 0 → PW s P n (l ++ tV (KL x y z) v) I' → Rn (fL_clock_73 N (some 1) (nI y) (nI z) (0 : Int32) (some 40) (1 : Int32) (nI (v + 1)) (pu_hp s I' P J n)) Q) : Rn (fL_clock_179 (fL_clock_251 (fL_clock_252 (fL_clock_73 N))) (fL_clock_252 (fL_clock_73 N)) (some 1) (nI y) (nI z) (0 : Int32) (some 40) (nI v) (pu_hp s I P J n)) Q := by
  have hKB := KL_B x y z
  have hkn := hKB.1
  obtain ⟨a1, a2, -⟩ := hKB.2.1 v hv
  have hO : kO (KL x y z) v ≤ 40 := oL_b.1
  have d1 := @dg_len (kA (KL x y z) v)
  have d2 := @dg_len (kH (KL x y z) v)
  obtain ⟨eA, -, -⟩ := hk.2.1 v (by omega)
  unfold fL_clock_179
  rw [show (5 : Int32) + ((3 : Int32) * nI v) = nI (5 + 3 * v) from by rw [show (3 : Int32) * nI v = nI (3 * v) from pk_mul 3 v]; exact nI_add 5 _, al_b (pu_okI h40 (by omega) (by omega)), eA]
  refine Rn_bind (l_num hpw (by omega) (by omega)) ?_
  rintro _ ⟨I1, rfl, p1, f1⟩
  dsimp only
  rw [if_neg (show ¬ (1 : Int32) = 0 by decide)]
  refine Rn_bind (l_put (c := 120) p1 (by omega) (by rw [List.length_append]; omega)) ?_
  rintro _ ⟨I2, rfl, p2, f2⟩
  dsimp only
  have hk2 := hk.fr (I' := I2) fun j => by rw [f2 _ _ (by omega), f1 _ _ (by omega)]
  obtain ⟨-, eH, -⟩ := hk2.2.1 v (by omega)
  rw [if_neg (show ¬ (1 : Int32) = 0 by decide), show (6 : Int32) + ((3 : Int32) * nI v) = nI (6 + 3 * v) from by rw [show (3 : Int32) * nI v = nI (3 * v) from pk_mul 3 v]; exact nI_add 6 _, al_b (pu_okI h40 (by omega) (by omega)), eH]
  refine Rn_bind (l_num p2 (by omega) (by simp only [List.length_append, List.length_cons, List.length_nil]; omega)) ?_
  rintro _ ⟨I3, rfl, p3, f3⟩
  dsimp only
  rw [if_neg (show ¬ (1 : Int32) = 0 by decide)]
  refine Rn_bind (l_put (c := 104) p3 (by omega) (by simp only [List.length_append, List.length_cons, List.length_nil]; omega)) ?_
  rintro _ ⟨I4, rfl, p4, f4⟩
  dsimp only
  have hk4 := hk2.fr (I' := I4) fun j => by rw [f4 _ _ (by omega), f3 _ _ (by omega)]
  obtain ⟨-, -, eO⟩ := hk4.2.1 v (by omega)
  rw [if_neg (show ¬ (1 : Int32) = 0 by decide), show (7 : Int32) + ((3 : Int32) * nI v) = nI (7 + 3 * v) from by rw [show (3 : Int32) * nI v = nI (3 * v) from pk_mul 3 v]; exact nI_add 7 _, al_b (pu_okI h40 (by omega) (by omega)), eO]
  refine Rn_bind (l_num p4 (by omega) (by simp only [List.length_append, List.length_cons, List.length_nil]; omega)) ?_
  rintro _ ⟨I5, rfl, p5, f5⟩
  dsimp only
  rw [if_neg (show ¬ (1 : Int32) = 0 by decide)]
  unfold fL_clock_252
  rw [nI_1]
  refine kk I5 (hk4.fr fun j => f5 _ _ (by omega)) ?_
  have e : l ++ dg (kA (KL x y z) v) ++ [120] ++ dg (kH (KL x y z) v) ++ [104] ++ dg (kO (KL x y z) v) = l ++ tV (KL x y z) v := by
    unfold tV
    simp only [List.append_assoc, List.cons_append, List.nil_append]
  rw [← e]; exact p5
set_option maxHeartbeats 4000000 in
set_option maxRecDepth 100000 in
theorem l_73 (hn : n.1 = 40) (h40 : s 40 = some (1, 0, 26)) : ∀ (m v N : Nat) (I : Nat → Nat → Int32), v + m = kn (KL x y z) → m < N → LKp I (KL x y z) v 0 → PW s P n (wV (KL x y z) v) I → Rn (fL_clock_73 N (some 1) (nI y) (nI z) (0 : Int32) (some 40) (1 : Int32) (nI v) (pu_hp s I P J n)) (CQ J n) := by
  have hKB := KL_B x y z
  have hkn := hKB.1
  intro m
  induction m with
  | zero =>
    intro v N I hvm hN hk hpw
    obtain ⟨N, rfl⟩ : ∃ N', N = N' + 1 := ⟨N - 1, by omega⟩
    obtain rfl : v = kn (KL x y z) := by omega
    have hwl := wV_len hKB (kn (KL x y z)) (Nat.le_refl _)
    have d1 := @dg_len (kca (KL x y z))
    have d2 := @dg_len (kch (KL x y z))
    have d3 := @dg_len (ksu (KL x y z))
    have hca := hKB.2.2.1
    have hch := hKB.2.2.2.1
    have hsu : ksu (KL x y z) ≤ 60 := hKB.2.2.2.2.1
    obtain ⟨⟨e0, e1, e2, e3, e4⟩, -, -⟩ := id hk
    show Rn (fL_clock_73_b (fL_clock_73 N) _ _ _ _ _ _ _ _) _
    unfold fL_clock_73_b
    rw [al_l (pu_okI h40 (by decide) (by decide)), show I 40 0 = nI (kn (KL x y z)) from e0, if_pos (Int32.le_refl _), if_neg (show ¬ (1 : Int32) = 0 by decide)]
    refine Rn_bind (l_put (c := 61) hpw (by omega) (by omega)) ?_
    rintro _ ⟨I1, rfl, p1, f1⟩
    dsimp only
    rw [if_neg (show ¬ (1 : Int32) = 0 by decide), al_l (pu_okI h40 (by decide) (by decide)), show I1 40 1 = nI (kca (KL x y z)) from by rw [f1 _ _ (by omega), e1]]
    refine Rn_bind (l_num p1 (by omega) (by simp only [List.length_append, List.length_cons, List.length_nil]; omega)) ?_
    rintro _ ⟨I2, rfl, p2, f2⟩
    dsimp only
    rw [if_neg (show ¬ (1 : Int32) = 0 by decide)]
    refine Rn_bind (l_put (c := 120) p2 (by omega) (by simp only [List.length_append, List.length_cons, List.length_nil]; omega)) ?_
    rintro _ ⟨I3, rfl, p3, f3⟩
    dsimp only
    have f13 := (f1.t f2).t f3
    rw [if_neg (show ¬ (1 : Int32) = 0 by decide), al_l (pu_okI h40 (by decide) (by decide)), show I3 40 2 = nI (kch (KL x y z)) from by rw [f13 _ _ (by omega), e2]]
    refine Rn_bind (l_num p3 (by omega) (by simp only [List.length_append, List.length_cons, List.length_nil]; omega)) ?_
    rintro _ ⟨I4, rfl, p4, f4⟩
    dsimp only
    rw [if_neg (show ¬ (1 : Int32) = 0 by decide)]
    refine Rn_bind (l_put (c := 59) p4 (by omega) (by simp only [List.length_append, List.length_cons, List.length_nil]; omega)) ?_
    rintro _ ⟨I5, rfl, p5, f5⟩
    dsimp only
    rw [if_neg (show ¬ (1 : Int32) = 0 by decide)]
    refine Rn_bind (l_put (c := 115) p5 (by omega) (by simp only [List.length_append, List.length_cons, List.length_nil]; omega)) ?_
    rintro _ ⟨I6, rfl, p6, f6⟩
    dsimp only
    have f16 := ((f13.t f4).t f5).t f6
    rw [if_neg (show ¬ (1 : Int32) = 0 by decide), al_l (pu_okI h40 (by decide) (by decide)), show I6 40 3 = nI (ksu (KL x y z)) from by rw [f16 _ _ (by omega), e3]]
    refine Rn_bind (l_num p6 (by omega) (by simp only [List.length_append, List.length_cons, List.length_nil]; omega)) ?_
    rintro _ ⟨I7, rfl, p7, f7⟩
    dsimp only
    rw [if_neg (show ¬ (1 : Int32) = 0 by decide)]
    refine Rn_bind (l_put (c := 59) p7 (by omega) (by simp only [List.length_append, List.length_cons, List.length_nil]; omega)) ?_
    rintro _ ⟨I8, rfl, p8, f8⟩
    dsimp only
    rw [if_neg (show ¬ (1 : Int32) = 0 by decide)]
    refine Rn_bind (l_put (c := 109) p8 (by omega) (by simp only [List.length_append, List.length_cons, List.length_nil]; omega)) ?_
    rintro _ ⟨I9, rfl, p9, f9⟩
    dsimp only
    have f19 := ((f16.t f7).t f8).t f9
    rw [if_neg (show ¬ (1 : Int32) = 0 by decide)]
    unfold fL_clock_357
    refine l_365 hn h40 (knb (KL x y z)) 0 am_fu I9 (by omega) (by have := hKB.2.2.2.2.2.1; unfold am_fu; omega) (hk.fr fun j => f19 _ _ (by omega)) ?_
    have e : wV (KL x y z) (kn (KL x y z)) ++ [61] ++ dg (kca (KL x y z)) ++ [120] ++ dg (kch (KL x y z)) ++ [59] ++ [115] ++ dg (ksu (KL x y z)) ++ [59] ++ [109] = pA (KL x y z) ++ wM (KL x y z) 0 := by
      unfold pA wM
      simp only [List.append_assoc, List.cons_append, List.nil_append, List.append_nil]
    rw [← e]; exact p9
  | succ m ih =>
    intro v N I hvm hN hk hpw
    obtain ⟨N, rfl⟩ : ∃ N', N = N' + 1 := ⟨N - 1, by omega⟩
    have hwl := wV_len hKB v (by omega)
    obtain ⟨⟨e0, e1, e2, e3, e4⟩, e5, e6⟩ := id hk
    have hk2 : LKp (pu_u (pu_u (pu_u I 40 (5 + 3 * v) (nI (aL y v))) 40 (6 + 3 * v) (nI (hL z v))) 40 (7 + 3 * v) (nI (oL z v))) (KL x y z) (v + 1) 0 := by
      refine ⟨⟨by rw [u_n (by omega), u_n (by omega), u_n (by omega)]; exact e0, by rw [u_n (by omega), u_n (by omega), u_n (by omega)]; exact e1, by rw [u_n (by omega), u_n (by omega), u_n (by omega)]; exact e2, by rw [u_n (by omega), u_n (by omega), u_n (by omega)]; exact e3, by rw [u_n (by omega), u_n (by omega), u_n (by omega)]; exact e4⟩, fun j hj => ?_, fun i hi => absurd hi (Nat.not_lt_zero i)⟩
      by_cases e : j = v
      · subst e
        refine ⟨?_, ?_, ?_⟩
        · rw [u_n (by omega), u_n (by omega), u_s]; rfl
        · rw [u_n (by omega), u_s]; rfl
        · rw [u_s]; rfl
      · rw [u_n (by omega), u_n (by omega), u_n (by omega), u_n (by omega), u_n (by omega), u_n (by omega), u_n (by omega), u_n (by omega), u_n (by omega)]
        exact e5 j (by omega)
    have hpw2 := (((hpw.u (k := 5 + 3 * v) (x := nI (aL y v)) h40).u (k := 6 + 3 * v) (x := nI (hL z v)) h40).u (k := 7 + 3 * v) (x := nI (oL z v)) h40)
    have fin : ∀ I2, F40 (pu_u (pu_u (pu_u I 40 (5 + 3 * v) (nI (aL y v))) 40 (6 + 3 * v) (nI (hL z v))) 40 (7 + 3 * v) (nI (oL z v))) I2 → PW s P n (wV (KL x y z) v ++ sepV v 62) I2 → Rn (fL_clock_179 (fL_clock_251 (fL_clock_252 (fL_clock_73 N))) (fL_clock_252 (fL_clock_73 N)) (some 1) (nI y) (nI z) (0 : Int32) (some 40) (nI v) (pu_hp s I2 P J n)) (CQ J n) := by
      intro I2 f2 p2
      refine l_179 hn h40 (by omega) (by rw [List.length_append, sepV_len]; split <;> omega) (hk2.fr fun j => f2 _ _ (by omega)) p2 (fun I3 k3 p3 => ih (v + 1) N I3 (by omega) (by omega) k3 ?_)
      rw [List.append_assoc] at p3
      exact p3
    show Rn (fL_clock_73_b (fL_clock_73 N) _ _ _ _ _ _ _ _) _
    unfold fL_clock_73_b
    rw [al_l (pu_okI h40 (by decide) (by decide)), show I 40 0 = nI (kn (KL x y z)) from e0, if_neg (show ¬ nI (kn (KL x y z)) ≤ nI v from fun q => by have := (nI_leI (by omega) (by omega)).mp q; omega), if_neg (show ¬ (30 : Int32) = 0 by decide)]
    rw [show (3 : Int32) * nI v = nI (3 * v) from pk_mul 3 v, show (5 : Int32) * nI v = nI (5 * v) from pk_mul 5 v, show (6 : Int32) * nI v = nI (6 * v) from pk_mul 6 v, show (5 : Int32) + nI (3 * v) = nI (5 + 3 * v) from nI_add 5 _, show (6 : Int32) + nI (3 * v) = nI (6 + 3 * v) from nI_add 6 _, show (7 : Int32) + nI (3 * v) = nI (7 + 3 * v) from nI_add 7 _, show (4 : Int32) + nI (5 * v) = nI (4 + 5 * v) from nI_add 4 _, show (10 : Int32) + nI (6 * v) = nI (10 + 6 * v) from nI_add 10 _, an_30, an_60, an_40]
    rw [as_b (pu_okI h40 (by omega) (by omega)), if_neg (show ¬ (60 : Int32) = 0 by decide), as_b (pu_okI h40 (by omega) (by omega)), if_neg (show ¬ (40 : Int32) = 0 by decide), as_b (pu_okI h40 (by omega) (by omega)), if_neg (show ¬ (1 : Int32) = 0 by decide)]
    by_cases hv0 : v = 0
    · rw [if_pos (show nI v = 0 by rw [hv0]; rfl)]
      refine fin _ (fun _ _ _ => rfl) ?_
      rw [show sepV v 62 = [] from if_pos hv0, List.append_nil]
      exact hpw2
    · rw [if_neg (nI_ne0 (by omega) (by omega))]
      refine Rn_bind (l_put (c := 62) hpw2 (by omega) (by omega)) ?_
      rintro _ ⟨I3, rfl, p3, f3⟩
      dsimp only
      rw [if_neg (show ¬ (1 : Int32) = 0 by decide)]
      refine fin I3 f3 ?_
      rw [show sepV v 62 = [62] from if_neg hv0]
      exact p3
set_option maxHeartbeats 4000000 in
set_option maxRecDepth 100000 in
theorem l_29 (hn : n.1 = 40) (h40 : s 40 = some (1, 0, 26)) (hx : x < 2147483648) (hy : y < 2147483648) (e0 : I 40 0 = nI (1 + x % 3)) (hpw : PW s P n [] I) {d : Nat} (hd : d = if x % 5 = 0 then 99 else 30) : Rn (fL_clock_29 (some 1) (nI x) (nI y) (nI z) (0 : Int32) (some 40) (some 40) (1 : Int32) (1 : Int32) (nI (x / 4)) (nI d) (pu_hp s I P J n)) (CQ J n) := by
  have hd2 : 0 < d ∧ d ≤ 99 := by rw [hd]; split <;> omega
  have q4 : x / 4 ≤ x := Nat.div_le_self _ _
  have q5 : x / 512 ≤ x := Nat.div_le_self _ _
  have q6 : x / 65536 ≤ x := Nat.div_le_self _ _
  unfold fL_clock_29
  rw [if_neg (nI_ne0 hd2.1 (by omega)), rem_n (by omega) hd2.1 (by omega), show (1 : Int32) + nI (x / 4 % d) = nI (1 + x / 4 % d) from nI_add 1 _, as_l (pu_okI h40 (by decide) (by decide)), if_neg (show ¬ (512 : Int32) = 0 by decide), if_neg (show ¬ (99 : Int32) = 0 by decide), ni_divl (n := 512) hx (by decide) (by decide), rem_l (n := 99) (Nat.lt_of_le_of_lt (Nat.div_le_self _ _) hx) (by decide) (by decide), show (1 : Int32) + nI (x / 512 % 99) = nI (1 + x / 512 % 99) from nI_add 1 _, as_l (pu_okI h40 (by decide) (by decide)), if_neg (show ¬ (65536 : Int32) = 0 by decide), if_neg (show ¬ (61 : Int32) = 0 by decide), ni_divl (n := 65536) hx (by decide) (by decide), rem_l (n := 61) (Nat.lt_of_le_of_lt (Nat.div_le_self _ _) hx) (by decide) (by decide), as_l (pu_okI h40 (by decide) (by decide)), if_neg (show ¬ (12 : Int32) = 0 by decide), rem_l (n := 12) hy (by decide) (by decide), show (1 : Int32) + nI (y % 12) = nI (1 + y % 12) from nI_add 1 _, as_l (pu_okI h40 (by decide) (by decide))]
  rw [show (0 : Int32) = nI 0 from rfl]
  have hkn := (KL_B x y z).1
  refine l_73 (x := x) hn h40 (kn (KL x y z)) 0 am_fu _ (by omega) (by unfold am_fu; omega) ⟨⟨?_, ?_, ?_, ?_, ?_⟩, fun j hj => absurd hj (Nat.not_lt_zero j), fun j hj => absurd hj (Nat.not_lt_zero j)⟩ ((((hpw.u h40).u h40).u h40).u h40)
  · rw [u_n (by decide), u_n (by decide), u_n (by decide), u_n (by decide)]; exact e0
  · rw [u_n (by decide), u_n (by decide), u_n (by decide), u_s, hd]; rfl
  · rw [u_n (by decide), u_n (by decide), u_s]; rfl
  · rw [u_n (by decide), u_s]; rfl
  · rw [u_s]; rfl
set_option maxHeartbeats 4000000 in
set_option maxRecDepth 100000 in
theorem l_clock (hn : n.1 = 40) (h40 : s 40 = some (1, 0, 26)) (hx : x < 2147483648) (hy : y < 2147483648) (h : InvC s I P n Z_0) : Rn (fL_clock (some 1) (nI x) (nI y) (nI z) (0 : Int32) (some 40) (pu_hp s I P J n)) (CQ J n) := by
  have hpw : PW s P n [] I := ⟨Z_0, Z0_B, h, ⟨rfl, fun k hk => absurd hk (Nat.not_lt_zero k)⟩, rfl, rfl, rfl, rfl⟩
  unfold fL_clock
  rw [if_neg (show ¬ (3 : Int32) = 0 by decide), rem_l (n := 3) hx (by decide) (by decide), show (1 : Int32) + nI (x % 3) = nI (1 + x % 3) from nI_add 1 _, show (0 : Int32) = nI 0 from rfl, as_b (pu_okI h40 (by decide) (by decide)), if_neg (show ¬ (4 : Int32) = nI 0 by decide), if_neg (show ¬ (5 : Int32) = nI 0 by decide), ni_divl (n := 4) hx (by decide) (by decide), rem_l (n := 5) hx (by decide) (by decide)]
  by_cases c : x % 5 = 0
  · rw [if_pos (by rw [c])]
    exact l_29 (d := 99) hn h40 hx hy u_s (hpw.u h40) (by rw [if_pos c])
  · rw [if_neg (fun q => c ((nI_eq (by omega) (by omega)).mp q))]
    exact l_29 (d := 30) hn h40 hx hy u_s (hpw.u h40) (by rw [if_neg c])
end CW
