/-! the class's Run against the spec -/
def S_CS (s : Nat → Option pu_S) (P : Nat → Nat → Option Nat) (c : Nat) : Prop := s c = some (0, 0, 0) ∧ s (c + 1) = some (1, 0, 3) ∧ s (c + 2) = some (1, 0, 3) ∧ s (c + 3) = some (1, 0, 3) ∧ s (c + 4) = some (1, 0, 3) ∧ s (c + 5) = some (1, 0, 12) ∧ P c 1 = some (c + 1) ∧ P c 2 = some (c + 2) ∧ P c 3 = some (c + 3) ∧ P c 4 = some (c + 4) ∧ P c 9 = some (c + 5)
def S_CI (I : Nat → Nat → Int32) (c : Nat) (K : S_K) : Prop := I c 0 = nI (kn K) ∧ I c 5 = nI (kca K) ∧ I c 6 = nI (kch K) ∧ I c 7 = nI (ksu K) ∧ I c 8 = nI (knb K) ∧ (∀ k, I (c + 1) k = nI (kA K k)) ∧ (∀ k, I (c + 2) k = nI (kH K k)) ∧ (∀ k, I (c + 3) k = nI (kO K k)) ∧ (∀ k, k < kn K → I (c + 4) k = nI (kA K k * kH K k)) ∧ ∀ k, I (c + 5) k = nI (kM K k)
def S_FI (I : Nat → Nat → Int32) (f : Nat) (F : S_F) : Prop := I f 0 = nI F.1 ∧ I f 1 = nI F.2.1 ∧ I f 2 = nI F.2.2.1 ∧ I f 3 = nI F.2.2.2
def S_RS (s : Nat → Option pu_S) (P : Nat → Nat → Option Nat) (r c f : Nat) : Prop := s r = some (0, 5, 0) ∧ s (r + 1) = some (1, 0, 3) ∧ s (r + 2) = some (1, 0, 12) ∧ P r 4 = some (r + 1) ∧ P r 11 = some (r + 2) ∧ P r 0 = some c ∧ P r 1 = some f ∧ s f = some (0, 2, 0) ∧ (c + 5 < r ∨ r + 2 < c) ∧ (f < r ∨ r + 2 < f)
def zR (z0 : Nat → Int32) (wm t : Nat) (X : S_X) (k : Nat) : Int32 := if k = 2 then nI wm else if k = 3 then nI t else if k = 5 then nI (xcy X) else if k = 6 then nI (xpo X) else if k = 7 then nI (xov X) else if k = 8 then nI (xle X) else if k = 9 then nI (xem X) else if k = 10 then nI (xdr X) else if k = 12 then nI (xli X) else if k = 13 then nI (xmo X) else z0 k
def dR (X : S_X) (b : Nat) : Int32 := if b < xdr X then nI (xD X b) else -1
def wR (X : S_X) (k : Nat) : Int32 := nI (xW X k)
def iR (I : Nat → Nat → Int32) (r wm t : Nat) (X : S_X) : Nat → Nat → Int32 := pu_row (pu_row (pu_row I (r + 1) (wR X)) (r + 2) (dR X)) r (zR (I r) wm t X)
section RU
variable {s : Nat → Option pu_S} {I : Nat → Nat → Int32} {P : Nat → Nat → Option Nat} {J : Nat → Nat → Int64} {n : Nat × Nat} {r c f : Nat} {K : S_K} {F : S_F}
variable {z0 : Nat → Int32} {wm t W0 cy po ov le em dr li mo y : Nat} {W D : Nat → Nat}
theorem zR_3 : upd (zR z0 wm t (W, cy, po, ov, le, em, dr, D, li, mo)) 3 (nI y) = zR z0 wm y (W, cy, po, ov, le, em, dr, D, li, mo) := by
  funext k; simp only [upd, zR, xcy, xpo, xov, xle, xem, xdr, xli, xmo]; by_cases h : k = 3 <;> simp [h]
theorem zR_5 : upd (zR z0 wm t (W, cy, po, ov, le, em, dr, D, li, mo)) 5 (nI y) = zR z0 wm t (W, y, po, ov, le, em, dr, D, li, mo) := by
  funext k; simp only [upd, zR, xcy, xpo, xov, xle, xem, xdr, xli, xmo]; by_cases h : k = 5 <;> simp [h]
theorem zR_6 : upd (zR z0 wm t (W, cy, po, ov, le, em, dr, D, li, mo)) 6 (nI y) = zR z0 wm t (W, cy, y, ov, le, em, dr, D, li, mo) := by
  funext k; simp only [upd, zR, xcy, xpo, xov, xle, xem, xdr, xli, xmo]; by_cases h : k = 6 <;> simp [h]
theorem zR_7 : upd (zR z0 wm t (W, cy, po, ov, le, em, dr, D, li, mo)) 7 (nI y) = zR z0 wm t (W, cy, po, y, le, em, dr, D, li, mo) := by
  funext k; simp only [upd, zR, xcy, xpo, xov, xle, xem, xdr, xli, xmo]; by_cases h : k = 7 <;> simp [h]
theorem zR_8 : upd (zR z0 wm t (W, cy, po, ov, le, em, dr, D, li, mo)) 8 (nI y) = zR z0 wm t (W, cy, po, ov, y, em, dr, D, li, mo) := by
  funext k; simp only [upd, zR, xcy, xpo, xov, xle, xem, xdr, xli, xmo]; by_cases h : k = 8 <;> simp [h]
theorem zR_9 : upd (zR z0 wm t (W, cy, po, ov, le, em, dr, D, li, mo)) 9 (nI y) = zR z0 wm t (W, cy, po, ov, le, y, dr, D, li, mo) := by
  funext k; simp only [upd, zR, xcy, xpo, xov, xle, xem, xdr, xli, xmo]; by_cases h : k = 9 <;> simp [h]
theorem zR_10 : upd (zR z0 wm t (W, cy, po, ov, le, em, dr, D, li, mo)) 10 (nI y) = zR z0 wm t (W, cy, po, ov, le, em, y, D, li, mo) := by
  funext k; simp only [upd, zR, xcy, xpo, xov, xle, xem, xdr, xli, xmo]; by_cases h : k = 10 <;> simp [h]
theorem zR_12 : upd (zR z0 wm t (W, cy, po, ov, le, em, dr, D, li, mo)) 12 (nI y) = zR z0 wm t (W, cy, po, ov, le, em, dr, D, y, mo) := by
  funext k; simp only [upd, zR, xcy, xpo, xov, xle, xem, xdr, xli, xmo]; by_cases h : k = 12 <;> simp [h]
theorem zR_13 : upd (zR z0 wm t (W, cy, po, ov, le, em, dr, D, li, mo)) 13 (nI y) = zR z0 wm t (W, cy, po, ov, le, em, dr, D, li, y) := by
  funext k; simp only [upd, zR, xcy, xpo, xov, xle, xem, xdr, xli, xmo]; by_cases h : k = 13 <;> simp [h]
theorem wR_u {k : Nat} : upd (wR (W, cy, po, ov, le, em, dr, D, li, mo)) k (nI y) = wR (updN W k y, cy, po, ov, le, em, dr, D, li, mo) := by
  funext j; simp only [upd, wR, xW, updN]; by_cases h : j = k <;> simp [h]
theorem nI_min {a b : Nat} (ha : a < 2147483648) (hb : b < 2147483648) : (if nI b < nI a then nI b else nI a) = nI (min a b) := by
  by_cases h : b < a
  · rw [if_pos ((nI_ltI hb ha).mpr h), Nat.min_eq_right (by omega)]
  · rw [if_neg (fun q => h ((nI_ltI hb ha).mp q)), Nat.min_eq_left (by omega)]
theorem nI_max {a b : Nat} (ha : a < 2147483648) (hb : b < 2147483648) : (if nI a < nI b then nI b else nI a) = nI (max a b) := by
  by_cases h : a < b
  · rw [if_pos ((nI_ltI ha hb).mpr h), Nat.max_eq_right (by omega)]
  · rw [if_neg (fun q => h ((nI_ltI ha hb).mp q)), Nat.max_eq_left (by omega)]
theorem pk_z {a b : Nat} (ha : a < 1073741824) (hb : b < 1073741824) : (if nI 0 < nI a - nI b then nI a - nI b else nI 0) = nI (a - b) := by
  by_cases h : b < a
  · rw [pk_sub (by omega), if_pos ((nI_ltI (by omega) (by omega)).mpr (by omega))]
  · rw [if_neg, show a - b = 0 by omega]
    intro q
    rw [nI_0, Int32.lt_iff_toInt_lt, pk_sub_toInt (by omega) (by omega)] at q
    have h0 : (0 : Int32).toInt = 0 := by decide
    omega
theorem L0 : (0 : Int32) = nI 0 := rfl
theorem L1 : (1 : Int32) = nI 1 := rfl
theorem L2 : (2 : Int32) = nI 2 := rfl
theorem L3 : (3 : Int32) = nI 3 := rfl
theorem L4 : (4 : Int32) = nI 4 := rfl
theorem sp_hole_N (hF : S_FB F) (hf : S_FI I f F) {ho v t : Nat} (h1 : ho ≤ 200) (h2 : v < 3) (h3 : t < 96) : sp_hole (I f) (nI ho) (nI v) (nI t) = nI (S_hole F ho v t) := by
  obtain ⟨b1, b2, b3, b4⟩ := hF
  obtain ⟨e1, e2, e3, e4⟩ := hf
  unfold sp_hole S_hole
  rw [e1, e2, e3, e4, L0, L1, L2, pk_z (by omega) (by omega), nI_add]
  simp (disch := omega) only [nI_eq, nI_leI, nI_ltI]
  by_cases c1 : F.2.1 = v <;> by_cases c2 : F.2.2.2 ≤ t <;> by_cases c3 : F.1 = 1 <;> by_cases c4 : F.1 = 2 <;> simp [c1, c2, c3, c4]
theorem sp_warm_N (hF : S_FB F) (hf : S_FI I f F) {w t : Nat} (h1 : 50 ≤ w ∧ w ≤ 150) (h3 : t < 96) : sp_warm (I f) (nI w) (nI t) = nI (S_warm F w t) := by
  obtain ⟨b1, b2, b3, b4⟩ := hF
  obtain ⟨e1, e2, e3, e4⟩ := hf
  unfold sp_warm S_warm
  rw [e1, e3, e4, L4, pk_sub (by omega)]
  simp (disch := omega) only [nI_eq, nI_leI, nI_ltI]
  by_cases c1 : F.1 = 4 <;> by_cases c2 : t < F.2.2.2 <;> simp [c1, c2, Nat.not_le.mpr, Nat.not_lt.mp] <;> omega
theorem sp_leak_N (hF : S_FB F) (hf : S_FI I f F) {t : Nat} (h3 : t < 96) : sp_leak (I f) (nI t) = nI (S_leak F t) := by
  obtain ⟨b1, b2, b3, b4⟩ := hF
  obtain ⟨e1, e2, e3, e4⟩ := hf
  unfold sp_leak S_leak
  rw [e1, e3, e4, L3, L0]
  simp (disch := omega) only [nI_eq, nI_leI, nI_ltI]
  by_cases c1 : F.1 = 3 <;> by_cases c2 : t < F.2.2.2 <;> simp [c1, c2, Nat.not_le.mpr, Nat.not_lt.mp] <;> omega
theorem sp_q_N {a b : Nat} (hb : 1 ≤ b) (ha : a < 2147483648) (hb2 : b < 2147483648) : sp_q (nI a) (nI b) = nI (a / b) := by
  unfold sp_q
  rw [L1, if_pos ((nI_leI (by omega) hb2).mpr hb), pk_div ha (by omega) hb2]
end RU
