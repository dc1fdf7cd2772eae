/-! the page as a clock, in numbers: how the class reads it, how the reference's machine goes through it -/
abbrev S_O : Type := Option S_K × Nat
def cdN (L : Nat) (c : Nat → Nat) (p : Nat) : Nat := if p < L then c p else 0
def rN2 (L : Nat) (c : Nat → Nat) (lo hi d p : Nat) : Option Nat × Nat :=
  if 0 < d ∧ 48 ≤ cdN L c (p + 1) ∧ cdN L c (p + 1) ≤ 57 ∧ lo ≤ 10 * d + (cdN L c (p + 1) - 48) ∧ 10 * d + (cdN L c (p + 1) - 48) ≤ hi then (some (10 * d + (cdN L c (p + 1) - 48)), p + 2) else if lo ≤ d then (some d, p + 1) else (none, p + 1)
def rN (L : Nat) (c : Nat → Nat) (lo hi p : Nat) : Option Nat × Nat :=
  if 48 ≤ cdN L c p ∧ cdN L c p ≤ 57 ∧ ((lo ≤ cdN L c p - 48 ∧ cdN L c p - 48 ≤ hi) ∨ (0 < cdN L c p - 48 ∧ 10 * (cdN L c p - 48) ≤ hi ∧ lo ≤ 10 * (cdN L c p - 48) + 9)) then rN2 L c lo hi (cdN L c p - 48) p else (none, p)
/-- a number is kept -/
def pgK (w v : Nat) (K : S_K) : S_K :=
  if w = 0 then (kn K, updN (kA K) (kn K) v, kH K, kO K, K.2.2.2.2)
  else if w = 1 then (kn K, kA K, updN (kH K) (kn K) v, kO K, K.2.2.2.2)
  else if w = 2 then (kn K + 1, kA K, kH K, updN (kO K) (kn K) v, K.2.2.2.2)
  else if w = 3 then (kn K, kA K, kH K, kO K, v, kch K, ksu K, knb K, kM K)
  else if w = 4 then (kn K, kA K, kH K, kO K, kca K, v, ksu K, knb K, kM K)
  else if w = 5 then (kn K, kA K, kH K, kO K, kca K, kch K, v, knb K, kM K)
  else (kn K, kA K, kH K, kO K, kca K, kch K, ksu K, knb K + 1, updN (kM K) (knb K) v)
def rVes (L : Nat) (c : Nat → Nat) (K : S_K) (p : Nat) : S_O :=
  match rN L c 1 30 p with
  | (none, p1) => (none, p1)
  | (some a, p1) => if cdN L c p1 = 120 then
      match rN L c 1 60 (p1 + 1) with
      | (none, p2) => (none, p2)
      | (some h, p2) => if cdN L c p2 = 104 then
          match rN L c 1 40 (p2 + 1) with
          | (none, p3) => (none, p3)
          | (some o, p3) => (some (pgK 2 o (pgK 1 h (pgK 0 a K))), p3)
        else (none, p2)
    else (none, p1)
def rVs (L : Nat) (c : Nat → Nat) : Nat → S_K → Nat → S_O
  | 0, K, p => (some K, p)
  | m + 1, K, p => match rVes L c K p with
    | (none, p') => (none, p')
    | (some K', p') => if 1 ≤ m ∧ cdN L c p' = 62 then rVs L c m K' (p' + 1) else (some K', p')
def rCyl (L : Nat) (c : Nat → Nat) (K : S_K) (p : Nat) : S_O :=
  if cdN L c p = 61 then
    match rN L c 1 99 (p + 1) with
    | (none, p1) => (none, p1)
    | (some a, p1) => if cdN L c p1 = 120 then
        match rN L c 1 99 (p1 + 1) with
        | (none, p2) => (none, p2)
        | (some h, p2) => (some (pgK 4 h (pgK 3 a K)), p2)
      else (none, p1)
  else (none, p)
def rSup (L : Nat) (c : Nat → Nat) (K : S_K) (p : Nat) : S_O :=
  if cdN L c p = 59 then
    if cdN L c (p + 1) = 115 then
      match rN L c 0 60 (p + 1 + 1) with
      | (none, p1) => (none, p1)
      | (some a, p1) => (some (pgK 5 a K), p1)
    else (none, p + 1)
  else (none, p)
def mkP (K : S_K) : Nat := if knb K = 0 then 0 else kM K (knb K - 1)
def rMs (L : Nat) (c : Nat → Nat) : Nat → S_K → Nat → S_O
  | 0, K, p => (some K, p)
  | m + 1, K, p => match rN L c (mkP K + 1) 99 p with
    | (none, p') => (none, p')
    | (some x, p') => if 1 ≤ m ∧ x < 99 ∧ cdN L c p' = 44 then rMs L c m (pgK 6 x K) (p' + 1) else (some (pgK 6 x K), p')
def rMks (L : Nat) (c : Nat → Nat) (K : S_K) (p : Nat) : S_O :=
  if cdN L c p = 59 then
    if cdN L c (p + 1) = 109 then rMs L c 12 K (p + 1 + 1) else (none, p + 1)
  else (none, p)
def rThen (q : S_O) (k : S_K → Nat → S_O) : S_O :=
  match q with
  | (none, p) => (none, p)
  | (some K, p) => k K p
def rAll (L : Nat) (c : Nat → Nat) (K : S_K) : S_O := rThen (rVs L c 3 K 0) fun K p => rThen (rCyl L c K p) fun K p => rThen (rSup L c K p) fun K p => rMks L c K p
/-! the reference's machine -/
section PG
variable {L : Nat} {c : Nat → Nat} {p w w' x : Nat} {v v' : Option Nat} {K K' : S_K}
theorem cd_lt (h : ¬ cdN L c p = 0) : p < L ∧ cdN L c p = c p := by
  unfold cdN at h ⊢
  by_cases q : p < L
  · rw [if_pos q]; exact ⟨q, rfl⟩
  · rw [if_neg q] at h; exact absurd rfl h
theorem cd_eq (h : p < L) : cdN L c p = c p := if_pos h
end PG

def K_0 : S_K := (0, fun _ => 0, fun _ => 0, fun _ => 0, 0, 0, 0, 0, fun _ => 0)
