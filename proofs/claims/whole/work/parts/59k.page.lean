/-! the page as a clock, in numbers: how the class reads it, how the reference's machine goes through it -/
abbrev S_G : Type := Nat × Option Nat × S_K × Nat
abbrev S_O : Type := Option S_K × Nat
def cdN (L : Nat) (c : Nat → Nat) (p : Nat) : Nat := if p < L then c p else 0
def rN2 (L : Nat) (c : Nat → Nat) (lo hi d p : Nat) : Option Nat × Nat :=
  if 0 < d ∧ 48 ≤ cdN L c (p + 1) ∧ cdN L c (p + 1) ≤ 57 ∧ lo ≤ 10 * d + (cdN L c (p + 1) - 48) ∧ 10 * d + (cdN L c (p + 1) - 48) ≤ hi then (some (10 * d + (cdN L c (p + 1) - 48)), p + 2) else if lo ≤ d then (some d, p + 1) else (none, p + 1)
def rN (L : Nat) (c : Nat → Nat) (lo hi p : Nat) : Option Nat × Nat :=
  if 48 ≤ cdN L c p ∧ cdN L c p ≤ 57 ∧ ((lo ≤ cdN L c p - 48 ∧ cdN L c p - 48 ≤ hi) ∨ (0 < cdN L c p - 48 ∧ 10 * (cdN L c p - 48) ≤ hi ∧ lo ≤ 10 * (cdN L c p - 48) + 9)) then rN2 L c lo hi (cdN L c p - 48) p else (none, p)
/-- a number is kept -/
def pgK (w v : Nat) (K : S_K) : S_K :=
  if w = 0 then (kn K, updN (kA K) (kn K) v, kH K, kO K, K.2.2.2.2)
  else if w = 1 then (kn K, kA K, updN (kH K) (kn K) v, kO K, K.2.2.2.2)
  else if w = 2 then (kn K + 1, kA K, kH K, updN (kO K) (kn K) v, K.2.2.2.2)
  else if w = 3 then (kn K, kA K, kH K, kO K, v, kch K, ksu K, knb K, kM K)
  else if w = 4 then (kn K, kA K, kH K, kO K, kca K, v, ksu K, knb K, kM K)
  else if w = 5 then (kn K, kA K, kH K, kO K, kca K, kch K, v, knb K, kM K)
  else (kn K, kA K, kH K, kO K, kca K, kch K, ksu K, knb K + 1, updN (kM K) (knb K) v)
def rVes (L : Nat) (c : Nat → Nat) (K : S_K) (p : Nat) : S_O :=
  match rN L c 1 30 p with
  | (none, p1) => (none, p1)
  | (some a, p1) => if cdN L c p1 = 120 then
      match rN L c 1 60 (p1 + 1) with
      | (none, p2) => (none, p2)
      | (some h, p2) => if cdN L c p2 = 104 then
          match rN L c 1 40 (p2 + 1) with
          | (none, p3) => (none, p3)
          | (some o, p3) => (some (pgK 2 o (pgK 1 h (pgK 0 a K))), p3)
        else (none, p2)
    else (none, p1)
def rVs (L : Nat) (c : Nat → Nat) : Nat → S_K → Nat → S_O
  | 0, K, p => (some K, p)
  | m + 1, K, p => match rVes L c K p with
    | (none, p') => (none, p')
    | (some K', p') => if 1 ≤ m ∧ cdN L c p' = 62 then rVs L c m K' (p' + 1) else (some K', p')
def rCyl (L : Nat) (c : Nat → Nat) (K : S_K) (p : Nat) : S_O :=
  if cdN L c p = 61 then
    match rN L c 1 99 (p + 1) with
    | (none, p1) => (none, p1)
    | (some a, p1) => if cdN L c p1 = 120 then
        match rN L c 1 99 (p1 + 1) with
        | (none, p2) => (none, p2)
        | (some h, p2) => (some (pgK 4 h (pgK 3 a K)), p2)
      else (none, p1)
  else (none, p)
def rSup (L : Nat) (c : Nat → Nat) (K : S_K) (p : Nat) : S_O :=
  if cdN L c p = 59 then
    if cdN L c (p + 1) = 115 then
      match rN L c 0 60 (p + 1 + 1) with
      | (none, p1) => (none, p1)
      | (some a, p1) => (some (pgK 5 a K), p1)
    else (none, p + 1)
  else (none, p)
def mkP (K : S_K) : Nat := if knb K = 0 then 0 else kM K (knb K - 1)
def rMs (L : Nat) (c : Nat → Nat) : Nat → S_K → Nat → S_O
  | 0, K, p => (some K, p)
  | m + 1, K, p => match rN L c (mkP K + 1) 99 p with
    | (none, p') => (none, p')
    | (some x, p') => if 1 ≤ m ∧ x < 99 ∧ cdN L c p' = 44 then rMs L c m (pgK 6 x K) (p' + 1) else (some (pgK 6 x K), p')
def rMks (L : Nat) (c : Nat → Nat) (K : S_K) (p : Nat) : S_O :=
  if cdN L c p = 59 then
    if cdN L c (p + 1) = 109 then rMs L c 12 K (p + 1 + 1) else (none, p + 1)
  else (none, p)
def rThen (q : S_O) (k : S_K → Nat → S_O) : S_O :=
  match q with
  | (none, p) => (none, p)
  | (some K, p) => k K p
def rAll (L : Nat) (c : Nat → Nat) (K : S_K) : S_O := rThen (rVs L c 3 K 0) fun K p => rThen (rCyl L c K p) fun K p => rThen (rSup L c K p) fun K p => rMks L c K p
/-! the reference's machine -/
def hiN (w : Nat) : Nat := if w = 0 then 30 else if w = 1 then 60 else if w = 2 then 40 else if w = 5 then 60 else 99
def loN (w : Nat) (K : S_K) : Nat := if w = 6 then mkP K + 1 else if w = 5 then 0 else 1
def pgB (w x : Nat) (K : S_K) (c : Nat) : Option Nat :=
  if w = 0 then (if c = 120 then some 1 else none)
  else if w = 1 then (if c = 104 then some 2 else none)
  else if w = 2 then (if c = 61 then some 3 else if c = 62 ∧ kn K < 2 then some 0 else none)
  else if w = 3 then (if c = 120 then some 4 else none)
  else if w = 4 then (if c = 59 then some 7 else none)
  else if w = 5 then (if c = 59 then some 8 else none)
  else (if c = 44 ∧ knb K < 11 ∧ mkP K < x ∧ x < 99 then some 6 else none)
def pgS (w : Nat) (v : Option Nat) (K : S_K) (p c : Nat) : Option S_G :=
  if 6 < w then (if c = (if w = 7 then 115 else 109) then some (w - 2, v, K, p + 1) else none)
  else if 48 ≤ c ∧ c ≤ 57 then
    match v with
    | none => if (0 < c - 48 ∨ w = 5) ∧ (¬ w = 6 ∨ mkP K < c - 48 ∨ mkP K < 10 * (c - 48) + 9) then some (w, some (c - 48), K, p + 1) else none
    | some x => if 0 < x ∧ 10 * x + (c - 48) ≤ hiN w ∧ (¬ w = 6 ∨ mkP K < 10 * x + (c - 48)) then some (w, some (10 * x + (c - 48)), K, p + 1) else none
  else match v with
    | none => none
    | some x => (pgB w x K c).map fun w' => (w', none, pgK w x K, p + 1)
def pgR (c : Nat → Nat) : Nat → S_G → S_G
  | 0, g => g
  | m + 1, g => match pgS g.1 g.2.1 g.2.2.1 g.2.2.2 (c g.2.2.2) with
    | none => g
    | some g' => pgR c m g'
def pgG (L : Nat) (c : Nat → Nat) (p w : Nat) (v : Option Nat) (K : S_K) : S_G := pgR c (L - p) (w, v, K, p)
section PG
variable {L : Nat} {c : Nat → Nat} {p w w' x : Nat} {v v' : Option Nat} {K K' : S_K}
theorem pgG_end (h : L ≤ p) : pgG L c p w v K = (w, v, K, p) := by
  unfold pgG
  rw [show L - p = 0 by omega]; rfl
theorem pgG_no (h : p < L) (e : pgS w v K p (c p) = none) : pgG L c p w v K = (w, v, K, p) := by
  unfold pgG
  rw [show L - p = (L - (p + 1)) + 1 by omega]
  show (match pgS w v K p (c p) with | none => (w, v, K, p) | some g' => pgR c (L - (p + 1)) g') = _
  rw [e]
theorem pgG_go (h : p < L) (e : pgS w v K p (c p) = some (w', v', K', p + 1)) : pgG L c p w v K = pgG L c (p + 1) w' v' K' := by
  unfold pgG
  rw [show L - p = (L - (p + 1)) + 1 by omega]
  show (match pgS w v K p (c p) with | none => (w, v, K, p) | some g' => pgR c (L - (p + 1)) g') = _
  rw [e]
theorem pg_lh (hw : w ≤ 6) : (w = 6 ∧ loN w K = mkP K + 1 ∧ hiN w = 99) ∨ (w = 5 ∧ loN w K = 0 ∧ 9 ≤ hiN w ∧ hiN w ≤ 99) ∨ (w < 5 ∧ loN w K = 1 ∧ 9 ≤ hiN w ∧ hiN w ≤ 99) := by
  have : w = 0 ∨ w = 1 ∨ w = 2 ∨ w = 3 ∨ w = 4 ∨ w = 5 ∨ w = 6 := by omega
  rcases this with rfl | rfl | rfl | rfl | rfl | rfl | rfl
  · exact Or.inr (Or.inr ⟨by omega, rfl, by decide, by decide⟩)
  · exact Or.inr (Or.inr ⟨by omega, rfl, by decide, by decide⟩)
  · exact Or.inr (Or.inr ⟨by omega, rfl, by decide, by decide⟩)
  · exact Or.inr (Or.inr ⟨by omega, rfl, by decide, by decide⟩)
  · exact Or.inr (Or.inr ⟨by omega, rfl, by decide, by decide⟩)
  · exact Or.inr (Or.inl ⟨rfl, rfl, by decide, by decide⟩)
  · exact Or.inl ⟨rfl, rfl, rfl⟩
/-- no further figure is taken -/
def ndN (L : Nat) (c : Nat → Nat) (p w x : Nat) (K : S_K) : Prop := 48 ≤ cdN L c p → cdN L c p ≤ 57 → ¬ (0 < x ∧ 10 * x + (cdN L c p - 48) ≤ hiN w ∧ (¬ w = 6 ∨ mkP K < 10 * x + (cdN L c p - 48)))
theorem cd_lt (h : ¬ cdN L c p = 0) : p < L ∧ cdN L c p = c p := by
  unfold cdN at h ⊢
  by_cases q : p < L
  · rw [if_pos q]; exact ⟨q, rfl⟩
  · rw [if_neg q] at h; exact absurd rfl h
theorem cd_eq (h : p < L) : cdN L c p = c p := if_pos h
theorem pgB_dig (hw : w ≤ 6) (h1 : 48 ≤ x) (h2 : x ≤ 57) {y : Nat} : pgB w y K x = none := by
  have : w = 0 ∨ w = 1 ∨ w = 2 ∨ w = 3 ∨ w = 4 ∨ w = 5 ∨ w = 6 := by omega
  unfold pgB
  rcases this with rfl | rfl | rfl | rfl | rfl | rfl | rfl
  · rw [if_pos rfl, if_neg (by omega)]
  · rw [if_neg (by omega), if_pos rfl, if_neg (by omega)]
  · rw [if_neg (by omega), if_neg (by omega), if_pos rfl, if_neg (by omega), if_neg (by omega)]
  · rw [if_neg (by omega), if_neg (by omega), if_neg (by omega), if_pos rfl, if_neg (by omega)]
  · rw [if_neg (by omega), if_neg (by omega), if_neg (by omega), if_neg (by omega), if_pos rfl, if_neg (by omega)]
  · rw [if_neg (by omega), if_neg (by omega), if_neg (by omega), if_neg (by omega), if_neg (by omega), if_pos rfl, if_neg (by omega)]
  · rw [if_neg (by omega), if_neg (by omega), if_neg (by omega), if_neg (by omega), if_neg (by omega), if_neg (by omega), if_neg (by omega)]
theorem pgG_sg (hw : w ≤ 6) {sg : Nat} (hs : cdN L c p = sg) (h0 : ¬ sg = 0) (hd : ¬ (48 ≤ sg ∧ sg ≤ 57)) (hb : pgB w x K sg = some w') : p < L ∧ pgG L c p w (some x) K = pgG L c (p + 1) w' none (pgK w x K) := by
  obtain ⟨h1, h2⟩ := cd_lt (L := L) (c := c) (p := p) (by omega)
  refine ⟨h1, pgG_go h1 ?_⟩
  rw [← h2, hs]
  unfold pgS
  rw [if_neg (by omega), if_neg hd]
  show (pgB w x K sg).map _ = _
  rw [hb]; rfl
theorem pgG_st (hw : w ≤ 6) (hp : p ≤ L) (hn : ndN L c p w x K) (hb : pgB w x K (cdN L c p) = none) : pgG L c p w (some x) K = (w, some x, K, p) := by
  by_cases h1 : p < L
  · have h2 := cd_eq (c := c) h1
    refine pgG_no h1 ?_
    unfold ndN at hn
    rw [h2] at hn hb
    unfold pgS
    rw [if_neg (by omega)]
    by_cases hd : 48 ≤ c p ∧ c p ≤ 57
    · rw [if_pos hd]
      show (if _ then _ else _) = none
      rw [if_neg (hn hd.1 hd.2)]
    · rw [if_neg hd]
      show (pgB w x K (c p)).map _ = _
      rw [hb]; rfl
  · exact pgG_end (by omega)
theorem pgG_7 (hw : 6 < w) {sg : Nat} (hsg : sg = if w = 7 then 115 else 109) (hs : cdN L c p = sg) : p < L ∧ pgG L c p w v K = pgG L c (p + 1) (w - 2) v K := by
  have h0 : ¬ sg = 0 := by rw [hsg]; split <;> omega
  obtain ⟨h1, h2⟩ := cd_lt (L := L) (c := c) (p := p) (by omega)
  refine ⟨h1, pgG_go h1 ?_⟩
  rw [← h2, hs]
  unfold pgS
  rw [if_pos hw, if_pos hsg]
theorem pgG_7n (hw : 6 < w) {sg : Nat} (hsg : sg = if w = 7 then 115 else 109) (hs : ¬ cdN L c p = sg) : pgG L c p w v K = (w, v, K, p) := by
  by_cases h1 : p < L
  · have h2 := cd_eq (c := c) h1
    refine pgG_no h1 ?_
    unfold pgS
    rw [if_pos hw, if_neg (by rw [← hsg, ← h2]; exact hs)]
  · exact pgG_end (by omega)
/-- the machine is not at a whole clock -/
def nwG (g : S_G) : Prop := ¬ (g.1 = 6 ∧ ∃ x, g.2.1 = some x ∧ mkP g.2.2.1 < x)
theorem pg_num (hw : w ≤ 6) (hp : p ≤ L) {lo hi : Nat} (hlo : lo = loN w K) (hhi : hi = hiN w) : (∃ p' v, rN L c lo hi p = (none, p') ∧ pgG L c p w none K = (w, v, K, p') ∧ nwG (w, v, K, p') ∧ p' ≤ L) ∨ (∃ p' x, rN L c lo hi p = (some x, p') ∧ lo ≤ x ∧ x ≤ hi ∧ p' ≤ L ∧ pgG L c p w none K = pgG L c p' w (some x) K ∧ ndN L c p' w x K) := by
  have hl := pg_lh (K := K) hw
  rw [← hlo, ← hhi] at hl
  have nw0 : ∀ p', nwG (w, none, K, p') := fun p' q => by
    obtain ⟨-, x, q, -⟩ := q; cases q
  by_cases hd : 48 ≤ cdN L c p ∧ cdN L c p ≤ 57
  · obtain ⟨hpL, ec⟩ := cd_lt (L := L) (c := c) (p := p) (by omega)
    generalize hdd : cdN L c p - 48 = d
    have hd9 : d ≤ 9 := by omega
    have ecd : c p - 48 = d := by rw [← ec]; exact hdd
    have hd' : 48 ≤ c p ∧ c p ≤ 57 := by rw [← ec]; exact hd
    by_cases cs : (lo ≤ d ∧ d ≤ hi) ∨ (0 < d ∧ 10 * d ≤ hi ∧ lo ≤ 10 * d + 9)
    · have e1 : rN L c lo hi p = rN2 L c lo hi d p := by
        unfold rN
        rw [hdd, if_pos ⟨hd.1, hd.2, cs⟩]
      have g1 : pgG L c p w none K = pgG L c (p + 1) w (some d) K := by
        refine pgG_go hpL ?_
        unfold pgS
        rw [if_neg (by omega), if_pos hd']
        show (if _ then _ else _) = _
        rw [ecd, if_pos (by omega)]
      rw [e1, g1]
      unfold rN2
      generalize hee : cdN L c (p + 1) - 48 = e
      by_cases s2 : 0 < d ∧ 48 ≤ cdN L c (p + 1) ∧ cdN L c (p + 1) ≤ 57 ∧ lo ≤ 10 * d + e ∧ 10 * d + e ≤ hi
      · rw [if_pos s2]
        obtain ⟨q1, q2⟩ := cd_lt (L := L) (c := c) (p := p + 1) (by omega)
        refine Or.inr ⟨p + 2, 10 * d + e, rfl, s2.2.2.2.1, s2.2.2.2.2, by omega, ?_, ?_⟩
        · refine pgG_go q1 ?_
          unfold pgS
          rw [if_neg (by omega), if_pos (by rw [← q2]; exact ⟨s2.2.1, s2.2.2.1⟩)]
          show (if _ then _ else _) = _
          rw [← q2, hee, if_pos (by omega)]
        · intro z1 z2 z3
          omega
      · rw [if_neg s2]
        have nd : ndN L c (p + 1) w d K := by
          intro z1 z2 z3
          rw [hee] at z3
          omega
        by_cases h3 : lo ≤ d
        · rw [if_pos h3]
          exact Or.inr ⟨p + 1, d, rfl, h3, by omega, by omega, rfl, nd⟩
        · rw [if_neg h3]
          have h6 : w = 6 := by omega
          refine Or.inl ⟨p + 1, some d, rfl, pgG_st hw (by omega) nd ?_, ?_, by omega⟩
          · subst h6
            unfold pgB
            rw [if_neg (by omega), if_neg (by omega), if_neg (by omega), if_neg (by omega), if_neg (by omega), if_neg (by omega), if_neg (by omega)]
          · rintro ⟨-, x, q1, q2⟩
            have q1 : some d = some x := q1
            cases q1
            have q2 : mkP K < d := q2
            omega
    · refine Or.inl ⟨p, none, ?_, pgG_no hpL ?_, nw0 p, hp⟩
      · unfold rN
        rw [hdd, if_neg (fun q => cs q.2.2)]
      · unfold pgS
        rw [if_neg (by omega), if_pos hd']
        show (if _ then _ else _) = _
        rw [ecd, if_neg (by omega)]
  · refine Or.inl ⟨p, none, ?_, ?_, nw0 p, hp⟩
    · unfold rN
      rw [if_neg (fun q => hd ⟨q.1, q.2.1⟩)]
    · by_cases h1 : p < L
      · have h2 := cd_eq (c := c) h1
        refine pgG_no h1 ?_
        unfold pgS
        rw [if_neg (by omega), if_neg (by rw [← h2]; exact hd)]
      · exact pgG_end (by omega)
end PG
