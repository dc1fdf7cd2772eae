/-! the page as a clock: the class's reading and the reference's machine agree -/
def VB (K : S_K) : Prop := ∀ v, v < kn K → (1 ≤ kA K v ∧ kA K v ≤ 30) ∧ (1 ≤ kH K v ∧ kH K v ≤ 60) ∧ kO K v ≤ 40
def MB (K : S_K) : Prop := (∀ b, b < knb K → 1 ≤ kM K b ∧ kM K b ≤ 99 ∧ kM K b ≤ mkP K) ∧ ∀ i j, i < j → j < knb K → kM K i < kM K j
def k7 (K : S_K) : Nat × (Nat → Nat) × (Nat → Nat) × (Nat → Nat) × Nat × Nat × Nat := (kn K, kA K, kH K, kO K, kca K, kch K, ksu K)
section PH
variable {L : Nat} {c : Nat → Nat} {p w w' x : Nat} {v v' : Option Nat} {K K' : S_K}
theorem nw_w {g : S_G} (h : ¬ g.1 = 6) : nwG g := fun q => h q.1
theorem ag_ves (hp : p ≤ L) (hV : VB K) : (∃ p' g, rVes L c K p = (none, p') ∧ pgG L c p 0 none K = g ∧ g.2.2.2 = p' ∧ nwG g) ∨ (∃ p' x K', rVes L c K p = (some (pgK 2 x K'), p') ∧ pgG L c p 0 none K = pgG L c p' 2 (some x) K' ∧ ndN L c p' 2 x K' ∧ p' ≤ L ∧ kn K' = kn K ∧ VB (pgK 2 x K') ∧ K'.2.2.2.2 = K.2.2.2.2) := by
  unfold rVes
  rcases pg_num (L := L) (c := c) (p := p) (w := 0) (K := K) (lo := 1) (hi := 30) (by omega) hp rfl rfl with ⟨p1, v, e, g, nw, hp1⟩ | ⟨p1, a, e, a1, a2, hp1, g, nd⟩
  · rw [e]
    exact Or.inl ⟨p1, _, rfl, g, rfl, nw⟩
  rw [e, g]
  dsimp only
  by_cases s1 : cdN L c p1 = 120
  case neg =>
    rw [if_neg s1]
    exact Or.inl ⟨p1, _, rfl, pgG_st (by omega) hp1 nd (by unfold pgB; rw [if_pos rfl, if_neg s1]), rfl, nw_w (fun q => by cases q)⟩
  rw [if_pos s1]
  obtain ⟨l1, g1⟩ := pgG_sg (w := 0) (x := a) (K := K) (w' := 1) (by omega) s1 (by omega) (by omega) rfl
  rw [g1]
  rcases pg_num (L := L) (c := c) (p := p1 + 1) (w := 1) (K := pgK 0 a K) (lo := 1) (hi := 60) (by omega) (by omega) rfl rfl with ⟨p2, v, e, g, nw, hp2⟩ | ⟨p2, h, e, b1, b2, hp2, g, nd⟩
  · rw [e]
    exact Or.inl ⟨p2, _, rfl, g, rfl, nw⟩
  rw [e, g]
  dsimp only
  by_cases s2 : cdN L c p2 = 104
  case neg =>
    rw [if_neg s2]
    exact Or.inl ⟨p2, _, rfl, pgG_st (by omega) hp2 nd (by unfold pgB; rw [if_neg (by omega), if_pos rfl, if_neg s2]), rfl, nw_w (fun q => by cases q)⟩
  rw [if_pos s2]
  obtain ⟨l2, g2⟩ := pgG_sg (w := 1) (x := h) (K := pgK 0 a K) (w' := 2) (by omega) s2 (by omega) (by omega) rfl
  rw [g2]
  rcases pg_num (L := L) (c := c) (p := p2 + 1) (w := 2) (K := pgK 1 h (pgK 0 a K)) (lo := 1) (hi := 40) (by omega) (by omega) rfl rfl with ⟨p3, v, e, g, nw, hp3⟩ | ⟨p3, o, e, d1, d2, hp3, g, nd⟩
  · rw [e]
    exact Or.inl ⟨p3, _, rfl, g, rfl, nw⟩
  rw [e, g]
  dsimp only
  refine Or.inr ⟨p3, o, pgK 1 h (pgK 0 a K), rfl, rfl, nd, hp3, rfl, fun v hv => ?_, rfl⟩
  show (1 ≤ updN (kA K) (kn K) a v ∧ updN (kA K) (kn K) a v ≤ 30) ∧ (1 ≤ updN (kH K) (kn K) h v ∧ updN (kH K) (kn K) h v ≤ 60) ∧ updN (kO K) (kn K) o v ≤ 40
  have hv : v < kn K + 1 := hv
  by_cases q : v = kn K
  · subst q
    rw [updN_s, updN_s, updN_s]
    exact ⟨⟨a1, a2⟩, ⟨b1, b2⟩, d2⟩
  · rw [updN_n q, updN_n q, updN_n q]
    exact hV v (by omega)
theorem ag_vs : ∀ (m : Nat) (K : S_K) (p : Nat), kn K + (m + 1) = 3 → p ≤ L → VB K → (∃ p' g, rVs L c (m + 1) K p = (none, p') ∧ pgG L c p 0 none K = g ∧ g.2.2.2 = p' ∧ nwG g) ∨ (∃ p' x K', rVs L c (m + 1) K p = (some (pgK 2 x K'), p') ∧ pgG L c p 0 none K = pgG L c p' 2 (some x) K' ∧ ndN L c p' 2 x K' ∧ p' ≤ L ∧ (cdN L c p' = 62 → ¬ kn K' < 2) ∧ kn K' < 3 ∧ VB (pgK 2 x K') ∧ K'.2.2.2.2 = K.2.2.2.2)
  | 0, K, p, hk, hp, hV => by
    unfold rVs
    rcases ag_ves (c := c) hp hV with ⟨p1, g, e, h1, h2, h3⟩ | ⟨p1, x, K', e, h1, h2, h3, h4, h5, h6⟩
    · rw [e]
      exact Or.inl ⟨p1, g, rfl, h1, h2, h3⟩
    · rw [e]
      dsimp only
      rw [if_neg (by omega)]
      exact Or.inr ⟨p1, x, K', rfl, h1, h2, h3, fun _ => by omega, by omega, h5, h6⟩
  | m + 1, K, p, hk, hp, hV => by
    rw [rVs]
    rcases ag_ves (c := c) hp hV with ⟨p1, g, e, h1, h2, h3⟩ | ⟨p1, x, K', e, h1, h2, h3, h4, h5, h6⟩
    · rw [e]
      exact Or.inl ⟨p1, g, rfl, h1, h2, h3⟩
    · rw [e]
      dsimp only
      by_cases s1 : cdN L c p1 = 62
      · rw [if_pos ⟨by omega, s1⟩, h1]
        obtain ⟨l1, g1⟩ := pgG_sg (w := 2) (x := x) (K := K') (w' := 0) (by omega) s1 (by omega) (by omega) (by unfold pgB; rw [if_neg (by omega), if_neg (by omega), if_pos rfl, if_neg (by omega), if_pos ⟨rfl, by omega⟩])
        rw [g1]
        have hkk : kn (pgK 2 x K') = kn K' + 1 := rfl
        rcases ag_vs m (pgK 2 x K') (p1 + 1) (by omega) (by omega) h5 with ⟨p2, g, e, q1, q2, q3⟩ | ⟨p2, y, K2, e, q1, q2, q3, q4, q5, q6, q7⟩
        · exact Or.inl ⟨p2, g, e, q1, q2, q3⟩
        · exact Or.inr ⟨p2, y, K2, e, q1, q2, q3, q4, q5, q6, by rw [q7]; exact h6⟩
      · rw [if_neg (fun q => s1 q.2)]
        exact Or.inr ⟨p1, x, K', rfl, h1, h2, h3, fun q => absurd q s1, by omega, h5, h6⟩
theorem ag_cyl (hp : p ≤ L) (hnd : ndN L c p 2 x K) (h62 : cdN L c p = 62 → ¬ kn K < 2) : (∃ p' g, rCyl L c (pgK 2 x K) p = (none, p') ∧ pgG L c p 2 (some x) K = g ∧ g.2.2.2 = p' ∧ nwG g) ∨ (∃ p' a y, rCyl L c (pgK 2 x K) p = (some (pgK 4 y (pgK 3 a (pgK 2 x K))), p') ∧ pgG L c p 2 (some x) K = pgG L c p' 4 (some y) (pgK 3 a (pgK 2 x K)) ∧ ndN L c p' 4 y (pgK 3 a (pgK 2 x K)) ∧ p' ≤ L ∧ (1 ≤ a ∧ a ≤ 99) ∧ 1 ≤ y ∧ y ≤ 99) := by
  unfold rCyl
  by_cases s1 : cdN L c p = 61
  case neg =>
    rw [if_neg s1]
    exact Or.inl ⟨p, _, rfl, pgG_st (by omega) hp hnd (by unfold pgB; rw [if_neg (by omega), if_neg (by omega), if_pos rfl, if_neg s1, if_neg (fun q => h62 q.1 q.2)]), rfl, nw_w (fun q => by cases q)⟩
  rw [if_pos s1]
  obtain ⟨l1, g1⟩ := pgG_sg (w := 2) (x := x) (K := K) (w' := 3) (by omega) s1 (by omega) (by omega) rfl
  rw [g1]
  rcases pg_num (L := L) (c := c) (p := p + 1) (w := 3) (K := pgK 2 x K) (lo := 1) (hi := 99) (by omega) (by omega) rfl rfl with ⟨p2, v, e, g, nw, hp2⟩ | ⟨p2, a, e, b1, b2, hp2, g, nd⟩
  · rw [e]
    exact Or.inl ⟨p2, _, rfl, g, rfl, nw⟩
  rw [e, g]
  dsimp only
  by_cases s2 : cdN L c p2 = 120
  case neg =>
    rw [if_neg s2]
    exact Or.inl ⟨p2, _, rfl, pgG_st (by omega) hp2 nd (by unfold pgB; rw [if_neg (by omega), if_neg (by omega), if_neg (by omega), if_pos rfl, if_neg s2]), rfl, nw_w (fun q => by cases q)⟩
  rw [if_pos s2]
  obtain ⟨l2, g2⟩ := pgG_sg (w := 3) (x := a) (K := pgK 2 x K) (w' := 4) (by omega) s2 (by omega) (by omega) rfl
  rw [g2]
  rcases pg_num (L := L) (c := c) (p := p2 + 1) (w := 4) (K := pgK 3 a (pgK 2 x K)) (lo := 1) (hi := 99) (by omega) (by omega) rfl rfl with ⟨p3, v, e, g, nw, hp3⟩ | ⟨p3, y, e, d1, d2, hp3, g, nd⟩
  · rw [e]
    exact Or.inl ⟨p3, _, rfl, g, rfl, nw⟩
  rw [e, g]
  exact Or.inr ⟨p3, a, y, rfl, rfl, nd, hp3, ⟨b1, b2⟩, d1, d2⟩
theorem ag_sup (hp : p ≤ L) (hnd : ndN L c p 4 x K) : (∃ p' g, rSup L c (pgK 4 x K) p = (none, p') ∧ pgG L c p 4 (some x) K = g ∧ g.2.2.2 = p' ∧ nwG g) ∨ (∃ p' u, rSup L c (pgK 4 x K) p = (some (pgK 5 u (pgK 4 x K)), p') ∧ pgG L c p 4 (some x) K = pgG L c p' 5 (some u) (pgK 4 x K) ∧ ndN L c p' 5 u (pgK 4 x K) ∧ p' ≤ L ∧ u ≤ 60) := by
  unfold rSup
  by_cases s1 : cdN L c p = 59
  case neg =>
    rw [if_neg s1]
    exact Or.inl ⟨p, _, rfl, pgG_st (by omega) hp hnd (by unfold pgB; rw [if_neg (by omega), if_neg (by omega), if_neg (by omega), if_neg (by omega), if_pos rfl, if_neg s1]), rfl, nw_w (fun q => by cases q)⟩
  rw [if_pos s1]
  obtain ⟨l1, g1⟩ := pgG_sg (w := 4) (x := x) (K := K) (w' := 7) (by omega) s1 (by omega) (by omega) rfl
  rw [g1]
  by_cases s2 : cdN L c (p + 1) = 115
  case neg =>
    rw [if_neg s2]
    exact Or.inl ⟨p + 1, _, rfl, pgG_7n (w := 7) (by omega) rfl s2, rfl, nw_w (fun q => by cases q)⟩
  rw [if_pos s2]
  obtain ⟨l2, g2⟩ := pgG_7 (w := 7) (v := none) (K := pgK 4 x K) (by omega) rfl s2
  rw [g2, show 7 - 2 = 5 from rfl]
  rcases pg_num (L := L) (c := c) (p := p + 1 + 1) (w := 5) (K := pgK 4 x K) (lo := 0) (hi := 60) (by omega) (by omega) rfl rfl with ⟨p3, v, e, g, nw, hp3⟩ | ⟨p3, y, e, d1, d2, hp3, g, nd⟩
  · rw [e]
    exact Or.inl ⟨p3, _, rfl, g, rfl, nw⟩
  rw [e, g]
  exact Or.inr ⟨p3, y, rfl, rfl, nd, hp3, d2⟩
theorem mkP_6 : mkP (pgK 6 x K) = x := by
  show (if knb K + 1 = 0 then 0 else updN (kM K) (knb K) x (knb K + 1 - 1)) = x
  rw [if_neg (by omega), show knb K + 1 - 1 = knb K by omega, updN_s]
theorem MB_6 (hM : MB K) (h1 : mkP K < x) (h2 : x ≤ 99) : MB (pgK 6 x K) := by
  obtain ⟨m1, m2⟩ := hM
  refine ⟨fun b hb => ?_, fun i j hij hj => ?_⟩
  · rw [mkP_6]
    have hb : b < knb K + 1 := hb
    show 1 ≤ updN (kM K) (knb K) x b ∧ updN (kM K) (knb K) x b ≤ 99 ∧ updN (kM K) (knb K) x b ≤ x
    by_cases e : b = knb K
    · subst e; rw [updN_s]; omega
    · rw [updN_n e]
      have := m1 b (by omega)
      omega
  · have hj : j < knb K + 1 := hj
    show updN (kM K) (knb K) x i < updN (kM K) (knb K) x j
    rw [updN_n (show ¬ i = knb K by omega)]
    by_cases e : j = knb K
    · subst e
      rw [updN_s]
      have := m1 i (by omega)
      omega
    · rw [updN_n e]
      exact m2 i j hij (by omega)
theorem ag_ms : ∀ (m : Nat) (K : S_K) (p : Nat), knb K + (m + 1) = 12 → p ≤ L → MB K → (∃ p' g, rMs L c (m + 1) K p = (none, p') ∧ pgG L c p 6 none K = g ∧ g.2.2.2 = p' ∧ nwG g) ∨ (∃ p' x K', rMs L c (m + 1) K p = (some (pgK 6 x K'), p') ∧ pgG L c p 6 none K = (6, some x, K', p') ∧ mkP K' < x ∧ p' ≤ L ∧ knb K' < 12 ∧ MB (pgK 6 x K') ∧ k7 K' = k7 K) := by
  intro m
  induction m with
  | zero =>
    intro K p hk hp hM
    rw [rMs]
    rcases pg_num (L := L) (c := c) (p := p) (w := 6) (K := K) (lo := mkP K + 1) (hi := 99) (by omega) hp rfl rfl with ⟨p1, v, e, g, nw, hp1⟩ | ⟨p1, a, e, a1, a2, hp1, g, nd⟩
    · rw [e]
      exact Or.inl ⟨p1, _, rfl, g, rfl, nw⟩
    rw [e, g]
    dsimp only
    rw [if_neg (by omega)]
    exact Or.inr ⟨p1, a, K, rfl, pgG_st (by omega) hp1 nd (by unfold pgB; rw [if_neg (by omega), if_neg (by omega), if_neg (by omega), if_neg (by omega), if_neg (by omega), if_neg (by omega), if_neg (by omega)]), by omega, hp1, by omega, MB_6 hM (by omega) a2, rfl⟩
  | succ m ih =>
    intro K p hk hp hM
    rw [rMs]
    rcases pg_num (L := L) (c := c) (p := p) (w := 6) (K := K) (lo := mkP K + 1) (hi := 99) (by omega) hp rfl rfl with ⟨p1, v, e, g, nw, hp1⟩ | ⟨p1, a, e, a1, a2, hp1, g, nd⟩
    · rw [e]
      exact Or.inl ⟨p1, _, rfl, g, rfl, nw⟩
    rw [e, g]
    dsimp only
    by_cases s1 : a < 99 ∧ cdN L c p1 = 44
    · rw [if_pos ⟨by omega, s1⟩]
      obtain ⟨l1, g1⟩ := pgG_sg (w := 6) (x := a) (K := K) (w' := 6) (by omega) s1.2 (by omega) (by omega) (by unfold pgB; rw [if_neg (by omega), if_neg (by omega), if_neg (by omega), if_neg (by omega), if_neg (by omega), if_neg (by omega), if_pos ⟨rfl, by omega, by omega, s1.1⟩])
      rw [g1]
      have hkk : knb (pgK 6 a K) = knb K + 1 := rfl
      rcases ih (pgK 6 a K) (p1 + 1) (by omega) (by omega) (MB_6 hM (by omega) a2) with ⟨p2, g, e, q1, q2, q3⟩ | ⟨p2, y, K2, e, q1, q2, q3, q4, q5, q6⟩
      · exact Or.inl ⟨p2, g, e, q1, q2, q3⟩
      · exact Or.inr ⟨p2, y, K2, e, q1, q2, q3, q4, q5, by rw [q6]; rfl⟩
    · rw [if_neg (fun q => s1 q.2)]
      exact Or.inr ⟨p1, a, K, rfl, pgG_st (by omega) hp1 nd (by unfold pgB; rw [if_neg (by omega), if_neg (by omega), if_neg (by omega), if_neg (by omega), if_neg (by omega), if_neg (by omega), if_neg (fun q => s1 ⟨q.2.2.2, q.1⟩)]), by omega, hp1, by omega, MB_6 hM (by omega) a2, rfl⟩
/-- the page is a clock for the one if it is for the other, the same one; and what fits ends at the same place -/
theorem ag_all (h0 : kn K = 0) (hb0 : knb K = 0) : (∃ p' g, rAll L c K = (none, p') ∧ pgG L c 0 0 none K = g ∧ g.2.2.2 = p' ∧ nwG g) ∨ (∃ p' x K', rAll L c K = (some (pgK 6 x K'), p') ∧ pgG L c 0 0 none K = (6, some x, K', p') ∧ mkP K' < x ∧ knb K' < 12 ∧ p' ≤ L ∧ S_KB (pgK 6 x K') ∧ ∀ v, v < kn (pgK 6 x K') → kO (pgK 6 x K') v ≤ 40) := by
  unfold rAll
  rcases ag_vs (L := L) (c := c) 2 K 0 (by omega) (by omega) (fun v hv => by omega) with ⟨p1, g, e, h1, h2, h3⟩ | ⟨p1, x, K1, e, h1, nd1, l1, h62, hn3, hV, hk1⟩
  · rw [e]; exact Or.inl ⟨p1, g, rfl, h1, h2, h3⟩
  rw [e, h1]
  rcases ag_cyl l1 nd1 h62 with ⟨p2, g, e, h1, h2, h3⟩ | ⟨p2, a, y, e, h1, nd2, l2, ha, hy⟩
  · show (∃ p' g, rThen (rCyl L c (pgK 2 x K1) p1) _ = _ ∧ _) ∨ _
    rw [e]; exact Or.inl ⟨p2, g, rfl, h1, h2, h3⟩
  show (∃ p' g, rThen (rCyl L c (pgK 2 x K1) p1) _ = _ ∧ _) ∨ (∃ p' x' K', rThen (rCyl L c (pgK 2 x K1) p1) _ = _ ∧ _)
  rw [e, h1]
  rcases ag_sup l2 nd2 with ⟨p3, g, e, h1, h2, h3⟩ | ⟨p3, u, e, h1, nd3, l3, hu⟩
  · show (∃ p' g, rThen (rSup L c (pgK 4 y (pgK 3 a (pgK 2 x K1))) p2) _ = _ ∧ _) ∨ _
    rw [e]; exact Or.inl ⟨p3, g, rfl, h1, h2, h3⟩
  show (∃ p' g, rThen (rSup L c (pgK 4 y (pgK 3 a (pgK 2 x K1))) p2) _ = _ ∧ _) ∨ (∃ p' x' K', rThen (rSup L c (pgK 4 y (pgK 3 a (pgK 2 x K1))) p2) _ = _ ∧ _)
  rw [e, h1]
  show (∃ p' g, rMks L c (pgK 5 u (pgK 4 y (pgK 3 a (pgK 2 x K1)))) p3 = _ ∧ _) ∨ (∃ p' x' K', rMks L c (pgK 5 u (pgK 4 y (pgK 3 a (pgK 2 x K1)))) p3 = _ ∧ _)
  generalize hK4 : pgK 4 y (pgK 3 a (pgK 2 x K1)) = K4 at nd3
  have hb1 : knb K1 = 0 := (congrArg (fun z : Nat × Nat × Nat × Nat × (Nat → Nat) => z.2.2.2.1) hk1).trans hb0
  have hb4 : knb K4 = 0 := by rw [← hK4]; exact hb1
  unfold rMks
  by_cases s1 : cdN L c p3 = 59
  case neg =>
    rw [if_neg s1]
    exact Or.inl ⟨p3, _, rfl, pgG_st (by omega) l3 nd3 (by unfold pgB; rw [if_neg (by omega), if_neg (by omega), if_neg (by omega), if_neg (by omega), if_neg (by omega), if_pos rfl, if_neg s1]), rfl, nw_w (fun q => by cases q)⟩
  rw [if_pos s1]
  obtain ⟨m1, g1⟩ := pgG_sg (w := 5) (x := u) (K := K4) (w' := 8) (by omega) s1 (by omega) (by omega) rfl
  rw [g1]
  by_cases s2 : cdN L c (p3 + 1) = 109
  case neg =>
    rw [if_neg s2]
    exact Or.inl ⟨p3 + 1, _, rfl, pgG_7n (w := 8) (by omega) rfl s2, rfl, nw_w (fun q => by cases q)⟩
  rw [if_pos s2]
  obtain ⟨m2, g2⟩ := pgG_7 (w := 8) (v := none) (K := pgK 5 u K4) (by omega) rfl s2
  rw [g2, show 8 - 2 = 6 from rfl]
  have hb5 : knb (pgK 5 u K4) = 0 := hb4
  rcases ag_ms (L := L) (c := c) 11 (pgK 5 u K4) (p3 + 1 + 1) (by omega) (by omega) ⟨fun b hb => by omega, fun i j _ hj => by omega⟩ with ⟨p4, g, e, q1, q2, q3⟩ | ⟨p4, z, K5, e, q1, q2, q3, q4, q5, q6⟩
  · exact Or.inl ⟨p4, g, e, q1, q2, q3⟩
  refine Or.inr ⟨p4, z, K5, e, q1, q2, q4, q3, ?_, ?_⟩
  · have e7 : k7 K5 = (kn K1 + 1, kA K1, kH K1, updN (kO K1) (kn K1) x, a, y, u) := by rw [q6, ← hK4]; rfl
    have f1 : kn K5 = kn K1 + 1 := congrArg (fun z => z.1) e7
    have f2 : kA K5 = kA K1 := congrArg (fun z => z.2.1) e7
    have f3 : kH K5 = kH K1 := congrArg (fun z => z.2.2.1) e7
    have f4 : kO K5 = updN (kO K1) (kn K1) x := congrArg (fun z => z.2.2.2.1) e7
    have f5 : kca K5 = a := congrArg (fun z => z.2.2.2.2.1) e7
    have f6 : kch K5 = y := congrArg (fun z => z.2.2.2.2.2.1) e7
    have f7 : ksu K5 = u := congrArg (fun z => z.2.2.2.2.2.2) e7
    refine ⟨?_, fun v hv => ?_, ?_, ?_, ?_, ?_, fun k hk => ?_, fun i j hij hj => q5.2 i j hij hj⟩
    · show 1 ≤ kn K5 ∧ kn K5 ≤ 3
      omega
    · show (1 ≤ kA K5 v ∧ kA K5 v ≤ 30) ∧ (1 ≤ kH K5 v ∧ kH K5 v ≤ 60) ∧ kO K5 v ≤ 200
      have hv : v < kn K5 := hv
      obtain ⟨t1, t2, t3⟩ := hV v (by show v < kn K1 + 1; omega)
      rw [f2, f3, f4]
      have t3 : updN (kO K1) (kn K1) x v ≤ 40 := t3
      exact ⟨t1, t2, by omega⟩
    · show 1 ≤ kca K5 ∧ kca K5 ≤ 99
      omega
    · show 1 ≤ kch K5 ∧ kch K5 ≤ 99
      omega
    · show ksu K5 ≤ 60
      omega
    · show 1 ≤ knb K5 + 1 ∧ knb K5 + 1 ≤ 12
      omega
    · have := q5.1 k hk
      exact ⟨this.1, this.2.1⟩
  · intro v hv
    have e7 : k7 K5 = (kn K1 + 1, kA K1, kH K1, updN (kO K1) (kn K1) x, a, y, u) := by rw [q6, ← hK4]; rfl
    have f1 : kn K5 = kn K1 + 1 := congrArg (fun z => z.1) e7
    have f4 : kO K5 = updN (kO K1) (kn K1) x := congrArg (fun z => z.2.2.2.1) e7
    have hv : v < kn K5 := hv
    obtain ⟨t1, t2, t3⟩ := hV v (by show v < kn K1 + 1; omega)
    show kO K5 v ≤ 40
    rw [f4]
    exact t3
end PH
