/-! the law's loop over the faults -/
theorem FW.n {s s' : Nat → Option pu_S} {I I' : Nat → Nat → Int32} {P P' : Nat → Nat → Option Nat} {n n' : Nat × Nat} {Z Z' : S_Z} {ao nw : Nat} (h : FW s I P n Z ao nw) (hn : n.1 ≤ n'.1) (hB : Z_B Z') (hi : InvC s' I' P' n' Z') (hs : ∀ b, 40 ≤ b → b ≤ n.1 → s' b = s b) (hI : ∀ b j, 40 ≤ b → b ≤ n.1 → I' b j = I b j) (e1 : zK Z' 0 = zK Z 0) (e2 : zT Z' = zT Z) (e3 : zW Z' = zW Z) (e4 : znc Z' = znc Z) (e5 : znw Z' = znw Z) : FW s' I' P' n' Z' ao nw := by
  obtain ⟨h1, h2, ⟨⟨a1, a2, a3, a4, a5, a6, a7⟩, b1, b2⟩, h4, h5, h6, h7, h8, h9, h10⟩ := h
  refine ⟨hB, hi, ⟨⟨by rw [hs _ (by omega) (by omega)]; exact a1, by rw [hs _ (by omega) (by omega)]; exact a2, by rw [hs _ (by omega) (by omega)]; exact a3, by rw [hs _ (by omega) (by omega)]; exact a4, by rw [hs _ (by omega) (by omega)]; exact a5, by rw [hs _ (by omega) (by omega)]; exact a6, by rw [hs _ (by omega) b2]; exact a7⟩, b1, by omega⟩, ?_, ?_, ?_, by rw [e4]; exact h7, by rw [e5]; exact h8, h9, by rw [e2]; exact h10⟩
  · rw [e1]; exact h4.fr fun j => hI _ _ (by omega) (by omega)
  · rw [e2]; exact h5.fr fun b j q => hI _ _ (by omega) (by omega)
  · rw [e3]; exact h6.fr fun b j q1 q2 => hI _ _ (by omega) (by omega)
section FL
variable {L : Nat} {xs : Nat → Int32} {nw fc ao : Nat}
set_option maxHeartbeats 4000000 in
set_option maxRecDepth 100000 in
theorem l_650 {s : Nat → Option pu_S} {I : Nat → Nat → Int32} {P : Nat → Nat → Option Nat} {J : Nat → Nat → Int64} {n : Nat × Nat} {Z : S_Z} {e : Nat} (hL : L ≤ 260) (he : e ≤ 5) (hq : ∀ k, qi e = some k → k < znf Z) {F : S_F} (hFB : S_FB F) (hF : F = oF Z (qi e) ∨ (F.1 = 0 ∧ oF Z (qi e) = (0, 0, 0, 0))) (hw : FW s I P n Z ao nw) {k489 : Option Nat → Option Nat → Option Nat → Option Nat → Int32 → Option Nat → Option Nat → Option Nat → Int32 → Option Nat → Int32 → am_H → Option (Int32 × am_H)} {Q : Int32 × am_H → Prop}
    (kk : ∀ s' I' P' n', n'.1 ≤ n.1 + 9 → n'.2 ≤ n.2 + 214 → FW s' I' P' n' Z ao nw → Rn (k489 (some 1) (some 40) (some 47) (some 48) (nI nw) (some 49) (some 50) (some 51) (nI fc) (some ao) (oI (qi (e + 1))) (pu_hp s' I' P' J n')) Q) : Rn (fL_law_650 L xs k489 (some 1) (some 40) (some 47) (some 48) (nI nw) (some 49) (some 50) (some 51) (nI fc) (some ao) (oI (qi e)) (nI F.1) (nI F.2.1) (nI F.2.2.1) (nI F.2.2.2) (pu_hp s I P J n)) Q := by
  have ec : (20 : Int32) + oI (qi e) = nI (19 + e) := by
    unfold qi
    by_cases h : e = 0
    · subst h; rfl
    · rw [if_neg h, show oI (some (e - 1)) = nI (e - 1) from rfl, show (20 : Int32) + nI (e - 1) = nI (20 + (e - 1)) from nI_add 20 _, show 20 + (e - 1) = 19 + e by omega]
  have hmod := Nat.mod_lt (cl L xs (19 + e)) (show 0 < 4 by decide)
  unfold fL_law_650
  rw [ec, cell_b hL (by omega)]
  dsimp only
  rw [if_neg (show ¬ (4 : Int32) = 0 by decide), rem_l (n := nat_lit 4) cl_lt (by decide) (by decide), show (0 : Int32) = nI 0 from rfl]
  refine l_666 hL (sn := cl L xs (19 + e) % 4) (by omega) hq hFB hF 4 0 am_fu s n I P (by omega) (by unfold am_fu; omega) hw (fun z => by omega) (fun s' I' P' n' e1 e2 w => ?_)
  rw [qi_s, qi_1] at *
  exact kk s' I' P' n' (by omega) (by omega) w
set_option maxHeartbeats 4000000 in
set_option maxRecDepth 100000 in
theorem l_590 {s : Nat → Option pu_S} {P : Nat → Nat → Option Nat} {I : Nat → Nat → Int32} {J : Nat → Nat → Int64} {n : Nat × Nat} {Z : S_Z} {f : Nat} (hf : f < znf Z) {kd : Nat} (hk4 : kd ≤ 4) (hkd : (zF Z f).1 = kd) (hw : FW s I P n Z ao nw) {v14 v15 v16 : Int32} {k489 : Option Nat → Option Nat → Option Nat → Option Nat → Int32 → Option Nat → Option Nat → Option Nat → Int32 → Option Nat → Int32 → am_H → Option (Int32 × am_H)} {Q : Int32 × am_H → Prop} (kk : Rn (fL_law_650 L xs k489 (some 1) (some 40) (some 47) (some 48) (nI nw) (some 49) (some 50) (some 51) (nI fc) (some ao) (nI f) (nI kd) v14 v15 v16 (pu_hp s I P J n)) Q) : ∀ (m k N : Nat), k + m = 5 → m < N → Rn (fL_law_590 L xs k489 N (some 1) (some 40) (some 47) (some 48) (nI nw) (some 49) (some 50) (some 51) (nI fc) (some ao) (nI f) (nI kd) v14 v15 v16 (nI k) (pu_hp s I P J n)) Q := by
  have hZ := hw.1
  have h := hw.2.1
  have hf8 := hZ.2.1.1
  intro m
  induction m with
  | zero =>
    intro k N hk hNf
    obtain ⟨N, rfl⟩ : ∃ N', N = N' + 1 := ⟨N - 1, by omega⟩
    obtain rfl : k = 5 := by omega
    show Rn (fL_law_590_b L xs k489 (fL_law_590 L xs k489 N) _ _ _ _ _ _ _ _ _ _ _ _ _ _ _ _ _) _
    unfold fL_law_590_b
    rw [if_pos (show (5 : Int32) ≤ nI 5 from Int32.le_refl _)]
    exact kk
  | succ m ih =>
    intro k N hk hNf
    obtain ⟨N, rfl⟩ : ∃ N', N = N' + 1 := ⟨N - 1, by omega⟩
    have hrec := ih (k + 1) N (by omega) (by omega)
    show Rn (fL_law_590_b L xs k489 (fL_law_590 L xs k489 N) _ _ _ _ _ _ _ _ _ _ _ _ _ _ _ _ _) _
    unfold fL_law_590_b fL_law_633 fL_law_638 fL_law_639
    rw [if_neg (fun z => by have := (nI_leI (a := 5) (b := k) (by omega) (by omega)).mp z; omega), if_neg (nI_pos (by omega)), rc_b (h.1.1 1 _ rfl), c_as hZ h hf (show k ≤ 4 by omega)]
    dsimp only [Option.bind_some]
    rw [hkd, nI_1]
    by_cases c0 : k = 0
    · rw [if_pos (show nI k = 0 by rw [c0]; rfl), if_pos (Or.inl c0), if_pos rfl]
      exact hrec
    rw [if_neg (nI_ne0 (by omega) (by omega))]
    by_cases c1 : k = kd
    · rw [if_pos (by rw [c1]), if_pos (Or.inr (Or.inl c1)), if_pos rfl]
      exact hrec
    rw [if_neg (fun z => c1 ((nI_eq (by omega) (by omega)).mp z))]
    by_cases c2 : k = 1
    · rw [if_pos (show nI k = 1 by rw [c2]; rfl)]
      by_cases c3 : kd = 2
      · rw [if_pos (show nI kd = 2 by rw [c3]; rfl), if_pos (Or.inr (Or.inr ⟨c3, c2⟩)), if_pos rfl]
        exact hrec
      · rw [if_neg (nlit c3 (by omega) (by decide)), if_neg (show ¬ (k = 0 ∨ k = kd ∨ (kd = 2 ∧ k = 1)) by omega), if_pos rfl]
        exact hrec
    · rw [if_neg (nlit c2 (by omega) (by decide)), if_neg (show ¬ (k = 0 ∨ k = kd ∨ (kd = 2 ∧ k = 1)) by omega), if_pos rfl]
      exact hrec
set_option maxHeartbeats 4000000 in
set_option maxRecDepth 100000 in
theorem l_489 {J : Nat → Nat → Int64} (hL : L ≤ 260) (hfc : 1 ≤ fc ∧ fc ≤ 4) {Q : Int32 × am_H → Prop} (fin : ∀ s I P n Z, FW s I P n Z ao nw → znf Z = fc → n.1 ≤ 300 → n.2 ≤ 10000 → Rn (fL_law_1521 L xs am_fu (some 1) (some 40) (some 47) (some 48) (nI nw) (nI fc) (some ao) (-1 : Int32) (0 : Int32) (0 : Int32) (0 : Int32) (pu_hp s I P J n)) Q) : ∀ (m e N : Nat) (s : Nat → Option pu_S) (I : Nat → Nat → Int32) (P : Nat → Nat → Option Nat) (n : Nat × Nat) (Z : S_Z), e + m = fc + 1 → m < N → FW s I P n Z ao nw → znf Z = e - 1 → n.1 ≤ 100 + 20 * e → n.2 ≤ 3000 + 400 * e → Rn (fL_law_489 L xs N (some 1) (some 40) (some 47) (some 48) (nI nw) (some 49) (some 50) (some 51) (nI fc) (some ao) (oI (qi e)) (pu_hp s I P J n)) Q := by
  intro m
  induction m with
  | zero =>
    intro e N s I P n Z he hNf hw hzf hn1 hn2
    obtain ⟨N, rfl⟩ : ∃ N', N = N' + 1 := ⟨N - 1, by omega⟩
    obtain rfl : e = fc + 1 := by omega
    show Rn (fL_law_489_b L xs (fL_law_489 L xs N) _ _ _ _ _ _ _ _ _ _ _ _) _
    unfold fL_law_489_b
    rw [qi_1, if_pos (show nI fc ≤ oI (some fc) from Int32.le_refl _)]
    exact fin s I P n Z hw (by omega) (by omega) (by omega)
  | succ m ih =>
    intro e N s I P n Z he hNf hw hzf hn1 hn2
    obtain ⟨N, rfl⟩ : ∃ N', N = N' + 1 := ⟨N - 1, by omega⟩
    obtain ⟨hZ, h, ⟨hls, ho1, ho2⟩, hlk, hlt, hlw, hc1, hnw, hn5, hhd⟩ := id hw
    show Rn (fL_law_489_b L xs (fL_law_489 L xs N) _ _ _ _ _ _ _ _ _ _ _ _) _
    unfold fL_law_489_b fL_law_514 fL_law_529 fL_law_587
    by_cases h0 : e = 0
    · subst h0
      rw [show oI (qi 0) = (-1 : Int32) from rfl, if_neg (show ¬ nI fc ≤ -1 from fun z => absurd (show nI fc < 0 from Int32.lt_of_le_of_lt z (by decide)) (nI_pos (by omega))), if_neg (show ¬ (0 : Int32) ≤ -1 by decide), if_neg (show ¬ (0 : Int32) ≤ -1 by decide), if_neg (show ¬ (8 : Int32) = 0 by decide), if_neg (show ¬ (3 : Int32) = 0 by decide), if_neg (show ¬ (32 : Int32) = 0 by decide), if_neg (show ¬ (20 : Int32) = 0 by decide), if_neg (show ¬ (1024 : Int32) = 0 by decide), if_neg (show ¬ (96 : Int32) = 0 by decide), if_pos (show (-1 : Int32) < 0 by decide)]
      -- no fault: straight on
      show Rn (fL_law_590_b L xs (fL_law_489 L xs N) (fL_law_590 L xs (fL_law_489 L xs N) 99999) _ _ _ _ _ _ _ _ _ _ _ _ _ _ _ _ _) _
      unfold fL_law_590_b
      rw [if_neg (show ¬ (5 : Int32) ≤ 0 by decide), if_pos (show (-1 : Int32) < 0 by decide)]
      have key := l_650 (L := L) (xs := xs) (fc := fc) (J := J) (e := 0) hL (by omega) (fun k z => by cases z) (F := (0, 0, 1, 0)) ⟨by decide, by decide, by decide, by decide⟩ (Or.inr ⟨rfl, rfl⟩) hw (k489 := fL_law_489 L xs N) (Q := Q) (fun s' I' P' n' e1 e2 w => ih 1 N s' I' P' n' Z (by omega) (by omega) w (by omega) (by omega) (by omega))
      exact key
    · have hqe : oI (qi e) = nI (e - 1) := by unfold qi; rw [if_neg h0]; rfl
      have hcl := @cl_lt L xs (15 + (e - 1))
      generalize hx : cl L xs (15 + (e - 1)) = x at hcl
      have m1 := Nat.mod_lt x (show 0 < 5 by decide)
      have m2 := Nat.mod_lt (x / 8) (show 0 < 3 by decide)
      have m3 := Nat.mod_lt (x / 32) (show 0 < 20 by decide)
      have m4 := Nat.mod_lt (x / 1024) (show 0 < 96 by decide)
      have q1 : x / 8 ≤ x := Nat.div_le_self _ _
      have q2 : x / 32 ≤ x := Nat.div_le_self _ _
      have q3 : x / 1024 ≤ x := Nat.div_le_self _ _
      have hf8 := hZ.2.1.1
      rw [hqe, if_neg (show ¬ nI fc ≤ nI (e - 1) from fun z => by have := (nI_leI (by omega) (by omega)).mp z; omega), if_pos (show (0 : Int32) ≤ nI (e - 1) from nI_pos' (by omega)), show (15 : Int32) + nI (e - 1) = nI (15 + (e - 1)) from nI_add 15 _, cell_b hL (by omega), hx]
      dsimp only
      rw [if_pos (show (0 : Int32) ≤ nI (e - 1) from nI_pos' (by omega)), if_neg (show ¬ (5 : Int32) = 0 by decide), if_neg (show ¬ (8 : Int32) = 0 by decide), if_neg (show ¬ (3 : Int32) = 0 by decide), if_neg (show ¬ (32 : Int32) = 0 by decide), if_neg (show ¬ (20 : Int32) = 0 by decide), if_neg (show ¬ (1024 : Int32) = 0 by decide), if_neg (show ¬ (96 : Int32) = 0 by decide), if_neg (nI_pos (show e - 1 < 2 ^ 31 by omega)), rc_b (h.1.1 1 _ rfl)]
      rw [ni_divl (n := nat_lit 8) hcl (by decide) (by decide), rem_l (n := nat_lit 3) (Nat.lt_of_le_of_lt (Nat.div_le_self _ _) hcl) (by decide) (by decide), ni_divl (n := nat_lit 32) hcl (by decide) (by decide), rem_l (n := nat_lit 20) (Nat.lt_of_le_of_lt (Nat.div_le_self _ _) hcl) (by decide) (by decide), ni_divl (n := nat_lit 1024) hcl (by decide) (by decide), rem_l (n := nat_lit 96) (Nat.lt_of_le_of_lt (Nat.div_le_self _ _) hcl) (by decide) (by decide), rem_l (n := nat_lit 5) hcl (by decide) (by decide), show (1 : Int32) + nI (x / 32 % 20) = nI (1 + x / 32 % 20) from nI_add 1 _]
      refine Rn_bind (c_faulty hZ h (a := x % 5) (b := x / 8 % 3) (c := 1 + x / 32 % 20) (t := x / 1024 % 96) (by omega) (by omega) (by omega) (by omega) (by omega) (by omega)) ?_
      rintro _ ⟨s1, I1, P1, rfl, h1, fs, fI⟩
      dsimp only
      have hFB : S_FB (x % 5, x / 8 % 3, 1 + x / 32 % 20, x / 1024 % 96) := ⟨by show x % 5 ≤ 4; omega, by show x / 8 % 3 ≤ 2; omega, by show 1 + x / 32 % 20 ≤ 20; omega, by show x / 1024 % 96 ≤ 95; omega⟩
      have w1 : FW s1 I1 P1 (n.1 + 1, n.2 + 4) (zsF Z (x % 5, x / 8 % 3, 1 + x / 32 % 20, x / 1024 % 96)) ao nw := hw.n (by show n.1 ≤ n.1 + 1; omega) (zsF_B hZ hFB (by omega)) h1 fs fI rfl rfl rfl rfl rfl
      have ezf : znf (zsF Z (x % 5, x / 8 % 3, 1 + x / 32 % 20, x / 1024 % 96)) = e := by show znf Z + 1 = e; omega
      have eF : zF (zsF Z (x % 5, x / 8 % 3, 1 + x / 32 % 20, x / 1024 % 96)) (e - 1) = (x % 5, x / 8 % 3, 1 + x / 32 % 20, x / 1024 % 96) := by
        show upG (zF Z) (znf Z) _ (e - 1) = _
        rw [hzf, upG_s]
      rw [if_pos (show nI (znf Z) = nI (e - 1) by rw [hzf]), show (0 : Int32) = nI 0 from rfl]
      refine l_590 (Z := zsF Z (x % 5, x / 8 % 3, 1 + x / 32 % 20, x / 1024 % 96)) (f := e - 1) (by omega) (by omega) (by rw [eF]) w1 ?_ 5 0 am_fu (by omega) (by unfold am_fu; omega)
      rw [← hqe]
      have key := l_650 (L := L) (xs := xs) (fc := fc) (J := J) (e := e) hL (by omega) (Z := zsF Z (x % 5, x / 8 % 3, 1 + x / 32 % 20, x / 1024 % 96)) (fun k z => by unfold qi at z; rw [if_neg h0] at z; cases z; omega) hFB (Or.inl (by
        have : qi e = some (e - 1) := by unfold qi; rw [if_neg h0]
        rw [this]; exact eF.symm)) w1 (k489 := fL_law_489 L xs N) (Q := Q) (fun s' I' P' n' e1 e2 w => ih (e + 1) N s' I' P' n' _ (by omega) (by omega) w (by omega) (by have e1 : n'.1 ≤ n.1 + 1 + 9 := e1; omega) (by have e2 : n'.2 ≤ n.2 + 4 + 214 := e2; omega))
      exact key
end FL
