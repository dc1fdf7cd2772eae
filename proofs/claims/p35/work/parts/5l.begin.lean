/-! the law from its first line: seasons, works, the head; the whole -/
def hdL (nw : Nat) : Option Nat := if nw = 0 then none else some (nw - 1)
theorem hdL_e {nw : Nat} : nI nw - 1 = oI (hdL nw) := by
  unfold hdL
  by_cases h : nw = 0
  · subst h; decide
  · rw [if_neg h, show oI (some (nw - 1)) = nI (nw - 1) from rfl]
    exact pk_sub (b := 1) (by omega)
/-- as the works are told: w of them stand -/
def WW (s : Nat → Option pu_S) (I : Nat → Nat → Int32) (P : Nat → Nat → Option Nat) (n : Nat × Nat) (Z : S_Z) (w : Nat) : Prop := Z_B Z ∧ InvC s I P n Z ∧ (s 40 = some (1, 0, 26) ∧ s 47 = some (1, 0, 4) ∧ s 48 = some (1, 0, 4) ∧ s 49 = some (1, 0, 6) ∧ s 50 = some (1, 0, 6) ∧ s 51 = some (1, 0, 6)) ∧ (n.1 = 51 + w ∧ n.2 ≤ 2000 + 4 * w) ∧ LK I (zK Z 0) ∧ LT I (zT Z) ∧ LWs I w (zW Z) ∧ znc Z = 1 ∧ znf Z = 0 ∧ znw Z = w ∧ th (zT Z) = none
section BG
variable {L : Nat} {xs : Nat → Int32} {nw : Nat} {J : Nat → Nat → Int64}
/-- the law's writes into 49, 50, 51 at the place of the next work -/
theorem WW.u {s : Nat → Option pu_S} {I : Nat → Nat → Int32} {P : Nat → Nat → Option Nat} {n : Nat × Nat} {Z : S_Z} {w a : Nat} {x : Int32} (h : WW s I P n Z w) (ha : a = 49 ∨ a = 50 ∨ a = 51) : WW s (pu_u I a w x) P n Z w := by
  obtain ⟨h1, h2, h3, h4, h5, h6, h7, h8⟩ := h
  obtain ⟨s40, s47, s48, s49, s50, s51⟩ := id h3
  refine ⟨h1, h2.law (Nat.le_refl _) (fun _ _ => rfl) (fun b j q1 q2 => u_n fun e => ?_) (fun _ _ _ => rfl), h3, h4, h5.fr fun j => u_n (by omega), h6.fr fun b j q => u_n (by omega), fun v hv => by rw [u_n (by omega), u_n (by omega), u_n (by omega)]; exact h7 v hv, h8⟩
  rcases q2 with q2 | q2
  · omega
  · have hb : b = 49 ∨ b = 50 ∨ b = 51 := by omega
    rcases hb with rfl | rfl | rfl
    · have := q2 _ s49; omega
    · have := q2 _ s50; omega
    · have := q2 _ s51; omega
set_option maxHeartbeats 4000000 in
set_option maxRecDepth 100000 in
theorem l_372 {s : Nat → Option pu_S} {I : Nat → Nat → Int32} {P : Nat → Nat → Option Nat} {n : Nat × Nat} {Z : S_Z} {w : Nat} (hw : WW s I P n Z (w + 1)) (hw5 : w < 5) {k195 : Option Nat → Option Nat → Option Nat → Option Nat → Int32 → Option Nat → Option Nat → Option Nat → Int32 → am_H → Option (Int32 × am_H)} {Q : Int32 × am_H → Prop} (kk : Rn (k195 (some 1) (some 40) (some 47) (some 48) (nI nw) (some 49) (some 50) (some 51) (nI (w + 1)) (pu_hp s I P J n)) Q) : ∀ (m k N : Nat), k + m = 5 → m < N → Rn (fL_law_372 L xs k195 N (some 1) (some 40) (some 47) (some 48) (nI nw) (some 49) (some 50) (some 51) (nI w) (nI k) (pu_hp s I P J n)) Q := by
  obtain ⟨hZ, h, ⟨s40, s47, s48, s49, s50, s51⟩, ⟨hn, hn2⟩, hlk, hlt, hlw, hc1, hzf, hzw, hth⟩ := id hw
  obtain ⟨e1, -, -⟩ := hlw w (by omega)
  have hk4 := (hZ.2.2.1.2 w (by omega)).1
  intro m
  induction m with
  | zero =>
    intro k N hk hNf
    obtain ⟨N, rfl⟩ : ∃ N', N = N' + 1 := ⟨N - 1, by omega⟩
    obtain rfl : k = 5 := by omega
    show Rn (fL_law_372_b L xs k195 (fL_law_372 L xs k195 N) _ _ _ _ _ _ _ _ _ _ _) _
    unfold fL_law_372_b
    rw [if_pos (show (5 : Int32) ≤ nI 5 from Int32.le_refl _), nI_1]
    exact kk
  | succ m ih =>
    intro k N hk hNf
    obtain ⟨N, rfl⟩ : ∃ N', N = N' + 1 := ⟨N - 1, by omega⟩
    have hrec := ih (k + 1) N (by omega) (by omega)
    show Rn (fL_law_372_b L xs k195 (fL_law_372 L xs k195 N) _ _ _ _ _ _ _ _ _ _ _) _
    unfold fL_law_372_b fL_law_416 fL_law_421 fL_law_422
    rw [if_neg (fun z => by have := (nI_leI (a := 5) (b := k) (by omega) (by omega)).mp z; omega), rc_b (h.1.1 1 _ rfl), c_workAs hZ h (show w < znw Z by omega) (show k ≤ 4 by omega)]
    dsimp only [Option.bind_some]
    rw [al_b (pu_okI s49 (by omega) (by omega)), e1, al_b (pu_okI s49 (by omega) (by omega)), e1, nI_1]
    by_cases c0 : k = 0
    · rw [if_pos (show nI k = 0 by rw [c0]; rfl), if_pos (Or.inl c0), if_pos rfl]
      exact hrec
    rw [if_neg (nI_ne0 (by omega) (by omega))]
    by_cases c1 : k = (zW Z w).1
    · rw [if_pos (by rw [c1]), if_pos (Or.inr (Or.inl c1)), if_pos rfl]
      exact hrec
    rw [if_neg (fun z => c1 ((nI_eq (by omega) (by omega)).mp z))]
    by_cases c2 : k = 3
    · rw [if_pos (show nI k = 3 by rw [c2]; rfl)]
      by_cases c3 : (zW Z w).1 = 4
      · rw [if_pos (show nI (zW Z w).1 = 4 by rw [c3]; rfl), if_pos (Or.inr (Or.inr ⟨c3, c2⟩)), if_pos rfl]
        exact hrec
      · rw [if_neg (nlit c3 (by omega) (by decide)), if_neg (show ¬ (k = 0 ∨ k = (zW Z w).1 ∨ ((zW Z w).1 = 4 ∧ k = 3)) by omega), if_pos rfl]
        exact hrec
    · rw [if_neg (nlit c2 (by omega) (by decide)), if_neg (show ¬ (k = 0 ∨ k = (zW Z w).1 ∨ ((zW Z w).1 = 4 ∧ k = 3)) by omega), if_pos rfl]
      exact hrec
set_option maxHeartbeats 4000000 in
set_option maxRecDepth 100000 in
theorem l_342 {s : Nat → Option pu_S} {I : Nat → Nat → Int32} {P : Nat → Nat → Option Nat} {n : Nat × Nat} {Z : S_Z} {w : Nat} (hw : WW s I P n Z w) (hw5 : w < 5) {a c : Nat} {x : Option Nat} (e1 : I 49 w = nI a) (e2 : I 50 w = nI c) (ha : a ≤ 4) (hc : (a = 0 ∧ c = 0) ∨ (a = 1 ∧ c ≤ 9) ∨ (a = 2 ∧ c ≤ 3) ∨ (a = 3 ∧ 1 ≤ c ∧ c ≤ 9) ∨ (a = 4 ∧ 2 ≤ c ∧ c ≤ 5)) (hx : ∀ v, x = some v → v < w) {k195 : Option Nat → Option Nat → Option Nat → Option Nat → Int32 → Option Nat → Option Nat → Option Nat → Int32 → am_H → Option (Int32 × am_H)} {Q : Int32 × am_H → Prop} (kk : ∀ s' I' P' n' Z', WW s' I' P' n' Z' (w + 1) → Rn (k195 (some 1) (some 40) (some 47) (some 48) (nI nw) (some 49) (some 50) (some 51) (nI (w + 1)) (pu_hp s' I' P' J n')) Q) : Rn (fL_law_342 L xs k195 (some 1) (some 40) (some 47) (some 48) (nI nw) (some 49) (some 50) (some 51) (nI w) (some 51) (nI w) (oI x) (pu_hp s I P J n)) Q := by
  have hw1 := hw.u (a := 51) (x := oI x) (Or.inr (Or.inr rfl))
  obtain ⟨hZ, h, ⟨s40, s47, s48, s49, s50, s51⟩, ⟨hn, hn2⟩, hlk, hlt, hlw, hc1, hzf, hzw, hth⟩ := hw1
  unfold fL_law_342
  rw [as_b (pu_okI s51 (by omega) (by omega)), al_b (pu_okI s49 (by omega) (by omega)), u_n (by omega), e1, al_b (pu_okI s50 (by omega) (by omega)), u_n (by omega), e2, al_b (pu_okI s51 (by omega) (by omega)), u_s, rc_b (h.1.1 1 _ rfl)]
  refine Rn_bind (c_work hZ h ha hc (fun v e => by have := hx v e; omega) (by omega)) ?_
  rintro _ ⟨s1, I1, P1, rfl, h1, fs, fI⟩
  dsimp only
  rw [hzw, if_pos rfl, show (0 : Int32) = nI 0 from rfl]
  have hWB : W_B (znw Z) (a, c, x) := ⟨ha, hc, fun v e => by have := hx v e; omega⟩
  have w1 : WW s1 I1 P1 (n.1 + 1, n.2 + 4) (zsW Z (a, c, x)) (w + 1) := by
    refine ⟨zsW_B hZ hWB (by omega), h1, ⟨by rw [fs _ (by omega) (by omega)]; exact s40, by rw [fs _ (by omega) (by omega)]; exact s47, by rw [fs _ (by omega) (by omega)]; exact s48, by rw [fs _ (by omega) (by omega)]; exact s49, by rw [fs _ (by omega) (by omega)]; exact s50, by rw [fs _ (by omega) (by omega)]; exact s51⟩, ⟨by show n.1 + 1 = 51 + (w + 1); omega, by show n.2 + 4 ≤ 2000 + 4 * (w + 1); omega⟩, hlk.fr fun j => fI _ _ (by omega) (by omega), hlt.fr fun b j q => fI _ _ (by omega) (by omega), fun v hv => ?_, hc1, hzf, by show znw Z + 1 = w + 1; omega, hth⟩
    show I1 49 v = nI (upG (zW Z) (znw Z) (a, c, x) v).1 ∧ I1 50 v = nI (upG (zW Z) (znw Z) (a, c, x) v).2.1 ∧ I1 51 v = oI (upG (zW Z) (znw Z) (a, c, x) v).2.2
    rw [fI _ _ (by omega) (by omega), fI _ _ (by omega) (by omega), fI _ _ (by omega) (by omega), hzw]
    by_cases e : v = w
    · subst e
      rw [upG_s, u_s, u_n (by omega), u_n (by omega)]
      exact ⟨e1, e2, rfl⟩
    · rw [upG_n e]
      exact hlw v (by omega)
  exact l_372 w1 hw5 (kk s1 I1 P1 _ _ w1) 5 0 am_fu (by omega) (by unfold am_fu; omega)
set_option maxHeartbeats 4000000 in
set_option maxRecDepth 100000 in
/-- behind the works -/
theorem l_head (hL : L ≤ 260) {s : Nat → Option pu_S} {I : Nat → Nat → Int32} {P : Nat → Nat → Option Nat} {n : Nat × Nat} {Z : S_Z} (hw : WW s I P n Z nw) (hn5 : nw ≤ 5) : Rn ((am_rc (pu_hp s I P J n) (some 1) 8).bind fun b2 =>
    (fX8_head b2 (nI nw - (1 : Int32)) (pu_hp s I P J n)).bind fun y1 =>
    if y1.1 = (-1 : Int32) then
      (am_rc y1.2 (some 1) 8).bind fun b4 =>
      (fX8_head b4 (nI nw - (1 : Int32)) y1.2).bind fun y3 =>
      if y3.1 = (nI nw - (1 : Int32)) then
        (fL_cell L xs (14 : Int32) y3.2).bind fun y5 =>
        if (4 : Int32) = 0 then none else
        (am_na y5.2 0 (22 : Int32)).bind fun y6 =>
        (fL_law_489 L xs am_fu) (some 1) (some 40) (some 47) (some 48) (nI nw) (some 49) (some 50) (some 51) ((1 : Int32) + (y5.1 - y5.1 / (4 : Int32) * (4 : Int32))) y6.1 (-1 : Int32) y6.2
      else
      am_zr (0 : Int32) y3.2
    else
    am_zr (0 : Int32) y1.2) RQ := by
  obtain ⟨hZ, h, ⟨s40, s47, s48, s49, s50, s51⟩, ⟨hn, hn2⟩, hlk, hlt, hlw, hc1, hzf, hzw, hth⟩ := hw
  have hx : ∀ w, hdL nw = some w → w < znw Z := fun w e => by
    unfold hdL at e
    split at e
    · cases e
    · cases e; omega
  have hTB := hZ.2.2.2.1
  rw [rc_b (h.1.1 1 _ rfl), hdL_e]
  refine Rn_bind (c_head hZ h hx) ?_
  rintro _ ⟨I1, rfl, h1, f1⟩
  have hZ1 : Z_B (zsT Z (tw (zT Z), td (zT Z), tl (zT Z), hdL nw)) := hZ.setT ⟨hTB.1, hTB.2.1, hx⟩
  dsimp only
  rw [hth, if_pos (show oI none = (-1 : Int32) from rfl), rc_b (h1.1.1 1 _ rfl)]
  refine Rn_bind (c_head hZ1 h1 hx) ?_
  rintro _ ⟨I2, rfl, h2, f2⟩
  have hZ2 : Z_B (zsT (zsT Z (tw (zT Z), td (zT Z), tl (zT Z), hdL nw)) (tw (zT Z), td (zT Z), tl (zT Z), hdL nw)) := hZ1.setT ⟨hTB.1, hTB.2.1, hx⟩
  dsimp only
  rw [if_pos (show oI (th (zT (zsT Z (tw (zT Z), td (zT Z), tl (zT Z), hdL nw)))) = oI (hdL nw) from rfl), cell_l hL (by decide)]
  dsimp only
  have f12 : ∀ b j, 40 ≤ b → I2 b j = I b j := fun b j q => by rw [f2 b j q, f1 b j q]
  have hmod := Nat.mod_lt (cl L xs 14) (show 0 < 4 by decide)
  rw [if_neg (show ¬ (4 : Int32) = 0 by decide), rem_l (n := nat_lit 4) cl_lt (by decide) (by decide), na_b (m := 22) (by decide) (by decide)]
  dsimp only
  have e1 : (1 : Int32) + nI (cl L xs 14 % 4) = nI (1 + cl L xs 14 % 4) := nI_add 1 _
  rw [show (OfNat.ofNat 14 : Nat) = 14 from rfl, e1, show (-1 : Int32) = oI (qi 0) from rfl]
  have hrow : ∀ b, b ≤ n.1 → pu_row s (n.1 + 1) (some (1, 0, 22)) b = s b := fun b hb => pu_row_n (by omega)
  have hrI : ∀ b j, b ≤ n.1 → pu_row I2 (n.1 + 1) (fun _ => 0) b j = I2 b j := fun b j hb => by rw [pu_row_n (by omega)]
  have hFW : FW (pu_row s (n.1 + 1) (some (1, 0, 22))) (pu_row I2 (n.1 + 1) (fun _ => 0)) P (n.1 + 1, n.2 + 22) (zsT (zsT Z (tw (zT Z), td (zT Z), tl (zT Z), hdL nw)) (tw (zT Z), td (zT Z), tl (zT Z), hdL nw)) (n.1 + 1) nw := by
    refine ⟨hZ2, h2.law (by show n.1 ≤ n.1 + 1; omega) hrow (fun b j q1 _ => hrI b j q1) (fun _ _ _ => rfl), ⟨⟨by rw [hrow _ (by omega)]; exact s40, by rw [hrow _ (by omega)]; exact s47, by rw [hrow _ (by omega)]; exact s48, by rw [hrow _ (by omega)]; exact s49, by rw [hrow _ (by omega)]; exact s50, by rw [hrow _ (by omega)]; exact s51, pu_row_s _ _ _⟩, by omega, Nat.le_refl _⟩, ?_, ?_, ?_, hc1, hzw, hn5, hdL_e⟩
    · exact hlk.fr fun j => by rw [hrI _ _ (by omega), f12 _ _ (by omega)]
    · exact LT.fr (T := (tw (zT Z), td (zT Z), tl (zT Z), hdL nw)) hlt fun b j q => by rw [hrI _ _ (by omega), f12 _ _ (by omega)]
    · exact hlw.fr fun b j q1 q2 => by rw [hrI _ _ (by omega), f12 _ _ (by omega)]
  refine l_489 hL (by omega) (fun s' I' P' n' Z' w' z1 z2 z3 => ?_) (1 + cl L xs 14 % 4 + 1) 0 am_fu _ _ P _ _ (by omega) (by unfold am_fu; omega) hFW hzf (by show n.1 + 1 ≤ 100 + 20 * 0; omega) (by show n.2 + 22 ≤ 3000 + 400 * 0; omega)
  exact l_1521 (by omega) z1 4 0 am_fu s' I' P' n' none (by omega) (by unfold am_fu; omega) w' (by omega) (by omega) (fun x hx => by cases hx) rfl
set_option maxHeartbeats 4000000 in
set_option maxRecDepth 100000 in
theorem l_195 (hL : L ≤ 260) (hn5 : nw ≤ 5) : ∀ (m w N : Nat) (s : Nat → Option pu_S) (I : Nat → Nat → Int32) (P : Nat → Nat → Option Nat) (n : Nat × Nat) (Z : S_Z), w + m = nw → m < N → WW s I P n Z w → Rn (fL_law_195 L xs N (some 1) (some 40) (some 47) (some 48) (nI nw) (some 49) (some 50) (some 51) (nI w) (pu_hp s I P J n)) RQ := by
  intro m
  induction m with
  | zero =>
    intro w N s I P n Z hwm hNf hw
    obtain ⟨N, rfl⟩ : ∃ N', N = N' + 1 := ⟨N - 1, by omega⟩
    obtain rfl : w = nw := by omega
    show Rn (fL_law_195_b L xs (fL_law_195 L xs N) _ _ _ _ _ _ _ _ _ _) _
    unfold fL_law_195_b
    rw [if_pos (Int32.le_refl _)]
    exact l_head hL hw hn5
  | succ m ih =>
    intro w N s I P n Z hwm hNf hw
    obtain ⟨N, rfl⟩ : ∃ N', N = N' + 1 := ⟨N - 1, by omega⟩
    obtain ⟨-, -, ⟨s40, s47, s48, s49, s50, s51⟩, -⟩ := id hw
    have hcl := @cl_lt L xs (8 + w)
    have q1 : cl L xs (8 + w) / 8 ≤ cl L xs (8 + w) := Nat.div_le_self _ _
    have q2 : cl L xs (8 + w) / 256 ≤ cl L xs (8 + w) := Nat.div_le_self _ _
    have q3 : cl L xs (8 + w) / 1024 ≤ cl L xs (8 + w) := Nat.div_le_self _ _
    have m5 := Nat.mod_lt (cl L xs (8 + w)) (show 0 < 5 by decide)
    -- number and next of a work
    have two : ∀ c : Nat, ((cl L xs (8 + w) % 5 = 0 ∧ c = 0) ∨ (cl L xs (8 + w) % 5 = 1 ∧ c ≤ 9) ∨ (cl L xs (8 + w) % 5 = 2 ∧ c ≤ 3) ∨ (cl L xs (8 + w) % 5 = 3 ∧ 1 ≤ c ∧ c ≤ 9) ∨ (cl L xs (8 + w) % 5 = 4 ∧ 2 ≤ c ∧ c ≤ 5)) → Rn (fL_law_308 L xs (fL_law_195 L xs N) (some 1) (some 40) (some 47) (some 48) (nI nw) (some 49) (some 50) (some 51) (nI w) (nI (cl L xs (8 + w))) (some 50) (nI w) (nI c) (pu_hp s (pu_u I 49 w (nI (cl L xs (8 + w) % 5))) P J n)) RQ := by
      intro c hc
      have hw2 := (hw.u (a := 49) (x := nI (cl L xs (8 + w) % 5)) (Or.inl rfl)).u (a := 50) (x := nI c) (Or.inr (Or.inl rfl))
      have fin : ∀ x : Option Nat, (∀ v, x = some v → v < w) → Rn (fL_law_342 L xs (fL_law_195 L xs N) (some 1) (some 40) (some 47) (some 48) (nI nw) (some 49) (some 50) (some 51) (nI w) (some 51) (nI w) (oI x) (pu_hp s (pu_u (pu_u I 49 w (nI (cl L xs (8 + w) % 5))) 50 w (nI c)) P J n)) RQ := fun x hx =>
        l_342 hw2 (by omega) (a := cl L xs (8 + w) % 5) (c := c) (x := x) (by rw [u_n (by omega), u_s]) u_s (by omega) hc hx (fun s' I' P' n' Z' w' => ih (w + 1) N s' I' P' n' Z' (by omega) (by omega) w')
      unfold fL_law_308 fL_law_329
      rw [as_b (pu_okI s50 (by omega) (by omega))]
      by_cases c0 : w = 0
      · rw [if_pos (show nI w = 0 by rw [c0]; rfl)]
        exact fin none (fun v e => by cases e)
      rw [if_neg (nI_ne0 (by omega) (by omega)), if_neg (show ¬ (256 : Int32) = 0 by decide), if_neg (show ¬ (4 : Int32) = 0 by decide), ni_divl (n := nat_lit 256) hcl (by decide) (by decide), rem_l (n := nat_lit 4) (Nat.lt_of_le_of_lt (Nat.div_le_self _ _) hcl) (by decide) (by decide)]
      have m4 := Nat.mod_lt (cl L xs (8 + w) / 256) (show 0 < 4 by decide)
      by_cases c1 : cl L xs (8 + w) / 256 % 4 = 0
      · rw [if_pos (show nI (cl L xs (8 + w) / 256 % 4) = 0 by rw [c1]; rfl)]
        exact fin none (fun v e => by cases e)
      · have mw := Nat.mod_lt (cl L xs (8 + w) / 1024) (show 0 < w by omega)
        rw [if_neg (nI_ne0 (by omega) (by omega)), if_neg (show ¬ (1024 : Int32) = 0 by decide), if_neg (nI_ne0 (by omega) (by omega)), ni_divl (n := nat_lit 1024) hcl (by decide) (by decide), rem_n (Nat.lt_of_le_of_lt (Nat.div_le_self _ _) hcl) (by omega) (by omega)]
        exact fin (some (cl L xs (8 + w) / 1024 % w)) (fun v e => by cases e; exact mw)
    show Rn (fL_law_195_b L xs (fL_law_195 L xs N) _ _ _ _ _ _ _ _ _ _) _
    unfold fL_law_195_b
    rw [if_neg (fun z => by have := (nI_leI (a := nw) (b := w) (by omega) (by omega)).mp z; omega), show (8 : Int32) + nI w = nI (8 + w) from nI_add 8 w, cell_b hL (by omega)]
    dsimp only
    rw [if_neg (show ¬ (5 : Int32) = 0 by decide), rem_l (n := nat_lit 5) hcl (by decide) (by decide), as_b (pu_okI s49 (by omega) (by omega))]
    rw [al_b (pu_okI s49 (by omega) (by omega)), al_b (pu_okI s49 (by omega) (by omega)), al_b (pu_okI s49 (by omega) (by omega)), al_b (pu_okI s49 (by omega) (by omega)), u_s, if_neg (show ¬ (8 : Int32) = 0 by decide), if_neg (show ¬ (10 : Int32) = 0 by decide), if_neg (show ¬ (4 : Int32) = 0 by decide), if_neg (show ¬ (9 : Int32) = 0 by decide), ni_divl (n := nat_lit 8) hcl (by decide) (by decide), rem_l (n := nat_lit 10) (Nat.lt_of_le_of_lt (Nat.div_le_self _ _) hcl) (by decide) (by decide), rem_l (n := nat_lit 4) (Nat.lt_of_le_of_lt (Nat.div_le_self _ _) hcl) (by decide) (by decide), rem_l (n := nat_lit 9) (Nat.lt_of_le_of_lt (Nat.div_le_self _ _) hcl) (by decide) (by decide), show (1 : Int32) + nI (cl L xs (8 + w) / 8 % 9) = nI (1 + cl L xs (8 + w) / 8 % 9) from nI_add 1 _, show (2 : Int32) + nI (cl L xs (8 + w) / 8 % 4) = nI (2 + cl L xs (8 + w) / 8 % 4) from nI_add 2 _]
    have m10 := Nat.mod_lt (cl L xs (8 + w) / 8) (show 0 < 10 by decide)
    have m4 := Nat.mod_lt (cl L xs (8 + w) / 8) (show 0 < 4 by decide)
    have m9 := Nat.mod_lt (cl L xs (8 + w) / 8) (show 0 < 9 by decide)
    by_cases k0 : cl L xs (8 + w) % 5 = 0
    · rw [if_pos (show nI (cl L xs (8 + w) % 5) = 0 by rw [k0]; rfl)]
      exact two 0 (Or.inl ⟨k0, rfl⟩)
    rw [if_neg (nI_ne0 (by omega) (by omega))]
    by_cases k1 : cl L xs (8 + w) % 5 = 1
    · rw [if_pos (show nI (cl L xs (8 + w) % 5) = 1 by rw [k1]; rfl)]
      exact two _ (Or.inr (Or.inl ⟨k1, by omega⟩))
    rw [if_neg (nlit k1 (by omega) (by decide))]
    by_cases k2 : cl L xs (8 + w) % 5 = 2
    · rw [if_pos (show nI (cl L xs (8 + w) % 5) = 2 by rw [k2]; rfl)]
      exact two _ (Or.inr (Or.inr (Or.inl ⟨k2, by omega⟩)))
    rw [if_neg (nlit k2 (by omega) (by decide))]
    by_cases k3 : cl L xs (8 + w) % 5 = 3
    · rw [if_pos (show nI (cl L xs (8 + w) % 5) = 3 by rw [k3]; rfl)]
      exact two _ (Or.inr (Or.inr (Or.inr (Or.inl ⟨k3, by omega, by omega⟩))))
    rw [if_neg (nlit k3 (by omega) (by decide))]
    exact two _ (Or.inr (Or.inr (Or.inr (Or.inr ⟨by omega, by omega, by omega⟩))))
/-- as the seasons are set: j of them -/
def SW (s : Nat → Option pu_S) (I : Nat → Nat → Int32) (P : Nat → Nat → Option Nat) (n : Nat × Nat) (Z : S_Z) (j : Nat) : Prop := Z_B Z ∧ InvC s I P n Z ∧ (s 40 = some (1, 0, 26) ∧ s 47 = some (1, 0, 4) ∧ s 48 = some (1, 0, 4)) ∧ (n.1 = 48 ∧ n.2 ≤ 1000) ∧ LK I (zK Z 0) ∧ (∀ i, i < j → I 47 i = nI (tw (zT Z) i) ∧ I 48 i = nI (td (zT Z) i)) ∧ (∀ i, j ≤ i → tw (zT Z) i = 100 ∧ td (zT Z) i = 48) ∧ znc Z = 1 ∧ znf Z = 0 ∧ znw Z = 0 ∧ th (zT Z) = none
set_option maxHeartbeats 4000000 in
set_option maxRecDepth 100000 in
theorem l_121 {s : Nat → Option pu_S} {I : Nat → Nat → Int32} {P : Nat → Nat → Option Nat} {n : Nat × Nat} {Z : S_Z} {j w d : Nat} (hj : j < 4) (hwb : 50 ≤ w ∧ w ≤ 150) (hdb : 24 ≤ d ∧ d ≤ 72) (hw : SW s I P n Z j) {N : Nat} {Q : Int32 × am_H → Prop} (kk : ∀ I' Z', SW s I' P n Z' (j + 1) → Rn (fL_law_51 L xs N (some 1) (some 40) (some 47) (some 48) (nI (j + 1)) (pu_hp s I' P J n)) Q) : Rn (fL_law_121 L xs (fL_law_51 L xs N) (some 1) (some 40) (some 47) (some 48) (nI j) (some 48) (nI j) (nI d) (pu_hp s (pu_u I 47 j (nI w)) P J n)) Q := by
  obtain ⟨hZ, h, ⟨s40, s47, s48⟩, ⟨hn, hn2⟩, hlk, hlt, hle, hc1, hzf, hzw, hth⟩ := hw
  have h0 : InvC s (pu_u (pu_u I 47 j (nI w)) 48 j (nI d)) P n Z := h.law (Nat.le_refl _) (fun _ _ => rfl) (fun b i q1 q2 => by
    have hb : ¬ b = 47 ∧ ¬ b = 48 := by
      rcases q2 with q2 | q2
      · omega
      · refine ⟨fun e => ?_, fun e => ?_⟩
        · have := q2 4 (by rw [e]; exact s47); omega
        · have := q2 4 (by rw [e]; exact s48); omega
    rw [u_n (by omega), u_n (by omega)]) (fun _ _ _ => rfl)
  obtain ⟨tb1, tb2, tb3⟩ := hZ.2.2.2.1
  obtain ⟨l1, l2⟩ := hle j (Nat.le_refl _)
  unfold fL_law_121
  rw [as_b (pu_okI s48 (by omega) (by omega)), al_b (pu_okI s47 (by omega) (by omega)), u_n (by omega), u_s, rc_b (h0.1.1 1 _ rfl)]
  refine Rn_bind (c_season0 hZ h0 hj hwb) ?_
  rintro _ ⟨I1, rfl, h1, f1⟩
  dsimp only
  have hZ1 : Z_B (zsT Z (updN (tw (zT Z)) j w, td (zT Z), tl (zT Z), th (zT Z))) := hZ.setT ⟨fun x hx => by
    show (50 ≤ updN (tw (zT Z)) j w x ∧ updN (tw (zT Z)) j w x ≤ 150) ∧ _
    refine ⟨?_, (tb1 x hx).2⟩
    by_cases e : x = j
    · subst e; rw [updN_s]; exact hwb
    · rw [updN_n e]; exact (tb1 x hx).1, tb2, tb3⟩
  rw [l1, if_pos (show nI 100 = (100 : Int32) from rfl), al_b (pu_okI s48 (by omega) (by omega)), f1 _ _ (by omega), u_s, rc_b (h1.1.1 1 _ rfl)]
  refine Rn_bind (c_season1 hZ1 h1 hj hdb) ?_
  rintro _ ⟨I2, rfl, h2, f2⟩
  dsimp only
  have hZ2 : Z_B (zsT (zsT Z (updN (tw (zT Z)) j w, td (zT Z), tl (zT Z), th (zT Z))) (updN (tw (zT Z)) j w, updN (td (zT Z)) j d, tl (zT Z), th (zT Z))) := hZ1.setT ⟨fun x hx => by
    show _ ∧ 24 ≤ updN (td (zT Z)) j d x ∧ updN (td (zT Z)) j d x ≤ 72
    refine ⟨(hZ1.2.2.2.1.1 x hx).1, ?_⟩
    by_cases e : x = j
    · subst e; rw [updN_s]; exact hdb
    · rw [updN_n e]; exact (tb1 x hx).2, tb2, tb3⟩
  have f12 : ∀ b i, 40 ≤ b → I2 b i = pu_u (pu_u I 47 j (nI w)) 48 j (nI d) b i := fun b i q => by rw [f2 b i q, f1 b i q]
  rw [show td (zT (zsT Z (updN (tw (zT Z)) j w, td (zT Z), tl (zT Z), th (zT Z)))) j = 48 from l2, if_pos (show nI 48 = (48 : Int32) from rfl), nI_1]
  refine kk I2 _ ⟨hZ2, h2, ⟨s40, s47, s48⟩, ⟨hn, hn2⟩, hlk.fr fun i => by rw [f12 _ _ (by omega), u_n (by omega), u_n (by omega)], fun i hi => ?_, fun i hi => ?_, hc1, hzf, hzw, hth⟩
  · show I2 47 i = nI (updN (tw (zT Z)) j w i) ∧ I2 48 i = nI (updN (td (zT Z)) j d i)
    rw [f12 _ _ (by omega), f12 _ _ (by omega)]
    by_cases e : i = j
    · subst e
      rw [u_n (by omega), u_s, u_s, updN_s, updN_s]; exact ⟨rfl, rfl⟩
    · rw [u_n (by omega), u_n (by omega), u_n (by omega), u_n (by omega), updN_n e, updN_n e]
      exact hlt i (by omega)
  · show updN (tw (zT Z)) j w i = 100 ∧ updN (td (zT Z)) j d i = 48
    rw [updN_n (by omega), updN_n (by omega)]
    exact hle i (by omega)
set_option maxHeartbeats 4000000 in
set_option maxRecDepth 100000 in
theorem l_51 (hL : L ≤ 260) {s : Nat → Option pu_S} {P : Nat → Nat → Option Nat} {n : Nat × Nat} : ∀ (m j N : Nat) (I : Nat → Nat → Int32) (Z : S_Z), j + m = 4 → m < N → SW s I P n Z j → Rn (fL_law_51 L xs N (some 1) (some 40) (some 47) (some 48) (nI j) (pu_hp s I P J n)) RQ := by
  intro m
  induction m with
  | zero =>
    intro j N I Z hj hNf hw
    obtain ⟨N, rfl⟩ : ∃ N', N = N' + 1 := ⟨N - 1, by omega⟩
    obtain rfl : j = 4 := by omega
    obtain ⟨hZ, h, ⟨s40, s47, s48⟩, ⟨hn, hn2⟩, hlk, hlt, hle, hc1, hzf, hzw, hth⟩ := hw
    have m6 := Nat.mod_lt (cl L xs 7) (show 0 < 6 by decide)
    show Rn (fL_law_51_b L xs (fL_law_51 L xs N) _ _ _ _ _ _) _
    unfold fL_law_51_b
    rw [if_pos (show (4 : Int32) ≤ nI 4 from Int32.le_refl _), cell_l hL (by decide)]
    dsimp only
    rw [if_neg (show ¬ (6 : Int32) = 0 by decide), rem_l (n := nat_lit 6) cl_lt (by decide) (by decide), na_b (m := 6) (by decide) (by decide), na_b (m := 6) (by decide) (by decide), na_b (m := 6) (by decide) (by decide)]
    dsimp only
    rw [show (OfNat.ofNat 7 : Nat) = 7 from rfl, hn, show (0 : Int32) = nI 0 from rfl]
    have rs : ∀ b, b ≤ 48 → pu_row (pu_row (pu_row s (48 + 1) (some (1, 0, 6))) (48 + 1 + 1) (some (1, 0, 6))) (48 + 1 + 1 + 1) (some (1, 0, 6)) b = s b := fun b hb => by rw [pu_row_n (by omega), pu_row_n (by omega), pu_row_n (by omega)]
    have rI : ∀ b i, b ≤ 48 → pu_row (pu_row (pu_row I (48 + 1) fun _ => 0) (48 + 1 + 1) fun _ => 0) (48 + 1 + 1 + 1) (fun _ => 0) b i = I b i := fun b i hb => by rw [pu_row_n (by omega), pu_row_n (by omega), pu_row_n (by omega)]
    refine l_195 hL (nw := cl L xs 7 % 6) (by omega) (cl L xs 7 % 6) 0 am_fu _ _ P _ Z (by omega) (by unfold am_fu; omega) ⟨hZ, h.law (by show n.1 ≤ 48 + 1 + 1 + 1; omega) (fun b hb => rs b (by omega)) (fun b i q1 _ => rI b i (by omega)) (fun _ _ _ => rfl), ⟨by rw [rs _ (by omega)]; exact s40, by rw [rs _ (by omega)]; exact s47, by rw [rs _ (by omega)]; exact s48, ?_, ?_, ?_⟩, ⟨rfl, by show n.2 + 6 + 6 + 6 ≤ 2000 + 4 * 0; omega⟩, hlk.fr fun i => rI _ _ (by omega), fun i hi => ?_, fun w hw => absurd hw (Nat.not_lt_zero w), hc1, hzf, hzw, hth⟩
    · rw [pu_row_n (by decide), pu_row_n (by decide), pu_row_s]
    · rw [pu_row_n (by decide), pu_row_s]
    · rw [pu_row_s]
    · exact ⟨(rI 47 i (by omega)).trans (hlt i hi).1, (rI 48 i (by omega)).trans (hlt i hi).2⟩
  | succ m ih =>
    intro j N I Z hj hNf hw
    obtain ⟨N, rfl⟩ : ∃ N', N = N' + 1 := ⟨N - 1, by omega⟩
    obtain ⟨-, -, ⟨s40, s47, s48⟩, -⟩ := id hw
    have hcl := @cl_lt L xs (3 + j)
    have q1 : cl L xs (3 + j) / 4 ≤ cl L xs (3 + j) := Nat.div_le_self _ _
    have q2 : cl L xs (3 + j) / 512 ≤ cl L xs (3 + j) := Nat.div_le_self _ _
    have m3 := Nat.mod_lt (cl L xs (3 + j)) (show 0 < 3 by decide)
    have m5 := Nat.mod_lt (cl L xs (3 + j)) (show 0 < 5 by decide)
    have m101 := Nat.mod_lt (cl L xs (3 + j) / 4) (show 0 < 101 by decide)
    have m49 := Nat.mod_lt (cl L xs (3 + j) / 512) (show 0 < 49 by decide)
    have fin : ∀ w, 50 ≤ w ∧ w ≤ 150 → Rn (fL_law_92 L xs (fL_law_51 L xs N) (some 1) (some 40) (some 47) (some 48) (nI j) (nI (cl L xs (3 + j))) (some 47) (nI j) (nI w) (pu_hp s I P J n)) RQ := by
      intro w hwb
      unfold fL_law_92
      rw [as_b (pu_okI s47 (by omega) (by omega)), if_neg (show ¬ (5 : Int32) = 0 by decide), rem_l (n := nat_lit 5) hcl (by decide) (by decide)]
      by_cases c : cl L xs (3 + j) % 5 = 0
      · rw [if_pos (show nI (cl L xs (3 + j) % 5) = 0 by rw [c]; rfl)]
        exact l_121 (d := 48) (by omega) hwb (by omega) hw (fun I' Z' w' => ih (j + 1) N I' Z' (by omega) (by omega) w')
      · rw [if_neg (nI_ne0 (by omega) (by omega)), if_neg (show ¬ (512 : Int32) = 0 by decide), if_neg (show ¬ (49 : Int32) = 0 by decide), ni_divl (n := nat_lit 512) hcl (by decide) (by decide), rem_l (n := nat_lit 49) (Nat.lt_of_le_of_lt (Nat.div_le_self _ _) hcl) (by decide) (by decide), show (24 : Int32) + nI (cl L xs (3 + j) / 512 % 49) = nI (24 + cl L xs (3 + j) / 512 % 49) from nI_add 24 _]
        exact l_121 (by omega) hwb (by omega) hw (fun I' Z' w' => ih (j + 1) N I' Z' (by omega) (by omega) w')
    show Rn (fL_law_51_b L xs (fL_law_51 L xs N) _ _ _ _ _ _) _
    unfold fL_law_51_b
    rw [if_neg (fun z => by have := (nI_leI (a := 4) (b := j) (by omega) (by omega)).mp z; omega), show (3 : Int32) + nI j = nI (3 + j) from nI_add 3 j, cell_b hL (by omega)]
    dsimp only
    rw [if_neg (show ¬ (3 : Int32) = 0 by decide), rem_l (n := nat_lit 3) hcl (by decide) (by decide)]
    by_cases c : cl L xs (3 + j) % 3 = 0
    · rw [if_pos (show nI (cl L xs (3 + j) % 3) = 0 by rw [c]; rfl)]
      exact fin 100 (by omega)
    · rw [if_neg (nI_ne0 (by omega) (by omega)), if_neg (show ¬ (4 : Int32) = 0 by decide), if_neg (show ¬ (101 : Int32) = 0 by decide), ni_divl (n := nat_lit 4) hcl (by decide) (by decide), rem_l (n := nat_lit 101) (Nat.lt_of_le_of_lt (Nat.div_le_self _ _) hcl) (by decide) (by decide), show (50 : Int32) + nI (cl L xs (3 + j) / 4 % 101) = nI (50 + cl L xs (3 + j) / 4 % 101) from nI_add 50 _]
      exact fin _ (by omega)
set_option maxHeartbeats 4000000 in
set_option maxRecDepth 100000 in
theorem law_2 (hL : L ≤ 260) {s : Nat → Option pu_S} {I : Nat → Nat → Int32} {P : Nat → Nat → Option Nat} {n : Nat × Nat} (hn : n.1 = 39) (hn2 : n.2 = 767) (h39 : InvC s I P n Z_0) : Rn ((am_na (pu_hp s I P J n) 0 (26 : Int32)).bind fun y3 => (fL_cell L xs (0 : Int32) y3.2).bind fun y4 => (fL_cell L xs (1 : Int32) y4.2).bind fun y5 => (fL_cell L xs (2 : Int32) y5.2).bind fun y6 => (fL_clock (some 1) y4.1 y5.1 y6.1 (0 : Int32) y3.1 y6.2).bind fun y7 => if y7.1 = 0 then am_zr (0 : Int32) y7.2 else (am_na y7.2 0 (4 : Int32)).bind fun y8 => (am_na y8.2 0 (4 : Int32)).bind fun y9 => (fL_law_51 L xs am_fu) (some 1) y3.1 y8.1 y9.1 (0 : Int32) y9.2) RQ := by
  obtain ⟨n1, n2⟩ := n
  dsimp only at hn hn2
  subst hn
  subst hn2
  rw [na_b (m := 26) (by decide) (by decide)]
  dsimp only
  rw [cell_l hL (by decide)]
  dsimp only
  rw [cell_l hL (by decide)]
  dsimp only
  rw [cell_l hL (by decide)]
  dsimp only
  have h40 : InvC (pu_row s (39 + 1) (some (1, 0, 26))) (pu_row I (39 + 1) fun _ => 0) P (39 + 1, 767 + 26) Z_0 := h39.law (by show 39 ≤ 39 + 1; omega) (fun b hb => pu_row_n (by have hb : b ≤ 39 := hb; omega)) (fun b j q _ => by rw [pu_row_n (by have q : b ≤ 39 := q; omega)]) (fun _ _ _ => rfl)
  have s40' : pu_row s (39 + 1) (some (1, 0, 26)) 40 = some (1, 0, 26) := pu_row_s _ _ _
  have hck := l_clock (J := J) (x := cl L xs 0) (y := cl L xs 1) (z := cl L xs 2) (n := (39 + 1, 767 + 26)) rfl s40' cl_lt cl_lt h40
  refine Rn_bind hck ?_
  rintro _ ⟨s1, I1, P1, Z1, K1, rfl, hZ1, h1, s40, hLK, hKB, ⟨hc1, hzK⟩, hzf, hzw, hzT⟩
  dsimp only
  rw [if_neg (show ¬ (1 : Int32) = 0 by decide), na_b (m := 4) (by decide) (by decide), na_b (m := 4) (by decide) (by decide), show (0 : Int32) = nI 0 from rfl]
  dsimp only
  have rs : ∀ b, b ≤ 46 → pu_row (pu_row s1 (39 + 1 + 6 + 1) (some (1, 0, 4))) (39 + 1 + 6 + 1 + 1) (some (1, 0, 4)) b = s1 b := fun b hb => by rw [pu_row_n (by omega), pu_row_n (by omega)]
  have rI : ∀ b i, b ≤ 46 → pu_row (pu_row I1 (39 + 1 + 6 + 1) fun _ => nI 0) (39 + 1 + 6 + 1 + 1) (fun _ => nI 0) b i = I1 b i := fun b i hb => by rw [pu_row_n (by omega), pu_row_n (by omega)]
  refine l_51 hL 4 0 am_fu _ Z1 (by omega) (by unfold am_fu; omega) ⟨hZ1, h1.law (by show 39 + 1 + 6 ≤ 39 + 1 + 6 + 1 + 1; omega) (fun b hb => rs b hb) (fun b i q _ => rI b i q) (fun _ _ _ => rfl), ⟨by rw [rs _ (by omega)]; exact s40, ?_, ?_⟩, ⟨rfl, by decide⟩, ?_, fun i hi => absurd hi (Nat.not_lt_zero i), fun i _ => ?_, hc1, hzf, hzw, by rw [hzT]; rfl⟩
  · rw [pu_row_n (by decide), pu_row_s]
  · rw [pu_row_s]
  · rw [hzK]; exact hLK.fr fun i => rI _ _ (by omega)
  · rw [hzT]; exact ⟨rfl, rfl⟩
end BG
set_option maxHeartbeats 4000000 in
set_option maxRecDepth 100000 in
theorem pure_law (L : Nat) (xs : Nat → Int32) (hL : L ≤ 260) : ∃ h' : am_H, fL_law L xs am_h0 = some (1, h') ∧ h'.2.1 ≤ 600000 ∧ h'.2.2 ≤ 7302250 := by
  have key : Rn (fL_law L xs am_h0) RQ := by
    rw [h0_e]
    unfold fL_law
    rw [st_nw8 (k' := 1) (n' := 19) (by rfl) (by rfl) (by rfl) (by rfl) (by rfl)]
    dsimp only
    rw [i_X8_1]
    dsimp only [Option.bind_some]
    exact law_2 (L := L) (xs := xs) (s := shpk 39) (I := IL wRI) (P := PL wRP) (J := fun _ _ => 0) (n := (39, 767)) hL rfl rfl C_0
  obtain ⟨⟨r, h'⟩, e, q1, q2, q3⟩ := key
  dsimp only at q1
  subst q1
  exact ⟨h', e, q2, q3⟩
