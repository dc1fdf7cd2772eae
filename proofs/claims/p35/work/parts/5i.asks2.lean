/-! the law asks: mean, errors, drops, even, at; the loop over the faults -/
def qi (e : Nat) : Option Nat := if e = 0 then none else some (e - 1)
theorem qi_s {e : Nat} : oI (qi e) + 1 = nI e := by
  unfold qi
  by_cases h : e = 0
  · subst h; rfl
  · rw [if_neg h, show oI (some (e - 1)) = nI (e - 1) from rfl, nI_1, show e - 1 + 1 = e by omega]
theorem qi_1 {e : Nat} : qi (e + 1) = some e := by unfold qi; rw [if_neg (by omega)]; rfl
theorem gcd_st (a b : Nat) : Nat.gcd a b = Nat.gcd (b % a) a := Nat.gcd_rec a b
section AT
variable {L : Nat} {xs : Nat → Int32} {nw fc ao sn : Nat} {q : Option Nat} {Z : S_Z}
set_option maxHeartbeats 4000000 in
set_option maxRecDepth 100000 in
/-- behind the mean: new arrays, the works -/
theorem l_904 {s : Nat → Option pu_S} {J : Nat → Nat → Int64} {n : Nat × Nat} (hsn : sn < 4) (hq : ∀ k, q = some k → k < znf Z) {k489 : Option Nat → Option Nat → Option Nat → Option Nat → Int32 → Option Nat → Option Nat → Option Nat → Int32 → Option Nat → Int32 → am_H → Option (Int32 × am_H)} {Q : Int32 × am_H → Prop}
    (kk : ∀ s' I' P' n', n'.1 = n.1 + 5 → n'.2 = n.2 + 202 → FW s' I' P' n' Z ao nw → Rn (k489 (some 1) (some 40) (some 47) (some 48) (nI nw) (some 49) (some 50) (some 51) (nI fc) (some ao) (oI q + 1) (pu_hp s' I' P' J n')) Q) : ∀ (m up b N : Nat) (I : Nat → Nat → Int32) (P : Nat → Nat → Option Nat), up ≤ m → m < N → up < 1000000 → b < 1000000 → Nat.gcd up b = Nat.gcd (sumN (eZ (zK Z 0) (S_at (zK Z 0) (oF Z q) (tw (zT Z) sn) true 96) (td (zT Z) sn)) (knb (zK Z 0))) (knb (zK Z 0)) → FW s I P n Z ao nw → OUD I ao (S_at (zK Z 0) (oF Z q) (tw (zT Z) sn) true 96) →
    Rn (fL_law_904 L xs k489 N (some 1) (some 40) (some 47) (some 48) (nI nw) (some 49) (some 50) (some 51) (nI fc) (some ao) (oI q) (nI sn) (nI (sumN (eZ (zK Z 0) (S_at (zK Z 0) (oF Z q) (tw (zT Z) sn) true 96) (td (zT Z) sn)) (knb (zK Z 0)))) (nI up) (nI b) (pu_hp s I P J n)) Q := by
  intro m
  induction m with
  | zero =>
    intro up b N I P hup hN hup2 hb hg hw hO
    obtain ⟨N, rfl⟩ : ∃ N', N = N' + 1 := ⟨N - 1, by omega⟩
    obtain rfl : up = 0 := by omega
    obtain ⟨hZ, h, ⟨hls, ho1, ho2⟩, hlk, hlt, hlw, hc1, hnw, hn5, hhd⟩ := id hw
    have hK := (hZ.1.2 0 (by omega)).1
    have hF := oF_B hZ hq
    have hX := S_at_b (w := tw (zT Z) sn) (sip := true) hK hF 96
    have hd := (hZ.2.2.2.1.1 sn hsn).2.2
    have hs := sumE_le hK hX hd
    have hnb := hK.2.2.2.2.2.1
    have h40 := hls.1
    rw [Nat.gcd_zero_left] at hg
    generalize hE : sumN (eZ (zK Z 0) (S_at (zK Z 0) (oF Z q) (tw (zT Z) sn) true 96) (td (zT Z) sn)) (knb (zK Z 0)) = E at hs hg ⊢
    have hb1 : 1 ≤ b := by rw [hg]; exact Nat.gcd_pos_of_pos_right _ (by omega)
    have hb2 : b ≤ knb (zK Z 0) := by rw [hg]; exact Nat.gcd_le_right _ (by omega)
    have ediv : E / b ≤ E := Nat.div_le_self _ _
    have ediv2 : knb (zK Z 0) / b ≤ knb (zK Z 0) := Nat.div_le_self _ _
    show Rn (fL_law_904_b L xs k489 (fL_law_904 L xs k489 N) _ _ _ _ _ _ _ _ _ _ _ _ _ _ _ _) _
    unfold fL_law_904_b
    rw [if_pos (show nI 0 ≤ (0 : Int32) from Int32.le_refl _), rc_b (h.1.1 1 _ rfl), show (0 : Int32) = nI 0 from rfl]
    refine Rn_bind (c_mean hZ h (i := 0) (v4 := nI 0) (by omega) hsn hq (by decide)) ?_
    rintro _ ⟨I1, P1, rfl, f1⟩
    have w1 := hw.q f1
    dsimp only
    rw [if_pos (show nI 0 = (0 : Int32) from rfl), hE, ← hg, if_neg (show ¬ nI b = nI 0 from fun z => by have := (nI_eq (by omega) (by omega)).mp z; omega), ni_divn (by omega) (by omega) (by omega), if_pos rfl, rc_b (w1.2.1.1.1 1 _ rfl)]
    refine Rn_bind (c_mean hZ w1.2.1 (i := 0) (v4 := (1 : Int32)) (by omega) hsn hq (by decide)) ?_
    rintro _ ⟨I2, P2, rfl, f2⟩
    have w2 := w1.q f2
    dsimp only
    have f12 := f1.tr f2
    rw [if_neg (show ¬ (1 : Int32) = 0 by decide), hE, ← hg, al_l (pu_okI h40 (by decide) (by decide)), show I2 40 4 = nI (knb (zK Z 0)) from w2.2.2.2.1.2.2.2.2.1, if_neg (show ¬ nI b = nI 0 from fun z => by have := (nI_eq (by omega) (by omega)).mp z; omega), ni_divn (by omega) (by omega) (by omega), if_pos rfl]
    -- five new arrays
    rw [na_b (m := 64) (by decide) (by decide)]
    rw [na_b (m := 64) (by decide) (by decide)]
    rw [na_b (m := 4) (by decide) (by decide)]
    rw [na_b (m := 6) (by decide) (by decide)]
    rw [na_b (m := 64) (by decide) (by decide)]
    dsimp only
    have hn1 : (40 : Nat) ≤ n.1 := by omega
    generalize hs' : pu_row (pu_row (pu_row (pu_row (pu_row s (n.1 + 1) (some (1, 0, 64))) (n.1 + 1 + 1) (some (1, 0, 64))) (n.1 + 1 + 1 + 1) (some (1, 0, 4))) (n.1 + 1 + 1 + 1 + 1) (some (1, 0, 6))) (n.1 + 1 + 1 + 1 + 1 + 1) (some (1, 0, 64)) = s'
    generalize hI' : pu_row (pu_row (pu_row (pu_row (pu_row I2 (n.1 + 1) fun _ => 0) (n.1 + 1 + 1) fun _ => 0) (n.1 + 1 + 1 + 1) fun _ => 0) (n.1 + 1 + 1 + 1 + 1) fun _ => 0) (n.1 + 1 + 1 + 1 + 1 + 1) (fun _ => 0) = I'
    have es : ∀ b, b ≤ n.1 → s' b = s b := fun b hb => by rw [← hs', pu_row_n (by omega), pu_row_n (by omega), pu_row_n (by omega), pu_row_n (by omega), pu_row_n (by omega)]
    have eI : ∀ b j, b ≤ n.1 → I' b j = I2 b j := fun b j hb => by rw [← hI', pu_row_n (by omega), pu_row_n (by omega), pu_row_n (by omega), pu_row_n (by omega), pu_row_n (by omega)]
    have z2 : ∀ j, I' (n.1 + 1 + 2) j = 0 := fun j => by rw [← hI', pu_row_n (by omega), pu_row_n (by omega), pu_row_s]
    have z3 : ∀ j, I' (n.1 + 1 + 3) j = 0 := fun j => by rw [← hI', pu_row_n (by omega), pu_row_s]
    have wl : FW s' I' P2 (n.1 + 1 + 1 + 1 + 1 + 1, n.2 + 64 + 64 + 4 + 6 + 64) Z ao nw := w2.law (by show n.1 ≤ n.1 + 1 + 1 + 1 + 1 + 1; omega) es (fun b j h1 _ => eI b j h1)
    have hps : PLs s' ao (n.1 + 1) := by
      refine ⟨wl.2.2.1.1, ⟨?_, ?_, ?_, ?_, ?_⟩, ho1, by omega⟩
      · rw [← hs', pu_row_n (by omega), pu_row_n (by omega), pu_row_n (by omega), pu_row_n (by omega), pu_row_s]
      · rw [← hs', pu_row_n (by omega), pu_row_n (by omega), pu_row_n (by omega), pu_row_s]
      · rw [← hs', pu_row_n (by omega), pu_row_n (by omega), pu_row_s]
      · rw [← hs', pu_row_n (by omega), pu_row_s]
      · rw [← hs', pu_row_s]
    have hOU : OUD I' ao (S_at (zK Z 0) (oF Z q) (tw (zT Z) sn) true 96) := hO.fr fun j => by rw [eI _ _ ho2, f12.h _ _ (by omega)]
    exact l_1019 (a0 := n.1 + 1) hsn hq (by show n.1 + 1 + 1 + 1 + 1 + 1 = n.1 + 1 + 4; omega) wl hps hOU (fun I3 P3 w3 => kk s' I3 P3 _ (by show n.1 + 1 + 1 + 1 + 1 + 1 = n.1 + 5; omega) (by show n.2 + 64 + 64 + 4 + 6 + 64 = n.2 + 202; omega) w3) 96 0 am_fu 0 I' (by omega) (by unfold am_fu; omega) (fun _ _ _ => rfl) ⟨fun d _ => z2 d, fun v _ => z3 v, fun k hk => absurd hk (Nat.not_lt_zero k), fun k hk => absurd hk (Nat.not_lt_zero k), by decide, fun v _ => ⟨fun z => (by rw [Nat.zero_testBit] at z; cases z), fun z => (by cases z)⟩⟩
  | succ m ih =>
    intro up b N I P hup hN hup2 hb hg hw hO
    obtain ⟨N, rfl⟩ : ∃ N', N = N' + 1 := ⟨N - 1, by omega⟩
    by_cases h0 : up = 0
    · subst h0
      have := ih 0 b (N + 1) I P (Nat.zero_le _) (by omega) hup2 hb hg hw hO
      exact this
    · show Rn (fL_law_904_b L xs k489 (fL_law_904 L xs k489 N) _ _ _ _ _ _ _ _ _ _ _ _ _ _ _ _) _
      unfold fL_law_904_b
      rw [if_neg (nI_nle (by omega) (by omega)), if_neg (nI_ne0 (by omega) (by omega)), rem_n (by omega) (by omega) (by omega)]
      have hm := Nat.mod_lt b (show 0 < up by omega)
      exact ih (b % up) up N I P (by omega) (by omega) (by omega) hup2 (by rw [← gcd_st]; exact hg) hw hO
set_option maxHeartbeats 4000000 in
set_option maxRecDepth 100000 in
theorem l_798 {s : Nat → Option pu_S} {J : Nat → Nat → Int64} {n : Nat × Nat} (hsn : sn < 4) (hq : ∀ k, q = some k → k < znf Z) {k489 : Option Nat → Option Nat → Option Nat → Option Nat → Int32 → Option Nat → Option Nat → Option Nat → Int32 → Option Nat → Int32 → am_H → Option (Int32 × am_H)} {Q : Int32 × am_H → Prop}
    (kk : ∀ s' I' P' n', n'.1 = n.1 + 5 → n'.2 = n.2 + 202 → FW s' I' P' n' Z ao nw → Rn (k489 (some 1) (some 40) (some 47) (some 48) (nI nw) (some 49) (some 50) (some 51) (nI fc) (some ao) (oI q + 1) (pu_hp s' I' P' J n')) Q) : ∀ (m b N : Nat) (I : Nat → Nat → Int32) (P : Nat → Nat → Option Nat), b + m = knb (zK Z 0) → m < N → FW s I P n Z ao nw → OUD I ao (S_at (zK Z 0) (oF Z q) (tw (zT Z) sn) true 96) →
    Rn (fL_law_798 L xs k489 N (some 1) (some 40) (some 47) (some 48) (nI nw) (some 49) (some 50) (some 51) (nI fc) (some ao) (oI q) (nI sn) (nI (sumN (eZ (zK Z 0) (S_at (zK Z 0) (oF Z q) (tw (zT Z) sn) true 96) (td (zT Z) sn)) b)) (nI b) (pu_hp s I P J n)) Q := by
  intro m
  induction m with
  | zero =>
    intro b N I P hb hN hw hO
    obtain ⟨N, rfl⟩ : ∃ N', N = N' + 1 := ⟨N - 1, by omega⟩
    obtain rfl : b = knb (zK Z 0) := by omega
    obtain ⟨hZ, h, ⟨hls, ho1, ho2⟩, hlk, hlt, hlw, hc1, hnw, hn5, hhd⟩ := id hw
    have hK := (hZ.1.2 0 (by omega)).1
    have hX := S_at_b (w := tw (zT Z) sn) (sip := true) hK (oF_B hZ hq) 96
    have hs := sumE_le hK hX (hZ.2.2.2.1.1 sn hsn).2.2
    have hnb := hK.2.2.2.2.2.1
    have e4 := hlk.2.2.2.2.1
    show Rn (fL_law_798_b L xs k489 (fL_law_798 L xs k489 N) _ _ _ _ _ _ _ _ _ _ _ _ _ _ _) _
    unfold fL_law_798_b
    rw [al_l (pu_okI hls.1 (by decide) (by decide)), show I 40 4 = nI (knb (zK Z 0)) from e4, if_pos (Int32.le_refl _), al_l (pu_okI hls.1 (by decide) (by decide)), show I 40 4 = nI (knb (zK Z 0)) from e4]
    exact l_904 hsn hq kk 10000 _ (knb (zK Z 0)) am_fu I P (by omega) (by unfold am_fu; omega) (by omega) (by omega) rfl hw hO
  | succ m ih =>
    intro b N I P hb hN hw hO
    obtain ⟨N, rfl⟩ : ∃ N', N = N' + 1 := ⟨N - 1, by omega⟩
    obtain ⟨hZ, h, ⟨hls, ho1, ho2⟩, hlk, hlt, hlw, hc1, hnw, hn5, hhd⟩ := id hw
    have hK := (hZ.1.2 0 (by omega)).1
    have hX := S_at_b (w := tw (zT Z) sn) (sip := true) hK (oF_B hZ hq) 96
    have hd := (hZ.2.2.2.1.1 sn hsn).2.2
    have hnb := hK.2.2.2.2.2.1
    have e4 := hlk.2.2.2.2.1
    have hbn : b < knb (zK Z 0) := by omega
    have eD := hO.1 b (by omega)
    have hDle := dN_le hX (Nat.le_refl _) b
    have eT := (hlt sn hsn).2
    have hTle := tT_le hK hbn hd
    have hmul : (b + 1) * td (zT Z) sn ≤ 12 * 72 := Nat.mul_le_mul (by omega) hd
    have eTT : nI (b + 1) * nI (td (zT Z) sn) / nI (knb (zK Z 0)) = nI (tT (zK Z 0) (td (zT Z) sn) b) := by
      rw [pk_mul, ni_divn (by omega) (by omega) (by omega)]; rfl
    show Rn (fL_law_798_b L xs k489 (fL_law_798 L xs k489 N) _ _ _ _ _ _ _ _ _ _ _ _ _ _ _) _
    unfold fL_law_798_b
    rw [al_l (pu_okI hls.1 (by decide) (by decide)), show I 40 4 = nI (knb (zK Z 0)) from e4, if_neg (fun z => by have := (nI_leI (by omega) (by omega)).mp z; omega), al_b (pu_okI hls.2.2.2.2.2.2 (by omega) (by omega)), eD, al_b (pu_okI hls.2.2.1 (by omega) (by omega)), eT, al_l (pu_okI hls.1 (by decide) (by decide)), show I 40 4 = nI (knb (zK Z 0)) from e4, if_neg (nI_ne0 (by omega) (by omega)), nI_1, eTT, size_e (by omega) (by omega)]
    dsimp only [Option.bind_some]
    rw [rc_b (h.1.1 1 _ rfl), show (0 : Int32) = nI 0 from rfl]
    refine Rn_bind (c_drops hZ h (i := 0) (b := b) (by omega) hsn hq hbn) ?_
    rintro _ ⟨I1, P1, rfl, f1⟩
    have w1 := hw.q f1
    have hO1 : OUD I1 ao (S_at (zK Z 0) (oF Z q) (tw (zT Z) sn) true 96) := hO.fr fun j => f1.h _ _ (by omega)
    dsimp only
    rw [al_b (pu_okI hls.2.2.2.2.2.2 (by omega) (by omega)), hO1.1 b (by omega)]
    unfold fL_law_868
    have rest : ∀ x : Int32, dI (S_at (zK Z 0) (oF Z q) (tw (zT Z) sn) true 96) b = x → Rn (if dI (S_at (zK Z 0) (oF Z q) (tw (zT Z) sn) true 96) b = x then
        (am_rc (pu_hp s I1 P1 J n) (some 1) 8).bind fun b2 =>
        (fX8_error b2 (0 : Int32) (nI sn) (oI q) (nI b) (pu_hp s I1 P1 J n)).bind fun y1 =>
        if y1.1 = nI (dN (S_at (zK Z 0) (oF Z q) (tw (zT Z) sn) true 96) b) - nI (tT (zK Z 0) (td (zT Z) sn) b) then
          fL_law_798 L xs k489 N (some 1) (some 40) (some 47) (some 48) (nI nw) (some 49) (some 50) (some 51) (nI fc) (some ao) (oI q) (nI sn) (nI (sumN (eZ (zK Z 0) (S_at (zK Z 0) (oF Z q) (tw (zT Z) sn) true 96) (td (zT Z) sn)) b) + nI (szN (dN (S_at (zK Z 0) (oF Z q) (tw (zT Z) sn) true 96) b) (tT (zK Z 0) (td (zT Z) sn) b))) (nI b + 1) y1.2
        else am_zr (0 : Int32) y1.2
      else am_zr (0 : Int32) (pu_hp s I1 P1 J n)) Q := by
      intro x hx
      rw [if_pos hx, rc_b (w1.2.1.1.1 1 _ rfl), show (0 : Int32) = nI 0 from rfl]
      refine Rn_bind (c_error hZ w1.2.1 (i := 0) (b := b) (by omega) hsn hq hbn) ?_
      rintro _ ⟨I2, P2, rfl, f2⟩
      dsimp only
      rw [if_pos rfl, nI_add, nI_1]
      exact ih (b + 1) N I2 P2 (by omega) (by omega) (w1.q f2) (hO1.fr fun j => f2.h _ _ (by omega))
    rcases dN_dI hX (Nat.le_refl _) b with ⟨d1, d2⟩ | ⟨d1, d2⟩
    · rw [if_neg (show ¬ nI (dN (S_at (zK Z 0) (oF Z q) (tw (zT Z) sn) true 96) b) ≤ (95 : Int32) from fun z => by have := (nI_leI (b := 95) (by omega) (by omega)).mp z; omega)]
      exact rest (-1) d1
    · rw [if_pos (show nI (dN (S_at (zK Z 0) (oF Z q) (tw (zT Z) sn) true 96) b) ≤ (95 : Int32) from (nI_leI (b := 95) (by omega) (by omega)).mpr (by omega)), al_b (pu_okI hls.2.2.2.2.2.2 (by omega) (by omega)), hO1.1 b (by omega)]
      exact rest _ d1
set_option maxHeartbeats 4000000 in
set_option maxRecDepth 100000 in
theorem l_709 {s : Nat → Option pu_S} {J : Nat → Nat → Int64} {n : Nat × Nat} (hsn : sn < 4) (hq : ∀ k, q = some k → k < znf Z) {tick : Nat} (htk : tick ≤ 95) {v13 v14 v15 v16 v18 : Int32} {k666 : Option Nat → Option Nat → Option Nat → Option Nat → Int32 → Option Nat → Option Nat → Option Nat → Int32 → Option Nat → Int32 → Int32 → Int32 → Int32 → Int32 → Int32 → Int32 → am_H → Option (Int32 × am_H)} {Q : Int32 × am_H → Prop} : ∀ (m k N : Nat) (I : Nat → Nat → Int32) (P : Nat → Nat → Option Nat), k + m = 8 → m < N → FW s I P n Z ao nw → (∀ v, v < 8 → I ao (12 + v) = atN (zK Z 0) (S_at (zK Z 0) (oF Z q) (tw (zT Z) sn) true (tick + 1)) v) →
    (∀ I' P', SF I I' P P' → Rn (k666 (some 1) (some 40) (some 47) (some 48) (nI nw) (some 49) (some 50) (some 51) (nI fc) (some ao) (oI q) v13 v14 v15 v16 (nI sn) (v18 + 1) (pu_hp s I' P' J n)) Q) →
    Rn (fL_law_709 L xs k666 N (some 1) (some 40) (some 47) (some 48) (nI nw) (some 49) (some 50) (some 51) (nI fc) (some ao) (oI q) v13 v14 v15 v16 (nI sn) v18 (nI tick) (nI k) (pu_hp s I P J n)) Q := by
  intro m
  induction m with
  | zero =>
    intro k N I P hk hN hw hg kk
    obtain ⟨N, rfl⟩ : ∃ N', N = N' + 1 := ⟨N - 1, by omega⟩
    obtain rfl : k = 8 := by omega
    show Rn (fL_law_709_b L xs k666 (fL_law_709 L xs k666 N) _ _ _ _ _ _ _ _ _ _ _ _ _ _ _ _ _ _ _ _) _
    unfold fL_law_709_b
    rw [if_pos (show (8 : Int32) ≤ nI 8 from Int32.le_refl _)]
    exact kk I P ⟨fun _ _ _ => rfl, fun _ _ _ => rfl⟩
  | succ m ih =>
    intro k N I P hk hN hw hg kk
    obtain ⟨N, rfl⟩ : ∃ N', N = N' + 1 := ⟨N - 1, by omega⟩
    obtain ⟨hZ, h, ⟨hls, ho1, ho2⟩, hlk, hlt, hlw, hc1, hnw, hn5, hhd⟩ := id hw
    show Rn (fL_law_709_b L xs k666 (fL_law_709 L xs k666 N) _ _ _ _ _ _ _ _ _ _ _ _ _ _ _ _ _ _ _ _) _
    unfold fL_law_709_b
    rw [if_neg (fun z => by have := (nI_leI (a := 8) (b := k) (by omega) (by omega)).mp z; omega), rc_b (h.1.1 1 _ rfl), show (0 : Int32) = nI 0 from rfl]
    refine Rn_bind (c_at hZ h (i := 0) (t := tick) (w := k) (by omega) hsn hq htk (by omega)) ?_
    rintro _ ⟨I1, P1, rfl, f1⟩
    dsimp only
    rw [show (12 : Int32) + nI k = nI (12 + k) from nI_add 12 k, al_b (pu_okI hls.2.2.2.2.2.2 (by omega) (by omega)), f1.h _ _ (by omega), hg k (by omega), if_pos rfl, nI_1]
    exact ih (k + 1) N I1 P1 (by omega) (by omega) (hw.q f1) (fun v hv => by rw [f1.h _ _ (by omega)]; exact hg v hv) (fun I' P' f2 => kk I' P' (f1.tr f2))
set_option maxHeartbeats 4000000 in
set_option maxRecDepth 100000 in
theorem l_666 {J : Nat → Nat → Int64} (hL : L ≤ 260) (hsn : sn < 4) (hq : ∀ k, q = some k → k < znf Z) {F : S_F} (hFB : S_FB F) (hF : F = oF Z q ∨ (F.1 = 0 ∧ oF Z q = (0, 0, 0, 0))) {k489 : Option Nat → Option Nat → Option Nat → Option Nat → Int32 → Option Nat → Option Nat → Option Nat → Int32 → Option Nat → Int32 → am_H → Option (Int32 × am_H)} {Q : Int32 × am_H → Prop} : ∀ (m k N : Nat) (s : Nat → Option pu_S) (n : Nat × Nat) (I : Nat → Nat → Int32) (P : Nat → Nat → Option Nat), k + m = 4 → m < N → FW s I P n Z ao nw → (0 < k → OUD I ao (S_at (zK Z 0) (oF Z q) (tw (zT Z) sn) true 96)) →
    (∀ s' I' P' n', n'.1 ≤ n.1 + m + 5 → n'.2 ≤ n.2 + 3 * m + 202 → FW s' I' P' n' Z ao nw → Rn (k489 (some 1) (some 40) (some 47) (some 48) (nI nw) (some 49) (some 50) (some 51) (nI fc) (some ao) (oI q + 1) (pu_hp s' I' P' J n')) Q) →
    Rn (fL_law_666 L xs k489 N (some 1) (some 40) (some 47) (some 48) (nI nw) (some 49) (some 50) (some 51) (nI fc) (some ao) (oI q) (nI F.1) (nI F.2.1) (nI F.2.2.1) (nI F.2.2.2) (nI sn) (nI k) (pu_hp s I P J n)) Q := by
  intro m
  induction m with
  | zero =>
    intro k N s n I P hk hN hw hO kk
    obtain ⟨N, rfl⟩ : ∃ N', N = N' + 1 := ⟨N - 1, by omega⟩
    obtain rfl : k = 4 := by omega
    have hO := hO (by omega)
    obtain ⟨hZ, h, ⟨hls, ho1, ho2⟩, hlk, hlt, hlw, hc1, hnw, hn5, hhd⟩ := id hw
    show Rn (fL_law_666_b L xs k489 (fL_law_666 L xs k489 N) _ _ _ _ _ _ _ _ _ _ _ _ _ _ _ _ _ _) _
    unfold fL_law_666_b
    rw [if_pos (show (4 : Int32) ≤ nI 4 from Int32.le_refl _), rc_b (h.1.1 1 _ rfl), show (0 : Int32) = nI 0 from rfl]
    refine Rn_bind (c_even hZ h (i := 0) (v4 := nI 0) (by omega) hsn hq (by decide)) ?_
    rintro _ ⟨I1, P1, rfl, f1⟩
    have w1 := hw.q f1
    dsimp only
    rw [if_pos (show nI 0 = (0 : Int32) from rfl), al_l (pu_okI hls.2.2.2.2.2.2 (by decide) (by decide)), show I1 ao 20 = nI (xli (S_at (zK Z 0) (oF Z q) (tw (zT Z) sn) true 96)) from by rw [f1.h _ _ (by omega)]; exact hO.2.1, if_pos rfl, rc_b (w1.2.1.1.1 1 _ rfl)]
    refine Rn_bind (c_even hZ w1.2.1 (i := 0) (v4 := (1 : Int32)) (by omega) hsn hq (by decide)) ?_
    rintro _ ⟨I2, P2, rfl, f2⟩
    have w2 := w1.q f2
    dsimp only
    rw [if_neg (show ¬ (1 : Int32) = 0 by decide), al_l (pu_okI hls.2.2.2.2.2.2 (by decide) (by decide)), show I2 ao 21 = nI (xmo (S_at (zK Z 0) (oF Z q) (tw (zT Z) sn) true 96)) from by rw [f2.h _ _ (by omega), f1.h _ _ (by omega)]; exact hO.2.2, if_pos rfl]
    have hnb := (hZ.1.2 0 (by omega)).1.2.2.2.2.2.1
    exact l_798 hsn hq (fun s' I' P' n' e1 e2 w => kk s' I' P' n' (by omega) (by omega) w) (knb (zK Z 0)) 0 am_fu I2 P2 (by omega) (by unfold am_fu; omega) w2 (hO.fr fun j => by rw [f2.h _ _ (by omega), f1.h _ _ (by omega)])
  | succ m ih =>
    intro k N s n I P hk hN hw hO kk
    obtain ⟨N, rfl⟩ : ∃ N', N = N' + 1 := ⟨N - 1, by omega⟩
    obtain ⟨hZ, h, ⟨hls, ho1, ho2⟩, hlk, hlt, hlw, hc1, hnw, hn5, hhd⟩ := id hw
    have hK := (hZ.1.2 0 (by omega)).1
    have hwm := (hZ.2.2.2.1.1 sn hsn).1
    have eW := (hlt sn hsn).1
    have hmod := Nat.mod_lt (cl L xs (25 + k)) (show 0 < 96 by decide)
    show Rn (fL_law_666_b L xs k489 (fL_law_666 L xs k489 N) _ _ _ _ _ _ _ _ _ _ _ _ _ _ _ _ _ _) _
    unfold fL_law_666_b
    rw [if_neg (fun z => by have := (nI_leI (a := 4) (b := k) (by omega) (by omega)).mp z; omega), show (25 : Int32) + nI k = nI (25 + k) from nI_add 25 k, cell_b hL (by omega)]
    dsimp only
    rw [if_neg (show ¬ (96 : Int32) = 0 by decide), al_b (pu_okI hls.2.1 (by omega) (by omega)), eW, rem_l (n := nat_lit 96) cl_lt (by decide) (by decide)]
    refine Rn_bind (l_run (F := F) hls.1 hls.2.2.2.2.2.2 (by omega) hK hFB hwm (by omega) hlk) ?_
    rintro _ ⟨I1, rfl, g1, g2⟩
    have eX : ∀ t, S_at (zK Z 0) F (tw (zT Z) sn) true t = S_at (zK Z 0) (oF Z q) (tw (zT Z) sn) true t := by
      intro t
      rcases hF with e | ⟨e1, e2⟩
      · rw [e]
      · rw [S_at_k0 e1, e2]
    have w1 : FW (pu_row s (n.1 + 1) (some (1, 0, 3))) I1 P (n.1 + 1, n.2 + 3) Z ao nw := hw.law (by show n.1 ≤ n.1 + 1; omega) (fun b hb => pu_row_n (by omega)) g1
    rw [show (0 : Int32) = nI 0 from rfl]
    obtain ⟨o1, o2, o3, o4⟩ := g2
    refine l_709 hsn hq (tick := cl L xs (25 + k) % 96) (by omega) 8 0 am_fu I1 P (by omega) (by unfold am_fu; omega) w1 (fun v hv => by rw [o4 v hv, eX]) (fun I2 P2 f2 => ?_)
    rw [nI_1]
    refine ih (k + 1) N _ _ I2 P2 (by omega) (by omega) (w1.q f2) (fun _ => OUD.fr ⟨fun b hb => by rw [o1 b hb, eX], by rw [o2, eX], by rw [o3, eX]⟩ (fun j => f2.h _ _ (by omega))) (fun s' I' P' n' e1 e2 w => kk s' I' P' n' ?_ ?_ w)
    · have e1 : n'.1 ≤ n.1 + 1 + m + 5 := e1
      omega
    · have e2 : n'.2 ≤ n.2 + 3 + 3 * m + 202 := e2
      omega
end AT
