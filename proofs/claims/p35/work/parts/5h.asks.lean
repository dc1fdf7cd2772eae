/-! the law asks: shows, mean, errors, drops, even, at -/
theorem dN_dI {K : S_K} {X : S_X} {t : Nat} (hx : S_XB K t X) (ht : t ≤ 96) (b : Nat) : (dI X b = -1 ∧ dN X b = 96) ∨ (dI X b = nI (dN X b) ∧ dN X b < 96) := by
  unfold dI dN
  by_cases h : b < xdr X
  · have := hx.2.2.2.2.2.2.2.2.2 b h
    rw [if_pos h, if_pos h]
    exact Or.inr ⟨rfl, by omega⟩
  · rw [if_neg h, if_neg h]; exact Or.inl ⟨rfl, rfl⟩
/-- the object and the law's arrays, as the law goes on -/
def FW (s : Nat → Option pu_S) (I : Nat → Nat → Int32) (P : Nat → Nat → Option Nat) (n : Nat × Nat) (Z : S_Z) (ao nw : Nat) : Prop := Z_B Z ∧ InvC s I P n Z ∧ (LSz s ao ∧ 52 ≤ ao ∧ ao ≤ n.1) ∧ LK I (zK Z 0) ∧ LT I (zT Z) ∧ LWs I nw (zW Z) ∧ znc Z = 1 ∧ znw Z = nw ∧ nw ≤ 5 ∧ nI nw - 1 = oI (th (zT Z))
theorem SF.h {I I' : Nat → Nat → Int32} {P P' : Nat → Nat → Option Nat} (h : SF I I' P P') : ∀ b j, 40 ≤ b → I' b j = I b j := fun b j hb => h.1 b j (by unfold scC; omega)
theorem FW.q {s : Nat → Option pu_S} {I I' : Nat → Nat → Int32} {P P' : Nat → Nat → Option Nat} {n : Nat × Nat} {Z : S_Z} {ao nw : Nat} (h : FW s I P n Z ao nw) (f : SF I I' P P') : FW s I' P' n Z ao nw := by
  obtain ⟨h1, h2, h3, h4, h5, h6, h7⟩ := h
  exact ⟨h1, f.inv h2, h3, h4.fr fun j => f.h _ _ (by omega), h5.fr fun b j q => f.h _ _ (by omega), h6.fr fun b j q1 q2 => f.h _ _ (by omega), h7⟩
/-- the law's own writes: into arrays at ao, or from a0 on -/
theorem FW.law {s s' : Nat → Option pu_S} {I I' : Nat → Nat → Int32} {P : Nat → Nat → Option Nat} {n n' : Nat × Nat} {Z : S_Z} {ao nw : Nat} (h : FW s I P n Z ao nw) (hn : n.1 ≤ n'.1) (hs : ∀ b, b ≤ n.1 → s' b = s b) (hI : ∀ b j, b ≤ n.1 → ¬ b = ao → I' b j = I b j) : FW s' I' P n' Z ao nw := by
  obtain ⟨h1, h2, ⟨⟨a1, a2, a3, a4, a5, a6, a7⟩, b1, b2⟩, h4, h5, h6, h7⟩ := h
  refine ⟨h1, h2.law hn hs (fun b j q1 q2 => hI b j q1 (fun e => ?_)) (fun _ _ _ => rfl), ⟨⟨by rw [hs _ (by omega)]; exact a1, by rw [hs _ (by omega)]; exact a2, by rw [hs _ (by omega)]; exact a3, by rw [hs _ (by omega)]; exact a4, by rw [hs _ (by omega)]; exact a5, by rw [hs _ (by omega)]; exact a6, by rw [hs _ b2]; exact a7⟩, b1, by omega⟩, h4.fr fun j => hI _ _ (by omega) (by omega), h5.fr fun b j q => hI _ _ (by omega) (by omega), h6.fr fun b j q1 q2 => hI _ _ (by omega) (by omega), h7⟩
  rcases q2 with q2 | q2
  · omega
  · have := q2 22 (by rw [e]; exact a7)
    omega
/-- what the last run of the law left -/
def OUD (I : Nat → Nat → Int32) (ao : Nat) (X : S_X) : Prop := (∀ b, b < 12 → I ao b = nI (dN X b)) ∧ I ao 20 = nI (xli X) ∧ I ao 21 = nI (xmo X)
theorem OUD.fr {I I' : Nat → Nat → Int32} {ao : Nat} {X : S_X} (h : OUD I ao X) (hf : ∀ j, I' ao j = I ao j) : OUD I' ao X := ⟨fun b hb => by rw [hf]; exact h.1 b hb, by rw [hf]; exact h.2.1, by rw [hf]; exact h.2.2⟩
theorem size_e {a b : Nat} (ha : a < 1000000) (hb : b < 1000000) (h : am_H) : fL_size (nI a - nI b) h = some (nI (szN a b), h) := by
  unfold fL_size
  rw [← sz_neg ha hb]
  split <;> rfl
section AS
variable {L : Nat} {xs : Nat → Int32} {nw fc ao a0 sn : Nat} {q : Option Nat} {Z : S_Z}
set_option maxHeartbeats 4000000 in
set_option maxRecDepth 100000 in
theorem l_1455 {s : Nat → Option pu_S} {J : Nat → Nat → Int64} {n : Nat × Nat} (hsn : sn < 4) (hq : ∀ k, q = some k → k < znf Z) (ha : ao < a0) (ht4 : s (a0 + 4) = some (1, 0, 64)) {p : S_P} (hp : p = S_play (zW Z) (th (zT Z)) (dm (zK Z 0) (oF Z q) (tw (zT Z) sn)) 96) (hpf : pf p ≤ 60) {k489 : Option Nat → Option Nat → Option Nat → Option Nat → Int32 → Option Nat → Option Nat → Option Nat → Int32 → Option Nat → Int32 → am_H → Option (Int32 × am_H)} {Q : Int32 × am_H → Prop} : ∀ (m k N : Nat) (I : Nat → Nat → Int32) (P : Nat → Nat → Option Nat), k + m = 20 → m < N → FW s I P n Z ao nw → (∀ j, j < pf p → I (a0 + 4) j = nI (pg p j)) →
    (∀ I' P', SF I I' P P' → Rn (k489 (some 1) (some 40) (some 47) (some 48) (nI nw) (some 49) (some 50) (some 51) (nI fc) (some ao) (oI q + 1) (pu_hp s I' P' J n)) Q) →
    Rn (fL_law_1455 L xs k489 N (some 1) (some 40) (some 47) (some 48) (nI nw) (some 49) (some 50) (some 51) (nI fc) (some ao) (oI q) (nI sn) (some (a0 + 4)) (nI (pf p)) (nI k) (pu_hp s I P J n)) Q := by
  intro m
  induction m with
  | zero =>
    intro k N I P hk hNf hw hg kk
    obtain ⟨N, rfl⟩ : ∃ N', N = N' + 1 := ⟨N - 1, by omega⟩
    obtain rfl : k = 20 := by omega
    show Rn (fL_law_1455_b L xs k489 (fL_law_1455 L xs k489 N) _ _ _ _ _ _ _ _ _ _ _ _ _ _ _ _) _
    unfold fL_law_1455_b
    rw [if_pos (show (20 : Int32) ≤ nI 20 from Int32.le_refl _)]
    exact kk I P ⟨fun _ _ _ => rfl, fun _ _ _ => rfl⟩
  | succ m ih =>
    intro k N I P hk hNf hw hg kk
    obtain ⟨N, rfl⟩ : ∃ N', N = N' + 1 := ⟨N - 1, by omega⟩
    obtain ⟨hZ, h, -, -, -, -, hc1, -⟩ := id hw
    have hW := h.1
    show Rn (fL_law_1455_b L xs k489 (fL_law_1455 L xs k489 N) _ _ _ _ _ _ _ _ _ _ _ _ _ _ _ _) _
    unfold fL_law_1455_b
    rw [if_neg (fun z => by have := (nI_leI (a := 20) (b := k) (by omega) (by omega)).mp z; omega), rc_b (hW.1 1 _ rfl), show (10 : Int32) + nI k = nI (10 + k) from nI_add 10 k, show (0 : Int32) = nI 0 from rfl]
    refine Rn_bind (c_shows hZ h (by omega) hsn hq (w := 10 + k) (Or.inr (by omega))) ?_
    rintro _ ⟨I1, P1, rfl, f1⟩
    dsimp only
    have ea : shA (S_play (zW Z) (th (zT Z)) (dm (zK Z 0) (oF Z q) (tw (zT Z) sn)) 96) (10 + k) = if k < pf p then nI (pg p k) else -1 := by
      rw [← hp]
      unfold shA
      rw [if_neg (by omega), if_neg (by omega), if_neg (by omega), if_neg (by omega), show 10 + k - 10 = k by omega]
    rw [ea]
    unfold fL_law_1492
    have hrec := ih (k + 1) N I1 P1 (by omega) (by omega) (hw.q f1) (fun j hj => by rw [f1.h _ _ (by have := hw.2.2.1.2; omega)]; exact hg j hj) (fun I' P' f2 => kk I' P' (f1.tr f2))
    by_cases c : k < pf p
    · rw [if_pos c, if_neg (fun z => by have := (nI_leI (by omega) (by omega)).mp z; omega), al_b (pu_okI ht4 (by omega) (by omega)), f1.h _ _ (by have := hw.2.2.1.2; omega), hg k c, if_pos rfl, nI_1]
      exact hrec
    · rw [if_neg c, if_pos ((nI_leI (by omega) (by omega)).mpr (by omega)), if_pos rfl, nI_1]
      exact hrec
set_option maxHeartbeats 4000000 in
set_option maxRecDepth 100000 in
theorem l_1019 {s : Nat → Option pu_S} {J : Nat → Nat → Int64} {n : Nat × Nat} {P : Nat → Nat → Option Nat} {I0 : Nat → Nat → Int32} (hsn : sn < 4) (hq : ∀ k, q = some k → k < znf Z) (hn : n.1 = a0 + 4) (hw0 : FW s I0 P n Z ao nw) (hs : PLs s ao a0) (hO : OUD I0 ao (S_at (zK Z 0) (oF Z q) (tw (zT Z) sn) true 96)) {k489 : Option Nat → Option Nat → Option Nat → Option Nat → Int32 → Option Nat → Option Nat → Option Nat → Int32 → Option Nat → Int32 → am_H → Option (Int32 × am_H)} {Q : Int32 × am_H → Prop}
    (kk : ∀ I' P', FW s I' P' n Z ao nw → Rn (k489 (some 1) (some 40) (some 47) (some 48) (nI nw) (some 49) (some 50) (some 51) (nI fc) (some ao) (oI q + 1) (pu_hp s I' P' J n)) Q) : ∀ (m t N M : Nat) (I : Nat → Nat → Int32), t + m = 96 → m < N → FP a0 I0 I → PLx I (zW Z) nw a0 (S_play (zW Z) (th (zT Z)) (dm (zK Z 0) (oF Z q) (tw (zT Z) sn)) t) M →
    Rn (fL_law_1019 L xs k489 N (some 1) (some 40) (some 47) (some 48) (nI nw) (some 49) (some 50) (some 51) (nI fc) (some ao) (oI q) (nI sn) (some a0) (some (a0 + 1)) (nI (hN (zW Z) (pe (S_play (zW Z) (th (zT Z)) (dm (zK Z 0) (oF Z q) (tw (zT Z) sn)) t)) (pc (S_play (zW Z) (th (zT Z)) (dm (zK Z 0) (oF Z q) (tw (zT Z) sn)) t)))) (some (a0 + 2)) (some (a0 + 3)) (some (a0 + 4)) (nI M) (nI (ps (S_play (zW Z) (th (zT Z)) (dm (zK Z 0) (oF Z q) (tw (zT Z) sn)) t))) (nI (pf (S_play (zW Z) (th (zT Z)) (dm (zK Z 0) (oF Z q) (tw (zT Z) sn)) t))) (oI ((p1 (S_play (zW Z) (th (zT Z)) (dm (zK Z 0) (oF Z q) (tw (zT Z) sn)) t)).map fun x => x.1)) (oI ((p1 (S_play (zW Z) (th (zT Z)) (dm (zK Z 0) (oF Z q) (tw (zT Z) sn)) t)).map fun x => x.2)) (nI (pb (S_play (zW Z) (th (zT Z)) (dm (zK Z 0) (oF Z q) (tw (zT Z) sn)) t))) (nI t) (pu_hp s I P J n)) Q := by
  obtain ⟨hZ, h0, hls, hlk, hlt, hlw, hc1, hnw, hn5, hhd⟩ := id hw0
  have hK := (hZ.1.2 0 (by omega)).1
  have hF := oF_B hZ hq
  have hV : ∀ i, i < nw → W_B i (zW Z i) := fun i hi => hZ.2.2.1.2 i (by omega)
  have hh : ∀ w, th (zT Z) = some w → w < nw := fun w e => by have := hZ.2.2.2.1.2.2 w e; omega
  have hplay := fun t ht => P_L.play (w := tw (zT Z) sn) hV hn5 hh hK hF t ht
  have hnb := hK.2.2.2.2.2.1
  have hs2 := hs
  obtain ⟨-, ⟨t0, t1, t2, t3, t4⟩, b1, b2⟩ := hs2
  intro m
  induction m with
  | zero =>
    intro t N M I ht hNf hf hp
    obtain ⟨N, rfl⟩ : ∃ N', N = N' + 1 := ⟨N - 1, by omega⟩
    obtain rfl : t = 96 := by omega
    have hFW : FW s I P n Z ao nw := by
      obtain ⟨a1, a2, a3, a4, a5, a6, a7⟩ := hw0
      refine ⟨a1, a2.law (Nat.le_refl _) (fun _ _ => rfl) (fun b j q1 q2 => ?_) (fun _ _ _ => rfl), a3, a4.fr fun j => hf _ _ (by omega), a5.fr fun b j q => hf _ _ (by omega), a6.fr fun b j q1 q2 => hf _ _ (by omega), a7⟩
      by_cases e : b < a0
      · exact hf b j e
      · exfalso
        have hb : b = a0 ∨ b = a0 + 1 ∨ b = a0 + 2 ∨ b = a0 + 3 ∨ b = a0 + 4 := by omega
        rcases q2 with q2 | q2
        · omega
        · rcases hb with rfl | rfl | rfl | rfl | rfl
          · have := q2 _ t0; omega
          · have := q2 _ t1; omega
          · have := q2 _ t2; omega
          · have := q2 _ t3; omega
          · have := q2 _ t4; omega
    have hx96 := (S_at_b (w := tw (zT Z) sn) (sip := true) hK hF 96).2.2.2.2.2.2.1
    have hPF := (hplay 96 (Nat.le_refl _)).1.2.2
    unfold P_F at hPF
    have h := hFW.2.1
    have hW := h.1
    show Rn (fL_law_1019_b L xs k489 (fL_law_1019 L xs k489 N) _ _ _ _ _ _ _ _ _ _ _ _ _ _ _ _ _ _ _ _ _ _ _ _ _ _) _
    unfold fL_law_1019_b
    rw [if_pos (show (96 : Int32) ≤ nI 96 from Int32.le_refl _), rc_b (hW.1 1 _ rfl)]
    refine Rn_bind (c_shows hZ h (i := 0) (w := 0) (by omega) hsn hq (Or.inl (by omega))) ?_
    rintro _ ⟨I1, P1, rfl, f1⟩
    have w1 := hFW.q f1
    dsimp only
    rw [if_pos (show shA _ 0 = nI (ps _) from rfl), rc_b (w1.2.1.1.1 1 _ rfl)]
    refine Rn_bind (c_shows hZ w1.2.1 (i := 0) (w := 1) (by omega) hsn hq (Or.inl (by omega))) ?_
    rintro _ ⟨I2, P2, rfl, f2⟩
    have w2 := w1.q f2
    dsimp only
    rw [if_pos (show shA _ 1 = nI (pf _) from rfl), rc_b (w2.2.1.1.1 1 _ rfl)]
    refine Rn_bind (c_shows hZ w2.2.1 (i := 0) (w := 2) (by omega) hsn hq (Or.inl (by omega))) ?_
    rintro _ ⟨I3, P3, rfl, f3⟩
    have w3 := w2.q f3
    dsimp only
    rw [if_pos (show shA _ 2 = oI _ from rfl), rc_b (w3.2.1.1.1 1 _ rfl)]
    refine Rn_bind (c_shows hZ w3.2.1 (i := 0) (w := 3) (by omega) hsn hq (Or.inl (by omega))) ?_
    rintro _ ⟨I4, P4, rfl, f4⟩
    have w4 := w3.q f4
    have f14 := ((f1.tr f2).tr f3).tr f4
    dsimp only
    rw [if_pos (show shA _ 3 = oI _ from rfl)]
    rw [show (0 : Int32) = nI 0 from rfl]
    exact l_1455 hsn hq b2 t4 rfl (by omega) 20 0 am_fu I4 P4 (by omega) (by unfold am_fu; omega) w4 (fun j hj => by rw [f14.h _ _ (by omega)]; exact hp.2.2.1 j hj) (fun I' P' f5 => kk I' P' (w4.q f5))
  | succ m ih =>
    intro t N M I ht hNf hf hp
    obtain ⟨N, rfl⟩ : ∃ N', N = N' + 1 := ⟨N - 1, by omega⟩
    obtain ⟨hL, hpb⟩ := hplay t (by omega)
    have hxm := xdr_mono (w := tw (zT Z) sn) (t := t) hK hF
    have hx1 := (S_at_b (w := tw (zT Z) sn) (sip := true) hK hF (t + 1)).2.2.2.2.2.2.1
    have hdm : dm (zK Z 0) (oF Z q) (tw (zT Z) sn) t = xdr (S_at (zK Z 0) (oF Z q) (tw (zT Z) sn) true (t + 1)) - xdr (S_at (zK Z 0) (oF Z q) (tw (zT Z) sn) true t) := rfl
    have hpc : pc (S_play (zW Z) (th (zT Z)) (dm (zK Z 0) (oF Z q) (tw (zT Z) sn)) t) ≤ 60 := by
      have := hL.2.2; unfold P_F at this; omega
    show Rn (fL_law_1019_b L xs k489 (fL_law_1019 L xs k489 N) _ _ _ _ _ _ _ _ _ _ _ _ _ _ _ _ _ _ _ _ _ _ _ _ _ _) _
    unfold fL_law_1019_b
    rw [if_neg (fun z => by have := (nI_leI (a := 96) (b := t) (by omega) (by omega)).mp z; omega)]
    have eG : S_play (zW Z) (th (zT Z)) (dm (zK Z 0) (oF Z q) (tw (zT Z) sn)) (t + 1) = SG (zW Z) t (pc (S_play (zW Z) (th (zT Z)) (dm (zK Z 0) (oF Z q) (tw (zT Z) sn)) t)) (th (zT Z)) 0 (dm (zK Z 0) (oF Z q) (tw (zT Z) sn) t) (S_play (zW Z) (th (zT Z)) (dm (zK Z 0) (oF Z q) (tw (zT Z) sn)) t) := rfl
    have ih' := fun (M' : Nat) (I' : Nat → Nat → Int32) (g : FP a0 I0 I') => ih (t + 1) N M' I' (by omega) (by omega) g
    rw [eG] at ih'
    clear eG ih kk
    generalize S_play (zW Z) (th (zT Z)) (dm (zK Z 0) (oF Z q) (tw (zT Z) sn)) t = p at hL hpb hpc hp ih' ⊢
    rw [show (0 : Int32) = nI (hN (zW Z) (pe p) 0) from rfl]
    have hlw2 : LWs I nw (zW Z) := hlw.fr fun b j q1 q2 => hf _ _ (by omega)
    have e4 : I 40 4 = nI (knb (zK Z 0)) := by rw [hf _ _ (by omega)]; exact hlk.2.2.2.2.1
    have eD : ∀ b, b < 12 → I ao b = nI (dN (S_at (zK Z 0) (oF Z q) (tw (zT Z) sn) true 96) b) := fun b hb => by rw [hf _ _ (by omega)]; exact hO.1 b hb
    exact l_1032 hs hV hn5 (by omega) (w := tw (zT Z) sn) hK hF hh hhd (c0 := pc p) 100 0 am_fu (dm (zK Z 0) (oF Z q) (tw (zT Z) sn) t) p M (1500 * t) (5 * xdr (S_at (zK Z 0) (oF Z q) (tw (zT Z) sn) true t)) I (by omega) (by unfold am_fu; omega) (Nat.zero_le _) (Nat.le_refl _) (fun k h1 h2 => by omega) (by omega) (by omega) hlw2 e4 eD hp hL (by omega) (by omega) (fun I' M' f1 g1 => ih' M' I' (hf.tr f1) g1)
end AS
