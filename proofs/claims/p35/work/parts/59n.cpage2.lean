/-! the class reads its page as a clock -/
/-- what one part of the reading leaves -/
def CkQ (s : Nat → Option pu_S) (I : Nat → Nat → Int32) (P : Nat → Nat → Option Nat) (J : Nat → Nat → Int64) (n : Nat × Nat) (L : Nat) (c : Nat → Nat) (g : Nat) (q : S_O) (y : Int32 × am_H) : Prop := ∃ I', y = (b2 q.1.isSome, pu_hp s I' P J n) ∧ PgC I' L c q.2 ∧ (∀ K', q.1 = some K' → CKd I' K' g) ∧ FrC I I'
theorem FrC.of {I I' : Nat → Nat → Int32} (h : ∀ b j, ¬ (b = 5 ∧ j = 2) → I' b j = I b j) : FrC I I' := fun b j q _ => h b j q
theorem CkQ.t {s : Nat → Option pu_S} {I I1 : Nat → Nat → Int32} {P : Nat → Nat → Option Nat} {J : Nat → Nat → Int64} {n : Nat × Nat} {L : Nat} {c : Nat → Nat} {g : Nat} {q : S_O} {y : Int32 × am_H} (hf : FrC I I1) (h : CkQ s I1 P J n L c g q y) : CkQ s I P J n L c g q y := by
  obtain ⟨I', h1, h2, h3, h4⟩ := h
  exact ⟨I', h1, h2, h3, hf.t h4⟩
section CH
variable {s : Nat → Option pu_S} {I : Nat → Nat → Int32} {P : Nat → Nat → Option Nat} {J : Nat → Nat → Int64} {n : Nat × Nat}
variable {L : Nat} {c : Nat → Nat} {p : Nat} {K : S_K} {g : Nat}
theorem CkQ.no (h : PgC I L c p) : CkQ s I P J n L c g (none, p) (0, pu_hp s I P J n) := ⟨I, rfl, h, fun K' q => (by cases q), fun _ _ _ _ => rfl⟩
set_option maxHeartbeats 4000000 in
set_option maxRecDepth 100000 in
theorem c_addV (hW : pu_W s P) {a h o k : Nat} (hk : k < 3) (h0 : I 15 0 = nI k) : fX0_addVessel 15 (nI a) (nI h) (nI o) (pu_hp s I P J n) = some (pu_hp s (pu_u (pu_u (pu_u (pu_u (pu_u I 16 k (nI a)) 17 k (nI h)) 18 k (nI o)) 19 k (nI (a * h))) 15 0 (nI (k + 1))) P J n) := by
  unfold fX0_addVessel
  simp (disch := first | assumption | with_unfolding_all exact hW.1 _ _ rfl | rfl | exact pu_okI (by first | assumption | with_unfolding_all exact hW.1 _ _ rfl) (by omega) (by omega) | exact pu_oqI (by first | assumption | with_unfolding_all exact hW.1 _ _ rfl) (by omega) (by omega) | omega | decide) only [↓reduceIte, ↓gi_b, ↓pi_b, ↓gr_b, ↓pr_b, ↓al_b, ↓as_b, ↓al_3, ↓as_3, ↓al_12, ↓as_12, ↓al_l, ↓as_l, ↓rc_b, ↓Option.bind_some, ↓zr0_b, ↓zr1_b, ↓zrb_b, ↓pz0_b, ↓pz1_b, al_b, as_b, rc_b, gi_b, pi_b, gr_b, zr0, zr1, zrb, u_s, u_n, v_s, v_n, ↓isIn_b, ite_T, ite_F, il_t, il_f, li_t, li_f, it_t, it_f, ti_t, ti_f, ie_t, ie_f, ei_t, ei_f, nn_le_t, nn_le_f, nn_lt_t, nn_lt_f, nn_eq_t, nn_eq_f, nI_1, nI_add, ni_addl, ni_ladd, pk_mul, ni_mull, b2_t, b2_f, b2_0, one0, m1_eq, ni_m1, reduceCtorEq, Bool.false_eq_true, nI_clamp, if_true, Option.some.injEq, Prod.mk.injEq, and_true, true_and, Nat.reduceAdd, Nat.reduceMul, Nat.reduceSub, Nat.reduceEqDiff, Nat.reduceLeDiff, Nat.reduceLT, ↓gr15_1 hW, ↓gr15_2 hW, ↓gr15_3 hW, ↓gr15_4 hW, h0]
theorem addV_ck {I' : Nat → Nat → Int32} {a h o : Nat} (hc : CKd I K 0) (e : I' = pu_u (pu_u (pu_u (pu_u (pu_u I 16 (kn K) (nI a)) 17 (kn K) (nI h)) 18 (kn K) (nI o)) 19 (kn K) (nI (a * h))) 15 0 (nI (kn K + 1))) : CKd I' (pgK 2 o (pgK 1 h (pgK 0 a K))) 0 := by
  obtain ⟨h1, h2, h3, h4, h5, h6⟩ := hc
  subst e
  refine ⟨u_s, ?_, fun v hv => ?_, fun b hb => ?_, fun q => by omega, fun q => by omega⟩
  · rw [u_n (by omega), u_n (by omega), u_n (by omega), u_n (by omega), u_n (by omega), h2]; rfl
  · have hv : v < kn K + 1 := hv
    show _ = nI (updN (kA K) (kn K) a v) ∧ _ = nI (updN (kH K) (kn K) h v) ∧ _ = nI (updN (kO K) (kn K) o v) ∧ _ = nI (updN (kA K) (kn K) a v * updN (kH K) (kn K) h v)
    by_cases q : v = kn K
    · subst q
      rw [updN_s, updN_s, updN_s]
      refine ⟨?_, ?_, ?_, ?_⟩
      · rw [u_n (by omega), u_n (by omega), u_n (by omega), u_n (by omega), u_s]
      · rw [u_n (by omega), u_n (by omega), u_n (by omega), u_s]
      · rw [u_n (by omega), u_n (by omega), u_s]
      · rw [u_n (by omega), u_s]
    · rw [updN_n q, updN_n q, updN_n q]
      obtain ⟨a1, a2, a3, a4⟩ := h3 v (by omega)
      refine ⟨?_, ?_, ?_, ?_⟩
      · rw [u_n (by omega), u_n (by omega), u_n (by omega), u_n (by omega), u_n (by omega), a1]
      · rw [u_n (by omega), u_n (by omega), u_n (by omega), u_n (by omega), u_n (by omega), a2]
      · rw [u_n (by omega), u_n (by omega), u_n (by omega), u_n (by omega), u_n (by omega), a3]
      · rw [u_n (by omega), u_n (by omega), u_n (by omega), u_n (by omega), u_n (by omega), a4]
  · show _ = nI (kM K b)
    have hb : b < knb K := hb
    rw [u_n (by omega), u_n (by omega), u_n (by omega), u_n (by omega), u_n (by omega), h4 b hb]
set_option maxHeartbeats 4000000 in
set_option maxRecDepth 100000 in
theorem c_ves (hW : pu_W s P) (h : PgC I L c p) (hk : CKd I K 0) (hn : kn K < 3) : Rn (fX3_readVessel 5 (some 15) (pu_hp s I P J n)) (CkQ s I P J n L c 0 (rVes L c K p)) := by
  have h5 := hW.1 5 _ rfl
  have h15 := hW.1 15 _ rfl
  unfold fX3_readVessel rVes
  rw [rc_b h5]
  refine Rn_bind (c_num hW h (lo := 1) (hi := 30) rfl rfl (by omega) (by omega)) ?_
  rintro _ ⟨I1, rfl, g1, b1, f1⟩
  generalize rN L c 1 30 p = r at g1 b1 ⊢
  obtain ⟨r, p1⟩ := r
  dsimp only at g1 b1 ⊢
  cases r with
  | none =>
    rw [if_pos (show oN none = -1 from rfl)]
    exact Rn_some (CkQ.t (FrC.of f1) (CkQ.no g1))
  | some a =>
  have b1 := b1 a rfl
  rw [if_neg (show ¬ oN (some a) = -1 from fun q => by rw [show oN (some a) = nI a from rfl, ni_m1 (by omega)] at q; exact q), rc_b h5]
  refine Rn_mono ?_ (fun y hy => CkQ.t (FrC.of f1) hy)
  replace hk := hk.fr f1
  replace h := g1
  clear f1 g1
  show Rn _ (CkQ s I1 P J n L c 0 (if cdN L c p1 = 120 then _ else _))
  by_cases s1 : cdN L c p1 = 120
  case neg =>
    rw [c_sg0 hW h (sg := 120) (v := 120) rfl (by omega) s1, if_neg s1]
    exact Rn_some (CkQ.no h)
  obtain ⟨e1, g1⟩ := c_sg1 (J := J) (n := n) hW h (sg := 120) (v := 120) rfl (by omega) s1
  rw [e1, if_pos s1]
  dsimp only [Option.bind_some]
  rw [if_neg (show ¬ (1 : Int32) = 0 by decide), rc_b h5]
  refine Rn_bind (c_num hW g1 (lo := 1) (hi := 60) rfl rfl (by omega) (by omega)) ?_
  rintro _ ⟨I2, rfl, g2, b2, f2⟩
  generalize rN L c 1 60 (p1 + 1) = r at g2 b2 ⊢
  obtain ⟨r, p2⟩ := r
  dsimp only at g2 b2 ⊢
  have f2' : ∀ b j, ¬ (b = 5 ∧ j = 2) → I2 b j = I1 b j := fun b j q => by rw [f2 b j q, u_n (by omega)]
  cases r with
  | none =>
    rw [if_pos (show oN none = -1 from rfl)]
    exact Rn_some (CkQ.t (FrC.of f2') (CkQ.no g2))
  | some h' =>
  have b2 := b2 h' rfl
  rw [if_neg (show ¬ oN (some h') = -1 from fun q => by rw [show oN (some h') = nI h' from rfl, ni_m1 (by omega)] at q; exact q), rc_b h5]
  refine Rn_mono ?_ (fun y hy => CkQ.t (FrC.of f2') hy)
  replace hk := hk.fr f2'
  replace h := g2
  clear f2 f2' g1 g2 e1
  show Rn _ (CkQ s I2 P J n L c 0 (if cdN L c p2 = 104 then _ else _))
  by_cases s2 : cdN L c p2 = 104
  case neg =>
    rw [c_sg0 hW h (sg := 104) (v := 104) rfl (by omega) s2, if_neg s2]
    exact Rn_some (CkQ.no h)
  obtain ⟨e1, g1⟩ := c_sg1 (J := J) (n := n) hW h (sg := 104) (v := 104) rfl (by omega) s2
  rw [e1, if_pos s2]
  dsimp only [Option.bind_some]
  rw [if_neg (show ¬ (1 : Int32) = 0 by decide), rc_b h5]
  refine Rn_bind (c_num hW g1 (lo := 1) (hi := 40) rfl rfl (by omega) (by omega)) ?_
  rintro _ ⟨I3, rfl, g3, b3, f3⟩
  generalize rN L c 1 40 (p2 + 1) = r at g3 b3 ⊢
  obtain ⟨r, p3⟩ := r
  dsimp only at g3 b3 ⊢
  have f3' : ∀ b j, ¬ (b = 5 ∧ j = 2) → I3 b j = I2 b j := fun b j q => by rw [f3 b j q, u_n (by omega)]
  cases r with
  | none =>
    rw [if_pos (show oN none = -1 from rfl)]
    exact Rn_some (CkQ.t (FrC.of f3') (CkQ.no g3))
  | some o =>
  have b3 := b3 o rfl
  rw [if_neg (show ¬ oN (some o) = -1 from fun q => by rw [show oN (some o) = nI o from rfl, ni_m1 (by omega)] at q; exact q), rc_b h15]
  refine Rn_mono ?_ (fun y hy => CkQ.t (FrC.of f3') hy)
  replace hk := hk.fr f3'
  rw [show oN (some a) = nI a from rfl, show oN (some h') = nI h' from rfl, show oN (some o) = nI o from rfl, c_addV hW hn hk.1]
  refine Rn_some ⟨_, rfl, g3.fr (fun b j q => by rw [u_n (by omega), u_n (by omega), u_n (by omega), u_n (by omega), u_n (by omega)]), fun K' q => ?_, fun b j q1 q2 => by rw [u_n (by omega), u_n (by omega), u_n (by omega), u_n (by omega), u_n (by omega)]⟩
  cases q
  exact addV_ck hk rfl
theorem rVes_n {p' : Nat} {K' : S_K} (h : rVes L c K p = (some K', p')) : kn K' = kn K + 1 ∧ knb K' = knb K := by
  unfold rVes at h
  split at h
  · cases h
  · split at h
    · split at h
      · cases h
      · split at h
        · split at h
          · cases h
          · cases h; exact ⟨rfl, rfl⟩
        · cases h
    · cases h
set_option maxHeartbeats 4000000 in
set_option maxRecDepth 100000 in
theorem c_vs0 {N v : Nat} (hv : v < 1000) (h : am_H) : fX3_readVessels_4 (N + 1) (some 5) (some 15) 0 (nI v) h = some (1, h) := by
  show fX3_readVessels_4_b _ _ _ _ _ _ = _
  unfold fX3_readVessels_4_b
  by_cases q : (3 : Int32) ≤ nI v
  · rw [if_pos q]; rfl
  · rw [if_neg q, if_pos rfl]; rfl
set_option maxHeartbeats 4000000 in
set_option maxRecDepth 100000 in
theorem c_vs (hW : pu_W s P) : ∀ (m N : Nat) (K : S_K) (p : Nat) (I : Nat → Nat → Int32), kn K + m = 3 → m + 1 < N → PgC I L c p → CKd I K 0 → Rn (fX3_readVessels_4 N (some 5) (some 15) 1 (nI (kn K)) (pu_hp s I P J n)) (CkQ s I P J n L c 0 (rVs L c m K p)) := by
  have h5 := hW.1 5 _ rfl
  intro m
  induction m with
  | zero =>
    intro N K p I hm hN h hk
    obtain ⟨N, rfl⟩ : ∃ N', N = N' + 1 := ⟨N - 1, by omega⟩
    show Rn (fX3_readVessels_4_b _ _ _ _ _ _) _
    unfold fX3_readVessels_4_b
    rw [if_pos (by rw [il_t (by show 3 ≤ kn K; omega) (by omega)]; trivial)]
    exact Rn_some ⟨I, rfl, h, fun K' q => by cases q; exact hk, fun _ _ _ _ => rfl⟩
  | succ m ih =>
    intro N K p I hm hN h hk
    obtain ⟨N, rfl⟩ : ∃ N', N = N' + 1 := ⟨N - 1, by omega⟩
    show Rn (fX3_readVessels_4_b (fX3_readVessels_4 N) _ _ _ _ _) _
    unfold fX3_readVessels_4_b
    rw [if_neg (by rw [il_f (by show kn K < 3; omega) (by decide)]; exact id), if_neg (by decide), rc_b h5]
    refine Rn_bind (c_ves hW h hk (by omega)) ?_
    rintro _ ⟨I1, rfl, g1, k1, f1⟩
    rw [rVs]
    generalize hr : rVes L c K p = r at g1 k1 ⊢
    obtain ⟨r, p1⟩ := r
    dsimp only at g1 k1 ⊢
    cases r with
    | none =>
      rw [if_pos (show b2 (none : Option S_K).isSome = 0 from rfl)]
      exact Rn_some (CkQ.t f1 (CkQ.no g1))
    | some K1 =>
    dsimp only
    obtain ⟨en, -⟩ := rVes_n hr
    have k1 := k1 K1 rfl
    rw [if_neg (show ¬ b2 (some K1).isSome = 0 from by show ¬ (1 : Int32) = 0; decide)]
    refine Rn_mono ?_ (fun y hy => CkQ.t f1 hy)
    have done : ∀ I2 : Nat → Nat → Int32, PgC I2 L c p1 → CKd I2 K1 0 → Rn (fX3_readVessels_4 N (some 5) (some 15) 0 (nI (kn K) + 1) (pu_hp s I2 P J n)) (CkQ s I2 P J n L c 0 (some K1, p1)) := by
      intro I2 q1 q2
      obtain ⟨N, rfl⟩ : ∃ N', N = N' + 1 := ⟨N - 1, by omega⟩
      rw [nI_1, c_vs0 (by omega)]
      exact Rn_some ⟨I2, rfl, q1, fun K' q => by cases q; exact q2, fun _ _ _ _ => rfl⟩
    by_cases hm1 : 1 ≤ m
    case neg =>
      rw [if_neg (show ¬ (1 ≤ m ∧ cdN L c p1 = 62) from fun q => hm1 q.1), if_pos (show (3 : Int32) ≤ nI (kn K) + 1 by rw [nI_1, il_t (by show 3 ≤ kn K + 1; omega) (by omega)]; trivial)]
      exact done I1 g1 k1
    rw [if_neg (show ¬ (3 : Int32) ≤ nI (kn K) + 1 by rw [nI_1, il_f (by show kn K + 1 < 3; omega) (by decide)]; exact id), rc_b h5]
    by_cases s1 : cdN L c p1 = 62
    case neg =>
      rw [c_sg0 hW g1 (sg := 62) (v := 62) rfl (by omega) s1, if_neg (show ¬ (1 ≤ m ∧ cdN L c p1 = 62) from fun q => s1 q.2)]
      exact done I1 g1 k1
    obtain ⟨e1, g2⟩ := c_sg1 (J := J) (n := n) hW g1 (sg := 62) (v := 62) rfl (by omega) s1
    rw [e1, if_pos (show 1 ≤ m ∧ cdN L c p1 = 62 from ⟨hm1, s1⟩)]
    dsimp only [Option.bind_some]
    rw [if_neg (show ¬ (1 : Int32) = 0 by decide)]
    show Rn (fX3_readVessels_4 N (some 5) (some 15) 1 (nI (kn K) + 1) _) _
    rw [nI_1, ← en]
    exact Rn_mono (ih N K1 (p1 + 1) _ (by omega) (by omega) g2 (k1.fr fun b j q => u_n (by omega))) (fun y hy => CkQ.t (FrC.of fun b j q => u_n (by omega)) hy)
set_option maxHeartbeats 4000000 in
set_option maxRecDepth 100000 in
theorem c_cyl (hW : pu_W s P) (h : PgC I L c p) (hk : CKd I K 0) : Rn (fX3_readCylinder 5 (some 15) (pu_hp s I P J n)) (CkQ s I P J n L c 1 (rCyl L c K p)) := by
  have h5 := hW.1 5 _ rfl
  have h15 := hW.1 15 _ rfl
  unfold fX3_readCylinder rCyl
  rw [rc_b h5]
  by_cases s1 : cdN L c p = 61
  case neg =>
    rw [c_sg0 hW h (sg := 61) (v := 61) rfl (by omega) s1, if_neg s1]
    exact Rn_some (CkQ.no h)
  obtain ⟨e1, g1⟩ := c_sg1 (J := J) (n := n) hW h (sg := 61) (v := 61) rfl (by omega) s1
  rw [e1, if_pos s1]
  dsimp only [Option.bind_some]
  rw [if_neg (show ¬ (1 : Int32) = 0 by decide), rc_b h5]
  refine Rn_bind (c_num hW g1 (lo := 1) (hi := 99) rfl rfl (by omega) (by omega)) ?_
  rintro _ ⟨I2, rfl, g2, d2, f2⟩
  generalize rN L c 1 99 (p + 1) = r at g2 d2 ⊢
  obtain ⟨r, p2⟩ := r
  dsimp only at g2 d2 ⊢
  have f2' : ∀ b j, ¬ (b = 5 ∧ j = 2) → I2 b j = I b j := fun b j q => by rw [f2 b j q, u_n (by omega)]
  rw [pi_b h15 rfl, gi_b h15 rfl, u_s]
  have g3 : PgC (pu_u I2 15 5 (oN r)) L c p2 := PgC.fr g2 fun b j q => u_n (by omega)
  have f3 : FrC I (pu_u I2 15 5 (oN r)) := fun b j q1 q2 => by rw [u_n (by omega), f2' b j q1]
  cases r with
  | none =>
    rw [if_pos (show oN none = -1 from rfl)]
    exact Rn_some (CkQ.t f3 (CkQ.no g3))
  | some a =>
  have d2 := d2 a rfl
  rw [if_neg (show ¬ oN (some a) = -1 from fun q => by rw [show oN (some a) = nI a from rfl, ni_m1 (by omega)] at q; exact q), rc_b h5]
  refine Rn_mono ?_ (fun y hy => CkQ.t f3 hy)
  show Rn _ (CkQ s _ P J n L c 1 (if cdN L c p2 = 120 then _ else _))
  have k2 := hk.fr f2'
  by_cases s2 : cdN L c p2 = 120
  case neg =>
    rw [c_sg0 hW g3 (sg := 120) (v := 120) rfl (by omega) s2, if_neg s2]
    exact Rn_some (CkQ.no g3)
  obtain ⟨e2, g4⟩ := c_sg1 (J := J) (n := n) hW g3 (sg := 120) (v := 120) rfl (by omega) s2
  rw [e2, if_pos s2]
  dsimp only [Option.bind_some]
  rw [if_neg (show ¬ (1 : Int32) = 0 by decide), rc_b h5]
  refine Rn_bind (c_num hW g4 (lo := 1) (hi := 99) rfl rfl (by omega) (by omega)) ?_
  rintro _ ⟨I4, rfl, g5, d5, f5⟩
  generalize rN L c 1 99 (p2 + 1) = r at g5 d5 ⊢
  obtain ⟨r, p3⟩ := r
  dsimp only at g5 d5 ⊢
  have f5' : ∀ b j, ¬ (b = 5 ∧ j = 2) → I4 b j = pu_u I2 15 5 (oN (some a)) b j := fun b j q => by rw [f5 b j q, u_n (by omega)]
  rw [pi_b h15 rfl, gi_b h15 rfl, u_s]
  have g6 : PgC (pu_u I4 15 6 (oN r)) L c p3 := PgC.fr g5 fun b j q => u_n (by omega)
  have f6 : FrC (pu_u I2 15 5 (oN (some a))) (pu_u I4 15 6 (oN r)) := fun b j q1 q2 => by rw [u_n (by omega), f5' b j q1]
  cases r with
  | none =>
    rw [if_pos (show oN none = -1 from rfl)]
    exact Rn_some (CkQ.t f6 (CkQ.no g6))
  | some y =>
  have d5 := d5 y rfl
  rw [if_neg (show ¬ oN (some y) = -1 from fun q => by rw [show oN (some y) = nI y from rfl, ni_m1 (by omega)] at q; exact q)]
  refine Rn_some ⟨_, rfl, g6, fun K' q => ?_, f6⟩
  cases q
  have fo : ∀ b j, ¬ (b = 5 ∧ j = 2) → ¬ (b = 15 ∧ (j = 5 ∨ j = 6)) → pu_u I4 15 6 (oN (some y)) b j = I2 b j := fun b j q1 q2 => by rw [u_n (by omega), f5' b j q1, u_n (by omega)]
  obtain ⟨t1, t2, t3, t4, t5, t6⟩ := k2
  refine ⟨by rw [fo _ _ (by omega) (by omega), t1]; rfl, by rw [fo _ _ (by omega) (by omega), t2]; rfl, fun v hv => ?_, fun b hb => ?_, fun _ => ⟨?_, ?_⟩, fun q => by omega⟩
  · obtain ⟨a1, a2, a3, a4⟩ := t3 v hv
    exact ⟨by rw [fo _ _ (by omega) (by omega), a1]; rfl, by rw [fo _ _ (by omega) (by omega), a2]; rfl, by rw [fo _ _ (by omega) (by omega), a3]; rfl, by rw [fo _ _ (by omega) (by omega), a4]; rfl⟩
  · rw [fo _ _ (by omega) (by omega), t4 b hb]; rfl
  · rw [u_n (by omega), f5' _ _ (by omega), u_s]; rfl
  · rw [u_s]; rfl
set_option maxHeartbeats 4000000 in
set_option maxRecDepth 100000 in
theorem c_sup (hW : pu_W s P) (h : PgC I L c p) (hk : CKd I K 1) : Rn (fX3_readSupply 5 (some 15) (pu_hp s I P J n)) (CkQ s I P J n L c 2 (rSup L c K p)) := by
  have h5 := hW.1 5 _ rfl
  have h15 := hW.1 15 _ rfl
  unfold fX3_readSupply rSup
  rw [rc_b h5]
  by_cases s1 : cdN L c p = 59
  case neg =>
    rw [c_sg0 hW h (sg := 59) (v := 59) rfl (by omega) s1, if_neg s1]
    exact Rn_some (CkQ.no h)
  obtain ⟨e1, g1⟩ := c_sg1 (J := J) (n := n) hW h (sg := 59) (v := 59) rfl (by omega) s1
  rw [e1, if_pos s1]
  dsimp only [Option.bind_some]
  rw [if_neg (show ¬ (1 : Int32) = 0 by decide), rc_b h5]
  have f1 : FrC I (pu_u I 5 2 (nI (p + 1))) := FrC.of fun b j q => u_n (by omega)
  by_cases s2 : cdN L c (p + 1) = 115
  case neg =>
    rw [c_sg0 hW g1 (sg := 115) (v := 115) rfl (by omega) s2, if_neg s2]
    exact Rn_some (CkQ.t f1 (CkQ.no g1))
  obtain ⟨e2, g2⟩ := c_sg1 (J := J) (n := n) hW g1 (sg := 115) (v := 115) rfl (by omega) s2
  rw [e2, if_pos s2]
  dsimp only [Option.bind_some]
  rw [if_neg (show ¬ (1 : Int32) = 0 by decide), rc_b h5]
  refine Rn_bind (c_num hW g2 (lo := 0) (hi := 60) rfl rfl (by omega) (by omega)) ?_
  rintro _ ⟨I2, rfl, g3, d2, f2⟩
  generalize rN L c 0 60 (p + 1 + 1) = r at g3 d2 ⊢
  obtain ⟨r, p2⟩ := r
  dsimp only at g3 d2 ⊢
  have f2' : ∀ b j, ¬ (b = 5 ∧ j = 2) → I2 b j = I b j := fun b j q => by rw [f2 b j q, u_n (by omega), u_n (by omega)]
  rw [pi_b h15 rfl, gi_b h15 rfl, u_s]
  have g4 : PgC (pu_u I2 15 7 (oN r)) L c p2 := PgC.fr g3 fun b j q => u_n (by omega)
  have f4 : FrC I (pu_u I2 15 7 (oN r)) := fun b j q1 q2 => by rw [u_n (by omega), f2' b j q1]
  cases r with
  | none =>
    rw [if_pos (show oN none = -1 from rfl)]
    exact Rn_some (CkQ.t f4 (CkQ.no g4))
  | some a =>
  have d2 := d2 a rfl
  rw [if_neg (show ¬ oN (some a) = -1 from fun q => by rw [show oN (some a) = nI a from rfl, ni_m1 (by omega)] at q; exact q)]
  refine Rn_some ⟨_, rfl, g4, fun K' q => ?_, f4⟩
  cases q
  have fo : ∀ b j, ¬ (b = 5 ∧ j = 2) → ¬ (b = 15 ∧ j = 7) → pu_u I2 15 7 (oN (some a)) b j = I b j := fun b j q1 q2 => by rw [u_n (by omega), f2' b j q1]
  obtain ⟨t1, t2, t3, t4, t5, t6⟩ := hk
  refine ⟨by rw [fo _ _ (by omega) (by omega), t1]; rfl, by rw [fo _ _ (by omega) (by omega), t2]; rfl, fun v hv => ?_, fun b hb => ?_, fun _ => ⟨?_, ?_⟩, fun q => ?_⟩
  · obtain ⟨a1, a2, a3, a4⟩ := t3 v hv
    exact ⟨by rw [fo _ _ (by omega) (by omega), a1]; rfl, by rw [fo _ _ (by omega) (by omega), a2]; rfl, by rw [fo _ _ (by omega) (by omega), a3]; rfl, by rw [fo _ _ (by omega) (by omega), a4]; rfl⟩
  · rw [fo _ _ (by omega) (by omega), t4 b hb]; rfl
  · rw [fo _ _ (by omega) (by omega), (t5 (by omega)).1]; rfl
  · rw [fo _ _ (by omega) (by omega), (t5 (by omega)).2]; rfl
  · rw [u_s]; rfl
set_option maxHeartbeats 4000000 in
set_option maxRecDepth 100000 in
theorem c_addM (hW : pu_W s P) {x k : Nat} (hk : k < 12) (h0 : I 15 8 = nI k) : fX0_addMark 15 (nI x) (pu_hp s I P J n) = some (pu_hp s (pu_u (pu_u I 20 k (nI x)) 15 8 (nI (k + 1))) P J n) := by
  unfold fX0_addMark
  simp (disch := first | assumption | with_unfolding_all exact hW.1 _ _ rfl | rfl | exact pu_okI (by first | assumption | with_unfolding_all exact hW.1 _ _ rfl) (by omega) (by omega) | exact pu_oqI (by first | assumption | with_unfolding_all exact hW.1 _ _ rfl) (by omega) (by omega) | omega | decide) only [↓reduceIte, ↓gi_b, ↓pi_b, ↓gr_b, ↓pr_b, ↓al_b, ↓as_b, ↓al_3, ↓as_3, ↓al_12, ↓as_12, ↓al_l, ↓as_l, ↓rc_b, ↓Option.bind_some, ↓zr0_b, ↓zr1_b, ↓zrb_b, ↓pz0_b, ↓pz1_b, al_b, as_b, rc_b, gi_b, pi_b, gr_b, zr0, zr1, zrb, u_s, u_n, v_s, v_n, ↓isIn_b, ite_T, ite_F, il_t, il_f, li_t, li_f, it_t, it_f, ti_t, ti_f, ie_t, ie_f, ei_t, ei_f, nn_le_t, nn_le_f, nn_lt_t, nn_lt_f, nn_eq_t, nn_eq_f, nI_1, nI_add, ni_addl, ni_ladd, pk_mul, ni_mull, b2_t, b2_f, b2_0, one0, m1_eq, ni_m1, reduceCtorEq, Bool.false_eq_true, nI_clamp, if_true, Option.some.injEq, Prod.mk.injEq, and_true, true_and, Nat.reduceAdd, Nat.reduceMul, Nat.reduceSub, Nat.reduceEqDiff, Nat.reduceLeDiff, Nat.reduceLT, ↓gr15_9 hW, h0]
theorem addM_ck {I' : Nat → Nat → Int32} {x : Nat} (hc : CKd I K 2) (e : I' = pu_u (pu_u I 20 (knb K) (nI x)) 15 8 (nI (knb K + 1))) : CKd I' (pgK 6 x K) 2 := by
  obtain ⟨t1, t2, t3, t4, t5, t6⟩ := hc
  subst e
  refine ⟨by rw [u_n (by omega), u_n (by omega), t1]; rfl, u_s, fun v hv => ?_, fun b hb => ?_, fun q => ⟨by rw [u_n (by omega), u_n (by omega), (t5 q).1]; rfl, by rw [u_n (by omega), u_n (by omega), (t5 q).2]; rfl⟩, fun q => by rw [u_n (by omega), u_n (by omega), t6 q]; rfl⟩
  · obtain ⟨a1, a2, a3, a4⟩ := t3 v hv
    exact ⟨by rw [u_n (by omega), u_n (by omega), a1]; rfl, by rw [u_n (by omega), u_n (by omega), a2]; rfl, by rw [u_n (by omega), u_n (by omega), a3]; rfl, by rw [u_n (by omega), u_n (by omega), a4]; rfl⟩
  · have hb : b < knb K + 1 := hb
    show _ = nI (updN (kM K) (knb K) x b)
    by_cases q : b = knb K
    · subst q; rw [u_n (by omega), u_s, updN_s]
    · rw [u_n (by omega), u_n (by omega), updN_n q, t4 b (by omega)]
set_option maxHeartbeats 4000000 in
set_option maxRecDepth 100000 in
theorem c_ms0 {N v : Nat} {l : Int32} (hv : v < 1000) (h : am_H) : fX3_readMarks_27 (N + 1) (some 5) (some 15) l 0 (nI v) h = some (1, h) := by
  show fX3_readMarks_27_b _ _ _ _ _ _ _ = _
  unfold fX3_readMarks_27_b
  by_cases q : (12 : Int32) ≤ nI v
  · rw [if_pos q]; rfl
  · rw [if_neg q, if_pos rfl]; rfl
set_option maxHeartbeats 4000000 in
set_option maxRecDepth 100000 in
theorem c_ms (hW : pu_W s P) : ∀ (m N : Nat) (K : S_K) (p : Nat) (I : Nat → Nat → Int32), knb K + m = 12 → m + 1 < N → mkP K ≤ 99 → PgC I L c p → CKd I K 2 → Rn (fX3_readMarks_27 N (some 5) (some 15) (nI (mkP K)) 1 (nI (knb K)) (pu_hp s I P J n)) (CkQ s I P J n L c 2 (rMs L c m K p)) := by
  have h5 := hW.1 5 _ rfl
  have h15 := hW.1 15 _ rfl
  intro m
  induction m with
  | zero =>
    intro N K p I hm hN hA h hk
    obtain ⟨N, rfl⟩ : ∃ N', N = N' + 1 := ⟨N - 1, by omega⟩
    show Rn (fX3_readMarks_27_b _ _ _ _ _ _ _) _
    unfold fX3_readMarks_27_b
    rw [if_pos (by rw [il_t (by show 12 ≤ knb K; omega) (by omega)]; trivial)]
    exact Rn_some ⟨I, rfl, h, fun K' q => by cases q; exact hk, fun _ _ _ _ => rfl⟩
  | succ m ih =>
    intro N K p I hm hN hA h hk
    obtain ⟨N, rfl⟩ : ∃ N', N = N' + 1 := ⟨N - 1, by omega⟩
    show Rn (fX3_readMarks_27_b (fX3_readMarks_27 N) _ _ _ _ _ _) _
    unfold fX3_readMarks_27_b
    rw [if_neg (by rw [il_f (by show knb K < 12; omega) (by decide)]; exact id), if_neg (by decide), rc_b h5]
    refine Rn_bind (c_num hW h (lo := mkP K + 1) (hi := 99) (nI_1 _) rfl (by omega) (by omega)) ?_
    rintro _ ⟨I1, rfl, g1, d1, f1⟩
    rw [rMs]
    generalize hr : rN L c (mkP K + 1) 99 p = r at g1 d1 ⊢
    obtain ⟨r, p1⟩ := r
    dsimp only at g1 d1 ⊢
    cases r with
    | none =>
      rw [if_pos (show oN none = -1 from rfl)]
      exact Rn_some (CkQ.t (FrC.of f1) (CkQ.no g1))
    | some x =>
    dsimp only
    have d1 := d1 x rfl
    have k1 := hk.fr f1
    rw [if_neg (show ¬ oN (some x) = -1 from fun q => by rw [show oN (some x) = nI x from rfl, ni_m1 (by omega)] at q; exact q), rc_b h15, show oN (some x) = nI x from rfl, c_addM hW (by omega) k1.2.1]
    generalize hI2 : pu_u (pu_u I1 20 (knb K) (nI x)) 15 8 (nI (knb K + 1)) = I2
    have k2 := addM_ck (x := x) k1 hI2.symm
    have g2 : PgC I2 L c p1 := g1.fr fun b j q => by rw [← hI2, u_n (by omega), u_n (by omega)]
    have f2 : FrC I I2 := fun b j q1 q2 => by rw [← hI2, u_n (by omega), u_n (by omega), f1 b j q1]
    refine Rn_mono ?_ (fun y hy => CkQ.t f2 hy)
    show Rn (if (12 : Int32) ≤ nI (knb K) + 1 then _ else _) _
    have done : ∀ I2 : Nat → Nat → Int32, PgC I2 L c p1 → CKd I2 (pgK 6 x K) 2 → Rn (fX3_readMarks_27 N (some 5) (some 15) (nI x) 0 (nI (knb K) + 1) (pu_hp s I2 P J n)) (CkQ s I2 P J n L c 2 (some (pgK 6 x K), p1)) := by
      intro I2 q1 q2
      obtain ⟨N, rfl⟩ : ∃ N', N = N' + 1 := ⟨N - 1, by omega⟩
      rw [nI_1, c_ms0 (by omega)]
      exact Rn_some ⟨I2, rfl, q1, fun K' q => by cases q; exact q2, fun _ _ _ _ => rfl⟩
    by_cases hm1 : 1 ≤ m
    case neg =>
      rw [if_neg (show ¬ (1 ≤ m ∧ x < 99 ∧ cdN L c p1 = 44) from fun q => hm1 q.1), if_pos (show (12 : Int32) ≤ nI (knb K) + 1 by rw [nI_1, il_t (by show 12 ≤ knb K + 1; omega) (by omega)]; trivial)]
      exact done I2 g2 k2
    rw [if_neg (show ¬ (12 : Int32) ≤ nI (knb K) + 1 by rw [nI_1, il_f (by show knb K + 1 < 12; omega) (by decide)]; exact id)]
    show Rn (if (99 : Int32) ≤ nI x then _ else _) _
    by_cases x99 : x < 99
    case neg =>
      rw [if_neg (show ¬ (1 ≤ m ∧ x < 99 ∧ cdN L c p1 = 44) from fun q => x99 q.2.1), if_pos (show (99 : Int32) ≤ nI x by rw [il_t (by show 99 ≤ x; omega) (by omega)]; trivial)]
      exact done I2 g2 k2
    rw [if_neg (show ¬ (99 : Int32) ≤ nI x by rw [il_f (by show x < 99; omega) (by decide)]; exact id)]
    show Rn ((am_rc (pu_hp s I2 P J n) (some 5) 3).bind _) _
    rw [rc_b h5]
    by_cases s1 : cdN L c p1 = 44
    case neg =>
      rw [c_sg0 hW g2 (sg := 44) (v := 44) rfl (by omega) s1, if_neg (show ¬ (1 ≤ m ∧ x < 99 ∧ cdN L c p1 = 44) from fun q => s1 q.2.2)]
      exact done I2 g2 k2
    obtain ⟨e1, g3⟩ := c_sg1 (J := J) (n := n) hW g2 (sg := 44) (v := 44) rfl (by omega) s1
    rw [e1, if_pos (show 1 ≤ m ∧ x < 99 ∧ cdN L c p1 = 44 from ⟨hm1, x99, s1⟩)]
    dsimp only [Option.bind_some]
    rw [if_neg (show ¬ (1 : Int32) = 0 by decide)]
    show Rn (fX3_readMarks_27 N (some 5) (some 15) (nI x) 1 (nI (knb K) + 1) _) _
    have em : mkP (pgK 6 x K) = x := mkP_6
    have q := ih N (pgK 6 x K) (p1 + 1) _ (by show knb K + 1 + m = 12; omega) (by omega) (by rw [em]; exact d1) g3 (k2.fr fun b j q => u_n (by omega))
    rw [em] at q
    rw [nI_1]
    exact Rn_mono q (fun y hy => CkQ.t (FrC.of fun b j q => u_n (by omega)) hy)
set_option maxHeartbeats 4000000 in
set_option maxRecDepth 100000 in
theorem c_mks (hW : pu_W s P) (h : PgC I L c p) (hk : CKd I K 2) (h0 : knb K = 0) : Rn (fX3_readMarks 5 (some 15) (pu_hp s I P J n)) (CkQ s I P J n L c 2 (rMks L c K p)) := by
  have h5 := hW.1 5 _ rfl
  unfold fX3_readMarks rMks
  rw [rc_b h5]
  by_cases s1 : cdN L c p = 59
  case neg =>
    rw [c_sg0 hW h (sg := 59) (v := 59) rfl (by omega) s1, if_neg s1]
    exact Rn_some (CkQ.no h)
  obtain ⟨e1, g1⟩ := c_sg1 (J := J) (n := n) hW h (sg := 59) (v := 59) rfl (by omega) s1
  rw [e1, if_pos s1]
  dsimp only [Option.bind_some]
  rw [if_neg (show ¬ (1 : Int32) = 0 by decide), rc_b h5]
  have f1 : FrC I (pu_u I 5 2 (nI (p + 1))) := FrC.of fun b j q => u_n (by omega)
  by_cases s2 : cdN L c (p + 1) = 109
  case neg =>
    rw [c_sg0 hW g1 (sg := 109) (v := 109) rfl (by omega) s2, if_neg s2]
    exact Rn_some (CkQ.t f1 (CkQ.no g1))
  obtain ⟨e2, g2⟩ := c_sg1 (J := J) (n := n) hW g1 (sg := 109) (v := 109) rfl (by omega) s2
  rw [e2, if_pos s2]
  dsimp only [Option.bind_some]
  rw [if_neg (show ¬ (1 : Int32) = 0 by decide)]
  have em : mkP K = 0 := by unfold mkP; rw [if_pos h0]
  have q := c_ms (J := J) (n := n) hW 12 am_fu K (p + 1 + 1) _ (by omega) (by unfold am_fu; omega) (by omega) g2 (hk.fr fun b j q => by rw [u_n (by omega), u_n (by omega)])
  rw [em, h0] at q
  exact Rn_mono q (fun y hy => CkQ.t (FrC.of fun b j q => by rw [u_n (by omega), u_n (by omega)]) hy)
end CH
