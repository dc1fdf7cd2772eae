/-! new faults and works -/
theorem pu_fs_J {I : Nat → Int32} {P : Nat → Option Nat} {J J' : Nat → Int64} : ∀ (l : List Nat) (k : Nat), (∀ x, x ∈ l → x < 2) → pu_fs I P J k l = pu_fs I P J' k l
  | [], _, _ => rfl
  | 0 :: l, k, h => by
    show _ :: _ = _ :: _
    rw [pu_fs_J (J' := J') l (k + 1) (fun x hx => h x (List.mem_cons_of_mem _ hx))]
  | 1 :: l, k, h => by
    show _ :: _ = _ :: _
    rw [pu_fs_J (J' := J') l (k + 1) (fun x hx => h x (List.mem_cons_of_mem _ hx))]
  | (x + 2) :: l, k, h => by
    have := h (x + 2) List.mem_cons_self
    omega
theorem pu_hp_J {s : Nat → Option pu_S} {I : Nat → Nat → Int32} {P : Nat → Nat → Option Nat} {J : Nat → Nat → Int64} {n : Nat × Nat} {a ci : Nat} {f : Nat → Int64} (hs : s a = some (0, ci, 0)) (h : ∀ x, x ∈ pu_fk ci → x < 2) : pu_hp s I P (pu_row J a f) n = pu_hp s I P J n := by
  unfold pu_hp
  refine Prod.ext (funext fun b => ?_) rfl
  dsimp only
  by_cases e : b = a
  · subst e
    rw [hs, Option.map_some, Option.map_some]
    congr 1
    show Sum.inl _ = Sum.inl _
    rw [pu_fs_J (J' := J b) _ _ h]
  · rw [pu_row_n e]
theorem nwo_2 {s : Nat → Option pu_S} {I : Nat → Nat → Int32} {P : Nat → Nat → Option Nat} {J : Nat → Nat → Int64} {n : Nat × Nat} {ρ : Type} (F : Nat × am_H → Option ρ) : (am_nwo (pu_hp s I P J n) 2 df_2).bind F = F (n.1 + 1, pu_hp (pu_row s (n.1 + 1) (some (0, 2, 0))) (pu_row I (n.1 + 1) (fun _ => 0)) (pu_row P (n.1 + 1) (fun _ => none)) J (n.1 + 1, n.2 + 4)) := by
  rw [pu_nw (ci := 2) (by rfl), pu_hp_J (pu_row_s _ _ _) (by decide)]; rfl
theorem nwo_7 {s : Nat → Option pu_S} {I : Nat → Nat → Int32} {P : Nat → Nat → Option Nat} {J : Nat → Nat → Int64} {n : Nat × Nat} {ρ : Type} (F : Nat × am_H → Option ρ) : (am_nwo (pu_hp s I P J n) 7 df_7).bind F = F (n.1 + 1, pu_hp (pu_row s (n.1 + 1) (some (0, 7, 0))) (pu_row I (n.1 + 1) (fun _ => 0)) (pu_row P (n.1 + 1) (fun _ => none)) J (n.1 + 1, n.2 + 4)) := by
  rw [pu_nw (ci := 7) (by rfl), pu_hp_J (pu_row_s _ _ _) (by decide)]; rfl
theorem shp_le {a : Nat} {z : pu_S} (h : shp a = some z) : a ≤ 39 := by
  unfold shp at h
  split at h <;> first | omega | cases h
theorem pu_W.grow {s s' : Nat → Option pu_S} {P P' : Nat → Nat → Option Nat} (hW : pu_W s P) (hs : ∀ a, a ≤ 39 → s' a = s a) (hP : ∀ a k, rft a k ≠ none → P' a k = P a k) : pu_W s' P' :=
  ⟨fun a z h => by rw [hs a (shp_le h)]; exact hW.1 a z h, (hW.f hP).2⟩
theorem rft_le {a k : Nat} (h : rft a k ≠ none) : a ≤ 39 := by
  apply Classical.byContradiction
  intro q
  exact h (rft_hi (by omega))
section AL
variable {s : Nat → Option pu_S} {I : Nat → Nat → Int32} {P : Nat → Nat → Option Nat} {J : Nat → Nat → Int64} {n : Nat × Nat}
variable {Z : S_Z}
/-- what is not new stands as it was -/
theorem InvC.grow {s' : Nat → Option pu_S} {I' : Nat → Nat → Int32} {P' : Nat → Nat → Option Nat} {n' : Nat × Nat} {Z' : S_Z} (h : InvC s I P n Z) (hW' : pu_W s' P') (hn : n.1 ≤ n'.1) (hs : ∀ a, a ≤ n.1 → s' a = s a) (hI : ∀ b j, b ≤ n.1 → ¬ (b = 1 ∧ 3 ≤ j ∧ j ≤ 5) → ¬ b = 5 → ¬ scC b j → I' b j = I b j) (hP : ∀ a k, a ≤ n.1 → ¬ (2 ≤ a ∧ a ≤ 4) → ¬ scP a k → P' a k = P a k)
    (hP4 : ∀ k, k < znw Z → P' 2 k = P 2 k ∨ True) (hZ5 : Z'.2.2.2.1 = Z.2.2.2.1 ∧ Z'.2.2.2.2.1 = Z.2.2.2.2.1 ∧ Z'.2.2.2.2.2.2 = Z.2.2.2.2.2.2)
    (k1 : I' 1 3 = nI (znc Z')) (k2 : I' 1 4 = nI (znf Z')) (k3 : I' 1 5 = nI (znw Z')) (k4 : I' 5 1 = nI (zpl Z')) (k5 : ∀ k, k < zpl Z' → I' 6 k = nI (zpc Z' k))
    (c1 : ∀ i, i < znc Z' → ∃ c, P' 2 i = some c ∧ 40 ≤ c ∧ c + 5 ≤ n'.1 ∧ C_S s' P' c ∧ C_I I' c (zK Z' i))
    (c2 : ∀ i, i < znf Z' → ∃ f, P' 3 i = some f ∧ 40 ≤ f ∧ f ≤ n'.1 ∧ s' f = some (0, 2, 0) ∧ F_I I' f (zF Z' i))
    (c3 : ∀ i, i < znw Z' → ∃ a, P' 4 i = some a ∧ 40 ≤ a ∧ a ≤ n'.1 ∧ s' a = some (0, 7, 0) ∧ W_I I' P' a i (zW Z' i)) : InvC s' I' P' n' Z' := by
  obtain ⟨h1, h2, ⟨a1, a2, a3, a4, a5, a6⟩, h4, h5, h6, h7, h8, h9, h10⟩ := h
  have E1 : zT Z' = zT Z := hZ5.1
  have E2 : zH Z' = zH Z := congrArg Prod.fst hZ5.2.1
  have E3 : zTk Z' = zTk Z := congrArg Prod.snd hZ5.2.1
  have E4 : zas Z' = zas Z := hZ5.2.2
  have q : ∀ b j, b ≤ 14 → ¬ (b = 1 ∧ 3 ≤ j ∧ j ≤ 5) → ¬ b = 5 → I' b j = I b j := fun b j q1 q2 q3 => hI b j (by omega) q2 q3 (by unfold scC; omega)
  refine ⟨hW', by omega, ⟨k1, k2, k3, by rw [q _ _ (by omega) (by omega) (by omega), a4, E2], by rw [q _ _ (by omega) (by omega) (by omega), a5, E4], k4⟩, k5, h5.fr fun j => hI _ _ (by omega) (by omega) (by omega) (by unfold scC; omega), c1, c2, c3, by rw [E1]; exact h9.fr fun x j hx => q x j (by omega) (by omega) (by omega), fun hh => ?_⟩
  rw [E2] at hh
  rw [E3]
  exact (h10 hh).fr fun x j hx => q x j (by omega) (by omega) (by omega)
end AL
def zsF (Z : S_Z) (F : S_F) : S_Z := (Z.1, (znf Z + 1, upG (zF Z) (znf Z) F), Z.2.2)
def zsW (Z : S_Z) (W : S_W) : S_Z := (Z.1, Z.2.1, (znw Z + 1, upG (zW Z) (znw Z) W), Z.2.2.2)
set_option maxHeartbeats 4000000 in
set_option maxRecDepth 100000 in
theorem c_faulty {s : Nat → Option pu_S} {I : Nat → Nat → Int32} {P : Nat → Nat → Option Nat} {J : Nat → Nat → Int64} {n : Nat × Nat} {Z : S_Z} (hZ : Z_B Z) (h : InvC s I P n Z) {a b c t : Nat} (ha : a ≤ 4) (hb : b ≤ 2) (hc1 : 1 ≤ c) (hc : c ≤ 20) (ht : t ≤ 95) (hfull : znf Z < 8) : Rn (fX8_faulty 1 (nI a) (nI b) (nI c) (nI t) (pu_hp s I P J n)) (QN s I J n 1 4 (zsF Z (a, b, c, t)) (nI (znf Z))) := by
  have hnf := hZ.2.1.1
  have h1 : inB (nI a) 0 4 = true := inB_t (lo := 0) (hi := 4) (Nat.zero_le _) ha (by omega)
  have h2 : inB (nI b) 0 2 = true := inB_t (lo := 0) (hi := 2) (Nat.zero_le _) hb (by omega)
  have h3 : inB (nI c) 1 20 = true := inB_t (lo := 1) (hi := 20) hc1 hc (by omega)
  have h4 : inB (nI t) 0 95 = true := inB_t (lo := 0) (hi := 95) (Nat.zero_le _) ht (by omega)
  have hW := h.1
  have hn := h.2.1
  have e14 := h.2.2.1.2.1
  have hW1 : pu_W (pu_row s (n.1 + 1) (some (0, 2, 0))) (pu_row P (n.1 + 1) (fun _ => none)) := hW.grow (fun x hx => pu_row_n (by omega)) (fun x k hx => by rw [pu_row_n (by have := rft_le hx; omega)])
  have hsf : pu_row s (n.1 + 1) (some (0, 2, 0)) (n.1 + 1) = some (0, 2, 0) := pu_row_s _ _ _
  have e14' : pu_row I (n.1 + 1) (fun _ => 0) 1 4 = nI (znf Z) := by rw [pu_row_n (by omega), e14]
  unfold fX8_faulty fX8_isTick fX2_init fX2_become
  simp (disch := first | assumption | with_unfolding_all exact hW.1 _ _ rfl | rfl | exact pu_okI (by first | assumption | with_unfolding_all exact hW.1 _ _ rfl) (by omega) (by omega) | exact pu_oqI (by first | assumption | with_unfolding_all exact hW.1 _ _ rfl) (by omega) (by omega) | omega | decide) only [↓reduceIte, ↓gi_b, ↓pi_b, ↓gr_b, ↓pr_b, ↓al_b, ↓as_b, ↓al_3, ↓as_3, ↓al_12, ↓as_12, ↓al_l, ↓as_l, ↓rc_b, ↓Option.bind_some, ↓zr0_b, ↓zr1_b, ↓zrb_b, ↓pz0_b, ↓pz1_b, al_b, as_b, rc_b, gi_b, pi_b, gr_b, zr0, zr1, zrb, u_s, u_n, v_s, v_n, ↓isIn_b, ite_T, ite_F, il_t, il_f, li_t, li_f, it_t, it_f, ti_t, ti_f, ie_t, ie_f, ei_t, ei_f, nn_le_t, nn_le_f, nn_lt_t, nn_lt_f, nn_eq_t, nn_eq_f, nI_1, nI_add, ni_addl, ni_ladd, pk_mul, ni_mull, b2_t, b2_f, b2_0, one0, m1_eq, ni_m1, reduceCtorEq, Bool.false_eq_true, nI_clamp, if_true, Option.some.injEq, Prod.mk.injEq, and_true, true_and, Nat.reduceAdd, Nat.reduceMul, Nat.reduceSub, Nat.reduceEqDiff, Nat.reduceLeDiff, Nat.reduceLT, q_isKind, h1, h2, h3, h4, e14, ↓nwo_2]
  replace hW := hW1
  simp (disch := first | assumption | with_unfolding_all exact hW.1 _ _ rfl | rfl | exact pu_okI (by first | assumption | with_unfolding_all exact hW.1 _ _ rfl) (by omega) (by omega) | exact pu_oqI (by first | assumption | with_unfolding_all exact hW.1 _ _ rfl) (by omega) (by omega) | omega | decide) only [↓reduceIte, ↓gi_b, ↓pi_b, ↓gr_b, ↓pr_b, ↓al_b, ↓as_b, ↓al_3, ↓as_3, ↓al_12, ↓as_12, ↓al_l, ↓as_l, ↓rc_b, ↓Option.bind_some, ↓zr0_b, ↓zr1_b, ↓zrb_b, ↓pz0_b, ↓pz1_b, al_b, as_b, rc_b, gi_b, pi_b, gr_b, zr0, zr1, zrb, u_s, u_n, v_s, v_n, ↓isIn_b, ite_T, ite_F, il_t, il_f, li_t, li_f, it_t, it_f, ti_t, ti_f, ie_t, ie_f, ei_t, ei_f, nn_le_t, nn_le_f, nn_lt_t, nn_lt_f, nn_eq_t, nn_eq_f, nI_1, nI_add, ni_addl, ni_ladd, pk_mul, ni_mull, b2_t, b2_f, b2_0, one0, m1_eq, ni_m1, reduceCtorEq, Bool.false_eq_true, nI_clamp, if_true, Option.some.injEq, Prod.mk.injEq, and_true, true_and, Nat.reduceAdd, Nat.reduceMul, Nat.reduceSub, Nat.reduceEqDiff, Nat.reduceLeDiff, Nat.reduceLT, ↓gr1_1 hW, e14', ↓asr_b (t := 5) (hb := show pu_row s (n.1 + 1) (some (0, 2, 0)) (n.1 + 1) = some (0, am_tc 5, 0) from hsf)]
  rw [nI_pred]
  generalize hI' : pu_u (pu_u (pu_u (pu_u (pu_u (pu_u (pu_row I (n.1 + 1) fun x => 0) (n.1 + 1) 0 0) (n.1 + 1) 0 (nI a)) (n.1 + 1) 1 (nI b)) (n.1 + 1) 2 (nI c)) (n.1 + 1) 3 (nI t)) 1 4 (nI (znf Z + 1)) = I'
  generalize hP' : pu_v (pu_row P (n.1 + 1) fun x => none) 3 (znf Z) (some (n.1 + 1)) = P'
  have fI : ∀ x j, x ≤ n.1 → ¬ (x = 1 ∧ j = 4) → I' x j = I x j := fun x j h1 h2 => by
    subst hI'
    rw [u_n h2, u_n (by omega), u_n (by omega), u_n (by omega), u_n (by omega), u_n (by omega), pu_row_n (by omega)]
  have fP : ∀ x j, x ≤ n.1 → ¬ (x = 3 ∧ j = znf Z) → P' x j = P x j := fun x j h1 h2 => by
    subst hP'
    rw [v_n h2, pu_row_n (by omega)]
  have fs : ∀ x, x ≤ n.1 → pu_row s (n.1 + 1) (some (0, 2, 0)) x = s x := fun x hx => pu_row_n (by omega)
  refine Rn_some ⟨_, I', P', rfl, h.grow (by subst hP'; exact hW.v rfl) (by show n.1 ≤ n.1 + 1; omega) fs (fun x j q1 q2 q3 q4 => fI x j q1 (by omega)) (fun x k q1 q2 q3 => fP x k q1 (by omega)) (fun _ _ => Or.inr trivial) ⟨rfl, rfl, rfl⟩ (by rw [fI _ _ (by omega) (by omega), h.2.2.1.1]; rfl) (by subst hI'; rw [u_s]; rfl) (by rw [fI _ _ (by omega) (by omega), h.2.2.1.2.2.1]; rfl) (by rw [fI _ _ (by omega) (by omega), h.2.2.1.2.2.2.2.2]; rfl) (fun k hk => by rw [fI _ _ (by omega) (by omega)]; exact h.2.2.2.1 k hk) (fun i hi => ?_) (fun i hi => ?_) (fun i hi => ?_), fun x q1 q2 => fs x q2, fun x j q1 q2 => fI x j q2 (by omega)⟩
  · obtain ⟨c', b1, b2, b3, b4, b5⟩ := h.2.2.2.2.2.1 i hi
    obtain ⟨c1, c2, c3, c4, c5, c6, c7, c8, c9, c10, c11⟩ := b4
    exact ⟨c', by rw [fP _ _ (by omega) (by omega), b1], b2, by show c' + 5 ≤ n.1 + 1; omega, ⟨by rw [fs _ (by omega), c1], by rw [fs _ (by omega), c2], by rw [fs _ (by omega), c3], by rw [fs _ (by omega), c4], by rw [fs _ (by omega), c5], by rw [fs _ (by omega), c6], by rw [fP _ _ (by omega) (by omega), c7], by rw [fP _ _ (by omega) (by omega), c8], by rw [fP _ _ (by omega) (by omega), c9], by rw [fP _ _ (by omega) (by omega), c10], by rw [fP _ _ (by omega) (by omega), c11]⟩, b5.fr fun x j q1 q2 => fI x j (by omega) (by omega)⟩
  · have hi' : i < znf Z + 1 := hi
    show ∃ f, P' 3 i = some f ∧ 40 ≤ f ∧ f ≤ n.1 + 1 ∧ pu_row s (n.1 + 1) (some (0, 2, 0)) f = some (0, 2, 0) ∧ F_I I' f (upG (zF Z) (znf Z) (a, b, c, t) i)
    by_cases e : i = znf Z
    · subst e
      rw [upG_s]
      refine ⟨n.1 + 1, by subst hP'; rw [v_s], by omega, by omega, hsf, ?_⟩
      subst hI'
      refine ⟨?_, ?_, ?_, ?_⟩
      · rw [u_n (by omega), u_n (by omega), u_n (by omega), u_n (by omega), u_s]
      · rw [u_n (by omega), u_n (by omega), u_n (by omega), u_s]
      · rw [u_n (by omega), u_n (by omega), u_s]
      · rw [u_n (by omega), u_s]
    · rw [upG_n e]
      obtain ⟨f, d1, d2, d3, d4, d5⟩ := h.2.2.2.2.2.2.1 i (by omega)
      exact ⟨f, by rw [fP _ _ (by omega) (by omega), d1], d2, by omega, by rw [fs _ d3, d4], d5.fr fun j => fI _ _ d3 (by omega)⟩
  · obtain ⟨w, d1, d2, d3, d4, d5, d6, d7, d8⟩ := h.2.2.2.2.2.2.2.1 i hi
    refine ⟨w, by rw [fP _ _ (by omega) (by omega), d1], d2, by show w ≤ n.1 + 1; omega, by rw [fs _ d3, d4], by rw [fI _ _ d3 (by omega), d5], by rw [fI _ _ d3 (by omega)]; exact d6, by rw [fI _ _ d3 (by omega)]; exact d7, ?_⟩
    rw [fP _ _ d3 (by omega), d8]
    show oP P (zW Z i).2.2 = oP P' (zW Z i).2.2
    cases (zW Z i).2.2 with
    | none => rfl
    | some j => exact (fP _ _ (by omega) (by omega)).symm
theorem zsF_B {Z : S_Z} (hZ : Z_B Z) {F : S_F} (hF : S_FB F) (h8 : znf Z < 8) : Z_B (zsF Z F) := by
  refine ⟨hZ.1, ⟨by show znf Z + 1 ≤ 8; omega, fun i hi => ?_⟩, hZ.2.2⟩
  have hi' : i < znf Z + 1 := hi
  show S_FB (upG (zF Z) (znf Z) F i)
  by_cases e : i = znf Z
  · subst e; rw [upG_s]; exact hF
  · rw [upG_n e]; exact hZ.2.1.2 i (by omega)
