/-! the abstract machine, 7: calls as they stand in the printed functions; fewer locals; the script -/
def am_lkV (M : am_M) (idx : Nat) (M' : am_M) (n ci : Nat) : Prop := am_mok M' n ∧ Cond.instanceMethod M'.1 ∈ am_W ∧ Cond.selects M'.1.cls M'.1 M'.1 ∈ am_W ∧ Cond.methodLink M.1.cls idx M'.1 ∈ am_W ∧ (M'.2.2.2.2.1 + 1 ≤ M.2.2.2.2.1 ∧ 8 + (M'.2.2.1 + 11) + M'.2.2.2.2.2 ≤ M.2.2.2.2.2) ∧ ∃ q, vwCl[ci]? = some q ∧ q.1 = M'.1.cls
def am_lkS (M : am_M) (idx : Nat) (M' : am_M) (n : Nat) : Prop := am_mok M' n ∧ Cond.static M'.1 ∈ am_W ∧ Cond.methodLink M.1.cls idx M'.1 ∈ am_W ∧ (M'.2.2.2.2.1 + 1 ≤ M.2.2.2.2.1 ∧ 8 + (M'.2.2.1 + 11) + M'.2.2.2.2.2 ≤ M.2.2.2.2.2)
def am_lkT (M : am_M) (idx : Nat) (M' : am_M) (n : Nat) : Prop := am_mok M' n ∧ Cond.static M'.1 ∈ am_W ∧ (∃ host, (M.1.cls, idx, M'.1, host) ∈ am_nst) ∧ (M'.2.2.2.2.1 + 1 ≤ M.2.2.2.2.1 ∧ 8 + (M'.2.2.1 + 11) + M'.2.2.2.2.2 ≤ M.2.2.2.2.2)
def am_lkI (M : am_M) (idx : Nat) (M' : am_M) (n : Nat) : Prop := am_mok M' n ∧ M'.1.name = "<init>" ∧ M'.2.2.2.1 = none ∧ Cond.instanceMethod M'.1 ∈ am_W ∧ (Cond.methodLink M.1.cls idx M'.1 ∈ am_W ∨ ∃ host, (M.1.cls, idx, M'.1, host) ∈ am_nst) ∧ (M'.2.2.2.2.1 + 1 ≤ M.2.2.2.2.1 ∧ 8 + (M'.2.2.1 + 11) + M'.2.2.2.2.2 ≤ M.2.2.2.2.2)
def am_lkN (own : String) (idx ci : Nat) (fs : List Value) : Prop := ∃ (q : vw_C) (ty : Nat → FieldType), vwCl[ci]? = some q ∧ fs.length = q.2.2 ∧ Cond.classLink own idx q.1 ∈ am_W ∧ Cond.instantiable q.1 q.2.2 ∈ am_W ∧ Cond.initialized q.1 ∈ am_W ∧ (∀ k, k < q.2.2 → parseFieldDescriptor (q.2.1 k).2.2.1 = some (ty k)) ∧ (∀ j, j < q.2.2 → defaultValue (ty j) = vp_V fs j) ∧ ∀ G : am_G, fs.map (am_cv G) = fs
def am_le : List (Option Value) → List (Option Value) → Prop
  | [], [] => True
  | a :: l, b :: m => (a = none ∨ a = b) ∧ am_le l m
  | _, _ => False
theorem am_le_get : ∀ {l m : List (Option Value)}, am_le l m → l.length = m.length ∧ ∀ (i : Nat) (v : Value), l[i]? = some (some v) → m[i]? = some (some v)
  | [], [], _ => ⟨rfl, fun i v h => by simp at h⟩
  | [], _ :: _, h => by simp [am_le] at h
  | _ :: _, [], h => by simp [am_le] at h
  | a :: l, b :: m, h => by
    obtain ⟨h1, h2⟩ := h
    obtain ⟨e1, e2⟩ := am_le_get h2
    refine ⟨by simp [e1], fun i v hi => ?_⟩
    cases i with
    | zero =>
      rcases h1 with rfl | rfl
      · cases hi
      · exact hi
    | succ i => exact e2 i v hi
section AM7
variable {G : am_G} {M M' : am_M} {pc pc' : Nat} {ls ls' : List (Option Value)} {st st0 : List Value} {h h' h1 : am_H} {r r1 : Option Value} {ρ : Type} {v : ρ} {n idx ci : Nat} {As : List Value}
theorem am_we (k : am_S G M pc ls' st h r h') (hl : am_le ls' ls) : am_S G M pc ls st h r h' := by
  obtain ⟨e1, e2⟩ := am_le_get hl
  refine ⟨k.1, fun p l e R s m args below meth c H locs cells slots arr Q hC hR hS hL h1 h2 hr => ?_⟩
  exact k.2 p l e R s m args below meth c H locs cells slots arr Q hC hR hS ⟨hL.1, hL.2.1, e1.trans hL.2.2.1, fun i v hi => hL.2.2.2 i v (e2 i v hi)⟩ h1 h2 hr
theorem am_beg (he : am_en M.2.2.1 As = ls) (k : am_S G M 0 ls [] h r h') : am_Cn G M As h r h' := by unfold am_Cn; rw [he]; exact k
theorem am_rcs {q : Option Nat} {b : Nat} (e : am_rc h q ci = some b) : q = some b ∧ ∃ fs, h.1 b = some (.inl (ci, fs)) := by
  obtain ⟨o, ho, rfl⟩ := Option.map_eq_some_iff.mp e
  obtain ⟨h1, h2⟩ := am_ob_spec ho
  exact ⟨h1, _, h2⟩
theorem am_new_ {F : Nat × am_H → Option ρ} {fs : List Value} (hk : am_lkN M.1.cls idx ci fs) (hd : decode M.2.1 pc = .ok (.new idx, 3)) (hp : pc + 3 = pc') (hf : (am_nwo h ci fs).bind F = some v) (kk : ∀ y, am_nwo h ci fs = some y → F y = some v → am_S G M pc' ls (va_rf (some y.1) :: st) y.2 r h') : am_S G M pc ls st h r h' := by
  obtain ⟨y, hx, hf⟩ := am_bind hf
  have k0 := kk y hx hf
  cases hx
  obtain ⟨q, ty, a1, a2, a3, a4, a5, a6, a7, a8⟩ := hk
  exact am_newo (n := 0) a1 a2 a3 a4 a5 a6 a7 a8 hd hp k0
theorem am_sld {F : Int32 → Option ρ} {i : Int32} (hd : decode M.2.1 pc = .ok (.iaload, 1)) (hp : pc + 1 = pc') (hf : (am_sl G.2.2.2.2.1 G.2.2.2.2.2 i).bind F = some v) (kk : ∀ x, am_sl G.2.2.2.2.1 G.2.2.2.2.2 i = some x → F x = some v → am_S G M pc' ls (.int x :: st) h r h') : am_S G M pc ls (.int i :: va_rf (some 0) :: st) h r h' := by
  obtain ⟨x, hx, hf⟩ := am_bind hf
  have k0 := kk x hx hf
  subst hp
  unfold am_sl at hx
  by_cases hi : i < 0 ∨ G.2.2.2.2.1 ≤ i.toNatClampNeg
  · rw [if_pos hi] at hx; cases hx
  rw [if_neg hi] at hx
  cases hx
  refine ⟨k0.1, fun p l e R s m args below meth c H locs cells slots arr Q hC hR hS hL h1 h2 hr => ?_⟩
  obtain ⟨-, x2, x3, x4, -⟩ := hC.2.2.2.2.2.2.2.2.1
  exact va_sld hC.1 hC.2.1 x2 (Nat.lt_of_lt_of_le x3 x4) (show ¬ am_A G G.2.2.1 from fun q => by unfold am_A at q; omega) hS hi hd (k0.2 p l e R s m args below meth c H locs cells slots arr Q hC hR hS hL h1 h2 hr)
theorem am_slen (hd : decode M.2.1 pc = .ok (.arraylength, 1)) (hp : pc + 1 = pc') (k0 : am_S G M pc' ls (.int (Int32.ofNat G.2.2.2.2.1) :: st) h r h') : am_S G M pc ls (va_rf (some 0) :: st) h r h' := by
  subst hp
  refine ⟨k0.1, fun p l e R s m args below meth c H locs cells slots arr Q hC hR hS hL h1 h2 hr => ?_⟩
  obtain ⟨-, x2, x3, x4, -⟩ := hC.2.2.2.2.2.2.2.2.1
  exact va_slen hC.1 hC.2.1 x2 (Nat.lt_of_lt_of_le x3 x4) (show ¬ am_A G G.2.2.1 from fun q => by unfold am_A at q; omega) hS hd (k0.2 p l e R s m args below meth c H locs cells slots arr Q hC hR hS hL h1 h2 hr)
theorem am_cVi {E : Nat → Option (Int32 × am_H)} {F : Int32 × am_H → Option ρ} {q : Option Nat} (hk : am_lkV M idx M' n ci) (hn : As.length = n) (hlen : (am_e1 As).length + 1 ≤ M'.2.2.1) (hst : (st.map fun v => v.category).sum ≤ 8) (hs0 : As.reverse ++ va_rf q :: st = st0) (hd : decode M.2.1 pc = .ok (.invokevirtual idx, 3)) (hp : pc + 3 = pc') (hf : ((am_rc h q ci).bind fun b => (E b).bind F) = some v) (hc : ∀ b y, E b = some y → am_Cn G M' (va_rf (some b) :: As) h (some (.int y.1)) y.2) (kk : ∀ b y, q = some b → E b = some y → F y = some v → am_S G M pc' ls (.int y.1 :: st) y.2 r h') : am_S G M pc ls st0 h r h' := by
  subst hs0
  obtain ⟨b, hb, hf1⟩ := am_bind hf
  obtain ⟨y, hy, hf2⟩ := am_bind hf1
  obtain ⟨e9, fs, hfs⟩ := am_rcs hb
  have k9 := kk b y e9 hy hf2
  subst e9
  obtain ⟨a1, a2, a3, a4, ⟨a5, a6⟩, qq, a7, a8⟩ := hk
  exact am_callV (r1 := (some (.int y.1))) a1 a2 a3 a4 a5 a6 hst hd hn hlen a7 a8 hfs (hc b y hy) hp k9
theorem am_cSi {E : Option (Int32 × am_H)} {F : Int32 × am_H → Option ρ} (hk : am_lkS M idx M' n) (hn : As.length = n) (hlen : (am_e1 As).length ≤ M'.2.2.1) (hst : (st.map fun v => v.category).sum ≤ 8) (hs0 : As.reverse ++ st = st0) (hd : decode M.2.1 pc = .ok (.invokestatic idx, 3)) (hp : pc + 3 = pc') (hf : (E.bind F) = some v) (hc : ∀ y, E = some y → am_Cn G M' As h (some (.int y.1)) y.2) (kk : ∀ y, E = some y → F y = some v → am_S G M pc' ls (.int y.1 :: st) y.2 r h') : am_S G M pc ls st0 h r h' := by
  subst hs0
  obtain ⟨y, hy, hf⟩ := am_bind hf
  obtain ⟨a1, a2, a4, a5, a6⟩ := hk
  exact am_callS (r1 := (some (.int y.1))) a1 a2 a4 a5 a6 hst hd hn hlen (hc y hy) hp (kk y hy hf)
theorem am_cTi {E : Option (Int32 × am_H)} {F : Int32 × am_H → Option ρ} (hk : am_lkT M idx M' n) (hn : As.length = n) (hlen : (am_e1 As).length ≤ M'.2.2.1) (hst : (st.map fun v => v.category).sum ≤ 8) (hs0 : As.reverse ++ st = st0) (hd : decode M.2.1 pc = .ok (.invokestatic idx, 3)) (hp : pc + 3 = pc') (hf : (E.bind F) = some v) (hc : ∀ y, E = some y → am_Cn G M' As h (some (.int y.1)) y.2) (kk : ∀ y, E = some y → F y = some v → am_S G M pc' ls (.int y.1 :: st) y.2 r h') : am_S G M pc ls st0 h r h' := by
  subst hs0
  obtain ⟨y, hy, hf⟩ := am_bind hf
  obtain ⟨a1, a2, ⟨host, a4⟩, a5, a6⟩ := hk
  exact am_callSN (r1 := (some (.int y.1))) a1 a2 a4 a5 a6 hst hd hn hlen (hc y hy) hp (kk y hy hf)
theorem am_cVl {E : Nat → Option (Int64 × am_H)} {F : Int64 × am_H → Option ρ} {q : Option Nat} (hk : am_lkV M idx M' n ci) (hn : As.length = n) (hlen : (am_e1 As).length + 1 ≤ M'.2.2.1) (hst : (st.map fun v => v.category).sum ≤ 8) (hs0 : As.reverse ++ va_rf q :: st = st0) (hd : decode M.2.1 pc = .ok (.invokevirtual idx, 3)) (hp : pc + 3 = pc') (hf : ((am_rc h q ci).bind fun b => (E b).bind F) = some v) (hc : ∀ b y, E b = some y → am_Cn G M' (va_rf (some b) :: As) h (some (.long y.1)) y.2) (kk : ∀ b y, q = some b → E b = some y → F y = some v → am_S G M pc' ls (.long y.1 :: st) y.2 r h') : am_S G M pc ls st0 h r h' := by
  subst hs0
  obtain ⟨b, hb, hf1⟩ := am_bind hf
  obtain ⟨y, hy, hf2⟩ := am_bind hf1
  obtain ⟨e9, fs, hfs⟩ := am_rcs hb
  have k9 := kk b y e9 hy hf2
  subst e9
  obtain ⟨a1, a2, a3, a4, ⟨a5, a6⟩, qq, a7, a8⟩ := hk
  exact am_callV (r1 := (some (.long y.1))) a1 a2 a3 a4 a5 a6 hst hd hn hlen a7 a8 hfs (hc b y hy) hp k9
theorem am_cSl {E : Option (Int64 × am_H)} {F : Int64 × am_H → Option ρ} (hk : am_lkS M idx M' n) (hn : As.length = n) (hlen : (am_e1 As).length ≤ M'.2.2.1) (hst : (st.map fun v => v.category).sum ≤ 8) (hs0 : As.reverse ++ st = st0) (hd : decode M.2.1 pc = .ok (.invokestatic idx, 3)) (hp : pc + 3 = pc') (hf : (E.bind F) = some v) (hc : ∀ y, E = some y → am_Cn G M' As h (some (.long y.1)) y.2) (kk : ∀ y, E = some y → F y = some v → am_S G M pc' ls (.long y.1 :: st) y.2 r h') : am_S G M pc ls st0 h r h' := by
  subst hs0
  obtain ⟨y, hy, hf⟩ := am_bind hf
  obtain ⟨a1, a2, a4, a5, a6⟩ := hk
  exact am_callS (r1 := (some (.long y.1))) a1 a2 a4 a5 a6 hst hd hn hlen (hc y hy) hp (kk y hy hf)
theorem am_cTl {E : Option (Int64 × am_H)} {F : Int64 × am_H → Option ρ} (hk : am_lkT M idx M' n) (hn : As.length = n) (hlen : (am_e1 As).length ≤ M'.2.2.1) (hst : (st.map fun v => v.category).sum ≤ 8) (hs0 : As.reverse ++ st = st0) (hd : decode M.2.1 pc = .ok (.invokestatic idx, 3)) (hp : pc + 3 = pc') (hf : (E.bind F) = some v) (hc : ∀ y, E = some y → am_Cn G M' As h (some (.long y.1)) y.2) (kk : ∀ y, E = some y → F y = some v → am_S G M pc' ls (.long y.1 :: st) y.2 r h') : am_S G M pc ls st0 h r h' := by
  subst hs0
  obtain ⟨y, hy, hf⟩ := am_bind hf
  obtain ⟨a1, a2, ⟨host, a4⟩, a5, a6⟩ := hk
  exact am_callSN (r1 := (some (.long y.1))) a1 a2 a4 a5 a6 hst hd hn hlen (hc y hy) hp (kk y hy hf)
theorem am_cVr {E : Nat → Option (Option Nat × am_H)} {F : Option Nat × am_H → Option ρ} {q : Option Nat} (hk : am_lkV M idx M' n ci) (hn : As.length = n) (hlen : (am_e1 As).length + 1 ≤ M'.2.2.1) (hst : (st.map fun v => v.category).sum ≤ 8) (hs0 : As.reverse ++ va_rf q :: st = st0) (hd : decode M.2.1 pc = .ok (.invokevirtual idx, 3)) (hp : pc + 3 = pc') (hf : ((am_rc h q ci).bind fun b => (E b).bind F) = some v) (hc : ∀ b y, E b = some y → am_Cn G M' (va_rf (some b) :: As) h (some (va_rf y.1)) y.2) (kk : ∀ b y, q = some b → E b = some y → F y = some v → am_S G M pc' ls (va_rf y.1 :: st) y.2 r h') : am_S G M pc ls st0 h r h' := by
  subst hs0
  obtain ⟨b, hb, hf1⟩ := am_bind hf
  obtain ⟨y, hy, hf2⟩ := am_bind hf1
  obtain ⟨e9, fs, hfs⟩ := am_rcs hb
  have k9 := kk b y e9 hy hf2
  subst e9
  obtain ⟨a1, a2, a3, a4, ⟨a5, a6⟩, qq, a7, a8⟩ := hk
  exact am_callV (r1 := (some (va_rf y.1))) a1 a2 a3 a4 a5 a6 hst hd hn hlen a7 a8 hfs (hc b y hy) hp k9
theorem am_cSr {E : Option (Option Nat × am_H)} {F : Option Nat × am_H → Option ρ} (hk : am_lkS M idx M' n) (hn : As.length = n) (hlen : (am_e1 As).length ≤ M'.2.2.1) (hst : (st.map fun v => v.category).sum ≤ 8) (hs0 : As.reverse ++ st = st0) (hd : decode M.2.1 pc = .ok (.invokestatic idx, 3)) (hp : pc + 3 = pc') (hf : (E.bind F) = some v) (hc : ∀ y, E = some y → am_Cn G M' As h (some (va_rf y.1)) y.2) (kk : ∀ y, E = some y → F y = some v → am_S G M pc' ls (va_rf y.1 :: st) y.2 r h') : am_S G M pc ls st0 h r h' := by
  subst hs0
  obtain ⟨y, hy, hf⟩ := am_bind hf
  obtain ⟨a1, a2, a4, a5, a6⟩ := hk
  exact am_callS (r1 := (some (va_rf y.1))) a1 a2 a4 a5 a6 hst hd hn hlen (hc y hy) hp (kk y hy hf)
theorem am_cTr {E : Option (Option Nat × am_H)} {F : Option Nat × am_H → Option ρ} (hk : am_lkT M idx M' n) (hn : As.length = n) (hlen : (am_e1 As).length ≤ M'.2.2.1) (hst : (st.map fun v => v.category).sum ≤ 8) (hs0 : As.reverse ++ st = st0) (hd : decode M.2.1 pc = .ok (.invokestatic idx, 3)) (hp : pc + 3 = pc') (hf : (E.bind F) = some v) (hc : ∀ y, E = some y → am_Cn G M' As h (some (va_rf y.1)) y.2) (kk : ∀ y, E = some y → F y = some v → am_S G M pc' ls (va_rf y.1 :: st) y.2 r h') : am_S G M pc ls st0 h r h' := by
  subst hs0
  obtain ⟨y, hy, hf⟩ := am_bind hf
  obtain ⟨a1, a2, ⟨host, a4⟩, a5, a6⟩ := hk
  exact am_callSN (r1 := (some (va_rf y.1))) a1 a2 a4 a5 a6 hst hd hn hlen (hc y hy) hp (kk y hy hf)
theorem am_cVv {E : Nat → Option (am_H)} {F : am_H → Option ρ} {q : Option Nat} (hk : am_lkV M idx M' n ci) (hn : As.length = n) (hlen : (am_e1 As).length + 1 ≤ M'.2.2.1) (hst : (st.map fun v => v.category).sum ≤ 8) (hs0 : As.reverse ++ va_rf q :: st = st0) (hd : decode M.2.1 pc = .ok (.invokevirtual idx, 3)) (hp : pc + 3 = pc') (hf : ((am_rc h q ci).bind fun b => (E b).bind F) = some v) (hc : ∀ b y, E b = some y → am_Cn G M' (va_rf (some b) :: As) h none y) (kk : ∀ b y, q = some b → E b = some y → F y = some v → am_S G M pc' ls (st) y r h') : am_S G M pc ls st0 h r h' := by
  subst hs0
  obtain ⟨b, hb, hf1⟩ := am_bind hf
  obtain ⟨y, hy, hf2⟩ := am_bind hf1
  obtain ⟨e9, fs, hfs⟩ := am_rcs hb
  have k9 := kk b y e9 hy hf2
  subst e9
  obtain ⟨a1, a2, a3, a4, ⟨a5, a6⟩, qq, a7, a8⟩ := hk
  exact am_callV (r1 := none) a1 a2 a3 a4 a5 a6 hst hd hn hlen a7 a8 hfs (hc b y hy) hp k9
theorem am_cSv {E : Option (am_H)} {F : am_H → Option ρ} (hk : am_lkS M idx M' n) (hn : As.length = n) (hlen : (am_e1 As).length ≤ M'.2.2.1) (hst : (st.map fun v => v.category).sum ≤ 8) (hs0 : As.reverse ++ st = st0) (hd : decode M.2.1 pc = .ok (.invokestatic idx, 3)) (hp : pc + 3 = pc') (hf : (E.bind F) = some v) (hc : ∀ y, E = some y → am_Cn G M' As h none y) (kk : ∀ y, E = some y → F y = some v → am_S G M pc' ls (st) y r h') : am_S G M pc ls st0 h r h' := by
  subst hs0
  obtain ⟨y, hy, hf⟩ := am_bind hf
  obtain ⟨a1, a2, a4, a5, a6⟩ := hk
  exact am_callS (r1 := none) a1 a2 a4 a5 a6 hst hd hn hlen (hc y hy) hp (kk y hy hf)
theorem am_cTv {E : Option (am_H)} {F : am_H → Option ρ} (hk : am_lkT M idx M' n) (hn : As.length = n) (hlen : (am_e1 As).length ≤ M'.2.2.1) (hst : (st.map fun v => v.category).sum ≤ 8) (hs0 : As.reverse ++ st = st0) (hd : decode M.2.1 pc = .ok (.invokestatic idx, 3)) (hp : pc + 3 = pc') (hf : (E.bind F) = some v) (hc : ∀ y, E = some y → am_Cn G M' As h none y) (kk : ∀ y, E = some y → F y = some v → am_S G M pc' ls (st) y r h') : am_S G M pc ls st0 h r h' := by
  subst hs0
  obtain ⟨y, hy, hf⟩ := am_bind hf
  obtain ⟨a1, a2, ⟨host, a4⟩, a5, a6⟩ := hk
  exact am_callSN (r1 := none) a1 a2 a4 a5 a6 hst hd hn hlen (hc y hy) hp (kk y hy hf)
theorem am_ini {E : Option am_H} {F : am_H → Option ρ} {b : Nat} (hk : am_lkI M idx M' n) (hn : As.length = n) (hlen : (am_e1 As).length + 1 ≤ M'.2.2.1) (hst : (st.map fun v => v.category).sum ≤ 8) (hs0 : As.reverse ++ va_rf (some b) :: st = st0) (hd : decode M.2.1 pc = .ok (.invokespecial idx, 3)) (hp : pc + 3 = pc') (hf : (E.bind F) = some v) (hc : ∀ y, E = some y → am_Cn G M' (va_rf (some b) :: As) h none y) (kk : ∀ y, E = some y → F y = some v → am_S G M pc' ls st y r h') : am_S G M pc ls st0 h r h' := by
  subst hs0
  obtain ⟨y, hy, hf⟩ := am_bind hf
  obtain ⟨a1, a2, a3, a4, a5, a6, a7⟩ := hk
  rcases a5 with a5 | ⟨host, a5⟩
  · exact am_callI a1 a2 a3 a4 a5 a6 a7 hst hd hn hlen (hc y hy) hp (kk y hy hf)
  · exact am_callIN a1 a2 a3 a4 a5 a6 a7 hst hd hn hlen (hc y hy) hp (kk y hy hf)
end AM7
