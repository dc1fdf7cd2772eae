/-! the abstract machine, 3: fields and arrays -/
def am_set (h : am_H) (a : Nat) (c : am_C) : am_H := (fun j => if j = a then some c else h.1 j, h.2)
def am_new (h : am_H) (c : am_C) (n : Nat) : am_H := (fun j => if j = h.2.1 + 1 then some c else h.1 j, h.2.1 + 1, h.2.2 + n)
def am_ob (h : am_H) (q : Option Nat) (ci : Nat) : Option (Nat × List Value) := match q with
  | none => none
  | some a => match h.1 a with
    | some (.inl o) => if o.1 = ci then some (a, o.2) else none
    | _ => none
def am_vi : Option Value → Option Int32
  | some (.int x) => some x
  | _ => none
def am_vr : Option Value → Option (Option Nat)
  | some (.ref a) => some (some a)
  | some .null => some none
  | _ => none
def am_gi (h : am_H) (q : Option Nat) (ci k : Nat) : Option Int32 := (am_ob h q ci).bind fun o => am_vi o.2[k]?
def am_gr (h : am_H) (q : Option Nat) (ci k : Nat) : Option (Option Nat) := (am_ob h q ci).bind fun o => am_vr o.2[k]?
def am_pf (h : am_H) (q : Option Nat) (ci k : Nat) (v : Value) : Option am_H := (am_ob h q ci).bind fun o => if k < o.2.length then some (am_set h o.1 (.inl (ci, o.2.set k v))) else none
def am_pi (h : am_H) (q : Option Nat) (ci k : Nat) (x : Int32) : Option am_H := am_pf h q ci k (.int x)
def am_pz (h : am_H) (q : Option Nat) (ci k : Nat) (x : Int32) : Option am_H := if x = 0 ∨ x = 1 then am_pf h q ci k (.int x) else none
def am_pr (h : am_H) (q : Option Nat) (ci k : Nat) (x : Option Nat) : Option am_H := am_pf h q ci k (va_rf x)
def am_ar (h : am_H) (q : Option Nat) (t : Nat) : Option (Nat × Nat × (Nat → Int32)) := match q with
  | none => none
  | some a => match h.1 a with
    | some (.inr (t', n, .inl f)) => if t' = t then some (a, n, f) else none
    | _ => none
def am_aq (h : am_H) (q : Option Nat) (t : Nat) : Option (Nat × Nat × (Nat → Option Nat)) := match q with
  | none => none
  | some a => match h.1 a with
    | some (.inr (t', n, .inr f)) => if t' = t then some (a, n, f) else none
    | _ => none
def am_al (h : am_H) (q : Option Nat) (t : Nat) (i : Int32) : Option Int32 := (am_ar h q t).bind fun o => if i < 0 ∨ o.2.1 ≤ i.toNatClampNeg then none else some (o.2.2 i.toNatClampNeg)
def am_as (h : am_H) (q : Option Nat) (t : Nat) (i x : Int32) : Option am_H := (am_ar h q t).bind fun o => if i < 0 ∨ o.2.1 ≤ i.toNatClampNeg then none else some (am_set h o.1 (.inr (t, o.2.1, .inl (upd o.2.2 i.toNatClampNeg x))))
def am_alr (h : am_H) (q : Option Nat) (t : Nat) (i : Int32) : Option (Option Nat) := (am_aq h q t).bind fun o => if i < 0 ∨ o.2.1 ≤ i.toNatClampNeg then none else some (o.2.2 i.toNatClampNeg)
def am_tc : Nat → Nat
  | 4 => 0
  | 5 => 2
  | _ => 7
def am_asr (h : am_H) (q : Option Nat) (t : Nat) (i : Int32) (x : Option Nat) : Option am_H := (am_aq h q t).bind fun o => (am_ob h x (am_tc t)).bind fun _ => if i < 0 ∨ o.2.1 ≤ i.toNatClampNeg then none else some (am_set h o.1 (.inr (t, o.2.1, .inr (va_up o.2.2 i.toNatClampNeg x))))
def am_an (h : am_H) (q : Option Nat) : Option Int32 := match q with
  | none => none
  | some a => match h.1 a with
    | some (.inr (t, n, _)) => if t < 7 then some (Int32.ofNat n) else none
    | _ => none
theorem am_bind {α β : Type} {o : Option α} {F : α → Option β} {v : β} (h : o.bind F = some v) : ∃ x, o = some x ∧ F x = some v := Option.bind_eq_some_iff.mp h
theorem am_ob_spec {h : am_H} {q : Option Nat} {ci : Nat} {o : Nat × List Value} (e : am_ob h q ci = some o) : q = some o.1 ∧ h.1 o.1 = some (.inl (ci, o.2)) := by
  cases q with
  | none => cases e
  | some a =>
    unfold am_ob at e
    dsimp only at e
    split at e
    · rename_i x hx
      by_cases hc : x.1 = ci
      · rw [if_pos hc] at e
        cases e
        exact ⟨rfl, by rw [hx, ← hc]⟩
      · rw [if_neg hc] at e; cases e
    · cases e
theorem am_ar_spec {h : am_H} {q : Option Nat} {t : Nat} {o : Nat × Nat × (Nat → Int32)} (e : am_ar h q t = some o) : q = some o.1 ∧ h.1 o.1 = some (.inr (t, o.2.1, .inl o.2.2)) := by
  cases q with
  | none => cases e
  | some a =>
    unfold am_ar at e
    dsimp only at e
    split at e
    · rename_i t' n f hx
      by_cases hc : t' = t
      · rw [if_pos hc] at e
        cases e
        exact ⟨rfl, by rw [hx, ← hc]⟩
      · rw [if_neg hc] at e; cases e
    · cases e
theorem am_aq_spec {h : am_H} {q : Option Nat} {t : Nat} {o : Nat × Nat × (Nat → Option Nat)} (e : am_aq h q t = some o) : q = some o.1 ∧ h.1 o.1 = some (.inr (t, o.2.1, .inr o.2.2)) := by
  cases q with
  | none => cases e
  | some a =>
    unfold am_aq at e
    dsimp only at e
    split at e
    · rename_i t' n f hx
      by_cases hc : t' = t
      · rw [if_pos hc] at e
        cases e
        exact ⟨rfl, by rw [hx, ← hc]⟩
      · rw [if_neg hc] at e; cases e
    · cases e
theorem am_ad_inj {G : am_G} {a b : Nat} (ha : 1 ≤ a) (hb : 1 ≤ b) (h : am_ad G a = am_ad G b) : a = b := by
  match a, b, ha, hb with
  | a + 1, b + 1, _, _ => simp only [am_ad] at h; omega
theorem am_ad_A {G : am_G} {a : Nat} (ha : 1 ≤ a) : am_A G (am_ad G a) := by
  match a, ha with
  | a + 1, _ => simp only [am_ad, am_A]; omega
theorem am_R.set {G : am_G} {h : am_H} {H H1 : Heap} {a : Nat} {c0 c : am_C} (hR : am_R G h H) (ha : h.1 a = some c0) (z : H1.size = H.size) (oq : ∀ q : Nat, q ≠ am_ad G a → H1[q]? = H[q]?) (hc : va_at G.1 vwCl (am_ad G a, am_cc G c) H1) : am_R G (am_set h a c) H1 := by
  refine ⟨z.trans hR.1, fun b d hb => ?_⟩
  by_cases hba : b = a
  · subst hba
    simp only [am_set, if_pos] at hb
    cases hb
    exact ⟨(hR.2 b c0 ha).1, hc⟩
  · simp only [am_set, if_neg hba] at hb
    obtain ⟨h1, h2⟩ := hR.2 b d hb
    exact ⟨h1, h2.kept (oq _ fun e => hba (am_ad_inj h1.1 (hR.2 a c0 ha).1.1 e))⟩
theorem am_R.new {G : am_G} {h : am_H} {H H1 : Heap} {c : am_C} {n : Nat} (hR : am_R G h H) (z : H1.size = H.size + 1) (oq : ∀ q : Nat, q < H.size → H1[q]? = H[q]?) (hc : va_at G.1 vwCl (H.size, am_cc G c) H1) : am_R G (am_new h c n) H1 := by
  refine ⟨by rw [z, hR.1]; simp only [am_new]; omega, fun b d hb => ?_⟩
  by_cases hba : b = h.2.1 + 1
  · subst hba
    simp only [am_new, if_pos] at hb
    cases hb
    refine ⟨⟨by omega, by simp only [am_new]; omega⟩, ?_⟩
    have e : am_ad G (h.2.1 + 1) = H.size := by rw [hR.1]; rfl
    rw [e]; exact hc
  · simp only [am_new, if_neg hba] at hb
    obtain ⟨h1, h2⟩ := hR.2 b d hb
    refine ⟨⟨h1.1, by simp only [am_new]; omega⟩, h2.kept (oq _ h2.lt)⟩
theorem am_P1 {G : am_G} {h : am_H} {H : Heap} {a : Nat} {c : am_C} (hR : am_R G h H) (ha : h.1 a = some c) : va_P G.1 vwCl [(am_ad G a, am_cc G c)] H := by
  intro k q hq
  match k, hq with
  | 0, hq => cases hq; exact (hR.2 a c ha).2
theorem am_tyk {G : am_G} {t : Nat} (ht : t < 7) : (am_tys G)[t]? = some (G.2.1 t, am_ty t) := by
  unfold am_tys
  rw [List.getElem?_map, List.getElem?_range ht]; rfl
/-! classes -/
def am_fl (own : String) (idx ci k : Nat) : Prop := ∃ C T N, vwCl[ci]? = some (C, T, N) ∧ k < N ∧ (T k).1 = C ∧ Cond.fieldLink own idx C (T k).2.1 (T k).2.2.1 ∈ am_W
def am_fp (ci k : Nat) (fin : Bool) (ty : FieldType) : Prop := ∃ C T N, vwCl[ci]? = some (C, T, N) ∧ (T k).2.2.2 = fin ∧ parseFieldDescriptor (T k).2.2.1 = some ty
theorem am_uw {C : String} {T : u_T} {N : Nat} (h : (u_ws C T N).all (fun w => decide (w ∈ lw_tbl) && goodWord w) = true) : ∀ w ∈ u_ws C T N, w ∈ am_W := by
  intro w hw
  have h1 := List.all_eq_true.mp h w hw
  simp only [Bool.and_eq_true, decide_eq_true_eq] at h1
  exact List.mem_filter.mpr h1
def am_co (q : vw_C) : Prop := (∀ w ∈ u_ws q.1 q.2.1 q.2.2, w ∈ am_W) ∧ (∃ ty : Nat → FieldType, ∀ k, k < q.2.2 → parseFieldDescriptor (q.2.1 k).2.2.1 = some (ty k)) ∧ ∀ a, a < q.2.2 → ∀ b, b < q.2.2 → a ≠ b → (q.2.1 a).2.1 ≠ (q.2.1 b).2.1
set_option maxRecDepth 100000 in
theorem am_cls : ∀ (ci : Nat) (q : vw_C), vwCl[ci]? = some q → am_co q := by
  have hall : ∀ q ∈ vwCl, am_co q := by
    intro q hq
    simp only [vwCl, List.mem_cons, List.not_mem_nil, or_false] at hq
    rcases hq with rfl | rfl | rfl | rfl | rfl | rfl | rfl | rfl | rfl
    · exact ⟨am_uw (by decide +kernel), ⟨_, tyX0_ok⟩, nmX0⟩
    · exact ⟨am_uw (by decide +kernel), ⟨_, tyX1_ok⟩, nmX1⟩
    · exact ⟨am_uw (by decide +kernel), ⟨_, tyX2_ok⟩, nmX2⟩
    · exact ⟨am_uw (by decide +kernel), ⟨_, tyX3_ok⟩, nmX3⟩
    · exact ⟨am_uw (by decide +kernel), ⟨_, tyX4_ok⟩, nmX4⟩
    · exact ⟨am_uw (by decide +kernel), ⟨_, tyX5_ok⟩, nmX5⟩
    · exact ⟨am_uw (by decide +kernel), ⟨_, tyX6_ok⟩, nmX6⟩
    · exact ⟨am_uw (by decide +kernel), ⟨_, tyX7_ok⟩, nmX7⟩
    · exact ⟨am_uw (by decide +kernel), ⟨_, tyX8_ok⟩, nmX8⟩
  exact fun ci q h => hall q (List.mem_of_getElem? h)
