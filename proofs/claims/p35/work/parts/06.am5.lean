/-! the abstract machine, 5: puts by kind, arrays, new cells, returns -/
def am_na (h : am_H) (t : Nat) (n : Int32) : Option (Option Nat × am_H) := if n < 0 ∨ 100000 < n.toNatClampNeg then none else some (some (h.2.1 + 1), am_new h (.inr (t, n.toNatClampNeg, .inl (fun _ => 0))) n.toNatClampNeg)
def am_nq (h : am_H) (t : Nat) (n : Int32) : Option (Option Nat × am_H) := if n < 0 ∨ 100000 < n.toNatClampNeg then none else some (some (h.2.1 + 1), am_new h (.inr (t, n.toNatClampNeg, .inr (fun _ => none))) n.toNatClampNeg)
def am_nw (h : am_H) (ci : Nat) (fs : List Value) : Option Nat × am_H := (some (h.2.1 + 1), am_new h (.inl (ci, fs)) fs.length)
section AM5
variable {G : am_G} {M : am_M} {pc pc' : Nat} {ls ls' : List (Option Value)} {st : List Value} {h h' : am_H} {r : Option Value} {ρ : Type} {v : ρ}
theorem am_pi_ {F : am_H → Option ρ} {idx ci k : Nat} {q : Option Nat} {x : Int32} {fin : Bool} (hd : decode M.2.1 pc = .ok (.putfield idx, 3)) (hl : am_fl M.1.cls idx ci k) (hl2 : am_fp ci k fin .int) (hfin : fin = true → M.1.name = "<init>" ∧ vwCl[ci]?.map (fun q => q.1) = some M.1.cls) (hp : pc + 3 = pc') (hf : (am_pi h q ci k x).bind F = some v) (kk : ∀ h1, am_pi h q ci k x = some h1 → F h1 = some v → am_S G M pc' ls st h1 r h') : am_S G M pc ls (.int x :: va_rf q :: st) h r h' := by
  obtain ⟨h1, hx, hf⟩ := am_bind hf
  exact am_pf0 hd hl hl2 hfin (fun _ => rfl) (fun _ => rfl) hp hx (kk h1 hx hf)
theorem am_pz_ {F : am_H → Option ρ} {idx ci k : Nat} {q : Option Nat} {x : Int32} {fin : Bool} (hd : decode M.2.1 pc = .ok (.putfield idx, 3)) (hl : am_fl M.1.cls idx ci k) (hl2 : am_fp ci k fin .boolean) (hfin : fin = true → M.1.name = "<init>" ∧ vwCl[ci]?.map (fun q => q.1) = some M.1.cls) (hp : pc + 3 = pc') (hf : (am_pz h q ci k x).bind F = some v) (kk : ∀ h1, am_pz h q ci k x = some h1 → F h1 = some v → am_S G M pc' ls st h1 r h') : am_S G M pc ls (.int x :: va_rf q :: st) h r h' := by
  obtain ⟨h1, hx, hf⟩ := am_bind hf
  have k0 := kk h1 hx hf
  unfold am_pz at hx
  by_cases hz : x = 0 ∨ x = 1
  · rw [if_pos hz] at hx
    refine am_pf0 hd hl hl2 hfin (fun _ => ?_) (fun _ => ?_) hp hx k0
    · show narrow .boolean (.int x) = .int x
      rcases hz with rfl | rfl <;> decide
    · show fits .boolean (.int x) = true
      rcases hz with rfl | rfl <;> decide
  · rw [if_neg hz] at hx; cases hx
theorem am_pr_ {F : am_H → Option ρ} {idx ci k : Nat} {q x : Option Nat} {fin : Bool} {ty : FieldType} (hty : ty.isReference = true) (hd : decode M.2.1 pc = .ok (.putfield idx, 3)) (hl : am_fl M.1.cls idx ci k) (hl2 : am_fp ci k fin ty) (hfin : fin = true → M.1.name = "<init>" ∧ vwCl[ci]?.map (fun q => q.1) = some M.1.cls) (hp : pc + 3 = pc') (hf : (am_pr h q ci k x).bind F = some v) (kk : ∀ h1, am_pr h q ci k x = some h1 → F h1 = some v → am_S G M pc' ls st h1 r h') : am_S G M pc ls (va_rf x :: va_rf q :: st) h r h' := by
  obtain ⟨h1, hx, hf⟩ := am_bind hf
  have k0 := kk h1 hx hf
  refine am_pf0 hd hl hl2 hfin (fun G => ?_) (fun G => ?_) hp hx k0
  · cases x <;> cases ty <;> first | rfl | cases hty
  · cases x <;> cases ty <;> first | rfl | cases hty
/-! loads -/
theorem am_al0 {q : Option Nat} {t : Nat} {i : Int32} {x : Int32} (hx : am_al h q t i = some x) : ∃ a n f, q = some a ∧ h.1 a = some (.inr (t, n, .inl f)) ∧ vp_in i n ∧ x = f i.toNatClampNeg := by
  obtain ⟨o, ho, hv⟩ := am_bind hx
  obtain ⟨e1, e2⟩ := am_ar_spec ho
  by_cases hi : i < 0 ∨ o.2.1 ≤ i.toNatClampNeg
  · rw [if_pos hi] at hv; cases hv
  · rw [if_neg hi] at hv; cases hv; exact ⟨_, _, _, e1, e2, hi, rfl⟩
theorem am_iald {F : Int32 → Option ρ} {q : Option Nat} {i : Int32} (hd : decode M.2.1 pc = .ok (.iaload, 1)) (hp : pc + 1 = pc') (hf : (am_al h q 0 i).bind F = some v) (kk : ∀ x, am_al h q 0 i = some x → F x = some v → am_S G M pc' ls (.int x :: st) h r h') : am_S G M pc ls (.int i :: va_rf q :: st) h r h' := by
  obtain ⟨x, hx, hf⟩ := am_bind hf
  have k0 := kk x hx hf
  obtain ⟨a, n, f, rfl, hc, hin, rfl⟩ := am_al0 hx
  subst hp
  refine ⟨k0.1, fun p l e R s m args below meth c H locs cells slots arr Q hC hR hS hL h1 h2 hr => ?_⟩
  exact va_iald hC.1 hC.2.1 hC.2.2.2.2.2.2.2.2.1.1 (am_P1 hR hc) 0 0 rfl (am_tyk (t := 0) (by decide)) hin hd (k0.2 p l e R s m args below meth c H locs cells slots arr Q hC hR hS hL h1 h2 hr)
theorem am_cald {F : Int32 → Option ρ} {q : Option Nat} {i : Int32} (hd : decode M.2.1 pc = .ok (.caload, 1)) (hp : pc + 1 = pc') (hf : (am_al h q 2 i).bind F = some v) (kk : ∀ x, am_al h q 2 i = some x → F x = some v → am_S G M pc' ls (.int x :: st) h r h') : am_S G M pc ls (.int i :: va_rf q :: st) h r h' := by
  obtain ⟨x, hx, hf⟩ := am_bind hf
  have k0 := kk x hx hf
  obtain ⟨a, n, f, rfl, hc, hin, rfl⟩ := am_al0 hx
  subst hp
  refine ⟨k0.1, fun p l e R s m args below meth c H locs cells slots arr Q hC hR hS hL h1 h2 hr => ?_⟩
  exact va_cald hC.1 hC.2.1 hC.2.2.2.2.2.2.2.2.1.1 (am_P1 hR hc) 0 2 rfl (am_tyk (t := 2) (by decide)) hin hd (k0.2 p l e R s m args below meth c H locs cells slots arr Q hC hR hS hL h1 h2 hr)
theorem am_zald {F : Int32 → Option ρ} {q : Option Nat} {i : Int32} (hd : decode M.2.1 pc = .ok (.baload, 1)) (hp : pc + 1 = pc') (hf : (am_al h q 3 i).bind F = some v) (kk : ∀ x, am_al h q 3 i = some x → F x = some v → am_S G M pc' ls (.int x :: st) h r h') : am_S G M pc ls (.int i :: va_rf q :: st) h r h' := by
  obtain ⟨x, hx, hf⟩ := am_bind hf
  have k0 := kk x hx hf
  obtain ⟨a, n, f, rfl, hc, hin, rfl⟩ := am_al0 hx
  subst hp
  refine ⟨k0.1, fun p l e R s m args below meth c H locs cells slots arr Q hC hR hS hL h1 h2 hr => ?_⟩
  exact va_zald hC.1 hC.2.1 hC.2.2.2.2.2.2.2.2.1.1 (am_P1 hR hc) 0 3 rfl (am_tyk (t := 3) (by decide)) hin hd (k0.2 p l e R s m args below meth c H locs cells slots arr Q hC hR hS hL h1 h2 hr)
theorem am_alr_ {F : Option Nat → Option ρ} {q : Option Nat} {t : Nat} {i : Int32} {C : String} (hty : am_ty t = .object C) (ht : t < 7) (hd : decode M.2.1 pc = .ok (.aaload, 1)) (hp : pc + 1 = pc') (hf : (am_alr h q t i).bind F = some v) (kk : ∀ x, am_alr h q t i = some x → F x = some v → am_S G M pc' ls (va_rf x :: st) h r h') : am_S G M pc ls (.int i :: va_rf q :: st) h r h' := by
  obtain ⟨x, hx, hf⟩ := am_bind hf
  have k0 := kk x hx hf
  obtain ⟨o, ho, hv⟩ := am_bind hx
  obtain ⟨rfl, hc⟩ := am_aq_spec ho
  subst hp
  by_cases hi : i < 0 ∨ o.2.1 ≤ i.toNatClampNeg
  · rw [if_pos hi] at hv; cases hv
  rw [if_neg hi] at hv
  cases hv
  refine ⟨k0.1, fun p l e R s m args below meth c H locs cells slots arr Q hC hR hS hL h1 h2 hr => ?_⟩
  refine va_aldq hC.1 hC.2.1 hC.2.2.2.2.2.2.2.2.1.1 (am_P1 hR hc) 0 t rfl (by rw [am_tyk ht, hty]) hi hd ?_
  rw [← am_rf]
  exact k0.2 p l e R s m args below meth c H locs cells slots arr Q hC hR hS hL h1 h2 hr
theorem am_an_ {F : Int32 → Option ρ} {q : Option Nat} (hd : decode M.2.1 pc = .ok (.arraylength, 1)) (hp : pc + 1 = pc') (hf : (am_an h q).bind F = some v) (kk : ∀ x, am_an h q = some x → F x = some v → am_S G M pc' ls (.int x :: st) h r h') : am_S G M pc ls (va_rf q :: st) h r h' := by
  obtain ⟨x, hx, hf⟩ := am_bind hf
  have k0 := kk x hx hf
  subst hp
  cases q with
  | none => cases hx
  | some a =>
    unfold am_an at hx
    dsimp only at hx
    split at hx
    · rename_i t n g hc
      have ht : t < 7 := Classical.byContradiction fun z => by rw [if_neg z] at hx; cases hx
      rw [if_pos ht] at hx
      cases hx
      refine ⟨k0.1, fun p l e R s m args below meth c H locs cells slots arr Q hC hR hS hL h1 h2 hr => ?_⟩
      have kq := k0.2 p l e R s m args below meth c H locs cells slots arr Q hC hR hS hL h1 h2 hr
      cases g with
      | inl f => exact va_alen hC.1 hC.2.1 hC.2.2.2.2.2.2.2.2.1.1 (am_P1 hR hc) 0 t rfl (am_tyk ht) rfl hd kq
      | inr f => exact va_alen hC.1 hC.2.1 hC.2.2.2.2.2.2.2.2.1.1 (am_P1 hR hc) 0 t rfl (am_tyk ht) rfl hd kq
    · cases hx
/-! stores -/
theorem am_as0 {q : Option Nat} {t : Nat} {i x : Int32} {h1 : am_H} (hx : am_as h q t i x = some h1) : ∃ a n f, q = some a ∧ h.1 a = some (.inr (t, n, .inl f)) ∧ vp_in i n ∧ h1 = am_set h a (.inr (t, n, .inl (upd f i.toNatClampNeg x))) := by
  obtain ⟨o, ho, hv⟩ := am_bind hx
  obtain ⟨e1, e2⟩ := am_ar_spec ho
  by_cases hi : i < 0 ∨ o.2.1 ≤ i.toNatClampNeg
  · rw [if_pos hi] at hv; cases hv
  · rw [if_neg hi] at hv; cases hv; exact ⟨_, _, _, e1, e2, hi, rfl⟩
theorem am_iast {F : am_H → Option ρ} {q : Option Nat} {i x : Int32} (hd : decode M.2.1 pc = .ok (.iastore, 1)) (hp : pc + 1 = pc') (hf : (am_as h q 0 i x).bind F = some v) (kk : ∀ h1, am_as h q 0 i x = some h1 → F h1 = some v → am_S G M pc' ls st h1 r h') : am_S G M pc ls (.int x :: .int i :: va_rf q :: st) h r h' := by
  obtain ⟨h1, hx, hf⟩ := am_bind hf
  have k0 := kk h1 hx hf
  obtain ⟨a, n, f, rfl, hc, hin, rfl⟩ := am_as0 hx
  subst hp
  refine ⟨k0.1, fun p l e R s m args below meth c H locs cells slots arr Q hC hR hS hL h1 h2 hr => ?_⟩
  refine W.iast hC.1 hC.2.1 ((hR.2 _ _ hc).2) ((hC.2.2.2.2.2.2.2.2.1.1.2 0 _ (am_tyk (t := 0) (by decide))).1 n (fun j => .int (f j))) (fun q => by cases q) (by show ¬ (i < 0 ∨ (arrV _ _ _).slots.size ≤ _); rw [arrV_size]; exact hin) rfl rfl hd fun H1 e z oq => ?_
  refine k0.2 p l _ R s m args below meth c H1 _ cells slots arr Q hC (hR.set hc z oq ?_) (hS.put z oq (am_ad_A (hR.2 _ _ hc).1.1)) hL h1 h2 hr
  show H1[am_ad G a]? = some (vp_cell _ _)
  rw [e]
  rw [vp_cell_i, vp_cell_i, arrV_store]
  congr 2
  funext q
  by_cases hq : q = i.toNatClampNeg
  · subst hq
    simp [updV, upd, vp_nar]
    try rfl
  · simp [updV, upd, hq]
theorem am_cast {F : am_H → Option ρ} {q : Option Nat} {i x : Int32} (hd : decode M.2.1 pc = .ok (.castore, 1)) (hp : pc + 1 = pc') (hf : (am_as h q 2 i (vp_nar .char x)).bind F = some v) (kk : ∀ h1, am_as h q 2 i (vp_nar .char x) = some h1 → F h1 = some v → am_S G M pc' ls st h1 r h') : am_S G M pc ls (.int x :: .int i :: va_rf q :: st) h r h' := by
  obtain ⟨h1, hx, hf⟩ := am_bind hf
  have k0 := kk h1 hx hf
  obtain ⟨a, n, f, rfl, hc, hin, rfl⟩ := am_as0 hx
  subst hp
  refine ⟨k0.1, fun p l e R s m args below meth c H locs cells slots arr Q hC hR hS hL h1 h2 hr => ?_⟩
  refine W.cast hC.1 hC.2.1 ((hR.2 _ _ hc).2) ((hC.2.2.2.2.2.2.2.2.1.1.2 2 _ (am_tyk (t := 2) (by decide))).1 n (fun j => .int (f j))) (fun q => by cases q) (by show ¬ (i < 0 ∨ (arrV _ _ _).slots.size ≤ _); rw [arrV_size]; exact hin) rfl rfl hd fun H1 e z oq => ?_
  refine k0.2 p l _ R s m args below meth c H1 _ cells slots arr Q hC (hR.set hc z oq ?_) (hS.put z oq (am_ad_A (hR.2 _ _ hc).1.1)) hL h1 h2 hr
  show H1[am_ad G a]? = some (vp_cell _ _)
  rw [e]
  rw [vp_cell_i, vp_cell_i, arrV_store]
  congr 2
  funext q
  by_cases hq : q = i.toNatClampNeg
  · subst hq
    simp [updV, upd, vp_nar]
    try rfl
  · simp [updV, upd, hq]
theorem am_zast {F : am_H → Option ρ} {q : Option Nat} {i x : Int32} (hd : decode M.2.1 pc = .ok (.bastore, 1)) (hp : pc + 1 = pc') (hf : (am_as h q 3 i (vp_nar .boolean x)).bind F = some v) (kk : ∀ h1, am_as h q 3 i (vp_nar .boolean x) = some h1 → F h1 = some v → am_S G M pc' ls st h1 r h') : am_S G M pc ls (.int x :: .int i :: va_rf q :: st) h r h' := by
  obtain ⟨h1, hx, hf⟩ := am_bind hf
  have k0 := kk h1 hx hf
  obtain ⟨a, n, f, rfl, hc, hin, rfl⟩ := am_as0 hx
  subst hp
  refine ⟨k0.1, fun p l e R s m args below meth c H locs cells slots arr Q hC hR hS hL h1 h2 hr => ?_⟩
  refine W.zast hC.1 hC.2.1 ((hR.2 _ _ hc).2) ((hC.2.2.2.2.2.2.2.2.1.1.2 3 _ (am_tyk (t := 3) (by decide))).1 n (fun j => .int (f j))) (fun q => by cases q) (by show ¬ (i < 0 ∨ (arrV _ _ _).slots.size ≤ _); rw [arrV_size]; exact hin) rfl rfl hd fun H1 e z oq => ?_
  refine k0.2 p l _ R s m args below meth c H1 _ cells slots arr Q hC (hR.set hc z oq ?_) (hS.put z oq (am_ad_A (hR.2 _ _ hc).1.1)) hL h1 h2 hr
  show H1[am_ad G a]? = some (vp_cell _ _)
  rw [e]
  rw [vp_cell_i, vp_cell_i, arrV_store]
  congr 2
  funext q
  by_cases hq : q = i.toNatClampNeg
  · subst hq
    simp [updV, upd, vp_nar]
    try rfl
  · simp [updV, upd, hq]
theorem am_asr_ {F : am_H → Option ρ} {q x : Option Nat} {t : Nat} {i : Int32} {w : vw_C} (hty : am_ty t = .object w.1) (hw : vwCl[am_tc t]? = some w) (ht : t < 7) (hd : decode M.2.1 pc = .ok (.aastore, 1)) (hp : pc + 1 = pc') (hf : (am_asr h q t i x).bind F = some v) (kk : ∀ h1, am_asr h q t i x = some h1 → F h1 = some v → am_S G M pc' ls st h1 r h') : am_S G M pc ls (va_rf x :: .int i :: va_rf q :: st) h r h' := by
  obtain ⟨h1, hx, hf⟩ := am_bind hf
  have k0 := kk h1 hx hf
  obtain ⟨o, ho, hv⟩ := am_bind hx
  obtain ⟨rfl, hc⟩ := am_aq_spec ho
  obtain ⟨o2, ho2, hv⟩ := am_bind hv
  obtain ⟨rfl, hc2⟩ := am_ob_spec ho2
  subst hp
  by_cases hi : i < 0 ∨ o.2.1 ≤ i.toNatClampNeg
  · rw [if_pos hi] at hv; cases hv
  rw [if_neg hi] at hv
  cases hv
  refine ⟨k0.1, fun p l e R s m args below meth c H locs cells slots arr Q hC hR hS hL h1 h2 hr => ?_⟩
  have hK := hC.2.2.2.2.2.2.2.2.1.1
  have hlt : i.toNatClampNeg < o.2.1 := Nat.not_le.mp fun q => hi (Or.inr q)
  have h0 : ¬ i < 0 := fun q => hi (Or.inl q)
  obtain ⟨r', hr', cellV, g1, g2, g3, -⟩ := (hR.2 _ _ hc2).2
  have hr'' : r' = w := Option.some.inj (hr'.symm.trans hw)
  subst hr''
  have hcls := (hK.1 _ _ hw).2
  have htk : (am_tys G)[t]? = some (G.2.1 t, .object r'.1) := by rw [am_tyk ht, hty]
  obtain ⟨kA, comp, k1, k2, k3, -⟩ := (hK.2 t _ htk).2
  have hcomp : comp = G.1.1 (am_tc t) := Option.some.inj (k3.symm.trans hcls.1)
  subst hcomp
  obtain ⟨kC, hkC, -⟩ := hcls.2
  refine W.aast hC.1 hC.2.1 ((hR.2 _ _ hc).2) (fun q h => by cases h) (fun h => by cases h) k1 k2 rfl hkC ⟨h0, by show _ < (arrV _ _ _).slots.size; rw [arrV_size]; exact hlt⟩ g1 (fun q h => by rw [g3] at h; cases h) (by rw [g2]; exact hkC) (by rw [g2]; exact va_assign hcls) rfl rfl hd fun H1 e z oq => ?_
  refine k0.2 p l _ R s m args below meth c H1 _ cells slots arr Q hC (hR.set hc z oq ?_) (hS.put z oq (am_ad_A (hR.2 _ _ hc).1.1)) hL h1 h2 hr
  show H1[am_ad G o.1]? = some (vp_cell _ _)
  rw [e]
  rw [vp_cell_q, vp_cell_q, arrV_store]
  congr 2
  funext q
  by_cases hq : q = i.toNatClampNeg
  · subst hq
    simp [updV, va_up, va_rf]
  · simp [updV, va_up, hq]
/-! new cells -/
theorem am_newarr {F : Option Nat × am_H → Option ρ} {t : Nat} {n : Int32} {atype : ArrayType} (hty : newarray.typeOf atype = am_ty t) (ht : t < 7) (hdf : defaultValue (am_ty t) = .int 0) (hw : Cond.arrayClass (newarray.typeOf atype) ∈ am_W) (hd : decode M.2.1 pc = .ok (.newarray atype, 2)) (hp : pc + 2 = pc') (hf : (am_na h t n).bind F = some v) (kk : ∀ y, am_na h t n = some y → F y = some v → am_S G M pc' ls (va_rf y.1 :: st) y.2 r h') : am_S G M pc ls (.int n :: st) h r h' := by
  obtain ⟨y, hx, hf⟩ := am_bind hf
  have k0 := kk y hx hf
  unfold am_na at hx
  by_cases hn : n < 0 ∨ 100000 < n.toNatClampNeg
  · rw [if_pos hn] at hx; cases hx
  rw [if_neg hn] at hx
  cases hx
  subst hp
  have m1 : h.2.1 + 1 ≤ h'.2.1 ∧ h.2.2 + n.toNatClampNeg ≤ h'.2.2 := k0.1.1
  refine ⟨⟨⟨by omega, by omega⟩, k0.1.2⟩, fun p l e R s m args below meth c H locs cells slots arr Q hC hR hS hL h1 h2 hr => ?_⟩
  have hK := hC.2.2.2.2.2.2.2.2.1.1
  have hb : n.toNatClampNeg * componentBytes (newarray.typeOf atype) ≤ 536870912 := by
    have hc8 : componentBytes (newarray.typeOf atype) ≤ 8 := by cases atype <;> decide
    have := Nat.mul_le_mul (show n.toNatClampNeg ≤ 100000 by omega) hc8
    omega
  refine va_newaK hC.1 hC.2.1 (hC.2.2.2.2.2.2.1 _ hw) rfl hd rfl (fun q => hn (Or.inl q)) rfl hb (by omega) (by omega) rfl fun H1 cA e1 z1 o1 hAr hNm => ?_
  have hcA : cA = G.2.1 t := by
    have hq := (hK.2 t _ (am_tyk ht)).2
    rw [hty] at hNm
    have e2 : s.vm.findClass ("[" ++ (am_ty t).toString) = some (G.2.1 t) := by
      generalize am_ty t = ty at hq hdf
      cases ty <;> first | exact hq | cases hdf
    exact Option.some.inj (hNm.symm.trans e2)
  subst hcA
  have hsz : H.size = am_ad G (h.2.1 + 1) := by rw [hR.1]; rfl
  have hR' : am_R G (am_new h (.inr (t, n.toNatClampNeg, .inl (fun _ => 0))) n.toNatClampNeg) H1 := by
    refine hR.new z1 o1 ?_
    show H1[H.size]? = some (vp_cell _ _)
    rw [e1, hty, hdf, vp_cell_i]
  have hS' : va_S (am_A G) s.heap H1 locs := ⟨Nat.le_trans hS.1 (by omega), fun x h1 h2 => (o1 x (Nat.lt_of_lt_of_le h1 hS.1)).trans (hS.2.1 x h1 h2), hS.2.2⟩
  have kq := k0.2 p l e R s m args below meth c H1 locs (cells + 1) (slots + n.toNatClampNeg) arr Q hC hR' hS' hL
  simp only [am_new] at kq
  rw [show cells + 1 + (h'.2.1 - (h.2.1 + 1)) = cells + (h'.2.1 - h.2.1) by omega, show slots + n.toNatClampNeg + (h'.2.2 - (h.2.2 + n.toNatClampNeg)) = slots + (h'.2.2 - h.2.2) by omega] at kq
  have kq := kq h1 h2 hr
  rw [hsz]
  exact kq
theorem am_anewarr {F : Option Nat × am_H → Option ρ} {t : Nat} {n : Int32} {C : String} {idx : Nat} (hty : am_ty t = .object C) (ht : t < 7) (hao : ∀ U, am_K G U → va_AO C U) (hw : Cond.classLink M.1.cls idx C ∈ am_W) (hd : decode M.2.1 pc = .ok (.anewarray idx, 3)) (hp : pc + 3 = pc') (hf : (am_nq h t n).bind F = some v) (kk : ∀ y, am_nq h t n = some y → F y = some v → am_S G M pc' ls (va_rf y.1 :: st) y.2 r h') : am_S G M pc ls (.int n :: st) h r h' := by
  obtain ⟨y, hx, hf⟩ := am_bind hf
  have k0 := kk y hx hf
  unfold am_nq at hx
  by_cases hn : n < 0 ∨ 100000 < n.toNatClampNeg
  · rw [if_pos hn] at hx; cases hx
  rw [if_neg hn] at hx
  cases hx
  subst hp
  have m1 : h.2.1 + 1 ≤ h'.2.1 ∧ h.2.2 + n.toNatClampNeg ≤ h'.2.2 := k0.1.1
  refine ⟨⟨⟨by omega, by omega⟩, k0.1.2⟩, fun p l e R s m args below meth c H locs cells slots arr Q hC hR hS hL h1 h2 hr => ?_⟩
  have hK := hC.2.2.2.2.2.2.2.2.1
  refine W.anew hC.1 hC.2.1 hC.2.2.2.2.1 (hC.2.2.2.2.2.2.1 _ hw) (va_AO.use (hao s hK)) rfl hd rfl (fun q => hn (Or.inl q)) (by omega) (by omega) (by omega) fun cA kA comp f1 f2 f3 f4 => ?_
  have hcA : cA = G.2.1 t := by
    have htk : (am_tys G)[t]? = some (G.2.1 t, .object C) := by rw [am_tyk ht, hty]
    obtain ⟨_, _, _, _, _, q4⟩ := (hK.1.2 t _ htk).2
    exact Option.some.inj (f1.symm.trans q4)
  subst hcA
  generalize hH1 : H.push ({ cls := G.2.1 t, slots := Array.replicate n.toNatClampNeg .null, vm := .none } : Cell) = H1
  have z1 : H1.size = H.size + 1 := by rw [← hH1, Array.size_push]
  have e1 : H1[H.size]? = some (arrV (G.2.1 t) n.toNatClampNeg (fun _ => .null)) := by rw [← hH1, Array.getElem?_push_size, ← arrV_new]
  have o1 : ∀ q : Nat, q < H.size → H1[q]? = H[q]? := fun q hq => by rw [← hH1, Array.getElem?_push, if_neg (Nat.ne_of_lt hq)]
  have hsz : H.size = am_ad G (h.2.1 + 1) := by rw [hR.1]; rfl
  have hR' : am_R G (am_new h (.inr (t, n.toNatClampNeg, .inr (fun _ => none))) n.toNatClampNeg) H1 := by
    refine hR.new z1 o1 ?_
    show H1[H.size]? = some (vp_cell _ _)
    rw [e1, vp_cell_q]; rfl
  have hS' : va_S (am_A G) s.heap H1 locs := ⟨Nat.le_trans hS.1 (by omega), fun x h1 h2 => (o1 x (Nat.lt_of_lt_of_le h1 hS.1)).trans (hS.2.1 x h1 h2), hS.2.2⟩
  have kq := k0.2 p l e R s m args below meth c H1 locs (cells + 1) (slots + n.toNatClampNeg) arr Q hC hR' hS' hL
  simp only [am_new] at kq
  rw [show cells + 1 + (h'.2.1 - (h.2.1 + 1)) = cells + (h'.2.1 - h.2.1) by omega, show slots + n.toNatClampNeg + (h'.2.2 - (h.2.2 + n.toNatClampNeg)) = slots + (h'.2.2 - h.2.2) by omega] at kq
  have kq := kq h1 h2 hr
  rw [hsz]
  exact kq
theorem am_newo {idx ci : Nat} {q : vw_C} {n : Nat} {fs : List Value} {ty : Nat → FieldType} (hq : vwCl[ci]? = some q) (hlen : fs.length = q.2.2) (hcl : Cond.classLink M.1.cls idx q.1 ∈ am_W) (hins : Cond.instantiable q.1 q.2.2 ∈ am_W) (hini : Cond.initialized q.1 ∈ am_W) (hty : ∀ k, k < q.2.2 → parseFieldDescriptor (q.2.1 k).2.2.1 = some (ty k)) (hfs : ∀ j, j < q.2.2 → defaultValue (ty j) = vp_V fs j) (hnr : ∀ G : am_G, fs.map (am_cv G) = fs) (hd : decode M.2.1 pc = .ok (.new idx, 3)) (hp : pc + 3 = pc') (k0 : am_S G M pc' ls (va_rf (am_nw h ci fs).1 :: st) (am_nw h ci fs).2 r h') : am_S G M pc ls st h r h' := by
  subst hp
  have m1 : h.2.1 + 1 ≤ h'.2.1 ∧ h.2.2 + fs.length ≤ h'.2.2 := k0.1.1
  refine ⟨⟨⟨by omega, by omega⟩, k0.1.2⟩, fun p l e R s m args below meth c H locs cells slots arr Q hC hR hS hL h1 h2 hr => ?_⟩
  have hK := hC.2.2.2.2.2.2.2.2.1.1
  have hts := hC.2.2.2.2.2.2.1
  have hKn := hK.1 ci _ hq
  refine W.newcK hC.1 hC.2.1 hC.2.2.2.2.1 (hts _ hcl) (hts _ hins) (hts _ hini) rfl hd (by omega) (by omega) hKn.2.1 rfl fun H1 kC hkC e1 z1 o1 => ?_
  have hsz : H.size = am_ad G (h.2.1 + 1) := by rw [hR.1]; rfl
  have hR' : am_R G (am_nw h ci fs).2 H1 := by
    refine hR.new z1 o1 ?_
    refine ⟨_, hq, ?_⟩
    show t_OB _ _ _ _ _ (vp_V (fs.map (am_cv G)))
    rw [hnr]
    exact (u_born ty hts (am_cls ci _ hq).1 hKn hkC e1 hty).to hfs
  have hS' : va_S (am_A G) s.heap H1 locs := ⟨Nat.le_trans hS.1 (by omega), fun x h1 h2 => (o1 x (Nat.lt_of_lt_of_le h1 hS.1)).trans (hS.2.1 x h1 h2), hS.2.2⟩
  have kq := k0.2 p l e R s m args below meth c H1 locs (cells + 1) (slots + fs.length) arr Q hC hR' hS' hL
  simp only [am_nw, am_new] at kq
  rw [show cells + 1 + (h'.2.1 - (h.2.1 + 1)) = cells + (h'.2.1 - h.2.1) by omega, show slots + fs.length + (h'.2.2 - (h.2.2 + fs.length)) = slots + (h'.2.2 - h.2.2) by omega] at kq
  have kq := kq h1 h2 hr
  rw [← hlen, hsz]
  exact kq
/-! returns -/
def am_zr (x : Int32) (h : am_H) : Option (Int32 × am_H) := if x = 0 ∨ x = 1 then some (x, h) else none
theorem am_iret {x : Int32} {y : Int32 × am_H} (hrt : M.2.2.2.1 = some .int) (hd : decode M.2.1 pc = .ok (.ireturn, 1)) (hf : some (x, h) = some y) : am_S G M pc ls [.int x] h (some (.int y.1)) y.2 := by
  cases hf
  refine ⟨⟨⟨Nat.le_refl _, Nat.le_refl _⟩, by rw [hrt]; exact trivial⟩, fun p l e R s m args below meth c H locs cells slots arr Q hC hR hS hL h1 h2 hr => ?_⟩
  have k := hr H locs pc arr hR hS (by rw [hrt]; exact hd)
  simp only [Nat.sub_self, Nat.add_zero] at k
  exact k
theorem am_zret {x : Int32} {y : Int32 × am_H} (hrt : M.2.2.2.1 = some .boolean) (hd : decode M.2.1 pc = .ok (.ireturn, 1)) (hf : am_zr x h = some y) : am_S G M pc ls [.int x] h (some (.int y.1)) y.2 := by
  unfold am_zr at hf
  have hz : x = 0 ∨ x = 1 := Classical.byContradiction fun z => by rw [if_neg z] at hf; cases hf
  rw [if_pos hz] at hf
  cases hf
  refine ⟨⟨⟨Nat.le_refl _, Nat.le_refl _⟩, by rw [hrt]; exact hz⟩, fun p l e R s m args below meth c H locs cells slots arr Q hC hR hS hL h1 h2 hr => ?_⟩
  have k := hr H locs pc arr hR hS (by rw [hrt]; exact hd)
  simp only [Nat.sub_self, Nat.add_zero] at k
  exact k
theorem am_lret {x : Int64} {y : Int64 × am_H} (hrt : M.2.2.2.1 = some .long) (hd : decode M.2.1 pc = .ok (.lreturn, 1)) (hf : some (x, h) = some y) : am_S G M pc ls [.long x] h (some (.long y.1)) y.2 := by
  cases hf
  refine ⟨⟨⟨Nat.le_refl _, Nat.le_refl _⟩, by rw [hrt]; exact trivial⟩, fun p l e R s m args below meth c H locs cells slots arr Q hC hR hS hL h1 h2 hr => ?_⟩
  have k := hr H locs pc arr hR hS (by rw [hrt]; exact hd)
  simp only [Nat.sub_self, Nat.add_zero] at k
  exact k
theorem am_aret {x : Option Nat} {y : Option Nat × am_H} {C : String} (hrt : M.2.2.2.1 = some (.object C)) (hd : decode M.2.1 pc = .ok (.areturn, 1)) (hf : some (x, h) = some y) : am_S G M pc ls [va_rf x] h (some (va_rf y.1)) y.2 := by
  cases hf
  refine ⟨⟨⟨Nat.le_refl _, Nat.le_refl _⟩, by rw [hrt]; exact ⟨_, rfl⟩⟩, fun p l e R s m args below meth c H locs cells slots arr Q hC hR hS hL h1 h2 hr => ?_⟩
  have k := hr H locs pc arr hR hS (by rw [hrt]; exact hd)
  simp only [Nat.sub_self, Nat.add_zero] at k
  exact k
theorem am_vret {y : am_H} (hrt : M.2.2.2.1 = none) (hd : decode M.2.1 pc = .ok (.return_, 1)) (hf : some h = some y) : am_S G M pc ls [] h none y := by
  cases hf
  refine ⟨⟨⟨Nat.le_refl _, Nat.le_refl _⟩, by rw [hrt]; trivial⟩, fun p l e R s m args below meth c H locs cells slots arr Q hC hR hS hL h1 h2 hr => ?_⟩
  have k := hr H locs pc arr hR hS (by rw [hrt]; exact hd)
  simp only [Nat.sub_self, Nat.add_zero] at k
  exact k
end AM5
