/-! the abstract machine, 4: rows of fields, arrays, new cells -/
section AM3
variable {G : am_G} {M : am_M} {pc pc' : Nat} {ls ls' : List (Option Value)} {st : List Value} {h h' : am_H} {r : Option Value} {ρ : Type} {v : ρ}
theorem am_gi_ {F : Int32 → Option ρ} {idx ci k : Nat} {q : Option Nat} (hd : decode M.2.1 pc = .ok (.getfield idx, 3)) (hl : am_fl M.1.cls idx ci k) (hp : pc + 3 = pc') (hf : (am_gi h q ci k).bind F = some v) (kk : ∀ x, am_gi h q ci k = some x → F x = some v → am_S G M pc' ls (.int x :: st) h r h') : am_S G M pc ls (va_rf q :: st) h r h' := by
  obtain ⟨x, hx, hf⟩ := am_bind hf
  have k0 := kk x hx hf
  obtain ⟨o, ho, hv⟩ := am_bind hx
  obtain ⟨rfl, hc⟩ := am_ob_spec ho
  subst hp
  refine ⟨k0.1, fun p l e R s m args below meth c H locs cells slots arr Q hC hR hS hL h1 h2 hr => ?_⟩
  obtain ⟨C, T, N, l1, l2, l3, l4⟩ := hl
  have hv' : o.2[k]? = some (.int x) := by
    revert hv
    cases o.2[k]? with
    | none => intro z; cases z
    | some w => cases w <;> intro z <;> cases z; rfl
  exact va_get hC.1 hC.2.1 hC.2.2.2.2.2.2.1 (am_cls ci _ l1).1 hC.2.2.2.2.1 hC.2.2.2.2.2.2.2.2.1.1 (am_P1 hR hc) 0 rfl l1 k l2 (hC.2.2.2.2.2.2.1 _ l4) (fun y hy => by rw [l3] at hy; exact hy) (by rw [List.getElem?_map, hv']; rfl) hd (k0.2 p l e R s m args below meth c H locs cells slots arr Q hC hR hS hL h1 h2 hr)
theorem am_gr_ {F : Option Nat → Option ρ} {idx ci k : Nat} {q : Option Nat} (hd : decode M.2.1 pc = .ok (.getfield idx, 3)) (hl : am_fl M.1.cls idx ci k) (hp : pc + 3 = pc') (hf : (am_gr h q ci k).bind F = some v) (kk : ∀ x, am_gr h q ci k = some x → F x = some v → am_S G M pc' ls (va_rf x :: st) h r h') : am_S G M pc ls (va_rf q :: st) h r h' := by
  obtain ⟨x, hx, hf⟩ := am_bind hf
  have k0 := kk x hx hf
  obtain ⟨o, ho, hv⟩ := am_bind hx
  obtain ⟨rfl, hc⟩ := am_ob_spec ho
  subst hp
  refine ⟨k0.1, fun p l e R s m args below meth c H locs cells slots arr Q hC hR hS hL h1 h2 hr => ?_⟩
  obtain ⟨C, T, N, l1, l2, l3, l4⟩ := hl
  have hv' : o.2[k]? = some (va_rf x) := by
    revert hv
    cases o.2[k]? with
    | none => intro z; cases z
    | some w => cases w <;> intro z <;> cases z <;> rfl
  exact va_get hC.1 hC.2.1 hC.2.2.2.2.2.2.1 (am_cls ci _ l1).1 hC.2.2.2.2.1 hC.2.2.2.2.2.2.2.2.1.1 (am_P1 hR hc) 0 rfl l1 k l2 (hC.2.2.2.2.2.2.1 _ l4) (fun y hy => by rw [l3] at hy; exact hy) (by rw [List.getElem?_map, hv']; rfl) hd (k0.2 p l e R s m args below meth c H locs cells slots arr Q hC hR hS hL h1 h2 hr)
theorem am_pf0 {idx ci k : Nat} {q : Option Nat} {x : Value} {h1 : am_H} {fin : Bool} {ty : FieldType} (hd : decode M.2.1 pc = .ok (.putfield idx, 3)) (hl : am_fl M.1.cls idx ci k) (hl2 : am_fp ci k fin ty) (hfin : fin = true → M.1.name = "<init>" ∧ vwCl[ci]?.map (fun q => q.1) = some M.1.cls) (hn : ∀ G : am_G, narrow ty (am_cv G x) = am_cv G x) (hfit : ∀ G : am_G, fits ty (am_cv G x) = true) (hp : pc + 3 = pc') (hf : am_pf h q ci k x = some h1) (k0 : am_S G M pc' ls st h1 r h') : am_S G M pc ls (x :: va_rf q :: st) h r h' := by
  obtain ⟨o, ho, hv⟩ := am_bind hf
  obtain ⟨rfl, hc⟩ := am_ob_spec ho
  subst hp
  have hk : k < o.2.length := Classical.byContradiction fun z => by rw [if_neg z] at hv; cases hv
  rw [if_pos hk] at hv
  cases hv
  refine ⟨k0.1, fun p l e R s m args below meth c H locs cells slots arr Q hC hR hS hL h1 h2 hr => ?_⟩
  obtain ⟨C, T, N, l1, l2, l3, l4⟩ := hl
  obtain ⟨C', T', N', z1, z2, z3⟩ := hl2
  rw [l1] at z1
  cases z1
  obtain ⟨g1, ⟨ty0, g2⟩, g3⟩ := am_cls ci _ l1
  have hts := hC.2.2.2.2.2.2.1
  have hK := hC.2.2.2.2.2.2.2.2.1.1
  have hown := hC.2.2.2.2.1
  have hap := va_apart (own := M.1.cls) hts g1 ty0 g2 g3 hK l1
  obtain ⟨r0, q0, cell, q1, q2, q3, q4⟩ := (hR.2 _ _ hc).2
  have hr0 : r0 = (C, T, N) := Option.some.inj (q0.symm.trans l1)
  subst hr0
  obtain ⟨hSl, hfc, kC, hkC, hkind⟩ := hK.1 ci _ l1
  obtain ⟨cf, kf, fi, f, hi, hsl⟩ := hSl k l2
  have hlay := hts _ (g1 _ (u_in_lay l2))
  have hst := (u_facts hfc hkC (u_lays hts g1 l2) hi).1
  have hl9 : k < (o.2.map (am_cv G)).length := by rw [List.length_map]; exact hk
  have fin1 : ∀ H' : Heap, H'[am_ad G o.1]? = some (cell.setSlot f.slot (am_cv G x)) → H'.size = H.size → (∀ q, q ≠ am_ad G o.1 → H'[q]? = H[q]?) → am_R G (am_set h o.1 (.inl (ci, o.2.set k x))) H' := by
    intro H' e1 e2 e3
    rw [hsl] at e1
    refine hR.set hc e2 e3 ?_
    refine ⟨_, l1, t_OB.to (V := updV (vp_V (o.2.map (am_cv G))) k (am_cv G x)) ⟨_, e1, q2, q3, t_set q4 hap l2 (am_cv G x)⟩ (fun j _ => ?_)⟩
    rw [vp_updV_set hl9]
    simp only [List.map_set]
  have hsame : ∀ y, s.fieldFound? (T k).1 (T k).2.1 (T k).2.2.1 = some y → s.fieldFound? C (T k).2.1 (T k).2.2.1 = some y := fun y hy => by rw [l3] at hy; exact hy
  cases fin with
  | false =>
    unfold u_lay at hlay
    rw [if_neg (by rw [z2]; decide)] at hlay
    have h6 := u_store hfc hkC hkind hlay hi z3 (hn G) (hfit G)
    refine W.putK hC.1 hC.2.1 (f := f) ⟨hown, hts _ l4, ⟨_, _, _, hsame _ hi⟩, hst⟩ (by rw [q2]; exact h6) q1 q3 (by rw [hsl]; exact k2_hasslot (q4 k l2)) rfl rfl hd fun H' e1 e2 e3 => ?_
    exact k0.2 p l e R s m args below meth c H' _ cells slots arr Q hC (fin1 H' e1 e2 e3) (hS.put e2 e3 (am_ad_A (hR.2 _ _ hc).1.1)) hL h1 h2 hr
  | true =>
    unfold u_lay at hlay
    rw [if_pos z2] at hlay
    obtain ⟨f1, f2⟩ := hfin rfl
    rw [l1] at f2
    have hC0 : C = M.1.cls := Option.some.inj f2
    have hcf : m.cls = cf := by
      obtain ⟨_, _, c', _, _, _, -, -, hf', -, -, -, hown2, -⟩ := Cond.laysFinal_spec hlay
      have e1 : c' = cf := by have := hi.symm.trans hf'; simp at this; exact this.1.symm
      rw [l3, hC0] at hown2
      rw [← e1]; exact Option.some.inj (hown.symm.trans hown2)
    have h6 := u_fits hfc hkC hkind (Or.inr hlay) hi z3 (hn G) (hfit G)
    refine W.putFinK hC.1 hC.2.1 hown (hts _ l4) (hsame _ hi) hst hcf (hC.2.2.2.2.2.1 f1) (by rw [q2]; exact h6) q1 q3 (by rw [hsl]; exact k2_hasslot (q4 k l2)) rfl rfl hd fun H' e1 e2 e3 => ?_
    exact k0.2 p l e R s m args below meth c H' _ cells slots arr Q hC (fin1 H' e1 e2 e3) (hS.put e2 e3 (am_ad_A (hR.2 _ _ hc).1.1)) hL h1 h2 hr
end AM3
