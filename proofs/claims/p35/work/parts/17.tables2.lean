/-! fields of long; new cells -/
section AM8
variable {G : am_G} {M : am_M} {pc pc' : Nat} {ls ls' : List (Option Value)} {st : List Value} {h h' : am_H} {r : Option Value} {ρ : Type} {v : ρ}
theorem am_gl_ {F : Int64 → Option ρ} {idx ci k : Nat} {q : Option Nat} (hd : decode M.2.1 pc = .ok (.getfield idx, 3)) (hl : am_fl M.1.cls idx ci k) (hp : pc + 3 = pc') (hf : (am_gl h q ci k).bind F = some v) (kk : ∀ x, am_gl h q ci k = some x → F x = some v → am_S G M pc' ls (.long x :: st) h r h') : am_S G M pc ls (va_rf q :: st) h r h' := by
  obtain ⟨x, hx, hf⟩ := am_bind hf
  have k0 := kk x hx hf
  obtain ⟨o, ho, hv⟩ := am_bind hx
  obtain ⟨rfl, hc⟩ := am_ob_spec ho
  subst hp
  refine ⟨k0.1, fun p l e R s m args below meth c H locs cells slots arr Q hC hR hS hL h1 h2 hr => ?_⟩
  obtain ⟨C, T, N, l1, l2, l3, l4⟩ := hl
  have hv' : o.2[k]? = some (.long x) := by
    revert hv
    cases o.2[k]? with
    | none => intro z; cases z
    | some w => cases w <;> intro z <;> cases z; rfl
  exact va_get hC.1 hC.2.1 hC.2.2.2.2.2.2.1 (am_cls ci _ l1).1 hC.2.2.2.2.1 hC.2.2.2.2.2.2.2.2.1.1 (am_P1 hR hc) 0 rfl l1 k l2 (hC.2.2.2.2.2.2.1 _ l4) (fun y hy => by rw [l3] at hy; exact hy) (by rw [List.getElem?_map, hv']; rfl) hd (k0.2 p l e R s m args below meth c H locs cells slots arr Q hC hR hS hL h1 h2 hr)
theorem am_pl_ {F : am_H → Option ρ} {idx ci k : Nat} {q : Option Nat} {x : Int64} {fin : Bool} (hd : decode M.2.1 pc = .ok (.putfield idx, 3)) (hl : am_fl M.1.cls idx ci k) (hl2 : am_fp ci k fin .long) (hfin : fin = true → M.1.name = "<init>" ∧ vwCl[ci]?.map (fun q => q.1) = some M.1.cls) (hp : pc + 3 = pc') (hf : (am_pl h q ci k x).bind F = some v) (kk : ∀ h1, am_pl h q ci k x = some h1 → F h1 = some v → am_S G M pc' ls st h1 r h') : am_S G M pc ls (.long x :: va_rf q :: st) h r h' := by
  obtain ⟨h1, hx, hf⟩ := am_bind hf
  exact am_pf0 hd hl hl2 hfin (fun _ => rfl) (fun _ => rfl) hp hx (kk h1 hx hf)
end AM8
theorem am_ci (x : Int32) : (Value.int x).category = 1 := rfl
theorem am_cl (x : Int64) : (Value.long x).category = 2 := rfl
theorem am_e1_n : am_e1 [] = [] := rfl
theorem am_e1_r (q : Option Nat) (l : List Value) : am_e1 (va_rf q :: l) = some (va_rf q) :: am_e1 l := by cases q <;> rfl
theorem am_e1_i (x : Int32) (l : List Value) : am_e1 (.int x :: l) = some (.int x) :: am_e1 l := rfl
theorem am_e1_l (x : Int64) (l : List Value) : am_e1 (.long x :: l) = some (.long x) :: none :: am_e1 l := rfl
theorem am_un_r {ls : List (Option Value)} {j : Nat} {q : Option Nat} (h : ls[j]? = some (some (va_rf q))) : am_un ls (j + 1) = ls := by
  unfold am_un
  dsimp only
  rw [h]
  cases q <;> rfl
theorem am_s1_r {ls ls' : List (Option Value)} {j : Nat} {q : Option Nat} {v : Value} (h : ls[j]? = some (some (va_rf q))) (e : ls.set (j + 1) (some v) = ls') : am_s1 ls (j + 1) v = ls' := by unfold am_s1; rw [am_un_r h]; exact e
theorem am_s2_r {ls ls' : List (Option Value)} {j : Nat} {q : Option Nat} {v : Value} (h : ls[j]? = some (some (va_rf q))) (e : (ls.set (j + 1 + 1) none).set (j + 1) (some v) = ls') : am_s2 ls (j + 1) v = ls' := by unfold am_s2; rw [am_un_r h]; exact e
theorem nw_X8_9 : am_lkN RX8 9 0 df_0 := ⟨_, tyX0, rfl, rfl, am_inW 46 (by decide +kernel) rfl, am_inW 97 (by decide +kernel) rfl, am_inW 31 (by decide +kernel) rfl, tyX0_ok, by decide +kernel, fun _ => rfl⟩
theorem nw_X8_15 : am_lkN RX8 15 2 df_2 := ⟨_, tyX2, rfl, rfl, am_inW 48 (by decide +kernel) rfl, am_inW 148 (by decide +kernel) rfl, am_inW 32 (by decide +kernel) rfl, tyX2_ok, by decide +kernel, fun _ => rfl⟩
theorem nw_X8_21 : am_lkN RX8 21 7 df_7 := ⟨_, tyX7, rfl, rfl, am_inW 50 (by decide +kernel) rfl, am_inW 392 (by decide +kernel) rfl, am_inW 36 (by decide +kernel) rfl, tyX7_ok, by decide +kernel, fun _ => rfl⟩
theorem nw_X8_27 : am_lkN RX8 27 3 df_3 := ⟨_, tyX3, rfl, rfl, am_inW 52 (by decide +kernel) rfl, am_inW 53 (by decide +kernel) rfl, am_inW 28 (by decide +kernel) rfl, tyX3_ok, by decide +kernel, fun _ => rfl⟩
theorem nw_X8_34 : am_lkN RX8 34 6 df_6 := ⟨_, tyX6, rfl, rfl, am_inW 71 (by decide +kernel) rfl, am_inW 72 (by decide +kernel) rfl, am_inW 29 (by decide +kernel) rfl, tyX6_ok, by decide +kernel, fun _ => rfl⟩
theorem nw_X8_57 : am_lkN RX8 57 5 df_5 := ⟨_, tyX5, rfl, rfl, am_inW 168 (by decide +kernel) rfl, am_inW 169 (by decide +kernel) rfl, am_inW 33 (by decide +kernel) rfl, tyX5_ok, by decide +kernel, fun _ => rfl⟩
theorem nw_X8_69 : am_lkN RX8 69 4 df_4 := ⟨_, tyX4, rfl, rfl, am_inW 221 (by decide +kernel) rfl, am_inW 222 (by decide +kernel) rfl, am_inW 34 (by decide +kernel) rfl, tyX4_ok, by decide +kernel, fun _ => rfl⟩
theorem nw_X8_76 : am_lkN RX8 76 1 df_1 := ⟨_, tyX1, rfl, rfl, am_inW 266 (by decide +kernel) rfl, am_inW 267 (by decide +kernel) rfl, am_inW 35 (by decide +kernel) rfl, tyX1_ok, by decide +kernel, fun _ => rfl⟩
theorem nw_L_9 : am_lkN RL 9 8 df_8 := ⟨_, tyX8, rfl, rfl, am_inW 38 (by decide +kernel) rfl, am_inW 39 (by decide +kernel) rfl, am_inW 27 (by decide +kernel) rfl, tyX8_ok, by decide +kernel, fun _ => rfl⟩
