/-! the abstract machine, 6: calls -/
def am_Cn (G : am_G) (M : am_M) (As : List Value) (h : am_H) (r : Option Value) (h1 : am_H) : Prop := am_S G M 0 (am_en M.2.2.1 As) [] h r h1
def am_mok (M : am_M) (n : Nat) : Prop := Cond.code M.1 M.2.1 M.2.2.1 M.2.2.2.1 ∈ am_W ∧ Cond.initialized M.1.cls ∈ am_W ∧ (M.1.cls ≠ "java/lang/invoke/MethodHandle" ∧ M.1.cls ≠ "java/lang/invoke/VarHandle" ∧ (parseMethodDescriptor M.1.desc).map (fun d => d.parameters.length) = some n) ∧ plainName M.1.cls = true
def am_ws (M : am_M) : List Cond := Cond.code M.1 M.2.1 M.2.2.1 M.2.2.2.1 :: am_W
def am_P (G : am_G) (As : List Value) (h : am_H) : Array Value → State → Prop := fun av U => av = (As.map (am_cv G)).toArray ∧ am_R G h U.heap ∧ am_K G U
def am_Q (G : am_G) (r : Option Value) (h1 : am_H) : Array Value → State → Outcome → State → Prop := fun _ st oc t => oc = .returned (r.map (am_cv G)) ∧ am_R G h1 t.heap ∧ va_F (am_A G) st t
def am_rm (M : am_M) (h h1 : am_H) : Room := { frames := M.2.2.2.2.1, cells := h1.2.1 - h.2.1, slots := h1.2.2 - h.2.2, locals := M.2.2.2.2.2 }
theorem am_K.moved {G : am_G} {u U : State} (hW : u.WarmedH U.vm) (hh : U.heap = u.heap) (h : am_K G u) : am_K G U := by
  obtain ⟨h1, h2, h3, h4, h5, h6, h7, h8⟩ := h
  refine ⟨h1.moved hW.alike, by rw [hh]; exact h2.moved hW.alike, h3, by rw [hh]; exact h4, fun q hq => va_Nw.warmM hW (h5 q hq), h6.moved hW.alike, h7.moved hW.alike, h8.moved hW.alike⟩
theorem am_blind {G : am_G} {As : List Value} {h : am_H} : FrameBlind (am_P G As h) := fun a U g mk q => ⟨q.1, q.2.1, am_K.moved (u := U) (U := U.calling g mk a) (State.WarmedH.refl U) rfl q.2.2⟩
theorem am_met {G : am_G} {M : am_M} {As : List Value} {h h1 : am_H} {r : Option Value} {n : Nat} (l : Launch) (hm : am_mok M n) (hlen : (am_e1 As).length ≤ M.2.2.1) (hc : am_Cn G M As h r h1) : Met l M.1 (am_ws M) (am_rm M h h1) (am_P G As h) (am_Q G r h1) (h1.2.1 - h.2.1) (h1.2.2 - h.2.2) (am_A G) := by
  refine Met.ofW (cc := M.2.1) (maxL := M.2.2.1) (ret := M.2.2.2.1) hm.2.2.2 rfl ?_
  intro p e s m args below meth c s₁ B hml hv
  obtain ⟨rfl, hR, hK⟩ := hv
  have hts := atoms_spec (ws := am_ws M) B.pre
  have hlk : meth.locks = false := B.notSynchronized
  rw [lg_entry_eq]
  have cx : am_Cx G M p (headSpec (am_ws M) (am_rm M h h1)).room s m (As.map (am_cv G)).toArray meth c := ⟨B.exec, B.bytes, hml, B.returns, findClass_of_methodNamed B.named, fun hi => (name_of_methodNamed B.named B.method).1.trans hi, fun w hw => hts w (List.mem_cons_of_mem _ hw), hlk, hK, Nat.le_refl _, Nat.le_refl _⟩
  refine hc.2 p l e _ s m _ below meth c s.heap [] 0 0 _ _ cx hR va_S.rf (am_entry hlen) (by show 0 + _ ≤ h1.2.1 - h.2.1; omega) (by show 0 + _ ≤ h1.2.2 - h.2.2; omega) (fun H' locs' pc' arr' hR' hS' hd => ?_)
  rw [Nat.zero_add, Nat.zero_add]
  have hrt := hc.1.2
  have hret := B.returns
  have fin : ∀ t : State, t.heap = H' → am_Q G r h1 (As.map (am_cv G)).toArray s (.returned (r.map (am_cv G))) t := fun t ht => ⟨rfl, by rw [ht]; exact hR', hS'.F ht⟩
  generalize M.2.2.2.1 = rt at hrt hret hd
  match rt, r, hrt with
  | none, none, _ => exact W.vret B.exec B.bytes hret (fun t ht _ => fin t ht) hS'.2.2 hd
  | some .int, some (.int x), _ => exact W.iret B.exec B.bytes hret (fun t ht _ => fin t ht) hS'.2.2 hd
  | some .boolean, some (.int x), hz => exact W.zret B.exec B.bytes hret (by rcases hz with rfl | rfl <;> decide) (fun t ht _ => fin t ht) hS'.2.2 hd
  | some .long, some (.long x), _ => exact W.lret B.exec B.bytes hret (fun t ht _ => fin t ht) hS'.2.2 hd
  | some (.object C), some v, hz =>
    obtain ⟨q, rfl⟩ := hz
    exact W.aret B.exec B.bytes hret (Or.inl ⟨_, rfl⟩) (by cases q with | none => exact Or.inl rfl | some a => exact Or.inr ⟨_, rfl⟩) (fun t ht _ => fin t ht) hS'.2.2 hd
section AM6
variable {G : am_G} {M M' : am_M} {pc pc' : Nat} {ls ls' : List (Option Value)} {st st0 : List Value} {h h' h1 : am_H} {r r1 : Option Value} {ρ : Type} {v : ρ} {n idx : Nat} {As : List Value}
theorem am_run {a : Array Value} (hm : h.2.1 ≤ h1.2.1 ∧ h.2.2 ≤ h1.2.2) (hp : pc + 3 = pc') (k : am_S G M pc' ls (r1.toList ++ st) h1 r h')
    (hrun : ∀ (p : Program) (l : Launch) (e : Env) (R : Room) (s : State) (m : MethodId) (args : Array Value) (below : List Frame) (meth : Method) (c : Code) (H : Heap) (locs : List Loc) (cells slots : Nat) (arr : Array Slot), am_Cx G M p R s m args meth c → am_R G h H → va_S (am_A G) s.heap H locs → am_L G arr M.2.2.1 ls → cells + (h1.2.1 - h.2.1) ≤ R.cells ∧ slots + (h1.2.2 - h.2.2) ≤ R.slots → va_Run p l e R s m args below meth c H locs cells slots (h1.2.1 - h.2.1) (h1.2.2 - h.2.2) (F0 m pc arr (st0.map (am_cv G))) (st.map (am_cv G)) (am_Q G r1 h1 a) (am_A G)) : am_S G M pc ls st0 h r h' := by
  subst hp
  obtain ⟨⟨⟨m1, m2⟩, m3⟩, k⟩ := k
  refine ⟨⟨⟨by omega, by omega⟩, m3⟩, fun p l e R s m args below meth c H locs cells slots arr Q hC hR hS hL h1' h2' hr => ?_⟩
  intro T hT X
  obtain ⟨w, st₀, t, T', L, h0, X', hLc, e1, e2, ⟨hq1, hq2, hq3⟩, stp⟩ := hrun p l e R s m args below meth c H locs cells slots arr hC hR hS hL ⟨by omega, by omega⟩ T hT X
  cases hq1
  have hz : H.size ≤ T'.heap.size := by rw [e1, ← h0]; exact hq3.1
  have hk : ∀ q : Nat, q < H.size → ¬ am_A G q → T'.heap[q]? = H[q]? := fun q z1 z2 => by rw [e1, ← h0]; exact hq3.2 q (by rw [h0]; exact z1) z2
  have hS' : va_S (am_A G) s.heap T'.heap (locs ++ L) := ⟨Nat.le_trans hS.1 hz, fun q z1 z2 => (hk q (Nat.lt_of_lt_of_le z1 hS.1) z2).trans (hS.2.1 q z1 z2), fun q hq => by
    rcases List.mem_append.mp hq with z | z
    · exact hS.2.2 q z
    · exact hLc q z⟩
  have kq := k p l e R s m args below meth c T'.heap (locs ++ L) (cells + (h1.2.1 - h.2.1)) (slots + (h1.2.2 - h.2.2)) arr Q hC (by rw [e1]; exact hq2) hS' hL (by omega) (by omega) (by
    rw [show cells + (h1.2.1 - h.2.1) + (h'.2.1 - h1.2.1) = cells + (h'.2.1 - h.2.1) by omega, show slots + (h1.2.2 - h.2.2) + (h'.2.2 - h1.2.2) = slots + (h'.2.2 - h.2.2) by omega]
    exact hr)
  obtain ⟨t2, a1, b1⟩ := kq T' rfl X'
  refine ⟨t2, stp t2 ?_, b1⟩
  have es : (Option.map (am_cv G) r1).toList ++ List.map (am_cv G) st = List.map (am_cv G) (r1.toList ++ st) := by cases r1 <;> rfl
  show Steps p.tables e below (T'.setTop (F0 m (pc + 3) arr ((Option.map (am_cv G) r1).toList ++ List.map (am_cv G) st))) t2
  rw [es]
  exact a1
theorem am_cb {p : Program} {R : Room} {s : State} {m : MethodId} {args : Array Value} {meth : Method} {c : Code} (hC : am_Cx G M p R s m args meth c) (hm : am_mok M' n) (hl : Cond.methodLink M.1.cls idx M'.1 ∈ am_W) (hfr : M'.2.2.2.2.1 + 1 ≤ M.2.2.2.2.1) (hlo : 8 + (M'.2.2.1 + 11) + M'.2.2.2.2.2 ≤ M.2.2.2.2.2) : CallB R s args M.1.cls idx M'.1 M'.2.1 M'.2.2.1 M'.2.2.2.1 (am_ws M') (am_rm M' h h1) (h1.2.1 - h.2.1) (h1.2.2 - h.2.2) n := by
  have hts := hC.2.2.2.2.2.2.1
  refine callB_of n hts (am_Wgood fun w hw => ?_) rfl rfl rfl (hts _ hm.2.1) (hts _ hl) hm.2.2.1 ⟨?_, ?_⟩
  · rcases List.mem_cons.mp hw with rfl | hw
    · exact hm.1
    · exact hw
  · exact Nat.le_trans hfr hC.2.2.2.2.2.2.2.2.2.1
  · exact Nat.le_trans hlo hC.2.2.2.2.2.2.2.2.2.2
theorem am_cn {p : Program} {R : Room} {s : State} {m : MethodId} {args : Array Value} {meth : Method} {c : Code} {host : String} (hC : am_Cx G M p R s m args meth c) (hm : am_mok M' n) (hl : (M.1.cls, idx, M'.1, host) ∈ am_nst) (hfr : M'.2.2.2.2.1 + 1 ≤ M.2.2.2.2.1) (hlo : 8 + (M'.2.2.1 + 11) + M'.2.2.2.2.2 ≤ M.2.2.2.2.2) : va_CN R s args M.1.cls idx M'.1 host M'.2.1 M'.2.2.1 M'.2.2.2.1 (am_ws M') (am_rm M' h h1) (h1.2.1 - h.2.1) (h1.2.2 - h.2.2) n := by
  have hts := hC.2.2.2.2.2.2.1
  refine va_cnB n hts (am_Wgood fun w hw => ?_) rfl rfl rfl (hC.2.2.2.2.2.2.2.2.1.2.2.2.2.1 _ hl) (hts _ hm.2.1) hm.2.2.1 ⟨?_, ?_⟩
  · rcases List.mem_cons.mp hw with rfl | hw
    · exact hm.1
    · exact hw
  · exact Nat.le_trans hfr hC.2.2.2.2.2.2.2.2.2.1
  · exact Nat.le_trans hlo hC.2.2.2.2.2.2.2.2.2.2
theorem am_room {G : am_G} {st : List Value} (h : (st.map fun v => v.category).sum ≤ 8) : ((st.map (am_cv G)).map fun v => v.category).sum ≤ 8 := by
  rw [List.map_map]
  have e : ((fun v : Value => v.category) ∘ am_cv G) = fun v => v.category := funext fun v => am_cat G v
  rw [e]; exact h
theorem am_rev {G : am_G} {As st : List Value} {b : Nat} : List.map (am_cv G) (As.reverse ++ .ref b :: st) = (As.map (am_cv G)).reverse ++ .ref (am_ad G b) :: st.map (am_cv G) := by
  rw [List.map_append, List.map_reverse]; rfl
theorem am_rev0 {G : am_G} {As st : List Value} : List.map (am_cv G) (As.reverse ++ st) = (As.map (am_cv G)).reverse ++ st.map (am_cv G) := by
  rw [List.map_append, List.map_reverse]
theorem am_pre {p : Program} {R : Room} {s : State} {m : MethodId} {args : Array Value} {meth : Method} {c : Code} {H : Heap} {locs : List Loc} (hC : am_Cx G M p R s m args meth c) (hR : am_R G h H) (hS : va_S (am_A G) s.heap H locs) {bs : List Value} : ∀ U : State, U.heap = H → s.WarmedH U.vm → am_P G bs h (bs.map (am_cv G)).toArray U := by
  intro U hU hW
  obtain ⟨h1, h2, h3, h4, h5, h6, h7, h8⟩ := hC.2.2.2.2.2.2.2.2.1
  have hbA : ¬ am_A G G.2.2.1 := fun q => by unfold am_A at q; omega
  have hlt : G.2.2.1 < s.heap.size := Nat.lt_of_lt_of_le h3 h4
  refine ⟨rfl, by rw [hU]; exact hR, h1.moved hW.alike, ?_, h3, by rw [hU]; exact Nat.le_trans h4 hS.1, fun q hq => va_Nw.warmM hW (h5 q hq), h6.moved hW.alike, h7.moved hW.alike, h8.moved hW.alike⟩
  rw [hU]
  exact (h2.kept (hS.2.1 _ hlt hbA)).moved hW.alike
/-- a call of a method of an object -/
theorem am_callV {b ci : Nat} {q : vw_C} {fs : List Value} (hm : am_mok M' n) (hi : Cond.instanceMethod M'.1 ∈ am_W) (hs : Cond.selects M'.1.cls M'.1 M'.1 ∈ am_W) (hl : Cond.methodLink M.1.cls idx M'.1 ∈ am_W) (hfr : M'.2.2.2.2.1 + 1 ≤ M.2.2.2.2.1) (hlo : 8 + (M'.2.2.1 + 11) + M'.2.2.2.2.2 ≤ M.2.2.2.2.2) (hst : (st.map fun v => v.category).sum ≤ 8) (hd : decode M.2.1 pc = .ok (.invokevirtual idx, 3)) (hn : As.length = n) (hlen : (am_e1 (.ref b :: As)).length ≤ M'.2.2.1) (hq : vwCl[ci]? = some q) (hqn : q.1 = M'.1.cls) (hb : h.1 b = some (.inl (ci, fs))) (hc : am_Cn G M' (.ref b :: As) h r1 h1) (hp : pc + 3 = pc') (k : am_S G M pc' ls (r1.toList ++ st) h1 r h') : am_S G M pc ls (As.reverse ++ .ref b :: st) h r h' := by
  refine am_run (a := ((Value.ref b :: As).map (am_cv G)).toArray) hc.1.1 hp k fun p l e R s m args below meth c H locs cells slots arr hC hR hS hL hf => ?_
  have hts := hC.2.2.2.2.2.2.1
  rw [am_rev]
  have hrc := va_recv (s := s) hC.2.2.2.2.2.2.2.2.1.1 (am_P1 hR hb) (q := q) (ci := ci) (q0 := 0) hq rfl
  rw [hqn] at hrc
  exact va_runV (As := As.map (am_cv G)) (rest := st.map (am_cv G)) (b := am_ad G b) ⟨hC.1, hC.2.1, hC.2.2.1, hC.2.2.2.2.1, hts⟩ (am_met l hm hlen hc) ⟨am_cb hC hm hl hfr hlo, hts _ hi, hts _ hs⟩ ⟨am_blind, hrc, am_pre (bs := .ref b :: As) hC hR hS⟩ rfl (by rw [List.length_map]; exact hn) hL.1 rfl (lv_room (am_room hst)) hd hf
theorem am_callI {b : Nat} (hm : am_mok M' n) (hy : M'.1.name = "<init>") (hrt : M'.2.2.2.1 = none) (hi : Cond.instanceMethod M'.1 ∈ am_W) (hl : Cond.methodLink M.1.cls idx M'.1 ∈ am_W) (hfr : M'.2.2.2.2.1 + 1 ≤ M.2.2.2.2.1) (hlo : 8 + (M'.2.2.1 + 11) + M'.2.2.2.2.2 ≤ M.2.2.2.2.2) (hst : (st.map fun v => v.category).sum ≤ 8) (hd : decode M.2.1 pc = .ok (.invokespecial idx, 3)) (hn : As.length = n) (hlen : (am_e1 (.ref b :: As)).length ≤ M'.2.2.1) (hc : am_Cn G M' (.ref b :: As) h none h1) (hp : pc + 3 = pc') (k : am_S G M pc' ls st h1 r h') : am_S G M pc ls (As.reverse ++ .ref b :: st) h r h' := by
  refine am_run (r1 := none) (a := ((Value.ref b :: As).map (am_cv G)).toArray) hc.1.1 hp k fun p l e R s m args below meth c H locs cells slots arr hC hR hS hL hf => ?_
  have hts := hC.2.2.2.2.2.2.1
  rw [am_rev]
  have cb := am_cb (h := h) (h1 := h1) hC hm hl hfr hlo
  rw [hrt] at cb
  exact va_runI (As := As.map (am_cv G)) (rest := st.map (am_cv G)) (b := am_ad G b) ⟨hC.1, hC.2.1, hC.2.2.1, hC.2.2.2.2.1, hts⟩ (am_met l hm hlen hc) ⟨cb, hy, hts _ hi⟩ ⟨am_blind, am_pre (bs := .ref b :: As) hC hR hS⟩ rfl (by rw [List.length_map]; exact hn) hL.1 rfl (lv_room (am_room hst)) hd hf
theorem am_callIN {b : Nat} {host : String} (hm : am_mok M' n) (hy : M'.1.name = "<init>") (hrt : M'.2.2.2.1 = none) (hi : Cond.instanceMethod M'.1 ∈ am_W) (hl : (M.1.cls, idx, M'.1, host) ∈ am_nst) (hfr : M'.2.2.2.2.1 + 1 ≤ M.2.2.2.2.1) (hlo : 8 + (M'.2.2.1 + 11) + M'.2.2.2.2.2 ≤ M.2.2.2.2.2) (hst : (st.map fun v => v.category).sum ≤ 8) (hd : decode M.2.1 pc = .ok (.invokespecial idx, 3)) (hn : As.length = n) (hlen : (am_e1 (.ref b :: As)).length ≤ M'.2.2.1) (hc : am_Cn G M' (.ref b :: As) h none h1) (hp : pc + 3 = pc') (k : am_S G M pc' ls st h1 r h') : am_S G M pc ls (As.reverse ++ .ref b :: st) h r h' := by
  refine am_run (r1 := none) (a := ((Value.ref b :: As).map (am_cv G)).toArray) hc.1.1 hp k fun p l e R s m args below meth c H locs cells slots arr hC hR hS hL hf => ?_
  have hts := hC.2.2.2.2.2.2.1
  rw [am_rev]
  have cb := am_cn (h := h) (h1 := h1) hC hm hl hfr hlo
  rw [hrt] at cb
  exact va_runIN (As := As.map (am_cv G)) (rest := st.map (am_cv G)) (b := am_ad G b) ⟨hC.1, hC.2.1, hC.2.2.1, hC.2.2.2.2.1, hts⟩ (am_met l hm hlen hc) ⟨cb, hy, hts _ hi⟩ ⟨am_blind, am_pre (bs := .ref b :: As) hC hR hS⟩ rfl (by rw [List.length_map]; exact hn) hL.1 rfl (lv_room (am_room hst)) hd hf
theorem am_callS (hm : am_mok M' n) (hi : Cond.static M'.1 ∈ am_W) (hl : Cond.methodLink M.1.cls idx M'.1 ∈ am_W) (hfr : M'.2.2.2.2.1 + 1 ≤ M.2.2.2.2.1) (hlo : 8 + (M'.2.2.1 + 11) + M'.2.2.2.2.2 ≤ M.2.2.2.2.2) (hst : (st.map fun v => v.category).sum ≤ 8) (hd : decode M.2.1 pc = .ok (.invokestatic idx, 3)) (hn : As.length = n) (hlen : (am_e1 As).length ≤ M'.2.2.1) (hc : am_Cn G M' As h r1 h1) (hp : pc + 3 = pc') (k : am_S G M pc' ls (r1.toList ++ st) h1 r h') : am_S G M pc ls (As.reverse ++ st) h r h' := by
  refine am_run (a := (As.map (am_cv G)).toArray) hc.1.1 hp k fun p l e R s m args below meth c H locs cells slots arr hC hR hS hL hf => ?_
  have hts := hC.2.2.2.2.2.2.1
  rw [am_rev0]
  exact va_runS (As := As.map (am_cv G)) (rest := st.map (am_cv G)) ⟨hC.1, hC.2.1, hC.2.2.1, hC.2.2.2.2.1, hts⟩ (am_met l hm hlen hc) ⟨am_cb hC hm hl hfr hlo, hts _ hi⟩ ⟨am_blind, am_pre (bs := As) hC hR hS⟩ rfl (by rw [List.length_map]; exact hn) hL.1 rfl (lv_room (am_room hst)) hd hf
theorem am_callSN {host : String} (hm : am_mok M' n) (hi : Cond.static M'.1 ∈ am_W) (hl : (M.1.cls, idx, M'.1, host) ∈ am_nst) (hfr : M'.2.2.2.2.1 + 1 ≤ M.2.2.2.2.1) (hlo : 8 + (M'.2.2.1 + 11) + M'.2.2.2.2.2 ≤ M.2.2.2.2.2) (hst : (st.map fun v => v.category).sum ≤ 8) (hd : decode M.2.1 pc = .ok (.invokestatic idx, 3)) (hn : As.length = n) (hlen : (am_e1 As).length ≤ M'.2.2.1) (hc : am_Cn G M' As h r1 h1) (hp : pc + 3 = pc') (k : am_S G M pc' ls (r1.toList ++ st) h1 r h') : am_S G M pc ls (As.reverse ++ st) h r h' := by
  refine am_run (a := (As.map (am_cv G)).toArray) hc.1.1 hp k fun p l e R s m args below meth c H locs cells slots arr hC hR hS hL hf => ?_
  have hts := hC.2.2.2.2.2.2.1
  rw [am_rev0]
  exact va_runSN (As := As.map (am_cv G)) (rest := st.map (am_cv G)) ⟨hC.1, hC.2.1, hC.2.2.1, hC.2.2.2.2.1, hts⟩ (am_met l hm hlen hc) ⟨am_cn hC hm hl hfr hlo, hts _ hi, trivial⟩ ⟨am_blind, am_pre (bs := As) hC hR hS⟩ rfl (by rw [List.length_map]; exact hn) hL.1 rfl (lv_room (am_room hst)) hd hf
theorem am_obinit {a : Nat} (hl : Cond.methodLink M.1.cls idx objectInit ∈ am_W) (hi : Cond.instanceMethod objectInit ∈ am_W) (hc : Cond.code objectInit ⟨#[0xb1]⟩ 1 none ∈ am_W) (hfr : 1 ≤ M.2.2.2.2.1) (hlo : (st.map fun v => v.category).sum + 12 ≤ M.2.2.2.2.2) (hd : decode M.2.1 pc = .ok (.invokespecial idx, 3)) (hp : pc + 3 = pc') (k : am_S G M pc' ls st h r h') : am_S G M pc ls (.ref a :: st) h r h' := by
  subst hp
  refine ⟨k.1, fun p l e R s m args below meth c H locs cells slots arr Q hC hR hS hL h1 h2 hr => ?_⟩
  have hts := hC.2.2.2.2.2.2.1
  have e9 : ((st.map (am_cv G)).map fun v => v.category).sum = (st.map fun v => v.category).sum := by
    rw [List.map_map]
    have e : ((fun v : Value => v.category) ∘ am_cv G) = fun v => v.category := funext fun v => am_cat G v
    rw [e]
  refine W.objInit hC.1 hC.2.1 hC.2.2.2.2.1 (hts _ hl) (hts _ hi) (hts _ hc) rfl (hL.1.trans hC.2.2.1.symm) rfl hd (Nat.le_trans hfr hC.2.2.2.2.2.2.2.2.2.1) ?_ (k.2 p l e R s m args below meth c H locs cells slots arr Q hC hR hS hL h1 h2 hr)
  have hlo2 := Nat.le_trans hlo hC.2.2.2.2.2.2.2.2.2.2
  have e8 : 2 * (F0 m pc arr (List.map (am_cv G) (.ref a :: st))).monitorRoom = 0 := rfl
  rw [e8, e9]; omega
theorem am_mmax {x y : Int32} (hl : Cond.methodLink M.1.cls idx Lib.Math.max.name ∈ am_W) (hi : Cond.static Lib.Math.max.name ∈ am_W) (hn : Cond.initialized "java/lang/Math" ∈ am_W) (hc : Cond.code Lib.Math.max.name Lib.Math.max.code 2 (some .int) ∈ am_W) (hfr : 1 ≤ M.2.2.2.2.1) (hlo : (st.map fun v => v.category).sum + 13 ≤ M.2.2.2.2.2) (hd : decode M.2.1 pc = .ok (.invokestatic idx, 3)) (hp : pc + 3 = pc') (k : am_S G M pc' ls (.int (if x < y then y else x) :: st) h r h') : am_S G M pc ls (.int y :: .int x :: st) h r h' := by
  subst hp
  refine ⟨k.1, fun p l e R s m args below meth c H locs cells slots arr Q hC hR hS hL h1 h2 hr => ?_⟩
  have hts := hC.2.2.2.2.2.2.1
  have e9 : ((st.map (am_cv G)).map fun v => v.category).sum = (st.map fun v => v.category).sum := by
    rw [List.map_map]
    have e : ((fun v : Value => v.category) ∘ am_cv G) = fun v => v.category := funext fun v => am_cat G v
    rw [e]
  exact va_mmax hC.1 hC.2.1 (hC.2.2.1.trans hL.1.symm) hC.2.2.2.2.1 (hts _ hl) (hts _ hi) (hts _ hn) (hts _ hc) (Nat.le_trans hfr hC.2.2.2.2.2.2.2.2.2.1) (by rw [e9]; exact Nat.le_trans hlo hC.2.2.2.2.2.2.2.2.2.2) (by omega) (by omega) hd (k.2 p l e R s m args below meth c H locs cells slots arr Q hC hR hS hL h1 h2 hr)
theorem am_mmin {x y : Int32} (hl : Cond.methodLink M.1.cls idx Lib.Math.min.name ∈ am_W) (hi : Cond.static Lib.Math.min.name ∈ am_W) (hn : Cond.initialized "java/lang/Math" ∈ am_W) (hc : Cond.code Lib.Math.min.name Lib.Math.min.code 2 (some .int) ∈ am_W) (hfr : 1 ≤ M.2.2.2.2.1) (hlo : (st.map fun v => v.category).sum + 13 ≤ M.2.2.2.2.2) (hd : decode M.2.1 pc = .ok (.invokestatic idx, 3)) (hp : pc + 3 = pc') (k : am_S G M pc' ls (.int (if y < x then y else x) :: st) h r h') : am_S G M pc ls (.int y :: .int x :: st) h r h' := by
  subst hp
  refine ⟨k.1, fun p l e R s m args below meth c H locs cells slots arr Q hC hR hS hL h1 h2 hr => ?_⟩
  have hts := hC.2.2.2.2.2.2.1
  have e9 : ((st.map (am_cv G)).map fun v => v.category).sum = (st.map fun v => v.category).sum := by
    rw [List.map_map]
    have e : ((fun v : Value => v.category) ∘ am_cv G) = fun v => v.category := funext fun v => am_cat G v
    rw [e]
  exact va_mmin hC.1 hC.2.1 (hC.2.2.1.trans hL.1.symm) hC.2.2.2.2.1 (hts _ hl) (hts _ hi) (hts _ hn) (hts _ hc) (Nat.le_trans hfr hC.2.2.2.2.2.2.2.2.2.1) (by rw [e9]; exact Nat.le_trans hlo hC.2.2.2.2.2.2.2.2.2.2) (by omega) (by omega) hd (k.2 p l e R s m args below meth c H locs cells slots arr Q hC hR hS hL h1 h2 hr)
theorem am_mabs {x : Int32} (hl : Cond.methodLink M.1.cls idx Lib.Math.abs.name ∈ am_W) (hi : Cond.static Lib.Math.abs.name ∈ am_W) (hn : Cond.initialized "java/lang/Math" ∈ am_W) (hc : Cond.code Lib.Math.abs.name Lib.Math.abs.code 1 (some .int) ∈ am_W) (hfr : 1 ≤ M.2.2.2.2.1) (hlo : (st.map fun v => v.category).sum + 13 ≤ M.2.2.2.2.2) (hd : decode M.2.1 pc = .ok (.invokestatic idx, 3)) (hp : pc + 3 = pc') (k : am_S G M pc' ls (.int (if 0 ≤ x then x else 0 - x) :: st) h r h') : am_S G M pc ls (.int x :: st) h r h' := by
  subst hp
  refine ⟨k.1, fun p l e R s m args below meth c H locs cells slots arr Q hC hR hS hL h1 h2 hr => ?_⟩
  have hts := hC.2.2.2.2.2.2.1
  have e9 : ((st.map (am_cv G)).map fun v => v.category).sum = (st.map fun v => v.category).sum := by
    rw [List.map_map]
    have e : ((fun v : Value => v.category) ∘ am_cv G) = fun v => v.category := funext fun v => am_cat G v
    rw [e]
  exact va_mabs hC.1 hC.2.1 (hC.2.2.1.trans hL.1.symm) hC.2.2.2.2.1 (hts _ hl) (hts _ hi) (hts _ hn) (hts _ hc) (Nat.le_trans hfr hC.2.2.2.2.2.2.2.2.2.1) (by rw [e9]; exact Nat.le_trans hlo hC.2.2.2.2.2.2.2.2.2.2) (by omega) (by omega) hd (k.2 p l e R s m args below meth c H locs cells slots arr Q hC hR hS hL h1 h2 hr)
end AM6
