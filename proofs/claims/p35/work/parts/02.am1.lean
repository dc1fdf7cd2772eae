/-! the abstract machine, 1: cells by number, their picture in the heap, the judgement of a frame -/
abbrev am_C : Type := (Nat × List Value) ⊕ (Nat × Nat × ((Nat → Int32) ⊕ (Nat → Option Nat)))
abbrev am_H : Type := (Nat → Option am_C) × Nat × Nat
abbrev am_G : Type := va_G × (Nat → ClassId) × Nat × Nat × Nat × (Nat → Int32)
abbrev am_M : Type := MethodName × ByteArray × Nat × Option FieldType × Nat × Nat
def am_ad (G : am_G) : Nat → Nat
  | 0 => G.2.2.1
  | k + 1 => G.2.2.2.1 + k
def am_cv (G : am_G) : Value → Value
  | .ref i => .ref (am_ad G i)
  | v => v
def am_cc (G : am_G) : am_C → va_E
  | .inl o => .inr (o.1, o.2.map (am_cv G))
  | .inr (t, n, .inl f) => .inl (G.2.1 t, n, .inl f)
  | .inr (t, n, .inr g) => .inl (G.2.1 t, n, .inr (.inr (.inr (.inr (fun j => (g j).map (am_ad G))))))
def am_R (G : am_G) (h : am_H) (H : Heap) : Prop := H.size = G.2.2.2.1 + h.2.1 ∧ ∀ a c, h.1 a = some c → (1 ≤ a ∧ a ≤ h.2.1) ∧ va_at G.1 vwCl (am_ad G a, am_cc G c) H
def am_A (G : am_G) : Nat → Prop := fun q => G.2.2.2.1 ≤ q
def am_ty : Nat → FieldType
  | 0 => .int
  | 1 => .int
  | 2 => .char
  | 3 => .boolean
  | 4 => .object RX0
  | 5 => .object RX2
  | _ => .object RX7
def am_tys (G : am_G) : List (ClassId × FieldType) := (List.range 7).map (fun t => (G.2.1 t, am_ty t))
def am_nst : List (String × Nat × MethodName × String) := [("DroppingBalls", 29, ⟨"DroppingBalls$Page", "<init>", "()V"⟩, "DroppingBalls"), ("DroppingBalls", 44, ⟨"DroppingBalls$Clock", "<init>", "()V"⟩, "DroppingBalls"), ("DroppingBalls", 49, ⟨"DroppingBalls$Fault", "<init>", "()V"⟩, "DroppingBalls"), ("DroppingBalls", 71, ⟨"DroppingBalls$Play", "<init>", "()V"⟩, "DroppingBalls"), ("DroppingBalls", 78, ⟨"DroppingBalls$Evidence", "<init>", "()V"⟩, "DroppingBalls"), ("DroppingBalls$Run", 98, ⟨"DroppingBalls", "quotient", "(II)I"⟩, "DroppingBalls"), ("DroppingBalls$Clock", 50, ⟨"DroppingBalls", "quotient", "(II)I"⟩, "DroppingBalls"), ("DroppingBalls$Play", 90, ⟨"DroppingBalls", "isIn", "(III)Z"⟩, "DroppingBalls"), ("DroppingBalls$Page", 83, ⟨"DroppingBalls", "isIn", "(III)Z"⟩, "DroppingBalls")]
def am_W : List Cond := lw_tbl.filter goodWord
def am_K (G : am_G) (U : State) : Prop := va_K G.1 vwCl (am_tys G) U ∧ va_X G.2.2.1 G.2.2.2.2.1 G.2.2.2.2.2 U U.heap ∧ G.2.2.1 < G.2.2.2.1 ∧ G.2.2.2.1 ≤ U.heap.size ∧ (∀ q ∈ am_nst, va_Nw (.methodLinkNest q.1 q.2.1 q.2.2.1 q.2.2.2) U) ∧ (va_AO RX0 U ∧ va_AO RX2 U ∧ va_AO RX7 U)
def am_ri : Option FieldType → Instr
  | none => .return_
  | some .long => .lreturn
  | some (.object _) => .areturn
  | some (.array _) => .areturn
  | some _ => .ireturn
def am_Cx (G : am_G) (M : am_M) (p : Program) (R : Room) (s : State) (m : MethodId) (args : Array Value) (meth : Method) (c : Code) : Prop :=
  p.tables.exec = Jvm.exec ∧ c.code = M.2.1 ∧ c.maxLocals = M.2.2.1 ∧ meth.sig.returnType = M.2.2.2.1 ∧ s.vm.findClass M.1.cls = some m.cls ∧ (M.1.name = "<init>" → meth.name = "<init>") ∧ (∀ w ∈ am_W, w.before args s = true) ∧ meth.locks = false ∧ am_K G s ∧ M.2.2.2.2.1 ≤ R.frames ∧ M.2.2.2.2.2 ≤ R.locals
def am_L (G : am_G) (arr : Array Slot) (n : Nat) (ls : List (Option Value)) : Prop := arr.size = n ∧ lv_wf arr ∧ ls.length = n ∧ ∀ (i : Nat) (v : Value), ls[i]? = some (some v) → arr[i]? = some (.val (am_cv G v))
def am_rt : Option FieldType → Option Value → Prop
  | none, none => True
  | some .int, some (.int _) => True
  | some .boolean, some (.int x) => x = 0 ∨ x = 1
  | some .long, some (.long _) => True
  | some (.object _), some v => ∃ q, v = va_rf q
  | _, _ => False
def am_S (G : am_G) (M : am_M) (pc : Nat) (ls : List (Option Value)) (st : List Value) (h : am_H) (r : Option Value) (h' : am_H) : Prop :=
  ((h.2.1 ≤ h'.2.1 ∧ h.2.2 ≤ h'.2.2) ∧ am_rt M.2.2.2.1 r) ∧ ∀ (p : Program) (l : Launch) (e : Env) (R : Room) (s : State) (m : MethodId) (args : Array Value) (below : List Frame) (meth : Method) (c : Code) (H : Heap) (locs : List Loc) (cells slots : Nat) (arr : Array Slot) (Q : State → Prop),
    am_Cx G M p R s m args meth c → am_R G h H → va_S (am_A G) s.heap H locs → am_L G arr M.2.2.1 ls →
    cells + (h'.2.1 - h.2.1) ≤ R.cells → slots + (h'.2.2 - h.2.2) ≤ R.slots →
    (∀ (H' : Heap) (locs' : List Loc) (pc' : Nat) (arr' : Array Slot), am_R G h' H' → va_S (am_A G) s.heap H' locs' → decode M.2.1 pc' = .ok (am_ri M.2.2.2.1, 1) → W p l e R s m args below meth c H' locs' (cells + (h'.2.1 - h.2.1)) (slots + (h'.2.2 - h.2.2)) Q (F0 m pc' arr' ((r.map (am_cv G)).toList))) →
    W p l e R s m args below meth c H locs cells slots Q (F0 m pc arr (st.map (am_cv G)))
theorem am_cat (G : am_G) (v : Value) : (am_cv G v).category = v.category := by cases v <;> rfl
theorem am_rf (G : am_G) (q : Option Nat) : am_cv G (va_rf q) = va_rf (q.map (am_ad G)) := by cases q <;> rfl
theorem am_inW {w : Cond} (i : Nat) (h : lw_tbl[i]? = some w) (g : goodWord w = true) : w ∈ am_W := List.mem_filter.mpr ⟨List.mem_of_getElem? h, g⟩
theorem am_Wgood {ws : List Cond} (h : ∀ w ∈ ws, w ∈ am_W) : GoodIn am_W ws := fun w hw => ⟨h w hw, good_of_word (List.mem_filter.mp (h w hw)).2⟩
/-! locals -/
def am_lp (G : am_G) (ls : List (Option Value)) : List (Nat × Value) := (List.range ls.length).filterMap (fun i => (ls[i]?.join).map (fun v => (i, am_cv G v)))
theorem am_lp_mem {G : am_G} {ls : List (Option Value)} {i : Nat} {w : Value} : (i, w) ∈ am_lp G ls ↔ ∃ v, ls[i]? = some (some v) ∧ w = am_cv G v := by
  unfold am_lp
  rw [List.mem_filterMap]
  constructor
  · rintro ⟨j, -, hj⟩
    cases hx : ls[j]? with
    | none => rw [hx] at hj; cases hj
    | some o =>
      cases o with
      | none => rw [hx] at hj; cases hj
      | some v => rw [hx] at hj; cases hj; exact ⟨v, hx, rfl⟩
  · rintro ⟨v, hv, rfl⟩
    refine ⟨i, List.mem_range.mpr (List.getElem?_eq_some_iff.mp hv).1, ?_⟩
    rw [hv]; rfl
theorem am_L.has {G : am_G} {arr : Array Slot} {n : Nat} {ls : List (Option Value)} (h : am_L G arr n ls) : lv_has arr n (am_lp G ls) := by
  refine ⟨h.1, h.2.1, fun q hq => ?_⟩
  obtain ⟨v, h1, h2⟩ := am_lp_mem.mp (show (q.1, q.2) ∈ am_lp G ls from hq)
  rw [h2]; exact h.2.2.2 _ _ h1
def am_un (ls : List (Option Value)) (i : Nat) : List (Option Value) := match i with
  | 0 => ls
  | j + 1 => match ls[j]? with
    | some (some (.long _)) => ls.set j none
    | some (some (.double _)) => ls.set j none
    | _ => ls
def am_s1 (ls : List (Option Value)) (i : Nat) (v : Value) : List (Option Value) := (am_un ls i).set i (some v)
def am_s2 (ls : List (Option Value)) (i : Nat) (v : Value) : List (Option Value) := ((am_un ls i).set (i + 1) none).set i (some v)
theorem am_un_len (ls : List (Option Value)) (i : Nat) : (am_un ls i).length = ls.length := by
  unfold am_un
  cases i with
  | zero => rfl
  | succ j => dsimp only; split <;> simp
theorem am_un_get {ls : List (Option Value)} {i j : Nat} {v : Value} (h : (am_un ls i)[j]? = some (some v)) : ls[j]? = some (some v) ∧ ¬ (j + 1 = i ∧ v.category = 2) := by
  unfold am_un at h
  cases i with
  | zero => exact ⟨h, fun q => by omega⟩
  | succ i =>
    dsimp only at h
    by_cases hj : j = i
    · subst hj
      split at h
      · rename_i x hx
        have hl := (List.getElem?_eq_some_iff.mp hx).1
        rw [List.getElem?_set_self hl] at h; cases h
      · rename_i x hx
        have hl := (List.getElem?_eq_some_iff.mp hx).1
        rw [List.getElem?_set_self hl] at h; cases h
      · rename_i n1 n2
        refine ⟨h, fun q => ?_⟩
        cases v with
        | long x => exact n1 x h
        | double x => exact n2 x h
        | _ => exact absurd q.2 (by simp [Value.category])
    · have h2 : ls[j]? = some (some v) := by
        split at h
        · rw [List.getElem?_set_ne (Ne.symm hj)] at h; exact h
        · rw [List.getElem?_set_ne (Ne.symm hj)] at h; exact h
        · exact h
      exact ⟨h2, fun q => by omega⟩
theorem am_L.s1 {G : am_G} {arr arr' : Array Slot} {n : Nat} {ls : List (Option Value)} {i : Nat} {v : Value} (h : am_L G arr n ls)
    (h' : lv_has arr' n ((i, am_cv G v) :: (am_lp G ls).filter (fun q => !(q.1 == i) && !(q.1 + 1 == i && q.2.category == 2)))) : am_L G arr' n (am_s1 ls i v) := by
  refine ⟨h'.1, h'.2.1, by unfold am_s1; rw [List.length_set, am_un_len]; exact h.2.2.1, fun j w hj => ?_⟩
  unfold am_s1 at hj
  by_cases hji : j = i
  · subst hji
    have hl : j < (am_un ls j).length := by
      have := (List.getElem?_eq_some_iff.mp hj).1
      rwa [List.length_set] at this
    rw [List.getElem?_set_self hl] at hj
    cases hj
    exact h'.2.2 (j, am_cv G v) List.mem_cons_self
  · rw [List.getElem?_set_ne (Ne.symm hji)] at hj
    obtain ⟨h1, h2⟩ := am_un_get hj
    refine h'.2.2 (j, am_cv G w) (List.mem_cons_of_mem _ (List.mem_filter.mpr ⟨am_lp_mem.mpr ⟨w, h1, rfl⟩, ?_⟩))
    rw [am_cat]
    simp [hji]
    exact (Classical.em (j + 1 = i)).elim (fun e => Or.inr fun q => h2 ⟨e, q⟩) Or.inl
theorem am_L.s2 {G : am_G} {arr arr' : Array Slot} {n : Nat} {ls : List (Option Value)} {i : Nat} {v : Value} (h : am_L G arr n ls)
    (h' : lv_has arr' n ((i, am_cv G v) :: (am_lp G ls).filter (fun q => !(q.1 == i) && (!(q.1 == i + 1) && !(q.1 + 1 == i && q.2.category == 2))))) : am_L G arr' n (am_s2 ls i v) := by
  refine ⟨h'.1, h'.2.1, by unfold am_s2; rw [List.length_set, List.length_set, am_un_len]; exact h.2.2.1, fun j w hj => ?_⟩
  unfold am_s2 at hj
  by_cases hji : j = i
  · subst hji
    have hl : j < ((am_un ls j).set (j + 1) none).length := by
      have := (List.getElem?_eq_some_iff.mp hj).1
      rwa [List.length_set] at this
    rw [List.getElem?_set_self hl] at hj
    cases hj
    exact h'.2.2 (j, am_cv G v) List.mem_cons_self
  · rw [List.getElem?_set_ne (Ne.symm hji)] at hj
    by_cases hj1 : j = i + 1
    · subst hj1
      have hl : i + 1 < (am_un ls i).length := by
        have := (List.getElem?_eq_some_iff.mp hj).1
        rwa [List.length_set] at this
      rw [List.getElem?_set_self hl] at hj
      cases hj
    · rw [List.getElem?_set_ne (Ne.symm hj1)] at hj
      obtain ⟨h1, h2⟩ := am_un_get hj
      refine h'.2.2 (j, am_cv G w) (List.mem_cons_of_mem _ (List.mem_filter.mpr ⟨am_lp_mem.mpr ⟨w, h1, rfl⟩, ?_⟩))
      rw [am_cat]
      simp [hji, hj1]
      exact (Classical.em (j + 1 = i)).elim (fun e => Or.inr fun q => h2 ⟨e, q⟩) Or.inl
/-! the entry -/
def am_e1 : List Value → List (Option Value)
  | [] => []
  | v :: l => if v.category = 2 then some v :: none :: am_e1 l else some v :: am_e1 l
def am_en (n : Nat) (vs : List Value) : List (Option Value) := am_e1 vs ++ List.replicate (n - (am_e1 vs).length) none
theorem am_e1_sl (G : am_G) : ∀ (vs : List Value), (am_e1 vs).length = (lg_sl (vs.map (am_cv G))).length ∧ ∀ (i : Nat) (v : Value), (am_e1 vs)[i]? = some (some v) → (lg_sl (vs.map (am_cv G)))[i]? = some (.val (am_cv G v))
  | [] => ⟨rfl, fun i v h => by simp [am_e1] at h⟩
  | v :: l => by
    obtain ⟨ih1, ih2⟩ := am_e1_sl G l
    have e1 : lg_sl ((v :: l).map (am_cv G)) = (if v.category = 2 then [.val (am_cv G v), .second] else [.val (am_cv G v)]) ++ lg_sl (l.map (am_cv G)) := by
      simp only [lg_sl, List.map_cons, List.flatMap_cons, am_cat]
    have e2 : am_e1 (v :: l) = (if v.category = 2 then [some v, none] else [some v]) ++ am_e1 l := by
      unfold am_e1
      by_cases hc : v.category = 2
      · rw [if_pos hc, if_pos hc]; cases l <;> rfl
      · rw [if_neg hc, if_neg hc]; cases l <;> rfl
    rw [e1, e2]
    by_cases hc : v.category = 2
    · rw [if_pos hc, if_pos hc]
      refine ⟨by simp [ih1], fun i x h => ?_⟩
      match i, h with
      | 0, h => cases h; rfl
      | 1, h => cases h
      | i + 2, h => exact ih2 i x h
    · rw [if_neg hc, if_neg hc]
      refine ⟨by simp [ih1], fun i x h => ?_⟩
      match i, h with
      | 0, h => cases h; rfl
      | i + 1, h => exact ih2 i x h
theorem am_entry {G : am_G} {n : Nat} {vs : List Value} (h : (am_e1 vs).length ≤ n) : am_L G ((lg_sl (vs.map (am_cv G)) ++ List.replicate (n - (lg_sl (vs.map (am_cv G))).length) Slot.unset).toArray) n (am_en n vs) := by
  obtain ⟨h1, h2⟩ := am_e1_sl G vs
  have hl := lv_entry (vs.map (am_cv G)) (n := n) (by rw [← h1]; exact h)
  refine ⟨hl.1, hl.2.1, by unfold am_en; rw [List.length_append, List.length_replicate]; omega, fun i v hi => ?_⟩
  unfold am_en at hi
  by_cases hlt : i < (am_e1 vs).length
  · rw [List.getElem?_append_left hlt] at hi
    have h3 := h2 i v hi
    rw [List.getElem?_toArray, List.getElem?_append_left (by rw [← h1]; exact hlt)]
    exact h3
  · rw [List.getElem?_append_right (by omega)] at hi
    have := List.mem_of_getElem? hi
    rw [List.mem_replicate] at this
    cases this.2
