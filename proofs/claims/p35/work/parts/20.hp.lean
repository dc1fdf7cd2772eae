/-! a flat picture of the heap: shapes, ints, references, longs by cell and place -/
abbrev pu_S : Type := Nat × Nat × Nat
def pu_fk : Nat → List Nat
  | 0 => [0, 1, 1, 1, 1, 0, 0, 0, 0, 1]
  | 1 => [1, 1, 0, 0]
  | 2 => [0, 0, 0, 0]
  | 3 => [1, 0, 0]
  | 4 => [1, 1, 1, 1, 1, 0, 1, 0, 0, 0, 0, 0]
  | 5 => [1, 1, 0, 0, 1, 0, 0, 0, 0, 0, 0, 1, 0, 0]
  | 6 => [1, 1, 1, 0]
  | 7 => [0, 0, 0, 1]
  | 8 => [1, 1, 1, 0, 0, 0, 1, 1, 1, 0, 0, 1, 1, 1, 1, 1, 1, 1, 1]
  | _ => []
def pu_fs (I : Nat → Int32) (P : Nat → Option Nat) (J : Nat → Int64) : Nat → List Nat → List Value
  | _, [] => []
  | k, 0 :: l => .int (I k) :: pu_fs I P J (k + 1) l
  | k, 1 :: l => va_rf (P k) :: pu_fs I P J (k + 1) l
  | k, _ :: l => .long (J k) :: pu_fs I P J (k + 1) l
def pu_cl (z : pu_S) (I : Nat → Int32) (P : Nat → Option Nat) (J : Nat → Int64) : am_C := match z with
  | (0, ci, _) => .inl (ci, pu_fs I P J 0 (pu_fk ci))
  | (1, t, m) => .inr (t, m, .inl I)
  | (_, t, m) => .inr (t, m, .inr P)
def pu_hp (s : Nat → Option pu_S) (I : Nat → Nat → Int32) (P : Nat → Nat → Option Nat) (J : Nat → Nat → Int64) (n : Nat × Nat) : am_H := (fun a => (s a).map fun z => pu_cl z (I a) (P a) (J a), n)
def pu_row {α : Type} (I : Nat → α) (a : Nat) (f : α) : Nat → α := fun b => if b = a then f else I b
theorem pu_row_s {α : Type} (I : Nat → α) (a : Nat) (f : α) : pu_row I a f a = f := if_pos rfl
theorem pu_row_n {α : Type} {I : Nat → α} {a b : Nat} {f : α} (h : ¬ b = a) : pu_row I a f b = I b := if_neg h
theorem pu_row_r {α : Type} (I : Nat → α) (a : Nat) (f g : α) : pu_row (pu_row I a f) a g = pu_row I a g := by
  funext b; unfold pu_row; by_cases h : b = a <;> simp [h]
theorem pu_row_c {α : Type} {I : Nat → α} {a b : Nat} {f g : α} (h : ¬ a = b) : pu_row (pu_row I a f) b g = pu_row (pu_row I b g) a f := by
  funext c
  unfold pu_row
  by_cases h1 : c = a
  · subst h1
    rw [if_neg h, if_pos rfl, if_pos rfl]
  · rw [if_neg h1, if_neg h1]
theorem pu_row_i {α : Type} (I : Nat → α) (a : Nat) : pu_row I a (I a) = I := by
  funext b; unfold pu_row; by_cases h : b = a <;> simp [h]
theorem pu_up_s (f : Nat → Int32) (k : Nat) (x : Int32) : upd f k x k = x := if_pos rfl
theorem pu_up_n {f : Nat → Int32} {k j : Nat} {x : Int32} (h : ¬ j = k) : upd f k x j = f j := if_neg h
theorem pu_fs_get (I : Nat → Int32) (P : Nat → Option Nat) (J : Nat → Int64) : ∀ (l : List Nat) (i k : Nat), (pu_fs I P J i l)[k]? = (l[k]?).map fun kd => match kd with
    | 0 => .int (I (i + k))
    | 1 => va_rf (P (i + k))
    | _ => .long (J (i + k))
  | [], i, k => by simp [pu_fs]
  | kd :: l, i, 0 => by
    match kd with
    | 0 => rfl
    | 1 => rfl
    | n + 2 => rfl
  | kd :: l, i, k + 1 => by
    have ih := pu_fs_get I P J l (i + 1) k
    rw [show i + 1 + k = i + (k + 1) by omega] at ih
    match kd with
    | 0 => simpa [pu_fs] using ih
    | 1 => simpa [pu_fs] using ih
    | n + 2 => simpa [pu_fs] using ih
theorem pu_fs_len (I : Nat → Int32) (P : Nat → Option Nat) (J : Nat → Int64) : ∀ (l : List Nat) (i : Nat), (pu_fs I P J i l).length = l.length
  | [], i => rfl
  | kd :: l, i => by
    have ih := pu_fs_len I P J l (i + 1)
    match kd with
    | 0 => simpa [pu_fs] using ih
    | 1 => simpa [pu_fs] using ih
    | n + 2 => simpa [pu_fs] using ih
section PU
variable {s : Nat → Option pu_S} {I : Nat → Nat → Int32} {P : Nat → Nat → Option Nat} {J : Nat → Nat → Int64} {n : Nat × Nat} {a ci k t m : Nat}
theorem pu_ob (hs : s a = some (0, ci, 0)) : am_ob (pu_hp s I P J n) (some a) ci = some (a, pu_fs (I a) (P a) (J a) 0 (pu_fk ci)) := by
  simp only [am_ob, pu_hp, hs, Option.map_some, pu_cl, if_pos]
theorem pu_ar (hs : s a = some (1, t, m)) : am_ar (pu_hp s I P J n) (some a) t = some (a, m, I a) := by
  simp only [am_ar, pu_hp, hs, Option.map_some, pu_cl, if_pos]
theorem pu_aq (hs : s a = some (2, t, m)) : am_aq (pu_hp s I P J n) (some a) t = some (a, m, P a) := by
  simp only [am_aq, pu_hp, hs, Option.map_some, pu_cl, if_pos]
theorem pu_rc (hs : s a = some (0, ci, 0)) : am_rc (pu_hp s I P J n) (some a) ci = some a := by
  unfold am_rc; rw [pu_ob hs]; rfl
theorem pu_gi (hs : s a = some (0, ci, 0)) (hk : (pu_fk ci)[k]? = some 0) : am_gi (pu_hp s I P J n) (some a) ci k = some (I a k) := by
  unfold am_gi; rw [pu_ob hs]; simp only [Option.bind_some, pu_fs_get, hk, Option.map_some, Nat.zero_add, am_vi]
theorem pu_gr (hs : s a = some (0, ci, 0)) (hk : (pu_fk ci)[k]? = some 1) : am_gr (pu_hp s I P J n) (some a) ci k = some (P a k) := by
  unfold am_gr; rw [pu_ob hs]; simp only [Option.bind_some, pu_fs_get, hk, Option.map_some, Nat.zero_add]
  cases P a k <;> rfl
theorem pu_gl (hs : s a = some (0, ci, 0)) (hk : (pu_fk ci)[k]? = some 2) : am_gl (pu_hp s I P J n) (some a) ci k = some (J a k) := by
  unfold am_gl; rw [pu_ob hs]; simp only [Option.bind_some, pu_fs_get, hk, Option.map_some, Nat.zero_add, am_vl]
theorem pu_set_eq {c : am_C} {I' : Nat → Nat → Int32} {P' : Nat → Nat → Option Nat} {J' : Nat → Nat → Int64} {z : pu_S} (hs : s a = some z) (h1 : c = pu_cl z (I' a) (P' a) (J' a)) (h2 : ∀ b, ¬ b = a → I' b = I b ∧ P' b = P b ∧ J' b = J b) : am_set (pu_hp s I P J n) a c = pu_hp s I' P' J' n := by
  unfold am_set pu_hp
  refine Prod.ext (funext fun b => ?_) rfl
  show (if b = a then some c else _) = _
  dsimp only
  by_cases hb : b = a
  · subst hb; rw [if_pos rfl, hs, h1]; rfl
  · rw [if_neg hb]
    obtain ⟨e1, e2, e3⟩ := h2 b hb
    rw [e1, e2, e3]
theorem pu_fs_set {I' : Nat → Int32} {P' : Nat → Option Nat} {J' : Nat → Int64} {v : Value} {I0 : Nat → Int32} {P0 : Nat → Option Nat} {J0 : Nat → Int64} {l : List Nat} (hk : k < l.length) (h : ∀ j kd, l[j]? = some kd → (if j = k then v else (match kd with | 0 => .int (I0 j) | 1 => va_rf (P0 j) | _ => .long (J0 j))) = (match kd with | 0 => .int (I' j) | 1 => va_rf (P' j) | _ => .long (J' j))) : (pu_fs I0 P0 J0 0 l).set k v = pu_fs I' P' J' 0 l := by
  apply List.ext_getElem?
  intro j
  rw [pu_fs_get, List.getElem?_set]
  simp only [pu_fs_len, Nat.zero_add]
  by_cases hj : k = j
  · subst hj
    rw [if_pos rfl, if_pos hk]
    have hl : l[k]? = some l[k] := List.getElem?_eq_getElem hk
    rw [hl]
    have := h k _ hl
    rw [if_pos rfl] at this
    rw [this]; rfl
  · rw [if_neg hj, pu_fs_get]
    simp only [Nat.zero_add]
    cases hl : l[j]? with
    | none => rfl
    | some kd =>
      have := h j kd hl
      rw [if_neg (Ne.symm hj)] at this
      simp only [Option.map_some, this]
theorem pu_pi {x : Int32} (hs : s a = some (0, ci, 0)) (hk : (pu_fk ci)[k]? = some 0) : am_pi (pu_hp s I P J n) (some a) ci k x = some (pu_hp s (pu_row I a (upd (I a) k x)) P J n) := by
  have hl : k < (pu_fk ci).length := (List.getElem?_eq_some_iff.mp hk).1
  unfold am_pi am_pf
  rw [pu_ob hs]
  simp only [Option.bind_some, pu_fs_len, if_pos hl]
  congr 1
  refine pu_set_eq hs ?_ (fun b hb => ⟨pu_row_n hb, rfl, rfl⟩)
  simp only [pu_cl, pu_row_s]
  congr 2
  refine pu_fs_set hl fun j kd hj => ?_
  by_cases hjk : j = k
  · subst hjk
    rw [hk] at hj; cases hj
    simp [upd]
  · simp only [if_neg hjk, upd]
theorem pu_pz {x : Int32} (hx : x = 0 ∨ x = 1) (hs : s a = some (0, ci, 0)) (hk : (pu_fk ci)[k]? = some 0) : am_pz (pu_hp s I P J n) (some a) ci k x = some (pu_hp s (pu_row I a (upd (I a) k x)) P J n) := by
  unfold am_pz; rw [if_pos hx]; exact pu_pi hs hk
theorem pu_pr {x : Option Nat} (hs : s a = some (0, ci, 0)) (hk : (pu_fk ci)[k]? = some 1) : am_pr (pu_hp s I P J n) (some a) ci k x = some (pu_hp s I (pu_row P a (va_up (P a) k x)) J n) := by
  have hl : k < (pu_fk ci).length := (List.getElem?_eq_some_iff.mp hk).1
  unfold am_pr am_pf
  rw [pu_ob hs]
  simp only [Option.bind_some, pu_fs_len, if_pos hl]
  congr 1
  refine pu_set_eq hs ?_ (fun b hb => ⟨rfl, pu_row_n hb, rfl⟩)
  simp only [pu_cl, pu_row_s]
  congr 2
  refine pu_fs_set hl fun j kd hj => ?_
  by_cases hjk : j = k
  · subst hjk
    rw [hk] at hj; cases hj
    simp [va_up]
  · simp only [if_neg hjk, va_up]
theorem pu_pl {x : Int64} (hs : s a = some (0, ci, 0)) (hk : (pu_fk ci)[k]? = some 2) : am_pl (pu_hp s I P J n) (some a) ci k x = some (pu_hp s I P (pu_row J a (vp_updL (J a) k x)) n) := by
  have hl : k < (pu_fk ci).length := (List.getElem?_eq_some_iff.mp hk).1
  unfold am_pl am_pf
  rw [pu_ob hs]
  simp only [Option.bind_some, pu_fs_len, if_pos hl]
  congr 1
  refine pu_set_eq hs ?_ (fun b hb => ⟨rfl, rfl, pu_row_n hb⟩)
  simp only [pu_cl, pu_row_s]
  congr 2
  refine pu_fs_set hl fun j kd hj => ?_
  by_cases hjk : j = k
  · subst hjk
    rw [hk] at hj; cases hj
    simp [vp_updL]
  · simp only [if_neg hjk, vp_updL]
theorem pu_al {i : Int32} (hs : s a = some (1, t, m)) (hi : ¬ (i < 0 ∨ m ≤ i.toNatClampNeg)) : am_al (pu_hp s I P J n) (some a) t i = some (I a i.toNatClampNeg) := by
  unfold am_al; rw [pu_ar hs]; simp only [Option.bind_some, if_neg hi]
theorem pu_as {i x : Int32} (hs : s a = some (1, t, m)) (hi : ¬ (i < 0 ∨ m ≤ i.toNatClampNeg)) : am_as (pu_hp s I P J n) (some a) t i x = some (pu_hp s (pu_row I a (upd (I a) i.toNatClampNeg x)) P J n) := by
  unfold am_as; rw [pu_ar hs]; simp only [Option.bind_some, if_neg hi]
  congr 1
  refine pu_set_eq hs ?_ (fun b hb => ⟨pu_row_n hb, rfl, rfl⟩)
  simp only [pu_cl, pu_row_s]
theorem pu_alr {i : Int32} (hs : s a = some (2, t, m)) (hi : ¬ (i < 0 ∨ m ≤ i.toNatClampNeg)) : am_alr (pu_hp s I P J n) (some a) t i = some (P a i.toNatClampNeg) := by
  unfold am_alr; rw [pu_aq hs]; simp only [Option.bind_some, if_neg hi]
theorem pu_asr {i : Int32} {x : Nat} (hs : s a = some (2, t, m)) (hx : s x = some (0, am_tc t, 0)) (hi : ¬ (i < 0 ∨ m ≤ i.toNatClampNeg)) : am_asr (pu_hp s I P J n) (some a) t i (some x) = some (pu_hp s I (pu_row P a (va_up (P a) i.toNatClampNeg (some x))) J n) := by
  unfold am_asr; rw [pu_aq hs]; simp only [Option.bind_some]; rw [pu_ob hx]; simp only [Option.bind_some, if_neg hi]
  congr 1
  refine pu_set_eq hs ?_ (fun b hb => ⟨rfl, pu_row_n hb, rfl⟩)
  simp only [pu_cl, pu_row_s]
theorem pu_an (hs : s a = some (1, t, m)) (ht : t < 7) : am_an (pu_hp s I P J n) (some a) = some (nI m) := by
  simp only [am_an, pu_hp, hs, Option.map_some, pu_cl, if_pos ht]; rfl
theorem pu_anr (hs : s a = some (2, t, m)) (ht : t < 7) : am_an (pu_hp s I P J n) (some a) = some (nI m) := by
  simp only [am_an, pu_hp, hs, Option.map_some, pu_cl, if_pos ht]; rfl
/-! new cells -/
theorem pu_new_eq {c : am_C} {z : pu_S} {I' : Nat → Nat → Int32} {P' : Nat → Nat → Option Nat} {J' : Nat → Nat → Int64} {w : Nat} (h1 : c = pu_cl z (I' (n.1 + 1)) (P' (n.1 + 1)) (J' (n.1 + 1))) (h2 : ∀ b, ¬ b = n.1 + 1 → I' b = I b ∧ P' b = P b ∧ J' b = J b) : am_new (pu_hp s I P J n) c w = pu_hp (pu_row s (n.1 + 1) (some z)) I' P' J' (n.1 + 1, n.2 + w) := by
  unfold am_new pu_hp
  refine Prod.ext (funext fun b => ?_) rfl
  show (if b = n.1 + 1 then some c else _) = _
  dsimp only
  by_cases hb : b = n.1 + 1
  · subst hb; rw [if_pos rfl, pu_row_s, h1]; rfl
  · rw [if_neg hb]
    obtain ⟨e1, e2, e3⟩ := h2 b hb
    rw [e1, e2, e3, pu_row_n hb]
theorem pu_na {x : Int32} (hx : ¬ (x < 0 ∨ 100000 < x.toNatClampNeg)) : am_na (pu_hp s I P J n) t x = some (some (n.1 + 1), pu_hp (pu_row s (n.1 + 1) (some (1, t, x.toNatClampNeg))) (pu_row I (n.1 + 1) (fun _ => 0)) P J (n.1 + 1, n.2 + x.toNatClampNeg)) := by
  unfold am_na
  rw [if_neg hx]
  rw [pu_new_eq (z := (1, t, x.toNatClampNeg)) (I' := pu_row I (n.1 + 1) (fun _ => 0)) (P' := P) (J' := J)]
  · rfl
  · simp only [pu_cl, pu_row_s]
  · exact fun b hb => ⟨pu_row_n hb, rfl, rfl⟩
theorem pu_nq {x : Int32} (hx : ¬ (x < 0 ∨ 100000 < x.toNatClampNeg)) : am_nq (pu_hp s I P J n) t x = some (some (n.1 + 1), pu_hp (pu_row s (n.1 + 1) (some (2, t, x.toNatClampNeg))) I (pu_row P (n.1 + 1) (fun _ => none)) J (n.1 + 1, n.2 + x.toNatClampNeg)) := by
  unfold am_nq
  rw [if_neg hx]
  rw [pu_new_eq (z := (2, t, x.toNatClampNeg)) (I' := I) (P' := pu_row P (n.1 + 1) (fun _ => none)) (J' := J)]
  · rfl
  · simp only [pu_cl, pu_row_s]
  · exact fun b hb => ⟨rfl, pu_row_n hb, rfl⟩
theorem pu_nw {fs : List Value} (hfs : fs = pu_fs (fun _ => 0) (fun _ => none) (fun _ => 0) 0 (pu_fk ci)) : am_nwo (pu_hp s I P J n) ci fs = some (n.1 + 1, pu_hp (pu_row s (n.1 + 1) (some (0, ci, 0))) (pu_row I (n.1 + 1) (fun _ => 0)) (pu_row P (n.1 + 1) (fun _ => none)) (pu_row J (n.1 + 1) (fun _ => 0)) (n.1 + 1, n.2 + fs.length)) := by
  unfold am_nwo am_nw
  dsimp only
  rw [pu_new_eq (z := (0, ci, 0)) (I' := pu_row I (n.1 + 1) (fun _ => 0)) (P' := pu_row P (n.1 + 1) (fun _ => none)) (J' := pu_row J (n.1 + 1) (fun _ => 0))]
  · rfl
  · simp only [pu_cl, pu_row_s, hfs]
  · exact fun b hb => ⟨pu_row_n hb, pu_row_n hb, pu_row_n hb⟩
end PU
theorem am_zr0 (h : am_H) : am_zr 0 h = some (0, h) := rfl
theorem am_zr1 (h : am_H) : am_zr 1 h = some (1, h) := rfl
