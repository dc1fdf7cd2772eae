/-! runs to an end with Q; reads and writes by cell and place; numbers -/
def Rn {α : Type} (o : Option α) (Q : α → Prop) : Prop := ∃ y, o = some y ∧ Q y
theorem Rn_some {α : Type} {y : α} {Q : α → Prop} (h : Q y) : Rn (some y) Q := ⟨y, rfl, h⟩
theorem Rn_bind {α β : Type} {o : Option α} {F : α → Option β} {Q : β → Prop} {Q' : α → Prop} (h : Rn o Q') (k : ∀ y, Q' y → Rn (F y) Q) : Rn (o.bind F) Q := by
  obtain ⟨y, rfl, hy⟩ := h; exact k y hy
theorem Rn_mono {α : Type} {o : Option α} {Q Q' : α → Prop} (h : Rn o Q') (k : ∀ y, Q' y → Q y) : Rn o Q := by
  obtain ⟨y, e, hy⟩ := h; exact ⟨y, e, k y hy⟩
theorem Rn_eq {α : Type} {o o' : Option α} {Q : α → Prop} (e : o = o') (h : Rn o' Q) : Rn o Q := e ▸ h
def pu_u (I : Nat → Nat → Int32) (a k : Nat) (x : Int32) : Nat → Nat → Int32 := fun b j => if b = a ∧ j = k then x else I b j
def pu_v (P : Nat → Nat → Option Nat) (a k : Nat) (x : Option Nat) : Nat → Nat → Option Nat := fun b j => if b = a ∧ j = k then x else P b j
theorem u_s {I : Nat → Nat → Int32} {a k : Nat} {x : Int32} : pu_u I a k x a k = x := if_pos ⟨rfl, rfl⟩
theorem u_n {I : Nat → Nat → Int32} {a k b j : Nat} {x : Int32} (h : ¬ (b = a ∧ j = k)) : pu_u I a k x b j = I b j := if_neg h
theorem v_s {P : Nat → Nat → Option Nat} {a k : Nat} {x : Option Nat} : pu_v P a k x a k = x := if_pos ⟨rfl, rfl⟩
theorem v_n {P : Nat → Nat → Option Nat} {a k b j : Nat} {x : Option Nat} (h : ¬ (b = a ∧ j = k)) : pu_v P a k x b j = P b j := if_neg h
theorem u_e {I : Nat → Nat → Int32} {a k : Nat} {x : Int32} : pu_row I a (upd (I a) k x) = pu_u I a k x := by
  funext b j
  unfold pu_row pu_u upd
  by_cases h1 : b = a
  · subst h1; by_cases h2 : j = k <;> simp [h2]
  · simp [h1]
theorem v_e {P : Nat → Nat → Option Nat} {a k : Nat} {x : Option Nat} : pu_row P a (va_up (P a) k x) = pu_v P a k x := by
  funext b j
  unfold pu_row pu_v va_up
  by_cases h1 : b = a
  · subst h1; by_cases h2 : j = k <;> simp [h2]
  · simp [h1]
def pu_ok (s : Nat → Option pu_S) (a t k : Nat) : Prop := ∃ m, s a = some (1, t, m) ∧ k < m ∧ m < 1000000
def pu_oq (s : Nat → Option pu_S) (a t k : Nat) : Prop := ∃ m, s a = some (2, t, m) ∧ k < m ∧ m < 1000000
theorem pu_okI {s : Nat → Option pu_S} {a t k m : Nat} (h1 : s a = some (1, t, m)) (h2 : k < m) (h3 : m < 1000000) : pu_ok s a t k := ⟨m, h1, h2, h3⟩
theorem pu_oqI {s : Nat → Option pu_S} {a t k m : Nat} (h1 : s a = some (2, t, m)) (h2 : k < m) (h3 : m < 1000000) : pu_oq s a t k := ⟨m, h1, h2, h3⟩
section BA
variable {s : Nat → Option pu_S} {I : Nat → Nat → Int32} {P : Nat → Nat → Option Nat} {J : Nat → Nat → Int64} {n : Nat × Nat}
variable {a ci k t m c : Nat} {ρ : Type} {x : Int32}
theorem pu_ixN (hk : k < m) (hm : m < 1000000) : ¬ (nI k < 0 ∨ m ≤ (nI k).toNatClampNeg) := by
  rw [nI_clamp (by omega)]
  rintro (q | q)
  · exact nI_pos (by omega) q
  · omega
theorem al_e (h : pu_ok s a t k) : am_al (pu_hp s I P J n) (some a) t (nI k) = some (I a k) := by
  obtain ⟨m, h1, h2, h3⟩ := h
  rw [pu_al h1 (pu_ixN h2 h3), nI_clamp (by omega)]
theorem as_e (h : pu_ok s a t k) : am_as (pu_hp s I P J n) (some a) t (nI k) x = some (pu_hp s (pu_u I a k x) P J n) := by
  obtain ⟨m, h1, h2, h3⟩ := h
  rw [pu_as h1 (pu_ixN h2 h3), nI_clamp (by omega), u_e]
theorem alr_e (h : pu_oq s a t k) : am_alr (pu_hp s I P J n) (some a) t (nI k) = some (P a k) := by
  obtain ⟨m, h1, h2, h3⟩ := h
  rw [pu_alr h1 (pu_ixN h2 h3), nI_clamp (by omega)]
theorem asr_e {b : Nat} (h : pu_oq s a t k) (hb : s b = some (0, am_tc t, 0)) : am_asr (pu_hp s I P J n) (some a) t (nI k) (some b) = some (pu_hp s I (pu_v P a k (some b)) J n) := by
  obtain ⟨m, h1, h2, h3⟩ := h
  rw [pu_asr h1 hb (pu_ixN h2 h3), nI_clamp (by omega), v_e]
theorem gi_b {F : Int32 → Option ρ} (hs : s a = some (0, ci, 0)) (hk : (pu_fk ci)[k]? = some 0) : (am_gi (pu_hp s I P J n) (some a) ci k).bind F = F (I a k) := by rw [pu_gi hs hk]; rfl
theorem gl_b {F : Int64 → Option ρ} (hs : s a = some (0, ci, 0)) (hk : (pu_fk ci)[k]? = some 2) : (am_gl (pu_hp s I P J n) (some a) ci k).bind F = F (J a k) := by rw [pu_gl hs hk]; rfl
theorem gr_b {F : Option Nat → Option ρ} (hs : s a = some (0, ci, 0)) (hk : (pu_fk ci)[k]? = some 1) : (am_gr (pu_hp s I P J n) (some a) ci k).bind F = F (P a k) := by rw [pu_gr hs hk]; rfl
theorem gr_h {b : Nat} (hs : s a = some (0, ci, 0)) (hp : P a k = some b) (hk : (pu_fk ci)[k]? = some 1) (I : Nat → Nat → Int32) (J : Nat → Nat → Int64) (n : Nat × Nat) {ρ : Type} (F : Option Nat → Option ρ) : (am_gr (pu_hp s I P J n) (some a) ci k).bind F = F (some b) := by rw [pu_gr hs hk, hp]; rfl
theorem pi_b {F : am_H → Option ρ} (hs : s a = some (0, ci, 0)) (hk : (pu_fk ci)[k]? = some 0) : (am_pi (pu_hp s I P J n) (some a) ci k x).bind F = F (pu_hp s (pu_u I a k x) P J n) := by rw [pu_pi hs hk, u_e]; rfl
theorem pz0_b {F : am_H → Option ρ} (hs : s a = some (0, ci, 0)) (hk : (pu_fk ci)[k]? = some 0) : (am_pz (pu_hp s I P J n) (some a) ci k 0).bind F = F (pu_hp s (pu_u I a k 0) P J n) := by rw [pu_pz (Or.inl rfl) hs hk, u_e]; rfl
theorem pz1_b {F : am_H → Option ρ} (hs : s a = some (0, ci, 0)) (hk : (pu_fk ci)[k]? = some 0) : (am_pz (pu_hp s I P J n) (some a) ci k 1).bind F = F (pu_hp s (pu_u I a k 1) P J n) := by rw [pu_pz (Or.inr rfl) hs hk, u_e]; rfl
theorem pr_b {F : am_H → Option ρ} {b : Option Nat} (hs : s a = some (0, ci, 0)) (hk : (pu_fk ci)[k]? = some 1) : (am_pr (pu_hp s I P J n) (some a) ci k b).bind F = F (pu_hp s I (pu_v P a k b) J n) := by rw [pu_pr hs hk, v_e]; rfl
theorem rc_b {F : Nat → Option ρ} (hs : s a = some (0, ci, 0)) : (am_rc (pu_hp s I P J n) (some a) ci).bind F = F a := by rw [pu_rc hs]; rfl
theorem al_b {F : Int32 → Option ρ} (h : pu_ok s a t k) : (am_al (pu_hp s I P J n) (some a) t (nI k)).bind F = F (I a k) := by rw [al_e h]; rfl
theorem as_b {F : am_H → Option ρ} (h : pu_ok s a t k) : (am_as (pu_hp s I P J n) (some a) t (nI k) x).bind F = F (pu_hp s (pu_u I a k x) P J n) := by rw [as_e h]; rfl
theorem al_0 {F : Int32 → Option ρ} (h : pu_ok s a t 0) : (am_al (pu_hp s I P J n) (some a) t 0).bind F = F (I a 0) := al_b h
theorem as_0 {F : am_H → Option ρ} (h : pu_ok s a t 0) : (am_as (pu_hp s I P J n) (some a) t 0 x).bind F = F (pu_hp s (pu_u I a 0 x) P J n) := as_b h
theorem al_l {F : Int32 → Option ρ} (h : pu_ok s a t (OfNat.ofNat k)) : (am_al (pu_hp s I P J n) (some a) t (no_index (OfNat.ofNat k) : Int32)).bind F = F (I a (OfNat.ofNat k)) := al_b (k := k) h
theorem as_l {F : am_H → Option ρ} (h : pu_ok s a t (OfNat.ofNat k)) : (am_as (pu_hp s I P J n) (some a) t (no_index (OfNat.ofNat k) : Int32) x).bind F = F (pu_hp s (pu_u I a (OfNat.ofNat k) x) P J n) := as_b (k := k) h
theorem alr_b {F : Option Nat → Option ρ} (h : pu_oq s a t k) : (am_alr (pu_hp s I P J n) (some a) t (nI k)).bind F = F (P a k) := by rw [alr_e h]; rfl
theorem asr_b {F : am_H → Option ρ} {b : Nat} (h : pu_oq s a t k) (hb : s b = some (0, am_tc t, 0)) : (am_asr (pu_hp s I P J n) (some a) t (nI k) (some b)).bind F = F (pu_hp s I (pu_v P a k (some b)) J n) := by rw [asr_e h hb]; rfl
theorem ix3 (c v : Nat) : (3 : Int32) * nI c + nI v = nI (3 * c + v) := by rw [show (3 : Int32) = nI 3 from rfl, pk_mul, nI_add]
theorem ix12 (c v : Nat) : (12 : Int32) * nI c + nI v = nI (12 * c + v) := by rw [show (12 : Int32) = nI 12 from rfl, pk_mul, nI_add]
theorem al_3 {F : Int32 → Option ρ} {v : Nat} (h : pu_ok s a t (3 * c + v)) : (am_al (pu_hp s I P J n) (some a) t ((3 : Int32) * nI c + nI v)).bind F = F (I a (3 * c + v)) := by rw [ix3, al_e h]; rfl
theorem as_3 {F : am_H → Option ρ} {v : Nat} (h : pu_ok s a t (3 * c + v)) : (am_as (pu_hp s I P J n) (some a) t ((3 : Int32) * nI c + nI v) x).bind F = F (pu_hp s (pu_u I a (3 * c + v) x) P J n) := by rw [ix3, as_e h]; rfl
theorem al_12 {F : Int32 → Option ρ} {v : Nat} (h : pu_ok s a t (12 * c + v)) : (am_al (pu_hp s I P J n) (some a) t ((12 : Int32) * nI c + nI v)).bind F = F (I a (12 * c + v)) := by rw [ix12, al_e h]; rfl
theorem as_12 {F : am_H → Option ρ} {v : Nat} (h : pu_ok s a t (12 * c + v)) : (am_as (pu_hp s I P J n) (some a) t ((12 : Int32) * nI c + nI v) x).bind F = F (pu_hp s (pu_u I a (12 * c + v) x) P J n) := by rw [ix12, as_e h]; rfl
end BA
/-! truths -/
def b2 (b : Bool) : Int32 := if b then 1 else 0
theorem b2_0 (b : Bool) : (b2 b = 0) = (b = false) := by cases b <;> decide
theorem b2_t : b2 true = 1 := rfl
theorem b2_f : b2 false = 0 := rfl
theorem one0 : ((1 : Int32) = 0) = False := eq_false (by decide)
theorem zr0 (h : am_H) : am_zr 0 h = some (0, h) := rfl
theorem zr1 (h : am_H) : am_zr 1 h = some (1, h) := rfl
theorem zrb (b : Bool) (h : am_H) : am_zr (b2 b) h = some (b2 b, h) := by cases b <;> rfl
theorem zr0_b {ρ : Type} (F : Int32 × am_H → Option ρ) (h : am_H) : (am_zr 0 h).bind F = F (0, h) := rfl
theorem zr1_b {ρ : Type} (F : Int32 × am_H → Option ρ) (h : am_H) : (am_zr 1 h).bind F = F (1, h) := rfl
theorem zrb_b {ρ : Type} (F : Int32 × am_H → Option ρ) (b : Bool) (h : am_H) : (am_zr (b2 b) h).bind F = F (b2 b, h) := by rw [zrb]; rfl
def inB (v lo hi : Int32) : Bool := decide (lo ≤ v) && decide (v ≤ hi)
theorem i_le (a b : Int32) : (a ≤ b) = ¬ b < a := by rw [eq_iff_iff]; exact Int32.not_lt.symm
theorem q_isIn (v lo hi : Int32) (h : am_H) : fX8_isIn v lo hi h = some (b2 (inB v lo hi), h) := by
  unfold fX8_isIn inB
  by_cases h1 : v < lo
  · rw [if_pos h1, zr0, decide_eq_false (by rw [i_le]; exact fun q => q h1)]; rfl
  · rw [if_neg h1, decide_eq_true (by rw [i_le]; exact h1)]
    by_cases h2 : hi < v
    · rw [if_pos h2, zr0, decide_eq_false (by rw [i_le]; exact fun q => q h2)]; rfl
    · rw [if_neg h2, zr1, decide_eq_true (by rw [i_le]; exact h2)]; rfl
theorem isIn_b {ρ : Type} (F : Int32 × am_H → Option ρ) (v lo hi : Int32) (h : am_H) : (fX8_isIn v lo hi h).bind F = F (b2 (inB v lo hi), h) := by rw [q_isIn]; rfl
/-! numbers against literals -/
theorem ite_T {α : Type} (a b : α) : (if True then a else b) = a := if_pos trivial
theorem ite_F {α : Type} (a b : α) : (if False then a else b) = b := if_neg id
section NU
variable {n k : Nat}
theorem ni_le {a b : Nat} (ha : a < 2147483648) (hb : b < 2147483648) : (nI a ≤ nI b) = (a ≤ b) := propext (nI_leI ha hb)
theorem ni_lt {a b : Nat} (ha : a < 2147483648) (hb : b < 2147483648) : (nI a < nI b) = (a < b) := propext (nI_ltI ha hb)
theorem ni_eq {a b : Nat} (ha : a < 2147483648) (hb : b < 2147483648) : (nI a = nI b) = (a = b) := propext (nI_eq ha hb)
theorem il_t (h : OfNat.ofNat n ≤ k) (hk : k < 2147483648) : ((no_index (OfNat.ofNat n) : Int32) ≤ nI k) = True := by
  show (nI n ≤ nI k) = True
  replace h : n ≤ k := h
  rw [ni_le (by omega) hk]; exact eq_true h
theorem il_f (h : k < OfNat.ofNat n) (hn : OfNat.ofNat n < 2147483648) : ((no_index (OfNat.ofNat n) : Int32) ≤ nI k) = False := by
  show (nI n ≤ nI k) = False
  replace h : k < n := h
  replace hn : n < 2147483648 := hn
  rw [ni_le hn (by omega)]; exact eq_false (by omega)
theorem li_t (h : k ≤ OfNat.ofNat n) (hn : OfNat.ofNat n < 2147483648) : (nI k ≤ (no_index (OfNat.ofNat n) : Int32)) = True := by
  show (nI k ≤ nI n) = True
  replace h : k ≤ n := h
  replace hn : n < 2147483648 := hn
  rw [ni_le (by omega) hn]; exact eq_true h
theorem li_f (h : OfNat.ofNat n < k) (hk : k < 2147483648) : (nI k ≤ (no_index (OfNat.ofNat n) : Int32)) = False := by
  show (nI k ≤ nI n) = False
  replace h : n < k := h
  rw [ni_le hk (by omega)]; exact eq_false (by omega)
theorem it_t (h : OfNat.ofNat n < k) (hk : k < 2147483648) : ((no_index (OfNat.ofNat n) : Int32) < nI k) = True := by
  show (nI n < nI k) = True
  replace h : n < k := h
  rw [ni_lt (by omega) hk]; exact eq_true h
theorem it_f (h : k ≤ OfNat.ofNat n) (hn : OfNat.ofNat n < 2147483648) : ((no_index (OfNat.ofNat n) : Int32) < nI k) = False := by
  show (nI n < nI k) = False
  replace h : k ≤ n := h
  replace hn : n < 2147483648 := hn
  rw [ni_lt hn (by omega)]; exact eq_false (by omega)
theorem ti_t (h : k < OfNat.ofNat n) (hn : OfNat.ofNat n < 2147483648) : (nI k < (no_index (OfNat.ofNat n) : Int32)) = True := by
  show (nI k < nI n) = True
  replace h : k < n := h
  replace hn : n < 2147483648 := hn
  rw [ni_lt (by omega) hn]; exact eq_true h
theorem ti_f (h : OfNat.ofNat n ≤ k) (hk : k < 2147483648) : (nI k < (no_index (OfNat.ofNat n) : Int32)) = False := by
  show (nI k < nI n) = False
  replace h : n ≤ k := h
  rw [ni_lt hk (by omega)]; exact eq_false (by omega)
theorem ei_t (h : k = OfNat.ofNat n) : (nI k = (no_index (OfNat.ofNat n) : Int32)) = True := by
  subst h; exact eq_true rfl
theorem ei_f (h : ¬ k = OfNat.ofNat n) (hk : k < 2147483648) (hn : OfNat.ofNat n < 2147483648) : (nI k = (no_index (OfNat.ofNat n) : Int32)) = False := by
  show (nI k = nI n) = False
  replace h : ¬ k = n := h
  replace hn : n < 2147483648 := hn
  rw [ni_eq hk hn]; exact eq_false h
theorem ie_t (h : k = OfNat.ofNat n) : ((no_index (OfNat.ofNat n) : Int32) = nI k) = True := by
  subst h; exact eq_true rfl
theorem ie_f (h : ¬ k = OfNat.ofNat n) (hk : k < 2147483648) (hn : OfNat.ofNat n < 2147483648) : ((no_index (OfNat.ofNat n) : Int32) = nI k) = False := by
  show (nI n = nI k) = False
  replace h : ¬ k = n := h
  replace hn : n < 2147483648 := hn
  rw [ni_eq hn hk]; exact eq_false (fun q => h q.symm)
theorem nn_le_t {a b : Nat} (h : a ≤ b) (hb : b < 2147483648) : (nI a ≤ nI b) = True := by rw [ni_le (by omega) hb]; exact eq_true h
theorem nn_le_f {a b : Nat} (h : b < a) (ha : a < 2147483648) : (nI a ≤ nI b) = False := by rw [ni_le ha (by omega)]; exact eq_false (by omega)
theorem nn_lt_t {a b : Nat} (h : a < b) (hb : b < 2147483648) : (nI a < nI b) = True := by rw [ni_lt (by omega) hb]; exact eq_true h
theorem nn_lt_f {a b : Nat} (h : b ≤ a) (ha : a < 2147483648) : (nI a < nI b) = False := by rw [ni_lt ha (by omega)]; exact eq_false (by omega)
theorem nn_eq_t {a b : Nat} (h : a = b) : (nI a = nI b) = True := by subst h; exact eq_true rfl
theorem nn_eq_f {a b : Nat} (h : ¬ a = b) (ha : a < 2147483648) (hb : b < 2147483648) : (nI a = nI b) = False := by rw [ni_eq ha hb]; exact eq_false h
theorem ni_addl : nI k + (no_index (OfNat.ofNat n) : Int32) = nI (k + OfNat.ofNat n) := nI_add k n
theorem ni_ladd : (no_index (OfNat.ofNat n) : Int32) + nI k = nI (OfNat.ofNat n + k) := nI_add n k
theorem ni_mull : (no_index (OfNat.ofNat n) : Int32) * nI k = nI (OfNat.ofNat n * k) := pk_mul n k
theorem ni_sub {a b : Nat} (h : b ≤ a) : nI a - nI b = nI (a - b) := pk_sub h
theorem ni_subl (h : OfNat.ofNat n ≤ k) : nI k - (no_index (OfNat.ofNat n) : Int32) = nI (k - OfNat.ofNat n) := pk_sub h
theorem ni_m1 {k : Nat} (h : k < 2147483648) : (nI k = (-1 : Int32)) = False := by
  refine eq_false fun q => ?_
  have := nI_pos' h
  rw [q] at this
  exact absurd this (by decide)
theorem m1_eq : ((-1 : Int32) = (-1 : Int32)) = True := eq_true rfl
theorem inB_t {v lo hi : Nat} (h1 : lo ≤ v) (h2 : v ≤ hi) (h3 : hi < 2147483648) : inB (nI v) (nI lo) (nI hi) = true := by
  unfold inB
  rw [Bool.and_eq_true, decide_eq_true_eq, decide_eq_true_eq]
  exact ⟨(nI_leI (by omega) (by omega)).mpr h1, (nI_leI (by omega) h3).mpr h2⟩
/-- an int that is told to be in 0..hi is a number -/
theorem inB_of {v : Int32} {hi : Nat} (hh : hi < 2147483648) (h : inB v 0 (nI hi) = true) : ∃ k : Nat, k ≤ hi ∧ v = nI k := by
  unfold inB at h
  rw [Bool.and_eq_true, decide_eq_true_eq, decide_eq_true_eq] at h
  obtain ⟨h1, h2⟩ := h
  obtain ⟨j, hj, rfl⟩ := nI_of (x := v) (by rw [← i_le]; exact h1)
  rw [ni_le (by omega) hh] at h2
  exact ⟨j, h2, rfl⟩
theorem inB_of1 {v : Int32} {c : Nat} (hh : c < 2147483648) (h : inB v 0 (nI c - 1) = true) : ∃ k : Nat, k < c ∧ v = nI k := by
  cases c with
  | zero =>
    exfalso
    unfold inB at h
    rw [Bool.and_eq_true, decide_eq_true_eq, decide_eq_true_eq] at h
    have h3 : (0 : Int32) ≤ nI 0 - 1 := Int32.le_trans h.1 h.2
    exact absurd h3 (by decide)
  | succ c =>
    rw [nI_pred] at h
    obtain ⟨k, h1, rfl⟩ := inB_of (by omega) h
    exact ⟨k, by omega, rfl⟩
theorem inB_t1 {k c : Nat} (h : k < c) (hh : c < 2147483648) : inB (nI k) 0 (nI c - 1) = true := by
  obtain ⟨c, rfl⟩ : ∃ d, c = d + 1 := ⟨c - 1, by omega⟩
  rw [nI_pred]
  exact inB_t (Nat.zero_le _) (by omega) (by omega)
end NU
