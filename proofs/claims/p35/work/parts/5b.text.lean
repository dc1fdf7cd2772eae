/-! the text of a clock, and that it is read as that clock -/
def dg (n : Nat) : List Nat := if n < 10 then [48 + n] else [48 + n / 10, 48 + n % 10]
def tV (K : S_K) (v : Nat) : List Nat := dg (kA K v) ++ (120 :: (dg (kH K v) ++ (104 :: dg (kO K v))))
def sepV (v c : Nat) : List Nat := if v = 0 then [] else [c]
def wV (K : S_K) : Nat → List Nat
  | 0 => []
  | v + 1 => wV K v ++ (sepV v 62 ++ tV K v)
def wM (K : S_K) : Nat → List Nat
  | 0 => []
  | b + 1 => wM K b ++ (sepV b 44 ++ dg (kM K b))
def wA (K : S_K) : List Nat := wV K (kn K) ++ (61 :: (dg (kca K) ++ (120 :: (dg (kch K) ++ (59 :: 115 :: (dg (ksu K) ++ (59 :: 109 :: wM K (knb K))))))))
def Tx (L : Nat) (c : Nat → Nat) (p : Nat) (t : List Nat) : Prop := ∀ i, i < t.length → cdN L c (p + i) = t.getD i 0
section TX
variable {L : Nat} {c : Nat → Nat} {p : Nat} {t u : List Nat} {x : Nat}
theorem Tx.l (h : Tx L c p (t ++ u)) : Tx L c p t := fun i hi => by
  rw [h i (by rw [List.length_append]; omega), List.getD_eq_getElem?_getD, List.getD_eq_getElem?_getD, List.getElem?_append_left hi]
theorem Tx.r (h : Tx L c p (t ++ u)) : Tx L c (p + t.length) u := fun i hi => by
  rw [show p + t.length + i = p + (t.length + i) by omega, h (t.length + i) (by rw [List.length_append]; omega), List.getD_eq_getElem?_getD, List.getD_eq_getElem?_getD, List.getElem?_append_right (by omega), show t.length + i - t.length = i by omega]
theorem Tx.h (h : Tx L c p (x :: t)) : cdN L c p = x := h 0 (by simp)
theorem Tx.tl (h : Tx L c p (x :: t)) : Tx L c (p + 1) t := fun i hi => by
  rw [show p + 1 + i = p + (i + 1) by omega, h (i + 1) (by simp; omega)]; rfl
theorem dg_len {n : Nat} : 1 ≤ (dg n).length ∧ (dg n).length ≤ 2 := by
  unfold dg; split <;> simp
theorem rN_ok {lo hi v : Nat} (h : Tx L c p (dg v)) (h1 : lo ≤ v) (h2 : v ≤ hi) (h3 : hi ≤ 99) (hn : ¬ (48 ≤ cdN L c (p + (dg v).length) ∧ cdN L c (p + (dg v).length) ≤ 57)) : rN L c lo hi p = (some v, p + (dg v).length) := by
  unfold rN rN2
  by_cases hv : v < 10
  · have e : dg v = [48 + v] := if_pos hv
    rw [e] at h hn ⊢
    have e0 : cdN L c p = 48 + v := h.h
    have hn : ¬ (48 ≤ cdN L c (p + 1) ∧ cdN L c (p + 1) ≤ 57) := hn
    rw [e0, if_pos ⟨by omega, by omega, Or.inl ⟨by omega, by omega⟩⟩, show 48 + v - 48 = v by omega, if_neg (fun q => hn ⟨q.2.1, q.2.2.1⟩), if_pos h1]
    rfl
  · have e : dg v = [48 + v / 10, 48 + v % 10] := if_neg hv
    rw [e] at h ⊢
    have e0 : cdN L c p = 48 + v / 10 := h.h
    have e1 : cdN L c (p + 1) = 48 + v % 10 := h.tl.h
    have d1 : v / 10 * 10 + v % 10 = v := by omega
    have d2 : v / 10 ≤ 9 := by omega
    rw [e0, e1, if_pos ⟨by omega, by omega, Or.inr ⟨by omega, by omega, by omega⟩⟩, show 48 + v / 10 - 48 = v / 10 by omega, show 48 + v % 10 - 48 = v % 10 by omega, show 10 * (v / 10) + v % 10 = v by omega, if_pos ⟨by omega, by omega, by omega, h1, h2⟩]
    rfl
end TX
theorem wV_le {L : Nat} {c : Nat → Nat} {K : S_K} : ∀ n v, v ≤ n → Tx L c 0 (wV K n) → Tx L c 0 (wV K v)
  | 0, v, hv, h => by obtain rfl : v = 0 := by omega
                      exact h
  | n + 1, v, hv, h => by
    by_cases e : v = n + 1
    · subst e; exact h
    · exact wV_le n v (by omega) (Tx.l h)
theorem wM_le {L : Nat} {c : Nat → Nat} {K : S_K} {p : Nat} : ∀ n v, v ≤ n → Tx L c p (wM K n) → Tx L c p (wM K v)
  | 0, v, hv, h => by obtain rfl : v = 0 := by omega
                      exact h
  | n + 1, v, hv, h => by
    by_cases e : v = n + 1
    · subst e; exact h
    · exact wM_le n v (by omega) (Tx.l h)
/-- the same clock, as far as it is told -/
def KE (K K' : S_K) : Prop := kn K' = kn K ∧ (∀ v, v < kn K → kA K' v = kA K v ∧ kH K' v = kH K v ∧ kO K' v = kO K v) ∧ kca K' = kca K ∧ kch K' = kch K ∧ ksu K' = ksu K ∧ knb K' = knb K ∧ ∀ b, b < knb K → kM K' b = kM K b
theorem KE.B {K K' : S_K} (h : KE K K') (hK : S_KB K) : S_KB K' := by
  obtain ⟨h1, h2, h3, h4, h5, h6, h7⟩ := h
  obtain ⟨k1, k2, k3, k4, k5, k6, k7, k8⟩ := hK
  refine ⟨by rw [h1]; exact k1, fun k hk => ?_, by rw [h3]; exact k3, by rw [h4]; exact k4, by rw [h5]; exact k5, by rw [h6]; exact k6, fun k hk => ?_, fun i j hij hj => ?_⟩
  · rw [h1] at hk
    obtain ⟨a1, a2, a3⟩ := h2 k hk
    rw [a1, a2, a3]; exact k2 k hk
  · rw [h6] at hk; rw [h7 k hk]; exact k7 k hk
  · rw [h6] at hj; rw [h7 i (by omega), h7 j hj]; exact k8 i j hij hj
theorem KE.LK {I : Nat → Nat → Int32} {K K' : S_K} (h : KE K K') (hL : LK I K) : LK I K' := by
  obtain ⟨h1, h2, h3, h4, h5, h6, h7⟩ := h
  obtain ⟨k1, k2, k3, k4, k5, k6, k7⟩ := hL
  refine ⟨by rw [h1]; exact k1, by rw [h3]; exact k2, by rw [h4]; exact k3, by rw [h5]; exact k4, by rw [h6]; exact k5, fun v hv => ?_, fun b hb => ?_⟩
  · rw [h1] at hv
    obtain ⟨a1, a2, a3⟩ := h2 v hv
    rw [a1, a2, a3]; exact k6 v hv
  · rw [h6] at hb; rw [h7 b hb]; exact k7 b hb
section RT
variable {L : Nat} {c : Nat → Nat} {K : S_K}
theorem rVes_ok {K0 : S_K} {p v : Nat} (hK : S_KB K) (hO : kO K v ≤ 40 ∧ 1 ≤ kO K v) (hv : v < kn K) (h : Tx L c p (tV K v)) (hn : ¬ (48 ≤ cdN L c (p + (tV K v).length) ∧ cdN L c (p + (tV K v).length) ≤ 57)) : rVes L c K0 p = (some (pgK 2 (kO K v) (pgK 1 (kH K v) (pgK 0 (kA K v) K0))), p + (tV K v).length) := by
  obtain ⟨a1, a2, -⟩ := hK.2.1 v hv
  unfold tV at h hn ⊢
  have h1 := h.l
  have h2 := h.r
  have e1 := h2.h
  have h3 := h2.tl.l
  have h4 := h2.tl.r
  have e2 := h4.h
  have h5 := h4.tl
  simp only [List.length_append, List.length_cons] at hn ⊢
  unfold rVes
  rw [rN_ok h1 a1.1 a1.2 (by omega) (by rw [e1]; omega)]
  dsimp only
  rw [if_pos e1, rN_ok h3 a2.1 a2.2 (by omega) (by rw [e2]; omega)]
  dsimp only
  rw [if_pos e2, rN_ok h5 hO.2 hO.1 (by omega) (by rw [show p + (dg (kA K v)).length + 1 + (dg (kH K v)).length + 1 + (dg (kO K v)).length = p + ((dg (kA K v)).length + ((dg (kH K v)).length + ((dg (kO K v)).length + 1) + 1)) by omega]; exact hn)]
  dsimp only
  rw [show p + (dg (kA K v)).length + 1 + (dg (kH K v)).length + 1 + (dg (kO K v)).length = p + ((dg (kA K v)).length + ((dg (kH K v)).length + ((dg (kO K v)).length + 1) + 1)) by omega]
def KV (K : S_K) (v : Nat) (K0 : S_K) : Prop := kn K0 = v ∧ (∀ j, j < v → kA K0 j = kA K j ∧ kH K0 j = kH K j ∧ kO K0 j = kO K j) ∧ knb K0 = 0
theorem KV.s {K0 : S_K} {v : Nat} (h : KV K v K0) : KV K (v + 1) (pgK 2 (kO K v) (pgK 1 (kH K v) (pgK 0 (kA K v) K0))) := by
  obtain ⟨h1, h2, h3⟩ := h
  have e : pgK 2 (kO K v) (pgK 1 (kH K v) (pgK 0 (kA K v) K0)) = (kn K0 + 1, updN (kA K0) (kn K0) (kA K v), updN (kH K0) (kn K0) (kH K v), updN (kO K0) (kn K0) (kO K v), K0.2.2.2.2) := rfl
  rw [e]
  refine ⟨by show kn K0 + 1 = _; omega, fun j hj => ?_, h3⟩
  show updN (kA K0) (kn K0) (kA K v) j = _ ∧ updN (kH K0) (kn K0) (kH K v) j = _ ∧ updN (kO K0) (kn K0) (kO K v) j = _
  rw [h1]
  by_cases q : j = v
  · subst q; rw [updN_s, updN_s, updN_s]; exact ⟨rfl, rfl, rfl⟩
  · rw [updN_n q, updN_n q, updN_n q]; exact h2 j (by omega)
theorem sepV_len {v x : Nat} : (sepV v x).length = if v = 0 then 0 else 1 := by
  unfold sepV; split <;> rfl
theorem rVs_ok (hK : S_KB K) (hO : ∀ v, v < kn K → kO K v ≤ 40 ∧ 1 ≤ kO K v) (h : Tx L c 0 (wV K (kn K))) (he : cdN L c (wV K (kn K)).length = 61) : ∀ (r v m : Nat) (K0 : S_K), v + 1 + r = kn K → v + m = 2 → KV K v K0 → ∃ K1, rVs L c (m + 1) K0 ((wV K v).length + (sepV v 62).length) = (some K1, (wV K (kn K)).length) ∧ KV K (kn K) K1 := by
  have hkn := hK.1
  intro r
  induction r with
  | zero =>
    intro v m K0 hv hm hk
    have hv' : v + 1 = kn K := by omega
    have h1 : Tx L c 0 (wV K v ++ (sepV v 62 ++ tV K v)) := wV_le (kn K) (v + 1) (by omega) h
    have h2 := h1.r.r
    have hl : (wV K (kn K)).length = (wV K v).length + (sepV v 62).length + (tV K v).length := by
      rw [← hv']; show (wV K v ++ (sepV v 62 ++ tV K v)).length = _; simp only [List.length_append]; omega
    rw [Nat.zero_add] at h2
    refine ⟨_, ?_, by have := hk.s; rw [hv'] at this; exact this⟩
    show (match rVes L c K0 ((wV K v).length + (sepV v 62).length) with | (none, p') => (none, p') | (some K', p') => if 1 ≤ m ∧ cdN L c p' = 62 then rVs L c m K' (p' + 1) else (some K', p')) = _
    rw [rVes_ok hK (hO v (by omega)) (by omega) h2 (by rw [← hl, he]; omega)]
    dsimp only
    rw [← hl, he, if_neg (by omega)]
  | succ r ih =>
    intro v m K0 hv hm hk
    obtain ⟨m, rfl⟩ : ∃ m', m = m' + 1 := ⟨m - 1, by omega⟩
    have h1 : Tx L c 0 (wV K v ++ (sepV v 62 ++ tV K v)) := wV_le (kn K) (v + 1) (by omega) h
    have h2 := h1.r.r
    have h3 : Tx L c 0 (wV K (v + 1) ++ (sepV (v + 1) 62 ++ tV K (v + 1))) := wV_le (kn K) (v + 2) (by omega) h
    have hl : (wV K (v + 1)).length = (wV K v).length + (sepV v 62).length + (tV K v).length := by
      show (wV K v ++ (sepV v 62 ++ tV K v)).length = _; simp only [List.length_append]; omega
    have e62 : cdN L c (wV K (v + 1)).length = 62 := by
      have h4 := h3.r.l
      rw [Nat.zero_add, show sepV (v + 1) 62 = [62] from if_neg (by omega)] at h4
      exact h4.h
    rw [Nat.zero_add] at h2
    obtain ⟨K1, g1, g2⟩ := ih (v + 1) m (pgK 2 (kO K v) (pgK 1 (kH K v) (pgK 0 (kA K v) K0))) (by omega) (by omega) hk.s
    refine ⟨K1, ?_, g2⟩
    show (match rVes L c K0 ((wV K v).length + (sepV v 62).length) with | (none, p') => (none, p') | (some K', p') => if 1 ≤ m + 1 ∧ cdN L c p' = 62 then rVs L c (m + 1) K' (p' + 1) else (some K', p')) = _
    rw [rVes_ok hK (hO v (by omega)) (by omega) h2 (by rw [← hl, e62]; omega)]
    dsimp only
    rw [← hl, e62, if_pos ⟨by omega, rfl⟩]
    rw [show (sepV (v + 1) 62).length = 1 by rw [sepV_len, if_neg (by omega)]] at g1
    exact g1
def KM (K : S_K) (b : Nat) (K0 : S_K) : Prop := (kn K0 = kn K ∧ (∀ j, j < kn K → kA K0 j = kA K j ∧ kH K0 j = kH K j ∧ kO K0 j = kO K j)) ∧ kca K0 = kca K ∧ kch K0 = kch K ∧ ksu K0 = ksu K ∧ knb K0 = b ∧ ∀ i, i < b → kM K0 i = kM K i
theorem KM.s {K0 : S_K} {b : Nat} (h : KM K b K0) : KM K (b + 1) (pgK 6 (kM K b) K0) := by
  obtain ⟨h1, h2, h3, h4, h5, h6⟩ := h
  have e : pgK 6 (kM K b) K0 = (kn K0, kA K0, kH K0, kO K0, kca K0, kch K0, ksu K0, knb K0 + 1, updN (kM K0) (knb K0) (kM K b)) := rfl
  rw [e]
  refine ⟨h1, h2, h3, h4, by show knb K0 + 1 = _; omega, fun i hi => ?_⟩
  show updN (kM K0) (knb K0) (kM K b) i = _
  rw [h5]
  by_cases q : i = b
  · subst q; rw [updN_s]
  · rw [updN_n q]; exact h6 i (by omega)
theorem rMs_ok {p : Nat} (hK : S_KB K) (h : Tx L c p (wM K (knb K))) (he : cdN L c (p + (wM K (knb K)).length) = 0) : ∀ (r b m : Nat) (K0 : S_K), b + 1 + r = knb K → b + m = 11 → KM K b K0 → ∃ K1, rMs L c (m + 1) K0 (p + (wM K b).length + (sepV b 44).length) = (some K1, p + (wM K (knb K)).length) ∧ KM K (knb K) K1 := by
  have hnb := hK.2.2.2.2.2.1
  intro r
  induction r with
  | zero =>
    intro b m K0 hb hm hk
    have hb' : b + 1 = knb K := by omega
    have h1 : Tx L c p (wM K b ++ (sepV b 44 ++ dg (kM K b))) := wM_le (knb K) (b + 1) (by omega) h
    have h2 := h1.r.r
    have hl : (wM K (knb K)).length = (wM K b).length + (sepV b 44).length + (dg (kM K b)).length := by
      rw [← hb']; show (wM K b ++ (sepV b 44 ++ dg (kM K b))).length = _; simp only [List.length_append]; omega
    have hmk : mkP K0 < kM K b := by
      unfold mkP
      obtain ⟨-, -, -, -, h5, h6⟩ := hk
      rw [h5]
      by_cases q : b = 0
      · rw [if_pos q]; exact (hK.2.2.2.2.2.2.1 b (by omega)).1
      · rw [if_neg q, h6 _ (by omega)]; exact hK.2.2.2.2.2.2.2 _ _ (by omega) (by omega)
    have hm99 := (hK.2.2.2.2.2.2.1 b (by omega)).2
    refine ⟨_, ?_, by have := hk.s; rw [hb'] at this; exact this⟩
    show (match rN L c (mkP K0 + 1) 99 (p + (wM K b).length + (sepV b 44).length) with | (none, p') => (none, p') | (some x, p') => if 1 ≤ m ∧ x < 99 ∧ cdN L c p' = 44 then rMs L c m (pgK 6 x K0) (p' + 1) else (some (pgK 6 x K0), p')) = _
    rw [rN_ok h2 (by omega) hm99 (by omega) (by rw [show p + (wM K b).length + (sepV b 44).length + (dg (kM K b)).length = p + (wM K (knb K)).length by omega, he]; omega)]
    dsimp only
    rw [show p + (wM K b).length + (sepV b 44).length + (dg (kM K b)).length = p + (wM K (knb K)).length by omega, he, if_neg (by omega)]
  | succ r ih =>
    intro b m K0 hb hm hk
    obtain ⟨m, rfl⟩ : ∃ m', m = m' + 1 := ⟨m - 1, by omega⟩
    have h1 : Tx L c p (wM K b ++ (sepV b 44 ++ dg (kM K b))) := wM_le (knb K) (b + 1) (by omega) h
    have h2 := h1.r.r
    have h3 : Tx L c p (wM K (b + 1) ++ (sepV (b + 1) 44 ++ dg (kM K (b + 1)))) := wM_le (knb K) (b + 2) (by omega) h
    have hl : (wM K (b + 1)).length = (wM K b).length + (sepV b 44).length + (dg (kM K b)).length := by
      show (wM K b ++ (sepV b 44 ++ dg (kM K b))).length = _; simp only [List.length_append]; omega
    have e44 : cdN L c (p + (wM K (b + 1)).length) = 44 := by
      have h4 := h3.r.l
      rw [show sepV (b + 1) 44 = [44] from if_neg (by omega)] at h4
      exact h4.h
    have hmk : mkP K0 < kM K b := by
      unfold mkP
      obtain ⟨-, -, -, -, h5, h6⟩ := hk
      rw [h5]
      by_cases q : b = 0
      · rw [if_pos q]; exact (hK.2.2.2.2.2.2.1 b (by omega)).1
      · rw [if_neg q, h6 _ (by omega)]; exact hK.2.2.2.2.2.2.2 _ _ (by omega) (by omega)
    have hm99 := (hK.2.2.2.2.2.2.1 b (by omega)).2
    have hnx := hK.2.2.2.2.2.2.2 b (b + 1) (by omega) (by omega)
    have hnx2 := (hK.2.2.2.2.2.2.1 (b + 1) (by omega)).2
    obtain ⟨K1, g1, g2⟩ := ih (b + 1) m (pgK 6 (kM K b) K0) (by omega) (by omega) hk.s
    refine ⟨K1, ?_, g2⟩
    show (match rN L c (mkP K0 + 1) 99 (p + (wM K b).length + (sepV b 44).length) with | (none, p') => (none, p') | (some x, p') => if 1 ≤ m + 1 ∧ x < 99 ∧ cdN L c p' = 44 then rMs L c (m + 1) (pgK 6 x K0) (p' + 1) else (some (pgK 6 x K0), p')) = _
    have hp : p + (wM K b).length + (sepV b 44).length + (dg (kM K b)).length = p + (wM K (b + 1)).length := by omega
    rw [rN_ok h2 (by omega) hm99 (by omega) (by rw [hp, e44]; omega)]
    dsimp only
    rw [hp, e44, if_pos ⟨by omega, by omega, rfl⟩]
    rw [show (sepV (b + 1) 44).length = 1 by rw [sepV_len, if_neg (by omega)]] at g1
    exact g1
theorem rAll_ok (hK : S_KB K) (hO : ∀ v, v < kn K → kO K v ≤ 40 ∧ 1 ≤ kO K v) (h : Tx L c 0 (wA K)) (hL : L = (wA K).length) : ∃ K1, rAll L c K_0 = (some K1, L) ∧ KE K K1 := by
  have hkn := hK.1
  have hnb := hK.2.2.2.2.2.1
  unfold wA at h
  have h1 := h.l
  have h2 := h.r
  rw [Nat.zero_add] at h2
  have e61 := h2.h
  have h3 := h2.tl.l
  have h4 := h2.tl.r
  have e120 := h4.h
  have h5 := h4.tl.l
  have h6 := h4.tl.r
  have e59 := h6.h
  have e115 := h6.tl.h
  have h7 := h6.tl.tl.l
  have h8 := h6.tl.tl.r
  have e59b := h8.h
  have e109 := h8.tl.h
  have h9 := h8.tl.tl
  have hlen : L = (wV K (kn K)).length + 1 + (dg (kca K)).length + 1 + (dg (kch K)).length + 1 + 1 + (dg (ksu K)).length + 1 + 1 + (wM K (knb K)).length := by
    rw [hL]; unfold wA; simp only [List.length_append, List.length_cons]; omega
  have e0 : cdN L c L = 0 := if_neg (by omega)
  obtain ⟨K1, g1, k1⟩ := rVs_ok hK hO h1 e61 (kn K - 1) 0 2 K_0 (by omega) (by omega) ⟨rfl, fun j hj => absurd hj (Nat.not_lt_zero j), rfl⟩
  have g1 : rVs L c 3 K_0 0 = (some K1, (wV K (kn K)).length) := g1
  have g2 : rCyl L c K1 (wV K (kn K)).length = (some (pgK 4 (kch K) (pgK 3 (kca K) K1)), (wV K (kn K)).length + 1 + (dg (kca K)).length + 1 + (dg (kch K)).length) := by
    unfold rCyl
    rw [if_pos e61, rN_ok h3 hK.2.2.1.1 hK.2.2.1.2 (by omega) (by rw [e120]; omega)]
    dsimp only
    rw [if_pos e120, rN_ok h5 hK.2.2.2.1.1 hK.2.2.2.1.2 (by omega) (by rw [e59]; omega)]
  have g3 : rSup L c (pgK 4 (kch K) (pgK 3 (kca K) K1)) ((wV K (kn K)).length + 1 + (dg (kca K)).length + 1 + (dg (kch K)).length) = (some (pgK 5 (ksu K) (pgK 4 (kch K) (pgK 3 (kca K) K1))), (wV K (kn K)).length + 1 + (dg (kca K)).length + 1 + (dg (kch K)).length + 1 + 1 + (dg (ksu K)).length) := by
    unfold rSup
    rw [if_pos e59, if_pos e115, rN_ok h7 (Nat.zero_le _) hK.2.2.2.2.1 (by omega) (by rw [e59b]; omega)]
  obtain ⟨a1, a2, a3⟩ := k1
  have kM0 : KM K 0 (pgK 5 (ksu K) (pgK 4 (kch K) (pgK 3 (kca K) K1))) := ⟨⟨a1, a2⟩, rfl, rfl, rfl, a3, fun i hi => absurd hi (Nat.not_lt_zero i)⟩
  obtain ⟨K2, g4, k2⟩ := rMs_ok hK h9 (by rw [← hlen]; exact e0) (knb K - 1) 0 11 _ (by omega) (by omega) kM0
  have g5 : rMks L c (pgK 5 (ksu K) (pgK 4 (kch K) (pgK 3 (kca K) K1))) ((wV K (kn K)).length + 1 + (dg (kca K)).length + 1 + (dg (kch K)).length + 1 + 1 + (dg (ksu K)).length) = (some K2, L) := by
    unfold rMks
    rw [if_pos e59b, if_pos e109]
    rw [← hlen] at g4
    exact g4
  refine ⟨K2, ?_, ?_⟩
  · unfold rAll rThen
    rw [g1]; dsimp only
    rw [g2]; dsimp only
    rw [g3]; dsimp only
    exact g5
  · obtain ⟨⟨b1, b2⟩, b3, b4, b5, b6, b7⟩ := k2
    exact ⟨b1, b2, b3, b4, b5, b6, b7⟩
theorem wV_len (hK : S_KB K) : ∀ v, v ≤ kn K → (wV K v).length ≤ 9 * v
  | 0, _ => Nat.le_refl _
  | v + 1, hv => by
    have ih := wV_len hK v (by omega)
    have h1 := @dg_len (kA K v)
    have h2 := @dg_len (kH K v)
    have h3 := @dg_len (kO K v)
    have h4 : (sepV v 62).length ≤ 1 := by rw [sepV_len]; split <;> omega
    show (wV K v ++ (sepV v 62 ++ tV K v)).length ≤ _
    unfold tV
    simp only [List.length_append, List.length_cons]
    omega
theorem wM_len : ∀ b, (wM K b).length ≤ 3 * b - (if b = 0 then 0 else 1)
  | 0 => Nat.le_refl _
  | b + 1 => by
    have ih := wM_len b
    have h1 := @dg_len (kM K b)
    show (wM K b ++ (sepV b 44 ++ dg (kM K b))).length ≤ _
    simp only [List.length_append, sepV_len]
    rw [if_neg (show ¬ b + 1 = 0 by omega)]
    by_cases e : b = 0
    · subst e
      rw [if_pos rfl] at ih ⊢
      omega
    · rw [if_neg e] at ih ⊢
      omega
end RT
