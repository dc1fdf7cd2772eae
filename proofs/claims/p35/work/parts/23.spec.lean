/-! the spec of a RUN, in natural numbers -/
abbrev S_K : Type := Nat × (Nat → Nat) × (Nat → Nat) × (Nat → Nat) × Nat × Nat × Nat × Nat × (Nat → Nat)
def kn (K : S_K) : Nat := K.1
def kA (K : S_K) : Nat → Nat := K.2.1
def kH (K : S_K) : Nat → Nat := K.2.2.1
def kO (K : S_K) : Nat → Nat := K.2.2.2.1
def kca (K : S_K) : Nat := K.2.2.2.2.1
def kch (K : S_K) : Nat := K.2.2.2.2.2.1
def ksu (K : S_K) : Nat := K.2.2.2.2.2.2.1
def knb (K : S_K) : Nat := K.2.2.2.2.2.2.2.1
def kM (K : S_K) : Nat → Nat := K.2.2.2.2.2.2.2.2
/-- a fault: kind, vessel, n, from -/
abbrev S_F : Type := Nat × Nat × Nat × Nat
def S_hole (F : S_F) (ho v t : Nat) : Nat := if F.2.1 = v ∧ F.2.2.2 ≤ t then (if F.1 = 1 then ho - F.2.2.1 else if F.1 = 2 then ho + F.2.2.1 else ho) else ho
def S_warm (F : S_F) (w t : Nat) : Nat := if F.1 = 4 ∧ F.2.2.2 ≤ t then w - F.2.2.1 else w
def S_leak (F : S_F) (t : Nat) : Nat := if F.1 = 3 ∧ F.2.2.2 ≤ t then F.2.2.1 else 0
def updN (f : Nat → Nat) (k x : Nat) : Nat → Nat := fun j => if j = k then x else f j
theorem updN_s {f : Nat → Nat} {k x : Nat} : updN f k x k = x := if_pos rfl
theorem updN_n {f : Nat → Nat} {k j x : Nat} (h : ¬ j = k) : updN f k x j = f j := if_neg h
/-- a vessel: what is held, what goes out; its state: flow, water, run over -/
def S_held (K : S_K) (k fl : Nat) (W : Nat → Nat) : Nat := min (W k + fl) (kA K k * kH K k)
def S_out (K : S_K) (F : S_F) (w t k held : Nat) : Nat := min held (S_hole F (kO K k) k t * (held / kA K k) * S_warm F w t / 1000)
def S_v (K : S_K) (F : S_F) (w t k : Nat) (x : Nat × (Nat → Nat) × Nat) : Nat × (Nat → Nat) × Nat :=
  (S_out K F w t k (S_held K k x.1 x.2.1), updN x.2.1 k (S_held K k x.1 x.2.1 - S_out K F w t k (S_held K k x.1 x.2.1)), x.2.2 + (x.2.1 k + x.1 - kA K k * kH K k))
def S_vs (K : S_K) (F : S_F) (w t : Nat) : Nat → Nat → Nat × (Nat → Nat) × Nat → Nat × (Nat → Nat) × Nat
  | 0, _, x => x
  | m + 1, k, x => S_vs K F w t m (k + 1) (S_v K F w t k x)
/-- the state of a run: water, cylinder, poured, over, leaked, emptied, dropped, when, least, most -/
abbrev S_X : Type := (Nat → Nat) × Nat × Nat × Nat × Nat × Nat × Nat × (Nat → Nat) × Nat × Nat
def xW (X : S_X) : Nat → Nat := X.1
def xcy (X : S_X) : Nat := X.2.1
def xpo (X : S_X) : Nat := X.2.2.1
def xov (X : S_X) : Nat := X.2.2.2.1
def xle (X : S_X) : Nat := X.2.2.2.2.1
def xem (X : S_X) : Nat := X.2.2.2.2.2.1
def xdr (X : S_X) : Nat := X.2.2.2.2.2.2.1
def xD (X : S_X) : Nat → Nat := X.2.2.2.2.2.2.2.1
def xli (X : S_X) : Nat := X.2.2.2.2.2.2.2.2.1
def xmo (X : S_X) : Nat := X.2.2.2.2.2.2.2.2.2
def S_dn (K : S_K) (lev : Nat) : Nat → Nat → Nat
  | 0, j => j
  | m + 1, j => if j < knb K ∧ kM K j ≤ lev then S_dn K lev m (j + 1) else j
def S_drip (K : S_K) (t : Nat) (X : S_X) (z : Nat × (Nat → Nat) × Nat) : S_X :=
  (z.2.1, xcy X + z.1, xpo X + z.1, z.2.2, xle X, xem X, xdr X, xD X, (if t = 0 then z.1 else min (xli X) z.1), max (xmo X) z.1)
def S_fl (K : S_K) (F : S_F) (w t : Nat) (X : S_X) : Nat × (Nat → Nat) × Nat := S_vs K F w t (kn K) 0 (ksu K, xW X, xov X)
def S_lk (K : S_K) (F : S_F) (t : Nat) (X : S_X) : S_X :=
  if F.2.1 < kn K then (updN (xW X) F.2.1 (xW X F.2.1 - min (xW X F.2.1) (S_leak F t)), xcy X, xpo X, xov X, xle X + min (xW X F.2.1) (S_leak F t), xem X, xdr X, xD X, xli X, xmo X) else X
def S_drop (K : S_K) (t : Nat) (X : S_X) : S_X :=
  (xW X, xcy X, xpo X, xov X, xle X, xem X, S_dn K (xcy X / kca K) 12 (xdr X), (fun b => if xdr X ≤ b ∧ b < S_dn K (xcy X / kca K) 12 (xdr X) then t else xD X b), xli X, xmo X)
def S_si (K : S_K) (sip : Bool) (X : S_X) : S_X :=
  if sip = true ∧ kch K ≤ xcy X / kca K ∧ knb K ≤ xdr X then (xW X, 0, xpo X, xov X, xle X, xem X + 1, xdr X, xD X, xli X, xmo X) else X
def S_tick (K : S_K) (F : S_F) (w : Nat) (sip : Bool) (t : Nat) (X : S_X) : S_X := S_si K sip (S_drop K t (S_lk K F t (S_drip K t X (S_fl K F w t X))))
def S_x0 (K : S_K) : S_X := (fun v => kA K v * kH K v, 0, 0, 0, 0, 0, 0, fun _ => 0, 0, 0)
/-- behind t ticks -/
def S_at (K : S_K) (F : S_F) (w : Nat) (sip : Bool) : Nat → S_X
  | 0 => S_x0 K
  | t + 1 => S_tick K F w sip t (S_at K F w sip t)
/-- what is within bounds -/
def S_KB (K : S_K) : Prop := (1 ≤ kn K ∧ kn K ≤ 3) ∧ (∀ k, k < kn K → (1 ≤ kA K k ∧ kA K k ≤ 30) ∧ (1 ≤ kH K k ∧ kH K k ≤ 60) ∧ kO K k ≤ 200) ∧ (1 ≤ kca K ∧ kca K ≤ 99) ∧ (1 ≤ kch K ∧ kch K ≤ 99) ∧ ksu K ≤ 60 ∧ (1 ≤ knb K ∧ knb K ≤ 12) ∧ (∀ k, k < knb K → 1 ≤ kM K k ∧ kM K k ≤ 99) ∧ ∀ i j, i < j → j < knb K → kM K i < kM K j
def S_FB (F : S_F) : Prop := F.1 ≤ 4 ∧ F.2.1 ≤ 2 ∧ F.2.2.1 ≤ 20 ∧ F.2.2.2 ≤ 95
def S_XB (K : S_K) (t : Nat) (X : S_X) : Prop := (∀ k, k < kn K → xW X k ≤ kA K k * kH K k) ∧ xcy X ≤ 1800 * t ∧ xpo X ≤ 1800 * t ∧ xov X ≤ 6000 * t ∧ xle X ≤ 1800 * t ∧ xem X ≤ t ∧ xdr X ≤ knb K ∧ xli X ≤ 1800 ∧ xmo X ≤ 1800 ∧ ∀ b, b < xdr X → xD X b < t
theorem S_full {K : S_K} (h : S_KB K) {k : Nat} (hk : k < kn K) : 1 ≤ kA K k * kH K k ∧ kA K k * kH K k ≤ 1800 := by
  obtain ⟨-, h2, -⟩ := h
  obtain ⟨⟨a1, a2⟩, ⟨b1, b2⟩, -⟩ := h2 k hk
  exact ⟨Nat.mul_le_mul a1 b1, Nat.mul_le_mul a2 b2⟩
theorem S_hole_le {F : S_F} (hF : S_FB F) {ho v t : Nat} (h : ho ≤ 200) : S_hole F ho v t ≤ 220 := by
  obtain ⟨-, -, h3, -⟩ := hF
  unfold S_hole
  split
  · split
    · omega
    · split <;> omega
  · omega
theorem S_warm_le {F : S_F} {w t : Nat} (h : w ≤ 150) : S_warm F w t ≤ 150 := by
  unfold S_warm; split <;> omega
theorem S_held_le {K : S_K} {k fl : Nat} {W : Nat → Nat} : S_held K k fl W ≤ kA K k * kH K k := Nat.min_le_right _ _
theorem S_out_le {K : S_K} {F : S_F} {w t k held : Nat} : S_out K F w t k held ≤ held := Nat.min_le_left _ _
theorem S_v_b {K : S_K} {F : S_F} {w t k : Nat} {x : Nat × (Nat → Nat) × Nat} (hW : ∀ j, j < kn K → x.2.1 j ≤ kA K j * kH K j) (hx : x.1 ≤ 1800) (hk : k < kn K) (hK : S_KB K) : (∀ j, j < kn K → (S_v K F w t k x).2.1 j ≤ kA K j * kH K j) ∧ (S_v K F w t k x).1 ≤ 1800 ∧ (S_v K F w t k x).2.2 ≤ x.2.2 + 1800 := by
  have hf := S_full hK hk
  have h1 := @S_held_le K k x.1 x.2.1
  have h2 := @S_out_le K F w t k (S_held K k x.1 x.2.1)
  refine ⟨fun j hj => ?_, ?_, ?_⟩
  · show updN x.2.1 k _ j ≤ _
    by_cases e : j = k
    · subst e; rw [updN_s]; omega
    · rw [updN_n e]; exact hW j hj
  · show S_out K F w t k _ ≤ _
    omega
  · show x.2.2 + (x.2.1 k + x.1 - kA K k * kH K k) ≤ _
    have := hW k hk
    omega
theorem S_vs_b {K : S_K} {F : S_F} {w t : Nat} (hK : S_KB K) : ∀ (m k : Nat) (x : Nat × (Nat → Nat) × Nat), (∀ j, j < kn K → x.2.1 j ≤ kA K j * kH K j) → x.1 ≤ 1800 → k + m ≤ kn K → (∀ j, j < kn K → (S_vs K F w t m k x).2.1 j ≤ kA K j * kH K j) ∧ (S_vs K F w t m k x).1 ≤ 1800 ∧ (S_vs K F w t m k x).2.2 ≤ x.2.2 + 1800 * m
  | 0, k, x, hW, hx, _ => ⟨hW, hx, Nat.le_refl _⟩
  | m + 1, k, x, hW, hx, hk => by
    obtain ⟨h1, h2, h3⟩ := S_v_b (F := F) (w := w) (t := t) hW hx (show k < kn K by omega) hK
    obtain ⟨h4, h5, h6⟩ := S_vs_b hK (F := F) (w := w) (t := t) m (k + 1) _ h1 h2 (by omega)
    exact ⟨h4, h5, by show (S_vs K F w t m (k + 1) (S_v K F w t k x)).2.2 ≤ _; omega⟩
theorem S_fl_b {K : S_K} {F : S_F} {w t : Nat} {X : S_X} (hK : S_KB K) (h : ∀ k, k < kn K → xW X k ≤ kA K k * kH K k) : (∀ j, j < kn K → (S_fl K F w t X).2.1 j ≤ kA K j * kH K j) ∧ (S_fl K F w t X).1 ≤ 1800 ∧ (S_fl K F w t X).2.2 ≤ xov X + 5400 := by
  have hsu : ksu K ≤ 60 := hK.2.2.2.2.1
  obtain ⟨h1, h2, h3⟩ := S_vs_b (F := F) (w := w) (t := t) hK (kn K) 0 (ksu K, xW X, xov X) h (by show ksu K ≤ 1800; omega) (by omega)
  have := hK.1.2
  exact ⟨h1, h2, Nat.le_trans h3 (by show xov X + 1800 * kn K ≤ _; omega)⟩
theorem S_dn_b {K : S_K} {lev : Nat} : ∀ (m j : Nat), j ≤ knb K → S_dn K lev m j ≤ knb K ∧ j ≤ S_dn K lev m j
  | 0, j, h => ⟨h, Nat.le_refl _⟩
  | m + 1, j, h => by
    unfold S_dn
    split
    · obtain ⟨a, b⟩ := S_dn_b (K := K) (lev := lev) m (j + 1) (by omega)
      exact ⟨a, by omega⟩
    · exact ⟨h, Nat.le_refl _⟩
theorem S_drip_b {K : S_K} {F : S_F} {w t : Nat} {X : S_X} (hK : S_KB K) (h : S_XB K t X) : S_XB K (t + 1) (S_drip K t X (S_fl K F w t X)) := by
  obtain ⟨h1, h2, h3, h4, h5, h6, h7, h8, h9, h10⟩ := h
  obtain ⟨b1, b2, b3⟩ := S_fl_b (F := F) (w := w) (t := t) hK h1
  refine ⟨b1, ?_, ?_, ?_, ?_, ?_, h7, ?_, ?_, fun b hb => ?_⟩
  · show xcy X + _ ≤ _; omega
  · show xpo X + _ ≤ _; omega
  · show (S_fl K F w t X).2.2 ≤ _; omega
  · show xle X ≤ _; omega
  · show xem X ≤ _; omega
  · show (if t = 0 then (S_fl K F w t X).1 else min (xli X) (S_fl K F w t X).1) ≤ _
    split <;> omega
  · show max (xmo X) (S_fl K F w t X).1 ≤ _; omega
  · have := h10 b hb
    show xD X b < _; omega
/-- behind drip at tick t: the leak may add 20 -/
theorem S_lk_b {K : S_K} {F : S_F} {t : Nat} {X : S_X} (hF : S_FB F) (h : S_XB K (t + 1) X) (hl : xle X ≤ 1800 * t) : S_XB K (t + 1) (S_lk K F t X) := by
  obtain ⟨h1, h2, h3, h4, h5, h6, h7⟩ := h
  have hq : S_leak F t ≤ 20 := by
    unfold S_leak
    obtain ⟨-, -, q, -⟩ := hF
    split <;> omega
  unfold S_lk
  split
  · refine ⟨fun j hj => ?_, h2, h3, h4, ?_, h6, h7⟩
    · show updN _ _ _ j ≤ _
      by_cases e : j = F.2.1
      · subst e; rw [updN_s]; have := h1 _ hj; omega
      · rw [updN_n e]; exact h1 j hj
    · show xle X + min _ (S_leak F t) ≤ _
      omega
  · exact ⟨h1, h2, h3, h4, h5, h6, h7⟩
theorem S_drop_b {K : S_K} {t : Nat} {X : S_X} (h : S_XB K (t + 1) X) : S_XB K (t + 1) (S_drop K t X) := by
  obtain ⟨h1, h2, h3, h4, h5, h6, h7, h8, h9, h10⟩ := h
  refine ⟨h1, h2, h3, h4, h5, h6, (S_dn_b 12 _ h7).1, h8, h9, fun b hb => ?_⟩
  show (if xdr X ≤ b ∧ b < S_dn K (xcy X / kca K) 12 (xdr X) then t else xD X b) < _
  split
  · omega
  · rename_i hn
    have hb' : b < S_dn K (xcy X / kca K) 12 (xdr X) := hb
    exact h10 b (by omega)
theorem S_si_b {K : S_K} {sip : Bool} {t : Nat} {X : S_X} (h : S_XB K (t + 1) X) (he : xem X ≤ t) : S_XB K (t + 1) (S_si K sip X) := by
  obtain ⟨h1, h2, h3, h4, h5, h6, h7⟩ := h
  unfold S_si
  split
  · exact ⟨h1, Nat.zero_le _, h3, h4, h5, by show xem X + 1 ≤ _; omega, h7⟩
  · exact ⟨h1, h2, h3, h4, h5, h6, h7⟩
theorem S_lk_em {K : S_K} {F : S_F} {t : Nat} {X : S_X} : xem (S_lk K F t X) = xem X := by unfold S_lk; split <;> rfl
theorem S_tick_b {K : S_K} {F : S_F} {w t : Nat} {sip : Bool} {X : S_X} (hK : S_KB K) (hF : S_FB F) (h : S_XB K t X) : S_XB K (t + 1) (S_tick K F w sip t X) := by
  refine S_si_b (S_drop_b (S_lk_b hF (S_drip_b hK h) h.2.2.2.2.1)) ?_
  show xem (S_lk K F t (S_drip K t X (S_fl K F w t X))) ≤ t
  rw [S_lk_em]
  exact h.2.2.2.2.2.1
theorem S_x0_b {K : S_K} : S_XB K 0 (S_x0 K) := ⟨fun _ _ => Nat.le_refl _, Nat.zero_le _, Nat.zero_le _, Nat.zero_le _, Nat.zero_le _, Nat.zero_le _, Nat.zero_le _, Nat.zero_le _, Nat.zero_le _, fun b hb => absurd hb (Nat.not_lt_zero b)⟩
theorem S_at_b {K : S_K} {F : S_F} {w : Nat} {sip : Bool} (hK : S_KB K) (hF : S_FB F) : ∀ t, S_XB K t (S_at K F w sip t)
  | 0 => S_x0_b
  | t + 1 => S_tick_b hK hF (S_at_b hK hF t)
