/-! the first state -/
def wRI : List (Nat × Nat × Int32) := [(22, 0, 0), (21, 0, 0), (14, 11, -1), (14, 10, -1), (14, 9, -1), (14, 8, -1), (14, 7, -1), (14, 6, -1), (14, 5, -1), (14, 4, -1), (14, 3, -1), (14, 2, -1), (14, 1, -1), (14, 0, -1), (13, 3, 48), (13, 2, 48), (13, 1, 48), (13, 0, 48), (12, 3, 100), (12, 2, 100), (12, 1, 100), (12, 0, 100), (11, 3, -1), (10, 11, -1), (10, 10, -1), (10, 9, -1), (10, 8, -1), (10, 7, -1), (10, 6, -1), (10, 5, -1), (10, 4, -1), (10, 3, -1), (10, 2, -1), (10, 1, -1), (10, 0, -1), (9, 3, 48), (9, 2, 48), (9, 1, 48), (9, 0, 48), (8, 3, 100), (8, 2, 100), (8, 1, 100), (8, 0, 100), (7, 3, -1)]
def wRP : List (Nat × Nat × Nat) := [(1, 18, 39), (1, 17, 36), (36, 1, 38), (36, 0, 37), (1, 16, 29), (29, 6, 35), (29, 4, 34), (29, 3, 33), (29, 2, 32), (29, 1, 31), (29, 0, 30), (1, 15, 26), (26, 1, 21), (26, 0, 15), (26, 11, 28), (26, 4, 27), (1, 14, 23), (23, 1, 21), (23, 0, 15), (23, 11, 25), (23, 4, 24), (1, 13, 22), (1, 12, 21), (1, 11, 15), (15, 9, 20), (15, 4, 19), (15, 3, 18), (15, 2, 17), (15, 1, 16), (1, 8, 11), (11, 2, 14), (11, 1, 13), (11, 0, 12), (1, 7, 7), (7, 2, 10), (7, 1, 9), (7, 0, 8), (1, 6, 5), (5, 0, 6), (1, 2, 4), (1, 1, 3), (1, 0, 2)]
def T_0 : S_T := (fun _ => 100, fun _ => 48, fun _ => none, none)
def Z_0 : S_Z := ((0, fun _ => K_0), (0, fun _ => (0, 0, 0, 0)), (0, fun _ => (0, 0, none)), T_0, (false, T_0), (0, fun _ => 0), 0)
theorem Z0_B : Z_B Z_0 := by
  refine ⟨⟨by decide, fun i hi => absurd hi (Nat.not_lt_zero i)⟩, ⟨by decide, fun i hi => absurd hi (Nat.not_lt_zero i)⟩, ⟨by decide, fun i hi => absurd hi (Nat.not_lt_zero i)⟩, ⟨fun j _ => ?_, fun b t _ h => (by cases h), fun h e => (by cases e)⟩, fun h => (by cases h), ⟨by decide, fun k hk => absurd hk (Nat.not_lt_zero k)⟩, by decide⟩
  show (50 ≤ 100 ∧ 100 ≤ 150) ∧ 24 ≤ 48 ∧ 48 ≤ 72
  omega
set_option maxHeartbeats 4000000 in
set_option maxRecDepth 100000 in
theorem W_0 : pu_W (shpk 39) (PL wRP) := by
  refine ⟨fun a z h => ?_, fun a k b h => ?_⟩
  · unfold shpk
    rw [if_pos (shp_le h), h]
  · unfold rft at h
    split at h <;> first | (cases h; decide +kernel) | cases h
set_option maxHeartbeats 4000000 in
set_option maxRecDepth 100000 in
theorem C_0 : InvC (shpk 39) (IL wRI) (PL wRP) (39, 767) Z_0 := by
  refine ⟨W_0, by decide, by decide +kernel, fun k hk => absurd hk (Nat.not_lt_zero k), ?_, fun i hi => absurd hi (Nat.not_lt_zero i), fun i hi => absurd hi (Nat.not_lt_zero i), fun i hi => absurd hi (Nat.not_lt_zero i), ?_, fun h => (by cases h)⟩
  · show IL wRI 21 0 = nI 0 ∧ IL wRI 21 1 = nI 0 ∧ IL wRI 21 2 = nI 0 ∧ IL wRI 21 3 = nI 0
    decide +kernel
  · show (∀ j, j < 4 → IL wRI 8 j = nI 100 ∧ IL wRI 9 j = nI 48) ∧ (∀ j, j < 12 → IL wRI 10 j = -1) ∧ IL wRI 7 3 = -1
    decide +kernel
def am_h0 : am_H := (fun _ => none, 0, 0)
theorem h0_e : am_h0 = hH 0 [] [] 0 := by
  refine Prod.ext (funext fun a => ?_) rfl
  show none = (shpk 0 a).map _
  have e : shpk 0 a = none := by
    unfold shpk
    by_cases h : a ≤ 0
    · obtain rfl : a = 0 := by omega
      rfl
    · rw [if_neg h]
  rw [e]; rfl
