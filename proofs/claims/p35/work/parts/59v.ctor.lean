/-! the two constructors on the empty heap (printed by gen/ctor.py) -/
def shpk (k : Nat) : Nat → Option pu_S := fun a => if a ≤ k then shp a else none
def IL : List (Nat × Nat × Int32) → Nat → Nat → Int32
  | [] => fun _ _ => 0
  | r :: R => fun a j => if a = r.1 ∧ j = r.2.1 then r.2.2 else IL R a j
def PL : List (Nat × Nat × Nat) → Nat → Nat → Option Nat
  | [] => fun _ _ => none
  | r :: R => fun a j => if a = r.1 ∧ j = r.2.1 then some r.2.2 else PL R a j
def hH (k : Nat) (RI : List (Nat × Nat × Int32)) (RP : List (Nat × Nat × Nat)) (n2 : Nat) : am_H := pu_hp (shpk k) (IL RI) (PL RP) (fun _ _ => 0) (k, n2)
theorem IL_f {RI : List (Nat × Nat × Int32)} {k : Nat} (h : RI.all (fun r => !(r.1 == k)) = true) : IL RI k = fun _ => 0 := by
  induction RI with
  | nil => rfl
  | cons r R ih =>
    rw [List.all_cons, Bool.and_eq_true] at h
    have e := ih h.2
    have hr : ¬ k = r.1 := fun q => by
      have := h.1
      rw [q] at this
      simp at this
    funext j
    show (if k = r.1 ∧ j = r.2.1 then r.2.2 else IL R k j) = 0
    rw [if_neg (fun q => hr q.1), e]
theorem PL_f {RP : List (Nat × Nat × Nat)} {k : Nat} (h : RP.all (fun r => !(r.1 == k)) = true) : PL RP k = fun _ => none := by
  induction RP with
  | nil => rfl
  | cons r R ih =>
    rw [List.all_cons, Bool.and_eq_true] at h
    have e := ih h.2
    have hr : ¬ k = r.1 := fun q => by
      have := h.1
      rw [q] at this
      simp at this
    funext j
    show (if k = r.1 ∧ j = r.2.1 then some r.2.2 else PL R k j) = none
    rw [if_neg (fun q => hr q.1), e]
theorem shpk_1 {k k' : Nat} {z : pu_S} (hk : k + 1 = k') (hz : shp k' = some z) : pu_row (shpk k) (k + 1) (some z) = shpk k' := by
  subst hk
  funext a
  unfold pu_row shpk
  by_cases h1 : a = k + 1
  · subst h1
    rw [if_pos rfl, if_pos (Nat.le_refl _), hz]
  · rw [if_neg h1]
    by_cases h2 : a ≤ k
    · rw [if_pos h2, if_pos (by omega)]
    · rw [if_neg h2, if_neg (by omega)]
theorem row_0 {α : Type} {I : Nat → α} {k : Nat} {f : α} (h : I k = f) : pu_row I k f = I := by subst h; exact pu_row_i I k
section SS
variable {k k' n2 n' a ci j t m b : Nat} {x : Int32} {RI RI' : List (Nat × Nat × Int32)} {RP : List (Nat × Nat × Nat)} {ρ : Type}
theorem st_na {F : am_H → Option ρ} (hk : k + 1 = k') (hn : n2 + m = n') (hz : shp k' = some (1, t, m)) (hx : ¬ (x < 0 ∨ 100000 < x.toNatClampNeg)) (hm : x.toNatClampNeg = m) (hs : shpk k' a = some (0, ci, 0)) (hj : (pu_fk ci)[j]? = some 1) (hf : RI.all (fun r => !(r.1 == k')) = true) : (am_na (hH k RI RP n2) t x).bind (fun y => (am_pr y.2 (some a) ci j y.1).bind F) = F (hH k' RI ((a, j, k') :: RP) n') := by
  unfold hH
  rw [pu_na hx]
  dsimp only [Option.bind_some]
  rw [hm, shpk_1 hk hz, hn]
  subst hk
  rw [row_0 (I := IL RI) (IL_f hf), pr_b hs hj]
  rfl
theorem st_nq {F : am_H → Option ρ} (hk : k + 1 = k') (hn : n2 + m = n') (hz : shp k' = some (2, t, m)) (hx : ¬ (x < 0 ∨ 100000 < x.toNatClampNeg)) (hm : x.toNatClampNeg = m) (hs : shpk k' a = some (0, ci, 0)) (hj : (pu_fk ci)[j]? = some 1) (_ : RI.all (fun r => !(r.1 == k')) = true) (hf : RP.all (fun r => !(r.1 == k')) = true) : (am_nq (hH k RI RP n2) t x).bind (fun y => (am_pr y.2 (some a) ci j y.1).bind F) = F (hH k' RI ((a, j, k') :: RP) n') := by
  unfold hH
  rw [pu_nq hx]
  dsimp only [Option.bind_some]
  rw [hm, shpk_1 hk hz, hn]
  subst hk
  rw [row_0 (I := PL RP) (PL_f hf), pr_b hs hj]
  rfl
theorem st_pr {F : am_H → Option ρ} (hs : shpk k a = some (0, ci, 0)) (hj : (pu_fk ci)[j]? = some 1) : (am_pr (hH k RI RP n2) (some a) ci j (some b)).bind F = F (hH k RI ((a, j, b) :: RP) n2) := by
  unfold hH
  rw [pr_b hs hj]
  rfl
theorem st_pi {F : am_H → Option ρ} (hs : shpk k a = some (0, ci, 0)) (hj : (pu_fk ci)[j]? = some 0) : (am_pi (hH k RI RP n2) (some a) ci j x).bind F = F (hH k ((a, j, x) :: RI) RP n2) := by
  unfold hH
  rw [pi_b hs hj]
  rfl
theorem st_gr {F : Option Nat → Option ρ} (hs : shpk k a = some (0, ci, 0)) (hj : (pu_fk ci)[j]? = some 1) (hb : PL RP a j = some b) : (am_gr (hH k RI RP n2) (some a) ci j).bind F = F (some b) := by
  unfold hH
  rw [gr_b hs hj, hb]
theorem st_nw {df : List Value} {w : Nat} (hdf : df = pu_fs (fun _ => 0) (fun _ => none) (fun _ => 0) 0 (pu_fk ci)) (hw : df.length = w) {F : Nat × am_H → Option ρ} (hk : k + 1 = k') (hn : n2 + w = n') (hz : shp k' = some (0, ci, 0)) (hf : RI.all (fun r => !(r.1 == k')) = true) (hg : RP.all (fun r => !(r.1 == k')) = true) : (am_nwo (hH k RI RP n2) ci df).bind F = F (k', hH k' RI RP n') := by
  unfold hH
  rw [pu_nw hdf]
  dsimp only [Option.bind_some]
  rw [hw, shpk_1 hk hz, hn]
  subst hk
  rw [row_0 (I := IL RI) (IL_f hf), row_0 (I := PL RP) (PL_f hg), row_0 (I := fun _ _ => (0 : Int64)) rfl]
theorem st_nw0 {F : Nat × am_H → Option ρ} (hk : k + 1 = k') (hz : shp k' = some (0, 0, 0)) (hf : RI.all (fun r => !(r.1 == k')) = true) (hg : RP.all (fun r => !(r.1 == k')) = true) (hn : n2 + 10 = n') : (am_nwo (hH k RI RP n2) 0 df_0).bind F = F (k', hH k' RI RP n') := st_nw rfl rfl hk hn hz hf hg
theorem st_nw1 {F : Nat × am_H → Option ρ} (hk : k + 1 = k') (hz : shp k' = some (0, 1, 0)) (hf : RI.all (fun r => !(r.1 == k')) = true) (hg : RP.all (fun r => !(r.1 == k')) = true) (hn : n2 + 4 = n') : (am_nwo (hH k RI RP n2) 1 df_1).bind F = F (k', hH k' RI RP n') := st_nw rfl rfl hk hn hz hf hg
theorem st_nw2 {F : Nat × am_H → Option ρ} (hk : k + 1 = k') (hz : shp k' = some (0, 2, 0)) (hf : RI.all (fun r => !(r.1 == k')) = true) (hg : RP.all (fun r => !(r.1 == k')) = true) (hn : n2 + 4 = n') : (am_nwo (hH k RI RP n2) 2 df_2).bind F = F (k', hH k' RI RP n') := st_nw rfl rfl hk hn hz hf hg
theorem st_nw3 {F : Nat × am_H → Option ρ} (hk : k + 1 = k') (hz : shp k' = some (0, 3, 0)) (hf : RI.all (fun r => !(r.1 == k')) = true) (hg : RP.all (fun r => !(r.1 == k')) = true) (hn : n2 + 3 = n') : (am_nwo (hH k RI RP n2) 3 df_3).bind F = F (k', hH k' RI RP n') := st_nw rfl rfl hk hn hz hf hg
theorem st_nw4 {F : Nat × am_H → Option ρ} (hk : k + 1 = k') (hz : shp k' = some (0, 4, 0)) (hf : RI.all (fun r => !(r.1 == k')) = true) (hg : RP.all (fun r => !(r.1 == k')) = true) (hn : n2 + 12 = n') : (am_nwo (hH k RI RP n2) 4 df_4).bind F = F (k', hH k' RI RP n') := st_nw rfl rfl hk hn hz hf hg
theorem st_nw5 {F : Nat × am_H → Option ρ} (hk : k + 1 = k') (hz : shp k' = some (0, 5, 0)) (hf : RI.all (fun r => !(r.1 == k')) = true) (hg : RP.all (fun r => !(r.1 == k')) = true) (hn : n2 + 14 = n') : (am_nwo (hH k RI RP n2) 5 df_5).bind F = F (k', hH k' RI RP n') := st_nw rfl rfl hk hn hz hf hg
theorem st_nw6 {F : Nat × am_H → Option ρ} (hk : k + 1 = k') (hz : shp k' = some (0, 6, 0)) (hf : RI.all (fun r => !(r.1 == k')) = true) (hg : RP.all (fun r => !(r.1 == k')) = true) (hn : n2 + 4 = n') : (am_nwo (hH k RI RP n2) 6 df_6).bind F = F (k', hH k' RI RP n') := st_nw rfl rfl hk hn hz hf hg
theorem st_nw8 {F : Nat × am_H → Option ρ} (hk : k + 1 = k') (hz : shp k' = some (0, 8, 0)) (hf : RI.all (fun r => !(r.1 == k')) = true) (hg : RP.all (fun r => !(r.1 == k')) = true) (hn : n2 + 19 = n') : (am_nwo (hH k RI RP n2) 8 df_8).bind F = F (k', hH k' RI RP n') := st_nw rfl rfl hk hn hz hf hg
def flR (a : Nat) (x : Int32) : Nat → Nat → List (Nat × Nat × Int32) → List (Nat × Nat × Int32)
  | _, 0, RI => RI
  | k, m + 1, RI => flR a x (k + 1) m ((a, k, x) :: RI)
set_option maxHeartbeats 4000000 in
set_option maxRecDepth 100000 in
theorem st_fl {z : Nat} (hs : shpk k a = some (1, 0, z)) (hz : z < 1000) : ∀ (m q N : Nat) (RI : List (Nat × Nat × Int32)), q + m = z → m < N → fJ7_fill_53178_5 N (some a) x (nI q) (nI z) (hH k RI RP n2) = some (hH k (flR a x q m RI) RP n2) := by
  intro m
  induction m with
  | zero =>
    intro q N RI hq hN
    obtain ⟨N, rfl⟩ : ∃ N', N = N' + 1 := ⟨N - 1, by omega⟩
    obtain rfl : q = z := by omega
    show fJ7_fill_53178_5_b _ _ _ _ _ _ = _
    unfold fJ7_fill_53178_5_b
    rw [if_pos (Int32.le_refl _)]
    rfl
  | succ m ih =>
    intro q N RI hq hN
    obtain ⟨N, rfl⟩ : ∃ N', N = N' + 1 := ⟨N - 1, by omega⟩
    show fJ7_fill_53178_5_b (fJ7_fill_53178_5 N) _ _ _ _ _ = _
    unfold fJ7_fill_53178_5_b
    rw [if_neg (by rw [nn_le_f (by omega) (by omega)]; exact id)]
    unfold hH
    rw [as_b (pu_okI hs (by omega) (by omega)), nI_1]
    exact ih (q + 1) N ((a, q, x) :: RI) (by omega) (by omega)
theorem st_fill (hs : shpk k a = some (1, 0, m)) (hm : m < 1000) (hR : flR a x 0 m RI = RI') : fJ7_fill_53178 (some a) x (hH k RI RP n2) = some (hH k RI' RP n2) := by
  unfold fJ7_fill_53178
  rw [show am_an (hH k RI RP n2) (some a) = some (nI m) from pu_an hs (by omega)]
  dsimp only [Option.bind_some]
  rw [show (0 : Int32) = nI 0 from rfl, st_fl hs hm m 0 am_fu RI (by omega) (by unfold am_fu; omega), hR]
end SS
set_option maxHeartbeats 4000000 in
set_option maxRecDepth 100000 in
theorem i_X3_5 : fX3_init 5 (hH 5 [] [(1, 2, 4), (1, 1, 3), (1, 0, 2)] 44) = some (hH 6 [] [(5, 0, 6), (1, 2, 4), (1, 1, 3), (1, 0, 2)] 124) := by
  unfold fX3_init
  rw [st_na (k' := 6) (n' := 124) (m := 80) (by rfl) (by rfl) (by rfl) (by decide) (by rfl) (by rfl) (by rfl) (by rfl)]
  try rfl

set_option maxHeartbeats 4000000 in
set_option maxRecDepth 100000 in
theorem i_X6_7 : fX6_init 7 (hH 7 [] [(1, 6, 5), (5, 0, 6), (1, 2, 4), (1, 1, 3), (1, 0, 2)] 128) = some (hH 10 [(10, 11, -1), (10, 10, -1), (10, 9, -1), (10, 8, -1), (10, 7, -1), (10, 6, -1), (10, 5, -1), (10, 4, -1), (10, 3, -1), (10, 2, -1), (10, 1, -1), (10, 0, -1), (9, 3, 48), (9, 2, 48), (9, 1, 48), (9, 0, 48), (8, 3, 100), (8, 2, 100), (8, 1, 100), (8, 0, 100), (7, 3, -1)] [(7, 2, 10), (7, 1, 9), (7, 0, 8), (1, 6, 5), (5, 0, 6), (1, 2, 4), (1, 1, 3), (1, 0, 2)] 148) := by
  unfold fX6_init
  rw [st_na (k' := 8) (n' := 132) (m := 4) (by rfl) (by rfl) (by rfl) (by decide) (by rfl) (by rfl) (by rfl) (by rfl)]
  rw [st_na (k' := 9) (n' := 136) (m := 4) (by rfl) (by rfl) (by rfl) (by decide) (by rfl) (by rfl) (by rfl) (by rfl)]
  rw [st_na (k' := 10) (n' := 148) (m := 12) (by rfl) (by rfl) (by rfl) (by decide) (by rfl) (by rfl) (by rfl) (by rfl)]
  rw [st_pi (by rfl) (by rfl)]
  rw [st_gr (b := 8) (by rfl) (by rfl) (by rfl)]
  rw [st_fill (m := 4) (RI' := [(8, 3, 100), (8, 2, 100), (8, 1, 100), (8, 0, 100), (7, 3, -1)]) (by rfl) (by decide) (by rfl)]
  dsimp only [Option.bind_some]
  rw [st_gr (b := 9) (by rfl) (by rfl) (by rfl)]
  rw [st_fill (m := 4) (RI' := [(9, 3, 48), (9, 2, 48), (9, 1, 48), (9, 0, 48), (8, 3, 100), (8, 2, 100), (8, 1, 100), (8, 0, 100), (7, 3, -1)]) (by rfl) (by decide) (by rfl)]
  dsimp only [Option.bind_some]
  rw [st_gr (b := 10) (by rfl) (by rfl) (by rfl)]
  rw [st_fill (m := 12) (RI' := [(10, 11, -1), (10, 10, -1), (10, 9, -1), (10, 8, -1), (10, 7, -1), (10, 6, -1), (10, 5, -1), (10, 4, -1), (10, 3, -1), (10, 2, -1), (10, 1, -1), (10, 0, -1), (9, 3, 48), (9, 2, 48), (9, 1, 48), (9, 0, 48), (8, 3, 100), (8, 2, 100), (8, 1, 100), (8, 0, 100), (7, 3, -1)]) (by rfl) (by decide) (by rfl)]
  dsimp only [Option.bind_some]
  try rfl

set_option maxHeartbeats 4000000 in
set_option maxRecDepth 100000 in
theorem i_X6_11 : fX6_init 11 (hH 11 [(10, 11, -1), (10, 10, -1), (10, 9, -1), (10, 8, -1), (10, 7, -1), (10, 6, -1), (10, 5, -1), (10, 4, -1), (10, 3, -1), (10, 2, -1), (10, 1, -1), (10, 0, -1), (9, 3, 48), (9, 2, 48), (9, 1, 48), (9, 0, 48), (8, 3, 100), (8, 2, 100), (8, 1, 100), (8, 0, 100), (7, 3, -1)] [(1, 7, 7), (7, 2, 10), (7, 1, 9), (7, 0, 8), (1, 6, 5), (5, 0, 6), (1, 2, 4), (1, 1, 3), (1, 0, 2)] 152) = some (hH 14 [(14, 11, -1), (14, 10, -1), (14, 9, -1), (14, 8, -1), (14, 7, -1), (14, 6, -1), (14, 5, -1), (14, 4, -1), (14, 3, -1), (14, 2, -1), (14, 1, -1), (14, 0, -1), (13, 3, 48), (13, 2, 48), (13, 1, 48), (13, 0, 48), (12, 3, 100), (12, 2, 100), (12, 1, 100), (12, 0, 100), (11, 3, -1), (10, 11, -1), (10, 10, -1), (10, 9, -1), (10, 8, -1), (10, 7, -1), (10, 6, -1), (10, 5, -1), (10, 4, -1), (10, 3, -1), (10, 2, -1), (10, 1, -1), (10, 0, -1), (9, 3, 48), (9, 2, 48), (9, 1, 48), (9, 0, 48), (8, 3, 100), (8, 2, 100), (8, 1, 100), (8, 0, 100), (7, 3, -1)] [(11, 2, 14), (11, 1, 13), (11, 0, 12), (1, 7, 7), (7, 2, 10), (7, 1, 9), (7, 0, 8), (1, 6, 5), (5, 0, 6), (1, 2, 4), (1, 1, 3), (1, 0, 2)] 172) := by
  unfold fX6_init
  rw [st_na (k' := 12) (n' := 156) (m := 4) (by rfl) (by rfl) (by rfl) (by decide) (by rfl) (by rfl) (by rfl) (by rfl)]
  rw [st_na (k' := 13) (n' := 160) (m := 4) (by rfl) (by rfl) (by rfl) (by decide) (by rfl) (by rfl) (by rfl) (by rfl)]
  rw [st_na (k' := 14) (n' := 172) (m := 12) (by rfl) (by rfl) (by rfl) (by decide) (by rfl) (by rfl) (by rfl) (by rfl)]
  rw [st_pi (by rfl) (by rfl)]
  rw [st_gr (b := 12) (by rfl) (by rfl) (by rfl)]
  rw [st_fill (m := 4) (RI' := [(12, 3, 100), (12, 2, 100), (12, 1, 100), (12, 0, 100), (11, 3, -1), (10, 11, -1), (10, 10, -1), (10, 9, -1), (10, 8, -1), (10, 7, -1), (10, 6, -1), (10, 5, -1), (10, 4, -1), (10, 3, -1), (10, 2, -1), (10, 1, -1), (10, 0, -1), (9, 3, 48), (9, 2, 48), (9, 1, 48), (9, 0, 48), (8, 3, 100), (8, 2, 100), (8, 1, 100), (8, 0, 100), (7, 3, -1)]) (by rfl) (by decide) (by rfl)]
  dsimp only [Option.bind_some]
  rw [st_gr (b := 13) (by rfl) (by rfl) (by rfl)]
  rw [st_fill (m := 4) (RI' := [(13, 3, 48), (13, 2, 48), (13, 1, 48), (13, 0, 48), (12, 3, 100), (12, 2, 100), (12, 1, 100), (12, 0, 100), (11, 3, -1), (10, 11, -1), (10, 10, -1), (10, 9, -1), (10, 8, -1), (10, 7, -1), (10, 6, -1), (10, 5, -1), (10, 4, -1), (10, 3, -1), (10, 2, -1), (10, 1, -1), (10, 0, -1), (9, 3, 48), (9, 2, 48), (9, 1, 48), (9, 0, 48), (8, 3, 100), (8, 2, 100), (8, 1, 100), (8, 0, 100), (7, 3, -1)]) (by rfl) (by decide) (by rfl)]
  dsimp only [Option.bind_some]
  rw [st_gr (b := 14) (by rfl) (by rfl) (by rfl)]
  rw [st_fill (m := 12) (RI' := [(14, 11, -1), (14, 10, -1), (14, 9, -1), (14, 8, -1), (14, 7, -1), (14, 6, -1), (14, 5, -1), (14, 4, -1), (14, 3, -1), (14, 2, -1), (14, 1, -1), (14, 0, -1), (13, 3, 48), (13, 2, 48), (13, 1, 48), (13, 0, 48), (12, 3, 100), (12, 2, 100), (12, 1, 100), (12, 0, 100), (11, 3, -1), (10, 11, -1), (10, 10, -1), (10, 9, -1), (10, 8, -1), (10, 7, -1), (10, 6, -1), (10, 5, -1), (10, 4, -1), (10, 3, -1), (10, 2, -1), (10, 1, -1), (10, 0, -1), (9, 3, 48), (9, 2, 48), (9, 1, 48), (9, 0, 48), (8, 3, 100), (8, 2, 100), (8, 1, 100), (8, 0, 100), (7, 3, -1)]) (by rfl) (by decide) (by rfl)]
  dsimp only [Option.bind_some]
  try rfl

set_option maxHeartbeats 4000000 in
set_option maxRecDepth 100000 in
theorem i_X0_15 : fX0_init 15 (hH 15 [(14, 11, -1), (14, 10, -1), (14, 9, -1), (14, 8, -1), (14, 7, -1), (14, 6, -1), (14, 5, -1), (14, 4, -1), (14, 3, -1), (14, 2, -1), (14, 1, -1), (14, 0, -1), (13, 3, 48), (13, 2, 48), (13, 1, 48), (13, 0, 48), (12, 3, 100), (12, 2, 100), (12, 1, 100), (12, 0, 100), (11, 3, -1), (10, 11, -1), (10, 10, -1), (10, 9, -1), (10, 8, -1), (10, 7, -1), (10, 6, -1), (10, 5, -1), (10, 4, -1), (10, 3, -1), (10, 2, -1), (10, 1, -1), (10, 0, -1), (9, 3, 48), (9, 2, 48), (9, 1, 48), (9, 0, 48), (8, 3, 100), (8, 2, 100), (8, 1, 100), (8, 0, 100), (7, 3, -1)] [(1, 8, 11), (11, 2, 14), (11, 1, 13), (11, 0, 12), (1, 7, 7), (7, 2, 10), (7, 1, 9), (7, 0, 8), (1, 6, 5), (5, 0, 6), (1, 2, 4), (1, 1, 3), (1, 0, 2)] 182) = some (hH 20 [(14, 11, -1), (14, 10, -1), (14, 9, -1), (14, 8, -1), (14, 7, -1), (14, 6, -1), (14, 5, -1), (14, 4, -1), (14, 3, -1), (14, 2, -1), (14, 1, -1), (14, 0, -1), (13, 3, 48), (13, 2, 48), (13, 1, 48), (13, 0, 48), (12, 3, 100), (12, 2, 100), (12, 1, 100), (12, 0, 100), (11, 3, -1), (10, 11, -1), (10, 10, -1), (10, 9, -1), (10, 8, -1), (10, 7, -1), (10, 6, -1), (10, 5, -1), (10, 4, -1), (10, 3, -1), (10, 2, -1), (10, 1, -1), (10, 0, -1), (9, 3, 48), (9, 2, 48), (9, 1, 48), (9, 0, 48), (8, 3, 100), (8, 2, 100), (8, 1, 100), (8, 0, 100), (7, 3, -1)] [(15, 9, 20), (15, 4, 19), (15, 3, 18), (15, 2, 17), (15, 1, 16), (1, 8, 11), (11, 2, 14), (11, 1, 13), (11, 0, 12), (1, 7, 7), (7, 2, 10), (7, 1, 9), (7, 0, 8), (1, 6, 5), (5, 0, 6), (1, 2, 4), (1, 1, 3), (1, 0, 2)] 206) := by
  unfold fX0_init
  rw [st_na (k' := 16) (n' := 185) (m := 3) (by rfl) (by rfl) (by rfl) (by decide) (by rfl) (by rfl) (by rfl) (by rfl)]
  rw [st_na (k' := 17) (n' := 188) (m := 3) (by rfl) (by rfl) (by rfl) (by decide) (by rfl) (by rfl) (by rfl) (by rfl)]
  rw [st_na (k' := 18) (n' := 191) (m := 3) (by rfl) (by rfl) (by rfl) (by decide) (by rfl) (by rfl) (by rfl) (by rfl)]
  rw [st_na (k' := 19) (n' := 194) (m := 3) (by rfl) (by rfl) (by rfl) (by decide) (by rfl) (by rfl) (by rfl) (by rfl)]
  rw [st_na (k' := 20) (n' := 206) (m := 12) (by rfl) (by rfl) (by rfl) (by decide) (by rfl) (by rfl) (by rfl) (by rfl)]
  try rfl

set_option maxHeartbeats 4000000 in
set_option maxRecDepth 100000 in
theorem i_X2_21 : fX2_init 21 (hH 21 [(14, 11, -1), (14, 10, -1), (14, 9, -1), (14, 8, -1), (14, 7, -1), (14, 6, -1), (14, 5, -1), (14, 4, -1), (14, 3, -1), (14, 2, -1), (14, 1, -1), (14, 0, -1), (13, 3, 48), (13, 2, 48), (13, 1, 48), (13, 0, 48), (12, 3, 100), (12, 2, 100), (12, 1, 100), (12, 0, 100), (11, 3, -1), (10, 11, -1), (10, 10, -1), (10, 9, -1), (10, 8, -1), (10, 7, -1), (10, 6, -1), (10, 5, -1), (10, 4, -1), (10, 3, -1), (10, 2, -1), (10, 1, -1), (10, 0, -1), (9, 3, 48), (9, 2, 48), (9, 1, 48), (9, 0, 48), (8, 3, 100), (8, 2, 100), (8, 1, 100), (8, 0, 100), (7, 3, -1)] [(1, 11, 15), (15, 9, 20), (15, 4, 19), (15, 3, 18), (15, 2, 17), (15, 1, 16), (1, 8, 11), (11, 2, 14), (11, 1, 13), (11, 0, 12), (1, 7, 7), (7, 2, 10), (7, 1, 9), (7, 0, 8), (1, 6, 5), (5, 0, 6), (1, 2, 4), (1, 1, 3), (1, 0, 2)] 210) = some (hH 21 [(21, 0, 0), (14, 11, -1), (14, 10, -1), (14, 9, -1), (14, 8, -1), (14, 7, -1), (14, 6, -1), (14, 5, -1), (14, 4, -1), (14, 3, -1), (14, 2, -1), (14, 1, -1), (14, 0, -1), (13, 3, 48), (13, 2, 48), (13, 1, 48), (13, 0, 48), (12, 3, 100), (12, 2, 100), (12, 1, 100), (12, 0, 100), (11, 3, -1), (10, 11, -1), (10, 10, -1), (10, 9, -1), (10, 8, -1), (10, 7, -1), (10, 6, -1), (10, 5, -1), (10, 4, -1), (10, 3, -1), (10, 2, -1), (10, 1, -1), (10, 0, -1), (9, 3, 48), (9, 2, 48), (9, 1, 48), (9, 0, 48), (8, 3, 100), (8, 2, 100), (8, 1, 100), (8, 0, 100), (7, 3, -1)] [(1, 11, 15), (15, 9, 20), (15, 4, 19), (15, 3, 18), (15, 2, 17), (15, 1, 16), (1, 8, 11), (11, 2, 14), (11, 1, 13), (11, 0, 12), (1, 7, 7), (7, 2, 10), (7, 1, 9), (7, 0, 8), (1, 6, 5), (5, 0, 6), (1, 2, 4), (1, 1, 3), (1, 0, 2)] 210) := by
  unfold fX2_init
  rw [st_pi (by rfl) (by rfl)]
  try rfl

set_option maxHeartbeats 4000000 in
set_option maxRecDepth 100000 in
theorem i_X2_22 : fX2_init 22 (hH 22 [(21, 0, 0), (14, 11, -1), (14, 10, -1), (14, 9, -1), (14, 8, -1), (14, 7, -1), (14, 6, -1), (14, 5, -1), (14, 4, -1), (14, 3, -1), (14, 2, -1), (14, 1, -1), (14, 0, -1), (13, 3, 48), (13, 2, 48), (13, 1, 48), (13, 0, 48), (12, 3, 100), (12, 2, 100), (12, 1, 100), (12, 0, 100), (11, 3, -1), (10, 11, -1), (10, 10, -1), (10, 9, -1), (10, 8, -1), (10, 7, -1), (10, 6, -1), (10, 5, -1), (10, 4, -1), (10, 3, -1), (10, 2, -1), (10, 1, -1), (10, 0, -1), (9, 3, 48), (9, 2, 48), (9, 1, 48), (9, 0, 48), (8, 3, 100), (8, 2, 100), (8, 1, 100), (8, 0, 100), (7, 3, -1)] [(1, 12, 21), (1, 11, 15), (15, 9, 20), (15, 4, 19), (15, 3, 18), (15, 2, 17), (15, 1, 16), (1, 8, 11), (11, 2, 14), (11, 1, 13), (11, 0, 12), (1, 7, 7), (7, 2, 10), (7, 1, 9), (7, 0, 8), (1, 6, 5), (5, 0, 6), (1, 2, 4), (1, 1, 3), (1, 0, 2)] 214) = some (hH 22 [(22, 0, 0), (21, 0, 0), (14, 11, -1), (14, 10, -1), (14, 9, -1), (14, 8, -1), (14, 7, -1), (14, 6, -1), (14, 5, -1), (14, 4, -1), (14, 3, -1), (14, 2, -1), (14, 1, -1), (14, 0, -1), (13, 3, 48), (13, 2, 48), (13, 1, 48), (13, 0, 48), (12, 3, 100), (12, 2, 100), (12, 1, 100), (12, 0, 100), (11, 3, -1), (10, 11, -1), (10, 10, -1), (10, 9, -1), (10, 8, -1), (10, 7, -1), (10, 6, -1), (10, 5, -1), (10, 4, -1), (10, 3, -1), (10, 2, -1), (10, 1, -1), (10, 0, -1), (9, 3, 48), (9, 2, 48), (9, 1, 48), (9, 0, 48), (8, 3, 100), (8, 2, 100), (8, 1, 100), (8, 0, 100), (7, 3, -1)] [(1, 12, 21), (1, 11, 15), (15, 9, 20), (15, 4, 19), (15, 3, 18), (15, 2, 17), (15, 1, 16), (1, 8, 11), (11, 2, 14), (11, 1, 13), (11, 0, 12), (1, 7, 7), (7, 2, 10), (7, 1, 9), (7, 0, 8), (1, 6, 5), (5, 0, 6), (1, 2, 4), (1, 1, 3), (1, 0, 2)] 214) := by
  unfold fX2_init
  rw [st_pi (by rfl) (by rfl)]
  try rfl

set_option maxHeartbeats 4000000 in
set_option maxRecDepth 100000 in
theorem i_X5_23 : fX5_init 23 (some 15) (some 21) (hH 23 [(22, 0, 0), (21, 0, 0), (14, 11, -1), (14, 10, -1), (14, 9, -1), (14, 8, -1), (14, 7, -1), (14, 6, -1), (14, 5, -1), (14, 4, -1), (14, 3, -1), (14, 2, -1), (14, 1, -1), (14, 0, -1), (13, 3, 48), (13, 2, 48), (13, 1, 48), (13, 0, 48), (12, 3, 100), (12, 2, 100), (12, 1, 100), (12, 0, 100), (11, 3, -1), (10, 11, -1), (10, 10, -1), (10, 9, -1), (10, 8, -1), (10, 7, -1), (10, 6, -1), (10, 5, -1), (10, 4, -1), (10, 3, -1), (10, 2, -1), (10, 1, -1), (10, 0, -1), (9, 3, 48), (9, 2, 48), (9, 1, 48), (9, 0, 48), (8, 3, 100), (8, 2, 100), (8, 1, 100), (8, 0, 100), (7, 3, -1)] [(1, 13, 22), (1, 12, 21), (1, 11, 15), (15, 9, 20), (15, 4, 19), (15, 3, 18), (15, 2, 17), (15, 1, 16), (1, 8, 11), (11, 2, 14), (11, 1, 13), (11, 0, 12), (1, 7, 7), (7, 2, 10), (7, 1, 9), (7, 0, 8), (1, 6, 5), (5, 0, 6), (1, 2, 4), (1, 1, 3), (1, 0, 2)] 228) = some (hH 25 [(22, 0, 0), (21, 0, 0), (14, 11, -1), (14, 10, -1), (14, 9, -1), (14, 8, -1), (14, 7, -1), (14, 6, -1), (14, 5, -1), (14, 4, -1), (14, 3, -1), (14, 2, -1), (14, 1, -1), (14, 0, -1), (13, 3, 48), (13, 2, 48), (13, 1, 48), (13, 0, 48), (12, 3, 100), (12, 2, 100), (12, 1, 100), (12, 0, 100), (11, 3, -1), (10, 11, -1), (10, 10, -1), (10, 9, -1), (10, 8, -1), (10, 7, -1), (10, 6, -1), (10, 5, -1), (10, 4, -1), (10, 3, -1), (10, 2, -1), (10, 1, -1), (10, 0, -1), (9, 3, 48), (9, 2, 48), (9, 1, 48), (9, 0, 48), (8, 3, 100), (8, 2, 100), (8, 1, 100), (8, 0, 100), (7, 3, -1)] [(23, 1, 21), (23, 0, 15), (23, 11, 25), (23, 4, 24), (1, 13, 22), (1, 12, 21), (1, 11, 15), (15, 9, 20), (15, 4, 19), (15, 3, 18), (15, 2, 17), (15, 1, 16), (1, 8, 11), (11, 2, 14), (11, 1, 13), (11, 0, 12), (1, 7, 7), (7, 2, 10), (7, 1, 9), (7, 0, 8), (1, 6, 5), (5, 0, 6), (1, 2, 4), (1, 1, 3), (1, 0, 2)] 243) := by
  unfold fX5_init
  rw [st_na (k' := 24) (n' := 231) (m := 3) (by rfl) (by rfl) (by rfl) (by decide) (by rfl) (by rfl) (by rfl) (by rfl)]
  rw [st_na (k' := 25) (n' := 243) (m := 12) (by rfl) (by rfl) (by rfl) (by decide) (by rfl) (by rfl) (by rfl) (by rfl)]
  rw [st_pr (by rfl) (by rfl)]
  rw [st_pr (by rfl) (by rfl)]
  try rfl

set_option maxHeartbeats 4000000 in
set_option maxRecDepth 100000 in
theorem i_X5_26 : fX5_init 26 (some 15) (some 21) (hH 26 [(22, 0, 0), (21, 0, 0), (14, 11, -1), (14, 10, -1), (14, 9, -1), (14, 8, -1), (14, 7, -1), (14, 6, -1), (14, 5, -1), (14, 4, -1), (14, 3, -1), (14, 2, -1), (14, 1, -1), (14, 0, -1), (13, 3, 48), (13, 2, 48), (13, 1, 48), (13, 0, 48), (12, 3, 100), (12, 2, 100), (12, 1, 100), (12, 0, 100), (11, 3, -1), (10, 11, -1), (10, 10, -1), (10, 9, -1), (10, 8, -1), (10, 7, -1), (10, 6, -1), (10, 5, -1), (10, 4, -1), (10, 3, -1), (10, 2, -1), (10, 1, -1), (10, 0, -1), (9, 3, 48), (9, 2, 48), (9, 1, 48), (9, 0, 48), (8, 3, 100), (8, 2, 100), (8, 1, 100), (8, 0, 100), (7, 3, -1)] [(1, 14, 23), (23, 1, 21), (23, 0, 15), (23, 11, 25), (23, 4, 24), (1, 13, 22), (1, 12, 21), (1, 11, 15), (15, 9, 20), (15, 4, 19), (15, 3, 18), (15, 2, 17), (15, 1, 16), (1, 8, 11), (11, 2, 14), (11, 1, 13), (11, 0, 12), (1, 7, 7), (7, 2, 10), (7, 1, 9), (7, 0, 8), (1, 6, 5), (5, 0, 6), (1, 2, 4), (1, 1, 3), (1, 0, 2)] 257) = some (hH 28 [(22, 0, 0), (21, 0, 0), (14, 11, -1), (14, 10, -1), (14, 9, -1), (14, 8, -1), (14, 7, -1), (14, 6, -1), (14, 5, -1), (14, 4, -1), (14, 3, -1), (14, 2, -1), (14, 1, -1), (14, 0, -1), (13, 3, 48), (13, 2, 48), (13, 1, 48), (13, 0, 48), (12, 3, 100), (12, 2, 100), (12, 1, 100), (12, 0, 100), (11, 3, -1), (10, 11, -1), (10, 10, -1), (10, 9, -1), (10, 8, -1), (10, 7, -1), (10, 6, -1), (10, 5, -1), (10, 4, -1), (10, 3, -1), (10, 2, -1), (10, 1, -1), (10, 0, -1), (9, 3, 48), (9, 2, 48), (9, 1, 48), (9, 0, 48), (8, 3, 100), (8, 2, 100), (8, 1, 100), (8, 0, 100), (7, 3, -1)] [(26, 1, 21), (26, 0, 15), (26, 11, 28), (26, 4, 27), (1, 14, 23), (23, 1, 21), (23, 0, 15), (23, 11, 25), (23, 4, 24), (1, 13, 22), (1, 12, 21), (1, 11, 15), (15, 9, 20), (15, 4, 19), (15, 3, 18), (15, 2, 17), (15, 1, 16), (1, 8, 11), (11, 2, 14), (11, 1, 13), (11, 0, 12), (1, 7, 7), (7, 2, 10), (7, 1, 9), (7, 0, 8), (1, 6, 5), (5, 0, 6), (1, 2, 4), (1, 1, 3), (1, 0, 2)] 272) := by
  unfold fX5_init
  rw [st_na (k' := 27) (n' := 260) (m := 3) (by rfl) (by rfl) (by rfl) (by decide) (by rfl) (by rfl) (by rfl) (by rfl)]
  rw [st_na (k' := 28) (n' := 272) (m := 12) (by rfl) (by rfl) (by rfl) (by decide) (by rfl) (by rfl) (by rfl) (by rfl)]
  rw [st_pr (by rfl) (by rfl)]
  rw [st_pr (by rfl) (by rfl)]
  try rfl

set_option maxHeartbeats 4000000 in
set_option maxRecDepth 100000 in
theorem i_X4_29 : fX4_init 29 (hH 29 [(22, 0, 0), (21, 0, 0), (14, 11, -1), (14, 10, -1), (14, 9, -1), (14, 8, -1), (14, 7, -1), (14, 6, -1), (14, 5, -1), (14, 4, -1), (14, 3, -1), (14, 2, -1), (14, 1, -1), (14, 0, -1), (13, 3, 48), (13, 2, 48), (13, 1, 48), (13, 0, 48), (12, 3, 100), (12, 2, 100), (12, 1, 100), (12, 0, 100), (11, 3, -1), (10, 11, -1), (10, 10, -1), (10, 9, -1), (10, 8, -1), (10, 7, -1), (10, 6, -1), (10, 5, -1), (10, 4, -1), (10, 3, -1), (10, 2, -1), (10, 1, -1), (10, 0, -1), (9, 3, 48), (9, 2, 48), (9, 1, 48), (9, 0, 48), (8, 3, 100), (8, 2, 100), (8, 1, 100), (8, 0, 100), (7, 3, -1)] [(1, 15, 26), (26, 1, 21), (26, 0, 15), (26, 11, 28), (26, 4, 27), (1, 14, 23), (23, 1, 21), (23, 0, 15), (23, 11, 25), (23, 4, 24), (1, 13, 22), (1, 12, 21), (1, 11, 15), (15, 9, 20), (15, 4, 19), (15, 3, 18), (15, 2, 17), (15, 1, 16), (1, 8, 11), (11, 2, 14), (11, 1, 13), (11, 0, 12), (1, 7, 7), (7, 2, 10), (7, 1, 9), (7, 0, 8), (1, 6, 5), (5, 0, 6), (1, 2, 4), (1, 1, 3), (1, 0, 2)] 284) = some (hH 35 [(22, 0, 0), (21, 0, 0), (14, 11, -1), (14, 10, -1), (14, 9, -1), (14, 8, -1), (14, 7, -1), (14, 6, -1), (14, 5, -1), (14, 4, -1), (14, 3, -1), (14, 2, -1), (14, 1, -1), (14, 0, -1), (13, 3, 48), (13, 2, 48), (13, 1, 48), (13, 0, 48), (12, 3, 100), (12, 2, 100), (12, 1, 100), (12, 0, 100), (11, 3, -1), (10, 11, -1), (10, 10, -1), (10, 9, -1), (10, 8, -1), (10, 7, -1), (10, 6, -1), (10, 5, -1), (10, 4, -1), (10, 3, -1), (10, 2, -1), (10, 1, -1), (10, 0, -1), (9, 3, 48), (9, 2, 48), (9, 1, 48), (9, 0, 48), (8, 3, 100), (8, 2, 100), (8, 1, 100), (8, 0, 100), (7, 3, -1)] [(29, 6, 35), (29, 4, 34), (29, 3, 33), (29, 2, 32), (29, 1, 31), (29, 0, 30), (1, 15, 26), (26, 1, 21), (26, 0, 15), (26, 11, 28), (26, 4, 27), (1, 14, 23), (23, 1, 21), (23, 0, 15), (23, 11, 25), (23, 4, 24), (1, 13, 22), (1, 12, 21), (1, 11, 15), (15, 9, 20), (15, 4, 19), (15, 3, 18), (15, 2, 17), (15, 1, 16), (1, 8, 11), (11, 2, 14), (11, 1, 13), (11, 0, 12), (1, 7, 7), (7, 2, 10), (7, 1, 9), (7, 0, 8), (1, 6, 5), (5, 0, 6), (1, 2, 4), (1, 1, 3), (1, 0, 2)] 568) := by
  unfold fX4_init
  rw [st_na (k' := 30) (n' := 294) (m := 10) (by rfl) (by rfl) (by rfl) (by decide) (by rfl) (by rfl) (by rfl) (by rfl)]
  rw [st_na (k' := 31) (n' := 304) (m := 10) (by rfl) (by rfl) (by rfl) (by decide) (by rfl) (by rfl) (by rfl) (by rfl)]
  rw [st_na (k' := 32) (n' := 308) (m := 4) (by rfl) (by rfl) (by rfl) (by decide) (by rfl) (by rfl) (by rfl) (by rfl)]
  rw [st_nq (k' := 33) (n' := 428) (m := 120) (by rfl) (by rfl) (by rfl) (by decide) (by rfl) (by rfl) (by rfl) (by rfl) (by rfl)]
  rw [st_na (k' := 34) (n' := 548) (m := 120) (by rfl) (by rfl) (by rfl) (by decide) (by rfl) (by rfl) (by rfl) (by rfl)]
  rw [st_na (k' := 35) (n' := 568) (m := 20) (by rfl) (by rfl) (by rfl) (by decide) (by rfl) (by rfl) (by rfl) (by rfl)]
  try rfl

set_option maxHeartbeats 4000000 in
set_option maxRecDepth 100000 in
theorem i_X1_36 : fX1_init 36 (hH 36 [(22, 0, 0), (21, 0, 0), (14, 11, -1), (14, 10, -1), (14, 9, -1), (14, 8, -1), (14, 7, -1), (14, 6, -1), (14, 5, -1), (14, 4, -1), (14, 3, -1), (14, 2, -1), (14, 1, -1), (14, 0, -1), (13, 3, 48), (13, 2, 48), (13, 1, 48), (13, 0, 48), (12, 3, 100), (12, 2, 100), (12, 1, 100), (12, 0, 100), (11, 3, -1), (10, 11, -1), (10, 10, -1), (10, 9, -1), (10, 8, -1), (10, 7, -1), (10, 6, -1), (10, 5, -1), (10, 4, -1), (10, 3, -1), (10, 2, -1), (10, 1, -1), (10, 0, -1), (9, 3, 48), (9, 2, 48), (9, 1, 48), (9, 0, 48), (8, 3, 100), (8, 2, 100), (8, 1, 100), (8, 0, 100), (7, 3, -1)] [(1, 16, 29), (29, 6, 35), (29, 4, 34), (29, 3, 33), (29, 2, 32), (29, 1, 31), (29, 0, 30), (1, 15, 26), (26, 1, 21), (26, 0, 15), (26, 11, 28), (26, 4, 27), (1, 14, 23), (23, 1, 21), (23, 0, 15), (23, 11, 25), (23, 4, 24), (1, 13, 22), (1, 12, 21), (1, 11, 15), (15, 9, 20), (15, 4, 19), (15, 3, 18), (15, 2, 17), (15, 1, 16), (1, 8, 11), (11, 2, 14), (11, 1, 13), (11, 0, 12), (1, 7, 7), (7, 2, 10), (7, 1, 9), (7, 0, 8), (1, 6, 5), (5, 0, 6), (1, 2, 4), (1, 1, 3), (1, 0, 2)] 572) = some (hH 38 [(22, 0, 0), (21, 0, 0), (14, 11, -1), (14, 10, -1), (14, 9, -1), (14, 8, -1), (14, 7, -1), (14, 6, -1), (14, 5, -1), (14, 4, -1), (14, 3, -1), (14, 2, -1), (14, 1, -1), (14, 0, -1), (13, 3, 48), (13, 2, 48), (13, 1, 48), (13, 0, 48), (12, 3, 100), (12, 2, 100), (12, 1, 100), (12, 0, 100), (11, 3, -1), (10, 11, -1), (10, 10, -1), (10, 9, -1), (10, 8, -1), (10, 7, -1), (10, 6, -1), (10, 5, -1), (10, 4, -1), (10, 3, -1), (10, 2, -1), (10, 1, -1), (10, 0, -1), (9, 3, 48), (9, 2, 48), (9, 1, 48), (9, 0, 48), (8, 3, 100), (8, 2, 100), (8, 1, 100), (8, 0, 100), (7, 3, -1)] [(36, 1, 38), (36, 0, 37), (1, 16, 29), (29, 6, 35), (29, 4, 34), (29, 3, 33), (29, 2, 32), (29, 1, 31), (29, 0, 30), (1, 15, 26), (26, 1, 21), (26, 0, 15), (26, 11, 28), (26, 4, 27), (1, 14, 23), (23, 1, 21), (23, 0, 15), (23, 11, 25), (23, 4, 24), (1, 13, 22), (1, 12, 21), (1, 11, 15), (15, 9, 20), (15, 4, 19), (15, 3, 18), (15, 2, 17), (15, 1, 16), (1, 8, 11), (11, 2, 14), (11, 1, 13), (11, 0, 12), (1, 7, 7), (7, 2, 10), (7, 1, 9), (7, 0, 8), (1, 6, 5), (5, 0, 6), (1, 2, 4), (1, 1, 3), (1, 0, 2)] 764) := by
  unfold fX1_init
  rw [st_na (k' := 37) (n' := 668) (m := 96) (by rfl) (by rfl) (by rfl) (by decide) (by rfl) (by rfl) (by rfl) (by rfl)]
  rw [st_na (k' := 38) (n' := 764) (m := 96) (by rfl) (by rfl) (by rfl) (by decide) (by rfl) (by rfl) (by rfl) (by rfl)]
  try rfl

set_option maxHeartbeats 4000000 in
set_option maxRecDepth 100000 in
theorem i_X8_1 : fX8_init 1 (hH 1 [] [] 19) = some (hH 39 [(22, 0, 0), (21, 0, 0), (14, 11, -1), (14, 10, -1), (14, 9, -1), (14, 8, -1), (14, 7, -1), (14, 6, -1), (14, 5, -1), (14, 4, -1), (14, 3, -1), (14, 2, -1), (14, 1, -1), (14, 0, -1), (13, 3, 48), (13, 2, 48), (13, 1, 48), (13, 0, 48), (12, 3, 100), (12, 2, 100), (12, 1, 100), (12, 0, 100), (11, 3, -1), (10, 11, -1), (10, 10, -1), (10, 9, -1), (10, 8, -1), (10, 7, -1), (10, 6, -1), (10, 5, -1), (10, 4, -1), (10, 3, -1), (10, 2, -1), (10, 1, -1), (10, 0, -1), (9, 3, 48), (9, 2, 48), (9, 1, 48), (9, 0, 48), (8, 3, 100), (8, 2, 100), (8, 1, 100), (8, 0, 100), (7, 3, -1)] [(1, 18, 39), (1, 17, 36), (36, 1, 38), (36, 0, 37), (1, 16, 29), (29, 6, 35), (29, 4, 34), (29, 3, 33), (29, 2, 32), (29, 1, 31), (29, 0, 30), (1, 15, 26), (26, 1, 21), (26, 0, 15), (26, 11, 28), (26, 4, 27), (1, 14, 23), (23, 1, 21), (23, 0, 15), (23, 11, 25), (23, 4, 24), (1, 13, 22), (1, 12, 21), (1, 11, 15), (15, 9, 20), (15, 4, 19), (15, 3, 18), (15, 2, 17), (15, 1, 16), (1, 8, 11), (11, 2, 14), (11, 1, 13), (11, 0, 12), (1, 7, 7), (7, 2, 10), (7, 1, 9), (7, 0, 8), (1, 6, 5), (5, 0, 6), (1, 2, 4), (1, 1, 3), (1, 0, 2)] 767) := by
  unfold fX8_init
  rw [st_nq (k' := 2) (n' := 23) (m := 4) (by rfl) (by rfl) (by rfl) (by decide) (by rfl) (by rfl) (by rfl) (by rfl) (by rfl)]
  rw [st_nq (k' := 3) (n' := 31) (m := 8) (by rfl) (by rfl) (by rfl) (by decide) (by rfl) (by rfl) (by rfl) (by rfl) (by rfl)]
  rw [st_nq (k' := 4) (n' := 41) (m := 10) (by rfl) (by rfl) (by rfl) (by decide) (by rfl) (by rfl) (by rfl) (by rfl) (by rfl)]
  rw [st_nw3 (k' := 5) (n' := 44) (by rfl) (by rfl) (by rfl) (by rfl) (by rfl)]
  dsimp only
  rw [i_X3_5]
  dsimp only [Option.bind_some]
  rw [st_pr (by rfl) (by rfl)]
  rw [st_nw6 (k' := 7) (n' := 128) (by rfl) (by rfl) (by rfl) (by rfl) (by rfl)]
  dsimp only
  rw [i_X6_7]
  dsimp only [Option.bind_some]
  rw [st_pr (by rfl) (by rfl)]
  rw [st_nw6 (k' := 11) (n' := 152) (by rfl) (by rfl) (by rfl) (by rfl) (by rfl)]
  dsimp only
  rw [i_X6_11]
  dsimp only [Option.bind_some]
  rw [st_pr (by rfl) (by rfl)]
  rw [st_nw0 (k' := 15) (n' := 182) (by rfl) (by rfl) (by rfl) (by rfl) (by rfl)]
  dsimp only
  rw [i_X0_15]
  dsimp only [Option.bind_some]
  rw [st_pr (by rfl) (by rfl)]
  rw [st_nw2 (k' := 21) (n' := 210) (by rfl) (by rfl) (by rfl) (by rfl) (by rfl)]
  dsimp only
  rw [i_X2_21]
  dsimp only [Option.bind_some]
  rw [st_pr (by rfl) (by rfl)]
  rw [st_nw2 (k' := 22) (n' := 214) (by rfl) (by rfl) (by rfl) (by rfl) (by rfl)]
  dsimp only
  rw [i_X2_22]
  dsimp only [Option.bind_some]
  rw [st_pr (by rfl) (by rfl)]
  rw [st_nw5 (k' := 23) (n' := 228) (by rfl) (by rfl) (by rfl) (by rfl) (by rfl)]
  dsimp only
  rw [st_gr (b := 15) (by rfl) (by rfl) (by rfl)]
  rw [st_gr (b := 21) (by rfl) (by rfl) (by rfl)]
  rw [i_X5_23]
  dsimp only [Option.bind_some]
  rw [st_pr (by rfl) (by rfl)]
  rw [st_nw5 (k' := 26) (n' := 257) (by rfl) (by rfl) (by rfl) (by rfl) (by rfl)]
  dsimp only
  rw [st_gr (b := 15) (by rfl) (by rfl) (by rfl)]
  rw [st_gr (b := 21) (by rfl) (by rfl) (by rfl)]
  rw [i_X5_26]
  dsimp only [Option.bind_some]
  rw [st_pr (by rfl) (by rfl)]
  rw [st_nw4 (k' := 29) (n' := 284) (by rfl) (by rfl) (by rfl) (by rfl) (by rfl)]
  dsimp only
  rw [i_X4_29]
  dsimp only [Option.bind_some]
  rw [st_pr (by rfl) (by rfl)]
  rw [st_nw1 (k' := 36) (n' := 572) (by rfl) (by rfl) (by rfl) (by rfl) (by rfl)]
  dsimp only
  rw [i_X1_36]
  dsimp only [Option.bind_some]
  rw [st_pr (by rfl) (by rfl)]
  rw [st_na (k' := 39) (n' := 767) (m := 3) (by rfl) (by rfl) (by rfl) (by decide) (by rfl) (by rfl) (by rfl) (by rfl)]
  try rfl
def hA : am_H := (hH 1 [] [] 19)
def hB : am_H := (hH 39 [(22, 0, 0), (21, 0, 0), (14, 11, -1), (14, 10, -1), (14, 9, -1), (14, 8, -1), (14, 7, -1), (14, 6, -1), (14, 5, -1), (14, 4, -1), (14, 3, -1), (14, 2, -1), (14, 1, -1), (14, 0, -1), (13, 3, 48), (13, 2, 48), (13, 1, 48), (13, 0, 48), (12, 3, 100), (12, 2, 100), (12, 1, 100), (12, 0, 100), (11, 3, -1), (10, 11, -1), (10, 10, -1), (10, 9, -1), (10, 8, -1), (10, 7, -1), (10, 6, -1), (10, 5, -1), (10, 4, -1), (10, 3, -1), (10, 2, -1), (10, 1, -1), (10, 0, -1), (9, 3, 48), (9, 2, 48), (9, 1, 48), (9, 0, 48), (8, 3, 100), (8, 2, 100), (8, 1, 100), (8, 0, 100), (7, 3, -1)] [(1, 18, 39), (1, 17, 36), (36, 1, 38), (36, 0, 37), (1, 16, 29), (29, 6, 35), (29, 4, 34), (29, 3, 33), (29, 2, 32), (29, 1, 31), (29, 0, 30), (1, 15, 26), (26, 1, 21), (26, 0, 15), (26, 11, 28), (26, 4, 27), (1, 14, 23), (23, 1, 21), (23, 0, 15), (23, 11, 25), (23, 4, 24), (1, 13, 22), (1, 12, 21), (1, 11, 15), (15, 9, 20), (15, 4, 19), (15, 3, 18), (15, 2, 17), (15, 1, 16), (1, 8, 11), (11, 2, 14), (11, 1, 13), (11, 0, 12), (1, 7, 7), (7, 2, 10), (7, 1, 9), (7, 0, 8), (1, 6, 5), (5, 0, 6), (1, 2, 4), (1, 1, 3), (1, 0, 2)] 767)
