/-! the law's loop -/
def am_h0 : am_H := (fun _ => none, 0, 0)
theorem h0_e : am_h0 = hH 0 [] [] 0 := by
  refine Prod.ext (funext fun a => ?_) rfl
  show none = (shpk 0 a).map _
  have e : shpk 0 a = none := by
    unfold shpk
    by_cases h : a ≤ 0
    · obtain rfl : a = 0 := by omega
      rfl
    · rw [if_neg h]
  rw [e]; rfl
theorem sl_e {L : Nat} {xs : Nat → Int32} {i : Nat} (h : i < L) (hL : L ≤ 3072) : am_sl L xs (nI i) = some (xs i) := by
  unfold am_sl
  rw [nI_clamp (by omega), if_neg (fun q => ?_)]
  rcases q with q | q
  · exact nI_pos (by omega) q
  · omega
theorem lo_e {L i : Nat} (hL : L ≤ 3072) (hi : i ≤ 100000) : (Int32.ofNat L - (6 : Int32) < nI i) = ¬ i + 6 ≤ L := by
  show (nI L - nI 6 < nI i) = _
  by_cases h : 6 ≤ L
  · rw [pk_sub h, ni_lt (by omega) (by omega)]
    exact propext ⟨fun q => by omega, fun q => by omega⟩
  · have hz : nI L - nI 6 < 0 := by
      have : L = 0 ∨ L = 1 ∨ L = 2 ∨ L = 3 ∨ L = 4 ∨ L = 5 := by omega
      rcases this with rfl | rfl | rfl | rfl | rfl | rfl <;> decide
    exact propext ⟨fun q => by omega, fun _ => Int32.lt_of_lt_of_le hz (nI_pos' (by omega))⟩
section LO
variable {s : Nat → Option pu_S} {I : Nat → Nat → Int32} {P : Nat → Nat → Option Nat} {J : Nat → Nat → Int64} {n : Nat × Nat}
variable {Z : S_Z} {L i : Nat} {xs : Nat → Int32} {Q : Int32 × am_H → Prop} {rec : Option Nat → Option Nat → Int32 → am_H → Option (Int32 × am_H)}
/-- what the next turn takes -/
def NxT (Z : S_Z) (n : Nat × Nat) (i : Nat) (rec : Option Nat → Option Nat → Int32 → am_H → Option (Int32 × am_H)) (Q : Int32 × am_H → Prop) : Prop := ∀ s I P J n' Z', Z_B Z' → InvC s I P n' Z' → InvM s I P Z' → n'.1 ≤ n.1 + 6 → n'.2 ≤ n.2 + 60 → Rn (rec (some 1) (some 40) (nI (i + 6)) (pu_hp s I P J n')) Q
theorem op_ok {c : am_H → Option (Int32 × am_H)} {fm : Nat → am_H → Option (Int32 × am_H)} (hOK : CallOK Z c (fm 40)) (hC : InvC s I P n Z) (hM : InvM s I P Z) (kk : NxT Z n i rec Q) : Rn ((c (pu_hp s I P J n)).bind fun y5 => (am_rc y5.2 (some 40) 9).bind fun b10 => (fm b10 y5.2).bind fun y9 => if y5.1 = y9.1 then (fS_law_1443 rec) (some 1) (some 40) (nI i) y9.2 else am_zr (0 : Int32) y9.2) Q := by
  obtain ⟨a, Z', hZ', h1, h2⟩ := hOK
  refine Rn_bind (h1 s I P J n hC) fun y hy => ?_
  obtain ⟨s', I', P', n', rfl, hC', hM', hn1, hn2⟩ := hy.out hM
  rw [rc_b (hC'.1.1 40 _ rfl)]
  refine Rn_bind (h2 s' I' P' J n' hM') fun y hy => ?_
  obtain ⟨I2, J2, rfl, hC2, hM2⟩ := hy.out hC'
  dsimp only
  rw [if_pos rfl]
  unfold fS_law_1443
  rw [show nI i + (6 : Int32) = nI (i + 6) from nI_add i 6]
  exact kk s' I2 P' J2 n' Z' hZ' hC2 hM2 hn1 hn2
theorem cmp_0 (a : Int64) : lg_cmp a a = 0 := by
  unfold lg_cmp
  rw [if_neg (Int64.lt_irrefl), if_pos rfl]
theorem op_ok2 {c : am_H → Option (Int64 × am_H)} {fm : Nat → am_H → Option (Int64 × am_H)} (hOK : CallOK Z c (fm 40)) (hC : InvC s I P n Z) (hM : InvM s I P Z) (kk : NxT Z n i rec Q) : Rn ((c (pu_hp s I P J n)).bind fun y5 => (am_rc y5.2 (some 40) 9).bind fun b10 => (fm b10 y5.2).bind fun y9 => if (lg_cmp y5.1 y9.1) = 0 then (fS_law_1443 rec) (some 1) (some 40) (nI i) y9.2 else am_zr (0 : Int32) y9.2) Q := by
  obtain ⟨a, Z', hZ', h1, h2⟩ := hOK
  refine Rn_bind (h1 s I P J n hC) fun y hy => ?_
  obtain ⟨s', I', P', n', rfl, hC', hM', hn1, hn2⟩ := hy.out hM
  rw [rc_b (hC'.1.1 40 _ rfl)]
  refine Rn_bind (h2 s' I' P' J n' hM') fun y hy => ?_
  obtain ⟨I2, J2, rfl, hC2, hM2⟩ := hy.out hC'
  dsimp only
  rw [if_pos (cmp_0 a)]
  unfold fS_law_1443
  rw [show nI i + (6 : Int32) = nI (i + 6) from nI_add i 6]
  exact kk s' I2 P' J2 n' Z' hZ' hC2 hM2 hn1 hn2
set_option maxHeartbeats 4000000 in
set_option maxRecDepth 100000 in
theorem law_turn (hZ : Z_B Z) (hC : InvC s I P n Z) (hM : InvM s I P Z) (hL : L ≤ 3072) (hi : i + 6 ≤ L) (kk : NxT Z n i rec Q) : Rn (fS_law_18_b L xs rec (some 1) (some 40) (nI i) (pu_hp s I P J n)) Q := by
  have h11 := hC.1.1 1 _ rfl
  have s0 := sl_e (xs := xs) (show i < L by omega) hL
  have s1 : am_sl L xs (nI i + (1 : Int32)) = some (xs (i + 1)) := by rw [show nI i + (1 : Int32) = nI (i + 1) from nI_add i 1]; exact sl_e (by omega) hL
  have s2 : am_sl L xs (nI i + (2 : Int32)) = some (xs (i + 2)) := by rw [show nI i + (2 : Int32) = nI (i + 2) from nI_add i 2]; exact sl_e (by omega) hL
  have s3 : am_sl L xs (nI i + (3 : Int32)) = some (xs (i + 3)) := by rw [show nI i + (3 : Int32) = nI (i + 3) from nI_add i 3]; exact sl_e (by omega) hL
  have s4 : am_sl L xs (nI i + (4 : Int32)) = some (xs (i + 4)) := by rw [show nI i + (4 : Int32) = nI (i + 4) from nI_add i 4]; exact sl_e (by omega) hL
  have s5 : am_sl L xs (nI i + (5 : Int32)) = some (xs (i + 5)) := by rw [show nI i + (5 : Int32) = nI (i + 5) from nI_add i 5]; exact sl_e (by omega) hL
  unfold fS_law_18_b
  rw [if_neg (by rw [lo_e hL (by omega)]; exact fun q => q hi), s0, Option.bind_some]
  by_cases e0 : xs i &&& (31 : Int32) = (0 : Int32)
  · rw [if_pos e0]
    simp only [s1, s2, Option.bind_some]
    rw [rc_b h11]
    exact op_ok (c := fun h => fX8_letters 1 _ h) (fm := fun b h => fX9_letters b _ h) (d_letters hZ _) hC hM kk
  rw [if_neg e0]
  by_cases e1 : xs i &&& (31 : Int32) = (1 : Int32)
  · rw [if_pos e1]
    rw [rc_b h11]
    exact op_ok (c := fun h => fX8_blank 1  h) (fm := fun b h => fX9_blank b  h) (d_blank hZ) hC hM kk
  rw [if_neg e1]
  by_cases e2 : xs i &&& (31 : Int32) = (2 : Int32)
  · rw [if_pos e2]
    rw [rc_b h11]
    exact op_ok (c := fun h => fX8_fault 1  h) (fm := fun b h => fX9_fault b  h) (d_fault hZ) hC hM kk
  rw [if_neg e2]
  by_cases e3 : xs i &&& (31 : Int32) = (3 : Int32)
  · rw [if_pos e3]
    rw [rc_b h11]
    exact op_ok (c := fun h => fX8_clock 1  h) (fm := fun b h => fX9_clock b  h) (d_clock hZ) hC hM kk
  rw [if_neg e3]
  by_cases e4 : xs i &&& (31 : Int32) = (4 : Int32)
  · rw [if_pos e4]
    simp only [s1, s2, Option.bind_some]
    rw [rc_b h11]
    exact op_ok (c := fun h => fX8_told 1 (xs (i + 1)) (xs (i + 2)) h) (fm := fun b h => fX9_told b (xs (i + 1)) (xs (i + 2)) h) (d_told hZ _ _) hC hM kk
  rw [if_neg e4]
  by_cases e5 : xs i &&& (31 : Int32) = (5 : Int32)
  · rw [if_pos e5]
    simp only [s1, s2, s3, Option.bind_some]
    rw [rc_b h11]
    exact op_ok (c := fun h => fX8_season 1 (xs (i + 1)) (xs (i + 2)) (xs (i + 3)) h) (fm := fun b h => fX9_season b (xs (i + 1)) (xs (i + 2)) (xs (i + 3)) h) (d_season hZ _ _ _) hC hM kk
  rw [if_neg e5]
  by_cases e6 : xs i &&& (31 : Int32) = (6 : Int32)
  · rw [if_pos e6]
    simp only [s1, s2, s3, s4, Option.bind_some]
    rw [rc_b h11]
    exact op_ok (c := fun h => fX8_faulty 1 (xs (i + 1)) (xs (i + 2)) (xs (i + 3)) (xs (i + 4)) h) (fm := fun b h => fX9_faulty b (xs (i + 1)) (xs (i + 2)) (xs (i + 3)) (xs (i + 4)) h) (d_faulty hZ _ _ _ _) hC hM kk
  rw [if_neg e6]
  by_cases e7 : xs i &&& (31 : Int32) = (7 : Int32)
  · rw [if_pos e7]
    simp only [s1, s2, Option.bind_some]
    rw [rc_b h11]
    exact op_ok (c := fun h => fX8_as 1 (xs (i + 1)) (xs (i + 2)) h) (fm := fun b h => fX9_as b (xs (i + 1)) (xs (i + 2)) h) (d_as hZ _ _) hC hM kk
  rw [if_neg e7]
  by_cases e8 : xs i &&& (31 : Int32) = (8 : Int32)
  · rw [if_pos e8]
    simp only [s1, s2, s3, Option.bind_some]
    rw [rc_b h11]
    exact op_ok (c := fun h => fX8_work 1 (xs (i + 1)) (xs (i + 2)) (xs (i + 3)) h) (fm := fun b h => fX9_work b (xs (i + 1)) (xs (i + 2)) (xs (i + 3)) h) (d_work hZ _ _ _) hC hM kk
  rw [if_neg e8]
  by_cases e9 : xs i &&& (31 : Int32) = (9 : Int32)
  · rw [if_pos e9]
    simp only [s1, s2, Option.bind_some]
    rw [rc_b h11]
    exact op_ok (c := fun h => fX8_workAs 1 (xs (i + 1)) (xs (i + 2)) h) (fm := fun b h => fX9_workAs b (xs (i + 1)) (xs (i + 2)) h) (d_workAs hZ _ _) hC hM kk
  rw [if_neg e9]
  by_cases e10 : xs i &&& (31 : Int32) = (10 : Int32)
  · rw [if_pos e10]
    simp only [s1, Option.bind_some]
    rw [rc_b h11]
    exact op_ok (c := fun h => fX8_head 1 (xs (i + 1)) h) (fm := fun b h => fX9_head b (xs (i + 1)) h) (d_head hZ _) hC hM kk
  rw [if_neg e10]
  by_cases e11 : xs i &&& (31 : Int32) = (11 : Int32)
  · rw [if_pos e11]
    simp only [s1, s2, s3, s4, Option.bind_some]
    rw [rc_b h11]
    exact op_ok (c := fun h => fX8_drops 1 (xs (i + 1)) (xs (i + 2)) (xs (i + 3)) (xs (i + 4)) h) (fm := fun b h => fX9_drops b (xs (i + 1)) (xs (i + 2)) (xs (i + 3)) (xs (i + 4)) h) (CallOK.q hZ (d_drops hZ _ _ _ _)) hC hM kk
  rw [if_neg e11]
  by_cases e12 : xs i &&& (31 : Int32) = (12 : Int32)
  · rw [if_pos e12]
    simp only [s1, s2, s3, s4, Option.bind_some]
    rw [rc_b h11]
    exact op_ok (c := fun h => fX8_error 1 (xs (i + 1)) (xs (i + 2)) (xs (i + 3)) (xs (i + 4)) h) (fm := fun b h => fX9_error b (xs (i + 1)) (xs (i + 2)) (xs (i + 3)) (xs (i + 4)) h) (CallOK.q hZ (d_error hZ _ _ _ _)) hC hM kk
  rw [if_neg e12]
  by_cases e13 : xs i &&& (31 : Int32) = (13 : Int32)
  · rw [if_pos e13]
    simp only [s1, s2, s3, s4, s5, Option.bind_some]
    rw [rc_b h11]
    exact op_ok (c := fun h => fX8_at 1 (xs (i + 1)) (xs (i + 2)) (xs (i + 3)) (xs (i + 4)) (xs (i + 5)) h) (fm := fun b h => fX9_at b (xs (i + 1)) (xs (i + 2)) (xs (i + 3)) (xs (i + 4)) (xs (i + 5)) h) (CallOK.q hZ (d_at hZ _ _ _ _ _)) hC hM kk
  rw [if_neg e13]
  by_cases e14 : xs i &&& (31 : Int32) = (14 : Int32)
  · rw [if_pos e14]
    simp only [s1, s2, s3, s4, Option.bind_some]
    rw [rc_b h11]
    exact op_ok (c := fun h => fX8_even 1 (xs (i + 1)) (xs (i + 2)) (xs (i + 3)) (xs (i + 4)) h) (fm := fun b h => fX9_even b (xs (i + 1)) (xs (i + 2)) (xs (i + 3)) (xs (i + 4)) h) (CallOK.q hZ (d_even hZ _ _ _ _)) hC hM kk
  rw [if_neg e14]
  by_cases e15 : xs i &&& (31 : Int32) = (15 : Int32)
  · rw [if_pos e15]
    simp only [s1, s2, s3, s4, Option.bind_some]
    rw [rc_b h11]
    exact op_ok (c := fun h => fX8_mean 1 (xs (i + 1)) (xs (i + 2)) (xs (i + 3)) (xs (i + 4)) h) (fm := fun b h => fX9_mean b (xs (i + 1)) (xs (i + 2)) (xs (i + 3)) (xs (i + 4)) h) (CallOK.q hZ (d_mean hZ _ _ _ _)) hC hM kk
  rw [if_neg e15]
  by_cases e16 : xs i &&& (31 : Int32) = (16 : Int32)
  · rw [if_pos e16]
    simp only [s1, s2, s3, s4, Option.bind_some]
    rw [rc_b h11]
    exact op_ok (c := fun h => fX8_shows 1 (xs (i + 1)) (xs (i + 2)) (xs (i + 3)) (xs (i + 4)) h) (fm := fun b h => fX9_shows b (xs (i + 1)) (xs (i + 2)) (xs (i + 3)) (xs (i + 4)) h) (CallOK.q hZ (d_shows hZ _ _ _ _)) hC hM kk
  rw [if_neg e16]
  by_cases e17 : xs i &&& (31 : Int32) = (17 : Int32)
  · rw [if_pos e17]
    simp only [s1, s2, Option.bind_some]
    rw [rc_b h11]
    exact op_ok (c := fun h => fX8_worst 1 (xs (i + 1)) (xs (i + 2)) h) (fm := fun b h => fX9_worst b (xs (i + 1)) (xs (i + 2)) h) (CallOK.q hZ (d_worst hZ _ _)) hC hM kk
  rw [if_neg e17]
  by_cases e18 : xs i &&& (31 : Int32) = (18 : Int32)
  · rw [if_pos e18]
    simp only [s1, s2, Option.bind_some]
    rw [rc_b h11]
    exact op_ok (c := fun h => fX8_better 1 (xs (i + 1)) (xs (i + 2)) h) (fm := fun b h => fX9_better b (xs (i + 1)) (xs (i + 2)) h) (CallOK.q hZ (d_better hZ _ _)) hC hM kk
  rw [if_neg e18]
  by_cases e19 : xs i &&& (31 : Int32) = (19 : Int32)
  · rw [if_pos e19]
    simp only [s1, s2, s3, Option.bind_some]
    rw [rc_b h11]
    exact op_ok (c := fun h => fX8_mark 1 (xs (i + 1)) (xs (i + 2)) (xs (i + 3)) h) (fm := fun b h => fX9_mark b (xs (i + 1)) (xs (i + 2)) (xs (i + 3)) h) (d_mark hZ _ _ _) hC hM kk
  rw [if_neg e19]
  by_cases e20 : xs i &&& (31 : Int32) = (20 : Int32)
  · rw [if_pos e20]
    simp only [s1, s2, s3, s4, s5, Option.bind_some]
    rw [rc_b h11]
    exact op_ok (c := fun h => fX8_mended 1 (xs (i + 1)) (xs (i + 2)) (xs (i + 3)) (xs (i + 4)) (xs (i + 5)) h) (fm := fun b h => fX9_mended b (xs (i + 1)) (xs (i + 2)) (xs (i + 3)) (xs (i + 4)) (xs (i + 5)) h) (d_mended hZ _ _ _ _ _) hC hM kk
  rw [if_neg e20]
  by_cases e21 : xs i &&& (31 : Int32) = (21 : Int32)
  · rw [if_pos e21]
    simp only [s1, s2, Option.bind_some]
    rw [rc_b h11]
    exact op_ok (c := fun h => fX8_log 1 (xs (i + 1)) (xs (i + 2)) h) (fm := fun b h => fX9_log b (xs (i + 1)) (xs (i + 2)) h) (d_log hZ _ _) hC hM kk
  rw [if_neg e21]
  by_cases e22 : xs i &&& (31 : Int32) = (22 : Int32)
  · rw [if_pos e22]
    simp only [s1, s2, s3, Option.bind_some]
    rw [rc_b h11]
    exact op_ok (c := fun h => fX8_agrees 1 (xs (i + 1)) (xs (i + 2)) (xs (i + 3)) h) (fm := fun b h => fX9_agrees b (xs (i + 1)) (xs (i + 2)) (xs (i + 3)) h) (d_agrees hZ _ _ _) hC hM kk
  rw [if_neg e22]
  by_cases e23 : xs i &&& (31 : Int32) = (23 : Int32)
  · rw [if_pos e23]
    simp only [s1, s2, Option.bind_some]
    rw [rc_b h11]
    exact op_ok (c := fun h => fX8_which 1 (xs (i + 1)) (xs (i + 2)) h) (fm := fun b h => fX9_which b (xs (i + 1)) (xs (i + 2)) h) (d_which hZ _ _) hC hM kk
  rw [if_neg e23]
  by_cases e24 : xs i &&& (31 : Int32) = (24 : Int32)
  · rw [if_pos e24]
    simp only [s1, s2, s3, s4, s5, Option.bind_some]
    rw [rc_b h11]
    exact op_ok (c := fun h => fX8_sought 1 (xs (i + 1)) (xs (i + 2)) (xs (i + 3)) (xs (i + 4)) (xs (i + 5)) h) (fm := fun b h => fX9_sought b (xs (i + 1)) (xs (i + 2)) (xs (i + 3)) (xs (i + 4)) (xs (i + 5)) h) (d_sought hZ _ _ _ _ _) hC hM kk
  rw [if_neg e24]
  by_cases e25 : xs i &&& (31 : Int32) = (25 : Int32)
  · rw [if_pos e25]
    simp only [s1, s2, s3, s4, Option.bind_some]
    rw [rc_b h11]
    exact op_ok (c := fun h => fX8_lost 1 (xs (i + 1)) (xs (i + 2)) (xs (i + 3)) (xs (i + 4)) h) (fm := fun b h => fX9_lost b (xs (i + 1)) (xs (i + 2)) (xs (i + 3)) (xs (i + 4)) h) (d_lost hZ _ _ _ _) hC hM kk
  rw [if_neg e25]
  by_cases e26 : xs i &&& (31 : Int32) = (26 : Int32)
  · rw [if_pos e26]
    simp only [s1, s2, s3, s4, s5, Option.bind_some]
    rw [rc_b h11]
    exact op_ok (c := fun h => fX8_span 1 (xs (i + 1)) (xs (i + 2)) (xs (i + 3)) (xs (i + 4)) (xs (i + 5)) h) (fm := fun b h => fX9_span b (xs (i + 1)) (xs (i + 2)) (xs (i + 3)) (xs (i + 4)) (xs (i + 5)) h) (d_span hZ _ _ _ _ _) hC hM kk
  rw [if_neg e26]
  by_cases e27 : xs i &&& (31 : Int32) = (27 : Int32)
  · rw [if_pos e27]
    simp only [s1, s2, s3, s4, s5, Option.bind_some]
    rw [rc_b h11]
    exact op_ok (c := fun h => fX8_record 1 (xs (i + 1)) (xs (i + 2)) (xs (i + 3)) (xs (i + 4)) (xs (i + 5)) h) (fm := fun b h => fX9_record b (xs (i + 1)) (xs (i + 2)) (xs (i + 3)) (xs (i + 4)) (xs (i + 5)) h) (d_record hZ _ _ _ _ _) hC hM kk
  rw [if_neg e27]
  by_cases e28 : xs i &&& (31 : Int32) = (28 : Int32)
  · rw [if_pos e28]
    rw [rc_b h11]
    exact op_ok (c := fun h => fX8_image 1  h) (fm := fun b h => fX9_image b  h) (d_image hZ) hC hM kk
  rw [if_neg e28]
  by_cases e29 : xs i &&& (31 : Int32) = (29 : Int32)
  · rw [if_pos e29]
    rw [rc_b h11]
    exact op_ok (c := fun h => fX8_restore 1  h) (fm := fun b h => fX9_restore b  h) (d_restore hZ) hC hM kk
  rw [if_neg e29]
  by_cases e30 : xs i &&& (31 : Int32) = (30 : Int32)
  · rw [if_pos e30]
    simp only [s1, Option.bind_some]
    rw [rc_b h11]
    exact op_ok (c := fun h => fX8_count 1 (xs (i + 1)) h) (fm := fun b h => fX9_count b (xs (i + 1)) h) (d_count hZ _) hC hM kk
  rw [if_neg e30]
  by_cases e31 : xs i &&& (31 : Int32) = (31 : Int32)
  · rw [if_pos e31]
    rw [rc_b h11]
    exact op_ok2 (c := fun h => fX8_digest 1  h) (fm := fun b h => fX9_digest b  h) (d_digest hZ) hC hM kk
  rw [if_neg e31]
  unfold fS_law_1443
  rw [show nI i + (6 : Int32) = nI (i + 6) from nI_add i 6]
  exact kk s I P J n Z hZ hC hM (by omega) (by omega)
end LO
set_option maxHeartbeats 4000000 in
set_option maxRecDepth 100000 in
theorem law_loop {L : Nat} {xs : Nat → Int32} (hL : L ≤ 3072) : ∀ (m i N : Nat) (s : Nat → Option pu_S) (I : Nat → Nat → Int32) (P : Nat → Nat → Option Nat) (J : Nat → Nat → Int64) (n : Nat × Nat) (Z : S_Z), L ≤ i + 6 * m + 5 → i ≤ 3078 → m < N → Z_B Z → InvC s I P n Z → InvM s I P Z → n.1 + 6 * m ≤ 626124 → n.2 + 60 * m ≤ 7223875 → Rn (fS_law_18 L xs N (some 1) (some 40) (nI i) (pu_hp s I P J n)) fun y => y.1 = 1 ∧ y.2.2.1 ≤ 626124 ∧ y.2.2.2 ≤ 7223875 := by
  intro m
  induction m with
  | zero =>
    intro i N s I P J n Z h1 h2 h3 hZ hC hM n1 n2
    obtain ⟨N, rfl⟩ : ∃ N', N = N' + 1 := ⟨N - 1, by omega⟩
    show Rn (fS_law_18_b L xs _ _ _ _ _) _
    unfold fS_law_18_b
    rw [if_pos (by rw [lo_e hL (by omega)]; omega)]
    exact Rn_some ⟨rfl, n1, n2⟩
  | succ m ih =>
    intro i N s I P J n Z h1 h2 h3 hZ hC hM n1 n2
    obtain ⟨N, rfl⟩ : ∃ N', N = N' + 1 := ⟨N - 1, by omega⟩
    show Rn (fS_law_18_b L xs (fS_law_18 L xs N) _ _ _ _) _
    by_cases hi : i + 6 ≤ L
    · exact law_turn hZ hC hM hL hi fun s' I' P' J' n' Z' z1 z2 z3 z4 z5 => ih (i + 6) N s' I' P' J' n' Z' (by omega) (by omega) (by omega) z1 z2 z3 (by omega) (by omega)
    · unfold fS_law_18_b
      rw [if_pos (by rw [lo_e hL (by omega)]; exact hi)]
      exact Rn_some ⟨rfl, by show n.1 ≤ 626124; omega, by show n.2 ≤ 7223875; omega⟩
set_option maxHeartbeats 4000000 in
set_option maxRecDepth 100000 in
theorem pure_law (L : Nat) (xs : Nat → Int32) (hL : L ≤ 3072) : ∃ h' : am_H, fS_law L xs am_h0 = some (1, h') ∧ h'.2.1 ≤ 626124 ∧ h'.2.2 ≤ 7223875 := by
  have q := law_loop (L := L) (xs := xs) hL 512 0 am_fu (shpk 77) (IL wRI) (PL wRP) (fun _ _ => 0) (77, 1672) Z_0 (by omega) (by omega) (by unfold am_fu; omega) Z0_B C_0 M_0 (by decide) (by decide)
  obtain ⟨⟨r, h'⟩, e, q1, q2, q3⟩ := q
  refine ⟨h', ?_, q2, q3⟩
  dsimp only at q1
  subst q1
  rw [← e, h0_e]
  unfold fS_law
  rw [st_nw8 (k' := 1) (n' := 19) (by rfl) (by rfl) (by rfl) (by rfl) (by rfl)]
  dsimp only
  rw [i_X8_1]
  dsimp only [Option.bind_some]
  rw [st_nw9 (k' := 40) (n' := 843) (by rfl) (by rfl) (by rfl) (by rfl) (by rfl)]
  dsimp only
  rw [i_X9_40]
  dsimp only [Option.bind_some]
  have cg : ∀ (a b : Int32) (h h' : am_H), a = b → h = h' → fS_law_18 L xs am_fu (some 1) (some 40) a h = fS_law_18 L xs am_fu (some 1) (some 40) b h' := by
    rintro _ _ _ _ rfl rfl; rfl
  exact cg _ _ _ _ rfl rfl
