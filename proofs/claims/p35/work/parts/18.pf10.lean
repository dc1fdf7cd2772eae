/-! printed proofs of the printed functions, 10 -/
set_option maxRecDepth 20000 in
set_option maxHeartbeats 4000000 in
theorem sfL_law_529 {G : am_G}  {k489 : Option Nat → Option Nat → Option Nat → Option Nat → Int32 → Option Nat → Option Nat → Option Nat → Int32 → Option Nat → Int32 → am_H → Option (Int32 × am_H)} (hk489 : ∀ (v1 : Option Nat) (v2 : Option Nat) (v3 : Option Nat) (v4 : Option Nat) (v5 : Int32) (v6 : Option Nat) (v7 : Option Nat) (v8 : Option Nat) (v9 : Int32) (v10 : Option Nat) (v11 : Int32) (h : am_H) (y : Int32 × am_H), k489 v1 v2 v3 v4 v5 v6 v7 v8 v9 v10 v11 h = some y → am_S G miL_law 489 [some (va_rf (some 0)), some (va_rf v1), some (va_rf v2), some (va_rf v3), some (va_rf v4), some (.int v5), some (va_rf v6), some (va_rf v7), some (va_rf v8), some (.int v9), some (va_rf v10), some (.int v11), none, none, none, none, none, none, none, none, none, none, none, none, none, none, none, none, none, none, none, none, none, none, none, none, none, none] [] h (some (.int y.1)) y.2) (v1 : Option Nat) (v2 : Option Nat) (v3 : Option Nat) (v4 : Option Nat) (v5 : Int32) (v6 : Option Nat) (v7 : Option Nat) (v8 : Option Nat) (v9 : Int32) (v10 : Option Nat) (v11 : Int32) (v12 : Int32) (s0 : Int32) (h : am_H) (y : Int32 × am_H) (hf : fL_law_529 G.2.2.2.2.1 G.2.2.2.2.2 k489 v1 v2 v3 v4 v5 v6 v7 v8 v9 v10 v11 v12 s0 h = some y) : am_S G miL_law 529 [some (va_rf (some 0)), some (va_rf v1), some (va_rf v2), some (va_rf v3), some (va_rf v4), some (.int v5), some (va_rf v6), some (va_rf v7), some (va_rf v8), some (.int v9), some (va_rf v10), some (.int v11), some (.int v12), none, none, none, none, none, none, none, none, none, none, none, none, none, none, none, none, none, none, none, none, none, none, none, none, none] [.int s0] h (some (.int y.1)) y.2 := by
  unfold fL_law_529 at hf
  refine am_istore (ls' := [some (va_rf (some 0)), some (va_rf v1), some (va_rf v2), some (va_rf v3), some (va_rf v4), some (.int v5), some (va_rf v6), some (va_rf v7), some (va_rf v8), some (.int v9), some (va_rf v10), some (.int v11), some (.int v12), some (.int s0), none, none, none, none, none, none, none, none, none, none, none, none, none, none, none, none, none, none, none, none, none, none, none, none]) dL_law_529 (by decide) rfl rfl ?_
  refine am_iload dL_law_531 rfl rfl ?_
  refine am_bipush (v := 8) dL_law_533 (by decide) rfl ?_
  refine am_idiv dL_law_535 rfl hf (fun hf => ?_)
  refine am_iconst (v := 3) dL_law_536 rfl rfl ?_
  refine am_irem dL_law_537 rfl hf (fun hf => ?_)
  refine am_istore (ls' := [some (va_rf (some 0)), some (va_rf v1), some (va_rf v2), some (va_rf v3), some (va_rf v4), some (.int v5), some (va_rf v6), some (va_rf v7), some (va_rf v8), some (.int v9), some (va_rf v10), some (.int v11), some (.int v12), some (.int s0), some (.int ((v12 / (8 : Int32)) - (v12 / (8 : Int32)) / (3 : Int32) * (3 : Int32))), none, none, none, none, none, none, none, none, none, none, none, none, none, none, none, none, none, none, none, none, none, none, none]) dL_law_538 (by decide) rfl rfl ?_
  refine am_iconst (v := 1) dL_law_540 rfl rfl ?_
  refine am_iload dL_law_541 rfl rfl ?_
  refine am_bipush (v := 32) dL_law_543 (by decide) rfl ?_
  refine am_idiv dL_law_545 rfl hf (fun hf => ?_)
  refine am_bipush (v := 20) dL_law_546 (by decide) rfl ?_
  refine am_irem dL_law_548 rfl hf (fun hf => ?_)
  refine am_iadd dL_law_549 rfl ?_
  refine am_istore (ls' := [some (va_rf (some 0)), some (va_rf v1), some (va_rf v2), some (va_rf v3), some (va_rf v4), some (.int v5), some (va_rf v6), some (va_rf v7), some (va_rf v8), some (.int v9), some (va_rf v10), some (.int v11), some (.int v12), some (.int s0), some (.int ((v12 / (8 : Int32)) - (v12 / (8 : Int32)) / (3 : Int32) * (3 : Int32))), some (.int ((1 : Int32) + ((v12 / (32 : Int32)) - (v12 / (32 : Int32)) / (20 : Int32) * (20 : Int32)))), none, none, none, none, none, none, none, none, none, none, none, none, none, none, none, none, none, none, none, none, none, none]) dL_law_550 (by decide) rfl rfl ?_
  refine am_iload dL_law_552 rfl rfl ?_
  refine am_sipush (v := 1024) dL_law_554 (by decide) rfl ?_
  refine am_idiv dL_law_557 rfl hf (fun hf => ?_)
  refine am_bipush (v := 96) dL_law_558 (by decide) rfl ?_
  refine am_irem dL_law_560 rfl hf (fun hf => ?_)
  refine am_istore (ls' := [some (va_rf (some 0)), some (va_rf v1), some (va_rf v2), some (va_rf v3), some (va_rf v4), some (.int v5), some (va_rf v6), some (va_rf v7), some (va_rf v8), some (.int v9), some (va_rf v10), some (.int v11), some (.int v12), some (.int s0), some (.int ((v12 / (8 : Int32)) - (v12 / (8 : Int32)) / (3 : Int32) * (3 : Int32))), some (.int ((1 : Int32) + ((v12 / (32 : Int32)) - (v12 / (32 : Int32)) / (20 : Int32) * (20 : Int32)))), some (.int ((v12 / (1024 : Int32)) - (v12 / (1024 : Int32)) / (96 : Int32) * (96 : Int32))), none, none, none, none, none, none, none, none, none, none, none, none, none, none, none, none, none, none, none, none, none]) dL_law_561 (by decide) rfl rfl ?_
  refine am_iload dL_law_563 rfl rfl ?_
  refine am_if_lt (tgt := 587) dL_law_565 (by decide) rfl hf (fun hf => ?_) (fun hf => ?_)
  · exact am_we ((sfL_law_587 hk489) _ _ _ _ _ _ _ _ _ _ _ _ _ _ _ _ _ hf) ⟨Or.inr rfl, Or.inr rfl, Or.inr rfl, Or.inr rfl, Or.inr rfl, Or.inr rfl, Or.inr rfl, Or.inr rfl, Or.inr rfl, Or.inr rfl, Or.inr rfl, Or.inr rfl, Or.inl rfl, Or.inr rfl, Or.inr rfl, Or.inr rfl, Or.inr rfl, Or.inl rfl, Or.inl rfl, Or.inl rfl, Or.inl rfl, Or.inl rfl, Or.inl rfl, Or.inl rfl, Or.inl rfl, Or.inl rfl, Or.inl rfl, Or.inl rfl, Or.inl rfl, Or.inl rfl, Or.inl rfl, Or.inl rfl, Or.inl rfl, Or.inl rfl, Or.inl rfl, Or.inl rfl, Or.inl rfl, Or.inl rfl, trivial⟩
  refine am_aload_n dL_law_568 rfl rfl ?_
  refine am_iload dL_law_569 rfl rfl ?_
  refine am_iload dL_law_571 rfl rfl ?_
  refine am_iload dL_law_573 rfl rfl ?_
  refine am_iload dL_law_575 rfl rfl ?_
  refine am_cVi (As := [.int s0, .int ((v12 / (8 : Int32)) - (v12 / (8 : Int32)) / (3 : Int32) * (3 : Int32)), .int ((1 : Int32) + ((v12 / (32 : Int32)) - (v12 / (32 : Int32)) / (20 : Int32) * (20 : Int32))), .int ((v12 / (1024 : Int32)) - (v12 / (1024 : Int32)) / (96 : Int32) * (96 : Int32))]) (st := []) lk_L_law_58 rfl (Nat.le_of_ble_eq_true rfl) (Nat.le_of_ble_eq_true rfl) rfl dL_law_577 rfl hf (fun b2 y1 hf => sfX8_faulty b2 _ _ _ _ _ y1 hf) (fun b2 y1 _ _ hf => ?_)
  refine am_iload dL_law_580 rfl rfl ?_
  refine am_icmp_eq (tgt := 587) dL_law_582 (by decide) rfl hf (fun hf => ?_) (fun hf => ?_)
  · exact am_we ((sfL_law_587 hk489) _ _ _ _ _ _ _ _ _ _ _ _ _ _ _ _ _ hf) ⟨Or.inr rfl, Or.inr rfl, Or.inr rfl, Or.inr rfl, Or.inr rfl, Or.inr rfl, Or.inr rfl, Or.inr rfl, Or.inr rfl, Or.inr rfl, Or.inr rfl, Or.inr rfl, Or.inl rfl, Or.inr rfl, Or.inr rfl, Or.inr rfl, Or.inr rfl, Or.inl rfl, Or.inl rfl, Or.inl rfl, Or.inl rfl, Or.inl rfl, Or.inl rfl, Or.inl rfl, Or.inl rfl, Or.inl rfl, Or.inl rfl, Or.inl rfl, Or.inl rfl, Or.inl rfl, Or.inl rfl, Or.inl rfl, Or.inl rfl, Or.inl rfl, Or.inl rfl, Or.inl rfl, Or.inl rfl, Or.inl rfl, trivial⟩
  refine am_iconst (v := 0) dL_law_585 rfl rfl ?_
  exact am_zret rfl dL_law_586 hf
set_option maxRecDepth 20000 in
set_option maxHeartbeats 4000000 in
theorem sfL_law_372 {G : am_G}  {k195 : Option Nat → Option Nat → Option Nat → Option Nat → Int32 → Option Nat → Option Nat → Option Nat → Int32 → am_H → Option (Int32 × am_H)} (hk195 : ∀ (v1 : Option Nat) (v2 : Option Nat) (v3 : Option Nat) (v4 : Option Nat) (v5 : Int32) (v6 : Option Nat) (v7 : Option Nat) (v8 : Option Nat) (v9 : Int32) (h : am_H) (y : Int32 × am_H), k195 v1 v2 v3 v4 v5 v6 v7 v8 v9 h = some y → am_S G miL_law 195 [some (va_rf (some 0)), some (va_rf v1), some (va_rf v2), some (va_rf v3), some (va_rf v4), some (.int v5), some (va_rf v6), some (va_rf v7), some (va_rf v8), some (.int v9), none, none, none, none, none, none, none, none, none, none, none, none, none, none, none, none, none, none, none, none, none, none, none, none, none, none, none, none] [] h (some (.int y.1)) y.2) : ∀ (n : Nat) (v1 : Option Nat) (v2 : Option Nat) (v3 : Option Nat) (v4 : Option Nat) (v5 : Int32) (v6 : Option Nat) (v7 : Option Nat) (v8 : Option Nat) (v9 : Int32) (v11 : Int32) (h : am_H) (y : Int32 × am_H) (hf : fL_law_372 G.2.2.2.2.1 G.2.2.2.2.2 k195 n v1 v2 v3 v4 v5 v6 v7 v8 v9 v11 h = some y), am_S G miL_law 372 [some (va_rf (some 0)), some (va_rf v1), some (va_rf v2), some (va_rf v3), some (va_rf v4), some (.int v5), some (va_rf v6), some (va_rf v7), some (va_rf v8), some (.int v9), none, some (.int v11), none, none, none, none, none, none, none, none, none, none, none, none, none, none, none, none, none, none, none, none, none, none, none, none, none, none] [] h (some (.int y.1)) y.2 := by
  intro n
  induction n with
  | zero => intro v1 v2 v3 v4 v5 v6 v7 v8 v9 v11 h y hf; cases hf
  | succ n ih =>
    intro v1 v2 v3 v4 v5 v6 v7 v8 v9 v11 h y hf
    have hf : fL_law_372_b G.2.2.2.2.1 G.2.2.2.2.2 k195 (fL_law_372 G.2.2.2.2.1 G.2.2.2.2.2 k195 n) v1 v2 v3 v4 v5 v6 v7 v8 v9 v11 h = some y := hf
    unfold fL_law_372_b at hf
    refine am_iload dL_law_372 rfl rfl ?_
    refine am_iconst (v := 5) dL_law_374 rfl rfl ?_
    refine am_icmp_ge (tgt := 433) dL_law_375 (by decide) rfl hf (fun hf => ?_) (fun hf => ?_)
    · refine am_iinc (ls' := [some (va_rf (some 0)), some (va_rf v1), some (va_rf v2), some (va_rf v3), some (va_rf v4), some (.int v5), some (va_rf v6), some (va_rf v7), some (va_rf v8), some (.int (v9 + (1 : Int32))), none, some (.int v11), none, none, none, none, none, none, none, none, none, none, none, none, none, none, none, none, none, none, none, none, none, none, none, none, none, none]) dL_law_433 rfl rfl (by decide) (am_s1_r (j := 8) rfl rfl) rfl ?_
      refine am_goto (pc' := 195) dL_law_436 (by decide) ?_
      exact am_we (hk195 _ _ _ _ _ _ _ _ _ _ _ hf) ⟨Or.inr rfl, Or.inr rfl, Or.inr rfl, Or.inr rfl, Or.inr rfl, Or.inr rfl, Or.inr rfl, Or.inr rfl, Or.inr rfl, Or.inr rfl, Or.inl rfl, Or.inl rfl, Or.inl rfl, Or.inl rfl, Or.inl rfl, Or.inl rfl, Or.inl rfl, Or.inl rfl, Or.inl rfl, Or.inl rfl, Or.inl rfl, Or.inl rfl, Or.inl rfl, Or.inl rfl, Or.inl rfl, Or.inl rfl, Or.inl rfl, Or.inl rfl, Or.inl rfl, Or.inl rfl, Or.inl rfl, Or.inl rfl, Or.inl rfl, Or.inl rfl, Or.inl rfl, Or.inl rfl, Or.inl rfl, Or.inl rfl, trivial⟩
    refine am_aload_n dL_law_378 rfl rfl ?_
    refine am_iload dL_law_379 rfl rfl ?_
    refine am_iload dL_law_381 rfl rfl ?_
    refine am_cVi (As := [.int v9, .int v11]) (st := []) lk_L_law_51 rfl (Nat.le_of_ble_eq_true rfl) (Nat.le_of_ble_eq_true rfl) rfl dL_law_383 rfl hf (fun b2 y1 hf => sfX8_workAs b2 _ _ _ y1 hf) (fun b2 y1 _ _ hf => ?_)
    refine am_iload dL_law_386 rfl rfl ?_
    refine am_if_eq (tgt := 416) dL_law_388 (by decide) rfl hf (fun hf => ?_) (fun hf => ?_)
    · exact (sfL_law_416 (sfL_law_422 ih)) _ _ _ _ _ _ _ _ _ _ _ _ _ hf
    refine am_iload dL_law_391 rfl rfl ?_
    refine am_aload dL_law_393 rfl rfl ?_
    refine am_iload dL_law_395 rfl rfl ?_
    refine am_iald dL_law_397 rfl hf (fun x3 _ hf => ?_)
    refine am_icmp_eq (tgt := 416) dL_law_398 (by decide) rfl hf (fun hf => ?_) (fun hf => ?_)
    · exact (sfL_law_416 (sfL_law_422 ih)) _ _ _ _ _ _ _ _ _ _ _ _ _ hf
    refine am_iload dL_law_401 rfl rfl ?_
    refine am_iconst (v := 3) dL_law_403 rfl rfl ?_
    refine am_icmp_ne (tgt := 421) dL_law_404 (by decide) rfl hf (fun hf => ?_) (fun hf => ?_)
    · exact (sfL_law_421 (sfL_law_422 ih)) _ _ _ _ _ _ _ _ _ _ _ _ _ hf
    refine am_aload dL_law_407 rfl rfl ?_
    refine am_iload dL_law_409 rfl rfl ?_
    refine am_iald dL_law_411 rfl hf (fun x4 _ hf => ?_)
    refine am_iconst (v := 4) dL_law_412 rfl rfl ?_
    refine am_icmp_ne (tgt := 421) dL_law_413 (by decide) rfl hf (fun hf => ?_) (fun hf => ?_)
    · exact (sfL_law_421 (sfL_law_422 ih)) _ _ _ _ _ _ _ _ _ _ _ _ _ hf
    exact (sfL_law_416 (sfL_law_422 ih)) _ _ _ _ _ _ _ _ _ _ _ _ _ hf
set_option maxRecDepth 20000 in
set_option maxHeartbeats 4000000 in
theorem sfL_law_1521 {G : am_G}  : ∀ (n : Nat) (v1 : Option Nat) (v2 : Option Nat) (v3 : Option Nat) (v4 : Option Nat) (v5 : Int32) (v9 : Int32) (v10 : Option Nat) (v11 : Int32) (v12 : Int32) (v13 : Int32) (v14 : Int32) (h : am_H) (y : Int32 × am_H) (hf : fL_law_1521 G.2.2.2.2.1 G.2.2.2.2.2  n v1 v2 v3 v4 v5 v9 v10 v11 v12 v13 v14 h = some y), am_S G miL_law 1521 [none, some (va_rf v1), some (va_rf v2), some (va_rf v3), some (va_rf v4), some (.int v5), none, none, none, some (.int v9), some (va_rf v10), some (.int v11), some (.int v12), some (.int v13), some (.int v14), none, none, none, none, none, none, none, none, none, none, none, none, none, none, none, none, none, none, none, none, none, none, none] [] h (some (.int y.1)) y.2 := by
  intro n
  induction n with
  | zero => intro v1 v2 v3 v4 v5 v9 v10 v11 v12 v13 v14 h y hf; cases hf
  | succ n ih =>
    intro v1 v2 v3 v4 v5 v9 v10 v11 v12 v13 v14 h y hf
    have hf : fL_law_1521_b G.2.2.2.2.1 G.2.2.2.2.2  (fL_law_1521 G.2.2.2.2.1 G.2.2.2.2.2  n) v1 v2 v3 v4 v5 v9 v10 v11 v12 v13 v14 h = some y := hf
    unfold fL_law_1521_b at hf
    refine am_iload dL_law_1521 rfl rfl ?_
    refine am_iconst (v := 4) dL_law_1523 rfl rfl ?_
    refine am_icmp_ge (tgt := 1638) dL_law_1524 (by decide) rfl hf (fun hf => ?_) (fun hf => ?_)
    · refine am_aload_n dL_law_1638 rfl rfl ?_
      refine am_iconst (v := 0) dL_law_1639 rfl rfl ?_
      refine am_iconst (v := 0) dL_law_1640 rfl rfl ?_
      refine am_cVi (As := [.int (0 : Int32), .int (0 : Int32)]) (st := []) lk_L_law_91 rfl (Nat.le_of_ble_eq_true rfl) (Nat.le_of_ble_eq_true rfl) rfl dL_law_1641 rfl hf (fun b2 y1 hf => sfX8_worst b2 _ _ _ y1 hf) (fun b2 y1 _ _ hf => ?_)
      refine am_iload dL_law_1644 rfl rfl ?_
      refine am_icmp_ne (tgt := 1680) dL_law_1646 (by decide) rfl hf (fun hf => ?_) (fun hf => ?_)
      · refine am_iconst (v := 0) dL_law_1680 rfl rfl ?_
        exact am_zret rfl dL_law_1681 hf
      refine am_aload_n dL_law_1649 rfl rfl ?_
      refine am_iconst (v := 0) dL_law_1650 rfl rfl ?_
      refine am_iconst (v := 1) dL_law_1651 rfl rfl ?_
      refine am_cVi (As := [.int (0 : Int32), .int (1 : Int32)]) (st := []) lk_L_law_91 rfl (Nat.le_of_ble_eq_true rfl) (Nat.le_of_ble_eq_true rfl) rfl dL_law_1652 rfl hf (fun b4 y3 hf => sfX8_worst b4 _ _ _ y3 hf) (fun b4 y3 _ _ hf => ?_)
      refine am_iload dL_law_1655 rfl rfl ?_
      refine am_icmp_ne (tgt := 1680) dL_law_1657 (by decide) rfl hf (fun hf => ?_) (fun hf => ?_)
      · refine am_iconst (v := 0) dL_law_1680 rfl rfl ?_
        exact am_zret rfl dL_law_1681 hf
      refine am_aload_n dL_law_1660 rfl rfl ?_
      refine am_iconst (v := 0) dL_law_1661 rfl rfl ?_
      refine am_iconst (v := 2) dL_law_1662 rfl rfl ?_
      refine am_cVi (As := [.int (0 : Int32), .int (2 : Int32)]) (st := []) lk_L_law_91 rfl (Nat.le_of_ble_eq_true rfl) (Nat.le_of_ble_eq_true rfl) rfl dL_law_1663 rfl hf (fun b6 y5 hf => sfX8_worst b6 _ _ _ y5 hf) (fun b6 y5 _ _ hf => ?_)
      refine am_iload dL_law_1666 rfl rfl ?_
      refine am_icmp_ne (tgt := 1680) dL_law_1668 (by decide) rfl hf (fun hf => ?_) (fun hf => ?_)
      · refine am_iconst (v := 0) dL_law_1680 rfl rfl ?_
        exact am_zret rfl dL_law_1681 hf
      refine am_aload_n dL_law_1671 rfl rfl ?_
      refine am_iconst (v := 0) dL_law_1672 rfl rfl ?_
      refine am_iconst (v := 0) dL_law_1673 rfl rfl ?_
      refine am_cVi (As := [.int (0 : Int32), .int (0 : Int32)]) (st := []) lk_L_law_94 rfl (Nat.le_of_ble_eq_true rfl) (Nat.le_of_ble_eq_true rfl) rfl dL_law_1674 rfl hf (fun b8 y7 hf => sfX8_better b8 _ _ _ y7 hf) (fun b8 y7 _ _ hf => ?_)
      refine am_if_eq (tgt := 1682) dL_law_1677 (by decide) rfl hf (fun hf => ?_) (fun hf => ?_)
      · refine am_aload_n dL_law_1682 rfl rfl ?_
        refine am_iconst (v := 4) dL_law_1683 rfl rfl ?_
        refine am_iald dL_law_1684 rfl hf (fun x9 _ hf => ?_)
        refine am_istore (ls' := [none, some (va_rf v1), some (va_rf v2), some (va_rf v3), some (va_rf v4), some (.int v5), none, none, none, some (.int v9), some (va_rf v10), some (.int v11), some (.int v12), some (.int v13), some (.int x9), none, none, none, none, none, none, none, none, none, none, none, none, none, none, none, none, none, none, none, none, none, none, none]) dL_law_1685 (by decide) rfl rfl ?_
        refine am_aload_n dL_law_1687 rfl rfl ?_
        refine am_iconst (v := 0) dL_law_1688 rfl rfl ?_
        refine am_iconst (v := 0) dL_law_1689 rfl rfl ?_
        refine am_iconst (v := -1) dL_law_1690 rfl rfl ?_
        refine am_iload dL_law_1691 rfl rfl ?_
        refine am_cVi (As := [.int (0 : Int32), .int (0 : Int32), .int (-1 : Int32), .int x9]) (st := []) lk_L_law_79 rfl (Nat.le_of_ble_eq_true rfl) (Nat.le_of_ble_eq_true rfl) rfl dL_law_1693 rfl hf (fun b11 y10 hf => sfX8_drops b11 _ _ _ _ _ y10 hf) (fun b11 y10 _ _ hf => ?_)
        refine am_bipush (v := -101) dL_law_1696 (by decide) rfl ?_
        refine am_icmp_ne (tgt := 1887) dL_law_1698 (by decide) rfl hf (fun hf => ?_) (fun hf => ?_)
        · refine am_iconst (v := 0) dL_law_1887 rfl rfl ?_
          exact am_zret rfl dL_law_1888 hf
        refine am_aload_n dL_law_1701 rfl rfl ?_
        refine am_iconst (v := 1) dL_law_1702 rfl rfl ?_
        refine am_iconst (v := 0) dL_law_1703 rfl rfl ?_
        refine am_iconst (v := -1) dL_law_1704 rfl rfl ?_
        refine am_iconst (v := 0) dL_law_1705 rfl rfl ?_
        refine am_cVi (As := [.int (1 : Int32), .int (0 : Int32), .int (-1 : Int32), .int (0 : Int32)]) (st := []) lk_L_law_79 rfl (Nat.le_of_ble_eq_true rfl) (Nat.le_of_ble_eq_true rfl) rfl dL_law_1706 rfl hf (fun b13 y12 hf => sfX8_drops b13 _ _ _ _ _ y12 hf) (fun b13 y12 _ _ hf => ?_)
        refine am_bipush (v := -101) dL_law_1709 (by decide) rfl ?_
        refine am_icmp_ne (tgt := 1887) dL_law_1711 (by decide) rfl hf (fun hf => ?_) (fun hf => ?_)
        · refine am_iconst (v := 0) dL_law_1887 rfl rfl ?_
          exact am_zret rfl dL_law_1888 hf
        refine am_aload_n dL_law_1714 rfl rfl ?_
        refine am_iconst (v := 0) dL_law_1715 rfl rfl ?_
        refine am_iconst (v := 4) dL_law_1716 rfl rfl ?_
        refine am_iconst (v := -1) dL_law_1717 rfl rfl ?_
        refine am_iconst (v := 0) dL_law_1718 rfl rfl ?_
        refine am_cVi (As := [.int (0 : Int32), .int (4 : Int32), .int (-1 : Int32), .int (0 : Int32)]) (st := []) lk_L_law_79 rfl (Nat.le_of_ble_eq_true rfl) (Nat.le_of_ble_eq_true rfl) rfl dL_law_1719 rfl hf (fun b15 y14 hf => sfX8_drops b15 _ _ _ _ _ y14 hf) (fun b15 y14 _ _ hf => ?_)
        refine am_bipush (v := -101) dL_law_1722 (by decide) rfl ?_
        refine am_icmp_ne (tgt := 1887) dL_law_1724 (by decide) rfl hf (fun hf => ?_) (fun hf => ?_)
        · refine am_iconst (v := 0) dL_law_1887 rfl rfl ?_
          exact am_zret rfl dL_law_1888 hf
        refine am_aload_n dL_law_1727 rfl rfl ?_
        refine am_iconst (v := 0) dL_law_1728 rfl rfl ?_
        refine am_iconst (v := 0) dL_law_1729 rfl rfl ?_
        refine am_iload dL_law_1730 rfl rfl ?_
        refine am_iconst (v := 0) dL_law_1732 rfl rfl ?_
        refine am_cVi (As := [.int (0 : Int32), .int (0 : Int32), .int v9, .int (0 : Int32)]) (st := []) lk_L_law_79 rfl (Nat.le_of_ble_eq_true rfl) (Nat.le_of_ble_eq_true rfl) rfl dL_law_1733 rfl hf (fun b17 y16 hf => sfX8_drops b17 _ _ _ _ _ y16 hf) (fun b17 y16 _ _ hf => ?_)
        refine am_bipush (v := -101) dL_law_1736 (by decide) rfl ?_
        refine am_icmp_ne (tgt := 1887) dL_law_1738 (by decide) rfl hf (fun hf => ?_) (fun hf => ?_)
        · refine am_iconst (v := 0) dL_law_1887 rfl rfl ?_
          exact am_zret rfl dL_law_1888 hf
        refine am_aload_n dL_law_1741 rfl rfl ?_
        refine am_iconst (v := 0) dL_law_1742 rfl rfl ?_
        refine am_iconst (v := 0) dL_law_1743 rfl rfl ?_
        refine am_bipush (v := -2) dL_law_1744 (by decide) rfl ?_
        refine am_iconst (v := 0) dL_law_1746 rfl rfl ?_
        refine am_cVi (As := [.int (0 : Int32), .int (0 : Int32), .int (-2 : Int32), .int (0 : Int32)]) (st := []) lk_L_law_82 rfl (Nat.le_of_ble_eq_true rfl) (Nat.le_of_ble_eq_true rfl) rfl dL_law_1747 rfl hf (fun b19 y18 hf => sfX8_error b19 _ _ _ _ _ y18 hf) (fun b19 y18 _ _ hf => ?_)
        refine am_sipush (v := -1001) dL_law_1750 (by decide) rfl ?_
        refine am_icmp_ne (tgt := 1887) dL_law_1753 (by decide) rfl hf (fun hf => ?_) (fun hf => ?_)
        · refine am_iconst (v := 0) dL_law_1887 rfl rfl ?_
          exact am_zret rfl dL_law_1888 hf
        refine am_aload_n dL_law_1756 rfl rfl ?_
        refine am_iconst (v := 0) dL_law_1757 rfl rfl ?_
        refine am_iconst (v := 0) dL_law_1758 rfl rfl ?_
        refine am_iconst (v := -1) dL_law_1759 rfl rfl ?_
        refine am_bipush (v := 96) dL_law_1760 (by decide) rfl ?_
        refine am_iconst (v := 0) dL_law_1762 rfl rfl ?_
        refine am_cVi (As := [.int (0 : Int32), .int (0 : Int32), .int (-1 : Int32), .int (96 : Int32), .int (0 : Int32)]) (st := []) lk_L_law_69 rfl (Nat.le_of_ble_eq_true rfl) (Nat.le_of_ble_eq_true rfl) rfl dL_law_1763 rfl hf (fun b21 y20 hf => sfX8_at b21 _ _ _ _ _ _ y20 hf) (fun b21 y20 _ _ hf => ?_)
        refine am_bipush (v := -102) dL_law_1766 (by decide) rfl ?_
        refine am_icmp_ne (tgt := 1887) dL_law_1768 (by decide) rfl hf (fun hf => ?_) (fun hf => ?_)
        · refine am_iconst (v := 0) dL_law_1887 rfl rfl ?_
          exact am_zret rfl dL_law_1888 hf
        refine am_aload_n dL_law_1771 rfl rfl ?_
        refine am_iconst (v := 0) dL_law_1772 rfl rfl ?_
        refine am_iconst (v := 0) dL_law_1773 rfl rfl ?_
        refine am_iconst (v := -1) dL_law_1774 rfl rfl ?_
        refine am_iconst (v := 0) dL_law_1775 rfl rfl ?_
        refine am_bipush (v := 8) dL_law_1776 (by decide) rfl ?_
        refine am_cVi (As := [.int (0 : Int32), .int (0 : Int32), .int (-1 : Int32), .int (0 : Int32), .int (8 : Int32)]) (st := []) lk_L_law_69 rfl (Nat.le_of_ble_eq_true rfl) (Nat.le_of_ble_eq_true rfl) rfl dL_law_1778 rfl hf (fun b23 y22 hf => sfX8_at b23 _ _ _ _ _ _ y22 hf) (fun b23 y22 _ _ hf => ?_)
        refine am_bipush (v := -102) dL_law_1781 (by decide) rfl ?_
        refine am_icmp_ne (tgt := 1887) dL_law_1783 (by decide) rfl hf (fun hf => ?_) (fun hf => ?_)
        · refine am_iconst (v := 0) dL_law_1887 rfl rfl ?_
          exact am_zret rfl dL_law_1888 hf
        refine am_aload_n dL_law_1786 rfl rfl ?_
        refine am_iconst (v := 0) dL_law_1787 rfl rfl ?_
        refine am_iconst (v := 0) dL_law_1788 rfl rfl ?_
        refine am_iconst (v := -1) dL_law_1789 rfl rfl ?_
        refine am_iconst (v := 2) dL_law_1790 rfl rfl ?_
        refine am_cVi (As := [.int (0 : Int32), .int (0 : Int32), .int (-1 : Int32), .int (2 : Int32)]) (st := []) lk_L_law_73 rfl (Nat.le_of_ble_eq_true rfl) (Nat.le_of_ble_eq_true rfl) rfl dL_law_1791 rfl hf (fun b25 y24 hf => sfX8_even b25 _ _ _ _ _ y24 hf) (fun b25 y24 _ _ hf => ?_)
        refine am_bipush (v := -102) dL_law_1794 (by decide) rfl ?_
        refine am_icmp_ne (tgt := 1887) dL_law_1796 (by decide) rfl hf (fun hf => ?_) (fun hf => ?_)
        · refine am_iconst (v := 0) dL_law_1887 rfl rfl ?_
          exact am_zret rfl dL_law_1888 hf
        refine am_aload_n dL_law_1799 rfl rfl ?_
        refine am_iconst (v := 0) dL_law_1800 rfl rfl ?_
        refine am_iconst (v := 0) dL_law_1801 rfl rfl ?_
        refine am_iconst (v := -1) dL_law_1802 rfl rfl ?_
        refine am_iconst (v := 2) dL_law_1803 rfl rfl ?_
        refine am_cVi (As := [.int (0 : Int32), .int (0 : Int32), .int (-1 : Int32), .int (2 : Int32)]) (st := []) lk_L_law_85 rfl (Nat.le_of_ble_eq_true rfl) (Nat.le_of_ble_eq_true rfl) rfl dL_law_1804 rfl hf (fun b27 y26 hf => sfX8_mean b27 _ _ _ _ _ y26 hf) (fun b27 y26 _ _ hf => ?_)
        refine am_bipush (v := -102) dL_law_1807 (by decide) rfl ?_
        refine am_icmp_ne (tgt := 1887) dL_law_1809 (by decide) rfl hf (fun hf => ?_) (fun hf => ?_)
        · refine am_iconst (v := 0) dL_law_1887 rfl rfl ?_
          exact am_zret rfl dL_law_1888 hf
        refine am_aload_n dL_law_1812 rfl rfl ?_
        refine am_iconst (v := 0) dL_law_1813 rfl rfl ?_
        refine am_iconst (v := 0) dL_law_1814 rfl rfl ?_
        refine am_iconst (v := -1) dL_law_1815 rfl rfl ?_
        refine am_iconst (v := 4) dL_law_1816 rfl rfl ?_
        refine am_cVi (As := [.int (0 : Int32), .int (0 : Int32), .int (-1 : Int32), .int (4 : Int32)]) (st := []) lk_L_law_88 rfl (Nat.le_of_ble_eq_true rfl) (Nat.le_of_ble_eq_true rfl) rfl dL_law_1817 rfl hf (fun b29 y28 hf => sfX8_shows b29 _ _ _ _ _ y28 hf) (fun b29 y28 _ _ hf => ?_)
        refine am_bipush (v := -102) dL_law_1820 (by decide) rfl ?_
        refine am_icmp_ne (tgt := 1887) dL_law_1822 (by decide) rfl hf (fun hf => ?_) (fun hf => ?_)
        · refine am_iconst (v := 0) dL_law_1887 rfl rfl ?_
          exact am_zret rfl dL_law_1888 hf
        refine am_aload_n dL_law_1825 rfl rfl ?_
        refine am_iconst (v := 0) dL_law_1826 rfl rfl ?_
        refine am_iconst (v := 0) dL_law_1827 rfl rfl ?_
        refine am_iconst (v := -1) dL_law_1828 rfl rfl ?_
        refine am_bipush (v := 30) dL_law_1829 (by decide) rfl ?_
        refine am_cVi (As := [.int (0 : Int32), .int (0 : Int32), .int (-1 : Int32), .int (30 : Int32)]) (st := []) lk_L_law_88 rfl (Nat.le_of_ble_eq_true rfl) (Nat.le_of_ble_eq_true rfl) rfl dL_law_1831 rfl hf (fun b31 y30 hf => sfX8_shows b31 _ _ _ _ _ y30 hf) (fun b31 y30 _ _ hf => ?_)
        refine am_bipush (v := -102) dL_law_1834 (by decide) rfl ?_
        refine am_icmp_ne (tgt := 1887) dL_law_1836 (by decide) rfl hf (fun hf => ?_) (fun hf => ?_)
        · refine am_iconst (v := 0) dL_law_1887 rfl rfl ?_
          exact am_zret rfl dL_law_1888 hf
        refine am_aload_n dL_law_1839 rfl rfl ?_
        refine am_iconst (v := 1) dL_law_1840 rfl rfl ?_
        refine am_iconst (v := 0) dL_law_1841 rfl rfl ?_
        refine am_cVi (As := [.int (1 : Int32), .int (0 : Int32)]) (st := []) lk_L_law_91 rfl (Nat.le_of_ble_eq_true rfl) (Nat.le_of_ble_eq_true rfl) rfl dL_law_1842 rfl hf (fun b33 y32 hf => sfX8_worst b33 _ _ _ y32 hf) (fun b33 y32 _ _ hf => ?_)
        refine am_bipush (v := -101) dL_law_1845 (by decide) rfl ?_
        refine am_icmp_ne (tgt := 1887) dL_law_1847 (by decide) rfl hf (fun hf => ?_) (fun hf => ?_)
        · refine am_iconst (v := 0) dL_law_1887 rfl rfl ?_
          exact am_zret rfl dL_law_1888 hf
        refine am_aload_n dL_law_1850 rfl rfl ?_
        refine am_iconst (v := 0) dL_law_1851 rfl rfl ?_
        refine am_iconst (v := 3) dL_law_1852 rfl rfl ?_
        refine am_cVi (As := [.int (0 : Int32), .int (3 : Int32)]) (st := []) lk_L_law_91 rfl (Nat.le_of_ble_eq_true rfl) (Nat.le_of_ble_eq_true rfl) rfl dL_law_1853 rfl hf (fun b35 y34 hf => sfX8_worst b35 _ _ _ y34 hf) (fun b35 y34 _ _ hf => ?_)
        refine am_bipush (v := -102) dL_law_1856 (by decide) rfl ?_
        refine am_icmp_ne (tgt := 1887) dL_law_1858 (by decide) rfl hf (fun hf => ?_) (fun hf => ?_)
        · refine am_iconst (v := 0) dL_law_1887 rfl rfl ?_
          exact am_zret rfl dL_law_1888 hf
        refine am_aload_n dL_law_1861 rfl rfl ?_
        refine am_iconst (v := 0) dL_law_1862 rfl rfl ?_
        refine am_iconst (v := 1) dL_law_1863 rfl rfl ?_
        refine am_cVi (As := [.int (0 : Int32), .int (1 : Int32)]) (st := []) lk_L_law_94 rfl (Nat.le_of_ble_eq_true rfl) (Nat.le_of_ble_eq_true rfl) rfl dL_law_1864 rfl hf (fun b37 y36 hf => sfX8_better b37 _ _ _ y36 hf) (fun b37 y36 _ _ hf => ?_)
        refine am_bipush (v := -101) dL_law_1867 (by decide) rfl ?_
        refine am_icmp_ne (tgt := 1887) dL_law_1869 (by decide) rfl hf (fun hf => ?_) (fun hf => ?_)
        · refine am_iconst (v := 0) dL_law_1887 rfl rfl ?_
          exact am_zret rfl dL_law_1888 hf
        refine am_aload_n dL_law_1872 rfl rfl ?_
        refine am_iload dL_law_1873 rfl rfl ?_
        refine am_cVi (As := [.int v5]) (st := []) lk_L_law_55 rfl (Nat.le_of_ble_eq_true rfl) (Nat.le_of_ble_eq_true rfl) rfl dL_law_1875 rfl hf (fun b39 y38 hf => sfX8_head b39 _ _ y38 hf) (fun b39 y38 _ _ hf => ?_)
        refine am_bipush (v := -101) dL_law_1878 (by decide) rfl ?_
        refine am_icmp_ne (tgt := 1887) dL_law_1880 (by decide) rfl hf (fun hf => ?_) (fun hf => ?_)
        · refine am_iconst (v := 0) dL_law_1887 rfl rfl ?_
          exact am_zret rfl dL_law_1888 hf
        refine am_iconst (v := 1) dL_law_1883 rfl rfl ?_
        refine am_goto (pc' := 1888) dL_law_1884 (by decide) ?_
        exact am_zret rfl dL_law_1888 hf
      refine am_iconst (v := 0) dL_law_1680 rfl rfl ?_
      exact am_zret rfl dL_law_1681 hf
    refine am_aload_n dL_law_1527 rfl rfl ?_
    refine am_aload_n dL_law_1528 rfl rfl ?_
    refine am_iload dL_law_1529 rfl rfl ?_
    refine am_iald dL_law_1531 rfl hf (fun x40 _ hf => ?_)
    refine am_iconst (v := 0) dL_law_1532 rfl rfl ?_
    refine am_iconst (v := 0) dL_law_1533 rfl rfl ?_
    refine am_iconst (v := 0) dL_law_1534 rfl rfl ?_
    refine am_iconst (v := 0) dL_law_1535 rfl rfl ?_
    refine am_iconst (v := 0) dL_law_1536 rfl rfl ?_
    refine am_aload dL_law_1537 rfl rfl ?_
    refine am_cSv (As := [va_rf v2, .int x40, .int (0 : Int32), .int (0 : Int32), .int (0 : Int32), .int (0 : Int32), .int (0 : Int32), va_rf v10]) (st := []) lk_L_law_65 rfl (by simp only [am_e1_r, am_e1_i, am_e1_l, am_e1_n]; exact Nat.le_of_ble_eq_true rfl) (Nat.le_of_ble_eq_true rfl) rfl dL_law_1539 rfl hf (fun y41 hf => sfL_run _ _ _ _ _ _ _ _ _ y41 hf) (fun y41 _ hf => ?_)
    refine am_iconst (v := 0) dL_law_1542 rfl rfl ?_
    refine am_istore (ls' := [none, some (va_rf v1), some (va_rf v2), some (va_rf v3), some (va_rf v4), some (.int v5), none, none, none, some (.int v9), some (va_rf v10), some (.int v11), some (.int v12), some (.int v13), some (.int v14), some (.int (0 : Int32)), none, none, none, none, none, none, none, none, none, none, none, none, none, none, none, none, none, none, none, none, none, none]) dL_law_1543 (by decide) rfl rfl ?_
    exact (sfL_law_1545 ih _) _ _ _ _ _ _ _ _ _ _ _ _ _ _ hf
set_option maxRecDepth 20000 in
set_option maxHeartbeats 4000000 in
theorem sfL_law_514 {G : am_G}  {k489 : Option Nat → Option Nat → Option Nat → Option Nat → Int32 → Option Nat → Option Nat → Option Nat → Int32 → Option Nat → Int32 → am_H → Option (Int32 × am_H)} (hk489 : ∀ (v1 : Option Nat) (v2 : Option Nat) (v3 : Option Nat) (v4 : Option Nat) (v5 : Int32) (v6 : Option Nat) (v7 : Option Nat) (v8 : Option Nat) (v9 : Int32) (v10 : Option Nat) (v11 : Int32) (h : am_H) (y : Int32 × am_H), k489 v1 v2 v3 v4 v5 v6 v7 v8 v9 v10 v11 h = some y → am_S G miL_law 489 [some (va_rf (some 0)), some (va_rf v1), some (va_rf v2), some (va_rf v3), some (va_rf v4), some (.int v5), some (va_rf v6), some (va_rf v7), some (va_rf v8), some (.int v9), some (va_rf v10), some (.int v11), none, none, none, none, none, none, none, none, none, none, none, none, none, none, none, none, none, none, none, none, none, none, none, none, none, none] [] h (some (.int y.1)) y.2) (v1 : Option Nat) (v2 : Option Nat) (v3 : Option Nat) (v4 : Option Nat) (v5 : Int32) (v6 : Option Nat) (v7 : Option Nat) (v8 : Option Nat) (v9 : Int32) (v10 : Option Nat) (v11 : Int32) (s0 : Int32) (h : am_H) (y : Int32 × am_H) (hf : fL_law_514 G.2.2.2.2.1 G.2.2.2.2.2 k489 v1 v2 v3 v4 v5 v6 v7 v8 v9 v10 v11 s0 h = some y) : am_S G miL_law 514 [some (va_rf (some 0)), some (va_rf v1), some (va_rf v2), some (va_rf v3), some (va_rf v4), some (.int v5), some (va_rf v6), some (va_rf v7), some (va_rf v8), some (.int v9), some (va_rf v10), some (.int v11), none, none, none, none, none, none, none, none, none, none, none, none, none, none, none, none, none, none, none, none, none, none, none, none, none, none] [.int s0] h (some (.int y.1)) y.2 := by
  unfold fL_law_514 at hf
  refine am_istore (ls' := [some (va_rf (some 0)), some (va_rf v1), some (va_rf v2), some (va_rf v3), some (va_rf v4), some (.int v5), some (va_rf v6), some (va_rf v7), some (va_rf v8), some (.int v9), some (va_rf v10), some (.int v11), some (.int s0), none, none, none, none, none, none, none, none, none, none, none, none, none, none, none, none, none, none, none, none, none, none, none, none, none]) dL_law_514 (by decide) rfl rfl ?_
  refine am_iload dL_law_516 rfl rfl ?_
  refine am_if_ge (tgt := 525) dL_law_518 (by decide) rfl hf (fun hf => ?_) (fun hf => ?_)
  · refine am_iload dL_law_525 rfl rfl ?_
    refine am_iconst (v := 5) dL_law_527 rfl rfl ?_
    refine am_irem dL_law_528 rfl hf (fun hf => ?_)
    exact (sfL_law_529 hk489) _ _ _ _ _ _ _ _ _ _ _ _ _ _ _ hf
  refine am_iconst (v := 0) dL_law_521 rfl rfl ?_
  refine am_goto (pc' := 529) dL_law_522 (by decide) ?_
  exact (sfL_law_529 hk489) _ _ _ _ _ _ _ _ _ _ _ _ _ _ _ hf
set_option maxRecDepth 20000 in
set_option maxHeartbeats 4000000 in
theorem sfL_law_342 {G : am_G}  {k195 : Option Nat → Option Nat → Option Nat → Option Nat → Int32 → Option Nat → Option Nat → Option Nat → Int32 → am_H → Option (Int32 × am_H)} (hk195 : ∀ (v1 : Option Nat) (v2 : Option Nat) (v3 : Option Nat) (v4 : Option Nat) (v5 : Int32) (v6 : Option Nat) (v7 : Option Nat) (v8 : Option Nat) (v9 : Int32) (h : am_H) (y : Int32 × am_H), k195 v1 v2 v3 v4 v5 v6 v7 v8 v9 h = some y → am_S G miL_law 195 [some (va_rf (some 0)), some (va_rf v1), some (va_rf v2), some (va_rf v3), some (va_rf v4), some (.int v5), some (va_rf v6), some (va_rf v7), some (va_rf v8), some (.int v9), none, none, none, none, none, none, none, none, none, none, none, none, none, none, none, none, none, none, none, none, none, none, none, none, none, none, none, none] [] h (some (.int y.1)) y.2) (v1 : Option Nat) (v2 : Option Nat) (v3 : Option Nat) (v4 : Option Nat) (v5 : Int32) (v6 : Option Nat) (v7 : Option Nat) (v8 : Option Nat) (v9 : Int32) (s0 : Option Nat) (s1 : Int32) (s2 : Int32) (h : am_H) (y : Int32 × am_H) (hf : fL_law_342 G.2.2.2.2.1 G.2.2.2.2.2 k195 v1 v2 v3 v4 v5 v6 v7 v8 v9 s0 s1 s2 h = some y) : am_S G miL_law 342 [some (va_rf (some 0)), some (va_rf v1), some (va_rf v2), some (va_rf v3), some (va_rf v4), some (.int v5), some (va_rf v6), some (va_rf v7), some (va_rf v8), some (.int v9), none, none, none, none, none, none, none, none, none, none, none, none, none, none, none, none, none, none, none, none, none, none, none, none, none, none, none, none] [.int s2, .int s1, va_rf s0] h (some (.int y.1)) y.2 := by
  unfold fL_law_342 at hf
  refine am_iast dL_law_342 rfl hf (fun h1 _ hf => ?_)
  refine am_aload_n dL_law_343 rfl rfl ?_
  refine am_aload dL_law_344 rfl rfl ?_
  refine am_iload dL_law_346 rfl rfl ?_
  refine am_iald dL_law_348 rfl hf (fun x2 _ hf => ?_)
  refine am_aload dL_law_349 rfl rfl ?_
  refine am_iload dL_law_351 rfl rfl ?_
  refine am_iald dL_law_353 rfl hf (fun x3 _ hf => ?_)
  refine am_aload dL_law_354 rfl rfl ?_
  refine am_iload dL_law_356 rfl rfl ?_
  refine am_iald dL_law_358 rfl hf (fun x4 _ hf => ?_)
  refine am_cVi (As := [.int x2, .int x3, .int x4]) (st := []) lk_L_law_48 rfl (Nat.le_of_ble_eq_true rfl) (Nat.le_of_ble_eq_true rfl) rfl dL_law_359 rfl hf (fun b6 y5 hf => sfX8_work b6 _ _ _ _ y5 hf) (fun b6 y5 _ _ hf => ?_)
  refine am_iload dL_law_362 rfl rfl ?_
  refine am_icmp_eq (tgt := 369) dL_law_364 (by decide) rfl hf (fun hf => ?_) (fun hf => ?_)
  · refine am_iconst (v := 0) dL_law_369 rfl rfl ?_
    refine am_istore (ls' := [some (va_rf (some 0)), some (va_rf v1), some (va_rf v2), some (va_rf v3), some (va_rf v4), some (.int v5), some (va_rf v6), some (va_rf v7), some (va_rf v8), some (.int v9), none, some (.int (0 : Int32)), none, none, none, none, none, none, none, none, none, none, none, none, none, none, none, none, none, none, none, none, none, none, none, none, none, none]) dL_law_370 (by decide) rfl rfl ?_
    exact (sfL_law_372 hk195 _) _ _ _ _ _ _ _ _ _ _ _ _ hf
  refine am_iconst (v := 0) dL_law_367 rfl rfl ?_
  exact am_zret rfl dL_law_368 hf
set_option maxRecDepth 20000 in
set_option maxHeartbeats 4000000 in
theorem sfL_law_329 {G : am_G}  {k342 : Option Nat → Option Nat → Option Nat → Option Nat → Int32 → Option Nat → Option Nat → Option Nat → Int32 → Option Nat → Int32 → Int32 → am_H → Option (Int32 × am_H)} (hk342 : ∀ (v1 : Option Nat) (v2 : Option Nat) (v3 : Option Nat) (v4 : Option Nat) (v5 : Int32) (v6 : Option Nat) (v7 : Option Nat) (v8 : Option Nat) (v9 : Int32) (s0 : Option Nat) (s1 : Int32) (s2 : Int32) (h : am_H) (y : Int32 × am_H), k342 v1 v2 v3 v4 v5 v6 v7 v8 v9 s0 s1 s2 h = some y → am_S G miL_law 342 [some (va_rf (some 0)), some (va_rf v1), some (va_rf v2), some (va_rf v3), some (va_rf v4), some (.int v5), some (va_rf v6), some (va_rf v7), some (va_rf v8), some (.int v9), none, none, none, none, none, none, none, none, none, none, none, none, none, none, none, none, none, none, none, none, none, none, none, none, none, none, none, none] [.int s2, .int s1, va_rf s0] h (some (.int y.1)) y.2) (v1 : Option Nat) (v2 : Option Nat) (v3 : Option Nat) (v4 : Option Nat) (v5 : Int32) (v6 : Option Nat) (v7 : Option Nat) (v8 : Option Nat) (v9 : Int32) (s0 : Option Nat) (s1 : Int32) (h : am_H) (y : Int32 × am_H) (hf : fL_law_329 G.2.2.2.2.1 G.2.2.2.2.2 k342 v1 v2 v3 v4 v5 v6 v7 v8 v9 s0 s1 h = some y) : am_S G miL_law 329 [some (va_rf (some 0)), some (va_rf v1), some (va_rf v2), some (va_rf v3), some (va_rf v4), some (.int v5), some (va_rf v6), some (va_rf v7), some (va_rf v8), some (.int v9), none, none, none, none, none, none, none, none, none, none, none, none, none, none, none, none, none, none, none, none, none, none, none, none, none, none, none, none] [.int s1, va_rf s0] h (some (.int y.1)) y.2 := by
  unfold fL_law_329 at hf
  refine am_iconst (v := -1) dL_law_329 rfl rfl ?_
  refine am_goto (pc' := 342) dL_law_330 (by decide) ?_
  exact hk342 _ _ _ _ _ _ _ _ _ _ _ _ _ _ hf
set_option maxRecDepth 20000 in
set_option maxHeartbeats 4000000 in
theorem sfL_law_489 {G : am_G}  : ∀ (n : Nat) (v1 : Option Nat) (v2 : Option Nat) (v3 : Option Nat) (v4 : Option Nat) (v5 : Int32) (v6 : Option Nat) (v7 : Option Nat) (v8 : Option Nat) (v9 : Int32) (v10 : Option Nat) (v11 : Int32) (h : am_H) (y : Int32 × am_H) (hf : fL_law_489 G.2.2.2.2.1 G.2.2.2.2.2  n v1 v2 v3 v4 v5 v6 v7 v8 v9 v10 v11 h = some y), am_S G miL_law 489 [some (va_rf (some 0)), some (va_rf v1), some (va_rf v2), some (va_rf v3), some (va_rf v4), some (.int v5), some (va_rf v6), some (va_rf v7), some (va_rf v8), some (.int v9), some (va_rf v10), some (.int v11), none, none, none, none, none, none, none, none, none, none, none, none, none, none, none, none, none, none, none, none, none, none, none, none, none, none] [] h (some (.int y.1)) y.2 := by
  intro n
  induction n with
  | zero => intro v1 v2 v3 v4 v5 v6 v7 v8 v9 v10 v11 h y hf; cases hf
  | succ n ih =>
    intro v1 v2 v3 v4 v5 v6 v7 v8 v9 v10 v11 h y hf
    have hf : fL_law_489_b G.2.2.2.2.1 G.2.2.2.2.2  (fL_law_489 G.2.2.2.2.1 G.2.2.2.2.2  n) v1 v2 v3 v4 v5 v6 v7 v8 v9 v10 v11 h = some y := hf
    unfold fL_law_489_b at hf
    refine am_iload dL_law_489 rfl rfl ?_
    refine am_iload dL_law_491 rfl rfl ?_
    refine am_icmp_ge (tgt := 1509) dL_law_493 (by decide) rfl hf (fun hf => ?_) (fun hf => ?_)
    · refine am_iconst (v := -1) dL_law_1509 rfl rfl ?_
      refine am_istore (ls' := [some (va_rf (some 0)), some (va_rf v1), some (va_rf v2), some (va_rf v3), some (va_rf v4), some (.int v5), some (va_rf v6), some (va_rf v7), some (va_rf v8), some (.int v9), some (va_rf v10), some (.int (-1 : Int32)), none, none, none, none, none, none, none, none, none, none, none, none, none, none, none, none, none, none, none, none, none, none, none, none, none, none]) dL_law_1510 (by decide) (am_s1_r (j := 10) rfl rfl) rfl ?_
      refine am_iconst (v := 0) dL_law_1512 rfl rfl ?_
      refine am_istore (ls' := [some (va_rf (some 0)), some (va_rf v1), some (va_rf v2), some (va_rf v3), some (va_rf v4), some (.int v5), some (va_rf v6), some (va_rf v7), some (va_rf v8), some (.int v9), some (va_rf v10), some (.int (-1 : Int32)), some (.int (0 : Int32)), none, none, none, none, none, none, none, none, none, none, none, none, none, none, none, none, none, none, none, none, none, none, none, none, none]) dL_law_1513 (by decide) rfl rfl ?_
      refine am_iconst (v := 0) dL_law_1515 rfl rfl ?_
      refine am_istore (ls' := [some (va_rf (some 0)), some (va_rf v1), some (va_rf v2), some (va_rf v3), some (va_rf v4), some (.int v5), some (va_rf v6), some (va_rf v7), some (va_rf v8), some (.int v9), some (va_rf v10), some (.int (-1 : Int32)), some (.int (0 : Int32)), some (.int (0 : Int32)), none, none, none, none, none, none, none, none, none, none, none, none, none, none, none, none, none, none, none, none, none, none, none, none]) dL_law_1516 (by decide) rfl rfl ?_
      refine am_iconst (v := 0) dL_law_1518 rfl rfl ?_
      refine am_istore (ls' := [some (va_rf (some 0)), some (va_rf v1), some (va_rf v2), some (va_rf v3), some (va_rf v4), some (.int v5), some (va_rf v6), some (va_rf v7), some (va_rf v8), some (.int v9), some (va_rf v10), some (.int (-1 : Int32)), some (.int (0 : Int32)), some (.int (0 : Int32)), some (.int (0 : Int32)), none, none, none, none, none, none, none, none, none, none, none, none, none, none, none, none, none, none, none, none, none, none, none]) dL_law_1519 (by decide) rfl rfl ?_
      exact am_we ((sfL_law_1521 _) _ _ _ _ _ _ _ _ _ _ _ _ _ hf) ⟨Or.inl rfl, Or.inr rfl, Or.inr rfl, Or.inr rfl, Or.inr rfl, Or.inr rfl, Or.inl rfl, Or.inl rfl, Or.inl rfl, Or.inr rfl, Or.inr rfl, Or.inr rfl, Or.inr rfl, Or.inr rfl, Or.inr rfl, Or.inl rfl, Or.inl rfl, Or.inl rfl, Or.inl rfl, Or.inl rfl, Or.inl rfl, Or.inl rfl, Or.inl rfl, Or.inl rfl, Or.inl rfl, Or.inl rfl, Or.inl rfl, Or.inl rfl, Or.inl rfl, Or.inl rfl, Or.inl rfl, Or.inl rfl, Or.inl rfl, Or.inl rfl, Or.inl rfl, Or.inl rfl, Or.inl rfl, Or.inl rfl, trivial⟩
    refine am_iload dL_law_496 rfl rfl ?_
    refine am_if_ge (tgt := 505) dL_law_498 (by decide) rfl hf (fun hf => ?_) (fun hf => ?_)
    · refine am_aload_n dL_law_505 rfl rfl ?_
      refine am_bipush (v := 15) dL_law_506 (by decide) rfl ?_
      refine am_iload dL_law_508 rfl rfl ?_
      refine am_iadd dL_law_510 rfl ?_
      refine am_cSi (As := [va_rf (some 0), .int ((15 : Int32) + v11)]) (st := []) lk_L_law_37 rfl (by simp only [am_e1_r, am_e1_i, am_e1_l, am_e1_n]; exact Nat.le_of_ble_eq_true rfl) (Nat.le_of_ble_eq_true rfl) rfl dL_law_511 rfl hf (fun y1 hf => sfL_cell _ _ y1 hf) (fun y1 _ hf => ?_)
      exact (sfL_law_514 ih) _ _ _ _ _ _ _ _ _ _ _ _ _ _ hf
    refine am_iconst (v := 0) dL_law_501 rfl rfl ?_
    refine am_goto (pc' := 514) dL_law_502 (by decide) ?_
    exact (sfL_law_514 ih) _ _ _ _ _ _ _ _ _ _ _ _ _ _ hf
set_option maxRecDepth 20000 in
set_option maxHeartbeats 4000000 in
theorem sfL_law_308 {G : am_G}  {k195 : Option Nat → Option Nat → Option Nat → Option Nat → Int32 → Option Nat → Option Nat → Option Nat → Int32 → am_H → Option (Int32 × am_H)} (hk195 : ∀ (v1 : Option Nat) (v2 : Option Nat) (v3 : Option Nat) (v4 : Option Nat) (v5 : Int32) (v6 : Option Nat) (v7 : Option Nat) (v8 : Option Nat) (v9 : Int32) (h : am_H) (y : Int32 × am_H), k195 v1 v2 v3 v4 v5 v6 v7 v8 v9 h = some y → am_S G miL_law 195 [some (va_rf (some 0)), some (va_rf v1), some (va_rf v2), some (va_rf v3), some (va_rf v4), some (.int v5), some (va_rf v6), some (va_rf v7), some (va_rf v8), some (.int v9), none, none, none, none, none, none, none, none, none, none, none, none, none, none, none, none, none, none, none, none, none, none, none, none, none, none, none, none] [] h (some (.int y.1)) y.2) (v1 : Option Nat) (v2 : Option Nat) (v3 : Option Nat) (v4 : Option Nat) (v5 : Int32) (v6 : Option Nat) (v7 : Option Nat) (v8 : Option Nat) (v9 : Int32) (v10 : Int32) (s0 : Option Nat) (s1 : Int32) (s2 : Int32) (h : am_H) (y : Int32 × am_H) (hf : fL_law_308 G.2.2.2.2.1 G.2.2.2.2.2 k195 v1 v2 v3 v4 v5 v6 v7 v8 v9 v10 s0 s1 s2 h = some y) : am_S G miL_law 308 [some (va_rf (some 0)), some (va_rf v1), some (va_rf v2), some (va_rf v3), some (va_rf v4), some (.int v5), some (va_rf v6), some (va_rf v7), some (va_rf v8), some (.int v9), some (.int v10), none, none, none, none, none, none, none, none, none, none, none, none, none, none, none, none, none, none, none, none, none, none, none, none, none, none, none] [.int s2, .int s1, va_rf s0] h (some (.int y.1)) y.2 := by
  unfold fL_law_308 at hf
  refine am_iast dL_law_308 rfl hf (fun h1 _ hf => ?_)
  refine am_aload dL_law_309 rfl rfl ?_
  refine am_iload dL_law_311 rfl rfl ?_
  refine am_iload dL_law_313 rfl rfl ?_
  refine am_if_eq (tgt := 329) dL_law_315 (by decide) rfl hf (fun hf => ?_) (fun hf => ?_)
  · exact am_we ((sfL_law_329 (sfL_law_342 hk195)) _ _ _ _ _ _ _ _ _ _ _ _ _ hf) ⟨Or.inr rfl, Or.inr rfl, Or.inr rfl, Or.inr rfl, Or.inr rfl, Or.inr rfl, Or.inr rfl, Or.inr rfl, Or.inr rfl, Or.inr rfl, Or.inl rfl, Or.inl rfl, Or.inl rfl, Or.inl rfl, Or.inl rfl, Or.inl rfl, Or.inl rfl, Or.inl rfl, Or.inl rfl, Or.inl rfl, Or.inl rfl, Or.inl rfl, Or.inl rfl, Or.inl rfl, Or.inl rfl, Or.inl rfl, Or.inl rfl, Or.inl rfl, Or.inl rfl, Or.inl rfl, Or.inl rfl, Or.inl rfl, Or.inl rfl, Or.inl rfl, Or.inl rfl, Or.inl rfl, Or.inl rfl, Or.inl rfl, trivial⟩
  refine am_iload dL_law_318 rfl rfl ?_
  refine am_sipush (v := 256) dL_law_320 (by decide) rfl ?_
  refine am_idiv dL_law_323 rfl hf (fun hf => ?_)
  refine am_iconst (v := 4) dL_law_324 rfl rfl ?_
  refine am_irem dL_law_325 rfl hf (fun hf => ?_)
  refine am_if_ne (tgt := 333) dL_law_326 (by decide) rfl hf (fun hf => ?_) (fun hf => ?_)
  · refine am_iload dL_law_333 rfl rfl ?_
    refine am_sipush (v := 1024) dL_law_335 (by decide) rfl ?_
    refine am_idiv dL_law_338 rfl hf (fun hf => ?_)
    refine am_iload dL_law_339 rfl rfl ?_
    refine am_irem dL_law_341 rfl hf (fun hf => ?_)
    exact am_we ((sfL_law_342 hk195) _ _ _ _ _ _ _ _ _ _ _ _ _ _ hf) ⟨Or.inr rfl, Or.inr rfl, Or.inr rfl, Or.inr rfl, Or.inr rfl, Or.inr rfl, Or.inr rfl, Or.inr rfl, Or.inr rfl, Or.inr rfl, Or.inl rfl, Or.inl rfl, Or.inl rfl, Or.inl rfl, Or.inl rfl, Or.inl rfl, Or.inl rfl, Or.inl rfl, Or.inl rfl, Or.inl rfl, Or.inl rfl, Or.inl rfl, Or.inl rfl, Or.inl rfl, Or.inl rfl, Or.inl rfl, Or.inl rfl, Or.inl rfl, Or.inl rfl, Or.inl rfl, Or.inl rfl, Or.inl rfl, Or.inl rfl, Or.inl rfl, Or.inl rfl, Or.inl rfl, Or.inl rfl, Or.inl rfl, trivial⟩
  exact am_we ((sfL_law_329 (sfL_law_342 hk195)) _ _ _ _ _ _ _ _ _ _ _ _ _ hf) ⟨Or.inr rfl, Or.inr rfl, Or.inr rfl, Or.inr rfl, Or.inr rfl, Or.inr rfl, Or.inr rfl, Or.inr rfl, Or.inr rfl, Or.inr rfl, Or.inl rfl, Or.inl rfl, Or.inl rfl, Or.inl rfl, Or.inl rfl, Or.inl rfl, Or.inl rfl, Or.inl rfl, Or.inl rfl, Or.inl rfl, Or.inl rfl, Or.inl rfl, Or.inl rfl, Or.inl rfl, Or.inl rfl, Or.inl rfl, Or.inl rfl, Or.inl rfl, Or.inl rfl, Or.inl rfl, Or.inl rfl, Or.inl rfl, Or.inl rfl, Or.inl rfl, Or.inl rfl, Or.inl rfl, Or.inl rfl, Or.inl rfl, trivial⟩
set_option maxRecDepth 20000 in
set_option maxHeartbeats 4000000 in
theorem sfL_law_121 {G : am_G}  {k51 : Option Nat → Option Nat → Option Nat → Option Nat → Int32 → am_H → Option (Int32 × am_H)} (hk51 : ∀ (v1 : Option Nat) (v2 : Option Nat) (v3 : Option Nat) (v4 : Option Nat) (v5 : Int32) (h : am_H) (y : Int32 × am_H), k51 v1 v2 v3 v4 v5 h = some y → am_S G miL_law 51 [some (va_rf (some 0)), some (va_rf v1), some (va_rf v2), some (va_rf v3), some (va_rf v4), some (.int v5), none, none, none, none, none, none, none, none, none, none, none, none, none, none, none, none, none, none, none, none, none, none, none, none, none, none, none, none, none, none, none, none] [] h (some (.int y.1)) y.2) (v1 : Option Nat) (v2 : Option Nat) (v3 : Option Nat) (v4 : Option Nat) (v5 : Int32) (s0 : Option Nat) (s1 : Int32) (s2 : Int32) (h : am_H) (y : Int32 × am_H) (hf : fL_law_121 G.2.2.2.2.1 G.2.2.2.2.2 k51 v1 v2 v3 v4 v5 s0 s1 s2 h = some y) : am_S G miL_law 121 [some (va_rf (some 0)), some (va_rf v1), some (va_rf v2), some (va_rf v3), some (va_rf v4), some (.int v5), none, none, none, none, none, none, none, none, none, none, none, none, none, none, none, none, none, none, none, none, none, none, none, none, none, none, none, none, none, none, none, none] [.int s2, .int s1, va_rf s0] h (some (.int y.1)) y.2 := by
  unfold fL_law_121 at hf
  refine am_iast dL_law_121 rfl hf (fun h1 _ hf => ?_)
  refine am_aload_n dL_law_122 rfl rfl ?_
  refine am_iload dL_law_123 rfl rfl ?_
  refine am_iconst (v := 0) dL_law_125 rfl rfl ?_
  refine am_aload_n dL_law_126 rfl rfl ?_
  refine am_iload dL_law_127 rfl rfl ?_
  refine am_iald dL_law_129 rfl hf (fun x2 _ hf => ?_)
  refine am_cVi (As := [.int v5, .int (0 : Int32), .int x2]) (st := []) lk_L_law_44 rfl (Nat.le_of_ble_eq_true rfl) (Nat.le_of_ble_eq_true rfl) rfl dL_law_130 rfl hf (fun b4 y3 hf => sfX8_season b4 _ _ _ _ y3 hf) (fun b4 y3 _ _ hf => ?_)
  refine am_bipush (v := 100) dL_law_133 (by decide) rfl ?_
  refine am_icmp_ne (tgt := 155) dL_law_135 (by decide) rfl hf (fun hf => ?_) (fun hf => ?_)
  · refine am_iconst (v := 0) dL_law_155 rfl rfl ?_
    exact am_zret rfl dL_law_156 hf
  refine am_aload_n dL_law_138 rfl rfl ?_
  refine am_iload dL_law_139 rfl rfl ?_
  refine am_iconst (v := 1) dL_law_141 rfl rfl ?_
  refine am_aload dL_law_142 rfl rfl ?_
  refine am_iload dL_law_144 rfl rfl ?_
  refine am_iald dL_law_146 rfl hf (fun x5 _ hf => ?_)
  refine am_cVi (As := [.int v5, .int (1 : Int32), .int x5]) (st := []) lk_L_law_44 rfl (Nat.le_of_ble_eq_true rfl) (Nat.le_of_ble_eq_true rfl) rfl dL_law_147 rfl hf (fun b7 y6 hf => sfX8_season b7 _ _ _ _ y6 hf) (fun b7 y6 _ _ hf => ?_)
  refine am_bipush (v := 48) dL_law_150 (by decide) rfl ?_
  refine am_icmp_eq (tgt := 157) dL_law_152 (by decide) rfl hf (fun hf => ?_) (fun hf => ?_)
  · refine am_iinc (ls' := [some (va_rf (some 0)), some (va_rf v1), some (va_rf v2), some (va_rf v3), some (va_rf v4), some (.int (v5 + (1 : Int32))), none, none, none, none, none, none, none, none, none, none, none, none, none, none, none, none, none, none, none, none, none, none, none, none, none, none, none, none, none, none, none, none]) dL_law_157 rfl rfl (by decide) (am_s1_r (j := 4) rfl rfl) rfl ?_
    refine am_goto (pc' := 51) dL_law_160 (by decide) ?_
    exact hk51 _ _ _ _ _ _ _ hf
  refine am_iconst (v := 0) dL_law_155 rfl rfl ?_
  exact am_zret rfl dL_law_156 hf
set_option maxRecDepth 20000 in
set_option maxHeartbeats 4000000 in
theorem sfL_law_195 {G : am_G}  : ∀ (n : Nat) (v1 : Option Nat) (v2 : Option Nat) (v3 : Option Nat) (v4 : Option Nat) (v5 : Int32) (v6 : Option Nat) (v7 : Option Nat) (v8 : Option Nat) (v9 : Int32) (h : am_H) (y : Int32 × am_H) (hf : fL_law_195 G.2.2.2.2.1 G.2.2.2.2.2  n v1 v2 v3 v4 v5 v6 v7 v8 v9 h = some y), am_S G miL_law 195 [some (va_rf (some 0)), some (va_rf v1), some (va_rf v2), some (va_rf v3), some (va_rf v4), some (.int v5), some (va_rf v6), some (va_rf v7), some (va_rf v8), some (.int v9), none, none, none, none, none, none, none, none, none, none, none, none, none, none, none, none, none, none, none, none, none, none, none, none, none, none, none, none] [] h (some (.int y.1)) y.2 := by
  intro n
  induction n with
  | zero => intro v1 v2 v3 v4 v5 v6 v7 v8 v9 h y hf; cases hf
  | succ n ih =>
    intro v1 v2 v3 v4 v5 v6 v7 v8 v9 h y hf
    have hf : fL_law_195_b G.2.2.2.2.1 G.2.2.2.2.2  (fL_law_195 G.2.2.2.2.1 G.2.2.2.2.2  n) v1 v2 v3 v4 v5 v6 v7 v8 v9 h = some y := hf
    unfold fL_law_195_b at hf
    refine am_iload dL_law_195 rfl rfl ?_
    refine am_iload dL_law_197 rfl rfl ?_
    refine am_icmp_ge (tgt := 439) dL_law_199 (by decide) rfl hf (fun hf => ?_) (fun hf => ?_)
    · refine am_aload_n dL_law_439 rfl rfl ?_
      refine am_iload dL_law_440 rfl rfl ?_
      refine am_iconst (v := 1) dL_law_442 rfl rfl ?_
      refine am_isub dL_law_443 rfl ?_
      refine am_cVi (As := [.int (v5 - (1 : Int32))]) (st := []) lk_L_law_55 rfl (Nat.le_of_ble_eq_true rfl) (Nat.le_of_ble_eq_true rfl) rfl dL_law_444 rfl hf (fun b2 y1 hf => sfX8_head b2 _ _ y1 hf) (fun b2 y1 _ _ hf => ?_)
      refine am_iconst (v := -1) dL_law_447 rfl rfl ?_
      refine am_icmp_ne (tgt := 466) dL_law_448 (by decide) rfl hf (fun hf => ?_) (fun hf => ?_)
      · refine am_iconst (v := 0) dL_law_466 rfl rfl ?_
        exact am_zret rfl dL_law_467 hf
      refine am_aload_n dL_law_451 rfl rfl ?_
      refine am_iload dL_law_452 rfl rfl ?_
      refine am_iconst (v := 1) dL_law_454 rfl rfl ?_
      refine am_isub dL_law_455 rfl ?_
      refine am_cVi (As := [.int (v5 - (1 : Int32))]) (st := []) lk_L_law_55 rfl (Nat.le_of_ble_eq_true rfl) (Nat.le_of_ble_eq_true rfl) rfl dL_law_456 rfl hf (fun b4 y3 hf => sfX8_head b4 _ _ y3 hf) (fun b4 y3 _ _ hf => ?_)
      refine am_iload dL_law_459 rfl rfl ?_
      refine am_iconst (v := 1) dL_law_461 rfl rfl ?_
      refine am_isub dL_law_462 rfl ?_
      refine am_icmp_eq (tgt := 468) dL_law_463 (by decide) rfl hf (fun hf => ?_) (fun hf => ?_)
      · refine am_iconst (v := 1) dL_law_468 rfl rfl ?_
        refine am_aload_n dL_law_469 rfl rfl ?_
        refine am_bipush (v := 14) dL_law_470 (by decide) rfl ?_
        refine am_cSi (As := [va_rf (some 0), .int (14 : Int32)]) (st := [.int (1 : Int32)]) lk_L_law_37 rfl (by simp only [am_e1_r, am_e1_i, am_e1_l, am_e1_n]; exact Nat.le_of_ble_eq_true rfl) (Nat.le_of_ble_eq_true rfl) rfl dL_law_472 rfl hf (fun y5 hf => sfL_cell _ _ y5 hf) (fun y5 _ hf => ?_)
        refine am_iconst (v := 4) dL_law_475 rfl rfl ?_
        refine am_irem dL_law_476 rfl hf (fun hf => ?_)
        refine am_iadd dL_law_477 rfl ?_
        refine am_istore (ls' := [some (va_rf (some 0)), some (va_rf v1), some (va_rf v2), some (va_rf v3), some (va_rf v4), some (.int v5), some (va_rf v6), some (va_rf v7), some (va_rf v8), some (.int ((1 : Int32) + (y5.1 - y5.1 / (4 : Int32) * (4 : Int32)))), none, none, none, none, none, none, none, none, none, none, none, none, none, none, none, none, none, none, none, none, none, none, none, none, none, none, none, none]) dL_law_478 (by decide) (am_s1_r (j := 8) rfl rfl) rfl ?_
        refine am_bipush (v := 22) dL_law_480 (by decide) rfl ?_
        refine am_newarr (t := 0) rfl (by decide) rfl ac_0 dL_law_482 rfl hf (fun y6 _ hf => ?_)
        refine am_astore (ls' := [some (va_rf (some 0)), some (va_rf v1), some (va_rf v2), some (va_rf v3), some (va_rf v4), some (.int v5), some (va_rf v6), some (va_rf v7), some (va_rf v8), some (.int ((1 : Int32) + (y5.1 - y5.1 / (4 : Int32) * (4 : Int32)))), some (va_rf y6.1), none, none, none, none, none, none, none, none, none, none, none, none, none, none, none, none, none, none, none, none, none, none, none, none, none, none, none]) dL_law_484 (by decide) rfl rfl ?_
        refine am_iconst (v := -1) dL_law_486 rfl rfl ?_
        refine am_istore (ls' := [some (va_rf (some 0)), some (va_rf v1), some (va_rf v2), some (va_rf v3), some (va_rf v4), some (.int v5), some (va_rf v6), some (va_rf v7), some (va_rf v8), some (.int ((1 : Int32) + (y5.1 - y5.1 / (4 : Int32) * (4 : Int32)))), some (va_rf y6.1), some (.int (-1 : Int32)), none, none, none, none, none, none, none, none, none, none, none, none, none, none, none, none, none, none, none, none, none, none, none, none, none, none]) dL_law_487 (by decide) (am_s1_r (j := 10) rfl rfl) rfl ?_
        exact (sfL_law_489 _) _ _ _ _ _ _ _ _ _ _ _ _ _ hf
      refine am_iconst (v := 0) dL_law_466 rfl rfl ?_
      exact am_zret rfl dL_law_467 hf
    refine am_aload_n dL_law_202 rfl rfl ?_
    refine am_bipush (v := 8) dL_law_203 (by decide) rfl ?_
    refine am_iload dL_law_205 rfl rfl ?_
    refine am_iadd dL_law_207 rfl ?_
    refine am_cSi (As := [va_rf (some 0), .int ((8 : Int32) + v9)]) (st := []) lk_L_law_37 rfl (by simp only [am_e1_r, am_e1_i, am_e1_l, am_e1_n]; exact Nat.le_of_ble_eq_true rfl) (Nat.le_of_ble_eq_true rfl) rfl dL_law_208 rfl hf (fun y7 hf => sfL_cell _ _ y7 hf) (fun y7 _ hf => ?_)
    refine am_istore (ls' := [some (va_rf (some 0)), some (va_rf v1), some (va_rf v2), some (va_rf v3), some (va_rf v4), some (.int v5), some (va_rf v6), some (va_rf v7), some (va_rf v8), some (.int v9), some (.int y7.1), none, none, none, none, none, none, none, none, none, none, none, none, none, none, none, none, none, none, none, none, none, none, none, none, none, none, none]) dL_law_211 (by decide) rfl rfl ?_
    refine am_aload dL_law_213 rfl rfl ?_
    refine am_iload dL_law_215 rfl rfl ?_
    refine am_iload dL_law_217 rfl rfl ?_
    refine am_iconst (v := 5) dL_law_219 rfl rfl ?_
    refine am_irem dL_law_220 rfl hf (fun hf => ?_)
    refine am_iast dL_law_221 rfl hf (fun h8 _ hf => ?_)
    refine am_aload dL_law_222 rfl rfl ?_
    refine am_iload dL_law_224 rfl rfl ?_
    refine am_aload dL_law_226 rfl rfl ?_
    refine am_iload dL_law_228 rfl rfl ?_
    refine am_iald dL_law_230 rfl hf (fun x9 _ hf => ?_)
    refine am_if_ne (tgt := 238) dL_law_231 (by decide) rfl hf (fun hf => ?_) (fun hf => ?_)
    · refine am_aload dL_law_238 rfl rfl ?_
      refine am_iload dL_law_240 rfl rfl ?_
      refine am_iald dL_law_242 rfl hf (fun x10 _ hf => ?_)
      refine am_iconst (v := 1) dL_law_243 rfl rfl ?_
      refine am_icmp_ne (tgt := 258) dL_law_244 (by decide) rfl hf (fun hf => ?_) (fun hf => ?_)
      · refine am_aload dL_law_258 rfl rfl ?_
        refine am_iload dL_law_260 rfl rfl ?_
        refine am_iald dL_law_262 rfl hf (fun x11 _ hf => ?_)
        refine am_iconst (v := 2) dL_law_263 rfl rfl ?_
        refine am_icmp_ne (tgt := 277) dL_law_264 (by decide) rfl hf (fun hf => ?_) (fun hf => ?_)
        · refine am_aload dL_law_277 rfl rfl ?_
          refine am_iload dL_law_279 rfl rfl ?_
          refine am_iald dL_law_281 rfl hf (fun x12 _ hf => ?_)
          refine am_iconst (v := 3) dL_law_282 rfl rfl ?_
          refine am_icmp_ne (tgt := 299) dL_law_283 (by decide) rfl hf (fun hf => ?_) (fun hf => ?_)
          · refine am_iconst (v := 2) dL_law_299 rfl rfl ?_
            refine am_iload dL_law_300 rfl rfl ?_
            refine am_bipush (v := 8) dL_law_302 (by decide) rfl ?_
            refine am_idiv dL_law_304 rfl hf (fun hf => ?_)
            refine am_iconst (v := 4) dL_law_305 rfl rfl ?_
            refine am_irem dL_law_306 rfl hf (fun hf => ?_)
            refine am_iadd dL_law_307 rfl ?_
            exact (sfL_law_308 ih) _ _ _ _ _ _ _ _ _ _ _ _ _ _ _ hf
          refine am_iconst (v := 1) dL_law_286 rfl rfl ?_
          refine am_iload dL_law_287 rfl rfl ?_
          refine am_bipush (v := 8) dL_law_289 (by decide) rfl ?_
          refine am_idiv dL_law_291 rfl hf (fun hf => ?_)
          refine am_bipush (v := 9) dL_law_292 (by decide) rfl ?_
          refine am_irem dL_law_294 rfl hf (fun hf => ?_)
          refine am_iadd dL_law_295 rfl ?_
          refine am_goto (pc' := 308) dL_law_296 (by decide) ?_
          exact (sfL_law_308 ih) _ _ _ _ _ _ _ _ _ _ _ _ _ _ _ hf
        refine am_iload dL_law_267 rfl rfl ?_
        refine am_bipush (v := 8) dL_law_269 (by decide) rfl ?_
        refine am_idiv dL_law_271 rfl hf (fun hf => ?_)
        refine am_iconst (v := 4) dL_law_272 rfl rfl ?_
        refine am_irem dL_law_273 rfl hf (fun hf => ?_)
        refine am_goto (pc' := 308) dL_law_274 (by decide) ?_
        exact (sfL_law_308 ih) _ _ _ _ _ _ _ _ _ _ _ _ _ _ _ hf
      refine am_iload dL_law_247 rfl rfl ?_
      refine am_bipush (v := 8) dL_law_249 (by decide) rfl ?_
      refine am_idiv dL_law_251 rfl hf (fun hf => ?_)
      refine am_bipush (v := 10) dL_law_252 (by decide) rfl ?_
      refine am_irem dL_law_254 rfl hf (fun hf => ?_)
      refine am_goto (pc' := 308) dL_law_255 (by decide) ?_
      exact (sfL_law_308 ih) _ _ _ _ _ _ _ _ _ _ _ _ _ _ _ hf
    refine am_iconst (v := 0) dL_law_234 rfl rfl ?_
    refine am_goto (pc' := 308) dL_law_235 (by decide) ?_
    exact (sfL_law_308 ih) _ _ _ _ _ _ _ _ _ _ _ _ _ _ _ hf
set_option maxRecDepth 20000 in
set_option maxHeartbeats 4000000 in
theorem sfL_law_92 {G : am_G}  {k51 : Option Nat → Option Nat → Option Nat → Option Nat → Int32 → am_H → Option (Int32 × am_H)} (hk51 : ∀ (v1 : Option Nat) (v2 : Option Nat) (v3 : Option Nat) (v4 : Option Nat) (v5 : Int32) (h : am_H) (y : Int32 × am_H), k51 v1 v2 v3 v4 v5 h = some y → am_S G miL_law 51 [some (va_rf (some 0)), some (va_rf v1), some (va_rf v2), some (va_rf v3), some (va_rf v4), some (.int v5), none, none, none, none, none, none, none, none, none, none, none, none, none, none, none, none, none, none, none, none, none, none, none, none, none, none, none, none, none, none, none, none] [] h (some (.int y.1)) y.2) (v1 : Option Nat) (v2 : Option Nat) (v3 : Option Nat) (v4 : Option Nat) (v5 : Int32) (v6 : Int32) (s0 : Option Nat) (s1 : Int32) (s2 : Int32) (h : am_H) (y : Int32 × am_H) (hf : fL_law_92 G.2.2.2.2.1 G.2.2.2.2.2 k51 v1 v2 v3 v4 v5 v6 s0 s1 s2 h = some y) : am_S G miL_law 92 [some (va_rf (some 0)), some (va_rf v1), some (va_rf v2), some (va_rf v3), some (va_rf v4), some (.int v5), some (.int v6), none, none, none, none, none, none, none, none, none, none, none, none, none, none, none, none, none, none, none, none, none, none, none, none, none, none, none, none, none, none, none] [.int s2, .int s1, va_rf s0] h (some (.int y.1)) y.2 := by
  unfold fL_law_92 at hf
  refine am_iast dL_law_92 rfl hf (fun h1 _ hf => ?_)
  refine am_aload dL_law_93 rfl rfl ?_
  refine am_iload dL_law_95 rfl rfl ?_
  refine am_iload dL_law_97 rfl rfl ?_
  refine am_iconst (v := 5) dL_law_99 rfl rfl ?_
  refine am_irem dL_law_100 rfl hf (fun hf => ?_)
  refine am_if_ne (tgt := 109) dL_law_101 (by decide) rfl hf (fun hf => ?_) (fun hf => ?_)
  · refine am_bipush (v := 24) dL_law_109 (by decide) rfl ?_
    refine am_iload dL_law_111 rfl rfl ?_
    refine am_sipush (v := 512) dL_law_113 (by decide) rfl ?_
    refine am_idiv dL_law_116 rfl hf (fun hf => ?_)
    refine am_bipush (v := 49) dL_law_117 (by decide) rfl ?_
    refine am_irem dL_law_119 rfl hf (fun hf => ?_)
    refine am_iadd dL_law_120 rfl ?_
    exact am_we ((sfL_law_121 hk51) _ _ _ _ _ _ _ _ _ _ hf) ⟨Or.inr rfl, Or.inr rfl, Or.inr rfl, Or.inr rfl, Or.inr rfl, Or.inr rfl, Or.inl rfl, Or.inl rfl, Or.inl rfl, Or.inl rfl, Or.inl rfl, Or.inl rfl, Or.inl rfl, Or.inl rfl, Or.inl rfl, Or.inl rfl, Or.inl rfl, Or.inl rfl, Or.inl rfl, Or.inl rfl, Or.inl rfl, Or.inl rfl, Or.inl rfl, Or.inl rfl, Or.inl rfl, Or.inl rfl, Or.inl rfl, Or.inl rfl, Or.inl rfl, Or.inl rfl, Or.inl rfl, Or.inl rfl, Or.inl rfl, Or.inl rfl, Or.inl rfl, Or.inl rfl, Or.inl rfl, Or.inl rfl, trivial⟩
  refine am_bipush (v := 48) dL_law_104 (by decide) rfl ?_
  refine am_goto (pc' := 121) dL_law_106 (by decide) ?_
  exact am_we ((sfL_law_121 hk51) _ _ _ _ _ _ _ _ _ _ hf) ⟨Or.inr rfl, Or.inr rfl, Or.inr rfl, Or.inr rfl, Or.inr rfl, Or.inr rfl, Or.inl rfl, Or.inl rfl, Or.inl rfl, Or.inl rfl, Or.inl rfl, Or.inl rfl, Or.inl rfl, Or.inl rfl, Or.inl rfl, Or.inl rfl, Or.inl rfl, Or.inl rfl, Or.inl rfl, Or.inl rfl, Or.inl rfl, Or.inl rfl, Or.inl rfl, Or.inl rfl, Or.inl rfl, Or.inl rfl, Or.inl rfl, Or.inl rfl, Or.inl rfl, Or.inl rfl, Or.inl rfl, Or.inl rfl, Or.inl rfl, Or.inl rfl, Or.inl rfl, Or.inl rfl, Or.inl rfl, Or.inl rfl, trivial⟩
