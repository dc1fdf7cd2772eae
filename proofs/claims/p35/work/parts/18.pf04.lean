/-! printed proofs of the printed functions, 4 -/
set_option maxRecDepth 20000 in
set_option maxHeartbeats 4000000 in
theorem sfL_run_554 {G : am_G}  {k626 : Option Nat → Int32 → Int32 → Int32 → Int32 → Int32 → Int32 → Option Nat → Option Nat → Int32 → Int32 → Int32 → Int32 → Int32 → Int32 → am_H → Option (am_H)} (hk626 : ∀ (v0 : Option Nat) (v1 : Int32) (v2 : Int32) (v3 : Int32) (v4 : Int32) (v5 : Int32) (v6 : Int32) (v7 : Option Nat) (v8 : Option Nat) (v9 : Int32) (v10 : Int32) (v11 : Int32) (v12 : Int32) (v13 : Int32) (v14 : Int32) (h : am_H) (y : am_H), k626 v0 v1 v2 v3 v4 v5 v6 v7 v8 v9 v10 v11 v12 v13 v14 h = some y → am_S G miL_run 626 [some (va_rf v0), some (.int v1), some (.int v2), some (.int v3), some (.int v4), some (.int v5), some (.int v6), some (va_rf v7), some (va_rf v8), some (.int v9), some (.int v10), some (.int v11), some (.int v12), some (.int v13), some (.int v14), none, none, none, none, none, none] [] h none y) : ∀ (n : Nat) (v0 : Option Nat) (v1 : Int32) (v2 : Int32) (v3 : Int32) (v4 : Int32) (v5 : Int32) (v6 : Int32) (v7 : Option Nat) (v8 : Option Nat) (v9 : Int32) (v10 : Int32) (v11 : Int32) (v12 : Int32) (v13 : Int32) (v14 : Int32) (v17 : Int32) (h : am_H) (y : am_H) (hf : fL_run_554 k626 n v0 v1 v2 v3 v4 v5 v6 v7 v8 v9 v10 v11 v12 v13 v14 v17 h = some y), am_S G miL_run 554 [some (va_rf v0), some (.int v1), some (.int v2), some (.int v3), some (.int v4), some (.int v5), some (.int v6), some (va_rf v7), some (va_rf v8), some (.int v9), some (.int v10), some (.int v11), some (.int v12), some (.int v13), some (.int v14), none, none, some (.int v17), none, none, none] [] h none y := by
  intro n
  induction n with
  | zero => intro v0 v1 v2 v3 v4 v5 v6 v7 v8 v9 v10 v11 v12 v13 v14 v17 h y hf; cases hf
  | succ n ih =>
    intro v0 v1 v2 v3 v4 v5 v6 v7 v8 v9 v10 v11 v12 v13 v14 v17 h y hf
    have hf : fL_run_554_b k626 (fL_run_554 k626 n) v0 v1 v2 v3 v4 v5 v6 v7 v8 v9 v10 v11 v12 v13 v14 v17 h = some y := hf
    unfold fL_run_554_b at hf
    refine am_iload dL_run_554 rfl rfl ?_
    refine am_iconst (v := 3) dL_run_556 rfl rfl ?_
    refine am_icmp_ge (tgt := 591) dL_run_557 (by decide) rfl hf (fun hf => ?_) (fun hf => ?_)
    · refine am_aload dL_run_591 rfl rfl ?_
      refine am_bipush (v := 15) dL_run_593 (by decide) rfl ?_
      refine am_iload dL_run_595 rfl rfl ?_
      refine am_iast dL_run_597 rfl hf (fun h1 _ hf => ?_)
      refine am_aload dL_run_598 rfl rfl ?_
      refine am_bipush (v := 16) dL_run_600 (by decide) rfl ?_
      refine am_iload dL_run_602 rfl rfl ?_
      refine am_iast dL_run_604 rfl hf (fun h2 _ hf => ?_)
      refine am_aload dL_run_605 rfl rfl ?_
      refine am_bipush (v := 17) dL_run_607 (by decide) rfl ?_
      refine am_iload dL_run_609 rfl rfl ?_
      refine am_iast dL_run_611 rfl hf (fun h3 _ hf => ?_)
      refine am_aload dL_run_612 rfl rfl ?_
      refine am_bipush (v := 18) dL_run_614 (by decide) rfl ?_
      refine am_iload dL_run_616 rfl rfl ?_
      refine am_iast dL_run_618 rfl hf (fun h4 _ hf => ?_)
      refine am_aload dL_run_619 rfl rfl ?_
      refine am_bipush (v := 19) dL_run_621 (by decide) rfl ?_
      refine am_iload dL_run_623 rfl rfl ?_
      refine am_iast dL_run_625 rfl hf (fun h5 _ hf => ?_)
      exact am_we (hk626 _ _ _ _ _ _ _ _ _ _ _ _ _ _ _ _ _ hf) ⟨Or.inr rfl, Or.inr rfl, Or.inr rfl, Or.inr rfl, Or.inr rfl, Or.inr rfl, Or.inr rfl, Or.inr rfl, Or.inr rfl, Or.inr rfl, Or.inr rfl, Or.inr rfl, Or.inr rfl, Or.inr rfl, Or.inr rfl, Or.inl rfl, Or.inl rfl, Or.inl rfl, Or.inl rfl, Or.inl rfl, Or.inl rfl, trivial⟩
    refine am_aload dL_run_560 rfl rfl ?_
    refine am_bipush (v := 12) dL_run_562 (by decide) rfl ?_
    refine am_iload dL_run_564 rfl rfl ?_
    refine am_iadd dL_run_566 rfl ?_
    refine am_iload dL_run_567 rfl rfl ?_
    refine am_aload_n dL_run_569 rfl rfl ?_
    refine am_iconst (v := 0) dL_run_570 rfl rfl ?_
    refine am_iald dL_run_571 rfl hf (fun x6 _ hf => ?_)
    refine am_icmp_ge (tgt := 583) dL_run_572 (by decide) rfl hf (fun hf => ?_) (fun hf => ?_)
    · refine am_iconst (v := -1) dL_run_583 rfl rfl ?_
      exact (sfL_run_584 ih) _ _ _ _ _ _ _ _ _ _ _ _ _ _ _ _ _ _ _ _ _ hf
    refine am_aload dL_run_575 rfl rfl ?_
    refine am_iload dL_run_577 rfl rfl ?_
    refine am_iald dL_run_579 rfl hf (fun x7 _ hf => ?_)
    refine am_goto (pc' := 584) dL_run_580 (by decide) ?_
    exact (sfL_run_584 ih) _ _ _ _ _ _ _ _ _ _ _ _ _ _ _ _ _ _ _ _ _ hf
set_option maxRecDepth 20000 in
set_option maxHeartbeats 4000000 in
theorem sfL_run_353 {G : am_G}  {k128 : Option Nat → Int32 → Int32 → Int32 → Int32 → Int32 → Int32 → Option Nat → Option Nat → Int32 → Int32 → Int32 → Int32 → Int32 → Int32 → Int32 → Int32 → Int32 → am_H → Option (am_H)} (hk128 : ∀ (v0 : Option Nat) (v1 : Int32) (v2 : Int32) (v3 : Int32) (v4 : Int32) (v5 : Int32) (v6 : Int32) (v7 : Option Nat) (v8 : Option Nat) (v9 : Int32) (v10 : Int32) (v11 : Int32) (v12 : Int32) (v13 : Int32) (v14 : Int32) (v15 : Int32) (v16 : Int32) (v17 : Int32) (h : am_H) (y : am_H), k128 v0 v1 v2 v3 v4 v5 v6 v7 v8 v9 v10 v11 v12 v13 v14 v15 v16 v17 h = some y → am_S G miL_run 128 [some (va_rf v0), some (.int v1), some (.int v2), some (.int v3), some (.int v4), some (.int v5), some (.int v6), some (va_rf v7), some (va_rf v8), some (.int v9), some (.int v10), some (.int v11), some (.int v12), some (.int v13), some (.int v14), some (.int v15), some (.int v16), some (.int v17), none, none, none] [] h none y) (v0 : Option Nat) (v1 : Int32) (v2 : Int32) (v3 : Int32) (v4 : Int32) (v5 : Int32) (v6 : Int32) (v7 : Option Nat) (v8 : Option Nat) (v9 : Int32) (v10 : Int32) (v11 : Int32) (v12 : Int32) (v13 : Int32) (v14 : Int32) (v15 : Int32) (v17 : Int32) (s0 : Int32) (h : am_H) (y : am_H) (hf : fL_run_353 k128 v0 v1 v2 v3 v4 v5 v6 v7 v8 v9 v10 v11 v12 v13 v14 v15 v17 s0 h = some y) : am_S G miL_run 353 [some (va_rf v0), some (.int v1), some (.int v2), some (.int v3), some (.int v4), some (.int v5), some (.int v6), some (va_rf v7), some (va_rf v8), some (.int v9), some (.int v10), some (.int v11), some (.int v12), some (.int v13), some (.int v14), some (.int v15), none, some (.int v17), none, none, none] [.int s0] h none y := by
  unfold fL_run_353 at hf
  refine am_istore (ls' := [some (va_rf v0), some (.int v1), some (.int v2), some (.int v3), some (.int v4), some (.int v5), some (.int v6), some (va_rf v7), some (va_rf v8), some (.int v9), some (.int v10), some (.int v11), some (.int v12), some (.int v13), some (.int v14), some (.int v15), some (.int s0), some (.int v17), none, none, none]) dL_run_353 (by decide) rfl rfl ?_
  refine am_aload dL_run_355 rfl rfl ?_
  refine am_iload dL_run_357 rfl rfl ?_
  refine am_dup2 dL_run_359 (rfl) (am_c1 _) rfl ?_
  refine am_iald dL_run_360 rfl hf (fun x1 _ hf => ?_)
  refine am_iload dL_run_361 rfl rfl ?_
  refine am_isub dL_run_363 rfl ?_
  refine am_iast dL_run_364 rfl hf (fun h2 _ hf => ?_)
  refine am_iinc (ls' := [some (va_rf v0), some (.int v1), some (.int v2), some (.int v3), some (.int v4), some (.int v5), some (.int v6), some (va_rf v7), some (va_rf v8), some (.int v9), some (.int v10), some (.int v11), some (.int v12), some (.int v13), some (.int v14), some (.int v15), some (.int s0), some (.int (v17 + (1 : Int32))), none, none, none]) dL_run_365 rfl rfl (by decide) rfl rfl ?_
  refine am_goto (pc' := 128) dL_run_368 (by decide) ?_
  exact hk128 _ _ _ _ _ _ _ _ _ _ _ _ _ _ _ _ _ _ _ _ hf
set_option maxRecDepth 20000 in
set_option maxHeartbeats 4000000 in
theorem sfL_run_544 {G : am_G}  {k99 : Option Nat → Int32 → Int32 → Int32 → Int32 → Int32 → Int32 → Option Nat → Option Nat → Int32 → Int32 → Int32 → Int32 → Int32 → Int32 → am_H → Option (am_H)} (hk99 : ∀ (v0 : Option Nat) (v1 : Int32) (v2 : Int32) (v3 : Int32) (v4 : Int32) (v5 : Int32) (v6 : Int32) (v7 : Option Nat) (v8 : Option Nat) (v9 : Int32) (v10 : Int32) (v11 : Int32) (v12 : Int32) (v13 : Int32) (v14 : Int32) (h : am_H) (y : am_H), k99 v0 v1 v2 v3 v4 v5 v6 v7 v8 v9 v10 v11 v12 v13 v14 h = some y → am_S G miL_run 99 [some (va_rf v0), some (.int v1), some (.int v2), some (.int v3), some (.int v4), some (.int v5), some (.int v6), some (va_rf v7), some (va_rf v8), some (.int v9), some (.int v10), some (.int v11), some (.int v12), some (.int v13), some (.int v14), none, none, none, none, none, none] [] h none y) (v0 : Option Nat) (v1 : Int32) (v2 : Int32) (v3 : Int32) (v4 : Int32) (v5 : Int32) (v6 : Int32) (v7 : Option Nat) (v8 : Option Nat) (v9 : Int32) (v10 : Int32) (v11 : Int32) (v12 : Int32) (v13 : Int32) (v14 : Int32) (h : am_H) (y : am_H) (hf : fL_run_544 k99 v0 v1 v2 v3 v4 v5 v6 v7 v8 v9 v10 v11 v12 v13 v14 h = some y) : am_S G miL_run 544 [some (va_rf v0), some (.int v1), some (.int v2), some (.int v3), some (.int v4), some (.int v5), some (.int v6), some (va_rf v7), some (va_rf v8), some (.int v9), some (.int v10), some (.int v11), some (.int v12), some (.int v13), some (.int v14), none, none, none, none, none, none] [] h none y := by
  unfold fL_run_544 at hf
  refine am_iload dL_run_544 rfl rfl ?_
  refine am_iload dL_run_546 rfl rfl ?_
  refine am_icmp_ne (tgt := 626) dL_run_548 (by decide) rfl hf (fun hf => ?_) (fun hf => ?_)
  · exact (sfL_run_626 hk99) _ _ _ _ _ _ _ _ _ _ _ _ _ _ _ _ _ hf
  refine am_iconst (v := 0) dL_run_551 rfl rfl ?_
  refine am_istore (ls' := [some (va_rf v0), some (.int v1), some (.int v2), some (.int v3), some (.int v4), some (.int v5), some (.int v6), some (va_rf v7), some (va_rf v8), some (.int v9), some (.int v10), some (.int v11), some (.int v12), some (.int v13), some (.int v14), none, none, some (.int (0 : Int32)), none, none, none]) dL_run_552 (by decide) rfl rfl ?_
  exact (sfL_run_554 (sfL_run_626 hk99) _) _ _ _ _ _ _ _ _ _ _ _ _ _ _ _ _ _ _ hf
set_option maxRecDepth 20000 in
set_option maxHeartbeats 4000000 in
theorem sfL_run_326 {G : am_G}  {k128 : Option Nat → Int32 → Int32 → Int32 → Int32 → Int32 → Int32 → Option Nat → Option Nat → Int32 → Int32 → Int32 → Int32 → Int32 → Int32 → Int32 → Int32 → Int32 → am_H → Option (am_H)} (hk128 : ∀ (v0 : Option Nat) (v1 : Int32) (v2 : Int32) (v3 : Int32) (v4 : Int32) (v5 : Int32) (v6 : Int32) (v7 : Option Nat) (v8 : Option Nat) (v9 : Int32) (v10 : Int32) (v11 : Int32) (v12 : Int32) (v13 : Int32) (v14 : Int32) (v15 : Int32) (v16 : Int32) (v17 : Int32) (h : am_H) (y : am_H), k128 v0 v1 v2 v3 v4 v5 v6 v7 v8 v9 v10 v11 v12 v13 v14 v15 v16 v17 h = some y → am_S G miL_run 128 [some (va_rf v0), some (.int v1), some (.int v2), some (.int v3), some (.int v4), some (.int v5), some (.int v6), some (va_rf v7), some (va_rf v8), some (.int v9), some (.int v10), some (.int v11), some (.int v12), some (.int v13), some (.int v14), some (.int v15), some (.int v16), some (.int v17), none, none, none] [] h none y) (v0 : Option Nat) (v1 : Int32) (v2 : Int32) (v3 : Int32) (v4 : Int32) (v5 : Int32) (v6 : Int32) (v7 : Option Nat) (v8 : Option Nat) (v9 : Int32) (v10 : Int32) (v11 : Int32) (v12 : Int32) (v13 : Int32) (v14 : Int32) (v15 : Int32) (v17 : Int32) (s0 : Int32) (s1 : Int32) (h : am_H) (y : am_H) (hf : fL_run_326 k128 v0 v1 v2 v3 v4 v5 v6 v7 v8 v9 v10 v11 v12 v13 v14 v15 v17 s0 s1 h = some y) : am_S G miL_run 326 [some (va_rf v0), some (.int v1), some (.int v2), some (.int v3), some (.int v4), some (.int v5), some (.int v6), some (va_rf v7), some (va_rf v8), some (.int v9), some (.int v10), some (.int v11), some (.int v12), some (.int v13), some (.int v14), some (.int v15), none, some (.int v17), none, none, none] [.int s1, .int s0] h none y := by
  unfold fL_run_326 at hf
  refine am_imul dL_run_326 rfl ?_
  refine am_sipush (v := 1000) dL_run_327 (by decide) rfl ?_
  refine am_idiv dL_run_330 rfl hf (fun hf => ?_)
  refine am_istore (ls' := [some (va_rf v0), some (.int v1), some (.int v2), some (.int v3), some (.int v4), some (.int v5), some (.int v6), some (va_rf v7), some (va_rf v8), some (.int v9), some (.int v10), some (.int v11), some (.int v12), some (.int v13), some (.int v14), some (.int v15), none, some (.int v17), none, none, some (.int ((s0 * s1) / (1000 : Int32)))]) dL_run_331 (by decide) rfl rfl ?_
  refine am_iload dL_run_333 rfl rfl ?_
  refine am_aload dL_run_335 rfl rfl ?_
  refine am_iload dL_run_337 rfl rfl ?_
  refine am_iald dL_run_339 rfl hf (fun x1 _ hf => ?_)
  refine am_icmp_le (tgt := 351) dL_run_340 (by decide) rfl hf (fun hf => ?_) (fun hf => ?_)
  · refine am_iload dL_run_351 rfl rfl ?_
    exact am_we ((sfL_run_353 hk128) _ _ _ _ _ _ _ _ _ _ _ _ _ _ _ _ _ _ _ _ hf) ⟨Or.inr rfl, Or.inr rfl, Or.inr rfl, Or.inr rfl, Or.inr rfl, Or.inr rfl, Or.inr rfl, Or.inr rfl, Or.inr rfl, Or.inr rfl, Or.inr rfl, Or.inr rfl, Or.inr rfl, Or.inr rfl, Or.inr rfl, Or.inr rfl, Or.inl rfl, Or.inr rfl, Or.inl rfl, Or.inl rfl, Or.inl rfl, trivial⟩
  refine am_aload dL_run_343 rfl rfl ?_
  refine am_iload dL_run_345 rfl rfl ?_
  refine am_iald dL_run_347 rfl hf (fun x2 _ hf => ?_)
  refine am_goto (pc' := 353) dL_run_348 (by decide) ?_
  exact am_we ((sfL_run_353 hk128) _ _ _ _ _ _ _ _ _ _ _ _ _ _ _ _ _ _ _ _ hf) ⟨Or.inr rfl, Or.inr rfl, Or.inr rfl, Or.inr rfl, Or.inr rfl, Or.inr rfl, Or.inr rfl, Or.inr rfl, Or.inr rfl, Or.inr rfl, Or.inr rfl, Or.inr rfl, Or.inr rfl, Or.inr rfl, Or.inr rfl, Or.inr rfl, Or.inl rfl, Or.inr rfl, Or.inl rfl, Or.inl rfl, Or.inl rfl, trivial⟩
set_option maxRecDepth 20000 in
set_option maxHeartbeats 4000000 in
theorem sfL_run_325 {G : am_G}  {k326 : Option Nat → Int32 → Int32 → Int32 → Int32 → Int32 → Int32 → Option Nat → Option Nat → Int32 → Int32 → Int32 → Int32 → Int32 → Int32 → Int32 → Int32 → Int32 → Int32 → am_H → Option (am_H)} (hk326 : ∀ (v0 : Option Nat) (v1 : Int32) (v2 : Int32) (v3 : Int32) (v4 : Int32) (v5 : Int32) (v6 : Int32) (v7 : Option Nat) (v8 : Option Nat) (v9 : Int32) (v10 : Int32) (v11 : Int32) (v12 : Int32) (v13 : Int32) (v14 : Int32) (v15 : Int32) (v17 : Int32) (s0 : Int32) (s1 : Int32) (h : am_H) (y : am_H), k326 v0 v1 v2 v3 v4 v5 v6 v7 v8 v9 v10 v11 v12 v13 v14 v15 v17 s0 s1 h = some y → am_S G miL_run 326 [some (va_rf v0), some (.int v1), some (.int v2), some (.int v3), some (.int v4), some (.int v5), some (.int v6), some (va_rf v7), some (va_rf v8), some (.int v9), some (.int v10), some (.int v11), some (.int v12), some (.int v13), some (.int v14), some (.int v15), none, some (.int v17), none, none, none] [.int s1, .int s0] h none y) (v0 : Option Nat) (v1 : Int32) (v2 : Int32) (v3 : Int32) (v4 : Int32) (v5 : Int32) (v6 : Int32) (v7 : Option Nat) (v8 : Option Nat) (v9 : Int32) (v10 : Int32) (v11 : Int32) (v12 : Int32) (v13 : Int32) (v14 : Int32) (v15 : Int32) (v17 : Int32) (s0 : Int32) (h : am_H) (y : am_H) (hf : fL_run_325 k326 v0 v1 v2 v3 v4 v5 v6 v7 v8 v9 v10 v11 v12 v13 v14 v15 v17 s0 h = some y) : am_S G miL_run 325 [some (va_rf v0), some (.int v1), some (.int v2), some (.int v3), some (.int v4), some (.int v5), some (.int v6), some (va_rf v7), some (va_rf v8), some (.int v9), some (.int v10), some (.int v11), some (.int v12), some (.int v13), some (.int v14), some (.int v15), none, some (.int v17), none, none, none] [.int s0] h none y := by
  unfold fL_run_325 at hf
  refine am_iload_n dL_run_325 rfl rfl ?_
  exact hk326 _ _ _ _ _ _ _ _ _ _ _ _ _ _ _ _ _ _ _ _ _ hf
set_option maxRecDepth 20000 in
set_option maxHeartbeats 4000000 in
theorem sfL_run_518 {G : am_G}  {k99 : Option Nat → Int32 → Int32 → Int32 → Int32 → Int32 → Int32 → Option Nat → Option Nat → Int32 → Int32 → Int32 → Int32 → Int32 → Int32 → am_H → Option (am_H)} (hk99 : ∀ (v0 : Option Nat) (v1 : Int32) (v2 : Int32) (v3 : Int32) (v4 : Int32) (v5 : Int32) (v6 : Int32) (v7 : Option Nat) (v8 : Option Nat) (v9 : Int32) (v10 : Int32) (v11 : Int32) (v12 : Int32) (v13 : Int32) (v14 : Int32) (h : am_H) (y : am_H), k99 v0 v1 v2 v3 v4 v5 v6 v7 v8 v9 v10 v11 v12 v13 v14 h = some y → am_S G miL_run 99 [some (va_rf v0), some (.int v1), some (.int v2), some (.int v3), some (.int v4), some (.int v5), some (.int v6), some (va_rf v7), some (va_rf v8), some (.int v9), some (.int v10), some (.int v11), some (.int v12), some (.int v13), some (.int v14), none, none, none, none, none, none] [] h none y) (v0 : Option Nat) (v1 : Int32) (v2 : Int32) (v3 : Int32) (v4 : Int32) (v5 : Int32) (v6 : Int32) (v7 : Option Nat) (v8 : Option Nat) (v9 : Int32) (v10 : Int32) (v11 : Int32) (v12 : Int32) (v13 : Int32) (v14 : Int32) (h : am_H) (y : am_H) (hf : fL_run_518 k99 v0 v1 v2 v3 v4 v5 v6 v7 v8 v9 v10 v11 v12 v13 v14 h = some y) : am_S G miL_run 518 [some (va_rf v0), some (.int v1), some (.int v2), some (.int v3), some (.int v4), some (.int v5), some (.int v6), some (va_rf v7), some (va_rf v8), some (.int v9), some (.int v10), some (.int v11), some (.int v12), some (.int v13), some (.int v14), none, none, none, none, none, none] [] h none y := by
  unfold fL_run_518 at hf
  refine am_iload dL_run_518 rfl rfl ?_
  refine am_aload_n dL_run_520 rfl rfl ?_
  refine am_iconst (v := 4) dL_run_521 rfl rfl ?_
  refine am_iald dL_run_522 rfl hf (fun x1 _ hf => ?_)
  refine am_icmp_ne (tgt := 544) dL_run_523 (by decide) rfl hf (fun hf => ?_) (fun hf => ?_)
  · exact (sfL_run_544 hk99) _ _ _ _ _ _ _ _ _ _ _ _ _ _ _ _ _ hf
  refine am_iload dL_run_526 rfl rfl ?_
  refine am_aload_n dL_run_528 rfl rfl ?_
  refine am_iconst (v := 1) dL_run_529 rfl rfl ?_
  refine am_iald dL_run_530 rfl hf (fun x2 _ hf => ?_)
  refine am_idiv dL_run_531 rfl hf (fun hf => ?_)
  refine am_aload_n dL_run_532 rfl rfl ?_
  refine am_iconst (v := 2) dL_run_533 rfl rfl ?_
  refine am_iald dL_run_534 rfl hf (fun x3 _ hf => ?_)
  refine am_icmp_lt (tgt := 544) dL_run_535 (by decide) rfl hf (fun hf => ?_) (fun hf => ?_)
  · exact (sfL_run_544 hk99) _ _ _ _ _ _ _ _ _ _ _ _ _ _ _ _ _ hf
  refine am_iconst (v := 0) dL_run_538 rfl rfl ?_
  refine am_istore (ls' := [some (va_rf v0), some (.int v1), some (.int v2), some (.int v3), some (.int v4), some (.int v5), some (.int v6), some (va_rf v7), some (va_rf v8), some (.int (0 : Int32)), some (.int v10), some (.int v11), some (.int v12), some (.int v13), some (.int v14), none, none, none, none, none, none]) dL_run_539 (by decide) (am_s1_r (j := 8) rfl rfl) rfl ?_
  refine am_iinc (ls' := [some (va_rf v0), some (.int v1), some (.int v2), some (.int v3), some (.int v4), some (.int v5), some (.int v6), some (va_rf v7), some (va_rf v8), some (.int (0 : Int32)), some (.int v10), some (.int v11), some (.int v12), some (.int (v13 + (1 : Int32))), some (.int v14), none, none, none, none, none, none]) dL_run_541 rfl rfl (by decide) rfl rfl ?_
  exact (sfL_run_544 hk99) _ _ _ _ _ _ _ _ _ _ _ _ _ _ _ _ _ hf
set_option maxRecDepth 20000 in
set_option maxHeartbeats 4000000 in
theorem sfL_run_289 {G : am_G}  {k128 : Option Nat → Int32 → Int32 → Int32 → Int32 → Int32 → Int32 → Option Nat → Option Nat → Int32 → Int32 → Int32 → Int32 → Int32 → Int32 → Int32 → Int32 → Int32 → am_H → Option (am_H)} (hk128 : ∀ (v0 : Option Nat) (v1 : Int32) (v2 : Int32) (v3 : Int32) (v4 : Int32) (v5 : Int32) (v6 : Int32) (v7 : Option Nat) (v8 : Option Nat) (v9 : Int32) (v10 : Int32) (v11 : Int32) (v12 : Int32) (v13 : Int32) (v14 : Int32) (v15 : Int32) (v16 : Int32) (v17 : Int32) (h : am_H) (y : am_H), k128 v0 v1 v2 v3 v4 v5 v6 v7 v8 v9 v10 v11 v12 v13 v14 v15 v16 v17 h = some y → am_S G miL_run 128 [some (va_rf v0), some (.int v1), some (.int v2), some (.int v3), some (.int v4), some (.int v5), some (.int v6), some (va_rf v7), some (va_rf v8), some (.int v9), some (.int v10), some (.int v11), some (.int v12), some (.int v13), some (.int v14), some (.int v15), some (.int v16), some (.int v17), none, none, none] [] h none y) (v0 : Option Nat) (v1 : Int32) (v2 : Int32) (v3 : Int32) (v4 : Int32) (v5 : Int32) (v6 : Int32) (v7 : Option Nat) (v8 : Option Nat) (v9 : Int32) (v10 : Int32) (v11 : Int32) (v12 : Int32) (v13 : Int32) (v14 : Int32) (v15 : Int32) (v17 : Int32) (s0 : Int32) (h : am_H) (y : am_H) (hf : fL_run_289 k128 v0 v1 v2 v3 v4 v5 v6 v7 v8 v9 v10 v11 v12 v13 v14 v15 v17 s0 h = some y) : am_S G miL_run 289 [some (va_rf v0), some (.int v1), some (.int v2), some (.int v3), some (.int v4), some (.int v5), some (.int v6), some (va_rf v7), some (va_rf v8), some (.int v9), some (.int v10), some (.int v11), some (.int v12), some (.int v13), some (.int v14), some (.int v15), none, some (.int v17), none, none, none] [.int s0] h none y := by
  unfold fL_run_289 at hf
  refine am_istore (ls' := [some (va_rf v0), some (.int v1), some (.int v2), some (.int v3), some (.int v4), some (.int v5), some (.int v6), some (va_rf v7), some (va_rf v8), some (.int v9), some (.int v10), some (.int v11), some (.int v12), some (.int v13), some (.int v14), some (.int v15), none, some (.int v17), none, some (.int s0), none]) dL_run_289 (by decide) rfl rfl ?_
  refine am_iload dL_run_291 rfl rfl ?_
  refine am_aload dL_run_293 rfl rfl ?_
  refine am_iload dL_run_295 rfl rfl ?_
  refine am_iald dL_run_297 rfl hf (fun x1 _ hf => ?_)
  refine am_aload_n dL_run_298 rfl rfl ?_
  refine am_iconst (v := 5) dL_run_299 rfl rfl ?_
  refine am_iconst (v := 3) dL_run_300 rfl rfl ?_
  refine am_iload dL_run_301 rfl rfl ?_
  refine am_imul dL_run_303 rfl ?_
  refine am_iadd dL_run_304 rfl ?_
  refine am_iald dL_run_305 rfl hf (fun x2 _ hf => ?_)
  refine am_idiv dL_run_306 rfl hf (fun hf => ?_)
  refine am_imul dL_run_307 rfl ?_
  refine am_iload_n dL_run_308 rfl rfl ?_
  refine am_iconst (v := 4) dL_run_309 rfl rfl ?_
  refine am_icmp_ne (tgt := 325) dL_run_310 (by decide) rfl hf (fun hf => ?_) (fun hf => ?_)
  · exact am_we ((sfL_run_325 (sfL_run_326 hk128)) _ _ _ _ _ _ _ _ _ _ _ _ _ _ _ _ _ _ _ _ hf) ⟨Or.inr rfl, Or.inr rfl, Or.inr rfl, Or.inr rfl, Or.inr rfl, Or.inr rfl, Or.inr rfl, Or.inr rfl, Or.inr rfl, Or.inr rfl, Or.inr rfl, Or.inr rfl, Or.inr rfl, Or.inr rfl, Or.inr rfl, Or.inr rfl, Or.inl rfl, Or.inr rfl, Or.inl rfl, Or.inl rfl, Or.inl rfl, trivial⟩
  refine am_iload dL_run_313 rfl rfl ?_
  refine am_if_eq (tgt := 325) dL_run_315 (by decide) rfl hf (fun hf => ?_) (fun hf => ?_)
  · exact am_we ((sfL_run_325 (sfL_run_326 hk128)) _ _ _ _ _ _ _ _ _ _ _ _ _ _ _ _ _ _ _ _ hf) ⟨Or.inr rfl, Or.inr rfl, Or.inr rfl, Or.inr rfl, Or.inr rfl, Or.inr rfl, Or.inr rfl, Or.inr rfl, Or.inr rfl, Or.inr rfl, Or.inr rfl, Or.inr rfl, Or.inr rfl, Or.inr rfl, Or.inr rfl, Or.inr rfl, Or.inl rfl, Or.inr rfl, Or.inl rfl, Or.inl rfl, Or.inl rfl, trivial⟩
  refine am_iload_n dL_run_318 rfl rfl ?_
  refine am_iload dL_run_319 rfl rfl ?_
  refine am_isub dL_run_321 rfl ?_
  refine am_goto (pc' := 326) dL_run_322 (by decide) ?_
  exact am_we ((sfL_run_326 hk128) _ _ _ _ _ _ _ _ _ _ _ _ _ _ _ _ _ _ _ _ _ hf) ⟨Or.inr rfl, Or.inr rfl, Or.inr rfl, Or.inr rfl, Or.inr rfl, Or.inr rfl, Or.inr rfl, Or.inr rfl, Or.inr rfl, Or.inr rfl, Or.inr rfl, Or.inr rfl, Or.inr rfl, Or.inr rfl, Or.inr rfl, Or.inr rfl, Or.inl rfl, Or.inr rfl, Or.inl rfl, Or.inl rfl, Or.inl rfl, trivial⟩
set_option maxRecDepth 20000 in
set_option maxHeartbeats 4000000 in
theorem sfL_run_274 {G : am_G}  {k275 : Option Nat → Int32 → Int32 → Int32 → Int32 → Int32 → Int32 → Option Nat → Option Nat → Int32 → Int32 → Int32 → Int32 → Int32 → Int32 → Int32 → Int32 → Int32 → Int32 → am_H → Option (am_H)} (hk275 : ∀ (v0 : Option Nat) (v1 : Int32) (v2 : Int32) (v3 : Int32) (v4 : Int32) (v5 : Int32) (v6 : Int32) (v7 : Option Nat) (v8 : Option Nat) (v9 : Int32) (v10 : Int32) (v11 : Int32) (v12 : Int32) (v13 : Int32) (v14 : Int32) (v15 : Int32) (v17 : Int32) (s0 : Int32) (s1 : Int32) (h : am_H) (y : am_H), k275 v0 v1 v2 v3 v4 v5 v6 v7 v8 v9 v10 v11 v12 v13 v14 v15 v17 s0 s1 h = some y → am_S G miL_run 275 [some (va_rf v0), some (.int v1), some (.int v2), some (.int v3), some (.int v4), some (.int v5), some (.int v6), some (va_rf v7), some (va_rf v8), some (.int v9), some (.int v10), some (.int v11), some (.int v12), some (.int v13), some (.int v14), some (.int v15), none, some (.int v17), none, none, none] [.int s1, .int s0] h none y) (v0 : Option Nat) (v1 : Int32) (v2 : Int32) (v3 : Int32) (v4 : Int32) (v5 : Int32) (v6 : Int32) (v7 : Option Nat) (v8 : Option Nat) (v9 : Int32) (v10 : Int32) (v11 : Int32) (v12 : Int32) (v13 : Int32) (v14 : Int32) (v15 : Int32) (v17 : Int32) (s0 : Int32) (h : am_H) (y : am_H) (hf : fL_run_274 k275 v0 v1 v2 v3 v4 v5 v6 v7 v8 v9 v10 v11 v12 v13 v14 v15 v17 s0 h = some y) : am_S G miL_run 274 [some (va_rf v0), some (.int v1), some (.int v2), some (.int v3), some (.int v4), some (.int v5), some (.int v6), some (va_rf v7), some (va_rf v8), some (.int v9), some (.int v10), some (.int v11), some (.int v12), some (.int v13), some (.int v14), some (.int v15), none, some (.int v17), none, none, none] [.int s0] h none y := by
  unfold fL_run_274 at hf
  refine am_iconst (v := 0) dL_run_274 rfl rfl ?_
  exact hk275 _ _ _ _ _ _ _ _ _ _ _ _ _ _ _ _ _ _ _ _ _ hf
set_option maxRecDepth 20000 in
set_option maxHeartbeats 4000000 in
theorem sfL_run_481 {G : am_G}  {k99 : Option Nat → Int32 → Int32 → Int32 → Int32 → Int32 → Int32 → Option Nat → Option Nat → Int32 → Int32 → Int32 → Int32 → Int32 → Int32 → am_H → Option (am_H)} (hk99 : ∀ (v0 : Option Nat) (v1 : Int32) (v2 : Int32) (v3 : Int32) (v4 : Int32) (v5 : Int32) (v6 : Int32) (v7 : Option Nat) (v8 : Option Nat) (v9 : Int32) (v10 : Int32) (v11 : Int32) (v12 : Int32) (v13 : Int32) (v14 : Int32) (h : am_H) (y : am_H), k99 v0 v1 v2 v3 v4 v5 v6 v7 v8 v9 v10 v11 v12 v13 v14 h = some y → am_S G miL_run 99 [some (va_rf v0), some (.int v1), some (.int v2), some (.int v3), some (.int v4), some (.int v5), some (.int v6), some (va_rf v7), some (va_rf v8), some (.int v9), some (.int v10), some (.int v11), some (.int v12), some (.int v13), some (.int v14), none, none, none, none, none, none] [] h none y) : ∀ (n : Nat) (v0 : Option Nat) (v1 : Int32) (v2 : Int32) (v3 : Int32) (v4 : Int32) (v5 : Int32) (v6 : Int32) (v7 : Option Nat) (v8 : Option Nat) (v9 : Int32) (v10 : Int32) (v11 : Int32) (v12 : Int32) (v13 : Int32) (v14 : Int32) (h : am_H) (y : am_H) (hf : fL_run_481 k99 n v0 v1 v2 v3 v4 v5 v6 v7 v8 v9 v10 v11 v12 v13 v14 h = some y), am_S G miL_run 481 [some (va_rf v0), some (.int v1), some (.int v2), some (.int v3), some (.int v4), some (.int v5), some (.int v6), some (va_rf v7), some (va_rf v8), some (.int v9), some (.int v10), some (.int v11), some (.int v12), some (.int v13), some (.int v14), none, none, none, none, none, none] [] h none y := by
  intro n
  induction n with
  | zero => intro v0 v1 v2 v3 v4 v5 v6 v7 v8 v9 v10 v11 v12 v13 v14 h y hf; cases hf
  | succ n ih =>
    intro v0 v1 v2 v3 v4 v5 v6 v7 v8 v9 v10 v11 v12 v13 v14 h y hf
    have hf : fL_run_481_b k99 (fL_run_481 k99 n) v0 v1 v2 v3 v4 v5 v6 v7 v8 v9 v10 v11 v12 v13 v14 h = some y := hf
    unfold fL_run_481_b at hf
    refine am_iload dL_run_481 rfl rfl ?_
    refine am_aload_n dL_run_483 rfl rfl ?_
    refine am_iconst (v := 4) dL_run_484 rfl rfl ?_
    refine am_iald dL_run_485 rfl hf (fun x1 _ hf => ?_)
    refine am_icmp_ge (tgt := 518) dL_run_486 (by decide) rfl hf (fun hf => ?_) (fun hf => ?_)
    · exact (sfL_run_518 hk99) _ _ _ _ _ _ _ _ _ _ _ _ _ _ _ _ _ hf
    refine am_iload dL_run_489 rfl rfl ?_
    refine am_aload_n dL_run_491 rfl rfl ?_
    refine am_iconst (v := 1) dL_run_492 rfl rfl ?_
    refine am_iald dL_run_493 rfl hf (fun x2 _ hf => ?_)
    refine am_idiv dL_run_494 rfl hf (fun hf => ?_)
    refine am_aload_n dL_run_495 rfl rfl ?_
    refine am_bipush (v := 14) dL_run_496 (by decide) rfl ?_
    refine am_iload dL_run_498 rfl rfl ?_
    refine am_iadd dL_run_500 rfl ?_
    refine am_iald dL_run_501 rfl hf (fun x3 _ hf => ?_)
    refine am_icmp_lt (tgt := 518) dL_run_502 (by decide) rfl hf (fun hf => ?_) (fun hf => ?_)
    · exact (sfL_run_518 hk99) _ _ _ _ _ _ _ _ _ _ _ _ _ _ _ _ _ hf
    refine am_aload dL_run_505 rfl rfl ?_
    refine am_iload dL_run_507 rfl rfl ?_
    refine am_iload dL_run_509 rfl rfl ?_
    refine am_iast dL_run_511 rfl hf (fun h4 _ hf => ?_)
    refine am_iinc (ls' := [some (va_rf v0), some (.int v1), some (.int v2), some (.int v3), some (.int v4), some (.int v5), some (.int v6), some (va_rf v7), some (va_rf v8), some (.int v9), some (.int (v10 + (1 : Int32))), some (.int v11), some (.int v12), some (.int v13), some (.int v14), none, none, none, none, none, none]) dL_run_512 rfl rfl (by decide) rfl rfl ?_
    refine am_goto (pc' := 481) dL_run_515 (by decide) ?_
    exact ih _ _ _ _ _ _ _ _ _ _ _ _ _ _ _ _ _ hf
set_option maxRecDepth 20000 in
set_option maxHeartbeats 4000000 in
theorem sfL_run_463 {G : am_G}  {k481 : Option Nat → Int32 → Int32 → Int32 → Int32 → Int32 → Int32 → Option Nat → Option Nat → Int32 → Int32 → Int32 → Int32 → Int32 → Int32 → am_H → Option (am_H)} (hk481 : ∀ (v0 : Option Nat) (v1 : Int32) (v2 : Int32) (v3 : Int32) (v4 : Int32) (v5 : Int32) (v6 : Int32) (v7 : Option Nat) (v8 : Option Nat) (v9 : Int32) (v10 : Int32) (v11 : Int32) (v12 : Int32) (v13 : Int32) (v14 : Int32) (h : am_H) (y : am_H), k481 v0 v1 v2 v3 v4 v5 v6 v7 v8 v9 v10 v11 v12 v13 v14 h = some y → am_S G miL_run 481 [some (va_rf v0), some (.int v1), some (.int v2), some (.int v3), some (.int v4), some (.int v5), some (.int v6), some (va_rf v7), some (va_rf v8), some (.int v9), some (.int v10), some (.int v11), some (.int v12), some (.int v13), some (.int v14), none, none, none, none, none, none] [] h none y) (v0 : Option Nat) (v1 : Int32) (v2 : Int32) (v3 : Int32) (v4 : Int32) (v5 : Int32) (v6 : Int32) (v7 : Option Nat) (v8 : Option Nat) (v9 : Int32) (v10 : Int32) (v11 : Int32) (v12 : Int32) (v13 : Int32) (v14 : Int32) (s0 : Int32) (h : am_H) (y : am_H) (hf : fL_run_463 k481 v0 v1 v2 v3 v4 v5 v6 v7 v8 v9 v10 v11 v12 v13 v14 s0 h = some y) : am_S G miL_run 463 [some (va_rf v0), some (.int v1), some (.int v2), some (.int v3), some (.int v4), some (.int v5), some (.int v6), some (va_rf v7), some (va_rf v8), some (.int v9), some (.int v10), some (.int v11), some (.int v12), some (.int v13), some (.int v14), none, none, none, none, none, none] [.int s0] h none y := by
  unfold fL_run_463 at hf
  refine am_istore (ls' := [some (va_rf v0), some (.int v1), some (.int v2), some (.int v3), some (.int v4), some (.int v5), some (.int v6), some (va_rf v7), some (va_rf v8), some (.int v9), some (.int v10), some (.int v11), some (.int v12), some (.int v13), some (.int v14), none, none, some (.int s0), none, none, none]) dL_run_463 (by decide) rfl rfl ?_
  refine am_aload dL_run_465 rfl rfl ?_
  refine am_iload_n dL_run_467 rfl rfl ?_
  refine am_dup2 dL_run_468 (rfl) (am_c1 _) rfl ?_
  refine am_iald dL_run_469 rfl hf (fun x1 _ hf => ?_)
  refine am_iload dL_run_470 rfl rfl ?_
  refine am_isub dL_run_472 rfl ?_
  refine am_iast dL_run_473 rfl hf (fun h2 _ hf => ?_)
  refine am_iload dL_run_474 rfl rfl ?_
  refine am_iload dL_run_476 rfl rfl ?_
  refine am_iadd dL_run_478 rfl ?_
  refine am_istore (ls' := [some (va_rf v0), some (.int v1), some (.int v2), some (.int v3), some (.int v4), some (.int v5), some (.int v6), some (va_rf v7), some (va_rf v8), some (.int v9), some (.int v10), some (.int v11), some (.int (v12 + s0)), some (.int v13), some (.int v14), none, none, some (.int s0), none, none, none]) dL_run_479 (by decide) rfl rfl ?_
  exact am_we (hk481 _ _ _ _ _ _ _ _ _ _ _ _ _ _ _ _ _ hf) ⟨Or.inr rfl, Or.inr rfl, Or.inr rfl, Or.inr rfl, Or.inr rfl, Or.inr rfl, Or.inr rfl, Or.inr rfl, Or.inr rfl, Or.inr rfl, Or.inr rfl, Or.inr rfl, Or.inr rfl, Or.inr rfl, Or.inr rfl, Or.inl rfl, Or.inl rfl, Or.inl rfl, Or.inl rfl, Or.inl rfl, Or.inl rfl, trivial⟩
set_option maxRecDepth 20000 in
set_option maxHeartbeats 4000000 in
theorem sfL_run_275 {G : am_G}  {k128 : Option Nat → Int32 → Int32 → Int32 → Int32 → Int32 → Int32 → Option Nat → Option Nat → Int32 → Int32 → Int32 → Int32 → Int32 → Int32 → Int32 → Int32 → Int32 → am_H → Option (am_H)} (hk128 : ∀ (v0 : Option Nat) (v1 : Int32) (v2 : Int32) (v3 : Int32) (v4 : Int32) (v5 : Int32) (v6 : Int32) (v7 : Option Nat) (v8 : Option Nat) (v9 : Int32) (v10 : Int32) (v11 : Int32) (v12 : Int32) (v13 : Int32) (v14 : Int32) (v15 : Int32) (v16 : Int32) (v17 : Int32) (h : am_H) (y : am_H), k128 v0 v1 v2 v3 v4 v5 v6 v7 v8 v9 v10 v11 v12 v13 v14 v15 v16 v17 h = some y → am_S G miL_run 128 [some (va_rf v0), some (.int v1), some (.int v2), some (.int v3), some (.int v4), some (.int v5), some (.int v6), some (va_rf v7), some (va_rf v8), some (.int v9), some (.int v10), some (.int v11), some (.int v12), some (.int v13), some (.int v14), some (.int v15), some (.int v16), some (.int v17), none, none, none] [] h none y) (v0 : Option Nat) (v1 : Int32) (v2 : Int32) (v3 : Int32) (v4 : Int32) (v5 : Int32) (v6 : Int32) (v7 : Option Nat) (v8 : Option Nat) (v9 : Int32) (v10 : Int32) (v11 : Int32) (v12 : Int32) (v13 : Int32) (v14 : Int32) (v15 : Int32) (v17 : Int32) (s0 : Int32) (s1 : Int32) (h : am_H) (y : am_H) (hf : fL_run_275 k128 v0 v1 v2 v3 v4 v5 v6 v7 v8 v9 v10 v11 v12 v13 v14 v15 v17 s0 s1 h = some y) : am_S G miL_run 275 [some (va_rf v0), some (.int v1), some (.int v2), some (.int v3), some (.int v4), some (.int v5), some (.int v6), some (va_rf v7), some (va_rf v8), some (.int v9), some (.int v10), some (.int v11), some (.int v12), some (.int v13), some (.int v14), some (.int v15), none, some (.int v17), none, none, none] [.int s1, .int s0] h none y := by
  unfold fL_run_275 at hf
  refine am_iadd dL_run_275 rfl ?_
  refine am_istore (ls' := [some (va_rf v0), some (.int v1), some (.int v2), some (.int v3), some (.int v4), some (.int v5), some (.int v6), some (va_rf v7), some (va_rf v8), some (.int v9), some (.int v10), some (.int v11), some (.int v12), some (.int v13), some (.int v14), some (.int v15), none, some (.int v17), none, some (.int (s0 + s1)), none]) dL_run_276 (by decide) rfl rfl ?_
  refine am_iload dL_run_278 rfl rfl ?_
  refine am_if_ge (tgt := 287) dL_run_280 (by decide) rfl hf (fun hf => ?_) (fun hf => ?_)
  · refine am_iload dL_run_287 rfl rfl ?_
    exact am_we ((sfL_run_289 hk128) _ _ _ _ _ _ _ _ _ _ _ _ _ _ _ _ _ _ _ _ hf) ⟨Or.inr rfl, Or.inr rfl, Or.inr rfl, Or.inr rfl, Or.inr rfl, Or.inr rfl, Or.inr rfl, Or.inr rfl, Or.inr rfl, Or.inr rfl, Or.inr rfl, Or.inr rfl, Or.inr rfl, Or.inr rfl, Or.inr rfl, Or.inr rfl, Or.inl rfl, Or.inr rfl, Or.inl rfl, Or.inl rfl, Or.inl rfl, trivial⟩
  refine am_iconst (v := 0) dL_run_283 rfl rfl ?_
  refine am_goto (pc' := 289) dL_run_284 (by decide) ?_
  exact am_we ((sfL_run_289 hk128) _ _ _ _ _ _ _ _ _ _ _ _ _ _ _ _ _ _ _ _ hf) ⟨Or.inr rfl, Or.inr rfl, Or.inr rfl, Or.inr rfl, Or.inr rfl, Or.inr rfl, Or.inr rfl, Or.inr rfl, Or.inr rfl, Or.inr rfl, Or.inr rfl, Or.inr rfl, Or.inr rfl, Or.inr rfl, Or.inr rfl, Or.inr rfl, Or.inl rfl, Or.inr rfl, Or.inl rfl, Or.inl rfl, Or.inl rfl, trivial⟩
set_option maxRecDepth 20000 in
set_option maxHeartbeats 4000000 in
theorem sfL_run_253 {G : am_G}  {k275 : Option Nat → Int32 → Int32 → Int32 → Int32 → Int32 → Int32 → Option Nat → Option Nat → Int32 → Int32 → Int32 → Int32 → Int32 → Int32 → Int32 → Int32 → Int32 → Int32 → am_H → Option (am_H)} (hk275 : ∀ (v0 : Option Nat) (v1 : Int32) (v2 : Int32) (v3 : Int32) (v4 : Int32) (v5 : Int32) (v6 : Int32) (v7 : Option Nat) (v8 : Option Nat) (v9 : Int32) (v10 : Int32) (v11 : Int32) (v12 : Int32) (v13 : Int32) (v14 : Int32) (v15 : Int32) (v17 : Int32) (s0 : Int32) (s1 : Int32) (h : am_H) (y : am_H), k275 v0 v1 v2 v3 v4 v5 v6 v7 v8 v9 v10 v11 v12 v13 v14 v15 v17 s0 s1 h = some y → am_S G miL_run 275 [some (va_rf v0), some (.int v1), some (.int v2), some (.int v3), some (.int v4), some (.int v5), some (.int v6), some (va_rf v7), some (va_rf v8), some (.int v9), some (.int v10), some (.int v11), some (.int v12), some (.int v13), some (.int v14), some (.int v15), none, some (.int v17), none, none, none] [.int s1, .int s0] h none y) (v0 : Option Nat) (v1 : Int32) (v2 : Int32) (v3 : Int32) (v4 : Int32) (v5 : Int32) (v6 : Int32) (v7 : Option Nat) (v8 : Option Nat) (v9 : Int32) (v10 : Int32) (v11 : Int32) (v12 : Int32) (v13 : Int32) (v14 : Int32) (v15 : Int32) (v17 : Int32) (s0 : Int32) (h : am_H) (y : am_H) (hf : fL_run_253 k275 v0 v1 v2 v3 v4 v5 v6 v7 v8 v9 v10 v11 v12 v13 v14 v15 v17 s0 h = some y) : am_S G miL_run 253 [some (va_rf v0), some (.int v1), some (.int v2), some (.int v3), some (.int v4), some (.int v5), some (.int v6), some (va_rf v7), some (va_rf v8), some (.int v9), some (.int v10), some (.int v11), some (.int v12), some (.int v13), some (.int v14), some (.int v15), none, some (.int v17), none, none, none] [.int s0] h none y := by
  unfold fL_run_253 at hf
  refine am_iload_n dL_run_253 rfl rfl ?_
  refine am_iconst (v := 2) dL_run_254 rfl rfl ?_
  refine am_icmp_ne (tgt := 274) dL_run_255 (by decide) rfl hf (fun hf => ?_) (fun hf => ?_)
  · exact (sfL_run_274 hk275) _ _ _ _ _ _ _ _ _ _ _ _ _ _ _ _ _ _ _ _ hf
  refine am_iload dL_run_258 rfl rfl ?_
  refine am_if_eq (tgt := 274) dL_run_260 (by decide) rfl hf (fun hf => ?_) (fun hf => ?_)
  · exact (sfL_run_274 hk275) _ _ _ _ _ _ _ _ _ _ _ _ _ _ _ _ _ _ _ _ hf
  refine am_iload dL_run_263 rfl rfl ?_
  refine am_iload_n dL_run_265 rfl rfl ?_
  refine am_icmp_ne (tgt := 274) dL_run_266 (by decide) rfl hf (fun hf => ?_) (fun hf => ?_)
  · exact (sfL_run_274 hk275) _ _ _ _ _ _ _ _ _ _ _ _ _ _ _ _ _ _ _ _ hf
  refine am_iload dL_run_269 rfl rfl ?_
  refine am_goto (pc' := 275) dL_run_271 (by decide) ?_
  exact hk275 _ _ _ _ _ _ _ _ _ _ _ _ _ _ _ _ _ _ _ _ _ hf
set_option maxRecDepth 20000 in
set_option maxHeartbeats 4000000 in
theorem sfL_run_427 {G : am_G}  {k99 : Option Nat → Int32 → Int32 → Int32 → Int32 → Int32 → Int32 → Option Nat → Option Nat → Int32 → Int32 → Int32 → Int32 → Int32 → Int32 → am_H → Option (am_H)} (hk99 : ∀ (v0 : Option Nat) (v1 : Int32) (v2 : Int32) (v3 : Int32) (v4 : Int32) (v5 : Int32) (v6 : Int32) (v7 : Option Nat) (v8 : Option Nat) (v9 : Int32) (v10 : Int32) (v11 : Int32) (v12 : Int32) (v13 : Int32) (v14 : Int32) (h : am_H) (y : am_H), k99 v0 v1 v2 v3 v4 v5 v6 v7 v8 v9 v10 v11 v12 v13 v14 h = some y → am_S G miL_run 99 [some (va_rf v0), some (.int v1), some (.int v2), some (.int v3), some (.int v4), some (.int v5), some (.int v6), some (va_rf v7), some (va_rf v8), some (.int v9), some (.int v10), some (.int v11), some (.int v12), some (.int v13), some (.int v14), none, none, none, none, none, none] [] h none y) (v0 : Option Nat) (v1 : Int32) (v2 : Int32) (v3 : Int32) (v4 : Int32) (v5 : Int32) (v6 : Int32) (v7 : Option Nat) (v8 : Option Nat) (v9 : Int32) (v10 : Int32) (v11 : Int32) (v12 : Int32) (v13 : Int32) (v14 : Int32) (v15 : Int32) (s0 : Option Nat) (s1 : Int32) (s2 : Int32) (h : am_H) (y : am_H) (hf : fL_run_427 k99 v0 v1 v2 v3 v4 v5 v6 v7 v8 v9 v10 v11 v12 v13 v14 v15 s0 s1 s2 h = some y) : am_S G miL_run 427 [some (va_rf v0), some (.int v1), some (.int v2), some (.int v3), some (.int v4), some (.int v5), some (.int v6), some (va_rf v7), some (va_rf v8), some (.int v9), some (.int v10), some (.int v11), some (.int v12), some (.int v13), some (.int v14), some (.int v15), none, none, none, none, none] [.int s2, .int s1, va_rf s0] h none y := by
  unfold fL_run_427 at hf
  refine am_iast dL_run_427 rfl hf (fun h1 _ hf => ?_)
  refine am_iload_n dL_run_428 rfl rfl ?_
  refine am_iconst (v := 3) dL_run_429 rfl rfl ?_
  refine am_icmp_ne (tgt := 481) dL_run_430 (by decide) rfl hf (fun hf => ?_) (fun hf => ?_)
  · exact am_we ((sfL_run_481 hk99 _) _ _ _ _ _ _ _ _ _ _ _ _ _ _ _ _ _ hf) ⟨Or.inr rfl, Or.inr rfl, Or.inr rfl, Or.inr rfl, Or.inr rfl, Or.inr rfl, Or.inr rfl, Or.inr rfl, Or.inr rfl, Or.inr rfl, Or.inr rfl, Or.inr rfl, Or.inr rfl, Or.inr rfl, Or.inr rfl, Or.inl rfl, Or.inl rfl, Or.inl rfl, Or.inl rfl, Or.inl rfl, Or.inl rfl, trivial⟩
  refine am_iload dL_run_433 rfl rfl ?_
  refine am_if_eq (tgt := 481) dL_run_435 (by decide) rfl hf (fun hf => ?_) (fun hf => ?_)
  · exact am_we ((sfL_run_481 hk99 _) _ _ _ _ _ _ _ _ _ _ _ _ _ _ _ _ _ hf) ⟨Or.inr rfl, Or.inr rfl, Or.inr rfl, Or.inr rfl, Or.inr rfl, Or.inr rfl, Or.inr rfl, Or.inr rfl, Or.inr rfl, Or.inr rfl, Or.inr rfl, Or.inr rfl, Or.inr rfl, Or.inr rfl, Or.inr rfl, Or.inl rfl, Or.inl rfl, Or.inl rfl, Or.inl rfl, Or.inl rfl, Or.inl rfl, trivial⟩
  refine am_iload_n dL_run_438 rfl rfl ?_
  refine am_aload_n dL_run_439 rfl rfl ?_
  refine am_iconst (v := 0) dL_run_440 rfl rfl ?_
  refine am_iald dL_run_441 rfl hf (fun x2 _ hf => ?_)
  refine am_icmp_ge (tgt := 481) dL_run_442 (by decide) rfl hf (fun hf => ?_) (fun hf => ?_)
  · exact am_we ((sfL_run_481 hk99 _) _ _ _ _ _ _ _ _ _ _ _ _ _ _ _ _ _ hf) ⟨Or.inr rfl, Or.inr rfl, Or.inr rfl, Or.inr rfl, Or.inr rfl, Or.inr rfl, Or.inr rfl, Or.inr rfl, Or.inr rfl, Or.inr rfl, Or.inr rfl, Or.inr rfl, Or.inr rfl, Or.inr rfl, Or.inr rfl, Or.inl rfl, Or.inl rfl, Or.inl rfl, Or.inl rfl, Or.inl rfl, Or.inl rfl, trivial⟩
  refine am_aload dL_run_445 rfl rfl ?_
  refine am_iload_n dL_run_447 rfl rfl ?_
  refine am_iald dL_run_448 rfl hf (fun x3 _ hf => ?_)
  refine am_iload dL_run_449 rfl rfl ?_
  refine am_icmp_ge (tgt := 461) dL_run_451 (by decide) rfl hf (fun hf => ?_) (fun hf => ?_)
  · refine am_iload dL_run_461 rfl rfl ?_
    exact am_we ((sfL_run_463 (sfL_run_481 hk99 _)) _ _ _ _ _ _ _ _ _ _ _ _ _ _ _ _ _ _ hf) ⟨Or.inr rfl, Or.inr rfl, Or.inr rfl, Or.inr rfl, Or.inr rfl, Or.inr rfl, Or.inr rfl, Or.inr rfl, Or.inr rfl, Or.inr rfl, Or.inr rfl, Or.inr rfl, Or.inr rfl, Or.inr rfl, Or.inr rfl, Or.inl rfl, Or.inl rfl, Or.inl rfl, Or.inl rfl, Or.inl rfl, Or.inl rfl, trivial⟩
  refine am_aload dL_run_454 rfl rfl ?_
  refine am_iload_n dL_run_456 rfl rfl ?_
  refine am_iald dL_run_457 rfl hf (fun x4 _ hf => ?_)
  refine am_goto (pc' := 463) dL_run_458 (by decide) ?_
  exact am_we ((sfL_run_463 (sfL_run_481 hk99 _)) _ _ _ _ _ _ _ _ _ _ _ _ _ _ _ _ _ _ hf) ⟨Or.inr rfl, Or.inr rfl, Or.inr rfl, Or.inr rfl, Or.inr rfl, Or.inr rfl, Or.inr rfl, Or.inr rfl, Or.inr rfl, Or.inr rfl, Or.inr rfl, Or.inr rfl, Or.inr rfl, Or.inr rfl, Or.inr rfl, Or.inl rfl, Or.inl rfl, Or.inl rfl, Or.inl rfl, Or.inl rfl, Or.inl rfl, trivial⟩
set_option maxRecDepth 20000 in
set_option maxHeartbeats 4000000 in
theorem sfL_run_217 {G : am_G}  {k128 : Option Nat → Int32 → Int32 → Int32 → Int32 → Int32 → Int32 → Option Nat → Option Nat → Int32 → Int32 → Int32 → Int32 → Int32 → Int32 → Int32 → Int32 → Int32 → am_H → Option (am_H)} (hk128 : ∀ (v0 : Option Nat) (v1 : Int32) (v2 : Int32) (v3 : Int32) (v4 : Int32) (v5 : Int32) (v6 : Int32) (v7 : Option Nat) (v8 : Option Nat) (v9 : Int32) (v10 : Int32) (v11 : Int32) (v12 : Int32) (v13 : Int32) (v14 : Int32) (v15 : Int32) (v16 : Int32) (v17 : Int32) (h : am_H) (y : am_H), k128 v0 v1 v2 v3 v4 v5 v6 v7 v8 v9 v10 v11 v12 v13 v14 v15 v16 v17 h = some y → am_S G miL_run 128 [some (va_rf v0), some (.int v1), some (.int v2), some (.int v3), some (.int v4), some (.int v5), some (.int v6), some (va_rf v7), some (va_rf v8), some (.int v9), some (.int v10), some (.int v11), some (.int v12), some (.int v13), some (.int v14), some (.int v15), some (.int v16), some (.int v17), none, none, none] [] h none y) (v0 : Option Nat) (v1 : Int32) (v2 : Int32) (v3 : Int32) (v4 : Int32) (v5 : Int32) (v6 : Int32) (v7 : Option Nat) (v8 : Option Nat) (v9 : Int32) (v10 : Int32) (v11 : Int32) (v12 : Int32) (v13 : Int32) (v14 : Int32) (v15 : Int32) (v17 : Int32) (s0 : Option Nat) (s1 : Int32) (s2 : Int32) (h : am_H) (y : am_H) (hf : fL_run_217 k128 v0 v1 v2 v3 v4 v5 v6 v7 v8 v9 v10 v11 v12 v13 v14 v15 v17 s0 s1 s2 h = some y) : am_S G miL_run 217 [some (va_rf v0), some (.int v1), some (.int v2), some (.int v3), some (.int v4), some (.int v5), some (.int v6), some (va_rf v7), some (va_rf v8), some (.int v9), some (.int v10), some (.int v11), some (.int v12), some (.int v13), some (.int v14), some (.int v15), none, some (.int v17), none, none, none] [.int s2, .int s1, va_rf s0] h none y := by
  unfold fL_run_217 at hf
  refine am_iast dL_run_217 rfl hf (fun h1 _ hf => ?_)
  refine am_aload_n dL_run_218 rfl rfl ?_
  refine am_bipush (v := 7) dL_run_219 (by decide) rfl ?_
  refine am_iconst (v := 3) dL_run_221 rfl rfl ?_
  refine am_iload dL_run_222 rfl rfl ?_
  refine am_imul dL_run_224 rfl ?_
  refine am_iadd dL_run_225 rfl ?_
  refine am_iald dL_run_226 rfl hf (fun x2 _ hf => ?_)
  refine am_istore (ls' := [some (va_rf v0), some (.int v1), some (.int v2), some (.int v3), some (.int v4), some (.int v5), some (.int v6), some (va_rf v7), some (va_rf v8), some (.int v9), some (.int v10), some (.int v11), some (.int v12), some (.int v13), some (.int v14), some (.int v15), none, some (.int v17), none, some (.int x2), none]) dL_run_227 (by decide) rfl rfl ?_
  refine am_iload dL_run_229 rfl rfl ?_
  refine am_iload_n dL_run_231 rfl rfl ?_
  refine am_iconst (v := 1) dL_run_232 rfl rfl ?_
  refine am_icmp_ne (tgt := 253) dL_run_233 (by decide) rfl hf (fun hf => ?_) (fun hf => ?_)
  · exact am_we ((sfL_run_253 (sfL_run_275 hk128)) _ _ _ _ _ _ _ _ _ _ _ _ _ _ _ _ _ _ _ _ hf) ⟨Or.inr rfl, Or.inr rfl, Or.inr rfl, Or.inr rfl, Or.inr rfl, Or.inr rfl, Or.inr rfl, Or.inr rfl, Or.inr rfl, Or.inr rfl, Or.inr rfl, Or.inr rfl, Or.inr rfl, Or.inr rfl, Or.inr rfl, Or.inr rfl, Or.inl rfl, Or.inr rfl, Or.inl rfl, Or.inl rfl, Or.inl rfl, trivial⟩
  refine am_iload dL_run_236 rfl rfl ?_
  refine am_if_eq (tgt := 253) dL_run_238 (by decide) rfl hf (fun hf => ?_) (fun hf => ?_)
  · exact am_we ((sfL_run_253 (sfL_run_275 hk128)) _ _ _ _ _ _ _ _ _ _ _ _ _ _ _ _ _ _ _ _ hf) ⟨Or.inr rfl, Or.inr rfl, Or.inr rfl, Or.inr rfl, Or.inr rfl, Or.inr rfl, Or.inr rfl, Or.inr rfl, Or.inr rfl, Or.inr rfl, Or.inr rfl, Or.inr rfl, Or.inr rfl, Or.inr rfl, Or.inr rfl, Or.inr rfl, Or.inl rfl, Or.inr rfl, Or.inl rfl, Or.inl rfl, Or.inl rfl, trivial⟩
  refine am_iload dL_run_241 rfl rfl ?_
  refine am_iload_n dL_run_243 rfl rfl ?_
  refine am_icmp_ne (tgt := 253) dL_run_244 (by decide) rfl hf (fun hf => ?_) (fun hf => ?_)
  · exact am_we ((sfL_run_253 (sfL_run_275 hk128)) _ _ _ _ _ _ _ _ _ _ _ _ _ _ _ _ _ _ _ _ hf) ⟨Or.inr rfl, Or.inr rfl, Or.inr rfl, Or.inr rfl, Or.inr rfl, Or.inr rfl, Or.inr rfl, Or.inr rfl, Or.inr rfl, Or.inr rfl, Or.inr rfl, Or.inr rfl, Or.inr rfl, Or.inr rfl, Or.inr rfl, Or.inr rfl, Or.inl rfl, Or.inr rfl, Or.inl rfl, Or.inl rfl, Or.inl rfl, trivial⟩
  refine am_iload dL_run_247 rfl rfl ?_
  refine am_ineg dL_run_249 rfl ?_
  refine am_goto (pc' := 275) dL_run_250 (by decide) ?_
  exact am_we ((sfL_run_275 hk128) _ _ _ _ _ _ _ _ _ _ _ _ _ _ _ _ _ _ _ _ _ hf) ⟨Or.inr rfl, Or.inr rfl, Or.inr rfl, Or.inr rfl, Or.inr rfl, Or.inr rfl, Or.inr rfl, Or.inr rfl, Or.inr rfl, Or.inr rfl, Or.inr rfl, Or.inr rfl, Or.inr rfl, Or.inr rfl, Or.inr rfl, Or.inr rfl, Or.inl rfl, Or.inr rfl, Or.inl rfl, Or.inl rfl, Or.inl rfl, trivial⟩
set_option maxRecDepth 20000 in
set_option maxHeartbeats 4000000 in
theorem sfL_run_402 {G : am_G}  {k99 : Option Nat → Int32 → Int32 → Int32 → Int32 → Int32 → Int32 → Option Nat → Option Nat → Int32 → Int32 → Int32 → Int32 → Int32 → Int32 → am_H → Option (am_H)} (hk99 : ∀ (v0 : Option Nat) (v1 : Int32) (v2 : Int32) (v3 : Int32) (v4 : Int32) (v5 : Int32) (v6 : Int32) (v7 : Option Nat) (v8 : Option Nat) (v9 : Int32) (v10 : Int32) (v11 : Int32) (v12 : Int32) (v13 : Int32) (v14 : Int32) (h : am_H) (y : am_H), k99 v0 v1 v2 v3 v4 v5 v6 v7 v8 v9 v10 v11 v12 v13 v14 h = some y → am_S G miL_run 99 [some (va_rf v0), some (.int v1), some (.int v2), some (.int v3), some (.int v4), some (.int v5), some (.int v6), some (va_rf v7), some (va_rf v8), some (.int v9), some (.int v10), some (.int v11), some (.int v12), some (.int v13), some (.int v14), none, none, none, none, none, none] [] h none y) (v0 : Option Nat) (v1 : Int32) (v2 : Int32) (v3 : Int32) (v4 : Int32) (v5 : Int32) (v6 : Int32) (v7 : Option Nat) (v8 : Option Nat) (v9 : Int32) (v10 : Int32) (v11 : Int32) (v12 : Int32) (v13 : Int32) (v14 : Int32) (v15 : Int32) (v16 : Int32) (s0 : Option Nat) (s1 : Int32) (s2 : Int32) (h : am_H) (y : am_H) (hf : fL_run_402 k99 v0 v1 v2 v3 v4 v5 v6 v7 v8 v9 v10 v11 v12 v13 v14 v15 v16 s0 s1 s2 h = some y) : am_S G miL_run 402 [some (va_rf v0), some (.int v1), some (.int v2), some (.int v3), some (.int v4), some (.int v5), some (.int v6), some (va_rf v7), some (va_rf v8), some (.int v9), some (.int v10), some (.int v11), some (.int v12), some (.int v13), some (.int v14), some (.int v15), some (.int v16), none, none, none, none] [.int s2, .int s1, va_rf s0] h none y := by
  unfold fL_run_402 at hf
  refine am_iast dL_run_402 rfl hf (fun h1 _ hf => ?_)
  refine am_aload dL_run_403 rfl rfl ?_
  refine am_bipush (v := 21) dL_run_405 (by decide) rfl ?_
  refine am_iload dL_run_407 rfl rfl ?_
  refine am_aload dL_run_409 rfl rfl ?_
  refine am_bipush (v := 21) dL_run_411 (by decide) rfl ?_
  refine am_iald dL_run_413 rfl hf (fun x2 _ hf => ?_)
  refine am_icmp_le (tgt := 422) dL_run_414 (by decide) rfl hf (fun hf => ?_) (fun hf => ?_)
  · refine am_aload dL_run_422 rfl rfl ?_
    refine am_bipush (v := 21) dL_run_424 (by decide) rfl ?_
    refine am_iald dL_run_426 rfl hf (fun x3 _ hf => ?_)
    exact am_we ((sfL_run_427 hk99) _ _ _ _ _ _ _ _ _ _ _ _ _ _ _ _ _ _ _ _ _ hf) ⟨Or.inr rfl, Or.inr rfl, Or.inr rfl, Or.inr rfl, Or.inr rfl, Or.inr rfl, Or.inr rfl, Or.inr rfl, Or.inr rfl, Or.inr rfl, Or.inr rfl, Or.inr rfl, Or.inr rfl, Or.inr rfl, Or.inr rfl, Or.inr rfl, Or.inl rfl, Or.inl rfl, Or.inl rfl, Or.inl rfl, Or.inl rfl, trivial⟩
  refine am_iload dL_run_417 rfl rfl ?_
  refine am_goto (pc' := 427) dL_run_419 (by decide) ?_
  exact am_we ((sfL_run_427 hk99) _ _ _ _ _ _ _ _ _ _ _ _ _ _ _ _ _ _ _ _ _ hf) ⟨Or.inr rfl, Or.inr rfl, Or.inr rfl, Or.inr rfl, Or.inr rfl, Or.inr rfl, Or.inr rfl, Or.inr rfl, Or.inr rfl, Or.inr rfl, Or.inr rfl, Or.inr rfl, Or.inr rfl, Or.inr rfl, Or.inr rfl, Or.inr rfl, Or.inl rfl, Or.inl rfl, Or.inl rfl, Or.inl rfl, Or.inl rfl, trivial⟩
set_option maxRecDepth 20000 in
set_option maxHeartbeats 4000000 in
theorem sfL_run_190 {G : am_G}  {k128 : Option Nat → Int32 → Int32 → Int32 → Int32 → Int32 → Int32 → Option Nat → Option Nat → Int32 → Int32 → Int32 → Int32 → Int32 → Int32 → Int32 → Int32 → Int32 → am_H → Option (am_H)} (hk128 : ∀ (v0 : Option Nat) (v1 : Int32) (v2 : Int32) (v3 : Int32) (v4 : Int32) (v5 : Int32) (v6 : Int32) (v7 : Option Nat) (v8 : Option Nat) (v9 : Int32) (v10 : Int32) (v11 : Int32) (v12 : Int32) (v13 : Int32) (v14 : Int32) (v15 : Int32) (v16 : Int32) (v17 : Int32) (h : am_H) (y : am_H), k128 v0 v1 v2 v3 v4 v5 v6 v7 v8 v9 v10 v11 v12 v13 v14 v15 v16 v17 h = some y → am_S G miL_run 128 [some (va_rf v0), some (.int v1), some (.int v2), some (.int v3), some (.int v4), some (.int v5), some (.int v6), some (va_rf v7), some (va_rf v8), some (.int v9), some (.int v10), some (.int v11), some (.int v12), some (.int v13), some (.int v14), some (.int v15), some (.int v16), some (.int v17), none, none, none] [] h none y) (v0 : Option Nat) (v1 : Int32) (v2 : Int32) (v3 : Int32) (v4 : Int32) (v5 : Int32) (v6 : Int32) (v7 : Option Nat) (v8 : Option Nat) (v9 : Int32) (v10 : Int32) (v12 : Int32) (v13 : Int32) (v14 : Int32) (v15 : Int32) (v17 : Int32) (v18 : Int32) (s0 : Int32) (s1 : Int32) (h : am_H) (y : am_H) (hf : fL_run_190 k128 v0 v1 v2 v3 v4 v5 v6 v7 v8 v9 v10 v12 v13 v14 v15 v17 v18 s0 s1 h = some y) : am_S G miL_run 190 [some (va_rf v0), some (.int v1), some (.int v2), some (.int v3), some (.int v4), some (.int v5), some (.int v6), some (va_rf v7), some (va_rf v8), some (.int v9), some (.int v10), none, some (.int v12), some (.int v13), some (.int v14), some (.int v15), none, some (.int v17), some (.int v18), none, none] [.int s1, .int s0] h none y := by
  unfold fL_run_190 at hf
  refine am_iadd dL_run_190 rfl ?_
  refine am_istore (ls' := [some (va_rf v0), some (.int v1), some (.int v2), some (.int v3), some (.int v4), some (.int v5), some (.int v6), some (va_rf v7), some (va_rf v8), some (.int v9), some (.int v10), some (.int (s0 + s1)), some (.int v12), some (.int v13), some (.int v14), some (.int v15), none, some (.int v17), some (.int v18), none, none]) dL_run_191 (by decide) rfl rfl ?_
  refine am_aload dL_run_193 rfl rfl ?_
  refine am_iload dL_run_195 rfl rfl ?_
  refine am_aload dL_run_197 rfl rfl ?_
  refine am_iload dL_run_199 rfl rfl ?_
  refine am_iald dL_run_201 rfl hf (fun x1 _ hf => ?_)
  refine am_iload dL_run_202 rfl rfl ?_
  refine am_icmp_le (tgt := 212) dL_run_204 (by decide) rfl hf (fun hf => ?_) (fun hf => ?_)
  · refine am_aload dL_run_212 rfl rfl ?_
    refine am_iload dL_run_214 rfl rfl ?_
    refine am_iald dL_run_216 rfl hf (fun x2 _ hf => ?_)
    exact am_we ((sfL_run_217 hk128) _ _ _ _ _ _ _ _ _ _ _ _ _ _ _ _ _ _ _ _ _ _ hf) ⟨Or.inr rfl, Or.inr rfl, Or.inr rfl, Or.inr rfl, Or.inr rfl, Or.inr rfl, Or.inr rfl, Or.inr rfl, Or.inr rfl, Or.inr rfl, Or.inr rfl, Or.inr rfl, Or.inr rfl, Or.inr rfl, Or.inr rfl, Or.inr rfl, Or.inl rfl, Or.inr rfl, Or.inl rfl, Or.inl rfl, Or.inl rfl, trivial⟩
  refine am_iload dL_run_207 rfl rfl ?_
  refine am_goto (pc' := 217) dL_run_209 (by decide) ?_
  exact am_we ((sfL_run_217 hk128) _ _ _ _ _ _ _ _ _ _ _ _ _ _ _ _ _ _ _ _ _ _ hf) ⟨Or.inr rfl, Or.inr rfl, Or.inr rfl, Or.inr rfl, Or.inr rfl, Or.inr rfl, Or.inr rfl, Or.inr rfl, Or.inr rfl, Or.inr rfl, Or.inr rfl, Or.inr rfl, Or.inr rfl, Or.inr rfl, Or.inr rfl, Or.inr rfl, Or.inl rfl, Or.inr rfl, Or.inl rfl, Or.inl rfl, Or.inl rfl, trivial⟩
set_option maxRecDepth 20000 in
set_option maxHeartbeats 4000000 in
theorem sfL_run_128 {G : am_G}  {k99 : Option Nat → Int32 → Int32 → Int32 → Int32 → Int32 → Int32 → Option Nat → Option Nat → Int32 → Int32 → Int32 → Int32 → Int32 → Int32 → am_H → Option (am_H)} (hk99 : ∀ (v0 : Option Nat) (v1 : Int32) (v2 : Int32) (v3 : Int32) (v4 : Int32) (v5 : Int32) (v6 : Int32) (v7 : Option Nat) (v8 : Option Nat) (v9 : Int32) (v10 : Int32) (v11 : Int32) (v12 : Int32) (v13 : Int32) (v14 : Int32) (h : am_H) (y : am_H), k99 v0 v1 v2 v3 v4 v5 v6 v7 v8 v9 v10 v11 v12 v13 v14 h = some y → am_S G miL_run 99 [some (va_rf v0), some (.int v1), some (.int v2), some (.int v3), some (.int v4), some (.int v5), some (.int v6), some (va_rf v7), some (va_rf v8), some (.int v9), some (.int v10), some (.int v11), some (.int v12), some (.int v13), some (.int v14), none, none, none, none, none, none] [] h none y) : ∀ (n : Nat) (v0 : Option Nat) (v1 : Int32) (v2 : Int32) (v3 : Int32) (v4 : Int32) (v5 : Int32) (v6 : Int32) (v7 : Option Nat) (v8 : Option Nat) (v9 : Int32) (v10 : Int32) (v11 : Int32) (v12 : Int32) (v13 : Int32) (v14 : Int32) (v15 : Int32) (v16 : Int32) (v17 : Int32) (h : am_H) (y : am_H) (hf : fL_run_128 k99 n v0 v1 v2 v3 v4 v5 v6 v7 v8 v9 v10 v11 v12 v13 v14 v15 v16 v17 h = some y), am_S G miL_run 128 [some (va_rf v0), some (.int v1), some (.int v2), some (.int v3), some (.int v4), some (.int v5), some (.int v6), some (va_rf v7), some (va_rf v8), some (.int v9), some (.int v10), some (.int v11), some (.int v12), some (.int v13), some (.int v14), some (.int v15), some (.int v16), some (.int v17), none, none, none] [] h none y := by
  intro n
  induction n with
  | zero => intro v0 v1 v2 v3 v4 v5 v6 v7 v8 v9 v10 v11 v12 v13 v14 v15 v16 v17 h y hf; cases hf
  | succ n ih =>
    intro v0 v1 v2 v3 v4 v5 v6 v7 v8 v9 v10 v11 v12 v13 v14 v15 v16 v17 h y hf
    have hf : fL_run_128_b k99 (fL_run_128 k99 n) v0 v1 v2 v3 v4 v5 v6 v7 v8 v9 v10 v11 v12 v13 v14 v15 v16 v17 h = some y := hf
    unfold fL_run_128_b at hf
    refine am_iload dL_run_128 rfl rfl ?_
    refine am_aload_n dL_run_130 rfl rfl ?_
    refine am_iconst (v := 0) dL_run_131 rfl rfl ?_
    refine am_iald dL_run_132 rfl hf (fun x1 _ hf => ?_)
    refine am_icmp_ge (tgt := 371) dL_run_133 (by decide) rfl hf (fun hf => ?_) (fun hf => ?_)
    · refine am_iload dL_run_371 rfl rfl ?_
      refine am_iload dL_run_373 rfl rfl ?_
      refine am_iadd dL_run_375 rfl ?_
      refine am_istore (ls' := [some (va_rf v0), some (.int v1), some (.int v2), some (.int v3), some (.int v4), some (.int v5), some (.int v6), some (va_rf v7), some (va_rf v8), some (.int (v9 + v16)), some (.int v10), some (.int v11), some (.int v12), some (.int v13), some (.int v14), some (.int v15), some (.int v16), some (.int v17), none, none, none]) dL_run_376 (by decide) (am_s1_r (j := 8) rfl rfl) rfl ?_
      refine am_aload dL_run_378 rfl rfl ?_
      refine am_bipush (v := 20) dL_run_380 (by decide) rfl ?_
      refine am_iload dL_run_382 rfl rfl ?_
      refine am_aload dL_run_384 rfl rfl ?_
      refine am_bipush (v := 20) dL_run_386 (by decide) rfl ?_
      refine am_iald dL_run_388 rfl hf (fun x2 _ hf => ?_)
      refine am_icmp_ge (tgt := 397) dL_run_389 (by decide) rfl hf (fun hf => ?_) (fun hf => ?_)
      · refine am_aload dL_run_397 rfl rfl ?_
        refine am_bipush (v := 20) dL_run_399 (by decide) rfl ?_
        refine am_iald dL_run_401 rfl hf (fun x3 _ hf => ?_)
        exact am_we ((sfL_run_402 hk99) _ _ _ _ _ _ _ _ _ _ _ _ _ _ _ _ _ _ _ _ _ _ hf) ⟨Or.inr rfl, Or.inr rfl, Or.inr rfl, Or.inr rfl, Or.inr rfl, Or.inr rfl, Or.inr rfl, Or.inr rfl, Or.inr rfl, Or.inr rfl, Or.inr rfl, Or.inr rfl, Or.inr rfl, Or.inr rfl, Or.inr rfl, Or.inr rfl, Or.inr rfl, Or.inl rfl, Or.inl rfl, Or.inl rfl, Or.inl rfl, trivial⟩
      refine am_iload dL_run_392 rfl rfl ?_
      refine am_goto (pc' := 402) dL_run_394 (by decide) ?_
      exact am_we ((sfL_run_402 hk99) _ _ _ _ _ _ _ _ _ _ _ _ _ _ _ _ _ _ _ _ _ _ hf) ⟨Or.inr rfl, Or.inr rfl, Or.inr rfl, Or.inr rfl, Or.inr rfl, Or.inr rfl, Or.inr rfl, Or.inr rfl, Or.inr rfl, Or.inr rfl, Or.inr rfl, Or.inr rfl, Or.inr rfl, Or.inr rfl, Or.inr rfl, Or.inr rfl, Or.inr rfl, Or.inl rfl, Or.inl rfl, Or.inl rfl, Or.inl rfl, trivial⟩
    refine am_aload_n dL_run_136 rfl rfl ?_
    refine am_iconst (v := 5) dL_run_137 rfl rfl ?_
    refine am_iconst (v := 3) dL_run_138 rfl rfl ?_
    refine am_iload dL_run_139 rfl rfl ?_
    refine am_imul dL_run_141 rfl ?_
    refine am_iadd dL_run_142 rfl ?_
    refine am_iald dL_run_143 rfl hf (fun x4 _ hf => ?_)
    refine am_aload_n dL_run_144 rfl rfl ?_
    refine am_bipush (v := 6) dL_run_145 (by decide) rfl ?_
    refine am_iconst (v := 3) dL_run_147 rfl rfl ?_
    refine am_iload dL_run_148 rfl rfl ?_
    refine am_imul dL_run_150 rfl ?_
    refine am_iadd dL_run_151 rfl ?_
    refine am_iald dL_run_152 rfl hf (fun x5 _ hf => ?_)
    refine am_imul dL_run_153 rfl ?_
    refine am_istore (ls' := [some (va_rf v0), some (.int v1), some (.int v2), some (.int v3), some (.int v4), some (.int v5), some (.int v6), some (va_rf v7), some (va_rf v8), some (.int v9), some (.int v10), some (.int v11), some (.int v12), some (.int v13), some (.int v14), some (.int v15), some (.int v16), some (.int v17), some (.int (x4 * x5)), none, none]) dL_run_154 (by decide) rfl rfl ?_
    refine am_aload dL_run_156 rfl rfl ?_
    refine am_iload dL_run_158 rfl rfl ?_
    refine am_dup2 dL_run_160 (rfl) (am_c1 _) rfl ?_
    refine am_iald dL_run_161 rfl hf (fun x6 _ hf => ?_)
    refine am_iload dL_run_162 rfl rfl ?_
    refine am_iadd dL_run_164 rfl ?_
    refine am_iast dL_run_165 rfl hf (fun h7 _ hf => ?_)
    refine am_iload dL_run_166 rfl rfl ?_
    refine am_aload dL_run_168 rfl rfl ?_
    refine am_iload dL_run_170 rfl rfl ?_
    refine am_iald dL_run_172 rfl hf (fun x8 _ hf => ?_)
    refine am_iload dL_run_173 rfl rfl ?_
    refine am_icmp_le (tgt := 189) dL_run_175 (by decide) rfl hf (fun hf => ?_) (fun hf => ?_)
    · refine am_iconst (v := 0) dL_run_189 rfl rfl ?_
      exact am_we ((sfL_run_190 ih) _ _ _ _ _ _ _ _ _ _ _ _ _ _ _ _ _ _ _ _ _ hf) ⟨Or.inr rfl, Or.inr rfl, Or.inr rfl, Or.inr rfl, Or.inr rfl, Or.inr rfl, Or.inr rfl, Or.inr rfl, Or.inr rfl, Or.inr rfl, Or.inr rfl, Or.inl rfl, Or.inr rfl, Or.inr rfl, Or.inr rfl, Or.inr rfl, Or.inl rfl, Or.inr rfl, Or.inr rfl, Or.inl rfl, Or.inl rfl, trivial⟩
    refine am_aload dL_run_178 rfl rfl ?_
    refine am_iload dL_run_180 rfl rfl ?_
    refine am_iald dL_run_182 rfl hf (fun x9 _ hf => ?_)
    refine am_iload dL_run_183 rfl rfl ?_
    refine am_isub dL_run_185 rfl ?_
    refine am_goto (pc' := 190) dL_run_186 (by decide) ?_
    exact am_we ((sfL_run_190 ih) _ _ _ _ _ _ _ _ _ _ _ _ _ _ _ _ _ _ _ _ _ hf) ⟨Or.inr rfl, Or.inr rfl, Or.inr rfl, Or.inr rfl, Or.inr rfl, Or.inr rfl, Or.inr rfl, Or.inr rfl, Or.inr rfl, Or.inr rfl, Or.inr rfl, Or.inl rfl, Or.inr rfl, Or.inr rfl, Or.inr rfl, Or.inr rfl, Or.inl rfl, Or.inr rfl, Or.inr rfl, Or.inl rfl, Or.inl rfl, trivial⟩
set_option maxRecDepth 20000 in
set_option maxHeartbeats 4000000 in
theorem sfL_run_118 {G : am_G}  {k99 : Option Nat → Int32 → Int32 → Int32 → Int32 → Int32 → Int32 → Option Nat → Option Nat → Int32 → Int32 → Int32 → Int32 → Int32 → Int32 → am_H → Option (am_H)} (hk99 : ∀ (v0 : Option Nat) (v1 : Int32) (v2 : Int32) (v3 : Int32) (v4 : Int32) (v5 : Int32) (v6 : Int32) (v7 : Option Nat) (v8 : Option Nat) (v9 : Int32) (v10 : Int32) (v11 : Int32) (v12 : Int32) (v13 : Int32) (v14 : Int32) (h : am_H) (y : am_H), k99 v0 v1 v2 v3 v4 v5 v6 v7 v8 v9 v10 v11 v12 v13 v14 h = some y → am_S G miL_run 99 [some (va_rf v0), some (.int v1), some (.int v2), some (.int v3), some (.int v4), some (.int v5), some (.int v6), some (va_rf v7), some (va_rf v8), some (.int v9), some (.int v10), some (.int v11), some (.int v12), some (.int v13), some (.int v14), none, none, none, none, none, none] [] h none y) (v0 : Option Nat) (v1 : Int32) (v2 : Int32) (v3 : Int32) (v4 : Int32) (v5 : Int32) (v6 : Int32) (v7 : Option Nat) (v8 : Option Nat) (v9 : Int32) (v10 : Int32) (v11 : Int32) (v12 : Int32) (v13 : Int32) (v14 : Int32) (s0 : Int32) (h : am_H) (y : am_H) (hf : fL_run_118 k99 v0 v1 v2 v3 v4 v5 v6 v7 v8 v9 v10 v11 v12 v13 v14 s0 h = some y) : am_S G miL_run 118 [some (va_rf v0), some (.int v1), some (.int v2), some (.int v3), some (.int v4), some (.int v5), some (.int v6), some (va_rf v7), some (va_rf v8), some (.int v9), some (.int v10), some (.int v11), some (.int v12), some (.int v13), some (.int v14), none, none, none, none, none, none] [.int s0] h none y := by
  unfold fL_run_118 at hf
  refine am_istore (ls' := [some (va_rf v0), some (.int v1), some (.int v2), some (.int v3), some (.int v4), some (.int v5), some (.int v6), some (va_rf v7), some (va_rf v8), some (.int v9), some (.int v10), some (.int v11), some (.int v12), some (.int v13), some (.int v14), some (.int s0), none, none, none, none, none]) dL_run_118 (by decide) rfl rfl ?_
  refine am_aload_n dL_run_120 rfl rfl ?_
  refine am_iconst (v := 3) dL_run_121 rfl rfl ?_
  refine am_iald dL_run_122 rfl hf (fun x1 _ hf => ?_)
  refine am_istore (ls' := [some (va_rf v0), some (.int v1), some (.int v2), some (.int v3), some (.int v4), some (.int v5), some (.int v6), some (va_rf v7), some (va_rf v8), some (.int v9), some (.int v10), some (.int v11), some (.int v12), some (.int v13), some (.int v14), some (.int s0), some (.int x1), none, none, none, none]) dL_run_123 (by decide) rfl rfl ?_
  refine am_iconst (v := 0) dL_run_125 rfl rfl ?_
  refine am_istore (ls' := [some (va_rf v0), some (.int v1), some (.int v2), some (.int v3), some (.int v4), some (.int v5), some (.int v6), some (va_rf v7), some (va_rf v8), some (.int v9), some (.int v10), some (.int v11), some (.int v12), some (.int v13), some (.int v14), some (.int s0), some (.int x1), some (.int (0 : Int32)), none, none, none]) dL_run_126 (by decide) rfl rfl ?_
  exact (sfL_run_128 hk99 _) _ _ _ _ _ _ _ _ _ _ _ _ _ _ _ _ _ _ _ _ hf
