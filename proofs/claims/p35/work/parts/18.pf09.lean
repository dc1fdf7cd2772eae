/-! printed proofs of the printed functions, 9 -/
set_option maxRecDepth 20000 in
set_option maxHeartbeats 4000000 in
theorem sfL_law_868 {G : am_G}  {k798 : Option Nat → Option Nat → Option Nat → Option Nat → Int32 → Option Nat → Option Nat → Option Nat → Int32 → Option Nat → Int32 → Int32 → Int32 → Int32 → am_H → Option (Int32 × am_H)} (hk798 : ∀ (v1 : Option Nat) (v2 : Option Nat) (v3 : Option Nat) (v4 : Option Nat) (v5 : Int32) (v6 : Option Nat) (v7 : Option Nat) (v8 : Option Nat) (v9 : Int32) (v10 : Option Nat) (v11 : Int32) (v17 : Int32) (v18 : Int32) (v19 : Int32) (h : am_H) (y : Int32 × am_H), k798 v1 v2 v3 v4 v5 v6 v7 v8 v9 v10 v11 v17 v18 v19 h = some y → am_S G miL_law 798 [some (va_rf (some 0)), some (va_rf v1), some (va_rf v2), some (va_rf v3), some (va_rf v4), some (.int v5), some (va_rf v6), some (va_rf v7), some (va_rf v8), some (.int v9), some (va_rf v10), some (.int v11), none, none, none, none, none, some (.int v17), some (.int v18), some (.int v19), none, none, none, none, none, none, none, none, none, none, none, none, none, none, none, none, none, none] [] h (some (.int y.1)) y.2) (v1 : Option Nat) (v2 : Option Nat) (v3 : Option Nat) (v4 : Option Nat) (v5 : Int32) (v6 : Option Nat) (v7 : Option Nat) (v8 : Option Nat) (v9 : Int32) (v10 : Option Nat) (v11 : Int32) (v17 : Int32) (v18 : Int32) (v19 : Int32) (v20 : Int32) (s0 : Int32) (s1 : Int32) (h : am_H) (y : Int32 × am_H) (hf : fL_law_868 G.2.2.2.2.1 G.2.2.2.2.2 k798 v1 v2 v3 v4 v5 v6 v7 v8 v9 v10 v11 v17 v18 v19 v20 s0 s1 h = some y) : am_S G miL_law 868 [some (va_rf (some 0)), some (va_rf v1), some (va_rf v2), some (va_rf v3), some (va_rf v4), some (.int v5), some (va_rf v6), some (va_rf v7), some (va_rf v8), some (.int v9), some (va_rf v10), some (.int v11), none, none, none, none, none, some (.int v17), some (.int v18), some (.int v19), some (.int v20), none, none, none, none, none, none, none, none, none, none, none, none, none, none, none, none, none] [.int s1, .int s0] h (some (.int y.1)) y.2 := by
  unfold fL_law_868 at hf
  refine am_icmp_ne (tgt := 887) dL_law_868 (by decide) rfl hf (fun hf => ?_) (fun hf => ?_)
  · refine am_iconst (v := 0) dL_law_887 rfl rfl ?_
    exact am_zret rfl dL_law_888 hf
  refine am_aload_n dL_law_871 rfl rfl ?_
  refine am_iconst (v := 0) dL_law_872 rfl rfl ?_
  refine am_iload dL_law_873 rfl rfl ?_
  refine am_iload dL_law_875 rfl rfl ?_
  refine am_iload dL_law_877 rfl rfl ?_
  refine am_cVi (As := [.int (0 : Int32), .int v17, .int v11, .int v19]) (st := []) lk_L_law_82 rfl (Nat.le_of_ble_eq_true rfl) (Nat.le_of_ble_eq_true rfl) rfl dL_law_879 rfl hf (fun b2 y1 hf => sfX8_error b2 _ _ _ _ _ y1 hf) (fun b2 y1 _ _ hf => ?_)
  refine am_iload dL_law_882 rfl rfl ?_
  refine am_icmp_eq (tgt := 889) dL_law_884 (by decide) rfl hf (fun hf => ?_) (fun hf => ?_)
  · refine am_iinc (ls' := [some (va_rf (some 0)), some (va_rf v1), some (va_rf v2), some (va_rf v3), some (va_rf v4), some (.int v5), some (va_rf v6), some (va_rf v7), some (va_rf v8), some (.int v9), some (va_rf v10), some (.int v11), none, none, none, none, none, some (.int v17), some (.int v18), some (.int (v19 + (1 : Int32))), some (.int v20), none, none, none, none, none, none, none, none, none, none, none, none, none, none, none, none, none]) dL_law_889 rfl rfl (by decide) rfl rfl ?_
    refine am_goto (pc' := 798) dL_law_892 (by decide) ?_
    exact am_we (hk798 _ _ _ _ _ _ _ _ _ _ _ _ _ _ _ _ hf) ⟨Or.inr rfl, Or.inr rfl, Or.inr rfl, Or.inr rfl, Or.inr rfl, Or.inr rfl, Or.inr rfl, Or.inr rfl, Or.inr rfl, Or.inr rfl, Or.inr rfl, Or.inr rfl, Or.inl rfl, Or.inl rfl, Or.inl rfl, Or.inl rfl, Or.inl rfl, Or.inr rfl, Or.inr rfl, Or.inr rfl, Or.inl rfl, Or.inl rfl, Or.inl rfl, Or.inl rfl, Or.inl rfl, Or.inl rfl, Or.inl rfl, Or.inl rfl, Or.inl rfl, Or.inl rfl, Or.inl rfl, Or.inl rfl, Or.inl rfl, Or.inl rfl, Or.inl rfl, Or.inl rfl, Or.inl rfl, Or.inl rfl, trivial⟩
  refine am_iconst (v := 0) dL_law_887 rfl rfl ?_
  exact am_zret rfl dL_law_888 hf
set_option maxRecDepth 20000 in
set_option maxHeartbeats 4000000 in
theorem sfL_law_798 {G : am_G}  {k489 : Option Nat → Option Nat → Option Nat → Option Nat → Int32 → Option Nat → Option Nat → Option Nat → Int32 → Option Nat → Int32 → am_H → Option (Int32 × am_H)} (hk489 : ∀ (v1 : Option Nat) (v2 : Option Nat) (v3 : Option Nat) (v4 : Option Nat) (v5 : Int32) (v6 : Option Nat) (v7 : Option Nat) (v8 : Option Nat) (v9 : Int32) (v10 : Option Nat) (v11 : Int32) (h : am_H) (y : Int32 × am_H), k489 v1 v2 v3 v4 v5 v6 v7 v8 v9 v10 v11 h = some y → am_S G miL_law 489 [some (va_rf (some 0)), some (va_rf v1), some (va_rf v2), some (va_rf v3), some (va_rf v4), some (.int v5), some (va_rf v6), some (va_rf v7), some (va_rf v8), some (.int v9), some (va_rf v10), some (.int v11), none, none, none, none, none, none, none, none, none, none, none, none, none, none, none, none, none, none, none, none, none, none, none, none, none, none] [] h (some (.int y.1)) y.2) : ∀ (n : Nat) (v1 : Option Nat) (v2 : Option Nat) (v3 : Option Nat) (v4 : Option Nat) (v5 : Int32) (v6 : Option Nat) (v7 : Option Nat) (v8 : Option Nat) (v9 : Int32) (v10 : Option Nat) (v11 : Int32) (v17 : Int32) (v18 : Int32) (v19 : Int32) (h : am_H) (y : Int32 × am_H) (hf : fL_law_798 G.2.2.2.2.1 G.2.2.2.2.2 k489 n v1 v2 v3 v4 v5 v6 v7 v8 v9 v10 v11 v17 v18 v19 h = some y), am_S G miL_law 798 [some (va_rf (some 0)), some (va_rf v1), some (va_rf v2), some (va_rf v3), some (va_rf v4), some (.int v5), some (va_rf v6), some (va_rf v7), some (va_rf v8), some (.int v9), some (va_rf v10), some (.int v11), none, none, none, none, none, some (.int v17), some (.int v18), some (.int v19), none, none, none, none, none, none, none, none, none, none, none, none, none, none, none, none, none, none] [] h (some (.int y.1)) y.2 := by
  intro n
  induction n with
  | zero => intro v1 v2 v3 v4 v5 v6 v7 v8 v9 v10 v11 v17 v18 v19 h y hf; cases hf
  | succ n ih =>
    intro v1 v2 v3 v4 v5 v6 v7 v8 v9 v10 v11 v17 v18 v19 h y hf
    have hf : fL_law_798_b G.2.2.2.2.1 G.2.2.2.2.2 k489 (fL_law_798 G.2.2.2.2.1 G.2.2.2.2.2 k489 n) v1 v2 v3 v4 v5 v6 v7 v8 v9 v10 v11 v17 v18 v19 h = some y := hf
    unfold fL_law_798_b at hf
    refine am_iload dL_law_798 rfl rfl ?_
    refine am_aload_n dL_law_800 rfl rfl ?_
    refine am_iconst (v := 4) dL_law_801 rfl rfl ?_
    refine am_iald dL_law_802 rfl hf (fun x1 _ hf => ?_)
    refine am_icmp_ge (tgt := 895) dL_law_803 (by decide) rfl hf (fun hf => ?_) (fun hf => ?_)
    · refine am_iload dL_law_895 rfl rfl ?_
      refine am_istore (ls' := [some (va_rf (some 0)), some (va_rf v1), some (va_rf v2), some (va_rf v3), some (va_rf v4), some (.int v5), some (va_rf v6), some (va_rf v7), some (va_rf v8), some (.int v9), some (va_rf v10), some (.int v11), none, none, none, none, none, some (.int v17), some (.int v18), some (.int v18), none, none, none, none, none, none, none, none, none, none, none, none, none, none, none, none, none, none]) dL_law_897 (by decide) rfl rfl ?_
      refine am_aload_n dL_law_899 rfl rfl ?_
      refine am_iconst (v := 4) dL_law_900 rfl rfl ?_
      refine am_iald dL_law_901 rfl hf (fun x2 _ hf => ?_)
      refine am_istore (ls' := [some (va_rf (some 0)), some (va_rf v1), some (va_rf v2), some (va_rf v3), some (va_rf v4), some (.int v5), some (va_rf v6), some (va_rf v7), some (va_rf v8), some (.int v9), some (va_rf v10), some (.int v11), none, none, none, none, none, some (.int v17), some (.int v18), some (.int v18), some (.int x2), none, none, none, none, none, none, none, none, none, none, none, none, none, none, none, none, none]) dL_law_902 (by decide) rfl rfl ?_
      exact (sfL_law_904 hk489 _) _ _ _ _ _ _ _ _ _ _ _ _ _ _ _ _ _ hf
    refine am_aload dL_law_806 rfl rfl ?_
    refine am_iload dL_law_808 rfl rfl ?_
    refine am_iald dL_law_810 rfl hf (fun x3 _ hf => ?_)
    refine am_iload dL_law_811 rfl rfl ?_
    refine am_iconst (v := 1) dL_law_813 rfl rfl ?_
    refine am_iadd dL_law_814 rfl ?_
    refine am_aload dL_law_815 rfl rfl ?_
    refine am_iload dL_law_817 rfl rfl ?_
    refine am_iald dL_law_819 rfl hf (fun x4 _ hf => ?_)
    refine am_imul dL_law_820 rfl ?_
    refine am_aload_n dL_law_821 rfl rfl ?_
    refine am_iconst (v := 4) dL_law_822 rfl rfl ?_
    refine am_iald dL_law_823 rfl hf (fun x5 _ hf => ?_)
    refine am_idiv dL_law_824 rfl hf (fun hf => ?_)
    refine am_isub dL_law_825 rfl ?_
    refine am_istore (ls' := [some (va_rf (some 0)), some (va_rf v1), some (va_rf v2), some (va_rf v3), some (va_rf v4), some (.int v5), some (va_rf v6), some (va_rf v7), some (va_rf v8), some (.int v9), some (va_rf v10), some (.int v11), none, none, none, none, none, some (.int v17), some (.int v18), some (.int v19), some (.int (x3 - (((v19 + (1 : Int32)) * x4) / x5))), none, none, none, none, none, none, none, none, none, none, none, none, none, none, none, none, none]) dL_law_826 (by decide) rfl rfl ?_
    refine am_iload dL_law_828 rfl rfl ?_
    refine am_iload dL_law_830 rfl rfl ?_
    refine am_cSi (As := [.int (x3 - (((v19 + (1 : Int32)) * x4) / x5))]) (st := [.int v18]) lk_L_law_76 rfl (Nat.le_of_ble_eq_true rfl) (Nat.le_of_ble_eq_true rfl) rfl dL_law_832 rfl hf (fun y6 hf => sfL_size _ _ y6 hf) (fun y6 _ hf => ?_)
    refine am_iadd dL_law_835 rfl ?_
    refine am_istore (ls' := [some (va_rf (some 0)), some (va_rf v1), some (va_rf v2), some (va_rf v3), some (va_rf v4), some (.int v5), some (va_rf v6), some (va_rf v7), some (va_rf v8), some (.int v9), some (va_rf v10), some (.int v11), none, none, none, none, none, some (.int v17), some (.int (v18 + y6.1)), some (.int v19), some (.int (x3 - (((v19 + (1 : Int32)) * x4) / x5))), none, none, none, none, none, none, none, none, none, none, none, none, none, none, none, none, none]) dL_law_836 (by decide) rfl rfl ?_
    refine am_aload_n dL_law_838 rfl rfl ?_
    refine am_iconst (v := 0) dL_law_839 rfl rfl ?_
    refine am_iload dL_law_840 rfl rfl ?_
    refine am_iload dL_law_842 rfl rfl ?_
    refine am_iload dL_law_844 rfl rfl ?_
    refine am_cVi (As := [.int (0 : Int32), .int v17, .int v11, .int v19]) (st := []) lk_L_law_79 rfl (Nat.le_of_ble_eq_true rfl) (Nat.le_of_ble_eq_true rfl) rfl dL_law_846 rfl hf (fun b8 y7 hf => sfX8_drops b8 _ _ _ _ _ y7 hf) (fun b8 y7 _ _ hf => ?_)
    refine am_aload dL_law_849 rfl rfl ?_
    refine am_iload dL_law_851 rfl rfl ?_
    refine am_iald dL_law_853 rfl hf (fun x9 _ hf => ?_)
    refine am_bipush (v := 95) dL_law_854 (by decide) rfl ?_
    refine am_icmp_le (tgt := 863) dL_law_856 (by decide) rfl hf (fun hf => ?_) (fun hf => ?_)
    · refine am_aload dL_law_863 rfl rfl ?_
      refine am_iload dL_law_865 rfl rfl ?_
      refine am_iald dL_law_867 rfl hf (fun x10 _ hf => ?_)
      exact (sfL_law_868 ih) _ _ _ _ _ _ _ _ _ _ _ _ _ _ _ _ _ _ _ hf
    refine am_iconst (v := -1) dL_law_859 rfl rfl ?_
    refine am_goto (pc' := 868) dL_law_860 (by decide) ?_
    exact (sfL_law_868 ih) _ _ _ _ _ _ _ _ _ _ _ _ _ _ _ _ _ _ _ hf
set_option maxRecDepth 20000 in
set_option maxHeartbeats 4000000 in
theorem sfL_law_709 {G : am_G}  {k666 : Option Nat → Option Nat → Option Nat → Option Nat → Int32 → Option Nat → Option Nat → Option Nat → Int32 → Option Nat → Int32 → Int32 → Int32 → Int32 → Int32 → Int32 → Int32 → am_H → Option (Int32 × am_H)} (hk666 : ∀ (v1 : Option Nat) (v2 : Option Nat) (v3 : Option Nat) (v4 : Option Nat) (v5 : Int32) (v6 : Option Nat) (v7 : Option Nat) (v8 : Option Nat) (v9 : Int32) (v10 : Option Nat) (v11 : Int32) (v13 : Int32) (v14 : Int32) (v15 : Int32) (v16 : Int32) (v17 : Int32) (v18 : Int32) (h : am_H) (y : Int32 × am_H), k666 v1 v2 v3 v4 v5 v6 v7 v8 v9 v10 v11 v13 v14 v15 v16 v17 v18 h = some y → am_S G miL_law 666 [some (va_rf (some 0)), some (va_rf v1), some (va_rf v2), some (va_rf v3), some (va_rf v4), some (.int v5), some (va_rf v6), some (va_rf v7), some (va_rf v8), some (.int v9), some (va_rf v10), some (.int v11), none, some (.int v13), some (.int v14), some (.int v15), some (.int v16), some (.int v17), some (.int v18), none, none, none, none, none, none, none, none, none, none, none, none, none, none, none, none, none, none, none] [] h (some (.int y.1)) y.2) : ∀ (n : Nat) (v1 : Option Nat) (v2 : Option Nat) (v3 : Option Nat) (v4 : Option Nat) (v5 : Int32) (v6 : Option Nat) (v7 : Option Nat) (v8 : Option Nat) (v9 : Int32) (v10 : Option Nat) (v11 : Int32) (v13 : Int32) (v14 : Int32) (v15 : Int32) (v16 : Int32) (v17 : Int32) (v18 : Int32) (v19 : Int32) (v20 : Int32) (h : am_H) (y : Int32 × am_H) (hf : fL_law_709 G.2.2.2.2.1 G.2.2.2.2.2 k666 n v1 v2 v3 v4 v5 v6 v7 v8 v9 v10 v11 v13 v14 v15 v16 v17 v18 v19 v20 h = some y), am_S G miL_law 709 [some (va_rf (some 0)), some (va_rf v1), some (va_rf v2), some (va_rf v3), some (va_rf v4), some (.int v5), some (va_rf v6), some (va_rf v7), some (va_rf v8), some (.int v9), some (va_rf v10), some (.int v11), none, some (.int v13), some (.int v14), some (.int v15), some (.int v16), some (.int v17), some (.int v18), some (.int v19), some (.int v20), none, none, none, none, none, none, none, none, none, none, none, none, none, none, none, none, none] [] h (some (.int y.1)) y.2 := by
  intro n
  induction n with
  | zero => intro v1 v2 v3 v4 v5 v6 v7 v8 v9 v10 v11 v13 v14 v15 v16 v17 v18 v19 v20 h y hf; cases hf
  | succ n ih =>
    intro v1 v2 v3 v4 v5 v6 v7 v8 v9 v10 v11 v13 v14 v15 v16 v17 v18 v19 v20 h y hf
    have hf : fL_law_709_b G.2.2.2.2.1 G.2.2.2.2.2 k666 (fL_law_709 G.2.2.2.2.1 G.2.2.2.2.2 k666 n) v1 v2 v3 v4 v5 v6 v7 v8 v9 v10 v11 v13 v14 v15 v16 v17 v18 v19 v20 h = some y := hf
    unfold fL_law_709_b at hf
    refine am_iload dL_law_709 rfl rfl ?_
    refine am_bipush (v := 8) dL_law_711 (by decide) rfl ?_
    refine am_icmp_ge (tgt := 748) dL_law_713 (by decide) rfl hf (fun hf => ?_) (fun hf => ?_)
    · refine am_iinc (ls' := [some (va_rf (some 0)), some (va_rf v1), some (va_rf v2), some (va_rf v3), some (va_rf v4), some (.int v5), some (va_rf v6), some (va_rf v7), some (va_rf v8), some (.int v9), some (va_rf v10), some (.int v11), none, some (.int v13), some (.int v14), some (.int v15), some (.int v16), some (.int v17), some (.int (v18 + (1 : Int32))), some (.int v19), some (.int v20), none, none, none, none, none, none, none, none, none, none, none, none, none, none, none, none, none]) dL_law_748 rfl rfl (by decide) rfl rfl ?_
      refine am_goto (pc' := 666) dL_law_751 (by decide) ?_
      exact am_we (hk666 _ _ _ _ _ _ _ _ _ _ _ _ _ _ _ _ _ _ _ hf) ⟨Or.inr rfl, Or.inr rfl, Or.inr rfl, Or.inr rfl, Or.inr rfl, Or.inr rfl, Or.inr rfl, Or.inr rfl, Or.inr rfl, Or.inr rfl, Or.inr rfl, Or.inr rfl, Or.inl rfl, Or.inr rfl, Or.inr rfl, Or.inr rfl, Or.inr rfl, Or.inr rfl, Or.inr rfl, Or.inl rfl, Or.inl rfl, Or.inl rfl, Or.inl rfl, Or.inl rfl, Or.inl rfl, Or.inl rfl, Or.inl rfl, Or.inl rfl, Or.inl rfl, Or.inl rfl, Or.inl rfl, Or.inl rfl, Or.inl rfl, Or.inl rfl, Or.inl rfl, Or.inl rfl, Or.inl rfl, Or.inl rfl, trivial⟩
    refine am_aload_n dL_law_716 rfl rfl ?_
    refine am_iconst (v := 0) dL_law_717 rfl rfl ?_
    refine am_iload dL_law_718 rfl rfl ?_
    refine am_iload dL_law_720 rfl rfl ?_
    refine am_iload dL_law_722 rfl rfl ?_
    refine am_iload dL_law_724 rfl rfl ?_
    refine am_cVi (As := [.int (0 : Int32), .int v17, .int v11, .int v19, .int v20]) (st := []) lk_L_law_69 rfl (Nat.le_of_ble_eq_true rfl) (Nat.le_of_ble_eq_true rfl) rfl dL_law_726 rfl hf (fun b2 y1 hf => sfX8_at b2 _ _ _ _ _ _ y1 hf) (fun b2 y1 _ _ hf => ?_)
    refine am_aload dL_law_729 rfl rfl ?_
    refine am_bipush (v := 12) dL_law_731 (by decide) rfl ?_
    refine am_iload dL_law_733 rfl rfl ?_
    refine am_iadd dL_law_735 rfl ?_
    refine am_iald dL_law_736 rfl hf (fun x3 _ hf => ?_)
    refine am_icmp_eq (tgt := 742) dL_law_737 (by decide) rfl hf (fun hf => ?_) (fun hf => ?_)
    · refine am_iinc (ls' := [some (va_rf (some 0)), some (va_rf v1), some (va_rf v2), some (va_rf v3), some (va_rf v4), some (.int v5), some (va_rf v6), some (va_rf v7), some (va_rf v8), some (.int v9), some (va_rf v10), some (.int v11), none, some (.int v13), some (.int v14), some (.int v15), some (.int v16), some (.int v17), some (.int v18), some (.int v19), some (.int (v20 + (1 : Int32))), none, none, none, none, none, none, none, none, none, none, none, none, none, none, none, none, none]) dL_law_742 rfl rfl (by decide) rfl rfl ?_
      refine am_goto (pc' := 709) dL_law_745 (by decide) ?_
      exact ih _ _ _ _ _ _ _ _ _ _ _ _ _ _ _ _ _ _ _ _ _ hf
    refine am_iconst (v := 0) dL_law_740 rfl rfl ?_
    exact am_zret rfl dL_law_741 hf
set_option maxRecDepth 20000 in
set_option maxHeartbeats 4000000 in
theorem sfL_law_666 {G : am_G}  {k489 : Option Nat → Option Nat → Option Nat → Option Nat → Int32 → Option Nat → Option Nat → Option Nat → Int32 → Option Nat → Int32 → am_H → Option (Int32 × am_H)} (hk489 : ∀ (v1 : Option Nat) (v2 : Option Nat) (v3 : Option Nat) (v4 : Option Nat) (v5 : Int32) (v6 : Option Nat) (v7 : Option Nat) (v8 : Option Nat) (v9 : Int32) (v10 : Option Nat) (v11 : Int32) (h : am_H) (y : Int32 × am_H), k489 v1 v2 v3 v4 v5 v6 v7 v8 v9 v10 v11 h = some y → am_S G miL_law 489 [some (va_rf (some 0)), some (va_rf v1), some (va_rf v2), some (va_rf v3), some (va_rf v4), some (.int v5), some (va_rf v6), some (va_rf v7), some (va_rf v8), some (.int v9), some (va_rf v10), some (.int v11), none, none, none, none, none, none, none, none, none, none, none, none, none, none, none, none, none, none, none, none, none, none, none, none, none, none] [] h (some (.int y.1)) y.2) : ∀ (n : Nat) (v1 : Option Nat) (v2 : Option Nat) (v3 : Option Nat) (v4 : Option Nat) (v5 : Int32) (v6 : Option Nat) (v7 : Option Nat) (v8 : Option Nat) (v9 : Int32) (v10 : Option Nat) (v11 : Int32) (v13 : Int32) (v14 : Int32) (v15 : Int32) (v16 : Int32) (v17 : Int32) (v18 : Int32) (h : am_H) (y : Int32 × am_H) (hf : fL_law_666 G.2.2.2.2.1 G.2.2.2.2.2 k489 n v1 v2 v3 v4 v5 v6 v7 v8 v9 v10 v11 v13 v14 v15 v16 v17 v18 h = some y), am_S G miL_law 666 [some (va_rf (some 0)), some (va_rf v1), some (va_rf v2), some (va_rf v3), some (va_rf v4), some (.int v5), some (va_rf v6), some (va_rf v7), some (va_rf v8), some (.int v9), some (va_rf v10), some (.int v11), none, some (.int v13), some (.int v14), some (.int v15), some (.int v16), some (.int v17), some (.int v18), none, none, none, none, none, none, none, none, none, none, none, none, none, none, none, none, none, none, none] [] h (some (.int y.1)) y.2 := by
  intro n
  induction n with
  | zero => intro v1 v2 v3 v4 v5 v6 v7 v8 v9 v10 v11 v13 v14 v15 v16 v17 v18 h y hf; cases hf
  | succ n ih =>
    intro v1 v2 v3 v4 v5 v6 v7 v8 v9 v10 v11 v13 v14 v15 v16 v17 v18 h y hf
    have hf : fL_law_666_b G.2.2.2.2.1 G.2.2.2.2.2 k489 (fL_law_666 G.2.2.2.2.1 G.2.2.2.2.2 k489 n) v1 v2 v3 v4 v5 v6 v7 v8 v9 v10 v11 v13 v14 v15 v16 v17 v18 h = some y := hf
    unfold fL_law_666_b at hf
    refine am_iload dL_law_666 rfl rfl ?_
    refine am_iconst (v := 4) dL_law_668 rfl rfl ?_
    refine am_icmp_ge (tgt := 754) dL_law_669 (by decide) rfl hf (fun hf => ?_) (fun hf => ?_)
    · refine am_aload_n dL_law_754 rfl rfl ?_
      refine am_iconst (v := 0) dL_law_755 rfl rfl ?_
      refine am_iload dL_law_756 rfl rfl ?_
      refine am_iload dL_law_758 rfl rfl ?_
      refine am_iconst (v := 0) dL_law_760 rfl rfl ?_
      refine am_cVi (As := [.int (0 : Int32), .int v17, .int v11, .int (0 : Int32)]) (st := []) lk_L_law_73 rfl (Nat.le_of_ble_eq_true rfl) (Nat.le_of_ble_eq_true rfl) rfl dL_law_761 rfl hf (fun b2 y1 hf => sfX8_even b2 _ _ _ _ _ y1 hf) (fun b2 y1 _ _ hf => ?_)
      refine am_aload dL_law_764 rfl rfl ?_
      refine am_bipush (v := 20) dL_law_766 (by decide) rfl ?_
      refine am_iald dL_law_768 rfl hf (fun x3 _ hf => ?_)
      refine am_icmp_ne (tgt := 790) dL_law_769 (by decide) rfl hf (fun hf => ?_) (fun hf => ?_)
      · refine am_iconst (v := 0) dL_law_790 rfl rfl ?_
        exact am_zret rfl dL_law_791 hf
      refine am_aload_n dL_law_772 rfl rfl ?_
      refine am_iconst (v := 0) dL_law_773 rfl rfl ?_
      refine am_iload dL_law_774 rfl rfl ?_
      refine am_iload dL_law_776 rfl rfl ?_
      refine am_iconst (v := 1) dL_law_778 rfl rfl ?_
      refine am_cVi (As := [.int (0 : Int32), .int v17, .int v11, .int (1 : Int32)]) (st := []) lk_L_law_73 rfl (Nat.le_of_ble_eq_true rfl) (Nat.le_of_ble_eq_true rfl) rfl dL_law_779 rfl hf (fun b5 y4 hf => sfX8_even b5 _ _ _ _ _ y4 hf) (fun b5 y4 _ _ hf => ?_)
      refine am_aload dL_law_782 rfl rfl ?_
      refine am_bipush (v := 21) dL_law_784 (by decide) rfl ?_
      refine am_iald dL_law_786 rfl hf (fun x6 _ hf => ?_)
      refine am_icmp_eq (tgt := 792) dL_law_787 (by decide) rfl hf (fun hf => ?_) (fun hf => ?_)
      · refine am_iconst (v := 0) dL_law_792 rfl rfl ?_
        refine am_istore (ls' := [some (va_rf (some 0)), some (va_rf v1), some (va_rf v2), some (va_rf v3), some (va_rf v4), some (.int v5), some (va_rf v6), some (va_rf v7), some (va_rf v8), some (.int v9), some (va_rf v10), some (.int v11), none, some (.int v13), some (.int v14), some (.int v15), some (.int v16), some (.int v17), some (.int (0 : Int32)), none, none, none, none, none, none, none, none, none, none, none, none, none, none, none, none, none, none, none]) dL_law_793 (by decide) rfl rfl ?_
        refine am_iconst (v := 0) dL_law_795 rfl rfl ?_
        refine am_istore (ls' := [some (va_rf (some 0)), some (va_rf v1), some (va_rf v2), some (va_rf v3), some (va_rf v4), some (.int v5), some (va_rf v6), some (va_rf v7), some (va_rf v8), some (.int v9), some (va_rf v10), some (.int v11), none, some (.int v13), some (.int v14), some (.int v15), some (.int v16), some (.int v17), some (.int (0 : Int32)), some (.int (0 : Int32)), none, none, none, none, none, none, none, none, none, none, none, none, none, none, none, none, none, none]) dL_law_796 (by decide) rfl rfl ?_
        exact am_we ((sfL_law_798 hk489 _) _ _ _ _ _ _ _ _ _ _ _ _ _ _ _ _ hf) ⟨Or.inr rfl, Or.inr rfl, Or.inr rfl, Or.inr rfl, Or.inr rfl, Or.inr rfl, Or.inr rfl, Or.inr rfl, Or.inr rfl, Or.inr rfl, Or.inr rfl, Or.inr rfl, Or.inl rfl, Or.inl rfl, Or.inl rfl, Or.inl rfl, Or.inl rfl, Or.inr rfl, Or.inr rfl, Or.inr rfl, Or.inl rfl, Or.inl rfl, Or.inl rfl, Or.inl rfl, Or.inl rfl, Or.inl rfl, Or.inl rfl, Or.inl rfl, Or.inl rfl, Or.inl rfl, Or.inl rfl, Or.inl rfl, Or.inl rfl, Or.inl rfl, Or.inl rfl, Or.inl rfl, Or.inl rfl, Or.inl rfl, trivial⟩
      refine am_iconst (v := 0) dL_law_790 rfl rfl ?_
      exact am_zret rfl dL_law_791 hf
    refine am_aload_n dL_law_672 rfl rfl ?_
    refine am_bipush (v := 25) dL_law_673 (by decide) rfl ?_
    refine am_iload dL_law_675 rfl rfl ?_
    refine am_iadd dL_law_677 rfl ?_
    refine am_cSi (As := [va_rf (some 0), .int ((25 : Int32) + v18)]) (st := []) lk_L_law_37 rfl (by simp only [am_e1_r, am_e1_i, am_e1_l, am_e1_n]; exact Nat.le_of_ble_eq_true rfl) (Nat.le_of_ble_eq_true rfl) rfl dL_law_678 rfl hf (fun y7 hf => sfL_cell _ _ y7 hf) (fun y7 _ hf => ?_)
    refine am_bipush (v := 96) dL_law_681 (by decide) rfl ?_
    refine am_irem dL_law_683 rfl hf (fun hf => ?_)
    refine am_istore (ls' := [some (va_rf (some 0)), some (va_rf v1), some (va_rf v2), some (va_rf v3), some (va_rf v4), some (.int v5), some (va_rf v6), some (va_rf v7), some (va_rf v8), some (.int v9), some (va_rf v10), some (.int v11), none, some (.int v13), some (.int v14), some (.int v15), some (.int v16), some (.int v17), some (.int v18), some (.int (y7.1 - y7.1 / (96 : Int32) * (96 : Int32))), none, none, none, none, none, none, none, none, none, none, none, none, none, none, none, none, none, none]) dL_law_684 (by decide) rfl rfl ?_
    refine am_aload_n dL_law_686 rfl rfl ?_
    refine am_aload_n dL_law_687 rfl rfl ?_
    refine am_iload dL_law_688 rfl rfl ?_
    refine am_iald dL_law_690 rfl hf (fun x8 _ hf => ?_)
    refine am_iload dL_law_691 rfl rfl ?_
    refine am_iload dL_law_693 rfl rfl ?_
    refine am_iload dL_law_695 rfl rfl ?_
    refine am_iload dL_law_697 rfl rfl ?_
    refine am_iload dL_law_699 rfl rfl ?_
    refine am_aload dL_law_701 rfl rfl ?_
    refine am_cSv (As := [va_rf v2, .int x8, .int v13, .int v14, .int v15, .int v16, .int (y7.1 - y7.1 / (96 : Int32) * (96 : Int32)), va_rf v10]) (st := []) lk_L_law_65 rfl (by simp only [am_e1_r, am_e1_i, am_e1_l, am_e1_n]; exact Nat.le_of_ble_eq_true rfl) (Nat.le_of_ble_eq_true rfl) rfl dL_law_703 rfl hf (fun y9 hf => sfL_run _ _ _ _ _ _ _ _ _ y9 hf) (fun y9 _ hf => ?_)
    refine am_iconst (v := 0) dL_law_706 rfl rfl ?_
    refine am_istore (ls' := [some (va_rf (some 0)), some (va_rf v1), some (va_rf v2), some (va_rf v3), some (va_rf v4), some (.int v5), some (va_rf v6), some (va_rf v7), some (va_rf v8), some (.int v9), some (va_rf v10), some (.int v11), none, some (.int v13), some (.int v14), some (.int v15), some (.int v16), some (.int v17), some (.int v18), some (.int (y7.1 - y7.1 / (96 : Int32) * (96 : Int32))), some (.int (0 : Int32)), none, none, none, none, none, none, none, none, none, none, none, none, none, none, none, none, none]) dL_law_707 (by decide) rfl rfl ?_
    exact (sfL_law_709 ih _) _ _ _ _ _ _ _ _ _ _ _ _ _ _ _ _ _ _ _ _ _ hf
set_option maxRecDepth 20000 in
set_option maxHeartbeats 4000000 in
theorem sfL_law_1624 {G : am_G}  {k1545 : Option Nat → Option Nat → Option Nat → Option Nat → Int32 → Int32 → Option Nat → Int32 → Int32 → Int32 → Int32 → Int32 → am_H → Option (Int32 × am_H)} (hk1545 : ∀ (v1 : Option Nat) (v2 : Option Nat) (v3 : Option Nat) (v4 : Option Nat) (v5 : Int32) (v9 : Int32) (v10 : Option Nat) (v11 : Int32) (v12 : Int32) (v13 : Int32) (v14 : Int32) (v15 : Int32) (h : am_H) (y : Int32 × am_H), k1545 v1 v2 v3 v4 v5 v9 v10 v11 v12 v13 v14 v15 h = some y → am_S G miL_law 1545 [none, some (va_rf v1), some (va_rf v2), some (va_rf v3), some (va_rf v4), some (.int v5), none, none, none, some (.int v9), some (va_rf v10), some (.int v11), some (.int v12), some (.int v13), some (.int v14), some (.int v15), none, none, none, none, none, none, none, none, none, none, none, none, none, none, none, none, none, none, none, none, none, none] [] h (some (.int y.1)) y.2) (v1 : Option Nat) (v2 : Option Nat) (v3 : Option Nat) (v4 : Option Nat) (v5 : Int32) (v9 : Int32) (v10 : Option Nat) (v12 : Int32) (v13 : Int32) (v14 : Int32) (v15 : Int32) (s0 : Int32) (h : am_H) (y : Int32 × am_H) (hf : fL_law_1624 G.2.2.2.2.1 G.2.2.2.2.2 k1545 v1 v2 v3 v4 v5 v9 v10 v12 v13 v14 v15 s0 h = some y) : am_S G miL_law 1624 [none, some (va_rf v1), some (va_rf v2), some (va_rf v3), some (va_rf v4), some (.int v5), none, none, none, some (.int v9), some (va_rf v10), none, some (.int v12), some (.int v13), some (.int v14), some (.int v15), none, none, none, none, none, none, none, none, none, none, none, none, none, none, none, none, none, none, none, none, none, none] [.int s0] h (some (.int y.1)) y.2 := by
  unfold fL_law_1624 at hf
  refine am_istore (ls' := [none, some (va_rf v1), some (va_rf v2), some (va_rf v3), some (va_rf v4), some (.int v5), none, none, none, some (.int v9), some (va_rf v10), some (.int s0), some (.int v12), some (.int v13), some (.int v14), some (.int v15), none, none, none, none, none, none, none, none, none, none, none, none, none, none, none, none, none, none, none, none, none, none]) dL_law_1624 (by decide) (am_s1_r (j := 10) rfl rfl) rfl ?_
  refine am_iinc (ls' := [none, some (va_rf v1), some (va_rf v2), some (va_rf v3), some (va_rf v4), some (.int v5), none, none, none, some (.int v9), some (va_rf v10), some (.int s0), some (.int v12), some (.int v13), some (.int v14), some (.int (v15 + (1 : Int32))), none, none, none, none, none, none, none, none, none, none, none, none, none, none, none, none, none, none, none, none, none, none]) dL_law_1626 rfl rfl (by decide) rfl rfl ?_
  refine am_goto (pc' := 1545) dL_law_1629 (by decide) ?_
  exact hk1545 _ _ _ _ _ _ _ _ _ _ _ _ _ _ hf
set_option maxRecDepth 20000 in
set_option maxHeartbeats 4000000 in
theorem sfL_law_650 {G : am_G}  {k489 : Option Nat → Option Nat → Option Nat → Option Nat → Int32 → Option Nat → Option Nat → Option Nat → Int32 → Option Nat → Int32 → am_H → Option (Int32 × am_H)} (hk489 : ∀ (v1 : Option Nat) (v2 : Option Nat) (v3 : Option Nat) (v4 : Option Nat) (v5 : Int32) (v6 : Option Nat) (v7 : Option Nat) (v8 : Option Nat) (v9 : Int32) (v10 : Option Nat) (v11 : Int32) (h : am_H) (y : Int32 × am_H), k489 v1 v2 v3 v4 v5 v6 v7 v8 v9 v10 v11 h = some y → am_S G miL_law 489 [some (va_rf (some 0)), some (va_rf v1), some (va_rf v2), some (va_rf v3), some (va_rf v4), some (.int v5), some (va_rf v6), some (va_rf v7), some (va_rf v8), some (.int v9), some (va_rf v10), some (.int v11), none, none, none, none, none, none, none, none, none, none, none, none, none, none, none, none, none, none, none, none, none, none, none, none, none, none] [] h (some (.int y.1)) y.2) (v1 : Option Nat) (v2 : Option Nat) (v3 : Option Nat) (v4 : Option Nat) (v5 : Int32) (v6 : Option Nat) (v7 : Option Nat) (v8 : Option Nat) (v9 : Int32) (v10 : Option Nat) (v11 : Int32) (v13 : Int32) (v14 : Int32) (v15 : Int32) (v16 : Int32) (h : am_H) (y : Int32 × am_H) (hf : fL_law_650 G.2.2.2.2.1 G.2.2.2.2.2 k489 v1 v2 v3 v4 v5 v6 v7 v8 v9 v10 v11 v13 v14 v15 v16 h = some y) : am_S G miL_law 650 [some (va_rf (some 0)), some (va_rf v1), some (va_rf v2), some (va_rf v3), some (va_rf v4), some (.int v5), some (va_rf v6), some (va_rf v7), some (va_rf v8), some (.int v9), some (va_rf v10), some (.int v11), none, some (.int v13), some (.int v14), some (.int v15), some (.int v16), none, none, none, none, none, none, none, none, none, none, none, none, none, none, none, none, none, none, none, none, none] [] h (some (.int y.1)) y.2 := by
  unfold fL_law_650 at hf
  refine am_aload_n dL_law_650 rfl rfl ?_
  refine am_bipush (v := 20) dL_law_651 (by decide) rfl ?_
  refine am_iload dL_law_653 rfl rfl ?_
  refine am_iadd dL_law_655 rfl ?_
  refine am_cSi (As := [va_rf (some 0), .int ((20 : Int32) + v11)]) (st := []) lk_L_law_37 rfl (by simp only [am_e1_r, am_e1_i, am_e1_l, am_e1_n]; exact Nat.le_of_ble_eq_true rfl) (Nat.le_of_ble_eq_true rfl) rfl dL_law_656 rfl hf (fun y1 hf => sfL_cell _ _ y1 hf) (fun y1 _ hf => ?_)
  refine am_iconst (v := 4) dL_law_659 rfl rfl ?_
  refine am_irem dL_law_660 rfl hf (fun hf => ?_)
  refine am_istore (ls' := [some (va_rf (some 0)), some (va_rf v1), some (va_rf v2), some (va_rf v3), some (va_rf v4), some (.int v5), some (va_rf v6), some (va_rf v7), some (va_rf v8), some (.int v9), some (va_rf v10), some (.int v11), none, some (.int v13), some (.int v14), some (.int v15), some (.int v16), some (.int (y1.1 - y1.1 / (4 : Int32) * (4 : Int32))), none, none, none, none, none, none, none, none, none, none, none, none, none, none, none, none, none, none, none, none]) dL_law_661 (by decide) rfl rfl ?_
  refine am_iconst (v := 0) dL_law_663 rfl rfl ?_
  refine am_istore (ls' := [some (va_rf (some 0)), some (va_rf v1), some (va_rf v2), some (va_rf v3), some (va_rf v4), some (.int v5), some (va_rf v6), some (va_rf v7), some (va_rf v8), some (.int v9), some (va_rf v10), some (.int v11), none, some (.int v13), some (.int v14), some (.int v15), some (.int v16), some (.int (y1.1 - y1.1 / (4 : Int32) * (4 : Int32))), some (.int (0 : Int32)), none, none, none, none, none, none, none, none, none, none, none, none, none, none, none, none, none, none, none]) dL_law_664 (by decide) rfl rfl ?_
  exact (sfL_law_666 hk489 _) _ _ _ _ _ _ _ _ _ _ _ _ _ _ _ _ _ _ _ hf
set_option maxRecDepth 20000 in
set_option maxHeartbeats 4000000 in
theorem sfL_law_639 {G : am_G}  {k590 : Option Nat → Option Nat → Option Nat → Option Nat → Int32 → Option Nat → Option Nat → Option Nat → Int32 → Option Nat → Int32 → Int32 → Int32 → Int32 → Int32 → Int32 → am_H → Option (Int32 × am_H)} (hk590 : ∀ (v1 : Option Nat) (v2 : Option Nat) (v3 : Option Nat) (v4 : Option Nat) (v5 : Int32) (v6 : Option Nat) (v7 : Option Nat) (v8 : Option Nat) (v9 : Int32) (v10 : Option Nat) (v11 : Int32) (v13 : Int32) (v14 : Int32) (v15 : Int32) (v16 : Int32) (v17 : Int32) (h : am_H) (y : Int32 × am_H), k590 v1 v2 v3 v4 v5 v6 v7 v8 v9 v10 v11 v13 v14 v15 v16 v17 h = some y → am_S G miL_law 590 [some (va_rf (some 0)), some (va_rf v1), some (va_rf v2), some (va_rf v3), some (va_rf v4), some (.int v5), some (va_rf v6), some (va_rf v7), some (va_rf v8), some (.int v9), some (va_rf v10), some (.int v11), none, some (.int v13), some (.int v14), some (.int v15), some (.int v16), some (.int v17), none, none, none, none, none, none, none, none, none, none, none, none, none, none, none, none, none, none, none, none] [] h (some (.int y.1)) y.2) (v1 : Option Nat) (v2 : Option Nat) (v3 : Option Nat) (v4 : Option Nat) (v5 : Int32) (v6 : Option Nat) (v7 : Option Nat) (v8 : Option Nat) (v9 : Int32) (v10 : Option Nat) (v11 : Int32) (v13 : Int32) (v14 : Int32) (v15 : Int32) (v16 : Int32) (v17 : Int32) (s0 : Int32) (s1 : Int32) (h : am_H) (y : Int32 × am_H) (hf : fL_law_639 G.2.2.2.2.1 G.2.2.2.2.2 k590 v1 v2 v3 v4 v5 v6 v7 v8 v9 v10 v11 v13 v14 v15 v16 v17 s0 s1 h = some y) : am_S G miL_law 639 [some (va_rf (some 0)), some (va_rf v1), some (va_rf v2), some (va_rf v3), some (va_rf v4), some (.int v5), some (va_rf v6), some (va_rf v7), some (va_rf v8), some (.int v9), some (va_rf v10), some (.int v11), none, some (.int v13), some (.int v14), some (.int v15), some (.int v16), some (.int v17), none, none, none, none, none, none, none, none, none, none, none, none, none, none, none, none, none, none, none, none] [.int s1, .int s0] h (some (.int y.1)) y.2 := by
  unfold fL_law_639 at hf
  refine am_icmp_eq (tgt := 644) dL_law_639 (by decide) rfl hf (fun hf => ?_) (fun hf => ?_)
  · refine am_iinc (ls' := [some (va_rf (some 0)), some (va_rf v1), some (va_rf v2), some (va_rf v3), some (va_rf v4), some (.int v5), some (va_rf v6), some (va_rf v7), some (va_rf v8), some (.int v9), some (va_rf v10), some (.int v11), none, some (.int v13), some (.int v14), some (.int v15), some (.int v16), some (.int (v17 + (1 : Int32))), none, none, none, none, none, none, none, none, none, none, none, none, none, none, none, none, none, none, none, none]) dL_law_644 rfl rfl (by decide) rfl rfl ?_
    refine am_goto (pc' := 590) dL_law_647 (by decide) ?_
    exact hk590 _ _ _ _ _ _ _ _ _ _ _ _ _ _ _ _ _ _ hf
  refine am_iconst (v := 0) dL_law_642 rfl rfl ?_
  exact am_zret rfl dL_law_643 hf
set_option maxRecDepth 20000 in
set_option maxHeartbeats 4000000 in
theorem sfL_law_633 {G : am_G}  {k639 : Option Nat → Option Nat → Option Nat → Option Nat → Int32 → Option Nat → Option Nat → Option Nat → Int32 → Option Nat → Int32 → Int32 → Int32 → Int32 → Int32 → Int32 → Int32 → Int32 → am_H → Option (Int32 × am_H)} (hk639 : ∀ (v1 : Option Nat) (v2 : Option Nat) (v3 : Option Nat) (v4 : Option Nat) (v5 : Int32) (v6 : Option Nat) (v7 : Option Nat) (v8 : Option Nat) (v9 : Int32) (v10 : Option Nat) (v11 : Int32) (v13 : Int32) (v14 : Int32) (v15 : Int32) (v16 : Int32) (v17 : Int32) (s0 : Int32) (s1 : Int32) (h : am_H) (y : Int32 × am_H), k639 v1 v2 v3 v4 v5 v6 v7 v8 v9 v10 v11 v13 v14 v15 v16 v17 s0 s1 h = some y → am_S G miL_law 639 [some (va_rf (some 0)), some (va_rf v1), some (va_rf v2), some (va_rf v3), some (va_rf v4), some (.int v5), some (va_rf v6), some (va_rf v7), some (va_rf v8), some (.int v9), some (va_rf v10), some (.int v11), none, some (.int v13), some (.int v14), some (.int v15), some (.int v16), some (.int v17), none, none, none, none, none, none, none, none, none, none, none, none, none, none, none, none, none, none, none, none] [.int s1, .int s0] h (some (.int y.1)) y.2) (v1 : Option Nat) (v2 : Option Nat) (v3 : Option Nat) (v4 : Option Nat) (v5 : Int32) (v6 : Option Nat) (v7 : Option Nat) (v8 : Option Nat) (v9 : Int32) (v10 : Option Nat) (v11 : Int32) (v13 : Int32) (v14 : Int32) (v15 : Int32) (v16 : Int32) (v17 : Int32) (s0 : Int32) (h : am_H) (y : Int32 × am_H) (hf : fL_law_633 G.2.2.2.2.1 G.2.2.2.2.2 k639 v1 v2 v3 v4 v5 v6 v7 v8 v9 v10 v11 v13 v14 v15 v16 v17 s0 h = some y) : am_S G miL_law 633 [some (va_rf (some 0)), some (va_rf v1), some (va_rf v2), some (va_rf v3), some (va_rf v4), some (.int v5), some (va_rf v6), some (va_rf v7), some (va_rf v8), some (.int v9), some (va_rf v10), some (.int v11), none, some (.int v13), some (.int v14), some (.int v15), some (.int v16), some (.int v17), none, none, none, none, none, none, none, none, none, none, none, none, none, none, none, none, none, none, none, none] [.int s0] h (some (.int y.1)) y.2 := by
  unfold fL_law_633 at hf
  refine am_iload dL_law_633 rfl rfl ?_
  refine am_goto (pc' := 639) dL_law_635 (by decide) ?_
  exact hk639 _ _ _ _ _ _ _ _ _ _ _ _ _ _ _ _ _ _ _ _ hf
set_option maxRecDepth 20000 in
set_option maxHeartbeats 4000000 in
theorem sfL_law_638 {G : am_G}  {k639 : Option Nat → Option Nat → Option Nat → Option Nat → Int32 → Option Nat → Option Nat → Option Nat → Int32 → Option Nat → Int32 → Int32 → Int32 → Int32 → Int32 → Int32 → Int32 → Int32 → am_H → Option (Int32 × am_H)} (hk639 : ∀ (v1 : Option Nat) (v2 : Option Nat) (v3 : Option Nat) (v4 : Option Nat) (v5 : Int32) (v6 : Option Nat) (v7 : Option Nat) (v8 : Option Nat) (v9 : Int32) (v10 : Option Nat) (v11 : Int32) (v13 : Int32) (v14 : Int32) (v15 : Int32) (v16 : Int32) (v17 : Int32) (s0 : Int32) (s1 : Int32) (h : am_H) (y : Int32 × am_H), k639 v1 v2 v3 v4 v5 v6 v7 v8 v9 v10 v11 v13 v14 v15 v16 v17 s0 s1 h = some y → am_S G miL_law 639 [some (va_rf (some 0)), some (va_rf v1), some (va_rf v2), some (va_rf v3), some (va_rf v4), some (.int v5), some (va_rf v6), some (va_rf v7), some (va_rf v8), some (.int v9), some (va_rf v10), some (.int v11), none, some (.int v13), some (.int v14), some (.int v15), some (.int v16), some (.int v17), none, none, none, none, none, none, none, none, none, none, none, none, none, none, none, none, none, none, none, none] [.int s1, .int s0] h (some (.int y.1)) y.2) (v1 : Option Nat) (v2 : Option Nat) (v3 : Option Nat) (v4 : Option Nat) (v5 : Int32) (v6 : Option Nat) (v7 : Option Nat) (v8 : Option Nat) (v9 : Int32) (v10 : Option Nat) (v11 : Int32) (v13 : Int32) (v14 : Int32) (v15 : Int32) (v16 : Int32) (v17 : Int32) (s0 : Int32) (h : am_H) (y : Int32 × am_H) (hf : fL_law_638 G.2.2.2.2.1 G.2.2.2.2.2 k639 v1 v2 v3 v4 v5 v6 v7 v8 v9 v10 v11 v13 v14 v15 v16 v17 s0 h = some y) : am_S G miL_law 638 [some (va_rf (some 0)), some (va_rf v1), some (va_rf v2), some (va_rf v3), some (va_rf v4), some (.int v5), some (va_rf v6), some (va_rf v7), some (va_rf v8), some (.int v9), some (va_rf v10), some (.int v11), none, some (.int v13), some (.int v14), some (.int v15), some (.int v16), some (.int v17), none, none, none, none, none, none, none, none, none, none, none, none, none, none, none, none, none, none, none, none] [.int s0] h (some (.int y.1)) y.2 := by
  unfold fL_law_638 at hf
  refine am_iconst (v := -1) dL_law_638 rfl rfl ?_
  exact hk639 _ _ _ _ _ _ _ _ _ _ _ _ _ _ _ _ _ _ _ _ hf
set_option maxRecDepth 20000 in
set_option maxHeartbeats 4000000 in
theorem sfL_law_1608 {G : am_G}  {k1545 : Option Nat → Option Nat → Option Nat → Option Nat → Int32 → Int32 → Option Nat → Int32 → Int32 → Int32 → Int32 → Int32 → am_H → Option (Int32 × am_H)} (hk1545 : ∀ (v1 : Option Nat) (v2 : Option Nat) (v3 : Option Nat) (v4 : Option Nat) (v5 : Int32) (v9 : Int32) (v10 : Option Nat) (v11 : Int32) (v12 : Int32) (v13 : Int32) (v14 : Int32) (v15 : Int32) (h : am_H) (y : Int32 × am_H), k1545 v1 v2 v3 v4 v5 v9 v10 v11 v12 v13 v14 v15 h = some y → am_S G miL_law 1545 [none, some (va_rf v1), some (va_rf v2), some (va_rf v3), some (va_rf v4), some (.int v5), none, none, none, some (.int v9), some (va_rf v10), some (.int v11), some (.int v12), some (.int v13), some (.int v14), some (.int v15), none, none, none, none, none, none, none, none, none, none, none, none, none, none, none, none, none, none, none, none, none, none] [] h (some (.int y.1)) y.2) (v1 : Option Nat) (v2 : Option Nat) (v3 : Option Nat) (v4 : Option Nat) (v5 : Int32) (v9 : Int32) (v10 : Option Nat) (v11 : Int32) (v12 : Int32) (v14 : Int32) (v15 : Int32) (v16 : Int32) (s0 : Int32) (h : am_H) (y : Int32 × am_H) (hf : fL_law_1608 G.2.2.2.2.1 G.2.2.2.2.2 k1545 v1 v2 v3 v4 v5 v9 v10 v11 v12 v14 v15 v16 s0 h = some y) : am_S G miL_law 1608 [none, some (va_rf v1), some (va_rf v2), some (va_rf v3), some (va_rf v4), some (.int v5), none, none, none, some (.int v9), some (va_rf v10), some (.int v11), some (.int v12), none, some (.int v14), some (.int v15), some (.int v16), none, none, none, none, none, none, none, none, none, none, none, none, none, none, none, none, none, none, none, none, none] [.int s0] h (some (.int y.1)) y.2 := by
  unfold fL_law_1608 at hf
  refine am_istore (ls' := [none, some (va_rf v1), some (va_rf v2), some (va_rf v3), some (va_rf v4), some (.int v5), none, none, none, some (.int v9), some (va_rf v10), some (.int v11), some (.int v12), some (.int s0), some (.int v14), some (.int v15), some (.int v16), none, none, none, none, none, none, none, none, none, none, none, none, none, none, none, none, none, none, none, none, none]) dL_law_1608 (by decide) rfl rfl ?_
  refine am_iload dL_law_1610 rfl rfl ?_
  refine am_iload dL_law_1612 rfl rfl ?_
  refine am_icmp_le (tgt := 1622) dL_law_1614 (by decide) rfl hf (fun hf => ?_) (fun hf => ?_)
  · refine am_iload dL_law_1622 rfl rfl ?_
    exact am_we ((sfL_law_1624 hk1545) _ _ _ _ _ _ _ _ _ _ _ _ _ _ hf) ⟨Or.inl rfl, Or.inr rfl, Or.inr rfl, Or.inr rfl, Or.inr rfl, Or.inr rfl, Or.inl rfl, Or.inl rfl, Or.inl rfl, Or.inr rfl, Or.inr rfl, Or.inl rfl, Or.inr rfl, Or.inr rfl, Or.inr rfl, Or.inr rfl, Or.inl rfl, Or.inl rfl, Or.inl rfl, Or.inl rfl, Or.inl rfl, Or.inl rfl, Or.inl rfl, Or.inl rfl, Or.inl rfl, Or.inl rfl, Or.inl rfl, Or.inl rfl, Or.inl rfl, Or.inl rfl, Or.inl rfl, Or.inl rfl, Or.inl rfl, Or.inl rfl, Or.inl rfl, Or.inl rfl, Or.inl rfl, Or.inl rfl, trivial⟩
  refine am_iload dL_law_1617 rfl rfl ?_
  refine am_goto (pc' := 1624) dL_law_1619 (by decide) ?_
  exact am_we ((sfL_law_1624 hk1545) _ _ _ _ _ _ _ _ _ _ _ _ _ _ hf) ⟨Or.inl rfl, Or.inr rfl, Or.inr rfl, Or.inr rfl, Or.inr rfl, Or.inr rfl, Or.inl rfl, Or.inl rfl, Or.inl rfl, Or.inr rfl, Or.inr rfl, Or.inl rfl, Or.inr rfl, Or.inr rfl, Or.inr rfl, Or.inr rfl, Or.inl rfl, Or.inl rfl, Or.inl rfl, Or.inl rfl, Or.inl rfl, Or.inl rfl, Or.inl rfl, Or.inl rfl, Or.inl rfl, Or.inl rfl, Or.inl rfl, Or.inl rfl, Or.inl rfl, Or.inl rfl, Or.inl rfl, Or.inl rfl, Or.inl rfl, Or.inl rfl, Or.inl rfl, Or.inl rfl, Or.inl rfl, Or.inl rfl, trivial⟩
set_option maxRecDepth 20000 in
set_option maxHeartbeats 4000000 in
theorem sfL_law_590 {G : am_G}  {k489 : Option Nat → Option Nat → Option Nat → Option Nat → Int32 → Option Nat → Option Nat → Option Nat → Int32 → Option Nat → Int32 → am_H → Option (Int32 × am_H)} (hk489 : ∀ (v1 : Option Nat) (v2 : Option Nat) (v3 : Option Nat) (v4 : Option Nat) (v5 : Int32) (v6 : Option Nat) (v7 : Option Nat) (v8 : Option Nat) (v9 : Int32) (v10 : Option Nat) (v11 : Int32) (h : am_H) (y : Int32 × am_H), k489 v1 v2 v3 v4 v5 v6 v7 v8 v9 v10 v11 h = some y → am_S G miL_law 489 [some (va_rf (some 0)), some (va_rf v1), some (va_rf v2), some (va_rf v3), some (va_rf v4), some (.int v5), some (va_rf v6), some (va_rf v7), some (va_rf v8), some (.int v9), some (va_rf v10), some (.int v11), none, none, none, none, none, none, none, none, none, none, none, none, none, none, none, none, none, none, none, none, none, none, none, none, none, none] [] h (some (.int y.1)) y.2) : ∀ (n : Nat) (v1 : Option Nat) (v2 : Option Nat) (v3 : Option Nat) (v4 : Option Nat) (v5 : Int32) (v6 : Option Nat) (v7 : Option Nat) (v8 : Option Nat) (v9 : Int32) (v10 : Option Nat) (v11 : Int32) (v13 : Int32) (v14 : Int32) (v15 : Int32) (v16 : Int32) (v17 : Int32) (h : am_H) (y : Int32 × am_H) (hf : fL_law_590 G.2.2.2.2.1 G.2.2.2.2.2 k489 n v1 v2 v3 v4 v5 v6 v7 v8 v9 v10 v11 v13 v14 v15 v16 v17 h = some y), am_S G miL_law 590 [some (va_rf (some 0)), some (va_rf v1), some (va_rf v2), some (va_rf v3), some (va_rf v4), some (.int v5), some (va_rf v6), some (va_rf v7), some (va_rf v8), some (.int v9), some (va_rf v10), some (.int v11), none, some (.int v13), some (.int v14), some (.int v15), some (.int v16), some (.int v17), none, none, none, none, none, none, none, none, none, none, none, none, none, none, none, none, none, none, none, none] [] h (some (.int y.1)) y.2 := by
  intro n
  induction n with
  | zero => intro v1 v2 v3 v4 v5 v6 v7 v8 v9 v10 v11 v13 v14 v15 v16 v17 h y hf; cases hf
  | succ n ih =>
    intro v1 v2 v3 v4 v5 v6 v7 v8 v9 v10 v11 v13 v14 v15 v16 v17 h y hf
    have hf : fL_law_590_b G.2.2.2.2.1 G.2.2.2.2.2 k489 (fL_law_590 G.2.2.2.2.1 G.2.2.2.2.2 k489 n) v1 v2 v3 v4 v5 v6 v7 v8 v9 v10 v11 v13 v14 v15 v16 v17 h = some y := hf
    unfold fL_law_590_b at hf
    refine am_iload dL_law_590 rfl rfl ?_
    refine am_iconst (v := 5) dL_law_592 rfl rfl ?_
    refine am_icmp_ge (tgt := 650) dL_law_593 (by decide) rfl hf (fun hf => ?_) (fun hf => ?_)
    · exact am_we ((sfL_law_650 hk489) _ _ _ _ _ _ _ _ _ _ _ _ _ _ _ _ _ hf) ⟨Or.inr rfl, Or.inr rfl, Or.inr rfl, Or.inr rfl, Or.inr rfl, Or.inr rfl, Or.inr rfl, Or.inr rfl, Or.inr rfl, Or.inr rfl, Or.inr rfl, Or.inr rfl, Or.inl rfl, Or.inr rfl, Or.inr rfl, Or.inr rfl, Or.inr rfl, Or.inl rfl, Or.inl rfl, Or.inl rfl, Or.inl rfl, Or.inl rfl, Or.inl rfl, Or.inl rfl, Or.inl rfl, Or.inl rfl, Or.inl rfl, Or.inl rfl, Or.inl rfl, Or.inl rfl, Or.inl rfl, Or.inl rfl, Or.inl rfl, Or.inl rfl, Or.inl rfl, Or.inl rfl, Or.inl rfl, Or.inl rfl, trivial⟩
    refine am_iload dL_law_596 rfl rfl ?_
    refine am_if_lt (tgt := 650) dL_law_598 (by decide) rfl hf (fun hf => ?_) (fun hf => ?_)
    · exact am_we ((sfL_law_650 hk489) _ _ _ _ _ _ _ _ _ _ _ _ _ _ _ _ _ hf) ⟨Or.inr rfl, Or.inr rfl, Or.inr rfl, Or.inr rfl, Or.inr rfl, Or.inr rfl, Or.inr rfl, Or.inr rfl, Or.inr rfl, Or.inr rfl, Or.inr rfl, Or.inr rfl, Or.inl rfl, Or.inr rfl, Or.inr rfl, Or.inr rfl, Or.inr rfl, Or.inl rfl, Or.inl rfl, Or.inl rfl, Or.inl rfl, Or.inl rfl, Or.inl rfl, Or.inl rfl, Or.inl rfl, Or.inl rfl, Or.inl rfl, Or.inl rfl, Or.inl rfl, Or.inl rfl, Or.inl rfl, Or.inl rfl, Or.inl rfl, Or.inl rfl, Or.inl rfl, Or.inl rfl, Or.inl rfl, Or.inl rfl, trivial⟩
    refine am_aload_n dL_law_601 rfl rfl ?_
    refine am_iload dL_law_602 rfl rfl ?_
    refine am_iload dL_law_604 rfl rfl ?_
    refine am_cVi (As := [.int v11, .int v17]) (st := []) lk_L_law_62 rfl (Nat.le_of_ble_eq_true rfl) (Nat.le_of_ble_eq_true rfl) rfl dL_law_606 rfl hf (fun b2 y1 hf => sfX8_as b2 _ _ _ y1 hf) (fun b2 y1 _ _ hf => ?_)
    refine am_iload dL_law_609 rfl rfl ?_
    refine am_if_eq (tgt := 633) dL_law_611 (by decide) rfl hf (fun hf => ?_) (fun hf => ?_)
    · exact (sfL_law_633 (sfL_law_639 ih)) _ _ _ _ _ _ _ _ _ _ _ _ _ _ _ _ _ _ _ hf
    refine am_iload dL_law_614 rfl rfl ?_
    refine am_iload dL_law_616 rfl rfl ?_
    refine am_icmp_eq (tgt := 633) dL_law_618 (by decide) rfl hf (fun hf => ?_) (fun hf => ?_)
    · exact (sfL_law_633 (sfL_law_639 ih)) _ _ _ _ _ _ _ _ _ _ _ _ _ _ _ _ _ _ _ hf
    refine am_iload dL_law_621 rfl rfl ?_
    refine am_iconst (v := 1) dL_law_623 rfl rfl ?_
    refine am_icmp_ne (tgt := 638) dL_law_624 (by decide) rfl hf (fun hf => ?_) (fun hf => ?_)
    · exact (sfL_law_638 (sfL_law_639 ih)) _ _ _ _ _ _ _ _ _ _ _ _ _ _ _ _ _ _ _ hf
    refine am_iload dL_law_627 rfl rfl ?_
    refine am_iconst (v := 2) dL_law_629 rfl rfl ?_
    refine am_icmp_ne (tgt := 638) dL_law_630 (by decide) rfl hf (fun hf => ?_) (fun hf => ?_)
    · exact (sfL_law_638 (sfL_law_639 ih)) _ _ _ _ _ _ _ _ _ _ _ _ _ _ _ _ _ _ _ hf
    exact (sfL_law_633 (sfL_law_639 ih)) _ _ _ _ _ _ _ _ _ _ _ _ _ _ _ _ _ _ _ hf
set_option maxRecDepth 20000 in
set_option maxHeartbeats 4000000 in
theorem sfL_law_1592 {G : am_G}  {k1545 : Option Nat → Option Nat → Option Nat → Option Nat → Int32 → Int32 → Option Nat → Int32 → Int32 → Int32 → Int32 → Int32 → am_H → Option (Int32 × am_H)} (hk1545 : ∀ (v1 : Option Nat) (v2 : Option Nat) (v3 : Option Nat) (v4 : Option Nat) (v5 : Int32) (v9 : Int32) (v10 : Option Nat) (v11 : Int32) (v12 : Int32) (v13 : Int32) (v14 : Int32) (v15 : Int32) (h : am_H) (y : Int32 × am_H), k1545 v1 v2 v3 v4 v5 v9 v10 v11 v12 v13 v14 v15 h = some y → am_S G miL_law 1545 [none, some (va_rf v1), some (va_rf v2), some (va_rf v3), some (va_rf v4), some (.int v5), none, none, none, some (.int v9), some (va_rf v10), some (.int v11), some (.int v12), some (.int v13), some (.int v14), some (.int v15), none, none, none, none, none, none, none, none, none, none, none, none, none, none, none, none, none, none, none, none, none, none] [] h (some (.int y.1)) y.2) (v1 : Option Nat) (v2 : Option Nat) (v3 : Option Nat) (v4 : Option Nat) (v5 : Int32) (v9 : Int32) (v10 : Option Nat) (v11 : Int32) (v13 : Int32) (v14 : Int32) (v15 : Int32) (v16 : Int32) (s0 : Int32) (h : am_H) (y : Int32 × am_H) (hf : fL_law_1592 G.2.2.2.2.1 G.2.2.2.2.2 k1545 v1 v2 v3 v4 v5 v9 v10 v11 v13 v14 v15 v16 s0 h = some y) : am_S G miL_law 1592 [none, some (va_rf v1), some (va_rf v2), some (va_rf v3), some (va_rf v4), some (.int v5), none, none, none, some (.int v9), some (va_rf v10), some (.int v11), none, some (.int v13), some (.int v14), some (.int v15), some (.int v16), none, none, none, none, none, none, none, none, none, none, none, none, none, none, none, none, none, none, none, none, none] [.int s0] h (some (.int y.1)) y.2 := by
  unfold fL_law_1592 at hf
  refine am_istore (ls' := [none, some (va_rf v1), some (va_rf v2), some (va_rf v3), some (va_rf v4), some (.int v5), none, none, none, some (.int v9), some (va_rf v10), some (.int v11), some (.int s0), some (.int v13), some (.int v14), some (.int v15), some (.int v16), none, none, none, none, none, none, none, none, none, none, none, none, none, none, none, none, none, none, none, none, none]) dL_law_1592 (by decide) rfl rfl ?_
  refine am_iload dL_law_1594 rfl rfl ?_
  refine am_iload dL_law_1596 rfl rfl ?_
  refine am_icmp_le (tgt := 1606) dL_law_1598 (by decide) rfl hf (fun hf => ?_) (fun hf => ?_)
  · refine am_iload dL_law_1606 rfl rfl ?_
    exact am_we ((sfL_law_1608 hk1545) _ _ _ _ _ _ _ _ _ _ _ _ _ _ _ hf) ⟨Or.inl rfl, Or.inr rfl, Or.inr rfl, Or.inr rfl, Or.inr rfl, Or.inr rfl, Or.inl rfl, Or.inl rfl, Or.inl rfl, Or.inr rfl, Or.inr rfl, Or.inr rfl, Or.inr rfl, Or.inl rfl, Or.inr rfl, Or.inr rfl, Or.inr rfl, Or.inl rfl, Or.inl rfl, Or.inl rfl, Or.inl rfl, Or.inl rfl, Or.inl rfl, Or.inl rfl, Or.inl rfl, Or.inl rfl, Or.inl rfl, Or.inl rfl, Or.inl rfl, Or.inl rfl, Or.inl rfl, Or.inl rfl, Or.inl rfl, Or.inl rfl, Or.inl rfl, Or.inl rfl, Or.inl rfl, Or.inl rfl, trivial⟩
  refine am_iload dL_law_1601 rfl rfl ?_
  refine am_goto (pc' := 1608) dL_law_1603 (by decide) ?_
  exact am_we ((sfL_law_1608 hk1545) _ _ _ _ _ _ _ _ _ _ _ _ _ _ _ hf) ⟨Or.inl rfl, Or.inr rfl, Or.inr rfl, Or.inr rfl, Or.inr rfl, Or.inr rfl, Or.inl rfl, Or.inl rfl, Or.inl rfl, Or.inr rfl, Or.inr rfl, Or.inr rfl, Or.inr rfl, Or.inl rfl, Or.inr rfl, Or.inr rfl, Or.inr rfl, Or.inl rfl, Or.inl rfl, Or.inl rfl, Or.inl rfl, Or.inl rfl, Or.inl rfl, Or.inl rfl, Or.inl rfl, Or.inl rfl, Or.inl rfl, Or.inl rfl, Or.inl rfl, Or.inl rfl, Or.inl rfl, Or.inl rfl, Or.inl rfl, Or.inl rfl, Or.inl rfl, Or.inl rfl, Or.inl rfl, Or.inl rfl, trivial⟩
set_option maxRecDepth 20000 in
set_option maxHeartbeats 4000000 in
theorem sfL_law_587 {G : am_G}  {k489 : Option Nat → Option Nat → Option Nat → Option Nat → Int32 → Option Nat → Option Nat → Option Nat → Int32 → Option Nat → Int32 → am_H → Option (Int32 × am_H)} (hk489 : ∀ (v1 : Option Nat) (v2 : Option Nat) (v3 : Option Nat) (v4 : Option Nat) (v5 : Int32) (v6 : Option Nat) (v7 : Option Nat) (v8 : Option Nat) (v9 : Int32) (v10 : Option Nat) (v11 : Int32) (h : am_H) (y : Int32 × am_H), k489 v1 v2 v3 v4 v5 v6 v7 v8 v9 v10 v11 h = some y → am_S G miL_law 489 [some (va_rf (some 0)), some (va_rf v1), some (va_rf v2), some (va_rf v3), some (va_rf v4), some (.int v5), some (va_rf v6), some (va_rf v7), some (va_rf v8), some (.int v9), some (va_rf v10), some (.int v11), none, none, none, none, none, none, none, none, none, none, none, none, none, none, none, none, none, none, none, none, none, none, none, none, none, none] [] h (some (.int y.1)) y.2) (v1 : Option Nat) (v2 : Option Nat) (v3 : Option Nat) (v4 : Option Nat) (v5 : Int32) (v6 : Option Nat) (v7 : Option Nat) (v8 : Option Nat) (v9 : Int32) (v10 : Option Nat) (v11 : Int32) (v13 : Int32) (v14 : Int32) (v15 : Int32) (v16 : Int32) (h : am_H) (y : Int32 × am_H) (hf : fL_law_587 G.2.2.2.2.1 G.2.2.2.2.2 k489 v1 v2 v3 v4 v5 v6 v7 v8 v9 v10 v11 v13 v14 v15 v16 h = some y) : am_S G miL_law 587 [some (va_rf (some 0)), some (va_rf v1), some (va_rf v2), some (va_rf v3), some (va_rf v4), some (.int v5), some (va_rf v6), some (va_rf v7), some (va_rf v8), some (.int v9), some (va_rf v10), some (.int v11), none, some (.int v13), some (.int v14), some (.int v15), some (.int v16), none, none, none, none, none, none, none, none, none, none, none, none, none, none, none, none, none, none, none, none, none] [] h (some (.int y.1)) y.2 := by
  unfold fL_law_587 at hf
  refine am_iconst (v := 0) dL_law_587 rfl rfl ?_
  refine am_istore (ls' := [some (va_rf (some 0)), some (va_rf v1), some (va_rf v2), some (va_rf v3), some (va_rf v4), some (.int v5), some (va_rf v6), some (va_rf v7), some (va_rf v8), some (.int v9), some (va_rf v10), some (.int v11), none, some (.int v13), some (.int v14), some (.int v15), some (.int v16), some (.int (0 : Int32)), none, none, none, none, none, none, none, none, none, none, none, none, none, none, none, none, none, none, none, none]) dL_law_588 (by decide) rfl rfl ?_
  exact (sfL_law_590 hk489 _) _ _ _ _ _ _ _ _ _ _ _ _ _ _ _ _ _ _ hf
set_option maxRecDepth 20000 in
set_option maxHeartbeats 4000000 in
theorem sfL_law_422 {G : am_G}  {k372 : Option Nat → Option Nat → Option Nat → Option Nat → Int32 → Option Nat → Option Nat → Option Nat → Int32 → Int32 → am_H → Option (Int32 × am_H)} (hk372 : ∀ (v1 : Option Nat) (v2 : Option Nat) (v3 : Option Nat) (v4 : Option Nat) (v5 : Int32) (v6 : Option Nat) (v7 : Option Nat) (v8 : Option Nat) (v9 : Int32) (v11 : Int32) (h : am_H) (y : Int32 × am_H), k372 v1 v2 v3 v4 v5 v6 v7 v8 v9 v11 h = some y → am_S G miL_law 372 [some (va_rf (some 0)), some (va_rf v1), some (va_rf v2), some (va_rf v3), some (va_rf v4), some (.int v5), some (va_rf v6), some (va_rf v7), some (va_rf v8), some (.int v9), none, some (.int v11), none, none, none, none, none, none, none, none, none, none, none, none, none, none, none, none, none, none, none, none, none, none, none, none, none, none] [] h (some (.int y.1)) y.2) (v1 : Option Nat) (v2 : Option Nat) (v3 : Option Nat) (v4 : Option Nat) (v5 : Int32) (v6 : Option Nat) (v7 : Option Nat) (v8 : Option Nat) (v9 : Int32) (v11 : Int32) (s0 : Int32) (s1 : Int32) (h : am_H) (y : Int32 × am_H) (hf : fL_law_422 G.2.2.2.2.1 G.2.2.2.2.2 k372 v1 v2 v3 v4 v5 v6 v7 v8 v9 v11 s0 s1 h = some y) : am_S G miL_law 422 [some (va_rf (some 0)), some (va_rf v1), some (va_rf v2), some (va_rf v3), some (va_rf v4), some (.int v5), some (va_rf v6), some (va_rf v7), some (va_rf v8), some (.int v9), none, some (.int v11), none, none, none, none, none, none, none, none, none, none, none, none, none, none, none, none, none, none, none, none, none, none, none, none, none, none] [.int s1, .int s0] h (some (.int y.1)) y.2 := by
  unfold fL_law_422 at hf
  refine am_icmp_eq (tgt := 427) dL_law_422 (by decide) rfl hf (fun hf => ?_) (fun hf => ?_)
  · refine am_iinc (ls' := [some (va_rf (some 0)), some (va_rf v1), some (va_rf v2), some (va_rf v3), some (va_rf v4), some (.int v5), some (va_rf v6), some (va_rf v7), some (va_rf v8), some (.int v9), none, some (.int (v11 + (1 : Int32))), none, none, none, none, none, none, none, none, none, none, none, none, none, none, none, none, none, none, none, none, none, none, none, none, none, none]) dL_law_427 rfl rfl (by decide) rfl rfl ?_
    refine am_goto (pc' := 372) dL_law_430 (by decide) ?_
    exact hk372 _ _ _ _ _ _ _ _ _ _ _ _ hf
  refine am_iconst (v := 0) dL_law_425 rfl rfl ?_
  exact am_zret rfl dL_law_426 hf
set_option maxRecDepth 20000 in
set_option maxHeartbeats 4000000 in
theorem sfL_law_416 {G : am_G}  {k422 : Option Nat → Option Nat → Option Nat → Option Nat → Int32 → Option Nat → Option Nat → Option Nat → Int32 → Int32 → Int32 → Int32 → am_H → Option (Int32 × am_H)} (hk422 : ∀ (v1 : Option Nat) (v2 : Option Nat) (v3 : Option Nat) (v4 : Option Nat) (v5 : Int32) (v6 : Option Nat) (v7 : Option Nat) (v8 : Option Nat) (v9 : Int32) (v11 : Int32) (s0 : Int32) (s1 : Int32) (h : am_H) (y : Int32 × am_H), k422 v1 v2 v3 v4 v5 v6 v7 v8 v9 v11 s0 s1 h = some y → am_S G miL_law 422 [some (va_rf (some 0)), some (va_rf v1), some (va_rf v2), some (va_rf v3), some (va_rf v4), some (.int v5), some (va_rf v6), some (va_rf v7), some (va_rf v8), some (.int v9), none, some (.int v11), none, none, none, none, none, none, none, none, none, none, none, none, none, none, none, none, none, none, none, none, none, none, none, none, none, none] [.int s1, .int s0] h (some (.int y.1)) y.2) (v1 : Option Nat) (v2 : Option Nat) (v3 : Option Nat) (v4 : Option Nat) (v5 : Int32) (v6 : Option Nat) (v7 : Option Nat) (v8 : Option Nat) (v9 : Int32) (v11 : Int32) (s0 : Int32) (h : am_H) (y : Int32 × am_H) (hf : fL_law_416 G.2.2.2.2.1 G.2.2.2.2.2 k422 v1 v2 v3 v4 v5 v6 v7 v8 v9 v11 s0 h = some y) : am_S G miL_law 416 [some (va_rf (some 0)), some (va_rf v1), some (va_rf v2), some (va_rf v3), some (va_rf v4), some (.int v5), some (va_rf v6), some (va_rf v7), some (va_rf v8), some (.int v9), none, some (.int v11), none, none, none, none, none, none, none, none, none, none, none, none, none, none, none, none, none, none, none, none, none, none, none, none, none, none] [.int s0] h (some (.int y.1)) y.2 := by
  unfold fL_law_416 at hf
  refine am_iload dL_law_416 rfl rfl ?_
  refine am_goto (pc' := 422) dL_law_418 (by decide) ?_
  exact hk422 _ _ _ _ _ _ _ _ _ _ _ _ _ _ hf
set_option maxRecDepth 20000 in
set_option maxHeartbeats 4000000 in
theorem sfL_law_421 {G : am_G}  {k422 : Option Nat → Option Nat → Option Nat → Option Nat → Int32 → Option Nat → Option Nat → Option Nat → Int32 → Int32 → Int32 → Int32 → am_H → Option (Int32 × am_H)} (hk422 : ∀ (v1 : Option Nat) (v2 : Option Nat) (v3 : Option Nat) (v4 : Option Nat) (v5 : Int32) (v6 : Option Nat) (v7 : Option Nat) (v8 : Option Nat) (v9 : Int32) (v11 : Int32) (s0 : Int32) (s1 : Int32) (h : am_H) (y : Int32 × am_H), k422 v1 v2 v3 v4 v5 v6 v7 v8 v9 v11 s0 s1 h = some y → am_S G miL_law 422 [some (va_rf (some 0)), some (va_rf v1), some (va_rf v2), some (va_rf v3), some (va_rf v4), some (.int v5), some (va_rf v6), some (va_rf v7), some (va_rf v8), some (.int v9), none, some (.int v11), none, none, none, none, none, none, none, none, none, none, none, none, none, none, none, none, none, none, none, none, none, none, none, none, none, none] [.int s1, .int s0] h (some (.int y.1)) y.2) (v1 : Option Nat) (v2 : Option Nat) (v3 : Option Nat) (v4 : Option Nat) (v5 : Int32) (v6 : Option Nat) (v7 : Option Nat) (v8 : Option Nat) (v9 : Int32) (v11 : Int32) (s0 : Int32) (h : am_H) (y : Int32 × am_H) (hf : fL_law_421 G.2.2.2.2.1 G.2.2.2.2.2 k422 v1 v2 v3 v4 v5 v6 v7 v8 v9 v11 s0 h = some y) : am_S G miL_law 421 [some (va_rf (some 0)), some (va_rf v1), some (va_rf v2), some (va_rf v3), some (va_rf v4), some (.int v5), some (va_rf v6), some (va_rf v7), some (va_rf v8), some (.int v9), none, some (.int v11), none, none, none, none, none, none, none, none, none, none, none, none, none, none, none, none, none, none, none, none, none, none, none, none, none, none] [.int s0] h (some (.int y.1)) y.2 := by
  unfold fL_law_421 at hf
  refine am_iconst (v := -1) dL_law_421 rfl rfl ?_
  exact hk422 _ _ _ _ _ _ _ _ _ _ _ _ _ _ hf
set_option maxRecDepth 20000 in
set_option maxHeartbeats 4000000 in
theorem sfL_law_1545 {G : am_G}  {k1521 : Option Nat → Option Nat → Option Nat → Option Nat → Int32 → Int32 → Option Nat → Int32 → Int32 → Int32 → Int32 → am_H → Option (Int32 × am_H)} (hk1521 : ∀ (v1 : Option Nat) (v2 : Option Nat) (v3 : Option Nat) (v4 : Option Nat) (v5 : Int32) (v9 : Int32) (v10 : Option Nat) (v11 : Int32) (v12 : Int32) (v13 : Int32) (v14 : Int32) (h : am_H) (y : Int32 × am_H), k1521 v1 v2 v3 v4 v5 v9 v10 v11 v12 v13 v14 h = some y → am_S G miL_law 1521 [none, some (va_rf v1), some (va_rf v2), some (va_rf v3), some (va_rf v4), some (.int v5), none, none, none, some (.int v9), some (va_rf v10), some (.int v11), some (.int v12), some (.int v13), some (.int v14), none, none, none, none, none, none, none, none, none, none, none, none, none, none, none, none, none, none, none, none, none, none, none] [] h (some (.int y.1)) y.2) : ∀ (n : Nat) (v1 : Option Nat) (v2 : Option Nat) (v3 : Option Nat) (v4 : Option Nat) (v5 : Int32) (v9 : Int32) (v10 : Option Nat) (v11 : Int32) (v12 : Int32) (v13 : Int32) (v14 : Int32) (v15 : Int32) (h : am_H) (y : Int32 × am_H) (hf : fL_law_1545 G.2.2.2.2.1 G.2.2.2.2.2 k1521 n v1 v2 v3 v4 v5 v9 v10 v11 v12 v13 v14 v15 h = some y), am_S G miL_law 1545 [none, some (va_rf v1), some (va_rf v2), some (va_rf v3), some (va_rf v4), some (.int v5), none, none, none, some (.int v9), some (va_rf v10), some (.int v11), some (.int v12), some (.int v13), some (.int v14), some (.int v15), none, none, none, none, none, none, none, none, none, none, none, none, none, none, none, none, none, none, none, none, none, none] [] h (some (.int y.1)) y.2 := by
  intro n
  induction n with
  | zero => intro v1 v2 v3 v4 v5 v9 v10 v11 v12 v13 v14 v15 h y hf; cases hf
  | succ n ih =>
    intro v1 v2 v3 v4 v5 v9 v10 v11 v12 v13 v14 v15 h y hf
    have hf : fL_law_1545_b G.2.2.2.2.1 G.2.2.2.2.2 k1521 (fL_law_1545 G.2.2.2.2.1 G.2.2.2.2.2 k1521 n) v1 v2 v3 v4 v5 v9 v10 v11 v12 v13 v14 v15 h = some y := hf
    unfold fL_law_1545_b at hf
    refine am_iload dL_law_1545 rfl rfl ?_
    refine am_aload_n dL_law_1547 rfl rfl ?_
    refine am_iconst (v := 4) dL_law_1548 rfl rfl ?_
    refine am_iald dL_law_1549 rfl hf (fun x1 _ hf => ?_)
    refine am_icmp_ge (tgt := 1632) dL_law_1550 (by decide) rfl hf (fun hf => ?_) (fun hf => ?_)
    · refine am_iinc (ls' := [none, some (va_rf v1), some (va_rf v2), some (va_rf v3), some (va_rf v4), some (.int v5), none, none, none, some (.int v9), some (va_rf v10), some (.int v11), some (.int v12), some (.int v13), some (.int (v14 + (1 : Int32))), some (.int v15), none, none, none, none, none, none, none, none, none, none, none, none, none, none, none, none, none, none, none, none, none, none]) dL_law_1632 rfl rfl (by decide) rfl rfl ?_
      refine am_goto (pc' := 1521) dL_law_1635 (by decide) ?_
      exact am_we (hk1521 _ _ _ _ _ _ _ _ _ _ _ _ _ hf) ⟨Or.inl rfl, Or.inr rfl, Or.inr rfl, Or.inr rfl, Or.inr rfl, Or.inr rfl, Or.inl rfl, Or.inl rfl, Or.inl rfl, Or.inr rfl, Or.inr rfl, Or.inr rfl, Or.inr rfl, Or.inr rfl, Or.inr rfl, Or.inl rfl, Or.inl rfl, Or.inl rfl, Or.inl rfl, Or.inl rfl, Or.inl rfl, Or.inl rfl, Or.inl rfl, Or.inl rfl, Or.inl rfl, Or.inl rfl, Or.inl rfl, Or.inl rfl, Or.inl rfl, Or.inl rfl, Or.inl rfl, Or.inl rfl, Or.inl rfl, Or.inl rfl, Or.inl rfl, Or.inl rfl, Or.inl rfl, Or.inl rfl, trivial⟩
    refine am_aload dL_law_1553 rfl rfl ?_
    refine am_iload dL_law_1555 rfl rfl ?_
    refine am_iald dL_law_1557 rfl hf (fun x2 _ hf => ?_)
    refine am_iload dL_law_1558 rfl rfl ?_
    refine am_iconst (v := 1) dL_law_1560 rfl rfl ?_
    refine am_iadd dL_law_1561 rfl ?_
    refine am_aload dL_law_1562 rfl rfl ?_
    refine am_iload dL_law_1564 rfl rfl ?_
    refine am_iald dL_law_1566 rfl hf (fun x3 _ hf => ?_)
    refine am_imul dL_law_1567 rfl ?_
    refine am_aload_n dL_law_1568 rfl rfl ?_
    refine am_iconst (v := 4) dL_law_1569 rfl rfl ?_
    refine am_iald dL_law_1570 rfl hf (fun x4 _ hf => ?_)
    refine am_idiv dL_law_1571 rfl hf (fun hf => ?_)
    refine am_isub dL_law_1572 rfl ?_
    refine am_cSi (As := [.int (x2 - (((v15 + (1 : Int32)) * x3) / x4))]) (st := []) lk_L_law_76 rfl (Nat.le_of_ble_eq_true rfl) (Nat.le_of_ble_eq_true rfl) rfl dL_law_1573 rfl hf (fun y5 hf => sfL_size _ _ y5 hf) (fun y5 _ hf => ?_)
    refine am_istore (ls' := [none, some (va_rf v1), some (va_rf v2), some (va_rf v3), some (va_rf v4), some (.int v5), none, none, none, some (.int v9), some (va_rf v10), some (.int v11), some (.int v12), some (.int v13), some (.int v14), some (.int v15), some (.int y5.1), none, none, none, none, none, none, none, none, none, none, none, none, none, none, none, none, none, none, none, none, none]) dL_law_1576 (by decide) rfl rfl ?_
    refine am_iload dL_law_1578 rfl rfl ?_
    refine am_iload dL_law_1580 rfl rfl ?_
    refine am_icmp_le (tgt := 1590) dL_law_1582 (by decide) rfl hf (fun hf => ?_) (fun hf => ?_)
    · refine am_iload dL_law_1590 rfl rfl ?_
      exact am_we ((sfL_law_1592 ih) _ _ _ _ _ _ _ _ _ _ _ _ _ _ _ hf) ⟨Or.inl rfl, Or.inr rfl, Or.inr rfl, Or.inr rfl, Or.inr rfl, Or.inr rfl, Or.inl rfl, Or.inl rfl, Or.inl rfl, Or.inr rfl, Or.inr rfl, Or.inr rfl, Or.inl rfl, Or.inr rfl, Or.inr rfl, Or.inr rfl, Or.inr rfl, Or.inl rfl, Or.inl rfl, Or.inl rfl, Or.inl rfl, Or.inl rfl, Or.inl rfl, Or.inl rfl, Or.inl rfl, Or.inl rfl, Or.inl rfl, Or.inl rfl, Or.inl rfl, Or.inl rfl, Or.inl rfl, Or.inl rfl, Or.inl rfl, Or.inl rfl, Or.inl rfl, Or.inl rfl, Or.inl rfl, Or.inl rfl, trivial⟩
    refine am_iload dL_law_1585 rfl rfl ?_
    refine am_goto (pc' := 1592) dL_law_1587 (by decide) ?_
    exact am_we ((sfL_law_1592 ih) _ _ _ _ _ _ _ _ _ _ _ _ _ _ _ hf) ⟨Or.inl rfl, Or.inr rfl, Or.inr rfl, Or.inr rfl, Or.inr rfl, Or.inr rfl, Or.inl rfl, Or.inl rfl, Or.inl rfl, Or.inr rfl, Or.inr rfl, Or.inr rfl, Or.inl rfl, Or.inr rfl, Or.inr rfl, Or.inr rfl, Or.inr rfl, Or.inl rfl, Or.inl rfl, Or.inl rfl, Or.inl rfl, Or.inl rfl, Or.inl rfl, Or.inl rfl, Or.inl rfl, Or.inl rfl, Or.inl rfl, Or.inl rfl, Or.inl rfl, Or.inl rfl, Or.inl rfl, Or.inl rfl, Or.inl rfl, Or.inl rfl, Or.inl rfl, Or.inl rfl, Or.inl rfl, Or.inl rfl, trivial⟩
