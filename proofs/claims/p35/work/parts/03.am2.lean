/-! the abstract machine, 2: a row an instruction (what has no heap in it) -/
section AM2
variable {G : am_G} {M : am_M} {pc pc' : Nat} {ls ls' : List (Option Value)} {st : List Value} {h h' : am_H} {r : Option Value}
theorem am_iconst {n : Int} {v : Int32} (hd : decode M.2.1 pc = .ok (.iconst n, 1)) (hv : Int32.ofInt n = v) (hp : pc + 1 = pc') (k : am_S G M pc' ls (.int v :: st) h r h') : am_S G M pc ls (st) h r h' := by
  subst hp
  refine ⟨k.1, fun p l e R s m args below meth c H locs cells slots arr Q hC hR hS hL h1 h2 hr => ?_⟩
  exact lv_iconst hC.1 hC.2.1 hd hv (k.2 p l e R s m args below meth c H locs cells slots arr Q hC hR hS hL h1 h2 hr)
theorem am_bipush {n : Int} {v : Int32} (hd : decode M.2.1 pc = .ok (.bipush n, 2)) (hv : (Int8.ofInt n).toInt32 = v) (hp : pc + 2 = pc') (k : am_S G M pc' ls (.int v :: st) h r h') : am_S G M pc ls (st) h r h' := by
  subst hp
  refine ⟨k.1, fun p l e R s m args below meth c H locs cells slots arr Q hC hR hS hL h1 h2 hr => ?_⟩
  exact lv_bipush hC.1 hC.2.1 hd hv (k.2 p l e R s m args below meth c H locs cells slots arr Q hC hR hS hL h1 h2 hr)
theorem am_sipush {n : Int} {v : Int32} (hd : decode M.2.1 pc = .ok (.sipush n, 3)) (hv : (Int16.ofInt n).toInt32 = v) (hp : pc + 3 = pc') (k : am_S G M pc' ls (.int v :: st) h r h') : am_S G M pc ls (st) h r h' := by
  subst hp
  refine ⟨k.1, fun p l e R s m args below meth c H locs cells slots arr Q hC hR hS hL h1 h2 hr => ?_⟩
  exact lv_sipush hC.1 hC.2.1 hd hv (k.2 p l e R s m args below meth c H locs cells slots arr Q hC hR hS hL h1 h2 hr)
theorem am_ldc {i : Nat} {v : Int32} (hd : decode M.2.1 pc = .ok (.ldc i, 2)) (hw : Jvm.Cond.constant M.1.cls i v ∈ am_W) (hp : pc + 2 = pc') (k : am_S G M pc' ls (.int v :: st) h r h') : am_S G M pc ls (st) h r h' := by
  subst hp
  refine ⟨k.1, fun p l e R s m args below meth c H locs cells slots arr Q hC hR hS hL h1 h2 hr => ?_⟩
  exact lv_ldc hC.1 hC.2.1 hC.2.2.2.2.1 (hC.2.2.2.2.2.2.1 _ hw) hd (k.2 p l e R s m args below meth c H locs cells slots arr Q hC hR hS hL h1 h2 hr)
theorem am_ldc2 {i : Nat} {v : Int64} (hd : decode M.2.1 pc = .ok (.ldc2_w i, 3)) (hw : Jvm.Cond.constantLong M.1.cls i v ∈ am_W) (hp : pc + 3 = pc') (k : am_S G M pc' ls (.long v :: st) h r h') : am_S G M pc ls (st) h r h' := by
  subst hp
  refine ⟨k.1, fun p l e R s m args below meth c H locs cells slots arr Q hC hR hS hL h1 h2 hr => ?_⟩
  exact lv_ldc2 hC.1 hC.2.1 hC.2.2.2.2.1 (hC.2.2.2.2.2.2.1 _ hw) hd (k.2 p l e R s m args below meth c H locs cells slots arr Q hC hR hS hL h1 h2 hr)
theorem am_iload_n {kk : Fin 4} {x : Int32} (hd : decode M.2.1 pc = .ok (.iload_n kk, 1)) (hi : ls[(kk : Nat)]? = some (some (.int x))) (hp : pc + 1 = pc') (k : am_S G M pc' ls (.int x :: st) h r h') : am_S G M pc ls (st) h r h' := by
  subst hp
  refine ⟨k.1, fun p l e R s m args below meth c H locs cells slots arr Q hC hR hS hL h1 h2 hr => ?_⟩
  exact lv_iload_n hC.1 hC.2.1 hd rfl (hL.2.2.2 _ _ hi) (k.2 p l e R s m args below meth c H locs cells slots arr Q hC hR hS hL h1 h2 hr)
theorem am_iload {i : Nat} {x : Int32} (hd : decode M.2.1 pc = .ok (.iload i, 2)) (hi : ls[i]? = some (some (.int x))) (hp : pc + 2 = pc') (k : am_S G M pc' ls (.int x :: st) h r h') : am_S G M pc ls (st) h r h' := by
  subst hp
  refine ⟨k.1, fun p l e R s m args below meth c H locs cells slots arr Q hC hR hS hL h1 h2 hr => ?_⟩
  exact lv_iload hC.1 hC.2.1 hd (hL.2.2.2 _ _ hi) (k.2 p l e R s m args below meth c H locs cells slots arr Q hC hR hS hL h1 h2 hr)
theorem am_lload_n {kk : Fin 4} {x : Int64} (hd : decode M.2.1 pc = .ok (.lload_n kk, 1)) (hi : ls[(kk : Nat)]? = some (some (.long x))) (hp : pc + 1 = pc') (k : am_S G M pc' ls (.long x :: st) h r h') : am_S G M pc ls (st) h r h' := by
  subst hp
  refine ⟨k.1, fun p l e R s m args below meth c H locs cells slots arr Q hC hR hS hL h1 h2 hr => ?_⟩
  exact lv_lload_n hC.1 hC.2.1 hd rfl (hL.2.2.2 _ _ hi) (k.2 p l e R s m args below meth c H locs cells slots arr Q hC hR hS hL h1 h2 hr)
theorem am_lload {i : Nat} {x : Int64} (hd : decode M.2.1 pc = .ok (.lload i, 2)) (hi : ls[i]? = some (some (.long x))) (hp : pc + 2 = pc') (k : am_S G M pc' ls (.long x :: st) h r h') : am_S G M pc ls (st) h r h' := by
  subst hp
  refine ⟨k.1, fun p l e R s m args below meth c H locs cells slots arr Q hC hR hS hL h1 h2 hr => ?_⟩
  exact lv_lload hC.1 hC.2.1 hd (hL.2.2.2 _ _ hi) (k.2 p l e R s m args below meth c H locs cells slots arr Q hC hR hS hL h1 h2 hr)
theorem am_aload_n {kk : Fin 4} {q : Option Nat} (hd : decode M.2.1 pc = .ok (.aload_n kk, 1)) (hi : ls[(kk : Nat)]? = some (some (va_rf q))) (hp : pc + 1 = pc') (k : am_S G M pc' ls (va_rf q :: st) h r h') : am_S G M pc ls st h r h' := by
  subst hp
  refine ⟨k.1, fun p l e R s m args below meth c H locs cells slots arr Q hC hR hS hL h1 h2 hr => ?_⟩
  have hh := hL.2.2.2 _ _ hi
  cases q with
  | none => exact lv_aload_nN hC.1 hC.2.1 hd rfl hh (k.2 p l e R s m args below meth c H locs cells slots arr Q hC hR hS hL h1 h2 hr)
  | some a => exact lv_aload_n hC.1 hC.2.1 hd rfl hh (k.2 p l e R s m args below meth c H locs cells slots arr Q hC hR hS hL h1 h2 hr)
theorem am_aload {i : Nat} {q : Option Nat} (hd : decode M.2.1 pc = .ok (.aload i, 2)) (hi : ls[i]? = some (some (va_rf q))) (hp : pc + 2 = pc') (k : am_S G M pc' ls (va_rf q :: st) h r h') : am_S G M pc ls st h r h' := by
  subst hp
  refine ⟨k.1, fun p l e R s m args below meth c H locs cells slots arr Q hC hR hS hL h1 h2 hr => ?_⟩
  have hh := hL.2.2.2 _ _ hi
  cases q with
  | none => exact lv_aloadN hC.1 hC.2.1 hd hh (k.2 p l e R s m args below meth c H locs cells slots arr Q hC hR hS hL h1 h2 hr)
  | some a => exact lv_aload hC.1 hC.2.1 hd hh (k.2 p l e R s m args below meth c H locs cells slots arr Q hC hR hS hL h1 h2 hr)
theorem am_istore_n {kk : Fin 4} {x : Int32} (hd : decode M.2.1 pc = .ok (.istore_n kk, 1)) (hn : (kk : Nat) < M.2.2.1) (hl : am_s1 ls (kk : Nat) (.int x) = ls') (hp : pc + 1 = pc') (k : am_S G M pc' ls' st h r h') : am_S G M pc ls (.int x :: st) h r h' := by
  subst hp
  refine ⟨k.1, fun p l e R s m args below meth c H locs cells slots arr Q hC hR hS hL h1 h2 hr => ?_⟩
  exact lv_istore_n hC.1 hC.2.1 hd rfl hL.has hn rfl (fun arr' ha => (k.2 p l e R s m args below meth c H locs cells slots arr' Q hC hR hS (by rw [← hl]; exact hL.s1 ha) h1 h2 hr))
theorem am_istore {i : Nat} {x : Int32} (hd : decode M.2.1 pc = .ok (.istore i, 2)) (hn : i < M.2.2.1) (hl : am_s1 ls i (.int x) = ls') (hp : pc + 2 = pc') (k : am_S G M pc' ls' st h r h') : am_S G M pc ls (.int x :: st) h r h' := by
  subst hp
  refine ⟨k.1, fun p l e R s m args below meth c H locs cells slots arr Q hC hR hS hL h1 h2 hr => ?_⟩
  exact lv_istore hC.1 hC.2.1 hd hL.has hn rfl (fun arr' ha => (k.2 p l e R s m args below meth c H locs cells slots arr' Q hC hR hS (by rw [← hl]; exact hL.s1 ha) h1 h2 hr))
theorem am_lstore_n {kk : Fin 4} {x : Int64} (hd : decode M.2.1 pc = .ok (.lstore_n kk, 1)) (hn : (kk : Nat) + 1 < M.2.2.1) (hl : am_s2 ls (kk : Nat) (.long x) = ls') (hp : pc + 1 = pc') (k : am_S G M pc' ls' st h r h') : am_S G M pc ls (.long x :: st) h r h' := by
  subst hp
  refine ⟨k.1, fun p l e R s m args below meth c H locs cells slots arr Q hC hR hS hL h1 h2 hr => ?_⟩
  exact lv_lstore_n hC.1 hC.2.1 hd rfl hL.has hn rfl (fun arr' ha => (k.2 p l e R s m args below meth c H locs cells slots arr' Q hC hR hS (by rw [← hl]; exact hL.s2 ha) h1 h2 hr))
theorem am_lstore {i : Nat} {x : Int64} (hd : decode M.2.1 pc = .ok (.lstore i, 2)) (hn : i + 1 < M.2.2.1) (hl : am_s2 ls i (.long x) = ls') (hp : pc + 2 = pc') (k : am_S G M pc' ls' st h r h') : am_S G M pc ls (.long x :: st) h r h' := by
  subst hp
  refine ⟨k.1, fun p l e R s m args below meth c H locs cells slots arr Q hC hR hS hL h1 h2 hr => ?_⟩
  exact lv_lstore hC.1 hC.2.1 hd hL.has hn rfl (fun arr' ha => (k.2 p l e R s m args below meth c H locs cells slots arr' Q hC hR hS (by rw [← hl]; exact hL.s2 ha) h1 h2 hr))
theorem am_astore_n {kk : Fin 4} {q : Option Nat} (hd : decode M.2.1 pc = .ok (.astore_n kk, 1)) (hn : (kk : Nat) < M.2.2.1) (hl : am_s1 ls (kk : Nat) (va_rf q) = ls') (hp : pc + 1 = pc') (k : am_S G M pc' ls' st h r h') : am_S G M pc ls (va_rf q :: st) h r h' := by
  subst hp
  refine ⟨k.1, fun p l e R s m args below meth c H locs cells slots arr Q hC hR hS hL h1 h2 hr => ?_⟩
  cases q with
  | none => exact lv_astore_nN hC.1 hC.2.1 hd rfl hL.has hn rfl (fun arr' ha => (k.2 p l e R s m args below meth c H locs cells slots arr' Q hC hR hS (by rw [← hl]; exact hL.s1 ha) h1 h2 hr))
  | some a => exact lv_astore_n hC.1 hC.2.1 hd rfl hL.has hn rfl (fun arr' ha => (k.2 p l e R s m args below meth c H locs cells slots arr' Q hC hR hS (by rw [← hl]; exact hL.s1 ha) h1 h2 hr))
theorem am_astore {i : Nat} {q : Option Nat} (hd : decode M.2.1 pc = .ok (.astore i, 2)) (hn : i < M.2.2.1) (hl : am_s1 ls i (va_rf q) = ls') (hp : pc + 2 = pc') (k : am_S G M pc' ls' st h r h') : am_S G M pc ls (va_rf q :: st) h r h' := by
  subst hp
  refine ⟨k.1, fun p l e R s m args below meth c H locs cells slots arr Q hC hR hS hL h1 h2 hr => ?_⟩
  cases q with
  | none => exact lv_astoreN hC.1 hC.2.1 hd hL.has hn rfl (fun arr' ha => (k.2 p l e R s m args below meth c H locs cells slots arr' Q hC hR hS (by rw [← hl]; exact hL.s1 ha) h1 h2 hr))
  | some a => exact lv_astore hC.1 hC.2.1 hd hL.has hn rfl (fun arr' ha => (k.2 p l e R s m args below meth c H locs cells slots arr' Q hC hR hS (by rw [← hl]; exact hL.s1 ha) h1 h2 hr))
theorem am_iinc {i : Nat} {n : Int} {x v : Int32} (hd : decode M.2.1 pc = .ok (.iinc i n, 3)) (hi : ls[i]? = some (some (.int x))) (hv : x + Int32.ofInt n = v) (hn : i < M.2.2.1) (hl : am_s1 ls i (.int v) = ls') (hp : pc + 3 = pc') (k : am_S G M pc' ls' st h r h') : am_S G M pc ls st h r h' := by
  subst hp
  refine ⟨k.1, fun p l e R s m args below meth c H locs cells slots arr Q hC hR hS hL h1 h2 hr => ?_⟩
  obtain ⟨k0, hk0⟩ := List.getElem?_of_mem (am_lp_mem (G := G).mpr ⟨.int x, hi, rfl⟩)
  exact lv_iinc hC.1 hC.2.1 hd hL.has hk0 hv hn rfl (fun arr' ha => (k.2 p l e R s m args below meth c H locs cells slots arr' Q hC hR hS (by rw [← hl]; exact hL.s1 ha) h1 h2 hr))
theorem am_iadd {x y : Int32} (hd : decode M.2.1 pc = .ok (.iadd, 1))  (hp : pc + 1 = pc') (k : am_S G M pc' ls (.int (x + y) :: st) h r h') : am_S G M pc ls (.int y :: .int x :: st) h r h' := by
  subst hp
  refine ⟨k.1, fun p l e R s m args below meth c H locs cells slots arr Q hC hR hS hL h1 h2 hr => ?_⟩
  exact lv_iadd hC.1 hC.2.1 hd (k.2 p l e R s m args below meth c H locs cells slots arr Q hC hR hS hL h1 h2 hr)
theorem am_isub {x y : Int32} (hd : decode M.2.1 pc = .ok (.isub, 1))  (hp : pc + 1 = pc') (k : am_S G M pc' ls (.int (x - y) :: st) h r h') : am_S G M pc ls (.int y :: .int x :: st) h r h' := by
  subst hp
  refine ⟨k.1, fun p l e R s m args below meth c H locs cells slots arr Q hC hR hS hL h1 h2 hr => ?_⟩
  exact lv_isub hC.1 hC.2.1 hd (k.2 p l e R s m args below meth c H locs cells slots arr Q hC hR hS hL h1 h2 hr)
theorem am_imul {x y : Int32} (hd : decode M.2.1 pc = .ok (.imul, 1))  (hp : pc + 1 = pc') (k : am_S G M pc' ls (.int (x * y) :: st) h r h') : am_S G M pc ls (.int y :: .int x :: st) h r h' := by
  subst hp
  refine ⟨k.1, fun p l e R s m args below meth c H locs cells slots arr Q hC hR hS hL h1 h2 hr => ?_⟩
  exact lv_imul hC.1 hC.2.1 hd (k.2 p l e R s m args below meth c H locs cells slots arr Q hC hR hS hL h1 h2 hr)
theorem am_iand {x y : Int32} (hd : decode M.2.1 pc = .ok (.iand, 1))  (hp : pc + 1 = pc') (k : am_S G M pc' ls (.int (x &&& y) :: st) h r h') : am_S G M pc ls (.int y :: .int x :: st) h r h' := by
  subst hp
  refine ⟨k.1, fun p l e R s m args below meth c H locs cells slots arr Q hC hR hS hL h1 h2 hr => ?_⟩
  exact lv_iand hC.1 hC.2.1 hd (k.2 p l e R s m args below meth c H locs cells slots arr Q hC hR hS hL h1 h2 hr)
theorem am_ior {x y : Int32} (hd : decode M.2.1 pc = .ok (.ior, 1))  (hp : pc + 1 = pc') (k : am_S G M pc' ls (.int (x ||| y) :: st) h r h') : am_S G M pc ls (.int y :: .int x :: st) h r h' := by
  subst hp
  refine ⟨k.1, fun p l e R s m args below meth c H locs cells slots arr Q hC hR hS hL h1 h2 hr => ?_⟩
  exact lv_ior hC.1 hC.2.1 hd (k.2 p l e R s m args below meth c H locs cells slots arr Q hC hR hS hL h1 h2 hr)
theorem am_ixor {x y : Int32} (hd : decode M.2.1 pc = .ok (.ixor, 1))  (hp : pc + 1 = pc') (k : am_S G M pc' ls (.int (x ^^^ y) :: st) h r h') : am_S G M pc ls (.int y :: .int x :: st) h r h' := by
  subst hp
  refine ⟨k.1, fun p l e R s m args below meth c H locs cells slots arr Q hC hR hS hL h1 h2 hr => ?_⟩
  exact lv_ixor hC.1 hC.2.1 hd (k.2 p l e R s m args below meth c H locs cells slots arr Q hC hR hS hL h1 h2 hr)
theorem am_ishl {x y : Int32} (hd : decode M.2.1 pc = .ok (.ishl, 1))  (hp : pc + 1 = pc') (k : am_S G M pc' ls (.int (x <<< (y &&& 31)) :: st) h r h') : am_S G M pc ls (.int y :: .int x :: st) h r h' := by
  subst hp
  refine ⟨k.1, fun p l e R s m args below meth c H locs cells slots arr Q hC hR hS hL h1 h2 hr => ?_⟩
  exact lv_ishl hC.1 hC.2.1 hd (k.2 p l e R s m args below meth c H locs cells slots arr Q hC hR hS hL h1 h2 hr)
theorem am_ishr {x y : Int32} (hd : decode M.2.1 pc = .ok (.ishr, 1))  (hp : pc + 1 = pc') (k : am_S G M pc' ls (.int (x >>> (y &&& 31)) :: st) h r h') : am_S G M pc ls (.int y :: .int x :: st) h r h' := by
  subst hp
  refine ⟨k.1, fun p l e R s m args below meth c H locs cells slots arr Q hC hR hS hL h1 h2 hr => ?_⟩
  exact lv_ishr hC.1 hC.2.1 hd (k.2 p l e R s m args below meth c H locs cells slots arr Q hC hR hS hL h1 h2 hr)
theorem am_ladd {x y : Int64} (hd : decode M.2.1 pc = .ok (.ladd, 1))  (hp : pc + 1 = pc') (k : am_S G M pc' ls (.long (x + y) :: st) h r h') : am_S G M pc ls (.long y :: .long x :: st) h r h' := by
  subst hp
  refine ⟨k.1, fun p l e R s m args below meth c H locs cells slots arr Q hC hR hS hL h1 h2 hr => ?_⟩
  exact lv_ladd hC.1 hC.2.1 hd (k.2 p l e R s m args below meth c H locs cells slots arr Q hC hR hS hL h1 h2 hr)
theorem am_lsub {x y : Int64} (hd : decode M.2.1 pc = .ok (.lsub, 1))  (hp : pc + 1 = pc') (k : am_S G M pc' ls (.long (x - y) :: st) h r h') : am_S G M pc ls (.long y :: .long x :: st) h r h' := by
  subst hp
  refine ⟨k.1, fun p l e R s m args below meth c H locs cells slots arr Q hC hR hS hL h1 h2 hr => ?_⟩
  exact lv_lsub hC.1 hC.2.1 hd (k.2 p l e R s m args below meth c H locs cells slots arr Q hC hR hS hL h1 h2 hr)
theorem am_lmul {x y : Int64} (hd : decode M.2.1 pc = .ok (.lmul, 1))  (hp : pc + 1 = pc') (k : am_S G M pc' ls (.long (x * y) :: st) h r h') : am_S G M pc ls (.long y :: .long x :: st) h r h' := by
  subst hp
  refine ⟨k.1, fun p l e R s m args below meth c H locs cells slots arr Q hC hR hS hL h1 h2 hr => ?_⟩
  exact lv_lmul hC.1 hC.2.1 hd (k.2 p l e R s m args below meth c H locs cells slots arr Q hC hR hS hL h1 h2 hr)
theorem am_land {x y : Int64} (hd : decode M.2.1 pc = .ok (.land, 1))  (hp : pc + 1 = pc') (k : am_S G M pc' ls (.long (x &&& y) :: st) h r h') : am_S G M pc ls (.long y :: .long x :: st) h r h' := by
  subst hp
  refine ⟨k.1, fun p l e R s m args below meth c H locs cells slots arr Q hC hR hS hL h1 h2 hr => ?_⟩
  exact lv_land hC.1 hC.2.1 hd (k.2 p l e R s m args below meth c H locs cells slots arr Q hC hR hS hL h1 h2 hr)
theorem am_lor {x y : Int64} (hd : decode M.2.1 pc = .ok (.lor, 1))  (hp : pc + 1 = pc') (k : am_S G M pc' ls (.long (x ||| y) :: st) h r h') : am_S G M pc ls (.long y :: .long x :: st) h r h' := by
  subst hp
  refine ⟨k.1, fun p l e R s m args below meth c H locs cells slots arr Q hC hR hS hL h1 h2 hr => ?_⟩
  exact lv_lor hC.1 hC.2.1 hd (k.2 p l e R s m args below meth c H locs cells slots arr Q hC hR hS hL h1 h2 hr)
theorem am_lxor {x y : Int64} (hd : decode M.2.1 pc = .ok (.lxor, 1))  (hp : pc + 1 = pc') (k : am_S G M pc' ls (.long (x ^^^ y) :: st) h r h') : am_S G M pc ls (.long y :: .long x :: st) h r h' := by
  subst hp
  refine ⟨k.1, fun p l e R s m args below meth c H locs cells slots arr Q hC hR hS hL h1 h2 hr => ?_⟩
  exact lv_lxor hC.1 hC.2.1 hd (k.2 p l e R s m args below meth c H locs cells slots arr Q hC hR hS hL h1 h2 hr)
theorem am_lshl {x : Int64} {y : Int32} (hd : decode M.2.1 pc = .ok (.lshl, 1))  (hp : pc + 1 = pc') (k : am_S G M pc' ls (.long (x <<< (y.toInt64 &&& 63)) :: st) h r h') : am_S G M pc ls (.int y :: .long x :: st) h r h' := by
  subst hp
  refine ⟨k.1, fun p l e R s m args below meth c H locs cells slots arr Q hC hR hS hL h1 h2 hr => ?_⟩
  exact lv_lshl hC.1 hC.2.1 hd rfl (k.2 p l e R s m args below meth c H locs cells slots arr Q hC hR hS hL h1 h2 hr)
theorem am_lshr {x : Int64} {y : Int32} (hd : decode M.2.1 pc = .ok (.lshr, 1))  (hp : pc + 1 = pc') (k : am_S G M pc' ls (.long (x >>> (y.toInt64 &&& 63)) :: st) h r h') : am_S G M pc ls (.int y :: .long x :: st) h r h' := by
  subst hp
  refine ⟨k.1, fun p l e R s m args below meth c H locs cells slots arr Q hC hR hS hL h1 h2 hr => ?_⟩
  exact lv_lshr hC.1 hC.2.1 hd rfl (k.2 p l e R s m args below meth c H locs cells slots arr Q hC hR hS hL h1 h2 hr)
theorem am_lushr {x v : Int64} {y : Int32} (hd : decode M.2.1 pc = .ok (.lushr, 1)) (hv : (x.toUInt64 >>> (y.toInt64.toUInt64 &&& Int64.toUInt64 63)).toInt64 = v) (hp : pc + 1 = pc') (k : am_S G M pc' ls (.long v :: st) h r h') : am_S G M pc ls (.int y :: .long x :: st) h r h' := by
  subst hp
  refine ⟨k.1, fun p l e R s m args below meth c H locs cells slots arr Q hC hR hS hL h1 h2 hr => ?_⟩
  exact lv_lushr hC.1 hC.2.1 hd hv (k.2 p l e R s m args below meth c H locs cells slots arr Q hC hR hS hL h1 h2 hr)
theorem am_i2l {x : Int32} (hd : decode M.2.1 pc = .ok (.i2l, 1))  (hp : pc + 1 = pc') (k : am_S G M pc' ls (.long x.toInt64 :: st) h r h') : am_S G M pc ls (.int x :: st) h r h' := by
  subst hp
  refine ⟨k.1, fun p l e R s m args below meth c H locs cells slots arr Q hC hR hS hL h1 h2 hr => ?_⟩
  exact lv_i2l hC.1 hC.2.1 hd rfl (k.2 p l e R s m args below meth c H locs cells slots arr Q hC hR hS hL h1 h2 hr)
theorem am_l2i {x : Int64} (hd : decode M.2.1 pc = .ok (.l2i, 1))  (hp : pc + 1 = pc') (k : am_S G M pc' ls (.int x.toInt32 :: st) h r h') : am_S G M pc ls (.long x :: st) h r h' := by
  subst hp
  refine ⟨k.1, fun p l e R s m args below meth c H locs cells slots arr Q hC hR hS hL h1 h2 hr => ?_⟩
  exact lv_l2i hC.1 hC.2.1 hd rfl (k.2 p l e R s m args below meth c H locs cells slots arr Q hC hR hS hL h1 h2 hr)
theorem am_i2b {x : Int32} (hd : decode M.2.1 pc = .ok (.i2b, 1))  (hp : pc + 1 = pc') (k : am_S G M pc' ls (.int x.toInt8.toInt32 :: st) h r h') : am_S G M pc ls (.int x :: st) h r h' := by
  subst hp
  refine ⟨k.1, fun p l e R s m args below meth c H locs cells slots arr Q hC hR hS hL h1 h2 hr => ?_⟩
  exact lv_i2b hC.1 hC.2.1 hd rfl (k.2 p l e R s m args below meth c H locs cells slots arr Q hC hR hS hL h1 h2 hr)
theorem am_i2c {x : Int32} (hd : decode M.2.1 pc = .ok (.i2c, 1))  (hp : pc + 1 = pc') (k : am_S G M pc' ls (.int (x.toUInt32 % 65536).toInt32 :: st) h r h') : am_S G M pc ls (.int x :: st) h r h' := by
  subst hp
  refine ⟨k.1, fun p l e R s m args below meth c H locs cells slots arr Q hC hR hS hL h1 h2 hr => ?_⟩
  exact lv_i2c hC.1 hC.2.1 hd rfl (k.2 p l e R s m args below meth c H locs cells slots arr Q hC hR hS hL h1 h2 hr)
theorem am_ineg {x : Int32} (hd : decode M.2.1 pc = .ok (.ineg, 1))  (hp : pc + 1 = pc') (k : am_S G M pc' ls (.int (-x) :: st) h r h') : am_S G M pc ls (.int x :: st) h r h' := by
  subst hp
  refine ⟨k.1, fun p l e R s m args below meth c H locs cells slots arr Q hC hR hS hL h1 h2 hr => ?_⟩
  exact lv_ineg hC.1 hC.2.1 hd (k.2 p l e R s m args below meth c H locs cells slots arr Q hC hR hS hL h1 h2 hr)
theorem am_lcmp {x y : Int64} (hd : decode M.2.1 pc = .ok (.lcmp, 1))  (hp : pc + 1 = pc') (k : am_S G M pc' ls (.int (lg_cmp x y) :: st) h r h') : am_S G M pc ls (.long y :: .long x :: st) h r h' := by
  subst hp
  refine ⟨k.1, fun p l e R s m args below meth c H locs cells slots arr Q hC hR hS hL h1 h2 hr => ?_⟩
  exact W.lcmp hC.1 hC.2.1 hd (k.2 p l e R s m args below meth c H locs cells slots arr Q hC hR hS hL h1 h2 hr)
theorem am_idiv {ρ : Type} {A : Option ρ} {v : ρ} {x y : Int32} (hd : decode M.2.1 pc = .ok (.idiv, 1)) (hp : pc + 1 = pc') (hf : (if y = 0 then none else A) = some v) (kk : A = some v → am_S G M pc' ls (.int (x / y) :: st) h r h') : am_S G M pc ls (.int y :: .int x :: st) h r h' := by
  have hy : ¬ y = 0 := fun q => by rw [if_pos q] at hf; cases hf
  have k := kk (by rw [if_neg hy] at hf; exact hf)
  subst hp
  refine ⟨k.1, fun p l e R s m args below meth c H locs cells slots arr Q hC hR hS hL h1 h2 hr => ?_⟩
  exact lv_idiv hC.1 hC.2.1 hd hy (k.2 p l e R s m args below meth c H locs cells slots arr Q hC hR hS hL h1 h2 hr)
theorem am_irem {ρ : Type} {A : Option ρ} {v : ρ} {x y : Int32} (hd : decode M.2.1 pc = .ok (.irem, 1)) (hp : pc + 1 = pc') (hf : (if y = 0 then none else A) = some v) (kk : A = some v → am_S G M pc' ls (.int (x - x / y * y) :: st) h r h') : am_S G M pc ls (.int y :: .int x :: st) h r h' := by
  have hy : ¬ y = 0 := fun q => by rw [if_pos q] at hf; cases hf
  have k := kk (by rw [if_neg hy] at hf; exact hf)
  subst hp
  refine ⟨k.1, fun p l e R s m args below meth c H locs cells slots arr Q hC hR hS hL h1 h2 hr => ?_⟩
  exact lv_irem hC.1 hC.2.1 hd hy (k.2 p l e R s m args below meth c H locs cells slots arr Q hC hR hS hL h1 h2 hr)
theorem am_dup {va : Value} (hd : decode M.2.1 pc = .ok (.dup, 1)) (hv : va.category = 1) (hp : pc + 1 = pc') (k : am_S G M pc' ls (va :: va :: st) h r h') : am_S G M pc ls (va :: st) h r h' := by
  subst hp
  refine ⟨k.1, fun p l e R s m args below meth c H locs cells slots arr Q hC hR hS hL h1 h2 hr => ?_⟩
  exact lv_dup hC.1 hC.2.1 hd ((am_cat G va).trans hv) (k.2 p l e R s m args below meth c H locs cells slots arr Q hC hR hS hL h1 h2 hr)
theorem am_pop {va : Value} (hd : decode M.2.1 pc = .ok (.pop, 1)) (hv : va.category = 1) (hp : pc + 1 = pc') (k : am_S G M pc' ls (st) h r h') : am_S G M pc ls (va :: st) h r h' := by
  subst hp
  refine ⟨k.1, fun p l e R s m args below meth c H locs cells slots arr Q hC hR hS hL h1 h2 hr => ?_⟩
  exact lv_pop hC.1 hC.2.1 hd ((am_cat G va).trans hv) (k.2 p l e R s m args below meth c H locs cells slots arr Q hC hR hS hL h1 h2 hr)
theorem am_dup2 {va vb : Value} (hd : decode M.2.1 pc = .ok (.dup2, 1)) (hv : va.category = 1) (hw : vb.category = 1) (hp : pc + 1 = pc') (k : am_S G M pc' ls (va :: vb :: va :: vb :: st) h r h') : am_S G M pc ls (va :: vb :: st) h r h' := by
  subst hp
  refine ⟨k.1, fun p l e R s m args below meth c H locs cells slots arr Q hC hR hS hL h1 h2 hr => ?_⟩
  exact lv_dup2_11 hC.1 hC.2.1 hd ((am_cat G va).trans hv) ((am_cat G vb).trans hw) (k.2 p l e R s m args below meth c H locs cells slots arr Q hC hR hS hL h1 h2 hr)
theorem am_null (hd : decode M.2.1 pc = .ok (.aconst_null, 1)) (hp : pc + 1 = pc') (k : am_S G M pc' ls (va_rf none :: st) h r h') : am_S G M pc ls st h r h' := by
  subst hp
  refine ⟨k.1, fun p l e R s m args below meth c H locs cells slots arr Q hC hR hS hL h1 h2 hr => ?_⟩
  exact lv_null hC.1 hC.2.1 hd (k.2 p l e R s m args below meth c H locs cells slots arr Q hC hR hS hL h1 h2 hr)
theorem am_goto {off : Int} (hd : decode M.2.1 pc = .ok (.goto off, 3)) (ht : (pc : Int) + off = (pc' : Int)) (k : am_S G M pc' ls st h r h') : am_S G M pc ls st h r h' := by
  refine ⟨k.1, fun p l e R s m args below meth c H locs cells slots arr Q hC hR hS hL h1 h2 hr => ?_⟩
  exact lv_goto hC.1 hC.2.1 hd ht (k.2 p l e R s m args below meth c H locs cells slots arr Q hC hR hS hL h1 h2 hr)
theorem am_if_eq {ρ : Type} {A B : Option ρ} {v : ρ} {x : Int32} {off : Int} {tgt : Nat} (hd : decode M.2.1 pc = .ok (.ifCond .eq off, 3)) (ht : (pc : Int) + off = (tgt : Int)) (hp : pc + 3 = pc') (hf : (if x = 0 then A else B) = some v) (kt : A = some v → am_S G M tgt ls st h r h') (kf : B = some v → am_S G M pc' ls st h r h') : am_S G M pc ls (.int x :: st) h r h' := by
  subst hp
  by_cases hc : x = 0
  · rw [if_pos hc] at hf
    have k := kt hf
    refine ⟨k.1, fun p l e R s m args below meth c H locs cells slots arr Q hC hR hS hL h1 h2 hr => ?_⟩
    exact lv_if_eq hC.1 hC.2.1 hd ht (fun _ => (k.2 p l e R s m args below meth c H locs cells slots arr Q hC hR hS hL h1 h2 hr)) (fun q => absurd hc q)
  · rw [if_neg hc] at hf
    have k := kf hf
    refine ⟨k.1, fun p l e R s m args below meth c H locs cells slots arr Q hC hR hS hL h1 h2 hr => ?_⟩
    exact lv_if_eq hC.1 hC.2.1 hd ht (fun q => absurd q hc) (fun _ => (k.2 p l e R s m args below meth c H locs cells slots arr Q hC hR hS hL h1 h2 hr))
theorem am_icmp_eq {ρ : Type} {A B : Option ρ} {v : ρ} {x y : Int32} {off : Int} {tgt : Nat} (hd : decode M.2.1 pc = .ok (.if_icmp .eq off, 3)) (ht : (pc : Int) + off = (tgt : Int)) (hp : pc + 3 = pc') (hf : (if x = y then A else B) = some v) (kt : A = some v → am_S G M tgt ls st h r h') (kf : B = some v → am_S G M pc' ls st h r h') : am_S G M pc ls (.int y :: .int x :: st) h r h' := by
  subst hp
  by_cases hc : x = y
  · rw [if_pos hc] at hf
    have k := kt hf
    refine ⟨k.1, fun p l e R s m args below meth c H locs cells slots arr Q hC hR hS hL h1 h2 hr => ?_⟩
    exact lv_icmp_eq hC.1 hC.2.1 hd ht (fun _ => (k.2 p l e R s m args below meth c H locs cells slots arr Q hC hR hS hL h1 h2 hr)) (fun q => absurd hc q)
  · rw [if_neg hc] at hf
    have k := kf hf
    refine ⟨k.1, fun p l e R s m args below meth c H locs cells slots arr Q hC hR hS hL h1 h2 hr => ?_⟩
    exact lv_icmp_eq hC.1 hC.2.1 hd ht (fun q => absurd q hc) (fun _ => (k.2 p l e R s m args below meth c H locs cells slots arr Q hC hR hS hL h1 h2 hr))
theorem am_if_lt {ρ : Type} {A B : Option ρ} {v : ρ} {x : Int32} {off : Int} {tgt : Nat} (hd : decode M.2.1 pc = .ok (.ifCond .lt off, 3)) (ht : (pc : Int) + off = (tgt : Int)) (hp : pc + 3 = pc') (hf : (if x < 0 then A else B) = some v) (kt : A = some v → am_S G M tgt ls st h r h') (kf : B = some v → am_S G M pc' ls st h r h') : am_S G M pc ls (.int x :: st) h r h' := by
  subst hp
  by_cases hc : x < 0
  · rw [if_pos hc] at hf
    have k := kt hf
    refine ⟨k.1, fun p l e R s m args below meth c H locs cells slots arr Q hC hR hS hL h1 h2 hr => ?_⟩
    exact lv_if_lt hC.1 hC.2.1 hd ht (fun _ => (k.2 p l e R s m args below meth c H locs cells slots arr Q hC hR hS hL h1 h2 hr)) (fun q => absurd hc q)
  · rw [if_neg hc] at hf
    have k := kf hf
    refine ⟨k.1, fun p l e R s m args below meth c H locs cells slots arr Q hC hR hS hL h1 h2 hr => ?_⟩
    exact lv_if_lt hC.1 hC.2.1 hd ht (fun q => absurd q hc) (fun _ => (k.2 p l e R s m args below meth c H locs cells slots arr Q hC hR hS hL h1 h2 hr))
theorem am_icmp_lt {ρ : Type} {A B : Option ρ} {v : ρ} {x y : Int32} {off : Int} {tgt : Nat} (hd : decode M.2.1 pc = .ok (.if_icmp .lt off, 3)) (ht : (pc : Int) + off = (tgt : Int)) (hp : pc + 3 = pc') (hf : (if x < y then A else B) = some v) (kt : A = some v → am_S G M tgt ls st h r h') (kf : B = some v → am_S G M pc' ls st h r h') : am_S G M pc ls (.int y :: .int x :: st) h r h' := by
  subst hp
  by_cases hc : x < y
  · rw [if_pos hc] at hf
    have k := kt hf
    refine ⟨k.1, fun p l e R s m args below meth c H locs cells slots arr Q hC hR hS hL h1 h2 hr => ?_⟩
    exact lv_icmp_lt hC.1 hC.2.1 hd ht (fun _ => (k.2 p l e R s m args below meth c H locs cells slots arr Q hC hR hS hL h1 h2 hr)) (fun q => absurd hc q)
  · rw [if_neg hc] at hf
    have k := kf hf
    refine ⟨k.1, fun p l e R s m args below meth c H locs cells slots arr Q hC hR hS hL h1 h2 hr => ?_⟩
    exact lv_icmp_lt hC.1 hC.2.1 hd ht (fun q => absurd q hc) (fun _ => (k.2 p l e R s m args below meth c H locs cells slots arr Q hC hR hS hL h1 h2 hr))
theorem am_if_ge {ρ : Type} {A B : Option ρ} {v : ρ} {x : Int32} {off : Int} {tgt : Nat} (hd : decode M.2.1 pc = .ok (.ifCond .ge off, 3)) (ht : (pc : Int) + off = (tgt : Int)) (hp : pc + 3 = pc') (hf : (if 0 ≤ x then A else B) = some v) (kt : A = some v → am_S G M tgt ls st h r h') (kf : B = some v → am_S G M pc' ls st h r h') : am_S G M pc ls (.int x :: st) h r h' := by
  subst hp
  by_cases hc : 0 ≤ x
  · rw [if_pos hc] at hf
    have k := kt hf
    refine ⟨k.1, fun p l e R s m args below meth c H locs cells slots arr Q hC hR hS hL h1 h2 hr => ?_⟩
    exact lv_if_ge hC.1 hC.2.1 hd ht (fun _ => (k.2 p l e R s m args below meth c H locs cells slots arr Q hC hR hS hL h1 h2 hr)) (fun q => absurd hc q)
  · rw [if_neg hc] at hf
    have k := kf hf
    refine ⟨k.1, fun p l e R s m args below meth c H locs cells slots arr Q hC hR hS hL h1 h2 hr => ?_⟩
    exact lv_if_ge hC.1 hC.2.1 hd ht (fun q => absurd q hc) (fun _ => (k.2 p l e R s m args below meth c H locs cells slots arr Q hC hR hS hL h1 h2 hr))
theorem am_icmp_ge {ρ : Type} {A B : Option ρ} {v : ρ} {x y : Int32} {off : Int} {tgt : Nat} (hd : decode M.2.1 pc = .ok (.if_icmp .ge off, 3)) (ht : (pc : Int) + off = (tgt : Int)) (hp : pc + 3 = pc') (hf : (if y ≤ x then A else B) = some v) (kt : A = some v → am_S G M tgt ls st h r h') (kf : B = some v → am_S G M pc' ls st h r h') : am_S G M pc ls (.int y :: .int x :: st) h r h' := by
  subst hp
  by_cases hc : y ≤ x
  · rw [if_pos hc] at hf
    have k := kt hf
    refine ⟨k.1, fun p l e R s m args below meth c H locs cells slots arr Q hC hR hS hL h1 h2 hr => ?_⟩
    exact lv_icmp_ge hC.1 hC.2.1 hd ht (fun _ => (k.2 p l e R s m args below meth c H locs cells slots arr Q hC hR hS hL h1 h2 hr)) (fun q => absurd hc q)
  · rw [if_neg hc] at hf
    have k := kf hf
    refine ⟨k.1, fun p l e R s m args below meth c H locs cells slots arr Q hC hR hS hL h1 h2 hr => ?_⟩
    exact lv_icmp_ge hC.1 hC.2.1 hd ht (fun q => absurd q hc) (fun _ => (k.2 p l e R s m args below meth c H locs cells slots arr Q hC hR hS hL h1 h2 hr))
theorem am_if_gt {ρ : Type} {A B : Option ρ} {v : ρ} {x : Int32} {off : Int} {tgt : Nat} (hd : decode M.2.1 pc = .ok (.ifCond .gt off, 3)) (ht : (pc : Int) + off = (tgt : Int)) (hp : pc + 3 = pc') (hf : (if 0 < x then A else B) = some v) (kt : A = some v → am_S G M tgt ls st h r h') (kf : B = some v → am_S G M pc' ls st h r h') : am_S G M pc ls (.int x :: st) h r h' := by
  subst hp
  by_cases hc : 0 < x
  · rw [if_pos hc] at hf
    have k := kt hf
    refine ⟨k.1, fun p l e R s m args below meth c H locs cells slots arr Q hC hR hS hL h1 h2 hr => ?_⟩
    exact lv_if_gt hC.1 hC.2.1 hd ht (fun _ => (k.2 p l e R s m args below meth c H locs cells slots arr Q hC hR hS hL h1 h2 hr)) (fun q => absurd hc q)
  · rw [if_neg hc] at hf
    have k := kf hf
    refine ⟨k.1, fun p l e R s m args below meth c H locs cells slots arr Q hC hR hS hL h1 h2 hr => ?_⟩
    exact lv_if_gt hC.1 hC.2.1 hd ht (fun q => absurd q hc) (fun _ => (k.2 p l e R s m args below meth c H locs cells slots arr Q hC hR hS hL h1 h2 hr))
theorem am_icmp_gt {ρ : Type} {A B : Option ρ} {v : ρ} {x y : Int32} {off : Int} {tgt : Nat} (hd : decode M.2.1 pc = .ok (.if_icmp .gt off, 3)) (ht : (pc : Int) + off = (tgt : Int)) (hp : pc + 3 = pc') (hf : (if y < x then A else B) = some v) (kt : A = some v → am_S G M tgt ls st h r h') (kf : B = some v → am_S G M pc' ls st h r h') : am_S G M pc ls (.int y :: .int x :: st) h r h' := by
  subst hp
  by_cases hc : y < x
  · rw [if_pos hc] at hf
    have k := kt hf
    refine ⟨k.1, fun p l e R s m args below meth c H locs cells slots arr Q hC hR hS hL h1 h2 hr => ?_⟩
    exact lv_icmp_gt hC.1 hC.2.1 hd ht (fun _ => (k.2 p l e R s m args below meth c H locs cells slots arr Q hC hR hS hL h1 h2 hr)) (fun q => absurd hc q)
  · rw [if_neg hc] at hf
    have k := kf hf
    refine ⟨k.1, fun p l e R s m args below meth c H locs cells slots arr Q hC hR hS hL h1 h2 hr => ?_⟩
    exact lv_icmp_gt hC.1 hC.2.1 hd ht (fun q => absurd q hc) (fun _ => (k.2 p l e R s m args below meth c H locs cells slots arr Q hC hR hS hL h1 h2 hr))
theorem am_if_le {ρ : Type} {A B : Option ρ} {v : ρ} {x : Int32} {off : Int} {tgt : Nat} (hd : decode M.2.1 pc = .ok (.ifCond .le off, 3)) (ht : (pc : Int) + off = (tgt : Int)) (hp : pc + 3 = pc') (hf : (if x ≤ 0 then A else B) = some v) (kt : A = some v → am_S G M tgt ls st h r h') (kf : B = some v → am_S G M pc' ls st h r h') : am_S G M pc ls (.int x :: st) h r h' := by
  subst hp
  by_cases hc : x ≤ 0
  · rw [if_pos hc] at hf
    have k := kt hf
    refine ⟨k.1, fun p l e R s m args below meth c H locs cells slots arr Q hC hR hS hL h1 h2 hr => ?_⟩
    exact lv_if_le hC.1 hC.2.1 hd ht (fun _ => (k.2 p l e R s m args below meth c H locs cells slots arr Q hC hR hS hL h1 h2 hr)) (fun q => absurd hc q)
  · rw [if_neg hc] at hf
    have k := kf hf
    refine ⟨k.1, fun p l e R s m args below meth c H locs cells slots arr Q hC hR hS hL h1 h2 hr => ?_⟩
    exact lv_if_le hC.1 hC.2.1 hd ht (fun q => absurd q hc) (fun _ => (k.2 p l e R s m args below meth c H locs cells slots arr Q hC hR hS hL h1 h2 hr))
theorem am_icmp_le {ρ : Type} {A B : Option ρ} {v : ρ} {x y : Int32} {off : Int} {tgt : Nat} (hd : decode M.2.1 pc = .ok (.if_icmp .le off, 3)) (ht : (pc : Int) + off = (tgt : Int)) (hp : pc + 3 = pc') (hf : (if x ≤ y then A else B) = some v) (kt : A = some v → am_S G M tgt ls st h r h') (kf : B = some v → am_S G M pc' ls st h r h') : am_S G M pc ls (.int y :: .int x :: st) h r h' := by
  subst hp
  by_cases hc : x ≤ y
  · rw [if_pos hc] at hf
    have k := kt hf
    refine ⟨k.1, fun p l e R s m args below meth c H locs cells slots arr Q hC hR hS hL h1 h2 hr => ?_⟩
    exact lv_icmp_le hC.1 hC.2.1 hd ht (fun _ => (k.2 p l e R s m args below meth c H locs cells slots arr Q hC hR hS hL h1 h2 hr)) (fun q => absurd hc q)
  · rw [if_neg hc] at hf
    have k := kf hf
    refine ⟨k.1, fun p l e R s m args below meth c H locs cells slots arr Q hC hR hS hL h1 h2 hr => ?_⟩
    exact lv_icmp_le hC.1 hC.2.1 hd ht (fun q => absurd q hc) (fun _ => (k.2 p l e R s m args below meth c H locs cells slots arr Q hC hR hS hL h1 h2 hr))
theorem am_if_ne {ρ : Type} {A B : Option ρ} {v : ρ} {x : Int32} {off : Int} {tgt : Nat} (hd : decode M.2.1 pc = .ok (.ifCond .ne off, 3)) (ht : (pc : Int) + off = (tgt : Int)) (hp : pc + 3 = pc') (hf : (if x = 0 then A else B) = some v) (kt : B = some v → am_S G M tgt ls st h r h') (kf : A = some v → am_S G M pc' ls st h r h') : am_S G M pc ls (.int x :: st) h r h' := by
  subst hp
  by_cases hc : x = 0
  · rw [if_pos hc] at hf
    have k := kf hf
    refine ⟨k.1, fun p l e R s m args below meth c H locs cells slots arr Q hC hR hS hL h1 h2 hr => ?_⟩
    exact lv_if_ne hC.1 hC.2.1 hd ht (fun q => absurd hc q) (fun _ => (k.2 p l e R s m args below meth c H locs cells slots arr Q hC hR hS hL h1 h2 hr))
  · rw [if_neg hc] at hf
    have k := kt hf
    refine ⟨k.1, fun p l e R s m args below meth c H locs cells slots arr Q hC hR hS hL h1 h2 hr => ?_⟩
    exact lv_if_ne hC.1 hC.2.1 hd ht (fun _ => (k.2 p l e R s m args below meth c H locs cells slots arr Q hC hR hS hL h1 h2 hr)) (fun q => absurd q hc)
theorem am_icmp_ne {ρ : Type} {A B : Option ρ} {v : ρ} {x y : Int32} {off : Int} {tgt : Nat} (hd : decode M.2.1 pc = .ok (.if_icmp .ne off, 3)) (ht : (pc : Int) + off = (tgt : Int)) (hp : pc + 3 = pc') (hf : (if x = y then A else B) = some v) (kt : B = some v → am_S G M tgt ls st h r h') (kf : A = some v → am_S G M pc' ls st h r h') : am_S G M pc ls (.int y :: .int x :: st) h r h' := by
  subst hp
  by_cases hc : x = y
  · rw [if_pos hc] at hf
    have k := kf hf
    refine ⟨k.1, fun p l e R s m args below meth c H locs cells slots arr Q hC hR hS hL h1 h2 hr => ?_⟩
    exact lv_icmp_ne hC.1 hC.2.1 hd ht (fun q => absurd hc q) (fun _ => (k.2 p l e R s m args below meth c H locs cells slots arr Q hC hR hS hL h1 h2 hr))
  · rw [if_neg hc] at hf
    have k := kt hf
    refine ⟨k.1, fun p l e R s m args below meth c H locs cells slots arr Q hC hR hS hL h1 h2 hr => ?_⟩
    exact lv_icmp_ne hC.1 hC.2.1 hd ht (fun _ => (k.2 p l e R s m args below meth c H locs cells slots arr Q hC hR hS hL h1 h2 hr)) (fun q => absurd q hc)
theorem am_ifnull {ρ : Type} {A B : Option ρ} {v : ρ} {q : Option Nat} {off : Int} {tgt : Nat} (hd : decode M.2.1 pc = .ok (.ifnull off, 3)) (ht : (pc : Int) + off = (tgt : Int)) (hp : pc + 3 = pc') (hf : (if q = none then A else B) = some v) (kt : A = some v → am_S G M tgt ls st h r h') (kf : B = some v → am_S G M pc' ls st h r h') : am_S G M pc ls (va_rf q :: st) h r h' := by
  subst hp
  cases q with
  | none =>
    have k := kt (by rw [if_pos rfl] at hf; exact hf)
    refine ⟨k.1, fun p l e R s m args below meth c H locs cells slots arr Q hC hR hS hL h1 h2 hr => ?_⟩
    exact lv_ifnullN hC.1 hC.2.1 hd ht (k.2 p l e R s m args below meth c H locs cells slots arr Q hC hR hS hL h1 h2 hr)
  | some a =>
    have k := kf (by rw [if_neg (fun q => by cases q)] at hf; exact hf)
    refine ⟨k.1, fun p l e R s m args below meth c H locs cells slots arr Q hC hR hS hL h1 h2 hr => ?_⟩
    exact lv_ifnull hC.1 hC.2.1 hd (k.2 p l e R s m args below meth c H locs cells slots arr Q hC hR hS hL h1 h2 hr)
theorem am_ifnonnull {ρ : Type} {A B : Option ρ} {v : ρ} {q : Option Nat} {off : Int} {tgt : Nat} (hd : decode M.2.1 pc = .ok (.ifnonnull off, 3)) (ht : (pc : Int) + off = (tgt : Int)) (hp : pc + 3 = pc') (hf : (if q = none then A else B) = some v) (kt : B = some v → am_S G M tgt ls st h r h') (kf : A = some v → am_S G M pc' ls st h r h') : am_S G M pc ls (va_rf q :: st) h r h' := by
  subst hp
  cases q with
  | none =>
    have k := kf (by rw [if_pos rfl] at hf; exact hf)
    refine ⟨k.1, fun p l e R s m args below meth c H locs cells slots arr Q hC hR hS hL h1 h2 hr => ?_⟩
    exact lv_ifnonnullN hC.1 hC.2.1 hd (k.2 p l e R s m args below meth c H locs cells slots arr Q hC hR hS hL h1 h2 hr)
  | some a =>
    have k := kt (by rw [if_neg (fun q => by cases q)] at hf; exact hf)
    refine ⟨k.1, fun p l e R s m args below meth c H locs cells slots arr Q hC hR hS hL h1 h2 hr => ?_⟩
    exact lv_ifnonnull hC.1 hC.2.1 hd ht (k.2 p l e R s m args below meth c H locs cells slots arr Q hC hR hS hL h1 h2 hr)
def am_sw : List (Int32 × Nat) → Nat → Int32 → Nat
  | [], d, _ => d
  | q :: l, d, x => if x = q.1 then q.2 else am_sw l d x
def am_tck (pc : Nat) : Int → List Int → List (Int32 × Nat) → Bool
  | _, [], [] => true
  | lo, o :: os, q :: l => decide (q.1.toInt = lo) && (decide ((pc : Int) + o = (q.2 : Int)) && am_tck pc (lo + 1) os l)
  | _, _, _ => false
theorem am_tck_in {pc d : Nat} {x : Int32} : ∀ (os : List Int) (lo : Int) (l : List (Int32 × Nat)), am_tck pc lo os l = true → (x.toInt < lo ∨ lo + os.length ≤ x.toInt → am_sw l d x = d) ∧ (lo ≤ x.toInt → x.toInt < lo + os.length → ∃ o, os[(x.toInt - lo).toNat]? = some o ∧ (pc : Int) + o = (am_sw l d x : Nat))
  | [], lo, [], _ => ⟨fun _ => rfl, fun h1 h2 => by simp at h2; omega⟩
  | [], _, _ :: _, hc => by simp [am_tck] at hc
  | _ :: _, _, [], hc => by simp [am_tck] at hc
  | o :: os, lo, q :: l, hc => by
    simp only [am_tck, Bool.and_eq_true, decide_eq_true_eq] at hc
    obtain ⟨c1, c2, c3⟩ := hc
    obtain ⟨i1, i2⟩ := am_tck_in (d := d) (x := x) os (lo + 1) l c3
    by_cases hx : x = q.1
    · have e : am_sw (q :: l) d x = q.2 := by simp only [am_sw]; rw [if_pos hx]
      refine ⟨fun h => ?_, fun h1 h2 => ⟨o, ?_, by rw [e]; exact c2⟩⟩
      · rw [hx, c1] at h; simp at h; omega
      · rw [hx, c1]; simp
    · have e : am_sw (q :: l) d x = am_sw l d x := by simp only [am_sw]; rw [if_neg hx]
      have hne : x.toInt ≠ lo := fun z => hx (Int32.toInt_inj.mp (by rw [z, c1]))
      rw [e]
      refine ⟨fun h => i1 ?_, fun h1 h2 => ?_⟩
      · simp only [List.length_cons] at h; omega
      · obtain ⟨o', a, b⟩ := i2 (by omega) (by simp only [List.length_cons] at h2; omega)
        refine ⟨o', ?_, b⟩
        rw [show (x.toInt - lo).toNat = (x.toInt - (lo + 1)).toNat + 1 by omega, List.getElem?_cons_succ]
        exact a
theorem am_tsw {dflt lo hi : Int} {offs : Array Int} {len d : Nat} {x : Int32} {l : List (Int32 × Nat)} (hd : decode M.2.1 pc = .ok (.tableswitch dflt lo hi offs, len)) (hk : am_tck pc lo offs.toList l = true) (hh : lo + offs.toList.length = hi + 1) (ht : (pc : Int) + dflt = (d : Int)) (k : am_S G M (am_sw l d x) ls st h r h') : am_S G M pc ls (.int x :: st) h r h' := by
  refine ⟨k.1, fun p l e R s m args below meth c H locs cells slots arr Q hC hR hS hL h1 h2 hr => ?_⟩
  obtain ⟨i1, i2⟩ := am_tck_in (d := d) (x := x) _ _ _ hk
  by_cases h9 : x.toInt < lo ∨ hi < x.toInt
  · rw [i1 (by omega)] at k
    exact lv_tableOut hC.1 hC.2.1 hd h9 ht (k.2 p l e R s m args below meth c H locs cells slots arr Q hC hR hS hL h1 h2 hr)
  · obtain ⟨o, a, b⟩ := i2 (by omega) (by omega)
    exact lv_tableIn hC.1 hC.2.1 hd (by omega) (by omega) (by rw [← Array.getElem?_toList]; exact a) b (k.2 p l e R s m args below meth c H locs cells slots arr Q hC hR hS hL h1 h2 hr)
theorem am_swc {ρ : Type} {A B : Option ρ} {v : ρ} {x c : Int32} {t d : Nat} {l : List (Int32 × Nat)} (hf : (if x = c then A else B) = some v) (kt : A = some v → am_S G M t ls st h r h') (kf : B = some v → am_S G M (am_sw l d x) ls st h r h') : am_S G M (am_sw ((c, t) :: l) d x) ls st h r h' := by
  simp only [am_sw]
  by_cases hc : x = c
  · rw [if_pos hc] at hf ⊢; exact kt hf
  · rw [if_neg hc] at hf ⊢; exact kf hf
theorem am_lck {pc : Nat} {x : Int32} {dflt : Int} {d : Nat} (ht : (pc : Int) + dflt = (d : Int)) : ∀ (ps : List (Int × Int)) (l : List (Int32 × Nat)), (ps.length = l.length ∧ (ps.zip l).all (fun q => decide (q.2.1.toInt = q.1.1) && decide ((pc : Int) + q.1.2 = (q.2.2 : Int))) = true) → (pc : Int) + Op.lookupswitch.offset ps dflt x.toInt = (am_sw l d x : Nat)
  | [], [], _ => ht
  | [], _ :: _, hc => by simp at hc
  | _ :: _, [], hc => by simp at hc
  | q :: ps, z :: l, hc => by
    obtain ⟨c0, c1⟩ := hc
    simp only [List.zip_cons_cons, List.all_cons, Bool.and_eq_true, decide_eq_true_eq] at c1
    obtain ⟨⟨c1, c2⟩, c3⟩ := c1
    have ih := am_lck (x := x) ht ps l ⟨by simpa using c0, c3⟩
    by_cases hx : x = z.1
    · simp only [am_sw]
      rw [if_pos hx]
      have e : Op.lookupswitch.offset (q :: ps) dflt x.toInt = q.2 := by
        subst hx
        obtain ⟨q1, q2⟩ := q
        dsimp only at c1
        subst c1
        simp [Op.lookupswitch.offset]
      rw [e]; exact c2
    · simp only [am_sw]
      rw [if_neg hx]
      obtain ⟨q1, q2⟩ := q
      rw [lv_osw hx c1]; exact ih
theorem am_lsw {dflt : Int} {ps : Array (Int × Int)} {len d : Nat} {x : Int32} {l : List (Int32 × Nat)} (hd : decode M.2.1 pc = .ok (.lookupswitch dflt ps, len)) (hs : (ps.toList.zip (ps.toList.drop 1)).all (fun (a, next) => a.1 < next.1) = true) (hk : ps.toList.length = l.length ∧ (ps.toList.zip l).all (fun q => decide (q.2.1.toInt = q.1.1) && decide ((pc : Int) + q.1.2 = (q.2.2 : Int))) = true) (ht : (pc : Int) + dflt = (d : Int)) (k : am_S G M (am_sw l d x) ls st h r h') : am_S G M pc ls (.int x :: st) h r h' := by
  refine ⟨k.1, fun p l e R s m args below meth c H locs cells slots arr Q hC hR hS hL h1 h2 hr => ?_⟩
  exact lv_lookup hC.1 hC.2.1 hd hs rfl (am_lck ht _ _ hk) (k.2 p l e R s m args below meth c H locs cells slots arr Q hC hR hS hL h1 h2 hr)
end AM2
