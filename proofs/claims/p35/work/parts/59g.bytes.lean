/-! bytes of a long -/
/-- byte i of w -/
def byN (w : Int64) (i : Nat) : Nat := w.toBitVec.toNat / 2 ^ (8 * i) % 256
theorem byN_lt {w : Int64} {i : Nat} : byN w i < 256 := Nat.mod_lt _ (by decide)
theorem and255 (x : Nat) : x &&& 255 = x % 256 := Nat.and_two_pow_sub_one_eq_mod x 8
theorem i32_of {x : Int32} {k : Nat} (hk : k < 4294967296) (h : x.toBitVec.toNat = k) : x = nI k := by
  apply Int32.toBitVec_inj.mp
  apply BitVec.eq_of_toNat_eq
  rw [h]
  show _ = (BitVec.ofNat 32 k).toNat
  rw [BitVec.toNat_ofNat, Nat.mod_eq_of_lt hk]
theorem to32_n (x : Int64) : x.toInt32.toBitVec.toNat = x.toBitVec.toNat % 4294967296 := by
  rw [Int64.toBitVec_toInt32, BitVec.signExtend_eq_setWidth_of_le _ (by decide), BitVec.toNat_setWidth]
theorem by_c (w : Int64) (k : UInt64) (i : Nat) (hk : k.toNat = 8 * i) (hi : i < 8) : Int64.toInt32 ((Int64.toUInt64 w >>> k).toInt64) &&& (255 : Int32) = nI (byN w i) := by
  have hb := byN_lt (w := w) (i := i)
  refine i32_of (by omega) ?_
  have e1 : (Int64.toUInt64 w >>> k).toNat = w.toBitVec.toNat / 2 ^ (8 * i) := by
    rw [UInt64.toNat_shiftRight, hk, Nat.mod_eq_of_lt (by omega), Nat.shiftRight_eq_div_pow]; rfl
  rw [Int32.toBitVec_and, BitVec.toNat_and, show (255 : Int32).toBitVec.toNat = 255 from rfl, and255, to32_n]
  rw [show ((Int64.toUInt64 w >>> k).toInt64).toBitVec.toNat = (Int64.toUInt64 w >>> k).toNat from rfl, e1]
  unfold byN
  omega
