/-! the sign of a long -/
theorem jsgn_a (x : Int64) : (x >>> (((63 : Int32)).toInt64 &&& 63)).toInt = x.toInt / 9223372036854775808 := by
  have h1 : (x >>> (((63 : Int32)).toInt64 &&& 63)).toBitVec = x.toBitVec.sshiftRight 63 := by
    rw [show ((63 : Int32)).toInt64 &&& 63 = (63 : Int64) by decide]
    rfl
  have h2 : (x >>> (((63 : Int32)).toInt64 &&& 63)).toInt = (x.toBitVec.sshiftRight 63).toInt := congrArg BitVec.toInt h1
  rw [h2, BitVec.toInt_sshiftRight, Int.shiftRight_eq_div_pow]
  rfl
theorem jsgn_b {x : Int64} (h : 0 < x.toInt) : ((-x).toUInt64 >>> (((63 : Int32)).toInt64.toUInt64 &&& Int64.toUInt64 63)).toInt64 = 1 := by
  have h1 : (((-x).toUInt64 >>> (((63 : Int32)).toInt64.toUInt64 &&& Int64.toUInt64 63)).toInt64).toBitVec = (-x.toBitVec) >>> (63 : Nat) := by
    rw [show ((63 : Int32)).toInt64.toUInt64 &&& Int64.toUInt64 63 = (63 : UInt64) by decide]
    rfl
  have h0 : x.toBitVec.toInt = x.toInt := rfl
  have h2 : x.toBitVec.toNat < 2 ^ 64 := x.toBitVec.isLt
  have h3 : x.toBitVec.toInt = if 2 * x.toBitVec.toNat < 2 ^ 64 then (x.toBitVec.toNat : Int) else (x.toBitVec.toNat : Int) - (2 ^ 64 : Nat) := BitVec.toInt_eq_toNat_cond x.toBitVec
  have h4 : 0 < x.toBitVec.toNat ∧ x.toBitVec.toNat < 2 ^ 63 := by
    rw [h0] at h3
    split at h3 <;> omega
  refine Int64.toBitVec.inj (h1.trans (BitVec.eq_of_toNat_eq ?_))
  rw [BitVec.toNat_ushiftRight, BitVec.toNat_neg, Nat.shiftRight_eq_div_pow]
  have : (2 ^ 64 - x.toBitVec.toNat) % 2 ^ 64 = 2 ^ 64 - x.toBitVec.toNat := Nat.mod_eq_of_lt (by omega)
  rw [this]
  show (2 ^ 64 - x.toBitVec.toNat) / 2 ^ 63 = 1
  omega
theorem i64_lo (x : Int64) : -9223372036854775808 ≤ x.toInt ∧ x.toInt < 9223372036854775808 := ⟨Int64.le_toInt x, Int64.toInt_lt x⟩
theorem jsgn_n {x : Int64} (h : x.toInt < 0) : jsgn x = -1 := by
  have e : x >>> (((63 : Int32)).toInt64 &&& 63) = -1 := by
    refine Int64.toInt.inj ?_
    rw [jsgn_a, show (-1 : Int64).toInt = -1 by decide]
    have := i64_lo x
    omega
  unfold jsgn
  rw [e]
  have : ∀ y : Int64, (-1 : Int64) ||| y = -1 := by
    intro y
    refine Int64.toBitVec.inj ?_
    show (BitVec.allOnes 64) ||| y.toBitVec = BitVec.allOnes 64
    exact BitVec.allOnes_or
  rw [this]
  rfl
theorem jsgn_nn {x : Int64} (h : 0 ≤ x.toInt) : x >>> (((63 : Int32)).toInt64 &&& 63) = 0 := by
  refine Int64.toInt.inj ?_
  rw [jsgn_a, show (0 : Int64).toInt = 0 by decide]
  have := i64_lo x
  omega
theorem jsgn_p {x : Int64} (h : 0 < x.toInt) : jsgn x = 1 := by
  unfold jsgn
  rw [jsgn_nn (by omega), jsgn_b h]
  rfl
theorem jsgn_z {x : Int64} (h : x.toInt = 0) : jsgn x = 0 := by
  obtain rfl : x = 0 := Int64.toInt.inj h
  rfl
