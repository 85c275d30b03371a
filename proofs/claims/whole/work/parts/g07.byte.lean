/-! Bytes: what is put on the tapes. -/
def by8 (y : Int32) : Nat := y.toBitVec.toNat % 256
theorem by8_lt (y : Int32) : by8 y < 256 := Nat.mod_lt _ (by omega)
theorem by8_and (y : Int32) : y &&& nI 255 = nI (by8 y) := by
  apply Int32.toBitVec_inj.mp
  apply BitVec.eq_of_toNat_eq
  have e1 : (y &&& nI 255).toBitVec.toNat = y.toBitVec.toNat &&& 255 := rfl
  have e2 : (nI (by8 y)).toBitVec.toNat = by8 y % 2 ^ 32 := rfl
  have q := by8_lt y
  rw [e1, e2, Nat.mod_eq_of_lt (by omega)]
  exact Nat.and_two_pow_sub_one_eq_mod _ 8
theorem by8_all : ∀ n, n < 256 → vp_nar .byte ((Int8.ofBitVec (BitVec.ofNat 8 n)).toInt32) = sb n := by decide +kernel
theorem by8_nar (y : Int32) : vp_nar .byte (y.toInt8.toInt32) = sb (by8 y) := by
  have e : y.toInt8 = Int8.ofBitVec (BitVec.ofNat 8 (by8 y)) := by
    apply Int8.toBitVec_inj.mp
    apply BitVec.eq_of_toNat_eq
    have e1 : (y.toInt8).toBitVec.toNat = y.toBitVec.toNat % 2 ^ 8 := by
      show (BitVec.signExtend 8 y.toBitVec).toNat = _
      rw [BitVec.signExtend_eq_setWidth_of_le _ (by omega), BitVec.toNat_setWidth]
    have e2 : (Int8.ofBitVec (BitVec.ofNat 8 (by8 y))).toBitVec.toNat = by8 y % 2 ^ 8 := rfl
    rw [e1, e2]
    unfold by8
    omega
  rw [e]
  exact by8_all _ (by8_lt y)
