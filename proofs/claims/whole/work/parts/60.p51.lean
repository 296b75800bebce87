/-- One byte, in the reference's words. -/
def byt (x : Int64) (j : Nat) : Int32 := ((x >>> ((8 * I j).toInt64 &&& 63)) &&& 255).toInt32
theorem sh1 : ∀ j, j < 8 → ((8 * I j).toInt64 &&& 63).toBitVec.smod 64 = BitVec.ofNat 64 (8 * j) := by decide +kernel
theorem sh2 : ∀ j, j < 8 → ((8 * I j).toInt64.toUInt64 &&& Int64.toUInt64 63).toBitVec % 64 = BitVec.ofNat 64 (8 * j) := by decide +kernel
theorem b255 {j : Nat} (hj : 8 ≤ j) : (255#32).getLsbD j = false := by
  rw [BitVec.getLsbD_ofNat]
  have : Nat.testBit 255 j = false := Nat.testBit_lt_two_pow (Nat.lt_of_lt_of_le (by decide : 255 < 2 ^ 8) (Nat.pow_le_pow_right (by decide) hj))
  rw [this, Bool.and_false]
theorem b255' {j : Nat} (hj : 8 ≤ j) : (255#64).getLsbD j = false := by
  rw [BitVec.getLsbD_ofNat]
  have : Nat.testBit 255 j = false := Nat.testBit_lt_two_pow (Nat.lt_of_lt_of_le (by decide : 255 < 2 ^ 8) (Nat.pow_le_pow_right (by decide) hj))
  rw [this, Bool.and_false]
theorem b255e {j : Nat} (hj : j < 8) : (255#32).getLsbD j = true ∧ (255#64).getLsbD j = true := by
  revert j; decide
theorem byte_eq (x : Int64) {j : Nat} (hj : j < 8) : (((x.toUInt64 >>> ((8 * I j).toInt64.toUInt64 &&& Int64.toUInt64 63)).toInt64).toInt32) &&& 255 = byt x j := by
  unfold byt
  apply Int32.toBitVec_inj.1
  rw [Int32.toBitVec_and, Int64.toBitVec_toInt32, Int64.toBitVec_toInt32, Int64.toBitVec_and, Int64.toBitVec_shiftRight, sh1 j hj]
  rw [show ((x.toUInt64 >>> ((8 * I j).toInt64.toUInt64 &&& Int64.toUInt64 63)).toInt64).toBitVec = x.toBitVec >>> (BitVec.ofNat 64 (8 * j)) by rw [← sh2 j hj]; rfl]
  apply BitVec.eq_of_getLsbD_eq
  intro i hi
  rw [BitVec.signExtend_eq_setWidth_of_le _ (by decide), BitVec.signExtend_eq_setWidth_of_le _ (by decide), BitVec.getLsbD_and, BitVec.getLsbD_setWidth, BitVec.getLsbD_setWidth, BitVec.getLsbD_and]
  by_cases h8 : i < 8
  · have e := b255e h8
    rw [show Int32.toBitVec 255 = 255#32 from rfl, show Int64.toBitVec 255 = 255#64 from rfl, e.1, e.2, Bool.and_true, Bool.and_true]
    rw [BitVec.ushiftRight_eq', BitVec.getLsbD_ushiftRight, BitVec.sshiftRight_eq', BitVec.getLsbD_sshiftRight]
    have hs : (BitVec.ofNat 64 (8 * j)).toNat = 8 * j := by rw [BitVec.toNat_ofNat]; omega
    rw [hs, if_pos (by omega)]
    simp [show ¬ 64 ≤ i by omega]
  · rw [show Int32.toBitVec 255 = 255#32 from rfl, show Int64.toBitVec 255 = 255#64 from rfl, b255 (by omega), b255' (by omega)]
    simp
theorem byt_lt (x : Int64) (j : Nat) : ∃ k, k < 256 ∧ byt x j = I k := by
  unfold byt
  generalize x >>> ((8 * I j).toInt64 &&& 63) = y
  refine ⟨(y &&& 255).toInt32.toBitVec.toNat, ?_, ?_⟩
  · rw [Int64.toBitVec_toInt32, Int64.toBitVec_and, BitVec.signExtend_eq_setWidth_of_le _ (by decide), BitVec.toNat_setWidth, BitVec.toNat_and]
    have : y.toBitVec.toNat &&& (Int64.toBitVec 255).toNat ≤ 255 := Nat.and_le_right
    omega
  · apply Int32.toBitVec_inj.1
    show _ = BitVec.ofNat 32 _
    rw [BitVec.ofNat_toNat, BitVec.setWidth_eq]
theorem nar256 : ∀ k, k < 256 → vp_nar .char ((I k).toUInt32 % 65536).toInt32 = I k := by decide +kernel
theorem nar256' : ∀ k, k < 256 → vp_nar .char (I k) = I k := by decide +kernel
