/-! bytes of a long -/
theorem b255 (n i : Nat) : (255#n).getLsbD i = (decide (i < n) && decide (i < 8)) := by
  rw [BitVec.getLsbD_ofNat, show (255 : Nat) = 2 ^ 8 - 1 from rfl, Nat.testBit_two_pow_sub_one]
theorem bv_byte (e : BitVec 64) (s : Nat) (hs : s ≤ 56) : BitVec.signExtend 32 (e.sshiftRight s &&& 255#64) = BitVec.signExtend 32 (BitVec.signExtend 8 (BitVec.signExtend 32 (e >>> s))) &&& 255#32 := by
  apply BitVec.eq_of_getLsbD_eq
  intro i hi
  simp only [BitVec.getLsbD_and, BitVec.getLsbD_signExtend, BitVec.getLsbD_sshiftRight, BitVec.getLsbD_ushiftRight, b255]
  by_cases c : i < 8
  · have c1 : i < 64 := by omega
    have c2 : i < 32 := by omega
    have c3 : s + i < 64 := by omega
    simp [c, c1, c2, c3]
  · have c1 : i < 64 := by omega
    simp [c, c1, hi]

theorem byte_0 (e : Int64) : ((e >>> ((8 * nI 0).toInt64 &&& 63)) &&& 255).toInt32 = ((e.toUInt64 >>> ((8 * nI 0).toInt64.toUInt64 &&& Int64.toUInt64 63)).toInt64.toInt32.toInt8.toInt32) &&& 255 := by
  apply Int32.toBitVec_inj.mp
  rw [Int64.toBitVec_toInt32, Int64.toBitVec_and, Int64.toBitVec_shiftRight, Int32.toBitVec_and, Int8.toBitVec_toInt32, Int32.toBitVec_toInt8, Int64.toBitVec_toInt32]
  exact bv_byte e.toBitVec 0 (by decide)
theorem byte_1 (e : Int64) : ((e >>> ((8 * nI 1).toInt64 &&& 63)) &&& 255).toInt32 = ((e.toUInt64 >>> ((8 * nI 1).toInt64.toUInt64 &&& Int64.toUInt64 63)).toInt64.toInt32.toInt8.toInt32) &&& 255 := by
  apply Int32.toBitVec_inj.mp
  rw [Int64.toBitVec_toInt32, Int64.toBitVec_and, Int64.toBitVec_shiftRight, Int32.toBitVec_and, Int8.toBitVec_toInt32, Int32.toBitVec_toInt8, Int64.toBitVec_toInt32]
  exact bv_byte e.toBitVec 8 (by decide)
theorem byte_2 (e : Int64) : ((e >>> ((8 * nI 2).toInt64 &&& 63)) &&& 255).toInt32 = ((e.toUInt64 >>> ((8 * nI 2).toInt64.toUInt64 &&& Int64.toUInt64 63)).toInt64.toInt32.toInt8.toInt32) &&& 255 := by
  apply Int32.toBitVec_inj.mp
  rw [Int64.toBitVec_toInt32, Int64.toBitVec_and, Int64.toBitVec_shiftRight, Int32.toBitVec_and, Int8.toBitVec_toInt32, Int32.toBitVec_toInt8, Int64.toBitVec_toInt32]
  exact bv_byte e.toBitVec 16 (by decide)
theorem byte_3 (e : Int64) : ((e >>> ((8 * nI 3).toInt64 &&& 63)) &&& 255).toInt32 = ((e.toUInt64 >>> ((8 * nI 3).toInt64.toUInt64 &&& Int64.toUInt64 63)).toInt64.toInt32.toInt8.toInt32) &&& 255 := by
  apply Int32.toBitVec_inj.mp
  rw [Int64.toBitVec_toInt32, Int64.toBitVec_and, Int64.toBitVec_shiftRight, Int32.toBitVec_and, Int8.toBitVec_toInt32, Int32.toBitVec_toInt8, Int64.toBitVec_toInt32]
  exact bv_byte e.toBitVec 24 (by decide)
theorem byte_4 (e : Int64) : ((e >>> ((8 * nI 4).toInt64 &&& 63)) &&& 255).toInt32 = ((e.toUInt64 >>> ((8 * nI 4).toInt64.toUInt64 &&& Int64.toUInt64 63)).toInt64.toInt32.toInt8.toInt32) &&& 255 := by
  apply Int32.toBitVec_inj.mp
  rw [Int64.toBitVec_toInt32, Int64.toBitVec_and, Int64.toBitVec_shiftRight, Int32.toBitVec_and, Int8.toBitVec_toInt32, Int32.toBitVec_toInt8, Int64.toBitVec_toInt32]
  exact bv_byte e.toBitVec 32 (by decide)
theorem byte_5 (e : Int64) : ((e >>> ((8 * nI 5).toInt64 &&& 63)) &&& 255).toInt32 = ((e.toUInt64 >>> ((8 * nI 5).toInt64.toUInt64 &&& Int64.toUInt64 63)).toInt64.toInt32.toInt8.toInt32) &&& 255 := by
  apply Int32.toBitVec_inj.mp
  rw [Int64.toBitVec_toInt32, Int64.toBitVec_and, Int64.toBitVec_shiftRight, Int32.toBitVec_and, Int8.toBitVec_toInt32, Int32.toBitVec_toInt8, Int64.toBitVec_toInt32]
  exact bv_byte e.toBitVec 40 (by decide)
theorem byte_6 (e : Int64) : ((e >>> ((8 * nI 6).toInt64 &&& 63)) &&& 255).toInt32 = ((e.toUInt64 >>> ((8 * nI 6).toInt64.toUInt64 &&& Int64.toUInt64 63)).toInt64.toInt32.toInt8.toInt32) &&& 255 := by
  apply Int32.toBitVec_inj.mp
  rw [Int64.toBitVec_toInt32, Int64.toBitVec_and, Int64.toBitVec_shiftRight, Int32.toBitVec_and, Int8.toBitVec_toInt32, Int32.toBitVec_toInt8, Int64.toBitVec_toInt32]
  exact bv_byte e.toBitVec 48 (by decide)
theorem byte_7 (e : Int64) : ((e >>> ((8 * nI 7).toInt64 &&& 63)) &&& 255).toInt32 = ((e.toUInt64 >>> ((8 * nI 7).toInt64.toUInt64 &&& Int64.toUInt64 63)).toInt64.toInt32.toInt8.toInt32) &&& 255 := by
  apply Int32.toBitVec_inj.mp
  rw [Int64.toBitVec_toInt32, Int64.toBitVec_and, Int64.toBitVec_shiftRight, Int32.toBitVec_and, Int8.toBitVec_toInt32, Int32.toBitVec_toInt8, Int64.toBitVec_toInt32]
  exact bv_byte e.toBitVec 56 (by decide)
theorem byte_eq (e : Int64) {k : Nat} (hk : k < 8) : ((e >>> ((8 * nI k).toInt64 &&& 63)) &&& 255).toInt32 = ((e.toUInt64 >>> ((8 * nI k).toInt64.toUInt64 &&& Int64.toUInt64 63)).toInt64.toInt32.toInt8.toInt32) &&& 255 := by
  match k, hk with
  | 0, _ => exact byte_0 e
  | 1, _ => exact byte_1 e
  | 2, _ => exact byte_2 e
  | 3, _ => exact byte_3 e
  | 4, _ => exact byte_4 e
  | 5, _ => exact byte_5 e
  | 6, _ => exact byte_6 e
  | 7, _ => exact byte_7 e
