/-! bytes of a number -/
theorem i_byte8 (x : Int32) : (x &&& nI 255).toInt8 = x.toInt8 := by
  rw [Int32.toInt8_and, show (nI 255).toInt8 = -1 by decide, Int8.and_neg_one]
theorem i_byte (x : Int32) : ∃ b : Nat, b < 256 ∧ x &&& nI 255 = nI b ∧ x.toInt8.toInt32 = (nI b).toInt8.toInt32 := by
  have e : x &&& nI 255 = nI (x.toBitVec.toNat % 256) := by
    apply Int32.toBitVec_inj.1
    apply BitVec.eq_of_toNat_eq
    rw [Int32.toBitVec_and, BitVec.toNat_and, show (nI 255).toBitVec.toNat = 2 ^ 8 - 1 by decide, Nat.and_two_pow_sub_one_eq_mod]
    show _ = (BitVec.ofNat 32 (x.toBitVec.toNat % 256)).toNat
    rw [BitVec.toNat_ofNat]
    omega
  exact ⟨_, Nat.mod_lt _ (by decide), e, by rw [← e, i_byte8]⟩
theorem i_88 (x : Int32) : x.toInt8.toInt32.toInt8.toInt32 = x.toInt8.toInt32 := by rw [Int8.toInt8_toInt32]
