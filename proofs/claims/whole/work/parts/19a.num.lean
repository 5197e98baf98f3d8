/-! numbers below 2 ^ 31, as the machine computes with them -/
theorem y_mul (a b : Nat) : nI a * nI b = nI (a * b) := (Int32.ofNat_mul a b).symm
theorem y_sub {a b : Nat} (h : b ≤ a) : nI a - nI b = nI (a - b) := by
  have e : nI a = nI (a - b) + nI b := by rw [nI_add]; congr 1; omega
  rw [e, Int32.add_sub_cancel]
theorem y_div {a b : Nat} (ha : a < 2 ^ 31) (hb : b < 2 ^ 31) : nI a / nI b = nI (a / b) := by
  apply Int32.toInt_inj.mp
  have h1 : a / b < 2 ^ 31 := Nat.lt_of_le_of_lt (Nat.div_le_self a b) ha
  rw [Int32.toInt_div, nI_toInt ha, nI_toInt hb, nI_toInt h1]
  rw [show ((a : Int).tdiv (b : Int)) = ((a / b : Nat) : Int) from rfl]
  generalize a / b = q at h1 ⊢
  exact Int.bmod_eq_of_le (by omega) (by omega)
theorem y_rem {a b : Nat} (ha : a < 2 ^ 31) (hb : b < 2 ^ 31) : iRem (nI a) (nI b) = nI (a % b) := by
  unfold iRem
  rw [y_div ha hb, y_mul, y_sub (Nat.div_mul_le_self a b)]
  congr 1
  have := Nat.div_add_mod a b
  rw [Nat.mul_comm] at this
  omega
theorem nI_bv (a : Nat) : (nI a).toBitVec = BitVec.ofNat 32 a := rfl
theorem y_and {a b : Nat} : nI a &&& nI b = nI (a &&& b) := by
  apply Int32.toBitVec_inj.mp
  rw [Int32.toBitVec_and, nI_bv, nI_bv, nI_bv]
  apply BitVec.eq_of_toNat_eq
  rw [BitVec.toNat_and, BitVec.toNat_ofNat, BitVec.toNat_ofNat, BitVec.toNat_ofNat, Nat.and_mod_two_pow]
theorem y_or {a b : Nat} : nI a ||| nI b = nI (a ||| b) := by
  apply Int32.toBitVec_inj.mp
  rw [Int32.toBitVec_or, nI_bv, nI_bv, nI_bv]
  apply BitVec.eq_of_toNat_eq
  rw [BitVec.toNat_or, BitVec.toNat_ofNat, BitVec.toNat_ofNat, BitVec.toNat_ofNat, Nat.or_mod_two_pow]
theorem y_sm : ∀ k : Fin 32, (BitVec.ofNat 32 k.val).smod 32#32 = BitVec.ofNat 32 k.val := by decide +kernel
theorem y_k31 {k : Nat} (hk : k < 32) : nI k &&& 31 = nI k := by
  rw [show (31 : Int32) = nI 31 from rfl, y_and]
  congr 1
  rw [show (31 : Nat) = 2 ^ 5 - 1 from rfl, Nat.and_two_pow_sub_one_eq_mod]
  omega
theorem y_shl {a k : Nat} (hk : k < 32) : iShl (nI a) (nI k) = nI (a <<< k) := by
  unfold iShl
  apply Int32.toBitVec_inj.mp
  rw [y_k31 hk, Int32.toBitVec_shiftLeft, nI_bv, nI_bv, nI_bv]
  have e : (BitVec.ofNat 32 k).smod 32 = BitVec.ofNat 32 k := y_sm ⟨k, hk⟩
  rw [e]
  apply BitVec.eq_of_toNat_eq
  rw [BitVec.shiftLeft_eq', BitVec.toNat_shiftLeft, BitVec.toNat_ofNat, BitVec.toNat_ofNat, BitVec.toNat_ofNat, Nat.mod_eq_of_lt (by omega : k < 2 ^ 32), Nat.shiftLeft_eq, Nat.shiftLeft_eq, Nat.mod_mul_mod]
theorem y_shr {a k : Nat} (ha : a < 2 ^ 31) (hk : k < 32) : iShr (nI a) (nI k) = nI (a >>> k) := by
  unfold iShr
  rw [y_k31 hk]
  apply Int32.toInt_inj.mp
  have h1 : a >>> k < 2 ^ 31 := Nat.lt_of_le_of_lt (Nat.shiftRight_le a k) ha
  rw [nI_toInt h1]
  show ((nI a).toBitVec.sshiftRight ((nI k).toBitVec.smod 32).toNat).toInt = _
  rw [nI_bv k, show (BitVec.ofNat 32 k).smod 32 = BitVec.ofNat 32 k from y_sm ⟨k, hk⟩, BitVec.toInt_sshiftRight, BitVec.toNat_ofNat, Nat.mod_eq_of_lt (by omega : k < 2 ^ 32)]
  rw [show (nI a).toBitVec.toInt = (a : Int) from nI_toInt ha]
  rfl
