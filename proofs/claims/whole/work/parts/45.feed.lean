/-! ===== feed ===== -/
theorem kand_255 (z : Int) : kand z 255 = z % 256 := by
  unfold kand
  have h : (Int64.ofInt z &&& 255).toInt = ((Int64.ofInt z).toBitVec &&& 255#64).toInt := rfl
  show (Int64.ofInt z &&& 255).toInt = _
  rw [h]
  have h2 : ((Int64.ofInt z).toBitVec &&& 255#64) = BitVec.ofNat 64 ((BitVec.ofInt 64 z).toNat % 256) := by
    apply BitVec.eq_of_toNat_eq
    show ((BitVec.ofInt 64 z) &&& 255#64).toNat = _
    rw [BitVec.toNat_and, BitVec.toNat_ofNat, BitVec.toNat_ofNat]
    have : (255 % 2 ^ 64 : Nat) = 2 ^ 8 - 1 := rfl
    rw [this, Nat.and_two_pow_sub_one_eq_mod]
    omega
  rw [h2, BitVec.toInt_eq_toNat_of_lt (by rw [BitVec.toNat_ofNat]; omega), BitVec.toNat_ofNat, BitVec.toNat_ofInt]
  omega
