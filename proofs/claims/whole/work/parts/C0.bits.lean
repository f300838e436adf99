/-! ===== bits of ints and longs below 2^30 (rows wb_tb .. pf_shr began as the kit's to-paste texts) ===== -/
theorem bi_xor (a b : Nat) : nI a ^^^ nI b = nI (a ^^^ b) := by
  apply Int32.toBitVec_inj.1
  show BitVec.ofNat 32 a ^^^ BitVec.ofNat 32 b = BitVec.ofNat 32 (a ^^^ b)
  apply BitVec.eq_of_getLsbD_eq
  intro i hi
  simp [hi]
theorem jxor_nat {a b : Nat} (ha : a < 2147483648) (hb : b < 2147483648) : jxor (a : Int) (b : Int) = ((a ^^^ b : Nat) : Int) := by
  rw [jxor_def]
  rw [ofI_cast, ofI_cast, bi_xor, nI_toInt]
  exact Nat.xor_lt_two_pow (n := 31) ha hb
theorem jshl_k {S k : Nat} (hk : k < 32) (h : S * 2 ^ k < 2147483648) : jshl (S : Int) (k : Int) = ((S * 2 ^ k : Nat) : Int) := by
  rw [jshl_def]
  rw [ofI_cast, ofI_cast, pk_shlN _ k (bi_sm ⟨k, hk⟩) (by omega), nI_toInt h]
theorem jshl_1 {S : Nat} (h : S < 1073741824) : jshl (S : Int) 1 = ((2 * S : Nat) : Int) := by
  rw [show (1 : Int) = ((1 : Nat) : Int) from rfl, jshl_k (by decide) (by omega)]
  congr 1; omega
theorem jm_2 : Int32.ofInt (-2) = nI 4294967294 := by decide
theorem jm_1 : jor 1 (-2) = -1 := by rw [jor_def]; decide
theorem jm_0 : jor 0 (-2) = -2 := by rw [jor_def]; decide
theorem jand_m1 {x : Nat} (h : x < 2147483648) : jand (x : Int) (-1) = (x : Int) := by
  rw [jand_def, ofI_cast]
  have : nI x &&& Int32.ofInt (-1) = nI x := by
    apply Int32.toBitVec_inj.1
    show BitVec.ofNat 32 x &&& BitVec.ofInt 32 (-1) = BitVec.ofNat 32 x
    rw [show BitVec.ofInt 32 (-1) = BitVec.allOnes 32 by decide, BitVec.and_allOnes]
  rw [this, nI_toInt h]
theorem and_m2 {x : Nat} (h : x < 2147483648) : x &&& 4294967294 = x / 2 * 2 := by
  have a : (x &&& 4294967294) / 2 = x / 2 := by
    rw [Nat.and_div_two, show 4294967294 / 2 = 2 ^ 31 - 1 by decide, Nat.and_two_pow_sub_one_eq_mod]
    exact Nat.mod_eq_of_lt (by omega)
  have b : (x &&& 4294967294) % 2 = 0 := by
    have := Nat.and_mod_two_pow (a := x) (b := 4294967294) (n := 1)
    rw [show (2 : Nat) ^ 1 = 2 by decide, show 4294967294 % 2 = 0 by decide, Nat.and_zero] at this
    exact this
  omega
theorem jand_m2 {x : Nat} (h : x < 2147483648) : jand (x : Int) (-2) = ((x / 2 * 2 : Nat) : Int) := by
  rw [jand_def, ofI_cast, jm_2, bi_and, and_m2 h, nI_toInt]
  omega
theorem jand_255 {x : Nat} (h : x < 2147483648) : jand (x : Int) 255 = ((x % 256 : Nat) : Int) := by
  rw [show (255 : Int) = ((255 : Nat) : Int) from rfl, jand_nat h, show 255 = 2 ^ 8 - 1 by decide, Nat.and_two_pow_sub_one_eq_mod]
/-! longs -/
theorem wb_tb (n : Nat) : (lN n).toBitVec = BitVec.ofNat 64 n := rfl
theorem wb_inj {a b : Int64} (h : a.toBitVec = b.toBitVec) : a = b := Int64.toBitVec_inj.mp h
theorem wb_c : ∀ k, k < 64 → ((nI k).toInt64 &&& 63) = lN k := by decide +kernel
theorem wb_sm : ∀ k, k < 64 → (BitVec.ofNat 64 k).smod 64 = BitVec.ofNat 64 k := by decide +kernel
theorem wb_shl (n : Nat) {k : Nat} (hk : k < 64) : lN n <<< ((nI k).toInt64 &&& 63) = lN (n * 2 ^ k) := by
  rw [wb_c k hk]
  apply wb_inj
  rw [Int64.toBitVec_shiftLeft, wb_tb, wb_tb, wb_tb, wb_sm k hk]
  apply BitVec.eq_of_toNat_eq
  rw [BitVec.shiftLeft_eq', BitVec.toNat_shiftLeft, BitVec.toNat_ofNat, BitVec.toNat_ofNat, BitVec.toNat_ofNat, Nat.mod_eq_of_lt (show k < 2 ^ 64 by omega), Nat.shiftLeft_eq, Nat.mul_mod, Nat.mod_mod, ← Nat.mul_mod]
theorem pf_shr {a d : Nat} {D : Int64} (hD : (D.toBitVec.smod 64).toNat = d) (h : a < 2147483648) : lN a >>> D = lN (a / 2 ^ d) := by
  have hd : a / 2 ^ d ≤ a := Nat.div_le_self _ _
  apply Int64.toInt_inj.mp
  have e : (lN a >>> D).toInt = (lN a).toInt >>> d := by
    rw [← hD]
    exact BitVec.toInt_sshiftRight ..
  rw [e, Int.shiftRight_eq_div_pow, lN_toInt (by omega), lN_toInt (by omega)]
  rfl
theorem ofL_cast (a : Nat) : Int64.ofInt (a : Int) = lN a := rfl
theorem bl_and (a b : Nat) : lN a &&& lN b = lN (a &&& b) := by
  apply Int64.toBitVec_inj.1
  show BitVec.ofNat 64 a &&& BitVec.ofNat 64 b = BitVec.ofNat 64 (a &&& b)
  apply BitVec.eq_of_getLsbD_eq
  intro i hi
  simp [hi]
theorem bl_or (a b : Nat) : lN a ||| lN b = lN (a ||| b) := by
  apply Int64.toBitVec_inj.1
  show BitVec.ofNat 64 a ||| BitVec.ofNat 64 b = BitVec.ofNat 64 (a ||| b)
  apply BitVec.eq_of_getLsbD_eq
  intro i hi
  simp [hi]
theorem bl_xor (a b : Nat) : lN a ^^^ lN b = lN (a ^^^ b) := by
  apply Int64.toBitVec_inj.1
  show BitVec.ofNat 64 a ^^^ BitVec.ofNat 64 b = BitVec.ofNat 64 (a ^^^ b)
  apply BitVec.eq_of_getLsbD_eq
  intro i hi
  simp [hi]
theorem kand_1 {a : Nat} (ha : a < 2147483648) : kand (a : Int) 1 = ((a % 2 : Nat) : Int) := by
  rw [show (1 : Int) = ((1 : Nat) : Int) from rfl, kand_def, ofL_cast, ofL_cast, bl_and, Nat.and_one_is_mod, lN_toInt]
  omega
theorem kor_nat {a b : Nat} (ha : a < 2147483648) (hb : b < 2147483648) : kor (a : Int) (b : Int) = ((a ||| b : Nat) : Int) := by
  rw [kor_def, ofL_cast, ofL_cast, bl_or, lN_toInt]
  exact Nat.or_lt_two_pow (n := 31) ha hb
theorem kxor_nat {a b : Nat} (ha : a < 2147483648) (hb : b < 2147483648) : kxor (a : Int) (b : Int) = ((a ^^^ b : Nat) : Int) := by
  rw [kxor_def, ofL_cast, ofL_cast, bl_xor, lN_toInt]
  exact Nat.xor_lt_two_pow (n := 31) ha hb
theorem kshl_1 {S : Nat} (h : S < 1073741824) : kshl (S : Int) 1 = ((2 * S : Nat) : Int) := by
  rw [show (1 : Int) = ((1 : Nat) : Int) from rfl, kshl_def, ofL_cast, ofI_cast, wb_shl S (by decide), lN_toInt (by omega)]
  congr 1; omega
theorem wb_d : ∀ k : Fin 4, (((nI k.val).toInt64 &&& 63).toBitVec.smod 64).toNat = k.val := by decide +kernel
theorem kshr_k {S k : Nat} (hk : k < 4) (h : S < 2147483648) : kshr (S : Int) (k : Int) = ((S / 2 ^ k : Nat) : Int) := by
  have hd : S / 2 ^ k ≤ S := Nat.div_le_self _ _
  rw [kshr_def, ofL_cast, ofI_cast, pf_shr (wb_d ⟨k, hk⟩) h, lN_toInt (Nat.lt_of_le_of_lt hd h)]
theorem kshr_1 {S : Nat} (h : S < 2147483648) : kshr (S : Int) 1 = ((S / 2 : Nat) : Int) := kshr_k (k := 1) (by decide) h
theorem kshr_2 {S : Nat} (h : S < 2147483648) : kshr (S : Int) 2 = ((S / 4 : Nat) : Int) := kshr_k (k := 2) (by decide) h
theorem jshr_1 {S : Nat} (h : S < 2147483648) : jshr (S : Int) 1 = ((S / 2 : Nat) : Int) := jshr_nat (k := 1) h (by decide)
