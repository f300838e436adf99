/-! ===== how many bits ===== -/
theorem bu_sm : ∀ k : Fin 32, ((nI k.val).toUInt32 &&& Int32.toUInt32 31).toNat % 32 = k.val := by decide +kernel
theorem jushr_nat {a : Nat} (k : Nat) (ha : a < 2147483648) (hk : k < 32) : jushr (a : Int) (k : Int) = ((a / 2 ^ k : Nat) : Int) := by
  rw [jushr_def]
  have hx : a / 2 ^ k < 2147483648 := Nat.lt_of_le_of_lt (Nat.div_le_self _ _) ha
  have e : ((Int32.ofInt (a : Int)).toUInt32 >>> ((Int32.ofInt (k : Int)).toUInt32 &&& Int32.toUInt32 31)).toInt32 = nI (a / 2 ^ k) := by
    apply Int32.toBitVec_inj.1
    apply BitVec.eq_of_toNat_eq
    show ((nI a).toUInt32 >>> ((nI k).toUInt32 &&& Int32.toUInt32 31)).toNat = (BitVec.ofNat 32 (a / 2 ^ k)).toNat
    rw [UInt32.toNat_shiftRight, bu_sm ⟨k, hk⟩, BitVec.toNat_ofNat, Nat.mod_eq_of_lt (show a / 2 ^ k < 2 ^ 32 by omega)]
    show (BitVec.ofNat 32 a).toNat >>> k = _
    rw [BitVec.toNat_ofNat, Nat.mod_eq_of_lt (show a < 2 ^ 32 by omega), Nat.shiftRight_eq_div_pow]
  rw [e, nI_toInt hx]
def bcN (x : Nat) : Nat :=
  let a := x - ((x / 2) &&& 1431655765)
  let b := (a &&& 858993459) + ((a / 4) &&& 858993459)
  let c := (b + b / 16) &&& 252645135
  let d := c + c / 256
  (d + d / 65536) &&& 63
def bcC : Nat → Nat → Nat → Bool
  | 0, b, c => Nat.beq (bcN b) c
  | k + 1, b, c => bcC k (2 * b) c && bcC k (2 * b + 1) (c + 1)
theorem bcC_s (k b c : Nat) : bcC (k + 1) b c = (bcC k (2 * b) c && bcC k (2 * b + 1) (c + 1)) := rfl
theorem bcC_and {k b c : Nat} (h1 : bcC k (2 * b) c = true) (h2 : bcC k (2 * b + 1) (c + 1) = true) : bcC (k + 1) b c = true := by
  rw [bcC_s, h1, h2]; rfl
theorem bcC_ok : ∀ k b c, bcC k b c = true → ∀ y, y < 2 ^ k → bcN (2 ^ k * b + y) = c + cnt (fun i => y.testBit i) k
  | 0, b, c, h, y, hy => by
    have : y = 0 := by simpa using hy
    subst this
    have := Nat.eq_of_beq_eq_true h
    simpa [cnt] using this
  | k + 1, b, c, h, y, hy => by
    rw [bcC_s, Bool.and_eq_true] at h
    have e : 2 ^ (k + 1) = 2 * 2 ^ k := by rw [Nat.pow_succ, Nat.mul_comm]
    show _ = c + (cnt (fun i => y.testBit i) k + if y.testBit k = true then 1 else 0)
    by_cases hk : y < 2 ^ k
    · have := bcC_ok k (2 * b) c h.1 y hk
      rw [show 2 ^ (k + 1) * b + y = 2 ^ k * (2 * b) + y by rw [e, Nat.mul_comm 2, Nat.mul_assoc], this, if_neg (by rw [Nat.testBit_lt_two_pow hk]; decide), Nat.add_zero]
    · obtain ⟨z, rfl⟩ : ∃ z, y = 2 ^ k + z := ⟨y - 2 ^ k, by omega⟩
      have hz : z < 2 ^ k := by omega
      have := bcC_ok k (2 * b + 1) (c + 1) h.2 z hz
      have q : 2 ^ (k + 1) * b + (2 ^ k + z) = 2 ^ k * (2 * b + 1) + z := by rw [e, Nat.mul_comm 2, Nat.mul_assoc, Nat.mul_add, Nat.mul_one, Nat.add_assoc]
      rw [q, this, if_pos (by rw [Nat.testBit_two_pow_add_eq, Nat.testBit_lt_two_pow hz]; rfl), cnt_congr (q := fun i => z.testBit i) (fun i hi => Nat.testBit_two_pow_add_gt hi z)]
      omega
theorem bt_6_0 : bcC 11 0 0 = true := by decide +kernel
theorem bt_6_1 : bcC 11 1 1 = true := by decide +kernel
theorem bt_5_0 : bcC 12 0 0 = true := bcC_and (k := 11) bt_6_0 bt_6_1
theorem bt_6_2 : bcC 11 2 1 = true := by decide +kernel
theorem bt_6_3 : bcC 11 3 2 = true := by decide +kernel
theorem bt_5_1 : bcC 12 1 1 = true := bcC_and (k := 11) bt_6_2 bt_6_3
theorem bt_4_0 : bcC 13 0 0 = true := bcC_and (k := 12) bt_5_0 bt_5_1
theorem bt_6_4 : bcC 11 4 1 = true := by decide +kernel
theorem bt_6_5 : bcC 11 5 2 = true := by decide +kernel
theorem bt_5_2 : bcC 12 2 1 = true := bcC_and (k := 11) bt_6_4 bt_6_5
theorem bt_6_6 : bcC 11 6 2 = true := by decide +kernel
theorem bt_6_7 : bcC 11 7 3 = true := by decide +kernel
theorem bt_5_3 : bcC 12 3 2 = true := bcC_and (k := 11) bt_6_6 bt_6_7
theorem bt_4_1 : bcC 13 1 1 = true := bcC_and (k := 12) bt_5_2 bt_5_3
theorem bt_3_0 : bcC 14 0 0 = true := bcC_and (k := 13) bt_4_0 bt_4_1
theorem bt_6_8 : bcC 11 8 1 = true := by decide +kernel
theorem bt_6_9 : bcC 11 9 2 = true := by decide +kernel
theorem bt_5_4 : bcC 12 4 1 = true := bcC_and (k := 11) bt_6_8 bt_6_9
theorem bt_6_10 : bcC 11 10 2 = true := by decide +kernel
theorem bt_6_11 : bcC 11 11 3 = true := by decide +kernel
theorem bt_5_5 : bcC 12 5 2 = true := bcC_and (k := 11) bt_6_10 bt_6_11
theorem bt_4_2 : bcC 13 2 1 = true := bcC_and (k := 12) bt_5_4 bt_5_5
theorem bt_6_12 : bcC 11 12 2 = true := by decide +kernel
theorem bt_6_13 : bcC 11 13 3 = true := by decide +kernel
theorem bt_5_6 : bcC 12 6 2 = true := bcC_and (k := 11) bt_6_12 bt_6_13
theorem bt_6_14 : bcC 11 14 3 = true := by decide +kernel
theorem bt_6_15 : bcC 11 15 4 = true := by decide +kernel
theorem bt_5_7 : bcC 12 7 3 = true := bcC_and (k := 11) bt_6_14 bt_6_15
theorem bt_4_3 : bcC 13 3 2 = true := bcC_and (k := 12) bt_5_6 bt_5_7
theorem bt_3_1 : bcC 14 1 1 = true := bcC_and (k := 13) bt_4_2 bt_4_3
theorem bt_2_0 : bcC 15 0 0 = true := bcC_and (k := 14) bt_3_0 bt_3_1
theorem bt_6_16 : bcC 11 16 1 = true := by decide +kernel
theorem bt_6_17 : bcC 11 17 2 = true := by decide +kernel
theorem bt_5_8 : bcC 12 8 1 = true := bcC_and (k := 11) bt_6_16 bt_6_17
theorem bt_6_18 : bcC 11 18 2 = true := by decide +kernel
theorem bt_6_19 : bcC 11 19 3 = true := by decide +kernel
theorem bt_5_9 : bcC 12 9 2 = true := bcC_and (k := 11) bt_6_18 bt_6_19
theorem bt_4_4 : bcC 13 4 1 = true := bcC_and (k := 12) bt_5_8 bt_5_9
theorem bt_6_20 : bcC 11 20 2 = true := by decide +kernel
theorem bt_6_21 : bcC 11 21 3 = true := by decide +kernel
theorem bt_5_10 : bcC 12 10 2 = true := bcC_and (k := 11) bt_6_20 bt_6_21
theorem bt_6_22 : bcC 11 22 3 = true := by decide +kernel
theorem bt_6_23 : bcC 11 23 4 = true := by decide +kernel
theorem bt_5_11 : bcC 12 11 3 = true := bcC_and (k := 11) bt_6_22 bt_6_23
theorem bt_4_5 : bcC 13 5 2 = true := bcC_and (k := 12) bt_5_10 bt_5_11
theorem bt_3_2 : bcC 14 2 1 = true := bcC_and (k := 13) bt_4_4 bt_4_5
theorem bt_6_24 : bcC 11 24 2 = true := by decide +kernel
theorem bt_6_25 : bcC 11 25 3 = true := by decide +kernel
theorem bt_5_12 : bcC 12 12 2 = true := bcC_and (k := 11) bt_6_24 bt_6_25
theorem bt_6_26 : bcC 11 26 3 = true := by decide +kernel
theorem bt_6_27 : bcC 11 27 4 = true := by decide +kernel
theorem bt_5_13 : bcC 12 13 3 = true := bcC_and (k := 11) bt_6_26 bt_6_27
theorem bt_4_6 : bcC 13 6 2 = true := bcC_and (k := 12) bt_5_12 bt_5_13
theorem bt_6_28 : bcC 11 28 3 = true := by decide +kernel
theorem bt_6_29 : bcC 11 29 4 = true := by decide +kernel
theorem bt_5_14 : bcC 12 14 3 = true := bcC_and (k := 11) bt_6_28 bt_6_29
theorem bt_6_30 : bcC 11 30 4 = true := by decide +kernel
theorem bt_6_31 : bcC 11 31 5 = true := by decide +kernel
theorem bt_5_15 : bcC 12 15 4 = true := bcC_and (k := 11) bt_6_30 bt_6_31
theorem bt_4_7 : bcC 13 7 3 = true := bcC_and (k := 12) bt_5_14 bt_5_15
theorem bt_3_3 : bcC 14 3 2 = true := bcC_and (k := 13) bt_4_6 bt_4_7
theorem bt_2_1 : bcC 15 1 1 = true := bcC_and (k := 14) bt_3_2 bt_3_3
theorem bt_1_0 : bcC 16 0 0 = true := bcC_and (k := 15) bt_2_0 bt_2_1
theorem bt_6_32 : bcC 11 32 1 = true := by decide +kernel
theorem bt_6_33 : bcC 11 33 2 = true := by decide +kernel
theorem bt_5_16 : bcC 12 16 1 = true := bcC_and (k := 11) bt_6_32 bt_6_33
theorem bt_6_34 : bcC 11 34 2 = true := by decide +kernel
theorem bt_6_35 : bcC 11 35 3 = true := by decide +kernel
theorem bt_5_17 : bcC 12 17 2 = true := bcC_and (k := 11) bt_6_34 bt_6_35
theorem bt_4_8 : bcC 13 8 1 = true := bcC_and (k := 12) bt_5_16 bt_5_17
theorem bt_6_36 : bcC 11 36 2 = true := by decide +kernel
theorem bt_6_37 : bcC 11 37 3 = true := by decide +kernel
theorem bt_5_18 : bcC 12 18 2 = true := bcC_and (k := 11) bt_6_36 bt_6_37
theorem bt_6_38 : bcC 11 38 3 = true := by decide +kernel
theorem bt_6_39 : bcC 11 39 4 = true := by decide +kernel
theorem bt_5_19 : bcC 12 19 3 = true := bcC_and (k := 11) bt_6_38 bt_6_39
theorem bt_4_9 : bcC 13 9 2 = true := bcC_and (k := 12) bt_5_18 bt_5_19
theorem bt_3_4 : bcC 14 4 1 = true := bcC_and (k := 13) bt_4_8 bt_4_9
theorem bt_6_40 : bcC 11 40 2 = true := by decide +kernel
theorem bt_6_41 : bcC 11 41 3 = true := by decide +kernel
theorem bt_5_20 : bcC 12 20 2 = true := bcC_and (k := 11) bt_6_40 bt_6_41
theorem bt_6_42 : bcC 11 42 3 = true := by decide +kernel
theorem bt_6_43 : bcC 11 43 4 = true := by decide +kernel
theorem bt_5_21 : bcC 12 21 3 = true := bcC_and (k := 11) bt_6_42 bt_6_43
theorem bt_4_10 : bcC 13 10 2 = true := bcC_and (k := 12) bt_5_20 bt_5_21
theorem bt_6_44 : bcC 11 44 3 = true := by decide +kernel
theorem bt_6_45 : bcC 11 45 4 = true := by decide +kernel
theorem bt_5_22 : bcC 12 22 3 = true := bcC_and (k := 11) bt_6_44 bt_6_45
theorem bt_6_46 : bcC 11 46 4 = true := by decide +kernel
theorem bt_6_47 : bcC 11 47 5 = true := by decide +kernel
theorem bt_5_23 : bcC 12 23 4 = true := bcC_and (k := 11) bt_6_46 bt_6_47
theorem bt_4_11 : bcC 13 11 3 = true := bcC_and (k := 12) bt_5_22 bt_5_23
theorem bt_3_5 : bcC 14 5 2 = true := bcC_and (k := 13) bt_4_10 bt_4_11
theorem bt_2_2 : bcC 15 2 1 = true := bcC_and (k := 14) bt_3_4 bt_3_5
theorem bt_6_48 : bcC 11 48 2 = true := by decide +kernel
theorem bt_6_49 : bcC 11 49 3 = true := by decide +kernel
theorem bt_5_24 : bcC 12 24 2 = true := bcC_and (k := 11) bt_6_48 bt_6_49
theorem bt_6_50 : bcC 11 50 3 = true := by decide +kernel
theorem bt_6_51 : bcC 11 51 4 = true := by decide +kernel
theorem bt_5_25 : bcC 12 25 3 = true := bcC_and (k := 11) bt_6_50 bt_6_51
theorem bt_4_12 : bcC 13 12 2 = true := bcC_and (k := 12) bt_5_24 bt_5_25
theorem bt_6_52 : bcC 11 52 3 = true := by decide +kernel
theorem bt_6_53 : bcC 11 53 4 = true := by decide +kernel
theorem bt_5_26 : bcC 12 26 3 = true := bcC_and (k := 11) bt_6_52 bt_6_53
theorem bt_6_54 : bcC 11 54 4 = true := by decide +kernel
theorem bt_6_55 : bcC 11 55 5 = true := by decide +kernel
theorem bt_5_27 : bcC 12 27 4 = true := bcC_and (k := 11) bt_6_54 bt_6_55
theorem bt_4_13 : bcC 13 13 3 = true := bcC_and (k := 12) bt_5_26 bt_5_27
theorem bt_3_6 : bcC 14 6 2 = true := bcC_and (k := 13) bt_4_12 bt_4_13
theorem bt_6_56 : bcC 11 56 3 = true := by decide +kernel
theorem bt_6_57 : bcC 11 57 4 = true := by decide +kernel
theorem bt_5_28 : bcC 12 28 3 = true := bcC_and (k := 11) bt_6_56 bt_6_57
theorem bt_6_58 : bcC 11 58 4 = true := by decide +kernel
theorem bt_6_59 : bcC 11 59 5 = true := by decide +kernel
theorem bt_5_29 : bcC 12 29 4 = true := bcC_and (k := 11) bt_6_58 bt_6_59
theorem bt_4_14 : bcC 13 14 3 = true := bcC_and (k := 12) bt_5_28 bt_5_29
theorem bt_6_60 : bcC 11 60 4 = true := by decide +kernel
theorem bt_6_61 : bcC 11 61 5 = true := by decide +kernel
theorem bt_5_30 : bcC 12 30 4 = true := bcC_and (k := 11) bt_6_60 bt_6_61
theorem bt_6_62 : bcC 11 62 5 = true := by decide +kernel
theorem bt_6_63 : bcC 11 63 6 = true := by decide +kernel
theorem bt_5_31 : bcC 12 31 5 = true := bcC_and (k := 11) bt_6_62 bt_6_63
theorem bt_4_15 : bcC 13 15 4 = true := bcC_and (k := 12) bt_5_30 bt_5_31
theorem bt_3_7 : bcC 14 7 3 = true := bcC_and (k := 13) bt_4_14 bt_4_15
theorem bt_2_3 : bcC 15 3 2 = true := bcC_and (k := 14) bt_3_6 bt_3_7
theorem bt_1_1 : bcC 16 1 1 = true := bcC_and (k := 15) bt_2_2 bt_2_3
theorem bt_0_0 : bcC 17 0 0 = true := bcC_and (k := 16) bt_1_0 bt_1_1
