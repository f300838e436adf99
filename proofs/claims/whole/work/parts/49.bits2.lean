/-! ===== how many bits ===== -/
theorem bu_sm : ∀ k : Fin 32, ((nI k.val).toUInt32 &&& Int32.toUInt32 31).toNat % 32 = k.val := by decide +kernel
theorem jushr_nat {a : Nat} (k : Nat) (ha : a < 2147483648) (hk : k < 32) : jushr (a : Int) (k : Int) = ((a / 2 ^ k : Nat) : Int) := by
  unfold jushr
  have hx : a / 2 ^ k < 2147483648 := Nat.lt_of_le_of_lt (Nat.div_le_self _ _) ha
  have e : ((Int32.ofInt (a : Int)).toUInt32 >>> ((Int32.ofInt (k : Int)).toUInt32 &&& Int32.toUInt32 31)).toInt32 = nI (a / 2 ^ k) := by
    apply Int32.toBitVec_inj.1
    apply BitVec.eq_of_toNat_eq
    show ((nI a).toUInt32 >>> ((nI k).toUInt32 &&& Int32.toUInt32 31)).toNat = (BitVec.ofNat 32 (a / 2 ^ k)).toNat
    rw [UInt32.toNat_shiftRight, bu_sm ⟨k, hk⟩, BitVec.toNat_ofNat, Nat.mod_eq_of_lt (show a / 2 ^ k < 2 ^ 32 by omega)]
    show (BitVec.ofNat 32 a).toNat >>> k = _
    rw [BitVec.toNat_ofNat, Nat.mod_eq_of_lt (show a < 2 ^ 32 by omega), Nat.shiftRight_eq_div_pow]
  rw [e, nI_toInt hx]
def bcN (x : Nat) : Nat :=
  let a := x - ((x / 2) &&& 1431655765)
  let b := (a &&& 858993459) + ((a / 4) &&& 858993459)
  let c := (b + b / 16) &&& 252645135
  let d := c + c / 256
  (d + d / 65536) &&& 63
def bcC : Nat → Nat → Nat → Bool
  | 0, b, c => Nat.beq (bcN b) c
  | k + 1, b, c => bcC k (2 * b) c && bcC k (2 * b + 1) (c + 1)
theorem bcC_s (k b c : Nat) : bcC (k + 1) b c = (bcC k (2 * b) c && bcC k (2 * b + 1) (c + 1)) := rfl
theorem bcC_and {k b c : Nat} (h1 : bcC k (2 * b) c = true) (h2 : bcC k (2 * b + 1) (c + 1) = true) : bcC (k + 1) b c = true := by
  rw [bcC_s, h1, h2]; rfl
theorem bcC_ok : ∀ k b c, bcC k b c = true → ∀ y, y < 2 ^ k → bcN (2 ^ k * b + y) = c + cnt (fun i => y.testBit i) k
  | 0, b, c, h, y, hy => by
    have : y = 0 := by simpa using hy
    subst this
    have := Nat.eq_of_beq_eq_true h
    simpa [cnt] using this
  | k + 1, b, c, h, y, hy => by
    rw [bcC_s, Bool.and_eq_true] at h
    have e : 2 ^ (k + 1) = 2 * 2 ^ k := by rw [Nat.pow_succ, Nat.mul_comm]
    show _ = c + (cnt (fun i => y.testBit i) k + if y.testBit k = true then 1 else 0)
    by_cases hk : y < 2 ^ k
    · have := bcC_ok k (2 * b) c h.1 y hk
      rw [show 2 ^ (k + 1) * b + y = 2 ^ k * (2 * b) + y by rw [e, Nat.mul_comm 2, Nat.mul_assoc], this, if_neg (by rw [Nat.testBit_lt_two_pow hk]; decide), Nat.add_zero]
    · obtain ⟨z, rfl⟩ : ∃ z, y = 2 ^ k + z := ⟨y - 2 ^ k, by omega⟩
      have hz : z < 2 ^ k := by omega
      have := bcC_ok k (2 * b + 1) (c + 1) h.2 z hz
      have q : 2 ^ (k + 1) * b + (2 ^ k + z) = 2 ^ k * (2 * b + 1) + z := by rw [e, Nat.mul_comm 2, Nat.mul_assoc, Nat.mul_add, Nat.mul_one, Nat.add_assoc]
      rw [q, this, if_pos (by rw [Nat.testBit_two_pow_add_eq, Nat.testBit_lt_two_pow hz]; rfl), cnt_congr (q := fun i => z.testBit i) (fun i hi => Nat.testBit_two_pow_add_gt hi z)]
      omega
theorem bt_6_0 : bcC 11 0 0 = true := by decide +kernel
theorem bt_6_1 : bcC 11 1 1 = true := by decide +kernel
theorem bt_5_0 : bcC 12 0 0 = true := bcC_and (k := 11) bt_6_0 bt_6_1
theorem bt_6_2 : bcC 11 2 1 = true := by decide +kernel
theorem bt_6_3 : bcC 11 3 2 = true := by decide +kernel
theorem bt_5_1 : bcC 12 1 1 = true := bcC_and (k := 11) bt_6_2 bt_6_3
theorem bt_4_0 : bcC 13 0 0 = true := bcC_and (k := 12) bt_5_0 bt_5_1
theorem bt_6_4 : bcC 11 4 1 = true := by decide +kernel
theorem bt_6_5 : bcC 11 5 2 = true := by decide +kernel
theorem bt_5_2 : bcC 12 2 1 = true := bcC_and (k := 11) bt_6_4 bt_6_5
theorem bt_6_6 : bcC 11 6 2 = true := by decide +kernel
theorem bt_6_7 : bcC 11 7 3 = true := by decide +kernel
theorem bt_5_3 : bcC 12 3 2 = true := bcC_and (k := 11) bt_6_6 bt_6_7
theorem bt_4_1 : bcC 13 1 1 = true := bcC_and (k := 12) bt_5_2 bt_5_3
theorem bt_3_0 : bcC 14 0 0 = true := bcC_and (k := 13) bt_4_0 bt_4_1
theorem bt_6_8 : bcC 11 8 1 = true := by decide +kernel
theorem bt_6_9 : bcC 11 9 2 = true := by decide +kernel
theorem bt_5_4 : bcC 12 4 1 = true := bcC_and (k := 11) bt_6_8 bt_6_9
theorem bt_6_10 : bcC 11 10 2 = true := by decide +kernel
theorem bt_6_11 : bcC 11 11 3 = true := by decide +kernel
theorem bt_5_5 : bcC 12 5 2 = true := bcC_and (k := 11) bt_6_10 bt_6_11
theorem bt_4_2 : bcC 13 2 1 = true := bcC_and (k := 12) bt_5_4 bt_5_5
theorem bt_6_12 : bcC 11 12 2 = true := by decide +kernel
theorem bt_6_13 : bcC 11 13 3 = true := by decide +kernel
theorem bt_5_6 : bcC 12 6 2 = true := bcC_and (k := 11) bt_6_12 bt_6_13
theorem bt_6_14 : bcC 11 14 3 = true := by decide +kernel
theorem bt_6_15 : bcC 11 15 4 = true := by decide +kernel
theorem bt_5_7 : bcC 12 7 3 = true := bcC_and (k := 11) bt_6_14 bt_6_15
theorem bt_4_3 : bcC 13 3 2 = true := bcC_and (k := 12) bt_5_6 bt_5_7
theorem bt_3_1 : bcC 14 1 1 = true := bcC_and (k := 13) bt_4_2 bt_4_3
theorem bt_2_0 : bcC 15 0 0 = true := bcC_and (k := 14) bt_3_0 bt_3_1
theorem bt_6_16 : bcC 11 16 1 = true := by decide +kernel
theorem bt_6_17 : bcC 11 17 2 = true := by decide +kernel
theorem bt_5_8 : bcC 12 8 1 = true := bcC_and (k := 11) bt_6_16 bt_6_17
theorem bt_6_18 : bcC 11 18 2 = true := by decide +kernel
theorem bt_6_19 : bcC 11 19 3 = true := by decide +kernel
theorem bt_5_9 : bcC 12 9 2 = true := bcC_and (k := 11) bt_6_18 bt_6_19
theorem bt_4_4 : bcC 13 4 1 = true := bcC_and (k := 12) bt_5_8 bt_5_9
theorem bt_6_20 : bcC 11 20 2 = true := by decide +kernel
theorem bt_6_21 : bcC 11 21 3 = true := by decide +kernel
theorem bt_5_10 : bcC 12 10 2 = true := bcC_and (k := 11) bt_6_20 bt_6_21
theorem bt_6_22 : bcC 11 22 3 = true := by decide +kernel
theorem bt_6_23 : bcC 11 23 4 = true := by decide +kernel
theorem bt_5_11 : bcC 12 11 3 = true := bcC_and (k := 11) bt_6_22 bt_6_23
theorem bt_4_5 : bcC 13 5 2 = true := bcC_and (k := 12) bt_5_10 bt_5_11
theorem bt_3_2 : bcC 14 2 1 = true := bcC_and (k := 13) bt_4_4 bt_4_5
theorem bt_6_24 : bcC 11 24 2 = true := by decide +kernel
theorem bt_6_25 : bcC 11 25 3 = true := by decide +kernel
theorem bt_5_12 : bcC 12 12 2 = true := bcC_and (k := 11) bt_6_24 bt_6_25
theorem bt_6_26 : bcC 11 26 3 = true := by decide +kernel
theorem bt_6_27 : bcC 11 27 4 = true := by decide +kernel
theorem bt_5_13 : bcC 12 13 3 = true := bcC_and (k := 11) bt_6_26 bt_6_27
theorem bt_4_6 : bcC 13 6 2 = true := bcC_and (k := 12) bt_5_12 bt_5_13
theorem bt_6_28 : bcC 11 28 3 = true := by decide +kernel
theorem bt_6_29 : bcC 11 29 4 = true := by decide +kernel
theorem bt_5_14 : bcC 12 14 3 = true := bcC_and (k := 11) bt_6_28 bt_6_29
theorem bt_6_30 : bcC 11 30 4 = true := by decide +kernel
theorem bt_6_31 : bcC 11 31 5 = true := by decide +kernel
theorem bt_5_15 : bcC 12 15 4 = true := bcC_and (k := 11) bt_6_30 bt_6_31
theorem bt_4_7 : bcC 13 7 3 = true := bcC_and (k := 12) bt_5_14 bt_5_15
theorem bt_3_3 : bcC 14 3 2 = true := bcC_and (k := 13) bt_4_6 bt_4_7
theorem bt_2_1 : bcC 15 1 1 = true := bcC_and (k := 14) bt_3_2 bt_3_3
theorem bt_1_0 : bcC 16 0 0 = true := bcC_and (k := 15) bt_2_0 bt_2_1
theorem bt_6_32 : bcC 11 32 1 = true := by decide +kernel
theorem bt_6_33 : bcC 11 33 2 = true := by decide +kernel
theorem bt_5_16 : bcC 12 16 1 = true := bcC_and (k := 11) bt_6_32 bt_6_33
theorem bt_6_34 : bcC 11 34 2 = true := by decide +kernel
theorem bt_6_35 : bcC 11 35 3 = true := by decide +kernel
theorem bt_5_17 : bcC 12 17 2 = true := bcC_and (k := 11) bt_6_34 bt_6_35
theorem bt_4_8 : bcC 13 8 1 = true := bcC_and (k := 12) bt_5_16 bt_5_17
theorem bt_6_36 : bcC 11 36 2 = true := by decide +kernel
theorem bt_6_37 : bcC 11 37 3 = true := by decide +kernel
theorem bt_5_18 : bcC 12 18 2 = true := bcC_and (k := 11) bt_6_36 bt_6_37
theorem bt_6_38 : bcC 11 38 3 = true := by decide +kernel
theorem bt_6_39 : bcC 11 39 4 = true := by decide +kernel
theorem bt_5_19 : bcC 12 19 3 = true := bcC_and (k := 11) bt_6_38 bt_6_39
theorem bt_4_9 : bcC 13 9 2 = true := bcC_and (k := 12) bt_5_18 bt_5_19
theorem bt_3_4 : bcC 14 4 1 = true := bcC_and (k := 13) bt_4_8 bt_4_9
theorem bt_6_40 : bcC 11 40 2 = true := by decide +kernel
theorem bt_6_41 : bcC 11 41 3 = true := by decide +kernel
theorem bt_5_20 : bcC 12 20 2 = true := bcC_and (k := 11) bt_6_40 bt_6_41
theorem bt_6_42 : bcC 11 42 3 = true := by decide +kernel
theorem bt_6_43 : bcC 11 43 4 = true := by decide +kernel
theorem bt_5_21 : bcC 12 21 3 = true := bcC_and (k := 11) bt_6_42 bt_6_43
theorem bt_4_10 : bcC 13 10 2 = true := bcC_and (k := 12) bt_5_20 bt_5_21
theorem bt_6_44 : bcC 11 44 3 = true := by decide +kernel
theorem bt_6_45 : bcC 11 45 4 = true := by decide +kernel
theorem bt_5_22 : bcC 12 22 3 = true := bcC_and (k := 11) bt_6_44 bt_6_45
theorem bt_6_46 : bcC 11 46 4 = true := by decide +kernel
theorem bt_6_47 : bcC 11 47 5 = true := by decide +kernel
theorem bt_5_23 : bcC 12 23 4 = true := bcC_and (k := 11) bt_6_46 bt_6_47
theorem bt_4_11 : bcC 13 11 3 = true := bcC_and (k := 12) bt_5_22 bt_5_23
theorem bt_3_5 : bcC 14 5 2 = true := bcC_and (k := 13) bt_4_10 bt_4_11
theorem bt_2_2 : bcC 15 2 1 = true := bcC_and (k := 14) bt_3_4 bt_3_5
theorem bt_6_48 : bcC 11 48 2 = true := by decide +kernel
theorem bt_6_49 : bcC 11 49 3 = true := by decide +kernel
theorem bt_5_24 : bcC 12 24 2 = true := bcC_and (k := 11) bt_6_48 bt_6_49
theorem bt_6_50 : bcC 11 50 3 = true := by decide +kernel
theorem bt_6_51 : bcC 11 51 4 = true := by decide +kernel
theorem bt_5_25 : bcC 12 25 3 = true := bcC_and (k := 11) bt_6_50 bt_6_51
theorem bt_4_12 : bcC 13 12 2 = true := bcC_and (k := 12) bt_5_24 bt_5_25
theorem bt_6_52 : bcC 11 52 3 = true := by decide +kernel
theorem bt_6_53 : bcC 11 53 4 = true := by decide +kernel
theorem bt_5_26 : bcC 12 26 3 = true := bcC_and (k := 11) bt_6_52 bt_6_53
theorem bt_6_54 : bcC 11 54 4 = true := by decide +kernel
theorem bt_6_55 : bcC 11 55 5 = true := by decide +kernel
theorem bt_5_27 : bcC 12 27 4 = true := bcC_and (k := 11) bt_6_54 bt_6_55
theorem bt_4_13 : bcC 13 13 3 = true := bcC_and (k := 12) bt_5_26 bt_5_27
theorem bt_3_6 : bcC 14 6 2 = true := bcC_and (k := 13) bt_4_12 bt_4_13
theorem bt_6_56 : bcC 11 56 3 = true := by decide +kernel
theorem bt_6_57 : bcC 11 57 4 = true := by decide +kernel
theorem bt_5_28 : bcC 12 28 3 = true := bcC_and (k := 11) bt_6_56 bt_6_57
theorem bt_6_58 : bcC 11 58 4 = true := by decide +kernel
theorem bt_6_59 : bcC 11 59 5 = true := by decide +kernel
theorem bt_5_29 : bcC 12 29 4 = true := bcC_and (k := 11) bt_6_58 bt_6_59
theorem bt_4_14 : bcC 13 14 3 = true := bcC_and (k := 12) bt_5_28 bt_5_29
theorem bt_6_60 : bcC 11 60 4 = true := by decide +kernel
theorem bt_6_61 : bcC 11 61 5 = true := by decide +kernel
theorem bt_5_30 : bcC 12 30 4 = true := bcC_and (k := 11) bt_6_60 bt_6_61
theorem bt_6_62 : bcC 11 62 5 = true := by decide +kernel
theorem bt_6_63 : bcC 11 63 6 = true := by decide +kernel
theorem bt_5_31 : bcC 12 31 5 = true := bcC_and (k := 11) bt_6_62 bt_6_63
theorem bt_4_15 : bcC 13 15 4 = true := bcC_and (k := 12) bt_5_30 bt_5_31
theorem bt_3_7 : bcC 14 7 3 = true := bcC_and (k := 13) bt_4_14 bt_4_15
theorem bt_2_3 : bcC 15 3 2 = true := bcC_and (k := 14) bt_3_6 bt_3_7
theorem bt_1_1 : bcC 16 1 1 = true := bcC_and (k := 15) bt_2_2 bt_2_3
theorem bt_0_0 : bcC 17 0 0 = true := bcC_and (k := 16) bt_1_0 bt_1_1
def pop (x : Nat) : Nat := cnt (fun i => x.testBit i) 17
theorem bcN_pop {x : Nat} (hx : x < 131072) : bcN x = pop x := by
  have := bcC_ok 17 0 0 bt_0_0 x hx
  simpa [pop] using this
theorem sp_bitCount (n x : Nat) (hx : x < 131072) (m : bM) : sem (n + 1) 129 [aI (x : Int)] m = some (m, (pop x : Int)) := by
  have c1 : (1431655765 : Int) = ((1431655765 : Nat) : Int) := rfl
  have c2 : (858993459 : Int) = ((858993459 : Nat) : Int) := rfl
  have c3 : (252645135 : Int) = ((252645135 : Nat) : Int) := rfl
  have c4 : (63 : Int) = ((63 : Nat) : Int) := rfl
  have u1 := jushr_nat (a := x) 1 (by omega) (by decide)
  have l1 : x / 2 ^ 1 &&& 1431655765 ≤ x := Nat.le_trans Nat.and_le_left (Nat.div_le_self _ _)
  obtain ⟨a, ha⟩ : ∃ a, a = x - (x / 2 ^ 1 &&& 1431655765) := ⟨_, rfl⟩
  have e1 : i32 ((x : Int) - ((x / 2 ^ 1 &&& 1431655765 : Nat) : Int)) = (a : Int) := by rw [i32_of (by omega) (by omega)]; omega
  have la : a < 131072 := by omega
  have u2 := jushr_nat (a := a) 2 (by omega) (by decide)
  have l2 : a &&& 858993459 ≤ a := Nat.and_le_left
  have l3 : a / 2 ^ 2 &&& 858993459 ≤ a := Nat.le_trans Nat.and_le_left (Nat.div_le_self _ _)
  obtain ⟨b, hb⟩ : ∃ b, b = (a &&& 858993459) + (a / 2 ^ 2 &&& 858993459) := ⟨_, rfl⟩
  have e2 : i32 (((a &&& 858993459 : Nat) : Int) + ((a / 2 ^ 2 &&& 858993459 : Nat) : Int)) = (b : Int) := by rw [i32_of (by omega) (by omega)]; omega
  have lb : b < 262144 := by omega
  have u3 := jushr_nat (a := b) 4 (by omega) (by decide)
  have l4 : b / 2 ^ 4 ≤ b := Nat.div_le_self _ _
  have e3 : i32 ((b : Int) + ((b / 2 ^ 4 : Nat) : Int)) = ((b + b / 2 ^ 4 : Nat) : Int) := by rw [i32_of (by omega) (by omega)]; omega
  have l5 : (b + b / 2 ^ 4) &&& 252645135 ≤ b + b / 2 ^ 4 := Nat.and_le_left
  obtain ⟨c, hc⟩ : ∃ c, c = (b + b / 2 ^ 4) &&& 252645135 := ⟨_, rfl⟩
  have lc : c < 1048576 := by omega
  have u4 := jushr_nat (a := c) 8 (by omega) (by decide)
  have l6 : c / 2 ^ 8 ≤ c := Nat.div_le_self _ _
  have e4 : i32 ((c : Int) + ((c / 2 ^ 8 : Nat) : Int)) = ((c + c / 2 ^ 8 : Nat) : Int) := by rw [i32_of (by omega) (by omega)]; omega
  obtain ⟨d, hd⟩ : ∃ d, d = c + c / 2 ^ 8 := ⟨_, rfl⟩
  have ld : d < 2097152 := by omega
  have u5 := jushr_nat (a := d) 16 (by omega) (by decide)
  have l7 : d / 2 ^ 16 ≤ d := Nat.div_le_self _ _
  have e5 : i32 ((d : Int) + ((d / 2 ^ 16 : Nat) : Int)) = ((d + d / 2 ^ 16 : Nat) : Int) := by rw [i32_of (by omega) (by omega)]; omega
  have q1 : jand ((x / 2 ^ 1 : Nat) : Int) 1431655765 = ((x / 2 ^ 1 &&& 1431655765 : Nat) : Int) := jand_nat (b := 1431655765) (Nat.lt_of_le_of_lt (Nat.div_le_self _ _) (by omega))
  have q2 : jand (a : Int) 858993459 = ((a &&& 858993459 : Nat) : Int) := jand_nat (b := 858993459) (by omega)
  have q3 : jand ((a / 2 ^ 2 : Nat) : Int) 858993459 = ((a / 2 ^ 2 &&& 858993459 : Nat) : Int) := jand_nat (b := 858993459) (Nat.lt_of_le_of_lt (Nat.div_le_self _ _) (by omega))
  have q4 : jand ((b + b / 2 ^ 4 : Nat) : Int) 252645135 = (c : Int) := by rw [hc]; exact jand_nat (b := 252645135) (by omega)
  have q5 : jand ((d + d / 2 ^ 16 : Nat) : Int) 63 = ((d + d / 2 ^ 16 &&& 63 : Nat) : Int) := jand_nat (b := 63) (by omega)
  have hpop : bcN x = (d + d / 2 ^ 16 &&& 63) := by rw [hd, hc, hb, ha]; rfl
  rw [bcN_pop hx] at hpop
  rw [hpop, st_bitCount]
  have u1' : jushr (x : Int) 1 = _ := u1
  have u2' : jushr (a : Int) 2 = _ := u2
  have u3' : jushr (b : Int) 4 = _ := u3
  have u4' : jushr (c : Int) 8 = _ := u4
  have u5' : jushr (d : Int) 16 = _ := u5
  rw [← hd] at e4
  simp only [B_bitCount, kr_bitCount, u1', q1, e1, u2', q2, q3, e2, u3', e3, q4, u4', e4, u5', e5, q5, d_rLoc1, d_rLoc2, d_rFld1, d_rFld2, d_eInt, d_eLdc, d_eLdw, d_eLoc, d_eFld, d_lFld, d_eAI, d_eAZ, d_eAB, d_lAL, d_eAD, d_eLen, d_eAdd, d_eSub, d_eMul, d_eAnd, d_eOr, d_eXor, d_eShl, d_eShr, d_eUsh, d_lAdd, d_lSub, d_lMul, d_lAnd, d_lOr, d_lXor, d_lShl, d_lShr, d_eDiv, d_eRem, d_eCmp, d_eI2B, d_eI2S, d_eL2I, d_lI2L, d_lInt, d_lLdc, d_lLoc, d_eIte, d_lIte, d_eMax, d_eMin, d_eAbs, d_eAbove, d_eBodies, d_cQ, d_cZ, d_cNot, d_cAnd, d_cOr, d_gNil, d_gI, d_gL, d_gR, d_gD, d_xV, d_xS, d_xN, d_xT, d_eCall, d_lCall, d_eCallC, d_sNop, d_sSet, d_sSetL, d_sSetR, d_sSetQ, d_sInc, d_sPutI, d_sPutZ, d_sPutL, d_sPutA, d_sPutAZ, d_sPutAB, d_sPutAL, d_sPutD, d_sOpF, d_sOpA, d_sCall, d_sCopy, d_sSeq, d_sIf, d_sBrk, d_sCnt, d_sRetV, d_sRet, d_sRetL, d_sLp, d_tDef, d_tCase, d_sSw, d_sSwB, bIt_d, itb_0, itb_1, itb_2, itb_r, its_0, sqk_0, sqk_1, sqk_2, sqk_r, swk_0, swk_1, swk_r, bfin_r, bfin_ite, Option.bind_some, Option.map_some, Option.bind_none, Option.map_none, bind_ite, map_ite, cop0, cop1, cop2, cop3, cop4, cop5, opv0, opv1, opv2, opv3, brc_i, brc_z, two_ne_one, false_or, getI, getR, getL, List.getElem?_cons_zero, List.getElem?_cons_succ, List.set_cons_zero, List.set_cons_succ, bnl, if_true, if_false, true_or, or_true, decide_eq_true_eq, Bool.not_eq_true', decide_eq_false_iff_not, Bool.not_true, Bool.not_false, Bool.true_eq_false, Bool.false_eq_true, ite_not, reduceIte, ite01_0, ite01_1, Decidable.not_not, ne_eq, not_true_eq_false, not_false_eq_true, Function.comp_apply, decide_not, Bool.not_not, Bool.not_eq_false']
/-! the other way: the lowest goes, one by one -/
theorem cnt_add (p : Nat → Bool) (a : Nat) : ∀ b, cnt p (a + b) = cnt p a + cnt (fun i => p (a + i)) b
  | 0 => rfl
  | b + 1 => by
    show cnt p (a + b) + (if p (a + b) = true then 1 else 0) = cnt p a + (cnt (fun i => p (a + i)) b + if p (a + b) = true then 1 else 0)
    rw [cnt_add p a b]; omega
theorem pop_s (x n : Nat) : cnt (fun i => x.testBit i) (n + 1) = x % 2 + cnt (fun i => (x / 2).testBit i) n := by
  rw [Nat.add_comm n 1, cnt_add]
  have e1 : cnt (fun i => x.testBit i) 1 = x % 2 := by
    show 0 + (if x.testBit 0 = true then 1 else 0) = x % 2
    rw [Nat.testBit_zero]
    rcases Nat.mod_two_eq_zero_or_one x with h | h <;> simp [h]
  rw [e1]
  congr 1
  exact cnt_congr (fun i _ => by rw [Nat.add_comm 1 i]; exact Nat.testBit_succ x i)
theorem and_ev {y : Nat} (h : 0 < y) : (2 * y) &&& (2 * y - 1) = 2 * (y &&& (y - 1)) := by
  have a1 : ((2 * y) &&& (2 * y - 1)) / 2 = y &&& (y - 1) := by
    rw [Nat.and_div_two, show 2 * y / 2 = y by omega, show (2 * y - 1) / 2 = y - 1 by omega]
  have a2 : ((2 * y) &&& (2 * y - 1)) % 2 ≠ 1 := by rw [Ne, Nat.and_mod_two_eq_one]; omega
  omega
theorem and_od (y : Nat) : (2 * y + 1) &&& (2 * y + 1 - 1) = 2 * y := by
  have a1 : ((2 * y + 1) &&& (2 * y + 1 - 1)) / 2 = y := by
    rw [Nat.and_div_two, show (2 * y + 1) / 2 = y by omega, show (2 * y + 1 - 1) / 2 = y by omega, Nat.and_self]
  have a2 : ((2 * y + 1) &&& (2 * y + 1 - 1)) % 2 ≠ 1 := by rw [Ne, Nat.and_mod_two_eq_one]; omega
  omega
theorem pop_dec : ∀ n x, x < 2 ^ n → 0 < x → cnt (fun i => x.testBit i) n = cnt (fun i => (x &&& (x - 1)).testBit i) n + 1
  | 0, x, h, h0 => by omega
  | n + 1, x, h, h0 => by
    rw [pop_s, pop_s]
    have hx : x / 2 < 2 ^ n := by rw [Nat.pow_succ] at h; omega
    rcases Nat.mod_two_eq_zero_or_one x with h1 | h1
    · obtain ⟨y, rfl⟩ : ∃ y, x = 2 * y := ⟨x / 2, by omega⟩
      rw [and_ev (by omega), show 2 * (y &&& (y - 1)) % 2 = 0 by omega, show 2 * (y &&& (y - 1)) / 2 = y &&& (y - 1) by omega, show 2 * y / 2 = y by omega, pop_dec n y (by omega) (by omega)]
      omega
    · obtain ⟨y, rfl⟩ : ∃ y, x = 2 * y + 1 := ⟨x / 2, by omega⟩
      rw [and_od, show (2 * y + 1) / 2 = y by omega, show 2 * y / 2 = y by omega, show 2 * y % 2 = 0 by omega, h1]
      omega
theorem pop_0 : ∀ n x, x < 2 ^ n → cnt (fun i => x.testBit i) n = 0 → x = 0
  | 0, x, h, _ => by simpa using h
  | n + 1, x, h, h0 => by
    rw [pop_s] at h0
    have := pop_0 n (x / 2) (by rw [Nat.pow_succ] at h; omega) (by omega)
    omega
def lft (x : Nat) : Nat → Nat
  | 0 => x
  | k + 1 => lft x k &&& (lft x k - 1)
theorem lft_le (x : Nat) : ∀ k, lft x k ≤ x
  | 0 => Nat.le_refl _
  | k + 1 => Nat.le_trans Nat.and_le_left (lft_le x k)
theorem lft_pop {x : Nat} (hx : x < 131072) : ∀ k, k ≤ pop x → pop (lft x k) + k = pop x
  | 0, _ => rfl
  | k + 1, h => by
    have ih := lft_pop hx k (by omega)
    have hl := lft_le x k
    have h0 : 0 < lft x k := by
      rcases Nat.eq_zero_or_pos (lft x k) with h1 | h1
      · rw [h1] at ih
        have : pop 0 = 0 := cnt_0 (fun k _ => Nat.zero_testBit k)
        omega
      · exact h1
    have := pop_dec 17 (lft x k) (by omega) h0
    have e : pop (lft x k) = pop (lft x (k + 1)) + 1 := this
    omega
theorem sp_ones (n x : Nat) (hx : x < 131072) (m : bM) : sem (n + 1) 234 [aI (x : Int)] m = some (m, (pop x : Int)) := by
  have hp : pop x ≤ 17 := cnt_le _ _
  have hl : L_M_ones_1.1.2 (sem n) [some (aI (x : Int)), some (aI 0), some (aI (x : Int))] m = some (.inl (0, [some (aI (x : Int)), some (aI (pop x : Int)), some (aI 0)], m)) := by
    unfold L_M_ones_1
    rw [d_sLp]
    refine lp_out (fun k => [some (aI (x : Int)), some (aI (k : Int)), some (aI (lft x k : Int))]) (fun _ => m) (pop x) (by omega) (fun k hk => ?_) ?_
    · have h1 := lft_pop hx k (by omega)
      have h2 := lft_le x k
      have h3 : lft x k ≠ 0 := by
        intro h3
        rw [h3] at h1
        have : pop 0 = 0 := cnt_0 (fun k _ => Nat.zero_testBit k)
        omega
      have h4 : ¬ (lft x k : Int) = 0 := by omega
      have e2 : i32 ((k : Int) + 1) = ((k + 1 : Nat) : Int) := by rw [i32_of (by omega) (by omega)]; omega
      have e3 : i32 ((lft x k : Int) - 1) = ((lft x k - 1 : Nat) : Int) := by rw [i32_of (by omega) (by omega)]; omega
      have e4 : jand (lft x k : Int) ((lft x k - 1 : Nat) : Int) = (lft x (k + 1) : Int) := jand_nat (by omega)
      simp only [L_M_ones_1c, L_M_ones_1b, L_M_ones_1s, h4, e2, e3, e4, d_rLoc1, d_rLoc2, d_rFld1, d_rFld2, d_eInt, d_eLdc, d_eLdw, d_eLoc, d_eFld, d_lFld, d_eAI, d_eAZ, d_eAB, d_lAL, d_eAD, d_eLen, d_eAdd, d_eSub, d_eMul, d_eAnd, d_eOr, d_eXor, d_eShl, d_eShr, d_eUsh, d_lAdd, d_lSub, d_lMul, d_lAnd, d_lOr, d_lXor, d_lShl, d_lShr, d_eDiv, d_eRem, d_eCmp, d_eI2B, d_eI2S, d_eL2I, d_lI2L, d_lInt, d_lLdc, d_lLoc, d_eIte, d_lIte, d_eMax, d_eMin, d_eAbs, d_eAbove, d_eBodies, d_cQ, d_cZ, d_cNot, d_cAnd, d_cOr, d_gNil, d_gI, d_gL, d_gR, d_gD, d_xV, d_xS, d_xN, d_xT, d_eCall, d_lCall, d_eCallC, d_sNop, d_sSet, d_sSetL, d_sSetR, d_sSetQ, d_sInc, d_sPutI, d_sPutZ, d_sPutL, d_sPutA, d_sPutAZ, d_sPutAB, d_sPutAL, d_sPutD, d_sOpF, d_sOpA, d_sCall, d_sCopy, d_sSeq, d_sIf, d_sBrk, d_sCnt, d_sRetV, d_sRet, d_sRetL, d_sLp, d_tDef, d_tCase, d_sSw, d_sSwB, bIt_d, itb_0, itb_1, itb_2, itb_r, its_0, sqk_0, sqk_1, sqk_2, sqk_r, swk_0, swk_1, swk_r, bfin_r, bfin_ite, Option.bind_some, Option.map_some, Option.bind_none, Option.map_none, bind_ite, map_ite, cop0, cop1, cop2, cop3, cop4, cop5, opv0, opv1, opv2, opv3, brc_i, brc_z, two_ne_one, false_or, getI, getR, getL, List.getElem?_cons_zero, List.getElem?_cons_succ, List.set_cons_zero, List.set_cons_succ, bnl, if_true, if_false, true_or, or_true, decide_eq_true_eq, Bool.not_eq_true', decide_eq_false_iff_not, Bool.not_true, Bool.not_false, Bool.true_eq_false, Bool.false_eq_true, ite_not, reduceIte, ite01_0, ite01_1, Decidable.not_not, ne_eq, not_true_eq_false, not_false_eq_true, Function.comp_apply, decide_not, Bool.not_not, Bool.not_eq_false']
    · have h1 := lft_pop hx (pop x) (Nat.le_refl _)
      have h2 := lft_le x (pop x)
      have h3 : lft x (pop x) = 0 := pop_0 17 _ (by omega) (by show pop _ = 0; omega)
      simp only [L_M_ones_1c, L_M_ones_1b, L_M_ones_1s, h3, d_rLoc1, d_rLoc2, d_rFld1, d_rFld2, d_eInt, d_eLdc, d_eLdw, d_eLoc, d_eFld, d_lFld, d_eAI, d_eAZ, d_eAB, d_lAL, d_eAD, d_eLen, d_eAdd, d_eSub, d_eMul, d_eAnd, d_eOr, d_eXor, d_eShl, d_eShr, d_eUsh, d_lAdd, d_lSub, d_lMul, d_lAnd, d_lOr, d_lXor, d_lShl, d_lShr, d_eDiv, d_eRem, d_eCmp, d_eI2B, d_eI2S, d_eL2I, d_lI2L, d_lInt, d_lLdc, d_lLoc, d_eIte, d_lIte, d_eMax, d_eMin, d_eAbs, d_eAbove, d_eBodies, d_cQ, d_cZ, d_cNot, d_cAnd, d_cOr, d_gNil, d_gI, d_gL, d_gR, d_gD, d_xV, d_xS, d_xN, d_xT, d_eCall, d_lCall, d_eCallC, d_sNop, d_sSet, d_sSetL, d_sSetR, d_sSetQ, d_sInc, d_sPutI, d_sPutZ, d_sPutL, d_sPutA, d_sPutAZ, d_sPutAB, d_sPutAL, d_sPutD, d_sOpF, d_sOpA, d_sCall, d_sCopy, d_sSeq, d_sIf, d_sBrk, d_sCnt, d_sRetV, d_sRet, d_sRetL, d_sLp, d_tDef, d_tCase, d_sSw, d_sSwB, bIt_d, itb_0, itb_1, itb_2, itb_r, its_0, sqk_0, sqk_1, sqk_2, sqk_r, swk_0, swk_1, swk_r, bfin_r, bfin_ite, Option.bind_some, Option.map_some, Option.bind_none, Option.map_none, bind_ite, map_ite, cop0, cop1, cop2, cop3, cop4, cop5, opv0, opv1, opv2, opv3, brc_i, brc_z, two_ne_one, false_or, getI, getR, getL, List.getElem?_cons_zero, List.getElem?_cons_succ, List.set_cons_zero, List.set_cons_succ, bnl, if_true, if_false, true_or, or_true, decide_eq_true_eq, Bool.not_eq_true', decide_eq_false_iff_not, Bool.not_true, Bool.not_false, Bool.true_eq_false, Bool.false_eq_true, ite_not, reduceIte, ite01_0, ite01_1, Decidable.not_not, ne_eq, not_true_eq_false, not_false_eq_true, Function.comp_apply, decide_not, Bool.not_not, Bool.not_eq_false']
      simp
  rw [st_M_ones]
  simp only [B_M_ones, kr_M_ones, d_rLoc1, d_rLoc2, d_rFld1, d_rFld2, d_eInt, d_eLdc, d_eLdw, d_eLoc, d_eFld, d_lFld, d_eAI, d_eAZ, d_eAB, d_lAL, d_eAD, d_eLen, d_eAdd, d_eSub, d_eMul, d_eAnd, d_eOr, d_eXor, d_eShl, d_eShr, d_eUsh, d_lAdd, d_lSub, d_lMul, d_lAnd, d_lOr, d_lXor, d_lShl, d_lShr, d_eDiv, d_eRem, d_eCmp, d_eI2B, d_eI2S, d_eL2I, d_lI2L, d_lInt, d_lLdc, d_lLoc, d_eIte, d_lIte, d_eMax, d_eMin, d_eAbs, d_eAbove, d_eBodies, d_cQ, d_cZ, d_cNot, d_cAnd, d_cOr, d_gNil, d_gI, d_gL, d_gR, d_gD, d_xV, d_xS, d_xN, d_xT, d_eCall, d_lCall, d_eCallC, d_sNop, d_sSet, d_sSetL, d_sSetR, d_sSetQ, d_sInc, d_sPutI, d_sPutZ, d_sPutL, d_sPutA, d_sPutAZ, d_sPutAB, d_sPutAL, d_sPutD, d_sOpF, d_sOpA, d_sCall, d_sCopy, d_sSeq, d_sIf, d_sBrk, d_sCnt, d_sRetV, d_sRet, d_sRetL, d_sLp, d_tDef, d_tCase, d_sSw, d_sSwB, bIt_d, itb_0, itb_1, itb_2, itb_r, its_0, sqk_0, sqk_1, sqk_2, sqk_r, swk_0, swk_1, swk_r, bfin_r, bfin_ite, Option.bind_some, Option.map_some, Option.bind_none, Option.map_none, bind_ite, map_ite, cop0, cop1, cop2, cop3, cop4, cop5, opv0, opv1, opv2, opv3, brc_i, brc_z, two_ne_one, false_or, getI, getR, getL, List.getElem?_cons_zero, List.getElem?_cons_succ, List.set_cons_zero, List.set_cons_succ, bnl, if_true, if_false, true_or, or_true, decide_eq_true_eq, Bool.not_eq_true', decide_eq_false_iff_not, Bool.not_true, Bool.not_false, Bool.true_eq_false, Bool.false_eq_true, ite_not, reduceIte, ite01_0, ite01_1, Decidable.not_not, ne_eq, not_true_eq_false, not_false_eq_true, Function.comp_apply, decide_not, Bool.not_not, Bool.not_eq_false']
  rw [hl]
  simp only [kr_M_ones, d_rLoc1, d_rLoc2, d_rFld1, d_rFld2, d_eInt, d_eLdc, d_eLdw, d_eLoc, d_eFld, d_lFld, d_eAI, d_eAZ, d_eAB, d_lAL, d_eAD, d_eLen, d_eAdd, d_eSub, d_eMul, d_eAnd, d_eOr, d_eXor, d_eShl, d_eShr, d_eUsh, d_lAdd, d_lSub, d_lMul, d_lAnd, d_lOr, d_lXor, d_lShl, d_lShr, d_eDiv, d_eRem, d_eCmp, d_eI2B, d_eI2S, d_eL2I, d_lI2L, d_lInt, d_lLdc, d_lLoc, d_eIte, d_lIte, d_eMax, d_eMin, d_eAbs, d_eAbove, d_eBodies, d_cQ, d_cZ, d_cNot, d_cAnd, d_cOr, d_gNil, d_gI, d_gL, d_gR, d_gD, d_xV, d_xS, d_xN, d_xT, d_eCall, d_lCall, d_eCallC, d_sNop, d_sSet, d_sSetL, d_sSetR, d_sSetQ, d_sInc, d_sPutI, d_sPutZ, d_sPutL, d_sPutA, d_sPutAZ, d_sPutAB, d_sPutAL, d_sPutD, d_sOpF, d_sOpA, d_sCall, d_sCopy, d_sSeq, d_sIf, d_sBrk, d_sCnt, d_sRetV, d_sRet, d_sRetL, d_sLp, d_tDef, d_tCase, d_sSw, d_sSwB, bIt_d, itb_0, itb_1, itb_2, itb_r, its_0, sqk_0, sqk_1, sqk_2, sqk_r, swk_0, swk_1, swk_r, bfin_r, bfin_ite, Option.bind_some, Option.map_some, Option.bind_none, Option.map_none, bind_ite, map_ite, cop0, cop1, cop2, cop3, cop4, cop5, opv0, opv1, opv2, opv3, brc_i, brc_z, two_ne_one, false_or, getI, getR, getL, List.getElem?_cons_zero, List.getElem?_cons_succ, List.set_cons_zero, List.set_cons_succ, bnl, if_true, if_false, true_or, or_true, decide_eq_true_eq, Bool.not_eq_true', decide_eq_false_iff_not, Bool.not_true, Bool.not_false, Bool.true_eq_false, Bool.false_eq_true, ite_not, reduceIte, ite01_0, ite01_1, Decidable.not_not, ne_eq, not_true_eq_false, not_false_eq_true, Function.comp_apply, decide_not, Bool.not_not, Bool.not_eq_false']
