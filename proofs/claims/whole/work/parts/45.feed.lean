/-! ===== feed ===== -/
theorem kand_255 (z : Int) : kand z 255 = z % 256 := by
  unfold kand
  have h : (Int64.ofInt z &&& 255).toInt = ((Int64.ofInt z).toBitVec &&& 255#64).toInt := rfl
  show (Int64.ofInt z &&& 255).toInt = _
  rw [h]
  have h2 : ((Int64.ofInt z).toBitVec &&& 255#64) = BitVec.ofNat 64 ((BitVec.ofInt 64 z).toNat % 256) := by
    apply BitVec.eq_of_toNat_eq
    show ((BitVec.ofInt 64 z) &&& 255#64).toNat = _
    rw [BitVec.toNat_and, BitVec.toNat_ofNat, BitVec.toNat_ofNat]
    have : (255 % 2 ^ 64 : Nat) = 2 ^ 8 - 1 := rfl
    rw [this, Nat.and_two_pow_sub_one_eq_mod]
    omega
  rw [h2, BitVec.toInt_eq_toNat_of_lt (by rw [BitVec.toNat_ofNat]; omega), BitVec.toNat_ofNat, BitVec.toNat_ofInt]
  omega
theorem jb8_i32 (z : Int) : jb8 (i32 z) = (z + 128) % 256 - 128 := by
  unfold jb8
  rw [Int32.toInt_toInt8, Int32.toInt_ofInt]
  unfold i32 Int.bmod
  simp only [Int32.size]
  omega
theorem i32_255 (z : Int) : i32 (z % 256) = z % 256 := i32_of (by omega) (by omega)
/-- k bytes of e written behind place p -/
def fdW (m : bM) (c o l p : Nat) (f : Nat → Int) : Nat → bM
  | 0 => m
  | k + 1 => bwr (bwr (fdW m c o l p f k) c (p + k) (f k)) o l ((p + (k + 1) : Nat) : Int)
theorem fdW_l (m : bM) (c o l p : Nat) (f : Nat → Int) (h : m o l = (p : Int)) : ∀ k, fdW m c o l p f k o l = ((p + k : Nat) : Int)
  | 0 => h
  | k + 1 => by
    show (if o = o then (if l = l then ((p + (k + 1) : Nat) : Int) else _) else _) = _
    rw [if_pos rfl, if_pos rfl]
theorem lp_append (n : Nat) (e t : Int) (p : Nat) (m : bM) (ht : 1 ≤ t ∧ t ≤ 8) (hl : m 109 2 = (p : Int)) (hp : (p : Int) + t ≤ 240) : L_Reader_append_1.1.2 (sem n) [some (aR 109), some (aL e), none, some (aI t), some (aI 0)] m = some (.inl (0, [some (aR 109), some (aL e), none, some (aI t), some (aI ((t.toNat : Nat) : Int))], fdW m 110 109 2 p (fun k => (kshr e ((8 * k : Nat) : Int) + 128) % 256 - 128) t.toNat)) := by
  unfold L_Reader_append_1
  rw [d_sLp]
  refine lp_out (fun k => [some (aR 109), some (aL e), none, some (aI t), some (aI ((k : Nat) : Int))]) (fun k => fdW m 110 109 2 p (fun k => (kshr e ((8 * k : Nat) : Int) + 128) % 256 - 128) k) t.toNat (by omega) (fun k hk => ?_) ?_
  · have hw := fdW_l m 110 109 2 p (fun k => (kshr e ((8 * k : Nat) : Int) + 128) % 256 - 128) hl k
    simp only [L_Reader_append_1c, L_Reader_append_1b, L_Reader_append_1s, d_rLoc1, d_rLoc2, d_rFld1, d_rFld2, d_eInt, d_eLdc, d_eLdw, d_eLoc, d_eFld, d_lFld, d_eAI, d_eAZ, d_eAB, d_lAL, d_eAD, d_eLen, d_eAdd, d_eSub, d_eMul, d_eAnd, d_eOr, d_eXor, d_eShl, d_eShr, d_eUsh, d_lAdd, d_lSub, d_lMul, d_lAnd, d_lOr, d_lXor, d_lShl, d_lShr, d_eDiv, d_eRem, d_eCmp, d_eI2B, d_eI2S, d_eL2I, d_lI2L, d_lInt, d_lLdc, d_lLoc, d_eIte, d_lIte, d_eMax, d_eMin, d_eAbs, d_eAbove, d_eBodies, d_cQ, d_cZ, d_cNot, d_cAnd, d_cOr, d_gNil, d_gI, d_gL, d_gR, d_gD, d_xV, d_xS, d_xN, d_xT, d_eCall, d_lCall, d_eCallC, d_sNop, d_sSet, d_sSetL, d_sSetR, d_sSetQ, d_sInc, d_sPutI, d_sPutZ, d_sPutL, d_sPutA, d_sPutAZ, d_sPutAB, d_sPutAL, d_sPutD, d_sOpF, d_sOpA, d_sCall, d_sCopy, d_sSeq, d_sIf, d_sBrk, d_sCnt, d_sRetV, d_sRet, d_sRetL, d_sLp, d_tDef, d_tCase, d_sSw, d_sSwB, bIt_d, itb_0, itb_1, itb_2, itb_r, its_0, sqk_0, sqk_1, sqk_2, sqk_r, swk_0, swk_1, swk_r, bfin_r, bfin_ite, Option.bind_some, Option.map_some, Option.bind_none, Option.map_none, bind_ite, map_ite, cop0, cop1, cop2, cop3, cop4, cop5, opv0, opv1, opv2, opv3, brc_i, brc_z, two_ne_one, false_or, getI, getR, getL, List.getElem?_cons_zero, List.getElem?_cons_succ, List.set_cons_zero, List.set_cons_succ, bnl, if_true, if_false, true_or, or_true, decide_eq_true_eq, Bool.not_eq_true', decide_eq_false_iff_not, Bool.not_true, Bool.not_false, Bool.true_eq_false, Bool.false_eq_true, ite_not, reduceIte, ite01_0, ite01_1, Decidable.not_not, ne_eq, not_true_eq_false, not_false_eq_true, Function.comp_apply, decide_not, Bool.not_not, Bool.not_eq_false']
    have e1 : (k : Int) < t := by omega
    have e2 : i32 ((k : Int) + 1) = ((k + 1 : Nat) : Int) := by rw [i32_of (by omega) (by omega)]; omega
    have e3 : i32 (8 * (k : Int)) = ((8 * k : Nat) : Int) := by rw [i32_of (by omega) (by omega)]; omega
    have e4 : i32 (((p + k : Nat) : Int) + 1) = ((p + (k + 1) : Nat) : Int) := by rw [i32_of (by omega) (by omega)]; omega
    have e5 : ((p + k : Nat) : Int) < ((240 : Nat) : Int) := by omega
    have e6 : 0 ≤ ((p + k : Nat) : Int) := by omega
    have e7 : ((p + k : Nat) : Int).toNat = p + k := by omega
    have e8 : -128 ≤ (kshr e ((8 * k : Nat) : Int) + 128) % 256 - 128 ∧ (kshr e ((8 * k : Nat) : Int) + 128) % 256 - 128 ≤ 127 := by omega
    simp only [e1, e3, jb8_i32, hw, e5, e6, e7, e8, and_self, if_true, Option.map_some, Option.bind_some, bwr_ne _ _ (show 109 ≠ 110 by decide), e4, e2, itb_0, its_0]
    rfl
  · simp only [L_Reader_append_1c, L_Reader_append_1b, L_Reader_append_1s, d_rLoc1, d_rLoc2, d_rFld1, d_rFld2, d_eInt, d_eLdc, d_eLdw, d_eLoc, d_eFld, d_lFld, d_eAI, d_eAZ, d_eAB, d_lAL, d_eAD, d_eLen, d_eAdd, d_eSub, d_eMul, d_eAnd, d_eOr, d_eXor, d_eShl, d_eShr, d_eUsh, d_lAdd, d_lSub, d_lMul, d_lAnd, d_lOr, d_lXor, d_lShl, d_lShr, d_eDiv, d_eRem, d_eCmp, d_eI2B, d_eI2S, d_eL2I, d_lI2L, d_lInt, d_lLdc, d_lLoc, d_eIte, d_lIte, d_eMax, d_eMin, d_eAbs, d_eAbove, d_eBodies, d_cQ, d_cZ, d_cNot, d_cAnd, d_cOr, d_gNil, d_gI, d_gL, d_gR, d_gD, d_xV, d_xS, d_xN, d_xT, d_eCall, d_lCall, d_eCallC, d_sNop, d_sSet, d_sSetL, d_sSetR, d_sSetQ, d_sInc, d_sPutI, d_sPutZ, d_sPutL, d_sPutA, d_sPutAZ, d_sPutAB, d_sPutAL, d_sPutD, d_sOpF, d_sOpA, d_sCall, d_sCopy, d_sSeq, d_sIf, d_sBrk, d_sCnt, d_sRetV, d_sRet, d_sRetL, d_sLp, d_tDef, d_tCase, d_sSw, d_sSwB, bIt_d, itb_0, itb_1, itb_2, itb_r, its_0, sqk_0, sqk_1, sqk_2, sqk_r, swk_0, swk_1, swk_r, bfin_r, bfin_ite, Option.bind_some, Option.map_some, Option.bind_none, Option.map_none, bind_ite, map_ite, cop0, cop1, cop2, cop3, cop4, cop5, opv0, opv1, opv2, opv3, brc_i, brc_z, two_ne_one, false_or, getI, getR, getL, List.getElem?_cons_zero, List.getElem?_cons_succ, List.set_cons_zero, List.set_cons_succ, bnl, if_true, if_false, true_or, or_true, decide_eq_true_eq, Bool.not_eq_true', decide_eq_false_iff_not, Bool.not_true, Bool.not_false, Bool.true_eq_false, Bool.false_eq_true, ite_not, reduceIte, ite01_0, ite01_1, Decidable.not_not, ne_eq, not_true_eq_false, not_false_eq_true, Function.comp_apply, decide_not, Bool.not_not, Bool.not_eq_false']
    have e1 : ¬ ((t.toNat : Nat) : Int) < t := by omega
    rw [if_neg e1]
