/-! ===== feed ===== -/
theorem kand_255 (z : Int) : kand z 255 = z % 256 := by
  rw [kand_def]
  have h : (Int64.ofInt z &&& 255).toInt = ((Int64.ofInt z).toBitVec &&& 255#64).toInt := rfl
  show (Int64.ofInt z &&& 255).toInt = _
  rw [h]
  have h2 : ((Int64.ofInt z).toBitVec &&& 255#64) = BitVec.ofNat 64 ((BitVec.ofInt 64 z).toNat % 256) := by
    apply BitVec.eq_of_toNat_eq
    show ((BitVec.ofInt 64 z) &&& 255#64).toNat = _
    rw [BitVec.toNat_and, BitVec.toNat_ofNat, BitVec.toNat_ofNat]
    have : (255 % 2 ^ 64 : Nat) = 2 ^ 8 - 1 := rfl
    rw [this, Nat.and_two_pow_sub_one_eq_mod]
    omega
  rw [h2, BitVec.toInt_eq_toNat_of_lt (by rw [BitVec.toNat_ofNat]; omega), BitVec.toNat_ofNat, BitVec.toNat_ofInt]
  omega
theorem jb8_i32 (z : Int) : jb8 (i32 z) = (z + 128) % 256 - 128 := by
  unfold jb8
  rw [Int32.toInt_toInt8, Int32.toInt_ofInt]
  rw [i32_def]
  unfold Int.bmod
  simp only [Int32.size]
  omega
theorem i32_255 (z : Int) : i32 (z % 256) = z % 256 := i32_of (by omega) (by omega)
/-- k bytes of e written behind place p -/
def fdW (m : bM) (c o l p : Nat) (f : Nat → Int) : Nat → bM
  | 0 => m
  | k + 1 => bwr (bwr (fdW m c o l p f k) c (p + k) (f k)) o l ((p + (k + 1) : Nat) : Int)
theorem fdW_l (m : bM) (c o l p : Nat) (f : Nat → Int) (h : m o l = (p : Int)) : ∀ k, fdW m c o l p f k o l = ((p + k : Nat) : Int)
  | 0 => h
  | k + 1 => by
    show (if o = o then (if l = l then ((p + (k + 1) : Nat) : Int) else _) else _) = _
    rw [if_pos rfl, if_pos rfl]
theorem lp_append (n : Nat) (e t : Int) (p : Nat) (m : bM) (ht : 1 ≤ t ∧ t ≤ 8) (hl : m 109 2 = (p : Int)) (hp : (p : Int) + t ≤ 240) : L_Reader_append_1.1.2 (sem n) [some (aR 109), some (aL e), none, some (aI t), some (aI 0)] m = some (.inl (0, [some (aR 109), some (aL e), none, some (aI t), some (aI ((t.toNat : Nat) : Int))], fdW m 110 109 2 p (fun k => (kshr e ((8 * k : Nat) : Int) + 128) % 256 - 128) t.toNat)) := by
  unfold L_Reader_append_1
  rw [d_sLp]
  refine lp_out (fun k => [some (aR 109), some (aL e), none, some (aI t), some (aI ((k : Nat) : Int))]) (fun k => fdW m 110 109 2 p (fun k => (kshr e ((8 * k : Nat) : Int) + 128) % 256 - 128) k) t.toNat (by omega) (fun k hk => ?_) ?_
  · have hw := fdW_l m 110 109 2 p (fun k => (kshr e ((8 * k : Nat) : Int) + 128) % 256 - 128) hl k
    simp only [L_Reader_append_1c, L_Reader_append_1b, L_Reader_append_1s, d_rLoc1, d_rLoc2, d_rFld1, d_rFld2, d_eInt, d_eLdc, d_eLdw, d_eLoc, d_eFld, d_lFld, d_eAI, d_eAZ, d_eAB, d_lAL, d_eAD, d_eLen, d_eAdd, d_eSub, d_eMul, d_eAnd, d_eOr, d_eXor, d_eShl, d_eShr, d_eUsh, d_lAdd, d_lSub, d_lMul, d_lAnd, d_lOr, d_lXor, d_lShl, d_lShr, d_eDiv, d_eRem, d_eCmp, d_eI2B, d_eI2S, d_eL2I, d_lI2L, d_lInt, d_lLdc, d_lLoc, d_eIte, d_lIte, d_eMax, d_eMin, d_eAbs, d_eAbove, d_eBodies, d_cQ, d_cZ, d_cNot, d_cAnd, d_cOr, d_gNil, d_gI, d_gL, d_gR, d_gD, d_xV, d_xS, d_xN, d_xT, d_eCall, d_lCall, d_eCallC, d_sNop, d_sSet, d_sSetL, d_sSetR, d_sSetQ, d_sInc, d_sPutI, d_sPutZ, d_sPutL, d_sPutA, d_sPutAZ, d_sPutAB, d_sPutAL, d_sPutD, d_sOpF, d_sOpA, d_sCall, d_sCopy, d_sSeq, d_sIf, d_sBrk, d_sCnt, d_sRetV, d_sRet, d_sRetL, d_sLp, d_tDef, d_tCase, d_sSw, d_sSwB, bIt_d, itb_0, itb_1, itb_2, itb_r, its_0, sqk_0, sqk_1, sqk_2, sqk_r, swk_0, swk_1, swk_r, bfin_r, bfin_ite, Option.bind_some, Option.map_some, Option.bind_none, Option.map_none, bind_ite, map_ite, cop0, cop1, cop2, cop3, cop4, cop5, opv0, opv1, opv2, opv3, brc_i, brc_z, two_ne_one, false_or, getI, getR, getL, List.getElem?_cons_zero, List.getElem?_cons_succ, List.set_cons_zero, List.set_cons_succ, bnl, if_true, if_false, true_or, or_true, decide_eq_true_eq, Bool.not_eq_true', decide_eq_false_iff_not, Bool.not_true, Bool.not_false, Bool.true_eq_false, Bool.false_eq_true, ite_not, reduceIte, ite01_0, ite01_1, Decidable.not_not, ne_eq, not_true_eq_false, not_false_eq_true, Function.comp_apply, decide_not, Bool.not_not, Bool.not_eq_false']
    have e1 : (k : Int) < t := by omega
    have e2 : i32 ((k : Int) + 1) = ((k + 1 : Nat) : Int) := by rw [i32_of (by omega) (by omega)]; omega
    have e3 : i32 (8 * (k : Int)) = ((8 * k : Nat) : Int) := by rw [i32_of (by omega) (by omega)]; omega
    have e4 : i32 (((p + k : Nat) : Int) + 1) = ((p + (k + 1) : Nat) : Int) := by rw [i32_of (by omega) (by omega)]; omega
    have e5 : ((p + k : Nat) : Int) < ((240 : Nat) : Int) := by omega
    have e6 : 0 ≤ ((p + k : Nat) : Int) := by omega
    have e7 : ((p + k : Nat) : Int).toNat = p + k := by omega
    have e8 : -128 ≤ (kshr e ((8 * k : Nat) : Int) + 128) % 256 - 128 ∧ (kshr e ((8 * k : Nat) : Int) + 128) % 256 - 128 ≤ 127 := by omega
    simp only [e1, e3, jb8_i32, hw, e5, e6, e7, e8, and_self, if_true, Option.map_some, Option.bind_some, bwr_ne _ _ (show 109 ≠ 110 by decide), e4, e2, itb_0, its_0]
    rfl
  · simp only [L_Reader_append_1c, L_Reader_append_1b, L_Reader_append_1s, d_rLoc1, d_rLoc2, d_rFld1, d_rFld2, d_eInt, d_eLdc, d_eLdw, d_eLoc, d_eFld, d_lFld, d_eAI, d_eAZ, d_eAB, d_lAL, d_eAD, d_eLen, d_eAdd, d_eSub, d_eMul, d_eAnd, d_eOr, d_eXor, d_eShl, d_eShr, d_eUsh, d_lAdd, d_lSub, d_lMul, d_lAnd, d_lOr, d_lXor, d_lShl, d_lShr, d_eDiv, d_eRem, d_eCmp, d_eI2B, d_eI2S, d_eL2I, d_lI2L, d_lInt, d_lLdc, d_lLoc, d_eIte, d_lIte, d_eMax, d_eMin, d_eAbs, d_eAbove, d_eBodies, d_cQ, d_cZ, d_cNot, d_cAnd, d_cOr, d_gNil, d_gI, d_gL, d_gR, d_gD, d_xV, d_xS, d_xN, d_xT, d_eCall, d_lCall, d_eCallC, d_sNop, d_sSet, d_sSetL, d_sSetR, d_sSetQ, d_sInc, d_sPutI, d_sPutZ, d_sPutL, d_sPutA, d_sPutAZ, d_sPutAB, d_sPutAL, d_sPutD, d_sOpF, d_sOpA, d_sCall, d_sCopy, d_sSeq, d_sIf, d_sBrk, d_sCnt, d_sRetV, d_sRet, d_sRetL, d_sLp, d_tDef, d_tCase, d_sSw, d_sSwB, bIt_d, itb_0, itb_1, itb_2, itb_r, its_0, sqk_0, sqk_1, sqk_2, sqk_r, swk_0, swk_1, swk_r, bfin_r, bfin_ite, Option.bind_some, Option.map_some, Option.bind_none, Option.map_none, bind_ite, map_ite, cop0, cop1, cop2, cop3, cop4, cop5, opv0, opv1, opv2, opv3, brc_i, brc_z, two_ne_one, false_or, getI, getR, getL, List.getElem?_cons_zero, List.getElem?_cons_succ, List.set_cons_zero, List.set_cons_succ, bnl, if_true, if_false, true_or, or_true, decide_eq_true_eq, Bool.not_eq_true', decide_eq_false_iff_not, Bool.not_true, Bool.not_false, Bool.true_eq_false, Bool.false_eq_true, ite_not, reduceIte, ite01_0, ite01_1, Decidable.not_not, ne_eq, not_true_eq_false, not_false_eq_true, Function.comp_apply, decide_not, Bool.not_not, Bool.not_eq_false']
    have e1 : ¬ ((t.toNat : Nat) : Int) < t := by omega
    rw [if_neg e1]
theorem lp_M_feed (n : Nat) (e t : Int) (p : Nat) (m : bM) (ht : 1 ≤ t ∧ t ≤ 8) (hl : m 132 65 = (p : Int)) (hp : (p : Int) + t ≤ 240) : L_M_feed_1.1.2 (sem n) [some (aR 132), some (aL e), none, some (aI t), some (aI 0)] m = some (.inl (0, [some (aR 132), some (aL e), none, some (aI t), some (aI ((t.toNat : Nat) : Int))], fdW m 192 132 65 p (fun k => kshr e ((8 * k : Nat) : Int) % 256) t.toNat)) := by
  unfold L_M_feed_1
  rw [d_sLp]
  refine lp_out (fun k => [some (aR 132), some (aL e), none, some (aI t), some (aI ((k : Nat) : Int))]) (fun k => fdW m 192 132 65 p (fun k => kshr e ((8 * k : Nat) : Int) % 256) k) t.toNat (by omega) (fun k hk => ?_) ?_
  · have hw := fdW_l m 192 132 65 p (fun k => kshr e ((8 * k : Nat) : Int) % 256) hl k
    simp only [L_M_feed_1c, L_M_feed_1b, L_M_feed_1s, d_rLoc1, d_rLoc2, d_rFld1, d_rFld2, d_eInt, d_eLdc, d_eLdw, d_eLoc, d_eFld, d_lFld, d_eAI, d_eAZ, d_eAB, d_lAL, d_eAD, d_eLen, d_eAdd, d_eSub, d_eMul, d_eAnd, d_eOr, d_eXor, d_eShl, d_eShr, d_eUsh, d_lAdd, d_lSub, d_lMul, d_lAnd, d_lOr, d_lXor, d_lShl, d_lShr, d_eDiv, d_eRem, d_eCmp, d_eI2B, d_eI2S, d_eL2I, d_lI2L, d_lInt, d_lLdc, d_lLoc, d_eIte, d_lIte, d_eMax, d_eMin, d_eAbs, d_eAbove, d_eBodies, d_cQ, d_cZ, d_cNot, d_cAnd, d_cOr, d_gNil, d_gI, d_gL, d_gR, d_gD, d_xV, d_xS, d_xN, d_xT, d_eCall, d_lCall, d_eCallC, d_sNop, d_sSet, d_sSetL, d_sSetR, d_sSetQ, d_sInc, d_sPutI, d_sPutZ, d_sPutL, d_sPutA, d_sPutAZ, d_sPutAB, d_sPutAL, d_sPutD, d_sOpF, d_sOpA, d_sCall, d_sCopy, d_sSeq, d_sIf, d_sBrk, d_sCnt, d_sRetV, d_sRet, d_sRetL, d_sLp, d_tDef, d_tCase, d_sSw, d_sSwB, bIt_d, itb_0, itb_1, itb_2, itb_r, its_0, sqk_0, sqk_1, sqk_2, sqk_r, swk_0, swk_1, swk_r, bfin_r, bfin_ite, Option.bind_some, Option.map_some, Option.bind_none, Option.map_none, bind_ite, map_ite, cop0, cop1, cop2, cop3, cop4, cop5, opv0, opv1, opv2, opv3, brc_i, brc_z, two_ne_one, false_or, getI, getR, getL, List.getElem?_cons_zero, List.getElem?_cons_succ, List.set_cons_zero, List.set_cons_succ, bnl, if_true, if_false, true_or, or_true, decide_eq_true_eq, Bool.not_eq_true', decide_eq_false_iff_not, Bool.not_true, Bool.not_false, Bool.true_eq_false, Bool.false_eq_true, ite_not, reduceIte, ite01_0, ite01_1, Decidable.not_not, ne_eq, not_true_eq_false, not_false_eq_true, Function.comp_apply, decide_not, Bool.not_not, Bool.not_eq_false']
    have e1 : (k : Int) < t := by omega
    have e2 : i32 ((k : Int) + 1) = ((k + 1 : Nat) : Int) := by rw [i32_of (by omega) (by omega)]; omega
    have e3 : i32 (8 * (k : Int)) = ((8 * k : Nat) : Int) := by rw [i32_of (by omega) (by omega)]; omega
    have e4 : i32 (((p + k : Nat) : Int) + 1) = ((p + (k + 1) : Nat) : Int) := by rw [i32_of (by omega) (by omega)]; omega
    have e5 : ((p + k : Nat) : Int) < ((240 : Nat) : Int) := by omega
    have e6 : 0 ≤ ((p + k : Nat) : Int) := by omega
    have e7 : ((p + k : Nat) : Int).toNat = p + k := by omega
    simp only [e1, e3, kand_255, i32_255, hw, e5, e6, e7, and_self, if_true, Option.map_some, Option.bind_some, bwr_ne _ _ (show 132 ≠ 192 by decide), e4, e2, itb_0, its_0]
    rfl
  · simp only [L_M_feed_1c, L_M_feed_1b, L_M_feed_1s, d_rLoc1, d_rLoc2, d_rFld1, d_rFld2, d_eInt, d_eLdc, d_eLdw, d_eLoc, d_eFld, d_lFld, d_eAI, d_eAZ, d_eAB, d_lAL, d_eAD, d_eLen, d_eAdd, d_eSub, d_eMul, d_eAnd, d_eOr, d_eXor, d_eShl, d_eShr, d_eUsh, d_lAdd, d_lSub, d_lMul, d_lAnd, d_lOr, d_lXor, d_lShl, d_lShr, d_eDiv, d_eRem, d_eCmp, d_eI2B, d_eI2S, d_eL2I, d_lI2L, d_lInt, d_lLdc, d_lLoc, d_eIte, d_lIte, d_eMax, d_eMin, d_eAbs, d_eAbove, d_eBodies, d_cQ, d_cZ, d_cNot, d_cAnd, d_cOr, d_gNil, d_gI, d_gL, d_gR, d_gD, d_xV, d_xS, d_xN, d_xT, d_eCall, d_lCall, d_eCallC, d_sNop, d_sSet, d_sSetL, d_sSetR, d_sSetQ, d_sInc, d_sPutI, d_sPutZ, d_sPutL, d_sPutA, d_sPutAZ, d_sPutAB, d_sPutAL, d_sPutD, d_sOpF, d_sOpA, d_sCall, d_sCopy, d_sSeq, d_sIf, d_sBrk, d_sCnt, d_sRetV, d_sRet, d_sRetL, d_sLp, d_tDef, d_tCase, d_sSw, d_sSwB, bIt_d, itb_0, itb_1, itb_2, itb_r, its_0, sqk_0, sqk_1, sqk_2, sqk_r, swk_0, swk_1, swk_r, bfin_r, bfin_ite, Option.bind_some, Option.map_some, Option.bind_none, Option.map_none, bind_ite, map_ite, cop0, cop1, cop2, cop3, cop4, cop5, opv0, opv1, opv2, opv3, brc_i, brc_z, two_ne_one, false_or, getI, getR, getL, List.getElem?_cons_zero, List.getElem?_cons_succ, List.set_cons_zero, List.set_cons_succ, bnl, if_true, if_false, true_or, or_true, decide_eq_true_eq, Bool.not_eq_true', decide_eq_false_iff_not, Bool.not_true, Bool.not_false, Bool.true_eq_false, Bool.false_eq_true, ite_not, reduceIte, ite01_0, ite01_1, Decidable.not_not, ne_eq, not_true_eq_false, not_false_eq_true, Function.comp_apply, decide_not, Bool.not_not, Bool.not_eq_false']
    have e1 : ¬ ((t.toNat : Nat) : Int) < t := by omega
    rw [if_neg e1]
theorem fdW_ne (m : bM) (c o l p : Nat) (f : Nat → Int) : ∀ (k i : Nat), i ≠ c → i ≠ o → fdW m c o l p f k i = m i
  | 0, _, _, _ => rfl
  | k + 1, i, h, h2 => by
    show bwr (bwr _ c _ _) o l _ i = m i
    rw [bwr_ne _ _ h2, bwr_ne _ _ h, fdW_ne m c o l p f k i h h2]
theorem fdW_o (m : bM) (c o l p : Nat) (f : Nat → Int) (hc : o ≠ c) : ∀ (k j : Nat), j ≠ l → fdW m c o l p f k o j = m o j
  | 0, _, _ => rfl
  | k + 1, j, h => by
    show (if o = o then (if j = l then _ else bwr _ c _ _ o j) else _) = m o j
    rw [if_pos rfl, if_neg h, bwr_ne _ _ hc, fdW_o m c o l p f hc k j h]
theorem fdW_c (m : bM) (c o l p : Nat) (f : Nat → Int) (hc : c ≠ o) : ∀ (k j : Nat), fdW m c o l p f k c j = if p ≤ j ∧ j < p + k then f (j - p) else m c j
  | 0, j => by rw [if_neg (by omega)]; rfl
  | k + 1, j => by
    show bwr (bwr _ c _ _) o l _ c j = _
    rw [bwr_ne _ _ hc]
    show (if c = c then (if j = p + k then f k else fdW m c o l p f k c j) else _) = _
    rw [if_pos rfl, fdW_c m c o l p f hc k j]
    by_cases h : j = p + k
    · rw [if_pos h, if_pos (by omega), show j - p = k by omega]
    · rw [if_neg h]
      by_cases h2 : p ≤ j ∧ j < p + k
      · rw [if_pos h2, if_pos (by omega)]
      · rw [if_neg h2, if_neg (by omega)]
theorem sp_V_feed (n : Nat) (e t : Int) (p : Nat) (m : bM) (hl : m 109 2 = (p : Int)) (hp : p ≤ 240) : sem (n + 3) 30 [aR 0, aL e, aI t] m = if 1 ≤ t ∧ t ≤ 8 then (if 240 < (p : Int) + t then some (m, -2) else some (fdW m 110 109 2 p (fun k => (kshr e ((8 * k : Nat) : Int) + 128) % 256 - 128) t.toNat, ((p + t.toNat : Nat) : Int))) else some (m, -1) := by
  rw [st_V_feed]
  by_cases h1 : 1 ≤ t ∧ t ≤ 8
  · have e0 : i32 ((p : Int) + t) = (p : Int) + t := i32_of (by omega) (by omega)
    by_cases h2 : 240 < (p : Int) + t
    · simp only [B_V_feed, kr_V_feed, sp_within, hl, e0, d_rLoc1, d_rLoc2, d_rFld1, d_rFld2, d_eInt, d_eLdc, d_eLdw, d_eLoc, d_eFld, d_lFld, d_eAI, d_eAZ, d_eAB, d_lAL, d_eAD, d_eLen, d_eAdd, d_eSub, d_eMul, d_eAnd, d_eOr, d_eXor, d_eShl, d_eShr, d_eUsh, d_lAdd, d_lSub, d_lMul, d_lAnd, d_lOr, d_lXor, d_lShl, d_lShr, d_eDiv, d_eRem, d_eCmp, d_eI2B, d_eI2S, d_eL2I, d_lI2L, d_lInt, d_lLdc, d_lLoc, d_eIte, d_lIte, d_eMax, d_eMin, d_eAbs, d_eAbove, d_eBodies, d_cQ, d_cZ, d_cNot, d_cAnd, d_cOr, d_gNil, d_gI, d_gL, d_gR, d_gD, d_xV, d_xS, d_xN, d_xT, d_eCall, d_lCall, d_eCallC, d_sNop, d_sSet, d_sSetL, d_sSetR, d_sSetQ, d_sInc, d_sPutI, d_sPutZ, d_sPutL, d_sPutA, d_sPutAZ, d_sPutAB, d_sPutAL, d_sPutD, d_sOpF, d_sOpA, d_sCall, d_sCopy, d_sSeq, d_sIf, d_sBrk, d_sCnt, d_sRetV, d_sRet, d_sRetL, d_sLp, d_tDef, d_tCase, d_sSw, d_sSwB, bIt_d, itb_0, itb_1, itb_2, itb_r, its_0, sqk_0, sqk_1, sqk_2, sqk_r, swk_0, swk_1, swk_r, bfin_r, bfin_ite, Option.bind_some, Option.map_some, Option.bind_none, Option.map_none, bind_ite, map_ite, cop0, cop1, cop2, cop3, cop4, cop5, opv0, opv1, opv2, opv3, brc_i, brc_z, two_ne_one, false_or, getI, getR, getL, List.getElem?_cons_zero, List.getElem?_cons_succ, List.set_cons_zero, List.set_cons_succ, bnl, if_true, if_false, true_or, or_true, decide_eq_true_eq, Bool.not_eq_true', decide_eq_false_iff_not, Bool.not_true, Bool.not_false, Bool.true_eq_false, Bool.false_eq_true, ite_not, reduceIte, ite01_0, ite01_1, Decidable.not_not, ne_eq, not_true_eq_false, not_false_eq_true, Function.comp_apply, decide_not, Bool.not_not, Bool.not_eq_false']
      simp [h1, h2]
    · have f1 : ∀ n, sem (n + 1) 156 [aR 109, aL e, aI t] m = some (fdW m 110 109 2 p (fun k => (kshr e ((8 * k : Nat) : Int) + 128) % 256 - 128) t.toNat, 0) := fun n => by
        rw [st_Reader_append]
        simp only [B_Reader_append, kr_Reader_append, d_rLoc1, d_rLoc2, d_rFld1, d_rFld2, d_eInt, d_eLdc, d_eLdw, d_eLoc, d_eFld, d_lFld, d_eAI, d_eAZ, d_eAB, d_lAL, d_eAD, d_eLen, d_eAdd, d_eSub, d_eMul, d_eAnd, d_eOr, d_eXor, d_eShl, d_eShr, d_eUsh, d_lAdd, d_lSub, d_lMul, d_lAnd, d_lOr, d_lXor, d_lShl, d_lShr, d_eDiv, d_eRem, d_eCmp, d_eI2B, d_eI2S, d_eL2I, d_lI2L, d_lInt, d_lLdc, d_lLoc, d_eIte, d_lIte, d_eMax, d_eMin, d_eAbs, d_eAbove, d_eBodies, d_cQ, d_cZ, d_cNot, d_cAnd, d_cOr, d_gNil, d_gI, d_gL, d_gR, d_gD, d_xV, d_xS, d_xN, d_xT, d_eCall, d_lCall, d_eCallC, d_sNop, d_sSet, d_sSetL, d_sSetR, d_sSetQ, d_sInc, d_sPutI, d_sPutZ, d_sPutL, d_sPutA, d_sPutAZ, d_sPutAB, d_sPutAL, d_sPutD, d_sOpF, d_sOpA, d_sCall, d_sCopy, d_sSeq, d_sIf, d_sBrk, d_sCnt, d_sRetV, d_sRet, d_sRetL, d_sLp, d_tDef, d_tCase, d_sSw, d_sSwB, bIt_d, itb_0, itb_1, itb_2, itb_r, its_0, sqk_0, sqk_1, sqk_2, sqk_r, swk_0, swk_1, swk_r, bfin_r, bfin_ite, Option.bind_some, Option.map_some, Option.bind_none, Option.map_none, bind_ite, map_ite, cop0, cop1, cop2, cop3, cop4, cop5, opv0, opv1, opv2, opv3, brc_i, brc_z, two_ne_one, false_or, getI, getR, getL, List.getElem?_cons_zero, List.getElem?_cons_succ, List.set_cons_zero, List.set_cons_succ, bnl, if_true, if_false, true_or, or_true, decide_eq_true_eq, Bool.not_eq_true', decide_eq_false_iff_not, Bool.not_true, Bool.not_false, Bool.true_eq_false, Bool.false_eq_true, ite_not, reduceIte, ite01_0, ite01_1, Decidable.not_not, ne_eq, not_true_eq_false, not_false_eq_true, Function.comp_apply, decide_not, Bool.not_not, Bool.not_eq_false']
        rw [lp_append n e t p m h1 hl (by omega)]
        simp only [kr_Reader_append, d_rLoc1, d_rLoc2, d_rFld1, d_rFld2, d_eInt, d_eLdc, d_eLdw, d_eLoc, d_eFld, d_lFld, d_eAI, d_eAZ, d_eAB, d_lAL, d_eAD, d_eLen, d_eAdd, d_eSub, d_eMul, d_eAnd, d_eOr, d_eXor, d_eShl, d_eShr, d_eUsh, d_lAdd, d_lSub, d_lMul, d_lAnd, d_lOr, d_lXor, d_lShl, d_lShr, d_eDiv, d_eRem, d_eCmp, d_eI2B, d_eI2S, d_eL2I, d_lI2L, d_lInt, d_lLdc, d_lLoc, d_eIte, d_lIte, d_eMax, d_eMin, d_eAbs, d_eAbove, d_eBodies, d_cQ, d_cZ, d_cNot, d_cAnd, d_cOr, d_gNil, d_gI, d_gL, d_gR, d_gD, d_xV, d_xS, d_xN, d_xT, d_eCall, d_lCall, d_eCallC, d_sNop, d_sSet, d_sSetL, d_sSetR, d_sSetQ, d_sInc, d_sPutI, d_sPutZ, d_sPutL, d_sPutA, d_sPutAZ, d_sPutAB, d_sPutAL, d_sPutD, d_sOpF, d_sOpA, d_sCall, d_sCopy, d_sSeq, d_sIf, d_sBrk, d_sCnt, d_sRetV, d_sRet, d_sRetL, d_sLp, d_tDef, d_tCase, d_sSw, d_sSwB, bIt_d, itb_0, itb_1, itb_2, itb_r, its_0, sqk_0, sqk_1, sqk_2, sqk_r, swk_0, swk_1, swk_r, bfin_r, bfin_ite, Option.bind_some, Option.map_some, Option.bind_none, Option.map_none, bind_ite, map_ite, cop0, cop1, cop2, cop3, cop4, cop5, opv0, opv1, opv2, opv3, brc_i, brc_z, two_ne_one, false_or, getI, getR, getL, List.getElem?_cons_zero, List.getElem?_cons_succ, List.set_cons_zero, List.set_cons_succ, bnl, if_true, if_false, true_or, or_true, decide_eq_true_eq, Bool.not_eq_true', decide_eq_false_iff_not, Bool.not_true, Bool.not_false, Bool.true_eq_false, Bool.false_eq_true, ite_not, reduceIte, ite01_0, ite01_1, Decidable.not_not, ne_eq, not_true_eq_false, not_false_eq_true, Function.comp_apply, decide_not, Bool.not_not, Bool.not_eq_false']
      have hw := fdW_l m 110 109 2 p (fun k => (kshr e ((8 * k : Nat) : Int) + 128) % 256 - 128) hl t.toNat
      simp only [B_V_feed, kr_V_feed, sp_within, hl, e0, f1, hw, d_rLoc1, d_rLoc2, d_rFld1, d_rFld2, d_eInt, d_eLdc, d_eLdw, d_eLoc, d_eFld, d_lFld, d_eAI, d_eAZ, d_eAB, d_lAL, d_eAD, d_eLen, d_eAdd, d_eSub, d_eMul, d_eAnd, d_eOr, d_eXor, d_eShl, d_eShr, d_eUsh, d_lAdd, d_lSub, d_lMul, d_lAnd, d_lOr, d_lXor, d_lShl, d_lShr, d_eDiv, d_eRem, d_eCmp, d_eI2B, d_eI2S, d_eL2I, d_lI2L, d_lInt, d_lLdc, d_lLoc, d_eIte, d_lIte, d_eMax, d_eMin, d_eAbs, d_eAbove, d_eBodies, d_cQ, d_cZ, d_cNot, d_cAnd, d_cOr, d_gNil, d_gI, d_gL, d_gR, d_gD, d_xV, d_xS, d_xN, d_xT, d_eCall, d_lCall, d_eCallC, d_sNop, d_sSet, d_sSetL, d_sSetR, d_sSetQ, d_sInc, d_sPutI, d_sPutZ, d_sPutL, d_sPutA, d_sPutAZ, d_sPutAB, d_sPutAL, d_sPutD, d_sOpF, d_sOpA, d_sCall, d_sCopy, d_sSeq, d_sIf, d_sBrk, d_sCnt, d_sRetV, d_sRet, d_sRetL, d_sLp, d_tDef, d_tCase, d_sSw, d_sSwB, bIt_d, itb_0, itb_1, itb_2, itb_r, its_0, sqk_0, sqk_1, sqk_2, sqk_r, swk_0, swk_1, swk_r, bfin_r, bfin_ite, Option.bind_some, Option.map_some, Option.bind_none, Option.map_none, bind_ite, map_ite, cop0, cop1, cop2, cop3, cop4, cop5, opv0, opv1, opv2, opv3, brc_i, brc_z, two_ne_one, false_or, getI, getR, getL, List.getElem?_cons_zero, List.getElem?_cons_succ, List.set_cons_zero, List.set_cons_succ, bnl, if_true, if_false, true_or, or_true, decide_eq_true_eq, Bool.not_eq_true', decide_eq_false_iff_not, Bool.not_true, Bool.not_false, Bool.true_eq_false, Bool.false_eq_true, ite_not, reduceIte, ite01_0, ite01_1, Decidable.not_not, ne_eq, not_true_eq_false, not_false_eq_true, Function.comp_apply, decide_not, Bool.not_not, Bool.not_eq_false']
  · simp only [B_V_feed, kr_V_feed, sp_within, d_rLoc1, d_rLoc2, d_rFld1, d_rFld2, d_eInt, d_eLdc, d_eLdw, d_eLoc, d_eFld, d_lFld, d_eAI, d_eAZ, d_eAB, d_lAL, d_eAD, d_eLen, d_eAdd, d_eSub, d_eMul, d_eAnd, d_eOr, d_eXor, d_eShl, d_eShr, d_eUsh, d_lAdd, d_lSub, d_lMul, d_lAnd, d_lOr, d_lXor, d_lShl, d_lShr, d_eDiv, d_eRem, d_eCmp, d_eI2B, d_eI2S, d_eL2I, d_lI2L, d_lInt, d_lLdc, d_lLoc, d_eIte, d_lIte, d_eMax, d_eMin, d_eAbs, d_eAbove, d_eBodies, d_cQ, d_cZ, d_cNot, d_cAnd, d_cOr, d_gNil, d_gI, d_gL, d_gR, d_gD, d_xV, d_xS, d_xN, d_xT, d_eCall, d_lCall, d_eCallC, d_sNop, d_sSet, d_sSetL, d_sSetR, d_sSetQ, d_sInc, d_sPutI, d_sPutZ, d_sPutL, d_sPutA, d_sPutAZ, d_sPutAB, d_sPutAL, d_sPutD, d_sOpF, d_sOpA, d_sCall, d_sCopy, d_sSeq, d_sIf, d_sBrk, d_sCnt, d_sRetV, d_sRet, d_sRetL, d_sLp, d_tDef, d_tCase, d_sSw, d_sSwB, bIt_d, itb_0, itb_1, itb_2, itb_r, its_0, sqk_0, sqk_1, sqk_2, sqk_r, swk_0, swk_1, swk_r, bfin_r, bfin_ite, Option.bind_some, Option.map_some, Option.bind_none, Option.map_none, bind_ite, map_ite, cop0, cop1, cop2, cop3, cop4, cop5, opv0, opv1, opv2, opv3, brc_i, brc_z, two_ne_one, false_or, getI, getR, getL, List.getElem?_cons_zero, List.getElem?_cons_succ, List.set_cons_zero, List.set_cons_succ, bnl, if_true, if_false, true_or, or_true, decide_eq_true_eq, Bool.not_eq_true', decide_eq_false_iff_not, Bool.not_true, Bool.not_false, Bool.true_eq_false, Bool.false_eq_true, ite_not, reduceIte, ite01_0, ite01_1, Decidable.not_not, ne_eq, not_true_eq_false, not_false_eq_true, Function.comp_apply, decide_not, Bool.not_not, Bool.not_eq_false']
    simp [h1]
theorem sp_M_feed (n : Nat) (e t : Int) (p : Nat) (m : bM) (hl : m 132 65 = (p : Int)) (hp : p ≤ 240) : sem (n + 3) 88 [aR 132, aL e, aI t] m = if 1 ≤ t ∧ t ≤ 8 then (if 240 < (p : Int) + t then some (m, -2) else some (fdW m 192 132 65 p (fun k => kshr e ((8 * k : Nat) : Int) % 256) t.toNat, ((p + t.toNat : Nat) : Int))) else some (m, -1) := by
  rw [st_M_feed]
  by_cases h1 : 1 ≤ t ∧ t ≤ 8
  · have e0 : i32 ((p : Int) + t) = (p : Int) + t := i32_of (by omega) (by omega)
    by_cases h2 : 240 < (p : Int) + t
    · simp only [B_M_feed, kr_M_feed, sp_in, hl, e0, d_rLoc1, d_rLoc2, d_rFld1, d_rFld2, d_eInt, d_eLdc, d_eLdw, d_eLoc, d_eFld, d_lFld, d_eAI, d_eAZ, d_eAB, d_lAL, d_eAD, d_eLen, d_eAdd, d_eSub, d_eMul, d_eAnd, d_eOr, d_eXor, d_eShl, d_eShr, d_eUsh, d_lAdd, d_lSub, d_lMul, d_lAnd, d_lOr, d_lXor, d_lShl, d_lShr, d_eDiv, d_eRem, d_eCmp, d_eI2B, d_eI2S, d_eL2I, d_lI2L, d_lInt, d_lLdc, d_lLoc, d_eIte, d_lIte, d_eMax, d_eMin, d_eAbs, d_eAbove, d_eBodies, d_cQ, d_cZ, d_cNot, d_cAnd, d_cOr, d_gNil, d_gI, d_gL, d_gR, d_gD, d_xV, d_xS, d_xN, d_xT, d_eCall, d_lCall, d_eCallC, d_sNop, d_sSet, d_sSetL, d_sSetR, d_sSetQ, d_sInc, d_sPutI, d_sPutZ, d_sPutL, d_sPutA, d_sPutAZ, d_sPutAB, d_sPutAL, d_sPutD, d_sOpF, d_sOpA, d_sCall, d_sCopy, d_sSeq, d_sIf, d_sBrk, d_sCnt, d_sRetV, d_sRet, d_sRetL, d_sLp, d_tDef, d_tCase, d_sSw, d_sSwB, bIt_d, itb_0, itb_1, itb_2, itb_r, its_0, sqk_0, sqk_1, sqk_2, sqk_r, swk_0, swk_1, swk_r, bfin_r, bfin_ite, Option.bind_some, Option.map_some, Option.bind_none, Option.map_none, bind_ite, map_ite, cop0, cop1, cop2, cop3, cop4, cop5, opv0, opv1, opv2, opv3, brc_i, brc_z, two_ne_one, false_or, getI, getR, getL, List.getElem?_cons_zero, List.getElem?_cons_succ, List.set_cons_zero, List.set_cons_succ, bnl, if_true, if_false, true_or, or_true, decide_eq_true_eq, Bool.not_eq_true', decide_eq_false_iff_not, Bool.not_true, Bool.not_false, Bool.true_eq_false, Bool.false_eq_true, ite_not, reduceIte, ite01_0, ite01_1, Decidable.not_not, ne_eq, not_true_eq_false, not_false_eq_true, Function.comp_apply, decide_not, Bool.not_not, Bool.not_eq_false']
      simp [h1, h2]
    · have f1 := fun n => lp_M_feed n e t p m h1 hl (by omega)
      have hw := fdW_l m 192 132 65 p (fun k => kshr e ((8 * k : Nat) : Int) % 256) hl t.toNat
      simp only [B_M_feed, kr_M_feed, sp_in, hl, e0, f1, hw, d_rLoc1, d_rLoc2, d_rFld1, d_rFld2, d_eInt, d_eLdc, d_eLdw, d_eLoc, d_eFld, d_lFld, d_eAI, d_eAZ, d_eAB, d_lAL, d_eAD, d_eLen, d_eAdd, d_eSub, d_eMul, d_eAnd, d_eOr, d_eXor, d_eShl, d_eShr, d_eUsh, d_lAdd, d_lSub, d_lMul, d_lAnd, d_lOr, d_lXor, d_lShl, d_lShr, d_eDiv, d_eRem, d_eCmp, d_eI2B, d_eI2S, d_eL2I, d_lI2L, d_lInt, d_lLdc, d_lLoc, d_eIte, d_lIte, d_eMax, d_eMin, d_eAbs, d_eAbove, d_eBodies, d_cQ, d_cZ, d_cNot, d_cAnd, d_cOr, d_gNil, d_gI, d_gL, d_gR, d_gD, d_xV, d_xS, d_xN, d_xT, d_eCall, d_lCall, d_eCallC, d_sNop, d_sSet, d_sSetL, d_sSetR, d_sSetQ, d_sInc, d_sPutI, d_sPutZ, d_sPutL, d_sPutA, d_sPutAZ, d_sPutAB, d_sPutAL, d_sPutD, d_sOpF, d_sOpA, d_sCall, d_sCopy, d_sSeq, d_sIf, d_sBrk, d_sCnt, d_sRetV, d_sRet, d_sRetL, d_sLp, d_tDef, d_tCase, d_sSw, d_sSwB, bIt_d, itb_0, itb_1, itb_2, itb_r, its_0, sqk_0, sqk_1, sqk_2, sqk_r, swk_0, swk_1, swk_r, bfin_r, bfin_ite, Option.bind_some, Option.map_some, Option.bind_none, Option.map_none, bind_ite, map_ite, cop0, cop1, cop2, cop3, cop4, cop5, opv0, opv1, opv2, opv3, brc_i, brc_z, two_ne_one, false_or, getI, getR, getL, List.getElem?_cons_zero, List.getElem?_cons_succ, List.set_cons_zero, List.set_cons_succ, bnl, if_true, if_false, true_or, or_true, decide_eq_true_eq, Bool.not_eq_true', decide_eq_false_iff_not, Bool.not_true, Bool.not_false, Bool.true_eq_false, Bool.false_eq_true, ite_not, reduceIte, ite01_0, ite01_1, Decidable.not_not, ne_eq, not_true_eq_false, not_false_eq_true, Function.comp_apply, decide_not, Bool.not_not, Bool.not_eq_false']
  · simp only [B_M_feed, kr_M_feed, sp_in, d_rLoc1, d_rLoc2, d_rFld1, d_rFld2, d_eInt, d_eLdc, d_eLdw, d_eLoc, d_eFld, d_lFld, d_eAI, d_eAZ, d_eAB, d_lAL, d_eAD, d_eLen, d_eAdd, d_eSub, d_eMul, d_eAnd, d_eOr, d_eXor, d_eShl, d_eShr, d_eUsh, d_lAdd, d_lSub, d_lMul, d_lAnd, d_lOr, d_lXor, d_lShl, d_lShr, d_eDiv, d_eRem, d_eCmp, d_eI2B, d_eI2S, d_eL2I, d_lI2L, d_lInt, d_lLdc, d_lLoc, d_eIte, d_lIte, d_eMax, d_eMin, d_eAbs, d_eAbove, d_eBodies, d_cQ, d_cZ, d_cNot, d_cAnd, d_cOr, d_gNil, d_gI, d_gL, d_gR, d_gD, d_xV, d_xS, d_xN, d_xT, d_eCall, d_lCall, d_eCallC, d_sNop, d_sSet, d_sSetL, d_sSetR, d_sSetQ, d_sInc, d_sPutI, d_sPutZ, d_sPutL, d_sPutA, d_sPutAZ, d_sPutAB, d_sPutAL, d_sPutD, d_sOpF, d_sOpA, d_sCall, d_sCopy, d_sSeq, d_sIf, d_sBrk, d_sCnt, d_sRetV, d_sRet, d_sRetL, d_sLp, d_tDef, d_tCase, d_sSw, d_sSwB, bIt_d, itb_0, itb_1, itb_2, itb_r, its_0, sqk_0, sqk_1, sqk_2, sqk_r, swk_0, swk_1, swk_r, bfin_r, bfin_ite, Option.bind_some, Option.map_some, Option.bind_none, Option.map_none, bind_ite, map_ite, cop0, cop1, cop2, cop3, cop4, cop5, opv0, opv1, opv2, opv3, brc_i, brc_z, two_ne_one, false_or, getI, getR, getL, List.getElem?_cons_zero, List.getElem?_cons_succ, List.set_cons_zero, List.set_cons_succ, bnl, if_true, if_false, true_or, or_true, decide_eq_true_eq, Bool.not_eq_true', decide_eq_false_iff_not, Bool.not_true, Bool.not_false, Bool.true_eq_false, Bool.false_eq_true, ite_not, reduceIte, ite01_0, ite01_1, Decidable.not_not, ne_eq, not_true_eq_false, not_false_eq_true, Function.comp_apply, decide_not, Bool.not_not, Bool.not_eq_false']
    simp [h1]
theorem Inv_tp {i : Nat} {m m2 : bM} (hI : Inv i m) (ho : ∀ i, i ≠ 109 → i ≠ 110 → i ≠ 132 → i ≠ 192 → m2 i = m i) (hM : ∀ k, k ≠ 65 → m2 132 k = m 132 k) (ht : TapeOK m2) : Inv (i + 1) m2 := by
  have hR := Inv_rel hI
  have hN := Inv_ngt hI
  obtain ⟨k1, k2⟩ := Inv_kept hI
  have hq : ∀ i, i < 109 ∨ 111 ≤ i ∧ i < 132 ∨ 133 ≤ i ∧ i < 192 ∨ 193 ≤ i → m2 i = m i := fun i h => ho i (by omega) (by omega) (by omega) (by omega)
  have aS : agS m2 m := ⟨⟨fun i a b => hq i (by omega), by rw [hq 17 (by decide)]⟩, hq 24 (by decide), hq 26 (by decide)⟩
  have aT : agT m2 m := ⟨hq 44 (by decide), hq 46 (by decide), by rw [hq 37 (by decide)]⟩
  have aF : agF m2 m := ⟨hq 45 (by decide), hq 48 (by decide), hq 49 (by decide), by rw [hq 37 (by decide)]⟩
  have aV : agV m2 m := fun i a b => hq i (by omega)
  refine ⟨Rel_congr hR (fun i a b => hq i (by omega)) (fun i a b => hq i (by omega)), ?_, NgtC_congr hN aV aS aT (fun i a b => hq i (by omega)), ?_, HostOK_congr (Inv_host hI) (fun i a b => hq i (by omega)) (fun i a b => hq i (by omega)) (hM _ (by decide)), TourOK_congr (Inv_tour hI) (hq 117 (by decide)) (hq 118 (by decide)) (hq 119 (by decide)) (hq 195 (by decide)) (hq 196 (by decide)) (fun k hk => hM k (by omega)), ht⟩
  · rw [hM 47 (by decide), hq 0 (by decide)]
    refine ⟨k1, k2.imp id (fun q => ⟨q.1, ?_⟩)⟩
    refine Rel_congr q.2 (fun i a b => ?_) (fun i a b => ?_)
    · show m2 (kcell i) = m (kcell i)
      have : kcell i ≤ 105 ∧ 9 ≤ kcell i := by unfold kcell; split <;> (try split) <;> (try split) <;> (try split) <;> omega
      exact hq _ (by omega)
    · unfold kR
      rw [hq 178 (by decide)]
  · rw [hM 53 (by decide)]
    exact (Inv_fresh hI).imp id (fun q => ⟨q.1, NgtR_congr q.2 aV aS aT aF (hM 59 (by decide)) (fun i a b => hq i (by omega))⟩)
theorem step_feed {n i : Nat} {m : bM} (hI : Inv i m) (hi : i < 100) (e t : Int) : ∃ m1 m2 v, sem (n + 3) 30 [aR 0, aL e, aI t] m = some (m1, v) ∧ sem (n + 3) 88 [aR 132, aL e, aI t] m1 = some (m2, v) ∧ Inv (i + 1) m2 := by
  have hP := Inv_tape hI
  obtain ⟨l1, l2, l3⟩ := TapeOK_len hP
  obtain ⟨p, hp⟩ : ∃ p : Nat, m 109 2 = (p : Int) := ⟨(m 109 2).toNat, by omega⟩
  have hp2 : m 132 65 = (p : Int) := by omega
  have hp3 : p ≤ 240 := by omega
  by_cases h1 : 1 ≤ t ∧ t ≤ 8
  · by_cases h2 : 240 < (p : Int) + t
    · exact ⟨_, _, _, (sp_V_feed n e t p m hp hp3).trans ((if_pos h1).trans (if_pos h2)), (sp_M_feed n e t p m hp2 hp3).trans ((if_pos h1).trans (if_pos h2)), Inv_same hI⟩
    · have e1 := (sp_V_feed n e t p m hp hp3).trans ((if_pos h1).trans (if_neg h2))
      obtain ⟨m1, hm1⟩ : ∃ m1, m1 = fdW m 110 109 2 p (fun k => (kshr e ((8 * k : Nat) : Int) + 128) % 256 - 128) t.toNat := ⟨_, rfl⟩
      rw [← hm1] at e1
      have o1 : ∀ i, i ≠ 110 → i ≠ 109 → m1 i = m i := fun i a b => by rw [hm1, fdW_ne _ _ _ _ _ _ _ _ a b]
      have e2 := (sp_M_feed n e t p m1 (by rw [o1 132 (by decide) (by decide)]; exact hp2) hp3).trans ((if_pos h1).trans (if_neg h2))
      obtain ⟨m2, hm2⟩ : ∃ m2, m2 = fdW m1 192 132 65 p (fun k => kshr e ((8 * k : Nat) : Int) % 256) t.toNat := ⟨_, rfl⟩
      rw [← hm2] at e2
      have o2 : ∀ i, i ≠ 192 → i ≠ 132 → m2 i = m1 i := fun i a b => by rw [hm2, fdW_ne _ _ _ _ _ _ _ _ a b]
      refine ⟨_, _, _, e1, e2, Inv_tp hI (fun i a b c d => by rw [o2 i d c, o1 i b a]) (fun k hk => by rw [hm2, fdW_o _ _ _ _ _ _ (by decide) _ _ hk, o1 132 (by decide) (by decide)]) ⟨?_, ?_⟩⟩
      · have w1 : m2 109 2 = ((p + t.toNat : Nat) : Int) := by
          rw [o2 109 (by decide) (by decide), hm1]; exact fdW_l _ _ _ _ _ _ hp _
        have w2 : m2 132 65 = ((p + t.toNat : Nat) : Int) := by
          rw [hm2]; exact fdW_l _ _ _ _ _ _ (by rw [o1 132 (by decide) (by decide)]; exact hp2) _
        rw [w1, w2]
        omega
      · intro k hk
        rw [o2 110 (by decide) (by decide), hm2, fdW_c _ _ _ _ _ _ (by decide), o1 192 (by decide) (by decide), hm1, fdW_c _ _ _ _ _ _ (by decide)]
        by_cases h3 : p ≤ k ∧ k < p + t.toNat
        · simp only [if_pos h3]
          generalize kshr e _ = z
          refine ⟨by omega, by omega, ?_⟩
          split <;> omega
        · simp only [if_neg h3]
          exact TapeOK_tape hP k hk
  · exact ⟨_, _, _, (sp_V_feed n e t p m hp hp3).trans (if_neg h1), (sp_M_feed n e t p m hp2 hp3).trans (if_neg h1), Inv_same hI⟩
