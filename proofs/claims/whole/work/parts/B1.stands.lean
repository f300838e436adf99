/-! ===== the reference's names that stand ===== -/
def fitB (c : bM) (n p : Nat) : Bool := decide (c 42 n = c 38 p) && (decide (c 41 p = 0) && (decide (c 43 n = -1) || decide (c 43 n = c 39 p)))
def fitW (c : bM) (w : Int) (n p : Nat) : Bool := decide ((p : Int) < c 37 12) && (!decide ((p : Int) = w) && fitB c n p)
theorem fitB_congr {c c1 : bM} (h : ∀ i, 37 ≤ i → i ≤ 49 → c1 i = c i) (n p : Nat) : fitB c1 n p = fitB c n p := by
  unfold fitB
  rw [h 42 (by decide) (by decide), h 38 (by decide) (by decide), h 41 (by decide) (by decide), h 43 (by decide) (by decide), h 39 (by decide) (by decide)]
theorem mfi (n : Nat) (m : bM) (j p a b c d e : Int) (J P : Nat) (f1 : 0 ≤ j ∧ j < ((16 : Nat) : Int)) (tj : j.toNat = J) (f2 : 0 ≤ p ∧ p < ((16 : Nat) : Int)) (tp : p.toNat = P) (y1 : m 153 P = a) (y2 : m 154 J = b) (y3 : m 150 P = c) (y4 : m 155 J = d) (y5 : m 151 P = e) : sem (n + 1) 280 [aR 132, aI j, aI p] m = some (m, if b = c ∧ a = 0 ∧ (d = -1 ∨ d = e) then 1 else 0) := by
  rw [st_M_fits]
  simp only [B_M_fits, kr_M_fits, f1, tj, f2, tp, y1, y2, y3, y4, y5, d_rLoc1, d_rLoc2, d_rFld1, d_rFld2, d_eInt, d_eLdc, d_eLdw, d_eLoc, d_eFld, d_lFld, d_eAI, d_eAZ, d_eAB, d_lAL, d_eAD, d_eLen, d_eAdd, d_eSub, d_eMul, d_eAnd, d_eOr, d_eXor, d_eShl, d_eShr, d_eUsh, d_lAdd, d_lSub, d_lMul, d_lAnd, d_lOr, d_lXor, d_lShl, d_lShr, d_eDiv, d_eRem, d_eCmp, d_eI2B, d_eI2S, d_eL2I, d_lI2L, d_lInt, d_lLdc, d_lLoc, d_eIte, d_lIte, d_eMax, d_eMin, d_eAbs, d_eAbove, d_eBodies, d_cQ, d_cZ, d_cNot, d_cAnd, d_cOr, d_gNil, d_gI, d_gL, d_gR, d_gD, d_xV, d_xS, d_xN, d_xT, d_eCall, d_lCall, d_eCallC, d_sNop, d_sSet, d_sSetL, d_sSetR, d_sSetQ, d_sInc, d_sPutI, d_sPutZ, d_sPutL, d_sPutA, d_sPutAZ, d_sPutAB, d_sPutAL, d_sPutD, d_sOpF, d_sOpA, d_sCall, d_sCopy, d_sSeq, d_sIf, d_sBrk, d_sCnt, d_sRetV, d_sRet, d_sRetL, d_sLp, d_tDef, d_tCase, d_sSw, d_sSwB, bIt_d, itb_0, itb_1, itb_2, itb_r, its_0, sqk_0, sqk_1, sqk_2, sqk_r, swk_0, swk_1, swk_r, bfin_r, bfin_ite, Option.bind_some, Option.map_some, Option.bind_none, Option.map_none, bind_ite, map_ite, cop0, cop1, cop2, cop3, cop4, cop5, opv0, opv1, opv2, opv3, brc_i, brc_z, two_ne_one, false_or, getI, getR, getL, List.getElem?_cons_zero, List.getElem?_cons_succ, List.set_cons_zero, List.set_cons_succ, bnl, if_true, if_false, true_or, or_true, decide_eq_true_eq, Bool.not_eq_true', decide_eq_false_iff_not, Bool.not_true, Bool.not_false, Bool.true_eq_false, Bool.false_eq_true, ite_not, reduceIte, ite01_0, ite01_1, Decidable.not_not, ne_eq, not_true_eq_false, not_false_eq_true, Function.comp_apply, decide_not, Bool.not_not, Bool.not_eq_false', dc_t, dc_f, and_self, true_and, and_true, and_false, false_and, tnc, Int.reduceLT, Int.reduceLE, Int.reduceEq, Int.reduceAdd, Int.reduceSub, Int.reduceMul, Int.reduceToNat, Int.reduceNeg, Int.reduceNe]
  by_cases h1 : a = 0 <;> by_cases h2 : b = c <;> by_cases h3 : d = -1 <;> by_cases h4 : d = e <;> simp [h1, h2, h3, h4]
theorem sp_M_fits (n j p : Nat) (hj : j < 16) (hp : p < 16) (m : bM) (hF : RelF m m) : sem (n + 1) 280 [aR 132, aI (j : Int), aI (p : Int)] m = some (m, if fitB m j p = true then 1 else 0) := by
  have f1 : 0 ≤ (j : Int) ∧ (j : Int) < ((16 : Nat) : Int) := by omega
  have f2 : 0 ≤ (p : Int) ∧ (p : Int) < ((16 : Nat) : Int) := by omega
  rw [mfi n m _ _ _ _ _ _ _ j p f1 (tnc j) f2 (tnc p) (RelF_safe hF p hp) (RelF_nkin hF j hj) (RelF_kin hF p hp) (RelF_nhome hF j hj) (RelF_home hF p hp)]
  unfold fitB
  simp only [Bool.and_eq_true, Bool.or_eq_true, decide_eq_true_eq]
theorem sd_c (n : Nat) (m : bM) (j w p N : Int) (h7 : m 133 7 = N) (h : p < N) : L_M_stands_1c.1.2 (sem n) [some (aR 132), some (aI j), some (aI w), some (aI p)] m = some (true, m) := by
  simp only [L_M_stands_1c, nx_7, nm_7, h7, h, d_rLoc1, d_rLoc2, d_rFld1, d_rFld2, d_eInt, d_eLdc, d_eLdw, d_eLoc, d_eFld, d_lFld, d_eAI, d_eAZ, d_eAB, d_lAL, d_eAD, d_eLen, d_eAdd, d_eSub, d_eMul, d_eAnd, d_eOr, d_eXor, d_eShl, d_eShr, d_eUsh, d_lAdd, d_lSub, d_lMul, d_lAnd, d_lOr, d_lXor, d_lShl, d_lShr, d_eDiv, d_eRem, d_eCmp, d_eI2B, d_eI2S, d_eL2I, d_lI2L, d_lInt, d_lLdc, d_lLoc, d_eIte, d_lIte, d_eMax, d_eMin, d_eAbs, d_eAbove, d_eBodies, d_cQ, d_cZ, d_cNot, d_cAnd, d_cOr, d_gNil, d_gI, d_gL, d_gR, d_gD, d_xV, d_xS, d_xN, d_xT, d_eCall, d_lCall, d_eCallC, d_sNop, d_sSet, d_sSetL, d_sSetR, d_sSetQ, d_sInc, d_sPutI, d_sPutZ, d_sPutL, d_sPutA, d_sPutAZ, d_sPutAB, d_sPutAL, d_sPutD, d_sOpF, d_sOpA, d_sCall, d_sCopy, d_sSeq, d_sIf, d_sBrk, d_sCnt, d_sRetV, d_sRet, d_sRetL, d_sLp, d_tDef, d_tCase, d_sSw, d_sSwB, bIt_d, itb_0, itb_1, itb_2, itb_r, its_0, sqk_0, sqk_1, sqk_2, sqk_r, swk_0, swk_1, swk_r, bfin_r, bfin_ite, Option.bind_some, Option.map_some, Option.bind_none, Option.map_none, bind_ite, map_ite, cop0, cop1, cop2, cop3, cop4, cop5, opv0, opv1, opv2, opv3, brc_i, brc_z, two_ne_one, false_or, getI, getR, getL, List.getElem?_cons_zero, List.getElem?_cons_succ, List.set_cons_zero, List.set_cons_succ, bnl, if_true, if_false, true_or, or_true, decide_eq_true_eq, Bool.not_eq_true', decide_eq_false_iff_not, Bool.not_true, Bool.not_false, Bool.true_eq_false, Bool.false_eq_true, ite_not, reduceIte, ite01_0, ite01_1, Decidable.not_not, ne_eq, not_true_eq_false, not_false_eq_true, Function.comp_apply, decide_not, Bool.not_not, Bool.not_eq_false', dc_t, dc_f, and_self, true_and, and_true, and_false, false_and, tnc]
theorem sd_x (n : Nat) (m : bM) (j w p N : Int) (h7 : m 133 7 = N) (h : ¬ p < N) : L_M_stands_1c.1.2 (sem n) [some (aR 132), some (aI j), some (aI w), some (aI p)] m = some (false, m) := by
  simp only [L_M_stands_1c, nx_7, nm_7, h7, h, d_rLoc1, d_rLoc2, d_rFld1, d_rFld2, d_eInt, d_eLdc, d_eLdw, d_eLoc, d_eFld, d_lFld, d_eAI, d_eAZ, d_eAB, d_lAL, d_eAD, d_eLen, d_eAdd, d_eSub, d_eMul, d_eAnd, d_eOr, d_eXor, d_eShl, d_eShr, d_eUsh, d_lAdd, d_lSub, d_lMul, d_lAnd, d_lOr, d_lXor, d_lShl, d_lShr, d_eDiv, d_eRem, d_eCmp, d_eI2B, d_eI2S, d_eL2I, d_lI2L, d_lInt, d_lLdc, d_lLoc, d_eIte, d_lIte, d_eMax, d_eMin, d_eAbs, d_eAbove, d_eBodies, d_cQ, d_cZ, d_cNot, d_cAnd, d_cOr, d_gNil, d_gI, d_gL, d_gR, d_gD, d_xV, d_xS, d_xN, d_xT, d_eCall, d_lCall, d_eCallC, d_sNop, d_sSet, d_sSetL, d_sSetR, d_sSetQ, d_sInc, d_sPutI, d_sPutZ, d_sPutL, d_sPutA, d_sPutAZ, d_sPutAB, d_sPutAL, d_sPutD, d_sOpF, d_sOpA, d_sCall, d_sCopy, d_sSeq, d_sIf, d_sBrk, d_sCnt, d_sRetV, d_sRet, d_sRetL, d_sLp, d_tDef, d_tCase, d_sSw, d_sSwB, bIt_d, itb_0, itb_1, itb_2, itb_r, its_0, sqk_0, sqk_1, sqk_2, sqk_r, swk_0, swk_1, swk_r, bfin_r, bfin_ite, Option.bind_some, Option.map_some, Option.bind_none, Option.map_none, bind_ite, map_ite, cop0, cop1, cop2, cop3, cop4, cop5, opv0, opv1, opv2, opv3, brc_i, brc_z, two_ne_one, false_or, getI, getR, getL, List.getElem?_cons_zero, List.getElem?_cons_succ, List.set_cons_zero, List.set_cons_succ, bnl, if_true, if_false, true_or, or_true, decide_eq_true_eq, Bool.not_eq_true', decide_eq_false_iff_not, Bool.not_true, Bool.not_false, Bool.true_eq_false, Bool.false_eq_true, ite_not, reduceIte, ite01_0, ite01_1, Decidable.not_not, ne_eq, not_true_eq_false, not_false_eq_true, Function.comp_apply, decide_not, Bool.not_not, Bool.not_eq_false', dc_t, dc_f, and_self, true_and, and_true, and_false, false_and, tnc]
theorem sd_s (n : Nat) (m : bM) (j w p y : Int) (h : i32 (p + 1) = y) : L_M_stands_1s.1.2 (sem n) [some (aR 132), some (aI j), some (aI w), some (aI p)] m = some (.inl (0, [some (aR 132), some (aI j), some (aI w), some (aI y)], m)) := by
  simp only [L_M_stands_1s, h, d_rLoc1, d_rLoc2, d_rFld1, d_rFld2, d_eInt, d_eLdc, d_eLdw, d_eLoc, d_eFld, d_lFld, d_eAI, d_eAZ, d_eAB, d_lAL, d_eAD, d_eLen, d_eAdd, d_eSub, d_eMul, d_eAnd, d_eOr, d_eXor, d_eShl, d_eShr, d_eUsh, d_lAdd, d_lSub, d_lMul, d_lAnd, d_lOr, d_lXor, d_lShl, d_lShr, d_eDiv, d_eRem, d_eCmp, d_eI2B, d_eI2S, d_eL2I, d_lI2L, d_lInt, d_lLdc, d_lLoc, d_eIte, d_lIte, d_eMax, d_eMin, d_eAbs, d_eAbove, d_eBodies, d_cQ, d_cZ, d_cNot, d_cAnd, d_cOr, d_gNil, d_gI, d_gL, d_gR, d_gD, d_xV, d_xS, d_xN, d_xT, d_eCall, d_lCall, d_eCallC, d_sNop, d_sSet, d_sSetL, d_sSetR, d_sSetQ, d_sInc, d_sPutI, d_sPutZ, d_sPutL, d_sPutA, d_sPutAZ, d_sPutAB, d_sPutAL, d_sPutD, d_sOpF, d_sOpA, d_sCall, d_sCopy, d_sSeq, d_sIf, d_sBrk, d_sCnt, d_sRetV, d_sRet, d_sRetL, d_sLp, d_tDef, d_tCase, d_sSw, d_sSwB, bIt_d, itb_0, itb_1, itb_2, itb_r, its_0, sqk_0, sqk_1, sqk_2, sqk_r, swk_0, swk_1, swk_r, bfin_r, bfin_ite, Option.bind_some, Option.map_some, Option.bind_none, Option.map_none, bind_ite, map_ite, cop0, cop1, cop2, cop3, cop4, cop5, opv0, opv1, opv2, opv3, brc_i, brc_z, two_ne_one, false_or, getI, getR, getL, List.getElem?_cons_zero, List.getElem?_cons_succ, List.set_cons_zero, List.set_cons_succ, bnl, if_true, if_false, true_or, or_true, decide_eq_true_eq, Bool.not_eq_true', decide_eq_false_iff_not, Bool.not_true, Bool.not_false, Bool.true_eq_false, Bool.false_eq_true, ite_not, reduceIte, ite01_0, ite01_1, Decidable.not_not, ne_eq, not_true_eq_false, not_false_eq_true, Function.comp_apply, decide_not, Bool.not_not, Bool.not_eq_false', dc_t, dc_f, and_self, true_and, and_true, and_false, false_and, tnc, Int.reduceLT, Int.reduceLE, Int.reduceEq, Int.reduceAdd, Int.reduceSub, Int.reduceMul, Int.reduceToNat, Int.reduceNeg, Int.reduceNe]
theorem sd_w (n : Nat) (m : bM) (j w p : Int) (h : p = w) : L_M_stands_1b.1.2 (sem n) [some (aR 132), some (aI j), some (aI w), some (aI p)] m = some (.inl (0, [some (aR 132), some (aI j), some (aI w), some (aI p)], m)) := by
  simp only [L_M_stands_1b, h, d_rLoc1, d_rLoc2, d_rFld1, d_rFld2, d_eInt, d_eLdc, d_eLdw, d_eLoc, d_eFld, d_lFld, d_eAI, d_eAZ, d_eAB, d_lAL, d_eAD, d_eLen, d_eAdd, d_eSub, d_eMul, d_eAnd, d_eOr, d_eXor, d_eShl, d_eShr, d_eUsh, d_lAdd, d_lSub, d_lMul, d_lAnd, d_lOr, d_lXor, d_lShl, d_lShr, d_eDiv, d_eRem, d_eCmp, d_eI2B, d_eI2S, d_eL2I, d_lI2L, d_lInt, d_lLdc, d_lLoc, d_eIte, d_lIte, d_eMax, d_eMin, d_eAbs, d_eAbove, d_eBodies, d_cQ, d_cZ, d_cNot, d_cAnd, d_cOr, d_gNil, d_gI, d_gL, d_gR, d_gD, d_xV, d_xS, d_xN, d_xT, d_eCall, d_lCall, d_eCallC, d_sNop, d_sSet, d_sSetL, d_sSetR, d_sSetQ, d_sInc, d_sPutI, d_sPutZ, d_sPutL, d_sPutA, d_sPutAZ, d_sPutAB, d_sPutAL, d_sPutD, d_sOpF, d_sOpA, d_sCall, d_sCopy, d_sSeq, d_sIf, d_sBrk, d_sCnt, d_sRetV, d_sRet, d_sRetL, d_sLp, d_tDef, d_tCase, d_sSw, d_sSwB, bIt_d, itb_0, itb_1, itb_2, itb_r, its_0, sqk_0, sqk_1, sqk_2, sqk_r, swk_0, swk_1, swk_r, bfin_r, bfin_ite, Option.bind_some, Option.map_some, Option.bind_none, Option.map_none, bind_ite, map_ite, cop0, cop1, cop2, cop3, cop4, cop5, opv0, opv1, opv2, opv3, brc_i, brc_z, two_ne_one, false_or, getI, getR, getL, List.getElem?_cons_zero, List.getElem?_cons_succ, List.set_cons_zero, List.set_cons_succ, bnl, if_true, if_false, true_or, or_true, decide_eq_true_eq, Bool.not_eq_true', decide_eq_false_iff_not, Bool.not_true, Bool.not_false, Bool.true_eq_false, Bool.false_eq_true, ite_not, reduceIte, ite01_0, ite01_1, Decidable.not_not, ne_eq, not_true_eq_false, not_false_eq_true, Function.comp_apply, decide_not, Bool.not_not, Bool.not_eq_false', dc_t, dc_f, and_self, true_and, and_true, and_false, false_and, tnc, Int.reduceLT, Int.reduceLE, Int.reduceEq, Int.reduceAdd, Int.reduceSub, Int.reduceMul, Int.reduceToNat, Int.reduceNeg, Int.reduceNe]
theorem sd_f (n : Nat) (m : bM) (j w p : Int) (h : ¬ p = w) (e : sem n 280 [aR 132, aI j, aI p] m = some (m, 0)) : L_M_stands_1b.1.2 (sem n) [some (aR 132), some (aI j), some (aI w), some (aI p)] m = some (.inl (0, [some (aR 132), some (aI j), some (aI w), some (aI p)], m)) := by
  simp only [L_M_stands_1b, h, e, d_rLoc1, d_rLoc2, d_rFld1, d_rFld2, d_eInt, d_eLdc, d_eLdw, d_eLoc, d_eFld, d_lFld, d_eAI, d_eAZ, d_eAB, d_lAL, d_eAD, d_eLen, d_eAdd, d_eSub, d_eMul, d_eAnd, d_eOr, d_eXor, d_eShl, d_eShr, d_eUsh, d_lAdd, d_lSub, d_lMul, d_lAnd, d_lOr, d_lXor, d_lShl, d_lShr, d_eDiv, d_eRem, d_eCmp, d_eI2B, d_eI2S, d_eL2I, d_lI2L, d_lInt, d_lLdc, d_lLoc, d_eIte, d_lIte, d_eMax, d_eMin, d_eAbs, d_eAbove, d_eBodies, d_cQ, d_cZ, d_cNot, d_cAnd, d_cOr, d_gNil, d_gI, d_gL, d_gR, d_gD, d_xV, d_xS, d_xN, d_xT, d_eCall, d_lCall, d_eCallC, d_sNop, d_sSet, d_sSetL, d_sSetR, d_sSetQ, d_sInc, d_sPutI, d_sPutZ, d_sPutL, d_sPutA, d_sPutAZ, d_sPutAB, d_sPutAL, d_sPutD, d_sOpF, d_sOpA, d_sCall, d_sCopy, d_sSeq, d_sIf, d_sBrk, d_sCnt, d_sRetV, d_sRet, d_sRetL, d_sLp, d_tDef, d_tCase, d_sSw, d_sSwB, bIt_d, itb_0, itb_1, itb_2, itb_r, its_0, sqk_0, sqk_1, sqk_2, sqk_r, swk_0, swk_1, swk_r, bfin_r, bfin_ite, Option.bind_some, Option.map_some, Option.bind_none, Option.map_none, bind_ite, map_ite, cop0, cop1, cop2, cop3, cop4, cop5, opv0, opv1, opv2, opv3, brc_i, brc_z, two_ne_one, false_or, getI, getR, getL, List.getElem?_cons_zero, List.getElem?_cons_succ, List.set_cons_zero, List.set_cons_succ, bnl, if_true, if_false, true_or, or_true, decide_eq_true_eq, Bool.not_eq_true', decide_eq_false_iff_not, Bool.not_true, Bool.not_false, Bool.true_eq_false, Bool.false_eq_true, ite_not, reduceIte, ite01_0, ite01_1, Decidable.not_not, ne_eq, not_true_eq_false, not_false_eq_true, Function.comp_apply, decide_not, Bool.not_not, Bool.not_eq_false', dc_t, dc_f, and_self, true_and, and_true, and_false, false_and, tnc, Int.reduceLT, Int.reduceLE, Int.reduceEq, Int.reduceAdd, Int.reduceSub, Int.reduceMul, Int.reduceToNat, Int.reduceNeg, Int.reduceNe]
theorem sd_m (n : Nat) (m : bM) (j w p t : Int) (h : ¬ p = w) (e : sem n 280 [aR 132, aI j, aI p] m = some (m, 1)) (ht : m 132 63 = t) (hb : jand (jshr t p) 1 = 1) : L_M_stands_1b.1.2 (sem n) [some (aR 132), some (aI j), some (aI w), some (aI p)] m = some (.inl (0, [some (aR 132), some (aI j), some (aI w), some (aI p)], m)) := by
  simp only [L_M_stands_1b, h, e, ht, hb, d_rLoc1, d_rLoc2, d_rFld1, d_rFld2, d_eInt, d_eLdc, d_eLdw, d_eLoc, d_eFld, d_lFld, d_eAI, d_eAZ, d_eAB, d_lAL, d_eAD, d_eLen, d_eAdd, d_eSub, d_eMul, d_eAnd, d_eOr, d_eXor, d_eShl, d_eShr, d_eUsh, d_lAdd, d_lSub, d_lMul, d_lAnd, d_lOr, d_lXor, d_lShl, d_lShr, d_eDiv, d_eRem, d_eCmp, d_eI2B, d_eI2S, d_eL2I, d_lI2L, d_lInt, d_lLdc, d_lLoc, d_eIte, d_lIte, d_eMax, d_eMin, d_eAbs, d_eAbove, d_eBodies, d_cQ, d_cZ, d_cNot, d_cAnd, d_cOr, d_gNil, d_gI, d_gL, d_gR, d_gD, d_xV, d_xS, d_xN, d_xT, d_eCall, d_lCall, d_eCallC, d_sNop, d_sSet, d_sSetL, d_sSetR, d_sSetQ, d_sInc, d_sPutI, d_sPutZ, d_sPutL, d_sPutA, d_sPutAZ, d_sPutAB, d_sPutAL, d_sPutD, d_sOpF, d_sOpA, d_sCall, d_sCopy, d_sSeq, d_sIf, d_sBrk, d_sCnt, d_sRetV, d_sRet, d_sRetL, d_sLp, d_tDef, d_tCase, d_sSw, d_sSwB, bIt_d, itb_0, itb_1, itb_2, itb_r, its_0, sqk_0, sqk_1, sqk_2, sqk_r, swk_0, swk_1, swk_r, bfin_r, bfin_ite, Option.bind_some, Option.map_some, Option.bind_none, Option.map_none, bind_ite, map_ite, cop0, cop1, cop2, cop3, cop4, cop5, opv0, opv1, opv2, opv3, brc_i, brc_z, two_ne_one, false_or, getI, getR, getL, List.getElem?_cons_zero, List.getElem?_cons_succ, List.set_cons_zero, List.set_cons_succ, bnl, if_true, if_false, true_or, or_true, decide_eq_true_eq, Bool.not_eq_true', decide_eq_false_iff_not, Bool.not_true, Bool.not_false, Bool.true_eq_false, Bool.false_eq_true, ite_not, reduceIte, ite01_0, ite01_1, Decidable.not_not, ne_eq, not_true_eq_false, not_false_eq_true, Function.comp_apply, decide_not, Bool.not_not, Bool.not_eq_false', dc_t, dc_f, and_self, true_and, and_true, and_false, false_and, tnc, Int.reduceLT, Int.reduceLE, Int.reduceEq, Int.reduceAdd, Int.reduceSub, Int.reduceMul, Int.reduceToNat, Int.reduceNeg, Int.reduceNe]
theorem hmn (m : bM) (z : Int) : bwr m 132 63 z 191 = m 191 := bwr_ne _ z (by decide)
theorem sd_0 (n : Nat) (m : bM) (j w p t u x : Int) (P : Nat) (h : ¬ p = w) (e : sem n 280 [aR 132, aI j, aI p] m = some (m, 1)) (ht : m 132 63 = t) (hb : jand (jshr t p) 1 = 0) (hu : jor t (jshl 1 p) = u) (f1 : 0 ≤ p ∧ p < ((16 : Nat) : Int)) (tp : p.toNat = P) (hx : m 191 P = x) (hx0 : x < 0) : L_M_stands_1b.1.2 (sem n) [some (aR 132), some (aI j), some (aI w), some (aI p)] m = some (.inr (bwr (bwr m 132 63 u) 191 P j, 1)) := by
  simp only [L_M_stands_1b, h, e, ht, hb, hu, f1, tp, hmn, hx, hx0, d_rLoc1, d_rLoc2, d_rFld1, d_rFld2, d_eInt, d_eLdc, d_eLdw, d_eLoc, d_eFld, d_lFld, d_eAI, d_eAZ, d_eAB, d_lAL, d_eAD, d_eLen, d_eAdd, d_eSub, d_eMul, d_eAnd, d_eOr, d_eXor, d_eShl, d_eShr, d_eUsh, d_lAdd, d_lSub, d_lMul, d_lAnd, d_lOr, d_lXor, d_lShl, d_lShr, d_eDiv, d_eRem, d_eCmp, d_eI2B, d_eI2S, d_eL2I, d_lI2L, d_lInt, d_lLdc, d_lLoc, d_eIte, d_lIte, d_eMax, d_eMin, d_eAbs, d_eAbove, d_eBodies, d_cQ, d_cZ, d_cNot, d_cAnd, d_cOr, d_gNil, d_gI, d_gL, d_gR, d_gD, d_xV, d_xS, d_xN, d_xT, d_eCall, d_lCall, d_eCallC, d_sNop, d_sSet, d_sSetL, d_sSetR, d_sSetQ, d_sInc, d_sPutI, d_sPutZ, d_sPutL, d_sPutA, d_sPutAZ, d_sPutAB, d_sPutAL, d_sPutD, d_sOpF, d_sOpA, d_sCall, d_sCopy, d_sSeq, d_sIf, d_sBrk, d_sCnt, d_sRetV, d_sRet, d_sRetL, d_sLp, d_tDef, d_tCase, d_sSw, d_sSwB, bIt_d, itb_0, itb_1, itb_2, itb_r, its_0, sqk_0, sqk_1, sqk_2, sqk_r, swk_0, swk_1, swk_r, bfin_r, bfin_ite, Option.bind_some, Option.map_some, Option.bind_none, Option.map_none, bind_ite, map_ite, cop0, cop1, cop2, cop3, cop4, cop5, opv0, opv1, opv2, opv3, brc_i, brc_z, two_ne_one, false_or, getI, getR, getL, List.getElem?_cons_zero, List.getElem?_cons_succ, List.set_cons_zero, List.set_cons_succ, bnl, if_true, if_false, true_or, or_true, decide_eq_true_eq, Bool.not_eq_true', decide_eq_false_iff_not, Bool.not_true, Bool.not_false, Bool.true_eq_false, Bool.false_eq_true, ite_not, reduceIte, ite01_0, ite01_1, Decidable.not_not, ne_eq, not_true_eq_false, not_false_eq_true, Function.comp_apply, decide_not, Bool.not_not, Bool.not_eq_false', dc_t, dc_f, and_self, true_and, and_true, and_false, false_and, tnc, Int.reduceLT, Int.reduceLE, Int.reduceEq, Int.reduceAdd, Int.reduceSub, Int.reduceMul, Int.reduceToNat, Int.reduceNeg, Int.reduceNe]
theorem sd_1 (n : Nat) (m m2 : bM) (j w p t u x : Int) (P : Nat) (h : ¬ p = w) (e : sem n 280 [aR 132, aI j, aI p] m = some (m, 1)) (ht : m 132 63 = t) (hb : jand (jshr t p) 1 = 0) (hu : jor t (jshl 1 p) = u) (f1 : 0 ≤ p ∧ p < ((16 : Nat) : Int)) (tp : p.toNat = P) (hx : m 191 P = x) (hx0 : ¬ x < 0) (er : sem n 281 [aR 132, aI x, aI w] (bwr m 132 63 u) = some (m2, 1)) : L_M_stands_1b.1.2 (sem n) [some (aR 132), some (aI j), some (aI w), some (aI p)] m = some (.inr (bwr m2 191 P j, 1)) := by
  simp only [L_M_stands_1b, h, e, ht, hb, hu, f1, tp, hmn, hx, hx0, er, d_rLoc1, d_rLoc2, d_rFld1, d_rFld2, d_eInt, d_eLdc, d_eLdw, d_eLoc, d_eFld, d_lFld, d_eAI, d_eAZ, d_eAB, d_lAL, d_eAD, d_eLen, d_eAdd, d_eSub, d_eMul, d_eAnd, d_eOr, d_eXor, d_eShl, d_eShr, d_eUsh, d_lAdd, d_lSub, d_lMul, d_lAnd, d_lOr, d_lXor, d_lShl, d_lShr, d_eDiv, d_eRem, d_eCmp, d_eI2B, d_eI2S, d_eL2I, d_lI2L, d_lInt, d_lLdc, d_lLoc, d_eIte, d_lIte, d_eMax, d_eMin, d_eAbs, d_eAbove, d_eBodies, d_cQ, d_cZ, d_cNot, d_cAnd, d_cOr, d_gNil, d_gI, d_gL, d_gR, d_gD, d_xV, d_xS, d_xN, d_xT, d_eCall, d_lCall, d_eCallC, d_sNop, d_sSet, d_sSetL, d_sSetR, d_sSetQ, d_sInc, d_sPutI, d_sPutZ, d_sPutL, d_sPutA, d_sPutAZ, d_sPutAB, d_sPutAL, d_sPutD, d_sOpF, d_sOpA, d_sCall, d_sCopy, d_sSeq, d_sIf, d_sBrk, d_sCnt, d_sRetV, d_sRet, d_sRetL, d_sLp, d_tDef, d_tCase, d_sSw, d_sSwB, bIt_d, itb_0, itb_1, itb_2, itb_r, its_0, sqk_0, sqk_1, sqk_2, sqk_r, swk_0, swk_1, swk_r, bfin_r, bfin_ite, Option.bind_some, Option.map_some, Option.bind_none, Option.map_none, bind_ite, map_ite, cop0, cop1, cop2, cop3, cop4, cop5, opv0, opv1, opv2, opv3, brc_i, brc_z, two_ne_one, false_or, getI, getR, getL, List.getElem?_cons_zero, List.getElem?_cons_succ, List.set_cons_zero, List.set_cons_succ, bnl, if_true, if_false, true_or, or_true, decide_eq_true_eq, Bool.not_eq_true', decide_eq_false_iff_not, Bool.not_true, Bool.not_false, Bool.true_eq_false, Bool.false_eq_true, ite_not, reduceIte, ite01_0, ite01_1, Decidable.not_not, ne_eq, not_true_eq_false, not_false_eq_true, Function.comp_apply, decide_not, Bool.not_not, Bool.not_eq_false', dc_t, dc_f, and_self, true_and, and_true, and_false, false_and, tnc, Int.reduceLT, Int.reduceLE, Int.reduceEq, Int.reduceAdd, Int.reduceSub, Int.reduceMul, Int.reduceToNat, Int.reduceNeg, Int.reduceNe]
theorem sd_2 (n : Nat) (m m2 : bM) (j w p t u x : Int) (P : Nat) (h : ¬ p = w) (e : sem n 280 [aR 132, aI j, aI p] m = some (m, 1)) (ht : m 132 63 = t) (hb : jand (jshr t p) 1 = 0) (hu : jor t (jshl 1 p) = u) (f1 : 0 ≤ p ∧ p < ((16 : Nat) : Int)) (tp : p.toNat = P) (hx : m 191 P = x) (hx0 : ¬ x < 0) (er : sem n 281 [aR 132, aI x, aI w] (bwr m 132 63 u) = some (m2, 0)) : L_M_stands_1b.1.2 (sem n) [some (aR 132), some (aI j), some (aI w), some (aI p)] m = some (.inl (0, [some (aR 132), some (aI j), some (aI w), some (aI p)], m2)) := by
  simp only [L_M_stands_1b, h, e, ht, hb, hu, f1, tp, hmn, hx, hx0, er, d_rLoc1, d_rLoc2, d_rFld1, d_rFld2, d_eInt, d_eLdc, d_eLdw, d_eLoc, d_eFld, d_lFld, d_eAI, d_eAZ, d_eAB, d_lAL, d_eAD, d_eLen, d_eAdd, d_eSub, d_eMul, d_eAnd, d_eOr, d_eXor, d_eShl, d_eShr, d_eUsh, d_lAdd, d_lSub, d_lMul, d_lAnd, d_lOr, d_lXor, d_lShl, d_lShr, d_eDiv, d_eRem, d_eCmp, d_eI2B, d_eI2S, d_eL2I, d_lI2L, d_lInt, d_lLdc, d_lLoc, d_eIte, d_lIte, d_eMax, d_eMin, d_eAbs, d_eAbove, d_eBodies, d_cQ, d_cZ, d_cNot, d_cAnd, d_cOr, d_gNil, d_gI, d_gL, d_gR, d_gD, d_xV, d_xS, d_xN, d_xT, d_eCall, d_lCall, d_eCallC, d_sNop, d_sSet, d_sSetL, d_sSetR, d_sSetQ, d_sInc, d_sPutI, d_sPutZ, d_sPutL, d_sPutA, d_sPutAZ, d_sPutAB, d_sPutAL, d_sPutD, d_sOpF, d_sOpA, d_sCall, d_sCopy, d_sSeq, d_sIf, d_sBrk, d_sCnt, d_sRetV, d_sRet, d_sRetL, d_sLp, d_tDef, d_tCase, d_sSw, d_sSwB, bIt_d, itb_0, itb_1, itb_2, itb_r, its_0, sqk_0, sqk_1, sqk_2, sqk_r, swk_0, swk_1, swk_r, bfin_r, bfin_ite, Option.bind_some, Option.map_some, Option.bind_none, Option.map_none, bind_ite, map_ite, cop0, cop1, cop2, cop3, cop4, cop5, opv0, opv1, opv2, opv3, brc_i, brc_z, two_ne_one, false_or, getI, getR, getL, List.getElem?_cons_zero, List.getElem?_cons_succ, List.set_cons_zero, List.set_cons_succ, bnl, if_true, if_false, true_or, or_true, decide_eq_true_eq, Bool.not_eq_true', decide_eq_false_iff_not, Bool.not_true, Bool.not_false, Bool.true_eq_false, Bool.false_eq_true, ite_not, reduceIte, ite01_0, ite01_1, Decidable.not_not, ne_eq, not_true_eq_false, not_false_eq_true, Function.comp_apply, decide_not, Bool.not_not, Bool.not_eq_false', dc_t, dc_f, and_self, true_and, and_true, and_false, false_and, tnc, Int.reduceLT, Int.reduceLE, Int.reduceEq, Int.reduceAdd, Int.reduceSub, Int.reduceMul, Int.reduceToNat, Int.reduceNeg, Int.reduceNe]
theorem sd_e0 (n : Nat) (m m2 : bM) (j w l : Int) (e : L_M_stands_1.1.2 (sem n) [some (aR 132), some (aI j), some (aI w), some (aI 0)] m = some (.inl (0, [some (aR 132), some (aI j), some (aI w), some (aI l)], m2))) : sem (n + 1) 281 [aR 132, aI j, aI w] m = some (m2, 0) := by
  rw [st_M_stands]
  unfold B_M_stands
  revert e
  generalize L_M_stands_1 = LL
  intro e
  simp only [kr_M_stands, e, d_rLoc1, d_rLoc2, d_rFld1, d_rFld2, d_eInt, d_eLdc, d_eLdw, d_eLoc, d_eFld, d_lFld, d_eAI, d_eAZ, d_eAB, d_lAL, d_eAD, d_eLen, d_eAdd, d_eSub, d_eMul, d_eAnd, d_eOr, d_eXor, d_eShl, d_eShr, d_eUsh, d_lAdd, d_lSub, d_lMul, d_lAnd, d_lOr, d_lXor, d_lShl, d_lShr, d_eDiv, d_eRem, d_eCmp, d_eI2B, d_eI2S, d_eL2I, d_lI2L, d_lInt, d_lLdc, d_lLoc, d_eIte, d_lIte, d_eMax, d_eMin, d_eAbs, d_eAbove, d_eBodies, d_cQ, d_cZ, d_cNot, d_cAnd, d_cOr, d_gNil, d_gI, d_gL, d_gR, d_gD, d_xV, d_xS, d_xN, d_xT, d_eCall, d_lCall, d_eCallC, d_sNop, d_sSet, d_sSetL, d_sSetR, d_sSetQ, d_sInc, d_sPutI, d_sPutZ, d_sPutL, d_sPutA, d_sPutAZ, d_sPutAB, d_sPutAL, d_sPutD, d_sOpF, d_sOpA, d_sCall, d_sCopy, d_sSeq, d_sIf, d_sBrk, d_sCnt, d_sRetV, d_sRet, d_sRetL, d_sLp, d_tDef, d_tCase, d_sSw, d_sSwB, bIt_d, itb_0, itb_1, itb_2, itb_r, its_0, sqk_0, sqk_1, sqk_2, sqk_r, swk_0, swk_1, swk_r, bfin_r, bfin_ite, Option.bind_some, Option.map_some, Option.bind_none, Option.map_none, bind_ite, map_ite, cop0, cop1, cop2, cop3, cop4, cop5, opv0, opv1, opv2, opv3, brc_i, brc_z, two_ne_one, false_or, getI, getR, getL, List.getElem?_cons_zero, List.getElem?_cons_succ, List.set_cons_zero, List.set_cons_succ, bnl, if_true, if_false, true_or, or_true, decide_eq_true_eq, Bool.not_eq_true', decide_eq_false_iff_not, Bool.not_true, Bool.not_false, Bool.true_eq_false, Bool.false_eq_true, ite_not, reduceIte, ite01_0, ite01_1, Decidable.not_not, ne_eq, not_true_eq_false, not_false_eq_true, Function.comp_apply, decide_not, Bool.not_not, Bool.not_eq_false', dc_t, dc_f, and_self, true_and, and_true, and_false, false_and, tnc, Int.reduceLT, Int.reduceLE, Int.reduceEq, Int.reduceAdd, Int.reduceSub, Int.reduceMul, Int.reduceToNat, Int.reduceNeg, Int.reduceNe]
theorem sd_e1 (n : Nat) (m m2 : bM) (j w v : Int) (e : L_M_stands_1.1.2 (sem n) [some (aR 132), some (aI j), some (aI w), some (aI 0)] m = some (.inr (m2, v))) : sem (n + 1) 281 [aR 132, aI j, aI w] m = some (m2, v) := by
  rw [st_M_stands]
  unfold B_M_stands
  revert e
  generalize L_M_stands_1 = LL
  intro e
  simp only [kr_M_stands, e, d_rLoc1, d_rLoc2, d_rFld1, d_rFld2, d_eInt, d_eLdc, d_eLdw, d_eLoc, d_eFld, d_lFld, d_eAI, d_eAZ, d_eAB, d_lAL, d_eAD, d_eLen, d_eAdd, d_eSub, d_eMul, d_eAnd, d_eOr, d_eXor, d_eShl, d_eShr, d_eUsh, d_lAdd, d_lSub, d_lMul, d_lAnd, d_lOr, d_lXor, d_lShl, d_lShr, d_eDiv, d_eRem, d_eCmp, d_eI2B, d_eI2S, d_eL2I, d_lI2L, d_lInt, d_lLdc, d_lLoc, d_eIte, d_lIte, d_eMax, d_eMin, d_eAbs, d_eAbove, d_eBodies, d_cQ, d_cZ, d_cNot, d_cAnd, d_cOr, d_gNil, d_gI, d_gL, d_gR, d_gD, d_xV, d_xS, d_xN, d_xT, d_eCall, d_lCall, d_eCallC, d_sNop, d_sSet, d_sSetL, d_sSetR, d_sSetQ, d_sInc, d_sPutI, d_sPutZ, d_sPutL, d_sPutA, d_sPutAZ, d_sPutAB, d_sPutAL, d_sPutD, d_sOpF, d_sOpA, d_sCall, d_sCopy, d_sSeq, d_sIf, d_sBrk, d_sCnt, d_sRetV, d_sRet, d_sRetL, d_sLp, d_tDef, d_tCase, d_sSw, d_sSwB, bIt_d, itb_0, itb_1, itb_2, itb_r, its_0, sqk_0, sqk_1, sqk_2, sqk_r, swk_0, swk_1, swk_r, bfin_r, bfin_ite, Option.bind_some, Option.map_some, Option.bind_none, Option.map_none, bind_ite, map_ite, cop0, cop1, cop2, cop3, cop4, cop5, opv0, opv1, opv2, opv3, brc_i, brc_z, two_ne_one, false_or, getI, getR, getL, List.getElem?_cons_zero, List.getElem?_cons_succ, List.set_cons_zero, List.set_cons_succ, bnl, if_true, if_false, true_or, or_true, decide_eq_true_eq, Bool.not_eq_true', decide_eq_false_iff_not, Bool.not_true, Bool.not_false, Bool.true_eq_false, Bool.false_eq_true, ite_not, reduceIte, ite01_0, ite01_1, Decidable.not_not, ne_eq, not_true_eq_false, not_false_eq_true, Function.comp_apply, decide_not, Bool.not_not, Bool.not_eq_false', dc_t, dc_f, and_self, true_and, and_true, and_false, false_and, tnc, Int.reduceLT, Int.reduceLE, Int.reduceEq, Int.reduceAdd, Int.reduceSub, Int.reduceMul, Int.reduceToNat, Int.reduceNeg, Int.reduceNe]
/-- what the search leaves as it was -/
def sKp (m0 m : bM) : Prop := (∀ i, i ≠ 132 → i ≠ 191 → m i = m0 i) ∧ ∀ k, k ≠ 63 → m 132 k = m0 132 k
/-- what the search comes to: m before, m2 behind -/
def sPost (m0 : bM) (w : Int) (nN : Nat) (m : bM) (mt : Nat → Bool) (j : Nat) (m2 : bM) (v : Int) : Prop := ∃ mt2 : Nat → Bool, sKp m0 m2 ∧ m2 132 63 = (bst mt2 16 : Int) ∧ (∀ q, q < 16 → mt q = true → mt2 q = true) ∧ mOK (fitW m0 w) (m2 191) nN ∧ ((v = 0 ∧ m2 191 = m 191 ∧ (∀ q, q < 16 → fitW m0 w j q = true → mt2 q = true) ∧ ∀ p, p < 16 → mt2 p = true → mt p = false → 0 ≤ m 191 p ∧ ∀ q, q < 16 → fitW m0 w (m 191 p).toNat q = true → mt2 q = true) ∨ (v = 1 ∧ gOK (fitW m0 w) (m 191) (m2 191) mt j ∧ ∀ Q, mCl (fitW m0 w) (m 191) Q → (∀ q, q < 16 → Q q = true → m2 191 q = m 191 q) ∧ ∃ q, q < 16 ∧ fitW m0 w j q = true ∧ Q q = false))
theorem cnt_mono {a b : Nat → Bool} {n : Nat} (h : ∀ k, k < n → a k = true → b k = true) : cnt a n ≤ cnt b n := cnt_inj (φ := fun p => p) (fun p hp ha => ⟨hp, h p hp ha⟩) (fun _ _ _ _ _ _ e => e)
theorem bwr_fun (m : bM) (i k : Nat) (z : Int) : bwr m i k z i = fun q => if q = k then z else m i q := by
  funext q
  exact bwr_if z
theorem sp_stands {m0 : bM} (hR0 : Rel m0 m0) (w : Int) (nN : Nat) (hnN : nN ≤ 16) : ∀ (d n : Nat) (m : bM) (mt : Nat → Bool) (j : Nat), sKp m0 m → m 132 63 = (bst mt 16 : Int) → 16 ≤ cnt mt 16 + d → mOK (fitW m0 w) (m 191) nN → mIn (m 191) → j < nN → (∀ q, q < 16 → m 191 q = (j : Int) → mt q = true) → ∃ m2 v, sem (n + d + 2) 281 [aR 132, aI (j : Int), aI w] m = some (m2, v) ∧ sPost m0 w nN m mt j m2 v := by
  intro d
  induction d with
  | zero =>
    intro n m mt j hk hmt hd hO hI hj hjm
    have all : ∀ q, q < 16 → mt q = true := fun q hq => by
      cases e : mt q with
      | true => rfl
      | false =>
        have := cnt_ins (p := mt) (q := fun t => mt t || decide (t = q)) (c := q) e (by simp) (fun i hi => by simp [hi]) (n := 16) hq
        have := cnt_le (fun t => mt t || decide (t = q)) 16
        omega
    have rp := RelF_rpersons (Rel_f hR0)
    have hR : Rel m m := Rel_congr hR0 (fun i a b => hk.1 i (by omega) (by omega)) (fun i a b => hk.1 i (by omega) (by omega))
    obtain ⟨N, hN⟩ : ∃ N : Nat, (N : Int) = m0 37 12 := ⟨(m0 37 12).toNat, by omega⟩
    have h7 : m 133 7 = (N : Int) := by rw [RelN_persons (Rel_n hR), hk.1 37 (by decide) (by decide), hN]
    refine ⟨m, 0, sd_e0 (n + 1) m m (j : Int) w (N : Int) ?_, mt, hk, hmt, fun _ _ h => h, hO, Or.inl ⟨rfl, rfl, fun q hq _ => all q hq, fun p hp h1 h2 => by rw [h1] at h2; cases h2⟩⟩
    unfold L_M_stands_1
    rw [d_sLp]
    refine lp_out (fun k => [some (aR 132), some (aI (j : Int)), some (aI w), some (aI (k : Int))]) (fun _ => m) N (by omega) (fun k hk2 => ?_) (bIt_ex (sd_x (n + 1) m _ _ _ _ h7 (Int.lt_irrefl _)))
    have a1 : (k : Int) < (N : Int) := by omega
    have a2 : k < 2147483647 := by omega
    have a3 : k < 16 := by omega
    have a4 : j < 16 := by omega
    refine bIt_go (m1 := m) (sd_c (n + 1) m _ _ _ _ h7 a1) ?_ (sd_s (n + 1) m _ _ _ _ (i32_s a2))
    by_cases z : (k : Int) = w
    · exact sd_w _ m _ _ _ z
    · have ef := sp_M_fits n j k a4 a3 m (Rel_f hR)
      by_cases y : fitB m j k = true
      · rw [if_pos y] at ef
        exact sd_m _ m _ _ _ _ z ef hmt (by rw [jbst mt (by decide) a3, if_pos (all k a3)])
      · rw [if_neg y] at ef
        exact sd_f _ m _ _ _ z ef
  | succ d ih =>
    intro n m mt j hk hmt hd hO hI hj hjm
    have rp := RelF_rpersons (Rel_f hR0)
    obtain ⟨N, hN⟩ : ∃ N : Nat, (N : Int) = m0 37 12 := ⟨(m0 37 12).toNat, by omega⟩
    have j16 : j < 16 := by omega
    have key := lp_wf (c := L_M_stands_1c.1.2 (sem (n + d + 2))) (b := L_M_stands_1b.1.2 (sem (n + d + 2))) (s := L_M_stands_1s.1.2 (sem (n + d + 2)))
      (Q := fun ls m2 => ls = [some (aR 132), some (aI (j : Int)), some (aI w), some (aI (N : Int))] ∧ sPost m0 w nN m mt j m2 0)
      (R := fun m2 v => sPost m0 w nN m mt j m2 v)
      (fun r ls mc => ∃ (p : Nat) (mtc : Nat → Bool), r + p = N ∧ ls = [some (aR 132), some (aI (j : Int)), some (aI w), some (aI (p : Int))] ∧ sKp m0 mc ∧ mc 132 63 = (bst mtc 16 : Int) ∧ (∀ q, q < 16 → mt q = true → mtc q = true) ∧ mc 191 = m 191 ∧ (∀ q, q < p → fitW m0 w j q = true → mtc q = true) ∧ ∀ q, q < 16 → mtc q = true → mt q = false → 0 ≤ m 191 q ∧ ∀ r, r < 16 → fitW m0 w (m 191 q).toNat r = true → mtc r = true)
      (fun r ls mc hP => ?_) bF N [some (aR 132), some (aI (j : Int)), some (aI w), some (aI 0)] m (by show N < 1000; omega) ⟨0, mt, by omega, rfl, hk, hmt, fun _ _ h => h, rfl, fun q hq => absurd hq (Nat.not_lt_zero _), fun q _ h1 h2 => by rw [h1] at h2; cases h2⟩
    · rcases key with ⟨ls2, m2, e, e2, hp⟩ | ⟨m2, v, e, hp⟩
      · refine ⟨m2, 0, ?_, hp⟩
        rw [show n + (d + 1) + 2 = (n + d + 2) + 1 by omega]
        refine sd_e0 (n + d + 2) m m2 (j : Int) w (N : Int) ?_
        unfold L_M_stands_1
        rw [d_sLp, e, e2]
      · refine ⟨m2, v, ?_, hp⟩
        rw [show n + (d + 1) + 2 = (n + d + 2) + 1 by omega]
        refine sd_e1 (n + d + 2) m m2 (j : Int) w v ?_
        unfold L_M_stands_1
        rw [d_sLp, e]
    · obtain ⟨p, mtc, hr, hls, c1, c2, c3, c4, c5, c6⟩ := hP
      subst hls
      have hR : Rel mc mc := Rel_congr hR0 (fun i a b => c1.1 i (by omega) (by omega)) (fun i a b => c1.1 i (by omega) (by omega))
      have h7 : mc 133 7 = (N : Int) := by rw [RelN_persons (Rel_n hR), c1.1 37 (by decide) (by decide), hN]
      by_cases hpN : p < N
      · have a1 : (p : Int) < (N : Int) := by omega
        have a2 : p < 2147483647 := by omega
        have p16 : p < 16 := by omega
        have f1 : 0 ≤ (p : Int) ∧ (p : Int) < ((16 : Nat) : Int) := by omega
        have pN : (p : Int) < m0 37 12 := by omega
        have go : ∀ (mc2 : bM) (mt2 : Nat → Bool), L_M_stands_1b.1.2 (sem (n + d + 2)) [some (aR 132), some (aI (j : Int)), some (aI w), some (aI (p : Int))] mc = some (.inl (0, [some (aR 132), some (aI (j : Int)), some (aI w), some (aI (p : Int))], mc2)) → sKp m0 mc2 → mc2 132 63 = (bst mt2 16 : Int) → (∀ q, q < 16 → mt q = true → mt2 q = true) → mc2 191 = m 191 → (∀ q, q < p + 1 → fitW m0 w j q = true → mt2 q = true) → (∀ q, q < 16 → mt2 q = true → mt q = false → 0 ≤ m 191 q ∧ ∀ r, r < 16 → fitW m0 w (m 191 q).toNat r = true → mt2 r = true) → ∃ n' ls' m', n' < r ∧ bIt (L_M_stands_1c.1.2 (sem (n + d + 2))) (L_M_stands_1b.1.2 (sem (n + d + 2))) (L_M_stands_1s.1.2 (sem (n + d + 2))) [some (aR 132), some (aI (j : Int)), some (aI w), some (aI (p : Int))] mc = some (.inl (0, ls', m')) ∧ ∃ (p : Nat) (mtc : Nat → Bool), n' + p = N ∧ ls' = [some (aR 132), some (aI (j : Int)), some (aI w), some (aI (p : Int))] ∧ sKp m0 m' ∧ m' 132 63 = (bst mtc 16 : Int) ∧ (∀ q, q < 16 → mt q = true → mtc q = true) ∧ m' 191 = m 191 ∧ (∀ q, q < p → fitW m0 w j q = true → mtc q = true) ∧ ∀ q, q < 16 → mtc q = true → mt q = false → 0 ≤ m 191 q ∧ ∀ r, r < 16 → fitW m0 w (m 191 q).toNat r = true → mtc r = true := fun mc2 mt2 e g1 g2 g3 g4 g5 g6 =>
          ⟨r - 1, _, mc2, by omega, bIt_go (m1 := mc) (sd_c _ mc _ _ _ _ h7 a1) e (sd_s _ mc2 _ _ _ _ (i32_s a2)), p + 1, mt2, by omega, rfl, g1, g2, g3, g4, g5, g6⟩
        by_cases z : (p : Int) = w
        · refine Or.inl (go mc mtc (sd_w _ mc _ _ _ z) c1 c2 c3 c4 (fun q hq hf => ?_) c6)
          by_cases qp : q = p
          · exfalso
            rw [qp] at hf
            unfold fitW at hf
            simp [z] at hf
          · exact c5 q (by omega) hf
        · have ef := sp_M_fits (n + d + 1) j p j16 p16 mc (Rel_f hR)
          have fb : fitB mc j p = fitB m0 j p := fitB_congr (fun i a b => c1.1 i (by omega) (by omega)) j p
          rw [fb] at ef
          by_cases y : fitB m0 j p = true
          · rw [if_pos y] at ef
            have fW : fitW m0 w j p = true := by unfold fitW; simp [pN, z, y]
            cases em : mtc p with
            | true =>
              refine Or.inl (go mc mtc (sd_m _ mc _ _ _ _ z ef c2 (by rw [jbst mtc (by decide) p16, if_pos em])) c1 c2 c3 c4 (fun q hq hf => ?_) c6)
              by_cases qp : q = p
              · rw [qp]; exact em
              · exact c5 q (by omega) hf
            | false =>
              have hb : jand (jshr (bst mtc 16 : Int) (p : Int)) 1 = 0 := by rw [jbst mtc (by decide) p16, em]; rfl
              have hu := jor_ins mtc p16 (by decide : 16 ≤ 31)
              have hmp : mt p = false := by
                cases e : mt p with
                | false => rfl
                | true => rw [c3 p p16 e] at em; cases em
              have hx : mc 191 p = m 191 p := by rw [c4]
              have o1 : ∀ u : Int, sKp m0 (bwr mc 132 63 u) := fun u => ⟨fun i a b => by rw [bwr_ne _ _ a]; exact c1.1 i a b, fun k hk => by rw [bwr_ne2 _ hk]; exact c1.2 k hk⟩
              rcases hO p p16 with xn | ⟨x0, x1, x2⟩
              · have xl : m 191 p < 0 := by omega
                refine Or.inr (Or.inr ⟨_, 1, bIt_rt (sd_c _ mc _ _ _ _ h7 a1) (sd_0 _ mc _ _ _ _ _ _ p z ef c2 hb hu f1 (tnc p) hx xl), ?_⟩)
                have ex : bwr (bwr mc 132 63 (bst (fun t => mtc t || decide (t = p)) 16 : Int)) 191 p (j : Int) 191 = fun q => if q = p then (j : Int) else m 191 q := by rw [bwr_fun, hmn, c4]
                refine ⟨fun t => mtc t || decide (t = p), ⟨fun i a b => by rw [bwr_ne _ _ b]; exact (o1 _).1 i a b, fun k hk => by rw [bwr_ne _ _ (by decide)]; exact (o1 _).2 k hk⟩, by rw [bwr_ne _ _ (by decide), bwr_eq2], fun q hq h => by simp [c3 q hq h], ?_, Or.inr ⟨rfl, ?_, fun Q hQ => ?_⟩⟩
                · rw [ex]
                  intro q hq
                  show (if q = p then (j : Int) else m 191 q) = -1 ∨ (0 ≤ (if q = p then (j : Int) else m 191 q) ∧ (if q = p then (j : Int) else m 191 q) < (nN : Int) ∧ fitW m0 w (if q = p then (j : Int) else m 191 q).toNat q = true)
                  by_cases qp : q = p
                  · rw [if_pos qp, tnc, qp]
                    exact Or.inr ⟨by omega, by omega, fW⟩
                  · rw [if_neg qp]; exact hO q hq
                · rw [ex]; exact gOK_0 hI hjm p16 hmp xn
                · rw [ex]
                  have pq : Q p = false := by
                    cases e : Q p with
                    | false => rfl
                    | true =>
                      have := (hQ p p16 e).1
                      omega
                  refine ⟨fun q hq h => if_neg (fun qp => ?_), p, p16, fW, pq⟩
                  rw [qp, pq] at h; cases h
              · have xl : ¬ m 191 p < 0 := by omega
                obtain ⟨x, hxx⟩ : ∃ x : Nat, (x : Int) = m 191 p := ⟨(m 191 p).toNat, by omega⟩
                have em1 : bwr mc 132 63 (bst (fun t => mtc t || decide (t = p)) 16 : Int) 191 = m 191 := by rw [hmn, c4]
                have cc := cnt_ins (p := mtc) (q := fun t => mtc t || decide (t = p)) (c := p) em (by simp) (fun i hi => by simp [hi]) (n := 16) p16
                have cm := cnt_mono (a := mt) (b := mtc) (n := 16) c3
                obtain ⟨m2, v, er, mt2, s1, s2, s3, s4, s5⟩ := ih n (bwr mc 132 63 (bst (fun t => mtc t || decide (t = p)) 16 : Int)) (fun t => mtc t || decide (t = p)) x (o1 _) (by rw [bwr_eq2]) (by omega) (by rw [em1]; exact hO) (by rw [em1]; exact hI) (by omega) (fun q hq h => by
                  rw [em1, hxx] at h
                  have := hI q p hq p16 (by omega) h
                  simp [this])
                rw [em1] at s5
                have s3a : ∀ q, q < 16 → mt q = true → mt2 q = true := fun q hq h => s3 q hq (by simp [c3 q hq h])
                have s3p : mt2 p = true := s3 p p16 (by simp)
                rcases s5 with ⟨v0, n0, k1, k2⟩ | ⟨v1, g, kQ⟩
                · subst v0
                  rw [hxx] at er
                  refine Or.inl (go m2 mt2 (sd_2 _ mc m2 _ _ _ _ _ _ p z ef c2 hb hu f1 (tnc p) hx xl er) s1 s2 s3a n0 (fun q hq hf => ?_) (fun q hq h1 h2 => ?_))
                  · by_cases qp : q = p
                    · rw [qp]; exact s3p
                    · exact s3 q (by omega) (by simp [c5 q (by omega) hf])
                  · by_cases qp : q = p
                    · rw [qp]
                      refine ⟨x0, fun r hr hf => k1 r hr ?_⟩
                      rw [← hxx, tnc] at hf; exact hf
                    · cases e : mtc q with
                      | true =>
                        obtain ⟨b1, b2⟩ := c6 q hq e h2
                        exact ⟨b1, fun r hr hf => s3 r hr (by simp [b2 r hr hf])⟩
                      | false => exact k2 q hq h1 (by simp [e, qp])
                · subst v1
                  rw [hxx] at er
                  refine Or.inr (Or.inr ⟨_, 1, bIt_rt (sd_c _ mc _ _ _ _ h7 a1) (sd_1 _ mc m2 _ _ _ _ _ _ p z ef c2 hb hu f1 (tnc p) hx xl er), ?_⟩)
                  have ex : bwr m2 191 p (j : Int) 191 = fun q => if q = p then (j : Int) else m2 191 q := bwr_fun _ _ _ _
                  refine ⟨mt2, ⟨fun i a b => by rw [bwr_ne _ _ b]; exact s1.1 i a b, fun k hk => by rw [bwr_ne _ _ (by decide)]; exact s1.2 k hk⟩, by rw [bwr_ne _ _ (by decide)]; exact s2, s3a, ?_, Or.inr ⟨rfl, ?_, fun Q hQ => ?_⟩⟩
                  · rw [ex]
                    intro q hq
                    show (if q = p then (j : Int) else m2 191 q) = -1 ∨ (0 ≤ (if q = p then (j : Int) else m2 191 q) ∧ (if q = p then (j : Int) else m2 191 q) < (nN : Int) ∧ fitW m0 w (if q = p then (j : Int) else m2 191 q).toNat q = true)
                    by_cases qp : q = p
                    · rw [if_pos qp, tnc, qp]
                      exact Or.inr ⟨by omega, by omega, fW⟩
                    · rw [if_neg qp]; exact s4 q hq
                  · rw [ex]
                    exact gOK_1 hI hjm p16 hmp hxx.symm (fun q hq h => by simp [c3 q hq h]) (by simp) g
                  · rw [ex]
                    obtain ⟨b1, q0, b2, b3, b4⟩ := kQ Q hQ
                    have pq : Q p = false := by
                      cases e : Q p with
                      | false => rfl
                      | true =>
                        have := (hQ p p16 e).2 q0 b2 (by rw [← hxx, tnc]; exact b3)
                        rw [b4] at this; cases this
                    refine ⟨fun q hq h => (if_neg (fun qp => ?_)).trans (b1 q hq h), p, p16, fW, pq⟩
                    rw [qp, pq] at h; cases h
          · rw [if_neg y] at ef
            refine Or.inl (go mc mtc (sd_f _ mc _ _ _ z ef) c1 c2 c3 c4 (fun q hq hf => ?_) c6)
            by_cases qp : q = p
            · exfalso
              rw [qp] at hf
              unfold fitW at hf
              simp [y] at hf
            · exact c5 q (by omega) hf
      · have pe : p = N := by omega
        subst pe
        refine Or.inr (Or.inl ⟨_, mc, bIt_ex (sd_x _ mc _ _ _ _ h7 (Int.lt_irrefl _)), rfl, mtc, c1, c2, c3, by rw [c4]; exact hO, Or.inl ⟨rfl, c4, fun q hq hf => ?_, c6⟩⟩)
        refine c5 q ?_ hf
        unfold fitW at hf
        simp only [Bool.and_eq_true, decide_eq_true_eq] at hf
        omega
