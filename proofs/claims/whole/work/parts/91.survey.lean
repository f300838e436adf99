/-! ===== survey: night by night ===== -/
theorem s4_0 (n : Nat) (m m1 m3 : bM) (qI wI sI W R : Int) (q : Nat) (y2 y3 y4 : Option bV) (x1 : jdiv qI 30 = wI) (x2 : jrem qI 30 = sI) (f2 : 0 ≤ qI ∧ qI < ((90 : Nat) : Int)) (tq : qI.toNat = q) (e1 : sem (n + 3) 206 [aR 132, aI wI, aI sI] m = some (m1, 0)) (e2 : L_M_survey_5.1.2 (sem (n + 3)) [some (aR 132), some (aI qI), some (aI 0), some (aI (-1)), some (aI 0)] m1 = some (.inl (0, [some (aR 132), some (aI qI), some (aI 0), some (aI W), some (aI R)], m1))) (e3 : sem (n + 3) 279 [aR 132, aI qI] (bwr m1 184 q 1) = some (m3, 0)) : L_M_survey_4b.1.2 (sem (n + 3)) [some (aR 132), some (aI qI), y2, y3, y4] m = some (.inl (0, [some (aR 132), some (aI qI), some (aI 0), some (aI W), some (aI R)], m3)) := by
  unfold L_M_survey_4b
  revert e2
  generalize L_M_survey_5 = LL
  intro e2
  simp only [x1, x2, f2, tq, e1, e2, e3, d_rLoc1, d_rLoc2, d_rFld1, d_rFld2, d_eInt, d_eLdc, d_eLdw, d_eLoc, d_eFld, d_lFld, d_eAI, d_eAZ, d_eAB, d_lAL, d_eAD, d_eLen, d_eAdd, d_eSub, d_eMul, d_eAnd, d_eOr, d_eXor, d_eShl, d_eShr, d_eUsh, d_lAdd, d_lSub, d_lMul, d_lAnd, d_lOr, d_lXor, d_lShl, d_lShr, d_eDiv, d_eRem, d_eCmp, d_eI2B, d_eI2S, d_eL2I, d_lI2L, d_lInt, d_lLdc, d_lLoc, d_eIte, d_lIte, d_eMax, d_eMin, d_eAbs, d_eAbove, d_eBodies, d_cQ, d_cZ, d_cNot, d_cAnd, d_cOr, d_gNil, d_gI, d_gL, d_gR, d_gD, d_xV, d_xS, d_xN, d_xT, d_eCall, d_lCall, d_eCallC, d_sNop, d_sSet, d_sSetL, d_sSetR, d_sSetQ, d_sInc, d_sPutI, d_sPutZ, d_sPutL, d_sPutA, d_sPutAZ, d_sPutAB, d_sPutAL, d_sPutD, d_sOpF, d_sOpA, d_sCall, d_sCopy, d_sSeq, d_sIf, d_sBrk, d_sCnt, d_sRetV, d_sRet, d_sRetL, d_sLp, d_tDef, d_tCase, d_sSw, d_sSwB, bIt_d, itb_0, itb_1, itb_2, itb_r, its_0, sqk_0, sqk_1, sqk_2, sqk_r, swk_0, swk_1, swk_r, bfin_r, bfin_ite, Option.bind_some, Option.map_some, Option.bind_none, Option.map_none, bind_ite, map_ite, cop0, cop1, cop2, cop3, cop4, cop5, opv0, opv1, opv2, opv3, brc_i, brc_z, two_ne_one, false_or, getI, getR, getL, List.getElem?_cons_zero, List.getElem?_cons_succ, List.set_cons_zero, List.set_cons_succ, bnl, if_true, if_false, true_or, or_true, decide_eq_true_eq, Bool.not_eq_true', decide_eq_false_iff_not, Bool.not_true, Bool.not_false, Bool.true_eq_false, Bool.false_eq_true, ite_not, reduceIte, ite01_0, ite01_1, Decidable.not_not, ne_eq, not_true_eq_false, not_false_eq_true, Function.comp_apply, decide_not, Bool.not_not, Bool.not_eq_false', dc_t, dc_f, and_self, true_and, and_true, and_false, false_and, tnc, Int.reduceLT, Int.reduceLE, Int.reduceEq, Int.reduceAdd, Int.reduceSub, Int.reduceMul, Int.reduceToNat, Int.reduceNeg, Int.reduceNe]
theorem s4_1 (n : Nat) (m m1 : bM) (qI wI sI W R v v2 : Int) (q w : Nat) (y2 y3 y4 : Option bV) (x1 : jdiv qI 30 = wI) (x2 : jrem qI 30 = sI) (f2 : 0 ≤ qI ∧ qI < ((90 : Nat) : Int)) (tq : qI.toNat = q) (e1 : sem (n + 3) 206 [aR 132, aI wI, aI sI] m = some (m1, 0)) (e2 : L_M_survey_5.1.2 (sem (n + 3)) [some (aR 132), some (aI qI), some (aI 0), some (aI (-1)), some (aI 0)] m1 = some (.inl (0, [some (aR 132), some (aI qI), some (aI 1), some (aI W), some (aI R)], m1))) (f3 : 0 ≤ W ∧ W < ((16 : Nat) : Int)) (tw : W.toNat = w) (hv : bwr m1 184 q 0 185 w = v) (hv2 : i32 (v + 1) = v2) : L_M_survey_4b.1.2 (sem (n + 3)) [some (aR 132), some (aI qI), y2, y3, y4] m = some (.inl (0, [some (aR 132), some (aI qI), some (aI 1), some (aI W), some (aI R)], bwr (bwr m1 184 q 0) 185 w v2)) := by
  unfold L_M_survey_4b
  revert e2
  generalize L_M_survey_5 = LL
  intro e2
  simp only [x1, x2, f2, tq, e1, e2, f3, tw, hv, hv2, d_rLoc1, d_rLoc2, d_rFld1, d_rFld2, d_eInt, d_eLdc, d_eLdw, d_eLoc, d_eFld, d_lFld, d_eAI, d_eAZ, d_eAB, d_lAL, d_eAD, d_eLen, d_eAdd, d_eSub, d_eMul, d_eAnd, d_eOr, d_eXor, d_eShl, d_eShr, d_eUsh, d_lAdd, d_lSub, d_lMul, d_lAnd, d_lOr, d_lXor, d_lShl, d_lShr, d_eDiv, d_eRem, d_eCmp, d_eI2B, d_eI2S, d_eL2I, d_lI2L, d_lInt, d_lLdc, d_lLoc, d_eIte, d_lIte, d_eMax, d_eMin, d_eAbs, d_eAbove, d_eBodies, d_cQ, d_cZ, d_cNot, d_cAnd, d_cOr, d_gNil, d_gI, d_gL, d_gR, d_gD, d_xV, d_xS, d_xN, d_xT, d_eCall, d_lCall, d_eCallC, d_sNop, d_sSet, d_sSetL, d_sSetR, d_sSetQ, d_sInc, d_sPutI, d_sPutZ, d_sPutL, d_sPutA, d_sPutAZ, d_sPutAB, d_sPutAL, d_sPutD, d_sOpF, d_sOpA, d_sCall, d_sCopy, d_sSeq, d_sIf, d_sBrk, d_sCnt, d_sRetV, d_sRet, d_sRetL, d_sLp, d_tDef, d_tCase, d_sSw, d_sSwB, bIt_d, itb_0, itb_1, itb_2, itb_r, its_0, sqk_0, sqk_1, sqk_2, sqk_r, swk_0, swk_1, swk_r, bfin_r, bfin_ite, Option.bind_some, Option.map_some, Option.bind_none, Option.map_none, bind_ite, map_ite, cop0, cop1, cop2, cop3, cop4, cop5, opv0, opv1, opv2, opv3, brc_i, brc_z, two_ne_one, false_or, getI, getR, getL, List.getElem?_cons_zero, List.getElem?_cons_succ, List.set_cons_zero, List.set_cons_succ, bnl, if_true, if_false, true_or, or_true, decide_eq_true_eq, Bool.not_eq_true', decide_eq_false_iff_not, Bool.not_true, Bool.not_false, Bool.true_eq_false, Bool.false_eq_true, ite_not, reduceIte, ite01_0, ite01_1, Decidable.not_not, ne_eq, not_true_eq_false, not_false_eq_true, Function.comp_apply, decide_not, Bool.not_not, Bool.not_eq_false', dc_t, dc_f, and_self, true_and, and_true, and_false, false_and, tnc, Int.reduceLT, Int.reduceLE, Int.reduceEq, Int.reduceAdd, Int.reduceSub, Int.reduceMul, Int.reduceToNat, Int.reduceNeg, Int.reduceNe]
theorem s4_2 (n : Nat) (m m1 : bM) (qI wI sI A W R : Int) (q : Nat) (y2 y3 y4 : Option bV) (x1 : jdiv qI 30 = wI) (x2 : jrem qI 30 = sI) (f2 : 0 ≤ qI ∧ qI < ((90 : Nat) : Int)) (tq : qI.toNat = q) (e1 : sem (n + 3) 206 [aR 132, aI wI, aI sI] m = some (m1, 0)) (hA : ¬ A = 0) (hB : ¬ A = 1) (e2 : L_M_survey_5.1.2 (sem (n + 3)) [some (aR 132), some (aI qI), some (aI 0), some (aI (-1)), some (aI 0)] m1 = some (.inl (0, [some (aR 132), some (aI qI), some (aI A), some (aI W), some (aI R)], m1))) : L_M_survey_4b.1.2 (sem (n + 3)) [some (aR 132), some (aI qI), y2, y3, y4] m = some (.inl (0, [some (aR 132), some (aI qI), some (aI A), some (aI W), some (aI R)], bwr m1 184 q 0)) := by
  unfold L_M_survey_4b
  revert e2
  generalize L_M_survey_5 = LL
  intro e2
  simp only [x1, x2, f2, tq, e1, e2, hA, hB, d_rLoc1, d_rLoc2, d_rFld1, d_rFld2, d_eInt, d_eLdc, d_eLdw, d_eLoc, d_eFld, d_lFld, d_eAI, d_eAZ, d_eAB, d_lAL, d_eAD, d_eLen, d_eAdd, d_eSub, d_eMul, d_eAnd, d_eOr, d_eXor, d_eShl, d_eShr, d_eUsh, d_lAdd, d_lSub, d_lMul, d_lAnd, d_lOr, d_lXor, d_lShl, d_lShr, d_eDiv, d_eRem, d_eCmp, d_eI2B, d_eI2S, d_eL2I, d_lI2L, d_lInt, d_lLdc, d_lLoc, d_eIte, d_lIte, d_eMax, d_eMin, d_eAbs, d_eAbove, d_eBodies, d_cQ, d_cZ, d_cNot, d_cAnd, d_cOr, d_gNil, d_gI, d_gL, d_gR, d_gD, d_xV, d_xS, d_xN, d_xT, d_eCall, d_lCall, d_eCallC, d_sNop, d_sSet, d_sSetL, d_sSetR, d_sSetQ, d_sInc, d_sPutI, d_sPutZ, d_sPutL, d_sPutA, d_sPutAZ, d_sPutAB, d_sPutAL, d_sPutD, d_sOpF, d_sOpA, d_sCall, d_sCopy, d_sSeq, d_sIf, d_sBrk, d_sCnt, d_sRetV, d_sRet, d_sRetL, d_sLp, d_tDef, d_tCase, d_sSw, d_sSwB, bIt_d, itb_0, itb_1, itb_2, itb_r, its_0, sqk_0, sqk_1, sqk_2, sqk_r, swk_0, swk_1, swk_r, bfin_r, bfin_ite, Option.bind_some, Option.map_some, Option.bind_none, Option.map_none, bind_ite, map_ite, cop0, cop1, cop2, cop3, cop4, cop5, opv0, opv1, opv2, opv3, brc_i, brc_z, two_ne_one, false_or, getI, getR, getL, List.getElem?_cons_zero, List.getElem?_cons_succ, List.set_cons_zero, List.set_cons_succ, bnl, if_true, if_false, true_or, or_true, decide_eq_true_eq, Bool.not_eq_true', decide_eq_false_iff_not, Bool.not_true, Bool.not_false, Bool.true_eq_false, Bool.false_eq_true, ite_not, reduceIte, ite01_0, ite01_1, Decidable.not_not, ne_eq, not_true_eq_false, not_false_eq_true, Function.comp_apply, decide_not, Bool.not_not, Bool.not_eq_false', dc_t, dc_f, and_self, true_and, and_true, and_false, false_and, tnc, Int.reduceLT, Int.reduceLE, Int.reduceEq, Int.reduceAdd, Int.reduceSub, Int.reduceMul, Int.reduceToNat, Int.reduceNeg, Int.reduceNe]
theorem s4_c (n : Nat) (m : bM) (kI : Int) (x2 x3 x4 : Option bV) (h : kI < 90) : L_M_survey_4c.1.2 (sem n) [some (aR 132), some (aI kI), x2, x3, x4] m = some (true, m) := by
  simp only [L_M_survey_4c, h, d_rLoc1, d_rLoc2, d_rFld1, d_rFld2, d_eInt, d_eLdc, d_eLdw, d_eLoc, d_eFld, d_lFld, d_eAI, d_eAZ, d_eAB, d_lAL, d_eAD, d_eLen, d_eAdd, d_eSub, d_eMul, d_eAnd, d_eOr, d_eXor, d_eShl, d_eShr, d_eUsh, d_lAdd, d_lSub, d_lMul, d_lAnd, d_lOr, d_lXor, d_lShl, d_lShr, d_eDiv, d_eRem, d_eCmp, d_eI2B, d_eI2S, d_eL2I, d_lI2L, d_lInt, d_lLdc, d_lLoc, d_eIte, d_lIte, d_eMax, d_eMin, d_eAbs, d_eAbove, d_eBodies, d_cQ, d_cZ, d_cNot, d_cAnd, d_cOr, d_gNil, d_gI, d_gL, d_gR, d_gD, d_xV, d_xS, d_xN, d_xT, d_eCall, d_lCall, d_eCallC, d_sNop, d_sSet, d_sSetL, d_sSetR, d_sSetQ, d_sInc, d_sPutI, d_sPutZ, d_sPutL, d_sPutA, d_sPutAZ, d_sPutAB, d_sPutAL, d_sPutD, d_sOpF, d_sOpA, d_sCall, d_sCopy, d_sSeq, d_sIf, d_sBrk, d_sCnt, d_sRetV, d_sRet, d_sRetL, d_sLp, d_tDef, d_tCase, d_sSw, d_sSwB, bIt_d, itb_0, itb_1, itb_2, itb_r, its_0, sqk_0, sqk_1, sqk_2, sqk_r, swk_0, swk_1, swk_r, bfin_r, bfin_ite, Option.bind_some, Option.map_some, Option.bind_none, Option.map_none, bind_ite, map_ite, cop0, cop1, cop2, cop3, cop4, cop5, opv0, opv1, opv2, opv3, brc_i, brc_z, two_ne_one, false_or, getI, getR, getL, List.getElem?_cons_zero, List.getElem?_cons_succ, List.set_cons_zero, List.set_cons_succ, bnl, if_true, if_false, true_or, or_true, decide_eq_true_eq, Bool.not_eq_true', decide_eq_false_iff_not, Bool.not_true, Bool.not_false, Bool.true_eq_false, Bool.false_eq_true, ite_not, reduceIte, ite01_0, ite01_1, Decidable.not_not, ne_eq, not_true_eq_false, not_false_eq_true, Function.comp_apply, decide_not, Bool.not_not, Bool.not_eq_false', dc_t, dc_f, and_self, true_and, and_true, and_false, false_and, tnc, Int.reduceLT, Int.reduceLE, Int.reduceEq, Int.reduceAdd, Int.reduceSub, Int.reduceMul, Int.reduceToNat, Int.reduceNeg, Int.reduceNe]
theorem s4_x (n : Nat) (m : bM) (kI : Int) (x2 x3 x4 : Option bV) (h : ¬ kI < 90) : L_M_survey_4c.1.2 (sem n) [some (aR 132), some (aI kI), x2, x3, x4] m = some (false, m) := by
  simp only [L_M_survey_4c, h, d_rLoc1, d_rLoc2, d_rFld1, d_rFld2, d_eInt, d_eLdc, d_eLdw, d_eLoc, d_eFld, d_lFld, d_eAI, d_eAZ, d_eAB, d_lAL, d_eAD, d_eLen, d_eAdd, d_eSub, d_eMul, d_eAnd, d_eOr, d_eXor, d_eShl, d_eShr, d_eUsh, d_lAdd, d_lSub, d_lMul, d_lAnd, d_lOr, d_lXor, d_lShl, d_lShr, d_eDiv, d_eRem, d_eCmp, d_eI2B, d_eI2S, d_eL2I, d_lI2L, d_lInt, d_lLdc, d_lLoc, d_eIte, d_lIte, d_eMax, d_eMin, d_eAbs, d_eAbove, d_eBodies, d_cQ, d_cZ, d_cNot, d_cAnd, d_cOr, d_gNil, d_gI, d_gL, d_gR, d_gD, d_xV, d_xS, d_xN, d_xT, d_eCall, d_lCall, d_eCallC, d_sNop, d_sSet, d_sSetL, d_sSetR, d_sSetQ, d_sInc, d_sPutI, d_sPutZ, d_sPutL, d_sPutA, d_sPutAZ, d_sPutAB, d_sPutAL, d_sPutD, d_sOpF, d_sOpA, d_sCall, d_sCopy, d_sSeq, d_sIf, d_sBrk, d_sCnt, d_sRetV, d_sRet, d_sRetL, d_sLp, d_tDef, d_tCase, d_sSw, d_sSwB, bIt_d, itb_0, itb_1, itb_2, itb_r, its_0, sqk_0, sqk_1, sqk_2, sqk_r, swk_0, swk_1, swk_r, bfin_r, bfin_ite, Option.bind_some, Option.map_some, Option.bind_none, Option.map_none, bind_ite, map_ite, cop0, cop1, cop2, cop3, cop4, cop5, opv0, opv1, opv2, opv3, brc_i, brc_z, two_ne_one, false_or, getI, getR, getL, List.getElem?_cons_zero, List.getElem?_cons_succ, List.set_cons_zero, List.set_cons_succ, bnl, if_true, if_false, true_or, or_true, decide_eq_true_eq, Bool.not_eq_true', decide_eq_false_iff_not, Bool.not_true, Bool.not_false, Bool.true_eq_false, Bool.false_eq_true, ite_not, reduceIte, ite01_0, ite01_1, Decidable.not_not, ne_eq, not_true_eq_false, not_false_eq_true, Function.comp_apply, decide_not, Bool.not_not, Bool.not_eq_false', dc_t, dc_f, and_self, true_and, and_true, and_false, false_and, tnc, Int.reduceLT, Int.reduceLE, Int.reduceEq, Int.reduceAdd, Int.reduceSub, Int.reduceMul, Int.reduceToNat, Int.reduceNeg, Int.reduceNe]
theorem s4_s (n : Nat) (m : bM) (kI y : Int) (x2 x3 x4 : Option bV) (h : i32 (kI + 1) = y) : L_M_survey_4s.1.2 (sem n) [some (aR 132), some (aI kI), x2, x3, x4] m = some (.inl (0, [some (aR 132), some (aI y), x2, x3, x4], m)) := by
  simp only [L_M_survey_4s, h, d_rLoc1, d_rLoc2, d_rFld1, d_rFld2, d_eInt, d_eLdc, d_eLdw, d_eLoc, d_eFld, d_lFld, d_eAI, d_eAZ, d_eAB, d_lAL, d_eAD, d_eLen, d_eAdd, d_eSub, d_eMul, d_eAnd, d_eOr, d_eXor, d_eShl, d_eShr, d_eUsh, d_lAdd, d_lSub, d_lMul, d_lAnd, d_lOr, d_lXor, d_lShl, d_lShr, d_eDiv, d_eRem, d_eCmp, d_eI2B, d_eI2S, d_eL2I, d_lI2L, d_lInt, d_lLdc, d_lLoc, d_eIte, d_lIte, d_eMax, d_eMin, d_eAbs, d_eAbove, d_eBodies, d_cQ, d_cZ, d_cNot, d_cAnd, d_cOr, d_gNil, d_gI, d_gL, d_gR, d_gD, d_xV, d_xS, d_xN, d_xT, d_eCall, d_lCall, d_eCallC, d_sNop, d_sSet, d_sSetL, d_sSetR, d_sSetQ, d_sInc, d_sPutI, d_sPutZ, d_sPutL, d_sPutA, d_sPutAZ, d_sPutAB, d_sPutAL, d_sPutD, d_sOpF, d_sOpA, d_sCall, d_sCopy, d_sSeq, d_sIf, d_sBrk, d_sCnt, d_sRetV, d_sRet, d_sRetL, d_sLp, d_tDef, d_tCase, d_sSw, d_sSwB, bIt_d, itb_0, itb_1, itb_2, itb_r, its_0, sqk_0, sqk_1, sqk_2, sqk_r, swk_0, swk_1, swk_r, bfin_r, bfin_ite, Option.bind_some, Option.map_some, Option.bind_none, Option.map_none, bind_ite, map_ite, cop0, cop1, cop2, cop3, cop4, cop5, opv0, opv1, opv2, opv3, brc_i, brc_z, two_ne_one, false_or, getI, getR, getL, List.getElem?_cons_zero, List.getElem?_cons_succ, List.set_cons_zero, List.set_cons_succ, bnl, if_true, if_false, true_or, or_true, decide_eq_true_eq, Bool.not_eq_true', decide_eq_false_iff_not, Bool.not_true, Bool.not_false, Bool.true_eq_false, Bool.false_eq_true, ite_not, reduceIte, ite01_0, ite01_1, Decidable.not_not, ne_eq, not_true_eq_false, not_false_eq_true, Function.comp_apply, decide_not, Bool.not_not, Bool.not_eq_false', dc_t, dc_f, and_self, true_and, and_true, and_false, false_and, tnc, Int.reduceLT, Int.reduceLE, Int.reduceEq, Int.reduceAdd, Int.reduceSub, Int.reduceMul, Int.reduceToNat, Int.reduceNeg, Int.reduceNe]
/-- what survey leaves as it was -/
def frS (m m2 : bM) : Prop := (∀ i, i < 132 ∨ (133 ≤ i ∧ i < 179) ∨ 189 ≤ i → m2 i = m i) ∧ ∀ k, k ≠ 53 → k ≠ 59 → m2 132 k = m 132 k
theorem frS_refl (m : bM) : frS m m := ⟨fun _ _ => rfl, fun _ _ _ => rfl⟩
theorem frS_trans {m m1 m2 : bM} (h : frS m m1) (g : frS m1 m2) : frS m m2 := ⟨fun i hi => (g.1 i hi).trans (h.1 i hi), fun k a b => (g.2 k a b).trans (h.2 k a b)⟩
def whoK (c : bM) (k f t : Nat) : Bool := decide (c 48 f = c 45 t) && anyB (fun q => poss c q && (qFell c q (tHm c t) && decide ((qRest c q t : Int) = c 49 f))) k
theorem whoK_t {c : bM} {k : Nat} (hp : poss c k = true) (f t : Nat) : (whoK c k f t || whQ c k f t) = whoK c (k + 1) f t := by
  unfold whoK whQ
  show _ = (_ && (anyB (fun q => poss c q && (qFell c q (tHm c t) && decide ((qRest c q t : Int) = c 49 f))) k || (poss c k && (qFell c k (tHm c t) && decide ((qRest c k t : Int) = c 49 f)))))
  rw [hp, Bool.true_and, Bool.and_or_distrib_left]
theorem whoK_f {c : bM} {k : Nat} (hp : ¬ poss c k = true) (f : Nat) : whoK c (k + 1) f = whoK c k f := by
  have hp' : poss c k = false := by simpa using hp
  funext t
  unfold whoK
  show (_ && (anyB (fun q => poss c q && (qFell c q (tHm c t) && decide ((qRest c q t : Int) = c 49 f))) k || (poss c k && (qFell c k (tHm c t) && decide ((qRest c k t : Int) = c 49 f))))) = _
  rw [hp', Bool.false_and, Bool.or_false]
def SI (c : bM) (k : Nat) (m : bM) : Prop := (frS c m) ∧ (∀ q, q < k → m 184 q = if poss c q = true then 1 else 0) ∧ (m 132 59 = (cnt (poss c) k : Int)) ∧ (∀ j, j < nRw c → m 185 j = (cnt (fun q => alo c q j) k : Int)) ∧ (∀ h, h < 10 → m 186 h = (cnt (fun q => poss c q && qFell c q h) k : Int)) ∧ (∀ q, q < k → poss c q = true → ∀ r, r < 12 → m 187 (12 * q + r) = oFar (qDeep c q r 1)) ∧ (∀ f, f < (c 37 15).toNat → m 188 f = (bst (whoK c k f) (nTh c) : Int)) ∧ (m 132 53 = 1)
theorem SI_fr {c : bM} {k : Nat} {m : bM} (h : SI c k m) : frS c m := h.1
theorem SI_po {c : bM} {k : Nat} {m : bM} (h : SI c k m) : ∀ q, q < k → m 184 q = if poss c q = true then 1 else 0 := h.2.1
theorem SI_ma {c : bM} {k : Nat} {m : bM} (h : SI c k m) : m 132 59 = (cnt (poss c) k : Int) := h.2.2.1
theorem SI_ha {c : bM} {k : Nat} {m : bM} (h : SI c k m) : ∀ j, j < nRw c → m 185 j = (cnt (fun q => alo c q j) k : Int) := h.2.2.2.1
theorem SI_fa {c : bM} {k : Nat} {m : bM} (h : SI c k m) : ∀ h, h < 10 → m 186 h = (cnt (fun q => poss c q && qFell c q h) k : Int) := h.2.2.2.2.1
theorem SI_fl {c : bM} {k : Nat} {m : bM} (h : SI c k m) : ∀ q, q < k → poss c q = true → ∀ r, r < 12 → m 187 (12 * q + r) = oFar (qDeep c q r 1) := h.2.2.2.2.2.1
theorem SI_wh {c : bM} {k : Nat} {m : bM} (h : SI c k m) : ∀ f, f < (c 37 15).toNat → m 188 f = (bst (whoK c k f) (nTh c) : Int) := h.2.2.2.2.2.2.1
theorem SI_fs {c : bM} {k : Nat} {m : bM} (h : SI c k m) : m 132 53 = 1 := h.2.2.2.2.2.2.2
theorem cnt_b {p : Nat → Bool} {k : Nat} (h : k < 91) : 0 ≤ (cnt p k : Int) ∧ (cnt p k : Int) ≤ 1000 := by
  have := cnt_le p k
  omega
theorem s4_t (n : Nat) {c m : bM} (hR : Rel c c) {k : Nat} (hk : k < 90) (h : SI c k m) (y2 y3 y4 : Option bV) : ∃ m2 z2 z3 z4, L_M_survey_4b.1.2 (sem (n + 3)) [some (aR 132), some (aI (k : Int)), y2, y3, y4] m = some (.inl (0, [some (aR 132), some (aI (k : Int)), z2, z3, z4], m2)) ∧ SI c (k + 1) m2 := by
  have hV := Rel_v hR
  have hF := Rel_f hR
  have hS := Rel_s hR
  have hN := Rel_n hR
  have fr := SI_fr h
  have rH := RelV_rhouses hV
  have rT := RelF_rthings hF
  have rF := RelF_rfinds hF
  have rR := RelS_rrows hS
  obtain ⟨H, hH⟩ : ∃ H : Nat, c 1 10 = (H : Int) := ⟨(c 1 10).toNat, by omega⟩
  obtain ⟨T, hT⟩ : ∃ T : Nat, c 37 14 = (T : Int) := ⟨(c 37 14).toNat, by omega⟩
  obtain ⟨Fi, hFi⟩ : ∃ Fi : Nat, c 37 15 = (Fi : Int) := ⟨(c 37 15).toNat, by omega⟩
  obtain ⟨R, hRR⟩ : ∃ R : Nat, c 17 9 = (R : Int) := ⟨(c 17 9).toNat, by omega⟩
  have eH : nHs c = H := by unfold nHs; rw [hH]; exact tnc H
  have eT : nTh c = T := nTh_c hT
  have eF : (c 37 15).toNat = Fi := by rw [hFi]; exact tnc Fi
  have eR : nRw c = R := by unfold nRw; rw [hRR]; exact tnc R
  have H2 : H ≤ 10 := by omega
  have T2 : T ≤ 12 := by omega
  have F2 : Fi ≤ 12 := by omega
  have R2 : R ≤ 16 := by omega
  have w3 : k / 30 < 3 := by omega
  have s29 : 0 ≤ ((k % 30 : Nat) : Int) ∧ ((k % 30 : Nat) : Int) ≤ 29 := by omega
  have hRm : Rel m m := Rel_congr hR (fun i a b => fr.1 i (by omega)) (fun i a b => fr.1 i (by omega))
  obtain ⟨m1, e1, ri⟩ := sp_nightAsIs n hRm w3 s29
  have fr1 : fr179 m m1 := RI_fr ri
  have aV : agV m c := fun i a b => fr.1 i (by omega)
  have rq : RQ c k m1 := ⟨fun x hx j hj => by
      have := RI_deep ri x hx j hj
      rw [nD_congr aV, fr.1 1 (by decide)] at this
      exact this, fun x hx => by
      have := RI_fall ri x hx
      rw [nS_congr aV, fr.1 1 (by decide)] at this
      exact this⟩
  have c1 : ∀ i, (133 ≤ i ∧ i < 179) → m1 i = c i := fun i hi => by rw [fr1 i (by omega), fr.1 i (by omega)]
  have hS1 : RelS c m1 := RelS_congr hS (fun _ _ _ => rfl) (fun i a b => c1 i (by omega))
  have n6 : m1 133 6 = (R : Int) := by rw [c1 _ (by decide), RelN_rows hN]; exact hRR
  have n5 : m1 133 5 = (H : Int) := by rw [c1 _ (by decide), RelN_houses hN]; exact hH
  have n9 : m1 133 9 = (T : Int) := by rw [c1 _ (by decide), RelN_things hN]; exact hT
  have n10 : m1 133 10 = (Fi : Int) := by rw [c1 _ (by decide), RelN_finds hN]; exact hFi
  have e2 := s5_l n hS1 hk rq R n6 hRR R2
  have f2 := q_f2 hk
  have frp : ∀ v, frS c (bwr m1 184 k v) := fun v => frS_trans fr ⟨fun i hi => by rw [bwr_ne _ _ (by omega)]; exact fr1 i (by omega), fun j _ _ => by rw [bwr_ne _ _ (by decide), fr1 _ (by decide)]⟩
  have pop : ∀ v, v = (if poss c k = true then 1 else 0) → ∀ q, q < k + 1 → bwr m1 184 k v 184 q = if poss c q = true then 1 else 0 := fun v hv q hq => by
    rw [bwr_if]
    by_cases z : q = k
    · rw [if_pos z, z, hv]
    · rw [if_neg z, fr1 _ (by decide)]
      exact SI_po h q (by omega)
  have P0 := poss_0 (c := c) (q := k)
  rw [eR] at P0
  by_cases z0 : cnt (qAg c k) R = 0
  · have hp : poss c k = true := P0.2 z0
    rw [z0] at e2
    have o2 : ∀ i, i ≠ 184 → bwr m1 184 k 1 i = m1 i := fun i hi => bwr_ne _ _ hi
    obtain ⟨m3, e3, ci⟩ := sp_counts (n + 1) (c := c) (m := bwr m1 184 k 1) (RelV_congr hV (fun _ _ _ => rfl) (fun i a b => by rw [o2 i (by omega)]; exact c1 i (by omega))) (RelF_congr hF (fun _ _ _ => rfl) (fun i a b => by rw [o2 i (by omega)]; exact c1 i (by omega))) hk (RQ_c rq (o2 _ (by decide)) (o2 _ (by decide))) Fi T H (by rw [o2 _ (by decide)]; exact n10) F2 (by rw [o2 _ (by decide)]; exact n9) T2 (by rw [o2 _ (by decide)]; exact n5) H2 eH (whoK c k) (fun f hf => by
      rw [o2 _ (by decide), fr1 _ (by decide), SI_wh h f (by rw [eF]; exact hf), eT]) (fun x hx => by
      rw [o2 _ (by decide), fr1 _ (by decide), SI_fa h x hx]
      exact cnt_b (by omega)) (by
      rw [o2 _ (by decide), fr1 _ (by decide), SI_ma h]
      exact cnt_b (by omega))
    refine ⟨m3, _, _, _, s4_0 n m m1 m3 _ _ _ _ _ k y2 y3 y4 (q_x1 hk) (q_x2 hk) f2 (tnc k) e1 e2 e3, ?_, ?_, ?_, ?_, ?_, ?_, ?_, ?_⟩
    · exact frS_trans (frp 1) ⟨fun i hi => CI_oth ci i (by omega) (by omega) (by omega) (by omega), fun j _ a => CI_fld ci j a⟩
    · rw [CI_oth ci _ (by decide) (by decide) (by decide) (by decide)]
      exact pop 1 (by rw [if_pos hp])
    · rw [CI_mny ci, o2 _ (by decide), fr1 _ (by decide), SI_ma h, cnt_t hp]; rfl
    · intro j hj
      rw [CI_oth ci _ (by decide) (by decide) (by decide) (by decide), o2 _ (by decide), fr1 _ (by decide), SI_ha h j hj, cnt_f (p := fun q => alo c q j)]
      rw [alo_0 (by rw [eR, z0]; decide) j hj]; decide
    · intro x hx
      rw [CI_fll ci x hx, o2 _ (by decide), fr1 _ (by decide), SI_fa h x hx]
      by_cases y : qFell c k x = true
      · rw [if_pos y, cnt_t (p := fun q => poss c q && qFell c q x) (by show (poss c k && qFell c k x) = true; rw [hp, y]; rfl)]; rfl
      · rw [if_neg y, cnt_f (p := fun q => poss c q && qFell c q x) (by show ¬ (poss c k && qFell c k x) = true; rw [hp, Bool.true_and]; exact y)]; omega
    · intro q hq hpq r hr
      by_cases y : q = k
      · rw [y]; exact CI_fl2 ci r hr
      · rw [CI_fl1 ci _ (by omega), o2 _ (by decide), fr1 _ (by decide)]
        exact SI_fl h q (by omega) hpq r hr
    · intro f hf
      rw [CI_who ci f (by rw [← eF]; exact hf), eT]
      congr 1
      exact bst_congr (fun t _ => whoK_t hp f t)
    · rw [CI_fld ci _ (by decide), o2 _ (by decide), fr1 _ (by decide)]; exact SI_fs h
  · have hp : ¬ poss c k = true := fun w => z0 (P0.1 w)
    have hfin : ∀ m3, (∀ i, i ≠ 185 → m3 i = bwr m1 184 k 0 i) → (∀ j, j < nRw c → m3 185 j = (cnt (fun q => alo c q j) (k + 1) : Int)) → SI c (k + 1) m3 := fun m3 o3 h3 => by
      refine ⟨?_, ?_, ?_, h3, ?_, ?_, ?_, ?_⟩
      · exact frS_trans (frp 0) ⟨fun i hi => o3 i (by omega), fun j _ a => by rw [o3 _ (by decide)]⟩
      · rw [o3 _ (by decide)]; exact pop 0 (by rw [if_neg hp])
      · rw [o3 _ (by decide), bwr_ne _ _ (by decide), fr1 _ (by decide), SI_ma h, cnt_f hp]
      · intro x hx
        rw [o3 _ (by decide), bwr_ne _ _ (by decide), fr1 _ (by decide), SI_fa h x hx, cnt_f (p := fun q => poss c q && qFell c q x)]
        show ¬ (poss c k && qFell c k x) = true
        rw [Bool.and_eq_true]; exact fun w => hp w.1
      · intro q hq hpq r hr
        have y : q ≠ k := fun y => hp (y ▸ hpq)
        rw [o3 _ (by decide), bwr_ne _ _ (by decide), fr1 _ (by decide)]
        exact SI_fl h q (by omega) hpq r hr
      · intro f hf
        rw [o3 _ (by decide), bwr_ne _ _ (by decide), fr1 _ (by decide), whoK_f hp]
        exact SI_wh h f hf
      · rw [o3 _ (by decide), bwr_ne _ _ (by decide), fr1 _ (by decide)]; exact SI_fs h
    have hh0 : ∀ j, j < nRw c → bwr m1 184 k 0 185 j = (cnt (fun q => alo c q j) k : Int) := fun j hj => by
      rw [bwr_ne _ _ (by decide), fr1 _ (by decide)]; exact SI_ha h j hj
    by_cases z1 : cnt (qAg c k) R = 1
    · obtain ⟨w, w1, w2, w3', w4⟩ := cnt_1 z1
      rw [z1, w3'] at e2
      have w16 : w < 16 := by omega
      have hw := hh0 w (by rw [eR]; exact w1)
      have y1 : cnt (fun q => alo c q w) k < 2147483647 := by have := cnt_le (fun q => alo c q w) k; omega
      refine ⟨_, _, _, _, s4_1 n m m1 _ _ _ _ _ _ _ k w y2 y3 y4 (q_x1 hk) (q_x2 hk) f2 (tnc k) e1 e2 (f16 w16) (tnc w) hw (i32_s y1), hfin _ (fun i hi => bwr_ne _ _ hi) (fun j hj => ?_)⟩
      have al := alo_1 (q := k) (by rw [eR]; exact w1) w2 (by rw [eR]; exact w4) j hj
      rw [bwr_if]
      by_cases y : j = w
      · rw [if_pos y, y]
        rw [y] at al
        rw [cnt_t (p := fun q => alo c q w) (by show alo c k w = true; rw [al]; exact decide_eq_true rfl)]
      · rw [if_neg y, hh0 j hj, cnt_f (p := fun q => alo c q j)]
        show ¬ alo c k j = true
        rw [al]; exact fun v => y (of_decide_eq_true v)
    · refine ⟨_, _, _, _, s4_2 n m m1 _ _ _ _ _ _ k y2 y3 y4 (q_x1 hk) (q_x2 hk) f2 (tnc k) e1 (by omega) (by omega) e2, hfin _ (fun i hi => rfl) (fun j hj => ?_)⟩
      rw [hh0 j hj, cnt_f (p := fun q => alo c q j)]
      show ¬ alo c k j = true
      rw [alo_0 (by rw [eR]; exact z1) j hj]; decide
theorem sv_e1 (n : Nat) (m : bM) (h : m 132 53 = 1) : sem (n + 1) 212 [aR 132] m = some (m, 0) := by
  rw [st_M_survey]
  simp only [B_M_survey, kr_M_survey, h, d_rLoc1, d_rLoc2, d_rFld1, d_rFld2, d_eInt, d_eLdc, d_eLdw, d_eLoc, d_eFld, d_lFld, d_eAI, d_eAZ, d_eAB, d_lAL, d_eAD, d_eLen, d_eAdd, d_eSub, d_eMul, d_eAnd, d_eOr, d_eXor, d_eShl, d_eShr, d_eUsh, d_lAdd, d_lSub, d_lMul, d_lAnd, d_lOr, d_lXor, d_lShl, d_lShr, d_eDiv, d_eRem, d_eCmp, d_eI2B, d_eI2S, d_eL2I, d_lI2L, d_lInt, d_lLdc, d_lLoc, d_eIte, d_lIte, d_eMax, d_eMin, d_eAbs, d_eAbove, d_eBodies, d_cQ, d_cZ, d_cNot, d_cAnd, d_cOr, d_gNil, d_gI, d_gL, d_gR, d_gD, d_xV, d_xS, d_xN, d_xT, d_eCall, d_lCall, d_eCallC, d_sNop, d_sSet, d_sSetL, d_sSetR, d_sSetQ, d_sInc, d_sPutI, d_sPutZ, d_sPutL, d_sPutA, d_sPutAZ, d_sPutAB, d_sPutAL, d_sPutD, d_sOpF, d_sOpA, d_sCall, d_sCopy, d_sSeq, d_sIf, d_sBrk, d_sCnt, d_sRetV, d_sRet, d_sRetL, d_sLp, d_tDef, d_tCase, d_sSw, d_sSwB, bIt_d, itb_0, itb_1, itb_2, itb_r, its_0, sqk_0, sqk_1, sqk_2, sqk_r, swk_0, swk_1, swk_r, bfin_r, bfin_ite, Option.bind_some, Option.map_some, Option.bind_none, Option.map_none, bind_ite, map_ite, cop0, cop1, cop2, cop3, cop4, cop5, opv0, opv1, opv2, opv3, brc_i, brc_z, two_ne_one, false_or, getI, getR, getL, List.getElem?_cons_zero, List.getElem?_cons_succ, List.set_cons_zero, List.set_cons_succ, bnl, if_true, if_false, true_or, or_true, decide_eq_true_eq, Bool.not_eq_true', decide_eq_false_iff_not, Bool.not_true, Bool.not_false, Bool.true_eq_false, Bool.false_eq_true, ite_not, reduceIte, ite01_0, ite01_1, Decidable.not_not, ne_eq, not_true_eq_false, not_false_eq_true, Function.comp_apply, decide_not, Bool.not_not, Bool.not_eq_false', dc_t, dc_f, and_self, true_and, and_true, and_false, false_and, tnc, Int.reduceLT, Int.reduceLE, Int.reduceEq, Int.reduceAdd, Int.reduceSub, Int.reduceMul, Int.reduceToNat, Int.reduceNeg, Int.reduceNe]
theorem sv_e0 (n : Nat) (m m1 m2 m3 m4 : bM) (l1 l2 l3 l4 : Int) (y2 y3 y4 : Option bV) (h : m 132 53 = 0) (e1 : L_M_survey_1.1.2 (sem n) [some (aR 132), some (aI 0), none, none, none] (bwr (bwr m 132 53 1) 132 59 0) = some (.inl (0, [some (aR 132), some (aI l1), none, none, none], m1))) (e2 : L_M_survey_2.1.2 (sem n) [some (aR 132), some (aI 0), none, none, none] m1 = some (.inl (0, [some (aR 132), some (aI l2), none, none, none], m2))) (e3 : L_M_survey_3.1.2 (sem n) [some (aR 132), some (aI 0), none, none, none] m2 = some (.inl (0, [some (aR 132), some (aI l3), none, none, none], m3))) (e4 : L_M_survey_4.1.2 (sem n) [some (aR 132), some (aI 0), none, none, none] m3 = some (.inl (0, [some (aR 132), some (aI l4), y2, y3, y4], m4))) : sem (n + 1) 212 [aR 132] m = some (m4, 0) := by
  rw [st_M_survey]
  unfold B_M_survey
  revert e1 e2 e3 e4
  generalize L_M_survey_1 = LL
  generalize L_M_survey_2 = LL2
  generalize L_M_survey_3 = LL3
  generalize L_M_survey_4 = LL4
  intro e1 e2 e3 e4
  simp only [kr_M_survey, h, e1, e2, e3, e4, d_rLoc1, d_rLoc2, d_rFld1, d_rFld2, d_eInt, d_eLdc, d_eLdw, d_eLoc, d_eFld, d_lFld, d_eAI, d_eAZ, d_eAB, d_lAL, d_eAD, d_eLen, d_eAdd, d_eSub, d_eMul, d_eAnd, d_eOr, d_eXor, d_eShl, d_eShr, d_eUsh, d_lAdd, d_lSub, d_lMul, d_lAnd, d_lOr, d_lXor, d_lShl, d_lShr, d_eDiv, d_eRem, d_eCmp, d_eI2B, d_eI2S, d_eL2I, d_lI2L, d_lInt, d_lLdc, d_lLoc, d_eIte, d_lIte, d_eMax, d_eMin, d_eAbs, d_eAbove, d_eBodies, d_cQ, d_cZ, d_cNot, d_cAnd, d_cOr, d_gNil, d_gI, d_gL, d_gR, d_gD, d_xV, d_xS, d_xN, d_xT, d_eCall, d_lCall, d_eCallC, d_sNop, d_sSet, d_sSetL, d_sSetR, d_sSetQ, d_sInc, d_sPutI, d_sPutZ, d_sPutL, d_sPutA, d_sPutAZ, d_sPutAB, d_sPutAL, d_sPutD, d_sOpF, d_sOpA, d_sCall, d_sCopy, d_sSeq, d_sIf, d_sBrk, d_sCnt, d_sRetV, d_sRet, d_sRetL, d_sLp, d_tDef, d_tCase, d_sSw, d_sSwB, bIt_d, itb_0, itb_1, itb_2, itb_r, its_0, sqk_0, sqk_1, sqk_2, sqk_r, swk_0, swk_1, swk_r, bfin_r, bfin_ite, Option.bind_some, Option.map_some, Option.bind_none, Option.map_none, bind_ite, map_ite, cop0, cop1, cop2, cop3, cop4, cop5, opv0, opv1, opv2, opv3, brc_i, brc_z, two_ne_one, false_or, getI, getR, getL, List.getElem?_cons_zero, List.getElem?_cons_succ, List.set_cons_zero, List.set_cons_succ, bnl, if_true, if_false, true_or, or_true, decide_eq_true_eq, Bool.not_eq_true', decide_eq_false_iff_not, Bool.not_true, Bool.not_false, Bool.true_eq_false, Bool.false_eq_true, ite_not, reduceIte, ite01_0, ite01_1, Decidable.not_not, ne_eq, not_true_eq_false, not_false_eq_true, Function.comp_apply, decide_not, Bool.not_not, Bool.not_eq_false', dc_t, dc_f, and_self, true_and, and_true, and_false, false_and, tnc, Int.reduceLT, Int.reduceLE, Int.reduceEq, Int.reduceAdd, Int.reduceSub, Int.reduceMul, Int.reduceToNat, Int.reduceNeg, Int.reduceNe]
/-- a loop of N turns whose locals stand by what holds of them -/
theorem lp_n {cc : bLs → bM → Option (Bool × bM)} {b s : bLs → bM → Option bRs} (I : Nat → bLs → bM → Prop) : ∀ (N i f : Nat) (ls : bLs) (m : bM), N < f → I i ls m → (∀ k ls m, i ≤ k → k < i + N → I k ls m → ∃ ls' m', bIt cc b s ls m = some (.inl (0, ls', m')) ∧ I (k + 1) ls' m') → (∀ ls m, I (i + N) ls m → bIt cc b s ls m = some (.inl (1, ls, m))) → ∃ ls' m', bLp cc b s f ls m = some (.inl (0, ls', m')) ∧ I (i + N) ls' m'
  | _, _, 0, _, _, hf, _, _, _ => absurd hf (Nat.not_lt_zero _)
  | 0, i, f + 1, ls, m, _, h0, _, hx => ⟨ls, m, bLp_out (hx ls m h0), h0⟩
  | N + 1, i, f + 1, ls, m, hf, h0, hs, hx => by
    obtain ⟨ls1, m1, e1, h1⟩ := hs i ls m (Nat.le_refl _) (by omega) h0
    rw [bLp_go e1, show i + (N + 1) = (i + 1) + N by omega]
    exact lp_n I N (i + 1) f ls1 m1 (by omega) h1 (fun k ls m a b => hs k ls m (by omega) (by omega)) (fun ls m h => hx ls m (by rw [show i + (N + 1) = (i + 1) + N by omega]; exact h))
theorem sp_survey (n : Nat) {m : bM} (hR : Rel m m) (hf : m 132 53 = 0 ∨ m 132 53 = 1 ∧ NgtR m m) : ∃ m2, sem (n + 4) 212 [aR 132] m = some (m2, 0) ∧ NgtR m m2 ∧ m2 132 53 = 1 ∧ frS m m2 := by
  rcases hf with h0 | ⟨h0, h1⟩
  · obtain ⟨m0, hm0⟩ : ∃ m0, m0 = bwr (bwr m 132 53 1) 132 59 0 := ⟨_, rfl⟩
    have o0 : ∀ i, i ≠ 132 → m0 i = m i := fun i hi => by rw [hm0, bwr_ne _ _ hi, bwr_ne _ _ hi]
    obtain ⟨m1, e1, o1, v1⟩ := s1_l (n + 3) m0 none none none
    obtain ⟨m2, e2, o2, v2⟩ := s2_l (n + 3) m1 none none none
    obtain ⟨m3, e3, o3, v3⟩ := s3_l (n + 3) m2 none none none
    have oo : ∀ i, i ≠ 185 → i ≠ 186 → i ≠ 188 → m3 i = m0 i := fun i a b d => by rw [o3 i d, o2 i b, o1 i a]
    have rS := RelS_rrows (Rel_s hR)
    have rF := RelF_rfinds (Rel_f hR)
    have s0 : SI m 0 m3 := by
      refine ⟨⟨fun i hi => by rw [oo i (by omega) (by omega) (by omega), o0 i (by omega)], fun k a b => by rw [oo _ (by decide) (by decide) (by decide), hm0, bwr_ne2 _ b, bwr_ne2 _ a]⟩, fun q hq => absurd hq (Nat.not_lt_zero q), ?_, fun j hj => ?_, fun x hx => ?_, fun q hq => absurd hq (Nat.not_lt_zero q), fun f hf => ?_, ?_⟩
      · rw [oo _ (by decide) (by decide) (by decide), hm0, bwr_eq2]; rfl
      · rw [o3 _ (by decide), o2 _ (by decide), v1 j, if_pos (by unfold nRw at hj; omega)]; rfl
      · rw [o3 _ (by decide), v2 x, if_pos hx]; rfl
      · rw [v3 f, if_pos (by omega), bst_0 (p := whoK m 0 f) (fun t _ => by unfold whoK; exact Bool.and_false _)]; rfl
      · rw [oo _ (by decide) (by decide) (by decide), hm0, bwr_ne2 _ (by decide), bwr_eq2]
    have L := lp_n (cc := L_M_survey_4c.1.2 (sem (n + 3))) (b := L_M_survey_4b.1.2 (sem (n + 3))) (s := L_M_survey_4s.1.2 (sem (n + 3))) (fun k ls mm => (∃ y2 y3 y4, ls = [some (aR 132), some (aI (k : Int)), y2, y3, y4]) ∧ SI m k mm) 90 0 bF [some (aR 132), some (aI ((0 : Nat) : Int)), none, none, none] m3 (by decide) ⟨⟨none, none, none, rfl⟩, s0⟩ (fun k ls mm _ hk h => by
      obtain ⟨⟨y2, y3, y4, hl⟩, hs⟩ := h
      subst hl
      have hk' : k < 90 := by omega
      obtain ⟨m5, z2, z3, z4, e5, h5⟩ := s4_t n hR hk' hs y2 y3 y4
      exact ⟨_, m5, bIt_go (m1 := mm) (s4_c _ mm _ _ _ _ (k90 hk')) e5 (s4_s _ m5 _ _ _ _ _ (i32_s (k31 hk'))), ⟨z2, z3, z4, rfl⟩, h5⟩) (fun ls mm h => by
      obtain ⟨⟨y2, y3, y4, hl⟩, hs⟩ := h
      subst hl
      exact bIt_ex (s4_x _ mm _ _ _ _ (by decide)))
    obtain ⟨ls4, m4, e4, ⟨y2, y3, y4, hl⟩, s4⟩ := L
    subst hl
    have e4' : L_M_survey_4.1.2 (sem (n + 3)) [some (aR 132), some (aI 0), none, none, none] m3 = some (.inl (0, [some (aR 132), some (aI ((0 + 90 : Nat) : Int)), y2, y3, y4], m4)) := by
      unfold L_M_survey_4
      rw [d_sLp]
      exact e4
    rw [hm0] at e1
    refine ⟨m4, sv_e0 (n + 3) m m1 m2 m3 m4 _ _ _ _ _ _ _ h0 e1 e2 e3 e4', ⟨?_, ?_, ?_, ?_, ?_, ?_⟩, SI_fs s4, SI_fr s4⟩
    · exact SI_po s4
    · exact SI_ma s4
    · exact SI_ha s4
    · exact SI_fa s4
    · exact SI_fl s4
    · intro f hf
      exact SI_wh s4 f (by omega)
  · exact ⟨m, sv_e1 (n + 3) m h0, h1, h0, frS_refl m⟩
