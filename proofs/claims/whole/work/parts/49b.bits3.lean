/-! ===== how many bits: the class's way and the reference's ===== -/
def nEq (a b : Nat) : Prop := a = b
theorem i32_add {a b c : Nat} (h : a + b = c) (hc : c < 2147483648) : i32 ((a : Int) + (b : Int)) = (c : Int) := by rw [i32_of (by omega) (by omega)]; omega
theorem i32_sub {a b c : Nat} (h : c + b = a) (ha : a < 2147483648) : i32 ((a : Int) - (b : Int)) = (c : Int) := by rw [i32_of (by omega) (by omega)]; omega
theorem i32_s {k : Nat} (h : k < 2147483647) : i32 ((k : Int) + 1) = ((k + 1 : Nat) : Int) := by rw [i32_of (by omega) (by omega)]; omega
theorem nEq_r (a : Nat) : nEq a a := rfl
def pop (x : Nat) : Nat := cnt (fun i => x.testBit i) 17
theorem bcN_pop {x : Nat} (hx : x < 131072) : bcN x = pop x := by
  have := bcC_ok 17 0 0 bt_0_0 x hx
  simpa [pop] using this
theorem bc_a (cal : bCl) (x : Int) (m : bM) : (sSet 0 (eSub (eLoc 0) (eAnd (eUsh (eLoc 0) (eInt 1)) (eLdw 1431655765 wk_265))) : ES K_bitCount).1.2 cal [some (aI x)] m = some (.inl (0, [some (aI (i32 (x - jand (jushr x 1) 1431655765)))], m)) := by
  simp only [d_rLoc1, d_rLoc2, d_rFld1, d_rFld2, d_eInt, d_eLdc, d_eLdw, d_eLoc, d_eFld, d_lFld, d_eAI, d_eAZ, d_eAB, d_lAL, d_eAD, d_eLen, d_eAdd, d_eSub, d_eMul, d_eAnd, d_eOr, d_eXor, d_eShl, d_eShr, d_eUsh, d_lAdd, d_lSub, d_lMul, d_lAnd, d_lOr, d_lXor, d_lShl, d_lShr, d_eDiv, d_eRem, d_eCmp, d_eI2B, d_eI2S, d_eL2I, d_lI2L, d_lInt, d_lLdc, d_lLoc, d_eIte, d_lIte, d_eMax, d_eMin, d_eAbs, d_eAbove, d_eBodies, d_cQ, d_cZ, d_cNot, d_cAnd, d_cOr, d_gNil, d_gI, d_gL, d_gR, d_gD, d_xV, d_xS, d_xN, d_xT, d_eCall, d_lCall, d_eCallC, d_sNop, d_sSet, d_sSetL, d_sSetR, d_sSetQ, d_sInc, d_sPutI, d_sPutZ, d_sPutL, d_sPutA, d_sPutAZ, d_sPutAB, d_sPutAL, d_sPutD, d_sOpF, d_sOpA, d_sCall, d_sCopy, d_sSeq, d_sIf, d_sBrk, d_sCnt, d_sRetV, d_sRet, d_sRetL, d_sLp, d_tDef, d_tCase, d_sSw, d_sSwB, bIt_d, itb_0, itb_1, itb_2, itb_r, its_0, sqk_0, sqk_1, sqk_2, sqk_r, swk_0, swk_1, swk_r, bfin_r, bfin_ite, Option.bind_some, Option.map_some, Option.bind_none, Option.map_none, bind_ite, map_ite, cop0, cop1, cop2, cop3, cop4, cop5, opv0, opv1, opv2, opv3, brc_i, brc_z, two_ne_one, false_or, getI, getR, getL, List.getElem?_cons_zero, List.getElem?_cons_succ, List.set_cons_zero, List.set_cons_succ, bnl, if_true, if_false, true_or, or_true, decide_eq_true_eq, Bool.not_eq_true', decide_eq_false_iff_not, Bool.not_true, Bool.not_false, Bool.true_eq_false, Bool.false_eq_true, ite_not, reduceIte, ite01_0, ite01_1, Decidable.not_not, ne_eq, not_true_eq_false, not_false_eq_true, Function.comp_apply, decide_not, Bool.not_not, Bool.not_eq_false']
theorem bc_b (cal : bCl) (x : Int) (m : bM) : (sSet 0 (eAdd (eAnd (eLoc 0) (eLdw 858993459 wk_266)) (eAnd (eUsh (eLoc 0) (eInt 2)) (eLdw 858993459 wk_266))) : ES K_bitCount).1.2 cal [some (aI x)] m = some (.inl (0, [some (aI (i32 (jand x 858993459 + jand (jushr x 2) 858993459)))], m)) := by
  simp only [d_rLoc1, d_rLoc2, d_rFld1, d_rFld2, d_eInt, d_eLdc, d_eLdw, d_eLoc, d_eFld, d_lFld, d_eAI, d_eAZ, d_eAB, d_lAL, d_eAD, d_eLen, d_eAdd, d_eSub, d_eMul, d_eAnd, d_eOr, d_eXor, d_eShl, d_eShr, d_eUsh, d_lAdd, d_lSub, d_lMul, d_lAnd, d_lOr, d_lXor, d_lShl, d_lShr, d_eDiv, d_eRem, d_eCmp, d_eI2B, d_eI2S, d_eL2I, d_lI2L, d_lInt, d_lLdc, d_lLoc, d_eIte, d_lIte, d_eMax, d_eMin, d_eAbs, d_eAbove, d_eBodies, d_cQ, d_cZ, d_cNot, d_cAnd, d_cOr, d_gNil, d_gI, d_gL, d_gR, d_gD, d_xV, d_xS, d_xN, d_xT, d_eCall, d_lCall, d_eCallC, d_sNop, d_sSet, d_sSetL, d_sSetR, d_sSetQ, d_sInc, d_sPutI, d_sPutZ, d_sPutL, d_sPutA, d_sPutAZ, d_sPutAB, d_sPutAL, d_sPutD, d_sOpF, d_sOpA, d_sCall, d_sCopy, d_sSeq, d_sIf, d_sBrk, d_sCnt, d_sRetV, d_sRet, d_sRetL, d_sLp, d_tDef, d_tCase, d_sSw, d_sSwB, bIt_d, itb_0, itb_1, itb_2, itb_r, its_0, sqk_0, sqk_1, sqk_2, sqk_r, swk_0, swk_1, swk_r, bfin_r, bfin_ite, Option.bind_some, Option.map_some, Option.bind_none, Option.map_none, bind_ite, map_ite, cop0, cop1, cop2, cop3, cop4, cop5, opv0, opv1, opv2, opv3, brc_i, brc_z, two_ne_one, false_or, getI, getR, getL, List.getElem?_cons_zero, List.getElem?_cons_succ, List.set_cons_zero, List.set_cons_succ, bnl, if_true, if_false, true_or, or_true, decide_eq_true_eq, Bool.not_eq_true', decide_eq_false_iff_not, Bool.not_true, Bool.not_false, Bool.true_eq_false, Bool.false_eq_true, ite_not, reduceIte, ite01_0, ite01_1, Decidable.not_not, ne_eq, not_true_eq_false, not_false_eq_true, Function.comp_apply, decide_not, Bool.not_not, Bool.not_eq_false']
theorem bc_c (cal : bCl) (x : Int) (m : bM) : (sSet 0 (eAnd (eAdd (eLoc 0) (eUsh (eLoc 0) (eInt 4))) (eLdw 252645135 wk_267)) : ES K_bitCount).1.2 cal [some (aI x)] m = some (.inl (0, [some (aI (jand (i32 (x + jushr x 4)) 252645135))], m)) := by
  simp only [d_rLoc1, d_rLoc2, d_rFld1, d_rFld2, d_eInt, d_eLdc, d_eLdw, d_eLoc, d_eFld, d_lFld, d_eAI, d_eAZ, d_eAB, d_lAL, d_eAD, d_eLen, d_eAdd, d_eSub, d_eMul, d_eAnd, d_eOr, d_eXor, d_eShl, d_eShr, d_eUsh, d_lAdd, d_lSub, d_lMul, d_lAnd, d_lOr, d_lXor, d_lShl, d_lShr, d_eDiv, d_eRem, d_eCmp, d_eI2B, d_eI2S, d_eL2I, d_lI2L, d_lInt, d_lLdc, d_lLoc, d_eIte, d_lIte, d_eMax, d_eMin, d_eAbs, d_eAbove, d_eBodies, d_cQ, d_cZ, d_cNot, d_cAnd, d_cOr, d_gNil, d_gI, d_gL, d_gR, d_gD, d_xV, d_xS, d_xN, d_xT, d_eCall, d_lCall, d_eCallC, d_sNop, d_sSet, d_sSetL, d_sSetR, d_sSetQ, d_sInc, d_sPutI, d_sPutZ, d_sPutL, d_sPutA, d_sPutAZ, d_sPutAB, d_sPutAL, d_sPutD, d_sOpF, d_sOpA, d_sCall, d_sCopy, d_sSeq, d_sIf, d_sBrk, d_sCnt, d_sRetV, d_sRet, d_sRetL, d_sLp, d_tDef, d_tCase, d_sSw, d_sSwB, bIt_d, itb_0, itb_1, itb_2, itb_r, its_0, sqk_0, sqk_1, sqk_2, sqk_r, swk_0, swk_1, swk_r, bfin_r, bfin_ite, Option.bind_some, Option.map_some, Option.bind_none, Option.map_none, bind_ite, map_ite, cop0, cop1, cop2, cop3, cop4, cop5, opv0, opv1, opv2, opv3, brc_i, brc_z, two_ne_one, false_or, getI, getR, getL, List.getElem?_cons_zero, List.getElem?_cons_succ, List.set_cons_zero, List.set_cons_succ, bnl, if_true, if_false, true_or, or_true, decide_eq_true_eq, Bool.not_eq_true', decide_eq_false_iff_not, Bool.not_true, Bool.not_false, Bool.true_eq_false, Bool.false_eq_true, ite_not, reduceIte, ite01_0, ite01_1, Decidable.not_not, ne_eq, not_true_eq_false, not_false_eq_true, Function.comp_apply, decide_not, Bool.not_not, Bool.not_eq_false']
theorem bc_d (cal : bCl) (x : Int) (m : bM) : (sSet 0 (eAdd (eLoc 0) (eUsh (eLoc 0) (eInt 8))) : ES K_bitCount).1.2 cal [some (aI x)] m = some (.inl (0, [some (aI (i32 (x + jushr x 8)))], m)) := by
  simp only [d_rLoc1, d_rLoc2, d_rFld1, d_rFld2, d_eInt, d_eLdc, d_eLdw, d_eLoc, d_eFld, d_lFld, d_eAI, d_eAZ, d_eAB, d_lAL, d_eAD, d_eLen, d_eAdd, d_eSub, d_eMul, d_eAnd, d_eOr, d_eXor, d_eShl, d_eShr, d_eUsh, d_lAdd, d_lSub, d_lMul, d_lAnd, d_lOr, d_lXor, d_lShl, d_lShr, d_eDiv, d_eRem, d_eCmp, d_eI2B, d_eI2S, d_eL2I, d_lI2L, d_lInt, d_lLdc, d_lLoc, d_eIte, d_lIte, d_eMax, d_eMin, d_eAbs, d_eAbove, d_eBodies, d_cQ, d_cZ, d_cNot, d_cAnd, d_cOr, d_gNil, d_gI, d_gL, d_gR, d_gD, d_xV, d_xS, d_xN, d_xT, d_eCall, d_lCall, d_eCallC, d_sNop, d_sSet, d_sSetL, d_sSetR, d_sSetQ, d_sInc, d_sPutI, d_sPutZ, d_sPutL, d_sPutA, d_sPutAZ, d_sPutAB, d_sPutAL, d_sPutD, d_sOpF, d_sOpA, d_sCall, d_sCopy, d_sSeq, d_sIf, d_sBrk, d_sCnt, d_sRetV, d_sRet, d_sRetL, d_sLp, d_tDef, d_tCase, d_sSw, d_sSwB, bIt_d, itb_0, itb_1, itb_2, itb_r, its_0, sqk_0, sqk_1, sqk_2, sqk_r, swk_0, swk_1, swk_r, bfin_r, bfin_ite, Option.bind_some, Option.map_some, Option.bind_none, Option.map_none, bind_ite, map_ite, cop0, cop1, cop2, cop3, cop4, cop5, opv0, opv1, opv2, opv3, brc_i, brc_z, two_ne_one, false_or, getI, getR, getL, List.getElem?_cons_zero, List.getElem?_cons_succ, List.set_cons_zero, List.set_cons_succ, bnl, if_true, if_false, true_or, or_true, decide_eq_true_eq, Bool.not_eq_true', decide_eq_false_iff_not, Bool.not_true, Bool.not_false, Bool.true_eq_false, Bool.false_eq_true, ite_not, reduceIte, ite01_0, ite01_1, Decidable.not_not, ne_eq, not_true_eq_false, not_false_eq_true, Function.comp_apply, decide_not, Bool.not_not, Bool.not_eq_false']
theorem bc_e (cal : bCl) (x : Int) (m : bM) : (sSet 0 (eAdd (eLoc 0) (eUsh (eLoc 0) (eInt 16))) : ES K_bitCount).1.2 cal [some (aI x)] m = some (.inl (0, [some (aI (i32 (x + jushr x 16)))], m)) := by
  simp only [d_rLoc1, d_rLoc2, d_rFld1, d_rFld2, d_eInt, d_eLdc, d_eLdw, d_eLoc, d_eFld, d_lFld, d_eAI, d_eAZ, d_eAB, d_lAL, d_eAD, d_eLen, d_eAdd, d_eSub, d_eMul, d_eAnd, d_eOr, d_eXor, d_eShl, d_eShr, d_eUsh, d_lAdd, d_lSub, d_lMul, d_lAnd, d_lOr, d_lXor, d_lShl, d_lShr, d_eDiv, d_eRem, d_eCmp, d_eI2B, d_eI2S, d_eL2I, d_lI2L, d_lInt, d_lLdc, d_lLoc, d_eIte, d_lIte, d_eMax, d_eMin, d_eAbs, d_eAbove, d_eBodies, d_cQ, d_cZ, d_cNot, d_cAnd, d_cOr, d_gNil, d_gI, d_gL, d_gR, d_gD, d_xV, d_xS, d_xN, d_xT, d_eCall, d_lCall, d_eCallC, d_sNop, d_sSet, d_sSetL, d_sSetR, d_sSetQ, d_sInc, d_sPutI, d_sPutZ, d_sPutL, d_sPutA, d_sPutAZ, d_sPutAB, d_sPutAL, d_sPutD, d_sOpF, d_sOpA, d_sCall, d_sCopy, d_sSeq, d_sIf, d_sBrk, d_sCnt, d_sRetV, d_sRet, d_sRetL, d_sLp, d_tDef, d_tCase, d_sSw, d_sSwB, bIt_d, itb_0, itb_1, itb_2, itb_r, its_0, sqk_0, sqk_1, sqk_2, sqk_r, swk_0, swk_1, swk_r, bfin_r, bfin_ite, Option.bind_some, Option.map_some, Option.bind_none, Option.map_none, bind_ite, map_ite, cop0, cop1, cop2, cop3, cop4, cop5, opv0, opv1, opv2, opv3, brc_i, brc_z, two_ne_one, false_or, getI, getR, getL, List.getElem?_cons_zero, List.getElem?_cons_succ, List.set_cons_zero, List.set_cons_succ, bnl, if_true, if_false, true_or, or_true, decide_eq_true_eq, Bool.not_eq_true', decide_eq_false_iff_not, Bool.not_true, Bool.not_false, Bool.true_eq_false, Bool.false_eq_true, ite_not, reduceIte, ite01_0, ite01_1, Decidable.not_not, ne_eq, not_true_eq_false, not_false_eq_true, Function.comp_apply, decide_not, Bool.not_not, Bool.not_eq_false']
theorem bc_f (cal : bCl) (x : Int) (m : bM) : (sRet (eAnd (eLoc 0) (eInt 63)) : ES K_bitCount).1.2 cal [some (aI x)] m = some (.inr (m, jand x 63)) := by
  simp only [kr_bitCount, d_rLoc1, d_rLoc2, d_rFld1, d_rFld2, d_eInt, d_eLdc, d_eLdw, d_eLoc, d_eFld, d_lFld, d_eAI, d_eAZ, d_eAB, d_lAL, d_eAD, d_eLen, d_eAdd, d_eSub, d_eMul, d_eAnd, d_eOr, d_eXor, d_eShl, d_eShr, d_eUsh, d_lAdd, d_lSub, d_lMul, d_lAnd, d_lOr, d_lXor, d_lShl, d_lShr, d_eDiv, d_eRem, d_eCmp, d_eI2B, d_eI2S, d_eL2I, d_lI2L, d_lInt, d_lLdc, d_lLoc, d_eIte, d_lIte, d_eMax, d_eMin, d_eAbs, d_eAbove, d_eBodies, d_cQ, d_cZ, d_cNot, d_cAnd, d_cOr, d_gNil, d_gI, d_gL, d_gR, d_gD, d_xV, d_xS, d_xN, d_xT, d_eCall, d_lCall, d_eCallC, d_sNop, d_sSet, d_sSetL, d_sSetR, d_sSetQ, d_sInc, d_sPutI, d_sPutZ, d_sPutL, d_sPutA, d_sPutAZ, d_sPutAB, d_sPutAL, d_sPutD, d_sOpF, d_sOpA, d_sCall, d_sCopy, d_sSeq, d_sIf, d_sBrk, d_sCnt, d_sRetV, d_sRet, d_sRetL, d_sLp, d_tDef, d_tCase, d_sSw, d_sSwB, bIt_d, itb_0, itb_1, itb_2, itb_r, its_0, sqk_0, sqk_1, sqk_2, sqk_r, swk_0, swk_1, swk_r, bfin_r, bfin_ite, Option.bind_some, Option.map_some, Option.bind_none, Option.map_none, bind_ite, map_ite, cop0, cop1, cop2, cop3, cop4, cop5, opv0, opv1, opv2, opv3, brc_i, brc_z, two_ne_one, false_or, getI, getR, getL, List.getElem?_cons_zero, List.getElem?_cons_succ, List.set_cons_zero, List.set_cons_succ, bnl, if_true, if_false, true_or, or_true, decide_eq_true_eq, Bool.not_eq_true', decide_eq_false_iff_not, Bool.not_true, Bool.not_false, Bool.true_eq_false, Bool.false_eq_true, ite_not, reduceIte, ite01_0, ite01_1, Decidable.not_not, ne_eq, not_true_eq_false, not_false_eq_true, Function.comp_apply, decide_not, Bool.not_not, Bool.not_eq_false']
theorem sp_bc0 (n x : Nat) (u a v w b b4 c c8 d d6 f : Nat) (m : bM) (u1 : jushr (x : Int) 1 = ((x / 2 ^ 1 : Nat) : Int)) (q1 : jand ((x / 2 ^ 1 : Nat) : Int) 1431655765 = (u : Int)) (e1 : i32 ((x : Int) - (u : Int)) = (a : Int)) (u2 : jushr (a : Int) 2 = ((a / 2 ^ 2 : Nat) : Int)) (q2 : jand (a : Int) 858993459 = (v : Int)) (q3 : jand ((a / 2 ^ 2 : Nat) : Int) 858993459 = (w : Int)) (e2 : i32 ((v : Int) + (w : Int)) = (b : Int)) (u3 : jushr (b : Int) 4 = (b4 : Int)) (e3 : i32 ((b : Int) + (b4 : Int)) = ((b + b4 : Nat) : Int)) (q4 : jand ((b + b4 : Nat) : Int) 252645135 = (c : Int)) (u4 : jushr (c : Int) 8 = (c8 : Int)) (e4 : i32 ((c : Int) + (c8 : Int)) = (d : Int)) (u5 : jushr (d : Int) 16 = (d6 : Int)) (e5 : i32 ((d : Int) + (d6 : Int)) = ((d + d6 : Nat) : Int)) (q5 : jand ((d + d6 : Nat) : Int) 63 = (f : Int)) : sem (n + 1) 129 [aI (x : Int)] m = some (m, (f : Int)) := by
  rw [st_bitCount]
  unfold B_bitCount
  rw [d_sSeq, bc_a, u1, q1, e1, Option.bind_some, sqk_0, d_sSeq, bc_b, q2, u2, q3, e2, Option.bind_some, sqk_0, d_sSeq, bc_c, u3, e3, q4, Option.bind_some, sqk_0, d_sSeq, bc_d, u4, e4, Option.bind_some, sqk_0, d_sSeq, bc_e, u5, e5, Option.bind_some, sqk_0, bc_f, q5, bfin_r]
theorem jand_k1 {z u : Nat} (hz : z < 2147483648) (hu : nEq u (z &&& 1431655765)) : jand (z : Int) 1431655765 = (u : Int) := by
  have h : u = _ := hu
  rw [h]; exact jand_nat (b := 1431655765) hz
theorem jand_k2 {z u : Nat} (hz : z < 2147483648) (hu : nEq u (z &&& 858993459)) : jand (z : Int) 858993459 = (u : Int) := by
  have h : u = _ := hu
  rw [h]; exact jand_nat (b := 858993459) hz
theorem jand_k3 {z u : Nat} (hz : z < 2147483648) (hu : nEq u (z &&& 252645135)) : jand (z : Int) 252645135 = (u : Int) := by
  have h : u = _ := hu
  rw [h]; exact jand_nat (b := 252645135) hz
theorem jand_k4 {z u : Nat} (hz : z < 2147483648) (hu : nEq u (z &&& 63)) : jand (z : Int) 63 = (u : Int) := by
  have h : u = _ := hu
  rw [h]; exact jand_nat (b := 63) hz
theorem bcN_eq {x u a v w b b4 c c8 d d6 f : Nat} (h1 : nEq u (x / 2 ^ 1 &&& 1431655765)) (ha : a = x - u) (h2 : nEq v (a &&& 858993459)) (h3 : nEq w (a / 2 ^ 2 &&& 858993459)) (hb : b = v + w) (h6 : nEq b4 (b / 2 ^ 4)) (h4 : nEq c (b + b4 &&& 252645135)) (h7 : nEq c8 (c / 2 ^ 8)) (hd : d = c + c8) (h8 : nEq d6 (d / 2 ^ 16)) (h5 : nEq f (d + d6 &&& 63)) : bcN x = f := by
  unfold nEq at *
  rw [h5, h8, hd, h7, h4, h6, hb, h2, h3, ha, h1]
  rfl
theorem sp_bitCount (n x : Nat) (hx : x < 131072) (m : bM) : sem (n + 1) 129 [aI (x : Int)] m = some (m, (pop x : Int)) := by
  obtain ⟨u, hu⟩ : ∃ u, nEq u (x / 2 ^ 1 &&& 1431655765) := ⟨_, nEq_r _⟩
  have l1 : u ≤ x := by rw [show u = _ from hu]; exact Nat.le_trans Nat.and_le_left (Nat.div_le_self _ _)
  obtain ⟨a, ha⟩ : ∃ a, a = x - u := ⟨_, rfl⟩
  have la : a < 131072 := by omega
  have x1 : a + u = x := by omega
  obtain ⟨v, hv⟩ : ∃ v, nEq v (a &&& 858993459) := ⟨_, nEq_r _⟩
  obtain ⟨w, hw⟩ : ∃ w, nEq w (a / 2 ^ 2 &&& 858993459) := ⟨_, nEq_r _⟩
  have l2 : v ≤ a := by rw [show v = _ from hv]; exact Nat.and_le_left
  have l3 : w ≤ a := by rw [show w = _ from hw]; exact Nat.le_trans Nat.and_le_left (Nat.div_le_self _ _)
  obtain ⟨b, hb⟩ : ∃ b, b = v + w := ⟨_, rfl⟩
  have lb : b < 262144 := by omega
  obtain ⟨b4, hb4⟩ : ∃ b4, nEq b4 (b / 2 ^ 4) := ⟨_, nEq_r _⟩
  have lb4 : b4 ≤ b := by rw [show b4 = _ from hb4]; exact Nat.div_le_self _ _
  obtain ⟨c, hc⟩ : ∃ c, nEq c (b + b4 &&& 252645135) := ⟨_, nEq_r _⟩
  have l5 : c ≤ b + b4 := by rw [show c = _ from hc]; exact Nat.and_le_left
  have l6 : b + b4 < 2147483648 := by omega
  have lc : c < 1048576 := by omega
  obtain ⟨c8, hc8⟩ : ∃ c8, nEq c8 (c / 2 ^ 8) := ⟨_, nEq_r _⟩
  have lc8 : c8 ≤ c := by rw [show c8 = _ from hc8]; exact Nat.div_le_self _ _
  obtain ⟨d, hd⟩ : ∃ d, d = c + c8 := ⟨_, rfl⟩
  have ld : d < 2097152 := by omega
  obtain ⟨d6, hd6⟩ : ∃ d6, nEq d6 (d / 2 ^ 16) := ⟨_, nEq_r _⟩
  have ld6 : d6 ≤ d := by rw [show d6 = _ from hd6]; exact Nat.div_le_self _ _
  obtain ⟨f, hf⟩ : ∃ f, nEq f (d + d6 &&& 63) := ⟨_, nEq_r _⟩
  have l7 : d + d6 < 2147483648 := by omega
  have B : ∀ {z k : Nat}, z < k → k ≤ 2147483648 → z < 2147483648 := fun h1 h2 => Nat.lt_of_lt_of_le h1 h2
  have bx := B hx (Nat.le_of_ble_eq_true rfl)
  have ba := B la (Nat.le_of_ble_eq_true rfl)
  have bb := B lb (Nat.le_of_ble_eq_true rfl)
  have bc := B lc (Nat.le_of_ble_eq_true rfl)
  have bd := B ld (Nat.le_of_ble_eq_true rfl)
  have e1 : i32 ((x : Int) - (u : Int)) = (a : Int) := i32_sub x1 bx
  have e2 : i32 ((v : Int) + (w : Int)) = (b : Int) := i32_add hb.symm bb
  have e3 : i32 ((b : Int) + (b4 : Int)) = ((b + b4 : Nat) : Int) := i32_add rfl l6
  have e4 : i32 ((c : Int) + (c8 : Int)) = (d : Int) := i32_add hd.symm bd
  have e5 : i32 ((d : Int) + (d6 : Int)) = ((d + d6 : Nat) : Int) := i32_add rfl l7
  have u1 : jushr (x : Int) 1 = ((x / 2 ^ 1 : Nat) : Int) := jushr_nat (a := x) 1 bx (by decide)
  have q1 : jand ((x / 2 ^ 1 : Nat) : Int) 1431655765 = (u : Int) := jand_k1 (Nat.lt_of_le_of_lt (Nat.div_le_self _ _) bx) hu
  have u2 : jushr (a : Int) 2 = ((a / 2 ^ 2 : Nat) : Int) := jushr_nat (a := a) 2 ba (by decide)
  have q2 : jand (a : Int) 858993459 = (v : Int) := jand_k2 ba hv
  have q3 : jand ((a / 2 ^ 2 : Nat) : Int) 858993459 = (w : Int) := jand_k2 (Nat.lt_of_le_of_lt (Nat.div_le_self _ _) ba) hw
  have u3 : jushr (b : Int) 4 = (b4 : Int) := by rw [show b4 = _ from hb4]; exact jushr_nat (a := b) 4 bb (by decide)
  have q4 : jand ((b + b4 : Nat) : Int) 252645135 = (c : Int) := jand_k3 l6 hc
  have u4 : jushr (c : Int) 8 = (c8 : Int) := by rw [show c8 = _ from hc8]; exact jushr_nat (a := c) 8 bc (by decide)
  have u5 : jushr (d : Int) 16 = (d6 : Int) := by rw [show d6 = _ from hd6]; exact jushr_nat (a := d) 16 bd (by decide)
  have q5 : jand ((d + d6 : Nat) : Int) 63 = (f : Int) := jand_k4 l7 hf
  have hpop : bcN x = f := bcN_eq hu ha hv hw hb hb4 hc hc8 hd hd6 hf
  rw [bcN_pop hx] at hpop
  rw [hpop]
  exact sp_bc0 n x u a v w b b4 c c8 d d6 f m u1 q1 e1 u2 q2 q3 e2 u3 e3 q4 u4 e4 u5 e5 q5
/-! the other way: the lowest goes, one by one -/
theorem cnt_add (p : Nat → Bool) (a : Nat) : ∀ b, cnt p (a + b) = cnt p a + cnt (fun i => p (a + i)) b
  | 0 => rfl
  | b + 1 => by
    show cnt p (a + b) + (if p (a + b) = true then 1 else 0) = cnt p a + (cnt (fun i => p (a + i)) b + if p (a + b) = true then 1 else 0)
    rw [cnt_add p a b]; omega
theorem pop_s (x n : Nat) : cnt (fun i => x.testBit i) (n + 1) = x % 2 + cnt (fun i => (x / 2).testBit i) n := by
  rw [Nat.add_comm n 1, cnt_add]
  have e1 : cnt (fun i => x.testBit i) 1 = x % 2 := by
    show 0 + (if x.testBit 0 = true then 1 else 0) = x % 2
    rw [Nat.testBit_zero]
    rcases Nat.mod_two_eq_zero_or_one x with h | h <;> simp [h]
  rw [e1]
  congr 1
  exact cnt_congr (fun i _ => by rw [Nat.add_comm 1 i]; exact Nat.testBit_succ x i)
theorem and_ev {y : Nat} (h : 0 < y) : (2 * y) &&& (2 * y - 1) = 2 * (y &&& (y - 1)) := by
  have a1 : ((2 * y) &&& (2 * y - 1)) / 2 = y &&& (y - 1) := by
    rw [Nat.and_div_two, show 2 * y / 2 = y by omega, show (2 * y - 1) / 2 = y - 1 by omega]
  have a2 : ((2 * y) &&& (2 * y - 1)) % 2 ≠ 1 := by rw [Ne, Nat.and_mod_two_eq_one]; omega
  omega
theorem and_od (y : Nat) : (2 * y + 1) &&& (2 * y + 1 - 1) = 2 * y := by
  have a1 : ((2 * y + 1) &&& (2 * y + 1 - 1)) / 2 = y := by
    rw [Nat.and_div_two, show (2 * y + 1) / 2 = y by omega, show (2 * y + 1 - 1) / 2 = y by omega, Nat.and_self]
  have a2 : ((2 * y + 1) &&& (2 * y + 1 - 1)) % 2 ≠ 1 := by rw [Ne, Nat.and_mod_two_eq_one]; omega
  omega
theorem pop_dec : ∀ n x, x < 2 ^ n → 0 < x → cnt (fun i => x.testBit i) n = cnt (fun i => (x &&& (x - 1)).testBit i) n + 1
  | 0, x, h, h0 => by omega
  | n + 1, x, h, h0 => by
    rw [pop_s, pop_s]
    have hx : x / 2 < 2 ^ n := by rw [Nat.pow_succ] at h; omega
    rcases Nat.mod_two_eq_zero_or_one x with h1 | h1
    · obtain ⟨y, rfl⟩ : ∃ y, x = 2 * y := ⟨x / 2, by omega⟩
      rw [and_ev (by omega), show 2 * (y &&& (y - 1)) % 2 = 0 by omega, show 2 * (y &&& (y - 1)) / 2 = y &&& (y - 1) by omega, show 2 * y / 2 = y by omega, pop_dec n y (by omega) (by omega)]
      omega
    · obtain ⟨y, rfl⟩ : ∃ y, x = 2 * y + 1 := ⟨x / 2, by omega⟩
      rw [and_od, show (2 * y + 1) / 2 = y by omega, show 2 * y / 2 = y by omega, show 2 * y % 2 = 0 by omega, h1]
      omega
theorem pop_0 : ∀ n x, x < 2 ^ n → cnt (fun i => x.testBit i) n = 0 → x = 0
  | 0, x, h, _ => by simpa using h
  | n + 1, x, h, h0 => by
    rw [pop_s] at h0
    have := pop_0 n (x / 2) (by rw [Nat.pow_succ] at h; omega) (by omega)
    omega
def lft (x : Nat) : Nat → Nat
  | 0 => x
  | k + 1 => lft x k &&& (lft x k - 1)
theorem lft_le (x : Nat) : ∀ k, lft x k ≤ x
  | 0 => Nat.le_refl _
  | k + 1 => Nat.le_trans Nat.and_le_left (lft_le x k)
theorem lft_pop {x : Nat} (hx : x < 131072) : ∀ k, k ≤ pop x → pop (lft x k) + k = pop x
  | 0, _ => rfl
  | k + 1, h => by
    have ih := lft_pop hx k (by omega)
    have hl := lft_le x k
    have h0 : 0 < lft x k := by
      rcases Nat.eq_zero_or_pos (lft x k) with h1 | h1
      · rw [h1] at ih
        have : pop 0 = 0 := cnt_0 (fun k _ => Nat.zero_testBit k)
        omega
      · exact h1
    have := pop_dec 17 (lft x k) (by omega) h0
    have e : pop (lft x k) = pop (lft x (k + 1)) + 1 := this
    omega
theorem sp_ones (n x : Nat) (hx : x < 131072) (m : bM) : sem (n + 1) 234 [aI (x : Int)] m = some (m, (pop x : Int)) := by
  have hp : pop x ≤ 17 := cnt_le _ _
  have hl : L_M_ones_1.1.2 (sem n) [some (aI (x : Int)), some (aI 0), some (aI (x : Int))] m = some (.inl (0, [some (aI (x : Int)), some (aI (pop x : Int)), some (aI 0)], m)) := by
    unfold L_M_ones_1
    rw [d_sLp]
    refine lp_out (fun k => [some (aI (x : Int)), some (aI (k : Int)), some (aI (lft x k : Int))]) (fun _ => m) (pop x) (by omega) (fun k hk => ?_) ?_
    · have h1 := lft_pop hx k (by omega)
      have h2 := lft_le x k
      have h3 : lft x k ≠ 0 := by
        intro h3
        rw [h3] at h1
        have : pop 0 = 0 := cnt_0 (fun k _ => Nat.zero_testBit k)
        omega
      have h4 : ¬ (lft x k : Int) = 0 := by omega
      have e2 : i32 ((k : Int) + 1) = ((k + 1 : Nat) : Int) := by rw [i32_of (by omega) (by omega)]; omega
      have e3 : i32 ((lft x k : Int) - 1) = ((lft x k - 1 : Nat) : Int) := by rw [i32_of (by omega) (by omega)]; omega
      have e4 : jand (lft x k : Int) ((lft x k - 1 : Nat) : Int) = (lft x (k + 1) : Int) := jand_nat (by omega)
      simp only [L_M_ones_1c, L_M_ones_1b, L_M_ones_1s, h4, e2, e3, e4, d_rLoc1, d_rLoc2, d_rFld1, d_rFld2, d_eInt, d_eLdc, d_eLdw, d_eLoc, d_eFld, d_lFld, d_eAI, d_eAZ, d_eAB, d_lAL, d_eAD, d_eLen, d_eAdd, d_eSub, d_eMul, d_eAnd, d_eOr, d_eXor, d_eShl, d_eShr, d_eUsh, d_lAdd, d_lSub, d_lMul, d_lAnd, d_lOr, d_lXor, d_lShl, d_lShr, d_eDiv, d_eRem, d_eCmp, d_eI2B, d_eI2S, d_eL2I, d_lI2L, d_lInt, d_lLdc, d_lLoc, d_eIte, d_lIte, d_eMax, d_eMin, d_eAbs, d_eAbove, d_eBodies, d_cQ, d_cZ, d_cNot, d_cAnd, d_cOr, d_gNil, d_gI, d_gL, d_gR, d_gD, d_xV, d_xS, d_xN, d_xT, d_eCall, d_lCall, d_eCallC, d_sNop, d_sSet, d_sSetL, d_sSetR, d_sSetQ, d_sInc, d_sPutI, d_sPutZ, d_sPutL, d_sPutA, d_sPutAZ, d_sPutAB, d_sPutAL, d_sPutD, d_sOpF, d_sOpA, d_sCall, d_sCopy, d_sSeq, d_sIf, d_sBrk, d_sCnt, d_sRetV, d_sRet, d_sRetL, d_sLp, d_tDef, d_tCase, d_sSw, d_sSwB, bIt_d, itb_0, itb_1, itb_2, itb_r, its_0, sqk_0, sqk_1, sqk_2, sqk_r, swk_0, swk_1, swk_r, bfin_r, bfin_ite, Option.bind_some, Option.map_some, Option.bind_none, Option.map_none, bind_ite, map_ite, cop0, cop1, cop2, cop3, cop4, cop5, opv0, opv1, opv2, opv3, brc_i, brc_z, two_ne_one, false_or, getI, getR, getL, List.getElem?_cons_zero, List.getElem?_cons_succ, List.set_cons_zero, List.set_cons_succ, bnl, if_true, if_false, true_or, or_true, decide_eq_true_eq, Bool.not_eq_true', decide_eq_false_iff_not, Bool.not_true, Bool.not_false, Bool.true_eq_false, Bool.false_eq_true, ite_not, reduceIte, ite01_0, ite01_1, Decidable.not_not, ne_eq, not_true_eq_false, not_false_eq_true, Function.comp_apply, decide_not, Bool.not_not, Bool.not_eq_false']
    · have h1 := lft_pop hx (pop x) (Nat.le_refl _)
      have h2 := lft_le x (pop x)
      have h3 : lft x (pop x) = 0 := pop_0 17 _ (by omega) (by show pop _ = 0; omega)
      simp only [L_M_ones_1c, L_M_ones_1b, L_M_ones_1s, h3, d_rLoc1, d_rLoc2, d_rFld1, d_rFld2, d_eInt, d_eLdc, d_eLdw, d_eLoc, d_eFld, d_lFld, d_eAI, d_eAZ, d_eAB, d_lAL, d_eAD, d_eLen, d_eAdd, d_eSub, d_eMul, d_eAnd, d_eOr, d_eXor, d_eShl, d_eShr, d_eUsh, d_lAdd, d_lSub, d_lMul, d_lAnd, d_lOr, d_lXor, d_lShl, d_lShr, d_eDiv, d_eRem, d_eCmp, d_eI2B, d_eI2S, d_eL2I, d_lI2L, d_lInt, d_lLdc, d_lLoc, d_eIte, d_lIte, d_eMax, d_eMin, d_eAbs, d_eAbove, d_eBodies, d_cQ, d_cZ, d_cNot, d_cAnd, d_cOr, d_gNil, d_gI, d_gL, d_gR, d_gD, d_xV, d_xS, d_xN, d_xT, d_eCall, d_lCall, d_eCallC, d_sNop, d_sSet, d_sSetL, d_sSetR, d_sSetQ, d_sInc, d_sPutI, d_sPutZ, d_sPutL, d_sPutA, d_sPutAZ, d_sPutAB, d_sPutAL, d_sPutD, d_sOpF, d_sOpA, d_sCall, d_sCopy, d_sSeq, d_sIf, d_sBrk, d_sCnt, d_sRetV, d_sRet, d_sRetL, d_sLp, d_tDef, d_tCase, d_sSw, d_sSwB, bIt_d, itb_0, itb_1, itb_2, itb_r, its_0, sqk_0, sqk_1, sqk_2, sqk_r, swk_0, swk_1, swk_r, bfin_r, bfin_ite, Option.bind_some, Option.map_some, Option.bind_none, Option.map_none, bind_ite, map_ite, cop0, cop1, cop2, cop3, cop4, cop5, opv0, opv1, opv2, opv3, brc_i, brc_z, two_ne_one, false_or, getI, getR, getL, List.getElem?_cons_zero, List.getElem?_cons_succ, List.set_cons_zero, List.set_cons_succ, bnl, if_true, if_false, true_or, or_true, decide_eq_true_eq, Bool.not_eq_true', decide_eq_false_iff_not, Bool.not_true, Bool.not_false, Bool.true_eq_false, Bool.false_eq_true, ite_not, reduceIte, ite01_0, ite01_1, Decidable.not_not, ne_eq, not_true_eq_false, not_false_eq_true, Function.comp_apply, decide_not, Bool.not_not, Bool.not_eq_false']
      simp
  rw [st_M_ones]
  simp only [B_M_ones, kr_M_ones, d_rLoc1, d_rLoc2, d_rFld1, d_rFld2, d_eInt, d_eLdc, d_eLdw, d_eLoc, d_eFld, d_lFld, d_eAI, d_eAZ, d_eAB, d_lAL, d_eAD, d_eLen, d_eAdd, d_eSub, d_eMul, d_eAnd, d_eOr, d_eXor, d_eShl, d_eShr, d_eUsh, d_lAdd, d_lSub, d_lMul, d_lAnd, d_lOr, d_lXor, d_lShl, d_lShr, d_eDiv, d_eRem, d_eCmp, d_eI2B, d_eI2S, d_eL2I, d_lI2L, d_lInt, d_lLdc, d_lLoc, d_eIte, d_lIte, d_eMax, d_eMin, d_eAbs, d_eAbove, d_eBodies, d_cQ, d_cZ, d_cNot, d_cAnd, d_cOr, d_gNil, d_gI, d_gL, d_gR, d_gD, d_xV, d_xS, d_xN, d_xT, d_eCall, d_lCall, d_eCallC, d_sNop, d_sSet, d_sSetL, d_sSetR, d_sSetQ, d_sInc, d_sPutI, d_sPutZ, d_sPutL, d_sPutA, d_sPutAZ, d_sPutAB, d_sPutAL, d_sPutD, d_sOpF, d_sOpA, d_sCall, d_sCopy, d_sSeq, d_sIf, d_sBrk, d_sCnt, d_sRetV, d_sRet, d_sRetL, d_sLp, d_tDef, d_tCase, d_sSw, d_sSwB, bIt_d, itb_0, itb_1, itb_2, itb_r, its_0, sqk_0, sqk_1, sqk_2, sqk_r, swk_0, swk_1, swk_r, bfin_r, bfin_ite, Option.bind_some, Option.map_some, Option.bind_none, Option.map_none, bind_ite, map_ite, cop0, cop1, cop2, cop3, cop4, cop5, opv0, opv1, opv2, opv3, brc_i, brc_z, two_ne_one, false_or, getI, getR, getL, List.getElem?_cons_zero, List.getElem?_cons_succ, List.set_cons_zero, List.set_cons_succ, bnl, if_true, if_false, true_or, or_true, decide_eq_true_eq, Bool.not_eq_true', decide_eq_false_iff_not, Bool.not_true, Bool.not_false, Bool.true_eq_false, Bool.false_eq_true, ite_not, reduceIte, ite01_0, ite01_1, Decidable.not_not, ne_eq, not_true_eq_false, not_false_eq_true, Function.comp_apply, decide_not, Bool.not_not, Bool.not_eq_false']
  rw [hl]
  simp only [kr_M_ones, d_rLoc1, d_rLoc2, d_rFld1, d_rFld2, d_eInt, d_eLdc, d_eLdw, d_eLoc, d_eFld, d_lFld, d_eAI, d_eAZ, d_eAB, d_lAL, d_eAD, d_eLen, d_eAdd, d_eSub, d_eMul, d_eAnd, d_eOr, d_eXor, d_eShl, d_eShr, d_eUsh, d_lAdd, d_lSub, d_lMul, d_lAnd, d_lOr, d_lXor, d_lShl, d_lShr, d_eDiv, d_eRem, d_eCmp, d_eI2B, d_eI2S, d_eL2I, d_lI2L, d_lInt, d_lLdc, d_lLoc, d_eIte, d_lIte, d_eMax, d_eMin, d_eAbs, d_eAbove, d_eBodies, d_cQ, d_cZ, d_cNot, d_cAnd, d_cOr, d_gNil, d_gI, d_gL, d_gR, d_gD, d_xV, d_xS, d_xN, d_xT, d_eCall, d_lCall, d_eCallC, d_sNop, d_sSet, d_sSetL, d_sSetR, d_sSetQ, d_sInc, d_sPutI, d_sPutZ, d_sPutL, d_sPutA, d_sPutAZ, d_sPutAB, d_sPutAL, d_sPutD, d_sOpF, d_sOpA, d_sCall, d_sCopy, d_sSeq, d_sIf, d_sBrk, d_sCnt, d_sRetV, d_sRet, d_sRetL, d_sLp, d_tDef, d_tCase, d_sSw, d_sSwB, bIt_d, itb_0, itb_1, itb_2, itb_r, its_0, sqk_0, sqk_1, sqk_2, sqk_r, swk_0, swk_1, swk_r, bfin_r, bfin_ite, Option.bind_some, Option.map_some, Option.bind_none, Option.map_none, bind_ite, map_ite, cop0, cop1, cop2, cop3, cop4, cop5, opv0, opv1, opv2, opv3, brc_i, brc_z, two_ne_one, false_or, getI, getR, getL, List.getElem?_cons_zero, List.getElem?_cons_succ, List.set_cons_zero, List.set_cons_succ, bnl, if_true, if_false, true_or, or_true, decide_eq_true_eq, Bool.not_eq_true', decide_eq_false_iff_not, Bool.not_true, Bool.not_false, Bool.true_eq_false, Bool.false_eq_true, ite_not, reduceIte, ite01_0, ite01_1, Decidable.not_not, ne_eq, not_true_eq_false, not_false_eq_true, Function.comp_apply, decide_not, Bool.not_not, Bool.not_eq_false']
