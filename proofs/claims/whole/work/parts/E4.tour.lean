/-! ===== the class's tour: takeMembers, the table, writeRows, plan ===== -/
theorem q_ift {κ : bK} {cal : bCl} {ls : bLs} {m m2 : bM} {c : EC κ} {a b : ES κ} (e : c.1.2 cal ls m = some (true, m2)) : (sIf c a b).1.2 cal ls m = a.1.2 cal ls m2 := by
  rw [d_sIf, e, Option.bind_some, if_pos rfl]
theorem cnt_sel {p : Nat → Bool} : ∀ {n i : Nat}, i < cnt p n → ∃ c, c < n ∧ p c = true ∧ cnt p c = i
  | 0, _, h => absurd h (Nat.not_lt_zero _)
  | n + 1, i, h => by
    cases z : p n with
    | false =>
      rw [cnF z] at h
      obtain ⟨c, a, b, e⟩ := cnt_sel h
      exact ⟨c, by omega, b, e⟩
    | true =>
      rw [cnT z] at h
      by_cases y : i = cnt p n
      · exact ⟨n, Nat.lt_succ_self _, z, y.symm⟩
      · obtain ⟨c, a, b, e⟩ := cnt_sel (p := p) (n := n) (i := i) (by omega)
        exact ⟨c, by omega, b, e⟩
def wcH (m : bM) (c : Nat) : Int := if pEach m (cHs m c) = true then 3 else 1
theorem tm_c (n : Nat) (m : bM) (c N M : Int) (x : Option bV) (hN : m 79 6 = N) (hM : m 117 10 = M) (h1 : c < N) (h2 : M < 7) : L_Tour_takeMembers_1c.1.2 (sem n) [some (aR 117), some (aI c), x] m = some (true, m) := by
  simp only [L_Tour_takeMembers_1c, hN, hM, h1, h2, d_rLoc1, d_rLoc2, d_rFld1, d_rFld2, d_eInt, d_eLdc, d_eLdw, d_eLoc, d_eFld, d_lFld, d_eAI, d_eAZ, d_eAB, d_lAL, d_eAD, d_eLen, d_eAdd, d_eSub, d_eMul, d_eAnd, d_eOr, d_eXor, d_eShl, d_eShr, d_eUsh, d_lAdd, d_lSub, d_lMul, d_lAnd, d_lOr, d_lXor, d_lShl, d_lShr, d_eDiv, d_eRem, d_eCmp, d_eI2B, d_eI2S, d_eL2I, d_lI2L, d_lInt, d_lLdc, d_lLoc, d_eIte, d_lIte, d_eMax, d_eMin, d_eAbs, d_eAbove, d_eBodies, d_cQ, d_cZ, d_cNot, d_cAnd, d_cOr, d_gNil, d_gI, d_gL, d_gR, d_gD, d_xV, d_xS, d_xN, d_xT, d_eCall, d_lCall, d_eCallC, d_sNop, d_sSet, d_sSetL, d_sSetR, d_sSetQ, d_sInc, d_sPutI, d_sPutZ, d_sPutL, d_sPutA, d_sPutAZ, d_sPutAB, d_sPutAL, d_sPutD, d_sOpF, d_sOpA, d_sCall, d_sCopy, d_sSeq, d_sIf, d_sBrk, d_sCnt, d_sRetV, d_sRet, d_sRetL, d_sLp, d_tDef, d_tCase, d_sSw, d_sSwB, bIt_d, itb_0, itb_1, itb_2, itb_r, its_0, sqk_0, sqk_1, sqk_2, sqk_r, swk_0, swk_1, swk_r, bfin_r, bfin_ite, Option.bind_some, Option.map_some, Option.bind_none, Option.map_none, bind_ite, map_ite, cop0, cop1, cop2, cop3, cop4, cop5, opv0, opv1, opv2, opv3, brc_i, brc_z, two_ne_one, false_or, getI, getR, getL, List.getElem?_cons_zero, List.getElem?_cons_succ, List.set_cons_zero, List.set_cons_succ, bnl, if_true, if_false, true_or, or_true, decide_eq_true_eq, Bool.not_eq_true', decide_eq_false_iff_not, Bool.not_true, Bool.not_false, Bool.true_eq_false, Bool.false_eq_true, ite_not, reduceIte, ite01_0, ite01_1, Decidable.not_not, ne_eq, not_true_eq_false, not_false_eq_true, Function.comp_apply, decide_not, Bool.not_not, Bool.not_eq_false', dc_t, dc_f, and_self, true_and, and_true, and_false, false_and, tnc, Int.reduceLT, Int.reduceLE, Int.reduceEq, Int.reduceAdd, Int.reduceSub, Int.reduceMul, Int.reduceToNat, Int.reduceNeg, Int.reduceNe]
theorem tm_x (n : Nat) (m : bM) (c N M : Int) (x : Option bV) (hN : m 79 6 = N) (hM : m 117 10 = M) (h : ¬ c < N ∨ ¬ M < 7) : L_Tour_takeMembers_1c.1.2 (sem n) [some (aR 117), some (aI c), x] m = some (false, m) := by
  by_cases z : c < N
  · have h : ¬ M < 7 := by rcases h with h | h; exact absurd z h; exact h
    simp only [L_Tour_takeMembers_1c, hN, hM, z, h, d_rLoc1, d_rLoc2, d_rFld1, d_rFld2, d_eInt, d_eLdc, d_eLdw, d_eLoc, d_eFld, d_lFld, d_eAI, d_eAZ, d_eAB, d_lAL, d_eAD, d_eLen, d_eAdd, d_eSub, d_eMul, d_eAnd, d_eOr, d_eXor, d_eShl, d_eShr, d_eUsh, d_lAdd, d_lSub, d_lMul, d_lAnd, d_lOr, d_lXor, d_lShl, d_lShr, d_eDiv, d_eRem, d_eCmp, d_eI2B, d_eI2S, d_eL2I, d_lI2L, d_lInt, d_lLdc, d_lLoc, d_eIte, d_lIte, d_eMax, d_eMin, d_eAbs, d_eAbove, d_eBodies, d_cQ, d_cZ, d_cNot, d_cAnd, d_cOr, d_gNil, d_gI, d_gL, d_gR, d_gD, d_xV, d_xS, d_xN, d_xT, d_eCall, d_lCall, d_eCallC, d_sNop, d_sSet, d_sSetL, d_sSetR, d_sSetQ, d_sInc, d_sPutI, d_sPutZ, d_sPutL, d_sPutA, d_sPutAZ, d_sPutAB, d_sPutAL, d_sPutD, d_sOpF, d_sOpA, d_sCall, d_sCopy, d_sSeq, d_sIf, d_sBrk, d_sCnt, d_sRetV, d_sRet, d_sRetL, d_sLp, d_tDef, d_tCase, d_sSw, d_sSwB, bIt_d, itb_0, itb_1, itb_2, itb_r, its_0, sqk_0, sqk_1, sqk_2, sqk_r, swk_0, swk_1, swk_r, bfin_r, bfin_ite, Option.bind_some, Option.map_some, Option.bind_none, Option.map_none, bind_ite, map_ite, cop0, cop1, cop2, cop3, cop4, cop5, opv0, opv1, opv2, opv3, brc_i, brc_z, two_ne_one, false_or, getI, getR, getL, List.getElem?_cons_zero, List.getElem?_cons_succ, List.set_cons_zero, List.set_cons_succ, bnl, if_true, if_false, true_or, or_true, decide_eq_true_eq, Bool.not_eq_true', decide_eq_false_iff_not, Bool.not_true, Bool.not_false, Bool.true_eq_false, Bool.false_eq_true, ite_not, reduceIte, ite01_0, ite01_1, Decidable.not_not, ne_eq, not_true_eq_false, not_false_eq_true, Function.comp_apply, decide_not, Bool.not_not, Bool.not_eq_false', dc_t, dc_f, and_self, true_and, and_true, and_false, false_and, tnc, Int.reduceLT, Int.reduceLE, Int.reduceEq, Int.reduceAdd, Int.reduceSub, Int.reduceMul, Int.reduceToNat, Int.reduceNeg, Int.reduceNe]
  · simp only [L_Tour_takeMembers_1c, hN, hM, z, d_rLoc1, d_rLoc2, d_rFld1, d_rFld2, d_eInt, d_eLdc, d_eLdw, d_eLoc, d_eFld, d_lFld, d_eAI, d_eAZ, d_eAB, d_lAL, d_eAD, d_eLen, d_eAdd, d_eSub, d_eMul, d_eAnd, d_eOr, d_eXor, d_eShl, d_eShr, d_eUsh, d_lAdd, d_lSub, d_lMul, d_lAnd, d_lOr, d_lXor, d_lShl, d_lShr, d_eDiv, d_eRem, d_eCmp, d_eI2B, d_eI2S, d_eL2I, d_lI2L, d_lInt, d_lLdc, d_lLoc, d_eIte, d_lIte, d_eMax, d_eMin, d_eAbs, d_eAbove, d_eBodies, d_cQ, d_cZ, d_cNot, d_cAnd, d_cOr, d_gNil, d_gI, d_gL, d_gR, d_gD, d_xV, d_xS, d_xN, d_xT, d_eCall, d_lCall, d_eCallC, d_sNop, d_sSet, d_sSetL, d_sSetR, d_sSetQ, d_sInc, d_sPutI, d_sPutZ, d_sPutL, d_sPutA, d_sPutAZ, d_sPutAB, d_sPutAL, d_sPutD, d_sOpF, d_sOpA, d_sCall, d_sCopy, d_sSeq, d_sIf, d_sBrk, d_sCnt, d_sRetV, d_sRet, d_sRetL, d_sLp, d_tDef, d_tCase, d_sSw, d_sSwB, bIt_d, itb_0, itb_1, itb_2, itb_r, its_0, sqk_0, sqk_1, sqk_2, sqk_r, swk_0, swk_1, swk_r, bfin_r, bfin_ite, Option.bind_some, Option.map_some, Option.bind_none, Option.map_none, bind_ite, map_ite, cop0, cop1, cop2, cop3, cop4, cop5, opv0, opv1, opv2, opv3, brc_i, brc_z, two_ne_one, false_or, getI, getR, getL, List.getElem?_cons_zero, List.getElem?_cons_succ, List.set_cons_zero, List.set_cons_succ, bnl, if_true, if_false, true_or, or_true, decide_eq_true_eq, Bool.not_eq_true', decide_eq_false_iff_not, Bool.not_true, Bool.not_false, Bool.true_eq_false, Bool.false_eq_true, ite_not, reduceIte, ite01_0, ite01_1, Decidable.not_not, ne_eq, not_true_eq_false, not_false_eq_true, Function.comp_apply, decide_not, Bool.not_not, Bool.not_eq_false', dc_t, dc_f, and_self, true_and, and_true, and_false, false_and, tnc, Int.reduceLT, Int.reduceLE, Int.reduceEq, Int.reduceAdd, Int.reduceSub, Int.reduceMul, Int.reduceToNat, Int.reduceNeg, Int.reduceNe]
theorem tm_s (n : Nat) (m : bM) (c u : Int) (x : Option bV) (h : i32 (c + 1) = u) : L_Tour_takeMembers_1s.1.2 (sem n) [some (aR 117), some (aI c), x] m = some (.inl (0, [some (aR 117), some (aI u), x], m)) := by
  simp only [L_Tour_takeMembers_1s, h, d_rLoc1, d_rLoc2, d_rFld1, d_rFld2, d_eInt, d_eLdc, d_eLdw, d_eLoc, d_eFld, d_lFld, d_eAI, d_eAZ, d_eAB, d_lAL, d_eAD, d_eLen, d_eAdd, d_eSub, d_eMul, d_eAnd, d_eOr, d_eXor, d_eShl, d_eShr, d_eUsh, d_lAdd, d_lSub, d_lMul, d_lAnd, d_lOr, d_lXor, d_lShl, d_lShr, d_eDiv, d_eRem, d_eCmp, d_eI2B, d_eI2S, d_eL2I, d_lI2L, d_lInt, d_lLdc, d_lLoc, d_eIte, d_lIte, d_eMax, d_eMin, d_eAbs, d_eAbove, d_eBodies, d_cQ, d_cZ, d_cNot, d_cAnd, d_cOr, d_gNil, d_gI, d_gL, d_gR, d_gD, d_xV, d_xS, d_xN, d_xT, d_eCall, d_lCall, d_eCallC, d_sNop, d_sSet, d_sSetL, d_sSetR, d_sSetQ, d_sInc, d_sPutI, d_sPutZ, d_sPutL, d_sPutA, d_sPutAZ, d_sPutAB, d_sPutAL, d_sPutD, d_sOpF, d_sOpA, d_sCall, d_sCopy, d_sSeq, d_sIf, d_sBrk, d_sCnt, d_sRetV, d_sRet, d_sRetL, d_sLp, d_tDef, d_tCase, d_sSw, d_sSwB, bIt_d, itb_0, itb_1, itb_2, itb_r, its_0, sqk_0, sqk_1, sqk_2, sqk_r, swk_0, swk_1, swk_r, bfin_r, bfin_ite, Option.bind_some, Option.map_some, Option.bind_none, Option.map_none, bind_ite, map_ite, cop0, cop1, cop2, cop3, cop4, cop5, opv0, opv1, opv2, opv3, brc_i, brc_z, two_ne_one, false_or, getI, getR, getL, List.getElem?_cons_zero, List.getElem?_cons_succ, List.set_cons_zero, List.set_cons_succ, bnl, if_true, if_false, true_or, or_true, decide_eq_true_eq, Bool.not_eq_true', decide_eq_false_iff_not, Bool.not_true, Bool.not_false, Bool.true_eq_false, Bool.false_eq_true, ite_not, reduceIte, ite01_0, ite01_1, Decidable.not_not, ne_eq, not_true_eq_false, not_false_eq_true, Function.comp_apply, decide_not, Bool.not_not, Bool.not_eq_false', dc_t, dc_f, and_self, true_and, and_true, and_false, false_and, tnc]
theorem tm_b0 (n : Nat) (m : bM) (c A : Int) (x : Option bV) (hA : m 117 4 = A) (j : ¬ jand (jshr A c) 1 = 1) : L_Tour_takeMembers_1b.1.2 (sem n) [some (aR 117), some (aI c), x] m = some (.inl (0, [some (aR 117), some (aI c), x], m)) := by
  simp only [L_Tour_takeMembers_1b, hA, j, d_rLoc1, d_rLoc2, d_rFld1, d_rFld2, d_eInt, d_eLdc, d_eLdw, d_eLoc, d_eFld, d_lFld, d_eAI, d_eAZ, d_eAB, d_lAL, d_eAD, d_eLen, d_eAdd, d_eSub, d_eMul, d_eAnd, d_eOr, d_eXor, d_eShl, d_eShr, d_eUsh, d_lAdd, d_lSub, d_lMul, d_lAnd, d_lOr, d_lXor, d_lShl, d_lShr, d_eDiv, d_eRem, d_eCmp, d_eI2B, d_eI2S, d_eL2I, d_lI2L, d_lInt, d_lLdc, d_lLoc, d_eIte, d_lIte, d_eMax, d_eMin, d_eAbs, d_eAbove, d_eBodies, d_cQ, d_cZ, d_cNot, d_cAnd, d_cOr, d_gNil, d_gI, d_gL, d_gR, d_gD, d_xV, d_xS, d_xN, d_xT, d_eCall, d_lCall, d_eCallC, d_sNop, d_sSet, d_sSetL, d_sSetR, d_sSetQ, d_sInc, d_sPutI, d_sPutZ, d_sPutL, d_sPutA, d_sPutAZ, d_sPutAB, d_sPutAL, d_sPutD, d_sOpF, d_sOpA, d_sCall, d_sCopy, d_sSeq, d_sIf, d_sBrk, d_sCnt, d_sRetV, d_sRet, d_sRetL, d_sLp, d_tDef, d_tCase, d_sSw, d_sSwB, bIt_d, itb_0, itb_1, itb_2, itb_r, its_0, sqk_0, sqk_1, sqk_2, sqk_r, swk_0, swk_1, swk_r, bfin_r, bfin_ite, Option.bind_some, Option.map_some, Option.bind_none, Option.map_none, bind_ite, map_ite, cop0, cop1, cop2, cop3, cop4, cop5, opv0, opv1, opv2, opv3, brc_i, brc_z, two_ne_one, false_or, getI, getR, getL, List.getElem?_cons_zero, List.getElem?_cons_succ, List.set_cons_zero, List.set_cons_succ, bnl, if_true, if_false, true_or, or_true, decide_eq_true_eq, Bool.not_eq_true', decide_eq_false_iff_not, Bool.not_true, Bool.not_false, Bool.true_eq_false, Bool.false_eq_true, ite_not, reduceIte, ite01_0, ite01_1, Decidable.not_not, ne_eq, not_true_eq_false, not_false_eq_true, Function.comp_apply, decide_not, Bool.not_not, Bool.not_eq_false', dc_t, dc_f, and_self, true_and, and_true, and_false, false_and, tnc]
theorem tm_b1 (n : Nat) (m m1 m2 m3 m4 : bM) (c A t h r v w M M2 : Int) (C T H Mn : Nat) (x : Option bV) (hA : m 117 4 = A) (j : jand (jshr A c) 1 = 1) (fc : 0 ≤ c ∧ c < ((16 : Nat) : Int)) (tc : c.toNat = C) (ht : m 81 C = t) (ft : 0 ≤ t ∧ t < ((12 : Nat) : Int)) (tt : t.toNat = T) (hh : m 44 T = h) (hM : m 117 10 = M) (fM : 0 ≤ M ∧ M < ((7 : Nat) : Int)) (tM : M.toNat = Mn) (w1 : bwr m 120 Mn c = m1) (hM1 : m1 117 10 = M) (fh : 0 ≤ h ∧ h < ((10 : Nat) : Int)) (th : h.toNat = H) (hr : m1 6 H = r) (w2 : bwr m1 121 Mn r = m2) (hM2 : m2 117 10 = M) (e : sem n 145 [aR 101, aI h] m2 = some (m2, v)) (hv : (v = 1 ∧ w = 3) ∨ (v = 0 ∧ w = 1)) (w3 : bwr m2 122 Mn w = m3) (hM3 : m3 117 10 = M) (h5 : i32 (M + 1) = M2) (w4 : bwr m3 117 10 M2 = m4) : L_Tour_takeMembers_1b.1.2 (sem n) [some (aR 117), some (aI c), x] m = some (.inl (0, [some (aR 117), some (aI c), some (aI h)], m4)) := by
  unfold L_Tour_takeMembers_1b
  refine (q_ift (m2 := m) ?_).trans ?_
  · have j := eq_true j
    simp only [hA, j, d_rLoc1, d_rLoc2, d_rFld1, d_rFld2, d_eInt, d_eLdc, d_eLdw, d_eLoc, d_eFld, d_lFld, d_eAI, d_eAZ, d_eAB, d_lAL, d_eAD, d_eLen, d_eAdd, d_eSub, d_eMul, d_eAnd, d_eOr, d_eXor, d_eShl, d_eShr, d_eUsh, d_lAdd, d_lSub, d_lMul, d_lAnd, d_lOr, d_lXor, d_lShl, d_lShr, d_eDiv, d_eRem, d_eCmp, d_eI2B, d_eI2S, d_eL2I, d_lI2L, d_lInt, d_lLdc, d_lLoc, d_eIte, d_lIte, d_eMax, d_eMin, d_eAbs, d_eAbove, d_eBodies, d_cQ, d_cZ, d_cNot, d_cAnd, d_cOr, d_gNil, d_gI, d_gL, d_gR, d_gD, d_xV, d_xS, d_xN, d_xT, d_eCall, d_lCall, d_eCallC, d_sNop, d_sSet, d_sSetL, d_sSetR, d_sSetQ, d_sInc, d_sPutI, d_sPutZ, d_sPutL, d_sPutA, d_sPutAZ, d_sPutAB, d_sPutAL, d_sPutD, d_sOpF, d_sOpA, d_sCall, d_sCopy, d_sSeq, d_sIf, d_sBrk, d_sCnt, d_sRetV, d_sRet, d_sRetL, d_sLp, d_tDef, d_tCase, d_sSw, d_sSwB, bIt_d, itb_0, itb_1, itb_2, itb_r, its_0, sqk_0, sqk_1, sqk_2, sqk_r, swk_0, swk_1, swk_r, bfin_r, bfin_ite, Option.bind_some, Option.map_some, Option.bind_none, Option.map_none, bind_ite, map_ite, cop0, cop1, cop2, cop3, cop4, cop5, opv0, opv1, opv2, opv3, brc_i, brc_z, two_ne_one, false_or, getI, getR, getL, List.getElem?_cons_zero, List.getElem?_cons_succ, List.set_cons_zero, List.set_cons_succ, bnl, if_true, if_false, true_or, or_true, decide_eq_true_eq, Bool.not_eq_true', decide_eq_false_iff_not, Bool.not_true, Bool.not_false, Bool.true_eq_false, Bool.false_eq_true, ite_not, reduceIte, ite01_0, ite01_1, Decidable.not_not, ne_eq, not_true_eq_false, not_false_eq_true, Function.comp_apply, decide_not, Bool.not_not, Bool.not_eq_false', dc_t, dc_f, and_self, true_and, and_true, and_false, false_and, tnc, Int.reduceLT, Int.reduceLE, Int.reduceEq, Int.reduceAdd, Int.reduceSub, Int.reduceMul, Int.reduceToNat, Int.reduceNeg, Int.reduceNe]
  refine (q_puti (ls2 := [some (aR 117), some (aI c), some (aI h)]) (m2 := m) ?_).trans ?_
  · simp only [fc, tc, ht, ft, tt, hh, d_rLoc1, d_rLoc2, d_rFld1, d_rFld2, d_eInt, d_eLdc, d_eLdw, d_eLoc, d_eFld, d_lFld, d_eAI, d_eAZ, d_eAB, d_lAL, d_eAD, d_eLen, d_eAdd, d_eSub, d_eMul, d_eAnd, d_eOr, d_eXor, d_eShl, d_eShr, d_eUsh, d_lAdd, d_lSub, d_lMul, d_lAnd, d_lOr, d_lXor, d_lShl, d_lShr, d_eDiv, d_eRem, d_eCmp, d_eI2B, d_eI2S, d_eL2I, d_lI2L, d_lInt, d_lLdc, d_lLoc, d_eIte, d_lIte, d_eMax, d_eMin, d_eAbs, d_eAbove, d_eBodies, d_cQ, d_cZ, d_cNot, d_cAnd, d_cOr, d_gNil, d_gI, d_gL, d_gR, d_gD, d_xV, d_xS, d_xN, d_xT, d_eCall, d_lCall, d_eCallC, d_sNop, d_sSet, d_sSetL, d_sSetR, d_sSetQ, d_sInc, d_sPutI, d_sPutZ, d_sPutL, d_sPutA, d_sPutAZ, d_sPutAB, d_sPutAL, d_sPutD, d_sOpF, d_sOpA, d_sCall, d_sCopy, d_sSeq, d_sIf, d_sBrk, d_sCnt, d_sRetV, d_sRet, d_sRetL, d_sLp, d_tDef, d_tCase, d_sSw, d_sSwB, bIt_d, itb_0, itb_1, itb_2, itb_r, its_0, sqk_0, sqk_1, sqk_2, sqk_r, swk_0, swk_1, swk_r, bfin_r, bfin_ite, Option.bind_some, Option.map_some, Option.bind_none, Option.map_none, bind_ite, map_ite, cop0, cop1, cop2, cop3, cop4, cop5, opv0, opv1, opv2, opv3, brc_i, brc_z, two_ne_one, false_or, getI, getR, getL, List.getElem?_cons_zero, List.getElem?_cons_succ, List.set_cons_zero, List.set_cons_succ, bnl, if_true, if_false, true_or, or_true, decide_eq_true_eq, Bool.not_eq_true', decide_eq_false_iff_not, Bool.not_true, Bool.not_false, Bool.true_eq_false, Bool.false_eq_true, ite_not, reduceIte, ite01_0, ite01_1, Decidable.not_not, ne_eq, not_true_eq_false, not_false_eq_true, Function.comp_apply, decide_not, Bool.not_not, Bool.not_eq_false', dc_t, dc_f, and_self, true_and, and_true, and_false, false_and, tnc, Int.reduceLT, Int.reduceLE, Int.reduceEq, Int.reduceAdd, Int.reduceSub, Int.reduceMul, Int.reduceToNat, Int.reduceNeg, Int.reduceNe]
  refine (q_puti (ls2 := [some (aR 117), some (aI c), some (aI h)]) (m2 := m1) ?_).trans ?_
  · simp only [hM, fM, tM, w1, d_rLoc1, d_rLoc2, d_rFld1, d_rFld2, d_eInt, d_eLdc, d_eLdw, d_eLoc, d_eFld, d_lFld, d_eAI, d_eAZ, d_eAB, d_lAL, d_eAD, d_eLen, d_eAdd, d_eSub, d_eMul, d_eAnd, d_eOr, d_eXor, d_eShl, d_eShr, d_eUsh, d_lAdd, d_lSub, d_lMul, d_lAnd, d_lOr, d_lXor, d_lShl, d_lShr, d_eDiv, d_eRem, d_eCmp, d_eI2B, d_eI2S, d_eL2I, d_lI2L, d_lInt, d_lLdc, d_lLoc, d_eIte, d_lIte, d_eMax, d_eMin, d_eAbs, d_eAbove, d_eBodies, d_cQ, d_cZ, d_cNot, d_cAnd, d_cOr, d_gNil, d_gI, d_gL, d_gR, d_gD, d_xV, d_xS, d_xN, d_xT, d_eCall, d_lCall, d_eCallC, d_sNop, d_sSet, d_sSetL, d_sSetR, d_sSetQ, d_sInc, d_sPutI, d_sPutZ, d_sPutL, d_sPutA, d_sPutAZ, d_sPutAB, d_sPutAL, d_sPutD, d_sOpF, d_sOpA, d_sCall, d_sCopy, d_sSeq, d_sIf, d_sBrk, d_sCnt, d_sRetV, d_sRet, d_sRetL, d_sLp, d_tDef, d_tCase, d_sSw, d_sSwB, bIt_d, itb_0, itb_1, itb_2, itb_r, its_0, sqk_0, sqk_1, sqk_2, sqk_r, swk_0, swk_1, swk_r, bfin_r, bfin_ite, Option.bind_some, Option.map_some, Option.bind_none, Option.map_none, bind_ite, map_ite, cop0, cop1, cop2, cop3, cop4, cop5, opv0, opv1, opv2, opv3, brc_i, brc_z, two_ne_one, false_or, getI, getR, getL, List.getElem?_cons_zero, List.getElem?_cons_succ, List.set_cons_zero, List.set_cons_succ, bnl, if_true, if_false, true_or, or_true, decide_eq_true_eq, Bool.not_eq_true', decide_eq_false_iff_not, Bool.not_true, Bool.not_false, Bool.true_eq_false, Bool.false_eq_true, ite_not, reduceIte, ite01_0, ite01_1, Decidable.not_not, ne_eq, not_true_eq_false, not_false_eq_true, Function.comp_apply, decide_not, Bool.not_not, Bool.not_eq_false', dc_t, dc_f, and_self, true_and, and_true, and_false, false_and, tnc, Int.reduceLT, Int.reduceLE, Int.reduceEq, Int.reduceAdd, Int.reduceSub, Int.reduceMul, Int.reduceToNat, Int.reduceNeg, Int.reduceNe]
  refine (q_puti (ls2 := [some (aR 117), some (aI c), some (aI h)]) (m2 := m2) ?_).trans ?_
  · simp only [hM1, fM, tM, fh, th, hr, w2, d_rLoc1, d_rLoc2, d_rFld1, d_rFld2, d_eInt, d_eLdc, d_eLdw, d_eLoc, d_eFld, d_lFld, d_eAI, d_eAZ, d_eAB, d_lAL, d_eAD, d_eLen, d_eAdd, d_eSub, d_eMul, d_eAnd, d_eOr, d_eXor, d_eShl, d_eShr, d_eUsh, d_lAdd, d_lSub, d_lMul, d_lAnd, d_lOr, d_lXor, d_lShl, d_lShr, d_eDiv, d_eRem, d_eCmp, d_eI2B, d_eI2S, d_eL2I, d_lI2L, d_lInt, d_lLdc, d_lLoc, d_eIte, d_lIte, d_eMax, d_eMin, d_eAbs, d_eAbove, d_eBodies, d_cQ, d_cZ, d_cNot, d_cAnd, d_cOr, d_gNil, d_gI, d_gL, d_gR, d_gD, d_xV, d_xS, d_xN, d_xT, d_eCall, d_lCall, d_eCallC, d_sNop, d_sSet, d_sSetL, d_sSetR, d_sSetQ, d_sInc, d_sPutI, d_sPutZ, d_sPutL, d_sPutA, d_sPutAZ, d_sPutAB, d_sPutAL, d_sPutD, d_sOpF, d_sOpA, d_sCall, d_sCopy, d_sSeq, d_sIf, d_sBrk, d_sCnt, d_sRetV, d_sRet, d_sRetL, d_sLp, d_tDef, d_tCase, d_sSw, d_sSwB, bIt_d, itb_0, itb_1, itb_2, itb_r, its_0, sqk_0, sqk_1, sqk_2, sqk_r, swk_0, swk_1, swk_r, bfin_r, bfin_ite, Option.bind_some, Option.map_some, Option.bind_none, Option.map_none, bind_ite, map_ite, cop0, cop1, cop2, cop3, cop4, cop5, opv0, opv1, opv2, opv3, brc_i, brc_z, two_ne_one, false_or, getI, getR, getL, List.getElem?_cons_zero, List.getElem?_cons_succ, List.set_cons_zero, List.set_cons_succ, bnl, if_true, if_false, true_or, or_true, decide_eq_true_eq, Bool.not_eq_true', decide_eq_false_iff_not, Bool.not_true, Bool.not_false, Bool.true_eq_false, Bool.false_eq_true, ite_not, reduceIte, ite01_0, ite01_1, Decidable.not_not, ne_eq, not_true_eq_false, not_false_eq_true, Function.comp_apply, decide_not, Bool.not_not, Bool.not_eq_false', dc_t, dc_f, and_self, true_and, and_true, and_false, false_and, tnc, Int.reduceLT, Int.reduceLE, Int.reduceEq, Int.reduceAdd, Int.reduceSub, Int.reduceMul, Int.reduceToNat, Int.reduceNeg, Int.reduceNe]
  refine (q_puti (ls2 := [some (aR 117), some (aI c), some (aI h)]) (m2 := m3) ?_).trans ?_
  · rcases hv with ⟨a, b⟩ | ⟨a, b⟩
    · subst a b
      simp only [hM2, fM, tM, e, w3, d_rLoc1, d_rLoc2, d_rFld1, d_rFld2, d_eInt, d_eLdc, d_eLdw, d_eLoc, d_eFld, d_lFld, d_eAI, d_eAZ, d_eAB, d_lAL, d_eAD, d_eLen, d_eAdd, d_eSub, d_eMul, d_eAnd, d_eOr, d_eXor, d_eShl, d_eShr, d_eUsh, d_lAdd, d_lSub, d_lMul, d_lAnd, d_lOr, d_lXor, d_lShl, d_lShr, d_eDiv, d_eRem, d_eCmp, d_eI2B, d_eI2S, d_eL2I, d_lI2L, d_lInt, d_lLdc, d_lLoc, d_eIte, d_lIte, d_eMax, d_eMin, d_eAbs, d_eAbove, d_eBodies, d_cQ, d_cZ, d_cNot, d_cAnd, d_cOr, d_gNil, d_gI, d_gL, d_gR, d_gD, d_xV, d_xS, d_xN, d_xT, d_eCall, d_lCall, d_eCallC, d_sNop, d_sSet, d_sSetL, d_sSetR, d_sSetQ, d_sInc, d_sPutI, d_sPutZ, d_sPutL, d_sPutA, d_sPutAZ, d_sPutAB, d_sPutAL, d_sPutD, d_sOpF, d_sOpA, d_sCall, d_sCopy, d_sSeq, d_sIf, d_sBrk, d_sCnt, d_sRetV, d_sRet, d_sRetL, d_sLp, d_tDef, d_tCase, d_sSw, d_sSwB, bIt_d, itb_0, itb_1, itb_2, itb_r, its_0, sqk_0, sqk_1, sqk_2, sqk_r, swk_0, swk_1, swk_r, bfin_r, bfin_ite, Option.bind_some, Option.map_some, Option.bind_none, Option.map_none, bind_ite, map_ite, cop0, cop1, cop2, cop3, cop4, cop5, opv0, opv1, opv2, opv3, brc_i, brc_z, two_ne_one, false_or, getI, getR, getL, List.getElem?_cons_zero, List.getElem?_cons_succ, List.set_cons_zero, List.set_cons_succ, bnl, if_true, if_false, true_or, or_true, decide_eq_true_eq, Bool.not_eq_true', decide_eq_false_iff_not, Bool.not_true, Bool.not_false, Bool.true_eq_false, Bool.false_eq_true, ite_not, reduceIte, ite01_0, ite01_1, Decidable.not_not, ne_eq, not_true_eq_false, not_false_eq_true, Function.comp_apply, decide_not, Bool.not_not, Bool.not_eq_false', dc_t, dc_f, and_self, true_and, and_true, and_false, false_and, tnc, Int.reduceLT, Int.reduceLE, Int.reduceEq, Int.reduceAdd, Int.reduceSub, Int.reduceMul, Int.reduceToNat, Int.reduceNeg, Int.reduceNe]
    · subst a b
      simp only [hM2, fM, tM, e, w3, d_rLoc1, d_rLoc2, d_rFld1, d_rFld2, d_eInt, d_eLdc, d_eLdw, d_eLoc, d_eFld, d_lFld, d_eAI, d_eAZ, d_eAB, d_lAL, d_eAD, d_eLen, d_eAdd, d_eSub, d_eMul, d_eAnd, d_eOr, d_eXor, d_eShl, d_eShr, d_eUsh, d_lAdd, d_lSub, d_lMul, d_lAnd, d_lOr, d_lXor, d_lShl, d_lShr, d_eDiv, d_eRem, d_eCmp, d_eI2B, d_eI2S, d_eL2I, d_lI2L, d_lInt, d_lLdc, d_lLoc, d_eIte, d_lIte, d_eMax, d_eMin, d_eAbs, d_eAbove, d_eBodies, d_cQ, d_cZ, d_cNot, d_cAnd, d_cOr, d_gNil, d_gI, d_gL, d_gR, d_gD, d_xV, d_xS, d_xN, d_xT, d_eCall, d_lCall, d_eCallC, d_sNop, d_sSet, d_sSetL, d_sSetR, d_sSetQ, d_sInc, d_sPutI, d_sPutZ, d_sPutL, d_sPutA, d_sPutAZ, d_sPutAB, d_sPutAL, d_sPutD, d_sOpF, d_sOpA, d_sCall, d_sCopy, d_sSeq, d_sIf, d_sBrk, d_sCnt, d_sRetV, d_sRet, d_sRetL, d_sLp, d_tDef, d_tCase, d_sSw, d_sSwB, bIt_d, itb_0, itb_1, itb_2, itb_r, its_0, sqk_0, sqk_1, sqk_2, sqk_r, swk_0, swk_1, swk_r, bfin_r, bfin_ite, Option.bind_some, Option.map_some, Option.bind_none, Option.map_none, bind_ite, map_ite, cop0, cop1, cop2, cop3, cop4, cop5, opv0, opv1, opv2, opv3, brc_i, brc_z, two_ne_one, false_or, getI, getR, getL, List.getElem?_cons_zero, List.getElem?_cons_succ, List.set_cons_zero, List.set_cons_succ, bnl, if_true, if_false, true_or, or_true, decide_eq_true_eq, Bool.not_eq_true', decide_eq_false_iff_not, Bool.not_true, Bool.not_false, Bool.true_eq_false, Bool.false_eq_true, ite_not, reduceIte, ite01_0, ite01_1, Decidable.not_not, ne_eq, not_true_eq_false, not_false_eq_true, Function.comp_apply, decide_not, Bool.not_not, Bool.not_eq_false', dc_t, dc_f, and_self, true_and, and_true, and_false, false_and, tnc, Int.reduceLT, Int.reduceLE, Int.reduceEq, Int.reduceAdd, Int.reduceSub, Int.reduceMul, Int.reduceToNat, Int.reduceNeg, Int.reduceNe]
  · simp only [hM3, h5, w4, d_rLoc1, d_rLoc2, d_rFld1, d_rFld2, d_eInt, d_eLdc, d_eLdw, d_eLoc, d_eFld, d_lFld, d_eAI, d_eAZ, d_eAB, d_lAL, d_eAD, d_eLen, d_eAdd, d_eSub, d_eMul, d_eAnd, d_eOr, d_eXor, d_eShl, d_eShr, d_eUsh, d_lAdd, d_lSub, d_lMul, d_lAnd, d_lOr, d_lXor, d_lShl, d_lShr, d_eDiv, d_eRem, d_eCmp, d_eI2B, d_eI2S, d_eL2I, d_lI2L, d_lInt, d_lLdc, d_lLoc, d_eIte, d_lIte, d_eMax, d_eMin, d_eAbs, d_eAbove, d_eBodies, d_cQ, d_cZ, d_cNot, d_cAnd, d_cOr, d_gNil, d_gI, d_gL, d_gR, d_gD, d_xV, d_xS, d_xN, d_xT, d_eCall, d_lCall, d_eCallC, d_sNop, d_sSet, d_sSetL, d_sSetR, d_sSetQ, d_sInc, d_sPutI, d_sPutZ, d_sPutL, d_sPutA, d_sPutAZ, d_sPutAB, d_sPutAL, d_sPutD, d_sOpF, d_sOpA, d_sCall, d_sCopy, d_sSeq, d_sIf, d_sBrk, d_sCnt, d_sRetV, d_sRet, d_sRetL, d_sLp, d_tDef, d_tCase, d_sSw, d_sSwB, bIt_d, itb_0, itb_1, itb_2, itb_r, its_0, sqk_0, sqk_1, sqk_2, sqk_r, swk_0, swk_1, swk_r, bfin_r, bfin_ite, Option.bind_some, Option.map_some, Option.bind_none, Option.map_none, bind_ite, map_ite, cop0, cop1, cop2, cop3, cop4, cop5, opv0, opv1, opv2, opv3, brc_i, brc_z, two_ne_one, false_or, getI, getR, getL, List.getElem?_cons_zero, List.getElem?_cons_succ, List.set_cons_zero, List.set_cons_succ, bnl, if_true, if_false, true_or, or_true, decide_eq_true_eq, Bool.not_eq_true', decide_eq_false_iff_not, Bool.not_true, Bool.not_false, Bool.true_eq_false, Bool.false_eq_true, ite_not, reduceIte, ite01_0, ite01_1, Decidable.not_not, ne_eq, not_true_eq_false, not_false_eq_true, Function.comp_apply, decide_not, Bool.not_not, Bool.not_eq_false', dc_t, dc_f, and_self, true_and, and_true, and_false, false_and, tnc, Int.reduceLT, Int.reduceLE, Int.reduceEq, Int.reduceAdd, Int.reduceSub, Int.reduceMul, Int.reduceToNat, Int.reduceNeg, Int.reduceNe]
theorem tm_e (n : Nat) (m m1 m2 : bM) (i : Int) (x : Option bV) (w : bwr m 117 10 0 = m1) (e : L_Tour_takeMembers_1.1.2 (sem n) [some (aR 117), some (aI 0), none] m1 = some (.inl (0, [some (aR 117), some (aI i), x], m2))) : sem (n + 1) 271 [aR 117] m = some (m2, 0) := by
  rw [st_Tour_takeMembers]
  unfold B_Tour_takeMembers
  revert e
  generalize L_Tour_takeMembers_1 = LL
  intro e
  simp only [kr_Tour_takeMembers, w, e, d_rLoc1, d_rLoc2, d_rFld1, d_rFld2, d_eInt, d_eLdc, d_eLdw, d_eLoc, d_eFld, d_lFld, d_eAI, d_eAZ, d_eAB, d_lAL, d_eAD, d_eLen, d_eAdd, d_eSub, d_eMul, d_eAnd, d_eOr, d_eXor, d_eShl, d_eShr, d_eUsh, d_lAdd, d_lSub, d_lMul, d_lAnd, d_lOr, d_lXor, d_lShl, d_lShr, d_eDiv, d_eRem, d_eCmp, d_eI2B, d_eI2S, d_eL2I, d_lI2L, d_lInt, d_lLdc, d_lLoc, d_eIte, d_lIte, d_eMax, d_eMin, d_eAbs, d_eAbove, d_eBodies, d_cQ, d_cZ, d_cNot, d_cAnd, d_cOr, d_gNil, d_gI, d_gL, d_gR, d_gD, d_xV, d_xS, d_xN, d_xT, d_eCall, d_lCall, d_eCallC, d_sNop, d_sSet, d_sSetL, d_sSetR, d_sSetQ, d_sInc, d_sPutI, d_sPutZ, d_sPutL, d_sPutA, d_sPutAZ, d_sPutAB, d_sPutAL, d_sPutD, d_sOpF, d_sOpA, d_sCall, d_sCopy, d_sSeq, d_sIf, d_sBrk, d_sCnt, d_sRetV, d_sRet, d_sRetL, d_sLp, d_tDef, d_tCase, d_sSw, d_sSwB, bIt_d, itb_0, itb_1, itb_2, itb_r, its_0, sqk_0, sqk_1, sqk_2, sqk_r, swk_0, swk_1, swk_r, bfin_r, bfin_ite, Option.bind_some, Option.map_some, Option.bind_none, Option.map_none, bind_ite, map_ite, cop0, cop1, cop2, cop3, cop4, cop5, opv0, opv1, opv2, opv3, brc_i, brc_z, two_ne_one, false_or, getI, getR, getL, List.getElem?_cons_zero, List.getElem?_cons_succ, List.set_cons_zero, List.set_cons_succ, bnl, if_true, if_false, true_or, or_true, decide_eq_true_eq, Bool.not_eq_true', decide_eq_false_iff_not, Bool.not_true, Bool.not_false, Bool.true_eq_false, Bool.false_eq_true, ite_not, reduceIte, ite01_0, ite01_1, Decidable.not_not, ne_eq, not_true_eq_false, not_false_eq_true, Function.comp_apply, decide_not, Bool.not_not, Bool.not_eq_false', dc_t, dc_f, and_self, true_and, and_true, and_false, false_and, tnc, Int.reduceLT, Int.reduceLE, Int.reduceEq, Int.reduceAdd, Int.reduceSub, Int.reduceMul, Int.reduceToNat, Int.reduceNeg, Int.reduceNe]
/-- what takeMembers leaves: everything but the members -/
def frTm (m m2 : bM) : Prop := (∀ i, i ≠ 117 → i ≠ 120 → i ≠ 121 → i ≠ 122 → m2 i = m i) ∧ ∀ k, k ≠ 10 → m2 117 k = m 117 k
def TMs (as : Nat → Bool) (c m2 : bM) (k : Nat) : Prop := (∀ j, j < k → as j = true → m2 120 (cnt as j) = (j : Int)) ∧ (∀ j, j < k → as j = true → m2 121 (cnt as j) = rcH c j) ∧ (∀ j, j < k → as j = true → m2 122 (cnt as j) = wcH c j) ∧ (m2 117 10 = (cnt as k : Int))
theorem TMs_mem {as : Nat → Bool} {c m2 : bM} {k : Nat} (h : TMs as c m2 k) : ∀ j, j < k → as j = true → m2 120 (cnt as j) = (j : Int) := h.1
theorem TMs_rch {as : Nat → Bool} {c m2 : bM} {k : Nat} (h : TMs as c m2 k) : ∀ j, j < k → as j = true → m2 121 (cnt as j) = rcH c j := h.2.1
theorem TMs_wgt {as : Nat → Bool} {c m2 : bM} {k : Nat} (h : TMs as c m2 k) : ∀ j, j < k → as j = true → m2 122 (cnt as j) = wcH c j := h.2.2.1
theorem TMs_cn {as : Nat → Bool} {c m2 : bM} {k : Nat} (h : TMs as c m2 k) : m2 117 10 = (cnt as k : Int) := h.2.2.2
theorem rcH_h {m : bM} (k : Nat) : rcH m k = m 6 (cHs m k) := rfl
theorem as_out {as : Nat → Bool} {N E : Nat} (h7 : cnt as N ≤ 7) (hE : cnt as E = 7) {j : Nat} (hj : j < N) (ha : as j = true) : j < E := by
  have := cnt_lt hj ha
  rcases Nat.lt_or_ge j E with q | q
  · exact q
  · have := cnt_up (p := as) (a := E) (j - E)
    rw [show E + (j - E) = j by omega] at this
    omega
theorem sp_takeMembers (n A : Nat) {i : Nat} {m : bM} (hI : NgtC i m m) (hR : Rel m m) (hg : m 101 15 = 1) (hA : m 117 4 = (A : Int)) (hA2 : A < 65536) (N : Nat) (hN : m 79 6 = (N : Int)) (h7 : cnt (fun c => A.testBit c) N ≤ 7) : ∃ m2, sem (n + 2) 271 [aR 117] m = some (m2, 0) ∧ frTm m m2 ∧ TMs (fun c => A.testBit c) m m2 N := by
  have rc := RelC_rcount (Rel_c hR)
  have N16 : N ≤ 16 := by omega
  have H10 : nHs m ≤ 10 := by have := RelV_rhouses (Rel_v hR); unfold nHs; omega
  obtain ⟨as, has⟩ : ∃ as : Nat → Bool, (fun c => A.testBit c) = as := ⟨_, rfl⟩
  have asb : ∀ c, A.testBit c = as c := fun c => by rw [← has]
  rw [has] at h7 ⊢
  obtain ⟨E, hE, hE2, hE3⟩ : ∃ E, E ≤ N ∧ (E = N ∨ cnt as E = 7) ∧ ∀ j, j < E → cnt as j < 7 := by
    cases q : ff (fun c => decide (cnt as c = 7)) N with
    | none =>
      refine ⟨N, Nat.le_refl _, Or.inl rfl, fun j hj => ?_⟩
      have a := ff_none.mp q j hj
      have b := cnt_up (p := as) (a := j) (N - j)
      rw [show j + (N - j) = N by omega] at b
      have a : ¬ cnt as j = 7 := by simpa using a
      omega
    | some E =>
      obtain ⟨a, b, c⟩ := ff_some q
      refine ⟨E, by omega, Or.inr (by simpa using b), fun j hj => ?_⟩
      have a := c j hj
      have b := cnt_up (p := as) (a := j) (N - j)
      rw [show j + (N - j) = N by omega] at b
      have a : ¬ cnt as j = 7 := by simpa using a
      omega
  have key := lp_n (cc := L_Tour_takeMembers_1c.1.2 (sem (n + 1))) (b := L_Tour_takeMembers_1b.1.2 (sem (n + 1))) (s := L_Tour_takeMembers_1s.1.2 (sem (n + 1))) (fun c ls mc => frTm m mc ∧ TMs as m mc c ∧ ∃ x, ls = [some (aR 117), some (aI (c : Int)), x]) E 0 bF [some (aR 117), some (aI 0), none] (bwr m 117 10 0) (by show E < 1000; omega) ⟨⟨fun i a _ _ _ => bwr_ne _ _ a, fun k a => bwr_ne2 _ a⟩, ⟨fun j hj => absurd hj (Nat.not_lt_zero _), fun j hj => absurd hj (Nat.not_lt_zero _), fun j hj => absurd hj (Nat.not_lt_zero _), bwr_eq2 _⟩, none, rfl⟩ (fun c ls mc hc0 hc hQ => ?_) (fun ls mc hQ => ?_)
  · obtain ⟨ls2, m2, e2, f2, t2, x, e3⟩ := key
    subst e3
    rw [Nat.zero_add] at e2 t2
    refine ⟨m2, tm_e (n + 1) m _ m2 (E : Int) x rfl ?_, f2, ?_⟩
    · unfold L_Tour_takeMembers_1
      rw [d_sLp]
      exact e2
    · rcases hE2 with hE2 | hE2
      · rw [← hE2]; exact t2
      · obtain ⟨a1, a2, a3, a4⟩ := t2
        have out : ∀ j, j < N → as j = true → j < E := fun j hj ha => as_out h7 hE2 hj ha
        refine ⟨fun j hj ha => a1 j (out j hj ha) ha, fun j hj ha => a2 j (out j hj ha) ha, fun j hj ha => a3 j (out j hj ha) ha, ?_⟩
        have b := cnt_up (p := as) (a := E) (N - E)
        rw [show E + (N - E) = N by omega] at b
        rw [a4]; omega
  · obtain ⟨f, ⟨t1, t2, t3, t4⟩, x, e3⟩ := hQ
    subst e3
    have cE : c < E := by omega
    have c16 : c < 16 := by omega
    have c7 := hE3 c cE
    have eN : mc 79 6 = (N : Int) := by rw [f.1 79 (by decide) (by decide) (by decide) (by decide)]; exact hN
    have eA : mc 117 4 = (A : Int) := by rw [f.2 4 (by decide)]; exact hA
    have b1 : (c : Int) < (N : Int) := by omega
    have b3 : c < 2147483647 := by omega
    have jb := jbit (a := A) (k := c) (by omega) (by omega)
    rw [asb] at jb
    cases z : as c with
    | false =>
      rw [z] at jb
      refine ⟨_, mc, bIt_go (m1 := mc) (tm_c _ mc _ _ _ x eN t4 b1 (by omega)) (tm_b0 _ mc _ _ x eA (by rw [jb]; decide)) (tm_s _ mc _ _ x (i32_s b3)), f, ⟨?_, ?_, ?_, ?_⟩, x, rfl⟩
      · intro j hj ha
        by_cases q : j = c
        · rw [q, z] at ha; cases ha
        · exact t1 j (by omega) ha
      · intro j hj ha
        by_cases q : j = c
        · rw [q, z] at ha; cases ha
        · exact t2 j (by omega) ha
      · intro j hj ha
        by_cases q : j = c
        · rw [q, z] at ha; cases ha
        · exact t3 j (by omega) ha
      · rw [cnF z]; exact t4
    | true =>
      rw [z] at jb
      have r1 := RelC_rthing (Rel_c hR) c c16
      have r2 := RelF_rtof (Rel_f hR) (cTh m c) (by unfold cTh; omega)
      obtain ⟨t, ht⟩ : ∃ t, cTh m c = t := ⟨_, rfl⟩
      obtain ⟨h, hh⟩ : ∃ h, cHs m c = h := ⟨_, rfl⟩
      have ti : m 81 c = (t : Int) := by rw [← ht]; unfold cTh; omega
      have hi : m 44 t = (h : Int) := by rw [← hh, ← ht]; unfold cHs; omega
      rw [ht] at r2
      have t12 : t < 12 := by omega
      have h10 : h < 10 := by omega
      obtain ⟨m1, w1⟩ : ∃ m1, bwr mc 120 (cnt as c) (c : Int) = m1 := ⟨_, rfl⟩
      obtain ⟨m2, w2⟩ : ∃ m2, bwr m1 121 (cnt as c) (rcH m c) = m2 := ⟨_, rfl⟩
      obtain ⟨m3, w3⟩ : ∃ m3, bwr m2 122 (cnt as c) (wcH m c) = m3 := ⟨_, rfl⟩
      obtain ⟨m4, w4⟩ : ∃ m4, bwr m3 117 10 ((cnt as c + 1 : Nat) : Int) = m4 := ⟨_, rfl⟩
      have g1 : ∀ i, i ≠ 120 → m1 i = mc i := fun i hi => by rw [← w1, bwr_ne _ _ hi]
      have g2 : ∀ i, i ≠ 121 → m2 i = m1 i := fun i hi => by rw [← w2, bwr_ne _ _ hi]
      have g3 : ∀ i, i ≠ 122 → m3 i = m2 i := fun i hi => by rw [← w3, bwr_ne _ _ hi]
      have g4 : ∀ i, i ≠ 117 → m4 i = m3 i := fun i hi => by rw [← w4, bwr_ne _ _ hi]
      have hN2 : NgtC i m m2 := NgtC_congr0 hI (agV_refl m) ⟨agK_refl m, rfl, rfl⟩ (agT_refl m) (fun i a b => by rw [g2 i (by omega), g1 i (by omega), f.1 i (by omega) (by omega) (by omega) (by omega)])
      have hg2 : m2 101 15 = 1 := by rw [g2 101 (by decide), g1 101 (by decide), f.1 101 (by decide) (by decide) (by decide) (by decide)]; exact hg
      have ev := sp_fallsInEach2 n h hN2 hg2 H10 h10
      have hv : ((if pEach m h = true then (1 : Int) else 0) = 1 ∧ wcH m c = 3) ∨ ((if pEach m h = true then (1 : Int) else 0) = 0 ∧ wcH m c = 1) := by
        unfold wcH
        rw [hh]
        split
        · exact Or.inl ⟨rfl, rfl⟩
        · exact Or.inr ⟨rfl, rfl⟩
      have eM1 : m1 117 10 = (cnt as c : Int) := by rw [g1 117 (by decide)]; exact t4
      have eM2 : m2 117 10 = (cnt as c : Int) := by rw [g2 117 (by decide)]; exact eM1
      have eM3 : m3 117 10 = (cnt as c : Int) := by rw [g3 117 (by decide)]; exact eM2
      have er : m1 6 h = rcH m c := by rw [g1 6 (by decide), f.1 6 (by decide) (by decide) (by decide) (by decide), rcH_h, hh]
      have et : mc 81 c = (t : Int) := by rw [f.1 81 (by decide) (by decide) (by decide) (by decide)]; exact ti
      have eh : mc 44 t = (h : Int) := by rw [f.1 44 (by decide) (by decide) (by decide) (by decide)]; exact hi
      have k4 : ∀ k, k ≠ 10 → m4 117 k = m 117 k := fun k hk => by rw [← w4, bwr_ne2 _ hk, g3 117 (by decide), g2 117 (by decide), g1 117 (by decide), f.2 k hk]
      have q120 : m4 120 = m1 120 := by rw [g4 120 (by decide), g3 120 (by decide), g2 120 (by decide)]
      have q121 : m4 121 = m2 121 := by rw [g4 121 (by decide), g3 121 (by decide)]
      have q122 : m4 122 = m3 122 := by rw [g4 122 (by decide)]
      have o121 : m1 121 = mc 121 := g1 121 (by decide)
      have o122 : m2 122 = mc 122 := by rw [g2 122 (by decide), g1 122 (by decide)]
      have fM : 0 ≤ ((cnt as c : Nat) : Int) ∧ ((cnt as c : Nat) : Int) < ((7 : Nat) : Int) := by omega
      have lt : ∀ j, j < c → as j = true → cnt as j ≠ cnt as c := fun j hj ha q => by have := cnt_lt hj ha; omega
      refine ⟨_, m4, bIt_go (m1 := mc) (tm_c _ mc _ _ _ x eN t4 b1 (by omega)) (tm_b1 _ mc m1 m2 m3 m4 _ _ _ _ _ _ _ _ _ c t h (cnt as c) x eA jb (f16 c16) (tnc c) et (f12 t12) (tnc t) eh t4 fM (tnc _) w1 eM1 (f10 h10) (tnc h) er w2 eM2 ev hv w3 eM3 (i32_s (by omega)) w4) (tm_s _ m4 _ _ _ (i32_s b3)), ⟨fun i a b c' d => by rw [g4 i a, g3 i d, g2 i c', g1 i b, f.1 i a b c' d], k4⟩, ⟨?_, ?_, ?_, ?_⟩, _, rfl⟩
      · intro j hj ha
        show m4 120 (cnt as j) = (j : Int)
        rw [q120, ← w1]
        by_cases q : j = c
        · subst q; exact bwr_eq2 _
        · rw [bwr_ne2 _ (lt j (by omega) ha)]; exact t1 j (by omega) ha
      · intro j hj ha
        show m4 121 (cnt as j) = rcH m j
        rw [q121, ← w2]
        by_cases q : j = c
        · subst q; exact bwr_eq2 _
        · rw [bwr_ne2 _ (lt j (by omega) ha), o121]; exact t2 j (by omega) ha
      · intro j hj ha
        show m4 122 (cnt as j) = wcH m j
        rw [q122, ← w3]
        by_cases q : j = c
        · subst q; exact bwr_eq2 _
        · rw [bwr_ne2 _ (lt j (by omega) ha), o122]; exact t3 j (by omega) ha
      · rw [cnT z, ← w4]; exact bwr_eq2 _
  · obtain ⟨f, ⟨t1, t2, t3, t4⟩, x, e3⟩ := hQ
    subst e3
    rw [Nat.zero_add] at t4 ⊢
    have eN : mc 79 6 = (N : Int) := by rw [f.1 79 (by decide) (by decide) (by decide) (by decide)]; exact hN
    refine bIt_ex (tm_x _ mc _ _ _ x eN t4 ?_)
    rcases hE2 with hE2 | hE2
    · exact Or.inl (by omega)
    · exact Or.inr (by omega)
