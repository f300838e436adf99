/-! ===== clock, word ===== -/
theorem jdq {g : Int} (h : 0 ≤ g ∧ g ≤ 999) : jdiv g 100 = g / 100 ∧ jrem g 100 = g % 100 := by
  constructor
  · unfold jdiv
    rw [Int.tdiv_eq_ediv_of_nonneg h.1, i32_of (by omega) (by omega)]
  · unfold jrem
    rw [Int.tmod_eq_emod_of_nonneg h.1, i32_of (by omega) (by omega)]
theorem sp_V_clock (n : Nat) (r h mi g : Int) (m : bM) (hp : 0 ≤ m 17 9 ∧ m 17 9 ≤ 16) : sem (n + 3) 8 [aR 0, aI r, aI h, aI mi, aI g] m = if (0 ≤ r ∧ r ≤ 11) ∧ (1 ≤ h ∧ h ≤ 99) ∧ (0 ≤ mi ∧ mi ≤ 179) ∧ (0 ≤ g ∧ g ≤ 999) ∧ g % 100 ≤ 18 then (if m 17 9 = 16 then some (m, -2) else some (addR (fgN (bwr m 23 (m 17 9).toNat h)) 1 r mi (mi - (g % 100 - 9) - g / 100) (mi - (g % 100 - 9) + g / 100), m 17 9)) else some (m, -1) := by
  rw [st_V_clock]
  simp only [B_V_clock, kr_V_clock, sp_within, sp_V_isReach, sp_V_isMinute, sp_forgetNights, d_rLoc1, d_rLoc2, d_rFld1, d_rFld2, d_eInt, d_eLdc, d_eLdw, d_eLoc, d_eFld, d_lFld, d_eAI, d_eAZ, d_eAB, d_lAL, d_eAD, d_eLen, d_eAdd, d_eSub, d_eMul, d_eAnd, d_eOr, d_eXor, d_eShl, d_eShr, d_eUsh, d_lAdd, d_lSub, d_lMul, d_lAnd, d_lOr, d_lXor, d_lShl, d_lShr, d_eDiv, d_eRem, d_eCmp, d_eI2B, d_eI2S, d_eL2I, d_lI2L, d_lInt, d_lLdc, d_lLoc, d_eIte, d_lIte, d_eMax, d_eMin, d_eAbs, d_eAbove, d_eBodies, d_cQ, d_cZ, d_cNot, d_cAnd, d_cOr, d_gNil, d_gI, d_gL, d_gR, d_gD, d_xV, d_xS, d_xN, d_xT, d_eCall, d_lCall, d_eCallC, d_sNop, d_sSet, d_sSetL, d_sSetR, d_sSetQ, d_sInc, d_sPutI, d_sPutZ, d_sPutL, d_sPutA, d_sPutAZ, d_sPutAB, d_sPutAL, d_sPutD, d_sOpF, d_sOpA, d_sCall, d_sCopy, d_sSeq, d_sIf, d_sBrk, d_sCnt, d_sRetV, d_sRet, d_sRetL, d_sLp, d_tDef, d_tCase, d_sSw, d_sSwB, bIt_d, itb_0, itb_1, itb_2, itb_r, its_0, sqk_0, sqk_1, sqk_2, sqk_r, swk_0, swk_1, swk_r, bfin_r, bfin_ite, Option.bind_some, Option.map_some, Option.bind_none, Option.map_none, bind_ite, map_ite, cop0, cop1, cop2, cop3, cop4, cop5, opv0, opv1, opv2, opv3, brc_i, brc_z, two_ne_one, false_or, getI, getR, getL, List.getElem?_cons_zero, List.getElem?_cons_succ, List.set_cons_zero, List.set_cons_succ, bnl, if_true, if_false, true_or, or_true, decide_eq_true_eq, Bool.not_eq_true', decide_eq_false_iff_not, Bool.not_true, Bool.not_false, Bool.true_eq_false, Bool.false_eq_true, ite_not, reduceIte, ite01_0, ite01_1, Decidable.not_not, ne_eq, not_true_eq_false, not_false_eq_true, decide_not, Bool.not_not, Bool.not_eq_false']
  by_cases h0 : 0 ≤ g ∧ g ≤ 999
  · obtain ⟨d1, d2⟩ := jdq h0
    simp only [d1, d2]
    have e9 : (0 ≤ g ∧ g ≤ 918) ∨ ¬ (g % 100 ≤ 18) := by omega
    by_cases h1 : 0 ≤ r ∧ r ≤ 11 <;> by_cases h2 : 1 ≤ h ∧ h ≤ 99 <;> by_cases h3 : 0 ≤ mi ∧ mi ≤ 179 <;> by_cases h4 : g % 100 ≤ 18 <;> by_cases h5 : 0 ≤ g ∧ g ≤ 918 <;> simp [h0, h1, h2, h3, h4, h5, bfin_r, Int.not_lt.mpr, show (18 < g % 100 ↔ ¬ g % 100 ≤ 18) by omega]
    · by_cases h6 : m 17 9 = 16
      · simp [h6, bfin_r]
      · have h7 : ¬ (16 ≤ m 17 9) := by omega
        have h8 : m 17 9 < 16 := by omega
        simp [h6, h7, h8, hp.1]
        have e : (fgN (bwr m 23 (m 17 9).toNat h)) 17 9 = m 17 9 := by simp (disch := omega) only [fgN, fgP, bwr_ne, bwr_ne2, bwr_eq2]
        have e' : i32 (i32 (mi - i32 (g % 100 - 9)) - g / 100) = mi - (g % 100 - 9) - g / 100 := by
          rw [i32_of (z := g % 100 - 9) (by omega) (by omega), i32_of (z := mi - (g % 100 - 9)) (by omega) (by omega), i32_of (by omega) (by omega)]
        have e'' : i32 (i32 (mi - i32 (g % 100 - 9)) + g / 100) = mi - (g % 100 - 9) + g / 100 := by
          rw [i32_of (z := g % 100 - 9) (by omega) (by omega), i32_of (z := mi - (g % 100 - 9)) (by omega) (by omega), i32_of (by omega) (by omega)]
        rw [e', e'', sp_addRow _ _ _ _ _ _ _ (by rw [e]; omega), e]
        rfl
    · omega
  · have h5 : ¬ (0 ≤ g ∧ g ≤ 918) := by omega
    by_cases h1 : 0 ≤ r ∧ r ≤ 11 <;> by_cases h2 : 1 ≤ h ∧ h ≤ 99 <;> by_cases h3 : 0 ≤ mi ∧ mi ≤ 179 <;> simp [h0, h1, h2, h3, h5, bfin_r]
theorem sp_M_clock (n : Nat) (r h mi g : Int) (m : bM) (hp : 0 ≤ m 133 6 ∧ m 133 6 ≤ 16) : sem (n + 3) 66 [aR 132, aI r, aI h, aI mi, aI g] m = if (0 ≤ r ∧ r ≤ 11) ∧ (1 ≤ h ∧ h ≤ 99) ∧ (0 ≤ mi ∧ mi ≤ 179) ∧ (0 ≤ g ∧ g ≤ 999) ∧ g % 100 ≤ 18 then (if m 133 6 = 16 then some (m, -2) else some (addM m 1 r mi h (g % 100 - 9) (g / 100), m 133 6)) else some (m, -1) := by
  rw [st_M_clock]
  simp only [B_M_clock, kr_M_clock, sp_in, sp_M_isReach, sp_M_isMinute, d_rLoc1, d_rLoc2, d_rFld1, d_rFld2, d_eInt, d_eLdc, d_eLdw, d_eLoc, d_eFld, d_lFld, d_eAI, d_eAZ, d_eAB, d_lAL, d_eAD, d_eLen, d_eAdd, d_eSub, d_eMul, d_eAnd, d_eOr, d_eXor, d_eShl, d_eShr, d_eUsh, d_lAdd, d_lSub, d_lMul, d_lAnd, d_lOr, d_lXor, d_lShl, d_lShr, d_eDiv, d_eRem, d_eCmp, d_eI2B, d_eI2S, d_eL2I, d_lI2L, d_lInt, d_lLdc, d_lLoc, d_eIte, d_lIte, d_eMax, d_eMin, d_eAbs, d_eAbove, d_eBodies, d_cQ, d_cZ, d_cNot, d_cAnd, d_cOr, d_gNil, d_gI, d_gL, d_gR, d_gD, d_xV, d_xS, d_xN, d_xT, d_eCall, d_lCall, d_eCallC, d_sNop, d_sSet, d_sSetL, d_sSetR, d_sSetQ, d_sInc, d_sPutI, d_sPutZ, d_sPutL, d_sPutA, d_sPutAZ, d_sPutAB, d_sPutAL, d_sPutD, d_sOpF, d_sOpA, d_sCall, d_sCopy, d_sSeq, d_sIf, d_sBrk, d_sCnt, d_sRetV, d_sRet, d_sRetL, d_sLp, d_tDef, d_tCase, d_sSw, d_sSwB, bIt_d, itb_0, itb_1, itb_2, itb_r, its_0, sqk_0, sqk_1, sqk_2, sqk_r, swk_0, swk_1, swk_r, bfin_r, bfin_ite, Option.bind_some, Option.map_some, Option.bind_none, Option.map_none, bind_ite, map_ite, cop0, cop1, cop2, cop3, cop4, cop5, opv0, opv1, opv2, opv3, brc_i, brc_z, two_ne_one, false_or, getI, getR, getL, List.getElem?_cons_zero, List.getElem?_cons_succ, List.set_cons_zero, List.set_cons_succ, bnl, if_true, if_false, true_or, or_true, decide_eq_true_eq, Bool.not_eq_true', decide_eq_false_iff_not, Bool.not_true, Bool.not_false, Bool.true_eq_false, Bool.false_eq_true, ite_not, reduceIte, ite01_0, ite01_1, Decidable.not_not, ne_eq, not_true_eq_false, not_false_eq_true, decide_not, Bool.not_not, Bool.not_eq_false']
  by_cases h0 : 0 ≤ g ∧ g ≤ 999
  · obtain ⟨d1, d2⟩ := jdq h0
    simp only [d1, d2]
    rw [i32_of (z := g % 100 - 9) (by omega) (by omega), sp_M_seen _ _ _ _ _ _ _ _ hp]
    simp only [kr_M_clock, d_rLoc1, d_rLoc2, d_rFld1, d_rFld2, d_eInt, d_eLdc, d_eLdw, d_eLoc, d_eFld, d_lFld, d_eAI, d_eAZ, d_eAB, d_lAL, d_eAD, d_eLen, d_eAdd, d_eSub, d_eMul, d_eAnd, d_eOr, d_eXor, d_eShl, d_eShr, d_eUsh, d_lAdd, d_lSub, d_lMul, d_lAnd, d_lOr, d_lXor, d_lShl, d_lShr, d_eDiv, d_eRem, d_eCmp, d_eI2B, d_eI2S, d_eL2I, d_lI2L, d_lInt, d_lLdc, d_lLoc, d_eIte, d_lIte, d_eMax, d_eMin, d_eAbs, d_eAbove, d_eBodies, d_cQ, d_cZ, d_cNot, d_cAnd, d_cOr, d_gNil, d_gI, d_gL, d_gR, d_gD, d_xV, d_xS, d_xN, d_xT, d_eCall, d_lCall, d_eCallC, d_sNop, d_sSet, d_sSetL, d_sSetR, d_sSetQ, d_sInc, d_sPutI, d_sPutZ, d_sPutL, d_sPutA, d_sPutAZ, d_sPutAB, d_sPutAL, d_sPutD, d_sOpF, d_sOpA, d_sCall, d_sCopy, d_sSeq, d_sIf, d_sBrk, d_sCnt, d_sRetV, d_sRet, d_sRetL, d_sLp, d_tDef, d_tCase, d_sSw, d_sSwB, bIt_d, itb_0, itb_1, itb_2, itb_r, its_0, sqk_0, sqk_1, sqk_2, sqk_r, swk_0, swk_1, swk_r, bfin_r, bfin_ite, Option.bind_some, Option.map_some, Option.bind_none, Option.map_none, bind_ite, map_ite, cop0, cop1, cop2, cop3, cop4, cop5, opv0, opv1, opv2, opv3, brc_i, brc_z, two_ne_one, false_or, getI, getR, getL, List.getElem?_cons_zero, List.getElem?_cons_succ, List.set_cons_zero, List.set_cons_succ, bnl, if_true, if_false, true_or, or_true, decide_eq_true_eq, Bool.not_eq_true', decide_eq_false_iff_not, Bool.not_true, Bool.not_false, Bool.true_eq_false, Bool.false_eq_true, ite_not, reduceIte, ite01_0, ite01_1, Decidable.not_not, ne_eq, not_true_eq_false, not_false_eq_true, decide_not, Bool.not_not, Bool.not_eq_false']
    by_cases h1 : 0 ≤ r ∧ r ≤ 11 <;> by_cases h2 : 1 ≤ h ∧ h ≤ 99 <;> by_cases h3 : 0 ≤ mi ∧ mi ≤ 179 <;> by_cases h4 : g % 100 ≤ 18 <;> by_cases h6 : m 133 6 = 16 <;> simp [h0, h1, h2, h3, h4, h6, bfin_r, show (18 < g % 100 ↔ ¬ g % 100 ≤ 18) by omega]
  · by_cases h1 : 0 ≤ r ∧ r ≤ 11 <;> by_cases h2 : 1 ≤ h ∧ h ≤ 99 <;> by_cases h3 : 0 ≤ mi ∧ mi ≤ 179 <;> simp [h0, h1, h2, h3, bfin_r]
theorem sp_V_word (n : Nat) (e w f t : Int) (m : bM) (hp : 0 ≤ m 17 9 ∧ m 17 9 ≤ 16) : sem (n + 3) 10 [aR 0, aI e, aI w, aI f, aI t] m = if (0 ≤ e ∧ e ≤ 3) ∧ (1 ≤ w ∧ w ≤ 7) ∧ (0 ≤ f ∧ f ≤ 29) ∧ (f ≤ t ∧ t ≤ 29) then (if m 17 9 = 16 then some (m, -2) else some (addR (fgP m) 3 e w f t, m 17 9)) else some (m, -1) := by
  rw [st_V_word]
  simp only [B_V_word, kr_V_word, sp_within, sp_V_isEngineer, sp_V_isStart, sp_forgetPossible, d_rLoc1, d_rLoc2, d_rFld1, d_rFld2, d_eInt, d_eLdc, d_eLdw, d_eLoc, d_eFld, d_lFld, d_eAI, d_eAZ, d_eAB, d_lAL, d_eAD, d_eLen, d_eAdd, d_eSub, d_eMul, d_eAnd, d_eOr, d_eXor, d_eShl, d_eShr, d_eUsh, d_lAdd, d_lSub, d_lMul, d_lAnd, d_lOr, d_lXor, d_lShl, d_lShr, d_eDiv, d_eRem, d_eCmp, d_eI2B, d_eI2S, d_eL2I, d_lI2L, d_lInt, d_lLdc, d_lLoc, d_eIte, d_lIte, d_eMax, d_eMin, d_eAbs, d_eAbove, d_eBodies, d_cQ, d_cZ, d_cNot, d_cAnd, d_cOr, d_gNil, d_gI, d_gL, d_gR, d_gD, d_xV, d_xS, d_xN, d_xT, d_eCall, d_lCall, d_eCallC, d_sNop, d_sSet, d_sSetL, d_sSetR, d_sSetQ, d_sInc, d_sPutI, d_sPutZ, d_sPutL, d_sPutA, d_sPutAZ, d_sPutAB, d_sPutAL, d_sPutD, d_sOpF, d_sOpA, d_sCall, d_sCopy, d_sSeq, d_sIf, d_sBrk, d_sCnt, d_sRetV, d_sRet, d_sRetL, d_sLp, d_tDef, d_tCase, d_sSw, d_sSwB, bIt_d, itb_0, itb_1, itb_2, itb_r, its_0, sqk_0, sqk_1, sqk_2, sqk_r, swk_0, swk_1, swk_r, bfin_r, bfin_ite, Option.bind_some, Option.map_some, Option.bind_none, Option.map_none, bind_ite, map_ite, cop0, cop1, cop2, cop3, cop4, cop5, opv0, opv1, opv2, opv3, brc_i, brc_z, two_ne_one, false_or, getI, getR, getL, List.getElem?_cons_zero, List.getElem?_cons_succ, List.set_cons_zero, List.set_cons_succ, bnl, if_true, if_false, true_or, or_true, decide_eq_true_eq, Bool.not_eq_true', decide_eq_false_iff_not, Bool.not_true, Bool.not_false, Bool.true_eq_false, Bool.false_eq_true, ite_not, reduceIte, ite01_0, ite01_1, Decidable.not_not, ne_eq, not_true_eq_false, not_false_eq_true, decide_not, Bool.not_not, Bool.not_eq_false']
  by_cases h1 : 0 ≤ e ∧ e ≤ 3 <;> by_cases h2 : 1 ≤ w ∧ w ≤ 7 <;> by_cases h3 : 0 ≤ f ∧ f ≤ 29 <;> simp [h1, h2, h3, bfin_r]
  by_cases h4 : f ≤ t ∧ t ≤ 29
  · have h5 : 0 ≤ t := by omega
    have h6 : ¬ t < f := by omega
    by_cases h7 : m 17 9 = 16
    · simp [h4, h5, h6, h7, bfin_r]
    · have h8 : ¬ (16 ≤ m 17 9) := by omega
      simp [h4, h5, h6, h7, h8]
      have e : (fgP m) 17 9 = m 17 9 := by simp (disch := omega) only [fgN, fgP, bwr_ne, bwr_ne2, bwr_eq2]
      rw [sp_addRow _ _ _ _ _ _ _ (by rw [e]; omega), e]
      rfl
  · by_cases h5 : 0 ≤ t ∧ t ≤ 29
    · have h6 : t < f := by omega
      have h7 : ¬ f ≤ t := by omega
      simp [h5, h6, h7, bfin_r]
    · simp [h4, h5, bfin_r]
theorem sp_M_word (n : Nat) (e w f t : Int) (m : bM) (hp : 0 ≤ m 133 6 ∧ m 133 6 ≤ 16) : sem (n + 3) 68 [aR 132, aI e, aI w, aI f, aI t] m = if (0 ≤ e ∧ e ≤ 3) ∧ (1 ≤ w ∧ w ≤ 7) ∧ (0 ≤ f ∧ f ≤ 29) ∧ (f ≤ t ∧ t ≤ 29) then (if m 133 6 = 16 then some (m, -2) else some (addM m 3 e w f t 0, m 133 6)) else some (m, -1) := by
  rw [st_M_word]
  simp only [B_M_word, kr_M_word, sp_in, d_rLoc1, d_rLoc2, d_rFld1, d_rFld2, d_eInt, d_eLdc, d_eLdw, d_eLoc, d_eFld, d_lFld, d_eAI, d_eAZ, d_eAB, d_lAL, d_eAD, d_eLen, d_eAdd, d_eSub, d_eMul, d_eAnd, d_eOr, d_eXor, d_eShl, d_eShr, d_eUsh, d_lAdd, d_lSub, d_lMul, d_lAnd, d_lOr, d_lXor, d_lShl, d_lShr, d_eDiv, d_eRem, d_eCmp, d_eI2B, d_eI2S, d_eL2I, d_lI2L, d_lInt, d_lLdc, d_lLoc, d_eIte, d_lIte, d_eMax, d_eMin, d_eAbs, d_eAbove, d_eBodies, d_cQ, d_cZ, d_cNot, d_cAnd, d_cOr, d_gNil, d_gI, d_gL, d_gR, d_gD, d_xV, d_xS, d_xN, d_xT, d_eCall, d_lCall, d_eCallC, d_sNop, d_sSet, d_sSetL, d_sSetR, d_sSetQ, d_sInc, d_sPutI, d_sPutZ, d_sPutL, d_sPutA, d_sPutAZ, d_sPutAB, d_sPutAL, d_sPutD, d_sOpF, d_sOpA, d_sCall, d_sCopy, d_sSeq, d_sIf, d_sBrk, d_sCnt, d_sRetV, d_sRet, d_sRetL, d_sLp, d_tDef, d_tCase, d_sSw, d_sSwB, bIt_d, itb_0, itb_1, itb_2, itb_r, its_0, sqk_0, sqk_1, sqk_2, sqk_r, swk_0, swk_1, swk_r, bfin_r, bfin_ite, Option.bind_some, Option.map_some, Option.bind_none, Option.map_none, bind_ite, map_ite, cop0, cop1, cop2, cop3, cop4, cop5, opv0, opv1, opv2, opv3, brc_i, brc_z, two_ne_one, false_or, getI, getR, getL, List.getElem?_cons_zero, List.getElem?_cons_succ, List.set_cons_zero, List.set_cons_succ, bnl, if_true, if_false, true_or, or_true, decide_eq_true_eq, Bool.not_eq_true', decide_eq_false_iff_not, Bool.not_true, Bool.not_false, Bool.true_eq_false, Bool.false_eq_true, ite_not, reduceIte, ite01_0, ite01_1, Decidable.not_not, ne_eq, not_true_eq_false, not_false_eq_true, decide_not, Bool.not_not, Bool.not_eq_false']
  rw [sp_M_seen _ _ _ _ _ _ _ _ hp]
  simp only [kr_M_word, d_rLoc1, d_rLoc2, d_rFld1, d_rFld2, d_eInt, d_eLdc, d_eLdw, d_eLoc, d_eFld, d_lFld, d_eAI, d_eAZ, d_eAB, d_lAL, d_eAD, d_eLen, d_eAdd, d_eSub, d_eMul, d_eAnd, d_eOr, d_eXor, d_eShl, d_eShr, d_eUsh, d_lAdd, d_lSub, d_lMul, d_lAnd, d_lOr, d_lXor, d_lShl, d_lShr, d_eDiv, d_eRem, d_eCmp, d_eI2B, d_eI2S, d_eL2I, d_lI2L, d_lInt, d_lLdc, d_lLoc, d_eIte, d_lIte, d_eMax, d_eMin, d_eAbs, d_eAbove, d_eBodies, d_cQ, d_cZ, d_cNot, d_cAnd, d_cOr, d_gNil, d_gI, d_gL, d_gR, d_gD, d_xV, d_xS, d_xN, d_xT, d_eCall, d_lCall, d_eCallC, d_sNop, d_sSet, d_sSetL, d_sSetR, d_sSetQ, d_sInc, d_sPutI, d_sPutZ, d_sPutL, d_sPutA, d_sPutAZ, d_sPutAB, d_sPutAL, d_sPutD, d_sOpF, d_sOpA, d_sCall, d_sCopy, d_sSeq, d_sIf, d_sBrk, d_sCnt, d_sRetV, d_sRet, d_sRetL, d_sLp, d_tDef, d_tCase, d_sSw, d_sSwB, bIt_d, itb_0, itb_1, itb_2, itb_r, its_0, sqk_0, sqk_1, sqk_2, sqk_r, swk_0, swk_1, swk_r, bfin_r, bfin_ite, Option.bind_some, Option.map_some, Option.bind_none, Option.map_none, bind_ite, map_ite, cop0, cop1, cop2, cop3, cop4, cop5, opv0, opv1, opv2, opv3, brc_i, brc_z, two_ne_one, false_or, getI, getR, getL, List.getElem?_cons_zero, List.getElem?_cons_succ, List.set_cons_zero, List.set_cons_succ, bnl, if_true, if_false, true_or, or_true, decide_eq_true_eq, Bool.not_eq_true', decide_eq_false_iff_not, Bool.not_true, Bool.not_false, Bool.true_eq_false, Bool.false_eq_true, ite_not, reduceIte, ite01_0, ite01_1, Decidable.not_not, ne_eq, not_true_eq_false, not_false_eq_true, decide_not, Bool.not_not, Bool.not_eq_false']
  by_cases h1 : 0 ≤ e ∧ e ≤ 3 <;> by_cases h2 : 1 ≤ w ∧ w ≤ 7 <;> by_cases h3 : 0 ≤ f ∧ f ≤ 29 <;> by_cases h4 : f ≤ t ∧ t ≤ 29 <;> by_cases h6 : m 133 6 = 16 <;> simp [h1, h2, h3, h4, h6, bfin_r]
theorem rLet_pt {c c1 : bM} (h : agV c1 c) {k : Nat} (e1 : c1 18 k = c 18 k) (e2 : c1 19 k = c 19 k) (e3 : c1 20 k = c 20 k) (e4 : c1 21 k = c 21 k) (e5 : c1 22 k = c 22 k) (e6 : c1 23 k = c 23 k) (q : Nat) : rLet c1 q k = rLet c q k := by
  unfold rLet
  rw [e1, e2, e3, e4, e5, e6, qDeep_congr h, qMax_congr h]
theorem step_clock {n i : Nat} {m : bM} (hI : Inv i m) (hi : i < 100) (r h mi g : Int) : ∃ m1 m2 v, sem (n + 3) 8 [aR 0, aI r, aI h, aI mi, aI g] m = some (m1, v) ∧ sem (n + 3) 66 [aR 132, aI r, aI h, aI mi, aI g] m1 = some (m2, v) ∧ Inv (i + 1) m2 := by
  have hR := Inv_rel hI
  have hN := Inv_ngt hI
  have hage := NgtC_age hN
  have hp := RelS_rrows (Rel_s hR)
  have hnp := RelN_rows (Rel_n hR)
  by_cases hc : (0 ≤ r ∧ r ≤ 11) ∧ (1 ≤ h ∧ h ≤ 99) ∧ (0 ≤ mi ∧ mi ≤ 179) ∧ (0 ≤ g ∧ g ≤ 999) ∧ g % 100 ≤ 18
  · by_cases hf : m 17 9 = 16
    · exact ⟨m, m, -2, (sp_V_clock n r h mi g m hp).trans ((if_pos hc).trans (if_pos hf)), (sp_M_clock n r h mi g m (by rw [hnp]; exact hp)).trans ((if_pos hc).trans (if_pos (by rw [hnp]; exact hf))), Inv_same hI⟩
    · have e1 := (sp_V_clock n r h mi g m hp).trans ((if_pos hc).trans (if_neg hf))
      obtain ⟨m0, hm0⟩ : ∃ m0, m0 = fgN (bwr m 23 (m 17 9).toNat h) := ⟨_, rfl⟩
      rw [← hm0] at e1
      have o1 : ∀ i, i ≠ 101 → i ≠ 23 → m0 i = m i := fun i a b => by rw [hm0, fgN_o _ _ a, bwr_ne _ _ b]
      have ev : (addR m0 1 r mi (mi - (g % 100 - 9) - g / 100) (mi - (g % 100 - 9) + g / 100)) 133 6 = m 17 9 := by
        rw [addR_o _ _ _ _ _ _ _ (by decide), o1 133 (by decide) (by decide)]
        exact hnp
      have e2 := (sp_M_clock n r h mi g (addR m0 1 r mi (mi - (g % 100 - 9) - g / 100) (mi - (g % 100 - 9) + g / 100)) (by rw [ev]; exact hp)).trans ((if_pos hc).trans (if_neg (by rw [ev]; exact hf)))
      rw [ev] at e2
      refine ⟨_, _, _, e1, e2, Inv_row hI (hgt := h) o1 (fun k hk => ?_) (fun _ => ?_) hf (by decide) hc.1 (fun h => by omega) (by omega) (fun _ => ⟨by omega, by omega, rfl, by omega, by omega, by omega, by omega, rfl, rfl⟩) (fun h => by omega) (fun h => by omega) (NgtC_fg hN ?_ ?_ ?_ ?_)⟩
      · rw [hm0, fgN_o _ _ (by decide), bwr_ne2 _ (by omega)]
      · rw [hm0, fgN_o _ _ (by decide), bwr_eq2]
      · rw [addM_o _ _ _ _ _ _ _ _ (by decide), addR_o _ _ _ _ _ _ _ (by decide), hm0]
        simp (disch := omega) only [fgN, fgP, bwr_ne, bwr_ne2, bwr_eq2]
        exact i32_of (by omega) (by omega)
      · rw [addM_o _ _ _ _ _ _ _ _ (by decide), addR_o _ _ _ _ _ _ _ (by decide), hm0]
        simp (disch := omega) only [fgN, fgP, bwr_ne, bwr_ne2, bwr_eq2]
      · rw [addM_o _ _ _ _ _ _ _ _ (by decide), addR_o _ _ _ _ _ _ _ (by decide), hm0]
        simp (disch := omega) only [fgN, fgP, bwr_ne, bwr_ne2, bwr_eq2]
      · rw [addM_o _ _ _ _ _ _ _ _ (by decide), addR_o _ _ _ _ _ _ _ (by decide), o1 102 (by decide) (by decide)]
  · exact ⟨m, m, -1, (sp_V_clock n r h mi g m hp).trans (if_neg hc), (sp_M_clock n r h mi g m (by rw [hnp]; exact hp)).trans (if_neg hc), Inv_same hI⟩
theorem step_word {n i : Nat} {m : bM} (hI : Inv i m) (hi : i < 100) (e w f t : Int) : ∃ m1 m2 v, sem (n + 3) 10 [aR 0, aI e, aI w, aI f, aI t] m = some (m1, v) ∧ sem (n + 3) 68 [aR 132, aI e, aI w, aI f, aI t] m1 = some (m2, v) ∧ Inv (i + 1) m2 := by
  have hR := Inv_rel hI
  have hN := Inv_ngt hI
  have hage := NgtC_age hN
  have hp := RelS_rrows (Rel_s hR)
  have hnp := RelN_rows (Rel_n hR)
  by_cases hc : (0 ≤ e ∧ e ≤ 3) ∧ (1 ≤ w ∧ w ≤ 7) ∧ (0 ≤ f ∧ f ≤ 29) ∧ (f ≤ t ∧ t ≤ 29)
  · by_cases hf : m 17 9 = 16
    · exact ⟨m, m, -2, (sp_V_word n e w f t m hp).trans ((if_pos hc).trans (if_pos hf)), (sp_M_word n e w f t m (by rw [hnp]; exact hp)).trans ((if_pos hc).trans (if_pos (by rw [hnp]; exact hf))), Inv_same hI⟩
    · have e1 := (sp_V_word n e w f t m hp).trans ((if_pos hc).trans (if_neg hf))
      have ev : (addR (fgP m) 3 e w f t) 133 6 = m 17 9 := by
        rw [addR_o _ _ _ _ _ _ _ (by decide), fgP_o _ _ (by decide)]
        exact hnp
      have e2 := (sp_M_word n e w f t (addR (fgP m) 3 e w f t) (by rw [ev]; exact hp)).trans ((if_pos hc).trans (if_neg (by rw [ev]; exact hf)))
      rw [ev] at e2
      refine ⟨_, _, _, e1, e2, Inv_row hI (hgt := 0) (fun i h1 h2 => fgP_o m i h1) (fun k hk => by rw [fgP_o _ _ (by decide)]) (fun h => by omega) hf (by decide) (by omega) (fun h => by omega) (by omega) (fun h => by omega) (fun h => by omega) (fun _ => ⟨rfl, rfl⟩) ?_⟩
      obtain ⟨m2, hm2⟩ : ∃ m2, m2 = addM (addR (fgP m) 3 e w f t) 3 e w f t 0 := ⟨_, rfl⟩
      rw [← hm2]
      have oo : ∀ i, i ≠ 101 → (i ≤ 16 ∨ i = 23 ∨ 25 ≤ i) → (i ≤ 131 ∨ 134 ≤ i ∧ i ≤ 140 ∨ 148 ≤ i) → m2 i = m i := fun i a b c => by
        rw [hm2, addM_o _ _ _ _ _ _ _ _ c, addR_o _ _ _ _ _ _ _ b, fgP_o _ _ a]
      have g101 : m2 101 = fgP m 101 := by rw [hm2, addM_o _ _ _ _ _ _ _ _ (by decide), addR_o _ _ _ _ _ _ _ (by decide)]
      have e0 : fgP m 17 9 = m 17 9 := by simp (disch := omega) only [fgN, fgP, bwr_ne, bwr_ne2, bwr_eq2]
      have er : m2 17 9 = m 17 9 + 1 := by rw [hm2, addM_o _ _ _ _ _ _ _ _ (by decide), addR_r, e0]
      have kk : ∀ k, m2 18 k = if k = (m 17 9).toNat then 3 else m 18 k := fun k => by rw [hm2, addM_o _ _ _ _ _ _ _ _ (by decide), addR_18, e0, fgP_o _ _ (by decide)]
      have hV : agV m2 m := fun i a b => oo i (by omega) (by omega) (by omega)
      have hT : agT m2 m := ⟨oo 44 (by decide) (by decide) (by decide), oo 46 (by decide) (by decide) (by decide), by rw [oo 37 (by decide) (by decide) (by decide)]⟩
      obtain ⟨a1, a2, a3, a4, a5⟩ := hN
      have g1 : m2 101 13 = m 101 13 := by rw [g101]; simp (disch := omega) only [fgN, fgP, bwr_ne, bwr_ne2, bwr_eq2]
      refine ⟨?_, ?_, ?_, Or.inl (by rw [g101]; simp (disch := omega) only [fgN, fgP, bwr_ne, bwr_ne2, bwr_eq2]), Or.inl (by rw [g101]; simp (disch := omega) only [fgN, fgP, bwr_ne, bwr_ne2, bwr_eq2])⟩
      · rw [g1]; omega
      · rw [g1, oo 102 (by decide) (by decide) (by decide)]; exact a2
      · rw [g1, oo 102 (by decide) (by decide) (by decide)]
        intro q hq he
        obtain ⟨b1, b2, b3, b4⟩ := a3 q hq he
        have nR : nRw m2 = nRw m + 1 := by unfold nRw; rw [er]; omega
        have nR0 : nRw m = (m 17 9).toNat := rfl
        have fe : qFell m2 q = qFell m q := by funext x; exact qFell_congr hV q x
        refine ⟨?_, ?_, ?_, ?_⟩
        · rw [oo 103 (by decide) (by decide) (by decide), fe, nHs_congr hV]; exact b1
        · rw [oo 104 (by decide) (by decide) (by decide), b2, nR, bst_f]
          · congr 1
            apply bst_congr
            intro k hk
            have hk2 : k ≠ (m 17 9).toNat := by omega
            have p1 : m2 18 k = m 18 k := by rw [kk, if_neg hk2]
            rw [p1, rLet_pt hV p1 (by rw [hm2, addM_o _ _ _ _ _ _ _ _ (by decide), addR_19, e0, if_neg hk2, fgP_o _ _ (by decide)]) (by rw [hm2, addM_o _ _ _ _ _ _ _ _ (by decide), addR_20, e0, if_neg hk2, fgP_o _ _ (by decide)]) (by rw [hm2, addM_o _ _ _ _ _ _ _ _ (by decide), addR_21, e0, if_neg hk2, fgP_o _ _ (by decide)]) (by rw [hm2, addM_o _ _ _ _ _ _ _ _ (by decide), addR_22, e0, if_neg hk2, fgP_o _ _ (by decide)]) (by rw [oo 23 (by decide) (by decide) (by decide)])]
          · rw [nR0, kk, if_pos rfl]; simp
        · rw [oo 105 (by decide) (by decide) (by decide)]
          intro r hr
          rw [qDeep_congr hV]; exact b3 r hr
        · rw [oo 106 (by decide) (by decide) (by decide), nTh_congr hT]
          intro x hx
          rw [qRest_congr hV hT]; exact b4 x hx
  · exact ⟨m, m, -1, (sp_V_word n e w f t m hp).trans (if_neg hc), (sp_M_word n e w f t m (by rw [hnp]; exact hp)).trans (if_neg hc), Inv_same hI⟩
