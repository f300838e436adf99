/-! ===== rows of the round ===== -/
theorem sp_V_row (n : Nat) (i w : Int) (m : bM) (hp : 0 ≤ m 117 7 ∧ m 117 7 ≤ 7) : sem (n + 3) 42 [aR 0, aI i, aI w] m = if (0 ≤ i ∧ i < m 117 7) ∧ (0 ≤ w ∧ w ≤ 1) then some (m, if w = 0 then m 118 i.toNat else m 119 i.toNat) else some (m, -9) := by
  rw [st_V_row]
  simp only [B_V_row, kr_V_row, sp_within, d_rLoc1, d_rLoc2, d_rFld1, d_rFld2, d_eInt, d_eLdc, d_eLdw, d_eLoc, d_eFld, d_lFld, d_eAI, d_eAZ, d_eAB, d_lAL, d_eAD, d_eLen, d_eAdd, d_eSub, d_eMul, d_eAnd, d_eOr, d_eXor, d_eShl, d_eShr, d_eUsh, d_lAdd, d_lSub, d_lMul, d_lAnd, d_lOr, d_lXor, d_lShl, d_lShr, d_eDiv, d_eRem, d_eCmp, d_eI2B, d_eI2S, d_eL2I, d_lI2L, d_lInt, d_lLdc, d_lLoc, d_eIte, d_lIte, d_eMax, d_eMin, d_eAbs, d_eAbove, d_eBodies, d_cQ, d_cZ, d_cNot, d_cAnd, d_cOr, d_gNil, d_gI, d_gL, d_gR, d_gD, d_xV, d_xS, d_xN, d_xT, d_eCall, d_lCall, d_eCallC, d_sNop, d_sSet, d_sSetL, d_sSetR, d_sSetQ, d_sInc, d_sPutI, d_sPutZ, d_sPutL, d_sPutA, d_sPutAZ, d_sPutAB, d_sPutAL, d_sPutD, d_sOpF, d_sOpA, d_sCall, d_sCopy, d_sSeq, d_sIf, d_sBrk, d_sCnt, d_sRetV, d_sRet, d_sRetL, d_sLp, d_tDef, d_tCase, d_sSw, d_sSwB, bIt_d, itb_0, itb_1, itb_2, itb_r, its_0, sqk_0, sqk_1, sqk_2, sqk_r, swk_0, swk_1, swk_r, bfin_r, bfin_ite, Option.bind_some, Option.map_some, Option.bind_none, Option.map_none, bind_ite, map_ite, cop0, cop1, cop2, cop3, cop4, cop5, opv0, opv1, opv2, opv3, brc_i, brc_z, two_ne_one, false_or, getI, getR, getL, List.getElem?_cons_zero, List.getElem?_cons_succ, List.set_cons_zero, List.set_cons_succ, bnl, if_true, if_false, true_or, or_true, decide_eq_true_eq, Bool.not_eq_true', decide_eq_false_iff_not, Bool.not_true, Bool.not_false, Bool.true_eq_false, Bool.false_eq_true, ite_not, reduceIte, ite01_0, ite01_1, Decidable.not_not, ne_eq, not_true_eq_false, not_false_eq_true, decide_not, Bool.not_not, Bool.not_eq_false']
  have e : i32 (m 117 7 - 1) = m 117 7 - 1 := i32_of (by omega) (by omega)
  have e2 : (0 ≤ i ∧ i ≤ m 117 7 - 1) ↔ (0 ≤ i ∧ i < m 117 7) := by omega
  rw [e]
  simp only [e2]
  by_cases h1 : 0 ≤ i ∧ i < m 117 7 <;> by_cases h2 : 0 ≤ w ∧ w ≤ 1 <;> simp [h1, h2, bfin_r]
  have h3 : i < 7 := by omega
  by_cases h4 : w = 0 <;> simp [h1, h3, h4, bfin_r]
theorem sp_M_isCell (n : Nat) (i w : Int) (m : bM) (hp : 0 ≤ m 132 79 ∧ m 132 79 ≤ 7) : sem (n + 2) 238 [aR 132, aI i, aI w] m = some (m, if (0 ≤ i ∧ i < m 132 79) ∧ (0 ≤ w ∧ w ≤ 1) then 1 else 0) := by
  rw [st_M_isCell]
  simp only [B_M_isCell, kr_M_isCell, sp_in, d_rLoc1, d_rLoc2, d_rFld1, d_rFld2, d_eInt, d_eLdc, d_eLdw, d_eLoc, d_eFld, d_lFld, d_eAI, d_eAZ, d_eAB, d_lAL, d_eAD, d_eLen, d_eAdd, d_eSub, d_eMul, d_eAnd, d_eOr, d_eXor, d_eShl, d_eShr, d_eUsh, d_lAdd, d_lSub, d_lMul, d_lAnd, d_lOr, d_lXor, d_lShl, d_lShr, d_eDiv, d_eRem, d_eCmp, d_eI2B, d_eI2S, d_eL2I, d_lI2L, d_lInt, d_lLdc, d_lLoc, d_eIte, d_lIte, d_eMax, d_eMin, d_eAbs, d_eAbove, d_eBodies, d_cQ, d_cZ, d_cNot, d_cAnd, d_cOr, d_gNil, d_gI, d_gL, d_gR, d_gD, d_xV, d_xS, d_xN, d_xT, d_eCall, d_lCall, d_eCallC, d_sNop, d_sSet, d_sSetL, d_sSetR, d_sSetQ, d_sInc, d_sPutI, d_sPutZ, d_sPutL, d_sPutA, d_sPutAZ, d_sPutAB, d_sPutAL, d_sPutD, d_sOpF, d_sOpA, d_sCall, d_sCopy, d_sSeq, d_sIf, d_sBrk, d_sCnt, d_sRetV, d_sRet, d_sRetL, d_sLp, d_tDef, d_tCase, d_sSw, d_sSwB, bIt_d, itb_0, itb_1, itb_2, itb_r, its_0, sqk_0, sqk_1, sqk_2, sqk_r, swk_0, swk_1, swk_r, bfin_r, bfin_ite, Option.bind_some, Option.map_some, Option.bind_none, Option.map_none, bind_ite, map_ite, cop0, cop1, cop2, cop3, cop4, cop5, opv0, opv1, opv2, opv3, brc_i, brc_z, two_ne_one, false_or, getI, getR, getL, List.getElem?_cons_zero, List.getElem?_cons_succ, List.set_cons_zero, List.set_cons_succ, bnl, if_true, if_false, true_or, or_true, decide_eq_true_eq, Bool.not_eq_true', decide_eq_false_iff_not, Bool.not_true, Bool.not_false, Bool.true_eq_false, Bool.false_eq_true, ite_not, reduceIte, ite01_0, ite01_1, Decidable.not_not, ne_eq, not_true_eq_false, not_false_eq_true, decide_not, Bool.not_not, Bool.not_eq_false']
  have e : i32 (m 132 79 - 1) = m 132 79 - 1 := i32_of (by omega) (by omega)
  have e2 : (0 ≤ i ∧ i ≤ m 132 79 - 1) ↔ (0 ≤ i ∧ i < m 132 79) := by omega
  rw [e]
  simp only [e2]
  by_cases h1 : 0 ≤ i ∧ i < m 132 79 <;> by_cases h2 : 0 ≤ w ∧ w ≤ 1 <;> simp [h1, h2, bfin_r]
theorem sp_M_row (n : Nat) (i w : Int) (m : bM) (hp : 0 ≤ m 132 79 ∧ m 132 79 ≤ 7) : sem (n + 3) 100 [aR 132, aI i, aI w] m = if (0 ≤ i ∧ i < m 132 79) ∧ (0 ≤ w ∧ w ≤ 1) then some (m, if w = 0 then m 195 i.toNat else m 196 i.toNat) else some (m, -9) := by
  rw [st_M_row]
  simp only [B_M_row, kr_M_row, d_rLoc1, d_rLoc2, d_rFld1, d_rFld2, d_eInt, d_eLdc, d_eLdw, d_eLoc, d_eFld, d_lFld, d_eAI, d_eAZ, d_eAB, d_lAL, d_eAD, d_eLen, d_eAdd, d_eSub, d_eMul, d_eAnd, d_eOr, d_eXor, d_eShl, d_eShr, d_eUsh, d_lAdd, d_lSub, d_lMul, d_lAnd, d_lOr, d_lXor, d_lShl, d_lShr, d_eDiv, d_eRem, d_eCmp, d_eI2B, d_eI2S, d_eL2I, d_lI2L, d_lInt, d_lLdc, d_lLoc, d_eIte, d_lIte, d_eMax, d_eMin, d_eAbs, d_eAbove, d_eBodies, d_cQ, d_cZ, d_cNot, d_cAnd, d_cOr, d_gNil, d_gI, d_gL, d_gR, d_gD, d_xV, d_xS, d_xN, d_xT, d_eCall, d_lCall, d_eCallC, d_sNop, d_sSet, d_sSetL, d_sSetR, d_sSetQ, d_sInc, d_sPutI, d_sPutZ, d_sPutL, d_sPutA, d_sPutAZ, d_sPutAB, d_sPutAL, d_sPutD, d_sOpF, d_sOpA, d_sCall, d_sCopy, d_sSeq, d_sIf, d_sBrk, d_sCnt, d_sRetV, d_sRet, d_sRetL, d_sLp, d_tDef, d_tCase, d_sSw, d_sSwB, bIt_d, itb_0, itb_1, itb_2, itb_r, its_0, sqk_0, sqk_1, sqk_2, sqk_r, swk_0, swk_1, swk_r, bfin_r, bfin_ite, Option.bind_some, Option.map_some, Option.bind_none, Option.map_none, bind_ite, map_ite, cop0, cop1, cop2, cop3, cop4, cop5, opv0, opv1, opv2, opv3, brc_i, brc_z, two_ne_one, false_or, getI, getR, getL, List.getElem?_cons_zero, List.getElem?_cons_succ, List.set_cons_zero, List.set_cons_succ, bnl, if_true, if_false, true_or, or_true, decide_eq_true_eq, Bool.not_eq_true', decide_eq_false_iff_not, Bool.not_true, Bool.not_false, Bool.true_eq_false, Bool.false_eq_true, ite_not, reduceIte, ite01_0, ite01_1, Decidable.not_not, ne_eq, not_true_eq_false, not_false_eq_true, decide_not, Bool.not_not, Bool.not_eq_false']
  rw [sp_M_isCell _ _ _ _ hp]
  simp only [kr_M_row, d_rLoc1, d_rLoc2, d_rFld1, d_rFld2, d_eInt, d_eLdc, d_eLdw, d_eLoc, d_eFld, d_lFld, d_eAI, d_eAZ, d_eAB, d_lAL, d_eAD, d_eLen, d_eAdd, d_eSub, d_eMul, d_eAnd, d_eOr, d_eXor, d_eShl, d_eShr, d_eUsh, d_lAdd, d_lSub, d_lMul, d_lAnd, d_lOr, d_lXor, d_lShl, d_lShr, d_eDiv, d_eRem, d_eCmp, d_eI2B, d_eI2S, d_eL2I, d_lI2L, d_lInt, d_lLdc, d_lLoc, d_eIte, d_lIte, d_eMax, d_eMin, d_eAbs, d_eAbove, d_eBodies, d_cQ, d_cZ, d_cNot, d_cAnd, d_cOr, d_gNil, d_gI, d_gL, d_gR, d_gD, d_xV, d_xS, d_xN, d_xT, d_eCall, d_lCall, d_eCallC, d_sNop, d_sSet, d_sSetL, d_sSetR, d_sSetQ, d_sInc, d_sPutI, d_sPutZ, d_sPutL, d_sPutA, d_sPutAZ, d_sPutAB, d_sPutAL, d_sPutD, d_sOpF, d_sOpA, d_sCall, d_sCopy, d_sSeq, d_sIf, d_sBrk, d_sCnt, d_sRetV, d_sRet, d_sRetL, d_sLp, d_tDef, d_tCase, d_sSw, d_sSwB, bIt_d, itb_0, itb_1, itb_2, itb_r, its_0, sqk_0, sqk_1, sqk_2, sqk_r, swk_0, swk_1, swk_r, bfin_r, bfin_ite, Option.bind_some, Option.map_some, Option.bind_none, Option.map_none, bind_ite, map_ite, cop0, cop1, cop2, cop3, cop4, cop5, opv0, opv1, opv2, opv3, brc_i, brc_z, two_ne_one, false_or, getI, getR, getL, List.getElem?_cons_zero, List.getElem?_cons_succ, List.set_cons_zero, List.set_cons_succ, bnl, if_true, if_false, true_or, or_true, decide_eq_true_eq, Bool.not_eq_true', decide_eq_false_iff_not, Bool.not_true, Bool.not_false, Bool.true_eq_false, Bool.false_eq_true, ite_not, reduceIte, ite01_0, ite01_1, Decidable.not_not, ne_eq, not_true_eq_false, not_false_eq_true, decide_not, Bool.not_not, Bool.not_eq_false']
  by_cases h1 : (0 ≤ i ∧ i < m 132 79) ∧ (0 ≤ w ∧ w ≤ 1)
  · have h3 : i < 7 := by omega
    by_cases h4 : w = 0 <;> simp [h1.1.1, h1.1.2, h1.2, h3, h4, bfin_r]
  · simp only [h1]
    simp [bfin_r]
theorem step_row {n i : Nat} {m : bM} (hI : Inv i m) (hi : i < 100) (x w : Int) : ∃ m1 m2 v, sem (n + 3) 42 [aR 0, aI x, aI w] m = some (m1, v) ∧ sem (n + 3) 100 [aR 132, aI x, aI w] m1 = some (m2, v) ∧ Inv (i + 1) m2 := by
  have hR := Inv_rel hI
  have hN := Inv_ngt hI
  have hage := NgtC_age hN
  have hT := Inv_tour hI
  obtain ⟨t1, t2⟩ := TourOK_rows hT
  by_cases hc : (0 ≤ x ∧ x < m 117 7) ∧ (0 ≤ w ∧ w ≤ 1)
  · have e1 := (sp_V_row n x w m t2).trans (if_pos hc)
    have e2 := (sp_M_row n x w m (by rw [t1]; exact t2)).trans (if_pos (by rw [t1]; exact hc))
    rw [TourOK_claim hT _ (by omega), TourOK_day hT _ (by omega)] at e2
    exact ⟨_, _, _, e1, e2, Inv_same hI⟩
  · exact ⟨m, m, -9, (sp_V_row n x w m t2).trans (if_neg hc), (sp_M_row n x w m (by rw [t1]; exact t2)).trans (if_neg (by rw [t1]; exact hc)), Inv_same hI⟩
theorem sp_V_dropRow (n : Nat) (m : bM) (hp : 0 ≤ m 117 7 ∧ m 117 7 ≤ 7) : sem (n + 3) 44 [aR 0] m = if m 117 7 = 0 then some (m, -3) else some (bwr m 117 7 (m 117 7 - 1), m 117 7 - 1) := by
  rw [st_V_dropRow]
  simp only [B_V_dropRow, kr_V_dropRow, d_rLoc1, d_rLoc2, d_rFld1, d_rFld2, d_eInt, d_eLdc, d_eLdw, d_eLoc, d_eFld, d_lFld, d_eAI, d_eAZ, d_eAB, d_lAL, d_eAD, d_eLen, d_eAdd, d_eSub, d_eMul, d_eAnd, d_eOr, d_eXor, d_eShl, d_eShr, d_eUsh, d_lAdd, d_lSub, d_lMul, d_lAnd, d_lOr, d_lXor, d_lShl, d_lShr, d_eDiv, d_eRem, d_eCmp, d_eI2B, d_eI2S, d_eL2I, d_lI2L, d_lInt, d_lLdc, d_lLoc, d_eIte, d_lIte, d_eMax, d_eMin, d_eAbs, d_eAbove, d_eBodies, d_cQ, d_cZ, d_cNot, d_cAnd, d_cOr, d_gNil, d_gI, d_gL, d_gR, d_gD, d_xV, d_xS, d_xN, d_xT, d_eCall, d_lCall, d_eCallC, d_sNop, d_sSet, d_sSetL, d_sSetR, d_sSetQ, d_sInc, d_sPutI, d_sPutZ, d_sPutL, d_sPutA, d_sPutAZ, d_sPutAB, d_sPutAL, d_sPutD, d_sOpF, d_sOpA, d_sCall, d_sCopy, d_sSeq, d_sIf, d_sBrk, d_sCnt, d_sRetV, d_sRet, d_sRetL, d_sLp, d_tDef, d_tCase, d_sSw, d_sSwB, bIt_d, itb_0, itb_1, itb_2, itb_r, its_0, sqk_0, sqk_1, sqk_2, sqk_r, swk_0, swk_1, swk_r, bfin_r, bfin_ite, Option.bind_some, Option.map_some, Option.bind_none, Option.map_none, bind_ite, map_ite, cop0, cop1, cop2, cop3, cop4, cop5, opv0, opv1, opv2, opv3, brc_i, brc_z, two_ne_one, false_or, getI, getR, getL, List.getElem?_cons_zero, List.getElem?_cons_succ, List.set_cons_zero, List.set_cons_succ, bnl, if_true, if_false, true_or, or_true, decide_eq_true_eq, Bool.not_eq_true', decide_eq_false_iff_not, Bool.not_true, Bool.not_false, Bool.true_eq_false, Bool.false_eq_true, ite_not, reduceIte, ite01_0, ite01_1, Decidable.not_not, ne_eq, not_true_eq_false, not_false_eq_true, decide_not, Bool.not_not, Bool.not_eq_false']
  rw [i32_of (by omega) (by omega)]
  by_cases h : m 117 7 = 0 <;> simp [h, bfin_r, bwr_eq2]
theorem sp_M_dropRow (n : Nat) (m : bM) (hp : 0 ≤ m 132 79 ∧ m 132 79 ≤ 7) : sem (n + 3) 102 [aR 132] m = if m 132 79 = 0 then some (m, -3) else some (bwr m 132 79 (m 132 79 - 1), m 132 79 - 1) := by
  rw [st_M_dropRow]
  simp only [B_M_dropRow, kr_M_dropRow, d_rLoc1, d_rLoc2, d_rFld1, d_rFld2, d_eInt, d_eLdc, d_eLdw, d_eLoc, d_eFld, d_lFld, d_eAI, d_eAZ, d_eAB, d_lAL, d_eAD, d_eLen, d_eAdd, d_eSub, d_eMul, d_eAnd, d_eOr, d_eXor, d_eShl, d_eShr, d_eUsh, d_lAdd, d_lSub, d_lMul, d_lAnd, d_lOr, d_lXor, d_lShl, d_lShr, d_eDiv, d_eRem, d_eCmp, d_eI2B, d_eI2S, d_eL2I, d_lI2L, d_lInt, d_lLdc, d_lLoc, d_eIte, d_lIte, d_eMax, d_eMin, d_eAbs, d_eAbove, d_eBodies, d_cQ, d_cZ, d_cNot, d_cAnd, d_cOr, d_gNil, d_gI, d_gL, d_gR, d_gD, d_xV, d_xS, d_xN, d_xT, d_eCall, d_lCall, d_eCallC, d_sNop, d_sSet, d_sSetL, d_sSetR, d_sSetQ, d_sInc, d_sPutI, d_sPutZ, d_sPutL, d_sPutA, d_sPutAZ, d_sPutAB, d_sPutAL, d_sPutD, d_sOpF, d_sOpA, d_sCall, d_sCopy, d_sSeq, d_sIf, d_sBrk, d_sCnt, d_sRetV, d_sRet, d_sRetL, d_sLp, d_tDef, d_tCase, d_sSw, d_sSwB, bIt_d, itb_0, itb_1, itb_2, itb_r, its_0, sqk_0, sqk_1, sqk_2, sqk_r, swk_0, swk_1, swk_r, bfin_r, bfin_ite, Option.bind_some, Option.map_some, Option.bind_none, Option.map_none, bind_ite, map_ite, cop0, cop1, cop2, cop3, cop4, cop5, opv0, opv1, opv2, opv3, brc_i, brc_z, two_ne_one, false_or, getI, getR, getL, List.getElem?_cons_zero, List.getElem?_cons_succ, List.set_cons_zero, List.set_cons_succ, bnl, if_true, if_false, true_or, or_true, decide_eq_true_eq, Bool.not_eq_true', decide_eq_false_iff_not, Bool.not_true, Bool.not_false, Bool.true_eq_false, Bool.false_eq_true, ite_not, reduceIte, ite01_0, ite01_1, Decidable.not_not, ne_eq, not_true_eq_false, not_false_eq_true, decide_not, Bool.not_not, Bool.not_eq_false']
  rw [i32_of (by omega) (by omega)]
  by_cases h : m 132 79 = 0 <;> simp [h, bfin_r, bwr_eq2]
/-- the invariant where only the round's rows changed -/
theorem Inv_tr {i : Nat} {m m2 : bM} (hI : Inv i m) (ho : ∀ i, i ≠ 117 → i ≠ 118 → i ≠ 119 → i ≠ 132 → i ≠ 195 → i ≠ 196 → m2 i = m i) (hM : ∀ k, k ≠ 78 → k ≠ 79 → k ≠ 80 → k ≠ 81 → k ≠ 82 → k ≠ 83 → m2 132 k = m 132 k) (ht : TourOK m2) : Inv (i + 1) m2 := by
  have hR := Inv_rel hI
  have hN := Inv_ngt hI
  obtain ⟨k1, k2⟩ := Inv_kept hI
  have ec : kC m2 = kC m ∨ True := Or.inr trivial
  refine ⟨Rel_congr hR (fun i a b => ho i (by omega) (by omega) (by omega) (by omega) (by omega) (by omega)) (fun i a b => ho i (by omega) (by omega) (by omega) (by omega) (by omega) (by omega)), ?_, NgtC_congr hN (fun i a b => ho i (by omega) (by omega) (by omega) (by omega) (by omega) (by omega)) ⟨⟨fun i a b => ho i (by omega) (by omega) (by omega) (by omega) (by omega) (by omega), by rw [ho 17 (by decide) (by decide) (by decide) (by decide) (by decide) (by decide)]⟩, ho 24 (by decide) (by decide) (by decide) (by decide) (by decide) (by decide), ho 26 (by decide) (by decide) (by decide) (by decide) (by decide) (by decide)⟩ ⟨ho 44 (by decide) (by decide) (by decide) (by decide) (by decide) (by decide), ho 46 (by decide) (by decide) (by decide) (by decide) (by decide) (by decide), by rw [ho 37 (by decide) (by decide) (by decide) (by decide) (by decide) (by decide)]⟩ (fun i a b => ho i (by omega) (by omega) (by omega) (by omega) (by omega) (by omega)), ?_, HostOK_congr (Inv_host hI) (fun i a b => ho i (by omega) (by omega) (by omega) (by omega) (by omega) (by omega)) (fun i a b => ho i (by omega) (by omega) (by omega) (by omega) (by omega) (by omega)) (hM 91 (by decide) (by decide) (by decide) (by decide) (by decide) (by decide)), ht, TapeOK_congr (Inv_tape hI) (by rw [ho 109 (by decide) (by decide) (by decide) (by decide) (by decide) (by decide)]) (ho 110 (by decide) (by decide) (by decide) (by decide) (by decide) (by decide)) (ho 192 (by decide) (by decide) (by decide) (by decide) (by decide) (by decide)) (hM 65 (by decide) (by decide) (by decide) (by decide) (by decide) (by decide))⟩
  · rw [hM 47 (by decide) (by decide) (by decide) (by decide) (by decide) (by decide), ho 0 (by decide) (by decide) (by decide) (by decide) (by decide) (by decide)]
    refine ⟨k1, k2.imp id (fun q => ⟨q.1, ?_⟩)⟩
    refine Rel_congr q.2 (fun i a b => ?_) (fun i a b => ?_)
    · show m2 (kcell i) = m (kcell i)
      have : kcell i ≤ 105 ∧ 9 ≤ kcell i := by unfold kcell; split <;> (try split) <;> (try split) <;> (try split) <;> omega
      exact ho _ (by omega) (by omega) (by omega) (by omega) (by omega) (by omega)
    · unfold kR
      rw [ho 178 (by decide) (by decide) (by decide) (by decide) (by decide) (by decide)]
  · rw [hM 53 (by decide) (by decide) (by decide) (by decide) (by decide) (by decide)]
    refine (Inv_fresh hI).imp id (fun q => ⟨q.1, NgtR_congr q.2 (fun i a b => ho i (by omega) (by omega) (by omega) (by omega) (by omega) (by omega)) ⟨⟨fun i a b => ho i (by omega) (by omega) (by omega) (by omega) (by omega) (by omega), by rw [ho 17 (by decide) (by decide) (by decide) (by decide) (by decide) (by decide)]⟩, ho 24 (by decide) (by decide) (by decide) (by decide) (by decide) (by decide), ho 26 (by decide) (by decide) (by decide) (by decide) (by decide) (by decide)⟩ ⟨ho 44 (by decide) (by decide) (by decide) (by decide) (by decide) (by decide), ho 46 (by decide) (by decide) (by decide) (by decide) (by decide) (by decide), by rw [ho 37 (by decide) (by decide) (by decide) (by decide) (by decide) (by decide)]⟩ ⟨ho 45 (by decide) (by decide) (by decide) (by decide) (by decide) (by decide), ho 48 (by decide) (by decide) (by decide) (by decide) (by decide) (by decide), ho 49 (by decide) (by decide) (by decide) (by decide) (by decide) (by decide), by rw [ho 37 (by decide) (by decide) (by decide) (by decide) (by decide) (by decide)]⟩ (hM 59 (by decide) (by decide) (by decide) (by decide) (by decide) (by decide)) (fun i a b => ho i (by omega) (by omega) (by omega) (by omega) (by omega) (by omega))⟩)
theorem step_dropRow {n i : Nat} {m : bM} (hI : Inv i m) (hi : i < 100) : ∃ m1 m2 v, sem (n + 3) 44 [aR 0] m = some (m1, v) ∧ sem (n + 3) 102 [aR 132] m1 = some (m2, v) ∧ Inv (i + 1) m2 := by
  have hT := Inv_tour hI
  obtain ⟨t1, t2⟩ := TourOK_rows hT
  by_cases hc : m 117 7 = 0
  · exact ⟨m, m, -3, (sp_V_dropRow n m t2).trans (if_pos hc), (sp_M_dropRow n m (by rw [t1]; exact t2)).trans (if_pos (by rw [t1]; exact hc)), Inv_same hI⟩
  · have e1 := (sp_V_dropRow n m t2).trans (if_neg hc)
    have ev : (bwr m 117 7 (m 117 7 - 1)) 132 79 = m 117 7 := by simp (disch := omega) only [fgN, fgP, bwr_ne, bwr_ne2, bwr_eq2]; exact t1
    have e2 := (sp_M_dropRow n (bwr m 117 7 (m 117 7 - 1)) (by rw [ev]; exact t2)).trans (if_neg (by rw [ev]; exact hc))
    rw [ev] at e2
    refine ⟨_, _, _, e1, e2, Inv_tr hI (fun i a b c d e f => by simp (disch := omega) only [fgN, fgP, bwr_ne, bwr_ne2, bwr_eq2]) (fun k a b c d e f => by simp (disch := omega) only [fgN, fgP, bwr_ne, bwr_ne2, bwr_eq2]) ?_⟩
    obtain ⟨v1, v2, v3, v4⟩ := hT
    refine ⟨?_, ?_, ?_, ?_⟩
    · exact ⟨by simp (disch := omega) only [fgN, fgP, bwr_ne, bwr_ne2, bwr_eq2], by simp (disch := omega) only [fgN, fgP, bwr_ne, bwr_ne2, bwr_eq2]; omega, by simp (disch := omega) only [fgN, fgP, bwr_ne, bwr_ne2, bwr_eq2]; omega⟩
    · simp (disch := omega) only [fgN, fgP, bwr_ne, bwr_ne2, bwr_eq2]
      exact v2
    · simp (disch := omega) only [fgN, fgP, bwr_ne, bwr_ne2, bwr_eq2]
      exact v3
    · simp (disch := omega) only [fgN, fgP, bwr_ne, bwr_ne2, bwr_eq2]
      rcases v4 with h | h
      · exact absurd h.2.2 hc
      · exact Or.inr ⟨h.1, h.2.1, h.2.2.1, h.2.2.2.1, h.2.2.2.2.1, h.2.2.2.2.2.1, h.2.2.2.2.2.2.1, h.2.2.2.2.2.2.2.1, h.2.2.2.2.2.2.2.2.1, h.2.2.2.2.2.2.2.2.2.1, by have := h.2.2.2.2.2.2.2.2.2.2.1; omega, h.2.2.2.2.2.2.2.2.2.2.2⟩
theorem bln_118 : bln 118 = 7 := rfl
theorem bln_119 : bln 119 = 7 := rfl
theorem sp_V_alterRow (n : Nat) (i w v : Int) (m : bM) (hp : 0 ≤ m 117 7 ∧ m 117 7 ≤ 7) : sem (n + 3) 43 [aR 0, aI i, aI w, aI v] m = if (0 ≤ i ∧ i < m 117 7) ∧ (0 ≤ w ∧ w ≤ 1) then (if w = 0 then some (bwr m 118 i.toNat v, m 118 i.toNat) else some (bwr m 119 i.toNat v, m 119 i.toNat)) else some (m, -9) := by
  rw [st_V_alterRow]
  simp only [B_V_alterRow, kr_V_alterRow, sp_within, d_rLoc1, d_rLoc2, d_rFld1, d_rFld2, d_eInt, d_eLdc, d_eLdw, d_eLoc, d_eFld, d_lFld, d_eAI, d_eAZ, d_eAB, d_lAL, d_eAD, d_eLen, d_eAdd, d_eSub, d_eMul, d_eAnd, d_eOr, d_eXor, d_eShl, d_eShr, d_eUsh, d_lAdd, d_lSub, d_lMul, d_lAnd, d_lOr, d_lXor, d_lShl, d_lShr, d_eDiv, d_eRem, d_eCmp, d_eI2B, d_eI2S, d_eL2I, d_lI2L, d_lInt, d_lLdc, d_lLoc, d_eIte, d_lIte, d_eMax, d_eMin, d_eAbs, d_eAbove, d_eBodies, d_cQ, d_cZ, d_cNot, d_cAnd, d_cOr, d_gNil, d_gI, d_gL, d_gR, d_gD, d_xV, d_xS, d_xN, d_xT, d_eCall, d_lCall, d_eCallC, d_sNop, d_sSet, d_sSetL, d_sSetR, d_sSetQ, d_sInc, d_sPutI, d_sPutZ, d_sPutL, d_sPutA, d_sPutAZ, d_sPutAB, d_sPutAL, d_sPutD, d_sOpF, d_sOpA, d_sCall, d_sCopy, d_sSeq, d_sIf, d_sBrk, d_sCnt, d_sRetV, d_sRet, d_sRetL, d_sLp, d_tDef, d_tCase, d_sSw, d_sSwB, bIt_d, itb_0, itb_1, itb_2, itb_r, its_0, sqk_0, sqk_1, sqk_2, sqk_r, swk_0, swk_1, swk_r, bfin_r, bfin_ite, Option.bind_some, Option.map_some, Option.bind_none, Option.map_none, bind_ite, map_ite, cop0, cop1, cop2, cop3, cop4, cop5, opv0, opv1, opv2, opv3, brc_i, brc_z, two_ne_one, false_or, getI, getR, getL, List.getElem?_cons_zero, List.getElem?_cons_succ, List.set_cons_zero, List.set_cons_succ, bnl, if_true, if_false, true_or, or_true, decide_eq_true_eq, Bool.not_eq_true', decide_eq_false_iff_not, Bool.not_true, Bool.not_false, Bool.true_eq_false, Bool.false_eq_true, ite_not, reduceIte, ite01_0, ite01_1, Decidable.not_not, ne_eq, not_true_eq_false, not_false_eq_true, decide_not, Bool.not_not, Bool.not_eq_false']
  have e : i32 (m 117 7 - 1) = m 117 7 - 1 := i32_of (by omega) (by omega)
  have e2 : (0 ≤ i ∧ i ≤ m 117 7 - 1) ↔ (0 ≤ i ∧ i < m 117 7) := by omega
  rw [e]
  simp only [e2]
  by_cases h1 : 0 ≤ i ∧ i < m 117 7 <;> by_cases h2 : 0 ≤ w ∧ w ≤ 1 <;> simp [h1, h2, bfin_r]
  have h3 : i < 7 := by omega
  by_cases h4 : w = 0 <;> simp [h1, h3, h4, bfin_r, bln_118, bln_119]
theorem sp_M_alterRow (n : Nat) (i w v : Int) (m : bM) (hp : 0 ≤ m 132 79 ∧ m 132 79 ≤ 7) : sem (n + 4) 101 [aR 132, aI i, aI w, aI v] m = if (0 ≤ i ∧ i < m 132 79) ∧ (0 ≤ w ∧ w ≤ 1) then (if w = 0 then some (bwr m 195 i.toNat v, m 195 i.toNat) else some (bwr m 196 i.toNat v, m 196 i.toNat)) else some (m, -9) := by
  rw [st_M_alterRow]
  simp only [B_M_alterRow, kr_M_alterRow, d_rLoc1, d_rLoc2, d_rFld1, d_rFld2, d_eInt, d_eLdc, d_eLdw, d_eLoc, d_eFld, d_lFld, d_eAI, d_eAZ, d_eAB, d_lAL, d_eAD, d_eLen, d_eAdd, d_eSub, d_eMul, d_eAnd, d_eOr, d_eXor, d_eShl, d_eShr, d_eUsh, d_lAdd, d_lSub, d_lMul, d_lAnd, d_lOr, d_lXor, d_lShl, d_lShr, d_eDiv, d_eRem, d_eCmp, d_eI2B, d_eI2S, d_eL2I, d_lI2L, d_lInt, d_lLdc, d_lLoc, d_eIte, d_lIte, d_eMax, d_eMin, d_eAbs, d_eAbove, d_eBodies, d_cQ, d_cZ, d_cNot, d_cAnd, d_cOr, d_gNil, d_gI, d_gL, d_gR, d_gD, d_xV, d_xS, d_xN, d_xT, d_eCall, d_lCall, d_eCallC, d_sNop, d_sSet, d_sSetL, d_sSetR, d_sSetQ, d_sInc, d_sPutI, d_sPutZ, d_sPutL, d_sPutA, d_sPutAZ, d_sPutAB, d_sPutAL, d_sPutD, d_sOpF, d_sOpA, d_sCall, d_sCopy, d_sSeq, d_sIf, d_sBrk, d_sCnt, d_sRetV, d_sRet, d_sRetL, d_sLp, d_tDef, d_tCase, d_sSw, d_sSwB, bIt_d, itb_0, itb_1, itb_2, itb_r, its_0, sqk_0, sqk_1, sqk_2, sqk_r, swk_0, swk_1, swk_r, bfin_r, bfin_ite, Option.bind_some, Option.map_some, Option.bind_none, Option.map_none, bind_ite, map_ite, cop0, cop1, cop2, cop3, cop4, cop5, opv0, opv1, opv2, opv3, brc_i, brc_z, two_ne_one, false_or, getI, getR, getL, List.getElem?_cons_zero, List.getElem?_cons_succ, List.set_cons_zero, List.set_cons_succ, bnl, if_true, if_false, true_or, or_true, decide_eq_true_eq, Bool.not_eq_true', decide_eq_false_iff_not, Bool.not_true, Bool.not_false, Bool.true_eq_false, Bool.false_eq_true, ite_not, reduceIte, ite01_0, ite01_1, Decidable.not_not, ne_eq, not_true_eq_false, not_false_eq_true, decide_not, Bool.not_not, Bool.not_eq_false']
  rw [sp_M_isCell _ _ _ _ hp]
  simp only [kr_M_alterRow, d_rLoc1, d_rLoc2, d_rFld1, d_rFld2, d_eInt, d_eLdc, d_eLdw, d_eLoc, d_eFld, d_lFld, d_eAI, d_eAZ, d_eAB, d_lAL, d_eAD, d_eLen, d_eAdd, d_eSub, d_eMul, d_eAnd, d_eOr, d_eXor, d_eShl, d_eShr, d_eUsh, d_lAdd, d_lSub, d_lMul, d_lAnd, d_lOr, d_lXor, d_lShl, d_lShr, d_eDiv, d_eRem, d_eCmp, d_eI2B, d_eI2S, d_eL2I, d_lI2L, d_lInt, d_lLdc, d_lLoc, d_eIte, d_lIte, d_eMax, d_eMin, d_eAbs, d_eAbove, d_eBodies, d_cQ, d_cZ, d_cNot, d_cAnd, d_cOr, d_gNil, d_gI, d_gL, d_gR, d_gD, d_xV, d_xS, d_xN, d_xT, d_eCall, d_lCall, d_eCallC, d_sNop, d_sSet, d_sSetL, d_sSetR, d_sSetQ, d_sInc, d_sPutI, d_sPutZ, d_sPutL, d_sPutA, d_sPutAZ, d_sPutAB, d_sPutAL, d_sPutD, d_sOpF, d_sOpA, d_sCall, d_sCopy, d_sSeq, d_sIf, d_sBrk, d_sCnt, d_sRetV, d_sRet, d_sRetL, d_sLp, d_tDef, d_tCase, d_sSw, d_sSwB, bIt_d, itb_0, itb_1, itb_2, itb_r, its_0, sqk_0, sqk_1, sqk_2, sqk_r, swk_0, swk_1, swk_r, bfin_r, bfin_ite, Option.bind_some, Option.map_some, Option.bind_none, Option.map_none, bind_ite, map_ite, cop0, cop1, cop2, cop3, cop4, cop5, opv0, opv1, opv2, opv3, brc_i, brc_z, two_ne_one, false_or, getI, getR, getL, List.getElem?_cons_zero, List.getElem?_cons_succ, List.set_cons_zero, List.set_cons_succ, bnl, if_true, if_false, true_or, or_true, decide_eq_true_eq, Bool.not_eq_true', decide_eq_false_iff_not, Bool.not_true, Bool.not_false, Bool.true_eq_false, Bool.false_eq_true, ite_not, reduceIte, ite01_0, ite01_1, Decidable.not_not, ne_eq, not_true_eq_false, not_false_eq_true, decide_not, Bool.not_not, Bool.not_eq_false']
  by_cases h1 : (0 ≤ i ∧ i < m 132 79) ∧ (0 ≤ w ∧ w ≤ 1)
  · have h3 : i < 7 := by omega
    rw [sp_M_row _ _ _ _ hp, if_pos h1]
    simp only [kr_M_alterRow, d_rLoc1, d_rLoc2, d_rFld1, d_rFld2, d_eInt, d_eLdc, d_eLdw, d_eLoc, d_eFld, d_lFld, d_eAI, d_eAZ, d_eAB, d_lAL, d_eAD, d_eLen, d_eAdd, d_eSub, d_eMul, d_eAnd, d_eOr, d_eXor, d_eShl, d_eShr, d_eUsh, d_lAdd, d_lSub, d_lMul, d_lAnd, d_lOr, d_lXor, d_lShl, d_lShr, d_eDiv, d_eRem, d_eCmp, d_eI2B, d_eI2S, d_eL2I, d_lI2L, d_lInt, d_lLdc, d_lLoc, d_eIte, d_lIte, d_eMax, d_eMin, d_eAbs, d_eAbove, d_eBodies, d_cQ, d_cZ, d_cNot, d_cAnd, d_cOr, d_gNil, d_gI, d_gL, d_gR, d_gD, d_xV, d_xS, d_xN, d_xT, d_eCall, d_lCall, d_eCallC, d_sNop, d_sSet, d_sSetL, d_sSetR, d_sSetQ, d_sInc, d_sPutI, d_sPutZ, d_sPutL, d_sPutA, d_sPutAZ, d_sPutAB, d_sPutAL, d_sPutD, d_sOpF, d_sOpA, d_sCall, d_sCopy, d_sSeq, d_sIf, d_sBrk, d_sCnt, d_sRetV, d_sRet, d_sRetL, d_sLp, d_tDef, d_tCase, d_sSw, d_sSwB, bIt_d, itb_0, itb_1, itb_2, itb_r, its_0, sqk_0, sqk_1, sqk_2, sqk_r, swk_0, swk_1, swk_r, bfin_r, bfin_ite, Option.bind_some, Option.map_some, Option.bind_none, Option.map_none, bind_ite, map_ite, cop0, cop1, cop2, cop3, cop4, cop5, opv0, opv1, opv2, opv3, brc_i, brc_z, two_ne_one, false_or, getI, getR, getL, List.getElem?_cons_zero, List.getElem?_cons_succ, List.set_cons_zero, List.set_cons_succ, bnl, if_true, if_false, true_or, or_true, decide_eq_true_eq, Bool.not_eq_true', decide_eq_false_iff_not, Bool.not_true, Bool.not_false, Bool.true_eq_false, Bool.false_eq_true, ite_not, reduceIte, ite01_0, ite01_1, Decidable.not_not, ne_eq, not_true_eq_false, not_false_eq_true, decide_not, Bool.not_not, Bool.not_eq_false']
    by_cases h4 : w = 0 <;> simp [h1.1.1, h1.1.2, h1.2, h3, h4, bfin_r]
  · simp only [h1]
    simp [bfin_r]
theorem step_alterRow {n i : Nat} {m : bM} (hI : Inv i m) (hi : i < 100) (x w z : Int) : ∃ m1 m2 v, sem (n + 4) 43 [aR 0, aI x, aI w, aI z] m = some (m1, v) ∧ sem (n + 4) 101 [aR 132, aI x, aI w, aI z] m1 = some (m2, v) ∧ Inv (i + 1) m2 := by
  have hR := Inv_rel hI
  have hN := Inv_ngt hI
  have hage := NgtC_age hN
  have hT := Inv_tour hI
  obtain ⟨t1, t2⟩ := TourOK_rows hT
  by_cases hc : (0 ≤ x ∧ x < m 117 7) ∧ (0 ≤ w ∧ w ≤ 1)
  · have ec := TourOK_claim hT x.toNat (by omega)
    have ed := TourOK_day hT x.toNat (by omega)
    have hj : x.toNat < 7 := by omega
    by_cases hw : w = 0
    · have e1 := (sp_V_alterRow (n + 1) x w z m t2).trans ((if_pos hc).trans (if_pos hw))
      have ev : (bwr m 118 x.toNat z) 132 79 = m 117 7 := by simp (disch := omega) only [fgN, fgP, bwr_ne, bwr_ne2, bwr_eq2]; exact t1
      have e2 := (sp_M_alterRow n x w z (bwr m 118 x.toNat z) (by rw [ev]; exact t2)).trans ((if_pos (by rw [ev]; exact hc)).trans (if_pos hw))
      rw [bwr_ne _ _ (show 195 ≠ 118 by decide), ec] at e2
      generalize hj2 : x.toNat = j at *
      refine ⟨_, _, _, e1, e2, Inv_tr hI (fun i a b c d e f => by simp (disch := omega) only [fgN, fgP, bwr_ne, bwr_ne2, bwr_eq2]) (fun k a b c d e f => by simp (disch := omega) only [fgN, fgP, bwr_ne, bwr_ne2, bwr_eq2]) ?_⟩
      obtain ⟨v1, v2, v3, v4⟩ := hT
      refine ⟨?_, ?_, ?_, ?_⟩
      · simp (disch := omega) only [fgN, fgP, bwr_ne, bwr_ne2, bwr_eq2]
        exact v1
      · intro k hk
        simp (disch := omega) only [bwr_ne, bwr_if]
        split
        · rfl
        · exact v2 k hk
      · simp (disch := omega) only [fgN, fgP, bwr_ne, bwr_ne2, bwr_eq2]
        exact v3
      · simp (disch := omega) only [fgN, fgP, bwr_ne, bwr_ne2, bwr_eq2]
        exact v4
    · have e1 := (sp_V_alterRow (n + 1) x w z m t2).trans ((if_pos hc).trans (if_neg hw))
      have ev : (bwr m 119 x.toNat z) 132 79 = m 117 7 := by simp (disch := omega) only [fgN, fgP, bwr_ne, bwr_ne2, bwr_eq2]; exact t1
      have e2 := (sp_M_alterRow n x w z (bwr m 119 x.toNat z) (by rw [ev]; exact t2)).trans ((if_pos (by rw [ev]; exact hc)).trans (if_neg hw))
      rw [bwr_ne _ _ (show 196 ≠ 119 by decide), ed] at e2
      generalize hj2 : x.toNat = j at *
      refine ⟨_, _, _, e1, e2, Inv_tr hI (fun i a b c d e f => by simp (disch := omega) only [fgN, fgP, bwr_ne, bwr_ne2, bwr_eq2]) (fun k a b c d e f => by simp (disch := omega) only [fgN, fgP, bwr_ne, bwr_ne2, bwr_eq2]) ?_⟩
      obtain ⟨v1, v2, v3, v4⟩ := hT
      refine ⟨?_, ?_, ?_, ?_⟩
      · simp (disch := omega) only [fgN, fgP, bwr_ne, bwr_ne2, bwr_eq2]
        exact v1
      · simp (disch := omega) only [fgN, fgP, bwr_ne, bwr_ne2, bwr_eq2]
        exact v2
      · intro k hk
        simp (disch := omega) only [bwr_ne, bwr_if]
        split
        · rfl
        · exact v3 k hk
      · simp (disch := omega) only [fgN, fgP, bwr_ne, bwr_ne2, bwr_eq2]
        exact v4
  · exact ⟨m, m, -9, (sp_V_alterRow (n + 1) x w z m t2).trans (if_neg hc), (sp_M_alterRow n x w z m (by rw [t1]; exact t2)).trans (if_neg (by rw [t1]; exact hc)), Inv_same hI⟩
theorem sp_V_trace (n : Nat) (x : Int) (m : bM) (hp : 0 ≤ m 124 11 ∧ m 124 11 ≤ 30) : sem (n + 3) 54 [aR 0, aI x] m = some (m, if 0 ≤ x ∧ x < m 124 11 then m 131 x.toNat else -3) := by
  rw [st_V_trace]
  simp only [B_V_trace, kr_V_trace, sp_within, d_rLoc1, d_rLoc2, d_rFld1, d_rFld2, d_eInt, d_eLdc, d_eLdw, d_eLoc, d_eFld, d_lFld, d_eAI, d_eAZ, d_eAB, d_lAL, d_eAD, d_eLen, d_eAdd, d_eSub, d_eMul, d_eAnd, d_eOr, d_eXor, d_eShl, d_eShr, d_eUsh, d_lAdd, d_lSub, d_lMul, d_lAnd, d_lOr, d_lXor, d_lShl, d_lShr, d_eDiv, d_eRem, d_eCmp, d_eI2B, d_eI2S, d_eL2I, d_lI2L, d_lInt, d_lLdc, d_lLoc, d_eIte, d_lIte, d_eMax, d_eMin, d_eAbs, d_eAbove, d_eBodies, d_cQ, d_cZ, d_cNot, d_cAnd, d_cOr, d_gNil, d_gI, d_gL, d_gR, d_gD, d_xV, d_xS, d_xN, d_xT, d_eCall, d_lCall, d_eCallC, d_sNop, d_sSet, d_sSetL, d_sSetR, d_sSetQ, d_sInc, d_sPutI, d_sPutZ, d_sPutL, d_sPutA, d_sPutAZ, d_sPutAB, d_sPutAL, d_sPutD, d_sOpF, d_sOpA, d_sCall, d_sCopy, d_sSeq, d_sIf, d_sBrk, d_sCnt, d_sRetV, d_sRet, d_sRetL, d_sLp, d_tDef, d_tCase, d_sSw, d_sSwB, bIt_d, itb_0, itb_1, itb_2, itb_r, its_0, sqk_0, sqk_1, sqk_2, sqk_r, swk_0, swk_1, swk_r, bfin_r, bfin_ite, Option.bind_some, Option.map_some, Option.bind_none, Option.map_none, bind_ite, map_ite, cop0, cop1, cop2, cop3, cop4, cop5, opv0, opv1, opv2, opv3, brc_i, brc_z, two_ne_one, false_or, getI, getR, getL, List.getElem?_cons_zero, List.getElem?_cons_succ, List.set_cons_zero, List.set_cons_succ, bnl, if_true, if_false, true_or, or_true, decide_eq_true_eq, Bool.not_eq_true', decide_eq_false_iff_not, Bool.not_true, Bool.not_false, Bool.true_eq_false, Bool.false_eq_true, ite_not, reduceIte, ite01_0, ite01_1, Decidable.not_not, ne_eq, not_true_eq_false, not_false_eq_true, decide_not, Bool.not_not, Bool.not_eq_false']
  have e : i32 (m 124 11 - 1) = m 124 11 - 1 := i32_of (by omega) (by omega)
  have e2 : (0 ≤ x ∧ x ≤ m 124 11 - 1) ↔ (0 ≤ x ∧ x < m 124 11) := by omega
  rw [e]
  simp only [e2]
  by_cases h1 : 0 ≤ x ∧ x < m 124 11
  · have h3 : x < 30 := by omega
    simp [h1, h3, bfin_r]
  · simp [h1, bfin_r]
theorem sp_M_trace (n : Nat) (x : Int) (m : bM) (hp : 0 ≤ m 132 91 ∧ m 132 91 ≤ 30) : sem (n + 3) 112 [aR 132, aI x] m = some (m, if 0 ≤ x ∧ x < m 132 91 then m 203 x.toNat else -3) := by
  rw [st_M_trace]
  simp only [B_M_trace, kr_M_trace, d_rLoc1, d_rLoc2, d_rFld1, d_rFld2, d_eInt, d_eLdc, d_eLdw, d_eLoc, d_eFld, d_lFld, d_eAI, d_eAZ, d_eAB, d_lAL, d_eAD, d_eLen, d_eAdd, d_eSub, d_eMul, d_eAnd, d_eOr, d_eXor, d_eShl, d_eShr, d_eUsh, d_lAdd, d_lSub, d_lMul, d_lAnd, d_lOr, d_lXor, d_lShl, d_lShr, d_eDiv, d_eRem, d_eCmp, d_eI2B, d_eI2S, d_eL2I, d_lI2L, d_lInt, d_lLdc, d_lLoc, d_eIte, d_lIte, d_eMax, d_eMin, d_eAbs, d_eAbove, d_eBodies, d_cQ, d_cZ, d_cNot, d_cAnd, d_cOr, d_gNil, d_gI, d_gL, d_gR, d_gD, d_xV, d_xS, d_xN, d_xT, d_eCall, d_lCall, d_eCallC, d_sNop, d_sSet, d_sSetL, d_sSetR, d_sSetQ, d_sInc, d_sPutI, d_sPutZ, d_sPutL, d_sPutA, d_sPutAZ, d_sPutAB, d_sPutAL, d_sPutD, d_sOpF, d_sOpA, d_sCall, d_sCopy, d_sSeq, d_sIf, d_sBrk, d_sCnt, d_sRetV, d_sRet, d_sRetL, d_sLp, d_tDef, d_tCase, d_sSw, d_sSwB, bIt_d, itb_0, itb_1, itb_2, itb_r, its_0, sqk_0, sqk_1, sqk_2, sqk_r, swk_0, swk_1, swk_r, bfin_r, bfin_ite, Option.bind_some, Option.map_some, Option.bind_none, Option.map_none, bind_ite, map_ite, cop0, cop1, cop2, cop3, cop4, cop5, opv0, opv1, opv2, opv3, brc_i, brc_z, two_ne_one, false_or, getI, getR, getL, List.getElem?_cons_zero, List.getElem?_cons_succ, List.set_cons_zero, List.set_cons_succ, bnl, if_true, if_false, true_or, or_true, decide_eq_true_eq, Bool.not_eq_true', decide_eq_false_iff_not, Bool.not_true, Bool.not_false, Bool.true_eq_false, Bool.false_eq_true, ite_not, reduceIte, ite01_0, ite01_1, Decidable.not_not, ne_eq, not_true_eq_false, not_false_eq_true, decide_not, Bool.not_not, Bool.not_eq_false']
  by_cases h1 : 0 ≤ x
  · by_cases h2 : x < m 132 91
    · have h3 : x < 30 := by omega
      simp [h1, h2, h3, bfin_r]
    · simp [h1, h2, bfin_r]
  · simp [h1, bfin_r]
theorem step_trace {n i : Nat} {m : bM} (hI : Inv i m) (hi : i < 100) (x : Int) : ∃ m1 m2 v, sem (n + 3) 54 [aR 0, aI x] m = some (m1, v) ∧ sem (n + 3) 112 [aR 132, aI x] m1 = some (m2, v) ∧ Inv (i + 1) m2 := by
  have hR := Inv_rel hI
  have hN := Inv_ngt hI
  have hage := NgtC_age hN
  have hH := Inv_host hI
  obtain ⟨t1, t2⟩ := HostOK_traced hH
  have e1 := sp_V_trace n x m t2
  have e2 := sp_M_trace n x m (by rw [t1]; exact t2)
  rw [t1] at e2
  by_cases hc : 0 ≤ x ∧ x < m 124 11
  · rw [if_pos hc, HostOK_trace hH x.toNat (by omega)] at e2
    rw [if_pos hc] at e1
    exact ⟨_, _, _, e1, e2, Inv_same hI⟩
  · rw [if_neg hc] at e1 e2
    exact ⟨_, _, _, e1, e2, Inv_same hI⟩
