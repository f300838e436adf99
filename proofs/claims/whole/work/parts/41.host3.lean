/-! ===== the host: shelves ===== -/
theorem HostOK_sh {m m2 : bM} (h : HostOK m) (S : Nat) {a b c d e f : Int} (e1 : ∀ k, m2 128 k = if k = S then a else m 128 k) (e2 : ∀ k, m2 129 k = if k = S then b else m 129 k) (e3 : ∀ k, m2 130 k = if k = S then c else m 130 k) (e4 : ∀ k, m2 200 k = if k = S then d else m 200 k) (e5 : ∀ k, m2 201 k = if k = S then e else m 201 k) (e6 : ∀ k, m2 202 k = if k = S then f else m 202 k) (hr : shelfR a b c d e f)
    (o : ∀ i, i = 124 ∨ i = 125 ∨ i = 126 ∨ i = 127 ∨ i = 131 ∨ i = 197 ∨ i = 198 ∨ i = 199 ∨ i = 203 → m2 i = m i) (ob : m2 132 91 = m 132 91) : HostOK m2 := by
  obtain ⟨v1, v2, v3, v4, v5, v6⟩ := h
  refine ⟨?_, ?_, ?_, ?_, ?_, ?_⟩
  · rw [o 125 (by decide), o 197 (by decide)]; exact v1
  · rw [o 125 (by decide), o 126 (by decide), o 127 (by decide), o 198 (by decide), o 199 (by decide)]; exact v2
  · intro s hs
    rw [e1, e2, e3, e4, e5, e6]
    by_cases h : s = S
    · simp only [if_pos h]; exact hr
    · simp only [if_neg h]; exact v3 s hs
  · rw [ob, o 124 (by decide)]; exact v4
  · rw [o 124 (by decide), o 131 (by decide), o 203 (by decide)]; exact v5
  · rw [o 127 (by decide)]; exact v6
theorem sp_putOnShelf (n : Nat) (s a b : Int) (m : bM) (hs : 0 ≤ s ∧ s ≤ 3) : sem (n + 1) 183 [aR 124, aI s, aI a, aI b] m = some (bwr (bwr m 128 s.toNat a) 129 s.toNat b, 1) := by
  rw [st_Host_putOnShelf]
  simp only [B_Host_putOnShelf, kr_Host_putOnShelf, d_rLoc1, d_rLoc2, d_rFld1, d_rFld2, d_eInt, d_eLdc, d_eLdw, d_eLoc, d_eFld, d_lFld, d_eAI, d_eAZ, d_eAB, d_lAL, d_eAD, d_eLen, d_eAdd, d_eSub, d_eMul, d_eAnd, d_eOr, d_eXor, d_eShl, d_eShr, d_eUsh, d_lAdd, d_lSub, d_lMul, d_lAnd, d_lOr, d_lXor, d_lShl, d_lShr, d_eDiv, d_eRem, d_eCmp, d_eI2B, d_eI2S, d_eL2I, d_lI2L, d_lInt, d_lLdc, d_lLoc, d_eIte, d_lIte, d_eMax, d_eMin, d_eAbs, d_eAbove, d_eBodies, d_cQ, d_cZ, d_cNot, d_cAnd, d_cOr, d_gNil, d_gI, d_gL, d_gR, d_gD, d_xV, d_xS, d_xN, d_xT, d_eCall, d_lCall, d_eCallC, d_sNop, d_sSet, d_sSetL, d_sSetR, d_sSetQ, d_sInc, d_sPutI, d_sPutZ, d_sPutL, d_sPutA, d_sPutAZ, d_sPutAB, d_sPutAL, d_sPutD, d_sOpF, d_sOpA, d_sCall, d_sCopy, d_sSeq, d_sIf, d_sBrk, d_sCnt, d_sRetV, d_sRet, d_sRetL, d_sLp, d_tDef, d_tCase, d_sSw, d_sSwB, bIt_d, itb_0, itb_1, itb_2, itb_r, its_0, sqk_0, sqk_1, sqk_2, sqk_r, swk_0, swk_1, swk_r, bfin_r, bfin_ite, Option.bind_some, Option.map_some, Option.bind_none, Option.map_none, bind_ite, map_ite, cop0, cop1, cop2, cop3, cop4, cop5, opv0, opv1, opv2, opv3, brc_i, brc_z, two_ne_one, false_or, getI, getR, getL, List.getElem?_cons_zero, List.getElem?_cons_succ, List.set_cons_zero, List.set_cons_succ, bnl, if_true, if_false, true_or, or_true, decide_eq_true_eq, Bool.not_eq_true', decide_eq_false_iff_not, Bool.not_true, Bool.not_false, Bool.true_eq_false, Bool.false_eq_true, ite_not, reduceIte, ite01_0, ite01_1, Decidable.not_not, ne_eq, not_true_eq_false, not_false_eq_true, Function.comp_apply, decide_not, Bool.not_not, Bool.not_eq_false']
  simp [hs.1, show s < 4 by omega]
theorem sp_putSheetOnShelf (n : Nat) (s t : Int) (m : bM) (hs : 0 ≤ s ∧ s ≤ 3) (ht : 0 ≤ t ∧ t ≤ 3) : sem (n + 2) 184 [aR 124, aI s, aI t] m = some (bwr (bwr (bwr m 130 s.toNat (m 126 t.toNat)) 128 s.toNat (if 0 ≤ m 125 t.toNat then 3 else 0)) 129 s.toNat (m 125 t.toNat), 1) := by
  rw [st_Host_putSheetOnShelf]
  simp only [B_Host_putSheetOnShelf, kr_Host_putSheetOnShelf, d_rLoc1, d_rLoc2, d_rFld1, d_rFld2, d_eInt, d_eLdc, d_eLdw, d_eLoc, d_eFld, d_lFld, d_eAI, d_eAZ, d_eAB, d_lAL, d_eAD, d_eLen, d_eAdd, d_eSub, d_eMul, d_eAnd, d_eOr, d_eXor, d_eShl, d_eShr, d_eUsh, d_lAdd, d_lSub, d_lMul, d_lAnd, d_lOr, d_lXor, d_lShl, d_lShr, d_eDiv, d_eRem, d_eCmp, d_eI2B, d_eI2S, d_eL2I, d_lI2L, d_lInt, d_lLdc, d_lLoc, d_eIte, d_lIte, d_eMax, d_eMin, d_eAbs, d_eAbove, d_eBodies, d_cQ, d_cZ, d_cNot, d_cAnd, d_cOr, d_gNil, d_gI, d_gL, d_gR, d_gD, d_xV, d_xS, d_xN, d_xT, d_eCall, d_lCall, d_eCallC, d_sNop, d_sSet, d_sSetL, d_sSetR, d_sSetQ, d_sInc, d_sPutI, d_sPutZ, d_sPutL, d_sPutA, d_sPutAZ, d_sPutAB, d_sPutAL, d_sPutD, d_sOpF, d_sOpA, d_sCall, d_sCopy, d_sSeq, d_sIf, d_sBrk, d_sCnt, d_sRetV, d_sRet, d_sRetL, d_sLp, d_tDef, d_tCase, d_sSw, d_sSwB, bIt_d, itb_0, itb_1, itb_2, itb_r, its_0, sqk_0, sqk_1, sqk_2, sqk_r, swk_0, swk_1, swk_r, bfin_r, bfin_ite, Option.bind_some, Option.map_some, Option.bind_none, Option.map_none, bind_ite, map_ite, cop0, cop1, cop2, cop3, cop4, cop5, opv0, opv1, opv2, opv3, brc_i, brc_z, two_ne_one, false_or, getI, getR, getL, List.getElem?_cons_zero, List.getElem?_cons_succ, List.set_cons_zero, List.set_cons_succ, bnl, if_true, if_false, true_or, or_true, decide_eq_true_eq, Bool.not_eq_true', decide_eq_false_iff_not, Bool.not_true, Bool.not_false, Bool.true_eq_false, Bool.false_eq_true, ite_not, reduceIte, ite01_0, ite01_1, Decidable.not_not, ne_eq, not_true_eq_false, not_false_eq_true, Function.comp_apply, decide_not, Bool.not_not, Bool.not_eq_false']
  rw [sp_putOnShelf _ _ _ _ _ hs, sp_putOnShelf _ _ _ _ _ hs]
  simp only [kr_Host_putSheetOnShelf, d_rLoc1, d_rLoc2, d_rFld1, d_rFld2, d_eInt, d_eLdc, d_eLdw, d_eLoc, d_eFld, d_lFld, d_eAI, d_eAZ, d_eAB, d_lAL, d_eAD, d_eLen, d_eAdd, d_eSub, d_eMul, d_eAnd, d_eOr, d_eXor, d_eShl, d_eShr, d_eUsh, d_lAdd, d_lSub, d_lMul, d_lAnd, d_lOr, d_lXor, d_lShl, d_lShr, d_eDiv, d_eRem, d_eCmp, d_eI2B, d_eI2S, d_eL2I, d_lI2L, d_lInt, d_lLdc, d_lLoc, d_eIte, d_lIte, d_eMax, d_eMin, d_eAbs, d_eAbove, d_eBodies, d_cQ, d_cZ, d_cNot, d_cAnd, d_cOr, d_gNil, d_gI, d_gL, d_gR, d_gD, d_xV, d_xS, d_xN, d_xT, d_eCall, d_lCall, d_eCallC, d_sNop, d_sSet, d_sSetL, d_sSetR, d_sSetQ, d_sInc, d_sPutI, d_sPutZ, d_sPutL, d_sPutA, d_sPutAZ, d_sPutAB, d_sPutAL, d_sPutD, d_sOpF, d_sOpA, d_sCall, d_sCopy, d_sSeq, d_sIf, d_sBrk, d_sCnt, d_sRetV, d_sRet, d_sRetL, d_sLp, d_tDef, d_tCase, d_sSw, d_sSwB, bIt_d, itb_0, itb_1, itb_2, itb_r, its_0, sqk_0, sqk_1, sqk_2, sqk_r, swk_0, swk_1, swk_r, bfin_r, bfin_ite, Option.bind_some, Option.map_some, Option.bind_none, Option.map_none, bind_ite, map_ite, cop0, cop1, cop2, cop3, cop4, cop5, opv0, opv1, opv2, opv3, brc_i, brc_z, two_ne_one, false_or, getI, getR, getL, List.getElem?_cons_zero, List.getElem?_cons_succ, List.set_cons_zero, List.set_cons_succ, bnl, if_true, if_false, true_or, or_true, decide_eq_true_eq, Bool.not_eq_true', decide_eq_false_iff_not, Bool.not_true, Bool.not_false, Bool.true_eq_false, Bool.false_eq_true, ite_not, reduceIte, ite01_0, ite01_1, Decidable.not_not, ne_eq, not_true_eq_false, not_false_eq_true, Function.comp_apply, decide_not, Bool.not_not, Bool.not_eq_false']
  simp only [hs.1, ht.1, show s < ((4 : Nat) : Int) by omega, show t < ((4 : Nat) : Int) by omega, and_self, if_true]
  simp (disch := omega) only [bwr_ne]
  by_cases h : 0 ≤ m 125 t.toNat <;> simp [h]
theorem sp_V_shelf (n : Nat) (s w x : Int) (m : bM) (h6 : 0 ≤ m 17 9 ∧ m 17 9 ≤ 16) (h12 : 0 ≤ m 79 6 ∧ m 79 6 ≤ 16) : sem (n + 4) 51 [aR 0, aI s, aI w, aI x] m = if (0 ≤ s ∧ s ≤ 3) ∧ (0 ≤ w ∧ w ≤ 3) ∧ (w = 0 → 0 ≤ x ∧ x < m 17 9) ∧ (w = 1 → 0 ≤ x ∧ x < m 79 6) ∧ (w = 2 → 0 ≤ x ∧ x ≤ 3) then some (if w = 2 then bwr (bwr (bwr m 130 s.toNat (m 126 x.toNat)) 128 s.toNat (if 0 ≤ m 125 x.toNat then 3 else 0)) 129 s.toNat (m 125 x.toNat) else bwr (bwr m 128 s.toNat (if w = 3 then 0 else w + 1)) 129 s.toNat (if w = 3 then 0 else x), 1) else some (m, -1) := by
  rw [st_V_shelf]
  simp only [B_V_shelf, kr_V_shelf, sp_V_isShelf, sp_V_isSeenRow, sp_V_isClaim, sp_V_isSheet, d_rLoc1, d_rLoc2, d_rFld1, d_rFld2, d_eInt, d_eLdc, d_eLdw, d_eLoc, d_eFld, d_lFld, d_eAI, d_eAZ, d_eAB, d_lAL, d_eAD, d_eLen, d_eAdd, d_eSub, d_eMul, d_eAnd, d_eOr, d_eXor, d_eShl, d_eShr, d_eUsh, d_lAdd, d_lSub, d_lMul, d_lAnd, d_lOr, d_lXor, d_lShl, d_lShr, d_eDiv, d_eRem, d_eCmp, d_eI2B, d_eI2S, d_eL2I, d_lI2L, d_lInt, d_lLdc, d_lLoc, d_eIte, d_lIte, d_eMax, d_eMin, d_eAbs, d_eAbove, d_eBodies, d_cQ, d_cZ, d_cNot, d_cAnd, d_cOr, d_gNil, d_gI, d_gL, d_gR, d_gD, d_xV, d_xS, d_xN, d_xT, d_eCall, d_lCall, d_eCallC, d_sNop, d_sSet, d_sSetL, d_sSetR, d_sSetQ, d_sInc, d_sPutI, d_sPutZ, d_sPutL, d_sPutA, d_sPutAZ, d_sPutAB, d_sPutAL, d_sPutD, d_sOpF, d_sOpA, d_sCall, d_sCopy, d_sSeq, d_sIf, d_sBrk, d_sCnt, d_sRetV, d_sRet, d_sRetL, d_sLp, d_tDef, d_tCase, d_sSw, d_sSwB, bIt_d, itb_0, itb_1, itb_2, itb_r, its_0, sqk_0, sqk_1, sqk_2, sqk_r, swk_0, swk_1, swk_r, bfin_r, bfin_ite, Option.bind_some, Option.map_some, Option.bind_none, Option.map_none, bind_ite, map_ite, cop0, cop1, cop2, cop3, cop4, cop5, opv0, opv1, opv2, opv3, brc_i, brc_z, two_ne_one, false_or, getI, getR, getL, List.getElem?_cons_zero, List.getElem?_cons_succ, List.set_cons_zero, List.set_cons_succ, bnl, if_true, if_false, true_or, or_true, decide_eq_true_eq, Bool.not_eq_true', decide_eq_false_iff_not, Bool.not_true, Bool.not_false, Bool.true_eq_false, Bool.false_eq_true, ite_not, reduceIte, ite01_0, ite01_1, Decidable.not_not, ne_eq, not_true_eq_false, not_false_eq_true, Function.comp_apply, decide_not, Bool.not_not, Bool.not_eq_false']
  have e6 : i32 (m 17 9 - 1) = m 17 9 - 1 := i32_of (by omega) (by omega)
  have e12 : i32 (m 79 6 - 1) = m 79 6 - 1 := i32_of (by omega) (by omega)
  have q6 : (0 ≤ x ∧ x ≤ m 17 9 - 1) ↔ (0 ≤ x ∧ x < m 17 9) := by omega
  have q12 : (0 ≤ x ∧ x ≤ m 79 6 - 1) ↔ (0 ≤ x ∧ x < m 79 6) := by omega
  rw [e6, e12]
  simp only [q6, q12]
  by_cases h1 : 0 ≤ s ∧ s ≤ 3
  · rw [sp_putOnShelf _ _ _ _ _ h1, sp_putOnShelf _ _ _ _ _ h1, sp_putOnShelf _ _ _ _ _ h1]
    by_cases w0 : w = 0
    · subst w0
      by_cases hx : 0 ≤ x ∧ x < m 17 9
      · simp [h1, hx, bfin_r]
      · simp only [h1, hx]; simp
    · by_cases w1 : w = 1
      · subst w1
        by_cases hx : 0 ≤ x ∧ x < m 79 6
        · simp [h1, hx, bfin_r]
        · simp only [h1, hx]; simp
      · by_cases w2 : w = 2
        · subst w2
          by_cases hx : 0 ≤ x ∧ x ≤ 3
          · rw [sp_putSheetOnShelf _ _ _ _ h1 hx]
            simp [h1, hx, bfin_r]
          · simp only [h1, hx]; simp
        · by_cases w3 : w = 3
          · subst w3
            simp [h1, bfin_r]
          · have hw : ¬ (0 ≤ w ∧ w ≤ 3) := by omega
            simp [h1, w0, w1, w2, w3]
            omega
  · simp only [h1]; simp
theorem sp_M_shelf (n : Nat) (s w x : Int) (m : bM) (h6 : 0 ≤ m 133 6 ∧ m 133 6 ≤ 16) (h12 : 0 ≤ m 133 12 ∧ m 133 12 ≤ 16) (hz : ∀ k, k < 4 → -1 ≤ m 197 k ∧ m 197 k ≤ 4) : sem (n + 4) 109 [aR 132, aI s, aI w, aI x] m = if (0 ≤ s ∧ s ≤ 3) ∧ (0 ≤ w ∧ w ≤ 3) ∧ (w = 0 → 0 ≤ x ∧ x < m 133 6) ∧ (w = 1 → 0 ≤ x ∧ x < m 133 12) ∧ (w = 2 → 0 ≤ x ∧ x ≤ 3) then some (if w = 2 then bwr (bwr (bwr (bwr m 200 s.toNat w) 201 s.toNat 0) 200 s.toNat (if m 197 x.toNat < 0 then 3 else 10 + m 197 x.toNat)) 202 s.toNat (m 198 x.toNat) else bwr (bwr m 200 s.toNat w) 201 s.toNat (if w = 3 then 0 else x), 1) else some (m, -1) := by
  rw [st_M_shelf]
  simp only [B_M_shelf, kr_M_shelf, sp_in, sp_isOf _ 6 _ (by decide), sp_isOf _ 12 _ (by decide), sp_M_isSheet, d_rLoc1, d_rLoc2, d_rFld1, d_rFld2, d_eInt, d_eLdc, d_eLdw, d_eLoc, d_eFld, d_lFld, d_eAI, d_eAZ, d_eAB, d_lAL, d_eAD, d_eLen, d_eAdd, d_eSub, d_eMul, d_eAnd, d_eOr, d_eXor, d_eShl, d_eShr, d_eUsh, d_lAdd, d_lSub, d_lMul, d_lAnd, d_lOr, d_lXor, d_lShl, d_lShr, d_eDiv, d_eRem, d_eCmp, d_eI2B, d_eI2S, d_eL2I, d_lI2L, d_lInt, d_lLdc, d_lLoc, d_eIte, d_lIte, d_eMax, d_eMin, d_eAbs, d_eAbove, d_eBodies, d_cQ, d_cZ, d_cNot, d_cAnd, d_cOr, d_gNil, d_gI, d_gL, d_gR, d_gD, d_xV, d_xS, d_xN, d_xT, d_eCall, d_lCall, d_eCallC, d_sNop, d_sSet, d_sSetL, d_sSetR, d_sSetQ, d_sInc, d_sPutI, d_sPutZ, d_sPutL, d_sPutA, d_sPutAZ, d_sPutAB, d_sPutAL, d_sPutD, d_sOpF, d_sOpA, d_sCall, d_sCopy, d_sSeq, d_sIf, d_sBrk, d_sCnt, d_sRetV, d_sRet, d_sRetL, d_sLp, d_tDef, d_tCase, d_sSw, d_sSwB, bIt_d, itb_0, itb_1, itb_2, itb_r, its_0, sqk_0, sqk_1, sqk_2, sqk_r, swk_0, swk_1, swk_r, bfin_r, bfin_ite, Option.bind_some, Option.map_some, Option.bind_none, Option.map_none, bind_ite, map_ite, cop0, cop1, cop2, cop3, cop4, cop5, opv0, opv1, opv2, opv3, brc_i, brc_z, two_ne_one, false_or, getI, getR, getL, List.getElem?_cons_zero, List.getElem?_cons_succ, List.set_cons_zero, List.set_cons_succ, bnl, if_true, if_false, true_or, or_true, decide_eq_true_eq, Bool.not_eq_true', decide_eq_false_iff_not, Bool.not_true, Bool.not_false, Bool.true_eq_false, Bool.false_eq_true, ite_not, reduceIte, ite01_0, ite01_1, Decidable.not_not, ne_eq, not_true_eq_false, not_false_eq_true, Function.comp_apply, decide_not, Bool.not_not, Bool.not_eq_false']
  have e6 : i32 (m 133 (6 : Int).toNat - 1) = m 133 6 - 1 := by
    show i32 (m 133 6 - 1) = _
    exact i32_of (by omega) (by omega)
  have e12 : i32 (m 133 (12 : Int).toNat - 1) = m 133 12 - 1 := by
    show i32 (m 133 12 - 1) = _
    exact i32_of (by omega) (by omega)
  have q6 : (0 ≤ x ∧ x ≤ m 133 6 - 1) ↔ (0 ≤ x ∧ x < m 133 6) := by omega
  have q12 : (0 ≤ x ∧ x ≤ m 133 12 - 1) ↔ (0 ≤ x ∧ x < m 133 12) := by omega
  rw [e6, e12]
  simp only [q6, q12]
  by_cases h1 : 0 ≤ s ∧ s ≤ 3
  · have h4 : s < 4 := by omega
    by_cases w0 : w = 0
    · subst w0
      by_cases hx : 0 ≤ x ∧ x < m 133 6
      · simp [h1, h4, hx, bfin_r]
      · simp only [h1, hx]; simp
    · by_cases w1 : w = 1
      · subst w1
        by_cases hx : 0 ≤ x ∧ x < m 133 12
        · simp [h1, h4, hx, bfin_r]
        · simp only [h1, hx]; simp
      · by_cases w2 : w = 2
        · subst w2
          by_cases hx : 0 ≤ x ∧ x ≤ 3
          · have hz2 := hz x.toNat (by omega)
            have e10 : i32 (10 + m 197 x.toNat) = 10 + m 197 x.toNat := i32_of (by omega) (by omega)
            by_cases hq : m 197 x.toNat < 0
            · simp (disch := omega) [h1, h4, hx, hq, bfin_r, bwr_ne, show x < 4 by omega]
            · simp (disch := omega) [h1, h4, hx, hq, e10, bfin_r, bwr_ne, show x < 4 by omega]
          · simp only [h1, hx]; simp
        · by_cases w3 : w = 3
          · subst w3
            simp [h1, h4, bfin_r]
          · have hw : ¬ (0 ≤ w ∧ w ≤ 3) := by omega
            simp only [h1, hw]
            simp
  · simp only [h1]; simp
theorem step_shelf {n i : Nat} {m : bM} (hI : Inv i m) (hi : i < 100) (s w x : Int) : ∃ m1 m2 v, sem (n + 4) 51 [aR 0, aI s, aI w, aI x] m = some (m1, v) ∧ sem (n + 4) 109 [aR 132, aI s, aI w, aI x] m1 = some (m2, v) ∧ Inv (i + 1) m2 := by
  have hR := Inv_rel hI
  have hN := Inv_ngt hI
  have hage := NgtC_age hN
  have hH := Inv_host hI
  have h6 := RelS_rrows (Rel_s hR)
  have h12 := RelC_rcount (Rel_c hR)
  have n6 := RelN_rows (Rel_n hR)
  have n12 := RelN_count (Rel_n hR)
  by_cases hc : (0 ≤ s ∧ s ≤ 3) ∧ (0 ≤ w ∧ w ≤ 3) ∧ (w = 0 → 0 ≤ x ∧ x < m 17 9) ∧ (w = 1 → 0 ≤ x ∧ x < m 79 6) ∧ (w = 2 → 0 ≤ x ∧ x ≤ 3)
  · have e1 := (sp_V_shelf n s w x m h6 h12).trans (if_pos hc)
    have hS : s.toNat < 4 := by omega
    have hsh := HostOK_shelf hH s.toNat hS
    by_cases w2 : w = 2
    · rw [if_pos w2] at e1
      have hx := hc.2.2.2.2 w2
      obtain ⟨m1, hm1⟩ : ∃ m1, m1 = bwr (bwr (bwr m 130 s.toNat (m 126 x.toNat)) 128 s.toNat (if 0 ≤ m 125 x.toNat then 3 else 0)) 129 s.toNat (m 125 x.toNat) := ⟨_, rfl⟩
      have o1 : ∀ i, i < 128 ∨ 131 ≤ i → m1 i = m i := fun i h => by rw [hm1]; simp (disch := omega) only [bwr_ne]
      have hz : ∀ k, k < 4 → -1 ≤ m1 197 k ∧ m1 197 k ≤ 4 := fun k hk => by
        rw [o1 197 (by decide), (HostOK_sort hH k hk).1]; exact (HostOK_sort hH k hk).2
      have e2 := (sp_M_shelf n s w x m1 (by rw [o1 133 (by decide), n6]; exact h6) (by rw [o1 133 (by decide), n12]; exact h12) hz).trans (if_pos (by rw [o1 133 (by decide), n6, n12]; exact hc))
      rw [if_pos w2, o1 197 (by decide), o1 198 (by decide), (HostOK_sort hH x.toNat (by omega)).1, hm1] at e2
      have hso := HostOK_sort hH x.toNat (by omega)
      have hsz := HostOK_size hH x.toNat (by omega)
      refine ⟨_, _, _, e1, e2, Inv_ht hI (fun i a => by simp (disch := omega) only [bwr_ne]) (fun k a => by simp (disch := omega) only [bwr_ne]) ?_⟩
      refine HostOK_sh hH s.toNat (a := if 0 ≤ m 125 x.toNat then 3 else 0) (b := m 125 x.toNat) (c := m 126 x.toNat) (d := if m 125 x.toNat < 0 then 3 else 10 + m 125 x.toNat) (e := 0) (f := m 198 x.toNat) ?_ ?_ ?_ ?_ ?_ ?_ ?_ ?_ ?_
      · intro k; simp (disch := omega) only [bwr_ne, bwr_if]
      · intro k; simp (disch := omega) only [bwr_ne, bwr_if]
      · intro k; simp (disch := omega) only [bwr_ne, bwr_if]
      · intro k
        simp (disch := omega) only [bwr_ne, bwr_if]
        split <;> rfl
      · intro k; simp (disch := omega) only [bwr_ne, bwr_if]
      · intro k; simp (disch := omega) only [bwr_ne, bwr_if]
      · unfold shelfR
        by_cases h0 : 0 ≤ m 125 x.toNat
        · rw [if_pos h0, if_neg (by omega)]
          exact Or.inr (Or.inr (Or.inr ⟨rfl, h0, by omega, rfl, (hsz h0).1⟩))
        · rw [if_neg h0, if_pos (by omega)]
          exact Or.inl ⟨rfl, rfl⟩
      · intro i hi; simp (disch := omega) only [bwr_ne]
      · simp (disch := omega) only [bwr_ne]
    · rw [if_neg w2] at e1
      obtain ⟨m1, hm1⟩ : ∃ m1, m1 = bwr (bwr m 128 s.toNat (if w = 3 then 0 else w + 1)) 129 s.toNat (if w = 3 then 0 else x) := ⟨_, rfl⟩
      have o1 : ∀ i, i < 128 ∨ 131 ≤ i → m1 i = m i := fun i h => by rw [hm1]; simp (disch := omega) only [bwr_ne]
      have hz : ∀ k, k < 4 → -1 ≤ m1 197 k ∧ m1 197 k ≤ 4 := fun k hk => by
        rw [o1 197 (by decide), (HostOK_sort hH k hk).1]; exact (HostOK_sort hH k hk).2
      have e2 := (sp_M_shelf n s w x m1 (by rw [o1 133 (by decide), n6]; exact h6) (by rw [o1 133 (by decide), n12]; exact h12) hz).trans (if_pos (by rw [o1 133 (by decide), n6, n12]; exact hc))
      rw [if_neg w2, hm1] at e2
      refine ⟨_, _, _, e1, e2, Inv_ht hI (fun i a => by simp (disch := omega) only [bwr_ne]) (fun k a => by simp (disch := omega) only [bwr_ne]) ?_⟩
      refine HostOK_sh hH s.toNat (a := if w = 3 then 0 else w + 1) (b := if w = 3 then 0 else x) (c := m 130 s.toNat) (d := w) (e := if w = 3 then 0 else x) (f := m 202 s.toNat) ?_ ?_ ?_ ?_ ?_ ?_ ?_ ?_ ?_
      · intro k; simp (disch := omega) only [bwr_ne, bwr_if]
      · intro k; simp (disch := omega) only [bwr_ne, bwr_if]
      · intro k
        simp (disch := omega) only [bwr_ne]
        split
        · rename_i h; rw [h]
        · rfl
      · intro k; simp (disch := omega) only [bwr_ne, bwr_if]
      · intro k; simp (disch := omega) only [bwr_ne, bwr_if]
      · intro k
        simp (disch := omega) only [bwr_ne]
        split
        · rename_i h; rw [h]
        · rfl
      · unfold shelfR
        rcases (show w = 0 ∨ w = 1 ∨ w = 3 by omega) with hw | hw | hw
        · have := hc.2.2.1 hw
          subst hw
          exact Or.inr (Or.inl ⟨rfl, rfl, rfl, by show 0 ≤ x; omega, by show x ≤ 15; omega⟩)
        · have := hc.2.2.2.1 hw
          subst hw
          exact Or.inr (Or.inr (Or.inl ⟨rfl, rfl, rfl, by show 0 ≤ x; omega, by show x ≤ 15; omega⟩))
        · subst hw
          exact Or.inl ⟨rfl, rfl⟩
      · intro i hi; simp (disch := omega) only [bwr_ne]
      · simp (disch := omega) only [bwr_ne]
  · exact ⟨m, m, -1, (sp_V_shelf n s w x m h6 h12).trans (if_neg hc), (sp_M_shelf n s w x m (by rw [n6]; exact h6) (by rw [n12]; exact h12) (fun k hk => by rw [(HostOK_sort hH k hk).1]; exact (HostOK_sort hH k hk).2)).trans (if_neg (by rw [n6, n12]; exact hc)), Inv_same hI⟩
