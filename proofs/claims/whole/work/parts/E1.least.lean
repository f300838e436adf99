/-! ===== the class's tour: waiting, costVia, leastCost ===== -/
def TB (m : bM) (K : Nat) (rr w : Nat → Int) : Prop := (m 117 10 = (K : Int)) ∧ (K ≤ 7) ∧ (∀ i, i < K → m 121 i = rr i) ∧ (∀ i, i < K → m 122 i = w i) ∧ (∀ i, i < K → 0 ≤ rr i ∧ rr i ≤ 11) ∧ (∀ i, i < K → 0 ≤ w i ∧ w i ≤ 3)
theorem TB_k {m : bM} {K : Nat} {rr w : Nat → Int} (h : TB m K rr w) : m 117 10 = (K : Int) := h.1
theorem TB_k7 {m : bM} {K : Nat} {rr w : Nat → Int} (h : TB m K rr w) : K ≤ 7 := h.2.1
theorem TB_rr {m : bM} {K : Nat} {rr w : Nat → Int} (h : TB m K rr w) : ∀ i, i < K → m 121 i = rr i := h.2.2.1
theorem TB_w {m : bM} {K : Nat} {rr w : Nat → Int} (h : TB m K rr w) : ∀ i, i < K → m 122 i = w i := h.2.2.2.1
theorem TB_br {m : bM} {K : Nat} {rr w : Nat → Int} (h : TB m K rr w) : ∀ i, i < K → 0 ≤ rr i ∧ rr i ≤ 11 := h.2.2.2.2.1
theorem TB_bw {m : bM} {K : Nat} {rr w : Nat → Int} (h : TB m K rr w) : ∀ i, i < K → 0 ≤ w i ∧ w i ≤ 3 := h.2.2.2.2.2
/-- the costs of the sets above X0 stand in the table -/
def CF (m : bM) (K : Nat) (rr w : Nat → Int) (X0 : Nat) : Prop := ∀ X, X0 < X → X < 2 ^ K → ∀ i, i < K → m 123 (7 * X + i) = rdC K rr w (fun j => X.testBit j) (rr i) 1
theorem rdI_X (X i : Nat) : rdI (fun j => X.testBit j) i = fun j => (X ||| 2 ^ i).testBit j := by
  funext j
  unfold rdI
  rw [Nat.testBit_or, Nat.testBit_two_pow]
  by_cases z : j = i
  · simp [z]
  · have : ¬ i = j := fun q => z q.symm
    simp [z, this]
theorem pw7 {K : Nat} (h : K ≤ 7) : 2 ^ K ≤ 128 := Nat.pow_le_pow_right (by decide) h
theorem X_or {X K i : Nat} (hX : X < 2 ^ K) (hi : i < K) (hb : X.testBit i = false) : X < X ||| 2 ^ i ∧ X ||| 2 ^ i < 2 ^ K := by
  have h1 : X ||| 2 ^ i < 2 ^ K := Nat.or_lt_two_pow hX (Nat.pow_lt_pow_right (by decide) hi)
  have h2 : X ≤ X ||| 2 ^ i := Nat.left_le_or
  refine ⟨Nat.lt_of_le_of_ne h2 (fun e => ?_), h1⟩
  have h3 : (X ||| 2 ^ i).testBit i = true := by
    rw [Nat.testBit_or, Nat.testBit_two_pow]; simp
  rw [← e, hb] at h3
  cases h3
theorem wg_c (n : Nat) (m : bM) (x a i N : Int) (h : m 117 10 = N) (h2 : i < N) : L_Tour_waiting_1c.1.2 (sem n) [some (aR 117), some (aI x), some (aI a), some (aI i)] m = some (true, m) := by
  simp only [L_Tour_waiting_1c, h, h2, d_rLoc1, d_rLoc2, d_rFld1, d_rFld2, d_eInt, d_eLdc, d_eLdw, d_eLoc, d_eFld, d_lFld, d_eAI, d_eAZ, d_eAB, d_lAL, d_eAD, d_eLen, d_eAdd, d_eSub, d_eMul, d_eAnd, d_eOr, d_eXor, d_eShl, d_eShr, d_eUsh, d_lAdd, d_lSub, d_lMul, d_lAnd, d_lOr, d_lXor, d_lShl, d_lShr, d_eDiv, d_eRem, d_eCmp, d_eI2B, d_eI2S, d_eL2I, d_lI2L, d_lInt, d_lLdc, d_lLoc, d_eIte, d_lIte, d_eMax, d_eMin, d_eAbs, d_eAbove, d_eBodies, d_cQ, d_cZ, d_cNot, d_cAnd, d_cOr, d_gNil, d_gI, d_gL, d_gR, d_gD, d_xV, d_xS, d_xN, d_xT, d_eCall, d_lCall, d_eCallC, d_sNop, d_sSet, d_sSetL, d_sSetR, d_sSetQ, d_sInc, d_sPutI, d_sPutZ, d_sPutL, d_sPutA, d_sPutAZ, d_sPutAB, d_sPutAL, d_sPutD, d_sOpF, d_sOpA, d_sCall, d_sCopy, d_sSeq, d_sIf, d_sBrk, d_sCnt, d_sRetV, d_sRet, d_sRetL, d_sLp, d_tDef, d_tCase, d_sSw, d_sSwB, bIt_d, itb_0, itb_1, itb_2, itb_r, its_0, sqk_0, sqk_1, sqk_2, sqk_r, swk_0, swk_1, swk_r, bfin_r, bfin_ite, Option.bind_some, Option.map_some, Option.bind_none, Option.map_none, bind_ite, map_ite, cop0, cop1, cop2, cop3, cop4, cop5, opv0, opv1, opv2, opv3, brc_i, brc_z, two_ne_one, false_or, getI, getR, getL, List.getElem?_cons_zero, List.getElem?_cons_succ, List.set_cons_zero, List.set_cons_succ, bnl, if_true, if_false, true_or, or_true, decide_eq_true_eq, Bool.not_eq_true', decide_eq_false_iff_not, Bool.not_true, Bool.not_false, Bool.true_eq_false, Bool.false_eq_true, ite_not, reduceIte, ite01_0, ite01_1, Decidable.not_not, ne_eq, not_true_eq_false, not_false_eq_true, Function.comp_apply, decide_not, Bool.not_not, Bool.not_eq_false', dc_t, dc_f, and_self, true_and, and_true, and_false, false_and, tnc]
theorem wg_x (n : Nat) (m : bM) (x a i N : Int) (h : m 117 10 = N) (h2 : ¬ i < N) : L_Tour_waiting_1c.1.2 (sem n) [some (aR 117), some (aI x), some (aI a), some (aI i)] m = some (false, m) := by
  simp only [L_Tour_waiting_1c, h, h2, d_rLoc1, d_rLoc2, d_rFld1, d_rFld2, d_eInt, d_eLdc, d_eLdw, d_eLoc, d_eFld, d_lFld, d_eAI, d_eAZ, d_eAB, d_lAL, d_eAD, d_eLen, d_eAdd, d_eSub, d_eMul, d_eAnd, d_eOr, d_eXor, d_eShl, d_eShr, d_eUsh, d_lAdd, d_lSub, d_lMul, d_lAnd, d_lOr, d_lXor, d_lShl, d_lShr, d_eDiv, d_eRem, d_eCmp, d_eI2B, d_eI2S, d_eL2I, d_lI2L, d_lInt, d_lLdc, d_lLoc, d_eIte, d_lIte, d_eMax, d_eMin, d_eAbs, d_eAbove, d_eBodies, d_cQ, d_cZ, d_cNot, d_cAnd, d_cOr, d_gNil, d_gI, d_gL, d_gR, d_gD, d_xV, d_xS, d_xN, d_xT, d_eCall, d_lCall, d_eCallC, d_sNop, d_sSet, d_sSetL, d_sSetR, d_sSetQ, d_sInc, d_sPutI, d_sPutZ, d_sPutL, d_sPutA, d_sPutAZ, d_sPutAB, d_sPutAL, d_sPutD, d_sOpF, d_sOpA, d_sCall, d_sCopy, d_sSeq, d_sIf, d_sBrk, d_sCnt, d_sRetV, d_sRet, d_sRetL, d_sLp, d_tDef, d_tCase, d_sSw, d_sSwB, bIt_d, itb_0, itb_1, itb_2, itb_r, its_0, sqk_0, sqk_1, sqk_2, sqk_r, swk_0, swk_1, swk_r, bfin_r, bfin_ite, Option.bind_some, Option.map_some, Option.bind_none, Option.map_none, bind_ite, map_ite, cop0, cop1, cop2, cop3, cop4, cop5, opv0, opv1, opv2, opv3, brc_i, brc_z, two_ne_one, false_or, getI, getR, getL, List.getElem?_cons_zero, List.getElem?_cons_succ, List.set_cons_zero, List.set_cons_succ, bnl, if_true, if_false, true_or, or_true, decide_eq_true_eq, Bool.not_eq_true', decide_eq_false_iff_not, Bool.not_true, Bool.not_false, Bool.true_eq_false, Bool.false_eq_true, ite_not, reduceIte, ite01_0, ite01_1, Decidable.not_not, ne_eq, not_true_eq_false, not_false_eq_true, Function.comp_apply, decide_not, Bool.not_not, Bool.not_eq_false', dc_t, dc_f, and_self, true_and, and_true, and_false, false_and, tnc]
theorem wg_s (n : Nat) (m : bM) (x a i y : Int) (h : i32 (i + 1) = y) : L_Tour_waiting_1s.1.2 (sem n) [some (aR 117), some (aI x), some (aI a), some (aI i)] m = some (.inl (0, [some (aR 117), some (aI x), some (aI a), some (aI y)], m)) := by
  simp only [L_Tour_waiting_1s, h, d_rLoc1, d_rLoc2, d_rFld1, d_rFld2, d_eInt, d_eLdc, d_eLdw, d_eLoc, d_eFld, d_lFld, d_eAI, d_eAZ, d_eAB, d_lAL, d_eAD, d_eLen, d_eAdd, d_eSub, d_eMul, d_eAnd, d_eOr, d_eXor, d_eShl, d_eShr, d_eUsh, d_lAdd, d_lSub, d_lMul, d_lAnd, d_lOr, d_lXor, d_lShl, d_lShr, d_eDiv, d_eRem, d_eCmp, d_eI2B, d_eI2S, d_eL2I, d_lI2L, d_lInt, d_lLdc, d_lLoc, d_eIte, d_lIte, d_eMax, d_eMin, d_eAbs, d_eAbove, d_eBodies, d_cQ, d_cZ, d_cNot, d_cAnd, d_cOr, d_gNil, d_gI, d_gL, d_gR, d_gD, d_xV, d_xS, d_xN, d_xT, d_eCall, d_lCall, d_eCallC, d_sNop, d_sSet, d_sSetL, d_sSetR, d_sSetQ, d_sInc, d_sPutI, d_sPutZ, d_sPutL, d_sPutA, d_sPutAZ, d_sPutAB, d_sPutAL, d_sPutD, d_sOpF, d_sOpA, d_sCall, d_sCopy, d_sSeq, d_sIf, d_sBrk, d_sCnt, d_sRetV, d_sRet, d_sRetL, d_sLp, d_tDef, d_tCase, d_sSw, d_sSwB, bIt_d, itb_0, itb_1, itb_2, itb_r, its_0, sqk_0, sqk_1, sqk_2, sqk_r, swk_0, swk_1, swk_r, bfin_r, bfin_ite, Option.bind_some, Option.map_some, Option.bind_none, Option.map_none, bind_ite, map_ite, cop0, cop1, cop2, cop3, cop4, cop5, opv0, opv1, opv2, opv3, brc_i, brc_z, two_ne_one, false_or, getI, getR, getL, List.getElem?_cons_zero, List.getElem?_cons_succ, List.set_cons_zero, List.set_cons_succ, bnl, if_true, if_false, true_or, or_true, decide_eq_true_eq, Bool.not_eq_true', decide_eq_false_iff_not, Bool.not_true, Bool.not_false, Bool.true_eq_false, Bool.false_eq_true, ite_not, reduceIte, ite01_0, ite01_1, Decidable.not_not, ne_eq, not_true_eq_false, not_false_eq_true, Function.comp_apply, decide_not, Bool.not_not, Bool.not_eq_false', dc_t, dc_f, and_self, true_and, and_true, and_false, false_and, tnc]
theorem wg_b1 (n : Nat) (m : bM) (x a i : Int) (h : ¬ jand (jshr x i) 1 = 0) : L_Tour_waiting_1b.1.2 (sem n) [some (aR 117), some (aI x), some (aI a), some (aI i)] m = some (.inl (0, [some (aR 117), some (aI x), some (aI a), some (aI i)], m)) := by
  simp only [L_Tour_waiting_1b, h, d_rLoc1, d_rLoc2, d_rFld1, d_rFld2, d_eInt, d_eLdc, d_eLdw, d_eLoc, d_eFld, d_lFld, d_eAI, d_eAZ, d_eAB, d_lAL, d_eAD, d_eLen, d_eAdd, d_eSub, d_eMul, d_eAnd, d_eOr, d_eXor, d_eShl, d_eShr, d_eUsh, d_lAdd, d_lSub, d_lMul, d_lAnd, d_lOr, d_lXor, d_lShl, d_lShr, d_eDiv, d_eRem, d_eCmp, d_eI2B, d_eI2S, d_eL2I, d_lI2L, d_lInt, d_lLdc, d_lLoc, d_eIte, d_lIte, d_eMax, d_eMin, d_eAbs, d_eAbove, d_eBodies, d_cQ, d_cZ, d_cNot, d_cAnd, d_cOr, d_gNil, d_gI, d_gL, d_gR, d_gD, d_xV, d_xS, d_xN, d_xT, d_eCall, d_lCall, d_eCallC, d_sNop, d_sSet, d_sSetL, d_sSetR, d_sSetQ, d_sInc, d_sPutI, d_sPutZ, d_sPutL, d_sPutA, d_sPutAZ, d_sPutAB, d_sPutAL, d_sPutD, d_sOpF, d_sOpA, d_sCall, d_sCopy, d_sSeq, d_sIf, d_sBrk, d_sCnt, d_sRetV, d_sRet, d_sRetL, d_sLp, d_tDef, d_tCase, d_sSw, d_sSwB, bIt_d, itb_0, itb_1, itb_2, itb_r, its_0, sqk_0, sqk_1, sqk_2, sqk_r, swk_0, swk_1, swk_r, bfin_r, bfin_ite, Option.bind_some, Option.map_some, Option.bind_none, Option.map_none, bind_ite, map_ite, cop0, cop1, cop2, cop3, cop4, cop5, opv0, opv1, opv2, opv3, brc_i, brc_z, two_ne_one, false_or, getI, getR, getL, List.getElem?_cons_zero, List.getElem?_cons_succ, List.set_cons_zero, List.set_cons_succ, bnl, if_true, if_false, true_or, or_true, decide_eq_true_eq, Bool.not_eq_true', decide_eq_false_iff_not, Bool.not_true, Bool.not_false, Bool.true_eq_false, Bool.false_eq_true, ite_not, reduceIte, ite01_0, ite01_1, Decidable.not_not, ne_eq, not_true_eq_false, not_false_eq_true, Function.comp_apply, decide_not, Bool.not_not, Bool.not_eq_false', dc_t, dc_f, and_self, true_and, and_true, and_false, false_and, tnc]
theorem wg_b0 (n : Nat) (m : bM) (x a i v b : Int) (I : Nat) (h : jand (jshr x i) 1 = 0) (f1 : 0 ≤ i ∧ i < ((7 : Nat) : Int)) (ti : i.toNat = I) (hv : m 122 I = v) (hb : i32 (a + v) = b) : L_Tour_waiting_1b.1.2 (sem n) [some (aR 117), some (aI x), some (aI a), some (aI i)] m = some (.inl (0, [some (aR 117), some (aI x), some (aI b), some (aI i)], m)) := by
  have h := eq_true h
  simp only [L_Tour_waiting_1b, h, f1, ti, hv, hb, d_rLoc1, d_rLoc2, d_rFld1, d_rFld2, d_eInt, d_eLdc, d_eLdw, d_eLoc, d_eFld, d_lFld, d_eAI, d_eAZ, d_eAB, d_lAL, d_eAD, d_eLen, d_eAdd, d_eSub, d_eMul, d_eAnd, d_eOr, d_eXor, d_eShl, d_eShr, d_eUsh, d_lAdd, d_lSub, d_lMul, d_lAnd, d_lOr, d_lXor, d_lShl, d_lShr, d_eDiv, d_eRem, d_eCmp, d_eI2B, d_eI2S, d_eL2I, d_lI2L, d_lInt, d_lLdc, d_lLoc, d_eIte, d_lIte, d_eMax, d_eMin, d_eAbs, d_eAbove, d_eBodies, d_cQ, d_cZ, d_cNot, d_cAnd, d_cOr, d_gNil, d_gI, d_gL, d_gR, d_gD, d_xV, d_xS, d_xN, d_xT, d_eCall, d_lCall, d_eCallC, d_sNop, d_sSet, d_sSetL, d_sSetR, d_sSetQ, d_sInc, d_sPutI, d_sPutZ, d_sPutL, d_sPutA, d_sPutAZ, d_sPutAB, d_sPutAL, d_sPutD, d_sOpF, d_sOpA, d_sCall, d_sCopy, d_sSeq, d_sIf, d_sBrk, d_sCnt, d_sRetV, d_sRet, d_sRetL, d_sLp, d_tDef, d_tCase, d_sSw, d_sSwB, bIt_d, itb_0, itb_1, itb_2, itb_r, its_0, sqk_0, sqk_1, sqk_2, sqk_r, swk_0, swk_1, swk_r, bfin_r, bfin_ite, Option.bind_some, Option.map_some, Option.bind_none, Option.map_none, bind_ite, map_ite, cop0, cop1, cop2, cop3, cop4, cop5, opv0, opv1, opv2, opv3, brc_i, brc_z, two_ne_one, false_or, getI, getR, getL, List.getElem?_cons_zero, List.getElem?_cons_succ, List.set_cons_zero, List.set_cons_succ, bnl, if_true, if_false, true_or, or_true, decide_eq_true_eq, Bool.not_eq_true', decide_eq_false_iff_not, Bool.not_true, Bool.not_false, Bool.true_eq_false, Bool.false_eq_true, ite_not, reduceIte, ite01_0, ite01_1, Decidable.not_not, ne_eq, not_true_eq_false, not_false_eq_true, Function.comp_apply, decide_not, Bool.not_not, Bool.not_eq_false', dc_t, dc_f, and_self, true_and, and_true, and_false, false_and, tnc]
theorem wg_e (n : Nat) (m : bM) (x a i : Int) (e : L_Tour_waiting_1.1.2 (sem n) [some (aR 117), some (aI x), some (aI 0), some (aI 0)] m = some (.inl (0, [some (aR 117), some (aI x), some (aI a), some (aI i)], m))) : sem (n + 1) 317 [aR 117, aI x] m = some (m, a) := by
  rw [st_Tour_waiting]
  unfold B_Tour_waiting
  revert e
  generalize L_Tour_waiting_1 = LL
  intro e
  simp only [kr_Tour_waiting, e, d_rLoc1, d_rLoc2, d_rFld1, d_rFld2, d_eInt, d_eLdc, d_eLdw, d_eLoc, d_eFld, d_lFld, d_eAI, d_eAZ, d_eAB, d_lAL, d_eAD, d_eLen, d_eAdd, d_eSub, d_eMul, d_eAnd, d_eOr, d_eXor, d_eShl, d_eShr, d_eUsh, d_lAdd, d_lSub, d_lMul, d_lAnd, d_lOr, d_lXor, d_lShl, d_lShr, d_eDiv, d_eRem, d_eCmp, d_eI2B, d_eI2S, d_eL2I, d_lI2L, d_lInt, d_lLdc, d_lLoc, d_eIte, d_lIte, d_eMax, d_eMin, d_eAbs, d_eAbove, d_eBodies, d_cQ, d_cZ, d_cNot, d_cAnd, d_cOr, d_gNil, d_gI, d_gL, d_gR, d_gD, d_xV, d_xS, d_xN, d_xT, d_eCall, d_lCall, d_eCallC, d_sNop, d_sSet, d_sSetL, d_sSetR, d_sSetQ, d_sInc, d_sPutI, d_sPutZ, d_sPutL, d_sPutA, d_sPutAZ, d_sPutAB, d_sPutAL, d_sPutD, d_sOpF, d_sOpA, d_sCall, d_sCopy, d_sSeq, d_sIf, d_sBrk, d_sCnt, d_sRetV, d_sRet, d_sRetL, d_sLp, d_tDef, d_tCase, d_sSw, d_sSwB, bIt_d, itb_0, itb_1, itb_2, itb_r, its_0, sqk_0, sqk_1, sqk_2, sqk_r, swk_0, swk_1, swk_r, bfin_r, bfin_ite, Option.bind_some, Option.map_some, Option.bind_none, Option.map_none, bind_ite, map_ite, cop0, cop1, cop2, cop3, cop4, cop5, opv0, opv1, opv2, opv3, brc_i, brc_z, two_ne_one, false_or, getI, getR, getL, List.getElem?_cons_zero, List.getElem?_cons_succ, List.set_cons_zero, List.set_cons_succ, bnl, if_true, if_false, true_or, or_true, decide_eq_true_eq, Bool.not_eq_true', decide_eq_false_iff_not, Bool.not_true, Bool.not_false, Bool.true_eq_false, Bool.false_eq_true, ite_not, reduceIte, ite01_0, ite01_1, Decidable.not_not, ne_eq, not_true_eq_false, not_false_eq_true, Function.comp_apply, decide_not, Bool.not_not, Bool.not_eq_false', dc_t, dc_f, and_self, true_and, and_true, and_false, false_and, tnc]
theorem f7 {i K : Nat} (h : i < K) (hK : K ≤ 7) : 0 ≤ (i : Int) ∧ (i : Int) < ((7 : Nat) : Int) := by omega
theorem bit_01 (X i : Nat) (hX : X < 2147483648) (hi : i < 31) : (jand (jshr (X : Int) (i : Int)) 1 = 0 ∧ X.testBit i = false) ∨ (¬ jand (jshr (X : Int) (i : Int)) 1 = 0 ∧ X.testBit i = true) := by
  have j := jbit (a := X) (k := i) hX hi
  cases e : X.testBit i with
  | true => rw [e] at j; exact Or.inr ⟨by rw [j]; decide, rfl⟩
  | false => rw [e] at j; exact Or.inl ⟨by rw [j]; rfl, rfl⟩
theorem sp_waiting (n X : Nat) {m : bM} {K : Nat} {rr w : Nat → Int} (hT : TB m K rr w) (hX : X < 2147483648) : sem (n + 1) 317 [aR 117, aI (X : Int)] m = some (m, rdW w (fun j => X.testBit j) K) := by
  have K7 := TB_k7 hT
  refine wg_e n m _ _ (K : Int) ?_
  unfold L_Tour_waiting_1
  rw [d_sLp]
  refine lp_out (fun i => [some (aR 117), some (aI (X : Int)), some (aI (rdW w (fun j => X.testBit j) i)), some (aI (i : Int))]) (fun _ => m) K (by omega) (fun i hi => ?_) (bIt_ex (wg_x _ m _ _ _ _ (TB_k hT) (Int.lt_irrefl _)))
  have b1 : (i : Int) < (K : Int) := by omega
  have b3 : i < 2147483647 := by omega
  have bw := TB_bw hT i hi
  have wi := rdW_in (w := w) (h := fun j => X.testBit j) (k := i) (fun j hj => TB_bw hT j (by omega))
  have i7 : (i : Int) ≤ 7 := by omega
  have sm : i32 (rdW w (fun j => X.testBit j) i + w i) = rdW w (fun j => X.testBit j) i + w i := i32_of (by omega) (by omega)
  refine bIt_go (m1 := m) (wg_c _ m _ _ _ _ (TB_k hT) b1) ?_ (wg_s _ m _ _ _ _ (i32_s b3))
  show _ = some (Sum.inl (0, [some (aR 117), some (aI (X : Int)), some (aI (if X.testBit i = true then rdW w (fun j => X.testBit j) i else rdW w (fun j => X.testBit j) i + w i)), some (aI (i : Int))], m))
  rcases bit_01 X i hX (by omega) with ⟨j, e⟩ | ⟨j, e⟩
  · rw [e]
    exact wg_b0 _ m _ _ _ _ _ i j (f7 hi K7) (tnc i) (TB_w hT i hi) sm
  · rw [e]
    exact wg_b1 _ m _ _ _ j
theorem cv_r (n : Nat) (m : bM) (i x d g a b p q u z y : Int) (Q : Nat) (h1 : i32 (d * g) = a) (h2 : jshl 1 i = b) (h3 : jor x b = p) (h4 : i32 (p * 7) = u) (h5 : i32 (u + i) = q) (f1 : 0 ≤ q ∧ q < ((896 : Nat) : Int)) (tq : q.toNat = Q) (hz : m 123 Q = z) (hy : i32 (a + z) = y) : sem (n + 1) 318 [aR 117, aI i, aI x, aI d, aI g] m = some (m, y) := by
  rw [st_Tour_costVia]
  simp only [B_Tour_costVia, kr_Tour_costVia, h1, h2, h3, h4, h5, f1, tq, hz, hy, d_rLoc1, d_rLoc2, d_rFld1, d_rFld2, d_eInt, d_eLdc, d_eLdw, d_eLoc, d_eFld, d_lFld, d_eAI, d_eAZ, d_eAB, d_lAL, d_eAD, d_eLen, d_eAdd, d_eSub, d_eMul, d_eAnd, d_eOr, d_eXor, d_eShl, d_eShr, d_eUsh, d_lAdd, d_lSub, d_lMul, d_lAnd, d_lOr, d_lXor, d_lShl, d_lShr, d_eDiv, d_eRem, d_eCmp, d_eI2B, d_eI2S, d_eL2I, d_lI2L, d_lInt, d_lLdc, d_lLoc, d_eIte, d_lIte, d_eMax, d_eMin, d_eAbs, d_eAbove, d_eBodies, d_cQ, d_cZ, d_cNot, d_cAnd, d_cOr, d_gNil, d_gI, d_gL, d_gR, d_gD, d_xV, d_xS, d_xN, d_xT, d_eCall, d_lCall, d_eCallC, d_sNop, d_sSet, d_sSetL, d_sSetR, d_sSetQ, d_sInc, d_sPutI, d_sPutZ, d_sPutL, d_sPutA, d_sPutAZ, d_sPutAB, d_sPutAL, d_sPutD, d_sOpF, d_sOpA, d_sCall, d_sCopy, d_sSeq, d_sIf, d_sBrk, d_sCnt, d_sRetV, d_sRet, d_sRetL, d_sLp, d_tDef, d_tCase, d_sSw, d_sSwB, bIt_d, itb_0, itb_1, itb_2, itb_r, its_0, sqk_0, sqk_1, sqk_2, sqk_r, swk_0, swk_1, swk_r, bfin_r, bfin_ite, Option.bind_some, Option.map_some, Option.bind_none, Option.map_none, bind_ite, map_ite, cop0, cop1, cop2, cop3, cop4, cop5, opv0, opv1, opv2, opv3, brc_i, brc_z, two_ne_one, false_or, getI, getR, getL, List.getElem?_cons_zero, List.getElem?_cons_succ, List.set_cons_zero, List.set_cons_succ, bnl, if_true, if_false, true_or, or_true, decide_eq_true_eq, Bool.not_eq_true', decide_eq_false_iff_not, Bool.not_true, Bool.not_false, Bool.true_eq_false, Bool.false_eq_true, ite_not, reduceIte, ite01_0, ite01_1, Decidable.not_not, ne_eq, not_true_eq_false, not_false_eq_true, Function.comp_apply, decide_not, Bool.not_not, Bool.not_eq_false', dc_t, dc_f, and_self, true_and, and_true, and_false, false_and, tnc]
theorem sp_costVia (n X i : Nat) {m : bM} {K : Nat} {rr w : Nat → Int} (hT : TB m K rr w) (hX : X < 2 ^ K) (hC : CF m K rr w X) (hi : i < K) (hb : X.testBit i = false) (r mo : Int) (hr : 0 ≤ r ∧ r ≤ 11) (hm : 0 ≤ mo ∧ mo ≤ 1) : sem (n + 1) 318 [aR 117, aI (i : Int), aI (X : Int), aI (dst r (rr i) + mo), aI (rdW w (fun j => X.testBit j) K)] m = some (m, rdP K rr w (fun j => X.testBit j) r mo i) := by
  have K7 := TB_k7 hT
  have p7 := pw7 K7
  obtain ⟨x1, x2⟩ := X_or hX hi hb
  obtain ⟨Y, hY⟩ : ∃ Y, X ||| 2 ^ i = Y := ⟨_, rfl⟩
  have dd := dst_in hr (TB_br hT i hi)
  have wi := rdW_in (w := w) (h := fun j => X.testBit j) (k := K) (TB_bw hT)
  have lg := rd_leg (a := dst r (rr i) + mo) (b := rdW w (fun j => X.testBit j) K) (by omega) (by omega)
  have cc := rdC_in K7 (TB_br hT) (TB_bw hT) (fun j => Y.testBit j) (rr i) 1 (TB_br hT i hi) (by decide)
  have Y128 : Y < 128 := by omega
  have i7 : i < 7 := by omega
  have i31 : i < 31 := by omega
  have X31 : X < 2147483648 := by omega
  have P31 : 2 ^ i < 2147483648 := Nat.lt_of_lt_of_le (Nat.pow_lt_pow_right (by decide) i31) (by decide)
  have e3 : jor (X : Int) ((2 ^ i : Nat) : Int) = (Y : Int) := by rw [jor_nat X31 P31, hY]
  have cf := hC Y (by rw [← hY]; exact x1) (by rw [← hY]; exact x2) i hi
  unfold rdP
  rw [rdI_X, hY]
  refine cv_r n m _ _ _ _ _ _ _ ((7 * Y + i : Nat) : Int) ((7 * Y : Nat) : Int) _ _ (7 * Y + i) (i32_of (by omega) (by omega)) (jshl_nat i31) e3 ?_ ?_ ?_ (tnc _) cf (i32_of (by omega) (by omega))
  · rw [i32_of (by omega) (by omega)]; omega
  · rw [i32_of (by omega) (by omega)]; omega
  · omega
