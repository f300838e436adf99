/-! ===== pay: the reference, the step ===== -/
theorem lnO_cg {c c1 r r1 : bM} (h65 : c1 65 = c 65) (hr : ∀ i, 162 ≤ i → i ≤ 171 → r1 i = r i) (F : Nat → Int) (s : Int) (o : Option Nat) : lnO F c1 r1 s o = lnO F c r s o := by
  cases o with
  | none => rfl
  | some v =>
    show lnF F c1 r1 s v = lnF F c r s v
    unfold lnF hldB nLn
    simp only [h65, hr 165 (by decide) (by decide), hr 167 (by decide) (by decide), hr 168 (by decide) (by decide), hr 169 (by decide) (by decide), hr 170 (by decide) (by decide), hr 171 (by decide) (by decide)]
theorem ltO_cg {c c1 r r1 : bM} (h65 : c1 65 = c 65) (hr : ∀ i, 162 ≤ i → i ≤ 171 → r1 i = r i) (s d : Int) (o : Option Nat) : ltO c1 r1 s d o = ltO c r s d o := by
  cases o with
  | none => rfl
  | some v =>
    show ltN r1 v d (ltF c1 r1 s v) = ltN r v d (ltF c r s v)
    unfold ltF nLn ltN
    simp only [h65, hr 165 (by decide) (by decide), hr 166 (by decide) (by decide)]
/-- all but what was paid and the fund -/
def apf (c1 c : bM) : Prop := (∀ i, i ≤ 92 → i ≠ 79 → i ≠ 83 → c1 i = c i) ∧ ∀ k, k ≠ 8 → c1 79 k = c 79 k
theorem fct_cg {c c1 : bM} (h : apf c1 c) (k : Nat) : fct c1 k = fct c k := by
  have hc := h.1
  have e1 : cTh c1 k = cTh c k := by unfold cTh; rw [hc 81 (by decide) (by decide) (by decide)]
  have e2 : cPe c1 k = cPe c k := by unfold cPe; rw [hc 80 (by decide) (by decide) (by decide)]
  have e3 : cHs c1 k = cHs c k := by unfold cHs; rw [hc 44 (by decide) (by decide) (by decide), e1]
  have aV : agV c1 c := fun i _ b => hc i (by omega) (by omega) (by omega)
  have aS : agS c1 c := ⟨⟨fun i _ b => hc i (by omega) (by omega) (by omega), by rw [hc 17 (by decide) (by decide) (by decide)]⟩, hc _ (by decide) (by decide) (by decide), hc _ (by decide) (by decide) (by decide)⟩
  have aT : agT c1 c := ⟨hc _ (by decide) (by decide) (by decide), hc _ (by decide) (by decide) (by decide), by rw [hc 37 (by decide) (by decide) (by decide)]⟩
  have aF : agF c1 c := ⟨hc _ (by decide) (by decide) (by decide), hc _ (by decide) (by decide) (by decide), hc _ (by decide) (by decide) (by decide), by rw [hc 37 (by decide) (by decide) (by decide)]⟩
  have e4 : fndB c1 = fndB c := by
    funext t
    unfold fndB nFn
    rw [hc 37 (by decide) (by decide) (by decide)]
    congr 1
    funext f
    unfold cbB
    rw [whoB_congr aV aS aT aF, nTh_congr aT]
  funext i
  match i with
  | 0 => show c1 47 (cTh c1 k) = c 47 (cTh c k); rw [e1, hc _ (by decide) (by decide) (by decide)]
  | 1 => show c1 45 (cTh c1 k) = c 45 (cTh c k); rw [e1, hc _ (by decide) (by decide) (by decide)]
  | 2 => show c1 40 (cPe c1 k) = c 40 (cPe c k); rw [e2, hc _ (by decide) (by decide) (by decide)]
  | 3 => show c1 38 (cPe c1 k) = c 38 (cPe c k); rw [e2, hc _ (by decide) (by decide) (by decide)]
  | 4 => show prN c1 k = prN c k; unfold prN; rw [hc 84 (by decide) (by decide) (by decide), hc 85 (by decide) (by decide) (by decide), h.2 7 (by decide)]
  | 5 => show c1 6 (cHs c1 k) = c 6 (cHs c k); rw [e3, hc _ (by decide) (by decide) (by decide)]
  | 6 => show (if pEach c1 (cHs c1 k) = true then (1 : Int) else 0) = if pEach c (cHs c k) = true then 1 else 0; rw [e3, pEach_congr aV aS]
  | i + 7 => show (if fndB c1 (cTh c1 k) = true then (1 : Int) else 0) = if fndB c (cTh c k) = true then 1 else 0; rw [e1, e4]
theorem verO_cg {c c1 : bM} (h : apf c1 c) (D : Int) : verO c1 D = verO c D := by unfold verO nVs; rw [h.1 63 (by decide) (by decide) (by decide), h.1 64 (by decide) (by decide) (by decide)]
theorem owN_cg {c c1 r r1 : bM} (h : apf c1 c) (hr : ∀ i, 162 ≤ i → i ≤ 171 → r1 i = r i) (F : Nat → Int) (k : Nat) (o : Option Nat) : owN F c1 r1 k o = owN F c r k o := by
  have h65 := h.1 65 (by decide) (by decide) (by decide)
  unfold owN brB
  rw [lnO_cg h65 hr, lnO_cg h65 hr, ltO_cg h65 hr, ltO_cg h65 hr, h.1 82 (by decide) (by decide) (by decide), hr 166 (by decide) (by decide)]
theorem rkN_cg {c c1 r r1 : bM} (h : apf c1 c) (hr : ∀ i, 162 ≤ i → i ≤ 171 → r1 i = r i) (F : Nat → Int) (o : Option Nat) : rkN F c1 r1 o = rkN F c r o := by
  have h65 := h.1 65 (by decide) (by decide) (by decide)
  unfold rkN lnNm
  rw [lnO_cg h65 hr, hr 166 (by decide) (by decide)]
/-! rows -/
theorem mpy_c2 (n : Nat) (m : bM) (a r k N : Int) (x : Option bV) (h : m 133 12 = N) (h2 : k < N) : L_M_pay_2c.1.2 (sem n) [some (aR 132), some (aI a), some (aI r), some (aI k), x] m = some (true, m) := by
  simp only [L_M_pay_2c, nx_12, nm_12, h, h2, d_rLoc1, d_rLoc2, d_rFld1, d_rFld2, d_eInt, d_eLdc, d_eLdw, d_eLoc, d_eFld, d_lFld, d_eAI, d_eAZ, d_eAB, d_lAL, d_eAD, d_eLen, d_eAdd, d_eSub, d_eMul, d_eAnd, d_eOr, d_eXor, d_eShl, d_eShr, d_eUsh, d_lAdd, d_lSub, d_lMul, d_lAnd, d_lOr, d_lXor, d_lShl, d_lShr, d_eDiv, d_eRem, d_eCmp, d_eI2B, d_eI2S, d_eL2I, d_lI2L, d_lInt, d_lLdc, d_lLoc, d_eIte, d_lIte, d_eMax, d_eMin, d_eAbs, d_eAbove, d_eBodies, d_cQ, d_cZ, d_cNot, d_cAnd, d_cOr, d_gNil, d_gI, d_gL, d_gR, d_gD, d_xV, d_xS, d_xN, d_xT, d_eCall, d_lCall, d_eCallC, d_sNop, d_sSet, d_sSetL, d_sSetR, d_sSetQ, d_sInc, d_sPutI, d_sPutZ, d_sPutL, d_sPutA, d_sPutAZ, d_sPutAB, d_sPutAL, d_sPutD, d_sOpF, d_sOpA, d_sCall, d_sCopy, d_sSeq, d_sIf, d_sBrk, d_sCnt, d_sRetV, d_sRet, d_sRetL, d_sLp, d_tDef, d_tCase, d_sSw, d_sSwB, bIt_d, itb_0, itb_1, itb_2, itb_r, its_0, sqk_0, sqk_1, sqk_2, sqk_r, swk_0, swk_1, swk_r, bfin_r, bfin_ite, Option.bind_some, Option.map_some, Option.bind_none, Option.map_none, bind_ite, map_ite, cop0, cop1, cop2, cop3, cop4, cop5, opv0, opv1, opv2, opv3, brc_i, brc_z, two_ne_one, false_or, getI, getR, getL, List.getElem?_cons_zero, List.getElem?_cons_succ, List.set_cons_zero, List.set_cons_succ, bnl, if_true, if_false, true_or, or_true, decide_eq_true_eq, Bool.not_eq_true', decide_eq_false_iff_not, Bool.not_true, Bool.not_false, Bool.true_eq_false, Bool.false_eq_true, ite_not, reduceIte, ite01_0, ite01_1, Decidable.not_not, ne_eq, not_true_eq_false, not_false_eq_true, Function.comp_apply, decide_not, Bool.not_not, Bool.not_eq_false', dc_t, dc_f, and_self, true_and, and_true, and_false, false_and, tnc]
theorem mpy_x2 (n : Nat) (m : bM) (a r k N : Int) (x : Option bV) (h : m 133 12 = N) (h2 : ¬ k < N) : L_M_pay_2c.1.2 (sem n) [some (aR 132), some (aI a), some (aI r), some (aI k), x] m = some (false, m) := by
  simp only [L_M_pay_2c, nx_12, nm_12, h, h2, d_rLoc1, d_rLoc2, d_rFld1, d_rFld2, d_eInt, d_eLdc, d_eLdw, d_eLoc, d_eFld, d_lFld, d_eAI, d_eAZ, d_eAB, d_lAL, d_eAD, d_eLen, d_eAdd, d_eSub, d_eMul, d_eAnd, d_eOr, d_eXor, d_eShl, d_eShr, d_eUsh, d_lAdd, d_lSub, d_lMul, d_lAnd, d_lOr, d_lXor, d_lShl, d_lShr, d_eDiv, d_eRem, d_eCmp, d_eI2B, d_eI2S, d_eL2I, d_lI2L, d_lInt, d_lLdc, d_lLoc, d_eIte, d_lIte, d_eMax, d_eMin, d_eAbs, d_eAbove, d_eBodies, d_cQ, d_cZ, d_cNot, d_cAnd, d_cOr, d_gNil, d_gI, d_gL, d_gR, d_gD, d_xV, d_xS, d_xN, d_xT, d_eCall, d_lCall, d_eCallC, d_sNop, d_sSet, d_sSetL, d_sSetR, d_sSetQ, d_sInc, d_sPutI, d_sPutZ, d_sPutL, d_sPutA, d_sPutAZ, d_sPutAB, d_sPutAL, d_sPutD, d_sOpF, d_sOpA, d_sCall, d_sCopy, d_sSeq, d_sIf, d_sBrk, d_sCnt, d_sRetV, d_sRet, d_sRetL, d_sLp, d_tDef, d_tCase, d_sSw, d_sSwB, bIt_d, itb_0, itb_1, itb_2, itb_r, its_0, sqk_0, sqk_1, sqk_2, sqk_r, swk_0, swk_1, swk_r, bfin_r, bfin_ite, Option.bind_some, Option.map_some, Option.bind_none, Option.map_none, bind_ite, map_ite, cop0, cop1, cop2, cop3, cop4, cop5, opv0, opv1, opv2, opv3, brc_i, brc_z, two_ne_one, false_or, getI, getR, getL, List.getElem?_cons_zero, List.getElem?_cons_succ, List.set_cons_zero, List.set_cons_succ, bnl, if_true, if_false, true_or, or_true, decide_eq_true_eq, Bool.not_eq_true', decide_eq_false_iff_not, Bool.not_true, Bool.not_false, Bool.true_eq_false, Bool.false_eq_true, ite_not, reduceIte, ite01_0, ite01_1, Decidable.not_not, ne_eq, not_true_eq_false, not_false_eq_true, Function.comp_apply, decide_not, Bool.not_not, Bool.not_eq_false', dc_t, dc_f, and_self, true_and, and_true, and_false, false_and, tnc]
theorem mpy_s2 (n : Nat) (m : bM) (a r k z : Int) (x : Option bV) (h : i32 (k + 1) = z) : L_M_pay_2s.1.2 (sem n) [some (aR 132), some (aI a), some (aI r), some (aI k), x] m = some (.inl (0, [some (aR 132), some (aI a), some (aI r), some (aI z), x], m)) := by
  simp only [L_M_pay_2s, h, d_rLoc1, d_rLoc2, d_rFld1, d_rFld2, d_eInt, d_eLdc, d_eLdw, d_eLoc, d_eFld, d_lFld, d_eAI, d_eAZ, d_eAB, d_lAL, d_eAD, d_eLen, d_eAdd, d_eSub, d_eMul, d_eAnd, d_eOr, d_eXor, d_eShl, d_eShr, d_eUsh, d_lAdd, d_lSub, d_lMul, d_lAnd, d_lOr, d_lXor, d_lShl, d_lShr, d_eDiv, d_eRem, d_eCmp, d_eI2B, d_eI2S, d_eL2I, d_lI2L, d_lInt, d_lLdc, d_lLoc, d_eIte, d_lIte, d_eMax, d_eMin, d_eAbs, d_eAbove, d_eBodies, d_cQ, d_cZ, d_cNot, d_cAnd, d_cOr, d_gNil, d_gI, d_gL, d_gR, d_gD, d_xV, d_xS, d_xN, d_xT, d_eCall, d_lCall, d_eCallC, d_sNop, d_sSet, d_sSetL, d_sSetR, d_sSetQ, d_sInc, d_sPutI, d_sPutZ, d_sPutL, d_sPutA, d_sPutAZ, d_sPutAB, d_sPutAL, d_sPutD, d_sOpF, d_sOpA, d_sCall, d_sCopy, d_sSeq, d_sIf, d_sBrk, d_sCnt, d_sRetV, d_sRet, d_sRetL, d_sLp, d_tDef, d_tCase, d_sSw, d_sSwB, bIt_d, itb_0, itb_1, itb_2, itb_r, its_0, sqk_0, sqk_1, sqk_2, sqk_r, swk_0, swk_1, swk_r, bfin_r, bfin_ite, Option.bind_some, Option.map_some, Option.bind_none, Option.map_none, bind_ite, map_ite, cop0, cop1, cop2, cop3, cop4, cop5, opv0, opv1, opv2, opv3, brc_i, brc_z, two_ne_one, false_or, getI, getR, getL, List.getElem?_cons_zero, List.getElem?_cons_succ, List.set_cons_zero, List.set_cons_succ, bnl, if_true, if_false, true_or, or_true, decide_eq_true_eq, Bool.not_eq_true', decide_eq_false_iff_not, Bool.not_true, Bool.not_false, Bool.true_eq_false, Bool.false_eq_true, ite_not, reduceIte, ite01_0, ite01_1, Decidable.not_not, ne_eq, not_true_eq_false, not_false_eq_true, Function.comp_apply, decide_not, Bool.not_not, Bool.not_eq_false', dc_t, dc_f, and_self, true_and, and_true, and_false, false_and, tnc]
theorem mpy_0 (n : Nat) (m : bM) (a r k p d q : Int) (x : Option bV) (K : Nat) (f1 : 0 ≤ k ∧ k < ((16 : Nat) : Int)) (tk : k.toNat = K) (hp : m 175 K = p) (hd : m 133 3 = d) (h : ¬ p < 0 ∨ (p < 0 ∧ sem n 227 [aR 132, aI k, aI d] m = some (m, q) ∧ ¬ q = r)) : L_M_pay_2b.1.2 (sem n) [some (aR 132), some (aI a), some (aI r), some (aI k), x] m = some (.inl (0, [some (aR 132), some (aI a), some (aI r), some (aI k), x], m)) := by
  rcases h with h | ⟨h, h2, h3⟩
  · simp only [L_M_pay_2b, f1, tk, hp, h, d_rLoc1, d_rLoc2, d_rFld1, d_rFld2, d_eInt, d_eLdc, d_eLdw, d_eLoc, d_eFld, d_lFld, d_eAI, d_eAZ, d_eAB, d_lAL, d_eAD, d_eLen, d_eAdd, d_eSub, d_eMul, d_eAnd, d_eOr, d_eXor, d_eShl, d_eShr, d_eUsh, d_lAdd, d_lSub, d_lMul, d_lAnd, d_lOr, d_lXor, d_lShl, d_lShr, d_eDiv, d_eRem, d_eCmp, d_eI2B, d_eI2S, d_eL2I, d_lI2L, d_lInt, d_lLdc, d_lLoc, d_eIte, d_lIte, d_eMax, d_eMin, d_eAbs, d_eAbove, d_eBodies, d_cQ, d_cZ, d_cNot, d_cAnd, d_cOr, d_gNil, d_gI, d_gL, d_gR, d_gD, d_xV, d_xS, d_xN, d_xT, d_eCall, d_lCall, d_eCallC, d_sNop, d_sSet, d_sSetL, d_sSetR, d_sSetQ, d_sInc, d_sPutI, d_sPutZ, d_sPutL, d_sPutA, d_sPutAZ, d_sPutAB, d_sPutAL, d_sPutD, d_sOpF, d_sOpA, d_sCall, d_sCopy, d_sSeq, d_sIf, d_sBrk, d_sCnt, d_sRetV, d_sRet, d_sRetL, d_sLp, d_tDef, d_tCase, d_sSw, d_sSwB, bIt_d, itb_0, itb_1, itb_2, itb_r, its_0, sqk_0, sqk_1, sqk_2, sqk_r, swk_0, swk_1, swk_r, bfin_r, bfin_ite, Option.bind_some, Option.map_some, Option.bind_none, Option.map_none, bind_ite, map_ite, cop0, cop1, cop2, cop3, cop4, cop5, opv0, opv1, opv2, opv3, brc_i, brc_z, two_ne_one, false_or, getI, getR, getL, List.getElem?_cons_zero, List.getElem?_cons_succ, List.set_cons_zero, List.set_cons_succ, bnl, if_true, if_false, true_or, or_true, decide_eq_true_eq, Bool.not_eq_true', decide_eq_false_iff_not, Bool.not_true, Bool.not_false, Bool.true_eq_false, Bool.false_eq_true, ite_not, reduceIte, ite01_0, ite01_1, Decidable.not_not, ne_eq, not_true_eq_false, not_false_eq_true, Function.comp_apply, decide_not, Bool.not_not, Bool.not_eq_false', dc_t, dc_f, and_self, true_and, and_true, and_false, false_and, tnc]
  · simp only [L_M_pay_2b, f1, tk, hp, h, nx_3, nm_3, hd, h2, h3, d_rLoc1, d_rLoc2, d_rFld1, d_rFld2, d_eInt, d_eLdc, d_eLdw, d_eLoc, d_eFld, d_lFld, d_eAI, d_eAZ, d_eAB, d_lAL, d_eAD, d_eLen, d_eAdd, d_eSub, d_eMul, d_eAnd, d_eOr, d_eXor, d_eShl, d_eShr, d_eUsh, d_lAdd, d_lSub, d_lMul, d_lAnd, d_lOr, d_lXor, d_lShl, d_lShr, d_eDiv, d_eRem, d_eCmp, d_eI2B, d_eI2S, d_eL2I, d_lI2L, d_lInt, d_lLdc, d_lLoc, d_eIte, d_lIte, d_eMax, d_eMin, d_eAbs, d_eAbove, d_eBodies, d_cQ, d_cZ, d_cNot, d_cAnd, d_cOr, d_gNil, d_gI, d_gL, d_gR, d_gD, d_xV, d_xS, d_xN, d_xT, d_eCall, d_lCall, d_eCallC, d_sNop, d_sSet, d_sSetL, d_sSetR, d_sSetQ, d_sInc, d_sPutI, d_sPutZ, d_sPutL, d_sPutA, d_sPutAZ, d_sPutAB, d_sPutAL, d_sPutD, d_sOpF, d_sOpA, d_sCall, d_sCopy, d_sSeq, d_sIf, d_sBrk, d_sCnt, d_sRetV, d_sRet, d_sRetL, d_sLp, d_tDef, d_tCase, d_sSw, d_sSwB, bIt_d, itb_0, itb_1, itb_2, itb_r, its_0, sqk_0, sqk_1, sqk_2, sqk_r, swk_0, swk_1, swk_r, bfin_r, bfin_ite, Option.bind_some, Option.map_some, Option.bind_none, Option.map_none, bind_ite, map_ite, cop0, cop1, cop2, cop3, cop4, cop5, opv0, opv1, opv2, opv3, brc_i, brc_z, two_ne_one, false_or, getI, getR, getL, List.getElem?_cons_zero, List.getElem?_cons_succ, List.set_cons_zero, List.set_cons_succ, bnl, if_true, if_false, true_or, or_true, decide_eq_true_eq, Bool.not_eq_true', decide_eq_false_iff_not, Bool.not_true, Bool.not_false, Bool.true_eq_false, Bool.false_eq_true, ite_not, reduceIte, ite01_0, ite01_1, Decidable.not_not, ne_eq, not_true_eq_false, not_false_eq_true, Function.comp_apply, decide_not, Bool.not_not, Bool.not_eq_false', dc_t, dc_f, and_self, true_and, and_true, and_false, false_and, tnc]
theorem mpy_1 (n : Nat) (m : bM) (a r k p d q s f : Int) (x : Option bV) (K : Nat) (f1 : 0 ≤ k ∧ k < ((16 : Nat) : Int)) (tk : k.toNat = K) (hp : m 175 K = p) (hd : m 133 3 = d) (h : p < 0) (h2 : sem n 227 [aR 132, aI k, aI d] m = some (m, q)) (h3 : q = r) (h4 : sem n 226 [aR 132, aI k, aI d] m = some (m, s)) (hf : m 133 4 = f) (h5 : ¬ (0 < s ∧ s ≤ f)) : L_M_pay_2b.1.2 (sem n) [some (aR 132), some (aI a), some (aI r), some (aI k), x] m = some (.inl (0, [some (aR 132), some (aI a), some (aI r), some (aI k), some (aI s)], m)) := by
  have h3 := eq_true h3
  by_cases z : 0 < s
  · have z2 := eq_false (fun y => h5 ⟨z, y⟩)
    simp only [L_M_pay_2b, f1, tk, hp, h, nx_3, nm_3, hd, h2, h3, h4, z, nx_4, nm_4, hf, z2, d_rLoc1, d_rLoc2, d_rFld1, d_rFld2, d_eInt, d_eLdc, d_eLdw, d_eLoc, d_eFld, d_lFld, d_eAI, d_eAZ, d_eAB, d_lAL, d_eAD, d_eLen, d_eAdd, d_eSub, d_eMul, d_eAnd, d_eOr, d_eXor, d_eShl, d_eShr, d_eUsh, d_lAdd, d_lSub, d_lMul, d_lAnd, d_lOr, d_lXor, d_lShl, d_lShr, d_eDiv, d_eRem, d_eCmp, d_eI2B, d_eI2S, d_eL2I, d_lI2L, d_lInt, d_lLdc, d_lLoc, d_eIte, d_lIte, d_eMax, d_eMin, d_eAbs, d_eAbove, d_eBodies, d_cQ, d_cZ, d_cNot, d_cAnd, d_cOr, d_gNil, d_gI, d_gL, d_gR, d_gD, d_xV, d_xS, d_xN, d_xT, d_eCall, d_lCall, d_eCallC, d_sNop, d_sSet, d_sSetL, d_sSetR, d_sSetQ, d_sInc, d_sPutI, d_sPutZ, d_sPutL, d_sPutA, d_sPutAZ, d_sPutAB, d_sPutAL, d_sPutD, d_sOpF, d_sOpA, d_sCall, d_sCopy, d_sSeq, d_sIf, d_sBrk, d_sCnt, d_sRetV, d_sRet, d_sRetL, d_sLp, d_tDef, d_tCase, d_sSw, d_sSwB, bIt_d, itb_0, itb_1, itb_2, itb_r, its_0, sqk_0, sqk_1, sqk_2, sqk_r, swk_0, swk_1, swk_r, bfin_r, bfin_ite, Option.bind_some, Option.map_some, Option.bind_none, Option.map_none, bind_ite, map_ite, cop0, cop1, cop2, cop3, cop4, cop5, opv0, opv1, opv2, opv3, brc_i, brc_z, two_ne_one, false_or, getI, getR, getL, List.getElem?_cons_zero, List.getElem?_cons_succ, List.set_cons_zero, List.set_cons_succ, bnl, if_true, if_false, true_or, or_true, decide_eq_true_eq, Bool.not_eq_true', decide_eq_false_iff_not, Bool.not_true, Bool.not_false, Bool.true_eq_false, Bool.false_eq_true, ite_not, reduceIte, ite01_0, ite01_1, Decidable.not_not, ne_eq, not_true_eq_false, not_false_eq_true, Function.comp_apply, decide_not, Bool.not_not, Bool.not_eq_false', dc_t, dc_f, and_self, true_and, and_true, and_false, false_and, tnc]
  · simp only [L_M_pay_2b, f1, tk, hp, h, nx_3, nm_3, hd, h2, h3, h4, z, d_rLoc1, d_rLoc2, d_rFld1, d_rFld2, d_eInt, d_eLdc, d_eLdw, d_eLoc, d_eFld, d_lFld, d_eAI, d_eAZ, d_eAB, d_lAL, d_eAD, d_eLen, d_eAdd, d_eSub, d_eMul, d_eAnd, d_eOr, d_eXor, d_eShl, d_eShr, d_eUsh, d_lAdd, d_lSub, d_lMul, d_lAnd, d_lOr, d_lXor, d_lShl, d_lShr, d_eDiv, d_eRem, d_eCmp, d_eI2B, d_eI2S, d_eL2I, d_lI2L, d_lInt, d_lLdc, d_lLoc, d_eIte, d_lIte, d_eMax, d_eMin, d_eAbs, d_eAbove, d_eBodies, d_cQ, d_cZ, d_cNot, d_cAnd, d_cOr, d_gNil, d_gI, d_gL, d_gR, d_gD, d_xV, d_xS, d_xN, d_xT, d_eCall, d_lCall, d_eCallC, d_sNop, d_sSet, d_sSetL, d_sSetR, d_sSetQ, d_sInc, d_sPutI, d_sPutZ, d_sPutL, d_sPutA, d_sPutAZ, d_sPutAB, d_sPutAL, d_sPutD, d_sOpF, d_sOpA, d_sCall, d_sCopy, d_sSeq, d_sIf, d_sBrk, d_sCnt, d_sRetV, d_sRet, d_sRetL, d_sLp, d_tDef, d_tCase, d_sSw, d_sSwB, bIt_d, itb_0, itb_1, itb_2, itb_r, its_0, sqk_0, sqk_1, sqk_2, sqk_r, swk_0, swk_1, swk_r, bfin_r, bfin_ite, Option.bind_some, Option.map_some, Option.bind_none, Option.map_none, bind_ite, map_ite, cop0, cop1, cop2, cop3, cop4, cop5, opv0, opv1, opv2, opv3, brc_i, brc_z, two_ne_one, false_or, getI, getR, getL, List.getElem?_cons_zero, List.getElem?_cons_succ, List.set_cons_zero, List.set_cons_succ, bnl, if_true, if_false, true_or, or_true, decide_eq_true_eq, Bool.not_eq_true', decide_eq_false_iff_not, Bool.not_true, Bool.not_false, Bool.true_eq_false, Bool.false_eq_true, ite_not, reduceIte, ite01_0, ite01_1, Decidable.not_not, ne_eq, not_true_eq_false, not_false_eq_true, Function.comp_apply, decide_not, Bool.not_not, Bool.not_eq_false', dc_t, dc_f, and_self, true_and, and_true, and_false, false_and, tnc]
theorem mpy_q (m : bM) (K : Nat) (z : Int) : bwr m 175 K z 133 = m 133 := bwr_ne _ z (by decide)
theorem mpy_2 (n : Nat) (m : bM) (a r k p d q s f g b : Int) (x : Option bV) (K : Nat) (f1 : 0 ≤ k ∧ k < ((16 : Nat) : Int)) (tk : k.toNat = K) (hp : m 175 K = p) (hd : m 133 3 = d) (h : p < 0) (h2 : sem n 227 [aR 132, aI k, aI d] m = some (m, q)) (h3 : q = r) (h4 : sem n 226 [aR 132, aI k, aI d] m = some (m, s)) (hf : m 133 4 = f) (h5 : 0 < s) (h6 : s ≤ f) (hg : i32 (f - s) = g) (hb : i32 (a + 1) = b) : L_M_pay_2b.1.2 (sem n) [some (aR 132), some (aI a), some (aI r), some (aI k), x] m = some (.inl (0, [some (aR 132), some (aI b), some (aI r), some (aI k), some (aI s)], bwr (bwr m 175 K s) 133 4 g)) := by
  have h3 := eq_true h3
  simp only [L_M_pay_2b, f1, tk, hp, h, nx_3, nm_3, hd, h2, h3, h4, h5, nx_4, nm_4, hf, h6, mpy_q, hg, hb, tz_4, d_rLoc1, d_rLoc2, d_rFld1, d_rFld2, d_eInt, d_eLdc, d_eLdw, d_eLoc, d_eFld, d_lFld, d_eAI, d_eAZ, d_eAB, d_lAL, d_eAD, d_eLen, d_eAdd, d_eSub, d_eMul, d_eAnd, d_eOr, d_eXor, d_eShl, d_eShr, d_eUsh, d_lAdd, d_lSub, d_lMul, d_lAnd, d_lOr, d_lXor, d_lShl, d_lShr, d_eDiv, d_eRem, d_eCmp, d_eI2B, d_eI2S, d_eL2I, d_lI2L, d_lInt, d_lLdc, d_lLoc, d_eIte, d_lIte, d_eMax, d_eMin, d_eAbs, d_eAbove, d_eBodies, d_cQ, d_cZ, d_cNot, d_cAnd, d_cOr, d_gNil, d_gI, d_gL, d_gR, d_gD, d_xV, d_xS, d_xN, d_xT, d_eCall, d_lCall, d_eCallC, d_sNop, d_sSet, d_sSetL, d_sSetR, d_sSetQ, d_sInc, d_sPutI, d_sPutZ, d_sPutL, d_sPutA, d_sPutAZ, d_sPutAB, d_sPutAL, d_sPutD, d_sOpF, d_sOpA, d_sCall, d_sCopy, d_sSeq, d_sIf, d_sBrk, d_sCnt, d_sRetV, d_sRet, d_sRetL, d_sLp, d_tDef, d_tCase, d_sSw, d_sSwB, bIt_d, itb_0, itb_1, itb_2, itb_r, its_0, sqk_0, sqk_1, sqk_2, sqk_r, swk_0, swk_1, swk_r, bfin_r, bfin_ite, Option.bind_some, Option.map_some, Option.bind_none, Option.map_none, bind_ite, map_ite, cop0, cop1, cop2, cop3, cop4, cop5, opv0, opv1, opv2, opv3, brc_i, brc_z, two_ne_one, false_or, getI, getR, getL, List.getElem?_cons_zero, List.getElem?_cons_succ, List.set_cons_zero, List.set_cons_succ, bnl, if_true, if_false, true_or, or_true, decide_eq_true_eq, Bool.not_eq_true', decide_eq_false_iff_not, Bool.not_true, Bool.not_false, Bool.true_eq_false, Bool.false_eq_true, ite_not, reduceIte, ite01_0, ite01_1, Decidable.not_not, ne_eq, not_true_eq_false, not_false_eq_true, Function.comp_apply, decide_not, Bool.not_not, Bool.not_eq_false', dc_t, dc_f, and_self, true_and, and_true, and_false, false_and, tnc]
theorem mpy_c1 (n : Nat) (m : bM) (a r : Int) (x y : Option bV) (h : r < 10) : L_M_pay_1c.1.2 (sem n) [some (aR 132), some (aI a), some (aI r), x, y] m = some (true, m) := by
  simp only [L_M_pay_1c, h, d_rLoc1, d_rLoc2, d_rFld1, d_rFld2, d_eInt, d_eLdc, d_eLdw, d_eLoc, d_eFld, d_lFld, d_eAI, d_eAZ, d_eAB, d_lAL, d_eAD, d_eLen, d_eAdd, d_eSub, d_eMul, d_eAnd, d_eOr, d_eXor, d_eShl, d_eShr, d_eUsh, d_lAdd, d_lSub, d_lMul, d_lAnd, d_lOr, d_lXor, d_lShl, d_lShr, d_eDiv, d_eRem, d_eCmp, d_eI2B, d_eI2S, d_eL2I, d_lI2L, d_lInt, d_lLdc, d_lLoc, d_eIte, d_lIte, d_eMax, d_eMin, d_eAbs, d_eAbove, d_eBodies, d_cQ, d_cZ, d_cNot, d_cAnd, d_cOr, d_gNil, d_gI, d_gL, d_gR, d_gD, d_xV, d_xS, d_xN, d_xT, d_eCall, d_lCall, d_eCallC, d_sNop, d_sSet, d_sSetL, d_sSetR, d_sSetQ, d_sInc, d_sPutI, d_sPutZ, d_sPutL, d_sPutA, d_sPutAZ, d_sPutAB, d_sPutAL, d_sPutD, d_sOpF, d_sOpA, d_sCall, d_sCopy, d_sSeq, d_sIf, d_sBrk, d_sCnt, d_sRetV, d_sRet, d_sRetL, d_sLp, d_tDef, d_tCase, d_sSw, d_sSwB, bIt_d, itb_0, itb_1, itb_2, itb_r, its_0, sqk_0, sqk_1, sqk_2, sqk_r, swk_0, swk_1, swk_r, bfin_r, bfin_ite, Option.bind_some, Option.map_some, Option.bind_none, Option.map_none, bind_ite, map_ite, cop0, cop1, cop2, cop3, cop4, cop5, opv0, opv1, opv2, opv3, brc_i, brc_z, two_ne_one, false_or, getI, getR, getL, List.getElem?_cons_zero, List.getElem?_cons_succ, List.set_cons_zero, List.set_cons_succ, bnl, if_true, if_false, true_or, or_true, decide_eq_true_eq, Bool.not_eq_true', decide_eq_false_iff_not, Bool.not_true, Bool.not_false, Bool.true_eq_false, Bool.false_eq_true, ite_not, reduceIte, ite01_0, ite01_1, Decidable.not_not, ne_eq, not_true_eq_false, not_false_eq_true, Function.comp_apply, decide_not, Bool.not_not, Bool.not_eq_false', dc_t, dc_f, and_self, true_and, and_true, and_false, false_and, tnc]
theorem mpy_x1 (n : Nat) (m : bM) (a r : Int) (x y : Option bV) (h : ¬ r < 10) : L_M_pay_1c.1.2 (sem n) [some (aR 132), some (aI a), some (aI r), x, y] m = some (false, m) := by
  simp only [L_M_pay_1c, h, d_rLoc1, d_rLoc2, d_rFld1, d_rFld2, d_eInt, d_eLdc, d_eLdw, d_eLoc, d_eFld, d_lFld, d_eAI, d_eAZ, d_eAB, d_lAL, d_eAD, d_eLen, d_eAdd, d_eSub, d_eMul, d_eAnd, d_eOr, d_eXor, d_eShl, d_eShr, d_eUsh, d_lAdd, d_lSub, d_lMul, d_lAnd, d_lOr, d_lXor, d_lShl, d_lShr, d_eDiv, d_eRem, d_eCmp, d_eI2B, d_eI2S, d_eL2I, d_lI2L, d_lInt, d_lLdc, d_lLoc, d_eIte, d_lIte, d_eMax, d_eMin, d_eAbs, d_eAbove, d_eBodies, d_cQ, d_cZ, d_cNot, d_cAnd, d_cOr, d_gNil, d_gI, d_gL, d_gR, d_gD, d_xV, d_xS, d_xN, d_xT, d_eCall, d_lCall, d_eCallC, d_sNop, d_sSet, d_sSetL, d_sSetR, d_sSetQ, d_sInc, d_sPutI, d_sPutZ, d_sPutL, d_sPutA, d_sPutAZ, d_sPutAB, d_sPutAL, d_sPutD, d_sOpF, d_sOpA, d_sCall, d_sCopy, d_sSeq, d_sIf, d_sBrk, d_sCnt, d_sRetV, d_sRet, d_sRetL, d_sLp, d_tDef, d_tCase, d_sSw, d_sSwB, bIt_d, itb_0, itb_1, itb_2, itb_r, its_0, sqk_0, sqk_1, sqk_2, sqk_r, swk_0, swk_1, swk_r, bfin_r, bfin_ite, Option.bind_some, Option.map_some, Option.bind_none, Option.map_none, bind_ite, map_ite, cop0, cop1, cop2, cop3, cop4, cop5, opv0, opv1, opv2, opv3, brc_i, brc_z, two_ne_one, false_or, getI, getR, getL, List.getElem?_cons_zero, List.getElem?_cons_succ, List.set_cons_zero, List.set_cons_succ, bnl, if_true, if_false, true_or, or_true, decide_eq_true_eq, Bool.not_eq_true', decide_eq_false_iff_not, Bool.not_true, Bool.not_false, Bool.true_eq_false, Bool.false_eq_true, ite_not, reduceIte, ite01_0, ite01_1, Decidable.not_not, ne_eq, not_true_eq_false, not_false_eq_true, Function.comp_apply, decide_not, Bool.not_not, Bool.not_eq_false', dc_t, dc_f, and_self, true_and, and_true, and_false, false_and, tnc]
theorem mpy_s1 (n : Nat) (m : bM) (a r z : Int) (x y : Option bV) (h : i32 (r + 1) = z) : L_M_pay_1s.1.2 (sem n) [some (aR 132), some (aI a), some (aI r), x, y] m = some (.inl (0, [some (aR 132), some (aI a), some (aI z), x, y], m)) := by
  simp only [L_M_pay_1s, h, d_rLoc1, d_rLoc2, d_rFld1, d_rFld2, d_eInt, d_eLdc, d_eLdw, d_eLoc, d_eFld, d_lFld, d_eAI, d_eAZ, d_eAB, d_lAL, d_eAD, d_eLen, d_eAdd, d_eSub, d_eMul, d_eAnd, d_eOr, d_eXor, d_eShl, d_eShr, d_eUsh, d_lAdd, d_lSub, d_lMul, d_lAnd, d_lOr, d_lXor, d_lShl, d_lShr, d_eDiv, d_eRem, d_eCmp, d_eI2B, d_eI2S, d_eL2I, d_lI2L, d_lInt, d_lLdc, d_lLoc, d_eIte, d_lIte, d_eMax, d_eMin, d_eAbs, d_eAbove, d_eBodies, d_cQ, d_cZ, d_cNot, d_cAnd, d_cOr, d_gNil, d_gI, d_gL, d_gR, d_gD, d_xV, d_xS, d_xN, d_xT, d_eCall, d_lCall, d_eCallC, d_sNop, d_sSet, d_sSetL, d_sSetR, d_sSetQ, d_sInc, d_sPutI, d_sPutZ, d_sPutL, d_sPutA, d_sPutAZ, d_sPutAB, d_sPutAL, d_sPutD, d_sOpF, d_sOpA, d_sCall, d_sCopy, d_sSeq, d_sIf, d_sBrk, d_sCnt, d_sRetV, d_sRet, d_sRetL, d_sLp, d_tDef, d_tCase, d_sSw, d_sSwB, bIt_d, itb_0, itb_1, itb_2, itb_r, its_0, sqk_0, sqk_1, sqk_2, sqk_r, swk_0, swk_1, swk_r, bfin_r, bfin_ite, Option.bind_some, Option.map_some, Option.bind_none, Option.map_none, bind_ite, map_ite, cop0, cop1, cop2, cop3, cop4, cop5, opv0, opv1, opv2, opv3, brc_i, brc_z, two_ne_one, false_or, getI, getR, getL, List.getElem?_cons_zero, List.getElem?_cons_succ, List.set_cons_zero, List.set_cons_succ, bnl, if_true, if_false, true_or, or_true, decide_eq_true_eq, Bool.not_eq_true', decide_eq_false_iff_not, Bool.not_true, Bool.not_false, Bool.true_eq_false, Bool.false_eq_true, ite_not, reduceIte, ite01_0, ite01_1, Decidable.not_not, ne_eq, not_true_eq_false, not_false_eq_true, Function.comp_apply, decide_not, Bool.not_not, Bool.not_eq_false', dc_t, dc_f, and_self, true_and, and_true, and_false, false_and, tnc]
theorem mpy_b1 (n : Nat) (m m2 : bM) (a r b k : Int) (x y y2 : Option bV) (e : L_M_pay_2.1.2 (sem n) [some (aR 132), some (aI a), some (aI r), some (aI 0), y] m = some (.inl (0, [some (aR 132), some (aI b), some (aI r), some (aI k), y2], m2))) : L_M_pay_1b.1.2 (sem n) [some (aR 132), some (aI a), some (aI r), x, y] m = some (.inl (0, [some (aR 132), some (aI b), some (aI r), some (aI k), y2], m2)) := by
  unfold L_M_pay_1b
  revert e
  generalize L_M_pay_2 = LL
  intro e
  simp only [e, d_rLoc1, d_rLoc2, d_rFld1, d_rFld2, d_eInt, d_eLdc, d_eLdw, d_eLoc, d_eFld, d_lFld, d_eAI, d_eAZ, d_eAB, d_lAL, d_eAD, d_eLen, d_eAdd, d_eSub, d_eMul, d_eAnd, d_eOr, d_eXor, d_eShl, d_eShr, d_eUsh, d_lAdd, d_lSub, d_lMul, d_lAnd, d_lOr, d_lXor, d_lShl, d_lShr, d_eDiv, d_eRem, d_eCmp, d_eI2B, d_eI2S, d_eL2I, d_lI2L, d_lInt, d_lLdc, d_lLoc, d_eIte, d_lIte, d_eMax, d_eMin, d_eAbs, d_eAbove, d_eBodies, d_cQ, d_cZ, d_cNot, d_cAnd, d_cOr, d_gNil, d_gI, d_gL, d_gR, d_gD, d_xV, d_xS, d_xN, d_xT, d_eCall, d_lCall, d_eCallC, d_sNop, d_sSet, d_sSetL, d_sSetR, d_sSetQ, d_sInc, d_sPutI, d_sPutZ, d_sPutL, d_sPutA, d_sPutAZ, d_sPutAB, d_sPutAL, d_sPutD, d_sOpF, d_sOpA, d_sCall, d_sCopy, d_sSeq, d_sIf, d_sBrk, d_sCnt, d_sRetV, d_sRet, d_sRetL, d_sLp, d_tDef, d_tCase, d_sSw, d_sSwB, bIt_d, itb_0, itb_1, itb_2, itb_r, its_0, sqk_0, sqk_1, sqk_2, sqk_r, swk_0, swk_1, swk_r, bfin_r, bfin_ite, Option.bind_some, Option.map_some, Option.bind_none, Option.map_none, bind_ite, map_ite, cop0, cop1, cop2, cop3, cop4, cop5, opv0, opv1, opv2, opv3, brc_i, brc_z, two_ne_one, false_or, getI, getR, getL, List.getElem?_cons_zero, List.getElem?_cons_succ, List.set_cons_zero, List.set_cons_succ, bnl, if_true, if_false, true_or, or_true, decide_eq_true_eq, Bool.not_eq_true', decide_eq_false_iff_not, Bool.not_true, Bool.not_false, Bool.true_eq_false, Bool.false_eq_true, ite_not, reduceIte, ite01_0, ite01_1, Decidable.not_not, ne_eq, not_true_eq_false, not_false_eq_true, Function.comp_apply, decide_not, Bool.not_not, Bool.not_eq_false', dc_t, dc_f, and_self, true_and, and_true, and_false, false_and, tnc]
theorem mpy_e (n : Nat) (m m1 m2 : bM) (a r : Int) (x y : Option bV) (e0 : sem n 212 [aR 132] m = some (m1, 0)) (e : L_M_pay_1.1.2 (sem n) [some (aR 132), some (aI 0), some (aI 0), none, none] m1 = some (.inl (0, [some (aR 132), some (aI a), some (aI r), x, y], m2))) : sem (n + 1) 96 [aR 132] m = some (m2, a) := by
  rw [st_M_pay]
  unfold B_M_pay
  revert e
  generalize L_M_pay_1 = LL
  intro e
  simp only [kr_M_pay, e0, e, d_rLoc1, d_rLoc2, d_rFld1, d_rFld2, d_eInt, d_eLdc, d_eLdw, d_eLoc, d_eFld, d_lFld, d_eAI, d_eAZ, d_eAB, d_lAL, d_eAD, d_eLen, d_eAdd, d_eSub, d_eMul, d_eAnd, d_eOr, d_eXor, d_eShl, d_eShr, d_eUsh, d_lAdd, d_lSub, d_lMul, d_lAnd, d_lOr, d_lXor, d_lShl, d_lShr, d_eDiv, d_eRem, d_eCmp, d_eI2B, d_eI2S, d_eL2I, d_lI2L, d_lInt, d_lLdc, d_lLoc, d_eIte, d_lIte, d_eMax, d_eMin, d_eAbs, d_eAbove, d_eBodies, d_cQ, d_cZ, d_cNot, d_cAnd, d_cOr, d_gNil, d_gI, d_gL, d_gR, d_gD, d_xV, d_xS, d_xN, d_xT, d_eCall, d_lCall, d_eCallC, d_sNop, d_sSet, d_sSetL, d_sSetR, d_sSetQ, d_sInc, d_sPutI, d_sPutZ, d_sPutL, d_sPutA, d_sPutAZ, d_sPutAB, d_sPutAL, d_sPutD, d_sOpF, d_sOpA, d_sCall, d_sCopy, d_sSeq, d_sIf, d_sBrk, d_sCnt, d_sRetV, d_sRet, d_sRetL, d_sLp, d_tDef, d_tCase, d_sSw, d_sSwB, bIt_d, itb_0, itb_1, itb_2, itb_r, its_0, sqk_0, sqk_1, sqk_2, sqk_r, swk_0, swk_1, swk_r, bfin_r, bfin_ite, Option.bind_some, Option.map_some, Option.bind_none, Option.map_none, bind_ite, map_ite, cop0, cop1, cop2, cop3, cop4, cop5, opv0, opv1, opv2, opv3, brc_i, brc_z, two_ne_one, false_or, getI, getR, getL, List.getElem?_cons_zero, List.getElem?_cons_succ, List.set_cons_zero, List.set_cons_succ, bnl, if_true, if_false, true_or, or_true, decide_eq_true_eq, Bool.not_eq_true', decide_eq_false_iff_not, Bool.not_true, Bool.not_false, Bool.true_eq_false, Bool.false_eq_true, ite_not, reduceIte, ite01_0, ite01_1, Decidable.not_not, ne_eq, not_true_eq_false, not_false_eq_true, Function.comp_apply, decide_not, Bool.not_not, Bool.not_eq_false', dc_t, dc_f, and_self, true_and, and_true, and_false, false_and, tnc]
theorem vpy_e (n : Nat) (m m1 m2 : bM) (v : Int) (e1 : sem n 144 [aR 101] m = some (m1, 0)) (e2 : sem n 173 [aR 111] m1 = some (m2, v)) : sem (n + 1) 38 [aR 0] m = some (m2, v) := by
  rw [st_V_pay]
  simp only [B_V_pay, kr_V_pay, e1, e2, d_rLoc1, d_rLoc2, d_rFld1, d_rFld2, d_eInt, d_eLdc, d_eLdw, d_eLoc, d_eFld, d_lFld, d_eAI, d_eAZ, d_eAB, d_lAL, d_eAD, d_eLen, d_eAdd, d_eSub, d_eMul, d_eAnd, d_eOr, d_eXor, d_eShl, d_eShr, d_eUsh, d_lAdd, d_lSub, d_lMul, d_lAnd, d_lOr, d_lXor, d_lShl, d_lShr, d_eDiv, d_eRem, d_eCmp, d_eI2B, d_eI2S, d_eL2I, d_lI2L, d_lInt, d_lLdc, d_lLoc, d_eIte, d_lIte, d_eMax, d_eMin, d_eAbs, d_eAbove, d_eBodies, d_cQ, d_cZ, d_cNot, d_cAnd, d_cOr, d_gNil, d_gI, d_gL, d_gR, d_gD, d_xV, d_xS, d_xN, d_xT, d_eCall, d_lCall, d_eCallC, d_sNop, d_sSet, d_sSetL, d_sSetR, d_sSetQ, d_sInc, d_sPutI, d_sPutZ, d_sPutL, d_sPutA, d_sPutAZ, d_sPutAB, d_sPutAL, d_sPutD, d_sOpF, d_sOpA, d_sCall, d_sCopy, d_sSeq, d_sIf, d_sBrk, d_sCnt, d_sRetV, d_sRet, d_sRetL, d_sLp, d_tDef, d_tCase, d_sSw, d_sSwB, bIt_d, itb_0, itb_1, itb_2, itb_r, its_0, sqk_0, sqk_1, sqk_2, sqk_r, swk_0, swk_1, swk_r, bfin_r, bfin_ite, Option.bind_some, Option.map_some, Option.bind_none, Option.map_none, bind_ite, map_ite, cop0, cop1, cop2, cop3, cop4, cop5, opv0, opv1, opv2, opv3, brc_i, brc_z, two_ne_one, false_or, getI, getR, getL, List.getElem?_cons_zero, List.getElem?_cons_succ, List.set_cons_zero, List.set_cons_succ, bnl, if_true, if_false, true_or, or_true, decide_eq_true_eq, Bool.not_eq_true', decide_eq_false_iff_not, Bool.not_true, Bool.not_false, Bool.true_eq_false, Bool.false_eq_true, ite_not, reduceIte, ite01_0, ite01_1, Decidable.not_not, ne_eq, not_true_eq_false, not_false_eq_true, Function.comp_apply, decide_not, Bool.not_not, Bool.not_eq_false', dc_t, dc_f, and_self, true_and, and_true, and_false, false_and, tnc]
/-- the reference's memory while it pays: c the class's before, y0 the reference's before; g has what both have paid -/
def pyG (c y0 y g : bM) (s : pyS) : Prop := Rel g y ∧ NgtR g y ∧ apf g c ∧ g 79 8 = s.2.1 ∧ g 83 = s.1 ∧ (∀ i, i ≠ 175 → i ≠ 133 → y i = y0 i) ∧ ∀ k, k ≠ 4 → y 133 k = y0 133 k
theorem pyG_s {c y0 y g : bM} {s : pyS} {k : Nat} {z : Int} (hk : k < 16) (hz : 0 < z ∧ z ≤ 999 ∧ z ≤ s.2.1) (h : pyG c y0 y g s) (b : Nat) : pyG c y0 (bwr (bwr y 175 k z) 133 4 (s.2.1 - z)) (bwr (bwr g 83 k z) 79 8 (s.2.1 - z)) (fun j => if j = k then z else s.1 j, s.2.1 - z, b) := by
  obtain ⟨hR, hr, ha, h1, h2, h3, h4⟩ := h
  have hf := RelC_rfund (Rel_c hR)
  rw [h1] at hf
  obtain ⟨f, hfe⟩ : ∃ f, s.2.1 - z = f := ⟨_, rfl⟩
  have f0 : 0 ≤ f ∧ f ≤ 99999 := by omega
  rw [hfe]
  have oG : ∀ i, i ≠ 79 → i ≠ 83 → bwr (bwr g 83 k z) 79 8 f i = g i := fun i a b => by rw [bwr_ne _ _ a, bwr_ne _ _ b]
  have oY : ∀ i, i ≠ 133 → i ≠ 175 → bwr (bwr y 175 k z) 133 4 f i = y i := fun i a b => by rw [bwr_ne _ _ a, bwr_ne _ _ b]
  have z1 := hz.1
  have z2 := hz.2.1
  have f1 := f0.1
  have f2 := f0.2
  refine ⟨⟨(by obtain ⟨v1, v2, v3, v4, v5, v6, v7, v8, v9, v10, v11, v12, v13, v14⟩ := Rel_n hR; refine ⟨?_, ?_, ?_, ?_, ?_, ?_, ?_, ?_, ?_, ?_, ?_, ?_, ?_, ?_⟩ <;> (try simp (disch := omega) only [fgN, fgP, bwr_ne, bwr_ne2, bwr_eq2]) <;> first | assumption | (intros; (try simp (disch := omega) only [fgN, fgP, bwr_ne, bwr_if] at *); grind)), (RelV_congr (Rel_v hR) (fun i a b => by simp (disch := omega) only [fgN, fgP, bwr_ne, bwr_ne2, bwr_eq2]) (fun i a b => by simp (disch := omega) only [fgN, fgP, bwr_ne, bwr_ne2, bwr_eq2])), (RelS_congr (Rel_s hR) (fun i a b => by simp (disch := omega) only [fgN, fgP, bwr_ne, bwr_ne2, bwr_eq2]) (fun i a b => by simp (disch := omega) only [fgN, fgP, bwr_ne, bwr_ne2, bwr_eq2])), (RelF_congr (Rel_f hR) (fun i a b => by simp (disch := omega) only [fgN, fgP, bwr_ne, bwr_ne2, bwr_eq2]) (fun i a b => by simp (disch := omega) only [fgN, fgP, bwr_ne, bwr_ne2, bwr_eq2])), (RelA_congr (Rel_a hR) (fun i a b => by simp (disch := omega) only [fgN, fgP, bwr_ne, bwr_ne2, bwr_eq2]) (fun i a b => by simp (disch := omega) only [fgN, fgP, bwr_ne, bwr_ne2, bwr_eq2])), (by obtain ⟨v1, v2, v3, v4, v5, v6, v7, v8, v9, v10, v11, v12, v13, v14, v15⟩ := Rel_c hR; refine ⟨?_, ?_, ?_, ?_, ?_, ?_, ?_, ?_, ?_, ?_, ?_, ?_, ?_, ?_, ?_⟩ <;> (try simp (disch := omega) only [fgN, fgP, bwr_ne, bwr_ne2, bwr_eq2]) <;> first | assumption | (intros; (try simp (disch := omega) only [fgN, fgP, bwr_ne, bwr_if] at *); grind))⟩, NgtR_congr hr (fun i _ b => oG i (by omega) (by omega)) ⟨⟨fun i _ b => oG i (by omega) (by omega), by rw [oG 17 (by decide) (by decide)]⟩, oG _ (by decide) (by decide), oG _ (by decide) (by decide)⟩ ⟨oG _ (by decide) (by decide), oG _ (by decide) (by decide), by rw [oG 37 (by decide) (by decide)]⟩ ⟨oG _ (by decide) (by decide), oG _ (by decide) (by decide), oG _ (by decide) (by decide), by rw [oG 37 (by decide) (by decide)]⟩ (by rw [oY 132 (by decide) (by decide)]) (fun i a b => oY i (by omega) (by omega)), ⟨fun i a b e => by rw [oG i b e]; exact ha.1 i a b e, fun j hj => by rw [bwr_ne2 _ hj, bwr_ne _ _ (by decide)]; exact ha.2 j hj⟩, ?_, ?_, fun i a b => by rw [oY i b a]; exact h3 i a b, fun j hj => by rw [bwr_ne2 _ hj, bwr_ne _ _ (by decide)]; exact h4 j hj⟩
  · rw [bwr_eq2]
  · rw [bwr_ne _ _ (by decide), bwr_fun, h2]
theorem mpy_l2 (n : Nat) {c y0 y g : bM} (hRc : Rel c c) (hy0 : ∀ i, 162 ≤ i → i ≤ 171 → y0 i = c i) (ht0 : y0 133 3 = c 79 9) (R : Nat) (s : pyS) (hn : s.2.2 ≤ 500) (hs : pyOK s) (h : pyG c y0 y g s) (x : Option bV) : ∃ y2 g2 x2, L_M_pay_2.1.2 (sem (n + 8)) [some (aR 132), some (aI (s.2.2 : Int)), some (aI (R : Int)), some (aI 0), x] y = some (.inl (0, [some (aR 132), some (aI ((py2 (rkC c) (smC c) (R : Int) s (c 79 6).toNat).2.2 : Int)), some (aI (R : Int)), some (aI (((c 79 6).toNat : Nat) : Int)), x2], y2)) ∧ pyG c y0 y2 g2 (py2 (rkC c) (smC c) (R : Int) s (c 79 6).toNat) := by
  have rc := RelC_rcount (Rel_c hRc)
  have hm := fun j hj => smC_le hRc j hj
  obtain ⟨N, hN⟩ : ∃ N : Nat, (N : Int) = c 79 6 := ⟨(c 79 6).toNat, by omega⟩
  have eN : (c 79 6).toNat = N := by omega
  rw [eN]
  have key := lp_n (cc := L_M_pay_2c.1.2 (sem (n + 8))) (b := L_M_pay_2b.1.2 (sem (n + 8))) (s := L_M_pay_2s.1.2 (sem (n + 8))) (fun k ls mc => ∃ x g, ls = [some (aR 132), some (aI ((py2 (rkC c) (smC c) (R : Int) s k).2.2 : Int)), some (aI (R : Int)), some (aI (k : Int)), x] ∧ pyG c y0 mc g (py2 (rkC c) (smC c) (R : Int) s k)) N 0 bF [some (aR 132), some (aI (s.2.2 : Int)), some (aI (R : Int)), some (aI 0), x] y (by show N < 1000; omega) ⟨x, g, rfl, h⟩ (fun k ls mc hk0 hk hQ => ?_) (fun ls mc hQ => ?_)
  · obtain ⟨ls2, y2, e2, x2, g2, e3, p2⟩ := key
    subst e3
    rw [Nat.zero_add] at e2 p2
    refine ⟨y2, g2, x2, ?_, p2⟩
    unfold L_M_pay_2
    rw [d_sLp]
    exact e2
  · obtain ⟨x1, g1, e3, hG⟩ := hQ
    subst e3
    have hok := py2_ok (rk := rkC c) (R := (R : Int)) hm hs k (by omega)
    have hnn := py2_n (rk := rkC c) (sm := smC c) (R := (R : Int)) (s := s) k
    show ∃ ls' m', _ ∧ ∃ x g, ls' = [some (aR 132), some (aI ((pyStep (rkC c) (smC c) (R : Int) k (py2 (rkC c) (smC c) (R : Int) s k)).2.2 : Int)), some (aI (R : Int)), some (aI ((k + 1 : Nat) : Int)), x] ∧ pyG c y0 m' g (pyStep (rkC c) (smC c) (R : Int) k (py2 (rkC c) (smC c) (R : Int) s k))
    revert hG hok hnn
    generalize py2 (rkC c) (smC c) (R : Int) s k = q
    intro hG hok hnn
    obtain ⟨hR, hr, ha, q1, q2, q3, q4⟩ := id hG
    have k16 : k < 16 := by omega
    have b1 : (k : Int) < (N : Int) := by omega
    have b3 : k < 2147483647 := by omega
    have c3 : q.2.2 < 2147483647 := by omega
    have hc : mc 133 12 = (N : Int) := by rw [RelN_count (Rel_n hR), ha.2 6 (by decide), hN]
    have hd : mc 133 3 = c 79 9 := by rw [q4 3 (by decide)]; exact ht0
    have hf : mc 133 4 = q.2.1 := by rw [RelN_fund (Rel_n hR), q1]
    have hp := RelC_paid (Rel_c hR) k k16
    rw [q2] at hp
    have hyr : ∀ i, 162 ≤ i → i ≤ 171 → mc i = c i := fun i a b => by rw [q3 i (by omega) (by omega)]; exact hy0 i a b
    have er := sp_rankOf (n + 1) k hR hr k16 (c 79 9)
    rw [fct_cg ha, verO_cg ha, rkN_cg ha hyr] at er
    have eo := sp_M_owed n k hR hr k16 (c 79 9)
    rw [fct_cg ha, verO_cg ha, owN_cg ha hyr] at eo
    have er : sem (n + 8) 227 [aR 132, aI (k : Int), aI (c 79 9)] mc = some (mc, rkC c k) := er
    have eo : sem (n + 8) 226 [aR 132, aI (k : Int), aI (c 79 9)] mc = some (mc, smC c k) := eo
    have sk := hm k k16
    have hqf := hok.2
    unfold pyStep
    by_cases z : rkC c k = (R : Int) ∧ q.1 k = -3 ∧ 0 < smC c k ∧ smC c k ≤ q.2.1
    · rw [if_pos z]
      refine ⟨_, _, bIt_go (m1 := mc) (mpy_c2 _ mc _ _ _ _ _ hc b1) (mpy_2 _ mc _ _ _ _ _ _ _ _ (q.2.1 - smC c k) _ x1 k (f16 k16) (tnc k) rfl hd (by omega) er z.1 eo hf z.2.2.1 z.2.2.2 (i32_of (by omega) (by omega)) (i32_s c3)) (mpy_s2 _ _ _ _ _ _ _ (i32_s b3)), _, _, rfl, pyG_s k16 ⟨z.2.2.1, sk, z.2.2.2⟩ hG _⟩
    · rw [if_neg z]
      by_cases z2 : q.1 k = -3
      · have pl : mc 175 k < 0 := by omega
        by_cases z1 : rkC c k = (R : Int)
        · refine ⟨_, mc, bIt_go (m1 := mc) (mpy_c2 _ mc _ _ _ _ _ hc b1) (mpy_1 _ mc _ _ _ _ _ _ _ _ x1 k (f16 k16) (tnc k) rfl hd pl er z1 eo hf (fun y => z ⟨z1, z2, y.1, y.2⟩)) (mpy_s2 _ _ _ _ _ _ _ (i32_s b3)), _, g1, rfl, hG⟩
        · exact ⟨_, mc, bIt_go (m1 := mc) (mpy_c2 _ mc _ _ _ _ _ hc b1) (mpy_0 _ mc _ _ _ _ _ _ x1 k (f16 k16) (tnc k) rfl hd (Or.inr ⟨pl, er, z1⟩)) (mpy_s2 _ _ _ _ _ _ _ (i32_s b3)), _, g1, rfl, hG⟩
      · have pl : ¬ mc 175 k < 0 := by omega
        exact ⟨_, mc, bIt_go (m1 := mc) (mpy_c2 _ mc _ _ _ _ _ hc b1) (mpy_0 _ mc _ _ _ _ _ 0 x1 k (f16 k16) (tnc k) rfl hd (Or.inl pl)) (mpy_s2 _ _ _ _ _ _ _ (i32_s b3)), _, g1, rfl, hG⟩
  · obtain ⟨x1, g1, e3, hG⟩ := hQ
    subst e3
    have hc : mc 133 12 = (N : Int) := by rw [RelN_count (Rel_n hG.1), hG.2.2.1.2 6 (by decide), hN]
    rw [Nat.zero_add]
    exact bIt_ex (mpy_x2 _ mc _ _ _ _ _ hc (Int.lt_irrefl _))
theorem step_pay {n i : Nat} {m : bM} (hI : Inv i m) (hi : i < 100) : ∃ m1 m2 v, sem (n + 13) 38 [aR 0] m = some (m1, v) ∧ sem (n + 13) 96 [aR 132] m1 = some (m2, v) ∧ Inv (i + 1) m2 := by
  have hR0 := Inv_rel hI
  obtain ⟨c, e1, hn, fr, hg⟩ := sp_gather (n + 6) hR0 (Inv_ngt hI)
  have hI1 := Inv_gat hI fr hn
  have hR := Inv_rel hI1
  have rc := RelC_rcount (Rel_c hR)
  have hN16 : (c 79 6).toNat ≤ 16 := by omega
  have hm := fun j hj => smC_le hR j hj
  have h0 : pyOK (py0 c) := ⟨fun k hk => by
    have := RelC_paid (Rel_c hR) k hk
    show c 83 k = -3 ∨ (0 ≤ c 83 k ∧ c 83 k ≤ 999)
    omega, (RelC_rfund (Rel_c hR)).1, (RelC_rfund (Rel_c hR)).2⟩
  obtain ⟨y, e2, p1, p2, p3, p4, p5⟩ := sp_payByRanks (n + 6) hI1 hg
  have hW : RelW y y := RelW_congr (Rel_rw hR) (fun j a b => p1 j (by omega) (by omega) (by omega)) (fun j a b => p1 j (by omega) (by omega) (by omega))
  have aVy : agV y c := fun j _ b => p1 j (by omega) (by omega) (by omega)
  have aSy : agS y c := ⟨⟨fun j _ b => p1 j (by omega) (by omega) (by omega), by rw [p1 17 (by omega) (by omega) (by omega)]⟩, p1 _ (by omega) (by omega) (by omega), p1 _ (by omega) (by omega) (by omega)⟩
  have aTy : agT y c := ⟨p1 _ (by omega) (by omega) (by omega), p1 _ (by omega) (by omega) (by omega), by rw [p1 37 (by omega) (by omega) (by omega)]⟩
  have aFy : agF y c := ⟨p1 _ (by omega) (by omega) (by omega), p1 _ (by omega) (by omega) (by omega), p1 _ (by omega) (by omega) (by omega), by rw [p1 37 (by omega) (by omega) (by omega)]⟩
  obtain ⟨y0, e3, hr0, hf0, g0⟩ := sp_surveyw (n + 8) hW (by
    rw [p1 132 (by omega) (by omega) (by omega)]
    exact (Inv_fresh hI1).imp id (fun z => ⟨z.1, NgtR_congr z.2 aVy aSy aTy aFy (by rw [p1 132 (by omega) (by omega) (by omega)]) (fun j a b => p1 j (by omega) (by omega) (by omega))⟩))
  have hrc : NgtR c y0 := NgtR_congr hr0 (fun j a b => (aVy j a b).symm) ⟨⟨fun j a b => (aSy.1.1 j a b).symm, aSy.1.2.symm⟩, aSy.2.1.symm, aSy.2.2.symm⟩ ⟨aTy.1.symm, aTy.2.1.symm, aTy.2.2.symm⟩ ⟨aFy.1.symm, aFy.2.1.symm, aFy.2.2.1.symm, aFy.2.2.2.symm⟩ rfl (fun _ _ _ => rfl)
  have y0c : ∀ j, 133 ≤ j → j ≤ 178 → y0 j = c j := fun j a b => by rw [g0.1 j (by omega), p1 j (by omega) (by omega) (by omega)]
  have G0 : pyG c y0 y0 c (py0 c) := ⟨Rel_congr hR (fun _ _ _ => rfl) (fun j a b => y0c j a (by omega)), hrc, ⟨fun _ _ _ _ => rfl, fun _ _ => rfl⟩, rfl, rfl, fun _ _ _ => rfl, fun _ _ => rfl⟩
  have ht0 : y0 133 3 = c 79 9 := by rw [y0c 133 (by decide) (by decide)]; exact RelN_today (Rel_n hR)
  have key := lp_n (cc := L_M_pay_1c.1.2 (sem (n + 12))) (b := L_M_pay_1b.1.2 (sem (n + 12))) (s := L_M_pay_1s.1.2 (sem (n + 12))) (fun R ls mc => ∃ x z g, ls = [some (aR 132), some (aI ((py1 (rkC c) (smC c) (c 79 6).toNat (py0 c) R).2.2 : Int)), some (aI (R : Int)), x, z] ∧ pyG c y0 mc g (py1 (rkC c) (smC c) (c 79 6).toNat (py0 c) R)) 10 0 bF [some (aR 132), some (aI 0), some (aI 0), none, none] y0 (by decide) ⟨none, none, c, rfl, G0⟩ (fun R ls mc hR0 hR1 hQ => ?_) (fun ls mc hQ => ?_)
  · obtain ⟨ls2, y2, e4, x, z, g, e5, hG⟩ := key
    subst e5
    have hG : pyG c y0 y2 g (pyF c) := hG
    obtain ⟨k1, k2, k3, k4, k5, k6, k7⟩ := hG
    refine ⟨y, y2, _, vpy_e (n + 12) m c y _ e1 e2, mpy_e (n + 12) y y0 y2 _ (10 : Int) x z e3 (by unfold L_M_pay_1; rw [d_sLp]; exact e4), ?_⟩
    have cl : ∀ j, j ≤ 131 → y2 j = y j := fun j hj => by rw [k6 j (by omega) (by omega), g0.1 j (by omega)]
    have eg : ∀ j, j ≤ 92 → y2 j = g j := fun j hj => by
      rw [cl j (by omega)]
      by_cases z1 : j = 79
      · subst z1
        funext k
        by_cases z2 : k = 8
        · subst z2; rw [p3, k4]
        · rw [p2 k z2, k3.2 k z2]
      · by_cases z2 : j = 83
        · subst z2; rw [p4, k5]
        · rw [p1 j (by omega) z1 z2, k3.1 j hj z1 z2]
    have hRel : Rel y2 y2 := Rel_congr k1 (fun j a b => eg j b) (fun _ _ _ => rfl)
    have o2 : ∀ j, (j ≤ 131 → j < 112 ∨ 116 < j) → j ≠ 79 → j ≠ 83 → (j ≤ 131 ∨ 133 ≤ j ∧ j ≤ 178 ∨ 189 ≤ j) → j ≠ 133 → j ≠ 175 → y2 j = c j := fun j a b d e f g => by
      rw [k6 j g f, g0.1 j (by omega)]
      by_cases z1 : j ≤ 131
      · exact p1 j (a z1) b d
      · exact p1 j (by omega) b d
    have oM : ∀ k, k ≠ 53 → k ≠ 59 → y2 132 k = c 132 k := fun k a b => by rw [k6 132 (by decide) (by decide), g0.2 k a b, p1 132 (by omega) (by omega) (by omega)]
    have om : ∀ j, (j = 0 ∨ 9 ≤ j ∧ j ≤ 16 ∨ 27 ≤ j ∧ j ≤ 36 ∨ 50 ≤ j ∧ j ≤ 62 ∨ 71 ≤ j ∧ j ≤ 78 ∨ 86 ≤ j ∧ j ≤ 92 ∨ j = 109 ∨ j = 110 ∨ 117 ≤ j ∧ j ≤ 119 ∨ 124 ≤ j ∧ j ≤ 131 ∨ j = 178 ∨ j = 192 ∨ 195 ≤ j ∧ j ≤ 203) → y2 j = c j := fun j hj => o2 j (by omega) (by omega) (by omega) (by omega) (by omega) (by omega)
    have ag : ∀ j, j ≤ 49 → y2 j = c j := fun j hj => o2 j (by omega) (by omega) (by omega) (by omega) (by omega) (by omega)
    have aV2 : agV y2 c := fun j _ b => ag j (by omega)
    have aS2 : agS y2 c := ⟨⟨fun j _ b => ag j (by omega), by rw [ag 17 (by decide)]⟩, ag _ (by decide), ag _ (by decide)⟩
    have aT2 : agT y2 c := ⟨ag _ (by decide), ag _ (by decide), by rw [ag 37 (by decide)]⟩
    refine Inv_of hI1 (Rest_fr om oM) hRel (NgtC_congr (Inv_ngt hI1) aV2 aS2 aT2 (fun j a b => o2 j (by omega) (by omega) (by omega) (by omega) (by omega) (by omega))) (Or.inr ⟨by rw [k6 132 (by decide) (by decide)]; exact hf0, ?_⟩)
    exact NgtR_congr k2 (fun j _ b => eg j (by omega)) ⟨⟨fun j _ b => eg j (by omega), by rw [eg 17 (by decide)]⟩, eg _ (by decide), eg _ (by decide)⟩ ⟨eg _ (by decide), eg _ (by decide), by rw [eg 37 (by decide)]⟩ ⟨eg _ (by decide), eg _ (by decide), eg _ (by decide), by rw [eg 37 (by decide)]⟩ rfl (fun _ _ _ => rfl)
  · obtain ⟨x, z, g, e5, hG⟩ := hQ
    subst e5
    have b1 : (R : Int) < 10 := by omega
    have b3 : R < 2147483647 := by omega
    obtain ⟨y2, g2, x2, e6, p6⟩ := mpy_l2 (n + 4) hR (fun j a b => y0c j (by omega) (by omega)) ht0 R _ (by have := py1_500 (rk := rkC c) (sm := smC c) (s := py0 c) hN16 rfl R (by omega); omega) (py1_ok hN16 hm h0 R) hG z
    exact ⟨_, y2, bIt_go (m1 := mc) (mpy_c1 _ mc _ _ _ _ b1) (mpy_b1 _ mc y2 _ _ _ _ x z x2 e6) (mpy_s1 _ y2 _ _ _ _ _ (i32_s b3)), _, _, g2, rfl, p6⟩
  · obtain ⟨x, z, g, e5, hG⟩ := hQ
    subst e5
    exact bIt_ex (mpy_x1 _ mc _ _ _ _ (by decide))
