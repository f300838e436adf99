/-! ===== sheet ===== -/
/-- a loop of N turns that writes M, then out by what the locals say -/
theorem lp_e {c : bLs → bM → Option (Bool × bM)} {b s : bLs → bM → Option bRs} (L : Nat → bLs) (M : Nat → bM) (P : bM → Prop) (N : Nat) (hN : N < 1000) (h : ∀ k, k < N → bIt c b s (L k) (M k) = some (.inl (0, L (k + 1), M (k + 1)))) (hP : P (M N)) (hx : ∀ m, P m → bIt c b s (L N) m = some (.inl (1, L N, m))) : bLp c b s bF (L 0) (M 0) = some (.inl (0, L N, M N)) := lp_out L M N hN h (hx _ hP)
section
variable {c : bLs → bM → Option (Bool × bM)} {b s : bLs → bM → Option bRs} {ls ls2 ls3 : bLs} {m m1 m2 m3 : bM}
theorem bIt_go (hc : c ls m = some (true, m1)) (hb : b ls m1 = some (.inl (0, ls2, m2))) (hs : s ls2 m2 = some (.inl (0, ls3, m3))) : bIt c b s ls m = some (.inl (0, ls3, m3)) := by
  rw [bIt_d, hc, Option.bind_some]
  show (if true = true then _ else _) = _
  rw [if_pos rfl, hb, Option.bind_some, itb_0, hs, Option.bind_some, its_0]
theorem bIt_cn (hc : c ls m = some (true, m1)) (hb : b ls m1 = some (.inl (2, ls2, m2))) (hs : s ls2 m2 = some (.inl (0, ls3, m3))) : bIt c b s ls m = some (.inl (0, ls3, m3)) := by
  rw [bIt_d, hc, Option.bind_some]
  show (if true = true then _ else _) = _
  rw [if_pos rfl, hb, Option.bind_some, itb_2, hs, Option.bind_some, its_0]
theorem bIt_rt {q : bM × Int} (hc : c ls m = some (true, m1)) (hb : b ls m1 = some (.inr q)) : bIt c b s ls m = some (.inr q) := by
  rw [bIt_d, hc, Option.bind_some]
  show (if true = true then _ else _) = _
  rw [if_pos rfl, hb, Option.bind_some, itb_r]
theorem bIt_ex (hc : c ls m = some (false, m1)) : bIt c b s ls m = some (.inl (1, ls, m1)) := by
  rw [bIt_d, hc, Option.bind_some]
  rfl
end
def fil (m : bM) (c a : Nat) (f : Nat → Int) : Nat → bM
  | 0 => m
  | k + 1 => bwr (fil m c a f k) c (a + k) (f k)
theorem fil_ne (m : bM) (c a : Nat) (f : Nat → Int) : ∀ (k i : Nat), i ≠ c → fil m c a f k i = m i
  | 0, _, _ => rfl
  | k + 1, i, h => by
    show bwr (fil m c a f k) c (a + k) (f k) i = m i
    rw [bwr_ne _ _ h, fil_ne m c a f k i h]
theorem fil_c (m : bM) (c a : Nat) (f : Nat → Int) : ∀ (k j : Nat), fil m c a f k c j = if a ≤ j ∧ j < a + k then f (j - a) else m c j
  | 0, j => by rw [if_neg (by omega)]; rfl
  | k + 1, j => by
    show bwr (fil m c a f k) c (a + k) (f k) c j = _
    rw [bwr_if, fil_c m c a f k j]
    by_cases h : j = a + k
    · rw [if_pos h, if_pos (by omega), show j - a = k by omega]
    · rw [if_neg h]
      by_cases h2 : a ≤ j ∧ j < a + k
      · rw [if_pos h2, if_pos (by omega)]
      · rw [if_neg h2, if_neg (by omega)]
theorem i32_x40 {S : Nat} (h : S < 4) : i32 ((S : Int) * 40) = ((40 * S : Nat) : Int) := by rw [i32_of (by omega) (by omega)]; omega
theorem i32_40x {S : Nat} (h : S < 4) : i32 (40 * (S : Int)) = ((40 * S : Nat) : Int) := by rw [i32_of (by omega) (by omega)]; omega
theorem i32_x8 {S : Nat} (h : S < 4) : i32 ((S : Int) * 8) = ((8 * S : Nat) : Int) := by rw [i32_of (by omega) (by omega)]; omega
theorem i32_8x {S : Nat} (h : S < 4) : i32 (8 * (S : Int)) = ((8 * S : Nat) : Int) := by rw [i32_of (by omega) (by omega)]; omega
def shV (K : Nat) (m : bM) (S : Nat) (t x : Int) : bM := fil (bwr (bwr m 125 S t) 126 S x) 127 (40 * S) (fun _ => 0) K
def shM (K : Nat) (m : bM) (S : Nat) (t x : Int) : bM := fil (bwr (bwr m 197 S t) 198 S x) 199 (40 * S) (fun _ => 0) K
theorem mkS_1 (n S : Nat) (e0 : 0 ≤ (S : Int) ∧ (S : Int) < ((4 : Nat) : Int)) (t x : Int) (m : bM) : (sPutA 4 (rFld (rLoc 0 124) 125 flX3_9) (eLoc 1) (eLoc 2) : ES K_Host_makeSheet).1.2 (sem n) [some (aR 124), some (aI (S : Int)), some (aI t), some (aI x), none] m = some (.inl (0, [some (aR 124), some (aI (S : Int)), some (aI t), some (aI x), none], bwr m 125 S t)) := by
  simp only [e0, d_rLoc1, d_rLoc2, d_rFld1, d_rFld2, d_eInt, d_eLdc, d_eLdw, d_eLoc, d_eFld, d_lFld, d_eAI, d_eAZ, d_eAB, d_lAL, d_eAD, d_eLen, d_eAdd, d_eSub, d_eMul, d_eAnd, d_eOr, d_eXor, d_eShl, d_eShr, d_eUsh, d_lAdd, d_lSub, d_lMul, d_lAnd, d_lOr, d_lXor, d_lShl, d_lShr, d_eDiv, d_eRem, d_eCmp, d_eI2B, d_eI2S, d_eL2I, d_lI2L, d_lInt, d_lLdc, d_lLoc, d_eIte, d_lIte, d_eMax, d_eMin, d_eAbs, d_eAbove, d_eBodies, d_cQ, d_cZ, d_cNot, d_cAnd, d_cOr, d_gNil, d_gI, d_gL, d_gR, d_gD, d_xV, d_xS, d_xN, d_xT, d_eCall, d_lCall, d_eCallC, d_sNop, d_sSet, d_sSetL, d_sSetR, d_sSetQ, d_sInc, d_sPutI, d_sPutZ, d_sPutL, d_sPutA, d_sPutAZ, d_sPutAB, d_sPutAL, d_sPutD, d_sOpF, d_sOpA, d_sCall, d_sCopy, d_sSeq, d_sIf, d_sBrk, d_sCnt, d_sRetV, d_sRet, d_sRetL, d_sLp, d_tDef, d_tCase, d_sSw, d_sSwB, bIt_d, itb_0, itb_1, itb_2, itb_r, its_0, sqk_0, sqk_1, sqk_2, sqk_r, swk_0, swk_1, swk_r, bfin_r, bfin_ite, Option.bind_some, Option.map_some, Option.bind_none, Option.map_none, bind_ite, map_ite, cop0, cop1, cop2, cop3, cop4, cop5, opv0, opv1, opv2, opv3, brc_i, brc_z, two_ne_one, false_or, getI, getR, getL, List.getElem?_cons_zero, List.getElem?_cons_succ, List.set_cons_zero, List.set_cons_succ, bnl, if_true, if_false, true_or, or_true, decide_eq_true_eq, Bool.not_eq_true', decide_eq_false_iff_not, Bool.not_true, Bool.not_false, Bool.true_eq_false, Bool.false_eq_true, ite_not, reduceIte, ite01_0, ite01_1, Decidable.not_not, ne_eq, not_true_eq_false, not_false_eq_true, Function.comp_apply, decide_not, Bool.not_not, Bool.not_eq_false', dc_t, dc_f, and_self, true_and, and_true, and_false, false_and, tnc]
theorem mkS_2 (n S : Nat) (e0 : 0 ≤ (S : Int) ∧ (S : Int) < ((4 : Nat) : Int)) (t x : Int) (m : bM) : (sPutA 4 (rFld (rLoc 0 124) 126 flX3_15) (eLoc 1) (eLoc 3) : ES K_Host_makeSheet).1.2 (sem n) [some (aR 124), some (aI (S : Int)), some (aI t), some (aI x), none] m = some (.inl (0, [some (aR 124), some (aI (S : Int)), some (aI t), some (aI x), none], bwr m 126 S x)) := by
  simp only [e0, d_rLoc1, d_rLoc2, d_rFld1, d_rFld2, d_eInt, d_eLdc, d_eLdw, d_eLoc, d_eFld, d_lFld, d_eAI, d_eAZ, d_eAB, d_lAL, d_eAD, d_eLen, d_eAdd, d_eSub, d_eMul, d_eAnd, d_eOr, d_eXor, d_eShl, d_eShr, d_eUsh, d_lAdd, d_lSub, d_lMul, d_lAnd, d_lOr, d_lXor, d_lShl, d_lShr, d_eDiv, d_eRem, d_eCmp, d_eI2B, d_eI2S, d_eL2I, d_lI2L, d_lInt, d_lLdc, d_lLoc, d_eIte, d_lIte, d_eMax, d_eMin, d_eAbs, d_eAbove, d_eBodies, d_cQ, d_cZ, d_cNot, d_cAnd, d_cOr, d_gNil, d_gI, d_gL, d_gR, d_gD, d_xV, d_xS, d_xN, d_xT, d_eCall, d_lCall, d_eCallC, d_sNop, d_sSet, d_sSetL, d_sSetR, d_sSetQ, d_sInc, d_sPutI, d_sPutZ, d_sPutL, d_sPutA, d_sPutAZ, d_sPutAB, d_sPutAL, d_sPutD, d_sOpF, d_sOpA, d_sCall, d_sCopy, d_sSeq, d_sIf, d_sBrk, d_sCnt, d_sRetV, d_sRet, d_sRetL, d_sLp, d_tDef, d_tCase, d_sSw, d_sSwB, bIt_d, itb_0, itb_1, itb_2, itb_r, its_0, sqk_0, sqk_1, sqk_2, sqk_r, swk_0, swk_1, swk_r, bfin_r, bfin_ite, Option.bind_some, Option.map_some, Option.bind_none, Option.map_none, bind_ite, map_ite, cop0, cop1, cop2, cop3, cop4, cop5, opv0, opv1, opv2, opv3, brc_i, brc_z, two_ne_one, false_or, getI, getR, getL, List.getElem?_cons_zero, List.getElem?_cons_succ, List.set_cons_zero, List.set_cons_succ, bnl, if_true, if_false, true_or, or_true, decide_eq_true_eq, Bool.not_eq_true', decide_eq_false_iff_not, Bool.not_true, Bool.not_false, Bool.true_eq_false, Bool.false_eq_true, ite_not, reduceIte, ite01_0, ite01_1, Decidable.not_not, ne_eq, not_true_eq_false, not_false_eq_true, Function.comp_apply, decide_not, Bool.not_not, Bool.not_eq_false', dc_t, dc_f, and_self, true_and, and_true, and_false, false_and, tnc]
theorem mkS_3 (n S : Nat) (t x : Int) (m : bM) : (sSet 4 (eInt 0) : ES K_Host_makeSheet).1.2 (sem n) [some (aR 124), some (aI (S : Int)), some (aI t), some (aI x), none] m = some (.inl (0, [some (aR 124), some (aI (S : Int)), some (aI t), some (aI x), some (aI 0)], m)) := by
  simp only [d_rLoc1, d_rLoc2, d_rFld1, d_rFld2, d_eInt, d_eLdc, d_eLdw, d_eLoc, d_eFld, d_lFld, d_eAI, d_eAZ, d_eAB, d_lAL, d_eAD, d_eLen, d_eAdd, d_eSub, d_eMul, d_eAnd, d_eOr, d_eXor, d_eShl, d_eShr, d_eUsh, d_lAdd, d_lSub, d_lMul, d_lAnd, d_lOr, d_lXor, d_lShl, d_lShr, d_eDiv, d_eRem, d_eCmp, d_eI2B, d_eI2S, d_eL2I, d_lI2L, d_lInt, d_lLdc, d_lLoc, d_eIte, d_lIte, d_eMax, d_eMin, d_eAbs, d_eAbove, d_eBodies, d_cQ, d_cZ, d_cNot, d_cAnd, d_cOr, d_gNil, d_gI, d_gL, d_gR, d_gD, d_xV, d_xS, d_xN, d_xT, d_eCall, d_lCall, d_eCallC, d_sNop, d_sSet, d_sSetL, d_sSetR, d_sSetQ, d_sInc, d_sPutI, d_sPutZ, d_sPutL, d_sPutA, d_sPutAZ, d_sPutAB, d_sPutAL, d_sPutD, d_sOpF, d_sOpA, d_sCall, d_sCopy, d_sSeq, d_sIf, d_sBrk, d_sCnt, d_sRetV, d_sRet, d_sRetL, d_sLp, d_tDef, d_tCase, d_sSw, d_sSwB, bIt_d, itb_0, itb_1, itb_2, itb_r, its_0, sqk_0, sqk_1, sqk_2, sqk_r, swk_0, swk_1, swk_r, bfin_r, bfin_ite, Option.bind_some, Option.map_some, Option.bind_none, Option.map_none, bind_ite, map_ite, cop0, cop1, cop2, cop3, cop4, cop5, opv0, opv1, opv2, opv3, brc_i, brc_z, two_ne_one, false_or, getI, getR, getL, List.getElem?_cons_zero, List.getElem?_cons_succ, List.set_cons_zero, List.set_cons_succ, bnl, if_true, if_false, true_or, or_true, decide_eq_true_eq, Bool.not_eq_true', decide_eq_false_iff_not, Bool.not_true, Bool.not_false, Bool.true_eq_false, Bool.false_eq_true, ite_not, reduceIte, ite01_0, ite01_1, Decidable.not_not, ne_eq, not_true_eq_false, not_false_eq_true, Function.comp_apply, decide_not, Bool.not_not, Bool.not_eq_false', dc_t, dc_f, and_self, true_and, and_true, and_false, false_and, tnc]
theorem sp_makeSheet (n K : Nat) (hK : K = 40) (S : Nat) (hS : S < 4) (t x : Int) (m : bM) : sem (n + 1) 180 [aR 124, aI (S : Int), aI t, aI x] m = some (shV K m S t x, 0) := by
  have e0 : 0 ≤ (S : Int) ∧ (S : Int) < ((4 : Nat) : Int) := by omega
  have hl : ∀ m2 : bM, L_Host_makeSheet_1.1.2 (sem n) [some (aR 124), some (aI (S : Int)), some (aI t), some (aI x), some (aI 0)] m2 = some (.inl (0, [some (aR 124), some (aI (S : Int)), some (aI t), some (aI x), some (aI (K : Int))], fil m2 127 (40 * S) (fun _ => 0) K)) := fun m2 => by
    unfold L_Host_makeSheet_1
    rw [d_sLp]
    refine lp_e (fun k => [some (aR 124), some (aI (S : Int)), some (aI t), some (aI x), some (aI (k : Int))]) (fun k => fil m2 127 (40 * S) (fun _ => 0) k) (fun _ => True) K (by omega) (fun k hk => ?_) trivial (fun m _ => ?_)
    · have e1 : (k : Int) < 40 := by omega
      have e4 : 0 ≤ ((40 * S + k : Nat) : Int) ∧ ((40 * S + k : Nat) : Int) < ((160 : Nat) : Int) := by omega
      have y1 : k < 2147483647 := by omega
      have y2 : 40 * S + k < 2147483648 := by omega
      have x1 := i32_x40 hS
      have e2 := i32_s y1
      have x2 : i32 (((40 * S : Nat) : Int) + (k : Int)) = ((40 * S + k : Nat) : Int) := i32_add rfl y2
      refine bIt_go (m1 := fil m2 127 (40 * S) (fun _ => 0) k) (ls2 := [some (aR 124), some (aI (S : Int)), some (aI t), some (aI x), some (aI (k : Int))]) (m2 := fil m2 127 (40 * S) (fun _ => 0) (k + 1)) ?_ ?_ ?_
      · simp only [L_Host_makeSheet_1c, e1, d_rLoc1, d_rLoc2, d_rFld1, d_rFld2, d_eInt, d_eLdc, d_eLdw, d_eLoc, d_eFld, d_lFld, d_eAI, d_eAZ, d_eAB, d_lAL, d_eAD, d_eLen, d_eAdd, d_eSub, d_eMul, d_eAnd, d_eOr, d_eXor, d_eShl, d_eShr, d_eUsh, d_lAdd, d_lSub, d_lMul, d_lAnd, d_lOr, d_lXor, d_lShl, d_lShr, d_eDiv, d_eRem, d_eCmp, d_eI2B, d_eI2S, d_eL2I, d_lI2L, d_lInt, d_lLdc, d_lLoc, d_eIte, d_lIte, d_eMax, d_eMin, d_eAbs, d_eAbove, d_eBodies, d_cQ, d_cZ, d_cNot, d_cAnd, d_cOr, d_gNil, d_gI, d_gL, d_gR, d_gD, d_xV, d_xS, d_xN, d_xT, d_eCall, d_lCall, d_eCallC, d_sNop, d_sSet, d_sSetL, d_sSetR, d_sSetQ, d_sInc, d_sPutI, d_sPutZ, d_sPutL, d_sPutA, d_sPutAZ, d_sPutAB, d_sPutAL, d_sPutD, d_sOpF, d_sOpA, d_sCall, d_sCopy, d_sSeq, d_sIf, d_sBrk, d_sCnt, d_sRetV, d_sRet, d_sRetL, d_sLp, d_tDef, d_tCase, d_sSw, d_sSwB, bIt_d, itb_0, itb_1, itb_2, itb_r, its_0, sqk_0, sqk_1, sqk_2, sqk_r, swk_0, swk_1, swk_r, bfin_r, bfin_ite, Option.bind_some, Option.map_some, Option.bind_none, Option.map_none, bind_ite, map_ite, cop0, cop1, cop2, cop3, cop4, cop5, opv0, opv1, opv2, opv3, brc_i, brc_z, two_ne_one, false_or, getI, getR, getL, List.getElem?_cons_zero, List.getElem?_cons_succ, List.set_cons_zero, List.set_cons_succ, bnl, if_true, if_false, true_or, or_true, decide_eq_true_eq, Bool.not_eq_true', decide_eq_false_iff_not, Bool.not_true, Bool.not_false, Bool.true_eq_false, Bool.false_eq_true, ite_not, reduceIte, ite01_0, ite01_1, Decidable.not_not, ne_eq, not_true_eq_false, not_false_eq_true, Function.comp_apply, decide_not, Bool.not_not, Bool.not_eq_false', dc_t, dc_f, and_self, true_and, and_true, and_false, false_and, tnc]
      · simp only [L_Host_makeSheet_1b, x1, x2, e4, fil, d_rLoc1, d_rLoc2, d_rFld1, d_rFld2, d_eInt, d_eLdc, d_eLdw, d_eLoc, d_eFld, d_lFld, d_eAI, d_eAZ, d_eAB, d_lAL, d_eAD, d_eLen, d_eAdd, d_eSub, d_eMul, d_eAnd, d_eOr, d_eXor, d_eShl, d_eShr, d_eUsh, d_lAdd, d_lSub, d_lMul, d_lAnd, d_lOr, d_lXor, d_lShl, d_lShr, d_eDiv, d_eRem, d_eCmp, d_eI2B, d_eI2S, d_eL2I, d_lI2L, d_lInt, d_lLdc, d_lLoc, d_eIte, d_lIte, d_eMax, d_eMin, d_eAbs, d_eAbove, d_eBodies, d_cQ, d_cZ, d_cNot, d_cAnd, d_cOr, d_gNil, d_gI, d_gL, d_gR, d_gD, d_xV, d_xS, d_xN, d_xT, d_eCall, d_lCall, d_eCallC, d_sNop, d_sSet, d_sSetL, d_sSetR, d_sSetQ, d_sInc, d_sPutI, d_sPutZ, d_sPutL, d_sPutA, d_sPutAZ, d_sPutAB, d_sPutAL, d_sPutD, d_sOpF, d_sOpA, d_sCall, d_sCopy, d_sSeq, d_sIf, d_sBrk, d_sCnt, d_sRetV, d_sRet, d_sRetL, d_sLp, d_tDef, d_tCase, d_sSw, d_sSwB, bIt_d, itb_0, itb_1, itb_2, itb_r, its_0, sqk_0, sqk_1, sqk_2, sqk_r, swk_0, swk_1, swk_r, bfin_r, bfin_ite, Option.bind_some, Option.map_some, Option.bind_none, Option.map_none, bind_ite, map_ite, cop0, cop1, cop2, cop3, cop4, cop5, opv0, opv1, opv2, opv3, brc_i, brc_z, two_ne_one, false_or, getI, getR, getL, List.getElem?_cons_zero, List.getElem?_cons_succ, List.set_cons_zero, List.set_cons_succ, bnl, if_true, if_false, true_or, or_true, decide_eq_true_eq, Bool.not_eq_true', decide_eq_false_iff_not, Bool.not_true, Bool.not_false, Bool.true_eq_false, Bool.false_eq_true, ite_not, reduceIte, ite01_0, ite01_1, Decidable.not_not, ne_eq, not_true_eq_false, not_false_eq_true, Function.comp_apply, decide_not, Bool.not_not, Bool.not_eq_false', dc_t, dc_f, and_self, true_and, and_true, and_false, false_and, tnc]
      · simp only [L_Host_makeSheet_1s, e2, d_rLoc1, d_rLoc2, d_rFld1, d_rFld2, d_eInt, d_eLdc, d_eLdw, d_eLoc, d_eFld, d_lFld, d_eAI, d_eAZ, d_eAB, d_lAL, d_eAD, d_eLen, d_eAdd, d_eSub, d_eMul, d_eAnd, d_eOr, d_eXor, d_eShl, d_eShr, d_eUsh, d_lAdd, d_lSub, d_lMul, d_lAnd, d_lOr, d_lXor, d_lShl, d_lShr, d_eDiv, d_eRem, d_eCmp, d_eI2B, d_eI2S, d_eL2I, d_lI2L, d_lInt, d_lLdc, d_lLoc, d_eIte, d_lIte, d_eMax, d_eMin, d_eAbs, d_eAbove, d_eBodies, d_cQ, d_cZ, d_cNot, d_cAnd, d_cOr, d_gNil, d_gI, d_gL, d_gR, d_gD, d_xV, d_xS, d_xN, d_xT, d_eCall, d_lCall, d_eCallC, d_sNop, d_sSet, d_sSetL, d_sSetR, d_sSetQ, d_sInc, d_sPutI, d_sPutZ, d_sPutL, d_sPutA, d_sPutAZ, d_sPutAB, d_sPutAL, d_sPutD, d_sOpF, d_sOpA, d_sCall, d_sCopy, d_sSeq, d_sIf, d_sBrk, d_sCnt, d_sRetV, d_sRet, d_sRetL, d_sLp, d_tDef, d_tCase, d_sSw, d_sSwB, bIt_d, itb_0, itb_1, itb_2, itb_r, its_0, sqk_0, sqk_1, sqk_2, sqk_r, swk_0, swk_1, swk_r, bfin_r, bfin_ite, Option.bind_some, Option.map_some, Option.bind_none, Option.map_none, bind_ite, map_ite, cop0, cop1, cop2, cop3, cop4, cop5, opv0, opv1, opv2, opv3, brc_i, brc_z, two_ne_one, false_or, getI, getR, getL, List.getElem?_cons_zero, List.getElem?_cons_succ, List.set_cons_zero, List.set_cons_succ, bnl, if_true, if_false, true_or, or_true, decide_eq_true_eq, Bool.not_eq_true', decide_eq_false_iff_not, Bool.not_true, Bool.not_false, Bool.true_eq_false, Bool.false_eq_true, ite_not, reduceIte, ite01_0, ite01_1, Decidable.not_not, ne_eq, not_true_eq_false, not_false_eq_true, Function.comp_apply, decide_not, Bool.not_not, Bool.not_eq_false', dc_t, dc_f, and_self, true_and, and_true, and_false, false_and, tnc]
    · have q : ¬ (K : Int) < 40 := by omega
      refine bIt_ex ?_
      simp only [L_Host_makeSheet_1c, q, d_rLoc1, d_rLoc2, d_rFld1, d_rFld2, d_eInt, d_eLdc, d_eLdw, d_eLoc, d_eFld, d_lFld, d_eAI, d_eAZ, d_eAB, d_lAL, d_eAD, d_eLen, d_eAdd, d_eSub, d_eMul, d_eAnd, d_eOr, d_eXor, d_eShl, d_eShr, d_eUsh, d_lAdd, d_lSub, d_lMul, d_lAnd, d_lOr, d_lXor, d_lShl, d_lShr, d_eDiv, d_eRem, d_eCmp, d_eI2B, d_eI2S, d_eL2I, d_lI2L, d_lInt, d_lLdc, d_lLoc, d_eIte, d_lIte, d_eMax, d_eMin, d_eAbs, d_eAbove, d_eBodies, d_cQ, d_cZ, d_cNot, d_cAnd, d_cOr, d_gNil, d_gI, d_gL, d_gR, d_gD, d_xV, d_xS, d_xN, d_xT, d_eCall, d_lCall, d_eCallC, d_sNop, d_sSet, d_sSetL, d_sSetR, d_sSetQ, d_sInc, d_sPutI, d_sPutZ, d_sPutL, d_sPutA, d_sPutAZ, d_sPutAB, d_sPutAL, d_sPutD, d_sOpF, d_sOpA, d_sCall, d_sCopy, d_sSeq, d_sIf, d_sBrk, d_sCnt, d_sRetV, d_sRet, d_sRetL, d_sLp, d_tDef, d_tCase, d_sSw, d_sSwB, bIt_d, itb_0, itb_1, itb_2, itb_r, its_0, sqk_0, sqk_1, sqk_2, sqk_r, swk_0, swk_1, swk_r, bfin_r, bfin_ite, Option.bind_some, Option.map_some, Option.bind_none, Option.map_none, bind_ite, map_ite, cop0, cop1, cop2, cop3, cop4, cop5, opv0, opv1, opv2, opv3, brc_i, brc_z, two_ne_one, false_or, getI, getR, getL, List.getElem?_cons_zero, List.getElem?_cons_succ, List.set_cons_zero, List.set_cons_succ, bnl, if_true, if_false, true_or, or_true, decide_eq_true_eq, Bool.not_eq_true', decide_eq_false_iff_not, Bool.not_true, Bool.not_false, Bool.true_eq_false, Bool.false_eq_true, ite_not, reduceIte, ite01_0, ite01_1, Decidable.not_not, ne_eq, not_true_eq_false, not_false_eq_true, Function.comp_apply, decide_not, Bool.not_not, Bool.not_eq_false', dc_t, dc_f, and_self, true_and, and_true, and_false, false_and, tnc]
  rw [st_Host_makeSheet]
  unfold B_Host_makeSheet
  rw [d_sSeq, mkS_1 n S e0, Option.bind_some, sqk_0, d_sSeq, mkS_2 n S e0, Option.bind_some, sqk_0, d_sSeq, d_sSeq, mkS_3, Option.bind_some, sqk_0, hl, Option.bind_some, sqk_0, d_sRetV, bfin_r]
  rfl
theorem sp_V_sheet (n K : Nat) (hK : K = 40) (s t x : Int) (m : bM) : sem (n + 3) 48 [aR 0, aI s, aI t, aI x] m = if (0 ≤ s ∧ s ≤ 3) ∧ (-1 ≤ t ∧ t ≤ 4) then (if t = -1 then some (bwr m 125 s.toNat (-1), 1) else if 40 < x then some (m, -1) else if x < 0 then some (m, -14) else some (shV K m s.toNat t x, 1)) else some (m, -1) := by
  rw [st_V_sheet]
  by_cases h1 : 0 ≤ s ∧ s ≤ 3
  · obtain ⟨S, rfl⟩ : ∃ S : Nat, s = (S : Int) := ⟨s.toNat, by omega⟩
    have a1 := fun n => sp_makeSheet n K hK S (by omega) t x m
    have e0 : (S : Int) < 4 := by omega
    simp only [B_V_sheet, kr_V_sheet, sp_V_isSheet, sp_within, a1, d_rLoc1, d_rLoc2, d_rFld1, d_rFld2, d_eInt, d_eLdc, d_eLdw, d_eLoc, d_eFld, d_lFld, d_eAI, d_eAZ, d_eAB, d_lAL, d_eAD, d_eLen, d_eAdd, d_eSub, d_eMul, d_eAnd, d_eOr, d_eXor, d_eShl, d_eShr, d_eUsh, d_lAdd, d_lSub, d_lMul, d_lAnd, d_lOr, d_lXor, d_lShl, d_lShr, d_eDiv, d_eRem, d_eCmp, d_eI2B, d_eI2S, d_eL2I, d_lI2L, d_lInt, d_lLdc, d_lLoc, d_eIte, d_lIte, d_eMax, d_eMin, d_eAbs, d_eAbove, d_eBodies, d_cQ, d_cZ, d_cNot, d_cAnd, d_cOr, d_gNil, d_gI, d_gL, d_gR, d_gD, d_xV, d_xS, d_xN, d_xT, d_eCall, d_lCall, d_eCallC, d_sNop, d_sSet, d_sSetL, d_sSetR, d_sSetQ, d_sInc, d_sPutI, d_sPutZ, d_sPutL, d_sPutA, d_sPutAZ, d_sPutAB, d_sPutAL, d_sPutD, d_sOpF, d_sOpA, d_sCall, d_sCopy, d_sSeq, d_sIf, d_sBrk, d_sCnt, d_sRetV, d_sRet, d_sRetL, d_sLp, d_tDef, d_tCase, d_sSw, d_sSwB, bIt_d, itb_0, itb_1, itb_2, itb_r, its_0, sqk_0, sqk_1, sqk_2, sqk_r, swk_0, swk_1, swk_r, bfin_r, bfin_ite, Option.bind_some, Option.map_some, Option.bind_none, Option.map_none, bind_ite, map_ite, cop0, cop1, cop2, cop3, cop4, cop5, opv0, opv1, opv2, opv3, brc_i, brc_z, two_ne_one, false_or, getI, getR, getL, List.getElem?_cons_zero, List.getElem?_cons_succ, List.set_cons_zero, List.set_cons_succ, bnl, if_true, if_false, true_or, or_true, decide_eq_true_eq, Bool.not_eq_true', decide_eq_false_iff_not, Bool.not_true, Bool.not_false, Bool.true_eq_false, Bool.false_eq_true, ite_not, reduceIte, ite01_0, ite01_1, Decidable.not_not, ne_eq, not_true_eq_false, not_false_eq_true, Function.comp_apply, decide_not, Bool.not_not, Bool.not_eq_false', dc_t, dc_f, and_self, true_and, and_true, and_false, false_and, tnc]
    by_cases h2 : -1 ≤ t ∧ t ≤ 4
    · by_cases h3 : t = -1 <;> by_cases h4 : 40 < x <;> by_cases h5 : x < 0 <;> simp [h1, h2, h3, h4, h5, e0]
    · simp [h1, h2]
  · simp only [B_V_sheet, kr_V_sheet, sp_V_isSheet, sp_within, d_rLoc1, d_rLoc2, d_rFld1, d_rFld2, d_eInt, d_eLdc, d_eLdw, d_eLoc, d_eFld, d_lFld, d_eAI, d_eAZ, d_eAB, d_lAL, d_eAD, d_eLen, d_eAdd, d_eSub, d_eMul, d_eAnd, d_eOr, d_eXor, d_eShl, d_eShr, d_eUsh, d_lAdd, d_lSub, d_lMul, d_lAnd, d_lOr, d_lXor, d_lShl, d_lShr, d_eDiv, d_eRem, d_eCmp, d_eI2B, d_eI2S, d_eL2I, d_lI2L, d_lInt, d_lLdc, d_lLoc, d_eIte, d_lIte, d_eMax, d_eMin, d_eAbs, d_eAbove, d_eBodies, d_cQ, d_cZ, d_cNot, d_cAnd, d_cOr, d_gNil, d_gI, d_gL, d_gR, d_gD, d_xV, d_xS, d_xN, d_xT, d_eCall, d_lCall, d_eCallC, d_sNop, d_sSet, d_sSetL, d_sSetR, d_sSetQ, d_sInc, d_sPutI, d_sPutZ, d_sPutL, d_sPutA, d_sPutAZ, d_sPutAB, d_sPutAL, d_sPutD, d_sOpF, d_sOpA, d_sCall, d_sCopy, d_sSeq, d_sIf, d_sBrk, d_sCnt, d_sRetV, d_sRet, d_sRetL, d_sLp, d_tDef, d_tCase, d_sSw, d_sSwB, bIt_d, itb_0, itb_1, itb_2, itb_r, its_0, sqk_0, sqk_1, sqk_2, sqk_r, swk_0, swk_1, swk_r, bfin_r, bfin_ite, Option.bind_some, Option.map_some, Option.bind_none, Option.map_none, bind_ite, map_ite, cop0, cop1, cop2, cop3, cop4, cop5, opv0, opv1, opv2, opv3, brc_i, brc_z, two_ne_one, false_or, getI, getR, getL, List.getElem?_cons_zero, List.getElem?_cons_succ, List.set_cons_zero, List.set_cons_succ, bnl, if_true, if_false, true_or, or_true, decide_eq_true_eq, Bool.not_eq_true', decide_eq_false_iff_not, Bool.not_true, Bool.not_false, Bool.true_eq_false, Bool.false_eq_true, ite_not, reduceIte, ite01_0, ite01_1, Decidable.not_not, ne_eq, not_true_eq_false, not_false_eq_true, Function.comp_apply, decide_not, Bool.not_not, Bool.not_eq_false', dc_t, dc_f, and_self, true_and, and_true, and_false, false_and, tnc]
    simp [h1]
theorem lp_M_sheet (n K : Nat) (hK : K = 40) (S : Nat) (hS : S < 4) (t x : Int) (m2 : bM) : L_M_sheet_1.1.2 (sem n) [some (aR 132), some (aI (S : Int)), some (aI t), some (aI x), some (aI 0)] m2 = some (.inl (0, [some (aR 132), some (aI (S : Int)), some (aI t), some (aI x), some (aI (K : Int))], fil m2 199 (40 * S) (fun _ => 0) K)) := by
  unfold L_M_sheet_1
  rw [d_sLp]
  refine lp_e (fun k => [some (aR 132), some (aI (S : Int)), some (aI t), some (aI x), some (aI (k : Int))]) (fun k => fil m2 199 (40 * S) (fun _ => 0) k) (fun _ => True) K (by omega) (fun k hk => ?_) trivial (fun m _ => ?_)
  · have e1 : (k : Int) < 40 := by omega
    have e4 : 0 ≤ ((40 * S + k : Nat) : Int) ∧ ((40 * S + k : Nat) : Int) < ((160 : Nat) : Int) := by omega
    have y1 : k < 2147483647 := by omega
    have y2 : 40 * S + k < 2147483648 := by omega
    have x1 := i32_40x hS
    have e2 := i32_s y1
    have x2 : i32 (((40 * S : Nat) : Int) + (k : Int)) = ((40 * S + k : Nat) : Int) := i32_add rfl y2
    refine bIt_go (m1 := fil m2 199 (40 * S) (fun _ => 0) k) (ls2 := [some (aR 132), some (aI (S : Int)), some (aI t), some (aI x), some (aI (k : Int))]) (m2 := fil m2 199 (40 * S) (fun _ => 0) (k + 1)) ?_ ?_ ?_
    · simp only [L_M_sheet_1c, e1, d_rLoc1, d_rLoc2, d_rFld1, d_rFld2, d_eInt, d_eLdc, d_eLdw, d_eLoc, d_eFld, d_lFld, d_eAI, d_eAZ, d_eAB, d_lAL, d_eAD, d_eLen, d_eAdd, d_eSub, d_eMul, d_eAnd, d_eOr, d_eXor, d_eShl, d_eShr, d_eUsh, d_lAdd, d_lSub, d_lMul, d_lAnd, d_lOr, d_lXor, d_lShl, d_lShr, d_eDiv, d_eRem, d_eCmp, d_eI2B, d_eI2S, d_eL2I, d_lI2L, d_lInt, d_lLdc, d_lLoc, d_eIte, d_lIte, d_eMax, d_eMin, d_eAbs, d_eAbove, d_eBodies, d_cQ, d_cZ, d_cNot, d_cAnd, d_cOr, d_gNil, d_gI, d_gL, d_gR, d_gD, d_xV, d_xS, d_xN, d_xT, d_eCall, d_lCall, d_eCallC, d_sNop, d_sSet, d_sSetL, d_sSetR, d_sSetQ, d_sInc, d_sPutI, d_sPutZ, d_sPutL, d_sPutA, d_sPutAZ, d_sPutAB, d_sPutAL, d_sPutD, d_sOpF, d_sOpA, d_sCall, d_sCopy, d_sSeq, d_sIf, d_sBrk, d_sCnt, d_sRetV, d_sRet, d_sRetL, d_sLp, d_tDef, d_tCase, d_sSw, d_sSwB, bIt_d, itb_0, itb_1, itb_2, itb_r, its_0, sqk_0, sqk_1, sqk_2, sqk_r, swk_0, swk_1, swk_r, bfin_r, bfin_ite, Option.bind_some, Option.map_some, Option.bind_none, Option.map_none, bind_ite, map_ite, cop0, cop1, cop2, cop3, cop4, cop5, opv0, opv1, opv2, opv3, brc_i, brc_z, two_ne_one, false_or, getI, getR, getL, List.getElem?_cons_zero, List.getElem?_cons_succ, List.set_cons_zero, List.set_cons_succ, bnl, if_true, if_false, true_or, or_true, decide_eq_true_eq, Bool.not_eq_true', decide_eq_false_iff_not, Bool.not_true, Bool.not_false, Bool.true_eq_false, Bool.false_eq_true, ite_not, reduceIte, ite01_0, ite01_1, Decidable.not_not, ne_eq, not_true_eq_false, not_false_eq_true, Function.comp_apply, decide_not, Bool.not_not, Bool.not_eq_false', dc_t, dc_f, and_self, true_and, and_true, and_false, false_and, tnc]
    · simp only [L_M_sheet_1b, x1, x2, e4, fil, d_rLoc1, d_rLoc2, d_rFld1, d_rFld2, d_eInt, d_eLdc, d_eLdw, d_eLoc, d_eFld, d_lFld, d_eAI, d_eAZ, d_eAB, d_lAL, d_eAD, d_eLen, d_eAdd, d_eSub, d_eMul, d_eAnd, d_eOr, d_eXor, d_eShl, d_eShr, d_eUsh, d_lAdd, d_lSub, d_lMul, d_lAnd, d_lOr, d_lXor, d_lShl, d_lShr, d_eDiv, d_eRem, d_eCmp, d_eI2B, d_eI2S, d_eL2I, d_lI2L, d_lInt, d_lLdc, d_lLoc, d_eIte, d_lIte, d_eMax, d_eMin, d_eAbs, d_eAbove, d_eBodies, d_cQ, d_cZ, d_cNot, d_cAnd, d_cOr, d_gNil, d_gI, d_gL, d_gR, d_gD, d_xV, d_xS, d_xN, d_xT, d_eCall, d_lCall, d_eCallC, d_sNop, d_sSet, d_sSetL, d_sSetR, d_sSetQ, d_sInc, d_sPutI, d_sPutZ, d_sPutL, d_sPutA, d_sPutAZ, d_sPutAB, d_sPutAL, d_sPutD, d_sOpF, d_sOpA, d_sCall, d_sCopy, d_sSeq, d_sIf, d_sBrk, d_sCnt, d_sRetV, d_sRet, d_sRetL, d_sLp, d_tDef, d_tCase, d_sSw, d_sSwB, bIt_d, itb_0, itb_1, itb_2, itb_r, its_0, sqk_0, sqk_1, sqk_2, sqk_r, swk_0, swk_1, swk_r, bfin_r, bfin_ite, Option.bind_some, Option.map_some, Option.bind_none, Option.map_none, bind_ite, map_ite, cop0, cop1, cop2, cop3, cop4, cop5, opv0, opv1, opv2, opv3, brc_i, brc_z, two_ne_one, false_or, getI, getR, getL, List.getElem?_cons_zero, List.getElem?_cons_succ, List.set_cons_zero, List.set_cons_succ, bnl, if_true, if_false, true_or, or_true, decide_eq_true_eq, Bool.not_eq_true', decide_eq_false_iff_not, Bool.not_true, Bool.not_false, Bool.true_eq_false, Bool.false_eq_true, ite_not, reduceIte, ite01_0, ite01_1, Decidable.not_not, ne_eq, not_true_eq_false, not_false_eq_true, Function.comp_apply, decide_not, Bool.not_not, Bool.not_eq_false', dc_t, dc_f, and_self, true_and, and_true, and_false, false_and, tnc]
      simp
    · simp only [L_M_sheet_1s, e2, d_rLoc1, d_rLoc2, d_rFld1, d_rFld2, d_eInt, d_eLdc, d_eLdw, d_eLoc, d_eFld, d_lFld, d_eAI, d_eAZ, d_eAB, d_lAL, d_eAD, d_eLen, d_eAdd, d_eSub, d_eMul, d_eAnd, d_eOr, d_eXor, d_eShl, d_eShr, d_eUsh, d_lAdd, d_lSub, d_lMul, d_lAnd, d_lOr, d_lXor, d_lShl, d_lShr, d_eDiv, d_eRem, d_eCmp, d_eI2B, d_eI2S, d_eL2I, d_lI2L, d_lInt, d_lLdc, d_lLoc, d_eIte, d_lIte, d_eMax, d_eMin, d_eAbs, d_eAbove, d_eBodies, d_cQ, d_cZ, d_cNot, d_cAnd, d_cOr, d_gNil, d_gI, d_gL, d_gR, d_gD, d_xV, d_xS, d_xN, d_xT, d_eCall, d_lCall, d_eCallC, d_sNop, d_sSet, d_sSetL, d_sSetR, d_sSetQ, d_sInc, d_sPutI, d_sPutZ, d_sPutL, d_sPutA, d_sPutAZ, d_sPutAB, d_sPutAL, d_sPutD, d_sOpF, d_sOpA, d_sCall, d_sCopy, d_sSeq, d_sIf, d_sBrk, d_sCnt, d_sRetV, d_sRet, d_sRetL, d_sLp, d_tDef, d_tCase, d_sSw, d_sSwB, bIt_d, itb_0, itb_1, itb_2, itb_r, its_0, sqk_0, sqk_1, sqk_2, sqk_r, swk_0, swk_1, swk_r, bfin_r, bfin_ite, Option.bind_some, Option.map_some, Option.bind_none, Option.map_none, bind_ite, map_ite, cop0, cop1, cop2, cop3, cop4, cop5, opv0, opv1, opv2, opv3, brc_i, brc_z, two_ne_one, false_or, getI, getR, getL, List.getElem?_cons_zero, List.getElem?_cons_succ, List.set_cons_zero, List.set_cons_succ, bnl, if_true, if_false, true_or, or_true, decide_eq_true_eq, Bool.not_eq_true', decide_eq_false_iff_not, Bool.not_true, Bool.not_false, Bool.true_eq_false, Bool.false_eq_true, ite_not, reduceIte, ite01_0, ite01_1, Decidable.not_not, ne_eq, not_true_eq_false, not_false_eq_true, Function.comp_apply, decide_not, Bool.not_not, Bool.not_eq_false', dc_t, dc_f, and_self, true_and, and_true, and_false, false_and, tnc]
  · have q : ¬ (K : Int) < 40 := by omega
    refine bIt_ex ?_
    simp only [L_M_sheet_1c, q, d_rLoc1, d_rLoc2, d_rFld1, d_rFld2, d_eInt, d_eLdc, d_eLdw, d_eLoc, d_eFld, d_lFld, d_eAI, d_eAZ, d_eAB, d_lAL, d_eAD, d_eLen, d_eAdd, d_eSub, d_eMul, d_eAnd, d_eOr, d_eXor, d_eShl, d_eShr, d_eUsh, d_lAdd, d_lSub, d_lMul, d_lAnd, d_lOr, d_lXor, d_lShl, d_lShr, d_eDiv, d_eRem, d_eCmp, d_eI2B, d_eI2S, d_eL2I, d_lI2L, d_lInt, d_lLdc, d_lLoc, d_eIte, d_lIte, d_eMax, d_eMin, d_eAbs, d_eAbove, d_eBodies, d_cQ, d_cZ, d_cNot, d_cAnd, d_cOr, d_gNil, d_gI, d_gL, d_gR, d_gD, d_xV, d_xS, d_xN, d_xT, d_eCall, d_lCall, d_eCallC, d_sNop, d_sSet, d_sSetL, d_sSetR, d_sSetQ, d_sInc, d_sPutI, d_sPutZ, d_sPutL, d_sPutA, d_sPutAZ, d_sPutAB, d_sPutAL, d_sPutD, d_sOpF, d_sOpA, d_sCall, d_sCopy, d_sSeq, d_sIf, d_sBrk, d_sCnt, d_sRetV, d_sRet, d_sRetL, d_sLp, d_tDef, d_tCase, d_sSw, d_sSwB, bIt_d, itb_0, itb_1, itb_2, itb_r, its_0, sqk_0, sqk_1, sqk_2, sqk_r, swk_0, swk_1, swk_r, bfin_r, bfin_ite, Option.bind_some, Option.map_some, Option.bind_none, Option.map_none, bind_ite, map_ite, cop0, cop1, cop2, cop3, cop4, cop5, opv0, opv1, opv2, opv3, brc_i, brc_z, two_ne_one, false_or, getI, getR, getL, List.getElem?_cons_zero, List.getElem?_cons_succ, List.set_cons_zero, List.set_cons_succ, bnl, if_true, if_false, true_or, or_true, decide_eq_true_eq, Bool.not_eq_true', decide_eq_false_iff_not, Bool.not_true, Bool.not_false, Bool.true_eq_false, Bool.false_eq_true, ite_not, reduceIte, ite01_0, ite01_1, Decidable.not_not, ne_eq, not_true_eq_false, not_false_eq_true, Function.comp_apply, decide_not, Bool.not_not, Bool.not_eq_false', dc_t, dc_f, and_self, true_and, and_true, and_false, false_and, tnc]
theorem sp_M_sheet (n K : Nat) (hK : K = 40) (s t x : Int) (m : bM) : sem (n + 3) 106 [aR 132, aI s, aI t, aI x] m = if (0 ≤ s ∧ s ≤ 3) ∧ (-1 ≤ t ∧ t ≤ 4) then (if t = -1 then some (shM K m s.toNat (-1) 0, 1) else if 40 < x then some (m, -1) else if x < 0 then some (m, -14) else some (shM K m s.toNat t x, 1)) else some (m, -1) := by
  rw [st_M_sheet]
  by_cases h1 : 0 ≤ s ∧ s ≤ 3
  · obtain ⟨S, hS⟩ : ∃ S : Nat, (S : Int) = s := ⟨s.toNat, by omega⟩
    have a1 := fun n m2 => lp_M_sheet n K hK S (by omega) t x m2
    simp only [hS] at a1
    have e0 : s < 4 := by omega
    have e1 : s.toNat = S := by omega
    have e2 : 0 ≤ s ∧ s < ((4 : Nat) : Int) := by omega
    rw [e1]
    clear hS
    unfold B_M_sheet
    revert a1
    generalize L_M_sheet_1 = LL
    intro a1
    by_cases h2 : -1 ≤ t ∧ t ≤ 4
    · by_cases h3 : t = -1
      · subst h3
        simp only [kr_M_sheet, sp_M_isSheet, sp_in, a1, e2, e1, d_rLoc1, d_rLoc2, d_rFld1, d_rFld2, d_eInt, d_eLdc, d_eLdw, d_eLoc, d_eFld, d_lFld, d_eAI, d_eAZ, d_eAB, d_lAL, d_eAD, d_eLen, d_eAdd, d_eSub, d_eMul, d_eAnd, d_eOr, d_eXor, d_eShl, d_eShr, d_eUsh, d_lAdd, d_lSub, d_lMul, d_lAnd, d_lOr, d_lXor, d_lShl, d_lShr, d_eDiv, d_eRem, d_eCmp, d_eI2B, d_eI2S, d_eL2I, d_lI2L, d_lInt, d_lLdc, d_lLoc, d_eIte, d_lIte, d_eMax, d_eMin, d_eAbs, d_eAbove, d_eBodies, d_cQ, d_cZ, d_cNot, d_cAnd, d_cOr, d_gNil, d_gI, d_gL, d_gR, d_gD, d_xV, d_xS, d_xN, d_xT, d_eCall, d_lCall, d_eCallC, d_sNop, d_sSet, d_sSetL, d_sSetR, d_sSetQ, d_sInc, d_sPutI, d_sPutZ, d_sPutL, d_sPutA, d_sPutAZ, d_sPutAB, d_sPutAL, d_sPutD, d_sOpF, d_sOpA, d_sCall, d_sCopy, d_sSeq, d_sIf, d_sBrk, d_sCnt, d_sRetV, d_sRet, d_sRetL, d_sLp, d_tDef, d_tCase, d_sSw, d_sSwB, bIt_d, itb_0, itb_1, itb_2, itb_r, its_0, sqk_0, sqk_1, sqk_2, sqk_r, swk_0, swk_1, swk_r, bfin_r, bfin_ite, Option.bind_some, Option.map_some, Option.bind_none, Option.map_none, bind_ite, map_ite, cop0, cop1, cop2, cop3, cop4, cop5, opv0, opv1, opv2, opv3, brc_i, brc_z, two_ne_one, false_or, getI, getR, getL, List.getElem?_cons_zero, List.getElem?_cons_succ, List.set_cons_zero, List.set_cons_succ, bnl, if_true, if_false, true_or, or_true, decide_eq_true_eq, Bool.not_eq_true', decide_eq_false_iff_not, Bool.not_true, Bool.not_false, Bool.true_eq_false, Bool.false_eq_true, ite_not, reduceIte, ite01_0, ite01_1, Decidable.not_not, ne_eq, not_true_eq_false, not_false_eq_true, Function.comp_apply, decide_not, Bool.not_not, Bool.not_eq_false', dc_t, dc_f, and_self, true_and, and_true, and_false, false_and, tnc]
        simp [h1, e0, shM]
      · have h6 : 0 ≤ t := by omega
        have h7 : ¬ t < 0 := by omega
        simp only [kr_M_sheet, sp_M_isSheet, sp_in, a1, e2, e1, d_rLoc1, d_rLoc2, d_rFld1, d_rFld2, d_eInt, d_eLdc, d_eLdw, d_eLoc, d_eFld, d_lFld, d_eAI, d_eAZ, d_eAB, d_lAL, d_eAD, d_eLen, d_eAdd, d_eSub, d_eMul, d_eAnd, d_eOr, d_eXor, d_eShl, d_eShr, d_eUsh, d_lAdd, d_lSub, d_lMul, d_lAnd, d_lOr, d_lXor, d_lShl, d_lShr, d_eDiv, d_eRem, d_eCmp, d_eI2B, d_eI2S, d_eL2I, d_lI2L, d_lInt, d_lLdc, d_lLoc, d_eIte, d_lIte, d_eMax, d_eMin, d_eAbs, d_eAbove, d_eBodies, d_cQ, d_cZ, d_cNot, d_cAnd, d_cOr, d_gNil, d_gI, d_gL, d_gR, d_gD, d_xV, d_xS, d_xN, d_xT, d_eCall, d_lCall, d_eCallC, d_sNop, d_sSet, d_sSetL, d_sSetR, d_sSetQ, d_sInc, d_sPutI, d_sPutZ, d_sPutL, d_sPutA, d_sPutAZ, d_sPutAB, d_sPutAL, d_sPutD, d_sOpF, d_sOpA, d_sCall, d_sCopy, d_sSeq, d_sIf, d_sBrk, d_sCnt, d_sRetV, d_sRet, d_sRetL, d_sLp, d_tDef, d_tCase, d_sSw, d_sSwB, bIt_d, itb_0, itb_1, itb_2, itb_r, its_0, sqk_0, sqk_1, sqk_2, sqk_r, swk_0, swk_1, swk_r, bfin_r, bfin_ite, Option.bind_some, Option.map_some, Option.bind_none, Option.map_none, bind_ite, map_ite, cop0, cop1, cop2, cop3, cop4, cop5, opv0, opv1, opv2, opv3, brc_i, brc_z, two_ne_one, false_or, getI, getR, getL, List.getElem?_cons_zero, List.getElem?_cons_succ, List.set_cons_zero, List.set_cons_succ, bnl, if_true, if_false, true_or, or_true, decide_eq_true_eq, Bool.not_eq_true', decide_eq_false_iff_not, Bool.not_true, Bool.not_false, Bool.true_eq_false, Bool.false_eq_true, ite_not, reduceIte, ite01_0, ite01_1, Decidable.not_not, ne_eq, not_true_eq_false, not_false_eq_true, Function.comp_apply, decide_not, Bool.not_not, Bool.not_eq_false', dc_t, dc_f, and_self, true_and, and_true, and_false, false_and, tnc]
        by_cases h4 : 40 < x <;> by_cases h5 : x < 0 <;> simp [h1, h2, h3, h4, h5, h6, h7, e0, shM]
    · simp only [kr_M_sheet, sp_M_isSheet, sp_in, d_rLoc1, d_rLoc2, d_rFld1, d_rFld2, d_eInt, d_eLdc, d_eLdw, d_eLoc, d_eFld, d_lFld, d_eAI, d_eAZ, d_eAB, d_lAL, d_eAD, d_eLen, d_eAdd, d_eSub, d_eMul, d_eAnd, d_eOr, d_eXor, d_eShl, d_eShr, d_eUsh, d_lAdd, d_lSub, d_lMul, d_lAnd, d_lOr, d_lXor, d_lShl, d_lShr, d_eDiv, d_eRem, d_eCmp, d_eI2B, d_eI2S, d_eL2I, d_lI2L, d_lInt, d_lLdc, d_lLoc, d_eIte, d_lIte, d_eMax, d_eMin, d_eAbs, d_eAbove, d_eBodies, d_cQ, d_cZ, d_cNot, d_cAnd, d_cOr, d_gNil, d_gI, d_gL, d_gR, d_gD, d_xV, d_xS, d_xN, d_xT, d_eCall, d_lCall, d_eCallC, d_sNop, d_sSet, d_sSetL, d_sSetR, d_sSetQ, d_sInc, d_sPutI, d_sPutZ, d_sPutL, d_sPutA, d_sPutAZ, d_sPutAB, d_sPutAL, d_sPutD, d_sOpF, d_sOpA, d_sCall, d_sCopy, d_sSeq, d_sIf, d_sBrk, d_sCnt, d_sRetV, d_sRet, d_sRetL, d_sLp, d_tDef, d_tCase, d_sSw, d_sSwB, bIt_d, itb_0, itb_1, itb_2, itb_r, its_0, sqk_0, sqk_1, sqk_2, sqk_r, swk_0, swk_1, swk_r, bfin_r, bfin_ite, Option.bind_some, Option.map_some, Option.bind_none, Option.map_none, bind_ite, map_ite, cop0, cop1, cop2, cop3, cop4, cop5, opv0, opv1, opv2, opv3, brc_i, brc_z, two_ne_one, false_or, getI, getR, getL, List.getElem?_cons_zero, List.getElem?_cons_succ, List.set_cons_zero, List.set_cons_succ, bnl, if_true, if_false, true_or, or_true, decide_eq_true_eq, Bool.not_eq_true', decide_eq_false_iff_not, Bool.not_true, Bool.not_false, Bool.true_eq_false, Bool.false_eq_true, ite_not, reduceIte, ite01_0, ite01_1, Decidable.not_not, ne_eq, not_true_eq_false, not_false_eq_true, Function.comp_apply, decide_not, Bool.not_not, Bool.not_eq_false', dc_t, dc_f, and_self, true_and, and_true, and_false, false_and, tnc]
      simp [h1, h2]
  · unfold B_M_sheet
    generalize L_M_sheet_1 = LL
    simp only [kr_M_sheet, sp_M_isSheet, sp_in, d_rLoc1, d_rLoc2, d_rFld1, d_rFld2, d_eInt, d_eLdc, d_eLdw, d_eLoc, d_eFld, d_lFld, d_eAI, d_eAZ, d_eAB, d_lAL, d_eAD, d_eLen, d_eAdd, d_eSub, d_eMul, d_eAnd, d_eOr, d_eXor, d_eShl, d_eShr, d_eUsh, d_lAdd, d_lSub, d_lMul, d_lAnd, d_lOr, d_lXor, d_lShl, d_lShr, d_eDiv, d_eRem, d_eCmp, d_eI2B, d_eI2S, d_eL2I, d_lI2L, d_lInt, d_lLdc, d_lLoc, d_eIte, d_lIte, d_eMax, d_eMin, d_eAbs, d_eAbove, d_eBodies, d_cQ, d_cZ, d_cNot, d_cAnd, d_cOr, d_gNil, d_gI, d_gL, d_gR, d_gD, d_xV, d_xS, d_xN, d_xT, d_eCall, d_lCall, d_eCallC, d_sNop, d_sSet, d_sSetL, d_sSetR, d_sSetQ, d_sInc, d_sPutI, d_sPutZ, d_sPutL, d_sPutA, d_sPutAZ, d_sPutAB, d_sPutAL, d_sPutD, d_sOpF, d_sOpA, d_sCall, d_sCopy, d_sSeq, d_sIf, d_sBrk, d_sCnt, d_sRetV, d_sRet, d_sRetL, d_sLp, d_tDef, d_tCase, d_sSw, d_sSwB, bIt_d, itb_0, itb_1, itb_2, itb_r, its_0, sqk_0, sqk_1, sqk_2, sqk_r, swk_0, swk_1, swk_r, bfin_r, bfin_ite, Option.bind_some, Option.map_some, Option.bind_none, Option.map_none, bind_ite, map_ite, cop0, cop1, cop2, cop3, cop4, cop5, opv0, opv1, opv2, opv3, brc_i, brc_z, two_ne_one, false_or, getI, getR, getL, List.getElem?_cons_zero, List.getElem?_cons_succ, List.set_cons_zero, List.set_cons_succ, bnl, if_true, if_false, true_or, or_true, decide_eq_true_eq, Bool.not_eq_true', decide_eq_false_iff_not, Bool.not_true, Bool.not_false, Bool.true_eq_false, Bool.false_eq_true, ite_not, reduceIte, ite01_0, ite01_1, Decidable.not_not, ne_eq, not_true_eq_false, not_false_eq_true, Function.comp_apply, decide_not, Bool.not_not, Bool.not_eq_false', dc_t, dc_f, and_self, true_and, and_true, and_false, false_and, tnc]
    simp [h1]
theorem HostOK_sheet {m m2 : bM} (h : HostOK m) (S : Nat) (t : Int) (ht : -1 ≤ t ∧ t ≤ 4) (e125 : ∀ k, m2 125 k = if k = S then t else m 125 k) (e197 : ∀ k, m2 197 k = if k = S then t else m 197 k) (e126 : ∀ k, k ≠ S → m2 126 k = m 126 k) (e198 : ∀ k, k ≠ S → m2 198 k = m 198 k) (e127 : ∀ j, ¬ (40 * S ≤ j ∧ j < 40 * S + 40) → m2 127 j = m 127 j) (e199 : ∀ j, ¬ (40 * S ≤ j ∧ j < 40 * S + 40) → m2 199 j = m 199 j) (hS : 0 ≤ t → m2 198 S = m2 126 S ∧ 0 ≤ m2 126 S ∧ m2 126 S ≤ 40 ∧ ∀ i, i < 40 → m2 199 (40 * S + i) = m2 127 (40 * S + i)) (hi : ∀ k, k < 160 → m2 127 k = m 127 k ∨ m2 127 k = 0) (o : ∀ i, 128 ≤ i → i ≤ 131 → m2 i = m i) (o2 : ∀ i, 200 ≤ i → i ≤ 203 → m2 i = m i) (o3 : m2 124 11 = m 124 11) (o4 : m2 132 91 = m 132 91) : HostOK m2 := by
  obtain ⟨v1, v2, v3, v4, v5, v6⟩ := h
  refine ⟨?_, ?_, ?_, ?_, ?_, ?_⟩
  · intro s hs
    rw [e125, e197]
    by_cases q : s = S
    · rw [if_pos q, if_pos q]; exact ⟨rfl, ht⟩
    · rw [if_neg q, if_neg q]; exact v1 s hs
  · intro s hs h0
    rw [e125] at h0
    by_cases q : s = S
    · subst q
      rw [if_pos rfl] at h0
      exact hS h0
    · rw [if_neg q] at h0
      rw [e198 s q, e126 s q]
      obtain ⟨a1, a2, a3, a4⟩ := v2 s hs h0
      refine ⟨a1, a2, a3, fun i hi => ?_⟩
      rw [e199 _ (by omega), e127 _ (by omega)]
      exact a4 i hi
  · intro s hs
    rw [o 128 (by decide) (by decide), o 129 (by decide) (by decide), o 130 (by decide) (by decide), o2 200 (by decide) (by decide), o2 201 (by decide) (by decide), o2 202 (by decide) (by decide)]
    exact v3 s hs
  · rw [o3, o4]; exact v4
  · rw [o3, o 131 (by decide) (by decide), o2 203 (by decide) (by decide)]; exact v5
  · intro k hk
    rcases hi k hk with q | q
    · rw [q]; exact v6 k hk
    · rw [q]; decide
theorem step_sheet {n i : Nat} {m : bM} (hI : Inv i m) (hi : i < 100) (s t x : Int) : ∃ m1 m2 v, sem (n + 3) 48 [aR 0, aI s, aI t, aI x] m = some (m1, v) ∧ sem (n + 3) 106 [aR 132, aI s, aI t, aI x] m1 = some (m2, v) ∧ Inv (i + 1) m2 := by
  have hH := Inv_host hI
  obtain ⟨K, hK⟩ : ∃ K : Nat, K = 40 := ⟨40, rfl⟩
  have s1 := sp_V_sheet n K hK s t x m
  have s2 := fun m1 => sp_M_sheet n K hK s t x m1
  by_cases h1 : (0 ≤ s ∧ s ≤ 3) ∧ (-1 ≤ t ∧ t ≤ 4)
  · rw [if_pos h1] at s1
    obtain ⟨S, rfl⟩ : ∃ S : Nat, s = (S : Int) := ⟨s.toNat, by omega⟩
    have hS : S < 4 := by omega
    rw [Int.toNat_natCast] at s1
    by_cases h3 : t = -1
    · subst h3
      rw [if_pos rfl] at s1
      have s3 := s2 (bwr m 125 S (-1))
      rw [if_pos h1, if_pos rfl, Int.toNat_natCast] at s3
      refine ⟨_, _, _, s1, s3, Inv_ht hI (fun i hi => ?_) (fun k hk => ?_) ?_⟩
      · unfold shM
        rw [fil_ne _ _ _ _ _ _ (by omega), bwr_ne _ _ (by omega), bwr_ne _ _ (by omega), bwr_ne _ _ (by omega)]
      · unfold shM
        rw [fil_ne _ _ _ _ _ _ (by decide), bwr_ne _ _ (by decide), bwr_ne _ _ (by decide), bwr_ne _ _ (by decide)]
      · refine HostOK_sheet hH S (-1) (by decide) (fun k => ?_) (fun k => ?_) (fun k hk => ?_) (fun k hk => ?_) (fun j hj => ?_) (fun j hj => ?_) (fun q => by omega) (fun k hk => Or.inl ?_) (fun i a b => ?_) (fun i a b => ?_) ?_ ?_
        · unfold shM; rw [fil_ne _ _ _ _ _ _ (by decide), bwr_ne _ _ (by decide), bwr_ne _ _ (by decide), bwr_if]
        · unfold shM; rw [fil_ne _ _ _ _ _ _ (by decide), bwr_ne _ _ (by decide), bwr_if, bwr_ne _ _ (by decide)]
        · unfold shM; rw [fil_ne _ _ _ _ _ _ (by decide), bwr_ne _ _ (by decide), bwr_ne _ _ (by decide), bwr_ne _ _ (by decide)]
        · unfold shM; rw [fil_ne _ _ _ _ _ _ (by decide), bwr_ne2 _ hk, bwr_ne _ _ (by decide), bwr_ne _ _ (by decide)]
        · unfold shM; rw [fil_ne _ _ _ _ _ _ (by decide), bwr_ne _ _ (by decide), bwr_ne _ _ (by decide), bwr_ne _ _ (by decide)]
        · unfold shM; rw [fil_c, hK, if_neg hj, bwr_ne _ _ (by decide), bwr_ne _ _ (by decide), bwr_ne _ _ (by decide)]
        · unfold shM; rw [fil_ne _ _ _ _ _ _ (by decide), bwr_ne _ _ (by decide), bwr_ne _ _ (by decide), bwr_ne _ _ (by decide)]
        · unfold shM; rw [fil_ne _ _ _ _ _ _ (by omega), bwr_ne _ _ (by omega), bwr_ne _ _ (by omega), bwr_ne _ _ (by omega)]
        · unfold shM; rw [fil_ne _ _ _ _ _ _ (by omega), bwr_ne _ _ (by omega), bwr_ne _ _ (by omega), bwr_ne _ _ (by omega)]
        · unfold shM; rw [fil_ne _ _ _ _ _ _ (by decide), bwr_ne _ _ (by decide), bwr_ne _ _ (by decide), bwr_ne _ _ (by decide)]
        · unfold shM; rw [fil_ne _ _ _ _ _ _ (by decide), bwr_ne _ _ (by decide), bwr_ne _ _ (by decide), bwr_ne _ _ (by decide)]
    · rw [if_neg h3] at s1
      by_cases h4 : 40 < x
      · have s3 := s2 m
        rw [if_pos h4] at s1
        rw [if_pos h1, if_neg h3, if_pos h4] at s3
        exact ⟨_, _, _, s1, s3, Inv_same hI⟩
      · rw [if_neg h4] at s1
        by_cases h5 : x < 0
        · have s3 := s2 m
          rw [if_pos h5] at s1
          rw [if_pos h1, if_neg h3, if_neg h4, if_pos h5] at s3
          exact ⟨_, _, _, s1, s3, Inv_same hI⟩
        · rw [if_neg h5] at s1
          have s3 := s2 (shV K m S t x)
          rw [if_pos h1, if_neg h3, if_neg h4, if_neg h5, Int.toNat_natCast] at s3
          refine ⟨_, _, _, s1, s3, Inv_ht hI (fun i hi => ?_) (fun k hk => ?_) ?_⟩
          · unfold shM shV
            rw [fil_ne _ _ _ _ _ _ (by omega), bwr_ne _ _ (by omega), bwr_ne _ _ (by omega), fil_ne _ _ _ _ _ _ (by omega), bwr_ne _ _ (by omega), bwr_ne _ _ (by omega)]
          · unfold shM shV
            rw [fil_ne _ _ _ _ _ _ (by decide), bwr_ne _ _ (by decide), bwr_ne _ _ (by decide), fil_ne _ _ _ _ _ _ (by decide), bwr_ne _ _ (by decide), bwr_ne _ _ (by decide)]
          · have c1 : ∀ i, i ≠ 197 → i ≠ 198 → i ≠ 199 → shM K (shV K m S t x) S t x i = shV K m S t x i := fun i a b c => by
              show fil _ _ _ _ _ i = _
              rw [fil_ne _ _ _ _ _ _ c, bwr_ne _ _ b, bwr_ne _ _ a]
            have c2 : ∀ i, i ≠ 125 → i ≠ 126 → i ≠ 127 → shV K m S t x i = m i := fun i a b c => by
              show fil _ _ _ _ _ i = _
              rw [fil_ne _ _ _ _ _ _ c, bwr_ne _ _ b, bwr_ne _ _ a]
            have c3 : ∀ j, shV K m S t x 127 j = if 40 * S ≤ j ∧ j < 40 * S + 40 then 0 else m 127 j := fun j => by
              unfold shV; rw [fil_c, hK, bwr_ne _ _ (by decide), bwr_ne _ _ (by decide)]
            have c4 : ∀ j, shM K (shV K m S t x) S t x 199 j = if 40 * S ≤ j ∧ j < 40 * S + 40 then 0 else m 199 j := fun j => by
              unfold shM; rw [fil_c, bwr_ne _ _ (by decide), bwr_ne _ _ (by decide), c2 199 (by decide) (by decide) (by decide), hK]
            have c5 : shV K m S t x 126 S = x := by unfold shV; rw [fil_ne _ _ _ _ _ _ (by decide), bwr_eq2]
            have c6 : shM K (shV K m S t x) S t x 198 S = x := by unfold shM; rw [fil_ne _ _ _ _ _ _ (by decide), bwr_eq2]
            refine HostOK_sheet hH S t h1.2 (fun k => ?_) (fun k => ?_) (fun k hk => ?_) (fun k hk => ?_) (fun j hj => ?_) (fun j hj => ?_) (fun q => ?_) (fun k hk => ?_) (fun i a b => ?_) (fun i a b => ?_) ?_ ?_
            · rw [c1 _ (by decide) (by decide) (by decide)]; unfold shV; rw [fil_ne _ _ _ _ _ _ (by decide), bwr_ne _ _ (by decide), bwr_if]
            · unfold shM; rw [fil_ne _ _ _ _ _ _ (by decide), bwr_ne _ _ (by decide), bwr_if, c2 197 (by decide) (by decide) (by decide)]
            · rw [c1 _ (by decide) (by decide) (by decide)]; unfold shV; rw [fil_ne _ _ _ _ _ _ (by decide), bwr_ne2 _ hk, bwr_ne _ _ (by decide)]
            · unfold shM; rw [fil_ne _ _ _ _ _ _ (by decide), bwr_ne2 _ hk, bwr_ne _ _ (by decide), c2 198 (by decide) (by decide) (by decide)]
            · rw [c1 _ (by decide) (by decide) (by decide), c3, if_neg hj]
            · rw [c4, if_neg hj]
            · rw [c6, c1 _ (by decide) (by decide) (by decide), c5, c1 127 (by decide) (by decide) (by decide)]
              refine ⟨rfl, by omega, by omega, fun i hi => ?_⟩
              rw [c4, c3, if_pos (by omega), if_pos (by omega)]
            · rw [c1 _ (by decide) (by decide) (by decide), c3]
              split
              · exact Or.inr rfl
              · exact Or.inl rfl
            · rw [c1 _ (by omega) (by omega) (by omega), c2 _ (by omega) (by omega) (by omega)]
            · rw [c1 _ (by omega) (by omega) (by omega), c2 _ (by omega) (by omega) (by omega)]
            · rw [c1 _ (by omega) (by omega) (by omega), c2 _ (by omega) (by omega) (by omega)]
            · rw [c1 _ (by omega) (by omega) (by omega), c2 _ (by omega) (by omega) (by omega)]
  · rw [if_neg h1] at s1
    have s3 := s2 m
    rw [if_neg h1] at s3
    exact ⟨_, _, _, s1, s3, Inv_same hI⟩
