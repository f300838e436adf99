/-! ===== whom a rider could tell: the ride ===== -/
theorem nw_b {c : bM} (h10 : nHs c ≤ 10) {mi pa st : Int} (hm : 0 ≤ mi ∧ mi ≤ 179) (hp : 0 ≤ pa ∧ pa ≤ 9) (hs : 0 ≤ st ∧ st ≤ 9) (R : Nat) {j : Nat} (hj : j ≤ 13) : 0 ≤ nw c mi pa st R j ∧ nw c mi pa st R j ≤ 2000 := by
  have := nw_in h10 hm hp hs R j
  omega
theorem nw_b32 {c : bM} (h10 : nHs c ≤ 10) {mi pa st : Int} (hm : 0 ≤ mi ∧ mi ≤ 179) (hp : 0 ≤ pa ∧ pa ≤ 9) (hs : 0 ≤ st ∧ st ≤ 9) (R : Nat) {j : Nat} (hj : j ≤ 13) : -2147483648 ≤ nw c mi pa st R j ∧ nw c mi pa st R j < 2147483648 := by
  have := nw_b h10 hm hp hs R hj
  omega
set_option maxHeartbeats 60000 in
theorem tr_b (n : Nat) (m : bM) (qI mi RI ri fl pa st : Int) (now told r eI dI x now2 told2 hI now3 : Int) (d : Nat) (u v : Option bV) (x1 : i32 (qI * 12) = eI) (x2 : i32 (eI + r) = dI) (f4 : 0 ≤ dI ∧ dI < ((1080 : Nat) : Int)) (td : dI.toNat = d) (hv : m 105 d = x) (e2 : L_Nights_toldInTime_2.1.2 (sem n) [some (aR 101), some (aI qI), some (aI mi), some (aI RI), some (aI ri), some (aI fl), some (aI pa), some (aI st), some (aI now), some (aI told), some (aI r), some (aI x), some (aI 0)] m = some (.inl (0, [some (aR 101), some (aI qI), some (aI mi), some (aI RI), some (aI ri), some (aI fl), some (aI pa), some (aI st), some (aI now2), some (aI told2), some (aI r), some (aI x), some (aI hI)], m))) (x3 : i32 (now2 + pa) = now3) : L_Nights_toldInTime_1b.1.2 (sem n) [some (aR 101), some (aI qI), some (aI mi), some (aI RI), some (aI ri), some (aI fl), some (aI pa), some (aI st), some (aI now), some (aI told), some (aI r), u, v] m = some (.inl (0, [some (aR 101), some (aI qI), some (aI mi), some (aI RI), some (aI ri), some (aI fl), some (aI pa), some (aI st), some (aI now3), some (aI told2), some (aI r), some (aI x), some (aI hI)], m)) := by
  unfold L_Nights_toldInTime_1b
  revert e2
  generalize L_Nights_toldInTime_2 = LL
  intro e2
  simp only [x1, x2, f4, td, hv, e2, x3, d_rLoc1, d_rLoc2, d_rFld1, d_rFld2, d_eInt, d_eLdc, d_eLdw, d_eLoc, d_eFld, d_lFld, d_eAI, d_eAZ, d_eAB, d_lAL, d_eAD, d_eLen, d_eAdd, d_eSub, d_eMul, d_eAnd, d_eOr, d_eXor, d_eShl, d_eShr, d_eUsh, d_lAdd, d_lSub, d_lMul, d_lAnd, d_lOr, d_lXor, d_lShl, d_lShr, d_eDiv, d_eRem, d_eCmp, d_eI2B, d_eI2S, d_eL2I, d_lI2L, d_lInt, d_lLdc, d_lLoc, d_eIte, d_lIte, d_eMax, d_eMin, d_eAbs, d_eAbove, d_eBodies, d_cQ, d_cZ, d_cNot, d_cAnd, d_cOr, d_gNil, d_gI, d_gL, d_gR, d_gD, d_xV, d_xS, d_xN, d_xT, d_eCall, d_lCall, d_eCallC, d_sNop, d_sSet, d_sSetL, d_sSetR, d_sSetQ, d_sInc, d_sPutI, d_sPutZ, d_sPutL, d_sPutA, d_sPutAZ, d_sPutAB, d_sPutAL, d_sPutD, d_sOpF, d_sOpA, d_sCall, d_sCopy, d_sSeq, d_sIf, d_sBrk, d_sCnt, d_sRetV, d_sRet, d_sRetL, d_sLp, d_tDef, d_tCase, d_sSw, d_sSwB, bIt_d, itb_0, itb_1, itb_2, itb_r, its_0, sqk_0, sqk_1, sqk_2, sqk_r, swk_0, swk_1, swk_r, bfin_r, bfin_ite, Option.bind_some, Option.map_some, Option.bind_none, Option.map_none, bind_ite, map_ite, cop0, cop1, cop2, cop3, cop4, cop5, opv0, opv1, opv2, opv3, brc_i, brc_z, two_ne_one, false_or, getI, getR, getL, List.getElem?_cons_zero, List.getElem?_cons_succ, List.set_cons_zero, List.set_cons_succ, bnl, if_true, if_false, true_or, or_true, decide_eq_true_eq, Bool.not_eq_true', decide_eq_false_iff_not, Bool.not_true, Bool.not_false, Bool.true_eq_false, Bool.false_eq_true, ite_not, reduceIte, ite01_0, ite01_1, Decidable.not_not, ne_eq, not_true_eq_false, not_false_eq_true, Function.comp_apply, decide_not, Bool.not_not, Bool.not_eq_false', dc_t, dc_f, and_self, true_and, and_true, and_false, false_and, tnc, Int.reduceLT, Int.reduceLE, Int.reduceEq, Int.reduceAdd, Int.reduceSub, Int.reduceMul, Int.reduceToNat, Int.reduceNeg, Int.reduceNe]
set_option maxHeartbeats 60000 in
theorem tr_c (n : Nat) (m : bM) (qI mi RI ri fl pa st : Int) (now told r : Int) (u v : Option bV) (h : r < 12) : L_Nights_toldInTime_1c.1.2 (sem n) [some (aR 101), some (aI qI), some (aI mi), some (aI RI), some (aI ri), some (aI fl), some (aI pa), some (aI st), some (aI now), some (aI told), some (aI r), u, v] m = some (true, m) := by
  simp only [L_Nights_toldInTime_1c, h, d_rLoc1, d_rLoc2, d_rFld1, d_rFld2, d_eInt, d_eLdc, d_eLdw, d_eLoc, d_eFld, d_lFld, d_eAI, d_eAZ, d_eAB, d_lAL, d_eAD, d_eLen, d_eAdd, d_eSub, d_eMul, d_eAnd, d_eOr, d_eXor, d_eShl, d_eShr, d_eUsh, d_lAdd, d_lSub, d_lMul, d_lAnd, d_lOr, d_lXor, d_lShl, d_lShr, d_eDiv, d_eRem, d_eCmp, d_eI2B, d_eI2S, d_eL2I, d_lI2L, d_lInt, d_lLdc, d_lLoc, d_eIte, d_lIte, d_eMax, d_eMin, d_eAbs, d_eAbove, d_eBodies, d_cQ, d_cZ, d_cNot, d_cAnd, d_cOr, d_gNil, d_gI, d_gL, d_gR, d_gD, d_xV, d_xS, d_xN, d_xT, d_eCall, d_lCall, d_eCallC, d_sNop, d_sSet, d_sSetL, d_sSetR, d_sSetQ, d_sInc, d_sPutI, d_sPutZ, d_sPutL, d_sPutA, d_sPutAZ, d_sPutAB, d_sPutAL, d_sPutD, d_sOpF, d_sOpA, d_sCall, d_sCopy, d_sSeq, d_sIf, d_sBrk, d_sCnt, d_sRetV, d_sRet, d_sRetL, d_sLp, d_tDef, d_tCase, d_sSw, d_sSwB, bIt_d, itb_0, itb_1, itb_2, itb_r, its_0, sqk_0, sqk_1, sqk_2, sqk_r, swk_0, swk_1, swk_r, bfin_r, bfin_ite, Option.bind_some, Option.map_some, Option.bind_none, Option.map_none, bind_ite, map_ite, cop0, cop1, cop2, cop3, cop4, cop5, opv0, opv1, opv2, opv3, brc_i, brc_z, two_ne_one, false_or, getI, getR, getL, List.getElem?_cons_zero, List.getElem?_cons_succ, List.set_cons_zero, List.set_cons_succ, bnl, if_true, if_false, true_or, or_true, decide_eq_true_eq, Bool.not_eq_true', decide_eq_false_iff_not, Bool.not_true, Bool.not_false, Bool.true_eq_false, Bool.false_eq_true, ite_not, reduceIte, ite01_0, ite01_1, Decidable.not_not, ne_eq, not_true_eq_false, not_false_eq_true, Function.comp_apply, decide_not, Bool.not_not, Bool.not_eq_false', dc_t, dc_f, and_self, true_and, and_true, and_false, false_and, tnc, Int.reduceLT, Int.reduceLE, Int.reduceEq, Int.reduceAdd, Int.reduceSub, Int.reduceMul, Int.reduceToNat, Int.reduceNeg, Int.reduceNe]
set_option maxHeartbeats 60000 in
theorem tr_x (n : Nat) (m : bM) (qI mi RI ri fl pa st : Int) (now told r : Int) (u v : Option bV) (h : ¬ r < 12) : L_Nights_toldInTime_1c.1.2 (sem n) [some (aR 101), some (aI qI), some (aI mi), some (aI RI), some (aI ri), some (aI fl), some (aI pa), some (aI st), some (aI now), some (aI told), some (aI r), u, v] m = some (false, m) := by
  simp only [L_Nights_toldInTime_1c, h, d_rLoc1, d_rLoc2, d_rFld1, d_rFld2, d_eInt, d_eLdc, d_eLdw, d_eLoc, d_eFld, d_lFld, d_eAI, d_eAZ, d_eAB, d_lAL, d_eAD, d_eLen, d_eAdd, d_eSub, d_eMul, d_eAnd, d_eOr, d_eXor, d_eShl, d_eShr, d_eUsh, d_lAdd, d_lSub, d_lMul, d_lAnd, d_lOr, d_lXor, d_lShl, d_lShr, d_eDiv, d_eRem, d_eCmp, d_eI2B, d_eI2S, d_eL2I, d_lI2L, d_lInt, d_lLdc, d_lLoc, d_eIte, d_lIte, d_eMax, d_eMin, d_eAbs, d_eAbove, d_eBodies, d_cQ, d_cZ, d_cNot, d_cAnd, d_cOr, d_gNil, d_gI, d_gL, d_gR, d_gD, d_xV, d_xS, d_xN, d_xT, d_eCall, d_lCall, d_eCallC, d_sNop, d_sSet, d_sSetL, d_sSetR, d_sSetQ, d_sInc, d_sPutI, d_sPutZ, d_sPutL, d_sPutA, d_sPutAZ, d_sPutAB, d_sPutAL, d_sPutD, d_sOpF, d_sOpA, d_sCall, d_sCopy, d_sSeq, d_sIf, d_sBrk, d_sCnt, d_sRetV, d_sRet, d_sRetL, d_sLp, d_tDef, d_tCase, d_sSw, d_sSwB, bIt_d, itb_0, itb_1, itb_2, itb_r, its_0, sqk_0, sqk_1, sqk_2, sqk_r, swk_0, swk_1, swk_r, bfin_r, bfin_ite, Option.bind_some, Option.map_some, Option.bind_none, Option.map_none, bind_ite, map_ite, cop0, cop1, cop2, cop3, cop4, cop5, opv0, opv1, opv2, opv3, brc_i, brc_z, two_ne_one, false_or, getI, getR, getL, List.getElem?_cons_zero, List.getElem?_cons_succ, List.set_cons_zero, List.set_cons_succ, bnl, if_true, if_false, true_or, or_true, decide_eq_true_eq, Bool.not_eq_true', decide_eq_false_iff_not, Bool.not_true, Bool.not_false, Bool.true_eq_false, Bool.false_eq_true, ite_not, reduceIte, ite01_0, ite01_1, Decidable.not_not, ne_eq, not_true_eq_false, not_false_eq_true, Function.comp_apply, decide_not, Bool.not_not, Bool.not_eq_false', dc_t, dc_f, and_self, true_and, and_true, and_false, false_and, tnc, Int.reduceLT, Int.reduceLE, Int.reduceEq, Int.reduceAdd, Int.reduceSub, Int.reduceMul, Int.reduceToNat, Int.reduceNeg, Int.reduceNe]
set_option maxHeartbeats 60000 in
theorem tr_s (n : Nat) (m : bM) (qI mi RI ri fl pa st : Int) (now told r y : Int) (u v : Option bV) (h : i32 (r + 1) = y) : L_Nights_toldInTime_1s.1.2 (sem n) [some (aR 101), some (aI qI), some (aI mi), some (aI RI), some (aI ri), some (aI fl), some (aI pa), some (aI st), some (aI now), some (aI told), some (aI r), u, v] m = some (.inl (0, [some (aR 101), some (aI qI), some (aI mi), some (aI RI), some (aI ri), some (aI fl), some (aI pa), some (aI st), some (aI now), some (aI told), some (aI y), u, v], m)) := by
  simp only [L_Nights_toldInTime_1s, h, d_rLoc1, d_rLoc2, d_rFld1, d_rFld2, d_eInt, d_eLdc, d_eLdw, d_eLoc, d_eFld, d_lFld, d_eAI, d_eAZ, d_eAB, d_lAL, d_eAD, d_eLen, d_eAdd, d_eSub, d_eMul, d_eAnd, d_eOr, d_eXor, d_eShl, d_eShr, d_eUsh, d_lAdd, d_lSub, d_lMul, d_lAnd, d_lOr, d_lXor, d_lShl, d_lShr, d_eDiv, d_eRem, d_eCmp, d_eI2B, d_eI2S, d_eL2I, d_lI2L, d_lInt, d_lLdc, d_lLoc, d_eIte, d_lIte, d_eMax, d_eMin, d_eAbs, d_eAbove, d_eBodies, d_cQ, d_cZ, d_cNot, d_cAnd, d_cOr, d_gNil, d_gI, d_gL, d_gR, d_gD, d_xV, d_xS, d_xN, d_xT, d_eCall, d_lCall, d_eCallC, d_sNop, d_sSet, d_sSetL, d_sSetR, d_sSetQ, d_sInc, d_sPutI, d_sPutZ, d_sPutL, d_sPutA, d_sPutAZ, d_sPutAB, d_sPutAL, d_sPutD, d_sOpF, d_sOpA, d_sCall, d_sCopy, d_sSeq, d_sIf, d_sBrk, d_sCnt, d_sRetV, d_sRet, d_sRetL, d_sLp, d_tDef, d_tCase, d_sSw, d_sSwB, bIt_d, itb_0, itb_1, itb_2, itb_r, its_0, sqk_0, sqk_1, sqk_2, sqk_r, swk_0, swk_1, swk_r, bfin_r, bfin_ite, Option.bind_some, Option.map_some, Option.bind_none, Option.map_none, bind_ite, map_ite, cop0, cop1, cop2, cop3, cop4, cop5, opv0, opv1, opv2, opv3, brc_i, brc_z, two_ne_one, false_or, getI, getR, getL, List.getElem?_cons_zero, List.getElem?_cons_succ, List.set_cons_zero, List.set_cons_succ, bnl, if_true, if_false, true_or, or_true, decide_eq_true_eq, Bool.not_eq_true', decide_eq_false_iff_not, Bool.not_true, Bool.not_false, Bool.true_eq_false, Bool.false_eq_true, ite_not, reduceIte, ite01_0, ite01_1, Decidable.not_not, ne_eq, not_true_eq_false, not_false_eq_true, Function.comp_apply, decide_not, Bool.not_not, Bool.not_eq_false', dc_t, dc_f, and_self, true_and, and_true, and_false, false_and, tnc, Int.reduceLT, Int.reduceLE, Int.reduceEq, Int.reduceAdd, Int.reduceSub, Int.reduceMul, Int.reduceToNat, Int.reduceNeg, Int.reduceNe]
set_option maxHeartbeats 60000 in
theorem tr_e (n : Nat) (m m2 : bM) (qI mi RI ri fl a10 pa st v : Int) (now r : Int) (u1 u2 : Option bV) (e1 : sem (n + 4) 257 [aR 101, aI qI] m = some (m2, 0)) (x1 : jdiv ri 100 = pa) (x2 : jdiv ri 10 = a10) (x3 : jrem a10 10 = st) (e2 : L_Nights_toldInTime_1.1.2 (sem (n + 4)) [some (aR 101), some (aI qI), some (aI mi), some (aI RI), some (aI ri), some (aI fl), some (aI pa), some (aI st), some (aI mi), some (aI 0), some (aI RI), none, none] m2 = some (.inl (0, [some (aR 101), some (aI qI), some (aI mi), some (aI RI), some (aI ri), some (aI fl), some (aI pa), some (aI st), some (aI now), some (aI v), some (aI r), u1, u2], m2))) : sem (n + 5) 148 [aR 101, aI qI, aI mi, aI RI, aI ri, aI fl] m = some (m2, v) := by
  rw [st_Nights_toldInTime]
  unfold B_Nights_toldInTime
  revert e2
  generalize L_Nights_toldInTime_1 = LL
  intro e2
  simp only [kr_Nights_toldInTime, e1, x1, x2, x3, e2, d_rLoc1, d_rLoc2, d_rFld1, d_rFld2, d_eInt, d_eLdc, d_eLdw, d_eLoc, d_eFld, d_lFld, d_eAI, d_eAZ, d_eAB, d_lAL, d_eAD, d_eLen, d_eAdd, d_eSub, d_eMul, d_eAnd, d_eOr, d_eXor, d_eShl, d_eShr, d_eUsh, d_lAdd, d_lSub, d_lMul, d_lAnd, d_lOr, d_lXor, d_lShl, d_lShr, d_eDiv, d_eRem, d_eCmp, d_eI2B, d_eI2S, d_eL2I, d_lI2L, d_lInt, d_lLdc, d_lLoc, d_eIte, d_lIte, d_eMax, d_eMin, d_eAbs, d_eAbove, d_eBodies, d_cQ, d_cZ, d_cNot, d_cAnd, d_cOr, d_gNil, d_gI, d_gL, d_gR, d_gD, d_xV, d_xS, d_xN, d_xT, d_eCall, d_lCall, d_eCallC, d_sNop, d_sSet, d_sSetL, d_sSetR, d_sSetQ, d_sInc, d_sPutI, d_sPutZ, d_sPutL, d_sPutA, d_sPutAZ, d_sPutAB, d_sPutAL, d_sPutD, d_sOpF, d_sOpA, d_sCall, d_sCopy, d_sSeq, d_sIf, d_sBrk, d_sCnt, d_sRetV, d_sRet, d_sRetL, d_sLp, d_tDef, d_tCase, d_sSw, d_sSwB, bIt_d, itb_0, itb_1, itb_2, itb_r, its_0, sqk_0, sqk_1, sqk_2, sqk_r, swk_0, swk_1, swk_r, bfin_r, bfin_ite, Option.bind_some, Option.map_some, Option.bind_none, Option.map_none, bind_ite, map_ite, cop0, cop1, cop2, cop3, cop4, cop5, opv0, opv1, opv2, opv3, brc_i, brc_z, two_ne_one, false_or, getI, getR, getL, List.getElem?_cons_zero, List.getElem?_cons_succ, List.set_cons_zero, List.set_cons_succ, bnl, if_true, if_false, true_or, or_true, decide_eq_true_eq, Bool.not_eq_true', decide_eq_false_iff_not, Bool.not_true, Bool.not_false, Bool.true_eq_false, Bool.false_eq_true, ite_not, reduceIte, ite01_0, ite01_1, Decidable.not_not, ne_eq, not_true_eq_false, not_false_eq_true, Function.comp_apply, decide_not, Bool.not_not, Bool.not_eq_false', dc_t, dc_f, and_self, true_and, and_true, and_false, false_and, tnc, Int.reduceLT, Int.reduceLE, Int.reduceEq, Int.reduceAdd, Int.reduceSub, Int.reduceMul, Int.reduceToNat, Int.reduceNeg, Int.reduceNe]
/-- the houses of the first j reaches that could be told -/
def tdJ (c : bM) (wt : Nat → Option Nat) (mi pa st fl : Int) (R j h : Nat) : Bool := decide (hrN c h < R + j) && tdW c wt mi pa st fl R h
set_option maxHeartbeats 60000 in
theorem hrN_c {c r : bM} (hV : RelV c r) {h : Nat} (h10 : h < 10) : c 6 h = (hrN c h : Int) ∧ hrN c h < 12 := by
  have := RelV_rhAt hV h h10
  unfold hrN
  omega
set_option maxHeartbeats 60000 in
theorem tdJ_s {c r : bM} (hV : RelV c r) (wt : Nat → Option Nat) (mi pa st fl : Int) (R j : Nat) {h : Nat} (h10 : h < 10) : (tdJ c wt mi pa st fl R j h || rQ c (wt (R + j)) fl (nw c mi pa st R j) st (R + j) h) = tdJ c wt mi pa st fl R (j + 1) h := by
  obtain ⟨e1, e2⟩ := hrN_c hV h10
  unfold tdJ rQ
  have d1 : decide (c 6 h = ((R + j : Nat) : Int)) = decide (hrN c h = R + j) := decide_eq_decide.mpr (by rw [e1]; exact Int.natCast_inj)
  rw [d1]
  by_cases z : hrN c h = R + j
  · have t1 : tdW c wt mi pa st fl R h = okx (wt (R + j)) fl (nw c mi pa st R j + st * (hcn c (R + j) (h + 1) : Int)) := by
      unfold tdW tmH
      rw [z, Nat.add_sub_cancel_left, decide_eq_true (Nat.le_add_right R j), Bool.true_and]
    have z1 : ¬ hrN c h < R + j := by omega
    have z2 : hrN c h < R + (j + 1) := by omega
    rw [decide_eq_true z, decide_eq_false z1, decide_eq_true z2, t1]
    simp
  · rw [decide_eq_false z, Bool.false_and, Bool.or_false]
    congr 1
    exact decide_eq_decide.mpr (by omega)
theorem tdJ_0 (c : bM) (wt : Nat → Option Nat) (mi pa st fl : Int) (R H : Nat) : bst (tdJ c wt mi pa st fl R 0) H = 0 := bst_0 (fun x hx => by
    unfold tdJ tdW
    by_cases z : hrN c x < R + 0
    · have z1 : ¬ R ≤ hrN c x := by omega
      rw [decide_eq_false z1, Bool.false_and, Bool.and_false]
    · rw [decide_eq_false z, Bool.false_and])
theorem tdJ_e {c r : bM} (hV : RelV c r) (wt : Nat → Option Nat) (mi pa st fl : Int) (R H : Nat) (hH2 : H ≤ 10) (hR : R ≤ 11) : bst (tdJ c wt mi pa st fl R (12 - R)) H = bst (tdW c wt mi pa st fl R) H := bst_congr (fun x hx => by
    unfold tdJ
    have := (hrN_c hV (Nat.lt_of_lt_of_le hx hH2)).2
    rw [decide_eq_true (show hrN c x < R + (12 - R) by omega), Bool.true_and])
theorem R12 {R : Nat} (h : R ≤ 11) : ¬ ((R + (12 - R) : Nat) : Int) < 12 := by omega
set_option maxHeartbeats 60000 in
theorem tt_out (n : Nat) {c r0 m : bM} (hV : RelV c r0) (hb : bse c m) (H : Nat) (hH : c 1 10 = (H : Int)) (hH2 : H ≤ 10) (q : Nat) (hq : q < 90) (wt : Nat → Option Nat) (hw : ∀ r, r < 12 → m 105 (12 * q + r) = oM3 (wt r)) (mi ri fl pa st : Int) (R : Nat) (hR : R ≤ 11) (hmi : 0 ≤ mi ∧ mi ≤ 179) (hpa : 0 ≤ pa ∧ pa ≤ 9) (hst : 0 ≤ st ∧ st ≤ 9) (hfl : 0 ≤ fl ∧ fl ≤ 30) : ∃ now r u v, L_Nights_toldInTime_1.1.2 (sem n) [some (aR 101), some (aI (q : Int)), some (aI mi), some (aI (R : Int)), some (aI ri), some (aI fl), some (aI pa), some (aI st), some (aI mi), some (aI 0), some (aI (R : Int)), none, none] m = some (.inl (0, [some (aR 101), some (aI (q : Int)), some (aI mi), some (aI (R : Int)), some (aI ri), some (aI fl), some (aI pa), some (aI st), some (aI now), some (aI (bst (tdW c wt mi pa st fl R) H : Int)), some (aI r), u, v], m)) := by
  have eH : nHs c = H := by unfold nHs; rw [hH]; exact tnc H
  have h10 : nHs c ≤ 10 := by rw [eH]; exact hH2
  have go : bLp (L_Nights_toldInTime_1c.1.2 (sem n)) (L_Nights_toldInTime_1b.1.2 (sem n)) (L_Nights_toldInTime_1s.1.2 (sem n)) bF [some (aR 101), some (aI (q : Int)), some (aI mi), some (aI (R : Int)), some (aI ri), some (aI fl), some (aI pa), some (aI st), some (aI (nw c mi pa st R 0)), some (aI (bst (tdJ c wt mi pa st fl R 0) H : Int)), some (aI ((R + 0 : Nat) : Int)), (xo 0 (oM3 (wt (R + 0 - 1)))), (xo 0 (H : Int))] m = some (.inl (0, [some (aR 101), some (aI (q : Int)), some (aI mi), some (aI (R : Int)), some (aI ri), some (aI fl), some (aI pa), some (aI st), some (aI (nw c mi pa st R (12 - R))), some (aI (bst (tdJ c wt mi pa st fl R (12 - R)) H : Int)), some (aI ((R + (12 - R) : Nat) : Int)), (xo (12 - R) (oM3 (wt (R + (12 - R) - 1)))), (xo (12 - R) (H : Int))], m)) := by
    refine lp_e (fun j => [some (aR 101), some (aI (q : Int)), some (aI mi), some (aI (R : Int)), some (aI ri), some (aI fl), some (aI pa), some (aI st), some (aI (nw c mi pa st R j)), some (aI (bst (tdJ c wt mi pa st fl R j) H : Int)), some (aI ((R + j : Nat) : Int)), (xo j (oM3 (wt (R + j - 1)))), (xo j (H : Int))]) (fun _ => m) (fun m' => m' = m) (12 - R) (by omega) (fun j hj => ?_) rfl (fun m' hm' => ?_)
    · have r12 : R + j < 12 := by omega
      have f1 : ((R + j : Nat) : Int) < 12 := by omega
      have y0 : R + j < 2147483647 := by omega
      have ha := nw_b (c := c) h10 hmi hpa hst R (j := j) (by omega)
      have y3 := nw_b32 (c := c) h10 hmi hpa hst R (j := j + 1) (by omega)
      have f3 : i32 (((R + j : Nat) : Int) + 1) = ((R + (j + 1) : Nat) : Int) := i32_s y0
      have x3 : i32 (nw c mi pa st R j + st * (hcn c (R + j) H : Int) + pa) = nw c mi pa st R (j + 1) := by
        rw [← eH]
        exact i32_of y3.1 y3.2
      have e2 := tt_in n hb H hH hH2 (q : Int) mi (R : Int) ri fl pa st (nw c mi pa st R j) ha hst hfl (wt (R + j)) (R + j) (tdJ c wt mi pa st fl R j)
      rw [bst_congr (fun x hx => tdJ_s hV wt mi pa st fl R j (Nat.lt_of_lt_of_le hx hH2))] at e2
      have B := tr_b n m (q : Int) mi (R : Int) ri fl pa st _ _ _ _ _ _ _ _ _ _ (12 * q + (R + j)) (xo j (oM3 (wt (R + j - 1)))) (xo j (H : Int)) (q12 hq) (q12s hq r12) (q12f hq r12) (tnc _) (hw (R + j) r12) e2 x3
      rw [xo_s, xo_s, show R + (j + 1) - 1 = R + j from rfl]
      exact bIt_go (m1 := m) (m2 := m) (tr_c n m (q : Int) mi (R : Int) ri fl pa st _ _ _ _ _ f1) B (tr_s n m (q : Int) mi (R : Int) ri fl pa st _ _ _ _ _ _ f3)
    · subst hm'
      exact bIt_ex (tr_x n m' (q : Int) mi (R : Int) ri fl pa st _ _ _ _ _ (R12 hR))
  rw [tdJ_0 c wt mi pa st fl R H, tdJ_e hV wt mi pa st fl R H hH2 hR] at go
  have e : ∀ x, bLp (L_Nights_toldInTime_1c.1.2 (sem n)) (L_Nights_toldInTime_1b.1.2 (sem n)) (L_Nights_toldInTime_1s.1.2 (sem n)) bF [some (aR 101), some (aI (q : Int)), some (aI mi), some (aI (R : Int)), some (aI ri), some (aI fl), some (aI pa), some (aI st), some (aI (nw c mi pa st R 0)), some (aI ((0 : Nat) : Int)), some (aI ((R + 0 : Nat) : Int)), (xo 0 (oM3 (wt (R + 0 - 1)))), (xo 0 (H : Int))] m = x → L_Nights_toldInTime_1.1.2 (sem n) [some (aR 101), some (aI (q : Int)), some (aI mi), some (aI (R : Int)), some (aI ri), some (aI fl), some (aI pa), some (aI st), some (aI mi), some (aI 0), some (aI (R : Int)), none, none] m = x := fun x hx => by
    unfold L_Nights_toldInTime_1
    rw [d_sLp]
    exact hx
  exact ⟨_, _, _, _, e _ go⟩
set_option maxHeartbeats 60000 in
theorem sp_toldInTime (n : Nat) {i : Nat} {c m : bM} (hR : Rel c c) (hb : bse c m) (hN : NgtC i c m) (q : Nat) (hq : q < 90) (mi fl : Int) (R D : Nat) (hR11 : R ≤ 11) (hD : 100 ≤ D ∧ D ≤ 999) (hmi : 0 ≤ mi ∧ mi ≤ 179) (hfl : 0 ≤ fl ∧ fl ≤ 30) : ∃ m2, sem (n + 5) 148 [aR 101, aI (q : Int), aI mi, aI (R : Int), aI (D : Int), aI fl] m = some (m2, (bst (tdW c (fun r => qDeep c q r 1) mi ((D / 100 : Nat) : Int) ((D / 10 % 10 : Nat) : Int) fl R) (nHs c) : Int)) ∧ NgtC i c m2 ∧ frN m m2 := by
  obtain ⟨m2, e1, h1, hk, fr⟩ := sp_know n hR hb hN q hq
  have hH10 := RelV_rhouses (Rel_v hR)
  obtain ⟨H, hH⟩ : ∃ H : Nat, c 1 10 = (H : Int) := ⟨(c 1 10).toNat, by omega⟩
  have eH : nHs c = H := by unfold nHs; rw [hH]; exact tnc H
  have hH2 : H ≤ 10 := by omega
  have y1 : 0 ≤ (D : Int) ∧ (D : Int) < 2147483648 := by omega
  have y2 : (D : Int) / 100 = ((D / 100 : Nat) : Int) := by omega
  have y3 : (D : Int) / 10 = ((D / 10 : Nat) : Int) := by omega
  have y4 : -2147483648 ≤ ((D / 10 % 10 : Nat) : Int) ∧ ((D / 10 % 10 : Nat) : Int) < 2147483648 := by omega
  have p1 : 0 ≤ ((D / 100 : Nat) : Int) ∧ ((D / 100 : Nat) : Int) ≤ 9 := by omega
  have p2 : 0 ≤ ((D / 10 % 10 : Nat) : Int) ∧ ((D / 10 % 10 : Nat) : Int) ≤ 9 := by omega
  have x1 : jdiv (D : Int) 100 = ((D / 100 : Nat) : Int) := (jdiv_of y1 (by decide)).trans y2
  have x2 : jdiv (D : Int) 10 = ((D / 10 : Nat) : Int) := (jdiv_of y1 (by decide)).trans y3
  have x3 : jrem ((D / 10 : Nat) : Int) 10 = ((D / 10 % 10 : Nat) : Int) := by unfold jrem; exact i32_of y4.1 y4.2
  obtain ⟨now, r, u, v, e2⟩ := tt_out (n + 4) (Rel_v hR) (frN_bse hb fr) H hH hH2 q hq (fun r => qDeep c q r 1) (Known_wet hk) mi (D : Int) fl ((D / 100 : Nat) : Int) ((D / 10 % 10 : Nat) : Int) R hR11 hmi p1 p2 hfl
  refine ⟨m2, ?_, h1, fr⟩
  rw [eH]
  exact tr_e n m m2 _ _ _ _ _ _ _ _ _ _ _ _ _ e1 x1 x2 x3 e2

/-- whom a rider could tell in night q -/
def tdQ (c : bM) (mi fl : Int) (R D q h : Nat) : Bool := tdW c (fun r => qDeep c q r 1) mi ((D / 100 : Nat) : Int) ((D / 10 % 10 : Nat) : Int) fl R h
def tAll (c : bM) (mi fl : Int) (R D k h : Nat) : Bool := allB (fun q => !poss c q || tdQ c mi fl R D q h) k
def tI (c : bM) (mi fl : Int) (R D k : Nat) : Int := if anyB (poss c) 90 = true then (if anyB (poss c) k = true then (bst (tAll c mi fl R D k) (nHs c) : Int) else -1) else 0
theorem tI_n {c : bM} {mi fl : Int} {R D k : Nat} (hp : ¬ poss c k = true) : tI c mi fl R D (k + 1) = tI c mi fl R D k := by
  have hp' : poss c k = false := by simpa using hp
  have a : anyB (poss c) (k + 1) = anyB (poss c) k := by
    show (anyB (poss c) k || poss c k) = _
    rw [hp', Bool.or_false]
  have b : tAll c mi fl R D (k + 1) = tAll c mi fl R D k := by
    funext h
    show (tAll c mi fl R D k h && (!poss c k || tdQ c mi fl R D k h)) = _
    rw [hp']; simp
  unfold tI
  rw [a, b]
theorem tI_s {c : bM} (h10 : nHs c ≤ 10) {mi fl : Int} {R D k : Nat} (hk : k < 90) (hp : poss c k = true) : jand (tI c mi fl R D k) (bst (tdQ c mi fl R D k) (nHs c) : Int) = tI c mi fl R D (k + 1) := by
  have a0 : anyB (poss c) 90 = true := anyB_iff.2 ⟨k, hk, hp⟩
  have a1 : anyB (poss c) (k + 1) = true := anyB_iff.2 ⟨k, Nat.lt_succ_self k, hp⟩
  have e1 : tI c mi fl R D (k + 1) = (bst (tAll c mi fl R D (k + 1)) (nHs c) : Int) := by unfold tI; rw [if_pos a0, if_pos a1]
  have es : ∀ h, tAll c mi fl R D (k + 1) h = (tAll c mi fl R D k h && tdQ c mi fl R D k h) := fun h => by
    show (tAll c mi fl R D k h && (!poss c k || tdQ c mi fl R D k h)) = _
    rw [hp]; rfl
  rw [e1]
  unfold tI
  rw [if_pos a0]
  by_cases z : anyB (poss c) k = true
  · rw [if_pos z, jand_nat (bst_lt31 _ (by omega)), bst_and]
    congr 1
    exact bst_congr (fun h _ => (es h).symm)
  · rw [if_neg z, jm1 _ (in32_bst _ (by omega))]
    congr 1
    refine bst_congr (fun h _ => ?_)
    rw [es h, show tAll c mi fl R D k h = true from allB_t (fun q hq => by rw [anyB_no z q hq]; rfl), Bool.true_and]
def tFin (c : bM) (mi fl : Int) (R D : Nat) : Int := if anyB (poss c) 90 = true then (bst (tAll c mi fl R D 90) (nHs c) : Int) else 0
theorem tI_e {c : bM} {mi fl : Int} {R D : Nat} : tI c mi fl R D 90 = tFin c mi fl R D := by
  unfold tI tFin
  by_cases z : anyB (poss c) 90 = true
  · rw [if_pos z, if_pos z, if_pos z]
  · rw [if_neg z, if_neg z]
theorem tf_b1 (n : Nat) (m m2 : bM) (mi RI ri fl v kI w : Int) (k : Nat) (f2 : 0 ≤ kI ∧ kI < ((90 : Nat) : Int)) (tk : kI.toNat = k) (h : m 107 k = 1) (e : sem (n + 5) 148 [aR 101, aI kI, aI mi, aI RI, aI ri, aI fl] m = some (m2, w)) : L_Nights_toldForSure_1b.1.2 (sem (n + 5)) [some (aR 101), some (aI mi), some (aI RI), some (aI ri), some (aI fl), some (aI v), some (aI kI)] m = some (.inl (0, [some (aR 101), some (aI mi), some (aI RI), some (aI ri), some (aI fl), some (aI (jand v w)), some (aI kI)], m2)) := by
  simp only [L_Nights_toldForSure_1b, f2, tk, h, e, d_rLoc1, d_rLoc2, d_rFld1, d_rFld2, d_eInt, d_eLdc, d_eLdw, d_eLoc, d_eFld, d_lFld, d_eAI, d_eAZ, d_eAB, d_lAL, d_eAD, d_eLen, d_eAdd, d_eSub, d_eMul, d_eAnd, d_eOr, d_eXor, d_eShl, d_eShr, d_eUsh, d_lAdd, d_lSub, d_lMul, d_lAnd, d_lOr, d_lXor, d_lShl, d_lShr, d_eDiv, d_eRem, d_eCmp, d_eI2B, d_eI2S, d_eL2I, d_lI2L, d_lInt, d_lLdc, d_lLoc, d_eIte, d_lIte, d_eMax, d_eMin, d_eAbs, d_eAbove, d_eBodies, d_cQ, d_cZ, d_cNot, d_cAnd, d_cOr, d_gNil, d_gI, d_gL, d_gR, d_gD, d_xV, d_xS, d_xN, d_xT, d_eCall, d_lCall, d_eCallC, d_sNop, d_sSet, d_sSetL, d_sSetR, d_sSetQ, d_sInc, d_sPutI, d_sPutZ, d_sPutL, d_sPutA, d_sPutAZ, d_sPutAB, d_sPutAL, d_sPutD, d_sOpF, d_sOpA, d_sCall, d_sCopy, d_sSeq, d_sIf, d_sBrk, d_sCnt, d_sRetV, d_sRet, d_sRetL, d_sLp, d_tDef, d_tCase, d_sSw, d_sSwB, bIt_d, itb_0, itb_1, itb_2, itb_r, its_0, sqk_0, sqk_1, sqk_2, sqk_r, swk_0, swk_1, swk_r, bfin_r, bfin_ite, Option.bind_some, Option.map_some, Option.bind_none, Option.map_none, bind_ite, map_ite, cop0, cop1, cop2, cop3, cop4, cop5, opv0, opv1, opv2, opv3, brc_i, brc_z, two_ne_one, false_or, getI, getR, getL, List.getElem?_cons_zero, List.getElem?_cons_succ, List.set_cons_zero, List.set_cons_succ, bnl, if_true, if_false, true_or, or_true, decide_eq_true_eq, Bool.not_eq_true', decide_eq_false_iff_not, Bool.not_true, Bool.not_false, Bool.true_eq_false, Bool.false_eq_true, ite_not, reduceIte, ite01_0, ite01_1, Decidable.not_not, ne_eq, not_true_eq_false, not_false_eq_true, Function.comp_apply, decide_not, Bool.not_not, Bool.not_eq_false', dc_t, dc_f, and_self, true_and, and_true, and_false, false_and, tnc, Int.reduceLT, Int.reduceLE, Int.reduceEq, Int.reduceAdd, Int.reduceSub, Int.reduceMul, Int.reduceToNat, Int.reduceNeg, Int.reduceNe]
theorem tf_b0 (n : Nat) (m : bM) (mi RI ri fl v kI : Int) (k : Nat) (f2 : 0 ≤ kI ∧ kI < ((90 : Nat) : Int)) (tk : kI.toNat = k) (h : m 107 k = 0) : L_Nights_toldForSure_1b.1.2 (sem n) [some (aR 101), some (aI mi), some (aI RI), some (aI ri), some (aI fl), some (aI v), some (aI kI)] m = some (.inl (0, [some (aR 101), some (aI mi), some (aI RI), some (aI ri), some (aI fl), some (aI v), some (aI kI)], m)) := by
  simp only [L_Nights_toldForSure_1b, f2, tk, h, d_rLoc1, d_rLoc2, d_rFld1, d_rFld2, d_eInt, d_eLdc, d_eLdw, d_eLoc, d_eFld, d_lFld, d_eAI, d_eAZ, d_eAB, d_lAL, d_eAD, d_eLen, d_eAdd, d_eSub, d_eMul, d_eAnd, d_eOr, d_eXor, d_eShl, d_eShr, d_eUsh, d_lAdd, d_lSub, d_lMul, d_lAnd, d_lOr, d_lXor, d_lShl, d_lShr, d_eDiv, d_eRem, d_eCmp, d_eI2B, d_eI2S, d_eL2I, d_lI2L, d_lInt, d_lLdc, d_lLoc, d_eIte, d_lIte, d_eMax, d_eMin, d_eAbs, d_eAbove, d_eBodies, d_cQ, d_cZ, d_cNot, d_cAnd, d_cOr, d_gNil, d_gI, d_gL, d_gR, d_gD, d_xV, d_xS, d_xN, d_xT, d_eCall, d_lCall, d_eCallC, d_sNop, d_sSet, d_sSetL, d_sSetR, d_sSetQ, d_sInc, d_sPutI, d_sPutZ, d_sPutL, d_sPutA, d_sPutAZ, d_sPutAB, d_sPutAL, d_sPutD, d_sOpF, d_sOpA, d_sCall, d_sCopy, d_sSeq, d_sIf, d_sBrk, d_sCnt, d_sRetV, d_sRet, d_sRetL, d_sLp, d_tDef, d_tCase, d_sSw, d_sSwB, bIt_d, itb_0, itb_1, itb_2, itb_r, its_0, sqk_0, sqk_1, sqk_2, sqk_r, swk_0, swk_1, swk_r, bfin_r, bfin_ite, Option.bind_some, Option.map_some, Option.bind_none, Option.map_none, bind_ite, map_ite, cop0, cop1, cop2, cop3, cop4, cop5, opv0, opv1, opv2, opv3, brc_i, brc_z, two_ne_one, false_or, getI, getR, getL, List.getElem?_cons_zero, List.getElem?_cons_succ, List.set_cons_zero, List.set_cons_succ, bnl, if_true, if_false, true_or, or_true, decide_eq_true_eq, Bool.not_eq_true', decide_eq_false_iff_not, Bool.not_true, Bool.not_false, Bool.true_eq_false, Bool.false_eq_true, ite_not, reduceIte, ite01_0, ite01_1, Decidable.not_not, ne_eq, not_true_eq_false, not_false_eq_true, Function.comp_apply, decide_not, Bool.not_not, Bool.not_eq_false', dc_t, dc_f, and_self, true_and, and_true, and_false, false_and, tnc, Int.reduceLT, Int.reduceLE, Int.reduceEq, Int.reduceAdd, Int.reduceSub, Int.reduceMul, Int.reduceToNat, Int.reduceNeg, Int.reduceNe]
theorem tf_c (n : Nat) (m : bM) (mi RI ri fl v kI : Int) (h : kI < 90) : L_Nights_toldForSure_1c.1.2 (sem n) [some (aR 101), some (aI mi), some (aI RI), some (aI ri), some (aI fl), some (aI v), some (aI kI)] m = some (true, m) := by
  simp only [L_Nights_toldForSure_1c, h, d_rLoc1, d_rLoc2, d_rFld1, d_rFld2, d_eInt, d_eLdc, d_eLdw, d_eLoc, d_eFld, d_lFld, d_eAI, d_eAZ, d_eAB, d_lAL, d_eAD, d_eLen, d_eAdd, d_eSub, d_eMul, d_eAnd, d_eOr, d_eXor, d_eShl, d_eShr, d_eUsh, d_lAdd, d_lSub, d_lMul, d_lAnd, d_lOr, d_lXor, d_lShl, d_lShr, d_eDiv, d_eRem, d_eCmp, d_eI2B, d_eI2S, d_eL2I, d_lI2L, d_lInt, d_lLdc, d_lLoc, d_eIte, d_lIte, d_eMax, d_eMin, d_eAbs, d_eAbove, d_eBodies, d_cQ, d_cZ, d_cNot, d_cAnd, d_cOr, d_gNil, d_gI, d_gL, d_gR, d_gD, d_xV, d_xS, d_xN, d_xT, d_eCall, d_lCall, d_eCallC, d_sNop, d_sSet, d_sSetL, d_sSetR, d_sSetQ, d_sInc, d_sPutI, d_sPutZ, d_sPutL, d_sPutA, d_sPutAZ, d_sPutAB, d_sPutAL, d_sPutD, d_sOpF, d_sOpA, d_sCall, d_sCopy, d_sSeq, d_sIf, d_sBrk, d_sCnt, d_sRetV, d_sRet, d_sRetL, d_sLp, d_tDef, d_tCase, d_sSw, d_sSwB, bIt_d, itb_0, itb_1, itb_2, itb_r, its_0, sqk_0, sqk_1, sqk_2, sqk_r, swk_0, swk_1, swk_r, bfin_r, bfin_ite, Option.bind_some, Option.map_some, Option.bind_none, Option.map_none, bind_ite, map_ite, cop0, cop1, cop2, cop3, cop4, cop5, opv0, opv1, opv2, opv3, brc_i, brc_z, two_ne_one, false_or, getI, getR, getL, List.getElem?_cons_zero, List.getElem?_cons_succ, List.set_cons_zero, List.set_cons_succ, bnl, if_true, if_false, true_or, or_true, decide_eq_true_eq, Bool.not_eq_true', decide_eq_false_iff_not, Bool.not_true, Bool.not_false, Bool.true_eq_false, Bool.false_eq_true, ite_not, reduceIte, ite01_0, ite01_1, Decidable.not_not, ne_eq, not_true_eq_false, not_false_eq_true, Function.comp_apply, decide_not, Bool.not_not, Bool.not_eq_false', dc_t, dc_f, and_self, true_and, and_true, and_false, false_and, tnc, Int.reduceLT, Int.reduceLE, Int.reduceEq, Int.reduceAdd, Int.reduceSub, Int.reduceMul, Int.reduceToNat, Int.reduceNeg, Int.reduceNe]
theorem tf_x (n : Nat) (m : bM) (mi RI ri fl v kI : Int) (h : ¬ kI < 90) : L_Nights_toldForSure_1c.1.2 (sem n) [some (aR 101), some (aI mi), some (aI RI), some (aI ri), some (aI fl), some (aI v), some (aI kI)] m = some (false, m) := by
  simp only [L_Nights_toldForSure_1c, h, d_rLoc1, d_rLoc2, d_rFld1, d_rFld2, d_eInt, d_eLdc, d_eLdw, d_eLoc, d_eFld, d_lFld, d_eAI, d_eAZ, d_eAB, d_lAL, d_eAD, d_eLen, d_eAdd, d_eSub, d_eMul, d_eAnd, d_eOr, d_eXor, d_eShl, d_eShr, d_eUsh, d_lAdd, d_lSub, d_lMul, d_lAnd, d_lOr, d_lXor, d_lShl, d_lShr, d_eDiv, d_eRem, d_eCmp, d_eI2B, d_eI2S, d_eL2I, d_lI2L, d_lInt, d_lLdc, d_lLoc, d_eIte, d_lIte, d_eMax, d_eMin, d_eAbs, d_eAbove, d_eBodies, d_cQ, d_cZ, d_cNot, d_cAnd, d_cOr, d_gNil, d_gI, d_gL, d_gR, d_gD, d_xV, d_xS, d_xN, d_xT, d_eCall, d_lCall, d_eCallC, d_sNop, d_sSet, d_sSetL, d_sSetR, d_sSetQ, d_sInc, d_sPutI, d_sPutZ, d_sPutL, d_sPutA, d_sPutAZ, d_sPutAB, d_sPutAL, d_sPutD, d_sOpF, d_sOpA, d_sCall, d_sCopy, d_sSeq, d_sIf, d_sBrk, d_sCnt, d_sRetV, d_sRet, d_sRetL, d_sLp, d_tDef, d_tCase, d_sSw, d_sSwB, bIt_d, itb_0, itb_1, itb_2, itb_r, its_0, sqk_0, sqk_1, sqk_2, sqk_r, swk_0, swk_1, swk_r, bfin_r, bfin_ite, Option.bind_some, Option.map_some, Option.bind_none, Option.map_none, bind_ite, map_ite, cop0, cop1, cop2, cop3, cop4, cop5, opv0, opv1, opv2, opv3, brc_i, brc_z, two_ne_one, false_or, getI, getR, getL, List.getElem?_cons_zero, List.getElem?_cons_succ, List.set_cons_zero, List.set_cons_succ, bnl, if_true, if_false, true_or, or_true, decide_eq_true_eq, Bool.not_eq_true', decide_eq_false_iff_not, Bool.not_true, Bool.not_false, Bool.true_eq_false, Bool.false_eq_true, ite_not, reduceIte, ite01_0, ite01_1, Decidable.not_not, ne_eq, not_true_eq_false, not_false_eq_true, Function.comp_apply, decide_not, Bool.not_not, Bool.not_eq_false', dc_t, dc_f, and_self, true_and, and_true, and_false, false_and, tnc, Int.reduceLT, Int.reduceLE, Int.reduceEq, Int.reduceAdd, Int.reduceSub, Int.reduceMul, Int.reduceToNat, Int.reduceNeg, Int.reduceNe]
theorem tf_s (n : Nat) (m : bM) (mi RI ri fl v kI y : Int) (h : i32 (kI + 1) = y) : L_Nights_toldForSure_1s.1.2 (sem n) [some (aR 101), some (aI mi), some (aI RI), some (aI ri), some (aI fl), some (aI v), some (aI kI)] m = some (.inl (0, [some (aR 101), some (aI mi), some (aI RI), some (aI ri), some (aI fl), some (aI v), some (aI y)], m)) := by
  simp only [L_Nights_toldForSure_1s, h, d_rLoc1, d_rLoc2, d_rFld1, d_rFld2, d_eInt, d_eLdc, d_eLdw, d_eLoc, d_eFld, d_lFld, d_eAI, d_eAZ, d_eAB, d_lAL, d_eAD, d_eLen, d_eAdd, d_eSub, d_eMul, d_eAnd, d_eOr, d_eXor, d_eShl, d_eShr, d_eUsh, d_lAdd, d_lSub, d_lMul, d_lAnd, d_lOr, d_lXor, d_lShl, d_lShr, d_eDiv, d_eRem, d_eCmp, d_eI2B, d_eI2S, d_eL2I, d_lI2L, d_lInt, d_lLdc, d_lLoc, d_eIte, d_lIte, d_eMax, d_eMin, d_eAbs, d_eAbove, d_eBodies, d_cQ, d_cZ, d_cNot, d_cAnd, d_cOr, d_gNil, d_gI, d_gL, d_gR, d_gD, d_xV, d_xS, d_xN, d_xT, d_eCall, d_lCall, d_eCallC, d_sNop, d_sSet, d_sSetL, d_sSetR, d_sSetQ, d_sInc, d_sPutI, d_sPutZ, d_sPutL, d_sPutA, d_sPutAZ, d_sPutAB, d_sPutAL, d_sPutD, d_sOpF, d_sOpA, d_sCall, d_sCopy, d_sSeq, d_sIf, d_sBrk, d_sCnt, d_sRetV, d_sRet, d_sRetL, d_sLp, d_tDef, d_tCase, d_sSw, d_sSwB, bIt_d, itb_0, itb_1, itb_2, itb_r, its_0, sqk_0, sqk_1, sqk_2, sqk_r, swk_0, swk_1, swk_r, bfin_r, bfin_ite, Option.bind_some, Option.map_some, Option.bind_none, Option.map_none, bind_ite, map_ite, cop0, cop1, cop2, cop3, cop4, cop5, opv0, opv1, opv2, opv3, brc_i, brc_z, two_ne_one, false_or, getI, getR, getL, List.getElem?_cons_zero, List.getElem?_cons_succ, List.set_cons_zero, List.set_cons_succ, bnl, if_true, if_false, true_or, or_true, decide_eq_true_eq, Bool.not_eq_true', decide_eq_false_iff_not, Bool.not_true, Bool.not_false, Bool.true_eq_false, Bool.false_eq_true, ite_not, reduceIte, ite01_0, ite01_1, Decidable.not_not, ne_eq, not_true_eq_false, not_false_eq_true, Function.comp_apply, decide_not, Bool.not_not, Bool.not_eq_false', dc_t, dc_f, and_self, true_and, and_true, and_false, false_and, tnc, Int.reduceLT, Int.reduceLE, Int.reduceEq, Int.reduceAdd, Int.reduceSub, Int.reduceMul, Int.reduceToNat, Int.reduceNeg, Int.reduceNe]
theorem tf_e (n : Nat) (m m2 : bM) (mi RI ri fl C v0 v l : Int) (e1 : sem (n + 5) 139 [aR 101, aI (-1)] m = some (m, C)) (hv : (C = 0 ∧ v0 = 0) ∨ (¬ C = 0 ∧ v0 = -1)) (e2 : L_Nights_toldForSure_1.1.2 (sem (n + 5)) [some (aR 101), some (aI mi), some (aI RI), some (aI ri), some (aI fl), some (aI v0), some (aI 0)] m = some (.inl (0, [some (aR 101), some (aI mi), some (aI RI), some (aI ri), some (aI fl), some (aI v), some (aI l)], m2))) : sem (n + 6) 149 [aR 101, aI mi, aI RI, aI ri, aI fl] m = some (m2, v) := by
  rw [st_Nights_toldForSure]
  unfold B_Nights_toldForSure
  revert e2
  generalize L_Nights_toldForSure_1 = LL
  intro e2
  rcases hv with ⟨z1, z2⟩ | ⟨z1, z2⟩
  · subst z1; subst z2
    simp only [kr_Nights_toldForSure, e1, e2, d_rLoc1, d_rLoc2, d_rFld1, d_rFld2, d_eInt, d_eLdc, d_eLdw, d_eLoc, d_eFld, d_lFld, d_eAI, d_eAZ, d_eAB, d_lAL, d_eAD, d_eLen, d_eAdd, d_eSub, d_eMul, d_eAnd, d_eOr, d_eXor, d_eShl, d_eShr, d_eUsh, d_lAdd, d_lSub, d_lMul, d_lAnd, d_lOr, d_lXor, d_lShl, d_lShr, d_eDiv, d_eRem, d_eCmp, d_eI2B, d_eI2S, d_eL2I, d_lI2L, d_lInt, d_lLdc, d_lLoc, d_eIte, d_lIte, d_eMax, d_eMin, d_eAbs, d_eAbove, d_eBodies, d_cQ, d_cZ, d_cNot, d_cAnd, d_cOr, d_gNil, d_gI, d_gL, d_gR, d_gD, d_xV, d_xS, d_xN, d_xT, d_eCall, d_lCall, d_eCallC, d_sNop, d_sSet, d_sSetL, d_sSetR, d_sSetQ, d_sInc, d_sPutI, d_sPutZ, d_sPutL, d_sPutA, d_sPutAZ, d_sPutAB, d_sPutAL, d_sPutD, d_sOpF, d_sOpA, d_sCall, d_sCopy, d_sSeq, d_sIf, d_sBrk, d_sCnt, d_sRetV, d_sRet, d_sRetL, d_sLp, d_tDef, d_tCase, d_sSw, d_sSwB, bIt_d, itb_0, itb_1, itb_2, itb_r, its_0, sqk_0, sqk_1, sqk_2, sqk_r, swk_0, swk_1, swk_r, bfin_r, bfin_ite, Option.bind_some, Option.map_some, Option.bind_none, Option.map_none, bind_ite, map_ite, cop0, cop1, cop2, cop3, cop4, cop5, opv0, opv1, opv2, opv3, brc_i, brc_z, two_ne_one, false_or, getI, getR, getL, List.getElem?_cons_zero, List.getElem?_cons_succ, List.set_cons_zero, List.set_cons_succ, bnl, if_true, if_false, true_or, or_true, decide_eq_true_eq, Bool.not_eq_true', decide_eq_false_iff_not, Bool.not_true, Bool.not_false, Bool.true_eq_false, Bool.false_eq_true, ite_not, reduceIte, ite01_0, ite01_1, Decidable.not_not, ne_eq, not_true_eq_false, not_false_eq_true, Function.comp_apply, decide_not, Bool.not_not, Bool.not_eq_false', dc_t, dc_f, and_self, true_and, and_true, and_false, false_and, tnc, Int.reduceLT, Int.reduceLE, Int.reduceEq, Int.reduceAdd, Int.reduceSub, Int.reduceMul, Int.reduceToNat, Int.reduceNeg, Int.reduceNe]
  · subst z2
    simp only [kr_Nights_toldForSure, e1, z1, e2, d_rLoc1, d_rLoc2, d_rFld1, d_rFld2, d_eInt, d_eLdc, d_eLdw, d_eLoc, d_eFld, d_lFld, d_eAI, d_eAZ, d_eAB, d_lAL, d_eAD, d_eLen, d_eAdd, d_eSub, d_eMul, d_eAnd, d_eOr, d_eXor, d_eShl, d_eShr, d_eUsh, d_lAdd, d_lSub, d_lMul, d_lAnd, d_lOr, d_lXor, d_lShl, d_lShr, d_eDiv, d_eRem, d_eCmp, d_eI2B, d_eI2S, d_eL2I, d_lI2L, d_lInt, d_lLdc, d_lLoc, d_eIte, d_lIte, d_eMax, d_eMin, d_eAbs, d_eAbove, d_eBodies, d_cQ, d_cZ, d_cNot, d_cAnd, d_cOr, d_gNil, d_gI, d_gL, d_gR, d_gD, d_xV, d_xS, d_xN, d_xT, d_eCall, d_lCall, d_eCallC, d_sNop, d_sSet, d_sSetL, d_sSetR, d_sSetQ, d_sInc, d_sPutI, d_sPutZ, d_sPutL, d_sPutA, d_sPutAZ, d_sPutAB, d_sPutAL, d_sPutD, d_sOpF, d_sOpA, d_sCall, d_sCopy, d_sSeq, d_sIf, d_sBrk, d_sCnt, d_sRetV, d_sRet, d_sRetL, d_sLp, d_tDef, d_tCase, d_sSw, d_sSwB, bIt_d, itb_0, itb_1, itb_2, itb_r, its_0, sqk_0, sqk_1, sqk_2, sqk_r, swk_0, swk_1, swk_r, bfin_r, bfin_ite, Option.bind_some, Option.map_some, Option.bind_none, Option.map_none, bind_ite, map_ite, cop0, cop1, cop2, cop3, cop4, cop5, opv0, opv1, opv2, opv3, brc_i, brc_z, two_ne_one, false_or, getI, getR, getL, List.getElem?_cons_zero, List.getElem?_cons_succ, List.set_cons_zero, List.set_cons_succ, bnl, if_true, if_false, true_or, or_true, decide_eq_true_eq, Bool.not_eq_true', decide_eq_false_iff_not, Bool.not_true, Bool.not_false, Bool.true_eq_false, Bool.false_eq_true, ite_not, reduceIte, ite01_0, ite01_1, Decidable.not_not, ne_eq, not_true_eq_false, not_false_eq_true, Function.comp_apply, decide_not, Bool.not_not, Bool.not_eq_false', dc_t, dc_f, and_self, true_and, and_true, and_false, false_and, tnc, Int.reduceLT, Int.reduceLE, Int.reduceEq, Int.reduceAdd, Int.reduceSub, Int.reduceMul, Int.reduceToNat, Int.reduceNeg, Int.reduceNe]
theorem k90 {k : Nat} (h : k < 90) : (k : Int) < 90 := by omega
theorem k31 {k : Nat} (h : k < 90) : k < 2147483647 := by omega
theorem sp_toldForSure (n : Nat) {i : Nat} {c m : bM} (hR : Rel c c) (hb : bse c m) (hN : NgtC i c m) (hw : m 101 14 = 1) (mi fl : Int) (R D : Nat) (hR11 : R ≤ 11) (hD : 100 ≤ D ∧ D ≤ 999) (hmi : 0 ≤ mi ∧ mi ≤ 179) (hfl : 0 ≤ fl ∧ fl ≤ 30) : ∃ m2, sem (n + 6) 149 [aR 101, aI mi, aI (R : Int), aI (D : Int), aI fl] m = some (m2, tFin c mi fl R D) ∧ NgtC i c m2 ∧ frN m m2 := by
  have H10 : nHs c ≤ 10 := by have := RelV_rhouses (Rel_v hR); unfold nHs; omega
  have e1 := sp_cpAll (n + 4) (isPo_w hN hw)
  have e2 : ∃ m2, L_Nights_toldForSure_1.1.2 (sem (n + 5)) [some (aR 101), some (aI mi), some (aI (R : Int)), some (aI (D : Int)), some (aI fl), some (aI (tI c mi fl R D 0)), some (aI ((0 : Nat) : Int))] m = some (.inl (0, [some (aR 101), some (aI mi), some (aI (R : Int)), some (aI (D : Int)), some (aI fl), some (aI (tI c mi fl R D 90)), some (aI ((90 : Nat) : Int))], m2)) ∧ NgtC i c m2 ∧ frN m m2 := by
    unfold L_Nights_toldForSure_1
    rw [d_sLp]
    refine lp_m (fun k => [some (aR 101), some (aI mi), some (aI (R : Int)), some (aI (D : Int)), some (aI fl), some (aI (tI c mi fl R D k)), some (aI (k : Int))]) (fun _ m' => NgtC i c m' ∧ frN m m') 90 (by decide) ⟨hN, frN_refl m⟩ (fun k m1 hk h1 => ?_) (fun m1 _ => bIt_ex (tf_x _ _ _ _ _ _ _ _ (by decide)))
    obtain ⟨h1, h2⟩ := h1
    have po := isPo_w h1 (by rw [h2.2]; exact hw) k hk
    have f3 := i32_s (k31 hk)
    by_cases z : poss c k = true
    · rw [if_pos z] at po
      obtain ⟨m2, e, h3, h4⟩ := sp_toldInTime n hR (frN_bse hb h2) h1 k hk mi fl R D hR11 hD hmi hfl
      have J := tI_s H10 (mi := mi) (fl := fl) (R := R) (D := D) hk z
      refine ⟨m2, bIt_go (m1 := m1) (m2 := m2) (tf_c _ _ _ _ _ _ _ _ (k90 hk)) ((tf_b1 n m1 m2 _ _ _ _ _ _ _ k (q_f2 hk) (tnc k) po e).trans ?_) (tf_s _ _ _ _ _ _ _ _ _ f3), h3, frN_trans h2 h4⟩
      show some (Sum.inl (0, [some (aR 101), some (aI mi), some (aI (R : Int)), some (aI (D : Int)), some (aI fl), some (aI (jand (tI c mi fl R D k) (bst (tdQ c mi fl R D k) (nHs c) : Int))), some (aI (k : Int))], m2)) = _
      rw [J]
    · rw [if_neg z] at po
      rw [tI_n z]
      exact ⟨m1, bIt_go (m1 := m1) (m2 := m1) (tf_c _ _ _ _ _ _ _ _ (k90 hk)) (tf_b0 _ m1 _ _ _ _ _ _ k (q_f2 hk) (tnc k) po) (tf_s _ _ _ _ _ _ _ _ _ f3), h1, h2⟩
  obtain ⟨m2, e2, h⟩ := e2
  rw [tI_e] at e2
  refine ⟨m2, tf_e n m m2 _ _ _ _ _ _ _ _ e1 ?_ e2, h⟩
  have cp := cnt_pos (p := poss c) (n := 90)
  unfold tI
  by_cases z : anyB (poss c) 90 = true
  · right
    rw [if_pos z]
    have : 0 < cnt (poss c) 90 := cp.2 (anyB_iff.1 z)
    exact ⟨by omega, by rfl⟩
  · left
    rw [if_neg z]
    have : ¬ 0 < cnt (poss c) 90 := fun w => z (anyB_iff.2 (cp.1 w))
    exact ⟨by omega, rfl⟩
