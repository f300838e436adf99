/-! ===== the class's night, minute by minute: what comes, what flows ===== -/
/-- the class's base cells are c's -/
def bse (c m : bM) : Prop := ∀ i, i ≤ 92 → m i = c i
def fr93 (m m2 : bM) : Prop := ∀ i, i < 93 ∨ 101 ≤ i → m2 i = m i
theorem fr93_r (m : bM) : fr93 m m := fun _ _ => rfl
theorem fr93_t {m m1 m2 : bM} (h1 : fr93 m m1) (h2 : fr93 m1 m2) : fr93 m m2 := fun i h => (h2 i h).trans (h1 i h)
theorem bse_t {c m m2 : bM} (h : bse c m) (hf : fr93 m m2) : bse c m2 := fun i hi => (hf i (by omega)).trans (h i hi)
theorem sp_depthNow (n x : Nat) (hx : x < 12) {c r m : bM} (hV : RelV c r) (hb : bse c m) (hw : 0 ≤ m 94 x ∧ m 94 x ≤ 9999) : sem (n + 1) 127 [aR 93, aI (x : Int)] m = some (m, m 94 x / c 2 x) := by
  have h1 := RelV_rwidth hV x hx
  have e0 : 0 ≤ (x : Int) ∧ (x : Int) < ((12 : Nat) : Int) := by omega
  have e1 : ¬ c 2 x < 1 := by omega
  have e2 : ¬ c 2 x = 0 := by omega
  have e3 : jdiv (m 94 x) (c 2 x) = m 94 x / c 2 x := jdiv_of ⟨hw.1, by omega⟩ (by omega)
  have b2 := hb 2 (by decide)
  rw [st_Night_depthNow]
  simp only [B_Night_depthNow, kr_Night_depthNow, e0, b2, e1, e2, e3, d_rLoc1, d_rLoc2, d_rFld1, d_rFld2, d_eInt, d_eLdc, d_eLdw, d_eLoc, d_eFld, d_lFld, d_eAI, d_eAZ, d_eAB, d_lAL, d_eAD, d_eLen, d_eAdd, d_eSub, d_eMul, d_eAnd, d_eOr, d_eXor, d_eShl, d_eShr, d_eUsh, d_lAdd, d_lSub, d_lMul, d_lAnd, d_lOr, d_lXor, d_lShl, d_lShr, d_eDiv, d_eRem, d_eCmp, d_eI2B, d_eI2S, d_eL2I, d_lI2L, d_lInt, d_lLdc, d_lLoc, d_eIte, d_lIte, d_eMax, d_eMin, d_eAbs, d_eAbove, d_eBodies, d_cQ, d_cZ, d_cNot, d_cAnd, d_cOr, d_gNil, d_gI, d_gL, d_gR, d_gD, d_xV, d_xS, d_xN, d_xT, d_eCall, d_lCall, d_eCallC, d_sNop, d_sSet, d_sSetL, d_sSetR, d_sSetQ, d_sInc, d_sPutI, d_sPutZ, d_sPutL, d_sPutA, d_sPutAZ, d_sPutAB, d_sPutAL, d_sPutD, d_sOpF, d_sOpA, d_sCall, d_sCopy, d_sSeq, d_sIf, d_sBrk, d_sCnt, d_sRetV, d_sRet, d_sRetL, d_sLp, d_tDef, d_tCase, d_sSw, d_sSwB, bIt_d, itb_0, itb_1, itb_2, itb_r, its_0, sqk_0, sqk_1, sqk_2, sqk_r, swk_0, swk_1, swk_r, bfin_r, bfin_ite, Option.bind_some, Option.map_some, Option.bind_none, Option.map_none, bind_ite, map_ite, cop0, cop1, cop2, cop3, cop4, cop5, opv0, opv1, opv2, opv3, brc_i, brc_z, two_ne_one, false_or, getI, getR, getL, List.getElem?_cons_zero, List.getElem?_cons_succ, List.set_cons_zero, List.set_cons_succ, bnl, if_true, if_false, true_or, or_true, decide_eq_true_eq, Bool.not_eq_true', decide_eq_false_iff_not, Bool.not_true, Bool.not_false, Bool.true_eq_false, Bool.false_eq_true, ite_not, reduceIte, ite01_0, ite01_1, Decidable.not_not, ne_eq, not_true_eq_false, not_false_eq_true, Function.comp_apply, decide_not, Bool.not_not, Bool.not_eq_false', dc_t, dc_f, and_self, true_and, and_true, and_false, false_and, tnc]
theorem sp_tableNumber (n w : Nat) (hw : w < 3) {c r m : bM} (hV : RelV c r) (hb : bse c m) (hm : m 93 14 = (w : Int)) {i : Int} (hi : 0 ≤ i ∧ i ≤ 1000) : sem (n + 1) 303 [aR 93, aI i] m = some (m, tNo c w i) := by
  have h1 := RelV_rtabl hV w hw
  have e0 : 0 ≤ (w : Int) ∧ (w : Int) < ((3 : Nat) : Int) := by omega
  have e1 : i32 (c 5 w - 1) = c 5 w - 1 := i32_of (by omega) (by omega)
  have e2 : i32 ((w : Int) * 8) = ((8 * w : Nat) : Int) := by rw [i32_of (by omega) (by omega)]; omega
  have b4 := hb 4 (by decide)
  have b5 := hb 5 (by decide)
  rw [st_Night_tableNumber]
  by_cases q : i < c 5 w - 1
  · have e3 : i32 (((8 * w : Nat) : Int) + i) = ((8 * w + i.toNat : Nat) : Int) := by rw [i32_of (by omega) (by omega)]; omega
    have e4 : 0 ≤ ((8 * w + i.toNat : Nat) : Int) ∧ ((8 * w + i.toNat : Nat) : Int) < ((24 : Nat) : Int) := by omega
    simp only [B_Night_tableNumber, kr_Night_tableNumber, hm, e0, b5, e1, b4, e2, q, e3, e4, d_rLoc1, d_rLoc2, d_rFld1, d_rFld2, d_eInt, d_eLdc, d_eLdw, d_eLoc, d_eFld, d_lFld, d_eAI, d_eAZ, d_eAB, d_lAL, d_eAD, d_eLen, d_eAdd, d_eSub, d_eMul, d_eAnd, d_eOr, d_eXor, d_eShl, d_eShr, d_eUsh, d_lAdd, d_lSub, d_lMul, d_lAnd, d_lOr, d_lXor, d_lShl, d_lShr, d_eDiv, d_eRem, d_eCmp, d_eI2B, d_eI2S, d_eL2I, d_lI2L, d_lInt, d_lLdc, d_lLoc, d_eIte, d_lIte, d_eMax, d_eMin, d_eAbs, d_eAbove, d_eBodies, d_cQ, d_cZ, d_cNot, d_cAnd, d_cOr, d_gNil, d_gI, d_gL, d_gR, d_gD, d_xV, d_xS, d_xN, d_xT, d_eCall, d_lCall, d_eCallC, d_sNop, d_sSet, d_sSetL, d_sSetR, d_sSetQ, d_sInc, d_sPutI, d_sPutZ, d_sPutL, d_sPutA, d_sPutAZ, d_sPutAB, d_sPutAL, d_sPutD, d_sOpF, d_sOpA, d_sCall, d_sCopy, d_sSeq, d_sIf, d_sBrk, d_sCnt, d_sRetV, d_sRet, d_sRetL, d_sLp, d_tDef, d_tCase, d_sSw, d_sSwB, bIt_d, itb_0, itb_1, itb_2, itb_r, its_0, sqk_0, sqk_1, sqk_2, sqk_r, swk_0, swk_1, swk_r, bfin_r, bfin_ite, Option.bind_some, Option.map_some, Option.bind_none, Option.map_none, bind_ite, map_ite, cop0, cop1, cop2, cop3, cop4, cop5, opv0, opv1, opv2, opv3, brc_i, brc_z, two_ne_one, false_or, getI, getR, getL, List.getElem?_cons_zero, List.getElem?_cons_succ, List.set_cons_zero, List.set_cons_succ, bnl, if_true, if_false, true_or, or_true, decide_eq_true_eq, Bool.not_eq_true', decide_eq_false_iff_not, Bool.not_true, Bool.not_false, Bool.true_eq_false, Bool.false_eq_true, ite_not, reduceIte, ite01_0, ite01_1, Decidable.not_not, ne_eq, not_true_eq_false, not_false_eq_true, Function.comp_apply, decide_not, Bool.not_not, Bool.not_eq_false', dc_t, dc_f, and_self, true_and, and_true, and_false, false_and, tnc]
    unfold tNo
    rw [show min i (c 5 w - 1) = i by omega]
  · have e3 : i32 (((8 * w : Nat) : Int) + (c 5 w - 1)) = ((8 * w + (c 5 w - 1).toNat : Nat) : Int) := by rw [i32_of (by omega) (by omega)]; omega
    have e4 : 0 ≤ ((8 * w + (c 5 w - 1).toNat : Nat) : Int) ∧ ((8 * w + (c 5 w - 1).toNat : Nat) : Int) < ((24 : Nat) : Int) := by omega
    simp only [B_Night_tableNumber, kr_Night_tableNumber, hm, e0, b5, e1, b4, e2, q, e3, e4, d_rLoc1, d_rLoc2, d_rFld1, d_rFld2, d_eInt, d_eLdc, d_eLdw, d_eLoc, d_eFld, d_lFld, d_eAI, d_eAZ, d_eAB, d_lAL, d_eAD, d_eLen, d_eAdd, d_eSub, d_eMul, d_eAnd, d_eOr, d_eXor, d_eShl, d_eShr, d_eUsh, d_lAdd, d_lSub, d_lMul, d_lAnd, d_lOr, d_lXor, d_lShl, d_lShr, d_eDiv, d_eRem, d_eCmp, d_eI2B, d_eI2S, d_eL2I, d_lI2L, d_lInt, d_lLdc, d_lLoc, d_eIte, d_lIte, d_eMax, d_eMin, d_eAbs, d_eAbove, d_eBodies, d_cQ, d_cZ, d_cNot, d_cAnd, d_cOr, d_gNil, d_gI, d_gL, d_gR, d_gD, d_xV, d_xS, d_xN, d_xT, d_eCall, d_lCall, d_eCallC, d_sNop, d_sSet, d_sSetL, d_sSetR, d_sSetQ, d_sInc, d_sPutI, d_sPutZ, d_sPutL, d_sPutA, d_sPutAZ, d_sPutAB, d_sPutAL, d_sPutD, d_sOpF, d_sOpA, d_sCall, d_sCopy, d_sSeq, d_sIf, d_sBrk, d_sCnt, d_sRetV, d_sRet, d_sRetL, d_sLp, d_tDef, d_tCase, d_sSw, d_sSwB, bIt_d, itb_0, itb_1, itb_2, itb_r, its_0, sqk_0, sqk_1, sqk_2, sqk_r, swk_0, swk_1, swk_r, bfin_r, bfin_ite, Option.bind_some, Option.map_some, Option.bind_none, Option.map_none, bind_ite, map_ite, cop0, cop1, cop2, cop3, cop4, cop5, opv0, opv1, opv2, opv3, brc_i, brc_z, two_ne_one, false_or, getI, getR, getL, List.getElem?_cons_zero, List.getElem?_cons_succ, List.set_cons_zero, List.set_cons_succ, bnl, if_true, if_false, true_or, or_true, decide_eq_true_eq, Bool.not_eq_true', decide_eq_false_iff_not, Bool.not_true, Bool.not_false, Bool.true_eq_false, Bool.false_eq_true, ite_not, reduceIte, ite01_0, ite01_1, Decidable.not_not, ne_eq, not_true_eq_false, not_false_eq_true, Function.comp_apply, decide_not, Bool.not_not, Bool.not_eq_false', dc_t, dc_f, and_self, true_and, and_true, and_false, false_and, tnc]
    unfold tNo
    rw [show min i (c 5 w - 1) = c 5 w - 1 by omega]
theorem jmin_min (a b : Int) : jmin a b = min a b := by unfold jmin; split <;> omega
theorem sp_comesOut (n w : Nat) (hw : w < 3) {c r m : bM} (hV : RelV c r) (hb : bse c m) {s g f p : Int} (hm : m 93 14 = (w : Int)) (hs : m 93 15 = s) (hg : m 93 16 = g) (hf : m 93 17 = f) (hp : m 93 12 = p) (hp2 : 0 ≤ p ∧ p ≤ 9999) (hs2 : 0 ≤ s ∧ s ≤ 29) (hg2 : 0 ≤ g ∧ g ≤ 99) (k : Nat) (hk : k < 180) : sem (n + 2) 250 [aR 93, aI (k : Int)] m = some (bwr m 93 12 (p - nOut c w s g f k p), nOut c w s g f k p) := by
  have h1 := nO1_in (f := f) (k := k) hg2.1 hp2.1
  have h2 := nO2_in hV hw (s := s) (k := k) (p := p - nO1 g f k p) (by omega)
  obtain ⟨a, ha⟩ : ∃ a, a = nO1 g f k p := ⟨_, rfl⟩
  obtain ⟨b, hb2⟩ : ∃ b, b = nO2 c w s k (p - a) := ⟨_, rfl⟩
  have ho : nOut c w s g f k p = a + b := by unfold nOut; rw [← ha, ← hb2]
  rw [← ha] at h1 h2
  rw [← hb2] at h2
  have x1 : i32 (p - a) = p - a := i32_of (by omega) (by omega)
  have x2 : i32 (p - a - b) = p - a - b := i32_of (by omega) (by omega)
  have x3 : i32 (a + b) = a + b := i32_of (by omega) (by omega)
  have ea : a = if f ≤ (k : Int) then min g p else 0 := ha
  rw [ho, show p - (a + b) = p - a - b by omega]
  rw [st_Night_comesOut]
  by_cases q2 : s ≤ (k : Int)
  · have y1 : i32 ((k : Int) - s) = (k : Int) - s := i32_of (by omega) (by omega)
    have eb : b = min (p - a) (tNo c w ((k : Int) - s)) := by rw [hb2]; unfold nO2; rw [if_pos q2]
    have eb2 : min (tNo c w ((k : Int) - s)) (p - a) = b := by omega
    have hb' : bse c (bwr m 93 12 (p - a)) := fun i hi => by rw [bwr_ne _ _ (by omega)]; exact hb i hi
    have tn := fun n => sp_tableNumber n w hw hV hb' (by rw [bwr_ne2 _ (by decide)]; exact hm) (i := (k : Int) - s) ⟨by omega, by omega⟩
    have z1 : (bwr m 93 12 (p - a)) 93 15 = s := by rw [bwr_ne2 _ (by decide)]; exact hs
    by_cases q1 : f ≤ (k : Int)
    · rw [if_pos q1] at ea
      simp only [B_Night_comesOut, kr_Night_comesOut, hs, hg, hf, hp, q1, jmin_min, ← ea, x1, z1, q2, y1, tn, bwr_eq2, eb2, x2, x3, bwr_bwr, d_rLoc1, d_rLoc2, d_rFld1, d_rFld2, d_eInt, d_eLdc, d_eLdw, d_eLoc, d_eFld, d_lFld, d_eAI, d_eAZ, d_eAB, d_lAL, d_eAD, d_eLen, d_eAdd, d_eSub, d_eMul, d_eAnd, d_eOr, d_eXor, d_eShl, d_eShr, d_eUsh, d_lAdd, d_lSub, d_lMul, d_lAnd, d_lOr, d_lXor, d_lShl, d_lShr, d_eDiv, d_eRem, d_eCmp, d_eI2B, d_eI2S, d_eL2I, d_lI2L, d_lInt, d_lLdc, d_lLoc, d_eIte, d_lIte, d_eMax, d_eMin, d_eAbs, d_eAbove, d_eBodies, d_cQ, d_cZ, d_cNot, d_cAnd, d_cOr, d_gNil, d_gI, d_gL, d_gR, d_gD, d_xV, d_xS, d_xN, d_xT, d_eCall, d_lCall, d_eCallC, d_sNop, d_sSet, d_sSetL, d_sSetR, d_sSetQ, d_sInc, d_sPutI, d_sPutZ, d_sPutL, d_sPutA, d_sPutAZ, d_sPutAB, d_sPutAL, d_sPutD, d_sOpF, d_sOpA, d_sCall, d_sCopy, d_sSeq, d_sIf, d_sBrk, d_sCnt, d_sRetV, d_sRet, d_sRetL, d_sLp, d_tDef, d_tCase, d_sSw, d_sSwB, bIt_d, itb_0, itb_1, itb_2, itb_r, its_0, sqk_0, sqk_1, sqk_2, sqk_r, swk_0, swk_1, swk_r, bfin_r, bfin_ite, Option.bind_some, Option.map_some, Option.bind_none, Option.map_none, bind_ite, map_ite, cop0, cop1, cop2, cop3, cop4, cop5, opv0, opv1, opv2, opv3, brc_i, brc_z, two_ne_one, false_or, getI, getR, getL, List.getElem?_cons_zero, List.getElem?_cons_succ, List.set_cons_zero, List.set_cons_succ, bnl, if_true, if_false, true_or, or_true, decide_eq_true_eq, Bool.not_eq_true', decide_eq_false_iff_not, Bool.not_true, Bool.not_false, Bool.true_eq_false, Bool.false_eq_true, ite_not, reduceIte, ite01_0, ite01_1, Decidable.not_not, ne_eq, not_true_eq_false, not_false_eq_true, Function.comp_apply, decide_not, Bool.not_not, Bool.not_eq_false', dc_t, dc_f, and_self, true_and, and_true, and_false, false_and, tnc]
    · rw [if_neg q1] at ea
      subst ea
      simp only [B_Night_comesOut, kr_Night_comesOut, hs, hg, hf, hp, q1, jmin_min, x1, z1, q2, y1, tn, bwr_eq2, eb2, x2, x3, bwr_bwr, d_rLoc1, d_rLoc2, d_rFld1, d_rFld2, d_eInt, d_eLdc, d_eLdw, d_eLoc, d_eFld, d_lFld, d_eAI, d_eAZ, d_eAB, d_lAL, d_eAD, d_eLen, d_eAdd, d_eSub, d_eMul, d_eAnd, d_eOr, d_eXor, d_eShl, d_eShr, d_eUsh, d_lAdd, d_lSub, d_lMul, d_lAnd, d_lOr, d_lXor, d_lShl, d_lShr, d_eDiv, d_eRem, d_eCmp, d_eI2B, d_eI2S, d_eL2I, d_lI2L, d_lInt, d_lLdc, d_lLoc, d_eIte, d_lIte, d_eMax, d_eMin, d_eAbs, d_eAbove, d_eBodies, d_cQ, d_cZ, d_cNot, d_cAnd, d_cOr, d_gNil, d_gI, d_gL, d_gR, d_gD, d_xV, d_xS, d_xN, d_xT, d_eCall, d_lCall, d_eCallC, d_sNop, d_sSet, d_sSetL, d_sSetR, d_sSetQ, d_sInc, d_sPutI, d_sPutZ, d_sPutL, d_sPutA, d_sPutAZ, d_sPutAB, d_sPutAL, d_sPutD, d_sOpF, d_sOpA, d_sCall, d_sCopy, d_sSeq, d_sIf, d_sBrk, d_sCnt, d_sRetV, d_sRet, d_sRetL, d_sLp, d_tDef, d_tCase, d_sSw, d_sSwB, bIt_d, itb_0, itb_1, itb_2, itb_r, its_0, sqk_0, sqk_1, sqk_2, sqk_r, swk_0, swk_1, swk_r, bfin_r, bfin_ite, Option.bind_some, Option.map_some, Option.bind_none, Option.map_none, bind_ite, map_ite, cop0, cop1, cop2, cop3, cop4, cop5, opv0, opv1, opv2, opv3, brc_i, brc_z, two_ne_one, false_or, getI, getR, getL, List.getElem?_cons_zero, List.getElem?_cons_succ, List.set_cons_zero, List.set_cons_succ, bnl, if_true, if_false, true_or, or_true, decide_eq_true_eq, Bool.not_eq_true', decide_eq_false_iff_not, Bool.not_true, Bool.not_false, Bool.true_eq_false, Bool.false_eq_true, ite_not, reduceIte, ite01_0, ite01_1, Decidable.not_not, ne_eq, not_true_eq_false, not_false_eq_true, Function.comp_apply, decide_not, Bool.not_not, Bool.not_eq_false', dc_t, dc_f, and_self, true_and, and_true, and_false, false_and, tnc]
  · have eb : b = 0 := by rw [hb2]; unfold nO2; rw [if_neg q2]
    subst eb
    have z1 : (bwr m 93 12 (p - a)) 93 15 = s := by rw [bwr_ne2 _ (by decide)]; exact hs
    by_cases q1 : f ≤ (k : Int)
    · rw [if_pos q1] at ea
      simp only [B_Night_comesOut, kr_Night_comesOut, hs, hg, hf, hp, q1, jmin_min, ← ea, x1, z1, q2, bwr_eq2, x2, x3, bwr_bwr, d_rLoc1, d_rLoc2, d_rFld1, d_rFld2, d_eInt, d_eLdc, d_eLdw, d_eLoc, d_eFld, d_lFld, d_eAI, d_eAZ, d_eAB, d_lAL, d_eAD, d_eLen, d_eAdd, d_eSub, d_eMul, d_eAnd, d_eOr, d_eXor, d_eShl, d_eShr, d_eUsh, d_lAdd, d_lSub, d_lMul, d_lAnd, d_lOr, d_lXor, d_lShl, d_lShr, d_eDiv, d_eRem, d_eCmp, d_eI2B, d_eI2S, d_eL2I, d_lI2L, d_lInt, d_lLdc, d_lLoc, d_eIte, d_lIte, d_eMax, d_eMin, d_eAbs, d_eAbove, d_eBodies, d_cQ, d_cZ, d_cNot, d_cAnd, d_cOr, d_gNil, d_gI, d_gL, d_gR, d_gD, d_xV, d_xS, d_xN, d_xT, d_eCall, d_lCall, d_eCallC, d_sNop, d_sSet, d_sSetL, d_sSetR, d_sSetQ, d_sInc, d_sPutI, d_sPutZ, d_sPutL, d_sPutA, d_sPutAZ, d_sPutAB, d_sPutAL, d_sPutD, d_sOpF, d_sOpA, d_sCall, d_sCopy, d_sSeq, d_sIf, d_sBrk, d_sCnt, d_sRetV, d_sRet, d_sRetL, d_sLp, d_tDef, d_tCase, d_sSw, d_sSwB, bIt_d, itb_0, itb_1, itb_2, itb_r, its_0, sqk_0, sqk_1, sqk_2, sqk_r, swk_0, swk_1, swk_r, bfin_r, bfin_ite, Option.bind_some, Option.map_some, Option.bind_none, Option.map_none, bind_ite, map_ite, cop0, cop1, cop2, cop3, cop4, cop5, opv0, opv1, opv2, opv3, brc_i, brc_z, two_ne_one, false_or, getI, getR, getL, List.getElem?_cons_zero, List.getElem?_cons_succ, List.set_cons_zero, List.set_cons_succ, bnl, if_true, if_false, true_or, or_true, decide_eq_true_eq, Bool.not_eq_true', decide_eq_false_iff_not, Bool.not_true, Bool.not_false, Bool.true_eq_false, Bool.false_eq_true, ite_not, reduceIte, ite01_0, ite01_1, Decidable.not_not, ne_eq, not_true_eq_false, not_false_eq_true, Function.comp_apply, decide_not, Bool.not_not, Bool.not_eq_false', dc_t, dc_f, and_self, true_and, and_true, and_false, false_and, tnc]
    · rw [if_neg q1] at ea
      subst ea
      simp only [B_Night_comesOut, kr_Night_comesOut, hs, hg, hf, hp, q1, jmin_min, x1, z1, q2, bwr_eq2, x2, x3, bwr_bwr, d_rLoc1, d_rLoc2, d_rFld1, d_rFld2, d_eInt, d_eLdc, d_eLdw, d_eLoc, d_eFld, d_lFld, d_eAI, d_eAZ, d_eAB, d_lAL, d_eAD, d_eLen, d_eAdd, d_eSub, d_eMul, d_eAnd, d_eOr, d_eXor, d_eShl, d_eShr, d_eUsh, d_lAdd, d_lSub, d_lMul, d_lAnd, d_lOr, d_lXor, d_lShl, d_lShr, d_eDiv, d_eRem, d_eCmp, d_eI2B, d_eI2S, d_eL2I, d_lI2L, d_lInt, d_lLdc, d_lLoc, d_eIte, d_lIte, d_eMax, d_eMin, d_eAbs, d_eAbove, d_eBodies, d_cQ, d_cZ, d_cNot, d_cAnd, d_cOr, d_gNil, d_gI, d_gL, d_gR, d_gD, d_xV, d_xS, d_xN, d_xT, d_eCall, d_lCall, d_eCallC, d_sNop, d_sSet, d_sSetL, d_sSetR, d_sSetQ, d_sInc, d_sPutI, d_sPutZ, d_sPutL, d_sPutA, d_sPutAZ, d_sPutAB, d_sPutAL, d_sPutD, d_sOpF, d_sOpA, d_sCall, d_sCopy, d_sSeq, d_sIf, d_sBrk, d_sCnt, d_sRetV, d_sRet, d_sRetL, d_sLp, d_tDef, d_tCase, d_sSw, d_sSwB, bIt_d, itb_0, itb_1, itb_2, itb_r, its_0, sqk_0, sqk_1, sqk_2, sqk_r, swk_0, swk_1, swk_r, bfin_r, bfin_ite, Option.bind_some, Option.map_some, Option.bind_none, Option.map_none, bind_ite, map_ite, cop0, cop1, cop2, cop3, cop4, cop5, opv0, opv1, opv2, opv3, brc_i, brc_z, two_ne_one, false_or, getI, getR, getL, List.getElem?_cons_zero, List.getElem?_cons_succ, List.set_cons_zero, List.set_cons_succ, bnl, if_true, if_false, true_or, or_true, decide_eq_true_eq, Bool.not_eq_true', decide_eq_false_iff_not, Bool.not_true, Bool.not_false, Bool.true_eq_false, Bool.false_eq_true, ite_not, reduceIte, ite01_0, ite01_1, Decidable.not_not, ne_eq, not_true_eq_false, not_false_eq_true, Function.comp_apply, decide_not, Bool.not_not, Bool.not_eq_false', dc_t, dc_f, and_self, true_and, and_true, and_false, false_and, tnc]
/-- what goes on from a reach -/
def gos (t : nT) (r : Nat) : Int := t.2.1 r / t.2.2.1 r
def car (t : nT) (out : Int) (r : Nat) : Int := if r = 0 then out else gos t (r - 1)
theorem gos_in {t : nT} (h : NOK t) {r : Nat} (hr : r < 12) : 0 ≤ gos t r ∧ gos t r ≤ t.2.1 r := div_in (NOK_w h r hr) (by have := NOK_l h r hr; omega)
theorem car_in {t : nT} (h : NOK t) {out : Int} (ho : 0 ≤ out ∧ out ≤ 9999) {r : Nat} (hr : r ≤ 12) : 0 ≤ car t out r ∧ car t out r ≤ 9999 := by
  unfold car
  split
  · exact ho
  · have h1 := gos_in h (r := r - 1) (by omega)
    have h2 := NOK_wt h (r := r - 1) (by omega)
    omega
theorem nWt_car (t : nT) (out : Int) (r : Nat) : nWt t.2.1 t.2.2.1 out r = t.2.1 r + car t out r - gos t r := rfl
theorem sp_flow (n : Nat) {m : bM} {t : nT} (hok : NOK t) {out : Int} (ho : 0 ≤ out ∧ out ≤ t.1) (hwt : ∀ r, r < 12 → m 94 r = t.2.1 r) (hsl : ∀ r, r < 12 → m 95 r = t.2.2.1 r) (F : Nat) (hF : m 93 13 = (F : Int)) (hF12 : F ≤ 12) (hdry : ∀ r, F ≤ r → r < 12 → t.2.1 r = 0) : ∃ m2, sem (n + 1) 251 [aR 93, aI out] m = some (m2, smN (gos t) F) ∧ (∀ r, r < 12 → m2 94 r = nWt t.2.1 t.2.2.1 out r) ∧ (∃ F2 : Nat, m2 93 13 = (F2 : Int) ∧ F2 ≤ 12 ∧ ∀ r, F2 ≤ r → r < 12 → nWt t.2.1 t.2.2.1 out r = 0) ∧ (∀ k, k ≠ 13 → m2 93 k = m 93 k) ∧ (∀ i, i ≠ 93 → i ≠ 94 → m2 i = m i) := by
  have hp := NOK_p hok
  have hs9 := NOK_s hok
  have hsn := smN_nn 12 (NOK_w hok)
  have ho9 : 0 ≤ out ∧ out ≤ 9999 := by omega
  have hmv : ∀ r, r ≤ 12 → 0 ≤ smN (gos t) r ∧ smN (gos t) r ≤ 9999 * (r : Int) := by
    intro r
    induction r with
    | zero => intro _; show 0 ≤ (0 : Int) ∧ (0 : Int) ≤ 9999 * ((0 : Nat) : Int); omega
    | succ r ih =>
      intro hr
      have h1 := ih (by omega)
      have h2 := gos_in hok (r := r) (by omega)
      have h3 := NOK_wt hok (r := r) (by omega)
      show 0 ≤ smN (gos t) r + gos t r ∧ smN (gos t) r + gos t r ≤ 9999 * ((r + 1 : Nat) : Int)
      omega
  have hl := lp_m (c := L_Night_flow_1c.1.2 (sem n)) (b := L_Night_flow_1b.1.2 (sem n)) (s := L_Night_flow_1s.1.2 (sem n)) (m := m)
    (fun k => [some (aR 93), some (aI out), some (aI (smN (gos t) k)), some (aI (car t out k)), some (aI (k : Int)), xo k (gos t (k - 1))])
    (fun k m' => (∀ r, r < 12 → m' 94 r = if r < k then nWt t.2.1 t.2.2.1 out r else t.2.1 r) ∧ (∀ i, i ≠ 94 → m' i = m i)) F (by omega)
    ⟨fun r hr => by rw [if_neg (by omega)]; exact hwt r hr, fun _ _ => rfl⟩
    (fun k m' hk hI => by
      obtain ⟨i1, i2⟩ := hI
      have g1 := gos_in hok (r := k) (by omega)
      have g2 := NOK_wt hok (r := k) (by omega)
      have g3 := car_in hok ho9 (r := k) (by omega)
      have g4 := hmv k (by omega)
      have g5 := NOK_l hok k (by omega)
      have f1 : (k : Int) < (F : Int) := by omega
      have f2 : 0 ≤ (k : Int) ∧ (k : Int) < ((12 : Nat) : Int) := by omega
      have w1 : m' 94 k = t.2.1 k := by rw [i1 k (by omega), if_neg (by omega)]
      have w2 : m' 95 k = t.2.2.1 k := by rw [i2 _ (by decide)]; exact hsl k (by omega)
      have w3 : m' 93 13 = (F : Int) := by rw [i2 _ (by decide)]; exact hF
      have d1 : ¬ t.2.2.1 k < 1 := by omega
      have d2 : ¬ t.2.2.1 k = 0 := by omega
      have d3 : jdiv (t.2.1 k) (t.2.2.1 k) = gos t k := jdiv_of ⟨g2.1, by omega⟩ (by omega)
      have x1 : i32 (car t out k - gos t k) = car t out k - gos t k := i32_of (by omega) (by omega)
      have x2 : i32 (t.2.1 k + (car t out k - gos t k)) = t.2.1 k + (car t out k - gos t k) := i32_of (by omega) (by omega)
      have x3 : i32 (smN (gos t) k + gos t k) = smN (gos t) (k + 1) := by show _ = smN (gos t) k + gos t k; exact i32_of (by omega) (by omega)
      have x4 := i32_s (k := k) (by omega)
      have x5 : car t out (k + 1) = gos t k := rfl
      refine ⟨bwr m' 94 k (t.2.1 k + (car t out k - gos t k)), ?_, fun r hr => ?_, fun i hi => ?_⟩
      · rw [xo_s, x5, Nat.add_sub_cancel]
        simp only [L_Night_flow_1c, L_Night_flow_1b, L_Night_flow_1s, w3, f1, f2, w1, w2, d1, d2, d3, x1, x2, x3, x4, d_rLoc1, d_rLoc2, d_rFld1, d_rFld2, d_eInt, d_eLdc, d_eLdw, d_eLoc, d_eFld, d_lFld, d_eAI, d_eAZ, d_eAB, d_lAL, d_eAD, d_eLen, d_eAdd, d_eSub, d_eMul, d_eAnd, d_eOr, d_eXor, d_eShl, d_eShr, d_eUsh, d_lAdd, d_lSub, d_lMul, d_lAnd, d_lOr, d_lXor, d_lShl, d_lShr, d_eDiv, d_eRem, d_eCmp, d_eI2B, d_eI2S, d_eL2I, d_lI2L, d_lInt, d_lLdc, d_lLoc, d_eIte, d_lIte, d_eMax, d_eMin, d_eAbs, d_eAbove, d_eBodies, d_cQ, d_cZ, d_cNot, d_cAnd, d_cOr, d_gNil, d_gI, d_gL, d_gR, d_gD, d_xV, d_xS, d_xN, d_xT, d_eCall, d_lCall, d_eCallC, d_sNop, d_sSet, d_sSetL, d_sSetR, d_sSetQ, d_sInc, d_sPutI, d_sPutZ, d_sPutL, d_sPutA, d_sPutAZ, d_sPutAB, d_sPutAL, d_sPutD, d_sOpF, d_sOpA, d_sCall, d_sCopy, d_sSeq, d_sIf, d_sBrk, d_sCnt, d_sRetV, d_sRet, d_sRetL, d_sLp, d_tDef, d_tCase, d_sSw, d_sSwB, bIt_d, itb_0, itb_1, itb_2, itb_r, its_0, sqk_0, sqk_1, sqk_2, sqk_r, swk_0, swk_1, swk_r, bfin_r, bfin_ite, Option.bind_some, Option.map_some, Option.bind_none, Option.map_none, bind_ite, map_ite, cop0, cop1, cop2, cop3, cop4, cop5, opv0, opv1, opv2, opv3, brc_i, brc_z, two_ne_one, false_or, getI, getR, getL, List.getElem?_cons_zero, List.getElem?_cons_succ, List.set_cons_zero, List.set_cons_succ, bnl, if_true, if_false, true_or, or_true, decide_eq_true_eq, Bool.not_eq_true', decide_eq_false_iff_not, Bool.not_true, Bool.not_false, Bool.true_eq_false, Bool.false_eq_true, ite_not, reduceIte, ite01_0, ite01_1, Decidable.not_not, ne_eq, not_true_eq_false, not_false_eq_true, Function.comp_apply, decide_not, Bool.not_not, Bool.not_eq_false', dc_t, dc_f, and_self, true_and, and_true, and_false, false_and, tnc]
      · clear x1 x2 x3 x4 x5 d3
        rw [bwr_if]
        by_cases q : r = k
        · rw [if_pos q, if_pos (by omega), q, nWt_car]; omega
        · rw [if_neg q, i1 r hr]
          by_cases q2 : r < k
          · rw [if_pos q2, if_pos (by omega)]
          · rw [if_neg q2, if_neg (by omega)]
      · rw [bwr_ne _ _ hi]; exact i2 i hi)
    (fun m' hI => by
      have w3 : m' 93 13 = (F : Int) := by rw [hI.2 _ (by decide)]; exact hF
      simp only [L_Night_flow_1c, L_Night_flow_1b, L_Night_flow_1s, w3, d_rLoc1, d_rLoc2, d_rFld1, d_rFld2, d_eInt, d_eLdc, d_eLdw, d_eLoc, d_eFld, d_lFld, d_eAI, d_eAZ, d_eAB, d_lAL, d_eAD, d_eLen, d_eAdd, d_eSub, d_eMul, d_eAnd, d_eOr, d_eXor, d_eShl, d_eShr, d_eUsh, d_lAdd, d_lSub, d_lMul, d_lAnd, d_lOr, d_lXor, d_lShl, d_lShr, d_eDiv, d_eRem, d_eCmp, d_eI2B, d_eI2S, d_eL2I, d_lI2L, d_lInt, d_lLdc, d_lLoc, d_eIte, d_lIte, d_eMax, d_eMin, d_eAbs, d_eAbove, d_eBodies, d_cQ, d_cZ, d_cNot, d_cAnd, d_cOr, d_gNil, d_gI, d_gL, d_gR, d_gD, d_xV, d_xS, d_xN, d_xT, d_eCall, d_lCall, d_eCallC, d_sNop, d_sSet, d_sSetL, d_sSetR, d_sSetQ, d_sInc, d_sPutI, d_sPutZ, d_sPutL, d_sPutA, d_sPutAZ, d_sPutAB, d_sPutAL, d_sPutD, d_sOpF, d_sOpA, d_sCall, d_sCopy, d_sSeq, d_sIf, d_sBrk, d_sCnt, d_sRetV, d_sRet, d_sRetL, d_sLp, d_tDef, d_tCase, d_sSw, d_sSwB, bIt_d, itb_0, itb_1, itb_2, itb_r, its_0, sqk_0, sqk_1, sqk_2, sqk_r, swk_0, swk_1, swk_r, bfin_r, bfin_ite, Option.bind_some, Option.map_some, Option.bind_none, Option.map_none, bind_ite, map_ite, cop0, cop1, cop2, cop3, cop4, cop5, opv0, opv1, opv2, opv3, brc_i, brc_z, two_ne_one, false_or, getI, getR, getL, List.getElem?_cons_zero, List.getElem?_cons_succ, List.set_cons_zero, List.set_cons_succ, bnl, if_true, if_false, true_or, or_true, decide_eq_true_eq, Bool.not_eq_true', decide_eq_false_iff_not, Bool.not_true, Bool.not_false, Bool.true_eq_false, Bool.false_eq_true, ite_not, reduceIte, ite01_0, ite01_1, Decidable.not_not, ne_eq, not_true_eq_false, not_false_eq_true, Function.comp_apply, decide_not, Bool.not_not, Bool.not_eq_false', dc_t, dc_f, and_self, true_and, and_true, and_false, false_and, tnc]
      simp)
  obtain ⟨m1, e1, i1, i2⟩ := hl
  have e1' : L_Night_flow_1.1.2 (sem n) [some (aR 93), some (aI out), some (aI 0), some (aI out), some (aI 0), none] m = some (.inl (0, [some (aR 93), some (aI out), some (aI (smN (gos t) F)), some (aI (car t out F)), some (aI (F : Int)), xo F (gos t (F - 1))], m1)) := by
    unfold L_Night_flow_1
    rw [d_sLp]
    exact e1
  have w3 : m1 93 13 = (F : Int) := by rw [i2 _ (by decide)]; exact hF
  have g0 : ∀ r, F ≤ r → r < 12 → gos t r = 0 := fun r h1 h2 => by unfold gos; rw [hdry r h1 h2]; exact Int.zero_ediv _
  have dr : ∀ r, F < r → r < 12 → nWt t.2.1 t.2.2.1 out r = 0 := fun r h1 h2 => by
    rw [nWt_car, hdry r (by omega) h2, g0 r (by omega) h2]
    unfold car
    rw [if_neg (by omega), g0 (r - 1) (by omega) (by omega)]
    rfl
  have c1 := car_in hok ho9 (r := F) hF12
  by_cases q1 : F < 12
  · have wF : nWt t.2.1 t.2.2.1 out F = car t out F := by
      rw [nWt_car, hdry F (by omega) q1, g0 F (by omega) q1]; omega
    have f1 : (F : Int) < 12 := by omega
    by_cases q2 : 0 < car t out F
    · have f2 : 0 ≤ (F : Int) ∧ (F : Int) < ((12 : Nat) : Int) := by omega
      have x4 := i32_s (k := F) (by omega)
      have z1 : (bwr m1 94 F (car t out F)) 93 13 = (F : Int) := by rw [bwr_ne _ _ (by decide)]; exact w3
      refine ⟨bwr (bwr m1 94 F (car t out F)) 93 13 ((F + 1 : Nat) : Int), ?_, fun r hr => ?_, ⟨F + 1, bwr_eq2 _, by omega, fun r h1 h2 => dr r (by omega) h2⟩, fun k hk => ?_, fun i h1 h2 => ?_⟩
      · rw [st_Night_flow]
        simp only [B_Night_flow, kr_Night_flow, e1', w3, f1, q2, f2, z1, x4, d_rLoc1, d_rLoc2, d_rFld1, d_rFld2, d_eInt, d_eLdc, d_eLdw, d_eLoc, d_eFld, d_lFld, d_eAI, d_eAZ, d_eAB, d_lAL, d_eAD, d_eLen, d_eAdd, d_eSub, d_eMul, d_eAnd, d_eOr, d_eXor, d_eShl, d_eShr, d_eUsh, d_lAdd, d_lSub, d_lMul, d_lAnd, d_lOr, d_lXor, d_lShl, d_lShr, d_eDiv, d_eRem, d_eCmp, d_eI2B, d_eI2S, d_eL2I, d_lI2L, d_lInt, d_lLdc, d_lLoc, d_eIte, d_lIte, d_eMax, d_eMin, d_eAbs, d_eAbove, d_eBodies, d_cQ, d_cZ, d_cNot, d_cAnd, d_cOr, d_gNil, d_gI, d_gL, d_gR, d_gD, d_xV, d_xS, d_xN, d_xT, d_eCall, d_lCall, d_eCallC, d_sNop, d_sSet, d_sSetL, d_sSetR, d_sSetQ, d_sInc, d_sPutI, d_sPutZ, d_sPutL, d_sPutA, d_sPutAZ, d_sPutAB, d_sPutAL, d_sPutD, d_sOpF, d_sOpA, d_sCall, d_sCopy, d_sSeq, d_sIf, d_sBrk, d_sCnt, d_sRetV, d_sRet, d_sRetL, d_sLp, d_tDef, d_tCase, d_sSw, d_sSwB, bIt_d, itb_0, itb_1, itb_2, itb_r, its_0, sqk_0, sqk_1, sqk_2, sqk_r, swk_0, swk_1, swk_r, bfin_r, bfin_ite, Option.bind_some, Option.map_some, Option.bind_none, Option.map_none, bind_ite, map_ite, cop0, cop1, cop2, cop3, cop4, cop5, opv0, opv1, opv2, opv3, brc_i, brc_z, two_ne_one, false_or, getI, getR, getL, List.getElem?_cons_zero, List.getElem?_cons_succ, List.set_cons_zero, List.set_cons_succ, bnl, if_true, if_false, true_or, or_true, decide_eq_true_eq, Bool.not_eq_true', decide_eq_false_iff_not, Bool.not_true, Bool.not_false, Bool.true_eq_false, Bool.false_eq_true, ite_not, reduceIte, ite01_0, ite01_1, Decidable.not_not, ne_eq, not_true_eq_false, not_false_eq_true, Function.comp_apply, decide_not, Bool.not_not, Bool.not_eq_false', dc_t, dc_f, and_self, true_and, and_true, and_false, false_and, tnc]
      · rw [bwr_ne _ _ (by decide), bwr_if]
        by_cases q : r = F
        · rw [if_pos q, q, wF]
        · rw [if_neg q, i1 r hr]
          by_cases q3 : r < F
          · rw [if_pos q3]
          · rw [if_neg q3, dr r (by omega) hr, hdry r (by omega) hr]
      · rw [bwr_ne2 _ hk, bwr_ne _ _ (by decide), i2 _ (by decide)]
      · rw [bwr_ne _ _ h1, bwr_ne _ _ h2, i2 i h2]
    · have cz : car t out F = 0 := by omega
      refine ⟨m1, ?_, fun r hr => ?_, ⟨F, w3, hF12, fun r h1 h2 => ?_⟩, fun k hk => ?_, fun i h1 h2 => i2 i h2⟩
      · rw [st_Night_flow]
        simp only [B_Night_flow, kr_Night_flow, e1', w3, f1, q2, d_rLoc1, d_rLoc2, d_rFld1, d_rFld2, d_eInt, d_eLdc, d_eLdw, d_eLoc, d_eFld, d_lFld, d_eAI, d_eAZ, d_eAB, d_lAL, d_eAD, d_eLen, d_eAdd, d_eSub, d_eMul, d_eAnd, d_eOr, d_eXor, d_eShl, d_eShr, d_eUsh, d_lAdd, d_lSub, d_lMul, d_lAnd, d_lOr, d_lXor, d_lShl, d_lShr, d_eDiv, d_eRem, d_eCmp, d_eI2B, d_eI2S, d_eL2I, d_lI2L, d_lInt, d_lLdc, d_lLoc, d_eIte, d_lIte, d_eMax, d_eMin, d_eAbs, d_eAbove, d_eBodies, d_cQ, d_cZ, d_cNot, d_cAnd, d_cOr, d_gNil, d_gI, d_gL, d_gR, d_gD, d_xV, d_xS, d_xN, d_xT, d_eCall, d_lCall, d_eCallC, d_sNop, d_sSet, d_sSetL, d_sSetR, d_sSetQ, d_sInc, d_sPutI, d_sPutZ, d_sPutL, d_sPutA, d_sPutAZ, d_sPutAB, d_sPutAL, d_sPutD, d_sOpF, d_sOpA, d_sCall, d_sCopy, d_sSeq, d_sIf, d_sBrk, d_sCnt, d_sRetV, d_sRet, d_sRetL, d_sLp, d_tDef, d_tCase, d_sSw, d_sSwB, bIt_d, itb_0, itb_1, itb_2, itb_r, its_0, sqk_0, sqk_1, sqk_2, sqk_r, swk_0, swk_1, swk_r, bfin_r, bfin_ite, Option.bind_some, Option.map_some, Option.bind_none, Option.map_none, bind_ite, map_ite, cop0, cop1, cop2, cop3, cop4, cop5, opv0, opv1, opv2, opv3, brc_i, brc_z, two_ne_one, false_or, getI, getR, getL, List.getElem?_cons_zero, List.getElem?_cons_succ, List.set_cons_zero, List.set_cons_succ, bnl, if_true, if_false, true_or, or_true, decide_eq_true_eq, Bool.not_eq_true', decide_eq_false_iff_not, Bool.not_true, Bool.not_false, Bool.true_eq_false, Bool.false_eq_true, ite_not, reduceIte, ite01_0, ite01_1, Decidable.not_not, ne_eq, not_true_eq_false, not_false_eq_true, Function.comp_apply, decide_not, Bool.not_not, Bool.not_eq_false', dc_t, dc_f, and_self, true_and, and_true, and_false, false_and, tnc]
      · rw [i1 r hr]
        by_cases q3 : r < F
        · rw [if_pos q3]
        · rw [if_neg q3]
          by_cases q : r = F
          · rw [q, wF, cz]; exact hdry F (by omega) q1
          · rw [dr r (by omega) hr, hdry r (by omega) hr]
      · by_cases q : r = F
        · rw [q, wF, cz]
        · exact dr r (by omega) h2
      · rw [i2 _ (by decide)]
  · have f1 : ¬ (F : Int) < 12 := by omega
    refine ⟨m1, ?_, fun r hr => ?_, ⟨F, w3, hF12, fun r h1 h2 => by omega⟩, fun k hk => ?_, fun i h1 h2 => i2 i h2⟩
    · rw [st_Night_flow]
      simp only [B_Night_flow, kr_Night_flow, e1', w3, f1, d_rLoc1, d_rLoc2, d_rFld1, d_rFld2, d_eInt, d_eLdc, d_eLdw, d_eLoc, d_eFld, d_lFld, d_eAI, d_eAZ, d_eAB, d_lAL, d_eAD, d_eLen, d_eAdd, d_eSub, d_eMul, d_eAnd, d_eOr, d_eXor, d_eShl, d_eShr, d_eUsh, d_lAdd, d_lSub, d_lMul, d_lAnd, d_lOr, d_lXor, d_lShl, d_lShr, d_eDiv, d_eRem, d_eCmp, d_eI2B, d_eI2S, d_eL2I, d_lI2L, d_lInt, d_lLdc, d_lLoc, d_eIte, d_lIte, d_eMax, d_eMin, d_eAbs, d_eAbove, d_eBodies, d_cQ, d_cZ, d_cNot, d_cAnd, d_cOr, d_gNil, d_gI, d_gL, d_gR, d_gD, d_xV, d_xS, d_xN, d_xT, d_eCall, d_lCall, d_eCallC, d_sNop, d_sSet, d_sSetL, d_sSetR, d_sSetQ, d_sInc, d_sPutI, d_sPutZ, d_sPutL, d_sPutA, d_sPutAZ, d_sPutAB, d_sPutAL, d_sPutD, d_sOpF, d_sOpA, d_sCall, d_sCopy, d_sSeq, d_sIf, d_sBrk, d_sCnt, d_sRetV, d_sRet, d_sRetL, d_sLp, d_tDef, d_tCase, d_sSw, d_sSwB, bIt_d, itb_0, itb_1, itb_2, itb_r, its_0, sqk_0, sqk_1, sqk_2, sqk_r, swk_0, swk_1, swk_r, bfin_r, bfin_ite, Option.bind_some, Option.map_some, Option.bind_none, Option.map_none, bind_ite, map_ite, cop0, cop1, cop2, cop3, cop4, cop5, opv0, opv1, opv2, opv3, brc_i, brc_z, two_ne_one, false_or, getI, getR, getL, List.getElem?_cons_zero, List.getElem?_cons_succ, List.set_cons_zero, List.set_cons_succ, bnl, if_true, if_false, true_or, or_true, decide_eq_true_eq, Bool.not_eq_true', decide_eq_false_iff_not, Bool.not_true, Bool.not_false, Bool.true_eq_false, Bool.false_eq_true, ite_not, reduceIte, ite01_0, ite01_1, Decidable.not_not, ne_eq, not_true_eq_false, not_false_eq_true, Function.comp_apply, decide_not, Bool.not_not, Bool.not_eq_false', dc_t, dc_f, and_self, true_and, and_true, and_false, false_and, tnc]
    · rw [i1 r hr, if_pos (by omega)]
    · rw [i2 _ (by decide)]
theorem smN_0 {f : Nat → Int} {n : Nat} (h : ∀ r, r < n → 0 ≤ f r) (h0 : smN f n = 0) : ∀ r, r < n → f r = 0 := fun r hr => by
  have h1 := smN_le n r h hr
  have h2 := h r hr
  omega
