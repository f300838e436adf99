/-! ===== the host ===== -/
/-- the invariant where only the host's cells changed -/
theorem Inv_ht {i : Nat} {m m2 : bM} (hI : Inv i m) (ho : ∀ i, i < 124 ∨ 133 ≤ i ∧ i ≤ 196 → m2 i = m i) (hM : ∀ k, k ≤ 90 → m2 132 k = m 132 k) (ht : HostOK m2) : Inv (i + 1) m2 := by
  have hR := Inv_rel hI
  have hN := Inv_ngt hI
  obtain ⟨k1, k2⟩ := Inv_kept hI
  have aS : agS m2 m := ⟨⟨fun i a b => ho i (by omega), by rw [ho 17 (by decide)]⟩, ho 24 (by decide), ho 26 (by decide)⟩
  have aT : agT m2 m := ⟨ho 44 (by decide), ho 46 (by decide), by rw [ho 37 (by decide)]⟩
  have aF : agF m2 m := ⟨ho 45 (by decide), ho 48 (by decide), ho 49 (by decide), by rw [ho 37 (by decide)]⟩
  have aV : agV m2 m := fun i a b => ho i (by omega)
  refine ⟨Rel_congr hR (fun i a b => ho i (by omega)) (fun i a b => ho i (by omega)), ?_, NgtC_congr hN aV aS aT (fun i a b => ho i (by omega)), ?_, ht, TourOK_congr (Inv_tour hI) (ho 117 (by decide)) (ho 118 (by decide)) (ho 119 (by decide)) (ho 195 (by decide)) (ho 196 (by decide)) (fun k hk => hM k (by omega)), TapeOK_congr (Inv_tape hI) (by rw [ho 109 (by decide)]) (ho 110 (by decide)) (ho 192 (by decide)) (hM 65 (by decide))⟩
  · rw [hM 47 (by decide), ho 0 (by decide)]
    refine ⟨k1, k2.imp id (fun q => ⟨q.1, ?_⟩)⟩
    refine Rel_congr q.2 (fun i a b => ?_) (fun i a b => ?_)
    · show m2 (kcell i) = m (kcell i)
      have : kcell i ≤ 105 ∧ 9 ≤ kcell i := by unfold kcell; split <;> (try split) <;> (try split) <;> (try split) <;> omega
      exact ho _ (by omega)
    · unfold kR
      rw [ho 178 (by decide)]
  · rw [hM 53 (by decide)]
    exact (Inv_fresh hI).imp id (fun q => ⟨q.1, NgtR_congr q.2 aV aS aT aF (hM 59 (by decide)) (fun i a b => ho i (by omega))⟩)
theorem sp_refusesSort (n : Nat) (s t : Int) (m : bM) (hs : 0 ≤ s ∧ s ≤ 3) : sem (n + 1) 122 [aR 124, aI s, aI t] m = some (m, if m 125 s.toNat < 0 then -11 else if m 125 s.toNat = t then 0 else -13) := by
  rw [st_Host_refusesSort]
  simp only [B_Host_refusesSort, kr_Host_refusesSort, d_rLoc1, d_rLoc2, d_rFld1, d_rFld2, d_eInt, d_eLdc, d_eLdw, d_eLoc, d_eFld, d_lFld, d_eAI, d_eAZ, d_eAB, d_lAL, d_eAD, d_eLen, d_eAdd, d_eSub, d_eMul, d_eAnd, d_eOr, d_eXor, d_eShl, d_eShr, d_eUsh, d_lAdd, d_lSub, d_lMul, d_lAnd, d_lOr, d_lXor, d_lShl, d_lShr, d_eDiv, d_eRem, d_eCmp, d_eI2B, d_eI2S, d_eL2I, d_lI2L, d_lInt, d_lLdc, d_lLoc, d_eIte, d_lIte, d_eMax, d_eMin, d_eAbs, d_eAbove, d_eBodies, d_cQ, d_cZ, d_cNot, d_cAnd, d_cOr, d_gNil, d_gI, d_gL, d_gR, d_gD, d_xV, d_xS, d_xN, d_xT, d_eCall, d_lCall, d_eCallC, d_sNop, d_sSet, d_sSetL, d_sSetR, d_sSetQ, d_sInc, d_sPutI, d_sPutZ, d_sPutL, d_sPutA, d_sPutAZ, d_sPutAB, d_sPutAL, d_sPutD, d_sOpF, d_sOpA, d_sCall, d_sCopy, d_sSeq, d_sIf, d_sBrk, d_sCnt, d_sRetV, d_sRet, d_sRetL, d_sLp, d_tDef, d_tCase, d_sSw, d_sSwB, bIt_d, itb_0, itb_1, itb_2, itb_r, its_0, sqk_0, sqk_1, sqk_2, sqk_r, swk_0, swk_1, swk_r, bfin_r, bfin_ite, Option.bind_some, Option.map_some, Option.bind_none, Option.map_none, bind_ite, map_ite, cop0, cop1, cop2, cop3, cop4, cop5, opv0, opv1, opv2, opv3, brc_i, brc_z, two_ne_one, false_or, getI, getR, getL, List.getElem?_cons_zero, List.getElem?_cons_succ, List.set_cons_zero, List.set_cons_succ, bnl, if_true, if_false, true_or, or_true, decide_eq_true_eq, Bool.not_eq_true', decide_eq_false_iff_not, Bool.not_true, Bool.not_false, Bool.true_eq_false, Bool.false_eq_true, ite_not, reduceIte, ite01_0, ite01_1, Decidable.not_not, ne_eq, not_true_eq_false, not_false_eq_true, Function.comp_apply, decide_not, Bool.not_not, Bool.not_eq_false']
  have h3 : s < 4 := by omega
  by_cases h1 : m 125 s.toNat < 0
  · simp [hs.1, h3, h1, bfin_r]
  · by_cases h2 : m 125 s.toNat = t
    · have h4 : ¬ t < 0 := by omega
      simp [hs.1, h3, h2, h4, bfin_r]
    · simp [hs.1, h3, h1, h2, bfin_r]
theorem sp_V_item (n : Nat) (s t x : Int) (m : bM) (hz : ∀ k, k < 4 → 0 ≤ m 125 k → 0 ≤ m 126 k ∧ m 126 k ≤ 40) : sem (n + 3) 50 [aR 0, aI s, aI t, aI x] m = if (0 ≤ s ∧ s ≤ 3) ∧ (0 ≤ t ∧ t ≤ 4) then (if m 125 s.toNat < 0 then some (m, -11) else if m 125 s.toNat = t then (if 0 ≤ x ∧ x < m 126 s.toNat then some (m, m 127 (40 * s.toNat + x.toNat)) else some (m, -12)) else some (m, -13)) else some (m, -1) := by
  rw [st_V_item]
  simp only [B_V_item, kr_V_item, sp_within, sp_V_isSheet, d_rLoc1, d_rLoc2, d_rFld1, d_rFld2, d_eInt, d_eLdc, d_eLdw, d_eLoc, d_eFld, d_lFld, d_eAI, d_eAZ, d_eAB, d_lAL, d_eAD, d_eLen, d_eAdd, d_eSub, d_eMul, d_eAnd, d_eOr, d_eXor, d_eShl, d_eShr, d_eUsh, d_lAdd, d_lSub, d_lMul, d_lAnd, d_lOr, d_lXor, d_lShl, d_lShr, d_eDiv, d_eRem, d_eCmp, d_eI2B, d_eI2S, d_eL2I, d_lI2L, d_lInt, d_lLdc, d_lLoc, d_eIte, d_lIte, d_eMax, d_eMin, d_eAbs, d_eAbove, d_eBodies, d_cQ, d_cZ, d_cNot, d_cAnd, d_cOr, d_gNil, d_gI, d_gL, d_gR, d_gD, d_xV, d_xS, d_xN, d_xT, d_eCall, d_lCall, d_eCallC, d_sNop, d_sSet, d_sSetL, d_sSetR, d_sSetQ, d_sInc, d_sPutI, d_sPutZ, d_sPutL, d_sPutA, d_sPutAZ, d_sPutAB, d_sPutAL, d_sPutD, d_sOpF, d_sOpA, d_sCall, d_sCopy, d_sSeq, d_sIf, d_sBrk, d_sCnt, d_sRetV, d_sRet, d_sRetL, d_sLp, d_tDef, d_tCase, d_sSw, d_sSwB, bIt_d, itb_0, itb_1, itb_2, itb_r, its_0, sqk_0, sqk_1, sqk_2, sqk_r, swk_0, swk_1, swk_r, bfin_r, bfin_ite, Option.bind_some, Option.map_some, Option.bind_none, Option.map_none, bind_ite, map_ite, cop0, cop1, cop2, cop3, cop4, cop5, opv0, opv1, opv2, opv3, brc_i, brc_z, two_ne_one, false_or, getI, getR, getL, List.getElem?_cons_zero, List.getElem?_cons_succ, List.set_cons_zero, List.set_cons_succ, bnl, if_true, if_false, true_or, or_true, decide_eq_true_eq, Bool.not_eq_true', decide_eq_false_iff_not, Bool.not_true, Bool.not_false, Bool.true_eq_false, Bool.false_eq_true, ite_not, reduceIte, ite01_0, ite01_1, Decidable.not_not, ne_eq, not_true_eq_false, not_false_eq_true, Function.comp_apply, decide_not, Bool.not_not, Bool.not_eq_false']
  by_cases h1 : 0 ≤ s ∧ s ≤ 3 <;> by_cases h2 : 0 ≤ t ∧ t ≤ 4 <;> simp [h1, h2, bfin_r]
  rw [sp_refusesSort _ _ _ _ h1]
  by_cases h3 : m 125 s.toNat < 0
  · rw [if_pos h3, if_pos h3]
    simp only [kr_V_item, d_rLoc1, d_rLoc2, d_rFld1, d_rFld2, d_eInt, d_eLdc, d_eLdw, d_eLoc, d_eFld, d_lFld, d_eAI, d_eAZ, d_eAB, d_lAL, d_eAD, d_eLen, d_eAdd, d_eSub, d_eMul, d_eAnd, d_eOr, d_eXor, d_eShl, d_eShr, d_eUsh, d_lAdd, d_lSub, d_lMul, d_lAnd, d_lOr, d_lXor, d_lShl, d_lShr, d_eDiv, d_eRem, d_eCmp, d_eI2B, d_eI2S, d_eL2I, d_lI2L, d_lInt, d_lLdc, d_lLoc, d_eIte, d_lIte, d_eMax, d_eMin, d_eAbs, d_eAbove, d_eBodies, d_cQ, d_cZ, d_cNot, d_cAnd, d_cOr, d_gNil, d_gI, d_gL, d_gR, d_gD, d_xV, d_xS, d_xN, d_xT, d_eCall, d_lCall, d_eCallC, d_sNop, d_sSet, d_sSetL, d_sSetR, d_sSetQ, d_sInc, d_sPutI, d_sPutZ, d_sPutL, d_sPutA, d_sPutAZ, d_sPutAB, d_sPutAL, d_sPutD, d_sOpF, d_sOpA, d_sCall, d_sCopy, d_sSeq, d_sIf, d_sBrk, d_sCnt, d_sRetV, d_sRet, d_sRetL, d_sLp, d_tDef, d_tCase, d_sSw, d_sSwB, bIt_d, itb_0, itb_1, itb_2, itb_r, its_0, sqk_0, sqk_1, sqk_2, sqk_r, swk_0, swk_1, swk_r, bfin_r, bfin_ite, Option.bind_some, Option.map_some, Option.bind_none, Option.map_none, bind_ite, map_ite, cop0, cop1, cop2, cop3, cop4, cop5, opv0, opv1, opv2, opv3, brc_i, brc_z, two_ne_one, false_or, getI, getR, getL, List.getElem?_cons_zero, List.getElem?_cons_succ, List.set_cons_zero, List.set_cons_succ, bnl, if_true, if_false, true_or, or_true, decide_eq_true_eq, Bool.not_eq_true', decide_eq_false_iff_not, Bool.not_true, Bool.not_false, Bool.true_eq_false, Bool.false_eq_true, ite_not, reduceIte, ite01_0, ite01_1, Decidable.not_not, ne_eq, not_true_eq_false, not_false_eq_true, Function.comp_apply, decide_not, Bool.not_not, Bool.not_eq_false']
    simp [bfin_r]
  · by_cases h4 : m 125 s.toNat = t
    · have h5 := hz s.toNat (by omega) (by omega)
      have e : i32 (m 126 s.toNat - 1) = m 126 s.toNat - 1 := i32_of (by omega) (by omega)
      have e2 : (0 ≤ x ∧ x ≤ m 126 s.toNat - 1) ↔ (0 ≤ x ∧ x < m 126 s.toNat) := by omega
      have h6 : s < 4 := by omega
      rw [if_neg h3, if_pos h4, if_neg h3, if_pos h4]
      simp only [kr_V_item, sp_within, d_rLoc1, d_rLoc2, d_rFld1, d_rFld2, d_eInt, d_eLdc, d_eLdw, d_eLoc, d_eFld, d_lFld, d_eAI, d_eAZ, d_eAB, d_lAL, d_eAD, d_eLen, d_eAdd, d_eSub, d_eMul, d_eAnd, d_eOr, d_eXor, d_eShl, d_eShr, d_eUsh, d_lAdd, d_lSub, d_lMul, d_lAnd, d_lOr, d_lXor, d_lShl, d_lShr, d_eDiv, d_eRem, d_eCmp, d_eI2B, d_eI2S, d_eL2I, d_lI2L, d_lInt, d_lLdc, d_lLoc, d_eIte, d_lIte, d_eMax, d_eMin, d_eAbs, d_eAbove, d_eBodies, d_cQ, d_cZ, d_cNot, d_cAnd, d_cOr, d_gNil, d_gI, d_gL, d_gR, d_gD, d_xV, d_xS, d_xN, d_xT, d_eCall, d_lCall, d_eCallC, d_sNop, d_sSet, d_sSetL, d_sSetR, d_sSetQ, d_sInc, d_sPutI, d_sPutZ, d_sPutL, d_sPutA, d_sPutAZ, d_sPutAB, d_sPutAL, d_sPutD, d_sOpF, d_sOpA, d_sCall, d_sCopy, d_sSeq, d_sIf, d_sBrk, d_sCnt, d_sRetV, d_sRet, d_sRetL, d_sLp, d_tDef, d_tCase, d_sSw, d_sSwB, bIt_d, itb_0, itb_1, itb_2, itb_r, its_0, sqk_0, sqk_1, sqk_2, sqk_r, swk_0, swk_1, swk_r, bfin_r, bfin_ite, Option.bind_some, Option.map_some, Option.bind_none, Option.map_none, bind_ite, map_ite, cop0, cop1, cop2, cop3, cop4, cop5, opv0, opv1, opv2, opv3, brc_i, brc_z, two_ne_one, false_or, getI, getR, getL, List.getElem?_cons_zero, List.getElem?_cons_succ, List.set_cons_zero, List.set_cons_succ, bnl, if_true, if_false, true_or, or_true, decide_eq_true_eq, Bool.not_eq_true', decide_eq_false_iff_not, Bool.not_true, Bool.not_false, Bool.true_eq_false, Bool.false_eq_true, ite_not, reduceIte, ite01_0, ite01_1, Decidable.not_not, ne_eq, not_true_eq_false, not_false_eq_true, Function.comp_apply, decide_not, Bool.not_not, Bool.not_eq_false']
      have h61 : 0 ≤ s ∧ s < ((4 : Nat) : Int) := by omega
      simp only [h61, and_self, if_true, if_false, Int.reduceNeg]
      simp [bfin_r]
      rw [e]
      simp only [e2]
      by_cases h7 : 0 ≤ x ∧ x < m 126 s.toNat
      · have e3 : i32 (i32 (s * 40) + x) = s * 40 + x := by rw [i32_of (z := s * 40) (by omega) (by omega), i32_of (by omega) (by omega)]
        have e4 : (s * 40 + x).toNat = 40 * s.toNat + x.toNat := by omega
        simp [h1.1, h6, h7, e3, e4, bfin_r, show 0 ≤ s * 40 + x ∧ s * 40 + x < 160 by omega]
      · simp [h1.1, h6, h7, bfin_r]
    · rw [if_neg h3, if_neg h4, if_neg h3, if_neg h4]
      simp only [kr_V_item, d_rLoc1, d_rLoc2, d_rFld1, d_rFld2, d_eInt, d_eLdc, d_eLdw, d_eLoc, d_eFld, d_lFld, d_eAI, d_eAZ, d_eAB, d_lAL, d_eAD, d_eLen, d_eAdd, d_eSub, d_eMul, d_eAnd, d_eOr, d_eXor, d_eShl, d_eShr, d_eUsh, d_lAdd, d_lSub, d_lMul, d_lAnd, d_lOr, d_lXor, d_lShl, d_lShr, d_eDiv, d_eRem, d_eCmp, d_eI2B, d_eI2S, d_eL2I, d_lI2L, d_lInt, d_lLdc, d_lLoc, d_eIte, d_lIte, d_eMax, d_eMin, d_eAbs, d_eAbove, d_eBodies, d_cQ, d_cZ, d_cNot, d_cAnd, d_cOr, d_gNil, d_gI, d_gL, d_gR, d_gD, d_xV, d_xS, d_xN, d_xT, d_eCall, d_lCall, d_eCallC, d_sNop, d_sSet, d_sSetL, d_sSetR, d_sSetQ, d_sInc, d_sPutI, d_sPutZ, d_sPutL, d_sPutA, d_sPutAZ, d_sPutAB, d_sPutAL, d_sPutD, d_sOpF, d_sOpA, d_sCall, d_sCopy, d_sSeq, d_sIf, d_sBrk, d_sCnt, d_sRetV, d_sRet, d_sRetL, d_sLp, d_tDef, d_tCase, d_sSw, d_sSwB, bIt_d, itb_0, itb_1, itb_2, itb_r, its_0, sqk_0, sqk_1, sqk_2, sqk_r, swk_0, swk_1, swk_r, bfin_r, bfin_ite, Option.bind_some, Option.map_some, Option.bind_none, Option.map_none, bind_ite, map_ite, cop0, cop1, cop2, cop3, cop4, cop5, opv0, opv1, opv2, opv3, brc_i, brc_z, two_ne_one, false_or, getI, getR, getL, List.getElem?_cons_zero, List.getElem?_cons_succ, List.set_cons_zero, List.set_cons_succ, bnl, if_true, if_false, true_or, or_true, decide_eq_true_eq, Bool.not_eq_true', decide_eq_false_iff_not, Bool.not_true, Bool.not_false, Bool.true_eq_false, Bool.false_eq_true, ite_not, reduceIte, ite01_0, ite01_1, Decidable.not_not, ne_eq, not_true_eq_false, not_false_eq_true, Function.comp_apply, decide_not, Bool.not_not, Bool.not_eq_false']
      simp [bfin_r]
theorem sp_M_item (n : Nat) (s t x : Int) (m : bM) (hz : ∀ k, k < 4 → 0 ≤ m 197 k → 0 ≤ m 198 k ∧ m 198 k ≤ 40) : sem (n + 3) 108 [aR 132, aI s, aI t, aI x] m = if (0 ≤ s ∧ s ≤ 3) ∧ (0 ≤ t ∧ t ≤ 4) then (if m 197 s.toNat < 0 then some (m, -11) else if m 197 s.toNat = t then (if 0 ≤ x ∧ x < m 198 s.toNat then some (m, i32 (m 199 (40 * s.toNat + x.toNat))) else some (m, -12)) else some (m, -13)) else some (m, -1) := by
  rw [st_M_item]
  simp only [B_M_item, kr_M_item, sp_in, sp_M_isSheet, d_rLoc1, d_rLoc2, d_rFld1, d_rFld2, d_eInt, d_eLdc, d_eLdw, d_eLoc, d_eFld, d_lFld, d_eAI, d_eAZ, d_eAB, d_lAL, d_eAD, d_eLen, d_eAdd, d_eSub, d_eMul, d_eAnd, d_eOr, d_eXor, d_eShl, d_eShr, d_eUsh, d_lAdd, d_lSub, d_lMul, d_lAnd, d_lOr, d_lXor, d_lShl, d_lShr, d_eDiv, d_eRem, d_eCmp, d_eI2B, d_eI2S, d_eL2I, d_lI2L, d_lInt, d_lLdc, d_lLoc, d_eIte, d_lIte, d_eMax, d_eMin, d_eAbs, d_eAbove, d_eBodies, d_cQ, d_cZ, d_cNot, d_cAnd, d_cOr, d_gNil, d_gI, d_gL, d_gR, d_gD, d_xV, d_xS, d_xN, d_xT, d_eCall, d_lCall, d_eCallC, d_sNop, d_sSet, d_sSetL, d_sSetR, d_sSetQ, d_sInc, d_sPutI, d_sPutZ, d_sPutL, d_sPutA, d_sPutAZ, d_sPutAB, d_sPutAL, d_sPutD, d_sOpF, d_sOpA, d_sCall, d_sCopy, d_sSeq, d_sIf, d_sBrk, d_sCnt, d_sRetV, d_sRet, d_sRetL, d_sLp, d_tDef, d_tCase, d_sSw, d_sSwB, bIt_d, itb_0, itb_1, itb_2, itb_r, its_0, sqk_0, sqk_1, sqk_2, sqk_r, swk_0, swk_1, swk_r, bfin_r, bfin_ite, Option.bind_some, Option.map_some, Option.bind_none, Option.map_none, bind_ite, map_ite, cop0, cop1, cop2, cop3, cop4, cop5, opv0, opv1, opv2, opv3, brc_i, brc_z, two_ne_one, false_or, getI, getR, getL, List.getElem?_cons_zero, List.getElem?_cons_succ, List.set_cons_zero, List.set_cons_succ, bnl, if_true, if_false, true_or, or_true, decide_eq_true_eq, Bool.not_eq_true', decide_eq_false_iff_not, Bool.not_true, Bool.not_false, Bool.true_eq_false, Bool.false_eq_true, ite_not, reduceIte, ite01_0, ite01_1, Decidable.not_not, ne_eq, not_true_eq_false, not_false_eq_true, Function.comp_apply, decide_not, Bool.not_not, Bool.not_eq_false']
  by_cases h1 : 0 ≤ s ∧ s ≤ 3 <;> by_cases h2 : 0 ≤ t ∧ t ≤ 4 <;> simp [h1, h2, bfin_r]
  have h6 : s < 4 := by omega
  by_cases h3 : m 197 s.toNat < 0
  · simp [h6, h3, bfin_r]
  · by_cases h4 : m 197 s.toNat = t
    · have h5 := hz s.toNat (by omega) (by omega)
      have e : i32 (m 198 s.toNat - 1) = m 198 s.toNat - 1 := i32_of (by omega) (by omega)
      have e2 : (0 ≤ x ∧ x ≤ m 198 s.toNat - 1) ↔ (0 ≤ x ∧ x < m 198 s.toNat) := by omega
      rw [e]
      simp only [e2]
      have e3 : ∀ y : Int, 0 ≤ y ∧ y < 40 → i32 (i32 (40 * s) + y) = 40 * s + y := fun y hy => by rw [i32_of (z := 40 * s) (by omega) (by omega), i32_of (by omega) (by omega)]
      have h4' : ¬ t < 0 := by omega
      by_cases h7 : 0 ≤ x ∧ x < m 198 s.toNat
      · have e4 : (40 * s + x).toNat = 40 * s.toNat + x.toNat := by omega
        simp [h6, h4, h4', h7, e3 x (by omega), e4, bfin_r, show 0 ≤ 40 * s + x ∧ 40 * s + x < 160 by omega]
      · simp [h6, h4, h4', h7, bfin_r]
    · simp [h6, h3, h4, bfin_r]
theorem step_item {n i : Nat} {m : bM} (hI : Inv i m) (hi : i < 100) (s t x : Int) : ∃ m1 m2 v, sem (n + 3) 50 [aR 0, aI s, aI t, aI x] m = some (m1, v) ∧ sem (n + 3) 108 [aR 132, aI s, aI t, aI x] m1 = some (m2, v) ∧ Inv (i + 1) m2 := by
  have hR := Inv_rel hI
  have hN := Inv_ngt hI
  have hage := NgtC_age hN
  have hH := Inv_host hI
  by_cases hc : (0 ≤ s ∧ s ≤ 3) ∧ (0 ≤ t ∧ t ≤ 4)
  · have hz1 : ∀ k, k < 4 → 0 ≤ m 125 k → 0 ≤ m 126 k ∧ m 126 k ≤ 40 := fun k hk h => ⟨(HostOK_size hH k hk h).2.1, (HostOK_size hH k hk h).2.2.1⟩
    have hz2 : ∀ k, k < 4 → 0 ≤ m 197 k → 0 ≤ m 198 k ∧ m 198 k ≤ 40 := fun k hk h => by
      rw [(HostOK_sort hH k hk).1] at h
      rw [(HostOK_size hH k hk h).1]; exact hz1 k hk h
    have e1 := (sp_V_item n s t x m hz1).trans (if_pos hc)
    have e2 := (sp_M_item n s t x m hz2).trans (if_pos hc)
    rw [(HostOK_sort hH s.toNat (by omega)).1] at e2
    by_cases h3 : m 125 s.toNat < 0
    · rw [if_pos h3] at e1 e2
      exact ⟨_, _, _, e1, e2, Inv_same hI⟩
    · rw [if_neg h3] at e1 e2
      by_cases h4 : m 125 s.toNat = t
      · rw [if_pos h4] at e1 e2
        have h5 := HostOK_size hH s.toNat (by omega) (by omega)
        rw [h5.1] at e2
        by_cases h6 : 0 ≤ x ∧ x < m 126 s.toNat
        · rw [if_pos h6] at e1 e2
          have h7 := HostOK_i32s hH (40 * s.toNat + x.toNat) (by omega)
          rw [h5.2.2.2 x.toNat (by omega), i32_of h7.1 h7.2] at e2
          exact ⟨_, _, _, e1, e2, Inv_same hI⟩
        · rw [if_neg h6] at e1 e2
          exact ⟨_, _, _, e1, e2, Inv_same hI⟩
      · rw [if_neg h4] at e1 e2
        exact ⟨_, _, _, e1, e2, Inv_same hI⟩
  · exact ⟨m, m, -1, (sp_V_item n s t x m (fun k hk h => ⟨(HostOK_size hH k hk h).2.1, (HostOK_size hH k hk h).2.2.1⟩)).trans (if_neg hc), (sp_M_item n s t x m (fun k hk h => by rw [(HostOK_sort hH k hk).1] at h; rw [(HostOK_size hH k hk h).1]; exact ⟨(HostOK_size hH k hk h).2.1, (HostOK_size hH k hk h).2.2.1⟩)).trans (if_neg hc), Inv_same hI⟩
def nrw (v t : Int) : Int := if t = 0 then jb8 v else if t = 1 then jb16 v else if t = 4 then (if v = 0 then 0 else 1) else v
theorem nrw_in {v t : Int} (h : in32 v) : in32 (nrw v t) := by
  unfold nrw
  split
  · have h1 := Int8.le_toInt (Int32.ofInt v).toInt8
    have h2 := Int8.toInt_lt (Int32.ofInt v).toInt8
    unfold jb8 in32; omega
  · split
    · have h1 := Int16.le_toInt (Int32.ofInt v).toInt16
      have h2 := Int16.toInt_lt (Int32.ofInt v).toInt16
      unfold jb16 in32; omega
    · split
      · split <;> (unfold in32; omega)
      · exact h
theorem sp_V_narrowed (n : Nat) (v t : Int) (m : bM) : sem (n + 1) 181 [aI v, aI t] m = some (m, nrw v t) := by
  rw [st_V_narrowed]
  simp only [B_V_narrowed, kr_V_narrowed, d_rLoc1, d_rLoc2, d_rFld1, d_rFld2, d_eInt, d_eLdc, d_eLdw, d_eLoc, d_eFld, d_lFld, d_eAI, d_eAZ, d_eAB, d_lAL, d_eAD, d_eLen, d_eAdd, d_eSub, d_eMul, d_eAnd, d_eOr, d_eXor, d_eShl, d_eShr, d_eUsh, d_lAdd, d_lSub, d_lMul, d_lAnd, d_lOr, d_lXor, d_lShl, d_lShr, d_eDiv, d_eRem, d_eCmp, d_eI2B, d_eI2S, d_eL2I, d_lI2L, d_lInt, d_lLdc, d_lLoc, d_eIte, d_lIte, d_eMax, d_eMin, d_eAbs, d_eAbove, d_eBodies, d_cQ, d_cZ, d_cNot, d_cAnd, d_cOr, d_gNil, d_gI, d_gL, d_gR, d_gD, d_xV, d_xS, d_xN, d_xT, d_eCall, d_lCall, d_eCallC, d_sNop, d_sSet, d_sSetL, d_sSetR, d_sSetQ, d_sInc, d_sPutI, d_sPutZ, d_sPutL, d_sPutA, d_sPutAZ, d_sPutAB, d_sPutAL, d_sPutD, d_sOpF, d_sOpA, d_sCall, d_sCopy, d_sSeq, d_sIf, d_sBrk, d_sCnt, d_sRetV, d_sRet, d_sRetL, d_sLp, d_tDef, d_tCase, d_sSw, d_sSwB, bIt_d, itb_0, itb_1, itb_2, itb_r, its_0, sqk_0, sqk_1, sqk_2, sqk_r, swk_0, swk_1, swk_r, bfin_r, bfin_ite, Option.bind_some, Option.map_some, Option.bind_none, Option.map_none, bind_ite, map_ite, cop0, cop1, cop2, cop3, cop4, cop5, opv0, opv1, opv2, opv3, brc_i, brc_z, two_ne_one, false_or, getI, getR, getL, List.getElem?_cons_zero, List.getElem?_cons_succ, List.set_cons_zero, List.set_cons_succ, bnl, if_true, if_false, true_or, or_true, decide_eq_true_eq, Bool.not_eq_true', decide_eq_false_iff_not, Bool.not_true, Bool.not_false, Bool.true_eq_false, Bool.false_eq_true, ite_not, reduceIte, ite01_0, ite01_1, Decidable.not_not, ne_eq, not_true_eq_false, not_false_eq_true, Function.comp_apply, decide_not, Bool.not_not, Bool.not_eq_false']
  unfold nrw
  by_cases h0 : t = 0
  · simp [h0, bfin_r]
  · by_cases h1 : t = 1
    · simp [h1, bfin_r]
    · by_cases h4 : t = 4
      · by_cases hv : v = 0 <;> simp [h4, hv, bfin_r]
      · simp [h0, h1, h4, bfin_r]
theorem sp_M_narrowed (n : Nat) (v t : Int) (m : bM) : sem (n + 1) 241 [aI t, aI v] m = some (m, nrw v t) := by
  rw [st_M_narrowed]
  simp only [B_M_narrowed, kr_M_narrowed, d_rLoc1, d_rLoc2, d_rFld1, d_rFld2, d_eInt, d_eLdc, d_eLdw, d_eLoc, d_eFld, d_lFld, d_eAI, d_eAZ, d_eAB, d_lAL, d_eAD, d_eLen, d_eAdd, d_eSub, d_eMul, d_eAnd, d_eOr, d_eXor, d_eShl, d_eShr, d_eUsh, d_lAdd, d_lSub, d_lMul, d_lAnd, d_lOr, d_lXor, d_lShl, d_lShr, d_eDiv, d_eRem, d_eCmp, d_eI2B, d_eI2S, d_eL2I, d_lI2L, d_lInt, d_lLdc, d_lLoc, d_eIte, d_lIte, d_eMax, d_eMin, d_eAbs, d_eAbove, d_eBodies, d_cQ, d_cZ, d_cNot, d_cAnd, d_cOr, d_gNil, d_gI, d_gL, d_gR, d_gD, d_xV, d_xS, d_xN, d_xT, d_eCall, d_lCall, d_eCallC, d_sNop, d_sSet, d_sSetL, d_sSetR, d_sSetQ, d_sInc, d_sPutI, d_sPutZ, d_sPutL, d_sPutA, d_sPutAZ, d_sPutAB, d_sPutAL, d_sPutD, d_sOpF, d_sOpA, d_sCall, d_sCopy, d_sSeq, d_sIf, d_sBrk, d_sCnt, d_sRetV, d_sRet, d_sRetL, d_sLp, d_tDef, d_tCase, d_sSw, d_sSwB, bIt_d, itb_0, itb_1, itb_2, itb_r, its_0, sqk_0, sqk_1, sqk_2, sqk_r, swk_0, swk_1, swk_r, bfin_r, bfin_ite, Option.bind_some, Option.map_some, Option.bind_none, Option.map_none, bind_ite, map_ite, cop0, cop1, cop2, cop3, cop4, cop5, opv0, opv1, opv2, opv3, brc_i, brc_z, two_ne_one, false_or, getI, getR, getL, List.getElem?_cons_zero, List.getElem?_cons_succ, List.set_cons_zero, List.set_cons_succ, bnl, if_true, if_false, true_or, or_true, decide_eq_true_eq, Bool.not_eq_true', decide_eq_false_iff_not, Bool.not_true, Bool.not_false, Bool.true_eq_false, Bool.false_eq_true, ite_not, reduceIte, ite01_0, ite01_1, Decidable.not_not, ne_eq, not_true_eq_false, not_false_eq_true, Function.comp_apply, decide_not, Bool.not_not, Bool.not_eq_false']
  unfold nrw
  by_cases h0 : t = 0
  · simp [h0, bfin_r]
  · by_cases h1 : t = 1
    · simp [h1, bfin_r]
    · by_cases h4 : t = 4
      · by_cases hv : v = 0 <;> simp [h4, hv, bfin_r]
      · simp [h0, h1, h4, bfin_r]
