/-! ===== calls that tell something of the valley ===== -/
theorem RelN_keep {c r c1 r1 : bM} (h : RelN c r) (e : ∀ k, k < 14 → r1 133 k = r 133 k) (e1 : ∀ k, c1 1 k = c 1 k) (e2 : ∀ k, c1 17 k = c 17 k) (e3 : ∀ k, c1 37 k = c 37 k) (e4 : ∀ k, c1 63 k = c 63 k) (e5 : ∀ k, c1 79 k = c 79 k) : RelN c1 r1 := by
  unfold RelN at h ⊢
  simp only [e 0 (by decide), e 1 (by decide), e 2 (by decide), e 3 (by decide), e 4 (by decide), e 5 (by decide), e 6 (by decide), e 7 (by decide), e 8 (by decide), e 9 (by decide), e 10 (by decide), e 11 (by decide), e 12 (by decide), e 13 (by decide), e1, e2, e3, e4, e5]
  exact h
theorem sp_V_pond (n : Nat) (x : Int) (m : bM) : sem (n + 3) 1 [aR 0, aI x] m = if 0 ≤ x ∧ x ≤ 9999 then some (fgN (bwr m 1 7 x), m 1 7) else some (m, -1) := by
  rw [st_V_pond]
  simp only [B_V_pond, kr_V_pond, sp_within, sp_forgetNights, d_rLoc1, d_rLoc2, d_rFld1, d_rFld2, d_eInt, d_eLdc, d_eLdw, d_eLoc, d_eFld, d_lFld, d_eAI, d_eAZ, d_eAB, d_lAL, d_eAD, d_eLen, d_eAdd, d_eSub, d_eMul, d_eAnd, d_eOr, d_eXor, d_eShl, d_eShr, d_eUsh, d_lAdd, d_lSub, d_lMul, d_lAnd, d_lOr, d_lXor, d_lShl, d_lShr, d_eDiv, d_eRem, d_eCmp, d_eI2B, d_eI2S, d_eL2I, d_lI2L, d_lInt, d_lLdc, d_lLoc, d_eIte, d_lIte, d_eMax, d_eMin, d_eAbs, d_eAbove, d_eBodies, d_cQ, d_cZ, d_cNot, d_cAnd, d_cOr, d_gNil, d_gI, d_gL, d_gR, d_gD, d_xV, d_xS, d_xN, d_xT, d_eCall, d_lCall, d_eCallC, d_sNop, d_sSet, d_sSetL, d_sSetR, d_sSetQ, d_sInc, d_sPutI, d_sPutZ, d_sPutL, d_sPutA, d_sPutAZ, d_sPutAB, d_sPutAL, d_sPutD, d_sOpF, d_sOpA, d_sCall, d_sCopy, d_sSeq, d_sIf, d_sBrk, d_sCnt, d_sRetV, d_sRet, d_sRetL, d_sLp, d_tDef, d_tCase, d_sSw, d_sSwB, bIt_d, itb_0, itb_1, itb_2, itb_r, its_0, sqk_0, sqk_1, sqk_2, sqk_r, swk_0, swk_1, swk_r, bfin_r, bfin_ite, Option.bind_some, Option.map_some, Option.bind_none, Option.map_none, bind_ite, map_ite, cop0, cop1, cop2, cop3, cop4, cop5, opv0, opv1, opv2, opv3, brc_i, brc_z, two_ne_one, false_or, getI, getR, getL, List.getElem?_cons_zero, List.getElem?_cons_succ, List.set_cons_zero, List.set_cons_succ, bnl, if_true, if_false, true_or, or_true, decide_eq_true_eq, Bool.not_eq_true', decide_eq_false_iff_not, Bool.not_true, Bool.not_false, Bool.true_eq_false, Bool.false_eq_true, ite_not, reduceIte, ite01_0, ite01_1, Decidable.not_not, ne_eq, not_true_eq_false, not_false_eq_true, decide_not, Bool.not_not, Bool.not_eq_false']
theorem sp_M_pond (n : Nat) (x : Int) (m : bM) : sem (n + 3) 59 [aR 132, aI x] m = if 0 ≤ x ∧ x ≤ 9999 then some (bwr (bwr m 133 0 x) 132 53 0, m 133 0) else some (m, -1) := by
  rw [st_M_pond]
  simp only [B_M_pond, kr_M_pond, sp_in, d_rLoc1, d_rLoc2, d_rFld1, d_rFld2, d_eInt, d_eLdc, d_eLdw, d_eLoc, d_eFld, d_lFld, d_eAI, d_eAZ, d_eAB, d_lAL, d_eAD, d_eLen, d_eAdd, d_eSub, d_eMul, d_eAnd, d_eOr, d_eXor, d_eShl, d_eShr, d_eUsh, d_lAdd, d_lSub, d_lMul, d_lAnd, d_lOr, d_lXor, d_lShl, d_lShr, d_eDiv, d_eRem, d_eCmp, d_eI2B, d_eI2S, d_eL2I, d_lI2L, d_lInt, d_lLdc, d_lLoc, d_eIte, d_lIte, d_eMax, d_eMin, d_eAbs, d_eAbove, d_eBodies, d_cQ, d_cZ, d_cNot, d_cAnd, d_cOr, d_gNil, d_gI, d_gL, d_gR, d_gD, d_xV, d_xS, d_xN, d_xT, d_eCall, d_lCall, d_eCallC, d_sNop, d_sSet, d_sSetL, d_sSetR, d_sSetQ, d_sInc, d_sPutI, d_sPutZ, d_sPutL, d_sPutA, d_sPutAZ, d_sPutAB, d_sPutAL, d_sPutD, d_sOpF, d_sOpA, d_sCall, d_sCopy, d_sSeq, d_sIf, d_sBrk, d_sCnt, d_sRetV, d_sRet, d_sRetL, d_sLp, d_tDef, d_tCase, d_sSw, d_sSwB, bIt_d, itb_0, itb_1, itb_2, itb_r, its_0, sqk_0, sqk_1, sqk_2, sqk_r, swk_0, swk_1, swk_r, bfin_r, bfin_ite, Option.bind_some, Option.map_some, Option.bind_none, Option.map_none, bind_ite, map_ite, cop0, cop1, cop2, cop3, cop4, cop5, opv0, opv1, opv2, opv3, brc_i, brc_z, two_ne_one, false_or, getI, getR, getL, List.getElem?_cons_zero, List.getElem?_cons_succ, List.set_cons_zero, List.set_cons_succ, bnl, if_true, if_false, true_or, or_true, decide_eq_true_eq, Bool.not_eq_true', decide_eq_false_iff_not, Bool.not_true, Bool.not_false, Bool.true_eq_false, Bool.false_eq_true, ite_not, reduceIte, ite01_0, ite01_1, Decidable.not_not, ne_eq, not_true_eq_false, not_false_eq_true, decide_not, Bool.not_not, Bool.not_eq_false']
  simp
theorem step_pond {n i : Nat} {m : bM} (hI : Inv i m) (hi : i < 100) (x : Int) : ∃ m1 m2 v, sem (n + 3) 1 [aR 0, aI x] m = some (m1, v) ∧ sem (n + 3) 59 [aR 132, aI x] m1 = some (m2, v) ∧ Inv (i + 1) m2 := by
  have hR := Inv_rel hI
  have hN := Inv_ngt hI
  have hage := NgtC_age hN
  by_cases h : 0 ≤ x ∧ x ≤ 9999
  · have e1 := (sp_V_pond n x m).trans (if_pos h)
    have e2 := (sp_M_pond n x (fgN (bwr m 1 7 x))).trans (if_pos h)
    have ev : (fgN (bwr m 1 7 x)) 133 0 = m 1 7 := by
      simp (disch := omega) only [fgN, fgP, bwr_ne, bwr_ne2, bwr_eq2]
      exact RelN_water (Rel_n hR)
    rw [ev] at e2
    refine ⟨_, _, _, e1, e2, Inv_of hI (by refine ⟨?_, ?_, ?_, ?_, ?_, ?_, ?_, ?_, ?_, ?_, ?_, ?_, ?_, ?_, ?_, ?_, ?_⟩ <;> (intros; try (simp (disch := omega) only [fgN, fgP, bwr_ne, bwr_ne2, bwr_eq2]))) ⟨?_, ?_, (RelS_congr (Rel_s hR) (fun i a b => by simp (disch := omega) only [fgN, fgP, bwr_ne, bwr_ne2, bwr_eq2]) (fun i a b => by simp (disch := omega) only [fgN, fgP, bwr_ne, bwr_ne2, bwr_eq2])), (RelF_congr (Rel_f hR) (fun i a b => by simp (disch := omega) only [fgN, fgP, bwr_ne, bwr_ne2, bwr_eq2]) (fun i a b => by simp (disch := omega) only [fgN, fgP, bwr_ne, bwr_ne2, bwr_eq2])), (RelA_congr (Rel_a hR) (fun i a b => by simp (disch := omega) only [fgN, fgP, bwr_ne, bwr_ne2, bwr_eq2]) (fun i a b => by simp (disch := omega) only [fgN, fgP, bwr_ne, bwr_ne2, bwr_eq2])), (RelC_congr (Rel_c hR) (fun i a b => by simp (disch := omega) only [fgN, fgP, bwr_ne, bwr_ne2, bwr_eq2]) (fun i a b => by simp (disch := omega) only [fgN, fgP, bwr_ne, bwr_ne2, bwr_eq2]))⟩ (NgtC_fg hN ?_ ?_ ?_ ?_) (Or.inl ?_)⟩
    · obtain ⟨a1, a2, a3, a4, a5, a6, a7, a8, a9, a10, a11, a12, a13, a14⟩ := Rel_n hR
      refine ⟨?_, ?_, ?_, ?_, ?_, ?_, ?_, ?_, ?_, ?_, ?_, ?_, ?_, ?_⟩ <;> (try simp (disch := omega) only [fgN, fgP, bwr_ne, bwr_ne2, bwr_eq2]) <;> assumption
    · obtain ⟨v1, v2, v3, v4, v5, v6, v7, v8, v9, v10, v11, v12, v13, v14, v15, v16, v17, v18, v19⟩ := Rel_v hR
      refine ⟨?_, ?_, ?_, ?_, ?_, ?_, ?_, ?_, ?_, ?_, ?_, ?_, ?_, ?_, ?_, ?_, ?_, ?_, ?_⟩ <;> (try simp (disch := omega) only [fgN, fgP, bwr_ne, bwr_ne2, bwr_eq2]) <;> assumption
    · simp (disch := omega) only [fgN, fgP, bwr_ne, bwr_ne2, bwr_eq2]
      exact i32_of (by omega) (by omega)
    · simp (disch := omega) only [fgN, fgP, bwr_ne, bwr_ne2, bwr_eq2]
    · simp (disch := omega) only [fgN, fgP, bwr_ne, bwr_ne2, bwr_eq2]
    · simp (disch := omega) only [fgN, fgP, bwr_ne, bwr_ne2, bwr_eq2]
    · simp (disch := omega) only [fgN, fgP, bwr_ne, bwr_ne2, bwr_eq2]
  · refine ⟨m, m, -1, (sp_V_pond n x m).trans (if_neg h), (sp_M_pond n x m).trans (if_neg h), ?_⟩
    exact Inv_of hI (by refine ⟨?_, ?_, ?_, ?_, ?_, ?_, ?_, ?_, ?_, ?_, ?_, ?_, ?_, ?_, ?_, ?_, ?_⟩ <;> (intros; try (simp (disch := omega) only [fgN, fgP, bwr_ne, bwr_ne2, bwr_eq2]))) hR (NgtC_congr hN (fun i a b => rfl) ⟨⟨fun i a b => rfl, rfl⟩, rfl, rfl⟩ ⟨rfl, rfl, rfl⟩ (fun i a b => rfl)) (Inv_fresh hI)
