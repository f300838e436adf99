/-! ===== a night goes by ===== -/
theorem zz1 : (0 ≤ (0 : Int)) = True := eq_true (by decide)
theorem zz2 : (0 ≤ (12 : Int)) = True := eq_true (by decide)
theorem zz3 : ((0 : Int) + 12 ≤ ((12 : Nat) : Int)) = True := eq_true (by decide)
theorem lp_begin (n : Nat) {c r m : bM} (hV : RelV c r) (hF : RelF c r) (hb : bse c m) (T : Nat) (hT : c 37 14 = (T : Int)) : ∃ m2, L_Night_begin_1.1.2 (sem n) [some (aR 93), some (aI 0)] m = some (.inl (0, [some (aR 93), some (aI (T : Int))], m2)) ∧ (∀ t, t < T → m2 100 t = (tHome c t : Int)) ∧ (∀ i, i ≠ 100 → m2 i = m i) := by
  have hT12 := RelF_rthings hF
  have hT1k : T < 1000 := by omega
  unfold L_Night_begin_1
  rw [d_sLp]
  have hl := lp_m (c := L_Night_begin_1c.1.2 (sem n)) (b := L_Night_begin_1b.1.2 (sem n)) (s := L_Night_begin_1s.1.2 (sem n)) (m := m)
    (fun k => [some (aR 93), some (aI (k : Int))])
    (fun k m' => (∀ t, t < k → m' 100 t = (tHome c t : Int)) ∧ (∀ i, i ≠ 100 → m' i = m i)) T hT1k
    ⟨fun t ht => absurd ht (Nat.not_lt_zero t), fun _ _ => rfl⟩
    (fun k m' hk hI => by
      obtain ⟨i1, i2⟩ := hI
      have hb' : bse c m' := fun i hi => by rw [i2 i (by omega)]; exact hb i hi
      have b6 := hb' 6 (by decide)
      have b37 := hb' 37 (by decide)
      have b44 := hb' 44 (by decide)
      have h9 := RelF_rtof hF k (by omega)
      have h11 := RelV_rhAt hV (c 44 k).toNat (by omega)
      have f1 : (k : Int) < (T : Int) := by omega
      have f2 : 0 ≤ (k : Int) ∧ (k : Int) < ((12 : Nat) : Int) := by omega
      have f4 : 0 ≤ c 44 k ∧ c 44 k < ((10 : Nat) : Int) := by omega
      have f5 : c 6 (c 44 k).toNat = (tHome c k : Int) := by unfold tHome tHm; omega
      have y0 : k < 2147483647 := by omega
      have f3 := i32_s y0
      have tk := tnc k
      refine ⟨bwr m' 100 k (tHome c k : Int), bIt_go (m1 := m') (ls2 := [some (aR 93), some (aI (k : Int))]) (m2 := bwr m' 100 k (tHome c k : Int)) ?_ ?_ ?_, fun t ht => ?_, fun i hi => ?_⟩
      · simp only [L_Night_begin_1c, b37, hT, f1, d_rLoc1, d_rLoc2, d_rFld1, d_rFld2, d_eInt, d_eLdc, d_eLdw, d_eLoc, d_eFld, d_lFld, d_eAI, d_eAZ, d_eAB, d_lAL, d_eAD, d_eLen, d_eAdd, d_eSub, d_eMul, d_eAnd, d_eOr, d_eXor, d_eShl, d_eShr, d_eUsh, d_lAdd, d_lSub, d_lMul, d_lAnd, d_lOr, d_lXor, d_lShl, d_lShr, d_eDiv, d_eRem, d_eCmp, d_eI2B, d_eI2S, d_eL2I, d_lI2L, d_lInt, d_lLdc, d_lLoc, d_eIte, d_lIte, d_eMax, d_eMin, d_eAbs, d_eAbove, d_eBodies, d_cQ, d_cZ, d_cNot, d_cAnd, d_cOr, d_gNil, d_gI, d_gL, d_gR, d_gD, d_xV, d_xS, d_xN, d_xT, d_eCall, d_lCall, d_eCallC, d_sNop, d_sSet, d_sSetL, d_sSetR, d_sSetQ, d_sInc, d_sPutI, d_sPutZ, d_sPutL, d_sPutA, d_sPutAZ, d_sPutAB, d_sPutAL, d_sPutD, d_sOpF, d_sOpA, d_sCall, d_sCopy, d_sSeq, d_sIf, d_sBrk, d_sCnt, d_sRetV, d_sRet, d_sRetL, d_sLp, d_tDef, d_tCase, d_sSw, d_sSwB, bIt_d, itb_0, itb_1, itb_2, itb_r, its_0, sqk_0, sqk_1, sqk_2, sqk_r, swk_0, swk_1, swk_r, bfin_r, bfin_ite, Option.bind_some, Option.map_some, Option.bind_none, Option.map_none, bind_ite, map_ite, cop0, cop1, cop2, cop3, cop4, cop5, opv0, opv1, opv2, opv3, brc_i, brc_z, two_ne_one, false_or, getI, getR, getL, List.getElem?_cons_zero, List.getElem?_cons_succ, List.set_cons_zero, List.set_cons_succ, bnl, if_true, if_false, true_or, or_true, decide_eq_true_eq, Bool.not_eq_true', decide_eq_false_iff_not, Bool.not_true, Bool.not_false, Bool.true_eq_false, Bool.false_eq_true, ite_not, reduceIte, ite01_0, ite01_1, Decidable.not_not, ne_eq, not_true_eq_false, not_false_eq_true, Function.comp_apply, decide_not, Bool.not_not, Bool.not_eq_false', dc_t, dc_f, and_self, true_and, and_true, and_false, false_and, tnc]
      · generalize ((k : Nat) : Int) = kI at *
        simp only [L_Night_begin_1b, f2, tk, b44, f4, b6, f5, d_rLoc1, d_rLoc2, d_rFld1, d_rFld2, d_eInt, d_eLdc, d_eLdw, d_eLoc, d_eFld, d_lFld, d_eAI, d_eAZ, d_eAB, d_lAL, d_eAD, d_eLen, d_eAdd, d_eSub, d_eMul, d_eAnd, d_eOr, d_eXor, d_eShl, d_eShr, d_eUsh, d_lAdd, d_lSub, d_lMul, d_lAnd, d_lOr, d_lXor, d_lShl, d_lShr, d_eDiv, d_eRem, d_eCmp, d_eI2B, d_eI2S, d_eL2I, d_lI2L, d_lInt, d_lLdc, d_lLoc, d_eIte, d_lIte, d_eMax, d_eMin, d_eAbs, d_eAbove, d_eBodies, d_cQ, d_cZ, d_cNot, d_cAnd, d_cOr, d_gNil, d_gI, d_gL, d_gR, d_gD, d_xV, d_xS, d_xN, d_xT, d_eCall, d_lCall, d_eCallC, d_sNop, d_sSet, d_sSetL, d_sSetR, d_sSetQ, d_sInc, d_sPutI, d_sPutZ, d_sPutL, d_sPutA, d_sPutAZ, d_sPutAB, d_sPutAL, d_sPutD, d_sOpF, d_sOpA, d_sCall, d_sCopy, d_sSeq, d_sIf, d_sBrk, d_sCnt, d_sRetV, d_sRet, d_sRetL, d_sLp, d_tDef, d_tCase, d_sSw, d_sSwB, bIt_d, itb_0, itb_1, itb_2, itb_r, its_0, sqk_0, sqk_1, sqk_2, sqk_r, swk_0, swk_1, swk_r, bfin_r, bfin_ite, Option.bind_some, Option.map_some, Option.bind_none, Option.map_none, bind_ite, map_ite, cop0, cop1, cop2, cop3, cop4, cop5, opv0, opv1, opv2, opv3, brc_i, brc_z, two_ne_one, false_or, getI, getR, getL, List.getElem?_cons_zero, List.getElem?_cons_succ, List.set_cons_zero, List.set_cons_succ, bnl, if_true, if_false, true_or, or_true, decide_eq_true_eq, Bool.not_eq_true', decide_eq_false_iff_not, Bool.not_true, Bool.not_false, Bool.true_eq_false, Bool.false_eq_true, ite_not, reduceIte, ite01_0, ite01_1, Decidable.not_not, ne_eq, not_true_eq_false, not_false_eq_true, Function.comp_apply, decide_not, Bool.not_not, Bool.not_eq_false', dc_t, dc_f, and_self, true_and, and_true, and_false, false_and, tnc]
      · simp only [L_Night_begin_1s, f3, d_rLoc1, d_rLoc2, d_rFld1, d_rFld2, d_eInt, d_eLdc, d_eLdw, d_eLoc, d_eFld, d_lFld, d_eAI, d_eAZ, d_eAB, d_lAL, d_eAD, d_eLen, d_eAdd, d_eSub, d_eMul, d_eAnd, d_eOr, d_eXor, d_eShl, d_eShr, d_eUsh, d_lAdd, d_lSub, d_lMul, d_lAnd, d_lOr, d_lXor, d_lShl, d_lShr, d_eDiv, d_eRem, d_eCmp, d_eI2B, d_eI2S, d_eL2I, d_lI2L, d_lInt, d_lLdc, d_lLoc, d_eIte, d_lIte, d_eMax, d_eMin, d_eAbs, d_eAbove, d_eBodies, d_cQ, d_cZ, d_cNot, d_cAnd, d_cOr, d_gNil, d_gI, d_gL, d_gR, d_gD, d_xV, d_xS, d_xN, d_xT, d_eCall, d_lCall, d_eCallC, d_sNop, d_sSet, d_sSetL, d_sSetR, d_sSetQ, d_sInc, d_sPutI, d_sPutZ, d_sPutL, d_sPutA, d_sPutAZ, d_sPutAB, d_sPutAL, d_sPutD, d_sOpF, d_sOpA, d_sCall, d_sCopy, d_sSeq, d_sIf, d_sBrk, d_sCnt, d_sRetV, d_sRet, d_sRetL, d_sLp, d_tDef, d_tCase, d_sSw, d_sSwB, bIt_d, itb_0, itb_1, itb_2, itb_r, its_0, sqk_0, sqk_1, sqk_2, sqk_r, swk_0, swk_1, swk_r, bfin_r, bfin_ite, Option.bind_some, Option.map_some, Option.bind_none, Option.map_none, bind_ite, map_ite, cop0, cop1, cop2, cop3, cop4, cop5, opv0, opv1, opv2, opv3, brc_i, brc_z, two_ne_one, false_or, getI, getR, getL, List.getElem?_cons_zero, List.getElem?_cons_succ, List.set_cons_zero, List.set_cons_succ, bnl, if_true, if_false, true_or, or_true, decide_eq_true_eq, Bool.not_eq_true', decide_eq_false_iff_not, Bool.not_true, Bool.not_false, Bool.true_eq_false, Bool.false_eq_true, ite_not, reduceIte, ite01_0, ite01_1, Decidable.not_not, ne_eq, not_true_eq_false, not_false_eq_true, Function.comp_apply, decide_not, Bool.not_not, Bool.not_eq_false', dc_t, dc_f, and_self, true_and, and_true, and_false, false_and, tnc]
      · rw [bwr_if]
        by_cases q : t = k
        · rw [if_pos q, q]
        · rw [if_neg q]; exact i1 t ((lt_s_ne q).mp ht)
      · rw [bwr_ne _ _ hi]; exact i2 i hi)
    (fun m' hI => by
      have b37 : m' 37 = c 37 := by rw [hI.2 _ (by decide)]; exact hb 37 (by decide)
      have q : ¬ (T : Int) < (T : Int) := Int.lt_irrefl _
      refine bIt_ex ?_
      simp only [L_Night_begin_1c, b37, hT, q, d_rLoc1, d_rLoc2, d_rFld1, d_rFld2, d_eInt, d_eLdc, d_eLdw, d_eLoc, d_eFld, d_lFld, d_eAI, d_eAZ, d_eAB, d_lAL, d_eAD, d_eLen, d_eAdd, d_eSub, d_eMul, d_eAnd, d_eOr, d_eXor, d_eShl, d_eShr, d_eUsh, d_lAdd, d_lSub, d_lMul, d_lAnd, d_lOr, d_lXor, d_lShl, d_lShr, d_eDiv, d_eRem, d_eCmp, d_eI2B, d_eI2S, d_eL2I, d_lI2L, d_lInt, d_lLdc, d_lLoc, d_eIte, d_lIte, d_eMax, d_eMin, d_eAbs, d_eAbove, d_eBodies, d_cQ, d_cZ, d_cNot, d_cAnd, d_cOr, d_gNil, d_gI, d_gL, d_gR, d_gD, d_xV, d_xS, d_xN, d_xT, d_eCall, d_lCall, d_eCallC, d_sNop, d_sSet, d_sSetL, d_sSetR, d_sSetQ, d_sInc, d_sPutI, d_sPutZ, d_sPutL, d_sPutA, d_sPutAZ, d_sPutAB, d_sPutAL, d_sPutD, d_sOpF, d_sOpA, d_sCall, d_sCopy, d_sSeq, d_sIf, d_sBrk, d_sCnt, d_sRetV, d_sRet, d_sRetL, d_sLp, d_tDef, d_tCase, d_sSw, d_sSwB, bIt_d, itb_0, itb_1, itb_2, itb_r, its_0, sqk_0, sqk_1, sqk_2, sqk_r, swk_0, swk_1, swk_r, bfin_r, bfin_ite, Option.bind_some, Option.map_some, Option.bind_none, Option.map_none, bind_ite, map_ite, cop0, cop1, cop2, cop3, cop4, cop5, opv0, opv1, opv2, opv3, brc_i, brc_z, two_ne_one, false_or, getI, getR, getL, List.getElem?_cons_zero, List.getElem?_cons_succ, List.set_cons_zero, List.set_cons_succ, bnl, if_true, if_false, true_or, or_true, decide_eq_true_eq, Bool.not_eq_true', decide_eq_false_iff_not, Bool.not_true, Bool.not_false, Bool.true_eq_false, Bool.false_eq_true, ite_not, reduceIte, ite01_0, ite01_1, Decidable.not_not, ne_eq, not_true_eq_false, not_false_eq_true, Function.comp_apply, decide_not, Bool.not_not, Bool.not_eq_false', dc_t, dc_f, and_self, true_and, and_true, and_false, false_and, tnc])
  obtain ⟨m2, e1, j1, j2⟩ := hl
  exact ⟨m2, e1, j1, j2⟩
theorem sp_begin (n : Nat) {c r m : bM} (hV : RelV c r) (hS : RelS c r) (hF : RelF c r) (hb : bse c m) {w : Nat} {s g f : Int} (hm : m 93 14 = (w : Int)) (hs : m 93 15 = s) (hg : m 93 16 = g) (hf : m 93 17 = f) : ∃ m2, sem (n + 2) 249 [aR 93] m = some (m2, 0) ∧ NI c w s g f 0 m2 ∧ fr93 m m2 := by
  have hTs := RelF_rthings hF
  obtain ⟨T, hT⟩ : ∃ T : Nat, c 37 14 = (T : Int) := ⟨(c 37 14).toNat, by omega⟩
  have eT : nTh c = T := by unfold nTh; rw [hT]; exact tnc T
  obtain ⟨m1, s1, a1, o1⟩ := sp_fill n 94 12 0 m rfl rfl (by decide)
  obtain ⟨m2, s2, a2, o2⟩ := sp_fill n 96 12 0 m1 rfl rfl (by decide)
  obtain ⟨m3, s3, a3, o3⟩ := sp_fill n 97 12 (-3) m2 rfl rfl (by decide)
  obtain ⟨m4, s4, a4, o4⟩ := sp_fill n 98 10 (-3) m3 rfl rfl (by decide)
  obtain ⟨m5, s5, a5, o5⟩ := sp_fill n 99 16 (-3) m4 rfl rfl (by decide)
  obtain ⟨m6, hm6⟩ : ∃ m6, m6 = bcpy m5 3 95 (0 : Int).toNat (0 : Int).toNat (12 : Int).toNat := ⟨_, rfl⟩
  have o6 : ∀ i, i ≠ 95 → m6 i = m5 i := fun i hi => by rw [hm6]; exact bcpy_ne _ _ _ _ _ _ hi
  have b6 : ∀ j, j < 12 → m6 95 j = m5 3 j := fun j hj => by
    rw [hm6, bcpy_c, if_pos ⟨Nat.zero_le _, by show j < 0 + 12; omega⟩]
    show m5 3 (0 + (j - 0)) = _
    rw [Nat.zero_add, Nat.sub_zero]
  have O6 : ∀ i, i < 94 ∨ 100 ≤ i → m6 i = m i := fun i hi => by rw [o6 i (by omega), o5 i (by omega), o4 i (by omega), o3 i (by omega), o2 i (by omega), o1 i (by omega)]
  have hb6 : bse c m6 := fun i hi => by rw [O6 i (by omega)]; exact hb i hi
  obtain ⟨m7, s7, a7, o7⟩ := lp_begin (n + 1) hV hF hb6 T hT
  have w1 : m7 1 = c 1 := by rw [o7 _ (by decide)]; exact hb6 1 (by decide)
  obtain ⟨m8, hm8⟩ : ∃ m8, m8 = bwr (bwr (bwr m7 93 10 0) 93 12 (c 1 7)) 93 13 0 := ⟨_, rfl⟩
  have o8 : ∀ i, i ≠ 93 → m8 i = m7 i := fun i hi => by rw [hm8, bwr_ne _ _ hi, bwr_ne _ _ hi, bwr_ne _ _ hi]
  have p8 : ∀ x, x ≠ 10 → x ≠ 12 → x ≠ 13 → m8 93 x = m 93 x := fun x h1 h2 h3 => by rw [hm8, bwr_ne2 _ h3, bwr_ne2 _ h2, bwr_ne2 _ h1, o7 _ (by decide), O6 _ (by decide)]
  have hb8 : bse c m8 := fun i hi => by rw [o8 i (by omega), o7 i (by omega)]; exact hb6 i hi
  refine ⟨m8, ?_, ⟨hb8, ?_, ?_, ?_, ?_, ?_, fun x hx => ?_, ⟨0, ?_, by decide, fun _ _ _ => rfl⟩, fun x hx => ?_, fun x hx => ?_, fun x hx => ?_, fun h hh => ?_, fun q hq hkd => ?_, fun t ht => ?_, ?_⟩, fun i hi => ?_⟩
  · rw [st_Night_begin]
    unfold B_Night_begin
    revert s7
    generalize L_Night_begin_1 = LL
    intro s7
    have w2 : (bwr m7 93 10 0) 1 = c 1 := by rw [bwr_ne _ _ (by decide)]; exact w1
    simp only [kr_Night_begin, s1, s2, s3, s4, s5, zz1, zz2, zz3, ← hm6, s7, w2, d_rLoc1, d_rLoc2, d_rFld1, d_rFld2, d_eInt, d_eLdc, d_eLdw, d_eLoc, d_eFld, d_lFld, d_eAI, d_eAZ, d_eAB, d_lAL, d_eAD, d_eLen, d_eAdd, d_eSub, d_eMul, d_eAnd, d_eOr, d_eXor, d_eShl, d_eShr, d_eUsh, d_lAdd, d_lSub, d_lMul, d_lAnd, d_lOr, d_lXor, d_lShl, d_lShr, d_eDiv, d_eRem, d_eCmp, d_eI2B, d_eI2S, d_eL2I, d_lI2L, d_lInt, d_lLdc, d_lLoc, d_eIte, d_lIte, d_eMax, d_eMin, d_eAbs, d_eAbove, d_eBodies, d_cQ, d_cZ, d_cNot, d_cAnd, d_cOr, d_gNil, d_gI, d_gL, d_gR, d_gD, d_xV, d_xS, d_xN, d_xT, d_eCall, d_lCall, d_eCallC, d_sNop, d_sSet, d_sSetL, d_sSetR, d_sSetQ, d_sInc, d_sPutI, d_sPutZ, d_sPutL, d_sPutA, d_sPutAZ, d_sPutAB, d_sPutAL, d_sPutD, d_sOpF, d_sOpA, d_sCall, d_sCopy, d_sSeq, d_sIf, d_sBrk, d_sCnt, d_sRetV, d_sRet, d_sRetL, d_sLp, d_tDef, d_tCase, d_sSw, d_sSwB, bIt_d, itb_0, itb_1, itb_2, itb_r, its_0, sqk_0, sqk_1, sqk_2, sqk_r, swk_0, swk_1, swk_r, bfin_r, bfin_ite, Option.bind_some, Option.map_some, Option.bind_none, Option.map_none, bind_ite, map_ite, cop0, cop1, cop2, cop3, cop4, cop5, opv0, opv1, opv2, opv3, brc_i, brc_z, two_ne_one, false_or, getI, getR, getL, List.getElem?_cons_zero, List.getElem?_cons_succ, List.set_cons_zero, List.set_cons_succ, bnl, if_true, if_false, true_or, or_true, decide_eq_true_eq, Bool.not_eq_true', decide_eq_false_iff_not, Bool.not_true, Bool.not_false, Bool.true_eq_false, Bool.false_eq_true, ite_not, reduceIte, ite01_0, ite01_1, Decidable.not_not, ne_eq, not_true_eq_false, not_false_eq_true, Function.comp_apply, decide_not, Bool.not_not, Bool.not_eq_false', dc_t, dc_f, and_self, true_and, and_true, and_false, false_and, tnc]
    rw [hm8]
  · rw [p8 _ (by decide) (by decide) (by decide)]; exact hm
  · rw [p8 _ (by decide) (by decide) (by decide)]; exact hs
  · rw [p8 _ (by decide) (by decide) (by decide)]; exact hg
  · rw [p8 _ (by decide) (by decide) (by decide)]; exact hf
  · rw [hm8, bwr_ne2 _ (by decide), bwr_eq2]; rfl
  · rw [o8 _ (by decide), o7 _ (by decide), o6 _ (by decide), o5 _ (by decide), o4 _ (by decide), o3 _ (by decide), o2 _ (by decide), a1, if_pos hx]; rfl
  · rw [hm8, bwr_eq2]; rfl
  · rw [o8 _ (by decide), o7 _ (by decide), b6 x hx, o5 _ (by decide), o4 _ (by decide), o3 _ (by decide), o2 _ (by decide), o1 _ (by decide), hb 3 (by decide)]; rfl
  · rw [o8 _ (by decide), o7 _ (by decide), o6 _ (by decide), o5 _ (by decide), o4 _ (by decide), o3 _ (by decide), a2, if_pos hx]; rfl
  · rw [o8 _ (by decide), o7 _ (by decide), o6 _ (by decide), o5 _ (by decide), o4 _ (by decide), a3, if_pos hx]; rfl
  · rw [o8 _ (by decide), o7 _ (by decide), o6 _ (by decide), o5 _ (by decide), a4, if_pos hh]
    split <;> rfl
  · have : nRw c ≤ 16 := by have := RelS_rrows hS; unfold nRw; omega
    rw [o8 _ (by decide), o7 _ (by decide), o6 _ (by decide), a5, if_pos (Nat.lt_of_lt_of_le hq this)]; rfl
  · rw [o8 _ (by decide), a7 t (by rw [← eT]; exact ht)]
    rfl
  · rw [hm8, bwr_ne2 _ (by decide), bwr_ne2 _ (by decide), bwr_eq2, bst_0 (p := tFlo c (nD c w s g f) (nS c w s g f 0).2.2.2 0) (fun t _ => rfl)]
    rfl
  · rw [o8 i (by omega), o7 i (by omega)]
    exact O6 i (by omega)
