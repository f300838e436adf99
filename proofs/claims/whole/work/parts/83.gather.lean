/-! ===== gather ===== -/
def gUp (m : bM) (k : Nat) : bM := bwr (bwr m 101 11 (jand (m 101 11) (m 103 k))) 101 12 (jor (m 101 12) (m 103 k))
theorem gUp_f (m : bM) (j : Nat) (z : Int) : bwr m 101 11 z 103 j = m 103 j := by rw [bwr_ne _ _ (by decide)]
theorem gUp_s (m : bM) (z : Int) : bwr m 101 11 z 101 12 = m 101 12 := bwr_ne2 _ (by decide)
theorem ga_b1 (n : Nat) (m m2 m4 m6 : bM) (bI kI : Int) (k : Nat) (f2 : 0 ≤ kI ∧ kI < ((90 : Nat) : Int)) (tk : kI.toNat = k) (hp : (m 101 14 = 1 ∧ m2 = m ∧ m 107 k = 1) ∨ (m 101 14 = 0 ∧ sem (n + 5) 137 [aR 101, aI kI, aI bI] m = some (m2, 1))) (e2 : sem (n + 5) 257 [aR 101, aI kI] (bwr m2 107 k 1) = some (m4, 0)) (e3 : sem (n + 5) 260 [aR 101, aI kI] (gUp m4 k) = some (m6, 0)) : L_Nights_gather_1b.1.2 (sem (n + 5)) [some (aR 101), some (aI bI), some (aI kI)] m = some (.inl (0, [some (aR 101), some (aI bI), some (aI kI)], m6)) := by
  unfold gUp at e3
  rcases hp with ⟨h0, h1, h2⟩ | ⟨h0, h1⟩
  · subst h1
    simp only [L_Nights_gather_1b, f2, tk, h0, h2, bwr_eq2, e2, gUp_f, gUp_s, e3, d_rLoc1, d_rLoc2, d_rFld1, d_rFld2, d_eInt, d_eLdc, d_eLdw, d_eLoc, d_eFld, d_lFld, d_eAI, d_eAZ, d_eAB, d_lAL, d_eAD, d_eLen, d_eAdd, d_eSub, d_eMul, d_eAnd, d_eOr, d_eXor, d_eShl, d_eShr, d_eUsh, d_lAdd, d_lSub, d_lMul, d_lAnd, d_lOr, d_lXor, d_lShl, d_lShr, d_eDiv, d_eRem, d_eCmp, d_eI2B, d_eI2S, d_eL2I, d_lI2L, d_lInt, d_lLdc, d_lLoc, d_eIte, d_lIte, d_eMax, d_eMin, d_eAbs, d_eAbove, d_eBodies, d_cQ, d_cZ, d_cNot, d_cAnd, d_cOr, d_gNil, d_gI, d_gL, d_gR, d_gD, d_xV, d_xS, d_xN, d_xT, d_eCall, d_lCall, d_eCallC, d_sNop, d_sSet, d_sSetL, d_sSetR, d_sSetQ, d_sInc, d_sPutI, d_sPutZ, d_sPutL, d_sPutA, d_sPutAZ, d_sPutAB, d_sPutAL, d_sPutD, d_sOpF, d_sOpA, d_sCall, d_sCopy, d_sSeq, d_sIf, d_sBrk, d_sCnt, d_sRetV, d_sRet, d_sRetL, d_sLp, d_tDef, d_tCase, d_sSw, d_sSwB, bIt_d, itb_0, itb_1, itb_2, itb_r, its_0, sqk_0, sqk_1, sqk_2, sqk_r, swk_0, swk_1, swk_r, bfin_r, bfin_ite, Option.bind_some, Option.map_some, Option.bind_none, Option.map_none, bind_ite, map_ite, cop0, cop1, cop2, cop3, cop4, cop5, opv0, opv1, opv2, opv3, brc_i, brc_z, two_ne_one, false_or, getI, getR, getL, List.getElem?_cons_zero, List.getElem?_cons_succ, List.set_cons_zero, List.set_cons_succ, bnl, if_true, if_false, true_or, or_true, decide_eq_true_eq, Bool.not_eq_true', decide_eq_false_iff_not, Bool.not_true, Bool.not_false, Bool.true_eq_false, Bool.false_eq_true, ite_not, reduceIte, ite01_0, ite01_1, Decidable.not_not, ne_eq, not_true_eq_false, not_false_eq_true, Function.comp_apply, decide_not, Bool.not_not, Bool.not_eq_false', dc_t, dc_f, and_self, true_and, and_true, and_false, false_and, tnc, Int.reduceLT, Int.reduceLE, Int.reduceEq, Int.reduceAdd, Int.reduceSub, Int.reduceMul, Int.reduceToNat, Int.reduceNeg, Int.reduceNe]
  · simp only [L_Nights_gather_1b, f2, tk, h0, h1, bwr_eq2, e2, gUp_f, gUp_s, e3, d_rLoc1, d_rLoc2, d_rFld1, d_rFld2, d_eInt, d_eLdc, d_eLdw, d_eLoc, d_eFld, d_lFld, d_eAI, d_eAZ, d_eAB, d_lAL, d_eAD, d_eLen, d_eAdd, d_eSub, d_eMul, d_eAnd, d_eOr, d_eXor, d_eShl, d_eShr, d_eUsh, d_lAdd, d_lSub, d_lMul, d_lAnd, d_lOr, d_lXor, d_lShl, d_lShr, d_eDiv, d_eRem, d_eCmp, d_eI2B, d_eI2S, d_eL2I, d_lI2L, d_lInt, d_lLdc, d_lLoc, d_eIte, d_lIte, d_eMax, d_eMin, d_eAbs, d_eAbove, d_eBodies, d_cQ, d_cZ, d_cNot, d_cAnd, d_cOr, d_gNil, d_gI, d_gL, d_gR, d_gD, d_xV, d_xS, d_xN, d_xT, d_eCall, d_lCall, d_eCallC, d_sNop, d_sSet, d_sSetL, d_sSetR, d_sSetQ, d_sInc, d_sPutI, d_sPutZ, d_sPutL, d_sPutA, d_sPutAZ, d_sPutAB, d_sPutAL, d_sPutD, d_sOpF, d_sOpA, d_sCall, d_sCopy, d_sSeq, d_sIf, d_sBrk, d_sCnt, d_sRetV, d_sRet, d_sRetL, d_sLp, d_tDef, d_tCase, d_sSw, d_sSwB, bIt_d, itb_0, itb_1, itb_2, itb_r, its_0, sqk_0, sqk_1, sqk_2, sqk_r, swk_0, swk_1, swk_r, bfin_r, bfin_ite, Option.bind_some, Option.map_some, Option.bind_none, Option.map_none, bind_ite, map_ite, cop0, cop1, cop2, cop3, cop4, cop5, opv0, opv1, opv2, opv3, brc_i, brc_z, two_ne_one, false_or, getI, getR, getL, List.getElem?_cons_zero, List.getElem?_cons_succ, List.set_cons_zero, List.set_cons_succ, bnl, if_true, if_false, true_or, or_true, decide_eq_true_eq, Bool.not_eq_true', decide_eq_false_iff_not, Bool.not_true, Bool.not_false, Bool.true_eq_false, Bool.false_eq_true, ite_not, reduceIte, ite01_0, ite01_1, Decidable.not_not, ne_eq, not_true_eq_false, not_false_eq_true, Function.comp_apply, decide_not, Bool.not_not, Bool.not_eq_false', dc_t, dc_f, and_self, true_and, and_true, and_false, false_and, tnc, Int.reduceLT, Int.reduceLE, Int.reduceEq, Int.reduceAdd, Int.reduceSub, Int.reduceMul, Int.reduceToNat, Int.reduceNeg, Int.reduceNe]
theorem ga_b0 (n : Nat) (m m2 : bM) (bI kI : Int) (k : Nat) (f2 : 0 ≤ kI ∧ kI < ((90 : Nat) : Int)) (tk : kI.toNat = k) (hp : (m 101 14 = 1 ∧ m2 = m ∧ m 107 k = 0) ∨ (m 101 14 = 0 ∧ sem (n + 5) 137 [aR 101, aI kI, aI bI] m = some (m2, 0))) : L_Nights_gather_1b.1.2 (sem (n + 5)) [some (aR 101), some (aI bI), some (aI kI)] m = some (.inl (0, [some (aR 101), some (aI bI), some (aI kI)], bwr m2 107 k 0)) := by
  rcases hp with ⟨h0, h1, h2⟩ | ⟨h0, h1⟩
  · subst h1
    simp only [L_Nights_gather_1b, f2, tk, h0, h2, bwr_eq2, d_rLoc1, d_rLoc2, d_rFld1, d_rFld2, d_eInt, d_eLdc, d_eLdw, d_eLoc, d_eFld, d_lFld, d_eAI, d_eAZ, d_eAB, d_lAL, d_eAD, d_eLen, d_eAdd, d_eSub, d_eMul, d_eAnd, d_eOr, d_eXor, d_eShl, d_eShr, d_eUsh, d_lAdd, d_lSub, d_lMul, d_lAnd, d_lOr, d_lXor, d_lShl, d_lShr, d_eDiv, d_eRem, d_eCmp, d_eI2B, d_eI2S, d_eL2I, d_lI2L, d_lInt, d_lLdc, d_lLoc, d_eIte, d_lIte, d_eMax, d_eMin, d_eAbs, d_eAbove, d_eBodies, d_cQ, d_cZ, d_cNot, d_cAnd, d_cOr, d_gNil, d_gI, d_gL, d_gR, d_gD, d_xV, d_xS, d_xN, d_xT, d_eCall, d_lCall, d_eCallC, d_sNop, d_sSet, d_sSetL, d_sSetR, d_sSetQ, d_sInc, d_sPutI, d_sPutZ, d_sPutL, d_sPutA, d_sPutAZ, d_sPutAB, d_sPutAL, d_sPutD, d_sOpF, d_sOpA, d_sCall, d_sCopy, d_sSeq, d_sIf, d_sBrk, d_sCnt, d_sRetV, d_sRet, d_sRetL, d_sLp, d_tDef, d_tCase, d_sSw, d_sSwB, bIt_d, itb_0, itb_1, itb_2, itb_r, its_0, sqk_0, sqk_1, sqk_2, sqk_r, swk_0, swk_1, swk_r, bfin_r, bfin_ite, Option.bind_some, Option.map_some, Option.bind_none, Option.map_none, bind_ite, map_ite, cop0, cop1, cop2, cop3, cop4, cop5, opv0, opv1, opv2, opv3, brc_i, brc_z, two_ne_one, false_or, getI, getR, getL, List.getElem?_cons_zero, List.getElem?_cons_succ, List.set_cons_zero, List.set_cons_succ, bnl, if_true, if_false, true_or, or_true, decide_eq_true_eq, Bool.not_eq_true', decide_eq_false_iff_not, Bool.not_true, Bool.not_false, Bool.true_eq_false, Bool.false_eq_true, ite_not, reduceIte, ite01_0, ite01_1, Decidable.not_not, ne_eq, not_true_eq_false, not_false_eq_true, Function.comp_apply, decide_not, Bool.not_not, Bool.not_eq_false', dc_t, dc_f, and_self, true_and, and_true, and_false, false_and, tnc, Int.reduceLT, Int.reduceLE, Int.reduceEq, Int.reduceAdd, Int.reduceSub, Int.reduceMul, Int.reduceToNat, Int.reduceNeg, Int.reduceNe]
  · simp only [L_Nights_gather_1b, f2, tk, h0, h1, bwr_eq2, d_rLoc1, d_rLoc2, d_rFld1, d_rFld2, d_eInt, d_eLdc, d_eLdw, d_eLoc, d_eFld, d_lFld, d_eAI, d_eAZ, d_eAB, d_lAL, d_eAD, d_eLen, d_eAdd, d_eSub, d_eMul, d_eAnd, d_eOr, d_eXor, d_eShl, d_eShr, d_eUsh, d_lAdd, d_lSub, d_lMul, d_lAnd, d_lOr, d_lXor, d_lShl, d_lShr, d_eDiv, d_eRem, d_eCmp, d_eI2B, d_eI2S, d_eL2I, d_lI2L, d_lInt, d_lLdc, d_lLoc, d_eIte, d_lIte, d_eMax, d_eMin, d_eAbs, d_eAbove, d_eBodies, d_cQ, d_cZ, d_cNot, d_cAnd, d_cOr, d_gNil, d_gI, d_gL, d_gR, d_gD, d_xV, d_xS, d_xN, d_xT, d_eCall, d_lCall, d_eCallC, d_sNop, d_sSet, d_sSetL, d_sSetR, d_sSetQ, d_sInc, d_sPutI, d_sPutZ, d_sPutL, d_sPutA, d_sPutAZ, d_sPutAB, d_sPutAL, d_sPutD, d_sOpF, d_sOpA, d_sCall, d_sCopy, d_sSeq, d_sIf, d_sBrk, d_sCnt, d_sRetV, d_sRet, d_sRetL, d_sLp, d_tDef, d_tCase, d_sSw, d_sSwB, bIt_d, itb_0, itb_1, itb_2, itb_r, its_0, sqk_0, sqk_1, sqk_2, sqk_r, swk_0, swk_1, swk_r, bfin_r, bfin_ite, Option.bind_some, Option.map_some, Option.bind_none, Option.map_none, bind_ite, map_ite, cop0, cop1, cop2, cop3, cop4, cop5, opv0, opv1, opv2, opv3, brc_i, brc_z, two_ne_one, false_or, getI, getR, getL, List.getElem?_cons_zero, List.getElem?_cons_succ, List.set_cons_zero, List.set_cons_succ, bnl, if_true, if_false, true_or, or_true, decide_eq_true_eq, Bool.not_eq_true', decide_eq_false_iff_not, Bool.not_true, Bool.not_false, Bool.true_eq_false, Bool.false_eq_true, ite_not, reduceIte, ite01_0, ite01_1, Decidable.not_not, ne_eq, not_true_eq_false, not_false_eq_true, Function.comp_apply, decide_not, Bool.not_not, Bool.not_eq_false', dc_t, dc_f, and_self, true_and, and_true, and_false, false_and, tnc, Int.reduceLT, Int.reduceLE, Int.reduceEq, Int.reduceAdd, Int.reduceSub, Int.reduceMul, Int.reduceToNat, Int.reduceNeg, Int.reduceNe]
def GI (i : Nat) (c : bM) (k : Nat) (m : bM) : Prop := (NgtC i c m) ∧ (frW c m) ∧ (m 101 14 = c 101 14) ∧ (m 101 15 = 0) ∧ (∀ q, q < k → m 107 q = if poss c q = true then 1 else 0) ∧ (m 101 11 = eI c k) ∧ (m 101 12 = (bst (eSo c k) (nHs c) : Int)) ∧ (∀ t, t < 12 → m 108 t = if t < nTh c then (bst (gcar c k t) 13 : Int) else 0)
theorem GI_ng {i : Nat} {c : bM} {k : Nat} {m : bM} (h : GI i c k m) : NgtC i c m := h.1
theorem GI_fr {i : Nat} {c : bM} {k : Nat} {m : bM} (h : GI i c k m) : frW c m := h.2.1
theorem GI_wg {i : Nat} {c : bM} {k : Nat} {m : bM} (h : GI i c k m) : m 101 14 = c 101 14 := h.2.2.1
theorem GI_gt {i : Nat} {c : bM} {k : Nat} {m : bM} (h : GI i c k m) : m 101 15 = 0 := h.2.2.2.1
theorem GI_po {i : Nat} {c : bM} {k : Nat} {m : bM} (h : GI i c k m) : ∀ q, q < k → m 107 q = if poss c q = true then 1 else 0 := h.2.2.2.2.1
theorem GI_ea {i : Nat} {c : bM} {k : Nat} {m : bM} (h : GI i c k m) : m 101 11 = eI c k := h.2.2.2.2.2.1
theorem GI_so {i : Nat} {c : bM} {k : Nat} {m : bM} (h : GI i c k m) : m 101 12 = (bst (eSo c k) (nHs c) : Int) := h.2.2.2.2.2.2.1
theorem GI_ca {i : Nat} {c : bM} {k : Nat} {m : bM} (h : GI i c k m) : ∀ t, t < 12 → m 108 t = if t < nTh c then (bst (gcar c k t) 13 : Int) else 0 := h.2.2.2.2.2.2.2
/-- the value of one night, and the memory once it is written -/
theorem ga_put (n : Nat) {i : Nat} {c m : bM} (hR : Rel c c) {k : Nat} (hk : k < 90) (h : GI i c k m) (B : Nat) (hB : B = bst (rAct c) (nRw c)) (B31 : B < 2147483648) : ∃ m2, ((m 101 14 = 1 ∧ m2 = m ∧ m 107 k = if poss c k = true then 1 else 0) ∨ (m 101 14 = 0 ∧ sem (n + 5) 137 [aR 101, aI (k : Int), aI (B : Int)] m = some (m2, if poss c k = true then 1 else 0))) ∧ NgtC i c (bwr m2 107 k (if poss c k = true then 1 else 0)) ∧ frW c (bwr m2 107 k (if poss c k = true then 1 else 0)) ∧ m2 101 = m 101 ∧ m2 108 = m 108 ∧ m2 107 = m 107 := by
  rcases NgtC_wg (GI_ng h) with w | w
  · obtain ⟨m2, e, h1, h2⟩ := sp_allLet n hR (frW_bse (fun _ _ => rfl) (GI_fr h)) (GI_ng h) k hk B B31
    rw [hB, letB_act, ← hB] at e
    refine ⟨m2, Or.inr ⟨w, e⟩, ?_, frW_trans (GI_fr h) (frW_pos _ _ h2 _ _), h2.2, h2.1 _ (by decide), h2.1 _ (by decide)⟩
    exact NgtC_w h1 (by rw [bwr_ne _ _ (by decide)]) (fun i a b => by rw [bwr_ne _ _ (by omega)]) (Or.inl (by rw [bwr_ne _ _ (by decide), h2.2]; exact w)) (Or.inl (by rw [bwr_ne _ _ (by decide), h2.2]; exact GI_gt h))
  · have e := w.2 k hk
    have s : bwr m 107 k (if poss c k = true then 1 else 0) = m := by rw [← e]; exact bwr_self m _ _
    refine ⟨m, Or.inl ⟨w.1, rfl, e⟩, by rw [s]; exact GI_ng h, by rw [s]; exact GI_fr h, rfl, rfl, rfl⟩
theorem NgtC_up {i : Nat} {c m : bM} (h : NgtC i c m) (k : Nat) (g : m 101 15 = 0) : NgtC i c (gUp m k) := by
  have n0 : ∀ i, i ≠ 101 → gUp m k i = m i := fun i hi => by unfold gUp; rw [bwr_ne _ _ hi, bwr_ne _ _ hi]
  refine NgtC_w h ?_ (fun i a b => n0 i (by omega)) ?_ (Or.inl ?_)
  · unfold gUp; rw [bwr_ne2 _ (by decide), bwr_ne2 _ (by decide)]
  · rw [n0 107 (by decide)]
    unfold gUp
    rw [bwr_ne2 _ (by decide), bwr_ne2 _ (by decide)]
    exact NgtC_wg h
  · unfold gUp; rw [bwr_ne2 _ (by decide), bwr_ne2 _ (by decide)]; exact g
theorem ga_turn (n : Nat) {i : Nat} {c m : bM} (hR : Rel c c) {k : Nat} (hk : k < 90) (h : GI i c k m) (B : Nat) (hB : B = bst (rAct c) (nRw c)) (B31 : B < 2147483648) : ∃ m', L_Nights_gather_1b.1.2 (sem (n + 5)) [some (aR 101), some (aI (B : Int)), some (aI (k : Int))] m = some (.inl (0, [some (aR 101), some (aI (B : Int)), some (aI (k : Int))], m')) ∧ GI i c (k + 1) m' := by
  have hV := Rel_v hR
  have hF := Rel_f hR
  have H10 : nHs c ≤ 10 := by have := RelV_rhouses hV; unfold nHs; omega
  obtain ⟨m2, hp, h1, h2, h3, h4, h5⟩ := ga_put n hR hk h B hB B31
  have f2 := q_f2 hk
  have po : ∀ q, q < k + 1 → bwr m2 107 k (if poss c k = true then 1 else 0) 107 q = if poss c q = true then 1 else 0 := fun q hq => by
    rw [bwr_if]
    by_cases z : q = k
    · rw [if_pos z, z]
    · rw [if_neg z, h5]
      exact GI_po h q (by omega)
  by_cases z : poss c k = true
  · rw [if_pos z] at hp h1 h2 po
    have b2 : bse c (bwr m2 107 k 1) := frW_bse (fun _ _ => rfl) h2
    obtain ⟨m4, e2, n4, k4, fr4⟩ := sp_know (n + 1) hR b2 h1 k hk
    have o4 : m4 101 = m 101 := by rw [fr4.2, bwr_ne _ _ (by decide), h3]
    have c4 : m4 108 = m 108 := by rw [fr4.1 _ (by decide), bwr_ne _ _ (by decide), h4]
    have u0 : ∀ i, i ≠ 101 → gUp m4 k i = m4 i := fun i hi => by unfold gUp; rw [bwr_ne _ _ hi, bwr_ne _ _ hi]
    have fr5 : frW c (gUp m4 k) := frW_trans (frW_trans h2 (frN_W fr4)) ⟨fun i hi => u0 i (by omega), by unfold gUp; rw [bwr_ne2 _ (by decide), bwr_ne2 _ (by decide)]⟩
    have n5 := NgtC_up n4 k (by rw [o4]; exact GI_gt h)
    have k5 : Known c (gUp m4 k) k := Known_congr k4 (agV_refl c) (agK_refl c) (agT_refl c) (fun i a b => u0 i (by omega))
    obtain ⟨m6, e3, o6, ca⟩ := sp_gatherThings (n + 4) hV hF (frW_bse (fun _ _ => rfl) fr5) k hk k5 z (fun t ht => by rw [u0 _ (by decide), c4]; exact GI_ca h t ht)
    have fl := Known_fallen k4
    have g6 : m6 101 = gUp m4 k 101 := o6 _ (by decide)
    refine ⟨m6, ga_b1 n m m2 m4 m6 _ _ k f2 (tnc k) hp e2 e3, ?_, ?_, ?_, ?_, ?_, ?_, ?_, ca⟩
    · refine NgtC_w n5 (by rw [g6]) (fun i a b => o6 i (by omega)) ?_ ?_
      · rw [g6, o6 107 (by decide)]; exact NgtC_wg n5
      · left
        rw [g6]
        unfold gUp; rw [bwr_ne2 _ (by decide), bwr_ne2 _ (by decide), o4]; exact GI_gt h
    · exact frW_trans fr5 ⟨fun i hi => o6 i (by omega), by rw [g6]⟩
    · rw [g6]
      unfold gUp; rw [bwr_ne2 _ (by decide), bwr_ne2 _ (by decide), o4]; exact GI_wg h
    · rw [g6]
      unfold gUp; rw [bwr_ne2 _ (by decide), bwr_ne2 _ (by decide), o4]; exact GI_gt h
    · intro q hq
      rw [o6 _ (by decide), u0 _ (by decide), fr4.1 _ (by decide)]
      exact po q hq
    · rw [g6]
      unfold gUp; rw [bwr_ne2 _ (by decide), bwr_eq2, fl, o4, GI_ea h]
      exact eI_s H10 z
    · rw [g6]
      unfold gUp; rw [bwr_eq2, fl, o4, GI_so h]
      exact eSo_s H10 z
  · rw [if_neg z] at hp h1 h2 po
    refine ⟨bwr m2 107 k 0, ga_b0 n m m2 _ _ k f2 (tnc k) hp, h1, h2, ?_, ?_, po, ?_, ?_, fun t ht => ?_⟩
    · rw [bwr_ne _ _ (by decide), h3]; exact GI_wg h
    · rw [bwr_ne _ _ (by decide), h3]; exact GI_gt h
    · rw [bwr_ne _ _ (by decide), h3, eI_n z]; exact GI_ea h
    · rw [bwr_ne _ _ (by decide), h3, eSo_n z]; exact GI_so h
    · rw [bwr_ne _ _ (by decide), h4, gcar_n z]; exact GI_ca h t ht
theorem sp_gather (n : Nat) {i : Nat} {m : bM} (hR : Rel m m) (hN : NgtC i m m) : ∃ m2, sem (n + 6) 144 [aR 101] m = some (m2, 0) ∧ NgtC i m m2 ∧ frW m m2 ∧ m2 101 15 = 1 := by
  rcases NgtC_gt hN with h0 | h0
  · have hS := Rel_s hR
    have H10 : nHs m ≤ 10 := by have := RelV_rhouses (Rel_v hR); unfold nHs; omega
    have R31 : nRw m ≤ 31 := by have := RelS_rrows hS; unfold nRw; omega
    have sp := sp_speaking (n + 3) hS
    obtain ⟨B, hB⟩ : ∃ B, B = bst (rAct m) (nRw m) := ⟨_, rfl⟩
    have B31 : B < 2147483648 := by rw [hB]; exact bst_lt31 _ R31
    rw [← hB] at sp
    obtain ⟨ma, ea, aa, oa⟩ := sp_fill (n + 4) 108 12 0 m rfl rfl (by decide)
    obtain ⟨mb, hmb⟩ : ∃ mb, mb = bwr (bwr ma 101 12 0) 101 11 (-1) := ⟨_, rfl⟩
    have ob : ∀ i, i ≠ 101 → i ≠ 108 → mb i = m i := fun i p q => by rw [hmb, bwr_ne _ _ p, bwr_ne _ _ p, oa i q]
    have g0 : GI i m 0 mb := by
      have w1 : mb 101 14 = m 101 14 := by rw [hmb, bwr_ne2 _ (by decide), bwr_ne2 _ (by decide), oa _ (by decide)]
      have w2 : mb 101 15 = 0 := by rw [hmb, bwr_ne2 _ (by decide), bwr_ne2 _ (by decide), oa _ (by decide)]; exact h0
      have w3 : mb 101 13 = m 101 13 := by rw [hmb, bwr_ne2 _ (by decide), bwr_ne2 _ (by decide), oa _ (by decide)]
      refine ⟨NgtC_w hN w3 (fun i a b => ob i (by omega) (by omega)) ?_ (Or.inl w2), ⟨fun i hi => ob i (by omega) (by omega), w3⟩, w1, w2, fun q hq => absurd hq (Nat.not_lt_zero _), ?_, ?_, fun t ht => ?_⟩
      · rw [w1, ob 107 (by decide) (by decide)]; exact NgtC_wg hN
      · rw [hmb, bwr_eq2]; rfl
      · rw [hmb, bwr_ne2 _ (by decide), bwr_eq2]
        rw [bst_0 (p := eSo m 0) (fun k _ => rfl)]; rfl
      · rw [hmb, bwr_ne _ _ (by decide), bwr_ne _ _ (by decide), aa t, if_pos ht]
        rw [bst_0 (p := gcar m 0 t) (fun k _ => rfl)]
        split <;> rfl
    have e2 : ∃ m2, L_Nights_gather_1.1.2 (sem (n + 5)) [some (aR 101), some (aI (B : Int)), some (aI 0)] mb = some (.inl (0, [some (aR 101), some (aI (B : Int)), some (aI ((90 : Nat) : Int))], m2)) ∧ GI i m 90 m2 := by
      unfold L_Nights_gather_1
      rw [d_sLp]
      refine lp_m (fun k => [some (aR 101), some (aI (B : Int)), some (aI (k : Int))]) (fun k m' => GI i m k m') 90 (by decide) g0 (fun k m1 hk h1 => ?_) (fun m1 _ => ?_)
      · obtain ⟨m2, e, g⟩ := ga_turn n hR hk h1 B hB B31
        have f1 : (k : Int) < 90 := by omega
        have y0 : k < 2147483647 := by omega
        have f3 := i32_s y0
        refine ⟨m2, bIt_go (m1 := m1) ?_ e ?_, g⟩
        · simp only [L_Nights_gather_1c, f1, d_rLoc1, d_rLoc2, d_rFld1, d_rFld2, d_eInt, d_eLdc, d_eLdw, d_eLoc, d_eFld, d_lFld, d_eAI, d_eAZ, d_eAB, d_lAL, d_eAD, d_eLen, d_eAdd, d_eSub, d_eMul, d_eAnd, d_eOr, d_eXor, d_eShl, d_eShr, d_eUsh, d_lAdd, d_lSub, d_lMul, d_lAnd, d_lOr, d_lXor, d_lShl, d_lShr, d_eDiv, d_eRem, d_eCmp, d_eI2B, d_eI2S, d_eL2I, d_lI2L, d_lInt, d_lLdc, d_lLoc, d_eIte, d_lIte, d_eMax, d_eMin, d_eAbs, d_eAbove, d_eBodies, d_cQ, d_cZ, d_cNot, d_cAnd, d_cOr, d_gNil, d_gI, d_gL, d_gR, d_gD, d_xV, d_xS, d_xN, d_xT, d_eCall, d_lCall, d_eCallC, d_sNop, d_sSet, d_sSetL, d_sSetR, d_sSetQ, d_sInc, d_sPutI, d_sPutZ, d_sPutL, d_sPutA, d_sPutAZ, d_sPutAB, d_sPutAL, d_sPutD, d_sOpF, d_sOpA, d_sCall, d_sCopy, d_sSeq, d_sIf, d_sBrk, d_sCnt, d_sRetV, d_sRet, d_sRetL, d_sLp, d_tDef, d_tCase, d_sSw, d_sSwB, bIt_d, itb_0, itb_1, itb_2, itb_r, its_0, sqk_0, sqk_1, sqk_2, sqk_r, swk_0, swk_1, swk_r, bfin_r, bfin_ite, Option.bind_some, Option.map_some, Option.bind_none, Option.map_none, bind_ite, map_ite, cop0, cop1, cop2, cop3, cop4, cop5, opv0, opv1, opv2, opv3, brc_i, brc_z, two_ne_one, false_or, getI, getR, getL, List.getElem?_cons_zero, List.getElem?_cons_succ, List.set_cons_zero, List.set_cons_succ, bnl, if_true, if_false, true_or, or_true, decide_eq_true_eq, Bool.not_eq_true', decide_eq_false_iff_not, Bool.not_true, Bool.not_false, Bool.true_eq_false, Bool.false_eq_true, ite_not, reduceIte, ite01_0, ite01_1, Decidable.not_not, ne_eq, not_true_eq_false, not_false_eq_true, Function.comp_apply, decide_not, Bool.not_not, Bool.not_eq_false', dc_t, dc_f, and_self, true_and, and_true, and_false, false_and, tnc]
        · simp only [L_Nights_gather_1s, f3, d_rLoc1, d_rLoc2, d_rFld1, d_rFld2, d_eInt, d_eLdc, d_eLdw, d_eLoc, d_eFld, d_lFld, d_eAI, d_eAZ, d_eAB, d_lAL, d_eAD, d_eLen, d_eAdd, d_eSub, d_eMul, d_eAnd, d_eOr, d_eXor, d_eShl, d_eShr, d_eUsh, d_lAdd, d_lSub, d_lMul, d_lAnd, d_lOr, d_lXor, d_lShl, d_lShr, d_eDiv, d_eRem, d_eCmp, d_eI2B, d_eI2S, d_eL2I, d_lI2L, d_lInt, d_lLdc, d_lLoc, d_eIte, d_lIte, d_eMax, d_eMin, d_eAbs, d_eAbove, d_eBodies, d_cQ, d_cZ, d_cNot, d_cAnd, d_cOr, d_gNil, d_gI, d_gL, d_gR, d_gD, d_xV, d_xS, d_xN, d_xT, d_eCall, d_lCall, d_eCallC, d_sNop, d_sSet, d_sSetL, d_sSetR, d_sSetQ, d_sInc, d_sPutI, d_sPutZ, d_sPutL, d_sPutA, d_sPutAZ, d_sPutAB, d_sPutAL, d_sPutD, d_sOpF, d_sOpA, d_sCall, d_sCopy, d_sSeq, d_sIf, d_sBrk, d_sCnt, d_sRetV, d_sRet, d_sRetL, d_sLp, d_tDef, d_tCase, d_sSw, d_sSwB, bIt_d, itb_0, itb_1, itb_2, itb_r, its_0, sqk_0, sqk_1, sqk_2, sqk_r, swk_0, swk_1, swk_r, bfin_r, bfin_ite, Option.bind_some, Option.map_some, Option.bind_none, Option.map_none, bind_ite, map_ite, cop0, cop1, cop2, cop3, cop4, cop5, opv0, opv1, opv2, opv3, brc_i, brc_z, two_ne_one, false_or, getI, getR, getL, List.getElem?_cons_zero, List.getElem?_cons_succ, List.set_cons_zero, List.set_cons_succ, bnl, if_true, if_false, true_or, or_true, decide_eq_true_eq, Bool.not_eq_true', decide_eq_false_iff_not, Bool.not_true, Bool.not_false, Bool.true_eq_false, Bool.false_eq_true, ite_not, reduceIte, ite01_0, ite01_1, Decidable.not_not, ne_eq, not_true_eq_false, not_false_eq_true, Function.comp_apply, decide_not, Bool.not_not, Bool.not_eq_false', dc_t, dc_f, and_self, true_and, and_true, and_false, false_and, tnc]
      · have q : ¬ ((90 : Nat) : Int) < 90 := by decide
        refine bIt_ex ?_
        simp only [L_Nights_gather_1c, q, d_rLoc1, d_rLoc2, d_rFld1, d_rFld2, d_eInt, d_eLdc, d_eLdw, d_eLoc, d_eFld, d_lFld, d_eAI, d_eAZ, d_eAB, d_lAL, d_eAD, d_eLen, d_eAdd, d_eSub, d_eMul, d_eAnd, d_eOr, d_eXor, d_eShl, d_eShr, d_eUsh, d_lAdd, d_lSub, d_lMul, d_lAnd, d_lOr, d_lXor, d_lShl, d_lShr, d_eDiv, d_eRem, d_eCmp, d_eI2B, d_eI2S, d_eL2I, d_lI2L, d_lInt, d_lLdc, d_lLoc, d_eIte, d_lIte, d_eMax, d_eMin, d_eAbs, d_eAbove, d_eBodies, d_cQ, d_cZ, d_cNot, d_cAnd, d_cOr, d_gNil, d_gI, d_gL, d_gR, d_gD, d_xV, d_xS, d_xN, d_xT, d_eCall, d_lCall, d_eCallC, d_sNop, d_sSet, d_sSetL, d_sSetR, d_sSetQ, d_sInc, d_sPutI, d_sPutZ, d_sPutL, d_sPutA, d_sPutAZ, d_sPutAB, d_sPutAL, d_sPutD, d_sOpF, d_sOpA, d_sCall, d_sCopy, d_sSeq, d_sIf, d_sBrk, d_sCnt, d_sRetV, d_sRet, d_sRetL, d_sLp, d_tDef, d_tCase, d_sSw, d_sSwB, bIt_d, itb_0, itb_1, itb_2, itb_r, its_0, sqk_0, sqk_1, sqk_2, sqk_r, swk_0, swk_1, swk_r, bfin_r, bfin_ite, Option.bind_some, Option.map_some, Option.bind_none, Option.map_none, bind_ite, map_ite, cop0, cop1, cop2, cop3, cop4, cop5, opv0, opv1, opv2, opv3, brc_i, brc_z, two_ne_one, false_or, getI, getR, getL, List.getElem?_cons_zero, List.getElem?_cons_succ, List.set_cons_zero, List.set_cons_succ, bnl, if_true, if_false, true_or, or_true, decide_eq_true_eq, Bool.not_eq_true', decide_eq_false_iff_not, Bool.not_true, Bool.not_false, Bool.true_eq_false, Bool.false_eq_true, ite_not, reduceIte, ite01_0, ite01_1, Decidable.not_not, ne_eq, not_true_eq_false, not_false_eq_true, Function.comp_apply, decide_not, Bool.not_not, Bool.not_eq_false', dc_t, dc_f, and_self, true_and, and_true, and_false, false_and, tnc]
    obtain ⟨m2, e2, g⟩ := e2
    obtain ⟨m3, hm3⟩ : ∃ m3, m3 = bwr (bwr (bwr m2 101 11 (jand (m2 101 11) (m2 101 12))) 101 14 1) 101 15 1 := ⟨_, rfl⟩
    have o3 : ∀ i, i ≠ 101 → m3 i = m2 i := fun i p => by rw [hm3, bwr_ne _ _ p, bwr_ne _ _ p, bwr_ne _ _ p]
    have w3 : m3 101 13 = m2 101 13 := by rw [hm3, bwr_ne2 _ (by decide), bwr_ne2 _ (by decide), bwr_ne2 _ (by decide)]
    have w4 : m3 101 14 = 1 := by rw [hm3, bwr_ne2 _ (by decide), bwr_eq2]
    have w5 : m3 101 15 = 1 := by rw [hm3, bwr_eq2]
    refine ⟨m3, ?_, NgtC_w (GI_ng g) w3 (fun i a b => o3 i (by omega)) (Or.inr ⟨w4, fun q hq => by rw [o3 _ (by decide)]; exact GI_po g q hq⟩) (Or.inr ⟨w5, w4, ?_, ?_, fun t ht => ?_⟩), frW_trans (GI_fr g) ⟨fun i hi => o3 i (by omega), w3⟩, w5⟩
    · rw [hm3, st_Nights_gather]
      rw [hmb] at e2
      unfold B_Nights_gather
      revert e2
      generalize L_Nights_gather_1 = LL
      intro e2
      simp only [kr_Nights_gather, h0, sp, ea, e2, d_rLoc1, d_rLoc2, d_rFld1, d_rFld2, d_eInt, d_eLdc, d_eLdw, d_eLoc, d_eFld, d_lFld, d_eAI, d_eAZ, d_eAB, d_lAL, d_eAD, d_eLen, d_eAdd, d_eSub, d_eMul, d_eAnd, d_eOr, d_eXor, d_eShl, d_eShr, d_eUsh, d_lAdd, d_lSub, d_lMul, d_lAnd, d_lOr, d_lXor, d_lShl, d_lShr, d_eDiv, d_eRem, d_eCmp, d_eI2B, d_eI2S, d_eL2I, d_lI2L, d_lInt, d_lLdc, d_lLoc, d_eIte, d_lIte, d_eMax, d_eMin, d_eAbs, d_eAbove, d_eBodies, d_cQ, d_cZ, d_cNot, d_cAnd, d_cOr, d_gNil, d_gI, d_gL, d_gR, d_gD, d_xV, d_xS, d_xN, d_xT, d_eCall, d_lCall, d_eCallC, d_sNop, d_sSet, d_sSetL, d_sSetR, d_sSetQ, d_sInc, d_sPutI, d_sPutZ, d_sPutL, d_sPutA, d_sPutAZ, d_sPutAB, d_sPutAL, d_sPutD, d_sOpF, d_sOpA, d_sCall, d_sCopy, d_sSeq, d_sIf, d_sBrk, d_sCnt, d_sRetV, d_sRet, d_sRetL, d_sLp, d_tDef, d_tCase, d_sSw, d_sSwB, bIt_d, itb_0, itb_1, itb_2, itb_r, its_0, sqk_0, sqk_1, sqk_2, sqk_r, swk_0, swk_1, swk_r, bfin_r, bfin_ite, Option.bind_some, Option.map_some, Option.bind_none, Option.map_none, bind_ite, map_ite, cop0, cop1, cop2, cop3, cop4, cop5, opv0, opv1, opv2, opv3, brc_i, brc_z, two_ne_one, false_or, getI, getR, getL, List.getElem?_cons_zero, List.getElem?_cons_succ, List.set_cons_zero, List.set_cons_succ, bnl, if_true, if_false, true_or, or_true, decide_eq_true_eq, Bool.not_eq_true', decide_eq_false_iff_not, Bool.not_true, Bool.not_false, Bool.true_eq_false, Bool.false_eq_true, ite_not, reduceIte, ite01_0, ite01_1, Decidable.not_not, ne_eq, not_true_eq_false, not_false_eq_true, Function.comp_apply, decide_not, Bool.not_not, Bool.not_eq_false', dc_t, dc_f, and_self, true_and, and_true, and_false, false_and, tnc, Int.reduceLT, Int.reduceLE, Int.reduceEq, Int.reduceAdd, Int.reduceSub, Int.reduceMul, Int.reduceToNat, Int.reduceNeg, Int.reduceNe]
    · rw [hm3, bwr_ne2 _ (by decide), bwr_ne2 _ (by decide), bwr_eq2, GI_ea g, GI_so g]
      exact eI_end H10
    · rw [hm3, bwr_ne2 _ (by decide), bwr_ne2 _ (by decide), bwr_ne2 _ (by decide)]
      exact GI_so g
    · rw [o3 _ (by decide)]
      exact GI_ca g t ht
  · refine ⟨m, ?_, hN, frW_refl m, h0.1⟩
    have h1 := h0.1
    rw [st_Nights_gather]
    simp only [B_Nights_gather, kr_Nights_gather, h1, d_rLoc1, d_rLoc2, d_rFld1, d_rFld2, d_eInt, d_eLdc, d_eLdw, d_eLoc, d_eFld, d_lFld, d_eAI, d_eAZ, d_eAB, d_lAL, d_eAD, d_eLen, d_eAdd, d_eSub, d_eMul, d_eAnd, d_eOr, d_eXor, d_eShl, d_eShr, d_eUsh, d_lAdd, d_lSub, d_lMul, d_lAnd, d_lOr, d_lXor, d_lShl, d_lShr, d_eDiv, d_eRem, d_eCmp, d_eI2B, d_eI2S, d_eL2I, d_lI2L, d_lInt, d_lLdc, d_lLoc, d_eIte, d_lIte, d_eMax, d_eMin, d_eAbs, d_eAbove, d_eBodies, d_cQ, d_cZ, d_cNot, d_cAnd, d_cOr, d_gNil, d_gI, d_gL, d_gR, d_gD, d_xV, d_xS, d_xN, d_xT, d_eCall, d_lCall, d_eCallC, d_sNop, d_sSet, d_sSetL, d_sSetR, d_sSetQ, d_sInc, d_sPutI, d_sPutZ, d_sPutL, d_sPutA, d_sPutAZ, d_sPutAB, d_sPutAL, d_sPutD, d_sOpF, d_sOpA, d_sCall, d_sCopy, d_sSeq, d_sIf, d_sBrk, d_sCnt, d_sRetV, d_sRet, d_sRetL, d_sLp, d_tDef, d_tCase, d_sSw, d_sSwB, bIt_d, itb_0, itb_1, itb_2, itb_r, its_0, sqk_0, sqk_1, sqk_2, sqk_r, swk_0, swk_1, swk_r, bfin_r, bfin_ite, Option.bind_some, Option.map_some, Option.bind_none, Option.map_none, bind_ite, map_ite, cop0, cop1, cop2, cop3, cop4, cop5, opv0, opv1, opv2, opv3, brc_i, brc_z, two_ne_one, false_or, getI, getR, getL, List.getElem?_cons_zero, List.getElem?_cons_succ, List.set_cons_zero, List.set_cons_succ, bnl, if_true, if_false, true_or, or_true, decide_eq_true_eq, Bool.not_eq_true', decide_eq_false_iff_not, Bool.not_true, Bool.not_false, Bool.true_eq_false, Bool.false_eq_true, ite_not, reduceIte, ite01_0, ite01_1, Decidable.not_not, ne_eq, not_true_eq_false, not_false_eq_true, Function.comp_apply, decide_not, Bool.not_not, Bool.not_eq_false', dc_t, dc_f, and_self, true_and, and_true, and_false, false_and, tnc, Int.reduceLT, Int.reduceLE, Int.reduceEq, Int.reduceAdd, Int.reduceSub, Int.reduceMul, Int.reduceToNat, Int.reduceNeg, Int.reduceNe]
/-! what was gathered is asked for -/
theorem sp_fallsInEach (n h : Nat) {c m : bM} {i : Nat} (hN : NgtC i c m) (hg : m 101 15 = 1) (h10 : nHs c ≤ 10) (hh : h < nHs c) : sem (n + 1) 145 [aR 101, aI (h : Int)] m = some (m, if pEach c h = true then 1 else 0) := by
  rcases NgtC_gt hN with g | ⟨_, _, e1, e2, e3⟩
  · rw [g] at hg; cases hg
  · have j := jbst (pEach c) (n := nHs c) (by omega) hh
    rw [st_Nights_fallsInEach]
    by_cases z : pEach c h = true
    · rw [if_pos z] at j ⊢
      simp only [B_Nights_fallsInEach, kr_Nights_fallsInEach, e1, j, d_rLoc1, d_rLoc2, d_rFld1, d_rFld2, d_eInt, d_eLdc, d_eLdw, d_eLoc, d_eFld, d_lFld, d_eAI, d_eAZ, d_eAB, d_lAL, d_eAD, d_eLen, d_eAdd, d_eSub, d_eMul, d_eAnd, d_eOr, d_eXor, d_eShl, d_eShr, d_eUsh, d_lAdd, d_lSub, d_lMul, d_lAnd, d_lOr, d_lXor, d_lShl, d_lShr, d_eDiv, d_eRem, d_eCmp, d_eI2B, d_eI2S, d_eL2I, d_lI2L, d_lInt, d_lLdc, d_lLoc, d_eIte, d_lIte, d_eMax, d_eMin, d_eAbs, d_eAbove, d_eBodies, d_cQ, d_cZ, d_cNot, d_cAnd, d_cOr, d_gNil, d_gI, d_gL, d_gR, d_gD, d_xV, d_xS, d_xN, d_xT, d_eCall, d_lCall, d_eCallC, d_sNop, d_sSet, d_sSetL, d_sSetR, d_sSetQ, d_sInc, d_sPutI, d_sPutZ, d_sPutL, d_sPutA, d_sPutAZ, d_sPutAB, d_sPutAL, d_sPutD, d_sOpF, d_sOpA, d_sCall, d_sCopy, d_sSeq, d_sIf, d_sBrk, d_sCnt, d_sRetV, d_sRet, d_sRetL, d_sLp, d_tDef, d_tCase, d_sSw, d_sSwB, bIt_d, itb_0, itb_1, itb_2, itb_r, its_0, sqk_0, sqk_1, sqk_2, sqk_r, swk_0, swk_1, swk_r, bfin_r, bfin_ite, Option.bind_some, Option.map_some, Option.bind_none, Option.map_none, bind_ite, map_ite, cop0, cop1, cop2, cop3, cop4, cop5, opv0, opv1, opv2, opv3, brc_i, brc_z, two_ne_one, false_or, getI, getR, getL, List.getElem?_cons_zero, List.getElem?_cons_succ, List.set_cons_zero, List.set_cons_succ, bnl, if_true, if_false, true_or, or_true, decide_eq_true_eq, Bool.not_eq_true', decide_eq_false_iff_not, Bool.not_true, Bool.not_false, Bool.true_eq_false, Bool.false_eq_true, ite_not, reduceIte, ite01_0, ite01_1, Decidable.not_not, ne_eq, not_true_eq_false, not_false_eq_true, Function.comp_apply, decide_not, Bool.not_not, Bool.not_eq_false', dc_t, dc_f, and_self, true_and, and_true, and_false, false_and, tnc, Int.reduceLT, Int.reduceLE, Int.reduceEq, Int.reduceAdd, Int.reduceSub, Int.reduceMul, Int.reduceToNat, Int.reduceNeg, Int.reduceNe]
    · rw [if_neg z] at j ⊢
      simp only [B_Nights_fallsInEach, kr_Nights_fallsInEach, e1, j, d_rLoc1, d_rLoc2, d_rFld1, d_rFld2, d_eInt, d_eLdc, d_eLdw, d_eLoc, d_eFld, d_lFld, d_eAI, d_eAZ, d_eAB, d_lAL, d_eAD, d_eLen, d_eAdd, d_eSub, d_eMul, d_eAnd, d_eOr, d_eXor, d_eShl, d_eShr, d_eUsh, d_lAdd, d_lSub, d_lMul, d_lAnd, d_lOr, d_lXor, d_lShl, d_lShr, d_eDiv, d_eRem, d_eCmp, d_eI2B, d_eI2S, d_eL2I, d_lI2L, d_lInt, d_lLdc, d_lLoc, d_eIte, d_lIte, d_eMax, d_eMin, d_eAbs, d_eAbove, d_eBodies, d_cQ, d_cZ, d_cNot, d_cAnd, d_cOr, d_gNil, d_gI, d_gL, d_gR, d_gD, d_xV, d_xS, d_xN, d_xT, d_eCall, d_lCall, d_eCallC, d_sNop, d_sSet, d_sSetL, d_sSetR, d_sSetQ, d_sInc, d_sPutI, d_sPutZ, d_sPutL, d_sPutA, d_sPutAZ, d_sPutAB, d_sPutAL, d_sPutD, d_sOpF, d_sOpA, d_sCall, d_sCopy, d_sSeq, d_sIf, d_sBrk, d_sCnt, d_sRetV, d_sRet, d_sRetL, d_sLp, d_tDef, d_tCase, d_sSw, d_sSwB, bIt_d, itb_0, itb_1, itb_2, itb_r, its_0, sqk_0, sqk_1, sqk_2, sqk_r, swk_0, swk_1, swk_r, bfin_r, bfin_ite, Option.bind_some, Option.map_some, Option.bind_none, Option.map_none, bind_ite, map_ite, cop0, cop1, cop2, cop3, cop4, cop5, opv0, opv1, opv2, opv3, brc_i, brc_z, two_ne_one, false_or, getI, getR, getL, List.getElem?_cons_zero, List.getElem?_cons_succ, List.set_cons_zero, List.set_cons_succ, bnl, if_true, if_false, true_or, or_true, decide_eq_true_eq, Bool.not_eq_true', decide_eq_false_iff_not, Bool.not_true, Bool.not_false, Bool.true_eq_false, Bool.false_eq_true, ite_not, reduceIte, ite01_0, ite01_1, Decidable.not_not, ne_eq, not_true_eq_false, not_false_eq_true, Function.comp_apply, decide_not, Bool.not_not, Bool.not_eq_false', dc_t, dc_f, and_self, true_and, and_true, and_false, false_and, tnc, Int.reduceLT, Int.reduceLE, Int.reduceEq, Int.reduceAdd, Int.reduceSub, Int.reduceMul, Int.reduceToNat, Int.reduceNeg, Int.reduceNe]
theorem sp_fallsInSome (n h : Nat) {c m : bM} {i : Nat} (hN : NgtC i c m) (hg : m 101 15 = 1) (h10 : nHs c ≤ 10) (hh : h < nHs c) : sem (n + 1) 146 [aR 101, aI (h : Int)] m = some (m, if pSome c h = true then 1 else 0) := by
  rcases NgtC_gt hN with g | ⟨_, _, e1, e2, e3⟩
  · rw [g] at hg; cases hg
  · have j := jbst (pSome c) (n := nHs c) (by omega) hh
    rw [st_Nights_fallsInSome]
    by_cases z : pSome c h = true
    · rw [if_pos z] at j ⊢
      simp only [B_Nights_fallsInSome, kr_Nights_fallsInSome, e2, j, d_rLoc1, d_rLoc2, d_rFld1, d_rFld2, d_eInt, d_eLdc, d_eLdw, d_eLoc, d_eFld, d_lFld, d_eAI, d_eAZ, d_eAB, d_lAL, d_eAD, d_eLen, d_eAdd, d_eSub, d_eMul, d_eAnd, d_eOr, d_eXor, d_eShl, d_eShr, d_eUsh, d_lAdd, d_lSub, d_lMul, d_lAnd, d_lOr, d_lXor, d_lShl, d_lShr, d_eDiv, d_eRem, d_eCmp, d_eI2B, d_eI2S, d_eL2I, d_lI2L, d_lInt, d_lLdc, d_lLoc, d_eIte, d_lIte, d_eMax, d_eMin, d_eAbs, d_eAbove, d_eBodies, d_cQ, d_cZ, d_cNot, d_cAnd, d_cOr, d_gNil, d_gI, d_gL, d_gR, d_gD, d_xV, d_xS, d_xN, d_xT, d_eCall, d_lCall, d_eCallC, d_sNop, d_sSet, d_sSetL, d_sSetR, d_sSetQ, d_sInc, d_sPutI, d_sPutZ, d_sPutL, d_sPutA, d_sPutAZ, d_sPutAB, d_sPutAL, d_sPutD, d_sOpF, d_sOpA, d_sCall, d_sCopy, d_sSeq, d_sIf, d_sBrk, d_sCnt, d_sRetV, d_sRet, d_sRetL, d_sLp, d_tDef, d_tCase, d_sSw, d_sSwB, bIt_d, itb_0, itb_1, itb_2, itb_r, its_0, sqk_0, sqk_1, sqk_2, sqk_r, swk_0, swk_1, swk_r, bfin_r, bfin_ite, Option.bind_some, Option.map_some, Option.bind_none, Option.map_none, bind_ite, map_ite, cop0, cop1, cop2, cop3, cop4, cop5, opv0, opv1, opv2, opv3, brc_i, brc_z, two_ne_one, false_or, getI, getR, getL, List.getElem?_cons_zero, List.getElem?_cons_succ, List.set_cons_zero, List.set_cons_succ, bnl, if_true, if_false, true_or, or_true, decide_eq_true_eq, Bool.not_eq_true', decide_eq_false_iff_not, Bool.not_true, Bool.not_false, Bool.true_eq_false, Bool.false_eq_true, ite_not, reduceIte, ite01_0, ite01_1, Decidable.not_not, ne_eq, not_true_eq_false, not_false_eq_true, Function.comp_apply, decide_not, Bool.not_not, Bool.not_eq_false', dc_t, dc_f, and_self, true_and, and_true, and_false, false_and, tnc, Int.reduceLT, Int.reduceLE, Int.reduceEq, Int.reduceAdd, Int.reduceSub, Int.reduceMul, Int.reduceToNat, Int.reduceNeg, Int.reduceNe]
    · rw [if_neg z] at j ⊢
      simp only [B_Nights_fallsInSome, kr_Nights_fallsInSome, e2, j, d_rLoc1, d_rLoc2, d_rFld1, d_rFld2, d_eInt, d_eLdc, d_eLdw, d_eLoc, d_eFld, d_lFld, d_eAI, d_eAZ, d_eAB, d_lAL, d_eAD, d_eLen, d_eAdd, d_eSub, d_eMul, d_eAnd, d_eOr, d_eXor, d_eShl, d_eShr, d_eUsh, d_lAdd, d_lSub, d_lMul, d_lAnd, d_lOr, d_lXor, d_lShl, d_lShr, d_eDiv, d_eRem, d_eCmp, d_eI2B, d_eI2S, d_eL2I, d_lI2L, d_lInt, d_lLdc, d_lLoc, d_eIte, d_lIte, d_eMax, d_eMin, d_eAbs, d_eAbove, d_eBodies, d_cQ, d_cZ, d_cNot, d_cAnd, d_cOr, d_gNil, d_gI, d_gL, d_gR, d_gD, d_xV, d_xS, d_xN, d_xT, d_eCall, d_lCall, d_eCallC, d_sNop, d_sSet, d_sSetL, d_sSetR, d_sSetQ, d_sInc, d_sPutI, d_sPutZ, d_sPutL, d_sPutA, d_sPutAZ, d_sPutAB, d_sPutAL, d_sPutD, d_sOpF, d_sOpA, d_sCall, d_sCopy, d_sSeq, d_sIf, d_sBrk, d_sCnt, d_sRetV, d_sRet, d_sRetL, d_sLp, d_tDef, d_tCase, d_sSw, d_sSwB, bIt_d, itb_0, itb_1, itb_2, itb_r, its_0, sqk_0, sqk_1, sqk_2, sqk_r, swk_0, swk_1, swk_r, bfin_r, bfin_ite, Option.bind_some, Option.map_some, Option.bind_none, Option.map_none, bind_ite, map_ite, cop0, cop1, cop2, cop3, cop4, cop5, opv0, opv1, opv2, opv3, brc_i, brc_z, two_ne_one, false_or, getI, getR, getL, List.getElem?_cons_zero, List.getElem?_cons_succ, List.set_cons_zero, List.set_cons_succ, bnl, if_true, if_false, true_or, or_true, decide_eq_true_eq, Bool.not_eq_true', decide_eq_false_iff_not, Bool.not_true, Bool.not_false, Bool.true_eq_false, Bool.false_eq_true, ite_not, reduceIte, ite01_0, ite01_1, Decidable.not_not, ne_eq, not_true_eq_false, not_false_eq_true, Function.comp_apply, decide_not, Bool.not_not, Bool.not_eq_false', dc_t, dc_f, and_self, true_and, and_true, and_false, false_and, tnc, Int.reduceLT, Int.reduceLE, Int.reduceEq, Int.reduceAdd, Int.reduceSub, Int.reduceMul, Int.reduceToNat, Int.reduceNeg, Int.reduceNe]
theorem sp_canBe (n f t : Nat) {c r m : bM} {i : Nat} (hF : RelF c r) (hb : bse c m) (hN : NgtC i c m) (hg : m 101 15 = 1) (hf : f < 12) (ht : t < nTh c) : sem (n + 1) 155 [aR 101, aI (f : Int), aI (t : Int)] m = some (m, if whoB c f t = true then 1 else 0) := by
  have hT12 := RelF_rthings hF
  have t12 : t < 12 := by unfold nTh at ht; omega
  rcases NgtC_gt hN with g | ⟨_, _, e1, e2, e3⟩
  · rw [g] at hg; cases hg
  · have e4 := e3 t t12
    rw [if_pos ht] at e4
    have fr := RelF_rfat hF f hf
    have f2 : 0 ≤ (f : Int) ∧ (f : Int) < ((12 : Nat) : Int) := by omega
    have f3 : 0 ≤ (t : Int) ∧ (t : Int) < ((12 : Nat) : Int) := by omega
    have tf := tnc f
    have tt := tnc t
    obtain ⟨R, hR⟩ : ∃ R : Nat, c 49 f = (R : Int) := ⟨(c 49 f).toNat, by omega⟩
    have R13 : R < 13 := by omega
    have j := jbst (pCar c t) (n := 13) (by decide) R13
    have wE : whoB c f t = (decide (c 48 f = c 45 t) && pCar c t R) := by
      unfold whoB pCar
      congr 2
      funext q
      rw [hR]
      congr 2
      exact decide_eq_decide.mpr Int.natCast_inj
    rw [wE]
    have b48 := hb 48 (by decide)
    have b45 := hb 45 (by decide)
    have b49 := hb 49 (by decide)
    rw [st_Nights_canBe]
    clear tf tt
    have tf := tnc f
    have tt := tnc t
    generalize ((f : Nat) : Int) = fI at *
    generalize ((t : Nat) : Int) = tI at *
    by_cases z1 : c 48 f = c 45 t
    · by_cases z2 : pCar c t R = true
      · rw [if_pos z2] at j
        simp only [B_Nights_canBe, kr_Nights_canBe, f2, f3, tf, tt, b48, b45, b49, z1, e4, hR, j, z2, d_rLoc1, d_rLoc2, d_rFld1, d_rFld2, d_eInt, d_eLdc, d_eLdw, d_eLoc, d_eFld, d_lFld, d_eAI, d_eAZ, d_eAB, d_lAL, d_eAD, d_eLen, d_eAdd, d_eSub, d_eMul, d_eAnd, d_eOr, d_eXor, d_eShl, d_eShr, d_eUsh, d_lAdd, d_lSub, d_lMul, d_lAnd, d_lOr, d_lXor, d_lShl, d_lShr, d_eDiv, d_eRem, d_eCmp, d_eI2B, d_eI2S, d_eL2I, d_lI2L, d_lInt, d_lLdc, d_lLoc, d_eIte, d_lIte, d_eMax, d_eMin, d_eAbs, d_eAbove, d_eBodies, d_cQ, d_cZ, d_cNot, d_cAnd, d_cOr, d_gNil, d_gI, d_gL, d_gR, d_gD, d_xV, d_xS, d_xN, d_xT, d_eCall, d_lCall, d_eCallC, d_sNop, d_sSet, d_sSetL, d_sSetR, d_sSetQ, d_sInc, d_sPutI, d_sPutZ, d_sPutL, d_sPutA, d_sPutAZ, d_sPutAB, d_sPutAL, d_sPutD, d_sOpF, d_sOpA, d_sCall, d_sCopy, d_sSeq, d_sIf, d_sBrk, d_sCnt, d_sRetV, d_sRet, d_sRetL, d_sLp, d_tDef, d_tCase, d_sSw, d_sSwB, bIt_d, itb_0, itb_1, itb_2, itb_r, its_0, sqk_0, sqk_1, sqk_2, sqk_r, swk_0, swk_1, swk_r, bfin_r, bfin_ite, Option.bind_some, Option.map_some, Option.bind_none, Option.map_none, bind_ite, map_ite, cop0, cop1, cop2, cop3, cop4, cop5, opv0, opv1, opv2, opv3, brc_i, brc_z, two_ne_one, false_or, getI, getR, getL, List.getElem?_cons_zero, List.getElem?_cons_succ, List.set_cons_zero, List.set_cons_succ, bnl, if_true, if_false, true_or, or_true, decide_eq_true_eq, Bool.not_eq_true', decide_eq_false_iff_not, Bool.not_true, Bool.not_false, Bool.true_eq_false, Bool.false_eq_true, ite_not, reduceIte, ite01_0, ite01_1, Decidable.not_not, ne_eq, not_true_eq_false, not_false_eq_true, Function.comp_apply, decide_not, Bool.not_not, Bool.not_eq_false', dc_t, dc_f, and_self, true_and, and_true, and_false, false_and, tnc, Int.reduceLT, Int.reduceLE, Int.reduceEq, Int.reduceAdd, Int.reduceSub, Int.reduceMul, Int.reduceToNat, Int.reduceNeg, Int.reduceNe]
        try simp
      · rw [if_neg z2] at j
        simp only [B_Nights_canBe, kr_Nights_canBe, f2, f3, tf, tt, b48, b45, b49, z1, e4, hR, j, z2, d_rLoc1, d_rLoc2, d_rFld1, d_rFld2, d_eInt, d_eLdc, d_eLdw, d_eLoc, d_eFld, d_lFld, d_eAI, d_eAZ, d_eAB, d_lAL, d_eAD, d_eLen, d_eAdd, d_eSub, d_eMul, d_eAnd, d_eOr, d_eXor, d_eShl, d_eShr, d_eUsh, d_lAdd, d_lSub, d_lMul, d_lAnd, d_lOr, d_lXor, d_lShl, d_lShr, d_eDiv, d_eRem, d_eCmp, d_eI2B, d_eI2S, d_eL2I, d_lI2L, d_lInt, d_lLdc, d_lLoc, d_eIte, d_lIte, d_eMax, d_eMin, d_eAbs, d_eAbove, d_eBodies, d_cQ, d_cZ, d_cNot, d_cAnd, d_cOr, d_gNil, d_gI, d_gL, d_gR, d_gD, d_xV, d_xS, d_xN, d_xT, d_eCall, d_lCall, d_eCallC, d_sNop, d_sSet, d_sSetL, d_sSetR, d_sSetQ, d_sInc, d_sPutI, d_sPutZ, d_sPutL, d_sPutA, d_sPutAZ, d_sPutAB, d_sPutAL, d_sPutD, d_sOpF, d_sOpA, d_sCall, d_sCopy, d_sSeq, d_sIf, d_sBrk, d_sCnt, d_sRetV, d_sRet, d_sRetL, d_sLp, d_tDef, d_tCase, d_sSw, d_sSwB, bIt_d, itb_0, itb_1, itb_2, itb_r, its_0, sqk_0, sqk_1, sqk_2, sqk_r, swk_0, swk_1, swk_r, bfin_r, bfin_ite, Option.bind_some, Option.map_some, Option.bind_none, Option.map_none, bind_ite, map_ite, cop0, cop1, cop2, cop3, cop4, cop5, opv0, opv1, opv2, opv3, brc_i, brc_z, two_ne_one, false_or, getI, getR, getL, List.getElem?_cons_zero, List.getElem?_cons_succ, List.set_cons_zero, List.set_cons_succ, bnl, if_true, if_false, true_or, or_true, decide_eq_true_eq, Bool.not_eq_true', decide_eq_false_iff_not, Bool.not_true, Bool.not_false, Bool.true_eq_false, Bool.false_eq_true, ite_not, reduceIte, ite01_0, ite01_1, Decidable.not_not, ne_eq, not_true_eq_false, not_false_eq_true, Function.comp_apply, decide_not, Bool.not_not, Bool.not_eq_false', dc_t, dc_f, and_self, true_and, and_true, and_false, false_and, tnc, Int.reduceLT, Int.reduceLE, Int.reduceEq, Int.reduceAdd, Int.reduceSub, Int.reduceMul, Int.reduceToNat, Int.reduceNeg, Int.reduceNe]
        try simp
    · simp only [B_Nights_canBe, kr_Nights_canBe, f2, f3, tf, tt, b48, b45, b49, z1, e4, hR, j, d_rLoc1, d_rLoc2, d_rFld1, d_rFld2, d_eInt, d_eLdc, d_eLdw, d_eLoc, d_eFld, d_lFld, d_eAI, d_eAZ, d_eAB, d_lAL, d_eAD, d_eLen, d_eAdd, d_eSub, d_eMul, d_eAnd, d_eOr, d_eXor, d_eShl, d_eShr, d_eUsh, d_lAdd, d_lSub, d_lMul, d_lAnd, d_lOr, d_lXor, d_lShl, d_lShr, d_eDiv, d_eRem, d_eCmp, d_eI2B, d_eI2S, d_eL2I, d_lI2L, d_lInt, d_lLdc, d_lLoc, d_eIte, d_lIte, d_eMax, d_eMin, d_eAbs, d_eAbove, d_eBodies, d_cQ, d_cZ, d_cNot, d_cAnd, d_cOr, d_gNil, d_gI, d_gL, d_gR, d_gD, d_xV, d_xS, d_xN, d_xT, d_eCall, d_lCall, d_eCallC, d_sNop, d_sSet, d_sSetL, d_sSetR, d_sSetQ, d_sInc, d_sPutI, d_sPutZ, d_sPutL, d_sPutA, d_sPutAZ, d_sPutAB, d_sPutAL, d_sPutD, d_sOpF, d_sOpA, d_sCall, d_sCopy, d_sSeq, d_sIf, d_sBrk, d_sCnt, d_sRetV, d_sRet, d_sRetL, d_sLp, d_tDef, d_tCase, d_sSw, d_sSwB, bIt_d, itb_0, itb_1, itb_2, itb_r, its_0, sqk_0, sqk_1, sqk_2, sqk_r, swk_0, swk_1, swk_r, bfin_r, bfin_ite, Option.bind_some, Option.map_some, Option.bind_none, Option.map_none, bind_ite, map_ite, cop0, cop1, cop2, cop3, cop4, cop5, opv0, opv1, opv2, opv3, brc_i, brc_z, two_ne_one, false_or, getI, getR, getL, List.getElem?_cons_zero, List.getElem?_cons_succ, List.set_cons_zero, List.set_cons_succ, bnl, if_true, if_false, true_or, or_true, decide_eq_true_eq, Bool.not_eq_true', decide_eq_false_iff_not, Bool.not_true, Bool.not_false, Bool.true_eq_false, Bool.false_eq_true, ite_not, reduceIte, ite01_0, ite01_1, Decidable.not_not, ne_eq, not_true_eq_false, not_false_eq_true, Function.comp_apply, decide_not, Bool.not_not, Bool.not_eq_false', dc_t, dc_f, and_self, true_and, and_true, and_false, false_and, tnc, Int.reduceLT, Int.reduceLE, Int.reduceEq, Int.reduceAdd, Int.reduceSub, Int.reduceMul, Int.reduceToNat, Int.reduceNeg, Int.reduceNe]
      try simp
