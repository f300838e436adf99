/-! ===== doubt ===== -/
def dWn (m : bM) (c sc : Nat) (s b : Int) : Nat → bM
  | 0 => m
  | k + 1 => bwr (dWn m c sc s b k) c k (if m sc k = s then b else m c k)
theorem dWn_ne (m : bM) (c sc : Nat) (s b : Int) : ∀ (k i : Nat), i ≠ c → dWn m c sc s b k i = m i
  | 0, _, _ => rfl
  | k + 1, i, h => by
    show bwr (dWn m c sc s b k) c k _ i = m i
    rw [bwr_ne _ _ h, dWn_ne m c sc s b k i h]
theorem dWn_ge (m : bM) (c sc : Nat) (s b : Int) : ∀ (k j : Nat), k ≤ j → dWn m c sc s b k c j = m c j
  | 0, _, _ => rfl
  | k + 1, j, h => by
    show (if c = c then (if j = k then _ else dWn m c sc s b k c j) else _) = m c j
    rw [if_pos rfl, if_neg (by omega), dWn_ge m c sc s b k j (by omega)]
theorem dWn_y {m : bM} {c sc : Nat} {s b : Int} {k : Nat} (h : m sc k = s) : dWn m c sc s b (k + 1) = bwr (dWn m c sc s b k) c k b := by
  show bwr (dWn m c sc s b k) c k _ = _
  rw [if_pos h]
theorem dWn_n {m : bM} {c sc : Nat} {s b : Int} {k : Nat} (h : ¬ m sc k = s) : dWn m c sc s b (k + 1) = dWn m c sc s b k := by
  show bwr (dWn m c sc s b k) c k _ = _
  rw [if_neg h, ← dWn_ge m c sc s b k k (Nat.le_refl _), bwr_self]
theorem dWn_lt (m : bM) (c sc : Nat) (s b : Int) : ∀ (k j : Nat), j < k → dWn m c sc s b k c j = if m sc j = s then b else m c j
  | 0, _, h => absurd h (Nat.not_lt_zero _)
  | k + 1, j, h => by
    show (if c = c then (if j = k then (if m sc k = s then b else m c k) else dWn m c sc s b k c j) else _) = _
    rw [if_pos rfl]
    by_cases q : j = k
    · rw [if_pos q, q]
    · rw [if_neg q, dWn_lt m c sc s b k j (by omega)]
theorem RelS_dbt {m m2 : bM} (h : RelS m m) (s b : Int) (hb : b = 0 ∨ b = 1) (o : ∀ i, i ≠ 26 → i ≠ 149 → (17 ≤ i ∧ i ≤ 26 ∨ 141 ≤ i ∧ i ≤ 149) → m2 i = m i) (h1 : ∀ k, k < 4 → m2 26 k = if m 25 k = s then b else m 26 k) (h2 : ∀ k, k < 4 → m2 149 k = if m 148 k = s then b else m 149 k) : RelS m2 m2 := by
  have hs := RelS_side h
  have hd := RelS_doub h
  have hr := RelS_rdoub h
  unfold RelS nRw at h ⊢
  simp only [o 17 (by decide) (by decide) (by decide), o 18 (by decide) (by decide) (by decide), o 19 (by decide) (by decide) (by decide), o 20 (by decide) (by decide) (by decide), o 21 (by decide) (by decide) (by decide), o 22 (by decide) (by decide) (by decide), o 23 (by decide) (by decide) (by decide), o 24 (by decide) (by decide) (by decide), o 25 (by decide) (by decide) (by decide), o 141 (by decide) (by decide) (by decide), o 142 (by decide) (by decide) (by decide), o 143 (by decide) (by decide) (by decide), o 144 (by decide) (by decide) (by decide), o 145 (by decide) (by decide) (by decide), o 146 (by decide) (by decide) (by decide), o 147 (by decide) (by decide) (by decide), o 148 (by decide) (by decide) (by decide)]
  obtain ⟨v1, v2, v3, v4, v5, v6, v7, v8, v9, v10, v11, v12, v13, v14, v15, v16, v17, v18⟩ := h
  refine ⟨v1, v2, v3, v4, v5, ?_, v7, v8, v9, v10, v11, v12, v13, v14, v15, v16, ?_, v18⟩
  · intro k hk
    rw [h1 k hk, h2 k hk, hs k hk, hd k hk]
  · intro k hk
    rw [h1 k hk]
    split
    · exact hb
    · exact hr k hk
theorem lp_setDoubted (n : Nat) (s b : Int) (m : bM) (hb : b = 0 ∨ b = 1) : L_Seen_setDoubted_1.1.2 (sem n) [some (aR 17), some (aI s), some (aI b), some (aI 0), some (aI 0)] m = some (.inl (0, [some (aR 17), some (aI s), some (aI b), some (aI ((cnt (fun k => decide (m 25 k = s)) 4 : Nat) : Int)), some (aI ((4 : Nat) : Int))], dWn m 26 25 s b 4)) := by
  unfold L_Seen_setDoubted_1
  rw [d_sLp]
  refine lp_out (fun k => [some (aR 17), some (aI s), some (aI b), some (aI ((cnt (fun k => decide (m 25 k = s)) k : Nat) : Int)), some (aI ((k : Nat) : Int))]) (fun k => dWn m 26 25 s b k) 4 (by omega) (fun k hk => ?_) ?_
  · simp only [L_Seen_setDoubted_1c, L_Seen_setDoubted_1b, L_Seen_setDoubted_1s, d_rLoc1, d_rLoc2, d_rFld1, d_rFld2, d_eInt, d_eLdc, d_eLdw, d_eLoc, d_eFld, d_lFld, d_eAI, d_eAZ, d_eAB, d_lAL, d_eAD, d_eLen, d_eAdd, d_eSub, d_eMul, d_eAnd, d_eOr, d_eXor, d_eShl, d_eShr, d_eUsh, d_lAdd, d_lSub, d_lMul, d_lAnd, d_lOr, d_lXor, d_lShl, d_lShr, d_eDiv, d_eRem, d_eCmp, d_eI2B, d_eI2S, d_eL2I, d_lI2L, d_lInt, d_lLdc, d_lLoc, d_eIte, d_lIte, d_eMax, d_eMin, d_eAbs, d_eAbove, d_eBodies, d_cQ, d_cZ, d_cNot, d_cAnd, d_cOr, d_gNil, d_gI, d_gL, d_gR, d_gD, d_xV, d_xS, d_xN, d_xT, d_eCall, d_lCall, d_eCallC, d_sNop, d_sSet, d_sSetL, d_sSetR, d_sSetQ, d_sInc, d_sPutI, d_sPutZ, d_sPutL, d_sPutA, d_sPutAZ, d_sPutAB, d_sPutAL, d_sPutD, d_sOpF, d_sOpA, d_sCall, d_sCopy, d_sSeq, d_sIf, d_sBrk, d_sCnt, d_sRetV, d_sRet, d_sRetL, d_sLp, d_tDef, d_tCase, d_sSw, d_sSwB, bIt_d, itb_0, itb_1, itb_2, itb_r, its_0, sqk_0, sqk_1, sqk_2, sqk_r, swk_0, swk_1, swk_r, bfin_r, bfin_ite, Option.bind_some, Option.map_some, Option.bind_none, Option.map_none, bind_ite, map_ite, cop0, cop1, cop2, cop3, cop4, cop5, opv0, opv1, opv2, opv3, brc_i, brc_z, two_ne_one, false_or, getI, getR, getL, List.getElem?_cons_zero, List.getElem?_cons_succ, List.set_cons_zero, List.set_cons_succ, bnl, if_true, if_false, true_or, or_true, decide_eq_true_eq, Bool.not_eq_true', decide_eq_false_iff_not, Bool.not_true, Bool.not_false, Bool.true_eq_false, Bool.false_eq_true, ite_not, reduceIte, ite01_0, ite01_1, Decidable.not_not, ne_eq, not_true_eq_false, not_false_eq_true, Function.comp_apply, decide_not, Bool.not_not, Bool.not_eq_false']
    have hc := cnt_le (fun k => decide (m 25 k = s)) k
    have e2 : i32 ((k : Int) + 1) = ((k + 1 : Nat) : Int) := by rw [i32_of (by omega) (by omega)]; omega
    have e3 : i32 (((cnt (fun k => decide (m 25 k = s)) k : Nat) : Int) + 1) = ((cnt (fun k => decide (m 25 k = s)) k + 1 : Nat) : Int) := by rw [i32_of (by omega) (by omega)]; omega
    have e4 : (k : Int) < 4 := by omega
    have e5 : dWn m 26 25 s b k 25 k = m 25 k := by rw [dWn_ne _ _ _ _ _ _ _ (by decide)]
    have e6 : 0 ≤ b ∧ b ≤ 1 := by omega
    have e7 : (if b = 0 then 0 else 1) = b := by split <;> omega
    by_cases q : m 25 k = s
    · rw [dWn_y q]
      rcases hb with rfl | rfl <;> simp [e2, e3, e4, e5, q, cnt, hk]
    · rw [dWn_n q]
      simp [e2, e3, e4, e5, e6, q, cnt, hk]
  · simp only [L_Seen_setDoubted_1c, L_Seen_setDoubted_1b, L_Seen_setDoubted_1s, d_rLoc1, d_rLoc2, d_rFld1, d_rFld2, d_eInt, d_eLdc, d_eLdw, d_eLoc, d_eFld, d_lFld, d_eAI, d_eAZ, d_eAB, d_lAL, d_eAD, d_eLen, d_eAdd, d_eSub, d_eMul, d_eAnd, d_eOr, d_eXor, d_eShl, d_eShr, d_eUsh, d_lAdd, d_lSub, d_lMul, d_lAnd, d_lOr, d_lXor, d_lShl, d_lShr, d_eDiv, d_eRem, d_eCmp, d_eI2B, d_eI2S, d_eL2I, d_lI2L, d_lInt, d_lLdc, d_lLoc, d_eIte, d_lIte, d_eMax, d_eMin, d_eAbs, d_eAbove, d_eBodies, d_cQ, d_cZ, d_cNot, d_cAnd, d_cOr, d_gNil, d_gI, d_gL, d_gR, d_gD, d_xV, d_xS, d_xN, d_xT, d_eCall, d_lCall, d_eCallC, d_sNop, d_sSet, d_sSetL, d_sSetR, d_sSetQ, d_sInc, d_sPutI, d_sPutZ, d_sPutL, d_sPutA, d_sPutAZ, d_sPutAB, d_sPutAL, d_sPutD, d_sOpF, d_sOpA, d_sCall, d_sCopy, d_sSeq, d_sIf, d_sBrk, d_sCnt, d_sRetV, d_sRet, d_sRetL, d_sLp, d_tDef, d_tCase, d_sSw, d_sSwB, bIt_d, itb_0, itb_1, itb_2, itb_r, its_0, sqk_0, sqk_1, sqk_2, sqk_r, swk_0, swk_1, swk_r, bfin_r, bfin_ite, Option.bind_some, Option.map_some, Option.bind_none, Option.map_none, bind_ite, map_ite, cop0, cop1, cop2, cop3, cop4, cop5, opv0, opv1, opv2, opv3, brc_i, brc_z, two_ne_one, false_or, getI, getR, getL, List.getElem?_cons_zero, List.getElem?_cons_succ, List.set_cons_zero, List.set_cons_succ, bnl, if_true, if_false, true_or, or_true, decide_eq_true_eq, Bool.not_eq_true', decide_eq_false_iff_not, Bool.not_true, Bool.not_false, Bool.true_eq_false, Bool.false_eq_true, ite_not, reduceIte, ite01_0, ite01_1, Decidable.not_not, ne_eq, not_true_eq_false, not_false_eq_true, Function.comp_apply, decide_not, Bool.not_not, Bool.not_eq_false']
    simp
theorem lp_M_doubt (n : Nat) (s b : Int) (m : bM) (hb : b = 0 ∨ b = 1) : L_M_doubt_1.1.2 (sem n) [some (aR 132), some (aI s), some (aI b), some (aI 0), some (aI 0)] m = some (.inl (0, [some (aR 132), some (aI s), some (aI b), some (aI ((cnt (fun k => decide (m 148 k = s)) 4 : Nat) : Int)), some (aI ((4 : Nat) : Int))], dWn m 149 148 s b 4)) := by
  unfold L_M_doubt_1
  rw [d_sLp]
  refine lp_out (fun k => [some (aR 132), some (aI s), some (aI b), some (aI ((cnt (fun k => decide (m 148 k = s)) k : Nat) : Int)), some (aI ((k : Nat) : Int))]) (fun k => dWn m 149 148 s b k) 4 (by omega) (fun k hk => ?_) ?_
  · simp only [L_M_doubt_1c, L_M_doubt_1b, L_M_doubt_1s, d_rLoc1, d_rLoc2, d_rFld1, d_rFld2, d_eInt, d_eLdc, d_eLdw, d_eLoc, d_eFld, d_lFld, d_eAI, d_eAZ, d_eAB, d_lAL, d_eAD, d_eLen, d_eAdd, d_eSub, d_eMul, d_eAnd, d_eOr, d_eXor, d_eShl, d_eShr, d_eUsh, d_lAdd, d_lSub, d_lMul, d_lAnd, d_lOr, d_lXor, d_lShl, d_lShr, d_eDiv, d_eRem, d_eCmp, d_eI2B, d_eI2S, d_eL2I, d_lI2L, d_lInt, d_lLdc, d_lLoc, d_eIte, d_lIte, d_eMax, d_eMin, d_eAbs, d_eAbove, d_eBodies, d_cQ, d_cZ, d_cNot, d_cAnd, d_cOr, d_gNil, d_gI, d_gL, d_gR, d_gD, d_xV, d_xS, d_xN, d_xT, d_eCall, d_lCall, d_eCallC, d_sNop, d_sSet, d_sSetL, d_sSetR, d_sSetQ, d_sInc, d_sPutI, d_sPutZ, d_sPutL, d_sPutA, d_sPutAZ, d_sPutAB, d_sPutAL, d_sPutD, d_sOpF, d_sOpA, d_sCall, d_sCopy, d_sSeq, d_sIf, d_sBrk, d_sCnt, d_sRetV, d_sRet, d_sRetL, d_sLp, d_tDef, d_tCase, d_sSw, d_sSwB, bIt_d, itb_0, itb_1, itb_2, itb_r, its_0, sqk_0, sqk_1, sqk_2, sqk_r, swk_0, swk_1, swk_r, bfin_r, bfin_ite, Option.bind_some, Option.map_some, Option.bind_none, Option.map_none, bind_ite, map_ite, cop0, cop1, cop2, cop3, cop4, cop5, opv0, opv1, opv2, opv3, brc_i, brc_z, two_ne_one, false_or, getI, getR, getL, List.getElem?_cons_zero, List.getElem?_cons_succ, List.set_cons_zero, List.set_cons_succ, bnl, if_true, if_false, true_or, or_true, decide_eq_true_eq, Bool.not_eq_true', decide_eq_false_iff_not, Bool.not_true, Bool.not_false, Bool.true_eq_false, Bool.false_eq_true, ite_not, reduceIte, ite01_0, ite01_1, Decidable.not_not, ne_eq, not_true_eq_false, not_false_eq_true, Function.comp_apply, decide_not, Bool.not_not, Bool.not_eq_false']
    have hc := cnt_le (fun k => decide (m 148 k = s)) k
    have e2 : i32 ((k : Int) + 1) = ((k + 1 : Nat) : Int) := by rw [i32_of (by omega) (by omega)]; omega
    have e3 : i32 (((cnt (fun k => decide (m 148 k = s)) k : Nat) : Int) + 1) = ((cnt (fun k => decide (m 148 k = s)) k + 1 : Nat) : Int) := by rw [i32_of (by omega) (by omega)]; omega
    have e4 : (k : Int) < 4 := by omega
    have e5 : dWn m 149 148 s b k 148 k = m 148 k := by rw [dWn_ne _ _ _ _ _ _ _ (by decide)]
    have e6 : 0 ≤ b ∧ b ≤ 1 := by omega
    have e7 : (if b = 0 then 0 else 1) = b := by split <;> omega
    by_cases q : m 148 k = s
    · rw [dWn_y q]
      rcases hb with rfl | rfl <;> simp [e2, e3, e4, e5, q, cnt, hk]
    · rw [dWn_n q]
      simp [e2, e3, e4, e5, e6, q, cnt, hk]
  · simp only [L_M_doubt_1c, L_M_doubt_1b, L_M_doubt_1s, d_rLoc1, d_rLoc2, d_rFld1, d_rFld2, d_eInt, d_eLdc, d_eLdw, d_eLoc, d_eFld, d_lFld, d_eAI, d_eAZ, d_eAB, d_lAL, d_eAD, d_eLen, d_eAdd, d_eSub, d_eMul, d_eAnd, d_eOr, d_eXor, d_eShl, d_eShr, d_eUsh, d_lAdd, d_lSub, d_lMul, d_lAnd, d_lOr, d_lXor, d_lShl, d_lShr, d_eDiv, d_eRem, d_eCmp, d_eI2B, d_eI2S, d_eL2I, d_lI2L, d_lInt, d_lLdc, d_lLoc, d_eIte, d_lIte, d_eMax, d_eMin, d_eAbs, d_eAbove, d_eBodies, d_cQ, d_cZ, d_cNot, d_cAnd, d_cOr, d_gNil, d_gI, d_gL, d_gR, d_gD, d_xV, d_xS, d_xN, d_xT, d_eCall, d_lCall, d_eCallC, d_sNop, d_sSet, d_sSetL, d_sSetR, d_sSetQ, d_sInc, d_sPutI, d_sPutZ, d_sPutL, d_sPutA, d_sPutAZ, d_sPutAB, d_sPutAL, d_sPutD, d_sOpF, d_sOpA, d_sCall, d_sCopy, d_sSeq, d_sIf, d_sBrk, d_sCnt, d_sRetV, d_sRet, d_sRetL, d_sLp, d_tDef, d_tCase, d_sSw, d_sSwB, bIt_d, itb_0, itb_1, itb_2, itb_r, its_0, sqk_0, sqk_1, sqk_2, sqk_r, swk_0, swk_1, swk_r, bfin_r, bfin_ite, Option.bind_some, Option.map_some, Option.bind_none, Option.map_none, bind_ite, map_ite, cop0, cop1, cop2, cop3, cop4, cop5, opv0, opv1, opv2, opv3, brc_i, brc_z, two_ne_one, false_or, getI, getR, getL, List.getElem?_cons_zero, List.getElem?_cons_succ, List.set_cons_zero, List.set_cons_succ, bnl, if_true, if_false, true_or, or_true, decide_eq_true_eq, Bool.not_eq_true', decide_eq_false_iff_not, Bool.not_true, Bool.not_false, Bool.true_eq_false, Bool.false_eq_true, ite_not, reduceIte, ite01_0, ite01_1, Decidable.not_not, ne_eq, not_true_eq_false, not_false_eq_true, Function.comp_apply, decide_not, Bool.not_not, Bool.not_eq_false']
    simp
theorem sp_V_doubt (n : Nat) (s b : Int) (hb : b = 0 ∨ b = 1) (m : bM) : sem (n + 3) 13 [aR 0, aI s, aI b] m = if 0 ≤ s ∧ s ≤ 2 then some (dWn (fgP m) 26 25 s b 4, ((cnt (fun k => decide ((fgP m) 25 k = s)) 4 : Nat) : Int)) else some (m, -1) := by
  have h1 : ∀ n m, sem (n + 1) 136 [aR 17, aI s, aI b] m = some (dWn m 26 25 s b 4, ((cnt (fun k => decide (m 25 k = s)) 4 : Nat) : Int)) := fun n m => by
    rw [st_Seen_setDoubted]
    simp only [B_Seen_setDoubted, kr_Seen_setDoubted, d_rLoc1, d_rLoc2, d_rFld1, d_rFld2, d_eInt, d_eLdc, d_eLdw, d_eLoc, d_eFld, d_lFld, d_eAI, d_eAZ, d_eAB, d_lAL, d_eAD, d_eLen, d_eAdd, d_eSub, d_eMul, d_eAnd, d_eOr, d_eXor, d_eShl, d_eShr, d_eUsh, d_lAdd, d_lSub, d_lMul, d_lAnd, d_lOr, d_lXor, d_lShl, d_lShr, d_eDiv, d_eRem, d_eCmp, d_eI2B, d_eI2S, d_eL2I, d_lI2L, d_lInt, d_lLdc, d_lLoc, d_eIte, d_lIte, d_eMax, d_eMin, d_eAbs, d_eAbove, d_eBodies, d_cQ, d_cZ, d_cNot, d_cAnd, d_cOr, d_gNil, d_gI, d_gL, d_gR, d_gD, d_xV, d_xS, d_xN, d_xT, d_eCall, d_lCall, d_eCallC, d_sNop, d_sSet, d_sSetL, d_sSetR, d_sSetQ, d_sInc, d_sPutI, d_sPutZ, d_sPutL, d_sPutA, d_sPutAZ, d_sPutAB, d_sPutAL, d_sPutD, d_sOpF, d_sOpA, d_sCall, d_sCopy, d_sSeq, d_sIf, d_sBrk, d_sCnt, d_sRetV, d_sRet, d_sRetL, d_sLp, d_tDef, d_tCase, d_sSw, d_sSwB, bIt_d, itb_0, itb_1, itb_2, itb_r, its_0, sqk_0, sqk_1, sqk_2, sqk_r, swk_0, swk_1, swk_r, bfin_r, bfin_ite, Option.bind_some, Option.map_some, Option.bind_none, Option.map_none, bind_ite, map_ite, cop0, cop1, cop2, cop3, cop4, cop5, opv0, opv1, opv2, opv3, brc_i, brc_z, two_ne_one, false_or, getI, getR, getL, List.getElem?_cons_zero, List.getElem?_cons_succ, List.set_cons_zero, List.set_cons_succ, bnl, if_true, if_false, true_or, or_true, decide_eq_true_eq, Bool.not_eq_true', decide_eq_false_iff_not, Bool.not_true, Bool.not_false, Bool.true_eq_false, Bool.false_eq_true, ite_not, reduceIte, ite01_0, ite01_1, Decidable.not_not, ne_eq, not_true_eq_false, not_false_eq_true, Function.comp_apply, decide_not, Bool.not_not, Bool.not_eq_false']
    rw [lp_setDoubted n s b m hb]
    simp only [kr_Seen_setDoubted, d_rLoc1, d_rLoc2, d_rFld1, d_rFld2, d_eInt, d_eLdc, d_eLdw, d_eLoc, d_eFld, d_lFld, d_eAI, d_eAZ, d_eAB, d_lAL, d_eAD, d_eLen, d_eAdd, d_eSub, d_eMul, d_eAnd, d_eOr, d_eXor, d_eShl, d_eShr, d_eUsh, d_lAdd, d_lSub, d_lMul, d_lAnd, d_lOr, d_lXor, d_lShl, d_lShr, d_eDiv, d_eRem, d_eCmp, d_eI2B, d_eI2S, d_eL2I, d_lI2L, d_lInt, d_lLdc, d_lLoc, d_eIte, d_lIte, d_eMax, d_eMin, d_eAbs, d_eAbove, d_eBodies, d_cQ, d_cZ, d_cNot, d_cAnd, d_cOr, d_gNil, d_gI, d_gL, d_gR, d_gD, d_xV, d_xS, d_xN, d_xT, d_eCall, d_lCall, d_eCallC, d_sNop, d_sSet, d_sSetL, d_sSetR, d_sSetQ, d_sInc, d_sPutI, d_sPutZ, d_sPutL, d_sPutA, d_sPutAZ, d_sPutAB, d_sPutAL, d_sPutD, d_sOpF, d_sOpA, d_sCall, d_sCopy, d_sSeq, d_sIf, d_sBrk, d_sCnt, d_sRetV, d_sRet, d_sRetL, d_sLp, d_tDef, d_tCase, d_sSw, d_sSwB, bIt_d, itb_0, itb_1, itb_2, itb_r, its_0, sqk_0, sqk_1, sqk_2, sqk_r, swk_0, swk_1, swk_r, bfin_r, bfin_ite, Option.bind_some, Option.map_some, Option.bind_none, Option.map_none, bind_ite, map_ite, cop0, cop1, cop2, cop3, cop4, cop5, opv0, opv1, opv2, opv3, brc_i, brc_z, two_ne_one, false_or, getI, getR, getL, List.getElem?_cons_zero, List.getElem?_cons_succ, List.set_cons_zero, List.set_cons_succ, bnl, if_true, if_false, true_or, or_true, decide_eq_true_eq, Bool.not_eq_true', decide_eq_false_iff_not, Bool.not_true, Bool.not_false, Bool.true_eq_false, Bool.false_eq_true, ite_not, reduceIte, ite01_0, ite01_1, Decidable.not_not, ne_eq, not_true_eq_false, not_false_eq_true, Function.comp_apply, decide_not, Bool.not_not, Bool.not_eq_false']
  rw [st_V_doubt]
  simp only [B_V_doubt, kr_V_doubt, sp_within, sp_forgetPossible, h1, d_rLoc1, d_rLoc2, d_rFld1, d_rFld2, d_eInt, d_eLdc, d_eLdw, d_eLoc, d_eFld, d_lFld, d_eAI, d_eAZ, d_eAB, d_lAL, d_eAD, d_eLen, d_eAdd, d_eSub, d_eMul, d_eAnd, d_eOr, d_eXor, d_eShl, d_eShr, d_eUsh, d_lAdd, d_lSub, d_lMul, d_lAnd, d_lOr, d_lXor, d_lShl, d_lShr, d_eDiv, d_eRem, d_eCmp, d_eI2B, d_eI2S, d_eL2I, d_lI2L, d_lInt, d_lLdc, d_lLoc, d_eIte, d_lIte, d_eMax, d_eMin, d_eAbs, d_eAbove, d_eBodies, d_cQ, d_cZ, d_cNot, d_cAnd, d_cOr, d_gNil, d_gI, d_gL, d_gR, d_gD, d_xV, d_xS, d_xN, d_xT, d_eCall, d_lCall, d_eCallC, d_sNop, d_sSet, d_sSetL, d_sSetR, d_sSetQ, d_sInc, d_sPutI, d_sPutZ, d_sPutL, d_sPutA, d_sPutAZ, d_sPutAB, d_sPutAL, d_sPutD, d_sOpF, d_sOpA, d_sCall, d_sCopy, d_sSeq, d_sIf, d_sBrk, d_sCnt, d_sRetV, d_sRet, d_sRetL, d_sLp, d_tDef, d_tCase, d_sSw, d_sSwB, bIt_d, itb_0, itb_1, itb_2, itb_r, its_0, sqk_0, sqk_1, sqk_2, sqk_r, swk_0, swk_1, swk_r, bfin_r, bfin_ite, Option.bind_some, Option.map_some, Option.bind_none, Option.map_none, bind_ite, map_ite, cop0, cop1, cop2, cop3, cop4, cop5, opv0, opv1, opv2, opv3, brc_i, brc_z, two_ne_one, false_or, getI, getR, getL, List.getElem?_cons_zero, List.getElem?_cons_succ, List.set_cons_zero, List.set_cons_succ, bnl, if_true, if_false, true_or, or_true, decide_eq_true_eq, Bool.not_eq_true', decide_eq_false_iff_not, Bool.not_true, Bool.not_false, Bool.true_eq_false, Bool.false_eq_true, ite_not, reduceIte, ite01_0, ite01_1, Decidable.not_not, ne_eq, not_true_eq_false, not_false_eq_true, Function.comp_apply, decide_not, Bool.not_not, Bool.not_eq_false']
theorem sp_M_doubt (n : Nat) (s b : Int) (hb : b = 0 ∨ b = 1) (m : bM) : sem (n + 3) 71 [aR 132, aI s, aI b] m = if 0 ≤ s ∧ s ≤ 2 then some (bwr (dWn m 149 148 s b 4) 132 53 0, ((cnt (fun k => decide (m 148 k = s)) 4 : Nat) : Int)) else some (m, -1) := by
  have h1 := fun n => lp_M_doubt n s b m hb
  rw [st_M_doubt]
  simp only [B_M_doubt, kr_M_doubt, sp_in, h1, d_rLoc1, d_rLoc2, d_rFld1, d_rFld2, d_eInt, d_eLdc, d_eLdw, d_eLoc, d_eFld, d_lFld, d_eAI, d_eAZ, d_eAB, d_lAL, d_eAD, d_eLen, d_eAdd, d_eSub, d_eMul, d_eAnd, d_eOr, d_eXor, d_eShl, d_eShr, d_eUsh, d_lAdd, d_lSub, d_lMul, d_lAnd, d_lOr, d_lXor, d_lShl, d_lShr, d_eDiv, d_eRem, d_eCmp, d_eI2B, d_eI2S, d_eL2I, d_lI2L, d_lInt, d_lLdc, d_lLoc, d_eIte, d_lIte, d_eMax, d_eMin, d_eAbs, d_eAbove, d_eBodies, d_cQ, d_cZ, d_cNot, d_cAnd, d_cOr, d_gNil, d_gI, d_gL, d_gR, d_gD, d_xV, d_xS, d_xN, d_xT, d_eCall, d_lCall, d_eCallC, d_sNop, d_sSet, d_sSetL, d_sSetR, d_sSetQ, d_sInc, d_sPutI, d_sPutZ, d_sPutL, d_sPutA, d_sPutAZ, d_sPutAB, d_sPutAL, d_sPutD, d_sOpF, d_sOpA, d_sCall, d_sCopy, d_sSeq, d_sIf, d_sBrk, d_sCnt, d_sRetV, d_sRet, d_sRetL, d_sLp, d_tDef, d_tCase, d_sSw, d_sSwB, bIt_d, itb_0, itb_1, itb_2, itb_r, its_0, sqk_0, sqk_1, sqk_2, sqk_r, swk_0, swk_1, swk_r, bfin_r, bfin_ite, Option.bind_some, Option.map_some, Option.bind_none, Option.map_none, bind_ite, map_ite, cop0, cop1, cop2, cop3, cop4, cop5, opv0, opv1, opv2, opv3, brc_i, brc_z, two_ne_one, false_or, getI, getR, getL, List.getElem?_cons_zero, List.getElem?_cons_succ, List.set_cons_zero, List.set_cons_succ, bnl, if_true, if_false, true_or, or_true, decide_eq_true_eq, Bool.not_eq_true', decide_eq_false_iff_not, Bool.not_true, Bool.not_false, Bool.true_eq_false, Bool.false_eq_true, ite_not, reduceIte, ite01_0, ite01_1, Decidable.not_not, ne_eq, not_true_eq_false, not_false_eq_true, Function.comp_apply, decide_not, Bool.not_not, Bool.not_eq_false']
  simp
theorem step_doubt {n i : Nat} {m : bM} (hI : Inv i m) (hi : i < 100) (s b : Int) (hb : b = 0 ∨ b = 1) : ∃ m1 m2 v, sem (n + 3) 13 [aR 0, aI s, aI b] m = some (m1, v) ∧ sem (n + 3) 71 [aR 132, aI s, aI b] m1 = some (m2, v) ∧ Inv (i + 1) m2 := by
  have hR := Inv_rel hI
  have hN := Inv_ngt hI
  have hage := NgtC_age hN
  by_cases hc : 0 ≤ s ∧ s ≤ 2
  · have e1 := (sp_V_doubt n s b hb m).trans (if_pos hc)
    obtain ⟨m1, hm1⟩ : ∃ m1, m1 = dWn (fgP m) 26 25 s b 4 := ⟨_, rfl⟩
    have e2 := (sp_M_doubt n s b hb m1).trans (if_pos hc)
    have s0 := RelS_side (Rel_s hR)
    have o1 : ∀ i, i ≠ 26 → m1 i = fgP m i := fun i h => by rw [hm1, dWn_ne _ _ _ _ _ _ _ h]
    have ec : cnt (fun k => decide (m1 148 k = s)) 4 = cnt (fun k => decide ((fgP m) 25 k = s)) 4 := cnt_congr (fun k hk => by
      rw [o1 148 (by decide)]
      have : (fgP m) 148 k = (fgP m) 25 k := by
        simp (disch := omega) only [fgN, fgP, bwr_ne, bwr_ne2, bwr_eq2]
        exact s0 k hk
      rw [this])
    rw [ec] at e2
    rw [hm1] at e2
    refine ⟨_, _, _, e1, e2, ?_⟩
    have hS2 := RelS_dbt (m := m) (m2 := bwr (dWn (dWn (fgP m) 26 25 s b 4) 149 148 s b 4) 132 53 0) (Rel_s hR) s b hb (fun i h1 h2 h3 => by rw [bwr_ne _ _ (by omega), dWn_ne _ _ _ _ _ _ _ h2, dWn_ne _ _ _ _ _ _ _ h1]; simp (disch := omega) only [fgP, bwr_ne]) (fun k hk => by rw [bwr_ne _ _ (by decide), dWn_ne _ _ _ _ _ _ _ (by decide), dWn_lt _ _ _ _ _ _ _ hk]; simp (disch := omega) only [fgP, bwr_ne]) (fun k hk => by rw [bwr_ne _ _ (by decide), dWn_lt _ _ _ _ _ _ _ hk, dWn_ne _ _ _ _ _ _ _ (by decide), dWn_ne _ _ _ _ _ _ _ (by decide)]; simp (disch := omega) only [fgP, bwr_ne])
    simp only [dWn] at hS2 ⊢
    refine Inv_of hI (by refine ⟨?_, ?_, ?_, ?_, ?_, ?_, ?_, ?_, ?_, ?_, ?_, ?_, ?_, ?_, ?_, ?_, ?_⟩ <;> (intros; try (simp (disch := omega) only [fgN, fgP, bwr_ne, bwr_ne2, bwr_eq2]))) ⟨(by obtain ⟨v1, v2, v3, v4, v5, v6, v7, v8, v9, v10, v11, v12, v13, v14⟩ := Rel_n hR; refine ⟨?_, ?_, ?_, ?_, ?_, ?_, ?_, ?_, ?_, ?_, ?_, ?_, ?_, ?_⟩ <;> (try simp (disch := omega) only [fgN, fgP, bwr_ne, bwr_ne2, bwr_eq2]) <;> first | assumption | (intros; (try simp (disch := omega) only [fgN, fgP, bwr_ne, bwr_if] at *); grind)), (RelV_congr (Rel_v hR) (fun i a b => by simp (disch := omega) only [fgN, fgP, bwr_ne, bwr_ne2, bwr_eq2]) (fun i a b => by simp (disch := omega) only [fgN, fgP, bwr_ne, bwr_ne2, bwr_eq2])), hS2, (RelF_congr (Rel_f hR) (fun i a b => by simp (disch := omega) only [fgN, fgP, bwr_ne, bwr_ne2, bwr_eq2]) (fun i a b => by simp (disch := omega) only [fgN, fgP, bwr_ne, bwr_ne2, bwr_eq2])), (RelA_congr (Rel_a hR) (fun i a b => by simp (disch := omega) only [fgN, fgP, bwr_ne, bwr_ne2, bwr_eq2]) (fun i a b => by simp (disch := omega) only [fgN, fgP, bwr_ne, bwr_ne2, bwr_eq2])), (RelC_congr (Rel_c hR) (fun i a b => by simp (disch := omega) only [fgN, fgP, bwr_ne, bwr_ne2, bwr_eq2]) (fun i a b => by simp (disch := omega) only [fgN, fgP, bwr_ne, bwr_ne2, bwr_eq2]))⟩ (NgtC_fp hN (fun i a b => (by first | rfl | simp (disch := omega) only [fgN, fgP, bwr_ne, bwr_ne2, bwr_eq2])) ⟨fun i a b => (by first | rfl | simp (disch := omega) only [fgN, fgP, bwr_ne, bwr_ne2, bwr_eq2]), (by first | rfl | simp (disch := omega) only [fgN, fgP, bwr_ne, bwr_ne2, bwr_eq2])⟩ ⟨(by first | rfl | simp (disch := omega) only [fgN, fgP, bwr_ne, bwr_ne2, bwr_eq2]), (by first | rfl | simp (disch := omega) only [fgN, fgP, bwr_ne, bwr_ne2, bwr_eq2]), (by first | rfl | simp (disch := omega) only [fgN, fgP, bwr_ne, bwr_ne2, bwr_eq2])⟩ (fun i a b => (by first | rfl | simp (disch := omega) only [fgN, fgP, bwr_ne, bwr_ne2, bwr_eq2])) (by first | rfl | simp (disch := omega) only [fgN, fgP, bwr_ne, bwr_ne2, bwr_eq2]) (by first | rfl | simp (disch := omega) only [fgN, fgP, bwr_ne, bwr_ne2, bwr_eq2]) (by first | rfl | simp (disch := omega) only [fgN, fgP, bwr_ne, bwr_ne2, bwr_eq2])) (Or.inl (by simp (disch := omega) only [fgN, fgP, bwr_ne, bwr_ne2, bwr_eq2]))
  · exact ⟨m, m, -1, (sp_V_doubt n s b hb m).trans (if_neg hc), (sp_M_doubt n s b hb m).trans (if_neg hc), Inv_same hI⟩
