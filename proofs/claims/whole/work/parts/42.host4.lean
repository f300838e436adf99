/-! ===== the host: taken ===== -/
theorem sp_M_isUnder (n : Nat) (k a : Int) (m : bM) : sem (n + 1) 243 [aI k, aI a] m = some (m, if a = 0 ∨ k = a ∨ (a = 3 ∧ k = 4) ∨ (a = 5 ∧ k = 6) then 1 else 0) := by
  rw [st_M_isUnder]
  simp only [B_M_isUnder, kr_M_isUnder, d_rLoc1, d_rLoc2, d_rFld1, d_rFld2, d_eInt, d_eLdc, d_eLdw, d_eLoc, d_eFld, d_lFld, d_eAI, d_eAZ, d_eAB, d_lAL, d_eAD, d_eLen, d_eAdd, d_eSub, d_eMul, d_eAnd, d_eOr, d_eXor, d_eShl, d_eShr, d_eUsh, d_lAdd, d_lSub, d_lMul, d_lAnd, d_lOr, d_lXor, d_lShl, d_lShr, d_eDiv, d_eRem, d_eCmp, d_eI2B, d_eI2S, d_eL2I, d_lI2L, d_lInt, d_lLdc, d_lLoc, d_eIte, d_lIte, d_eMax, d_eMin, d_eAbs, d_eAbove, d_eBodies, d_cQ, d_cZ, d_cNot, d_cAnd, d_cOr, d_gNil, d_gI, d_gL, d_gR, d_gD, d_xV, d_xS, d_xN, d_xT, d_eCall, d_lCall, d_eCallC, d_sNop, d_sSet, d_sSetL, d_sSetR, d_sSetQ, d_sInc, d_sPutI, d_sPutZ, d_sPutL, d_sPutA, d_sPutAZ, d_sPutAB, d_sPutAL, d_sPutD, d_sOpF, d_sOpA, d_sCall, d_sCopy, d_sSeq, d_sIf, d_sBrk, d_sCnt, d_sRetV, d_sRet, d_sRetL, d_sLp, d_tDef, d_tCase, d_sSw, d_sSwB, bIt_d, itb_0, itb_1, itb_2, itb_r, its_0, sqk_0, sqk_1, sqk_2, sqk_r, swk_0, swk_1, swk_r, bfin_r, bfin_ite, Option.bind_some, Option.map_some, Option.bind_none, Option.map_none, bind_ite, map_ite, cop0, cop1, cop2, cop3, cop4, cop5, opv0, opv1, opv2, opv3, brc_i, brc_z, two_ne_one, false_or, getI, getR, getL, List.getElem?_cons_zero, List.getElem?_cons_succ, List.set_cons_zero, List.set_cons_succ, bnl, if_true, if_false, true_or, or_true, decide_eq_true_eq, Bool.not_eq_true', decide_eq_false_iff_not, Bool.not_true, Bool.not_false, Bool.true_eq_false, Bool.false_eq_true, ite_not, reduceIte, ite01_0, ite01_1, Decidable.not_not, ne_eq, not_true_eq_false, not_false_eq_true, Function.comp_apply, decide_not, Bool.not_not, Bool.not_eq_false']
  by_cases h1 : a = 0
  · simp [h1]
  · by_cases h2 : k = a
    · simp [h1, h2]
    · by_cases h3 : a = 3
      · by_cases h4 : k = 4 <;> simp [h3, h4] at h2 ⊢ <;> simp [h2]
      · by_cases h5 : a = 5
        · by_cases h4 : k = 6 <;> simp [h5, h4] at h2 ⊢ <;> simp [h2]
        · simp [h1, h2, h3, h5]
/-! loops that are let run turn by turn -/
section
variable {c : bLs → bM → Option (Bool × bM)} {b s : bLs → bM → Option bRs} {ls : bLs} {m : bM}
def lpk (c : bLs → bM → Option (Bool × bM)) (b s : bLs → bM → Option bRs) (n : Nat) (r : bRs) : Option bRs := match r with
  | .inl (0, ls, m) => bLp c b s n ls m
  | .inl (_, ls, m) => some (.inl (0, ls, m))
  | .inr q => some (.inr q)
theorem lpk_0 {n : Nat} : lpk c b s n (.inl (0, ls, m)) = bLp c b s n ls m := nrf rfl
theorem lpk_1 {n : Nat} : lpk c b s n (.inl (1, ls, m)) = some (.inl (0, ls, m)) := nrf rfl
theorem lpk_r {n : Nat} {q : bM × Int} : lpk c b s n (.inr q) = some (.inr q) := nrf rfl
theorem bLp_it {n : Nat} : bLp c b s (n + 1) ls m = (bIt c b s ls m).bind (lpk c b s n) := by
  rw [bLp_s, bIt_d]
  cases c ls m with
  | none => rfl
  | some t =>
    show (if t.1 = true then _ else _) = (if t.1 = true then _ else _ : Option bRs).bind _
    split
    · cases b ls t.2 with
      | none => rfl
      | some r => match r with
        | .inl (0, a, x) =>
          show (s a x).bind _ = ((s a x).bind its).bind _
          cases s a x with
          | none => rfl
          | some r2 => match r2 with
            | .inl (0, a2, x2) => rfl
            | .inl (k + 1, a2, x2) => rfl
            | .inr q => rfl
        | .inl (1, a, x) => rfl
        | .inl (k + 2, a, x) =>
          show (s a x).bind _ = ((s a x).bind its).bind _
          cases s a x with
          | none => rfl
          | some r2 => match r2 with
            | .inl (0, a2, x2) => rfl
            | .inl (k + 1, a2, x2) => rfl
            | .inr q => rfl
        | .inr q => rfl
    · rfl
end
theorem bF_s : bF = 999 + 1 := rfl
theorem i32_1 : i32 1 = 1 := i32_of (by decide) (by decide)
theorem i32_2 : i32 2 = 2 := i32_of (by decide) (by decide)
theorem i32_3 : i32 3 = 3 := i32_of (by decide) (by decide)
theorem gA_1 : gAbove.getD (1 : Int).toNat 0 = 0 := rfl
theorem gB_1 : gAbove.getD 1 0 = 0 := rfl
theorem gA_2 : gAbove.getD (2 : Int).toNat 0 = 0 := rfl
theorem gB_2 : gAbove.getD 2 0 = 0 := rfl
theorem gA_3 : gAbove.getD (3 : Int).toNat 0 = 0 := rfl
theorem gB_3 : gAbove.getD 3 0 = 0 := rfl
theorem gA_4 : gAbove.getD (4 : Int).toNat 0 = 3 := rfl
theorem gB_4 : gAbove.getD 4 0 = 3 := rfl
theorem gA_5 : gAbove.getD (5 : Int).toNat 0 = 0 := rfl
theorem gB_5 : gAbove.getD 5 0 = 0 := rfl
theorem gA_6 : gAbove.getD (6 : Int).toNat 0 = 5 := rfl
theorem gB_6 : gAbove.getD 6 0 = 5 := rfl
theorem sp_H_isUnder (n : Nat) (k a : Int) (m : bM) (hk : 1 ≤ k ∧ k ≤ 6) (ha : 0 ≤ a ∧ a ≤ 6) : sem (n + 1) 275 [aI k, aI a] m = some (m, if a = 0 ∨ k = a ∨ (a = 3 ∧ k = 4) ∨ (a = 5 ∧ k = 6) then 1 else 0) := by
  rw [st_Host_isUnder]
  have hk2 : k = 1 ∨ k = 2 ∨ k = 3 ∨ k = 4 ∨ k = 5 ∨ k = 6 := by omega
  have ha2 : a = 0 ∨ a = 1 ∨ a = 2 ∨ a = 3 ∨ a = 4 ∨ a = 5 ∨ a = 6 := by omega
  unfold B_Host_isUnder L_Host_isUnder_1 L_Host_isUnder_1c L_Host_isUnder_1b L_Host_isUnder_1s
  rcases hk2 with rfl | rfl | rfl | rfl | rfl | rfl <;> rcases ha2 with rfl | rfl | rfl | rfl | rfl | rfl | rfl <;> (simp only [kr_Host_isUnder, d_sLp, bF_s, bLp_it, lpk_0, lpk_1, lpk_r, Int.reduceLT, Int.reduceLE, Int.reduceEq, Int.reduceAdd, Int.reduceToNat, i32_1, i32_2, i32_3, gA_1, gB_1, gA_2, gB_2, gA_3, gB_3, gA_4, gB_4, gA_5, gB_5, gA_6, gB_6, d_rLoc1, d_rLoc2, d_rFld1, d_rFld2, d_eInt, d_eLdc, d_eLdw, d_eLoc, d_eFld, d_lFld, d_eAI, d_eAZ, d_eAB, d_lAL, d_eAD, d_eLen, d_eAdd, d_eSub, d_eMul, d_eAnd, d_eOr, d_eXor, d_eShl, d_eShr, d_eUsh, d_lAdd, d_lSub, d_lMul, d_lAnd, d_lOr, d_lXor, d_lShl, d_lShr, d_eDiv, d_eRem, d_eCmp, d_eI2B, d_eI2S, d_eL2I, d_lI2L, d_lInt, d_lLdc, d_lLoc, d_eIte, d_lIte, d_eMax, d_eMin, d_eAbs, d_eAbove, d_eBodies, d_cQ, d_cZ, d_cNot, d_cAnd, d_cOr, d_gNil, d_gI, d_gL, d_gR, d_gD, d_xV, d_xS, d_xN, d_xT, d_eCall, d_lCall, d_eCallC, d_sNop, d_sSet, d_sSetL, d_sSetR, d_sSetQ, d_sInc, d_sPutI, d_sPutZ, d_sPutL, d_sPutA, d_sPutAZ, d_sPutAB, d_sPutAL, d_sPutD, d_sOpF, d_sOpA, d_sCall, d_sCopy, d_sSeq, d_sIf, d_sBrk, d_sCnt, d_sRetV, d_sRet, d_sRetL, d_sLp, d_tDef, d_tCase, d_sSw, d_sSwB, bIt_d, itb_0, itb_1, itb_2, itb_r, its_0, sqk_0, sqk_1, sqk_2, sqk_r, swk_0, swk_1, swk_r, bfin_r, bfin_ite, Option.bind_some, Option.map_some, Option.bind_none, Option.map_none, bind_ite, map_ite, cop0, cop1, cop2, cop3, cop4, cop5, opv0, opv1, opv2, opv3, brc_i, brc_z, two_ne_one, false_or, getI, getR, getL, List.getElem?_cons_zero, List.getElem?_cons_succ, List.set_cons_zero, List.set_cons_succ, bnl, if_true, if_false, true_or, or_true, decide_eq_true_eq, Bool.not_eq_true', decide_eq_false_iff_not, Bool.not_true, Bool.not_false, Bool.true_eq_false, Bool.false_eq_true, ite_not, reduceIte, ite01_0, ite01_1, Decidable.not_not, ne_eq, not_true_eq_false, not_false_eq_true, Function.comp_apply, decide_not, Bool.not_not, Bool.not_eq_false', and_self, true_and, and_true, and_false, false_and, Int.toNat_natCast]; try simp)
theorem kOn_in {m : bM} (hS : RelS m m) (s : Nat) (hsh : shelfR (m 128 s) (m 129 s) (m 130 s) (m 200 s) (m 201 s) (m 202 s)) : kOn m s = -1 ∨ (1 ≤ kOn m s ∧ kOn m s ≤ 6 ∧ ((m 128 s = 1 ∧ m 129 s < m 17 9 ∧ kOn m s ≤ 4) ∨ (m 128 s = 2 ∧ m 129 s < m 79 6 ∧ 5 ≤ kOn m s))) := by
  unfold shelfR at hsh
  unfold kOn
  by_cases h1 : m 128 s = 1 ∧ m 129 s < m 17 9
  · rw [if_pos h1]
    have h2 := RelS_rkind hS (m 129 s).toNat (by omega)
    have h2b := RelS_rkind1 hS (m 129 s).toNat (by omega) (by omega)
    right
    split <;> omega
  · rw [if_neg h1]
    by_cases h3 : m 128 s = 2 ∧ m 129 s < m 79 6
    · rw [if_pos h3]
      right
      split <;> omega
    · rw [if_neg h3]; exact Or.inl rfl
/-- what taken answers -/
def tkn (m : bM) (s : Nat) (a : Int) : Int := if m 128 s = 3 then (if a = 10 + m 129 s then m 130 s else -13) else if kOn m s < 0 then -11 else if a < 7 ∧ (a = 0 ∨ kOn m s = a ∨ (a = 3 ∧ kOn m s = 4) ∨ (a = 5 ∧ kOn m s = 6)) then m 129 s else -13
theorem sp_V_taken (n : Nat) (s a : Int) (m : bM) (hS : RelS m m) (hH : HostOK m) : sem (n + 5) 52 [aR 0, aI s, aI a] m = some (m, if (0 ≤ s ∧ s ≤ 3) ∧ ((0 ≤ a ∧ a ≤ 6) ∨ (10 ≤ a ∧ a ≤ 14)) then tkn m s.toNat a else -1) := by
  rw [st_V_taken]
  by_cases h1 : 0 ≤ s ∧ s ≤ 3
  · have hsh := HostOK_shelf hH s.toNat (by omega)
    have hk := kOn_in hS s.toNat hsh
    unfold shelfR at hsh
    have h61 : s < 4 := by omega
    have f1 : ∀ n, sem (n + 3) 185 [aR 124, aI s, aI (i32 (a - 10))] m = some (m, if m 128 s.toNat = 3 then (if m 129 s.toNat = i32 (a - 10) then m 130 s.toNat else -13) else if kOn m s.toNat < 0 then -11 else -13) := fun n => by
      rw [st_Host_takenForSort]
      simp only [B_Host_takenForSort, kr_Host_takenForSort, d_rLoc1, d_rLoc2, d_rFld1, d_rFld2, d_eInt, d_eLdc, d_eLdw, d_eLoc, d_eFld, d_lFld, d_eAI, d_eAZ, d_eAB, d_lAL, d_eAD, d_eLen, d_eAdd, d_eSub, d_eMul, d_eAnd, d_eOr, d_eXor, d_eShl, d_eShr, d_eUsh, d_lAdd, d_lSub, d_lMul, d_lAnd, d_lOr, d_lXor, d_lShl, d_lShr, d_eDiv, d_eRem, d_eCmp, d_eI2B, d_eI2S, d_eL2I, d_lI2L, d_lInt, d_lLdc, d_lLoc, d_eIte, d_lIte, d_eMax, d_eMin, d_eAbs, d_eAbove, d_eBodies, d_cQ, d_cZ, d_cNot, d_cAnd, d_cOr, d_gNil, d_gI, d_gL, d_gR, d_gD, d_xV, d_xS, d_xN, d_xT, d_eCall, d_lCall, d_eCallC, d_sNop, d_sSet, d_sSetL, d_sSetR, d_sSetQ, d_sInc, d_sPutI, d_sPutZ, d_sPutL, d_sPutA, d_sPutAZ, d_sPutAB, d_sPutAL, d_sPutD, d_sOpF, d_sOpA, d_sCall, d_sCopy, d_sSeq, d_sIf, d_sBrk, d_sCnt, d_sRetV, d_sRet, d_sRetL, d_sLp, d_tDef, d_tCase, d_sSw, d_sSwB, bIt_d, itb_0, itb_1, itb_2, itb_r, its_0, sqk_0, sqk_1, sqk_2, sqk_r, swk_0, swk_1, swk_r, bfin_r, bfin_ite, Option.bind_some, Option.map_some, Option.bind_none, Option.map_none, bind_ite, map_ite, cop0, cop1, cop2, cop3, cop4, cop5, opv0, opv1, opv2, opv3, brc_i, brc_z, two_ne_one, false_or, getI, getR, getL, List.getElem?_cons_zero, List.getElem?_cons_succ, List.set_cons_zero, List.set_cons_succ, bnl, if_true, if_false, true_or, or_true, decide_eq_true_eq, Bool.not_eq_true', decide_eq_false_iff_not, Bool.not_true, Bool.not_false, Bool.true_eq_false, Bool.false_eq_true, ite_not, reduceIte, ite01_0, ite01_1, Decidable.not_not, ne_eq, not_true_eq_false, not_false_eq_true, Function.comp_apply, decide_not, Bool.not_not, Bool.not_eq_false']
      rw [sp_kindOn _ _ _ h1 hS hH]
      simp only [kr_Host_takenForSort, d_rLoc1, d_rLoc2, d_rFld1, d_rFld2, d_eInt, d_eLdc, d_eLdw, d_eLoc, d_eFld, d_lFld, d_eAI, d_eAZ, d_eAB, d_lAL, d_eAD, d_eLen, d_eAdd, d_eSub, d_eMul, d_eAnd, d_eOr, d_eXor, d_eShl, d_eShr, d_eUsh, d_lAdd, d_lSub, d_lMul, d_lAnd, d_lOr, d_lXor, d_lShl, d_lShr, d_eDiv, d_eRem, d_eCmp, d_eI2B, d_eI2S, d_eL2I, d_lI2L, d_lInt, d_lLdc, d_lLoc, d_eIte, d_lIte, d_eMax, d_eMin, d_eAbs, d_eAbove, d_eBodies, d_cQ, d_cZ, d_cNot, d_cAnd, d_cOr, d_gNil, d_gI, d_gL, d_gR, d_gD, d_xV, d_xS, d_xN, d_xT, d_eCall, d_lCall, d_eCallC, d_sNop, d_sSet, d_sSetL, d_sSetR, d_sSetQ, d_sInc, d_sPutI, d_sPutZ, d_sPutL, d_sPutA, d_sPutAZ, d_sPutAB, d_sPutAL, d_sPutD, d_sOpF, d_sOpA, d_sCall, d_sCopy, d_sSeq, d_sIf, d_sBrk, d_sCnt, d_sRetV, d_sRet, d_sRetL, d_sLp, d_tDef, d_tCase, d_sSw, d_sSwB, bIt_d, itb_0, itb_1, itb_2, itb_r, its_0, sqk_0, sqk_1, sqk_2, sqk_r, swk_0, swk_1, swk_r, bfin_r, bfin_ite, Option.bind_some, Option.map_some, Option.bind_none, Option.map_none, bind_ite, map_ite, cop0, cop1, cop2, cop3, cop4, cop5, opv0, opv1, opv2, opv3, brc_i, brc_z, two_ne_one, false_or, getI, getR, getL, List.getElem?_cons_zero, List.getElem?_cons_succ, List.set_cons_zero, List.set_cons_succ, bnl, if_true, if_false, true_or, or_true, decide_eq_true_eq, Bool.not_eq_true', decide_eq_false_iff_not, Bool.not_true, Bool.not_false, Bool.true_eq_false, Bool.false_eq_true, ite_not, reduceIte, ite01_0, ite01_1, Decidable.not_not, ne_eq, not_true_eq_false, not_false_eq_true, Function.comp_apply, decide_not, Bool.not_not, Bool.not_eq_false']
      by_cases g1 : m 128 s.toNat = 3 <;> by_cases g2 : m 129 s.toNat = i32 (a - 10) <;> by_cases g3 : kOn m s.toNat < 0 <;> simp [h1.1, h61, g1, g2, g3]
    have f2 : 0 ≤ a ∧ a ≤ 6 → ∀ n, sem (n + 3) 186 [aR 124, aI s, aI a] m = some (m, tkn m s.toNat a) := fun ha n => by
      rw [st_Host_takenForKind]
      simp only [B_Host_takenForKind, kr_Host_takenForKind, d_rLoc1, d_rLoc2, d_rFld1, d_rFld2, d_eInt, d_eLdc, d_eLdw, d_eLoc, d_eFld, d_lFld, d_eAI, d_eAZ, d_eAB, d_lAL, d_eAD, d_eLen, d_eAdd, d_eSub, d_eMul, d_eAnd, d_eOr, d_eXor, d_eShl, d_eShr, d_eUsh, d_lAdd, d_lSub, d_lMul, d_lAnd, d_lOr, d_lXor, d_lShl, d_lShr, d_eDiv, d_eRem, d_eCmp, d_eI2B, d_eI2S, d_eL2I, d_lI2L, d_lInt, d_lLdc, d_lLoc, d_eIte, d_lIte, d_eMax, d_eMin, d_eAbs, d_eAbove, d_eBodies, d_cQ, d_cZ, d_cNot, d_cAnd, d_cOr, d_gNil, d_gI, d_gL, d_gR, d_gD, d_xV, d_xS, d_xN, d_xT, d_eCall, d_lCall, d_eCallC, d_sNop, d_sSet, d_sSetL, d_sSetR, d_sSetQ, d_sInc, d_sPutI, d_sPutZ, d_sPutL, d_sPutA, d_sPutAZ, d_sPutAB, d_sPutAL, d_sPutD, d_sOpF, d_sOpA, d_sCall, d_sCopy, d_sSeq, d_sIf, d_sBrk, d_sCnt, d_sRetV, d_sRet, d_sRetL, d_sLp, d_tDef, d_tCase, d_sSw, d_sSwB, bIt_d, itb_0, itb_1, itb_2, itb_r, its_0, sqk_0, sqk_1, sqk_2, sqk_r, swk_0, swk_1, swk_r, bfin_r, bfin_ite, Option.bind_some, Option.map_some, Option.bind_none, Option.map_none, bind_ite, map_ite, cop0, cop1, cop2, cop3, cop4, cop5, opv0, opv1, opv2, opv3, brc_i, brc_z, two_ne_one, false_or, getI, getR, getL, List.getElem?_cons_zero, List.getElem?_cons_succ, List.set_cons_zero, List.set_cons_succ, bnl, if_true, if_false, true_or, or_true, decide_eq_true_eq, Bool.not_eq_true', decide_eq_false_iff_not, Bool.not_true, Bool.not_false, Bool.true_eq_false, Bool.false_eq_true, ite_not, reduceIte, ite01_0, ite01_1, Decidable.not_not, ne_eq, not_true_eq_false, not_false_eq_true, Function.comp_apply, decide_not, Bool.not_not, Bool.not_eq_false']
      rw [sp_kindOn _ _ _ h1 hS hH]
      simp only [kr_Host_takenForKind, d_rLoc1, d_rLoc2, d_rFld1, d_rFld2, d_eInt, d_eLdc, d_eLdw, d_eLoc, d_eFld, d_lFld, d_eAI, d_eAZ, d_eAB, d_lAL, d_eAD, d_eLen, d_eAdd, d_eSub, d_eMul, d_eAnd, d_eOr, d_eXor, d_eShl, d_eShr, d_eUsh, d_lAdd, d_lSub, d_lMul, d_lAnd, d_lOr, d_lXor, d_lShl, d_lShr, d_eDiv, d_eRem, d_eCmp, d_eI2B, d_eI2S, d_eL2I, d_lI2L, d_lInt, d_lLdc, d_lLoc, d_eIte, d_lIte, d_eMax, d_eMin, d_eAbs, d_eAbove, d_eBodies, d_cQ, d_cZ, d_cNot, d_cAnd, d_cOr, d_gNil, d_gI, d_gL, d_gR, d_gD, d_xV, d_xS, d_xN, d_xT, d_eCall, d_lCall, d_eCallC, d_sNop, d_sSet, d_sSetL, d_sSetR, d_sSetQ, d_sInc, d_sPutI, d_sPutZ, d_sPutL, d_sPutA, d_sPutAZ, d_sPutAB, d_sPutAL, d_sPutD, d_sOpF, d_sOpA, d_sCall, d_sCopy, d_sSeq, d_sIf, d_sBrk, d_sCnt, d_sRetV, d_sRet, d_sRetL, d_sLp, d_tDef, d_tCase, d_sSw, d_sSwB, bIt_d, itb_0, itb_1, itb_2, itb_r, its_0, sqk_0, sqk_1, sqk_2, sqk_r, swk_0, swk_1, swk_r, bfin_r, bfin_ite, Option.bind_some, Option.map_some, Option.bind_none, Option.map_none, bind_ite, map_ite, cop0, cop1, cop2, cop3, cop4, cop5, opv0, opv1, opv2, opv3, brc_i, brc_z, two_ne_one, false_or, getI, getR, getL, List.getElem?_cons_zero, List.getElem?_cons_succ, List.set_cons_zero, List.set_cons_succ, bnl, if_true, if_false, true_or, or_true, decide_eq_true_eq, Bool.not_eq_true', decide_eq_false_iff_not, Bool.not_true, Bool.not_false, Bool.true_eq_false, Bool.false_eq_true, ite_not, reduceIte, ite01_0, ite01_1, Decidable.not_not, ne_eq, not_true_eq_false, not_false_eq_true, Function.comp_apply, decide_not, Bool.not_not, Bool.not_eq_false']
      unfold tkn
      by_cases g1 : m 128 s.toNat = 3
      · have g4 : ¬ a = 10 + m 129 s.toNat := by omega
        simp [h1.1, h61, g1, g4]
      · by_cases g3 : kOn m s.toNat < 0
        · simp [h1.1, h61, g1, g3]
        · rw [sp_H_isUnder _ _ _ _ (by omega) ha]
          simp only [kr_Host_takenForKind, d_rLoc1, d_rLoc2, d_rFld1, d_rFld2, d_eInt, d_eLdc, d_eLdw, d_eLoc, d_eFld, d_lFld, d_eAI, d_eAZ, d_eAB, d_lAL, d_eAD, d_eLen, d_eAdd, d_eSub, d_eMul, d_eAnd, d_eOr, d_eXor, d_eShl, d_eShr, d_eUsh, d_lAdd, d_lSub, d_lMul, d_lAnd, d_lOr, d_lXor, d_lShl, d_lShr, d_eDiv, d_eRem, d_eCmp, d_eI2B, d_eI2S, d_eL2I, d_lI2L, d_lInt, d_lLdc, d_lLoc, d_eIte, d_lIte, d_eMax, d_eMin, d_eAbs, d_eAbove, d_eBodies, d_cQ, d_cZ, d_cNot, d_cAnd, d_cOr, d_gNil, d_gI, d_gL, d_gR, d_gD, d_xV, d_xS, d_xN, d_xT, d_eCall, d_lCall, d_eCallC, d_sNop, d_sSet, d_sSetL, d_sSetR, d_sSetQ, d_sInc, d_sPutI, d_sPutZ, d_sPutL, d_sPutA, d_sPutAZ, d_sPutAB, d_sPutAL, d_sPutD, d_sOpF, d_sOpA, d_sCall, d_sCopy, d_sSeq, d_sIf, d_sBrk, d_sCnt, d_sRetV, d_sRet, d_sRetL, d_sLp, d_tDef, d_tCase, d_sSw, d_sSwB, bIt_d, itb_0, itb_1, itb_2, itb_r, its_0, sqk_0, sqk_1, sqk_2, sqk_r, swk_0, swk_1, swk_r, bfin_r, bfin_ite, Option.bind_some, Option.map_some, Option.bind_none, Option.map_none, bind_ite, map_ite, cop0, cop1, cop2, cop3, cop4, cop5, opv0, opv1, opv2, opv3, brc_i, brc_z, two_ne_one, false_or, getI, getR, getL, List.getElem?_cons_zero, List.getElem?_cons_succ, List.set_cons_zero, List.set_cons_succ, bnl, if_true, if_false, true_or, or_true, decide_eq_true_eq, Bool.not_eq_true', decide_eq_false_iff_not, Bool.not_true, Bool.not_false, Bool.true_eq_false, Bool.false_eq_true, ite_not, reduceIte, ite01_0, ite01_1, Decidable.not_not, ne_eq, not_true_eq_false, not_false_eq_true, Function.comp_apply, decide_not, Bool.not_not, Bool.not_eq_false']
          have g5 : a < 7 := by omega
          by_cases g4 : (a = 0 ∨ kOn m s.toNat = a ∨ (a = 3 ∧ kOn m s.toNat = 4) ∨ (a = 5 ∧ kOn m s.toNat = 6)) <;> simp [h1.1, h61, g1, g3, g4, g5]
    simp only [B_V_taken, kr_V_taken, sp_within, sp_V_isShelf, d_rLoc1, d_rLoc2, d_rFld1, d_rFld2, d_eInt, d_eLdc, d_eLdw, d_eLoc, d_eFld, d_lFld, d_eAI, d_eAZ, d_eAB, d_lAL, d_eAD, d_eLen, d_eAdd, d_eSub, d_eMul, d_eAnd, d_eOr, d_eXor, d_eShl, d_eShr, d_eUsh, d_lAdd, d_lSub, d_lMul, d_lAnd, d_lOr, d_lXor, d_lShl, d_lShr, d_eDiv, d_eRem, d_eCmp, d_eI2B, d_eI2S, d_eL2I, d_lI2L, d_lInt, d_lLdc, d_lLoc, d_eIte, d_lIte, d_eMax, d_eMin, d_eAbs, d_eAbove, d_eBodies, d_cQ, d_cZ, d_cNot, d_cAnd, d_cOr, d_gNil, d_gI, d_gL, d_gR, d_gD, d_xV, d_xS, d_xN, d_xT, d_eCall, d_lCall, d_eCallC, d_sNop, d_sSet, d_sSetL, d_sSetR, d_sSetQ, d_sInc, d_sPutI, d_sPutZ, d_sPutL, d_sPutA, d_sPutAZ, d_sPutAB, d_sPutAL, d_sPutD, d_sOpF, d_sOpA, d_sCall, d_sCopy, d_sSeq, d_sIf, d_sBrk, d_sCnt, d_sRetV, d_sRet, d_sRetL, d_sLp, d_tDef, d_tCase, d_sSw, d_sSwB, bIt_d, itb_0, itb_1, itb_2, itb_r, its_0, sqk_0, sqk_1, sqk_2, sqk_r, swk_0, swk_1, swk_r, bfin_r, bfin_ite, Option.bind_some, Option.map_some, Option.bind_none, Option.map_none, bind_ite, map_ite, cop0, cop1, cop2, cop3, cop4, cop5, opv0, opv1, opv2, opv3, brc_i, brc_z, two_ne_one, false_or, getI, getR, getL, List.getElem?_cons_zero, List.getElem?_cons_succ, List.set_cons_zero, List.set_cons_succ, bnl, if_true, if_false, true_or, or_true, decide_eq_true_eq, Bool.not_eq_true', decide_eq_false_iff_not, Bool.not_true, Bool.not_false, Bool.true_eq_false, Bool.false_eq_true, ite_not, reduceIte, ite01_0, ite01_1, Decidable.not_not, ne_eq, not_true_eq_false, not_false_eq_true, Function.comp_apply, decide_not, Bool.not_not, Bool.not_eq_false']
    by_cases h2 : 10 ≤ a ∧ a ≤ 14
    · rw [f1]
      have e : i32 (a - 10) = a - 10 := i32_of (by omega) (by omega)
      have e2 : (m 129 s.toNat = a - 10) ↔ (a = 10 + m 129 s.toNat) := by omega
      rw [e]
      simp only [e2]
      unfold tkn
      have g5 : ¬ a < 7 := by omega
      simp [h1, h2, g5, bfin_r]
    · by_cases h3 : 0 ≤ a ∧ a ≤ 6
      · rw [f2 h3]
        simp [h1, h2, h3, bfin_r]
      · simp [h1, h2, h3]
  · simp only [B_V_taken, kr_V_taken, sp_within, sp_V_isShelf, d_rLoc1, d_rLoc2, d_rFld1, d_rFld2, d_eInt, d_eLdc, d_eLdw, d_eLoc, d_eFld, d_lFld, d_eAI, d_eAZ, d_eAB, d_lAL, d_eAD, d_eLen, d_eAdd, d_eSub, d_eMul, d_eAnd, d_eOr, d_eXor, d_eShl, d_eShr, d_eUsh, d_lAdd, d_lSub, d_lMul, d_lAnd, d_lOr, d_lXor, d_lShl, d_lShr, d_eDiv, d_eRem, d_eCmp, d_eI2B, d_eI2S, d_eL2I, d_lI2L, d_lInt, d_lLdc, d_lLoc, d_eIte, d_lIte, d_eMax, d_eMin, d_eAbs, d_eAbove, d_eBodies, d_cQ, d_cZ, d_cNot, d_cAnd, d_cOr, d_gNil, d_gI, d_gL, d_gR, d_gD, d_xV, d_xS, d_xN, d_xT, d_eCall, d_lCall, d_eCallC, d_sNop, d_sSet, d_sSetL, d_sSetR, d_sSetQ, d_sInc, d_sPutI, d_sPutZ, d_sPutL, d_sPutA, d_sPutAZ, d_sPutAB, d_sPutAL, d_sPutD, d_sOpF, d_sOpA, d_sCall, d_sCopy, d_sSeq, d_sIf, d_sBrk, d_sCnt, d_sRetV, d_sRet, d_sRetL, d_sLp, d_tDef, d_tCase, d_sSw, d_sSwB, bIt_d, itb_0, itb_1, itb_2, itb_r, its_0, sqk_0, sqk_1, sqk_2, sqk_r, swk_0, swk_1, swk_r, bfin_r, bfin_ite, Option.bind_some, Option.map_some, Option.bind_none, Option.map_none, bind_ite, map_ite, cop0, cop1, cop2, cop3, cop4, cop5, opv0, opv1, opv2, opv3, brc_i, brc_z, two_ne_one, false_or, getI, getR, getL, List.getElem?_cons_zero, List.getElem?_cons_succ, List.set_cons_zero, List.set_cons_succ, bnl, if_true, if_false, true_or, or_true, decide_eq_true_eq, Bool.not_eq_true', decide_eq_false_iff_not, Bool.not_true, Bool.not_false, Bool.true_eq_false, Bool.false_eq_true, ite_not, reduceIte, ite01_0, ite01_1, Decidable.not_not, ne_eq, not_true_eq_false, not_false_eq_true, Function.comp_apply, decide_not, Bool.not_not, Bool.not_eq_false']
    simp [h1]
theorem sp_M_taken (n : Nat) (s a : Int) (m : bM) (hR : Rel m m) (hH : HostOK m) : sem (n + 5) 110 [aR 132, aI s, aI a] m = some (m, if (0 ≤ s ∧ s ≤ 3) ∧ ((0 ≤ a ∧ a ≤ 6) ∨ (10 ≤ a ∧ a ≤ 14)) then tkn m s.toNat a else -1) := by
  rw [st_M_taken]
  by_cases h1 : 0 ≤ s ∧ s ≤ 3
  · have hsh := HostOK_shelf hH s.toNat (by omega)
    have hk := kOn_in (Rel_s hR) s.toNat hsh
    unfold shelfR at hsh
    have h61 : s < 4 := by omega
    simp only [B_M_taken, kr_M_taken, sp_in, d_rLoc1, d_rLoc2, d_rFld1, d_rFld2, d_eInt, d_eLdc, d_eLdw, d_eLoc, d_eFld, d_lFld, d_eAI, d_eAZ, d_eAB, d_lAL, d_eAD, d_eLen, d_eAdd, d_eSub, d_eMul, d_eAnd, d_eOr, d_eXor, d_eShl, d_eShr, d_eUsh, d_lAdd, d_lSub, d_lMul, d_lAnd, d_lOr, d_lXor, d_lShl, d_lShr, d_eDiv, d_eRem, d_eCmp, d_eI2B, d_eI2S, d_eL2I, d_lI2L, d_lInt, d_lLdc, d_lLoc, d_eIte, d_lIte, d_eMax, d_eMin, d_eAbs, d_eAbove, d_eBodies, d_cQ, d_cZ, d_cNot, d_cAnd, d_cOr, d_gNil, d_gI, d_gL, d_gR, d_gD, d_xV, d_xS, d_xN, d_xT, d_eCall, d_lCall, d_eCallC, d_sNop, d_sSet, d_sSetL, d_sSetR, d_sSetQ, d_sInc, d_sPutI, d_sPutZ, d_sPutL, d_sPutA, d_sPutAZ, d_sPutAB, d_sPutAL, d_sPutD, d_sOpF, d_sOpA, d_sCall, d_sCopy, d_sSeq, d_sIf, d_sBrk, d_sCnt, d_sRetV, d_sRet, d_sRetL, d_sLp, d_tDef, d_tCase, d_sSw, d_sSwB, bIt_d, itb_0, itb_1, itb_2, itb_r, its_0, sqk_0, sqk_1, sqk_2, sqk_r, swk_0, swk_1, swk_r, bfin_r, bfin_ite, Option.bind_some, Option.map_some, Option.bind_none, Option.map_none, bind_ite, map_ite, cop0, cop1, cop2, cop3, cop4, cop5, opv0, opv1, opv2, opv3, brc_i, brc_z, two_ne_one, false_or, getI, getR, getL, List.getElem?_cons_zero, List.getElem?_cons_succ, List.set_cons_zero, List.set_cons_succ, bnl, if_true, if_false, true_or, or_true, decide_eq_true_eq, Bool.not_eq_true', decide_eq_false_iff_not, Bool.not_true, Bool.not_false, Bool.true_eq_false, Bool.false_eq_true, ite_not, reduceIte, ite01_0, ite01_1, Decidable.not_not, ne_eq, not_true_eq_false, not_false_eq_true, Function.comp_apply, decide_not, Bool.not_not, Bool.not_eq_false']
    have kk := fun n => sp_M_kindOn n s m h1 hR hH
    simp only [kr_M_taken, kk, sp_M_isUnder, d_rLoc1, d_rLoc2, d_rFld1, d_rFld2, d_eInt, d_eLdc, d_eLdw, d_eLoc, d_eFld, d_lFld, d_eAI, d_eAZ, d_eAB, d_lAL, d_eAD, d_eLen, d_eAdd, d_eSub, d_eMul, d_eAnd, d_eOr, d_eXor, d_eShl, d_eShr, d_eUsh, d_lAdd, d_lSub, d_lMul, d_lAnd, d_lOr, d_lXor, d_lShl, d_lShr, d_eDiv, d_eRem, d_eCmp, d_eI2B, d_eI2S, d_eL2I, d_lI2L, d_lInt, d_lLdc, d_lLoc, d_eIte, d_lIte, d_eMax, d_eMin, d_eAbs, d_eAbove, d_eBodies, d_cQ, d_cZ, d_cNot, d_cAnd, d_cOr, d_gNil, d_gI, d_gL, d_gR, d_gD, d_xV, d_xS, d_xN, d_xT, d_eCall, d_lCall, d_eCallC, d_sNop, d_sSet, d_sSetL, d_sSetR, d_sSetQ, d_sInc, d_sPutI, d_sPutZ, d_sPutL, d_sPutA, d_sPutAZ, d_sPutAB, d_sPutAL, d_sPutD, d_sOpF, d_sOpA, d_sCall, d_sCopy, d_sSeq, d_sIf, d_sBrk, d_sCnt, d_sRetV, d_sRet, d_sRetL, d_sLp, d_tDef, d_tCase, d_sSw, d_sSwB, bIt_d, itb_0, itb_1, itb_2, itb_r, its_0, sqk_0, sqk_1, sqk_2, sqk_r, swk_0, swk_1, swk_r, bfin_r, bfin_ite, Option.bind_some, Option.map_some, Option.bind_none, Option.map_none, bind_ite, map_ite, cop0, cop1, cop2, cop3, cop4, cop5, opv0, opv1, opv2, opv3, brc_i, brc_z, two_ne_one, false_or, getI, getR, getL, List.getElem?_cons_zero, List.getElem?_cons_succ, List.set_cons_zero, List.set_cons_succ, bnl, if_true, if_false, true_or, or_true, decide_eq_true_eq, Bool.not_eq_true', decide_eq_false_iff_not, Bool.not_true, Bool.not_false, Bool.true_eq_false, Bool.false_eq_true, ite_not, reduceIte, ite01_0, ite01_1, Decidable.not_not, ne_eq, not_true_eq_false, not_false_eq_true, Function.comp_apply, decide_not, Bool.not_not, Bool.not_eq_false']
    unfold tkn
    by_cases h2 : (0 ≤ a ∧ a ≤ 6) ∨ (10 ≤ a ∧ a ≤ 14)
    · by_cases h3 : 0 < kOn m s.toNat
      · have g1 : ¬ m 128 s.toNat = 3 := by omega
        have g2 : ¬ kOn m s.toNat < 0 := by omega
        have g3 : m 201 s.toNat = m 129 s.toNat := by omega
        by_cases g5 : a < 7
        · have h4 : 0 ≤ a ∧ a ≤ 6 := by omega
          by_cases g4 : (a = 0 ∨ kOn m s.toNat = a ∨ (a = 3 ∧ kOn m s.toNat = 4) ∨ (a = 5 ∧ kOn m s.toNat = 6)) <;> simp [h1, h61, h3, h4, g1, g2, g3, g4, g5]
        · have h4 : ¬ (0 ≤ a ∧ a ≤ 6) := by omega
          have h5 : 10 ≤ a ∧ a ≤ 14 := by omega
          simp [h1, h61, h3, h4, h5, g1, g2, g5]
      · have g2 : kOn m s.toNat < 0 := by omega
        by_cases h6 : m 128 s.toNat = 3
        · have g3 : m 200 s.toNat = 10 + m 129 s.toNat := by omega
          have g4 : m 202 s.toNat = m 130 s.toNat := by omega
          have g5 : ¬ (10 + m 129 s.toNat < 10) := by omega
          have g7 : (10 + m 129 s.toNat = a) ↔ (a = 10 + m 129 s.toNat) := by omega
          by_cases g8 : a = 10 + m 129 s.toNat
          · have h5 : 10 ≤ a ∧ a ≤ 14 := by omega
            have h4 : ¬ (0 ≤ a ∧ a ≤ 6) := by omega
            rw [g3, g4]
            simp only [g7]
            have g9 : (a = 10 + m 129 s.toNat) = True := eq_true g8
            simp only [g9]
            simp [h1, h61, h3, h4, h5, h6, g5]
          · rw [g3, g4]
            simp only [g7]
            by_cases h4 : 0 ≤ a ∧ a ≤ 6
            · simp [h1, h61, h3, h4, h6, g5, g8]
            · have h5 : 10 ≤ a ∧ a ≤ 14 := by omega
              simp [h1, h61, h3, h4, h5, h6, g5, g8]
        · have g3 : m 200 s.toNat < 10 := by omega
          by_cases h4 : 0 ≤ a ∧ a ≤ 6
          · simp [h1, h61, h3, h4, h6, g2, g3]
          · have h5 : 10 ≤ a ∧ a ≤ 14 := by omega
            simp [h1, h61, h3, h4, h5, h6, g2, g3]
    · have h3 : ¬ (0 ≤ a ∧ a ≤ 6) := fun q => h2 (Or.inl q)
      have h4 : ¬ (10 ≤ a ∧ a ≤ 14) := fun q => h2 (Or.inr q)
      simp [h1, h3, h4]
  · simp only [B_M_taken, kr_M_taken, sp_in, d_rLoc1, d_rLoc2, d_rFld1, d_rFld2, d_eInt, d_eLdc, d_eLdw, d_eLoc, d_eFld, d_lFld, d_eAI, d_eAZ, d_eAB, d_lAL, d_eAD, d_eLen, d_eAdd, d_eSub, d_eMul, d_eAnd, d_eOr, d_eXor, d_eShl, d_eShr, d_eUsh, d_lAdd, d_lSub, d_lMul, d_lAnd, d_lOr, d_lXor, d_lShl, d_lShr, d_eDiv, d_eRem, d_eCmp, d_eI2B, d_eI2S, d_eL2I, d_lI2L, d_lInt, d_lLdc, d_lLoc, d_eIte, d_lIte, d_eMax, d_eMin, d_eAbs, d_eAbove, d_eBodies, d_cQ, d_cZ, d_cNot, d_cAnd, d_cOr, d_gNil, d_gI, d_gL, d_gR, d_gD, d_xV, d_xS, d_xN, d_xT, d_eCall, d_lCall, d_eCallC, d_sNop, d_sSet, d_sSetL, d_sSetR, d_sSetQ, d_sInc, d_sPutI, d_sPutZ, d_sPutL, d_sPutA, d_sPutAZ, d_sPutAB, d_sPutAL, d_sPutD, d_sOpF, d_sOpA, d_sCall, d_sCopy, d_sSeq, d_sIf, d_sBrk, d_sCnt, d_sRetV, d_sRet, d_sRetL, d_sLp, d_tDef, d_tCase, d_sSw, d_sSwB, bIt_d, itb_0, itb_1, itb_2, itb_r, its_0, sqk_0, sqk_1, sqk_2, sqk_r, swk_0, swk_1, swk_r, bfin_r, bfin_ite, Option.bind_some, Option.map_some, Option.bind_none, Option.map_none, bind_ite, map_ite, cop0, cop1, cop2, cop3, cop4, cop5, opv0, opv1, opv2, opv3, brc_i, brc_z, two_ne_one, false_or, getI, getR, getL, List.getElem?_cons_zero, List.getElem?_cons_succ, List.set_cons_zero, List.set_cons_succ, bnl, if_true, if_false, true_or, or_true, decide_eq_true_eq, Bool.not_eq_true', decide_eq_false_iff_not, Bool.not_true, Bool.not_false, Bool.true_eq_false, Bool.false_eq_true, ite_not, reduceIte, ite01_0, ite01_1, Decidable.not_not, ne_eq, not_true_eq_false, not_false_eq_true, Function.comp_apply, decide_not, Bool.not_not, Bool.not_eq_false']
    simp [h1]
theorem step_taken {n i : Nat} {m : bM} (hI : Inv i m) (hi : i < 100) (s a : Int) : ∃ m1 m2 v, sem (n + 5) 52 [aR 0, aI s, aI a] m = some (m1, v) ∧ sem (n + 5) 110 [aR 132, aI s, aI a] m1 = some (m2, v) ∧ Inv (i + 1) m2 :=
  ⟨_, _, _, sp_V_taken n s a m (Rel_s (Inv_rel hI)) (Inv_host hI), sp_M_taken n s a m (Inv_rel hI) (Inv_host hI), Inv_same hI⟩
