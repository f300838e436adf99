/-! ===== the host: put, kinds ===== -/
theorem sp_V_put (n : Nat) (s x v : Int) (m : bM) (hz : ∀ k, k < 4 → 0 ≤ m 125 k → 0 ≤ m 126 k ∧ m 126 k ≤ 40) : sem (n + 3) 49 [aR 0, aI s, aI x, aI v] m = if 0 ≤ s ∧ s ≤ 3 then (if m 125 s.toNat < 0 then some (m, -11) else if 0 ≤ x ∧ x < m 126 s.toNat then some (bwr m 127 (40 * s.toNat + x.toNat) (nrw v (m 125 s.toNat)), 1) else some (m, -12)) else some (m, -1) := by
  rw [st_V_put]
  simp only [B_V_put, kr_V_put, sp_within, sp_V_isSheet, sp_V_narrowed, d_rLoc1, d_rLoc2, d_rFld1, d_rFld2, d_eInt, d_eLdc, d_eLdw, d_eLoc, d_eFld, d_lFld, d_eAI, d_eAZ, d_eAB, d_lAL, d_eAD, d_eLen, d_eAdd, d_eSub, d_eMul, d_eAnd, d_eOr, d_eXor, d_eShl, d_eShr, d_eUsh, d_lAdd, d_lSub, d_lMul, d_lAnd, d_lOr, d_lXor, d_lShl, d_lShr, d_eDiv, d_eRem, d_eCmp, d_eI2B, d_eI2S, d_eL2I, d_lI2L, d_lInt, d_lLdc, d_lLoc, d_eIte, d_lIte, d_eMax, d_eMin, d_eAbs, d_eAbove, d_eBodies, d_cQ, d_cZ, d_cNot, d_cAnd, d_cOr, d_gNil, d_gI, d_gL, d_gR, d_gD, d_xV, d_xS, d_xN, d_xT, d_eCall, d_lCall, d_eCallC, d_sNop, d_sSet, d_sSetL, d_sSetR, d_sSetQ, d_sInc, d_sPutI, d_sPutZ, d_sPutL, d_sPutA, d_sPutAZ, d_sPutAB, d_sPutAL, d_sPutD, d_sOpF, d_sOpA, d_sCall, d_sCopy, d_sSeq, d_sIf, d_sBrk, d_sCnt, d_sRetV, d_sRet, d_sRetL, d_sLp, d_tDef, d_tCase, d_sSw, d_sSwB, bIt_d, itb_0, itb_1, itb_2, itb_r, its_0, sqk_0, sqk_1, sqk_2, sqk_r, swk_0, swk_1, swk_r, bfin_r, bfin_ite, Option.bind_some, Option.map_some, Option.bind_none, Option.map_none, bind_ite, map_ite, cop0, cop1, cop2, cop3, cop4, cop5, opv0, opv1, opv2, opv3, brc_i, brc_z, two_ne_one, false_or, getI, getR, getL, List.getElem?_cons_zero, List.getElem?_cons_succ, List.set_cons_zero, List.set_cons_succ, bnl, if_true, if_false, true_or, or_true, decide_eq_true_eq, Bool.not_eq_true', decide_eq_false_iff_not, Bool.not_true, Bool.not_false, Bool.true_eq_false, Bool.false_eq_true, ite_not, reduceIte, ite01_0, ite01_1, Decidable.not_not, ne_eq, not_true_eq_false, not_false_eq_true, Function.comp_apply, decide_not, Bool.not_not, Bool.not_eq_false']
  by_cases h1 : 0 ≤ s ∧ s ≤ 3 <;> simp only [h1, and_self, if_true, if_false, not_true_eq_false, not_false_eq_true]
  · have h61 : s < ((4 : Nat) : Int) := by omega
    simp only [h61, and_self, if_true]
    by_cases h3 : m 125 s.toNat < 0
    · simp [h3]
    · have h5 := hz s.toNat (by omega) (by omega)
      have e : i32 (m 126 s.toNat - 1) = m 126 s.toNat - 1 := i32_of (by omega) (by omega)
      have e2 : (0 ≤ x ∧ x ≤ m 126 s.toNat - 1) ↔ (0 ≤ x ∧ x < m 126 s.toNat) := by omega
      rw [e]
      simp only [e2]
      by_cases h7 : 0 ≤ x ∧ x < m 126 s.toNat
      · have e3 : i32 (i32 (s * 40) + x) = s * 40 + x := by rw [i32_of (z := s * 40) (by omega) (by omega), i32_of (by omega) (by omega)]
        have e4 : (s * 40 + x).toNat = 40 * s.toNat + x.toNat := by omega
        simp [h3, h7, e3, e4, show 0 ≤ s * 40 + x ∧ s * 40 + x < 160 by omega]
      · simp [h3, h7]
theorem sp_M_put (n : Nat) (s x v : Int) (m : bM) (hz : ∀ k, k < 4 → 0 ≤ m 197 k → 0 ≤ m 198 k ∧ m 198 k ≤ 40) : sem (n + 3) 107 [aR 132, aI s, aI x, aI v] m = if 0 ≤ s ∧ s ≤ 3 then (if m 197 s.toNat < 0 then some (m, -11) else if 0 ≤ x ∧ x < m 198 s.toNat then some (bwr m 199 (40 * s.toNat + x.toNat) (nrw v (m 197 s.toNat)), 1) else some (m, -12)) else some (m, -1) := by
  rw [st_M_put]
  simp only [B_M_put, kr_M_put, sp_in, sp_M_isSheet, sp_M_narrowed, d_rLoc1, d_rLoc2, d_rFld1, d_rFld2, d_eInt, d_eLdc, d_eLdw, d_eLoc, d_eFld, d_lFld, d_eAI, d_eAZ, d_eAB, d_lAL, d_eAD, d_eLen, d_eAdd, d_eSub, d_eMul, d_eAnd, d_eOr, d_eXor, d_eShl, d_eShr, d_eUsh, d_lAdd, d_lSub, d_lMul, d_lAnd, d_lOr, d_lXor, d_lShl, d_lShr, d_eDiv, d_eRem, d_eCmp, d_eI2B, d_eI2S, d_eL2I, d_lI2L, d_lInt, d_lLdc, d_lLoc, d_eIte, d_lIte, d_eMax, d_eMin, d_eAbs, d_eAbove, d_eBodies, d_cQ, d_cZ, d_cNot, d_cAnd, d_cOr, d_gNil, d_gI, d_gL, d_gR, d_gD, d_xV, d_xS, d_xN, d_xT, d_eCall, d_lCall, d_eCallC, d_sNop, d_sSet, d_sSetL, d_sSetR, d_sSetQ, d_sInc, d_sPutI, d_sPutZ, d_sPutL, d_sPutA, d_sPutAZ, d_sPutAB, d_sPutAL, d_sPutD, d_sOpF, d_sOpA, d_sCall, d_sCopy, d_sSeq, d_sIf, d_sBrk, d_sCnt, d_sRetV, d_sRet, d_sRetL, d_sLp, d_tDef, d_tCase, d_sSw, d_sSwB, bIt_d, itb_0, itb_1, itb_2, itb_r, its_0, sqk_0, sqk_1, sqk_2, sqk_r, swk_0, swk_1, swk_r, bfin_r, bfin_ite, Option.bind_some, Option.map_some, Option.bind_none, Option.map_none, bind_ite, map_ite, cop0, cop1, cop2, cop3, cop4, cop5, opv0, opv1, opv2, opv3, brc_i, brc_z, two_ne_one, false_or, getI, getR, getL, List.getElem?_cons_zero, List.getElem?_cons_succ, List.set_cons_zero, List.set_cons_succ, bnl, if_true, if_false, true_or, or_true, decide_eq_true_eq, Bool.not_eq_true', decide_eq_false_iff_not, Bool.not_true, Bool.not_false, Bool.true_eq_false, Bool.false_eq_true, ite_not, reduceIte, ite01_0, ite01_1, Decidable.not_not, ne_eq, not_true_eq_false, not_false_eq_true, Function.comp_apply, decide_not, Bool.not_not, Bool.not_eq_false']
  by_cases h1 : 0 ≤ s ∧ s ≤ 3 <;> simp only [h1, and_self, if_true, if_false, not_true_eq_false, not_false_eq_true]
  · have h61 : s < ((4 : Nat) : Int) := by omega
    simp only [h61, and_self, if_true]
    by_cases h3 : m 197 s.toNat < 0
    · simp [h3]
    · have h5 := hz s.toNat (by omega) (by omega)
      have e : i32 (m 198 s.toNat - 1) = m 198 s.toNat - 1 := i32_of (by omega) (by omega)
      have e2 : (0 ≤ x ∧ x ≤ m 198 s.toNat - 1) ↔ (0 ≤ x ∧ x < m 198 s.toNat) := by omega
      rw [e]
      simp only [e2]
      by_cases h7 : 0 ≤ x ∧ x < m 198 s.toNat
      · have e3 : i32 (i32 (40 * s) + x) = 40 * s + x := by rw [i32_of (z := 40 * s) (by omega) (by omega), i32_of (by omega) (by omega)]
        have e4 : (40 * s + x).toNat = 40 * s.toNat + x.toNat := by omega
        simp [h3, h7, e3, e4, show 0 ≤ 40 * s + x ∧ 40 * s + x < 160 by omega]
      · simp [h3, h7]
theorem step_put {n i : Nat} {m : bM} (hI : Inv i m) (hi : i < 100) (s x y : Int) (hv : in32 y) : ∃ m1 m2 v, sem (n + 3) 49 [aR 0, aI s, aI x, aI y] m = some (m1, v) ∧ sem (n + 3) 107 [aR 132, aI s, aI x, aI y] m1 = some (m2, v) ∧ Inv (i + 1) m2 := by
  have hR := Inv_rel hI
  have hN := Inv_ngt hI
  have hage := NgtC_age hN
  have hH := Inv_host hI
  have hz1 : ∀ k, k < 4 → 0 ≤ m 125 k → 0 ≤ m 126 k ∧ m 126 k ≤ 40 := fun k hk h => ⟨(HostOK_size hH k hk h).2.1, (HostOK_size hH k hk h).2.2.1⟩
  have hz2 : ∀ k, k < 4 → 0 ≤ m 197 k → 0 ≤ m 198 k ∧ m 198 k ≤ 40 := fun k hk h => by
    rw [(HostOK_sort hH k hk).1] at h
    rw [(HostOK_size hH k hk h).1]; exact hz1 k hk h
  by_cases hc : 0 ≤ s ∧ s ≤ 3
  · have e1 := (sp_V_put n s x y m hz1).trans (if_pos hc)
    have hs := HostOK_sort hH s.toNat (by omega)
    by_cases h3 : m 125 s.toNat < 0
    · rw [if_pos h3] at e1
      have e2 := (sp_M_put n s x y m hz2).trans ((if_pos hc).trans (if_pos (by rw [hs.1]; exact h3)))
      exact ⟨_, _, _, e1, e2, Inv_same hI⟩
    · rw [if_neg h3] at e1
      have h5 := HostOK_size hH s.toNat (by omega) (by omega)
      by_cases h6 : 0 ≤ x ∧ x < m 126 s.toNat
      · rw [if_pos h6] at e1
        obtain ⟨j, hj⟩ : ∃ j, j = 40 * s.toNat + x.toNat := ⟨_, rfl⟩
        obtain ⟨z, hz⟩ : ∃ z, z = nrw y (m 125 s.toNat) := ⟨_, rfl⟩
        have hz0 : in32 z := by rw [hz]; exact nrw_in hv
        rw [← hj, ← hz] at e1
        obtain ⟨m1, hm1⟩ : ∃ m1, m1 = bwr m 127 j z := ⟨_, rfl⟩
        have o1 : ∀ i, i ≠ 127 → m1 i = m i := fun i h => by rw [hm1, bwr_ne _ _ h]
        have e2 := (sp_M_put n s x y m1 (by rw [o1 197 (by decide), o1 198 (by decide)]; exact hz2)).trans ((if_pos hc).trans ((if_neg (by rw [o1 197 (by decide), hs.1]; exact h3)).trans (if_pos (by rw [o1 198 (by decide), h5.1]; exact h6))))
        rw [o1 197 (by decide), hs.1, ← hj, ← hz, hm1] at e2
        refine ⟨_, _, _, e1, e2, Inv_ht hI (fun i a => by simp (disch := omega) only [bwr_ne]) (fun k a => by simp (disch := omega) only [bwr_ne]) ?_⟩
        obtain ⟨v1, v2, v3, v4, v5, v6⟩ := hH
        refine ⟨?_, ?_, ?_, ?_, ?_, ?_⟩
        · simp (disch := omega) only [fgN, fgP, bwr_ne, bwr_ne2, bwr_eq2]
          exact v1
        · intro s2 hs2
          simp (disch := omega) only [bwr_ne]
          intro h0
          obtain ⟨w1, w2, w3, w4⟩ := v2 s2 hs2 h0
          refine ⟨w1, w2, w3, fun i hi => ?_⟩
          simp (disch := omega) only [bwr_ne, bwr_if]
          split
          · rfl
          · exact w4 i hi
        · simp (disch := omega) only [fgN, fgP, bwr_ne, bwr_ne2, bwr_eq2]
          exact v3
        · simp (disch := omega) only [fgN, fgP, bwr_ne, bwr_ne2, bwr_eq2]
          exact v4
        · simp (disch := omega) only [fgN, fgP, bwr_ne, bwr_ne2, bwr_eq2]
          exact v5
        · intro k hk
          simp (disch := omega) only [bwr_ne, bwr_if]
          split
          · exact hz0
          · exact v6 k hk
      · rw [if_neg h6] at e1
        have e2 := (sp_M_put n s x y m hz2).trans ((if_pos hc).trans ((if_neg (by rw [hs.1]; exact h3)).trans (if_neg (by rw [h5.1]; exact h6))))
        exact ⟨_, _, _, e1, e2, Inv_same hI⟩
  · exact ⟨m, m, -1, (sp_V_put n s x y m hz1).trans (if_neg hc), (sp_M_put n s x y m hz2).trans (if_neg hc), Inv_same hI⟩
/-- the kind of what a shelf holds, -1: none -/
def kOn (m : bM) (s : Nat) : Int := if m 128 s = 1 ∧ m 129 s < m 17 9 then (if m 18 (m 129 s).toNat = 3 ∧ m 26 (m 19 (m 129 s).toNat).toNat = 1 then 4 else m 18 (m 129 s).toNat) else if m 128 s = 2 ∧ m 129 s < m 79 6 then (if m 83 (m 129 s).toNat = -3 then 5 else 6) else -1
theorem sp_isDoubtedWord (n : Nat) (r : Int) (m : bM) (hr : 0 ≤ r ∧ r < 16) (hS : RelS m m) : sem (n + 1) 258 [aR 17, aI r] m = some (m, if m 18 r.toNat = 3 ∧ m 26 (m 19 r.toNat).toNat = 1 then 1 else 0) := by
  rw [st_Seen_isDoubtedWord]
  simp only [B_Seen_isDoubtedWord, kr_Seen_isDoubtedWord, d_rLoc1, d_rLoc2, d_rFld1, d_rFld2, d_eInt, d_eLdc, d_eLdw, d_eLoc, d_eFld, d_lFld, d_eAI, d_eAZ, d_eAB, d_lAL, d_eAD, d_eLen, d_eAdd, d_eSub, d_eMul, d_eAnd, d_eOr, d_eXor, d_eShl, d_eShr, d_eUsh, d_lAdd, d_lSub, d_lMul, d_lAnd, d_lOr, d_lXor, d_lShl, d_lShr, d_eDiv, d_eRem, d_eCmp, d_eI2B, d_eI2S, d_eL2I, d_lI2L, d_lInt, d_lLdc, d_lLoc, d_eIte, d_lIte, d_eMax, d_eMin, d_eAbs, d_eAbove, d_eBodies, d_cQ, d_cZ, d_cNot, d_cAnd, d_cOr, d_gNil, d_gI, d_gL, d_gR, d_gD, d_xV, d_xS, d_xN, d_xT, d_eCall, d_lCall, d_eCallC, d_sNop, d_sSet, d_sSetL, d_sSetR, d_sSetQ, d_sInc, d_sPutI, d_sPutZ, d_sPutL, d_sPutA, d_sPutAZ, d_sPutAB, d_sPutAL, d_sPutD, d_sOpF, d_sOpA, d_sCall, d_sCopy, d_sSeq, d_sIf, d_sBrk, d_sCnt, d_sRetV, d_sRet, d_sRetL, d_sLp, d_tDef, d_tCase, d_sSw, d_sSwB, bIt_d, itb_0, itb_1, itb_2, itb_r, its_0, sqk_0, sqk_1, sqk_2, sqk_r, swk_0, swk_1, swk_r, bfin_r, bfin_ite, Option.bind_some, Option.map_some, Option.bind_none, Option.map_none, bind_ite, map_ite, cop0, cop1, cop2, cop3, cop4, cop5, opv0, opv1, opv2, opv3, brc_i, brc_z, two_ne_one, false_or, getI, getR, getL, List.getElem?_cons_zero, List.getElem?_cons_succ, List.set_cons_zero, List.set_cons_succ, bnl, if_true, if_false, true_or, or_true, decide_eq_true_eq, Bool.not_eq_true', decide_eq_false_iff_not, Bool.not_true, Bool.not_false, Bool.true_eq_false, Bool.false_eq_true, ite_not, reduceIte, ite01_0, ite01_1, Decidable.not_not, ne_eq, not_true_eq_false, not_false_eq_true, Function.comp_apply, decide_not, Bool.not_not, Bool.not_eq_false']
  have h61 : r < ((16 : Nat) : Int) := by omega
  simp only [hr.1, h61, and_self, if_true]
  by_cases h1 : m 18 r.toNat = 3
  · have h2 := RelS_rplace hS r.toNat (by omega)
    have h3 := RelS_rplace3 hS r.toNat (by omega) h1
    have h4 : m 19 r.toNat < ((4 : Nat) : Int) := by omega
    rcases RelS_rdoub hS (m 19 r.toNat).toNat (by omega) with h5 | h5
    · simp [h1, h2.1, show m 19 r.toNat < 4 by omega, h5]
    · simp [h1, h2.1, show m 19 r.toNat < 4 by omega, h5]
  · simp [h1]
theorem sp_kindOn (n : Nat) (s : Int) (m : bM) (hs : 0 ≤ s ∧ s ≤ 3) (hS : RelS m m) (hH : HostOK m) : sem (n + 2) 274 [aR 124, aI s] m = some (m, kOn m s.toNat) := by
  rw [st_Host_kindOn]
  simp only [B_Host_kindOn, kr_Host_kindOn, d_rLoc1, d_rLoc2, d_rFld1, d_rFld2, d_eInt, d_eLdc, d_eLdw, d_eLoc, d_eFld, d_lFld, d_eAI, d_eAZ, d_eAB, d_lAL, d_eAD, d_eLen, d_eAdd, d_eSub, d_eMul, d_eAnd, d_eOr, d_eXor, d_eShl, d_eShr, d_eUsh, d_lAdd, d_lSub, d_lMul, d_lAnd, d_lOr, d_lXor, d_lShl, d_lShr, d_eDiv, d_eRem, d_eCmp, d_eI2B, d_eI2S, d_eL2I, d_lI2L, d_lInt, d_lLdc, d_lLoc, d_eIte, d_lIte, d_eMax, d_eMin, d_eAbs, d_eAbove, d_eBodies, d_cQ, d_cZ, d_cNot, d_cAnd, d_cOr, d_gNil, d_gI, d_gL, d_gR, d_gD, d_xV, d_xS, d_xN, d_xT, d_eCall, d_lCall, d_eCallC, d_sNop, d_sSet, d_sSetL, d_sSetR, d_sSetQ, d_sInc, d_sPutI, d_sPutZ, d_sPutL, d_sPutA, d_sPutAZ, d_sPutAB, d_sPutAL, d_sPutD, d_sOpF, d_sOpA, d_sCall, d_sCopy, d_sSeq, d_sIf, d_sBrk, d_sCnt, d_sRetV, d_sRet, d_sRetL, d_sLp, d_tDef, d_tCase, d_sSw, d_sSwB, bIt_d, itb_0, itb_1, itb_2, itb_r, its_0, sqk_0, sqk_1, sqk_2, sqk_r, swk_0, swk_1, swk_r, bfin_r, bfin_ite, Option.bind_some, Option.map_some, Option.bind_none, Option.map_none, bind_ite, map_ite, cop0, cop1, cop2, cop3, cop4, cop5, opv0, opv1, opv2, opv3, brc_i, brc_z, two_ne_one, false_or, getI, getR, getL, List.getElem?_cons_zero, List.getElem?_cons_succ, List.set_cons_zero, List.set_cons_succ, bnl, if_true, if_false, true_or, or_true, decide_eq_true_eq, Bool.not_eq_true', decide_eq_false_iff_not, Bool.not_true, Bool.not_false, Bool.true_eq_false, Bool.false_eq_true, ite_not, reduceIte, ite01_0, ite01_1, Decidable.not_not, ne_eq, not_true_eq_false, not_false_eq_true, Function.comp_apply, decide_not, Bool.not_not, Bool.not_eq_false']
  have h61 : s < ((4 : Nat) : Int) := by omega
  simp only [hs.1, h61, and_self, if_true]
  unfold kOn
  have hsh := HostOK_shelf hH s.toNat (by omega)
  unfold shelfR at hsh
  by_cases h1 : m 128 s.toNat = 1
  · have hn : 0 ≤ m 129 s.toNat ∧ m 129 s.toNat < 16 := by omega
    have hn2 : m 129 s.toNat < ((16 : Nat) : Int) := by omega
    rw [sp_isDoubtedWord _ _ _ hn hS]
    simp only [kr_Host_kindOn, d_rLoc1, d_rLoc2, d_rFld1, d_rFld2, d_eInt, d_eLdc, d_eLdw, d_eLoc, d_eFld, d_lFld, d_eAI, d_eAZ, d_eAB, d_lAL, d_eAD, d_eLen, d_eAdd, d_eSub, d_eMul, d_eAnd, d_eOr, d_eXor, d_eShl, d_eShr, d_eUsh, d_lAdd, d_lSub, d_lMul, d_lAnd, d_lOr, d_lXor, d_lShl, d_lShr, d_eDiv, d_eRem, d_eCmp, d_eI2B, d_eI2S, d_eL2I, d_lI2L, d_lInt, d_lLdc, d_lLoc, d_eIte, d_lIte, d_eMax, d_eMin, d_eAbs, d_eAbove, d_eBodies, d_cQ, d_cZ, d_cNot, d_cAnd, d_cOr, d_gNil, d_gI, d_gL, d_gR, d_gD, d_xV, d_xS, d_xN, d_xT, d_eCall, d_lCall, d_eCallC, d_sNop, d_sSet, d_sSetL, d_sSetR, d_sSetQ, d_sInc, d_sPutI, d_sPutZ, d_sPutL, d_sPutA, d_sPutAZ, d_sPutAB, d_sPutAL, d_sPutD, d_sOpF, d_sOpA, d_sCall, d_sCopy, d_sSeq, d_sIf, d_sBrk, d_sCnt, d_sRetV, d_sRet, d_sRetL, d_sLp, d_tDef, d_tCase, d_sSw, d_sSwB, bIt_d, itb_0, itb_1, itb_2, itb_r, its_0, sqk_0, sqk_1, sqk_2, sqk_r, swk_0, swk_1, swk_r, bfin_r, bfin_ite, Option.bind_some, Option.map_some, Option.bind_none, Option.map_none, bind_ite, map_ite, cop0, cop1, cop2, cop3, cop4, cop5, opv0, opv1, opv2, opv3, brc_i, brc_z, two_ne_one, false_or, getI, getR, getL, List.getElem?_cons_zero, List.getElem?_cons_succ, List.set_cons_zero, List.set_cons_succ, bnl, if_true, if_false, true_or, or_true, decide_eq_true_eq, Bool.not_eq_true', decide_eq_false_iff_not, Bool.not_true, Bool.not_false, Bool.true_eq_false, Bool.false_eq_true, ite_not, reduceIte, ite01_0, ite01_1, Decidable.not_not, ne_eq, not_true_eq_false, not_false_eq_true, Function.comp_apply, decide_not, Bool.not_not, Bool.not_eq_false']
    by_cases h2 : m 129 s.toNat < m 17 9
    · by_cases h3 : m 18 (m 129 s.toNat).toNat = 3 ∧ m 26 (m 19 (m 129 s.toNat).toNat).toNat = 1
      · simp [h1, h2, h3]
      · simp [h1, h2, h3, hn.1, hn.2]
    · simp [h1, h2]
  · by_cases h4 : m 128 s.toNat = 2
    · have hn : 0 ≤ m 129 s.toNat ∧ m 129 s.toNat < 16 := by omega
      by_cases h2 : m 129 s.toNat < m 79 6
      · by_cases h3 : m 83 (m 129 s.toNat).toNat = -3
        · simp [h4, h2, h3, hn.1, hn.2]
        · simp [h4, h2, h3, hn.1, hn.2]
      · simp [h4, h2]
    · simp [h1, h4]
theorem sp_M_kindOn (n : Nat) (s : Int) (m : bM) (hs : 0 ≤ s ∧ s ≤ 3) (hR : Rel m m) (hH : HostOK m) : sem (n + 3) 242 [aR 132, aI s] m = some (m, kOn m s.toNat) := by
  rw [st_M_kindOn]
  have hn6 := RelN_rows (Rel_n hR)
  have hn12 := RelN_count (Rel_n hR)
  have q6 := RelS_rrows (Rel_s hR)
  have q12 := RelC_rcount (Rel_c hR)
  have hS := Rel_s hR
  simp only [B_M_kindOn, kr_M_kindOn, sp_isOf _ 6 _ (by decide), sp_isOf _ 12 _ (by decide), d_rLoc1, d_rLoc2, d_rFld1, d_rFld2, d_eInt, d_eLdc, d_eLdw, d_eLoc, d_eFld, d_lFld, d_eAI, d_eAZ, d_eAB, d_lAL, d_eAD, d_eLen, d_eAdd, d_eSub, d_eMul, d_eAnd, d_eOr, d_eXor, d_eShl, d_eShr, d_eUsh, d_lAdd, d_lSub, d_lMul, d_lAnd, d_lOr, d_lXor, d_lShl, d_lShr, d_eDiv, d_eRem, d_eCmp, d_eI2B, d_eI2S, d_eL2I, d_lI2L, d_lInt, d_lLdc, d_lLoc, d_eIte, d_lIte, d_eMax, d_eMin, d_eAbs, d_eAbove, d_eBodies, d_cQ, d_cZ, d_cNot, d_cAnd, d_cOr, d_gNil, d_gI, d_gL, d_gR, d_gD, d_xV, d_xS, d_xN, d_xT, d_eCall, d_lCall, d_eCallC, d_sNop, d_sSet, d_sSetL, d_sSetR, d_sSetQ, d_sInc, d_sPutI, d_sPutZ, d_sPutL, d_sPutA, d_sPutAZ, d_sPutAB, d_sPutAL, d_sPutD, d_sOpF, d_sOpA, d_sCall, d_sCopy, d_sSeq, d_sIf, d_sBrk, d_sCnt, d_sRetV, d_sRet, d_sRetL, d_sLp, d_tDef, d_tCase, d_sSw, d_sSwB, bIt_d, itb_0, itb_1, itb_2, itb_r, its_0, sqk_0, sqk_1, sqk_2, sqk_r, swk_0, swk_1, swk_r, bfin_r, bfin_ite, Option.bind_some, Option.map_some, Option.bind_none, Option.map_none, bind_ite, map_ite, cop0, cop1, cop2, cop3, cop4, cop5, opv0, opv1, opv2, opv3, brc_i, brc_z, two_ne_one, false_or, getI, getR, getL, List.getElem?_cons_zero, List.getElem?_cons_succ, List.set_cons_zero, List.set_cons_succ, bnl, if_true, if_false, true_or, or_true, decide_eq_true_eq, Bool.not_eq_true', decide_eq_false_iff_not, Bool.not_true, Bool.not_false, Bool.true_eq_false, Bool.false_eq_true, ite_not, reduceIte, ite01_0, ite01_1, Decidable.not_not, ne_eq, not_true_eq_false, not_false_eq_true, Function.comp_apply, decide_not, Bool.not_not, Bool.not_eq_false']
  have h61 : s < ((4 : Nat) : Int) := by omega
  have t6 : i32 (m 133 (6 : Int).toNat - 1) = m 17 9 - 1 := by
    show i32 (m 133 6 - 1) = _
    rw [hn6]; exact i32_of (by omega) (by omega)
  have t12 : i32 (m 133 (12 : Int).toNat - 1) = m 79 6 - 1 := by
    show i32 (m 133 12 - 1) = _
    rw [hn12]; exact i32_of (by omega) (by omega)
  rw [t6, t12]
  simp only [hs.1, h61, and_self, if_true]
  unfold kOn
  have hsh := HostOK_shelf hH s.toNat (by omega)
  unfold shelfR at hsh
  rcases hsh with ⟨g1, g2⟩ | ⟨g1, g2, g3, g4, g5⟩ | ⟨g1, g2, g3, g4, g5⟩ | ⟨g1, g2, g3, g4, g5⟩
  · simp [g1, g2]
  · have e2 : (m 129 s.toNat ≤ m 17 9 - 1) ↔ m 129 s.toNat < m 17 9 := by omega
    have k1 := RelS_kind hS (m 129 s.toNat).toNat (by omega)
    have k2 := RelS_place hS (m 129 s.toNat).toNat (by omega)
    by_cases h2 : m 129 s.toNat < m 17 9
    · by_cases h3 : m 18 (m 129 s.toNat).toNat = 3
      · have h4 := RelS_rplace hS (m 129 s.toNat).toNat (by omega)
        have h5 := RelS_rplace3 hS (m 129 s.toNat).toNat (by omega) h3
        have k3 := RelS_doub hS (m 19 (m 129 s.toNat).toNat).toNat (by omega)
        by_cases h6 : m 26 (m 19 (m 129 s.toNat).toNat).toNat = 1
        · simp [g1, g2, g3, g4, e2, h2, k1, k2, k3, h3, h4.1, h6, show m 129 s.toNat < 16 by omega, show m 19 (m 129 s.toNat).toNat < 4 by omega]
        · simp [g1, g2, g3, g4, e2, h2, k1, k2, k3, h3, h4.1, h6, show m 129 s.toNat < 16 by omega, show m 19 (m 129 s.toNat).toNat < 4 by omega]
      · simp [g1, g2, g3, g4, e2, h2, k1, h3, show m 129 s.toNat < 16 by omega]
    · simp [g1, g2, g3, g4, e2, h2]
  · have e2 : (m 129 s.toNat ≤ m 79 6 - 1) ↔ m 129 s.toNat < m 79 6 := by omega
    have k1 := RelC_paid (Rel_c hR) (m 129 s.toNat).toNat (by omega)
    by_cases h2 : m 129 s.toNat < m 79 6
    · by_cases h3 : m 83 (m 129 s.toNat).toNat = -3
      · have h4 : m 175 (m 129 s.toNat).toNat < 0 := by omega
        simp [g1, g2, g3, g4, e2, h2, h3, h4, show m 129 s.toNat < 16 by omega]
      · have h4 : ¬ m 175 (m 129 s.toNat).toNat < 0 := by omega
        simp [g1, g2, g3, g4, e2, h2, h3, h4, show m 129 s.toNat < 16 by omega]
    · simp [g1, g2, g3, g4, e2, h2]
  · have g6 : ¬ (10 + m 129 s.toNat = 0) := by omega
    have g7 : ¬ (10 + m 129 s.toNat = 1) := by omega
    simp [g1, g4, g6, g7]
