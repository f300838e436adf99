/-! ===== claim ===== -/
theorem anyB_f {p : Nat → Bool} {n : Nat} (h : ff p n = none) : anyB p n = false := by
  cases hq : anyB p n with
  | false => rfl
  | true =>
    obtain ⟨k, h1, h2⟩ := anyB_iff.mp hq
    rw [ff_none.mp h k h1] at h2
    cases h2
theorem anyB_t {p : Nat → Bool} {n k : Nat} (h : ff p n = some k) : anyB p n = true := by
  obtain ⟨h1, h2, _⟩ := ff_some h
  exact anyB_iff.mpr ⟨k, h1, h2⟩
def clB (m : bM) (ca cb : Nat) (a t : Int) (k : Nat) : Bool := decide (m ca k = a ∧ m cb k = t)
theorem clB_f {m : bM} {ca cb k : Nat} {a t : Int} (h : clB m ca cb a t k = false) : ¬ (m ca k = a ∧ m cb k = t) := by
  unfold clB at h
  simpa using h
theorem clB_t {m : bM} {ca cb k : Nat} {a t : Int} (h : clB m ca cb a t k = true) : m ca k = a ∧ m cb k = t := by
  unfold clB at h
  simpa using h
theorem sp_isClaimed (n : Nat) (a t : Int) (N : Nat) (m : bM) (hN : m 79 6 = (N : Int)) (h16 : N ≤ 16) : sem (n + 1) 158 [aR 79, aI a, aI t] m = some (m, if anyB (clB m 80 81 a t) N = true then 1 else 0) := by
  cases hf : ff (clB m 80 81 a t) N with
  | none =>
    rw [anyB_f hf, sp_isClaimed0 n a t N m hN h16 (fun k hk => clB_f (ff_none.mp hf k hk))]
    rfl
  | some k0 =>
    obtain ⟨h1, h2, h3⟩ := ff_some hf
    rw [anyB_t hf, sp_isClaimed1 n a t N k0 m hN h16 h1 (fun k hk => clB_f (h3 k hk)) (clB_t h2)]
    rfl
theorem sp_addClaim (n : Nat) (a t : Int) (m : bM) (h : 0 ≤ m 79 6 ∧ m 79 6 < 16) : sem (n + 1) 159 [aR 79, aI a, aI t] m = some (bwr (bwr (bwr (bwr (bwr m 80 (m 79 6).toNat a) 81 (m 79 6).toNat t) 82 (m 79 6).toNat (m 79 9)) 83 (m 79 6).toNat (-3)) 79 6 (m 79 6 + 1), m 79 6) := by
  rw [st_Claims_addClaim]
  simp only [B_Claims_addClaim, kr_Claims_addClaim, d_rLoc1, d_rLoc2, d_rFld1, d_rFld2, d_eInt, d_eLdc, d_eLdw, d_eLoc, d_eFld, d_lFld, d_eAI, d_eAZ, d_eAB, d_lAL, d_eAD, d_eLen, d_eAdd, d_eSub, d_eMul, d_eAnd, d_eOr, d_eXor, d_eShl, d_eShr, d_eUsh, d_lAdd, d_lSub, d_lMul, d_lAnd, d_lOr, d_lXor, d_lShl, d_lShr, d_eDiv, d_eRem, d_eCmp, d_eI2B, d_eI2S, d_eL2I, d_lI2L, d_lInt, d_lLdc, d_lLoc, d_eIte, d_lIte, d_eMax, d_eMin, d_eAbs, d_eAbove, d_eBodies, d_cQ, d_cZ, d_cNot, d_cAnd, d_cOr, d_gNil, d_gI, d_gL, d_gR, d_gD, d_xV, d_xS, d_xN, d_xT, d_eCall, d_lCall, d_eCallC, d_sNop, d_sSet, d_sSetL, d_sSetR, d_sSetQ, d_sInc, d_sPutI, d_sPutZ, d_sPutL, d_sPutA, d_sPutAZ, d_sPutAB, d_sPutAL, d_sPutD, d_sOpF, d_sOpA, d_sCall, d_sCopy, d_sSeq, d_sIf, d_sBrk, d_sCnt, d_sRetV, d_sRet, d_sRetL, d_sLp, d_tDef, d_tCase, d_sSw, d_sSwB, bIt_d, itb_0, itb_1, itb_2, itb_r, its_0, sqk_0, sqk_1, sqk_2, sqk_r, swk_0, swk_1, swk_r, bfin_r, bfin_ite, Option.bind_some, Option.map_some, Option.bind_none, Option.map_none, bind_ite, map_ite, cop0, cop1, cop2, cop3, cop4, cop5, opv0, opv1, opv2, opv3, brc_i, brc_z, two_ne_one, false_or, getI, getR, getL, List.getElem?_cons_zero, List.getElem?_cons_succ, List.set_cons_zero, List.set_cons_succ, bnl, if_true, if_false, true_or, or_true, decide_eq_true_eq, Bool.not_eq_true', decide_eq_false_iff_not, Bool.not_true, Bool.not_false, Bool.true_eq_false, Bool.false_eq_true, ite_not, reduceIte, ite01_0, ite01_1, Decidable.not_not, ne_eq, not_true_eq_false, not_false_eq_true, Function.comp_apply, decide_not, Bool.not_not, Bool.not_eq_false']
  simp (disch := omega) [h.1, h.2, i32_of, bwr_ne, bfin_r]
theorem sp_V_claim (n : Nat) (p t : Int) (N : Nat) (m : bM) (hp : 0 ≤ m 37 12 ∧ m 37 12 ≤ 16) (ht : 0 ≤ m 37 14 ∧ m 37 14 ≤ 12) (hN : m 79 6 = (N : Int)) (h16 : N ≤ 16) : sem (n + 3) 32 [aR 0, aI p, aI t] m = if (0 ≤ p ∧ p < m 37 12) ∧ (0 ≤ t ∧ t < m 37 14) then (if anyB (clB m 80 81 p t) N = true then some (m, -4) else if N = 16 then some (m, -2) else some (bwr (bwr (bwr (bwr (bwr m 80 N p) 81 N t) 82 N (m 79 9)) 83 N (-3)) 79 6 ((N : Int) + 1), (N : Int))) else some (m, -1) := by
  have e1 : i32 (m 37 12 - 1) = m 37 12 - 1 := i32_of (by omega) (by omega)
  have e2 : i32 (m 37 14 - 1) = m 37 14 - 1 := i32_of (by omega) (by omega)
  have e3 : (0 ≤ p ∧ p ≤ m 37 12 - 1) ↔ (0 ≤ p ∧ p < m 37 12) := by omega
  have e4 : (0 ≤ t ∧ t ≤ m 37 14 - 1) ↔ (0 ≤ t ∧ t < m 37 14) := by omega
  have f1 := fun n => sp_isClaimed n p t N m hN h16
  rw [st_V_claim]
  by_cases h16' : N = 16
  · simp only [B_V_claim, kr_V_claim, sp_V_isPerson, sp_V_isThing, f1, e1, e2, e3, e4, hN, d_rLoc1, d_rLoc2, d_rFld1, d_rFld2, d_eInt, d_eLdc, d_eLdw, d_eLoc, d_eFld, d_lFld, d_eAI, d_eAZ, d_eAB, d_lAL, d_eAD, d_eLen, d_eAdd, d_eSub, d_eMul, d_eAnd, d_eOr, d_eXor, d_eShl, d_eShr, d_eUsh, d_lAdd, d_lSub, d_lMul, d_lAnd, d_lOr, d_lXor, d_lShl, d_lShr, d_eDiv, d_eRem, d_eCmp, d_eI2B, d_eI2S, d_eL2I, d_lI2L, d_lInt, d_lLdc, d_lLoc, d_eIte, d_lIte, d_eMax, d_eMin, d_eAbs, d_eAbove, d_eBodies, d_cQ, d_cZ, d_cNot, d_cAnd, d_cOr, d_gNil, d_gI, d_gL, d_gR, d_gD, d_xV, d_xS, d_xN, d_xT, d_eCall, d_lCall, d_eCallC, d_sNop, d_sSet, d_sSetL, d_sSetR, d_sSetQ, d_sInc, d_sPutI, d_sPutZ, d_sPutL, d_sPutA, d_sPutAZ, d_sPutAB, d_sPutAL, d_sPutD, d_sOpF, d_sOpA, d_sCall, d_sCopy, d_sSeq, d_sIf, d_sBrk, d_sCnt, d_sRetV, d_sRet, d_sRetL, d_sLp, d_tDef, d_tCase, d_sSw, d_sSwB, bIt_d, itb_0, itb_1, itb_2, itb_r, its_0, sqk_0, sqk_1, sqk_2, sqk_r, swk_0, swk_1, swk_r, bfin_r, bfin_ite, Option.bind_some, Option.map_some, Option.bind_none, Option.map_none, bind_ite, map_ite, cop0, cop1, cop2, cop3, cop4, cop5, opv0, opv1, opv2, opv3, brc_i, brc_z, two_ne_one, false_or, getI, getR, getL, List.getElem?_cons_zero, List.getElem?_cons_succ, List.set_cons_zero, List.set_cons_succ, bnl, if_true, if_false, true_or, or_true, decide_eq_true_eq, Bool.not_eq_true', decide_eq_false_iff_not, Bool.not_true, Bool.not_false, Bool.true_eq_false, Bool.false_eq_true, ite_not, reduceIte, ite01_0, ite01_1, Decidable.not_not, ne_eq, not_true_eq_false, not_false_eq_true, Function.comp_apply, decide_not, Bool.not_not, Bool.not_eq_false']
    by_cases h1 : 0 ≤ p ∧ p < m 37 12 <;> by_cases h2 : 0 ≤ t ∧ t < m 37 14 <;> by_cases h3 : anyB (clB m 80 81 p t) N = true <;> simp [h1, h2, h3, h16', bfin_r]
  · have f2 := fun n => sp_addClaim n p t m (by omega)
    rw [hN, Int.toNat_natCast] at f2
    have h5 : ¬ (16 : Int) ≤ (N : Int) := by omega
    simp only [B_V_claim, kr_V_claim, sp_V_isPerson, sp_V_isThing, f1, f2, e1, e2, e3, e4, hN, d_rLoc1, d_rLoc2, d_rFld1, d_rFld2, d_eInt, d_eLdc, d_eLdw, d_eLoc, d_eFld, d_lFld, d_eAI, d_eAZ, d_eAB, d_lAL, d_eAD, d_eLen, d_eAdd, d_eSub, d_eMul, d_eAnd, d_eOr, d_eXor, d_eShl, d_eShr, d_eUsh, d_lAdd, d_lSub, d_lMul, d_lAnd, d_lOr, d_lXor, d_lShl, d_lShr, d_eDiv, d_eRem, d_eCmp, d_eI2B, d_eI2S, d_eL2I, d_lI2L, d_lInt, d_lLdc, d_lLoc, d_eIte, d_lIte, d_eMax, d_eMin, d_eAbs, d_eAbove, d_eBodies, d_cQ, d_cZ, d_cNot, d_cAnd, d_cOr, d_gNil, d_gI, d_gL, d_gR, d_gD, d_xV, d_xS, d_xN, d_xT, d_eCall, d_lCall, d_eCallC, d_sNop, d_sSet, d_sSetL, d_sSetR, d_sSetQ, d_sInc, d_sPutI, d_sPutZ, d_sPutL, d_sPutA, d_sPutAZ, d_sPutAB, d_sPutAL, d_sPutD, d_sOpF, d_sOpA, d_sCall, d_sCopy, d_sSeq, d_sIf, d_sBrk, d_sCnt, d_sRetV, d_sRet, d_sRetL, d_sLp, d_tDef, d_tCase, d_sSw, d_sSwB, bIt_d, itb_0, itb_1, itb_2, itb_r, its_0, sqk_0, sqk_1, sqk_2, sqk_r, swk_0, swk_1, swk_r, bfin_r, bfin_ite, Option.bind_some, Option.map_some, Option.bind_none, Option.map_none, bind_ite, map_ite, cop0, cop1, cop2, cop3, cop4, cop5, opv0, opv1, opv2, opv3, brc_i, brc_z, two_ne_one, false_or, getI, getR, getL, List.getElem?_cons_zero, List.getElem?_cons_succ, List.set_cons_zero, List.set_cons_succ, bnl, if_true, if_false, true_or, or_true, decide_eq_true_eq, Bool.not_eq_true', decide_eq_false_iff_not, Bool.not_true, Bool.not_false, Bool.true_eq_false, Bool.false_eq_true, ite_not, reduceIte, ite01_0, ite01_1, Decidable.not_not, ne_eq, not_true_eq_false, not_false_eq_true, Function.comp_apply, decide_not, Bool.not_not, Bool.not_eq_false']
    by_cases h1 : 0 ≤ p ∧ p < m 37 12 <;> by_cases h2 : 0 ≤ t ∧ t < m 37 14 <;> by_cases h3 : anyB (clB m 80 81 p t) N = true <;> simp [h1, h2, h3, h16', h5, bfin_r]
theorem lp_M_claim (n : Nat) (a t : Int) (N : Nat) (m : bM) (hN : m 133 12 = (N : Int)) (h16 : N ≤ 16) : L_M_claim_1.1.2 (sem n) [some (aR 132), some (aI a), some (aI t), some (aI 0)] m = if anyB (clB m 172 173 a t) N = true then some (.inr (m, -4)) else some (.inl (0, [some (aR 132), some (aI a), some (aI t), some (aI (N : Int))], m)) := by
  cases hf : ff (clB m 172 173 a t) N with
  | none =>
    rw [anyB_f hf, lp_M_claim0 n a t N m hN h16 (fun k hk => clB_f (ff_none.mp hf k hk))]
    rfl
  | some k0 =>
    obtain ⟨h1, h2, h3⟩ := ff_some hf
    rw [anyB_t hf, lp_M_claim1 n a t N k0 m hN h16 h1 (fun k hk => clB_f (h3 k hk)) (clB_t h2)]
    rfl
theorem sp_M_claim (n : Nat) (p t : Int) (N : Nat) (m : bM) (hp : 0 ≤ m 133 7 ∧ m 133 7 ≤ 16) (ht : 0 ≤ m 133 9 ∧ m 133 9 ≤ 12) (hN : m 133 12 = (N : Int)) (h16 : N ≤ 16) : sem (n + 3) 90 [aR 132, aI p, aI t] m = if (0 ≤ p ∧ p < m 133 7) ∧ (0 ≤ t ∧ t < m 133 9) then (if anyB (clB m 172 173 p t) N = true then some (m, -4) else if N = 16 then some (m, -2) else some (bwr (bwr (bwr (bwr (bwr m 172 N p) 173 N t) 174 N (m 133 3)) 175 N (-1)) 133 12 ((N : Int) + 1), (N : Int))) else some (m, -1) := by
  have e1 : i32 (m 133 (7 : Int).toNat - 1) = m 133 7 - 1 := i32_of (by show _ ≤ m 133 7 - 1; omega) (by show m 133 7 - 1 < _; omega)
  have e2 : i32 (m 133 (9 : Int).toNat - 1) = m 133 9 - 1 := i32_of (by show _ ≤ m 133 9 - 1; omega) (by show m 133 9 - 1 < _; omega)
  have e3 : (0 ≤ p ∧ p ≤ m 133 7 - 1) ↔ (0 ≤ p ∧ p < m 133 7) := by omega
  have e4 : (0 ≤ t ∧ t ≤ m 133 9 - 1) ↔ (0 ≤ t ∧ t < m 133 9) := by omega
  have f1 := fun n => lp_M_claim n p t N m hN h16
  have hN2 : m 133 (12 : Int).toNat = (N : Int) := hN
  rw [st_M_claim]
  simp only [B_M_claim, kr_M_claim, sp_isOf _ 7 _ (by decide), sp_isOf _ 9 _ (by decide), f1, e1, e2, e3, e4, hN2, d_rLoc1, d_rLoc2, d_rFld1, d_rFld2, d_eInt, d_eLdc, d_eLdw, d_eLoc, d_eFld, d_lFld, d_eAI, d_eAZ, d_eAB, d_lAL, d_eAD, d_eLen, d_eAdd, d_eSub, d_eMul, d_eAnd, d_eOr, d_eXor, d_eShl, d_eShr, d_eUsh, d_lAdd, d_lSub, d_lMul, d_lAnd, d_lOr, d_lXor, d_lShl, d_lShr, d_eDiv, d_eRem, d_eCmp, d_eI2B, d_eI2S, d_eL2I, d_lI2L, d_lInt, d_lLdc, d_lLoc, d_eIte, d_lIte, d_eMax, d_eMin, d_eAbs, d_eAbove, d_eBodies, d_cQ, d_cZ, d_cNot, d_cAnd, d_cOr, d_gNil, d_gI, d_gL, d_gR, d_gD, d_xV, d_xS, d_xN, d_xT, d_eCall, d_lCall, d_eCallC, d_sNop, d_sSet, d_sSetL, d_sSetR, d_sSetQ, d_sInc, d_sPutI, d_sPutZ, d_sPutL, d_sPutA, d_sPutAZ, d_sPutAB, d_sPutAL, d_sPutD, d_sOpF, d_sOpA, d_sCall, d_sCopy, d_sSeq, d_sIf, d_sBrk, d_sCnt, d_sRetV, d_sRet, d_sRetL, d_sLp, d_tDef, d_tCase, d_sSw, d_sSwB, bIt_d, itb_0, itb_1, itb_2, itb_r, its_0, sqk_0, sqk_1, sqk_2, sqk_r, swk_0, swk_1, swk_r, bfin_r, bfin_ite, Option.bind_some, Option.map_some, Option.bind_none, Option.map_none, bind_ite, map_ite, cop0, cop1, cop2, cop3, cop4, cop5, opv0, opv1, opv2, opv3, brc_i, brc_z, two_ne_one, false_or, getI, getR, getL, List.getElem?_cons_zero, List.getElem?_cons_succ, List.set_cons_zero, List.set_cons_succ, bnl, if_true, if_false, true_or, or_true, decide_eq_true_eq, Bool.not_eq_true', decide_eq_false_iff_not, Bool.not_true, Bool.not_false, Bool.true_eq_false, Bool.false_eq_true, ite_not, reduceIte, ite01_0, ite01_1, Decidable.not_not, ne_eq, not_true_eq_false, not_false_eq_true, Function.comp_apply, decide_not, Bool.not_not, Bool.not_eq_false']
  by_cases h1 : 0 ≤ p ∧ p < m 133 7 <;> by_cases h2 : 0 ≤ t ∧ t < m 133 9 <;> by_cases h3 : anyB (clB m 172 173 p t) N = true <;> by_cases h4 : N = 16 <;> simp [h1, h2, h3, h4, bfin_r, hN]
  have h5 : ¬ (N : Int) = 16 := by omega
  have h6 : N < 16 := by omega
  have h7 : (N : Int) < 16 := by omega
  simp (disch := omega) [h5, h6, h7, i32_of, bwr_ne, hN, bfin_r]
theorem step_claim {n i : Nat} {m : bM} (hI : Inv i m) (hi : i < 100) (p t : Int) : ∃ m1 m2 v, sem (n + 3) 32 [aR 0, aI p, aI t] m = some (m1, v) ∧ sem (n + 3) 90 [aR 132, aI p, aI t] m1 = some (m2, v) ∧ Inv (i + 1) m2 := by
  have hR := Inv_rel hI
  have hN := Inv_ngt hI
  have hp := RelF_rpersons (Rel_f hR)
  have ht := RelF_rthings (Rel_f hR)
  have hc := RelC_rcount (Rel_c hR)
  have np := RelN_persons (Rel_n hR)
  have nt := RelN_things (Rel_n hR)
  have nc := RelN_count (Rel_n hR)
  have ny := RelN_today (Rel_n hR)
  have hy := RelC_rtoday (Rel_c hR)
  obtain ⟨N, hq⟩ : ∃ N : Nat, m 79 6 = (N : Int) := ⟨(m 79 6).toNat, by omega⟩
  have h16 : N ≤ 16 := by omega
  have hq2 : m 133 12 = (N : Int) := by omega
  have ea : anyB (clB m 172 173 p t) N = anyB (clB m 80 81 p t) N := anyB_congr (fun k hk => by
    unfold clB
    rw [RelC_person (Rel_c hR) k (by omega), RelC_thing (Rel_c hR) k (by omega)])
  have s1 := sp_V_claim n p t N m hp ht hq h16
  have s2 := sp_M_claim n p t N m (by rw [np]; exact hp) (by rw [nt]; exact ht) hq2 h16
  rw [np, nt, ea] at s2
  by_cases h1 : (0 ≤ p ∧ p < m 37 12) ∧ (0 ≤ t ∧ t < m 37 14)
  · by_cases h2 : anyB (clB m 80 81 p t) N = true
    · exact ⟨m, m, -4, by rw [s1, if_pos h1, if_pos h2], by rw [s2, if_pos h1, if_pos h2], Inv_same hI⟩
    · by_cases h3 : N = 16
      · exact ⟨m, m, -2, by rw [s1, if_pos h1, if_neg h2, if_pos h3], by rw [s2, if_pos h1, if_neg h2, if_pos h3], Inv_same hI⟩
      · rw [if_pos h1, if_neg h2, if_neg h3] at s1
        obtain ⟨m1, hm1⟩ : ∃ m1, m1 = bwr (bwr (bwr (bwr (bwr m 80 N p) 81 N t) 82 N (m 79 9)) 83 N (-3)) 79 6 ((N : Int) + 1) := ⟨_, rfl⟩
        have o : ∀ i, 132 ≤ i → m1 i = m i := fun i hi => by rw [hm1]; simp (disch := omega) only [fgN, fgP, bwr_ne, bwr_ne2, bwr_eq2]
        have s3 := sp_M_claim n p t N m1 (by rw [o _ (by decide), np]; exact hp) (by rw [o _ (by decide), nt]; exact ht) (by rw [o _ (by decide)]; exact hq2) h16
        have eb : anyB (clB m1 172 173 p t) N = anyB (clB m 80 81 p t) N := by rw [← ea]; unfold clB; rw [o 172 (by decide), o 173 (by decide)]
        rw [eb, o 133 (by decide), np, nt, if_pos h1, if_neg h2, if_neg h3, ny, hm1] at s3
        obtain ⟨g1, g2⟩ := h1
        refine ⟨_, _, _, s1, s3, Inv_of hI (by refine ⟨?_, ?_, ?_, ?_, ?_, ?_, ?_, ?_, ?_, ?_, ?_, ?_, ?_, ?_, ?_, ?_, ?_⟩ <;> (intros; try (simp (disch := omega) only [fgN, fgP, bwr_ne, bwr_ne2, bwr_eq2]))) ⟨(by obtain ⟨v1, v2, v3, v4, v5, v6, v7, v8, v9, v10, v11, v12, v13, v14⟩ := Rel_n hR; refine ⟨?_, ?_, ?_, ?_, ?_, ?_, ?_, ?_, ?_, ?_, ?_, ?_, ?_, ?_⟩ <;> (try simp (disch := omega) only [fgN, fgP, bwr_ne, bwr_ne2, bwr_eq2]) <;> first | assumption | (intros; (try simp (disch := omega) only [fgN, fgP, bwr_ne, bwr_if] at *); grind)), (RelV_congr (Rel_v hR) (fun i a b => by simp (disch := omega) only [fgN, fgP, bwr_ne, bwr_ne2, bwr_eq2]) (fun i a b => by simp (disch := omega) only [fgN, fgP, bwr_ne, bwr_ne2, bwr_eq2])), (RelS_congr (Rel_s hR) (fun i a b => by simp (disch := omega) only [fgN, fgP, bwr_ne, bwr_ne2, bwr_eq2]) (fun i a b => by simp (disch := omega) only [fgN, fgP, bwr_ne, bwr_ne2, bwr_eq2])), (RelF_congr (Rel_f hR) (fun i a b => by simp (disch := omega) only [fgN, fgP, bwr_ne, bwr_ne2, bwr_eq2]) (fun i a b => by simp (disch := omega) only [fgN, fgP, bwr_ne, bwr_ne2, bwr_eq2])), (RelA_congr (Rel_a hR) (fun i a b => by simp (disch := omega) only [fgN, fgP, bwr_ne, bwr_ne2, bwr_eq2]) (fun i a b => by simp (disch := omega) only [fgN, fgP, bwr_ne, bwr_ne2, bwr_eq2])), (by obtain ⟨v1, v2, v3, v4, v5, v6, v7, v8, v9, v10, v11, v12, v13, v14, v15⟩ := Rel_c hR; refine ⟨?_, ?_, ?_, ?_, ?_, ?_, ?_, ?_, ?_, ?_, ?_, ?_, ?_, ?_, ?_⟩ <;> (try simp (disch := omega) only [fgN, fgP, bwr_ne, bwr_ne2, bwr_eq2]) <;> first | assumption | (intros; (try simp (disch := omega) only [fgN, fgP, bwr_ne, bwr_if] at *); grind))⟩ (NgtC_congr hN (fun i a b => (by first | rfl | simp (disch := omega) only [fgN, fgP, bwr_ne, bwr_ne2, bwr_eq2])) ⟨⟨fun i a b => (by first | rfl | simp (disch := omega) only [fgN, fgP, bwr_ne, bwr_ne2, bwr_eq2]), (by first | rfl | simp (disch := omega) only [fgN, fgP, bwr_ne, bwr_ne2, bwr_eq2])⟩, (by first | rfl | simp (disch := omega) only [fgN, fgP, bwr_ne, bwr_ne2, bwr_eq2]), (by first | rfl | simp (disch := omega) only [fgN, fgP, bwr_ne, bwr_ne2, bwr_eq2])⟩ ⟨(by first | rfl | simp (disch := omega) only [fgN, fgP, bwr_ne, bwr_ne2, bwr_eq2]), (by first | rfl | simp (disch := omega) only [fgN, fgP, bwr_ne, bwr_ne2, bwr_eq2]), (by first | rfl | simp (disch := omega) only [fgN, fgP, bwr_ne, bwr_ne2, bwr_eq2])⟩ (fun i a b => (by first | rfl | simp (disch := omega) only [fgN, fgP, bwr_ne, bwr_ne2, bwr_eq2]))) ((Inv_fresh hI).imp (fun q => by (try simp (disch := omega) only [fgN, fgP, bwr_ne, bwr_ne2, bwr_eq2]); exact q) (fun q => ⟨by (try simp (disch := omega) only [fgN, fgP, bwr_ne, bwr_ne2, bwr_eq2]); exact q.1, NgtR_congr q.2 (fun i a b => (by first | rfl | simp (disch := omega) only [fgN, fgP, bwr_ne, bwr_ne2, bwr_eq2])) ⟨⟨fun i a b => (by first | rfl | simp (disch := omega) only [fgN, fgP, bwr_ne, bwr_ne2, bwr_eq2]), (by first | rfl | simp (disch := omega) only [fgN, fgP, bwr_ne, bwr_ne2, bwr_eq2])⟩, (by first | rfl | simp (disch := omega) only [fgN, fgP, bwr_ne, bwr_ne2, bwr_eq2]), (by first | rfl | simp (disch := omega) only [fgN, fgP, bwr_ne, bwr_ne2, bwr_eq2])⟩ ⟨(by first | rfl | simp (disch := omega) only [fgN, fgP, bwr_ne, bwr_ne2, bwr_eq2]), (by first | rfl | simp (disch := omega) only [fgN, fgP, bwr_ne, bwr_ne2, bwr_eq2]), (by first | rfl | simp (disch := omega) only [fgN, fgP, bwr_ne, bwr_ne2, bwr_eq2])⟩ ⟨(by first | rfl | simp (disch := omega) only [fgN, fgP, bwr_ne, bwr_ne2, bwr_eq2]), (by first | rfl | simp (disch := omega) only [fgN, fgP, bwr_ne, bwr_ne2, bwr_eq2]), (by first | rfl | simp (disch := omega) only [fgN, fgP, bwr_ne, bwr_ne2, bwr_eq2]), (by first | rfl | simp (disch := omega) only [fgN, fgP, bwr_ne, bwr_ne2, bwr_eq2])⟩ (by first | rfl | simp (disch := omega) only [fgN, fgP, bwr_ne, bwr_ne2, bwr_eq2]) (fun i a b => (by first | rfl | simp (disch := omega) only [fgN, fgP, bwr_ne, bwr_ne2, bwr_eq2]))⟩))⟩
  · exact ⟨m, m, -1, by rw [s1, if_neg h1], by rw [s2, if_neg h1], Inv_same hI⟩
