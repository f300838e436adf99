/-! ===== how the invariant goes on ===== -/
/-- all that is not the state proper stays -/
def Rest (m m2 : bM) : Prop := (m2 0 16 = m 0 16) ∧ (m2 132 47 = m 132 47) ∧ (∀ i, 9 ≤ i → i ≤ 92 → (i ≤ 16 ∨ 27 ≤ i ∧ i ≤ 36 ∨ 50 ≤ i ∧ i ≤ 62 ∨ 71 ≤ i ∧ i ≤ 78 ∨ 86 ≤ i) → m2 i = m i) ∧ (m2 178 = m 178) ∧ (∀ i, 124 ≤ i → i ≤ 131 → m2 i = m i) ∧ (∀ i, 197 ≤ i → i ≤ 203 → m2 i = m i) ∧ (m2 132 91 = m 132 91) ∧ (m2 117 = m 117) ∧ (m2 118 = m 118) ∧ (m2 119 = m 119) ∧ (m2 195 = m 195) ∧ (m2 196 = m 196) ∧ (∀ k, k = 79 ∨ k = 80 ∨ k = 81 ∨ k = 82 ∨ k = 83 → m2 132 k = m 132 k) ∧ (m2 109 2 = m 109 2) ∧ (m2 110 = m 110) ∧ (m2 192 = m 192) ∧ (m2 132 65 = m 132 65)
theorem Rest_keptV {m m2 : bM} (h : Rest m m2) : m2 0 16 = m 0 16 := h.1
theorem Rest_keptM {m m2 : bM} (h : Rest m m2) : m2 132 47 = m 132 47 := h.2.1
theorem Rest_kc {m m2 : bM} (h : Rest m m2) : ∀ i, 9 ≤ i → i ≤ 92 → (i ≤ 16 ∨ 27 ≤ i ∧ i ≤ 36 ∨ 50 ≤ i ∧ i ≤ 62 ∨ 71 ≤ i ∧ i ≤ 78 ∨ 86 ≤ i) → m2 i = m i := h.2.2.1
theorem Rest_im {m m2 : bM} (h : Rest m m2) : m2 178 = m 178 := h.2.2.2.1
theorem Rest_host {m m2 : bM} (h : Rest m m2) : ∀ i, 124 ≤ i → i ≤ 131 → m2 i = m i := h.2.2.2.2.1
theorem Rest_hostM {m m2 : bM} (h : Rest m m2) : ∀ i, 197 ≤ i → i ≤ 203 → m2 i = m i := h.2.2.2.2.2.1
theorem Rest_bod {m m2 : bM} (h : Rest m m2) : m2 132 91 = m 132 91 := h.2.2.2.2.2.2.1
theorem Rest_tour {m m2 : bM} (h : Rest m m2) : m2 117 = m 117 := h.2.2.2.2.2.2.2.1
theorem Rest_trc {m m2 : bM} (h : Rest m m2) : m2 118 = m 118 := h.2.2.2.2.2.2.2.2.1
theorem Rest_trd {m m2 : bM} (h : Rest m m2) : m2 119 = m 119 := h.2.2.2.2.2.2.2.2.2.1
theorem Rest_mrc {m m2 : bM} (h : Rest m m2) : m2 195 = m 195 := h.2.2.2.2.2.2.2.2.2.2.1
theorem Rest_mrd {m m2 : bM} (h : Rest m m2) : m2 196 = m 196 := h.2.2.2.2.2.2.2.2.2.2.2.1
theorem Rest_mro {m m2 : bM} (h : Rest m m2) : ∀ k, k = 79 ∨ k = 80 ∨ k = 81 ∨ k = 82 ∨ k = 83 → m2 132 k = m 132 k := h.2.2.2.2.2.2.2.2.2.2.2.2.1
theorem Rest_rl {m m2 : bM} (h : Rest m m2) : m2 109 2 = m 109 2 := h.2.2.2.2.2.2.2.2.2.2.2.2.2.1
theorem Rest_rt {m m2 : bM} (h : Rest m m2) : m2 110 = m 110 := h.2.2.2.2.2.2.2.2.2.2.2.2.2.2.1
theorem Rest_mt {m m2 : bM} (h : Rest m m2) : m2 192 = m 192 := h.2.2.2.2.2.2.2.2.2.2.2.2.2.2.2.1
theorem Rest_md {m m2 : bM} (h : Rest m m2) : m2 132 65 = m 132 65 := h.2.2.2.2.2.2.2.2.2.2.2.2.2.2.2.2
theorem kC_congr {m m2 : bM} (h : Rest m m2) : ∀ i, 1 ≤ i → i ≤ 92 → (i ≤ 8 ∨ 17 ≤ i ∧ i ≤ 26 ∨ 37 ≤ i ∧ i ≤ 49 ∨ 63 ≤ i ∧ i ≤ 70 ∨ 79 ≤ i ∧ i ≤ 85) → kC m2 i = kC m i := by
  intro i h1 h2 h3
  unfold kC kcell
  split
  · exact Rest_kc h _ (by omega) (by omega) (by omega)
  · split
    · exact Rest_kc h _ (by omega) (by omega) (by omega)
    · split
      · exact Rest_kc h _ (by omega) (by omega) (by omega)
      · split
        · exact Rest_kc h _ (by omega) (by omega) (by omega)
        · exact Rest_kc h _ (by omega) (by omega) (by omega)
theorem Rel_kept {m m2 : bM} (h : Rest m m2) (hr : Rel (kC m) (kR m)) : Rel (kC m2) (kR m2) := by
  obtain ⟨h1, h2, h3, h4, h5, h6⟩ := hr
  have e : kR m2 = kR m := by unfold kR; rw [Rest_im h]
  have k := kC_congr h
  rw [e]
  exact ⟨RelN_congr h1 (k 1 (by decide) (by decide) (by decide)) (k 17 (by decide) (by decide) (by decide)) (k 37 (by decide) (by decide) (by decide)) (k 63 (by decide) (by decide) (by decide)) (k 79 (by decide) (by decide) (by decide)) rfl,
    RelV_congr h2 (fun i a b => k i (by omega) (by omega) (by omega)) (fun i a b => rfl),
    RelS_congr h3 (fun i a b => k i (by omega) (by omega) (by omega)) (fun i a b => rfl),
    RelF_congr h4 (fun i a b => k i (by omega) (by omega) (by omega)) (fun i a b => rfl),
    RelA_congr h5 (fun i a b => k i (by omega) (by omega) (by omega)) (fun i a b => rfl),
    RelC_congr h6 (fun i a b => k i (by omega) (by omega) (by omega)) (fun i a b => rfl)⟩
theorem Inv_of {i : Nat} {m m2 : bM} (hI : Inv i m) (h : Rest m m2) (hr : Rel m2 m2) (hn : NgtC (i + 1) m2 m2) (hf : m2 132 53 = 0 ∨ m2 132 53 = 1 ∧ NgtR m2 m2) : Inv (i + 1) m2 := by
  refine ⟨hr, ?_, hn, hf, HostOK_congr (Inv_host hI) (Rest_host h) (Rest_hostM h) (Rest_bod h), TourOK_congr (Inv_tour hI) (Rest_tour h) (Rest_trc h) (Rest_trd h) (Rest_mrc h) (Rest_mrd h) (Rest_mro h), TapeOK_congr (Inv_tape hI) (Rest_rl h) (Rest_rt h) (Rest_mt h) (Rest_md h)⟩
  rw [Rest_keptV h, Rest_keptM h]
  obtain ⟨k1, k2⟩ := Inv_kept hI
  exact ⟨k1, k2.imp id (fun q => ⟨q.1, Rel_kept h q.2⟩)⟩
/-- nights are forgotten -/
theorem NgtC_fg {i : Nat} {m m2 : bM} (hn : NgtC i m m) (h1 : m2 101 13 = m 101 13 + 1) (h2 : m2 101 14 = 0) (h3 : m2 101 15 = 0) (h4 : m2 102 = m 102) : NgtC (i + 1) m2 m2 := by
  obtain ⟨a1, a2, a3, a4, a5⟩ := hn
  refine ⟨?_, ?_, ?_, Or.inl h2, Or.inl h3⟩
  · rw [h1]; omega
  · rw [h1, h4]
    intro q hq
    have := a2 q hq
    omega
  · rw [h1, h4]
    intro q hq e
    have := a2 q hq
    omega
/-- what is possible is forgotten, nights aren't -/
theorem NgtC_fp {i : Nat} {m m2 : bM} (hn : NgtC i m m) (h : agV m2 m) (hs : agK m2 m) (hf : agT m2 m) (hm : ∀ i, 102 ≤ i → i ≤ 106 → m2 i = m i) (h1 : m2 101 13 = m 101 13) (h2 : m2 101 14 = 0) (h3 : m2 101 15 = 0) : NgtC (i + 1) m2 m2 := by
  obtain ⟨a1, a2, a3, a4, a5⟩ := hn
  refine ⟨?_, ?_, ?_, Or.inl h2, Or.inl h3⟩
  · rw [h1]; omega
  · rw [h1, hm 102 (by decide) (by decide)]; exact a2
  · rw [h1, hm 102 (by decide) (by decide)]
    exact fun q hq e => Known_congr (a3 q hq e) h hs hf (fun i a b => hm i (by omega) (by omega))
def fgP (m : bM) : bM := bwr (bwr m 101 14 0) 101 15 0
def fgN (m : bM) : bM := bwr (bwr (bwr m 101 13 (i32 (m 101 13 + 1))) 101 14 0) 101 15 0
theorem sp_forgetPossible (n : Nat) (m : bM) : sem (n + 1) 134 [aR 101] m = some (fgP m, 0) := by
  rw [st_Nights_forgetPossible]
  simp only [B_Nights_forgetPossible, kr_Nights_forgetPossible, d_rLoc1, d_rLoc2, d_rFld1, d_rFld2, d_eInt, d_eLdc, d_eLdw, d_eLoc, d_eFld, d_lFld, d_eAI, d_eAZ, d_eAB, d_lAL, d_eAD, d_eLen, d_eAdd, d_eSub, d_eMul, d_eAnd, d_eOr, d_eXor, d_eShl, d_eShr, d_eUsh, d_lAdd, d_lSub, d_lMul, d_lAnd, d_lOr, d_lXor, d_lShl, d_lShr, d_eDiv, d_eRem, d_eCmp, d_eI2B, d_eI2S, d_eL2I, d_lI2L, d_lInt, d_lLdc, d_lLoc, d_eIte, d_lIte, d_eMax, d_eMin, d_eAbs, d_eAbove, d_eBodies, d_cQ, d_cZ, d_cNot, d_cAnd, d_cOr, d_gNil, d_gI, d_gL, d_gR, d_gD, d_xV, d_xS, d_xN, d_xT, d_eCall, d_lCall, d_eCallC, d_sNop, d_sSet, d_sSetL, d_sSetR, d_sSetQ, d_sInc, d_sPutI, d_sPutZ, d_sPutL, d_sPutA, d_sPutAZ, d_sPutAB, d_sPutAL, d_sPutD, d_sOpF, d_sOpA, d_sCall, d_sCopy, d_sSeq, d_sIf, d_sBrk, d_sCnt, d_sRetV, d_sRet, d_sRetL, d_sLp, d_tDef, d_tCase, d_sSw, d_sSwB, bIt_d, itb_0, itb_1, itb_2, itb_r, its_0, sqk_0, sqk_1, sqk_2, sqk_r, swk_0, swk_1, swk_r, bfin_r, bfin_ite, Option.bind_some, Option.map_some, Option.bind_none, Option.map_none, bind_ite, map_ite, cop0, cop1, cop2, cop3, cop4, cop5, opv0, opv1, opv2, opv3, brc_i, brc_z, two_ne_one, false_or, getI, getR, getL, List.getElem?_cons_zero, List.getElem?_cons_succ, List.set_cons_zero, List.set_cons_succ, bnl, if_true, if_false, true_or, or_true, decide_eq_true_eq, Bool.not_eq_true', decide_eq_false_iff_not, Bool.not_true, Bool.not_false, Bool.true_eq_false, Bool.false_eq_true, ite_not, reduceIte, ite01_0, ite01_1, Decidable.not_not, ne_eq, not_true_eq_false, not_false_eq_true, decide_not, Bool.not_not, Bool.not_eq_false']
  simp [bfin_r, fgP]
theorem sp_forgetNights (n : Nat) (m : bM) : sem (n + 2) 118 [aR 101] m = some (fgN m, 0) := by
  rw [st_Nights_forgetNights]
  simp only [B_Nights_forgetNights, kr_Nights_forgetNights, sp_forgetPossible, d_rLoc1, d_rLoc2, d_rFld1, d_rFld2, d_eInt, d_eLdc, d_eLdw, d_eLoc, d_eFld, d_lFld, d_eAI, d_eAZ, d_eAB, d_lAL, d_eAD, d_eLen, d_eAdd, d_eSub, d_eMul, d_eAnd, d_eOr, d_eXor, d_eShl, d_eShr, d_eUsh, d_lAdd, d_lSub, d_lMul, d_lAnd, d_lOr, d_lXor, d_lShl, d_lShr, d_eDiv, d_eRem, d_eCmp, d_eI2B, d_eI2S, d_eL2I, d_lI2L, d_lInt, d_lLdc, d_lLoc, d_eIte, d_lIte, d_eMax, d_eMin, d_eAbs, d_eAbove, d_eBodies, d_cQ, d_cZ, d_cNot, d_cAnd, d_cOr, d_gNil, d_gI, d_gL, d_gR, d_gD, d_xV, d_xS, d_xN, d_xT, d_eCall, d_lCall, d_eCallC, d_sNop, d_sSet, d_sSetL, d_sSetR, d_sSetQ, d_sInc, d_sPutI, d_sPutZ, d_sPutL, d_sPutA, d_sPutAZ, d_sPutAB, d_sPutAL, d_sPutD, d_sOpF, d_sOpA, d_sCall, d_sCopy, d_sSeq, d_sIf, d_sBrk, d_sCnt, d_sRetV, d_sRet, d_sRetL, d_sLp, d_tDef, d_tCase, d_sSw, d_sSwB, bIt_d, itb_0, itb_1, itb_2, itb_r, its_0, sqk_0, sqk_1, sqk_2, sqk_r, swk_0, swk_1, swk_r, bfin_r, bfin_ite, Option.bind_some, Option.map_some, Option.bind_none, Option.map_none, bind_ite, map_ite, cop0, cop1, cop2, cop3, cop4, cop5, opv0, opv1, opv2, opv3, brc_i, brc_z, two_ne_one, false_or, getI, getR, getL, List.getElem?_cons_zero, List.getElem?_cons_succ, List.set_cons_zero, List.set_cons_succ, bnl, if_true, if_false, true_or, or_true, decide_eq_true_eq, Bool.not_eq_true', decide_eq_false_iff_not, Bool.not_true, Bool.not_false, Bool.true_eq_false, Bool.false_eq_true, ite_not, reduceIte, ite01_0, ite01_1, Decidable.not_not, ne_eq, not_true_eq_false, not_false_eq_true, decide_not, Bool.not_not, Bool.not_eq_false']
  rfl
theorem sp_isOf (n : Nat) (w v : Int) (hw : 0 ≤ w ∧ w < 14) (m : bM) : sem (n + 2) 207 [aR 132, aI w, aI v] m = some (m, if 0 ≤ v ∧ v ≤ i32 (m 133 w.toNat - 1) then 1 else 0) := by
  rw [st_M_isOf]
  simp only [B_M_isOf, kr_M_isOf, sp_in, d_rLoc1, d_rLoc2, d_rFld1, d_rFld2, d_eInt, d_eLdc, d_eLdw, d_eLoc, d_eFld, d_lFld, d_eAI, d_eAZ, d_eAB, d_lAL, d_eAD, d_eLen, d_eAdd, d_eSub, d_eMul, d_eAnd, d_eOr, d_eXor, d_eShl, d_eShr, d_eUsh, d_lAdd, d_lSub, d_lMul, d_lAnd, d_lOr, d_lXor, d_lShl, d_lShr, d_eDiv, d_eRem, d_eCmp, d_eI2B, d_eI2S, d_eL2I, d_lI2L, d_lInt, d_lLdc, d_lLoc, d_eIte, d_lIte, d_eMax, d_eMin, d_eAbs, d_eAbove, d_eBodies, d_cQ, d_cZ, d_cNot, d_cAnd, d_cOr, d_gNil, d_gI, d_gL, d_gR, d_gD, d_xV, d_xS, d_xN, d_xT, d_eCall, d_lCall, d_eCallC, d_sNop, d_sSet, d_sSetL, d_sSetR, d_sSetQ, d_sInc, d_sPutI, d_sPutZ, d_sPutL, d_sPutA, d_sPutAZ, d_sPutAB, d_sPutAL, d_sPutD, d_sOpF, d_sOpA, d_sCall, d_sCopy, d_sSeq, d_sIf, d_sBrk, d_sCnt, d_sRetV, d_sRet, d_sRetL, d_sLp, d_tDef, d_tCase, d_sSw, d_sSwB, bIt_d, itb_0, itb_1, itb_2, itb_r, its_0, sqk_0, sqk_1, sqk_2, sqk_r, swk_0, swk_1, swk_r, bfin_r, bfin_ite, Option.bind_some, Option.map_some, Option.bind_none, Option.map_none, bind_ite, map_ite, cop0, cop1, cop2, cop3, cop4, cop5, opv0, opv1, opv2, opv3, brc_i, brc_z, two_ne_one, false_or, getI, getR, getL, List.getElem?_cons_zero, List.getElem?_cons_succ, List.set_cons_zero, List.set_cons_succ, bnl, if_true, if_false, true_or, or_true, decide_eq_true_eq, Bool.not_eq_true', decide_eq_false_iff_not, Bool.not_true, Bool.not_false, Bool.true_eq_false, Bool.false_eq_true, ite_not, reduceIte, ite01_0, ite01_1, Decidable.not_not, ne_eq, not_true_eq_false, not_false_eq_true, decide_not, Bool.not_not, Bool.not_eq_false']
  simp [ite01_in, bfin_r, hw.1, hw.2]
