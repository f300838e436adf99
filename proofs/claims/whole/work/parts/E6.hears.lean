/-! ===== the reference's round: hears ===== -/
theorem q_ret {κ : bK} {cal : bCl} {ls : bLs} {m : bM} {A B : ES κ} {q : bM × Int} (e : A.1.2 cal ls m = some (.inr q)) : (sSeq A B).1.2 cal ls m = some (.inr q) := by
  rw [d_sSeq, e, Option.bind_some, sqk_r]
def hrB (m m2 : bM) : Prop := (∀ i, i ≠ 132 → i ≠ 193 → i ≠ 194 → m2 i = m i) ∧ ∀ k, k ≠ 78 → m2 132 k = m 132 k
theorem hrB_refl (m : bM) : hrB m m := ⟨fun _ _ _ _ => rfl, fun _ _ => rfl⟩
theorem hrB_trans {m m1 m2 : bM} (h : hrB m m1) (g : hrB m1 m2) : hrB m m2 := ⟨fun i a b c => (g.1 i a b c).trans (h.1 i a b c), fun k a => (g.2 k a).trans (h.2 k a)⟩
/-- what a search may change: T < the least before: taken; else: left -/
def hrQ (m m2 : bM) (k d : Nat) (L : Nat → Nat) (T : Int) : Prop := (T < m 132 78 → m2 132 78 = T ∧ (∀ j, j < k → m2 194 j = m 193 j) ∧ ∀ j, j < d → m2 194 (k + j) = (L j : Int)) ∧ (¬ T < m 132 78 → m2 132 78 = m 132 78 ∧ m2 194 = m 194)
def hrO (m m2 : bM) (k d : Nat) (f : Nat → Int) (B : Int) (L : Nat → Nat → Nat) (o : Option Nat) : Prop := match o with
  | none => m2 132 78 = m 132 78 ∧ m2 194 = m 194
  | some i => hrQ m m2 k d (L i) (B + f i)
def rdF1 (f : Nat → Int) (o : Option Nat) (k : Nat) : Option Nat := match o with
  | none => some k
  | some i => if f k < f i then some k else some i
theorem rdF_s {f : Nat → Int} {h : Nat → Bool} {k : Nat} (e : h k = false) : rdF f h (k + 1) = rdF1 f (rdF f h k) k := by
  show (if h k = true then rdF f h k else rdF1 f (rdF f h k) k) = _
  rw [e]; rfl
theorem hrO_step {m m' m1 m2 : bM} {k d c : Nat} {f : Nat → Int} {B : Int} {L : Nat → Nat → Nat} {o : Option Nat} (hO : hrO m m' k (d + 1) f B L o) (w1 : bwr m' 193 k (c : Int) = m1) (ho : ∀ j, j < k → m' 193 j = m 193 j) (hL : L c 0 = c) (hQ : hrQ m1 m2 (k + 1) d (fun j => L c (j + 1)) (B + f c)) : hrO m m2 k (d + 1) f B L (rdF1 f o c) := by
  have l1 : m1 132 78 = m' 132 78 := by rw [← w1, bwr_ne _ _ (by decide)]
  have b1 : m1 194 = m' 194 := by rw [← w1, bwr_ne _ _ (by decide)]
  have take : B + f c < m' 132 78 → m2 132 78 = B + f c ∧ (∀ j, j < k → m2 194 j = m 193 j) ∧ ∀ j, j < d + 1 → m2 194 (k + j) = (L c j : Int) := fun h => by
    obtain ⟨a1, a2, a3⟩ := hQ.1 (by rw [l1]; exact h)
    refine ⟨a1, fun j hj => ?_, fun j hj => ?_⟩
    · rw [a2 j (by omega), ← w1, bwr_ne2 _ (by omega)]; exact ho j hj
    · cases j with
      | zero => rw [Nat.add_zero, a2 k (by omega), ← w1, bwr_eq2, hL]
      | succ j =>
        have := a3 j (by omega)
        rw [show k + (j + 1) = k + 1 + j by omega]
        exact this
  have leave : ¬ B + f c < m' 132 78 → m2 132 78 = m' 132 78 ∧ m2 194 = m' 194 := fun h => by
    obtain ⟨a1, a2⟩ := hQ.2 (by rw [l1]; exact h)
    exact ⟨a1.trans l1, a2.trans b1⟩
  cases o with
  | none =>
    obtain ⟨o1, o2⟩ := hO
    show hrQ m m2 k (d + 1) (L c) (B + f c)
    refine ⟨fun h => take (by rw [o1]; exact h), fun h => ?_⟩
    obtain ⟨a1, a2⟩ := leave (by rw [o1]; exact h)
    exact ⟨a1.trans o1, a2.trans o2⟩
  | some i =>
    have hO : hrQ m m' k (d + 1) (L i) (B + f i) := hO
    show hrO m m2 k (d + 1) f B L (if f c < f i then some c else some i)
    by_cases y : f c < f i
    · rw [if_pos y]
      show hrQ m m2 k (d + 1) (L c) (B + f c)
      by_cases z : B + f i < m 132 78
      · obtain ⟨o1, o2, o3⟩ := hO.1 z
        exact ⟨fun _ => take (by rw [o1]; omega), fun h => absurd (show B + f c < m 132 78 by omega) h⟩
      · obtain ⟨o1, o2⟩ := hO.2 z
        refine ⟨fun h => take (by rw [o1]; exact h), fun h => ?_⟩
        obtain ⟨a1, a2⟩ := leave (by rw [o1]; exact h)
        exact ⟨a1.trans o1, a2.trans o2⟩
    · rw [if_neg y]
      show hrQ m m2 k (d + 1) (L i) (B + f i)
      by_cases z : B + f i < m 132 78
      · obtain ⟨o1, o2, o3⟩ := hO.1 z
        obtain ⟨a1, a2⟩ := leave (by rw [o1]; omega)
        exact ⟨fun _ => ⟨a1.trans o1, fun j hj => by rw [a2]; exact o2 j hj, fun j hj => by rw [a2]; exact o3 j hj⟩, fun h => absurd z h⟩
      · obtain ⟨o1, o2⟩ := hO.2 z
        obtain ⟨a1, a2⟩ := leave (by rw [o1]; omega)
        exact ⟨fun h => absurd h z, fun _ => ⟨a1.trans o1, a2.trans o2⟩⟩
theorem rdW_nn {w : Nat → Int} {h : Nat → Bool} : ∀ {k : Nat}, (∀ i, i < k → 0 ≤ w i) → 0 ≤ rdW w h k
  | 0, _ => Int.le_refl _
  | k + 1, e => by
    have ih := rdW_nn (w := w) (h := h) (k := k) (fun i hi => e i (by omega))
    have := e k (Nat.lt_succ_self _)
    unfold rdW
    split <;> omega
theorem rdW_0 {w : Nat → Int} {h : Nat → Bool} : ∀ {k : Nat}, (∀ i, i < k → h i = true) → rdW w h k = 0
  | 0, _ => rfl
  | k + 1, e => by
    unfold rdW
    rw [if_pos (e k (Nat.lt_succ_self _))]
    exact rdW_0 (fun i hi => e i (by omega))
theorem rdV_nn {K : Nat} {rr w : Nat → Int} (hw : ∀ i, i < K → 0 ≤ w i) : ∀ (d : Nat) (h : Nat → Bool) (r m : Int), 0 ≤ m → 0 ≤ rdV K rr w d h r m
  | 0, _, _, _, _ => Int.le_refl _
  | d + 1, h, r, m, h2 => by
    unfold rdV
    cases q : rdF (fun i => (dst r (rr i) + m) * rdW w h K + rdV K rr w d (rdI h i) (rr i) 1) h K with
    | none => exact Int.le_refl _
    | some i =>
      have e1 : 0 ≤ dst r (rr i) := by unfold dst; split <;> omega
      have e2 := rdW_nn (h := h) hw
      have e3 : 0 ≤ (dst r (rr i) + m) * rdW w h K := Int.mul_nonneg (by omega) e2
      have e4 := rdV_nn (rr := rr) hw d (rdI h i) (rr i) 1 (by decide)
      show 0 ≤ (dst r (rr i) + m) * rdW w h K + rdV K rr w d (rdI h i) (rr i) 1
      omega
/-! rows of hears -/
theorem hr_0 (n : Nat) (m : bM) (l k f g c L : Int) (hL : m 132 78 = L) (h : L ≤ c) : sem (n + 1) 235 [aR 132, aI l, aI k, aI f, aI g, aI c] m = some (m, 0) := by
  rw [st_M_hears]
  simp only [B_M_hears, kr_M_hears, hL, h, d_rLoc1, d_rLoc2, d_rFld1, d_rFld2, d_eInt, d_eLdc, d_eLdw, d_eLoc, d_eFld, d_lFld, d_eAI, d_eAZ, d_eAB, d_lAL, d_eAD, d_eLen, d_eAdd, d_eSub, d_eMul, d_eAnd, d_eOr, d_eXor, d_eShl, d_eShr, d_eUsh, d_lAdd, d_lSub, d_lMul, d_lAnd, d_lOr, d_lXor, d_lShl, d_lShr, d_eDiv, d_eRem, d_eCmp, d_eI2B, d_eI2S, d_eL2I, d_lI2L, d_lInt, d_lLdc, d_lLoc, d_eIte, d_lIte, d_eMax, d_eMin, d_eAbs, d_eAbove, d_eBodies, d_cQ, d_cZ, d_cNot, d_cAnd, d_cOr, d_gNil, d_gI, d_gL, d_gR, d_gD, d_xV, d_xS, d_xN, d_xT, d_eCall, d_lCall, d_eCallC, d_sNop, d_sSet, d_sSetL, d_sSetR, d_sSetQ, d_sInc, d_sPutI, d_sPutZ, d_sPutL, d_sPutA, d_sPutAZ, d_sPutAB, d_sPutAL, d_sPutD, d_sOpF, d_sOpA, d_sCall, d_sCopy, d_sSeq, d_sIf, d_sBrk, d_sCnt, d_sRetV, d_sRet, d_sRetL, d_sLp, d_tDef, d_tCase, d_sSw, d_sSwB, bIt_d, itb_0, itb_1, itb_2, itb_r, its_0, sqk_0, sqk_1, sqk_2, sqk_r, swk_0, swk_1, swk_r, bfin_r, bfin_ite, Option.bind_some, Option.map_some, Option.bind_none, Option.map_none, bind_ite, map_ite, cop0, cop1, cop2, cop3, cop4, cop5, opv0, opv1, opv2, opv3, brc_i, brc_z, two_ne_one, false_or, getI, getR, getL, List.getElem?_cons_zero, List.getElem?_cons_succ, List.set_cons_zero, List.set_cons_succ, bnl, if_true, if_false, true_or, or_true, decide_eq_true_eq, Bool.not_eq_true', decide_eq_false_iff_not, Bool.not_true, Bool.not_false, Bool.true_eq_false, Bool.false_eq_true, ite_not, reduceIte, ite01_0, ite01_1, Decidable.not_not, ne_eq, not_true_eq_false, not_false_eq_true, Function.comp_apply, decide_not, Bool.not_not, Bool.not_eq_false', dc_t, dc_f, and_self, true_and, and_true, and_false, false_and, tnc, Int.reduceLT, Int.reduceLE, Int.reduceEq, Int.reduceAdd, Int.reduceSub, Int.reduceMul, Int.reduceToNat, Int.reduceNeg, Int.reduceNe]
theorem hr_1 (n : Nat) (m m1 m2 : bM) (k f g c L i : Int) (x : Option bV) (hL : m 132 78 = L) (h : ¬ L ≤ c) (w1 : bwr m 132 78 c = m1) (e : L_M_hears_1.1.2 (sem n) [some (aR 132), some (aI 0), some (aI k), some (aI f), some (aI g), some (aI c), some (aI 0), none] m1 = some (.inl (0, [some (aR 132), some (aI 0), some (aI k), some (aI f), some (aI g), some (aI c), some (aI i), x], m2))) : sem (n + 1) 235 [aR 132, aI 0, aI k, aI f, aI g, aI c] m = some (m2, 0) := by
  have eb : B_M_hears.1.2 (sem n) [some (aR 132), some (aI 0), some (aI k), some (aI f), some (aI g), some (aI c), none, none] m = some (.inr (m2, 0)) := by
    unfold B_M_hears
    refine (q_puti (ls2 := [some (aR 132), some (aI 0), some (aI k), some (aI f), some (aI g), some (aI c), none, none]) (m2 := m) ?_).trans ?_
    · simp only [hL, h, d_rLoc1, d_rLoc2, d_rFld1, d_rFld2, d_eInt, d_eLdc, d_eLdw, d_eLoc, d_eFld, d_lFld, d_eAI, d_eAZ, d_eAB, d_lAL, d_eAD, d_eLen, d_eAdd, d_eSub, d_eMul, d_eAnd, d_eOr, d_eXor, d_eShl, d_eShr, d_eUsh, d_lAdd, d_lSub, d_lMul, d_lAnd, d_lOr, d_lXor, d_lShl, d_lShr, d_eDiv, d_eRem, d_eCmp, d_eI2B, d_eI2S, d_eL2I, d_lI2L, d_lInt, d_lLdc, d_lLoc, d_eIte, d_lIte, d_eMax, d_eMin, d_eAbs, d_eAbove, d_eBodies, d_cQ, d_cZ, d_cNot, d_cAnd, d_cOr, d_gNil, d_gI, d_gL, d_gR, d_gD, d_xV, d_xS, d_xN, d_xT, d_eCall, d_lCall, d_eCallC, d_sNop, d_sSet, d_sSetL, d_sSetR, d_sSetQ, d_sInc, d_sPutI, d_sPutZ, d_sPutL, d_sPutA, d_sPutAZ, d_sPutAB, d_sPutAL, d_sPutD, d_sOpF, d_sOpA, d_sCall, d_sCopy, d_sSeq, d_sIf, d_sBrk, d_sCnt, d_sRetV, d_sRet, d_sRetL, d_sLp, d_tDef, d_tCase, d_sSw, d_sSwB, bIt_d, itb_0, itb_1, itb_2, itb_r, its_0, sqk_0, sqk_1, sqk_2, sqk_r, swk_0, swk_1, swk_r, bfin_r, bfin_ite, Option.bind_some, Option.map_some, Option.bind_none, Option.map_none, bind_ite, map_ite, cop0, cop1, cop2, cop3, cop4, cop5, opv0, opv1, opv2, opv3, brc_i, brc_z, two_ne_one, false_or, getI, getR, getL, List.getElem?_cons_zero, List.getElem?_cons_succ, List.set_cons_zero, List.set_cons_succ, bnl, if_true, if_false, true_or, or_true, decide_eq_true_eq, Bool.not_eq_true', decide_eq_false_iff_not, Bool.not_true, Bool.not_false, Bool.true_eq_false, Bool.false_eq_true, ite_not, reduceIte, ite01_0, ite01_1, Decidable.not_not, ne_eq, not_true_eq_false, not_false_eq_true, Function.comp_apply, decide_not, Bool.not_not, Bool.not_eq_false', dc_t, dc_f, and_self, true_and, and_true, and_false, false_and, tnc, Int.reduceLT, Int.reduceLE, Int.reduceEq, Int.reduceAdd, Int.reduceSub, Int.reduceMul, Int.reduceToNat, Int.reduceNeg, Int.reduceNe]
    refine q_ret ?_
    refine (q_ift (m2 := m) ?_).trans ?_
    · simp only [d_rLoc1, d_rLoc2, d_rFld1, d_rFld2, d_eInt, d_eLdc, d_eLdw, d_eLoc, d_eFld, d_lFld, d_eAI, d_eAZ, d_eAB, d_lAL, d_eAD, d_eLen, d_eAdd, d_eSub, d_eMul, d_eAnd, d_eOr, d_eXor, d_eShl, d_eShr, d_eUsh, d_lAdd, d_lSub, d_lMul, d_lAnd, d_lOr, d_lXor, d_lShl, d_lShr, d_eDiv, d_eRem, d_eCmp, d_eI2B, d_eI2S, d_eL2I, d_lI2L, d_lInt, d_lLdc, d_lLoc, d_eIte, d_lIte, d_eMax, d_eMin, d_eAbs, d_eAbove, d_eBodies, d_cQ, d_cZ, d_cNot, d_cAnd, d_cOr, d_gNil, d_gI, d_gL, d_gR, d_gD, d_xV, d_xS, d_xN, d_xT, d_eCall, d_lCall, d_eCallC, d_sNop, d_sSet, d_sSetL, d_sSetR, d_sSetQ, d_sInc, d_sPutI, d_sPutZ, d_sPutL, d_sPutA, d_sPutAZ, d_sPutAB, d_sPutAL, d_sPutD, d_sOpF, d_sOpA, d_sCall, d_sCopy, d_sSeq, d_sIf, d_sBrk, d_sCnt, d_sRetV, d_sRet, d_sRetL, d_sLp, d_tDef, d_tCase, d_sSw, d_sSwB, bIt_d, itb_0, itb_1, itb_2, itb_r, its_0, sqk_0, sqk_1, sqk_2, sqk_r, swk_0, swk_1, swk_r, bfin_r, bfin_ite, Option.bind_some, Option.map_some, Option.bind_none, Option.map_none, bind_ite, map_ite, cop0, cop1, cop2, cop3, cop4, cop5, opv0, opv1, opv2, opv3, brc_i, brc_z, two_ne_one, false_or, getI, getR, getL, List.getElem?_cons_zero, List.getElem?_cons_succ, List.set_cons_zero, List.set_cons_succ, bnl, if_true, if_false, true_or, or_true, decide_eq_true_eq, Bool.not_eq_true', decide_eq_false_iff_not, Bool.not_true, Bool.not_false, Bool.true_eq_false, Bool.false_eq_true, ite_not, reduceIte, ite01_0, ite01_1, Decidable.not_not, ne_eq, not_true_eq_false, not_false_eq_true, Function.comp_apply, decide_not, Bool.not_not, Bool.not_eq_false', dc_t, dc_f, and_self, true_and, and_true, and_false, false_and, tnc, Int.reduceLT, Int.reduceLE, Int.reduceEq, Int.reduceAdd, Int.reduceSub, Int.reduceMul, Int.reduceToNat, Int.reduceNeg, Int.reduceNe]
    refine (q_puti (ls2 := [some (aR 132), some (aI 0), some (aI k), some (aI f), some (aI g), some (aI c), none, none]) (m2 := m1) ?_).trans ?_
    · simp only [w1, d_rLoc1, d_rLoc2, d_rFld1, d_rFld2, d_eInt, d_eLdc, d_eLdw, d_eLoc, d_eFld, d_lFld, d_eAI, d_eAZ, d_eAB, d_lAL, d_eAD, d_eLen, d_eAdd, d_eSub, d_eMul, d_eAnd, d_eOr, d_eXor, d_eShl, d_eShr, d_eUsh, d_lAdd, d_lSub, d_lMul, d_lAnd, d_lOr, d_lXor, d_lShl, d_lShr, d_eDiv, d_eRem, d_eCmp, d_eI2B, d_eI2S, d_eL2I, d_lI2L, d_lInt, d_lLdc, d_lLoc, d_eIte, d_lIte, d_eMax, d_eMin, d_eAbs, d_eAbove, d_eBodies, d_cQ, d_cZ, d_cNot, d_cAnd, d_cOr, d_gNil, d_gI, d_gL, d_gR, d_gD, d_xV, d_xS, d_xN, d_xT, d_eCall, d_lCall, d_eCallC, d_sNop, d_sSet, d_sSetL, d_sSetR, d_sSetQ, d_sInc, d_sPutI, d_sPutZ, d_sPutL, d_sPutA, d_sPutAZ, d_sPutAB, d_sPutAL, d_sPutD, d_sOpF, d_sOpA, d_sCall, d_sCopy, d_sSeq, d_sIf, d_sBrk, d_sCnt, d_sRetV, d_sRet, d_sRetL, d_sLp, d_tDef, d_tCase, d_sSw, d_sSwB, bIt_d, itb_0, itb_1, itb_2, itb_r, its_0, sqk_0, sqk_1, sqk_2, sqk_r, swk_0, swk_1, swk_r, bfin_r, bfin_ite, Option.bind_some, Option.map_some, Option.bind_none, Option.map_none, bind_ite, map_ite, cop0, cop1, cop2, cop3, cop4, cop5, opv0, opv1, opv2, opv3, brc_i, brc_z, two_ne_one, false_or, getI, getR, getL, List.getElem?_cons_zero, List.getElem?_cons_succ, List.set_cons_zero, List.set_cons_succ, bnl, if_true, if_false, true_or, or_true, decide_eq_true_eq, Bool.not_eq_true', decide_eq_false_iff_not, Bool.not_true, Bool.not_false, Bool.true_eq_false, Bool.false_eq_true, ite_not, reduceIte, ite01_0, ite01_1, Decidable.not_not, ne_eq, not_true_eq_false, not_false_eq_true, Function.comp_apply, decide_not, Bool.not_not, Bool.not_eq_false', dc_t, dc_f, and_self, true_and, and_true, and_false, false_and, tnc, Int.reduceLT, Int.reduceLE, Int.reduceEq, Int.reduceAdd, Int.reduceSub, Int.reduceMul, Int.reduceToNat, Int.reduceNeg, Int.reduceNe]
    revert e
    generalize L_M_hears_1 = LL
    intro e
    simp only [e, kr_M_hears, d_rLoc1, d_rLoc2, d_rFld1, d_rFld2, d_eInt, d_eLdc, d_eLdw, d_eLoc, d_eFld, d_lFld, d_eAI, d_eAZ, d_eAB, d_lAL, d_eAD, d_eLen, d_eAdd, d_eSub, d_eMul, d_eAnd, d_eOr, d_eXor, d_eShl, d_eShr, d_eUsh, d_lAdd, d_lSub, d_lMul, d_lAnd, d_lOr, d_lXor, d_lShl, d_lShr, d_eDiv, d_eRem, d_eCmp, d_eI2B, d_eI2S, d_eL2I, d_lI2L, d_lInt, d_lLdc, d_lLoc, d_eIte, d_lIte, d_eMax, d_eMin, d_eAbs, d_eAbove, d_eBodies, d_cQ, d_cZ, d_cNot, d_cAnd, d_cOr, d_gNil, d_gI, d_gL, d_gR, d_gD, d_xV, d_xS, d_xN, d_xT, d_eCall, d_lCall, d_eCallC, d_sNop, d_sSet, d_sSetL, d_sSetR, d_sSetQ, d_sInc, d_sPutI, d_sPutZ, d_sPutL, d_sPutA, d_sPutAZ, d_sPutAB, d_sPutAL, d_sPutD, d_sOpF, d_sOpA, d_sCall, d_sCopy, d_sSeq, d_sIf, d_sBrk, d_sCnt, d_sRetV, d_sRet, d_sRetL, d_sLp, d_tDef, d_tCase, d_sSw, d_sSwB, bIt_d, itb_0, itb_1, itb_2, itb_r, its_0, sqk_0, sqk_1, sqk_2, sqk_r, swk_0, swk_1, swk_r, bfin_r, bfin_ite, Option.bind_some, Option.map_some, Option.bind_none, Option.map_none, bind_ite, map_ite, cop0, cop1, cop2, cop3, cop4, cop5, opv0, opv1, opv2, opv3, brc_i, brc_z, two_ne_one, false_or, getI, getR, getL, List.getElem?_cons_zero, List.getElem?_cons_succ, List.set_cons_zero, List.set_cons_succ, bnl, if_true, if_false, true_or, or_true, decide_eq_true_eq, Bool.not_eq_true', decide_eq_false_iff_not, Bool.not_true, Bool.not_false, Bool.true_eq_false, Bool.false_eq_true, ite_not, reduceIte, ite01_0, ite01_1, Decidable.not_not, ne_eq, not_true_eq_false, not_false_eq_true, Function.comp_apply, decide_not, Bool.not_not, Bool.not_eq_false', dc_t, dc_f, and_self, true_and, and_true, and_false, false_and, tnc, Int.reduceLT, Int.reduceLE, Int.reduceEq, Int.reduceAdd, Int.reduceSub, Int.reduceMul, Int.reduceToNat, Int.reduceNeg, Int.reduceNe]
  rw [st_M_hears, eb, bfin_r]
theorem hr_2 (n : Nat) (m m2 : bM) (l k f g c L i : Int) (x : Option bV) (hL : m 132 78 = L) (h : ¬ L ≤ c) (hl : ¬ l = 0) (e : L_M_hears_2.1.2 (sem n) [some (aR 132), some (aI l), some (aI k), some (aI f), some (aI g), some (aI c), some (aI 0), none] m = some (.inl (0, [some (aR 132), some (aI l), some (aI k), some (aI f), some (aI g), some (aI c), some (aI i), x], m2))) : sem (n + 1) 235 [aR 132, aI l, aI k, aI f, aI g, aI c] m = some (m2, 0) := by
  have eb : B_M_hears.1.2 (sem n) [some (aR 132), some (aI l), some (aI k), some (aI f), some (aI g), some (aI c), none, none] m = some (.inr (m2, 0)) := by
    unfold B_M_hears
    refine (q_puti (ls2 := [some (aR 132), some (aI l), some (aI k), some (aI f), some (aI g), some (aI c), none, none]) (m2 := m) ?_).trans ?_
    · simp only [hL, h, d_rLoc1, d_rLoc2, d_rFld1, d_rFld2, d_eInt, d_eLdc, d_eLdw, d_eLoc, d_eFld, d_lFld, d_eAI, d_eAZ, d_eAB, d_lAL, d_eAD, d_eLen, d_eAdd, d_eSub, d_eMul, d_eAnd, d_eOr, d_eXor, d_eShl, d_eShr, d_eUsh, d_lAdd, d_lSub, d_lMul, d_lAnd, d_lOr, d_lXor, d_lShl, d_lShr, d_eDiv, d_eRem, d_eCmp, d_eI2B, d_eI2S, d_eL2I, d_lI2L, d_lInt, d_lLdc, d_lLoc, d_eIte, d_lIte, d_eMax, d_eMin, d_eAbs, d_eAbove, d_eBodies, d_cQ, d_cZ, d_cNot, d_cAnd, d_cOr, d_gNil, d_gI, d_gL, d_gR, d_gD, d_xV, d_xS, d_xN, d_xT, d_eCall, d_lCall, d_eCallC, d_sNop, d_sSet, d_sSetL, d_sSetR, d_sSetQ, d_sInc, d_sPutI, d_sPutZ, d_sPutL, d_sPutA, d_sPutAZ, d_sPutAB, d_sPutAL, d_sPutD, d_sOpF, d_sOpA, d_sCall, d_sCopy, d_sSeq, d_sIf, d_sBrk, d_sCnt, d_sRetV, d_sRet, d_sRetL, d_sLp, d_tDef, d_tCase, d_sSw, d_sSwB, bIt_d, itb_0, itb_1, itb_2, itb_r, its_0, sqk_0, sqk_1, sqk_2, sqk_r, swk_0, swk_1, swk_r, bfin_r, bfin_ite, Option.bind_some, Option.map_some, Option.bind_none, Option.map_none, bind_ite, map_ite, cop0, cop1, cop2, cop3, cop4, cop5, opv0, opv1, opv2, opv3, brc_i, brc_z, two_ne_one, false_or, getI, getR, getL, List.getElem?_cons_zero, List.getElem?_cons_succ, List.set_cons_zero, List.set_cons_succ, bnl, if_true, if_false, true_or, or_true, decide_eq_true_eq, Bool.not_eq_true', decide_eq_false_iff_not, Bool.not_true, Bool.not_false, Bool.true_eq_false, Bool.false_eq_true, ite_not, reduceIte, ite01_0, ite01_1, Decidable.not_not, ne_eq, not_true_eq_false, not_false_eq_true, Function.comp_apply, decide_not, Bool.not_not, Bool.not_eq_false', dc_t, dc_f, and_self, true_and, and_true, and_false, false_and, tnc, Int.reduceLT, Int.reduceLE, Int.reduceEq, Int.reduceAdd, Int.reduceSub, Int.reduceMul, Int.reduceToNat, Int.reduceNeg, Int.reduceNe]
    refine (q_puti (ls2 := [some (aR 132), some (aI l), some (aI k), some (aI f), some (aI g), some (aI c), none, none]) (m2 := m) ?_).trans ?_
    · generalize L_M_hears_1 = LL
      simp only [hl, d_rLoc1, d_rLoc2, d_rFld1, d_rFld2, d_eInt, d_eLdc, d_eLdw, d_eLoc, d_eFld, d_lFld, d_eAI, d_eAZ, d_eAB, d_lAL, d_eAD, d_eLen, d_eAdd, d_eSub, d_eMul, d_eAnd, d_eOr, d_eXor, d_eShl, d_eShr, d_eUsh, d_lAdd, d_lSub, d_lMul, d_lAnd, d_lOr, d_lXor, d_lShl, d_lShr, d_eDiv, d_eRem, d_eCmp, d_eI2B, d_eI2S, d_eL2I, d_lI2L, d_lInt, d_lLdc, d_lLoc, d_eIte, d_lIte, d_eMax, d_eMin, d_eAbs, d_eAbove, d_eBodies, d_cQ, d_cZ, d_cNot, d_cAnd, d_cOr, d_gNil, d_gI, d_gL, d_gR, d_gD, d_xV, d_xS, d_xN, d_xT, d_eCall, d_lCall, d_eCallC, d_sNop, d_sSet, d_sSetL, d_sSetR, d_sSetQ, d_sInc, d_sPutI, d_sPutZ, d_sPutL, d_sPutA, d_sPutAZ, d_sPutAB, d_sPutAL, d_sPutD, d_sOpF, d_sOpA, d_sCall, d_sCopy, d_sSeq, d_sIf, d_sBrk, d_sCnt, d_sRetV, d_sRet, d_sRetL, d_sLp, d_tDef, d_tCase, d_sSw, d_sSwB, bIt_d, itb_0, itb_1, itb_2, itb_r, its_0, sqk_0, sqk_1, sqk_2, sqk_r, swk_0, swk_1, swk_r, bfin_r, bfin_ite, Option.bind_some, Option.map_some, Option.bind_none, Option.map_none, bind_ite, map_ite, cop0, cop1, cop2, cop3, cop4, cop5, opv0, opv1, opv2, opv3, brc_i, brc_z, two_ne_one, false_or, getI, getR, getL, List.getElem?_cons_zero, List.getElem?_cons_succ, List.set_cons_zero, List.set_cons_succ, bnl, if_true, if_false, true_or, or_true, decide_eq_true_eq, Bool.not_eq_true', decide_eq_false_iff_not, Bool.not_true, Bool.not_false, Bool.true_eq_false, Bool.false_eq_true, ite_not, reduceIte, ite01_0, ite01_1, Decidable.not_not, ne_eq, not_true_eq_false, not_false_eq_true, Function.comp_apply, decide_not, Bool.not_not, Bool.not_eq_false', dc_t, dc_f, and_self, true_and, and_true, and_false, false_and, tnc, Int.reduceLT, Int.reduceLE, Int.reduceEq, Int.reduceAdd, Int.reduceSub, Int.reduceMul, Int.reduceToNat, Int.reduceNeg, Int.reduceNe]
    revert e
    generalize L_M_hears_2 = LL
    intro e
    simp only [e, kr_M_hears, d_rLoc1, d_rLoc2, d_rFld1, d_rFld2, d_eInt, d_eLdc, d_eLdw, d_eLoc, d_eFld, d_lFld, d_eAI, d_eAZ, d_eAB, d_lAL, d_eAD, d_eLen, d_eAdd, d_eSub, d_eMul, d_eAnd, d_eOr, d_eXor, d_eShl, d_eShr, d_eUsh, d_lAdd, d_lSub, d_lMul, d_lAnd, d_lOr, d_lXor, d_lShl, d_lShr, d_eDiv, d_eRem, d_eCmp, d_eI2B, d_eI2S, d_eL2I, d_lI2L, d_lInt, d_lLdc, d_lLoc, d_eIte, d_lIte, d_eMax, d_eMin, d_eAbs, d_eAbove, d_eBodies, d_cQ, d_cZ, d_cNot, d_cAnd, d_cOr, d_gNil, d_gI, d_gL, d_gR, d_gD, d_xV, d_xS, d_xN, d_xT, d_eCall, d_lCall, d_eCallC, d_sNop, d_sSet, d_sSetL, d_sSetR, d_sSetQ, d_sInc, d_sPutI, d_sPutZ, d_sPutL, d_sPutA, d_sPutAZ, d_sPutAB, d_sPutAL, d_sPutD, d_sOpF, d_sOpA, d_sCall, d_sCopy, d_sSeq, d_sIf, d_sBrk, d_sCnt, d_sRetV, d_sRet, d_sRetL, d_sLp, d_tDef, d_tCase, d_sSw, d_sSwB, bIt_d, itb_0, itb_1, itb_2, itb_r, its_0, sqk_0, sqk_1, sqk_2, sqk_r, swk_0, swk_1, swk_r, bfin_r, bfin_ite, Option.bind_some, Option.map_some, Option.bind_none, Option.map_none, bind_ite, map_ite, cop0, cop1, cop2, cop3, cop4, cop5, opv0, opv1, opv2, opv3, brc_i, brc_z, two_ne_one, false_or, getI, getR, getL, List.getElem?_cons_zero, List.getElem?_cons_succ, List.set_cons_zero, List.set_cons_succ, bnl, if_true, if_false, true_or, or_true, decide_eq_true_eq, Bool.not_eq_true', decide_eq_false_iff_not, Bool.not_true, Bool.not_false, Bool.true_eq_false, Bool.false_eq_true, ite_not, reduceIte, ite01_0, ite01_1, Decidable.not_not, ne_eq, not_true_eq_false, not_false_eq_true, Function.comp_apply, decide_not, Bool.not_not, Bool.not_eq_false', dc_t, dc_f, and_self, true_and, and_true, and_false, false_and, tnc, Int.reduceLT, Int.reduceLE, Int.reduceEq, Int.reduceAdd, Int.reduceSub, Int.reduceMul, Int.reduceToNat, Int.reduceNeg, Int.reduceNe]
  rw [st_M_hears, eb, bfin_r]
theorem h1_c (n : Nat) (m : bM) (l k f g c i : Int) (x : Option bV) (h : i < k) : L_M_hears_1c.1.2 (sem n) [some (aR 132), some (aI l), some (aI k), some (aI f), some (aI g), some (aI c), some (aI i), x] m = some (true, m) := by
  simp only [L_M_hears_1c, h, d_rLoc1, d_rLoc2, d_rFld1, d_rFld2, d_eInt, d_eLdc, d_eLdw, d_eLoc, d_eFld, d_lFld, d_eAI, d_eAZ, d_eAB, d_lAL, d_eAD, d_eLen, d_eAdd, d_eSub, d_eMul, d_eAnd, d_eOr, d_eXor, d_eShl, d_eShr, d_eUsh, d_lAdd, d_lSub, d_lMul, d_lAnd, d_lOr, d_lXor, d_lShl, d_lShr, d_eDiv, d_eRem, d_eCmp, d_eI2B, d_eI2S, d_eL2I, d_lI2L, d_lInt, d_lLdc, d_lLoc, d_eIte, d_lIte, d_eMax, d_eMin, d_eAbs, d_eAbove, d_eBodies, d_cQ, d_cZ, d_cNot, d_cAnd, d_cOr, d_gNil, d_gI, d_gL, d_gR, d_gD, d_xV, d_xS, d_xN, d_xT, d_eCall, d_lCall, d_eCallC, d_sNop, d_sSet, d_sSetL, d_sSetR, d_sSetQ, d_sInc, d_sPutI, d_sPutZ, d_sPutL, d_sPutA, d_sPutAZ, d_sPutAB, d_sPutAL, d_sPutD, d_sOpF, d_sOpA, d_sCall, d_sCopy, d_sSeq, d_sIf, d_sBrk, d_sCnt, d_sRetV, d_sRet, d_sRetL, d_sLp, d_tDef, d_tCase, d_sSw, d_sSwB, bIt_d, itb_0, itb_1, itb_2, itb_r, its_0, sqk_0, sqk_1, sqk_2, sqk_r, swk_0, swk_1, swk_r, bfin_r, bfin_ite, Option.bind_some, Option.map_some, Option.bind_none, Option.map_none, bind_ite, map_ite, cop0, cop1, cop2, cop3, cop4, cop5, opv0, opv1, opv2, opv3, brc_i, brc_z, two_ne_one, false_or, getI, getR, getL, List.getElem?_cons_zero, List.getElem?_cons_succ, List.set_cons_zero, List.set_cons_succ, bnl, if_true, if_false, true_or, or_true, decide_eq_true_eq, Bool.not_eq_true', decide_eq_false_iff_not, Bool.not_true, Bool.not_false, Bool.true_eq_false, Bool.false_eq_true, ite_not, reduceIte, ite01_0, ite01_1, Decidable.not_not, ne_eq, not_true_eq_false, not_false_eq_true, Function.comp_apply, decide_not, Bool.not_not, Bool.not_eq_false', dc_t, dc_f, and_self, true_and, and_true, and_false, false_and, tnc, Int.reduceLT, Int.reduceLE, Int.reduceEq, Int.reduceAdd, Int.reduceSub, Int.reduceMul, Int.reduceToNat, Int.reduceNeg, Int.reduceNe]
theorem h1_x (n : Nat) (m : bM) (l k f g c i : Int) (x : Option bV) (h : ¬ i < k) : L_M_hears_1c.1.2 (sem n) [some (aR 132), some (aI l), some (aI k), some (aI f), some (aI g), some (aI c), some (aI i), x] m = some (false, m) := by
  simp only [L_M_hears_1c, h, d_rLoc1, d_rLoc2, d_rFld1, d_rFld2, d_eInt, d_eLdc, d_eLdw, d_eLoc, d_eFld, d_lFld, d_eAI, d_eAZ, d_eAB, d_lAL, d_eAD, d_eLen, d_eAdd, d_eSub, d_eMul, d_eAnd, d_eOr, d_eXor, d_eShl, d_eShr, d_eUsh, d_lAdd, d_lSub, d_lMul, d_lAnd, d_lOr, d_lXor, d_lShl, d_lShr, d_eDiv, d_eRem, d_eCmp, d_eI2B, d_eI2S, d_eL2I, d_lI2L, d_lInt, d_lLdc, d_lLoc, d_eIte, d_lIte, d_eMax, d_eMin, d_eAbs, d_eAbove, d_eBodies, d_cQ, d_cZ, d_cNot, d_cAnd, d_cOr, d_gNil, d_gI, d_gL, d_gR, d_gD, d_xV, d_xS, d_xN, d_xT, d_eCall, d_lCall, d_eCallC, d_sNop, d_sSet, d_sSetL, d_sSetR, d_sSetQ, d_sInc, d_sPutI, d_sPutZ, d_sPutL, d_sPutA, d_sPutAZ, d_sPutAB, d_sPutAL, d_sPutD, d_sOpF, d_sOpA, d_sCall, d_sCopy, d_sSeq, d_sIf, d_sBrk, d_sCnt, d_sRetV, d_sRet, d_sRetL, d_sLp, d_tDef, d_tCase, d_sSw, d_sSwB, bIt_d, itb_0, itb_1, itb_2, itb_r, its_0, sqk_0, sqk_1, sqk_2, sqk_r, swk_0, swk_1, swk_r, bfin_r, bfin_ite, Option.bind_some, Option.map_some, Option.bind_none, Option.map_none, bind_ite, map_ite, cop0, cop1, cop2, cop3, cop4, cop5, opv0, opv1, opv2, opv3, brc_i, brc_z, two_ne_one, false_or, getI, getR, getL, List.getElem?_cons_zero, List.getElem?_cons_succ, List.set_cons_zero, List.set_cons_succ, bnl, if_true, if_false, true_or, or_true, decide_eq_true_eq, Bool.not_eq_true', decide_eq_false_iff_not, Bool.not_true, Bool.not_false, Bool.true_eq_false, Bool.false_eq_true, ite_not, reduceIte, ite01_0, ite01_1, Decidable.not_not, ne_eq, not_true_eq_false, not_false_eq_true, Function.comp_apply, decide_not, Bool.not_not, Bool.not_eq_false', dc_t, dc_f, and_self, true_and, and_true, and_false, false_and, tnc, Int.reduceLT, Int.reduceLE, Int.reduceEq, Int.reduceAdd, Int.reduceSub, Int.reduceMul, Int.reduceToNat, Int.reduceNeg, Int.reduceNe]
theorem h1_s (n : Nat) (m : bM) (l k f g c i u : Int) (x : Option bV) (e : i32 (i + 1) = u) : L_M_hears_1s.1.2 (sem n) [some (aR 132), some (aI l), some (aI k), some (aI f), some (aI g), some (aI c), some (aI i), x] m = some (.inl (0, [some (aR 132), some (aI l), some (aI k), some (aI f), some (aI g), some (aI c), some (aI u), x], m)) := by
  simp only [L_M_hears_1s, e, d_rLoc1, d_rLoc2, d_rFld1, d_rFld2, d_eInt, d_eLdc, d_eLdw, d_eLoc, d_eFld, d_lFld, d_eAI, d_eAZ, d_eAB, d_lAL, d_eAD, d_eLen, d_eAdd, d_eSub, d_eMul, d_eAnd, d_eOr, d_eXor, d_eShl, d_eShr, d_eUsh, d_lAdd, d_lSub, d_lMul, d_lAnd, d_lOr, d_lXor, d_lShl, d_lShr, d_eDiv, d_eRem, d_eCmp, d_eI2B, d_eI2S, d_eL2I, d_lI2L, d_lInt, d_lLdc, d_lLoc, d_eIte, d_lIte, d_eMax, d_eMin, d_eAbs, d_eAbove, d_eBodies, d_cQ, d_cZ, d_cNot, d_cAnd, d_cOr, d_gNil, d_gI, d_gL, d_gR, d_gD, d_xV, d_xS, d_xN, d_xT, d_eCall, d_lCall, d_eCallC, d_sNop, d_sSet, d_sSetL, d_sSetR, d_sSetQ, d_sInc, d_sPutI, d_sPutZ, d_sPutL, d_sPutA, d_sPutAZ, d_sPutAB, d_sPutAL, d_sPutD, d_sOpF, d_sOpA, d_sCall, d_sCopy, d_sSeq, d_sIf, d_sBrk, d_sCnt, d_sRetV, d_sRet, d_sRetL, d_sLp, d_tDef, d_tCase, d_sSw, d_sSwB, bIt_d, itb_0, itb_1, itb_2, itb_r, its_0, sqk_0, sqk_1, sqk_2, sqk_r, swk_0, swk_1, swk_r, bfin_r, bfin_ite, Option.bind_some, Option.map_some, Option.bind_none, Option.map_none, bind_ite, map_ite, cop0, cop1, cop2, cop3, cop4, cop5, opv0, opv1, opv2, opv3, brc_i, brc_z, two_ne_one, false_or, getI, getR, getL, List.getElem?_cons_zero, List.getElem?_cons_succ, List.set_cons_zero, List.set_cons_succ, bnl, if_true, if_false, true_or, or_true, decide_eq_true_eq, Bool.not_eq_true', decide_eq_false_iff_not, Bool.not_true, Bool.not_false, Bool.true_eq_false, Bool.false_eq_true, ite_not, reduceIte, ite01_0, ite01_1, Decidable.not_not, ne_eq, not_true_eq_false, not_false_eq_true, Function.comp_apply, decide_not, Bool.not_not, Bool.not_eq_false', dc_t, dc_f, and_self, true_and, and_true, and_false, false_and, tnc]
theorem h1_b (n : Nat) (m m1 : bM) (l k f g c i v : Int) (I : Nat) (x : Option bV) (f1 : 0 ≤ i ∧ i < ((7 : Nat) : Int)) (ti : i.toNat = I) (hv : m 193 I = v) (w : bwr m 194 I v = m1) : L_M_hears_1b.1.2 (sem n) [some (aR 132), some (aI l), some (aI k), some (aI f), some (aI g), some (aI c), some (aI i), x] m = some (.inl (0, [some (aR 132), some (aI l), some (aI k), some (aI f), some (aI g), some (aI c), some (aI i), x], m1)) := by
  simp only [L_M_hears_1b, f1, ti, hv, w, d_rLoc1, d_rLoc2, d_rFld1, d_rFld2, d_eInt, d_eLdc, d_eLdw, d_eLoc, d_eFld, d_lFld, d_eAI, d_eAZ, d_eAB, d_lAL, d_eAD, d_eLen, d_eAdd, d_eSub, d_eMul, d_eAnd, d_eOr, d_eXor, d_eShl, d_eShr, d_eUsh, d_lAdd, d_lSub, d_lMul, d_lAnd, d_lOr, d_lXor, d_lShl, d_lShr, d_eDiv, d_eRem, d_eCmp, d_eI2B, d_eI2S, d_eL2I, d_lI2L, d_lInt, d_lLdc, d_lLoc, d_eIte, d_lIte, d_eMax, d_eMin, d_eAbs, d_eAbove, d_eBodies, d_cQ, d_cZ, d_cNot, d_cAnd, d_cOr, d_gNil, d_gI, d_gL, d_gR, d_gD, d_xV, d_xS, d_xN, d_xT, d_eCall, d_lCall, d_eCallC, d_sNop, d_sSet, d_sSetL, d_sSetR, d_sSetQ, d_sInc, d_sPutI, d_sPutZ, d_sPutL, d_sPutA, d_sPutAZ, d_sPutAB, d_sPutAL, d_sPutD, d_sOpF, d_sOpA, d_sCall, d_sCopy, d_sSeq, d_sIf, d_sBrk, d_sCnt, d_sRetV, d_sRet, d_sRetL, d_sLp, d_tDef, d_tCase, d_sSw, d_sSwB, bIt_d, itb_0, itb_1, itb_2, itb_r, its_0, sqk_0, sqk_1, sqk_2, sqk_r, swk_0, swk_1, swk_r, bfin_r, bfin_ite, Option.bind_some, Option.map_some, Option.bind_none, Option.map_none, bind_ite, map_ite, cop0, cop1, cop2, cop3, cop4, cop5, opv0, opv1, opv2, opv3, brc_i, brc_z, two_ne_one, false_or, getI, getR, getL, List.getElem?_cons_zero, List.getElem?_cons_succ, List.set_cons_zero, List.set_cons_succ, bnl, if_true, if_false, true_or, or_true, decide_eq_true_eq, Bool.not_eq_true', decide_eq_false_iff_not, Bool.not_true, Bool.not_false, Bool.true_eq_false, Bool.false_eq_true, ite_not, reduceIte, ite01_0, ite01_1, Decidable.not_not, ne_eq, not_true_eq_false, not_false_eq_true, Function.comp_apply, decide_not, Bool.not_not, Bool.not_eq_false', dc_t, dc_f, and_self, true_and, and_true, and_false, false_and, tnc, Int.reduceLT, Int.reduceLE, Int.reduceEq, Int.reduceAdd, Int.reduceSub, Int.reduceMul, Int.reduceToNat, Int.reduceNeg, Int.reduceNe]
theorem h2_c (n : Nat) (m : bM) (l k f g c i N : Int) (x : Option bV) (hN : m 133 12 = N) (h : i < N) : L_M_hears_2c.1.2 (sem n) [some (aR 132), some (aI l), some (aI k), some (aI f), some (aI g), some (aI c), some (aI i), x] m = some (true, m) := by
  simp only [L_M_hears_2c, nx_12, nm_12, hN, h, d_rLoc1, d_rLoc2, d_rFld1, d_rFld2, d_eInt, d_eLdc, d_eLdw, d_eLoc, d_eFld, d_lFld, d_eAI, d_eAZ, d_eAB, d_lAL, d_eAD, d_eLen, d_eAdd, d_eSub, d_eMul, d_eAnd, d_eOr, d_eXor, d_eShl, d_eShr, d_eUsh, d_lAdd, d_lSub, d_lMul, d_lAnd, d_lOr, d_lXor, d_lShl, d_lShr, d_eDiv, d_eRem, d_eCmp, d_eI2B, d_eI2S, d_eL2I, d_lI2L, d_lInt, d_lLdc, d_lLoc, d_eIte, d_lIte, d_eMax, d_eMin, d_eAbs, d_eAbove, d_eBodies, d_cQ, d_cZ, d_cNot, d_cAnd, d_cOr, d_gNil, d_gI, d_gL, d_gR, d_gD, d_xV, d_xS, d_xN, d_xT, d_eCall, d_lCall, d_eCallC, d_sNop, d_sSet, d_sSetL, d_sSetR, d_sSetQ, d_sInc, d_sPutI, d_sPutZ, d_sPutL, d_sPutA, d_sPutAZ, d_sPutAB, d_sPutAL, d_sPutD, d_sOpF, d_sOpA, d_sCall, d_sCopy, d_sSeq, d_sIf, d_sBrk, d_sCnt, d_sRetV, d_sRet, d_sRetL, d_sLp, d_tDef, d_tCase, d_sSw, d_sSwB, bIt_d, itb_0, itb_1, itb_2, itb_r, its_0, sqk_0, sqk_1, sqk_2, sqk_r, swk_0, swk_1, swk_r, bfin_r, bfin_ite, Option.bind_some, Option.map_some, Option.bind_none, Option.map_none, bind_ite, map_ite, cop0, cop1, cop2, cop3, cop4, cop5, opv0, opv1, opv2, opv3, brc_i, brc_z, two_ne_one, false_or, getI, getR, getL, List.getElem?_cons_zero, List.getElem?_cons_succ, List.set_cons_zero, List.set_cons_succ, bnl, if_true, if_false, true_or, or_true, decide_eq_true_eq, Bool.not_eq_true', decide_eq_false_iff_not, Bool.not_true, Bool.not_false, Bool.true_eq_false, Bool.false_eq_true, ite_not, reduceIte, ite01_0, ite01_1, Decidable.not_not, ne_eq, not_true_eq_false, not_false_eq_true, Function.comp_apply, decide_not, Bool.not_not, Bool.not_eq_false', dc_t, dc_f, and_self, true_and, and_true, and_false, false_and, tnc]
theorem h2_x (n : Nat) (m : bM) (l k f g c i N : Int) (x : Option bV) (hN : m 133 12 = N) (h : ¬ i < N) : L_M_hears_2c.1.2 (sem n) [some (aR 132), some (aI l), some (aI k), some (aI f), some (aI g), some (aI c), some (aI i), x] m = some (false, m) := by
  simp only [L_M_hears_2c, nx_12, nm_12, hN, h, d_rLoc1, d_rLoc2, d_rFld1, d_rFld2, d_eInt, d_eLdc, d_eLdw, d_eLoc, d_eFld, d_lFld, d_eAI, d_eAZ, d_eAB, d_lAL, d_eAD, d_eLen, d_eAdd, d_eSub, d_eMul, d_eAnd, d_eOr, d_eXor, d_eShl, d_eShr, d_eUsh, d_lAdd, d_lSub, d_lMul, d_lAnd, d_lOr, d_lXor, d_lShl, d_lShr, d_eDiv, d_eRem, d_eCmp, d_eI2B, d_eI2S, d_eL2I, d_lI2L, d_lInt, d_lLdc, d_lLoc, d_eIte, d_lIte, d_eMax, d_eMin, d_eAbs, d_eAbove, d_eBodies, d_cQ, d_cZ, d_cNot, d_cAnd, d_cOr, d_gNil, d_gI, d_gL, d_gR, d_gD, d_xV, d_xS, d_xN, d_xT, d_eCall, d_lCall, d_eCallC, d_sNop, d_sSet, d_sSetL, d_sSetR, d_sSetQ, d_sInc, d_sPutI, d_sPutZ, d_sPutL, d_sPutA, d_sPutAZ, d_sPutAB, d_sPutAL, d_sPutD, d_sOpF, d_sOpA, d_sCall, d_sCopy, d_sSeq, d_sIf, d_sBrk, d_sCnt, d_sRetV, d_sRet, d_sRetL, d_sLp, d_tDef, d_tCase, d_sSw, d_sSwB, bIt_d, itb_0, itb_1, itb_2, itb_r, its_0, sqk_0, sqk_1, sqk_2, sqk_r, swk_0, swk_1, swk_r, bfin_r, bfin_ite, Option.bind_some, Option.map_some, Option.bind_none, Option.map_none, bind_ite, map_ite, cop0, cop1, cop2, cop3, cop4, cop5, opv0, opv1, opv2, opv3, brc_i, brc_z, two_ne_one, false_or, getI, getR, getL, List.getElem?_cons_zero, List.getElem?_cons_succ, List.set_cons_zero, List.set_cons_succ, bnl, if_true, if_false, true_or, or_true, decide_eq_true_eq, Bool.not_eq_true', decide_eq_false_iff_not, Bool.not_true, Bool.not_false, Bool.true_eq_false, Bool.false_eq_true, ite_not, reduceIte, ite01_0, ite01_1, Decidable.not_not, ne_eq, not_true_eq_false, not_false_eq_true, Function.comp_apply, decide_not, Bool.not_not, Bool.not_eq_false', dc_t, dc_f, and_self, true_and, and_true, and_false, false_and, tnc]
theorem h2_s (n : Nat) (m : bM) (l k f g c i u : Int) (x : Option bV) (e : i32 (i + 1) = u) : L_M_hears_2s.1.2 (sem n) [some (aR 132), some (aI l), some (aI k), some (aI f), some (aI g), some (aI c), some (aI i), x] m = some (.inl (0, [some (aR 132), some (aI l), some (aI k), some (aI f), some (aI g), some (aI c), some (aI u), x], m)) := by
  simp only [L_M_hears_2s, e, d_rLoc1, d_rLoc2, d_rFld1, d_rFld2, d_eInt, d_eLdc, d_eLdw, d_eLoc, d_eFld, d_lFld, d_eAI, d_eAZ, d_eAB, d_lAL, d_eAD, d_eLen, d_eAdd, d_eSub, d_eMul, d_eAnd, d_eOr, d_eXor, d_eShl, d_eShr, d_eUsh, d_lAdd, d_lSub, d_lMul, d_lAnd, d_lOr, d_lXor, d_lShl, d_lShr, d_eDiv, d_eRem, d_eCmp, d_eI2B, d_eI2S, d_eL2I, d_lI2L, d_lInt, d_lLdc, d_lLoc, d_eIte, d_lIte, d_eMax, d_eMin, d_eAbs, d_eAbove, d_eBodies, d_cQ, d_cZ, d_cNot, d_cAnd, d_cOr, d_gNil, d_gI, d_gL, d_gR, d_gD, d_xV, d_xS, d_xN, d_xT, d_eCall, d_lCall, d_eCallC, d_sNop, d_sSet, d_sSetL, d_sSetR, d_sSetQ, d_sInc, d_sPutI, d_sPutZ, d_sPutL, d_sPutA, d_sPutAZ, d_sPutAB, d_sPutAL, d_sPutD, d_sOpF, d_sOpA, d_sCall, d_sCopy, d_sSeq, d_sIf, d_sBrk, d_sCnt, d_sRetV, d_sRet, d_sRetL, d_sLp, d_tDef, d_tCase, d_sSw, d_sSwB, bIt_d, itb_0, itb_1, itb_2, itb_r, its_0, sqk_0, sqk_1, sqk_2, sqk_r, swk_0, swk_1, swk_r, bfin_r, bfin_ite, Option.bind_some, Option.map_some, Option.bind_none, Option.map_none, bind_ite, map_ite, cop0, cop1, cop2, cop3, cop4, cop5, opv0, opv1, opv2, opv3, brc_i, brc_z, two_ne_one, false_or, getI, getR, getL, List.getElem?_cons_zero, List.getElem?_cons_succ, List.set_cons_zero, List.set_cons_succ, bnl, if_true, if_false, true_or, or_true, decide_eq_true_eq, Bool.not_eq_true', decide_eq_false_iff_not, Bool.not_true, Bool.not_false, Bool.true_eq_false, Bool.false_eq_true, ite_not, reduceIte, ite01_0, ite01_1, Decidable.not_not, ne_eq, not_true_eq_false, not_false_eq_true, Function.comp_apply, decide_not, Bool.not_not, Bool.not_eq_false', dc_t, dc_f, and_self, true_and, and_true, and_false, false_and, tnc]
theorem h2_b0 (n : Nat) (m : bM) (l k f g c i : Int) (x : Option bV) (j : ¬ jand (jshr l i) 1 = 1) : L_M_hears_2b.1.2 (sem n) [some (aR 132), some (aI l), some (aI k), some (aI f), some (aI g), some (aI c), some (aI i), x] m = some (.inl (0, [some (aR 132), some (aI l), some (aI k), some (aI f), some (aI g), some (aI c), some (aI i), x], m)) := by
  simp only [L_M_hears_2b, j, d_rLoc1, d_rLoc2, d_rFld1, d_rFld2, d_eInt, d_eLdc, d_eLdw, d_eLoc, d_eFld, d_lFld, d_eAI, d_eAZ, d_eAB, d_lAL, d_eAD, d_eLen, d_eAdd, d_eSub, d_eMul, d_eAnd, d_eOr, d_eXor, d_eShl, d_eShr, d_eUsh, d_lAdd, d_lSub, d_lMul, d_lAnd, d_lOr, d_lXor, d_lShl, d_lShr, d_eDiv, d_eRem, d_eCmp, d_eI2B, d_eI2S, d_eL2I, d_lI2L, d_lInt, d_lLdc, d_lLoc, d_eIte, d_lIte, d_eMax, d_eMin, d_eAbs, d_eAbove, d_eBodies, d_cQ, d_cZ, d_cNot, d_cAnd, d_cOr, d_gNil, d_gI, d_gL, d_gR, d_gD, d_xV, d_xS, d_xN, d_xT, d_eCall, d_lCall, d_eCallC, d_sNop, d_sSet, d_sSetL, d_sSetR, d_sSetQ, d_sInc, d_sPutI, d_sPutZ, d_sPutL, d_sPutA, d_sPutAZ, d_sPutAB, d_sPutAL, d_sPutD, d_sOpF, d_sOpA, d_sCall, d_sCopy, d_sSeq, d_sIf, d_sBrk, d_sCnt, d_sRetV, d_sRet, d_sRetL, d_sLp, d_tDef, d_tCase, d_sSw, d_sSwB, bIt_d, itb_0, itb_1, itb_2, itb_r, its_0, sqk_0, sqk_1, sqk_2, sqk_r, swk_0, swk_1, swk_r, bfin_r, bfin_ite, Option.bind_some, Option.map_some, Option.bind_none, Option.map_none, bind_ite, map_ite, cop0, cop1, cop2, cop3, cop4, cop5, opv0, opv1, opv2, opv3, brc_i, brc_z, two_ne_one, false_or, getI, getR, getL, List.getElem?_cons_zero, List.getElem?_cons_succ, List.set_cons_zero, List.set_cons_succ, bnl, if_true, if_false, true_or, or_true, decide_eq_true_eq, Bool.not_eq_true', decide_eq_false_iff_not, Bool.not_true, Bool.not_false, Bool.true_eq_false, Bool.false_eq_true, ite_not, reduceIte, ite01_0, ite01_1, Decidable.not_not, ne_eq, not_true_eq_false, not_false_eq_true, Function.comp_apply, decide_not, Bool.not_not, Bool.not_eq_false', dc_t, dc_f, and_self, true_and, and_true, and_false, false_and, tnc]
theorem h2_b1 (n : Nat) (m m1 m2 : bM) (l k f g c i r d mo a T h s w b p l2 k2 tw c2 : Int) (Kn : Nat) (x : Option bV) (j : jand (jshr l i) 1 = 1) (er : sem n 236 [aR 132, aI i] m = some (m, r)) (eo : sem n 237 [aI f, aI r] m = some (m, d)) (hmo : (0 < k ∧ mo = 1) ∨ (¬ 0 < k ∧ mo = 0)) (h1 : i32 (g + d) = a) (h2 : i32 (a + mo) = T) (fk : 0 ≤ k ∧ k < ((7 : Nat) : Int)) (tk : k.toNat = Kn) (w1 : bwr m 193 Kn i = m1) (er1 : sem n 236 [aR 132, aI i] m1 = some (m1, r)) (eh : sem n 293 [aR 132, aI i] m1 = some (m1, h)) (es : sem n 213 [aR 132, aI h] m1 = some (m1, s)) (hs : (s = 1 ∧ w = 3) ∨ (s = 0 ∧ w = 1)) (h3 : jshl 1 i = b) (h3b : jxor b (-1) = p) (h3c : jand l p = l2) (h4 : i32 (k + 1) = k2) (h5 : i32 (T * w) = tw) (h6 : i32 (c + tw) = c2) (e : sem n 235 [aR 132, aI l2, aI k2, aI r, aI T, aI c2] m1 = some (m2, 0)) : L_M_hears_2b.1.2 (sem n) [some (aR 132), some (aI l), some (aI k), some (aI f), some (aI g), some (aI c), some (aI i), x] m = some (.inl (0, [some (aR 132), some (aI l), some (aI k), some (aI f), some (aI g), some (aI c), some (aI i), some (aI T)], m2)) := by
  unfold L_M_hears_2b
  refine (q_ift (m2 := m) ?_).trans ?_
  · have j := eq_true j
    simp only [j, d_rLoc1, d_rLoc2, d_rFld1, d_rFld2, d_eInt, d_eLdc, d_eLdw, d_eLoc, d_eFld, d_lFld, d_eAI, d_eAZ, d_eAB, d_lAL, d_eAD, d_eLen, d_eAdd, d_eSub, d_eMul, d_eAnd, d_eOr, d_eXor, d_eShl, d_eShr, d_eUsh, d_lAdd, d_lSub, d_lMul, d_lAnd, d_lOr, d_lXor, d_lShl, d_lShr, d_eDiv, d_eRem, d_eCmp, d_eI2B, d_eI2S, d_eL2I, d_lI2L, d_lInt, d_lLdc, d_lLoc, d_eIte, d_lIte, d_eMax, d_eMin, d_eAbs, d_eAbove, d_eBodies, d_cQ, d_cZ, d_cNot, d_cAnd, d_cOr, d_gNil, d_gI, d_gL, d_gR, d_gD, d_xV, d_xS, d_xN, d_xT, d_eCall, d_lCall, d_eCallC, d_sNop, d_sSet, d_sSetL, d_sSetR, d_sSetQ, d_sInc, d_sPutI, d_sPutZ, d_sPutL, d_sPutA, d_sPutAZ, d_sPutAB, d_sPutAL, d_sPutD, d_sOpF, d_sOpA, d_sCall, d_sCopy, d_sSeq, d_sIf, d_sBrk, d_sCnt, d_sRetV, d_sRet, d_sRetL, d_sLp, d_tDef, d_tCase, d_sSw, d_sSwB, bIt_d, itb_0, itb_1, itb_2, itb_r, its_0, sqk_0, sqk_1, sqk_2, sqk_r, swk_0, swk_1, swk_r, bfin_r, bfin_ite, Option.bind_some, Option.map_some, Option.bind_none, Option.map_none, bind_ite, map_ite, cop0, cop1, cop2, cop3, cop4, cop5, opv0, opv1, opv2, opv3, brc_i, brc_z, two_ne_one, false_or, getI, getR, getL, List.getElem?_cons_zero, List.getElem?_cons_succ, List.set_cons_zero, List.set_cons_succ, bnl, if_true, if_false, true_or, or_true, decide_eq_true_eq, Bool.not_eq_true', decide_eq_false_iff_not, Bool.not_true, Bool.not_false, Bool.true_eq_false, Bool.false_eq_true, ite_not, reduceIte, ite01_0, ite01_1, Decidable.not_not, ne_eq, not_true_eq_false, not_false_eq_true, Function.comp_apply, decide_not, Bool.not_not, Bool.not_eq_false', dc_t, dc_f, and_self, true_and, and_true, and_false, false_and, tnc, Int.reduceLT, Int.reduceLE, Int.reduceEq, Int.reduceAdd, Int.reduceSub, Int.reduceMul, Int.reduceToNat, Int.reduceNeg, Int.reduceNe]
  refine (q_puti (ls2 := [some (aR 132), some (aI l), some (aI k), some (aI f), some (aI g), some (aI c), some (aI i), some (aI T)]) (m2 := m) ?_).trans ?_
  · rcases hmo with ⟨z, y⟩ | ⟨z, y⟩
    · subst y
      have z := eq_true z
      simp only [er, eo, h1, h2, z, d_rLoc1, d_rLoc2, d_rFld1, d_rFld2, d_eInt, d_eLdc, d_eLdw, d_eLoc, d_eFld, d_lFld, d_eAI, d_eAZ, d_eAB, d_lAL, d_eAD, d_eLen, d_eAdd, d_eSub, d_eMul, d_eAnd, d_eOr, d_eXor, d_eShl, d_eShr, d_eUsh, d_lAdd, d_lSub, d_lMul, d_lAnd, d_lOr, d_lXor, d_lShl, d_lShr, d_eDiv, d_eRem, d_eCmp, d_eI2B, d_eI2S, d_eL2I, d_lI2L, d_lInt, d_lLdc, d_lLoc, d_eIte, d_lIte, d_eMax, d_eMin, d_eAbs, d_eAbove, d_eBodies, d_cQ, d_cZ, d_cNot, d_cAnd, d_cOr, d_gNil, d_gI, d_gL, d_gR, d_gD, d_xV, d_xS, d_xN, d_xT, d_eCall, d_lCall, d_eCallC, d_sNop, d_sSet, d_sSetL, d_sSetR, d_sSetQ, d_sInc, d_sPutI, d_sPutZ, d_sPutL, d_sPutA, d_sPutAZ, d_sPutAB, d_sPutAL, d_sPutD, d_sOpF, d_sOpA, d_sCall, d_sCopy, d_sSeq, d_sIf, d_sBrk, d_sCnt, d_sRetV, d_sRet, d_sRetL, d_sLp, d_tDef, d_tCase, d_sSw, d_sSwB, bIt_d, itb_0, itb_1, itb_2, itb_r, its_0, sqk_0, sqk_1, sqk_2, sqk_r, swk_0, swk_1, swk_r, bfin_r, bfin_ite, Option.bind_some, Option.map_some, Option.bind_none, Option.map_none, bind_ite, map_ite, cop0, cop1, cop2, cop3, cop4, cop5, opv0, opv1, opv2, opv3, brc_i, brc_z, two_ne_one, false_or, getI, getR, getL, List.getElem?_cons_zero, List.getElem?_cons_succ, List.set_cons_zero, List.set_cons_succ, bnl, if_true, if_false, true_or, or_true, decide_eq_true_eq, Bool.not_eq_true', decide_eq_false_iff_not, Bool.not_true, Bool.not_false, Bool.true_eq_false, Bool.false_eq_true, ite_not, reduceIte, ite01_0, ite01_1, Decidable.not_not, ne_eq, not_true_eq_false, not_false_eq_true, Function.comp_apply, decide_not, Bool.not_not, Bool.not_eq_false', dc_t, dc_f, and_self, true_and, and_true, and_false, false_and, tnc, Int.reduceLT, Int.reduceLE, Int.reduceEq, Int.reduceAdd, Int.reduceSub, Int.reduceMul, Int.reduceToNat, Int.reduceNeg, Int.reduceNe]
    · subst y
      have z := eq_false z
      simp only [er, eo, h1, h2, z, d_rLoc1, d_rLoc2, d_rFld1, d_rFld2, d_eInt, d_eLdc, d_eLdw, d_eLoc, d_eFld, d_lFld, d_eAI, d_eAZ, d_eAB, d_lAL, d_eAD, d_eLen, d_eAdd, d_eSub, d_eMul, d_eAnd, d_eOr, d_eXor, d_eShl, d_eShr, d_eUsh, d_lAdd, d_lSub, d_lMul, d_lAnd, d_lOr, d_lXor, d_lShl, d_lShr, d_eDiv, d_eRem, d_eCmp, d_eI2B, d_eI2S, d_eL2I, d_lI2L, d_lInt, d_lLdc, d_lLoc, d_eIte, d_lIte, d_eMax, d_eMin, d_eAbs, d_eAbove, d_eBodies, d_cQ, d_cZ, d_cNot, d_cAnd, d_cOr, d_gNil, d_gI, d_gL, d_gR, d_gD, d_xV, d_xS, d_xN, d_xT, d_eCall, d_lCall, d_eCallC, d_sNop, d_sSet, d_sSetL, d_sSetR, d_sSetQ, d_sInc, d_sPutI, d_sPutZ, d_sPutL, d_sPutA, d_sPutAZ, d_sPutAB, d_sPutAL, d_sPutD, d_sOpF, d_sOpA, d_sCall, d_sCopy, d_sSeq, d_sIf, d_sBrk, d_sCnt, d_sRetV, d_sRet, d_sRetL, d_sLp, d_tDef, d_tCase, d_sSw, d_sSwB, bIt_d, itb_0, itb_1, itb_2, itb_r, its_0, sqk_0, sqk_1, sqk_2, sqk_r, swk_0, swk_1, swk_r, bfin_r, bfin_ite, Option.bind_some, Option.map_some, Option.bind_none, Option.map_none, bind_ite, map_ite, cop0, cop1, cop2, cop3, cop4, cop5, opv0, opv1, opv2, opv3, brc_i, brc_z, two_ne_one, false_or, getI, getR, getL, List.getElem?_cons_zero, List.getElem?_cons_succ, List.set_cons_zero, List.set_cons_succ, bnl, if_true, if_false, true_or, or_true, decide_eq_true_eq, Bool.not_eq_true', decide_eq_false_iff_not, Bool.not_true, Bool.not_false, Bool.true_eq_false, Bool.false_eq_true, ite_not, reduceIte, ite01_0, ite01_1, Decidable.not_not, ne_eq, not_true_eq_false, not_false_eq_true, Function.comp_apply, decide_not, Bool.not_not, Bool.not_eq_false', dc_t, dc_f, and_self, true_and, and_true, and_false, false_and, tnc, Int.reduceLT, Int.reduceLE, Int.reduceEq, Int.reduceAdd, Int.reduceSub, Int.reduceMul, Int.reduceToNat, Int.reduceNeg, Int.reduceNe]
  refine (q_puti (ls2 := [some (aR 132), some (aI l), some (aI k), some (aI f), some (aI g), some (aI c), some (aI i), some (aI T)]) (m2 := m1) ?_).trans ?_
  · simp only [fk, tk, w1, d_rLoc1, d_rLoc2, d_rFld1, d_rFld2, d_eInt, d_eLdc, d_eLdw, d_eLoc, d_eFld, d_lFld, d_eAI, d_eAZ, d_eAB, d_lAL, d_eAD, d_eLen, d_eAdd, d_eSub, d_eMul, d_eAnd, d_eOr, d_eXor, d_eShl, d_eShr, d_eUsh, d_lAdd, d_lSub, d_lMul, d_lAnd, d_lOr, d_lXor, d_lShl, d_lShr, d_eDiv, d_eRem, d_eCmp, d_eI2B, d_eI2S, d_eL2I, d_lI2L, d_lInt, d_lLdc, d_lLoc, d_eIte, d_lIte, d_eMax, d_eMin, d_eAbs, d_eAbove, d_eBodies, d_cQ, d_cZ, d_cNot, d_cAnd, d_cOr, d_gNil, d_gI, d_gL, d_gR, d_gD, d_xV, d_xS, d_xN, d_xT, d_eCall, d_lCall, d_eCallC, d_sNop, d_sSet, d_sSetL, d_sSetR, d_sSetQ, d_sInc, d_sPutI, d_sPutZ, d_sPutL, d_sPutA, d_sPutAZ, d_sPutAB, d_sPutAL, d_sPutD, d_sOpF, d_sOpA, d_sCall, d_sCopy, d_sSeq, d_sIf, d_sBrk, d_sCnt, d_sRetV, d_sRet, d_sRetL, d_sLp, d_tDef, d_tCase, d_sSw, d_sSwB, bIt_d, itb_0, itb_1, itb_2, itb_r, its_0, sqk_0, sqk_1, sqk_2, sqk_r, swk_0, swk_1, swk_r, bfin_r, bfin_ite, Option.bind_some, Option.map_some, Option.bind_none, Option.map_none, bind_ite, map_ite, cop0, cop1, cop2, cop3, cop4, cop5, opv0, opv1, opv2, opv3, brc_i, brc_z, two_ne_one, false_or, getI, getR, getL, List.getElem?_cons_zero, List.getElem?_cons_succ, List.set_cons_zero, List.set_cons_succ, bnl, if_true, if_false, true_or, or_true, decide_eq_true_eq, Bool.not_eq_true', decide_eq_false_iff_not, Bool.not_true, Bool.not_false, Bool.true_eq_false, Bool.false_eq_true, ite_not, reduceIte, ite01_0, ite01_1, Decidable.not_not, ne_eq, not_true_eq_false, not_false_eq_true, Function.comp_apply, decide_not, Bool.not_not, Bool.not_eq_false', dc_t, dc_f, and_self, true_and, and_true, and_false, false_and, tnc, Int.reduceLT, Int.reduceLE, Int.reduceEq, Int.reduceAdd, Int.reduceSub, Int.reduceMul, Int.reduceToNat, Int.reduceNeg, Int.reduceNe]
  rcases hs with ⟨z, y⟩ | ⟨z, y⟩
  · subst z y
    simp only [h3, h3b, h3c, h4, er1, eh, es, h5, h6, e, d_rLoc1, d_rLoc2, d_rFld1, d_rFld2, d_eInt, d_eLdc, d_eLdw, d_eLoc, d_eFld, d_lFld, d_eAI, d_eAZ, d_eAB, d_lAL, d_eAD, d_eLen, d_eAdd, d_eSub, d_eMul, d_eAnd, d_eOr, d_eXor, d_eShl, d_eShr, d_eUsh, d_lAdd, d_lSub, d_lMul, d_lAnd, d_lOr, d_lXor, d_lShl, d_lShr, d_eDiv, d_eRem, d_eCmp, d_eI2B, d_eI2S, d_eL2I, d_lI2L, d_lInt, d_lLdc, d_lLoc, d_eIte, d_lIte, d_eMax, d_eMin, d_eAbs, d_eAbove, d_eBodies, d_cQ, d_cZ, d_cNot, d_cAnd, d_cOr, d_gNil, d_gI, d_gL, d_gR, d_gD, d_xV, d_xS, d_xN, d_xT, d_eCall, d_lCall, d_eCallC, d_sNop, d_sSet, d_sSetL, d_sSetR, d_sSetQ, d_sInc, d_sPutI, d_sPutZ, d_sPutL, d_sPutA, d_sPutAZ, d_sPutAB, d_sPutAL, d_sPutD, d_sOpF, d_sOpA, d_sCall, d_sCopy, d_sSeq, d_sIf, d_sBrk, d_sCnt, d_sRetV, d_sRet, d_sRetL, d_sLp, d_tDef, d_tCase, d_sSw, d_sSwB, bIt_d, itb_0, itb_1, itb_2, itb_r, its_0, sqk_0, sqk_1, sqk_2, sqk_r, swk_0, swk_1, swk_r, bfin_r, bfin_ite, Option.bind_some, Option.map_some, Option.bind_none, Option.map_none, bind_ite, map_ite, cop0, cop1, cop2, cop3, cop4, cop5, opv0, opv1, opv2, opv3, brc_i, brc_z, two_ne_one, false_or, getI, getR, getL, List.getElem?_cons_zero, List.getElem?_cons_succ, List.set_cons_zero, List.set_cons_succ, bnl, if_true, if_false, true_or, or_true, decide_eq_true_eq, Bool.not_eq_true', decide_eq_false_iff_not, Bool.not_true, Bool.not_false, Bool.true_eq_false, Bool.false_eq_true, ite_not, reduceIte, ite01_0, ite01_1, Decidable.not_not, ne_eq, not_true_eq_false, not_false_eq_true, Function.comp_apply, decide_not, Bool.not_not, Bool.not_eq_false', dc_t, dc_f, and_self, true_and, and_true, and_false, false_and, tnc, Int.reduceLT, Int.reduceLE, Int.reduceEq, Int.reduceAdd, Int.reduceSub, Int.reduceMul, Int.reduceToNat, Int.reduceNeg, Int.reduceNe]
  · subst z y
    simp only [h3, h3b, h3c, h4, er1, eh, es, h5, h6, e, d_rLoc1, d_rLoc2, d_rFld1, d_rFld2, d_eInt, d_eLdc, d_eLdw, d_eLoc, d_eFld, d_lFld, d_eAI, d_eAZ, d_eAB, d_lAL, d_eAD, d_eLen, d_eAdd, d_eSub, d_eMul, d_eAnd, d_eOr, d_eXor, d_eShl, d_eShr, d_eUsh, d_lAdd, d_lSub, d_lMul, d_lAnd, d_lOr, d_lXor, d_lShl, d_lShr, d_eDiv, d_eRem, d_eCmp, d_eI2B, d_eI2S, d_eL2I, d_lI2L, d_lInt, d_lLdc, d_lLoc, d_eIte, d_lIte, d_eMax, d_eMin, d_eAbs, d_eAbove, d_eBodies, d_cQ, d_cZ, d_cNot, d_cAnd, d_cOr, d_gNil, d_gI, d_gL, d_gR, d_gD, d_xV, d_xS, d_xN, d_xT, d_eCall, d_lCall, d_eCallC, d_sNop, d_sSet, d_sSetL, d_sSetR, d_sSetQ, d_sInc, d_sPutI, d_sPutZ, d_sPutL, d_sPutA, d_sPutAZ, d_sPutAB, d_sPutAL, d_sPutD, d_sOpF, d_sOpA, d_sCall, d_sCopy, d_sSeq, d_sIf, d_sBrk, d_sCnt, d_sRetV, d_sRet, d_sRetL, d_sLp, d_tDef, d_tCase, d_sSw, d_sSwB, bIt_d, itb_0, itb_1, itb_2, itb_r, its_0, sqk_0, sqk_1, sqk_2, sqk_r, swk_0, swk_1, swk_r, bfin_r, bfin_ite, Option.bind_some, Option.map_some, Option.bind_none, Option.map_none, bind_ite, map_ite, cop0, cop1, cop2, cop3, cop4, cop5, opv0, opv1, opv2, opv3, brc_i, brc_z, two_ne_one, false_or, getI, getR, getL, List.getElem?_cons_zero, List.getElem?_cons_succ, List.set_cons_zero, List.set_cons_succ, bnl, if_true, if_false, true_or, or_true, decide_eq_true_eq, Bool.not_eq_true', decide_eq_false_iff_not, Bool.not_true, Bool.not_false, Bool.true_eq_false, Bool.false_eq_true, ite_not, reduceIte, ite01_0, ite01_1, Decidable.not_not, ne_eq, not_true_eq_false, not_false_eq_true, Function.comp_apply, decide_not, Bool.not_not, Bool.not_eq_false', dc_t, dc_f, and_self, true_and, and_true, and_false, false_and, tnc, Int.reduceLT, Int.reduceLE, Int.reduceEq, Int.reduceAdd, Int.reduceSub, Int.reduceMul, Int.reduceToNat, Int.reduceNeg, Int.reduceNe]
/-! hears -/
def rdMo (k : Nat) : Int := if 0 < k then 1 else 0
def hrL (N : Nat) (rr w : Nat → Int) (h : Nat → Bool) (i : Nat) : Nat → Nat
  | 0 => i
  | j + 1 => rdN N rr w (rdH N rr w j (rdI h i, rr i, 1))
theorem rdMo_in (k : Nat) : 0 ≤ rdMo k ∧ rdMo k ≤ 1 := by
  unfold rdMo
  split <;> decide
theorem sub1_I (l c : Nat) : (fun j => !(sub1 l (2 ^ c)).testBit j) = rdI (fun j => !l.testBit j) c := by
  funext j
  unfold rdI
  rw [sub1_bit, Nat.testBit_two_pow]
  by_cases z : j = c
  · subst z; simp
  · have : ¬ c = j := fun q => z q.symm
    simp [z, this]
theorem hr_T {c g dm W C w : Int} : c + (g + dm) * w + (g + dm) * (W - w) + C = c + g * W + (dm * W + C) := by
  rw [Int.mul_sub, Int.add_mul g dm W]
  omega
theorem wcH_in (m : bM) (c : Nat) : 0 ≤ wcH m c ∧ wcH m c ≤ 3 ∧ (wcH m c = 3 ∨ wcH m c = 1) := by
  unfold wcH
  split <;> decide
theorem sp_hears (n N : Nat) {m0 : bM} (hR0 : Rel m0 m0) (hr0 : NgtR m0 m0) (hN : m0 79 6 = (N : Int)) : ∀ (d l k : Nat) (f g c : Int) (m : bM), hrB m0 m → l < 2 ^ N → rdU (fun j => !l.testBit j) N = d → k + d ≤ 7 → (0 ≤ f ∧ f ≤ 11) → (0 ≤ g ∧ g ≤ 12 * (k : Int)) → (0 ≤ c ∧ c ≤ 252 * (k : Int)) → ∃ m2, sem (n + d + 4) 235 [aR 132, aI (l : Int), aI (k : Int), aI f, aI g, aI c] m = some (m2, 0) ∧ hrB m m2 ∧ (∀ j, j < k → m2 193 j = m 193 j) ∧ hrQ m m2 k d (fun j => rdN N (rcH m0) (wcH m0) (rdH N (rcH m0) (wcH m0) j (fun j => !l.testBit j, f, rdMo k))) (c + g * rdW (wcH m0) (fun j => !l.testBit j) N + rdC N (rcH m0) (wcH m0) (fun j => !l.testBit j) f (rdMo k)) := by
  have rc := RelC_rcount (Rel_c hR0)
  have N16 : N ≤ 16 := by omega
  have pN : 2 ^ N ≤ 65536 := Nat.le_trans (Nat.pow_le_pow_right (by decide) N16) (show 2 ^ 16 ≤ 65536 by decide)
  intro d
  induction d with
  | zero =>
    intro l k f g c m hB hl hU hk hf hg hc
    have h0 : ∀ i, i < N → (!l.testBit i) = true := rdU_0 hU
    have l0 : l = 0 := by
      apply Nat.eq_of_testBit_eq
      intro i
      rw [Nat.zero_testBit]
      by_cases z : i < N
      · have := h0 i z
        simpa using this
      · exact Nat.testBit_lt_two_pow (Nat.lt_of_lt_of_le hl (Nat.pow_le_pow_right (by decide) (by omega)))
    have eT : c + g * rdW (wcH m0) (fun j => !l.testBit j) N + rdC N (rcH m0) (wcH m0) (fun j => !l.testBit j) f (rdMo k) = c := by
      unfold rdC
      rw [hU, rdW_0 h0]
      show c + g * 0 + 0 = c
      omega
    rw [eT]
    by_cases z : m 132 78 ≤ c
    · exact ⟨m, hr_0 (n + 3) m _ _ _ _ _ _ rfl z, hrB_refl m, fun _ _ => rfl, fun q => absurd z (by omega), fun _ => ⟨rfl, rfl⟩⟩
    · obtain ⟨m1, w1⟩ : ∃ m1, bwr m 132 78 c = m1 := ⟨_, rfl⟩
      have key := lp_m (c := L_M_hears_1c.1.2 (sem (n + 3))) (b := L_M_hears_1b.1.2 (sem (n + 3))) (s := L_M_hears_1s.1.2 (sem (n + 3))) (fun i => [some (aR 132), some (aI 0), some (aI (k : Int)), some (aI f), some (aI g), some (aI c), some (aI (i : Int)), none]) (fun i mc => (∀ j, j ≠ 194 → mc j = m1 j) ∧ ∀ j, j < i → mc 194 j = m1 193 j) k (by omega) (m := m1) ⟨fun _ _ => rfl, fun j hj => absurd hj (Nat.not_lt_zero _)⟩ (fun i mc hi hQ => ?_) (fun mc hQ => ?_)
      · obtain ⟨m2, e2, f2, g2⟩ := key
        have o1 : m1 193 = m 193 := by rw [← w1, bwr_ne _ _ (by decide)]
        subst l0
        have e2 := sLp_of (L := L_M_hears_1) rfl e2
        refine ⟨m2, hr_1 (n + 3) m m1 m2 _ _ _ _ _ _ _ rfl z w1 e2, ⟨fun i a b e => ?_, fun i a => ?_⟩, fun j _ => ?_, fun _ => ⟨?_, fun j hj => ?_, fun j hj => absurd hj (Nat.not_lt_zero _)⟩, fun q => absurd (show c < m 132 78 by omega) q⟩
        · rw [f2 i e, ← w1, bwr_ne _ _ a]
        · rw [f2 132 (by decide), ← w1, bwr_ne2 _ a]
        · rw [f2 193 (by decide), o1]
        · rw [f2 132 (by decide), ← w1, bwr_eq2]
        · rw [g2 j hj, o1]
      · obtain ⟨f2, g2⟩ := hQ
        obtain ⟨m2, w2⟩ : ∃ m2, bwr mc 194 i (mc 193 i) = m2 := ⟨_, rfl⟩
        have b1 : (i : Int) < (k : Int) := by omega
        have b3 : i < 2147483647 := by omega
        refine ⟨m2, bIt_go (m1 := mc) (h1_c _ mc _ _ _ _ _ _ _ b1) (h1_b _ mc m2 _ _ _ _ _ _ _ i none (f7 (K := 7) (by omega) (by decide)) (tnc i) rfl w2) (h1_s _ m2 _ _ _ _ _ _ _ _ (i32_s b3)), fun j hj => ?_, fun j hj => ?_⟩
        · rw [← w2, bwr_ne _ _ hj]; exact f2 j hj
        · rw [← w2]
          by_cases q : j = i
          · subst q; rw [bwr_eq2, f2 193 (by decide)]
          · rw [bwr_ne2 _ q]; exact g2 j (by omega)
      · exact bIt_ex (h1_x _ mc _ _ _ _ _ _ _ (Int.lt_irrefl _))
  | succ d ih =>
    intro l k f g c m hB hl hU hk hf hg hc
    obtain ⟨h, hh⟩ : ∃ h : Nat → Bool, (fun j => !l.testBit j) = h := ⟨_, rfl⟩
    have hb : ∀ j, h j = !l.testBit j := fun j => by rw [← hh]
    rw [hh] at hU ⊢
    obtain ⟨mo, hmo⟩ : ∃ mo, rdMo k = mo := ⟨_, rfl⟩
    have mo1 := rdMo_in k
    have moc : (0 < (k : Int) ∧ mo = 1) ∨ (¬ 0 < (k : Int) ∧ mo = 0) := by
      rw [← hmo]
      unfold rdMo
      by_cases z : 0 < k
      · rw [if_pos z]; exact Or.inl ⟨by omega, rfl⟩
      · rw [if_neg z]; exact Or.inr ⟨by omega, rfl⟩
    rw [hmo] at mo1 ⊢
    have wn : ∀ i, i < N → 0 ≤ wcH m0 i := fun i _ => (wcH_in m0 i).1
    obtain ⟨W, hW⟩ : ∃ W, rdW (wcH m0) h N = W := ⟨_, rfl⟩
    have Wn : 0 ≤ W := by rw [← hW]; exact rdW_nn wn
    have gW : 0 ≤ g * W := Int.mul_nonneg hg.1 Wn
    have Cn : 0 ≤ rdC N (rcH m0) (wcH m0) h f mo := rdV_nn wn _ h f mo mo1.1
    rw [hW]
    by_cases z : m 132 78 ≤ c
    · exact ⟨m, hr_0 (n + (d + 1) + 3) m _ _ _ _ _ _ rfl z, hrB_refl m, fun _ _ => rfl, fun q => absurd q (by omega), fun _ => ⟨rfl, rfl⟩⟩
    · have l0 : ¬ ((l : Nat) : Int) = 0 := by
        intro q
        have q : l = 0 := by omega
        have : rdU h N = 0 := cnt_0 (fun k _ => by show (!h k) = false; rw [hb, q, Nat.zero_testBit]; rfl)
        omega
      obtain ⟨F, hF⟩ : ∃ F, rdP N (rcH m0) (wcH m0) h f mo = F := ⟨_, rfl⟩
      have eC := rdC_eq N (rcH m0) (wcH m0) h f mo
      have eS := rdN_some (K := N) (rr := rcH m0) (w := wcH m0) (s := (h, f, mo)) (by show 0 < rdU h N; omega)
      have eS : rdF (rdP N (rcH m0) (wcH m0) h f mo) h N = some (rdN N (rcH m0) (wcH m0) (h, f, mo)) := eS
      rw [hF] at eC eS
      have key := lp_n (cc := L_M_hears_2c.1.2 (sem (n + d + 4))) (b := L_M_hears_2b.1.2 (sem (n + d + 4))) (s := L_M_hears_2s.1.2 (sem (n + d + 4))) (fun i ls mc => hrB m mc ∧ (∀ j, j < k → mc 193 j = m 193 j) ∧ hrO m mc k (d + 1) F (c + g * W) (hrL N (rcH m0) (wcH m0) h) (rdF F h i) ∧ ∃ x, ls = [some (aR 132), some (aI (l : Int)), some (aI (k : Int)), some (aI f), some (aI g), some (aI c), some (aI (i : Int)), x]) N 0 bF [some (aR 132), some (aI (l : Int)), some (aI (k : Int)), some (aI f), some (aI g), some (aI c), some (aI 0), none] m (by show N < 1000; omega) ⟨hrB_refl m, fun _ _ => rfl, ⟨rfl, rfl⟩, none, rfl⟩ (fun i ls mc hi0 hi hQ => ?_) (fun ls mc hQ => ?_)
      · obtain ⟨ls2, m2, e2, B2, o2, O2, x, e3⟩ := key
        subst e3
        rw [Nat.zero_add] at e2 O2
        rw [eS] at O2 eC
        have e2 := sLp_of (L := L_M_hears_2) rfl e2
        refine ⟨m2, hr_2 (n + d + 4) m m2 _ _ _ _ _ _ _ x rfl z l0 e2, B2, o2, ?_⟩
        · have eL : hrL N (rcH m0) (wcH m0) h (rdN N (rcH m0) (wcH m0) (h, f, mo)) = fun j => rdN N (rcH m0) (wcH m0) (rdH N (rcH m0) (wcH m0) j (h, f, mo)) := by
            funext j
            cases j with
            | zero => rfl
            | succ j => rfl
          rw [eC, ← eL]
          exact O2
      · obtain ⟨B2, o2, O2, x, e3⟩ := hQ
        subst e3
        have iN : i < N := by omega
        have i16 : i < 16 := by omega
        have b1 : (i : Int) < (N : Int) := by omega
        have b3 : i < 2147483647 := by omega
        have B0 := hrB_trans hB B2
        have eN : mc 133 12 = (N : Int) := by
          rw [B0.1 133 (by decide) (by decide) (by decide), RelN_count (Rel_n hR0)]; exact hN
        have jb := jbit (a := l) (k := i) (by omega) (by omega)
        have hbi := hb i
        cases q : l.testBit i with
        | false =>
          rw [q] at jb hbi
          have hbi : h i = true := hbi
          have er : rdF F h (i + 1) = rdF F h i := by
            show (if h i = true then _ else _) = _
            rw [if_pos hbi]
          refine ⟨_, mc, bIt_go (m1 := mc) (h2_c _ mc _ _ _ _ _ _ _ x eN b1) (h2_b0 _ mc _ _ _ _ _ _ x (by rw [jb]; decide)) (h2_s _ mc _ _ _ _ _ _ _ x (i32_s b3)), B2, o2, ?_, x, rfl⟩
          rw [er]; exact O2
        | true =>
          rw [q] at jb hbi
          have hbi : h i = false := hbi
          have jb : jand (jshr (l : Int) (i : Int)) 1 = 1 := jb
          have R1 : Rel mc mc := Rel_congr hR0 (fun j a b => B0.1 j (by omega) (by omega) (by omega)) (fun j a b => B0.1 j (by omega) (by omega) (by omega))
          have r11 := rcH_in hR0 i16
          have er : rcH mc i = rcH m0 i := by unfold rcH; rw [B0.1 6 (by decide) (by decide) (by decide), B0.1 44 (by decide) (by decide) (by decide), B0.1 81 (by decide) (by decide) (by decide)]
          have e1 := sp_reachOf (n + d + 2) i i16 mc R1
          rw [er] at e1
          have dd := dst_in hf r11
          have e2 := sp_off (n + d + 3) hf r11 mc
          have k7 : k < 7 := by omega
          obtain ⟨m1, w1⟩ : ∃ m1, bwr mc 193 k (i : Int) = m1 := ⟨_, rfl⟩
          have B1 : hrB m0 m1 := ⟨fun j a b e => by rw [← w1, bwr_ne _ _ b]; exact B0.1 j a b e, fun j a => by rw [← w1, bwr_ne _ _ (by decide)]; exact B0.2 j a⟩
          have R2 : Rel m1 m1 := Rel_congr hR0 (fun j a b => B1.1 j (by omega) (by omega) (by omega)) (fun j a b => B1.1 j (by omega) (by omega) (by omega))
          have N2 : NgtR m0 m1 := NgtR_congr hr0 (agV_refl m0) ⟨agK_refl m0, rfl, rfl⟩ (agT_refl m0) ⟨rfl, rfl, rfl, rfl⟩ (B1.2 _ (by decide)) (fun j a b => B1.1 j (by omega) (by omega) (by omega))
          have e3 := sp_reachOf (n + d + 2) i i16 m1 R2
          have er2 : rcH m1 i = rcH m0 i := by unfold rcH; rw [B1.1 6 (by decide) (by decide) (by decide), B1.1 44 (by decide) (by decide) (by decide), B1.1 81 (by decide) (by decide) (by decide)]
          rw [er2] at e3
          have e4 := sp_houseOf (n + d + 3) i i16 m1 R2
          have t1 := RelC_rthing (Rel_c hR0) i i16
          have t2 := RelF_rtof (Rel_f hR0) (cTh m0 i) (by unfold cTh; omega)
          have eh : m1 44 (m1 81 i).toNat = ((cHs m0 i : Nat) : Int) := by
            rw [B1.1 44 (by decide) (by decide) (by decide), B1.1 81 (by decide) (by decide) (by decide)]
            show m0 44 (cTh m0 i) = _
            unfold cHs
            omega
          rw [eh] at e4
          have h10 : cHs m0 i < 10 := by unfold cHs; omega
          have e5 := sp_surelyFalls (n + d + 3) (cHs m0 i) h10 N2
          have hs : ((if pEach m0 (cHs m0 i) = true then (1 : Int) else 0) = 1 ∧ wcH m0 i = 3) ∨ ((if pEach m0 (cHs m0 i) = true then (1 : Int) else 0) = 0 ∧ wcH m0 i = 1) := by
            unfold wcH
            split
            · exact Or.inl ⟨rfl, rfl⟩
            · exact Or.inr ⟨rfl, rfl⟩
          obtain ⟨w, hw⟩ : ∃ w, wcH m0 i = w := ⟨_, rfl⟩
          have w3 := wcH_in m0 i
          rw [hw] at hs w3
          obtain ⟨T, hT⟩ : ∃ T, g + (dst f (rcH m0 i) + mo) = T := ⟨_, rfl⟩
          have Tb : 0 ≤ T ∧ T ≤ 12 * ((k + 1 : Nat) : Int) := by omega
          have Tw : 0 ≤ T * w ∧ T * w ≤ 252 := by
            have a1 : 0 ≤ T * w := Int.mul_nonneg Tb.1 w3.1
            have a2 : T * w ≤ 84 * 3 := Int.mul_le_mul (by omega) w3.2.1 w3.1 (by decide)
            omega
          have sl : sub1 l (2 ^ i) < 2 ^ N := sub1_lt _ hl
          have eh2 := sub1_I l i
          rw [hh] at eh2
          have eU := rdU_I iN hbi
          obtain ⟨m2, e6, B3, o3, O3⟩ := ih (sub1 l (2 ^ i)) (k + 1) (rcH m0 i) T (c + T * w) m1 B1 sl (by rw [eh2]; omega) (by omega) r11 Tb (by omega)
          rw [eh2, rdW_I hbi, if_pos iN, hW, hw, show rdMo (k + 1) = 1 from rfl, ← hT, hr_T] at O3
          have O3 : hrQ m1 m2 (k + 1) d (fun j => hrL N (rcH m0) (wcH m0) h i (j + 1)) (c + g * W + F i) := by
            rw [← hF]
            unfold rdP
            rw [hW]
            exact O3
          have st := hrO_step O2 w1 o2 rfl O3
          rw [← rdF_s hbi] at st
          refine ⟨_, m2, bIt_go (m1 := mc) (h2_c _ mc _ _ _ _ _ _ _ x eN b1) (h2_b1 _ mc m1 m2 (l : Int) (k : Int) f g c (i : Int) (rcH m0 i) (dst f (rcH m0 i)) mo (g + dst f (rcH m0 i)) T _ _ w _ _ ((sub1 l (2 ^ i) : Nat) : Int) ((k + 1 : Nat) : Int) (T * w) (c + T * w) k x jb e1 e2 moc (i32_of (by omega) (by omega)) ?_ (f7 k7 (by decide)) (tnc k) w1 e3 e4 e5 hs (jshl_nat (by omega)) rfl (jandn_nat (by omega)) (i32_s (by omega)) (i32_of (by omega) (by omega)) (i32_of (by omega) (by omega)) e6) (h2_s _ m2 _ _ _ _ _ _ _ _ (i32_s b3)), ?_, fun j hj => ?_, st, _, rfl⟩
          · rw [i32_of (by omega) (by omega)]; omega
          · refine hrB_trans B2 (hrB_trans ⟨fun j a b e => ?_, fun j a => ?_⟩ B3)
            · rw [← w1, bwr_ne _ _ b]
            · rw [← w1, bwr_ne _ _ (by decide)]
          · rw [o3 j (by omega), ← w1, bwr_ne2 _ (by omega)]; exact o2 j hj
      · obtain ⟨B2, o2, O2, x, e3⟩ := hQ
        subst e3
        have B0 := hrB_trans hB B2
        have eN : mc 133 12 = (N : Int) := by
          rw [B0.1 133 (by decide) (by decide) (by decide), RelN_count (Rel_n hR0)]; exact hN
        rw [Nat.zero_add]
        exact bIt_ex (h2_x _ mc _ _ _ _ _ _ _ x eN (Int.lt_irrefl _))
