/-! ===== the reference's night, whole ===== -/
def RI (c : bM) (w : Nat) (s g f : Int) (k : Nat) (m : bM) : Prop := (fr179 c m) ∧ (∀ x, x < 12 → m 181 x = (nS c w s g f k).2.1 x) ∧ (∀ x, x < 12 → m 182 x = (nS c w s g f k).2.2.1 x) ∧ (∀ h, h < 10 → m 180 h = (nS c w s g f k).2.2.2 h) ∧ (∀ x, x < 12 → ∀ j, j < k → m 179 (180 * x + j) = nD c w s g f j x)
theorem RI_fr {c : bM} {w : Nat} {s g f : Int} {k : Nat} {m : bM} (h : RI c w s g f k m) : fr179 c m := h.1
theorem RI_water {c : bM} {w : Nat} {s g f : Int} {k : Nat} {m : bM} (h : RI c w s g f k m) : ∀ x, x < 12 → m 181 x = (nS c w s g f k).2.1 x := h.2.1
theorem RI_slow {c : bM} {w : Nat} {s g f : Int} {k : Nat} {m : bM} (h : RI c w s g f k m) : ∀ x, x < 12 → m 182 x = (nS c w s g f k).2.2.1 x := h.2.2.1
theorem RI_fall {c : bM} {w : Nat} {s g f : Int} {k : Nat} {m : bM} (h : RI c w s g f k m) : ∀ h, h < 10 → m 180 h = (nS c w s g f k).2.2.2 h := h.2.2.2.1
theorem RI_deep {c : bM} {w : Nat} {s g f : Int} {k : Nat} {m : bM} (h : RI c w s g f k m) : ∀ x, x < 12 → ∀ j, j < k → m 179 (180 * x + j) = nD c w s g f j x := h.2.2.2.2
theorem rn_b1 (n : Nat) (m m4 m5 m6 : bM) (w s g f p k out a b len tv iI eI hI : Int) (x7 x8 x9 y9 : Option bV) (W ix : Nat) (ha : (if f ≤ k then min g p else 0) = a) (x1 : i32 (p - a) = p - a) (q2 : s ≤ k) (x5 : i32 (k - s) = k - s) (f0 : 0 ≤ w ∧ w < ((3 : Nat) : Int)) (tw : w.toNat = W) (tl : m 136 W = len) (x4 : i32 (len - 1) = len - 1) (x6 : i32 (8 * w) = eI) (x7' : i32 (eI + min (k - s) (len - 1)) = iI) (hix3 : 0 ≤ iI ∧ iI < ((24 : Nat) : Int)) (ti : iI.toNat = ix) (tb : m 137 ix = tv) (eb : min (p - a) tv = b) (x2 : i32 (p - a - b) = p - out) (x3 : i32 (a + b) = out)
  (e4 : L_M_night_4.1.2 (sem (n + 1)) [some (aR 132), some (aI w), some (aI s), some (aI g), some (aI f), some (aI (p - out)), some (aI k), some (aI out), some (aI 0), x9] m = some (.inl (0, [some (aR 132), some (aI w), some (aI s), some (aI g), some (aI f), some (aI (p - out)), some (aI k), some (aI out), some (aI ((12 : Nat) : Int)), x9], m4)))
  (e5 : L_M_night_5.1.2 (sem (n + 1)) [some (aR 132), some (aI w), some (aI s), some (aI g), some (aI f), some (aI (p - out)), some (aI k), some (aI out), some (aI 0), x9] m4 = some (.inl (0, [some (aR 132), some (aI w), some (aI s), some (aI g), some (aI f), some (aI (p - out)), some (aI k), some (aI out), some (aI ((12 : Nat) : Int)), x9], m5)))
  (e6 : L_M_night_6.1.2 (sem (n + 1)) [some (aR 132), some (aI w), some (aI s), some (aI g), some (aI f), some (aI (p - out)), some (aI k), some (aI out), some (aI 0), x9] m5 = some (.inl (0, [some (aR 132), some (aI w), some (aI s), some (aI g), some (aI f), some (aI (p - out)), some (aI k), some (aI out), some (aI hI), y9], m6))) :
  L_M_night_3b.1.2 (sem (n + 1)) [some (aR 132), some (aI w), some (aI s), some (aI g), some (aI f), some (aI p), some (aI k), x7, x8, x9] m = some (.inl (0, [some (aR 132), some (aI w), some (aI s), some (aI g), some (aI f), some (aI (p - out)), some (aI k), some (aI out), some (aI hI), y9], m6)) := by
  unfold L_M_night_3b
  revert e4 e5 e6
  generalize L_M_night_4 = LL4
  generalize L_M_night_5 = LL5
  generalize L_M_night_6 = LL6
  intro e4 e5 e6
  generalize ((12 : Nat) : Int) = n12 at *
  by_cases q1 : f ≤ k
  · rw [if_pos q1] at ha
    simp only [q1, sp_lesser, ha, x1, q2, x5, f0, tw, tl, x4, x6, x7', hix3, ti, tb, eb, x2, x3, e4, e5, e6, d_rLoc1, d_rLoc2, d_rFld1, d_rFld2, d_eInt, d_eLdc, d_eLdw, d_eLoc, d_eFld, d_lFld, d_eAI, d_eAZ, d_eAB, d_lAL, d_eAD, d_eLen, d_eAdd, d_eSub, d_eMul, d_eAnd, d_eOr, d_eXor, d_eShl, d_eShr, d_eUsh, d_lAdd, d_lSub, d_lMul, d_lAnd, d_lOr, d_lXor, d_lShl, d_lShr, d_eDiv, d_eRem, d_eCmp, d_eI2B, d_eI2S, d_eL2I, d_lI2L, d_lInt, d_lLdc, d_lLoc, d_eIte, d_lIte, d_eMax, d_eMin, d_eAbs, d_eAbove, d_eBodies, d_cQ, d_cZ, d_cNot, d_cAnd, d_cOr, d_gNil, d_gI, d_gL, d_gR, d_gD, d_xV, d_xS, d_xN, d_xT, d_eCall, d_lCall, d_eCallC, d_sNop, d_sSet, d_sSetL, d_sSetR, d_sSetQ, d_sInc, d_sPutI, d_sPutZ, d_sPutL, d_sPutA, d_sPutAZ, d_sPutAB, d_sPutAL, d_sPutD, d_sOpF, d_sOpA, d_sCall, d_sCopy, d_sSeq, d_sIf, d_sBrk, d_sCnt, d_sRetV, d_sRet, d_sRetL, d_sLp, d_tDef, d_tCase, d_sSw, d_sSwB, bIt_d, itb_0, itb_1, itb_2, itb_r, its_0, sqk_0, sqk_1, sqk_2, sqk_r, swk_0, swk_1, swk_r, bfin_r, bfin_ite, Option.bind_some, Option.map_some, Option.bind_none, Option.map_none, bind_ite, map_ite, cop0, cop1, cop2, cop3, cop4, cop5, opv0, opv1, opv2, opv3, brc_i, brc_z, two_ne_one, false_or, getI, getR, getL, List.getElem?_cons_zero, List.getElem?_cons_succ, List.set_cons_zero, List.set_cons_succ, bnl, if_true, if_false, true_or, or_true, decide_eq_true_eq, Bool.not_eq_true', decide_eq_false_iff_not, Bool.not_true, Bool.not_false, Bool.true_eq_false, Bool.false_eq_true, ite_not, reduceIte, ite01_0, ite01_1, Decidable.not_not, ne_eq, not_true_eq_false, not_false_eq_true, Function.comp_apply, decide_not, Bool.not_not, Bool.not_eq_false', dc_t, dc_f, and_self, true_and, and_true, and_false, false_and, tnc]
  · rw [if_neg q1] at ha
    subst ha
    simp only [q1, sp_lesser, x1, q2, x5, f0, tw, tl, x4, x6, x7', hix3, ti, tb, eb, x2, x3, e4, e5, e6, d_rLoc1, d_rLoc2, d_rFld1, d_rFld2, d_eInt, d_eLdc, d_eLdw, d_eLoc, d_eFld, d_lFld, d_eAI, d_eAZ, d_eAB, d_lAL, d_eAD, d_eLen, d_eAdd, d_eSub, d_eMul, d_eAnd, d_eOr, d_eXor, d_eShl, d_eShr, d_eUsh, d_lAdd, d_lSub, d_lMul, d_lAnd, d_lOr, d_lXor, d_lShl, d_lShr, d_eDiv, d_eRem, d_eCmp, d_eI2B, d_eI2S, d_eL2I, d_lI2L, d_lInt, d_lLdc, d_lLoc, d_eIte, d_lIte, d_eMax, d_eMin, d_eAbs, d_eAbove, d_eBodies, d_cQ, d_cZ, d_cNot, d_cAnd, d_cOr, d_gNil, d_gI, d_gL, d_gR, d_gD, d_xV, d_xS, d_xN, d_xT, d_eCall, d_lCall, d_eCallC, d_sNop, d_sSet, d_sSetL, d_sSetR, d_sSetQ, d_sInc, d_sPutI, d_sPutZ, d_sPutL, d_sPutA, d_sPutAZ, d_sPutAB, d_sPutAL, d_sPutD, d_sOpF, d_sOpA, d_sCall, d_sCopy, d_sSeq, d_sIf, d_sBrk, d_sCnt, d_sRetV, d_sRet, d_sRetL, d_sLp, d_tDef, d_tCase, d_sSw, d_sSwB, bIt_d, itb_0, itb_1, itb_2, itb_r, its_0, sqk_0, sqk_1, sqk_2, sqk_r, swk_0, swk_1, swk_r, bfin_r, bfin_ite, Option.bind_some, Option.map_some, Option.bind_none, Option.map_none, bind_ite, map_ite, cop0, cop1, cop2, cop3, cop4, cop5, opv0, opv1, opv2, opv3, brc_i, brc_z, two_ne_one, false_or, getI, getR, getL, List.getElem?_cons_zero, List.getElem?_cons_succ, List.set_cons_zero, List.set_cons_succ, bnl, if_true, if_false, true_or, or_true, decide_eq_true_eq, Bool.not_eq_true', decide_eq_false_iff_not, Bool.not_true, Bool.not_false, Bool.true_eq_false, Bool.false_eq_true, ite_not, reduceIte, ite01_0, ite01_1, Decidable.not_not, ne_eq, not_true_eq_false, not_false_eq_true, Function.comp_apply, decide_not, Bool.not_not, Bool.not_eq_false', dc_t, dc_f, and_self, true_and, and_true, and_false, false_and, tnc]
theorem rn_b2 (n : Nat) (m m4 m5 m6 : bM) (w s g f p k out hI : Int) (x7 x8 x9 y9 : Option bV) (ha : (if f ≤ k then min g p else 0) = out) (x1 : i32 (p - out) = p - out) (q2 : ¬ s ≤ k)
  (e4 : L_M_night_4.1.2 (sem (n + 1)) [some (aR 132), some (aI w), some (aI s), some (aI g), some (aI f), some (aI (p - out)), some (aI k), some (aI out), some (aI 0), x9] m = some (.inl (0, [some (aR 132), some (aI w), some (aI s), some (aI g), some (aI f), some (aI (p - out)), some (aI k), some (aI out), some (aI ((12 : Nat) : Int)), x9], m4)))
  (e5 : L_M_night_5.1.2 (sem (n + 1)) [some (aR 132), some (aI w), some (aI s), some (aI g), some (aI f), some (aI (p - out)), some (aI k), some (aI out), some (aI 0), x9] m4 = some (.inl (0, [some (aR 132), some (aI w), some (aI s), some (aI g), some (aI f), some (aI (p - out)), some (aI k), some (aI out), some (aI ((12 : Nat) : Int)), x9], m5)))
  (e6 : L_M_night_6.1.2 (sem (n + 1)) [some (aR 132), some (aI w), some (aI s), some (aI g), some (aI f), some (aI (p - out)), some (aI k), some (aI out), some (aI 0), x9] m5 = some (.inl (0, [some (aR 132), some (aI w), some (aI s), some (aI g), some (aI f), some (aI (p - out)), some (aI k), some (aI out), some (aI hI), y9], m6))) :
  L_M_night_3b.1.2 (sem (n + 1)) [some (aR 132), some (aI w), some (aI s), some (aI g), some (aI f), some (aI p), some (aI k), x7, x8, x9] m = some (.inl (0, [some (aR 132), some (aI w), some (aI s), some (aI g), some (aI f), some (aI (p - out)), some (aI k), some (aI out), some (aI hI), y9], m6)) := by
  unfold L_M_night_3b
  revert e4 e5 e6
  generalize L_M_night_4 = LL4
  generalize L_M_night_5 = LL5
  generalize L_M_night_6 = LL6
  intro e4 e5 e6
  generalize ((12 : Nat) : Int) = n12 at *
  by_cases q1 : f ≤ k
  · rw [if_pos q1] at ha
    simp only [q1, sp_lesser, ha, x1, q2, e4, e5, e6, d_rLoc1, d_rLoc2, d_rFld1, d_rFld2, d_eInt, d_eLdc, d_eLdw, d_eLoc, d_eFld, d_lFld, d_eAI, d_eAZ, d_eAB, d_lAL, d_eAD, d_eLen, d_eAdd, d_eSub, d_eMul, d_eAnd, d_eOr, d_eXor, d_eShl, d_eShr, d_eUsh, d_lAdd, d_lSub, d_lMul, d_lAnd, d_lOr, d_lXor, d_lShl, d_lShr, d_eDiv, d_eRem, d_eCmp, d_eI2B, d_eI2S, d_eL2I, d_lI2L, d_lInt, d_lLdc, d_lLoc, d_eIte, d_lIte, d_eMax, d_eMin, d_eAbs, d_eAbove, d_eBodies, d_cQ, d_cZ, d_cNot, d_cAnd, d_cOr, d_gNil, d_gI, d_gL, d_gR, d_gD, d_xV, d_xS, d_xN, d_xT, d_eCall, d_lCall, d_eCallC, d_sNop, d_sSet, d_sSetL, d_sSetR, d_sSetQ, d_sInc, d_sPutI, d_sPutZ, d_sPutL, d_sPutA, d_sPutAZ, d_sPutAB, d_sPutAL, d_sPutD, d_sOpF, d_sOpA, d_sCall, d_sCopy, d_sSeq, d_sIf, d_sBrk, d_sCnt, d_sRetV, d_sRet, d_sRetL, d_sLp, d_tDef, d_tCase, d_sSw, d_sSwB, bIt_d, itb_0, itb_1, itb_2, itb_r, its_0, sqk_0, sqk_1, sqk_2, sqk_r, swk_0, swk_1, swk_r, bfin_r, bfin_ite, Option.bind_some, Option.map_some, Option.bind_none, Option.map_none, bind_ite, map_ite, cop0, cop1, cop2, cop3, cop4, cop5, opv0, opv1, opv2, opv3, brc_i, brc_z, two_ne_one, false_or, getI, getR, getL, List.getElem?_cons_zero, List.getElem?_cons_succ, List.set_cons_zero, List.set_cons_succ, bnl, if_true, if_false, true_or, or_true, decide_eq_true_eq, Bool.not_eq_true', decide_eq_false_iff_not, Bool.not_true, Bool.not_false, Bool.true_eq_false, Bool.false_eq_true, ite_not, reduceIte, ite01_0, ite01_1, Decidable.not_not, ne_eq, not_true_eq_false, not_false_eq_true, Function.comp_apply, decide_not, Bool.not_not, Bool.not_eq_false', dc_t, dc_f, and_self, true_and, and_true, and_false, false_and, tnc]
  · rw [if_neg q1] at ha
    subst ha
    simp only [q1, sp_lesser, x1, q2, e4, e5, e6, d_rLoc1, d_rLoc2, d_rFld1, d_rFld2, d_eInt, d_eLdc, d_eLdw, d_eLoc, d_eFld, d_lFld, d_eAI, d_eAZ, d_eAB, d_lAL, d_eAD, d_eLen, d_eAdd, d_eSub, d_eMul, d_eAnd, d_eOr, d_eXor, d_eShl, d_eShr, d_eUsh, d_lAdd, d_lSub, d_lMul, d_lAnd, d_lOr, d_lXor, d_lShl, d_lShr, d_eDiv, d_eRem, d_eCmp, d_eI2B, d_eI2S, d_eL2I, d_lI2L, d_lInt, d_lLdc, d_lLoc, d_eIte, d_lIte, d_eMax, d_eMin, d_eAbs, d_eAbove, d_eBodies, d_cQ, d_cZ, d_cNot, d_cAnd, d_cOr, d_gNil, d_gI, d_gL, d_gR, d_gD, d_xV, d_xS, d_xN, d_xT, d_eCall, d_lCall, d_eCallC, d_sNop, d_sSet, d_sSetL, d_sSetR, d_sSetQ, d_sInc, d_sPutI, d_sPutZ, d_sPutL, d_sPutA, d_sPutAZ, d_sPutAB, d_sPutAL, d_sPutD, d_sOpF, d_sOpA, d_sCall, d_sCopy, d_sSeq, d_sIf, d_sBrk, d_sCnt, d_sRetV, d_sRet, d_sRetL, d_sLp, d_tDef, d_tCase, d_sSw, d_sSwB, bIt_d, itb_0, itb_1, itb_2, itb_r, its_0, sqk_0, sqk_1, sqk_2, sqk_r, swk_0, swk_1, swk_r, bfin_r, bfin_ite, Option.bind_some, Option.map_some, Option.bind_none, Option.map_none, bind_ite, map_ite, cop0, cop1, cop2, cop3, cop4, cop5, opv0, opv1, opv2, opv3, brc_i, brc_z, two_ne_one, false_or, getI, getR, getL, List.getElem?_cons_zero, List.getElem?_cons_succ, List.set_cons_zero, List.set_cons_succ, bnl, if_true, if_false, true_or, or_true, decide_eq_true_eq, Bool.not_eq_true', decide_eq_false_iff_not, Bool.not_true, Bool.not_false, Bool.true_eq_false, Bool.false_eq_true, ite_not, reduceIte, ite01_0, ite01_1, Decidable.not_not, ne_eq, not_true_eq_false, not_false_eq_true, Function.comp_apply, decide_not, Bool.not_not, Bool.not_eq_false', dc_t, dc_f, and_self, true_and, and_true, and_false, false_and, tnc]
theorem rn_min (n : Nat) {c : bM} (hV : RelV c c) (hN : RelN c c) {w : Nat} (hw : w < 3) {s g f : Int} (hs : 0 ≤ s ∧ s ≤ 29) (hg : 0 ≤ g ∧ g ≤ 99) {k : Nat} (hk : k < 180) {m : bM} (h : RI c w s g f k m) (x7 x8 x9 : Option bV) : ∃ m2 y7 y8 y9, L_M_night_3b.1.2 (sem (n + 1)) [some (aR 132), some (aI (w : Int)), some (aI s), some (aI g), some (aI f), some (aI (nS c w s g f k).1), some (aI (k : Int)), x7, x8, x9] m = some (.inl (0, [some (aR 132), some (aI (w : Int)), some (aI s), some (aI g), some (aI f), some (aI (nS c w s g f (k + 1)).1), some (aI (k : Int)), y7, y8, y9], m2)) ∧ RI c w s g f (k + 1) m2 := by
  obtain ⟨n1, n2, n3, n4, n5⟩ := h
  have hok := nS_ok hV hw (s := s) (f := f) hg.1 k
  have hok1 := nS_ok hV hw (s := s) (f := f) hg.1 (k + 1)
  have hp9 : (nS c w s g f k).1 ≤ 9999 := by
    have := NOK_s hok
    have := smN_nn 12 (NOK_w hok)
    omega
  have hp0 := NOK_p hok
  have hHs := RelV_rhouses hV
  obtain ⟨H, hH⟩ : ∃ H : Nat, c 1 10 = (H : Int) := ⟨(c 1 10).toNat, by omega⟩
  have eH : nHs c = H := by unfold nHs; rw [hH]; exact tnc H
  have hout := nOut_in hV hw (s := s) (f := f) (k := k) hg.1 hp0
  have h1 := nO1_in (f := f) (k := k) hg.1 hp0
  have h2 := nO2_in hV hw (s := s) (k := k) (p := (nS c w s g f k).1 - nO1 g f k (nS c w s g f k).1) (by omega)
  obtain ⟨out, hou⟩ : ∃ out, out = nOut c w s g f k (nS c w s g f k).1 := ⟨_, rfl⟩
  rw [← hou] at hout
  obtain ⟨m4, e4, a4, o4⟩ := rn_4 (n + 1) hok (w : Int) s g f ((nS c w s g f k).1 - out) (k : Int) out x9 (m := m) n2 n3
  have fr4 : fr179 c m4 := fun i hi => by rw [o4 i (by omega)]; exact n1 i hi
  have nn : ∀ x, x < 12 → 0 ≤ nWt (nS c w s g f k).2.1 (nS c w s g f k).2.2.1 out x ∧ nWt (nS c w s g f k).2.1 (nS c w s g f k).2.2.1 out x ≤ 20000 := fun x hx => by
    have := NOK_wt hok1 hx
    rw [hou]
    have e : (nS c w s g f (k + 1)).2.1 x = nWt (nS c w s g f k).2.1 (nS c w s g f k).2.2.1 (nOut c w s g f k (nS c w s g f k).1) x := rfl
    rw [← e]
    omega
  obtain ⟨m5, e5, a5, d5, k5, o5⟩ := rn_5 (n + 1) hV hok (w : Int) s g f ((nS c w s g f k).1 - out) k hk ⟨hout.1, by omega⟩ nn x9 fr4 (fun x hx => by rw [o4 _ (by decide)]; exact n2 x hx) a4
  have fr5 : fr179 c m5 := fun i hi => by rw [o5 i (by omega) (by omega)]; exact fr4 i hi
  have wE : nWt (nS c w s g f k).2.1 (nS c w s g f k).2.2.1 out = (nS c w s g f (k + 1)).2.1 := by rw [hou]; rfl
  rw [wE] at a5 d5
  obtain ⟨m6, y9, e6, a6, b6, o6⟩ := rn_6 n hV hN H hH (wt := (nS c w s g f (k + 1)).2.1) (sl := (nS c w s g f k).2.2.1) (fo := (nS c w s g f k).2.2.2) (NOK_l hok) (w : Int) s g f ((nS c w s g f k).1 - out) k hk out x9 fr5 d5 (fun x hx => by rw [o5 _ (by decide) (by decide), o4 _ (by decide)]; exact n3 x hx) (fun x hx => by rw [o5 _ (by decide) (by decide), o4 _ (by decide)]; exact n4 x hx)
  have pE : (nS c w s g f (k + 1)).1 = (nS c w s g f k).1 - out := by rw [hou]; rfl
  refine ⟨m6, some (aI out), some (aI (H : Int)), y9, ?_, ⟨?_, ?_, ?_, ?_, ?_⟩⟩
  · rw [pE]
    obtain ⟨a, ha⟩ : ∃ a, a = nO1 g f k (nS c w s g f k).1 := ⟨_, rfl⟩
    rw [← ha] at h1 h2
    obtain ⟨b, hb⟩ : ∃ b, b = nO2 c w s k ((nS c w s g f k).1 - a) := ⟨_, rfl⟩
    rw [← hb] at h2
    have hab : out = a + b := by rw [hou]; unfold nOut; rw [← ha, ← hb]
    generalize (nS c w s g f k).1 = p at *
    have ea : a = if f ≤ (k : Int) then min g p else 0 := ha
    have lw := RelV_rtabl hV w hw
    have tl : m 136 w = c 5 w := by rw [n1 _ (by decide)]; exact RelV_tabl hV w hw
    have f0 : 0 ≤ (w : Int) ∧ (w : Int) < ((3 : Nat) : Int) := by omega
    have z1 : -2147483648 ≤ p - a ∧ p - a < 2147483648 := by omega
    have z2 : -2147483648 ≤ p - a - b ∧ p - a - b < 2147483648 := by omega
    have z3 : -2147483648 ≤ a + b ∧ a + b < 2147483648 := by omega
    have z4 : -2147483648 ≤ c 5 w - 1 ∧ c 5 w - 1 < 2147483648 := by omega
    have eq1 : p - a - b = p - out := by omega
    by_cases q2 : s ≤ (k : Int)
    · have z5 : -2147483648 ≤ (k : Int) - s ∧ (k : Int) - s < 2147483648 := by omega
      obtain ⟨ix, hix⟩ : ∃ ix : Nat, ix = 8 * w + (min ((k : Int) - s) (c 5 w - 1)).toNat := ⟨_, rfl⟩
      have hix2 : ((8 * w : Nat) : Int) + min ((k : Int) - s) (c 5 w - 1) = (ix : Int) := by omega
      have hix3 : 0 ≤ (ix : Int) ∧ (ix : Int) < ((24 : Nat) : Int) := by omega
      have hix4 : ix < 24 := by omega
      have tb : m 137 ix = tNo c w ((k : Int) - s) := by
        rw [n1 _ (by decide), RelV_table hV ix hix4, hix]
        rfl
      have eb : min (p - a) (tNo c w ((k : Int) - s)) = b := by rw [hb]; unfold nO2; rw [if_pos q2]
      have hix5 : -2147483648 ≤ (ix : Int) ∧ (ix : Int) < 2147483648 := by omega
      have w4 : w < 4 := by omega
      have x1 := i32_of z1.1 z1.2
      have x2 := (i32_of z2.1 z2.2).trans eq1
      have x3 := (i32_of z3.1 z3.2).trans hab.symm
      have x4 := i32_of z4.1 z4.2
      have x5 := i32_of z5.1 z5.2
      have x6 := i32_8x w4
      have x7' : i32 (((8 * w : Nat) : Int) + min ((k : Int) - s) (c 5 w - 1)) = (ix : Int) := by rw [hix2]; exact i32_of hix5.1 hix5.2
      exact rn_b1 n m m4 m5 m6 (w : Int) s g f p (k : Int) out a b (c 5 w) (tNo c w ((k : Int) - s)) (ix : Int) ((8 * w : Nat) : Int) (H : Int) x7 x8 x9 y9 w ix ea.symm x1 q2 x5 f0 (tnc w) tl x4 x6 x7' hix3 (tnc ix) tb eb x2 x3 e4 e5 e6
    · have eb : b = 0 := by rw [hb]; unfold nO2; rw [if_neg q2]
      have hao : a = out := by omega
      have x1 := i32_of z1.1 z1.2
      rw [hao] at x1 ea
      exact rn_b2 n m m4 m5 m6 (w : Int) s g f p (k : Int) out (H : Int) x7 x8 x9 y9 ea.symm x1 q2 e4 e5 e6
  · exact fun i hi => by rw [o6 i (by omega) (by omega)]; exact fr5 i hi
  · exact fun x hx => by rw [o6 _ (by decide) (by decide)]; exact a5 x hx
  · exact fun x hx => by rw [a6 x hx, nS_l, eH]
  · intro x hx
    rw [b6 x hx, nS_f]
    unfold nFo
    rw [eH]
  · intro x hx j hj
    rw [o6 _ (by decide) (by decide)]
    by_cases q : j = k
    · rw [q, d5 x hx]; rfl
    · rw [k5 (180 * x + j) (fun y _ => by omega), o4 _ (by decide)]
      exact n5 x hx j (by omega)
theorem sp_M_night (n : Nat) {c : bM} (hV : RelV c c) (hN : RelN c c) {w : Nat} (hw : w < 3) {s g f : Int} (hs : 0 ≤ s ∧ s ≤ 29) (hg : 0 ≤ g ∧ g ≤ 99) : ∃ m2, sem (n + 2) 209 [aR 132, aI (w : Int), aI s, aI g, aI f] c = some (m2, 0) ∧ RI c w s g f 180 m2 := by
  obtain ⟨m1, e1, a1, o1⟩ := rn_1 (n + 1) hV (w : Int) s g f (c 1 7) (fr179_r c)
  obtain ⟨m2, e2, a2, o2⟩ := rn_2 (n + 1) (w : Int) s g f (c 1 7) m1
  have ri0 : RI c w s g f 0 m2 := by
    refine ⟨fun i hi => ?_, fun x hx => ?_, fun x hx => ?_, fun x hx => ?_, fun x hx j hj => absurd hj (Nat.not_lt_zero j)⟩
    · rw [o2 i (by omega), o1 i (by omega) (by omega)]
    · rw [o2 _ (by decide)]; exact (a1 x hx).1
    · rw [o2 _ (by decide)]; exact (a1 x hx).2
    · exact a2 x hx
  have key := lp_wf (c := L_M_night_3c.1.2 (sem (n + 1))) (b := L_M_night_3b.1.2 (sem (n + 1))) (s := L_M_night_3s.1.2 (sem (n + 1)))
    (Q := fun _ m' => RI c w s g f 180 m') (R := fun _ _ => False)
    (fun d ls m' => ∃ (k : Nat) (x7 x8 x9 : Option bV), ls = [some (aR 132), some (aI (w : Int)), some (aI s), some (aI g), some (aI f), some (aI (nS c w s g f k).1), some (aI (k : Int)), x7, x8, x9] ∧ d = 180 - k ∧ k ≤ 180 ∧ RI c w s g f k m')
    (fun d ls m' hP => by
      obtain ⟨k, x7, x8, x9, rfl, hd, hk, hri⟩ := hP
      by_cases hkl : k = 180
      · right; left
        refine ⟨[some (aR 132), some (aI (w : Int)), some (aI s), some (aI g), some (aI f), some (aI (nS c w s g f k).1), some (aI (k : Int)), x7, x8, x9], m', bIt_ex ?_, by rw [← hkl]; exact hri⟩
        have q : ¬ (k : Int) < 180 := by omega
        generalize ((k : Nat) : Int) = kI at *
        simp only [L_M_night_3c, q, d_rLoc1, d_rLoc2, d_rFld1, d_rFld2, d_eInt, d_eLdc, d_eLdw, d_eLoc, d_eFld, d_lFld, d_eAI, d_eAZ, d_eAB, d_lAL, d_eAD, d_eLen, d_eAdd, d_eSub, d_eMul, d_eAnd, d_eOr, d_eXor, d_eShl, d_eShr, d_eUsh, d_lAdd, d_lSub, d_lMul, d_lAnd, d_lOr, d_lXor, d_lShl, d_lShr, d_eDiv, d_eRem, d_eCmp, d_eI2B, d_eI2S, d_eL2I, d_lI2L, d_lInt, d_lLdc, d_lLoc, d_eIte, d_lIte, d_eMax, d_eMin, d_eAbs, d_eAbove, d_eBodies, d_cQ, d_cZ, d_cNot, d_cAnd, d_cOr, d_gNil, d_gI, d_gL, d_gR, d_gD, d_xV, d_xS, d_xN, d_xT, d_eCall, d_lCall, d_eCallC, d_sNop, d_sSet, d_sSetL, d_sSetR, d_sSetQ, d_sInc, d_sPutI, d_sPutZ, d_sPutL, d_sPutA, d_sPutAZ, d_sPutAB, d_sPutAL, d_sPutD, d_sOpF, d_sOpA, d_sCall, d_sCopy, d_sSeq, d_sIf, d_sBrk, d_sCnt, d_sRetV, d_sRet, d_sRetL, d_sLp, d_tDef, d_tCase, d_sSw, d_sSwB, bIt_d, itb_0, itb_1, itb_2, itb_r, its_0, sqk_0, sqk_1, sqk_2, sqk_r, swk_0, swk_1, swk_r, bfin_r, bfin_ite, Option.bind_some, Option.map_some, Option.bind_none, Option.map_none, bind_ite, map_ite, cop0, cop1, cop2, cop3, cop4, cop5, opv0, opv1, opv2, opv3, brc_i, brc_z, two_ne_one, false_or, getI, getR, getL, List.getElem?_cons_zero, List.getElem?_cons_succ, List.set_cons_zero, List.set_cons_succ, bnl, if_true, if_false, true_or, or_true, decide_eq_true_eq, Bool.not_eq_true', decide_eq_false_iff_not, Bool.not_true, Bool.not_false, Bool.true_eq_false, Bool.false_eq_true, ite_not, reduceIte, ite01_0, ite01_1, Decidable.not_not, ne_eq, not_true_eq_false, not_false_eq_true, Function.comp_apply, decide_not, Bool.not_not, Bool.not_eq_false', dc_t, dc_f, and_self, true_and, and_true, and_false, false_and, tnc]
      · left
        have hk2 : k < 180 := by omega
        have q : (k : Int) < 180 := by omega
        have y0 : k < 2147483647 := by omega
        have dl : 180 - (k + 1) < d := by omega
        obtain ⟨mf, y7, y8, y9, eB, riF⟩ := rn_min n hV hN hw hs hg hk2 hri x7 x8 x9
        have f3 := i32_s y0
        refine ⟨180 - (k + 1), [some (aR 132), some (aI (w : Int)), some (aI s), some (aI g), some (aI f), some (aI (nS c w s g f (k + 1)).1), some (aI ((k + 1 : Nat) : Int)), y7, y8, y9], mf, dl, bIt_go (m1 := m') (ls2 := [some (aR 132), some (aI (w : Int)), some (aI s), some (aI g), some (aI f), some (aI (nS c w s g f (k + 1)).1), some (aI (k : Int)), y7, y8, y9]) (m2 := mf) ?_ eB ?_, k + 1, y7, y8, y9, rfl, rfl, hk2, riF⟩
        · generalize ((k : Nat) : Int) = kI at *
          simp only [L_M_night_3c, q, d_rLoc1, d_rLoc2, d_rFld1, d_rFld2, d_eInt, d_eLdc, d_eLdw, d_eLoc, d_eFld, d_lFld, d_eAI, d_eAZ, d_eAB, d_lAL, d_eAD, d_eLen, d_eAdd, d_eSub, d_eMul, d_eAnd, d_eOr, d_eXor, d_eShl, d_eShr, d_eUsh, d_lAdd, d_lSub, d_lMul, d_lAnd, d_lOr, d_lXor, d_lShl, d_lShr, d_eDiv, d_eRem, d_eCmp, d_eI2B, d_eI2S, d_eL2I, d_lI2L, d_lInt, d_lLdc, d_lLoc, d_eIte, d_lIte, d_eMax, d_eMin, d_eAbs, d_eAbove, d_eBodies, d_cQ, d_cZ, d_cNot, d_cAnd, d_cOr, d_gNil, d_gI, d_gL, d_gR, d_gD, d_xV, d_xS, d_xN, d_xT, d_eCall, d_lCall, d_eCallC, d_sNop, d_sSet, d_sSetL, d_sSetR, d_sSetQ, d_sInc, d_sPutI, d_sPutZ, d_sPutL, d_sPutA, d_sPutAZ, d_sPutAB, d_sPutAL, d_sPutD, d_sOpF, d_sOpA, d_sCall, d_sCopy, d_sSeq, d_sIf, d_sBrk, d_sCnt, d_sRetV, d_sRet, d_sRetL, d_sLp, d_tDef, d_tCase, d_sSw, d_sSwB, bIt_d, itb_0, itb_1, itb_2, itb_r, its_0, sqk_0, sqk_1, sqk_2, sqk_r, swk_0, swk_1, swk_r, bfin_r, bfin_ite, Option.bind_some, Option.map_some, Option.bind_none, Option.map_none, bind_ite, map_ite, cop0, cop1, cop2, cop3, cop4, cop5, opv0, opv1, opv2, opv3, brc_i, brc_z, two_ne_one, false_or, getI, getR, getL, List.getElem?_cons_zero, List.getElem?_cons_succ, List.set_cons_zero, List.set_cons_succ, bnl, if_true, if_false, true_or, or_true, decide_eq_true_eq, Bool.not_eq_true', decide_eq_false_iff_not, Bool.not_true, Bool.not_false, Bool.true_eq_false, Bool.false_eq_true, ite_not, reduceIte, ite01_0, ite01_1, Decidable.not_not, ne_eq, not_true_eq_false, not_false_eq_true, Function.comp_apply, decide_not, Bool.not_not, Bool.not_eq_false', dc_t, dc_f, and_self, true_and, and_true, and_false, false_and, tnc]
        · simp only [L_M_night_3s, f3, d_rLoc1, d_rLoc2, d_rFld1, d_rFld2, d_eInt, d_eLdc, d_eLdw, d_eLoc, d_eFld, d_lFld, d_eAI, d_eAZ, d_eAB, d_lAL, d_eAD, d_eLen, d_eAdd, d_eSub, d_eMul, d_eAnd, d_eOr, d_eXor, d_eShl, d_eShr, d_eUsh, d_lAdd, d_lSub, d_lMul, d_lAnd, d_lOr, d_lXor, d_lShl, d_lShr, d_eDiv, d_eRem, d_eCmp, d_eI2B, d_eI2S, d_eL2I, d_lI2L, d_lInt, d_lLdc, d_lLoc, d_eIte, d_lIte, d_eMax, d_eMin, d_eAbs, d_eAbove, d_eBodies, d_cQ, d_cZ, d_cNot, d_cAnd, d_cOr, d_gNil, d_gI, d_gL, d_gR, d_gD, d_xV, d_xS, d_xN, d_xT, d_eCall, d_lCall, d_eCallC, d_sNop, d_sSet, d_sSetL, d_sSetR, d_sSetQ, d_sInc, d_sPutI, d_sPutZ, d_sPutL, d_sPutA, d_sPutAZ, d_sPutAB, d_sPutAL, d_sPutD, d_sOpF, d_sOpA, d_sCall, d_sCopy, d_sSeq, d_sIf, d_sBrk, d_sCnt, d_sRetV, d_sRet, d_sRetL, d_sLp, d_tDef, d_tCase, d_sSw, d_sSwB, bIt_d, itb_0, itb_1, itb_2, itb_r, its_0, sqk_0, sqk_1, sqk_2, sqk_r, swk_0, swk_1, swk_r, bfin_r, bfin_ite, Option.bind_some, Option.map_some, Option.bind_none, Option.map_none, bind_ite, map_ite, cop0, cop1, cop2, cop3, cop4, cop5, opv0, opv1, opv2, opv3, brc_i, brc_z, two_ne_one, false_or, getI, getR, getL, List.getElem?_cons_zero, List.getElem?_cons_succ, List.set_cons_zero, List.set_cons_succ, bnl, if_true, if_false, true_or, or_true, decide_eq_true_eq, Bool.not_eq_true', decide_eq_false_iff_not, Bool.not_true, Bool.not_false, Bool.true_eq_false, Bool.false_eq_true, ite_not, reduceIte, ite01_0, ite01_1, Decidable.not_not, ne_eq, not_true_eq_false, not_false_eq_true, Function.comp_apply, decide_not, Bool.not_not, Bool.not_eq_false', dc_t, dc_f, and_self, true_and, and_true, and_false, false_and, tnc]) bF 180 [some (aR 132), some (aI (w : Int)), some (aI s), some (aI g), some (aI f), some (aI (c 1 7)), some (aI 0), none, none, none] m2 (by show 180 < 1000; decide) ⟨0, none, none, none, rfl, rfl, Nat.zero_le _, ri0⟩
  rcases key with ⟨ls', m3, e3, hri3⟩ | ⟨_, _, _, hx⟩
  · refine ⟨m3, ?_, hri3⟩
    have e4 : L_M_night_3.1.2 (sem (n + 1)) [some (aR 132), some (aI (w : Int)), some (aI s), some (aI g), some (aI f), some (aI (c 1 7)), some (aI 0), none, none, none] m2 = some (.inl (0, ls', m3)) := by
      unfold L_M_night_3
      rw [d_sLp]
      exact e3
    have nw := RelN_water hN
    rw [st_M_night]
    unfold B_M_night
    revert e1 e2 e4
    generalize L_M_night_1 = LL1
    generalize L_M_night_2 = LL2
    generalize L_M_night_3 = LL3
    intro e1 e2 e4
    generalize ((w : Nat) : Int) = wI at *
    simp only [kr_M_night, nx_0, nm_0, nw, e1, e2, e4, d_rLoc1, d_rLoc2, d_rFld1, d_rFld2, d_eInt, d_eLdc, d_eLdw, d_eLoc, d_eFld, d_lFld, d_eAI, d_eAZ, d_eAB, d_lAL, d_eAD, d_eLen, d_eAdd, d_eSub, d_eMul, d_eAnd, d_eOr, d_eXor, d_eShl, d_eShr, d_eUsh, d_lAdd, d_lSub, d_lMul, d_lAnd, d_lOr, d_lXor, d_lShl, d_lShr, d_eDiv, d_eRem, d_eCmp, d_eI2B, d_eI2S, d_eL2I, d_lI2L, d_lInt, d_lLdc, d_lLoc, d_eIte, d_lIte, d_eMax, d_eMin, d_eAbs, d_eAbove, d_eBodies, d_cQ, d_cZ, d_cNot, d_cAnd, d_cOr, d_gNil, d_gI, d_gL, d_gR, d_gD, d_xV, d_xS, d_xN, d_xT, d_eCall, d_lCall, d_eCallC, d_sNop, d_sSet, d_sSetL, d_sSetR, d_sSetQ, d_sInc, d_sPutI, d_sPutZ, d_sPutL, d_sPutA, d_sPutAZ, d_sPutAB, d_sPutAL, d_sPutD, d_sOpF, d_sOpA, d_sCall, d_sCopy, d_sSeq, d_sIf, d_sBrk, d_sCnt, d_sRetV, d_sRet, d_sRetL, d_sLp, d_tDef, d_tCase, d_sSw, d_sSwB, bIt_d, itb_0, itb_1, itb_2, itb_r, its_0, sqk_0, sqk_1, sqk_2, sqk_r, swk_0, swk_1, swk_r, bfin_r, bfin_ite, Option.bind_some, Option.map_some, Option.bind_none, Option.map_none, bind_ite, map_ite, cop0, cop1, cop2, cop3, cop4, cop5, opv0, opv1, opv2, opv3, brc_i, brc_z, two_ne_one, false_or, getI, getR, getL, List.getElem?_cons_zero, List.getElem?_cons_succ, List.set_cons_zero, List.set_cons_succ, bnl, if_true, if_false, true_or, or_true, decide_eq_true_eq, Bool.not_eq_true', decide_eq_false_iff_not, Bool.not_true, Bool.not_false, Bool.true_eq_false, Bool.false_eq_true, ite_not, reduceIte, ite01_0, ite01_1, Decidable.not_not, ne_eq, not_true_eq_false, not_false_eq_true, Function.comp_apply, decide_not, Bool.not_not, Bool.not_eq_false', dc_t, dc_f, and_self, true_and, and_true, and_false, false_and, tnc]
  · exact hx.elim
