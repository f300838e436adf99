/-! ===== the reference's night, houses and minutes ===== -/
theorem nSl_s (c : bM) (fl : Nat → Bool) (sl : Nat → Int) (h r : Nat) : nSl c fl sl (h + 1) r = if fl h = true ∧ r = (c 6 h).toNat then min 9 (nSl c fl sl h r + 1) else nSl c fl sl h r := rfl
theorem rn_6 (n : Nat) {c : bM} (hV : RelV c c) (hN : RelN c c) (H : Nat) (hH : c 1 10 = (H : Int)) {wt sl fo : Nat → Int} (hsl2 : ∀ x, x < 12 → 2 ≤ sl x ∧ sl x ≤ 9) (w s g f p : Int) (mm : Nat) (hmm : mm < 180) (out : Int) (x9 : Option bV) {m : bM} (hfr : fr179 c m) (hde : ∀ x, x < 12 → m 179 (180 * x + mm) = wt x / c 2 x) (hsl : ∀ x, x < 12 → m 182 x = sl x) (hfo : ∀ h, h < 10 → m 180 h = fo h) : ∃ m2 y9, L_M_night_6.1.2 (sem (n + 1)) [some (aR 132), some (aI w), some (aI s), some (aI g), some (aI f), some (aI p), some (aI (mm : Int)), some (aI out), some (aI 0), x9] m = some (.inl (0, [some (aR 132), some (aI w), some (aI s), some (aI g), some (aI f), some (aI p), some (aI (mm : Int)), some (aI out), some (aI (H : Int)), y9], m2)) ∧ (∀ x, x < 12 → m2 182 x = nSl c (nFl c wt fo) sl H x) ∧ (∀ h, h < 10 → m2 180 h = if h < H ∧ nFl c wt fo h = true then (mm : Int) else fo h) ∧ (∀ i, i ≠ 182 → i ≠ 180 → m2 i = m i) := by
  have hH10 := RelV_rhouses hV
  have hH2 : H ≤ 10 := by omega
  have hH1k : H < 1000 := by omega
  have nH : c 133 5 = (H : Int) := (RelN_houses hN).trans hH
  unfold L_M_night_6
  rw [d_sLp]
  have hl := lp_m (c := L_M_night_6c.1.2 (sem (n + 1))) (b := L_M_night_6b.1.2 (sem (n + 1))) (s := L_M_night_6s.1.2 (sem (n + 1))) (m := m)
    (fun k => [some (aR 132), some (aI w), some (aI s), some (aI g), some (aI f), some (aI p), some (aI (mm : Int)), some (aI out), some (aI (k : Int)), if k = 0 then x9 else some (aI (c 6 (k - 1)))])
    (fun k m' => (∀ x, x < 12 → m' 182 x = nSl c (nFl c wt fo) sl k x) ∧ (∀ h, h < 10 → m' 180 h = if h < k ∧ nFl c wt fo h = true then (mm : Int) else fo h) ∧ (∀ i, i ≠ 182 → i ≠ 180 → m' i = m i)) H hH1k
    ⟨hsl, fun h hh => by rw [if_neg (fun q => Nat.not_lt_zero _ q.1)]; exact hfo h hh, fun _ _ _ => rfl⟩
    (fun k m' hk hI => by
      obtain ⟨i1, i3, i2⟩ := hI
      have hk10 : k < 10 := by omega
      have rr := RelV_rhAt hV k hk10
      obtain ⟨x, hx⟩ : ∃ x : Nat, c 6 k = (x : Int) := ⟨(c 6 k).toNat, by omega⟩
      have tx0 : (c 6 k).toNat = x := by rw [hx]; exact tnc x
      have hx12 : x < 12 := by omega
      have b0 : m' 133 5 = (H : Int) := by rw [i2 _ (by decide) (by decide), hfr _ (by decide)]; exact nH
      have b1 : m' 138 k = (x : Int) := by rw [i2 _ (by decide) (by decide), hfr _ (by decide), RelV_hAt hV k hk10]; exact hx
      have b2 : m' 139 k = c 7 k := by rw [i2 _ (by decide) (by decide), hfr _ (by decide)]; exact RelV_str hV k hk10
      have b3 : m' 180 k = fo k := by rw [i3 k hk10, if_neg (fun q => Nat.lt_irrefl _ q.1)]
      have b4 : m' 179 (180 * x + mm) = wt x / c 2 x := by rw [i2 _ (by decide) (by decide)]; exact hde x hx12
      have b5 : m' 182 x = nSl c (nFl c wt fo) sl k x := i1 x hx12
      have si := nSl_in c (nFl c wt fo) sl (hsl2 x hx12) k
      have f1 : (k : Int) < (H : Int) := by omega
      have f2 : 0 ≤ (k : Int) ∧ (k : Int) < ((10 : Nat) : Int) := by omega
      have f4 : 0 ≤ (x : Int) ∧ (x : Int) < ((12 : Nat) : Int) := by omega
      have f7 : 0 ≤ ((180 * x + mm : Nat) : Int) ∧ ((180 * x + mm : Nat) : Int) < ((2160 : Nat) : Int) := by omega
      have z1 : -2147483648 ≤ nSl c (nFl c wt fo) sl k x + 1 ∧ nSl c (nFl c wt fo) sl k x + 1 < 2147483648 := by omega
      have v2 : 180 * x + mm < 2147483648 := by omega
      have y0 : k < 2147483647 := by omega
      have fE : nFl c wt fo k = (decide (fo k < 0) && decide (c 7 k ≤ wt x / c 2 x)) := by unfold nFl; rw [tx0]
      have x8 : i32 (180 * (x : Int)) = ((180 * x : Nat) : Int) := by
        have := i32_of (z := ((180 * x : Nat) : Int)) (by omega) (by omega)
        rw [← this]; congr 1
      have x1 := i32_of z1.1 z1.2
      have x3 : i32 (((180 * x : Nat) : Int) + (mm : Int)) = ((180 * x + mm : Nat) : Int) := i32_add rfl v2
      have f3 := i32_s y0
      have tk := tnc k
      have tx := tnc x
      have td := tnc (180 * x + mm)
      have e9 : (if k + 1 = 0 then x9 else some (aI (c 6 (k + 1 - 1)))) = some (aI (x : Int)) := by rw [if_neg (Nat.succ_ne_zero k), Nat.add_sub_cancel, hx]
      cases hB : nFl c wt fo k with
      | false =>
        refine ⟨m', bIt_go (m1 := m') (ls2 := [some (aR 132), some (aI w), some (aI s), some (aI g), some (aI f), some (aI p), some (aI (mm : Int)), some (aI out), some (aI (k : Int)), some (aI (x : Int))]) (m2 := m') ?_ ?_ ?_, fun y hy => ?_, fun h hh => ?_, i2⟩
        · simp only [L_M_night_6c, nx_5, nm_5, b0, f1, d_rLoc1, d_rLoc2, d_rFld1, d_rFld2, d_eInt, d_eLdc, d_eLdw, d_eLoc, d_eFld, d_lFld, d_eAI, d_eAZ, d_eAB, d_lAL, d_eAD, d_eLen, d_eAdd, d_eSub, d_eMul, d_eAnd, d_eOr, d_eXor, d_eShl, d_eShr, d_eUsh, d_lAdd, d_lSub, d_lMul, d_lAnd, d_lOr, d_lXor, d_lShl, d_lShr, d_eDiv, d_eRem, d_eCmp, d_eI2B, d_eI2S, d_eL2I, d_lI2L, d_lInt, d_lLdc, d_lLoc, d_eIte, d_lIte, d_eMax, d_eMin, d_eAbs, d_eAbove, d_eBodies, d_cQ, d_cZ, d_cNot, d_cAnd, d_cOr, d_gNil, d_gI, d_gL, d_gR, d_gD, d_xV, d_xS, d_xN, d_xT, d_eCall, d_lCall, d_eCallC, d_sNop, d_sSet, d_sSetL, d_sSetR, d_sSetQ, d_sInc, d_sPutI, d_sPutZ, d_sPutL, d_sPutA, d_sPutAZ, d_sPutAB, d_sPutAL, d_sPutD, d_sOpF, d_sOpA, d_sCall, d_sCopy, d_sSeq, d_sIf, d_sBrk, d_sCnt, d_sRetV, d_sRet, d_sRetL, d_sLp, d_tDef, d_tCase, d_sSw, d_sSwB, bIt_d, itb_0, itb_1, itb_2, itb_r, its_0, sqk_0, sqk_1, sqk_2, sqk_r, swk_0, swk_1, swk_r, bfin_r, bfin_ite, Option.bind_some, Option.map_some, Option.bind_none, Option.map_none, bind_ite, map_ite, cop0, cop1, cop2, cop3, cop4, cop5, opv0, opv1, opv2, opv3, brc_i, brc_z, two_ne_one, false_or, getI, getR, getL, List.getElem?_cons_zero, List.getElem?_cons_succ, List.set_cons_zero, List.set_cons_succ, bnl, if_true, if_false, true_or, or_true, decide_eq_true_eq, Bool.not_eq_true', decide_eq_false_iff_not, Bool.not_true, Bool.not_false, Bool.true_eq_false, Bool.false_eq_true, ite_not, reduceIte, ite01_0, ite01_1, Decidable.not_not, ne_eq, not_true_eq_false, not_false_eq_true, Function.comp_apply, decide_not, Bool.not_not, Bool.not_eq_false', dc_t, dc_f, and_self, true_and, and_true, and_false, false_and, tnc]
        · rw [hB] at fE
          generalize (if k = 0 then x9 else some (aI (c 6 (k - 1)))) = xx at *
          generalize ((k : Nat) : Int) = kI at *
          generalize ((180 * x + mm : Nat) : Int) = dI at *
          generalize ((180 * x : Nat) : Int) = eI at *
          generalize ((mm : Nat) : Int) = mI at *
          generalize ((x : Nat) : Int) = xI at *
          simp only [L_M_night_6b, f2, tk, b1, b3, x8, x3, f7, td, b4, b2, d_rLoc1, d_rLoc2, d_rFld1, d_rFld2, d_eInt, d_eLdc, d_eLdw, d_eLoc, d_eFld, d_lFld, d_eAI, d_eAZ, d_eAB, d_lAL, d_eAD, d_eLen, d_eAdd, d_eSub, d_eMul, d_eAnd, d_eOr, d_eXor, d_eShl, d_eShr, d_eUsh, d_lAdd, d_lSub, d_lMul, d_lAnd, d_lOr, d_lXor, d_lShl, d_lShr, d_eDiv, d_eRem, d_eCmp, d_eI2B, d_eI2S, d_eL2I, d_lI2L, d_lInt, d_lLdc, d_lLoc, d_eIte, d_lIte, d_eMax, d_eMin, d_eAbs, d_eAbove, d_eBodies, d_cQ, d_cZ, d_cNot, d_cAnd, d_cOr, d_gNil, d_gI, d_gL, d_gR, d_gD, d_xV, d_xS, d_xN, d_xT, d_eCall, d_lCall, d_eCallC, d_sNop, d_sSet, d_sSetL, d_sSetR, d_sSetQ, d_sInc, d_sPutI, d_sPutZ, d_sPutL, d_sPutA, d_sPutAZ, d_sPutAB, d_sPutAL, d_sPutD, d_sOpF, d_sOpA, d_sCall, d_sCopy, d_sSeq, d_sIf, d_sBrk, d_sCnt, d_sRetV, d_sRet, d_sRetL, d_sLp, d_tDef, d_tCase, d_sSw, d_sSwB, bIt_d, itb_0, itb_1, itb_2, itb_r, its_0, sqk_0, sqk_1, sqk_2, sqk_r, swk_0, swk_1, swk_r, bfin_r, bfin_ite, Option.bind_some, Option.map_some, Option.bind_none, Option.map_none, bind_ite, map_ite, cop0, cop1, cop2, cop3, cop4, cop5, opv0, opv1, opv2, opv3, brc_i, brc_z, two_ne_one, false_or, getI, getR, getL, List.getElem?_cons_zero, List.getElem?_cons_succ, List.set_cons_zero, List.set_cons_succ, bnl, if_true, if_false, true_or, or_true, decide_eq_true_eq, Bool.not_eq_true', decide_eq_false_iff_not, Bool.not_true, Bool.not_false, Bool.true_eq_false, Bool.false_eq_true, ite_not, reduceIte, ite01_0, ite01_1, Decidable.not_not, ne_eq, not_true_eq_false, not_false_eq_true, Function.comp_apply, decide_not, Bool.not_not, Bool.not_eq_false', dc_t, dc_f, and_self, true_and, and_true, and_false, false_and, tnc]
          by_cases q1 : fo k < 0 <;> by_cases q2 : c 7 k ≤ wt x / c 2 x <;> simp [q1, q2] at fE ⊢
        · rw [e9]
          simp only [L_M_night_6s, f3, d_rLoc1, d_rLoc2, d_rFld1, d_rFld2, d_eInt, d_eLdc, d_eLdw, d_eLoc, d_eFld, d_lFld, d_eAI, d_eAZ, d_eAB, d_lAL, d_eAD, d_eLen, d_eAdd, d_eSub, d_eMul, d_eAnd, d_eOr, d_eXor, d_eShl, d_eShr, d_eUsh, d_lAdd, d_lSub, d_lMul, d_lAnd, d_lOr, d_lXor, d_lShl, d_lShr, d_eDiv, d_eRem, d_eCmp, d_eI2B, d_eI2S, d_eL2I, d_lI2L, d_lInt, d_lLdc, d_lLoc, d_eIte, d_lIte, d_eMax, d_eMin, d_eAbs, d_eAbove, d_eBodies, d_cQ, d_cZ, d_cNot, d_cAnd, d_cOr, d_gNil, d_gI, d_gL, d_gR, d_gD, d_xV, d_xS, d_xN, d_xT, d_eCall, d_lCall, d_eCallC, d_sNop, d_sSet, d_sSetL, d_sSetR, d_sSetQ, d_sInc, d_sPutI, d_sPutZ, d_sPutL, d_sPutA, d_sPutAZ, d_sPutAB, d_sPutAL, d_sPutD, d_sOpF, d_sOpA, d_sCall, d_sCopy, d_sSeq, d_sIf, d_sBrk, d_sCnt, d_sRetV, d_sRet, d_sRetL, d_sLp, d_tDef, d_tCase, d_sSw, d_sSwB, bIt_d, itb_0, itb_1, itb_2, itb_r, its_0, sqk_0, sqk_1, sqk_2, sqk_r, swk_0, swk_1, swk_r, bfin_r, bfin_ite, Option.bind_some, Option.map_some, Option.bind_none, Option.map_none, bind_ite, map_ite, cop0, cop1, cop2, cop3, cop4, cop5, opv0, opv1, opv2, opv3, brc_i, brc_z, two_ne_one, false_or, getI, getR, getL, List.getElem?_cons_zero, List.getElem?_cons_succ, List.set_cons_zero, List.set_cons_succ, bnl, if_true, if_false, true_or, or_true, decide_eq_true_eq, Bool.not_eq_true', decide_eq_false_iff_not, Bool.not_true, Bool.not_false, Bool.true_eq_false, Bool.false_eq_true, ite_not, reduceIte, ite01_0, ite01_1, Decidable.not_not, ne_eq, not_true_eq_false, not_false_eq_true, Function.comp_apply, decide_not, Bool.not_not, Bool.not_eq_false', dc_t, dc_f, and_self, true_and, and_true, and_false, false_and, tnc]
        · rw [i1 y hy, nSl_s, if_neg (fun q => by rw [hB] at q; cases q.1)]
        · rw [i3 h hh]
          by_cases q : h = k
          · rw [q, hB]; simp
          · simp only [lt_s_ne q]
      | true =>
        have fE2 := fE.symm.trans hB
        rw [Bool.and_eq_true, decide_eq_true_eq, decide_eq_true_eq] at fE2
        obtain ⟨q1, q2⟩ := fE2
        refine ⟨bwr (bwr m' 180 k (mm : Int)) 182 x (min 9 (nSl c (nFl c wt fo) sl k x + 1)), bIt_go (m1 := m') (ls2 := [some (aR 132), some (aI w), some (aI s), some (aI g), some (aI f), some (aI p), some (aI (mm : Int)), some (aI out), some (aI (k : Int)), some (aI (x : Int))]) (m2 := bwr (bwr m' 180 k (mm : Int)) 182 x (min 9 (nSl c (nFl c wt fo) sl k x + 1))) ?_ ?_ ?_, fun y hy => ?_, fun h hh => ?_, fun i a b => ?_⟩
        · simp only [L_M_night_6c, nx_5, nm_5, b0, f1, d_rLoc1, d_rLoc2, d_rFld1, d_rFld2, d_eInt, d_eLdc, d_eLdw, d_eLoc, d_eFld, d_lFld, d_eAI, d_eAZ, d_eAB, d_lAL, d_eAD, d_eLen, d_eAdd, d_eSub, d_eMul, d_eAnd, d_eOr, d_eXor, d_eShl, d_eShr, d_eUsh, d_lAdd, d_lSub, d_lMul, d_lAnd, d_lOr, d_lXor, d_lShl, d_lShr, d_eDiv, d_eRem, d_eCmp, d_eI2B, d_eI2S, d_eL2I, d_lI2L, d_lInt, d_lLdc, d_lLoc, d_eIte, d_lIte, d_eMax, d_eMin, d_eAbs, d_eAbove, d_eBodies, d_cQ, d_cZ, d_cNot, d_cAnd, d_cOr, d_gNil, d_gI, d_gL, d_gR, d_gD, d_xV, d_xS, d_xN, d_xT, d_eCall, d_lCall, d_eCallC, d_sNop, d_sSet, d_sSetL, d_sSetR, d_sSetQ, d_sInc, d_sPutI, d_sPutZ, d_sPutL, d_sPutA, d_sPutAZ, d_sPutAB, d_sPutAL, d_sPutD, d_sOpF, d_sOpA, d_sCall, d_sCopy, d_sSeq, d_sIf, d_sBrk, d_sCnt, d_sRetV, d_sRet, d_sRetL, d_sLp, d_tDef, d_tCase, d_sSw, d_sSwB, bIt_d, itb_0, itb_1, itb_2, itb_r, its_0, sqk_0, sqk_1, sqk_2, sqk_r, swk_0, swk_1, swk_r, bfin_r, bfin_ite, Option.bind_some, Option.map_some, Option.bind_none, Option.map_none, bind_ite, map_ite, cop0, cop1, cop2, cop3, cop4, cop5, opv0, opv1, opv2, opv3, brc_i, brc_z, two_ne_one, false_or, getI, getR, getL, List.getElem?_cons_zero, List.getElem?_cons_succ, List.set_cons_zero, List.set_cons_succ, bnl, if_true, if_false, true_or, or_true, decide_eq_true_eq, Bool.not_eq_true', decide_eq_false_iff_not, Bool.not_true, Bool.not_false, Bool.true_eq_false, Bool.false_eq_true, ite_not, reduceIte, ite01_0, ite01_1, Decidable.not_not, ne_eq, not_true_eq_false, not_false_eq_true, Function.comp_apply, decide_not, Bool.not_not, Bool.not_eq_false', dc_t, dc_f, and_self, true_and, and_true, and_false, false_and, tnc]
        · have z5 : (bwr m' 180 k (mm : Int)) 182 x = nSl c (nFl c wt fo) sl k x := by rw [bwr_ne _ _ (by decide)]; exact b5
          generalize (if k = 0 then x9 else some (aI (c 6 (k - 1)))) = xx at *
          generalize ((k : Nat) : Int) = kI at *
          generalize ((180 * x + mm : Nat) : Int) = dI at *
          generalize ((180 * x : Nat) : Int) = eI at *
          generalize ((mm : Nat) : Int) = mI at *
          generalize ((x : Nat) : Int) = xI at *
          simp only [L_M_night_6b, f2, tk, b1, b3, q1, x8, x3, f7, td, b4, b2, q2, f4, tx, z5, x1, sp_lesser, d_rLoc1, d_rLoc2, d_rFld1, d_rFld2, d_eInt, d_eLdc, d_eLdw, d_eLoc, d_eFld, d_lFld, d_eAI, d_eAZ, d_eAB, d_lAL, d_eAD, d_eLen, d_eAdd, d_eSub, d_eMul, d_eAnd, d_eOr, d_eXor, d_eShl, d_eShr, d_eUsh, d_lAdd, d_lSub, d_lMul, d_lAnd, d_lOr, d_lXor, d_lShl, d_lShr, d_eDiv, d_eRem, d_eCmp, d_eI2B, d_eI2S, d_eL2I, d_lI2L, d_lInt, d_lLdc, d_lLoc, d_eIte, d_lIte, d_eMax, d_eMin, d_eAbs, d_eAbove, d_eBodies, d_cQ, d_cZ, d_cNot, d_cAnd, d_cOr, d_gNil, d_gI, d_gL, d_gR, d_gD, d_xV, d_xS, d_xN, d_xT, d_eCall, d_lCall, d_eCallC, d_sNop, d_sSet, d_sSetL, d_sSetR, d_sSetQ, d_sInc, d_sPutI, d_sPutZ, d_sPutL, d_sPutA, d_sPutAZ, d_sPutAB, d_sPutAL, d_sPutD, d_sOpF, d_sOpA, d_sCall, d_sCopy, d_sSeq, d_sIf, d_sBrk, d_sCnt, d_sRetV, d_sRet, d_sRetL, d_sLp, d_tDef, d_tCase, d_sSw, d_sSwB, bIt_d, itb_0, itb_1, itb_2, itb_r, its_0, sqk_0, sqk_1, sqk_2, sqk_r, swk_0, swk_1, swk_r, bfin_r, bfin_ite, Option.bind_some, Option.map_some, Option.bind_none, Option.map_none, bind_ite, map_ite, cop0, cop1, cop2, cop3, cop4, cop5, opv0, opv1, opv2, opv3, brc_i, brc_z, two_ne_one, false_or, getI, getR, getL, List.getElem?_cons_zero, List.getElem?_cons_succ, List.set_cons_zero, List.set_cons_succ, bnl, if_true, if_false, true_or, or_true, decide_eq_true_eq, Bool.not_eq_true', decide_eq_false_iff_not, Bool.not_true, Bool.not_false, Bool.true_eq_false, Bool.false_eq_true, ite_not, reduceIte, ite01_0, ite01_1, Decidable.not_not, ne_eq, not_true_eq_false, not_false_eq_true, Function.comp_apply, decide_not, Bool.not_not, Bool.not_eq_false', dc_t, dc_f, and_self, true_and, and_true, and_false, false_and, tnc]
        · rw [e9]
          simp only [L_M_night_6s, f3, d_rLoc1, d_rLoc2, d_rFld1, d_rFld2, d_eInt, d_eLdc, d_eLdw, d_eLoc, d_eFld, d_lFld, d_eAI, d_eAZ, d_eAB, d_lAL, d_eAD, d_eLen, d_eAdd, d_eSub, d_eMul, d_eAnd, d_eOr, d_eXor, d_eShl, d_eShr, d_eUsh, d_lAdd, d_lSub, d_lMul, d_lAnd, d_lOr, d_lXor, d_lShl, d_lShr, d_eDiv, d_eRem, d_eCmp, d_eI2B, d_eI2S, d_eL2I, d_lI2L, d_lInt, d_lLdc, d_lLoc, d_eIte, d_lIte, d_eMax, d_eMin, d_eAbs, d_eAbove, d_eBodies, d_cQ, d_cZ, d_cNot, d_cAnd, d_cOr, d_gNil, d_gI, d_gL, d_gR, d_gD, d_xV, d_xS, d_xN, d_xT, d_eCall, d_lCall, d_eCallC, d_sNop, d_sSet, d_sSetL, d_sSetR, d_sSetQ, d_sInc, d_sPutI, d_sPutZ, d_sPutL, d_sPutA, d_sPutAZ, d_sPutAB, d_sPutAL, d_sPutD, d_sOpF, d_sOpA, d_sCall, d_sCopy, d_sSeq, d_sIf, d_sBrk, d_sCnt, d_sRetV, d_sRet, d_sRetL, d_sLp, d_tDef, d_tCase, d_sSw, d_sSwB, bIt_d, itb_0, itb_1, itb_2, itb_r, its_0, sqk_0, sqk_1, sqk_2, sqk_r, swk_0, swk_1, swk_r, bfin_r, bfin_ite, Option.bind_some, Option.map_some, Option.bind_none, Option.map_none, bind_ite, map_ite, cop0, cop1, cop2, cop3, cop4, cop5, opv0, opv1, opv2, opv3, brc_i, brc_z, two_ne_one, false_or, getI, getR, getL, List.getElem?_cons_zero, List.getElem?_cons_succ, List.set_cons_zero, List.set_cons_succ, bnl, if_true, if_false, true_or, or_true, decide_eq_true_eq, Bool.not_eq_true', decide_eq_false_iff_not, Bool.not_true, Bool.not_false, Bool.true_eq_false, Bool.false_eq_true, ite_not, reduceIte, ite01_0, ite01_1, Decidable.not_not, ne_eq, not_true_eq_false, not_false_eq_true, Function.comp_apply, decide_not, Bool.not_not, Bool.not_eq_false', dc_t, dc_f, and_self, true_and, and_true, and_false, false_and, tnc]
        · rw [bwr_if, nSl_s, tx0]
          by_cases q : y = x
          · rw [if_pos q, if_pos ⟨hB, q⟩, q]
          · rw [if_neg q, if_neg (fun z => q z.2), bwr_ne _ _ (by decide)]; exact i1 y hy
        · rw [bwr_ne _ _ (by decide), bwr_if]
          by_cases q : h = k
          · rw [if_pos q, q, if_pos ⟨Nat.lt_succ_self k, hB⟩]
          · rw [if_neg q, i3 h hh]; simp only [lt_s_ne q]
        · rw [bwr_ne _ _ a, bwr_ne _ _ b]; exact i2 i a b)
    (fun m' hI => by
      have b0 : m' 133 5 = (H : Int) := by rw [hI.2.2 _ (by decide) (by decide), hfr _ (by decide)]; exact nH
      have q : ¬ (H : Int) < (H : Int) := Int.lt_irrefl _
      refine bIt_ex ?_
      simp only [L_M_night_6c, nx_5, nm_5, b0, q, d_rLoc1, d_rLoc2, d_rFld1, d_rFld2, d_eInt, d_eLdc, d_eLdw, d_eLoc, d_eFld, d_lFld, d_eAI, d_eAZ, d_eAB, d_lAL, d_eAD, d_eLen, d_eAdd, d_eSub, d_eMul, d_eAnd, d_eOr, d_eXor, d_eShl, d_eShr, d_eUsh, d_lAdd, d_lSub, d_lMul, d_lAnd, d_lOr, d_lXor, d_lShl, d_lShr, d_eDiv, d_eRem, d_eCmp, d_eI2B, d_eI2S, d_eL2I, d_lI2L, d_lInt, d_lLdc, d_lLoc, d_eIte, d_lIte, d_eMax, d_eMin, d_eAbs, d_eAbove, d_eBodies, d_cQ, d_cZ, d_cNot, d_cAnd, d_cOr, d_gNil, d_gI, d_gL, d_gR, d_gD, d_xV, d_xS, d_xN, d_xT, d_eCall, d_lCall, d_eCallC, d_sNop, d_sSet, d_sSetL, d_sSetR, d_sSetQ, d_sInc, d_sPutI, d_sPutZ, d_sPutL, d_sPutA, d_sPutAZ, d_sPutAB, d_sPutAL, d_sPutD, d_sOpF, d_sOpA, d_sCall, d_sCopy, d_sSeq, d_sIf, d_sBrk, d_sCnt, d_sRetV, d_sRet, d_sRetL, d_sLp, d_tDef, d_tCase, d_sSw, d_sSwB, bIt_d, itb_0, itb_1, itb_2, itb_r, its_0, sqk_0, sqk_1, sqk_2, sqk_r, swk_0, swk_1, swk_r, bfin_r, bfin_ite, Option.bind_some, Option.map_some, Option.bind_none, Option.map_none, bind_ite, map_ite, cop0, cop1, cop2, cop3, cop4, cop5, opv0, opv1, opv2, opv3, brc_i, brc_z, two_ne_one, false_or, getI, getR, getL, List.getElem?_cons_zero, List.getElem?_cons_succ, List.set_cons_zero, List.set_cons_succ, bnl, if_true, if_false, true_or, or_true, decide_eq_true_eq, Bool.not_eq_true', decide_eq_false_iff_not, Bool.not_true, Bool.not_false, Bool.true_eq_false, Bool.false_eq_true, ite_not, reduceIte, ite01_0, ite01_1, Decidable.not_not, ne_eq, not_true_eq_false, not_false_eq_true, Function.comp_apply, decide_not, Bool.not_not, Bool.not_eq_false', dc_t, dc_f, and_self, true_and, and_true, and_false, false_and, tnc])
  obtain ⟨m2, e1, j1, j3, j2⟩ := hl
  exact ⟨m2, _, e1, j1, j3, j2⟩
