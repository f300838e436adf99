/-! ===== the survey where only what nights hang on agrees (rows of 71..91 again, over RelW) ===== -/
def RelNw (c r : bM) : Prop := (r 133 0 = c 1 7) ∧ (r 133 1 = c 1 8) ∧ (r 133 2 = c 1 9) ∧ (r 133 5 = c 1 10) ∧ (r 133 6 = c 17 9) ∧ (r 133 9 = c 37 14) ∧ (r 133 10 = c 37 15)
theorem RelNw_water {c r : bM} (h : RelNw c r) : r 133 0 = c 1 7 := h.1
theorem RelNw_gate {c r : bM} (h : RelNw c r) : r 133 1 = c 1 8 := h.2.1
theorem RelNw_gon {c r : bM} (h : RelNw c r) : r 133 2 = c 1 9 := h.2.2.1
theorem RelNw_houses {c r : bM} (h : RelNw c r) : r 133 5 = c 1 10 := h.2.2.2.1
theorem RelNw_rows {c r : bM} (h : RelNw c r) : r 133 6 = c 17 9 := h.2.2.2.2.1
theorem RelNw_things {c r : bM} (h : RelNw c r) : r 133 9 = c 37 14 := h.2.2.2.2.2.1
theorem RelNw_finds {c r : bM} (h : RelNw c r) : r 133 10 = c 37 15 := h.2.2.2.2.2.2
def RelW (c r : bM) : Prop := (RelNw c r) ∧ (RelV c r) ∧ (RelS c r) ∧ (RelF c r)
theorem RelW_n {c r : bM} (h : RelW c r) : RelNw c r := h.1
theorem RelW_v {c r : bM} (h : RelW c r) : RelV c r := h.2.1
theorem RelW_s {c r : bM} (h : RelW c r) : RelS c r := h.2.2.1
theorem RelW_f {c r : bM} (h : RelW c r) : RelF c r := h.2.2.2
theorem Rel_rw {c r : bM} (h : Rel c r) : RelW c r := by
  have hn := Rel_n h
  exact ⟨⟨RelN_water hn, RelN_gate hn, RelN_gon hn, RelN_houses hn, RelN_rows hn, RelN_things hn, RelN_finds hn⟩, Rel_v h, Rel_s h, Rel_f h⟩
theorem RelW_congr {c r c1 r1 : bM} (h : RelW c r) (hc : ∀ i, 1 ≤ i → i ≤ 49 → c1 i = c i) (hr : ∀ i, 133 ≤ i → i ≤ 161 → r1 i = r i) : RelW c1 r1 := by
  obtain ⟨hn, hv, hs, hf⟩ := h
  refine ⟨?_, RelV_congr hv (fun i a b => hc i (by omega) (by omega)) (fun i a b => hr i (by omega) (by omega)), RelS_congr hs (fun i a b => hc i (by omega) (by omega)) (fun i a b => hr i (by omega) (by omega)), RelF_congr hf (fun i a b => hc i (by omega) (by omega)) (fun i a b => hr i (by omega) (by omega))⟩
  unfold RelNw at hn ⊢
  rw [hr 133 (by decide) (by decide), hc 1 (by decide) (by decide), hc 17 (by decide) (by decide), hc 37 (by decide) (by decide)]
  exact hn
theorem rn_6w (n : Nat) {c : bM} (hV : RelV c c) (hN : RelNw c c) (H : Nat) (hH : c 1 10 = (H : Int)) {wt sl fo : Nat → Int} (hsl2 : ∀ x, x < 12 → 2 ≤ sl x ∧ sl x ≤ 9) (w s g f p : Int) (mm : Nat) (hmm : mm < 180) (out : Int) (x9 : Option bV) {m : bM} (hfr : fr179 c m) (hde : ∀ x, x < 12 → m 179 (180 * x + mm) = wt x / c 2 x) (hsl : ∀ x, x < 12 → m 182 x = sl x) (hfo : ∀ h, h < 10 → m 180 h = fo h) : ∃ m2 y9, L_M_night_6.1.2 (sem (n + 1)) [some (aR 132), some (aI w), some (aI s), some (aI g), some (aI f), some (aI p), some (aI (mm : Int)), some (aI out), some (aI 0), x9] m = some (.inl (0, [some (aR 132), some (aI w), some (aI s), some (aI g), some (aI f), some (aI p), some (aI (mm : Int)), some (aI out), some (aI (H : Int)), y9], m2)) ∧ (∀ x, x < 12 → m2 182 x = nSl c (nFl c wt fo) sl H x) ∧ (∀ h, h < 10 → m2 180 h = if h < H ∧ nFl c wt fo h = true then (mm : Int) else fo h) ∧ (∀ i, i ≠ 182 → i ≠ 180 → m2 i = m i) := by
  have hH10 := RelV_rhouses hV
  have hH2 : H ≤ 10 := by omega
  have hH1k : H < 1000 := by omega
  have nH : c 133 5 = (H : Int) := (RelNw_houses hN).trans hH
  unfold L_M_night_6
  rw [d_sLp]
  have hl := lp_m (c := L_M_night_6c.1.2 (sem (n + 1))) (b := L_M_night_6b.1.2 (sem (n + 1))) (s := L_M_night_6s.1.2 (sem (n + 1))) (m := m)
    (fun k => [some (aR 132), some (aI w), some (aI s), some (aI g), some (aI f), some (aI p), some (aI (mm : Int)), some (aI out), some (aI (k : Int)), if k = 0 then x9 else some (aI (c 6 (k - 1)))])
    (fun k m' => (∀ x, x < 12 → m' 182 x = nSl c (nFl c wt fo) sl k x) ∧ (∀ h, h < 10 → m' 180 h = if h < k ∧ nFl c wt fo h = true then (mm : Int) else fo h) ∧ (∀ i, i ≠ 182 → i ≠ 180 → m' i = m i)) H hH1k
    ⟨hsl, fun h hh => by rw [if_neg (fun q => Nat.not_lt_zero _ q.1)]; exact hfo h hh, fun _ _ _ => rfl⟩
    (fun k m' hk hI => by
      obtain ⟨i1, i3, i2⟩ := hI
      have hk10 : k < 10 := by omega
      have rr := RelV_rhAt hV k hk10
      obtain ⟨x, hx⟩ : ∃ x : Nat, c 6 k = (x : Int) := ⟨(c 6 k).toNat, by omega⟩
      have tx0 : (c 6 k).toNat = x := by rw [hx]; exact tnc x
      have hx12 : x < 12 := by omega
      have b0 : m' 133 5 = (H : Int) := by rw [i2 _ (by decide) (by decide), hfr _ (by decide)]; exact nH
      have b1 : m' 138 k = (x : Int) := by rw [i2 _ (by decide) (by decide), hfr _ (by decide), RelV_hAt hV k hk10]; exact hx
      have b2 : m' 139 k = c 7 k := by rw [i2 _ (by decide) (by decide), hfr _ (by decide)]; exact RelV_str hV k hk10
      have b3 : m' 180 k = fo k := by rw [i3 k hk10, if_neg (fun q => Nat.lt_irrefl _ q.1)]
      have b4 : m' 179 (180 * x + mm) = wt x / c 2 x := by rw [i2 _ (by decide) (by decide)]; exact hde x hx12
      have b5 : m' 182 x = nSl c (nFl c wt fo) sl k x := i1 x hx12
      have si := nSl_in c (nFl c wt fo) sl (hsl2 x hx12) k
      have f1 : (k : Int) < (H : Int) := by omega
      have f2 : 0 ≤ (k : Int) ∧ (k : Int) < ((10 : Nat) : Int) := by omega
      have f4 : 0 ≤ (x : Int) ∧ (x : Int) < ((12 : Nat) : Int) := by omega
      have f7 : 0 ≤ ((180 * x + mm : Nat) : Int) ∧ ((180 * x + mm : Nat) : Int) < ((2160 : Nat) : Int) := by omega
      have z1 : -2147483648 ≤ nSl c (nFl c wt fo) sl k x + 1 ∧ nSl c (nFl c wt fo) sl k x + 1 < 2147483648 := by omega
      have v2 : 180 * x + mm < 2147483648 := by omega
      have y0 : k < 2147483647 := by omega
      have fE : nFl c wt fo k = (decide (fo k < 0) && decide (c 7 k ≤ wt x / c 2 x)) := by unfold nFl; rw [tx0]
      have x8 : i32 (180 * (x : Int)) = ((180 * x : Nat) : Int) := by
        have := i32_of (z := ((180 * x : Nat) : Int)) (by omega) (by omega)
        rw [← this]; congr 1
      have x1 := i32_of z1.1 z1.2
      have x3 : i32 (((180 * x : Nat) : Int) + (mm : Int)) = ((180 * x + mm : Nat) : Int) := i32_add rfl v2
      have f3 := i32_s y0
      have tk := tnc k
      have tx := tnc x
      have td := tnc (180 * x + mm)
      have e9 : (if k + 1 = 0 then x9 else some (aI (c 6 (k + 1 - 1)))) = some (aI (x : Int)) := by rw [if_neg (Nat.succ_ne_zero k), Nat.add_sub_cancel, hx]
      cases hB : nFl c wt fo k with
      | false =>
        refine ⟨m', bIt_go (m1 := m') (ls2 := [some (aR 132), some (aI w), some (aI s), some (aI g), some (aI f), some (aI p), some (aI (mm : Int)), some (aI out), some (aI (k : Int)), some (aI (x : Int))]) (m2 := m') ?_ ?_ ?_, fun y hy => ?_, fun h hh => ?_, i2⟩
        · simp only [L_M_night_6c, nx_5, nm_5, b0, f1, d_rLoc1, d_rLoc2, d_rFld1, d_rFld2, d_eInt, d_eLdc, d_eLdw, d_eLoc, d_eFld, d_lFld, d_eAI, d_eAZ, d_eAB, d_lAL, d_eAD, d_eLen, d_eAdd, d_eSub, d_eMul, d_eAnd, d_eOr, d_eXor, d_eShl, d_eShr, d_eUsh, d_lAdd, d_lSub, d_lMul, d_lAnd, d_lOr, d_lXor, d_lShl, d_lShr, d_eDiv, d_eRem, d_eCmp, d_eI2B, d_eI2S, d_eL2I, d_lI2L, d_lInt, d_lLdc, d_lLoc, d_eIte, d_lIte, d_eMax, d_eMin, d_eAbs, d_eAbove, d_eBodies, d_cQ, d_cZ, d_cNot, d_cAnd, d_cOr, d_gNil, d_gI, d_gL, d_gR, d_gD, d_xV, d_xS, d_xN, d_xT, d_eCall, d_lCall, d_eCallC, d_sNop, d_sSet, d_sSetL, d_sSetR, d_sSetQ, d_sInc, d_sPutI, d_sPutZ, d_sPutL, d_sPutA, d_sPutAZ, d_sPutAB, d_sPutAL, d_sPutD, d_sOpF, d_sOpA, d_sCall, d_sCopy, d_sSeq, d_sIf, d_sBrk, d_sCnt, d_sRetV, d_sRet, d_sRetL, d_sLp, d_tDef, d_tCase, d_sSw, d_sSwB, bIt_d, itb_0, itb_1, itb_2, itb_r, its_0, sqk_0, sqk_1, sqk_2, sqk_r, swk_0, swk_1, swk_r, bfin_r, bfin_ite, Option.bind_some, Option.map_some, Option.bind_none, Option.map_none, bind_ite, map_ite, cop0, cop1, cop2, cop3, cop4, cop5, opv0, opv1, opv2, opv3, brc_i, brc_z, two_ne_one, false_or, getI, getR, getL, List.getElem?_cons_zero, List.getElem?_cons_succ, List.set_cons_zero, List.set_cons_succ, bnl, if_true, if_false, true_or, or_true, decide_eq_true_eq, Bool.not_eq_true', decide_eq_false_iff_not, Bool.not_true, Bool.not_false, Bool.true_eq_false, Bool.false_eq_true, ite_not, reduceIte, ite01_0, ite01_1, Decidable.not_not, ne_eq, not_true_eq_false, not_false_eq_true, Function.comp_apply, decide_not, Bool.not_not, Bool.not_eq_false', dc_t, dc_f, and_self, true_and, and_true, and_false, false_and, tnc]
        · rw [hB] at fE
          generalize (if k = 0 then x9 else some (aI (c 6 (k - 1)))) = xx at *
          generalize ((k : Nat) : Int) = kI at *
          generalize ((180 * x + mm : Nat) : Int) = dI at *
          generalize ((180 * x : Nat) : Int) = eI at *
          generalize ((mm : Nat) : Int) = mI at *
          generalize ((x : Nat) : Int) = xI at *
          simp only [L_M_night_6b, f2, tk, b1, b3, x8, x3, f7, td, b4, b2, d_rLoc1, d_rLoc2, d_rFld1, d_rFld2, d_eInt, d_eLdc, d_eLdw, d_eLoc, d_eFld, d_lFld, d_eAI, d_eAZ, d_eAB, d_lAL, d_eAD, d_eLen, d_eAdd, d_eSub, d_eMul, d_eAnd, d_eOr, d_eXor, d_eShl, d_eShr, d_eUsh, d_lAdd, d_lSub, d_lMul, d_lAnd, d_lOr, d_lXor, d_lShl, d_lShr, d_eDiv, d_eRem, d_eCmp, d_eI2B, d_eI2S, d_eL2I, d_lI2L, d_lInt, d_lLdc, d_lLoc, d_eIte, d_lIte, d_eMax, d_eMin, d_eAbs, d_eAbove, d_eBodies, d_cQ, d_cZ, d_cNot, d_cAnd, d_cOr, d_gNil, d_gI, d_gL, d_gR, d_gD, d_xV, d_xS, d_xN, d_xT, d_eCall, d_lCall, d_eCallC, d_sNop, d_sSet, d_sSetL, d_sSetR, d_sSetQ, d_sInc, d_sPutI, d_sPutZ, d_sPutL, d_sPutA, d_sPutAZ, d_sPutAB, d_sPutAL, d_sPutD, d_sOpF, d_sOpA, d_sCall, d_sCopy, d_sSeq, d_sIf, d_sBrk, d_sCnt, d_sRetV, d_sRet, d_sRetL, d_sLp, d_tDef, d_tCase, d_sSw, d_sSwB, bIt_d, itb_0, itb_1, itb_2, itb_r, its_0, sqk_0, sqk_1, sqk_2, sqk_r, swk_0, swk_1, swk_r, bfin_r, bfin_ite, Option.bind_some, Option.map_some, Option.bind_none, Option.map_none, bind_ite, map_ite, cop0, cop1, cop2, cop3, cop4, cop5, opv0, opv1, opv2, opv3, brc_i, brc_z, two_ne_one, false_or, getI, getR, getL, List.getElem?_cons_zero, List.getElem?_cons_succ, List.set_cons_zero, List.set_cons_succ, bnl, if_true, if_false, true_or, or_true, decide_eq_true_eq, Bool.not_eq_true', decide_eq_false_iff_not, Bool.not_true, Bool.not_false, Bool.true_eq_false, Bool.false_eq_true, ite_not, reduceIte, ite01_0, ite01_1, Decidable.not_not, ne_eq, not_true_eq_false, not_false_eq_true, Function.comp_apply, decide_not, Bool.not_not, Bool.not_eq_false', dc_t, dc_f, and_self, true_and, and_true, and_false, false_and, tnc]
          by_cases q1 : fo k < 0 <;> by_cases q2 : c 7 k ≤ wt x / c 2 x <;> simp [q1, q2] at fE ⊢
        · rw [e9]
          simp only [L_M_night_6s, f3, d_rLoc1, d_rLoc2, d_rFld1, d_rFld2, d_eInt, d_eLdc, d_eLdw, d_eLoc, d_eFld, d_lFld, d_eAI, d_eAZ, d_eAB, d_lAL, d_eAD, d_eLen, d_eAdd, d_eSub, d_eMul, d_eAnd, d_eOr, d_eXor, d_eShl, d_eShr, d_eUsh, d_lAdd, d_lSub, d_lMul, d_lAnd, d_lOr, d_lXor, d_lShl, d_lShr, d_eDiv, d_eRem, d_eCmp, d_eI2B, d_eI2S, d_eL2I, d_lI2L, d_lInt, d_lLdc, d_lLoc, d_eIte, d_lIte, d_eMax, d_eMin, d_eAbs, d_eAbove, d_eBodies, d_cQ, d_cZ, d_cNot, d_cAnd, d_cOr, d_gNil, d_gI, d_gL, d_gR, d_gD, d_xV, d_xS, d_xN, d_xT, d_eCall, d_lCall, d_eCallC, d_sNop, d_sSet, d_sSetL, d_sSetR, d_sSetQ, d_sInc, d_sPutI, d_sPutZ, d_sPutL, d_sPutA, d_sPutAZ, d_sPutAB, d_sPutAL, d_sPutD, d_sOpF, d_sOpA, d_sCall, d_sCopy, d_sSeq, d_sIf, d_sBrk, d_sCnt, d_sRetV, d_sRet, d_sRetL, d_sLp, d_tDef, d_tCase, d_sSw, d_sSwB, bIt_d, itb_0, itb_1, itb_2, itb_r, its_0, sqk_0, sqk_1, sqk_2, sqk_r, swk_0, swk_1, swk_r, bfin_r, bfin_ite, Option.bind_some, Option.map_some, Option.bind_none, Option.map_none, bind_ite, map_ite, cop0, cop1, cop2, cop3, cop4, cop5, opv0, opv1, opv2, opv3, brc_i, brc_z, two_ne_one, false_or, getI, getR, getL, List.getElem?_cons_zero, List.getElem?_cons_succ, List.set_cons_zero, List.set_cons_succ, bnl, if_true, if_false, true_or, or_true, decide_eq_true_eq, Bool.not_eq_true', decide_eq_false_iff_not, Bool.not_true, Bool.not_false, Bool.true_eq_false, Bool.false_eq_true, ite_not, reduceIte, ite01_0, ite01_1, Decidable.not_not, ne_eq, not_true_eq_false, not_false_eq_true, Function.comp_apply, decide_not, Bool.not_not, Bool.not_eq_false', dc_t, dc_f, and_self, true_and, and_true, and_false, false_and, tnc]
        · rw [i1 y hy, nSl_s, if_neg (fun q => by rw [hB] at q; cases q.1)]
        · rw [i3 h hh]
          by_cases q : h = k
          · rw [q, hB]; simp
          · simp only [lt_s_ne q]
      | true =>
        have fE2 := fE.symm.trans hB
        rw [Bool.and_eq_true, decide_eq_true_eq, decide_eq_true_eq] at fE2
        obtain ⟨q1, q2⟩ := fE2
        refine ⟨bwr (bwr m' 180 k (mm : Int)) 182 x (min 9 (nSl c (nFl c wt fo) sl k x + 1)), bIt_go (m1 := m') (ls2 := [some (aR 132), some (aI w), some (aI s), some (aI g), some (aI f), some (aI p), some (aI (mm : Int)), some (aI out), some (aI (k : Int)), some (aI (x : Int))]) (m2 := bwr (bwr m' 180 k (mm : Int)) 182 x (min 9 (nSl c (nFl c wt fo) sl k x + 1))) ?_ ?_ ?_, fun y hy => ?_, fun h hh => ?_, fun i a b => ?_⟩
        · simp only [L_M_night_6c, nx_5, nm_5, b0, f1, d_rLoc1, d_rLoc2, d_rFld1, d_rFld2, d_eInt, d_eLdc, d_eLdw, d_eLoc, d_eFld, d_lFld, d_eAI, d_eAZ, d_eAB, d_lAL, d_eAD, d_eLen, d_eAdd, d_eSub, d_eMul, d_eAnd, d_eOr, d_eXor, d_eShl, d_eShr, d_eUsh, d_lAdd, d_lSub, d_lMul, d_lAnd, d_lOr, d_lXor, d_lShl, d_lShr, d_eDiv, d_eRem, d_eCmp, d_eI2B, d_eI2S, d_eL2I, d_lI2L, d_lInt, d_lLdc, d_lLoc, d_eIte, d_lIte, d_eMax, d_eMin, d_eAbs, d_eAbove, d_eBodies, d_cQ, d_cZ, d_cNot, d_cAnd, d_cOr, d_gNil, d_gI, d_gL, d_gR, d_gD, d_xV, d_xS, d_xN, d_xT, d_eCall, d_lCall, d_eCallC, d_sNop, d_sSet, d_sSetL, d_sSetR, d_sSetQ, d_sInc, d_sPutI, d_sPutZ, d_sPutL, d_sPutA, d_sPutAZ, d_sPutAB, d_sPutAL, d_sPutD, d_sOpF, d_sOpA, d_sCall, d_sCopy, d_sSeq, d_sIf, d_sBrk, d_sCnt, d_sRetV, d_sRet, d_sRetL, d_sLp, d_tDef, d_tCase, d_sSw, d_sSwB, bIt_d, itb_0, itb_1, itb_2, itb_r, its_0, sqk_0, sqk_1, sqk_2, sqk_r, swk_0, swk_1, swk_r, bfin_r, bfin_ite, Option.bind_some, Option.map_some, Option.bind_none, Option.map_none, bind_ite, map_ite, cop0, cop1, cop2, cop3, cop4, cop5, opv0, opv1, opv2, opv3, brc_i, brc_z, two_ne_one, false_or, getI, getR, getL, List.getElem?_cons_zero, List.getElem?_cons_succ, List.set_cons_zero, List.set_cons_succ, bnl, if_true, if_false, true_or, or_true, decide_eq_true_eq, Bool.not_eq_true', decide_eq_false_iff_not, Bool.not_true, Bool.not_false, Bool.true_eq_false, Bool.false_eq_true, ite_not, reduceIte, ite01_0, ite01_1, Decidable.not_not, ne_eq, not_true_eq_false, not_false_eq_true, Function.comp_apply, decide_not, Bool.not_not, Bool.not_eq_false', dc_t, dc_f, and_self, true_and, and_true, and_false, false_and, tnc]
        · have z5 : (bwr m' 180 k (mm : Int)) 182 x = nSl c (nFl c wt fo) sl k x := by rw [bwr_ne _ _ (by decide)]; exact b5
          generalize (if k = 0 then x9 else some (aI (c 6 (k - 1)))) = xx at *
          generalize ((k : Nat) : Int) = kI at *
          generalize ((180 * x + mm : Nat) : Int) = dI at *
          generalize ((180 * x : Nat) : Int) = eI at *
          generalize ((mm : Nat) : Int) = mI at *
          generalize ((x : Nat) : Int) = xI at *
          simp only [L_M_night_6b, f2, tk, b1, b3, q1, x8, x3, f7, td, b4, b2, q2, f4, tx, z5, x1, sp_lesser, d_rLoc1, d_rLoc2, d_rFld1, d_rFld2, d_eInt, d_eLdc, d_eLdw, d_eLoc, d_eFld, d_lFld, d_eAI, d_eAZ, d_eAB, d_lAL, d_eAD, d_eLen, d_eAdd, d_eSub, d_eMul, d_eAnd, d_eOr, d_eXor, d_eShl, d_eShr, d_eUsh, d_lAdd, d_lSub, d_lMul, d_lAnd, d_lOr, d_lXor, d_lShl, d_lShr, d_eDiv, d_eRem, d_eCmp, d_eI2B, d_eI2S, d_eL2I, d_lI2L, d_lInt, d_lLdc, d_lLoc, d_eIte, d_lIte, d_eMax, d_eMin, d_eAbs, d_eAbove, d_eBodies, d_cQ, d_cZ, d_cNot, d_cAnd, d_cOr, d_gNil, d_gI, d_gL, d_gR, d_gD, d_xV, d_xS, d_xN, d_xT, d_eCall, d_lCall, d_eCallC, d_sNop, d_sSet, d_sSetL, d_sSetR, d_sSetQ, d_sInc, d_sPutI, d_sPutZ, d_sPutL, d_sPutA, d_sPutAZ, d_sPutAB, d_sPutAL, d_sPutD, d_sOpF, d_sOpA, d_sCall, d_sCopy, d_sSeq, d_sIf, d_sBrk, d_sCnt, d_sRetV, d_sRet, d_sRetL, d_sLp, d_tDef, d_tCase, d_sSw, d_sSwB, bIt_d, itb_0, itb_1, itb_2, itb_r, its_0, sqk_0, sqk_1, sqk_2, sqk_r, swk_0, swk_1, swk_r, bfin_r, bfin_ite, Option.bind_some, Option.map_some, Option.bind_none, Option.map_none, bind_ite, map_ite, cop0, cop1, cop2, cop3, cop4, cop5, opv0, opv1, opv2, opv3, brc_i, brc_z, two_ne_one, false_or, getI, getR, getL, List.getElem?_cons_zero, List.getElem?_cons_succ, List.set_cons_zero, List.set_cons_succ, bnl, if_true, if_false, true_or, or_true, decide_eq_true_eq, Bool.not_eq_true', decide_eq_false_iff_not, Bool.not_true, Bool.not_false, Bool.true_eq_false, Bool.false_eq_true, ite_not, reduceIte, ite01_0, ite01_1, Decidable.not_not, ne_eq, not_true_eq_false, not_false_eq_true, Function.comp_apply, decide_not, Bool.not_not, Bool.not_eq_false', dc_t, dc_f, and_self, true_and, and_true, and_false, false_and, tnc]
        · rw [e9]
          simp only [L_M_night_6s, f3, d_rLoc1, d_rLoc2, d_rFld1, d_rFld2, d_eInt, d_eLdc, d_eLdw, d_eLoc, d_eFld, d_lFld, d_eAI, d_eAZ, d_eAB, d_lAL, d_eAD, d_eLen, d_eAdd, d_eSub, d_eMul, d_eAnd, d_eOr, d_eXor, d_eShl, d_eShr, d_eUsh, d_lAdd, d_lSub, d_lMul, d_lAnd, d_lOr, d_lXor, d_lShl, d_lShr, d_eDiv, d_eRem, d_eCmp, d_eI2B, d_eI2S, d_eL2I, d_lI2L, d_lInt, d_lLdc, d_lLoc, d_eIte, d_lIte, d_eMax, d_eMin, d_eAbs, d_eAbove, d_eBodies, d_cQ, d_cZ, d_cNot, d_cAnd, d_cOr, d_gNil, d_gI, d_gL, d_gR, d_gD, d_xV, d_xS, d_xN, d_xT, d_eCall, d_lCall, d_eCallC, d_sNop, d_sSet, d_sSetL, d_sSetR, d_sSetQ, d_sInc, d_sPutI, d_sPutZ, d_sPutL, d_sPutA, d_sPutAZ, d_sPutAB, d_sPutAL, d_sPutD, d_sOpF, d_sOpA, d_sCall, d_sCopy, d_sSeq, d_sIf, d_sBrk, d_sCnt, d_sRetV, d_sRet, d_sRetL, d_sLp, d_tDef, d_tCase, d_sSw, d_sSwB, bIt_d, itb_0, itb_1, itb_2, itb_r, its_0, sqk_0, sqk_1, sqk_2, sqk_r, swk_0, swk_1, swk_r, bfin_r, bfin_ite, Option.bind_some, Option.map_some, Option.bind_none, Option.map_none, bind_ite, map_ite, cop0, cop1, cop2, cop3, cop4, cop5, opv0, opv1, opv2, opv3, brc_i, brc_z, two_ne_one, false_or, getI, getR, getL, List.getElem?_cons_zero, List.getElem?_cons_succ, List.set_cons_zero, List.set_cons_succ, bnl, if_true, if_false, true_or, or_true, decide_eq_true_eq, Bool.not_eq_true', decide_eq_false_iff_not, Bool.not_true, Bool.not_false, Bool.true_eq_false, Bool.false_eq_true, ite_not, reduceIte, ite01_0, ite01_1, Decidable.not_not, ne_eq, not_true_eq_false, not_false_eq_true, Function.comp_apply, decide_not, Bool.not_not, Bool.not_eq_false', dc_t, dc_f, and_self, true_and, and_true, and_false, false_and, tnc]
        · rw [bwr_if, nSl_s, tx0]
          by_cases q : y = x
          · rw [if_pos q, if_pos ⟨hB, q⟩, q]
          · rw [if_neg q, if_neg (fun z => q z.2), bwr_ne _ _ (by decide)]; exact i1 y hy
        · rw [bwr_ne _ _ (by decide), bwr_if]
          by_cases q : h = k
          · rw [if_pos q, q, if_pos ⟨Nat.lt_succ_self k, hB⟩]
          · rw [if_neg q, i3 h hh]; simp only [lt_s_ne q]
        · rw [bwr_ne _ _ a, bwr_ne _ _ b]; exact i2 i a b)
    (fun m' hI => by
      have b0 : m' 133 5 = (H : Int) := by rw [hI.2.2 _ (by decide) (by decide), hfr _ (by decide)]; exact nH
      have q : ¬ (H : Int) < (H : Int) := Int.lt_irrefl _
      refine bIt_ex ?_
      simp only [L_M_night_6c, nx_5, nm_5, b0, q, d_rLoc1, d_rLoc2, d_rFld1, d_rFld2, d_eInt, d_eLdc, d_eLdw, d_eLoc, d_eFld, d_lFld, d_eAI, d_eAZ, d_eAB, d_lAL, d_eAD, d_eLen, d_eAdd, d_eSub, d_eMul, d_eAnd, d_eOr, d_eXor, d_eShl, d_eShr, d_eUsh, d_lAdd, d_lSub, d_lMul, d_lAnd, d_lOr, d_lXor, d_lShl, d_lShr, d_eDiv, d_eRem, d_eCmp, d_eI2B, d_eI2S, d_eL2I, d_lI2L, d_lInt, d_lLdc, d_lLoc, d_eIte, d_lIte, d_eMax, d_eMin, d_eAbs, d_eAbove, d_eBodies, d_cQ, d_cZ, d_cNot, d_cAnd, d_cOr, d_gNil, d_gI, d_gL, d_gR, d_gD, d_xV, d_xS, d_xN, d_xT, d_eCall, d_lCall, d_eCallC, d_sNop, d_sSet, d_sSetL, d_sSetR, d_sSetQ, d_sInc, d_sPutI, d_sPutZ, d_sPutL, d_sPutA, d_sPutAZ, d_sPutAB, d_sPutAL, d_sPutD, d_sOpF, d_sOpA, d_sCall, d_sCopy, d_sSeq, d_sIf, d_sBrk, d_sCnt, d_sRetV, d_sRet, d_sRetL, d_sLp, d_tDef, d_tCase, d_sSw, d_sSwB, bIt_d, itb_0, itb_1, itb_2, itb_r, its_0, sqk_0, sqk_1, sqk_2, sqk_r, swk_0, swk_1, swk_r, bfin_r, bfin_ite, Option.bind_some, Option.map_some, Option.bind_none, Option.map_none, bind_ite, map_ite, cop0, cop1, cop2, cop3, cop4, cop5, opv0, opv1, opv2, opv3, brc_i, brc_z, two_ne_one, false_or, getI, getR, getL, List.getElem?_cons_zero, List.getElem?_cons_succ, List.set_cons_zero, List.set_cons_succ, bnl, if_true, if_false, true_or, or_true, decide_eq_true_eq, Bool.not_eq_true', decide_eq_false_iff_not, Bool.not_true, Bool.not_false, Bool.true_eq_false, Bool.false_eq_true, ite_not, reduceIte, ite01_0, ite01_1, Decidable.not_not, ne_eq, not_true_eq_false, not_false_eq_true, Function.comp_apply, decide_not, Bool.not_not, Bool.not_eq_false', dc_t, dc_f, and_self, true_and, and_true, and_false, false_and, tnc])
  obtain ⟨m2, e1, j1, j3, j2⟩ := hl
  exact ⟨m2, _, e1, j1, j3, j2⟩
theorem rn_minw (n : Nat) {c : bM} (hV : RelV c c) (hN : RelNw c c) {w : Nat} (hw : w < 3) {s g f : Int} (hs : 0 ≤ s ∧ s ≤ 29) (hg : 0 ≤ g ∧ g ≤ 99) {k : Nat} (hk : k < 180) {m : bM} (h : RI c w s g f k m) (x7 x8 x9 : Option bV) : ∃ m2 y7 y8 y9, L_M_night_3b.1.2 (sem (n + 1)) [some (aR 132), some (aI (w : Int)), some (aI s), some (aI g), some (aI f), some (aI (nS c w s g f k).1), some (aI (k : Int)), x7, x8, x9] m = some (.inl (0, [some (aR 132), some (aI (w : Int)), some (aI s), some (aI g), some (aI f), some (aI (nS c w s g f (k + 1)).1), some (aI (k : Int)), y7, y8, y9], m2)) ∧ RI c w s g f (k + 1) m2 := by
  obtain ⟨n1, n2, n3, n4, n5⟩ := h
  have hok := nS_ok hV hw (s := s) (f := f) hg.1 k
  have hok1 := nS_ok hV hw (s := s) (f := f) hg.1 (k + 1)
  have hp9 : (nS c w s g f k).1 ≤ 9999 := by
    have := NOK_s hok
    have := smN_nn 12 (NOK_w hok)
    omega
  have hp0 := NOK_p hok
  have hHs := RelV_rhouses hV
  obtain ⟨H, hH⟩ : ∃ H : Nat, c 1 10 = (H : Int) := ⟨(c 1 10).toNat, by omega⟩
  have eH : nHs c = H := by unfold nHs; rw [hH]; exact tnc H
  have hout := nOut_in hV hw (s := s) (f := f) (k := k) hg.1 hp0
  have h1 := nO1_in (f := f) (k := k) hg.1 hp0
  have h2 := nO2_in hV hw (s := s) (k := k) (p := (nS c w s g f k).1 - nO1 g f k (nS c w s g f k).1) (by omega)
  obtain ⟨out, hou⟩ : ∃ out, out = nOut c w s g f k (nS c w s g f k).1 := ⟨_, rfl⟩
  rw [← hou] at hout
  obtain ⟨m4, e4, a4, o4⟩ := rn_4 (n + 1) hok (w : Int) s g f ((nS c w s g f k).1 - out) (k : Int) out x9 (m := m) n2 n3
  have fr4 : fr179 c m4 := fun i hi => by rw [o4 i (by omega)]; exact n1 i hi
  have nn : ∀ x, x < 12 → 0 ≤ nWt (nS c w s g f k).2.1 (nS c w s g f k).2.2.1 out x ∧ nWt (nS c w s g f k).2.1 (nS c w s g f k).2.2.1 out x ≤ 20000 := fun x hx => by
    have := NOK_wt hok1 hx
    rw [hou]
    have e : (nS c w s g f (k + 1)).2.1 x = nWt (nS c w s g f k).2.1 (nS c w s g f k).2.2.1 (nOut c w s g f k (nS c w s g f k).1) x := rfl
    rw [← e]
    omega
  obtain ⟨m5, e5, a5, d5, k5, o5⟩ := rn_5 (n + 1) hV hok (w : Int) s g f ((nS c w s g f k).1 - out) k hk ⟨hout.1, by omega⟩ nn x9 fr4 (fun x hx => by rw [o4 _ (by decide)]; exact n2 x hx) a4
  have fr5 : fr179 c m5 := fun i hi => by rw [o5 i (by omega) (by omega)]; exact fr4 i hi
  have wE : nWt (nS c w s g f k).2.1 (nS c w s g f k).2.2.1 out = (nS c w s g f (k + 1)).2.1 := by rw [hou]; rfl
  rw [wE] at a5 d5
  obtain ⟨m6, y9, e6, a6, b6, o6⟩ := rn_6w n hV hN H hH (wt := (nS c w s g f (k + 1)).2.1) (sl := (nS c w s g f k).2.2.1) (fo := (nS c w s g f k).2.2.2) (NOK_l hok) (w : Int) s g f ((nS c w s g f k).1 - out) k hk out x9 fr5 d5 (fun x hx => by rw [o5 _ (by decide) (by decide), o4 _ (by decide)]; exact n3 x hx) (fun x hx => by rw [o5 _ (by decide) (by decide), o4 _ (by decide)]; exact n4 x hx)
  have pE : (nS c w s g f (k + 1)).1 = (nS c w s g f k).1 - out := by rw [hou]; rfl
  refine ⟨m6, some (aI out), some (aI (H : Int)), y9, ?_, ⟨?_, ?_, ?_, ?_, ?_⟩⟩
  · rw [pE]
    obtain ⟨a, ha⟩ : ∃ a, a = nO1 g f k (nS c w s g f k).1 := ⟨_, rfl⟩
    rw [← ha] at h1 h2
    obtain ⟨b, hb⟩ : ∃ b, b = nO2 c w s k ((nS c w s g f k).1 - a) := ⟨_, rfl⟩
    rw [← hb] at h2
    have hab : out = a + b := by rw [hou]; unfold nOut; rw [← ha, ← hb]
    generalize (nS c w s g f k).1 = p at *
    have ea : a = if f ≤ (k : Int) then min g p else 0 := ha
    have lw := RelV_rtabl hV w hw
    have tl : m 136 w = c 5 w := by rw [n1 _ (by decide)]; exact RelV_tabl hV w hw
    have f0 : 0 ≤ (w : Int) ∧ (w : Int) < ((3 : Nat) : Int) := by omega
    have z1 : -2147483648 ≤ p - a ∧ p - a < 2147483648 := by omega
    have z2 : -2147483648 ≤ p - a - b ∧ p - a - b < 2147483648 := by omega
    have z3 : -2147483648 ≤ a + b ∧ a + b < 2147483648 := by omega
    have z4 : -2147483648 ≤ c 5 w - 1 ∧ c 5 w - 1 < 2147483648 := by omega
    have eq1 : p - a - b = p - out := by omega
    by_cases q2 : s ≤ (k : Int)
    · have z5 : -2147483648 ≤ (k : Int) - s ∧ (k : Int) - s < 2147483648 := by omega
      obtain ⟨ix, hix⟩ : ∃ ix : Nat, ix = 8 * w + (min ((k : Int) - s) (c 5 w - 1)).toNat := ⟨_, rfl⟩
      have hix2 : ((8 * w : Nat) : Int) + min ((k : Int) - s) (c 5 w - 1) = (ix : Int) := by omega
      have hix3 : 0 ≤ (ix : Int) ∧ (ix : Int) < ((24 : Nat) : Int) := by omega
      have hix4 : ix < 24 := by omega
      have tb : m 137 ix = tNo c w ((k : Int) - s) := by
        rw [n1 _ (by decide), RelV_table hV ix hix4, hix]
        rfl
      have eb : min (p - a) (tNo c w ((k : Int) - s)) = b := by rw [hb]; unfold nO2; rw [if_pos q2]
      have hix5 : -2147483648 ≤ (ix : Int) ∧ (ix : Int) < 2147483648 := by omega
      have w4 : w < 4 := by omega
      have x1 := i32_of z1.1 z1.2
      have x2 := (i32_of z2.1 z2.2).trans eq1
      have x3 := (i32_of z3.1 z3.2).trans hab.symm
      have x4 := i32_of z4.1 z4.2
      have x5 := i32_of z5.1 z5.2
      have x6 := i32_8x w4
      have x7' : i32 (((8 * w : Nat) : Int) + min ((k : Int) - s) (c 5 w - 1)) = (ix : Int) := by rw [hix2]; exact i32_of hix5.1 hix5.2
      exact rn_b1 n m m4 m5 m6 (w : Int) s g f p (k : Int) out a b (c 5 w) (tNo c w ((k : Int) - s)) (ix : Int) ((8 * w : Nat) : Int) (H : Int) x7 x8 x9 y9 w ix ea.symm x1 q2 x5 f0 (tnc w) tl x4 x6 x7' hix3 (tnc ix) tb eb x2 x3 e4 e5 e6
    · have eb : b = 0 := by rw [hb]; unfold nO2; rw [if_neg q2]
      have hao : a = out := by omega
      have x1 := i32_of z1.1 z1.2
      rw [hao] at x1 ea
      exact rn_b2 n m m4 m5 m6 (w : Int) s g f p (k : Int) out (H : Int) x7 x8 x9 y9 ea.symm x1 q2 e4 e5 e6
  · exact fun i hi => by rw [o6 i (by omega) (by omega)]; exact fr5 i hi
  · exact fun x hx => by rw [o6 _ (by decide) (by decide)]; exact a5 x hx
  · exact fun x hx => by rw [a6 x hx, nS_l, eH]
  · intro x hx
    rw [b6 x hx, nS_f]
    unfold nFo
    rw [eH]
  · intro x hx j hj
    rw [o6 _ (by decide) (by decide)]
    by_cases q : j = k
    · rw [q, d5 x hx]; rfl
    · rw [k5 (180 * x + j) (fun y _ => by omega), o4 _ (by decide)]
      exact n5 x hx j (by omega)
theorem sp_M_nightw (n : Nat) {c : bM} (hV : RelV c c) (hN : RelNw c c) {w : Nat} (hw : w < 3) {s g f : Int} (hs : 0 ≤ s ∧ s ≤ 29) (hg : 0 ≤ g ∧ g ≤ 99) : ∃ m2, sem (n + 2) 209 [aR 132, aI (w : Int), aI s, aI g, aI f] c = some (m2, 0) ∧ RI c w s g f 180 m2 := by
  obtain ⟨m1, e1, a1, o1⟩ := rn_1 (n + 1) hV (w : Int) s g f (c 1 7) (fr179_r c)
  obtain ⟨m2, e2, a2, o2⟩ := rn_2 (n + 1) (w : Int) s g f (c 1 7) m1
  have ri0 : RI c w s g f 0 m2 := by
    refine ⟨fun i hi => ?_, fun x hx => ?_, fun x hx => ?_, fun x hx => ?_, fun x hx j hj => absurd hj (Nat.not_lt_zero j)⟩
    · rw [o2 i (by omega), o1 i (by omega) (by omega)]
    · rw [o2 _ (by decide)]; exact (a1 x hx).1
    · rw [o2 _ (by decide)]; exact (a1 x hx).2
    · exact a2 x hx
  have key := lp_wf (c := L_M_night_3c.1.2 (sem (n + 1))) (b := L_M_night_3b.1.2 (sem (n + 1))) (s := L_M_night_3s.1.2 (sem (n + 1)))
    (Q := fun _ m' => RI c w s g f 180 m') (R := fun _ _ => False)
    (fun d ls m' => ∃ (k : Nat) (x7 x8 x9 : Option bV), ls = [some (aR 132), some (aI (w : Int)), some (aI s), some (aI g), some (aI f), some (aI (nS c w s g f k).1), some (aI (k : Int)), x7, x8, x9] ∧ d = 180 - k ∧ k ≤ 180 ∧ RI c w s g f k m')
    (fun d ls m' hP => by
      obtain ⟨k, x7, x8, x9, rfl, hd, hk, hri⟩ := hP
      by_cases hkl : k = 180
      · right; left
        refine ⟨[some (aR 132), some (aI (w : Int)), some (aI s), some (aI g), some (aI f), some (aI (nS c w s g f k).1), some (aI (k : Int)), x7, x8, x9], m', bIt_ex ?_, by rw [← hkl]; exact hri⟩
        have q : ¬ (k : Int) < 180 := by omega
        generalize ((k : Nat) : Int) = kI at *
        simp only [L_M_night_3c, q, d_rLoc1, d_rLoc2, d_rFld1, d_rFld2, d_eInt, d_eLdc, d_eLdw, d_eLoc, d_eFld, d_lFld, d_eAI, d_eAZ, d_eAB, d_lAL, d_eAD, d_eLen, d_eAdd, d_eSub, d_eMul, d_eAnd, d_eOr, d_eXor, d_eShl, d_eShr, d_eUsh, d_lAdd, d_lSub, d_lMul, d_lAnd, d_lOr, d_lXor, d_lShl, d_lShr, d_eDiv, d_eRem, d_eCmp, d_eI2B, d_eI2S, d_eL2I, d_lI2L, d_lInt, d_lLdc, d_lLoc, d_eIte, d_lIte, d_eMax, d_eMin, d_eAbs, d_eAbove, d_eBodies, d_cQ, d_cZ, d_cNot, d_cAnd, d_cOr, d_gNil, d_gI, d_gL, d_gR, d_gD, d_xV, d_xS, d_xN, d_xT, d_eCall, d_lCall, d_eCallC, d_sNop, d_sSet, d_sSetL, d_sSetR, d_sSetQ, d_sInc, d_sPutI, d_sPutZ, d_sPutL, d_sPutA, d_sPutAZ, d_sPutAB, d_sPutAL, d_sPutD, d_sOpF, d_sOpA, d_sCall, d_sCopy, d_sSeq, d_sIf, d_sBrk, d_sCnt, d_sRetV, d_sRet, d_sRetL, d_sLp, d_tDef, d_tCase, d_sSw, d_sSwB, bIt_d, itb_0, itb_1, itb_2, itb_r, its_0, sqk_0, sqk_1, sqk_2, sqk_r, swk_0, swk_1, swk_r, bfin_r, bfin_ite, Option.bind_some, Option.map_some, Option.bind_none, Option.map_none, bind_ite, map_ite, cop0, cop1, cop2, cop3, cop4, cop5, opv0, opv1, opv2, opv3, brc_i, brc_z, two_ne_one, false_or, getI, getR, getL, List.getElem?_cons_zero, List.getElem?_cons_succ, List.set_cons_zero, List.set_cons_succ, bnl, if_true, if_false, true_or, or_true, decide_eq_true_eq, Bool.not_eq_true', decide_eq_false_iff_not, Bool.not_true, Bool.not_false, Bool.true_eq_false, Bool.false_eq_true, ite_not, reduceIte, ite01_0, ite01_1, Decidable.not_not, ne_eq, not_true_eq_false, not_false_eq_true, Function.comp_apply, decide_not, Bool.not_not, Bool.not_eq_false', dc_t, dc_f, and_self, true_and, and_true, and_false, false_and, tnc]
      · left
        have hk2 : k < 180 := by omega
        have q : (k : Int) < 180 := by omega
        have y0 : k < 2147483647 := by omega
        have dl : 180 - (k + 1) < d := by omega
        obtain ⟨mf, y7, y8, y9, eB, riF⟩ := rn_minw n hV hN hw hs hg hk2 hri x7 x8 x9
        have f3 := i32_s y0
        refine ⟨180 - (k + 1), [some (aR 132), some (aI (w : Int)), some (aI s), some (aI g), some (aI f), some (aI (nS c w s g f (k + 1)).1), some (aI ((k + 1 : Nat) : Int)), y7, y8, y9], mf, dl, bIt_go (m1 := m') (ls2 := [some (aR 132), some (aI (w : Int)), some (aI s), some (aI g), some (aI f), some (aI (nS c w s g f (k + 1)).1), some (aI (k : Int)), y7, y8, y9]) (m2 := mf) ?_ eB ?_, k + 1, y7, y8, y9, rfl, rfl, hk2, riF⟩
        · generalize ((k : Nat) : Int) = kI at *
          simp only [L_M_night_3c, q, d_rLoc1, d_rLoc2, d_rFld1, d_rFld2, d_eInt, d_eLdc, d_eLdw, d_eLoc, d_eFld, d_lFld, d_eAI, d_eAZ, d_eAB, d_lAL, d_eAD, d_eLen, d_eAdd, d_eSub, d_eMul, d_eAnd, d_eOr, d_eXor, d_eShl, d_eShr, d_eUsh, d_lAdd, d_lSub, d_lMul, d_lAnd, d_lOr, d_lXor, d_lShl, d_lShr, d_eDiv, d_eRem, d_eCmp, d_eI2B, d_eI2S, d_eL2I, d_lI2L, d_lInt, d_lLdc, d_lLoc, d_eIte, d_lIte, d_eMax, d_eMin, d_eAbs, d_eAbove, d_eBodies, d_cQ, d_cZ, d_cNot, d_cAnd, d_cOr, d_gNil, d_gI, d_gL, d_gR, d_gD, d_xV, d_xS, d_xN, d_xT, d_eCall, d_lCall, d_eCallC, d_sNop, d_sSet, d_sSetL, d_sSetR, d_sSetQ, d_sInc, d_sPutI, d_sPutZ, d_sPutL, d_sPutA, d_sPutAZ, d_sPutAB, d_sPutAL, d_sPutD, d_sOpF, d_sOpA, d_sCall, d_sCopy, d_sSeq, d_sIf, d_sBrk, d_sCnt, d_sRetV, d_sRet, d_sRetL, d_sLp, d_tDef, d_tCase, d_sSw, d_sSwB, bIt_d, itb_0, itb_1, itb_2, itb_r, its_0, sqk_0, sqk_1, sqk_2, sqk_r, swk_0, swk_1, swk_r, bfin_r, bfin_ite, Option.bind_some, Option.map_some, Option.bind_none, Option.map_none, bind_ite, map_ite, cop0, cop1, cop2, cop3, cop4, cop5, opv0, opv1, opv2, opv3, brc_i, brc_z, two_ne_one, false_or, getI, getR, getL, List.getElem?_cons_zero, List.getElem?_cons_succ, List.set_cons_zero, List.set_cons_succ, bnl, if_true, if_false, true_or, or_true, decide_eq_true_eq, Bool.not_eq_true', decide_eq_false_iff_not, Bool.not_true, Bool.not_false, Bool.true_eq_false, Bool.false_eq_true, ite_not, reduceIte, ite01_0, ite01_1, Decidable.not_not, ne_eq, not_true_eq_false, not_false_eq_true, Function.comp_apply, decide_not, Bool.not_not, Bool.not_eq_false', dc_t, dc_f, and_self, true_and, and_true, and_false, false_and, tnc]
        · simp only [L_M_night_3s, f3, d_rLoc1, d_rLoc2, d_rFld1, d_rFld2, d_eInt, d_eLdc, d_eLdw, d_eLoc, d_eFld, d_lFld, d_eAI, d_eAZ, d_eAB, d_lAL, d_eAD, d_eLen, d_eAdd, d_eSub, d_eMul, d_eAnd, d_eOr, d_eXor, d_eShl, d_eShr, d_eUsh, d_lAdd, d_lSub, d_lMul, d_lAnd, d_lOr, d_lXor, d_lShl, d_lShr, d_eDiv, d_eRem, d_eCmp, d_eI2B, d_eI2S, d_eL2I, d_lI2L, d_lInt, d_lLdc, d_lLoc, d_eIte, d_lIte, d_eMax, d_eMin, d_eAbs, d_eAbove, d_eBodies, d_cQ, d_cZ, d_cNot, d_cAnd, d_cOr, d_gNil, d_gI, d_gL, d_gR, d_gD, d_xV, d_xS, d_xN, d_xT, d_eCall, d_lCall, d_eCallC, d_sNop, d_sSet, d_sSetL, d_sSetR, d_sSetQ, d_sInc, d_sPutI, d_sPutZ, d_sPutL, d_sPutA, d_sPutAZ, d_sPutAB, d_sPutAL, d_sPutD, d_sOpF, d_sOpA, d_sCall, d_sCopy, d_sSeq, d_sIf, d_sBrk, d_sCnt, d_sRetV, d_sRet, d_sRetL, d_sLp, d_tDef, d_tCase, d_sSw, d_sSwB, bIt_d, itb_0, itb_1, itb_2, itb_r, its_0, sqk_0, sqk_1, sqk_2, sqk_r, swk_0, swk_1, swk_r, bfin_r, bfin_ite, Option.bind_some, Option.map_some, Option.bind_none, Option.map_none, bind_ite, map_ite, cop0, cop1, cop2, cop3, cop4, cop5, opv0, opv1, opv2, opv3, brc_i, brc_z, two_ne_one, false_or, getI, getR, getL, List.getElem?_cons_zero, List.getElem?_cons_succ, List.set_cons_zero, List.set_cons_succ, bnl, if_true, if_false, true_or, or_true, decide_eq_true_eq, Bool.not_eq_true', decide_eq_false_iff_not, Bool.not_true, Bool.not_false, Bool.true_eq_false, Bool.false_eq_true, ite_not, reduceIte, ite01_0, ite01_1, Decidable.not_not, ne_eq, not_true_eq_false, not_false_eq_true, Function.comp_apply, decide_not, Bool.not_not, Bool.not_eq_false', dc_t, dc_f, and_self, true_and, and_true, and_false, false_and, tnc]) bF 180 [some (aR 132), some (aI (w : Int)), some (aI s), some (aI g), some (aI f), some (aI (c 1 7)), some (aI 0), none, none, none] m2 (by show 180 < 1000; decide) ⟨0, none, none, none, rfl, rfl, Nat.zero_le _, ri0⟩
  rcases key with ⟨ls', m3, e3, hri3⟩ | ⟨_, _, _, hx⟩
  · refine ⟨m3, ?_, hri3⟩
    have e4 : L_M_night_3.1.2 (sem (n + 1)) [some (aR 132), some (aI (w : Int)), some (aI s), some (aI g), some (aI f), some (aI (c 1 7)), some (aI 0), none, none, none] m2 = some (.inl (0, ls', m3)) := by
      unfold L_M_night_3
      rw [d_sLp]
      exact e3
    have nw := RelNw_water hN
    rw [st_M_night]
    unfold B_M_night
    revert e1 e2 e4
    generalize L_M_night_1 = LL1
    generalize L_M_night_2 = LL2
    generalize L_M_night_3 = LL3
    intro e1 e2 e4
    generalize ((w : Nat) : Int) = wI at *
    simp only [kr_M_night, nx_0, nm_0, nw, e1, e2, e4, d_rLoc1, d_rLoc2, d_rFld1, d_rFld2, d_eInt, d_eLdc, d_eLdw, d_eLoc, d_eFld, d_lFld, d_eAI, d_eAZ, d_eAB, d_lAL, d_eAD, d_eLen, d_eAdd, d_eSub, d_eMul, d_eAnd, d_eOr, d_eXor, d_eShl, d_eShr, d_eUsh, d_lAdd, d_lSub, d_lMul, d_lAnd, d_lOr, d_lXor, d_lShl, d_lShr, d_eDiv, d_eRem, d_eCmp, d_eI2B, d_eI2S, d_eL2I, d_lI2L, d_lInt, d_lLdc, d_lLoc, d_eIte, d_lIte, d_eMax, d_eMin, d_eAbs, d_eAbove, d_eBodies, d_cQ, d_cZ, d_cNot, d_cAnd, d_cOr, d_gNil, d_gI, d_gL, d_gR, d_gD, d_xV, d_xS, d_xN, d_xT, d_eCall, d_lCall, d_eCallC, d_sNop, d_sSet, d_sSetL, d_sSetR, d_sSetQ, d_sInc, d_sPutI, d_sPutZ, d_sPutL, d_sPutA, d_sPutAZ, d_sPutAB, d_sPutAL, d_sPutD, d_sOpF, d_sOpA, d_sCall, d_sCopy, d_sSeq, d_sIf, d_sBrk, d_sCnt, d_sRetV, d_sRet, d_sRetL, d_sLp, d_tDef, d_tCase, d_sSw, d_sSwB, bIt_d, itb_0, itb_1, itb_2, itb_r, its_0, sqk_0, sqk_1, sqk_2, sqk_r, swk_0, swk_1, swk_r, bfin_r, bfin_ite, Option.bind_some, Option.map_some, Option.bind_none, Option.map_none, bind_ite, map_ite, cop0, cop1, cop2, cop3, cop4, cop5, opv0, opv1, opv2, opv3, brc_i, brc_z, two_ne_one, false_or, getI, getR, getL, List.getElem?_cons_zero, List.getElem?_cons_succ, List.set_cons_zero, List.set_cons_succ, bnl, if_true, if_false, true_or, or_true, decide_eq_true_eq, Bool.not_eq_true', decide_eq_false_iff_not, Bool.not_true, Bool.not_false, Bool.true_eq_false, Bool.false_eq_true, ite_not, reduceIte, ite01_0, ite01_1, Decidable.not_not, ne_eq, not_true_eq_false, not_false_eq_true, Function.comp_apply, decide_not, Bool.not_not, Bool.not_eq_false', dc_t, dc_f, and_self, true_and, and_true, and_false, false_and, tnc]
  · exact hx.elim
theorem sp_nightAsIsw (n : Nat) {c : bM} (hR : RelW c c) {w : Nat} (hw : w < 3) {s : Int} (hs : 0 ≤ s ∧ s ≤ 29) : ∃ m2, sem (n + 3) 206 [aR 132, aI (w : Int), aI s] c = some (m2, 0) ∧ RI c w s (c 1 8) (c 1 9) 180 m2 := by
  have hV := RelW_v hR
  have hN := RelW_n hR
  obtain ⟨m2, e1, e2⟩ := sp_M_nightw n hV hN hw (f := c 1 9) hs (RelV_rgate hV)
  refine ⟨m2, ?_, e2⟩
  have g1 := RelNw_gate hN
  have g2 := RelNw_gon hN
  rw [st_M_nightAsIs]
  generalize ((w : Nat) : Int) = wI at *
  simp only [B_M_nightAsIs, kr_M_nightAsIs, nx_1, nm_1, nx_2, nm_2, g1, g2, e1, d_rLoc1, d_rLoc2, d_rFld1, d_rFld2, d_eInt, d_eLdc, d_eLdw, d_eLoc, d_eFld, d_lFld, d_eAI, d_eAZ, d_eAB, d_lAL, d_eAD, d_eLen, d_eAdd, d_eSub, d_eMul, d_eAnd, d_eOr, d_eXor, d_eShl, d_eShr, d_eUsh, d_lAdd, d_lSub, d_lMul, d_lAnd, d_lOr, d_lXor, d_lShl, d_lShr, d_eDiv, d_eRem, d_eCmp, d_eI2B, d_eI2S, d_eL2I, d_lI2L, d_lInt, d_lLdc, d_lLoc, d_eIte, d_lIte, d_eMax, d_eMin, d_eAbs, d_eAbove, d_eBodies, d_cQ, d_cZ, d_cNot, d_cAnd, d_cOr, d_gNil, d_gI, d_gL, d_gR, d_gD, d_xV, d_xS, d_xN, d_xT, d_eCall, d_lCall, d_eCallC, d_sNop, d_sSet, d_sSetL, d_sSetR, d_sSetQ, d_sInc, d_sPutI, d_sPutZ, d_sPutL, d_sPutA, d_sPutAZ, d_sPutAB, d_sPutAL, d_sPutD, d_sOpF, d_sOpA, d_sCall, d_sCopy, d_sSeq, d_sIf, d_sBrk, d_sCnt, d_sRetV, d_sRet, d_sRetL, d_sLp, d_tDef, d_tCase, d_sSw, d_sSwB, bIt_d, itb_0, itb_1, itb_2, itb_r, its_0, sqk_0, sqk_1, sqk_2, sqk_r, swk_0, swk_1, swk_r, bfin_r, bfin_ite, Option.bind_some, Option.map_some, Option.bind_none, Option.map_none, bind_ite, map_ite, cop0, cop1, cop2, cop3, cop4, cop5, opv0, opv1, opv2, opv3, brc_i, brc_z, two_ne_one, false_or, getI, getR, getL, List.getElem?_cons_zero, List.getElem?_cons_succ, List.set_cons_zero, List.set_cons_succ, bnl, if_true, if_false, true_or, or_true, decide_eq_true_eq, Bool.not_eq_true', decide_eq_false_iff_not, Bool.not_true, Bool.not_false, Bool.true_eq_false, Bool.false_eq_true, ite_not, reduceIte, ite01_0, ite01_1, Decidable.not_not, ne_eq, not_true_eq_false, not_false_eq_true, Function.comp_apply, decide_not, Bool.not_not, Bool.not_eq_false', dc_t, dc_f, and_self, true_and, and_true, and_false, false_and, tnc]
theorem s4_tw (n : Nat) {c m : bM} (hR : RelW c c) {k : Nat} (hk : k < 90) (h : SI c k m) (y2 y3 y4 : Option bV) : ∃ m2 z2 z3 z4, L_M_survey_4b.1.2 (sem (n + 3)) [some (aR 132), some (aI (k : Int)), y2, y3, y4] m = some (.inl (0, [some (aR 132), some (aI (k : Int)), z2, z3, z4], m2)) ∧ SI c (k + 1) m2 := by
  have hV := RelW_v hR
  have hF := RelW_f hR
  have hS := RelW_s hR
  have hN := RelW_n hR
  have fr := SI_fr h
  have rH := RelV_rhouses hV
  have rT := RelF_rthings hF
  have rF := RelF_rfinds hF
  have rR := RelS_rrows hS
  obtain ⟨H, hH⟩ : ∃ H : Nat, c 1 10 = (H : Int) := ⟨(c 1 10).toNat, by omega⟩
  obtain ⟨T, hT⟩ : ∃ T : Nat, c 37 14 = (T : Int) := ⟨(c 37 14).toNat, by omega⟩
  obtain ⟨Fi, hFi⟩ : ∃ Fi : Nat, c 37 15 = (Fi : Int) := ⟨(c 37 15).toNat, by omega⟩
  obtain ⟨R, hRR⟩ : ∃ R : Nat, c 17 9 = (R : Int) := ⟨(c 17 9).toNat, by omega⟩
  have eH : nHs c = H := by unfold nHs; rw [hH]; exact tnc H
  have eT : nTh c = T := nTh_c hT
  have eF : (c 37 15).toNat = Fi := by rw [hFi]; exact tnc Fi
  have eR : nRw c = R := by unfold nRw; rw [hRR]; exact tnc R
  have H2 : H ≤ 10 := by omega
  have T2 : T ≤ 12 := by omega
  have F2 : Fi ≤ 12 := by omega
  have R2 : R ≤ 16 := by omega
  have w3 : k / 30 < 3 := by omega
  have s29 : 0 ≤ ((k % 30 : Nat) : Int) ∧ ((k % 30 : Nat) : Int) ≤ 29 := by omega
  have hRm : RelW m m := RelW_congr hR (fun i a b => fr.1 i (by omega)) (fun i a b => fr.1 i (by omega))
  obtain ⟨m1, e1, ri⟩ := sp_nightAsIsw n hRm w3 s29
  have fr1 : fr179 m m1 := RI_fr ri
  have aV : agV m c := fun i a b => fr.1 i (by omega)
  have rq : RQ c k m1 := ⟨fun x hx j hj => by
      have := RI_deep ri x hx j hj
      rw [nD_congr aV, fr.1 1 (by decide)] at this
      exact this, fun x hx => by
      have := RI_fall ri x hx
      rw [nS_congr aV, fr.1 1 (by decide)] at this
      exact this⟩
  have c1 : ∀ i, (133 ≤ i ∧ i < 179) → m1 i = c i := fun i hi => by rw [fr1 i (by omega), fr.1 i (by omega)]
  have hS1 : RelS c m1 := RelS_congr hS (fun _ _ _ => rfl) (fun i a b => c1 i (by omega))
  have n6 : m1 133 6 = (R : Int) := by rw [c1 _ (by decide), RelNw_rows hN]; exact hRR
  have n5 : m1 133 5 = (H : Int) := by rw [c1 _ (by decide), RelNw_houses hN]; exact hH
  have n9 : m1 133 9 = (T : Int) := by rw [c1 _ (by decide), RelNw_things hN]; exact hT
  have n10 : m1 133 10 = (Fi : Int) := by rw [c1 _ (by decide), RelNw_finds hN]; exact hFi
  have e2 := s5_l n hS1 hk rq R n6 hRR R2
  have f2 := q_f2 hk
  have frp : ∀ v, frS c (bwr m1 184 k v) := fun v => frS_trans fr ⟨fun i hi => by rw [bwr_ne _ _ (by omega)]; exact fr1 i (by omega), fun j _ _ => by rw [bwr_ne _ _ (by decide), fr1 _ (by decide)]⟩
  have pop : ∀ v, v = (if poss c k = true then 1 else 0) → ∀ q, q < k + 1 → bwr m1 184 k v 184 q = if poss c q = true then 1 else 0 := fun v hv q hq => by
    rw [bwr_if]
    by_cases z : q = k
    · rw [if_pos z, z, hv]
    · rw [if_neg z, fr1 _ (by decide)]
      exact SI_po h q (by omega)
  have P0 := poss_0 (c := c) (q := k)
  rw [eR] at P0
  by_cases z0 : cnt (qAg c k) R = 0
  · have hp : poss c k = true := P0.2 z0
    rw [z0] at e2
    have o2 : ∀ i, i ≠ 184 → bwr m1 184 k 1 i = m1 i := fun i hi => bwr_ne _ _ hi
    obtain ⟨m3, e3, ci⟩ := sp_counts (n + 1) (c := c) (m := bwr m1 184 k 1) (RelV_congr hV (fun _ _ _ => rfl) (fun i a b => by rw [o2 i (by omega)]; exact c1 i (by omega))) (RelF_congr hF (fun _ _ _ => rfl) (fun i a b => by rw [o2 i (by omega)]; exact c1 i (by omega))) hk (RQ_c rq (o2 _ (by decide)) (o2 _ (by decide))) Fi T H (by rw [o2 _ (by decide)]; exact n10) F2 (by rw [o2 _ (by decide)]; exact n9) T2 (by rw [o2 _ (by decide)]; exact n5) H2 eH (whoK c k) (fun f hf => by
      rw [o2 _ (by decide), fr1 _ (by decide), SI_wh h f (by rw [eF]; exact hf), eT]) (fun x hx => by
      rw [o2 _ (by decide), fr1 _ (by decide), SI_fa h x hx]
      exact cnt_b (by omega)) (by
      rw [o2 _ (by decide), fr1 _ (by decide), SI_ma h]
      exact cnt_b (by omega))
    refine ⟨m3, _, _, _, s4_0 n m m1 m3 _ _ _ _ _ k y2 y3 y4 (q_x1 hk) (q_x2 hk) f2 (tnc k) e1 e2 e3, ?_, ?_, ?_, ?_, ?_, ?_, ?_, ?_⟩
    · exact frS_trans (frp 1) ⟨fun i hi => CI_oth ci i (by omega) (by omega) (by omega) (by omega), fun j _ a => CI_fld ci j a⟩
    · rw [CI_oth ci _ (by decide) (by decide) (by decide) (by decide)]
      exact pop 1 (by rw [if_pos hp])
    · rw [CI_mny ci, o2 _ (by decide), fr1 _ (by decide), SI_ma h, cnt_t hp]; rfl
    · intro j hj
      rw [CI_oth ci _ (by decide) (by decide) (by decide) (by decide), o2 _ (by decide), fr1 _ (by decide), SI_ha h j hj, cnt_f (p := fun q => alo c q j)]
      rw [alo_0 (by rw [eR, z0]; decide) j hj]; decide
    · intro x hx
      rw [CI_fll ci x hx, o2 _ (by decide), fr1 _ (by decide), SI_fa h x hx]
      by_cases y : qFell c k x = true
      · rw [if_pos y, cnt_t (p := fun q => poss c q && qFell c q x) (by show (poss c k && qFell c k x) = true; rw [hp, y]; rfl)]; rfl
      · rw [if_neg y, cnt_f (p := fun q => poss c q && qFell c q x) (by show ¬ (poss c k && qFell c k x) = true; rw [hp, Bool.true_and]; exact y)]; omega
    · intro q hq hpq r hr
      by_cases y : q = k
      · rw [y]; exact CI_fl2 ci r hr
      · rw [CI_fl1 ci _ (by omega), o2 _ (by decide), fr1 _ (by decide)]
        exact SI_fl h q (by omega) hpq r hr
    · intro f hf
      rw [CI_who ci f (by rw [← eF]; exact hf), eT]
      congr 1
      exact bst_congr (fun t _ => whoK_t hp f t)
    · rw [CI_fld ci _ (by decide), o2 _ (by decide), fr1 _ (by decide)]; exact SI_fs h
  · have hp : ¬ poss c k = true := fun w => z0 (P0.1 w)
    have hfin : ∀ m3, (∀ i, i ≠ 185 → m3 i = bwr m1 184 k 0 i) → (∀ j, j < nRw c → m3 185 j = (cnt (fun q => alo c q j) (k + 1) : Int)) → SI c (k + 1) m3 := fun m3 o3 h3 => by
      refine ⟨?_, ?_, ?_, h3, ?_, ?_, ?_, ?_⟩
      · exact frS_trans (frp 0) ⟨fun i hi => o3 i (by omega), fun j _ a => by rw [o3 _ (by decide)]⟩
      · rw [o3 _ (by decide)]; exact pop 0 (by rw [if_neg hp])
      · rw [o3 _ (by decide), bwr_ne _ _ (by decide), fr1 _ (by decide), SI_ma h, cnt_f hp]
      · intro x hx
        rw [o3 _ (by decide), bwr_ne _ _ (by decide), fr1 _ (by decide), SI_fa h x hx, cnt_f (p := fun q => poss c q && qFell c q x)]
        show ¬ (poss c k && qFell c k x) = true
        rw [Bool.and_eq_true]; exact fun w => hp w.1
      · intro q hq hpq r hr
        have y : q ≠ k := fun y => hp (y ▸ hpq)
        rw [o3 _ (by decide), bwr_ne _ _ (by decide), fr1 _ (by decide)]
        exact SI_fl h q (by omega) hpq r hr
      · intro f hf
        rw [o3 _ (by decide), bwr_ne _ _ (by decide), fr1 _ (by decide), whoK_f hp]
        exact SI_wh h f hf
      · rw [o3 _ (by decide), bwr_ne _ _ (by decide), fr1 _ (by decide)]; exact SI_fs h
    have hh0 : ∀ j, j < nRw c → bwr m1 184 k 0 185 j = (cnt (fun q => alo c q j) k : Int) := fun j hj => by
      rw [bwr_ne _ _ (by decide), fr1 _ (by decide)]; exact SI_ha h j hj
    by_cases z1 : cnt (qAg c k) R = 1
    · obtain ⟨w, w1, w2, w3', w4⟩ := cnt_1 z1
      rw [z1, w3'] at e2
      have w16 : w < 16 := by omega
      have hw := hh0 w (by rw [eR]; exact w1)
      have y1 : cnt (fun q => alo c q w) k < 2147483647 := by have := cnt_le (fun q => alo c q w) k; omega
      refine ⟨_, _, _, _, s4_1 n m m1 _ _ _ _ _ _ _ k w y2 y3 y4 (q_x1 hk) (q_x2 hk) f2 (tnc k) e1 e2 (f16 w16) (tnc w) hw (i32_s y1), hfin _ (fun i hi => bwr_ne _ _ hi) (fun j hj => ?_)⟩
      have al := alo_1 (q := k) (by rw [eR]; exact w1) w2 (by rw [eR]; exact w4) j hj
      rw [bwr_if]
      by_cases y : j = w
      · rw [if_pos y, y]
        rw [y] at al
        rw [cnt_t (p := fun q => alo c q w) (by show alo c k w = true; rw [al]; exact decide_eq_true rfl)]
      · rw [if_neg y, hh0 j hj, cnt_f (p := fun q => alo c q j)]
        show ¬ alo c k j = true
        rw [al]; exact fun v => y (of_decide_eq_true v)
    · refine ⟨_, _, _, _, s4_2 n m m1 _ _ _ _ _ _ k y2 y3 y4 (q_x1 hk) (q_x2 hk) f2 (tnc k) e1 (by omega) (by omega) e2, hfin _ (fun i hi => rfl) (fun j hj => ?_)⟩
      rw [hh0 j hj, cnt_f (p := fun q => alo c q j)]
      show ¬ alo c k j = true
      rw [alo_0 (by rw [eR]; exact z1) j hj]; decide
theorem sp_surveyw (n : Nat) {m : bM} (hR : RelW m m) (hf : m 132 53 = 0 ∨ m 132 53 = 1 ∧ NgtR m m) : ∃ m2, sem (n + 4) 212 [aR 132] m = some (m2, 0) ∧ NgtR m m2 ∧ m2 132 53 = 1 ∧ frS m m2 := by
  rcases hf with h0 | ⟨h0, h1⟩
  · obtain ⟨m0, hm0⟩ : ∃ m0, m0 = bwr (bwr m 132 53 1) 132 59 0 := ⟨_, rfl⟩
    have o0 : ∀ i, i ≠ 132 → m0 i = m i := fun i hi => by rw [hm0, bwr_ne _ _ hi, bwr_ne _ _ hi]
    obtain ⟨m1, e1, o1, v1⟩ := s1_l (n + 3) m0 none none none
    obtain ⟨m2, e2, o2, v2⟩ := s2_l (n + 3) m1 none none none
    obtain ⟨m3, e3, o3, v3⟩ := s3_l (n + 3) m2 none none none
    have oo : ∀ i, i ≠ 185 → i ≠ 186 → i ≠ 188 → m3 i = m0 i := fun i a b d => by rw [o3 i d, o2 i b, o1 i a]
    have rS := RelS_rrows (RelW_s hR)
    have rF := RelF_rfinds (RelW_f hR)
    have s0 : SI m 0 m3 := by
      refine ⟨⟨fun i hi => by rw [oo i (by omega) (by omega) (by omega), o0 i (by omega)], fun k a b => by rw [oo _ (by decide) (by decide) (by decide), hm0, bwr_ne2 _ b, bwr_ne2 _ a]⟩, fun q hq => absurd hq (Nat.not_lt_zero q), ?_, fun j hj => ?_, fun x hx => ?_, fun q hq => absurd hq (Nat.not_lt_zero q), fun f hf => ?_, ?_⟩
      · rw [oo _ (by decide) (by decide) (by decide), hm0, bwr_eq2]; rfl
      · rw [o3 _ (by decide), o2 _ (by decide), v1 j, if_pos (by unfold nRw at hj; omega)]; rfl
      · rw [o3 _ (by decide), v2 x, if_pos hx]; rfl
      · rw [v3 f, if_pos (by omega), bst_0 (p := whoK m 0 f) (fun t _ => by unfold whoK; exact Bool.and_false _)]; rfl
      · rw [oo _ (by decide) (by decide) (by decide), hm0, bwr_ne2 _ (by decide), bwr_eq2]
    have L := lp_n (cc := L_M_survey_4c.1.2 (sem (n + 3))) (b := L_M_survey_4b.1.2 (sem (n + 3))) (s := L_M_survey_4s.1.2 (sem (n + 3))) (fun k ls mm => (∃ y2 y3 y4, ls = [some (aR 132), some (aI (k : Int)), y2, y3, y4]) ∧ SI m k mm) 90 0 bF [some (aR 132), some (aI ((0 : Nat) : Int)), none, none, none] m3 (by decide) ⟨⟨none, none, none, rfl⟩, s0⟩ (fun k ls mm _ hk h => by
      obtain ⟨⟨y2, y3, y4, hl⟩, hs⟩ := h
      subst hl
      have hk' : k < 90 := by omega
      obtain ⟨m5, z2, z3, z4, e5, h5⟩ := s4_tw n hR hk' hs y2 y3 y4
      exact ⟨_, m5, bIt_go (m1 := mm) (s4_c _ mm _ _ _ _ (k90 hk')) e5 (s4_s _ m5 _ _ _ _ _ (i32_s (k31 hk'))), ⟨z2, z3, z4, rfl⟩, h5⟩) (fun ls mm h => by
      obtain ⟨⟨y2, y3, y4, hl⟩, hs⟩ := h
      subst hl
      exact bIt_ex (s4_x _ mm _ _ _ _ (by decide)))
    obtain ⟨ls4, m4, e4, ⟨y2, y3, y4, hl⟩, s4⟩ := L
    subst hl
    have e4' : L_M_survey_4.1.2 (sem (n + 3)) [some (aR 132), some (aI 0), none, none, none] m3 = some (.inl (0, [some (aR 132), some (aI ((0 + 90 : Nat) : Int)), y2, y3, y4], m4)) := by
      unfold L_M_survey_4
      rw [d_sLp]
      exact e4
    rw [hm0] at e1
    refine ⟨m4, sv_e0 (n + 3) m m1 m2 m3 m4 _ _ _ _ _ _ _ h0 e1 e2 e3 e4', ⟨?_, ?_, ?_, ?_, ?_, ?_⟩, SI_fs s4, SI_fr s4⟩
    · exact SI_po s4
    · exact SI_ma s4
    · exact SI_ha s4
    · exact SI_fa s4
    · exact SI_fl s4
    · intro f hf
      exact SI_wh s4 f (by omega)
  · exact ⟨m, sv_e1 (n + 3) m h0, h1, h0, frS_refl m⟩
