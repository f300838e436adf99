/-! ===== what possible nights have in common ===== -/
theorem qFell_lt {c : bM} {q h : Nat} (hq : qFell c q h = true) : h < nHs c := by
  unfold qFell qF nF at hq
  rw [nS_fo] at hq
  by_cases z : h < nHs c
  · exact z
  · rw [if_neg z] at hq
    cases hq
theorem fell_bit {c : bM} {q : Nat} {h : Nat} (h10 : nHs c ≤ 10) (hh : h < 31) : jand (jshr (bst (qFell c q) (nHs c) : Int) (h : Int)) 1 = if qFell c q h = true then 1 else 0 := by
  rw [jbit (bst_lt31 _ (by omega)) hh, bst_bit]
  by_cases z : qFell c q h = true
  · rw [z, decide_eq_true (qFell_lt z)]; rfl
  · rw [if_neg z, if_neg]
    intro w
    rw [Bool.and_eq_true] at w
    exact z w.2
theorem qRest_12 {c r : bM} (hV : RelV c r) (hF : RelF c r) (q t : Nat) (ht : t < 12) : qRest c q t < 13 := by
  have a := RelF_rtof hF t ht
  have b := RelV_rhAt hV (tHm c t) (by unfold tHm; omega)
  have d : tHome c t ≤ 12 := by unfold tHome; omega
  unfold qRest
  split
  · have := wlk_12 (qD c q) (c 46 t) (179 - (qF c q (tHm c t)).toNat) ((qF c q (tHm c t)).toNat + 1) (tHome c t) d
    omega
  · omega
/-- where thing t can have been carried, by nights below k -/
def gcar (c : bM) (k t r : Nat) : Bool := anyB (fun q => poss c q && (qFell c q (tHm c t) && decide (qRest c q t = r))) k
theorem gcar_s (c : bM) (k t r : Nat) : gcar c (k + 1) t r = (gcar c k t r || (poss c k && (qFell c k (tHm c t) && decide (qRest c k t = r)))) := rfl
theorem gt_b1 (n : Nat) (m : bM) (qI tI eI dI wI hI vI : Int) (T t q d : Nat) (hT : (m 37 14) = (T : Int)) (f2 : 0 ≤ qI ∧ qI < ((90 : Nat) : Int)) (tq : qI.toNat = q) (f3 : 0 ≤ tI ∧ tI < ((12 : Nat) : Int)) (tt : tI.toNat = t) (hw : m 103 q = wI) (hh : m 44 t = hI) (hj : jand (jshr wI hI) 1 = 1) (x1 : i32 (qI * 12) = eI) (x2 : i32 (eI + tI) = dI) (f4 : 0 ≤ dI ∧ dI < ((1080 : Nat) : Int)) (td : dI.toNat = d) (hv : m 106 d = vI) : L_Nights_gatherThings_1b.1.2 (sem n) [some (aR 101), some (aI qI), some (aI tI)] m = some (.inl (0, [some (aR 101), some (aI qI), some (aI tI)], bwr m 108 t (jor (m 108 t) (jshl 1 vI)))) := by
  simp only [L_Nights_gatherThings_1b, f2, tq, f3, tt, hw, hh, hj, x1, x2, f4, td, hv, d_rLoc1, d_rLoc2, d_rFld1, d_rFld2, d_eInt, d_eLdc, d_eLdw, d_eLoc, d_eFld, d_lFld, d_eAI, d_eAZ, d_eAB, d_lAL, d_eAD, d_eLen, d_eAdd, d_eSub, d_eMul, d_eAnd, d_eOr, d_eXor, d_eShl, d_eShr, d_eUsh, d_lAdd, d_lSub, d_lMul, d_lAnd, d_lOr, d_lXor, d_lShl, d_lShr, d_eDiv, d_eRem, d_eCmp, d_eI2B, d_eI2S, d_eL2I, d_lI2L, d_lInt, d_lLdc, d_lLoc, d_eIte, d_lIte, d_eMax, d_eMin, d_eAbs, d_eAbove, d_eBodies, d_cQ, d_cZ, d_cNot, d_cAnd, d_cOr, d_gNil, d_gI, d_gL, d_gR, d_gD, d_xV, d_xS, d_xN, d_xT, d_eCall, d_lCall, d_eCallC, d_sNop, d_sSet, d_sSetL, d_sSetR, d_sSetQ, d_sInc, d_sPutI, d_sPutZ, d_sPutL, d_sPutA, d_sPutAZ, d_sPutAB, d_sPutAL, d_sPutD, d_sOpF, d_sOpA, d_sCall, d_sCopy, d_sSeq, d_sIf, d_sBrk, d_sCnt, d_sRetV, d_sRet, d_sRetL, d_sLp, d_tDef, d_tCase, d_sSw, d_sSwB, bIt_d, itb_0, itb_1, itb_2, itb_r, its_0, sqk_0, sqk_1, sqk_2, sqk_r, swk_0, swk_1, swk_r, bfin_r, bfin_ite, Option.bind_some, Option.map_some, Option.bind_none, Option.map_none, bind_ite, map_ite, cop0, cop1, cop2, cop3, cop4, cop5, opv0, opv1, opv2, opv3, brc_i, brc_z, two_ne_one, false_or, getI, getR, getL, List.getElem?_cons_zero, List.getElem?_cons_succ, List.set_cons_zero, List.set_cons_succ, bnl, if_true, if_false, true_or, or_true, decide_eq_true_eq, Bool.not_eq_true', decide_eq_false_iff_not, Bool.not_true, Bool.not_false, Bool.true_eq_false, Bool.false_eq_true, ite_not, reduceIte, ite01_0, ite01_1, Decidable.not_not, ne_eq, not_true_eq_false, not_false_eq_true, Function.comp_apply, decide_not, Bool.not_not, Bool.not_eq_false', dc_t, dc_f, and_self, true_and, and_true, and_false, false_and, tnc, Int.reduceLT, Int.reduceLE, Int.reduceEq, Int.reduceAdd, Int.reduceSub, Int.reduceMul, Int.reduceToNat, Int.reduceNeg, Int.reduceNe]
theorem gt_b0 (n : Nat) (m : bM) (qI tI wI hI z : Int) (t q : Nat) (f2 : 0 ≤ qI ∧ qI < ((90 : Nat) : Int)) (tq : qI.toNat = q) (f3 : 0 ≤ tI ∧ tI < ((12 : Nat) : Int)) (tt : tI.toNat = t) (hw : m 103 q = wI) (hh : m 44 t = hI) (hj : jand (jshr wI hI) 1 = 0) : L_Nights_gatherThings_1b.1.2 (sem n) [some (aR 101), some (aI qI), some (aI tI)] m = some (.inl (0, [some (aR 101), some (aI qI), some (aI tI)], m)) := by
  simp only [L_Nights_gatherThings_1b, f2, tq, f3, tt, hw, hh, hj, d_rLoc1, d_rLoc2, d_rFld1, d_rFld2, d_eInt, d_eLdc, d_eLdw, d_eLoc, d_eFld, d_lFld, d_eAI, d_eAZ, d_eAB, d_lAL, d_eAD, d_eLen, d_eAdd, d_eSub, d_eMul, d_eAnd, d_eOr, d_eXor, d_eShl, d_eShr, d_eUsh, d_lAdd, d_lSub, d_lMul, d_lAnd, d_lOr, d_lXor, d_lShl, d_lShr, d_eDiv, d_eRem, d_eCmp, d_eI2B, d_eI2S, d_eL2I, d_lI2L, d_lInt, d_lLdc, d_lLoc, d_eIte, d_lIte, d_eMax, d_eMin, d_eAbs, d_eAbove, d_eBodies, d_cQ, d_cZ, d_cNot, d_cAnd, d_cOr, d_gNil, d_gI, d_gL, d_gR, d_gD, d_xV, d_xS, d_xN, d_xT, d_eCall, d_lCall, d_eCallC, d_sNop, d_sSet, d_sSetL, d_sSetR, d_sSetQ, d_sInc, d_sPutI, d_sPutZ, d_sPutL, d_sPutA, d_sPutAZ, d_sPutAB, d_sPutAL, d_sPutD, d_sOpF, d_sOpA, d_sCall, d_sCopy, d_sSeq, d_sIf, d_sBrk, d_sCnt, d_sRetV, d_sRet, d_sRetL, d_sLp, d_tDef, d_tCase, d_sSw, d_sSwB, bIt_d, itb_0, itb_1, itb_2, itb_r, its_0, sqk_0, sqk_1, sqk_2, sqk_r, swk_0, swk_1, swk_r, bfin_r, bfin_ite, Option.bind_some, Option.map_some, Option.bind_none, Option.map_none, bind_ite, map_ite, cop0, cop1, cop2, cop3, cop4, cop5, opv0, opv1, opv2, opv3, brc_i, brc_z, two_ne_one, false_or, getI, getR, getL, List.getElem?_cons_zero, List.getElem?_cons_succ, List.set_cons_zero, List.set_cons_succ, bnl, if_true, if_false, true_or, or_true, decide_eq_true_eq, Bool.not_eq_true', decide_eq_false_iff_not, Bool.not_true, Bool.not_false, Bool.true_eq_false, Bool.false_eq_true, ite_not, reduceIte, ite01_0, ite01_1, Decidable.not_not, ne_eq, not_true_eq_false, not_false_eq_true, Function.comp_apply, decide_not, Bool.not_not, Bool.not_eq_false', dc_t, dc_f, and_self, true_and, and_true, and_false, false_and, tnc, Int.reduceLT, Int.reduceLE, Int.reduceEq, Int.reduceAdd, Int.reduceSub, Int.reduceMul, Int.reduceToNat, Int.reduceNeg, Int.reduceNe]
theorem nTh_c {c : bM} {T : Nat} (hT : c 37 14 = (T : Int)) : nTh c = T := by unfold nTh; rw [hT]; exact tnc T
theorem sp_gatherThings (n : Nat) {c r m : bM} (hV : RelV c r) (hF : RelF c r) (hb : bse c m) (q : Nat) (hq : q < 90) (hk : Known c m q) (hp : poss c q = true) (hc : ∀ t, t < 12 → m 108 t = if t < nTh c then (bst (gcar c q t) 13 : Int) else 0) : ∃ m2, sem (n + 1) 260 [aR 101, aI (q : Int)] m = some (m2, 0) ∧ (∀ i, i ≠ 108 → m2 i = m i) ∧ ∀ t, t < 12 → m2 108 t = if t < nTh c then (bst (gcar c (q + 1) t) 13 : Int) else 0 := by
  have hT12 := RelF_rthings hF
  have hH10 := RelV_rhouses hV
  obtain ⟨T, hT⟩ : ∃ T : Nat, c 37 14 = (T : Int) := ⟨(c 37 14).toNat, by omega⟩
  have eT := nTh_c hT
  have hT2 : T ≤ 12 := by omega
  have hH2 : nHs c ≤ 10 := by unfold nHs; omega
  have hT1k : T < 1000 := by omega
  have b37 := hb 37 (by decide)
  have b44 := hb 44 (by decide)
  have hmT : m 37 14 = (T : Int) := by rw [b37]; exact hT
  have f2 := q_f2 hq
  have x1 : i32 ((q : Int) * 12) = ((12 * q : Nat) : Int) := by
    have y4 : (q : Int) * 12 = ((12 * q : Nat) : Int) := by omega
    have y5 : -2147483648 ≤ ((12 * q : Nat) : Int) ∧ ((12 * q : Nat) : Int) < 2147483648 := by omega
    rw [y4]; exact i32_of y5.1 y5.2
  have e2 : ∃ m2, L_Nights_gatherThings_1.1.2 (sem n) [some (aR 101), some (aI (q : Int)), some (aI 0)] m = some (.inl (0, [some (aR 101), some (aI (q : Int)), some (aI (T : Int))], m2)) ∧ (∀ i, i ≠ 108 → m2 i = m i) ∧ ∀ t, t < 12 → m2 108 t = if t < T then (bst (gcar c (q + 1) t) 13 : Int) else m 108 t := by
    unfold L_Nights_gatherThings_1
    rw [d_sLp]
    refine lp_m (fun k => [some (aR 101), some (aI (q : Int)), some (aI (k : Int))]) (fun k m2 => (∀ i, i ≠ 108 → m2 i = m i) ∧ ∀ t, t < 12 → m2 108 t = if t < k then (bst (gcar c (q + 1) t) 13 : Int) else m 108 t) T hT1k ⟨fun _ _ => rfl, fun t _ => by rw [if_neg (Nat.not_lt_zero t)]⟩ (fun t m1 ht h1 => ?_) (fun m1 h1 => ?_)
    · obtain ⟨h1, h2⟩ := h1
      have ht12 : t < 12 := by omega
      have f1 : (t : Int) < (T : Int) := by omega
      have f3 : 0 ≤ (t : Int) ∧ (t : Int) < ((12 : Nat) : Int) := by omega
      have f4 : 0 ≤ ((12 * q + t : Nat) : Int) ∧ ((12 * q + t : Nat) : Int) < ((1080 : Nat) : Int) := by omega
      have y0 : t < 2147483647 := by omega
      have y2 : 12 * q + t < 2147483648 := by omega
      have rt := RelF_rtof hF t ht12
      have ehm : c 44 t = ((tHm c t : Nat) : Int) := by unfold tHm; omega
      have h31 : tHm c t < 31 := by unfold tHm; omega
      have r13 := qRest_12 hV hF q t ht12
      have cT := h2 t ht12
      rw [if_neg (Nat.lt_irrefl t), hc t ht12, if_pos (by rw [eT]; exact ht)] at cT
      have kt := Known_thing hk t (by rw [eT]; exact ht)
      have fb := fell_bit (c := c) (q := q) hH2 h31
      have hT1 : m1 37 14 = (T : Int) := by rw [h1 _ (by decide)]; exact hmT
      have wF : m1 103 q = (bst (qFell c q) (nHs c) : Int) := by rw [h1 _ (by decide)]; exact Known_fallen hk
      have wH : m1 44 t = ((tHm c t : Nat) : Int) := by rw [h1 _ (by decide), b44]; exact ehm
      have wT : m1 106 (12 * q + t) = (qRest c q t : Int) := by rw [h1 _ (by decide)]; exact kt
      have x3 := i32_s y0
      have x2 : i32 (((12 * q : Nat) : Int) + (t : Int)) = ((12 * q + t : Nat) : Int) := i32_add rfl y2
      by_cases z : qFell c q (tHm c t) = true
      · rw [if_pos z] at fb
        have J := jor_ins (gcar c q t) r13 (by decide)
        have bE : bst (fun r => gcar c q t r || decide (r = qRest c q t)) 13 = bst (gcar c (q + 1) t) 13 := bst_congr (fun r _ => by
          rw [gcar_s, hp, z, Bool.true_and, Bool.true_and]
          congr 1
          exact decide_eq_decide.mpr eq_comm)
        rw [bE] at J
        refine ⟨bwr m1 108 t (bst (gcar c (q + 1) t) 13 : Int), ?_, fun i hi => by rw [bwr_ne _ _ hi]; exact h1 i hi, fun s hs => ?_⟩
        · refine bIt_go (m1 := m1) (ls2 := [some (aR 101), some (aI (q : Int)), some (aI (t : Int))]) (m2 := bwr m1 108 t (bst (gcar c (q + 1) t) 13 : Int)) ?_ ?_ ?_
          · simp only [L_Nights_gatherThings_1c, hT1, f1, d_rLoc1, d_rLoc2, d_rFld1, d_rFld2, d_eInt, d_eLdc, d_eLdw, d_eLoc, d_eFld, d_lFld, d_eAI, d_eAZ, d_eAB, d_lAL, d_eAD, d_eLen, d_eAdd, d_eSub, d_eMul, d_eAnd, d_eOr, d_eXor, d_eShl, d_eShr, d_eUsh, d_lAdd, d_lSub, d_lMul, d_lAnd, d_lOr, d_lXor, d_lShl, d_lShr, d_eDiv, d_eRem, d_eCmp, d_eI2B, d_eI2S, d_eL2I, d_lI2L, d_lInt, d_lLdc, d_lLoc, d_eIte, d_lIte, d_eMax, d_eMin, d_eAbs, d_eAbove, d_eBodies, d_cQ, d_cZ, d_cNot, d_cAnd, d_cOr, d_gNil, d_gI, d_gL, d_gR, d_gD, d_xV, d_xS, d_xN, d_xT, d_eCall, d_lCall, d_eCallC, d_sNop, d_sSet, d_sSetL, d_sSetR, d_sSetQ, d_sInc, d_sPutI, d_sPutZ, d_sPutL, d_sPutA, d_sPutAZ, d_sPutAB, d_sPutAL, d_sPutD, d_sOpF, d_sOpA, d_sCall, d_sCopy, d_sSeq, d_sIf, d_sBrk, d_sCnt, d_sRetV, d_sRet, d_sRetL, d_sLp, d_tDef, d_tCase, d_sSw, d_sSwB, bIt_d, itb_0, itb_1, itb_2, itb_r, its_0, sqk_0, sqk_1, sqk_2, sqk_r, swk_0, swk_1, swk_r, bfin_r, bfin_ite, Option.bind_some, Option.map_some, Option.bind_none, Option.map_none, bind_ite, map_ite, cop0, cop1, cop2, cop3, cop4, cop5, opv0, opv1, opv2, opv3, brc_i, brc_z, two_ne_one, false_or, getI, getR, getL, List.getElem?_cons_zero, List.getElem?_cons_succ, List.set_cons_zero, List.set_cons_succ, bnl, if_true, if_false, true_or, or_true, decide_eq_true_eq, Bool.not_eq_true', decide_eq_false_iff_not, Bool.not_true, Bool.not_false, Bool.true_eq_false, Bool.false_eq_true, ite_not, reduceIte, ite01_0, ite01_1, Decidable.not_not, ne_eq, not_true_eq_false, not_false_eq_true, Function.comp_apply, decide_not, Bool.not_not, Bool.not_eq_false', dc_t, dc_f, and_self, true_and, and_true, and_false, false_and, tnc]
          · rw [gt_b1 n m1 _ _ _ _ _ _ _ T t q (12 * q + t) hT1 f2 (tnc q) f3 (tnc t) wF wH fb x1 x2 f4 (tnc _) wT, cT, J]
          · simp only [L_Nights_gatherThings_1s, x3, d_rLoc1, d_rLoc2, d_rFld1, d_rFld2, d_eInt, d_eLdc, d_eLdw, d_eLoc, d_eFld, d_lFld, d_eAI, d_eAZ, d_eAB, d_lAL, d_eAD, d_eLen, d_eAdd, d_eSub, d_eMul, d_eAnd, d_eOr, d_eXor, d_eShl, d_eShr, d_eUsh, d_lAdd, d_lSub, d_lMul, d_lAnd, d_lOr, d_lXor, d_lShl, d_lShr, d_eDiv, d_eRem, d_eCmp, d_eI2B, d_eI2S, d_eL2I, d_lI2L, d_lInt, d_lLdc, d_lLoc, d_eIte, d_lIte, d_eMax, d_eMin, d_eAbs, d_eAbove, d_eBodies, d_cQ, d_cZ, d_cNot, d_cAnd, d_cOr, d_gNil, d_gI, d_gL, d_gR, d_gD, d_xV, d_xS, d_xN, d_xT, d_eCall, d_lCall, d_eCallC, d_sNop, d_sSet, d_sSetL, d_sSetR, d_sSetQ, d_sInc, d_sPutI, d_sPutZ, d_sPutL, d_sPutA, d_sPutAZ, d_sPutAB, d_sPutAL, d_sPutD, d_sOpF, d_sOpA, d_sCall, d_sCopy, d_sSeq, d_sIf, d_sBrk, d_sCnt, d_sRetV, d_sRet, d_sRetL, d_sLp, d_tDef, d_tCase, d_sSw, d_sSwB, bIt_d, itb_0, itb_1, itb_2, itb_r, its_0, sqk_0, sqk_1, sqk_2, sqk_r, swk_0, swk_1, swk_r, bfin_r, bfin_ite, Option.bind_some, Option.map_some, Option.bind_none, Option.map_none, bind_ite, map_ite, cop0, cop1, cop2, cop3, cop4, cop5, opv0, opv1, opv2, opv3, brc_i, brc_z, two_ne_one, false_or, getI, getR, getL, List.getElem?_cons_zero, List.getElem?_cons_succ, List.set_cons_zero, List.set_cons_succ, bnl, if_true, if_false, true_or, or_true, decide_eq_true_eq, Bool.not_eq_true', decide_eq_false_iff_not, Bool.not_true, Bool.not_false, Bool.true_eq_false, Bool.false_eq_true, ite_not, reduceIte, ite01_0, ite01_1, Decidable.not_not, ne_eq, not_true_eq_false, not_false_eq_true, Function.comp_apply, decide_not, Bool.not_not, Bool.not_eq_false', dc_t, dc_f, and_self, true_and, and_true, and_false, false_and, tnc]
        · rw [bwr_if]
          by_cases w : s = t
          · rw [if_pos w, w, if_pos (Nat.lt_succ_self t)]
          · rw [if_neg w, h2 s hs]
            by_cases w2 : s < t
            · rw [if_pos w2, if_pos (Nat.lt_succ_of_lt w2)]
            · rw [if_neg w2, if_neg (nlt_s w w2)]
      · rw [if_neg z] at fb
        have bE : bst (gcar c q t) 13 = bst (gcar c (q + 1) t) 13 := bst_congr (fun r _ => by
          have z' : qFell c q (tHm c t) = false := by simpa using z
          rw [gcar_s, z', Bool.false_and, Bool.and_false, Bool.or_false])
        refine ⟨m1, ?_, h1, fun s hs => ?_⟩
        · refine bIt_go (m1 := m1) (ls2 := [some (aR 101), some (aI (q : Int)), some (aI (t : Int))]) (m2 := m1) ?_ (gt_b0 n m1 _ _ _ _ 0 t q f2 (tnc q) f3 (tnc t) wF wH fb) ?_
          · simp only [L_Nights_gatherThings_1c, hT1, f1, d_rLoc1, d_rLoc2, d_rFld1, d_rFld2, d_eInt, d_eLdc, d_eLdw, d_eLoc, d_eFld, d_lFld, d_eAI, d_eAZ, d_eAB, d_lAL, d_eAD, d_eLen, d_eAdd, d_eSub, d_eMul, d_eAnd, d_eOr, d_eXor, d_eShl, d_eShr, d_eUsh, d_lAdd, d_lSub, d_lMul, d_lAnd, d_lOr, d_lXor, d_lShl, d_lShr, d_eDiv, d_eRem, d_eCmp, d_eI2B, d_eI2S, d_eL2I, d_lI2L, d_lInt, d_lLdc, d_lLoc, d_eIte, d_lIte, d_eMax, d_eMin, d_eAbs, d_eAbove, d_eBodies, d_cQ, d_cZ, d_cNot, d_cAnd, d_cOr, d_gNil, d_gI, d_gL, d_gR, d_gD, d_xV, d_xS, d_xN, d_xT, d_eCall, d_lCall, d_eCallC, d_sNop, d_sSet, d_sSetL, d_sSetR, d_sSetQ, d_sInc, d_sPutI, d_sPutZ, d_sPutL, d_sPutA, d_sPutAZ, d_sPutAB, d_sPutAL, d_sPutD, d_sOpF, d_sOpA, d_sCall, d_sCopy, d_sSeq, d_sIf, d_sBrk, d_sCnt, d_sRetV, d_sRet, d_sRetL, d_sLp, d_tDef, d_tCase, d_sSw, d_sSwB, bIt_d, itb_0, itb_1, itb_2, itb_r, its_0, sqk_0, sqk_1, sqk_2, sqk_r, swk_0, swk_1, swk_r, bfin_r, bfin_ite, Option.bind_some, Option.map_some, Option.bind_none, Option.map_none, bind_ite, map_ite, cop0, cop1, cop2, cop3, cop4, cop5, opv0, opv1, opv2, opv3, brc_i, brc_z, two_ne_one, false_or, getI, getR, getL, List.getElem?_cons_zero, List.getElem?_cons_succ, List.set_cons_zero, List.set_cons_succ, bnl, if_true, if_false, true_or, or_true, decide_eq_true_eq, Bool.not_eq_true', decide_eq_false_iff_not, Bool.not_true, Bool.not_false, Bool.true_eq_false, Bool.false_eq_true, ite_not, reduceIte, ite01_0, ite01_1, Decidable.not_not, ne_eq, not_true_eq_false, not_false_eq_true, Function.comp_apply, decide_not, Bool.not_not, Bool.not_eq_false', dc_t, dc_f, and_self, true_and, and_true, and_false, false_and, tnc]
          · simp only [L_Nights_gatherThings_1s, x3, d_rLoc1, d_rLoc2, d_rFld1, d_rFld2, d_eInt, d_eLdc, d_eLdw, d_eLoc, d_eFld, d_lFld, d_eAI, d_eAZ, d_eAB, d_lAL, d_eAD, d_eLen, d_eAdd, d_eSub, d_eMul, d_eAnd, d_eOr, d_eXor, d_eShl, d_eShr, d_eUsh, d_lAdd, d_lSub, d_lMul, d_lAnd, d_lOr, d_lXor, d_lShl, d_lShr, d_eDiv, d_eRem, d_eCmp, d_eI2B, d_eI2S, d_eL2I, d_lI2L, d_lInt, d_lLdc, d_lLoc, d_eIte, d_lIte, d_eMax, d_eMin, d_eAbs, d_eAbove, d_eBodies, d_cQ, d_cZ, d_cNot, d_cAnd, d_cOr, d_gNil, d_gI, d_gL, d_gR, d_gD, d_xV, d_xS, d_xN, d_xT, d_eCall, d_lCall, d_eCallC, d_sNop, d_sSet, d_sSetL, d_sSetR, d_sSetQ, d_sInc, d_sPutI, d_sPutZ, d_sPutL, d_sPutA, d_sPutAZ, d_sPutAB, d_sPutAL, d_sPutD, d_sOpF, d_sOpA, d_sCall, d_sCopy, d_sSeq, d_sIf, d_sBrk, d_sCnt, d_sRetV, d_sRet, d_sRetL, d_sLp, d_tDef, d_tCase, d_sSw, d_sSwB, bIt_d, itb_0, itb_1, itb_2, itb_r, its_0, sqk_0, sqk_1, sqk_2, sqk_r, swk_0, swk_1, swk_r, bfin_r, bfin_ite, Option.bind_some, Option.map_some, Option.bind_none, Option.map_none, bind_ite, map_ite, cop0, cop1, cop2, cop3, cop4, cop5, opv0, opv1, opv2, opv3, brc_i, brc_z, two_ne_one, false_or, getI, getR, getL, List.getElem?_cons_zero, List.getElem?_cons_succ, List.set_cons_zero, List.set_cons_succ, bnl, if_true, if_false, true_or, or_true, decide_eq_true_eq, Bool.not_eq_true', decide_eq_false_iff_not, Bool.not_true, Bool.not_false, Bool.true_eq_false, Bool.false_eq_true, ite_not, reduceIte, ite01_0, ite01_1, Decidable.not_not, ne_eq, not_true_eq_false, not_false_eq_true, Function.comp_apply, decide_not, Bool.not_not, Bool.not_eq_false', dc_t, dc_f, and_self, true_and, and_true, and_false, false_and, tnc]
        · by_cases w : s = t
          · rw [w, if_pos (Nat.lt_succ_self t), cT, bE]
          · rw [h2 s hs]
            by_cases w2 : s < t
            · rw [if_pos w2, if_pos (Nat.lt_succ_of_lt w2)]
            · rw [if_neg w2, if_neg (nlt_s w w2)]
    · have hT1 : m1 37 14 = (T : Int) := by rw [h1.1 _ (by decide)]; exact hmT
      have q : ¬ (T : Int) < (T : Int) := Int.lt_irrefl _
      refine bIt_ex ?_
      simp only [L_Nights_gatherThings_1c, hT1, q, d_rLoc1, d_rLoc2, d_rFld1, d_rFld2, d_eInt, d_eLdc, d_eLdw, d_eLoc, d_eFld, d_lFld, d_eAI, d_eAZ, d_eAB, d_lAL, d_eAD, d_eLen, d_eAdd, d_eSub, d_eMul, d_eAnd, d_eOr, d_eXor, d_eShl, d_eShr, d_eUsh, d_lAdd, d_lSub, d_lMul, d_lAnd, d_lOr, d_lXor, d_lShl, d_lShr, d_eDiv, d_eRem, d_eCmp, d_eI2B, d_eI2S, d_eL2I, d_lI2L, d_lInt, d_lLdc, d_lLoc, d_eIte, d_lIte, d_eMax, d_eMin, d_eAbs, d_eAbove, d_eBodies, d_cQ, d_cZ, d_cNot, d_cAnd, d_cOr, d_gNil, d_gI, d_gL, d_gR, d_gD, d_xV, d_xS, d_xN, d_xT, d_eCall, d_lCall, d_eCallC, d_sNop, d_sSet, d_sSetL, d_sSetR, d_sSetQ, d_sInc, d_sPutI, d_sPutZ, d_sPutL, d_sPutA, d_sPutAZ, d_sPutAB, d_sPutAL, d_sPutD, d_sOpF, d_sOpA, d_sCall, d_sCopy, d_sSeq, d_sIf, d_sBrk, d_sCnt, d_sRetV, d_sRet, d_sRetL, d_sLp, d_tDef, d_tCase, d_sSw, d_sSwB, bIt_d, itb_0, itb_1, itb_2, itb_r, its_0, sqk_0, sqk_1, sqk_2, sqk_r, swk_0, swk_1, swk_r, bfin_r, bfin_ite, Option.bind_some, Option.map_some, Option.bind_none, Option.map_none, bind_ite, map_ite, cop0, cop1, cop2, cop3, cop4, cop5, opv0, opv1, opv2, opv3, brc_i, brc_z, two_ne_one, false_or, getI, getR, getL, List.getElem?_cons_zero, List.getElem?_cons_succ, List.set_cons_zero, List.set_cons_succ, bnl, if_true, if_false, true_or, or_true, decide_eq_true_eq, Bool.not_eq_true', decide_eq_false_iff_not, Bool.not_true, Bool.not_false, Bool.true_eq_false, Bool.false_eq_true, ite_not, reduceIte, ite01_0, ite01_1, Decidable.not_not, ne_eq, not_true_eq_false, not_false_eq_true, Function.comp_apply, decide_not, Bool.not_not, Bool.not_eq_false', dc_t, dc_f, and_self, true_and, and_true, and_false, false_and, tnc]
  obtain ⟨m2, e2, h1, h2⟩ := e2
  refine ⟨m2, ?_, h1, fun t ht => ?_⟩
  · rw [st_Nights_gatherThings]
    unfold B_Nights_gatherThings
    revert e2
    generalize L_Nights_gatherThings_1 = LL
    intro e2
    simp only [kr_Nights_gatherThings, e2, d_rLoc1, d_rLoc2, d_rFld1, d_rFld2, d_eInt, d_eLdc, d_eLdw, d_eLoc, d_eFld, d_lFld, d_eAI, d_eAZ, d_eAB, d_lAL, d_eAD, d_eLen, d_eAdd, d_eSub, d_eMul, d_eAnd, d_eOr, d_eXor, d_eShl, d_eShr, d_eUsh, d_lAdd, d_lSub, d_lMul, d_lAnd, d_lOr, d_lXor, d_lShl, d_lShr, d_eDiv, d_eRem, d_eCmp, d_eI2B, d_eI2S, d_eL2I, d_lI2L, d_lInt, d_lLdc, d_lLoc, d_eIte, d_lIte, d_eMax, d_eMin, d_eAbs, d_eAbove, d_eBodies, d_cQ, d_cZ, d_cNot, d_cAnd, d_cOr, d_gNil, d_gI, d_gL, d_gR, d_gD, d_xV, d_xS, d_xN, d_xT, d_eCall, d_lCall, d_eCallC, d_sNop, d_sSet, d_sSetL, d_sSetR, d_sSetQ, d_sInc, d_sPutI, d_sPutZ, d_sPutL, d_sPutA, d_sPutAZ, d_sPutAB, d_sPutAL, d_sPutD, d_sOpF, d_sOpA, d_sCall, d_sCopy, d_sSeq, d_sIf, d_sBrk, d_sCnt, d_sRetV, d_sRet, d_sRetL, d_sLp, d_tDef, d_tCase, d_sSw, d_sSwB, bIt_d, itb_0, itb_1, itb_2, itb_r, its_0, sqk_0, sqk_1, sqk_2, sqk_r, swk_0, swk_1, swk_r, bfin_r, bfin_ite, Option.bind_some, Option.map_some, Option.bind_none, Option.map_none, bind_ite, map_ite, cop0, cop1, cop2, cop3, cop4, cop5, opv0, opv1, opv2, opv3, brc_i, brc_z, two_ne_one, false_or, getI, getR, getL, List.getElem?_cons_zero, List.getElem?_cons_succ, List.set_cons_zero, List.set_cons_succ, bnl, if_true, if_false, true_or, or_true, decide_eq_true_eq, Bool.not_eq_true', decide_eq_false_iff_not, Bool.not_true, Bool.not_false, Bool.true_eq_false, Bool.false_eq_true, ite_not, reduceIte, ite01_0, ite01_1, Decidable.not_not, ne_eq, not_true_eq_false, not_false_eq_true, Function.comp_apply, decide_not, Bool.not_not, Bool.not_eq_false', dc_t, dc_f, and_self, true_and, and_true, and_false, false_and, tnc]
  · rw [h2 t ht, eT]
    by_cases w : t < T
    · rw [if_pos w, if_pos w]
    · rw [if_neg w, if_neg w, hc t ht, eT, if_neg w]
/-- how houses fall in each possible night below k; -1: there is none -/
def eAll (c : bM) (k h : Nat) : Bool := allB (fun q => !poss c q || qFell c q h) k
def eI (c : bM) (k : Nat) : Int := if anyB (poss c) k = true then (bst (eAll c k) (nHs c) : Int) else -1
def eSo (c : bM) (k h : Nat) : Bool := anyB (fun q => poss c q && qFell c q h) k
theorem in32_bst (p : Nat → Bool) {n : Nat} (h : n ≤ 31) : in32 (bst p n : Int) := by
  have := bst_lt31 p h
  constructor <;> omega
theorem allB_t {p : Nat → Bool} {n : Nat} (h : ∀ k, k < n → p k = true) : allB p n = true := allB_iff.2 h
theorem anyB_no {p : Nat → Bool} {n : Nat} (h : ¬ anyB p n = true) (k : Nat) (hk : k < n) : p k = false := by
  cases z : p k
  · rfl
  · exact absurd (anyB_iff.2 ⟨k, hk, z⟩) h
theorem eI_s {c : bM} (h10 : nHs c ≤ 10) {k : Nat} (hp : poss c k = true) : jand (eI c k) (bst (qFell c k) (nHs c) : Int) = eI c (k + 1) := by
  have a1 : anyB (poss c) (k + 1) = true := anyB_iff.2 ⟨k, Nat.lt_succ_self k, hp⟩
  have e1 : eI c (k + 1) = (bst (eAll c (k + 1)) (nHs c) : Int) := by unfold eI; rw [if_pos a1]
  have es : ∀ h, eAll c (k + 1) h = (eAll c k h && qFell c k h) := fun h => by
    show (eAll c k h && (!poss c k || qFell c k h)) = _
    rw [hp]; rfl
  rw [e1]
  unfold eI
  by_cases z : anyB (poss c) k = true
  · rw [if_pos z, jand_nat (bst_lt31 _ (by omega)), bst_and]
    congr 1
    exact bst_congr (fun h _ => (es h).symm)
  · rw [if_neg z, jm1 _ (in32_bst _ (by omega))]
    congr 1
    refine bst_congr (fun h _ => ?_)
    rw [es h, show eAll c k h = true from allB_t (fun q hq => by rw [anyB_no z q hq]; rfl), Bool.true_and]
theorem eSo_s {c : bM} (h10 : nHs c ≤ 10) {k : Nat} (hp : poss c k = true) : jor (bst (eSo c k) (nHs c) : Int) (bst (qFell c k) (nHs c) : Int) = (bst (eSo c (k + 1)) (nHs c) : Int) := by
  rw [jor_nat (bst_lt31 _ (by omega)) (bst_lt31 _ (by omega)), bst_or]
  congr 1
  refine bst_congr (fun h _ => ?_)
  show _ = (eSo c k h || (poss c k && qFell c k h))
  rw [hp, Bool.true_and]
theorem eI_n {c : bM} {k : Nat} (hp : ¬ poss c k = true) : eI c (k + 1) = eI c k := by
  have hp' : poss c k = false := by simpa using hp
  have a : anyB (poss c) (k + 1) = anyB (poss c) k := by
    show (anyB (poss c) k || poss c k) = _
    rw [hp', Bool.or_false]
  have b : eAll c (k + 1) = eAll c k := by
    funext h
    show (eAll c k h && (!poss c k || qFell c k h)) = _
    rw [hp']; simp
  unfold eI
  rw [a, b]
theorem eSo_n {c : bM} {k : Nat} (hp : ¬ poss c k = true) : eSo c (k + 1) = eSo c k := by
  have hp' : poss c k = false := by simpa using hp
  funext h
  show (eSo c k h || (poss c k && qFell c k h)) = _
  rw [hp', Bool.false_and, Bool.or_false]
theorem gcar_n {c : bM} {k : Nat} (hp : ¬ poss c k = true) : gcar c (k + 1) = gcar c k := by
  have hp' : poss c k = false := by simpa using hp
  funext t r
  rw [gcar_s, hp', Bool.false_and, Bool.or_false]
theorem eI_end {c : bM} (h10 : nHs c ≤ 10) : jand (eI c 90) (bst (pSome c) (nHs c) : Int) = (bst (pEach c) (nHs c) : Int) := by
  unfold eI
  by_cases z : anyB (poss c) 90 = true
  · rw [if_pos z, jand_nat (bst_lt31 _ (by omega)), bst_and]
    congr 1
    refine bst_congr (fun h _ => ?_)
    unfold pEach
    rw [z, Bool.true_and]
    show (eAll c 90 h && pSome c h) = eAll c 90 h
    cases w : eAll c 90 h
    · rfl
    · rw [Bool.true_and]
      obtain ⟨k, hk, hp⟩ := anyB_iff.1 z
      have a := allB_iff.1 w k hk
      rw [hp] at a
      exact anyB_iff.2 ⟨k, hk, by rw [hp]; exact a⟩
  · rw [if_neg z, jm1 _ (in32_bst _ (by omega))]
    congr 1
    refine bst_congr (fun h _ => ?_)
    unfold pEach pSome
    have z' : anyB (poss c) 90 = false := by simpa using z
    rw [z', Bool.false_and]
    have : ¬ anyB (fun q => poss c q && qFell c q h) 90 = true := by
      rw [anyB_iff]
      rintro ⟨k, hk, hp⟩
      rw [anyB_no z k hk] at hp
      cases hp
    simpa using this
