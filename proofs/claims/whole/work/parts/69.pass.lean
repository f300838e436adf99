/-! ===== a night goes by, to a minute ===== -/
theorem ff_ext {p : Nat → Bool} {k : Nat} (hp : ∀ i, k ≤ i → p i = p k) : ∀ j, ff p (k + 1 + j) = ff p (k + 1)
  | 0 => rfl
  | j + 1 => by
    have ih := ff_ext hp j
    show ff p (k + 1 + j + 1) = _
    rw [ff_s, ih]
    cases hq : ff p (k + 1) with
    | some x => rfl
    | none =>
      have h1 := ff_none.mp hq k (by omega)
      have h2 := hp (k + 1 + j) (by omega)
      rw [h1] at h2
      rw [h2]; rfl
theorem mxx_ext {f : Nat → Int} {k : Nat} (hf : ∀ i, k ≤ i → f i = f k) : ∀ j, mxx f (k + 1 + j) = mxx f (k + 1)
  | 0 => rfl
  | j + 1 => by
    have ih := mxx_ext hf j
    show mxx f (k + 1 + j + 1) = _
    rw [mxx_s, ih, hf (k + 1 + j) (by omega)]
    have := mxx_ge f (k + 1) k (by omega)
    rw [if_neg (by omega)]
theorem tPos_ext {c : bM} {D : Nat → Nat → Int} {fo : Nat → Int} {k t : Nat} (hf : tFlo c D fo (k + 1) t = false) (hlt : fo (tHm c t) < ((k + 1 : Nat) : Int)) : ∀ j, tPos c D fo (k + 1 + j) t = tPos c D fo (k + 1) t ∧ tFlo c D fo (k + 1 + j) t = false
  | 0 => ⟨rfl, hf⟩
  | j + 1 => by
    obtain ⟨h1, h2⟩ := tPos_ext hf hlt j
    show tPos c D fo (k + 1 + j + 1) t = _ ∧ tFlo c D fo (k + 1 + j + 1) t = false
    by_cases h0 : 0 ≤ fo (tHm c t)
    · rw [tPos_s h0 (by omega), tFlo_s h0 (by omega), h2, h1]
      simp
    · unfold tPos tFlo
      simp [h0]
theorem NI_ext {c r : bM} (hV : RelV c r) (hS : RelS c r) {w : Nat} (hw : w < 3) {s g f : Int} (hg : 0 ≤ g) {k : Nat} {m : bM} (h : NI c w s g f (k + 1) m) (hr : rstC c w s g f k) (ha : m 93 10 = 0) (j : Nat) : NI c w s g f (k + 1 + j) m := by
  obtain ⟨n1, n2, n3, n4, n5, n6, n7, ⟨F, f1, f2, f3⟩, n9, n10, n11, n12, n13, n14, n15⟩ := h
  obtain ⟨e1, e2, e3, e4⟩ := steady hV hw hg hr j
  have sD : ∀ x, x < 12 → ∀ i, k ≤ i → nD c w s g f i x = nD c w s g f k x := fun x hx i hi => by
    have := steadyD hV hw hg hr (i - k) hx
    rw [show k + (i - k) = i by omega] at this
    exact this
  have e4' : (nS c w s g f (k + 1 + j)).2.2.2 = (nS c w s g f (k + 1)).2.2.2 := funext e4
  have fl0 : ∀ t, t < nTh c → tFlo c (nD c w s g f) (nS c w s g f (k + 1)).2.2.2 (k + 1) t = false := bst_0i (n15.symm.trans ha)
  have hlt : ∀ t, (nS c w s g f (k + 1)).2.2.2 (tHm c t) < ((k + 1 : Nat) : Int) := fun t => by
    rw [nS_fo]
    split
    · cases hq : ff (fun j => decide (c 7 (tHm c t) ≤ nD c w s g f j (c 6 (tHm c t)).toNat)) (k + 1) with
      | none => show (-1 : Int) < _; omega
      | some j => have := (ff_some hq).1; show (j : Int) < _; omega
    · omega
  refine ⟨n1, n2, n3, n4, n5, ?_, fun x hx => ?_, ⟨F, f1, f2, fun x h1 h2 => ?_⟩, fun x hx => ?_, fun x hx => ?_, fun x hx => ?_, fun x hx => ?_, fun q hq hkd => ?_, fun t ht => ?_, ?_⟩
  · rw [e1]; exact n6
  · rw [e2 x hx]; exact n7 x hx
  · rw [e2 x h2]; exact f3 x h1 h2
  · rw [e3 x hx]; exact n9 x hx
  · rw [mxx_ext (sD x hx)]; exact n10 x hx
  · rw [ff_ext (fun i hi => by rw [sD x hx i hi])]; exact n11 x hx
  · have := RelV_rhAt hV x hx
    rw [ff_ext (fun i hi => by rw [sD (c 6 x).toNat (by omega) i hi])]; exact n12 x hx
  · have h16 := RelS_rrows hS
    have := RelS_rplace hS q (by unfold nRw at hq; omega)
    rw [ff_ext (fun i hi => by rw [sD (c 19 q).toNat (by omega) i hi])]; exact n13 q hq hkd
  · rw [e4', (tPos_ext (fl0 t ht) (hlt t) j).1]; exact n14 t ht
  · rw [ha, e4', bst_0 (p := tFlo c (nD c w s g f) (nS c w s g f (k + 1)).2.2.2 (k + 1 + j)) (fun t ht => (tPos_ext (fl0 t ht) (hlt t) j).2)]
    rfl
theorem sp_pass (n : Nat) {c r m : bM} (hV : RelV c r) (hS : RelS c r) (hF : RelF c r) (hb : bse c m) {w : Nat} (hw : w < 3) {s g f : Int} (hs : 0 ≤ s ∧ s ≤ 29) (hg : 0 ≤ g ∧ g ≤ 99) {la : Nat} (hla : la < 180) : ∃ m2, sem (n + 3) 126 [aR 93, aI (w : Int), aI s, aI g, aI f, aI (la : Int)] m = some (m2, 0) ∧ NI c w s g f (la + 1) m2 ∧ fr93 m m2 := by
  obtain ⟨m1, hm1⟩ : ∃ m1, m1 = bwr (bwr (bwr (bwr m 93 14 (w : Int)) 93 15 s) 93 16 g) 93 17 f := ⟨_, rfl⟩
  have fr1 : fr93 m m1 := fun i hi => by rw [hm1, bwr_ne _ _ (by omega), bwr_ne _ _ (by omega), bwr_ne _ _ (by omega), bwr_ne _ _ (by omega)]
  obtain ⟨m2, s2, ni2, fr2⟩ := sp_begin n hV hS hF (bse_t hb fr1) (w := w) (s := s) (g := g) (f := f) (by rw [hm1, bwr_ne2 _ (by decide), bwr_ne2 _ (by decide), bwr_ne2 _ (by decide), bwr_eq2]) (by rw [hm1, bwr_ne2 _ (by decide), bwr_ne2 _ (by decide), bwr_eq2]) (by rw [hm1, bwr_ne2 _ (by decide), bwr_eq2]) (by rw [hm1, bwr_eq2])
  have key := lp_wf (c := L_Night_pass_1c.1.2 (sem (n + 2))) (b := L_Night_pass_1b.1.2 (sem (n + 2))) (s := L_Night_pass_1s.1.2 (sem (n + 2)))
    (Q := fun _ m' => fr93 m2 m' ∧ NI c w s g f (la + 1) m') (R := fun _ _ => False)
    (fun d ls m' => ∃ (k : Nat) (rs : Int) (x8 x9 : Option bV), ls = [some (aR 93), some (aI (w : Int)), some (aI s), some (aI g), some (aI f), some (aI (la : Int)), some (aI rs), some (aI (k : Int)), x8, x9] ∧ d = la + 1 - k ∧ k ≤ la + 1 ∧ fr93 m2 m' ∧ ((rs = 0 ∧ NI c w s g f k m') ∨ (rs = 1 ∧ NI c w s g f (la + 1) m')))
    (fun d ls m' hP => by
      obtain ⟨k, rs, x8, x9, rfl, hd, hk, hfr, hor⟩ := hP
      rcases hor with ⟨rfl, hni⟩ | ⟨rfl, hni⟩
      · by_cases hkl : k = la + 1
        · right; left
          subst hkl
          have q : ¬ ((la + 1 : Nat) : Int) ≤ (la : Int) := by omega
          refine ⟨[some (aR 93), some (aI (w : Int)), some (aI s), some (aI g), some (aI f), some (aI (la : Int)), some (aI 0), some (aI ((la + 1 : Nat) : Int)), x8, x9], m', bIt_ex ?_, hfr, hni⟩
          generalize ((la + 1 : Nat) : Int) = kI at *
          generalize ((la : Nat) : Int) = lI at *
          simp only [L_Night_pass_1c, q, d_rLoc1, d_rLoc2, d_rFld1, d_rFld2, d_eInt, d_eLdc, d_eLdw, d_eLoc, d_eFld, d_lFld, d_eAI, d_eAZ, d_eAB, d_lAL, d_eAD, d_eLen, d_eAdd, d_eSub, d_eMul, d_eAnd, d_eOr, d_eXor, d_eShl, d_eShr, d_eUsh, d_lAdd, d_lSub, d_lMul, d_lAnd, d_lOr, d_lXor, d_lShl, d_lShr, d_eDiv, d_eRem, d_eCmp, d_eI2B, d_eI2S, d_eL2I, d_lI2L, d_lInt, d_lLdc, d_lLoc, d_eIte, d_lIte, d_eMax, d_eMin, d_eAbs, d_eAbove, d_eBodies, d_cQ, d_cZ, d_cNot, d_cAnd, d_cOr, d_gNil, d_gI, d_gL, d_gR, d_gD, d_xV, d_xS, d_xN, d_xT, d_eCall, d_lCall, d_eCallC, d_sNop, d_sSet, d_sSetL, d_sSetR, d_sSetQ, d_sInc, d_sPutI, d_sPutZ, d_sPutL, d_sPutA, d_sPutAZ, d_sPutAB, d_sPutAL, d_sPutD, d_sOpF, d_sOpA, d_sCall, d_sCopy, d_sSeq, d_sIf, d_sBrk, d_sCnt, d_sRetV, d_sRet, d_sRetL, d_sLp, d_tDef, d_tCase, d_sSw, d_sSwB, bIt_d, itb_0, itb_1, itb_2, itb_r, its_0, sqk_0, sqk_1, sqk_2, sqk_r, swk_0, swk_1, swk_r, bfin_r, bfin_ite, Option.bind_some, Option.map_some, Option.bind_none, Option.map_none, bind_ite, map_ite, cop0, cop1, cop2, cop3, cop4, cop5, opv0, opv1, opv2, opv3, brc_i, brc_z, two_ne_one, false_or, getI, getR, getL, List.getElem?_cons_zero, List.getElem?_cons_succ, List.set_cons_zero, List.set_cons_succ, bnl, if_true, if_false, true_or, or_true, decide_eq_true_eq, Bool.not_eq_true', decide_eq_false_iff_not, Bool.not_true, Bool.not_false, Bool.true_eq_false, Bool.false_eq_true, ite_not, reduceIte, ite01_0, ite01_1, Decidable.not_not, ne_eq, not_true_eq_false, not_false_eq_true, Function.comp_apply, decide_not, Bool.not_not, Bool.not_eq_false', dc_t, dc_f, and_self, true_and, and_true, and_false, false_and, tnc]
        · left
          have hk2 : k < 180 := by omega
          have hkla : k ≤ la := by omega
          have q : (k : Int) ≤ (la : Int) := by omega
          have y0 : k < 2147483647 := by omega
          have dl : la + 1 - (k + 1) < d := by omega
          obtain ⟨ma, mb, mc, me, mf, mv, s1, s2', s3, s4, s5, niF, hmv, frF⟩ := minute n hV hS hF hw hs hg hk2 hni
          have nm := sp_noMore (n + 1) w hw hV (NI_base niF) (NI_way niF) (NI_start niF) (NI_lets niF) (NI_gon niF) (NI_pond niF) hs (k : Int)
          have f3 := i32_s y0
          obtain ⟨o, ho⟩ : ∃ o, o = nOut c w s g f k (nS c w s g f k).1 := ⟨_, rfl⟩
          rw [← ho] at s1 s2'
          have frA := fr93_t hfr frF
          have bodyE : ∀ rs2 : Int, (rs2 = if o = 0 ∧ mv = 0 ∧ mf 93 10 = 0 ∧ ((nS c w s g f (k + 1)).1 = 0 ∨ (s + c 5 w - 1 ≤ (k : Int) ∧ (g = 0 ∨ f ≤ (k : Int)))) then 1 else 0) → bIt (L_Night_pass_1c.1.2 (sem (n + 2))) (L_Night_pass_1b.1.2 (sem (n + 2))) (L_Night_pass_1s.1.2 (sem (n + 2))) [some (aR 93), some (aI (w : Int)), some (aI s), some (aI g), some (aI f), some (aI (la : Int)), some (aI 0), some (aI (k : Int)), x8, x9] m' = some (.inl (0, [some (aR 93), some (aI (w : Int)), some (aI s), some (aI g), some (aI f), some (aI (la : Int)), some (aI rs2), some (aI ((k + 1 : Nat) : Int)), some (aI o), some (aI mv)], mf)) := fun rs2 hrs => by
            refine bIt_go (m1 := m') (ls2 := [some (aR 93), some (aI (w : Int)), some (aI s), some (aI g), some (aI f), some (aI (la : Int)), some (aI rs2), some (aI (k : Int)), some (aI o), some (aI mv)]) (m2 := mf) ?_ ?_ ?_
            · generalize ((k : Nat) : Int) = kI at *
              generalize ((la : Nat) : Int) = lI at *
              simp only [L_Night_pass_1c, q, d_rLoc1, d_rLoc2, d_rFld1, d_rFld2, d_eInt, d_eLdc, d_eLdw, d_eLoc, d_eFld, d_lFld, d_eAI, d_eAZ, d_eAB, d_lAL, d_eAD, d_eLen, d_eAdd, d_eSub, d_eMul, d_eAnd, d_eOr, d_eXor, d_eShl, d_eShr, d_eUsh, d_lAdd, d_lSub, d_lMul, d_lAnd, d_lOr, d_lXor, d_lShl, d_lShr, d_eDiv, d_eRem, d_eCmp, d_eI2B, d_eI2S, d_eL2I, d_lI2L, d_lInt, d_lLdc, d_lLoc, d_eIte, d_lIte, d_eMax, d_eMin, d_eAbs, d_eAbove, d_eBodies, d_cQ, d_cZ, d_cNot, d_cAnd, d_cOr, d_gNil, d_gI, d_gL, d_gR, d_gD, d_xV, d_xS, d_xN, d_xT, d_eCall, d_lCall, d_eCallC, d_sNop, d_sSet, d_sSetL, d_sSetR, d_sSetQ, d_sInc, d_sPutI, d_sPutZ, d_sPutL, d_sPutA, d_sPutAZ, d_sPutAB, d_sPutAL, d_sPutD, d_sOpF, d_sOpA, d_sCall, d_sCopy, d_sSeq, d_sIf, d_sBrk, d_sCnt, d_sRetV, d_sRet, d_sRetL, d_sLp, d_tDef, d_tCase, d_sSw, d_sSwB, bIt_d, itb_0, itb_1, itb_2, itb_r, its_0, sqk_0, sqk_1, sqk_2, sqk_r, swk_0, swk_1, swk_r, bfin_r, bfin_ite, Option.bind_some, Option.map_some, Option.bind_none, Option.map_none, bind_ite, map_ite, cop0, cop1, cop2, cop3, cop4, cop5, opv0, opv1, opv2, opv3, brc_i, brc_z, two_ne_one, false_or, getI, getR, getL, List.getElem?_cons_zero, List.getElem?_cons_succ, List.set_cons_zero, List.set_cons_succ, bnl, if_true, if_false, true_or, or_true, decide_eq_true_eq, Bool.not_eq_true', decide_eq_false_iff_not, Bool.not_true, Bool.not_false, Bool.true_eq_false, Bool.false_eq_true, ite_not, reduceIte, ite01_0, ite01_1, Decidable.not_not, ne_eq, not_true_eq_false, not_false_eq_true, Function.comp_apply, decide_not, Bool.not_not, Bool.not_eq_false', dc_t, dc_f, and_self, true_and, and_true, and_false, false_and, tnc]
            · rw [hrs]
              generalize ((k : Nat) : Int) = kI at *
              generalize ((la : Nat) : Int) = lI at *
              generalize ((w : Nat) : Int) = wI at *
              simp only [L_Night_pass_1b, s1, s2', s3, s4, s5, nm, d_rLoc1, d_rLoc2, d_rFld1, d_rFld2, d_eInt, d_eLdc, d_eLdw, d_eLoc, d_eFld, d_lFld, d_eAI, d_eAZ, d_eAB, d_lAL, d_eAD, d_eLen, d_eAdd, d_eSub, d_eMul, d_eAnd, d_eOr, d_eXor, d_eShl, d_eShr, d_eUsh, d_lAdd, d_lSub, d_lMul, d_lAnd, d_lOr, d_lXor, d_lShl, d_lShr, d_eDiv, d_eRem, d_eCmp, d_eI2B, d_eI2S, d_eL2I, d_lI2L, d_lInt, d_lLdc, d_lLoc, d_eIte, d_lIte, d_eMax, d_eMin, d_eAbs, d_eAbove, d_eBodies, d_cQ, d_cZ, d_cNot, d_cAnd, d_cOr, d_gNil, d_gI, d_gL, d_gR, d_gD, d_xV, d_xS, d_xN, d_xT, d_eCall, d_lCall, d_eCallC, d_sNop, d_sSet, d_sSetL, d_sSetR, d_sSetQ, d_sInc, d_sPutI, d_sPutZ, d_sPutL, d_sPutA, d_sPutAZ, d_sPutAB, d_sPutAL, d_sPutD, d_sOpF, d_sOpA, d_sCall, d_sCopy, d_sSeq, d_sIf, d_sBrk, d_sCnt, d_sRetV, d_sRet, d_sRetL, d_sLp, d_tDef, d_tCase, d_sSw, d_sSwB, bIt_d, itb_0, itb_1, itb_2, itb_r, its_0, sqk_0, sqk_1, sqk_2, sqk_r, swk_0, swk_1, swk_r, bfin_r, bfin_ite, Option.bind_some, Option.map_some, Option.bind_none, Option.map_none, bind_ite, map_ite, cop0, cop1, cop2, cop3, cop4, cop5, opv0, opv1, opv2, opv3, brc_i, brc_z, two_ne_one, false_or, getI, getR, getL, List.getElem?_cons_zero, List.getElem?_cons_succ, List.set_cons_zero, List.set_cons_succ, bnl, if_true, if_false, true_or, or_true, decide_eq_true_eq, Bool.not_eq_true', decide_eq_false_iff_not, Bool.not_true, Bool.not_false, Bool.true_eq_false, Bool.false_eq_true, ite_not, reduceIte, ite01_0, ite01_1, Decidable.not_not, ne_eq, not_true_eq_false, not_false_eq_true, Function.comp_apply, decide_not, Bool.not_not, Bool.not_eq_false', dc_t, dc_f, and_self, true_and, and_true, and_false, false_and, tnc]
              by_cases q1 : o = 0 <;> by_cases q2 : mv = 0 <;> by_cases q3 : mf 93 10 = 0 <;> by_cases q4 : ((nS c w s g f (k + 1)).1 = 0 ∨ (s + c 5 w - 1 ≤ kI ∧ (g = 0 ∨ f ≤ kI))) <;> simp [q1, q2, q3, q4]
            · simp only [L_Night_pass_1s, f3, d_rLoc1, d_rLoc2, d_rFld1, d_rFld2, d_eInt, d_eLdc, d_eLdw, d_eLoc, d_eFld, d_lFld, d_eAI, d_eAZ, d_eAB, d_lAL, d_eAD, d_eLen, d_eAdd, d_eSub, d_eMul, d_eAnd, d_eOr, d_eXor, d_eShl, d_eShr, d_eUsh, d_lAdd, d_lSub, d_lMul, d_lAnd, d_lOr, d_lXor, d_lShl, d_lShr, d_eDiv, d_eRem, d_eCmp, d_eI2B, d_eI2S, d_eL2I, d_lI2L, d_lInt, d_lLdc, d_lLoc, d_eIte, d_lIte, d_eMax, d_eMin, d_eAbs, d_eAbove, d_eBodies, d_cQ, d_cZ, d_cNot, d_cAnd, d_cOr, d_gNil, d_gI, d_gL, d_gR, d_gD, d_xV, d_xS, d_xN, d_xT, d_eCall, d_lCall, d_eCallC, d_sNop, d_sSet, d_sSetL, d_sSetR, d_sSetQ, d_sInc, d_sPutI, d_sPutZ, d_sPutL, d_sPutA, d_sPutAZ, d_sPutAB, d_sPutAL, d_sPutD, d_sOpF, d_sOpA, d_sCall, d_sCopy, d_sSeq, d_sIf, d_sBrk, d_sCnt, d_sRetV, d_sRet, d_sRetL, d_sLp, d_tDef, d_tCase, d_sSw, d_sSwB, bIt_d, itb_0, itb_1, itb_2, itb_r, its_0, sqk_0, sqk_1, sqk_2, sqk_r, swk_0, swk_1, swk_r, bfin_r, bfin_ite, Option.bind_some, Option.map_some, Option.bind_none, Option.map_none, bind_ite, map_ite, cop0, cop1, cop2, cop3, cop4, cop5, opv0, opv1, opv2, opv3, brc_i, brc_z, two_ne_one, false_or, getI, getR, getL, List.getElem?_cons_zero, List.getElem?_cons_succ, List.set_cons_zero, List.set_cons_succ, bnl, if_true, if_false, true_or, or_true, decide_eq_true_eq, Bool.not_eq_true', decide_eq_false_iff_not, Bool.not_true, Bool.not_false, Bool.true_eq_false, Bool.false_eq_true, ite_not, reduceIte, ite01_0, ite01_1, Decidable.not_not, ne_eq, not_true_eq_false, not_false_eq_true, Function.comp_apply, decide_not, Bool.not_not, Bool.not_eq_false', dc_t, dc_f, and_self, true_and, and_true, and_false, false_and, tnc]
          by_cases qr : o = 0 ∧ mv = 0 ∧ mf 93 10 = 0 ∧ ((nS c w s g f (k + 1)).1 = 0 ∨ (s + c 5 w - 1 ≤ (k : Int) ∧ (g = 0 ∨ f ≤ (k : Int))))
          · have rc : rstC c w s g f k := ⟨by rw [← ho]; exact qr.1, hmv qr.2.1, qr.2.2.2⟩
            have nx := NI_ext hV hS hw hg.1 niF rc qr.2.2.1 (la - k)
            rw [show k + 1 + (la - k) = la + 1 by clear f3 nm; omega] at nx
            exact ⟨la + 1 - (k + 1), _, mf, dl, bodyE 1 (by rw [if_pos qr]), k + 1, 1, _, _, rfl, rfl, Nat.succ_le_succ hkla, frA, Or.inr ⟨rfl, nx⟩⟩
          · exact ⟨la + 1 - (k + 1), _, mf, dl, bodyE 0 (by rw [if_neg qr]), k + 1, 0, _, _, rfl, rfl, Nat.succ_le_succ hkla, frA, Or.inl ⟨rfl, niF⟩⟩
      · right; left
        refine ⟨[some (aR 93), some (aI (w : Int)), some (aI s), some (aI g), some (aI f), some (aI (la : Int)), some (aI 1), some (aI (k : Int)), x8, x9], m', bIt_ex ?_, hfr, hni⟩
        generalize ((k : Nat) : Int) = kI at *
        generalize ((la : Nat) : Int) = lI at *
        by_cases q : kI ≤ lI
        · simp only [L_Night_pass_1c, q, d_rLoc1, d_rLoc2, d_rFld1, d_rFld2, d_eInt, d_eLdc, d_eLdw, d_eLoc, d_eFld, d_lFld, d_eAI, d_eAZ, d_eAB, d_lAL, d_eAD, d_eLen, d_eAdd, d_eSub, d_eMul, d_eAnd, d_eOr, d_eXor, d_eShl, d_eShr, d_eUsh, d_lAdd, d_lSub, d_lMul, d_lAnd, d_lOr, d_lXor, d_lShl, d_lShr, d_eDiv, d_eRem, d_eCmp, d_eI2B, d_eI2S, d_eL2I, d_lI2L, d_lInt, d_lLdc, d_lLoc, d_eIte, d_lIte, d_eMax, d_eMin, d_eAbs, d_eAbove, d_eBodies, d_cQ, d_cZ, d_cNot, d_cAnd, d_cOr, d_gNil, d_gI, d_gL, d_gR, d_gD, d_xV, d_xS, d_xN, d_xT, d_eCall, d_lCall, d_eCallC, d_sNop, d_sSet, d_sSetL, d_sSetR, d_sSetQ, d_sInc, d_sPutI, d_sPutZ, d_sPutL, d_sPutA, d_sPutAZ, d_sPutAB, d_sPutAL, d_sPutD, d_sOpF, d_sOpA, d_sCall, d_sCopy, d_sSeq, d_sIf, d_sBrk, d_sCnt, d_sRetV, d_sRet, d_sRetL, d_sLp, d_tDef, d_tCase, d_sSw, d_sSwB, bIt_d, itb_0, itb_1, itb_2, itb_r, its_0, sqk_0, sqk_1, sqk_2, sqk_r, swk_0, swk_1, swk_r, bfin_r, bfin_ite, Option.bind_some, Option.map_some, Option.bind_none, Option.map_none, bind_ite, map_ite, cop0, cop1, cop2, cop3, cop4, cop5, opv0, opv1, opv2, opv3, brc_i, brc_z, two_ne_one, false_or, getI, getR, getL, List.getElem?_cons_zero, List.getElem?_cons_succ, List.set_cons_zero, List.set_cons_succ, bnl, if_true, if_false, true_or, or_true, decide_eq_true_eq, Bool.not_eq_true', decide_eq_false_iff_not, Bool.not_true, Bool.not_false, Bool.true_eq_false, Bool.false_eq_true, ite_not, reduceIte, ite01_0, ite01_1, Decidable.not_not, ne_eq, not_true_eq_false, not_false_eq_true, Function.comp_apply, decide_not, Bool.not_not, Bool.not_eq_false', dc_t, dc_f, and_self, true_and, and_true, and_false, false_and, tnc, Int.reduceLT, Int.reduceLE, Int.reduceEq, Int.reduceAdd, Int.reduceSub, Int.reduceMul, Int.reduceToNat, Int.reduceNeg, Int.reduceNe]
        · simp only [L_Night_pass_1c, q, d_rLoc1, d_rLoc2, d_rFld1, d_rFld2, d_eInt, d_eLdc, d_eLdw, d_eLoc, d_eFld, d_lFld, d_eAI, d_eAZ, d_eAB, d_lAL, d_eAD, d_eLen, d_eAdd, d_eSub, d_eMul, d_eAnd, d_eOr, d_eXor, d_eShl, d_eShr, d_eUsh, d_lAdd, d_lSub, d_lMul, d_lAnd, d_lOr, d_lXor, d_lShl, d_lShr, d_eDiv, d_eRem, d_eCmp, d_eI2B, d_eI2S, d_eL2I, d_lI2L, d_lInt, d_lLdc, d_lLoc, d_eIte, d_lIte, d_eMax, d_eMin, d_eAbs, d_eAbove, d_eBodies, d_cQ, d_cZ, d_cNot, d_cAnd, d_cOr, d_gNil, d_gI, d_gL, d_gR, d_gD, d_xV, d_xS, d_xN, d_xT, d_eCall, d_lCall, d_eCallC, d_sNop, d_sSet, d_sSetL, d_sSetR, d_sSetQ, d_sInc, d_sPutI, d_sPutZ, d_sPutL, d_sPutA, d_sPutAZ, d_sPutAB, d_sPutAL, d_sPutD, d_sOpF, d_sOpA, d_sCall, d_sCopy, d_sSeq, d_sIf, d_sBrk, d_sCnt, d_sRetV, d_sRet, d_sRetL, d_sLp, d_tDef, d_tCase, d_sSw, d_sSwB, bIt_d, itb_0, itb_1, itb_2, itb_r, its_0, sqk_0, sqk_1, sqk_2, sqk_r, swk_0, swk_1, swk_r, bfin_r, bfin_ite, Option.bind_some, Option.map_some, Option.bind_none, Option.map_none, bind_ite, map_ite, cop0, cop1, cop2, cop3, cop4, cop5, opv0, opv1, opv2, opv3, brc_i, brc_z, two_ne_one, false_or, getI, getR, getL, List.getElem?_cons_zero, List.getElem?_cons_succ, List.set_cons_zero, List.set_cons_succ, bnl, if_true, if_false, true_or, or_true, decide_eq_true_eq, Bool.not_eq_true', decide_eq_false_iff_not, Bool.not_true, Bool.not_false, Bool.true_eq_false, Bool.false_eq_true, ite_not, reduceIte, ite01_0, ite01_1, Decidable.not_not, ne_eq, not_true_eq_false, not_false_eq_true, Function.comp_apply, decide_not, Bool.not_not, Bool.not_eq_false', dc_t, dc_f, and_self, true_and, and_true, and_false, false_and, tnc]) bF (la + 1) [some (aR 93), some (aI (w : Int)), some (aI s), some (aI g), some (aI f), some (aI (la : Int)), some (aI 0), some (aI 0), none, none] m2 (by show la + 1 < 1000; omega) ⟨0, 0, none, none, rfl, rfl, Nat.zero_le _, fr93_r m2, Or.inl ⟨rfl, ni2⟩⟩
  rcases key with ⟨ls', m3, e3, hfr3, hni3⟩ | ⟨_, _, _, hx⟩
  · refine ⟨m3, ?_, hni3, fr93_t fr1 (fr93_t fr2 hfr3)⟩
    have e4 : L_Night_pass_1.1.2 (sem (n + 2)) [some (aR 93), some (aI (w : Int)), some (aI s), some (aI g), some (aI f), some (aI (la : Int)), some (aI 0), some (aI 0), none, none] m2 = some (.inl (0, ls', m3)) := by
      unfold L_Night_pass_1
      rw [d_sLp]
      exact e3
    rw [st_Night_pass]
    unfold B_Night_pass
    revert e4
    generalize L_Night_pass_1 = LL
    intro e4
    generalize ((w : Nat) : Int) = wI at *
    generalize ((la : Nat) : Int) = lI at *
    simp only [kr_Night_pass, ← hm1, s2, e4, d_rLoc1, d_rLoc2, d_rFld1, d_rFld2, d_eInt, d_eLdc, d_eLdw, d_eLoc, d_eFld, d_lFld, d_eAI, d_eAZ, d_eAB, d_lAL, d_eAD, d_eLen, d_eAdd, d_eSub, d_eMul, d_eAnd, d_eOr, d_eXor, d_eShl, d_eShr, d_eUsh, d_lAdd, d_lSub, d_lMul, d_lAnd, d_lOr, d_lXor, d_lShl, d_lShr, d_eDiv, d_eRem, d_eCmp, d_eI2B, d_eI2S, d_eL2I, d_lI2L, d_lInt, d_lLdc, d_lLoc, d_eIte, d_lIte, d_eMax, d_eMin, d_eAbs, d_eAbove, d_eBodies, d_cQ, d_cZ, d_cNot, d_cAnd, d_cOr, d_gNil, d_gI, d_gL, d_gR, d_gD, d_xV, d_xS, d_xN, d_xT, d_eCall, d_lCall, d_eCallC, d_sNop, d_sSet, d_sSetL, d_sSetR, d_sSetQ, d_sInc, d_sPutI, d_sPutZ, d_sPutL, d_sPutA, d_sPutAZ, d_sPutAB, d_sPutAL, d_sPutD, d_sOpF, d_sOpA, d_sCall, d_sCopy, d_sSeq, d_sIf, d_sBrk, d_sCnt, d_sRetV, d_sRet, d_sRetL, d_sLp, d_tDef, d_tCase, d_sSw, d_sSwB, bIt_d, itb_0, itb_1, itb_2, itb_r, its_0, sqk_0, sqk_1, sqk_2, sqk_r, swk_0, swk_1, swk_r, bfin_r, bfin_ite, Option.bind_some, Option.map_some, Option.bind_none, Option.map_none, bind_ite, map_ite, cop0, cop1, cop2, cop3, cop4, cop5, opv0, opv1, opv2, opv3, brc_i, brc_z, two_ne_one, false_or, getI, getR, getL, List.getElem?_cons_zero, List.getElem?_cons_succ, List.set_cons_zero, List.set_cons_succ, bnl, if_true, if_false, true_or, or_true, decide_eq_true_eq, Bool.not_eq_true', decide_eq_false_iff_not, Bool.not_true, Bool.not_false, Bool.true_eq_false, Bool.false_eq_true, ite_not, reduceIte, ite01_0, ite01_1, Decidable.not_not, ne_eq, not_true_eq_false, not_false_eq_true, Function.comp_apply, decide_not, Bool.not_not, Bool.not_eq_false', dc_t, dc_f, and_self, true_and, and_true, and_false, false_and, tnc]
  · exact hx.elim
