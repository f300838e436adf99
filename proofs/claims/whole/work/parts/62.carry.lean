/-! ===== things that are carried, things that are let go ===== -/
theorem jor_ins (p : Nat → Bool) {k n : Nat} (hk : k < n) (hn : n ≤ 31) : jor (bst p n : Int) (jshl 1 (k : Int)) = (bst (fun t => p t || decide (t = k)) n : Int) := by
  have l1 : k < 31 := by omega
  have l2 : 2 ^ k < 2147483648 := Nat.pow_lt_pow_right (n := 31) (by decide) l1
  rw [jshl_nat l1, jor_nat (bst_lt31 p hn) l2]
  congr 1
  apply Nat.eq_of_testBit_eq
  intro i
  rw [Nat.testBit_or, bst_bit, bst_bit, Nat.testBit_two_pow]
  by_cases q : k = i
  · subst q; simp [hk]
  · have q2 : ¬ i = k := fun e => q e.symm
    simp [q, q2]
theorem jand_del (p : Nat → Bool) {k n : Nat} (hk : k < n) (hn : n ≤ 31) : jand (bst p n : Int) (jxor (jshl 1 (k : Int)) (-1)) = (bst (fun t => p t && !decide (t = k)) n : Int) := by
  have l1 : k < 31 := by omega
  rw [jshl_nat l1, jandn_nat (bst_lt31 p hn)]
  congr 1
  apply Nat.eq_of_testBit_eq
  intro i
  rw [sub1_bit, bst_bit, bst_bit, Nat.testBit_two_pow]
  by_cases q : k = i
  · subst q; simp
  · have q2 : ¬ i = k := fun e => q e.symm
    simp [q, q2]
theorem bst_0i {p : Nat → Bool} {n : Nat} (h : (bst p n : Int) = 0) : ∀ k, k < n → p k = false := bst_ne0.mp (by omega)
theorem nlt_s {t k : Nat} (q : ¬ t = k) (q2 : ¬ t < k) : ¬ t < k + 1 := by omega
theorem c12 {a : Nat} : (12 ≤ (a : Int)) ↔ 12 ≤ a := by omega
def cGo (P : Nat → Bool) (G : Nat → Bool) : Nat → Option bV
  | 0 => none
  | k + 1 => if P k = true then some (aI (if G k = true then 1 else 0)) else cGo P G k
theorem sp_carry (n : Nat) {c r m : bM} (hV : RelV c r) (hF : RelF c r) (hb : bse c m) {wt : Nat → Int} (hwt : ∀ x, x < 12 → m 94 x = wt x ∧ 0 ≤ wt x ∧ wt x ≤ 9999) (P : Nat → Bool) (Q : Nat → Nat) (T : Nat) (hT : c 37 14 = (T : Int)) (hP : m 93 10 = (bst P T : Int)) (hQ : ∀ t, t < T → m 100 t = (Q t : Int) ∧ Q t ≤ 12 ∧ (P t = true → Q t < 12)) : ∃ m2, sem (n + 2) 252 [aR 93] m = some (m2, 0) ∧ (∀ t, t < T → m2 100 t = ((if P t = true ∧ c 46 t ≤ wt (Q t) / c 2 (Q t) then Q t + 1 else Q t : Nat) : Int)) ∧ m2 93 10 = (bst (fun t => P t && (decide (c 46 t ≤ wt (Q t) / c 2 (Q t)) && decide (Q t + 1 < 12))) T : Int) ∧ (∀ k, k ≠ 10 → m2 93 k = m 93 k) ∧ (∀ i, i ≠ 93 → i ≠ 100 → m2 i = m i) := by
  have hT12 := RelF_rthings hF
  have hT2 : T ≤ 12 := by omega
  have hT31 : T ≤ 31 := by omega
  have hT1k : T < 1000 := by omega
  obtain ⟨G, hG⟩ : ∃ G : Nat → Bool, G = fun t => decide (c 46 t ≤ wt (Q t) / c 2 (Q t)) := ⟨_, rfl⟩
  obtain ⟨R, hR⟩ : ∃ R : Nat → Bool, R = fun t => P t && (G t && decide (Q t + 1 < 12)) := ⟨_, rfl⟩
  obtain ⟨W, hW⟩ : ∃ W : Nat → Nat, W = fun t => if P t = true ∧ G t = true then Q t + 1 else Q t := ⟨_, rfl⟩
  have goal : (∃ m2, sem (n + 2) 252 [aR 93] m = some (m2, 0) ∧ (∀ t, t < T → m2 100 t = (W t : Int)) ∧ m2 93 10 = (bst R T : Int) ∧ (∀ k, k ≠ 10 → m2 93 k = m 93 k) ∧ (∀ i, i ≠ 93 → i ≠ 100 → m2 i = m i)) := by
    by_cases h0 : (bst P T : Int) = 0
    · have hz := bst_0i h0
      refine ⟨m, ?_, fun t ht => ?_, ?_, fun _ _ => rfl, fun _ _ _ => rfl⟩
      · rw [st_Night_carry]
        unfold B_Night_carry
        generalize L_Night_carry_1 = LL
        simp only [kr_Night_carry, hP, h0, d_rLoc1, d_rLoc2, d_rFld1, d_rFld2, d_eInt, d_eLdc, d_eLdw, d_eLoc, d_eFld, d_lFld, d_eAI, d_eAZ, d_eAB, d_lAL, d_eAD, d_eLen, d_eAdd, d_eSub, d_eMul, d_eAnd, d_eOr, d_eXor, d_eShl, d_eShr, d_eUsh, d_lAdd, d_lSub, d_lMul, d_lAnd, d_lOr, d_lXor, d_lShl, d_lShr, d_eDiv, d_eRem, d_eCmp, d_eI2B, d_eI2S, d_eL2I, d_lI2L, d_lInt, d_lLdc, d_lLoc, d_eIte, d_lIte, d_eMax, d_eMin, d_eAbs, d_eAbove, d_eBodies, d_cQ, d_cZ, d_cNot, d_cAnd, d_cOr, d_gNil, d_gI, d_gL, d_gR, d_gD, d_xV, d_xS, d_xN, d_xT, d_eCall, d_lCall, d_eCallC, d_sNop, d_sSet, d_sSetL, d_sSetR, d_sSetQ, d_sInc, d_sPutI, d_sPutZ, d_sPutL, d_sPutA, d_sPutAZ, d_sPutAB, d_sPutAL, d_sPutD, d_sOpF, d_sOpA, d_sCall, d_sCopy, d_sSeq, d_sIf, d_sBrk, d_sCnt, d_sRetV, d_sRet, d_sRetL, d_sLp, d_tDef, d_tCase, d_sSw, d_sSwB, bIt_d, itb_0, itb_1, itb_2, itb_r, its_0, sqk_0, sqk_1, sqk_2, sqk_r, swk_0, swk_1, swk_r, bfin_r, bfin_ite, Option.bind_some, Option.map_some, Option.bind_none, Option.map_none, bind_ite, map_ite, cop0, cop1, cop2, cop3, cop4, cop5, opv0, opv1, opv2, opv3, brc_i, brc_z, two_ne_one, false_or, getI, getR, getL, List.getElem?_cons_zero, List.getElem?_cons_succ, List.set_cons_zero, List.set_cons_succ, bnl, if_true, if_false, true_or, or_true, decide_eq_true_eq, Bool.not_eq_true', decide_eq_false_iff_not, Bool.not_true, Bool.not_false, Bool.true_eq_false, Bool.false_eq_true, ite_not, reduceIte, ite01_0, ite01_1, Decidable.not_not, ne_eq, not_true_eq_false, not_false_eq_true, Function.comp_apply, decide_not, Bool.not_not, Bool.not_eq_false', dc_t, dc_f, and_self, true_and, and_true, and_false, false_and, tnc]
      · rw [hW, (hQ t ht).1]
        show (Q t : Int) = ((if P t = true ∧ G t = true then Q t + 1 else Q t : Nat) : Int)
        rw [if_neg (fun q => by rw [hz t ht] at q; cases q.1)]
      · rw [hP, h0, bst_0 (fun k hk => by rw [hR]; show (P k && _) = false; rw [hz k hk]; rfl)]
        rfl
    · have hl := lp_m (c := L_Night_carry_1c.1.2 (sem (n + 1))) (b := L_Night_carry_1b.1.2 (sem (n + 1))) (s := L_Night_carry_1s.1.2 (sem (n + 1))) (m := m)
        (fun k => [some (aR 93), some (aI (k : Int)), cGo P G k])
        (fun k m' => (∀ t, t < T → m' 100 t = ((if t < k then W t else Q t : Nat) : Int)) ∧ m' 93 10 = (bst (fun t => if t < k then R t else P t) T : Int) ∧ (∀ k, k ≠ 10 → m' 93 k = m 93 k) ∧ (∀ i, i ≠ 93 → i ≠ 100 → m' i = m i)) T hT1k
        ⟨fun t ht => by rw [if_neg (Nat.not_lt_zero t)]; exact (hQ t ht).1, by rw [hP]; congr 1, fun _ _ => rfl, fun _ _ _ => rfl⟩
        (fun k m' hk hI => by
          obtain ⟨i1, i2, i3, i4⟩ := hI
          have hb' : bse c m' := fun i hi => by rw [i4 i (by omega) (by omega)]; exact hb i hi
          have b37 := hb' 37 (by decide)
          have b46 := hb' 46 (by decide)
          obtain ⟨q1, q2, q3⟩ := hQ k hk
          have w1 : m' 100 k = (Q k : Int) := by rw [i1 k hk, if_neg (by omega)]
          have f1 : (k : Int) < (T : Int) := by omega
          have f2 : 0 ≤ (k : Int) ∧ (k : Int) < ((12 : Nat) : Int) := by omega
          have y0 : k < 2147483647 := by omega
          have y1 : Q k < 2147483647 := by omega
          have l1 : k < 31 := by omega
          have l2 := bst_lt31 (fun t => if t < k then R t else P t) (n := T) (by omega)
          have bk : (bst (fun t => if t < k then R t else P t) T).testBit k = P k := by
            rw [bst_bit, if_neg (Nat.lt_irrefl k)]
            simp [hk]
          have f3 := i32_s y0
          have b1 := jbit l2 l1
          rw [bk] at b1
          have tk := tnc k
          cases hPk : P k with
          | false =>
            have e1 : R k = false := by rw [hR]; show (P k && _) = false; rw [hPk]; rfl
            refine ⟨m', ?_, fun t ht => ?_, ?_, i3, i4⟩
            · have eg : cGo P G (k + 1) = cGo P G k := by show (if P k = true then _ else _) = _; rw [hPk]; rfl
              rw [hPk] at b1
              rw [eg]
              refine bIt_cn (m1 := m') (ls2 := [some (aR 93), some (aI (k : Int)), cGo P G k]) (m2 := m') ?_ ?_ ?_
              · simp only [L_Night_carry_1c, b37, hT, f1, d_rLoc1, d_rLoc2, d_rFld1, d_rFld2, d_eInt, d_eLdc, d_eLdw, d_eLoc, d_eFld, d_lFld, d_eAI, d_eAZ, d_eAB, d_lAL, d_eAD, d_eLen, d_eAdd, d_eSub, d_eMul, d_eAnd, d_eOr, d_eXor, d_eShl, d_eShr, d_eUsh, d_lAdd, d_lSub, d_lMul, d_lAnd, d_lOr, d_lXor, d_lShl, d_lShr, d_eDiv, d_eRem, d_eCmp, d_eI2B, d_eI2S, d_eL2I, d_lI2L, d_lInt, d_lLdc, d_lLoc, d_eIte, d_lIte, d_eMax, d_eMin, d_eAbs, d_eAbove, d_eBodies, d_cQ, d_cZ, d_cNot, d_cAnd, d_cOr, d_gNil, d_gI, d_gL, d_gR, d_gD, d_xV, d_xS, d_xN, d_xT, d_eCall, d_lCall, d_eCallC, d_sNop, d_sSet, d_sSetL, d_sSetR, d_sSetQ, d_sInc, d_sPutI, d_sPutZ, d_sPutL, d_sPutA, d_sPutAZ, d_sPutAB, d_sPutAL, d_sPutD, d_sOpF, d_sOpA, d_sCall, d_sCopy, d_sSeq, d_sIf, d_sBrk, d_sCnt, d_sRetV, d_sRet, d_sRetL, d_sLp, d_tDef, d_tCase, d_sSw, d_sSwB, bIt_d, itb_0, itb_1, itb_2, itb_r, its_0, sqk_0, sqk_1, sqk_2, sqk_r, swk_0, swk_1, swk_r, bfin_r, bfin_ite, Option.bind_some, Option.map_some, Option.bind_none, Option.map_none, bind_ite, map_ite, cop0, cop1, cop2, cop3, cop4, cop5, opv0, opv1, opv2, opv3, brc_i, brc_z, two_ne_one, false_or, getI, getR, getL, List.getElem?_cons_zero, List.getElem?_cons_succ, List.set_cons_zero, List.set_cons_succ, bnl, if_true, if_false, true_or, or_true, decide_eq_true_eq, Bool.not_eq_true', decide_eq_false_iff_not, Bool.not_true, Bool.not_false, Bool.true_eq_false, Bool.false_eq_true, ite_not, reduceIte, ite01_0, ite01_1, Decidable.not_not, ne_eq, not_true_eq_false, not_false_eq_true, Function.comp_apply, decide_not, Bool.not_not, Bool.not_eq_false', dc_t, dc_f, and_self, true_and, and_true, and_false, false_and, tnc]
              · generalize ((k : Nat) : Int) = kI at *
                simp only [L_Night_carry_1b, i2, b1, d_rLoc1, d_rLoc2, d_rFld1, d_rFld2, d_eInt, d_eLdc, d_eLdw, d_eLoc, d_eFld, d_lFld, d_eAI, d_eAZ, d_eAB, d_lAL, d_eAD, d_eLen, d_eAdd, d_eSub, d_eMul, d_eAnd, d_eOr, d_eXor, d_eShl, d_eShr, d_eUsh, d_lAdd, d_lSub, d_lMul, d_lAnd, d_lOr, d_lXor, d_lShl, d_lShr, d_eDiv, d_eRem, d_eCmp, d_eI2B, d_eI2S, d_eL2I, d_lI2L, d_lInt, d_lLdc, d_lLoc, d_eIte, d_lIte, d_eMax, d_eMin, d_eAbs, d_eAbove, d_eBodies, d_cQ, d_cZ, d_cNot, d_cAnd, d_cOr, d_gNil, d_gI, d_gL, d_gR, d_gD, d_xV, d_xS, d_xN, d_xT, d_eCall, d_lCall, d_eCallC, d_sNop, d_sSet, d_sSetL, d_sSetR, d_sSetQ, d_sInc, d_sPutI, d_sPutZ, d_sPutL, d_sPutA, d_sPutAZ, d_sPutAB, d_sPutAL, d_sPutD, d_sOpF, d_sOpA, d_sCall, d_sCopy, d_sSeq, d_sIf, d_sBrk, d_sCnt, d_sRetV, d_sRet, d_sRetL, d_sLp, d_tDef, d_tCase, d_sSw, d_sSwB, bIt_d, itb_0, itb_1, itb_2, itb_r, its_0, sqk_0, sqk_1, sqk_2, sqk_r, swk_0, swk_1, swk_r, bfin_r, bfin_ite, Option.bind_some, Option.map_some, Option.bind_none, Option.map_none, bind_ite, map_ite, cop0, cop1, cop2, cop3, cop4, cop5, opv0, opv1, opv2, opv3, brc_i, brc_z, two_ne_one, false_or, getI, getR, getL, List.getElem?_cons_zero, List.getElem?_cons_succ, List.set_cons_zero, List.set_cons_succ, bnl, if_true, if_false, true_or, or_true, decide_eq_true_eq, Bool.not_eq_true', decide_eq_false_iff_not, Bool.not_true, Bool.not_false, Bool.true_eq_false, Bool.false_eq_true, ite_not, reduceIte, ite01_0, ite01_1, Decidable.not_not, ne_eq, not_true_eq_false, not_false_eq_true, Function.comp_apply, decide_not, Bool.not_not, Bool.not_eq_false', dc_t, dc_f, and_self, true_and, and_true, and_false, false_and, tnc]
              · simp only [L_Night_carry_1s, f3, d_rLoc1, d_rLoc2, d_rFld1, d_rFld2, d_eInt, d_eLdc, d_eLdw, d_eLoc, d_eFld, d_lFld, d_eAI, d_eAZ, d_eAB, d_lAL, d_eAD, d_eLen, d_eAdd, d_eSub, d_eMul, d_eAnd, d_eOr, d_eXor, d_eShl, d_eShr, d_eUsh, d_lAdd, d_lSub, d_lMul, d_lAnd, d_lOr, d_lXor, d_lShl, d_lShr, d_eDiv, d_eRem, d_eCmp, d_eI2B, d_eI2S, d_eL2I, d_lI2L, d_lInt, d_lLdc, d_lLoc, d_eIte, d_lIte, d_eMax, d_eMin, d_eAbs, d_eAbove, d_eBodies, d_cQ, d_cZ, d_cNot, d_cAnd, d_cOr, d_gNil, d_gI, d_gL, d_gR, d_gD, d_xV, d_xS, d_xN, d_xT, d_eCall, d_lCall, d_eCallC, d_sNop, d_sSet, d_sSetL, d_sSetR, d_sSetQ, d_sInc, d_sPutI, d_sPutZ, d_sPutL, d_sPutA, d_sPutAZ, d_sPutAB, d_sPutAL, d_sPutD, d_sOpF, d_sOpA, d_sCall, d_sCopy, d_sSeq, d_sIf, d_sBrk, d_sCnt, d_sRetV, d_sRet, d_sRetL, d_sLp, d_tDef, d_tCase, d_sSw, d_sSwB, bIt_d, itb_0, itb_1, itb_2, itb_r, its_0, sqk_0, sqk_1, sqk_2, sqk_r, swk_0, swk_1, swk_r, bfin_r, bfin_ite, Option.bind_some, Option.map_some, Option.bind_none, Option.map_none, bind_ite, map_ite, cop0, cop1, cop2, cop3, cop4, cop5, opv0, opv1, opv2, opv3, brc_i, brc_z, two_ne_one, false_or, getI, getR, getL, List.getElem?_cons_zero, List.getElem?_cons_succ, List.set_cons_zero, List.set_cons_succ, bnl, if_true, if_false, true_or, or_true, decide_eq_true_eq, Bool.not_eq_true', decide_eq_false_iff_not, Bool.not_true, Bool.not_false, Bool.true_eq_false, Bool.false_eq_true, ite_not, reduceIte, ite01_0, ite01_1, Decidable.not_not, ne_eq, not_true_eq_false, not_false_eq_true, Function.comp_apply, decide_not, Bool.not_not, Bool.not_eq_false', dc_t, dc_f, and_self, true_and, and_true, and_false, false_and, tnc]
            · rw [i1 t ht]
              congr 1
              by_cases q : t = k
              · subst q
                rw [if_neg (Nat.lt_irrefl t), if_pos (Nat.lt_succ_self t), hW]
                show Q t = if P t = true ∧ G t = true then Q t + 1 else Q t
                rw [if_neg (fun q => by rw [hPk] at q; cases q.1)]
              · by_cases q2 : t < k
                · rw [if_pos q2, if_pos (Nat.lt_succ_of_lt q2)]
                · rw [if_neg q2, if_neg (nlt_s q q2)]
            · rw [i2]
              congr 1
              apply bst_congr
              intro t ht
              by_cases q : t = k
              · subst q
                rw [if_neg (Nat.lt_irrefl t), if_pos (Nat.lt_succ_self t), e1, hPk]
              · by_cases q2 : t < k
                · rw [if_pos q2, if_pos (Nat.lt_succ_of_lt q2)]
                · rw [if_neg q2, if_neg (nlt_s q q2)]
          | true =>
            have q4 := q3 hPk
            have eg : cGo P G (k + 1) = some (aI (if G k = true then 1 else 0)) := by show (if P k = true then _ else _) = _; rw [hPk]; rfl
            have hw2 : m' 94 (Q k) = wt (Q k) := by rw [i4 _ (by decide) (by decide)]; exact (hwt _ q4).1
            have dn := sp_depthNow n (Q k) q4 hV hb' (by rw [hw2]; exact (hwt _ q4).2)
            rw [hw2] at dn
            have gk : G k = decide (c 46 k ≤ wt (Q k) / c 2 (Q k)) := by rw [hG]
            have dl := jand_del (fun t => if t < k then R t else P t) hk hT31
            have x1 := i32_s y1
            rw [hPk] at b1
            have bR : ∀ (v : Bool), R k = v → (fun t => if t < k + 1 then R t else P t) = fun t => if t = k then v else (if t < k then R t else P t) := fun v hv => by
              funext t
              by_cases q : t = k
              · subst q; rw [if_pos (Nat.lt_succ_self t), if_pos rfl, hv]
              · rw [if_neg q]
                by_cases q2 : t < k
                · rw [if_pos q2, if_pos (Nat.lt_succ_of_lt q2)]
                · rw [if_neg q2, if_neg (nlt_s q q2)]
            have eT : ∀ (v : Nat), W k = v → ∀ t, t < T → (if t < k + 1 then W t else Q t) = if t = k then v else (if t < k then W t else Q t) := fun v hv t _ => by
              by_cases q : t = k
              · subst q; rw [if_pos (Nat.lt_succ_self t), if_pos rfl, hv]
              · rw [if_neg q]
                by_cases q2 : t < k
                · rw [if_pos q2, if_pos (Nat.lt_succ_of_lt q2)]
                · rw [if_neg q2, if_neg (nlt_s q q2)]
            cases hGk : G k with
            | false =>
              have g1 : ¬ c 46 k ≤ wt (Q k) / c 2 (Q k) := of_decide_eq_false (gk.symm.trans hGk)
              have e1 : R k = false := by rw [hR]; show (P k && (G k && _)) = false; rw [hPk, hGk]; rfl
              have e2 : W k = Q k := by rw [hW]; show (if P k = true ∧ G k = true then Q k + 1 else Q k) = Q k; rw [if_neg (fun q => by rw [hGk] at q; cases q.2)]
              refine ⟨bwr m' 93 10 (bst (fun t => (fun t => if t < k then R t else P t) t && !decide (t = k)) T : Int), ?_, fun t ht => ?_, ?_, fun k hk => ?_, fun i a b => ?_⟩
              · rw [eg, hGk]
                refine bIt_go (m1 := m') (ls2 := [some (aR 93), some (aI (k : Int)), some (aI 0)]) (m2 := bwr m' 93 10 (bst (fun t => (fun t => if t < k then R t else P t) t && !decide (t = k)) T : Int)) ?_ ?_ ?_
                · simp only [L_Night_carry_1c, b37, hT, f1, d_rLoc1, d_rLoc2, d_rFld1, d_rFld2, d_eInt, d_eLdc, d_eLdw, d_eLoc, d_eFld, d_lFld, d_eAI, d_eAZ, d_eAB, d_lAL, d_eAD, d_eLen, d_eAdd, d_eSub, d_eMul, d_eAnd, d_eOr, d_eXor, d_eShl, d_eShr, d_eUsh, d_lAdd, d_lSub, d_lMul, d_lAnd, d_lOr, d_lXor, d_lShl, d_lShr, d_eDiv, d_eRem, d_eCmp, d_eI2B, d_eI2S, d_eL2I, d_lI2L, d_lInt, d_lLdc, d_lLoc, d_eIte, d_lIte, d_eMax, d_eMin, d_eAbs, d_eAbove, d_eBodies, d_cQ, d_cZ, d_cNot, d_cAnd, d_cOr, d_gNil, d_gI, d_gL, d_gR, d_gD, d_xV, d_xS, d_xN, d_xT, d_eCall, d_lCall, d_eCallC, d_sNop, d_sSet, d_sSetL, d_sSetR, d_sSetQ, d_sInc, d_sPutI, d_sPutZ, d_sPutL, d_sPutA, d_sPutAZ, d_sPutAB, d_sPutAL, d_sPutD, d_sOpF, d_sOpA, d_sCall, d_sCopy, d_sSeq, d_sIf, d_sBrk, d_sCnt, d_sRetV, d_sRet, d_sRetL, d_sLp, d_tDef, d_tCase, d_sSw, d_sSwB, bIt_d, itb_0, itb_1, itb_2, itb_r, its_0, sqk_0, sqk_1, sqk_2, sqk_r, swk_0, swk_1, swk_r, bfin_r, bfin_ite, Option.bind_some, Option.map_some, Option.bind_none, Option.map_none, bind_ite, map_ite, cop0, cop1, cop2, cop3, cop4, cop5, opv0, opv1, opv2, opv3, brc_i, brc_z, two_ne_one, false_or, getI, getR, getL, List.getElem?_cons_zero, List.getElem?_cons_succ, List.set_cons_zero, List.set_cons_succ, bnl, if_true, if_false, true_or, or_true, decide_eq_true_eq, Bool.not_eq_true', decide_eq_false_iff_not, Bool.not_true, Bool.not_false, Bool.true_eq_false, Bool.false_eq_true, ite_not, reduceIte, ite01_0, ite01_1, Decidable.not_not, ne_eq, not_true_eq_false, not_false_eq_true, Function.comp_apply, decide_not, Bool.not_not, Bool.not_eq_false', dc_t, dc_f, and_self, true_and, and_true, and_false, false_and, tnc]
                · generalize ((k : Nat) : Int) = kI at *
                  generalize ((Q k : Nat) : Int) = qI at *
                  simp only [L_Night_carry_1b, i2, b1, f2, tk, w1, dn, b46, g1, dl, d_rLoc1, d_rLoc2, d_rFld1, d_rFld2, d_eInt, d_eLdc, d_eLdw, d_eLoc, d_eFld, d_lFld, d_eAI, d_eAZ, d_eAB, d_lAL, d_eAD, d_eLen, d_eAdd, d_eSub, d_eMul, d_eAnd, d_eOr, d_eXor, d_eShl, d_eShr, d_eUsh, d_lAdd, d_lSub, d_lMul, d_lAnd, d_lOr, d_lXor, d_lShl, d_lShr, d_eDiv, d_eRem, d_eCmp, d_eI2B, d_eI2S, d_eL2I, d_lI2L, d_lInt, d_lLdc, d_lLoc, d_eIte, d_lIte, d_eMax, d_eMin, d_eAbs, d_eAbove, d_eBodies, d_cQ, d_cZ, d_cNot, d_cAnd, d_cOr, d_gNil, d_gI, d_gL, d_gR, d_gD, d_xV, d_xS, d_xN, d_xT, d_eCall, d_lCall, d_eCallC, d_sNop, d_sSet, d_sSetL, d_sSetR, d_sSetQ, d_sInc, d_sPutI, d_sPutZ, d_sPutL, d_sPutA, d_sPutAZ, d_sPutAB, d_sPutAL, d_sPutD, d_sOpF, d_sOpA, d_sCall, d_sCopy, d_sSeq, d_sIf, d_sBrk, d_sCnt, d_sRetV, d_sRet, d_sRetL, d_sLp, d_tDef, d_tCase, d_sSw, d_sSwB, bIt_d, itb_0, itb_1, itb_2, itb_r, its_0, sqk_0, sqk_1, sqk_2, sqk_r, swk_0, swk_1, swk_r, bfin_r, bfin_ite, Option.bind_some, Option.map_some, Option.bind_none, Option.map_none, bind_ite, map_ite, cop0, cop1, cop2, cop3, cop4, cop5, opv0, opv1, opv2, opv3, brc_i, brc_z, two_ne_one, false_or, getI, getR, getL, List.getElem?_cons_zero, List.getElem?_cons_succ, List.set_cons_zero, List.set_cons_succ, bnl, if_true, if_false, true_or, or_true, decide_eq_true_eq, Bool.not_eq_true', decide_eq_false_iff_not, Bool.not_true, Bool.not_false, Bool.true_eq_false, Bool.false_eq_true, ite_not, reduceIte, ite01_0, ite01_1, Decidable.not_not, ne_eq, not_true_eq_false, not_false_eq_true, Function.comp_apply, decide_not, Bool.not_not, Bool.not_eq_false', dc_t, dc_f, and_self, true_and, and_true, and_false, false_and, tnc]
                  simp
                · simp only [L_Night_carry_1s, f3, d_rLoc1, d_rLoc2, d_rFld1, d_rFld2, d_eInt, d_eLdc, d_eLdw, d_eLoc, d_eFld, d_lFld, d_eAI, d_eAZ, d_eAB, d_lAL, d_eAD, d_eLen, d_eAdd, d_eSub, d_eMul, d_eAnd, d_eOr, d_eXor, d_eShl, d_eShr, d_eUsh, d_lAdd, d_lSub, d_lMul, d_lAnd, d_lOr, d_lXor, d_lShl, d_lShr, d_eDiv, d_eRem, d_eCmp, d_eI2B, d_eI2S, d_eL2I, d_lI2L, d_lInt, d_lLdc, d_lLoc, d_eIte, d_lIte, d_eMax, d_eMin, d_eAbs, d_eAbove, d_eBodies, d_cQ, d_cZ, d_cNot, d_cAnd, d_cOr, d_gNil, d_gI, d_gL, d_gR, d_gD, d_xV, d_xS, d_xN, d_xT, d_eCall, d_lCall, d_eCallC, d_sNop, d_sSet, d_sSetL, d_sSetR, d_sSetQ, d_sInc, d_sPutI, d_sPutZ, d_sPutL, d_sPutA, d_sPutAZ, d_sPutAB, d_sPutAL, d_sPutD, d_sOpF, d_sOpA, d_sCall, d_sCopy, d_sSeq, d_sIf, d_sBrk, d_sCnt, d_sRetV, d_sRet, d_sRetL, d_sLp, d_tDef, d_tCase, d_sSw, d_sSwB, bIt_d, itb_0, itb_1, itb_2, itb_r, its_0, sqk_0, sqk_1, sqk_2, sqk_r, swk_0, swk_1, swk_r, bfin_r, bfin_ite, Option.bind_some, Option.map_some, Option.bind_none, Option.map_none, bind_ite, map_ite, cop0, cop1, cop2, cop3, cop4, cop5, opv0, opv1, opv2, opv3, brc_i, brc_z, two_ne_one, false_or, getI, getR, getL, List.getElem?_cons_zero, List.getElem?_cons_succ, List.set_cons_zero, List.set_cons_succ, bnl, if_true, if_false, true_or, or_true, decide_eq_true_eq, Bool.not_eq_true', decide_eq_false_iff_not, Bool.not_true, Bool.not_false, Bool.true_eq_false, Bool.false_eq_true, ite_not, reduceIte, ite01_0, ite01_1, Decidable.not_not, ne_eq, not_true_eq_false, not_false_eq_true, Function.comp_apply, decide_not, Bool.not_not, Bool.not_eq_false', dc_t, dc_f, and_self, true_and, and_true, and_false, false_and, tnc]
              · rw [bwr_ne _ _ (by decide), i1 t ht, eT _ e2 t ht]
                congr 1
                by_cases q : t = k
                · subst q; rw [if_pos rfl, if_neg (Nat.lt_irrefl t)]
                · rw [if_neg q]
              · rw [bwr_eq2, bR _ e1]
                congr 1
                apply bst_congr
                intro t ht
                by_cases q : t = k
                · subst q; simp
                · simp [q]
              · rw [bwr_ne2 _ hk]; exact i3 k hk
              · rw [bwr_ne _ _ a]; exact i4 i a b
            | true =>
              have g1 : c 46 k ≤ wt (Q k) / c 2 (Q k) := of_decide_eq_true (gk.symm.trans hGk)
              have e2 : W k = Q k + 1 := by rw [hW]; show (if P k = true ∧ G k = true then Q k + 1 else Q k) = Q k + 1; rw [if_pos ⟨hPk, hGk⟩]
              have w9 : (bwr m' 100 k ((Q k + 1 : Nat) : Int)) 100 k = ((Q k + 1 : Nat) : Int) := bwr_eq2 _
              have w8 : (bwr m' 100 k ((Q k + 1 : Nat) : Int)) 93 10 = (bst (fun t => if t < k then R t else P t) T : Int) := by rw [bwr_ne _ _ (by decide)]; exact i2
              by_cases q12 : Q k + 1 < 12
              · have e1 : R k = true := by rw [hR]; show (P k && (G k && decide (Q k + 1 < 12))) = true; rw [hPk, hGk]; simp [q12]
                have g2 : ¬ (12 : Int) ≤ ((Q k + 1 : Nat) : Int) := fun h => Nat.not_le.mpr q12 (c12.mp h)
                refine ⟨bwr m' 100 k ((Q k + 1 : Nat) : Int), ?_, fun t ht => ?_, ?_, fun k hk => ?_, fun i a b => ?_⟩
                · rw [eg, hGk]
                  refine bIt_go (m1 := m') (ls2 := [some (aR 93), some (aI (k : Int)), some (aI 1)]) (m2 := bwr m' 100 k ((Q k + 1 : Nat) : Int)) ?_ ?_ ?_
                  · simp only [L_Night_carry_1c, b37, hT, f1, d_rLoc1, d_rLoc2, d_rFld1, d_rFld2, d_eInt, d_eLdc, d_eLdw, d_eLoc, d_eFld, d_lFld, d_eAI, d_eAZ, d_eAB, d_lAL, d_eAD, d_eLen, d_eAdd, d_eSub, d_eMul, d_eAnd, d_eOr, d_eXor, d_eShl, d_eShr, d_eUsh, d_lAdd, d_lSub, d_lMul, d_lAnd, d_lOr, d_lXor, d_lShl, d_lShr, d_eDiv, d_eRem, d_eCmp, d_eI2B, d_eI2S, d_eL2I, d_lI2L, d_lInt, d_lLdc, d_lLoc, d_eIte, d_lIte, d_eMax, d_eMin, d_eAbs, d_eAbove, d_eBodies, d_cQ, d_cZ, d_cNot, d_cAnd, d_cOr, d_gNil, d_gI, d_gL, d_gR, d_gD, d_xV, d_xS, d_xN, d_xT, d_eCall, d_lCall, d_eCallC, d_sNop, d_sSet, d_sSetL, d_sSetR, d_sSetQ, d_sInc, d_sPutI, d_sPutZ, d_sPutL, d_sPutA, d_sPutAZ, d_sPutAB, d_sPutAL, d_sPutD, d_sOpF, d_sOpA, d_sCall, d_sCopy, d_sSeq, d_sIf, d_sBrk, d_sCnt, d_sRetV, d_sRet, d_sRetL, d_sLp, d_tDef, d_tCase, d_sSw, d_sSwB, bIt_d, itb_0, itb_1, itb_2, itb_r, its_0, sqk_0, sqk_1, sqk_2, sqk_r, swk_0, swk_1, swk_r, bfin_r, bfin_ite, Option.bind_some, Option.map_some, Option.bind_none, Option.map_none, bind_ite, map_ite, cop0, cop1, cop2, cop3, cop4, cop5, opv0, opv1, opv2, opv3, brc_i, brc_z, two_ne_one, false_or, getI, getR, getL, List.getElem?_cons_zero, List.getElem?_cons_succ, List.set_cons_zero, List.set_cons_succ, bnl, if_true, if_false, true_or, or_true, decide_eq_true_eq, Bool.not_eq_true', decide_eq_false_iff_not, Bool.not_true, Bool.not_false, Bool.true_eq_false, Bool.false_eq_true, ite_not, reduceIte, ite01_0, ite01_1, Decidable.not_not, ne_eq, not_true_eq_false, not_false_eq_true, Function.comp_apply, decide_not, Bool.not_not, Bool.not_eq_false', dc_t, dc_f, and_self, true_and, and_true, and_false, false_and, tnc]
                  · generalize ((k : Nat) : Int) = kI at *
                    generalize ((Q k : Nat) : Int) = qI at *
                    generalize ((Q k + 1 : Nat) : Int) = q1I at *
                    simp only [L_Night_carry_1b, i2, b1, f2, tk, w1, dn, b46, g1, x1, w9, g2, d_rLoc1, d_rLoc2, d_rFld1, d_rFld2, d_eInt, d_eLdc, d_eLdw, d_eLoc, d_eFld, d_lFld, d_eAI, d_eAZ, d_eAB, d_lAL, d_eAD, d_eLen, d_eAdd, d_eSub, d_eMul, d_eAnd, d_eOr, d_eXor, d_eShl, d_eShr, d_eUsh, d_lAdd, d_lSub, d_lMul, d_lAnd, d_lOr, d_lXor, d_lShl, d_lShr, d_eDiv, d_eRem, d_eCmp, d_eI2B, d_eI2S, d_eL2I, d_lI2L, d_lInt, d_lLdc, d_lLoc, d_eIte, d_lIte, d_eMax, d_eMin, d_eAbs, d_eAbove, d_eBodies, d_cQ, d_cZ, d_cNot, d_cAnd, d_cOr, d_gNil, d_gI, d_gL, d_gR, d_gD, d_xV, d_xS, d_xN, d_xT, d_eCall, d_lCall, d_eCallC, d_sNop, d_sSet, d_sSetL, d_sSetR, d_sSetQ, d_sInc, d_sPutI, d_sPutZ, d_sPutL, d_sPutA, d_sPutAZ, d_sPutAB, d_sPutAL, d_sPutD, d_sOpF, d_sOpA, d_sCall, d_sCopy, d_sSeq, d_sIf, d_sBrk, d_sCnt, d_sRetV, d_sRet, d_sRetL, d_sLp, d_tDef, d_tCase, d_sSw, d_sSwB, bIt_d, itb_0, itb_1, itb_2, itb_r, its_0, sqk_0, sqk_1, sqk_2, sqk_r, swk_0, swk_1, swk_r, bfin_r, bfin_ite, Option.bind_some, Option.map_some, Option.bind_none, Option.map_none, bind_ite, map_ite, cop0, cop1, cop2, cop3, cop4, cop5, opv0, opv1, opv2, opv3, brc_i, brc_z, two_ne_one, false_or, getI, getR, getL, List.getElem?_cons_zero, List.getElem?_cons_succ, List.set_cons_zero, List.set_cons_succ, bnl, if_true, if_false, true_or, or_true, decide_eq_true_eq, Bool.not_eq_true', decide_eq_false_iff_not, Bool.not_true, Bool.not_false, Bool.true_eq_false, Bool.false_eq_true, ite_not, reduceIte, ite01_0, ite01_1, Decidable.not_not, ne_eq, not_true_eq_false, not_false_eq_true, Function.comp_apply, decide_not, Bool.not_not, Bool.not_eq_false', dc_t, dc_f, and_self, true_and, and_true, and_false, false_and, tnc]
                    simp
                  · simp only [L_Night_carry_1s, f3, d_rLoc1, d_rLoc2, d_rFld1, d_rFld2, d_eInt, d_eLdc, d_eLdw, d_eLoc, d_eFld, d_lFld, d_eAI, d_eAZ, d_eAB, d_lAL, d_eAD, d_eLen, d_eAdd, d_eSub, d_eMul, d_eAnd, d_eOr, d_eXor, d_eShl, d_eShr, d_eUsh, d_lAdd, d_lSub, d_lMul, d_lAnd, d_lOr, d_lXor, d_lShl, d_lShr, d_eDiv, d_eRem, d_eCmp, d_eI2B, d_eI2S, d_eL2I, d_lI2L, d_lInt, d_lLdc, d_lLoc, d_eIte, d_lIte, d_eMax, d_eMin, d_eAbs, d_eAbove, d_eBodies, d_cQ, d_cZ, d_cNot, d_cAnd, d_cOr, d_gNil, d_gI, d_gL, d_gR, d_gD, d_xV, d_xS, d_xN, d_xT, d_eCall, d_lCall, d_eCallC, d_sNop, d_sSet, d_sSetL, d_sSetR, d_sSetQ, d_sInc, d_sPutI, d_sPutZ, d_sPutL, d_sPutA, d_sPutAZ, d_sPutAB, d_sPutAL, d_sPutD, d_sOpF, d_sOpA, d_sCall, d_sCopy, d_sSeq, d_sIf, d_sBrk, d_sCnt, d_sRetV, d_sRet, d_sRetL, d_sLp, d_tDef, d_tCase, d_sSw, d_sSwB, bIt_d, itb_0, itb_1, itb_2, itb_r, its_0, sqk_0, sqk_1, sqk_2, sqk_r, swk_0, swk_1, swk_r, bfin_r, bfin_ite, Option.bind_some, Option.map_some, Option.bind_none, Option.map_none, bind_ite, map_ite, cop0, cop1, cop2, cop3, cop4, cop5, opv0, opv1, opv2, opv3, brc_i, brc_z, two_ne_one, false_or, getI, getR, getL, List.getElem?_cons_zero, List.getElem?_cons_succ, List.set_cons_zero, List.set_cons_succ, bnl, if_true, if_false, true_or, or_true, decide_eq_true_eq, Bool.not_eq_true', decide_eq_false_iff_not, Bool.not_true, Bool.not_false, Bool.true_eq_false, Bool.false_eq_true, ite_not, reduceIte, ite01_0, ite01_1, Decidable.not_not, ne_eq, not_true_eq_false, not_false_eq_true, Function.comp_apply, decide_not, Bool.not_not, Bool.not_eq_false', dc_t, dc_f, and_self, true_and, and_true, and_false, false_and, tnc]
                · rw [bwr_if, eT _ e2 t ht]
                  by_cases q : t = k
                  · rw [if_pos q, if_pos q]
                  · rw [if_neg q, if_neg q]; exact i1 t ht
                · rw [w8, bR _ e1]
                  congr 1
                  apply bst_congr
                  intro t ht
                  by_cases q : t = k
                  · subst q; simp [hPk]
                  · simp [q]
                · rw [bwr_ne _ _ (by decide)]; exact i3 k hk
                · rw [bwr_ne _ _ b]; exact i4 i a b
              · have e1 : R k = false := by rw [hR]; show (P k && (G k && decide (Q k + 1 < 12))) = false; simp [q12]
                have g2 : (12 : Int) ≤ ((Q k + 1 : Nat) : Int) := c12.mpr (Nat.not_lt.mp q12)
                refine ⟨bwr (bwr m' 100 k ((Q k + 1 : Nat) : Int)) 93 10 (bst (fun t => (fun t => if t < k then R t else P t) t && !decide (t = k)) T : Int), ?_, fun t ht => ?_, ?_, fun k hk => ?_, fun i a b => ?_⟩
                · rw [eg, hGk]
                  refine bIt_go (m1 := m') (ls2 := [some (aR 93), some (aI (k : Int)), some (aI 1)]) (m2 := bwr (bwr m' 100 k ((Q k + 1 : Nat) : Int)) 93 10 (bst (fun t => (fun t => if t < k then R t else P t) t && !decide (t = k)) T : Int)) ?_ ?_ ?_
                  · simp only [L_Night_carry_1c, b37, hT, f1, d_rLoc1, d_rLoc2, d_rFld1, d_rFld2, d_eInt, d_eLdc, d_eLdw, d_eLoc, d_eFld, d_lFld, d_eAI, d_eAZ, d_eAB, d_lAL, d_eAD, d_eLen, d_eAdd, d_eSub, d_eMul, d_eAnd, d_eOr, d_eXor, d_eShl, d_eShr, d_eUsh, d_lAdd, d_lSub, d_lMul, d_lAnd, d_lOr, d_lXor, d_lShl, d_lShr, d_eDiv, d_eRem, d_eCmp, d_eI2B, d_eI2S, d_eL2I, d_lI2L, d_lInt, d_lLdc, d_lLoc, d_eIte, d_lIte, d_eMax, d_eMin, d_eAbs, d_eAbove, d_eBodies, d_cQ, d_cZ, d_cNot, d_cAnd, d_cOr, d_gNil, d_gI, d_gL, d_gR, d_gD, d_xV, d_xS, d_xN, d_xT, d_eCall, d_lCall, d_eCallC, d_sNop, d_sSet, d_sSetL, d_sSetR, d_sSetQ, d_sInc, d_sPutI, d_sPutZ, d_sPutL, d_sPutA, d_sPutAZ, d_sPutAB, d_sPutAL, d_sPutD, d_sOpF, d_sOpA, d_sCall, d_sCopy, d_sSeq, d_sIf, d_sBrk, d_sCnt, d_sRetV, d_sRet, d_sRetL, d_sLp, d_tDef, d_tCase, d_sSw, d_sSwB, bIt_d, itb_0, itb_1, itb_2, itb_r, its_0, sqk_0, sqk_1, sqk_2, sqk_r, swk_0, swk_1, swk_r, bfin_r, bfin_ite, Option.bind_some, Option.map_some, Option.bind_none, Option.map_none, bind_ite, map_ite, cop0, cop1, cop2, cop3, cop4, cop5, opv0, opv1, opv2, opv3, brc_i, brc_z, two_ne_one, false_or, getI, getR, getL, List.getElem?_cons_zero, List.getElem?_cons_succ, List.set_cons_zero, List.set_cons_succ, bnl, if_true, if_false, true_or, or_true, decide_eq_true_eq, Bool.not_eq_true', decide_eq_false_iff_not, Bool.not_true, Bool.not_false, Bool.true_eq_false, Bool.false_eq_true, ite_not, reduceIte, ite01_0, ite01_1, Decidable.not_not, ne_eq, not_true_eq_false, not_false_eq_true, Function.comp_apply, decide_not, Bool.not_not, Bool.not_eq_false', dc_t, dc_f, and_self, true_and, and_true, and_false, false_and, tnc]
                  · generalize ((k : Nat) : Int) = kI at *
                    generalize ((Q k : Nat) : Int) = qI at *
                    generalize ((Q k + 1 : Nat) : Int) = q1I at *
                    simp only [L_Night_carry_1b, i2, b1, f2, tk, w1, dn, b46, g1, x1, w9, w8, g2, dl, d_rLoc1, d_rLoc2, d_rFld1, d_rFld2, d_eInt, d_eLdc, d_eLdw, d_eLoc, d_eFld, d_lFld, d_eAI, d_eAZ, d_eAB, d_lAL, d_eAD, d_eLen, d_eAdd, d_eSub, d_eMul, d_eAnd, d_eOr, d_eXor, d_eShl, d_eShr, d_eUsh, d_lAdd, d_lSub, d_lMul, d_lAnd, d_lOr, d_lXor, d_lShl, d_lShr, d_eDiv, d_eRem, d_eCmp, d_eI2B, d_eI2S, d_eL2I, d_lI2L, d_lInt, d_lLdc, d_lLoc, d_eIte, d_lIte, d_eMax, d_eMin, d_eAbs, d_eAbove, d_eBodies, d_cQ, d_cZ, d_cNot, d_cAnd, d_cOr, d_gNil, d_gI, d_gL, d_gR, d_gD, d_xV, d_xS, d_xN, d_xT, d_eCall, d_lCall, d_eCallC, d_sNop, d_sSet, d_sSetL, d_sSetR, d_sSetQ, d_sInc, d_sPutI, d_sPutZ, d_sPutL, d_sPutA, d_sPutAZ, d_sPutAB, d_sPutAL, d_sPutD, d_sOpF, d_sOpA, d_sCall, d_sCopy, d_sSeq, d_sIf, d_sBrk, d_sCnt, d_sRetV, d_sRet, d_sRetL, d_sLp, d_tDef, d_tCase, d_sSw, d_sSwB, bIt_d, itb_0, itb_1, itb_2, itb_r, its_0, sqk_0, sqk_1, sqk_2, sqk_r, swk_0, swk_1, swk_r, bfin_r, bfin_ite, Option.bind_some, Option.map_some, Option.bind_none, Option.map_none, bind_ite, map_ite, cop0, cop1, cop2, cop3, cop4, cop5, opv0, opv1, opv2, opv3, brc_i, brc_z, two_ne_one, false_or, getI, getR, getL, List.getElem?_cons_zero, List.getElem?_cons_succ, List.set_cons_zero, List.set_cons_succ, bnl, if_true, if_false, true_or, or_true, decide_eq_true_eq, Bool.not_eq_true', decide_eq_false_iff_not, Bool.not_true, Bool.not_false, Bool.true_eq_false, Bool.false_eq_true, ite_not, reduceIte, ite01_0, ite01_1, Decidable.not_not, ne_eq, not_true_eq_false, not_false_eq_true, Function.comp_apply, decide_not, Bool.not_not, Bool.not_eq_false', dc_t, dc_f, and_self, true_and, and_true, and_false, false_and, tnc]
                    simp
                  · simp only [L_Night_carry_1s, f3, d_rLoc1, d_rLoc2, d_rFld1, d_rFld2, d_eInt, d_eLdc, d_eLdw, d_eLoc, d_eFld, d_lFld, d_eAI, d_eAZ, d_eAB, d_lAL, d_eAD, d_eLen, d_eAdd, d_eSub, d_eMul, d_eAnd, d_eOr, d_eXor, d_eShl, d_eShr, d_eUsh, d_lAdd, d_lSub, d_lMul, d_lAnd, d_lOr, d_lXor, d_lShl, d_lShr, d_eDiv, d_eRem, d_eCmp, d_eI2B, d_eI2S, d_eL2I, d_lI2L, d_lInt, d_lLdc, d_lLoc, d_eIte, d_lIte, d_eMax, d_eMin, d_eAbs, d_eAbove, d_eBodies, d_cQ, d_cZ, d_cNot, d_cAnd, d_cOr, d_gNil, d_gI, d_gL, d_gR, d_gD, d_xV, d_xS, d_xN, d_xT, d_eCall, d_lCall, d_eCallC, d_sNop, d_sSet, d_sSetL, d_sSetR, d_sSetQ, d_sInc, d_sPutI, d_sPutZ, d_sPutL, d_sPutA, d_sPutAZ, d_sPutAB, d_sPutAL, d_sPutD, d_sOpF, d_sOpA, d_sCall, d_sCopy, d_sSeq, d_sIf, d_sBrk, d_sCnt, d_sRetV, d_sRet, d_sRetL, d_sLp, d_tDef, d_tCase, d_sSw, d_sSwB, bIt_d, itb_0, itb_1, itb_2, itb_r, its_0, sqk_0, sqk_1, sqk_2, sqk_r, swk_0, swk_1, swk_r, bfin_r, bfin_ite, Option.bind_some, Option.map_some, Option.bind_none, Option.map_none, bind_ite, map_ite, cop0, cop1, cop2, cop3, cop4, cop5, opv0, opv1, opv2, opv3, brc_i, brc_z, two_ne_one, false_or, getI, getR, getL, List.getElem?_cons_zero, List.getElem?_cons_succ, List.set_cons_zero, List.set_cons_succ, bnl, if_true, if_false, true_or, or_true, decide_eq_true_eq, Bool.not_eq_true', decide_eq_false_iff_not, Bool.not_true, Bool.not_false, Bool.true_eq_false, Bool.false_eq_true, ite_not, reduceIte, ite01_0, ite01_1, Decidable.not_not, ne_eq, not_true_eq_false, not_false_eq_true, Function.comp_apply, decide_not, Bool.not_not, Bool.not_eq_false', dc_t, dc_f, and_self, true_and, and_true, and_false, false_and, tnc]
                · rw [bwr_ne _ _ (by decide), bwr_if, eT _ e2 t ht]
                  by_cases q : t = k
                  · rw [if_pos q, if_pos q]
                  · rw [if_neg q, if_neg q]; exact i1 t ht
                · rw [bwr_eq2, bR _ e1]
                  congr 1
                  apply bst_congr
                  intro t ht
                  by_cases q : t = k
                  · subst q; simp
                  · simp [q]
                · rw [bwr_ne2 _ hk, bwr_ne _ _ (by decide)]; exact i3 k hk
                · rw [bwr_ne _ _ a, bwr_ne _ _ b]; exact i4 i a b)
        (fun m' hI => by
          have b37 : m' 37 = c 37 := by rw [hI.2.2.2 _ (by decide) (by decide)]; exact hb 37 (by decide)
          have q : ¬ (T : Int) < (T : Int) := Int.lt_irrefl _
          refine bIt_ex ?_
          simp only [L_Night_carry_1c, b37, hT, q, d_rLoc1, d_rLoc2, d_rFld1, d_rFld2, d_eInt, d_eLdc, d_eLdw, d_eLoc, d_eFld, d_lFld, d_eAI, d_eAZ, d_eAB, d_lAL, d_eAD, d_eLen, d_eAdd, d_eSub, d_eMul, d_eAnd, d_eOr, d_eXor, d_eShl, d_eShr, d_eUsh, d_lAdd, d_lSub, d_lMul, d_lAnd, d_lOr, d_lXor, d_lShl, d_lShr, d_eDiv, d_eRem, d_eCmp, d_eI2B, d_eI2S, d_eL2I, d_lI2L, d_lInt, d_lLdc, d_lLoc, d_eIte, d_lIte, d_eMax, d_eMin, d_eAbs, d_eAbove, d_eBodies, d_cQ, d_cZ, d_cNot, d_cAnd, d_cOr, d_gNil, d_gI, d_gL, d_gR, d_gD, d_xV, d_xS, d_xN, d_xT, d_eCall, d_lCall, d_eCallC, d_sNop, d_sSet, d_sSetL, d_sSetR, d_sSetQ, d_sInc, d_sPutI, d_sPutZ, d_sPutL, d_sPutA, d_sPutAZ, d_sPutAB, d_sPutAL, d_sPutD, d_sOpF, d_sOpA, d_sCall, d_sCopy, d_sSeq, d_sIf, d_sBrk, d_sCnt, d_sRetV, d_sRet, d_sRetL, d_sLp, d_tDef, d_tCase, d_sSw, d_sSwB, bIt_d, itb_0, itb_1, itb_2, itb_r, its_0, sqk_0, sqk_1, sqk_2, sqk_r, swk_0, swk_1, swk_r, bfin_r, bfin_ite, Option.bind_some, Option.map_some, Option.bind_none, Option.map_none, bind_ite, map_ite, cop0, cop1, cop2, cop3, cop4, cop5, opv0, opv1, opv2, opv3, brc_i, brc_z, two_ne_one, false_or, getI, getR, getL, List.getElem?_cons_zero, List.getElem?_cons_succ, List.set_cons_zero, List.set_cons_succ, bnl, if_true, if_false, true_or, or_true, decide_eq_true_eq, Bool.not_eq_true', decide_eq_false_iff_not, Bool.not_true, Bool.not_false, Bool.true_eq_false, Bool.false_eq_true, ite_not, reduceIte, ite01_0, ite01_1, Decidable.not_not, ne_eq, not_true_eq_false, not_false_eq_true, Function.comp_apply, decide_not, Bool.not_not, Bool.not_eq_false', dc_t, dc_f, and_self, true_and, and_true, and_false, false_and, tnc])
      obtain ⟨m2, e1, j1, j2, j3, j4⟩ := hl
      refine ⟨m2, ?_, fun t ht => ?_, ?_, j3, j4⟩
      · have e2 : L_Night_carry_1.1.2 (sem (n + 1)) [some (aR 93), some (aI 0), none] m = some (.inl (0, [some (aR 93), some (aI (T : Int)), cGo P G T], m2)) := by
          unfold L_Night_carry_1
          rw [d_sLp]
          exact e1
        rw [st_Night_carry]
        unfold B_Night_carry
        revert e2
        generalize L_Night_carry_1 = LL
        intro e2
        simp only [kr_Night_carry, hP, h0, e2, d_rLoc1, d_rLoc2, d_rFld1, d_rFld2, d_eInt, d_eLdc, d_eLdw, d_eLoc, d_eFld, d_lFld, d_eAI, d_eAZ, d_eAB, d_lAL, d_eAD, d_eLen, d_eAdd, d_eSub, d_eMul, d_eAnd, d_eOr, d_eXor, d_eShl, d_eShr, d_eUsh, d_lAdd, d_lSub, d_lMul, d_lAnd, d_lOr, d_lXor, d_lShl, d_lShr, d_eDiv, d_eRem, d_eCmp, d_eI2B, d_eI2S, d_eL2I, d_lI2L, d_lInt, d_lLdc, d_lLoc, d_eIte, d_lIte, d_eMax, d_eMin, d_eAbs, d_eAbove, d_eBodies, d_cQ, d_cZ, d_cNot, d_cAnd, d_cOr, d_gNil, d_gI, d_gL, d_gR, d_gD, d_xV, d_xS, d_xN, d_xT, d_eCall, d_lCall, d_eCallC, d_sNop, d_sSet, d_sSetL, d_sSetR, d_sSetQ, d_sInc, d_sPutI, d_sPutZ, d_sPutL, d_sPutA, d_sPutAZ, d_sPutAB, d_sPutAL, d_sPutD, d_sOpF, d_sOpA, d_sCall, d_sCopy, d_sSeq, d_sIf, d_sBrk, d_sCnt, d_sRetV, d_sRet, d_sRetL, d_sLp, d_tDef, d_tCase, d_sSw, d_sSwB, bIt_d, itb_0, itb_1, itb_2, itb_r, its_0, sqk_0, sqk_1, sqk_2, sqk_r, swk_0, swk_1, swk_r, bfin_r, bfin_ite, Option.bind_some, Option.map_some, Option.bind_none, Option.map_none, bind_ite, map_ite, cop0, cop1, cop2, cop3, cop4, cop5, opv0, opv1, opv2, opv3, brc_i, brc_z, two_ne_one, false_or, getI, getR, getL, List.getElem?_cons_zero, List.getElem?_cons_succ, List.set_cons_zero, List.set_cons_succ, bnl, if_true, if_false, true_or, or_true, decide_eq_true_eq, Bool.not_eq_true', decide_eq_false_iff_not, Bool.not_true, Bool.not_false, Bool.true_eq_false, Bool.false_eq_true, ite_not, reduceIte, ite01_0, ite01_1, Decidable.not_not, ne_eq, not_true_eq_false, not_false_eq_true, Function.comp_apply, decide_not, Bool.not_not, Bool.not_eq_false', dc_t, dc_f, and_self, true_and, and_true, and_false, false_and, tnc]
      · rw [j1 t ht, if_pos ht]
      · rw [j2]
        congr 1
        exact bst_congr (fun t ht => by rw [if_pos ht])
  obtain ⟨m2, a1, a2, a3, a4, a5⟩ := goal
  refine ⟨m2, a1, fun t ht => ?_, ?_, a4, a5⟩
  · rw [a2 t ht, hW, hG]
    simp only [decide_eq_true_eq]
  · rw [a3, hR, hG]
