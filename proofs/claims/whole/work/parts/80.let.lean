/-! ===== whether rows let a night ===== -/
def letB (c : bM) (q B : Nat) : Bool := allB (fun k => !B.testBit k || rLet c q k) (nRw c)
theorem bstA_0 {p : Nat → Bool} {n B : Nat} : (((bst p n &&& B : Nat) : Int) = 0) ↔ ∀ k, k < n → p k = true → B.testBit k = false := by
  constructor
  · intro h k hk hp
    have h1 : bst p n &&& B = 0 := by omega
    have h2 : (bst p n &&& B).testBit k = false := by rw [h1]; exact Nat.zero_testBit k
    rw [Nat.testBit_and, bst_bit, hp, decide_eq_true hk] at h2
    simpa using h2
  · intro h
    have h1 : bst p n &&& B = 0 := by
      apply Nat.eq_of_testBit_eq
      intro k
      rw [Nat.testBit_and, bst_bit, Nat.zero_testBit]
      by_cases hk : k < n
      · cases hp : p k
        · simp
        · rw [h k hk hp]; simp
      · simp [hk]
    omega
theorem sub1_0 {p : Nat → Bool} {n B : Nat} : ((sub1 B (bst p n) : Int) = 0) ↔ ∀ k, B.testBit k = true → k < n ∧ p k = true := by
  constructor
  · intro h k hB
    have h1 : sub1 B (bst p n) = 0 := by omega
    have h2 : (sub1 B (bst p n)).testBit k = false := by rw [h1]; exact Nat.zero_testBit k
    rw [sub1_bit, bst_bit, hB] at h2
    simpa using h2
  · intro h
    have h1 : sub1 B (bst p n) = 0 := by
      apply Nat.eq_of_testBit_eq
      intro k
      rw [sub1_bit, bst_bit, Nat.zero_testBit]
      cases hB : B.testBit k
      · rfl
      · obtain ⟨a, b⟩ := h k hB
        simp [a, b]
    omega
theorem wAg_congr {c c1 : bM} (h : agV c1 c) (hk : agK c1 c) (q : Nat) : wAg c1 q = wAg c q := by
  funext k
  unfold wAg
  rw [rLet_congr h hk, hk.1 18 (by decide) (by decide)]
theorem bse_agV {c m : bM} (h : bse c m) : agV m c := fun i _ b => h i (by omega)
theorem bse_agK {c m : bM} (h : bse c m) : agK m c := ⟨fun i _ b => h i (by omega), by rw [h 17 (by decide)]⟩
theorem bse_agS {c m : bM} (h : bse c m) : agS m c := ⟨bse_agK h, h 24 (by decide), h 26 (by decide)⟩
theorem frN_bse {c m m2 : bM} (h : bse c m) (f : frN m m2) : bse c m2 := fun i hi => by rw [f.1 i (by omega)]; exact h i hi
theorem frN_refl (m : bM) : frN m m := ⟨fun _ _ => rfl, rfl⟩
theorem frN_trans {m m1 m2 : bM} (h : frN m m1) (g : frN m1 m2) : frN m m2 := ⟨fun i hi => (g.1 i hi).trans (h.1 i hi), g.2.trans h.2⟩
theorem q_f2 {q : Nat} (hq : q < 90) : 0 ≤ (q : Int) ∧ (q : Int) < ((90 : Nat) : Int) := by omega
theorem q_x1 {q : Nat} (hq : q < 90) : jdiv (q : Int) 30 = ((q / 30 : Nat) : Int) := by
  have y1 : 0 ≤ (q : Int) ∧ (q : Int) < 2147483648 := by omega
  have y2 : (q : Int) / 30 = ((q / 30 : Nat) : Int) := by omega
  exact (jdiv_of y1 (by decide)).trans y2
theorem q_x2 {q : Nat} (hq : q < 90) : jrem (q : Int) 30 = ((q % 30 : Nat) : Int) := by
  have y3 : -2147483648 ≤ ((q % 30 : Nat) : Int) ∧ ((q % 30 : Nat) : Int) < 2147483648 := by omega
  unfold jrem
  exact i32_of y3.1 y3.2
theorem al_1 {c : bM} {q B : Nat} (h1 : ((bst (wAg c q) (nRw c) &&& B : Nat) : Int) = 0) (h2 : (sub1 B (bst (fun k => decide (c 18 k = 3)) (nRw c)) : Int) = 0) : letB c q B = true := by
  rw [letB, allB_iff]
  intro k hk
  cases hb : B.testBit k
  · rfl
  · have a := (sub1_0.1 h2 k hb).2
    have b := bstA_0.1 h1 k hk
    unfold wAg at b
    rw [a, hb] at b
    revert b
    cases rLet c q k <;> decide
theorem al_2 {c : bM} {q B : Nat} (h1 : ((bst (wAg c q) (nRw c) &&& B : Nat) : Int) = 0) : (((bst (fun k => !decide (c 18 k = 3) && !rLet c q k) (nRw c) &&& B : Nat) : Int) = 0) ↔ letB c q B = true := by
  rw [letB, allB_iff, bstA_0]
  constructor
  · intro h k hk
    have a := h k hk
    have b := bstA_0.1 h1 k hk
    unfold wAg at b
    revert a b
    generalize B.testBit k = x
    generalize decide (c 18 k = 3) = y
    generalize rLet c q k = z
    revert x y z
    decide
  · intro h k hk hp
    have a := h k hk
    revert a hp
    generalize B.testBit k = x
    generalize decide (c 18 k = 3) = y
    generalize rLet c q k = z
    revert x y z
    decide
theorem al_3 {c : bM} {q B : Nat} (h1 : ¬ ((bst (wAg c q) (nRw c) &&& B : Nat) : Int) = 0) : ¬ letB c q B = true := by
  rw [letB, allB_iff]
  intro h
  apply h1
  rw [bstA_0]
  intro k hk hp
  have a := h k hk
  unfold wAg at hp
  revert a hp
  generalize B.testBit k = x
  generalize decide (c 18 k = 3) = y
  generalize rLet c q k = z
  revert x y z
  decide
theorem al_b1 (n : Nat) (m : bM) (qI bI wI sI W : Int) (x1 : jdiv qI 30 = wI) (x2 : jrem qI 30 = sI) (w1 : sem (n + 4) 256 [aR 17, aI wI, aI sI] m = some (m, W)) (j1 : jand W bI = 0) (j2 : jand bI (jxor (m 17 10) (-1)) = 0) : sem (n + 5) 137 [aR 101, aI qI, aI bI] m = some (m, 1) := by
  rw [st_Nights_allLet]
  simp only [B_Nights_allLet, kr_Nights_allLet, x1, x2, w1, j1, j2, d_rLoc1, d_rLoc2, d_rFld1, d_rFld2, d_eInt, d_eLdc, d_eLdw, d_eLoc, d_eFld, d_lFld, d_eAI, d_eAZ, d_eAB, d_lAL, d_eAD, d_eLen, d_eAdd, d_eSub, d_eMul, d_eAnd, d_eOr, d_eXor, d_eShl, d_eShr, d_eUsh, d_lAdd, d_lSub, d_lMul, d_lAnd, d_lOr, d_lXor, d_lShl, d_lShr, d_eDiv, d_eRem, d_eCmp, d_eI2B, d_eI2S, d_eL2I, d_lI2L, d_lInt, d_lLdc, d_lLoc, d_eIte, d_lIte, d_eMax, d_eMin, d_eAbs, d_eAbove, d_eBodies, d_cQ, d_cZ, d_cNot, d_cAnd, d_cOr, d_gNil, d_gI, d_gL, d_gR, d_gD, d_xV, d_xS, d_xN, d_xT, d_eCall, d_lCall, d_eCallC, d_sNop, d_sSet, d_sSetL, d_sSetR, d_sSetQ, d_sInc, d_sPutI, d_sPutZ, d_sPutL, d_sPutA, d_sPutAZ, d_sPutAB, d_sPutAL, d_sPutD, d_sOpF, d_sOpA, d_sCall, d_sCopy, d_sSeq, d_sIf, d_sBrk, d_sCnt, d_sRetV, d_sRet, d_sRetL, d_sLp, d_tDef, d_tCase, d_sSw, d_sSwB, bIt_d, itb_0, itb_1, itb_2, itb_r, its_0, sqk_0, sqk_1, sqk_2, sqk_r, swk_0, swk_1, swk_r, bfin_r, bfin_ite, Option.bind_some, Option.map_some, Option.bind_none, Option.map_none, bind_ite, map_ite, cop0, cop1, cop2, cop3, cop4, cop5, opv0, opv1, opv2, opv3, brc_i, brc_z, two_ne_one, false_or, getI, getR, getL, List.getElem?_cons_zero, List.getElem?_cons_succ, List.set_cons_zero, List.set_cons_succ, bnl, if_true, if_false, true_or, or_true, decide_eq_true_eq, Bool.not_eq_true', decide_eq_false_iff_not, Bool.not_true, Bool.not_false, Bool.true_eq_false, Bool.false_eq_true, ite_not, reduceIte, ite01_0, ite01_1, Decidable.not_not, ne_eq, not_true_eq_false, not_false_eq_true, Function.comp_apply, decide_not, Bool.not_not, Bool.not_eq_false', dc_t, dc_f, and_self, true_and, and_true, and_false, false_and, tnc, Int.reduceLT, Int.reduceLE, Int.reduceEq, Int.reduceAdd, Int.reduceSub, Int.reduceMul, Int.reduceToNat, Int.reduceNeg, Int.reduceNe]
theorem al_b2 (n : Nat) (m m2 : bM) (q : Nat) (qI bI wI sI W : Int) (f2 : 0 ≤ qI ∧ qI < ((90 : Nat) : Int)) (tq : qI.toNat = q) (x1 : jdiv qI 30 = wI) (x2 : jrem qI 30 = sI) (w1 : sem (n + 4) 256 [aR 17, aI wI, aI sI] m = some (m, W)) (j1 : jand W bI = 0) (j2 : ¬ jand bI (jxor (m 17 10) (-1)) = 0) (e2 : sem (n + 4) 257 [aR 101, aI qI] m = some (m2, 0)) : sem (n + 5) 137 [aR 101, aI qI, aI bI] m = some (m2, if jand (m2 104 q) bI = 0 then 1 else 0) := by
  rw [st_Nights_allLet]
  simp only [B_Nights_allLet, kr_Nights_allLet, x1, x2, w1, j1, j2, e2, f2, tq, som_ite, d_rLoc1, d_rLoc2, d_rFld1, d_rFld2, d_eInt, d_eLdc, d_eLdw, d_eLoc, d_eFld, d_lFld, d_eAI, d_eAZ, d_eAB, d_lAL, d_eAD, d_eLen, d_eAdd, d_eSub, d_eMul, d_eAnd, d_eOr, d_eXor, d_eShl, d_eShr, d_eUsh, d_lAdd, d_lSub, d_lMul, d_lAnd, d_lOr, d_lXor, d_lShl, d_lShr, d_eDiv, d_eRem, d_eCmp, d_eI2B, d_eI2S, d_eL2I, d_lI2L, d_lInt, d_lLdc, d_lLoc, d_eIte, d_lIte, d_eMax, d_eMin, d_eAbs, d_eAbove, d_eBodies, d_cQ, d_cZ, d_cNot, d_cAnd, d_cOr, d_gNil, d_gI, d_gL, d_gR, d_gD, d_xV, d_xS, d_xN, d_xT, d_eCall, d_lCall, d_eCallC, d_sNop, d_sSet, d_sSetL, d_sSetR, d_sSetQ, d_sInc, d_sPutI, d_sPutZ, d_sPutL, d_sPutA, d_sPutAZ, d_sPutAB, d_sPutAL, d_sPutD, d_sOpF, d_sOpA, d_sCall, d_sCopy, d_sSeq, d_sIf, d_sBrk, d_sCnt, d_sRetV, d_sRet, d_sRetL, d_sLp, d_tDef, d_tCase, d_sSw, d_sSwB, bIt_d, itb_0, itb_1, itb_2, itb_r, its_0, sqk_0, sqk_1, sqk_2, sqk_r, swk_0, swk_1, swk_r, bfin_r, bfin_ite, Option.bind_some, Option.map_some, Option.bind_none, Option.map_none, bind_ite, map_ite, cop0, cop1, cop2, cop3, cop4, cop5, opv0, opv1, opv2, opv3, brc_i, brc_z, two_ne_one, false_or, getI, getR, getL, List.getElem?_cons_zero, List.getElem?_cons_succ, List.set_cons_zero, List.set_cons_succ, bnl, if_true, if_false, true_or, or_true, decide_eq_true_eq, Bool.not_eq_true', decide_eq_false_iff_not, Bool.not_true, Bool.not_false, Bool.true_eq_false, Bool.false_eq_true, ite_not, reduceIte, ite01_0, ite01_1, Decidable.not_not, ne_eq, not_true_eq_false, not_false_eq_true, Function.comp_apply, decide_not, Bool.not_not, Bool.not_eq_false', dc_t, dc_f, and_self, true_and, and_true, and_false, false_and, tnc, Int.reduceLT, Int.reduceLE, Int.reduceEq, Int.reduceAdd, Int.reduceSub, Int.reduceMul, Int.reduceToNat, Int.reduceNeg, Int.reduceNe]
theorem al_b3 (n : Nat) (m : bM) (qI bI wI sI W : Int) (x1 : jdiv qI 30 = wI) (x2 : jrem qI 30 = sI) (w1 : sem (n + 4) 256 [aR 17, aI wI, aI sI] m = some (m, W)) (j1 : ¬ jand W bI = 0) : sem (n + 5) 137 [aR 101, aI qI, aI bI] m = some (m, 0) := by
  rw [st_Nights_allLet]
  simp only [B_Nights_allLet, kr_Nights_allLet, x1, x2, w1, j1, d_rLoc1, d_rLoc2, d_rFld1, d_rFld2, d_eInt, d_eLdc, d_eLdw, d_eLoc, d_eFld, d_lFld, d_eAI, d_eAZ, d_eAB, d_lAL, d_eAD, d_eLen, d_eAdd, d_eSub, d_eMul, d_eAnd, d_eOr, d_eXor, d_eShl, d_eShr, d_eUsh, d_lAdd, d_lSub, d_lMul, d_lAnd, d_lOr, d_lXor, d_lShl, d_lShr, d_eDiv, d_eRem, d_eCmp, d_eI2B, d_eI2S, d_eL2I, d_lI2L, d_lInt, d_lLdc, d_lLoc, d_eIte, d_lIte, d_eMax, d_eMin, d_eAbs, d_eAbove, d_eBodies, d_cQ, d_cZ, d_cNot, d_cAnd, d_cOr, d_gNil, d_gI, d_gL, d_gR, d_gD, d_xV, d_xS, d_xN, d_xT, d_eCall, d_lCall, d_eCallC, d_sNop, d_sSet, d_sSetL, d_sSetR, d_sSetQ, d_sInc, d_sPutI, d_sPutZ, d_sPutL, d_sPutA, d_sPutAZ, d_sPutAB, d_sPutAL, d_sPutD, d_sOpF, d_sOpA, d_sCall, d_sCopy, d_sSeq, d_sIf, d_sBrk, d_sCnt, d_sRetV, d_sRet, d_sRetL, d_sLp, d_tDef, d_tCase, d_sSw, d_sSwB, bIt_d, itb_0, itb_1, itb_2, itb_r, its_0, sqk_0, sqk_1, sqk_2, sqk_r, swk_0, swk_1, swk_r, bfin_r, bfin_ite, Option.bind_some, Option.map_some, Option.bind_none, Option.map_none, bind_ite, map_ite, cop0, cop1, cop2, cop3, cop4, cop5, opv0, opv1, opv2, opv3, brc_i, brc_z, two_ne_one, false_or, getI, getR, getL, List.getElem?_cons_zero, List.getElem?_cons_succ, List.set_cons_zero, List.set_cons_succ, bnl, if_true, if_false, true_or, or_true, decide_eq_true_eq, Bool.not_eq_true', decide_eq_false_iff_not, Bool.not_true, Bool.not_false, Bool.true_eq_false, Bool.false_eq_true, ite_not, reduceIte, ite01_0, ite01_1, Decidable.not_not, ne_eq, not_true_eq_false, not_false_eq_true, Function.comp_apply, decide_not, Bool.not_not, Bool.not_eq_false', dc_t, dc_f, and_self, true_and, and_true, and_false, false_and, tnc, Int.reduceLT, Int.reduceLE, Int.reduceEq, Int.reduceAdd, Int.reduceSub, Int.reduceMul, Int.reduceToNat, Int.reduceNeg, Int.reduceNe]
theorem sp_allLet (n : Nat) {i : Nat} {c m : bM} (hR : Rel c c) (hb : bse c m) (hN : NgtC i c m) (q : Nat) (hq : q < 90) (B : Nat) (hB : B < 2147483648) : ∃ m2, sem (n + 5) 137 [aR 101, aI (q : Int), aI (B : Int)] m = some (m2, if letB c q B = true then 1 else 0) ∧ NgtC i c m2 ∧ frN m m2 := by
  have hS := Rel_s hR
  have hS1 : RelS m c := RelS_congr hS (fun i a b => hb i (by omega)) (fun i a b => rfl)
  have hR16 := RelS_rrows hS
  have R31 : nRw c ≤ 31 := by unfold nRw; omega
  have w1 := sp_wordsAgainst (n + 2) hS1 q hq
  rw [wAg_congr (bse_agV hb) (bse_agK hb), nRw_congr (bse_agK hb)] at w1
  have j1 := jand_nat (b := B) (bst_lt31 (wAg c q) R31)
  have j2 := jandn_nat (b := bst (fun k => decide (c 18 k = 3)) (nRw c)) hB
  have hw : m 17 10 = (bst (fun k => decide (c 18 k = 3)) (nRw c) : Int) := by rw [hb 17 (by decide)]; exact RelS_words hS
  rw [← hw] at j2
  by_cases h1 : ((bst (wAg c q) (nRw c) &&& B : Nat) : Int) = 0
  · rw [h1] at j1
    by_cases h2 : (sub1 B (bst (fun k => decide (c 18 k = 3)) (nRw c)) : Int) = 0
    · refine ⟨m, ?_, hN, frN_refl m⟩
      rw [if_pos (al_1 h1 h2)]
      exact al_b1 n m _ _ _ _ _ (q_x1 hq) (q_x2 hq) w1 j1 (j2.trans h2)
    · obtain ⟨m2, e2, n2, kq, fr⟩ := sp_know n hR hb hN q hq
      have ag := Known_against kq
      have j3 := jand_nat (b := B) (bst_lt31 (fun k => !decide (c 18 k = 3) && !rLet c q k) R31)
      rw [← ag] at j3
      refine ⟨m2, ?_, n2, fr⟩
      have e := al_b2 n m m2 q _ _ _ _ _ (q_f2 hq) (tnc q) (q_x1 hq) (q_x2 hq) w1 j1 (fun z => h2 (j2.symm.trans z)) e2
      rw [e, j3]
      have L := al_2 h1
      by_cases z : letB c q B = true
      · rw [if_pos z, if_pos (L.2 z)]
      · rw [if_neg z, if_neg (fun x => z (L.1 x))]
  · refine ⟨m, ?_, hN, frN_refl m⟩
    rw [if_neg (al_3 h1)]
    exact al_b3 n m _ _ _ _ _ (q_x1 hq) (q_x2 hq) w1 (fun z => h1 (j1.symm.trans z))
