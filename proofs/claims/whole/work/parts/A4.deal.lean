/-! ===== deal: contracts ===== -/
def dH (b m : bM) (L : List Int) (k N R A p : Int) : Prop := (∀ i, i ≠ 124 → i ≠ 131 → m i = b i) ∧ m 124 12 = k ∧ m 124 13 = N ∧ m 124 14 = R ∧ m 124 15 = A ∧ m 124 16 = p ∧ m 124 11 = (L.length : Int) ∧ ∀ j, j < L.length → m 131 j = L.getD j 0
theorem gd_app (L : List Int) (x : Int) (j : Nat) (h : j < (L ++ [x]).length) : (L ++ [x]).getD j 0 = if j = L.length then x else L.getD j 0 := by
  rw [List.length_append] at h
  simp only [List.length_cons, List.length_nil] at h
  by_cases z : j = L.length
  · rw [if_pos z, z]; simp [List.getD]
  · rw [if_neg z]
    have : j < L.length := by omega
    simp [List.getD, List.getElem?_append_left this]
theorem no_e (n : Nat) (m : bM) (x t y : Int) (T : Nat) (h : m 124 11 = t) (h1 : t < 30) (f1 : 0 ≤ t ∧ t < ((30 : Nat) : Int)) (tt : t.toNat = T) (hq : bwr m 131 T x 124 11 = t) (x1 : i32 (t + 1) = y) : sem (n + 1) 320 [aR 124, aI x] m = some (bwr (bwr m 131 T x) 124 11 y, 0) := by
  rw [st_Host_note]
  simp only [B_Host_note, kr_Host_note, h, h1, f1, tt, hq, x1, d_rLoc1, d_rLoc2, d_rFld1, d_rFld2, d_eInt, d_eLdc, d_eLdw, d_eLoc, d_eFld, d_lFld, d_eAI, d_eAZ, d_eAB, d_lAL, d_eAD, d_eLen, d_eAdd, d_eSub, d_eMul, d_eAnd, d_eOr, d_eXor, d_eShl, d_eShr, d_eUsh, d_lAdd, d_lSub, d_lMul, d_lAnd, d_lOr, d_lXor, d_lShl, d_lShr, d_eDiv, d_eRem, d_eCmp, d_eI2B, d_eI2S, d_eL2I, d_lI2L, d_lInt, d_lLdc, d_lLoc, d_eIte, d_lIte, d_eMax, d_eMin, d_eAbs, d_eAbove, d_eBodies, d_cQ, d_cZ, d_cNot, d_cAnd, d_cOr, d_gNil, d_gI, d_gL, d_gR, d_gD, d_xV, d_xS, d_xN, d_xT, d_eCall, d_lCall, d_eCallC, d_sNop, d_sSet, d_sSetL, d_sSetR, d_sSetQ, d_sInc, d_sPutI, d_sPutZ, d_sPutL, d_sPutA, d_sPutAZ, d_sPutAB, d_sPutAL, d_sPutD, d_sOpF, d_sOpA, d_sCall, d_sCopy, d_sSeq, d_sIf, d_sBrk, d_sCnt, d_sRetV, d_sRet, d_sRetL, d_sLp, d_tDef, d_tCase, d_sSw, d_sSwB, bIt_d, itb_0, itb_1, itb_2, itb_r, its_0, sqk_0, sqk_1, sqk_2, sqk_r, swk_0, swk_1, swk_r, bfin_r, bfin_ite, Option.bind_some, Option.map_some, Option.bind_none, Option.map_none, bind_ite, map_ite, cop0, cop1, cop2, cop3, cop4, cop5, opv0, opv1, opv2, opv3, brc_i, brc_z, two_ne_one, false_or, getI, getR, getL, List.getElem?_cons_zero, List.getElem?_cons_succ, List.set_cons_zero, List.set_cons_succ, bnl, if_true, if_false, true_or, or_true, decide_eq_true_eq, Bool.not_eq_true', decide_eq_false_iff_not, Bool.not_true, Bool.not_false, Bool.true_eq_false, Bool.false_eq_true, ite_not, reduceIte, ite01_0, ite01_1, Decidable.not_not, ne_eq, not_true_eq_false, not_false_eq_true, Function.comp_apply, decide_not, Bool.not_not, Bool.not_eq_false', dc_t, dc_f, and_self, true_and, and_true, and_false, false_and, tnc, Int.reduceLT, Int.reduceLE, Int.reduceEq, Int.reduceAdd, Int.reduceSub, Int.reduceMul, Int.reduceToNat, Int.reduceNeg, Int.reduceNe]
theorem sp_note (n : Nat) {b m : bM} {L : List Int} {k N R A p : Int} (x : Int) (h : dH b m L k N R A p) (hL : L.length < 30) : ∃ m2, sem (n + 1) 320 [aR 124, aI x] m = some (m2, 0) ∧ dH b m2 (L ++ [x]) k N R A p := by
  obtain ⟨h1, h2, h3, h4, h5, h6, h7, h8⟩ := h
  have a1 : (L.length : Int) < 30 := by omega
  have a2 : 0 ≤ (L.length : Int) ∧ (L.length : Int) < ((30 : Nat) : Int) := by omega
  have a3 : L.length < 2147483647 := by omega
  refine ⟨_, no_e n m x _ _ L.length h7 a1 a2 (tnc _) (by rw [bwr_ne _ _ (by decide)]; exact h7) (i32_s a3), fun i a c => by rw [bwr_ne _ _ a, bwr_ne _ _ c]; exact h1 i a c, ?_, ?_, ?_, ?_, ?_, ?_, fun j hj => ?_⟩
  · rw [bwr_ne2 _ (by decide), bwr_ne _ _ (by decide)]; exact h2
  · rw [bwr_ne2 _ (by decide), bwr_ne _ _ (by decide)]; exact h3
  · rw [bwr_ne2 _ (by decide), bwr_ne _ _ (by decide)]; exact h4
  · rw [bwr_ne2 _ (by decide), bwr_ne _ _ (by decide)]; exact h5
  · rw [bwr_ne2 _ (by decide), bwr_ne _ _ (by decide)]; exact h6
  · rw [bwr_eq2, List.length_append]; rfl
  · rw [gd_app L x j hj, bwr_ne _ _ (by decide), bwr_if]
    rw [List.length_append] at hj
    simp only [List.length_cons, List.length_nil] at hj
    by_cases z : j = L.length
    · rw [if_pos z, if_pos z]
    · rw [if_neg z, if_neg z]; exact h8 j (by omega)
theorem pt_1 (n : Nat) (m : bM) (x N : Int) (h3 : m 124 13 = N) (h4 : m 124 14 = N) : sem (n + 1) 321 [aR 124, aI x] m = some (bwr m 124 16 1, 0) := by
  rw [st_Host_parted]
  simp only [B_Host_parted, kr_Host_parted, h3, h4, d_rLoc1, d_rLoc2, d_rFld1, d_rFld2, d_eInt, d_eLdc, d_eLdw, d_eLoc, d_eFld, d_lFld, d_eAI, d_eAZ, d_eAB, d_lAL, d_eAD, d_eLen, d_eAdd, d_eSub, d_eMul, d_eAnd, d_eOr, d_eXor, d_eShl, d_eShr, d_eUsh, d_lAdd, d_lSub, d_lMul, d_lAnd, d_lOr, d_lXor, d_lShl, d_lShr, d_eDiv, d_eRem, d_eCmp, d_eI2B, d_eI2S, d_eL2I, d_lI2L, d_lInt, d_lLdc, d_lLoc, d_eIte, d_lIte, d_eMax, d_eMin, d_eAbs, d_eAbove, d_eBodies, d_cQ, d_cZ, d_cNot, d_cAnd, d_cOr, d_gNil, d_gI, d_gL, d_gR, d_gD, d_xV, d_xS, d_xN, d_xT, d_eCall, d_lCall, d_eCallC, d_sNop, d_sSet, d_sSetL, d_sSetR, d_sSetQ, d_sInc, d_sPutI, d_sPutZ, d_sPutL, d_sPutA, d_sPutAZ, d_sPutAB, d_sPutAL, d_sPutD, d_sOpF, d_sOpA, d_sCall, d_sCopy, d_sSeq, d_sIf, d_sBrk, d_sCnt, d_sRetV, d_sRet, d_sRetL, d_sLp, d_tDef, d_tCase, d_sSw, d_sSwB, bIt_d, itb_0, itb_1, itb_2, itb_r, its_0, sqk_0, sqk_1, sqk_2, sqk_r, swk_0, swk_1, swk_r, bfin_r, bfin_ite, Option.bind_some, Option.map_some, Option.bind_none, Option.map_none, bind_ite, map_ite, cop0, cop1, cop2, cop3, cop4, cop5, opv0, opv1, opv2, opv3, brc_i, brc_z, two_ne_one, false_or, getI, getR, getL, List.getElem?_cons_zero, List.getElem?_cons_succ, List.set_cons_zero, List.set_cons_succ, bnl, if_true, if_false, true_or, or_true, decide_eq_true_eq, Bool.not_eq_true', decide_eq_false_iff_not, Bool.not_true, Bool.not_false, Bool.true_eq_false, Bool.false_eq_true, ite_not, reduceIte, ite01_0, ite01_1, Decidable.not_not, ne_eq, not_true_eq_false, not_false_eq_true, Function.comp_apply, decide_not, Bool.not_not, Bool.not_eq_false', dc_t, dc_f, and_self, true_and, and_true, and_false, false_and, tnc, Int.reduceLT, Int.reduceLE, Int.reduceEq, Int.reduceAdd, Int.reduceSub, Int.reduceMul, Int.reduceToNat, Int.reduceNeg, Int.reduceNe]
theorem pt_0 (n : Nat) (m : bM) (x N R y : Int) (h3 : m 124 13 = N) (h4 : m 124 14 = R) (h : (R = N) = False) (hy : i32 (R - N) = y) (hz : (y = 0) = False) : sem (n + 1) 321 [aR 124, aI x] m = some (m, jdiv x y) := by
  rw [st_Host_parted]
  simp only [B_Host_parted, kr_Host_parted, h3, h4, h, hy, hz, d_rLoc1, d_rLoc2, d_rFld1, d_rFld2, d_eInt, d_eLdc, d_eLdw, d_eLoc, d_eFld, d_lFld, d_eAI, d_eAZ, d_eAB, d_lAL, d_eAD, d_eLen, d_eAdd, d_eSub, d_eMul, d_eAnd, d_eOr, d_eXor, d_eShl, d_eShr, d_eUsh, d_lAdd, d_lSub, d_lMul, d_lAnd, d_lOr, d_lXor, d_lShl, d_lShr, d_eDiv, d_eRem, d_eCmp, d_eI2B, d_eI2S, d_eL2I, d_lI2L, d_lInt, d_lLdc, d_lLoc, d_eIte, d_lIte, d_eMax, d_eMin, d_eAbs, d_eAbove, d_eBodies, d_cQ, d_cZ, d_cNot, d_cAnd, d_cOr, d_gNil, d_gI, d_gL, d_gR, d_gD, d_xV, d_xS, d_xN, d_xT, d_eCall, d_lCall, d_eCallC, d_sNop, d_sSet, d_sSetL, d_sSetR, d_sSetQ, d_sInc, d_sPutI, d_sPutZ, d_sPutL, d_sPutA, d_sPutAZ, d_sPutAB, d_sPutAL, d_sPutD, d_sOpF, d_sOpA, d_sCall, d_sCopy, d_sSeq, d_sIf, d_sBrk, d_sCnt, d_sRetV, d_sRet, d_sRetL, d_sLp, d_tDef, d_tCase, d_sSw, d_sSwB, bIt_d, itb_0, itb_1, itb_2, itb_r, its_0, sqk_0, sqk_1, sqk_2, sqk_r, swk_0, swk_1, swk_r, bfin_r, bfin_ite, Option.bind_some, Option.map_some, Option.bind_none, Option.map_none, bind_ite, map_ite, cop0, cop1, cop2, cop3, cop4, cop5, opv0, opv1, opv2, opv3, brc_i, brc_z, two_ne_one, false_or, getI, getR, getL, List.getElem?_cons_zero, List.getElem?_cons_succ, List.set_cons_zero, List.set_cons_succ, bnl, if_true, if_false, true_or, or_true, decide_eq_true_eq, Bool.not_eq_true', decide_eq_false_iff_not, Bool.not_true, Bool.not_false, Bool.true_eq_false, Bool.false_eq_true, ite_not, reduceIte, ite01_0, ite01_1, Decidable.not_not, ne_eq, not_true_eq_false, not_false_eq_true, Function.comp_apply, decide_not, Bool.not_not, Bool.not_eq_false', dc_t, dc_f, and_self, true_and, and_true, and_false, false_and, tnc, Int.reduceLT, Int.reduceLE, Int.reduceEq, Int.reduceAdd, Int.reduceSub, Int.reduceMul, Int.reduceToNat, Int.reduceNeg, Int.reduceNe]
theorem sp_parted (n : Nat) {b m : bM} {L : List Int} {k N R A p : Int} (x : Int) (h : dH b m L k N R A p) (hN : 0 ≤ N ∧ N ≤ 999) (hR : 0 ≤ R ∧ R ≤ 999) : ∃ m2, sem (n + 1) 321 [aR 124, aI x] m = some (m2, if R = N then 0 else jdiv x (R - N)) ∧ dH b m2 L k N R A (if R = N then 1 else p) := by
  obtain ⟨h1, h2, h3, h4, h5, h6, h7, h8⟩ := h
  by_cases z : R = N
  · rw [if_pos z, if_pos z]
    refine ⟨_, pt_1 n m x N h3 (by rw [h4, z]), fun i a c => by rw [bwr_ne _ _ a]; exact h1 i a c, ?_, ?_, ?_, ?_, ?_, ?_, fun j hj => ?_⟩
    · rw [bwr_ne2 _ (by decide)]; exact h2
    · rw [bwr_ne2 _ (by decide)]; exact h3
    · rw [bwr_ne2 _ (by decide)]; exact h4
    · rw [bwr_ne2 _ (by decide)]; exact h5
    · rw [bwr_eq2]
    · rw [bwr_ne2 _ (by decide)]; exact h7
    · rw [bwr_ne _ _ (by decide)]; exact h8 j hj
  · rw [if_neg z, if_neg z]
    exact ⟨m, pt_0 n m x N R _ h3 h4 (eq_false z) (i32_of (by omega) (by omega)) (eq_false (by omega)), h1, h2, h3, h4, h5, h6, h7, h8⟩
def dRn (b : bM) (k N R A p : Int) (D : Nat) (f d x v q : Int) (B : List Int) : Prop := ∀ (n : Nat) (m : bM) (L : List Int) (e : Int), dH b m L k N R A p → L.length + B.length ≤ 30 → 0 ≤ e → e + (D : Int) ≤ 20 → ∃ m2, sem (n + (D + 1)) 276 [aR 124, aI f, aI d, aI x, aI e] m = some (m2, v) ∧ dH b m2 (L ++ B) k N R A q
theorem ap_c {b m : bM} {L B : List Int} {y k N R A p : Int} (h : dH b m (L ++ [y] ++ B) k N R A p) : dH b m (L ++ y :: B) k N R A p := by rw [List.append_cons]; exact h
theorem ap_2 {b m : bM} {L B C : List Int} {y k N R A p : Int} (h : dH b m (L ++ [y] ++ B ++ C) k N R A p) : dH b m (L ++ y :: (B ++ C)) k N R A p := by rw [List.append_cons, ← List.append_assoc]; exact h
section
variable {b : bM} {k N R A p q q2 : Int} {D : Nat}
theorem cc_0_0 (x : Int) : dRn b k N R A p (D + 1) 0 0 x (i32 (x + A)) p [10] := by
  intro n m L e hH hL he hE
  obtain ⟨m1, e0, h1⟩ := sp_note (n + D) 10 hH (by simp only [List.length_cons, List.length_nil] at hL; omega)
  exact ⟨m1, rn_0_0 (n + (D + 1)) m m1 x e (e + 1) (by omega) (i32_of (by omega) (by omega)) e0 A h1.2.2.2.2.1, h1⟩
theorem cc_0_1 (x z : Int) {B : List Int} (hh : dRn b k N R A p D k 0 x z q B) : dRn b k N R A p (D + 1) 0 1 x (i32 (z * 2)) q (11 :: B) := by
  intro n m L e hH hL he hE
  obtain ⟨m1, e0, h1⟩ := sp_note (n + D) 11 hH (by simp only [List.length_cons, List.length_nil] at hL; omega)
  obtain ⟨m2, e2, h2⟩ := hh n m1 (L ++ [11]) (e + 1) h1 (by simp only [List.length_append, List.length_cons, List.length_nil] at hL ⊢; omega) (by omega) (by omega)
  exact ⟨m2, rn_0_1 (n + (D + 1)) m m1 x e (e + 1) (by omega) (i32_of (by omega) (by omega)) e0 m2 z k h1.2.1 e2, ap_c h2⟩
theorem cc_0_2 (x z : Int) {B : List Int} (hh : dRn b k N R A p D k 1 x z q B) : dRn b k N R A p (D + 1) 0 2 x (i32 (z - R)) q (12 :: B) := by
  intro n m L e hH hL he hE
  obtain ⟨m1, e0, h1⟩ := sp_note (n + D) 12 hH (by simp only [List.length_cons, List.length_nil] at hL; omega)
  obtain ⟨m2, e2, h2⟩ := hh n m1 (L ++ [12]) (e + 1) h1 (by simp only [List.length_append, List.length_cons, List.length_nil] at hL ⊢; omega) (by omega) (by omega)
  exact ⟨m2, rn_0_2 (n + (D + 1)) m m1 x e (e + 1) (by omega) (i32_of (by omega) (by omega)) e0 m2 z R k h1.2.1 h2.2.2.2.1 e2, ap_c h2⟩
theorem cc_0_3 (x : Int) (hN : 0 ≤ N ∧ N ≤ 999) (hR : 0 ≤ R ∧ R ≤ 999) : dRn b k N R A p (D + 1) 0 3 x (if R = N then 0 else jdiv x (R - N)) (if R = N then 1 else p) [13] := by
  intro n m L e hH hL he hE
  obtain ⟨m1, e0, h1⟩ := sp_note (n + D) 13 hH (by simp only [List.length_cons, List.length_nil] at hL; omega)
  obtain ⟨m2, e2, h2⟩ := sp_parted (n + D) x h1 hN hR
  exact ⟨m2, rn_0_3 (n + (D + 1)) m m1 x e (e + 1) (by omega) (i32_of (by omega) (by omega)) e0 m2 _ e2, h2⟩
theorem cc_1_0 (x z : Int) {B : List Int} (hh : dRn b k N R A p D 0 0 x z q B) : dRn b k N R A p (D + 1) 1 0 x (jxor z N) q (20 :: B) := by
  intro n m L e hH hL he hE
  obtain ⟨m1, e0, h1⟩ := sp_note (n + D) 20 hH (by simp only [List.length_cons, List.length_nil] at hL; omega)
  obtain ⟨m2, e2, h2⟩ := hh n m1 (L ++ [20]) (e + 1) h1 (by simp only [List.length_append, List.length_cons, List.length_nil] at hL ⊢; omega) (by omega) (by omega)
  exact ⟨m2, rn_1_0 (n + (D + 1)) m m1 x e (e + 1) (by omega) (i32_of (by omega) (by omega)) e0 m2 z N h2.2.2.1 e2, ap_c h2⟩
theorem cc_1_1 (x z : Int) {B : List Int} (hh : dRn b k N R A p D k 0 x z q B) : dRn b k N R A p (D + 1) 1 1 x (i32 (z * 2)) q (11 :: B) := by
  intro n m L e hH hL he hE
  obtain ⟨m1, e0, h1⟩ := sp_note (n + D) 11 hH (by simp only [List.length_cons, List.length_nil] at hL; omega)
  obtain ⟨m2, e2, h2⟩ := hh n m1 (L ++ [11]) (e + 1) h1 (by simp only [List.length_append, List.length_cons, List.length_nil] at hL ⊢; omega) (by omega) (by omega)
  exact ⟨m2, rn_1_1 (n + (D + 1)) m m1 x e (e + 1) (by omega) (i32_of (by omega) (by omega)) e0 m2 z k h1.2.1 e2, ap_c h2⟩
theorem cc_1_2 (x z : Int) {B : List Int} (hh : dRn b k N R A p D k 1 x z q B) : dRn b k N R A p (D + 1) 1 2 x (i32 (z - R)) q (12 :: B) := by
  intro n m L e hH hL he hE
  obtain ⟨m1, e0, h1⟩ := sp_note (n + D) 12 hH (by simp only [List.length_cons, List.length_nil] at hL; omega)
  obtain ⟨m2, e2, h2⟩ := hh n m1 (L ++ [12]) (e + 1) h1 (by simp only [List.length_append, List.length_cons, List.length_nil] at hL ⊢; omega) (by omega) (by omega)
  exact ⟨m2, rn_1_2 (n + (D + 1)) m m1 x e (e + 1) (by omega) (i32_of (by omega) (by omega)) e0 m2 z R k h1.2.1 h2.2.2.2.1 e2, ap_c h2⟩
theorem cc_1_3 (x : Int) (hN : 0 ≤ N ∧ N ≤ 999) (hR : 0 ≤ R ∧ R ≤ 999) : dRn b k N R A p (D + 1) 1 3 x (if R = N then 0 else jdiv x (R - N)) (if R = N then 1 else p) [13] := by
  intro n m L e hH hL he hE
  obtain ⟨m1, e0, h1⟩ := sp_note (n + D) 13 hH (by simp only [List.length_cons, List.length_nil] at hL; omega)
  obtain ⟨m2, e2, h2⟩ := sp_parted (n + D) x h1 hN hR
  exact ⟨m2, rn_1_3 (n + (D + 1)) m m1 x e (e + 1) (by omega) (i32_of (by omega) (by omega)) e0 m2 _ e2, h2⟩
theorem cc_2_0 (x : Int) : dRn b k N R A p (D + 1) 2 0 x (i32 (x + A)) p [10] := by
  intro n m L e hH hL he hE
  obtain ⟨m1, e0, h1⟩ := sp_note (n + D) 10 hH (by simp only [List.length_cons, List.length_nil] at hL; omega)
  exact ⟨m1, rn_2_0 (n + (D + 1)) m m1 x e (e + 1) (by omega) (i32_of (by omega) (by omega)) e0 A h1.2.2.2.2.1, h1⟩
theorem cc_2_1 (x z : Int) {B : List Int} (hh : dRn b k N R A p D k 0 x z q B) : dRn b k N R A p (D + 1) 2 1 x (i32 (z * 2)) q (11 :: B) := by
  intro n m L e hH hL he hE
  obtain ⟨m1, e0, h1⟩ := sp_note (n + D) 11 hH (by simp only [List.length_cons, List.length_nil] at hL; omega)
  obtain ⟨m2, e2, h2⟩ := hh n m1 (L ++ [11]) (e + 1) h1 (by simp only [List.length_append, List.length_cons, List.length_nil] at hL ⊢; omega) (by omega) (by omega)
  exact ⟨m2, rn_2_1 (n + (D + 1)) m m1 x e (e + 1) (by omega) (i32_of (by omega) (by omega)) e0 m2 z k h1.2.1 e2, ap_c h2⟩
theorem cc_2_2 (x z y : Int) {B C : List Int} (hh : dRn b k N R A p D 0 2 x z q B) (hg : dRn b k N R A q D k 0 1 y q2 C) : dRn b k N R A p (D + 1) 2 2 x (i32 (z + y)) q2 (30 :: (B ++ C)) := by
  intro n m L e hH hL he hE
  obtain ⟨m1, e0, h1⟩ := sp_note (n + D) 30 hH (by simp only [List.length_cons, List.length_nil, List.length_append] at hL; omega)
  obtain ⟨m2, e2, h2⟩ := hh n m1 (L ++ [30]) (e + 1) h1 (by simp only [List.length_append, List.length_cons, List.length_nil] at hL ⊢; omega) (by omega) (by omega)
  obtain ⟨m3, e3, h3⟩ := hg n m2 (L ++ [30] ++ B) (e + 1) h2 (by simp only [List.length_append, List.length_cons, List.length_nil] at hL ⊢; omega) (by omega) (by omega)
  exact ⟨m3, rn_2_2 (n + (D + 1)) m m1 x e (e + 1) (by omega) (i32_of (by omega) (by omega)) e0 m2 m3 z y k h2.2.1 e2 e3, ap_2 h3⟩
theorem cc_2_3 (x : Int) (hN : 0 ≤ N ∧ N ≤ 999) (hR : 0 ≤ R ∧ R ≤ 999) : dRn b k N R A p (D + 1) 2 3 x (if R = N then 0 else jdiv x (R - N)) (if R = N then 1 else p) [13] := by
  intro n m L e hH hL he hE
  obtain ⟨m1, e0, h1⟩ := sp_note (n + D) 13 hH (by simp only [List.length_cons, List.length_nil] at hL; omega)
  obtain ⟨m2, e2, h2⟩ := sp_parted (n + D) x h1 hN hR
  exact ⟨m2, rn_2_3 (n + (D + 1)) m m1 x e (e + 1) (by omega) (i32_of (by omega) (by omega)) e0 m2 _ e2, h2⟩
theorem cc_3_0 (x : Int) : dRn b k N R A p (D + 1) 3 0 x (i32 (x + A)) p [10] := by
  intro n m L e hH hL he hE
  obtain ⟨m1, e0, h1⟩ := sp_note (n + D) 10 hH (by simp only [List.length_cons, List.length_nil] at hL; omega)
  exact ⟨m1, rn_3_0 (n + (D + 1)) m m1 x e (e + 1) (by omega) (i32_of (by omega) (by omega)) e0 A h1.2.2.2.2.1, h1⟩
theorem cc_3_1 (x z : Int) {B : List Int} (hh : dRn b k N R A p D 0 1 x z q B) : dRn b k N R A p (D + 1) 3 1 x (i32 (0 - z)) q (40 :: B) := by
  intro n m L e hH hL he hE
  obtain ⟨m1, e0, h1⟩ := sp_note (n + D) 40 hH (by simp only [List.length_cons, List.length_nil] at hL; omega)
  obtain ⟨m2, e2, h2⟩ := hh n m1 (L ++ [40]) (e + 1) h1 (by simp only [List.length_append, List.length_cons, List.length_nil] at hL ⊢; omega) (by omega) (by omega)
  exact ⟨m2, rn_3_1 (n + (D + 1)) m m1 x e (e + 1) (by omega) (i32_of (by omega) (by omega)) e0 m2 z e2, ap_c h2⟩
theorem cc_3_2 (x z : Int) {B : List Int} (hh : dRn b k N R A p D k 1 x z q B) : dRn b k N R A p (D + 1) 3 2 x (i32 (z - R)) q (12 :: B) := by
  intro n m L e hH hL he hE
  obtain ⟨m1, e0, h1⟩ := sp_note (n + D) 12 hH (by simp only [List.length_cons, List.length_nil] at hL; omega)
  obtain ⟨m2, e2, h2⟩ := hh n m1 (L ++ [12]) (e + 1) h1 (by simp only [List.length_append, List.length_cons, List.length_nil] at hL ⊢; omega) (by omega) (by omega)
  exact ⟨m2, rn_3_2 (n + (D + 1)) m m1 x e (e + 1) (by omega) (i32_of (by omega) (by omega)) e0 m2 z R k h1.2.1 h2.2.2.2.1 e2, ap_c h2⟩
theorem cc_3_3 (x z : Int) {B : List Int} (hh : dRn b k N R A p D 0 3 (i32 (x + 3)) z q B) : dRn b k N R A p (D + 1) 3 3 x (z) q (41 :: B) := by
  intro n m L e hH hL he hE
  obtain ⟨m1, e0, h1⟩ := sp_note (n + D) 41 hH (by simp only [List.length_cons, List.length_nil] at hL; omega)
  obtain ⟨m2, e2, h2⟩ := hh n m1 (L ++ [41]) (e + 1) h1 (by simp only [List.length_append, List.length_cons, List.length_nil] at hL ⊢; omega) (by omega) (by omega)
  exact ⟨m2, rn_3_3 (n + (D + 1)) m m1 x e (e + 1) (by omega) (i32_of (by omega) (by omega)) e0 m2 z _ rfl e2, ap_c h2⟩
theorem cc_4_0 (x z : Int) {B : List Int} (hh : dRn b k N R A p D 3 0 (i32 (x - 1)) z q B) : dRn b k N R A p (D + 1) 4 0 x (z) q (50 :: B) := by
  intro n m L e hH hL he hE
  obtain ⟨m1, e0, h1⟩ := sp_note (n + D) 50 hH (by simp only [List.length_cons, List.length_nil] at hL; omega)
  obtain ⟨m2, e2, h2⟩ := hh n m1 (L ++ [50]) (e + 1) h1 (by simp only [List.length_append, List.length_cons, List.length_nil] at hL ⊢; omega) (by omega) (by omega)
  exact ⟨m2, rn_4_0 (n + (D + 1)) m m1 x e (e + 1) (by omega) (i32_of (by omega) (by omega)) e0 m2 z _ rfl e2, ap_c h2⟩
theorem cc_4_1 (x z : Int) {B : List Int} (hh : dRn b k N R A p D 3 1 x z q B) : dRn b k N R A p (D + 1) 4 1 x (i32 (z * 3)) q (51 :: B) := by
  intro n m L e hH hL he hE
  obtain ⟨m1, e0, h1⟩ := sp_note (n + D) 51 hH (by simp only [List.length_cons, List.length_nil] at hL; omega)
  obtain ⟨m2, e2, h2⟩ := hh n m1 (L ++ [51]) (e + 1) h1 (by simp only [List.length_append, List.length_cons, List.length_nil] at hL ⊢; omega) (by omega) (by omega)
  exact ⟨m2, rn_4_1 (n + (D + 1)) m m1 x e (e + 1) (by omega) (i32_of (by omega) (by omega)) e0 m2 z e2, ap_c h2⟩
theorem cc_4_2 (x z : Int) {B : List Int} (hh : dRn b k N R A p D k 1 x z q B) : dRn b k N R A p (D + 1) 4 2 x (i32 (z - R)) q (12 :: B) := by
  intro n m L e hH hL he hE
  obtain ⟨m1, e0, h1⟩ := sp_note (n + D) 12 hH (by simp only [List.length_cons, List.length_nil] at hL; omega)
  obtain ⟨m2, e2, h2⟩ := hh n m1 (L ++ [12]) (e + 1) h1 (by simp only [List.length_append, List.length_cons, List.length_nil] at hL ⊢; omega) (by omega) (by omega)
  exact ⟨m2, rn_4_2 (n + (D + 1)) m m1 x e (e + 1) (by omega) (i32_of (by omega) (by omega)) e0 m2 z R k h1.2.1 h2.2.2.2.1 e2, ap_c h2⟩
theorem cc_4_3 (x z : Int) {B : List Int} (hh : dRn b k N R A p D 0 3 (i32 (x + 3)) z q B) : dRn b k N R A p (D + 1) 4 3 x (z) q (41 :: B) := by
  intro n m L e hH hL he hE
  obtain ⟨m1, e0, h1⟩ := sp_note (n + D) 41 hH (by simp only [List.length_cons, List.length_nil] at hL; omega)
  obtain ⟨m2, e2, h2⟩ := hh n m1 (L ++ [41]) (e + 1) h1 (by simp only [List.length_append, List.length_cons, List.length_nil] at hL ⊢; omega) (by omega) (by omega)
  exact ⟨m2, rn_4_3 (n + (D + 1)) m m1 x e (e + 1) (by omega) (i32_of (by omega) (by omega)) e0 m2 z _ rfl e2, ap_c h2⟩
theorem cc_5_0 (x : Int) : dRn b k N R A p (D + 1) 5 0 x (i32 (x + A)) p [10] := by
  intro n m L e hH hL he hE
  obtain ⟨m1, e0, h1⟩ := sp_note (n + D) 10 hH (by simp only [List.length_cons, List.length_nil] at hL; omega)
  exact ⟨m1, rn_5_0 (n + (D + 1)) m m1 x e (e + 1) (by omega) (i32_of (by omega) (by omega)) e0 A h1.2.2.2.2.1, h1⟩
theorem cc_5_1 (x z : Int) {B : List Int} (hh : dRn b k N R A p D k 0 x z q B) : dRn b k N R A p (D + 1) 5 1 x (i32 (z * 2)) q (11 :: B) := by
  intro n m L e hH hL he hE
  obtain ⟨m1, e0, h1⟩ := sp_note (n + D) 11 hH (by simp only [List.length_cons, List.length_nil] at hL; omega)
  obtain ⟨m2, e2, h2⟩ := hh n m1 (L ++ [11]) (e + 1) h1 (by simp only [List.length_append, List.length_cons, List.length_nil] at hL ⊢; omega) (by omega) (by omega)
  exact ⟨m2, rn_5_1 (n + (D + 1)) m m1 x e (e + 1) (by omega) (i32_of (by omega) (by omega)) e0 m2 z k h1.2.1 e2, ap_c h2⟩
theorem cc_5_2 (x z : Int) {B : List Int} (hh : dRn b k N R A p D 0 2 x z q B) : dRn b k N R A p (D + 1) 5 2 x (i32 (z * 2)) q (60 :: B) := by
  intro n m L e hH hL he hE
  obtain ⟨m1, e0, h1⟩ := sp_note (n + D) 60 hH (by simp only [List.length_cons, List.length_nil] at hL; omega)
  obtain ⟨m2, e2, h2⟩ := hh n m1 (L ++ [60]) (e + 1) h1 (by simp only [List.length_append, List.length_cons, List.length_nil] at hL ⊢; omega) (by omega) (by omega)
  exact ⟨m2, rn_5_2 (n + (D + 1)) m m1 x e (e + 1) (by omega) (i32_of (by omega) (by omega)) e0 m2 z e2, ap_c h2⟩
theorem cc_5_3 (x z : Int) {B : List Int} (hh : dRn b k N R A p D 0 3 x z q B) : dRn b k N R A p (D + 1) 5 3 x (i32 (0 - z)) q (61 :: B) := by
  intro n m L e hH hL he hE
  obtain ⟨m1, e0, h1⟩ := sp_note (n + D) 61 hH (by simp only [List.length_cons, List.length_nil] at hL; omega)
  obtain ⟨m2, e2, h2⟩ := hh n m1 (L ++ [61]) (e + 1) h1 (by simp only [List.length_append, List.length_cons, List.length_nil] at hL ⊢; omega) (by omega) (by omega)
  exact ⟨m2, rn_5_3 (n + (D + 1)) m m1 x e (e + 1) (by omega) (i32_of (by omega) (by omega)) e0 m2 z e2, ap_c h2⟩
theorem cc_6_0 (x z : Int) {B : List Int} (hh : dRn b k N R A p D 5 0 x z q B) : dRn b k N R A p (D + 1) 6 0 x (i32 (z + 5)) q (71 :: B) := by
  intro n m L e hH hL he hE
  obtain ⟨m1, e0, h1⟩ := sp_note (n + D) 71 hH (by simp only [List.length_cons, List.length_nil] at hL; omega)
  obtain ⟨m2, e2, h2⟩ := hh n m1 (L ++ [71]) (e + 1) h1 (by simp only [List.length_append, List.length_cons, List.length_nil] at hL ⊢; omega) (by omega) (by omega)
  exact ⟨m2, rn_6_0 (n + (D + 1)) m m1 x e (e + 1) (by omega) (i32_of (by omega) (by omega)) e0 m2 z e2, ap_c h2⟩
theorem cc_6_1 (x z : Int) {B : List Int} (hh : dRn b k N R A p D k 0 x z q B) : dRn b k N R A p (D + 1) 6 1 x (i32 (z * 2)) q (11 :: B) := by
  intro n m L e hH hL he hE
  obtain ⟨m1, e0, h1⟩ := sp_note (n + D) 11 hH (by simp only [List.length_cons, List.length_nil] at hL; omega)
  obtain ⟨m2, e2, h2⟩ := hh n m1 (L ++ [11]) (e + 1) h1 (by simp only [List.length_append, List.length_cons, List.length_nil] at hL ⊢; omega) (by omega) (by omega)
  exact ⟨m2, rn_6_1 (n + (D + 1)) m m1 x e (e + 1) (by omega) (i32_of (by omega) (by omega)) e0 m2 z k h1.2.1 e2, ap_c h2⟩
theorem cc_6_2 (x z y : Int) {B C : List Int} (hh : dRn b k N R A p D 5 2 x z q B) (hg : dRn b k N R A q D k 1 N y q2 C) : dRn b k N R A p (D + 1) 6 2 x (i32 (z + y)) q2 (70 :: (B ++ C)) := by
  intro n m L e hH hL he hE
  obtain ⟨m1, e0, h1⟩ := sp_note (n + D) 70 hH (by simp only [List.length_cons, List.length_nil, List.length_append] at hL; omega)
  obtain ⟨m2, e2, h2⟩ := hh n m1 (L ++ [70]) (e + 1) h1 (by simp only [List.length_append, List.length_cons, List.length_nil] at hL ⊢; omega) (by omega) (by omega)
  obtain ⟨m3, e3, h3⟩ := hg n m2 (L ++ [70] ++ B) (e + 1) h2 (by simp only [List.length_append, List.length_cons, List.length_nil] at hL ⊢; omega) (by omega) (by omega)
  exact ⟨m3, rn_6_2 (n + (D + 1)) m m1 x e (e + 1) (by omega) (i32_of (by omega) (by omega)) e0 m2 m3 z y k N h2.2.1 h2.2.2.1 e2 e3, ap_2 h3⟩
theorem cc_6_3 (x z : Int) {B : List Int} (hh : dRn b k N R A p D 0 3 x z q B) : dRn b k N R A p (D + 1) 6 3 x (i32 (0 - z)) q (61 :: B) := by
  intro n m L e hH hL he hE
  obtain ⟨m1, e0, h1⟩ := sp_note (n + D) 61 hH (by simp only [List.length_cons, List.length_nil] at hL; omega)
  obtain ⟨m2, e2, h2⟩ := hh n m1 (L ++ [61]) (e + 1) h1 (by simp only [List.length_append, List.length_cons, List.length_nil] at hL ⊢; omega) (by omega) (by omega)
  exact ⟨m2, rn_6_3 (n + (D + 1)) m m1 x e (e + 1) (by omega) (i32_of (by omega) (by omega)) e0 m2 z e2, ap_c h2⟩
theorem dRn_up {f d x v : Int} {B : List Int} (j : Nat) (h : dRn b k N R A p D f d x v q B) : dRn b k N R A p (D + j) f d x v q B := by
  intro n m L e hH hL he hE
  obtain ⟨m2, e2, h2⟩ := h (n + j) m L e hH hL he (by omega)
  exact ⟨m2, by rw [show n + (D + j + 1) = n + j + (D + 1) by omega]; exact e2, h2⟩
end
section
variable {b : bM} {N R A p : Int}
theorem cF_1 (x : Int) : dRn b 1 N R A p 2 1 0 x (jxor (i32 (x + A)) N) (p) [20, 10] := cc_1_0 x _ (cc_0_0 (D := 0) _)
theorem cP_1 (x : Int) : dRn b 1 N R A p 3 1 1 x (i32 ((jxor (i32 (x + A)) N) * 2)) (p) [11, 20, 10] := cc_1_1 x _ (cF_1 x)
theorem cH_1 (x : Int) : dRn b 1 N R A p 4 1 2 x (i32 (i32 ((jxor (i32 (x + A)) N) * 2) - R)) (p) [12, 11, 20, 10] := cc_1_2 x _ (cP_1 x)
theorem cT_1 (x : Int) (hN : 0 ≤ N ∧ N ≤ 999) (hR : 0 ≤ R ∧ R ≤ 999) : dRn b 1 N R A p 1 1 3 x (if R = N then 0 else jdiv x (R - N)) (if R = N then 1 else p) [13] := cc_1_3 (D := 0) x hN hR
theorem cF_2 (x : Int) : dRn b 2 N R A p 1 2 0 x (i32 (x + A)) (p) [10] := cc_2_0 (D := 0) x
theorem cP_2 (x : Int) : dRn b 2 N R A p 2 2 1 x (i32 (i32 (x + A) * 2)) (p) [11, 10] := cc_2_1 x _ (cF_2 x)
theorem cH_2 (x : Int) : dRn b 2 N R A p 4 2 2 x (i32 (i32 (i32 (i32 (x + A) * 2) - R) + i32 (1 + A))) (p) [30, 12, 11, 10, 10] := cc_2_2 x _ _ (cc_0_2 x _ (cP_2 x)) (dRn_up 2 (cF_2 1))
theorem cT_2 (x : Int) (hN : 0 ≤ N ∧ N ≤ 999) (hR : 0 ≤ R ∧ R ≤ 999) : dRn b 2 N R A p 1 2 3 x (if R = N then 0 else jdiv x (R - N)) (if R = N then 1 else p) [13] := cc_2_3 (D := 0) x hN hR
theorem cF_3 (x : Int) : dRn b 3 N R A p 1 3 0 x (i32 (x + A)) (p) [10] := cc_3_0 (D := 0) x
theorem cP_3 (x : Int) : dRn b 3 N R A p 3 3 1 x (i32 (0 - i32 (i32 (x + A) * 2))) (p) [40, 11, 10] := cc_3_1 x _ (cc_0_1 x _ (cF_3 x))
theorem cH_3 (x : Int) : dRn b 3 N R A p 4 3 2 x (i32 (i32 (0 - i32 (i32 (x + A) * 2)) - R)) (p) [12, 40, 11, 10] := cc_3_2 x _ (cP_3 x)
theorem cT_3 (x : Int) (hN : 0 ≤ N ∧ N ≤ 999) (hR : 0 ≤ R ∧ R ≤ 999) : dRn b 3 N R A p 2 3 3 x (if R = N then 0 else jdiv (i32 (x + 3)) (R - N)) (if R = N then 1 else p) [41, 13] := cc_3_3 x _ (cc_0_3 (D := 0) _ hN hR)
theorem cF_4 (x : Int) : dRn b 4 N R A p 2 4 0 x (i32 (i32 (x - 1) + A)) (p) [50, 10] := cc_4_0 x _ (cc_3_0 (D := 0) _)
theorem cP_4 (x : Int) : dRn b 4 N R A p 5 4 1 x (i32 (i32 (0 - i32 (i32 (i32 (x - 1) + A) * 2)) * 3)) (p) [51, 40, 11, 50, 10] := cc_4_1 x _ (cc_3_1 x _ (cc_0_1 x _ (cF_4 x)))
theorem cH_4 (x : Int) : dRn b 4 N R A p 6 4 2 x (i32 (i32 (i32 (0 - i32 (i32 (i32 (x - 1) + A) * 2)) * 3) - R)) (p) [12, 51, 40, 11, 50, 10] := cc_4_2 x _ (cP_4 x)
theorem cT_4 (x : Int) (hN : 0 ≤ N ∧ N ≤ 999) (hR : 0 ≤ R ∧ R ≤ 999) : dRn b 4 N R A p 2 4 3 x (if R = N then 0 else jdiv (i32 (x + 3)) (R - N)) (if R = N then 1 else p) [41, 13] := cc_4_3 x _ (cc_0_3 (D := 0) _ hN hR)
theorem cF_5 (x : Int) : dRn b 5 N R A p 1 5 0 x (i32 (x + A)) (p) [10] := cc_5_0 (D := 0) x
theorem cP_5 (x : Int) : dRn b 5 N R A p 2 5 1 x (i32 (i32 (x + A) * 2)) (p) [11, 10] := cc_5_1 x _ (cF_5 x)
theorem cH_5 (x : Int) : dRn b 5 N R A p 4 5 2 x (i32 (i32 (i32 (i32 (x + A) * 2) - R) * 2)) (p) [60, 12, 11, 10] := cc_5_2 x _ (cc_0_2 x _ (cP_5 x))
theorem cT_5 (x : Int) (hN : 0 ≤ N ∧ N ≤ 999) (hR : 0 ≤ R ∧ R ≤ 999) : dRn b 5 N R A p 2 5 3 x (i32 (0 - (if R = N then 0 else jdiv x (R - N)))) (if R = N then 1 else p) [61, 13] := cc_5_3 x _ (cc_0_3 (D := 0) _ hN hR)
theorem cF_6 (x : Int) : dRn b 6 N R A p 2 6 0 x (i32 (i32 (x + A) + 5)) (p) [71, 10] := cc_6_0 x _ (cc_5_0 (D := 0) _)
theorem cP_6 (x : Int) : dRn b 6 N R A p 3 6 1 x (i32 (i32 (i32 (x + A) + 5) * 2)) (p) [11, 71, 10] := cc_6_1 x _ (cF_6 x)
theorem cH_6 (x : Int) : dRn b 6 N R A p 6 6 2 x (i32 (i32 (i32 (i32 (i32 (i32 (x + A) + 5) * 2) - R) * 2) + i32 (i32 (i32 (N + A) + 5) * 2))) (p) [70, 60, 12, 11, 71, 10, 11, 71, 10] := cc_6_2 x _ _ (cc_5_2 x _ (cc_0_2 x _ (cP_6 x))) (dRn_up 2 (cP_6 N))
theorem cT_6 (x : Int) (hN : 0 ≤ N ∧ N ≤ 999) (hR : 0 ≤ R ∧ R ≤ 999) : dRn b 6 N R A p 2 6 3 x (i32 (0 - (if R = N then 0 else jdiv x (R - N)))) (if R = N then 1 else p) [61, 13] := cc_6_3 x _ (cc_0_3 (D := 0) _ hN hR)
end
