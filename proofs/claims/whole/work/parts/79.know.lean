/-! ===== a night is known ===== -/
theorem Known_at {c m m1 : bM} {q : Nat} (hk : Known c m q) (h1 : m1 103 q = m 103 q) (h2 : m1 104 q = m 104 q) (h3 : ∀ r, r < 12 → m1 105 (12 * q + r) = m 105 (12 * q + r)) (h4 : ∀ t, t < 12 → m1 106 (12 * q + t) = m 106 (12 * q + t)) (hT : nTh c ≤ 12) : Known c m1 q := by
  obtain ⟨k1, k2, k3, k4⟩ := hk
  refine ⟨by rw [h1]; exact k1, by rw [h2]; exact k2, fun r hr => by rw [h3 r hr]; exact k3 r hr, fun t ht => by rw [h4 t (Nat.lt_of_lt_of_le ht hT)]; exact k4 t ht⟩
/-- what know leaves of the rest -/
def frN (m m2 : bM) : Prop := (∀ i, i < 93 ∨ 107 ≤ i → m2 i = m i) ∧ m2 101 = m 101
theorem zz4 : ((12 : Int) ≤ ((12 : Nat) : Int)) = True := eq_true (by decide)
theorem kn_b (n : Nat) (m m1 : bM) (qI wI sI g f F G eI age : Int) (q : Nat) (f2 : 0 ≤ qI ∧ qI < ((90 : Nat) : Int)) (tq : qI.toNat = q) (h0 : ¬ m 102 q = m 101 13) (x1 : jdiv qI 30 = wI) (x2 : jrem qI 30 = sI) (hg : m 1 8 = g) (hf : m 1 9 = f) (e1 : sem (n + 3) 126 [aR 93, aI wI, aI sI, aI g, aI f, aI 179] m = some (m1, 0)) (e2 : sem (n + 3) 130 [aR 93] m1 = some (m1, F)) (e3 : sem (n + 3) 306 [aR 101] (bwr m1 103 q F) = some (bwr m1 103 q F, G)) (x3 : i32 (qI * 12) = eI) (z0 : 0 ≤ eI) (z1 : eI + 12 ≤ ((1080 : Nat) : Int)) (ha : m1 101 13 = age) : sem (n + 4) 257 [aR 101, aI qI] m = some (bwr (bcpy (bcpy (bwr (bwr m1 103 q F) 104 q G) 97 105 0 eI.toNat 12) 100 106 0 eI.toNat 12) 102 q age, 0) := by
  have w1 : (bcpy (bcpy (bwr (bwr m1 103 q F) 104 q G) 97 105 0 eI.toNat 12) 100 106 0 eI.toNat 12) 101 13 = age := by rw [bcpy_ne _ _ _ _ _ _ (by decide), bcpy_ne _ _ _ _ _ _ (by decide), bwr_ne _ _ (by decide), bwr_ne _ _ (by decide)]; exact ha
  rw [st_Nights_know]
  simp only [B_Nights_know, kr_Nights_know, f2, tq, h0, x1, x2, hg, hf, e1, e2, e3, x3, z0, z1, zz4, w1, d_rLoc1, d_rLoc2, d_rFld1, d_rFld2, d_eInt, d_eLdc, d_eLdw, d_eLoc, d_eFld, d_lFld, d_eAI, d_eAZ, d_eAB, d_lAL, d_eAD, d_eLen, d_eAdd, d_eSub, d_eMul, d_eAnd, d_eOr, d_eXor, d_eShl, d_eShr, d_eUsh, d_lAdd, d_lSub, d_lMul, d_lAnd, d_lOr, d_lXor, d_lShl, d_lShr, d_eDiv, d_eRem, d_eCmp, d_eI2B, d_eI2S, d_eL2I, d_lI2L, d_lInt, d_lLdc, d_lLoc, d_eIte, d_lIte, d_eMax, d_eMin, d_eAbs, d_eAbove, d_eBodies, d_cQ, d_cZ, d_cNot, d_cAnd, d_cOr, d_gNil, d_gI, d_gL, d_gR, d_gD, d_xV, d_xS, d_xN, d_xT, d_eCall, d_lCall, d_eCallC, d_sNop, d_sSet, d_sSetL, d_sSetR, d_sSetQ, d_sInc, d_sPutI, d_sPutZ, d_sPutL, d_sPutA, d_sPutAZ, d_sPutAB, d_sPutAL, d_sPutD, d_sOpF, d_sOpA, d_sCall, d_sCopy, d_sSeq, d_sIf, d_sBrk, d_sCnt, d_sRetV, d_sRet, d_sRetL, d_sLp, d_tDef, d_tCase, d_sSw, d_sSwB, bIt_d, itb_0, itb_1, itb_2, itb_r, its_0, sqk_0, sqk_1, sqk_2, sqk_r, swk_0, swk_1, swk_r, bfin_r, bfin_ite, Option.bind_some, Option.map_some, Option.bind_none, Option.map_none, bind_ite, map_ite, cop0, cop1, cop2, cop3, cop4, cop5, opv0, opv1, opv2, opv3, brc_i, brc_z, two_ne_one, false_or, getI, getR, getL, List.getElem?_cons_zero, List.getElem?_cons_succ, List.set_cons_zero, List.set_cons_succ, bnl, if_true, if_false, true_or, or_true, decide_eq_true_eq, Bool.not_eq_true', decide_eq_false_iff_not, Bool.not_true, Bool.not_false, Bool.true_eq_false, Bool.false_eq_true, ite_not, reduceIte, ite01_0, ite01_1, Decidable.not_not, ne_eq, not_true_eq_false, not_false_eq_true, Function.comp_apply, decide_not, Bool.not_not, Bool.not_eq_false', dc_t, dc_f, and_self, true_and, and_true, and_false, false_and, tnc, Int.reduceLT, Int.reduceLE, Int.reduceEq, Int.reduceAdd, Int.reduceSub, Int.reduceMul, Int.reduceToNat, Int.reduceNeg, Int.reduceNe]
theorem kn_a1 {q r : Nat} (hr : r < 12) : 12 * q ≤ 12 * q + r ∧ 12 * q + r < 12 * q + 12 := by omega
theorem kn_a2 {q r : Nat} : 0 + (12 * q + r - 12 * q) = r := by omega
theorem kn_a3 {q x r : Nat} (hx : ¬ x = q) (hr : r < 12) : ¬ (12 * q ≤ 12 * x + r ∧ 12 * x + r < 12 * q + 12) := by omega
theorem kn_a4 {i : Nat} (h : i < 93 ∨ 107 ≤ i) : i ≠ 102 ∧ i ≠ 103 ∧ i ≠ 104 ∧ i ≠ 105 ∧ i ≠ 106 ∧ (i < 93 ∨ 101 ≤ i) := by omega
set_option maxHeartbeats 60000 in
theorem sp_know (n : Nat) {i : Nat} {c m : bM} (hR : Rel c c) (hb : bse c m) (hN : NgtC i c m) (q : Nat) (hq : q < 90) : ∃ m2, sem (n + 4) 257 [aR 101, aI (q : Int)] m = some (m2, 0) ∧ NgtC i c m2 ∧ Known c m2 q ∧ frN m m2 := by
  by_cases h0 : m 102 q = m 101 13
  · have f2 : 0 ≤ (q : Int) ∧ (q : Int) < ((90 : Nat) : Int) := by omega
    have tq := tnc q
    refine ⟨m, ?_, hN, NgtC_known hN q hq h0, fun _ _ => rfl, rfl⟩
    rw [st_Nights_know]
    generalize ((q : Nat) : Int) = qI at *
    simp only [B_Nights_know, kr_Nights_know, f2, tq, h0, d_rLoc1, d_rLoc2, d_rFld1, d_rFld2, d_eInt, d_eLdc, d_eLdw, d_eLoc, d_eFld, d_lFld, d_eAI, d_eAZ, d_eAB, d_lAL, d_eAD, d_eLen, d_eAdd, d_eSub, d_eMul, d_eAnd, d_eOr, d_eXor, d_eShl, d_eShr, d_eUsh, d_lAdd, d_lSub, d_lMul, d_lAnd, d_lOr, d_lXor, d_lShl, d_lShr, d_eDiv, d_eRem, d_eCmp, d_eI2B, d_eI2S, d_eL2I, d_lI2L, d_lInt, d_lLdc, d_lLoc, d_eIte, d_lIte, d_eMax, d_eMin, d_eAbs, d_eAbove, d_eBodies, d_cQ, d_cZ, d_cNot, d_cAnd, d_cOr, d_gNil, d_gI, d_gL, d_gR, d_gD, d_xV, d_xS, d_xN, d_xT, d_eCall, d_lCall, d_eCallC, d_sNop, d_sSet, d_sSetL, d_sSetR, d_sSetQ, d_sInc, d_sPutI, d_sPutZ, d_sPutL, d_sPutA, d_sPutAZ, d_sPutAB, d_sPutAL, d_sPutD, d_sOpF, d_sOpA, d_sCall, d_sCopy, d_sSeq, d_sIf, d_sBrk, d_sCnt, d_sRetV, d_sRet, d_sRetL, d_sLp, d_tDef, d_tCase, d_sSw, d_sSwB, bIt_d, itb_0, itb_1, itb_2, itb_r, its_0, sqk_0, sqk_1, sqk_2, sqk_r, swk_0, swk_1, swk_r, bfin_r, bfin_ite, Option.bind_some, Option.map_some, Option.bind_none, Option.map_none, bind_ite, map_ite, cop0, cop1, cop2, cop3, cop4, cop5, opv0, opv1, opv2, opv3, brc_i, brc_z, two_ne_one, false_or, getI, getR, getL, List.getElem?_cons_zero, List.getElem?_cons_succ, List.set_cons_zero, List.set_cons_succ, bnl, if_true, if_false, true_or, or_true, decide_eq_true_eq, Bool.not_eq_true', decide_eq_false_iff_not, Bool.not_true, Bool.not_false, Bool.true_eq_false, Bool.false_eq_true, ite_not, reduceIte, ite01_0, ite01_1, Decidable.not_not, ne_eq, not_true_eq_false, not_false_eq_true, Function.comp_apply, decide_not, Bool.not_not, Bool.not_eq_false', dc_t, dc_f, and_self, true_and, and_true, and_false, false_and, tnc]
  · have hV := Rel_v hR
    have hS := Rel_s hR
    have w3 : q / 30 < 3 := by omega
    have s29 : 0 ≤ ((q % 30 : Nat) : Int) ∧ ((q % 30 : Nat) : Int) ≤ 29 := by omega
    have hHs := RelV_rhouses hV
    have hTs := RelF_rthings (Rel_f hR)
    obtain ⟨H, hH⟩ : ∃ H : Nat, c 1 10 = (H : Int) := ⟨(c 1 10).toNat, by omega⟩
    have eH : nHs c = H := by unfold nHs; rw [hH]; exact tnc H
    have hH10 : H ≤ 10 := by omega
    have hT12 : nTh c ≤ 12 := by unfold nTh; omega
    obtain ⟨m1, e1, ni, fr1⟩ := sp_pass n hV hS (Rel_f hR) hb w3 (f := c 1 9) s29 (RelV_rgate hV) (la := 179) (by decide)
    have ni' : NI c (q / 30) ((q % 30 : Nat) : Int) (c 1 8) (c 1 9) 180 m1 := ni
    have e2 := sp_fallen (n + 2) hV (NI_base ni) H hH
    obtain ⟨F, hF⟩ : ∃ F : Int, F = (bst (fun h => !decide (m1 98 h = -3)) H : Int) := ⟨_, rfl⟩
    rw [← hF] at e2
    have b2 : bse c (bwr m1 103 q F) := fun i hi => by rw [bwr_ne _ _ (by omega)]; exact NI_base ni i hi
    have e3 := sp_cmAgainst (n + 1) hS b2
    obtain ⟨G, hG⟩ : ∃ G : Int, G = (bst (cmB c (bwr m1 103 q F)) (nRw c) : Int) := ⟨_, rfl⟩
    rw [← hG] at e3
    have f2 : 0 ≤ (q : Int) ∧ (q : Int) < ((90 : Nat) : Int) := by omega
    have z0 : 0 ≤ ((12 * q : Nat) : Int) := by omega
    have z1 : ((12 * q : Nat) : Int) + 12 ≤ ((1080 : Nat) : Int) := by omega
    have y1 : 0 ≤ (q : Int) ∧ (q : Int) < 2147483648 := by omega
    have y2 : (q : Int) / 30 = ((q / 30 : Nat) : Int) := by omega
    have y3 : -2147483648 ≤ ((q % 30 : Nat) : Int) ∧ ((q % 30 : Nat) : Int) < 2147483648 := by omega
    have y4 : (q : Int) * 12 = ((12 * q : Nat) : Int) := by omega
    have y5 : -2147483648 ≤ ((12 * q : Nat) : Int) ∧ ((12 * q : Nat) : Int) < 2147483648 := by omega
    have x1 : jdiv (q : Int) 30 = ((q / 30 : Nat) : Int) := (jdiv_of y1 (by decide)).trans y2
    have x2 : jrem (q : Int) 30 = ((q % 30 : Nat) : Int) := by unfold jrem; exact i32_of y3.1 y3.2
    have x3 : i32 ((q : Int) * 12) = ((12 * q : Nat) : Int) := by rw [y4]; exact i32_of y5.1 y5.2
    have nE : m1 101 = m 101 := fr1 _ (by decide)
    have ek := kn_b n m m1 (q : Int) _ _ _ _ F G _ (m 101 13) q f2 (tnc q) h0 x1 x2 (by rw [hb 1 (by decide)]) (by rw [hb 1 (by decide)]) e1 e2 e3 x3 z0 z1 (by rw [nE])
    rw [tnc] at ek
    obtain ⟨m2, hm2⟩ : ∃ m2, m2 = bwr (bcpy (bcpy (bwr (bwr m1 103 q F) 104 q G) 97 105 0 (12 * q) 12) 100 106 0 (12 * q) 12) 102 q (m 101 13) := ⟨_, rfl⟩
    rw [← hm2] at ek
    clear x1 x2 x3 y1 y2 y3 y4 y5 z0 z1 e1 e2 e3
    have O : ∀ i, i ≠ 102 → i ≠ 103 → i ≠ 104 → i ≠ 105 → i ≠ 106 → m2 i = m1 i := fun i a b d e f => by rw [hm2, bwr_ne _ _ a, bcpy_ne _ _ _ _ _ _ f, bcpy_ne _ _ _ _ _ _ e, bwr_ne _ _ d, bwr_ne _ _ b]
    have k102 : ∀ j, m2 102 j = if j = q then m 101 13 else m 102 j := fun j => by rw [hm2, bwr_if, bcpy_ne _ _ _ _ _ _ (by decide), bcpy_ne _ _ _ _ _ _ (by decide), bwr_ne _ _ (by decide), bwr_ne _ _ (by decide), fr1 102 (by decide)]
    have k103 : ∀ j, m2 103 j = if j = q then F else m 103 j := fun j => by rw [hm2, bwr_ne _ _ (by decide), bcpy_ne _ _ _ _ _ _ (by decide), bcpy_ne _ _ _ _ _ _ (by decide), bwr_ne _ _ (by decide), bwr_if, fr1 103 (by decide)]
    have k104 : ∀ j, m2 104 j = if j = q then G else m 104 j := fun j => by rw [hm2, bwr_ne _ _ (by decide), bcpy_ne _ _ _ _ _ _ (by decide), bcpy_ne _ _ _ _ _ _ (by decide), bwr_if, bwr_ne _ _ (by decide), fr1 104 (by decide)]
    have k105 : ∀ j, m2 105 j = if 12 * q ≤ j ∧ j < 12 * q + 12 then m1 97 (0 + (j - 12 * q)) else m 105 j := fun j => by rw [hm2, bwr_ne _ _ (by decide), bcpy_ne _ _ _ _ _ _ (by decide), bcpy_c, bwr_ne _ _ (by decide), bwr_ne _ _ (by decide), bwr_ne _ _ (by decide), bwr_ne _ _ (by decide), fr1 105 (by decide)]
    have k106 : ∀ j, m2 106 j = if 12 * q ≤ j ∧ j < 12 * q + 12 then m1 100 (0 + (j - 12 * q)) else m 106 j := fun j => by rw [hm2, bwr_ne _ _ (by decide), bcpy_c, bcpy_ne _ _ _ _ _ _ (by decide), bcpy_ne _ _ _ _ _ _ (by decide), bwr_ne _ _ (by decide), bwr_ne _ _ (by decide), bwr_ne _ _ (by decide), bwr_ne _ _ (by decide), fr1 106 (by decide)]
    have o101 : m2 101 = m 101 := by rw [O _ (by decide) (by decide) (by decide) (by decide) (by decide)]; exact nE
    have o107 : m2 107 = m 107 := by rw [O _ (by decide) (by decide) (by decide) (by decide) (by decide)]; exact fr1 _ (by decide)
    have o108 : m2 108 = m 108 := by rw [O _ (by decide) (by decide) (by decide) (by decide) (by decide)]; exact fr1 _ (by decide)
    have cE : cmB c (bwr m1 103 q F) = cmB c m1 := by
      funext k
      unfold cmB shw
      rw [bwr_ne _ _ (by decide), bwr_ne _ _ (by decide)]
    have kq : Known c m2 q := by
      refine ⟨?_, ?_, fun r hr => ?_, fun t ht => ?_⟩
      · rw [k103, if_pos rfl, hF, eH]
        congr 1
        exact bst_congr (fun h hh => fallen_q ni' h (by rw [eH]; exact hh) (Nat.lt_of_lt_of_le hh hH10))
      · rw [k104, if_pos rfl, hG, cE]
        congr 1
        exact bst_congr (fun k hk => cmB_q hS ni' k hk)
      · rw [k105, if_pos (kn_a1 hr), kn_a2]
        exact NI_wet ni' r hr
      · rw [k106, if_pos (kn_a1 (Nat.lt_of_lt_of_le ht hT12)), kn_a2, NI_thing ni' t ht, rest_q]
    obtain ⟨a1, a2, a3, a4, a5⟩ := hN
    refine ⟨m2, ek, ⟨?_, ?_, ?_, ?_, ?_⟩, kq, fun i hi => ?_, o101⟩
    · rw [o101]; exact a1
    · intro x hx
      rw [o101, k102]
      by_cases z : x = q
      · rw [if_pos z]; omega
      · rw [if_neg z]; exact a2 x hx
    · intro x hx hkn
      rw [o101, k102] at hkn
      by_cases z : x = q
      · rw [z]; exact kq
      · rw [if_neg z] at hkn
        refine Known_at (a3 x hx hkn) (by rw [k103, if_neg z]) (by rw [k104, if_neg z]) (fun r hr => by rw [k105, if_neg (kn_a3 z hr)]) (fun r hr => by rw [k106, if_neg (kn_a3 z hr)]) hT12
    · rw [o101, o107]; exact a4
    · rw [o101, o108]; exact a5
    · obtain ⟨j1, j2, j3, j4, j5, j6⟩ := kn_a4 hi
      rw [O i j1 j2 j3 j4 j5]; exact fr1 i (by omega)
