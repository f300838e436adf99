/-! ===== the water rises ===== -/
def rhit (c : bM) (up : Nat → Bool) (X : Nat → Int) (fe : Nat → Int) (J h : Nat) : Bool := decide ((c 6 h).toNat < J) && (up (c 6 h).toNat && (decide (fe h = -3) && decide (c 7 h ≤ X (c 6 h).toNat)))
def rstp (c : bM) (up : Nat → Bool) (X : Nat → Int) (cl : Nat → Int) (J q : Nat) : Bool := decide (c 18 q = 1) && (decide ((c 19 q).toNat < J) && (up (c 19 q).toNat && (decide (cl q = -3) && decide (c 23 q ≤ X (c 19 q).toNat))))
def RS (c : bM) (up : Nat → Bool) (X Pk : Nat → Int) (k H R : Nat) (m0 : bM) (J : Nat) (m : bM) : Prop := (∀ y, y < 12 → m 96 y = if y < J ∧ up y = true then X y else Pk y) ∧ (∀ y, y < 12 → m 97 y = if y < J ∧ up y = true ∧ Pk y = 0 then (k : Int) else m0 97 y) ∧ (∀ h, m 98 h = if h < H ∧ rhit c up X (m0 98) J h = true then (k : Int) else m0 98 h) ∧ (∀ q, m 99 q = if q < R ∧ rstp c up X (m0 99) J q = true then (k : Int) else m0 99 q) ∧ (∀ y, y < 12 → m 95 y = if y < J ∧ up y = true then rghF (hitB c y (m0 98) (X y)) (m0 95 y) H else m0 95 y) ∧ (m 93 11 = (bst (rhit c up X (m0 98) J) H : Int)) ∧ (∀ k, k ≠ 11 → m 93 k = m0 93 k) ∧ (∀ i, i ≠ 93 → i ≠ 95 → i ≠ 96 → i ≠ 97 → i ≠ 98 → i ≠ 99 → m i = m0 i)
theorem RS_peak {c : bM} {up : Nat → Bool} {X Pk : Nat → Int} {k H R : Nat} {m0 : bM} {J : Nat} {m : bM} (h : RS c up X Pk k H R m0 J m) : ∀ y, y < 12 → m 96 y = if y < J ∧ up y = true then X y else Pk y := h.1
theorem RS_wet {c : bM} {up : Nat → Bool} {X Pk : Nat → Int} {k H R : Nat} {m0 : bM} {J : Nat} {m : bM} (h : RS c up X Pk k H R m0 J m) : ∀ y, y < 12 → m 97 y = if y < J ∧ up y = true ∧ Pk y = 0 then (k : Int) else m0 97 y := h.2.1
theorem RS_fell {c : bM} {up : Nat → Bool} {X Pk : Nat → Int} {k H R : Nat} {m0 : bM} {J : Nat} {m : bM} (h : RS c up X Pk k H R m0 J m) : ∀ h, m 98 h = if h < H ∧ rhit c up X (m0 98) J h = true then (k : Int) else m0 98 h := h.2.2.1
theorem RS_clock {c : bM} {up : Nat → Bool} {X Pk : Nat → Int} {k H R : Nat} {m0 : bM} {J : Nat} {m : bM} (h : RS c up X Pk k H R m0 J m) : ∀ q, m 99 q = if q < R ∧ rstp c up X (m0 99) J q = true then (k : Int) else m0 99 q := h.2.2.2.1
theorem RS_rough {c : bM} {up : Nat → Bool} {X Pk : Nat → Int} {k H R : Nat} {m0 : bM} {J : Nat} {m : bM} (h : RS c up X Pk k H R m0 J m) : ∀ y, y < 12 → m 95 y = if y < J ∧ up y = true then rghF (hitB c y (m0 98) (X y)) (m0 95 y) H else m0 95 y := h.2.2.2.2.1
theorem RS_now {c : bM} {up : Nat → Bool} {X Pk : Nat → Int} {k H R : Nat} {m0 : bM} {J : Nat} {m : bM} (h : RS c up X Pk k H R m0 J m) : m 93 11 = (bst (rhit c up X (m0 98) J) H : Int) := h.2.2.2.2.2.1
theorem RS_obj {c : bM} {up : Nat → Bool} {X Pk : Nat → Int} {k H R : Nat} {m0 : bM} {J : Nat} {m : bM} (h : RS c up X Pk k H R m0 J m) : ∀ k, k ≠ 11 → m 93 k = m0 93 k := h.2.2.2.2.2.2.1
theorem RS_fr {c : bM} {up : Nat → Bool} {X Pk : Nat → Int} {k H R : Nat} {m0 : bM} {J : Nat} {m : bM} (h : RS c up X Pk k H R m0 J m) : ∀ i, i ≠ 93 → i ≠ 95 → i ≠ 96 → i ≠ 97 → i ≠ 98 → i ≠ 99 → m i = m0 i := h.2.2.2.2.2.2.2
theorem rhit_s {c : bM} {up : Nat → Bool} {X fe : Nat → Int} {J h : Nat} (q : ¬ (c 6 h).toNat = J ∨ up J = false) : rhit c up X fe (J + 1) h = rhit c up X fe J h := by
  unfold rhit
  by_cases e : (c 6 h).toNat = J
  · rcases q with q | q
    · exact absurd e q
    · rw [e, q]; simp
  · simp only [lt_s_ne e]
theorem rstp_s {c : bM} {up : Nat → Bool} {X cl : Nat → Int} {J h : Nat} (q : ¬ (c 19 h).toNat = J ∨ up J = false) : rstp c up X cl (J + 1) h = rstp c up X cl J h := by
  unfold rstp
  by_cases e : (c 19 h).toNat = J
  · rcases q with q | q
    · exact absurd e q
    · rw [e, q]; simp
  · simp only [lt_s_ne e]
theorem RS_skip {c : bM} {up : Nat → Bool} {X Pk : Nat → Int} {k H R : Nat} {m0 : bM} {J : Nat} {m : bM} (h : RS c up X Pk k H R m0 J m) (hu : up J = false) : RS c up X Pk k H R m0 (J + 1) m := by
  obtain ⟨h1, h2, h3, h4, h5, h6, h7, h8⟩ := h
  have e : ∀ y, (y < J + 1 ∧ up y = true) ↔ (y < J ∧ up y = true) := fun y => by
    by_cases q : y = J
    · rw [q, hu]; simp
    · rw [lt_s_ne q]
  have e2 : ∀ y, (y < J + 1 ∧ up y = true ∧ Pk y = 0) ↔ (y < J ∧ up y = true ∧ Pk y = 0) := fun y => by
    by_cases q : y = J
    · rw [q, hu]; simp
    · rw [lt_s_ne q]
  refine ⟨fun y hy => ?_, fun y hy => ?_, fun x => ?_, fun x => ?_, fun y hy => ?_, ?_, h7, h8⟩
  · simp only [e]; exact h1 y hy
  · simp only [e2]; exact h2 y hy
  · rw [rhit_s (Or.inr hu)]; exact h3 x
  · rw [rstp_s (Or.inr hu)]; exact h4 x
  · simp only [e]; exact h5 y hy
  · rw [h6]
    congr 1
    exact bst_congr (fun t _ => (rhit_s (Or.inr hu)).symm)
theorem mul_up {p w x : Int} (hw : 1 ≤ w) : ((p + 1) * w ≤ x) ↔ (p < x / w) := by
  have := Int.le_ediv_iff_mul_le (a := p + 1) (b := x) (c := w) (by omega)
  rw [← this]
  omega
theorem mul_in {p w : Int} (hp : 0 ≤ p ∧ p ≤ 9999) (hw : 1 ≤ w ∧ w ≤ 50) : 0 ≤ (p + 1) * w ∧ (p + 1) * w ≤ 500000 := by
  refine ⟨Int.mul_nonneg (by omega) (by omega), ?_⟩
  have := Int.mul_le_mul (show p + 1 ≤ 10000 by omega) hw.2 (by omega) (by decide : (0 : Int) ≤ 10000)
  omega
theorem rise_turn (n : Nat) (k : Nat) (hk : k < 180) {c r : bM} (hV : RelV c r) (hS : RelS c r) {m0 m : bM} (hb : bse c m0) {wt X Pk : Nat → Int} {up : Nat → Bool} (hX : X = fun y => wt y / c 2 y) (hup : up = fun y => decide (Pk y < X y)) (hwt : ∀ x, x < 12 → m0 94 x = wt x ∧ 0 ≤ wt x ∧ wt x ≤ 9999) (hPk : ∀ x, x < 12 → 0 ≤ Pk x ∧ Pk x ≤ 9999) (hsl : ∀ x, x < 12 → 2 ≤ m0 95 x ∧ m0 95 x ≤ 9) (H : Nat) (hH : c 1 10 = (H : Int)) (R : Nat) (hR : c 17 9 = (R : Int)) {J : Nat} (hJ : J < 12) (h : RS c up X Pk k H R m0 J m) : ∃ m2, L_Night_rise_1b.1.2 (sem (n + 1)) [some (aR 93), some (aI (k : Int)), some (aI (J : Int))] m = some (.inl (0, [some (aR 93), some (aI (k : Int)), some (aI (J : Int))], m2)) ∧ RS c up X Pk k H R m0 (J + 1) m2 := by
  have h' := h
  obtain ⟨h1, h2, h3, h4, h5, h6, h7, h8⟩ := h
  have hb' : bse c m := fun i hi => by rw [h8 i (by omega) (by omega) (by omega) (by omega) (by omega) (by omega)]; exact hb i hi
  have wd := RelV_rwidth hV J hJ
  obtain ⟨w1, w2, w3⟩ := hwt J hJ
  have pk := hPk J hJ
  have wW : m 94 J = wt J := by rw [h8 _ (by decide) (by decide) (by decide) (by decide) (by decide) (by decide)]; exact w1
  have wP : m 96 J = Pk J := by rw [h1 J hJ, if_neg (fun q => Nat.lt_irrefl _ q.1)]
  have b2 := hb' 2 (by decide)
  have f2 : 0 ≤ (J : Int) ∧ (J : Int) < ((12 : Nat) : Int) := by omega
  have mi := mul_in pk wd
  have mu := mul_up (p := Pk J) (x := wt J) wd.1
  have z1 : -2147483648 ≤ Pk J + 1 ∧ Pk J + 1 < 2147483648 := by omega
  have z2 : -2147483648 ≤ (Pk J + 1) * c 2 J ∧ (Pk J + 1) * c 2 J < 2147483648 := by omega
  have XJ : X J = wt J / c 2 J := by rw [hX]
  have uJ : up J = decide (Pk J < X J) := by rw [hup]
  have e1 := i32_of z1.1 z1.2
  have e2 := i32_of z2.1 z2.2
  have tJ := tnc J
  cases hU : up J with
  | false =>
    have q : ¬ (Pk J + 1) * c 2 J ≤ wt J := by rw [mu, ← XJ]; exact of_decide_eq_false (uJ.symm.trans hU)
    refine ⟨m, ?_, RS_skip h' hU⟩
    generalize ((J : Nat) : Int) = jI at *
    simp only [L_Night_rise_1b, f2, tJ, wW, wP, b2, e1, e2, q, d_rLoc1, d_rLoc2, d_rFld1, d_rFld2, d_eInt, d_eLdc, d_eLdw, d_eLoc, d_eFld, d_lFld, d_eAI, d_eAZ, d_eAB, d_lAL, d_eAD, d_eLen, d_eAdd, d_eSub, d_eMul, d_eAnd, d_eOr, d_eXor, d_eShl, d_eShr, d_eUsh, d_lAdd, d_lSub, d_lMul, d_lAnd, d_lOr, d_lXor, d_lShl, d_lShr, d_eDiv, d_eRem, d_eCmp, d_eI2B, d_eI2S, d_eL2I, d_lI2L, d_lInt, d_lLdc, d_lLoc, d_eIte, d_lIte, d_eMax, d_eMin, d_eAbs, d_eAbove, d_eBodies, d_cQ, d_cZ, d_cNot, d_cAnd, d_cOr, d_gNil, d_gI, d_gL, d_gR, d_gD, d_xV, d_xS, d_xN, d_xT, d_eCall, d_lCall, d_eCallC, d_sNop, d_sSet, d_sSetL, d_sSetR, d_sSetQ, d_sInc, d_sPutI, d_sPutZ, d_sPutL, d_sPutA, d_sPutAZ, d_sPutAB, d_sPutAL, d_sPutD, d_sOpF, d_sOpA, d_sCall, d_sCopy, d_sSeq, d_sIf, d_sBrk, d_sCnt, d_sRetV, d_sRet, d_sRetL, d_sLp, d_tDef, d_tCase, d_sSw, d_sSwB, bIt_d, itb_0, itb_1, itb_2, itb_r, its_0, sqk_0, sqk_1, sqk_2, sqk_r, swk_0, swk_1, swk_r, bfin_r, bfin_ite, Option.bind_some, Option.map_some, Option.bind_none, Option.map_none, bind_ite, map_ite, cop0, cop1, cop2, cop3, cop4, cop5, opv0, opv1, opv2, opv3, brc_i, brc_z, two_ne_one, false_or, getI, getR, getL, List.getElem?_cons_zero, List.getElem?_cons_succ, List.set_cons_zero, List.set_cons_succ, bnl, if_true, if_false, true_or, or_true, decide_eq_true_eq, Bool.not_eq_true', decide_eq_false_iff_not, Bool.not_true, Bool.not_false, Bool.true_eq_false, Bool.false_eq_true, ite_not, reduceIte, ite01_0, ite01_1, Decidable.not_not, ne_eq, not_true_eq_false, not_false_eq_true, Function.comp_apply, decide_not, Bool.not_not, Bool.not_eq_false', dc_t, dc_f, and_self, true_and, and_true, and_false, false_and, tnc]
  | true =>
    have q : (Pk J + 1) * c 2 J ≤ wt J := by rw [mu, ← XJ]; exact of_decide_eq_true (uJ.symm.trans hU)
    obtain ⟨ma, hma⟩ : ∃ ma, ma = (if Pk J = 0 then bwr m 97 J (k : Int) else m) := ⟨_, rfl⟩
    have oa : ∀ i, i ≠ 97 → ma i = m i := fun i hi => by rw [hma]; split; exact bwr_ne _ _ hi; rfl
    have wa : ∀ y, ma 97 y = if y = J ∧ Pk J = 0 then (k : Int) else m 97 y := fun y => by
      rw [hma]
      by_cases q0 : Pk J = 0
      · rw [if_pos q0, bwr_if]
        by_cases q1 : y = J
        · rw [if_pos q1, if_pos ⟨q1, q0⟩]
        · rw [if_neg q1, if_neg (fun x => q1 x.1)]
      · rw [if_neg q0, if_neg (fun x => q0 x.2)]
    have hba : bse c ma := fun i hi => by rw [oa i (by omega)]; exact hb' i hi
    have dn := sp_depthNow n J hJ hV hba (by rw [oa _ (by decide), wW]; exact ⟨w2, w3⟩)
    rw [oa 94 (by decide), wW, ← XJ] at dn
    obtain ⟨mb, hmb⟩ : ∃ mb, mb = bwr ma 96 J (X J) := ⟨_, rfl⟩
    have ob : ∀ i, i ≠ 96 → mb i = ma i := fun i hi => by rw [hmb]; exact bwr_ne _ _ hi
    have hbb : bse c mb := fun i hi => by rw [ob i (by omega)]; exact hba i hi
    have pb : mb 96 J = X J := by rw [hmb]; exact bwr_eq2 _
    have rb : mb 95 J = m0 95 J := by rw [ob _ (by decide), oa _ (by decide), h5 J hJ, if_neg (fun q => Nat.lt_irrefl _ q.1)]
    have nb : mb 93 11 = (bst (rhit c up X (m0 98) J) H : Int) := by rw [ob _ (by decide), oa _ (by decide)]; exact h6
    obtain ⟨mc, ec, c1, c2, c3, c4, c5⟩ := sp_breakHouses n J hJ k hk hV hbb H hH pb rb (hsl J hJ) _ nb
    have hbc : bse c mc := fun i hi => by rw [c5 i (by omega) (by omega) (by omega)]; exact hbb i hi
    have pc : mc 96 J = X J := by rw [c5 _ (by decide) (by decide) (by decide)]; exact pb
    obtain ⟨md, ed, d1, d2⟩ := sp_stopClocks n J hJ k hk hS hbc R hR pc
    have fb : mb 98 = m 98 := by rw [ob _ (by decide), oa _ (by decide)]
    have cb : mc 99 = m 99 := by rw [c5 _ (by decide) (by decide) (by decide), ob _ (by decide), oa _ (by decide)]
    have hit : ∀ x, hitB c J (m 98) (X J) x = hitB c J (m0 98) (X J) x := fun x => by
      unfold hitB
      by_cases q1 : c 6 x = (J : Int)
      · have : m 98 x = m0 98 x := by
          rw [h3 x, if_neg]
          rintro ⟨_, q2⟩
          unfold rhit at q2
          rw [Bool.and_eq_true, decide_eq_true_eq, q1, tJ] at q2
          exact Nat.lt_irrefl _ q2.1
        rw [this]
      · simp [q1]
    have hit2 : ∀ x, x < 10 → (rhit c up X (m0 98) J x || hitB c J (m0 98) (X J) x) = rhit c up X (m0 98) (J + 1) x := fun x hx => by
      have rx := RelV_rhAt hV x hx
      by_cases q1 : (c 6 x).toNat = J
      · have q2 : c 6 x = (J : Int) := by clear e1 e2 dn ec ed; omega
        unfold rhit hitB
        rw [q2, tJ, hU]
        simp
      · have q2 : ¬ c 6 x = (J : Int) := fun z => q1 (by rw [z]; exact tJ)
        rw [rhit_s (Or.inl q1)]
        unfold hitB
        simp [q2]
    have stp : ∀ x, stpB c J (m 99) (X J) x = stpB c J (m0 99) (X J) x := fun x => by
      unfold stpB
      by_cases q1 : c 19 x = (J : Int)
      · have : m 99 x = m0 99 x := by
          rw [h4 x, if_neg]
          rintro ⟨_, q2⟩
          unfold rstp at q2
          rw [Bool.and_eq_true, Bool.and_eq_true, decide_eq_true_eq, decide_eq_true_eq, q1, tJ] at q2
          exact Nat.lt_irrefl _ q2.2.1
        rw [this]
      · simp [q1]
    have stp2 : ∀ x, x < 16 → (rstp c up X (m0 99) J x || stpB c J (m0 99) (X J) x) = rstp c up X (m0 99) (J + 1) x := fun x hx => by
      have rx := RelS_rplace hS x hx
      by_cases q1 : (c 19 x).toNat = J
      · have q2 : c 19 x = (J : Int) := by clear e1 e2 dn ec ed; omega
        unfold rstp stpB
        rw [q2, tJ, hU]
        simp
      · have q2 : ¬ c 19 x = (J : Int) := fun z => q1 (by rw [z]; exact tJ)
        rw [rstp_s (Or.inl q1)]
        unfold stpB
        simp [q2]
    have hH10 : H ≤ 10 := by have := RelV_rhouses hV; clear e1 e2 dn ec ed; omega
    have hR16 : R ≤ 16 := by have := RelS_rrows hS; clear e1 e2 dn ec ed; omega
    refine ⟨md, ?_, fun y hy => ?_, fun y hy => ?_, fun x => ?_, fun x => ?_, fun y hy => ?_, ?_, fun x hx => ?_, fun i a1 a2 a3 a4 a5 a6 => ?_⟩
    · by_cases q0 : Pk J = 0
      · rw [if_pos q0] at hma
        rw [q0] at e1 e2 q
        generalize ((J : Nat) : Int) = jI at *
        generalize ((k : Nat) : Int) = kI at *
        simp only [L_Night_rise_1b, f2, tJ, wW, wP, b2, e1, e2, q, q0, ← hma, dn, ← hmb, ec, ed, d_rLoc1, d_rLoc2, d_rFld1, d_rFld2, d_eInt, d_eLdc, d_eLdw, d_eLoc, d_eFld, d_lFld, d_eAI, d_eAZ, d_eAB, d_lAL, d_eAD, d_eLen, d_eAdd, d_eSub, d_eMul, d_eAnd, d_eOr, d_eXor, d_eShl, d_eShr, d_eUsh, d_lAdd, d_lSub, d_lMul, d_lAnd, d_lOr, d_lXor, d_lShl, d_lShr, d_eDiv, d_eRem, d_eCmp, d_eI2B, d_eI2S, d_eL2I, d_lI2L, d_lInt, d_lLdc, d_lLoc, d_eIte, d_lIte, d_eMax, d_eMin, d_eAbs, d_eAbove, d_eBodies, d_cQ, d_cZ, d_cNot, d_cAnd, d_cOr, d_gNil, d_gI, d_gL, d_gR, d_gD, d_xV, d_xS, d_xN, d_xT, d_eCall, d_lCall, d_eCallC, d_sNop, d_sSet, d_sSetL, d_sSetR, d_sSetQ, d_sInc, d_sPutI, d_sPutZ, d_sPutL, d_sPutA, d_sPutAZ, d_sPutAB, d_sPutAL, d_sPutD, d_sOpF, d_sOpA, d_sCall, d_sCopy, d_sSeq, d_sIf, d_sBrk, d_sCnt, d_sRetV, d_sRet, d_sRetL, d_sLp, d_tDef, d_tCase, d_sSw, d_sSwB, bIt_d, itb_0, itb_1, itb_2, itb_r, its_0, sqk_0, sqk_1, sqk_2, sqk_r, swk_0, swk_1, swk_r, bfin_r, bfin_ite, Option.bind_some, Option.map_some, Option.bind_none, Option.map_none, bind_ite, map_ite, cop0, cop1, cop2, cop3, cop4, cop5, opv0, opv1, opv2, opv3, brc_i, brc_z, two_ne_one, false_or, getI, getR, getL, List.getElem?_cons_zero, List.getElem?_cons_succ, List.set_cons_zero, List.set_cons_succ, bnl, if_true, if_false, true_or, or_true, decide_eq_true_eq, Bool.not_eq_true', decide_eq_false_iff_not, Bool.not_true, Bool.not_false, Bool.true_eq_false, Bool.false_eq_true, ite_not, reduceIte, ite01_0, ite01_1, Decidable.not_not, ne_eq, not_true_eq_false, not_false_eq_true, Function.comp_apply, decide_not, Bool.not_not, Bool.not_eq_false', dc_t, dc_f, and_self, true_and, and_true, and_false, false_and, tnc]
      · rw [if_neg q0] at hma
        rw [hma] at dn hmb
        generalize ((J : Nat) : Int) = jI at *
        generalize ((k : Nat) : Int) = kI at *
        simp only [L_Night_rise_1b, f2, tJ, wW, wP, b2, e1, e2, q, q0, dn, ← hmb, ec, ed, d_rLoc1, d_rLoc2, d_rFld1, d_rFld2, d_eInt, d_eLdc, d_eLdw, d_eLoc, d_eFld, d_lFld, d_eAI, d_eAZ, d_eAB, d_lAL, d_eAD, d_eLen, d_eAdd, d_eSub, d_eMul, d_eAnd, d_eOr, d_eXor, d_eShl, d_eShr, d_eUsh, d_lAdd, d_lSub, d_lMul, d_lAnd, d_lOr, d_lXor, d_lShl, d_lShr, d_eDiv, d_eRem, d_eCmp, d_eI2B, d_eI2S, d_eL2I, d_lI2L, d_lInt, d_lLdc, d_lLoc, d_eIte, d_lIte, d_eMax, d_eMin, d_eAbs, d_eAbove, d_eBodies, d_cQ, d_cZ, d_cNot, d_cAnd, d_cOr, d_gNil, d_gI, d_gL, d_gR, d_gD, d_xV, d_xS, d_xN, d_xT, d_eCall, d_lCall, d_eCallC, d_sNop, d_sSet, d_sSetL, d_sSetR, d_sSetQ, d_sInc, d_sPutI, d_sPutZ, d_sPutL, d_sPutA, d_sPutAZ, d_sPutAB, d_sPutAL, d_sPutD, d_sOpF, d_sOpA, d_sCall, d_sCopy, d_sSeq, d_sIf, d_sBrk, d_sCnt, d_sRetV, d_sRet, d_sRetL, d_sLp, d_tDef, d_tCase, d_sSw, d_sSwB, bIt_d, itb_0, itb_1, itb_2, itb_r, its_0, sqk_0, sqk_1, sqk_2, sqk_r, swk_0, swk_1, swk_r, bfin_r, bfin_ite, Option.bind_some, Option.map_some, Option.bind_none, Option.map_none, bind_ite, map_ite, cop0, cop1, cop2, cop3, cop4, cop5, opv0, opv1, opv2, opv3, brc_i, brc_z, two_ne_one, false_or, getI, getR, getL, List.getElem?_cons_zero, List.getElem?_cons_succ, List.set_cons_zero, List.set_cons_succ, bnl, if_true, if_false, true_or, or_true, decide_eq_true_eq, Bool.not_eq_true', decide_eq_false_iff_not, Bool.not_true, Bool.not_false, Bool.true_eq_false, Bool.false_eq_true, ite_not, reduceIte, ite01_0, ite01_1, Decidable.not_not, ne_eq, not_true_eq_false, not_false_eq_true, Function.comp_apply, decide_not, Bool.not_not, Bool.not_eq_false', dc_t, dc_f, and_self, true_and, and_true, and_false, false_and, tnc]
    · rw [d2 _ (by decide), c5 _ (by decide) (by decide) (by decide), hmb, bwr_if]
      by_cases q1 : y = J
      · rw [if_pos q1, q1, if_pos ⟨Nat.lt_succ_self J, hU⟩]
      · rw [if_neg q1, oa _ (by decide), h1 y hy]
        simp only [lt_s_ne q1]
    · rw [d2 _ (by decide), c5 _ (by decide) (by decide) (by decide), ob _ (by decide), wa y]
      by_cases q1 : y = J
      · subst q1
        by_cases q0 : Pk y = 0
        · rw [if_pos ⟨rfl, q0⟩, if_pos ⟨Nat.lt_succ_self y, hU, q0⟩]
        · rw [if_neg (fun z => q0 z.2), if_neg (fun z => q0 z.2.2), h2 y hy, if_neg (fun z => q0 z.2.2)]
      · rw [if_neg (fun z => q1 z.1), h2 y hy]
        simp only [lt_s_ne q1]
    · rw [d2 _ (by decide), c1 x, fb, hit x, h3 x]
      by_cases q1 : x < H
      · rw [← hit2 x (Nat.lt_of_lt_of_le q1 hH10)]
        cases hitB c J (m0 98) (X J) x <;> cases rhit c up X (m0 98) J x <;> simp [q1]
      · simp [q1]
    · rw [d1 x, cb, stp x, h4 x]
      by_cases q1 : x < R
      · rw [← stp2 x (Nat.lt_of_lt_of_le q1 hR16)]
        cases stpB c J (m0 99) (X J) x <;> cases rstp c up X (m0 99) J x <;> simp [q1]
      · simp [q1]
    · rw [d2 _ (by decide), c2 y]
      by_cases q1 : y = J
      · subst q1
        rw [if_pos rfl, if_pos ⟨Nat.lt_succ_self y, hU⟩, fb]
        congr 1
        funext x
        exact hit x
      · rw [if_neg q1, ob _ (by decide), oa _ (by decide), h5 y hy]
        simp only [lt_s_ne q1]
    · rw [d2 _ (by decide), c3, fb]
      congr 1
      exact bst_congr (fun t ht => by rw [hit t]; exact hit2 t (Nat.lt_of_lt_of_le ht hH10))
    · rw [d2 _ (by decide), c4 x hx, ob _ (by decide), oa _ (by decide)]; exact h7 x hx
    · rw [d2 i a6, c5 i a1 a2 a5, ob i a3, oa i a4]; exact h8 i a1 a2 a3 a4 a5 a6
theorem sp_rise (n : Nat) (k : Nat) (hk : k < 180) {c r : bM} (hV : RelV c r) (hS : RelS c r) {m0 : bM} (hb : bse c m0) {wt X Pk : Nat → Int} {up : Nat → Bool} (hX : X = fun y => wt y / c 2 y) (hup : up = fun y => decide (Pk y < X y)) (hwt : ∀ x, x < 12 → m0 94 x = wt x ∧ 0 ≤ wt x ∧ wt x ≤ 9999) (hPk : ∀ x, x < 12 → 0 ≤ Pk x ∧ Pk x ≤ 9999) (hpk0 : ∀ x, x < 12 → m0 96 x = Pk x) (hsl : ∀ x, x < 12 → 2 ≤ m0 95 x ∧ m0 95 x ≤ 9) (H : Nat) (hH : c 1 10 = (H : Int)) (R : Nat) (hR : c 17 9 = (R : Int)) (F : Nat) (hF : m0 93 13 = (F : Int)) (hF12 : F ≤ 12) (hn0 : m0 93 11 = 0) : ∃ m2, sem (n + 2) 253 [aR 93, aI (k : Int)] m0 = some (m2, 0) ∧ RS c up X Pk k H R m0 F m2 := by
  have hF1k : F < 1000 := by omega
  have hl := lp_m (c := L_Night_rise_1c.1.2 (sem (n + 1))) (b := L_Night_rise_1b.1.2 (sem (n + 1))) (s := L_Night_rise_1s.1.2 (sem (n + 1))) (m := m0)
    (fun j => [some (aR 93), some (aI (k : Int)), some (aI (j : Int))])
    (fun j m' => RS c up X Pk k H R m0 j m') F hF1k
    ⟨fun y hy => by rw [if_neg (fun q => Nat.not_lt_zero _ q.1)]; exact hpk0 y hy, fun y hy => by rw [if_neg (fun q => Nat.not_lt_zero _ q.1)], fun x => by rw [if_neg]; rintro ⟨_, q⟩; unfold rhit at q; simp at q, fun x => by rw [if_neg]; rintro ⟨_, q⟩; unfold rstp at q; simp at q, fun y hy => by rw [if_neg (fun q => Nat.not_lt_zero _ q.1)], by rw [hn0, bst_0 (fun k _ => by unfold rhit; simp)]; rfl, fun _ _ => rfl, fun _ _ _ _ _ _ _ => rfl⟩
    (fun j m' hj hI => by
      obtain ⟨m2, e1, e2⟩ := rise_turn n k hk hV hS hb hX hup hwt hPk hsl H hH R hR (Nat.lt_of_lt_of_le hj hF12) hI
      have wF : m' 93 13 = (F : Int) := by rw [RS_obj hI _ (by decide)]; exact hF
      have f1 : (j : Int) < (F : Int) := by omega
      have y0 : j < 2147483647 := by omega
      have f3 := i32_s y0
      refine ⟨m2, bIt_go (m1 := m') (ls2 := [some (aR 93), some (aI (k : Int)), some (aI (j : Int))]) (m2 := m2) ?_ e1 ?_, e2⟩
      · simp only [L_Night_rise_1c, wF, f1, d_rLoc1, d_rLoc2, d_rFld1, d_rFld2, d_eInt, d_eLdc, d_eLdw, d_eLoc, d_eFld, d_lFld, d_eAI, d_eAZ, d_eAB, d_lAL, d_eAD, d_eLen, d_eAdd, d_eSub, d_eMul, d_eAnd, d_eOr, d_eXor, d_eShl, d_eShr, d_eUsh, d_lAdd, d_lSub, d_lMul, d_lAnd, d_lOr, d_lXor, d_lShl, d_lShr, d_eDiv, d_eRem, d_eCmp, d_eI2B, d_eI2S, d_eL2I, d_lI2L, d_lInt, d_lLdc, d_lLoc, d_eIte, d_lIte, d_eMax, d_eMin, d_eAbs, d_eAbove, d_eBodies, d_cQ, d_cZ, d_cNot, d_cAnd, d_cOr, d_gNil, d_gI, d_gL, d_gR, d_gD, d_xV, d_xS, d_xN, d_xT, d_eCall, d_lCall, d_eCallC, d_sNop, d_sSet, d_sSetL, d_sSetR, d_sSetQ, d_sInc, d_sPutI, d_sPutZ, d_sPutL, d_sPutA, d_sPutAZ, d_sPutAB, d_sPutAL, d_sPutD, d_sOpF, d_sOpA, d_sCall, d_sCopy, d_sSeq, d_sIf, d_sBrk, d_sCnt, d_sRetV, d_sRet, d_sRetL, d_sLp, d_tDef, d_tCase, d_sSw, d_sSwB, bIt_d, itb_0, itb_1, itb_2, itb_r, its_0, sqk_0, sqk_1, sqk_2, sqk_r, swk_0, swk_1, swk_r, bfin_r, bfin_ite, Option.bind_some, Option.map_some, Option.bind_none, Option.map_none, bind_ite, map_ite, cop0, cop1, cop2, cop3, cop4, cop5, opv0, opv1, opv2, opv3, brc_i, brc_z, two_ne_one, false_or, getI, getR, getL, List.getElem?_cons_zero, List.getElem?_cons_succ, List.set_cons_zero, List.set_cons_succ, bnl, if_true, if_false, true_or, or_true, decide_eq_true_eq, Bool.not_eq_true', decide_eq_false_iff_not, Bool.not_true, Bool.not_false, Bool.true_eq_false, Bool.false_eq_true, ite_not, reduceIte, ite01_0, ite01_1, Decidable.not_not, ne_eq, not_true_eq_false, not_false_eq_true, Function.comp_apply, decide_not, Bool.not_not, Bool.not_eq_false', dc_t, dc_f, and_self, true_and, and_true, and_false, false_and, tnc]
      · simp only [L_Night_rise_1s, f3, d_rLoc1, d_rLoc2, d_rFld1, d_rFld2, d_eInt, d_eLdc, d_eLdw, d_eLoc, d_eFld, d_lFld, d_eAI, d_eAZ, d_eAB, d_lAL, d_eAD, d_eLen, d_eAdd, d_eSub, d_eMul, d_eAnd, d_eOr, d_eXor, d_eShl, d_eShr, d_eUsh, d_lAdd, d_lSub, d_lMul, d_lAnd, d_lOr, d_lXor, d_lShl, d_lShr, d_eDiv, d_eRem, d_eCmp, d_eI2B, d_eI2S, d_eL2I, d_lI2L, d_lInt, d_lLdc, d_lLoc, d_eIte, d_lIte, d_eMax, d_eMin, d_eAbs, d_eAbove, d_eBodies, d_cQ, d_cZ, d_cNot, d_cAnd, d_cOr, d_gNil, d_gI, d_gL, d_gR, d_gD, d_xV, d_xS, d_xN, d_xT, d_eCall, d_lCall, d_eCallC, d_sNop, d_sSet, d_sSetL, d_sSetR, d_sSetQ, d_sInc, d_sPutI, d_sPutZ, d_sPutL, d_sPutA, d_sPutAZ, d_sPutAB, d_sPutAL, d_sPutD, d_sOpF, d_sOpA, d_sCall, d_sCopy, d_sSeq, d_sIf, d_sBrk, d_sCnt, d_sRetV, d_sRet, d_sRetL, d_sLp, d_tDef, d_tCase, d_sSw, d_sSwB, bIt_d, itb_0, itb_1, itb_2, itb_r, its_0, sqk_0, sqk_1, sqk_2, sqk_r, swk_0, swk_1, swk_r, bfin_r, bfin_ite, Option.bind_some, Option.map_some, Option.bind_none, Option.map_none, bind_ite, map_ite, cop0, cop1, cop2, cop3, cop4, cop5, opv0, opv1, opv2, opv3, brc_i, brc_z, two_ne_one, false_or, getI, getR, getL, List.getElem?_cons_zero, List.getElem?_cons_succ, List.set_cons_zero, List.set_cons_succ, bnl, if_true, if_false, true_or, or_true, decide_eq_true_eq, Bool.not_eq_true', decide_eq_false_iff_not, Bool.not_true, Bool.not_false, Bool.true_eq_false, Bool.false_eq_true, ite_not, reduceIte, ite01_0, ite01_1, Decidable.not_not, ne_eq, not_true_eq_false, not_false_eq_true, Function.comp_apply, decide_not, Bool.not_not, Bool.not_eq_false', dc_t, dc_f, and_self, true_and, and_true, and_false, false_and, tnc])
    (fun m' hI => by
      have wF : m' 93 13 = (F : Int) := by rw [RS_obj hI _ (by decide)]; exact hF
      have q : ¬ (F : Int) < (F : Int) := Int.lt_irrefl _
      refine bIt_ex ?_
      simp only [L_Night_rise_1c, wF, q, d_rLoc1, d_rLoc2, d_rFld1, d_rFld2, d_eInt, d_eLdc, d_eLdw, d_eLoc, d_eFld, d_lFld, d_eAI, d_eAZ, d_eAB, d_lAL, d_eAD, d_eLen, d_eAdd, d_eSub, d_eMul, d_eAnd, d_eOr, d_eXor, d_eShl, d_eShr, d_eUsh, d_lAdd, d_lSub, d_lMul, d_lAnd, d_lOr, d_lXor, d_lShl, d_lShr, d_eDiv, d_eRem, d_eCmp, d_eI2B, d_eI2S, d_eL2I, d_lI2L, d_lInt, d_lLdc, d_lLoc, d_eIte, d_lIte, d_eMax, d_eMin, d_eAbs, d_eAbove, d_eBodies, d_cQ, d_cZ, d_cNot, d_cAnd, d_cOr, d_gNil, d_gI, d_gL, d_gR, d_gD, d_xV, d_xS, d_xN, d_xT, d_eCall, d_lCall, d_eCallC, d_sNop, d_sSet, d_sSetL, d_sSetR, d_sSetQ, d_sInc, d_sPutI, d_sPutZ, d_sPutL, d_sPutA, d_sPutAZ, d_sPutAB, d_sPutAL, d_sPutD, d_sOpF, d_sOpA, d_sCall, d_sCopy, d_sSeq, d_sIf, d_sBrk, d_sCnt, d_sRetV, d_sRet, d_sRetL, d_sLp, d_tDef, d_tCase, d_sSw, d_sSwB, bIt_d, itb_0, itb_1, itb_2, itb_r, its_0, sqk_0, sqk_1, sqk_2, sqk_r, swk_0, swk_1, swk_r, bfin_r, bfin_ite, Option.bind_some, Option.map_some, Option.bind_none, Option.map_none, bind_ite, map_ite, cop0, cop1, cop2, cop3, cop4, cop5, opv0, opv1, opv2, opv3, brc_i, brc_z, two_ne_one, false_or, getI, getR, getL, List.getElem?_cons_zero, List.getElem?_cons_succ, List.set_cons_zero, List.set_cons_succ, bnl, if_true, if_false, true_or, or_true, decide_eq_true_eq, Bool.not_eq_true', decide_eq_false_iff_not, Bool.not_true, Bool.not_false, Bool.true_eq_false, Bool.false_eq_true, ite_not, reduceIte, ite01_0, ite01_1, Decidable.not_not, ne_eq, not_true_eq_false, not_false_eq_true, Function.comp_apply, decide_not, Bool.not_not, Bool.not_eq_false', dc_t, dc_f, and_self, true_and, and_true, and_false, false_and, tnc])
  obtain ⟨m2, e1, j1⟩ := hl
  refine ⟨m2, ?_, j1⟩
  have e2 : L_Night_rise_1.1.2 (sem (n + 1)) [some (aR 93), some (aI (k : Int)), some (aI 0)] m0 = some (.inl (0, [some (aR 93), some (aI (k : Int)), some (aI (F : Int))], m2)) := by
    unfold L_Night_rise_1
    rw [d_sLp]
    exact e1
  rw [st_Night_rise]
  unfold B_Night_rise
  revert e2
  generalize L_Night_rise_1 = LL
  intro e2
  simp only [kr_Night_rise, e2, d_rLoc1, d_rLoc2, d_rFld1, d_rFld2, d_eInt, d_eLdc, d_eLdw, d_eLoc, d_eFld, d_lFld, d_eAI, d_eAZ, d_eAB, d_lAL, d_eAD, d_eLen, d_eAdd, d_eSub, d_eMul, d_eAnd, d_eOr, d_eXor, d_eShl, d_eShr, d_eUsh, d_lAdd, d_lSub, d_lMul, d_lAnd, d_lOr, d_lXor, d_lShl, d_lShr, d_eDiv, d_eRem, d_eCmp, d_eI2B, d_eI2S, d_eL2I, d_lI2L, d_lInt, d_lLdc, d_lLoc, d_eIte, d_lIte, d_eMax, d_eMin, d_eAbs, d_eAbove, d_eBodies, d_cQ, d_cZ, d_cNot, d_cAnd, d_cOr, d_gNil, d_gI, d_gL, d_gR, d_gD, d_xV, d_xS, d_xN, d_xT, d_eCall, d_lCall, d_eCallC, d_sNop, d_sSet, d_sSetL, d_sSetR, d_sSetQ, d_sInc, d_sPutI, d_sPutZ, d_sPutL, d_sPutA, d_sPutAZ, d_sPutAB, d_sPutAL, d_sPutD, d_sOpF, d_sOpA, d_sCall, d_sCopy, d_sSeq, d_sIf, d_sBrk, d_sCnt, d_sRetV, d_sRet, d_sRetL, d_sLp, d_tDef, d_tCase, d_sSw, d_sSwB, bIt_d, itb_0, itb_1, itb_2, itb_r, its_0, sqk_0, sqk_1, sqk_2, sqk_r, swk_0, swk_1, swk_r, bfin_r, bfin_ite, Option.bind_some, Option.map_some, Option.bind_none, Option.map_none, bind_ite, map_ite, cop0, cop1, cop2, cop3, cop4, cop5, opv0, opv1, opv2, opv3, brc_i, brc_z, two_ne_one, false_or, getI, getR, getL, List.getElem?_cons_zero, List.getElem?_cons_succ, List.set_cons_zero, List.set_cons_succ, bnl, if_true, if_false, true_or, or_true, decide_eq_true_eq, Bool.not_eq_true', decide_eq_false_iff_not, Bool.not_true, Bool.not_false, Bool.true_eq_false, Bool.false_eq_true, ite_not, reduceIte, ite01_0, ite01_1, Decidable.not_not, ne_eq, not_true_eq_false, not_false_eq_true, Function.comp_apply, decide_not, Bool.not_not, Bool.not_eq_false', dc_t, dc_f, and_self, true_and, and_true, and_false, false_and, tnc]
