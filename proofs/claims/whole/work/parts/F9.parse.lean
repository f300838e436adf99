/-! ===== read: the class's parseLine and parse ===== -/
section
variable {T : Nat → Int} {L S : Nat}
def pLRes (T : Nat → Int) (L S c i : Nat) (m : bM) (v : Int) (r : Sum Nat (Nat × List Int × Int)) (m2 : bM) (u : Int) : Prop := frX S c i m m2 ∧ match r with
  | .inl f => u = 0 ∧ m2 109 4 = (f : Int)
  | .inr (q, cs, nb) => u = 1 ∧ RdI T L S m2 q (c + cs.length) ∧ clL m2 S c i (v, nb, cs)
/-- the second part of a line -/
theorem sp_plIf (n : Nat) (hS : S ≤ 8) (hL : L ≤ 240) (i c p2 : Nat) (hi : i < 9) (v w nb b : Int) {m : bM} (hI : RdI T L S m p2 c) (hp : p2 ≤ L) (hc : 3 * c ≤ p2) (hv : 1 ≤ v ∧ v ≤ 5) (hb : (b = 1 ∧ (v = 1 ∨ v = 2)) ∨ (b = 0 ∧ ¬ v = 1 ∧ ¬ v = 2)) (g1 : m 66 (9 * S + i) = v) (g2 : v ≠ 3 → m 67 (9 * S + i) = nb) (g3 : m 68 (9 * S + i) = (c : Int)) (g4 : m 69 (9 * S + i) = (c : Int)) : ∃ m2, (∃ f, pLif T L v p2 nb = .inl f ∧ Q_plIf.1.2 (sem (n + 21)) [some (aR 109), some (aI (i : Int)), some (aI v), some (aI w), some (aI ((9 * S + i : Nat) : Int)), some (aI b)] m = some (.inr (m2, 0)) ∧ frX S c i m m2 ∧ m2 109 4 = (f : Int)) ∨ (∃ q cs, pLif T L v p2 nb = .inr (q, cs, nb) ∧ Q_plIf.1.2 (sem (n + 21)) [some (aR 109), some (aI (i : Int)), some (aI v), some (aI w), some (aI ((9 * S + i : Nat) : Int)), some (aI b)] m = some (.inl (0, [some (aR 109), some (aI (i : Int)), some (aI v), some (aI w), some (aI ((9 * S + i : Nat) : Int)), some (aI b)], m2)) ∧ frX S c i m m2 ∧ RdI T L S m2 q (c + cs.length) ∧ clL m2 S c i (v, nb, cs)) := by
  have hT := RdT_T255 (RdI_t hI)
  have t := kTk_len hT hL hp
  have fa : 0 ≤ ((9 * S + i : Nat) : Int) ∧ ((9 * S + i : Nat) : Int) < ((81 : Nat) : Int) := by omega
  have tk := RdS_tok (RdI_s hI)
  by_cases z : v = 3 ∨ ((v = 1 ∨ v = 2) ∧ kTk T L p2 = 6)
  · have e0 : pLif T L v p2 nb = if kTk T L p2 = 6 then (match pLev T L 4 (kE T L p2) with | .inl f => .inl f | .inr (q, cs) => .inr (q, cs, nb)) else .inl (kF T L p2) := by
      unfold pLif
      rw [if_pos z]
      rfl
    by_cases y : kTk T L p2 = 6
    · rw [if_pos y] at e0
      have k1 := t.2.2.2.1 (by omega)
      obtain ⟨m1, e1, f1, i1⟩ := sp_adv (n + 13) hI hp
      obtain ⟨m2, u, e2, f2, r2⟩ := cdL_4 hS hL hT n m1 (kE T L p2) c i1 t.2.1 (by omega)
      have hvb : v = 3 ∨ b = 1 := by
        rcases z with z | ⟨z, _⟩
        · exact Or.inl z
        · rcases hb with hb | hb
          · exact Or.inr hb.1
          · rcases z with z | z
            · exact absurd z hb.2.1
            · exact absurd z hb.2.2
      have F2 := frP_trans f1 f2 (Nat.le_refl _)
      revert r2 e0
      cases pLev T L 4 (kE T L p2) with
      | inl f =>
        rintro e0 ⟨r1, r2⟩
        subst r1
        have e3 := pi_c (n + 21) m m1 m2 m2 (i : Int) v w ((9 * S + i : Nat) : Int) b _ 0 0 0 hvb tk y e1 e2 (Or.inl ⟨rfl, rfl⟩)
        rw [if_pos rfl] at e3
        exact ⟨m2, Or.inl ⟨f, e0, e3, frX_P F2, r2⟩⟩
      | inr x =>
        obtain ⟨q, cs⟩ := x
        rintro e0 ⟨r1, r2, r3, r4⟩
        subst r1
        have i2 := RdI_of i1 f2 r2 r3
        obtain ⟨m3, w3⟩ : ∃ m3, bwr m2 69 (9 * S + i) ((c + cs.length : Nat) : Int) = m3 := ⟨_, rfl⟩
        have e3 := pi_c (n + 21) m m1 m2 m3 (i : Int) v w _ b _ 1 _ (9 * S + i) hvb tk y e1 e2 (Or.inr ⟨rfl, fa, tnc _, r3, w3⟩)
        rw [if_neg (by decide)] at e3
        have fw : frX S c i m2 m3 := by rw [← w3]; exact frX_w (by decide) (Nat.le_refl _)
        have o : ∀ j, j ≠ 69 → m3 j = m2 j := fun j hj => by rw [← w3, bwr_ne _ _ hj]
        have fo : ∀ j, 66 ≤ j → j ≤ 69 → m2 j = m j := fun j a b => F2.1 j (by omega) (by omega)
        refine ⟨m3, Or.inr ⟨q, cs, e0, e3, frX_trans (frX_P F2) fw (Nat.le_refl _) (Nat.le_refl _), RdI_w i2 (o 109 (by decide)) (o 110 (by decide)), ?_, fun a => ?_, ?_, ?_, ?_⟩⟩
        · rw [o 66 (by decide), fo 66 (by decide) (by decide)]; exact g1
        · rw [o 67 (by decide), fo 67 (by decide) (by decide)]; exact g2 a
        · rw [o 68 (by decide), fo 68 (by decide) (by decide)]; exact g3
        · rw [← w3, bwr_eq2]
        · rw [o 70 (by decide)]; exact r4
    · rw [if_neg y] at e0
      have hv3 : v = 3 := by
        rcases z with z | ⟨_, z⟩
        · exact z
        · exact absurd z y
      subst hv3
      exact ⟨m, Or.inl ⟨_, e0, pi_b (n + 21) m (i : Int) w _ b _ tk y, frX_refl _ _ _ _, RdS_frm (RdI_s hI)⟩⟩
  · have e0 : pLif T L v p2 nb = .inr (p2, [], nb) := by
      unfold pLif
      rw [if_neg z]
    have h3 : ¬ v = 3 := fun q => z (Or.inl q)
    have hb2 : b = 0 ∨ (b = 1 ∧ ¬ kTk T L p2 = 6) := by
      rcases hb with ⟨h1, h2⟩ | ⟨h1, h2⟩
      · exact Or.inr ⟨h1, fun q => z (Or.inr ⟨h2, q⟩)⟩
      · exact Or.inl h1
    exact ⟨m, Or.inr ⟨p2, [], e0, pi_n (n + 21) m (i : Int) v w _ b _ h3 tk hb2, frX_refl _ _ _ _, hI, g1, g2, g3, g4, trivial⟩⟩
theorem mo_in {v w : Int} (z : 1 ≤ v ∧ v ≤ 5) (hw : (if v = 1 then (100 : Int) else if v = 2 then 9 else if v = 4 then 999 else if v = 5 then 999 else -1) = w) : (¬ w < 0 ∨ v = 3) ∧ (¬ v = 3 → w = pMost v) ∧ (¬ v = 3 → 0 ≤ w ∧ w ≤ 999) := by
  have h : v = 1 ∨ v = 2 ∨ v = 3 ∨ v = 4 ∨ v = 5 := by omega
  rcases h with h | h | h | h | h
  · subst h; subst hw; exact ⟨Or.inl (by decide), fun _ => rfl, fun _ => by decide⟩
  · subst h; subst hw; exact ⟨Or.inl (by decide), fun _ => rfl, fun _ => by decide⟩
  · exact ⟨Or.inr h, fun q => absurd h q, fun q => absurd h q⟩
  · subst h; subst hw; exact ⟨Or.inl (by decide), fun _ => rfl, fun _ => by decide⟩
  · subst h; subst hw; exact ⟨Or.inl (by decide), fun _ => rfl, fun _ => by decide⟩
theorem sp_parseLine (n : Nat) (hS : S ≤ 8) (hL : L ≤ 240) (i c p : Nat) (hi : i < 9) {m : bM} (hI : RdI T L S m p c) (hp : p ≤ L) (hc : 3 * c ≤ p) : ∃ m2 u, sem (n + 22) 263 [aR 109, aI (i : Int)] m = some (m2, u) ∧ pLRes T L S c i m (kTk T L p) (pLine T L p) m2 u := by
  have hT := RdT_T255 (RdI_t hI)
  have t := kTk_len hT hL hp
  have tk := RdS_tok (RdI_s hI)
  have mo := sp_mostOf (n + 20) (kTk T L p) m
  unfold pLine
  obtain ⟨v, hv⟩ : ∃ v, kTk T L p = v := ⟨_, rfl⟩
  rw [hv] at mo tk t ⊢
  by_cases z : 1 ≤ v ∧ v ≤ 5
  · rw [if_pos z]
    have fa : 0 ≤ ((9 * S + i : Nat) : Int) ∧ ((9 * S + i : Nat) : Int) < ((81 : Nat) : Int) := by omega
    have k1 := t.2.2.2.1 (by omega)
    have kc1 : 3 * c ≤ kE T L p := by omega
    have kc2 : kE T L p ≤ kE T L (kE T L p) := (kTk_len hT hL (p := kE T L p) t.2.1).1
    have kc3 : 3 * c ≤ kE T L (kE T L p) := Nat.le_trans kc1 kc2
    have a1 : i32 (i32 ((S : Int) * 9) + (i : Int)) = ((9 * S + i : Nat) : Int) := by
      rw [i32_of (z := (S : Int) * 9) (by omega) (by omega), i32_of (by omega) (by omega)]
      omega
    obtain ⟨w, hw⟩ : ∃ w, (if v = 1 then (100 : Int) else if v = 2 then 9 else if v = 4 then 999 else if v = 5 then 999 else -1) = w := ⟨_, rfl⟩
    rw [hw] at mo
    obtain ⟨w1, w2, w3⟩ := mo_in z hw
    obtain ⟨m1, x1⟩ : ∃ m1, bwr m 66 (9 * S + i) v = m1 := ⟨_, rfl⟩
    obtain ⟨m2, x2⟩ : ∃ m2, bwr m1 68 (9 * S + i) (c : Int) = m2 := ⟨_, rfl⟩
    obtain ⟨m3, x3⟩ : ∃ m3, bwr m2 69 (9 * S + i) (c : Int) = m3 := ⟨_, rfl⟩
    have f1 : frX S c i m m1 := by rw [← x1]; exact frX_w (by decide) (Nat.le_refl _)
    have f2 : frX S c i m1 m2 := by rw [← x2]; exact frX_w (by decide) (Nat.le_refl _)
    have f3 : frX S c i m2 m3 := by rw [← x3]; exact frX_w (by decide) (Nat.le_refl _)
    have F3 := frX_trans (frX_trans f1 f2 (Nat.le_refl _) (Nat.le_refl _)) f3 (Nat.le_refl _) (Nat.le_refl _)
    have o1 : ∀ j, j ≠ 66 → m1 j = m j := fun j h => by rw [← x1, bwr_ne _ _ h]
    have o2 : ∀ j, j ≠ 68 → m2 j = m1 j := fun j h => by rw [← x2, bwr_ne _ _ h]
    have o3 : ∀ j, j ≠ 69 → m3 j = m2 j := fun j h => by rw [← x3, bwr_ne _ _ h]
    have i3 : RdI T L S m3 p c := RdI_w hI (by rw [o3 109 (by decide), o2 109 (by decide), o1 109 (by decide)]) (by rw [o3 110 (by decide), o2 110 (by decide), o1 110 (by decide)])
    obtain ⟨m4, e4, f4, i4⟩ := sp_adv (n + 13) i3 hp
    have F4 := frX_trans F3 (frX_P (i := i) f4) (Nat.le_refl _) (Nat.le_refl _)
    have fo : ∀ j, 66 ≤ j → j ≤ 69 → m4 j = m3 j := fun j a b => f4.1 j (by omega) (by omega)
    have G1 : m4 66 (9 * S + i) = v := by rw [fo 66 (by decide) (by decide), o3 66 (by decide), o2 66 (by decide), ← x1, bwr_eq2]
    have G3 : m4 68 (9 * S + i) = (c : Int) := by rw [fo 68 (by decide) (by decide), o3 68 (by decide), ← x2, bwr_eq2]
    have G4 : m4 69 (9 * S + i) = (c : Int) := by rw [fo 69 (by decide) (by decide), ← x3, bwr_eq2]
    have hc1 : m1 109 8 = (c : Int) := by rw [o1 109 (by decide)]; exact RdI_c hI
    have hc2 : m2 109 8 = (c : Int) := by rw [o2 109 (by decide)]; exact hc1
    have bx : ∃ b : Int, (b = 1 ∧ (v = 1 ∨ v = 2)) ∨ (b = 0 ∧ ¬ v = 1 ∧ ¬ v = 2) := by
      by_cases y : v = 1 ∨ v = 2
      · exact ⟨1, Or.inl ⟨rfl, y⟩⟩
      · exact ⟨0, Or.inr ⟨rfl, fun q => y (Or.inl q), fun q => y (Or.inr q)⟩⟩
    obtain ⟨b, hb⟩ := bx
    by_cases y : v = 3
    · rw [if_pos y]
      have hc4 := kc1
      obtain ⟨m6, h⟩ := sp_plIf n hS hL i c (kE T L p) hi v w 0 b i4 t.2.1 hc4 z hb G1 (fun q => absurd y q) G3 G4
      have eN : Q_plNum.1.2 (sem (n + 21)) [some (aR 109), some (aI (i : Int)), some (aI v), some (aI w), some (aI ((9 * S + i : Nat) : Int)), none] m4 = some (.inl (0, [some (aR 109), some (aI (i : Int)), some (aI v), some (aI w), some (aI ((9 * S + i : Nat) : Int)), none], m4)) := by
        rw [y]; exact pn_3 (n + 21) m4 (i : Int) w _ none
      rcases h with ⟨f, h1, h2, h3, h4⟩ | ⟨q, cs, h1, h2, h3, h4, h5⟩
      · rw [h1]
        exact ⟨m6, 0, pln_e (n + 21) m m1 m2 m3 m4 m4 (i : Int) v w (S : Int) _ (c : Int) (9 * S + i) _ m6 0 tk mo w1 (RdI_v hI) a1 fa (tnc _) x1 hc1 x2 hc2 x3 e4 eN (Or.inr ⟨rfl, b, hb, Or.inl ⟨h2, rfl⟩⟩), frX_trans F4 h3 (Nat.le_refl _) (Nat.le_refl _), rfl, h4⟩
      · rw [h1]
        exact ⟨m6, 1, pln_e (n + 21) m m1 m2 m3 m4 m4 (i : Int) v w (S : Int) _ (c : Int) (9 * S + i) _ m6 1 tk mo w1 (RdI_v hI) a1 fa (tnc _) x1 hc1 x2 hc2 x3 e4 eN (Or.inr ⟨rfl, b, hb, Or.inr ⟨h2, rfl⟩⟩), frX_trans F4 h3 (Nat.le_refl _) (Nat.le_refl _), rfl, h4, h5⟩
    · rw [if_neg y]
      have t2 := kTk_len hT hL (p := kE T L p) t.2.1
      have en := sp_isNumber (n + 19) (RdI_t i4) (RdI_s i4) w (w3 y)
      rw [w2 y] at en
      by_cases x : kK T L (kE T L p) = 2 ∧ kW T L (kE T L p) ≤ pMost v
      · rw [if_pos x] at en ⊢
        rw [← w2 y] at en
        have wn := kW_num hL x.1
        have pm := w3 y
        rw [w2 y] at pm
        have w3' := w3n wn.2.2 (Int.le_trans x.2 pm.2)
        obtain ⟨m5, x5⟩ : ∃ m5, bwr m4 67 (9 * S + i) (kW T L (kE T L p)) = m5 := ⟨_, rfl⟩
        have o5 : ∀ j, j ≠ 67 → m5 j = m4 j := fun j h => by rw [← x5, bwr_ne _ _ h]
        have f5 : frX S c i m4 m5 := by rw [← x5]; exact frX_w (by decide) (Nat.le_refl _)
        have i5 : RdI T L S m5 (kE T L p) c := RdI_w i4 (o5 109 (by decide)) (o5 110 (by decide))
        have k2 := kc3
        obtain ⟨m5', e5, f5', i5'⟩ := sp_adv (n + 13) i5 t.2.1
        have fo' : ∀ j, 66 ≤ j → j ≤ 69 → m5' j = m5 j := fun j a b => f5'.1 j (by omega) (by omega)
        have hu : m4 109 6 = kW T L (kE T L p) := by
          rw [RdS_val (RdI_s i4) x.1]
          unfold kV
          rw [if_pos w3']
        have eN := pn_1 (n + 21) m4 m5 m5' (i : Int) v w _ _ (9 * S + i) none y en fa (tnc _) hu x5 e5
        obtain ⟨m6, h⟩ := sp_plIf n hS hL i c (kE T L (kE T L p)) hi v w (kW T L (kE T L p)) b i5' t2.2.1 k2 z hb (by rw [fo' 66 (by decide) (by decide), o5 66 (by decide)]; exact G1) (fun _ => by rw [fo' 67 (by decide) (by decide), ← x5, bwr_eq2]) (by rw [fo' 68 (by decide) (by decide), o5 68 (by decide)]; exact G3) (by rw [fo' 69 (by decide) (by decide), o5 69 (by decide)]; exact G4)
        have F5 := frX_trans (frX_trans F4 f5 (Nat.le_refl _) (Nat.le_refl _)) (frX_P (i := i) f5') (Nat.le_refl _) (Nat.le_refl _)
        rcases h with ⟨f, h1, h2, h3, h4⟩ | ⟨q, cs, h1, h2, h3, h4, h5⟩
        · rw [h1]
          exact ⟨m6, 0, pln_e (n + 21) m m1 m2 m3 m4 m5' (i : Int) v w (S : Int) _ (c : Int) (9 * S + i) _ m6 0 tk mo w1 (RdI_v hI) a1 fa (tnc _) x1 hc1 x2 hc2 x3 e4 eN (Or.inr ⟨rfl, b, hb, Or.inl ⟨h2, rfl⟩⟩), frX_trans F5 h3 (Nat.le_refl _) (Nat.le_refl _), rfl, h4⟩
        · rw [h1]
          exact ⟨m6, 1, pln_e (n + 21) m m1 m2 m3 m4 m5' (i : Int) v w (S : Int) _ (c : Int) (9 * S + i) _ m6 1 tk mo w1 (RdI_v hI) a1 fa (tnc _) x1 hc1 x2 hc2 x3 e4 eN (Or.inr ⟨rfl, b, hb, Or.inr ⟨h2, rfl⟩⟩), frX_trans F5 h3 (Nat.le_refl _) (Nat.le_refl _), rfl, h4, h5⟩
      · rw [if_neg x] at en ⊢
        rw [← w2 y] at en
        have eN := pn_0 (n + 21) m4 (i : Int) v w ((9 * S + i : Nat) : Int) none y en
        exact ⟨m4, 0, pln_e (n + 21) m m1 m2 m3 m4 m4 (i : Int) v w (S : Int) _ (c : Int) (9 * S + i) _ m4 0 tk mo w1 (RdI_v hI) a1 fa (tnc _) x1 hc1 x2 hc2 x3 e4 eN (Or.inl ⟨rfl, rfl⟩), F4, rfl, RdS_frm (RdI_s i4)⟩
  · rw [if_neg z]
    have e1 : (if v = 1 then (100 : Int) else if v = 2 then 9 else if v = 4 then 999 else if v = 5 then 999 else -1) = -1 := by
      rw [if_neg (by omega), if_neg (by omega), if_neg (by omega), if_neg (by omega)]
    rw [e1] at mo
    exact ⟨m, 0, pl_f (n + 21) m (i : Int) v (-1) tk mo (by decide) (by omega), frX_refl _ _ _ _, rfl, RdS_frm (RdI_s hI)⟩
end
/-! parse -/
theorem ps_c (n : Nat) (m : bM) (i t : Int) (ht : m 109 3 = t) (h1 : ¬ t = 0) (h2 : i < 9) : L_Reader_parse_1c.1.2 (sem n) [some (aR 109), some (aI i)] m = some (true, m) := by
  simp only [L_Reader_parse_1c, ht, h1, h2, d_rLoc1, d_rLoc2, d_rFld1, d_rFld2, d_eInt, d_eLdc, d_eLdw, d_eLoc, d_eFld, d_lFld, d_eAI, d_eAZ, d_eAB, d_lAL, d_eAD, d_eLen, d_eAdd, d_eSub, d_eMul, d_eAnd, d_eOr, d_eXor, d_eShl, d_eShr, d_eUsh, d_lAdd, d_lSub, d_lMul, d_lAnd, d_lOr, d_lXor, d_lShl, d_lShr, d_eDiv, d_eRem, d_eCmp, d_eI2B, d_eI2S, d_eL2I, d_lI2L, d_lInt, d_lLdc, d_lLoc, d_eIte, d_lIte, d_eMax, d_eMin, d_eAbs, d_eAbove, d_eBodies, d_cQ, d_cZ, d_cNot, d_cAnd, d_cOr, d_gNil, d_gI, d_gL, d_gR, d_gD, d_xV, d_xS, d_xN, d_xT, d_eCall, d_lCall, d_eCallC, d_sNop, d_sSet, d_sSetL, d_sSetR, d_sSetQ, d_sInc, d_sPutI, d_sPutZ, d_sPutL, d_sPutA, d_sPutAZ, d_sPutAB, d_sPutAL, d_sPutD, d_sOpF, d_sOpA, d_sCall, d_sCopy, d_sSeq, d_sIf, d_sBrk, d_sCnt, d_sRetV, d_sRet, d_sRetL, d_sLp, d_tDef, d_tCase, d_sSw, d_sSwB, bIt_d, itb_0, itb_1, itb_2, itb_r, its_0, sqk_0, sqk_1, sqk_2, sqk_r, swk_0, swk_1, swk_r, bfin_r, bfin_ite, Option.bind_some, Option.map_some, Option.bind_none, Option.map_none, bind_ite, map_ite, cop0, cop1, cop2, cop3, cop4, cop5, opv0, opv1, opv2, opv3, brc_i, brc_z, two_ne_one, false_or, getI, getR, getL, List.getElem?_cons_zero, List.getElem?_cons_succ, List.set_cons_zero, List.set_cons_succ, bnl, if_true, if_false, true_or, or_true, decide_eq_true_eq, Bool.not_eq_true', decide_eq_false_iff_not, Bool.not_true, Bool.not_false, Bool.true_eq_false, Bool.false_eq_true, ite_not, reduceIte, ite01_0, ite01_1, Decidable.not_not, ne_eq, not_true_eq_false, not_false_eq_true, Function.comp_apply, decide_not, Bool.not_not, Bool.not_eq_false', dc_t, dc_f, and_self, true_and, and_true, and_false, false_and, tnc, Int.reduceLT, Int.reduceLE, Int.reduceEq, Int.reduceAdd, Int.reduceSub, Int.reduceMul, Int.reduceToNat, Int.reduceNeg, Int.reduceNe]
theorem ps_x (n : Nat) (m : bM) (i t : Int) (ht : m 109 3 = t) (h : t = 0 ∨ (¬ t = 0 ∧ ¬ i < 9)) : L_Reader_parse_1c.1.2 (sem n) [some (aR 109), some (aI i)] m = some (false, m) := by
  rcases h with h | ⟨h1, h2⟩
  · subst h
    simp only [L_Reader_parse_1c, ht, d_rLoc1, d_rLoc2, d_rFld1, d_rFld2, d_eInt, d_eLdc, d_eLdw, d_eLoc, d_eFld, d_lFld, d_eAI, d_eAZ, d_eAB, d_lAL, d_eAD, d_eLen, d_eAdd, d_eSub, d_eMul, d_eAnd, d_eOr, d_eXor, d_eShl, d_eShr, d_eUsh, d_lAdd, d_lSub, d_lMul, d_lAnd, d_lOr, d_lXor, d_lShl, d_lShr, d_eDiv, d_eRem, d_eCmp, d_eI2B, d_eI2S, d_eL2I, d_lI2L, d_lInt, d_lLdc, d_lLoc, d_eIte, d_lIte, d_eMax, d_eMin, d_eAbs, d_eAbove, d_eBodies, d_cQ, d_cZ, d_cNot, d_cAnd, d_cOr, d_gNil, d_gI, d_gL, d_gR, d_gD, d_xV, d_xS, d_xN, d_xT, d_eCall, d_lCall, d_eCallC, d_sNop, d_sSet, d_sSetL, d_sSetR, d_sSetQ, d_sInc, d_sPutI, d_sPutZ, d_sPutL, d_sPutA, d_sPutAZ, d_sPutAB, d_sPutAL, d_sPutD, d_sOpF, d_sOpA, d_sCall, d_sCopy, d_sSeq, d_sIf, d_sBrk, d_sCnt, d_sRetV, d_sRet, d_sRetL, d_sLp, d_tDef, d_tCase, d_sSw, d_sSwB, bIt_d, itb_0, itb_1, itb_2, itb_r, its_0, sqk_0, sqk_1, sqk_2, sqk_r, swk_0, swk_1, swk_r, bfin_r, bfin_ite, Option.bind_some, Option.map_some, Option.bind_none, Option.map_none, bind_ite, map_ite, cop0, cop1, cop2, cop3, cop4, cop5, opv0, opv1, opv2, opv3, brc_i, brc_z, two_ne_one, false_or, getI, getR, getL, List.getElem?_cons_zero, List.getElem?_cons_succ, List.set_cons_zero, List.set_cons_succ, bnl, if_true, if_false, true_or, or_true, decide_eq_true_eq, Bool.not_eq_true', decide_eq_false_iff_not, Bool.not_true, Bool.not_false, Bool.true_eq_false, Bool.false_eq_true, ite_not, reduceIte, ite01_0, ite01_1, Decidable.not_not, ne_eq, not_true_eq_false, not_false_eq_true, Function.comp_apply, decide_not, Bool.not_not, Bool.not_eq_false', dc_t, dc_f, and_self, true_and, and_true, and_false, false_and, tnc, Int.reduceLT, Int.reduceLE, Int.reduceEq, Int.reduceAdd, Int.reduceSub, Int.reduceMul, Int.reduceToNat, Int.reduceNeg, Int.reduceNe]
  · simp only [L_Reader_parse_1c, ht, h1, h2, d_rLoc1, d_rLoc2, d_rFld1, d_rFld2, d_eInt, d_eLdc, d_eLdw, d_eLoc, d_eFld, d_lFld, d_eAI, d_eAZ, d_eAB, d_lAL, d_eAD, d_eLen, d_eAdd, d_eSub, d_eMul, d_eAnd, d_eOr, d_eXor, d_eShl, d_eShr, d_eUsh, d_lAdd, d_lSub, d_lMul, d_lAnd, d_lOr, d_lXor, d_lShl, d_lShr, d_eDiv, d_eRem, d_eCmp, d_eI2B, d_eI2S, d_eL2I, d_lI2L, d_lInt, d_lLdc, d_lLoc, d_eIte, d_lIte, d_eMax, d_eMin, d_eAbs, d_eAbove, d_eBodies, d_cQ, d_cZ, d_cNot, d_cAnd, d_cOr, d_gNil, d_gI, d_gL, d_gR, d_gD, d_xV, d_xS, d_xN, d_xT, d_eCall, d_lCall, d_eCallC, d_sNop, d_sSet, d_sSetL, d_sSetR, d_sSetQ, d_sInc, d_sPutI, d_sPutZ, d_sPutL, d_sPutA, d_sPutAZ, d_sPutAB, d_sPutAL, d_sPutD, d_sOpF, d_sOpA, d_sCall, d_sCopy, d_sSeq, d_sIf, d_sBrk, d_sCnt, d_sRetV, d_sRet, d_sRetL, d_sLp, d_tDef, d_tCase, d_sSw, d_sSwB, bIt_d, itb_0, itb_1, itb_2, itb_r, its_0, sqk_0, sqk_1, sqk_2, sqk_r, swk_0, swk_1, swk_r, bfin_r, bfin_ite, Option.bind_some, Option.map_some, Option.bind_none, Option.map_none, bind_ite, map_ite, cop0, cop1, cop2, cop3, cop4, cop5, opv0, opv1, opv2, opv3, brc_i, brc_z, two_ne_one, false_or, getI, getR, getL, List.getElem?_cons_zero, List.getElem?_cons_succ, List.set_cons_zero, List.set_cons_succ, bnl, if_true, if_false, true_or, or_true, decide_eq_true_eq, Bool.not_eq_true', decide_eq_false_iff_not, Bool.not_true, Bool.not_false, Bool.true_eq_false, Bool.false_eq_true, ite_not, reduceIte, ite01_0, ite01_1, Decidable.not_not, ne_eq, not_true_eq_false, not_false_eq_true, Function.comp_apply, decide_not, Bool.not_not, Bool.not_eq_false', dc_t, dc_f, and_self, true_and, and_true, and_false, false_and, tnc, Int.reduceLT, Int.reduceLE, Int.reduceEq, Int.reduceAdd, Int.reduceSub, Int.reduceMul, Int.reduceToNat, Int.reduceNeg, Int.reduceNe]
theorem ps_s (n : Nat) (m : bM) (i : Int) : L_Reader_parse_1s.1.2 (sem n) [some (aR 109), some (aI i)] m = some (.inl (0, [some (aR 109), some (aI i)], m)) := by
  simp only [L_Reader_parse_1s, d_rLoc1, d_rLoc2, d_rFld1, d_rFld2, d_eInt, d_eLdc, d_eLdw, d_eLoc, d_eFld, d_lFld, d_eAI, d_eAZ, d_eAB, d_lAL, d_eAD, d_eLen, d_eAdd, d_eSub, d_eMul, d_eAnd, d_eOr, d_eXor, d_eShl, d_eShr, d_eUsh, d_lAdd, d_lSub, d_lMul, d_lAnd, d_lOr, d_lXor, d_lShl, d_lShr, d_eDiv, d_eRem, d_eCmp, d_eI2B, d_eI2S, d_eL2I, d_lI2L, d_lInt, d_lLdc, d_lLoc, d_eIte, d_lIte, d_eMax, d_eMin, d_eAbs, d_eAbove, d_eBodies, d_cQ, d_cZ, d_cNot, d_cAnd, d_cOr, d_gNil, d_gI, d_gL, d_gR, d_gD, d_xV, d_xS, d_xN, d_xT, d_eCall, d_lCall, d_eCallC, d_sNop, d_sSet, d_sSetL, d_sSetR, d_sSetQ, d_sInc, d_sPutI, d_sPutZ, d_sPutL, d_sPutA, d_sPutAZ, d_sPutAB, d_sPutAL, d_sPutD, d_sOpF, d_sOpA, d_sCall, d_sCopy, d_sSeq, d_sIf, d_sBrk, d_sCnt, d_sRetV, d_sRet, d_sRetL, d_sLp, d_tDef, d_tCase, d_sSw, d_sSwB, bIt_d, itb_0, itb_1, itb_2, itb_r, its_0, sqk_0, sqk_1, sqk_2, sqk_r, swk_0, swk_1, swk_r, bfin_r, bfin_ite, Option.bind_some, Option.map_some, Option.bind_none, Option.map_none, bind_ite, map_ite, cop0, cop1, cop2, cop3, cop4, cop5, opv0, opv1, opv2, opv3, brc_i, brc_z, two_ne_one, false_or, getI, getR, getL, List.getElem?_cons_zero, List.getElem?_cons_succ, List.set_cons_zero, List.set_cons_succ, bnl, if_true, if_false, true_or, or_true, decide_eq_true_eq, Bool.not_eq_true', decide_eq_false_iff_not, Bool.not_true, Bool.not_false, Bool.true_eq_false, Bool.false_eq_true, ite_not, reduceIte, ite01_0, ite01_1, Decidable.not_not, ne_eq, not_true_eq_false, not_false_eq_true, Function.comp_apply, decide_not, Bool.not_not, Bool.not_eq_false', dc_t, dc_f, and_self, true_and, and_true, and_false, false_and, tnc, Int.reduceLT, Int.reduceLE, Int.reduceEq, Int.reduceAdd, Int.reduceSub, Int.reduceMul, Int.reduceToNat, Int.reduceNeg, Int.reduceNe]
theorem ps_b0 (n : Nat) (m m1 : bM) (i u t f : Int) (e : sem n 263 [aR 109, aI i] m = some (m1, u)) (ht : m1 109 3 = t) (h : u = 0 ∨ (u = 1 ∧ ¬ t = 159)) (hf : m1 109 4 = f) : L_Reader_parse_1b.1.2 (sem n) [some (aR 109), some (aI i)] m = some (.inr (m1, f)) := by
  unfold L_Reader_parse_1b
  refine q_ret ?_
  rcases h with h | ⟨h, h2⟩
  · subst h
    simp only [e, hf, kr_Reader_parse, d_rLoc1, d_rLoc2, d_rFld1, d_rFld2, d_eInt, d_eLdc, d_eLdw, d_eLoc, d_eFld, d_lFld, d_eAI, d_eAZ, d_eAB, d_lAL, d_eAD, d_eLen, d_eAdd, d_eSub, d_eMul, d_eAnd, d_eOr, d_eXor, d_eShl, d_eShr, d_eUsh, d_lAdd, d_lSub, d_lMul, d_lAnd, d_lOr, d_lXor, d_lShl, d_lShr, d_eDiv, d_eRem, d_eCmp, d_eI2B, d_eI2S, d_eL2I, d_lI2L, d_lInt, d_lLdc, d_lLoc, d_eIte, d_lIte, d_eMax, d_eMin, d_eAbs, d_eAbove, d_eBodies, d_cQ, d_cZ, d_cNot, d_cAnd, d_cOr, d_gNil, d_gI, d_gL, d_gR, d_gD, d_xV, d_xS, d_xN, d_xT, d_eCall, d_lCall, d_eCallC, d_sNop, d_sSet, d_sSetL, d_sSetR, d_sSetQ, d_sInc, d_sPutI, d_sPutZ, d_sPutL, d_sPutA, d_sPutAZ, d_sPutAB, d_sPutAL, d_sPutD, d_sOpF, d_sOpA, d_sCall, d_sCopy, d_sSeq, d_sIf, d_sBrk, d_sCnt, d_sRetV, d_sRet, d_sRetL, d_sLp, d_tDef, d_tCase, d_sSw, d_sSwB, bIt_d, itb_0, itb_1, itb_2, itb_r, its_0, sqk_0, sqk_1, sqk_2, sqk_r, swk_0, swk_1, swk_r, bfin_r, bfin_ite, Option.bind_some, Option.map_some, Option.bind_none, Option.map_none, bind_ite, map_ite, cop0, cop1, cop2, cop3, cop4, cop5, opv0, opv1, opv2, opv3, brc_i, brc_z, two_ne_one, false_or, getI, getR, getL, List.getElem?_cons_zero, List.getElem?_cons_succ, List.set_cons_zero, List.set_cons_succ, bnl, if_true, if_false, true_or, or_true, decide_eq_true_eq, Bool.not_eq_true', decide_eq_false_iff_not, Bool.not_true, Bool.not_false, Bool.true_eq_false, Bool.false_eq_true, ite_not, reduceIte, ite01_0, ite01_1, Decidable.not_not, ne_eq, not_true_eq_false, not_false_eq_true, Function.comp_apply, decide_not, Bool.not_not, Bool.not_eq_false', dc_t, dc_f, and_self, true_and, and_true, and_false, false_and, tnc, Int.reduceLT, Int.reduceLE, Int.reduceEq, Int.reduceAdd, Int.reduceSub, Int.reduceMul, Int.reduceToNat, Int.reduceNeg, Int.reduceNe]
  · subst h
    simp only [e, ht, h2, hf, kr_Reader_parse, d_rLoc1, d_rLoc2, d_rFld1, d_rFld2, d_eInt, d_eLdc, d_eLdw, d_eLoc, d_eFld, d_lFld, d_eAI, d_eAZ, d_eAB, d_lAL, d_eAD, d_eLen, d_eAdd, d_eSub, d_eMul, d_eAnd, d_eOr, d_eXor, d_eShl, d_eShr, d_eUsh, d_lAdd, d_lSub, d_lMul, d_lAnd, d_lOr, d_lXor, d_lShl, d_lShr, d_eDiv, d_eRem, d_eCmp, d_eI2B, d_eI2S, d_eL2I, d_lI2L, d_lInt, d_lLdc, d_lLoc, d_eIte, d_lIte, d_eMax, d_eMin, d_eAbs, d_eAbove, d_eBodies, d_cQ, d_cZ, d_cNot, d_cAnd, d_cOr, d_gNil, d_gI, d_gL, d_gR, d_gD, d_xV, d_xS, d_xN, d_xT, d_eCall, d_lCall, d_eCallC, d_sNop, d_sSet, d_sSetL, d_sSetR, d_sSetQ, d_sInc, d_sPutI, d_sPutZ, d_sPutL, d_sPutA, d_sPutAZ, d_sPutAB, d_sPutAL, d_sPutD, d_sOpF, d_sOpA, d_sCall, d_sCopy, d_sSeq, d_sIf, d_sBrk, d_sCnt, d_sRetV, d_sRet, d_sRetL, d_sLp, d_tDef, d_tCase, d_sSw, d_sSwB, bIt_d, itb_0, itb_1, itb_2, itb_r, its_0, sqk_0, sqk_1, sqk_2, sqk_r, swk_0, swk_1, swk_r, bfin_r, bfin_ite, Option.bind_some, Option.map_some, Option.bind_none, Option.map_none, bind_ite, map_ite, cop0, cop1, cop2, cop3, cop4, cop5, opv0, opv1, opv2, opv3, brc_i, brc_z, two_ne_one, false_or, getI, getR, getL, List.getElem?_cons_zero, List.getElem?_cons_succ, List.set_cons_zero, List.set_cons_succ, bnl, if_true, if_false, true_or, or_true, decide_eq_true_eq, Bool.not_eq_true', decide_eq_false_iff_not, Bool.not_true, Bool.not_false, Bool.true_eq_false, Bool.false_eq_true, ite_not, reduceIte, ite01_0, ite01_1, Decidable.not_not, ne_eq, not_true_eq_false, not_false_eq_true, Function.comp_apply, decide_not, Bool.not_not, Bool.not_eq_false', dc_t, dc_f, and_self, true_and, and_true, and_false, false_and, tnc, Int.reduceLT, Int.reduceLE, Int.reduceEq, Int.reduceAdd, Int.reduceSub, Int.reduceMul, Int.reduceToNat, Int.reduceNeg, Int.reduceNe]
theorem ps_b1 (n : Nat) (m m1 m2 : bM) (i j t : Int) (e : sem n 263 [aR 109, aI i] m = some (m1, 1)) (ht : m1 109 3 = t) (h : t = 159) (e2 : sem n 262 [aR 109] m1 = some (m2, 0)) (hj : i32 (i + 1) = j) : L_Reader_parse_1b.1.2 (sem n) [some (aR 109), some (aI i)] m = some (.inl (0, [some (aR 109), some (aI j)], m2)) := by
  subst h
  unfold L_Reader_parse_1b
  refine (q_puti (ls2 := [some (aR 109), some (aI i)]) (m2 := m1) ?_).trans ?_
  · simp only [e, ht, d_rLoc1, d_rLoc2, d_rFld1, d_rFld2, d_eInt, d_eLdc, d_eLdw, d_eLoc, d_eFld, d_lFld, d_eAI, d_eAZ, d_eAB, d_lAL, d_eAD, d_eLen, d_eAdd, d_eSub, d_eMul, d_eAnd, d_eOr, d_eXor, d_eShl, d_eShr, d_eUsh, d_lAdd, d_lSub, d_lMul, d_lAnd, d_lOr, d_lXor, d_lShl, d_lShr, d_eDiv, d_eRem, d_eCmp, d_eI2B, d_eI2S, d_eL2I, d_lI2L, d_lInt, d_lLdc, d_lLoc, d_eIte, d_lIte, d_eMax, d_eMin, d_eAbs, d_eAbove, d_eBodies, d_cQ, d_cZ, d_cNot, d_cAnd, d_cOr, d_gNil, d_gI, d_gL, d_gR, d_gD, d_xV, d_xS, d_xN, d_xT, d_eCall, d_lCall, d_eCallC, d_sNop, d_sSet, d_sSetL, d_sSetR, d_sSetQ, d_sInc, d_sPutI, d_sPutZ, d_sPutL, d_sPutA, d_sPutAZ, d_sPutAB, d_sPutAL, d_sPutD, d_sOpF, d_sOpA, d_sCall, d_sCopy, d_sSeq, d_sIf, d_sBrk, d_sCnt, d_sRetV, d_sRet, d_sRetL, d_sLp, d_tDef, d_tCase, d_sSw, d_sSwB, bIt_d, itb_0, itb_1, itb_2, itb_r, its_0, sqk_0, sqk_1, sqk_2, sqk_r, swk_0, swk_1, swk_r, bfin_r, bfin_ite, Option.bind_some, Option.map_some, Option.bind_none, Option.map_none, bind_ite, map_ite, cop0, cop1, cop2, cop3, cop4, cop5, opv0, opv1, opv2, opv3, brc_i, brc_z, two_ne_one, false_or, getI, getR, getL, List.getElem?_cons_zero, List.getElem?_cons_succ, List.set_cons_zero, List.set_cons_succ, bnl, if_true, if_false, true_or, or_true, decide_eq_true_eq, Bool.not_eq_true', decide_eq_false_iff_not, Bool.not_true, Bool.not_false, Bool.true_eq_false, Bool.false_eq_true, ite_not, reduceIte, ite01_0, ite01_1, Decidable.not_not, ne_eq, not_true_eq_false, not_false_eq_true, Function.comp_apply, decide_not, Bool.not_not, Bool.not_eq_false', dc_t, dc_f, and_self, true_and, and_true, and_false, false_and, tnc, Int.reduceLT, Int.reduceLE, Int.reduceEq, Int.reduceAdd, Int.reduceSub, Int.reduceMul, Int.reduceToNat, Int.reduceNeg, Int.reduceNe]
  refine (q_puti (ls2 := [some (aR 109), some (aI i)]) (m2 := m2) ?_).trans ?_
  · simp only [e2, d_rLoc1, d_rLoc2, d_rFld1, d_rFld2, d_eInt, d_eLdc, d_eLdw, d_eLoc, d_eFld, d_lFld, d_eAI, d_eAZ, d_eAB, d_lAL, d_eAD, d_eLen, d_eAdd, d_eSub, d_eMul, d_eAnd, d_eOr, d_eXor, d_eShl, d_eShr, d_eUsh, d_lAdd, d_lSub, d_lMul, d_lAnd, d_lOr, d_lXor, d_lShl, d_lShr, d_eDiv, d_eRem, d_eCmp, d_eI2B, d_eI2S, d_eL2I, d_lI2L, d_lInt, d_lLdc, d_lLoc, d_eIte, d_lIte, d_eMax, d_eMin, d_eAbs, d_eAbove, d_eBodies, d_cQ, d_cZ, d_cNot, d_cAnd, d_cOr, d_gNil, d_gI, d_gL, d_gR, d_gD, d_xV, d_xS, d_xN, d_xT, d_eCall, d_lCall, d_eCallC, d_sNop, d_sSet, d_sSetL, d_sSetR, d_sSetQ, d_sInc, d_sPutI, d_sPutZ, d_sPutL, d_sPutA, d_sPutAZ, d_sPutAB, d_sPutAL, d_sPutD, d_sOpF, d_sOpA, d_sCall, d_sCopy, d_sSeq, d_sIf, d_sBrk, d_sCnt, d_sRetV, d_sRet, d_sRetL, d_sLp, d_tDef, d_tCase, d_sSw, d_sSwB, bIt_d, itb_0, itb_1, itb_2, itb_r, its_0, sqk_0, sqk_1, sqk_2, sqk_r, swk_0, swk_1, swk_r, bfin_r, bfin_ite, Option.bind_some, Option.map_some, Option.bind_none, Option.map_none, bind_ite, map_ite, cop0, cop1, cop2, cop3, cop4, cop5, opv0, opv1, opv2, opv3, brc_i, brc_z, two_ne_one, false_or, getI, getR, getL, List.getElem?_cons_zero, List.getElem?_cons_succ, List.set_cons_zero, List.set_cons_succ, bnl, if_true, if_false, true_or, or_true, decide_eq_true_eq, Bool.not_eq_true', decide_eq_false_iff_not, Bool.not_true, Bool.not_false, Bool.true_eq_false, Bool.false_eq_true, ite_not, reduceIte, ite01_0, ite01_1, Decidable.not_not, ne_eq, not_true_eq_false, not_false_eq_true, Function.comp_apply, decide_not, Bool.not_not, Bool.not_eq_false', dc_t, dc_f, and_self, true_and, and_true, and_false, false_and, tnc, Int.reduceLT, Int.reduceLE, Int.reduceEq, Int.reduceAdd, Int.reduceSub, Int.reduceMul, Int.reduceToNat, Int.reduceNeg, Int.reduceNe]
  · simp only [hj, d_rLoc1, d_rLoc2, d_rFld1, d_rFld2, d_eInt, d_eLdc, d_eLdw, d_eLoc, d_eFld, d_lFld, d_eAI, d_eAZ, d_eAB, d_lAL, d_eAD, d_eLen, d_eAdd, d_eSub, d_eMul, d_eAnd, d_eOr, d_eXor, d_eShl, d_eShr, d_eUsh, d_lAdd, d_lSub, d_lMul, d_lAnd, d_lOr, d_lXor, d_lShl, d_lShr, d_eDiv, d_eRem, d_eCmp, d_eI2B, d_eI2S, d_eL2I, d_lI2L, d_lInt, d_lLdc, d_lLoc, d_eIte, d_lIte, d_eMax, d_eMin, d_eAbs, d_eAbove, d_eBodies, d_cQ, d_cZ, d_cNot, d_cAnd, d_cOr, d_gNil, d_gI, d_gL, d_gR, d_gD, d_xV, d_xS, d_xN, d_xT, d_eCall, d_lCall, d_eCallC, d_sNop, d_sSet, d_sSetL, d_sSetR, d_sSetQ, d_sInc, d_sPutI, d_sPutZ, d_sPutL, d_sPutA, d_sPutAZ, d_sPutAB, d_sPutAL, d_sPutD, d_sOpF, d_sOpA, d_sCall, d_sCopy, d_sSeq, d_sIf, d_sBrk, d_sCnt, d_sRetV, d_sRet, d_sRetL, d_sLp, d_tDef, d_tCase, d_sSw, d_sSwB, bIt_d, itb_0, itb_1, itb_2, itb_r, its_0, sqk_0, sqk_1, sqk_2, sqk_r, swk_0, swk_1, swk_r, bfin_r, bfin_ite, Option.bind_some, Option.map_some, Option.bind_none, Option.map_none, bind_ite, map_ite, cop0, cop1, cop2, cop3, cop4, cop5, opv0, opv1, opv2, opv3, brc_i, brc_z, two_ne_one, false_or, getI, getR, getL, List.getElem?_cons_zero, List.getElem?_cons_succ, List.set_cons_zero, List.set_cons_succ, bnl, if_true, if_false, true_or, or_true, decide_eq_true_eq, Bool.not_eq_true', decide_eq_false_iff_not, Bool.not_true, Bool.not_false, Bool.true_eq_false, Bool.false_eq_true, ite_not, reduceIte, ite01_0, ite01_1, Decidable.not_not, ne_eq, not_true_eq_false, not_false_eq_true, Function.comp_apply, decide_not, Bool.not_not, Bool.not_eq_false', dc_t, dc_f, and_self, true_and, and_true, and_false, false_and, tnc, Int.reduceLT, Int.reduceLE, Int.reduceEq, Int.reduceAdd, Int.reduceSub, Int.reduceMul, Int.reduceToNat, Int.reduceNeg, Int.reduceNe]
theorem ps_e (n : Nat) (m m1 m2 m3 m4 m5 m6 : bM) (s f t v i : Int) (Sn : Nat) (r : Option bRs) (hs : m 63 7 = s) (w1 : bwr m 109 7 s = m1) (w2 : bwr m1 109 8 0 = m2) (w3 : bwr m2 109 5 0 = m3) (e4 : sem n 262 [aR 109] m3 = some (m4, 0)) (eL : L_Reader_parse_1.1.2 (sem n) [some (aR 109), some (aI 0)] m4 = r) (h : (r = some (.inr (m6, f)) ∧ v = f) ∨ (r = some (.inl (0, [some (aR 109), some (aI i)], m5)) ∧ m5 109 7 = s ∧ (0 ≤ s ∧ s < ((9 : Nat) : Int)) ∧ s.toNat = Sn ∧ bwr m5 65 Sn i = m6 ∧ m6 109 3 = t ∧ ((t = 0 ∧ v = -1) ∨ (¬ t = 0 ∧ m6 109 4 = f ∧ v = f)))) : sem (n + 1) 157 [aR 109] m = some (m6, v) := by
  have eb : B_Reader_parse.1.2 (sem n) [some (aR 109), none] m = some (.inr (m6, v)) := by
    unfold B_Reader_parse
    revert eL
    generalize L_Reader_parse_1 = LL
    intro eL
    refine (q_puti (ls2 := [some (aR 109), none]) (m2 := m1) ?_).trans ?_
    · simp only [hs, w1, d_rLoc1, d_rLoc2, d_rFld1, d_rFld2, d_eInt, d_eLdc, d_eLdw, d_eLoc, d_eFld, d_lFld, d_eAI, d_eAZ, d_eAB, d_lAL, d_eAD, d_eLen, d_eAdd, d_eSub, d_eMul, d_eAnd, d_eOr, d_eXor, d_eShl, d_eShr, d_eUsh, d_lAdd, d_lSub, d_lMul, d_lAnd, d_lOr, d_lXor, d_lShl, d_lShr, d_eDiv, d_eRem, d_eCmp, d_eI2B, d_eI2S, d_eL2I, d_lI2L, d_lInt, d_lLdc, d_lLoc, d_eIte, d_lIte, d_eMax, d_eMin, d_eAbs, d_eAbove, d_eBodies, d_cQ, d_cZ, d_cNot, d_cAnd, d_cOr, d_gNil, d_gI, d_gL, d_gR, d_gD, d_xV, d_xS, d_xN, d_xT, d_eCall, d_lCall, d_eCallC, d_sNop, d_sSet, d_sSetL, d_sSetR, d_sSetQ, d_sInc, d_sPutI, d_sPutZ, d_sPutL, d_sPutA, d_sPutAZ, d_sPutAB, d_sPutAL, d_sPutD, d_sOpF, d_sOpA, d_sCall, d_sCopy, d_sSeq, d_sIf, d_sBrk, d_sCnt, d_sRetV, d_sRet, d_sRetL, d_sLp, d_tDef, d_tCase, d_sSw, d_sSwB, bIt_d, itb_0, itb_1, itb_2, itb_r, its_0, sqk_0, sqk_1, sqk_2, sqk_r, swk_0, swk_1, swk_r, bfin_r, bfin_ite, Option.bind_some, Option.map_some, Option.bind_none, Option.map_none, bind_ite, map_ite, cop0, cop1, cop2, cop3, cop4, cop5, opv0, opv1, opv2, opv3, brc_i, brc_z, two_ne_one, false_or, getI, getR, getL, List.getElem?_cons_zero, List.getElem?_cons_succ, List.set_cons_zero, List.set_cons_succ, bnl, if_true, if_false, true_or, or_true, decide_eq_true_eq, Bool.not_eq_true', decide_eq_false_iff_not, Bool.not_true, Bool.not_false, Bool.true_eq_false, Bool.false_eq_true, ite_not, reduceIte, ite01_0, ite01_1, Decidable.not_not, ne_eq, not_true_eq_false, not_false_eq_true, Function.comp_apply, decide_not, Bool.not_not, Bool.not_eq_false', dc_t, dc_f, and_self, true_and, and_true, and_false, false_and, tnc, Int.reduceLT, Int.reduceLE, Int.reduceEq, Int.reduceAdd, Int.reduceSub, Int.reduceMul, Int.reduceToNat, Int.reduceNeg, Int.reduceNe]
    refine (q_puti (ls2 := [some (aR 109), none]) (m2 := m2) ?_).trans ?_
    · simp only [w2, d_rLoc1, d_rLoc2, d_rFld1, d_rFld2, d_eInt, d_eLdc, d_eLdw, d_eLoc, d_eFld, d_lFld, d_eAI, d_eAZ, d_eAB, d_lAL, d_eAD, d_eLen, d_eAdd, d_eSub, d_eMul, d_eAnd, d_eOr, d_eXor, d_eShl, d_eShr, d_eUsh, d_lAdd, d_lSub, d_lMul, d_lAnd, d_lOr, d_lXor, d_lShl, d_lShr, d_eDiv, d_eRem, d_eCmp, d_eI2B, d_eI2S, d_eL2I, d_lI2L, d_lInt, d_lLdc, d_lLoc, d_eIte, d_lIte, d_eMax, d_eMin, d_eAbs, d_eAbove, d_eBodies, d_cQ, d_cZ, d_cNot, d_cAnd, d_cOr, d_gNil, d_gI, d_gL, d_gR, d_gD, d_xV, d_xS, d_xN, d_xT, d_eCall, d_lCall, d_eCallC, d_sNop, d_sSet, d_sSetL, d_sSetR, d_sSetQ, d_sInc, d_sPutI, d_sPutZ, d_sPutL, d_sPutA, d_sPutAZ, d_sPutAB, d_sPutAL, d_sPutD, d_sOpF, d_sOpA, d_sCall, d_sCopy, d_sSeq, d_sIf, d_sBrk, d_sCnt, d_sRetV, d_sRet, d_sRetL, d_sLp, d_tDef, d_tCase, d_sSw, d_sSwB, bIt_d, itb_0, itb_1, itb_2, itb_r, its_0, sqk_0, sqk_1, sqk_2, sqk_r, swk_0, swk_1, swk_r, bfin_r, bfin_ite, Option.bind_some, Option.map_some, Option.bind_none, Option.map_none, bind_ite, map_ite, cop0, cop1, cop2, cop3, cop4, cop5, opv0, opv1, opv2, opv3, brc_i, brc_z, two_ne_one, false_or, getI, getR, getL, List.getElem?_cons_zero, List.getElem?_cons_succ, List.set_cons_zero, List.set_cons_succ, bnl, if_true, if_false, true_or, or_true, decide_eq_true_eq, Bool.not_eq_true', decide_eq_false_iff_not, Bool.not_true, Bool.not_false, Bool.true_eq_false, Bool.false_eq_true, ite_not, reduceIte, ite01_0, ite01_1, Decidable.not_not, ne_eq, not_true_eq_false, not_false_eq_true, Function.comp_apply, decide_not, Bool.not_not, Bool.not_eq_false', dc_t, dc_f, and_self, true_and, and_true, and_false, false_and, tnc, Int.reduceLT, Int.reduceLE, Int.reduceEq, Int.reduceAdd, Int.reduceSub, Int.reduceMul, Int.reduceToNat, Int.reduceNeg, Int.reduceNe]
    refine (q_puti (ls2 := [some (aR 109), none]) (m2 := m3) ?_).trans ?_
    · simp only [w3, d_rLoc1, d_rLoc2, d_rFld1, d_rFld2, d_eInt, d_eLdc, d_eLdw, d_eLoc, d_eFld, d_lFld, d_eAI, d_eAZ, d_eAB, d_lAL, d_eAD, d_eLen, d_eAdd, d_eSub, d_eMul, d_eAnd, d_eOr, d_eXor, d_eShl, d_eShr, d_eUsh, d_lAdd, d_lSub, d_lMul, d_lAnd, d_lOr, d_lXor, d_lShl, d_lShr, d_eDiv, d_eRem, d_eCmp, d_eI2B, d_eI2S, d_eL2I, d_lI2L, d_lInt, d_lLdc, d_lLoc, d_eIte, d_lIte, d_eMax, d_eMin, d_eAbs, d_eAbove, d_eBodies, d_cQ, d_cZ, d_cNot, d_cAnd, d_cOr, d_gNil, d_gI, d_gL, d_gR, d_gD, d_xV, d_xS, d_xN, d_xT, d_eCall, d_lCall, d_eCallC, d_sNop, d_sSet, d_sSetL, d_sSetR, d_sSetQ, d_sInc, d_sPutI, d_sPutZ, d_sPutL, d_sPutA, d_sPutAZ, d_sPutAB, d_sPutAL, d_sPutD, d_sOpF, d_sOpA, d_sCall, d_sCopy, d_sSeq, d_sIf, d_sBrk, d_sCnt, d_sRetV, d_sRet, d_sRetL, d_sLp, d_tDef, d_tCase, d_sSw, d_sSwB, bIt_d, itb_0, itb_1, itb_2, itb_r, its_0, sqk_0, sqk_1, sqk_2, sqk_r, swk_0, swk_1, swk_r, bfin_r, bfin_ite, Option.bind_some, Option.map_some, Option.bind_none, Option.map_none, bind_ite, map_ite, cop0, cop1, cop2, cop3, cop4, cop5, opv0, opv1, opv2, opv3, brc_i, brc_z, two_ne_one, false_or, getI, getR, getL, List.getElem?_cons_zero, List.getElem?_cons_succ, List.set_cons_zero, List.set_cons_succ, bnl, if_true, if_false, true_or, or_true, decide_eq_true_eq, Bool.not_eq_true', decide_eq_false_iff_not, Bool.not_true, Bool.not_false, Bool.true_eq_false, Bool.false_eq_true, ite_not, reduceIte, ite01_0, ite01_1, Decidable.not_not, ne_eq, not_true_eq_false, not_false_eq_true, Function.comp_apply, decide_not, Bool.not_not, Bool.not_eq_false', dc_t, dc_f, and_self, true_and, and_true, and_false, false_and, tnc, Int.reduceLT, Int.reduceLE, Int.reduceEq, Int.reduceAdd, Int.reduceSub, Int.reduceMul, Int.reduceToNat, Int.reduceNeg, Int.reduceNe]
    refine (q_puti (ls2 := [some (aR 109), none]) (m2 := m4) ?_).trans ?_
    · simp only [e4, d_rLoc1, d_rLoc2, d_rFld1, d_rFld2, d_eInt, d_eLdc, d_eLdw, d_eLoc, d_eFld, d_lFld, d_eAI, d_eAZ, d_eAB, d_lAL, d_eAD, d_eLen, d_eAdd, d_eSub, d_eMul, d_eAnd, d_eOr, d_eXor, d_eShl, d_eShr, d_eUsh, d_lAdd, d_lSub, d_lMul, d_lAnd, d_lOr, d_lXor, d_lShl, d_lShr, d_eDiv, d_eRem, d_eCmp, d_eI2B, d_eI2S, d_eL2I, d_lI2L, d_lInt, d_lLdc, d_lLoc, d_eIte, d_lIte, d_eMax, d_eMin, d_eAbs, d_eAbove, d_eBodies, d_cQ, d_cZ, d_cNot, d_cAnd, d_cOr, d_gNil, d_gI, d_gL, d_gR, d_gD, d_xV, d_xS, d_xN, d_xT, d_eCall, d_lCall, d_eCallC, d_sNop, d_sSet, d_sSetL, d_sSetR, d_sSetQ, d_sInc, d_sPutI, d_sPutZ, d_sPutL, d_sPutA, d_sPutAZ, d_sPutAB, d_sPutAL, d_sPutD, d_sOpF, d_sOpA, d_sCall, d_sCopy, d_sSeq, d_sIf, d_sBrk, d_sCnt, d_sRetV, d_sRet, d_sRetL, d_sLp, d_tDef, d_tCase, d_sSw, d_sSwB, bIt_d, itb_0, itb_1, itb_2, itb_r, its_0, sqk_0, sqk_1, sqk_2, sqk_r, swk_0, swk_1, swk_r, bfin_r, bfin_ite, Option.bind_some, Option.map_some, Option.bind_none, Option.map_none, bind_ite, map_ite, cop0, cop1, cop2, cop3, cop4, cop5, opv0, opv1, opv2, opv3, brc_i, brc_z, two_ne_one, false_or, getI, getR, getL, List.getElem?_cons_zero, List.getElem?_cons_succ, List.set_cons_zero, List.set_cons_succ, bnl, if_true, if_false, true_or, or_true, decide_eq_true_eq, Bool.not_eq_true', decide_eq_false_iff_not, Bool.not_true, Bool.not_false, Bool.true_eq_false, Bool.false_eq_true, ite_not, reduceIte, ite01_0, ite01_1, Decidable.not_not, ne_eq, not_true_eq_false, not_false_eq_true, Function.comp_apply, decide_not, Bool.not_not, Bool.not_eq_false', dc_t, dc_f, and_self, true_and, and_true, and_false, false_and, tnc, Int.reduceLT, Int.reduceLE, Int.reduceEq, Int.reduceAdd, Int.reduceSub, Int.reduceMul, Int.reduceToNat, Int.reduceNeg, Int.reduceNe]
    refine (q_puti (ls2 := [some (aR 109), some (aI 0)]) (m2 := m4) ?_).trans ?_
    · simp only [d_rLoc1, d_rLoc2, d_rFld1, d_rFld2, d_eInt, d_eLdc, d_eLdw, d_eLoc, d_eFld, d_lFld, d_eAI, d_eAZ, d_eAB, d_lAL, d_eAD, d_eLen, d_eAdd, d_eSub, d_eMul, d_eAnd, d_eOr, d_eXor, d_eShl, d_eShr, d_eUsh, d_lAdd, d_lSub, d_lMul, d_lAnd, d_lOr, d_lXor, d_lShl, d_lShr, d_eDiv, d_eRem, d_eCmp, d_eI2B, d_eI2S, d_eL2I, d_lI2L, d_lInt, d_lLdc, d_lLoc, d_eIte, d_lIte, d_eMax, d_eMin, d_eAbs, d_eAbove, d_eBodies, d_cQ, d_cZ, d_cNot, d_cAnd, d_cOr, d_gNil, d_gI, d_gL, d_gR, d_gD, d_xV, d_xS, d_xN, d_xT, d_eCall, d_lCall, d_eCallC, d_sNop, d_sSet, d_sSetL, d_sSetR, d_sSetQ, d_sInc, d_sPutI, d_sPutZ, d_sPutL, d_sPutA, d_sPutAZ, d_sPutAB, d_sPutAL, d_sPutD, d_sOpF, d_sOpA, d_sCall, d_sCopy, d_sSeq, d_sIf, d_sBrk, d_sCnt, d_sRetV, d_sRet, d_sRetL, d_sLp, d_tDef, d_tCase, d_sSw, d_sSwB, bIt_d, itb_0, itb_1, itb_2, itb_r, its_0, sqk_0, sqk_1, sqk_2, sqk_r, swk_0, swk_1, swk_r, bfin_r, bfin_ite, Option.bind_some, Option.map_some, Option.bind_none, Option.map_none, bind_ite, map_ite, cop0, cop1, cop2, cop3, cop4, cop5, opv0, opv1, opv2, opv3, brc_i, brc_z, two_ne_one, false_or, getI, getR, getL, List.getElem?_cons_zero, List.getElem?_cons_succ, List.set_cons_zero, List.set_cons_succ, bnl, if_true, if_false, true_or, or_true, decide_eq_true_eq, Bool.not_eq_true', decide_eq_false_iff_not, Bool.not_true, Bool.not_false, Bool.true_eq_false, Bool.false_eq_true, ite_not, reduceIte, ite01_0, ite01_1, Decidable.not_not, ne_eq, not_true_eq_false, not_false_eq_true, Function.comp_apply, decide_not, Bool.not_not, Bool.not_eq_false', dc_t, dc_f, and_self, true_and, and_true, and_false, false_and, tnc, Int.reduceLT, Int.reduceLE, Int.reduceEq, Int.reduceAdd, Int.reduceSub, Int.reduceMul, Int.reduceToNat, Int.reduceNeg, Int.reduceNe]
    rcases h with ⟨h1, h2⟩ | ⟨h1, hv, fs, ts, w6, ht, h2⟩
    · subst h2
      exact q_ret (eL.trans h1)
    · refine (q_puti (eL.trans h1)).trans ?_
      refine (q_puti (ls2 := [some (aR 109), some (aI i)]) (m2 := m6) ?_).trans ?_
      · simp only [hv, fs, ts, w6, d_rLoc1, d_rLoc2, d_rFld1, d_rFld2, d_eInt, d_eLdc, d_eLdw, d_eLoc, d_eFld, d_lFld, d_eAI, d_eAZ, d_eAB, d_lAL, d_eAD, d_eLen, d_eAdd, d_eSub, d_eMul, d_eAnd, d_eOr, d_eXor, d_eShl, d_eShr, d_eUsh, d_lAdd, d_lSub, d_lMul, d_lAnd, d_lOr, d_lXor, d_lShl, d_lShr, d_eDiv, d_eRem, d_eCmp, d_eI2B, d_eI2S, d_eL2I, d_lI2L, d_lInt, d_lLdc, d_lLoc, d_eIte, d_lIte, d_eMax, d_eMin, d_eAbs, d_eAbove, d_eBodies, d_cQ, d_cZ, d_cNot, d_cAnd, d_cOr, d_gNil, d_gI, d_gL, d_gR, d_gD, d_xV, d_xS, d_xN, d_xT, d_eCall, d_lCall, d_eCallC, d_sNop, d_sSet, d_sSetL, d_sSetR, d_sSetQ, d_sInc, d_sPutI, d_sPutZ, d_sPutL, d_sPutA, d_sPutAZ, d_sPutAB, d_sPutAL, d_sPutD, d_sOpF, d_sOpA, d_sCall, d_sCopy, d_sSeq, d_sIf, d_sBrk, d_sCnt, d_sRetV, d_sRet, d_sRetL, d_sLp, d_tDef, d_tCase, d_sSw, d_sSwB, bIt_d, itb_0, itb_1, itb_2, itb_r, its_0, sqk_0, sqk_1, sqk_2, sqk_r, swk_0, swk_1, swk_r, bfin_r, bfin_ite, Option.bind_some, Option.map_some, Option.bind_none, Option.map_none, bind_ite, map_ite, cop0, cop1, cop2, cop3, cop4, cop5, opv0, opv1, opv2, opv3, brc_i, brc_z, two_ne_one, false_or, getI, getR, getL, List.getElem?_cons_zero, List.getElem?_cons_succ, List.set_cons_zero, List.set_cons_succ, bnl, if_true, if_false, true_or, or_true, decide_eq_true_eq, Bool.not_eq_true', decide_eq_false_iff_not, Bool.not_true, Bool.not_false, Bool.true_eq_false, Bool.false_eq_true, ite_not, reduceIte, ite01_0, ite01_1, Decidable.not_not, ne_eq, not_true_eq_false, not_false_eq_true, Function.comp_apply, decide_not, Bool.not_not, Bool.not_eq_false', dc_t, dc_f, and_self, true_and, and_true, and_false, false_and, tnc, Int.reduceLT, Int.reduceLE, Int.reduceEq, Int.reduceAdd, Int.reduceSub, Int.reduceMul, Int.reduceToNat, Int.reduceNeg, Int.reduceNe]
      · rcases h2 with ⟨h2, h3⟩ | ⟨h2, h3, h4⟩
        · subst h2 h3
          simp only [ht, kr_Reader_parse, d_rLoc1, d_rLoc2, d_rFld1, d_rFld2, d_eInt, d_eLdc, d_eLdw, d_eLoc, d_eFld, d_lFld, d_eAI, d_eAZ, d_eAB, d_lAL, d_eAD, d_eLen, d_eAdd, d_eSub, d_eMul, d_eAnd, d_eOr, d_eXor, d_eShl, d_eShr, d_eUsh, d_lAdd, d_lSub, d_lMul, d_lAnd, d_lOr, d_lXor, d_lShl, d_lShr, d_eDiv, d_eRem, d_eCmp, d_eI2B, d_eI2S, d_eL2I, d_lI2L, d_lInt, d_lLdc, d_lLoc, d_eIte, d_lIte, d_eMax, d_eMin, d_eAbs, d_eAbove, d_eBodies, d_cQ, d_cZ, d_cNot, d_cAnd, d_cOr, d_gNil, d_gI, d_gL, d_gR, d_gD, d_xV, d_xS, d_xN, d_xT, d_eCall, d_lCall, d_eCallC, d_sNop, d_sSet, d_sSetL, d_sSetR, d_sSetQ, d_sInc, d_sPutI, d_sPutZ, d_sPutL, d_sPutA, d_sPutAZ, d_sPutAB, d_sPutAL, d_sPutD, d_sOpF, d_sOpA, d_sCall, d_sCopy, d_sSeq, d_sIf, d_sBrk, d_sCnt, d_sRetV, d_sRet, d_sRetL, d_sLp, d_tDef, d_tCase, d_sSw, d_sSwB, bIt_d, itb_0, itb_1, itb_2, itb_r, its_0, sqk_0, sqk_1, sqk_2, sqk_r, swk_0, swk_1, swk_r, bfin_r, bfin_ite, Option.bind_some, Option.map_some, Option.bind_none, Option.map_none, bind_ite, map_ite, cop0, cop1, cop2, cop3, cop4, cop5, opv0, opv1, opv2, opv3, brc_i, brc_z, two_ne_one, false_or, getI, getR, getL, List.getElem?_cons_zero, List.getElem?_cons_succ, List.set_cons_zero, List.set_cons_succ, bnl, if_true, if_false, true_or, or_true, decide_eq_true_eq, Bool.not_eq_true', decide_eq_false_iff_not, Bool.not_true, Bool.not_false, Bool.true_eq_false, Bool.false_eq_true, ite_not, reduceIte, ite01_0, ite01_1, Decidable.not_not, ne_eq, not_true_eq_false, not_false_eq_true, Function.comp_apply, decide_not, Bool.not_not, Bool.not_eq_false', dc_t, dc_f, and_self, true_and, and_true, and_false, false_and, tnc, Int.reduceLT, Int.reduceLE, Int.reduceEq, Int.reduceAdd, Int.reduceSub, Int.reduceMul, Int.reduceToNat, Int.reduceNeg, Int.reduceNe]
        · subst h4
          simp only [ht, h2, h3, kr_Reader_parse, d_rLoc1, d_rLoc2, d_rFld1, d_rFld2, d_eInt, d_eLdc, d_eLdw, d_eLoc, d_eFld, d_lFld, d_eAI, d_eAZ, d_eAB, d_lAL, d_eAD, d_eLen, d_eAdd, d_eSub, d_eMul, d_eAnd, d_eOr, d_eXor, d_eShl, d_eShr, d_eUsh, d_lAdd, d_lSub, d_lMul, d_lAnd, d_lOr, d_lXor, d_lShl, d_lShr, d_eDiv, d_eRem, d_eCmp, d_eI2B, d_eI2S, d_eL2I, d_lI2L, d_lInt, d_lLdc, d_lLoc, d_eIte, d_lIte, d_eMax, d_eMin, d_eAbs, d_eAbove, d_eBodies, d_cQ, d_cZ, d_cNot, d_cAnd, d_cOr, d_gNil, d_gI, d_gL, d_gR, d_gD, d_xV, d_xS, d_xN, d_xT, d_eCall, d_lCall, d_eCallC, d_sNop, d_sSet, d_sSetL, d_sSetR, d_sSetQ, d_sInc, d_sPutI, d_sPutZ, d_sPutL, d_sPutA, d_sPutAZ, d_sPutAB, d_sPutAL, d_sPutD, d_sOpF, d_sOpA, d_sCall, d_sCopy, d_sSeq, d_sIf, d_sBrk, d_sCnt, d_sRetV, d_sRet, d_sRetL, d_sLp, d_tDef, d_tCase, d_sSw, d_sSwB, bIt_d, itb_0, itb_1, itb_2, itb_r, its_0, sqk_0, sqk_1, sqk_2, sqk_r, swk_0, swk_1, swk_r, bfin_r, bfin_ite, Option.bind_some, Option.map_some, Option.bind_none, Option.map_none, bind_ite, map_ite, cop0, cop1, cop2, cop3, cop4, cop5, opv0, opv1, opv2, opv3, brc_i, brc_z, two_ne_one, false_or, getI, getR, getL, List.getElem?_cons_zero, List.getElem?_cons_succ, List.set_cons_zero, List.set_cons_succ, bnl, if_true, if_false, true_or, or_true, decide_eq_true_eq, Bool.not_eq_true', decide_eq_false_iff_not, Bool.not_true, Bool.not_false, Bool.true_eq_false, Bool.false_eq_true, ite_not, reduceIte, ite01_0, ite01_1, Decidable.not_not, ne_eq, not_true_eq_false, not_false_eq_true, Function.comp_apply, decide_not, Bool.not_not, Bool.not_eq_false', dc_t, dc_f, and_self, true_and, and_true, and_false, false_and, tnc, Int.reduceLT, Int.reduceLE, Int.reduceEq, Int.reduceAdd, Int.reduceSub, Int.reduceMul, Int.reduceToNat, Int.reduceNeg, Int.reduceNe]
  rw [st_Reader_parse, eb, bfin_r]
theorem lp_ps (n : Nat) {T : Nat → Int} {L S : Nat} (hS : S ≤ 8) (hL : L ≤ 240) : ∀ (k i p c bf : Nat) (m : bM), k < bf → i + k = 9 → RdI T L S m p c → p ≤ L → 3 * c ≤ p → match pLs T L k p with
    | .inl f => f ≤ L ∧ ∃ m2, frX S c i m m2 ∧ ((bLp (L_Reader_parse_1c.1.2 (sem (n + 22))) (L_Reader_parse_1b.1.2 (sem (n + 22))) (L_Reader_parse_1s.1.2 (sem (n + 22))) bf [some (aR 109), some (aI (i : Int))] m = some (.inr (m2, (f : Int)))) ∨ (bLp (L_Reader_parse_1c.1.2 (sem (n + 22))) (L_Reader_parse_1b.1.2 (sem (n + 22))) (L_Reader_parse_1s.1.2 (sem (n + 22))) bf [some (aR 109), some (aI (i : Int))] m = some (.inl (0, [some (aR 109), some (aI 9)], m2)) ∧ ¬ m2 109 3 = 0 ∧ m2 109 4 = (f : Int)))
    | .inr rs => i + rs.length ≤ 9 ∧ ∃ m2, frX S c i m m2 ∧ bLp (L_Reader_parse_1c.1.2 (sem (n + 22))) (L_Reader_parse_1b.1.2 (sem (n + 22))) (L_Reader_parse_1s.1.2 (sem (n + 22))) bf [some (aR 109), some (aI (i : Int))] m = some (.inl (0, [some (aR 109), some (aI ((i + rs.length : Nat) : Int))], m2)) ∧ m2 109 3 = 0 ∧ clLs m2 S c i rs
  | 0, i, p, c, bf, m, hbf, hi, hI, hp, hc => by
    have hT := RdT_T255 (RdI_t hI)
    have t := kTk_len hT hL hp
    have tk := RdS_tok (RdI_s hI)
    have i9 : i = 9 := by omega
    subst i9
    obtain ⟨g, hg⟩ : ∃ g, bf = g + 1 := ⟨bf - 1, by omega⟩
    subst hg
    unfold pLs
    by_cases z : kTk T L p = 0
    · rw [if_pos z]
      exact ⟨Nat.le_refl _, m, frX_refl _ _ _ _, bLp_out (bIt_ex (ps_x (n + 22) m _ _ tk (Or.inl z))), by rw [tk]; exact z, trivial⟩
    · rw [if_neg z]
      exact ⟨t.2.2.1, m, frX_refl _ _ _ _, Or.inr ⟨bLp_out (bIt_ex (ps_x (n + 22) m _ _ tk (Or.inr ⟨z, by decide⟩))), by rw [tk]; exact z, RdS_frm (RdI_s hI)⟩⟩
  | k + 1, i, p, c, bf, m, hbf, hi, hI, hp, hc => by
    have hT := RdT_T255 (RdI_t hI)
    have t := kTk_len hT hL hp
    have tk := RdS_tok (RdI_s hI)
    obtain ⟨g, hg⟩ : ∃ g, bf = g + 1 := ⟨bf - 1, by omega⟩
    subst hg
    unfold pLs
    by_cases z : kTk T L p = 0
    · rw [if_pos z]
      exact ⟨by show i + 0 ≤ 9; omega, m, frX_refl _ _ _ _, bLp_out (bIt_ex (ps_x (n + 22) m _ _ tk (Or.inl z))), by rw [tk]; exact z, trivial⟩
    · rw [if_neg z]
      have i9 : i < 9 := by omega
      have i9' : (i : Int) < 9 := by omega
      have i31 : i < 2147483647 := by omega
      have kg : k < g := by omega
      have ik : i + 1 + k = 9 := by omega
      have cc := ps_c (n + 22) m (i : Int) _ tk z i9'
      obtain ⟨m1, u, e1, f1, r1⟩ := sp_parseLine n hS hL i c p i9 hI hp hc
      have gd := pLine_ok hT hL hp
      revert r1 gd
      cases pLine T L p with
      | inl f =>
        rintro ⟨r1, r2⟩ gd
        subst r1
        exact ⟨gd, m1, f1, Or.inl (bLp_ret (bIt_rt cc (ps_b0 (n + 22) m m1 (i : Int) 0 _ (f : Int) e1 rfl (Or.inl rfl) r2)))⟩
      | inr x =>
        obtain ⟨q, cs, nb⟩ := x
        rintro ⟨r1, i1, l1⟩ ⟨g1, g2, _⟩
        subst r1
        have tq := kTk_len hT hL (p := q) g2
        have tkq := RdS_tok (RdI_s i1)
        show match (if kTk T L q = 159 then (match pLs T L k (kE T L q) with | .inl f => (.inl f : Sum Nat (List (Int × Int × List Int))) | .inr rs => .inr ((kTk T L p, nb, cs) :: rs)) else .inl (kF T L q)) with | .inl f => _ | .inr rs => _
        by_cases y : kTk T L q = 159
        · rw [if_pos y]
          have c3 : 3 * (c + cs.length) ≤ kE T L q := by omega
          obtain ⟨m2, e2, f2, i2⟩ := sp_adv (n + 14) i1 g2
          have go := bIt_go cc (ps_b1 (n + 22) m m1 m2 (i : Int) ((i + 1 : Nat) : Int) _ e1 tkq y e2 (i32_s i31)) (ps_s (n + 22) m2 ((i + 1 : Nat) : Int))
          have ih := lp_ps n hS hL k (i + 1) (kE T L q) (c + cs.length) g m2 kg ik i2 tq.2.1 c3
          have F2 := frX_trans f1 (frX_P (i := i) f2) (Nat.le_add_right _ _) (Nat.le_refl _)
          rw [bLp_go go]
          revert ih
          cases pLs T L k (kE T L q) with
          | inl f =>
            rintro ⟨h0, m3, h1, h2⟩
            exact ⟨h0, m3, frX_trans F2 h1 (Nat.le_add_right _ _) (Nat.le_succ _), h2⟩
          | inr rs =>
            rintro ⟨h0, m3, h1, h2, h3, h4⟩
            refine ⟨by simp only [List.length_cons]; omega, m3, frX_trans F2 h1 (Nat.le_add_right _ _) (Nat.le_succ _), ?_, h3, clL_fr l1 (frX_trans (frX_P f2) h1 (Nat.le_refl _) (Nat.le_refl _)), h4⟩
            rw [show i + ((kTk T L p, nb, cs) :: rs).length = i + 1 + rs.length by simp only [List.length_cons]; omega]
            exact h2
        · rw [if_neg y]
          exact ⟨tq.2.2.1, m1, f1, Or.inl (bLp_ret (bIt_rt cc (ps_b0 (n + 22) m m1 (i : Int) 1 _ _ e1 tkq (Or.inr ⟨rfl, y⟩) (RdS_frm (RdI_s i1)))))⟩
/-- what read leaves of the class, but for the version in work -/
def frR2 (S : Nat) (m m2 : bM) : Prop := (∀ j, j ≠ 109 → j ≠ 70 → j ≠ 66 → j ≠ 67 → j ≠ 68 → j ≠ 69 → j ≠ 65 → m2 j = m j) ∧ (∀ k, k < 3 → m2 109 k = m 109 k) ∧ (∀ q, q < 80 * S → m2 70 q = m 70 q) ∧ (∀ j, 66 ≤ j → j ≤ 69 → ∀ q, q < 9 * S → m2 j q = m j q) ∧ ∀ q, q ≠ S → m2 65 q = m 65 q
theorem sp_parse (n : Nat) {T : Nat → Int} {L S : Nat} {m : bM} (hS : S ≤ 8) (hT : RdT T L m) (hs : m 63 7 = (S : Int)) : ∃ m2, frR2 S m m2 ∧ match pLs T L 9 0 with
    | .inl f => f ≤ L ∧ sem (n + 23) 157 [aR 109] m = some (m2, (f : Int))
    | .inr rs => rs.length ≤ 9 ∧ sem (n + 23) 157 [aR 109] m = some (m2, -1) ∧ m2 65 S = (rs.length : Int) ∧ clLs m2 S 0 0 rs := by
  have hL := RdT_L240 hT
  obtain ⟨m1, w1⟩ : ∃ m1, bwr m 109 7 (S : Int) = m1 := ⟨_, rfl⟩
  obtain ⟨m2, w2⟩ : ∃ m2, bwr m1 109 8 0 = m2 := ⟨_, rfl⟩
  obtain ⟨m3, w3⟩ : ∃ m3, bwr m2 109 5 0 = m3 := ⟨_, rfl⟩
  have o3 : ∀ j, j ≠ 109 → m3 j = m j := fun j h => by rw [← w3, bwr_ne _ _ h, ← w2, bwr_ne _ _ h, ← w1, bwr_ne _ _ h]
  have p3 : ∀ k, k < 3 → m3 109 k = m 109 k := fun k h => by rw [← w3, bwr_ne2 _ (by omega), ← w2, bwr_ne2 _ (by omega), ← w1, bwr_ne2 _ (by omega)]
  have v3 : m3 109 7 = (S : Int) := by rw [← w3, bwr_ne2 _ (by decide), ← w2, bwr_ne2 _ (by decide), ← w1, bwr_eq2]
  have c3 : m3 109 8 = ((0 : Nat) : Int) := by rw [← w3, bwr_ne2 _ (by decide), ← w2, bwr_eq2]; rfl
  have t3 : m3 109 5 = ((0 : Nat) : Int) := by rw [← w3, bwr_eq2]; rfl
  have hT3 : RdT T L m3 := ⟨by rw [p3 2 (by decide)]; exact RdT_len hT, fun k hk => by rw [o3 110 (by decide)]; exact RdT_tape hT k hk, hL, RdT_T255 hT⟩
  obtain ⟨m4, e4, f4, s4⟩ := sp_advance (n + 14) hT3 (Nat.zero_le _) t3
  have i4 : RdI T L S m4 0 0 := ⟨RdT_A hT3 f4, s4, by rw [f4.2 7 (by decide)]; exact v3, by rw [f4.2 8 (by decide)]; exact c3⟩
  have b9 : 9 < bF := Nat.le_of_ble_eq_true rfl
  have lp := lp_ps n hS hL 9 0 0 0 bF m4 b9 rfl i4 (Nat.zero_le _) (Nat.le_refl _)
  have fs : 0 ≤ (S : Int) ∧ (S : Int) < ((9 : Nat) : Int) := by omega
  have fr : ∀ {m5 m6 : bM} {i : Int}, frX S 0 0 m4 m5 → bwr m5 65 S i = m6 → frR2 S m m6 := fun h w => ⟨fun j a b c d e f g => by rw [← w, bwr_ne _ _ g, h.1 j a b c d e f, f4.1 j a, o3 j a], fun k hk => by rw [← w, bwr_ne _ _ (by decide), h.2.1 k (Or.inl hk), f4.2 k (Or.inl hk), p3 k hk], fun q hq => by rw [← w, bwr_ne _ _ (by decide), h.2.2.1 q hq, f4.1 70 (by decide), o3 70 (by decide)], fun j a b q hq => by rw [← w, bwr_ne _ _ (by omega), h.2.2.2 j a b q hq, f4.1 j (by omega), o3 j (by omega)], fun q hq => by rw [← w, bwr_ne2 _ hq, h.1 65 (by decide) (by decide) (by decide) (by decide) (by decide) (by decide), f4.1 65 (by decide), o3 65 (by decide)]⟩
  have fr0 : ∀ {m5 : bM}, frX S 0 0 m4 m5 → frR2 S m m5 := fun h => ⟨fun j a b c d e f g => by rw [h.1 j a b c d e f, f4.1 j a, o3 j a], fun k hk => by rw [h.2.1 k (Or.inl hk), f4.2 k (Or.inl hk), p3 k hk], fun q hq => by rw [h.2.2.1 q hq, f4.1 70 (by decide), o3 70 (by decide)], fun j a b q hq => by rw [h.2.2.2 j a b q hq, f4.1 j (by omega), o3 j (by omega)], fun q hq => by rw [h.1 65 (by decide) (by decide) (by decide) (by decide) (by decide) (by decide), f4.1 65 (by decide), o3 65 (by decide)]⟩
  revert lp
  cases pLs T L 9 0 with
  | inl f =>
    rintro ⟨h0, m5, h1, h2 | ⟨h2, h3, h4⟩⟩
    · exact ⟨m5, fr0 h1, h0, ps_e (n + 22) m m1 m2 m3 m4 m4 m5 _ (f : Int) 0 _ 0 S _ hs w1 w2 w3 e4 (sLp_of (L := L_Reader_parse_1) rfl h2) (Or.inl ⟨rfl, rfl⟩)⟩
    · obtain ⟨m6, w6⟩ : ∃ m6, bwr m5 65 S 9 = m6 := ⟨_, rfl⟩
      exact ⟨m6, fr h1 w6, h0, ps_e (n + 22) m m1 m2 m3 m4 m5 m6 _ (f : Int) _ _ 9 S _ hs w1 w2 w3 e4 (sLp_of (L := L_Reader_parse_1) rfl h2) (Or.inr ⟨rfl, by rw [h1.2.1 7 (by decide), f4.2 7 (by decide)]; exact v3, fs, tnc S, w6, rfl, Or.inr ⟨by rw [← w6, bwr_ne _ _ (by decide)]; exact h3, by rw [← w6, bwr_ne _ _ (by decide)]; exact h4, rfl⟩⟩)⟩
  | inr rs =>
    rintro ⟨h0, m5, h1, h2, h3, h4⟩
    rw [Nat.zero_add] at h0 h2
    obtain ⟨m6, w6⟩ : ∃ m6, bwr m5 65 S (rs.length : Int) = m6 := ⟨_, rfl⟩
    refine ⟨m6, fr h1 w6, h0, ps_e (n + 22) m m1 m2 m3 m4 m5 m6 _ 0 _ _ (rs.length : Int) S _ hs w1 w2 w3 e4 (sLp_of (L := L_Reader_parse_1) rfl h2) (Or.inr ⟨rfl, by rw [h1.2.1 7 (by decide), f4.2 7 (by decide)]; exact v3, fs, tnc S, w6, rfl, Or.inl ⟨by rw [← w6, bwr_ne _ _ (by decide)]; exact h3, rfl⟩⟩), by rw [← w6, bwr_eq2], ?_⟩
    have o6 : ∀ j, j ≠ 65 → m6 j = m5 j := fun j a => by rw [← w6, bwr_ne _ _ a]
    have gen : ∀ (l : List (Int × Int × List Int)) (c i : Nat), clLs m5 S c i l → clLs m6 S c i l := fun l => by
      induction l with
      | nil => intro _ _ _; trivial
      | cons r l ih =>
        intro c i h
        refine ⟨?_, ih _ _ h.2⟩
        have := h.1
        unfold clL at this ⊢
        rw [o6 66 (by decide), o6 67 (by decide), o6 68 (by decide), o6 69 (by decide), o6 70 (by decide)]
        exact this
    exact gen rs 0 0 h4
