/-! ===== read: the reference's one, all, any, contracts ===== -/
def rRes (T : Nat → Int) (L S c : Nat) (o : Int) (m : bM) (r : pR) (m2 : bM) : Prop := frQ S c m m2 ∧ match r with
  | .inl f => m2 132 71 = (f : Int)
  | .inr (q, cs) => RfI T L S m2 q (c + cs.length) o ∧ opAt m2 (80 * S + c) cs
def cOneR (T : Nat → Int) (L S N : Nat) (o : Int) (A : Option (Nat → pR)) : Prop := ∀ (m : bM) (p c : Nat), RfI T L S m p c o → p ≤ L → 3 * c ≤ p → ∃ m2, sem N 330 [aR 132] m = some (m2, 0) ∧ rRes T L S c o m (pOne T L A p) m2
def cAnyR (T : Nat → Int) (L S N : Nat) (o : Int) (a : Nat → pR) : Prop := ∀ (m : bM) (p c : Nat), RfI T L S m p c o → p ≤ L → 3 * c ≤ p → ∃ m2, sem N 287 [aR 132] m = some (m2, 0) ∧ rRes T L S c o m (a p) m2
theorem nn_f {f : Nat} : ¬ ((f : Nat) : Int) < 0 := by omega
section
variable {T : Nat → Int} {L S : Nat}
/-! in a bad state nothing happens -/
theorem one_bad (n : Nat) {m : bM} (f : Int) (hf : m 132 71 = f) (h : ¬ f < 0) : sem (n + 9) 330 [aR 132] m = some (m, 0) := by
  have l := lp_out (c := L_M_one_1c.1.2 (sem (n + 8))) (b := L_M_one_1b.1.2 (sem (n + 8))) (s := L_M_one_1s.1.2 (sem (n + 8))) (fun _ => [some (aR 132), some (aI 0), none, none]) (fun _ => m) 0 (by decide) (fun k hk => absurd hk (Nat.not_lt_zero _)) (bIt_ex (mo_x (n + 8) m m 0 none none (sp_mayb (n + 7) 10631 f hf h)))
  exact mo_e (n + 8) m m m m m 0 (-1) none (sLp_of (L := L_M_one_1) rfl l) (sp_factHereb (n + 3) f hf h) (mo_b5 (n + 8) m m 0 0 0 (sp_mayb (n + 7) _ f hf h) (sp_mayb (n + 7) _ f hf h) (sp_isSignb (n + 7) _ f hf h) (Or.inl rfl) (fa_0 (n + 7) m f hf h)) (mo_t (n + 8) m m 0 _ _ (Or.inl ⟨rfl, rfl⟩))
theorem all_lbad (n : Nat) {m : bM} (f : Int) (hf : m 132 71 = f) (h : ¬ f < 0) (bf : Nat) : bLp (L_M_all_1c.1.2 (sem (n + 1))) (L_M_all_1b.1.2 (sem (n + 1))) (L_M_all_1s.1.2 (sem (n + 1))) (bf + 1) [some (aR 132)] m = some (.inl (0, [some (aR 132)], m)) := bLp_out (bIt_ex (al_x (n + 1) m m (sp_mayb n _ f hf h)))
theorem any_lbad (n : Nat) {m : bM} (f : Int) (hf : m 132 71 = f) (h : ¬ f < 0) (bf : Nat) : bLp (L_M_any_1c.1.2 (sem (n + 1))) (L_M_any_1b.1.2 (sem (n + 1))) (L_M_any_1s.1.2 (sem (n + 1))) (bf + 1) [some (aR 132)] m = some (.inl (0, [some (aR 132)], m)) := bLp_out (bIt_ex (an_x (n + 1) m m (sp_mayb n _ f hf h)))
theorem all_bad (n : Nat) {m : bM} (f : Int) (hf : m 132 71 = f) (h : ¬ f < 0) : sem (n + 10) 322 [aR 132] m = some (m, 0) := al_e (n + 9) m m m (one_bad n f hf h) (sLp_of (L := L_M_all_1) rfl (all_lbad (n + 8) f hf h 999))
theorem any_bad (n : Nat) {m : bM} (f : Int) (hf : m 132 71 = f) (h : ¬ f < 0) : sem (n + 11) 287 [aR 132] m = some (m, 0) := an_e (n + 10) m m m (all_bad n f hf h) (sLp_of (L := L_M_any_1) rfl (any_lbad (n + 9) f hf h 999))
/-! one -/
theorem lp_mo (n : Nat) (o : Int) : ∀ (k p c bf : Nat) (b : Bool) (m : bM), k < bf → 240 - p < k → p ≤ L → RfI T L S m p c o → ∃ m2, bLp (L_M_one_1c.1.2 (sem (n + 4))) (L_M_one_1b.1.2 (sem (n + 4))) (L_M_one_1s.1.2 (sem (n + 4))) bf [some (aR 132), some (aI (if b = true then 1 else 0)), none, none] m = some (.inl (0, [some (aR 132), some (aI (if (pNot T L k p b).1 = true then 1 else 0)), none, none], m2)) ∧ frQ S c m m2 ∧ RfI T L S m2 (pNot T L k p b).2 c o
  | 0, p, _, _, _, _, _, h, _, _ => absurd h (Nat.not_lt_zero _)
  | k + 1, p, c, bf, b, m, hbf, hk, hp, hI => by
    have hT := RfT_T255 (RfI_t hI)
    have hL := RfT_L240 (RfI_t hI)
    have t := kTk_len hT hL hp
    have w := tk_w hT hL p (i := 9) (by decide) wCd_9
    obtain ⟨g, hg⟩ : ∃ g, bf = g + 1 := ⟨bf - 1, by omega⟩
    subst hg
    by_cases z : kTk T L p = 9
    · have e : pNot T L (k + 1) p b = pNot T L k (kE T L p) (!b) := by
        show (if kTk T L p = 9 then _ else _) = _
        rw [if_pos z]
      rw [e]
      have kg : k < g := by omega
      have k1 : 240 - kE T L p < k := by omega
      obtain ⟨m1, e1, f1, i1⟩ := sp_may1 n hI hp 10631 (w.mp z).1 (w.mp z).2
      obtain ⟨m2, e2, f2, i2⟩ := lp_mo n o k (kE T L p) c g (!b) m1 kg k1 t.2.1 i1
      have hb : ((if b = true then (1 : Int) else 0) = 0 ∧ (if (!b) = true then (1 : Int) else 0) = 1) ∨ ((if b = true then (1 : Int) else 0) = 1 ∧ (if (!b) = true then (1 : Int) else 0) = 0) := by
        cases b with
        | false => exact Or.inl ⟨rfl, rfl⟩
        | true => exact Or.inr ⟨rfl, rfl⟩
      refine ⟨m2, ?_, frQ_trans f1 f2 (Nat.le_refl _), i2⟩
      rw [bLp_go (bIt_go (mo_c (n + 4) m m1 _ none none e1) (mo_b (n + 4) m1 _ _ none none hb) (mo_s (n + 4) m1 _ none none))]
      exact e2
    · have e : pNot T L (k + 1) p b = (b, p) := by
        show (if kTk T L p = 9 then _ else _) = _
        rw [if_neg z]
      rw [e]
      exact ⟨m, bLp_out (bIt_ex (mo_x (n + 4) m m _ none none (sp_may0 (n + 3) hI 10631 (fun q => z (w.mpr q))))), frQ_refl _ _ _, hI⟩
theorem opR_c {a b w : Int} (ha : 12 ≤ a ∧ a ≤ 17) (hb : b = 60 ∨ b = 61 ∨ b = 62) (hw : 0 ≤ w ∧ w ≤ 999) : opRel (a + 256 * b + 65536 * w) (a - 12) b w := by
  unfold opRel
  refine Or.inr (Or.inr (Or.inr (Or.inr (Or.inr ⟨by omega, by omega, hb, hw.1, hw.2, by omega⟩))))
theorem opR_f : opRel 10 6 0 0 ∧ opRel 11 7 0 0 ∧ opRel 9 10 0 0 ∧ opRel 8 9 0 0 ∧ opRel 7 8 0 0 := by
  unfold opRel
  omega
/-- the part behind a fact -/
theorem sp_moCmp (n : Nat) (hS : S ≤ 8) (o b : Int) {m : bM} {p c : Nat} (hI : RfI T L S m (kE T L p) c o) (hp : p ≤ L) (hc : 3 * c ≤ p) (hk : 12 ≤ kTk T L p ∧ kTk T L p ≤ 17) : ∃ m2 s, Q_moB.1.2 (sem (n + 8)) [some (aR 132), some (aI b), some (aI (kTk T L p - 12)), none] m = some (.inl (0, [some (aR 132), some (aI b), some (aI (kTk T L p - 12)), some (aI s)], m2)) ∧ rRes T L S c o m (pCmp T L p) m2 := by
  have hT := RfT_T255 (RfI_t hI)
  have hL := RfT_L240 (RfI_t hI)
  have t1 := kTk_len hT hL hp
  have c80 : c < 80 := by omega
  have k12 : 0 ≤ kTk T L p - 12 := by omega
  unfold pCmp
  obtain ⟨p1, hp1⟩ : ∃ p1, kE T L p = p1 := ⟨_, rfl⟩
  rw [hp1] at hI t1 ⊢
  have t2 := kTk_len hT hL (p := p1) t1.2.1
  have w0 := tk_s hT hL p1 (s := 60) (by decide)
  have w1 := tk_s hT hL p1 (s := 61) (by decide)
  have w2 := tk_s hT hL p1 (s := 62) (by decide)
  have g0 := sp_isSign (n + 7) hI 60
  have g1 := sp_isSign (n + 7) hI 61
  have g2 := sp_isSign (n + 7) hI 62
  have wth := RfS_wth (RfI_s hI)
  by_cases z : kTk T L p1 = 160 ∨ kTk T L p1 = 161 ∨ kTk T L p1 = 162
  · rw [if_pos z]
    obtain ⟨s, hs1, hs2, hs3⟩ : ∃ s, kTk T L p1 = 100 + s ∧ (s = 60 ∨ s = 61 ∨ s = 62) ∧ (kK T L p1 = 3 ∧ kW T L p1 = s) := by
      rcases z with z | z | z
      · exact ⟨60, z, Or.inl rfl, w0.mp z⟩
      · exact ⟨61, z, Or.inr (Or.inl rfl), w1.mp z⟩
      · exact ⟨62, z, Or.inr (Or.inr rfl), w2.mp z⟩
    have i32s : i32 (kW T L p1) = s := by rw [hs3.2]; exact i32_of (by omega) (by omega)
    have hs : ∀ a0 a1 a2 : Int, (if kK T L p1 = 3 ∧ kW T L p1 = 60 then (1 : Int) else 0) = a0 → (if kK T L p1 = 3 ∧ kW T L p1 = 61 then (1 : Int) else 0) = a1 → (if kK T L p1 = 3 ∧ kW T L p1 = 62 then (1 : Int) else 0) = a2 → (a0 = 1 ∧ i32 (kW T L p1) = s) ∨ (a0 = 0 ∧ a1 = 1 ∧ i32 (kW T L p1) = s) ∨ (a0 = 0 ∧ a1 = 0 ∧ a2 = 1 ∧ i32 (kW T L p1) = s) ∨ (a0 = 0 ∧ a1 = 0 ∧ a2 = 0 ∧ s = -1) := by
      intro a0 a1 a2 h0 h1 h2
      subst h0 h1 h2
      rw [hs3.1, hs3.2] at *
      rcases hs2 with h | h | h
      · subst h; exact Or.inl ⟨rfl, i32s⟩
      · subst h; exact Or.inr (Or.inl ⟨rfl, rfl, i32s⟩)
      · subst h; exact Or.inr (Or.inr (Or.inl ⟨rfl, rfl, rfl, i32s⟩))
    obtain ⟨m2, e3, f3, i3⟩ := sp_mustSign1 (n + 4) hI t1.2.1 s hs3
    obtain ⟨p2, hp2⟩ : ∃ p2, kE T L p1 = p2 := ⟨_, rfl⟩
    rw [hp2] at i3 t2 ⊢
    by_cases y : kK T L p2 = 2 ∧ kW T L p2 ≤ 999
    · rw [if_pos y]
      have wn := kW_num hL y.1
      have wb := wn.2.1 (w3n wn.2.2 y.2)
      obtain ⟨m3, e4, f4, i4⟩ := sp_number1 (n + 4) i3 t2.2.1 999 (by decide) y
      have hx := opR_c hk hs2 wb
      obtain ⟨m4, e5, f5, i5, o5⟩ := sp_does (n + 7) i4 hS c80 (kTk T L p - 12) s (kW T L p2) _ hx
      refine ⟨m4, s, mo_b1 (n + 8) m m2 m3 m4 b _ _ _ _ _ s _ k12 g0 g1 g2 wth (hs _ _ _ rfl rfl rfl) e3 e4 e5, frQ_trans (frQ_trans f3 f4 (Nat.le_refl _)) f5 (Nat.le_refl _), i5, ?_⟩
      rw [show kTk T L p1 - 100 = s by omega]
      exact o5
    · rw [if_neg y]
      obtain ⟨m3, e4, f4, b4⟩ := sp_number0 (n + 4) i3 999 y
      exact ⟨m3, s, mo_b1 (n + 8) m m2 m3 m3 b _ _ _ _ _ s _ k12 g0 g1 g2 wth (hs _ _ _ rfl rfl rfl) e3 e4 (do_0 (n + 7) m3 _ _ _ _ b4 nn_f), frQ_trans f3 f4 (Nat.le_refl _), b4⟩
  · rw [if_neg z]
    have n0 : ¬ (kK T L p1 = 3 ∧ kW T L p1 = 60) := fun q => z (Or.inl (w0.mpr q))
    have n1 : ¬ (kK T L p1 = 3 ∧ kW T L p1 = 61) := fun q => z (Or.inr (Or.inl (w1.mpr q)))
    have n2 : ¬ (kK T L p1 = 3 ∧ kW T L p1 = 62) := fun q => z (Or.inr (Or.inr (w2.mpr q)))
    rw [if_neg n0] at g0
    rw [if_neg n1] at g1
    rw [if_neg n2] at g2
    have nm : ¬ (kK T L p1 = 3 ∧ kW T L p1 = -1) := fun q => by
      rcases kTk_in hT hL p1 with ⟨a, _⟩ | ⟨a, _⟩ | ⟨a, _⟩ | ⟨_, _, a, _⟩
      · rw [q.1] at a; exact absurd a (by decide)
      · rw [q.1] at a; exact absurd a (by decide)
      · rw [q.1] at a; exact absurd a (by decide)
      · rw [q.2] at a; exact absurd a (by decide)
    obtain ⟨m2, e3, f3, b3⟩ := sp_mustSign0 (n + 4) hI (-1) nm
    exact ⟨m2, -1, mo_b1 (n + 8) m m2 m2 m2 b _ _ _ _ _ (-1) _ k12 g0 g1 g2 wth (Or.inr (Or.inr (Or.inr ⟨rfl, rfl, rfl, rfl⟩))) e3 (sp_numberb (n + 4) 999 _ b3 nn_f) (do_0 (n + 7) m2 _ _ _ _ b3 nn_f), f3, b3⟩
theorem sp_moBase (n : Nat) (hS : S ≤ 8) (o b : Int) (A : Option (Nat → pR)) (ho : (A = none ∧ o = 4) ∨ (∃ a, A = some a ∧ 0 ≤ o ∧ o < 4 ∧ cAnyR T L S (n + 8) (o + 1) a ∧ ∃ B, ∀ p, p ≤ L → pGood T L B p (a p))) {m : bM} {p c : Nat} (hI : RfI T L S m p c o) (hp : p ≤ L) (hc : 3 * c ≤ p) : ∃ m1 m2 k y, sem (n + 8) 332 [aR 132] m = some (m1, k) ∧ Q_moB.1.2 (sem (n + 8)) [some (aR 132), some (aI b), some (aI k), none] m1 = some (.inl (0, [some (aR 132), some (aI b), some (aI k), y], m2)) ∧ rRes T L S c o m (pBase T L A p) m2 := by
  have hT := RfT_T255 (RfI_t hI)
  have hL := RfT_L240 (RfI_t hI)
  have t := kTk_len hT hL hp
  have w10 := tk_w hT hL p (i := 10) (by decide) wCd_10
  have w11 := tk_w hT hL p (i := 11) (by decide) wCd_11
  have w40 := tk_s hT hL p (s := 40) (by decide)
  unfold pBase
  by_cases z1 : kTk T L p = 10 ∨ kTk T L p = 11
  · rw [if_pos z1]
    have nk : ¬ (12 ≤ kTk T L p ∧ kTk T L p ≤ 17) := by omega
    have c80 : c < 80 := by omega
    have e0 := sp_factHere0 (n + 3) hI nk
    rcases z1 with z1 | z1
    · obtain ⟨m1, e1, f1, i1⟩ := sp_may1 (n + 4) hI hp 122079 (w10.mp z1).1 (w10.mp z1).2
      obtain ⟨m2, e2, f2, i2, o2⟩ := sp_does (n + 7) i1 hS c80 6 0 0 10 opR_f.1
      refine ⟨m, m2, -1, none, e0, mo_b2 (n + 8) m m1 m2 b e1 e2, frQ_trans f1 f2 (Nat.le_refl _), i2, ?_⟩
      rw [z1]; exact o2
    · have e1 := sp_may0 (n + 7) hI 122079 (fun q => by have := w10.mpr q; omega)
      obtain ⟨m1, e2, f1, i1⟩ := sp_may1 (n + 4) hI hp 3499582 (w11.mp z1).1 (w11.mp z1).2
      obtain ⟨m2, e3, f2, i2, o2⟩ := sp_does (n + 7) i1 hS c80 7 0 0 11 opR_f.2.1
      refine ⟨m, m2, -1, none, e0, mo_b3 (n + 8) m m1 m2 b e1 e2 e3, frQ_trans f1 f2 (Nat.le_refl _), i2, ?_⟩
      rw [z1]; exact o2
  · rw [if_neg z1]
    by_cases z2 : 12 ≤ kTk T L p ∧ kTk T L p ≤ 17
    · rw [if_pos z2]
      obtain ⟨m1, e1, f1, i1⟩ := sp_factHere1 (n + 3) hI hp z2
      obtain ⟨m2, s, e2, f2, r2⟩ := sp_moCmp n hS o b i1 hp hc z2
      exact ⟨m1, m2, _, _, e1, e2, frQ_trans f1 f2 (Nat.le_refl _), r2⟩
    · rw [if_neg z2]
      have e0 := sp_factHere0 (n + 3) hI z2
      have e1 := sp_may0 (n + 7) hI 122079 (fun q => z1 (Or.inl (w10.mpr q)))
      have e2 := sp_may0 (n + 7) hI 3499582 (fun q => z1 (Or.inr (w11.mpr q)))
      have e3 := sp_isSign (n + 7) hI 40
      by_cases z3 : kTk T L p = 140
      · rw [if_pos z3]
        rw [if_pos (w40.mp z3)] at e3
        rcases ho with ⟨h1, h2⟩ | ⟨a, h1, h2, h3, h4, B, h5⟩
        · subst h1 h2
          obtain ⟨m2, e4, f4, b4⟩ := sp_fails1 (n + 7) hI
          exact ⟨m, m2, -1, none, e0, mo_b5 (n + 8) m m2 b 4 1 e1 e2 e3 (Or.inr ⟨rfl, RfI_o hI, by decide⟩) e4, f4, b4⟩
        · subst h1
          have io : i32 (o + 1) = o + 1 := i32_of (by omega) (by omega)
          have k1 := t.2.2.2.1 (by omega)
          have c3 : 3 * c ≤ kE T L p := by omega
          obtain ⟨mw, ww⟩ : ∃ mw, bwr m 132 72 (o + 1) = mw := ⟨_, rfl⟩
          have fw : frQ S c m mw := by rw [← ww]; exact frQ_w (by decide)
          have gw : ∀ k, k ≠ 72 → mw 132 k = m 132 k := fun k hk => by rw [← ww, bwr_ne2 _ hk]
          have gc : ∀ j, j ≠ 132 → mw j = m j := fun j hj => by rw [← ww, bwr_ne _ _ hj]
          obtain ⟨s1, s2, s3, s4⟩ := RfI_s hI
          have iw : RfI T L S mw p c (o + 1) := RfI_of hI fw ⟨by rw [gw _ (by decide)]; exact s1, by rw [gw _ (by decide)]; exact s2, by rw [gw _ (by decide)]; exact s3, by rw [gw _ (by decide)]; exact s4⟩ (by rw [gw _ (by decide)]; exact RfI_f hI) (by rw [gc 164 (by decide)]; exact RfI_c hI) (by rw [← ww, bwr_eq2])
          obtain ⟨m2, e4, f4, i4⟩ := sp_nxt (n + 5) iw hp
          obtain ⟨m3, e5, f5, r5⟩ := h4 m2 (kE T L p) c i4 t.2.1 c3
          have g := h5 (kE T L p) t.2.1
          have F5 := frQ_trans (frQ_trans fw f4 (Nat.le_refl _)) f5 (Nat.le_refl _)
          show ∃ m1 m2 k y, _ ∧ _ ∧ rRes T L S c o m (match a (kE T L p) with | .inl f => .inl f | .inr (q, cs) => if kTk T L q = 141 then .inr (kE T L q, cs) else .inl (kF T L q)) m2
          have bad : ∀ {m4 : bM} {f : Nat}, frQ S c m m4 → m4 132 71 = (f : Int) → sem (n + 8) 288 [aR 132, aI 41] m3 = some (m4, 0) → ∃ m1 m2 k y, sem (n + 8) 332 [aR 132] m = some (m1, k) ∧ Q_moB.1.2 (sem (n + 8)) [some (aR 132), some (aI b), some (aI k), none] m1 = some (.inl (0, [some (aR 132), some (aI b), some (aI k), y], m2)) ∧ frQ S c m m2 ∧ m2 132 71 = (f : Int) := fun {m4 f} f6 b6 e6 => by
            obtain ⟨m5, w5⟩ : ∃ m5, bwr m4 132 72 (i32 (m4 132 72 - 1)) = m5 := ⟨_, rfl⟩
            exact ⟨m, m5, -1, none, e0, mo_b4 (n + 8) m mw m2 m3 m4 m5 b o (o + 1) _ _ e1 e2 e3 (RfI_o hI) h3 io ww e4 e5 e6 rfl rfl w5, frQ_trans f6 (by rw [← w5]; exact frQ_w (by decide)) (Nat.le_refl _), by rw [← w5, bwr_ne2 _ (by decide)]; exact b6⟩
          revert r5 g
          cases a (kE T L p) with
          | inl f =>
            intro r5 _
            exact bad F5 r5 (sp_mustSignb (n + 4) 41 _ r5 nn_f)
          | inr x =>
            obtain ⟨q, cs⟩ := x
            rintro ⟨i5, o5⟩ ⟨g1, g2, _, _⟩
            have w41 := tk_s hT hL q (s := 41) (by decide)
            show ∃ m1 m2 k y, _ ∧ _ ∧ rRes T L S c o m (if kTk T L q = 141 then .inr (kE T L q, cs) else .inl (kF T L q)) m2
            by_cases y : kTk T L q = 141
            · rw [if_pos y]
              obtain ⟨m4, e6, f6, i6⟩ := sp_mustSign1 (n + 4) i5 g2 41 (w41.mp y)
              obtain ⟨m5, w5⟩ : ∃ m5, bwr m4 132 72 o = m5 := ⟨_, rfl⟩
              have io2 : i32 (o + 1 - 1) = o := by rw [i32_of (by omega) (by omega)]; omega
              have f7 : frQ S (c + cs.length) m4 m5 := by rw [← w5]; exact frQ_w (by decide)
              have gv : ∀ k, k ≠ 72 → m5 132 k = m4 132 k := fun k hk => by rw [← w5, bwr_ne2 _ hk]
              have gd : ∀ j, j ≠ 132 → m5 j = m4 j := fun j hj => by rw [← w5, bwr_ne _ _ hj]
              obtain ⟨v1, v2, v3, v4⟩ := RfI_s i6
              refine ⟨m, m5, -1, none, e0, mo_b4 (n + 8) m mw m2 m3 m4 m5 b o (o + 1) (o + 1) o e1 e2 e3 (RfI_o hI) h3 io ww e4 e5 e6 (RfI_o i6) io2 w5, frQ_trans F5 (frQ_trans f6 f7 (Nat.le_refl _)) (Nat.le_add_right _ _), RfI_of i6 f7 ⟨by rw [gv _ (by decide)]; exact v1, by rw [gv _ (by decide)]; exact v2, by rw [gv _ (by decide)]; exact v3, by rw [gv _ (by decide)]; exact v4⟩ (by rw [gv _ (by decide)]; exact RfI_f i6) (by rw [gd 164 (by decide)]; exact RfI_c i6) (by rw [← w5, bwr_eq2]), opAt_fr o5 (fun j u v x hx => by rw [gd j (by omega), f6.2.2.2 j u v x (by omega)])⟩
            · rw [if_neg y]
              obtain ⟨m4, e6, f6, b6⟩ := sp_mustSign0 (n + 4) i5 41 (fun q => y (w41.mpr q))
              exact bad (frQ_trans F5 f6 (Nat.le_add_right _ _)) b6 e6
      · rw [if_neg z3]
        rw [if_neg (fun q => z3 (w40.mpr q))] at e3
        obtain ⟨m2, e4, f4, b4⟩ := sp_fails1 (n + 7) hI
        exact ⟨m, m2, -1, none, e0, mo_b5 (n + 8) m m2 b 0 0 e1 e2 e3 (Or.inl rfl) e4, f4, b4⟩
theorem sp_one (n : Nat) (hS : S ≤ 8) (hL : L ≤ 240) (o : Int) (A : Option (Nat → pR)) (ho : (A = none ∧ o = 4) ∨ (∃ a, A = some a ∧ 0 ≤ o ∧ o < 4 ∧ cAnyR T L S (n + 8) (o + 1) a ∧ ∃ B, ∀ p, p ≤ L → pGood T L B p (a p))) (hA : ∃ B, 1 ≤ B ∧ ∀ a, A = some a → ∀ p, p ≤ L → pGood T L B p (a p)) : cOneR T L S (n + 9) o A := fun m p c hI hp hc => by
  have hT := RfT_T255 (RfI_t hI)
  have b241 : 241 < bF := Nat.le_of_ble_eq_true rfl
  obtain ⟨m1, e1, f1, i1⟩ := lp_mo (n + 4) o 241 p c bF false m b241 (by omega) hp hI
  have e1 := sLp_of (L := L_M_one_1) rfl e1
  have nt := pNot_ok hT hL 241 p false hp
  obtain ⟨bb, hbb⟩ : ∃ bb, (pNot T L 241 p false).1 = bb := ⟨_, rfl⟩
  obtain ⟨p1, hp1⟩ : ∃ p1, (pNot T L 241 p false).2 = p1 := ⟨_, rfl⟩
  have eOne : pOne T L A p = if bb = true then pPut 9 (pBase T L A p1) else pBase T L A p1 := by
    unfold pOne
    rw [hbb, hp1]
  rw [hbb] at e1 nt
  rw [hp1] at i1 nt
  rw [eOne]
  have p1L := nt.2.1
  have c1 : 3 * c ≤ p1 := by omega
  obtain ⟨m2, m3, k, y, e2, e3, f3, r3⟩ := sp_moBase n hS o (if bb = true then 1 else 0) A ho i1 p1L c1
  obtain ⟨B, hB, hA⟩ := hA
  have g := pBase_ok hT hL hB hA p1L
  have F3 := frQ_trans f1 f3 (Nat.le_refl _)
  revert r3 g
  cases pBase T L A p1 with
  | inl f =>
    intro r3 _
    cases bb with
    | false => exact ⟨m3, mo_e (n + 8) m m1 m2 m3 m3 0 k y e1 e2 e3 (mo_t (n + 8) m3 m3 0 _ _ (Or.inl ⟨rfl, rfl⟩)), F3, r3⟩
    | true => exact ⟨m3, mo_e (n + 8) m m1 m2 m3 m3 1 k y e1 e2 e3 (mo_t (n + 8) m3 m3 1 _ _ (Or.inr ⟨rfl, do_0 (n + 7) m3 _ _ _ _ r3 nn_f⟩)), F3, r3⟩
  | inr x =>
    obtain ⟨q, cs⟩ := x
    rintro ⟨i3, o3⟩ ⟨g1, g2, _, _⟩
    cases bb with
    | false => exact ⟨m3, mo_e (n + 8) m m1 m2 m3 m3 0 k y e1 e2 e3 (mo_t (n + 8) m3 m3 0 _ _ (Or.inl ⟨rfl, rfl⟩)), F3, i3, o3⟩
    | true =>
      have n3 := nt.2.2 (by decide)
      have c80 : c + cs.length < 80 := by omega
      obtain ⟨m4, e4, f4, i4, o4⟩ := sp_does (n + 7) i3 hS c80 10 0 0 9 opR_f.2.2.1
      have le : (cs ++ [(9 : Int)]).length = cs.length + 1 := by simp
      refine ⟨m4, mo_e (n + 8) m m1 m2 m3 m4 1 k y e1 e2 e3 (mo_t (n + 8) m3 m4 1 _ _ (Or.inr ⟨rfl, e4⟩)), frQ_trans F3 f4 (Nat.le_add_right _ _), ?_, ?_⟩
      · rw [le]; exact i4
      · refine opAt_app (opAt_fr o3 (fun j u v x hx => f4.2.2.2 j u v x (by omega))) ?_
        rw [Nat.add_assoc]
        exact o4
/-! all, any -/
theorem lp_al (n : Nat) (hS : S ≤ 8) (hL : L ≤ 240) (o : Int) {A : Option (Nat → pR)} {B : Int} (hC : cOneR T L S (n + 9) o A) (hG : ∀ p, p ≤ L → pGood T L B p (pOne T L A p)) : ∀ (k p c bf : Nat) (m : bM), k < bf → 240 - p < k → p ≤ L → RfI T L S m p c o → 3 * c ≤ p → ∃ m2, bLp (L_M_all_1c.1.2 (sem (n + 9))) (L_M_all_1b.1.2 (sem (n + 9))) (L_M_all_1s.1.2 (sem (n + 9))) (bf + 1) [some (aR 132)] m = some (.inl (0, [some (aR 132)], m2)) ∧ rRes T L S c o m (pAnds T L (pOne T L A) k p) m2
  | 0, p, _, _, _, _, h, _, _, _ => absurd h (Nat.not_lt_zero _)
  | k + 1, p, c, bf, m, hbf, hk, hp, hI, hc => by
    have hT := RfT_T255 (RfI_t hI)
    have t := kTk_len hT hL hp
    have w := tk_w hT hL p (i := 8) (by decide) wCd_8
    obtain ⟨g, hg⟩ : ∃ g, bf = g + 1 := ⟨bf - 1, by omega⟩
    subst hg
    unfold pAnds
    by_cases z : kTk T L p = 8
    · rw [if_pos z]
      have k3 := t.2.2.2.2.2.1 z
      have c1 : 3 * c ≤ kE T L p := by omega
      have kg : k < g := by omega
      obtain ⟨m1, e1, f1, i1⟩ := sp_may1 (n + 5) hI hp 1111 (w.mp z).1 (w.mp z).2
      obtain ⟨m2, e2, f2, r2⟩ := hC m1 (kE T L p) c i1 t.2.1 c1
      have gd := hG (kE T L p) t.2.1
      have F2 := frQ_trans f1 f2 (Nat.le_refl _)
      revert r2 gd
      cases pOne T L A (kE T L p) with
      | inl f =>
        intro r2 _
        have go := bIt_go (al_c (n + 9) m m1 e1) (al_b (n + 9) m1 m2 m2 e2 (do_0 (n + 8) m2 _ _ _ _ r2 nn_f)) (al_s (n + 9) m2)
        refine ⟨m2, ?_, F2, r2⟩
        rw [bLp_go go]
        exact all_lbad (n + 8) _ r2 nn_f g
      | inr x =>
        obtain ⟨q, cs⟩ := x
        rintro ⟨i2, o2⟩ ⟨g1, g2, _, _⟩
        have c80 : c + cs.length < 80 := by omega
        have q1 : 240 - q < k := by omega
        have q3 : 3 * (c + cs.length + 1) ≤ q := by omega
        obtain ⟨m3, e3, f3, i3, o3⟩ := sp_does (n + 8) i2 hS c80 9 0 0 8 opR_f.2.2.2.1
        have go := bIt_go (al_c (n + 9) m m1 e1) (al_b (n + 9) m1 m2 m3 e2 e3) (al_s (n + 9) m3)
        obtain ⟨m4, e4, r4⟩ := lp_al n hS hL o hC hG k q (c + cs.length + 1) g m3 kg q1 g2 i3 q3
        have F3 := frQ_trans F2 f3 (Nat.le_add_right _ _)
        have le : (cs ++ [(8 : Int)]).length = cs.length + 1 := by simp
        have od : opAt m3 (80 * S + c) (cs ++ [8]) := opAt_app (opAt_fr o2 (fun j u v x hx => f3.2.2.2 j u v x (by omega))) (by rw [Nat.add_assoc]; exact o3)
        refine ⟨m4, by rw [bLp_go go]; exact e4, ?_⟩
        show rRes T L S c o m (match pAnds T L (pOne T L A) k q with | .inl f => .inl f | .inr (q2, ds) => .inr (q2, cs ++ [8] ++ ds)) m4
        revert r4
        cases pAnds T L (pOne T L A) k q with
        | inl f => exact fun r4 => ⟨frQ_trans F3 r4.1 (by omega), r4.2⟩
        | inr y =>
          obtain ⟨q2, ds⟩ := y
          rintro ⟨h2, h3, h4⟩
          refine ⟨frQ_trans F3 h2 (by omega), ?_, opAt_app (opAt_fr od (fun j u v x hx => h2.2.2.2 j u v x (by omega))) ?_⟩
          · have le2 : c + (cs ++ [(8 : Int)] ++ ds).length = c + cs.length + 1 + ds.length := by
              rw [List.length_append, le]; omega
            rw [le2]; exact h3
          · rw [le, show 80 * S + c + (cs.length + 1) = 80 * S + (c + cs.length + 1) by omega]
            exact h4
    · rw [if_neg z]
      exact ⟨m, bLp_out (bIt_ex (al_x (n + 9) m m (sp_may0 (n + 8) hI 1111 (fun q => z (w.mpr q))))), frQ_refl _ _ _, hI, trivial⟩
theorem sp_all (n : Nat) (hS : S ≤ 8) (hL : L ≤ 240) (o : Int) {A : Option (Nat → pR)} {B : Int} (hC : cOneR T L S (n + 9) o A) (hG : ∀ p, p ≤ L → pGood T L B p (pOne T L A p)) {m : bM} {p c : Nat} (hI : RfI T L S m p c o) (hp : p ≤ L) (hc : 3 * c ≤ p) : ∃ m2, sem (n + 10) 322 [aR 132] m = some (m2, 0) ∧ rRes T L S c o m (pAll T L (pOne T L A) p) m2 := by
  obtain ⟨m1, e1, f1, r1⟩ := hC m p c hI hp hc
  have gd := hG p hp
  unfold pAll
  revert r1 gd
  cases pOne T L A p with
  | inl f =>
    intro r1 _
    exact ⟨m1, al_e (n + 9) m m1 m1 e1 (sLp_of (L := L_M_all_1) rfl (all_lbad (n + 8) _ r1 nn_f 999)), f1, r1⟩
  | inr x =>
    obtain ⟨q, cs⟩ := x
    rintro ⟨i1, o1⟩ ⟨g1, g2, _, _⟩
    have b241 : 241 < 999 := Nat.le_of_ble_eq_true rfl
    obtain ⟨m2, e2, r2⟩ := lp_al n hS hL o hC hG 241 q (c + cs.length) 999 m1 b241 (by omega) g2 i1 (by omega)
    refine ⟨m2, al_e (n + 9) m m1 m2 e1 (sLp_of (L := L_M_all_1) rfl e2), ?_⟩
    show rRes T L S c o m (match pAnds T L (pOne T L A) 241 q with | .inl f => .inl f | .inr (q2, ds) => .inr (q2, cs ++ ds)) m2
    revert r2
    cases pAnds T L (pOne T L A) 241 q with
    | inl f => exact fun r2 => ⟨frQ_trans f1 r2.1 (Nat.le_add_right _ _), r2.2⟩
    | inr y =>
      obtain ⟨q2, ds⟩ := y
      rintro ⟨h2, h3, h4⟩
      refine ⟨frQ_trans f1 h2 (Nat.le_add_right _ _), ?_, opAt_app (opAt_fr o1 (fun j u v x hx => h2.2.2.2 j u v x (by omega))) ?_⟩
      · rw [List.length_append, ← Nat.add_assoc]; exact h3
      · rw [Nat.add_assoc]; exact h4
theorem lp_an (n : Nat) (hS : S ≤ 8) (hL : L ≤ 240) (o : Int) {A : Option (Nat → pR)} {B : Int} (hB : 1 ≤ B) (hC : cOneR T L S (n + 9) o A) (hG : ∀ p, p ≤ L → pGood T L B p (pOne T L A p)) : ∀ (k p c bf : Nat) (m : bM), k < bf → 240 - p < k → p ≤ L → RfI T L S m p c o → 3 * c ≤ p → ∃ m2, bLp (L_M_any_1c.1.2 (sem (n + 10))) (L_M_any_1b.1.2 (sem (n + 10))) (L_M_any_1s.1.2 (sem (n + 10))) (bf + 1) [some (aR 132)] m = some (.inl (0, [some (aR 132)], m2)) ∧ rRes T L S c o m (pOrs T L (pOne T L A) k p) m2
  | 0, p, _, _, _, _, h, _, _, _ => absurd h (Nat.not_lt_zero _)
  | k + 1, p, c, bf, m, hbf, hk, hp, hI, hc => by
    have hT := RfT_T255 (RfI_t hI)
    have t := kTk_len hT hL hp
    have w := tk_w hT hL p (i := 7) (by decide) wCd_7
    obtain ⟨g, hg⟩ : ∃ g, bf = g + 1 := ⟨bf - 1, by omega⟩
    subst hg
    unfold pOrs
    by_cases z : kTk T L p = 7
    · rw [if_pos z]
      have k3 := t.2.2.2.2.1 z
      have c1 : 3 * c ≤ kE T L p := by omega
      have kg : k < g := by omega
      obtain ⟨m1, e1, f1, i1⟩ := sp_may1 (n + 6) hI hp 423 (w.mp z).1 (w.mp z).2
      obtain ⟨m2, e2, f2, r2⟩ := sp_all n hS hL o hC hG i1 t.2.1 c1
      have gd := pAll_ok hT hL hB hG t.2.1
      have F2 := frQ_trans f1 f2 (Nat.le_refl _)
      revert r2 gd
      cases pAll T L (pOne T L A) (kE T L p) with
      | inl f =>
        intro r2 _
        have go := bIt_go (an_c (n + 10) m m1 e1) (an_b (n + 10) m1 m2 m2 e2 (do_0 (n + 9) m2 _ _ _ _ r2 nn_f)) (an_s (n + 10) m2)
        refine ⟨m2, ?_, F2, r2⟩
        rw [bLp_go go]
        exact any_lbad (n + 9) _ r2 nn_f g
      | inr x =>
        obtain ⟨q, cs⟩ := x
        rintro ⟨i2, o2⟩ ⟨g1, g2, _, _⟩
        have q3 : 3 * (c + cs.length + 1) ≤ q := by omega
        have c80 : c + cs.length < 80 := by omega
        have q1 : 240 - q < k := by omega
        obtain ⟨m3, e3, f3, i3, o3⟩ := sp_does (n + 9) i2 hS c80 8 0 0 7 opR_f.2.2.2.2
        have go := bIt_go (an_c (n + 10) m m1 e1) (an_b (n + 10) m1 m2 m3 e2 e3) (an_s (n + 10) m3)
        obtain ⟨m4, e4, r4⟩ := lp_an n hS hL o hB hC hG k q (c + cs.length + 1) g m3 kg q1 g2 i3 q3
        have F3 := frQ_trans F2 f3 (Nat.le_add_right _ _)
        have le : (cs ++ [(7 : Int)]).length = cs.length + 1 := by simp
        have od : opAt m3 (80 * S + c) (cs ++ [7]) := opAt_app (opAt_fr o2 (fun j u v x hx => f3.2.2.2 j u v x (by omega))) (by rw [Nat.add_assoc]; exact o3)
        refine ⟨m4, by rw [bLp_go go]; exact e4, ?_⟩
        show rRes T L S c o m (match pOrs T L (pOne T L A) k q with | .inl f => .inl f | .inr (q2, ds) => .inr (q2, cs ++ [7] ++ ds)) m4
        revert r4
        cases pOrs T L (pOne T L A) k q with
        | inl f => exact fun r4 => ⟨frQ_trans F3 r4.1 (by omega), r4.2⟩
        | inr y =>
          obtain ⟨q2, ds⟩ := y
          rintro ⟨h2, h3, h4⟩
          refine ⟨frQ_trans F3 h2 (by omega), ?_, opAt_app (opAt_fr od (fun j u v x hx => h2.2.2.2 j u v x (by omega))) ?_⟩
          · have le2 : c + (cs ++ [(7 : Int)] ++ ds).length = c + cs.length + 1 + ds.length := by
              rw [List.length_append, le]; omega
            rw [le2]; exact h3
          · rw [le, show 80 * S + c + (cs.length + 1) = 80 * S + (c + cs.length + 1) by omega]
            exact h4
    · rw [if_neg z]
      exact ⟨m, bLp_out (bIt_ex (an_x (n + 10) m m (sp_may0 (n + 9) hI 423 (fun q => z (w.mpr q))))), frQ_refl _ _ _, hI, trivial⟩
theorem sp_any (n : Nat) (hS : S ≤ 8) (hL : L ≤ 240) (o : Int) {A : Option (Nat → pR)} {B : Int} (hB : 1 ≤ B) (hC : cOneR T L S (n + 9) o A) (hG : ∀ p, p ≤ L → pGood T L B p (pOne T L A p)) : cAnyR T L S (n + 11) o (pAny T L (pOne T L A)) := fun m p c hI hp hc => by
  have hT := RfT_T255 (RfI_t hI)
  obtain ⟨m1, e1, f1, r1⟩ := sp_all n hS hL o hC hG hI hp hc
  have gd := pAll_ok hT hL hB hG hp
  unfold pAny
  revert r1 gd
  cases pAll T L (pOne T L A) p with
  | inl f =>
    intro r1 _
    exact ⟨m1, an_e (n + 10) m m1 m1 e1 (sLp_of (L := L_M_any_1) rfl (any_lbad (n + 9) _ r1 nn_f 999)), f1, r1⟩
  | inr x =>
    obtain ⟨q, cs⟩ := x
    rintro ⟨i1, o1⟩ ⟨g1, g2, _, _⟩
    have b241 : 241 < 999 := Nat.le_of_ble_eq_true rfl
    obtain ⟨m2, e2, r2⟩ := lp_an n hS hL o hB hC hG 241 q (c + cs.length) 999 m1 b241 (by omega) g2 i1 (by omega)
    refine ⟨m2, an_e (n + 10) m m1 m2 e1 (sLp_of (L := L_M_any_1) rfl e2), ?_⟩
    show rRes T L S c o m (match pOrs T L (pOne T L A) 241 q with | .inl f => .inl f | .inr (q2, ds) => .inr (q2, cs ++ ds)) m2
    revert r2
    cases pOrs T L (pOne T L A) 241 q with
    | inl f => exact fun r2 => ⟨frQ_trans f1 r2.1 (Nat.le_add_right _ _), r2.2⟩
    | inr y =>
      obtain ⟨q2, ds⟩ := y
      rintro ⟨h2, h3, h4⟩
      refine ⟨frQ_trans f1 h2 (Nat.le_add_right _ _), ?_, opAt_app (opAt_fr o1 (fun j u v x hx => h2.2.2.2 j u v x (by omega))) ?_⟩
      · rw [List.length_append, ← Nat.add_assoc]; exact h3
      · rw [Nat.add_assoc]; exact h4
end
theorem ayL_0 {T : Nat → Int} {L S : Nat} (hS : S ≤ 8) (hL : L ≤ 240) (hT : ∀ k, k < 240 → 0 ≤ T k ∧ T k ≤ 255) (n : Nat) : cAnyR T L S (n + 11) 4 (pLev T L 0) := by
  have e : pLev T L 0 = pAny T L (pOne T L none) := by funext p; rfl
  rw [e]
  exact sp_any n hS hL 4 (B := 1) (by decide) (sp_one n hS hL 4 none (Or.inl ⟨rfl, rfl⟩) ⟨1, by decide, fun a h => by cases h⟩) (fun p hp => pOne_ok hT hL (by decide) (fun a h => by cases h) hp)
theorem ayL_s {T : Nat → Int} {L S : Nat} (hS : S ≤ 8) (hL : L ≤ 240) (hT : ∀ k, k < 240 → 0 ≤ T k ∧ T k ≤ 255) (n k : Nat) (o : Int) (ho : 0 ≤ o ∧ o < 4) (h : cAnyR T L S (n + 8) (o + 1) (pLev T L k)) : cAnyR T L S (n + 11) o (pLev T L (k + 1)) := by
  have e : pLev T L (k + 1) = pAny T L (pOne T L (some (pLev T L k))) := by funext p; rfl
  rw [e]
  have g := pLev_ok hT hL k
  exact sp_any n hS hL o (B := 2 * (k : Int) + 3) (by omega) (sp_one n hS hL o (some (pLev T L k)) (Or.inr ⟨_, rfl, ho.1, ho.2, h, _, g⟩) ⟨2 * (k : Int) + 3, by omega, fun a h => by cases h; exact g⟩) (fun p hp => pOne_ok hT hL (by omega) (fun a h => by cases h; exact g) hp)
theorem ayL_4 {T : Nat → Int} {L S : Nat} (hS : S ≤ 8) (hL : L ≤ 240) (hT : ∀ k, k < 240 → 0 ≤ T k ∧ T k ≤ 255) (n : Nat) : cAnyR T L S (n + 23) 0 (pLev T L 4) := by
  have h0 := ayL_0 (S := S) hS hL hT n
  have h1 := ayL_s hS hL hT (n + 3) 0 3 (by decide) h0
  have h2 := ayL_s hS hL hT (n + 6) 1 2 (by decide) h1
  have h3 := ayL_s hS hL hT (n + 9) 2 1 (by decide) h2
  exact ayL_s hS hL hT (n + 12) 3 0 (by decide) h3
