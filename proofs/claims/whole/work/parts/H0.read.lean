/-! ===== read: the step, joined ===== -/
theorem clLs_cg {m m2 : bM} {S : Nat} (e : ∀ j, 66 ≤ j → j ≤ 70 → m2 j = m j) : ∀ (l : List (Int × Int × List Int)) (c i : Nat), clLs m S c i l → clLs m2 S c i l
  | [], _, _, _ => trivial
  | r :: l, c, i, h => by
    refine ⟨?_, clLs_cg e l _ _ h.2⟩
    have := h.1
    unfold clL at this ⊢
    rw [e 66 (by decide) (by decide), e 67 (by decide) (by decide), e 68 (by decide) (by decide), e 69 (by decide) (by decide), e 70 (by decide) (by decide)]
    exact this
theorem opAt_cg {m m2 : bM} (e : ∀ j, 165 ≤ j → j ≤ 171 → m2 j = m j) : ∀ (l : List Int) (a : Nat), opAt m a l → opAt m2 a l
  | [], _, _ => trivial
  | r :: l, a, h => ⟨by rw [e 169 (by decide) (by decide), e 170 (by decide) (by decide), e 171 (by decide) (by decide)]; exact h.1, opAt_cg e l _ h.2⟩
theorem rfLs_cg {m m2 : bM} {S : Nat} (e : ∀ j, 165 ≤ j → j ≤ 171 → m2 j = m j) : ∀ (l : List (Int × Int × List Int)) (c i : Nat), rfLs m S c i l → rfLs m2 S c i l
  | [], _, _, _ => trivial
  | r :: l, c, i, h => by
    refine ⟨?_, rfLs_cg e l _ _ h.2⟩
    obtain ⟨h1, h2, h3, h4, h5⟩ := h.1
    exact ⟨by rw [e 165 (by decide) (by decide)]; exact h1, fun a => by rw [e 166 (by decide) (by decide)]; exact h2 a, by rw [e 167 (by decide) (by decide)]; exact h3, by rw [e 168 (by decide) (by decide)]; exact h4, opAt_cg e _ _ h5⟩
theorem cDep_cg {f g : Nat → Int} {a : Nat} : ∀ {j : Nat}, (∀ t, t < j → g (a + t) = f (a + t)) → cDep g a j = cDep f a j
  | 0, _ => rfl
  | j + 1, e => by
    have ih := cDep_cg (f := f) (g := g) (a := a) (j := j) (fun t ht => e t (by omega))
    show cDep g a j + (if g (a + j) = 9 then 0 else if g (a + j) = 8 ∨ g (a + j) = 7 then -1 else 1) = cDep f a j + (if f (a + j) = 9 then 0 else if f (a + j) = 8 ∨ f (a + j) = 7 then -1 else 1)
    rw [ih, e j (Nat.lt_succ_self _)]
theorem lineOK_low {c r c1 r1 : bM} {S v i : Nat} (hv : v < S) (hi : i < 9) (h : lineOK c r v i) (hc : ∀ j, 66 ≤ j → j ≤ 69 → ∀ q, q < 9 * S → c1 j q = c j q) (hc2 : ∀ q, q < 80 * S → c1 70 q = c 70 q) (hr : ∀ j, 165 ≤ j → j ≤ 168 → ∀ q, q < 9 * S → r1 j q = r j q) (hr2 : ∀ j, 169 ≤ j → j ≤ 171 → ∀ q, q < 80 * S → r1 j q = r j q) : lineOK c1 r1 v i := by
  have q : 9 * v + i < 9 * S := by omega
  have c66 := hc 66 (by decide) (by decide) _ q
  have c67 := hc 67 (by decide) (by decide) _ q
  have c68 := hc 68 (by decide) (by decide) _ q
  have c69 := hc 69 (by decide) (by decide) _ q
  have r165 := hr 165 (by decide) (by decide) _ q
  have r166 := hr 166 (by decide) (by decide) _ q
  have r167 := hr 167 (by decide) (by decide) _ q
  have r168 := hr 168 (by decide) (by decide) _ q
  unfold lineOK at h ⊢
  rw [c66, c67, c68, c69, r165, r166, r167, r168]
  obtain ⟨a1, a2, a3, a4, a5, a6, a7, a8, a9, a10, a11, a12, a13⟩ := h
  refine ⟨a1, a2, a3, a4, a5, a6, a7, a8, a9, a10, a11, fun j g1 g2 => ?_, fun j g => ?_⟩
  · have z : 80 * v + j < 80 * S := by omega
    rw [hc2 _ z, hr2 169 (by decide) (by decide) _ z, hr2 170 (by decide) (by decide) _ z, hr2 171 (by decide) (by decide) _ z]
    exact a12 j g1 g2
  · rw [cDep_cg (f := c 70) (fun t ht => hc2 _ (by omega))]
    exact a13 j g
def frV (S : Nat) (m m2 : bM) : Prop := (∀ j, j ≠ 132 → (j < 163 ∨ 171 < j) → m2 j = m j) ∧ (∀ k, (k < 65 ∨ 73 < k) → m2 132 k = m 132 k) ∧ (∀ q, q ≠ S → m2 163 q = m 163 q) ∧ (∀ j, 165 ≤ j → j ≤ 168 → ∀ q, q < 9 * S → m2 j q = m j q) ∧ ∀ j, 169 ≤ j → j ≤ 171 → ∀ q, q < 80 * S → m2 j q = m j q
theorem sp_M_read (n : Nat) {T : Nat → Int} {L S : Nat} {m : bM} (hS : S ≤ 8) (hT : RfT T L m) (hn : m 133 11 = (S : Int)) : ∃ x9, frV S m x9 ∧ x9 132 73 = (S : Int) ∧ x9 132 65 = 0 ∧ rdRes x9 S 0 0 (pLs T L 9 0) ∧ ∀ (f d w w2 v : Int) (ma mb : bM), x9 132 71 = f → ((0 ≤ f ∧ i32 (-100 - f) = v ∧ mb = x9) ∨ (¬ 0 ≤ f ∧ (S : Int) = 8 ∧ v = -2 ∧ mb = x9) ∨ (¬ 0 ≤ f ∧ ¬ (S : Int) = 8 ∧ x9 133 3 = d ∧ bwr x9 162 S d = ma ∧ ma 133 11 = w ∧ i32 (w + 1) = w2 ∧ bwr ma 133 11 w2 = mb ∧ mb 132 73 = (S : Int) ∧ v = (S : Int))) → sem (n + 25) 89 [aR 132] m = some (mb, v) := by
  have hL := RfT_L240 hT
  obtain ⟨x1, w1⟩ : ∃ x, bwr m 132 73 (S : Int) = x := ⟨_, rfl⟩
  obtain ⟨x2, w2⟩ : ∃ x, bwr x1 163 S 0 = x := ⟨_, rfl⟩
  obtain ⟨x3, w3⟩ : ∃ x, bwr x2 164 S 0 = x := ⟨_, rfl⟩
  obtain ⟨x4, w4⟩ : ∃ x, bwr x3 132 66 0 = x := ⟨_, rfl⟩
  obtain ⟨x5, w5⟩ : ∃ x, bwr x4 132 72 0 = x := ⟨_, rfl⟩
  obtain ⟨x6, w6⟩ : ∃ x, bwr x5 132 71 (-1) = x := ⟨_, rfl⟩
  have o3 : ∀ j, j ≠ 132 → j ≠ 163 → j ≠ 164 → x3 j = m j := fun j a b c => by rw [← w3, bwr_ne _ _ c, ← w2, bwr_ne _ _ b, ← w1, bwr_ne _ _ a]
  have p3 : ∀ k, k ≠ 73 → x3 132 k = m 132 k := fun k a => by rw [← w3, bwr_ne _ _ (by decide), ← w2, bwr_ne _ _ (by decide), ← w1, bwr_ne2 _ a]
  have s3 : x3 132 73 = (S : Int) := by rw [← w3, bwr_ne _ _ (by decide), ← w2, bwr_ne _ _ (by decide), ← w1, bwr_eq2]
  have o6 : ∀ j, j ≠ 132 → x6 j = x3 j := fun j a => by rw [← w6, bwr_ne _ _ a, ← w5, bwr_ne _ _ a, ← w4, bwr_ne _ _ a]
  have p6 : ∀ k, k ≠ 66 → k ≠ 71 → k ≠ 72 → x6 132 k = x3 132 k := fun k a b c => by rw [← w6, bwr_ne2 _ b, ← w5, bwr_ne2 _ c, ← w4, bwr_ne2 _ a]
  have T6 : RfT T L x6 := ⟨by rw [p6 65 (by decide) (by decide) (by decide), p3 65 (by decide)]; exact RfT_len hT, fun k hk => by rw [o6 192 (by decide), o3 192 (by decide) (by decide) (by decide)]; exact RfT_tape hT k hk, hL, RfT_T255 hT⟩
  have h6 : x6 132 66 = ((0 : Nat) : Int) := by rw [← w6, bwr_ne2 _ (by decide), ← w5, bwr_ne2 _ (by decide), ← w4, bwr_eq2]; rfl
  obtain ⟨x7, e7, f7, r7⟩ := sp_next (n + 21) T6 (Nat.zero_le _) h6
  have i7 : RfI T L S x7 0 0 0 := ⟨RfT_N T6 f7, r7, by rw [f7.2 71 (by decide), ← w6, bwr_eq2], by rw [f7.2 73 (by decide), p6 73 (by decide) (by decide) (by decide)]; exact s3, by rw [f7.1 164 (by decide), o6 164 (by decide), ← w3, bwr_eq2]; rfl, by rw [f7.2 72 (by decide), ← w6, bwr_ne2 _ (by decide), ← w5, bwr_eq2]⟩
  have j7 : x7 163 S = ((0 : Nat) : Int) := by rw [f7.1 163 (by decide), o6 163 (by decide), ← w3, bwr_ne _ _ (by decide), ← w2, bwr_eq2]; rfl
  have b9 : 9 < 999 := Nat.le_of_ble_eq_true rfl
  obtain ⟨x8, e8, f8, r8⟩ := lp_rd n hS hL 9 0 0 0 999 x7 b9 rfl i7 (Nat.zero_le _) (Nat.le_refl _) j7
  obtain ⟨x9, w9⟩ : ∃ x, bwr x8 132 65 0 = x := ⟨_, rfl⟩
  have o9 : ∀ j, j ≠ 132 → x9 j = x8 j := fun j a => by rw [← w9, bwr_ne _ _ a]
  have p9 : ∀ k, k ≠ 65 → x9 132 k = x8 132 k := fun k a => by rw [← w9, bwr_ne2 _ a]
  have s9 : x9 132 73 = (S : Int) := by rw [p9 73 (by decide), f8.2.2.1]; exact RfI_v i7
  have fs : 0 ≤ (S : Int) ∧ (S : Int) < ((9 : Nat) : Int) := by omega
  refine ⟨x9, ⟨fun j a b => ?_, fun k a => ?_, fun q hq => ?_, fun j a b q hq => ?_, fun j a b q hq => ?_⟩, s9, by rw [← w9, bwr_eq2], ?_, fun f d w w2' v ma mb hf h => mrd_e (n + 24) m x1 x2 x3 x4 x5 x6 x7 x8 x9 ma mb (S : Int) f v d w w2' S hn w1 (by rw [← w1, bwr_eq2]) fs (tnc S) w2 (by rw [← w2, bwr_ne _ _ (by decide), ← w1, bwr_eq2]) w3 w4 w5 w6 e7 (sLp_of (L := L_M_read_1) rfl e8) w9 hf s9 h⟩
  · rw [o9 j a, f8.1 j a b, f7.1 j a, o6 j a, o3 j a (by omega) (by omega)]
  · rw [p9 k (by omega), f8.2.1 k (by omega) (by omega), f7.2 k (by omega), p6 k (by omega) (by omega) (by omega), p3 k (by omega)]
  · rw [o9 163 (by decide), (f8.2.2.2.1 q hq).1, f7.1 163 (by decide), o6 163 (by decide), ← w3, bwr_ne _ _ (by decide), ← w2, bwr_ne2 _ hq, ← w1, bwr_ne _ _ (by decide)]
  · rw [o9 j (by omega), f8.2.2.2.2.1 j a b q hq, f7.1 j (by omega), o6 j (by omega), o3 j (by omega) (by omega) (by omega)]
  · rw [o9 j (by omega), f8.2.2.2.2.2 j a b q hq, f7.1 j (by omega), o6 j (by omega), o3 j (by omega) (by omega) (by omega)]
  · revert r8
    cases pLs T L 9 0 with
    | inl f => exact fun b => (p9 71 (by decide)).trans b
    | inr rs =>
      rintro ⟨b1, b2, b3⟩
      exact ⟨(p9 71 (by decide)).trans b1, by rw [o9 163 (by decide)]; exact b2, rfLs_cg (fun j a b => o9 j (by omega)) _ _ _ b3⟩
/-- the act's lines below S, kept -/
theorem RelA_low {m m2 : bM} {S : Nat} (h : RelA m m) (hs : m 63 7 = (S : Int)) (d1 : ∀ v, v < S → m2 64 v = m 64 v) (d2 : ∀ v, v < S → m2 162 v = m 162 v) (l1 : ∀ v, v < S → m2 65 v = m 65 v) (l2 : ∀ v, v < S → m2 163 v = m 163 v) (hc : ∀ j, 66 ≤ j → j ≤ 69 → ∀ q, q < 9 * S → m2 j q = m j q) (hc2 : ∀ q, q < 80 * S → m2 70 q = m 70 q) (hr : ∀ j, 165 ≤ j → j ≤ 168 → ∀ q, q < 9 * S → m2 j q = m j q) (hr2 : ∀ j, 169 ≤ j → j ≤ 171 → ∀ q, q < 80 * S → m2 j q = m j q) : (∀ v : Nat, v < S → m2 162 v = m2 64 v) ∧ (∀ v : Nat, v < S → m2 163 v = m2 65 v ∧ 0 ≤ m2 65 v ∧ m2 65 v ≤ 9) ∧ ∀ v i : Nat, v < S → (i : Int) < m2 65 v → lineOK m2 m2 v i := by
  refine ⟨fun v hv => ?_, fun v hv => ?_, fun v i hv hi => ?_⟩
  · rw [d1 v hv, d2 v hv]; exact RelA_day h v (by omega)
  · rw [l1 v hv, l2 v hv]; exact RelA_lines h v (by omega)
  · rw [l1 v hv] at hi
    have l := RelA_lines h v (by omega)
    exact lineOK_low hv (by omega) (RelA_line h v i (by omega) hi) hc hc2 hr hr2
theorem step_read {n i : Nat} {m : bM} (hI : Inv i m) (hi : i < 100) : ∃ m1 m2 v, sem (n + 25) 31 [aR 0] m = some (m1, v) ∧ sem (n + 25) 89 [aR 132] m1 = some (m2, v) ∧ Inv (i + 1) m2 := by
  have hR := Inv_rel hI
  have hP := Inv_tape hI
  have hA := Rel_a hR
  have hN := Rel_n hR
  obtain ⟨l1, l2, l3⟩ := TapeOK_len hP
  have rv := RelA_rversions hA
  have rd := RelC_rtoday (Rel_c hR)
  obtain ⟨L, hLn⟩ : ∃ L : Nat, m 109 2 = (L : Int) := ⟨(m 109 2).toNat, by omega⟩
  obtain ⟨S, hs⟩ : ∃ S : Nat, m 63 7 = (S : Int) := ⟨(m 63 7).toNat, by omega⟩
  have hL : L ≤ 240 := by omega
  have hS : S ≤ 8 := by omega
  obtain ⟨T, hTe⟩ : ∃ T : Nat → Int, m 192 = T := ⟨_, rfl⟩
  have tp := TapeOK_tape hP
  rw [hTe] at tp
  have T255 : ∀ k, k < 240 → 0 ≤ T k ∧ T k ≤ 255 := fun k hk => ⟨(tp k hk).1, (tp k hk).2.1⟩
  have hT : RdT T L m := ⟨hLn, fun k hk => (tp k hk).2.2, hL, T255⟩
  have n11 : m 133 11 = (S : Int) := by rw [RelN_versions hN]; exact hs
  have n3 : m 133 3 = m 79 9 := RelN_today hN
  obtain ⟨m1, fr, pr⟩ := sp_parse (n + 1) hS hT hs
  obtain ⟨m2, w2⟩ : ∃ m2, bwr m1 109 2 0 = m2 := ⟨_, rfl⟩
  have c2 : ∀ j, j ≠ 109 → j ≠ 70 → j ≠ 66 → j ≠ 67 → j ≠ 68 → j ≠ 69 → j ≠ 65 → m2 j = m j := fun j a b c d e f g => by rw [← w2, bwr_ne _ _ a]; exact fr.1 j a b c d e f g
  have o2 : ∀ j, j ≠ 109 → m2 j = m1 j := fun j a => by rw [← w2, bwr_ne _ _ a]
  have s2 : m2 63 7 = (S : Int) := by rw [c2 63 (by decide) (by decide) (by decide) (by decide) (by decide) (by decide) (by decide)]; exact hs
  have g2 := pLs_ok T255 hL 9 0 0
  -- what the reference does behind a memory y that has the class's work done
  have refT : ∀ y : bM, (∀ j, 132 ≤ j → y j = m j) → RfT T L y := fun y h => ⟨by rw [h 132 (by decide), l1]; exact hLn, fun k _ => by rw [h 192 (by decide), hTe], hL, T255⟩
  have c132 : ∀ j, 132 ≤ j → m2 j = m j := fun j h => c2 j (by omega) (by omega) (by omega) (by omega) (by omega) (by omega) (by omega)
  -- a text that is refused, or one version too many: nothing is kept
  have none_kept : ∀ x9 : bM, frV S m2 x9 → x9 132 65 = 0 → Inv (i + 1) x9 := fun x9 f9 t9 => by
    have q1 : ∀ j, j < 132 → x9 j = m2 j := fun j h => f9.1 j (by omega) (by omega)
    have fz : frZ m x9 := ⟨fun j h => by
      rw [f9.1 j (by omega) (by omega)]
      exact c2 j (by omega) (by omega) (by omega) (by omega) (by omega) (by omega) (by omega), fun k h => by rw [f9.2.1 k h, c132 132 (by decide)]⟩
    have e63 : x9 63 = m 63 := by rw [q1 63 (by decide), c2 63 (by decide) (by decide) (by decide) (by decide) (by decide) (by decide) (by decide)]
    have low := RelA_low (m2 := x9) hA hs (fun v _ => by rw [q1 64 (by decide), c2 64 (by decide) (by decide) (by decide) (by decide) (by decide) (by decide) (by decide)]) (fun v _ => by rw [f9.1 162 (by decide) (by decide), c132 162 (by decide)]) (fun v hv => by rw [q1 65 (by decide), o2 65 (by decide)]; exact fr.2.2.2.2 v (by omega)) (fun v hv => by rw [f9.2.2.1 v (by omega), c132 163 (by decide)]) (fun j a b q hq => by rw [q1 j (by omega), o2 j (by omega)]; exact fr.2.2.2.1 j a b q hq) (fun q hq => by rw [q1 70 (by decide), o2 70 (by decide)]; exact fr.2.2.1 q hq) (fun j a b q hq => by rw [f9.2.2.2.1 j a b q hq, c132 j (by omega)]) (fun j a b q hq => by rw [f9.2.2.2.2 j a b q hq, c132 j (by omega)])
    refine Inv_read hI fz (RelN_congr hN (fz.1 1 (by decide)) (fz.1 17 (by decide)) (fz.1 37 (by decide)) e63 (fz.1 79 (by decide)) (by rw [f9.1 133 (by decide) (by decide), c132 133 (by decide)])) ⟨by rw [e63]; exact rv, fun v hv => low.1 v (by rw [e63, hs] at hv; omega), fun v hv => low.2.1 v (by rw [e63, hs] at hv; omega), fun v j hv hj => low.2.2 v j (by rw [e63, hs] at hv; omega) hj⟩ ⟨⟨?_, ?_, ?_⟩, fun k hk => ?_⟩
    · rw [t9, q1 109 (by decide), ← w2, bwr_eq2]
    · rw [q1 109 (by decide), ← w2, bwr_eq2]; exact Int.le_refl _
    · rw [q1 109 (by decide), ← w2, bwr_eq2]; decide
    · rw [f9.1 192 (by decide) (by decide), c132 192 (by decide), q1 110 (by decide), c2 110 (by decide) (by decide) (by decide) (by decide) (by decide) (by decide) (by decide)]
      exact TapeOK_tape hP k hk
  have n11' : m2 133 11 = (S : Int) := by rw [c132 133 (by decide)]; exact n11
  obtain ⟨x9, f9, s9, t9, r9, run⟩ := sp_M_read n hS (refT m2 c132) n11'
  cases hp : pLs T L 9 0 with
  | inl f =>
    rw [hp] at pr r9
    obtain ⟨fL, e1⟩ := pr
    have r9 : x9 132 71 = (f : Int) := r9
    have f0 : 0 ≤ (f : Int) := by omega
    exact ⟨m2, x9, _, vrd_f (n + 24) m m1 m2 (f : Int) _ e1 w2 f0 rfl, run (f : Int) 0 0 0 _ x9 x9 r9 (Or.inl ⟨f0, rfl, rfl⟩), none_kept x9 f9 t9⟩
  | inr rs =>
    rw [hp] at pr r9
    obtain ⟨len9, e1, ln, cl⟩ := pr
    obtain ⟨b1, b2, b3⟩ := r9
    have rok := g2 rs (Nat.zero_le _) (Nat.le_refl _) hp
    by_cases z : S = 8
    · have z8 : (S : Int) = 8 := by omega
      have z9 : 8 ≤ (S : Int) := by omega
      exact ⟨m2, x9, -2, vrd_8 (n + 24) m m1 m2 (S : Int) e1 w2 s2 z9, run (-1) 0 0 0 (-2) x9 x9 b1 (Or.inr (Or.inl ⟨by decide, z8, rfl, rfl⟩)), none_kept x9 f9 t9⟩
    · have z8 : ¬ (S : Int) = 8 := by omega
      have z9 : ¬ 8 ≤ (S : Int) := by omega
      have S31 : S < 2147483647 := by omega
      have fs : 0 ≤ (S : Int) ∧ (S : Int) < ((9 : Nat) : Int) := by omega
      obtain ⟨m3, w3⟩ : ∃ m3, bwr m2 64 S (m 79 9) = m3 := ⟨_, rfl⟩
      obtain ⟨m4, w4⟩ : ∃ m4, bwr m3 63 7 ((S + 1 : Nat) : Int) = m4 := ⟨_, rfl⟩
      have o4 : ∀ j, j ≠ 63 → j ≠ 64 → m4 j = m2 j := fun j a b => by rw [← w4, bwr_ne _ _ a, ← w3, bwr_ne _ _ b]
      have c4 : ∀ j, 132 ≤ j → m4 j = m j := fun j h => by rw [o4 j (by omega) (by omega)]; exact c132 j h
      have t2 : m2 79 9 = m 79 9 := by rw [c2 79 (by decide) (by decide) (by decide) (by decide) (by decide) (by decide) (by decide)]
      obtain ⟨y9, f9, s9, t9, r9, run⟩ := sp_M_read n hS (refT m4 c4) (by rw [c4 133 (by decide)]; exact n11)
      rw [hp] at r9
      obtain ⟨b1, b2, b3⟩ := r9
      obtain ⟨ma, wa⟩ : ∃ ma, bwr y9 162 S (m 79 9) = ma := ⟨_, rfl⟩
      obtain ⟨mb, wb⟩ : ∃ mb, bwr ma 133 11 ((S + 1 : Nat) : Int) = mb := ⟨_, rfl⟩
      have q9 : ∀ j, j < 132 → y9 j = m4 j := fun j h => f9.1 j (by omega) (by omega)
      have ob : ∀ j, j ≠ 133 → j ≠ 162 → mb j = y9 j := fun j a b => by rw [← wb, bwr_ne _ _ a, ← wa, bwr_ne _ _ b]
      have y3 : y9 133 3 = m 79 9 := by rw [f9.1 133 (by decide) (by decide), c4 133 (by decide)]; exact n3
      have a11 : ma 133 11 = (S : Int) := by rw [← wa, bwr_ne _ _ (by decide), f9.1 133 (by decide) (by decide), c4 133 (by decide)]; exact n11
      have sb : mb 132 73 = (S : Int) := by rw [ob 132 (by decide) (by decide)]; exact s9
      have num : ∀ k, k ≠ 11 → mb 133 k = m 133 k := fun k hk => by rw [← wb, bwr_ne2 _ hk, ← wa, bwr_ne _ _ (by decide), f9.1 133 (by decide) (by decide), c4 133 (by decide)]
      have b63 : ∀ k, k ≠ 7 → mb 63 k = m 63 k := fun k hk => by rw [ob 63 (by decide) (by decide), q9 63 (by decide), ← w4, bwr_ne2 _ hk, ← w3, bwr_ne _ _ (by decide), c2 63 (by decide) (by decide) (by decide) (by decide) (by decide) (by decide) (by decide)]
      have v63 : mb 63 7 = ((S + 1 : Nat) : Int) := by rw [ob 63 (by decide) (by decide), q9 63 (by decide), ← w4, bwr_eq2]
      have fz : frZ m mb := ⟨fun j h => by
        rw [ob j (by omega) (by omega), f9.1 j (by omega) (by omega), o4 j (by omega) (by omega)]
        exact c2 j (by omega) (by omega) (by omega) (by omega) (by omega) (by omega) (by omega), fun k h => by rw [ob 132 (by decide) (by decide), f9.2.1 k h, c4 132 (by decide)]⟩
      have e70 : ∀ j, 65 ≤ j → j ≤ 70 → mb j = m1 j := fun j a b => by rw [ob j (by omega) (by omega), q9 j (by omega), o4 j (by omega) (by omega), o2 j (by omega)]
      have low := RelA_low (m2 := mb) hA hs (fun v hv => by rw [ob 64 (by decide) (by decide), q9 64 (by decide), ← w4, bwr_ne _ _ (by decide), ← w3, bwr_ne2 _ (by omega), c2 64 (by decide) (by decide) (by decide) (by decide) (by decide) (by decide) (by decide)]) (fun v hv => by rw [← wb, bwr_ne _ _ (by decide), ← wa, bwr_ne2 _ (by omega), f9.1 162 (by decide) (by decide), c4 162 (by decide)]) (fun v hv => by rw [e70 65 (by decide) (by decide)]; exact fr.2.2.2.2 v (by omega)) (fun v hv => by rw [ob 163 (by decide) (by decide), f9.2.2.1 v (by omega), c4 163 (by decide)]) (fun j a b q hq => by rw [e70 j (by omega) (by omega)]; exact fr.2.2.2.1 j a b q hq) (fun q hq => by rw [e70 70 (by decide) (by decide)]; exact fr.2.2.1 q hq) (fun j a b q hq => by rw [ob j (by omega) (by omega), f9.2.2.2.1 j a b q hq, c4 j (by omega)]) (fun j a b q hq => by rw [ob j (by omega) (by omega), f9.2.2.2.2 j a b q hq, c4 j (by omega)])
      have dS : mb 64 S = m 79 9 := by rw [ob 64 (by decide) (by decide), q9 64 (by decide), ← w4, bwr_ne _ _ (by decide), ← w3, bwr_eq2]
      have rS : mb 162 S = m 79 9 := by rw [← wb, bwr_ne _ _ (by decide), ← wa, bwr_eq2]
      have lS : mb 65 S = (rs.length : Int) := by rw [e70 65 (by decide) (by decide)]; exact ln
      have kS : mb 163 S = (rs.length : Int) := by rw [ob 163 (by decide) (by decide), b2, Nat.zero_add]
      have lns := lines_all (c := mb) (r := mb) (S := S) (clLs_cg (fun j a b => e70 j (by omega) b) _ _ _ cl) (rfLs_cg (fun j a b => ob j (by omega) (by omega)) _ _ _ b3) rok
      have vc : ∀ v : Nat, (v : Int) < mb 63 7 → v < S ∨ v = S := fun v hv => by rw [v63] at hv; omega
      refine ⟨m4, mb, (S : Int), vrd_g (n + 24) m m1 m2 m3 m4 (S : Int) _ _ S e1 w2 s2 z9 fs (tnc S) t2 w3 (i32_s S31) w4, run (-1) (m 79 9) (S : Int) _ (S : Int) ma mb b1 (Or.inr (Or.inr ⟨by decide, z8, y3, wa, a11, i32_s S31, wb, sb, rfl⟩)), Inv_read hI fz ?_ ⟨by rw [v63]; omega, fun v hv => ?_, fun v hv => ?_, fun v j hv hj => ?_⟩ ⟨⟨?_, ?_, ?_⟩, fun k hk => ?_⟩⟩
      · have e1 := fz.1 1 (by decide); have e17 := fz.1 17 (by decide); have e37 := fz.1 37 (by decide); have e79 := fz.1 79 (by decide)
        obtain ⟨u1, u2, u3, u4, u5, u6, u7, u8, u9, u10, u11, u12, u13, u14⟩ := hN
        refine ⟨?_, ?_, ?_, ?_, ?_, ?_, ?_, ?_, ?_, ?_, ?_, ?_, ?_, ?_⟩
        · rw [num _ (by decide), e1]; exact u1
        · rw [num _ (by decide), e1]; exact u2
        · rw [num _ (by decide), e1]; exact u3
        · rw [num _ (by decide), e79]; exact u4
        · rw [num _ (by decide), e79]; exact u5
        · rw [num _ (by decide), e1]; exact u6
        · rw [num _ (by decide), e17]; exact u7
        · rw [num _ (by decide), e37]; exact u8
        · rw [num _ (by decide), e37]; exact u9
        · rw [num _ (by decide), e37]; exact u10
        · rw [num _ (by decide), e37]; exact u11
        · rw [v63, ← wb, bwr_eq2]
        · rw [num _ (by decide), e79]; exact u13
        · rw [num _ (by decide), e79]; exact u14
      · rcases vc v hv with h | h
        · exact low.1 v h
        · rw [h, dS, rS]
      · rcases vc v hv with h | h
        · exact low.2.1 v h
        · rw [h, lS, kS]; exact ⟨rfl, by omega, by omega⟩
      · rcases vc v hv with h | h
        · exact low.2.2 v j h hj
        · rw [h] at hj ⊢
          rw [lS] at hj
          have := lns j (by omega)
          rw [Nat.zero_add] at this
          exact this
      · rw [ob 132 (by decide) (by decide), t9, ob 109 (by decide) (by decide), q9 109 (by decide), o4 109 (by decide) (by decide), ← w2, bwr_eq2]
      · rw [ob 109 (by decide) (by decide), q9 109 (by decide), o4 109 (by decide) (by decide), ← w2, bwr_eq2]; exact Int.le_refl _
      · rw [ob 109 (by decide) (by decide), q9 109 (by decide), o4 109 (by decide) (by decide), ← w2, bwr_eq2]; decide
      · rw [ob 192 (by decide) (by decide), f9.1 192 (by decide) (by decide), c4 192 (by decide), ob 110 (by decide) (by decide), q9 110 (by decide), o4 110 (by decide) (by decide), c2 110 (by decide) (by decide) (by decide) (by decide) (by decide) (by decide) (by decide)]
        exact TapeOK_tape hP k hk
