/-! ===== round: the step ===== -/
theorem Inv_rd {i : Nat} {m m2 : bM} (hI : Inv i m) (ho : ∀ i, (i < 117 ∨ (123 < i ∧ i < 132) ∨ (132 < i ∧ i < 179) ∨ (188 < i ∧ i < 193) ∨ 196 < i) → m2 i = m i) (hM : ∀ k, k ≠ 53 → k ≠ 59 → (k < 78 ∨ 83 < k) → m2 132 k = m 132 k) (hf : m2 132 53 = 1) (hr : NgtR m2 m2) (ht : TourOK m2) : Inv (i + 1) m2 := by
  obtain ⟨k1, k2⟩ := Inv_kept hI
  refine ⟨Rel_congr (Inv_rel hI) (fun i a b => ho i (by omega)) (fun i a b => ho i (by omega)), ?_, NgtC_congr (Inv_ngt hI) (fun i a b => ho i (by omega)) ⟨⟨fun i a b => ho i (by omega), by rw [ho 17 (by omega)]⟩, ho 24 (by omega), ho 26 (by omega)⟩ ⟨ho 44 (by omega), ho 46 (by omega), by rw [ho 37 (by omega)]⟩ (fun i a b => ho i (by omega)), Or.inr ⟨hf, hr⟩, HostOK_congr (Inv_host hI) (fun i a b => ho i (by omega)) (fun i a b => ho i (by omega)) (hM 91 (by decide) (by decide) (by decide)), ht, TapeOK_congr (Inv_tape hI) (by rw [ho 109 (by omega)]) (ho 110 (by omega)) (ho 192 (by omega)) (hM 65 (by decide) (by decide) (by decide))⟩
  rw [hM 47 (by decide) (by decide) (by decide), ho 0 (by omega)]
  refine ⟨k1, k2.imp id (fun q => ⟨q.1, ?_⟩)⟩
  refine Rel_congr q.2 (fun i a b => ?_) (fun i a b => ?_)
  · show m2 (kcell i) = m (kcell i)
    have : kcell i ≤ 105 ∧ 9 ≤ kcell i := by unfold kcell; split <;> (try split) <;> (try split) <;> (try split) <;> omega
    exact ho _ (by omega)
  · unfold kR
    rw [ho 178 (by omega)]
theorem cnt_ext {p : Nat → Bool} {N : Nat} (h : ∀ j, N ≤ j → p j = false) : ∀ d, cnt p (N + d) = cnt p N
  | 0 => rfl
  | d + 1 => by
    rw [show N + (d + 1) = N + d + 1 by omega, cnF (h (N + d) (by omega))]
    exact cnt_ext h d
theorem rd_bits {A N : Nat} (hA : A < 2 ^ N) : ∀ j, N ≤ j → A.testBit j = false := fun j hj => Nat.testBit_lt_two_pow (Nat.lt_of_lt_of_le hA (Nat.pow_le_pow_right (by decide) hj))
theorem step_round {n i : Nat} {m : bM} (hI : Inv i m) (hi : i < 100) (x r : Int) (hx : in32 x) : ∃ m1 m2 v, sem (n + 13) 41 [aR 0, aI x, aI r] m = some (m1, v) ∧ sem (n + 13) 99 [aR 132, aI x, aI r] m1 = some (m2, v) ∧ Inv (i + 1) m2 := by
  have hR := Inv_rel hI
  have rc := RelC_rcount (Rel_c hR)
  obtain ⟨N, hN⟩ : ∃ N : Nat, m 79 6 = (N : Int) := ⟨(m 79 6).toNat, by omega⟩
  have N16 : N ≤ 16 := by omega
  have pN : 2 ^ N ≤ 65536 := Nat.le_trans (Nat.pow_le_pow_right (by decide) N16) (show 2 ^ 16 ≤ 65536 by decide)
  have pp : 0 < 2 ^ N := Nat.pow_pos (by decide)
  have hc : m 133 12 = (N : Int) := by rw [RelN_count (Rel_n hR)]; exact hN
  have h1 : jshl 1 (N : Int) = ((2 ^ N : Nat) : Int) := jshl_nat (by omega)
  have h2 : i32 (((2 ^ N : Nat) : Int) - 1) = ((2 ^ N - 1 : Nat) : Int) := by rw [i32_of (by omega) (by omega)]; omega
  have bad := rd_bad hx N16
  have eiV := sp_V_isReach (n + 10) r m
  have eiM := sp_M_isReach (n + 10) r m
  by_cases hr : 0 ≤ r ∧ r ≤ 11
  · rw [if_pos hr] at eiV eiM
    by_cases hb : 0 ≤ x ∧ x < ((2 ^ N : Nat) : Int)
    · have q0 := bad.mpr hb
      obtain ⟨A, hA⟩ : ∃ A : Nat, x = (A : Int) := ⟨x.toNat, by omega⟩
      subst hA
      have A2 : A < 2 ^ N := by omega
      have eb := sp_bitCount (n + 11) A (by omega) m
      have eo := fun y => sp_ones (n + 11) A (by omega) y
      have x0 : ¬ (A : Int) < 0 := by omega
      have x1 : ¬ ((2 ^ N : Nat) : Int) ≤ (A : Int) := by omega
      by_cases hP : 7 < pop A
      · have hP : 7 < (pop A : Int) := by omega
        exact ⟨m, m, -2, vr_f (n + 12) m _ _ _ _ _ _ _ hN h1 h2 rfl q0 eiV eb hP, mr_f (n + 12) m _ _ _ _ _ hc h1 x0 x1 eiM (eo m) hP, Inv_same hI⟩
      · have P7 : pop A ≤ 7 := by omega
        have hP : ¬ 7 < (pop A : Int) := by omega
        by_cases h0 : (A : Int) = 0
        · exact ⟨m, m, -3, vr_n (n + 12) m _ _ _ _ _ _ _ hN h1 h2 rfl q0 eiV eb hP h0, mr_n (n + 12) m _ _ _ _ _ hc h1 x0 x1 eiM (eo m) hP h0, Inv_same hI⟩
        · have ab := rd_bits A2
          have cN : cnt (fun c => A.testBit c) N = pop A := by
            have := cnt_ext (p := fun c => A.testBit c) ab (17 - N)
            rw [show N + (17 - N) = 17 by omega] at this
            exact this.symm
          have c16 : cnt (fun c => A.testBit c) 16 = pop A := by
            have := cnt_ext (p := fun c => A.testBit c) ab (16 - N)
            rw [show N + (16 - N) = 16 by omega, cN] at this
            exact this
          obtain ⟨m1, e1, hn, fr, hg⟩ := sp_gather (n + 6) hR (Inv_ngt hI)
          have hI1 := Inv_gat hI fr hn
          have hR1 := Inv_rel hI1
          have hN1 : m1 79 6 = (N : Int) := by rw [fr.1 79 (by omega)]; exact hN
          obtain ⟨m2, e2, f2, ⟨g1, g2, g3, g4⟩, bC, q1, q2, q3, q4⟩ := sp_plan (n + 6) A r (Inv_ngt hI1) hR1 hg (by omega) hr N hN1 (by rw [cN]; exact P7)
          rw [cN] at g4 q1 q2 q3 q4
          have hR2 : Rel m2 m2 := Rel_congr hR1 (fun j a b => f2 j (by omega)) (fun j a b => f2 j (by omega))
          have fr2 : m2 132 53 = 0 ∨ m2 132 53 = 1 ∧ NgtR m2 m2 := by
            have a : m2 132 = m1 132 := f2 132 (by omega)
            rw [a]
            exact (Inv_fresh hI1).imp id (fun q => ⟨q.1, NgtR_congr q.2 (fun j a b => f2 j (by omega)) ⟨⟨fun j a b => f2 j (by omega), by rw [f2 17 (by omega)]⟩, f2 _ (by omega), f2 _ (by omega)⟩ ⟨f2 _ (by omega), f2 _ (by omega), by rw [f2 37 (by omega)]⟩ ⟨f2 _ (by omega), f2 _ (by omega), f2 _ (by omega), by rw [f2 37 (by omega)]⟩ (by rw [a]) (fun j a b => f2 j (by omega))⟩)
          obtain ⟨m3, e3, hr3, hf3, s3⟩ := sp_survey (n + 8) hR2 fr2
          have hR3 : Rel m3 m3 := Rel_congr hR2 (fun j a b => s3.1 j (by omega)) (fun j a b => s3.1 j (by omega))
          have hr33 : NgtR m3 m3 := NgtR_congr hr3 (fun j a b => s3.1 j (by omega)) ⟨⟨fun j a b => s3.1 j (by omega), by rw [s3.1 17 (by omega)]⟩, s3.1 _ (by omega), s3.1 _ (by omega)⟩ ⟨s3.1 _ (by omega), s3.1 _ (by omega), by rw [s3.1 37 (by omega)]⟩ ⟨s3.1 _ (by omega), s3.1 _ (by omega), s3.1 _ (by omega), by rw [s3.1 37 (by omega)]⟩ rfl (fun _ _ _ => rfl)
          obtain ⟨m4, w4⟩ : ∃ m4, bwr m3 132 78 1000000000 = m4 := ⟨_, rfl⟩
          have o4 : ∀ j, j ≠ 132 → m4 j = m3 j := fun j a => by rw [← w4, bwr_ne _ _ a]
          have p4 : ∀ k, k ≠ 78 → m4 132 k = m3 132 k := fun k a => by rw [← w4, bwr_ne2 _ a]
          have l4 : m4 132 78 = 1000000000 := by rw [← w4, bwr_eq2]
          have hR4 : Rel m4 m4 := Rel_congr hR3 (fun j a b => o4 j (by omega)) (fun j a b => o4 j (by omega))
          have hr4 : NgtR m4 m4 := NgtR_congr hr33 (fun j a b => o4 j (by omega)) ⟨⟨fun j a b => o4 j (by omega), by rw [o4 17 (by omega)]⟩, o4 _ (by omega), o4 _ (by omega)⟩ ⟨o4 _ (by omega), o4 _ (by omega), by rw [o4 37 (by omega)]⟩ ⟨o4 _ (by omega), o4 _ (by omega), o4 _ (by omega), by rw [o4 37 (by omega)]⟩ (p4 _ (by decide)) (fun j a b => o4 j (by omega))
          have c4 : ∀ j, j < 117 → m4 j = m1 j := fun j hj => by rw [o4 j (by omega), s3.1 j (by omega), f2 j (by omega)]
          have er : rcH m4 = rcH m1 := by funext c; unfold rcH; rw [c4 6 (by decide), c4 44 (by decide), c4 81 (by decide)]
          have ew : wcH m4 = wcH m1 := by
            funext c
            unfold wcH cHs cTh
            rw [pEach_congr (c1 := m4) (c := m1) (fun j a b => c4 j (by omega)) ⟨⟨fun j a b => c4 j (by omega), by rw [c4 17 (by decide)]⟩, c4 _ (by decide), c4 _ (by decide)⟩, c4 44 (by decide), c4 81 (by decide)]
          have U : rdU (fun j => !A.testBit j) N = pop A := by
            rw [← cN]
            unfold rdU
            exact cnt_congr (fun k _ => Bool.not_not _)
          obtain ⟨m5, e5, B5, _, Q5⟩ := sp_hears (n + 8 - pop A) N hR4 hr4 (by rw [c4 79 (by decide)]; exact hN1) (pop A) A 0 r 0 0 m4 (hrB_refl m4) A2 U (by omega) hr (by omega) (by omega)
          rw [show n + 8 - pop A + pop A + 4 = n + 12 by omega] at e5
          rw [er, ew, show rdMo 0 = 0 from rfl, show ∀ z : Int, (0 : Int) + 0 * z = 0 from fun z => by omega, Int.zero_add] at Q5
          obtain ⟨l5, _, b5⟩ := Q5.1 (by rw [l4]; omega)
          obtain ⟨m6, w6⟩ : ∃ m6, bwr m5 132 79 (pop A : Int) = m6 := ⟨_, rfl⟩
          have o6 : ∀ j, j ≠ 132 → m6 j = m5 j := fun j a => by rw [← w6, bwr_ne _ _ a]
          have p6 : ∀ k, k ≠ 79 → m6 132 k = m5 132 k := fun k a => by rw [← w6, bwr_ne2 _ a]
          have c6 : ∀ j, j ≠ 132 → j ≠ 193 → j ≠ 194 → m6 j = m3 j := fun j a b c => by rw [o6 j a, B5.1 j a b c, o4 j a]
          have hR6 : Rel m6 m6 := Rel_congr hR3 (fun j a b => c6 j (by omega) (by omega) (by omega)) (fun j a b => c6 j (by omega) (by omega) (by omega))
          have d6 : ∀ j, j < 117 → m6 j = m1 j := fun j hj => by rw [c6 j (by omega) (by omega) (by omega), s3.1 j (by omega), f2 j (by omega)]
          have hD1 := RelC_rtoday (Rel_c hR1)
          have n6 : m6 133 3 = m1 79 9 := by
            rw [c6 133 (by decide) (by decide) (by decide), s3.1 133 (by omega), f2 133 (by omega), RelN_today (Rel_n hR1)]
          obtain ⟨m7, ff7, dd7, ii7, uu7, e7, o7, r7, y7, x7, z7⟩ := sp_M_rows (n + 10) N (pop A) (A : Int) (m1 79 9) (rdS0 A r) (m0 := m1) (m := m6) hR6 N16 (fun c => by unfold rcH; rw [d6 6 (by decide), d6 44 (by decide), d6 81 (by decide)]) (by rw [← w6, bwr_eq2]) P7 (by show pop A ≤ rdU (fun j => !A.testBit j) N; omega) hr rfl hD1 (fun k hk => by
            rw [o6 194 (by decide)]
            have := b5 k hk
            rw [Nat.zero_add] at this
            exact this)
          obtain ⟨m8, w8⟩ : ∃ m8, bwr m7 132 80 (A : Int) = m8 := ⟨_, rfl⟩
          obtain ⟨m9, w9⟩ : ∃ m9, bwr m8 132 81 r = m9 := ⟨_, rfl⟩
          obtain ⟨ma, wa⟩ : ∃ ma, bwr m9 132 82 (m1 79 9) = ma := ⟨_, rfl⟩
          obtain ⟨mb, wb⟩ : ∃ mb, bwr ma 132 83 1 = mb := ⟨_, rfl⟩
          have ob : ∀ j, j ≠ 132 → mb j = m7 j := fun j a => by rw [← wb, bwr_ne _ _ a, ← wa, bwr_ne _ _ a, ← w9, bwr_ne _ _ a, ← w8, bwr_ne _ _ a]
          have pb : ∀ k, (k < 80 ∨ 83 < k) → mb 132 k = m7 132 k := fun k a => by rw [← wb, bwr_ne2 _ (by omega), ← wa, bwr_ne2 _ (by omega), ← w9, bwr_ne2 _ (by omega), ← w8, bwr_ne2 _ (by omega)]
          have t80 : mb 132 80 = (A : Int) := by rw [← wb, bwr_ne2 _ (by decide), ← wa, bwr_ne2 _ (by decide), ← w9, bwr_ne2 _ (by decide), ← w8, bwr_eq2]
          have t81 : mb 132 81 = r := by rw [← wb, bwr_ne2 _ (by decide), ← wa, bwr_ne2 _ (by decide), ← w9, bwr_eq2]
          have t82 : mb 132 82 = m1 79 9 := by rw [← wb, bwr_ne2 _ (by decide), ← wa, bwr_eq2]
          have t83 : mb 132 83 = 1 := by rw [← wb, bwr_eq2]
          have a7 : m7 132 = m6 132 := o7 132 (by decide) (by decide)
          have t79 : mb 132 79 = (pop A : Int) := by rw [pb _ (by decide), a7, ← w6, bwr_eq2]
          have t78 : mb 132 78 = rdC N (rcH m1) (wcH m1) (fun j => !A.testBit j) r 0 := by rw [pb _ (by decide), a7, p6 _ (by decide)]; exact l5
          have n9 : m9 133 3 = m1 79 9 := by rw [← w9, bwr_ne _ _ (by decide), ← w8, bwr_ne _ _ (by decide), o7 133 (by decide) (by decide)]; exact n6
          have hob : ∀ j, j ≠ 132 → j ≠ 193 → j ≠ 194 → j ≠ 195 → j ≠ 196 → mb j = m3 j := fun j a b c d e => by rw [ob j a, o7 j d e, c6 j a b c]
          have hpb : ∀ k, (k < 78 ∨ 83 < k) → mb 132 k = m3 132 k := fun k a => by rw [pb k (by omega), a7, p6 k (by omega), B5.2 k (by omega), p4 k (by omega)]
          have hrb : NgtR mb mb := NgtR_congr hr33 (fun j a b => hob j (by omega) (by omega) (by omega) (by omega) (by omega)) ⟨⟨fun j a b => hob j (by omega) (by omega) (by omega) (by omega) (by omega), by rw [hob 17 (by omega) (by omega) (by omega) (by omega) (by omega)]⟩, hob _ (by omega) (by omega) (by omega) (by omega) (by omega), hob _ (by omega) (by omega) (by omega) (by omega) (by omega)⟩ ⟨hob _ (by omega) (by omega) (by omega) (by omega) (by omega), hob _ (by omega) (by omega) (by omega) (by omega) (by omega), by rw [hob 37 (by omega) (by omega) (by omega) (by omega) (by omega)]⟩ ⟨hob _ (by omega) (by omega) (by omega) (by omega) (by omega), hob _ (by omega) (by omega) (by omega) (by omega) (by omega), hob _ (by omega) (by omega) (by omega) (by omega) (by omega), by rw [hob 37 (by omega) (by omega) (by omega) (by omega) (by omega)]⟩ (hpb _ (by decide)) (fun j a b => hob j (by omega) (by omega) (by omega) (by omega) (by omega))
          have T1 := Inv_tour hI1
          have tb : mb 117 = m2 117 := by rw [hob 117 (by decide) (by decide) (by decide) (by decide) (by decide), s3.1 117 (by omega)]
          have tc : mb 118 = m2 118 := by rw [hob 118 (by decide) (by decide) (by decide) (by decide) (by decide), s3.1 118 (by omega)]
          have td : mb 119 = m2 119 := by rw [hob 119 (by decide) (by decide) (by decide) (by decide) (by decide), s3.1 119 (by omega)]
          have mc : ∀ k, m6 195 k = m1 195 k := fun k => by rw [c6 195 (by decide) (by decide) (by decide), s3.1 195 (by omega), f2 195 (by omega)]
          have md : ∀ k, m6 196 k = m1 196 k := fun k => by rw [c6 196 (by decide) (by decide) (by decide), s3.1 196 (by omega), f2 196 (by omega)]
          have ht : TourOK mb := by
            refine ⟨⟨?_, ?_, ?_⟩, fun k hk => ?_, fun k hk => ?_, Or.inr ⟨t83, ?_, ?_, ?_, ?_, ?_, ?_, ?_, ?_, ?_, ?_, ?_⟩⟩
            · rw [t79, tb, g4]
            · rw [tb, g4]; omega
            · rw [tb, g4]; omega
            · rw [ob 195 (by decide), tc]
              by_cases z : k < pop A
              · rw [r7 k z, q1 k z]
              · rw [x7 k (by omega), mc, q3 k (by omega)]; exact TourOK_claim T1 k hk
            · rw [ob 196 (by decide), td]
              by_cases z : k < pop A
              · rw [y7 k z, q2 k z]
              · rw [z7 k (by omega), md, q4 k (by omega)]; exact TourOK_day T1 k hk
            · rw [tb, g1]; omega
            · rw [tb, g1]; omega
            · rw [t80, tb, g1]
            · rw [t81, tb, g2]
            · rw [tb, g2]; exact hr.1
            · rw [tb, g2]; exact hr.2
            · rw [t82, tb, g3]
            · rw [tb, g3]; exact hD1.1
            · rw [tb, g3]; exact hD1.2
            · rw [tb, g4, g1, tnc, c16]; omega
            · rw [tb, g1, tnc, c16]; exact P7
          refine ⟨m2, mb, _, vr_g (n + 12) m m1 m2 _ _ _ _ _ _ _ _ hN h1 h2 rfl q0 eiV eb hP h0 e1 e2, mr_g (n + 12) m2 m3 m4 m5 m6 m7 m8 m9 ma mb _ _ _ _ _ _ _ _ _ _ _ uu7 ?_ h1 x0 x1 (by have := sp_M_isReach (n + 10) r m2; rw [if_pos hr] at this; exact this) (eo m2) hP h0 e3 w4 e5 (eo m5) w6 n6 e7 w8 w9 n9 wa wb t78, Inv_rd hI1 (fun j hj => ?_) (fun k a b c => ?_) ?_ hrb ht⟩
          · rw [f2 133 (by omega), fr.1 133 (by omega)]; exact hc
          · rw [hob j (by omega) (by omega) (by omega) (by omega) (by omega), s3.1 j (by omega), f2 j (by omega)]
          · rw [hpb k c, s3.2 k a b, f2 132 (by omega)]
          · rw [hpb _ (by decide)]; exact hf3
    · have q0 : ¬ jand x (jxor ((2 ^ N - 1 : Nat) : Int) (-1)) = 0 := fun q => hb (bad.mp q)
      exact ⟨m, m, -1, vr_a (n + 12) m _ _ _ _ _ _ _ _ hN h1 h2 rfl rfl eiV (Or.inl q0), mr_a (n + 12) m _ _ _ _ _ hc h1 eiM (Or.inl (by omega)), Inv_same hI⟩
  · rw [if_neg hr] at eiV eiM
    exact ⟨m, m, -1, vr_a (n + 12) m _ _ _ _ _ _ _ _ hN h1 h2 rfl rfl eiV (Or.inr rfl), mr_a (n + 12) m _ _ _ _ _ hc h1 eiM (Or.inr rfl), Inv_same hI⟩
