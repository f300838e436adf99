/-! ===== one minute of the class ===== -/
theorem minute (n : Nat) {c r : bM} (hV : RelV c r) (hS : RelS c r) (hF : RelF c r) {w : Nat} (hw : w < 3) {s g f : Int} (hs : 0 ≤ s ∧ s ≤ 29) (hg : 0 ≤ g ∧ g ≤ 99) {k : Nat} (hk : k < 180) {m : bM} (h : NI c w s g f k m) : ∃ m1 m2 m3 m5 m6 mv, sem (n + 2) 250 [aR 93, aI (k : Int)] m = some (m1, nOut c w s g f k (nS c w s g f k).1) ∧ sem (n + 2) 251 [aR 93, aI (nOut c w s g f k (nS c w s g f k).1)] m1 = some (m2, mv) ∧ sem (n + 2) 252 [aR 93] m2 = some (m3, 0) ∧ sem (n + 2) 253 [aR 93, aI (k : Int)] (bwr m3 93 11 0) = some (m5, 0) ∧ sem (n + 2) 254 [aR 93] m5 = some (m6, 0) ∧ NI c w s g f (k + 1) m6 ∧ (mv = 0 → ∀ r, r < 12 → gos (nS c w s g f k) r = 0) ∧ fr93 m m6 := by
  obtain ⟨n1, n2, n3, n4, n5, n6, n7, n8, n9, n10, n11, n12, n13, n14, n15⟩ := h
  have hok := nS_ok hV hw (s := s) (f := f) hg.1 k
  have hok1 := nS_ok hV hw (s := s) (f := f) hg.1 (k + 1)
  have hout := nOut_in hV hw (s := s) (f := f) (k := k) hg.1 (NOK_p hok)
  have hp9 : (nS c w s g f k).1 ≤ 9999 := by
    have := NOK_s hok
    have := smN_nn 12 (NOK_w hok)
    omega
  have hHs := RelV_rhouses hV
  have hTs := RelF_rthings hF
  have hRs := RelS_rrows hS
  obtain ⟨H, hH⟩ : ∃ H : Nat, c 1 10 = (H : Int) := ⟨(c 1 10).toNat, by omega⟩
  obtain ⟨T, hT⟩ : ∃ T : Nat, c 37 14 = (T : Int) := ⟨(c 37 14).toNat, by omega⟩
  obtain ⟨R, hR⟩ : ∃ R : Nat, c 17 9 = (R : Int) := ⟨(c 17 9).toNat, by omega⟩
  have eH : nHs c = H := by unfold nHs; rw [hH]; exact tnc H
  have eT : nTh c = T := by unfold nTh; rw [hT]; exact tnc T
  have eR : nRw c = R := by unfold nRw; rw [hR]; exact tnc R
  have hH10 : H ≤ 10 := by omega
  have hT12 : T ≤ 12 := by omega
  have hR16 : R ≤ 16 := by omega
  -- (1)
  have s1 := sp_comesOut n w hw hV n1 n2 n3 n4 n5 n6 ⟨NOK_p hok, hp9⟩ hs hg k hk
  obtain ⟨m1, hm1⟩ : ∃ m1, m1 = bwr m 93 12 ((nS c w s g f k).1 - nOut c w s g f k (nS c w s g f k).1) := ⟨_, rfl⟩
  rw [← hm1] at s1
  have o1 : ∀ i, i ≠ 93 → m1 i = m i := fun i hi => by rw [hm1]; exact bwr_ne _ _ hi
  have p1 : ∀ k, k ≠ 12 → m1 93 k = m 93 k := fun k hk => by rw [hm1]; exact bwr_ne2 _ hk
  have q1 : m1 93 12 = (nS c w s g f (k + 1)).1 := by rw [hm1]; exact bwr_eq2 _
  -- (2)
  obtain ⟨F, hF1, hF2, hF3⟩ := n8
  obtain ⟨m2, s2, a1, ⟨F2, b1, b2, b3⟩, a3, a4⟩ := sp_flow (n + 1) (m := m1) hok hout (fun x hx => by rw [o1 _ (by decide)]; exact n7 x hx) (fun x hx => by rw [o1 _ (by decide)]; exact n9 x hx) F (by rw [p1 _ (by decide)]; exact hF1) hF2 hF3
  have a1' : ∀ x, x < 12 → m2 94 x = (nS c w s g f (k + 1)).2.1 x := a1
  have b3' : ∀ x, F2 ≤ x → x < 12 → (nS c w s g f (k + 1)).2.1 x = 0 := b3
  have hb2 : bse c m2 := fun i hi => by rw [a4 i (by omega) (by omega), o1 i (by omega)]; exact n1 i hi
  -- (3)
  have hhome : ∀ t, t < T → tHome c t < 12 := fun t ht => by
    have h1 := RelF_rtof hF t (by omega)
    have h2 := RelV_rhAt hV (tHm c t) (by unfold tHm; omega)
    unfold tHome
    omega
  obtain ⟨m3, s3, c1, c2, c3, c4⟩ := sp_carry n hV hF hb2 (wt := (nS c w s g f (k + 1)).2.1) (fun x hx => ⟨a1' x hx, NOK_wt hok1 hx⟩) (tFlo c (nD c w s g f) (nS c w s g f k).2.2.2 k) (tPos c (nD c w s g f) (nS c w s g f k).2.2.2 k) T hT (by rw [a3 _ (by decide), p1 _ (by decide), n15, eT]) (fun t ht => by
    refine ⟨?_, tPos_12 (Nat.le_of_lt (hhome t ht)), fun q => tFlo_12 q⟩
    rw [a4 _ (by decide) (by decide), o1 _ (by decide)]
    exact n14 t (by rw [eT]; exact ht))
  -- (4)
  obtain ⟨m4, hm4⟩ : ∃ m4, m4 = bwr m3 93 11 0 := ⟨_, rfl⟩
  have o4 : ∀ i, i ≠ 93 → m4 i = m3 i := fun i hi => by rw [hm4]; exact bwr_ne _ _ hi
  have p4 : ∀ k, k ≠ 11 → m4 93 k = m3 93 k := fun k hk => by rw [hm4]; exact bwr_ne2 _ hk
  have base4 : ∀ i, i ≠ 93 → i ≠ 94 → i ≠ 100 → m4 i = m i := fun i a b d => by rw [o4 i a, c4 i a d, a4 i a b, o1 i a]
  have hb4 : bse c m4 := fun i hi => by rw [base4 i (by omega) (by omega) (by omega)]; exact n1 i hi
  obtain ⟨X, hX⟩ : ∃ X : Nat → Int, X = fun y => (nS c w s g f (k + 1)).2.1 y / c 2 y := ⟨_, rfl⟩
  have XD : ∀ y, X y = nD c w s g f k y := fun y => by rw [hX]; rfl
  obtain ⟨Pk, hPk⟩ : ∃ Pk : Nat → Int, Pk = fun y => mxx (fun j => nD c w s g f j y) k := ⟨_, rfl⟩
  have PkE : ∀ y, Pk y = mxx (fun j => nD c w s g f j y) k := fun y => by rw [hPk]
  obtain ⟨up, hup⟩ : ∃ up : Nat → Bool, up = fun y => decide (Pk y < X y) := ⟨_, rfl⟩
  have upE : ∀ y, (up y = true) ↔ (mxx (fun j => nD c w s g f j y) k < nD c w s g f k y) := fun y => by rw [hup, ← PkE, ← XD]; exact decide_eq_true_iff
  obtain ⟨m5, s5, rs⟩ := sp_rise n k hk hV hS hb4 hX hup (fun x hx => ⟨by rw [o4 _ (by decide), c4 _ (by decide) (by decide)]; exact a1' x hx, NOK_wt hok1 hx⟩) (fun x hx => by
      rw [PkE]
      exact mxx_in (by decide) (fun j => (nD_in hV hw (s := s) (f := f) hg.1 j hx).2) k) (fun x hx => by rw [PkE, base4 _ (by decide) (by decide) (by decide)]; exact n10 x hx) (fun x hx => by rw [base4 _ (by decide) (by decide) (by decide), n9 x hx]; exact NOK_l hok x hx) H hH R hR F2 (by rw [p4 _ (by decide), c3 _ (by decide)]; exact b1) b2 (by rw [hm4]; exact bwr_eq2 _)
  obtain ⟨r1, r2, r3, r4, r5, r6, r7, r8⟩ := rs
  have m98 : m4 98 = m 98 := base4 _ (by decide) (by decide) (by decide)
  have m99 : m4 99 = m 99 := base4 _ (by decide) (by decide) (by decide)
  -- dry reaches don't rise
  have dry : ∀ y, F2 ≤ y → y < 12 → up y = false := fun y h1 h2 => by
    cases hq : up y with
    | false => rfl
    | true =>
      have h3 := (upE y).mp hq
      have h4 : nD c w s g f k y = 0 := by
        show (nS c w s g f (k + 1)).2.1 y / c 2 y = 0
        rw [b3' y h1 h2]; exact Int.zero_ediv _
      have h5 := mxx_nn (fun j => nD c w s g f j y) k
      rw [h4] at h3
      omega
  have lu : ∀ y, y < 12 → ((y < F2 ∧ up y = true) ↔ (up y = true)) := fun y hy => by
    constructor
    · exact fun q => q.2
    · intro q
      refine ⟨?_, q⟩
      rcases Nat.lt_or_ge y F2 with h1 | h1
      · exact h1
      · rw [dry y h1 hy] at q; cases q
  have rch : ∀ h, h < 10 → (c 6 h).toNat < 12 := fun h hh => by have := RelV_rhAt hV h hh; omega
  have fe : ∀ h, h < H → m 98 h = oM3 (ff (fun j => decide (c 7 h ≤ nD c w s g f j (c 6 h).toNat)) k) := fun h hh => by rw [n12 h (by omega), if_pos (by rw [eH]; exact hh)]
  have str1 : ∀ h, h < H → 1 ≤ c 7 h := fun h hh => RelV_rstr1 hV h (by omega) (by rw [hH]; omega)
  -- a house is hit when it falls
  have hitF : ∀ h, h < H → rhit c up X (m 98) F2 h = nFl c (nS c w s g f (k + 1)).2.1 (nS c w s g f k).2.2.2 h := fun h hh => by
    have l1 := rch h (by omega)
    rw [nFl_ff h (by rw [eH]; exact hh)]
    unfold rhit
    rw [XD, fe h hh]
    by_cases q1 : up (c 6 h).toNat = true
    · have q2 := ((lu _ l1).mpr q1).1
      rw [q1]
      simp [q2]
    · have q2 : up (c 6 h).toNat = false := by simpa using q1
      rw [q2]
      simp only [Bool.false_and, Bool.and_false]
      symm
      rw [Bool.and_eq_false_iff]
      by_cases q3 : oM3 (ff (fun j => decide (c 7 h ≤ nD c w s g f j (c 6 h).toNat)) k) = -3
      · right
        have q4 := (ff_lt (str1 h hh)).mp (oM3_n.mp q3)
        have q5 : ¬ mxx (fun j => nD c w s g f j (c 6 h).toNat) k < nD c w s g f k (c 6 h).toNat := fun z => q1 ((upE _).mpr z)
        exact decide_eq_false (by omega)
      · left
        exact decide_eq_false q3
  -- (5)
  have now5 : m5 93 11 = ((bst (rhit c up X (m 98) F2) H : Nat) : Int) := by rw [r6, m98]
  have hb5 : bse c m5 := fun i hi => by rw [r8 i (by omega) (by omega) (by omega) (by omega) (by omega) (by omega)]; exact hb4 i hi
  obtain ⟨m6, s6, d1, d2, d3⟩ := sp_launch (n + 1) hF hb5 (fun t => tFlo c (nD c w s g f) (nS c w s g f k).2.2.2 k t && (decide (c 46 t ≤ (nS c w s g f (k + 1)).2.1 (tPos c (nD c w s g f) (nS c w s g f k).2.2.2 k t) / c 2 (tPos c (nD c w s g f) (nS c w s g f k).2.2.2 k t)) && decide (tPos c (nD c w s g f) (nS c w s g f k).2.2.2 k t + 1 < 12))) T hT (by rw [r7 _ (by decide), p4 _ (by decide)]; exact c2) _ now5 (bst_lt31 _ (by omega))
  have Zb : ∀ t, (bst (rhit c up X (m 98) F2) H).testBit (tHm c t) = (decide (tHm c t < nHs c) && nFl c (nS c w s g f (k + 1)).2.1 (nS c w s g f k).2.2.2 (tHm c t)) := fun t => by
    rw [bst_bit, eH]
    by_cases q : tHm c t < H
    · rw [hitF _ q]
    · simp [q]
  have lift : ∀ i, i ≠ 93 → i ≠ 95 → i ≠ 96 → i ≠ 97 → i ≠ 98 → i ≠ 99 → m6 i = m4 i := fun i a1 a2 a3 a4 a5 a6 => by rw [d3 i a1, r8 i a1 a2 a3 a4 a5 a6]
  have lob : ∀ x, x ≠ 10 → x ≠ 11 → m6 93 x = m3 93 x := fun x h1 h2 => by rw [d2 x h1, r7 x h2, p4 x h2]
  refine ⟨m1, m2, m3, m5, m6, _, s1, s2, s3, ?_, s6, ?_, ?_, ?_⟩
  · rw [← hm4]; exact s5
  · refine ⟨?_, ?_, ?_, ?_, ?_, ?_, fun x hx => ?_, ⟨F2, ?_, b2, b3'⟩, fun x hx => ?_, fun x hx => ?_, fun x hx => ?_, fun h hh => ?_, fun q hq hkd => ?_, fun t ht => ?_, ?_⟩
    · exact fun i hi => by rw [lift i (by omega) (by omega) (by omega) (by omega) (by omega) (by omega)]; exact hb4 i hi
    · rw [lob _ (by decide) (by decide), c3 _ (by decide), a3 _ (by decide), p1 _ (by decide)]; exact n2
    · rw [lob _ (by decide) (by decide), c3 _ (by decide), a3 _ (by decide), p1 _ (by decide)]; exact n3
    · rw [lob _ (by decide) (by decide), c3 _ (by decide), a3 _ (by decide), p1 _ (by decide)]; exact n4
    · rw [lob _ (by decide) (by decide), c3 _ (by decide), a3 _ (by decide), p1 _ (by decide)]; exact n5
    · rw [lob _ (by decide) (by decide), c3 _ (by decide), a3 _ (by decide)]; exact q1
    · rw [lift _ (by decide) (by decide) (by decide) (by decide) (by decide) (by decide), o4 _ (by decide), c4 _ (by decide) (by decide)]; exact a1' x hx
    · rw [lob _ (by decide) (by decide), c3 _ (by decide)]; exact b1
    · rw [d3 _ (by decide), r5 x hx, base4 95 (by decide) (by decide) (by decide), n9 x hx, nS_l, eH]
      have e0 : ∀ h, h < H → hitB c x (m 98) (X x) h = (decide (c 6 h = (x : Int)) && (decide (oM3 (ff (fun j => decide (c 7 h ≤ nD c w s g f j (c 6 h).toNat)) k) = -3) && decide (c 7 h ≤ nD c w s g f k x))) := fun h hh => by
        unfold hitB; rw [XD, fe h hh]
      have e1 : ∀ h, h < H → hitB c x (m 98) (X x) h = (nFl c (nS c w s g f (k + 1)).2.1 (nS c w s g f k).2.2.2 h && decide (x = (c 6 h).toNat)) := fun h hh => by
        have rr := RelV_rhAt hV h (by omega)
        rw [e0 h hh, nFl_ff h (by rw [eH]; exact hh)]
        by_cases q : c 6 h = (x : Int)
        · rw [q, tnc]; simp
        · have q2 : ¬ x = (c 6 h).toNat := by omega
          simp [q, q2]
      rw [nSl_rgh _ _ x (hitB c x (m 98) (X x)) H e1]
      by_cases q : x < F2 ∧ up x = true
      · rw [if_pos q, m98]
      · rw [if_neg q]
        symm
        apply rghF_none
        intro h hh
        rw [e0 h hh]
        by_cases q1 : c 6 h = (x : Int)
        · have q2 : ¬ up x = true := fun z => q ((lu x hx).mpr z)
          have q3 : ¬ mxx (fun j => nD c w s g f j x) k < nD c w s g f k x := fun z => q2 ((upE x).mpr z)
          rw [q1, tnc]
          by_cases q4 : oM3 (ff (fun j => decide (c 7 h ≤ nD c w s g f j x)) k) = -3
          · have q5 := (ff_lt (str1 h hh)).mp (oM3_n.mp q4)
            have q6 : ¬ c 7 h ≤ nD c w s g f k x := by omega
            simp [q6]
          · simp [q4]
        · simp [q1]
    · rw [d3 _ (by decide), r1 x hx, mxx_s]
      simp only [lu x hx]
      simp only [upE x, XD, PkE]
    · rw [d3 _ (by decide), r2 x hx, base4 _ (by decide) (by decide) (by decide), n11 x hx, ff_nx (by decide : (1 : Int) ≤ 1) k]
      have e0 : (x < F2 ∧ up x = true ∧ Pk x = 0) ↔ (mxx (fun j => nD c w s g f j x) k < nD c w s g f k x ∧ oM3 (ff (fun j => decide (1 ≤ nD c w s g f j x)) k) = -3 ∧ 1 ≤ nD c w s g f k x) := by
        have p0 := mxx_nn (fun j => nD c w s g f j x) k
        rw [oM3_n, ff_lt (by decide : (1 : Int) ≤ 1), ← PkE]
        rw [← PkE] at p0
        constructor
        · rintro ⟨z1, z2, z3⟩
          have z4 := (upE x).mp z2
          rw [← PkE] at z4
          refine ⟨z4, by omega, by omega⟩
        · rintro ⟨z1, z2, z3⟩
          have z5 : up x = true := (upE x).mpr (by rw [← PkE]; exact z1)
          exact ⟨((lu x hx).mpr z5).1, z5, by omega⟩
      simp only [e0]
    · rw [d3 _ (by decide), r3 h, m98]
      by_cases q : h < H
      · have eh : h < nHs c := by rw [eH]; exact q
        rw [if_pos eh, ff_nx (str1 h q) k, hitF h q, nFl_ff h eh, fe h q]
        have e0 : (h < H ∧ (decide (oM3 (ff (fun j => decide (c 7 h ≤ nD c w s g f j (c 6 h).toNat)) k) = -3) && decide (c 7 h ≤ nD c w s g f k (c 6 h).toNat)) = true) ↔ (mxx (fun j => nD c w s g f j (c 6 h).toNat) k < nD c w s g f k (c 6 h).toNat ∧ oM3 (ff (fun j => decide (c 7 h ≤ nD c w s g f j (c 6 h).toNat)) k) = -3 ∧ c 7 h ≤ nD c w s g f k (c 6 h).toNat) := by
          rw [Bool.and_eq_true, decide_eq_true_eq, decide_eq_true_eq]
          constructor
          · rintro ⟨_, z2, z3⟩
            have z4 := (ff_lt (str1 h q)).mp (oM3_n.mp z2)
            exact ⟨by omega, z2, z3⟩
          · rintro ⟨_, z2, z3⟩
            exact ⟨q, z2, z3⟩
        simp only [e0]
      · rw [if_neg (fun z => q z.1), n12 h hh, if_neg (by rw [eH]; exact q)]
        rw [if_neg (by rw [eH]; exact q)]
    · have hq' : q < R := by rw [← eR]; exact hq
      have cl := RelS_rclk hS q (by omega) hkd
      have pl := RelS_rplace hS q (by omega)
      have l1 : (c 19 q).toNat < 12 := by omega
      rw [d3 _ (by decide), r4 q, m99, n13 q hq hkd, ff_nx cl.1 k]
      have e0 : (q < R ∧ rstp c up X (m 99) F2 q = true) ↔ (mxx (fun j => nD c w s g f j (c 19 q).toNat) k < nD c w s g f k (c 19 q).toNat ∧ oM3 (ff (fun j => decide (c 23 q ≤ nD c w s g f j (c 19 q).toNat)) k) = -3 ∧ c 23 q ≤ nD c w s g f k (c 19 q).toNat) := by
        unfold rstp
        rw [n13 q hq hkd, XD]
        simp only [Bool.and_eq_true, decide_eq_true_eq, hkd, true_and]
        rw [← upE]
        constructor
        · rintro ⟨_, z1, z2, z3, z4⟩
          exact ⟨z2, z3, z4⟩
        · rintro ⟨z2, z3, z4⟩
          exact ⟨hq', ((lu _ l1).mpr z2).1, z2, z3, z4⟩
      simp only [e0]
    · have ht' : t < T := by rw [← eT]; exact ht
      rw [lift _ (by decide) (by decide) (by decide) (by decide) (by decide) (by decide), o4 _ (by decide), c1 t ht', tPos_nx]
      rfl
    · rw [d1, eT]
      congr 1
      exact bst_congr (fun t ht => tFlo_nx t (hhome t ht) _ (Zb t))
  · intro hz y hy
    have g0 : ∀ r, r < F → gos (nS c w s g f k) r = 0 := smN_0 (fun r hr => (gos_in hok (by omega)).1) hz
    rcases Nat.lt_or_ge y F with h1 | h1
    · exact g0 y h1
    · unfold gos
      rw [hF3 y h1 hy]
      exact Int.zero_ediv _
  · intro i hi
    rw [lift i (by omega) (by omega) (by omega) (by omega) (by omega) (by omega)]
    exact base4 i (by omega) (by omega) (by omega)
