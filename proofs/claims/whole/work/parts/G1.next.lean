/-! ===== read: the reference's next ===== -/
theorem kF_byte {T : Nat → Int} {L : Nat} (hT : ∀ k, k < 240 → 0 ≤ T k ∧ T k ≤ 255) (hL : L ≤ 240) (q : Int → Bool) (h0 : q (-1) = false) (i : Nat) : kP T L q i = q (if i < L then T i else -1) := by
  unfold kP
  by_cases z : i < L
  · rw [if_pos z, decide_eq_true z]; rfl
  · rw [if_neg z, decide_eq_false z, h0]; rfl
theorem lp_x1 (n : Nat) {T : Nat → Int} {L u : Nat} {m : bM} (hT : RfT T L m) (hu : u ≤ L) : L_M_next_1.1.2 (sem (n + 1)) [some (aR 132), none] (bwr m 132 66 (u : Int)) = some (.inl (0, [some (aR 132), none], bwr m 132 66 (kF T L u : Int))) := by
  have L240 := RfT_L240 hT
  obtain ⟨a1, a2, a3, a4⟩ := rnx_in (P := kP T L (fun b => decide (b = 32))) kP_lt 240 u (by omega)
  have a5 := kF_in (T := T) L240 hu
  have ef : kF T L u = rnx (kP T L (fun b => decide (b = 32))) 240 u := rfl
  rw [← ef] at a1 a3 a4
  have Tn : ∀ v, RfT T L (bwr m 132 66 v) := fun v => RfT_N hT (frN2_w (by decide))
  refine sLp_of (L := L_M_next_1) rfl ?_
  have E := lp_out (c := L_M_next_1c.1.2 (sem (n + 1))) (b := L_M_next_1b.1.2 (sem (n + 1))) (s := L_M_next_1s.1.2 (sem (n + 1))) (fun _ => [some (aR 132), none]) (fun k => bwr m 132 66 ((u + k : Nat) : Int)) (kF T L u - u) (by omega) (fun k hk => ?_) (ls' := [some (aR 132), none]) (m' := bwr m 132 66 ((u + (kF T L u - u) : Nat) : Int)) ?_
  · rw [show u + (kF T L u - u) = kF T L u by omega] at E
    exact E
  · have b := kP_tr (a4 (u + k) (by omega) (by omega))
    have b2 : T (u + k) = 32 := of_decide_eq_true b.2
    have k4 : u + k < 2147483647 := by omega
    have e1 := sp_byteAt n (Tn ((u + k : Nat) : Int)) (u + k)
    rw [if_pos b.1, b2] at e1
    exact bIt_go (x1_c (n + 1) _ _ none (bwr_eq2 _) e1) (x1_b (n + 1) _ _ _ ((u + (k + 1) : Nat) : Int) none (bwr_eq2 _) (i32_s k4) (bwr_bwr _ _ _ _ _)) (x1_s (n + 1) _ none)
  · rw [show u + (kF T L u - u) = kF T L u by omega]
    have e1 := sp_byteAt n (Tn (kF T L u : Int)) (kF T L u)
    refine bIt_ex (x1_x (n + 1) _ _ _ none (bwr_eq2 _) e1 ?_)
    rcases kP_fa a3 with q | ⟨q1, q2⟩
    · rw [if_neg q]; decide
    · rw [if_pos q1]; exact of_decide_eq_false q2
/-- what a run of letters or digits changes -/
def frR3 (m m2 : bM) : Prop := (∀ i, i ≠ 132 → m2 i = m i) ∧ ∀ k, k ≠ 66 → k ≠ 69 → k ≠ 70 → m2 132 k = m 132 k
theorem frR3_N {m m2 : bM} (h : frR3 m m2) : frN2 m m2 := ⟨h.1, fun k a => h.2 k (by omega) (by omega) (by omega)⟩
theorem hsh_b {d : Nat → Int} : ∀ {k : Nat}, k ≤ 8 → (∀ j, j < k → 97 ≤ d j ∧ d j ≤ 122) → 0 ≤ hsh d k ∧ hsh d k ≤ 300000000000 ∧ hsh d k < ((27 ^ k : Nat) : Int)
  | 0, _, _ => ⟨Int.le_refl _, by show (0 : Int) ≤ 300000000000; decide, by show (0 : Int) < ((1 : Nat) : Int); decide⟩
  | k + 1, h, e => by
    have ih := hsh_b (d := d) (k := k) (by omega) (fun j hj => e j (by omega))
    have b := e k (Nat.lt_succ_self _)
    rw [hsh_s (by omega)]
    have p : 27 ^ (k + 1) = 27 ^ k * 27 := Nat.pow_succ ..
    have q : 27 ^ (k + 1) ≤ 27 ^ 8 := Nat.pow_le_pow_right (by decide) h
    have q8 : (27 : Nat) ^ 8 = 282429536481 := by decide
    rw [p] at q ⊢
    rw [q8] at q
    refine ⟨by omega, ?_, ?_⟩
    · have : ((27 ^ k * 27 : Nat) : Int) ≤ ((282429536481 : Nat) : Int) := Int.ofNat_le.mpr q
      have : 27 * hsh d k + d k - 96 < ((27 ^ k * 27 : Nat) : Int) := by rw [Int.natCast_mul]; omega
      omega
    · rw [Int.natCast_mul]; omega
theorem i64_w {w b : Int} (h : 0 ≤ w ∧ w ≤ 300000000000) (hb : 0 ≤ b ∧ b ≤ 255) : i64 (27 * w) = 27 * w ∧ i64 (27 * w + b) = 27 * w + b ∧ i64 (27 * w + b - 96) = 27 * w + b - 96 := ⟨i64_of (by omega) (by omega), i64_of (by omega) (by omega), i64_of (by omega) (by omega)⟩
theorem i64_d {w b : Int} (h : 0 ≤ w ∧ w ≤ 300000000000) (hb : 0 ≤ b ∧ b ≤ 255) : i64 (10 * w) = 10 * w ∧ i64 (10 * w + b) = 10 * w + b ∧ i64 (10 * w + b - 48) = 10 * w + b - 48 := ⟨i64_of (by omega) (by omega), i64_of (by omega) (by omega), i64_of (by omega) (by omega)⟩
theorem c_240 {f k L : Nat} (h : f + k < L) (hL : L ≤ 240) : f + k < 240 ∧ f + k < 2147483647 ∧ k < 2147483647 := by omega
theorem s_lt {k c : Nat} (h : k < c) : (k : Int) < (c : Int) := by omega
theorem s_nlt {k c : Nat} (h : ¬ k < c) : ¬ (k : Int) < (c : Int) := by omega
theorem lp_x2 (n : Nat) {T : Nat → Int} {L f : Nat} {m : bM} (b0 : Int) (hT : RfT T L m) (hf : f ≤ L) (ht : m 132 67 = 1) (h1 : m 132 66 = (f : Int)) (h2 : m 132 69 = 0) (h3 : m 132 70 = 0) : ∃ m2, L_M_next_2.1.2 (sem (n + 2)) [some (aR 132), some (aI b0)] m = some (.inl (0, [some (aR 132), some (aI b0)], m2)) ∧ frR3 m m2 ∧ m2 132 66 = (kLe T L f : Int) ∧ m2 132 70 = hsh (fun j => T (f + j)) (kLe T L f - f) := by
  have L240 := RfT_L240 hT
  obtain ⟨a1, a2, a3, a4⟩ := rnx_in (P := kP T L rLt) kP_lt 240 f (by omega)
  have ef : kLe T L f = rnx (kP T L rLt) 240 f := rfl
  rw [← ef] at a1 a2 a3 a4
  have key := lp_m (c := L_M_next_2c.1.2 (sem (n + 2))) (b := L_M_next_2b.1.2 (sem (n + 2))) (s := L_M_next_2s.1.2 (sem (n + 2))) (fun _ => [some (aR 132), some (aI b0)]) (fun j mc => frR3 m mc ∧ mc 132 66 = ((f + j : Nat) : Int) ∧ mc 132 69 = (j : Int) ∧ mc 132 70 = hsh (fun j => T (f + j)) j) (kLe T L f - f) (by omega) (m := m) ⟨⟨fun _ _ => rfl, fun _ _ _ _ => rfl⟩, h1, h2, h3⟩ (fun j mc hj hQ => ?_) (fun mc hQ => ?_)
  · obtain ⟨m2, e2, g1, g2, g3, g4⟩ := key
    rw [show f + (kLe T L f - f) = kLe T L f by omega] at g2
    exact ⟨m2, sLp_of (L := L_M_next_2) rfl e2, g1, g2, g4⟩
  · obtain ⟨g1, g2, g3, g4⟩ := hQ
    have Tc := RfT_N hT (frR3_N g1)
    have b := kP_tr (a4 (f + j) (by omega) (by omega))
    have bb := rLt_in b.2
    have bT : 0 ≤ T (f + j) ∧ T (f + j) ≤ 255 := by omega
    obtain ⟨c1, c2, c3⟩ := c_240 b.1 L240
    have e1 := sp_byteAt (n + 1) Tc (f + j)
    rw [if_pos b.1] at e1
    have e2 := sp_in (n + 1) (T (f + j)) 97 122 mc
    rw [if_pos bb] at e2
    have tc : mc 132 67 = 1 := by rw [g1.2 67 (by decide) (by decide) (by decide)]; exact ht
    obtain ⟨z0, hz0⟩ : ∃ z0, hsh (fun j => T (f + j)) (j + 1) = z0 := ⟨_, rfl⟩
    have hz : ((j : Int) < 8 ∧ sem (n + 2) 282 [aR 132, aI ((f + j : Nat) : Int)] mc = some (mc, T (f + j)) ∧ i64 (27 * hsh (fun j => T (f + j)) j) = 27 * hsh (fun j => T (f + j)) j ∧ i64 (27 * hsh (fun j => T (f + j)) j + T (f + j)) = 27 * hsh (fun j => T (f + j)) j + T (f + j) ∧ i64 (27 * hsh (fun j => T (f + j)) j + T (f + j) - 96) = z0) ∨ (¬ (j : Int) < 8 ∧ z0 = -1) := by
      by_cases z : j < 8
      · have nn := hsh_b (d := fun j => T (f + j)) (k := j) (by omega) (fun i hi => rLt_in (kP_tr (a4 (f + i) (by omega) (by omega))).2)
        have st : hsh (fun j => T (f + j)) (j + 1) = 27 * hsh (fun j => T (f + j)) j + T (f + j) - 96 := hsh_s z
        have w := i64_w ⟨nn.1, nn.2.1⟩ bT
        rw [hz0] at st
        exact Or.inl ⟨s_lt z, e1, w.1, w.2.1, w.2.2.trans st.symm⟩
      · have st : hsh (fun j => T (f + j)) (j + 1) = -1 := hsh_9 z
        rw [hz0] at st
        exact Or.inr ⟨s_nlt z, st⟩
    obtain ⟨m1, w1⟩ : ∃ m1, bwr mc 132 70 z0 = m1 := ⟨_, rfl⟩
    obtain ⟨m2, w2⟩ : ∃ m2, bwr m1 132 69 ((j + 1 : Nat) : Int) = m2 := ⟨_, rfl⟩
    obtain ⟨m3, w3⟩ : ∃ m3, bwr m2 132 66 ((f + (j + 1) : Nat) : Int) = m3 := ⟨_, rfl⟩
    refine ⟨m3, bIt_go (x2_c (n + 2) mc _ _ (some (aI b0)) tc g2 e1 e2) (x2_b (n + 2) mc m1 m2 m3 _ (T (f + j)) _ _ _ _ 0 _ _ _ (some (aI b0)) g3 g4 g2 hz w1 (by rw [← w1, bwr_ne2 _ (by decide)]; exact g3) (i32_s c3) w2 (by rw [← w2, bwr_ne2 _ (by decide), ← w1, bwr_ne2 _ (by decide)]; exact g2) (i32_s c2) w3) (x2_s (n + 2) m3 (some (aI b0))), ⟨fun i a => ?_, fun i a b c => ?_⟩, ?_, ?_, ?_⟩
    · rw [← w3, bwr_ne _ _ a, ← w2, bwr_ne _ _ a, ← w1, bwr_ne _ _ a]; exact g1.1 i a
    · rw [← w3, bwr_ne2 _ a, ← w2, bwr_ne2 _ b, ← w1, bwr_ne2 _ c]; exact g1.2 i a b c
    · rw [← w3, bwr_eq2]
    · rw [← w3, bwr_ne2 _ (by decide), ← w2, bwr_eq2]
    · rw [← w3, bwr_ne2 _ (by decide), ← w2, bwr_ne2 _ (by decide), ← w1, bwr_eq2, hz0]
  · obtain ⟨g1, g2, g3, g4⟩ := hQ
    have Tc := RfT_N hT (frR3_N g1)
    rw [show f + (kLe T L f - f) = kLe T L f by omega] at g2
    have tc : mc 132 67 = 1 := by rw [g1.2 67 (by decide) (by decide) (by decide)]; exact ht
    have e1 := sp_byteAt (n + 1) Tc (kLe T L f)
    have e2 := sp_in (n + 1) (if kLe T L f < L then T (kLe T L f) else -1) 97 122 mc
    have nz : ¬ (97 ≤ (if kLe T L f < L then T (kLe T L f) else -1) ∧ (if kLe T L f < L then T (kLe T L f) else -1) ≤ 122) := by
      rcases kP_fa a3 with q | ⟨q1, q2⟩
      · rw [if_neg q]; decide
      · rw [if_pos q1]
        unfold rLt at q2
        exact of_decide_eq_false q2
    rw [if_neg nz] at e2
    exact bIt_ex (x2_x (n + 2) mc _ _ _ (some (aI b0)) tc (Or.inr ⟨rfl, g2, e1, e2⟩))
theorem lp_x2n (n : Nat) {m : bM} (b0 t : Int) (ht : m 132 67 = t) (h : ¬ t = 1) : L_M_next_2.1.2 (sem n) [some (aR 132), some (aI b0)] m = some (.inl (0, [some (aR 132), some (aI b0)], m)) :=
  sLp_of (L := L_M_next_2) rfl (lp_out (fun _ => [some (aR 132), some (aI b0)]) (fun _ => m) 0 (by decide) (fun k hk => absurd hk (Nat.not_lt_zero _)) (bIt_ex (x2_x n m t 0 0 (some (aI b0)) ht (Or.inl h))))
theorem lp_x3 (n : Nat) {T : Nat → Int} {L f : Nat} {m : bM} (b0 : Int) (hT : RfT T L m) (hf : f ≤ L) (ht : m 132 67 = 2) (h1 : m 132 66 = (f : Int)) (h2 : m 132 69 = 0) (h3 : m 132 70 = 0) : ∃ m2, L_M_next_3.1.2 (sem (n + 2)) [some (aR 132), some (aI b0)] m = some (.inl (0, [some (aR 132), some (aI b0)], m2)) ∧ frR3 m m2 ∧ m2 132 66 = (kDe T L f : Int) ∧ m2 132 70 = nsh (fun j => T (f + j)) (kDe T L f - f) := by
  have L240 := RfT_L240 hT
  obtain ⟨a1, a2, a3, a4⟩ := rnx_in (P := kP T L rDg) kP_lt 240 f (by omega)
  have ef : kDe T L f = rnx (kP T L rDg) 240 f := rfl
  rw [← ef] at a1 a2 a3 a4
  have key := lp_m (c := L_M_next_3c.1.2 (sem (n + 2))) (b := L_M_next_3b.1.2 (sem (n + 2))) (s := L_M_next_3s.1.2 (sem (n + 2))) (fun _ => [some (aR 132), some (aI b0)]) (fun j mc => frR3 m mc ∧ mc 132 66 = ((f + j : Nat) : Int) ∧ mc 132 69 = (j : Int) ∧ mc 132 70 = nsh (fun j => T (f + j)) j) (kDe T L f - f) (by omega) (m := m) ⟨⟨fun _ _ => rfl, fun _ _ _ _ => rfl⟩, h1, h2, h3⟩ (fun j mc hj hQ => ?_) (fun mc hQ => ?_)
  · obtain ⟨m2, e2, g1, g2, g3, g4⟩ := key
    rw [show f + (kDe T L f - f) = kDe T L f by omega] at g2
    exact ⟨m2, sLp_of (L := L_M_next_3) rfl e2, g1, g2, g4⟩
  · obtain ⟨g1, g2, g3, g4⟩ := hQ
    have Tc := RfT_N hT (frR3_N g1)
    have b := kP_tr (a4 (f + j) (by omega) (by omega))
    have bb := rDg_in b.2
    have bT : 0 ≤ T (f + j) ∧ T (f + j) ≤ 255 := by omega
    obtain ⟨c1, c2, c3⟩ := c_240 b.1 L240
    have e1 := sp_byteAt (n + 1) Tc (f + j)
    rw [if_pos b.1] at e1
    have e2 := sp_in (n + 1) (T (f + j)) 48 57 mc
    rw [if_pos bb] at e2
    have tc : mc 132 67 = 2 := by rw [g1.2 67 (by decide) (by decide) (by decide)]; exact ht
    obtain ⟨z0, hz0⟩ : ∃ z0, nsh (fun j => T (f + j)) (j + 1) = z0 := ⟨_, rfl⟩
    have hz : ((j : Int) < 3 ∧ sem (n + 2) 282 [aR 132, aI ((f + j : Nat) : Int)] mc = some (mc, T (f + j)) ∧ i64 (10 * nsh (fun j => T (f + j)) j) = 10 * nsh (fun j => T (f + j)) j ∧ i64 (10 * nsh (fun j => T (f + j)) j + T (f + j)) = 10 * nsh (fun j => T (f + j)) j + T (f + j) ∧ i64 (10 * nsh (fun j => T (f + j)) j + T (f + j) - 48) = z0) ∨ (¬ (j : Int) < 3 ∧ z0 = 1000000000) := by
      by_cases z : j < 3
      · have nn3 := (nsh_in (d := fun j => T (f + j)) (n := j) (fun i hi => rDg_in (kP_tr (a4 (f + i) (by omega) (by omega))).2)).2.2.1 (by omega)
        have nn : 0 ≤ nsh (fun j => T (f + j)) j ∧ nsh (fun j => T (f + j)) j ≤ 300000000000 := by omega
        have st : nsh (fun j => T (f + j)) (j + 1) = 10 * nsh (fun j => T (f + j)) j + T (f + j) - 48 := by
          show (if j < 3 then _ else _) = _
          rw [if_pos z]
        have w := i64_d nn bT
        rw [hz0] at st
        exact Or.inl ⟨s_lt z, e1, w.1, w.2.1, w.2.2.trans st.symm⟩
      · have st : nsh (fun j => T (f + j)) (j + 1) = 1000000000 := by
          show (if j < 3 then _ else _) = _
          rw [if_neg z]
        rw [hz0] at st
        exact Or.inr ⟨s_nlt z, st⟩
    obtain ⟨m1, w1⟩ : ∃ m1, bwr mc 132 70 z0 = m1 := ⟨_, rfl⟩
    obtain ⟨m2, w2⟩ : ∃ m2, bwr m1 132 69 ((j + 1 : Nat) : Int) = m2 := ⟨_, rfl⟩
    obtain ⟨m3, w3⟩ : ∃ m3, bwr m2 132 66 ((f + (j + 1) : Nat) : Int) = m3 := ⟨_, rfl⟩
    refine ⟨m3, bIt_go (x3_c (n + 2) mc _ _ (some (aI b0)) tc g2 e1 e2) (x3_b (n + 2) mc m1 m2 m3 _ (T (f + j)) _ _ _ _ 0 _ _ _ (some (aI b0)) g3 g4 g2 hz w1 (by rw [← w1, bwr_ne2 _ (by decide)]; exact g3) (i32_s c3) w2 (by rw [← w2, bwr_ne2 _ (by decide), ← w1, bwr_ne2 _ (by decide)]; exact g2) (i32_s c2) w3) (x3_s (n + 2) m3 (some (aI b0))), ⟨fun i a => ?_, fun i a b c => ?_⟩, ?_, ?_, ?_⟩
    · rw [← w3, bwr_ne _ _ a, ← w2, bwr_ne _ _ a, ← w1, bwr_ne _ _ a]; exact g1.1 i a
    · rw [← w3, bwr_ne2 _ a, ← w2, bwr_ne2 _ b, ← w1, bwr_ne2 _ c]; exact g1.2 i a b c
    · rw [← w3, bwr_eq2]
    · rw [← w3, bwr_ne2 _ (by decide), ← w2, bwr_eq2]
    · rw [← w3, bwr_ne2 _ (by decide), ← w2, bwr_ne2 _ (by decide), ← w1, bwr_eq2, hz0]
  · obtain ⟨g1, g2, g3, g4⟩ := hQ
    have Tc := RfT_N hT (frR3_N g1)
    rw [show f + (kDe T L f - f) = kDe T L f by omega] at g2
    have tc : mc 132 67 = 2 := by rw [g1.2 67 (by decide) (by decide) (by decide)]; exact ht
    have e1 := sp_byteAt (n + 1) Tc (kDe T L f)
    have e2 := sp_in (n + 1) (if kDe T L f < L then T (kDe T L f) else -1) 48 57 mc
    have nz : ¬ (48 ≤ (if kDe T L f < L then T (kDe T L f) else -1) ∧ (if kDe T L f < L then T (kDe T L f) else -1) ≤ 57) := by
      rcases kP_fa a3 with q | ⟨q1, q2⟩
      · rw [if_neg q]; decide
      · rw [if_pos q1]
        unfold rDg at q2
        exact of_decide_eq_false q2
    rw [if_neg nz] at e2
    exact bIt_ex (x3_x (n + 2) mc _ _ _ (some (aI b0)) tc (Or.inr ⟨rfl, g2, e1, e2⟩))
theorem lp_x3n (n : Nat) {m : bM} (b0 t : Int) (ht : m 132 67 = t) (h : ¬ t = 2) : L_M_next_3.1.2 (sem n) [some (aR 132), some (aI b0)] m = some (.inl (0, [some (aR 132), some (aI b0)], m)) :=
  sLp_of (L := L_M_next_3) rfl (lp_out (fun _ => [some (aR 132), some (aI b0)]) (fun _ => m) 0 (by decide) (fun k hk => absurd hk (Nat.not_lt_zero _)) (bIt_ex (x3_x n m t 0 0 (some (aI b0)) ht (Or.inl h))))
theorem frN2_e {m m2 : bM} {k : Nat} {v : Int} (w : bwr m 132 k v = m2) (h : 66 ≤ k ∧ k ≤ 70) : frN2 m m2 := by rw [← w]; exact frN2_w h
theorem sp_next (n : Nat) {T : Nat → Int} {L u : Nat} {m : bM} (hT : RfT T L m) (hu : u ≤ L) (hh : m 132 66 = (u : Int)) : ∃ m2, sem (n + 3) 221 [aR 132] m = some (m2, 0) ∧ frN2 m m2 ∧ RfS T L m2 u := by
  have L240 := RfT_L240 hT
  have T255 := RfT_T255 hT
  have kf := kF_in (T := T) L240 hu
  have l1 := lp_x1 (n + 1) hT hu
  rw [show bwr m 132 66 (u : Int) = m by rw [← hh]; exact bwr_self _ _ _] at l1
  obtain ⟨f, hf⟩ : ∃ f, kF T L u = f := ⟨_, rfl⟩
  rw [hf] at kf l1
  obtain ⟨m1, w1⟩ : ∃ m1, bwr m 132 66 (f : Int) = m1 := ⟨_, rfl⟩
  rw [w1] at l1
  obtain ⟨m2, w2⟩ : ∃ m2, bwr m1 132 68 (f : Int) = m2 := ⟨_, rfl⟩
  obtain ⟨m3, w3⟩ : ∃ m3, bwr m2 132 69 0 = m3 := ⟨_, rfl⟩
  obtain ⟨m4, w4⟩ : ∃ m4, bwr m3 132 70 0 = m4 := ⟨_, rfl⟩
  have A4 : frN2 m m4 := frN2_trans (frN2_trans (frN2_trans (frN2_e w1 (by decide)) (frN2_e w2 (by decide))) (frN2_e w3 (by decide))) (frN2_e w4 (by decide))
  have h1 : m1 132 66 = (f : Int) := by rw [← w1, bwr_eq2]
  have h4 : m4 132 66 = (f : Int) := by rw [← w4, bwr_ne2 _ (by decide), ← w3, bwr_ne2 _ (by decide), ← w2, bwr_ne2 _ (by decide)]; exact h1
  have a4 : m4 132 68 = (f : Int) := by rw [← w4, bwr_ne2 _ (by decide), ← w3, bwr_ne2 _ (by decide), ← w2, bwr_eq2]
  have s4 : m4 132 69 = 0 := by rw [← w4, bwr_ne2 _ (by decide), ← w3, bwr_eq2]
  have v4 : m4 132 70 = 0 := by rw [← w4, bwr_eq2]
  have T4 := RfT_N hT A4
  have eb := sp_byteAt (n + 1) T4 f
  obtain ⟨b, hb⟩ : ∃ b, (if f < L then T f else -1) = b := ⟨_, rfl⟩
  rw [hb] at eb
  have i1 := sp_in (n + 1) b 97 122 m4
  have i2 := sp_in (n + 1) b 48 57 m4
  -- the four kinds
  have fin : ∀ {m5 m6 m8 : bM} {t : Int}, ((b < 0 ∧ t = 0) ∨ (¬ b < 0 ∧ sem (n + 2) 201 [aI b, aI 97, aI 122] m4 = some (m4, 1) ∧ t = 1) ∨ (¬ b < 0 ∧ sem (n + 2) 201 [aI b, aI 97, aI 122] m4 = some (m4, 0) ∧ sem (n + 2) 201 [aI b, aI 48, aI 57] m4 = some (m4, 1) ∧ t = 2) ∨ (¬ b < 0 ∧ sem (n + 2) 201 [aI b, aI 97, aI 122] m4 = some (m4, 0) ∧ sem (n + 2) 201 [aI b, aI 48, aI 57] m4 = some (m4, 0) ∧ t = 3)) → bwr m4 132 67 t = m5 → ((¬ t = 3 ∧ m6 = m5) ∨ (t = 3 ∧ ∃ mx g, bwr m5 132 70 b = mx ∧ mx 132 66 = (f : Int) ∧ i32 ((f : Int) + 1) = g ∧ bwr mx 132 66 g = m6)) → ∀ {m7 : bM}, L_M_next_2.1.2 (sem (n + 2)) [some (aR 132), some (aI b)] m6 = some (.inl (0, [some (aR 132), some (aI b)], m7)) → L_M_next_3.1.2 (sem (n + 2)) [some (aR 132), some (aI b)] m7 = some (.inl (0, [some (aR 132), some (aI b)], m8)) → sem (n + 3) 221 [aR 132] m = some (m8, 0) := fun ht w5 h6 m7 e7 e8 => nxt_e (n + 2) m m1 m2 m3 m4 _ _ m7 _ (f : Int) b _ l1 h1 w2 w3 w4 h4 eb ht w5 (by rw [← w5, bwr_eq2]) h6 e7 e8
  by_cases z0 : L ≤ f
  · have hb0 : b < 0 := by rw [← hb, if_neg (by omega)]; decide
    have k0 : kKf T L f = 0 := by unfold kKf; rw [if_pos z0]
    have g0 : kG T L f = f := by unfold kG; rw [if_pos z0]
    have v0 : kWf T L f = 0 := by unfold kWf; rw [if_pos z0]
    obtain ⟨m5, w5⟩ : ∃ m5, bwr m4 132 67 0 = m5 := ⟨_, rfl⟩
    have t5 : m5 132 67 = 0 := by rw [← w5, bwr_eq2]
    refine ⟨m5, fin (Or.inl ⟨hb0, rfl⟩) w5 (Or.inl ⟨by decide, rfl⟩) (lp_x2n (n + 2) b 0 t5 (by decide)) (lp_x3n (n + 2) b 0 t5 (by decide)), frN2_trans A4 (by rw [← w5]; exact frN2_w (by decide)), ?_, ?_, ?_, ?_⟩
    · unfold kK; rw [t5, hf, k0]
    · rw [← w5, bwr_ne2 _ (by decide), hf]; exact a4
    · unfold kE; rw [← w5, bwr_ne2 _ (by decide), hf, g0]; exact h4
    · unfold kW; rw [← w5, bwr_ne2 _ (by decide), hf, v0]; exact v4
  · have fL : f < L := by omega
    have f31 : f < 2147483647 := by omega
    rw [if_pos fL] at hb
    have bT := T255 f (by omega)
    rw [hb] at bT
    have hb0 : ¬ b < 0 := by omega
    by_cases z1 : rLt (T f) = true
    · have bl := rLt_in z1
      rw [hb] at bl
      rw [if_pos bl] at i1
      obtain ⟨m5, w5⟩ : ∃ m5, bwr m4 132 67 1 = m5 := ⟨_, rfl⟩
      have t5 : m5 132 67 = 1 := by rw [← w5, bwr_eq2]
      have A5 : frN2 m4 m5 := by rw [← w5]; exact frN2_w (by decide)
      obtain ⟨m7, e7, f7, h7, v7⟩ := lp_x2 n b (RfT_N T4 A5) kf.2 t5 (by rw [← w5, bwr_ne2 _ (by decide)]; exact h4) (by rw [← w5, bwr_ne2 _ (by decide)]; exact s4) (by rw [← w5, bwr_ne2 _ (by decide)]; exact v4)
      have t7 : m7 132 67 = 1 := by rw [f7.2 67 (by decide) (by decide) (by decide)]; exact t5
      have k1 : kKf T L f = 1 := by unfold kKf; rw [if_neg z0, if_pos z1]
      have g1 : kG T L f = kLe T L f := by unfold kG; rw [if_neg z0, if_pos z1]
      have v1 : kWf T L f = hsh (fun j => T (f + j)) (kLe T L f - f) := by unfold kWf; rw [if_neg z0, if_pos z1]
      refine ⟨m7, fin (Or.inr (Or.inl ⟨hb0, i1, rfl⟩)) w5 (Or.inl ⟨by decide, rfl⟩) e7 (lp_x3n (n + 2) b 1 t7 (by decide)), frN2_trans A4 (frN2_trans A5 (frR3_N f7)), ?_, ?_, ?_, ?_⟩
      · unfold kK; rw [t7, hf, k1]
      · rw [f7.2 68 (by decide) (by decide) (by decide), ← w5, bwr_ne2 _ (by decide), hf]; exact a4
      · unfold kE; rw [hf, g1]; exact h7
      · unfold kW; rw [hf, v1]; exact v7
    · have nl : ¬ (97 ≤ b ∧ b ≤ 122) := by
        rw [← hb]
        unfold rLt at z1
        exact of_decide_eq_false (Bool.not_eq_true _ ▸ z1)
      rw [if_neg nl] at i1
      by_cases z2 : rDg (T f) = true
      · have bl := rDg_in z2
        rw [hb] at bl
        rw [if_pos bl] at i2
        obtain ⟨m5, w5⟩ : ∃ m5, bwr m4 132 67 2 = m5 := ⟨_, rfl⟩
        have t5 : m5 132 67 = 2 := by rw [← w5, bwr_eq2]
        have A5 : frN2 m4 m5 := by rw [← w5]; exact frN2_w (by decide)
        obtain ⟨m7, e7, f7, h7, v7⟩ := lp_x3 n b (RfT_N T4 A5) kf.2 t5 (by rw [← w5, bwr_ne2 _ (by decide)]; exact h4) (by rw [← w5, bwr_ne2 _ (by decide)]; exact s4) (by rw [← w5, bwr_ne2 _ (by decide)]; exact v4)
        have t7 : m7 132 67 = 2 := by rw [f7.2 67 (by decide) (by decide) (by decide)]; exact t5
        have k1 : kKf T L f = 2 := by unfold kKf; rw [if_neg z0, if_neg z1, if_pos z2]
        have g1 : kG T L f = kDe T L f := by unfold kG; rw [if_neg z0, if_neg z1, if_pos z2]
        have v1 : kWf T L f = nsh (fun j => T (f + j)) (kDe T L f - f) := by unfold kWf; rw [if_neg z0, if_neg z1, if_pos z2]
        refine ⟨m7, fin (Or.inr (Or.inr (Or.inl ⟨hb0, i1, i2, rfl⟩))) w5 (Or.inl ⟨by decide, rfl⟩) (lp_x2n (n + 2) b 2 t5 (by decide)) e7, frN2_trans A4 (frN2_trans A5 (frR3_N f7)), ?_, ?_, ?_, ?_⟩
        · unfold kK; rw [t7, hf, k1]
        · rw [f7.2 68 (by decide) (by decide) (by decide), ← w5, bwr_ne2 _ (by decide), hf]; exact a4
        · unfold kE; rw [hf, g1]; exact h7
        · unfold kW; rw [hf, v1]; exact v7
      · have nd : ¬ (48 ≤ b ∧ b ≤ 57) := by
          rw [← hb]
          unfold rDg at z2
          exact of_decide_eq_false (Bool.not_eq_true _ ▸ z2)
        rw [if_neg nd] at i2
        obtain ⟨m5, w5⟩ : ∃ m5, bwr m4 132 67 3 = m5 := ⟨_, rfl⟩
        obtain ⟨mx, wx⟩ : ∃ mx, bwr m5 132 70 b = mx := ⟨_, rfl⟩
        obtain ⟨m6, w6⟩ : ∃ m6, bwr mx 132 66 ((f + 1 : Nat) : Int) = m6 := ⟨_, rfl⟩
        have hx : mx 132 66 = (f : Int) := by rw [← wx, bwr_ne2 _ (by decide), ← w5, bwr_ne2 _ (by decide)]; exact h4
        have t6 : m6 132 67 = 3 := by rw [← w6, bwr_ne2 _ (by decide), ← wx, bwr_ne2 _ (by decide), ← w5, bwr_eq2]
        have A6 : frN2 m4 m6 := frN2_trans (frN2_trans (frN2_e w5 (by decide)) (frN2_e wx (by decide))) (frN2_e w6 (by decide))
        have k1 : kKf T L f = 3 := by unfold kKf; rw [if_neg z0, if_neg z1, if_neg z2]
        have g1 : kG T L f = f + 1 := by unfold kG; rw [if_neg z0, if_neg z1, if_neg z2]
        have v1 : kWf T L f = T f := by unfold kWf; rw [if_neg z0, if_neg z1, if_neg z2]
        refine ⟨m6, fin (Or.inr (Or.inr (Or.inr ⟨hb0, i1, i2, rfl⟩))) w5 (Or.inr ⟨rfl, mx, _, wx, hx, i32_s f31, w6⟩) (lp_x2n (n + 2) b 3 t6 (by decide)) (lp_x3n (n + 2) b 3 t6 (by decide)), frN2_trans A4 A6, ?_, ?_, ?_, ?_⟩
        · unfold kK; rw [t6, hf, k1]
        · rw [← w6, bwr_ne2 _ (by decide), ← wx, bwr_ne2 _ (by decide), ← w5, bwr_ne2 _ (by decide), hf]; exact a4
        · unfold kE; rw [hf, g1, ← w6, bwr_eq2]
        · unfold kW; rw [hf, v1, ← w6, bwr_ne2 _ (by decide), ← wx, bwr_eq2, hb]
