/-! ===== counts ===== -/
theorem lt_s3 {h k : Nat} (w : ¬ h = k) : (h < k + 1) = (h < k) := propext (by omega)
theorem c1_l (n : Nat) {c m : bM} {q : Nat} (hq : RQ c q m) (H : Nat) (hH : m 133 5 = (H : Int)) (hH2 : H ≤ 10) (hv : ∀ h, h < 10 → 0 ≤ m 186 h ∧ m 186 h ≤ 1000) (qI : Int) (x3 x4 : Option bV) : ∃ m2, L_M_counts_1.1.2 (sem n) [some (aR 132), some (aI qI), some (aI 0), x3, x4] m = some (.inl (0, [some (aR 132), some (aI qI), some (aI (H : Int)), x3, x4], m2)) ∧ (∀ i, i ≠ 186 → m2 i = m i) ∧ ∀ h, m2 186 h = if h < H then m 186 h + (if qFell c q h = true then 1 else 0) else m 186 h := by
  unfold L_M_counts_1
  rw [d_sLp]
  refine lp_m (fun k => [some (aR 132), some (aI qI), some (aI (k : Int)), x3, x4]) (fun k m2 => (∀ i, i ≠ 186 → m2 i = m i) ∧ ∀ h, m2 186 h = if h < k then m 186 h + (if qFell c q h = true then 1 else 0) else m 186 h) H (by omega) ⟨fun _ _ => rfl, fun h => by rw [if_neg (Nat.not_lt_zero h)]⟩ (fun k m1 hk h1 => ?_) (fun m1 h1 => bIt_ex (c1_x n m1 _ _ _ _ _ (by rw [h1.1 _ (by decide)]; exact hH) (Int.lt_irrefl _)))
  obtain ⟨h1, h2⟩ := h1
  have k10 : k < 10 := by omega
  have f1 : (k : Int) < (H : Int) := by omega
  have v := hv k k10
  have w := h2 k
  rw [if_neg (Nat.lt_irrefl k)] at w
  have fE : (if 0 ≤ qF c q k then (1 : Int) else 0) = if qFell c q k = true then 1 else 0 := by
    unfold qFell
    simp only [decide_eq_true_eq]
  have y1 : -2147483648 ≤ m 186 k + (if qFell c q k = true then 1 else 0) ∧ m 186 k + (if qFell c q k = true then 1 else 0) < 2147483648 := by split <;> omega
  have x1 : i32 (m 186 k + if 0 ≤ qF c q k then 1 else 0) = m 186 k + (if qFell c q k = true then 1 else 0) := by rw [fE]; exact i32_of y1.1 y1.2
  refine ⟨bwr m1 186 k (m 186 k + (if qFell c q k = true then 1 else 0)), bIt_go (m1 := m1) (c1_c n m1 _ _ _ _ _ (by rw [h1 _ (by decide)]; exact hH) f1) (c1_b n m1 _ _ _ _ _ _ _ k (h_f2 hk hH2) (tnc k) (by rw [h1 _ (by decide)]; exact RQ_fall hq k k10) w x1) (c1_s n _ _ _ _ _ _ (i32_s (kS k10 (by decide)))), fun i hi => by rw [bwr_ne _ _ hi]; exact h1 i hi, fun h => ?_⟩
  rw [bwr_if]
  by_cases z : h = k
  · rw [if_pos z, z, if_pos (Nat.lt_succ_self k)]
  · rw [if_neg z, h2 h]; simp only [lt_s3 z]
theorem q12b {q : Nat} (hq : q < 90) : i32 (12 * (q : Int)) = ((12 * q : Nat) : Int) := by
  have y4 : 12 * (q : Int) = ((12 * q : Nat) : Int) := by omega
  have y5 : -2147483648 ≤ ((12 * q : Nat) : Int) ∧ ((12 * q : Nat) : Int) < 2147483648 := by omega
  rw [y4]; exact i32_of y5.1 y5.2
theorem c2_l (n : Nat) {c m : bM} {q : Nat} (hq : RQ c q m) (q90 : q < 90) (x3 x4 : Option bV) : ∃ m2, L_M_counts_2.1.2 (sem (n + 1)) [some (aR 132), some (aI (q : Int)), some (aI 0), x3, x4] m = some (.inl (0, [some (aR 132), some (aI (q : Int)), some (aI ((12 : Nat) : Int)), x3, x4], m2)) ∧ (∀ i, i ≠ 187 → m2 i = m i) ∧ (∀ j, (j < 12 * q ∨ 12 * q + 12 ≤ j) → m2 187 j = m 187 j) ∧ ∀ r, r < 12 → m2 187 (12 * q + r) = oFar (qDeep c q r 1) := by
  unfold L_M_counts_2
  rw [d_sLp]
  refine lp_m (fun k => [some (aR 132), some (aI (q : Int)), some (aI (k : Int)), x3, x4]) (fun k m2 => (∀ i, i ≠ 187 → m2 i = m i) ∧ (∀ j, (j < 12 * q ∨ 12 * q + 12 ≤ j) → m2 187 j = m 187 j) ∧ ∀ r, r < k → m2 187 (12 * q + r) = oFar (qDeep c q r 1)) 12 (by decide) ⟨fun _ _ => rfl, fun _ _ => rfl, fun r hr => absurd hr (Nat.not_lt_zero r)⟩ (fun k m1 hk h1 => ?_) (fun m1 h1 => bIt_ex (c2_x _ m1 _ _ _ _ (by decide)))
  obtain ⟨h1, h2, h3⟩ := h1
  have e := sp_firstDeep n k hk 1 (RQ_c hq (m2 := m1) (h1 _ (by decide)) (h1 _ (by decide)))
  refine ⟨bwr m1 187 (12 * q + k) (oFar (qDeep c q k 1)), bIt_go (m1 := m1) (c2_c _ m1 _ _ _ _ (k12 hk)) (c2_b n m1 _ _ _ _ _ _ _ _ (q12b q90) (q12s q90 hk) (q12f q90 hk) (tnc _) e) (c2_s _ _ _ _ _ _ _ (i32_s (kS hk (by decide)))), fun i hi => by rw [bwr_ne _ _ hi]; exact h1 i hi, fun j hj => ?_, fun r hr => ?_⟩
  · rw [bwr_ne2 _ (by omega)]; exact h2 j hj
  · rw [bwr_if]
    by_cases z : r = k
    · rw [if_pos (by rw [z]), z]
    · rw [if_neg (by omega)]
      exact h3 r (by omega)
theorem jor_if (p : Nat → Bool) {k n : Nat} (hk : k < n) (hn : n ≤ 31) (b : Prop) [Decidable b] : jor (bst p n : Int) (if b then jshl 1 (k : Int) else 0) = (bst (fun t => p t || (decide b && decide (t = k))) n : Int) := by
  by_cases z : b
  · rw [if_pos z, jor_ins p hk hn]
    congr 1
    exact bst_congr (fun t _ => by rw [decide_eq_true z, Bool.true_and])
  · rw [if_neg z, show (0 : Int) = ((0 : Nat) : Int) from rfl, jor_nat (bst_lt31 p hn) (by decide), Nat.or_zero]
    congr 1
    exact bst_congr (fun t _ => by rw [decide_eq_false z, Bool.false_and, Bool.or_false])
theorem c4_l (n : Nat) {m : bM} (Fi : Nat) (hFi : m 133 10 = (Fi : Int)) (hF2 : Fi ≤ 12) (t T : Nat) (ht : t < T) (hT : T ≤ 12) (P : Nat → Nat → Bool) (hP : ∀ f, f < Fi → m 188 f = (bst (P f) T : Int)) (qI w : Int) : ∃ m2, L_M_counts_4.1.2 (sem n) [some (aR 132), some (aI qI), some (aI (t : Int)), some (aI w), some (aI 0)] m = some (.inl (0, [some (aR 132), some (aI qI), some (aI (t : Int)), some (aI w), some (aI (Fi : Int))], m2)) ∧ (∀ i, i ≠ 188 → m2 i = m i) ∧ ∀ f, f < Fi → m2 188 f = (bst (fun x => P f x || (decide (m 160 f = m 157 t ∧ m 161 f = w) && decide (x = t))) T : Int) := by
  unfold L_M_counts_4
  rw [d_sLp]
  have key := lp_m (c := L_M_counts_4c.1.2 (sem n)) (b := L_M_counts_4b.1.2 (sem n)) (s := L_M_counts_4s.1.2 (sem n)) (m := m) (fun k => [some (aR 132), some (aI qI), some (aI (t : Int)), some (aI w), some (aI (k : Int))]) (fun k m2 => (∀ i, i ≠ 188 → m2 i = m i) ∧ (∀ f, f < Fi → m2 188 f = if f < k then (bst (fun x => P f x || (decide (m 160 f = m 157 t ∧ m 161 f = w) && decide (x = t))) T : Int) else (bst (P f) T : Int))) Fi (by omega) ⟨fun _ _ => rfl, fun f hf => by rw [if_neg (Nat.not_lt_zero f)]; exact hP f hf⟩ (fun k m1 hk h1 => ?_) (fun m1 h1 => bIt_ex (c4_x n m1 _ _ _ _ _ (by rw [h1.1 _ (by decide)]; exact hFi) (Int.lt_irrefl _)))
  · obtain ⟨m2, e, h1, h2⟩ := key
    refine ⟨m2, e, h1, fun f hf => ?_⟩
    rw [h2 f hf, if_pos hf]
  · obtain ⟨h1, h2⟩ := h1
    have f1 : (k : Int) < (Fi : Int) := by omega
    have k12' : k < 12 := by omega
    have t12 : t < 12 := by omega
    have w0 := h2 k hk
    rw [if_neg (Nat.lt_irrefl k)] at w0
    have J := jor_if (P k) ht (Nat.le_trans hT (by decide)) (m 160 k = m 157 t ∧ m 161 k = w)
    refine ⟨_, bIt_go (m1 := m1) (c4_c n m1 _ _ _ _ _ (by rw [h1 _ (by decide)]; exact hFi) f1) (c4_b n m1 _ _ _ _ (m 160 k) (m 157 t) (m 161 k) _ t k (t_f3 k12') (tnc k) (t_f3 t12) (tnc t) (by rw [h1 _ (by decide)]) (by rw [h1 _ (by decide)]) (by rw [h1 _ (by decide)]) w0) (c4_s n _ _ _ _ _ _ (i32_s (kS k12' (by decide)))), fun i hi => by rw [bwr_ne _ _ hi]; exact h1 i hi, fun f hf => ?_⟩
    rw [bwr_if]
    by_cases z : f = k
    · rw [if_pos z, z, if_pos (Nat.lt_succ_self k), J]
    · rw [if_neg z, h2 f hf]; simp only [lt_s3 z]
/-- what thing t adds to find f in night q -/
def whQ (c : bM) (q f t : Nat) : Bool := decide (c 48 f = c 45 t) && (qFell c q (tHm c t) && decide ((qRest c q t : Int) = c 49 f))
def yo (k : Nat) (v : Nat → Int) : Option bV := if k = 0 then none else some (aI (v k))
theorem yo_s (k : Nat) (v : Nat → Int) : yo (k + 1) v = some (aI (v (k + 1))) := rfl
theorem c3_l (n : Nat) {c m : bM} (hV : RelV c m) (hF : RelF c m) {q : Nat} (hq : RQ c q m) (Fi T : Nat) (hFi : m 133 10 = (Fi : Int)) (hF2 : Fi ≤ 12) (hT : m 133 9 = (T : Int)) (hT2 : T ≤ 12) (P : Nat → Nat → Bool) (hP : ∀ f, f < Fi → m 188 f = (bst (P f) T : Int)) (qI : Int) : ∃ m2 y3 y4, L_M_counts_3.1.2 (sem (n + 1)) [some (aR 132), some (aI qI), some (aI 0), none, none] m = some (.inl (0, [some (aR 132), some (aI qI), some (aI (T : Int)), y3, y4], m2)) ∧ (∀ i, i ≠ 188 → m2 i = m i) ∧ ∀ f, f < Fi → m2 188 f = (bst (fun t => P f t || whQ c q f t) T : Int) := by
  obtain ⟨W, hW⟩ : ∃ W : Nat → Int, ∀ k, W k = if qFell c q (tHm c (k - 1)) = true then (qRest c q (k - 1) : Int) else -1 := ⟨_, fun _ => rfl⟩
  have key := lp_m (c := L_M_counts_3c.1.2 (sem (n + 1))) (b := L_M_counts_3b.1.2 (sem (n + 1))) (s := L_M_counts_3s.1.2 (sem (n + 1))) (m := m) (fun k => [some (aR 132), some (aI qI), some (aI (k : Int)), yo k W, yo k (fun _ => (Fi : Int))]) (fun k m2 => (∀ i, i ≠ 188 → m2 i = m i) ∧ ∀ f, f < Fi → m2 188 f = (bst (fun t => P f t || (decide (t < k) && whQ c q f t)) T : Int)) T (by omega) ⟨fun _ _ => rfl, fun f hf => by rw [hP f hf]; congr 1; exact bst_congr (fun t _ => by simp)⟩ (fun k m1 hk h1 => ?_) (fun m1 h1 => bIt_ex (c3_x _ m1 _ _ _ _ _ (by rw [h1.1 _ (by decide)]; exact hT) (Int.lt_irrefl _)))
  · obtain ⟨m2, e, h1, h2⟩ := key
    refine ⟨m2, yo T W, yo T (fun _ => (Fi : Int)), ?_, h1, fun f hf => ?_⟩
    · unfold L_M_counts_3
      rw [d_sLp]
      exact e
    · rw [h2 f hf]
      congr 1
      exact bst_congr (fun t ht => by rw [decide_eq_true ht, Bool.true_and])
  · obtain ⟨h1, h2⟩ := h1
    have f1 : (k : Int) < (T : Int) := by omega
    have k12' : k < 12 := by omega
    have rt := RelF_rtof hF k k12'
    have h10 : tHm c k < 10 := by unfold tHm; omega
    have f4 : 0 ≤ (tHm c k : Int) ∧ (tHm c k : Int) < ((10 : Nat) : Int) := by omega
    have e1 : c 44 k = (tHm c k : Int) := by unfold tHm; omega
    have hV1 : RelV c m1 := RelV_congr hV (fun _ _ _ => rfl) (fun i a b => h1 i (by omega))
    have hF1 : RelF c m1 := RelF_congr hF (fun _ _ _ => rfl) (fun i a b => h1 i (by omega))
    have hq1 : RQ c q m1 := RQ_c hq (h1 _ (by decide)) (h1 _ (by decide))
    obtain ⟨m2, e2, g1, g2⟩ := c4_l (n + 1) (m := m1) Fi (by rw [h1 _ (by decide)]; exact hFi) hF2 k T hk hT2 _ h2 qI (W (k + 1))
    have wE : W (k + 1) = if qFell c q (tHm c k) = true then (qRest c q k : Int) else -1 := hW (k + 1)
    have B := c3_b n m1 m2 qI _ _ _ (W (k + 1)) _ (yo k W) (yo k (fun _ => (Fi : Int))) k (tHm c k) (t_f3 k12') (tnc k) ((RelF_tof hF1 k k12').trans e1) f4 (tnc _) (RQ_fall hq1 _ h10) (by
      by_cases z : qFell c q (tHm c k) = true
      · right
        rw [wE, if_pos z]
        exact ⟨by have := (qF_in z).1; omega, sp_liesAt n hV1 hF1 hq1 k k12' z⟩
      · left
        rw [wE, if_neg z]
        refine ⟨?_, rfl⟩
        have : ¬ 0 ≤ qF c q (tHm c k) := fun w => z (decide_eq_true w)
        omega) e2
    refine ⟨m2, bIt_go (m1 := m1) (c3_c _ m1 _ _ _ _ _ (by rw [h1 _ (by decide)]; exact hT) f1) B (c3_s _ _ _ _ _ _ _ (i32_s (kS k12' (by decide)))), fun i hi => by rw [g1 i hi]; exact h1 i hi, fun f hf => ?_⟩
    rw [g2 f hf]
    congr 1
    refine bst_congr (fun t _ => ?_)
    have f12 : f < 12 := by omega
    rw [RelF_fsort hF1 f f12, RelF_sort hF1 k k12', RelF_fat hF1 f f12, wE]
    by_cases z : t = k
    · subst z
      rw [decide_eq_true rfl, Bool.and_true, decide_eq_false (Nat.lt_irrefl t), Bool.false_and, Bool.or_false, decide_eq_true (Nat.lt_succ_self t), Bool.true_and]
      congr 1
      unfold whQ
      by_cases y : qFell c q (tHm c t) = true
      · rw [if_pos y, y, Bool.true_and, Bool.eq_iff_iff]
        simp only [Bool.and_eq_true, decide_eq_true_eq]
        exact and_congr_right (fun _ => eq_comm)
      · have y' : qFell c q (tHm c t) = false := by simpa using y
        rw [if_neg y, y', Bool.false_and, Bool.and_false]
        have := RelF_rfat hF1 f f12
        exact decide_eq_false (fun w => by have := w.2; omega)
    · rw [decide_eq_false z, Bool.and_false, Bool.or_false]
      simp only [lt_s3 z]
def CI (c : bM) (q Fi T : Nat) (P : Nat → Nat → Bool) (m m2 : bM) : Prop := (∀ i, i ≠ 132 → i ≠ 186 → i ≠ 187 → i ≠ 188 → m2 i = m i) ∧ (∀ k, k ≠ 59 → m2 132 k = m 132 k) ∧ (m2 132 59 = m 132 59 + 1) ∧ (∀ h, h < 10 → m2 186 h = m 186 h + (if qFell c q h = true then 1 else 0)) ∧ (∀ j, (j < 12 * q ∨ 12 * q + 12 ≤ j) → m2 187 j = m 187 j) ∧ (∀ r, r < 12 → m2 187 (12 * q + r) = oFar (qDeep c q r 1)) ∧ (∀ f, f < Fi → m2 188 f = (bst (fun t => P f t || whQ c q f t) T : Int))
theorem CI_oth {c : bM} {q Fi T : Nat} {P : Nat → Nat → Bool} {m m2 : bM} (h : CI c q Fi T P m m2) : ∀ i, i ≠ 132 → i ≠ 186 → i ≠ 187 → i ≠ 188 → m2 i = m i := h.1
theorem CI_fld {c : bM} {q Fi T : Nat} {P : Nat → Nat → Bool} {m m2 : bM} (h : CI c q Fi T P m m2) : ∀ k, k ≠ 59 → m2 132 k = m 132 k := h.2.1
theorem CI_mny {c : bM} {q Fi T : Nat} {P : Nat → Nat → Bool} {m m2 : bM} (h : CI c q Fi T P m m2) : m2 132 59 = m 132 59 + 1 := h.2.2.1
theorem CI_fll {c : bM} {q Fi T : Nat} {P : Nat → Nat → Bool} {m m2 : bM} (h : CI c q Fi T P m m2) : ∀ h, h < 10 → m2 186 h = m 186 h + (if qFell c q h = true then 1 else 0) := h.2.2.2.1
theorem CI_fl1 {c : bM} {q Fi T : Nat} {P : Nat → Nat → Bool} {m m2 : bM} (h : CI c q Fi T P m m2) : ∀ j, (j < 12 * q ∨ 12 * q + 12 ≤ j) → m2 187 j = m 187 j := h.2.2.2.2.1
theorem CI_fl2 {c : bM} {q Fi T : Nat} {P : Nat → Nat → Bool} {m m2 : bM} (h : CI c q Fi T P m m2) : ∀ r, r < 12 → m2 187 (12 * q + r) = oFar (qDeep c q r 1) := h.2.2.2.2.2.1
theorem CI_who {c : bM} {q Fi T : Nat} {P : Nat → Nat → Bool} {m m2 : bM} (h : CI c q Fi T P m m2) : ∀ f, f < Fi → m2 188 f = (bst (fun t => P f t || whQ c q f t) T : Int) := h.2.2.2.2.2.2
theorem sp_counts (n : Nat) {c m : bM} (hV : RelV c m) (hF : RelF c m) {q : Nat} (q90 : q < 90) (hq : RQ c q m) (Fi T H : Nat) (hFi : m 133 10 = (Fi : Int)) (hF2 : Fi ≤ 12) (hT : m 133 9 = (T : Int)) (hT2 : T ≤ 12) (hH : m 133 5 = (H : Int)) (hH2 : H ≤ 10) (eH : nHs c = H) (P : Nat → Nat → Bool) (hP : ∀ f, f < Fi → m 188 f = (bst (P f) T : Int)) (hv : ∀ h, h < 10 → 0 ≤ m 186 h ∧ m 186 h ≤ 1000) (hp : 0 ≤ m 132 59 ∧ m 132 59 ≤ 1000) : ∃ m2, sem (n + 2) 279 [aR 132, aI (q : Int)] m = some (m2, 0) ∧ CI c q Fi T P m m2 := by
  have y1 : -2147483648 ≤ m 132 59 + 1 ∧ m 132 59 + 1 < 2147483648 := by omega
  have x1 := i32_of y1.1 y1.2
  obtain ⟨m0, hm0⟩ : ∃ m0, m0 = bwr m 132 59 (m 132 59 + 1) := ⟨_, rfl⟩
  have o0 : ∀ i, i ≠ 132 → m0 i = m i := fun i hi => by rw [hm0, bwr_ne _ _ hi]
  obtain ⟨m1, e1, a1, b1⟩ := c1_l (n + 1) (m := m0) (RQ_c hq (o0 _ (by decide)) (o0 _ (by decide))) H (by rw [o0 _ (by decide)]; exact hH) hH2 (by rw [o0 _ (by decide)]; exact hv) (q : Int) none none
  obtain ⟨m2, e2, a2, b2, d2⟩ := c2_l n (m := m1) (RQ_c hq (by rw [a1 _ (by decide), o0 _ (by decide)]) (by rw [a1 _ (by decide), o0 _ (by decide)])) q90 none none
  have oo : ∀ i, i ≠ 132 → i ≠ 186 → i ≠ 187 → m2 i = m i := fun i x y z => by rw [a2 i z, a1 i y, o0 i x]
  obtain ⟨m3, y3, y4, e3, a3, b3⟩ := c3_l n (m := m2) (RelV_congr hV (fun _ _ _ => rfl) (fun i a b => oo i (by omega) (by omega) (by omega))) (RelF_congr hF (fun _ _ _ => rfl) (fun i a b => oo i (by omega) (by omega) (by omega))) (RQ_c hq (oo _ (by decide) (by decide) (by decide)) (oo _ (by decide) (by decide) (by decide))) Fi T (by rw [oo _ (by decide) (by decide) (by decide)]; exact hFi) hF2 (by rw [oo _ (by decide) (by decide) (by decide)]; exact hT) hT2 P (by rw [oo _ (by decide) (by decide) (by decide)]; exact hP) (q : Int)
  rw [hm0] at e1
  refine ⟨m3, cs_e (n + 1) m m1 m2 m3 _ _ _ _ _ _ _ x1 e1 e2 e3, ?_, ?_, ?_, ?_, ?_, ?_, b3⟩
  · intro i p1 p2 p3 p4
    rw [a3 i p4]; exact oo i p1 p2 p3
  · intro k hk
    rw [a3 _ (by decide), a2 _ (by decide), a1 _ (by decide), hm0, bwr_ne2 _ hk]
  · rw [a3 _ (by decide), a2 _ (by decide), a1 _ (by decide), hm0, bwr_eq2]
  · intro h hh
    rw [a3 _ (by decide), a2 _ (by decide), b1 h, o0 _ (by decide)]
    by_cases z : h < H
    · rw [if_pos z]
    · rw [if_neg z]
      have : ¬ qFell c q h = true := fun w => z (by rw [← eH]; exact qFell_lt w)
      rw [if_neg this]; omega
  · intro j hj
    rw [a3 _ (by decide), b2 j hj, a1 _ (by decide), o0 _ (by decide)]
  · intro r hr
    rw [a3 _ (by decide)]; exact d2 r hr
