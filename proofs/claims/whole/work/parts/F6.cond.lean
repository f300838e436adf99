/-! ===== read: the class's parser, contracts ===== -/
def cdAt (f : Nat → Int) (a : Nat) : List Int → Prop
  | [] => True
  | x :: r => f a = x ∧ cdAt f (a + 1) r
theorem cdAt_app {f : Nat → Int} : ∀ {a : Nat} {xs ys : List Int}, cdAt f a xs → cdAt f (a + xs.length) ys → cdAt f a (xs ++ ys)
  | a, [], ys, _, h => by
    have h : cdAt f (a + 0) ys := h
    exact h
  | a, x :: r, ys, h1, h2 => ⟨h1.1, cdAt_app h1.2 (by
    rw [show a + 1 + r.length = a + (x :: r).length by simp only [List.length_cons]; omega]
    exact h2)⟩
theorem cdAt_fr {f g : Nat → Int} : ∀ {a : Nat} {xs : List Int}, cdAt f a xs → (∀ q, q < a + xs.length → g q = f q) → cdAt g a xs
  | a, [], _, _ => trivial
  | a, x :: r, h, e => ⟨by rw [e a (by simp only [List.length_cons]; omega)]; exact h.1, cdAt_fr h.2 (fun q hq => e q (by simp only [List.length_cons]; omega))⟩
/-- what the parser leaves as it was: S the version, c how many codes it has -/
def frP (S c : Nat) (m m2 : bM) : Prop := (∀ i, i ≠ 109 → i ≠ 70 → m2 i = m i) ∧ (∀ k, (k < 3 ∨ k = 7) → m2 109 k = m 109 k) ∧ ∀ q, q < 80 * S + c → m2 70 q = m 70 q
theorem frP_refl (S c : Nat) (m : bM) : frP S c m m := ⟨fun _ _ _ => rfl, fun _ _ => rfl, fun _ _ => rfl⟩
theorem frP_trans {S c d : Nat} {m m1 m2 : bM} (h : frP S c m m1) (g : frP S d m1 m2) (l : c ≤ d) : frP S c m m2 := ⟨fun i a b => (g.1 i a b).trans (h.1 i a b), fun k a => (g.2.1 k a).trans (h.2.1 k a), fun q hq => (g.2.2 q (by omega)).trans (h.2.2 q hq)⟩
theorem frP_A {S c : Nat} {m m2 : bM} (h : frA m m2) : frP S c m m2 := ⟨fun i a _ => h.1 i a, fun k a => h.2 k (by omega), fun q _ => by rw [h.1 70 (by decide)]⟩
theorem RdT_P {T : Nat → Int} {L S c : Nat} {m m2 : bM} (h : RdT T L m) (g : frP S c m m2) : RdT T L m2 := ⟨by rw [g.2.1 2 (by omega)]; exact RdT_len h, fun k hk => by rw [g.1 110 (by decide) (by decide)]; exact RdT_tape h k hk, RdT_L240 h, RdT_T255 h⟩
def RdI (T : Nat → Int) (L S : Nat) (m : bM) (p c : Nat) : Prop := (RdT T L m) ∧ (RdS T L m p) ∧ (m 109 7 = (S : Int)) ∧ (m 109 8 = (c : Int))
theorem RdI_t {T : Nat → Int} {L S : Nat} {m : bM} {p c : Nat} (h : RdI T L S m p c) : RdT T L m := h.1
theorem RdI_s {T : Nat → Int} {L S : Nat} {m : bM} {p c : Nat} (h : RdI T L S m p c) : RdS T L m p := h.2.1
theorem RdI_v {T : Nat → Int} {L S : Nat} {m : bM} {p c : Nat} (h : RdI T L S m p c) : m 109 7 = (S : Int) := h.2.2.1
theorem RdI_c {T : Nat → Int} {L S : Nat} {m : bM} {p c : Nat} (h : RdI T L S m p c) : m 109 8 = (c : Int) := h.2.2.2
def pRes (T : Nat → Int) (L S c : Nat) (m : bM) (r : pR) (m2 : bM) (v : Int) : Prop := frP S c m m2 ∧ match r with
  | .inl f => v = 0 ∧ m2 109 4 = (f : Int)
  | .inr (q, cs) => v = 1 ∧ RdS T L m2 q ∧ m2 109 8 = ((c + cs.length : Nat) : Int) ∧ cdAt (m2 70) (80 * S + c) cs
section
variable {T : Nat → Int} {L S : Nat}
theorem RdI_of {m m2 : bM} {p q c d : Nat} (h : RdI T L S m p c) (f : frP S c m m2) (s : RdS T L m2 q) (hd : m2 109 8 = (d : Int)) : RdI T L S m2 q d := ⟨RdT_P (RdI_t h) f, s, by rw [f.2.1 7 (by omega)]; exact RdI_v h, hd⟩
theorem sp_adv (n : Nat) {m : bM} {p c : Nat} (h : RdI T L S m p c) (hp : p ≤ L) : ∃ m2, sem (n + 8) 262 [aR 109] m = some (m2, 0) ∧ frP S c m m2 ∧ RdI T L S m2 (kE T L p) c := by
  have t := kTk_len (RdT_T255 (RdI_t h)) (RdT_L240 (RdI_t h)) hp
  obtain ⟨m2, e, f, s⟩ := sp_advance n (RdI_t h) t.2.1 (RdS_to (RdI_s h))
  exact ⟨m2, e, frP_A f, RdI_of h (frP_A f) s (by rw [f.2 8 (by omega)]; exact RdI_c h)⟩
theorem kTk_19 (hT : ∀ k, k < 240 → 0 ≤ T k ∧ T k ≤ 255) (hL : L ≤ 240) (p : Nat) : kTk T L p = 19 ↔ kK T L p = 2 := by
  rcases kTk_in hT hL p with ⟨a, b⟩ | ⟨a, _, b⟩ | ⟨a, b⟩ | ⟨a, b, c⟩ <;> omega
theorem sp_isNumber (n : Nat) {m : bM} {p : Nat} (hT : RdT T L m) (hS : RdS T L m p) (x : Int) (hx : 0 ≤ x ∧ x ≤ 999) : sem (n + 2) 313 [aR 109, aI x] m = some (m, if kK T L p = 2 ∧ kW T L p ≤ x then 1 else 0) := by
  have t := kTk_19 (RdT_T255 hT) (RdT_L240 hT) p
  by_cases z : kK T L p = 2
  · have w := kW_num (RdT_L240 hT) z
    have e := sp_within n (kV T L p) 0 x m
    have i1 := inb_1 (n + 1) m x (kV T L p) _ (by rw [RdS_tok hS]; exact t.mpr z) (RdS_val hS z) e ite01v
    rw [i1]
    unfold kV
    by_cases y : kE T L p - kF T L p ≤ 3
    · rw [if_pos y]
      have w := w.2.1 y
      by_cases u : kW T L p ≤ x
      · rw [if_pos ⟨w.1, u⟩, if_pos ⟨z, u⟩]
      · rw [if_neg (fun q => u q.2), if_neg (fun q => u q.2)]
    · rw [if_neg y]
      have w := w.2.2 y
      rw [if_neg (fun q => absurd q.1 (by decide)), if_neg (fun q => by have := q.2; omega)]
  · rw [if_neg (fun q => z q.1)]
    exact inb_0 (n + 1) m x _ (RdS_tok hS) (fun q => z (t.mp q))
theorem sp_emit (n : Nat) {m : bM} {p c : Nat} (h : RdI T L S m p c) (hS : S ≤ 8) (hc : c < 80) (x : Int) : ∃ m2, sem (n + 1) 329 [aR 109, aI x] m = some (m2, 0) ∧ frP S c m m2 ∧ RdI T L S m2 p (c + 1) ∧ m2 70 (80 * S + c) = x := by
  obtain ⟨m1, w1⟩ : ∃ m1, bwr m 70 (80 * S + c) x = m1 := ⟨_, rfl⟩
  obtain ⟨m2, w2⟩ : ∃ m2, bwr m1 109 8 ((c + 1 : Nat) : Int) = m2 := ⟨_, rfl⟩
  have fr : frP S c m m2 := ⟨fun i a b => by rw [← w2, bwr_ne _ _ a, ← w1, bwr_ne _ _ b], fun k a => by rw [← w2, bwr_ne2 _ (by omega), ← w1, bwr_ne _ _ (by decide)], fun q hq => by rw [← w2, bwr_ne _ _ (by decide), ← w1, bwr_ne2 _ (by omega)]⟩
  have g : ∀ k, k ≠ 8 → m2 109 k = m 109 k := fun k hk => by rw [← w2, bwr_ne2 _ hk, ← w1, bwr_ne _ _ (by decide)]
  obtain ⟨s1, s2, s3, s4⟩ := RdI_s h
  refine ⟨m2, em_1 n m m1 m2 x (c : Int) (S : Int) ((80 * S : Nat) : Int) ((80 * S + c : Nat) : Int) ((c + 1 : Nat) : Int) (80 * S + c) (RdI_c h) (by omega) (RdI_v h) ?_ ?_ (by omega) (tnc _) w1 (by rw [← w1, bwr_ne _ _ (by decide)]; exact RdI_c h) (i32_s (by omega)) w2, fr, RdI_of h fr ⟨by rw [g _ (by decide)]; exact s1, by rw [g _ (by decide)]; exact s2, by rw [g _ (by decide)]; exact s3, fun q => by rw [g _ (by decide)]; exact s4 q⟩ (by rw [← w2, bwr_eq2]), by rw [← w2, bwr_ne _ _ (by decide), ← w1, bwr_eq2]⟩
  · rw [i32_of (by omega) (by omega)]; omega
  · rw [i32_of (by omega) (by omega)]; omega
/-- a code of a comparing -/
theorem pc_code {F s v : Nat} (hF : F < 256) (hs : s < 256) (hv : v < 1000) : jor (jor (F : Int) (jshl (s : Int) 8)) (jshl (v : Int) 16) = ((F + 256 * s + 65536 * v : Nat) : Int) := by
  rw [show (8 : Int) = ((8 : Nat) : Int) from rfl, jshl_k (by decide) (by omega), show (16 : Int) = ((16 : Nat) : Int) from rfl, jshl_k (by decide) (by omega)]
  have e1 : F ||| s * 2 ^ 8 = F + 256 * s := by
    have := Nat.two_pow_add_eq_or_of_lt (i := 8) (b := F) (by omega) s
    rw [Nat.or_comm, Nat.mul_comm s, ← this]
    omega
  have e2 : (F + 256 * s) ||| v * 2 ^ 16 = F + 256 * s + 65536 * v := by
    have := Nat.two_pow_add_eq_or_of_lt (i := 16) (b := F + 256 * s) (by omega) v
    rw [Nat.or_comm, Nat.mul_comm v, ← this]
    omega
  rw [jor_nat (by omega) (by omega), e1, jor_nat (by omega) (by omega), e2]
theorem i100f {t : Int} (h : 0 ≤ t ∧ t ≤ 400) : i32 (t - 100) = t - 100 := i32_of (by omega) (by omega)
theorem z100q {t : Int} (h : t = 160 ∨ t = 161 ∨ t = 162) : t - 100 = 60 ∨ t - 100 = 61 ∨ t - 100 = 62 := by omega
theorem z100n {t : Int} (h : t = 160 ∨ t = 161 ∨ t = 162) : 0 ≤ t - 100 := by omega
theorem z100s {t : Int} {s : Nat} (h : t = 160 ∨ t = 161 ∨ t = 162) (e : t - 100 = (s : Int)) : s < 256 := by omega
theorem z100x {t : Int} (h : ¬ (t = 160 ∨ t = 161 ∨ t = 162)) : ¬ t - 100 = 60 ∧ ¬ t - 100 = 61 ∧ ¬ t - 100 = 62 := by omega
theorem v1000 {w : Int} {v : Nat} (h : w ≤ 999) (e : w = (v : Int)) : v < 1000 := by omega
theorem w3n {a : Nat} {w : Int} (h : ¬ a ≤ 3 → w = 1000000000) (g : w ≤ 999) : a ≤ 3 := by
  rcases Nat.lt_or_ge 3 a with q | q
  · have := h (by omega); omega
  · exact q
theorem pc_cast (F s v : Nat) : ((F + 256 * s + 65536 * v : Nat) : Int) = (F : Int) + 256 * (s : Int) + 65536 * (v : Int) := by omega
theorem sp_parseCompare (n : Nat) {m : bM} {p c : Nat} (h : RdI T L S m p c) (hp : p ≤ L) (hS : S ≤ 8) (hc : 3 * c ≤ p) (hk : 12 ≤ kTk T L p ∧ kTk T L p ≤ 17) : ∃ m2 v, sem (n + 9) 331 [aR 109] m = some (m2, v) ∧ pRes T L S c m (pCmp T L p) m2 v := by
  have hT := RdT_T255 (RdI_t h)
  have hL := RdT_L240 (RdI_t h)
  have t1 := kTk_len hT hL hp
  obtain ⟨m1, e1, f1, i1⟩ := sp_adv n h hp
  obtain ⟨p1, hp1⟩ : ∃ p1, kE T L p = p1 := ⟨_, rfl⟩
  rw [hp1] at i1 t1
  have t2 := kTk_len hT hL (p := p1) t1.2.1
  unfold pCmp
  rw [hp1]
  obtain ⟨F, hF⟩ := Int.eq_ofNat_of_zero_le (show 0 ≤ kTk T L p by omega)
  have F256 : F < 256 := by omega
  have c80 : c < 80 := by omega
  have tb : 0 ≤ kTk T L p1 ∧ kTk T L p1 ≤ 400 := by
    have tin := kTk_in hT hL p1
    omega
  have i100 := i100f tb
  by_cases z : kTk T L p1 = 160 ∨ kTk T L p1 = 161 ∨ kTk T L p1 = 162
  · rw [if_pos z]
    have z2 := z100q z
    obtain ⟨s, hs⟩ := Int.eq_ofNat_of_zero_le (z100n z)
    have s256 : s < 256 := z100s z hs
    have tk := RdS_tok (RdI_s i1)
    obtain ⟨m2, e2, f2, i2⟩ := sp_adv n i1 t1.2.1
    obtain ⟨p2, hp2⟩ : ∃ p2, kE T L p1 = p2 := ⟨_, rfl⟩
    rw [hp2] at i2 t2
    have t3 := kTk_len hT hL (p := p2) t2.2.1
    rw [hp2]
    have en := sp_isNumber (n + 6) (RdI_t i2) (RdI_s i2) 999 (by decide)
    by_cases y : kK T L p2 = 2 ∧ kW T L p2 ≤ 999
    · rw [if_pos y] at en ⊢
      have wn := kW_num hL y.1
      have w3 := w3n wn.2.2 y.2
      have wb := wn.2.1 w3
      have hv : m2 109 6 = kW T L p2 := by
        rw [RdS_val (RdI_s i2) y.1]
        unfold kV
        rw [if_pos w3]
      obtain ⟨v, hv2⟩ := Int.eq_ofNat_of_zero_le wb.1
      have code := pc_code (F := F) (s := s) (v := v) F256 s256 (v1000 wb.2 hv2)
      obtain ⟨m3, e3, f3, i3, c3⟩ := sp_emit (n + 7) i2 hS (c := c) c80 ((F + 256 * s + 65536 * v : Nat) : Int)
      obtain ⟨m4, e4, f4, i4⟩ := sp_adv n i3 t2.2.1
      rw [hv2] at hv
      have i100 := i100.trans hs
      rw [hs] at z2
      refine ⟨m4, 1, pc_g (n + 8) m m1 m2 m3 m4 (F : Int) (kTk T L p1) (s : Int) (v : Int) (jshl (s : Int) 8) (jor (F : Int) (jshl (s : Int) 8)) (jshl (v : Int) 16) _ (by rw [RdS_tok (RdI_s h)]; exact hF) e1 tk i100 z2 e2 en hv rfl rfl rfl code e3 e4, frP_trans (frP_trans (frP_trans f1 f2 (Nat.le_refl _)) f3 (Nat.le_refl _)) f4 (Nat.le_succ c), rfl, RdI_s i4, RdI_c i4, ?_⟩
      rw [hF, hs, hv2]
      refine ⟨?_, trivial⟩
      rw [f4.2.2 (80 * S + c) (Nat.lt_succ_self _), c3]
      exact pc_cast F s v
    · rw [if_neg y] at en ⊢
      exact ⟨m2, 0, pc_f2 (n + 8) m m1 m2 _ _ _ (RdS_tok (RdI_s h)) e1 tk i100 z2 e2 en, frP_trans f1 f2 (Nat.le_refl _), rfl, RdS_frm (RdI_s i2)⟩
  · rw [if_neg z]
    have z3 := z100x z
    exact ⟨m1, 0, pc_f1 (n + 8) m m1 _ _ _ (RdS_tok (RdI_s h)) e1 (RdS_tok (RdI_s i1)) i100 z3.1 z3.2.1 z3.2.2, f1, rfl, RdS_frm (RdI_s i1)⟩
/-! parseOne -/
theorem lp_po (n : Nat) (o : Int) : ∀ (k p j c bf : Nat) (b : Bool) (m : bM), k < bf → 240 - p < k → p ≤ L → 3 * j ≤ p → RdI T L S m p c → ∃ m2 i, bLp (L_Reader_parseOne_1c.1.2 (sem (n + 8))) (L_Reader_parseOne_1b.1.2 (sem (n + 8))) (L_Reader_parseOne_1s.1.2 (sem (n + 8))) bf [some (aR 109), some (aI o), some (aI (if b = true then 1 else 0)), some (aI (j : Int))] m = some (.inl (0, [some (aR 109), some (aI o), some (aI (if (pNot T L k p b).1 = true then 1 else 0)), some (aI i)], m2)) ∧ frP S c m m2 ∧ RdI T L S m2 (pNot T L k p b).2 c
  | 0, p, _, _, _, _, _, _, h, _, _, _ => absurd h (Nat.not_lt_zero _)
  | k + 1, p, j, c, bf, b, m, hbf, hk, hp, hj, hI => by
    have hT := RdT_T255 (RdI_t hI)
    have hL := RdT_L240 (RdI_t hI)
    have t := kTk_len hT hL hp
    have tk := RdS_tok (RdI_s hI)
    obtain ⟨g, hg⟩ : ∃ g, bf = g + 1 := ⟨bf - 1, by omega⟩
    subst hg
    by_cases z : kTk T L p = 9
    · have e : pNot T L (k + 1) p b = pNot T L k (kE T L p) (!b) := by
        show (if kTk T L p = 9 then _ else _) = _
        rw [if_pos z]
      rw [e]
      obtain ⟨m1, e1, f1, i1⟩ := sp_adv n hI hp
      obtain ⟨m2, i, e2, f2, i2⟩ := lp_po n o k (kE T L p) (j + 1) c g (!b) m1 (by omega) (by omega) t.2.1 (by omega) i1
      have hb : ((if b = true then (1 : Int) else 0) = 0 ∧ (if (!b) = true then (1 : Int) else 0) = 1) ∨ ((if b = true then (1 : Int) else 0) = 1 ∧ (if (!b) = true then (1 : Int) else 0) = 0) := by
        cases b with
        | false => exact Or.inl ⟨rfl, rfl⟩
        | true => exact Or.inr ⟨rfl, rfl⟩
      refine ⟨m2, i, ?_, frP_trans f1 f2 (Nat.le_refl _), i2⟩
      rw [bLp_go (bIt_go (po_c (n + 8) m o _ (j : Int) _ tk (by omega) z) (po_b (n + 8) m m1 o _ _ (j : Int) hb e1) (po_s (n + 8) m1 o _ (j : Int) ((j + 1 : Nat) : Int) (i32_s (by omega))))]
      exact e2
    · have e : pNot T L (k + 1) p b = (b, p) := by
        show (if kTk T L p = 9 then _ else _) = _
        rw [if_neg z]
      rw [e]
      exact ⟨m, (j : Int), bLp_out (bIt_ex (po_x (n + 8) m o _ (j : Int) _ tk (by omega) z)), frP_refl _ _ _, hI⟩
/-- the contract of parseOne, with o open; of parseCond -/
def cOne (T : Nat → Int) (L S N : Nat) (o : Int) (A : Option (Nat → pR)) : Prop := ∀ (m : bM) (p c : Nat), RdI T L S m p c → p ≤ L → 3 * c ≤ p → ∃ m2 v, sem N 328 [aR 109, aI o] m = some (m2, v) ∧ pRes T L S c m (pOne T L A p) m2 v
def cCond (T : Nat → Int) (L S N : Nat) (o : Int) (a : Nat → pR) : Prop := ∀ (m : bM) (p c : Nat), RdI T L S m p c → p ≤ L → 3 * c ≤ p → ∃ m2 v, sem N 314 [aR 109, aI o] m = some (m2, v) ∧ pRes T L S c m (a p) m2 v
theorem sp_poBase (n : Nat) (hS : S ≤ 8) (o b : Int) (A : Option (Nat → pR)) (ho : (A = none ∧ o = 4) ∨ (∃ a, A = some a ∧ 0 ≤ o ∧ o < 4 ∧ cCond T L S (n + 11) (o + 1) a ∧ ∃ B, ∀ p, p ≤ L → pGood T L B p (a p))) {m : bM} {p c : Nat} (hI : RdI T L S m p c) (hp : p ≤ L) (hc : 3 * c ≤ p) : ∃ m2 v, Q_poBase.1.2 (sem (n + 11)) [some (aR 109), some (aI o), some (aI b), some (aI 0)] m = some (.inl (0, [some (aR 109), some (aI o), some (aI b), some (aI v)], m2)) ∧ pRes T L S c m (pBase T L A p) m2 v := by
  have hT := RdT_T255 (RdI_t hI)
  have hL := RdT_L240 (RdI_t hI)
  have t := kTk_len hT hL hp
  have tk := RdS_tok (RdI_s hI)
  have ew := sp_within (n + 10) (kTk T L p) 12 17 m
  unfold pBase
  by_cases z1 : kTk T L p = 10 ∨ kTk T L p = 11
  · rw [if_pos z1]
    obtain ⟨m1, e1, f1, i1, c1⟩ := sp_emit (n + 10) hI hS (by omega) (kTk T L p)
    obtain ⟨m2, e2, f2, i2⟩ := sp_adv (n + 3) i1 hp
    refine ⟨m2, 1, po_q1 (n + 11) m m1 m2 o b _ tk z1 e1 e2, frP_trans f1 f2 (by omega), rfl, RdI_s i2, RdI_c i2, ?_, trivial⟩
    rw [f2.2.2 (80 * S + c) (by omega), c1]
  · rw [if_neg z1]
    by_cases z2 : 12 ≤ kTk T L p ∧ kTk T L p ≤ 17
    · rw [if_pos z2] at ew ⊢
      obtain ⟨m1, v, e1, r1⟩ := sp_parseCompare (n + 2) hI hp hS hc z2
      exact ⟨m1, v, po_q2 (n + 11) m m1 o b _ v tk (by omega) (by omega) ew e1, r1⟩
    · rw [if_neg z2] at ew ⊢
      by_cases z3 : kTk T L p = 140
      · rw [if_pos z3]
        rcases ho with ⟨h1, h2⟩ | ⟨a, h1, h2, h3, h4, B, h5⟩
        · subst h1 h2
          exact ⟨m, 0, po_q4 (n + 11) m 4 b _ tk (by omega) (by omega) ew (Or.inr ⟨z3, by decide⟩), frP_refl _ _ _, rfl, RdS_frm (RdI_s hI)⟩
        · subst h1
          obtain ⟨m1, e1, f1, i1⟩ := sp_adv (n + 3) hI hp
          have k1 := t.2.2.2.1 (by omega)
          obtain ⟨m2, v, e2, f2, r2⟩ := h4 m1 (kE T L p) c i1 t.2.1 (by omega)
          have g := h5 (kE T L p) t.2.1
          have io : i32 (o + 1) = o + 1 := i32_of (by omega) (by omega)
          show ∃ m2 v, _ ∧ pRes T L S c m (match a (kE T L p) with | .inl f => .inl f | .inr (q, cs) => if kTk T L q = 141 then .inr (kE T L q, cs) else .inl (kF T L q)) m2 v
          revert r2 g
          cases a (kE T L p) with
          | inl f =>
            rintro ⟨r1, r2⟩ _
            exact ⟨m2, 0, po_q3 (n + 11) m m1 m2 m2 o b _ v _ (o + 1) 0 tk z3 ew h3 e1 io e2 rfl (Or.inl ⟨r1, rfl, rfl⟩), frP_trans f1 f2 (Nat.le_refl _), rfl, r2⟩
          | inr x =>
            obtain ⟨q, cs⟩ := x
            rintro ⟨r1, r2, r3, r4⟩ ⟨g1, g2, _, _⟩
            have i2 := RdI_of i1 f2 r2 r3
            show ∃ m2 v, _ ∧ pRes T L S c m (if kTk T L q = 141 then .inr (kE T L q, cs) else .inl (kF T L q)) m2 v
            by_cases y : kTk T L q = 141
            · rw [if_pos y]
              obtain ⟨m3, e3, f3, i3⟩ := sp_adv (n + 3) i2 g2
              exact ⟨m3, 1, po_q3 (n + 11) m m1 m2 m3 o b _ v _ (o + 1) 1 tk z3 ew h3 e1 io e2 (RdS_tok r2) (Or.inr (Or.inr ⟨r1, y, rfl, e3⟩)), frP_trans (frP_trans f1 f2 (Nat.le_refl _)) f3 (by omega), rfl, RdI_s i3, RdI_c i3, cdAt_fr r4 (fun x hx => f3.2.2 x (by omega))⟩
            · rw [if_neg y]
              exact ⟨m2, 0, po_q3 (n + 11) m m1 m2 m2 o b _ v _ (o + 1) 0 tk z3 ew h3 e1 io e2 (RdS_tok r2) (Or.inr (Or.inl ⟨r1, y, rfl, rfl⟩)), frP_trans f1 f2 (Nat.le_refl _), rfl, RdS_frm r2⟩
      · rw [if_neg z3]
        exact ⟨m, 0, po_q4 (n + 11) m o b _ tk (by omega) (by omega) ew (Or.inl z3), frP_refl _ _ _, rfl, RdS_frm (RdI_s hI)⟩
theorem sp_parseOne (n : Nat) (hS : S ≤ 8) (hL : L ≤ 240) (o : Int) (A : Option (Nat → pR)) (ho : (A = none ∧ o = 4) ∨ (∃ a, A = some a ∧ 0 ≤ o ∧ o < 4 ∧ cCond T L S (n + 11) (o + 1) a ∧ ∃ B, ∀ p, p ≤ L → pGood T L B p (a p))) (hA : ∃ B, 1 ≤ B ∧ ∀ a, A = some a → ∀ p, p ≤ L → pGood T L B p (a p)) : cOne T L S (n + 12) o A := fun m p c hI hp hc => by
  have hT := RdT_T255 (RdI_t hI)
  obtain ⟨m1, i, e1, f1, i1⟩ := lp_po (n + 3) o 241 p 0 c bF false m (by decide) (by omega) hp (by omega) hI
  have e1 := sLp_of (L := L_Reader_parseOne_1) rfl e1
  have nt := pNot_ok hT hL 241 p false hp
  obtain ⟨bb, hbb⟩ : ∃ bb, (pNot T L 241 p false).1 = bb := ⟨_, rfl⟩
  obtain ⟨p1, hp1⟩ : ∃ p1, (pNot T L 241 p false).2 = p1 := ⟨_, rfl⟩
  have eOne : pOne T L A p = if bb = true then pPut 9 (pBase T L A p1) else pBase T L A p1 := by
    unfold pOne
    rw [hbb, hp1]
  rw [hbb] at e1 nt
  rw [hp1] at i1 nt
  rw [eOne]
  have p1L := nt.2.1
  obtain ⟨m2, v, e2, f2, r2⟩ := sp_poBase n hS o (if bb = true then 1 else 0) A ho i1 p1L (by omega)
  obtain ⟨B, hB, hA⟩ := hA
  have g := pBase_ok hT hL hB hA p1L
  revert r2 g
  cases pBase T L A p1 with
  | inl f =>
    rintro ⟨r1, r2⟩ _
    subst r1
    have e3 := po_t (n + 11) m2 m2 o (if bb = true then 1 else 0) 0 (Or.inl ⟨rfl, rfl⟩)
    refine ⟨m2, 0, po_e (n + 11) m m1 m2 m2 o _ i 0 e1 e2 e3, frP_trans f1 f2 (Nat.le_refl _), ?_⟩
    cases bb with
    | false => exact ⟨rfl, r2⟩
    | true => exact ⟨rfl, r2⟩
  | inr x =>
    obtain ⟨q, cs⟩ := x
    rintro ⟨r1, r2, r3, r4⟩ ⟨g1, g2, _, _⟩
    subst r1
    have i2 := RdI_of i1 f2 r2 r3
    cases bb with
    | false =>
      have e3 := po_t (n + 11) m2 m2 o 0 1 (Or.inr (Or.inl ⟨rfl, rfl, rfl⟩))
      exact ⟨m2, 1, po_e (n + 11) m m1 m2 m2 o _ i 1 e1 e2 e3, frP_trans f1 f2 (Nat.le_refl _), rfl, r2, r3, r4⟩
    | true =>
      have n3 := nt.2.2 (by decide)
      obtain ⟨m3, e4, f4, i4, c4⟩ := sp_emit (n + 10) i2 hS (by omega) 9
      have e3 := po_t (n + 11) m2 m3 o 1 1 (Or.inr (Or.inr ⟨rfl, rfl, e4⟩))
      refine ⟨m3, 1, po_e (n + 11) m m1 m2 m3 o _ i 1 e1 e2 e3, frP_trans (frP_trans f1 f2 (Nat.le_refl _)) f4 (by omega), rfl, RdI_s i4, ?_, ?_⟩
      · rw [RdI_c i4, List.length_append, List.length_cons, List.length_nil]
        omega
      · refine cdAt_app (cdAt_fr r4 (fun x hx => f4.2.2 x (by omega))) ⟨?_, trivial⟩
        rw [show 80 * S + c + cs.length = 80 * S + (c + cs.length) by omega]
        exact c4
end
