/-! ===== pairs of names and persons: two that can't be mended are as many ===== -/
theorem cnt_s (p : Nat → Bool) (n : Nat) : cnt p (n + 1) = cnt p n + if p n = true then 1 else 0 := rfl
theorem cnt_del {b : Nat → Bool} : ∀ {M x : Nat}, x < M → b x = true → cnt b M = cnt (fun y => b y && !decide (y = x)) M + 1
  | 0, _, h, _ => absurd h (Nat.not_lt_zero _)
  | M + 1, x, h, hb => by
    rw [cnt_s, cnt_s]
    by_cases z : x = M
    · subst z
      have : cnt (fun y => b y && !decide (y = x)) x = cnt b x := cnt_congr (fun k hk => by
        have : ¬ k = x := by omega
        simp [this])
      rw [this, if_pos hb]
      simp
    · rw [cnt_del (b := b) (M := M) (x := x) (by omega) hb]
      have : ¬ M = x := by omega
      simp only [this, decide_false, Bool.not_false, Bool.and_true]
      omega
theorem cnt_inj {a : Nat → Bool} {φ : Nat → Nat} {M : Nat} : ∀ {N : Nat} {b : Nat → Bool}, (∀ p, p < N → a p = true → φ p < M ∧ b (φ p) = true) → (∀ p q, p < N → q < N → a p = true → a q = true → φ p = φ q → p = q) → cnt a N ≤ cnt b M
  | 0, _, _, _ => Nat.zero_le _
  | N + 1, b, h1, h2 => by
    rw [cnt_s]
    by_cases z : a N = true
    · rw [if_pos z]
      obtain ⟨g1, g2⟩ := h1 N (Nat.lt_succ_self N) z
      rw [cnt_del g1 g2]
      have := cnt_inj (a := a) (φ := φ) (M := M) (N := N) (b := fun y => b y && !decide (y = φ N)) (fun p hp ha => by
        obtain ⟨k1, k2⟩ := h1 p (by omega) ha
        refine ⟨k1, ?_⟩
        have k3 : ¬ φ p = φ N := fun e => by
          have := h2 p N (by omega) (Nat.lt_succ_self N) ha z e
          omega
        simp [k2, k3]) (fun p q hp hq => h2 p q (by omega) (by omega))
      omega
    · rw [if_neg z]
      have := cnt_inj (a := a) (φ := φ) (M := M) (N := N) (b := b) (fun p hp => h1 p (by omega)) (fun p q hp hq => h2 p q (by omega) (by omega))
      omega
/-- nf: whose name stands for a person, -1: nobody's -/
def mOK (fit : Nat → Nat → Bool) (nf : Nat → Int) (n : Nat) : Prop := ∀ p, p < 16 → nf p = -1 ∨ (0 ≤ nf p ∧ nf p < (n : Int) ∧ fit (nf p).toNat p = true)
def mIn (nf : Nat → Int) : Prop := ∀ p q, p < 16 → q < 16 → 0 ≤ nf p → nf p = nf q → p = q
def mCl (fit : Nat → Nat → Bool) (nf : Nat → Int) (Q : Nat → Bool) : Prop := ∀ p, p < 16 → Q p = true → 0 ≤ nf p ∧ ∀ q, q < 16 → fit (nf p).toNat q = true → Q q = true
def mUn (fit : Nat → Nat → Bool) (nf : Nat → Int) (Q : Nat → Bool) (pr : Nat → Prop) : Prop := ∀ j, pr j → (∀ p, p < 16 → nf p ≠ (j : Int)) → ∀ q, q < 16 → fit j q = true → Q q = true
def mN (nf : Nat → Int) : Nat := cnt (fun p => decide (0 ≤ nf p)) 16
theorem cert_le {fit : Nat → Nat → Bool} {n : Nat} {nf1 nf2 : Nat → Int} {Q : Nat → Bool} (h1 : mOK fit nf1 n) (h2 : mIn nf1) (g1 : mCl fit nf2 Q) (g2 : mUn fit nf2 Q (fun j => j < n)) : mN nf1 ≤ mN nf2 := by
  unfold mN
  have key : ∀ p, p < 16 → 0 ≤ nf1 p → (match ff (fun q => decide (nf2 q = nf1 p) && !Q q) 16 with | some q => q | none => p) < 16 ∧ 0 ≤ nf2 (match ff (fun q => decide (nf2 q = nf1 p) && !Q q) 16 with | some q => q | none => p) ∧ ((ff (fun q => decide (nf2 q = nf1 p) && !Q q) 16 = none ∧ Q p = true) ∨ ∃ q, ff (fun q => decide (nf2 q = nf1 p) && !Q q) 16 = some q ∧ nf2 q = nf1 p ∧ Q q = false) := fun p hp ha => by
    cases e : ff (fun q => decide (nf2 q = nf1 p) && !Q q) 16 with
    | some q =>
      obtain ⟨k1, k2, _⟩ := ff_some e
      simp only [Bool.and_eq_true, decide_eq_true_eq, Bool.not_eq_true'] at k2
      refine ⟨k1, ?_, Or.inr ⟨q, rfl, k2.1, k2.2⟩⟩
      show 0 ≤ nf2 q
      rw [k2.1]; exact ha
    | none =>
      have k := ff_none.1 e
      have fp : fit (nf1 p).toNat p = true ∧ nf1 p < (n : Int) := by
        rcases h1 p hp with z | ⟨_, z2, z3⟩
        · omega
        · exact ⟨z3, z2⟩
      have qp : Q p = true := by
        by_cases z : ∃ q, q < 16 ∧ nf2 q = nf1 p
        · obtain ⟨q, z1, z2⟩ := z
          have := k q z1
          rw [z2] at this
          simp only [decide_true, Bool.true_and, Bool.not_eq_false'] at this
          have z3 := (g1 q z1 this).2 p hp
          rw [z2] at z3
          exact z3 fp.1
        · refine g2 (nf1 p).toNat (by omega) (fun q hq hz => z ⟨q, hq, by omega⟩) p hp fp.1
      exact ⟨hp, (g1 p hp qp).1, Or.inl ⟨rfl, qp⟩⟩
  refine cnt_inj (φ := fun p => match ff (fun q => decide (nf2 q = nf1 p) && !Q q) 16 with | some q => q | none => p) (fun p hp ha => ?_) (fun p q hp hq ha hb e => ?_)
  · obtain ⟨k1, k2, _⟩ := key p hp (of_decide_eq_true ha)
    exact ⟨k1, decide_eq_true k2⟩
  · obtain ⟨_, _, k3⟩ := key p hp (of_decide_eq_true ha)
    obtain ⟨_, _, l3⟩ := key q hq (of_decide_eq_true hb)
    rcases k3 with ⟨a1, a2⟩ | ⟨a, a1, a2, a3⟩ <;> rcases l3 with ⟨b1, b2⟩ | ⟨b, b1, b2, b3⟩ <;> simp only [a1, b1] at e
    · exact e
    · rw [e, b3] at a2; cases a2
    · rw [← e, a3] at b2; cases b2
    · refine h2 p q hp hq (of_decide_eq_true ha) ?_
      rw [← a2, ← b2, e]
theorem cert_eq {fit : Nat → Nat → Bool} {n : Nat} {nf1 nf2 : Nat → Int} {Q1 Q2 : Nat → Bool} (h1 : mOK fit nf1 n) (h2 : mIn nf1) (h3 : mCl fit nf1 Q1) (h4 : mUn fit nf1 Q1 (fun j => j < n)) (g1 : mOK fit nf2 n) (g2 : mIn nf2) (g3 : mCl fit nf2 Q2) (g4 : mUn fit nf2 Q2 (fun j => j < n)) : mN nf1 = mN nf2 := Nat.le_antisymm (cert_le h1 h2 g3 g4) (cert_le g1 g2 h3 h4)
/-- one more person has a name -/
theorem mN_set {nf : Nat → Int} {p : Nat} {j : Int} (hp : p < 16) (h : nf p = -1) (hj : 0 ≤ j) : mN (fun q => if q = p then j else nf q) = mN nf + 1 := by
  unfold mN
  rw [cnt_del (b := fun q => decide (0 ≤ (if q = p then j else nf q))) (x := p) hp (by simp [hj])]
  congr 1
  refine cnt_congr (fun k _ => ?_)
  by_cases z : k = p
  · subst z; simp [h]
  · simp [z]
/-! ===== what looking for a place changes: nf before, nf2 behind; mt: who was met before ===== -/
def gOK (fit : Nat → Nat → Bool) (nf nf2 : Nat → Int) (mt : Nat → Bool) (j : Nat) : Prop := (∀ p, p < 16 → mt p = true → nf2 p = nf p) ∧ (∃ p, p < 16 ∧ mt p = false ∧ nf2 p = (j : Int)) ∧ (∀ p q, p < 16 → q < 16 → mt p = false → mt q = false → nf2 p = (j : Int) → nf2 q = (j : Int) → p = q) ∧ (∀ p q, p < 16 → q < 16 → 0 ≤ nf2 p → nf2 p ≠ (j : Int) → nf2 p = nf2 q → p = q) ∧ (∃ p1, p1 < 16 ∧ nf p1 = -1 ∧ ∀ p, p < 16 → (0 ≤ nf2 p ↔ 0 ≤ nf p ∨ p = p1)) ∧ (∀ p, p < 16 → 0 ≤ nf p → ∃ p', p' < 16 ∧ nf2 p' = nf p) ∧ (∀ p, p < 16 → 0 ≤ nf2 p → nf2 p = (j : Int) ∨ ∃ p', p' < 16 ∧ nf p' = nf2 p)
theorem gOK_a {fit : Nat → Nat → Bool} {nf nf2 : Nat → Int} {mt : Nat → Bool} {j : Nat} (h : gOK fit nf nf2 mt j) : ∀ p, p < 16 → mt p = true → nf2 p = nf p := h.1
theorem gOK_b {fit : Nat → Nat → Bool} {nf nf2 : Nat → Int} {mt : Nat → Bool} {j : Nat} (h : gOK fit nf nf2 mt j) : ∃ p, p < 16 ∧ mt p = false ∧ nf2 p = (j : Int) := h.2.1
theorem gOK_u {fit : Nat → Nat → Bool} {nf nf2 : Nat → Int} {mt : Nat → Bool} {j : Nat} (h : gOK fit nf nf2 mt j) : ∀ p q, p < 16 → q < 16 → mt p = false → mt q = false → nf2 p = (j : Int) → nf2 q = (j : Int) → p = q := h.2.2.1
theorem gOK_d {fit : Nat → Nat → Bool} {nf nf2 : Nat → Int} {mt : Nat → Bool} {j : Nat} (h : gOK fit nf nf2 mt j) : ∀ p q, p < 16 → q < 16 → 0 ≤ nf2 p → nf2 p ≠ (j : Int) → nf2 p = nf2 q → p = q := h.2.2.2.1
theorem gOK_e {fit : Nat → Nat → Bool} {nf nf2 : Nat → Int} {mt : Nat → Bool} {j : Nat} (h : gOK fit nf nf2 mt j) : ∃ p1, p1 < 16 ∧ nf p1 = -1 ∧ ∀ p, p < 16 → (0 ≤ nf2 p ↔ 0 ≤ nf p ∨ p = p1) := h.2.2.2.2.1
theorem gOK_f {fit : Nat → Nat → Bool} {nf nf2 : Nat → Int} {mt : Nat → Bool} {j : Nat} (h : gOK fit nf nf2 mt j) : ∀ p, p < 16 → 0 ≤ nf p → ∃ p', p' < 16 ∧ nf2 p' = nf p := h.2.2.2.2.2.1
theorem gOK_h {fit : Nat → Nat → Bool} {nf nf2 : Nat → Int} {mt : Nat → Bool} {j : Nat} (h : gOK fit nf nf2 mt j) : ∀ p, p < 16 → 0 ≤ nf2 p → nf2 p = (j : Int) ∨ ∃ p', p' < 16 ∧ nf p' = nf2 p := h.2.2.2.2.2.2
theorem gOK_0 {fit : Nat → Nat → Bool} {nf : Nat → Int} {mt : Nat → Bool} {j p : Nat} (hI : mIn nf) (hj : ∀ q, q < 16 → nf q = (j : Int) → mt q = true) (hp : p < 16) (hm : mt p = false) (hn : nf p = -1) : gOK fit nf (fun q => if q = p then (j : Int) else nf q) mt j := by
  refine ⟨fun q hq h => ?_, ⟨p, hp, hm, if_pos rfl⟩, fun q r hq hr h1 h2 e1 e2 => ?_, fun q r hq hr h1 h2 e1 => ?_, ⟨p, hp, hn, fun q hq => ?_⟩, fun q hq h => ?_, fun q hq h => ?_⟩
  · show (if q = p then (j : Int) else nf q) = nf q
    rw [if_neg (fun z => by rw [z, hm] at h; cases h)]
  · have k1 : q = p := Decidable.byContradiction (fun z => by
      simp only [if_neg z] at e1
      rw [hj q hq e1] at h1; cases h1)
    have k2 : r = p := Decidable.byContradiction (fun z => by
      simp only [if_neg z] at e2
      rw [hj r hr e2] at h2; cases h2)
    rw [k1, k2]
  · have k1 : ¬ q = p := fun z => h2 (if_pos z)
    simp only [if_neg k1] at h1 h2 e1
    have k2 : ¬ r = p := fun z => by
      rw [if_pos z] at e1; exact h2 e1
    rw [if_neg k2] at e1
    exact hI q r hq hr h1 e1
  · show 0 ≤ (if q = p then (j : Int) else nf q) ↔ _
    by_cases z : q = p
    · rw [if_pos z]; exact ⟨fun _ => Or.inr z, fun _ => Int.natCast_nonneg j⟩
    · rw [if_neg z]; exact ⟨Or.inl, fun h => h.resolve_right z⟩
  · refine ⟨q, hq, if_neg (fun z => ?_)⟩
    rw [z, hn] at h; omega
  · by_cases z : q = p
    · exact Or.inl (if_pos z)
    · simp only [if_neg z] at h ⊢
      exact Or.inr ⟨q, hq, rfl⟩
/-- p was taken from name x, that has found another place -/
theorem gOK_1 {fit : Nat → Nat → Bool} {nf nf1 : Nat → Int} {mt mt1 : Nat → Bool} {j p x : Nat} (hI : mIn nf) (hj : ∀ q, q < 16 → nf q = (j : Int) → mt q = true) (hp : p < 16) (hm : mt p = false) (hn : nf p = (x : Int)) (hs : ∀ q, q < 16 → mt q = true → mt1 q = true) (hp1 : mt1 p = true) (g : gOK fit nf nf1 mt1 x) : gOK fit nf (fun q => if q = p then (j : Int) else nf1 q) mt j := by
  have xj : ¬ x = j := fun z => by
    have := hj p hp (by rw [hn, z])
    rw [hm] at this; cases this
  have xj2 : ¬ (x : Int) = (j : Int) := fun z => xj (by omega)
  have np : nf1 p = (x : Int) := by rw [gOK_a g p hp hp1, hn]
  refine ⟨fun q hq h => ?_, ⟨p, hp, hm, if_pos rfl⟩, fun q r hq hr h1 h2 e1 e2 => ?_, fun q r hq hr h1 h2 e1 => ?_, ?_, fun q hq h => ?_, fun q hq h => ?_⟩
  · show (if q = p then (j : Int) else nf1 q) = nf q
    rw [if_neg (fun z => by rw [z, hm] at h; cases h)]
    exact gOK_a g q hq (hs q hq h)
  · have k : ∀ q, q < 16 → mt q = false → (if q = p then (j : Int) else nf1 q) = (j : Int) → q = p := fun q hq h1 e1 => Decidable.byContradiction (fun z => by
      rw [if_neg z] at e1
      rcases gOK_h g q hq (by omega) with w | ⟨p', w1, w2⟩
      · rw [e1] at w; exact xj2 w.symm
      · rw [e1] at w2
        have w3 := hj p' w1 w2
        have w4 : nf1 p' = (j : Int) := by rw [gOK_a g p' w1 (hs p' w1 w3), w2]
        have w5 := gOK_d g p' q w1 hq (by omega) (by rw [w4]; exact fun z => xj2 z.symm) (by rw [w4, e1])
        rw [w5, h1] at w3; cases w3)
    rw [k q hq h1 e1, k r hr h2 e2]
  · have k1 : ¬ q = p := fun z => h2 (if_pos z)
    simp only [if_neg k1] at h1 h2 e1
    have k2 : ¬ r = p := fun z => by
      rw [if_pos z] at e1; exact h2 e1
    rw [if_neg k2] at e1
    by_cases y : nf1 q = (x : Int)
    · have k3 : ∀ q, q < 16 → ¬ q = p → nf1 q = (x : Int) → mt1 q = false := fun q hq k1 y => by
        cases w : mt1 q with
        | false => rfl
        | true =>
          have := gOK_a g q hq w
          exact absurd (hI q p hq hp (by omega) (by rw [hn, ← this, y])) k1
      exact gOK_u g q r hq hr (k3 q hq k1 y) (k3 r hr k2 (by rw [← e1, y])) y (by rw [← e1, y])
    · exact gOK_d g q r hq hr h1 y e1
  · obtain ⟨p1, a1, a2, a3⟩ := gOK_e g
    refine ⟨p1, a1, a2, fun q hq => ?_⟩
    show 0 ≤ (if q = p then (j : Int) else nf1 q) ↔ _
    by_cases z : q = p
    · rw [if_pos z, z]; exact ⟨fun _ => Or.inl (by omega), fun _ => Int.natCast_nonneg j⟩
    · rw [if_neg z]; exact a3 q hq
  · by_cases y : nf q = (x : Int)
    · obtain ⟨p2, b1, b2, b3⟩ := gOK_b g
      have : ¬ p2 = p := fun z => by rw [z, hp1] at b2; cases b2
      exact ⟨p2, b1, (if_neg this).trans (by rw [b3, y])⟩
    · obtain ⟨p2, b1, b2⟩ := gOK_f g q hq h
      have : ¬ p2 = p := fun z => by rw [z, np] at b2; exact y b2.symm
      exact ⟨p2, b1, (if_neg this).trans b2⟩
  · by_cases z : q = p
    · exact Or.inl (if_pos z)
    · simp only [if_neg z] at h ⊢
      rcases gOK_h g q hq h with w | w
      · exact Or.inr ⟨p, hp, by rw [hn, w]⟩
      · exact Or.inr w
theorem gOK_n {fit : Nat → Nat → Bool} {nf nf2 : Nat → Int} {mt : Nat → Bool} {j : Nat} (h : gOK fit nf nf2 mt j) : mN nf2 = mN nf + 1 := by
  obtain ⟨p1, a1, a2, a3⟩ := gOK_e h
  have := mN_set (nf := nf) (j := 0) a1 a2 (by decide)
  rw [← this]
  unfold mN
  refine cnt_congr (fun k hk => ?_)
  have := a3 k hk
  show decide (0 ≤ nf2 k) = decide (0 ≤ (if k = p1 then 0 else nf k))
  by_cases z : k = p1
  · rw [if_pos z, decide_eq_decide]
    exact ⟨fun _ => by decide, fun _ => this.2 (Or.inr z)⟩
  · rw [if_neg z, decide_eq_decide]
    exact ⟨fun q => (this.1 q).resolve_right z, fun q => this.2 (Or.inl q)⟩
