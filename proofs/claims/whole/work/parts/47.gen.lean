/-! ===== loops by invariant ===== -/
section
variable {c : bLs → bM → Option (Bool × bM)} {b s : bLs → bM → Option bRs}
theorem lp_st (L : Nat → bLs) (I : Nat → bM → Prop) : ∀ (N i n : Nat) (m : bM), I i m → (∀ k m, i ≤ k → k < i + N → I k m → ∃ m', bIt c b s (L k) m = some (.inl (0, L (k + 1), m')) ∧ I (k + 1) m') → ∃ m', I (i + N) m' ∧ bLp c b s (n + N) (L i) m = bLp c b s n (L (i + N)) m'
  | 0, i, n, m, h0, _ => ⟨m, h0, rfl⟩
  | N + 1, i, n, m, h0, hs => by
    obtain ⟨m1, e1, h1⟩ := hs i m (Nat.le_refl _) (by omega) h0
    obtain ⟨m2, h2, e2⟩ := lp_st L I N (i + 1) n m1 h1 (fun k m a b => hs k m (by omega) (by omega))
    exact ⟨m2, by rw [show i + (N + 1) = i + 1 + N by omega]; exact h2, by rw [show n + (N + 1) = (n + N) + 1 by omega, bLp_go e1, e2, show i + 1 + N = i + (N + 1) by omega]⟩
/-- a loop of N turns over memories with I, then out -/
theorem lp_m (L : Nat → bLs) (I : Nat → bM → Prop) (N : Nat) (hN : N < 1000) {m : bM} (h0 : I 0 m) (hs : ∀ k m, k < N → I k m → ∃ m', bIt c b s (L k) m = some (.inl (0, L (k + 1), m')) ∧ I (k + 1) m') (hx : ∀ m, I N m → bIt c b s (L N) m = some (.inl (1, L N, m))) : ∃ m', bLp c b s bF (L 0) m = some (.inl (0, L N, m')) ∧ I N m' := by
  obtain ⟨m', h1, e1⟩ := lp_st (c := c) (b := b) (s := s) L I N 0 (999 - N + 1) m h0 (fun k m _ b => hs k m (by omega))
  rw [Nat.zero_add] at h1 e1
  refine ⟨m', ?_, h1⟩
  rw [show bF = (999 - N + 1) + N by show 1000 = _; omega, e1, bLp_out (hx m' h1)]
/-- the same, ended by what turn N does -/
theorem lp_mx (L : Nat → bLs) (I : Nat → bM → Prop) (N : Nat) (hN : N < 1000) {m : bM} {Q : bLs → bM → Prop} (h0 : I 0 m) (hs : ∀ k m, k < N → I k m → ∃ m', bIt c b s (L k) m = some (.inl (0, L (k + 1), m')) ∧ I (k + 1) m') (hx : ∀ m, I N m → ∃ ls' m', bIt c b s (L N) m = some (.inl (1, ls', m')) ∧ Q ls' m') : ∃ ls' m', bLp c b s bF (L 0) m = some (.inl (0, ls', m')) ∧ Q ls' m' := by
  obtain ⟨m', h1, e1⟩ := lp_st (c := c) (b := b) (s := s) L I N 0 (999 - N + 1) m h0 (fun k m _ b => hs k m (by omega))
  rw [Nat.zero_add] at h1 e1
  obtain ⟨ls2, m2, e2, h2⟩ := hx m' h1
  refine ⟨ls2, m2, ?_, h2⟩
  rw [show bF = (999 - N + 1) + N by show 1000 = _; omega, e1, bLp_out e2]
/-- the same, turn N returns -/
theorem lp_mr (L : Nat → bLs) (I : Nat → bM → Prop) (N : Nat) (hN : N < 1000) {m : bM} {Q : bM → Int → Prop} (h0 : I 0 m) (hs : ∀ k m, k < N → I k m → ∃ m', bIt c b s (L k) m = some (.inl (0, L (k + 1), m')) ∧ I (k + 1) m') (hx : ∀ m, I N m → ∃ m' v, bIt c b s (L N) m = some (.inr (m', v)) ∧ Q m' v) : ∃ m' v, bLp c b s bF (L 0) m = some (.inr (m', v)) ∧ Q m' v := by
  obtain ⟨m', h1, e1⟩ := lp_st (c := c) (b := b) (s := s) L I N 0 (999 - N + 1) m h0 (fun k m _ b => hs k m (by omega))
  rw [Nat.zero_add] at h1 e1
  obtain ⟨m2, v, e2, h2⟩ := hx m' h1
  refine ⟨m2, v, ?_, h2⟩
  rw [show bF = (999 - N + 1) + N by show 1000 = _; omega, e1, bLp_ret e2]
/-- a loop by a measure that falls -/
theorem lp_wf {Q : bLs → bM → Prop} {R : bM → Int → Prop} (P : Nat → bLs → bM → Prop) (hs : ∀ n ls m, P n ls m → (∃ n' ls' m', n' < n ∧ bIt c b s ls m = some (.inl (0, ls', m')) ∧ P n' ls' m') ∨ (∃ ls' m', bIt c b s ls m = some (.inl (1, ls', m')) ∧ Q ls' m') ∨ ∃ m' v, bIt c b s ls m = some (.inr (m', v)) ∧ R m' v) : ∀ f n ls m, n < f → P n ls m → (∃ ls' m', bLp c b s f ls m = some (.inl (0, ls', m')) ∧ Q ls' m') ∨ ∃ m' v, bLp c b s f ls m = some (.inr (m', v)) ∧ R m' v
  | 0, n, ls, m, h, _ => absurd h (Nat.not_lt_zero _)
  | f + 1, n, ls, m, h, hp => by
    rcases hs n ls m hp with ⟨n', ls', m', h1, e1, h2⟩ | ⟨ls', m', e1, h2⟩ | ⟨m', v, e1, h2⟩
    · rw [bLp_go e1]
      exact lp_wf P hs f n' ls' m' (by omega) h2
    · exact Or.inl ⟨ls', m', bLp_out e1, h2⟩
    · exact Or.inr ⟨m', v, bLp_ret e1, h2⟩
end
/-! ===== calls that change what is remembered alone ===== -/
def kp (i : Nat) : Prop := i ≤ 92 ∨ i = 110 ∨ i = 118 ∨ i = 119 ∨ (125 ≤ i ∧ i ≤ 131) ∨ (133 ≤ i ∧ i ≤ 178) ∨ i = 192 ∨ (195 ≤ i ∧ i ≤ 203)
def Qry (m m2 : bM) : Prop := (∀ i, kp i → m2 i = m i) ∧ (m2 109 2 = m 109 2) ∧ (∀ k, 4 ≤ k → k ≤ 7 → m2 117 k = m 117 k) ∧ (m2 124 11 = m 124 11) ∧ (∀ k, (k = 47 ∨ k = 65 ∨ 79 ≤ k ∧ k ≤ 83 ∨ k = 91) → m2 132 k = m 132 k)
theorem Qry_kp {m m2 : bM} (h : Qry m m2) : ∀ i, kp i → m2 i = m i := h.1
theorem Qry_rl {m m2 : bM} (h : Qry m m2) : m2 109 2 = m 109 2 := h.2.1
theorem Qry_tr {m m2 : bM} (h : Qry m m2) : ∀ k, 4 ≤ k → k ≤ 7 → m2 117 k = m 117 k := h.2.2.1
theorem Qry_ht {m m2 : bM} (h : Qry m m2) : m2 124 11 = m 124 11 := h.2.2.2.1
theorem Qry_mm {m m2 : bM} (h : Qry m m2) : ∀ k, (k = 47 ∨ k = 65 ∨ 79 ≤ k ∧ k ≤ 83 ∨ k = 91) → m2 132 k = m 132 k := h.2.2.2.2
theorem Qry_refl (m : bM) : Qry m m := ⟨fun _ _ => rfl, rfl, fun _ _ _ => rfl, rfl, fun _ _ => rfl⟩
theorem Qry_trans {m m1 m2 : bM} (h1 : Qry m m1) (h2 : Qry m1 m2) : Qry m m2 := ⟨fun i h => (Qry_kp h2 i h).trans (Qry_kp h1 i h), (Qry_rl h2).trans (Qry_rl h1), fun k a b => (Qry_tr h2 k a b).trans (Qry_tr h1 k a b), (Qry_ht h2).trans (Qry_ht h1), fun k a => (Qry_mm h2 k a).trans (Qry_mm h1 k a)⟩
theorem Qry_agV {m m2 : bM} (h : Qry m m2) : agV m2 m := fun i a b => Qry_kp h i (by unfold kp; omega)
theorem Qry_agS {m m2 : bM} (h : Qry m m2) : agS m2 m := ⟨⟨fun i a b => Qry_kp h i (by unfold kp; omega), by rw [Qry_kp h 17 (by unfold kp; omega)]⟩, Qry_kp h _ (by unfold kp; omega), Qry_kp h _ (by unfold kp; omega)⟩
theorem Qry_agT {m m2 : bM} (h : Qry m m2) : agT m2 m := ⟨Qry_kp h _ (by unfold kp; omega), Qry_kp h _ (by unfold kp; omega), by rw [Qry_kp h 37 (by unfold kp; omega)]⟩
theorem Qry_agF {m m2 : bM} (h : Qry m m2) : agF m2 m := ⟨Qry_kp h _ (by unfold kp; omega), Qry_kp h _ (by unfold kp; omega), Qry_kp h _ (by unfold kp; omega), by rw [Qry_kp h 37 (by unfold kp; omega)]⟩
theorem Qry_rel {m m2 : bM} (h : Qry m m2) (hR : Rel m m) : Rel m2 m2 := Rel_congr hR (fun i a b => Qry_kp h i (by unfold kp; omega)) (fun i a b => Qry_kp h i (by unfold kp; omega))
theorem Rel_kept2 {m m2 : bM} (h : ∀ i, i ≤ 92 → m2 i = m i) (hi : m2 178 = m 178) (hr : Rel (kC m) (kR m)) : Rel (kC m2) (kR m2) := by
  obtain ⟨h1, h2, h3, h4, h5, h6⟩ := hr
  have e : kR m2 = kR m := by unfold kR; rw [hi]
  have k : ∀ i, i ≤ 85 → kC m2 i = kC m i := fun i hi => by
    show m2 (kcell i) = m (kcell i)
    apply h
    unfold kcell; split <;> (try split) <;> (try split) <;> (try split) <;> omega
  rw [e]
  exact ⟨RelN_congr h1 (k 1 (by decide)) (k 17 (by decide)) (k 37 (by decide)) (k 63 (by decide)) (k 79 (by decide)) rfl,
    RelV_congr h2 (fun i a b => k i (by omega)) (fun i a b => rfl),
    RelS_congr h3 (fun i a b => k i (by omega)) (fun i a b => rfl),
    RelF_congr h4 (fun i a b => k i (by omega)) (fun i a b => rfl),
    RelA_congr h5 (fun i a b => k i (by omega)) (fun i a b => rfl),
    RelC_congr h6 (fun i a b => k i (by omega)) (fun i a b => rfl)⟩
theorem Inv_qry {i : Nat} {m m2 : bM} (hI : Inv i m) (h : Qry m m2) (hn : NgtC (i + 1) m2 m2) (hf : m2 132 53 = 0 ∨ m2 132 53 = 1 ∧ NgtR m2 m2) : Inv (i + 1) m2 := by
  have q : ∀ i, kp i → m2 i = m i := Qry_kp h
  obtain ⟨k1, k2⟩ := Inv_kept hI
  refine ⟨Qry_rel h (Inv_rel hI), ?_, hn, hf, ?_, ?_, ?_⟩
  · rw [Qry_mm h 47 (by omega), q 0 (by unfold kp; omega)]
    refine ⟨k1, k2.imp id (fun w => ⟨w.1, ?_⟩)⟩
    exact Rel_kept2 (fun i h => q i (by unfold kp; omega)) (q _ (by unfold kp; omega)) w.2
  · have hH := Inv_host hI
    unfold HostOK at hH ⊢
    simp only [q 125 (by unfold kp; omega), q 126 (by unfold kp; omega), q 127 (by unfold kp; omega), q 128 (by unfold kp; omega), q 129 (by unfold kp; omega), q 130 (by unfold kp; omega), q 131 (by unfold kp; omega), q 197 (by unfold kp; omega), q 198 (by unfold kp; omega), q 199 (by unfold kp; omega), q 200 (by unfold kp; omega), q 201 (by unfold kp; omega), q 202 (by unfold kp; omega), q 203 (by unfold kp; omega), Qry_ht h, Qry_mm h 91 (by omega)]
    exact hH
  · have hT := Inv_tour hI
    unfold TourOK at hT ⊢
    simp only [q 118 (by unfold kp; omega), q 119 (by unfold kp; omega), q 195 (by unfold kp; omega), q 196 (by unfold kp; omega), Qry_tr h 4 (by omega) (by omega), Qry_tr h 5 (by omega) (by omega), Qry_tr h 6 (by omega) (by omega), Qry_tr h 7 (by omega) (by omega), Qry_mm h 79 (by omega), Qry_mm h 80 (by omega), Qry_mm h 81 (by omega), Qry_mm h 82 (by omega), Qry_mm h 83 (by omega)]
    exact hT
  · exact TapeOK_congr (Inv_tape hI) (Qry_rl h) (q _ (by unfold kp; omega)) (q _ (by unfold kp; omega)) (Qry_mm h 65 (by omega))
