/-! ===== a round: members against claims; as: who was asked, h': over members, h: over claims ===== -/
def rdJ (as h' h : Nat → Bool) : Prop := ∀ c, h c = (!as c || h' (cnt as c))
/-- what members are told to be -/
def rdM (as : Nat → Bool) (f' f : Nat → Int) (N : Nat) : Prop := ∀ c, c < N → as c = true → f' (cnt as c) = f c
theorem cnT {p : Nat → Bool} {n : Nat} (h : p n = true) : cnt p (n + 1) = cnt p n + 1 := by rw [cnt_s, if_pos h]
theorem cnF {p : Nat → Bool} {n : Nat} (h : p n = false) : cnt p (n + 1) = cnt p n := by rw [cnt_s, h]; rfl
theorem cnt_up {p : Nat → Bool} {a : Nat} : ∀ d, cnt p a ≤ cnt p (a + d)
  | 0 => Nat.le_refl _
  | d + 1 => by
    have := cnt_up (p := p) (a := a) d
    have e := cnt_s p (a + d)
    rw [show a + (d + 1) = a + d + 1 by omega]
    omega
theorem cnt_lt {p : Nat → Bool} {a b : Nat} (h : a < b) (ha : p a = true) : cnt p a < cnt p b := by
  have := cnt_up (p := p) (a := a + 1) (b - (a + 1))
  rw [show a + 1 + (b - (a + 1)) = b by omega, cnT ha] at this
  omega
theorem cnt_inj2 {p : Nat → Bool} {a b : Nat} (ha : p a = true) (hb : p b = true) (h : cnt p a = cnt p b) : a = b := by
  rcases Nat.lt_trichotomy a b with q | q | q
  · have := cnt_lt q ha; omega
  · exact q
  · have := cnt_lt q hb; omega
theorem rdJ_f {as h' h : Nat → Bool} (j : rdJ as h' h) {c : Nat} (e : h c = false) : as c = true ∧ h' (cnt as c) = false := by
  have := j c
  rw [e] at this
  revert this
  cases as c <;> cases h' (cnt as c) <;> decide
theorem rdJ_a {as h' h : Nat → Bool} (j : rdJ as h' h) {c : Nat} (e : as c = true) : h c = h' (cnt as c) := by
  rw [j c, e]; rfl
theorem rdJ_n {as h' h : Nat → Bool} (j : rdJ as h' h) {c : Nat} (e : as c = false) : h c = true := by
  rw [j c, e]; rfl
theorem rdJ_I {as h' h : Nat → Bool} (j : rdJ as h' h) {i : Nat} (hi : as i = true) : rdJ as (rdI h' (cnt as i)) (rdI h i) := fun c => by
  unfold rdI
  rw [j c]
  cases hc : as c with
  | false => rfl
  | true =>
    by_cases z : c = i
    · subst z; simp
    · have : ¬ cnt as c = cnt as i := fun q => z (cnt_inj2 hc hi q)
      simp [z, this]
section
variable {as : Nat → Bool} {rr' w' rr w : Nat → Int} {N : Nat}
theorem rdW_J {h' h : Nat → Bool} (j : rdJ as h' h) : ∀ {k : Nat}, rdM as w' w k → rdW w' h' (cnt as k) = rdW w h k
  | 0, _ => rfl
  | k + 1, e => by
    have ih := rdW_J (h' := h') (h := h) j (k := k) (fun c hc => e c (by omega))
    cases z : as k with
    | false =>
      rw [cnF z, ih]
      show _ = if h k = true then _ else _
      rw [rdJ_n j z]; rfl
    | true =>
      rw [cnT z]
      show (if h' (cnt as k) = true then rdW w' h' (cnt as k) else rdW w' h' (cnt as k) + w' (cnt as k)) = if h k = true then rdW w h k else rdW w h k + w k
      rw [ih, rdJ_a j z, e k (Nat.lt_succ_self _) z]
theorem rdF_J {f' f : Nat → Int} {h' h : Nat → Bool} (j : rdJ as h' h) : ∀ {k : Nat}, (∀ c, c < k → as c = true → h c = false → f' (cnt as c) = f c) → rdF f' h' (cnt as k) = (rdF f h k).map (cnt as)
  | 0, _ => rfl
  | k + 1, e => by
    have ih := rdF_J (f' := f') (f := f) (h' := h') (h := h) j (k := k) (fun c hc => e c (by omega))
    cases z : as k with
    | false =>
      rw [cnF z, ih]
      show _ = (if h k = true then rdF f h k else _).map (cnt as)
      rw [rdJ_n j z]; rfl
    | true =>
      rw [cnT z]
      show (if h' (cnt as k) = true then rdF f' h' (cnt as k) else match rdF f' h' (cnt as k) with | none => some (cnt as k) | some i => if f' (cnt as k) < f' i then some (cnt as k) else some i) = (if h k = true then rdF f h k else match rdF f h k with | none => some k | some i => if f k < f i then some k else some i).map (cnt as)
      rw [ih, rdJ_a j z]
      cases y : h' (cnt as k) with
      | true => rfl
      | false =>
        have hk : h k = false := by rw [rdJ_a j z]; exact y
        rw [if_neg (by decide), if_neg (by decide)]
        cases q : rdF f h k with
        | none => rfl
        | some i =>
          obtain ⟨i1, i2, _⟩ := rdF_some q
          show (if f' (cnt as k) < f' (cnt as i) then some (cnt as k) else some (cnt as i)) = (if f k < f i then some k else some i).map (cnt as)
          rw [e k (Nat.lt_succ_self _) z hk, e i (by omega) (rdJ_f j i2).1 i2]
          split <;> rfl
theorem rdU_J {h' h : Nat → Bool} (j : rdJ as h' h) : ∀ k, rdU h' (cnt as k) = rdU h k
  | 0 => rfl
  | k + 1 => by
    have ih := rdU_J (h' := h') (h := h) j k
    unfold rdU at ih ⊢
    cases z : as k with
    | false => rw [cnF z, ih, cnF (by rw [rdJ_n j z]; rfl)]
    | true =>
      rw [cnT z, cnt_s, cnt_s, ih, rdJ_a j z]
theorem rdV_J (hr : rdM as rr' rr N) (hw : rdM as w' w N) : ∀ (d : Nat) {h' h : Nat → Bool} (r m : Int), rdJ as h' h → rdV (cnt as N) rr' w' d h' r m = rdV N rr w d h r m
  | 0, _, _, _, _, _ => rfl
  | d + 1, h', h, r, m, j => by
    have e : ∀ c, c < N → as c = true → h c = false → (dst r (rr' (cnt as c)) + m) * rdW w' h' (cnt as N) + rdV (cnt as N) rr' w' d (rdI h' (cnt as c)) (rr' (cnt as c)) 1 = (dst r (rr c) + m) * rdW w h N + rdV N rr w d (rdI h c) (rr c) 1 := fun c hc ha hh => by
      rw [hr c hc ha, rdW_J j hw, rdV_J hr hw d (rr c) 1 (rdJ_I j ha)]
    have q := rdF_J (f' := fun i => (dst r (rr' i) + m) * rdW w' h' (cnt as N) + rdV (cnt as N) rr' w' d (rdI h' i) (rr' i) 1) (f := fun i => (dst r (rr i) + m) * rdW w h N + rdV N rr w d (rdI h i) (rr i) 1) j e
    unfold rdV
    rw [q]
    cases y : rdF (fun i => (dst r (rr i) + m) * rdW w h N + rdV N rr w d (rdI h i) (rr i) 1) h N with
    | none => rfl
    | some i =>
      obtain ⟨i1, i2, _⟩ := rdF_some y
      exact e i i1 (rdJ_f j i2).1 i2
theorem rdC_J (hr : rdM as rr' rr N) (hw : rdM as w' w N) {h' h : Nat → Bool} (r m : Int) (j : rdJ as h' h) : rdC (cnt as N) rr' w' h' r m = rdC N rr w h r m := by
  unfold rdC
  rw [rdU_J j, rdV_J hr hw _ r m j]
theorem rdP_J (hr : rdM as rr' rr N) (hw : rdM as w' w N) {h' h : Nat → Bool} (r m : Int) (j : rdJ as h' h) {c : Nat} (hc : c < N) (ha : as c = true) : rdP (cnt as N) rr' w' h' r m (cnt as c) = rdP N rr w h r m c := by
  unfold rdP
  rw [hr c hc ha, rdW_J j hw, rdC_J hr hw _ _ (rdJ_I j ha)]
end
/-! a state of the search: who was heard, where the court is, what a way costs beside it -/
abbrev rdSt := (Nat → Bool) × Int × Int
def rdN (K : Nat) (rr w : Nat → Int) (s : rdSt) : Nat := (rdF (rdP K rr w s.1 s.2.1 s.2.2) s.1 K).getD 0
def rdX (K : Nat) (rr w : Nat → Int) (s : rdSt) : rdSt := (rdI s.1 (rdN K rr w s), rr (rdN K rr w s), 1)
def rdH (K : Nat) (rr w : Nat → Int) : Nat → rdSt → rdSt
  | 0, s => s
  | k + 1, s => rdH K rr w k (rdX K rr w s)
def rdDy (K : Nat) (rr w : Nat → Int) (s : rdSt) : Nat → Int
  | 0 => 0
  | k + 1 => rdDy K rr w s k + (dst (rdH K rr w k s).2.1 (rr (rdN K rr w (rdH K rr w k s))) + (rdH K rr w k s).2.2)
theorem rdH_s (K : Nat) (rr w : Nat → Int) : ∀ (k : Nat) (s : rdSt), rdH K rr w (k + 1) s = rdX K rr w (rdH K rr w k s)
  | 0, _ => rfl
  | k + 1, s => rdH_s K rr w k (rdX K rr w s)
theorem rdN_some {K : Nat} {rr w : Nat → Int} {s : rdSt} (h : 0 < rdU s.1 K) : rdF (rdP K rr w s.1 s.2.1 s.2.2) s.1 K = some (rdN K rr w s) := by
  cases q : rdF (rdP K rr w s.1 s.2.1 s.2.2) s.1 K with
  | none =>
    have := rdF_none q
    have z : rdU s.1 K = 0 := cnt_0 (fun k hk => by show (!s.1 k) = false; rw [this k hk]; rfl)
    omega
  | some i =>
    unfold rdN
    rw [q]; rfl
theorem rdN_in {K : Nat} {rr w : Nat → Int} {s : rdSt} (h : 0 < rdU s.1 K) : rdN K rr w s < K ∧ s.1 (rdN K rr w s) = false := by
  have := rdF_some (rdN_some (rr := rr) (w := w) h)
  exact ⟨this.1, this.2.1⟩
theorem rdH_U {K : Nat} {rr w : Nat → Int} : ∀ (k : Nat) (s : rdSt), k ≤ rdU s.1 K → rdU (rdH K rr w k s).1 K + k = rdU s.1 K
  | 0, _, _ => rfl
  | k + 1, s, h => by
    obtain ⟨a, b⟩ := rdN_in (K := K) (rr := rr) (w := w) (s := s) (by omega)
    have e := rdU_I a b
    have ih := rdH_U (K := K) (rr := rr) (w := w) k (rdX K rr w s) (by show k ≤ rdU (rdI s.1 (rdN K rr w s)) K; omega)
    have ih : rdU (rdH K rr w k (rdX K rr w s)).1 K + k = rdU (rdI s.1 (rdN K rr w s)) K := ih
    show rdU (rdH K rr w k (rdX K rr w s)).1 K + (k + 1) = rdU s.1 K
    omega
theorem rdH_in {K : Nat} {rr w : Nat → Int} (hr : ∀ i, i < K → 0 ≤ rr i ∧ rr i ≤ 11) : ∀ (k : Nat) (s : rdSt), k ≤ rdU s.1 K → 0 ≤ s.2.1 ∧ s.2.1 ≤ 11 → 0 ≤ s.2.2 ∧ s.2.2 ≤ 1 → (0 ≤ (rdH K rr w k s).2.1 ∧ (rdH K rr w k s).2.1 ≤ 11) ∧ 0 ≤ (rdH K rr w k s).2.2 ∧ (rdH K rr w k s).2.2 ≤ 1
  | 0, _, _, h1, h2 => ⟨h1, h2⟩
  | k + 1, s, h, h1, h2 => by
    obtain ⟨a, b⟩ := rdN_in (K := K) (rr := rr) (w := w) (s := s) (by omega)
    have e := rdU_I a b
    exact rdH_in hr k (rdX K rr w s) (by show k ≤ rdU (rdI s.1 (rdN K rr w s)) K; omega) (hr _ a) (by show (0 : Int) ≤ 1 ∧ (1 : Int) ≤ 1; decide)
theorem rdD_in {K : Nat} {rr w : Nat → Int} (hr : ∀ i, i < K → 0 ≤ rr i ∧ rr i ≤ 11) {s : rdSt} (h1 : 0 ≤ s.2.1 ∧ s.2.1 ≤ 11) (h2 : 0 ≤ s.2.2 ∧ s.2.2 ≤ 1) : ∀ (k : Nat), k ≤ rdU s.1 K → 0 ≤ rdDy K rr w s k ∧ rdDy K rr w s k ≤ 12 * (k : Int)
  | 0, _ => ⟨Int.le_refl _, Int.le_refl _⟩
  | k + 1, h => by
    have ih := rdD_in hr h1 h2 (w := w) k (by omega)
    have a := rdH_in (w := w) hr k s (by omega) h1 h2
    have u := rdH_U (K := K) (rr := rr) (w := w) k s (by omega)
    have b := rdN_in (K := K) (rr := rr) (w := w) (s := rdH K rr w k s) (by omega)
    have d := dst_in a.1 (hr _ b.1)
    show 0 ≤ rdDy K rr w s k + (dst (rdH K rr w k s).2.1 (rr (rdN K rr w (rdH K rr w k s))) + (rdH K rr w k s).2.2) ∧ rdDy K rr w s k + (dst (rdH K rr w k s).2.1 (rr (rdN K rr w (rdH K rr w k s))) + (rdH K rr w k s).2.2) ≤ 12 * ((k + 1 : Nat) : Int)
    omega
/-- states over members against states over claims -/
def rdE (as : Nat → Bool) (s' s : rdSt) : Prop := rdJ as s'.1 s.1 ∧ s'.2 = s.2
section
variable {as : Nat → Bool} {rr' w' rr w : Nat → Int} {N : Nat}
theorem rdN_J (hr : rdM as rr' rr N) (hw : rdM as w' w N) {s' s : rdSt} (e : rdE as s' s) (h : 0 < rdU s.1 N) : rdN (cnt as N) rr' w' s' = cnt as (rdN N rr w s) ∧ as (rdN N rr w s) = true := by
  obtain ⟨j, e2⟩ := e
  obtain ⟨a, b⟩ := rdN_in (K := N) (rr := rr) (w := w) (s := s) h
  have q := rdF_J (f' := rdP (cnt as N) rr' w' s'.1 s'.2.1 s'.2.2) (f := rdP N rr w s.1 s.2.1 s.2.2) (k := N) j (fun c hc ha hh => by rw [e2]; exact rdP_J hr hw _ _ j hc ha)
  rw [rdN_some h] at q
  refine ⟨?_, (rdJ_f j b).1⟩
  unfold rdN
  rw [q]
  rfl
theorem rdX_J (hr : rdM as rr' rr N) (hw : rdM as w' w N) {s' s : rdSt} (e : rdE as s' s) (h : 0 < rdU s.1 N) : rdE as (rdX (cnt as N) rr' w' s') (rdX N rr w s) := by
  obtain ⟨a, b⟩ := rdN_J hr hw e h
  have c := (rdN_in (K := N) (rr := rr) (w := w) (s := s) h).1
  refine ⟨?_, ?_⟩
  · show rdJ as (rdI s'.1 (rdN (cnt as N) rr' w' s')) (rdI s.1 (rdN N rr w s))
    rw [a]
    exact rdJ_I e.1 b
  · show (rr' (rdN (cnt as N) rr' w' s'), (1 : Int)) = (rr (rdN N rr w s), 1)
    rw [a, hr _ c b]
theorem rdH_J (hr : rdM as rr' rr N) (hw : rdM as w' w N) : ∀ (k : Nat) {s' s : rdSt}, rdE as s' s → k ≤ rdU s.1 N → rdE as (rdH (cnt as N) rr' w' k s') (rdH N rr w k s)
  | 0, _, _, e, _ => e
  | k + 1, s', s, e, h => by
    obtain ⟨a, b⟩ := rdN_in (K := N) (rr := rr) (w := w) (s := s) (by omega)
    have u := rdU_I a b
    exact rdH_J hr hw k (rdX_J hr hw e (by omega)) (by show k ≤ rdU (rdI s.1 (rdN N rr w s)) N; omega)
theorem rdD_J (hr : rdM as rr' rr N) (hw : rdM as w' w N) {s' s : rdSt} (e : rdE as s' s) : ∀ (k : Nat), k ≤ rdU s.1 N → rdDy (cnt as N) rr' w' s' k = rdDy N rr w s k
  | 0, _ => rfl
  | k + 1, h => by
    have ih := rdD_J hr hw e k (by omega)
    have eh := rdH_J hr hw k e (by omega)
    have u := rdH_U (K := N) (rr := rr) (w := w) k s (by omega)
    obtain ⟨a, b⟩ := rdN_J hr hw eh (by omega)
    have c := (rdN_in (K := N) (rr := rr) (w := w) (s := rdH N rr w k s) (by omega)).1
    show rdDy (cnt as N) rr' w' s' k + (dst (rdH (cnt as N) rr' w' k s').2.1 (rr' (rdN (cnt as N) rr' w' (rdH (cnt as N) rr' w' k s'))) + (rdH (cnt as N) rr' w' k s').2.2) = rdDy N rr w s k + (dst (rdH N rr w k s).2.1 (rr (rdN N rr w (rdH N rr w k s))) + (rdH N rr w k s).2.2)
    rw [ih, eh.2, a, hr _ c b]
end
