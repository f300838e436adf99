/-! ===== the night: what holds of it ===== -/
def smN (f : Nat → Int) : Nat → Int
  | 0 => 0
  | n + 1 => smN f n + f n
theorem smN_nn {f : Nat → Int} : ∀ n, (∀ r, r < n → 0 ≤ f r) → 0 ≤ smN f n
  | 0, _ => Int.le_refl _
  | n + 1, h => by
    have h1 := smN_nn n (fun r hr => h r (by omega))
    have h2 := h n (by omega)
    show 0 ≤ smN f n + f n
    omega
theorem smN_le {f : Nat → Int} : ∀ n k, (∀ r, r < n → 0 ≤ f r) → k < n → f k ≤ smN f n
  | 0, k, _, hk => absurd hk (Nat.not_lt_zero _)
  | n + 1, k, h, hk => by
    show f k ≤ smN f n + f n
    have h2 := h n (by omega)
    rcases Nat.lt_succ_iff_lt_or_eq.mp hk with g | g
    · have := smN_le n k (fun r hr => h r (by omega)) g
      omega
    · subst g
      have := smN_nn k (fun r hr => h r (by omega))
      omega
theorem smN_wt (wt sl : Nat → Int) (out : Int) : ∀ n, smN (nWt wt sl out) (n + 1) = smN wt (n + 1) + out - wt n / sl n
  | 0 => by
    show 0 + (wt 0 + (if 0 = 0 then out else _) - wt 0 / sl 0) = 0 + wt 0 + out - wt 0 / sl 0
    rw [if_pos rfl]; omega
  | n + 1 => by
    have ih := smN_wt wt sl out n
    show smN (nWt wt sl out) (n + 1) + (wt (n + 1) + (if n + 1 = 0 then out else wt (n + 1 - 1) / sl (n + 1 - 1)) - wt (n + 1) / sl (n + 1)) = smN wt (n + 1) + wt (n + 1) + out - wt (n + 1) / sl (n + 1)
    rw [ih, if_neg (by omega), Nat.add_sub_cancel]
    omega
theorem tNo_in {c r : bM} (hV : RelV c r) {w : Nat} (hw : w < 3) {i : Int} (hi : 0 ≤ i) : 0 ≤ tNo c w i ∧ tNo c w i ≤ 999 := by
  have h1 := RelV_rtabl hV w hw
  unfold tNo
  exact RelV_rtable hV _ (by omega)
theorem nO1_in {g f p : Int} {k : Nat} (hg : 0 ≤ g) (hp : 0 ≤ p) : 0 ≤ nO1 g f k p ∧ nO1 g f k p ≤ p := by
  unfold nO1
  split <;> omega
theorem nO2_in {c r : bM} (hV : RelV c r) {w : Nat} (hw : w < 3) {s p : Int} {k : Nat} (hp : 0 ≤ p) : 0 ≤ nO2 c w s k p ∧ nO2 c w s k p ≤ p := by
  unfold nO2
  split
  · have := tNo_in hV hw (i := (k : Int) - s) (by omega)
    omega
  · omega
theorem nOut_in {c r : bM} (hV : RelV c r) {w : Nat} (hw : w < 3) {s g f p : Int} {k : Nat} (hg : 0 ≤ g) (hp : 0 ≤ p) : 0 ≤ nOut c w s g f k p ∧ nOut c w s g f k p ≤ p := by
  have h1 := nO1_in (f := f) (k := k) hg hp
  have h2 := nO2_in hV hw (s := s) (k := k) (p := p - nO1 g f k p) (by omega)
  unfold nOut
  omega
theorem nSl_in (c : bM) (fl : Nat → Bool) (sl : Nat → Int) {r : Nat} (h : 2 ≤ sl r ∧ sl r ≤ 9) : ∀ n, 2 ≤ nSl c fl sl n r ∧ nSl c fl sl n r ≤ 9
  | 0 => h
  | n + 1 => by
    have ih := nSl_in c fl sl h n
    unfold nSl
    split <;> omega
theorem nSl_ge (c : bM) (fl : Nat → Bool) (sl : Nat → Int) {r : Nat} (h : sl r ≤ 9) : ∀ n, sl r ≤ nSl c fl sl n r ∧ nSl c fl sl n r ≤ 9
  | 0 => ⟨Int.le_refl _, h⟩
  | n + 1 => by
    have ih := nSl_ge c fl sl h n
    unfold nSl
    split <;> omega
theorem nSl_none (c : bM) {fl : Nat → Bool} (sl : Nat → Int) : ∀ n, (∀ h, h < n → fl h = false) → nSl c fl sl n = sl
  | 0, _ => rfl
  | n + 1, h => by
    funext r
    unfold nSl
    rw [if_neg (fun q => by rw [h n (by omega)] at q; cases q.1), nSl_none c sl n (fun j hj => h j (by omega))]
def NOK (t : nT) : Prop := (0 ≤ t.1) ∧ (∀ r, r < 12 → 0 ≤ t.2.1 r) ∧ (t.1 + smN t.2.1 12 ≤ 9999) ∧ (∀ r, r < 12 → 2 ≤ t.2.2.1 r ∧ t.2.2.1 r ≤ 9)
theorem NOK_p {t : nT} (h : NOK t) : 0 ≤ t.1 := h.1
theorem NOK_w {t : nT} (h : NOK t) : ∀ r, r < 12 → 0 ≤ t.2.1 r := h.2.1
theorem NOK_s {t : nT} (h : NOK t) : t.1 + smN t.2.1 12 ≤ 9999 := h.2.2.1
theorem NOK_l {t : nT} (h : NOK t) : ∀ r, r < 12 → 2 ≤ t.2.2.1 r ∧ t.2.2.1 r ≤ 9 := h.2.2.2
theorem NOK_wt {t : nT} (h : NOK t) {r : Nat} (hr : r < 12) : 0 ≤ t.2.1 r ∧ t.2.1 r ≤ 9999 := by
  have h1 := smN_le 12 r (NOK_w h) hr
  have h2 := NOK_s h
  have h3 := NOK_p h
  exact ⟨NOK_w h r hr, by omega⟩
theorem div_in {a b : Int} (ha : 0 ≤ a) (hb : 1 ≤ b) : 0 ≤ a / b ∧ a / b ≤ a := ⟨Int.ediv_nonneg ha (by omega), Int.ediv_le_self b ha⟩
theorem nS_ok {c r : bM} (hV : RelV c r) {w : Nat} (hw : w < 3) {s g f : Int} (hg : 0 ≤ g) : ∀ k, NOK (nS c w s g f k)
  | 0 => by
    have h1 := RelV_rwater hV
    refine ⟨h1.1, fun r _ => Int.le_refl _, ?_, fun r hr => RelV_rrough hV r hr⟩
    show c 1 7 + smN (fun _ => 0) 12 ≤ 9999
    have : smN (fun _ => 0) 12 = 0 := by decide
    omega
  | k + 1 => by
    have ih := nS_ok hV hw (s := s) (f := f) hg k
    have ho := nOut_in hV hw (s := s) (f := f) (k := k) hg (NOK_p ih)
    show NOK (nStep c w s g f k (nS c w s g f k))
    generalize nS c w s g f k = t at *
    have hl := NOK_l ih
    have hw0 := NOK_w ih
    have hn : ∀ r, r < 12 → 0 ≤ nWt t.2.1 t.2.2.1 (nOut c w s g f k t.1) r := fun r hr => by
      have d1 := div_in (hw0 r hr) (b := t.2.2.1 r) (by have := hl r hr; omega)
      unfold nWt
      split
      · omega
      · have d2 := div_in (hw0 (r - 1) (by omega)) (b := t.2.2.1 (r - 1)) (by have := hl (r - 1) (by omega); omega)
        omega
    refine ⟨by show 0 ≤ t.1 - nOut c w s g f k t.1; omega, hn, ?_, fun r hr => nSl_in c _ _ (hl r hr) _⟩
    show t.1 - nOut c w s g f k t.1 + smN (nWt t.2.1 t.2.2.1 (nOut c w s g f k t.1)) 12 ≤ 9999
    rw [show smN (nWt t.2.1 t.2.2.1 (nOut c w s g f k t.1)) 12 = smN t.2.1 12 + nOut c w s g f k t.1 - t.2.1 11 / t.2.2.1 11 from smN_wt _ _ _ 11]
    have d3 := div_in (hw0 11 (by decide)) (b := t.2.2.1 11) (by have := hl 11 (by decide); omega)
    have := NOK_s ih
    omega
theorem nD_in {c r : bM} (hV : RelV c r) {w : Nat} (hw : w < 3) {s g f : Int} (hg : 0 ≤ g) (k : Nat) {x : Nat} (hx : x < 12) : 0 ≤ nD c w s g f k x ∧ nD c w s g f k x ≤ 9999 := by
  have h1 := NOK_wt (nS_ok hV hw (s := s) (f := f) hg (k + 1)) hx
  have h2 := RelV_rwidth hV x hx
  have h3 := div_in h1.1 h2.1
  unfold nD
  omega
def oM1 (o : Option Nat) : Int := match o with
  | some k => (k : Int)
  | none => -1
theorem ff_s (p : Nat → Bool) (k : Nat) : ff p (k + 1) = match ff p k with
    | some j => some j
    | none => if p k = true then some k else none := rfl
/-- when a house falls: the first minute of such a depth -/
theorem nS_fo (c : bM) (w : Nat) (s g f : Int) : ∀ k h, (nS c w s g f k).2.2.2 h = if h < nHs c then oM1 (ff (fun j => decide (c 7 h ≤ nD c w s g f j (c 6 h).toNat)) k) else -1
  | 0, h => by
    show (-1 : Int) = _
    split <;> rfl
  | k + 1, h => by
    have ih := nS_fo c w s g f k h
    show nFo c (nS c w s g f (k + 1)).2.1 (nS c w s g f k).2.2.2 k h = _
    unfold nFo
    by_cases hh : h < nHs c
    · rw [if_pos hh] at ih ⊢
      rw [ff_s]
      unfold nFl
      rw [ih]
      cases hq : ff (fun j => decide (c 7 h ≤ nD c w s g f j (c 6 h).toNat)) k with
      | some j =>
        have : ¬ oM1 (some j) < 0 := by show ¬ (j : Int) < 0; omega
        simp [this]
      | none =>
        have : oM1 none < 0 := by decide
        have e : (nS c w s g f (k + 1)).2.1 (c 6 h).toNat / c 2 (c 6 h).toNat = nD c w s g f k (c 6 h).toNat := rfl
        rw [e]
        by_cases q : c 7 h ≤ nD c w s g f k (c 6 h).toNat
        · simp [hh, this, q, oM1]
        · simp [this, q, oM1]
    · rw [if_neg hh] at ih ⊢
      rw [if_neg (fun q => hh q.1), ih]
theorem mxx_s (f : Nat → Int) (k : Nat) : mxx f (k + 1) = if mxx f k < f k then f k else mxx f k := rfl
theorem ff_lt {f : Nat → Int} {d : Int} (hd : 1 ≤ d) {k : Nat} : ff (fun j => decide (d ≤ f j)) k = none ↔ mxx f k < d := by
  rw [ff_none]
  constructor
  · intro h
    rcases mxx_at f k with q | ⟨j, h1, h2⟩
    · omega
    · have := h j h1
      rw [h2]
      have := of_decide_eq_false this
      omega
  · intro h j hj
    have := mxx_ge f k j hj
    exact decide_eq_false (by omega)
theorem ff_low {f : Nat → Int} {d : Int} (hd : 1 ≤ d) {k : Nat} (h : f k ≤ mxx f k) : ff (fun j => decide (d ≤ f j)) (k + 1) = ff (fun j => decide (d ≤ f j)) k := by
  rw [ff_s]
  cases hq : ff (fun j => decide (d ≤ f j)) k with
  | some j => rfl
  | none =>
    have := (ff_lt hd).mp hq
    have h2 : ¬ d ≤ f k := by omega
    simp [h2]
theorem ff_up {f : Nat → Int} {d : Int} {k : Nat} (hq : ff (fun j => decide (d ≤ f j)) k = none) : ff (fun j => decide (d ≤ f j)) (k + 1) = if d ≤ f k then some k else none := by
  rw [ff_s, hq]
  by_cases h : d ≤ f k <;> simp [h]
theorem ff_stay {p : Nat → Bool} {k j : Nat} (hq : ff p k = some j) : ff p (k + 1) = some j := by rw [ff_s, hq]
/-! ===== a night that rests ===== -/
def eq12 (a b : nT) : Prop := a.1 = b.1 ∧ (∀ r, r < 12 → a.2.1 r = b.2.1 r) ∧ (∀ r, r < 12 → a.2.2.1 r = b.2.2.1 r) ∧ ∀ h, a.2.2.2 h = b.2.2.2 h
def rstC (c : bM) (w : Nat) (s g f : Int) (k : Nat) : Prop := nOut c w s g f k (nS c w s g f k).1 = 0 ∧ (∀ r, r < 12 → (nS c w s g f k).2.1 r / (nS c w s g f k).2.2.1 r = 0) ∧ ((nS c w s g f (k + 1)).1 = 0 ∨ (s + c 5 w - 1 ≤ (k : Int) ∧ (g = 0 ∨ f ≤ (k : Int))))
theorem rst_out {c r : bM} (hV : RelV c r) {w : Nat} (hw : w < 3) {s g f : Int} (hg : 0 ≤ g) {k : Nat} (h : rstC c w s g f k) (j : Nat) : nOut c w s g f (k + 1 + j) (nS c w s g f (k + 1)).1 = 0 := by
  obtain ⟨h1, _, h3⟩ := h
  have hp := NOK_p (nS_ok hV hw (s := s) (f := f) hg k)
  have e : (nS c w s g f (k + 1)).1 = (nS c w s g f k).1 := by
    show (nS c w s g f k).1 - nOut c w s g f k (nS c w s g f k).1 = _
    rw [h1]; omega
  rw [e] at h3 ⊢
  generalize (nS c w s g f k).1 = p at *
  have a1 := nO1_in (f := f) (k := k) hg hp
  have a2 := nO2_in hV hw (s := s) (k := k) (p := p - nO1 g f k p) (by omega)
  have b1 : nO1 g f k p = 0 := by unfold nOut at h1; omega
  have b2 : nO2 c w s k p = 0 := by
    unfold nOut at h1
    rw [b1, Int.sub_zero] at h1
    omega
  have c1 : nO1 g f (k + 1 + j) p = 0 := by
    unfold nO1 at b1 ⊢
    rcases h3 with q | ⟨q1, q2⟩
    · split <;> omega
    · rcases q2 with q3 | q3
      · split <;> omega
      · rw [if_pos q3] at b1
        rw [if_pos (by omega)]
        exact b1
  have c2 : nO2 c w s (k + 1 + j) p = 0 := by
    unfold nO2 at b2 ⊢
    rcases h3 with q | ⟨q1, q2⟩
    · split
      · have := tNo_in hV hw (i := ((k + 1 + j : Nat) : Int) - s) (by omega)
        omega
      · rfl
    · have hl := RelV_rtabl hV w hw
      rw [if_pos (by omega)] at b2 ⊢
      have e2 : tNo c w (((k + 1 + j : Nat) : Int) - s) = tNo c w ((k : Int) - s) := by
        unfold tNo
        rw [show min (((k + 1 + j : Nat) : Int) - s) (c 5 w - 1) = min ((k : Int) - s) (c 5 w - 1) by omega]
      rw [e2]; exact b2
  unfold nOut
  rw [c1, Int.sub_zero, c2]
  rfl
theorem steady {c r : bM} (hV : RelV c r) {w : Nat} (hw : w < 3) {s g f : Int} (hg : 0 ≤ g) {k : Nat} (h : rstC c w s g f k) : ∀ j, eq12 (nS c w s g f (k + 1 + j)) (nS c w s g f (k + 1))
  | 0 => ⟨rfl, fun _ _ => rfl, fun _ _ => rfl, fun _ => rfl⟩
  | j + 1 => by
    obtain ⟨i1, i2, i3, i4⟩ := steady hV hw hg h j
    have ho := rst_out hV hw hg h j
    obtain ⟨h1, h2, _⟩ := h
    have okk := nS_ok hV hw (s := s) (f := f) hg k
    have e1 : nS c w s g f (k + 1) = nStep c w s g f k (nS c w s g f k) := rfl
    have e2 : nS c w s g f (k + 1 + (j + 1)) = nStep c w s g f (k + 1 + j) (nS c w s g f (k + 1 + j)) := rfl
    rw [e2]
    generalize nS c w s g f (k + 1 + j) = a at *
    have hh10 := RelV_rhouses hV
    have w1 : ∀ r, r < 12 → (nS c w s g f (k + 1)).2.1 r = (nS c w s g f k).2.1 r := fun r hr => by
      rw [e1]
      show nWt _ _ _ r = _
      unfold nWt
      rw [h1, h2 r hr]
      split
      · omega
      · rw [h2 (r - 1) (by omega)]; omega
    have q0 : ∀ r, r < 12 → a.2.1 r / a.2.2.1 r = 0 := fun r hr => by
      rw [i2 r hr, i3 r hr, w1 r hr]
      have l1 := NOK_l okk r hr
      have l2 := NOK_w okk r hr
      have l3 : (nS c w s g f k).2.2.1 r ≤ (nS c w s g f (k + 1)).2.2.1 r := by
        rw [e1]
        exact (nSl_ge c _ _ l1.2 _).1
      have l4 : (nS c w s g f k).2.1 r < (nS c w s g f k).2.2.1 r := by
        have := Int.lt_ediv_add_one_mul_self ((nS c w s g f k).2.1 r) (show 0 < (nS c w s g f k).2.2.1 r by omega)
        rw [h2 r hr] at this
        omega
      exact Int.ediv_eq_zero_of_lt l2 (by omega)
    have o1 : nOut c w s g f (k + 1 + j) a.1 = 0 := by rw [i1]; exact ho
    have w2 : ∀ r, r < 12 → nWt a.2.1 a.2.2.1 (nOut c w s g f (k + 1 + j) a.1) r = a.2.1 r := fun r hr => by
      unfold nWt
      rw [o1, q0 r hr]
      split
      · omega
      · rw [q0 (r - 1) (by omega)]; omega
    have fl0 : ∀ x, x < nHs c → nFl c (nWt a.2.1 a.2.2.1 (nOut c w s g f (k + 1 + j) a.1)) a.2.2.2 x = false := fun x hx => by
      have hx10 : x < 10 := by unfold nHs at hx; omega
      have hr := RelV_rhAt hV x hx10
      unfold nFl
      rw [w2 _ (by omega), i2 _ (by omega), i4]
      cases hq : decide ((nS c w s g f (k + 1)).2.2.2 x < 0) with
      | false => rfl
      | true =>
        have hq2 := of_decide_eq_true hq
        rw [e1] at hq2
        have hq3 : nFo c (nS c w s g f (k + 1)).2.1 (nS c w s g f k).2.2.2 k x < 0 := hq2
        unfold nFo at hq3
        split at hq3
        · omega
        · rename_i hn
          have hn2 : ¬ nFl c (nS c w s g f (k + 1)).2.1 (nS c w s g f k).2.2.2 x = true := fun q => hn ⟨hx, q⟩
          unfold nFl at hn2
          simp only [hq3, decide_true, Bool.true_and] at hn2
          simpa using hn2
    refine ⟨?_, ?_, ?_, ?_⟩
    · show a.1 - nOut c w s g f (k + 1 + j) a.1 = _
      rw [o1, i1]; omega
    · intro r hr
      show nWt a.2.1 a.2.2.1 (nOut c w s g f (k + 1 + j) a.1) r = _
      rw [w2 r hr, i2 r hr]
    · intro r hr
      show nSl c _ a.2.2.1 (nHs c) r = _
      rw [nSl_none c _ _ fl0, i3 r hr]
    · intro x
      show nFo c _ a.2.2.2 _ x = _
      unfold nFo
      rw [if_neg (fun q => by rw [fl0 x q.1] at q; cases q.2), i4]
theorem steadyD {c r : bM} (hV : RelV c r) {w : Nat} (hw : w < 3) {s g f : Int} (hg : 0 ≤ g) {k : Nat} (h : rstC c w s g f k) (j : Nat) {x : Nat} (hx : x < 12) : nD c w s g f (k + j) x = nD c w s g f k x := by
  unfold nD
  have := (steady hV hw hg h j).2.1 x hx
  rw [show k + j + 1 = k + 1 + j by omega, this]
/-! ===== things that go ===== -/
def flo (D : Nat → Nat → Int) (g : Int) : Nat → Nat → Nat → Bool
  | 0, _, r => decide (r < 12)
  | j + 1, k, r => decide (r < 12 ∧ g ≤ D k r) && flo D g j (k + 1) (r + 1)
theorem wlk_s (D : Nat → Nat → Int) (g : Int) (j k r : Nat) : wlk D g (j + 1) k r = if r < 12 ∧ g ≤ D k r then wlk D g j (k + 1) (r + 1) else r := rfl
theorem flo_s (D : Nat → Nat → Int) (g : Int) (j k r : Nat) : flo D g (j + 1) k r = (decide (r < 12 ∧ g ≤ D k r) && flo D g j (k + 1) (r + 1)) := rfl
theorem wlk_snoc (D : Nat → Nat → Int) (g : Int) : ∀ j k r, wlk D g (j + 1) k r = if flo D g j k r = true ∧ g ≤ D (k + j) (wlk D g j k r) then wlk D g j k r + 1 else wlk D g j k r
  | 0, k, r => by
    show (if r < 12 ∧ g ≤ D k r then r + 1 else r) = if decide (r < 12) = true ∧ g ≤ D k r then r + 1 else r
    simp only [decide_eq_true_eq]
  | j + 1, k, r => by
    rw [wlk_s, wlk_snoc D g j (k + 1) (r + 1), wlk_s D g j k r, flo_s]
    by_cases q : r < 12 ∧ g ≤ D k r
    · rw [if_pos q, if_pos q, show k + 1 + j = k + (j + 1) by omega]
      simp only [q, and_self, decide_true, Bool.true_and]
    · rw [if_neg q, if_neg q]
      simp only [q, decide_false, Bool.false_and, Bool.false_eq_true, false_and, if_false]
theorem flo_snoc (D : Nat → Nat → Int) (g : Int) : ∀ j k r, flo D g (j + 1) k r = (flo D g j k r && (decide (g ≤ D (k + j) (wlk D g j k r)) && decide (wlk D g j k r + 1 < 12)))
  | 0, k, r => by
    show (decide (r < 12 ∧ g ≤ D k r) && decide (r + 1 < 12)) = (decide (r < 12) && (decide (g ≤ D k r) && decide (r + 1 < 12)))
    rw [Bool.decide_and, Bool.and_assoc]
  | j + 1, k, r => by
    rw [flo_s, flo_snoc D g j (k + 1) (r + 1), flo_s D g j k r, wlk_s D g j k r]
    by_cases q : r < 12 ∧ g ≤ D k r
    · rw [if_pos q, show k + 1 + j = k + (j + 1) by omega]
      simp only [q, and_self, decide_true, Bool.true_and]
    · rw [if_neg q]
      simp only [q, decide_false, Bool.false_and]
theorem flo_12 (D : Nat → Nat → Int) (g : Int) : ∀ j k r, flo D g j k r = true → wlk D g j k r < 12
  | 0, k, r, h => of_decide_eq_true h
  | j + 1, k, r, h => by
    rw [flo_s, Bool.and_eq_true, decide_eq_true_eq] at h
    rw [wlk_s, if_pos h.1]
    exact flo_12 D g j (k + 1) (r + 1) h.2
theorem wlk_12 (D : Nat → Nat → Int) (g : Int) : ∀ j k r, r ≤ 12 → wlk D g j k r ≤ 12
  | 0, k, r, h => h
  | j + 1, k, r, h => by
    rw [wlk_s]
    split
    · rename_i q
      exact wlk_12 D g j (k + 1) (r + 1) (by omega)
    · exact h
/-- where a thing is, and whether it goes on, behind k minutes; fo: when houses fell -/
def tPos (c : bM) (D : Nat → Nat → Int) (fo : Nat → Int) (k t : Nat) : Nat := if 0 ≤ fo (tHm c t) then wlk D (c 46 t) (k - 1 - (fo (tHm c t)).toNat) ((fo (tHm c t)).toNat + 1) (tHome c t) else tHome c t
def tFlo (c : bM) (D : Nat → Nat → Int) (fo : Nat → Int) (k t : Nat) : Bool := decide (0 ≤ fo (tHm c t)) && flo D (c 46 t) (k - 1 - (fo (tHm c t)).toNat) ((fo (tHm c t)).toNat + 1) (tHome c t)
theorem tPos_12 {c : bM} {D : Nat → Nat → Int} {fo : Nat → Int} {k t : Nat} (h : tHome c t ≤ 12) : tPos c D fo k t ≤ 12 := by
  unfold tPos
  split
  · exact wlk_12 _ _ _ _ _ h
  · exact h
theorem tFlo_12 {c : bM} {D : Nat → Nat → Int} {fo : Nat → Int} {k t : Nat} (h : tFlo c D fo k t = true) : tPos c D fo k t < 12 := by
  unfold tFlo at h
  rw [Bool.and_eq_true, decide_eq_true_eq] at h
  unfold tPos
  rw [if_pos h.1]
  exact flo_12 _ _ _ _ _ h.2
/-- one minute on, of a thing whose house fell before -/
theorem tPos_s {c : bM} {D : Nat → Nat → Int} {fo : Nat → Int} {k t : Nat} (h0 : 0 ≤ fo (tHm c t)) (h1 : fo (tHm c t) < (k : Int)) : tPos c D fo (k + 1) t = if tFlo c D fo k t = true ∧ c 46 t ≤ D k (tPos c D fo k t) then tPos c D fo k t + 1 else tPos c D fo k t := by
  unfold tPos tFlo
  rw [if_pos h0, if_pos h0]
  have e : k + 1 - 1 - (fo (tHm c t)).toNat = k - 1 - (fo (tHm c t)).toNat + 1 := by omega
  rw [e, wlk_snoc, show (fo (tHm c t)).toNat + 1 + (k - 1 - (fo (tHm c t)).toNat) = k by omega]
  simp only [h0, decide_true, Bool.true_and]
theorem tFlo_s {c : bM} {D : Nat → Nat → Int} {fo : Nat → Int} {k t : Nat} (h0 : 0 ≤ fo (tHm c t)) (h1 : fo (tHm c t) < (k : Int)) : tFlo c D fo (k + 1) t = (tFlo c D fo k t && (decide (c 46 t ≤ D k (tPos c D fo k t)) && decide (tPos c D fo k t + 1 < 12))) := by
  unfold tPos tFlo
  rw [if_pos h0]
  have e : k + 1 - 1 - (fo (tHm c t)).toNat = k - 1 - (fo (tHm c t)).toNat + 1 := by omega
  rw [e, flo_snoc, show (fo (tHm c t)).toNat + 1 + (k - 1 - (fo (tHm c t)).toNat) = k by omega]
  simp only [h0, decide_true, Bool.true_and]
