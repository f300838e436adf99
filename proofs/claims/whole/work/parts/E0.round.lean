/-! ===== a round: the least cost, the first order that reaches it; K members with reaches rr and weights w; h: who was heard ===== -/
def rdW (w : Nat → Int) (h : Nat → Bool) : Nat → Int
  | 0 => 0
  | k + 1 => if h k = true then rdW w h k else rdW w h k + w k
/-- the first with the least f among those below k that were not heard -/
def rdF (f : Nat → Int) (h : Nat → Bool) : Nat → Option Nat
  | 0 => none
  | k + 1 => if h k = true then rdF f h k else match rdF f h k with
    | none => some k
    | some i => if f k < f i then some k else some i
def rdO (f : Nat → Int) (o : Option Nat) : Int := match o with
  | none => -1
  | some i => f i
def rdZ (f : Nat → Int) (o : Option Nat) : Int := match o with
  | none => 0
  | some i => f i
def rdI (h : Nat → Bool) (i : Nat) : Nat → Bool := fun j => h j || decide (j = i)
def rdV (K : Nat) (rr w : Nat → Int) : Nat → (Nat → Bool) → Int → Int → Int
  | 0, _, _, _ => 0
  | d + 1, h, r, m => rdZ (fun i => (dst r (rr i) + m) * rdW w h K + rdV K rr w d (rdI h i) (rr i) 1) (rdF (fun i => (dst r (rr i) + m) * rdW w h K + rdV K rr w d (rdI h i) (rr i) 1) h K)
def rdU (h : Nat → Bool) (K : Nat) : Nat := cnt (fun i => !h i) K
/-- what it costs at least to hear all others -/
def rdC (K : Nat) (rr w : Nat → Int) (h : Nat → Bool) (r m : Int) : Int := rdV K rr w (rdU h K) h r m
/-- what it costs if i comes next -/
def rdP (K : Nat) (rr w : Nat → Int) (h : Nat → Bool) (r m : Int) (i : Nat) : Int := (dst r (rr i) + m) * rdW w h K + rdC K rr w (rdI h i) (rr i) 1
theorem rdF_congr {f g : Nat → Int} {h : Nat → Bool} : ∀ {k : Nat}, (∀ i, i < k → h i = false → f i = g i) → rdF f h k = rdF g h k
  | 0, _ => rfl
  | k + 1, e => by
    have ih := rdF_congr (f := f) (g := g) (h := h) (k := k) (fun i hi => e i (by omega))
    have inn : ∀ i, rdF g h k = some i → i < k ∧ h i = false := fun i hi => by
      have gen : ∀ n i, rdF g h n = some i → i < n ∧ h i = false := fun n => by
        induction n with
        | zero => intro i q; cases q
        | succ n ihn =>
          intro i q
          unfold rdF at q
          by_cases z : h n = true
          · rw [if_pos z] at q
            have := ihn i q
            exact ⟨by omega, this.2⟩
          · rw [if_neg z] at q
            have z : h n = false := by simpa using z
            cases e2 : rdF g h n with
            | none => rw [e2] at q; cases q; exact ⟨Nat.lt_succ_self _, z⟩
            | some j =>
              rw [e2] at q
              have hj := ihn j e2
              by_cases y : g n < g j
              · simp only [if_pos y] at q; cases q; exact ⟨Nat.lt_succ_self _, z⟩
              · simp only [if_neg y] at q; cases q; exact ⟨by omega, hj.2⟩
      exact gen k i hi
    unfold rdF
    rw [ih]
    by_cases z : h k = true
    · rw [if_pos z, if_pos z]
    · rw [if_neg z, if_neg z]
      have z : h k = false := by simpa using z
      cases e2 : rdF g h k with
      | none => rfl
      | some j =>
        have hj := inn j e2
        show (if f k < f j then some k else some j) = if g k < g j then some k else some j
        rw [e k (Nat.lt_succ_self _) z, e j (by omega) hj.2]
theorem rdF_some {f : Nat → Int} {h : Nat → Bool} : ∀ {k i : Nat}, rdF f h k = some i → i < k ∧ h i = false ∧ (∀ j, j < k → h j = false → f i ≤ f j) ∧ ∀ j, j < i → h j = false → f i < f j
  | 0, _, q => by cases q
  | k + 1, i, q => by
    unfold rdF at q
    by_cases z : h k = true
    · rw [if_pos z] at q
      obtain ⟨a1, a2, a3, a4⟩ := rdF_some q
      refine ⟨by omega, a2, fun j hj hh => ?_, a4⟩
      by_cases y : j = k
      · rw [y, z] at hh; cases hh
      · exact a3 j (by omega) hh
    · rw [if_neg z] at q
      have z : h k = false := by simpa using z
      cases e : rdF f h k with
      | none =>
        rw [e] at q
        cases q
        have none_all : ∀ n, rdF f h n = none → ∀ j, j < n → h j = true := fun n => by
          induction n with
          | zero => intro _ j hj; exact absurd hj (Nat.not_lt_zero _)
          | succ n ihn =>
            intro q j hj
            unfold rdF at q
            by_cases y : h n = true
            · rw [if_pos y] at q
              by_cases u : j = n
              · rw [u]; exact y
              · exact ihn q j (by omega)
            · rw [if_neg y] at q
              cases e2 : rdF f h n with
              | none => rw [e2] at q; cases q
              | some x =>
                rw [e2] at q
                by_cases u : f n < f x
                · simp only [if_pos u] at q; cases q
                · simp only [if_neg u] at q; cases q
        have al := none_all _ e
        refine ⟨Nat.lt_succ_self _, z, fun j hj hh => ?_, fun j hj hh => ?_⟩
        · by_cases y : j = k
          · rw [y]; exact Int.le_refl _
          · rw [al j (by omega)] at hh; cases hh
        · rw [al j hj] at hh; cases hh
      | some x =>
        rw [e] at q
        obtain ⟨a1, a2, a3, a4⟩ := rdF_some e
        by_cases y : f k < f x
        · simp only [if_pos y] at q
          cases q
          refine ⟨Nat.lt_succ_self _, z, fun j hj hh => ?_, fun j hj hh => ?_⟩
          · by_cases u : j = k
            · rw [u]; exact Int.le_refl _
            · have := a3 j (by omega) hh
              omega
          · have := a3 j hj hh
            omega
        · simp only [if_neg y] at q
          cases q
          refine ⟨by omega, a2, fun j hj hh => ?_, a4⟩
          by_cases u : j = k
          · rw [u]; omega
          · exact a3 j (by omega) hh
theorem rdF_none {f : Nat → Int} {h : Nat → Bool} : ∀ {k : Nat}, rdF f h k = none → ∀ j, j < k → h j = true
  | 0, _, j, hj => absurd hj (Nat.not_lt_zero _)
  | k + 1, q, j, hj => by
    unfold rdF at q
    by_cases z : h k = true
    · rw [if_pos z] at q
      by_cases y : j = k
      · rw [y]; exact z
      · exact rdF_none q j (by omega)
    · rw [if_neg z] at q
      cases e : rdF f h k with
      | none => rw [e] at q; cases q
      | some x =>
        rw [e] at q
        by_cases y : f k < f x
        · simp only [if_pos y] at q; cases q
        · simp only [if_neg y] at q; cases q
theorem rdU_I {h : Nat → Bool} {K i : Nat} (hi : i < K) (hh : h i = false) : rdU h K = rdU (rdI h i) K + 1 := by
  unfold rdU
  rw [cnt_del (b := fun i => !h i) hi (by simp [hh])]
  congr 1
  refine cnt_congr (fun j _ => ?_)
  unfold rdI
  by_cases z : j = i
  · simp [z]
  · simp [z]
theorem rdU_0 {h : Nat → Bool} {K : Nat} (e : rdU h K = 0) : ∀ i, i < K → h i = true := fun i hi => by
  cases q : h i with
  | true => rfl
  | false =>
    have := rdU_I hi q
    omega
theorem rdF_all {f : Nat → Int} {h : Nat → Bool} : ∀ {k : Nat}, (∀ i, i < k → h i = true) → rdF f h k = none
  | 0, _ => rfl
  | k + 1, e => by
    unfold rdF
    rw [if_pos (e k (Nat.lt_succ_self _))]
    exact rdF_all (fun i hi => e i (by omega))
theorem rdC_eq (K : Nat) (rr w : Nat → Int) (h : Nat → Bool) (r m : Int) : rdC K rr w h r m = rdZ (rdP K rr w h r m) (rdF (rdP K rr w h r m) h K) := by
  unfold rdC
  cases e : rdU h K with
  | zero =>
    rw [rdF_all (rdU_0 e)]
    rfl
  | succ d =>
    have eq : ∀ i, i < K → h i = false → (dst r (rr i) + m) * rdW w h K + rdV K rr w d (rdI h i) (rr i) 1 = rdP K rr w h r m i := fun i hi hh => by
      unfold rdP rdC
      have := rdU_I hi hh
      rw [show rdU (rdI h i) K = d by omega]
    show rdZ (fun i => (dst r (rr i) + m) * rdW w h K + rdV K rr w d (rdI h i) (rr i) 1) (rdF (fun i => (dst r (rr i) + m) * rdW w h K + rdV K rr w d (rdI h i) (rr i) 1) h K) = _
    rw [rdF_congr eq]
    cases q : rdF (rdP K rr w h r m) h K with
    | none => rfl
    | some i =>
      obtain ⟨a1, a2, _⟩ := rdF_some q
      exact eq i a1 a2
theorem rdW_in {w : Nat → Int} {h : Nat → Bool} : ∀ {k : Nat}, (∀ i, i < k → 0 ≤ w i ∧ w i ≤ 3) → 0 ≤ rdW w h k ∧ rdW w h k ≤ 3 * (k : Int)
  | 0, _ => ⟨Int.le_refl _, Int.le_refl _⟩
  | k + 1, e => by
    have ih := rdW_in (w := w) (h := h) (k := k) (fun i hi => e i (by omega))
    have := e k (Nat.lt_succ_self _)
    unfold rdW
    split <;> omega
/-- the weight of all that wait, less the one that is heard -/
theorem rdW_I {w : Nat → Int} {h : Nat → Bool} {i : Nat} (hh : h i = false) : ∀ {k : Nat}, rdW w (rdI h i) k = if i < k then rdW w h k - w i else rdW w h k
  | 0 => by rw [if_neg (Nat.not_lt_zero _)]; rfl
  | k + 1 => by
    have ih := rdW_I (w := w) (h := h) (i := i) hh (k := k)
    unfold rdW
    rw [ih]
    by_cases z : k = i
    · subst z
      have e1 : rdI h k k = true := by unfold rdI; simp
      rw [if_pos e1, if_neg (Nat.lt_irrefl _), if_pos (Nat.lt_succ_self _), hh]
      simp only [Bool.false_eq_true, if_false]
      omega
    · have e1 : rdI h i k = h k := by unfold rdI; simp [z]
      rw [e1]
      by_cases y : i < k
      · have y2 : i < k + 1 := by omega
        rw [if_pos y, if_pos y2]
        split <;> omega
      · have y2 : ¬ i < k + 1 := by omega
        rw [if_neg y, if_neg y2]
theorem dst_in {a b : Int} (ha : 0 ≤ a ∧ a ≤ 11) (hb : 0 ≤ b ∧ b ≤ 11) : 0 ≤ dst a b ∧ dst a b ≤ 11 := by
  unfold dst
  split <;> omega
theorem rd_leg {a b : Int} (ha : 0 ≤ a ∧ a ≤ 12) (hb : 0 ≤ b ∧ b ≤ 21) : 0 ≤ a * b ∧ a * b ≤ 252 := by
  have h1 : 0 ≤ a * b := Int.mul_nonneg ha.1 hb.1
  have h2 : a * b ≤ 12 * 21 := Int.mul_le_mul ha.2 hb.2 hb.1 (by decide)
  omega
theorem rdV_in {K : Nat} {rr w : Nat → Int} (hK : K ≤ 7) (hr : ∀ i, i < K → 0 ≤ rr i ∧ rr i ≤ 11) (hw : ∀ i, i < K → 0 ≤ w i ∧ w i ≤ 3) : ∀ (d : Nat) (h : Nat → Bool) (r m : Int), 0 ≤ r ∧ r ≤ 11 → 0 ≤ m ∧ m ≤ 1 → 0 ≤ rdV K rr w d h r m ∧ rdV K rr w d h r m ≤ 252 * (d : Int)
  | 0, _, _, _, _, _ => ⟨Int.le_refl _, Int.le_refl _⟩
  | d + 1, h, r, m, h1, h2 => by
    unfold rdV
    cases q : rdF (fun i => (dst r (rr i) + m) * rdW w h K + rdV K rr w d (rdI h i) (rr i) 1) h K with
    | none => show 0 ≤ (0 : Int) ∧ (0 : Int) ≤ _; omega
    | some i =>
      obtain ⟨a1, _⟩ := rdF_some q
      have e1 := dst_in h1 (hr i a1)
      have e2 := rdW_in (h := h) hw
      have e3 := rd_leg (a := dst r (rr i) + m) (b := rdW w h K) (by omega) (by omega)
      have e4 := rdV_in hK hr hw d (rdI h i) (rr i) 1 (hr i a1) (by decide)
      show 0 ≤ (dst r (rr i) + m) * rdW w h K + rdV K rr w d (rdI h i) (rr i) 1 ∧ _ ≤ _
      constructor
      · omega
      · show (dst r (rr i) + m) * rdW w h K + rdV K rr w d (rdI h i) (rr i) 1 ≤ _
        omega
theorem rdC_in {K : Nat} {rr w : Nat → Int} (hK : K ≤ 7) (hr : ∀ i, i < K → 0 ≤ rr i ∧ rr i ≤ 11) (hw : ∀ i, i < K → 0 ≤ w i ∧ w i ≤ 3) (h : Nat → Bool) (r m : Int) (h1 : 0 ≤ r ∧ r ≤ 11) (h2 : 0 ≤ m ∧ m ≤ 1) : 0 ≤ rdC K rr w h r m ∧ rdC K rr w h r m ≤ 1764 := by
  have a := rdV_in hK hr hw (rdU h K) h r m h1 h2
  have b := cnt_le (fun i => !h i) K
  unfold rdC
  unfold rdU at a ⊢
  omega
