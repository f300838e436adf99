/-! ===== bits: ints that are sets ===== -/
theorem ofI_cast (a : Nat) : Int32.ofInt (a : Int) = nI a := rfl
theorem bi_and (a b : Nat) : nI a &&& nI b = nI (a &&& b) := by
  apply Int32.toBitVec_inj.1
  show BitVec.ofNat 32 a &&& BitVec.ofNat 32 b = BitVec.ofNat 32 (a &&& b)
  apply BitVec.eq_of_getLsbD_eq
  intro i hi
  simp [hi]
theorem bi_or (a b : Nat) : nI a ||| nI b = nI (a ||| b) := by
  apply Int32.toBitVec_inj.1
  show BitVec.ofNat 32 a ||| BitVec.ofNat 32 b = BitVec.ofNat 32 (a ||| b)
  apply BitVec.eq_of_getLsbD_eq
  intro i hi
  simp [hi]
theorem jand_nat {a b : Nat} (ha : a < 2147483648) : jand (a : Int) (b : Int) = ((a &&& b : Nat) : Int) := by
  rw [jand_def]
  rw [ofI_cast, ofI_cast, bi_and, nI_toInt]
  exact Nat.lt_of_le_of_lt Nat.and_le_left ha
theorem jor_nat {a b : Nat} (ha : a < 2147483648) (hb : b < 2147483648) : jor (a : Int) (b : Int) = ((a ||| b : Nat) : Int) := by
  rw [jor_def]
  rw [ofI_cast, ofI_cast, bi_or, nI_toInt]
  exact Nat.or_lt_two_pow (n := 31) ha hb
theorem bi_sl0 : ∀ k : Fin 31, (Int32.ofInt 1 <<< (Int32.ofInt (k.val : Int) &&& 31)).toInt = ((2 ^ k.val : Nat) : Int) := by decide +kernel
theorem bi_sl (k : Fin 31) : jshl 1 (k.val : Int) = ((2 ^ k.val : Nat) : Int) := (jshl_def _ _).trans (bi_sl0 k)
theorem jshl_nat {k : Nat} (hk : k < 31) : jshl 1 (k : Int) = ((2 ^ k : Nat) : Int) := bi_sl ⟨k, hk⟩
theorem bi_sm : ∀ k : Fin 32, ((nI k.val &&& 31).toBitVec.smod 32).toNat = k.val := by decide +kernel
theorem jshr_nat {a k : Nat} (ha : a < 2147483648) (hk : k < 31) : jshr (a : Int) (k : Int) = ((a / 2 ^ k : Nat) : Int) := by
  rw [jshr_def]
  rw [ofI_cast, ofI_cast, pk_shrN ha _ k (bi_sm ⟨k, by omega⟩), nI_toInt]
  exact Nat.lt_of_le_of_lt (Nat.div_le_self _ _) ha
theorem jand_1 {a : Nat} (ha : a < 2147483648) : jand (a : Int) 1 = ((a % 2 : Nat) : Int) := by
  rw [show (1 : Int) = ((1 : Nat) : Int) from rfl, jand_nat ha, Nat.and_one_is_mod]
/-- a bit of a set -/
theorem jbit {a k : Nat} (ha : a < 2147483648) (hk : k < 31) : jand (jshr (a : Int) (k : Int)) 1 = if a.testBit k = true then 1 else 0 := by
  rw [jshr_nat ha hk, jand_1 (Nat.lt_of_le_of_lt (Nat.div_le_self _ _) ha), Nat.testBit_eq_decide_div_mod_eq]
  have := Nat.mod_two_eq_zero_or_one (a / 2 ^ k)
  rcases this with h | h <;> simp [h]
/-- the set of the k below n with p -/
def bst (p : Nat → Bool) : Nat → Nat
  | 0 => 0
  | n + 1 => if p n = true then bst p n ||| 2 ^ n else bst p n
theorem bst_bit (p : Nat → Bool) : ∀ n k, (bst p n).testBit k = (decide (k < n) && p k)
  | 0, k => by simp [bst]
  | n + 1, k => by
    unfold bst
    have ih := bst_bit p n k
    by_cases hp : p n = true
    · rw [if_pos hp, Nat.testBit_or, ih, Nat.testBit_two_pow]
      by_cases hk : k = n
      · subst hk; simp [hp]
      · have : (k < n + 1) ↔ (k < n) := by omega
        simp [this, Ne.symm hk]
    · rw [if_neg hp, ih]
      by_cases hk : k = n
      · subst hk; simp [hp]
      · have : (k < n + 1) ↔ (k < n) := by omega
        simp [this]
theorem bst_lt (p : Nat → Bool) (n : Nat) : bst p n < 2 ^ n := by
  apply Nat.lt_pow_two_of_testBit
  intro i hi
  rw [bst_bit]
  simp [Nat.not_lt.mpr hi]
theorem bst_lt31 (p : Nat → Bool) {n : Nat} (h : n ≤ 31) : bst p n < 2147483648 := Nat.lt_of_lt_of_le (bst_lt p n) (show 2 ^ n ≤ 2 ^ 31 from Nat.pow_le_pow_right (by decide) h)
theorem bst_congr {p q : Nat → Bool} {n : Nat} (h : ∀ k, k < n → p k = q k) : bst p n = bst q n := by
  apply Nat.eq_of_testBit_eq
  intro k
  rw [bst_bit, bst_bit]
  by_cases hk : k < n
  · rw [h k hk]
  · simp [hk]
theorem jor_add (p : Nat → Bool) {k : Nat} (hk : k < 31) : jor (bst p k : Int) (jshl 1 (k : Int)) = ((bst p k ||| 2 ^ k : Nat) : Int) := by
  rw [jshl_nat hk, jor_nat (bst_lt31 p (by omega))]
  exact Nat.lt_of_lt_of_le (Nat.pow_lt_pow_right (by decide) hk) (Nat.le_refl _)
theorem bst_t {p : Nat → Bool} {k : Nat} (h : p k = true) : bst p k ||| 2 ^ k = bst p (k + 1) := by
  show _ = if p k = true then _ else _
  rw [if_pos h]
theorem bst_f {p : Nat → Bool} {k : Nat} (h : ¬ p k = true) : bst p (k + 1) = bst p k := by
  show (if p k = true then _ else _) = _
  rw [if_neg h]
/-- a set grows by what holds of k -/
theorem jor_step (p : Nat → Bool) {k : Nat} (hk : k < 31) : (if p k = true then jor (bst p k : Int) (jshl 1 (k : Int)) else (bst p k : Int)) = (bst p (k + 1) : Int) := by
  split
  · rename_i h; rw [jor_add p hk, bst_t h]
  · rename_i h; rw [bst_f h]
theorem bst_and (p q : Nat → Bool) (n : Nat) : bst p n &&& bst q n = bst (fun k => p k && q k) n := by
  apply Nat.eq_of_testBit_eq
  intro k
  rw [Nat.testBit_and, bst_bit, bst_bit, bst_bit]
  by_cases hk : k < n <;> simp [hk]
theorem bst_or (p q : Nat → Bool) (n : Nat) : bst p n ||| bst q n = bst (fun k => p k || q k) n := by
  apply Nat.eq_of_testBit_eq
  intro k
  rw [Nat.testBit_or, bst_bit, bst_bit, bst_bit]
  by_cases hk : k < n <;> simp [hk]
theorem bst_0 {p : Nat → Bool} {n : Nat} (h : ∀ k, k < n → p k = false) : bst p n = 0 := by
  apply Nat.eq_of_testBit_eq
  intro k
  rw [bst_bit, Nat.zero_testBit]
  by_cases hk : k < n
  · rw [h k hk]; simp
  · simp [hk]
theorem bst_ne0 {p : Nat → Bool} {n : Nat} : bst p n = 0 ↔ ∀ k, k < n → p k = false := by
  constructor
  · intro h k hk
    have := bst_bit p n k
    rw [h, Nat.zero_testBit] at this
    simpa [hk] using this.symm
  · exact bst_0
theorem jbst (p : Nat → Bool) {n k : Nat} (hn : n ≤ 31) (hk : k < n) : jand (jshr (bst p n : Int) (k : Int)) 1 = if p k = true then 1 else 0 := by
  rw [jbit (bst_lt31 p hn) (by omega), bst_bit]
  simp [hk]
theorem jm1 (a : Int) (ha : in32 a) : jand (-1) a = a := by
  rw [jand_def]
  have : Int32.ofInt (-1) &&& Int32.ofInt a = Int32.ofInt a := by
    apply Int32.toBitVec_inj.1
    show BitVec.ofInt 32 (-1) &&& (Int32.ofInt a).toBitVec = (Int32.ofInt a).toBitVec
    rw [show BitVec.ofInt 32 (-1) = BitVec.allOnes 32 by decide, BitVec.allOnes_and]
  rw [this, toI ha]
/-- counts -/
def cnt (p : Nat → Bool) : Nat → Nat
  | 0 => 0
  | n + 1 => cnt p n + if p n = true then 1 else 0
theorem cnt_le (p : Nat → Bool) : ∀ n, cnt p n ≤ n
  | 0 => Nat.le_refl _
  | n + 1 => by
    have := cnt_le p n
    unfold cnt
    split <;> omega
theorem cnt_congr {p q : Nat → Bool} : ∀ {n : Nat}, (∀ k, k < n → p k = q k) → cnt p n = cnt q n
  | 0, _ => rfl
  | n + 1, h => by
    unfold cnt
    rw [cnt_congr (fun k hk => h k (by omega)), h n (by omega)]
theorem cnt_0 {p : Nat → Bool} : ∀ {n : Nat}, (∀ k, k < n → p k = false) → cnt p n = 0
  | 0, _ => rfl
  | n + 1, h => by
    unfold cnt
    rw [cnt_0 (fun k hk => h k (by omega)), h n (by omega)]; rfl
theorem cnt_pos {p : Nat → Bool} : ∀ {n : Nat}, 0 < cnt p n ↔ ∃ k, k < n ∧ p k = true
  | 0 => by simp [cnt]
  | n + 1 => by
    unfold cnt
    have ih := cnt_pos (p := p) (n := n)
    by_cases h : p n = true
    · rw [if_pos h]
      exact ⟨fun _ => ⟨n, by omega, h⟩, fun _ => by omega⟩
    · rw [if_neg h, Nat.add_zero, ih]
      constructor
      · rintro ⟨k, h1, h2⟩; exact ⟨k, by omega, h2⟩
      · rintro ⟨k, h1, h2⟩
        refine ⟨k, ?_, h2⟩
        rcases Nat.lt_succ_iff_lt_or_eq.mp h1 with h3 | h3
        · exact h3
        · subst h3; exact absurd h2 h
/-- the first k below n with p -/
def ff (p : Nat → Bool) : Nat → Option Nat
  | 0 => none
  | n + 1 => match ff p n with
    | some k => some k
    | none => if p n = true then some n else none
theorem ff_some {p : Nat → Bool} : ∀ {n k : Nat}, ff p n = some k → k < n ∧ p k = true ∧ ∀ j, j < k → p j = false
  | 0, k, h => by cases h
  | n + 1, k, h => by
    unfold ff at h
    split at h
    · rename_i k' h1
      cases h
      obtain ⟨h2, h3, h4⟩ := ff_some h1
      exact ⟨by omega, h3, h4⟩
    · rename_i h1
      split at h
      · rename_i hp
        cases h
        refine ⟨by omega, hp, fun j hj => ?_⟩
        cases hq : p j with
        | false => rfl
        | true =>
          exfalso
          have := ff_none.mp h1 j hj
          rw [hq] at this; cases this
      · cases h
where
  ff_none {p : Nat → Bool} : ∀ {n : Nat}, ff p n = none ↔ ∀ j, j < n → p j = false
  | 0 => by simp [ff]
  | n + 1 => by
    unfold ff
    have ih := ff_none (p := p) (n := n)
    cases h1 : ff p n with
    | some k =>
      simp only [reduceCtorEq, false_iff, Classical.not_forall]
      rw [h1] at ih
      simp only [reduceCtorEq, false_iff, Classical.not_forall] at ih
      obtain ⟨j, hj, hp⟩ := ih
      exact ⟨j, by omega, hp⟩
    | none =>
      have h2 := ih.mp h1
      by_cases hp : p n = true
      · simp only [hp, if_true, reduceCtorEq, false_iff, Classical.not_forall]
        exact ⟨n, by omega, by rw [hp]; decide⟩
      · have hpf : p n = false := by simpa using hp
        rw [hpf]
        simp only [Bool.false_eq_true, if_false, true_iff]
        intro j hj
        rcases Nat.lt_succ_iff_lt_or_eq.mp hj with h3 | h3
        · exact h2 j h3
        · subst h3; simpa using hp
theorem ff_none {p : Nat → Bool} {n : Nat} : ff p n = none ↔ ∀ j, j < n → p j = false := ff_some.ff_none
theorem ff_of {p : Nat → Bool} {n k : Nat} (hk : k < n) (hp : p k = true) (h : ∀ j, j < k → p j = false) : ff p n = some k := by
  cases h1 : ff p n with
  | none => have := ff_none.mp h1 k hk; rw [hp] at this; cases this
  | some j =>
    obtain ⟨h2, h3, h4⟩ := ff_some h1
    rcases Nat.lt_trichotomy j k with h5 | h5 | h5
    · have := h j h5; rw [h3] at this; cases this
    · rw [h5]
    · have := h4 k h5; rw [hp] at this; cases this
theorem ff_congr {p q : Nat → Bool} : ∀ {n : Nat}, (∀ k, k < n → p k = q k) → ff p n = ff q n
  | 0, _ => rfl
  | n + 1, h => by
    unfold ff
    rw [ff_congr (fun k hk => h k (by omega)), h n (by omega)]
/-- the greatest of the first n, and 0 -/
def mxx (f : Nat → Int) : Nat → Int
  | 0 => 0
  | n + 1 => if mxx f n < f n then f n else mxx f n
theorem mxx_ge (f : Nat → Int) : ∀ n k, k < n → f k ≤ mxx f n
  | 0, k, h => by omega
  | n + 1, k, h => by
    unfold mxx
    rcases Nat.lt_succ_iff_lt_or_eq.mp h with h1 | h1
    · have := mxx_ge f n k h1
      split <;> omega
    · subst h1
      split <;> omega
theorem mxx_nn (f : Nat → Int) : ∀ n, 0 ≤ mxx f n
  | 0 => Int.le_refl _
  | n + 1 => by
    have := mxx_nn f n
    unfold mxx
    split <;> omega
theorem mxx_at (f : Nat → Int) : ∀ n, mxx f n = 0 ∨ ∃ k, k < n ∧ mxx f n = f k
  | 0 => Or.inl rfl
  | n + 1 => by
    unfold mxx
    split
    · exact Or.inr ⟨n, by omega, rfl⟩
    · rcases mxx_at f n with h | ⟨k, h1, h2⟩
      · exact Or.inl h
      · exact Or.inr ⟨k, by omega, h2⟩
theorem mxx_congr {f g : Nat → Int} : ∀ {n : Nat}, (∀ k, k < n → f k = g k) → mxx f n = mxx g n
  | 0, _ => rfl
  | n + 1, h => by
    unfold mxx
    rw [mxx_congr (fun k hk => h k (by omega)), h n (by omega)]
