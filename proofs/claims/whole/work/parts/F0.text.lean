/-! ===== read: a text of L bytes T, its tokens ===== -/
def rnx (P : Nat → Bool) : Nat → Nat → Nat
  | 0, p => p
  | k + 1, p => if P p = true then rnx P k (p + 1) else p
theorem rnx_in {P : Nat → Bool} {N : Nat} (hP : ∀ i, P i = true → i < N) : ∀ (k p : Nat), N ≤ p + k → p ≤ rnx P k p ∧ (rnx P k p ≤ N ∨ rnx P k p = p) ∧ P (rnx P k p) = false ∧ ∀ i, p ≤ i → i < rnx P k p → P i = true
  | 0, p, h => by
    have e : rnx P 0 p = p := rfl
    rw [e]
    refine ⟨Nat.le_refl _, Or.inr rfl, ?_, fun i a b => absurd b (by omega)⟩
    cases q : P p with
    | false => rfl
    | true => have := hP p q; omega
  | k + 1, p, h => by
    unfold rnx
    cases q : P p with
    | false => exact ⟨Nat.le_refl _, Or.inr rfl, q, fun i a b => absurd b (by simp; omega)⟩
    | true =>
      rw [if_pos rfl]
      have hp := hP p q
      obtain ⟨a1, a2, a3, a4⟩ := rnx_in hP k (p + 1) (by omega)
      refine ⟨by omega, by omega, a3, fun i a b => ?_⟩
      by_cases z : i = p
      · rw [z]; exact q
      · exact a4 i (by omega) b
def rLt (b : Int) : Bool := decide (97 ≤ b ∧ b ≤ 122)
def rDg (b : Int) : Bool := decide (48 ≤ b ∧ b ≤ 57)
def hsh (d : Nat → Int) : Nat → Int
  | 0 => 0
  | k + 1 => if k < 8 then 27 * hsh d k + d k - 96 else -1
def nsh (d : Nat → Int) : Nat → Int
  | 0 => 0
  | k + 1 => if k < 3 then 10 * nsh d k + d k - 48 else 1000000000
def kP (T : Nat → Int) (L : Nat) (q : Int → Bool) (i : Nat) : Bool := decide (i < L) && q (T i)
def kF (T : Nat → Int) (L p : Nat) : Nat := rnx (kP T L (fun b => decide (b = 32))) 240 p
def kLe (T : Nat → Int) (L f : Nat) : Nat := rnx (kP T L rLt) 240 f
def kDe (T : Nat → Int) (L f : Nat) : Nat := rnx (kP T L rDg) 240 f
def kG (T : Nat → Int) (L f : Nat) : Nat := if L ≤ f then f else if rLt (T f) = true then kLe T L f else if rDg (T f) = true then kDe T L f else f + 1
def kE (T : Nat → Int) (L p : Nat) : Nat := kG T L (kF T L p)
def kKf (T : Nat → Int) (L f : Nat) : Int := if L ≤ f then 0 else if rLt (T f) = true then 1 else if rDg (T f) = true then 2 else 3
def kWf (T : Nat → Int) (L f : Nat) : Int := if L ≤ f then 0 else if rLt (T f) = true then hsh (fun j => T (f + j)) (kLe T L f - f) else if rDg (T f) = true then nsh (fun j => T (f + j)) (kDe T L f - f) else T f
def kK (T : Nat → Int) (L p : Nat) : Int := kKf T L (kF T L p)
def kW (T : Nat → Int) (L p : Nat) : Int := kWf T L (kF T L p)
/-- the words by their worths -/
def wCd (W : Int) : Int := if W = 11716 then 1 else if W = 355412 then 2 else if W = 1503 then 3 else if W = 237470 then 4 else if W = 8868696 then 5 else if W = 249 then 6 else if W = 423 then 7 else if W = 1111 then 8 else if W = 10631 then 9 else if W = 122079 then 10 else if W = 3499582 then 11 else if W = 12532058 then 12 else if W = 385418 then 13 else if W = 10983956 then 14 else if W = 8276 then 15 else if W = 239454811 then 16 else if W = 9665171 then 17 else 18
def kTk (T : Nat → Int) (L p : Nat) : Int := if kK T L p = 0 then 0 else if kK T L p = 1 then wCd (kW T L p) else if kK T L p = 2 then 19 else 100 + kW T L p
def kV (T : Nat → Int) (L p : Nat) : Int := if kE T L p - kF T L p ≤ 3 then kW T L p else -1
section
variable {T : Nat → Int} {L : Nat}
theorem kP_lt {q : Int → Bool} : ∀ i, kP T L q i = true → i < L := fun i h => by
  unfold kP at h
  simp only [Bool.and_eq_true, decide_eq_true_eq] at h
  exact h.1
theorem kF_in (hL : L ≤ 240) {p : Nat} (hp : p ≤ L) : p ≤ kF T L p ∧ kF T L p ≤ L := by
  have := rnx_in (P := kP T L (fun b => decide (b = 32))) kP_lt 240 p (by omega)
  unfold kF
  omega
theorem kLe_in (hL : L ≤ 240) {f : Nat} (hf : f < L) (h : rLt (T f) = true) : f < kLe T L f ∧ kLe T L f ≤ L ∧ (∀ j, j < kLe T L f - f → rLt (T (f + j)) = true) := by
  have := rnx_in (P := kP T L rLt) kP_lt 240 f (by omega)
  unfold kLe
  obtain ⟨a1, a2, a3, a4⟩ := this
  refine ⟨?_, by omega, fun j hj => ?_⟩
  · rcases Nat.lt_or_ge f (rnx (kP T L rLt) 240 f) with z | z
    · exact z
    · have z : rnx (kP T L rLt) 240 f = f := by omega
      rw [z] at a3
      unfold kP at a3
      rw [h, decide_eq_true hf] at a3
      cases a3
  · have := a4 (f + j) (by omega) (by omega)
    unfold kP at this
    simp only [Bool.and_eq_true] at this
    exact this.2
theorem kDe_in (hL : L ≤ 240) {f : Nat} (hf : f < L) (h : rDg (T f) = true) : f < kDe T L f ∧ kDe T L f ≤ L ∧ (∀ j, j < kDe T L f - f → rDg (T (f + j)) = true) := by
  have := rnx_in (P := kP T L rDg) kP_lt 240 f (by omega)
  unfold kDe
  obtain ⟨a1, a2, a3, a4⟩ := this
  refine ⟨?_, by omega, fun j hj => ?_⟩
  · rcases Nat.lt_or_ge f (rnx (kP T L rDg) 240 f) with z | z
    · exact z
    · have z : rnx (kP T L rDg) 240 f = f := by omega
      rw [z] at a3
      unfold kP at a3
      rw [h, decide_eq_true hf] at a3
      cases a3
  · have := a4 (f + j) (by omega) (by omega)
    unfold kP at this
    simp only [Bool.and_eq_true] at this
    exact this.2
theorem kG_in (hL : L ≤ 240) {f : Nat} (hf : f ≤ L) : f ≤ kG T L f ∧ kG T L f ≤ L ∧ (kKf T L f ≠ 0 → f < kG T L f) := by
  unfold kG kKf
  by_cases h0 : L ≤ f
  · rw [if_pos h0, if_pos h0]; exact ⟨Nat.le_refl _, hf, fun q => absurd rfl q⟩
  · rw [if_neg h0, if_neg h0]
    by_cases h1 : rLt (T f) = true
    · rw [if_pos h1]
      have := kLe_in hL (by omega) h1
      exact ⟨by omega, by omega, fun _ => by omega⟩
    · rw [if_neg h1]
      by_cases h2 : rDg (T f) = true
      · rw [if_pos h2]
        have := kDe_in hL (by omega) h2
        exact ⟨by omega, by omega, fun _ => by omega⟩
      · rw [if_neg h2]; exact ⟨by omega, by omega, fun _ => by omega⟩
theorem kE_in (hL : L ≤ 240) {p : Nat} (hp : p ≤ L) : p ≤ kE T L p ∧ kE T L p ≤ L ∧ kF T L p ≤ kE T L p ∧ (kK T L p ≠ 0 → p < kE T L p) := by
  have a := kF_in (T := T) hL hp
  have b := kG_in (T := T) hL a.2
  unfold kE kK
  refine ⟨by omega, b.2.1, b.1, fun h => ?_⟩
  have := b.2.2 h
  omega
/-! words and their worths -/
theorem rLt_in {b : Int} (h : rLt b = true) : 97 ≤ b ∧ b ≤ 122 := by
  unfold rLt at h
  exact of_decide_eq_true h
theorem rDg_in {b : Int} (h : rDg b = true) : 48 ≤ b ∧ b ≤ 57 := by
  unfold rDg at h
  exact of_decide_eq_true h
theorem hsh_s {d : Nat → Int} {k : Nat} (h : k < 8) : hsh d (k + 1) = 27 * hsh d k + d k - 96 := by
  show (if k < 8 then _ else _) = _
  rw [if_pos h]
theorem hsh_9 {d : Nat → Int} {k : Nat} (h : ¬ k < 8) : hsh d (k + 1) = -1 := by
  show (if k < 8 then _ else _) = _
  rw [if_neg h]
theorem hsh_nn {d : Nat → Int} : ∀ {n : Nat}, n ≤ 8 → (∀ j, j < n → 97 ≤ d j ∧ d j ≤ 122) → 0 ≤ hsh d n
  | 0, _, _ => Int.le_refl _
  | n + 1, h, e => by
    have ih := hsh_nn (d := d) (n := n) (by omega) (fun j hj => e j (by omega))
    have := e n (Nat.lt_succ_self _)
    rw [hsh_s (by omega)]
    omega
theorem hsh_inj {d d' : Nat → Int} : ∀ {m n : Nat}, m ≤ 8 → (∀ j, j < n → 97 ≤ d j ∧ d j ≤ 122) → (∀ j, j < m → 97 ≤ d' j ∧ d' j ≤ 122) → hsh d n = hsh d' m → n = m ∧ ∀ j, j < m → d j = d' j
  | 0, 0, _, _, _, _ => ⟨rfl, fun j hj => absurd hj (Nat.not_lt_zero _)⟩
  | 0, n + 1, _, e, _, h => by
    exfalso
    have h : hsh d (n + 1) = 0 := h
    by_cases z : n < 8
    · rw [hsh_s z] at h
      have := hsh_nn (d := d) (n := n) (by omega) (fun j hj => e j (by omega))
      have := e n (Nat.lt_succ_self _)
      omega
    · rw [hsh_9 z] at h; omega
  | m + 1, 0, hm, _, e', h => by
    exfalso
    have h : 0 = hsh d' (m + 1) := h
    rw [hsh_s (by omega)] at h
    have := hsh_nn (d := d') (n := m) (by omega) (fun j hj => e' j (by omega))
    have := e' m (Nat.lt_succ_self _)
    omega
  | m + 1, n + 1, hm, e, e', h => by
    rw [hsh_s (d := d') (by omega)] at h
    have n' := hsh_nn (d := d') (n := m) (by omega) (fun j hj => e' j (by omega))
    have b' := e' m (Nat.lt_succ_self _)
    have b := e n (Nat.lt_succ_self _)
    by_cases z : n < 8
    · rw [hsh_s z] at h
      have nn := hsh_nn (d := d) (n := n) (by omega) (fun j hj => e j (by omega))
      obtain ⟨a1, a2⟩ := hsh_inj (d := d) (d' := d') (m := m) (n := n) (by omega) (fun j hj => e j (by omega)) (fun j hj => e' j (by omega)) (by omega)
      refine ⟨by omega, fun j hj => ?_⟩
      by_cases y : j = m
      · subst y; rw [a1] at h b; rw [a1] at *; omega
      · exact a2 j (by omega)
    · rw [hsh_9 z] at h; omega
theorem hsh_hi {d : Nat → Int} {n : Nat} (e : ∀ j, j < n → 97 ≤ d j ∧ d j ≤ 122) : (n ≤ 1 → hsh d n ≤ 26) ∧ (n ≤ 2 → hsh d n ≤ 728) ∧ (n ≤ 3 → hsh d n ≤ 19682) ∧ (n ≤ 4 → hsh d n ≤ 531440) := by
  match n, e with
  | 0, _ =>
    have z : hsh d 0 = 0 := rfl
    omega
  | 1, e =>
    have e0 := e 0 (by decide)
    rw [hsh_s (by decide)]
    have z : hsh d 0 = 0 := rfl
    omega
  | 2, e =>
    have e0 := e 0 (by decide); have e1 := e 1 (by decide)
    rw [hsh_s (by decide), hsh_s (by decide)]
    have z : hsh d 0 = 0 := rfl
    omega
  | 3, e =>
    have e0 := e 0 (by decide); have e1 := e 1 (by decide); have e2 := e 2 (by decide)
    rw [hsh_s (by decide), hsh_s (by decide), hsh_s (by decide)]
    have z : hsh d 0 = 0 := rfl
    omega
  | 4, e =>
    have e0 := e 0 (by decide); have e1 := e 1 (by decide); have e2 := e 2 (by decide); have e3 := e 3 (by decide)
    rw [hsh_s (by decide), hsh_s (by decide), hsh_s (by decide), hsh_s (by decide)]
    have z : hsh d 0 = 0 := rfl
    omega
  | n + 5, _ => exact ⟨fun h => by omega, fun h => by omega, fun h => by omega, fun h => by omega⟩
theorem nsh_in {d : Nat → Int} : ∀ {n : Nat}, (∀ j, j < n → 48 ≤ d j ∧ d j ≤ 57) → (n ≤ 1 → 0 ≤ nsh d n ∧ nsh d n ≤ 9) ∧ (n ≤ 2 → 0 ≤ nsh d n ∧ nsh d n ≤ 99) ∧ (n ≤ 3 → 0 ≤ nsh d n ∧ nsh d n ≤ 999) ∧ (3 < n → nsh d n = 1000000000)
  | 0, _ => by
    have z : nsh d 0 = 0 := rfl
    omega
  | n + 1, e => by
    have ih := nsh_in (d := d) (n := n) (fun j hj => e j (by omega))
    have b := e n (Nat.lt_succ_self _)
    have e1 : nsh d (n + 1) = if n < 3 then 10 * nsh d n + d n - 48 else 1000000000 := rfl
    by_cases z : n < 3
    · rw [if_pos z] at e1
      have z0 : n = 0 → nsh d n = 0 := fun h => by rw [h]; rfl
      refine ⟨fun h => ?_, fun h => ?_, fun h => ?_, fun h => by omega⟩
      · have := z0 (by omega); omega
      · have := ih.1 (by omega); omega
      · have := ih.2.1 (by omega); omega
    · rw [if_neg z] at e1
      exact ⟨fun h => by omega, fun h => by omega, fun h => by omega, fun _ => e1⟩
end
theorem wCd_in (W : Int) : (wCd W = 18 ∧ ¬ W = 11716 ∧ ¬ W = 355412 ∧ ¬ W = 1503 ∧ ¬ W = 237470 ∧ ¬ W = 8868696 ∧ ¬ W = 249 ∧ ¬ W = 423 ∧ ¬ W = 1111 ∧ ¬ W = 10631 ∧ ¬ W = 122079 ∧ ¬ W = 3499582 ∧ ¬ W = 12532058 ∧ ¬ W = 385418 ∧ ¬ W = 10983956 ∧ ¬ W = 8276 ∧ ¬ W = 239454811 ∧ ¬ W = 9665171) ∨ (wCd W = 1 ∧ W = 11716) ∨ (wCd W = 2 ∧ W = 355412) ∨ (wCd W = 3 ∧ W = 1503) ∨ (wCd W = 4 ∧ W = 237470) ∨ (wCd W = 5 ∧ W = 8868696) ∨ (wCd W = 6 ∧ W = 249) ∨ (wCd W = 7 ∧ W = 423) ∨ (wCd W = 8 ∧ W = 1111) ∨ (wCd W = 9 ∧ W = 10631) ∨ (wCd W = 10 ∧ W = 122079) ∨ (wCd W = 11 ∧ W = 3499582) ∨ (wCd W = 12 ∧ W = 12532058) ∨ (wCd W = 13 ∧ W = 385418) ∨ (wCd W = 14 ∧ W = 10983956) ∨ (wCd W = 15 ∧ W = 8276) ∨ (wCd W = 16 ∧ W = 239454811) ∨ (wCd W = 17 ∧ W = 9665171) := by
  unfold wCd
  by_cases h0 : W = 11716
  · exact Or.inr (Or.inl ⟨by rw [if_pos h0], h0⟩)
  by_cases h1 : W = 355412
  · exact Or.inr (Or.inr (Or.inl ⟨by rw [if_neg h0, if_pos h1], h1⟩))
  by_cases h2 : W = 1503
  · exact Or.inr (Or.inr (Or.inr (Or.inl ⟨by rw [if_neg h0, if_neg h1, if_pos h2], h2⟩)))
  by_cases h3 : W = 237470
  · exact Or.inr (Or.inr (Or.inr (Or.inr (Or.inl ⟨by rw [if_neg h0, if_neg h1, if_neg h2, if_pos h3], h3⟩))))
  by_cases h4 : W = 8868696
  · exact Or.inr (Or.inr (Or.inr (Or.inr (Or.inr (Or.inl ⟨by rw [if_neg h0, if_neg h1, if_neg h2, if_neg h3, if_pos h4], h4⟩)))))
  by_cases h5 : W = 249
  · exact Or.inr (Or.inr (Or.inr (Or.inr (Or.inr (Or.inr (Or.inl ⟨by rw [if_neg h0, if_neg h1, if_neg h2, if_neg h3, if_neg h4, if_pos h5], h5⟩))))))
  by_cases h6 : W = 423
  · exact Or.inr (Or.inr (Or.inr (Or.inr (Or.inr (Or.inr (Or.inr (Or.inl ⟨by rw [if_neg h0, if_neg h1, if_neg h2, if_neg h3, if_neg h4, if_neg h5, if_pos h6], h6⟩)))))))
  by_cases h7 : W = 1111
  · exact Or.inr (Or.inr (Or.inr (Or.inr (Or.inr (Or.inr (Or.inr (Or.inr (Or.inl ⟨by rw [if_neg h0, if_neg h1, if_neg h2, if_neg h3, if_neg h4, if_neg h5, if_neg h6, if_pos h7], h7⟩))))))))
  by_cases h8 : W = 10631
  · exact Or.inr (Or.inr (Or.inr (Or.inr (Or.inr (Or.inr (Or.inr (Or.inr (Or.inr (Or.inl ⟨by rw [if_neg h0, if_neg h1, if_neg h2, if_neg h3, if_neg h4, if_neg h5, if_neg h6, if_neg h7, if_pos h8], h8⟩)))))))))
  by_cases h9 : W = 122079
  · exact Or.inr (Or.inr (Or.inr (Or.inr (Or.inr (Or.inr (Or.inr (Or.inr (Or.inr (Or.inr (Or.inl ⟨by rw [if_neg h0, if_neg h1, if_neg h2, if_neg h3, if_neg h4, if_neg h5, if_neg h6, if_neg h7, if_neg h8, if_pos h9], h9⟩))))))))))
  by_cases h10 : W = 3499582
  · exact Or.inr (Or.inr (Or.inr (Or.inr (Or.inr (Or.inr (Or.inr (Or.inr (Or.inr (Or.inr (Or.inr (Or.inl ⟨by rw [if_neg h0, if_neg h1, if_neg h2, if_neg h3, if_neg h4, if_neg h5, if_neg h6, if_neg h7, if_neg h8, if_neg h9, if_pos h10], h10⟩)))))))))))
  by_cases h11 : W = 12532058
  · exact Or.inr (Or.inr (Or.inr (Or.inr (Or.inr (Or.inr (Or.inr (Or.inr (Or.inr (Or.inr (Or.inr (Or.inr (Or.inl ⟨by rw [if_neg h0, if_neg h1, if_neg h2, if_neg h3, if_neg h4, if_neg h5, if_neg h6, if_neg h7, if_neg h8, if_neg h9, if_neg h10, if_pos h11], h11⟩))))))))))))
  by_cases h12 : W = 385418
  · exact Or.inr (Or.inr (Or.inr (Or.inr (Or.inr (Or.inr (Or.inr (Or.inr (Or.inr (Or.inr (Or.inr (Or.inr (Or.inr (Or.inl ⟨by rw [if_neg h0, if_neg h1, if_neg h2, if_neg h3, if_neg h4, if_neg h5, if_neg h6, if_neg h7, if_neg h8, if_neg h9, if_neg h10, if_neg h11, if_pos h12], h12⟩)))))))))))))
  by_cases h13 : W = 10983956
  · exact Or.inr (Or.inr (Or.inr (Or.inr (Or.inr (Or.inr (Or.inr (Or.inr (Or.inr (Or.inr (Or.inr (Or.inr (Or.inr (Or.inr (Or.inl ⟨by rw [if_neg h0, if_neg h1, if_neg h2, if_neg h3, if_neg h4, if_neg h5, if_neg h6, if_neg h7, if_neg h8, if_neg h9, if_neg h10, if_neg h11, if_neg h12, if_pos h13], h13⟩))))))))))))))
  by_cases h14 : W = 8276
  · exact Or.inr (Or.inr (Or.inr (Or.inr (Or.inr (Or.inr (Or.inr (Or.inr (Or.inr (Or.inr (Or.inr (Or.inr (Or.inr (Or.inr (Or.inr (Or.inl ⟨by rw [if_neg h0, if_neg h1, if_neg h2, if_neg h3, if_neg h4, if_neg h5, if_neg h6, if_neg h7, if_neg h8, if_neg h9, if_neg h10, if_neg h11, if_neg h12, if_neg h13, if_pos h14], h14⟩)))))))))))))))
  by_cases h15 : W = 239454811
  · exact Or.inr (Or.inr (Or.inr (Or.inr (Or.inr (Or.inr (Or.inr (Or.inr (Or.inr (Or.inr (Or.inr (Or.inr (Or.inr (Or.inr (Or.inr (Or.inr (Or.inl ⟨by rw [if_neg h0, if_neg h1, if_neg h2, if_neg h3, if_neg h4, if_neg h5, if_neg h6, if_neg h7, if_neg h8, if_neg h9, if_neg h10, if_neg h11, if_neg h12, if_neg h13, if_neg h14, if_pos h15], h15⟩))))))))))))))))
  by_cases h16 : W = 9665171
  · exact Or.inr (Or.inr (Or.inr (Or.inr (Or.inr (Or.inr (Or.inr (Or.inr (Or.inr (Or.inr (Or.inr (Or.inr (Or.inr (Or.inr (Or.inr (Or.inr (Or.inr (⟨by rw [if_neg h0, if_neg h1, if_neg h2, if_neg h3, if_neg h4, if_neg h5, if_neg h6, if_neg h7, if_neg h8, if_neg h9, if_neg h10, if_neg h11, if_neg h12, if_neg h13, if_neg h14, if_neg h15, if_pos h16], h16⟩)))))))))))))))))
  exact Or.inl ⟨by rw [if_neg h0, if_neg h1, if_neg h2, if_neg h3, if_neg h4, if_neg h5, if_neg h6, if_neg h7, if_neg h8, if_neg h9, if_neg h10, if_neg h11, if_neg h12, if_neg h13, if_neg h14, if_neg h15, if_neg h16], h0, h1, h2, h3, h4, h5, h6, h7, h8, h9, h10, h11, h12, h13, h14, h15, h16⟩
theorem wCd_1 (W : Int) : wCd W = 1 ↔ W = 11716 := by
  have := wCd_in W
  omega
theorem wCd_2 (W : Int) : wCd W = 2 ↔ W = 355412 := by
  have := wCd_in W
  omega
theorem wCd_3 (W : Int) : wCd W = 3 ↔ W = 1503 := by
  have := wCd_in W
  omega
theorem wCd_4 (W : Int) : wCd W = 4 ↔ W = 237470 := by
  have := wCd_in W
  omega
theorem wCd_5 (W : Int) : wCd W = 5 ↔ W = 8868696 := by
  have := wCd_in W
  omega
theorem wCd_6 (W : Int) : wCd W = 6 ↔ W = 249 := by
  have := wCd_in W
  omega
theorem wCd_7 (W : Int) : wCd W = 7 ↔ W = 423 := by
  have := wCd_in W
  omega
theorem wCd_8 (W : Int) : wCd W = 8 ↔ W = 1111 := by
  have := wCd_in W
  omega
theorem wCd_9 (W : Int) : wCd W = 9 ↔ W = 10631 := by
  have := wCd_in W
  omega
theorem wCd_10 (W : Int) : wCd W = 10 ↔ W = 122079 := by
  have := wCd_in W
  omega
theorem wCd_11 (W : Int) : wCd W = 11 ↔ W = 3499582 := by
  have := wCd_in W
  omega
theorem wCd_12 (W : Int) : wCd W = 12 ↔ W = 12532058 := by
  have := wCd_in W
  omega
theorem wCd_13 (W : Int) : wCd W = 13 ↔ W = 385418 := by
  have := wCd_in W
  omega
theorem wCd_14 (W : Int) : wCd W = 14 ↔ W = 10983956 := by
  have := wCd_in W
  omega
theorem wCd_15 (W : Int) : wCd W = 15 ↔ W = 8276 := by
  have := wCd_in W
  omega
theorem wCd_16 (W : Int) : wCd W = 16 ↔ W = 239454811 := by
  have := wCd_in W
  omega
theorem wCd_17 (W : Int) : wCd W = 17 ↔ W = 9665171 := by
  have := wCd_in W
  omega
