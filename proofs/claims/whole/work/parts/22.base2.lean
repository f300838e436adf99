/-! ===== memories, numbers, loops ===== -/
theorem bwr_ne {m : bM} {i j : Nat} (k : Nat) (z : Int) (h : j ≠ i) : bwr m i k z j = m j := by
  funext b
  unfold bwr
  rw [if_neg h]
theorem bwr_ne2 {m : bM} {i k k' : Nat} (z : Int) (h : k' ≠ k) : bwr m i k z i k' = m i k' := by
  unfold bwr
  rw [if_pos rfl, if_neg h]
theorem bwr_eq2 {m : bM} {i k : Nat} (z : Int) : bwr m i k z i k = z := by
  unfold bwr
  rw [if_pos rfl, if_pos rfl]
theorem bwr_if {m : bM} {i k k' : Nat} (z : Int) : bwr m i k z i k' = if k' = k then z else m i k' := by
  unfold bwr
  rw [if_pos rfl]
theorem bwr_self (m : bM) (i k : Nat) : bwr m i k (m i k) = m := by
  funext a b
  unfold bwr
  by_cases h : a = i
  · subst h
    by_cases h2 : b = k
    · subst h2; simp
    · simp [h2]
  · simp [h]
theorem bwr_bwr (m : bM) (i k : Nat) (z w : Int) : bwr (bwr m i k z) i k w = bwr m i k w := by
  funext a b
  unfold bwr
  by_cases h : a = i
  · by_cases h2 : b = k
    · simp [h, h2]
    · simp [h, h2]
  · simp [h]
theorem i32_of {z : Int} (h1 : -2147483648 ≤ z) (h2 : z < 2147483648) : i32 z = z := i32_id ⟨h1, h2⟩
theorem i64_of {z : Int} (h1 : -9223372036854775808 ≤ z) (h2 : z < 9223372036854775808) : i64 z = z := by rw [i64_def]; omega
/-- one turn of a loop: 0 goes on, 1 is out of it -/
def bIt (c : bLs → bM → Option (Bool × bM)) (b s : bLs → bM → Option bRs) (ls : bLs) (m : bM) : Option bRs :=
  (c ls m).bind fun t => if t.1 = true then (b ls t.2).bind fun r => match r with
      | .inl (1, ls', m') => some (.inl (1, ls', m'))
      | .inl (_, ls', m') => (s ls' m').bind fun r2 => match r2 with
        | .inl (0, ls'', m'') => some (.inl (0, ls'', m''))
        | _ => none
      | .inr q => some (.inr q)
    else some (.inl (1, ls, t.2))
def itb (s : bLs → bM → Option bRs) (r : bRs) : Option bRs := match r with
      | .inl (1, ls', m') => some (.inl (1, ls', m'))
      | .inl (_, ls', m') => (s ls' m').bind fun r2 => match r2 with
        | .inl (0, ls'', m'') => some (.inl (0, ls'', m''))
        | _ => none
      | .inr q => some (.inr q)
def its (r : bRs) : Option bRs := match r with
        | .inl (0, ls'', m'') => some (.inl (0, ls'', m''))
        | _ => none
theorem bIt_d {c : bLs → bM → Option (Bool × bM)} {b s : bLs → bM → Option bRs} {ls : bLs} {m : bM} : bIt c b s ls m = (c ls m).bind fun t => if t.1 = true then (b ls t.2).bind (itb s) else some (.inl (1, ls, t.2)) := nrf rfl
section
variable {c : bLs → bM → Option (Bool × bM)} {b s : bLs → bM → Option bRs} {ls : bLs} {m : bM}
theorem itb_0 : itb s (.inl (0, ls, m)) = (s ls m).bind its := nrf rfl
theorem itb_1 : itb s (.inl (1, ls, m)) = some (.inl (1, ls, m)) := nrf rfl
theorem itb_2 : itb s (.inl (2, ls, m)) = (s ls m).bind its := nrf rfl
theorem itb_r {q : bM × Int} : itb s (.inr q) = some (.inr q) := nrf rfl
theorem its_0 : its (.inl (0, ls, m)) = some (.inl (0, ls, m)) := nrf rfl
theorem bLp_s {n : Nat} : bLp c b s (n + 1) ls m = (c ls m).bind fun t => if t.1 = true then (b ls t.2).bind fun r => match r with
      | .inl (1, ls', m') => some (.inl (0, ls', m'))
      | .inl (_, ls', m') => (s ls' m').bind fun r2 => match r2 with
        | .inl (0, ls'', m'') => bLp c b s n ls'' m''
        | _ => none
      | .inr q => some (.inr q)
    else some (.inl (0, ls, t.2)) := rfl
theorem bLp_go {n : Nat} {ls' : bLs} {m' : bM} (h : bIt c b s ls m = some (.inl (0, ls', m'))) : bLp c b s (n + 1) ls m = bLp c b s n ls' m' := by
  rw [bIt_d] at h
  rw [bLp_s]
  obtain ⟨t, h1, h2⟩ := bb_of h
  rw [h1]
  show (if t.1 = true then _ else _) = _
  split
  · rename_i ht
    rw [if_pos ht] at h2
    obtain ⟨r, h3, h4⟩ := bb_of h2
    rw [h3]
    match r, h4 with
    | .inl (0, a, x), h4 =>
      obtain ⟨r2, h5, h6⟩ := bb_of h4
      show (s a x).bind _ = _
      rw [h5]
      match r2, h6 with
      | .inl (0, a2, x2), h6 => cases h6; rfl
      | .inl (k + 1, a2, x2), h6 => cases h6
      | .inr q, h6 => cases h6
    | .inl (1, a, x), h4 => cases h4
    | .inl (k + 2, a, x), h4 =>
      obtain ⟨r2, h5, h6⟩ := bb_of h4
      show (s a x).bind _ = _
      rw [h5]
      match r2, h6 with
      | .inl (0, a2, x2), h6 => cases h6; rfl
      | .inl (k + 1, a2, x2), h6 => cases h6
      | .inr q, h6 => cases h6
    | .inr q, h4 => cases h4
  · rename_i ht
    rw [if_neg ht] at h2
    cases h2
theorem bLp_out {n : Nat} {ls' : bLs} {m' : bM} (h : bIt c b s ls m = some (.inl (1, ls', m'))) : bLp c b s (n + 1) ls m = some (.inl (0, ls', m')) := by
  rw [bIt_d] at h
  rw [bLp_s]
  obtain ⟨t, h1, h2⟩ := bb_of h
  rw [h1]
  show (if t.1 = true then _ else _) = _
  split
  · rename_i ht
    rw [if_pos ht] at h2
    obtain ⟨r, h3, h4⟩ := bb_of h2
    rw [h3]
    match r, h4 with
    | .inl (0, a, x), h4 =>
      obtain ⟨r2, h5, h6⟩ := bb_of h4
      match r2, h6 with
      | .inl (0, a2, x2), h6 => cases h6
      | .inl (k + 1, a2, x2), h6 => cases h6
      | .inr q, h6 => cases h6
    | .inl (1, a, x), h4 => cases h4; rfl
    | .inl (k + 2, a, x), h4 =>
      obtain ⟨r2, h5, h6⟩ := bb_of h4
      match r2, h6 with
      | .inl (0, a2, x2), h6 => cases h6
      | .inl (k + 1, a2, x2), h6 => cases h6
      | .inr q, h6 => cases h6
    | .inr q, h4 => cases h4
  · rename_i ht
    rw [if_neg ht] at h2
    cases h2; rfl
theorem bLp_ret {n : Nat} {q : bM × Int} (h : bIt c b s ls m = some (.inr q)) : bLp c b s (n + 1) ls m = some (.inr q) := by
  rw [bIt_d] at h
  rw [bLp_s]
  obtain ⟨t, h1, h2⟩ := bb_of h
  rw [h1]
  show (if t.1 = true then _ else _) = _
  split
  · rename_i ht
    rw [if_pos ht] at h2
    obtain ⟨r, h3, h4⟩ := bb_of h2
    rw [h3]
    match r, h4 with
    | .inl (0, a, x), h4 =>
      obtain ⟨r2, h5, h6⟩ := bb_of h4
      match r2, h6 with
      | .inl (0, a2, x2), h6 => cases h6
      | .inl (k + 1, a2, x2), h6 => cases h6
      | .inr q, h6 => cases h6
    | .inl (1, a, x), h4 => cases h4
    | .inl (k + 2, a, x), h4 =>
      obtain ⟨r2, h5, h6⟩ := bb_of h4
      match r2, h6 with
      | .inl (0, a2, x2), h6 => cases h6
      | .inl (k + 1, a2, x2), h6 => cases h6
      | .inr q, h6 => cases h6
    | .inr q, h4 => cases h4; rfl
  · rename_i ht
    rw [if_neg ht] at h2
    cases h2
theorem bLp_run (L : Nat → bLs) (M : Nat → bM) : ∀ (N i n : Nat), (∀ k, i ≤ k → k < i + N → bIt c b s (L k) (M k) = some (.inl (0, L (k + 1), M (k + 1)))) → bLp c b s (n + N) (L i) (M i) = bLp c b s n (L (i + N)) (M (i + N))
  | 0, i, n, _ => rfl
  | N + 1, i, n, h => by
    rw [show n + (N + 1) = (n + N) + 1 by omega, bLp_go (h i (Nat.le_refl _) (by omega)), bLp_run L M N (i + 1) n (fun k h1 h2 => h k (by omega) (by omega)), show i + 1 + N = i + (N + 1) by omega]
/-- a loop of N turns, then out -/
theorem lp_out (L : Nat → bLs) (M : Nat → bM) (N : Nat) (hN : N < 1000) {ls' : bLs} {m' : bM} (h : ∀ k, k < N → bIt c b s (L k) (M k) = some (.inl (0, L (k + 1), M (k + 1)))) (hx : bIt c b s (L N) (M N) = some (.inl (1, ls', m'))) : bLp c b s bF (L 0) (M 0) = some (.inl (0, ls', m')) := by
  rw [show bF = (999 - N + 1) + N by show 1000 = _; omega, bLp_run L M N 0 _ (fun k _ h2 => h k (by omega)), Nat.zero_add, bLp_out hx]
theorem lp_ret (L : Nat → bLs) (M : Nat → bM) (N : Nat) (hN : N < 1000) {q : bM × Int} (h : ∀ k, k < N → bIt c b s (L k) (M k) = some (.inl (0, L (k + 1), M (k + 1)))) (hx : bIt c b s (L N) (M N) = some (.inr q)) : bLp c b s bF (L 0) (M 0) = some (.inr q) := by
  rw [show bF = (999 - N + 1) + N by show 1000 = _; omega, bLp_run L M N 0 _ (fun k _ h2 => h k (by omega)), Nat.zero_add, bLp_ret hx]
end
