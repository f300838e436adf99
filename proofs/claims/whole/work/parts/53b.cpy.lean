/-! ===== rows that are copied; what stays ===== -/
theorem Rest_fr {m m2 : bM} (o : ∀ i, (i = 0 ∨ 9 ≤ i ∧ i ≤ 16 ∨ 27 ≤ i ∧ i ≤ 36 ∨ 50 ≤ i ∧ i ≤ 62 ∨ 71 ≤ i ∧ i ≤ 78 ∨ 86 ≤ i ∧ i ≤ 92 ∨ i = 109 ∨ i = 110 ∨ 117 ≤ i ∧ i ≤ 119 ∨ 124 ≤ i ∧ i ≤ 131 ∨ i = 178 ∨ i = 192 ∨ 195 ≤ i ∧ i ≤ 203) → m2 i = m i) (oM : ∀ k, k ≠ 53 → k ≠ 59 → m2 132 k = m 132 k) : Rest m m2 := by
  refine ⟨?_, ?_, ?_, ?_, ?_, ?_, ?_, ?_, ?_, ?_, ?_, ?_, ?_, ?_, ?_, ?_, ?_⟩
  · rw [o 0 (by omega)]
  · exact oM _ (by decide) (by decide)
  · exact fun i a b c => o i (by omega)
  · exact o _ (by omega)
  · exact fun i a b => o i (by omega)
  · exact fun i a b => o i (by omega)
  · exact oM _ (by decide) (by decide)
  · exact o _ (by omega)
  · exact o _ (by omega)
  · exact o _ (by omega)
  · exact o _ (by omega)
  · exact o _ (by omega)
  · exact fun k hk => oM k (by omega) (by omega)
  · rw [o 109 (by omega)]
  · exact o _ (by omega)
  · exact o _ (by omega)
  · exact oM _ (by decide) (by decide)
theorem bcpy_ne (m : bM) (i k sp dp n : Nat) {j : Nat} (h : j ≠ k) : bcpy m i k sp dp n j = m j := by
  unfold bcpy bup
  rw [if_neg h]
theorem bcpy_c (m : bM) (i k sp dp n b : Nat) : bcpy m i k sp dp n k b = if dp ≤ b ∧ b < dp + n then m i (sp + (b - dp)) else m k b := by
  unfold bcpy bup
  rw [if_pos rfl]
