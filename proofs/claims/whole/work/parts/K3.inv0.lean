/-! ===== the memory that the constructors leave ===== -/
def gwk (q : Nat × Nat × Int) : Bool := decide (-100 ≤ q.2.2 ∧ q.2.2 ≤ 100) && (match bSY[q.1]? with
  | some (0, _, _) => true
  | some (1, _, _) => true
  | _ => false)
theorem bwf_lg : ∀ (lg : gLg) (m : bM), bwf bSY m → lg.all gwk = true → bwf bSY (wrs lg m)
  | [], m, h, _ => h
  | q :: r, m, h, hq => by
    rw [List.all_cons, Bool.and_eq_true] at hq
    refine bwf_lg r (bwr m q.1 q.2.1 q.2.2) ?_ hq.2
    have h2 := hq.1
    unfold gwk at h2
    rw [Bool.and_eq_true, decide_eq_true_eq] at h2
    obtain ⟨⟨z1, z2⟩, h3⟩ := h2
    have i1 : in32 q.2.2 := by unfold in32; omega
    have i2 : in64 q.2.2 := by unfold in64; omega
    rw [bwr_eq]
    refine bwf_up h (fun n => ?_)
    have h1 := h q.1 n
    revert h1 h3
    generalize bSY[q.1]? = e
    intro h3 h1
    split at h1
    · split at h1
      · by_cases hn : n = q.2.1
        · simp only [hn, if_true]; first | exact i2 | (split <;> first | exact i2 | exact i1)
        · simp only [if_neg hn]; first | exact h1 | (split <;> first | exact h1 | contradiction)
      · by_cases hn : n = q.2.1
        · simp only [hn, if_true]; split <;> first | exact i2 | exact i1
        · simp only [if_neg hn]; first | exact h1 | (split <;> first | exact h1 | contradiction)
    · by_cases hn : n = q.2.1
      · simp only [hn, if_true]; exact i1
      · simp only [if_neg hn]; exact h1
    · cases h3
    · cases h3
    · first | (cases h3; done) | (exfalso; split at h3 <;> simp_all)
    · first | (cases h3; done) | (exfalso; split at h3 <;> simp_all)
theorem bwf_0 : bwf bSY g0 := by
  intro a k
  unfold g0
  split
  · split <;> first | (unfold in64; omega) | (unfold in32; omega)
  · unfold in32; omega
  · omega
  · omega
  · unfold in64; omega
  · trivial
theorem bwf_m0 : bwf bSY m0 := bwf_lg lgM g0 bwf_0 (by decide +kernel)
