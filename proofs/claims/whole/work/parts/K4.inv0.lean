/-! ===== the invariant of the memory that the constructors leave ===== -/
theorem i0_n : RelN m0 m0 := by unfold RelN; decide +kernel
theorem i0_v : RelV m0 m0 := by unfold RelV; decide +kernel
theorem i0_s : RelS m0 m0 := by
  unfold RelS
  refine ⟨?_, ?_, ?_, ?_, ?_, ?_, ?_, ?_, ?_, ?_, ?_, ?_, ?_, ?_, ?_, ?_, ?_, ?_⟩ <;> decide +kernel
theorem i0_f : RelF m0 m0 := by
  unfold RelF
  refine ⟨?_, ?_, ?_, ?_, ?_, ?_, ?_, ?_, ?_, ?_, ?_, ?_, ?_, ?_, ?_, ?_, ?_, ?_, ?_, ?_, ?_, ?_, ?_, ?_, ?_, ?_, ?_, ?_, ?_⟩ <;> decide +kernel
theorem i0_c : RelC m0 m0 := by unfold RelC; decide +kernel
theorem i0_63 : m0 63 7 = 0 := by decide +kernel
theorem i0_no (v : Nat) (h : (v : Int) < m0 63 7) : False := by
  rw [i0_63] at h
  omega
theorem i0_a : RelA m0 m0 := ⟨by rw [i0_63]; decide, fun v h => (i0_no v h).elim, fun v h => (i0_no v h).elim, fun v _ h _ => (i0_no v h).elim⟩
theorem i0_rel : Rel m0 m0 := ⟨i0_n, i0_v, i0_s, i0_f, i0_a, i0_c⟩
theorem i0_kept : m0 132 47 = m0 0 16 ∧ m0 0 16 = 0 := by decide +kernel
theorem i0_age : m0 101 13 = 1 ∧ m0 101 14 = 0 ∧ m0 101 15 = 0 := by decide +kernel
theorem i0_kn : ∀ q, q < 90 → m0 102 q = 0 := by decide +kernel
theorem i0_ngt : NgtC 0 m0 m0 := by
  obtain ⟨h1, h2, h3⟩ := i0_age
  refine ⟨?_, fun q hq => ?_, fun q hq e => ?_, Or.inl h2, Or.inl h3⟩
  · rw [h1]; decide
  · rw [i0_kn q hq, h1]; decide
  · rw [i0_kn q hq, h1] at e
    exact absurd e (by decide)
theorem i0_fresh : m0 132 53 = 0 := by decide +kernel
theorem i0_hs : ∀ s, s < 4 → m0 197 s = -1 ∧ m0 125 s = -1 ∧ m0 128 s = 0 ∧ m0 200 s = 3 := by decide +kernel
theorem i0_ht : m0 132 91 = 0 ∧ m0 124 11 = 0 := by decide +kernel
theorem i0_h5 : ∀ k, k < 160 → -2147483648 ≤ m0 127 k ∧ m0 127 k < 2147483648 := by decide +kernel
theorem i0_host : HostOK m0 := by
  obtain ⟨t1, t2⟩ := i0_ht
  refine ⟨fun s hs => ?_, fun s hs h => ?_, fun s hs => ?_, ?_, fun k h => ?_, i0_h5⟩
  · obtain ⟨h1, h2, h3, h4⟩ := i0_hs s hs
    rw [h1, h2]
    decide
  · obtain ⟨h1, h2, h3, h4⟩ := i0_hs s hs
    rw [h2] at h
    exact absurd h (by decide)
  · obtain ⟨h1, h2, h3, h4⟩ := i0_hs s hs
    exact Or.inl ⟨h3, h4⟩
  · rw [t1, t2]; decide
  · rw [t2] at h
    omega
theorem i0_tour : TourOK m0 := by unfold TourOK; decide +kernel
theorem i0_tape : TapeOK m0 := by unfold TapeOK; decide +kernel
theorem inv_m0 : Inv 0 m0 := ⟨i0_rel, ⟨i0_kept.1, Or.inl i0_kept.2⟩, i0_ngt, Or.inl i0_fresh, i0_host, i0_tour, i0_tape⟩
