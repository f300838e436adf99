/-! ===== rows of what was seen: the invariant ===== -/
theorem RelS_add (m m2 : bM) (R : Nat) (kd p a f t b c d hgt : Int) (h : RelS m m) (hR : (R : Int) = m 17 9) (hR2 : R < 16)
    (e18 : ∀ k, m2 18 k = if k = R then kd else m 18 k) (e19 : ∀ k, m2 19 k = if k = R then p else m 19 k) (e20 : ∀ k, m2 20 k = if k = R then a else m 20 k) (e21 : ∀ k, m2 21 k = if k = R then f else m 21 k) (e22 : ∀ k, m2 22 k = if k = R then t else m 22 k)
    (e23 : ∀ k, k ≠ R → m2 23 k = m 23 k) (e23b : kd = 1 → m2 23 R = hgt) (e24 : ∀ k, m2 24 k = if k = R then 0 else m 24 k) (e25 : m2 25 = m 25) (e26 : m2 26 = m 26)
    (r1 : ∀ k, m2 141 k = if k = R then kd else m 141 k) (r2 : ∀ k, m2 142 k = if k = R then p else m 142 k) (r3 : ∀ k, m2 143 k = if k = R then a else m 143 k) (r4 : ∀ k, m2 144 k = if k = R then b else m 144 k) (r5 : ∀ k, m2 145 k = if k = R then c else m 145 k) (r6 : ∀ k, m2 146 k = if k = R then d else m 146 k) (r7 : ∀ k, m2 147 k = if k = R then 0 else m 147 k) (r8 : m2 148 = m 148) (r9 : m2 149 = m 149)
    (e17 : m2 17 9 = m 17 9 + 1) (ew : m2 17 10 = if kd = 3 then jor (m 17 10) (jshl 1 (m 17 9)) else m 17 10)
    (ck : 1 ≤ kd ∧ kd ≤ 3) (cp : 0 ≤ p ∧ p ≤ 11) (cp3 : kd = 3 → p ≤ 3) (ca : 0 ≤ a ∧ a ≤ 999) (c1 : kd = 1 → 1 ≤ hgt ∧ hgt ≤ 99 ∧ b = hgt ∧ -9 ≤ c ∧ c ≤ 9 ∧ 0 ≤ d ∧ d ≤ 9 ∧ f = a - c - d ∧ t = a - c + d) (c2 : kd = 2 → f = a ∧ b = t) (c3 : kd = 3 → b = f ∧ c = t) : RelS m2 m2 := by
  obtain ⟨v1, v2, v3, v4, v5, v6, v7, v8, v9, v10, v11, v12, v13, v14, v15, v16, v17, v18⟩ := h
  refine ⟨?_, ?_, ?_, ?_, ?_, ?_, ?_, ?_, ?_, ?_, ?_, ?_, ?_, ?_, ?_, ?_, ?_, ?_⟩
  · intro k hk; rw [e18, r1]; split; rfl; exact v1 k hk
  · intro k hk; rw [e19, r2]; split; rfl; exact v2 k hk
  · intro k hk; rw [e20, r3]; split; rfl; exact v3 k hk
  · intro k hk; rw [e24, r7]; split; rfl; exact v4 k hk
  · rw [e25, r8]; exact v5
  · rw [e26, r9]; exact v6
  · intro k hk; rw [e18]; split; omega; exact v7 k hk
  · intro k hk h2; rw [e18]; rw [e17] at h2; split; omega; exact v8 k hk (by omega)
  · intro k hk; rw [e19]; split; exact cp; exact v9 k hk
  · intro k hk; rw [e18, e19]; split; exact cp3; exact v10 k hk
  · intro k hk; rw [e20]; split; exact ca; exact v11 k hk
  · intro k hk
    rw [e18, e20, e21, e22, r4, r5, r6]
    by_cases hkR : k = R
    · subst hkR
      simp only [if_true]
      intro h1
      rw [e23b h1]
      exact c1 h1
    · simp only [if_neg hkR, e23 k hkR]
      exact v12 k hk
  · intro k hk
    rw [e18, e20, e21, e22, r4]
    by_cases hkR : k = R
    · simp only [if_pos hkR]; exact c2
    · simp only [if_neg hkR]; exact v13 k hk
  · intro k hk
    rw [e18, e21, e22, r4, r5]
    by_cases hkR : k = R
    · simp only [if_pos hkR]; exact c3
    · simp only [if_neg hkR]; exact v14 k hk
  · rw [e17]; omega
  · intro k hk; rw [e24]; split; exact Or.inl rfl; exact v16 k hk
  · rw [e26]; exact v17
  · have hn : nRw m = R := by unfold nRw; omega
    have hn2 : nRw m2 = R + 1 := by unfold nRw; rw [e17]; omega
    rw [ew, hn2, v18, hn]
    have e0 : bst (fun k => decide (m 18 k = 3)) R = bst (fun k => decide (m2 18 k = 3)) R := bst_congr (fun k hk => by rw [e18, if_neg (by omega)])
    rw [e0, ← jor_step _ (show R < 31 by omega), ← hR]
    have e3 : (decide (m2 18 R = 3) = true) ↔ kd = 3 := by rw [e18, if_pos rfl]; simp
    by_cases h3 : kd = 3
    · rw [if_pos h3, if_pos (e3.mpr h3)]
    · rw [if_neg h3, if_neg (fun q => h3 (e3.mp q))]
theorem addR_18 (m : bM) (k p a f t : Int) (j : Nat) : addR m k p a f t 18 j = if j = (m 17 9).toNat then k else m 18 j := by
  unfold addR
  split <;> simp (disch := omega) only [bwr_ne, bwr_if]
theorem addR_19 (m : bM) (k p a f t : Int) (j : Nat) : addR m k p a f t 19 j = if j = (m 17 9).toNat then p else m 19 j := by
  unfold addR
  split <;> simp (disch := omega) only [bwr_ne, bwr_if]
theorem addR_20 (m : bM) (k p a f t : Int) (j : Nat) : addR m k p a f t 20 j = if j = (m 17 9).toNat then a else m 20 j := by
  unfold addR
  split <;> simp (disch := omega) only [bwr_ne, bwr_if]
theorem addR_21 (m : bM) (k p a f t : Int) (j : Nat) : addR m k p a f t 21 j = if j = (m 17 9).toNat then f else m 21 j := by
  unfold addR
  split <;> simp (disch := omega) only [bwr_ne, bwr_if]
theorem addR_22 (m : bM) (k p a f t : Int) (j : Nat) : addR m k p a f t 22 j = if j = (m 17 9).toNat then t else m 22 j := by
  unfold addR
  split <;> simp (disch := omega) only [bwr_ne, bwr_if]
theorem addR_24 (m : bM) (k p a f t : Int) (j : Nat) : addR m k p a f t 24 j = if j = (m 17 9).toNat then 0 else m 24 j := by
  unfold addR
  split <;> simp (disch := omega) only [bwr_ne, bwr_if]
theorem addR_r (m : bM) (k p a f t : Int) : addR m k p a f t 17 9 = m 17 9 + 1 := by
  unfold addR
  simp only [bwr_eq2]
theorem addR_w (m : bM) (k p a f t : Int) : addR m k p a f t 17 10 = if k = 3 then jor (m 17 10) (jshl 1 (m 17 9)) else m 17 10 := by
  unfold addR
  split <;> simp (disch := omega) only [bwr_ne, bwr_ne2, bwr_eq2]
theorem addR_o (m : bM) (k p a f t : Int) (i : Nat) (h : i ≤ 16 ∨ i = 23 ∨ 25 ≤ i) : addR m k p a f t i = m i := by
  unfold addR
  split <;> simp (disch := omega) only [bwr_ne]
theorem addM_k (m : bM) (k p a b c d : Int) (j : Nat) : addM m k p a b c d 141 j = if j = (m 133 6).toNat then k else m 141 j := by
  unfold addM
  simp (disch := omega) only [bwr_ne, bwr_if]
theorem addM_p (m : bM) (k p a b c d : Int) (j : Nat) : addM m k p a b c d 142 j = if j = (m 133 6).toNat then p else m 142 j := by
  unfold addM
  simp (disch := omega) only [bwr_ne, bwr_if]
theorem addM_a (m : bM) (k p a b c d : Int) (j : Nat) : addM m k p a b c d 143 j = if j = (m 133 6).toNat then a else m 143 j := by
  unfold addM
  simp (disch := omega) only [bwr_ne, bwr_if]
theorem addM_b (m : bM) (k p a b c d : Int) (j : Nat) : addM m k p a b c d 144 j = if j = (m 133 6).toNat then b else m 144 j := by
  unfold addM
  simp (disch := omega) only [bwr_ne, bwr_if]
theorem addM_c (m : bM) (k p a b c d : Int) (j : Nat) : addM m k p a b c d 145 j = if j = (m 133 6).toNat then c else m 145 j := by
  unfold addM
  simp (disch := omega) only [bwr_ne, bwr_if]
theorem addM_d (m : bM) (k p a b c d : Int) (j : Nat) : addM m k p a b c d 146 j = if j = (m 133 6).toNat then d else m 146 j := by
  unfold addM
  simp (disch := omega) only [bwr_ne, bwr_if]
theorem addM_t (m : bM) (k p a b c d : Int) (j : Nat) : addM m k p a b c d 147 j = if j = (m 133 6).toNat then 0 else m 147 j := by
  unfold addM
  simp (disch := omega) only [bwr_ne, bwr_if]
theorem addM_o (m : bM) (k p a b c d : Int) (i : Nat) (h : i ≤ 131 ∨ 134 ≤ i ∧ i ≤ 140 ∨ 148 ≤ i) : addM m k p a b c d i = m i := by
  unfold addM
  simp (disch := omega) only [bwr_ne]
theorem addM_n (m : bM) (k p a b c d : Int) (j : Nat) : addM m k p a b c d 133 j = if j = 6 then m 133 6 + 1 else m 133 j := by
  unfold addM
  simp (disch := omega) only [bwr_ne, bwr_if]
theorem addM_f (m : bM) (k p a b c d : Int) (j : Nat) : addM m k p a b c d 132 j = if j = 53 then 0 else m 132 j := by
  unfold addM
  simp (disch := omega) only [bwr_ne, bwr_if]
theorem fgN_o (m : bM) (i : Nat) (h : i ≠ 101) : fgN m i = m i := by
  unfold fgN
  simp (disch := omega) only [bwr_ne]
theorem fgP_o (m : bM) (i : Nat) (h : i ≠ 101) : fgP m i = m i := by
  unfold fgP
  simp (disch := omega) only [bwr_ne]
/-- the invariant behind a new row; m0: the class's memory before the row itself is added -/
theorem Inv_row {i : Nat} {m m0 : bM} (hI : Inv i m) {kd p a f t b c d hgt : Int} (ho : ∀ i, i ≠ 101 → i ≠ 23 → m0 i = m i) (hh : ∀ k : Nat, (k : Int) ≠ m 17 9 → m0 23 k = m 23 k) (hh1 : kd = 1 → m0 23 (m 17 9).toNat = hgt) (hf : m 17 9 ≠ 16)
    (ck : 1 ≤ kd ∧ kd ≤ 3) (cp : 0 ≤ p ∧ p ≤ 11) (cp3 : kd = 3 → p ≤ 3) (ca : 0 ≤ a ∧ a ≤ 999) (c1 : kd = 1 → 1 ≤ hgt ∧ hgt ≤ 99 ∧ b = hgt ∧ -9 ≤ c ∧ c ≤ 9 ∧ 0 ≤ d ∧ d ≤ 9 ∧ f = a - c - d ∧ t = a - c + d) (c2 : kd = 2 → f = a ∧ b = t) (c3 : kd = 3 → b = f ∧ c = t)
    (hn : NgtC (i + 1) (addM (addR m0 kd p a f t) kd p a b c d) (addM (addR m0 kd p a f t) kd p a b c d)) : Inv (i + 1) (addM (addR m0 kd p a f t) kd p a b c d) := by
  have hR := Inv_rel hI
  have hp := RelS_rrows (Rel_s hR)
  have hnp := RelN_rows (Rel_n hR)
  have e0 : m0 17 9 = m 17 9 := by rw [ho 17 (by decide) (by decide)]
  have e6 : (addR m0 kd p a f t) 133 6 = m 17 9 := by rw [addR_o _ _ _ _ _ _ _ (by decide), ho 133 (by decide) (by decide)]; exact hnp
  have oth : ∀ i, i ≤ 16 ∨ 27 ≤ i → i ≠ 101 → (i ≤ 131 ∨ 134 ≤ i ∧ i ≤ 140 ∨ 148 ≤ i) → addM (addR m0 kd p a f t) kd p a b c d i = m i := fun i h1 h2 h3 => by
    rw [addM_o _ _ _ _ _ _ _ _ h3, addR_o _ _ _ _ _ _ _ (by omega), ho i h2 (by omega)]
  have oth25 : ∀ i, i = 25 ∨ i = 26 → addM (addR m0 kd p a f t) kd p a b c d i = m i := fun i h1 => by
    rw [addM_o _ _ _ _ _ _ _ _ (by omega), addR_o _ _ _ _ _ _ _ (by omega), ho i (by omega) (by omega)]
  have mob : ∀ k, k ≠ 53 → addM (addR m0 kd p a f t) kd p a b c d 132 k = m 132 k := fun k h1 => by
    rw [addM_f, if_neg h1, addR_o _ _ _ _ _ _ _ (by decide), ho 132 (by decide) (by decide)]
  refine Inv_of hI ?_ ⟨?_, ?_, ?_, ?_, ?_, ?_⟩ hn (Or.inl (by rw [addM_f, if_pos rfl]))
  · refine ⟨?_, ?_, ?_, ?_, ?_, ?_, ?_, ?_, ?_, ?_, ?_, ?_, ?_, ?_, ?_, ?_, ?_⟩
    · rw [oth 0 (by decide) (by decide) (by decide)]
    · exact mob 47 (by decide)
    · intro i h1 h2 h3; exact oth i (by omega) (by omega) (by omega)
    · exact oth 178 (by decide) (by decide) (by decide)
    · intro i h1 h2; exact oth i (by omega) (by omega) (by omega)
    · intro i h1 h2; exact oth i (by omega) (by omega) (by omega)
    · exact mob 91 (by decide)
    · exact oth 117 (by decide) (by decide) (by decide)
    · exact oth 118 (by decide) (by decide) (by decide)
    · exact oth 119 (by decide) (by decide) (by decide)
    · exact oth 195 (by decide) (by decide) (by decide)
    · exact oth 196 (by decide) (by decide) (by decide)
    · intro k hk; exact mob k (by omega)
    · rw [oth 109 (by decide) (by decide) (by decide)]
    · exact oth 110 (by decide) (by decide) (by decide)
    · exact oth 192 (by decide) (by decide) (by decide)
    · exact mob 65 (by decide)
  · obtain ⟨a1, a2, a3, a4, a5, a6, a7, a8, a9, a10, a11, a12, a13, a14⟩ := Rel_n hR
    have q : ∀ j, j ≠ 6 → addM (addR m0 kd p a f t) kd p a b c d 133 j = m 133 j := fun j hj => by
      rw [addM_n, if_neg hj, addR_o _ _ _ _ _ _ _ (by decide), ho 133 (by decide) (by decide)]
    have q6 : addM (addR m0 kd p a f t) kd p a b c d 17 9 = m 17 9 + 1 := by rw [addM_o _ _ _ _ _ _ _ _ (by decide), addR_r, e0]
    unfold RelN
    rw [q 0 (by decide), q 1 (by decide), q 2 (by decide), q 3 (by decide), q 4 (by decide), q 5 (by decide), q 7 (by decide), q 8 (by decide), q 9 (by decide), q 10 (by decide), q 11 (by decide), q 12 (by decide), q 13 (by decide), addM_n, if_pos rfl, e6, q6, oth 1 (by decide) (by decide) (by decide), oth 37 (by decide) (by decide) (by decide), oth 63 (by decide) (by decide) (by decide), oth 79 (by decide) (by decide) (by decide)]
    exact ⟨a1, a2, a3, a4, a5, a6, rfl, a8, a9, a10, a11, a12, a13, a14⟩
  · exact RelV_congr (Rel_v hR) (fun i h1 h2 => oth i (by omega) (by omega) (by omega)) (fun i h1 h2 => oth i (by omega) (by omega) (by omega))
  · refine RelS_add m _ (m 17 9).toNat kd p a f t b c d hgt (Rel_s hR) (by omega) (by omega) ?_ ?_ ?_ ?_ ?_ ?_ ?_ ?_ (oth25 25 (by decide)) (oth25 26 (by decide)) ?_ ?_ ?_ ?_ ?_ ?_ ?_ (oth 148 (by decide) (by decide) (by decide)) (oth 149 (by decide) (by decide) (by decide)) ?_ ?_ ck cp cp3 ca c1 c2 c3
    · intro k; rw [addM_o _ _ _ _ _ _ _ _ (by decide), addR_18, e0, ho 18 (by decide) (by decide)]
    · intro k; rw [addM_o _ _ _ _ _ _ _ _ (by decide), addR_19, e0, ho 19 (by decide) (by decide)]
    · intro k; rw [addM_o _ _ _ _ _ _ _ _ (by decide), addR_20, e0, ho 20 (by decide) (by decide)]
    · intro k; rw [addM_o _ _ _ _ _ _ _ _ (by decide), addR_21, e0, ho 21 (by decide) (by decide)]
    · intro k; rw [addM_o _ _ _ _ _ _ _ _ (by decide), addR_22, e0, ho 22 (by decide) (by decide)]
    · intro k hk; rw [addM_o _ _ _ _ _ _ _ _ (by decide), addR_o _ _ _ _ _ _ _ (by decide)]; exact hh k (by omega)
    · intro h1; rw [addM_o _ _ _ _ _ _ _ _ (by decide), addR_o _ _ _ _ _ _ _ (by decide)]; exact hh1 h1
    · intro k; rw [addM_o _ _ _ _ _ _ _ _ (by decide), addR_24, e0, ho 24 (by decide) (by decide)]
    · intro k; rw [addM_k, e6, addR_o _ _ _ _ _ _ _ (by decide), ho 141 (by decide) (by decide)]
    · intro k; rw [addM_p, e6, addR_o _ _ _ _ _ _ _ (by decide), ho 142 (by decide) (by decide)]
    · intro k; rw [addM_a, e6, addR_o _ _ _ _ _ _ _ (by decide), ho 143 (by decide) (by decide)]
    · intro k; rw [addM_b, e6, addR_o _ _ _ _ _ _ _ (by decide), ho 144 (by decide) (by decide)]
    · intro k; rw [addM_c, e6, addR_o _ _ _ _ _ _ _ (by decide), ho 145 (by decide) (by decide)]
    · intro k; rw [addM_d, e6, addR_o _ _ _ _ _ _ _ (by decide), ho 146 (by decide) (by decide)]
    · intro k; rw [addM_t, e6, addR_o _ _ _ _ _ _ _ (by decide), ho 147 (by decide) (by decide)]
    · rw [addM_o _ _ _ _ _ _ _ _ (by decide), addR_r, e0]
    · rw [addM_o _ _ _ _ _ _ _ _ (by decide), addR_w, ho 17 (by decide) (by decide)]
  · exact RelF_congr (Rel_f hR) (fun i h1 h2 => oth i (by omega) (by omega) (by omega)) (fun i h1 h2 => oth i (by omega) (by omega) (by omega))
  · exact RelA_congr (Rel_a hR) (fun i h1 h2 => oth i (by omega) (by omega) (by omega)) (fun i h1 h2 => oth i (by omega) (by omega) (by omega))
  · exact RelC_congr (Rel_c hR) (fun i h1 h2 => oth i (by omega) (by omega) (by omega)) (fun i h1 h2 => oth i (by omega) (by omega) (by omega))
theorem step_mark {n i : Nat} {m : bM} (hI : Inv i m) (hi : i < 100) (r f t : Int) : ∃ m1 m2 v, sem (n + 3) 9 [aR 0, aI r, aI f, aI t] m = some (m1, v) ∧ sem (n + 3) 67 [aR 132, aI r, aI f, aI t] m1 = some (m2, v) ∧ Inv (i + 1) m2 := by
  have hR := Inv_rel hI
  have hN := Inv_ngt hI
  have hage := NgtC_age hN
  have hp := RelS_rrows (Rel_s hR)
  have hnp := RelN_rows (Rel_n hR)
  by_cases hc : (0 ≤ r ∧ r ≤ 11) ∧ (0 ≤ f ∧ f ≤ 999) ∧ (f ≤ t ∧ t ≤ 999)
  · by_cases hf : m 17 9 = 16
    · exact ⟨m, m, -2, (sp_V_mark n r f t m hp).trans ((if_pos hc).trans (if_pos hf)), (sp_M_mark n r f t m (by rw [hnp]; exact hp)).trans ((if_pos hc).trans (if_pos (by rw [hnp]; exact hf))), Inv_same hI⟩
    · have e1 := (sp_V_mark n r f t m hp).trans ((if_pos hc).trans (if_neg hf))
      have ev : (addR (fgN m) 2 r f f t) 133 6 = m 17 9 := by
        rw [addR_o _ _ _ _ _ _ _ (by decide), fgN_o _ _ (by decide)]
        exact hnp
      have e2 := (sp_M_mark n r f t (addR (fgN m) 2 r f f t) (by rw [ev]; exact hp)).trans ((if_pos hc).trans (if_neg (by rw [ev]; exact hf)))
      rw [ev] at e2
      refine ⟨_, _, _, e1, e2, Inv_row hI (hgt := 0) (fun i h1 h2 => fgN_o m i h1) (fun k hk => by rw [fgN_o _ _ (by decide)]) (fun h => by omega) hf (by decide) hc.1 (fun h => by omega) hc.2.1 (fun h => by omega) (fun _ => ⟨rfl, rfl⟩) (fun h => by omega) (NgtC_fg hN ?_ ?_ ?_ ?_)⟩
      · rw [addM_o _ _ _ _ _ _ _ _ (by decide), addR_o _ _ _ _ _ _ _ (by decide)]
        simp (disch := omega) only [fgN, fgP, bwr_ne, bwr_ne2, bwr_eq2]
        exact i32_of (by omega) (by omega)
      · rw [addM_o _ _ _ _ _ _ _ _ (by decide), addR_o _ _ _ _ _ _ _ (by decide)]
        simp (disch := omega) only [fgN, fgP, bwr_ne, bwr_ne2, bwr_eq2]
      · rw [addM_o _ _ _ _ _ _ _ _ (by decide), addR_o _ _ _ _ _ _ _ (by decide)]
        simp (disch := omega) only [fgN, fgP, bwr_ne, bwr_ne2, bwr_eq2]
      · rw [addM_o _ _ _ _ _ _ _ _ (by decide), addR_o _ _ _ _ _ _ _ (by decide), fgN_o _ _ (by decide)]
  · exact ⟨m, m, -1, (sp_V_mark n r f t m hp).trans (if_neg hc), (sp_M_mark n r f t m (by rw [hnp]; exact hp)).trans (if_neg hc), Inv_same hI⟩
