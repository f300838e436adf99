/-! ===== deal: the step itself ===== -/
theorem kOn_congr {m m2 : bM} (h : ∀ i, (i < 124 ∨ i = 128 ∨ i = 129) → m2 i = m i) (s : Nat) : kOn m2 s = kOn m s := by
  unfold kOn
  rw [h 17 (by decide), h 18 (by decide), h 19 (by decide), h 26 (by decide), h 79 (by decide), h 83 (by decide), h 128 (by decide), h 129 (by decide)]
theorem deal_end {i : Nat} {m m2 : bM} (hI : Inv i m) (B : List Int) (hB : B.length ≤ 30) (ho : ∀ i, i ≠ 124 → i ≠ 131 → i ≠ 132 → i ≠ 203 → m2 i = m i) (hM : ∀ j, j ≤ 90 → m2 132 j = m 132 j) (h1 : m2 124 11 = (B.length : Int)) (h2 : m2 132 91 = (B.length : Int)) (h3 : ∀ j, j < B.length → m2 131 j = B.getD j 0) (h4 : ∀ j, j < B.length → m2 203 j = B.getD j 0) : Inv (i + 1) m2 := by
  refine Inv_ht hI (fun i hi => ho i (by omega) (by omega) (by omega) (by omega)) hM ?_
  obtain ⟨v1, v2, v3, v4, v5, v6⟩ := Inv_host hI
  have q : ∀ i, i ≠ 124 → i ≠ 131 → i ≠ 132 → i ≠ 203 → m2 i = m i := ho
  refine ⟨?_, ?_, ?_, ?_, ?_, ?_⟩
  · rw [q 125 (by decide) (by decide) (by decide) (by decide), q 197 (by decide) (by decide) (by decide) (by decide)]; exact v1
  · rw [q 125 (by decide) (by decide) (by decide) (by decide), q 126 (by decide) (by decide) (by decide) (by decide), q 127 (by decide) (by decide) (by decide) (by decide), q 198 (by decide) (by decide) (by decide) (by decide), q 199 (by decide) (by decide) (by decide) (by decide)]; exact v2
  · rw [q 128 (by decide) (by decide) (by decide) (by decide), q 129 (by decide) (by decide) (by decide) (by decide), q 130 (by decide) (by decide) (by decide) (by decide), q 200 (by decide) (by decide) (by decide) (by decide), q 201 (by decide) (by decide) (by decide) (by decide), q 202 (by decide) (by decide) (by decide) (by decide)]; exact v3
  · rw [h1, h2]; exact ⟨rfl, by omega, by omega⟩
  · intro k hk
    rw [h1] at hk
    rw [h3 k (by omega), h4 k (by omega)]
  · rw [q 127 (by decide) (by decide) (by decide) (by decide)]; exact v6
def dKN (m : bM) (k N R A : Int) : Prop := (k ≤ 4 ∧ R = m 19 N.toNat ∧ A = m 20 N.toNat) ∨ (5 ≤ k ∧ R = rcH m N.toNat ∧ A = m 47 (m 81 N.toNat).toNat)
theorem deal_C {i : Nat} {m : bM} (n : Nat) (hI : Inv i m) (s d x k v q N R A : Int) (B : List Int) (D : Nat) (hs : 0 ≤ s ∧ s ≤ 3) (hd : 0 ≤ d ∧ d ≤ 3) (hk : kOn m s.toNat = k) (hk2 : 1 ≤ k ∧ k ≤ 6) (hD : D ≤ 9) (hB : B.length ≤ 30) (hN : m 129 s.toNat = N) (hK : dKN m k N R A) (hr : dRn m k N R A 0 D k d x v q B) : ∃ m1, sem (n + 12) 53 [aR 0, aI s, aI d, aI x] m = some (m1, if ¬ q = 0 then -15 else v) ∧ dH m m1 B k N R A q := by
  have hR := Inv_rel hI
  have hsh := HostOK_shelf (Inv_host hI) s.toNat (by omega)
  have hin := kOn_in (Rel_s hR) s.toNat hsh
  obtain ⟨m0, h0⟩ : ∃ y, y = bwr m 124 11 0 := ⟨_, rfl⟩
  have o0 : ∀ i, i ≠ 124 → m0 i = m i := fun i a => by rw [h0, bwr_ne _ _ a]
  have hR0 : Rel m0 m0 := Rel_congr hR (fun i a b => o0 i (by omega)) (fun i a b => o0 i (by omega))
  have ek := sp_kindOn2 (n + 8) s m0 hs (Rel_s hR0) (by rw [o0 128 (by decide), o0 129 (by decide), o0 130 (by decide), o0 200 (by decide), o0 201 (by decide), o0 202 (by decide)]; exact hsh)
  rw [kOn_congr (fun i a => o0 i (by omega)), hk] at ek
  have hdM : dH m (dM m0 k N R A) [] k N R A 0 := by
    unfold dM
    refine ⟨fun i a b => by rw [bwr_ne _ _ a, bwr_ne _ _ a, bwr_ne _ _ a, bwr_ne _ _ a, bwr_ne _ _ a]; exact o0 i a, ?_, ?_, ?_, ?_, ?_, ?_, fun j hj => absurd hj (Nat.not_lt_zero _)⟩
    · rw [bwr_ne2 _ (by decide), bwr_ne2 _ (by decide), bwr_ne2 _ (by decide), bwr_ne2 _ (by decide), bwr_eq2]
    · rw [bwr_ne2 _ (by decide), bwr_ne2 _ (by decide), bwr_ne2 _ (by decide), bwr_eq2]
    · rw [bwr_ne2 _ (by decide), bwr_ne2 _ (by decide), bwr_eq2]
    · rw [bwr_ne2 _ (by decide), bwr_eq2]
    · rw [bwr_eq2]
    · rw [bwr_ne2 _ (by decide), bwr_ne2 _ (by decide), bwr_ne2 _ (by decide), bwr_ne2 _ (by decide), bwr_ne2 _ (by decide), h0, bwr_eq2]; rfl
  obtain ⟨y, er, hy⟩ := hr (n + (9 - D)) (dM m0 k N R A) [] 0 hdM (by simp only [List.length_nil]; omega) (by decide) (by omega)
  rw [show n + (9 - D) + (D + 1) = n + 10 by omega] at er
  rw [List.nil_append] at hy
  have f0 : 0 ≤ s ∧ s < ((4 : Nat) : Int) := by omega
  have hk0 : ¬ k < 0 := by omega
  have hn0 : m0 129 s.toNat = N := by rw [o0 129 (by decide)]; exact hN
  unfold shelfR at hsh
  refine ⟨y, vd_e (n + 9) m y s d x _ hs hd ?_, hy⟩
  rw [← h0]
  rcases hK with ⟨g1, g2, g3⟩ | ⟨g1, g2, g3⟩
  · have hq : m 128 s.toNat = 1 := by omega
    have f1 : 0 ≤ N ∧ N < ((16 : Nat) : Int) := by omega
    exact dw_1 (n + 10) m0 y s d x k N R A v q _ s.toNat N.toNat ek hk0 f0 rfl hn0 (by rw [o0 128 (by decide)]; exact hq) f1 rfl (by rw [o0 19 (by decide)]; exact g2.symm) (by rw [o0 20 (by decide)]; exact g3.symm) er hy.2.2.2.2.2.1 rfl
  · have hq : m 128 s.toNat = 2 := by omega
    have f1 : 0 ≤ N ∧ N < ((16 : Nat) : Int) := by omega
    have t1 := RelC_rthing (Rel_c hR) N.toNat (by omega)
    have t2 := RelF_rtof (Rel_f hR) (m 81 N.toNat).toNat (by omega)
    have f2 : 0 ≤ m 81 N.toNat ∧ m 81 N.toNat < ((12 : Nat) : Int) := by omega
    have f3 : 0 ≤ m 44 (m 81 N.toNat).toNat ∧ m 44 (m 81 N.toNat).toNat < ((10 : Nat) : Int) := by omega
    exact dw_2 (n + 10) m0 y s d x k N R A v q _ _ _ 2 s.toNat N.toNat _ _ ek hk0 f0 rfl hn0 (by rw [o0 128 (by decide)]; exact hq) (eq_false (by decide)) f1 rfl (by rw [o0 81 (by decide)]) f2 rfl (by rw [o0 44 (by decide)]) f3 rfl (by rw [o0 6 (by decide)]; exact g2.symm) (by rw [o0 47 (by decide)]; exact g3.symm) er hy.2.2.2.2.2.1 rfl
theorem deal_M0 {i : Nat} {m m1 : bM} (n : Nat) (hI : Inv i m) (o1 : ∀ i, i ≠ 124 → i ≠ 131 → m1 i = m i) (s x k v q N R A : Int) (B : List Int) (D : Nat) (hs : 0 ≤ s ∧ s ≤ 3) (hk : kOn m s.toNat = k) (hk2 : 1 ≤ k ∧ k ≤ 6) (hD : D ≤ 10) (hB : B.length ≤ 30) (hN : m 129 s.toNat = N) (hK : dKN m k N R A) (hr : dRm m1 k N R A 0 D 244 x v q B) : ∃ m2, sem (n + 12) 111 [aR 132, aI s, aI 0, aI x] m1 = some (m2, if ¬ q = 0 then -15 else v) ∧ rH m1 m2 B k N R A q := by
  have hR := Inv_rel hI
  have hsh := HostOK_shelf (Inv_host hI) s.toNat (by omega)
  have hin := kOn_in (Rel_s hR) s.toNat hsh
  obtain ⟨m0, h0⟩ : ∃ y, y = bwr m1 132 91 0 := ⟨_, rfl⟩
  have p0 : ∀ i, i ≠ 132 → m0 i = m1 i := fun i a => by rw [h0, bwr_ne _ _ a]
  have o0 : ∀ i, i ≠ 132 ∧ i ≠ 124 ∧ i ≠ 131 → m0 i = m i := fun i a => by rw [p0 i a.1, o1 i a.2.1 a.2.2]
  have hR0 : Rel m0 m0 := Rel_congr hR (fun i a b => o0 i (by omega)) (fun i a b => o0 i (by omega))
  have ek := sp_M_kindOn2 (n + 8) s m0 hs hR0 (by rw [o0 128 (by decide), o0 129 (by decide), o0 130 (by decide), o0 200 (by decide), o0 201 (by decide), o0 202 (by decide)]; exact hsh)
  rw [kOn_congr (fun i a => o0 i (by omega)), hk] at ek
  have hdM : rH m1 (dN m0 k N R A) [] k N R A 0 := by
    unfold dN
    refine ⟨fun i a b => by rw [bwr_ne _ _ a, bwr_ne _ _ a, bwr_ne _ _ a, bwr_ne _ _ a, bwr_ne _ _ a]; exact p0 i a, ?_, ?_, ?_, ?_, ?_, ?_, fun j hj => absurd hj (Nat.not_lt_zero _), fun j hj => ?_⟩
    · rw [bwr_ne2 _ (by decide), bwr_ne2 _ (by decide), bwr_ne2 _ (by decide), bwr_ne2 _ (by decide), bwr_eq2]
    · rw [bwr_ne2 _ (by decide), bwr_ne2 _ (by decide), bwr_ne2 _ (by decide), bwr_eq2]
    · rw [bwr_ne2 _ (by decide), bwr_ne2 _ (by decide), bwr_eq2]
    · rw [bwr_ne2 _ (by decide), bwr_eq2]
    · rw [bwr_eq2]
    · rw [bwr_ne2 _ (by decide), bwr_ne2 _ (by decide), bwr_ne2 _ (by decide), bwr_ne2 _ (by decide), bwr_ne2 _ (by decide), h0, bwr_eq2]; rfl
    · rw [bwr_ne2 _ (by omega), bwr_ne2 _ (by omega), bwr_ne2 _ (by omega), bwr_ne2 _ (by omega), bwr_ne2 _ (by omega), h0, bwr_ne2 _ (by omega)]
  obtain ⟨y, er, hy⟩ := hr (n + (10 - D)) (dN m0 k N R A) [] hdM (by simp only [List.length_nil]; omega)
  rw [show n + (10 - D) + (D + 1) = n + 11 by omega] at er
  rw [List.nil_append] at hy
  have f0 : 0 ≤ s ∧ s < ((4 : Nat) : Int) := by omega
  have hk0 : ¬ k < 0 := by omega
  unfold shelfR at hsh
  refine ⟨y, ?_, hy⟩
  rcases hK with ⟨g1, g2, g3⟩ | ⟨g1, g2, g3⟩
  · have hq : m 128 s.toNat = 1 := by omega
    have f1 : 0 ≤ N ∧ N < ((16 : Nat) : Int) := by omega
    have a1 := RelS_place (Rel_s hR) N.toNat (by omega)
    have a2 := RelS_main (Rel_s hR) N.toNat (by omega)
    exact md_r0 (n + 9) m0 y s x k N R A v q _ s.toNat N.toNat hs ek hk0 (by omega) f0 rfl (by rw [o0 201 (by decide)]; omega) f1 rfl (by rw [o0 142 (by decide), a1]; exact g2.symm) (by rw [o0 143 (by decide), a2]; exact g3.symm) er hy.2.2.2.2.2.1 rfl m1 h0.symm
  · have hq : m 128 s.toNat = 2 := by omega
    have f1 : 0 ≤ N ∧ N < ((16 : Nat) : Int) := by omega
    have t1 := RelC_rthing (Rel_c hR) N.toNat (by omega)
    have a1 := RelC_thing (Rel_c hR) N.toNat (by omega)
    have a2 := RelF_worth (Rel_f hR) (m 81 N.toNat).toNat (by omega)
    have f2 : 0 ≤ m 81 N.toNat ∧ m 81 N.toNat < ((12 : Nat) : Int) := by omega
    have oz : ∀ i, i ≠ 132 → bwr (bwr m0 132 92 k) 132 93 N i = m0 i := fun i a => by rw [bwr_ne _ _ a, bwr_ne _ _ a]
    have eo := sp_reachOf (n + 9) N.toNat (by omega) (bwr (bwr m0 132 92 k) 132 93 N) (Rel_congr hR0 (fun i a b => oz i (by omega)) (fun i a b => oz i (by omega)))
    have ez : rcH (bwr (bwr m0 132 92 k) 132 93 N) N.toNat = R := by
      unfold rcH
      rw [oz 81 (by decide), oz 44 (by decide), oz 6 (by decide), o0 81 (by decide), o0 44 (by decide), o0 6 (by decide), g2]
      rfl
    rw [ez, Int.toNat_of_nonneg f1.1] at eo
    exact md_c0 (n + 9) m0 y s x k N R A v q _ _ s.toNat N.toNat _ hs ek hk0 (by omega) f0 rfl (by rw [o0 201 (by decide)]; omega) f1 rfl eo (by rw [o0 173 (by decide), a1]) f2 rfl (by rw [o0 159 (by decide), a2]; exact g3.symm) er hy.2.2.2.2.2.1 rfl m1 h0.symm
theorem deal_M1 {i : Nat} {m m1 : bM} (n : Nat) (hI : Inv i m) (o1 : ∀ i, i ≠ 124 → i ≠ 131 → m1 i = m i) (s x k v q N R A : Int) (B : List Int) (D : Nat) (hs : 0 ≤ s ∧ s ≤ 3) (hk : kOn m s.toNat = k) (hk2 : 1 ≤ k ∧ k ≤ 6) (hD : D ≤ 10) (hB : B.length ≤ 30) (hN : m 129 s.toNat = N) (hK : dKN m k N R A) (hr : dRm m1 k N R A 0 D 245 x v q B) : ∃ m2, sem (n + 12) 111 [aR 132, aI s, aI 1, aI x] m1 = some (m2, if ¬ q = 0 then -15 else v) ∧ rH m1 m2 B k N R A q := by
  have hR := Inv_rel hI
  have hsh := HostOK_shelf (Inv_host hI) s.toNat (by omega)
  have hin := kOn_in (Rel_s hR) s.toNat hsh
  obtain ⟨m0, h0⟩ : ∃ y, y = bwr m1 132 91 0 := ⟨_, rfl⟩
  have p0 : ∀ i, i ≠ 132 → m0 i = m1 i := fun i a => by rw [h0, bwr_ne _ _ a]
  have o0 : ∀ i, i ≠ 132 ∧ i ≠ 124 ∧ i ≠ 131 → m0 i = m i := fun i a => by rw [p0 i a.1, o1 i a.2.1 a.2.2]
  have hR0 : Rel m0 m0 := Rel_congr hR (fun i a b => o0 i (by omega)) (fun i a b => o0 i (by omega))
  have ek := sp_M_kindOn2 (n + 8) s m0 hs hR0 (by rw [o0 128 (by decide), o0 129 (by decide), o0 130 (by decide), o0 200 (by decide), o0 201 (by decide), o0 202 (by decide)]; exact hsh)
  rw [kOn_congr (fun i a => o0 i (by omega)), hk] at ek
  have hdM : rH m1 (dN m0 k N R A) [] k N R A 0 := by
    unfold dN
    refine ⟨fun i a b => by rw [bwr_ne _ _ a, bwr_ne _ _ a, bwr_ne _ _ a, bwr_ne _ _ a, bwr_ne _ _ a]; exact p0 i a, ?_, ?_, ?_, ?_, ?_, ?_, fun j hj => absurd hj (Nat.not_lt_zero _), fun j hj => ?_⟩
    · rw [bwr_ne2 _ (by decide), bwr_ne2 _ (by decide), bwr_ne2 _ (by decide), bwr_ne2 _ (by decide), bwr_eq2]
    · rw [bwr_ne2 _ (by decide), bwr_ne2 _ (by decide), bwr_ne2 _ (by decide), bwr_eq2]
    · rw [bwr_ne2 _ (by decide), bwr_ne2 _ (by decide), bwr_eq2]
    · rw [bwr_ne2 _ (by decide), bwr_eq2]
    · rw [bwr_eq2]
    · rw [bwr_ne2 _ (by decide), bwr_ne2 _ (by decide), bwr_ne2 _ (by decide), bwr_ne2 _ (by decide), bwr_ne2 _ (by decide), h0, bwr_eq2]; rfl
    · rw [bwr_ne2 _ (by omega), bwr_ne2 _ (by omega), bwr_ne2 _ (by omega), bwr_ne2 _ (by omega), bwr_ne2 _ (by omega), h0, bwr_ne2 _ (by omega)]
  obtain ⟨y, er, hy⟩ := hr (n + (10 - D)) (dN m0 k N R A) [] hdM (by simp only [List.length_nil]; omega)
  rw [show n + (10 - D) + (D + 1) = n + 11 by omega] at er
  rw [List.nil_append] at hy
  have f0 : 0 ≤ s ∧ s < ((4 : Nat) : Int) := by omega
  have hk0 : ¬ k < 0 := by omega
  unfold shelfR at hsh
  refine ⟨y, ?_, hy⟩
  rcases hK with ⟨g1, g2, g3⟩ | ⟨g1, g2, g3⟩
  · have hq : m 128 s.toNat = 1 := by omega
    have f1 : 0 ≤ N ∧ N < ((16 : Nat) : Int) := by omega
    have a1 := RelS_place (Rel_s hR) N.toNat (by omega)
    have a2 := RelS_main (Rel_s hR) N.toNat (by omega)
    exact md_r1 (n + 9) m0 y s x k N R A v q _ s.toNat N.toNat hs ek hk0 (by omega) f0 rfl (by rw [o0 201 (by decide)]; omega) f1 rfl (by rw [o0 142 (by decide), a1]; exact g2.symm) (by rw [o0 143 (by decide), a2]; exact g3.symm) er hy.2.2.2.2.2.1 rfl m1 h0.symm
  · have hq : m 128 s.toNat = 2 := by omega
    have f1 : 0 ≤ N ∧ N < ((16 : Nat) : Int) := by omega
    have t1 := RelC_rthing (Rel_c hR) N.toNat (by omega)
    have a1 := RelC_thing (Rel_c hR) N.toNat (by omega)
    have a2 := RelF_worth (Rel_f hR) (m 81 N.toNat).toNat (by omega)
    have f2 : 0 ≤ m 81 N.toNat ∧ m 81 N.toNat < ((12 : Nat) : Int) := by omega
    have oz : ∀ i, i ≠ 132 → bwr (bwr m0 132 92 k) 132 93 N i = m0 i := fun i a => by rw [bwr_ne _ _ a, bwr_ne _ _ a]
    have eo := sp_reachOf (n + 9) N.toNat (by omega) (bwr (bwr m0 132 92 k) 132 93 N) (Rel_congr hR0 (fun i a b => oz i (by omega)) (fun i a b => oz i (by omega)))
    have ez : rcH (bwr (bwr m0 132 92 k) 132 93 N) N.toNat = R := by
      unfold rcH
      rw [oz 81 (by decide), oz 44 (by decide), oz 6 (by decide), o0 81 (by decide), o0 44 (by decide), o0 6 (by decide), g2]
      rfl
    rw [ez, Int.toNat_of_nonneg f1.1] at eo
    exact md_c1 (n + 9) m0 y s x k N R A v q _ _ s.toNat N.toNat _ hs ek hk0 (by omega) f0 rfl (by rw [o0 201 (by decide)]; omega) f1 rfl eo (by rw [o0 173 (by decide), a1]) f2 rfl (by rw [o0 159 (by decide), a2]; exact g3.symm) er hy.2.2.2.2.2.1 rfl m1 h0.symm
theorem deal_M2 {i : Nat} {m m1 : bM} (n : Nat) (hI : Inv i m) (o1 : ∀ i, i ≠ 124 → i ≠ 131 → m1 i = m i) (s x k v q N R A : Int) (B : List Int) (D : Nat) (hs : 0 ≤ s ∧ s ≤ 3) (hk : kOn m s.toNat = k) (hk2 : 1 ≤ k ∧ k ≤ 6) (hD : D ≤ 10) (hB : B.length ≤ 30) (hN : m 129 s.toNat = N) (hK : dKN m k N R A) (hr : dRm m1 k N R A 0 D 246 x v q B) : ∃ m2, sem (n + 12) 111 [aR 132, aI s, aI 2, aI x] m1 = some (m2, if ¬ q = 0 then -15 else v) ∧ rH m1 m2 B k N R A q := by
  have hR := Inv_rel hI
  have hsh := HostOK_shelf (Inv_host hI) s.toNat (by omega)
  have hin := kOn_in (Rel_s hR) s.toNat hsh
  obtain ⟨m0, h0⟩ : ∃ y, y = bwr m1 132 91 0 := ⟨_, rfl⟩
  have p0 : ∀ i, i ≠ 132 → m0 i = m1 i := fun i a => by rw [h0, bwr_ne _ _ a]
  have o0 : ∀ i, i ≠ 132 ∧ i ≠ 124 ∧ i ≠ 131 → m0 i = m i := fun i a => by rw [p0 i a.1, o1 i a.2.1 a.2.2]
  have hR0 : Rel m0 m0 := Rel_congr hR (fun i a b => o0 i (by omega)) (fun i a b => o0 i (by omega))
  have ek := sp_M_kindOn2 (n + 8) s m0 hs hR0 (by rw [o0 128 (by decide), o0 129 (by decide), o0 130 (by decide), o0 200 (by decide), o0 201 (by decide), o0 202 (by decide)]; exact hsh)
  rw [kOn_congr (fun i a => o0 i (by omega)), hk] at ek
  have hdM : rH m1 (dN m0 k N R A) [] k N R A 0 := by
    unfold dN
    refine ⟨fun i a b => by rw [bwr_ne _ _ a, bwr_ne _ _ a, bwr_ne _ _ a, bwr_ne _ _ a, bwr_ne _ _ a]; exact p0 i a, ?_, ?_, ?_, ?_, ?_, ?_, fun j hj => absurd hj (Nat.not_lt_zero _), fun j hj => ?_⟩
    · rw [bwr_ne2 _ (by decide), bwr_ne2 _ (by decide), bwr_ne2 _ (by decide), bwr_ne2 _ (by decide), bwr_eq2]
    · rw [bwr_ne2 _ (by decide), bwr_ne2 _ (by decide), bwr_ne2 _ (by decide), bwr_eq2]
    · rw [bwr_ne2 _ (by decide), bwr_ne2 _ (by decide), bwr_eq2]
    · rw [bwr_ne2 _ (by decide), bwr_eq2]
    · rw [bwr_eq2]
    · rw [bwr_ne2 _ (by decide), bwr_ne2 _ (by decide), bwr_ne2 _ (by decide), bwr_ne2 _ (by decide), bwr_ne2 _ (by decide), h0, bwr_eq2]; rfl
    · rw [bwr_ne2 _ (by omega), bwr_ne2 _ (by omega), bwr_ne2 _ (by omega), bwr_ne2 _ (by omega), bwr_ne2 _ (by omega), h0, bwr_ne2 _ (by omega)]
  obtain ⟨y, er, hy⟩ := hr (n + (10 - D)) (dN m0 k N R A) [] hdM (by simp only [List.length_nil]; omega)
  rw [show n + (10 - D) + (D + 1) = n + 11 by omega] at er
  rw [List.nil_append] at hy
  have f0 : 0 ≤ s ∧ s < ((4 : Nat) : Int) := by omega
  have hk0 : ¬ k < 0 := by omega
  unfold shelfR at hsh
  refine ⟨y, ?_, hy⟩
  rcases hK with ⟨g1, g2, g3⟩ | ⟨g1, g2, g3⟩
  · have hq : m 128 s.toNat = 1 := by omega
    have f1 : 0 ≤ N ∧ N < ((16 : Nat) : Int) := by omega
    have a1 := RelS_place (Rel_s hR) N.toNat (by omega)
    have a2 := RelS_main (Rel_s hR) N.toNat (by omega)
    exact md_r2 (n + 9) m0 y s x k N R A v q _ s.toNat N.toNat hs ek hk0 (by omega) f0 rfl (by rw [o0 201 (by decide)]; omega) f1 rfl (by rw [o0 142 (by decide), a1]; exact g2.symm) (by rw [o0 143 (by decide), a2]; exact g3.symm) er hy.2.2.2.2.2.1 rfl m1 h0.symm
  · have hq : m 128 s.toNat = 2 := by omega
    have f1 : 0 ≤ N ∧ N < ((16 : Nat) : Int) := by omega
    have t1 := RelC_rthing (Rel_c hR) N.toNat (by omega)
    have a1 := RelC_thing (Rel_c hR) N.toNat (by omega)
    have a2 := RelF_worth (Rel_f hR) (m 81 N.toNat).toNat (by omega)
    have f2 : 0 ≤ m 81 N.toNat ∧ m 81 N.toNat < ((12 : Nat) : Int) := by omega
    have oz : ∀ i, i ≠ 132 → bwr (bwr m0 132 92 k) 132 93 N i = m0 i := fun i a => by rw [bwr_ne _ _ a, bwr_ne _ _ a]
    have eo := sp_reachOf (n + 9) N.toNat (by omega) (bwr (bwr m0 132 92 k) 132 93 N) (Rel_congr hR0 (fun i a b => oz i (by omega)) (fun i a b => oz i (by omega)))
    have ez : rcH (bwr (bwr m0 132 92 k) 132 93 N) N.toNat = R := by
      unfold rcH
      rw [oz 81 (by decide), oz 44 (by decide), oz 6 (by decide), o0 81 (by decide), o0 44 (by decide), o0 6 (by decide), g2]
      rfl
    rw [ez, Int.toNat_of_nonneg f1.1] at eo
    exact md_c2 (n + 9) m0 y s x k N R A v q _ _ s.toNat N.toNat _ hs ek hk0 (by omega) f0 rfl (by rw [o0 201 (by decide)]; omega) f1 rfl eo (by rw [o0 173 (by decide), a1]) f2 rfl (by rw [o0 159 (by decide), a2]; exact g3.symm) er hy.2.2.2.2.2.1 rfl m1 h0.symm
theorem deal_M3 {i : Nat} {m m1 : bM} (n : Nat) (hI : Inv i m) (o1 : ∀ i, i ≠ 124 → i ≠ 131 → m1 i = m i) (s x k v q N R A : Int) (B : List Int) (D : Nat) (hs : 0 ≤ s ∧ s ≤ 3) (hk : kOn m s.toNat = k) (hk2 : 1 ≤ k ∧ k ≤ 6) (hD : D ≤ 10) (hB : B.length ≤ 30) (hN : m 129 s.toNat = N) (hK : dKN m k N R A) (hr : dRm m1 k N R A 0 D 247 x v q B) : ∃ m2, sem (n + 12) 111 [aR 132, aI s, aI 3, aI x] m1 = some (m2, if ¬ q = 0 then -15 else v) ∧ rH m1 m2 B k N R A q := by
  have hR := Inv_rel hI
  have hsh := HostOK_shelf (Inv_host hI) s.toNat (by omega)
  have hin := kOn_in (Rel_s hR) s.toNat hsh
  obtain ⟨m0, h0⟩ : ∃ y, y = bwr m1 132 91 0 := ⟨_, rfl⟩
  have p0 : ∀ i, i ≠ 132 → m0 i = m1 i := fun i a => by rw [h0, bwr_ne _ _ a]
  have o0 : ∀ i, i ≠ 132 ∧ i ≠ 124 ∧ i ≠ 131 → m0 i = m i := fun i a => by rw [p0 i a.1, o1 i a.2.1 a.2.2]
  have hR0 : Rel m0 m0 := Rel_congr hR (fun i a b => o0 i (by omega)) (fun i a b => o0 i (by omega))
  have ek := sp_M_kindOn2 (n + 8) s m0 hs hR0 (by rw [o0 128 (by decide), o0 129 (by decide), o0 130 (by decide), o0 200 (by decide), o0 201 (by decide), o0 202 (by decide)]; exact hsh)
  rw [kOn_congr (fun i a => o0 i (by omega)), hk] at ek
  have hdM : rH m1 (dN m0 k N R A) [] k N R A 0 := by
    unfold dN
    refine ⟨fun i a b => by rw [bwr_ne _ _ a, bwr_ne _ _ a, bwr_ne _ _ a, bwr_ne _ _ a, bwr_ne _ _ a]; exact p0 i a, ?_, ?_, ?_, ?_, ?_, ?_, fun j hj => absurd hj (Nat.not_lt_zero _), fun j hj => ?_⟩
    · rw [bwr_ne2 _ (by decide), bwr_ne2 _ (by decide), bwr_ne2 _ (by decide), bwr_ne2 _ (by decide), bwr_eq2]
    · rw [bwr_ne2 _ (by decide), bwr_ne2 _ (by decide), bwr_ne2 _ (by decide), bwr_eq2]
    · rw [bwr_ne2 _ (by decide), bwr_ne2 _ (by decide), bwr_eq2]
    · rw [bwr_ne2 _ (by decide), bwr_eq2]
    · rw [bwr_eq2]
    · rw [bwr_ne2 _ (by decide), bwr_ne2 _ (by decide), bwr_ne2 _ (by decide), bwr_ne2 _ (by decide), bwr_ne2 _ (by decide), h0, bwr_eq2]; rfl
    · rw [bwr_ne2 _ (by omega), bwr_ne2 _ (by omega), bwr_ne2 _ (by omega), bwr_ne2 _ (by omega), bwr_ne2 _ (by omega), h0, bwr_ne2 _ (by omega)]
  obtain ⟨y, er, hy⟩ := hr (n + (10 - D)) (dN m0 k N R A) [] hdM (by simp only [List.length_nil]; omega)
  rw [show n + (10 - D) + (D + 1) = n + 11 by omega] at er
  rw [List.nil_append] at hy
  have f0 : 0 ≤ s ∧ s < ((4 : Nat) : Int) := by omega
  have hk0 : ¬ k < 0 := by omega
  unfold shelfR at hsh
  refine ⟨y, ?_, hy⟩
  rcases hK with ⟨g1, g2, g3⟩ | ⟨g1, g2, g3⟩
  · have hq : m 128 s.toNat = 1 := by omega
    have f1 : 0 ≤ N ∧ N < ((16 : Nat) : Int) := by omega
    have a1 := RelS_place (Rel_s hR) N.toNat (by omega)
    have a2 := RelS_main (Rel_s hR) N.toNat (by omega)
    exact md_r3 (n + 9) m0 y s x k N R A v q _ s.toNat N.toNat hs ek hk0 (by omega) f0 rfl (by rw [o0 201 (by decide)]; omega) f1 rfl (by rw [o0 142 (by decide), a1]; exact g2.symm) (by rw [o0 143 (by decide), a2]; exact g3.symm) er hy.2.2.2.2.2.1 rfl m1 h0.symm
  · have hq : m 128 s.toNat = 2 := by omega
    have f1 : 0 ≤ N ∧ N < ((16 : Nat) : Int) := by omega
    have t1 := RelC_rthing (Rel_c hR) N.toNat (by omega)
    have a1 := RelC_thing (Rel_c hR) N.toNat (by omega)
    have a2 := RelF_worth (Rel_f hR) (m 81 N.toNat).toNat (by omega)
    have f2 : 0 ≤ m 81 N.toNat ∧ m 81 N.toNat < ((12 : Nat) : Int) := by omega
    have oz : ∀ i, i ≠ 132 → bwr (bwr m0 132 92 k) 132 93 N i = m0 i := fun i a => by rw [bwr_ne _ _ a, bwr_ne _ _ a]
    have eo := sp_reachOf (n + 9) N.toNat (by omega) (bwr (bwr m0 132 92 k) 132 93 N) (Rel_congr hR0 (fun i a b => oz i (by omega)) (fun i a b => oz i (by omega)))
    have ez : rcH (bwr (bwr m0 132 92 k) 132 93 N) N.toNat = R := by
      unfold rcH
      rw [oz 81 (by decide), oz 44 (by decide), oz 6 (by decide), o0 81 (by decide), o0 44 (by decide), o0 6 (by decide), g2]
      rfl
    rw [ez, Int.toNat_of_nonneg f1.1] at eo
    exact md_c3 (n + 9) m0 y s x k N R A v q _ _ s.toNat N.toNat _ hs ek hk0 (by omega) f0 rfl (by rw [o0 201 (by decide)]; omega) f1 rfl eo (by rw [o0 173 (by decide), a1]) f2 rfl (by rw [o0 159 (by decide), a2]; exact g3.symm) er hy.2.2.2.2.2.1 rfl m1 h0.symm
theorem deal_two {i : Nat} {m m1 m2 : bM} (hI : Inv i m) {B : List Int} (hB : B.length ≤ 30) {k N R A p k2 N2 R2 A2 p2 : Int} (h1 : dH m m1 B k N R A p) (h2 : rH m1 m2 B k2 N2 R2 A2 p2) : Inv (i + 1) m2 := by
  obtain ⟨a1, a2, a3, a4, a5, a6, a7, a8⟩ := h1
  obtain ⟨b1, b2, b3, b4, b5, b6, b7, b8, b9⟩ := h2
  exact deal_end hI B hB (fun i x y z u => by rw [b1 i z u, a1 i x y]) (fun j hj => by rw [b9 j hj, a1 132 (by decide) (by decide)]) (by rw [b1 124 (by decide) (by decide)]; exact a7) b7 (fun j hj => by rw [b1 131 (by decide) (by decide)]; exact a8 j hj) b8
theorem step_deal {n i : Nat} {m : bM} (hI : Inv i m) (hi : i < 100) (s d x : Int) : ∃ m1 m2 v, sem (n + 12) 53 [aR 0, aI s, aI d, aI x] m = some (m1, v) ∧ sem (n + 12) 111 [aR 132, aI s, aI d, aI x] m1 = some (m2, v) ∧ Inv (i + 1) m2 := by
  by_cases hc : (0 ≤ s ∧ s ≤ 3) ∧ 0 ≤ d ∧ d ≤ 3
  · obtain ⟨hs, hd⟩ := hc
    have hR := Inv_rel hI
    have hsh := HostOK_shelf (Inv_host hI) s.toNat (by omega)
    have hin := kOn_in (Rel_s hR) s.toNat hsh
    rcases hin with hk | ⟨q1, q2, q3⟩
    · obtain ⟨m0, h0⟩ : ∃ y, y = bwr m 124 11 0 := ⟨_, rfl⟩
      have o0 : ∀ i, i ≠ 124 → m0 i = m i := fun i a => by rw [h0, bwr_ne _ _ a]
      have hR0 : Rel m0 m0 := Rel_congr hR (fun i a b => o0 i (by omega)) (fun i a b => o0 i (by omega))
      have ek := sp_kindOn2 (n + 8) s m0 hs (Rel_s hR0) (by rw [o0 128 (by decide), o0 129 (by decide), o0 130 (by decide), o0 200 (by decide), o0 201 (by decide), o0 202 (by decide)]; exact hsh)
      rw [kOn_congr (fun i a => o0 i (by omega)), hk] at ek
      have ed := dw_0 (n + 10) m0 s d x (-1) ek (by decide)
      obtain ⟨m1, h1⟩ : ∃ y, y = bwr m0 124 12 (-1) := ⟨_, rfl⟩
      rw [← h1] at ed
      have ev := vd_e (n + 9) m m1 s d x 0 hs hd (by rw [← h0]; exact ed)
      obtain ⟨m2, h2⟩ : ∃ y, y = bwr m1 132 91 0 := ⟨_, rfl⟩
      have o2 : ∀ i, i ≠ 124 → i ≠ 132 → m2 i = m i := fun i a b => by rw [h2, bwr_ne _ _ b, h1, bwr_ne _ _ a]; exact o0 i a
      have hR2 : Rel m2 m2 := Rel_congr hR (fun i a b => o2 i (by omega) (by omega)) (fun i a b => o2 i (by omega) (by omega))
      have ek2 := sp_M_kindOn2 (n + 8) s m2 hs hR2 (by rw [o2 128 (by decide) (by decide), o2 129 (by decide) (by decide), o2 130 (by decide) (by decide), o2 200 (by decide) (by decide), o2 201 (by decide) (by decide), o2 202 (by decide) (by decide)]; exact hsh)
      rw [kOn_congr (fun i a => o2 i (by omega) (by omega)), hk, h2] at ek2
      refine ⟨m1, m2, 0, ev, by rw [h2]; exact md_0 (n + 9) m1 s d x (-1) hs hd ek2 (by decide), ?_⟩
      refine deal_end hI [] (by decide) (fun i a b c e => o2 i a c) (fun j hj => ?_) ?_ ?_ (fun j hj => absurd hj (Nat.not_lt_zero _)) (fun j hj => absurd hj (Nat.not_lt_zero _))
      · rw [h2, bwr_ne2 _ (by omega), h1, bwr_ne _ _ (by decide), o0 132 (by decide)]
      · rw [h2, bwr_ne _ _ (by decide), h1, bwr_ne2 _ (by decide), h0, bwr_eq2]; rfl
      · rw [h2, bwr_eq2]; rfl
    · obtain ⟨N, hN⟩ : ∃ N, m 129 s.toNat = N := ⟨_, rfl⟩
      obtain ⟨k, hk⟩ : ∃ k, kOn m s.toNat = k := ⟨_, rfl⟩
      rw [hN, hk] at q3
      rw [hk] at q1 q2
      have hN2 : 0 ≤ N ∧ N ≤ 999 := by unfold shelfR at hsh; rw [hN] at hsh; omega
      have hN3 : N.toNat < 16 := by unfold shelfR at hsh; rw [hN] at hsh; omega
      obtain ⟨R, A, hK, hR2⟩ : ∃ R A, dKN m k N R A ∧ 0 ≤ R ∧ R ≤ 999 := by
        by_cases z : k ≤ 4
        · have := RelS_rplace (Rel_s hR) N.toNat hN3
          exact ⟨_, _, Or.inl ⟨z, rfl, rfl⟩, by omega, by omega⟩
        · have t1 := RelC_rthing (Rel_c hR) N.toNat hN3
          have t2 := RelF_rtof (Rel_f hR) (m 81 N.toNat).toNat (by omega)
          have t3 := RelV_rhAt (Rel_v hR) (m 44 (m 81 N.toNat).toNat).toNat (by omega)
          exact ⟨_, _, Or.inr ⟨by omega, rfl, rfl⟩, by unfold rcH; omega, by unfold rcH; omega⟩
      have hd4 : d = 0 ∨ d = 1 ∨ d = 2 ∨ d = 3 := by omega
      have hk6 : k = 1 ∨ k = 2 ∨ k = 3 ∨ k = 4 ∨ k = 5 ∨ k = 6 := by omega
      have g10 : k = 1 → d = 0 → ∃ m1 m2 v, sem (n + 12) 53 [aR 0, aI s, aI d, aI x] m = some (m1, v) ∧ sem (n + 12) 111 [aR 132, aI s, aI d, aI x] m1 = some (m2, v) ∧ Inv (i + 1) m2 := by
        intro a b
        subst a b
        obtain ⟨m1, e1, h1⟩ := deal_C n hI s 0 x 1 _ _ N R A _ _ hs hd hk (by decide) (by decide) (by decide) hN hK (cF_1 x)
        obtain ⟨m2, e2, h2⟩ := deal_M0 n hI h1.1 s x 1 _ _ N R A _ _ hs hk (by decide) (by decide) (by decide) hN hK (rF_1 x)
        exact ⟨m1, m2, _, e1, e2, deal_two hI (by decide) h1 h2⟩
      have g11 : k = 1 → d = 1 → ∃ m1 m2 v, sem (n + 12) 53 [aR 0, aI s, aI d, aI x] m = some (m1, v) ∧ sem (n + 12) 111 [aR 132, aI s, aI d, aI x] m1 = some (m2, v) ∧ Inv (i + 1) m2 := by
        intro a b
        subst a b
        obtain ⟨m1, e1, h1⟩ := deal_C n hI s 1 x 1 _ _ N R A _ _ hs hd hk (by decide) (by decide) (by decide) hN hK (cP_1 x)
        obtain ⟨m2, e2, h2⟩ := deal_M1 n hI h1.1 s x 1 _ _ N R A _ _ hs hk (by decide) (by decide) (by decide) hN hK (rP_1 x)
        exact ⟨m1, m2, _, e1, e2, deal_two hI (by decide) h1 h2⟩
      have g12 : k = 1 → d = 2 → ∃ m1 m2 v, sem (n + 12) 53 [aR 0, aI s, aI d, aI x] m = some (m1, v) ∧ sem (n + 12) 111 [aR 132, aI s, aI d, aI x] m1 = some (m2, v) ∧ Inv (i + 1) m2 := by
        intro a b
        subst a b
        obtain ⟨m1, e1, h1⟩ := deal_C n hI s 2 x 1 _ _ N R A _ _ hs hd hk (by decide) (by decide) (by decide) hN hK (cH_1 x)
        obtain ⟨m2, e2, h2⟩ := deal_M2 n hI h1.1 s x 1 _ _ N R A _ _ hs hk (by decide) (by decide) (by decide) hN hK (rH_1 x)
        exact ⟨m1, m2, _, e1, e2, deal_two hI (by decide) h1 h2⟩
      have g13 : k = 1 → d = 3 → ∃ m1 m2 v, sem (n + 12) 53 [aR 0, aI s, aI d, aI x] m = some (m1, v) ∧ sem (n + 12) 111 [aR 132, aI s, aI d, aI x] m1 = some (m2, v) ∧ Inv (i + 1) m2 := by
        intro a b
        subst a b
        obtain ⟨m1, e1, h1⟩ := deal_C n hI s 3 x 1 _ _ N R A _ _ hs hd hk (by decide) (by decide) (by decide) hN hK (cT_1 x hN2 hR2)
        obtain ⟨m2, e2, h2⟩ := deal_M3 n hI h1.1 s x 1 _ _ N R A _ _ hs hk (by decide) (by decide) (by decide) hN hK (rT_1 x hN2 hR2 rfl)
        exact ⟨m1, m2, _, e1, e2, deal_two hI (by decide) h1 h2⟩
      have g20 : k = 2 → d = 0 → ∃ m1 m2 v, sem (n + 12) 53 [aR 0, aI s, aI d, aI x] m = some (m1, v) ∧ sem (n + 12) 111 [aR 132, aI s, aI d, aI x] m1 = some (m2, v) ∧ Inv (i + 1) m2 := by
        intro a b
        subst a b
        obtain ⟨m1, e1, h1⟩ := deal_C n hI s 0 x 2 _ _ N R A _ _ hs hd hk (by decide) (by decide) (by decide) hN hK (cF_2 x)
        obtain ⟨m2, e2, h2⟩ := deal_M0 n hI h1.1 s x 2 _ _ N R A _ _ hs hk (by decide) (by decide) (by decide) hN hK (rF_2 x)
        exact ⟨m1, m2, _, e1, e2, deal_two hI (by decide) h1 h2⟩
      have g21 : k = 2 → d = 1 → ∃ m1 m2 v, sem (n + 12) 53 [aR 0, aI s, aI d, aI x] m = some (m1, v) ∧ sem (n + 12) 111 [aR 132, aI s, aI d, aI x] m1 = some (m2, v) ∧ Inv (i + 1) m2 := by
        intro a b
        subst a b
        obtain ⟨m1, e1, h1⟩ := deal_C n hI s 1 x 2 _ _ N R A _ _ hs hd hk (by decide) (by decide) (by decide) hN hK (cP_2 x)
        obtain ⟨m2, e2, h2⟩ := deal_M1 n hI h1.1 s x 2 _ _ N R A _ _ hs hk (by decide) (by decide) (by decide) hN hK (rP_2 x)
        exact ⟨m1, m2, _, e1, e2, deal_two hI (by decide) h1 h2⟩
      have g22 : k = 2 → d = 2 → ∃ m1 m2 v, sem (n + 12) 53 [aR 0, aI s, aI d, aI x] m = some (m1, v) ∧ sem (n + 12) 111 [aR 132, aI s, aI d, aI x] m1 = some (m2, v) ∧ Inv (i + 1) m2 := by
        intro a b
        subst a b
        obtain ⟨m1, e1, h1⟩ := deal_C n hI s 2 x 2 _ _ N R A _ _ hs hd hk (by decide) (by decide) (by decide) hN hK (cH_2 x)
        obtain ⟨m2, e2, h2⟩ := deal_M2 n hI h1.1 s x 2 _ _ N R A _ _ hs hk (by decide) (by decide) (by decide) hN hK (rH_2 x)
        exact ⟨m1, m2, _, e1, e2, deal_two hI (by decide) h1 h2⟩
      have g23 : k = 2 → d = 3 → ∃ m1 m2 v, sem (n + 12) 53 [aR 0, aI s, aI d, aI x] m = some (m1, v) ∧ sem (n + 12) 111 [aR 132, aI s, aI d, aI x] m1 = some (m2, v) ∧ Inv (i + 1) m2 := by
        intro a b
        subst a b
        obtain ⟨m1, e1, h1⟩ := deal_C n hI s 3 x 2 _ _ N R A _ _ hs hd hk (by decide) (by decide) (by decide) hN hK (cT_2 x hN2 hR2)
        obtain ⟨m2, e2, h2⟩ := deal_M3 n hI h1.1 s x 2 _ _ N R A _ _ hs hk (by decide) (by decide) (by decide) hN hK (rT_2 x hN2 hR2 rfl)
        exact ⟨m1, m2, _, e1, e2, deal_two hI (by decide) h1 h2⟩
      have g30 : k = 3 → d = 0 → ∃ m1 m2 v, sem (n + 12) 53 [aR 0, aI s, aI d, aI x] m = some (m1, v) ∧ sem (n + 12) 111 [aR 132, aI s, aI d, aI x] m1 = some (m2, v) ∧ Inv (i + 1) m2 := by
        intro a b
        subst a b
        obtain ⟨m1, e1, h1⟩ := deal_C n hI s 0 x 3 _ _ N R A _ _ hs hd hk (by decide) (by decide) (by decide) hN hK (cF_3 x)
        obtain ⟨m2, e2, h2⟩ := deal_M0 n hI h1.1 s x 3 _ _ N R A _ _ hs hk (by decide) (by decide) (by decide) hN hK (rF_3 x)
        exact ⟨m1, m2, _, e1, e2, deal_two hI (by decide) h1 h2⟩
      have g31 : k = 3 → d = 1 → ∃ m1 m2 v, sem (n + 12) 53 [aR 0, aI s, aI d, aI x] m = some (m1, v) ∧ sem (n + 12) 111 [aR 132, aI s, aI d, aI x] m1 = some (m2, v) ∧ Inv (i + 1) m2 := by
        intro a b
        subst a b
        obtain ⟨m1, e1, h1⟩ := deal_C n hI s 1 x 3 _ _ N R A _ _ hs hd hk (by decide) (by decide) (by decide) hN hK (cP_3 x)
        obtain ⟨m2, e2, h2⟩ := deal_M1 n hI h1.1 s x 3 _ _ N R A _ _ hs hk (by decide) (by decide) (by decide) hN hK (rP_3 x)
        exact ⟨m1, m2, _, e1, e2, deal_two hI (by decide) h1 h2⟩
      have g32 : k = 3 → d = 2 → ∃ m1 m2 v, sem (n + 12) 53 [aR 0, aI s, aI d, aI x] m = some (m1, v) ∧ sem (n + 12) 111 [aR 132, aI s, aI d, aI x] m1 = some (m2, v) ∧ Inv (i + 1) m2 := by
        intro a b
        subst a b
        obtain ⟨m1, e1, h1⟩ := deal_C n hI s 2 x 3 _ _ N R A _ _ hs hd hk (by decide) (by decide) (by decide) hN hK (cH_3 x)
        obtain ⟨m2, e2, h2⟩ := deal_M2 n hI h1.1 s x 3 _ _ N R A _ _ hs hk (by decide) (by decide) (by decide) hN hK (rH_3 x)
        exact ⟨m1, m2, _, e1, e2, deal_two hI (by decide) h1 h2⟩
      have g33 : k = 3 → d = 3 → ∃ m1 m2 v, sem (n + 12) 53 [aR 0, aI s, aI d, aI x] m = some (m1, v) ∧ sem (n + 12) 111 [aR 132, aI s, aI d, aI x] m1 = some (m2, v) ∧ Inv (i + 1) m2 := by
        intro a b
        subst a b
        obtain ⟨m1, e1, h1⟩ := deal_C n hI s 3 x 3 _ _ N R A _ _ hs hd hk (by decide) (by decide) (by decide) hN hK (cT_3 x hN2 hR2)
        obtain ⟨m2, e2, h2⟩ := deal_M3 n hI h1.1 s x 3 _ _ N R A _ _ hs hk (by decide) (by decide) (by decide) hN hK (rT_3 x hN2 hR2 rfl)
        exact ⟨m1, m2, _, e1, e2, deal_two hI (by decide) h1 h2⟩
      have g40 : k = 4 → d = 0 → ∃ m1 m2 v, sem (n + 12) 53 [aR 0, aI s, aI d, aI x] m = some (m1, v) ∧ sem (n + 12) 111 [aR 132, aI s, aI d, aI x] m1 = some (m2, v) ∧ Inv (i + 1) m2 := by
        intro a b
        subst a b
        obtain ⟨m1, e1, h1⟩ := deal_C n hI s 0 x 4 _ _ N R A _ _ hs hd hk (by decide) (by decide) (by decide) hN hK (cF_4 x)
        obtain ⟨m2, e2, h2⟩ := deal_M0 n hI h1.1 s x 4 _ _ N R A _ _ hs hk (by decide) (by decide) (by decide) hN hK (rF_4 x)
        exact ⟨m1, m2, _, e1, e2, deal_two hI (by decide) h1 h2⟩
      have g41 : k = 4 → d = 1 → ∃ m1 m2 v, sem (n + 12) 53 [aR 0, aI s, aI d, aI x] m = some (m1, v) ∧ sem (n + 12) 111 [aR 132, aI s, aI d, aI x] m1 = some (m2, v) ∧ Inv (i + 1) m2 := by
        intro a b
        subst a b
        obtain ⟨m1, e1, h1⟩ := deal_C n hI s 1 x 4 _ _ N R A _ _ hs hd hk (by decide) (by decide) (by decide) hN hK (cP_4 x)
        obtain ⟨m2, e2, h2⟩ := deal_M1 n hI h1.1 s x 4 _ _ N R A _ _ hs hk (by decide) (by decide) (by decide) hN hK (rP_4 x)
        exact ⟨m1, m2, _, e1, e2, deal_two hI (by decide) h1 h2⟩
      have g42 : k = 4 → d = 2 → ∃ m1 m2 v, sem (n + 12) 53 [aR 0, aI s, aI d, aI x] m = some (m1, v) ∧ sem (n + 12) 111 [aR 132, aI s, aI d, aI x] m1 = some (m2, v) ∧ Inv (i + 1) m2 := by
        intro a b
        subst a b
        obtain ⟨m1, e1, h1⟩ := deal_C n hI s 2 x 4 _ _ N R A _ _ hs hd hk (by decide) (by decide) (by decide) hN hK (cH_4 x)
        obtain ⟨m2, e2, h2⟩ := deal_M2 n hI h1.1 s x 4 _ _ N R A _ _ hs hk (by decide) (by decide) (by decide) hN hK (rH_4 x)
        exact ⟨m1, m2, _, e1, e2, deal_two hI (by decide) h1 h2⟩
      have g43 : k = 4 → d = 3 → ∃ m1 m2 v, sem (n + 12) 53 [aR 0, aI s, aI d, aI x] m = some (m1, v) ∧ sem (n + 12) 111 [aR 132, aI s, aI d, aI x] m1 = some (m2, v) ∧ Inv (i + 1) m2 := by
        intro a b
        subst a b
        obtain ⟨m1, e1, h1⟩ := deal_C n hI s 3 x 4 _ _ N R A _ _ hs hd hk (by decide) (by decide) (by decide) hN hK (cT_4 x hN2 hR2)
        obtain ⟨m2, e2, h2⟩ := deal_M3 n hI h1.1 s x 4 _ _ N R A _ _ hs hk (by decide) (by decide) (by decide) hN hK (rT_4 x hN2 hR2 rfl)
        exact ⟨m1, m2, _, e1, e2, deal_two hI (by decide) h1 h2⟩
      have g50 : k = 5 → d = 0 → ∃ m1 m2 v, sem (n + 12) 53 [aR 0, aI s, aI d, aI x] m = some (m1, v) ∧ sem (n + 12) 111 [aR 132, aI s, aI d, aI x] m1 = some (m2, v) ∧ Inv (i + 1) m2 := by
        intro a b
        subst a b
        obtain ⟨m1, e1, h1⟩ := deal_C n hI s 0 x 5 _ _ N R A _ _ hs hd hk (by decide) (by decide) (by decide) hN hK (cF_5 x)
        obtain ⟨m2, e2, h2⟩ := deal_M0 n hI h1.1 s x 5 _ _ N R A _ _ hs hk (by decide) (by decide) (by decide) hN hK (rF_5 x)
        exact ⟨m1, m2, _, e1, e2, deal_two hI (by decide) h1 h2⟩
      have g51 : k = 5 → d = 1 → ∃ m1 m2 v, sem (n + 12) 53 [aR 0, aI s, aI d, aI x] m = some (m1, v) ∧ sem (n + 12) 111 [aR 132, aI s, aI d, aI x] m1 = some (m2, v) ∧ Inv (i + 1) m2 := by
        intro a b
        subst a b
        obtain ⟨m1, e1, h1⟩ := deal_C n hI s 1 x 5 _ _ N R A _ _ hs hd hk (by decide) (by decide) (by decide) hN hK (cP_5 x)
        obtain ⟨m2, e2, h2⟩ := deal_M1 n hI h1.1 s x 5 _ _ N R A _ _ hs hk (by decide) (by decide) (by decide) hN hK (rP_5 x)
        exact ⟨m1, m2, _, e1, e2, deal_two hI (by decide) h1 h2⟩
      have g52 : k = 5 → d = 2 → ∃ m1 m2 v, sem (n + 12) 53 [aR 0, aI s, aI d, aI x] m = some (m1, v) ∧ sem (n + 12) 111 [aR 132, aI s, aI d, aI x] m1 = some (m2, v) ∧ Inv (i + 1) m2 := by
        intro a b
        subst a b
        obtain ⟨m1, e1, h1⟩ := deal_C n hI s 2 x 5 _ _ N R A _ _ hs hd hk (by decide) (by decide) (by decide) hN hK (cH_5 x)
        obtain ⟨m2, e2, h2⟩ := deal_M2 n hI h1.1 s x 5 _ _ N R A _ _ hs hk (by decide) (by decide) (by decide) hN hK (rH_5 x)
        exact ⟨m1, m2, _, e1, e2, deal_two hI (by decide) h1 h2⟩
      have g53 : k = 5 → d = 3 → ∃ m1 m2 v, sem (n + 12) 53 [aR 0, aI s, aI d, aI x] m = some (m1, v) ∧ sem (n + 12) 111 [aR 132, aI s, aI d, aI x] m1 = some (m2, v) ∧ Inv (i + 1) m2 := by
        intro a b
        subst a b
        obtain ⟨m1, e1, h1⟩ := deal_C n hI s 3 x 5 _ _ N R A _ _ hs hd hk (by decide) (by decide) (by decide) hN hK (cT_5 x hN2 hR2)
        obtain ⟨m2, e2, h2⟩ := deal_M3 n hI h1.1 s x 5 _ _ N R A _ _ hs hk (by decide) (by decide) (by decide) hN hK (rT_5 x hN2 hR2 rfl)
        exact ⟨m1, m2, _, e1, e2, deal_two hI (by decide) h1 h2⟩
      have g60 : k = 6 → d = 0 → ∃ m1 m2 v, sem (n + 12) 53 [aR 0, aI s, aI d, aI x] m = some (m1, v) ∧ sem (n + 12) 111 [aR 132, aI s, aI d, aI x] m1 = some (m2, v) ∧ Inv (i + 1) m2 := by
        intro a b
        subst a b
        obtain ⟨m1, e1, h1⟩ := deal_C n hI s 0 x 6 _ _ N R A _ _ hs hd hk (by decide) (by decide) (by decide) hN hK (cF_6 x)
        obtain ⟨m2, e2, h2⟩ := deal_M0 n hI h1.1 s x 6 _ _ N R A _ _ hs hk (by decide) (by decide) (by decide) hN hK (rF_6 x)
        exact ⟨m1, m2, _, e1, e2, deal_two hI (by decide) h1 h2⟩
      have g61 : k = 6 → d = 1 → ∃ m1 m2 v, sem (n + 12) 53 [aR 0, aI s, aI d, aI x] m = some (m1, v) ∧ sem (n + 12) 111 [aR 132, aI s, aI d, aI x] m1 = some (m2, v) ∧ Inv (i + 1) m2 := by
        intro a b
        subst a b
        obtain ⟨m1, e1, h1⟩ := deal_C n hI s 1 x 6 _ _ N R A _ _ hs hd hk (by decide) (by decide) (by decide) hN hK (cP_6 x)
        obtain ⟨m2, e2, h2⟩ := deal_M1 n hI h1.1 s x 6 _ _ N R A _ _ hs hk (by decide) (by decide) (by decide) hN hK (rP_6 x)
        exact ⟨m1, m2, _, e1, e2, deal_two hI (by decide) h1 h2⟩
      have g62 : k = 6 → d = 2 → ∃ m1 m2 v, sem (n + 12) 53 [aR 0, aI s, aI d, aI x] m = some (m1, v) ∧ sem (n + 12) 111 [aR 132, aI s, aI d, aI x] m1 = some (m2, v) ∧ Inv (i + 1) m2 := by
        intro a b
        subst a b
        obtain ⟨m1, e1, h1⟩ := deal_C n hI s 2 x 6 _ _ N R A _ _ hs hd hk (by decide) (by decide) (by decide) hN hK (cH_6 x)
        obtain ⟨m2, e2, h2⟩ := deal_M2 n hI h1.1 s x 6 _ _ N R A _ _ hs hk (by decide) (by decide) (by decide) hN hK (rH_6 x)
        exact ⟨m1, m2, _, e1, e2, deal_two hI (by decide) h1 h2⟩
      have g63 : k = 6 → d = 3 → ∃ m1 m2 v, sem (n + 12) 53 [aR 0, aI s, aI d, aI x] m = some (m1, v) ∧ sem (n + 12) 111 [aR 132, aI s, aI d, aI x] m1 = some (m2, v) ∧ Inv (i + 1) m2 := by
        intro a b
        subst a b
        obtain ⟨m1, e1, h1⟩ := deal_C n hI s 3 x 6 _ _ N R A _ _ hs hd hk (by decide) (by decide) (by decide) hN hK (cT_6 x hN2 hR2)
        obtain ⟨m2, e2, h2⟩ := deal_M3 n hI h1.1 s x 6 _ _ N R A _ _ hs hk (by decide) (by decide) (by decide) hN hK (rT_6 x hN2 hR2 rfl)
        exact ⟨m1, m2, _, e1, e2, deal_two hI (by decide) h1 h2⟩
      rcases hk6 with a | a | a | a | a | a <;> rcases hd4 with b | b | b | b
      · exact g10 a b
      · exact g11 a b
      · exact g12 a b
      · exact g13 a b
      · exact g20 a b
      · exact g21 a b
      · exact g22 a b
      · exact g23 a b
      · exact g30 a b
      · exact g31 a b
      · exact g32 a b
      · exact g33 a b
      · exact g40 a b
      · exact g41 a b
      · exact g42 a b
      · exact g43 a b
      · exact g50 a b
      · exact g51 a b
      · exact g52 a b
      · exact g53 a b
      · exact g60 a b
      · exact g61 a b
      · exact g62 a b
      · exact g63 a b
  · refine ⟨_, _, 0, vd_b (n + 9) m s d x hc, md_b (n + 9) _ s d x hc, ?_⟩
    refine deal_end hI [] (by decide) (fun i a b c e => by rw [bwr_ne _ _ c, bwr_ne _ _ a]) (fun j hj => ?_) ?_ ?_ (fun j hj => absurd hj (Nat.not_lt_zero _)) (fun j hj => absurd hj (Nat.not_lt_zero _))
    · rw [bwr_ne2 _ (by omega), bwr_ne _ _ (by decide)]
    · rw [bwr_ne _ _ (by decide), bwr_eq2]; rfl
    · rw [bwr_eq2]; rfl
