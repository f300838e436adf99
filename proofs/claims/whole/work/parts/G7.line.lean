/-! ===== read: the reference's line, whole ===== -/
section
variable {T : Nat → Int} {L S : Nat}
theorem ln_fin (n : Nat) (hS : S ≤ 8) (hL : L ≤ 240) (c i p2 : Nat) (hi : i < 9) (k v nb : Int) {m m5 : bM} (X : bM → Prop) (hx : ∀ m6 m7 m8 m9 j j2, Q_lnC.1.2 (sem (n + 23)) [some (aR 132), some (aI k), some (aI (v - 1))] m5 = some (.inl (0, [some (aR 132), some (aI k), some (aI (v - 1))], m6)) → m6 132 73 = (S : Int) → bwr m6 168 (9 * S + i) (m6 164 S) = m7 → sem (n + 23) 288 [aR 132, aI 59] m7 = some (m8, 0) → m8 132 73 = (S : Int) → m8 163 S = j → i32 (j + 1) = j2 → bwr m8 163 S j2 = m9 → X m9) (fr : frY S c i m m5) (hI : RfI T L S m5 p2 c 0) (hp : p2 ≤ L) (hc : 3 * c ≤ p2) (hv : 1 ≤ v ∧ v ≤ 5) (hj : m5 163 S = (i : Int)) (g1 : m5 165 (9 * S + i) = v - 1) (g2 : v ≠ 3 → m5 166 (9 * S + i) = nb) (g3 : m5 167 (9 * S + i) = (c : Int)) : ∃ m9, X m9 ∧ frY S c i m m9 ∧ match pLif T L v p2 nb with
    | .inl f => m9 132 71 = (f : Int)
    | .inr (q, cs, nb2) => if kTk T L q = 159 then (RfI T L S m9 (kE T L q) (c + cs.length) 0 ∧ m9 163 S = ((i + 1 : Nat) : Int) ∧ rfL m9 S c i (v, nb2, cs)) else m9 132 71 = (kF T L q : Int) := by
  obtain ⟨m6, e6, f6, r6⟩ := sp_lnC n hS hL c p2 k v nb hI hp hc hv
  have F6 := frY_trans fr (frY_Q (i := i) f6) (Nat.le_refl _) (Nat.le_refl _)
  have s6 : m6 132 73 = (S : Int) := by rw [f6.2.1 73 (by decide)]; exact RfI_v hI
  have o6 : ∀ j, 163 ≤ j → j ≤ 168 → j ≠ 164 → m6 j = m5 j := fun j a b d => f6.1 j (by omega) d (by omega) (by omega) (by omega)
  revert r6
  cases pLif T L v p2 nb with
  | inl f =>
    intro b6
    exact ln_bad (n + 19) c i X (fun m7 m8 m9 j j2 w7 e8 h8 hj h3 w9 => hx m6 m7 m8 m9 j j2 e6 s6 w7 e8 h8 hj h3 w9) F6 s6 b6 nn_f
  | inr x =>
    obtain ⟨q, cs, nb2⟩ := x
    rintro ⟨h0, i6, o, hq⟩
    subst h0
    have j6 : m6 163 S = (i : Int) := by rw [o6 163 (by decide) (by decide) (by decide)]; exact hj
    obtain ⟨m9, x9, f9, r9⟩ := ln_good (n + 19) c i (c + cs.length) q hi X (fun m7 m8 m9 j j2 w7 e8 h8 hj h3 w9 => hx m6 m7 m8 m9 j j2 e6 s6 w7 e8 h8 hj h3 w9) F6 i6 hq j6 (Nat.le_add_right _ _)
    refine ⟨m9, x9, f9, ?_⟩
    show if kTk T L q = 159 then _ else _
    by_cases z : kTk T L q = 159
    · rw [if_pos z] at r9 ⊢
      obtain ⟨r1, r2, r3, r4⟩ := r9
      refine ⟨r1, r2, ?_, fun a => ?_, ?_, r3, opAt_fr o (fun j u v x hx => r4 j (Or.inr ⟨u, v⟩) x (Or.inl (by have hx : x < 80 * S + c + cs.length := hx; omega)))⟩
      · rw [r4 165 (by decide) _ (Or.inr (by decide)), o6 165 (by decide) (by decide) (by decide)]; exact g1
      · rw [r4 166 (by decide) _ (Or.inr (by decide)), o6 166 (by decide) (by decide) (by decide)]; exact g2 a
      · rw [r4 167 (by decide) _ (Or.inr (by decide)), o6 167 (by decide) (by decide) (by decide)]; exact g3
    · rw [if_neg z] at r9 ⊢
      exact r9
theorem c_ln {S i : Nat} (hS : S ≤ 8) (hi : i < 9) : i32 (9 * (S : Int)) = ((9 * S : Nat) : Int) ∧ i32 (((9 * S : Nat) : Int) + (i : Int)) = ((9 * S + i : Nat) : Int) ∧ (0 ≤ (S : Int) ∧ (S : Int) < ((9 : Nat) : Int)) ∧ (0 ≤ ((9 * S + i : Nat) : Int) ∧ ((9 * S + i : Nat) : Int) < ((81 : Nat) : Int)) ∧ ¬ (i : Int) = 9 := by
  refine ⟨?_, ?_, by omega, by omega, by omega⟩
  · rw [i32_of (by omega) (by omega)]; omega
  · rw [i32_of (by omega) (by omega)]; omega
theorem sp_line (n : Nat) (hS : S ≤ 8) (hL : L ≤ 240) (i c p : Nat) (hi : i < 9) {m : bM} (hI : RfI T L S m p c 0) (hp : p ≤ L) (hc : 3 * c ≤ p) (hj : m 163 S = (i : Int)) : ∃ m9, sem (n + 24) 222 [aR 132] m = some (m9, 0) ∧ frY S c i m m9 ∧ match pLine T L p with
    | .inl f => m9 132 71 = (f : Int)
    | .inr (q, cs, nb) => if kTk T L q = 159 then (RfI T L S m9 (kE T L q) (c + cs.length) 0 ∧ m9 163 S = ((i + 1 : Nat) : Int) ∧ rfL m9 S c i (kTk T L p, nb, cs)) else m9 132 71 = (kF T L q : Int) := by
  have hT := RfT_T255 (RfI_t hI)
  have t := kTk_len hT hL hp
  obtain ⟨k1, k2, k3, k4, k5⟩ := c_ln hS hi
  unfold pLine
  by_cases z : 1 ≤ kTk T L p ∧ kTk T L p ≤ 5
  · rw [if_pos z]
    have t1 := t.2.2.2.1 (by omega)
    have v0 : ¬ kTk T L p - 1 < 0 := by omega
    have kc1 : 3 * c ≤ kE T L p := by omega
    obtain ⟨m1, e1, f1, i1⟩ := sp_lnV1 (n + 19) hI hp ((9 * S + i : Nat) : Int) z
    obtain ⟨m3, w3⟩ : ∃ m3, bwr m1 165 (9 * S + i) (kTk T L p - 1) = m3 := ⟨_, rfl⟩
    have o3 : ∀ j, j ≠ 165 → m3 j = m1 j := fun j h => by rw [← w3, bwr_ne _ _ h]
    have i3 : RfI T L S m3 (kE T L p) c 0 := RfI_w i1 (o3 132 (by decide)) (o3 164 (by decide)) (o3 192 (by decide))
    have F3 := frY_trans (frY_Q (i := i) f1) (frY_w (c := c) (i := i) w3 (by decide) (Nat.le_refl _)) (Nat.le_refl _) (Nat.le_refl _)
    have j1 : m1 163 S = (i : Int) := by rw [f1.1 163 (by decide) (by decide) (by decide) (by decide) (by decide)]; exact hj
    have j3 : m3 163 S = (i : Int) := by rw [o3 163 (by decide)]; exact j1
    by_cases y : kTk T L p = 3
    · rw [if_pos y]
      obtain ⟨m4, w4⟩ : ∃ m4, bwr m3 166 (9 * S + i) 0 = m4 := ⟨_, rfl⟩
      have o4 : ∀ j, j ≠ 166 → m4 j = m3 j := fun j h => by rw [← w4, bwr_ne _ _ h]
      have i4 : RfI T L S m4 (kE T L p) c 0 := RfI_w i3 (o4 132 (by decide)) (o4 164 (by decide)) (o4 192 (by decide))
      have v2 : kTk T L p - 1 = 2 := by omega
      have e4 := lnn_0 (n + 23) m3 m4 ((9 * S + i : Nat) : Int) (kTk T L p - 1) (9 * S + i) (Or.inl v2) k4 (tnc _) w4
      obtain ⟨m5, w5⟩ : ∃ m5, bwr m4 167 (9 * S + i) (c : Int) = m5 := ⟨_, rfl⟩
      have o5 : ∀ j, j ≠ 167 → m5 j = m4 j := fun j h => by rw [← w5, bwr_ne _ _ h]
      have i5 : RfI T L S m5 (kE T L p) c 0 := RfI_w i4 (o5 132 (by decide)) (o5 164 (by decide)) (o5 192 (by decide))
      have F5 := frY_trans (frY_trans F3 (frY_w (c := c) (i := i) w4 (by decide) (Nat.le_refl _)) (Nat.le_refl _) (Nat.le_refl _)) (frY_w (c := c) (i := i) w5 (by decide) (Nat.le_refl _)) (Nat.le_refl _) (Nat.le_refl _)
      exact ln_fin n hS hL c i (kE T L p) hi ((9 * S + i : Nat) : Int) (kTk T L p) 0 (fun m9 => sem (n + 24) 222 [aR 132] m = some (m9, 0)) (fun m6 m7 m8 m9 j j2 e6 h6 w7 e8 h8 hj8 h3 w9 => ml_e (n + 23) m m1 m1 m3 m4 m5 m6 m7 m8 m9 _ _ _ _ _ _ _ j j2 S (9 * S + i) (RfI_v hI) k3 (tnc S) hj k5 k1 k2 k4 (tnc _) e1 (Or.inl ⟨v0, rfl⟩) w3 e4 (RfI_v i4) (RfI_c i4) w5 e6 h6 rfl w7 e8 h8 hj8 h3 w9) F5 i5 t.2.1 kc1 z (by rw [o5 163 (by decide), o4 163 (by decide)]; exact j3) (by rw [o5 165 (by decide), o4 165 (by decide), ← w3, bwr_eq2]) (fun q => absurd y q) (by rw [← w5, bwr_eq2])
    · rw [if_neg y]
      have t2 := kTk_len hT hL (p := kE T L p) t.2.1
      have hx : (kTk T L p - 1 = 0 ∧ pMost (kTk T L p) = 100) ∨ (kTk T L p - 1 = 1 ∧ pMost (kTk T L p) = 9) ∨ (kTk T L p - 1 = 3 ∧ pMost (kTk T L p) = 999) ∨ (kTk T L p - 1 = 4 ∧ pMost (kTk T L p) = 999) := by
        have h : kTk T L p = 1 ∨ kTk T L p = 2 ∨ kTk T L p = 4 ∨ kTk T L p = 5 := by omega
        rcases h with h | h | h | h
        · rw [h]; exact Or.inl ⟨rfl, rfl⟩
        · rw [h]; exact Or.inr (Or.inl ⟨rfl, rfl⟩)
        · rw [h]; exact Or.inr (Or.inr (Or.inl ⟨rfl, rfl⟩))
        · rw [h]; exact Or.inr (Or.inr (Or.inr ⟨rfl, rfl⟩))
      have x9 : pMost (kTk T L p) ≤ 999 := by omega
      by_cases x : kK T L (kE T L p) = 2 ∧ kW T L (kE T L p) ≤ pMost (kTk T L p)
      · rw [if_pos x]
        have kc2 : 3 * c ≤ kE T L (kE T L p) := by omega
        obtain ⟨m3', e3, f3, i3'⟩ := sp_number1 (n + 19) i3 t.2.1 (pMost (kTk T L p)) x9 x
        obtain ⟨m4, w4⟩ : ∃ m4, bwr m3' 166 (9 * S + i) (kW T L (kE T L p)) = m4 := ⟨_, rfl⟩
        have o4 : ∀ j, j ≠ 166 → m4 j = m3' j := fun j h => by rw [← w4, bwr_ne _ _ h]
        have o3' : ∀ j, 163 ≤ j → j ≤ 168 → j ≠ 164 → m3' j = m3 j := fun j a b d => f3.1 j (by omega) d (by omega) (by omega) (by omega)
        have i4 : RfI T L S m4 (kE T L (kE T L p)) c 0 := RfI_w i3' (o4 132 (by decide)) (o4 164 (by decide)) (o4 192 (by decide))
        have e4 := lnn_1 (n + 23) m3 m3' m4 ((9 * S + i : Nat) : Int) (kTk T L p - 1) _ _ (9 * S + i) hx e3 k4 (tnc _) w4
        obtain ⟨m5, w5⟩ : ∃ m5, bwr m4 167 (9 * S + i) (c : Int) = m5 := ⟨_, rfl⟩
        have o5 : ∀ j, j ≠ 167 → m5 j = m4 j := fun j h => by rw [← w5, bwr_ne _ _ h]
        have i5 : RfI T L S m5 (kE T L (kE T L p)) c 0 := RfI_w i4 (o5 132 (by decide)) (o5 164 (by decide)) (o5 192 (by decide))
        have F5 := frY_trans (frY_trans (frY_trans F3 (frY_Q (i := i) f3) (Nat.le_refl _) (Nat.le_refl _)) (frY_w (c := c) (i := i) w4 (by decide) (Nat.le_refl _)) (Nat.le_refl _) (Nat.le_refl _)) (frY_w (c := c) (i := i) w5 (by decide) (Nat.le_refl _)) (Nat.le_refl _) (Nat.le_refl _)
        exact ln_fin n hS hL c i (kE T L (kE T L p)) hi ((9 * S + i : Nat) : Int) (kTk T L p) (kW T L (kE T L p)) (fun m9 => sem (n + 24) 222 [aR 132] m = some (m9, 0)) (fun m6 m7 m8 m9 j j2 e6 h6 w7 e8 h8 hj8 h3 w9 => ml_e (n + 23) m m1 m1 m3 m4 m5 m6 m7 m8 m9 _ _ _ _ _ _ _ j j2 S (9 * S + i) (RfI_v hI) k3 (tnc S) hj k5 k1 k2 k4 (tnc _) e1 (Or.inl ⟨v0, rfl⟩) w3 e4 (RfI_v i4) (RfI_c i4) w5 e6 h6 rfl w7 e8 h8 hj8 h3 w9) F5 i5 t2.2.1 kc2 z (by rw [o5 163 (by decide), o4 163 (by decide), o3' 163 (by decide) (by decide) (by decide)]; exact j3) (by rw [o5 165 (by decide), o4 165 (by decide), o3' 165 (by decide) (by decide) (by decide), ← w3, bwr_eq2]) (fun _ => by rw [o5 166 (by decide), ← w4, bwr_eq2]) (by rw [← w5, bwr_eq2])
      · rw [if_neg x]
        obtain ⟨m3', e3, f3, b3⟩ := sp_number0 (n + 19) i3 (pMost (kTk T L p)) x
        obtain ⟨m4, w4⟩ : ∃ m4, bwr m3' 166 (9 * S + i) 0 = m4 := ⟨_, rfl⟩
        have e4 := lnn_1 (n + 23) m3 m3' m4 ((9 * S + i : Nat) : Int) (kTk T L p - 1) _ _ (9 * S + i) hx e3 k4 (tnc _) w4
        obtain ⟨m5, w5⟩ : ∃ m5, bwr m4 167 (9 * S + i) (m4 164 S) = m5 := ⟨_, rfl⟩
        have g4 : m4 132 = m3' 132 := by rw [← w4, bwr_ne _ _ (by decide)]
        have g5 : m5 132 = m3' 132 := by rw [← w5, bwr_ne _ _ (by decide), g4]
        have b5 : m5 132 71 = (kF T L (kE T L p) : Int) := by rw [g5]; exact b3
        have s3 : m3' 132 73 = (S : Int) := by rw [f3.2.1 73 (by decide)]; exact RfI_v i3
        have s4 : m4 132 73 = (S : Int) := by rw [g4]; exact s3
        have s5 : m5 132 73 = (S : Int) := by rw [g5]; exact s3
        have F5 := frY_trans (frY_trans (frY_trans F3 (frY_Q (i := i) f3) (Nat.le_refl _) (Nat.le_refl _)) (frY_w (c := c) (i := i) w4 (by decide) (Nat.le_refl _)) (Nat.le_refl _) (Nat.le_refl _)) (frY_w (c := c) (i := i) w5 (by decide) (Nat.le_refl _)) (Nat.le_refl _) (Nat.le_refl _)
        have e6 : Q_lnC.1.2 (sem (n + 23)) [some (aR 132), some (aI ((9 * S + i : Nat) : Int)), some (aI (kTk T L p - 1))] m5 = some (.inl (0, [some (aR 132), some (aI ((9 * S + i : Nat) : Int)), some (aI (kTk T L p - 1))], m5)) := by
          rcases hx with h | h | h | h
          · rw [h.1]; exact lnc_i (n + 23) m5 m5 m5 _ 0 0 (Or.inl rfl) (sp_mayb (n + 22) 249 _ b5 nn_f) (Or.inl ⟨rfl, rfl⟩)
          · rw [h.1]; exact lnc_i (n + 23) m5 m5 m5 _ 1 0 (Or.inr rfl) (sp_mayb (n + 22) 249 _ b5 nn_f) (Or.inl ⟨rfl, rfl⟩)
          · rw [h.1]; exact lnc_n (n + 23) m5 _ 3 (Or.inr (Or.inl rfl))
          · rw [h.1]; exact lnc_n (n + 23) m5 _ 4 (Or.inr (Or.inr rfl))
        exact ln_bad (n + 19) c i (fun m9 => sem (n + 24) 222 [aR 132] m = some (m9, 0)) (fun m7 m8 m9 j j2 w7 e8 h8 hj8 h3 w9 => ml_e (n + 23) m m1 m1 m3 m4 m5 m5 m7 m8 m9 _ _ _ _ _ _ _ j j2 S (9 * S + i) (RfI_v hI) k3 (tnc S) hj k5 k1 k2 k4 (tnc _) e1 (Or.inl ⟨v0, rfl⟩) w3 e4 s4 rfl w5 e6 s5 rfl w7 e8 h8 hj8 h3 w9) F5 s5 b5 nn_f
  · rw [if_neg z]
    have e1 := sp_lnV0 (n + 19) hI ((9 * S + i : Nat) : Int) z
    obtain ⟨m2, e2, f2, b2⟩ := sp_fails1 (n + 22) hI
    obtain ⟨m3, w3⟩ : ∃ m3, bwr m2 165 (9 * S + i) (-1) = m3 := ⟨_, rfl⟩
    obtain ⟨m4, w4⟩ : ∃ m4, bwr m3 166 (9 * S + i) 0 = m4 := ⟨_, rfl⟩
    have e4 := lnn_0 (n + 23) m3 m4 ((9 * S + i : Nat) : Int) (-1) (9 * S + i) (Or.inr (by decide)) k4 (tnc _) w4
    obtain ⟨m5, w5⟩ : ∃ m5, bwr m4 167 (9 * S + i) (m4 164 S) = m5 := ⟨_, rfl⟩
    have g4 : m4 132 = m2 132 := by rw [← w4, bwr_ne _ _ (by decide), ← w3, bwr_ne _ _ (by decide)]
    have g5 : m5 132 = m2 132 := by rw [← w5, bwr_ne _ _ (by decide), g4]
    have b5 : m5 132 71 = (kF T L p : Int) := by rw [g5]; exact b2
    have s2 : m2 132 73 = (S : Int) := by rw [f2.2.1 73 (by decide)]; exact RfI_v hI
    have s4 : m4 132 73 = (S : Int) := by rw [g4]; exact s2
    have s5 : m5 132 73 = (S : Int) := by rw [g5]; exact s2
    have F5 := frY_trans (frY_trans (frY_trans (frY_Q (i := i) f2) (frY_w (c := c) (i := i) w3 (by decide) (Nat.le_refl _)) (Nat.le_refl _) (Nat.le_refl _)) (frY_w (c := c) (i := i) w4 (by decide) (Nat.le_refl _)) (Nat.le_refl _) (Nat.le_refl _)) (frY_w (c := c) (i := i) w5 (by decide) (Nat.le_refl _)) (Nat.le_refl _) (Nat.le_refl _)
    exact ln_bad (n + 19) c i (fun m9 => sem (n + 24) 222 [aR 132] m = some (m9, 0)) (fun m7 m8 m9 j j2 w7 e8 h8 hj8 h3 w9 => ml_e (n + 23) m m m2 m3 m4 m5 m5 m7 m8 m9 _ _ _ _ (-1) _ _ j j2 S (9 * S + i) (RfI_v hI) k3 (tnc S) hj k5 k1 k2 k4 (tnc _) e1 (Or.inr ⟨by decide, e2⟩) w3 e4 s4 rfl w5 (lnc_n (n + 23) m5 _ (-1) (Or.inl rfl)) s5 rfl w7 e8 h8 hj8 h3 w9) F5 s5 b5 nn_f
end
