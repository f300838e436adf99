/-! ===== read: the reference's line ===== -/
def frY (S c i : Nat) (m m2 : bM) : Prop := (∀ j, j ≠ 132 → (j < 163 ∨ 171 < j) → m2 j = m j) ∧ (∀ k, (k < 66 ∨ 72 < k) → k ≠ 73 → m2 132 k = m 132 k) ∧ (m2 132 73 = m 132 73) ∧ (∀ q, q ≠ S → m2 163 q = m 163 q ∧ m2 164 q = m 164 q) ∧ (∀ j, 165 ≤ j → j ≤ 168 → ∀ q, q < 9 * S + i → m2 j q = m j q) ∧ ∀ j, 169 ≤ j → j ≤ 171 → ∀ q, q < 80 * S + c → m2 j q = m j q
theorem frY_refl (S c i : Nat) (m : bM) : frY S c i m m := ⟨fun _ _ _ => rfl, fun _ _ _ => rfl, rfl, fun _ _ => ⟨rfl, rfl⟩, fun _ _ _ _ _ => rfl, fun _ _ _ _ _ => rfl⟩
theorem frY_trans {S c d i j : Nat} {m m1 m2 : bM} (h : frY S c i m m1) (g : frY S d j m1 m2) (l : c ≤ d) (l2 : i ≤ j) : frY S c i m m2 := ⟨fun k a b => (g.1 k a b).trans (h.1 k a b), fun k a b => (g.2.1 k a b).trans (h.2.1 k a b), g.2.2.1.trans h.2.2.1, fun q hq => ⟨(g.2.2.2.1 q hq).1.trans (h.2.2.2.1 q hq).1, (g.2.2.2.1 q hq).2.trans (h.2.2.2.1 q hq).2⟩, fun k a b q hq => (g.2.2.2.2.1 k a b q (by omega)).trans (h.2.2.2.2.1 k a b q hq), fun k a b q hq => (g.2.2.2.2.2 k a b q (by omega)).trans (h.2.2.2.2.2 k a b q hq)⟩
theorem frY_Q {S c i : Nat} {m m2 : bM} (h : frQ S c m m2) : frY S c i m m2 := ⟨fun j a b => h.1 j a (by omega) (by omega) (by omega) (by omega), fun k a _ => h.2.1 k a, h.2.1 73 (by decide), fun q hq => ⟨by rw [h.1 163 (by decide) (by decide) (by decide) (by decide) (by decide)], h.2.2.1 q hq⟩, fun j a b q _ => by rw [h.1 j (by omega) (by omega) (by omega) (by omega) (by omega)], h.2.2.2⟩
theorem frY_w {S c i : Nat} {m m2 : bM} {X k : Nat} {v : Int} (w : bwr m X k v = m2) (hX : 165 ≤ X ∧ X ≤ 168) (hk : 9 * S + i ≤ k) : frY S c i m m2 := by
  have o : ∀ j, j ≠ X → m2 j = m j := fun j h => by rw [← w, bwr_ne _ _ h]
  refine ⟨fun j a b => o j (by omega), fun k _ _ => by rw [o 132 (by omega)], by rw [o 132 (by omega)], fun q _ => ⟨by rw [o 163 (by omega)], by rw [o 164 (by omega)]⟩, fun j a b q hq => ?_, fun j a b q _ => by rw [o j (by omega)]⟩
  by_cases z : j = X
  · subst z; rw [← w, bwr_ne2 _ (by omega)]
  · rw [o j z]
theorem frY_s {S c i : Nat} {m m2 : bM} {v : Int} (w : bwr m 163 S v = m2) : frY S c i m m2 := by
  have o : ∀ j, j ≠ 163 → m2 j = m j := fun j h => by rw [← w, bwr_ne _ _ h]
  exact ⟨fun j a b => o j (by omega), fun k _ _ => by rw [o 132 (by decide)], by rw [o 132 (by decide)], fun q hq => ⟨by rw [← w, bwr_ne2 _ hq], by rw [o 164 (by decide)]⟩, fun j a b q _ => by rw [o j (by omega)], fun j a b q _ => by rw [o j (by omega)]⟩
theorem RfI_w {T : Nat → Int} {L S : Nat} {m m2 : bM} {p c : Nat} {o : Int} (h : RfI T L S m p c o) (e1 : m2 132 = m 132) (e2 : m2 164 = m 164) (e3 : m2 192 = m 192) : RfI T L S m2 p c o := by
  unfold RfI RfT RfS at h ⊢
  rw [e1, e2, e3]
  exact h
def rfL (m : bM) (S c i : Nat) (r : Int × Int × List Int) : Prop := m 165 (9 * S + i) = r.1 - 1 ∧ (r.1 ≠ 3 → m 166 (9 * S + i) = r.2.1) ∧ m 167 (9 * S + i) = (c : Int) ∧ m 168 (9 * S + i) = ((c + r.2.2.length : Nat) : Int) ∧ opAt m (80 * S + c) r.2.2
def rfLs (m : bM) (S : Nat) : Nat → Nat → List (Int × Int × List Int) → Prop
  | _, _, [] => True
  | c, i, r :: rs => rfL m S c i r ∧ rfLs m S (c + r.2.2.length) (i + 1) rs
theorem rfL_fr {m m2 : bM} {S c i : Nat} {r : Int × Int × List Int} (h : rfL m S c i r) (g : frY S (c + r.2.2.length) (i + 1) m m2) : rfL m2 S c i r := by
  obtain ⟨h1, h2, h3, h4, h5⟩ := h
  have q : 9 * S + i < 9 * S + (i + 1) := by omega
  refine ⟨?_, fun a => ?_, ?_, ?_, opAt_fr h5 (fun j u v x hx => g.2.2.2.2.2 j u v x (by omega))⟩
  · rw [g.2.2.2.2.1 165 (by decide) (by decide) _ q]; exact h1
  · rw [g.2.2.2.2.1 166 (by decide) (by decide) _ q]; exact h2 a
  · rw [g.2.2.2.2.1 167 (by decide) (by decide) _ q]; exact h3
  · rw [g.2.2.2.2.1 168 (by decide) (by decide) _ q]; exact h4
section
variable {T : Nat → Int} {L S : Nat}
theorem ln_bad (n c i : Nat) {m m6 : bM} (X : bM → Prop) (hx : ∀ m7 m8 m9 j j2, bwr m6 168 (9 * S + i) (m6 164 S) = m7 → sem (n + 4) 288 [aR 132, aI 59] m7 = some (m8, 0) → m8 132 73 = (S : Int) → m8 163 S = j → i32 (j + 1) = j2 → bwr m8 163 S j2 = m9 → X m9) (fr : frY S c i m m6) (hs : m6 132 73 = (S : Int)) {f : Int} (hf : m6 132 71 = f) (h : ¬ f < 0) : ∃ m9, X m9 ∧ frY S c i m m9 ∧ m9 132 71 = f := by
  obtain ⟨m7, w7⟩ : ∃ m7, bwr m6 168 (9 * S + i) (m6 164 S) = m7 := ⟨_, rfl⟩
  obtain ⟨m9, w9⟩ : ∃ m9, bwr m7 163 S (i32 (m7 163 S + 1)) = m9 := ⟨_, rfl⟩
  have o7 : m7 132 = m6 132 := by rw [← w7, bwr_ne _ _ (by decide)]
  have o9 : m9 132 = m7 132 := by rw [← w9, bwr_ne _ _ (by decide)]
  have f7 : m7 132 71 = f := by rw [o7]; exact hf
  exact ⟨m9, hx m7 m7 m9 _ _ w7 (sp_mustSignb n 59 f f7 h) (by rw [o7]; exact hs) rfl rfl w9, frY_trans (frY_trans fr (frY_w (c := c) (i := i) w7 (by decide) (Nat.le_refl _)) (Nat.le_refl _) (Nat.le_refl _)) (frY_s (c := c) (i := i) w9) (Nat.le_refl _) (Nat.le_refl _), by rw [o9]; exact f7⟩
theorem ln_good (n c i d q : Nat) (hi : i < 9) {m m6 : bM} (X : bM → Prop) (hx : ∀ m7 m8 m9 j j2, bwr m6 168 (9 * S + i) (m6 164 S) = m7 → sem (n + 4) 288 [aR 132, aI 59] m7 = some (m8, 0) → m8 132 73 = (S : Int) → m8 163 S = j → i32 (j + 1) = j2 → bwr m8 163 S j2 = m9 → X m9) (fr : frY S c i m m6) (hI : RfI T L S m6 q d 0) (hq : q ≤ L) (hj : m6 163 S = (i : Int)) (hcd : c ≤ d) : ∃ m9, X m9 ∧ frY S c i m m9 ∧ if kTk T L q = 159 then (RfI T L S m9 (kE T L q) d 0 ∧ m9 163 S = ((i + 1 : Nat) : Int) ∧ m9 168 (9 * S + i) = (d : Int) ∧ ∀ j, (165 ≤ j ∧ j ≤ 167) ∨ (169 ≤ j ∧ j ≤ 171) → ∀ x, x < 80 * S + d ∨ j ≤ 167 → m9 j x = m6 j x) else m9 132 71 = (kF T L q : Int) := by
  have hT := RfT_T255 (RfI_t hI)
  have hL := RfT_L240 (RfI_t hI)
  have i31 : i < 2147483647 := by omega
  obtain ⟨m7, w7⟩ : ∃ m7, bwr m6 168 (9 * S + i) (m6 164 S) = m7 := ⟨_, rfl⟩
  have o7 : ∀ j, j ≠ 168 → m7 j = m6 j := fun j h => by rw [← w7, bwr_ne _ _ h]
  have i7 : RfI T L S m7 q d 0 := RfI_w hI (o7 132 (by decide)) (o7 164 (by decide)) (o7 192 (by decide))
  have F7 := frY_trans fr (frY_w (c := c) (i := i) w7 (by decide) (Nat.le_refl _)) (Nat.le_refl _) (Nat.le_refl _)
  have w := tk_s hT hL q (s := 59) (by decide)
  by_cases z : kTk T L q = 159
  · simp only [if_pos z]
    obtain ⟨m8, e8, f8, i8⟩ := sp_mustSign1 n i7 hq 59 (w.mp z)
    obtain ⟨m9, w9⟩ : ∃ m9, bwr m8 163 S ((i + 1 : Nat) : Int) = m9 := ⟨_, rfl⟩
    have o9 : ∀ j, j ≠ 163 → m9 j = m8 j := fun j h => by rw [← w9, bwr_ne _ _ h]
    have o8 : ∀ j, j ≠ 132 → (j < 164 ∨ (164 < j ∧ j < 169)) → m8 j = m7 j := fun j a b => f8.1 j a (by omega) (by omega) (by omega) (by omega)
    have j8 : m8 163 S = (i : Int) := by rw [o8 163 (by decide) (by decide), o7 163 (by decide)]; exact hj
    refine ⟨m9, hx m7 m8 m9 _ _ w7 e8 (RfI_v i8) j8 (i32_s i31) w9, frY_trans (frY_trans F7 (frY_Q (i := i) f8) hcd (Nat.le_refl _)) (frY_s (c := d) (i := i) w9) hcd (Nat.le_refl _), RfI_w i8 (o9 132 (by decide)) (o9 164 (by decide)) (o9 192 (by decide)), by rw [← w9, bwr_eq2], ?_, fun j hj x hx => ?_⟩
    · rw [o9 168 (by decide), o8 168 (by decide) (by decide), ← w7, bwr_eq2]; exact RfI_c hI
    · rw [o9 j (by omega)]
      rcases hj with hj | hj
      · rw [o8 j (by omega) (by omega), o7 j (by omega)]
      · rw [f8.2.2.2 j hj.1 hj.2 x (by omega), o7 j (by omega)]
  · simp only [if_neg z]
    obtain ⟨m8, e8, f8, b8⟩ := sp_mustSign0 n i7 59 (fun q => z (w.mpr q))
    obtain ⟨m9, w9⟩ : ∃ m9, bwr m8 163 S (i32 (m8 163 S + 1)) = m9 := ⟨_, rfl⟩
    have v8 : m8 132 73 = (S : Int) := by rw [f8.2.1 73 (by decide)]; exact RfI_v i7
    exact ⟨m9, hx m7 m8 m9 _ _ w7 e8 v8 rfl rfl w9, frY_trans (frY_trans F7 (frY_Q (i := i) f8) hcd (Nat.le_refl _)) (frY_s (c := d) (i := i) w9) hcd (Nat.le_refl _), by rw [← w9, bwr_ne _ _ (by decide)]; exact b8⟩
/-- the second part of a line -/
theorem sp_lnC (n : Nat) (hS : S ≤ 8) (hL : L ≤ 240) (c p2 : Nat) (k v nb : Int) {m : bM} (hI : RfI T L S m p2 c 0) (hp : p2 ≤ L) (hc : 3 * c ≤ p2) (hv : 1 ≤ v ∧ v ≤ 5) : ∃ m2, Q_lnC.1.2 (sem (n + 23)) [some (aR 132), some (aI k), some (aI (v - 1))] m = some (.inl (0, [some (aR 132), some (aI k), some (aI (v - 1))], m2)) ∧ frQ S c m m2 ∧ match pLif T L v p2 nb with
    | .inl f => m2 132 71 = (f : Int)
    | .inr (q, cs, nb2) => nb2 = nb ∧ RfI T L S m2 q (c + cs.length) 0 ∧ opAt m2 (80 * S + c) cs ∧ q ≤ L := by
  have hT := RfT_T255 (RfI_t hI)
  have t := kTk_len hT hL hp
  have w6 := tk_w hT hL p2 (i := 6) (by decide) wCd_6
  unfold pLif
  by_cases z : v = 3 ∨ ((v = 1 ∨ v = 2) ∧ kTk T L p2 = 6)
  · rw [if_pos z]
    by_cases y : kTk T L p2 = 6
    · rw [if_pos y]
      have k1 := t.2.2.2.1 (by omega)
      have c1 : 3 * c ≤ kE T L p2 := by omega
      have gd := pLev_ok hT hL 4 (kE T L p2) t.2.1
      have key : ∃ m2, Q_lnC.1.2 (sem (n + 23)) [some (aR 132), some (aI k), some (aI (v - 1))] m = some (.inl (0, [some (aR 132), some (aI k), some (aI (v - 1))], m2)) ∧ rRes T L S c 0 m (pLev T L 4 (kE T L p2)) m2 := by
        rcases z with z | ⟨z, _⟩
        · subst z
          obtain ⟨m1, e1, f1, i1⟩ := sp_may1 (n + 18) hI hp 249 (w6.mp y).1 (w6.mp y).2
          obtain ⟨m2, e2, f2, r2⟩ := ayL_4 hS hL hT n m1 (kE T L p2) c i1 t.2.1 c1
          exact ⟨m2, lnc_b (n + 23) m m1 m2 k (mu_1 (n + 22) m m1 249 e1) e2, frQ_trans f1 f2 (Nat.le_refl _), r2⟩
        · obtain ⟨m1, e1, f1, i1⟩ := sp_may1 (n + 19) hI hp 249 (w6.mp y).1 (w6.mp y).2
          obtain ⟨m2, e2, f2, r2⟩ := ayL_4 hS hL hT n m1 (kE T L p2) c i1 t.2.1 c1
          exact ⟨m2, lnc_i (n + 23) m m1 m2 k (v - 1) 1 (by omega) e1 (Or.inr ⟨rfl, e2⟩), frQ_trans f1 f2 (Nat.le_refl _), r2⟩
      obtain ⟨m2, eq, f2, r2⟩ := key
      refine ⟨m2, eq, f2, ?_⟩
      revert r2 gd
      cases pLev T L 4 (kE T L p2) with
      | inl f => exact fun _ r2 => r2
      | inr x =>
        obtain ⟨q, cs⟩ := x
        exact fun g r2 => ⟨rfl, r2.1, r2.2, g.2.1⟩
    · rw [if_neg y]
      have hv3 : v = 3 := by
        rcases z with z | ⟨_, z⟩
        · exact z
        · exact absurd z y
      subst hv3
      obtain ⟨m2, e2, f2, b2⟩ := sp_fails1 (n + 21) hI
      have e1 := sp_may0 (n + 21) hI 249 (fun q => y (w6.mpr q))
      exact ⟨m2, lnc_b (n + 23) m m2 m2 k (mu_0 (n + 22) m m m2 249 e1 e2) (any_bad (n + 12) _ b2 nn_f), f2, b2⟩
  · rw [if_neg z]
    have h3 : ¬ v = 3 := fun q => z (Or.inl q)
    refine ⟨m, ?_, frQ_refl _ _ _, rfl, hI, trivial, hp⟩
    by_cases y : v = 1 ∨ v = 2
    · have e1 := sp_may0 (n + 22) hI 249 (fun q => z (Or.inr ⟨y, w6.mpr q⟩))
      exact lnc_i (n + 23) m m m k (v - 1) 0 (by omega) e1 (Or.inl ⟨rfl, rfl⟩)
    · exact lnc_n (n + 23) m k (v - 1) (by omega)
end
