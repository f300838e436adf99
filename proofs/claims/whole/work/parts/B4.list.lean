/-! ===== namesThatStand, list ===== -/
def hsd (m : bM) (j : Nat) : Prop := ¬ m 43 j = -1
/-- which names were looked at: turn t, below k -/
def prd (m : bM) (t k j : Nat) : Prop := (t = 0 ∧ j < k ∧ hsd m j) ∨ (t = 1 ∧ j < nNm m ∧ (hsd m j ∨ j < k))
def gInv (m : bM) (w : Int) (t k : Nat) (go : Nat → Bool) (c : Int) : Prop := ∃ (nf : Nat → Int) (Q : Nat → Bool), mOK (fitW m w) nf (nNm m) ∧ mIn nf ∧ mCl (fitW m w) nf Q ∧ mUn (fitW m w) nf Q (prd m t k) ∧ c = (mN nf : Int) ∧ (∀ p, p < 16 → go p = (decide ((p : Int) = w) || decide (0 ≤ nf p))) ∧ ∀ p, p < 16 → 0 ≤ nf p → prd m t k (nf p).toNat
theorem fitW_in {m : bM} {w : Int} {n p : Nat} (h : fitW m w n p = true) : (p : Int) < m 37 12 ∧ ¬ (p : Int) = w ∧ fitB m n p = true := by
  unfold fitW at h
  simpa using h
theorem fitW_of {m : bM} {w : Int} {n p : Nat} (h1 : (p : Int) < m 37 12) (h2 : ¬ (p : Int) = w) (h3 : fitB m n p = true) : fitW m w n p = true := by
  unfold fitW
  simp [h1, h2, h3]
theorem fitB_iff {m : bM} {n p : Nat} : fitB m n p = true ↔ m 42 n = m 38 p ∧ m 41 p = 0 ∧ (m 43 n = -1 ∨ m 43 n = m 39 p) := by
  unfold fitB
  simp
/-- x and k fit one person: whom x fits, k fits -/
theorem fit_sub {m : bM} {w : Int} {x k p q : Nat} (h1 : fitB m x p = true) (h2 : fitB m k p = true) (h3 : ¬ hsd m k ∨ hsd m x) (h4 : fitW m w x q = true) : fitW m w k q = true := by
  obtain ⟨g1, g2, g3⟩ := fitW_in h4
  refine fitW_of g1 g2 ?_
  rw [fitB_iff] at h1 h2 g3 ⊢
  unfold hsd at h3
  refine ⟨by omega, g3.2.1, ?_⟩
  omega
theorem gI_1 {m : bM} {w c : Int} {t k p : Nat} {go : Nat → Bool} (hp : (nPs m : Int) = m 37 12) (hp16 : nPs m ≤ 16) (hk : k < nNm m) (ha : (t = 0 ∧ hsd m k) ∨ (t = 1 ∧ ¬ hsd m k)) (h : gInv m w t k go c) (e : ff (fun p => !go p && fitB m k p) (nPs m) = some p) : gInv m w t (k + 1) (fun q => go q || decide (q = p)) (c + 1) := by
  obtain ⟨nf, Q, h1, h2, h3, h4, h5, h6, h7⟩ := h
  obtain ⟨k1, k2, _⟩ := ff_some e
  have k2 : (!go p && fitB m k p) = true := k2
  rw [Bool.and_eq_true, Bool.not_eq_true'] at k2
  have p16 : p < 16 := by omega
  have g6 := h6 p p16
  rw [k2.1] at g6
  have g7 : ¬ (p : Int) = w ∧ ¬ 0 ≤ nf p := by simpa using g6.symm
  have nn : nf p = -1 := by
    rcases h1 p p16 with z | z
    · exact z
    · omega
  have fW : fitW m w k p = true := fitW_of (by omega) g7.1 k2.2
  have npk : ¬ prd m t k k := fun z => by
    rcases z with ⟨z1, z2, z3⟩ | ⟨z1, z2, z3⟩
    · omega
    · rcases ha with ⟨y, _⟩ | ⟨_, y⟩
      · omega
      · rcases z3 with z3 | z3
        · exact y z3
        · omega
  have unm : ∀ q, q < 16 → nf q ≠ (k : Int) := fun q hq z => npk (by have := h7 q hq (by omega); rw [z, tnc] at this; exact this)
  have up : ∀ j, prd m t k j → prd m t (k + 1) j := fun j hj => by
    rcases hj with ⟨z1, z2, z3⟩ | ⟨z1, z2, z3⟩
    · exact Or.inl ⟨z1, by omega, z3⟩
    · exact Or.inr ⟨z1, z2, z3.imp id (fun y => by omega)⟩
  have kin : prd m t (k + 1) k := by
    rcases ha with ⟨y, y2⟩ | ⟨y, y2⟩
    · exact Or.inl ⟨y, by omega, y2⟩
    · exact Or.inr ⟨y, hk, Or.inr (by omega)⟩
  refine ⟨fun q => if q = p then (k : Int) else nf q, Q, fun q hq => ?_, fun q r hq hr a b => ?_, fun q hq hQ => ?_, fun j hj hu q hq hf => ?_, ?_, fun q hq => ?_, fun q hq a => ?_⟩
  · show (if q = p then (k : Int) else nf q) = -1 ∨ (0 ≤ (if q = p then (k : Int) else nf q) ∧ (if q = p then (k : Int) else nf q) < (nNm m : Int) ∧ fitW m w (if q = p then (k : Int) else nf q).toNat q = true)
    by_cases z : q = p
    · rw [if_pos z, tnc, z]
      exact Or.inr ⟨by omega, by omega, fW⟩
    · rw [if_neg z]; exact h1 q hq
  · by_cases z : q = p
    · by_cases y : r = p
      · rw [z, y]
      · simp only [if_pos z, if_neg y] at b
        exact absurd b.symm (unm r hr)
    · by_cases y : r = p
      · simp only [if_neg z, if_pos y] at b
        exact absurd b (unm q hq)
      · simp only [if_neg z, if_neg y] at a b
        exact h2 q r hq hr a b
  · have hq0 := h3 q hq hQ
    have z : ¬ q = p := fun z => by rw [z] at hq0; omega
    show 0 ≤ (if q = p then (k : Int) else nf q) ∧ ∀ r, r < 16 → fitW m w (if q = p then (k : Int) else nf q).toNat r = true → Q r = true
    rw [if_neg z]; exact hq0
  · by_cases z : j = k
    · exact absurd (if_pos rfl) (by rw [z] at hu; exact hu p p16)
    · refine h4 j ?_ (fun r hr b => ?_) q hq hf
      · rcases hj with ⟨z1, z2, z3⟩ | ⟨z1, z2, z3⟩
        · exact Or.inl ⟨z1, by omega, z3⟩
        · exact Or.inr ⟨z1, z2, z3.imp id (fun y => by omega)⟩
      · have y : ¬ r = p := fun y => by rw [y] at b; omega
        exact hu r hr ((if_neg y).trans b)
  · rw [mN_set p16 nn (by omega), h5]; rfl
  · show (go q || decide (q = p)) = (decide ((q : Int) = w) || decide (0 ≤ (if q = p then (k : Int) else nf q)))
    by_cases z : q = p
    · rw [if_pos z]; simp [z]
    · rw [if_neg z, h6 q hq]; simp [z]
  · by_cases z : q = p
    · show prd m t (k + 1) (if q = p then (k : Int) else nf q).toNat
      rw [if_pos z, tnc]; exact kin
    · show prd m t (k + 1) (if q = p then (k : Int) else nf q).toNat
      simp only [if_neg z] at a
      rw [if_neg z]; exact up _ (h7 q hq a)
theorem gI_0 {m : bM} {w c : Int} {t k : Nat} {go : Nat → Bool} (hp : (nPs m : Int) = m 37 12) (ha : (t = 0 ∧ hsd m k) ∨ (t = 1 ∧ ¬ hsd m k)) (h : gInv m w t k go c) (e : ff (fun p => !go p && fitB m k p) (nPs m) = none) : gInv m w t (k + 1) go c := by
  obtain ⟨nf, Q, h1, h2, h3, h4, h5, h6, h7⟩ := h
  have k1 := ff_none.1 e
  refine ⟨nf, fun q => Q q || fitW m w k q, h1, h2, fun q hq hQ => ?_, fun j hj hu q hq hf => ?_, h5, h6, fun q hq a => ?_⟩
  · by_cases z : Q q = true
    · obtain ⟨a1, a2⟩ := h3 q hq z
      exact ⟨a1, fun r hr hf => by simp [a2 r hr hf]⟩
    · have hf : fitW m w k q = true := by simpa [z] using hQ
      obtain ⟨b1, b2, b3⟩ := fitW_in hf
      have g1 : (!go q && fitB m k q) = false := k1 q (by omega)
      rw [b3, Bool.and_true, Bool.not_eq_false'] at g1
      have g6 := h6 q hq
      rw [g1] at g6
      have n0 : 0 ≤ nf q := by simpa [b2] using g6.symm
      refine ⟨n0, fun r hr hx => ?_⟩
      have fx : fitB m (nf q).toNat q = true := by
        rcases h1 q hq with y | ⟨_, _, y⟩
        · omega
        · exact (fitW_in y).2.2
      have hs : ¬ hsd m k ∨ hsd m (nf q).toNat := by
        rcases ha with ⟨y, y2⟩ | ⟨y, y2⟩
        · rcases h7 q hq n0 with ⟨_, _, u⟩ | ⟨u, _, _⟩
          · exact Or.inr u
          · omega
        · exact Or.inl y2
      simp [fit_sub fx b3 hs hx]
  · by_cases z : j = k
    · rw [z] at hf; simp [hf]
    · have : prd m t k j := by
        rcases hj with ⟨z1, z2, z3⟩ | ⟨z1, z2, z3⟩
        · exact Or.inl ⟨z1, by omega, z3⟩
        · exact Or.inr ⟨z1, z2, z3.imp id (fun y => by omega)⟩
      simp [h4 j this hu q hq hf]
  · rcases h7 q hq a with ⟨z1, z2, z3⟩ | ⟨z1, z2, z3⟩
    · exact Or.inl ⟨z1, by omega, z3⟩
    · exact Or.inr ⟨z1, z2, z3.imp id (fun y => by omega)⟩
theorem gI_p {m : bM} {w c : Int} {t k t2 k2 : Nat} {go : Nat → Bool} (hp : ∀ j, prd m t k j ↔ prd m t2 k2 j) (h : gInv m w t k go c) : gInv m w t2 k2 go c := by
  obtain ⟨nf, Q, h1, h2, h3, h4, h5, h6, h7⟩ := h
  exact ⟨nf, Q, h1, h2, h3, fun j hj => h4 j ((hp j).2 hj), h5, h6, fun p hq a => (hp _).1 (h7 p hq a)⟩
theorem nt_in (n : Nat) {m : bM} (hR : Rel m m) (w c : Int) (t : Nat) (ht : t = 0 ∨ t = 1) (go : Nat → Bool) (y : Option bV) (h : gInv m w t 0 go c) : ∃ (go2 : Nat → Bool) (c2 : Int) (x2 : Option bV), L_Folk_namesThatStand_2.1.2 (sem (n + 2)) [some (aR 37), some (aI w), some (aI (bst go 16 : Int)), some (aI c), some (aI (t : Int)), some (aI 0), y] m = some (.inl (0, [some (aR 37), some (aI w), some (aI (bst go2 16 : Int)), some (aI c2), some (aI (t : Int)), some (aI (nNm m : Int)), x2], m)) ∧ gInv m w t (nNm m) go2 c2 := by
  have rn := RelF_rnames (Rel_f hR)
  have rp := RelF_rpersons (Rel_f hR)
  have hN : m 37 13 = (nNm m : Int) := by unfold nNm; omega
  have hP : (nPs m : Int) = m 37 12 := by unfold nPs; omega
  have hP16 : nPs m ≤ 16 := by omega
  have key := lp_n (cc := L_Folk_namesThatStand_2c.1.2 (sem (n + 2))) (b := L_Folk_namesThatStand_2b.1.2 (sem (n + 2))) (s := L_Folk_namesThatStand_2s.1.2 (sem (n + 2))) (fun k ls mc => mc = m ∧ ∃ (go2 : Nat → Bool) (c2 : Int) (x2 : Option bV), ls = [some (aR 37), some (aI w), some (aI (bst go2 16 : Int)), some (aI c2), some (aI (t : Int)), some (aI (k : Int)), x2] ∧ gInv m w t k go2 c2) (nNm m) 0 bF [some (aR 37), some (aI w), some (aI (bst go 16 : Int)), some (aI c), some (aI (t : Int)), some (aI 0), y] m (by show nNm m < 1000; omega) ⟨rfl, go, c, y, rfl, h⟩ (fun k ls mc hk0 hk hI => ?_) (fun ls mc hI => ?_)
  · obtain ⟨ls2, m2, e2, e3, go2, c2, x2, e4, g⟩ := key
    subst e3 e4
    rw [Nat.zero_add] at e2 g
    refine ⟨go2, c2, x2, ?_, g⟩
    unfold L_Folk_namesThatStand_2
    rw [d_sLp]
    exact e2
  · obtain ⟨e3, go2, c2, x2, e4, g⟩ := hI
    subst e3 e4
    have k16 : k < 16 := by omega
    have kN : k < nNm mc := by omega
    have a1 : (k : Int) < (nNm mc : Int) := by omega
    have a2 : 0 ≤ (k : Int) ∧ (k : Int) < ((16 : Nat) : Int) := by omega
    have a3 : k < 2147483647 := by omega
    have ef := sp_firstFit n k k16 hR go2
    have act : ((t : Int) = 0 ∧ (mc 43 k = -1) = False) ∨ ((t : Int) = 1 ∧ mc 43 k = -1) → (t = 0 ∧ hsd mc k) ∨ (t = 1 ∧ ¬ hsd mc k) := fun q => by
      rcases q with ⟨q1, q2⟩ | ⟨q1, q2⟩
      · exact Or.inl ⟨by omega, fun z => by rw [q2] at z; exact z⟩
      · exact Or.inr ⟨by omega, fun z => z q2⟩
    by_cases sk : ((t : Int) = 0 ∧ mc 43 k = -1) ∨ ((t : Int) = 1 ∧ (mc 43 k = -1) = False)
    · refine ⟨_, mc, bIt_cn (m1 := mc) (nt_c2 _ mc _ _ _ _ _ _ _ hN a1) (nt_k _ mc _ _ _ _ _ _ _ k a2 (tnc k) rfl sk) (nt_s2 _ mc _ _ _ _ _ _ _ (i32_s a3)), rfl, go2, c2, x2, rfl, gI_p (fun j => ?_) g⟩
      have zz : (t = 0 ∧ ¬ hsd mc k) ∨ (t = 1 ∧ hsd mc k) := by
        rcases sk with ⟨q1, q2⟩ | ⟨q1, q2⟩
        · exact Or.inl ⟨by omega, fun z => z q2⟩
        · exact Or.inr ⟨by omega, fun z => by rw [q2] at z; exact z⟩
      unfold prd
      constructor
      · rintro (⟨z1, z2, z3⟩ | ⟨z1, z2, z3⟩)
        · exact Or.inl ⟨z1, by omega, z3⟩
        · exact Or.inr ⟨z1, z2, z3.imp id (fun y => by omega)⟩
      · rintro (⟨z1, z2, z3⟩ | ⟨z1, z2, z3⟩)
        · refine Or.inl ⟨z1, ?_, z3⟩
          have : ¬ j = k := fun q => by
            rcases zz with ⟨_, u⟩ | ⟨u, _⟩
            · rw [q] at z3; exact u z3
            · omega
          omega
        · refine Or.inr ⟨z1, z2, ?_⟩
          by_cases q : j = k
          · rcases zz with ⟨u, _⟩ | ⟨_, u⟩
            · omega
            · rw [q]; exact Or.inl u
          · exact z3.imp id (fun y => by omega)
    · have ac : ((t : Int) = 0 ∧ (mc 43 k = -1) = False) ∨ ((t : Int) = 1 ∧ mc 43 k = -1) := by
        by_cases z : mc 43 k = -1
        · refine Or.inr ⟨?_, z⟩
          rcases ht with ht | ht
          · exact absurd (Or.inl ⟨by omega, z⟩) sk
          · omega
        · refine Or.inl ⟨?_, eq_false z⟩
          rcases ht with ht | ht
          · omega
          · exact absurd (Or.inr ⟨by omega, eq_false z⟩) sk
      cases e : ff (fun p => !go2 p && fitB mc k p) (nPs mc) with
      | none =>
        rw [e] at ef
        exact ⟨_, mc, bIt_go (m1 := mc) (nt_c2 _ mc _ _ _ _ _ _ _ hN a1) (nt_0 _ mc _ _ _ _ _ _ _ _ k a2 (tnc k) rfl ac ef (by decide)) (nt_s2 _ mc _ _ _ _ _ _ _ (i32_s a3)), rfl, go2, c2, _, rfl, gI_0 hP (act ac) g e⟩
      | some p =>
        rw [e] at ef
        have p16 : p < 16 := by have := (ff_some e).1; omega
        have c0 : 0 ≤ c2 ∧ c2 ≤ 16 := by
          obtain ⟨nf, Q, _, _, _, _, g5, _⟩ := g
          have := cnt_le (fun p => decide (0 ≤ nf p)) 16
          unfold mN at g5
          omega
        refine ⟨_, mc, bIt_go (m1 := mc) (nt_c2 _ mc _ _ _ _ _ _ _ hN a1) (nt_1 _ mc _ _ _ _ _ _ _ _ (c2 + 1) _ k a2 (tnc k) rfl ac ef (Int.natCast_nonneg p) (jor_ins go2 p16 (by decide)) (i32_of (by omega) (by omega))) (nt_s2 _ mc _ _ _ _ _ _ _ (i32_s a3)), rfl, _, _, _, rfl, gI_1 hP hP16 kN (act ac) g e⟩
  · obtain ⟨e3, go2, c2, x2, e4, g⟩ := hI
    subst e3 e4
    rw [Nat.zero_add]
    exact bIt_ex (nt_x2 _ mc _ _ _ _ _ _ _ hN (Int.lt_irrefl _))
theorem sp_namesThatStand (n : Nat) {m : bM} (hR : Rel m m) (w : Int) (hw : w = -1 ∨ (0 ≤ w ∧ w < 16)) : ∃ (nf : Nat → Int) (Q : Nat → Bool), sem (n + 3) 151 [aR 37, aI w] m = some (m, (mN nf : Int)) ∧ mOK (fitW m w) nf (nNm m) ∧ mIn nf ∧ mCl (fitW m w) nf Q ∧ mUn (fitW m w) nf Q (fun j => j < nNm m) := by
  have z0 : gInv m w 0 0 (fun p => decide ((p : Int) = w)) 0 := ⟨fun _ => -1, fun _ => false, fun _ _ => Or.inl rfl, fun _ _ _ _ h _ => absurd h (show ¬ (0 : Int) ≤ -1 by decide), fun _ _ h => (by cases h), fun j hj => by
    rcases hj with ⟨_, z, _⟩ | ⟨z, _⟩
    · omega
    · omega, by
    have : mN (fun _ => -1) = 0 := cnt_0 (fun _ _ => rfl)
    rw [this]; rfl, fun p _ => by simp, fun _ _ h => absurd h (show ¬ (0 : Int) ≤ -1 by decide)⟩
  obtain ⟨g1, c1, x1, e1, h1⟩ := nt_in n hR w 0 0 (Or.inl rfl) _ none z0
  have z1 : gInv m w 1 0 g1 c1 := gI_p (fun j => by
    unfold prd
    constructor
    · rintro (⟨_, z2, z3⟩ | ⟨z, _⟩)
      · exact Or.inr ⟨rfl, z2, Or.inl z3⟩
      · omega
    · rintro (⟨z, _⟩ | ⟨_, z2, z3⟩)
      · omega
      · exact Or.inl ⟨rfl, z2, z3.resolve_right (by omega)⟩) h1
  obtain ⟨g2, c2, x2, e2, h2⟩ := nt_in n hR w c1 1 (Or.inr rfl) _ x1 z1
  obtain ⟨nf, Q, a1, a2, a3, a4, a5, a6, a7⟩ := h2
  refine ⟨nf, Q, ?_, a1, a2, a3, fun j hj => a4 j (Or.inr ⟨rfl, hj, Or.inr hj⟩)⟩
  rw [← a5]
  refine nt_e (n + 2) m w (bst (fun p => decide ((p : Int) = w)) 16 : Int) (bst g2 16 : Int) c2 2 (some (aI (nNm m : Int))) x2 ?_ ?_
  · rcases hw with hw | hw
    · refine Or.inl ⟨by omega, ?_⟩
      rw [bst_0 (fun k _ => by simp; omega)]; rfl
    · refine Or.inr ⟨by omega, ?_⟩
      obtain ⟨W, hW⟩ : ∃ W : Nat, (W : Int) = w := ⟨w.toNat, by omega⟩
      have J := jor_ins (fun _ => false) (k := W) (n := 16) (by omega) (by decide)
      have b0 : bst (fun _ => false) 16 = 0 := bst_0 (fun _ _ => rfl)
      rw [b0, jshl_nat (by omega), show ((0 : Nat) : Int) = (((0 : Nat)) : Int) from rfl, jor_nat (by decide) (Nat.lt_of_lt_of_le (Nat.pow_lt_pow_right (by decide) (by omega : W < 31)) (by decide)), Nat.zero_or] at J
      rw [← hW, jshl_nat (by omega), J]
      congr 1
      refine bst_congr (fun k _ => ?_)
      simp only [Bool.false_or, decide_eq_decide]
      omega
  · unfold L_Folk_namesThatStand_1
    rw [d_sLp]
    have f1 := bLp_go (n := 999) (bIt_go (m1 := m) (nt_c1 (n + 2) m w (bst (fun p => decide ((p : Int) = w)) 16 : Int) 0 0 none none (by decide)) (nt_b1 (n + 2) m w _ _ _ _ _ _ none none x1 e1) (nt_s1 (n + 2) m _ _ _ _ 1 _ _ (i32_of (by decide) (by decide))))
    have f2 := bLp_go (n := 998) (bIt_go (m1 := m) (nt_c1 (n + 2) m w (bst g1 16 : Int) c1 1 (some (aI (nNm m : Int))) x1 (by decide)) (nt_b1 (n + 2) m w _ _ _ _ _ _ _ x1 x2 e2) (nt_s1 (n + 2) m _ _ _ _ 2 _ _ (i32_of (by decide) (by decide))))
    exact f1.trans (f2.trans (bLp_out (n := 997) (bIt_ex (nt_x1 (n + 2) m _ _ _ _ _))))
