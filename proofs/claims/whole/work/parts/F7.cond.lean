/-! ===== read: the class's parseCond ===== -/
section
variable {T : Nat → Int} {L S : Nat}
def lRes (T : Nat → Int) (L S c : Nat) (m : bM) (o i : Int) (run : Option bRs) (r : pR) : Prop := match r with
  | .inl f => ∃ m2, run = some (.inr (m2, 0)) ∧ frP S c m m2 ∧ m2 109 4 = (f : Int)
  | .inr (q, cs) => ∃ m2 k, run = some (.inl (0, [some (aR 109), some (aI o), some (aI i), some (aI k)], m2)) ∧ frP S c m m2 ∧ RdI T L S m2 q (c + cs.length) ∧ cdAt (m2 70) (80 * S + c) cs
def oRes (T : Nat → Int) (L S c : Nat) (m : bM) (run : Option bRs) (r : pR) : Prop := match r with
  | .inl f => ∃ m2, run = some (.inr (m2, 0)) ∧ frP S c m m2 ∧ m2 109 4 = (f : Int)
  | .inr (q, cs) => ∃ m2, run = some (.inr (m2, 1)) ∧ frP S c m m2 ∧ RdI T L S m2 q (c + cs.length) ∧ cdAt (m2 70) (80 * S + c) cs
theorem lp_pd2 (n : Nat) (hS : S ≤ 8) (hL : L ≤ 240) (o i : Int) {A : Option (Nat → pR)} {B : Int} (hC : cOne T L S (n + 12) o A) (hG : ∀ p, p ≤ L → pGood T L B p (pOne T L A p)) : ∀ (k p j c bf : Nat) (m : bM), k < bf → 240 - p < k → p ≤ L → 3 * j ≤ p → RdI T L S m p c → 3 * c ≤ p → lRes T L S c m o i (bLp (L_Reader_parseCond_2c.1.2 (sem (n + 12))) (L_Reader_parseCond_2b.1.2 (sem (n + 12))) (L_Reader_parseCond_2s.1.2 (sem (n + 12))) bf [some (aR 109), some (aI o), some (aI i), some (aI (j : Int))] m) (pAnds T L (pOne T L A) k p)
  | 0, p, _, _, _, _, _, h, _, _, _, _ => absurd h (Nat.not_lt_zero _)
  | k + 1, p, j, c, bf, m, hbf, hk, hp, hj, hI, hc => by
    have hT := RdT_T255 (RdI_t hI)
    have t := kTk_len hT hL hp
    have tk := RdS_tok (RdI_s hI)
    obtain ⟨g, hg⟩ : ∃ g, bf = g + 1 := ⟨bf - 1, by omega⟩
    subst hg
    by_cases z : kTk T L p = 8
    · have e : pAnds T L (pOne T L A) (k + 1) p = pThen (pPut 8 (pOne T L A (kE T L p))) (pAnds T L (pOne T L A) k) := by
        show (if kTk T L p = 8 then _ else _) = _
        rw [if_pos z]
      rw [e]
      have j240 : (j : Int) < 240 := by omega
      have k3 := t.2.2.2.2.2.1 z
      have c1 : 3 * c ≤ kE T L p := by omega
      have j31 : j < 2147483647 := by omega
      have cc := pd2_c (n + 12) m o i (j : Int) _ tk j240 z
      obtain ⟨m1, e1, f1, i1⟩ := sp_adv (n + 4) hI hp
      obtain ⟨m2, v, e2, f2, r2⟩ := hC m1 (kE T L p) c i1 t.2.1 c1
      have gd := hG (kE T L p) t.2.1
      revert r2 gd
      cases pOne T L A (kE T L p) with
      | inl f =>
        rintro ⟨r1, r2⟩ _
        subst r1
        exact ⟨m2, bLp_ret (bIt_rt cc (pd2_b0 (n + 12) m m1 m2 o i (j : Int) e1 e2)), frP_trans f1 f2 (Nat.le_refl _), r2⟩
      | inr x =>
        obtain ⟨q, cs⟩ := x
        rintro ⟨r1, r2, r3, r4⟩ ⟨g1, g2, _, _⟩
        subst r1
        have i2 := RdI_of i1 f2 r2 r3
        have c80 : c + cs.length < 80 := by omega
        have q1 : 240 - q < k := by omega
        have q2 : 3 * (j + 1) ≤ q := by omega
        have q3 : 3 * (c + cs.length + 1) ≤ q := by omega
        have kg : k < g := by omega
        obtain ⟨m3, e3, f3, i3, c3⟩ := sp_emit (n + 11) i2 hS c80 8
        have F3 := frP_trans (frP_trans f1 f2 (Nat.le_refl _)) f3 (Nat.le_add_right _ _)
        have go := bIt_go cc (pd2_b1 (n + 12) m m1 m2 m3 o i (j : Int) e1 e2 e3) (pd2_s (n + 12) m3 o i (j : Int) ((j + 1 : Nat) : Int) (i32_s j31))
        have ih := lp_pd2 n hS hL o i hC hG k q (j + 1) (c + cs.length + 1) g m3 kg q1 g2 q2 i3 q3
        rw [bLp_go go]
        have cd : cdAt (m3 70) (80 * S + c) (cs ++ [8]) := cdAt_app (cdAt_fr r4 (fun x hx => f3.2.2 x (by omega))) ⟨by rw [Nat.add_assoc]; exact c3, trivial⟩
        have le : (cs ++ [(8 : Int)]).length = cs.length + 1 := by simp
        show lRes T L S c m o i _ (match pAnds T L (pOne T L A) k q with | .inl f => .inl f | .inr (q2, ds) => .inr (q2, cs ++ [8] ++ ds))
        revert ih
        cases pAnds T L (pOne T L A) k q with
        | inl f =>
          rintro ⟨m4, h1, h2, h3⟩
          exact ⟨m4, h1, frP_trans F3 h2 (by omega), h3⟩
        | inr y =>
          obtain ⟨q2, ds⟩ := y
          rintro ⟨m4, w, h1, h2, h3, h4⟩
          refine ⟨m4, w, h1, frP_trans F3 h2 (by omega), ?_, cdAt_app (cdAt_fr cd (fun x hx => h2.2.2 x (by omega))) ?_⟩
          · have le2 : c + (cs ++ [(8 : Int)] ++ ds).length = c + cs.length + 1 + ds.length := by
              rw [List.length_append, le]; omega
            rw [le2]
            exact h3
          · rw [le, show 80 * S + c + (cs.length + 1) = 80 * S + (c + cs.length + 1) by omega]
            exact h4
    · have e : pAnds T L (pOne T L A) (k + 1) p = .inr (p, []) := by
        show (if kTk T L p = 8 then _ else _) = _
        rw [if_neg z]
      rw [e]
      exact ⟨m, (j : Int), bLp_out (bIt_ex (pd2_x (n + 12) m o i (j : Int) _ tk (by omega) z)), frP_refl _ _ _, hI, trivial⟩
/-- the first part of a turn: what and joins -/
theorem sp_pAll (n : Nat) (hS : S ≤ 8) (hL : L ≤ 240) (o i : Int) {A : Option (Nat → pR)} {B : Int} (hC : cOne T L S (n + 12) o A) (hG : ∀ p, p ≤ L → pGood T L B p (pOne T L A p)) {p c : Nat} {m : bM} (hp : p ≤ L) (hI : RdI T L S m p c) (hc : 3 * c ≤ p) (x : Option bV) : match pAll T L (pOne T L A) p with
    | .inl f => ∃ m2, L_Reader_parseCond_1b.1.2 (sem (n + 12)) [some (aR 109), some (aI o), some (aI i), x] m = some (.inr (m2, 0)) ∧ frP S c m m2 ∧ m2 109 4 = (f : Int)
    | .inr (q, cs) => ∃ m1 m2 k, sem (n + 12) 328 [aR 109, aI o] m = some (m1, 1) ∧ L_Reader_parseCond_2.1.2 (sem (n + 12)) [some (aR 109), some (aI o), some (aI i), some (aI 0)] m1 = some (.inl (0, [some (aR 109), some (aI o), some (aI i), some (aI k)], m2)) ∧ frP S c m m2 ∧ RdI T L S m2 q (c + cs.length) ∧ cdAt (m2 70) (80 * S + c) cs := by
  obtain ⟨m1, v, e1, f1, r1⟩ := hC m p c hI hp hc
  have gd := hG p hp
  unfold pAll
  revert r1 gd
  cases pOne T L A p with
  | inl f =>
    rintro ⟨r1, r2⟩ _
    subst r1
    exact ⟨m1, pd1_b0 (n + 12) m m1 o i x e1, f1, r2⟩
  | inr y =>
    obtain ⟨q, cs⟩ := y
    rintro ⟨r1, r2, r3, r4⟩ ⟨g1, g2, _, _⟩
    subst r1
    have i1 := RdI_of hI f1 r2 r3
    have b1 : 241 < bF := Nat.le_of_ble_eq_true rfl
    have lp := lp_pd2 n hS hL o i hC hG 241 q 0 (c + cs.length) bF m1 b1 (by omega) g2 (by omega) i1 (by omega)
    show match (match pAnds T L (pOne T L A) 241 q with | .inl f => (.inl f : pR) | .inr (q2, ds) => .inr (q2, cs ++ ds)) with | .inl f => _ | .inr (q, cs) => _
    revert lp
    cases pAnds T L (pOne T L A) 241 q with
    | inl f =>
      rintro ⟨m2, h1, h2, h3⟩
      exact ⟨m2, pd1_b1 (n + 12) m m1 m2 o i x e1 (sLp_of (L := L_Reader_parseCond_2) rfl h1), frP_trans f1 h2 (Nat.le_add_right _ _), h3⟩
    | inr z =>
      obtain ⟨q2, ds⟩ := z
      rintro ⟨m2, k, h1, h2, h3, h4⟩
      refine ⟨m1, m2, k, e1, sLp_of (L := L_Reader_parseCond_2) rfl h1, frP_trans f1 h2 (Nat.le_add_right _ _), ?_, cdAt_app (cdAt_fr r4 (fun x hx => h2.2.2 x (by omega))) ?_⟩
      · rw [List.length_append, ← Nat.add_assoc]; exact h3
      · rw [Nat.add_assoc]; exact h4
theorem lp_pd1 (n : Nat) (hS : S ≤ 8) (hL : L ≤ 240) (o : Int) {A : Option (Nat → pR)} {B : Int} (hB : 1 ≤ B) (hC : cOne T L S (n + 12) o A) (hG : ∀ p, p ≤ L → pGood T L B p (pOne T L A p)) : ∀ (k p t c bf : Nat) (x : Option bV) (m : bM), k < bf → 240 - p < k → p ≤ L → 2 * t ≤ p → RdI T L S m p c → 3 * c + (if t = 0 then 0 else 2) ≤ p → oRes T L S c m (bLp (L_Reader_parseCond_1c.1.2 (sem (n + 12))) (L_Reader_parseCond_1b.1.2 (sem (n + 12))) (L_Reader_parseCond_1s.1.2 (sem (n + 12))) bf [some (aR 109), some (aI o), some (aI (t : Int)), x] m) (pThen (if t = 0 then pAll T L (pOne T L A) p else pPut 7 (pAll T L (pOne T L A) p)) (pOrs T L (pOne T L A) k))
  | 0, p, _, _, _, _, _, _, h, _, _, _, _ => absurd h (Nat.not_lt_zero _)
  | k + 1, p, t, c, bf, x, m, hbf, hk, hp, ht, hI, hc => by
    have hT := RdT_T255 (RdI_t hI)
    obtain ⟨g, hg⟩ : ∃ g, bf = g + 1 := ⟨bf - 1, by omega⟩
    subst hg
    have t240 : (t : Int) < 240 := by omega
    have t31 : t < 2147483647 := by omega
    have c3 : 3 * c ≤ p := by omega
    have kg : k < g := by omega
    have cc := pd1_c (n + 12) m o (t : Int) x t240
    have all := sp_pAll n hS hL o (t : Int) hC hG hp hI c3 x
    have gd := pAll_ok hT hL hB hG hp
    revert all gd
    cases pAll T L (pOne T L A) p with
    | inl f =>
      rintro ⟨m2, h1, h2, h3⟩ _
      have e : pThen (if t = 0 then (.inl f : pR) else pPut 7 (.inl f)) (pOrs T L (pOne T L A) (k + 1)) = .inl f := by
        split <;> rfl
      rw [e]
      exact ⟨m2, bLp_ret (bIt_rt cc h1), h2, h3⟩
    | inr y =>
      obtain ⟨q, cs⟩ := y
      rintro ⟨m1, m2, w, e1, e2, f2, i2, d2⟩ ⟨g1, g2, _, _⟩
      have tq := kTk_len hT hL (p := q) g2
      obtain ⟨cs2, hcs⟩ : ∃ cs2, cs2 = if t = 0 then cs else cs ++ [7] := ⟨_, rfl⟩
      have er : (if t = 0 then (.inr (q, cs) : pR) else pPut 7 (.inr (q, cs))) = .inr (q, cs2) := by
        rw [hcs]
        by_cases z : t = 0
        · rw [if_pos z, if_pos z]
        · rw [if_neg z, if_neg z]; rfl
      rw [er]
      have em : ∃ m3, ((¬ 0 < (t : Int) ∧ m3 = m2) ∨ (0 < (t : Int) ∧ sem (n + 12) 329 [aR 109, aI 7] m2 = some (m3, 0))) ∧ frP S c m m3 ∧ RdI T L S m3 q (c + cs2.length) ∧ cdAt (m3 70) (80 * S + c) cs2 ∧ 3 * (c + cs2.length) ≤ q := by
        by_cases z : t = 0
        · rw [if_pos z] at hcs
          subst hcs
          exact ⟨m2, Or.inl ⟨by omega, rfl⟩, f2, i2, d2, by omega⟩
        · rw [if_neg z] at hcs hc
          subst hcs
          have c80 : c + cs.length < 80 := by omega
          have le : (cs ++ [(7 : Int)]).length = cs.length + 1 := by simp
          have q3 : 3 * (c + (cs.length + 1)) ≤ q := by omega
          have tp : 0 < (t : Int) := by omega
          obtain ⟨m3, e3, f3, i3, c3'⟩ := sp_emit (n + 11) i2 hS c80 7
          refine ⟨m3, Or.inr ⟨tp, e3⟩, frP_trans f2 f3 (Nat.le_add_right _ _), by rw [le]; exact i3, cdAt_app (cdAt_fr d2 (fun x hx => f3.2.2 x (by omega))) ⟨by rw [Nat.add_assoc]; exact c3', trivial⟩, by rw [le]; exact q3⟩
      obtain ⟨m3, h3, f3, i3, d3, q3⟩ := em
      have tk := RdS_tok (RdI_s i3)
      by_cases z : kTk T L q = 7
      · have q2 := tq.2.2.2.2.1 z
        have k1 : 240 - kE T L q < k := by omega
        have k2 : 2 * (t + 1) ≤ kE T L q := by omega
        have k3 : 3 * (c + cs2.length) + (if t + 1 = 0 then 0 else 2) ≤ kE T L q := by rw [if_neg (Nat.succ_ne_zero t)]; omega
        obtain ⟨m4, e4, f4, i4⟩ := sp_adv (n + 4) i3 g2
        have go := bIt_go cc (pd1_b2 (n + 12) m m1 m2 m3 m4 o (t : Int) w _ x e1 e2 h3 tk z e4) (pd1_s (n + 12) m4 o (t : Int) ((t + 1 : Nat) : Int) (some (aI w)) (i32_s t31))
        have ih := lp_pd1 n hS hL o hB hC hG k (kE T L q) (t + 1) (c + cs2.length) g (some (aI w)) m4 kg k1 tq.2.1 k2 i4 k3
        rw [if_neg (Nat.succ_ne_zero t)] at ih
        rw [bLp_go go]
        have eo : pOrs T L (pOne T L A) (k + 1) q = pThen (pPut 7 (pAll T L (pOne T L A) (kE T L q))) (pOrs T L (pOne T L A) k) := by
          show (if kTk T L q = 7 then _ else _) = _
          rw [if_pos z]
        show oRes T L S c m _ (match pOrs T L (pOne T L A) (k + 1) q with | .inl f => .inl f | .inr (q2, ds) => .inr (q2, cs2 ++ ds))
        rw [eo]
        have F4 := frP_trans f3 f4 (Nat.le_add_right _ _)
        revert ih
        cases pThen (pPut 7 (pAll T L (pOne T L A) (kE T L q))) (pOrs T L (pOne T L A) k) with
        | inl f =>
          rintro ⟨m5, h5, h6, h7⟩
          exact ⟨m5, h5, frP_trans F4 h6 (Nat.le_add_right _ _), h7⟩
        | inr y =>
          obtain ⟨q5, ds⟩ := y
          rintro ⟨m5, h5, h6, h7, h8⟩
          refine ⟨m5, h5, frP_trans F4 h6 (Nat.le_add_right _ _), ?_, cdAt_app (cdAt_fr d3 (fun x hx => by rw [h6.2.2 x (by omega), f4.2.2 x (by omega)])) ?_⟩
          · rw [List.length_append, ← Nat.add_assoc]; exact h7
          · rw [Nat.add_assoc]; exact h8
      · have eo : pOrs T L (pOne T L A) (k + 1) q = .inr (q, []) := by
          show (if kTk T L q = 7 then _ else _) = _
          rw [if_neg z]
        show oRes T L S c m _ (match pOrs T L (pOne T L A) (k + 1) q with | .inl f => .inl f | .inr (q2, ds) => .inr (q2, cs2 ++ ds))
        rw [eo]
        show oRes T L S c m _ (.inr (q, cs2 ++ []))
        rw [List.append_nil]
        exact ⟨m3, bLp_ret (bIt_rt cc (pd1_b3 (n + 12) m m1 m2 m3 o (t : Int) w _ x e1 e2 h3 tk z)), f3, i3, d3⟩
theorem sp_parseCond (n : Nat) (hS : S ≤ 8) (hL : L ≤ 240) (o : Int) {A : Option (Nat → pR)} {B : Int} (hB : 1 ≤ B) (hC : cOne T L S (n + 12) o A) (hG : ∀ p, p ≤ L → pGood T L B p (pOne T L A p)) : cCond T L S (n + 13) o (pAny T L (pOne T L A)) := fun m p c hI hp hc => by
  have b1 : 241 < bF := Nat.le_of_ble_eq_true rfl
  have lp := lp_pd1 n hS hL o hB hC hG 241 p 0 c bF none m b1 (by omega) hp (by omega) hI (by rw [if_pos rfl]; omega)
  rw [if_pos rfl] at lp
  unfold pAny
  revert lp
  cases pThen (pAll T L (pOne T L A) p) (pOrs T L (pOne T L A) 241) with
  | inl f =>
    rintro ⟨m2, h1, h2, h3⟩
    exact ⟨m2, 0, pd_e (n + 12) m m2 o 0 (sLp_of (L := L_Reader_parseCond_1) rfl h1), h2, rfl, h3⟩
  | inr y =>
    obtain ⟨q, cs⟩ := y
    rintro ⟨m2, h1, h2, h3, h4⟩
    exact ⟨m2, 1, pd_e (n + 12) m m2 o 1 (sLp_of (L := L_Reader_parseCond_1) rfl h1), h2, rfl, RdI_s h3, RdI_c h3, h4⟩
end
/-! the levels -/
theorem cdL_0 {T : Nat → Int} {L S : Nat} (hS : S ≤ 8) (hL : L ≤ 240) (hT : ∀ k, k < 240 → 0 ≤ T k ∧ T k ≤ 255) (n : Nat) : cCond T L S (n + 13) 4 (pLev T L 0) := by
  have e : pLev T L 0 = pAny T L (pOne T L none) := by funext p; rfl
  rw [e]
  exact sp_parseCond n hS hL 4 (B := 1) (by decide) (sp_parseOne n hS hL 4 none (Or.inl ⟨rfl, rfl⟩) ⟨1, by decide, fun a h => by cases h⟩) (fun p hp => pOne_ok hT hL (by decide) (fun a h => by cases h) hp)
theorem cdL_s {T : Nat → Int} {L S : Nat} (hS : S ≤ 8) (hL : L ≤ 240) (hT : ∀ k, k < 240 → 0 ≤ T k ∧ T k ≤ 255) (n k : Nat) (o : Int) (ho : 0 ≤ o ∧ o < 4) (h : cCond T L S (n + 11) (o + 1) (pLev T L k)) : cCond T L S (n + 13) o (pLev T L (k + 1)) := by
  have e : pLev T L (k + 1) = pAny T L (pOne T L (some (pLev T L k))) := by funext p; rfl
  rw [e]
  have g := pLev_ok hT hL k
  exact sp_parseCond n hS hL o (B := 2 * (k : Int) + 3) (by omega) (sp_parseOne n hS hL o (some (pLev T L k)) (Or.inr ⟨_, rfl, ho.1, ho.2, h, _, g⟩) ⟨2 * (k : Int) + 3, by omega, fun a h => by cases h; exact g⟩) (fun p hp => pOne_ok hT hL (by omega) (fun a h => by cases h; exact g) hp)
theorem cdL_4 {T : Nat → Int} {L S : Nat} (hS : S ≤ 8) (hL : L ≤ 240) (hT : ∀ k, k < 240 → 0 ≤ T k ∧ T k ≤ 255) (n : Nat) : cCond T L S (n + 21) 0 (pLev T L 4) := by
  have h0 := cdL_0 (S := S) hS hL hT n
  have h1 := cdL_s hS hL hT (n + 2) 0 3 (by decide) h0
  have h2 := cdL_s hS hL hT (n + 4) 1 2 (by decide) h1
  have h3 := cdL_s hS hL hT (n + 6) 2 1 (by decide) h2
  exact cdL_s hS hL hT (n + 8) 3 0 (by decide) h3
