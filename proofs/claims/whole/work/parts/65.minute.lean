/-! ===== one minute ===== -/
def NI (c : bM) (w : Nat) (s g f : Int) (k : Nat) (m : bM) : Prop := (bse c m) ∧ (m 93 14 = (w : Int)) ∧ (m 93 15 = s) ∧ (m 93 16 = g) ∧ (m 93 17 = f) ∧ (m 93 12 = (nS c w s g f k).1) ∧ (∀ x, x < 12 → m 94 x = (nS c w s g f k).2.1 x) ∧ (∃ F : Nat, m 93 13 = (F : Int) ∧ F ≤ 12 ∧ ∀ r, F ≤ r → r < 12 → (nS c w s g f k).2.1 r = 0) ∧ (∀ x, x < 12 → m 95 x = (nS c w s g f k).2.2.1 x) ∧ (∀ x, x < 12 → m 96 x = mxx (fun j => nD c w s g f j x) k) ∧ (∀ x, x < 12 → m 97 x = oM3 (ff (fun j => decide (1 ≤ nD c w s g f j x)) k)) ∧ (∀ h, h < 10 → m 98 h = if h < nHs c then oM3 (ff (fun j => decide (c 7 h ≤ nD c w s g f j (c 6 h).toNat)) k) else -3) ∧ (∀ q, q < nRw c → c 18 q = 1 → m 99 q = oM3 (ff (fun j => decide (c 23 q ≤ nD c w s g f j (c 19 q).toNat)) k)) ∧ (∀ t, t < nTh c → m 100 t = (tPos c (nD c w s g f) (nS c w s g f k).2.2.2 k t : Int)) ∧ (m 93 10 = (bst (tFlo c (nD c w s g f) (nS c w s g f k).2.2.2 k) (nTh c) : Int))
theorem NI_base {c : bM} {w : Nat} {s g f : Int} {k : Nat} {m : bM} (h : NI c w s g f k m) : bse c m := h.1
theorem NI_way {c : bM} {w : Nat} {s g f : Int} {k : Nat} {m : bM} (h : NI c w s g f k m) : m 93 14 = (w : Int) := h.2.1
theorem NI_start {c : bM} {w : Nat} {s g f : Int} {k : Nat} {m : bM} (h : NI c w s g f k m) : m 93 15 = s := h.2.2.1
theorem NI_lets {c : bM} {w : Nat} {s g f : Int} {k : Nat} {m : bM} (h : NI c w s g f k m) : m 93 16 = g := h.2.2.2.1
theorem NI_gon {c : bM} {w : Nat} {s g f : Int} {k : Nat} {m : bM} (h : NI c w s g f k m) : m 93 17 = f := h.2.2.2.2.1
theorem NI_pond {c : bM} {w : Nat} {s g f : Int} {k : Nat} {m : bM} (h : NI c w s g f k m) : m 93 12 = (nS c w s g f k).1 := h.2.2.2.2.2.1
theorem NI_water {c : bM} {w : Nat} {s g f : Int} {k : Nat} {m : bM} (h : NI c w s g f k m) : ∀ x, x < 12 → m 94 x = (nS c w s g f k).2.1 x := h.2.2.2.2.2.2.1
theorem NI_front {c : bM} {w : Nat} {s g f : Int} {k : Nat} {m : bM} (h : NI c w s g f k m) : ∃ F : Nat, m 93 13 = (F : Int) ∧ F ≤ 12 ∧ ∀ r, F ≤ r → r < 12 → (nS c w s g f k).2.1 r = 0 := h.2.2.2.2.2.2.2.1
theorem NI_rough {c : bM} {w : Nat} {s g f : Int} {k : Nat} {m : bM} (h : NI c w s g f k m) : ∀ x, x < 12 → m 95 x = (nS c w s g f k).2.2.1 x := h.2.2.2.2.2.2.2.2.1
theorem NI_peak {c : bM} {w : Nat} {s g f : Int} {k : Nat} {m : bM} (h : NI c w s g f k m) : ∀ x, x < 12 → m 96 x = mxx (fun j => nD c w s g f j x) k := h.2.2.2.2.2.2.2.2.2.1
theorem NI_wet {c : bM} {w : Nat} {s g f : Int} {k : Nat} {m : bM} (h : NI c w s g f k m) : ∀ x, x < 12 → m 97 x = oM3 (ff (fun j => decide (1 ≤ nD c w s g f j x)) k) := h.2.2.2.2.2.2.2.2.2.2.1
theorem NI_fell {c : bM} {w : Nat} {s g f : Int} {k : Nat} {m : bM} (h : NI c w s g f k m) : ∀ h, h < 10 → m 98 h = if h < nHs c then oM3 (ff (fun j => decide (c 7 h ≤ nD c w s g f j (c 6 h).toNat)) k) else -3 := h.2.2.2.2.2.2.2.2.2.2.2.1
theorem NI_clock {c : bM} {w : Nat} {s g f : Int} {k : Nat} {m : bM} (h : NI c w s g f k m) : ∀ q, q < nRw c → c 18 q = 1 → m 99 q = oM3 (ff (fun j => decide (c 23 q ≤ nD c w s g f j (c 19 q).toNat)) k) := h.2.2.2.2.2.2.2.2.2.2.2.2.1
theorem NI_thing {c : bM} {w : Nat} {s g f : Int} {k : Nat} {m : bM} (h : NI c w s g f k m) : ∀ t, t < nTh c → m 100 t = (tPos c (nD c w s g f) (nS c w s g f k).2.2.2 k t : Int) := h.2.2.2.2.2.2.2.2.2.2.2.2.2.1
theorem NI_aflo {c : bM} {w : Nat} {s g f : Int} {k : Nat} {m : bM} (h : NI c w s g f k m) : m 93 10 = (bst (tFlo c (nD c w s g f) (nS c w s g f k).2.2.2 k) (nTh c) : Int) := h.2.2.2.2.2.2.2.2.2.2.2.2.2.2
theorem oM3_n {o : Option Nat} : (oM3 o = -3) ↔ o = none := by
  cases o with
  | none => simp [oM3]
  | some k => simp [oM3]
theorem oM1_n {o : Option Nat} : (oM1 o < 0) ↔ o = none := by
  cases o with
  | none => simp [oM1]
  | some k => simp [oM1]
theorem mxx_in {f : Nat → Int} {B : Int} (hB : 0 ≤ B) (h : ∀ k, f k ≤ B) (k : Nat) : 0 ≤ mxx f k ∧ mxx f k ≤ B := by
  refine ⟨mxx_nn f k, ?_⟩
  rcases mxx_at f k with q | ⟨j, _, q⟩
  · rw [q]; exact hB
  · rw [q]; exact h j
/-- what is first of its depth, one minute on -/
theorem ff_nx {f : Nat → Int} {d : Int} (hd : 1 ≤ d) (k : Nat) : oM3 (ff (fun j => decide (d ≤ f j)) (k + 1)) = if mxx f k < f k ∧ oM3 (ff (fun j => decide (d ≤ f j)) k) = -3 ∧ d ≤ f k then (k : Int) else oM3 (ff (fun j => decide (d ≤ f j)) k) := by
  by_cases q : mxx f k < f k
  · cases hq : ff (fun j => decide (d ≤ f j)) k with
    | none =>
      rw [ff_up hq]
      by_cases q2 : d ≤ f k
      · rw [if_pos q2, if_pos ⟨q, rfl, q2⟩]; rfl
      · rw [if_neg q2, if_neg (fun z => q2 z.2.2)]
    | some j =>
      rw [ff_stay hq, if_neg (fun z => by have := oM3_n.mp z.2.1; cases this)]
  · rw [ff_low hd (by omega), if_neg (fun z => q z.1)]
section Minute
variable {c r : bM} {w : Nat} {s g f : Int} {k : Nat}
theorem nS_w : (nS c w s g f (k + 1)).2.1 = nWt (nS c w s g f k).2.1 (nS c w s g f k).2.2.1 (nOut c w s g f k (nS c w s g f k).1) := rfl
theorem nS_p : (nS c w s g f (k + 1)).1 = (nS c w s g f k).1 - nOut c w s g f k (nS c w s g f k).1 := rfl
theorem nS_l : (nS c w s g f (k + 1)).2.2.1 = nSl c (nFl c (nS c w s g f (k + 1)).2.1 (nS c w s g f k).2.2.2) (nS c w s g f k).2.2.1 (nHs c) := rfl
theorem nS_f : (nS c w s g f (k + 1)).2.2.2 = nFo c (nS c w s g f (k + 1)).2.1 (nS c w s g f k).2.2.2 k := rfl
/-- the slowing of one reach, by its own houses alone -/
theorem nSl_rgh (fl : Nat → Bool) (sl : Nat → Int) (x : Nat) (hit : Nat → Bool) : ∀ n, (∀ h, h < n → hit h = (fl h && decide (x = (c 6 h).toNat))) → nSl c fl sl n x = rghF hit (sl x) n
  | 0, _ => rfl
  | n + 1, h => by
    unfold nSl rghF
    rw [nSl_rgh fl sl x hit n (fun j hj => h j (by omega)), h n (by omega)]
    simp only [Bool.and_eq_true, decide_eq_true_eq]
theorem rghF_none {hit : Nat → Bool} (a : Int) : ∀ n, (∀ h, h < n → hit h = false) → rghF hit a n = a
  | 0, _ => rfl
  | n + 1, h => by
    unfold rghF
    rw [h n (by omega), rghF_none a n (fun j hj => h j (by omega))]
    rfl
theorem rghF_congr {h1 h2 : Nat → Bool} (a : Int) : ∀ n, (∀ h, h < n → h1 h = h2 h) → rghF h1 a n = rghF h2 a n
  | 0, _ => rfl
  | n + 1, h => by
    unfold rghF
    rw [h n (by omega), rghF_congr a n (fun j hj => h j (by omega))]
/-- whether a house falls in minute k -/
theorem nFl_ff (h : Nat) (hh : h < nHs c) : nFl c (nS c w s g f (k + 1)).2.1 (nS c w s g f k).2.2.2 h = (decide (oM3 (ff (fun j => decide (c 7 h ≤ nD c w s g f j (c 6 h).toNat)) k) = -3) && decide (c 7 h ≤ nD c w s g f k (c 6 h).toNat)) := by
  unfold nFl
  rw [nS_fo, if_pos hh]
  have e : (decide (oM1 (ff (fun j => decide (c 7 h ≤ nD c w s g f j (c 6 h).toNat)) k) < 0)) = decide (oM3 (ff (fun j => decide (c 7 h ≤ nD c w s g f j (c 6 h).toNat)) k) = -3) := by
    apply decide_eq_decide.mpr
    rw [oM1_n, oM3_n]
  rw [e]
  rfl
/-- things, one minute on -/
theorem tPos_nx (t : Nat) : tPos c (nD c w s g f) (nS c w s g f (k + 1)).2.2.2 (k + 1) t = if tFlo c (nD c w s g f) (nS c w s g f k).2.2.2 k t = true ∧ c 46 t ≤ nD c w s g f k (tPos c (nD c w s g f) (nS c w s g f k).2.2.2 k t) then tPos c (nD c w s g f) (nS c w s g f k).2.2.2 k t + 1 else tPos c (nD c w s g f) (nS c w s g f k).2.2.2 k t := by
  have hlt : (nS c w s g f k).2.2.2 (tHm c t) < (k : Int) := by
    rw [nS_fo]
    split
    · cases hq : ff (fun j => decide (c 7 (tHm c t) ≤ nD c w s g f j (c 6 (tHm c t)).toNat)) k with
      | none => show (-1 : Int) < (k : Int); omega
      | some j => have := (ff_some hq).1; show (j : Int) < (k : Int); omega
    · omega
  by_cases h0 : 0 ≤ (nS c w s g f k).2.2.2 (tHm c t)
  · have e : (nS c w s g f (k + 1)).2.2.2 (tHm c t) = (nS c w s g f k).2.2.2 (tHm c t) := by
      rw [nS_f]
      unfold nFo
      rw [if_neg]
      rintro ⟨_, q⟩
      unfold nFl at q
      rw [Bool.and_eq_true, decide_eq_true_eq] at q
      omega
    rw [← tPos_s h0 hlt]
    unfold tPos
    rw [e]
  · have e1 : tFlo c (nD c w s g f) (nS c w s g f k).2.2.2 k t = false := by unfold tFlo; simp [h0]
    rw [if_neg (fun q => by rw [e1] at q; cases q.1)]
    have e2 : tPos c (nD c w s g f) (nS c w s g f k).2.2.2 k t = tHome c t := by unfold tPos; rw [if_neg h0]
    rw [e2]
    unfold tPos
    split
    · have e3 : (nS c w s g f (k + 1)).2.2.2 (tHm c t) = (k : Int) := by
        rename_i q
        rw [nS_f] at q ⊢
        unfold nFo at q ⊢
        split
        · rfl
        · rename_i q2
          rw [if_neg q2] at q
          exact absurd q h0
      rw [e3, tnc, show k + 1 - 1 - k = 0 by omega]
      rfl
    · rfl
theorem tFlo_nx (t : Nat) (hhome : tHome c t < 12) (Z : Nat) (hZ : Z.testBit (tHm c t) = (decide (tHm c t < nHs c) && nFl c (nS c w s g f (k + 1)).2.1 (nS c w s g f k).2.2.2 (tHm c t))) : ((tFlo c (nD c w s g f) (nS c w s g f k).2.2.2 k t && (decide (c 46 t ≤ nD c w s g f k (tPos c (nD c w s g f) (nS c w s g f k).2.2.2 k t)) && decide (tPos c (nD c w s g f) (nS c w s g f k).2.2.2 k t + 1 < 12))) || Z.testBit (tHm c t)) = tFlo c (nD c w s g f) (nS c w s g f (k + 1)).2.2.2 (k + 1) t := by
  have hlt : (nS c w s g f k).2.2.2 (tHm c t) < (k : Int) := by
    rw [nS_fo]
    split
    · cases hq : ff (fun j => decide (c 7 (tHm c t) ≤ nD c w s g f j (c 6 (tHm c t)).toNat)) k with
      | none => show (-1 : Int) < (k : Int); omega
      | some j => have := (ff_some hq).1; show (j : Int) < (k : Int); omega
    · omega
  by_cases h0 : 0 ≤ (nS c w s g f k).2.2.2 (tHm c t)
  · have e0 : nFl c (nS c w s g f (k + 1)).2.1 (nS c w s g f k).2.2.2 (tHm c t) = false := by
      unfold nFl
      have : ¬ (nS c w s g f k).2.2.2 (tHm c t) < 0 := by omega
      simp [this]
    have e : (nS c w s g f (k + 1)).2.2.2 (tHm c t) = (nS c w s g f k).2.2.2 (tHm c t) := by
      rw [nS_f]
      unfold nFo
      rw [if_neg (fun q => by rw [e0] at q; cases q.2)]
    rw [hZ, e0, Bool.and_false, Bool.or_false, ← tFlo_s h0 hlt]
    unfold tFlo
    rw [e]
  · have e1 : tFlo c (nD c w s g f) (nS c w s g f k).2.2.2 k t = false := by unfold tFlo; simp [h0]
    rw [e1, Bool.false_and, Bool.false_or, hZ]
    unfold tFlo
    by_cases q : tHm c t < nHs c ∧ nFl c (nS c w s g f (k + 1)).2.1 (nS c w s g f k).2.2.2 (tHm c t) = true
    · have e3 : (nS c w s g f (k + 1)).2.2.2 (tHm c t) = (k : Int) := by
        rw [nS_f]
        unfold nFo
        rw [if_pos q]
      rw [e3, tnc, show k + 1 - 1 - k = 0 by omega, q.2]
      have e4 : flo (nD c w s g f) (c 46 t) 0 (k + 1) (tHome c t) = true := decide_eq_true hhome
      rw [e4]
      simp [q.1]
    · have e3 : (nS c w s g f (k + 1)).2.2.2 (tHm c t) = (nS c w s g f k).2.2.2 (tHm c t) := by
        rw [nS_f]
        unfold nFo
        rw [if_neg q]
      rw [e3]
      have e5 : (decide (tHm c t < nHs c) && nFl c (nS c w s g f (k + 1)).2.1 (nS c w s g f k).2.2.2 (tHm c t)) = false := by
        cases hx : (decide (tHm c t < nHs c) && nFl c (nS c w s g f (k + 1)).2.1 (nS c w s g f k).2.2.2 (tHm c t)) with
        | false => rfl
        | true =>
          rw [Bool.and_eq_true, decide_eq_true_eq] at hx
          exact absurd hx q
      rw [e5]
      simp [h0]
end Minute
