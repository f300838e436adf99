/-! ===== what hangs on which cells ===== -/
def agV (c1 c : bM) : Prop := ∀ i, 1 ≤ i → i ≤ 8 → c1 i = c i
def agK (c1 c : bM) : Prop := (∀ i, 18 ≤ i → i ≤ 23 → c1 i = c i) ∧ c1 17 9 = c 17 9
def agS (c1 c : bM) : Prop := agK c1 c ∧ c1 24 = c 24 ∧ c1 26 = c 26
def agT (c1 c : bM) : Prop := c1 44 = c 44 ∧ c1 46 = c 46 ∧ c1 37 14 = c 37 14
def agF (c1 c : bM) : Prop := c1 45 = c 45 ∧ c1 48 = c 48 ∧ c1 49 = c 49 ∧ c1 37 15 = c 37 15
section PC
variable {c c1 : bM}
theorem nSl_congr (e6 : c1 6 = c 6) (fl : Nat → Bool) (sl : Nat → Int) : ∀ n, nSl c1 fl sl n = nSl c fl sl n
  | 0 => rfl
  | n + 1 => by
    unfold nSl
    rw [nSl_congr e6 fl sl n, e6]
theorem nStep_congr (h : agV c1 c) (w : Nat) (s g f : Int) (k : Nat) (t : nT) : nStep c1 w s g f k t = nStep c w s g f k t := by
  have e1 := h 1 (by decide) (by decide)
  have e2 := h 2 (by decide) (by decide)
  have e4 := h 4 (by decide) (by decide)
  have e5 := h 5 (by decide) (by decide)
  have e6 := h 6 (by decide) (by decide)
  have e7 := h 7 (by decide) (by decide)
  have a1 : nOut c1 w s g f k t.1 = nOut c w s g f k t.1 := by unfold nOut nO2 tNo; rw [e4, e5]
  have a2 : ∀ wt fo, nFl c1 wt fo = nFl c wt fo := fun wt fo => by funext x; unfold nFl; rw [e2, e6, e7]
  have a3 : nHs c1 = nHs c := by unfold nHs; rw [e1]
  have a4 : ∀ wt fo, nFo c1 wt fo k = nFo c wt fo k := fun wt fo => by unfold nFo; rw [a3]; funext x; rw [a2]
  unfold nStep
  rw [a1, a2, a3, a4, nSl_congr e6]
theorem nS_congr (h : agV c1 c) (w : Nat) (s g f : Int) : ∀ k, nS c1 w s g f k = nS c w s g f k
  | 0 => by
    unfold nS
    rw [h 1 (by decide) (by decide), h 3 (by decide) (by decide)]
  | k + 1 => by
    unfold nS
    rw [nS_congr h w s g f k, nStep_congr h]
theorem nD_congr (h : agV c1 c) (w : Nat) (s g f : Int) (k r : Nat) : nD c1 w s g f k r = nD c w s g f k r := by
  unfold nD
  rw [nS_congr h, h 2 (by decide) (by decide)]
theorem nF_congr (h : agV c1 c) (w : Nat) (s g f : Int) (x : Nat) : nF c1 w s g f x = nF c w s g f x := by
  unfold nF
  rw [nS_congr h]
theorem qD_congr (h : agV c1 c) (q k r : Nat) : qD c1 q k r = qD c q k r := by
  unfold qD
  rw [nD_congr h, h 1 (by decide) (by decide)]
theorem qF_congr (h : agV c1 c) (q k : Nat) : qF c1 q k = qF c q k := by
  unfold qF
  rw [nF_congr h, h 1 (by decide) (by decide)]
theorem qFell_congr (h : agV c1 c) (q k : Nat) : qFell c1 q k = qFell c q k := by
  unfold qFell
  rw [qF_congr h]
theorem qDeep_congr (h : agV c1 c) (q k : Nat) (d : Int) : qDeep c1 q k d = qDeep c q k d := by
  unfold qDeep
  simp only [qD_congr h]
theorem qMax_congr (h : agV c1 c) (q k : Nat) : qMax c1 q k = qMax c q k := by
  unfold qMax
  simp only [qD_congr h]
theorem rLet_congr (h : agV c1 c) (hk : agK c1 c) (q k : Nat) : rLet c1 q k = rLet c q k := by
  unfold rLet
  rw [hk.1 18 (by decide) (by decide), hk.1 19 (by decide) (by decide), hk.1 20 (by decide) (by decide), hk.1 21 (by decide) (by decide), hk.1 22 (by decide) (by decide), hk.1 23 (by decide) (by decide), qDeep_congr h, qMax_congr h]
theorem rAct_congr (hs : agS c1 c) (k : Nat) : rAct c1 k = rAct c k := by
  unfold rAct
  rw [hs.1.1 18 (by decide) (by decide), hs.1.1 19 (by decide) (by decide), hs.2.1, hs.2.2]
theorem nRw_congr (hk : agK c1 c) : nRw c1 = nRw c := by
  unfold nRw
  rw [hk.2]
theorem qAg_congr (h : agV c1 c) (hs : agS c1 c) (q : Nat) : qAg c1 q = qAg c q := by
  funext k
  unfold qAg
  rw [rAct_congr hs, rLet_congr h hs.1]
theorem poss_congr (h : agV c1 c) (hs : agS c1 c) : poss c1 = poss c := by
  funext q
  unfold poss
  rw [qAg_congr h hs, nRw_congr hs.1]
theorem tHm_congr (hf : agT c1 c) : tHm c1 = tHm c := by
  funext t
  unfold tHm
  rw [hf.1]
theorem qRest_congr (h : agV c1 c) (hf : agT c1 c) (q t : Nat) : qRest c1 q t = qRest c q t := by
  have e : qD c1 q = qD c q := by funext k r; exact qD_congr h q k r
  unfold qRest tHome
  rw [qFell_congr h, qF_congr h, tHm_congr hf, hf.2.1, h 6 (by decide) (by decide), e]
theorem nTh_congr (hf : agT c1 c) : nTh c1 = nTh c := by
  unfold nTh
  rw [hf.2.2]
theorem nHs_congr (h : agV c1 c) : nHs c1 = nHs c := by
  unfold nHs
  rw [h 1 (by decide) (by decide)]
theorem pEach_congr (h : agV c1 c) (hs : agS c1 c) : pEach c1 = pEach c := by
  funext x
  unfold pEach
  rw [poss_congr h hs]
  simp only [qFell_congr h]
theorem pSome_congr (h : agV c1 c) (hs : agS c1 c) : pSome c1 = pSome c := by
  funext x
  unfold pSome
  rw [poss_congr h hs]
  simp only [qFell_congr h]
theorem pCar_congr (h : agV c1 c) (hs : agS c1 c) (hf : agT c1 c) : pCar c1 = pCar c := by
  funext t r
  unfold pCar
  rw [poss_congr h hs, tHm_congr hf]
  simp only [qFell_congr h, qRest_congr h hf]
end PC
/-! ===== what is remembered, and whether it is right; c: the valley, rows, things; m: where it is remembered ===== -/
def Known (c m : bM) (q : Nat) : Prop := (m 103 q = (bst (qFell c q) (nHs c) : Int)) ∧ (m 104 q = (bst (fun k => !decide (c 18 k = 3) && !rLet c q k) (nRw c) : Int)) ∧ (∀ r, r < 12 → m 105 (12 * q + r) = oM3 (qDeep c q r 1)) ∧ (∀ t, t < nTh c → m 106 (12 * q + t) = (qRest c q t : Int))
theorem Known_fallen {c m : bM} {q : Nat} (h : Known c m q) : m 103 q = (bst (qFell c q) (nHs c) : Int) := h.1
theorem Known_against {c m : bM} {q : Nat} (h : Known c m q) : m 104 q = (bst (fun k => !decide (c 18 k = 3) && !rLet c q k) (nRw c) : Int) := h.2.1
theorem Known_wet {c m : bM} {q : Nat} (h : Known c m q) : ∀ r, r < 12 → m 105 (12 * q + r) = oM3 (qDeep c q r 1) := h.2.2.1
theorem Known_thing {c m : bM} {q : Nat} (h : Known c m q) : ∀ t, t < nTh c → m 106 (12 * q + t) = (qRest c q t : Int) := h.2.2.2
def NgtC (i : Nat) (c m : bM) : Prop := (1 ≤ m 101 13 ∧ m 101 13 ≤ (i : Int) + 1) ∧ (∀ q, q < 90 → 0 ≤ m 102 q ∧ m 102 q ≤ m 101 13) ∧ (∀ q, q < 90 → m 102 q = m 101 13 → Known c m q) ∧ (m 101 14 = 0 ∨ m 101 14 = 1 ∧ ∀ q, q < 90 → m 107 q = if poss c q = true then 1 else 0) ∧ (m 101 15 = 0 ∨ m 101 15 = 1 ∧ m 101 14 = 1 ∧ m 101 11 = (bst (pEach c) (nHs c) : Int) ∧ m 101 12 = (bst (pSome c) (nHs c) : Int) ∧ ∀ t, t < 12 → m 108 t = if t < nTh c then (bst (pCar c t) 13 : Int) else 0)
theorem NgtC_age {i : Nat} {c m : bM} (h : NgtC i c m) : 1 ≤ m 101 13 ∧ m 101 13 ≤ (i : Int) + 1 := h.1
theorem NgtC_kn {i : Nat} {c m : bM} (h : NgtC i c m) : ∀ q, q < 90 → 0 ≤ m 102 q ∧ m 102 q ≤ m 101 13 := h.2.1
theorem NgtC_known {i : Nat} {c m : bM} (h : NgtC i c m) : ∀ q, q < 90 → m 102 q = m 101 13 → Known c m q := h.2.2.1
theorem NgtC_wg {i : Nat} {c m : bM} (h : NgtC i c m) : m 101 14 = 0 ∨ m 101 14 = 1 ∧ ∀ q, q < 90 → m 107 q = if poss c q = true then 1 else 0 := h.2.2.2.1
theorem NgtC_gt {i : Nat} {c m : bM} (h : NgtC i c m) : m 101 15 = 0 ∨ m 101 15 = 1 ∧ m 101 14 = 1 ∧ m 101 11 = (bst (pEach c) (nHs c) : Int) ∧ m 101 12 = (bst (pSome c) (nHs c) : Int) ∧ ∀ t, t < 12 → m 108 t = if t < nTh c then (bst (pCar c t) 13 : Int) else 0 := h.2.2.2.2
def hangN (c : bM) (k : Nat) : Nat := cnt (fun q => qAg c q k && allB (fun j => decide (j = k) || !qAg c q j) (nRw c)) 90
def whoB (c : bM) (f t : Nat) : Bool := decide (c 48 f = c 45 t) && anyB (fun q => poss c q && (qFell c q (tHm c t) && decide ((qRest c q t : Int) = c 49 f))) 90
def NgtR (c m : bM) : Prop := (∀ q, q < 90 → m 184 q = if poss c q = true then 1 else 0) ∧ (m 132 59 = (cnt (poss c) 90 : Int)) ∧ (∀ k, k < nRw c → m 185 k = (hangN c k : Int)) ∧ (∀ h, h < 10 → m 186 h = (cnt (fun q => poss c q && qFell c q h) 90 : Int)) ∧ (∀ q, q < 90 → poss c q = true → ∀ r, r < 12 → m 187 (12 * q + r) = oFar (qDeep c q r 1)) ∧ (∀ f : Nat, (f : Int) < c 37 15 → m 188 f = (bst (whoB c f) (nTh c) : Int))
theorem NgtR_poss {c m : bM} (h : NgtR c m) : ∀ q, q < 90 → m 184 q = if poss c q = true then 1 else 0 := h.1
theorem NgtR_many {c m : bM} (h : NgtR c m) : m 132 59 = (cnt (poss c) 90 : Int) := h.2.1
theorem NgtR_hang {c m : bM} (h : NgtR c m) : ∀ k, k < nRw c → m 185 k = (hangN c k : Int) := h.2.2.1
theorem NgtR_falls {c m : bM} (h : NgtR c m) : ∀ h, h < 10 → m 186 h = (cnt (fun q => poss c q && qFell c q h) 90 : Int) := h.2.2.2.1
theorem NgtR_flood {c m : bM} (h : NgtR c m) : ∀ q, q < 90 → poss c q = true → ∀ r, r < 12 → m 187 (12 * q + r) = oFar (qDeep c q r 1) := h.2.2.2.2.1
theorem NgtR_whose {c m : bM} (h : NgtR c m) : ∀ f : Nat, (f : Int) < c 37 15 → m 188 f = (bst (whoB c f) (nTh c) : Int) := h.2.2.2.2.2
theorem Known_congr {c c1 m m1 : bM} {q : Nat} (hk : Known c m q) (h : agV c1 c) (hs : agK c1 c) (hf : agT c1 c) (hm : ∀ i, 103 ≤ i → i ≤ 106 → m1 i = m i) : Known c1 m1 q := by
  have a1 : qFell c1 q = qFell c q := by funext x; exact qFell_congr h q x
  have a2 : ∀ k, rLet c1 q k = rLet c q k := fun k => rLet_congr h hs q k
  unfold Known at hk ⊢
  simp only [hm 103 (by decide) (by decide), hm 104 (by decide) (by decide), hm 105 (by decide) (by decide), hm 106 (by decide) (by decide), hs.1 18 (by decide) (by decide), a1, a2, nHs_congr h, nRw_congr hs, nTh_congr hf, qDeep_congr h, qRest_congr h hf]
  exact hk
theorem NgtC_congr {i : Nat} {c c1 m m1 : bM} (hk : NgtC i c m) (h : agV c1 c) (hs : agS c1 c) (hf : agT c1 c) (hm : ∀ i, 101 ≤ i → i ≤ 108 → m1 i = m i) : NgtC (i + 1) c1 m1 := by
  obtain ⟨h1, h2, h3, h4, h5⟩ := hk
  have e1 := hm 101 (by decide) (by decide)
  have e2 := hm 102 (by decide) (by decide)
  refine ⟨?_, ?_, ?_, ?_, ?_⟩
  · rw [e1]; omega
  · rw [e1, e2]; exact h2
  · rw [e1, e2]; exact fun q hq e => Known_congr (h3 q hq e) h hs.1 hf (fun i a b => hm i (by omega) (by omega))
  · rw [e1, hm 107 (by decide) (by decide), poss_congr h hs]; exact h4
  · rw [e1, hm 108 (by decide) (by decide), pEach_congr h hs, pSome_congr h hs, pCar_congr h hs hf, nHs_congr h, nTh_congr hf]; exact h5
theorem NgtR_congr {c c1 m m1 : bM} (hk : NgtR c m) (h : agV c1 c) (hs : agS c1 c) (hf : agT c1 c) (hg : agF c1 c) (h4 : m1 132 59 = m 132 59) (hm : ∀ i, 184 ≤ i → i ≤ 188 → m1 i = m i) : NgtR c1 m1 := by
  have a1 : hangN c1 = hangN c := by funext k; unfold hangN; simp only [qAg_congr h hs, nRw_congr hs.1]
  have a2 : whoB c1 = whoB c := by
    funext f t
    unfold whoB
    simp only [hg.1, hg.2.1, hg.2.2.1, poss_congr h hs, tHm_congr hf, qFell_congr h, qRest_congr h hf]
  unfold NgtR at hk ⊢
  simp only [h4, hm 184 (by decide) (by decide), hm 185 (by decide) (by decide), hm 186 (by decide) (by decide), hm 187 (by decide) (by decide), hm 188 (by decide) (by decide), a1, a2, poss_congr h hs, nRw_congr hs.1, nHs_congr h, qFell_congr h, qDeep_congr h, hg.2.2.2, nTh_congr hf]
  exact hk
/-! the host, the round, the tape -/
def shelfR (h n l is_ of_ sz : Int) : Prop := (h = 0 ∧ is_ = 3) ∨ (h = 1 ∧ is_ = 0 ∧ of_ = n ∧ 0 ≤ n ∧ n ≤ 15) ∨ (h = 2 ∧ is_ = 1 ∧ of_ = n ∧ 0 ≤ n ∧ n ≤ 15) ∨ (h = 3 ∧ 0 ≤ n ∧ n ≤ 4 ∧ is_ = 10 + n ∧ sz = l)
def HostOK (m : bM) : Prop := (∀ s, s < 4 → m 197 s = m 125 s ∧ -1 ≤ m 125 s ∧ m 125 s ≤ 4) ∧ (∀ s, s < 4 → 0 ≤ m 125 s → m 198 s = m 126 s ∧ 0 ≤ m 126 s ∧ m 126 s ≤ 40 ∧ ∀ i, i < 40 → m 199 (40 * s + i) = m 127 (40 * s + i)) ∧ (∀ s, s < 4 → shelfR (m 128 s) (m 129 s) (m 130 s) (m 200 s) (m 201 s) (m 202 s)) ∧ (m 132 91 = m 124 11 ∧ 0 ≤ m 124 11 ∧ m 124 11 ≤ 30) ∧ (∀ k : Nat, (k : Int) < m 124 11 → m 203 k = m 131 k) ∧ (∀ k, k < 160 → -2147483648 ≤ m 127 k ∧ m 127 k < 2147483648)
theorem HostOK_sort {m : bM} (h : HostOK m) : ∀ s, s < 4 → m 197 s = m 125 s ∧ -1 ≤ m 125 s ∧ m 125 s ≤ 4 := h.1
theorem HostOK_size {m : bM} (h : HostOK m) : ∀ s, s < 4 → 0 ≤ m 125 s → m 198 s = m 126 s ∧ 0 ≤ m 126 s ∧ m 126 s ≤ 40 ∧ ∀ i, i < 40 → m 199 (40 * s + i) = m 127 (40 * s + i) := h.2.1
theorem HostOK_shelf {m : bM} (h : HostOK m) : ∀ s, s < 4 → shelfR (m 128 s) (m 129 s) (m 130 s) (m 200 s) (m 201 s) (m 202 s) := h.2.2.1
theorem HostOK_traced {m : bM} (h : HostOK m) : m 132 91 = m 124 11 ∧ 0 ≤ m 124 11 ∧ m 124 11 ≤ 30 := h.2.2.2.1
theorem HostOK_trace {m : bM} (h : HostOK m) : ∀ k : Nat, (k : Int) < m 124 11 → m 203 k = m 131 k := h.2.2.2.2.1
theorem HostOK_i32s {m : bM} (h : HostOK m) : ∀ k, k < 160 → -2147483648 ≤ m 127 k ∧ m 127 k < 2147483648 := h.2.2.2.2.2
theorem HostOK_congr {m m1 : bM} (h : HostOK m) (e1 : ∀ i, 124 ≤ i → i ≤ 131 → m1 i = m i) (e2 : ∀ i, 197 ≤ i → i ≤ 203 → m1 i = m i) (e3 : m1 132 91 = m 132 91) : HostOK m1 := by
  unfold HostOK at h ⊢
  simp only [e1 124 (by decide) (by decide), e1 125 (by decide) (by decide), e1 126 (by decide) (by decide), e1 127 (by decide) (by decide), e1 128 (by decide) (by decide), e1 129 (by decide) (by decide), e1 130 (by decide) (by decide), e1 131 (by decide) (by decide), e2 197 (by decide) (by decide), e2 198 (by decide) (by decide), e2 199 (by decide) (by decide), e2 200 (by decide) (by decide), e2 201 (by decide) (by decide), e2 202 (by decide) (by decide), e2 203 (by decide) (by decide), e3]
  exact h
def TourOK (m : bM) : Prop := (m 132 79 = m 117 7 ∧ 0 ≤ m 117 7 ∧ m 117 7 ≤ 7) ∧ (∀ k, k < 7 → m 195 k = m 118 k) ∧ (∀ k, k < 7 → m 196 k = m 119 k) ∧ ((m 132 83 = 0 ∧ m 117 4 = 0 ∧ m 117 7 = 0) ∨ (m 132 83 = 1 ∧ 0 < m 117 4 ∧ m 117 4 < 65536 ∧ m 132 80 = m 117 4 ∧ m 132 81 = m 117 5 ∧ 0 ≤ m 117 5 ∧ m 117 5 ≤ 11 ∧ m 132 82 = m 117 6 ∧ 0 ≤ m 117 6 ∧ m 117 6 ≤ 999 ∧ m 117 7 ≤ (cnt (fun k => (m 117 4).toNat.testBit k) 16 : Int) ∧ cnt (fun k => (m 117 4).toNat.testBit k) 16 ≤ 7))
theorem TourOK_rows {m : bM} (h : TourOK m) : m 132 79 = m 117 7 ∧ 0 ≤ m 117 7 ∧ m 117 7 ≤ 7 := h.1
theorem TourOK_claim {m : bM} (h : TourOK m) : ∀ k, k < 7 → m 195 k = m 118 k := h.2.1
theorem TourOK_day {m : bM} (h : TourOK m) : ∀ k, k < 7 → m 196 k = m 119 k := h.2.2.1
theorem TourOK_has {m : bM} (h : TourOK m) : (m 132 83 = 0 ∧ m 117 4 = 0 ∧ m 117 7 = 0) ∨ (m 132 83 = 1 ∧ 0 < m 117 4 ∧ m 117 4 < 65536 ∧ m 132 80 = m 117 4 ∧ m 132 81 = m 117 5 ∧ 0 ≤ m 117 5 ∧ m 117 5 ≤ 11 ∧ m 132 82 = m 117 6 ∧ 0 ≤ m 117 6 ∧ m 117 6 ≤ 999 ∧ m 117 7 ≤ (cnt (fun k => (m 117 4).toNat.testBit k) 16 : Int) ∧ cnt (fun k => (m 117 4).toNat.testBit k) 16 ≤ 7) := h.2.2.2
theorem TourOK_congr {m m1 : bM} (h : TourOK m) (e1 : m1 117 = m 117) (e2 : m1 118 = m 118) (e3 : m1 119 = m 119) (e4 : m1 195 = m 195) (e5 : m1 196 = m 196) (e6 : ∀ k, k = 79 ∨ k = 80 ∨ k = 81 ∨ k = 82 ∨ k = 83 → m1 132 k = m 132 k) : TourOK m1 := by
  unfold TourOK at h ⊢
  simp only [e1, e2, e3, e4, e5, e6 79 (by decide), e6 80 (by decide), e6 81 (by decide), e6 82 (by decide), e6 83 (by decide)]
  exact h
def TapeOK (m : bM) : Prop := (m 132 65 = m 109 2 ∧ 0 ≤ m 109 2 ∧ m 109 2 ≤ 240) ∧ (∀ k, k < 240 → (0 ≤ m 192 k ∧ m 192 k ≤ 255 ∧ m 110 k = if m 192 k < 128 then m 192 k else m 192 k - 256))
theorem TapeOK_len {m : bM} (h : TapeOK m) : m 132 65 = m 109 2 ∧ 0 ≤ m 109 2 ∧ m 109 2 ≤ 240 := h.1
theorem TapeOK_tape {m : bM} (h : TapeOK m) : ∀ k, k < 240 → (0 ≤ m 192 k ∧ m 192 k ≤ 255 ∧ m 110 k = if m 192 k < 128 then m 192 k else m 192 k - 256) := h.2
theorem TapeOK_congr {m m1 : bM} (h : TapeOK m) (e1 : m1 109 2 = m 109 2) (e2 : m1 110 = m 110) (e3 : m1 192 = m 192) (e4 : m1 132 65 = m 132 65) : TapeOK m1 := by
  unfold TapeOK at h ⊢
  simp only [e1, e2, e3, e4]
  exact h
/-! what was kept -/
def kcell (i : Nat) : Nat := if i ≤ 8 then i + 8 else if i ≤ 26 then i + 10 else if i ≤ 49 then i + 13 else if i ≤ 70 then i + 8 else i + 7
def kC (m : bM) : bM := fun i => m (kcell i)
def koff (i : Nat) : Nat := [0, 14, 26, 38, 41, 65, 75, 85, 95, 111, 127, 143, 159, 175, 191, 207, 211, 215, 231, 247, 263, 279, 295, 311, 323, 335, 347, 359, 371, 383, 391, 399, 407, 479, 551, 623, 695, 1335, 1975, 2615, 2631, 2647, 2663, 2679, 2703].getD (i - 133) 0
def kR (m : bM) : bM := fun i k => m 178 (koff i + k)
def Inv (i : Nat) (m : bM) : Prop := (Rel m m) ∧ (m 132 47 = m 0 16 ∧ (m 0 16 = 0 ∨ m 0 16 = 1 ∧ Rel (kC m) (kR m))) ∧ (NgtC i m m) ∧ (m 132 53 = 0 ∨ m 132 53 = 1 ∧ NgtR m m) ∧ (HostOK m) ∧ (TourOK m) ∧ (TapeOK m)
theorem Inv_rel {i : Nat} {m : bM} (h : Inv i m) : Rel m m := h.1
theorem Inv_kept {i : Nat} {m : bM} (h : Inv i m) : m 132 47 = m 0 16 ∧ (m 0 16 = 0 ∨ m 0 16 = 1 ∧ Rel (kC m) (kR m)) := h.2.1
theorem Inv_ngt {i : Nat} {m : bM} (h : Inv i m) : NgtC i m m := h.2.2.1
theorem Inv_fresh {i : Nat} {m : bM} (h : Inv i m) : m 132 53 = 0 ∨ m 132 53 = 1 ∧ NgtR m m := h.2.2.2.1
theorem Inv_host {i : Nat} {m : bM} (h : Inv i m) : HostOK m := h.2.2.2.2.1
theorem Inv_tour {i : Nat} {m : bM} (h : Inv i m) : TourOK m := h.2.2.2.2.2.1
theorem Inv_tape {i : Nat} {m : bM} (h : Inv i m) : TapeOK m := h.2.2.2.2.2.2
