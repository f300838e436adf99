/-! ===== claimOf, why ===== -/
theorem NgtC_congr0 {i : Nat} {c c1 m m1 : bM} (hk : NgtC i c m) (h : agV c1 c) (hs : agS c1 c) (hf : agT c1 c) (hm : ∀ i, 101 ≤ i → i ≤ 108 → m1 i = m i) : NgtC i c1 m1 := by
  have ha := NgtC_age hk
  rw [← hm 101 (by decide) (by decide)] at ha
  obtain ⟨_, h2, h3, h4, h5⟩ := NgtC_congr hk h hs hf hm
  exact ⟨ha, h2, h3, h4, h5⟩
theorem Inv_any0 {i : Nat} {m m2 : bM} (hI : Inv i m) (ho : ∀ i, (i ≤ 92 ∨ 101 ≤ i ∧ i ≤ 110 ∨ 117 ≤ i ∧ i ≤ 119 ∨ 124 ≤ i ∧ i ≤ 131 ∨ 133 ≤ i ∧ i ≤ 178 ∨ 184 ≤ i ∧ i ≤ 188 ∨ i = 192 ∨ 195 ≤ i ∧ i ≤ 203) → m2 i = m i) (hM : ∀ k, (k = 47 ∨ k = 53 ∨ k = 59 ∨ k = 65 ∨ 79 ≤ k ∧ k ≤ 83 ∨ k = 91) → m2 132 k = m 132 k) : Inv i m2 := by
  obtain ⟨a, b, _, d, e, f, g⟩ := Inv_any hI ho hM
  exact ⟨a, b, NgtC_congr0 (Inv_ngt hI) (fun i a b => ho i (by omega)) ⟨⟨fun i a b => ho i (by omega), by rw [ho 17 (by omega)]⟩, ho _ (by omega), ho _ (by omega)⟩ ⟨ho _ (by omega), ho _ (by omega), by rw [ho 37 (by omega)]⟩ (fun i a b => ho i (by omega)), d, e, f, g⟩
theorem Inv_gat {i : Nat} {m m1 : bM} (hI : Inv i m) (h : frW m m1) (hn : NgtC i m m1) : Inv i m1 := by
  obtain ⟨a, b, _, d, e, f, g⟩ := Inv_ns hI h hn (m2 := m1) (fun _ _ => rfl)
  exact ⟨a, b, NgtC_congr0 hn (fun i a b => h.1 i (by omega)) ⟨⟨fun i a b => h.1 i (by omega), by rw [h.1 17 (by omega)]⟩, h.1 _ (by omega), h.1 _ (by omega)⟩ ⟨h.1 _ (by omega), h.1 _ (by omega), by rw [h.1 37 (by omega)]⟩ (fun _ _ _ => rfl), d, e, f, g⟩
theorem fct_congr {c c1 : bM} (hc : ∀ i, i ≤ 92 → c1 i = c i) (k : Nat) : fct c1 k = fct c k := by
  have e1 : cTh c1 k = cTh c k := by unfold cTh; rw [hc 81 (by decide)]
  have e2 : cPe c1 k = cPe c k := by unfold cPe; rw [hc 80 (by decide)]
  have e3 : cHs c1 k = cHs c k := by unfold cHs; rw [hc 44 (by decide), e1]
  have aV : agV c1 c := fun i _ b => hc i (by omega)
  have aS : agS c1 c := ⟨⟨fun i _ b => hc i (by omega), by rw [hc 17 (by decide)]⟩, hc _ (by decide), hc _ (by decide)⟩
  have aT : agT c1 c := ⟨hc _ (by decide), hc _ (by decide), by rw [hc 37 (by decide)]⟩
  have aF : agF c1 c := ⟨hc _ (by decide), hc _ (by decide), hc _ (by decide), by rw [hc 37 (by decide)]⟩
  have e4 : fndB c1 = fndB c := by
    funext t
    unfold fndB nFn
    rw [hc 37 (by decide)]
    congr 1
    funext f
    unfold cbB
    rw [whoB_congr aV aS aT aF, nTh_congr aT]
  funext i
  match i with
  | 0 => show c1 47 (cTh c1 k) = c 47 (cTh c k); rw [e1, hc _ (by decide)]
  | 1 => show c1 45 (cTh c1 k) = c 45 (cTh c k); rw [e1, hc _ (by decide)]
  | 2 => show c1 40 (cPe c1 k) = c 40 (cPe c k); rw [e2, hc _ (by decide)]
  | 3 => show c1 38 (cPe c1 k) = c 38 (cPe c k); rw [e2, hc _ (by decide)]
  | 4 => show prN c1 k = prN c k; unfold prN; rw [hc 84 (by decide), hc 85 (by decide), hc 79 (by decide)]
  | 5 => show c1 6 (cHs c1 k) = c 6 (cHs c k); rw [e3, hc _ (by decide)]
  | 6 => show (if pEach c1 (cHs c1 k) = true then (1 : Int) else 0) = if pEach c (cHs c k) = true then 1 else 0; rw [e3, pEach_congr aV aS]
  | i + 7 => show (if fndB c1 (cTh c1 k) = true then (1 : Int) else 0) = if fndB c (cTh c k) = true then 1 else 0; rw [e1, e4]
theorem verO_congr {c c1 : bM} (hc : ∀ i, i ≤ 92 → c1 i = c i) (D : Int) : verO c1 D = verO c D := by unfold verO nVs; rw [hc 63 (by decide), hc 64 (by decide)]
theorem lnO_congr {c c1 r r1 : bM} (hc : ∀ i, i ≤ 92 → c1 i = c i) (hr : ∀ i, 162 ≤ i → i ≤ 171 → r1 i = r i) (F : Nat → Int) (s : Int) (o : Option Nat) : lnO F c1 r1 s o = lnO F c r s o := by
  cases o with
  | none => rfl
  | some v =>
    show lnF F c1 r1 s v = lnF F c r s v
    unfold lnF hldB nLn
    simp only [hc 65 (by decide), hr 165 (by decide) (by decide), hr 167 (by decide) (by decide), hr 168 (by decide) (by decide), hr 169 (by decide) (by decide), hr 170 (by decide) (by decide), hr 171 (by decide) (by decide)]
theorem ltO_congr {c c1 r r1 : bM} (hc : ∀ i, i ≤ 92 → c1 i = c i) (hr : ∀ i, 162 ≤ i → i ≤ 171 → r1 i = r i) (s d : Int) (o : Option Nat) : ltO c1 r1 s d o = ltO c r s d o := by
  cases o with
  | none => rfl
  | some v =>
    show ltN r1 v d (ltF c1 r1 s v) = ltN r v d (ltF c r s v)
    unfold ltF nLn ltN
    simp only [hc 65 (by decide), hr 165 (by decide) (by decide), hr 166 (by decide) (by decide)]
theorem brB_congr {c c1 r r1 : bM} (hc : ∀ i, i ≤ 92 → c1 i = c i) (hr : ∀ i, 162 ≤ i → i ≤ 171 → r1 i = r i) (F : Nat → Int) (k : Nat) (o : Option Nat) : brB F c1 r1 k o = brB F c r k o := by
  unfold brB
  rw [lnO_congr hc hr, ltO_congr hc hr, ltO_congr hc hr, hc 82 (by decide)]
theorem owN_congr {c c1 r r1 : bM} (hc : ∀ i, i ≤ 92 → c1 i = c i) (hr : ∀ i, 162 ≤ i → i ≤ 171 → r1 i = r i) (F : Nat → Int) (k : Nat) (o : Option Nat) : owN F c1 r1 k o = owN F c r k o := by
  unfold owN
  rw [brB_congr hc hr, lnO_congr hc hr, hr 166 (by decide) (by decide)]
theorem rkN_congr {c c1 r r1 : bM} (hc : ∀ i, i ≤ 92 → c1 i = c i) (hr : ∀ i, 162 ≤ i → i ≤ 171 → r1 i = r i) (F : Nat → Int) (o : Option Nat) : rkN F c1 r1 o = rkN F c r o := by
  unfold rkN lnNm
  rw [lnO_congr hc hr, hr 166 (by decide) (by decide)]
theorem fct6 (c : bM) (k : Nat) : fct c k 6 = 0 ∨ fct c k 6 = 1 := by
  show (if pEach c (cHs c k) = true then (1 : Int) else 0) = 0 ∨ (if pEach c (cHs c k) = true then (1 : Int) else 0) = 1
  exact ite01v
theorem fct7 (c : bM) (k : Nat) : fct c k 7 = 0 ∨ fct c k 7 = 1 := by
  show (if fndB c (cTh c k) = true then (1 : Int) else 0) = 0 ∨ (if fndB c (cTh c k) = true then (1 : Int) else 0) = 1
  exact ite01v
theorem sp_takeFacts (n k : Nat) {i : Nat} {m : bM} (hI : Inv i m) (hg : m 101 15 = 1) (hk : k < 16) : ∃ m2, sem (n + 4) 164 [aR 111, aI (k : Int)] m = some (m2, 0) ∧ Inv i m2 ∧ bse m m2 ∧ FT (fct m k) m2 ∧ m2 101 15 = 1 ∧ ∀ j, j ≠ 112 → m2 j = m j := by
  have hR := Inv_rel hI
  have e := sp_fillFacts n k 112 hR (fun _ _ => rfl) (Inv_ngt hI) hg hk (Or.inl rfl)
  have o : ∀ j, j ≠ 112 → fwr m m 112 k 8 j = m j := fwr_ne m m 112 k 8
  have p : ∀ j, j < 8 → fwr m m 112 k 8 112 j = fct m k j := fun j hj => by rw [fwr_at, if_pos hj]
  revert e o p
  generalize fwr m m 112 k 8 = y
  intro e o p
  exact ⟨y, tkf_e (n + 3) m y _ e, Inv_any0 hI (fun j hj => o j (by omega)) (fun j _ => by rw [o 132 (by decide)]), fun j hj => o j (by omega), ⟨p, fct6 m k, fct7 m k⟩, by rw [o 101 (by decide)]; exact hg, o⟩
theorem fct4 (c : bM) (k : Nat) : 0 ≤ fct c k 4 := by
  show 0 ≤ prN c k
  unfold prN
  exact Int.natCast_nonneg _
theorem fct0 {c r : bM} (hR : Rel c r) {k : Nat} (hk : k < 16) : 0 ≤ fct c k 0 ∧ fct c k 0 ≤ 999 := by
  have t1 := RelC_rthing (Rel_c hR) k hk
  exact RelF_rworth (Rel_f hR) (cTh c k) (by unfold cTh; omega)
theorem sp_sv {i : Nat} {m : bM} (n : Nat) (hI : Inv i m) : ∃ m2, sem (n + 4) 212 [aR 132] m = some (m2, 0) ∧ Inv (i + 1) m2 ∧ Rel m m2 ∧ NgtR m m2 ∧ frS m m2 := by
  have hR := Inv_rel hI
  obtain ⟨m2, e, hr, hf, g⟩ := sp_survey n hR (Inv_fresh hI)
  exact ⟨m2, e, Inv_sv hI (frW_refl m) (Inv_ngt hI) g hr hf, Rel_congr hR (fun _ _ _ => rfl) (fun i a b => g.1 i (by omega)), hr, g⟩
