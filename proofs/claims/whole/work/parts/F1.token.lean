/-! ===== read: the class's tokens ===== -/
theorem q_iff0 {κ : bK} {cal : bCl} {ls : bLs} {m m2 : bM} {c : EC κ} {a b : ES κ} (e : c.1.2 cal ls m = some (false, m2)) : (sIf c a b).1.2 cal ls m = b.1.2 cal ls m2 := by
  rw [d_sIf, e, Option.bind_some, if_neg (by simp)]
def sg (b : Int) : Int := if b < 128 then b else b - 256
theorem sg_eq {b c : Int} (hb : 0 ≤ b ∧ b ≤ 255) (hc : 0 ≤ c ∧ c < 128) : sg b = c ↔ b = c := by
  unfold sg
  split <;> omega
theorem sg_255a : ∀ b : Fin 256, jand (sg (b.val : Int)) 255 = (b.val : Int) := by
  intro b
  rw [jand_def]
  revert b
  decide +kernel
theorem sg_255 {b : Int} (hb : 0 ≤ b ∧ b ≤ 255) : jand (sg b) 255 = b := by
  obtain ⟨k, hk⟩ : ∃ k : Nat, b = (k : Int) := ⟨b.toNat, by omega⟩
  subst hk
  exact sg_255a ⟨k, by omega⟩
def wTx : List Int := [112, 97, 121, 32, 114, 97, 110, 107, 32, 98, 97, 114, 32, 108, 97, 116, 101, 32, 112, 114, 111, 111, 102, 32, 105, 102, 32, 111, 114, 32, 97, 110, 100, 32, 110, 111, 116, 32, 102, 101, 108, 108, 32, 102, 111, 117, 110, 100, 32, 119, 111, 114, 116, 104, 32, 115, 111, 114, 116, 32, 116, 114, 97, 100, 101, 32, 107, 105, 110, 32, 112, 114, 111, 111, 102, 115, 32, 114, 101, 97, 99, 104, 32]
theorem wTx_a : ∀ z : Fin 83, tB (z.val : Int) = wTx.getD z.val 0 := by decide +kernel
def wdr (T : Nat → Int) (f e : Nat) : List Int → Nat → Nat → Bool → Option Nat
  | [], _, _, _ => none
  | c :: r, nb, o, s => if c = 32 then (if s = true ∧ f + o = e then some nb else wdr T f e r (nb + 1) 0 true) else wdr T f e r nb (o + 1) (s && (decide (f + o < e) && decide (T (f + o) = c)))
def mtw (T : Nat → Int) (f e : Nat) : List Int → Nat → Bool
  | [], o => decide (f + o = e)
  | c :: r, o => (decide (f + o < e) && decide (T (f + o) = c)) && mtw T f e r (o + 1)
theorem wdr_w {T : Nat → Int} {f e : Nat} {r : List Int} {nb : Nat} : ∀ (w : List Int) (o : Nat) (s : Bool), (∀ c ∈ w, c ≠ 32) → wdr T f e (w ++ 32 :: r) nb o s = if (s && mtw T f e w o) = true then some nb else wdr T f e r (nb + 1) 0 true
  | [], o, s, _ => by
    show (if (32 : Int) = 32 then (if s = true ∧ f + o = e then some nb else wdr T f e r (nb + 1) 0 true) else _) = _
    rw [if_pos rfl]
    show _ = if (s && decide (f + o = e)) = true then _ else _
    by_cases z : s = true ∧ f + o = e
    · rw [if_pos z, if_pos (by rw [z.1, decide_eq_true z.2]; rfl)]
    · rw [if_neg z, if_neg (by rw [Bool.and_eq_true, decide_eq_true_eq]; exact z)]
  | c :: w, o, s, h => by
    show (if c = 32 then _ else wdr T f e (w ++ 32 :: r) nb (o + 1) (s && (decide (f + o < e) && decide (T (f + o) = c)))) = if (s && ((decide (f + o < e) && decide (T (f + o) = c)) && mtw T f e w (o + 1))) = true then _ else _
    rw [if_neg (h c (List.mem_cons_self)), wdr_w w (o + 1) _ (fun x hx => h x (List.mem_cons_of_mem _ hx)), Bool.and_assoc]
/-- a word's worth -/
def hsL (w : List Int) : Int := hsh (fun j => w.getD j 0) w.length
theorem mtw_iff {T : Nat → Int} {f e : Nat} : ∀ (w : List Int) (o : Nat), mtw T f e w o = true ↔ f + o + w.length = e ∧ ∀ j, j < w.length → T (f + o + j) = w.getD j 0
  | [], o => by
    show decide (f + o = e) = true ↔ _
    rw [decide_eq_true_eq]
    exact ⟨fun h => ⟨h, fun j hj => absurd hj (Nat.not_lt_zero _)⟩, fun h => h.1⟩
  | c :: w, o => by
    show ((decide (f + o < e) && decide (T (f + o) = c)) && mtw T f e w (o + 1)) = true ↔ _
    rw [Bool.and_eq_true, Bool.and_eq_true, decide_eq_true_eq, decide_eq_true_eq, mtw_iff w (o + 1)]
    constructor
    · rintro ⟨⟨h1, h2⟩, h3, h4⟩
      refine ⟨by simp only [List.length_cons]; omega, fun j hj => ?_⟩
      cases j with
      | zero => exact h2
      | succ j =>
        have := h4 j (by simp only [List.length_cons] at hj; omega)
        rw [show f + o + (j + 1) = f + (o + 1) + j by omega]
        exact this
    · rintro ⟨h1, h2⟩
      simp only [List.length_cons] at h1 h2
      refine ⟨⟨by omega, h2 0 (by omega)⟩, by omega, fun j hj => ?_⟩
      have := h2 (j + 1) (by omega)
      rw [show f + o + (j + 1) = f + (o + 1) + j by omega] at this
      exact this
theorem mtw_h {T : Nat → Int} {f e : Nat} (hfe : f ≤ e) (hl : ∀ j, j < e - f → 97 ≤ T (f + j) ∧ T (f + j) ≤ 122) {w : List Int} (hw : w.length ≤ 8) (hw2 : ∀ j, j < w.length → 97 ≤ w.getD j 0 ∧ w.getD j 0 ≤ 122) : mtw T f e w 0 = true ↔ hsh (fun j => T (f + j)) (e - f) = hsL w := by
  rw [mtw_iff]
  constructor
  · rintro ⟨h1, h2⟩
    unfold hsL
    rw [show e - f = w.length by omega]
    have gen : ∀ n, n ≤ w.length → hsh (fun j => T (f + j)) n = hsh (fun j => w.getD j 0) n := fun n => by
      induction n with
      | zero => intro _; rfl
      | succ n ih =>
        intro hn
        rw [hsh_s (by omega), hsh_s (by omega), ih (by omega)]
        have := h2 n (by omega)
        rw [Nat.add_zero] at this
        show 27 * _ + T (f + n) - 96 = 27 * _ + w.getD n 0 - 96
        rw [this]
    exact gen _ (Nat.le_refl _)
  · intro h
    obtain ⟨a1, a2⟩ := hsh_inj (m := w.length) (n := e - f) hw hl hw2 h
    exact ⟨by omega, fun j hj => a2 j hj⟩
theorem wTx_w : wTx = [112, 97, 121] ++ 32 :: ([114, 97, 110, 107] ++ 32 :: ([98, 97, 114] ++ 32 :: ([108, 97, 116, 101] ++ 32 :: ([112, 114, 111, 111, 102] ++ 32 :: ([105, 102] ++ 32 :: ([111, 114] ++ 32 :: ([97, 110, 100] ++ 32 :: ([110, 111, 116] ++ 32 :: ([102, 101, 108, 108] ++ 32 :: ([102, 111, 117, 110, 100] ++ 32 :: ([119, 111, 114, 116, 104] ++ 32 :: ([115, 111, 114, 116] ++ 32 :: ([116, 114, 97, 100, 101] ++ 32 :: ([107, 105, 110] ++ 32 :: ([112, 114, 111, 111, 102, 115] ++ 32 :: ([114, 101, 97, 99, 104] ++ 32 :: ([]))))))))))))))))) := by decide
theorem mw_1 {T : Nat → Int} {f e : Nat} (hfe : f ≤ e) (hl : ∀ j, j < e - f → 97 ≤ T (f + j) ∧ T (f + j) ≤ 122) : mtw T f e [112, 97, 121] 0 = decide (hsh (fun j => T (f + j)) (e - f) = 11716) := by
  rw [Bool.eq_iff_iff, mtw_h hfe hl (w := [112, 97, 121]) (by decide) (by decide), decide_eq_true_eq, show hsL [112, 97, 121] = 11716 by decide]
theorem mw_2 {T : Nat → Int} {f e : Nat} (hfe : f ≤ e) (hl : ∀ j, j < e - f → 97 ≤ T (f + j) ∧ T (f + j) ≤ 122) : mtw T f e [114, 97, 110, 107] 0 = decide (hsh (fun j => T (f + j)) (e - f) = 355412) := by
  rw [Bool.eq_iff_iff, mtw_h hfe hl (w := [114, 97, 110, 107]) (by decide) (by decide), decide_eq_true_eq, show hsL [114, 97, 110, 107] = 355412 by decide]
theorem mw_3 {T : Nat → Int} {f e : Nat} (hfe : f ≤ e) (hl : ∀ j, j < e - f → 97 ≤ T (f + j) ∧ T (f + j) ≤ 122) : mtw T f e [98, 97, 114] 0 = decide (hsh (fun j => T (f + j)) (e - f) = 1503) := by
  rw [Bool.eq_iff_iff, mtw_h hfe hl (w := [98, 97, 114]) (by decide) (by decide), decide_eq_true_eq, show hsL [98, 97, 114] = 1503 by decide]
theorem mw_4 {T : Nat → Int} {f e : Nat} (hfe : f ≤ e) (hl : ∀ j, j < e - f → 97 ≤ T (f + j) ∧ T (f + j) ≤ 122) : mtw T f e [108, 97, 116, 101] 0 = decide (hsh (fun j => T (f + j)) (e - f) = 237470) := by
  rw [Bool.eq_iff_iff, mtw_h hfe hl (w := [108, 97, 116, 101]) (by decide) (by decide), decide_eq_true_eq, show hsL [108, 97, 116, 101] = 237470 by decide]
theorem mw_5 {T : Nat → Int} {f e : Nat} (hfe : f ≤ e) (hl : ∀ j, j < e - f → 97 ≤ T (f + j) ∧ T (f + j) ≤ 122) : mtw T f e [112, 114, 111, 111, 102] 0 = decide (hsh (fun j => T (f + j)) (e - f) = 8868696) := by
  rw [Bool.eq_iff_iff, mtw_h hfe hl (w := [112, 114, 111, 111, 102]) (by decide) (by decide), decide_eq_true_eq, show hsL [112, 114, 111, 111, 102] = 8868696 by decide]
theorem mw_6 {T : Nat → Int} {f e : Nat} (hfe : f ≤ e) (hl : ∀ j, j < e - f → 97 ≤ T (f + j) ∧ T (f + j) ≤ 122) : mtw T f e [105, 102] 0 = decide (hsh (fun j => T (f + j)) (e - f) = 249) := by
  rw [Bool.eq_iff_iff, mtw_h hfe hl (w := [105, 102]) (by decide) (by decide), decide_eq_true_eq, show hsL [105, 102] = 249 by decide]
theorem mw_7 {T : Nat → Int} {f e : Nat} (hfe : f ≤ e) (hl : ∀ j, j < e - f → 97 ≤ T (f + j) ∧ T (f + j) ≤ 122) : mtw T f e [111, 114] 0 = decide (hsh (fun j => T (f + j)) (e - f) = 423) := by
  rw [Bool.eq_iff_iff, mtw_h hfe hl (w := [111, 114]) (by decide) (by decide), decide_eq_true_eq, show hsL [111, 114] = 423 by decide]
theorem mw_8 {T : Nat → Int} {f e : Nat} (hfe : f ≤ e) (hl : ∀ j, j < e - f → 97 ≤ T (f + j) ∧ T (f + j) ≤ 122) : mtw T f e [97, 110, 100] 0 = decide (hsh (fun j => T (f + j)) (e - f) = 1111) := by
  rw [Bool.eq_iff_iff, mtw_h hfe hl (w := [97, 110, 100]) (by decide) (by decide), decide_eq_true_eq, show hsL [97, 110, 100] = 1111 by decide]
theorem mw_9 {T : Nat → Int} {f e : Nat} (hfe : f ≤ e) (hl : ∀ j, j < e - f → 97 ≤ T (f + j) ∧ T (f + j) ≤ 122) : mtw T f e [110, 111, 116] 0 = decide (hsh (fun j => T (f + j)) (e - f) = 10631) := by
  rw [Bool.eq_iff_iff, mtw_h hfe hl (w := [110, 111, 116]) (by decide) (by decide), decide_eq_true_eq, show hsL [110, 111, 116] = 10631 by decide]
theorem mw_10 {T : Nat → Int} {f e : Nat} (hfe : f ≤ e) (hl : ∀ j, j < e - f → 97 ≤ T (f + j) ∧ T (f + j) ≤ 122) : mtw T f e [102, 101, 108, 108] 0 = decide (hsh (fun j => T (f + j)) (e - f) = 122079) := by
  rw [Bool.eq_iff_iff, mtw_h hfe hl (w := [102, 101, 108, 108]) (by decide) (by decide), decide_eq_true_eq, show hsL [102, 101, 108, 108] = 122079 by decide]
theorem mw_11 {T : Nat → Int} {f e : Nat} (hfe : f ≤ e) (hl : ∀ j, j < e - f → 97 ≤ T (f + j) ∧ T (f + j) ≤ 122) : mtw T f e [102, 111, 117, 110, 100] 0 = decide (hsh (fun j => T (f + j)) (e - f) = 3499582) := by
  rw [Bool.eq_iff_iff, mtw_h hfe hl (w := [102, 111, 117, 110, 100]) (by decide) (by decide), decide_eq_true_eq, show hsL [102, 111, 117, 110, 100] = 3499582 by decide]
theorem mw_12 {T : Nat → Int} {f e : Nat} (hfe : f ≤ e) (hl : ∀ j, j < e - f → 97 ≤ T (f + j) ∧ T (f + j) ≤ 122) : mtw T f e [119, 111, 114, 116, 104] 0 = decide (hsh (fun j => T (f + j)) (e - f) = 12532058) := by
  rw [Bool.eq_iff_iff, mtw_h hfe hl (w := [119, 111, 114, 116, 104]) (by decide) (by decide), decide_eq_true_eq, show hsL [119, 111, 114, 116, 104] = 12532058 by decide]
theorem mw_13 {T : Nat → Int} {f e : Nat} (hfe : f ≤ e) (hl : ∀ j, j < e - f → 97 ≤ T (f + j) ∧ T (f + j) ≤ 122) : mtw T f e [115, 111, 114, 116] 0 = decide (hsh (fun j => T (f + j)) (e - f) = 385418) := by
  rw [Bool.eq_iff_iff, mtw_h hfe hl (w := [115, 111, 114, 116]) (by decide) (by decide), decide_eq_true_eq, show hsL [115, 111, 114, 116] = 385418 by decide]
theorem mw_14 {T : Nat → Int} {f e : Nat} (hfe : f ≤ e) (hl : ∀ j, j < e - f → 97 ≤ T (f + j) ∧ T (f + j) ≤ 122) : mtw T f e [116, 114, 97, 100, 101] 0 = decide (hsh (fun j => T (f + j)) (e - f) = 10983956) := by
  rw [Bool.eq_iff_iff, mtw_h hfe hl (w := [116, 114, 97, 100, 101]) (by decide) (by decide), decide_eq_true_eq, show hsL [116, 114, 97, 100, 101] = 10983956 by decide]
theorem mw_15 {T : Nat → Int} {f e : Nat} (hfe : f ≤ e) (hl : ∀ j, j < e - f → 97 ≤ T (f + j) ∧ T (f + j) ≤ 122) : mtw T f e [107, 105, 110] 0 = decide (hsh (fun j => T (f + j)) (e - f) = 8276) := by
  rw [Bool.eq_iff_iff, mtw_h hfe hl (w := [107, 105, 110]) (by decide) (by decide), decide_eq_true_eq, show hsL [107, 105, 110] = 8276 by decide]
theorem mw_16 {T : Nat → Int} {f e : Nat} (hfe : f ≤ e) (hl : ∀ j, j < e - f → 97 ≤ T (f + j) ∧ T (f + j) ≤ 122) : mtw T f e [112, 114, 111, 111, 102, 115] 0 = decide (hsh (fun j => T (f + j)) (e - f) = 239454811) := by
  rw [Bool.eq_iff_iff, mtw_h hfe hl (w := [112, 114, 111, 111, 102, 115]) (by decide) (by decide), decide_eq_true_eq, show hsL [112, 114, 111, 111, 102, 115] = 239454811 by decide]
theorem mw_17 {T : Nat → Int} {f e : Nat} (hfe : f ≤ e) (hl : ∀ j, j < e - f → 97 ≤ T (f + j) ∧ T (f + j) ≤ 122) : mtw T f e [114, 101, 97, 99, 104] 0 = decide (hsh (fun j => T (f + j)) (e - f) = 9665171) := by
  rw [Bool.eq_iff_iff, mtw_h hfe hl (w := [114, 101, 97, 99, 104]) (by decide) (by decide), decide_eq_true_eq, show hsL [114, 101, 97, 99, 104] = 9665171 by decide]
theorem wdr_tx {T : Nat → Int} {f e : Nat} (hfe : f ≤ e) (hl : ∀ j, j < e - f → 97 ≤ T (f + j) ∧ T (f + j) ≤ 122) : (match wdr T f e wTx 1 0 true with | some v => (v : Int) | none => 18) = wCd (hsh (fun j => T (f + j)) (e - f)) := by
  obtain ⟨W, hW⟩ : ∃ W, hsh (fun j => T (f + j)) (e - f) = W := ⟨_, rfl⟩
  rw [wTx_w]
  have e1 := fun r nb => wdr_w (T := T) (f := f) (e := e) (r := r) (nb := nb) [112, 97, 121] 0 true (by decide)
  simp only [Bool.true_and, mw_1 hfe hl, hW, decide_eq_true_eq] at e1
  have e2 := fun r nb => wdr_w (T := T) (f := f) (e := e) (r := r) (nb := nb) [114, 97, 110, 107] 0 true (by decide)
  simp only [Bool.true_and, mw_2 hfe hl, hW, decide_eq_true_eq] at e2
  have e3 := fun r nb => wdr_w (T := T) (f := f) (e := e) (r := r) (nb := nb) [98, 97, 114] 0 true (by decide)
  simp only [Bool.true_and, mw_3 hfe hl, hW, decide_eq_true_eq] at e3
  have e4 := fun r nb => wdr_w (T := T) (f := f) (e := e) (r := r) (nb := nb) [108, 97, 116, 101] 0 true (by decide)
  simp only [Bool.true_and, mw_4 hfe hl, hW, decide_eq_true_eq] at e4
  have e5 := fun r nb => wdr_w (T := T) (f := f) (e := e) (r := r) (nb := nb) [112, 114, 111, 111, 102] 0 true (by decide)
  simp only [Bool.true_and, mw_5 hfe hl, hW, decide_eq_true_eq] at e5
  have e6 := fun r nb => wdr_w (T := T) (f := f) (e := e) (r := r) (nb := nb) [105, 102] 0 true (by decide)
  simp only [Bool.true_and, mw_6 hfe hl, hW, decide_eq_true_eq] at e6
  have e7 := fun r nb => wdr_w (T := T) (f := f) (e := e) (r := r) (nb := nb) [111, 114] 0 true (by decide)
  simp only [Bool.true_and, mw_7 hfe hl, hW, decide_eq_true_eq] at e7
  have e8 := fun r nb => wdr_w (T := T) (f := f) (e := e) (r := r) (nb := nb) [97, 110, 100] 0 true (by decide)
  simp only [Bool.true_and, mw_8 hfe hl, hW, decide_eq_true_eq] at e8
  have e9 := fun r nb => wdr_w (T := T) (f := f) (e := e) (r := r) (nb := nb) [110, 111, 116] 0 true (by decide)
  simp only [Bool.true_and, mw_9 hfe hl, hW, decide_eq_true_eq] at e9
  have e10 := fun r nb => wdr_w (T := T) (f := f) (e := e) (r := r) (nb := nb) [102, 101, 108, 108] 0 true (by decide)
  simp only [Bool.true_and, mw_10 hfe hl, hW, decide_eq_true_eq] at e10
  have e11 := fun r nb => wdr_w (T := T) (f := f) (e := e) (r := r) (nb := nb) [102, 111, 117, 110, 100] 0 true (by decide)
  simp only [Bool.true_and, mw_11 hfe hl, hW, decide_eq_true_eq] at e11
  have e12 := fun r nb => wdr_w (T := T) (f := f) (e := e) (r := r) (nb := nb) [119, 111, 114, 116, 104] 0 true (by decide)
  simp only [Bool.true_and, mw_12 hfe hl, hW, decide_eq_true_eq] at e12
  have e13 := fun r nb => wdr_w (T := T) (f := f) (e := e) (r := r) (nb := nb) [115, 111, 114, 116] 0 true (by decide)
  simp only [Bool.true_and, mw_13 hfe hl, hW, decide_eq_true_eq] at e13
  have e14 := fun r nb => wdr_w (T := T) (f := f) (e := e) (r := r) (nb := nb) [116, 114, 97, 100, 101] 0 true (by decide)
  simp only [Bool.true_and, mw_14 hfe hl, hW, decide_eq_true_eq] at e14
  have e15 := fun r nb => wdr_w (T := T) (f := f) (e := e) (r := r) (nb := nb) [107, 105, 110] 0 true (by decide)
  simp only [Bool.true_and, mw_15 hfe hl, hW, decide_eq_true_eq] at e15
  have e16 := fun r nb => wdr_w (T := T) (f := f) (e := e) (r := r) (nb := nb) [112, 114, 111, 111, 102, 115] 0 true (by decide)
  simp only [Bool.true_and, mw_16 hfe hl, hW, decide_eq_true_eq] at e16
  have e17 := fun r nb => wdr_w (T := T) (f := f) (e := e) (r := r) (nb := nb) [114, 101, 97, 99, 104] 0 true (by decide)
  simp only [Bool.true_and, mw_17 hfe hl, hW, decide_eq_true_eq] at e17
  rw [hW]
  rw [e1]
  unfold wCd
  by_cases h1 : W = 11716
  · rw [if_pos h1, if_pos h1]; rfl
  rw [if_neg h1, if_neg h1, e2]
  by_cases h2 : W = 355412
  · rw [if_pos h2, if_pos h2]; rfl
  rw [if_neg h2, if_neg h2, e3]
  by_cases h3 : W = 1503
  · rw [if_pos h3, if_pos h3]; rfl
  rw [if_neg h3, if_neg h3, e4]
  by_cases h4 : W = 237470
  · rw [if_pos h4, if_pos h4]; rfl
  rw [if_neg h4, if_neg h4, e5]
  by_cases h5 : W = 8868696
  · rw [if_pos h5, if_pos h5]; rfl
  rw [if_neg h5, if_neg h5, e6]
  by_cases h6 : W = 249
  · rw [if_pos h6, if_pos h6]; rfl
  rw [if_neg h6, if_neg h6, e7]
  by_cases h7 : W = 423
  · rw [if_pos h7, if_pos h7]; rfl
  rw [if_neg h7, if_neg h7, e8]
  by_cases h8 : W = 1111
  · rw [if_pos h8, if_pos h8]; rfl
  rw [if_neg h8, if_neg h8, e9]
  by_cases h9 : W = 10631
  · rw [if_pos h9, if_pos h9]; rfl
  rw [if_neg h9, if_neg h9, e10]
  by_cases h10 : W = 122079
  · rw [if_pos h10, if_pos h10]; rfl
  rw [if_neg h10, if_neg h10, e11]
  by_cases h11 : W = 3499582
  · rw [if_pos h11, if_pos h11]; rfl
  rw [if_neg h11, if_neg h11, e12]
  by_cases h12 : W = 12532058
  · rw [if_pos h12, if_pos h12]; rfl
  rw [if_neg h12, if_neg h12, e13]
  by_cases h13 : W = 385418
  · rw [if_pos h13, if_pos h13]; rfl
  rw [if_neg h13, if_neg h13, e14]
  by_cases h14 : W = 10983956
  · rw [if_pos h14, if_pos h14]; rfl
  rw [if_neg h14, if_neg h14, e15]
  by_cases h15 : W = 8276
  · rw [if_pos h15, if_pos h15]; rfl
  rw [if_neg h15, if_neg h15, e16]
  by_cases h16 : W = 239454811
  · rw [if_pos h16, if_pos h16]; rfl
  rw [if_neg h16, if_neg h16, e17]
  by_cases h17 : W = 9665171
  · rw [if_pos h17, if_pos h17]; rfl
  rw [if_neg h17, if_neg h17]; rfl
