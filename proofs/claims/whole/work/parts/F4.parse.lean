/-! ===== read: the parser, pure ===== -/
abbrev pR := Sum Nat (Nat × List Int)
def pPut (c : Int) (r : pR) : pR := match r with
  | .inl f => .inl f
  | .inr (q, cs) => .inr (q, cs ++ [c])
def pThen (r : pR) (g : Nat → pR) : pR := match r with
  | .inl f => .inl f
  | .inr (q, cs) => match g q with
    | .inl f => .inl f
    | .inr (q2, ds) => .inr (q2, cs ++ ds)
def pNot (T : Nat → Int) (L : Nat) : Nat → Nat → Bool → Bool × Nat
  | 0, p, b => (b, p)
  | k + 1, p, b => if kTk T L p = 9 then pNot T L k (kE T L p) (!b) else (b, p)
def pCmp (T : Nat → Int) (L p : Nat) : pR := if kTk T L (kE T L p) = 160 ∨ kTk T L (kE T L p) = 161 ∨ kTk T L (kE T L p) = 162 then (if kK T L (kE T L (kE T L p)) = 2 ∧ kW T L (kE T L (kE T L p)) ≤ 999 then .inr (kE T L (kE T L (kE T L p)), [kTk T L p + 256 * (kTk T L (kE T L p) - 100) + 65536 * kW T L (kE T L (kE T L p))]) else .inl (kF T L (kE T L (kE T L p)))) else .inl (kF T L (kE T L p))
def pPar (T : Nat → Int) (L : Nat) (A : Option (Nat → pR)) (p : Nat) : pR := match A with
  | none => .inl (kF T L p)
  | some a => match a (kE T L p) with
    | .inl f => .inl f
    | .inr (q, cs) => if kTk T L q = 141 then .inr (kE T L q, cs) else .inl (kF T L q)
def pBase (T : Nat → Int) (L : Nat) (A : Option (Nat → pR)) (p : Nat) : pR := if kTk T L p = 10 ∨ kTk T L p = 11 then .inr (kE T L p, [kTk T L p]) else if 12 ≤ kTk T L p ∧ kTk T L p ≤ 17 then pCmp T L p else if kTk T L p = 140 then pPar T L A p else .inl (kF T L p)
def pOne (T : Nat → Int) (L : Nat) (A : Option (Nat → pR)) (p : Nat) : pR := if (pNot T L 241 p false).1 = true then pPut 9 (pBase T L A (pNot T L 241 p false).2) else pBase T L A (pNot T L 241 p false).2
def pAnds (T : Nat → Int) (L : Nat) (one : Nat → pR) : Nat → Nat → pR
  | 0, p => .inr (p, [])
  | k + 1, p => if kTk T L p = 8 then pThen (pPut 8 (one (kE T L p))) (pAnds T L one k) else .inr (p, [])
def pAll (T : Nat → Int) (L : Nat) (one : Nat → pR) (p : Nat) : pR := pThen (one p) (pAnds T L one 241)
def pOrs (T : Nat → Int) (L : Nat) (one : Nat → pR) : Nat → Nat → pR
  | 0, p => .inr (p, [])
  | k + 1, p => if kTk T L p = 7 then pThen (pPut 7 (pAll T L one (kE T L p))) (pOrs T L one k) else .inr (p, [])
def pAny (T : Nat → Int) (L : Nat) (one : Nat → pR) (p : Nat) : pR := pThen (pAll T L one p) (pOrs T L one 241)
def pLev (T : Nat → Int) (L : Nat) : Nat → Nat → pR
  | 0, p => pAny T L (pOne T L none) p
  | k + 1, p => pAny T L (pOne T L (some (pLev T L k))) p
/-- who stands above: the parser for what is open, at most k more -/
def pAt (T : Nat → Int) (L : Nat) : Nat → Option (Nat → pR)
  | 0 => none
  | k + 1 => some (pLev T L k)
theorem pLev_eq (T : Nat → Int) (L k p : Nat) : pLev T L k p = pAny T L (pOne T L (pAt T L k)) p := by
  cases k with
  | zero => rfl
  | succ k => rfl
/-! how deep the codes go -/
def cWt (x : Int) : Int := if x = 9 then 0 else if x = 8 ∨ x = 7 then -1 else 1
def dSm : List Int → Int
  | [] => 0
  | x :: r => cWt x + dSm r
def dIn (B s : Int) : List Int → Prop
  | [] => 0 ≤ s ∧ s ≤ B
  | x :: r => (0 ≤ s ∧ s ≤ B) ∧ dIn B (s + cWt x) r
theorem dSm_app : ∀ xs ys : List Int, dSm (xs ++ ys) = dSm xs + dSm ys
  | [], ys => by show dSm ys = 0 + dSm ys; omega
  | x :: r, ys => by
    show cWt x + dSm (r ++ ys) = cWt x + dSm r + dSm ys
    rw [dSm_app r ys]; omega
theorem dIn_app {B : Int} : ∀ {s : Int} {xs ys : List Int}, dIn B s xs → dIn B (s + dSm xs) ys → dIn B s (xs ++ ys)
  | s, [], ys, _, h => by
    have h : dIn B (s + 0) ys := h
    rw [Int.add_zero] at h
    exact h
  | s, x :: r, ys, h1, h2 => ⟨h1.1, dIn_app h1.2 (by
    have h2 : dIn B (s + (cWt x + dSm r)) ys := h2
    rw [← Int.add_assoc] at h2
    exact h2)⟩
theorem dIn_sh {B t : Int} (ht : 0 ≤ t) : ∀ {s : Int} {xs : List Int}, dIn B s xs → dIn (B + t) (s + t) xs
  | s, [], h => by
    have h : 0 ≤ s ∧ s ≤ B := h
    show 0 ≤ s + t ∧ s + t ≤ B + t
    omega
  | s, x :: r, h => by
    refine ⟨by have := h.1; omega, ?_⟩
    have := dIn_sh ht (s := s + cWt x) (xs := r) h.2
    rw [show s + cWt x + t = s + t + cWt x by omega] at this
    exact this
theorem dIn_mono {B C : Int} (hc : B ≤ C) : ∀ {s : Int} {xs : List Int}, dIn B s xs → dIn C s xs
  | s, [], h => by
    have h : 0 ≤ s ∧ s ≤ B := h
    show 0 ≤ s ∧ s ≤ C
    omega
  | s, x :: r, h => ⟨by have := h.1; omega, dIn_mono hc h.2⟩
section
variable {T : Nat → Int} {L : Nat}
theorem kKf_in (f : Nat) : kKf T L f = 0 ∨ kKf T L f = 1 ∨ kKf T L f = 2 ∨ kKf T L f = 3 := by
  unfold kKf
  split
  · exact Or.inl rfl
  · split
    · exact Or.inr (Or.inl rfl)
    · split
      · exact Or.inr (Or.inr (Or.inl rfl))
      · exact Or.inr (Or.inr (Or.inr rfl))
theorem kTk_in (hT : ∀ k, k < 240 → 0 ≤ T k ∧ T k ≤ 255) (hL : L ≤ 240) (p : Nat) : (kK T L p = 0 ∧ kTk T L p = 0) ∨ (kK T L p = 1 ∧ kTk T L p = wCd (kW T L p) ∧ 1 ≤ kTk T L p ∧ kTk T L p ≤ 18) ∨ (kK T L p = 2 ∧ kTk T L p = 19) ∨ (kK T L p = 3 ∧ kTk T L p = 100 + kW T L p ∧ 0 ≤ kW T L p ∧ kW T L p ≤ 255) := by
  have w := wCd_in (kW T L p)
  rcases kKf_in (T := T) (L := L) (kF T L p) with h | h | h | h
  · have h : kK T L p = 0 := h
    refine Or.inl ⟨h, ?_⟩
    unfold kTk; rw [h, if_pos rfl]
  · have h : kK T L p = 1 := h
    have e : kTk T L p = wCd (kW T L p) := by unfold kTk; rw [h, if_neg (by decide), if_pos rfl]
    refine Or.inr (Or.inl ⟨h, e, ?_⟩)
    rw [e]
    omega
  · have h : kK T L p = 2 := h
    refine Or.inr (Or.inr (Or.inl ⟨h, ?_⟩))
    unfold kTk; rw [h, if_neg (by decide), if_neg (by decide), if_pos rfl]
  · have h' : kK T L p = 3 := h
    refine Or.inr (Or.inr (Or.inr ⟨h', ?_, ?_⟩))
    · unfold kTk; rw [h', if_neg (by decide), if_neg (by decide), if_neg (by decide)]
    · unfold kKf at h
      unfold kW kWf
      by_cases h0 : L ≤ kF T L p
      · rw [if_pos h0] at h; exact absurd h (by decide)
      · rw [if_neg h0] at h ⊢
        by_cases h1 : rLt (T (kF T L p)) = true
        · rw [if_pos h1] at h; exact absurd h (by decide)
        · rw [if_neg h1] at h ⊢
          by_cases h2 : rDg (T (kF T L p)) = true
          · rw [if_pos h2] at h; exact absurd h (by decide)
          · rw [if_neg h2]
            exact hT _ (by omega)
/-- a word's length -/
theorem kW_len (hL : L ≤ 240) {p : Nat} (h : kK T L p = 1) : kF T L p < kE T L p ∧ (kE T L p - kF T L p ≤ 1 → kW T L p ≤ 26) ∧ (kE T L p - kF T L p ≤ 2 → kW T L p ≤ 728) ∧ (kE T L p - kF T L p ≤ 3 → kW T L p ≤ 19682) ∧ (kE T L p - kF T L p ≤ 4 → kW T L p ≤ 531440) := by
  unfold kK kKf at h
  unfold kE kG kW kWf
  by_cases h0 : L ≤ kF T L p
  · rw [if_pos h0] at h; exact absurd h (by decide)
  · rw [if_neg h0] at h ⊢
    rw [if_neg h0]
    by_cases h1 : rLt (T (kF T L p)) = true
    · rw [if_pos h1, if_pos h1]
      obtain ⟨a1, a2, a3⟩ := kLe_in hL (by omega) h1
      exact ⟨a1, hsh_hi (fun j hj => rLt_in (a3 j hj))⟩
    · rw [if_neg h1] at h
      by_cases h2 : rDg (T (kF T L p)) = true
      · rw [if_pos h2] at h; exact absurd h (by decide)
      · rw [if_neg h2] at h; exact absurd h (by decide)
/-- a number's worth -/
theorem kW_num (hL : L ≤ 240) {p : Nat} (h : kK T L p = 2) : kF T L p < kE T L p ∧ (kE T L p - kF T L p ≤ 3 → 0 ≤ kW T L p ∧ kW T L p ≤ 999) ∧ (¬ kE T L p - kF T L p ≤ 3 → kW T L p = 1000000000) := by
  unfold kK kKf at h
  unfold kE kG kW kWf
  by_cases h0 : L ≤ kF T L p
  · rw [if_pos h0] at h; exact absurd h (by decide)
  · rw [if_neg h0] at h ⊢
    rw [if_neg h0]
    by_cases h1 : rLt (T (kF T L p)) = true
    · rw [if_pos h1] at h; exact absurd h (by decide)
    · rw [if_neg h1] at h ⊢
      rw [if_neg h1]
      by_cases h2 : rDg (T (kF T L p)) = true
      · rw [if_pos h2, if_pos h2]
        obtain ⟨a1, a2, a3⟩ := kDe_in hL (by omega) h2
        have := nsh_in (d := fun j => T (kF T L p + j)) (n := kDe T L (kF T L p) - kF T L p) (fun j hj => rDg_in (a3 j hj))
        exact ⟨a1, this.2.2.1, fun z => this.2.2.2 (by omega)⟩
      · rw [if_neg h2] at h; exact absurd h (by decide)
theorem kTk_len (hT : ∀ k, k < 240 → 0 ≤ T k ∧ T k ≤ 255) (hL : L ≤ 240) {p : Nat} (hp : p ≤ L) : p ≤ kE T L p ∧ kE T L p ≤ L ∧ kF T L p ≤ L ∧ (kTk T L p ≠ 0 → p + 1 ≤ kE T L p) ∧ (kTk T L p = 7 → p + 2 ≤ kE T L p) ∧ (kTk T L p = 8 → p + 3 ≤ kE T L p) ∧ (kTk T L p = 9 → p + 3 ≤ kE T L p) ∧ (kTk T L p = 10 ∨ kTk T L p = 11 → p + 4 ≤ kE T L p) ∧ (12 ≤ kTk T L p ∧ kTk T L p ≤ 17 → p + 3 ≤ kE T L p) := by
  have a := kF_in (T := T) hL hp
  have b := kE_in (T := T) hL hp
  rcases kTk_in hT hL p with ⟨k, t⟩ | ⟨k, t, u⟩ | ⟨k, t⟩ | ⟨k, t, u⟩
  · omega
  · have w := kW_len hL k
    have c := wCd_in (kW T L p)
    rw [← t] at c
    have b4 := b.2.2.2 (by omega)
    omega
  · have b4 := b.2.2.2 (by omega)
    omega
  · have b4 := b.2.2.2 (by omega)
    omega
/-! what a good parser gives -/
def pGood (T : Nat → Int) (L : Nat) (B : Int) (p : Nat) (r : pR) : Prop := match r with
  | .inl f => f ≤ L
  | .inr (q, cs) => p + 3 * cs.length + 1 ≤ q ∧ q ≤ L ∧ dIn B 0 cs ∧ dSm cs = 1
/-- the same behind something: the stack holds one already, and in the end again -/
def pMore (T : Nat → Int) (L : Nat) (B : Int) (p : Nat) (r : pR) : Prop := match r with
  | .inl f => f ≤ L
  | .inr (q, cs) => p + 3 * cs.length ≤ q ∧ q ≤ L ∧ dIn B 1 cs ∧ dSm cs = 0
theorem pGood_then {B : Int} {p : Nat} {r : pR} {g : Nat → pR} (h : pGood T L B p r) (hg : ∀ q, q ≤ L → pMore T L B q (g q)) : pGood T L B p (pThen r g) := by
  match r, h with
  | .inl f, h => exact h
  | .inr (q, cs), h =>
    obtain ⟨h1, h2, h3, h4⟩ := h
    have e := hg q h2
    show pGood T L B p (match g q with | .inl f => .inl f | .inr (q2, ds) => .inr (q2, cs ++ ds))
    revert e
    cases g q with
    | inl f => exact fun e => e
    | inr x =>
      obtain ⟨q2, ds⟩ := x
      rintro ⟨e1, e2, e3, e4⟩
      refine ⟨by rw [List.length_append]; omega, e2, dIn_app h3 (by rw [h4]; exact e3), by rw [dSm_app, h4, e4]; rfl⟩
theorem pMore_then {B : Int} {p p1 : Nat} {r : pR} {g : Nat → pR} {c : Int} (hc : c = 8 ∨ c = 7) (hp : p + 2 ≤ p1) (h : pGood T L B p1 r) (hg : ∀ q, q ≤ L → pMore T L (B + 1) q (g q)) (hB : 1 ≤ B) : pMore T L (B + 1) p (pThen (pPut c r) g) := by
  match r, h with
  | .inl f, h => exact h
  | .inr (q, cs), h =>
    obtain ⟨h1, h2, h3, h4⟩ := h
    have e := hg q h2
    show pMore T L (B + 1) p (match g q with | .inl f => .inl f | .inr (q2, ds) => .inr (q2, cs ++ [c] ++ ds))
    revert e
    cases g q with
    | inl f => exact fun e => e
    | inr x =>
      obtain ⟨q2, ds⟩ := x
      rintro ⟨e1, e2, e3, e4⟩
      have wc : cWt c = -1 := by rcases hc with hc | hc <;> subst hc <;> rfl
      have h5 := dIn_sh (t := 1) (by decide) h3
      rw [Int.zero_add] at h5
      have h6 : dIn (B + 1) 1 (cs ++ [c]) := dIn_app h5 (by
        rw [h4]
        refine ⟨by omega, ?_⟩
        show 0 ≤ 1 + 1 + cWt c ∧ 1 + 1 + cWt c ≤ B + 1
        rw [wc]; omega)
      have h7 : dSm (cs ++ [c]) = 0 := by
        rw [dSm_app, h4]
        show 1 + (cWt c + 0) = 0
        rw [wc]; rfl
      refine ⟨by simp only [List.length_append, List.length_cons, List.length_nil]; omega, e2, dIn_app h6 (by rw [h7]; exact e3), by rw [dSm_app, h7, e4]; rfl⟩
theorem pMore_0 {B : Int} (hB : 1 ≤ B) {p : Nat} (hp : p ≤ L) : pMore T L B p (.inr (p, [])) := ⟨Nat.le_refl _, hp, ⟨by decide, hB⟩, rfl⟩
theorem pMore_mono {B C : Int} (h : B ≤ C) {p : Nat} {r : pR} (g : pMore T L B p r) : pMore T L C p r := by
  match r, g with
  | .inl f, g => exact g
  | .inr (q, cs), g => exact ⟨g.1, g.2.1, dIn_mono h g.2.2.1, g.2.2.2⟩
theorem pGood_mono {B C : Int} (h : B ≤ C) {p : Nat} {r : pR} (g : pGood T L B p r) : pGood T L C p r := by
  match r, g with
  | .inl f, g => exact g
  | .inr (q, cs), g => exact ⟨g.1, g.2.1, dIn_mono h g.2.2.1, g.2.2.2⟩
theorem pAnds_ok (hT : ∀ k, k < 240 → 0 ≤ T k ∧ T k ≤ 255) (hL : L ≤ 240) {B : Int} (hB : 1 ≤ B) {one : Nat → pR} (h1 : ∀ p, p ≤ L → pGood T L B p (one p)) : ∀ (k p : Nat), p ≤ L → pMore T L (B + 1) p (pAnds T L one k p)
  | 0, p, hp => pMore_0 (by omega) hp
  | k + 1, p, hp => by
    have t := kTk_len hT hL hp
    unfold pAnds
    by_cases z : kTk T L p = 8
    · rw [if_pos z]
      exact pMore_then (Or.inl rfl) (by omega) (h1 _ t.2.1) (fun q hq => pAnds_ok hT hL hB h1 k q hq) hB
    · rw [if_neg z]
      exact pMore_0 (by omega) hp
theorem pAll_ok (hT : ∀ k, k < 240 → 0 ≤ T k ∧ T k ≤ 255) (hL : L ≤ 240) {B : Int} (hB : 1 ≤ B) {one : Nat → pR} (h1 : ∀ p, p ≤ L → pGood T L B p (one p)) {p : Nat} (hp : p ≤ L) : pGood T L (B + 1) p (pAll T L one p) :=
  pGood_then (pGood_mono (by omega) (h1 p hp)) (fun q hq => pAnds_ok hT hL hB h1 241 q hq)
theorem pOrs_ok (hT : ∀ k, k < 240 → 0 ≤ T k ∧ T k ≤ 255) (hL : L ≤ 240) {B : Int} (hB : 1 ≤ B) {one : Nat → pR} (h1 : ∀ p, p ≤ L → pGood T L B p (one p)) : ∀ (k p : Nat), p ≤ L → pMore T L (B + 2) p (pOrs T L one k p)
  | 0, p, hp => pMore_0 (by omega) hp
  | k + 1, p, hp => by
    have t := kTk_len hT hL hp
    unfold pOrs
    by_cases z : kTk T L p = 7
    · rw [if_pos z]
      have := pMore_then (T := T) (L := L) (B := B + 1) (p := p) (p1 := kE T L p) (c := 7) (Or.inr rfl) (by omega) (pAll_ok hT hL hB h1 t.2.1) (fun q hq => by rw [show B + 1 + 1 = B + 2 by omega]; exact pOrs_ok hT hL hB h1 k q hq) (by omega)
      rw [show B + 1 + 1 = B + 2 by omega] at this
      exact this
    · rw [if_neg z]
      exact pMore_0 (by omega) hp
theorem pAny_ok (hT : ∀ k, k < 240 → 0 ≤ T k ∧ T k ≤ 255) (hL : L ≤ 240) {B : Int} (hB : 1 ≤ B) {one : Nat → pR} (h1 : ∀ p, p ≤ L → pGood T L B p (one p)) {p : Nat} (hp : p ≤ L) : pGood T L (B + 2) p (pAny T L one p) :=
  pGood_then (pGood_mono (by omega) (pAll_ok hT hL hB h1 hp)) (fun q hq => pOrs_ok hT hL hB h1 241 q hq)
theorem pNot_ok (hT : ∀ k, k < 240 → 0 ≤ T k ∧ T k ≤ 255) (hL : L ≤ 240) : ∀ (k p : Nat) (b : Bool), p ≤ L → p ≤ (pNot T L k p b).2 ∧ (pNot T L k p b).2 ≤ L ∧ ((pNot T L k p b).1 ≠ b → p + 3 ≤ (pNot T L k p b).2)
  | 0, p, b, hp => ⟨Nat.le_refl _, hp, fun h => absurd rfl h⟩
  | k + 1, p, b, hp => by
    have t := kTk_len hT hL hp
    unfold pNot
    by_cases z : kTk T L p = 9
    · rw [if_pos z]
      have ih := pNot_ok hT hL k (kE T L p) (!b) t.2.1
      refine ⟨by omega, ih.2.1, fun _ => by omega⟩
    · rw [if_neg z]
      exact ⟨Nat.le_refl _, hp, fun h => absurd rfl h⟩
theorem dIn_1 {B c : Int} (hB : 1 ≤ B) (hc : 10 ≤ c) : dIn B 0 [c] ∧ dSm [c] = 1 := by
  have w : cWt c = 1 := by
    unfold cWt
    rw [if_neg (by omega), if_neg (by omega)]
  refine ⟨⟨by omega, ?_⟩, ?_⟩
  · show 0 ≤ 0 + cWt c ∧ 0 + cWt c ≤ B
    rw [w]; omega
  · show cWt c + 0 = 1
    rw [w]; rfl
theorem pBase_ok (hT : ∀ k, k < 240 → 0 ≤ T k ∧ T k ≤ 255) (hL : L ≤ 240) {B : Int} (hB : 1 ≤ B) {A : Option (Nat → pR)} (hA : ∀ a, A = some a → ∀ p, p ≤ L → pGood T L B p (a p)) {p : Nat} (hp : p ≤ L) : pGood T L B p (pBase T L A p) := by
  have t := kTk_len hT hL hp
  unfold pBase
  by_cases z1 : kTk T L p = 10 ∨ kTk T L p = 11
  · rw [if_pos z1]
    obtain ⟨d1, d2⟩ := dIn_1 (B := B) (c := kTk T L p) hB (by omega)
    exact ⟨by simp only [List.length_cons, List.length_nil]; omega, t.2.1, d1, d2⟩
  · rw [if_neg z1]
    by_cases z2 : 12 ≤ kTk T L p ∧ kTk T L p ≤ 17
    · rw [if_pos z2]
      have t2 := kTk_len hT hL (p := kE T L p) t.2.1
      have t3 := kTk_len hT hL (p := kE T L (kE T L p)) t2.2.1
      unfold pCmp
      by_cases y1 : kTk T L (kE T L p) = 160 ∨ kTk T L (kE T L p) = 161 ∨ kTk T L (kE T L p) = 162
      · rw [if_pos y1]
        by_cases y2 : kK T L (kE T L (kE T L p)) = 2 ∧ kW T L (kE T L (kE T L p)) ≤ 999
        · rw [if_pos y2]
          have wn := kW_num hL y2.1
          have t4 := kE_in (T := T) hL (p := kE T L (kE T L p)) t2.2.1
          obtain ⟨d1, d2⟩ := dIn_1 (B := B) (c := kTk T L p + 256 * (kTk T L (kE T L p) - 100) + 65536 * kW T L (kE T L (kE T L p))) hB (by omega)
          exact ⟨by simp only [List.length_cons, List.length_nil]; have := t4.2.2.2 (by omega); omega, t3.2.1, d1, d2⟩
        · rw [if_neg y2]; exact t3.2.2.1
      · rw [if_neg y1]; exact t2.2.2.1
    · rw [if_neg z2]
      by_cases z3 : kTk T L p = 140
      · rw [if_pos z3]
        unfold pPar
        cases A with
        | none => exact t.2.2.1
        | some a =>
          have g := hA a rfl (kE T L p) t.2.1
          show pGood T L B p (match a (kE T L p) with | .inl f => .inl f | .inr (q, cs) => if kTk T L q = 141 then .inr (kE T L q, cs) else .inl (kF T L q))
          revert g
          cases a (kE T L p) with
          | inl f => exact fun g => g
          | inr x =>
            obtain ⟨q, cs⟩ := x
            rintro ⟨g1, g2, g3, g4⟩
            have t2 := kTk_len hT hL (p := q) g2
            show pGood T L B p (if kTk T L q = 141 then .inr (kE T L q, cs) else .inl (kF T L q))
            by_cases y : kTk T L q = 141
            · rw [if_pos y]; exact ⟨by omega, t2.2.1, g3, g4⟩
            · rw [if_neg y]; exact t2.2.2.1
      · rw [if_neg z3]; exact t.2.2.1
theorem pGood_put9 {B : Int} {p p1 : Nat} {r : pR} (hp : p + 3 ≤ p1) (h : pGood T L B p1 r) (hB : 1 ≤ B) : pGood T L B p (pPut 9 r) := by
  match r, h with
  | .inl f, h => exact h
  | .inr (q, cs), h =>
    obtain ⟨h1, h2, h3, h4⟩ := h
    refine ⟨by simp only [List.length_append, List.length_cons, List.length_nil]; omega, h2, dIn_app h3 (by rw [h4]; exact ⟨by omega, by show 0 ≤ 0 + 1 + cWt 9 ∧ 0 + 1 + cWt 9 ≤ B; rw [show cWt 9 = 0 from rfl]; omega⟩), by rw [dSm_app, h4]; rfl⟩
theorem pGood_up {B : Int} {p p1 : Nat} {r : pR} (hp : p ≤ p1) (h : pGood T L B p1 r) : pGood T L B p r := by
  match r, h with
  | .inl f, h => exact h
  | .inr (q, cs), h => exact ⟨by have := h.1; omega, h.2.1, h.2.2.1, h.2.2.2⟩
theorem pOne_ok (hT : ∀ k, k < 240 → 0 ≤ T k ∧ T k ≤ 255) (hL : L ≤ 240) {B : Int} (hB : 1 ≤ B) {A : Option (Nat → pR)} (hA : ∀ a, A = some a → ∀ p, p ≤ L → pGood T L B p (a p)) {p : Nat} (hp : p ≤ L) : pGood T L B p (pOne T L A p) := by
  have n := pNot_ok hT hL 241 p false hp
  unfold pOne
  by_cases z : (pNot T L 241 p false).1 = true
  · rw [if_pos z]
    exact pGood_put9 (n.2.2 (by rw [z]; decide)) (pBase_ok hT hL hB hA n.2.1) hB
  · rw [if_neg z]
    exact pGood_up n.1 (pBase_ok hT hL hB hA n.2.1)
theorem pLev_ok (hT : ∀ k, k < 240 → 0 ≤ T k ∧ T k ≤ 255) (hL : L ≤ 240) : ∀ (k p : Nat), p ≤ L → pGood T L (2 * (k : Int) + 3) p (pLev T L k p)
  | 0, p, hp => by
    have := pAny_ok hT hL (B := 1) (by decide) (one := pOne T L none) (fun p hp => pOne_ok hT hL (by decide) (fun a h => by cases h) hp) hp
    exact this
  | k + 1, p, hp => by
    have ih := pLev_ok hT hL k
    have := pAny_ok hT hL (B := 2 * (k : Int) + 3) (by omega) (one := pOne T L (some (pLev T L k))) (fun p hp => pOne_ok hT hL (by omega) (fun a h => by cases h; exact ih) hp) hp
    rw [show 2 * ((k + 1 : Nat) : Int) + 3 = 2 * (k : Int) + 3 + 2 by omega]
    exact this
end
