/-! ===== the night and what hangs on it, as numbers: c is a memory, read at the class's cells ===== -/
def allB (p : Nat → Bool) : Nat → Bool
  | 0 => true
  | n + 1 => allB p n && p n
theorem allB_iff {p : Nat → Bool} : ∀ {n : Nat}, allB p n = true ↔ ∀ k, k < n → p k = true
  | 0 => by simp [allB]
  | n + 1 => by
    unfold allB
    rw [Bool.and_eq_true, allB_iff]
    constructor
    · rintro ⟨h1, h2⟩ k hk
      rcases Nat.lt_succ_iff_lt_or_eq.mp hk with h | h
      · exact h1 k h
      · rw [h]; exact h2
    · exact fun h => ⟨fun k hk => h k (by omega), h n (by omega)⟩
theorem allB_congr {p q : Nat → Bool} : ∀ {n : Nat}, (∀ k, k < n → p k = q k) → allB p n = allB q n
  | 0, _ => rfl
  | n + 1, h => by
    unfold allB
    rw [allB_congr (fun k hk => h k (by omega)), h n (by omega)]
def anyB (p : Nat → Bool) : Nat → Bool
  | 0 => false
  | n + 1 => anyB p n || p n
theorem anyB_iff {p : Nat → Bool} : ∀ {n : Nat}, anyB p n = true ↔ ∃ k, k < n ∧ p k = true
  | 0 => by simp [anyB]
  | n + 1 => by
    unfold anyB
    rw [Bool.or_eq_true, anyB_iff]
    constructor
    · rintro (⟨k, h1, h2⟩ | h)
      · exact ⟨k, by omega, h2⟩
      · exact ⟨n, by omega, h⟩
    · rintro ⟨k, h1, h2⟩
      rcases Nat.lt_succ_iff_lt_or_eq.mp h1 with h | h
      · exact Or.inl ⟨k, h, h2⟩
      · subst h; exact Or.inr h2
theorem anyB_congr {p q : Nat → Bool} : ∀ {n : Nat}, (∀ k, k < n → p k = q k) → anyB p n = anyB q n
  | 0, _ => rfl
  | n + 1, h => by
    unfold anyB
    rw [anyB_congr (fun k hk => h k (by omega)), h n (by omega)]
abbrev nT : Type := Int × (Nat → Int) × (Nat → Int) × (Nat → Int)
/-- number i of the table of a way -/
def tNo (c : bM) (w : Nat) (i : Int) : Int := c 4 (8 * w + (min i (c 5 w - 1)).toNat)
def nO1 (g f : Int) (k : Nat) (p : Int) : Int := if f ≤ (k : Int) then min g p else 0
def nO2 (c : bM) (w : Nat) (s : Int) (k : Nat) (p : Int) : Int := if s ≤ (k : Int) then min p (tNo c w ((k : Int) - s)) else 0
def nOut (c : bM) (w : Nat) (s g f : Int) (k : Nat) (p : Int) : Int := nO1 g f k p + nO2 c w s k (p - nO1 g f k p)
def nWt (wt sl : Nat → Int) (out : Int) : Nat → Int := fun r => wt r + (if r = 0 then out else wt (r - 1) / sl (r - 1)) - wt r / sl r
/-- whether house h falls now, out of the water and of what fell before -/
def nFl (c : bM) (wt fo : Nat → Int) (h : Nat) : Bool := decide (fo h < 0) && decide (c 7 h ≤ wt (c 6 h).toNat / c 2 (c 6 h).toNat)
def nSl (c : bM) (fl : Nat → Bool) (sl : Nat → Int) : Nat → Nat → Int
  | 0 => sl
  | h + 1 => fun r => if fl h = true ∧ r = (c 6 h).toNat then min 9 (nSl c fl sl h r + 1) else nSl c fl sl h r
def nHs (c : bM) : Nat := (c 1 10).toNat
def nFo (c : bM) (wt fo : Nat → Int) (k : Nat) : Nat → Int := fun h => if h < nHs c ∧ nFl c wt fo h = true then (k : Int) else fo h
def nStep (c : bM) (w : Nat) (s g f : Int) (k : Nat) (t : nT) : nT := (t.1 - nOut c w s g f k t.1, nWt t.2.1 t.2.2.1 (nOut c w s g f k t.1), nSl c (nFl c (nWt t.2.1 t.2.2.1 (nOut c w s g f k t.1)) t.2.2.2) t.2.2.1 (nHs c), nFo c (nWt t.2.1 t.2.2.1 (nOut c w s g f k t.1)) t.2.2.2 k)
/-- the night behind k minutes: the pond, water, rough, when houses fell -/
def nS (c : bM) (w : Nat) (s g f : Int) : Nat → nT
  | 0 => (c 1 7, fun _ => 0, c 3, fun _ => -1)
  | k + 1 => nStep c w s g f k (nS c w s g f k)
def nD (c : bM) (w : Nat) (s g f : Int) (k r : Nat) : Int := (nS c w s g f (k + 1)).2.1 r / c 2 r
def nF (c : bM) (w : Nat) (s g f : Int) (h : Nat) : Int := (nS c w s g f 180).2.2.2 h
/-- night q of 90, with the gate as it is -/
def qD (c : bM) (q k r : Nat) : Int := nD c (q / 30) ((q % 30 : Nat) : Int) (c 1 8) (c 1 9) k r
def qF (c : bM) (q h : Nat) : Int := nF c (q / 30) ((q % 30 : Nat) : Int) (c 1 8) (c 1 9) h
def qFell (c : bM) (q h : Nat) : Bool := decide (0 ≤ qF c q h)
/-- the first minute in which a reach is so deep -/
def qDeep (c : bM) (q r : Nat) (d : Int) : Option Nat := ff (fun k => decide (d ≤ qD c q k r)) 180
def qMax (c : bM) (q r : Nat) : Int := mxx (fun k => qD c q k r) 180
/-- whether row k lets night q -/
def rLet (c : bM) (q k : Nat) : Bool :=
  if c 18 k = 1 then (match qDeep c q (c 19 k).toNat (c 23 k) with
    | some x => decide (c 21 k ≤ (x : Int) ∧ (x : Int) ≤ c 22 k)
    | none => false)
  else if c 18 k = 2 then decide (c 21 k ≤ qMax c q (c 19 k).toNat ∧ qMax c q (c 19 k).toNat ≤ c 22 k)
  else decide (jand (jshr (c 20 k) ((q / 30 : Nat) : Int)) 1 = 1) && decide (c 21 k ≤ ((q % 30 : Nat) : Int) ∧ ((q % 30 : Nat) : Int) ≤ c 22 k)
def rAct (c : bM) (k : Nat) : Bool := decide (c 24 k = 0) && (!decide (c 18 k = 3) || decide (c 26 (c 19 k).toNat = 0))
def nRw (c : bM) : Nat := (c 17 9).toNat
/-- what of the active rows stands against night q -/
def qAg (c : bM) (q k : Nat) : Bool := rAct c k && !rLet c q k
def poss (c : bM) (q : Nat) : Bool := !anyB (qAg c q) (nRw c)
/-- things -/
def wlk (D : Nat → Nat → Int) (g : Int) : Nat → Nat → Nat → Nat
  | 0, _, r => r
  | j + 1, k, r => if r < 12 ∧ g ≤ D k r then wlk D g j (k + 1) (r + 1) else r
def tHm (c : bM) (t : Nat) : Nat := (c 44 t).toNat
def tHome (c : bM) (t : Nat) : Nat := (c 6 (tHm c t)).toNat
def qRest (c : bM) (q t : Nat) : Nat := if qFell c q (tHm c t) = true then wlk (qD c q) (c 46 t) (179 - (qF c q (tHm c t)).toNat) ((qF c q (tHm c t)).toNat + 1) (tHome c t) else tHome c t
def nTh (c : bM) : Nat := (c 37 14).toNat
def pEach (c : bM) (h : Nat) : Bool := anyB (poss c) 90 && allB (fun q => !poss c q || qFell c q h) 90
def pSome (c : bM) (h : Nat) : Bool := anyB (fun q => poss c q && qFell c q h) 90
/-- whether thing t can have been carried to reach r -/
def pCar (c : bM) (t r : Nat) : Bool := anyB (fun q => poss c q && (qFell c q (tHm c t) && decide (qRest c q t = r))) 90
def oM3 (o : Option Nat) : Int := match o with
  | some k => (k : Int)
  | none => -3
def oFar (o : Option Nat) : Int := match o with
  | some k => (k : Int)
  | none => 1000000000
