/-! ===== the flow of statements ===== -/
section Flow
variable {κ : bK}
def sSeq (a b : ES κ) : ES κ := ⟨(fun bp cp pc => (a.1.1 bp cp pc).bind fun e => e.bind fun p => b.1.1 bp cp p, fun cal ls m => (a.1.2 cal ls m).bind fun r => match r with
  | .inl (0, ls', m') => b.1.2 cal ls' m'
  | r => some r), by
  refine ⟨?_, ?_⟩
  · intro j cal hO bp cp pc e ls m r h1 h2 h3
    obtain ⟨e1, he1, h4⟩ := bb_of h1
    obtain ⟨p, rfl, hb⟩ := bb_of h4
    obtain ⟨r1, g1, g2⟩ := bb_of h2
    refine a.2.1 j cal hO bp cp pc _ ls m r1 he1 g1 ?_
    match r1, g2 with
    | .inl (0, ls', m'), g2 => exact fun x hx => by cases hx; exact b.2.1 j cal hO bp cp _ e ls' m' r hb g2 h3
    | .inl (1, ls', m'), g2 => cases g2; exact h3
    | .inl (n + 2, ls', m'), g2 => cases g2; exact h3
    | .inr q, g2 => cases g2; exact h3
  · intro bp cp pc cal ls ls' m m' h1 h2
    obtain ⟨e1, he1, h4⟩ := bb_of h1
    obtain ⟨p, rfl, hb⟩ := bb_of h4
    obtain ⟨r1, g1, g2⟩ := bb_of h2
    match r1, g2 with
    | .inl (0, ls1, m1), g2 => exact b.2.2 bp cp _ cal ls1 ls' m1 m' hb g2
    | .inl (1, ls1, m1), g2 => cases g2
    | .inl (n + 2, ls1, m1), g2 => cases g2
    | .inr q, g2 => cases g2⟩
/-- where two ways meet -/
def bmt (a b : Option Nat) : Option (Option Nat) := match a, b with
  | none, b => some b
  | some x, none => some (some x)
  | some x, some y => if x = y then some (some x) else none
theorem bmt_of {a b e : Option Nat} (h : bmt a b = some e) : (a = none ∨ a = e) ∧ (b = none ∨ b = e) ∧ (e = none → a = none ∧ b = none) := by
  match a, b, h with
  | none, b, h => cases h; exact ⟨Or.inl rfl, Or.inr rfl, fun h => ⟨rfl, h⟩⟩
  | some x, none, h => cases h; exact ⟨Or.inr rfl, Or.inl rfl, fun h => by cases h⟩
  | some x, some y, h =>
    obtain ⟨h1, h2⟩ := gd_of (show (if x = y then some (some x) else none) = some e from h)
    subst h1; cases h2
    exact ⟨Or.inr rfl, Or.inr rfl, fun h => by cases h⟩
theorem bPo_sub {j : bJ} {a e : Option Nat} {bp cp : Nat} {r : bRs} (h : a = none ∨ a = e) (hp : bPo κ j e bp cp r) : bPo κ j a bp cp r := by
  rcases h with rfl | rfl
  · match r, hp with
    | .inl (0, ls, m), hp => exact fun x hx => by cases hx
    | .inl (1, ls, m), hp => exact hp
    | .inl (n + 2, ls, m), hp => exact hp
    | .inr q, hp => exact hp
  · exact hp
def sIf (c : EC κ) (a b : ES κ) : ES κ := ⟨(fun bp cp pc => (c.1.1 0 pc).bind fun x => (a.1.1 bp cp x.1).bind fun e1 => (b.1.1 bp cp x.2).bind fun e2 => bmt e1 e2, fun cal ls m => (c.1.2 cal ls m).bind fun t => if t.1 = true then a.1.2 cal ls t.2 else b.1.2 cal ls t.2), by
  refine ⟨?_, ?_⟩
  · intro j cal hO bp cp pc e ls m r h1 h2 h3
    obtain ⟨⟨pt, pf⟩, hc, h4⟩ := bb_of h1
    obtain ⟨e1, ha, h5⟩ := bb_of h4
    obtain ⟨e2, hb, h6⟩ := bb_of h5
    obtain ⟨q1, q2, q3⟩ := bmt_of h6
    obtain ⟨⟨t, m1⟩, g1, g2⟩ := bb_of h2
    refine c.2 j cal hO 0 pc pt pf ls [] m m1 t hc (Nat.le_refl 0) g1 ?_
    cases t with
    | true => exact a.2.1 j cal hO bp cp pt e1 ls m1 r ha g2 (bPo_sub q1 h3)
    | false => exact b.2.1 j cal hO bp cp pf e2 ls m1 r hb g2 (bPo_sub q2 h3)
  · intro bp cp pc cal ls ls' m m' h1 h2
    obtain ⟨⟨pt, pf⟩, hc, h4⟩ := bb_of h1
    obtain ⟨e1, ha, h5⟩ := bb_of h4
    obtain ⟨e2, hb, h6⟩ := bb_of h5
    obtain ⟨q1, q2, q3⟩ := bmt_of h6
    obtain ⟨rfl, rfl⟩ := q3 rfl
    obtain ⟨⟨t, m1⟩, g1, g2⟩ := bb_of h2
    cases t with
    | true => exact a.2.2 bp cp pt cal ls ls' m1 m' ha g2
    | false => exact b.2.2 bp cp pf cal ls ls' m1 m' hb g2⟩
def sBrk : ES κ := ⟨(fun bp _ pc => if g4 κ.2.1 pc = bp then some none else none, fun _ ls m => some (.inl (1, ls, m))), by
  refine ⟨?_, ?_⟩
  · intro j cal hO bp cp pc e ls m r h1 h2 h3
    obtain ⟨h4, h5⟩ := gd_of h1
    cases h5; cases h2; subst h4
    exact zz_g4 h3
  · intro bp cp pc cal ls ls' m m' h1 h2
    cases h2⟩
def sCnt : ES κ := ⟨(fun _ cp pc => if g4 κ.2.1 pc = cp then some none else none, fun _ ls m => some (.inl (2, ls, m))), by
  refine ⟨?_, ?_⟩
  · intro j cal hO bp cp pc e ls m r h1 h2 h3
    obtain ⟨h4, h5⟩ := gd_of h1
    cases h5; cases h2; subst h4
    exact zz_g4 h3
  · intro bp cp pc cal ls ls' m m' h1 h2
    cases h2⟩
def sRetV : ES κ := ⟨(fun _ _ pc => if decode κ.2.1 pc = .ok (.return_, 1) ∧ κ.2.2.2.1.isNone = true then some none else none, fun _ _ m => some (.inr (m, 0))), by
  refine ⟨?_, ?_⟩
  · intro j cal hO bp cp pc e ls m r h1 h2 h3
    obtain ⟨h4, h5⟩ := gd_of h1
    cases h2
    exact (h3 pc ls).1 h4.1 (Option.isNone_iff_eq_none.mp h4.2) rfl
  · intro bp cp pc cal ls ls' m m' h1 h2
    cases h2⟩
def brc (r : Option FieldType) : Nat := match r with
  | none => 0
  | some .int => 1
  | some .boolean => 2
  | some .long => 3
  | _ => 4
def sRet (e : EI κ) : ES κ := ⟨(fun _ _ pc => (e.1.1 0 pc).bind fun p => if decode κ.2.1 p = .ok (.ireturn, 1) ∧ (brc κ.2.2.2.1 = 1 ∨ brc κ.2.2.2.1 = 2) then some none else none, fun cal ls m => (e.1.2 cal ls m).bind fun x => if brc κ.2.2.2.1 = 1 ∨ 0 ≤ x.1 ∧ x.1 ≤ 1 then some (.inr (x.2, x.1)) else none), by
  refine ⟨?_, ?_⟩
  · intro j cal hO bp cp pc e1 ls m r h1 h2 h3
    obtain ⟨p, hp, h4⟩ := bb_of h1
    obtain ⟨⟨h5, h6⟩, h7⟩ := gd_of h4
    obtain ⟨⟨x, m1⟩, g1, g2⟩ := bb_of h2
    obtain ⟨g3, g4⟩ := gd_of g2
    cases g4
    refine e.2 j cal hO 0 pc p ls [] m m1 x hp (Nat.le_refl 0) g1 ((h3 p ls).2.1 h5 ?_)
    unfold brc at h6 g3
    match hr : κ.2.2.2.1, h6, g3 with
    | some .int, _, _ => exact Or.inl rfl
    | some .boolean, _, g3 => exact Or.inr ⟨rfl, by rcases g3 with g | g; (cases g); exact g⟩
    | none, h6, _ => rcases h6 with h | h <;> cases h
    | some .long, h6, _ => rcases h6 with h | h <;> cases h
    | some .byte, h6, _ => rcases h6 with h | h <;> cases h
    | some .char, h6, _ => rcases h6 with h | h <;> cases h
    | some .short, h6, _ => rcases h6 with h | h <;> cases h
    | some .float, h6, _ => rcases h6 with h | h <;> cases h
    | some .double, h6, _ => rcases h6 with h | h <;> cases h
    | some (.object _), h6, _ => rcases h6 with h | h <;> cases h
    | some (.array _), h6, _ => rcases h6 with h | h <;> cases h
  · intro bp cp pc cal ls ls' m m' h1 h2
    obtain ⟨⟨x, m1⟩, g1, g2⟩ := bb_of h2
    obtain ⟨g3, g4⟩ := gd_of g2
    cases g4⟩
def sRetL (e : EL κ) : ES κ := ⟨(fun _ _ pc => (e.1.1 0 pc).bind fun p => if decode κ.2.1 p = .ok (.lreturn, 1) ∧ κ.2.2.2.1 = some .long then some none else none, fun cal ls m => (e.1.2 cal ls m).bind fun x => some (.inr (x.2, x.1))), by
  refine ⟨?_, ?_⟩
  · intro j cal hO bp cp pc e1 ls m r h1 h2 h3
    obtain ⟨p, hp, h4⟩ := bb_of h1
    obtain ⟨⟨h5, h6⟩, h7⟩ := gd_of h4
    obtain ⟨⟨x, m1⟩, g1, g2⟩ := bb_of h2
    cases g2
    exact e.2 j cal hO 0 pc p ls [] m m1 x hp (Nat.le_refl 0) g1 ((h3 p ls).2.2 h5 h6)
  · intro bp cp pc cal ls ls' m m' h1 h2
    obtain ⟨⟨x, m1⟩, g1, g2⟩ := bb_of h2
    cases g2⟩
/-! loops: the fuel is far more than any loop here takes -/
def bF : Nat := 1000
def bLp (c : bLs → bM → Option (Bool × bM)) (b s : bLs → bM → Option bRs) : Nat → bLs → bM → Option bRs
  | 0, _, _ => none
  | n + 1, ls, m => (c ls m).bind fun t => if t.1 = true then (b ls t.2).bind fun r => match r with
      | .inl (1, ls', m') => some (.inl (0, ls', m'))
      | .inl (_, ls', m') => (s ls' m').bind fun r2 => match r2 with
        | .inl (0, ls'', m'') => bLp c b s n ls'' m''
        | _ => none
      | .inr q => some (.inr q)
    else some (.inl (0, ls, t.2))
def sLp (cpc : Nat) (c : EC κ) (b s : ES κ) : ES κ := ⟨(fun _ _ pc => (c.1.1 0 pc).bind fun x => (b.1.1 x.2 cpc x.1).bind fun e => (s.1.1 0 0 cpc).bind fun e2 => if (e = none ∨ e = some cpc) ∧ e2 = some pc then some (some x.2) else none, fun cal ls m => bLp (c.1.2 cal) (b.1.2 cal) (s.1.2 cal) bF ls m), by
  refine ⟨?_, ?_⟩
  · intro j cal hO bp cp pc e ls m r h1 h2 h3
    obtain ⟨⟨pt, pf⟩, hc, h4⟩ := bb_of h1
    obtain ⟨e1, hb, h5⟩ := bb_of h4
    obtain ⟨e2, hs, h6⟩ := bb_of h5
    obtain ⟨⟨q1, q2⟩, h7⟩ := gd_of h6
    cases h7
    subst q2
    revert h2
    generalize bF = n
    intro h2
    induction n generalizing ls m with
    | zero => cases h2
    | succ n ih =>
      unfold bLp at h2
      obtain ⟨⟨t, m1⟩, g1, g2⟩ := bb_of h2
      refine c.2 j cal hO 0 pc pt pf ls [] m m1 t hc (Nat.le_refl 0) g1 ?_
      cases t with
      | false => cases g2; exact h3 _ rfl
      | true =>
        obtain ⟨r1, g3, g4⟩ := bb_of (show (b.1.2 cal ls m1).bind _ = some r from g2)
        refine b.2.1 j cal hO pf cpc pt e1 ls m1 r1 hb g3 ?_
        have key : ∀ ls' m', ((s.1.2 cal ls' m').bind fun r2 => match r2 with
            | .inl (0, ls'', m'') => bLp (c.1.2 cal) (b.1.2 cal) (s.1.2 cal) n ls'' m''
            | _ => none) = some r → zz κ j cpc ls' [] m' := fun ls' m' g => by
          obtain ⟨r2, g5, g6⟩ := bb_of g
          refine s.2.1 j cal hO 0 0 cpc _ ls' m' r2 hs g5 ?_
          match r2, g6 with
          | .inl (0, ls2, m2), g6 => exact fun x hx => by cases hx; exact ih ls2 m2 g6
          | .inl (n + 1, ls2, m2), g6 => cases g6
          | .inr q, g6 => cases g6
        match r1, g4 with
        | .inl (0, ls', m'), g4 =>
          intro x hx
          rcases q1 with rfl | rfl
          · cases hx
          · cases hx; exact key _ _ g4
        | .inl (1, ls', m'), g4 => cases g4; exact h3 _ rfl
        | .inl (n + 2, ls', m'), g4 => exact key _ _ g4
        | .inr q, g4 => cases g4; exact h3
  · intro bp cp pc cal ls ls' m m' h1 h2
    obtain ⟨⟨pt, pf⟩, hc, h4⟩ := bb_of h1
    obtain ⟨e1, hb, h5⟩ := bb_of h4
    obtain ⟨e2, hs, h6⟩ := bb_of h5
    obtain ⟨⟨q1, q2⟩, h7⟩ := gd_of h6
    cases h7⟩
/-! switches -/
def bsw (cc : ByteArray) (p : Nat) (a : Int) : Option Nat := match decode cc p with
  | .ok (.tableswitch d lo hi offs, _) => if a < lo ∨ hi < a then (if 0 ≤ (p : Int) + d then some ((p : Int) + d).toNat else none) else (offs[(a - lo).toNat]?).bind fun o => if 0 ≤ (p : Int) + o then some ((p : Int) + o).toNat else none
  | .ok (.lookupswitch d ps, _) => if (ps.toList.zip (ps.toList.drop 1)).all (fun (a, next) => a.1 < next.1) = true ∧ 0 ≤ (p : Int) + Op.lookupswitch.offset ps.toList d a then some ((p : Int) + Op.lookupswitch.offset ps.toList d a).toNat else none
  | _ => none
theorem zz_sw {j : bJ} {ls : bLs} {st : List bV} {m : bM} {p t : Nat} {a : Int} (h : bsw κ.2.1 p a = some t) (kk : zz κ j t ls st m) : zz κ j p ls (aI a :: st) m := by
  unfold bsw at h
  split at h
  · rename_i d lo hi offs len hd
    split at h
    · rename_i ho
      obtain ⟨h1, h2⟩ := gd_of h
      cases h2
      exact z_tableOut hd ho (by omega) kk
    · rename_i ho
      obtain ⟨o, h1, h2⟩ := bb_of h
      obtain ⟨h3, h4⟩ := gd_of h2
      cases h4
      exact z_tableIn a hd rfl (by omega) h1 (by omega) kk
  · rename_i d ps len hd
    obtain ⟨⟨h1, h2⟩, h3⟩ := gd_of h
    cases h3
    exact z_lookup hd h1 rfl (by omega) kk
  · cases h
/-- all values but those of vs go to t -/
def bsd (cc : ByteArray) (p : Nat) (vs : List Int) : Option Nat := match decode cc p with
  | .ok (.tableswitch d lo hi offs, _) => if 0 ≤ (p : Int) + d ∧ ((List.range (hi - lo + 1).toNat).all fun n => vs.contains (lo + n) || offs[n]? == some d) = true then some ((p : Int) + d).toNat else none
  | .ok (.lookupswitch d ps, _) => if (ps.toList.zip (ps.toList.drop 1)).all (fun (a, next) => a.1 < next.1) = true ∧ 0 ≤ (p : Int) + d ∧ (ps.toList.all fun q => vs.contains q.1) = true then some ((p : Int) + d).toNat else none
  | _ => none
theorem off_none {d a : Int} : ∀ (l : List (Int × Int)), (∀ q ∈ l, q.1 ≠ a) → Op.lookupswitch.offset l d a = d
  | [], _ => rfl
  | (x, o) :: r, h => by
    rw [Op.lookupswitch.offset_cons, if_neg (h (x, o) List.mem_cons_self)]
    exact off_none r (fun q hq => h q (List.mem_cons_of_mem _ hq))
theorem bsd_of {cc : ByteArray} {p t : Nat} {vs : List Int} (h : bsd cc p vs = some t) {a : Int} (ha : a ∉ vs) : bsw cc p a = some t := by
  unfold bsd at h
  unfold bsw
  split at h
  · rename_i d lo hi offs len hd
    obtain ⟨⟨h1, h2⟩, h3⟩ := gd_of h
    cases h3
    split
    · first | rfl | rw [if_pos h1]
    · rename_i ho
      have hn : (a - lo).toNat < (hi - lo + 1).toNat := by omega
      have h4 := List.all_eq_true.mp h2 (a - lo).toNat (List.mem_range.mpr hn)
      have e : lo + ((a - lo).toNat : Int) = a := by omega
      rw [e] at h4
      simp only [Bool.or_eq_true, beq_iff_eq, List.contains_iff_mem] at h4
      rcases h4 with h4 | h4
      · exact absurd h4 ha
      · rw [h4]
        show (if _ then _ else _) = _
        rw [if_pos h1]
  · rename_i d ps len hd
    obtain ⟨⟨h1, h2, h2'⟩, h3⟩ := gd_of h
    cases h3
    have e : Op.lookupswitch.offset ps.toList d a = d := off_none _ (fun q hq e => by
      have := List.all_eq_true.mp h2' q hq
      simp only [List.contains_iff_mem] at this
      exact ha (e ▸ this))
    rw [e, if_pos ⟨h1, h2⟩]
  · cases h
/-- the cases of a switch -/
def ET (κ : bK) : Type := {q : (Nat → List Int → Nat → Nat → Option (Option Nat)) × (bCl → Int → bLs → bM → Option bRs) // (∀ (j : bJ) (cal : bCl), bOr κ j cal → ∀ (bp cp pc : Nat) (vs : List Int) (e : Option Nat) (a : Int) (ls : bLs) (m : bM) (r : bRs), q.1 pc vs bp cp = some e → a ∉ vs → q.2 cal a ls m = some r → bPo κ j e bp cp r → zz κ j pc ls [aI a] m) ∧ ∀ (bp cp pc : Nat) (vs : List Int) (cal : bCl) (a : Int) (ls ls' : bLs) (m m' : bM), q.1 pc vs bp cp = some none → q.2 cal a ls m ≠ some (.inl (0, ls', m'))}
def tDef (b : ES κ) : ET κ := ⟨(fun pc vs bp cp => (bsd κ.2.1 pc vs).bind fun t => b.1.1 bp cp (g4 κ.2.1 t), fun cal _ ls m => b.1.2 cal ls m), by
  refine ⟨?_, ?_⟩
  · intro j cal hO bp cp pc vs e a ls m r h1 ha h2 h3
    obtain ⟨t, h4, h5⟩ := bb_of h1
    exact zz_sw (bsd_of h4 ha) (zz_g4 (b.2.1 j cal hO bp cp _ e ls m r h5 h2 h3))
  · intro bp cp pc vs cal a ls ls' m m' h1 h2
    obtain ⟨t, h4, h5⟩ := bb_of h1
    exact b.2.2 bp cp _ cal ls ls' m m' h5 h2⟩
def tCase (v : Int) (b : ES κ) (t : ET κ) : ET κ := ⟨(fun pc vs bp cp => (bsw κ.2.1 pc v).bind fun p => (b.1.1 bp cp (g4 κ.2.1 p)).bind fun e1 => (t.1.1 pc (v :: vs) bp cp).bind fun e2 => bmt e1 e2, fun cal a ls m => if a = v then b.1.2 cal ls m else t.1.2 cal a ls m), by
  refine ⟨?_, ?_⟩
  · intro j cal hO bp cp pc vs e a ls m r h1 ha h2 h3
    obtain ⟨p, h4, h5⟩ := bb_of h1
    obtain ⟨e1, h6, h7⟩ := bb_of h5
    obtain ⟨e2, h8, h9⟩ := bb_of h7
    obtain ⟨q1, q2, q3⟩ := bmt_of h9
    dsimp only at h2
    split at h2
    · rename_i hav
      subst hav
      exact zz_sw h4 (zz_g4 (b.2.1 j cal hO bp cp _ e1 ls m r h6 h2 (bPo_sub q1 h3)))
    · rename_i hav
      exact t.2.1 j cal hO bp cp pc (v :: vs) e2 a ls m r h8 (fun q => (List.mem_cons.mp q).elim hav ha) h2 (bPo_sub q2 h3)
  · intro bp cp pc vs cal a ls ls' m m' h1 h2
    obtain ⟨p, h4, h5⟩ := bb_of h1
    obtain ⟨e1, h6, h7⟩ := bb_of h5
    obtain ⟨e2, h8, h9⟩ := bb_of h7
    obtain ⟨q1, q2, q3⟩ := bmt_of h9
    obtain ⟨rfl, rfl⟩ := q3 rfl
    dsimp only at h2
    split at h2
    · exact b.2.2 bp cp _ cal ls ls' m m' h6 h2
    · exact t.2.2 bp cp pc _ cal a ls ls' m m' h8 h2⟩
/-- a switch out of which nothing breaks -/
def sSw (e : EI κ) (t : ET κ) : ES κ := ⟨(fun bp cp pc => (e.1.1 0 pc).bind fun p => t.1.1 p [] bp cp, fun cal ls m => (e.1.2 cal ls m).bind fun x => t.1.2 cal x.1 ls x.2), by
  refine ⟨?_, ?_⟩
  · intro j cal hO bp cp pc e1 ls m r h1 h2 h3
    obtain ⟨p, hp, h4⟩ := bb_of h1
    obtain ⟨⟨x, m1⟩, g1, g2⟩ := bb_of h2
    exact e.2 j cal hO 0 pc p ls [] m m1 x hp (Nat.le_refl 0) g1 (t.2.1 j cal hO bp cp p [] e1 x ls m1 r h4 List.not_mem_nil g2 h3)
  · intro bp cp pc cal ls ls' m m' h1 h2
    obtain ⟨p, hp, h4⟩ := bb_of h1
    obtain ⟨⟨x, m1⟩, g1, g2⟩ := bb_of h2
    exact t.2.2 bp cp p [] cal x ls ls' m1 m' h4 g2⟩
/-- a switch whose breaks go to q -/
def sSwB (q : Nat) (e : EI κ) (t : ET κ) : ES κ := ⟨(fun _ cp pc => (e.1.1 0 pc).bind fun p => (t.1.1 p [] q cp).bind fun e1 => if e1 = none ∨ e1 = some q then some (some q) else none, fun cal ls m => (e.1.2 cal ls m).bind fun x => (t.1.2 cal x.1 ls x.2).bind fun r => match r with
  | .inl (1, ls', m') => some (.inl (0, ls', m'))
  | r => some r), by
  refine ⟨?_, ?_⟩
  · intro j cal hO bp cp pc e1 ls m r h1 h2 h3
    obtain ⟨p, hp, h4⟩ := bb_of h1
    obtain ⟨e2, h5, h6⟩ := bb_of h4
    obtain ⟨h7, h8⟩ := gd_of h6
    cases h8
    obtain ⟨⟨x, m1⟩, g1, g2⟩ := bb_of h2
    obtain ⟨r1, g3, g4⟩ := bb_of g2
    refine e.2 j cal hO 0 pc p ls [] m m1 x hp (Nat.le_refl 0) g1 (t.2.1 j cal hO q cp p [] e2 x ls m1 r1 h5 List.not_mem_nil g3 ?_)
    match r1, g4 with
    | .inl (0, ls', m'), g4 =>
      cases g4
      intro y hy
      rcases h7 with rfl | rfl
      · cases hy
      · cases hy; exact h3 _ rfl
    | .inl (1, ls', m'), g4 => cases g4; exact h3 _ rfl
    | .inl (n + 2, ls', m'), g4 => cases g4; exact h3
    | .inr q, g4 => cases g4; exact h3
  · intro bp cp pc cal ls ls' m m' h1 h2
    obtain ⟨p, hp, h4⟩ := bb_of h1
    obtain ⟨e2, h5, h6⟩ := bb_of h4
    obtain ⟨h7, h8⟩ := gd_of h6
    cases h8⟩
/-! a method out of its body -/
def bRun (b : ES κ) (cal : bCl) (av : List bV) (m : bM) : Option (bM × Int) := match b.1.2 cal (bls av ++ List.replicate (κ.2.2.1 - (bls av).length) none) m with
  | some (.inr r) => some r
  | _ => none
theorem bRt_jm {d : Nat} {m : bM} {v : Int} : bRt κ (jm bSY κ.2.2.2.1 d (m, v)) m v := by
  intro pc ls
  refine ⟨fun h1 h2 h3 => ?_, fun h1 h2 => ?_, fun h1 h2 => ?_⟩
  · subst h3; exact z_vret h1 h2 rfl
  · exact z_iret h1 h2 rfl
  · exact z_lret h1 h2 rfl
theorem bRun_of (b : ES κ) (y : MethodName) (d : Nat) {cal : bCl} {av : List bV} {m : bM} {r : bM × Int} (hx : κ.2.2.2.2 = fun _ _ _ => True) (hy : plainName y.cls = true) (hown : κ.1 = y.cls) (hc : b.1.1 0 0 0 = some none) (hlen : (bls av).length ≤ κ.2.2.1) (hO : ∀ f av m r, cal f av m = some r → ∃ d', (d' + 1 ≤ d ∧ (bInfo f).2.2.1 ≤ 29) ∧ bCal bSY (bInfo f).1 (bInfo f).2.1 (bInfo f).2.2.1 (bInfo f).2.2.2 d' av m r) (h : bRun b cal av m = some r) : bCal bSY y κ.2.1 κ.2.2.1 κ.2.2.2.1 d av m r := by
  refine bCal_of hy hlen ?_
  unfold bRun at h
  split at h
  · rename_i r' h1
    cases h
    rw [← hown]
    refine b.2.1 (jm bSY κ.2.2.2.1 d r) cal ⟨hx.symm, ⟨?_, ?_, Nat.le_refl 0, Nat.le_refl 0⟩, fun f av m r hf => ?_⟩ 0 0 0 none _ m _ hc h1 bRt_jm
    · show 1 ≤ d + 1; omega
    · show 48 ≤ 48 * (d + 1); omega
    · obtain ⟨d', ⟨e1, e2⟩, e3⟩ := hO f av m r hf
      refine ⟨d', ⟨?_, ?_, Nat.le_refl 0, Nat.le_refl 0⟩, e3⟩
      · show d' + 2 ≤ d + 1; omega
      · show 19 + (bInfo f).2.2.1 + 48 * (d' + 1) ≤ 48 * (d + 1); omega
  · cases h
end Flow
