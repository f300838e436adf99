/-! ===== conditions, arguments, calls, statements ===== -/
section Comb2
variable {κ : bK}

def cop (o : Nat) (a b : Int) : Bool := match o with
  | 0 => decide (a = b)
  | 1 => !decide (a = b)
  | 2 => decide (a < b)
  | 3 => decide (b ≤ a)
  | 4 => decide (b < a)
  | _ => decide (a ≤ b)
def cin (o : Nat) : ClassFile.Cond := match o with
  | 0 => .eq
  | 1 => .ne
  | 2 => .lt
  | 3 => .ge
  | 4 => .gt
  | _ => .le
def cno (o : Nat) : Nat := match o with
  | 0 => 1
  | 1 => 0
  | 2 => 3
  | 3 => 2
  | 4 => 5
  | _ => 4
theorem cop_no (o : Nat) (a b : Int) : cop (cno o) a b = !cop o a b := by
  match o with
  | 0 => rfl
  | 1 => simp [cop, cno]
  | 2 => simp only [cop, cno]; by_cases h : a < b <;> simp [h] <;> omega
  | 3 => simp only [cop, cno]; by_cases h : a < b <;> simp [h] <;> omega
  | 4 => simp only [cop, cno]; by_cases h : a ≤ b <;> simp [h] <;> omega
  | n + 5 => simp only [cop, cno]; by_cases h : a ≤ b <;> simp [h] <;> omega
theorem zz_icmp {j : bJ} {ls : bLs} {st : List bV} {m : bM} {pc o tgt : Nat} {off a b : Int} (hd : decode κ.2.1 pc = .ok (.if_icmp (cin o) off, 3)) (ht : (pc : Int) + off = (tgt : Int)) (kk : zz κ j (if cop o a b then tgt else pc + 3) ls st m) : zz κ j pc ls (aI b :: aI a :: st) m := by
  match o, hd, kk with
  | 0, hd, kk => exact z_icmp_eq hd ht (fun h => by simpa [cop, h] using kk) (fun h => by simpa [cop, h] using kk)
  | 1, hd, kk => exact z_icmp_ne hd ht (fun h => by simpa [cop, h] using kk) (fun h => by simp only [Classical.not_not] at h; simpa [cop, h] using kk)
  | 2, hd, kk => exact z_icmp_lt hd ht (fun h => by simpa [cop, h] using kk) (fun h => by simpa [cop, h] using kk)
  | 3, hd, kk => exact z_icmp_ge hd ht (fun h => by simpa [cop, h] using kk) (fun h => by simpa [cop, h] using kk)
  | 4, hd, kk => exact z_icmp_gt hd ht (fun h => by simpa [cop, h] using kk) (fun h => by simpa [cop, h] using kk)
  | n + 5, hd, kk => exact z_icmp_le hd ht (fun h => by simpa [cop, h] using kk) (fun h => by simpa [cop, h] using kk)
theorem zz_if {j : bJ} {ls : bLs} {st : List bV} {m : bM} {pc o tgt : Nat} {off a : Int} (hd : decode κ.2.1 pc = .ok (.ifCond (cin o) off, 3)) (ht : (pc : Int) + off = (tgt : Int)) (kk : zz κ j (if cop o a 0 then tgt else pc + 3) ls st m) : zz κ j pc ls (aI a :: st) m := by
  match o, hd, kk with
  | 0, hd, kk => exact z_if_eq hd ht (fun h => by simpa [cop, h] using kk) (fun h => by simpa [cop, h] using kk)
  | 1, hd, kk => exact z_if_ne hd ht (fun h => by simpa [cop, h] using kk) (fun h => by simp only [Classical.not_not] at h; simpa [cop, h] using kk)
  | 2, hd, kk => exact z_if_lt hd ht (fun h => by simpa [cop, h] using kk) (fun h => by simpa [cop, h] using kk)
  | 3, hd, kk => exact z_if_ge hd ht (fun h => by simpa [cop, h] using kk) (fun h => by simpa [cop, h] using kk)
  | 4, hd, kk => exact z_if_gt hd ht (fun h => by simpa [cop, h] using kk) (fun h => by simpa [cop, h] using kk)
  | n + 5, hd, kk => exact z_if_le hd ht (fun h => by simpa [cop, h] using kk) (fun h => by simpa [cop, h] using kk)
/-- the two ways on from a jump: (where the condition o holds, where not) -/
def ckJ (cc : ByteArray) (icmp : Bool) (o pc : Nat) : Option (Nat × Nat) := match decode cc pc with
  | .ok (.if_icmp c off, 3) => if icmp = true ∧ 0 ≤ (pc : Int) + off then (if c = cin o then some (g4 cc ((pc : Int) + off).toNat, g4 cc (pc + 3)) else if c = cin (cno o) then some (g4 cc (pc + 3), g4 cc ((pc : Int) + off).toNat) else none) else none
  | .ok (.ifCond c off, 3) => if icmp = false ∧ 0 ≤ (pc : Int) + off then (if c = cin o then some (g4 cc ((pc : Int) + off).toNat, g4 cc (pc + 3)) else if c = cin (cno o) then some (g4 cc (pc + 3), g4 cc ((pc : Int) + off).toNat) else none) else none
  | _ => none
theorem ckJ_icmp {j : bJ} {ls : bLs} {st : List bV} {m : bM} {pc o pt pf : Nat} {a b : Int} (h : ckJ κ.2.1 true o pc = some (pt, pf)) (kk : zz κ j (if cop o a b then pt else pf) ls st m) : zz κ j pc ls (aI b :: aI a :: st) m := by
  unfold ckJ at h
  split at h
  · rename_i c off hd
    obtain ⟨h1, h2⟩ := gd_of h
    split at h2
    · rename_i hc
      subst hc
      cases h2
      refine zz_icmp hd (tgt := ((pc : Int) + off).toNat) (by omega) ?_
      cases hb : cop o a b with
      | true => rw [hb] at kk; exact zz_g4 kk
      | false => rw [hb] at kk; exact zz_g4 kk
    · obtain ⟨h3, h4⟩ := gd_of h2
      subst h3
      cases h4
      refine zz_icmp hd (tgt := ((pc : Int) + off).toNat) (by omega) ?_
      rw [cop_no]
      cases hb : cop o a b with
      | true => rw [hb] at kk; exact zz_g4 kk
      | false => rw [hb] at kk; exact zz_g4 kk
  · obtain ⟨h1, h2⟩ := gd_of h
    cases h1.1
  · cases h
theorem ckJ_if {j : bJ} {ls : bLs} {st : List bV} {m : bM} {pc o pt pf : Nat} {a : Int} (h : ckJ κ.2.1 false o pc = some (pt, pf)) (kk : zz κ j (if cop o a 0 then pt else pf) ls st m) : zz κ j pc ls (aI a :: st) m := by
  unfold ckJ at h
  split at h
  · obtain ⟨h1, h2⟩ := gd_of h
    cases h1.1
  · rename_i c off hd
    obtain ⟨h1, h2⟩ := gd_of h
    split at h2
    · rename_i hc
      subst hc
      cases h2
      refine zz_if hd (tgt := ((pc : Int) + off).toNat) (by omega) ?_
      cases hb : cop o a 0 with
      | true => rw [hb] at kk; exact zz_g4 kk
      | false => rw [hb] at kk; exact zz_g4 kk
    · obtain ⟨h3, h4⟩ := gd_of h2
      subst h3
      cases h4
      refine zz_if hd (tgt := ((pc : Int) + off).toNat) (by omega) ?_
      rw [cop_no]
      cases hb : cop o a 0 with
      | true => rw [hb] at kk; exact zz_g4 kk
      | false => rw [hb] at kk; exact zz_g4 kk
  · cases h
def cQ (o : Nat) (a b : EI κ) : EC κ := ⟨(fun k pc => (a.1.1 k pc).bind fun p => (b.1.1 (k + 1) p).bind fun p2 => ckJ κ.2.1 true o p2, fun cal ls m => (a.1.2 cal ls m).bind fun x => (b.1.2 cal ls x.2).bind fun y => some (cop o x.1 y.1, y.2)), by
  intro j cal hO k pc pt pf ls st m m' b h1 hk h2 kk
  obtain ⟨p, hp, h3⟩ := bb_of h1
  obtain ⟨p2, hp2, h6⟩ := bb_of h3
  obtain ⟨⟨x, m1⟩, g1, g2⟩ := bb_of h2
  obtain ⟨⟨y, m2⟩, g3, g4⟩ := bb_of g2
  cases g4
  exact a.2 j cal hO k pc p ls st m m1 x hp hk g1 (b.2 j cal hO (k + 1) p p2 ls _ m1 _ y hp2 (bcs_I hk) g3 (ckJ_icmp h6 kk))⟩
def cZ (o : Nat) (a : EI κ) : EC κ := ⟨(fun k pc => (a.1.1 k pc).bind fun p => ckJ κ.2.1 false o p, fun cal ls m => (a.1.2 cal ls m).bind fun x => some (cop o x.1 0, x.2)), by
  intro j cal hO k pc pt pf ls st m m' b h1 hk h2 kk
  obtain ⟨p, hp, h3⟩ := bb_of h1
  obtain ⟨⟨x, m1⟩, g1, g2⟩ := bb_of h2
  cases g2
  exact a.2 j cal hO k pc p ls st m _ x hp hk g1 (ckJ_if h3 kk)⟩
def cNot (c : EC κ) : EC κ := ⟨(fun k pc => (c.1.1 k pc).map fun x => (x.2, x.1), fun cal ls m => (c.1.2 cal ls m).map fun t => (!t.1, t.2)), by
  intro j cal hO k pc pt pf ls st m m' b h1 hk h2 kk
  obtain ⟨⟨q1, q2⟩, e1, e2⟩ := Option.map_eq_some_iff.mp h1
  cases e2
  obtain ⟨⟨t, m1⟩, e3, e4⟩ := Option.map_eq_some_iff.mp h2
  cases e4
  refine c.2 j cal hO k pc _ _ ls st m _ t e1 hk e3 ?_
  cases t <;> exact kk⟩
def cAnd (c d : EC κ) : EC κ := ⟨(fun k pc => (c.1.1 k pc).bind fun x => (d.1.1 k x.1).bind fun y => if x.2 = y.2 then some y else none, fun cal ls m => (c.1.2 cal ls m).bind fun t => if t.1 = true then d.1.2 cal ls t.2 else some (false, t.2)), by
  intro j cal hO k pc pt pf ls st m m' b h1 hk h2 kk
  obtain ⟨⟨q1, q2⟩, e1, e2⟩ := bb_of h1
  obtain ⟨⟨r1, r2⟩, e3, e4⟩ := bb_of e2
  obtain ⟨e5, e6⟩ := gd_of e4
  cases e6
  dsimp only at e5
  subst e5
  obtain ⟨⟨t, m1⟩, g1, g2⟩ := bb_of h2
  refine c.2 j cal hO k pc _ _ ls st m _ t e1 hk g1 ?_
  cases t with
  | true => exact d.2 j cal hO k _ _ _ ls st _ _ b e3 hk g2 kk
  | false => cases g2; exact kk⟩
def cOr (c d : EC κ) : EC κ := ⟨(fun k pc => (c.1.1 k pc).bind fun x => (d.1.1 k x.2).bind fun y => if x.1 = y.1 then some y else none, fun cal ls m => (c.1.2 cal ls m).bind fun t => if t.1 = true then some (true, t.2) else d.1.2 cal ls t.2), by
  intro j cal hO k pc pt pf ls st m m' b h1 hk h2 kk
  obtain ⟨⟨q1, q2⟩, e1, e2⟩ := bb_of h1
  obtain ⟨⟨r1, r2⟩, e3, e4⟩ := bb_of e2
  obtain ⟨e5, e6⟩ := gd_of e4
  cases e6
  dsimp only at e5
  subst e5
  obtain ⟨⟨t, m1⟩, g1, g2⟩ := bb_of h2
  refine c.2 j cal hO k pc _ _ ls st m _ t e1 hk g1 ?_
  cases t with
  | true => cases g2; exact kk
  | false => exact d.2 j cal hO k _ _ _ ls st _ _ b e3 hk g2 kk⟩
/-! arguments -/
def gNil : EG κ := ⟨(fun _ pc => some pc, fun _ _ m => some ([], m), 0), by
  refine ⟨?_, ?_⟩
  · intro j cal hO k pc pc' ls st m m' v h1 hk h2 kk
    cases h1; cases h2; exact kk
  · intro cal ls m m' v h; cases h; rfl⟩
def gI (e : EI κ) (g : EG κ) : EG κ := ⟨(fun k pc => (e.1.1 k pc).bind fun p => g.1.1 (k + 1) p, fun cal ls m => (e.1.2 cal ls m).bind fun x => (g.1.2.1 cal ls x.2).bind fun y => some (aI x.1 :: y.1, y.2), g.1.2.2 + 1), by
  refine ⟨?_, ?_⟩
  · intro j cal hO k pc pc' ls st m m' v h1 hk h2 kk
    obtain ⟨p, hp, h3⟩ := bb_of h1
    obtain ⟨⟨x, m1⟩, g1, g2⟩ := bb_of h2
    obtain ⟨⟨w, m3⟩, g3, g4⟩ := bb_of g2
    cases g4
    rw [List.reverse_cons, List.append_assoc] at kk
    exact e.2 j cal hO k pc p ls st m m1 x hp hk g1 (g.2.1 j cal hO _ p pc' ls _ m1 _ w h3 (bcs_I hk) g3 kk)
  · intro cal ls m m' v h
    obtain ⟨⟨x, m1⟩, g1, h⟩ := bb_of h
    obtain ⟨⟨w, m3⟩, g3, g4⟩ := bb_of h
    cases g4
    show w.length + 1 = _
    rw [g.2.2 _ _ _ _ _ g3]⟩
def gL (e : EL κ) (g : EG κ) : EG κ := ⟨(fun k pc => (e.1.1 k pc).bind fun p => g.1.1 (k + 2) p, fun cal ls m => (e.1.2 cal ls m).bind fun x => (g.1.2.1 cal ls x.2).bind fun y => some (aL x.1 :: y.1, y.2), g.1.2.2 + 1), by
  refine ⟨?_, ?_⟩
  · intro j cal hO k pc pc' ls st m m' v h1 hk h2 kk
    obtain ⟨p, hp, h3⟩ := bb_of h1
    obtain ⟨⟨x, m1⟩, g1, g2⟩ := bb_of h2
    obtain ⟨⟨w, m3⟩, g3, g4⟩ := bb_of g2
    cases g4
    rw [List.reverse_cons, List.append_assoc] at kk
    exact e.2 j cal hO k pc p ls st m m1 x hp hk g1 (g.2.1 j cal hO _ p pc' ls _ m1 _ w h3 (bcs_L hk) g3 kk)
  · intro cal ls m m' v h
    obtain ⟨⟨x, m1⟩, g1, h⟩ := bb_of h
    obtain ⟨⟨w, m3⟩, g3, g4⟩ := bb_of h
    cases g4
    show w.length + 1 = _
    rw [g.2.2 _ _ _ _ _ g3]⟩
def gR (r : ER κ) (g : EG κ) : EG κ := ⟨(fun k pc => (r.1.1 pc).bind fun p => g.1.1 (k + 1) p, fun cal ls m => if gd r ls then (g.1.2.1 cal ls m).bind fun y => some (aR r.1.2.2 :: y.1, y.2) else none, g.1.2.2 + 1), by
  refine ⟨?_, ?_⟩
  · intro j cal hO k pc pc' ls st m m' v h1 hk h2 kk
    obtain ⟨p, hp, h3⟩ := bb_of h1
    obtain ⟨hg, g2⟩ := gd_of h2
    obtain ⟨⟨w, m3⟩, g3, g4⟩ := bb_of g2
    cases g4
    rw [List.reverse_cons, List.append_assoc] at kk
    exact r.2 j pc p ls st m hp hg (g.2.1 j cal hO _ p pc' ls _ m _ w h3 (bcs_R hk) g3 kk)
  · intro cal ls m m' v h
    obtain ⟨hg, h⟩ := gd_of h
    obtain ⟨⟨w, m3⟩, g3, g4⟩ := bb_of h
    cases g4
    show w.length + 1 = _
    rw [g.2.2 _ _ _ _ _ g3]⟩
def gD (i : Nat) (g : EG κ) : EG κ := ⟨(fun k pc => (if hi : i < 4 then dk κ.2.1 pc (.aload_n ⟨i, hi⟩) 1 else dk κ.2.1 pc (.aload i) 2).bind fun p => g.1.1 (k + 1) p, fun cal ls m => (getR ls i).bind fun c => (g.1.2.1 cal ls m).bind fun y => some (aR c :: y.1, y.2), g.1.2.2 + 1), by
  refine ⟨?_, ?_⟩
  · intro j cal hO k pc pc' ls st m m' v h1 hk h2 kk
    obtain ⟨p, hp, h3⟩ := bb_of h1
    obtain ⟨c, hc, g2⟩ := bb_of h2
    obtain ⟨⟨w, m3⟩, g3, g4⟩ := bb_of g2
    cases g4
    rw [List.reverse_cons, List.append_assoc] at kk
    exact zz_aload hp (getR_of hc) (g.2.1 j cal hO _ p pc' ls _ m _ w h3 (bcs_R hk) g3 kk)
  · intro cal ls m m' v h
    obtain ⟨c, hc, h⟩ := bb_of h
    obtain ⟨⟨w, m3⟩, g3, g4⟩ := bb_of h
    cases g4
    show w.length + 1 = _
    rw [g.2.2 _ _ _ _ _ g3]⟩
/-! calls: the cell of the receiver, its class -/
def bob (i ci : Nat) : Bool := match bSY[i]? with
  | some (0, ci', _) => ci' == ci
  | _ => false
theorem bob_of {i ci : Nat} (h : bob i ci = true) : ∃ fl, bSY[i]? = some (0, ci, fl) := by
  unfold bob at h
  split at h
  · rename_i ci' fl h1
    simp only [beq_iff_eq] at h
    subst h
    exact ⟨fl, h1⟩
  · cases h
def brt (f : Nat) (w : Nat) : Prop := match w with
  | 0 => (bInfo f).2.2.2 = none
  | 1 => (bInfo f).2.2.2 = some .int ∨ (bInfo f).2.2.2 = some .boolean
  | _ => (bInfo f).2.2.2 = some .long
theorem bpush_I {f : Nat} {z : Int} {st : List bV} (h : brt f 1) : bpush (bInfo f).2.2.2 z st = aI z :: st := by
  rcases h with h | h <;> rw [h] <;> rfl
theorem bpush_L {f : Nat} {z : Int} {st : List bV} (h : brt f 2) : bpush (bInfo f).2.2.2 z st = aL z :: st := by
  have h : (bInfo f).2.2.2 = some .long := h
  rw [h]; rfl
theorem bpush_V {f : Nat} {z : Int} {st : List bV} (h : brt f 0) : bpush (bInfo f).2.2.2 z st = st := by
  have h : (bInfo f).2.2.2 = none := h
  rw [h]; rfl
/-- a call, as far as what lies on the stack behind it -/
def XC (κ : bK) (f : Nat) : Type := {q : (Nat → Nat → Option Nat) × (bCl → bLs → bM → Option (bM × Int)) // ∀ (j : bJ) (cal : bCl), bOr κ j cal → ∀ (k pc pc' : Nat) (ls : bLs) (st : List bV) (m : bM) (r : bM × Int), q.1 k pc = some pc' → bcs st ≤ k → q.2 cal ls m = some r → zz κ j pc' ls (bpush (bInfo f).2.2.2 r.2 st) r.1 → zz κ j pc ls st m}
def xV {idx ci n : Nat} (f : Nat) (r : ER κ) (g : EG κ) (h : bCV κ.1 idx f ci n) : XC κ f := ⟨(fun k pc => if k ≤ 8 ∧ bob r.1.2.2 ci = true ∧ g.1.2.2 = n then (r.1.1 pc).bind fun p => (g.1.1 (k + 1) p).bind fun p2 => dk κ.2.1 p2 (.invokevirtual idx) 3 else none, fun cal ls m => if gd r ls then (g.1.2.1 cal ls m).bind fun x => cal f (aR r.1.2.2 :: x.1) x.2 else none), by
  intro j cal hO k pc pc' ls st m rr h1 hk h2 kk
  obtain ⟨⟨hk8, hob, hn⟩, h1⟩ := gd_of h1
  obtain ⟨p, hp, h3⟩ := bb_of h1
  obtain ⟨p2, hp2, h6⟩ := bb_of h3
  obtain ⟨hd, rfl⟩ := dk_of h6
  obtain ⟨hg, h7⟩ := gd_of h2
  obtain ⟨⟨av, m1⟩, g1, g2⟩ := bb_of h7
  obtain ⟨fl, hsy⟩ := bob_of hob
  obtain ⟨q, ty, c1, c2, c3⟩ := h
  obtain ⟨d, hfit, hcal⟩ := hO.2.2 f _ _ _ g2
  have hlen := g.2.2 _ _ _ _ _ g1
  rw [hn] at hlen
  exact r.2 j pc p ls st m hp hg (g.2.1 j cal hO (k + 1) p p2 ls _ m m1 av hp2 (bcs_R hk) g1 (z_callV hcal hfit c1 hsy c2 (by rw [hlen]; exact c3) (Nat.le_trans hk hk8) hd kk))⟩
def xS {idx n : Nat} (f : Nat) (g : EG κ) (h : bCS κ.1 idx f n) : XC κ f := ⟨(fun k pc => if k ≤ 8 ∧ g.1.2.2 = n then (g.1.1 k pc).bind fun p2 => dk κ.2.1 p2 (.invokestatic idx) 3 else none, fun cal ls m => (g.1.2.1 cal ls m).bind fun x => cal f x.1 x.2), by
  intro j cal hO k pc pc' ls st m rr h1 hk h2 kk
  obtain ⟨⟨hk8, hn⟩, h1⟩ := gd_of h1
  obtain ⟨p2, hp2, h6⟩ := bb_of h1
  obtain ⟨hd, rfl⟩ := dk_of h6
  obtain ⟨⟨av, m1⟩, g1, g2⟩ := bb_of h2
  obtain ⟨c2, c3, c4⟩ := h
  obtain ⟨d, hfit, hcal⟩ := hO.2.2 f _ _ _ g2
  have hlen := g.2.2 _ _ _ _ _ g1
  rw [hn] at hlen
  exact g.2.1 j cal hO k pc p2 ls _ m m1 av hp2 hk g1 (z_callS hcal hfit c2 c3 (by rw [hlen]; exact c4) (Nat.le_trans hk hk8) hd kk)⟩
def xN {idx : Nat} (f : Nat) (g : EG κ) (h : bCN κ.1 idx f) : XC κ f := ⟨(fun k pc => if k ≤ 8 ∧ g.1.2.2 = 3 then (g.1.1 k pc).bind fun p2 => dk κ.2.1 p2 (.invokestatic idx) 3 else none, fun cal ls m => (g.1.2.1 cal ls m).bind fun x => cal f x.1 x.2), by
  intro j cal hO k pc pc' ls st m rr h1 hk h2 kk
  obtain ⟨⟨hk8, hn⟩, h1⟩ := gd_of h1
  obtain ⟨p2, hp2, h6⟩ := bb_of h1
  obtain ⟨hd, rfl⟩ := dk_of h6
  obtain ⟨⟨av, m1⟩, g1, g2⟩ := bb_of h2
  obtain ⟨c1, c2, c3, c4, c5⟩ := h
  obtain ⟨d, hfit, hcal⟩ := hO.2.2 f _ _ _ g2
  have hlen := g.2.2 _ _ _ _ _ g1
  rw [hn] at hlen
  rw [c1] at hcal
  exact g.2.1 j cal hO k pc p2 ls _ m m1 av hp2 hk g1 (z_callN hcal hfit c2 c3 c4 c5 hlen (Nat.le_trans hk hk8) hd kk)⟩
def eCall {f : Nat} (x : XC κ f) (h : brt f 1) : EI κ := ⟨(x.1.1, fun cal ls m => (x.1.2 cal ls m).map fun r => (r.2, r.1)), by
  intro j cal hO k pc pc' ls st m m' v h1 hk h2 kk
  obtain ⟨r, e1, e2⟩ := Option.map_eq_some_iff.mp h2
  cases e2
  exact x.2 j cal hO k pc pc' ls st m r h1 hk e1 (by rw [bpush_I h]; exact kk)⟩
def lCall {f : Nat} (x : XC κ f) (h : brt f 2) : EL κ := ⟨(x.1.1, fun cal ls m => (x.1.2 cal ls m).map fun r => (r.2, r.1)), by
  intro j cal hO k pc pc' ls st m m' v h1 hk h2 kk
  obtain ⟨r, e1, e2⟩ := Option.map_eq_some_iff.mp h2
  cases e2
  exact x.2 j cal hO k pc pc' ls st m r h1 hk e1 (by rw [bpush_L h]; exact kk)⟩
/-! statements -/
def S1 (f : bCl → bLs → bM → Option (bLs × bM)) : bCl → bLs → bM → Option bRs := fun cal ls m => (f cal ls m).map fun x => .inl (0, x.1, x.2)
/-- a statement that goes on, out of its check and its effect -/
def sOn (chk : Nat → Option Nat) (f : bCl → bLs → bM → Option (bLs × bM)) (h : ∀ (j : bJ) (cal : bCl), bOr κ j cal → ∀ (pc pc' : Nat) (ls ls' : bLs) (m m' : bM), chk pc = some pc' → f cal ls m = some (ls', m') → zz κ j pc' ls' [] m' → zz κ j pc ls [] m) : ES κ := ⟨(fun _ _ pc => (chk pc).map fun p => some (g4 κ.2.1 p), S1 f), by
  refine ⟨?_, ?_⟩
  · intro j cal hO bp cp pc e ls m r h1 h2 h3
    obtain ⟨p, e1, e2⟩ := Option.map_eq_some_iff.mp h1
    cases e2
    unfold S1 at h2
    obtain ⟨⟨ls', m'⟩, e3, e4⟩ := Option.map_eq_some_iff.mp h2
    cases e4
    exact h j cal hO pc p ls ls' m m' e1 e3 (zz_g4 (h3 _ rfl))
  · intro bp cp pc cal ls ls' m m' h1
    obtain ⟨p, e1, e2⟩ := Option.map_eq_some_iff.mp h1
    cases e2⟩
def sNop : ES κ := sOn (fun pc => some pc) (fun _ ls m => some (ls, m)) (by
  intro j cal hO pc pc' ls ls' m m' h1 h2 kk
  cases h1; cases h2; exact kk)
def sSet (i : Nat) (e : EI κ) : ES κ := sOn (fun pc => (e.1.1 0 pc).bind fun p => if i < κ.2.2.1 then (if hi : i < 4 then dk κ.2.1 p (.istore_n ⟨i, hi⟩) 1 else dk κ.2.1 p (.istore i) 2) else none) (fun cal ls m => (e.1.2 cal ls m).bind fun x => if bnl ls i = true then some (ls.set i (some (aI x.1)), x.2) else none) (by
  intro j cal hO pc pc' ls ls' m m' h1 h2 kk
  obtain ⟨p, hp, h3⟩ := bb_of h1
  obtain ⟨hlt, h4⟩ := gd_of h3
  obtain ⟨⟨x, m1⟩, g1, g2⟩ := bb_of h2
  obtain ⟨g3, g4⟩ := gd_of g2
  cases g4
  refine e.2 j cal hO 0 pc p ls [] m m1 x hp (Nat.le_refl 0) g1 ?_
  split at h4
  · obtain ⟨hd, rfl⟩ := dk_of h4
    exact z_istore_n hd rfl g3 hlt rfl kk
  · obtain ⟨hd, rfl⟩ := dk_of h4
    exact z_istore hd rfl g3 hlt rfl kk)
def sSetL (i : Nat) (e : EL κ) : ES κ := sOn (fun pc => (e.1.1 0 pc).bind fun p => if i + 1 < κ.2.2.1 then (if hi : i < 4 then dk κ.2.1 p (.lstore_n ⟨i, hi⟩) 1 else dk κ.2.1 p (.lstore i) 2) else none) (fun cal ls m => (e.1.2 cal ls m).bind fun x => if bnl ls i = true then some ((ls.set i (some (aL x.1))).set (i + 1) none, x.2) else none) (by
  intro j cal hO pc pc' ls ls' m m' h1 h2 kk
  obtain ⟨p, hp, h3⟩ := bb_of h1
  obtain ⟨hlt, h4⟩ := gd_of h3
  obtain ⟨⟨x, m1⟩, g1, g2⟩ := bb_of h2
  obtain ⟨g3, g4⟩ := gd_of g2
  cases g4
  refine e.2 j cal hO 0 pc p ls [] m m1 x hp (Nat.le_refl 0) g1 ?_
  split at h4
  · obtain ⟨hd, rfl⟩ := dk_of h4
    exact z_lstore_n hd rfl g3 hlt rfl kk
  · obtain ⟨hd, rfl⟩ := dk_of h4
    exact z_lstore hd rfl g3 hlt rfl kk)
/-- a local becomes one of two cells -/
def sSetR (i : Nat) (c : EC κ) (a b : ER κ) : ES κ := sOn (fun pc => (c.1.1 0 pc).bind fun x => (a.1.1 x.1).bind fun p => (b.1.1 x.2).bind fun p2 => if g4 κ.2.1 p = g4 κ.2.1 p2 ∧ i < κ.2.2.1 then (if hi : i < 4 then dk κ.2.1 (g4 κ.2.1 p) (.astore_n ⟨i, hi⟩) 1 else none) else none) (fun cal ls m => (c.1.2 cal ls m).bind fun t => if bnl ls i = true then (if t.1 = true then (if gd a ls then some (ls.set i (some (aR a.1.2.2)), t.2) else none) else if gd b ls then some (ls.set i (some (aR b.1.2.2)), t.2) else none) else none) (by
  intro j cal hO pc pc' ls ls' m m' h1 h2 kk
  obtain ⟨⟨pt, pf⟩, hc, h3⟩ := bb_of h1
  obtain ⟨p, hp, h4⟩ := bb_of h3
  obtain ⟨p2, hp2, h5⟩ := bb_of h4
  obtain ⟨⟨e, hlt⟩, h6⟩ := gd_of h5
  split at h6
  · obtain ⟨hd, rfl⟩ := dk_of h6
    obtain ⟨⟨t, m1⟩, g1, g2⟩ := bb_of h2
    obtain ⟨g3, g4⟩ := gd_of g2
    refine c.2 j cal hO 0 pc pt pf ls [] m m1 t hc (Nat.le_refl 0) g1 ?_
    cases t with
    | true =>
      obtain ⟨g5, g6⟩ := gd_of (show (if gd a ls then some (ls.set i (some (aR a.1.2.2)), m1) else none) = some (ls', m') from g4)
      cases g6
      exact a.2 j pt p ls [] _ hp g5 (zz_g4 (z_astore_n hd g3 hlt rfl kk))
    | false =>
      obtain ⟨g5, g6⟩ := gd_of (show (if gd b ls then some (ls.set i (some (aR b.1.2.2)), m1) else none) = some (ls', m') from g4)
      cases g6
      exact b.2 j pf p2 ls [] _ hp2 g5 (zz_g4 (e ▸ z_astore_n hd g3 hlt rfl kk))
  · cases h6)
def sInc (i : Nat) (n : Int) : ES κ := sOn (fun pc => if i < κ.2.2.1 then dk κ.2.1 pc (.iinc i n) 3 else none) (fun _ ls m => (getI ls i).bind fun z => if bnl ls i = true then some (ls.set i (some (aI (i32 (z + n)))), m) else none) (by
  intro j cal hO pc pc' ls ls' m m' h1 h2 kk
  obtain ⟨hlt, h4⟩ := gd_of h1
  obtain ⟨hd, rfl⟩ := dk_of h4
  obtain ⟨z, g1, g2⟩ := bb_of h2
  obtain ⟨g3, g4⟩ := gd_of g2
  cases g4
  exact z_iinc hd (getI_of g1) rfl g3 hlt rfl kk)
theorem fit_I {v : Int} : ∀ ad, narrow .int (bcv ad (aI v)) = bcv ad (aI v) ∧ fits .int (bcv ad (aI v)) = true := fun _ => ⟨rfl, rfl⟩
theorem fit_L {v : Int} : ∀ ad, narrow .long (bcv ad (aL v)) = bcv ad (aL v) ∧ fits .long (bcv ad (aL v)) = true := fun _ => ⟨rfl, rfl⟩
theorem fit_Z {v : Int} (h : 0 ≤ v ∧ v ≤ 1) : ∀ ad, narrow .boolean (bcv ad (aI v)) = bcv ad (aI v) ∧ fits .boolean (bcv ad (aI v)) = true := fun _ => by
  rcases (show v = 0 ∨ v = 1 by omega) with rfl | rfl
  · exact ⟨show narrow .boolean (.int (Int32.ofInt 0)) = .int (Int32.ofInt 0) by decide, show fits .boolean (.int (Int32.ofInt 0)) = true by decide⟩
  · exact ⟨show narrow .boolean (.int (Int32.ofInt 1)) = .int (Int32.ofInt 1) by decide, show fits .boolean (.int (Int32.ofInt 1)) = true by decide⟩
theorem zz_putI {j : bJ} {ls : bLs} {st : List bV} {m : bM} {pc i ci k idx : Nat} {v : Int} (h4 : bft i ci k 0 = true) (h : bFP κ.1 idx ci k .int) (hd : decode κ.2.1 pc = .ok (.putfield idx, 3)) (kk : zz κ j (pc + 3) ls st (bwr m i k v)) : zz κ j pc ls (aI v :: aR i :: st) m := by
  obtain ⟨fl, e1, e2⟩ := bft_of h4
  obtain ⟨q, ty, c1, c2, c3, c4, c5⟩ := h
  intro p l e s mi args below meth c D aC ad H locs la C E hP hD hS hm hst hl
  exact z_putf (v := aI v) c1 e1 c2 e2 (fun ad => by simp [bfv, bcv]) (Or.inl ⟨rfl, bok_hd hst⟩) c4 (by rw [c5]; exact fit_I) c3 hd kk p l e s mi args below meth c D aC ad H locs la C E hP hD hS hm hst hl
theorem zz_putZ {j : bJ} {ls : bLs} {st : List bV} {m : bM} {pc i ci k idx : Nat} {v : Int} (hv : 0 ≤ v ∧ v ≤ 1) (h4 : bft i ci k 0 = true) (h : bFP κ.1 idx ci k .boolean) (hd : decode κ.2.1 pc = .ok (.putfield idx, 3)) (kk : zz κ j (pc + 3) ls st (bwr m i k v)) : zz κ j pc ls (aI v :: aR i :: st) m := by
  obtain ⟨fl, e1, e2⟩ := bft_of h4
  obtain ⟨q, ty, c1, c2, c3, c4, c5⟩ := h
  intro p l e s mi args below meth c D aC ad H locs la C E hP hD hS hm hst hl
  exact z_putf (v := aI v) c1 e1 c2 e2 (fun ad => by simp [bfv, bcv]) (Or.inl ⟨rfl, bok_hd hst⟩) c4 (by rw [c5]; exact fit_Z hv) c3 hd kk p l e s mi args below meth c D aC ad H locs la C E hP hD hS hm hst hl
theorem zz_putL {j : bJ} {ls : bLs} {st : List bV} {m : bM} {pc i ci k idx : Nat} {v : Int} (h4 : bft i ci k 1 = true) (h : bFP κ.1 idx ci k .long) (hd : decode κ.2.1 pc = .ok (.putfield idx, 3)) (kk : zz κ j (pc + 3) ls st (bwr m i k v)) : zz κ j pc ls (aL v :: aR i :: st) m := by
  obtain ⟨fl, e1, e2⟩ := bft_of h4
  obtain ⟨q, ty, c1, c2, c3, c4, c5⟩ := h
  intro p l e s mi args below meth c D aC ad H locs la C E hP hD hS hm hst hl
  exact z_putf (v := aL v) c1 e1 c2 e2 (fun ad => by simp [bfv, bcv]) (Or.inr ⟨rfl, bok_hd hst⟩) c4 (by rw [c5]; exact fit_L) c3 hd kk p l e s mi args below meth c D aC ad H locs la C E hP hD hS hm hst hl
def sPutI {idx ci k : Nat} (r : ER κ) (e : EI κ) (h : bFP κ.1 idx ci k .int) : ES κ := sOn (fun pc => (r.1.1 pc).bind fun p => (e.1.1 1 p).bind fun p2 => if bft r.1.2.2 ci k 0 = true then dk κ.2.1 p2 (.putfield idx) 3 else none) (fun cal ls m => if gd r ls then (e.1.2 cal ls m).bind fun x => some (ls, bwr x.2 r.1.2.2 k x.1) else none) (by
  intro j cal hO pc pc' ls ls' m m' h1 h2 kk
  obtain ⟨p, hp, h3⟩ := bb_of h1
  obtain ⟨p2, hp2, h4⟩ := bb_of h3
  obtain ⟨h5, h6⟩ := gd_of h4
  obtain ⟨hd, rfl⟩ := dk_of h6
  obtain ⟨hg, h7⟩ := gd_of h2
  obtain ⟨⟨x, m1⟩, g1, g2⟩ := bb_of h7
  cases g2
  exact r.2 j pc p ls [] m hp hg (e.2 j cal hO 1 p p2 ls _ m m1 x hp2 (bcs_R (Nat.le_refl 0)) g1 (zz_putI h5 h hd kk)))
def sPutZ {idx ci k : Nat} (r : ER κ) (e : EI κ) (h : bFP κ.1 idx ci k .boolean) : ES κ := sOn (fun pc => (r.1.1 pc).bind fun p => (e.1.1 1 p).bind fun p2 => if bft r.1.2.2 ci k 0 = true then dk κ.2.1 p2 (.putfield idx) 3 else none) (fun cal ls m => if gd r ls then (e.1.2 cal ls m).bind fun x => if 0 ≤ x.1 ∧ x.1 ≤ 1 then some (ls, bwr x.2 r.1.2.2 k x.1) else none else none) (by
  intro j cal hO pc pc' ls ls' m m' h1 h2 kk
  obtain ⟨p, hp, h3⟩ := bb_of h1
  obtain ⟨p2, hp2, h4⟩ := bb_of h3
  obtain ⟨h5, h6⟩ := gd_of h4
  obtain ⟨hd, rfl⟩ := dk_of h6
  obtain ⟨hg, h7⟩ := gd_of h2
  obtain ⟨⟨x, m1⟩, g1, g2⟩ := bb_of h7
  obtain ⟨g3, g2⟩ := gd_of g2
  cases g2
  exact r.2 j pc p ls [] m hp hg (e.2 j cal hO 1 p p2 ls _ m m1 x hp2 (bcs_R (Nat.le_refl 0)) g1 (zz_putZ g3 h5 h hd kk)))
def sPutL {idx ci k : Nat} (r : ER κ) (e : EL κ) (h : bFP κ.1 idx ci k .long) : ES κ := sOn (fun pc => (r.1.1 pc).bind fun p => (e.1.1 1 p).bind fun p2 => if bft r.1.2.2 ci k 1 = true then dk κ.2.1 p2 (.putfield idx) 3 else none) (fun cal ls m => if gd r ls then (e.1.2 cal ls m).bind fun x => some (ls, bwr x.2 r.1.2.2 k x.1) else none) (by
  intro j cal hO pc pc' ls ls' m m' h1 h2 kk
  obtain ⟨p, hp, h3⟩ := bb_of h1
  obtain ⟨p2, hp2, h4⟩ := bb_of h3
  obtain ⟨h5, h6⟩ := gd_of h4
  obtain ⟨hd, rfl⟩ := dk_of h6
  obtain ⟨hg, h7⟩ := gd_of h2
  obtain ⟨⟨x, m1⟩, g1, g2⟩ := bb_of h7
  cases g2
  exact r.2 j pc p ls [] m hp hg (e.2 j cal hO 1 p p2 ls _ m m1 x hp2 (bcs_R (Nat.le_refl 0)) g1 (zz_putL h5 h hd kk)))
def sPutA (n : Nat) (r : ER κ) (i : EI κ) (e : EI κ) : ES κ := sOn (fun pc => (r.1.1 pc).bind fun p => (i.1.1 1 p).bind fun p1 => (e.1.1 2 p1).bind fun p2 => if bar r.1.2.2 1 n = true then dk κ.2.1 p2 .iastore 1 else none) (fun cal ls m => if gd r ls then (i.1.2 cal ls m).bind fun y => (e.1.2 cal ls y.2).bind fun x => if 0 ≤ y.1 ∧ y.1 < (n : Int) then some (ls, bwr x.2 r.1.2.2 y.1.toNat x.1) else none else none) (by
  intro j cal hO pc pc' ls ls' m m' h1 h2 kk
  obtain ⟨p, hp, h3⟩ := bb_of h1
  obtain ⟨p1, hp1, h3⟩ := bb_of h3
  obtain ⟨p2, hp2, h4⟩ := bb_of h3
  obtain ⟨h5, h6⟩ := gd_of h4
  obtain ⟨hd, rfl⟩ := dk_of h6
  obtain ⟨hg, h7⟩ := gd_of h2
  obtain ⟨⟨y, m0⟩, g0, h7⟩ := bb_of h7
  obtain ⟨⟨x, m1⟩, g1, g2⟩ := bb_of h7
  obtain ⟨g4, g2⟩ := gd_of g2
  cases g2
  exact r.2 j pc p ls [] m hp hg (i.2 j cal hO 1 p p1 ls _ m m0 y hp1 (bcs_R (Nat.le_refl 0)) g0 (e.2 j cal hO 2 p1 p2 ls _ m0 m1 x hp2 (bcs_I (bcs_R (Nat.le_refl 0))) g1 (z_iast (bar_of h5) g4 hd kk))))
def sPutAZ (n : Nat) (r : ER κ) (i : EI κ) (e : EI κ) : ES κ := sOn (fun pc => (r.1.1 pc).bind fun p => (i.1.1 1 p).bind fun p1 => (e.1.1 2 p1).bind fun p2 => if bar r.1.2.2 2 n = true then dk κ.2.1 p2 .bastore 1 else none) (fun cal ls m => if gd r ls then (i.1.2 cal ls m).bind fun y => (e.1.2 cal ls y.2).bind fun x => if 0 ≤ y.1 ∧ y.1 < (n : Int) then if 0 ≤ x.1 ∧ x.1 ≤ 1 then some (ls, bwr x.2 r.1.2.2 y.1.toNat x.1) else none else none else none) (by
  intro j cal hO pc pc' ls ls' m m' h1 h2 kk
  obtain ⟨p, hp, h3⟩ := bb_of h1
  obtain ⟨p1, hp1, h3⟩ := bb_of h3
  obtain ⟨p2, hp2, h4⟩ := bb_of h3
  obtain ⟨h5, h6⟩ := gd_of h4
  obtain ⟨hd, rfl⟩ := dk_of h6
  obtain ⟨hg, h7⟩ := gd_of h2
  obtain ⟨⟨y, m0⟩, g0, h7⟩ := bb_of h7
  obtain ⟨⟨x, m1⟩, g1, g2⟩ := bb_of h7
  obtain ⟨g4, g2⟩ := gd_of g2
  obtain ⟨g3, g2⟩ := gd_of g2
  cases g2
  exact r.2 j pc p ls [] m hp hg (i.2 j cal hO 1 p p1 ls _ m m0 y hp1 (bcs_R (Nat.le_refl 0)) g0 (e.2 j cal hO 2 p1 p2 ls _ m0 m1 x hp2 (bcs_I (bcs_R (Nat.le_refl 0))) g1 (z_zast (bar_of h5) g4 g3 hd kk))))
def sPutAB (n : Nat) (r : ER κ) (i : EI κ) (e : EI κ) : ES κ := sOn (fun pc => (r.1.1 pc).bind fun p => (i.1.1 1 p).bind fun p1 => (e.1.1 2 p1).bind fun p2 => if bar r.1.2.2 3 n = true then dk κ.2.1 p2 .bastore 1 else none) (fun cal ls m => if gd r ls then (i.1.2 cal ls m).bind fun y => (e.1.2 cal ls y.2).bind fun x => if 0 ≤ y.1 ∧ y.1 < (n : Int) then if -128 ≤ x.1 ∧ x.1 ≤ 127 then some (ls, bwr x.2 r.1.2.2 y.1.toNat x.1) else none else none else none) (by
  intro j cal hO pc pc' ls ls' m m' h1 h2 kk
  obtain ⟨p, hp, h3⟩ := bb_of h1
  obtain ⟨p1, hp1, h3⟩ := bb_of h3
  obtain ⟨p2, hp2, h4⟩ := bb_of h3
  obtain ⟨h5, h6⟩ := gd_of h4
  obtain ⟨hd, rfl⟩ := dk_of h6
  obtain ⟨hg, h7⟩ := gd_of h2
  obtain ⟨⟨y, m0⟩, g0, h7⟩ := bb_of h7
  obtain ⟨⟨x, m1⟩, g1, g2⟩ := bb_of h7
  obtain ⟨g4, g2⟩ := gd_of g2
  obtain ⟨g3, g2⟩ := gd_of g2
  cases g2
  exact r.2 j pc p ls [] m hp hg (i.2 j cal hO 1 p p1 ls _ m m0 y hp1 (bcs_R (Nat.le_refl 0)) g0 (e.2 j cal hO 2 p1 p2 ls _ m0 m1 x hp2 (bcs_I (bcs_R (Nat.le_refl 0))) g1 (z_bast (bar_of h5) g4 g3 hd kk))))
def sPutAL (n : Nat) (r : ER κ) (i : EI κ) (e : EL κ) : ES κ := sOn (fun pc => (r.1.1 pc).bind fun p => (i.1.1 1 p).bind fun p1 => (e.1.1 2 p1).bind fun p2 => if bar r.1.2.2 4 n = true then dk κ.2.1 p2 .lastore 1 else none) (fun cal ls m => if gd r ls then (i.1.2 cal ls m).bind fun y => (e.1.2 cal ls y.2).bind fun x => if 0 ≤ y.1 ∧ y.1 < (n : Int) then some (ls, bwr x.2 r.1.2.2 y.1.toNat x.1) else none else none) (by
  intro j cal hO pc pc' ls ls' m m' h1 h2 kk
  obtain ⟨p, hp, h3⟩ := bb_of h1
  obtain ⟨p1, hp1, h3⟩ := bb_of h3
  obtain ⟨p2, hp2, h4⟩ := bb_of h3
  obtain ⟨h5, h6⟩ := gd_of h4
  obtain ⟨hd, rfl⟩ := dk_of h6
  obtain ⟨hg, h7⟩ := gd_of h2
  obtain ⟨⟨y, m0⟩, g0, h7⟩ := bb_of h7
  obtain ⟨⟨x, m1⟩, g1, g2⟩ := bb_of h7
  obtain ⟨g4, g2⟩ := gd_of g2
  cases g2
  exact r.2 j pc p ls [] m hp hg (i.2 j cal hO 1 p p1 ls _ m m0 y hp1 (bcs_R (Nat.le_refl 0)) g0 (e.2 j cal hO 2 p1 p2 ls _ m0 m1 x hp2 (bcs_I (bcs_R (Nat.le_refl 0))) g1 (z_last (bar_of h5) g4 hd kk))))
def sPutD (l : Nat) (i e : EI κ) : ES κ := sOn (fun pc => (if hi : l < 4 then dk κ.2.1 pc (.aload_n ⟨l, hi⟩) 1 else dk κ.2.1 pc (.aload l) 2).bind fun p => (i.1.1 1 p).bind fun p1 => (e.1.1 2 p1).bind fun p2 => dk κ.2.1 p2 .iastore 1) (fun cal ls m => (getR ls l).bind fun c => (i.1.2 cal ls m).bind fun y => (e.1.2 cal ls y.2).bind fun x => if 0 ≤ y.1 ∧ y.1 < (bln c : Int) then some (ls, bwr x.2 c y.1.toNat x.1) else none) (by
  intro j cal hO pc pc' ls ls' m m' h1 h2 kk
  obtain ⟨p, hp, h3⟩ := bb_of h1
  obtain ⟨p1, hp1, h3⟩ := bb_of h3
  obtain ⟨p2, hp2, h6⟩ := bb_of h3
  obtain ⟨hd, rfl⟩ := dk_of h6
  obtain ⟨c, hc, h7⟩ := bb_of h2
  obtain ⟨⟨y, m0⟩, g0, h7⟩ := bb_of h7
  obtain ⟨⟨x, m1⟩, g1, g2⟩ := bb_of h7
  obtain ⟨g4, g2⟩ := gd_of g2
  cases g2
  exact zz_aload hp (getR_of hc) (i.2 j cal hO 1 p p1 ls _ m m0 y hp1 (bcs_R (Nat.le_refl 0)) g0 (e.2 j cal hO 2 p1 p2 ls _ m0 m1 x hp2 (bcs_I (bcs_R (Nat.le_refl 0))) g1 (z_iast (bln_of g4) g4 hd kk))))
def opv (o : Nat) (a b : Int) : Int := match o with
  | 0 => i32 (a + b)
  | 1 => i32 (a - b)
  | 2 => jor a b
  | _ => jand a b
def opi (o : Nat) : Instr := match o with
  | 0 => .iadd
  | 1 => .isub
  | 2 => .ior
  | _ => .iand
theorem zz_op {j : bJ} {ls : bLs} {st : List bV} {m : bM} {pc o : Nat} {a b : Int} (hd : decode κ.2.1 pc = .ok (opi o, 1)) (kk : zz κ j (pc + 1) ls (aI (opv o a b) :: st) m) : zz κ j pc ls (aI b :: aI a :: st) m := by
  match o, hd, kk with
  | 0, hd, kk => exact z_iadd hd kk
  | 1, hd, kk => exact z_isub hd kk
  | 2, hd, kk => exact z_ior hd kk
  | n + 3, hd, kk => exact z_iand hd kk
theorem catI (v : Int) : ∀ ad, (bcv ad (aI v)).category = 1 := fun _ => rfl
theorem catR (v : Nat) : ∀ ad, (bcv ad (aR v)).category = 1 := fun _ => rfl
def sOpF {idx ci k : Nat} (o : Nat) (r : ER κ) (e : EI κ) (h : bFP κ.1 idx ci k .int) : ES κ := sOn (fun pc => (r.1.1 pc).bind fun p => (dk κ.2.1 p .dup 1).bind fun p1 => if bft r.1.2.2 ci k 0 = true then (dk κ.2.1 p1 (.getfield idx) 3).bind fun p2 => (e.1.1 2 p2).bind fun p3 => (dk κ.2.1 p3 (opi o) 1).bind fun p4 => dk κ.2.1 p4 (.putfield idx) 3 else none) (fun cal ls m => if gd r ls then (e.1.2 cal ls m).bind fun x => some (ls, bwr x.2 r.1.2.2 k (opv o (m r.1.2.2 k) x.1)) else none) (by
  intro j cal hO pc pc' ls ls' m m' h1 h2 kk
  obtain ⟨p, hp, h3⟩ := bb_of h1
  obtain ⟨p1, hp1, h3⟩ := bb_of h3
  obtain ⟨h5, h3⟩ := gd_of h3
  obtain ⟨p2, hp2, h3⟩ := bb_of h3
  obtain ⟨p3, hp3, h3⟩ := bb_of h3
  obtain ⟨p4, hp4, h6⟩ := bb_of h3
  obtain ⟨d1, rfl⟩ := dk_of hp1
  obtain ⟨d2, rfl⟩ := dk_of hp2
  obtain ⟨d4, rfl⟩ := dk_of hp4
  obtain ⟨d5, rfl⟩ := dk_of h6
  obtain ⟨hg, h7⟩ := gd_of h2
  obtain ⟨⟨x, m1⟩, g1, g2⟩ := bb_of h7
  cases g2
  obtain ⟨fl, e1, e2⟩ := bft_of h5
  have hh := h
  obtain ⟨q, ty, c1, c2, c3, c4, c5⟩ := h
  exact r.2 j pc p ls [] m hp hg (z_dup d1 (catR _) (z_getf c1 e1 c2 e2 c3 d2 (e.2 j cal hO 2 _ p3 ls _ m m1 x hp3 (bcs_I (bcs_R (Nat.le_refl 0))) g1 (zz_op d4 (zz_putI h5 hh d5 kk))))))
def sOpA (n o : Nat) (r : ER κ) (i e : EI κ) : ES κ := sOn (fun pc => (r.1.1 pc).bind fun p => (i.1.1 1 p).bind fun p1 => (dk κ.2.1 p1 .dup2 1).bind fun p2 => (dk κ.2.1 p2 .iaload 1).bind fun p3 => (e.1.1 3 p3).bind fun p4 => (dk κ.2.1 p4 (opi o) 1).bind fun p5 => if bar r.1.2.2 1 n = true then dk κ.2.1 p5 .iastore 1 else none) (fun cal ls m => if gd r ls then (i.1.2 cal ls m).bind fun y => if 0 ≤ y.1 ∧ y.1 < (n : Int) then (e.1.2 cal ls y.2).bind fun x => some (ls, bwr x.2 r.1.2.2 y.1.toNat (opv o (y.2 r.1.2.2 y.1.toNat) x.1)) else none else none) (by
  intro j cal hO pc pc' ls ls' m m' h1 h2 kk
  obtain ⟨p, hp, h3⟩ := bb_of h1
  obtain ⟨p1, hp1, h3⟩ := bb_of h3
  obtain ⟨p2, hp2, h3⟩ := bb_of h3
  obtain ⟨p3, hp3, h3⟩ := bb_of h3
  obtain ⟨p4, hp4, h3⟩ := bb_of h3
  obtain ⟨p5, hp5, h3⟩ := bb_of h3
  obtain ⟨h5, h6⟩ := gd_of h3
  obtain ⟨d1, rfl⟩ := dk_of hp2
  obtain ⟨d2, rfl⟩ := dk_of hp3
  obtain ⟨d4, rfl⟩ := dk_of hp5
  obtain ⟨d5, rfl⟩ := dk_of h6
  obtain ⟨hg, h7⟩ := gd_of h2
  obtain ⟨⟨y, m0⟩, g0, h7⟩ := bb_of h7
  obtain ⟨g5, h7⟩ := gd_of h7
  obtain ⟨⟨x, m1⟩, g1, g2⟩ := bb_of h7
  cases g2
  exact r.2 j pc p ls [] m hp hg (i.2 j cal hO 1 p p1 ls _ m m0 y hp1 (bcs_R (Nat.le_refl 0)) g0 (z_dup2 d1 (catI _) (catR _) (z_iald (bar_of h5) g5 d2 (e.2 j cal hO 3 _ p4 ls _ m0 m1 x hp4 (bcs_I (bcs_I (bcs_R (Nat.le_refl 0)))) g1 (zz_op d4 (z_iast (bar_of h5) g5 d5 kk)))))))
def sCall {f : Nat} (x : XC κ f) (h : brt f 0) : ES κ := sOn (fun pc => x.1.1 0 pc) (fun cal ls m => (x.1.2 cal ls m).map fun r => (ls, r.1)) (by
  intro j cal hO pc pc' ls ls' m m' h1 h2 kk
  obtain ⟨r, e1, e2⟩ := Option.map_eq_some_iff.mp h2
  cases e2
  exact x.2 j cal hO 0 pc pc' ls [] m r h1 (Nat.le_refl 0) e1 (by rw [bpush_V h]; exact kk))
def bcp (kd i k n0 n1 : Nat) : Bool := bar i kd n0 && bar k kd n1 && (kd == 1 || kd == 2)
theorem bcp_of {kd i k n0 n1 : Nat} (h : bcp kd i k n0 n1 = true) : bSY[i]? = some (kd, n0, []) ∧ bSY[k]? = some (kd, n1, []) ∧ (kd = 1 ∨ kd = 2) := by
  unfold bcp at h
  simp only [Bool.and_eq_true, Bool.or_eq_true, beq_iff_eq] at h
  exact ⟨bar_of h.1.1, bar_of h.1.2, h.2⟩
def sCopy {idx : Nat} (kd n0 n1 : Nat) (a : ER κ) (sp : EI κ) (b : ER κ) (dp n : EI κ) (h : ∀ w ∈ [Cond.methodLink κ.1 idx arraycopyName, Cond.native arraycopyName, Cond.static arraycopyName, Cond.initialized "java/lang/System"], w ∈ bT) : ES κ := sOn (fun pc => (a.1.1 pc).bind fun p => (sp.1.1 1 p).bind fun p1 => (b.1.1 p1).bind fun p2 => (dp.1.1 3 p2).bind fun p3 => (n.1.1 4 p3).bind fun p4 => if bcp kd a.1.2.2 b.1.2.2 n0 n1 = true then dk κ.2.1 p4 (.invokestatic idx) 3 else none) (fun cal ls m => if gd a ls ∧ gd b ls then (sp.1.2 cal ls m).bind fun x => (dp.1.2 cal ls x.2).bind fun y => (n.1.2 cal ls y.2).bind fun z => if 0 ≤ x.1 ∧ 0 ≤ y.1 ∧ 0 ≤ z.1 ∧ x.1 + z.1 ≤ n0 ∧ y.1 + z.1 ≤ n1 then some (ls, bcpy z.2 a.1.2.2 b.1.2.2 x.1.toNat y.1.toNat z.1.toNat) else none else none) (by
  intro j cal hO pc pc' ls ls' m m' h1 h2 kk
  obtain ⟨p, hp, h3⟩ := bb_of h1
  obtain ⟨p1, hp1, h3⟩ := bb_of h3
  obtain ⟨p2, hp2, h3⟩ := bb_of h3
  obtain ⟨p3, hp3, h3⟩ := bb_of h3
  obtain ⟨p4, hp4, h3⟩ := bb_of h3
  obtain ⟨h5, h6⟩ := gd_of h3
  obtain ⟨hd, rfl⟩ := dk_of h6
  obtain ⟨⟨ga, gb⟩, h7⟩ := gd_of h2
  obtain ⟨⟨x, m0⟩, g0, h7⟩ := bb_of h7
  obtain ⟨⟨y, m1⟩, g1, h7⟩ := bb_of h7
  obtain ⟨⟨z, m2⟩, g2, h7⟩ := bb_of h7
  obtain ⟨g5, h7⟩ := gd_of h7
  cases h7
  obtain ⟨c0, c1, c2⟩ := bcp_of h5
  exact a.2 j pc p ls [] m hp ga (sp.2 j cal hO 1 p p1 ls _ m m0 x hp1 (bcs_R (Nat.le_refl 0)) g0 (b.2 j p1 p2 ls _ m0 hp2 gb (dp.2 j cal hO 3 p2 p3 ls _ m0 m1 y hp3 (bcs_R (bcs_I (bcs_R (Nat.le_refl 0)))) g1 (n.2 j cal hO 4 p3 p4 ls _ m1 m2 z hp4 (bcs_I (bcs_R (bcs_I (bcs_R (Nat.le_refl 0))))) g2 (z_copy c0 c1 c2 g5 h ⟨hO.2.1.1, hO.2.1.2.1⟩ (Nat.zero_le _) hd kk))))))

end Comb2
