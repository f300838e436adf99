/-! ===== more statements ===== -/
section More
theorem z_astore {sy : bS} {own : String} {cc : ByteArray} {nL : Nat} {ret : Option FieldType} {j : bJ} {pc : Nat} {ls : List (Option bV)} {st : List bV} {m : bM} {i z : Nat} {ls2 : List (Option bV)} (hd : decode cc pc = .ok (.astore i, 2)) (hn : bnl ls i = true) (hlt : i < nL) (he : ls.set i (some (aR z)) = ls2) (k : bZ sy own cc nL ret j (pc + 2) ls2 st m) : bZ sy own cc nL ret j pc ls (aR z :: st) m := by
  intro p l e s mi args below meth c D aC ad H locs la C E hP hD hS hm hst hl
  obtain ⟨hx, hb, hml, hown, hts, hr, hlk, hK, hG⟩ := id C
  subst he
  exact lv_astore hx hb hd (bll_has hl) hlt rfl (fun la2 hl2 => k p l e s mi args below meth c D aC ad H locs la2 C E hP hD hS hm (bok_tl hst) (blv_st (v := aR z) hl trivial hn hl2))
variable {κ : bK}
/-- a local above the third becomes one of two cells -/
def sSetQ (i : Nat) (c : EC κ) (a b : ER κ) : ES κ := sOn (fun pc => (c.1.1 0 pc).bind fun x => (a.1.1 x.1).bind fun p => (b.1.1 x.2).bind fun p2 => if g4 κ.2.1 p = g4 κ.2.1 p2 ∧ i < κ.2.2.1 then dk κ.2.1 (g4 κ.2.1 p) (.astore i) 2 else none) (fun cal ls m => (c.1.2 cal ls m).bind fun t => if bnl ls i = true then (if t.1 = true then (if gd a ls then some (ls.set i (some (aR a.1.2.2)), t.2) else none) else if gd b ls then some (ls.set i (some (aR b.1.2.2)), t.2) else none) else none) (by
  intro j cal hO pc pc' ls ls' m m' h1 h2 kk
  obtain ⟨⟨pt, pf⟩, hc, h3⟩ := bb_of h1
  obtain ⟨p, hp, h4⟩ := bb_of h3
  obtain ⟨p2, hp2, h5⟩ := bb_of h4
  obtain ⟨⟨e, hlt⟩, h6⟩ := gd_of h5
  obtain ⟨hd, rfl⟩ := dk_of h6
  obtain ⟨⟨t, m1⟩, g1, g2⟩ := bb_of h2
  obtain ⟨g3, g4⟩ := gd_of g2
  refine c.2 j cal hO 0 pc pt pf ls [] m m1 t hc (Nat.le_refl 0) g1 ?_
  cases t with
  | true =>
    obtain ⟨g5, g6⟩ := gd_of (show (if gd a ls then some (ls.set i (some (aR a.1.2.2)), m1) else none) = some (ls', m') from g4)
    cases g6
    exact a.2 j pt p ls [] _ hp g5 (zz_g4 (z_astore hd g3 hlt rfl kk))
  | false =>
    obtain ⟨g5, g6⟩ := gd_of (show (if gd b ls then some (ls.set i (some (aR b.1.2.2)), m1) else none) = some (ls', m') from g4)
    cases g6
    exact b.2 j pf p2 ls [] _ hp2 g5 (zz_g4 (e ▸ z_astore hd g3 hlt rfl kk)))
/-- a call of the text's own -/
def bCT (own : String) (idx f n : Nat) : Prop := own = RX7 ∧ (∀ w ∈ wsV own idx RJ0 (bInfo f).1 (Cond.code (bInfo f).1 (bInfo f).2.1 (bInfo f).2.2.1 (bInfo f).2.2.2 :: bT), w ∈ bT) ∧ ((bInfo f).1.cls = RJ0 ∧ (bInfo f).1.cls ≠ "java/lang/invoke/MethodHandle" ∧ (bInfo f).1.cls ≠ "java/lang/invoke/VarHandle" ∧ (parseMethodDescriptor (bInfo f).1.desc).map (fun d => d.parameters.length) = some n)
def xT {idx n : Nat} (f : Nat) (g : EG κ) (h : bCT κ.1 idx f n) : XC κ f := ⟨(fun k pc => if k ≤ 8 ∧ g.1.2.2 = n then (dk κ.2.1 pc (.ldc 110) 2).bind fun p => (g.1.1 (k + 1) p).bind fun p2 => dk κ.2.1 p2 (.invokevirtual idx) 3 else none, fun cal ls m => (g.1.2.1 cal ls m).bind fun x => cal f (aR 1002 :: x.1) x.2), by
  intro j cal hO k pc pc' ls st m rr h1 hk h2 kk
  obtain ⟨⟨hk8, hn⟩, h1⟩ := gd_of h1
  obtain ⟨p, hp, h3⟩ := bb_of h1
  obtain ⟨hd0, rfl⟩ := dk_of hp
  obtain ⟨p2, hp2, h6⟩ := bb_of h3
  obtain ⟨hd, rfl⟩ := dk_of h6
  obtain ⟨⟨av, m1⟩, g1, g2⟩ := bb_of h2
  obtain ⟨ho, c2, c3⟩ := h
  obtain ⟨d, hfit, hcal⟩ := hO.2.2 f _ _ _ g2
  have hlen := g.2.2 _ _ _ _ _ g1
  rw [hn] at hlen
  exact z_text ho hd0 (g.2.1 j cal hO (k + 1) _ p2 ls _ m m1 av hp2 (bcs_R hk) g1 (z_callT hcal hfit c2 (by rw [hlen]; exact c3) (Nat.le_trans hk hk8) hd kk))⟩
def eCallC {f : Nat} (x : XC κ f) (h : (bInfo f).2.2.2 = some .char) : EI κ := ⟨(x.1.1, fun cal ls m => (x.1.2 cal ls m).map fun r => (r.2, r.1)), by
  intro j cal hO k pc pc' ls st m m' v h1 hk h2 kk
  obtain ⟨r, e1, e2⟩ := Option.map_eq_some_iff.mp h2
  cases e2
  exact x.2 j cal hO k pc pc' ls st m r h1 hk e1 (by rw [h]; exact kk)⟩
end More
