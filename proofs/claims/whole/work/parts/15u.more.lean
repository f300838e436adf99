/-! ===== more statements ===== -/
section More
theorem z_astore {sy : bS} {own : String} {cc : ByteArray} {nL : Nat} {ret : Option FieldType} {j : bJ} {pc : Nat} {ls : List (Option bV)} {st : List bV} {m : bM} {i z : Nat} {ls2 : List (Option bV)} (hd : decode cc pc = .ok (.astore i, 2)) (hn : bnl ls i = true) (hlt : i < nL) (he : ls.set i (some (aR z)) = ls2) (k : bZ sy own cc nL ret j (pc + 2) ls2 st m) : bZ sy own cc nL ret j pc ls (aR z :: st) m := by
  intro p l e s mi args below meth c D aC ad H locs la C E hP hD hS hm hst hl
  obtain ⟨hx, hb, hml, hown, hts, hr, hlk, hK, hG⟩ := id C
  subst he
  exact lv_astore hx hb hd (bll_has hl) hlt rfl (fun la2 hl2 => k p l e s mi args below meth c D aC ad H locs la2 C E hP hD hS hm (bok_tl hst) (blv_st (v := aR z) hl trivial hn hl2))
variable {κ : bK}
/-- a local above the third becomes one of two cells -/
def sSetQ (i : Nat) (c : EC κ) (a b : ER κ) : ES κ := sOn (fun pc => (c.1.1 0 pc).bind fun x => (a.1.1 x.1).bind fun p => (b.1.1 x.2).bind fun p2 => if g4 κ.2.1 p = g4 κ.2.1 p2 ∧ i < κ.2.2.1 then dk κ.2.1 (g4 κ.2.1 p) (.astore i) 2 else none) (fun cal ls m => (c.1.2 cal ls m).bind fun t => if bnl ls i = true then (if t.1 = true then (if gd a ls then some (ls.set i (some (aR a.1.2.2)), t.2) else none) else if gd b ls then some (ls.set i (some (aR b.1.2.2)), t.2) else none) else none) (by
  intro j cal hO pc pc' ls ls' m m' h1 h2 kk
  obtain ⟨⟨pt, pf⟩, hc, h3⟩ := bb_of h1
  obtain ⟨p, hp, h4⟩ := bb_of h3
  obtain ⟨p2, hp2, h5⟩ := bb_of h4
  obtain ⟨⟨e, hlt⟩, h6⟩ := gd_of h5
  obtain ⟨hd, rfl⟩ := dk_of h6
  obtain ⟨⟨t, m1⟩, g1, g2⟩ := bb_of h2
  obtain ⟨g3, g4⟩ := gd_of g2
  refine c.2 j cal hO 0 pc pt pf ls [] m m1 t hc (Nat.le_refl 0) g1 ?_
  cases t with
  | true =>
    obtain ⟨g5, g6⟩ := gd_of (show (if gd a ls then some (ls.set i (some (aR a.1.2.2)), m1) else none) = some (ls', m') from g4)
    cases g6
    exact a.2 j pt p ls [] _ hp g5 (zz_g4 (z_astore hd g3 hlt rfl kk))
  | false =>
    obtain ⟨g5, g6⟩ := gd_of (show (if gd b ls then some (ls.set i (some (aR b.1.2.2)), m1) else none) = some (ls', m') from g4)
    cases g6
    exact b.2 j pf p2 ls [] _ hp2 g5 (zz_g4 (e ▸ z_astore hd g3 hlt rfl kk)))
end More
