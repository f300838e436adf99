/-! ===== the law: its script ===== -/
def ExL (L : Nat) (xs : Nat → Int32) : bEx := fun args s ad => args = #[.ref (ad 1004)] ∧ va_X (ad 1004) L xs s s.heap ∧ ad 1004 < s.heap.size ∧ L ≤ 448 ∧ ∀ i : Nat, i < 204 → s.heap.size ≤ ad i
theorem bSY_len : bSY.length = 204 := by decide +kernel
theorem ExL_out {L : Nat} {xs : Nat → Int32} {args : Array Value} {s : State} {ad : Nat → Nat} (h : ExL L xs args s ad) : ¬ bA bSY ad s.heap.size (ad 1004) := by
  obtain ⟨_, _, h1, _, h2⟩ := h
  rintro (⟨i, hi, e⟩ | h3)
  · have := h2 i (by rw [← bSY_len]; exact hi)
    omega
  · omega
theorem z_scr {L : Nat} {xs : Nat → Int32} {own : String} {cc : ByteArray} {nL : Nat} {ret : Option FieldType} {j : bJ} {pc : Nat} {ls : bLs} {st : List bV} {m : bM} {z : Int} (hE : j.2.2.1 = ExL L xs) (hin : 0 ≤ z ∧ z < (L : Int)) (hd : decode cc pc = .ok (.iaload, 1)) (kk : bZ bSY own cc nL ret j (pc + 1) ls (aI (xs z.toNat).toInt :: st) m) : bZ bSY own cc nL ret j pc ls (aI z :: aR 1004 :: st) m := by
  intro p l e s mi args below meth c D aC ad H locs la C E hP hD hS hm hst hl
  obtain ⟨hx, hb, hml, hown, hts, hr, hlk, hK, hG⟩ := id C
  have hz : in32 z := bok_hd hst
  have E1 : ExL L xs args s ad := by rw [← hE]; exact E
  have h32 : in32 (xs z.toNat).toInt := by
    have h1 := Int32.toInt_lt (xs z.toNat)
    have h2 := Int32.le_toInt (xs z.toNat)
    unfold in32; omega
  refine va_sld hx hb E1.2.1 E1.2.2.1 (ExL_out E1) hS (inI hz hin) hd ?_
  rw [toNatI hz]
  have k2 := kk p l e s mi args below meth c D aC ad H locs la C E hP hD hS hm (bok_cons (v := aI _) h32 (bok_tl (bok_tl hst))) hl
  have e1 : bcv ad (aI (xs z.toNat).toInt) = .int (xs z.toNat) := by
    show Value.int (Int32.ofInt (xs z.toNat).toInt) = _
    rw [Int32.ofInt_toInt]
  rw [List.map_cons, e1] at k2
  exact k2
theorem z_sln {L : Nat} {xs : Nat → Int32} {own : String} {cc : ByteArray} {nL : Nat} {ret : Option FieldType} {j : bJ} {pc : Nat} {ls : bLs} {st : List bV} {m : bM} (hE : j.2.2.1 = ExL L xs) (hd : decode cc pc = .ok (.arraylength, 1)) (kk : bZ bSY own cc nL ret j (pc + 1) ls (aI (L : Int) :: st) m) : bZ bSY own cc nL ret j pc ls (aR 1004 :: st) m := by
  intro p l e s mi args below meth c D aC ad H locs la C E hP hD hS hm hst hl
  obtain ⟨hx, hb, hml, hown, hts, hr, hlk, hK, hG⟩ := id C
  have E1 : ExL L xs args s ad := by rw [← hE]; exact E
  have hi : in32 (L : Int) := by
    have := E1.2.2.2.1
    unfold in32; omega
  exact va_slen hx hb E1.2.1 E1.2.2.1 (ExL_out E1) hS hd (kk p l e s mi args below meth c D aC ad H locs la C E hP hD hS hm (bok_cons (v := aI _) hi (bok_tl hst)) hl)
section LawE
variable {κ : bK} {L : Nat} {xs : Nat → Int32}
def eScr (hκ : κ.2.2.2.2 = ExL L xs) (e : EI κ) : EI κ := ⟨(fun k pc => ((rLoc 0 1004 : ER κ).1.1 pc).bind fun p => (e.1.1 (k + 1) p).bind fun p2 => dk κ.2.1 p2 .iaload 1, fun cal ls m => if getR ls 0 = some 1004 then (e.1.2 cal ls m).bind fun x => if 0 ≤ x.1 ∧ x.1 < (L : Int) then some ((xs x.1.toNat).toInt, x.2) else none else none), by
  intro j cal hO k pc pc' ls st m m' v h1 hk h2 kk
  obtain ⟨p, hp, h3⟩ := bb_of h1
  obtain ⟨p2, hp2, h6⟩ := bb_of h3
  obtain ⟨hd, rfl⟩ := dk_of h6
  obtain ⟨hg, h7⟩ := gd_of h2
  obtain ⟨⟨z, m1⟩, g1, g2⟩ := bb_of h7
  obtain ⟨g3, g4⟩ := gd_of g2
  cases g4
  exact (rLoc 0 1004 : ER κ).2 j pc p ls st m hp hg (e.2 j cal hO (k + 1) p p2 ls _ m m1 z hp2 (bcs_R hk) g1 (z_scr (hO.1.trans hκ) g3 hd kk))⟩
def eSLn (hκ : κ.2.2.2.2 = ExL L xs) : EI κ := ⟨(fun _ pc => ((rLoc 0 1004 : ER κ).1.1 pc).bind fun p => dk κ.2.1 p .arraylength 1, fun _ ls m => if getR ls 0 = some 1004 then some ((L : Int), m) else none), by
  intro j cal hO k pc pc' ls st m m' v h1 hk h2 kk
  obtain ⟨p, hp, h3⟩ := bb_of h1
  obtain ⟨hd, rfl⟩ := dk_of h3
  obtain ⟨hg, h7⟩ := gd_of h2
  cases h7
  exact (rLoc 0 1004 : ER κ).2 j pc p ls st m hp hg (z_sln (hO.1.trans hκ) hd kk)⟩
theorem d_eScr {hκ : κ.2.2.2.2 = ExL L xs} {e : EI κ} {cal : bCl} {ls : bLs} {m : bM} : (eScr hκ e).1.2 cal ls m = if getR ls 0 = some 1004 then (e.1.2 cal ls m).bind fun x => if 0 ≤ x.1 ∧ x.1 < (L : Int) then some ((xs x.1.toNat).toInt, x.2) else none else none := nrf rfl
theorem d_eSLn {hκ : κ.2.2.2.2 = ExL L xs} {cal : bCl} {ls : bLs} {m : bM} : (eSLn hκ).1.2 cal ls m = if getR ls 0 = some 1004 then some ((L : Int), m) else none := nrf rfl
end LawE
abbrev K_law (L : Nat) (xs : Nat → Int32) : bK := (RL, code, 4, some .boolean, ExL L xs)
theorem hK_law (L : Nat) (xs : Nat → Int32) : (K_law L xs).2.2.2.2 = ExL L xs := rfl
