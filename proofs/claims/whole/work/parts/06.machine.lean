/-! ===== fields, rows, calls, ends ===== -/
def bfw (m : bM) (i k : Nat) (w : Nat) : bV := match w with
  | 0 => aI (m i k)
  | 1 => aL (m i k)
  | n + 2 => aR n
theorem bfw_cv (ad : Nat → Nat) (m : bM) (i k w : Nat) : bcv ad (bfw m i k w) = bfv ad (m i) k w := by
  match w with
  | 0 => rfl
  | 1 => rfl
  | n + 2 => rfl
theorem bwf_fld {sy : bS} {m : bM} (h : bwf sy m) {i ci k w : Nat} {fl : List Nat} (hsy : sy[i]? = some (0, ci, fl)) (hf : fl[k]? = some w) : bok (bfw m i k w) := by
  have h1 := h i k
  rw [hsy] at h1
  simp only [hf] at h1
  match w, h1 with
  | 0, h1 => exact h1
  | 1, h1 => exact h1
  | n + 2, _ => trivial
theorem bfl_set (ad : Nat → Nat) (f : Nat → Int) (fl : List Nat) (k w : Nat) (z : Int) (hf : fl[k]? = some w) : (bfl ad f 0 fl).set k (bfv ad (fun b => if b = k then z else f b) k w) = bfl ad (fun b => if b = k then z else f b) 0 fl := by
  apply List.ext_getElem?
  intro n
  have hlt : k < fl.length := (List.getElem?_eq_some_iff.mp hf).1
  by_cases hk : k = n
  · subst hk
    rw [List.getElem?_set_self (by rw [bfl_len]; exact hlt), bfl_get, hf, Nat.zero_add]; rfl
  · rw [List.getElem?_set_ne hk, bfl_get, bfl_get, Nat.zero_add]
    cases hn : fl[n]? with
    | none => rfl
    | some v =>
      show some (bfv ad f n v) = some (bfv ad _ n v)
      congr 1
      match v with
      | 0 => simp [bfv, Ne.symm hk]
      | 1 => simp [bfv, Ne.symm hk]
      | v + 2 => rfl
section Rules2
variable {sy : bS} {own : String} {cc : ByteArray} {nL : Nat} {ret : Option FieldType} {j : bJ} {pc : Nat} {ls : List (Option bV)} {st : List bV} {m : bM}
theorem z_getf {i ci k idx w : Nat} {q : vw_C} {ty : Nat → FieldType} {fl : List Nat} (hci : bCI ci q ty) (hsy : sy[i]? = some (0, ci, fl)) (hk : k < q.2.2) (hf : fl[k]? = some w) (hw : Cond.fieldLink own idx (q.2.1 k).1 (q.2.1 k).2.1 (q.2.1 k).2.2.1 ∈ bT) (hd : decode cc pc = .ok (.getfield idx, 3)) (kk : bZ sy own cc nL ret j (pc + 3) ls (bfw m i k w :: st) m) : bZ sy own cc nL ret j pc ls (aR i :: st) m := by
  intro p l e s mi args below meth c D aC ad H locs la C E hP hD hS hm hst hl
  obtain ⟨hx, hb, hml, hown, hts, hr, hlk, hK, hG⟩ := id C
  obtain ⟨hc, hin, -, -⟩ := hci
  refine va_get (C := q.1) (T := q.2.1) (N := q.2.2) (v := bcv ad (bfw m i k w)) hx hb hts hin hown hK hP i (bW_get hsy) hc k hk (hts _ hw) (fun _ h9 => h9) ?_ hd ?_
  · rw [bfl_get, hf, Nat.zero_add, bfw_cv]; rfl
  · exact kk p l e s mi args below meth c D aC ad H locs la C E hP hD hS hm (bok_cons (bwf_fld hm hsy hf) (bok_tl hst)) hl
theorem z_putf {i ci k idx w : Nat} {q : vw_C} {ty : Nat → FieldType} {fl : List Nat} {z : Int} {v : bV} (hci : bCI ci q ty) (hsy : sy[i]? = some (0, ci, fl)) (hk : k < q.2.2) (hf : fl[k]? = some w) (hv : ∀ ad, bcv ad v = bfv ad (fun b => if b = k then z else m i b) k w) (hz0 : w = 0 ∧ in32 z ∨ w = 1 ∧ in64 z) (hfin : (q.2.1 k).2.2.2 = false) (hn : ∀ ad, narrow (ty k) (bcv ad v) = bcv ad v ∧ fits (ty k) (bcv ad v) = true) (hw : Cond.fieldLink own idx (q.2.1 k).1 (q.2.1 k).2.1 (q.2.1 k).2.2.1 ∈ bT) (hd : decode cc pc = .ok (.putfield idx, 3)) (kk : bZ sy own cc nL ret j (pc + 3) ls st (bwr m i k z)) : bZ sy own cc nL ret j pc ls (v :: aR i :: st) m := by
  intro p l e s mi args below meth c D aC ad H locs la C E hP hD hS hm hst hl
  obtain ⟨hx, hb, hml, hown, hts, hr, hlk, hK, hG⟩ := id C
  obtain ⟨hc, hin, hty, hnm⟩ := hci
  have hlt : k < fl.length := (List.getElem?_eq_some_iff.mp hf).1
  have e1 : ∀ H1, va_P D bCL ((bW sy aC ad m).set i (ad i, .inr (ci, (bfl ad (m i) 0 fl).set k (bcv ad v)))) H1 → va_P D bCL (bW sy aC ad (bwr m i k z)) H1 := fun H1 h => by
    rw [hv, bfl_set ad (m i) fl k w z hf] at h
    rw [bwr_eq, ← bW_set hsy]
    exact h
  refine va_put (C := q.1) (T := q.2.1) (N := q.2.2) (v := bcv ad v) (ty := ty k) hx hb hts hin ty hty hnm hown hK hP hD hS i (bW_get hsy) hc k hk (hts _ hw) (fun _ h9 => h9) hfin (hty k hk) (hn ad).1 (hn ad).2 (by show k < (bfl ad (m i) 0 fl).length; rw [bfl_len]; exact hlt) hd (fun H1 locs1 hP1 hD1 hS1 => ?_)
  refine kk p l e s mi args below meth c D aC ad H1 locs1 la C E (e1 H1 hP1) (bW_D _ hD) hS1 ?_ (bok_tl (bok_tl hst)) hl
  rw [bwr_eq]
  refine bwf_up hm (fun n => ?_)
  have h1 := hm i n
  rw [hsy] at h1 ⊢
  by_cases hn : n = k
  · subst hn
    simp only [hf] at h1 ⊢
    rcases hz0 with ⟨rfl, h0⟩ | ⟨rfl, h0⟩
    · simpa using h0
    · simpa using h0
  · simp only [if_neg hn]; exact h1
theorem bWi {aC : Nat → ClassId} {ad : Nat → Nat} {i n : Nat} (hsy : sy[i]? = some (1, n, [])) : (bW sy aC ad m)[i]? = some (ad i, .inl (aC 0, n, .inl (fun k => Int32.ofInt (m i k)))) := bW_get hsy
theorem bWz {aC : Nat → ClassId} {ad : Nat → Nat} {i n : Nat} (hsy : sy[i]? = some (2, n, [])) : (bW sy aC ad m)[i]? = some (ad i, .inl (aC 1, n, .inl (fun k => Int32.ofInt (m i k)))) := bW_get hsy
theorem bWb {aC : Nat → ClassId} {ad : Nat → Nat} {i n : Nat} (hsy : sy[i]? = some (3, n, [])) : (bW sy aC ad m)[i]? = some (ad i, .inl (aC 2, n, .inl (fun k => Int32.ofInt (m i k)))) := bW_get hsy
theorem bWl {aC : Nat → ClassId} {ad : Nat → Nat} {i n : Nat} (hsy : sy[i]? = some (4, n, [])) : (bW sy aC ad m)[i]? = some (ad i, .inl (aC 3, n, .inr (.inl (fun k => Int64.ofInt (m i k))))) := bW_get hsy
theorem bup_upd (m : bM) (i : Nat) (n : Nat) (z : Int) : (upd (fun k => Int32.ofInt (m i k)) n (Int32.ofInt z)) = (fun k => Int32.ofInt ((fun b => if b = n then z else m i b) k)) := by
  funext k
  unfold upd
  by_cases h : k = n
  · subst h; simp
  · simp [h]
theorem bup_updL (m : bM) (i : Nat) (n : Nat) (z : Int) : (vp_updL (fun k => Int64.ofInt (m i k)) n (Int64.ofInt z)) = (fun k => Int64.ofInt ((fun b => if b = n then z else m i b) k)) := by
  funext k
  unfold vp_updL
  by_cases h : k = n
  · subst h; simp
  · simp [h]
theorem bwf_i {i n : Nat} (hsy : sy[i]? = some (1, n, [])) (h : bwf sy m) (k : Nat) : in32 (m i k) := by have h1 := h i k; rw [hsy] at h1; exact h1
theorem bwf_z {i n : Nat} (hsy : sy[i]? = some (2, n, [])) (h : bwf sy m) (k : Nat) : 0 ≤ m i k ∧ m i k ≤ 1 := by have h1 := h i k; rw [hsy] at h1; exact h1
theorem bwf_b {i n : Nat} (hsy : sy[i]? = some (3, n, [])) (h : bwf sy m) (k : Nat) : -128 ≤ m i k ∧ m i k ≤ 127 := by have h1 := h i k; rw [hsy] at h1; exact h1
theorem bwf_l {i n : Nat} (hsy : sy[i]? = some (4, n, [])) (h : bwf sy m) (k : Nat) : in64 (m i k) := by have h1 := h i k; rw [hsy] at h1; exact h1
theorem bwf_wr {i kd n k : Nat} {z : Int} (hsy : sy[i]? = some (kd, n, [])) (h : bwf sy m) (hz : kd = 1 ∧ in32 z ∨ kd = 2 ∧ 0 ≤ z ∧ z ≤ 1 ∨ kd = 3 ∧ -128 ≤ z ∧ z ≤ 127 ∨ kd = 4 ∧ in64 z) : bwf sy (bwr m i k z) := by
  rw [bwr_eq]
  refine bwf_up h (fun x => ?_)
  have h1 := h i x
  rw [hsy] at h1 ⊢
  rcases hz with ⟨rfl, h0⟩ | ⟨rfl, h0⟩ | ⟨rfl, h0⟩ | ⟨rfl, h0⟩ <;> (by_cases hx : x = k <;> first | (simp only [hx, if_true]; exact h0) | (simp only [if_neg hx]; exact h1))
theorem z_iald {i n : Nat} {z : Int} (hsy : sy[i]? = some (1, n, [])) (hin : 0 ≤ z ∧ z < n) (hd : decode cc pc = .ok (.iaload, 1)) (kk : bZ sy own cc nL ret j (pc + 1) ls (aI (m i z.toNat) :: st) m) : bZ sy own cc nL ret j pc ls (aI z :: aR i :: st) m := by
  intro p l e s mi args below meth c D aC ad H locs la C E hP hD hS hm hst hl
  obtain ⟨hx, hb, hml, hown, hts, hr, hlk, hK, hG⟩ := id C
  have hz : in32 z := bok_hd hst
  refine va_iald hx hb hK hP i 0 (bWi hsy) rfl (inI hz hin) hd ?_
  rw [toNatI hz]
  exact kk p l e s mi args below meth c D aC ad H locs la C E hP hD hS hm (bok_cons (bwf_i hsy hm _) (bok_tl (bok_tl hst))) hl
theorem z_zald {i n : Nat} {z : Int} (hsy : sy[i]? = some (2, n, [])) (hin : 0 ≤ z ∧ z < n) (hd : decode cc pc = .ok (.baload, 1)) (kk : bZ sy own cc nL ret j (pc + 1) ls (aI (m i z.toNat) :: st) m) : bZ sy own cc nL ret j pc ls (aI z :: aR i :: st) m := by
  intro p l e s mi args below meth c D aC ad H locs la C E hP hD hS hm hst hl
  obtain ⟨hx, hb, hml, hown, hts, hr, hlk, hK, hG⟩ := id C
  have hz : in32 z := bok_hd hst
  refine va_zald hx hb hK hP i 1 (bWz hsy) rfl (inI hz hin) hd ?_
  rw [toNatI hz]
  exact kk p l e s mi args below meth c D aC ad H locs la C E hP hD hS hm (bok_cons (by have := bwf_z hsy hm z.toNat; show in32 _; unfold in32; omega) (bok_tl (bok_tl hst))) hl
theorem z_bald {i n : Nat} {z : Int} (hsy : sy[i]? = some (3, n, [])) (hin : 0 ≤ z ∧ z < n) (hd : decode cc pc = .ok (.baload, 1)) (kk : bZ sy own cc nL ret j (pc + 1) ls (aI (m i z.toNat) :: st) m) : bZ sy own cc nL ret j pc ls (aI z :: aR i :: st) m := by
  intro p l e s mi args below meth c D aC ad H locs la C E hP hD hS hm hst hl
  obtain ⟨hx, hb, hml, hown, hts, hr, hlk, hK, hG⟩ := id C
  have hz : in32 z := bok_hd hst
  refine va_bald hx hb hK hP i 2 (bWb hsy) rfl (inI hz hin) hd ?_
  rw [toNatI hz]
  exact kk p l e s mi args below meth c D aC ad H locs la C E hP hD hS hm (bok_cons (by have := bwf_b hsy hm z.toNat; show in32 _; unfold in32; omega) (bok_tl (bok_tl hst))) hl
theorem z_lald {i n : Nat} {z : Int} (hsy : sy[i]? = some (4, n, [])) (hin : 0 ≤ z ∧ z < n) (hd : decode cc pc = .ok (.laload, 1)) (kk : bZ sy own cc nL ret j (pc + 1) ls (aL (m i z.toNat) :: st) m) : bZ sy own cc nL ret j pc ls (aI z :: aR i :: st) m := by
  intro p l e s mi args below meth c D aC ad H locs la C E hP hD hS hm hst hl
  obtain ⟨hx, hb, hml, hown, hts, hr, hlk, hK, hG⟩ := id C
  have hz : in32 z := bok_hd hst
  refine va_lald hx hb hK hP i 3 (bWl hsy) rfl (inI hz hin) hd ?_
  rw [toNatI hz]
  exact kk p l e s mi args below meth c D aC ad H locs la C E hP hD hS hm (bok_cons (v := aL _) (bwf_l hsy hm _) (bok_tl (bok_tl hst))) hl
theorem z_iast {i n : Nat} {z v : Int} (hsy : sy[i]? = some (1, n, [])) (hin : 0 ≤ z ∧ z < n) (hd : decode cc pc = .ok (.iastore, 1)) (kk : bZ sy own cc nL ret j (pc + 1) ls st (bwr m i z.toNat v)) : bZ sy own cc nL ret j pc ls (aI v :: aI z :: aR i :: st) m := by
  intro p l e s mi args below meth c D aC ad H locs la C E hP hD hS hm hst hl
  obtain ⟨hx, hb, hml, hown, hts, hr, hlk, hK, hG⟩ := id C
  have hv : in32 v := bok_hd hst
  have hz : in32 z := bok_hd (bok_tl hst)
  refine va_iast hx hb hK hP hD hS i 0 (bWi hsy) rfl (inI hz hin) hd (fun H1 locs1 hP1 hD1 hS1 => ?_)
  rw [toNatI hz, bup_upd] at hP1
  have e1 := bW_set (aC := aC) (ad := ad) (m := m) hsy (fun b => if b = z.toNat then v else m i b)
  refine kk p l e s mi args below meth c D aC ad H1 locs1 la C E ?_ (bW_D _ hD) hS1 (bwf_wr hsy hm (Or.inl ⟨rfl, hv⟩)) (bok_tl (bok_tl (bok_tl hst))) hl
  rw [bwr_eq, ← e1]
  exact hP1
theorem z_last {i n : Nat} {z v : Int} (hsy : sy[i]? = some (4, n, [])) (hin : 0 ≤ z ∧ z < n) (hd : decode cc pc = .ok (.lastore, 1)) (kk : bZ sy own cc nL ret j (pc + 1) ls st (bwr m i z.toNat v)) : bZ sy own cc nL ret j pc ls (aL v :: aI z :: aR i :: st) m := by
  intro p l e s mi args below meth c D aC ad H locs la C E hP hD hS hm hst hl
  obtain ⟨hx, hb, hml, hown, hts, hr, hlk, hK, hG⟩ := id C
  have hv : in64 v := bok_hd hst
  have hz : in32 z := bok_hd (bok_tl hst)
  refine va_last hx hb hK hP hD hS i 3 (bWl hsy) rfl (inI hz hin) hd (fun H1 locs1 hP1 hD1 hS1 => ?_)
  rw [toNatI hz, bup_updL] at hP1
  have e1 := bW_set (aC := aC) (ad := ad) (m := m) hsy (fun b => if b = z.toNat then v else m i b)
  refine kk p l e s mi args below meth c D aC ad H1 locs1 la C E ?_ (bW_D _ hD) hS1 (bwf_wr hsy hm (Or.inr (Or.inr (Or.inr ⟨rfl, hv⟩)))) (bok_tl (bok_tl (bok_tl hst))) hl
  rw [bwr_eq, ← e1]
  exact hP1
theorem nar_z {v : Int} (h : 0 ≤ v ∧ v ≤ 1) : vp_nar .boolean (Int32.ofInt v) = Int32.ofInt v := by
  rcases (show v = 0 ∨ v = 1 by omega) with rfl | rfl <;> decide
theorem nar_b {v : Int} (h : -128 ≤ v ∧ v ≤ 127) : vp_nar .byte (Int32.ofInt v) = Int32.ofInt v := by
  rw [vp_nar_byte]
  apply Int32.toInt_inj.mp
  have h32 : in32 v := by unfold in32; omega
  rw [toI h32, Int8.toInt_toInt32, Int32.toInt_toInt8, toI h32]
  unfold Int.bmod
  dsimp only
  split <;> omega
theorem z_zast {i n : Nat} {z v : Int} (hsy : sy[i]? = some (2, n, [])) (hin : 0 ≤ z ∧ z < n) (hv2 : 0 ≤ v ∧ v ≤ 1) (hd : decode cc pc = .ok (.bastore, 1)) (kk : bZ sy own cc nL ret j (pc + 1) ls st (bwr m i z.toNat v)) : bZ sy own cc nL ret j pc ls (aI v :: aI z :: aR i :: st) m := by
  intro p l e s mi args below meth c D aC ad H locs la C E hP hD hS hm hst hl
  obtain ⟨hx, hb, hml, hown, hts, hr, hlk, hK, hG⟩ := id C
  have hz : in32 z := bok_hd (bok_tl hst)
  refine va_zast hx hb hK hP hD hS i 1 (bWz hsy) rfl (inI hz hin) hd (fun H1 locs1 hP1 hD1 hS1 => ?_)
  rw [toNatI hz, nar_z hv2, bup_upd] at hP1
  have e1 := bW_set (aC := aC) (ad := ad) (m := m) hsy (fun b => if b = z.toNat then v else m i b)
  refine kk p l e s mi args below meth c D aC ad H1 locs1 la C E ?_ (bW_D _ hD) hS1 (bwf_wr hsy hm (Or.inr (Or.inl ⟨rfl, hv2⟩))) (bok_tl (bok_tl (bok_tl hst))) hl
  rw [bwr_eq, ← e1]
  exact hP1
theorem z_bast {i n : Nat} {z v : Int} (hsy : sy[i]? = some (3, n, [])) (hin : 0 ≤ z ∧ z < n) (hv2 : -128 ≤ v ∧ v ≤ 127) (hd : decode cc pc = .ok (.bastore, 1)) (kk : bZ sy own cc nL ret j (pc + 1) ls st (bwr m i z.toNat v)) : bZ sy own cc nL ret j pc ls (aI v :: aI z :: aR i :: st) m := by
  intro p l e s mi args below meth c D aC ad H locs la C E hP hD hS hm hst hl
  obtain ⟨hx, hb, hml, hown, hts, hr, hlk, hK, hG⟩ := id C
  have hz : in32 z := bok_hd (bok_tl hst)
  refine va_bast hx hb hK hP hD hS i 2 (bWb hsy) rfl (inI hz hin) hd (fun H1 locs1 hP1 hD1 hS1 => ?_)
  rw [toNatI hz, nar_b hv2, bup_upd] at hP1
  have e1 := bW_set (aC := aC) (ad := ad) (m := m) hsy (fun b => if b = z.toNat then v else m i b)
  refine kk p l e s mi args below meth c D aC ad H1 locs1 la C E ?_ (bW_D _ hD) hS1 (bwf_wr hsy hm (Or.inr (Or.inr (Or.inl ⟨rfl, hv2⟩)))) (bok_tl (bok_tl (bok_tl hst))) hl
  rw [bwr_eq, ← e1]
  exact hP1
theorem z_alen {i kd n : Nat} (hsy : sy[i]? = some (kd, n, [])) (hkd : kd = 1 ∨ kd = 2 ∨ kd = 3 ∨ kd = 4) (hn : n < 2147483648) (hd : decode cc pc = .ok (.arraylength, 1)) (kk : bZ sy own cc nL ret j (pc + 1) ls (aI (n : Int) :: st) m) : bZ sy own cc nL ret j pc ls (aR i :: st) m := by
  intro p l e s mi args below meth c D aC ad H locs la C E hP hD hS hm hst hl
  obtain ⟨hx, hb, hml, hown, hts, hr, hlk, hK, hG⟩ := id C
  have hi : in32 (n : Int) := by unfold in32; omega
  have k2 := kk p l e s mi args below meth c D aC ad H locs la C E hP hD hS hm (bok_cons (v := aI _) hi (bok_tl hst)) hl
  have e1 : Int32.ofNat n = Int32.ofInt (n : Int) := rfl
  rcases hkd with rfl | rfl | rfl | rfl
  · exact va_alen hx hb hK hP i 0 (bWi hsy) rfl e1 hd k2
  · exact va_alen hx hb hK hP i 1 (bWz hsy) rfl e1 hd k2
  · exact va_alen hx hb hK hP i 2 (bWb hsy) rfl e1 hd k2
  · exact va_alen hx hb hK hP i 3 (bWl hsy) rfl e1 hd k2
/-! ends -/
theorem z_vret {d : Nat} {r : bM × Int} (hd : decode cc pc = .ok (.return_, 1)) (hr0 : ret = none) (hr1 : r = (m, 0)) : bZ sy own cc nL ret (jm sy ret d r) pc ls [] m := by
  intro p l e s mi args below meth c D aC ad H locs la C E hP hD hS hm hst hl
  obtain ⟨hx, hb, hml, hown, hts, hr, hlk, hK, hG⟩ := id C
  subst hr1; subst hr0
  exact W.vret hx hb hr (fun t ht hW => ⟨rfl, by rw [ht]; exact hP, hm, trivial, hS.F ht⟩) hS.2.2 hd hlk
theorem z_iret {d : Nat} {z : Int} {r : bM × Int} (hd : decode cc pc = .ok (.ireturn, 1)) (hr0 : ret = some .int ∨ ret = some .boolean ∧ 0 ≤ z ∧ z ≤ 1) (hr1 : r = (m, z)) : bZ sy own cc nL ret (jm sy ret d r) pc ls [aI z] m := by
  intro p l e s mi args below meth c D aC ad H locs la C E hP hD hS hm hst hl
  obtain ⟨hx, hb, hml, hown, hts, hr, hlk, hK, hG⟩ := id C
  subst hr1
  have hz : in32 z := bok_hd hst
  rcases hr0 with rfl | ⟨rfl, h0⟩
  · exact W.iret hx hb hr (fun t ht hW => ⟨rfl, by rw [ht]; exact hP, hm, hz, hS.F ht⟩) hS.2.2 hd hlk
  · exact W.zret hx hb hr (by rcases (show z = 0 ∨ z = 1 by omega) with rfl | rfl <;> decide) (fun t ht hW => ⟨rfl, by rw [ht]; exact hP, hm, hz, hS.F ht⟩) hS.2.2 hd hlk
theorem z_lret {d : Nat} {z : Int} {r : bM × Int} (hd : decode cc pc = .ok (.lreturn, 1)) (hr0 : ret = some .long) (hr1 : r = (m, z)) : bZ sy own cc nL ret (jm sy ret d r) pc ls [aL z] m := by
  intro p l e s mi args below meth c D aC ad H locs la C E hP hD hS hm hst hl
  obtain ⟨hx, hb, hml, hown, hts, hr, hlk, hK, hG⟩ := id C
  subst hr1; subst hr0
  have hz : in64 z := bok_hd hst
  exact W.lret hx hb hr (fun t ht hW => ⟨rfl, by rw [ht]; exact hP, hm, hz, hS.F ht⟩) hS.2.2 hd hlk
end Rules2
