/-! ===== a system that grows: Arrays.fill, locals ===== -/
section Grow4
variable {own : String} {cc : ByteArray} {nL : Nat} {rt : Option FieldType × Bool} {j : gJ} {pc : Nat} {ls : bLs} {st : List bV} {sy : gS} {m : bM} {k : Nat × Nat}
theorem gz_iload_n {i : Fin 4} {z : Int} (hd : decode cc pc = .ok (.iload_n i, 1)) (h : ls[(i : Nat)]? = some (some (aI z))) (kk : gZ own cc nL rt j (pc + 1) ls (aI z :: st) sy m k) : gZ own cc nL rt j pc ls st sy m k := by
  intro p l e s mi args below meth c D aC ad base H locs la C had hl P hz hb hS hm hst hv
  have h1 := hv.2.2 _ _ h
  exact lv_iload_n C.1 C.2.1 hd rfl h1.1 (kk p l e s mi args below meth c D aC ad base H locs la C had hl P hz hb hS hm (bok_cons h1.2 hst) hv)
theorem gz_istore_n {i : Fin 4} {z : Int} {ls2 : bLs} (hd : decode cc pc = .ok (.istore_n i, 1)) (hn : bnl ls i = true) (hlt : (i : Nat) < nL) (he : ls.set i (some (aI z)) = ls2) (kk : gZ own cc nL rt j (pc + 1) ls2 st sy m k) : gZ own cc nL rt j pc ls (aI z :: st) sy m k := by
  intro p l e s mi args below meth c D aC ad base H locs la C had hl P hz hb hS hm hst hv
  subst he
  exact lv_istore_n C.1 C.2.1 hd rfl (bll_has hv) hlt rfl (fun la2 hl2 => kk p l e s mi args below meth c D aC ad base H locs la2 C had hl P hz hb hS hm (bok_tl hst) (blv_st hv (bok_hd hst) hn hl2))
theorem gz_astore_n {i : Fin 4} {z : Nat} {ls2 : bLs} (hd : decode cc pc = .ok (.astore_n i, 1)) (hn : bnl ls i = true) (hlt : (i : Nat) < nL) (he : ls.set i (some (aR z)) = ls2) (kk : gZ own cc nL rt j (pc + 1) ls2 st sy m k) : gZ own cc nL rt j pc ls (aR z :: st) sy m k := by
  intro p l e s mi args below meth c D aC ad base H locs la C had hl P hz hb hS hm hst hv
  subst he
  exact lv_astore_n C.1 C.2.1 hd rfl (bll_has hv) hlt rfl (fun la2 hl2 => kk p l e s mi args below meth c D aC ad base H locs la2 C had hl P hz hb hS hm (bok_tl hst) (blv_st hv (bok_hd hst) hn hl2))
theorem gz_iinc {i : Nat} {n z z2 : Int} {ls2 : bLs} (hd : decode cc pc = .ok (.iinc i n, 3)) (h : ls[i]? = some (some (aI z))) (hz2 : i32 (z + n) = z2) (hn : bnl ls i = true) (hlt : i < nL) (he : ls.set i (some (aI z2)) = ls2) (kk : gZ own cc nL rt j (pc + 3) ls2 st sy m k) : gZ own cc nL rt j pc ls st sy m k := by
  intro p l e s mi args below meth c D aC ad base H locs la C had hl P hz hb hS hm hst hv
  subst hz2; subst he
  obtain ⟨q, hq⟩ := List.getElem?_of_mem (bll_mem (ad := ad) h)
  exact lv_iinc (v := Int32.ofInt (i32 (z + n))) C.1 C.2.1 hd (bll_has hv) hq (by rw [ofI_i32, Int32.ofInt_add]) hlt rfl (fun la2 hl2 => kk p l e s mi args below meth c D aC ad base H locs la2 C had hl P hz hb hS hm hst (blv_st (v := aI (i32 (z + n))) hv (i32_in _) hn hl2))
theorem gz_goto {off : Int} {tgt : Nat} (hd : decode cc pc = .ok (.goto off, 3)) (ht : (pc : Int) + off = (tgt : Int)) (kk : gZ own cc nL rt j tgt ls st sy m k) : gZ own cc nL rt j pc ls st sy m k := by
  intro p l e s mi args below meth c D aC ad base H locs la C had hl P hz hb hS hm hst hv
  exact lv_goto C.1 C.2.1 hd ht (kk p l e s mi args below meth c D aC ad base H locs la C had hl P hz hb hS hm hst hv)
theorem gz_icmp_ge {a b : Int} {off : Int} {tgt : Nat} (hd : decode cc pc = .ok (.if_icmp .ge off, 3)) (ht : (pc : Int) + off = (tgt : Int)) (kt : b ≤ a → gZ own cc nL rt j tgt ls st sy m k) (kf : ¬ (b ≤ a) → gZ own cc nL rt j (pc + 3) ls st sy m k) : gZ own cc nL rt j pc ls (aI b :: aI a :: st) sy m k := by
  intro p l e s mi args below meth c D aC ad base H locs la C had hl P hz hb hS hm hst hv
  have h0 : in32 b := bok_hd hst
  have ha : in32 a := bok_hd (bok_tl hst)
  have i1 := ofI_eq ha h0
  have i2 := ofI_lt ha h0
  have i3 := ofI_le h0 ha
  have i4 := ofI_lt h0 ha
  have i5 := ofI_le ha h0
  refine lv_icmp_ge C.1 C.2.1 hd ht (fun q => (kt ?_) p l e s mi args below meth c D aC ad base H locs la C had hl P hz hb hS hm (bok_tl (bok_tl hst)) hv) (fun q => (kf ?_) p l e s mi args below meth c D aC ad base H locs la C had hl P hz hb hS hm (bok_tl (bok_tl hst)) hv)
  · simp only [← i1, ← i2, ← i3, ← i4, ← i5]; first | exact q | (simp at q ⊢; exact q)
  · simp only [← i1, ← i2, ← i3, ← i4, ← i5]; first | exact q | (simp at q ⊢; exact q)
theorem gz_alen {i n : Nat} (hsy : sy[i]? = some (1, n, [])) (hn : n < 2147483648) (hd : decode cc pc = .ok (.arraylength, 1)) (kk : gZ own cc nL rt j (pc + 1) ls (aI (n : Int) :: st) sy m k) : gZ own cc nL rt j pc ls (aR i :: st) sy m k := by
  intro p l e s mi args below meth c D aC ad base H locs la C had hl P hz hb hS hm hst hv
  obtain ⟨hx, hbb, hml, hown, hts, hr, hlk, hK, hnm, hN⟩ := id C
  have hi : in32 (n : Int) := by unfold in32; omega
  have e1 : Int32.ofNat n = Int32.ofInt (n : Int) := rfl
  exact va_alen (a := ad i) (x := (n, .inl (fun q => Int32.ofInt (m i q)))) hx hbb hK P i 0 (gW_get hsy) rfl e1 hd (kk p l e s mi args below meth c D aC ad base H locs la C had hl P hz hb hS hm (bok_cons (v := aI _) hi (bok_tl hst)) hv)
end Grow4
/-- row i of a memory, its first n places filled -/
def gfill (m : bM) (i n : Nat) (v : Int) : bM := fun a b => if a = i ∧ b < n then v else m a b
theorem gfill_s (m : bM) (i n : Nat) (v : Int) : bwr (gfill m i n v) i n v = gfill m i (n + 1) v := by
  funext a b
  rw [bwr_eq]
  unfold bup gfill
  by_cases h : a = i
  · subst h
    by_cases h2 : b = n
    · subst h2
      simp
    · by_cases h3 : b < n
      · simp [h2, h3, show b < n + 1 by omega]
      · simp [h2, h3, show ¬ b < n + 1 by omega]
  · simp [h]
theorem dfl_0 : decode cJ7_fill_53178 0 = .ok (.iconst 0, 1) := by decide +kernel
theorem dfl_1 : decode cJ7_fill_53178 1 = .ok (.istore_n 2, 1) := by decide +kernel
theorem dfl_2 : decode cJ7_fill_53178 2 = .ok (.aload_n 0, 1) := by decide +kernel
theorem dfl_3 : decode cJ7_fill_53178 3 = .ok (.arraylength, 1) := by decide +kernel
theorem dfl_4 : decode cJ7_fill_53178 4 = .ok (.istore_n 3, 1) := by decide +kernel
theorem dfl_5 : decode cJ7_fill_53178 5 = .ok (.iload_n 2, 1) := by decide +kernel
theorem dfl_6 : decode cJ7_fill_53178 6 = .ok (.iload_n 3, 1) := by decide +kernel
theorem dfl_7 : decode cJ7_fill_53178 7 = .ok (.if_icmp .ge 13, 3) := by decide +kernel
theorem dfl_10 : decode cJ7_fill_53178 10 = .ok (.aload_n 0, 1) := by decide +kernel
theorem dfl_11 : decode cJ7_fill_53178 11 = .ok (.iload_n 2, 1) := by decide +kernel
theorem dfl_12 : decode cJ7_fill_53178 12 = .ok (.iload_n 1, 1) := by decide +kernel
theorem dfl_13 : decode cJ7_fill_53178 13 = .ok (.iastore, 1) := by decide +kernel
theorem dfl_14 : decode cJ7_fill_53178 14 = .ok (.iinc 2 1, 3) := by decide +kernel
theorem dfl_17 : decode cJ7_fill_53178 17 = .ok (.goto (-12), 3) := by decide +kernel
theorem dfl_20 : decode cJ7_fill_53178 20 = .ok (.return_, 1) := by decide +kernel
abbrev rmF : Room := { frames := 1, cells := 0, slots := 0, locals := 40 }
theorem fill_lp {own : String} {i n : Nat} {v : Int} {sy : gS} {m : bM} (hsy : sy[i]? = some (1, n, [])) (hn : n < 100000) (hv : in32 v) : ∀ (r a : Nat), a + r = n → gZ own cJ7_fill_53178 4 (none, false) (gjm rmF sy (gfill m i n v) (0, 0)) 5 [some (aR i), some (aI v), some (aI (a : Int)), some (aI (n : Int))] [] sy (gfill m i a v) (0, 0)
  | 0, a, h => by
    have e : a = n := by omega
    subst e
    refine gz_iload_n dfl_5 rfl (gz_iload_n dfl_6 rfl (gz_icmp_ge dfl_7 rfl (fun _ => gz_ret rfl dfl_20) (fun q => absurd (Int.le_refl _) q)))
  | r + 1, a, h => by
    have h1 : i32 ((a : Int) + 1) = ((a + 1 : Nat) : Int) := i32_s (by omega)
    have h2 : 0 ≤ (a : Int) ∧ (a : Int) < (n : Nat) := by omega
    refine gz_iload_n dfl_5 rfl (gz_iload_n dfl_6 rfl (gz_icmp_ge dfl_7 rfl (fun q => absurd q (by omega)) (fun _ => gz_aload_n dfl_10 rfl (gz_iload_n dfl_11 rfl (gz_iload_n dfl_12 rfl (gz_iast hsy h2 dfl_13 (gz_iinc dfl_14 rfl h1 rfl (by decide) rfl (gz_goto dfl_17 rfl ?_))))))))
    rw [Int.toNat_natCast, gfill_s]
    exact fill_lp hsy hn hv r (a + 1) (by omega)
theorem fill_cal {i n : Nat} {v : Int} {sy : gS} {m : bM} (hsy : sy[i]? = some (1, n, [])) (hn : n < 100000) (hv : in32 v) (hl : sy.length ≤ 204) (hm : ∀ i n, sy.length ≤ i → m i n = 0) : gCal yJ7_fill_53178 cJ7_fill_53178 4 rmF [aR i, aI v] sy m sy (gfill m i n v) (0, 0) := by
  refine gCal_of (b := false) (by decide +kernel) (fun h => by cases h) (Nat.le_of_ble_eq_true rfl) hl hm (fun w hw => ?_) ?_
  · rcases List.mem_cons.mp hw with e | e
    · rw [e]; trivial
    · rcases List.mem_cons.mp e with e | e
      · rw [e]; exact hv
      · cases e
  · refine gz_iconst dfl_0 (by unfold in32; omega) (gz_istore_n dfl_1 rfl (by decide) rfl (gz_aload_n dfl_2 rfl (gz_alen hsy (by omega) dfl_3 (gz_istore_n dfl_4 rfl (by decide) rfl ?_))))
    have e0 : gfill m i 0 v = m := by
      funext a b
      unfold gfill
      rw [if_neg (by omega)]
    have h := fill_lp (own := yJ7_fill_53178.cls) (m := m) hsy hn hv n 0 (by omega)
    rw [e0] at h
    exact h
