/-! ===== Math, System.arraycopy, statics, the text ===== -/
def jmax (a b : Int) : Int := if a < b then b else a
def jmin (a b : Int) : Int := if b < a then b else a
def jabs (a : Int) : Int := if 0 ≤ a then a else i32 (0 - a)
def bcpy (m : bM) (i k sp dp n : Nat) : bM := bup m k (fun b => if dp ≤ b ∧ b < dp + n then m i (sp + (b - dp)) else m k b)
section Jdk
variable {sy : bS} {own : String} {cc : ByteArray} {nL : Nat} {ret : Option FieldType} {j : bJ} {pc : Nat} {ls : List (Option bV)} {st : List bV} {m : bM}
theorem z_max {idx : Nat} {a b : Int} (hw : ∀ w ∈ [Cond.methodLink own idx Lib.Math.max.name, Cond.static Lib.Math.max.name, Cond.initialized "java/lang/Math", Cond.code Lib.Math.max.name Lib.Math.max.code 2 (some .int)], w ∈ bT) (hR : 1 ≤ j.1.frames ∧ 21 ≤ j.1.locals ∧ j.2.1.1 ≤ j.1.cells ∧ j.2.1.2 ≤ j.1.slots) (hcs : bcs st ≤ 8) (hd : decode cc pc = .ok (.invokestatic idx, 3)) (kk : bZ sy own cc nL ret j (pc + 3) ls (aI (jmax a b) :: st) m) : bZ sy own cc nL ret j pc ls (aI b :: aI a :: st) m := by
  intro p l e s mi args below meth c D aC ad H locs la C E hP hD hS hm hst hl
  obtain ⟨hx, hb, hml, hown, hts, hr, hlk, hK, hG⟩ := id C
  have hb32 : in32 b := bok_hd hst
  have ha32 : in32 a := bok_hd (bok_tl hst)
  refine va_mmax hx hb (hml.trans hl.1.symm) hown (hts _ (hw _ (by simp))) (hts _ (hw _ (by simp))) (hts _ (hw _ (by simp))) (hts _ (hw _ (by simp))) hR.1 (by rw [bcs_cat]; omega) hR.2.2.1 hR.2.2.2 hd ?_
  have e1 : (if Int32.ofInt a < Int32.ofInt b then Int32.ofInt b else Int32.ofInt a) = Int32.ofInt (jmax a b) := by
    unfold jmax
    by_cases h : a < b
    · rw [if_pos h, if_pos ((ofI_lt ha32 hb32).mpr h)]
    · rw [if_neg h, if_neg (fun q => h ((ofI_lt ha32 hb32).mp q))]
  rw [e1]
  exact kk p l e s mi args below meth c D aC ad H locs la C E hP hD hS hm (bok_cons (v := aI _) (by show in32 _; unfold jmax; split <;> assumption) (bok_tl (bok_tl hst))) hl
theorem z_min {idx : Nat} {a b : Int} (hw : ∀ w ∈ [Cond.methodLink own idx Lib.Math.min.name, Cond.static Lib.Math.min.name, Cond.initialized "java/lang/Math", Cond.code Lib.Math.min.name Lib.Math.min.code 2 (some .int)], w ∈ bT) (hR : 1 ≤ j.1.frames ∧ 21 ≤ j.1.locals ∧ j.2.1.1 ≤ j.1.cells ∧ j.2.1.2 ≤ j.1.slots) (hcs : bcs st ≤ 8) (hd : decode cc pc = .ok (.invokestatic idx, 3)) (kk : bZ sy own cc nL ret j (pc + 3) ls (aI (jmin a b) :: st) m) : bZ sy own cc nL ret j pc ls (aI b :: aI a :: st) m := by
  intro p l e s mi args below meth c D aC ad H locs la C E hP hD hS hm hst hl
  obtain ⟨hx, hb, hml, hown, hts, hr, hlk, hK, hG⟩ := id C
  have hb32 : in32 b := bok_hd hst
  have ha32 : in32 a := bok_hd (bok_tl hst)
  refine va_mmin hx hb (hml.trans hl.1.symm) hown (hts _ (hw _ (by simp))) (hts _ (hw _ (by simp))) (hts _ (hw _ (by simp))) (hts _ (hw _ (by simp))) hR.1 (by rw [bcs_cat]; omega) hR.2.2.1 hR.2.2.2 hd ?_
  have e1 : (if Int32.ofInt b < Int32.ofInt a then Int32.ofInt b else Int32.ofInt a) = Int32.ofInt (jmin a b) := by
    unfold jmin
    by_cases h : b < a
    · rw [if_pos h, if_pos ((ofI_lt hb32 ha32).mpr h)]
    · rw [if_neg h, if_neg (fun q => h ((ofI_lt hb32 ha32).mp q))]
  rw [e1]
  exact kk p l e s mi args below meth c D aC ad H locs la C E hP hD hS hm (bok_cons (v := aI _) (by show in32 _; unfold jmin; split <;> assumption) (bok_tl (bok_tl hst))) hl
theorem z_abs {idx : Nat} {a : Int} (hw : ∀ w ∈ [Cond.methodLink own idx Lib.Math.abs.name, Cond.static Lib.Math.abs.name, Cond.initialized "java/lang/Math", Cond.code Lib.Math.abs.name Lib.Math.abs.code 1 (some .int)], w ∈ bT) (hR : 1 ≤ j.1.frames ∧ 21 ≤ j.1.locals ∧ j.2.1.1 ≤ j.1.cells ∧ j.2.1.2 ≤ j.1.slots) (hcs : bcs st ≤ 8) (hd : decode cc pc = .ok (.invokestatic idx, 3)) (kk : bZ sy own cc nL ret j (pc + 3) ls (aI (jabs a) :: st) m) : bZ sy own cc nL ret j pc ls (aI a :: st) m := by
  intro p l e s mi args below meth c D aC ad H locs la C E hP hD hS hm hst hl
  obtain ⟨hx, hb, hml, hown, hts, hr, hlk, hK, hG⟩ := id C
  have ha32 : in32 a := bok_hd hst
  have h032 : in32 0 := by unfold in32; omega
  refine va_mabs hx hb (hml.trans hl.1.symm) hown (hts _ (hw _ (by simp))) (hts _ (hw _ (by simp))) (hts _ (hw _ (by simp))) (hts _ (hw _ (by simp))) hR.1 (by rw [bcs_cat]; omega) hR.2.2.1 hR.2.2.2 hd ?_
  have e1 : (if 0 ≤ Int32.ofInt a then Int32.ofInt a else 0 - Int32.ofInt a) = Int32.ofInt (jabs a) := by
    unfold jabs
    by_cases h : 0 ≤ a
    · rw [if_pos h, if_pos (show (0 : Int32) ≤ Int32.ofInt a from (ofI_le h032 ha32).mpr h)]
    · rw [if_neg h, if_neg (show ¬ (0 : Int32) ≤ Int32.ofInt a from fun q => h ((ofI_le h032 ha32).mp q)), ofI_i32, Int32.ofInt_sub]; rfl
  rw [e1]
  exact kk p l e s mi args below meth c D aC ad H locs la C E hP hD hS hm (bok_cons (v := aI _) (by show in32 _; unfold jabs; split <;> first | assumption | exact i32_in _) (bok_tl hst)) hl
theorem bcpy_wf {i k n0 n1 kd sp dp n : Nat} (h0 : sy[i]? = some (kd, n0, [])) (h1 : sy[k]? = some (kd, n1, [])) (hkd : kd = 1 ∨ kd = 2) (h : bwf sy m) : bwf sy (bcpy m i k sp dp n) := by
  unfold bcpy
  refine bwf_up h (fun x => ?_)
  rw [h1]
  rcases hkd with rfl | rfl
  · show in32 (if _ then _ else _)
    split
    · exact bwf_i h0 h _
    · exact bwf_i h1 h _
  · show 0 ≤ (if dp ≤ x ∧ x < dp + n then m i (sp + (x - dp)) else m k x) ∧ (if dp ≤ x ∧ x < dp + n then m i (sp + (x - dp)) else m k x) ≤ 1
    split
    · exact bwf_z h0 h _
    · exact bwf_z h1 h _
theorem z_copy {idx i k n0 n1 kd : Nat} {sp dp n : Int} (h0 : sy[i]? = some (kd, n0, [])) (h1 : sy[k]? = some (kd, n1, [])) (hkd : kd = 1 ∨ kd = 2) (hin : 0 ≤ sp ∧ 0 ≤ dp ∧ 0 ≤ n ∧ sp + n ≤ n0 ∧ dp + n ≤ n1)
    (hw : ∀ w ∈ [Cond.methodLink own idx arraycopyName, Cond.native arraycopyName, Cond.static arraycopyName, Cond.initialized "java/lang/System"], w ∈ bT) (hR : 1 ≤ j.1.frames ∧ 48 ≤ j.1.locals) (hcs : bcs st ≤ 8) (hd : decode cc pc = .ok (.invokestatic idx, 3))
    (kk : bZ sy own cc nL ret j (pc + 3) ls st (bcpy m i k sp.toNat dp.toNat n.toNat)) : bZ sy own cc nL ret j pc ls (aI n :: aI dp :: aR k :: aI sp :: aR i :: st) m := by
  intro p l e s mi args below meth c D aC ad H locs la C E hP hD hS hm hst hl
  obtain ⟨hx, hb, hml, hown, hts, hr, hlk, hK, hG⟩ := id C
  have hn32 : in32 n := bok_hd hst
  have hd32 : in32 dp := bok_hd (bok_tl hst)
  have hs32 : in32 sp := bok_hd (bok_tl (bok_tl (bok_tl hst)))
  have h032 : in32 0 := by unfold in32; omega
  have nn : ∀ {z : Int}, in32 z → 0 ≤ z → ¬ Int32.ofInt z < 0 := fun {z} hz h q => by
    have := (ofI_lt hz h032).mp q
    omega
  have hst5 : ∀ v ∈ st, bok v := bok_tl (bok_tl (bok_tl (bok_tl (bok_tl hst))))
  have hwf := bcpy_wf (sp := sp.toNat) (dp := dp.toNat) (n := n.toNat) h0 h1 hkd hm
  have hnw : nativeFrameWords "java/lang/System" "arraycopy" 5 + 11 ≤ 40 := by decide +kernel
  have fin : ∀ H1 locs1, va_P D bCL ((bW sy aC ad m).set k (ad k, bcell aC ad (kd, n1, []) (fun b => if dp.toNat ≤ b ∧ b < dp.toNat + n.toNat then m i (sp.toNat + (b - dp.toNat)) else m k b))) H1 → va_S (bA sy ad s.heap.size) s.heap H1 locs1 → W p l e j.1 s mi args below meth c H1 locs1 j.2.1.1 j.2.1.2 (j.2.2.2 below args s D aC ad) (F0 mi (pc + 3) la (st.map (bcv ad))) := fun H1 locs1 hP1 hS1 =>
    kk p l e s mi args below meth c D aC ad H1 locs1 la C E (by unfold bcpy; rw [← bW_set h1]; exact hP1) (bW_D _ hD) hS1 hwf hst5 hl
  have cpe : va_cpy (fun x => Int32.ofInt (m i x)) (fun x => Int32.ofInt (m k x)) (Int32.ofInt sp).toNatClampNeg (Int32.ofInt dp).toNatClampNeg (Int32.ofInt n).toNatClampNeg = fun x => Int32.ofInt (if dp.toNat ≤ x ∧ x < dp.toNat + n.toNat then m i (sp.toNat + (x - dp.toNat)) else m k x) := by
    funext x
    rw [toNatI hs32, toNatI hd32, toNatI hn32]
    unfold va_cpy
    split <;> rfl
  rcases hkd with rfl | rfl
  · refine va_copyi (ty := .int) hx hb (hml.trans hl.1.symm) hown (hts _ (hw _ (by simp))) (hts _ (hw _ (by simp))) (hts _ (hw _ (by simp))) (hts _ (hw _ (by simp))) hK hP hD hS i k 0 0 (bWi h0) (bWi h1) rfl rfl rfl (nn hs32 hin.1) (nn hd32 hin.2.1) (nn hn32 hin.2.2.1) (by rw [toNatI hs32, toNatI hn32]; omega) (by rw [toNatI hd32, toNatI hn32]; omega) (fun _ _ => rfl) hR.1 (by rw [bcs_cat]; omega) hd (fun H1 locs1 hP1 hD1 hS1 => ?_)
    rw [cpe] at hP1
    exact fin H1 locs1 hP1 hS1
  · refine va_copyi (ty := .boolean) hx hb (hml.trans hl.1.symm) hown (hts _ (hw _ (by simp))) (hts _ (hw _ (by simp))) (hts _ (hw _ (by simp))) (hts _ (hw _ (by simp))) hK hP hD hS i k 1 1 (bWz h0) (bWz h1) rfl rfl rfl (nn hs32 hin.1) (nn hd32 hin.2.1) (nn hn32 hin.2.2.1) (by rw [toNatI hs32, toNatI hn32]; omega) (by rw [toNatI hd32, toNatI hn32]; omega) (fun x _ => ?_) hR.1 (by rw [bcs_cat]; omega) hd (fun H1 locs1 hP1 hD1 hS1 => ?_)
    · have := bwf_z h0 hm ((Int32.ofInt sp).toNatClampNeg + x)
      show fits .boolean (.int (Int32.ofInt (m i _))) = true
      rcases (show m i ((Int32.ofInt sp).toNatClampNeg + x) = 0 ∨ m i ((Int32.ofInt sp).toNatClampNeg + x) = 1 by omega) with e | e <;> rw [e] <;> decide
    · rw [cpe] at hP1
      exact fin H1 locs1 hP1 hS1
/-! the two rows of ints that are static: 1000 ABOVE, 1001 BODIES; 1002 the text, 1003 its bytes -/
theorem z_getAbove {idx : Nat} (hw : Cond.fieldLink own idx RX3 "ABOVE" "[I" ∈ bT) (hd : decode cc pc = .ok (.getstatic idx, 3)) (kk : bZ sy own cc nL ret j (pc + 3) ls (aR 1000 :: st) m) : bZ sy own cc nL ret j pc ls st m := by
  intro p l e s mi args below meth c D aC ad H locs la C E hP hD hS hm hst hl
  obtain ⟨hx, hb, hml, hown, hts, hr, hlk, hK, hG⟩ := id C
  exact va_gets hx hb hG.2.1 hS hown (hts _ hw) (fun _ h => h) hd (kk p l e s mi args below meth c D aC ad H locs la C E hP hD hS hm (bok_cons (v := aR 1000) trivial hst) hl)
theorem z_getBodies {idx : Nat} (hw : Cond.fieldLink own idx RX3 "BODIES" "[I" ∈ bT) (hd : decode cc pc = .ok (.getstatic idx, 3)) (kk : bZ sy own cc nL ret j (pc + 3) ls (aR 1001 :: st) m) : bZ sy own cc nL ret j pc ls st m := by
  intro p l e s mi args below meth c D aC ad H locs la C E hP hD hS hm hst hl
  obtain ⟨hx, hb, hml, hown, hts, hr, hlk, hK, hG⟩ := id C
  exact va_gets hx hb hG.2.2.2.1 hS hown (hts _ hw) (fun _ h => h) hd (kk p l e s mi args below meth c D aC ad H locs la C E hP hD hS hm (bok_cons (v := aR 1001) trivial hst) hl)
theorem gA_in : ∀ j, in32 (gAbove.getD j 0) := by
  intro j
  have h : ∀ a ∈ gAbove, -2147483648 ≤ a ∧ a < 2147483648 := by decide
  rw [List.getD_eq_getElem?_getD]
  cases hj : gAbove[j]? with
  | none => show in32 0; unfold in32; omega
  | some a => exact h a (List.mem_of_getElem? hj)
theorem gB_in : ∀ j, in32 (gBodies.getD j 0) := by
  intro j
  have h : ∀ a ∈ gBodies, -2147483648 ≤ a ∧ a < 2147483648 := by decide
  rw [List.getD_eq_getElem?_getD]
  cases hj : gBodies[j]? with
  | none => show in32 0; unfold in32; omega
  | some a => exact h a (List.mem_of_getElem? hj)
theorem z_above {z : Int} (hin : 0 ≤ z ∧ z < 7) (hd : decode cc pc = .ok (.iaload, 1)) (kk : bZ sy own cc nL ret j (pc + 1) ls (aI (gAbove.getD z.toNat 0) :: st) m) : bZ sy own cc nL ret j pc ls (aI z :: aR 1000 :: st) m := by
  intro p l e s mi args below meth c D aC ad H locs la C E hP hD hS hm hst hl
  obtain ⟨hx, hb, hml, hown, hts, hr, hlk, hK, hG⟩ := id C
  have hz : in32 z := bok_hd hst
  exact va_ti hx hb hG.2.2.1 hS (inI (n := 7) hz (by omega)) (by rw [toNatI hz]; rfl) hd (kk p l e s mi args below meth c D aC ad H locs la C E hP hD hS hm (bok_cons (v := aI _) (gA_in _) (bok_tl (bok_tl hst))) hl)
theorem z_bodies {z : Int} (hin : 0 ≤ z ∧ z < 28) (hd : decode cc pc = .ok (.iaload, 1)) (kk : bZ sy own cc nL ret j (pc + 1) ls (aI (gBodies.getD z.toNat 0) :: st) m) : bZ sy own cc nL ret j pc ls (aI z :: aR 1001 :: st) m := by
  intro p l e s mi args below meth c D aC ad H locs la C E hP hD hS hm hst hl
  obtain ⟨hx, hb, hml, hown, hts, hr, hlk, hK, hG⟩ := id C
  have hz : in32 z := bok_hd hst
  exact va_ti hx hb hG.2.2.2.2.1 hS (inI (n := 28) hz (by omega)) (by rw [toNatI hz]; rfl) hd (kk p l e s mi args below meth c D aC ad H locs la C E hP hD hS hm (bok_cons (v := aI _) (gB_in _) (bok_tl (bok_tl hst))) hl)
theorem z_text (ho : own = RX7) (hd : decode cc pc = .ok (.ldc 110, 2)) (kk : bZ sy own cc nL ret j (pc + 2) ls (aR 1002 :: st) m) : bZ sy own cc nL ret j pc ls st m := by
  intro p l e s mi args below meth c D aC ad H locs la C E hP hD hS hm hst hl
  obtain ⟨hx, hb, hml, hown, hts, hr, hlk, hK, hG⟩ := id C
  subst ho
  exact va_ldcS hx hb hown hG.2.2.2.2.2.1 hd (kk p l e s mi args below meth c D aC ad H locs la C E hP hD hS hm (bok_cons (v := aR 1002) trivial hst) hl)
end Jdk
