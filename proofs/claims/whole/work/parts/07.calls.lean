/-! ===== calls ===== -/
def bcs (st : List bV) : Nat := (st.map (fun v => match v with
  | .inr (.inl _) => 2
  | _ => 1)).sum
theorem bcs_cat (ad : Nat → Nat) (st : List bV) : ((st.map (bcv ad)).map fun v => v.category).sum = bcs st := by
  unfold bcs
  rw [List.map_map]
  congr 1
  apply List.map_congr_left
  intro v _
  match v with
  | .inl z => rfl
  | .inr (.inl z) => rfl
  | .inr (.inr z) => rfl
def bpush (ret : Option FieldType) (z : Int) (st : List bV) : List bV := match ret with
  | none => st
  | some .long => aL z :: st
  | some _ => aI z :: st
theorem bpush_cv (ad : Nat → Nat) (ret : Option FieldType) (z : Int) (st : List bV) : (bpush ret z st).map (bcv ad) = (brv ret z).toList ++ st.map (bcv ad) := by
  match ret with
  | none => rfl
  | some .long => rfl
  | some .int => rfl
  | some .boolean => rfl
  | some .byte => rfl
  | some .char => rfl
  | some .short => rfl
  | some .float => rfl
  | some .double => rfl
  | some (.object _) => rfl
  | some (.array _) => rfl
theorem bpush_ok {ret : Option FieldType} {z : Int} {st : List bV} (h : brk ret z) (hs : ∀ v ∈ st, bok v) : ∀ v ∈ bpush ret z st, bok v := by
  match ret, h with
  | none, _ => exact hs
  | some .long, h => exact bok_cons (v := aL z) h hs
  | some .int, h => exact bok_cons (v := aI z) h hs
  | some .boolean, h => exact bok_cons (v := aI z) h hs
  | some .byte, h => exact bok_cons (v := aI z) h hs
  | some .char, h => exact bok_cons (v := aI z) h hs
  | some .short, h => exact bok_cons (v := aI z) h hs
  | some .float, h => exact bok_cons (v := aI z) h hs
  | some .double, h => exact bok_cons (v := aI z) h hs
  | some (.object _), h => exact bok_cons (v := aI z) h hs
  | some (.array _), h => exact bok_cons (v := aI z) h hs
def bFit (j : bJ) (nL d : Nat) : Prop := d + 2 ≤ j.1.frames ∧ 19 + nL + 48 * (d + 1) ≤ j.1.locals ∧ j.2.1.1 ≤ j.1.cells ∧ j.2.1.2 ≤ j.1.slots
theorem bGL.narrow {ad : Nat → Nat} {A B : Nat → Prop} {U : State} {H : Heap} (h : bGL ad A U H) (hAB : ∀ q, B q → A q) : bGL ad B U H := by
  obtain ⟨h0, h1, h2, h3, h4, h5, h6, h7, h8⟩ := h
  exact ⟨h0, h1.narrow hAB, h2.narrow hAB, h3.narrow hAB, h4.narrow hAB, h5, h6.narrow hAB, h7.narrow hAB, h8.narrow hAB⟩
theorem bA_sub {sy : bS} {ad : Nat → Nat} {a b : Nat} (h : a ≤ b) (q : Nat) (hq : bA sy ad b q) : bA sy ad a q := by
  rcases hq with hq | hq
  · exact Or.inl hq
  · exact Or.inr (Nat.le_trans h hq)
theorem bW_DA {sy : bS} {aC : Nat → ClassId} {ad : Nat → Nat} {m : bM} {A : Nat → Prop} (sz : Nat) (h : va_D A (bW sy aC ad m)) : va_D (bA sy ad sz) (bW sy aC ad m) := by
  refine ⟨h.1, fun k q hk => ?_⟩
  obtain ⟨h1, h2⟩ := bW_some hk
  exact Or.inl ⟨k, h1, h2⟩
section Calls
variable {sy : bS} {own : String} {cc : ByteArray} {nL : Nat} {ret : Option FieldType} {j : bJ} {pc : Nat} {ls : List (Option bV)} {st : List bV} {m : bM}
theorem z_ran {p : Program} {l : Launch} {e : Env} {s : State} {mi : MethodId} {args : Array Value} {below : List Frame} {meth : Method} {c : Code} {D : va_G} {aC : Nat → ClassId} {ad : Nat → Nat} {H : Heap} {locs : List Loc} {la : Array Slot} {st0 : List Value} {a : Array Value} {ret' : Option FieldType} {r : bM × Int}
    (hr : va_Run p l e j.1 s mi args below meth c H locs j.2.1.1 j.2.1.2 0 0 (F0 mi pc la st0) (st.map (bcv ad)) (bQc sy ret' D aC ad (bA sy ad H.size) r a) (bA sy ad H.size))
    (C : bC sy own cc nL ret p s mi args meth c D aC ad) (E : j.2.2.1 args s ad) (hD : va_D (bA sy ad s.heap.size) (bW sy aC ad m)) (hS : va_S (bA sy ad s.heap.size) s.heap H locs) (hst : ∀ v ∈ st, bok v) (hl : blv nL ad la ls)
    (kk : bZ sy own cc nL ret j (pc + 3) ls (bpush ret' r.2 st) r.1) : W p l e j.1 s mi args below meth c H locs j.2.1.1 j.2.1.2 (j.2.2.2 below args s D aC ad) (F0 mi pc la st0) := by
  intro T hT X
  obtain ⟨v, st₀, t, T', L, h0, X', hL, e1, e2, ⟨hv, hP1, hm1, hb1, hz, hk⟩, go⟩ := hr T hT X
  have hv : v = brv ret' r.2 := by injection hv
  subst hv
  rw [h0] at hz hk
  have hsub : ∀ q, bA sy ad H.size q → bA sy ad s.heap.size q := bA_sub hS.1
  have hS1 : va_S (bA sy ad s.heap.size) s.heap T'.heap (locs ++ L) := by
    refine ⟨Nat.le_trans hS.1 (by rw [e1]; exact hz), fun q h1 h2 => ?_, fun q hq => ?_⟩
    · rw [e1, hk q (Nat.lt_of_lt_of_le h1 hS.1) (fun z => h2 (hsub q z))]
      exact hS.2.1 q h1 h2
    · rcases List.mem_append.mp hq with h | h
      · exact hS.2.2 q h
      · exact hsub _ (hL q h)
  have k2 := kk p l e s mi args below meth c D aC ad T'.heap (locs ++ L) la C E (by rw [e1]; exact hP1) (bW_D _ hD) hS1 hm1 (bpush_ok hb1 hst) hl
  rw [bpush_cv] at k2
  obtain ⟨t2, a1, b1⟩ := k2 T' rfl X'
  exact ⟨t2, go t2 a1, b1⟩
theorem bPre {s U : State} {H : Heap} {locs : List Loc} {D : va_G} {aC : Nat → ClassId} {ad : Nat → Nat} {av : List bV} (hK : va_K D bCL (btys aC) s) (hG : bGL ad (bA sy ad s.heap.size) s s.heap) (hP : va_P D bCL (bW sy aC ad m) H) (hD : va_D (bA sy ad s.heap.size) (bW sy aC ad m)) (hS : va_S (bA sy ad s.heap.size) s.heap H locs) (hU : U.heap = H) (hW : s.WarmedH U.vm) : bPc sy D aC ad H.size av m (av.map (bcv ad)).toArray U := by
  subst hU
  refine ⟨rfl, rfl, hP, va_K.moved hW.alike hK, bW_DA _ hD, ?_⟩
  exact (hG.warm hW hS.2.1).narrow (bA_sub hS.1)
theorem z_callV {i ci idx nL' d : Nat} {q : vw_C} {ty : Nat → FieldType} {fl : List Nat} {y : MethodName} {cc' : ByteArray} {ret' : Option FieldType} {av : List bV} {r : bM × Int} (hcal : bCal sy y cc' nL' ret' d (aR i :: av) m r) (hfit : bFit j nL' d) (hci : bCI ci q ty) (hsy : sy[i]? = some (0, ci, fl))
    (hw : ∀ w ∈ wsV own idx q.1 y (Cond.code y cc' nL' ret' :: bT), w ∈ bT) (hy : y.cls = q.1 ∧ y.cls ≠ "java/lang/invoke/MethodHandle" ∧ y.cls ≠ "java/lang/invoke/VarHandle" ∧ (parseMethodDescriptor y.desc).map (fun d => d.parameters.length) = some av.length)
    (hcs : bcs st ≤ 8) (hd : decode cc pc = .ok (.invokevirtual idx, 3)) (kk : bZ sy own cc nL ret j (pc + 3) ls (bpush ret' r.2 st) r.1) : bZ sy own cc nL ret j pc ls (av.reverse ++ aR i :: st) m := by
  intro p l e s mi args below meth c D aC ad H locs la C E hP hD hS hm hst hl
  obtain ⟨hx, hb, hml, hown, hts, hr, hlk, hK, hG⟩ := id C
  have hav : ∀ v ∈ aR i :: av, bok v := fun v hv => by
    rcases List.mem_cons.mp hv with e | e
    · rw [e]; trivial
    · exact hst v (List.mem_append_left _ (List.mem_reverse.mpr e))
  have hst2 : ∀ v ∈ st, bok v := fun v hv => hst v (List.mem_append_right _ (List.mem_cons_of_mem _ hv))
  have hM := hcal hm hav l D aC ad H.size
  have hgood : GoodIn bT (wsV own idx q.1 y (Cond.code y cc' nL' ret' :: bT)) := fun w h => ⟨hw w h, bT_good (hw w h)⟩
  obtain ⟨f1, f2, f3, f4⟩ := hfit
  refine z_ran (st := st) (va_runV (As := av.map (bcv ad)) (rest := st.map (bcv ad)) (b := ad i) ⟨hx, hb, hml, hown, hts⟩ hM (cwV av.length hts hgood rfl rfl rfl hy ⟨by show d + 1 + 1 ≤ _; omega, by show 8 + (nL' + 11) + 48 * (d + 1) ≤ _; omega⟩) ⟨bPc_blind _ _ _ _ _ _ _, va_recv hK hP hci.1 (bW_get hsy), fun U hU hW => bPre (av := aR i :: av) hK hG hP hD hS hU hW⟩ rfl (List.length_map _) hl.1 ?_ ?_ hd ⟨f3, f4⟩) C E hD hS hst2 hl kk
  · show (av.reverse ++ aR i :: st).map (bcv ad) = _
    rw [List.map_append, List.map_reverse]; rfl
  · show 2 * 0 + _ ≤ 8
    rw [bcs_cat]; omega
theorem z_callS {idx nL' d : Nat} {y : MethodName} {cc' : ByteArray} {ret' : Option FieldType} {av : List bV} {r : bM × Int} (hcal : bCal sy y cc' nL' ret' d av m r) (hfit : bFit j nL' d)
    (hw : ∀ w ∈ wsS own idx y (Cond.code y cc' nL' ret' :: bT), w ∈ bT) (hini : Cond.initialized y.cls ∈ bT) (hy : y.cls ≠ "java/lang/invoke/MethodHandle" ∧ y.cls ≠ "java/lang/invoke/VarHandle" ∧ (parseMethodDescriptor y.desc).map (fun d => d.parameters.length) = some av.length)
    (hcs : bcs st ≤ 8) (hd : decode cc pc = .ok (.invokestatic idx, 3)) (kk : bZ sy own cc nL ret j (pc + 3) ls (bpush ret' r.2 st) r.1) : bZ sy own cc nL ret j pc ls (av.reverse ++ st) m := by
  intro p l e s mi args below meth c D aC ad H locs la C E hP hD hS hm hst hl
  obtain ⟨hx, hb, hml, hown, hts, hr, hlk, hK, hG⟩ := id C
  have hav : ∀ v ∈ av, bok v := fun v hv => hst v (List.mem_append_left _ (List.mem_reverse.mpr hv))
  have hst2 : ∀ v ∈ st, bok v := fun v hv => hst v (List.mem_append_right _ hv)
  have hM := hcal hm hav l D aC ad H.size
  have hgood : GoodIn bT (Cond.code y cc' nL' ret' :: bT) := fun w h => ⟨hw w (List.mem_append_right _ h), bT_good (hw w (List.mem_append_right _ h))⟩
  obtain ⟨f1, f2, f3, f4⟩ := hfit
  have hcw := callB_of (R := j.1) (own := own) (index := idx) av.length hts hgood rfl (rm := brm d) (mc := 0) (ms := 0) rfl rfl (hts _ hini) (hts _ (hw (.methodLink own idx y) (by simp [wsS]))) hy ⟨by show d + 1 + 1 ≤ _; omega, by show 8 + (nL' + 11) + 48 * (d + 1) ≤ _; omega⟩
  refine z_ran (st := st) (va_runS (As := av.map (bcv ad)) (rest := st.map (bcv ad)) ⟨hx, hb, hml, hown, hts⟩ hM ⟨hcw, hts _ (hw (.static y) (by simp [wsS]))⟩ ⟨bPc_blind _ _ _ _ _ _ _, fun U hU hW => bPre (av := av) hK hG hP hD hS hU hW⟩ rfl (List.length_map _) hl.1 ?_ ?_ hd ⟨f3, f4⟩) C E hD hS hst2 hl kk
  · show (av.reverse ++ st).map (bcv ad) = _
    rw [List.map_append, List.map_reverse]
  · show 2 * 0 + _ ≤ 8
    rw [bcs_cat]; omega
theorem z_callN {idx nL' d : Nat} {cc' : ByteArray} {ret' : Option FieldType} {av : List bV} {r : bM × Int} (hcal : bCal sy yX11_within cc' nL' ret' d av m r) (hfit : bFit j nL' d)
    (hn : (own, idx) ∈ bNL) (hw : Cond.code yX11_within cc' nL' ret' ∈ bT) (hstt : Cond.static yX11_within ∈ bT) (hini : Cond.initialized RX11 ∈ bT) (hlen : av.length = 3)
    (hcs : bcs st ≤ 8) (hd : decode cc pc = .ok (.invokestatic idx, 3)) (kk : bZ sy own cc nL ret j (pc + 3) ls (bpush ret' r.2 st) r.1) : bZ sy own cc nL ret j pc ls (av.reverse ++ st) m := by
  intro p l e s mi args below meth c D aC ad H locs la C E hP hD hS hm hst hl
  obtain ⟨hx, hb, hml, hown, hts, hr, hlk, hK, hG⟩ := id C
  have hav : ∀ v ∈ av, bok v := fun v hv => hst v (List.mem_append_left _ (List.mem_reverse.mpr hv))
  have hst2 : ∀ v ∈ st, bok v := fun v hv => hst v (List.mem_append_right _ hv)
  have hM := hcal hm hav l D aC ad H.size
  obtain ⟨f1, f2, f3, f4⟩ := hfit
  have hcw := va_cnB (R := j.1) (own := own) (host := RX11) (index := idx) (y := yX11_within) 3 hts (bT_code hw) rfl (rm := brm d) (mc := 0) (ms := 0) rfl rfl (hG.1 _ hn) (hts _ hini) ⟨by decide, by decide, by decide +kernel⟩ ⟨by show d + 1 + 1 ≤ _; omega, by show 8 + (nL' + 11) + 48 * (d + 1) ≤ _; omega⟩
  refine z_ran (st := st) (va_runSN (As := av.map (bcv ad)) (rest := st.map (bcv ad)) ⟨hx, hb, hml, hown, hts⟩ hM ⟨hcw, hts _ hstt, trivial⟩ ⟨bPc_blind _ _ _ _ _ _ _, fun U hU hW => bPre (av := av) hK hG hP hD hS hU hW⟩ rfl ((List.length_map _).trans hlen) hl.1 ?_ ?_ hd ⟨f3, f4⟩) C E hD hS hst2 hl kk
  · show (av.reverse ++ st).map (bcv ad) = _
    rw [List.map_append, List.map_reverse]
  · show 2 * 0 + _ ≤ 8
    rw [bcs_cat]; omega
/-! a method out of its walk -/
theorem bls_len (ad : Nat → Nat) : ∀ (av : List bV), (lg_sl (av.map (bcv ad))).length = (bls av).length
  | [] => rfl
  | .inl z :: r => congrArg (· + 1) (bls_len ad r)
  | .inr (.inl z) :: r => congrArg (· + 2) (bls_len ad r)
  | .inr (.inr z) :: r => congrArg (· + 1) (bls_len ad r)
theorem bls_get (ad : Nat → Nat) : ∀ (av : List bV) (i : Nat) (v : bV), (bls av)[i]? = some (some v) → (lg_sl (av.map (bcv ad)))[i]? = some (.val (bcv ad v)) ∧ v ∈ av
  | [], i, v, h => by cases h
  | .inl z :: r, 0, v, h => by cases h; exact ⟨rfl, List.mem_cons_self⟩
  | .inl z :: r, i + 1, v, h => by
    have h2 := bls_get ad r i v h
    exact ⟨h2.1, List.mem_cons_of_mem _ h2.2⟩
  | .inr (.inr z) :: r, 0, v, h => by cases h; exact ⟨rfl, List.mem_cons_self⟩
  | .inr (.inr z) :: r, i + 1, v, h => by
    have h2 := bls_get ad r i v h
    exact ⟨h2.1, List.mem_cons_of_mem _ h2.2⟩
  | .inr (.inl z) :: r, 0, v, h => by cases h; exact ⟨rfl, List.mem_cons_self⟩
  | .inr (.inl z) :: r, 1, v, h => by cases h
  | .inr (.inl z) :: r, i + 2, v, h => by
    have h2 := bls_get ad r i v h
    exact ⟨h2.1, List.mem_cons_of_mem _ h2.2⟩
theorem bCal_of {y : MethodName} {d : Nat} {av : List bV} {r : bM × Int} (hy : plainName y.cls = true) (hlen : (bls av).length ≤ nL) (h : bZ sy y.cls cc nL ret (jm sy ret d r) 0 (bls av ++ List.replicate (nL - (bls av).length) none) [] m) : bCal sy y cc nL ret d av m r := by
  intro hm hav l D aC ad sz
  refine Met.ofW (cc := cc) (maxL := nL) (ret := ret) hy rfl ?_
  intro p e s mi args below meth c s₁ B hml hv
  obtain ⟨rfl, hsz, hP, hK, hD, hG⟩ := hv
  subst hsz
  have hts := atoms_spec (ws := Cond.code y cc nL ret :: bT) B.pre
  have hown : s.vm.findClass y.cls = some mi.cls := findClass_of_methodNamed B.named
  rw [lg_entry_eq]
  have hl := lv_entry (av.map (bcv ad)) (n := nL) (by rw [bls_len]; exact hlen)
  refine h p l e s mi _ below meth c D aC ad s.heap [] _ ⟨B.exec, B.bytes, hml, hown, fun w hw => hts w (List.mem_cons_of_mem _ hw), B.returns, B.notSynchronized, hK, hG⟩ trivial hP hD va_S.rf hm (fun v hv => by cases hv) ⟨hl.1, hl.2.1, fun i v hv => ?_⟩
  have hi : (bls av)[i]? = some (some v) := by
    by_cases hlt : i < (bls av).length
    · rw [List.getElem?_append_left hlt] at hv; exact hv
    · rw [List.getElem?_append_right (by omega), List.getElem?_replicate] at hv
      split at hv <;> cases hv
  obtain ⟨h1, h2⟩ := bls_get ad av i v hi
  refine ⟨?_, hav v h2⟩
  have hlt : i < (lg_sl (av.map (bcv ad))).length := (List.getElem?_eq_some_iff.mp h1).1
  rw [List.getElem?_toArray, List.getElem?_append_left hlt]
  exact h1
end Calls
