/-! ===== a system that grows: the calls ===== -/
section Grow3
variable {own : String} {cc : ByteArray} {nL : Nat} {rt : Option FieldType × Bool} {j : gJ} {pc : Nat} {ls : bLs} {st : List bV} {sy : gS} {m : bM} {k : Nat × Nat}
theorem gPre {s U : State} {H : Heap} {D : va_G} {aC : Nat → ClassId} {ad : Nat → Nat} {base : Nat} {av : List bV} (hK : va_K D bCL (btys aC) s) (hN : ∀ q ∈ gNL, va_Nw (.methodLinkNest RX11 q.1 q.2 RX11) s) (P : va_P D bCL (gW sy aC ad m) H) (hsz : H.size = base + sy.length) (hU : U.heap = H) (hW : s.WarmedH U.vm) : gPc D aC ad base av sy m (av.map (bcv ad)).toArray U := by
  subst hU
  exact ⟨rfl, hsz, P, va_K.moved hW.alike hK, fun q hq => (hN q hq).warmM hW⟩
/-- a constructor's call -/
theorem gz_callI {idx nL2 z : Nat} {y : MethodName} {cc2 : ByteArray} {rm : Room} {av : List bV} {sy2 : gS} {m2 : bM} {k2 : Nat × Nat} (hcal : gCal y cc2 nL2 rm (aR z :: av) sy m sy2 m2 k2) (hcode : Cond.code y cc2 nL2 none ∈ bT) (hini : Cond.initialized y.cls ∈ bT) (hlink : Cond.methodLink own idx y ∈ bT) (hinst : Cond.instanceMethod y ∈ bT)
    (hy : y.cls ≠ "java/lang/invoke/MethodHandle" ∧ y.cls ≠ "java/lang/invoke/VarHandle" ∧ (parseMethodDescriptor y.desc).map (fun d => d.parameters.length) = some av.length) (hn : y.name = "<init>") (hrm : rm.cells = k2.1 ∧ rm.slots = k2.2) (hR : rm.frames + 1 ≤ j.1.frames ∧ 8 + (nL2 + 11) + rm.locals ≤ j.1.locals) (hk : k.1 + k2.1 ≤ j.1.cells ∧ k.2 + k2.2 ≤ j.1.slots)
    (hlen : sy2.length = sy.length + k2.1) (hl2 : sy2.length ≤ 204) (hm2 : ∀ i n, sy2.length ≤ i → m2 i n = 0) (hcs : bcs st ≤ 8) (hd : decode cc pc = .ok (.invokespecial idx, 3)) (kk : gZ own cc nL rt j (pc + 3) ls st sy2 m2 (k.1 + k2.1, k.2 + k2.2)) : gZ own cc nL rt j pc ls (av.reverse ++ aR z :: st) sy m k := by
  intro p l e s mi args below meth c D aC ad base H locs la C had hl P hz hb hS hm hst hv
  obtain ⟨hx, hbb, hml, hown, hts, hr, hlk, hK, hnm, hN⟩ := id C
  have hst2 : ∀ v ∈ st, bok v := fun v hv => hst v (List.mem_append_right _ (List.mem_cons_of_mem _ hv))
  refine W_size (fun hsz => ?_)
  have hsz2 := gW_size had hl P (Nat.le_trans hb hS.1)
  have hH : H.size = base + sy.length := by omega
  have hM := hcal l D aC ad base had
  have hcw := callB_of (R := j.1) (own := own) (index := idx) av.length hts (bT_code hcode) rfl (rm := rm) (mc := k2.1) (ms := k2.2) hrm.1 hrm.2 (hts _ hini) (hts _ hlink) hy hR
  refine gz_ran (st := st) (va_runI (As := av.map (bcv ad)) (rest := st.map (bcv ad)) (b := ad z) ⟨hx, hbb, hml, hown, hts⟩ hM ⟨hcw, hn, hts _ hinst⟩ ⟨gPc_blind _ _ _ _ _ _ _, fun U hU hW => gPre (av := aR z :: av) hK hN P hH hU hW⟩ rfl (List.length_map _) hv.1 ?_ ?_ hd hk) C had hl2 (by omega) hb hS hm2 hst2 hv kk
  · show (av.reverse ++ aR z :: st).map (bcv ad) = _
    rw [List.map_append, List.map_reverse]; rfl
  · show 2 * 0 + _ ≤ 8
    rw [bcs_cat]; omega
/-- the same of a nest mate's own -/
theorem gz_callN {idx nL2 z : Nat} {y : MethodName} {cc2 : ByteArray} {rm : Room} {av : List bV} {sy2 : gS} {m2 : bM} {k2 : Nat × Nat} (hcal : gCal y cc2 nL2 rm (aR z :: av) sy m sy2 m2 k2) (hcode : Cond.code y cc2 nL2 none ∈ bT) (hini : Cond.initialized y.cls ∈ bT) (hown2 : own = RX11) (hlink : (idx, y) ∈ gNL) (hinst : Cond.instanceMethod y ∈ bT)
    (hy : y.cls ≠ "java/lang/invoke/MethodHandle" ∧ y.cls ≠ "java/lang/invoke/VarHandle" ∧ (parseMethodDescriptor y.desc).map (fun d => d.parameters.length) = some av.length) (hn : y.name = "<init>") (hrm : rm.cells = k2.1 ∧ rm.slots = k2.2) (hR : rm.frames + 1 ≤ j.1.frames ∧ 8 + (nL2 + 11) + rm.locals ≤ j.1.locals) (hk : k.1 + k2.1 ≤ j.1.cells ∧ k.2 + k2.2 ≤ j.1.slots)
    (hlen : sy2.length = sy.length + k2.1) (hl2 : sy2.length ≤ 204) (hm2 : ∀ i n, sy2.length ≤ i → m2 i n = 0) (hcs : bcs st ≤ 8) (hd : decode cc pc = .ok (.invokespecial idx, 3)) (kk : gZ own cc nL rt j (pc + 3) ls st sy2 m2 (k.1 + k2.1, k.2 + k2.2)) : gZ own cc nL rt j pc ls (av.reverse ++ aR z :: st) sy m k := by
  intro p l e s mi args below meth c D aC ad base H locs la C had hl P hz hb hS hm hst hv
  subst hown2
  obtain ⟨hx, hbb, hml, hown, hts, hr, hlk, hK, hnm, hN⟩ := id C
  have hst2 : ∀ v ∈ st, bok v := fun v hv => hst v (List.mem_append_right _ (List.mem_cons_of_mem _ hv))
  refine W_size (fun hsz => ?_)
  have hsz2 := gW_size had hl P (Nat.le_trans hb hS.1)
  have hH : H.size = base + sy.length := by omega
  have hM := hcal l D aC ad base had
  have hcw := va_cnB (R := j.1) (own := RX11) (host := RX11) (index := idx) (y := y) av.length hts (bT_code hcode) rfl (rm := rm) (mc := k2.1) (ms := k2.2) hrm.1 hrm.2 (hN _ hlink) (hts _ hini) hy hR
  refine gz_ran (st := st) (va_runIN (As := av.map (bcv ad)) (rest := st.map (bcv ad)) (b := ad z) ⟨hx, hbb, hml, hown, hts⟩ hM ⟨hcw, hn, hts _ hinst⟩ ⟨gPc_blind _ _ _ _ _ _ _, fun U hU hW => gPre (av := aR z :: av) hK hN P hH hU hW⟩ rfl (List.length_map _) hv.1 ?_ ?_ hd hk) C had hl2 (by omega) hb hS hm2 hst2 hv kk
  · show (av.reverse ++ aR z :: st).map (bcv ad) = _
    rw [List.map_append, List.map_reverse]; rfl
  · show 2 * 0 + _ ≤ 8
    rw [bcs_cat]; omega
/-- a static call that makes nothing -/
theorem gz_callS {idx nL2 : Nat} {y : MethodName} {cc2 : ByteArray} {rm : Room} {av : List bV} {sy2 : gS} {m2 : bM} {k2 : Nat × Nat} (hcal : gCal y cc2 nL2 rm av sy m sy2 m2 k2) (hcode : Cond.code y cc2 nL2 none ∈ bT) (hini : Cond.initialized y.cls ∈ bT) (hlink : Cond.methodLink own idx y ∈ bT) (hstt : Cond.static y ∈ bT)
    (hy : y.cls ≠ "java/lang/invoke/MethodHandle" ∧ y.cls ≠ "java/lang/invoke/VarHandle" ∧ (parseMethodDescriptor y.desc).map (fun d => d.parameters.length) = some av.length) (hrm : rm.cells = k2.1 ∧ rm.slots = k2.2) (hR : rm.frames + 1 ≤ j.1.frames ∧ 8 + (nL2 + 11) + rm.locals ≤ j.1.locals) (hk : k.1 + k2.1 ≤ j.1.cells ∧ k.2 + k2.2 ≤ j.1.slots)
    (hlen : sy2.length = sy.length + k2.1) (hl2 : sy2.length ≤ 204) (hm2 : ∀ i n, sy2.length ≤ i → m2 i n = 0) (hcs : bcs st ≤ 8) (hd : decode cc pc = .ok (.invokestatic idx, 3)) (kk : gZ own cc nL rt j (pc + 3) ls st sy2 m2 (k.1 + k2.1, k.2 + k2.2)) : gZ own cc nL rt j pc ls (av.reverse ++ st) sy m k := by
  intro p l e s mi args below meth c D aC ad base H locs la C had hl P hz hb hS hm hst hv
  obtain ⟨hx, hbb, hml, hown, hts, hr, hlk, hK, hnm, hN⟩ := id C
  have hst2 : ∀ v ∈ st, bok v := fun v hv => hst v (List.mem_append_right _ hv)
  refine W_size (fun hsz => ?_)
  have hsz2 := gW_size had hl P (Nat.le_trans hb hS.1)
  have hH : H.size = base + sy.length := by omega
  have hM := hcal l D aC ad base had
  have hcw := callB_of (R := j.1) (own := own) (index := idx) av.length hts (bT_code hcode) rfl (rm := rm) (mc := k2.1) (ms := k2.2) hrm.1 hrm.2 (hts _ hini) (hts _ hlink) hy hR
  refine gz_ran (st := st) (va_runS (As := av.map (bcv ad)) (rest := st.map (bcv ad)) ⟨hx, hbb, hml, hown, hts⟩ hM ⟨hcw, hts _ hstt⟩ ⟨gPc_blind _ _ _ _ _ _ _, fun U hU hW => gPre (av := av) hK hN P hH hU hW⟩ rfl (List.length_map _) hv.1 ?_ ?_ hd hk) C had hl2 (by omega) hb hS hm2 hst2 hv kk
  · show (av.reverse ++ st).map (bcv ad) = _
    rw [List.map_append, List.map_reverse]
  · show 2 * 0 + _ ≤ 8
    rw [bcs_cat]; omega
end Grow3
