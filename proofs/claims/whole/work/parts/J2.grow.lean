/-! ===== a system that grows: calls of constructors, their ends ===== -/
def gPc (D : va_G) (aC : Nat → ClassId) (ad : Nat → Nat) (base : Nat) (av : List bV) (sy : gS) (m : bM) : Array Value → State → Prop :=
  va_Pc (av.map (bcv ad)) (fun U => U.heap.size = base + sy.length ∧ va_P D bCL (gW sy aC ad m) U.heap ∧ va_K D bCL (btys aC) U ∧ ∀ q ∈ gNL, va_Nw (.methodLinkNest RX11 q.1 q.2 RX11) U)
def gQc (D : va_G) (aC : Nat → ClassId) (ad : Nat → Nat) (base : Nat) (sy : gS) (m : bM) : Array Value → State → Outcome → State → Prop := fun _ st oc t =>
  oc = .returned none ∧ va_P D bCL (gW sy aC ad m) t.heap ∧ va_F (fun q => base ≤ q) st t
def gCal (y : MethodName) (cc : ByteArray) (nL : Nat) (rm : Room) (av : List bV) (sy : gS) (m : bM) (sy2 : gS) (m2 : bM) (k : Nat × Nat) : Prop :=
  ∀ (l : Launch) (D : va_G) (aC : Nat → ClassId) (ad : Nat → Nat) (base : Nat), (∀ i, i < 204 → ad i = base + i) → Met l y (Cond.code y cc nL none :: bT) rm (gPc D aC ad base av sy m) (gQc D aC ad base sy2 m2) k.1 k.2 (fun q => base ≤ q)
abbrev gjm (rm : Room) (sy : gS) (m : bM) (k : Nat × Nat) : gJ := (rm, fun below args s D aC ad base => MQ below (gQc D aC ad base sy m) args s k.1 k.2 (fun q => base ≤ q))
theorem gPc_blind (D : va_G) (aC : Nat → ClassId) (ad : Nat → Nat) (base : Nat) (av : List bV) (sy : gS) (m : bM) : FrameBlind (gPc D aC ad base av sy m) := by
  intro a U g mk ⟨h0, h1, h2, h3, h4⟩
  exact ⟨h0, h1, h2, va_K.moved (u := U) (U := U.calling g mk a) (Vm.Alike.refl U.vm) h3, h4⟩
section Grow2
variable {own : String} {cc : ByteArray} {nL : Nat} {rt : Option FieldType × Bool} {j : gJ} {pc : Nat} {ls : bLs} {st : List bV} {sy : gS} {m : bM} {k : Nat × Nat}
theorem gz_ret {rm : Room} (hrt : rt.1 = none) (hd : decode cc pc = .ok (.return_, 1)) : gZ own cc nL rt (gjm rm sy m k) pc ls [] sy m k := by
  intro p l e s mi args below meth c D aC ad base H locs la C had hl P hz hb hS hm hst hv
  obtain ⟨hx, hbb, hml, hown, hts, hr, hlk, hK, hnm, hN⟩ := id C
  exact W.vret hx hbb (hr.trans hrt) (fun t ht hW => ⟨rfl, by rw [ht]; exact P, hS.F ht⟩) hS.2.2 hd hlk
theorem gCal_of {y : MethodName} {rm : Room} {av : List bV} {sy2 : gS} {m2 : bM} {b : Bool} (hy : plainName y.cls = true) (hbn : b = true → y.name = "<init>") (hlen : (bls av).length ≤ nL) (hl : sy.length ≤ 204) (hm : ∀ i n, sy.length ≤ i → m i n = 0) (hav : ∀ v ∈ av, bok v) (h : gZ y.cls cc nL (none, b) (gjm rm sy2 m2 k) 0 (bls av ++ List.replicate (nL - (bls av).length) none) [] sy m (0, 0)) : gCal y cc nL rm av sy m sy2 m2 k := by
  intro l D aC ad base had
  refine Met.ofW (cc := cc) (maxL := nL) (ret := none) hy rfl ?_
  intro p e s mi args below meth c s₁ B hml hv
  obtain ⟨rfl, hsz, hP, hK, hN⟩ := hv
  have hts := atoms_spec (ws := Cond.code y cc nL none :: bT) B.pre
  have hown : s.vm.findClass y.cls = some mi.cls := findClass_of_methodNamed B.named
  rw [lg_entry_eq]
  have hl2 := lv_entry (av.map (bcv ad)) (n := nL) (by rw [bls_len]; exact hlen)
  refine h p l e s mi _ below meth c D aC ad base s.heap [] _ ⟨B.exec, B.bytes, hml, hown, fun w hw => hts w (List.mem_cons_of_mem _ hw), B.returns, B.notSynchronized, hK, fun hb => ?_, hN⟩ had hl hP hsz (by rw [hsz]; omega) va_S.rf hm (fun v hv => by cases hv) ⟨hl2.1, hl2.2.1, fun i v hv => ?_⟩
  · rw [(name_of_methodNamed B.named B.method).1]
    exact hbn hb
  · have hi : (bls av)[i]? = some (some v) := by
      by_cases hlt : i < (bls av).length
      · rw [List.getElem?_append_left hlt] at hv; exact hv
      · rw [List.getElem?_append_right (by omega), List.getElem?_replicate] at hv
        split at hv <;> cases hv
    obtain ⟨h1, h2⟩ := bls_get ad av i v hi
    refine ⟨?_, hav v h2⟩
    have hlt : i < (lg_sl (av.map (bcv ad))).length := (List.getElem?_eq_some_iff.mp h1).1
    rw [List.getElem?_toArray, List.getElem?_append_left hlt]
    exact h1
theorem gz_ran {p : Program} {l : Launch} {e : Env} {s : State} {mi : MethodId} {args : Array Value} {below : List Frame} {meth : Method} {c : Code} {D : va_G} {aC : Nat → ClassId} {ad : Nat → Nat} {base : Nat} {H : Heap} {locs : List Loc} {la : Array Slot} {st0 : List Value} {a : Array Value} {sy2 : gS} {m2 : bM} {k2 : Nat × Nat}
    (hr : va_Run p l e j.1 s mi args below meth c H locs k.1 k.2 k2.1 k2.2 (F0 mi pc la st0) (st.map (bcv ad)) (gQc D aC ad base sy2 m2 a) (fun q => base ≤ q))
    (C : gC own cc nL rt p s mi args meth c D aC) (had : ∀ i, i < 204 → ad i = base + i) (hl : sy2.length ≤ 204) (hz : s.heap.size + (k.1 + k2.1) = base + sy2.length) (hb : base ≤ s.heap.size) (hS : va_S (fun q => base ≤ q) s.heap H locs) (hm : ∀ i n, sy2.length ≤ i → m2 i n = 0) (hst : ∀ v ∈ st, bok v) (hv : blv nL ad la ls)
    (kk : gZ own cc nL rt j (pc + 3) ls st sy2 m2 (k.1 + k2.1, k.2 + k2.2)) : W p l e j.1 s mi args below meth c H locs k.1 k.2 (j.2 below args s D aC ad base) (F0 mi pc la st0) := by
  intro T hT X
  obtain ⟨v, st₀, t, T', L, h0, X', hL, e1, e2, ⟨hvv, hP1, hzz, hk⟩, go⟩ := hr T hT X
  have hvv : v = none := by injection hvv
  subst hvv
  rw [h0] at hzz hk
  have hS1 : va_S (fun q => base ≤ q) s.heap T'.heap (locs ++ L) := by
    refine ⟨Nat.le_trans hS.1 (by rw [e1]; exact hzz), fun q h1 h2 => ?_, fun q hq => ?_⟩
    · rw [e1, hk q (Nat.lt_of_lt_of_le h1 hS.1) h2]
      exact hS.2.1 q h1 h2
    · rcases List.mem_append.mp hq with h | h
      · exact hS.2.2 q h
      · exact hL q h
  have k3 := kk p l e s mi args below meth c D aC ad base T'.heap (locs ++ L) la C had hl (by rw [e1]; exact hP1) hz hb hS1 hm hst hv
  obtain ⟨t2, a1, b1⟩ := k3 T' rfl X'
  exact ⟨t2, go t2 a1, b1⟩
end Grow2
