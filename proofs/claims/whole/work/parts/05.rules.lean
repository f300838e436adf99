/-! ===== the judgement: a method of a system, at a place, comes to its end with r ===== -/
def gAbove : List Int := [-1, 0, 0, 0, 3, 0, 5]
def gBodies : List Int := [10, 11, 12, 13, 20, 0, 0, 0, 0, 0, 30, 0, 0, 40, 0, 41, 50, 51, 0, 0, 0, 0, 60, 61, 71, 0, 70, 0]
def gWords : String := "pay rank bar late proof if or and not fell found worth sort trade kin proofs reach "
def gBytes : List Int32 := [112, 97, 121, 32, 114, 97, 110, 107, 32, 98, 97, 114, 32, 108, 97, 116, 101, 32, 112, 114, 111, 111, 102, 32, 105, 102, 32, 111, 114, 32, 97, 110, 100, 32, 110, 111, 116, 32, 102, 101, 108, 108, 32, 102, 111, 117, 110, 100, 32, 119, 111, 114, 116, 104, 32, 115, 111, 114, 116, 32, 116, 114, 97, 100, 101, 32, 107, 105, 110, 32, 112, 114, 111, 111, 102, 115, 32, 114, 101, 97, 99, 104, 32]
/-- what lies outside the systems' cells: two rows of ints, a text, two statics of the JDK's -/
def bNL : List (String × Nat) := [(RX3, 55), (RX8, 51), (RX6, 115), (RX7, 86), (RX9, 119)]
def bGL (ad : Nat → Nat) (A : Nat → Prop) (U : State) (H : Heap) : Prop :=
  (∀ q ∈ bNL, va_Nw (.methodLinkNest q.1 q.2 yX11_within RX11) U) ∧
  va_Z RX3 "ABOVE" "[I" (.ref (ad 1000)) A U H ∧ va_T .int (ad 1000) 7 (fun j => .int (Int32.ofInt (gAbove.getD j 0))) A U H ∧
  va_Z RX3 "BODIES" "[I" (.ref (ad 1001)) A U H ∧ va_T .int (ad 1001) 28 (fun j => .int (Int32.ofInt (gBodies.getD j 0))) A U H ∧
  vk_R RX7 110 gWords (ad 1002) U ∧ vk_S 1 [83] [gBytes] (fun _ => ad 1002) (fun _ => ad 1003) A U H ∧
  va_Z "java/lang/String" "COMPACT_STRINGS" "Z" (.int 1) A U H ∧ va_Zq "jdk/internal/util/Preconditions" "SIOOBE_FORMATTER" "Ljava/util/function/BiFunction;" A U H
theorem bGL.warm {ad : Nat → Nat} {A : Nat → Prop} {s U : State} {H H1 : Heap} (hW : s.WarmedH U.vm) (hq : ∀ a : Nat, a < H.size → ¬ A a → H1[a]? = H[a]?) (h : bGL ad A s H) : bGL ad A U H1 := by
  obtain ⟨h0, h1, h2, h3, h4, h5, h6, h7, h8⟩ := h
  exact ⟨fun q hq => (h0 q hq).warmM hW, (h1.moved hW.alike).kept hq, (h2.moved hW.alike).kept hq, (h3.moved hW.alike).kept hq, (h4.moved hW.alike).kept hq, h5.warm hW, (h6.moved hW.alike).kept hq, (h7.moved hW.alike).kept hq, (h8.moved hW.alike).kept hq⟩
theorem bGL.blind {ad : Nat → Nat} {A : Nat → Prop} {U : State} {H : Heap} (g : JFrame) (mk : MethodId) (a : Array Value) (h : bGL ad A U H) : bGL ad A (U.calling g mk a) H := by
  obtain ⟨h0, h1, h2, h3, h4, h5, h6, h7, h8⟩ := h
  exact ⟨h0, h1.moved (u := U) (Vm.Alike.refl U.vm), h2.moved (u := U) (Vm.Alike.refl U.vm), h3.moved (u := U) (Vm.Alike.refl U.vm), h4.moved (u := U) (Vm.Alike.refl U.vm), h5.same rfl, h6.moved (u := U) (Vm.Alike.refl U.vm), h7.moved (u := U) (Vm.Alike.refl U.vm), h8.moved (u := U) (Vm.Alike.refl U.vm)⟩
def bC (sy : bS) (own : String) (cc : ByteArray) (nL : Nat) (ret : Option FieldType) (p : Program) (s : State) (mi : MethodId) (args : Array Value) (meth : Method) (c : Code) (D : va_G) (aC : Nat → ClassId) (ad : Nat → Nat) : Prop :=
  p.tables.exec = Jvm.exec ∧ c.code = cc ∧ c.maxLocals = nL ∧ s.vm.findClass own = some mi.cls ∧ (∀ w ∈ bT, w.before args s = true) ∧ meth.sig.returnType = ret ∧ meth.locks = false ∧ va_K D bCL (btys aC) s ∧ bGL ad (bA sy ad s.heap.size) s s.heap
def brv (ret : Option FieldType) (z : Int) : Option Value := match ret with
  | none => none
  | some .long => some (.long (Int64.ofInt z))
  | some _ => some (.int (Int32.ofInt z))
def brk (ret : Option FieldType) (z : Int) : Prop := match ret with
  | none => True
  | some .long => in64 z
  | some _ => in32 z
def bQc (sy : bS) (ret : Option FieldType) (D : va_G) (aC : Nat → ClassId) (ad : Nat → Nat) (A : Nat → Prop) (r : bM × Int) : Array Value → State → Outcome → State → Prop := fun _ st oc t =>
  oc = .returned (brv ret r.2) ∧ va_P D bCL (bW sy aC ad r.1) t.heap ∧ bwf sy r.1 ∧ brk ret r.2 ∧ va_F A st t
def blv (nL : Nat) (ad : Nat → Nat) (la : Array Slot) (ls : List (Option bV)) : Prop := la.size = nL ∧ lv_wf la ∧ ∀ (i : Nat) (v : bV), ls[i]? = some (some v) → la[i]? = some (.val (bcv ad v)) ∧ bok v
/-- what a walk is about beside the system: its room, (cells, slots), what else is known, its end -/
abbrev bEx : Type := Array Value → State → (Nat → Nat) → Prop
abbrev bQt : Type := List Frame → Array Value → State → va_G → (Nat → ClassId) → (Nat → Nat) → State → Prop
abbrev bJ : Type := Room × (Nat × Nat) × bEx × bQt
def bZ (sy : bS) (own : String) (cc : ByteArray) (nL : Nat) (ret : Option FieldType) (j : bJ) (pc : Nat) (ls : List (Option bV)) (st : List bV) (m : bM) : Prop :=
  ∀ (p : Program) (l : Launch) (e : Env) (s : State) (mi : MethodId) (args : Array Value) (below : List Frame) (meth : Method) (c : Code) (D : va_G) (aC : Nat → ClassId) (ad : Nat → Nat) (H : Heap) (locs : List Loc) (la : Array Slot),
    bC sy own cc nL ret p s mi args meth c D aC ad → j.2.2.1 args s ad → va_P D bCL (bW sy aC ad m) H → va_D (bA sy ad s.heap.size) (bW sy aC ad m) → va_S (bA sy ad s.heap.size) s.heap H locs → bwf sy m → (∀ v ∈ st, bok v) → blv nL ad la ls →
    W p l e j.1 s mi args below meth c H locs j.2.1.1 j.2.1.2 (j.2.2.2 below args s D aC ad) (F0 mi pc la (st.map (bcv ad)))
/-- a method's walk that ends with r -/
def jm (sy : bS) (ret : Option FieldType) (d : Nat) (r : bM × Int) : bJ := (brm d, (0, 0), fun _ _ _ => True, fun below args s D aC ad => MQ below (bQc sy ret D aC ad (bA sy ad s.heap.size) r) args s 0 0 (bA sy ad s.heap.size))
def bPc (sy : bS) (D : va_G) (aC : Nat → ClassId) (ad : Nat → Nat) (sz : Nat) (av : List bV) (m : bM) : Array Value → State → Prop :=
  va_Pc (av.map (bcv ad)) (fun U => U.heap.size = sz ∧ va_P D bCL (bW sy aC ad m) U.heap ∧ va_K D bCL (btys aC) U ∧ va_D (bA sy ad sz) (bW sy aC ad m) ∧ bGL ad (bA sy ad sz) U U.heap)
/-- a call of y, at the memory m, ends with r: its memory and its answer -/
def bCal (sy : bS) (y : MethodName) (cc : ByteArray) (nL : Nat) (ret : Option FieldType) (d : Nat) (av : List bV) (m : bM) (r : bM × Int) : Prop :=
  bwf sy m → (∀ v ∈ av, bok v) → ∀ (l : Launch) (D : va_G) (aC : Nat → ClassId) (ad : Nat → Nat) (sz : Nat), Met l y (Cond.code y cc nL ret :: bT) (brm d) (bPc sy D aC ad sz av m) (bQc sy ret D aC ad (bA sy ad sz) r) 0 0 (bA sy ad sz)
theorem bPc_blind (sy : bS) (D : va_G) (aC : Nat → ClassId) (ad : Nat → Nat) (sz : Nat) (av : List bV) (m : bM) : FrameBlind (bPc sy D aC ad sz av m) := by
  intro a U g mk ⟨h0, h1, h2, h3, h4, h5⟩
  exact ⟨h0, h1, h2, va_K.moved (u := U) (U := U.calling g mk a) (Vm.Alike.refl U.vm) h3, h4, h5.blind g mk a⟩
def bls : List bV → List (Option bV)
  | [] => []
  | (.inr (.inl z)) :: r => some (.inr (.inl z)) :: none :: bls r
  | v :: r => some v :: bls r
theorem bok_cons {v : bV} {st : List bV} (h : bok v) (hs : ∀ w ∈ st, bok w) : ∀ w ∈ v :: st, bok w := fun w hw => (List.mem_cons.mp hw).elim (fun e => e ▸ h) (hs w)
theorem bok_hd {v : bV} {st : List bV} (h : ∀ w ∈ v :: st, bok w) : bok v := h v List.mem_cons_self
theorem bok_tl {v : bV} {st : List bV} (h : ∀ w ∈ v :: st, bok w) : ∀ w ∈ st, bok w := fun w hw => h w (List.mem_cons_of_mem _ hw)
def bll (ad : Nat → Nat) (ls : List (Option bV)) : List (Nat × Value) := (List.range ls.length).filterMap (fun i => match ls[i]? with
  | some (some v) => some (i, bcv ad v)
  | _ => none)
theorem bll_mem {ad : Nat → Nat} {ls : List (Option bV)} {i : Nat} {v : bV} (h : ls[i]? = some (some v)) : (i, bcv ad v) ∈ bll ad ls := by
  refine List.mem_filterMap.mpr ⟨i, List.mem_range.mpr (List.getElem?_eq_some_iff.mp h).1, ?_⟩
  rw [h]
theorem bll_has {nL : Nat} {ad : Nat → Nat} {la : Array Slot} {ls : List (Option bV)} (h : blv nL ad la ls) : lv_has la nL (bll ad ls) := by
  refine ⟨h.1, h.2.1, fun q hq => ?_⟩
  obtain ⟨i, -, hi⟩ := List.mem_filterMap.mp hq
  split at hi
  · rename_i v hv
    cases hi
    exact (h.2.2 i v hv).1
  · cases hi
def bnl (ls : List (Option bV)) (i : Nat) : Bool := match i with
  | 0 => true
  | j + 1 => match ls[j]? with
    | some (some (.inr (.inl _))) => false
    | _ => true
theorem bcat {ad : Nat → Nat} {v : bV} (h : (bcv ad v).category = 2) : ∃ z, v = .inr (.inl z) := by
  match v, h with
  | .inr (.inl z), _ => exact ⟨z, rfl⟩
theorem blv_st {nL i : Nat} {ad : Nat → Nat} {la la' : Array Slot} {ls : List (Option bV)} {v : bV} (h : blv nL ad la ls) (hv : bok v) (hn : bnl ls i = true) (h' : lv_has la' nL ((i, bcv ad v) :: (bll ad ls).filter (fun q => !(q.1 == i) && !(q.1 + 1 == i && q.2.category == 2)))) : blv nL ad la' (ls.set i (some v)) := by
  refine ⟨h'.1, h'.2.1, fun j w hw => ?_⟩
  by_cases hij : i = j
  · subst hij
    have hlt : i < ls.length := by
      have := (List.getElem?_eq_some_iff.mp hw).1
      rwa [List.length_set] at this
    rw [List.getElem?_set_self hlt] at hw
    cases hw
    exact ⟨h'.2.2 (i, bcv ad v) List.mem_cons_self, hv⟩
  · rw [List.getElem?_set_ne hij] at hw
    refine ⟨h'.2.2 (j, bcv ad w) (List.mem_cons_of_mem _ (List.mem_filter.mpr ⟨bll_mem hw, ?_⟩)), (h.2.2 j w hw).2⟩
    simp only [Bool.and_eq_true, Bool.not_eq_true', beq_eq_false_iff_ne, ne_eq, Bool.and_eq_false_iff]
    refine ⟨fun e => hij e.symm, ?_⟩
    by_cases hj : j + 1 = i
    · right
      intro hc
      obtain ⟨z, rfl⟩ := bcat hc
      subst hj
      simp [bnl, hw] at hn
    · exact Or.inl hj
theorem blv_stl {nL i : Nat} {ad : Nat → Nat} {la la' : Array Slot} {ls : List (Option bV)} {z : Int} (h : blv nL ad la ls) (hv : in64 z) (hn : bnl ls i = true) (h' : lv_has la' nL ((i, bcv ad (aL z)) :: (bll ad ls).filter (fun q => !(q.1 == i) && (!(q.1 == i + 1) && !(q.1 + 1 == i && q.2.category == 2))))) : blv nL ad la' ((ls.set i (some (aL z))).set (i + 1) none) := by
  refine ⟨h'.1, h'.2.1, fun j w hw => ?_⟩
  by_cases h1 : i + 1 = j
  · subst h1
    by_cases hlt : i + 1 < (ls.set i (some (aL z))).length
    · rw [List.getElem?_set_self hlt] at hw
      cases hw
    · rw [List.getElem?_eq_none (by rw [List.length_set]; omega)] at hw
      cases hw
  · rw [List.getElem?_set_ne h1] at hw
    by_cases hij : i = j
    · subst hij
      have hlt : i < ls.length := by
        have := (List.getElem?_eq_some_iff.mp hw).1
        rwa [List.length_set] at this
      rw [List.getElem?_set_self hlt] at hw
      cases hw
      exact ⟨h'.2.2 (i, bcv ad (aL z)) List.mem_cons_self, hv⟩
    · rw [List.getElem?_set_ne hij] at hw
      refine ⟨h'.2.2 (j, bcv ad w) (List.mem_cons_of_mem _ (List.mem_filter.mpr ⟨bll_mem hw, ?_⟩)), (h.2.2 j w hw).2⟩
      simp only [Bool.and_eq_true, Bool.not_eq_true', beq_eq_false_iff_ne, ne_eq, Bool.and_eq_false_iff]
      refine ⟨fun e => hij e.symm, fun e => h1 e.symm, ?_⟩
      by_cases hj : j + 1 = i
      · right
        intro hc
        obtain ⟨z, rfl⟩ := bcat hc
        subst hj
        simp [bnl, hw] at hn
      · exact Or.inl hj
theorem bwf_up {sy : bS} {m : bM} {i : Nat} {f : Nat → Int} (h : bwf sy m) (hf : ∀ k, match sy[i]? with
  | some (0, _, fl) => (match fl[k]? with
    | some 1 => in64 (f k)
    | _ => in32 (f k))
  | some (1, _, _) => in32 (f k)
  | some (2, _, _) => 0 ≤ f k ∧ f k ≤ 1
  | some (3, _, _) => -128 ≤ f k ∧ f k ≤ 127
  | some (_, _, _) => in64 (f k)
  | none => True) : bwf sy (bup m i f) := by
  intro a k
  by_cases ha : a = i
  · subst ha
    have := hf k
    simp only [bup, if_pos rfl]
    exact this
  · have := h a k
    simp only [bup, if_neg ha]
    exact this
def bl {α β : Type} (e : α) (k : α → β) : β := k e
theorem blet {α β : Type} {e : α} {k : α → Option β} {r : β} (h : bl e k = some r) : ∃ z, e = z ∧ k z = some r := ⟨e, rfl, h⟩
def bb {α β : Type} (o : Option α) (k : α → Option β) : Option β := match o with
  | none => none
  | some a => k a
theorem bbnd {α β : Type} {o : Option α} {k : α → Option β} {r : β} (h : bb o k = some r) : ∃ z, o = some z ∧ k z = some r := by
  cases o with
  | none => cases h
  | some a => exact ⟨a, rfl, h⟩
theorem bchk {α : Type} {q : Prop} [Decidable q] {a : Option α} {r : α} (h : (if q then a else none) = some r) : q ∧ a = some r := by
  by_cases hq : q
  · rw [if_pos hq] at h; exact ⟨hq, h⟩
  · rw [if_neg hq] at h; cases h
theorem bpos {α : Type} {q : Prop} [Decidable q] {a b z : α} (hq : q) (h : (if q then a else b) = z) : a = z := by rw [if_pos hq] at h; exact h
theorem bneg {α : Type} {q : Prop} [Decidable q] {a b z : α} (hq : ¬ q) (h : (if q then a else b) = z) : b = z := by rw [if_neg hq] at h; exact h

section Rules
variable {sy : bS} {own : String} {cc : ByteArray} {nL : Nat} {ret : Option FieldType} {j : bJ} {pc : Nat} {ls : List (Option bV)} {st : List bV} {m : bM}
theorem z_iconst {n : Int} (hd : decode cc pc = .ok (.iconst n, 1)) (hn : in32 n) (k : bZ sy own cc nL ret j (pc + 1) ls (aI n :: st) m) : bZ sy own cc nL ret j (pc) ls (st) m := by
  intro p l e s mi args below meth c D aC ad H locs la C E hP hD hS hm hst hl
  obtain ⟨hx, hb, hml, hown, hts, hr, hlk, hK, hG⟩ := id C
  exact lv_iconst hx hb hd rfl (k p l e s mi args below meth c D aC ad H locs la C E hP hD hS hm (bok_cons hn hst) hl)
theorem z_bipush {n : Int} (hd : decode cc pc = .ok (.bipush n, 2)) (hn : (Int8.ofInt n).toInt32 = Int32.ofInt n) (hi : in32 n) (k : bZ sy own cc nL ret j (pc + 2) ls (aI n :: st) m) : bZ sy own cc nL ret j (pc) ls (st) m := by
  intro p l e s mi args below meth c D aC ad H locs la C E hP hD hS hm hst hl
  obtain ⟨hx, hb, hml, hown, hts, hr, hlk, hK, hG⟩ := id C
  exact lv_bipush hx hb hd hn (k p l e s mi args below meth c D aC ad H locs la C E hP hD hS hm (bok_cons hi hst) hl)
theorem z_sipush {n : Int} (hd : decode cc pc = .ok (.sipush n, 3)) (hn : (Int16.ofInt n).toInt32 = Int32.ofInt n) (hi : in32 n) (k : bZ sy own cc nL ret j (pc + 3) ls (aI n :: st) m) : bZ sy own cc nL ret j (pc) ls (st) m := by
  intro p l e s mi args below meth c D aC ad H locs la C E hP hD hS hm hst hl
  obtain ⟨hx, hb, hml, hown, hts, hr, hlk, hK, hG⟩ := id C
  exact lv_sipush hx hb hd hn (k p l e s mi args below meth c D aC ad H locs la C E hP hD hS hm (bok_cons hi hst) hl)
theorem z_lconst {n : Fin 2} {z : Int} (hd : decode cc pc = .ok (.lconst n, 1)) (hn : Int64.ofNat (n : Nat) = Int64.ofInt z) (hi : in64 z) (k : bZ sy own cc nL ret j (pc + 1) ls (aL z :: st) m) : bZ sy own cc nL ret j (pc) ls (st) m := by
  intro p l e s mi args below meth c D aC ad H locs la C E hP hD hS hm hst hl
  obtain ⟨hx, hb, hml, hown, hts, hr, hlk, hK, hG⟩ := id C
  exact lv_lconst hx hb hd hn (k p l e s mi args below meth c D aC ad H locs la C E hP hD hS hm (bok_cons (v := aL z) hi hst) hl)
theorem z_ldc {idx : Nat} {n : Int} (hd : decode cc pc = .ok (.ldc idx, 2)) (hw : Cond.constant own idx (Int32.ofInt n) ∈ bT) (hi : in32 n) (k : bZ sy own cc nL ret j (pc + 2) ls (aI n :: st) m) : bZ sy own cc nL ret j (pc) ls (st) m := by
  intro p l e s mi args below meth c D aC ad H locs la C E hP hD hS hm hst hl
  obtain ⟨hx, hb, hml, hown, hts, hr, hlk, hK, hG⟩ := id C
  exact lv_ldc hx hb hown (hts _ hw) hd (k p l e s mi args below meth c D aC ad H locs la C E hP hD hS hm (bok_cons hi hst) hl)
theorem z_ldc_w {idx : Nat} {n : Int} (hd : decode cc pc = .ok (.ldc_w idx, 3)) (hw : Cond.constant own idx (Int32.ofInt n) ∈ bT) (hi : in32 n) (k : bZ sy own cc nL ret j (pc + 3) ls (aI n :: st) m) : bZ sy own cc nL ret j (pc) ls (st) m := by
  intro p l e s mi args below meth c D aC ad H locs la C E hP hD hS hm hst hl
  obtain ⟨hx, hb, hml, hown, hts, hr, hlk, hK, hG⟩ := id C
  exact lv_ldcw hx hb hown (hts _ hw) hd (k p l e s mi args below meth c D aC ad H locs la C E hP hD hS hm (bok_cons hi hst) hl)
theorem z_ldc2 {idx : Nat} {n : Int} (hd : decode cc pc = .ok (.ldc2_w idx, 3)) (hw : Cond.constantLong own idx (Int64.ofInt n) ∈ bT) (hi : in64 n) (k : bZ sy own cc nL ret j (pc + 3) ls (aL n :: st) m) : bZ sy own cc nL ret j (pc) ls (st) m := by
  intro p l e s mi args below meth c D aC ad H locs la C E hP hD hS hm hst hl
  obtain ⟨hx, hb, hml, hown, hts, hr, hlk, hK, hG⟩ := id C
  exact lv_ldc2 hx hb hown (hts _ hw) hd (k p l e s mi args below meth c D aC ad H locs la C E hP hD hS hm (bok_cons (v := aL n) hi hst) hl)
theorem z_iload_n {i : Fin 4} {z : Int} (hd : decode cc pc = .ok (.iload_n i, 1)) (h : ls[(i : Nat)]? = some (some (aI z))) (k : bZ sy own cc nL ret j (pc + 1) ls (aI z :: st) m) : bZ sy own cc nL ret j (pc) ls (st) m := by
  intro p l e s mi args below meth c D aC ad H locs la C E hP hD hS hm hst hl
  obtain ⟨hx, hb, hml, hown, hts, hr, hlk, hK, hG⟩ := id C
  have h1 := hl.2.2 _ _ h
  exact lv_iload_n hx hb hd rfl h1.1 (k p l e s mi args below meth c D aC ad H locs la C E hP hD hS hm (bok_cons h1.2 hst) hl)
theorem z_iload {i : Nat} {z : Int} (hd : decode cc pc = .ok (.iload i, 2)) (h : ls[i]? = some (some (aI z))) (k : bZ sy own cc nL ret j (pc + 2) ls (aI z :: st) m) : bZ sy own cc nL ret j (pc) ls (st) m := by
  intro p l e s mi args below meth c D aC ad H locs la C E hP hD hS hm hst hl
  obtain ⟨hx, hb, hml, hown, hts, hr, hlk, hK, hG⟩ := id C
  have h1 := hl.2.2 _ _ h
  exact lv_iload hx hb hd h1.1 (k p l e s mi args below meth c D aC ad H locs la C E hP hD hS hm (bok_cons h1.2 hst) hl)
theorem z_lload_n {i : Fin 4} {z : Int} (hd : decode cc pc = .ok (.lload_n i, 1)) (h : ls[(i : Nat)]? = some (some (aL z))) (k : bZ sy own cc nL ret j (pc + 1) ls (aL z :: st) m) : bZ sy own cc nL ret j (pc) ls (st) m := by
  intro p l e s mi args below meth c D aC ad H locs la C E hP hD hS hm hst hl
  obtain ⟨hx, hb, hml, hown, hts, hr, hlk, hK, hG⟩ := id C
  have h1 := hl.2.2 _ _ h
  exact lv_lload_n hx hb hd rfl h1.1 (k p l e s mi args below meth c D aC ad H locs la C E hP hD hS hm (bok_cons h1.2 hst) hl)
theorem z_lload {i : Nat} {z : Int} (hd : decode cc pc = .ok (.lload i, 2)) (h : ls[i]? = some (some (aL z))) (k : bZ sy own cc nL ret j (pc + 2) ls (aL z :: st) m) : bZ sy own cc nL ret j (pc) ls (st) m := by
  intro p l e s mi args below meth c D aC ad H locs la C E hP hD hS hm hst hl
  obtain ⟨hx, hb, hml, hown, hts, hr, hlk, hK, hG⟩ := id C
  have h1 := hl.2.2 _ _ h
  exact lv_lload hx hb hd h1.1 (k p l e s mi args below meth c D aC ad H locs la C E hP hD hS hm (bok_cons h1.2 hst) hl)
theorem z_aload_n {i : Fin 4} {z : Nat} (hd : decode cc pc = .ok (.aload_n i, 1)) (h : ls[(i : Nat)]? = some (some (aR z))) (k : bZ sy own cc nL ret j (pc + 1) ls (aR z :: st) m) : bZ sy own cc nL ret j (pc) ls (st) m := by
  intro p l e s mi args below meth c D aC ad H locs la C E hP hD hS hm hst hl
  obtain ⟨hx, hb, hml, hown, hts, hr, hlk, hK, hG⟩ := id C
  have h1 := hl.2.2 _ _ h
  exact lv_aload_n hx hb hd rfl h1.1 (k p l e s mi args below meth c D aC ad H locs la C E hP hD hS hm (bok_cons h1.2 hst) hl)
theorem z_aload {i : Nat} {z : Nat} (hd : decode cc pc = .ok (.aload i, 2)) (h : ls[i]? = some (some (aR z))) (k : bZ sy own cc nL ret j (pc + 2) ls (aR z :: st) m) : bZ sy own cc nL ret j (pc) ls (st) m := by
  intro p l e s mi args below meth c D aC ad H locs la C E hP hD hS hm hst hl
  obtain ⟨hx, hb, hml, hown, hts, hr, hlk, hK, hG⟩ := id C
  have h1 := hl.2.2 _ _ h
  exact lv_aload hx hb hd h1.1 (k p l e s mi args below meth c D aC ad H locs la C E hP hD hS hm (bok_cons h1.2 hst) hl)
theorem z_istore_n {i : Fin 4} {z z2 : Int} {ls2 : List (Option bV)} (hd : decode cc pc = .ok (.istore_n i, 1)) (hz2 : z = z2) (hn : bnl ls i = true) (hlt : (i : Nat) < nL) (he : ls.set i (some (aI z2)) = ls2) (k : bZ sy own cc nL ret j (pc + 1) ls2 (st) m) : bZ sy own cc nL ret j (pc) ls (aI z :: st) m := by
  intro p l e s mi args below meth c D aC ad H locs la C E hP hD hS hm hst hl
  obtain ⟨hx, hb, hml, hown, hts, hr, hlk, hK, hG⟩ := id C
  subst hz2; subst he
  exact lv_istore_n hx hb hd rfl (bll_has hl) hlt rfl (fun la2 hl2 => k p l e s mi args below meth c D aC ad H locs la2 C E hP hD hS hm (bok_tl hst) (blv_st hl (bok_hd hst) hn hl2))
theorem z_istore {i : Nat} {z z2 : Int} {ls2 : List (Option bV)} (hd : decode cc pc = .ok (.istore i, 2)) (hz2 : z = z2) (hn : bnl ls i = true) (hlt : i < nL) (he : ls.set i (some (aI z2)) = ls2) (k : bZ sy own cc nL ret j (pc + 2) ls2 (st) m) : bZ sy own cc nL ret j (pc) ls (aI z :: st) m := by
  intro p l e s mi args below meth c D aC ad H locs la C E hP hD hS hm hst hl
  obtain ⟨hx, hb, hml, hown, hts, hr, hlk, hK, hG⟩ := id C
  subst hz2; subst he
  exact lv_istore hx hb hd (bll_has hl) hlt rfl (fun la2 hl2 => k p l e s mi args below meth c D aC ad H locs la2 C E hP hD hS hm (bok_tl hst) (blv_st hl (bok_hd hst) hn hl2))
theorem z_astore_n {i : Fin 4} {z : Nat} {ls2 : List (Option bV)} (hd : decode cc pc = .ok (.astore_n i, 1)) (hn : bnl ls i = true) (hlt : (i : Nat) < nL) (he : ls.set i (some (aR z)) = ls2) (k : bZ sy own cc nL ret j (pc + 1) ls2 (st) m) : bZ sy own cc nL ret j (pc) ls (aR z :: st) m := by
  intro p l e s mi args below meth c D aC ad H locs la C E hP hD hS hm hst hl
  obtain ⟨hx, hb, hml, hown, hts, hr, hlk, hK, hG⟩ := id C
  subst he
  exact lv_astore_n hx hb hd rfl (bll_has hl) hlt rfl (fun la2 hl2 => k p l e s mi args below meth c D aC ad H locs la2 C E hP hD hS hm (bok_tl hst) (blv_st (v := aR z) hl trivial hn hl2))
theorem z_lstore_n {i : Fin 4} {z z2 : Int} {ls2 : List (Option bV)} (hd : decode cc pc = .ok (.lstore_n i, 1)) (hz2 : z = z2) (hn : bnl ls i = true) (hlt : (i : Nat) + 1 < nL) (he : (ls.set i (some (aL z2))).set ((i : Nat) + 1) none = ls2) (k : bZ sy own cc nL ret j (pc + 1) ls2 (st) m) : bZ sy own cc nL ret j (pc) ls (aL z :: st) m := by
  intro p l e s mi args below meth c D aC ad H locs la C E hP hD hS hm hst hl
  obtain ⟨hx, hb, hml, hown, hts, hr, hlk, hK, hG⟩ := id C
  subst hz2; subst he
  exact lv_lstore_n hx hb hd rfl (bll_has hl) hlt rfl (fun la2 hl2 => k p l e s mi args below meth c D aC ad H locs la2 C E hP hD hS hm (bok_tl hst) (blv_stl hl (bok_hd hst) hn hl2))
theorem z_lstore {i : Nat} {z z2 : Int} {ls2 : List (Option bV)} (hd : decode cc pc = .ok (.lstore i, 2)) (hz2 : z = z2) (hn : bnl ls i = true) (hlt : i + 1 < nL) (he : (ls.set i (some (aL z2))).set (i + 1) none = ls2) (k : bZ sy own cc nL ret j (pc + 2) ls2 (st) m) : bZ sy own cc nL ret j (pc) ls (aL z :: st) m := by
  intro p l e s mi args below meth c D aC ad H locs la C E hP hD hS hm hst hl
  obtain ⟨hx, hb, hml, hown, hts, hr, hlk, hK, hG⟩ := id C
  subst hz2; subst he
  exact lv_lstore hx hb hd (bll_has hl) hlt rfl (fun la2 hl2 => k p l e s mi args below meth c D aC ad H locs la2 C E hP hD hS hm (bok_tl hst) (blv_stl hl (bok_hd hst) hn hl2))
theorem z_iinc {i : Nat} {n z z2 : Int} {ls2 : List (Option bV)} (hd : decode cc pc = .ok (.iinc i n, 3)) (h : ls[i]? = some (some (aI z))) (hz2 : i32 (z + n) = z2) (hn : bnl ls i = true) (hlt : i < nL) (he : ls.set i (some (aI z2)) = ls2) (k : bZ sy own cc nL ret j (pc + 3) ls2 (st) m) : bZ sy own cc nL ret j (pc) ls (st) m := by
  intro p l e s mi args below meth c D aC ad H locs la C E hP hD hS hm hst hl
  obtain ⟨hx, hb, hml, hown, hts, hr, hlk, hK, hG⟩ := id C
  subst hz2; subst he
  obtain ⟨kk, hkk⟩ := List.getElem?_of_mem (bll_mem (ad := ad) h)
  exact lv_iinc (v := Int32.ofInt (i32 (z + n))) hx hb hd (bll_has hl) hkk (by rw [ofI_i32, Int32.ofInt_add]) hlt rfl (fun la2 hl2 => k p l e s mi args below meth c D aC ad H locs la2 C E hP hD hS hm hst (blv_st (v := aI (i32 (z + n))) hl (i32_in _) hn hl2))
theorem z_iadd {a b : Int} (hd : decode cc pc = .ok (.iadd, 1)) (k : bZ sy own cc nL ret j (pc + 1) ls (aI (i32 (a + b)) :: st) m) : bZ sy own cc nL ret j (pc) ls (aI b :: aI a :: st) m := by
  intro p l e s mi args below meth c D aC ad H locs la C E hP hD hS hm hst hl
  obtain ⟨hx, hb, hml, hown, hts, hr, hlk, hK, hG⟩ := id C
  refine lv_iadd hx hb hd ?_
  have kk := k p l e s mi args below meth c D aC ad H locs la C E hP hD hS hm (bok_cons (v := aI _) (i32_in _) (bok_tl (bok_tl hst))) hl
  have ee : Int32.ofInt (i32 (a + b)) = Int32.ofInt a + Int32.ofInt b := by rw [ofI_i32, Int32.ofInt_add]
  rw [← ee]; exact kk
theorem z_isub {a b : Int} (hd : decode cc pc = .ok (.isub, 1)) (k : bZ sy own cc nL ret j (pc + 1) ls (aI (i32 (a - b)) :: st) m) : bZ sy own cc nL ret j (pc) ls (aI b :: aI a :: st) m := by
  intro p l e s mi args below meth c D aC ad H locs la C E hP hD hS hm hst hl
  obtain ⟨hx, hb, hml, hown, hts, hr, hlk, hK, hG⟩ := id C
  refine lv_isub hx hb hd ?_
  have kk := k p l e s mi args below meth c D aC ad H locs la C E hP hD hS hm (bok_cons (v := aI _) (i32_in _) (bok_tl (bok_tl hst))) hl
  have ee : Int32.ofInt (i32 (a - b)) = Int32.ofInt a - Int32.ofInt b := by rw [ofI_i32, Int32.ofInt_sub]
  rw [← ee]; exact kk
theorem z_imul {a b : Int} (hd : decode cc pc = .ok (.imul, 1)) (k : bZ sy own cc nL ret j (pc + 1) ls (aI (i32 (a * b)) :: st) m) : bZ sy own cc nL ret j (pc) ls (aI b :: aI a :: st) m := by
  intro p l e s mi args below meth c D aC ad H locs la C E hP hD hS hm hst hl
  obtain ⟨hx, hb, hml, hown, hts, hr, hlk, hK, hG⟩ := id C
  refine lv_imul hx hb hd ?_
  have kk := k p l e s mi args below meth c D aC ad H locs la C E hP hD hS hm (bok_cons (v := aI _) (i32_in _) (bok_tl (bok_tl hst))) hl
  have ee : Int32.ofInt (i32 (a * b)) = Int32.ofInt a * Int32.ofInt b := by rw [ofI_i32, Int32.ofInt_mul]
  rw [← ee]; exact kk
theorem z_iand {a b : Int} (hd : decode cc pc = .ok (.iand, 1)) (k : bZ sy own cc nL ret j (pc + 1) ls (aI (jand a b) :: st) m) : bZ sy own cc nL ret j (pc) ls (aI b :: aI a :: st) m := by
  intro p l e s mi args below meth c D aC ad H locs la C E hP hD hS hm hst hl
  obtain ⟨hx, hb, hml, hown, hts, hr, hlk, hK, hG⟩ := id C
  refine lv_iand hx hb hd ?_
  have kk := k p l e s mi args below meth c D aC ad H locs la C E hP hD hS hm (bok_cons (v := aI _) (jand_in _ _) (bok_tl (bok_tl hst))) hl
  rw [jand_def] at kk
  simp only [List.map_cons, bcv, Int32.ofInt_toInt] at kk
  exact kk
theorem z_ior {a b : Int} (hd : decode cc pc = .ok (.ior, 1)) (k : bZ sy own cc nL ret j (pc + 1) ls (aI (jor a b) :: st) m) : bZ sy own cc nL ret j (pc) ls (aI b :: aI a :: st) m := by
  intro p l e s mi args below meth c D aC ad H locs la C E hP hD hS hm hst hl
  obtain ⟨hx, hb, hml, hown, hts, hr, hlk, hK, hG⟩ := id C
  refine lv_ior hx hb hd ?_
  have kk := k p l e s mi args below meth c D aC ad H locs la C E hP hD hS hm (bok_cons (v := aI _) (jor_in _ _) (bok_tl (bok_tl hst))) hl
  rw [jor_def] at kk
  simp only [List.map_cons, bcv, Int32.ofInt_toInt] at kk
  exact kk
theorem z_ixor {a b : Int} (hd : decode cc pc = .ok (.ixor, 1)) (k : bZ sy own cc nL ret j (pc + 1) ls (aI (jxor a b) :: st) m) : bZ sy own cc nL ret j (pc) ls (aI b :: aI a :: st) m := by
  intro p l e s mi args below meth c D aC ad H locs la C E hP hD hS hm hst hl
  obtain ⟨hx, hb, hml, hown, hts, hr, hlk, hK, hG⟩ := id C
  refine lv_ixor hx hb hd ?_
  have kk := k p l e s mi args below meth c D aC ad H locs la C E hP hD hS hm (bok_cons (v := aI _) (jxor_in _ _) (bok_tl (bok_tl hst))) hl
  rw [jxor_def] at kk
  simp only [List.map_cons, bcv, Int32.ofInt_toInt] at kk
  exact kk
theorem z_ishl {a b : Int} (hd : decode cc pc = .ok (.ishl, 1)) (k : bZ sy own cc nL ret j (pc + 1) ls (aI (jshl a b) :: st) m) : bZ sy own cc nL ret j (pc) ls (aI b :: aI a :: st) m := by
  intro p l e s mi args below meth c D aC ad H locs la C E hP hD hS hm hst hl
  obtain ⟨hx, hb, hml, hown, hts, hr, hlk, hK, hG⟩ := id C
  refine lv_ishl hx hb hd ?_
  have kk := k p l e s mi args below meth c D aC ad H locs la C E hP hD hS hm (bok_cons (v := aI _) (jshl_in _ _) (bok_tl (bok_tl hst))) hl
  rw [jshl_def] at kk
  simp only [List.map_cons, bcv, Int32.ofInt_toInt] at kk
  exact kk
theorem z_ishr {a b : Int} (hd : decode cc pc = .ok (.ishr, 1)) (k : bZ sy own cc nL ret j (pc + 1) ls (aI (jshr a b) :: st) m) : bZ sy own cc nL ret j (pc) ls (aI b :: aI a :: st) m := by
  intro p l e s mi args below meth c D aC ad H locs la C E hP hD hS hm hst hl
  obtain ⟨hx, hb, hml, hown, hts, hr, hlk, hK, hG⟩ := id C
  refine lv_ishr hx hb hd ?_
  have kk := k p l e s mi args below meth c D aC ad H locs la C E hP hD hS hm (bok_cons (v := aI _) (jshr_in _ _) (bok_tl (bok_tl hst))) hl
  rw [jshr_def] at kk
  simp only [List.map_cons, bcv, Int32.ofInt_toInt] at kk
  exact kk
theorem z_iushr {a b : Int} (hd : decode cc pc = .ok (.iushr, 1)) (k : bZ sy own cc nL ret j (pc + 1) ls (aI (jushr a b) :: st) m) : bZ sy own cc nL ret j (pc) ls (aI b :: aI a :: st) m := by
  intro p l e s mi args below meth c D aC ad H locs la C E hP hD hS hm hst hl
  obtain ⟨hx, hb, hml, hown, hts, hr, hlk, hK, hG⟩ := id C
  refine lv_iushr hx hb hd rfl ?_
  have kk := k p l e s mi args below meth c D aC ad H locs la C E hP hD hS hm (bok_cons (v := aI _) (jushr_in _ _) (bok_tl (bok_tl hst))) hl
  rw [jushr_def] at kk
  simp only [List.map_cons, bcv, Int32.ofInt_toInt] at kk
  exact kk
theorem z_idiv {a b : Int} (hd : decode cc pc = .ok (.idiv, 1)) (h0 : b ≠ 0) (k : bZ sy own cc nL ret j (pc + 1) ls (aI (jdiv a b) :: st) m) : bZ sy own cc nL ret j (pc) ls (aI b :: aI a :: st) m := by
  intro p l e s mi args below meth c D aC ad H locs la C E hP hD hS hm hst hl
  obtain ⟨hx, hb, hml, hown, hts, hr, hlk, hK, hG⟩ := id C
  have hb32 : in32 b := bok_hd hst
  have ha32 : in32 a := bok_hd (bok_tl hst)
  refine lv_idiv hx hb hd (fun q => h0 ((ofI_eq hb32 (show in32 0 by unfold in32; omega)).mp q)) ?_
  rw [ofI_div ha32 hb32]
  exact k p l e s mi args below meth c D aC ad H locs la C E hP hD hS hm (bok_cons (v := aI _) (i32_in _) (bok_tl (bok_tl hst))) hl
theorem z_irem {a b : Int} (hd : decode cc pc = .ok (.irem, 1)) (h0 : b ≠ 0) (k : bZ sy own cc nL ret j (pc + 1) ls (aI (jrem a b) :: st) m) : bZ sy own cc nL ret j (pc) ls (aI b :: aI a :: st) m := by
  intro p l e s mi args below meth c D aC ad H locs la C E hP hD hS hm hst hl
  obtain ⟨hx, hb, hml, hown, hts, hr, hlk, hK, hG⟩ := id C
  have hb32 : in32 b := bok_hd hst
  have ha32 : in32 a := bok_hd (bok_tl hst)
  refine lv_irem hx hb hd (fun q => h0 ((ofI_eq hb32 (show in32 0 by unfold in32; omega)).mp q)) ?_
  rw [ofI_rem ha32 hb32]
  exact k p l e s mi args below meth c D aC ad H locs la C E hP hD hS hm (bok_cons (v := aI _) (i32_in _) (bok_tl (bok_tl hst))) hl
theorem z_ladd {a b : Int} (hd : decode cc pc = .ok (.ladd, 1)) (k : bZ sy own cc nL ret j (pc + 1) ls (aL (i64 (a + b)) :: st) m) : bZ sy own cc nL ret j (pc) ls (aL b :: aL a :: st) m := by
  intro p l e s mi args below meth c D aC ad H locs la C E hP hD hS hm hst hl
  obtain ⟨hx, hb, hml, hown, hts, hr, hlk, hK, hG⟩ := id C
  refine lv_ladd hx hb hd ?_
  have kk := k p l e s mi args below meth c D aC ad H locs la C E hP hD hS hm (bok_cons (v := aL _) (i64_in _) (bok_tl (bok_tl hst))) hl
  have ee : Int64.ofInt (i64 (a + b)) = Int64.ofInt a + Int64.ofInt b := by rw [ofL_i64, Int64.ofInt_add]
  rw [← ee]; exact kk
theorem z_lsub {a b : Int} (hd : decode cc pc = .ok (.lsub, 1)) (k : bZ sy own cc nL ret j (pc + 1) ls (aL (i64 (a - b)) :: st) m) : bZ sy own cc nL ret j (pc) ls (aL b :: aL a :: st) m := by
  intro p l e s mi args below meth c D aC ad H locs la C E hP hD hS hm hst hl
  obtain ⟨hx, hb, hml, hown, hts, hr, hlk, hK, hG⟩ := id C
  refine lv_lsub hx hb hd ?_
  have kk := k p l e s mi args below meth c D aC ad H locs la C E hP hD hS hm (bok_cons (v := aL _) (i64_in _) (bok_tl (bok_tl hst))) hl
  have ee : Int64.ofInt (i64 (a - b)) = Int64.ofInt a - Int64.ofInt b := by rw [ofL_i64, Int64.ofInt_sub]
  rw [← ee]; exact kk
theorem z_lmul {a b : Int} (hd : decode cc pc = .ok (.lmul, 1)) (k : bZ sy own cc nL ret j (pc + 1) ls (aL (i64 (a * b)) :: st) m) : bZ sy own cc nL ret j (pc) ls (aL b :: aL a :: st) m := by
  intro p l e s mi args below meth c D aC ad H locs la C E hP hD hS hm hst hl
  obtain ⟨hx, hb, hml, hown, hts, hr, hlk, hK, hG⟩ := id C
  refine lv_lmul hx hb hd ?_
  have kk := k p l e s mi args below meth c D aC ad H locs la C E hP hD hS hm (bok_cons (v := aL _) (i64_in _) (bok_tl (bok_tl hst))) hl
  have ee : Int64.ofInt (i64 (a * b)) = Int64.ofInt a * Int64.ofInt b := by rw [ofL_i64, Int64.ofInt_mul]
  rw [← ee]; exact kk
theorem z_land {a b : Int} (hd : decode cc pc = .ok (.land, 1)) (k : bZ sy own cc nL ret j (pc + 1) ls (aL (kand a b) :: st) m) : bZ sy own cc nL ret j (pc) ls (aL b :: aL a :: st) m := by
  intro p l e s mi args below meth c D aC ad H locs la C E hP hD hS hm hst hl
  obtain ⟨hx, hb, hml, hown, hts, hr, hlk, hK, hG⟩ := id C
  refine lv_land hx hb hd ?_
  have kk := k p l e s mi args below meth c D aC ad H locs la C E hP hD hS hm (bok_cons (v := aL _) (kand_in _ _) (bok_tl (bok_tl hst))) hl
  rw [kand_def] at kk
  simp only [List.map_cons, bcv, Int64.ofInt_toInt] at kk
  exact kk
theorem z_lor {a b : Int} (hd : decode cc pc = .ok (.lor, 1)) (k : bZ sy own cc nL ret j (pc + 1) ls (aL (kor a b) :: st) m) : bZ sy own cc nL ret j (pc) ls (aL b :: aL a :: st) m := by
  intro p l e s mi args below meth c D aC ad H locs la C E hP hD hS hm hst hl
  obtain ⟨hx, hb, hml, hown, hts, hr, hlk, hK, hG⟩ := id C
  refine lv_lor hx hb hd ?_
  have kk := k p l e s mi args below meth c D aC ad H locs la C E hP hD hS hm (bok_cons (v := aL _) (kor_in _ _) (bok_tl (bok_tl hst))) hl
  rw [kor_def] at kk
  simp only [List.map_cons, bcv, Int64.ofInt_toInt] at kk
  exact kk
theorem z_lxor {a b : Int} (hd : decode cc pc = .ok (.lxor, 1)) (k : bZ sy own cc nL ret j (pc + 1) ls (aL (kxor a b) :: st) m) : bZ sy own cc nL ret j (pc) ls (aL b :: aL a :: st) m := by
  intro p l e s mi args below meth c D aC ad H locs la C E hP hD hS hm hst hl
  obtain ⟨hx, hb, hml, hown, hts, hr, hlk, hK, hG⟩ := id C
  refine lv_lxor hx hb hd ?_
  have kk := k p l e s mi args below meth c D aC ad H locs la C E hP hD hS hm (bok_cons (v := aL _) (kxor_in _ _) (bok_tl (bok_tl hst))) hl
  rw [kxor_def] at kk
  simp only [List.map_cons, bcv, Int64.ofInt_toInt] at kk
  exact kk
theorem z_lshl {a b : Int} (hd : decode cc pc = .ok (.lshl, 1)) (k : bZ sy own cc nL ret j (pc + 1) ls (aL (kshl a b) :: st) m) : bZ sy own cc nL ret j (pc) ls (aI b :: aL a :: st) m := by
  intro p l e s mi args below meth c D aC ad H locs la C E hP hD hS hm hst hl
  obtain ⟨hx, hb, hml, hown, hts, hr, hlk, hK, hG⟩ := id C
  refine lv_lshl hx hb hd rfl ?_
  have kk := k p l e s mi args below meth c D aC ad H locs la C E hP hD hS hm (bok_cons (v := aL _) (kshl_in _ _) (bok_tl (bok_tl hst))) hl
  rw [kshl_def] at kk
  simp only [List.map_cons, bcv, Int64.ofInt_toInt] at kk
  exact kk
theorem z_lshr {a b : Int} (hd : decode cc pc = .ok (.lshr, 1)) (k : bZ sy own cc nL ret j (pc + 1) ls (aL (kshr a b) :: st) m) : bZ sy own cc nL ret j (pc) ls (aI b :: aL a :: st) m := by
  intro p l e s mi args below meth c D aC ad H locs la C E hP hD hS hm hst hl
  obtain ⟨hx, hb, hml, hown, hts, hr, hlk, hK, hG⟩ := id C
  refine lv_lshr hx hb hd rfl ?_
  have kk := k p l e s mi args below meth c D aC ad H locs la C E hP hD hS hm (bok_cons (v := aL _) (kshr_in _ _) (bok_tl (bok_tl hst))) hl
  rw [kshr_def] at kk
  simp only [List.map_cons, bcv, Int64.ofInt_toInt] at kk
  exact kk
theorem z_i2l {a : Int} (hd : decode cc pc = .ok (.i2l, 1)) (k : bZ sy own cc nL ret j (pc + 1) ls (aL a :: st) m) : bZ sy own cc nL ret j (pc) ls (aI a :: st) m := by
  intro p l e s mi args below meth c D aC ad H locs la C E hP hD hS hm hst hl
  obtain ⟨hx, hb, hml, hown, hts, hr, hlk, hK, hG⟩ := id C
  have ha : in32 a := bok_hd hst
  have h64 : in64 a := by unfold in32 at ha; unfold in64; omega
  refine lv_i2l hx hb hd (v := Int64.ofInt a) ?_ (k p l e s mi args below meth c D aC ad H locs la C E hP hD hS hm (bok_cons (v := aL a) h64 (bok_tl hst)) hl)
  apply Int64.toInt_inj.mp
  rw [Int32.toInt_toInt64, toI ha, toL h64]
theorem z_l2i {a : Int} (hd : decode cc pc = .ok (.l2i, 1)) (k : bZ sy own cc nL ret j (pc + 1) ls (aI (i32 a) :: st) m) : bZ sy own cc nL ret j (pc) ls (aL a :: st) m := by
  intro p l e s mi args below meth c D aC ad H locs la C E hP hD hS hm hst hl
  obtain ⟨hx, hb, hml, hown, hts, hr, hlk, hK, hG⟩ := id C
  have ha : in64 a := bok_hd hst
  refine lv_l2i hx hb hd (v := Int32.ofInt (i32 a)) ?_ (k p l e s mi args below meth c D aC ad H locs la C E hP hD hS hm (bok_cons (v := aI _) (i32_in _) (bok_tl hst)) hl)
  rw [ofI_i32]
  apply Int32.toInt_inj.mp
  rw [Int64.toInt_toInt32, toL ha, Int32.toInt_ofInt]
theorem z_i2b {a : Int} (hd : decode cc pc = .ok (.i2b, 1)) (k : bZ sy own cc nL ret j (pc + 1) ls (aI (jb8 a) :: st) m) : bZ sy own cc nL ret j (pc) ls (aI a :: st) m := by
  intro p l e s mi args below meth c D aC ad H locs la C E hP hD hS hm hst hl
  obtain ⟨hx, hb, hml, hown, hts, hr, hlk, hK, hG⟩ := id C
  have hj : in32 (jb8 a) := by
    have h1 := Int8.le_toInt (Int32.ofInt a).toInt8
    have h2 := Int8.toInt_lt (Int32.ofInt a).toInt8
    unfold jb8 in32; omega
  refine lv_i2b hx hb hd (v := Int32.ofInt (jb8 a)) ?_ (k p l e s mi args below meth c D aC ad H locs la C E hP hD hS hm (bok_cons (v := aI _) hj (bok_tl hst)) hl)
  apply Int32.toInt_inj.mp
  rw [toI hj]; unfold jb8; simp
theorem z_i2s {a : Int} (hd : decode cc pc = .ok (.i2s, 1)) (k : bZ sy own cc nL ret j (pc + 1) ls (aI (jb16 a) :: st) m) : bZ sy own cc nL ret j (pc) ls (aI a :: st) m := by
  intro p l e s mi args below meth c D aC ad H locs la C E hP hD hS hm hst hl
  obtain ⟨hx, hb, hml, hown, hts, hr, hlk, hK, hG⟩ := id C
  have hj : in32 (jb16 a) := by
    have h1 := Int16.le_toInt (Int32.ofInt a).toInt16
    have h2 := Int16.toInt_lt (Int32.ofInt a).toInt16
    unfold jb16 in32; omega
  refine lv_i2s hx hb hd (v := Int32.ofInt (jb16 a)) ?_ (k p l e s mi args below meth c D aC ad H locs la C E hP hD hS hm (bok_cons (v := aI _) hj (bok_tl hst)) hl)
  apply Int32.toInt_inj.mp
  rw [toI hj]; unfold jb16; simp
theorem z_lcmp {a b : Int} (hd : decode cc pc = .ok (.lcmp, 1)) (k : bZ sy own cc nL ret j (pc + 1) ls (aI (kcmp a b) :: st) m) : bZ sy own cc nL ret j (pc) ls (aL b :: aL a :: st) m := by
  intro p l e s mi args below meth c D aC ad H locs la C E hP hD hS hm hst hl
  obtain ⟨hx, hb, hml, hown, hts, hr, hlk, hK, hG⟩ := id C
  have hb64 : in64 b := bok_hd hst
  have ha64 : in64 a := bok_hd (bok_tl hst)
  refine W.lcmp hx hb hd ?_
  have ee : lg_cmp (Int64.ofInt a) (Int64.ofInt b) = Int32.ofInt (kcmp a b) := by
    have e1 : (Int64.ofInt a < Int64.ofInt b) ↔ a < b := by rw [Int64.lt_iff_toInt_lt, toL ha64, toL hb64]
    have e2 : (Int64.ofInt a = Int64.ofInt b) ↔ a = b := by rw [← Int64.toInt_inj, toL ha64, toL hb64]
    unfold lg_cmp kcmp
    by_cases h1 : a < b
    · have h3 : ¬ b < a := by omega
      have h4 : ¬ a = b := by omega
      have e3 : (Int64.ofInt b < Int64.ofInt a) ↔ b < a := by rw [Int64.lt_iff_toInt_lt, toL ha64, toL hb64]
      simp [e2, e3, h1, h3, h4]
    · by_cases h2 : a = b
      · subst h2; simp
      · have h3 : b < a := by omega
        have e3 : (Int64.ofInt b < Int64.ofInt a) ↔ b < a := by rw [Int64.lt_iff_toInt_lt, toL ha64, toL hb64]
        simp [e1, e2, e3, h1, h2, h3]
  rw [ee]
  refine k p l e s mi args below meth c D aC ad H locs la C E hP hD hS hm (bok_cons (v := aI _) ?_ (bok_tl (bok_tl hst))) hl
  show in32 (kcmp a b)
  unfold kcmp in32; split
  · omega
  · split <;> omega
theorem z_dup {v : bV} (hd : decode cc pc = .ok (.dup, 1)) (hc : ∀ ad, (bcv ad v).category = 1) (k : bZ sy own cc nL ret j (pc + 1) ls (v :: v :: st) m) : bZ sy own cc nL ret j (pc) ls (v :: st) m := by
  intro p l e s mi args below meth c D aC ad H locs la C E hP hD hS hm hst hl
  obtain ⟨hx, hb, hml, hown, hts, hr, hlk, hK, hG⟩ := id C
  exact lv_dup hx hb hd (hc ad) (k p l e s mi args below meth c D aC ad H locs la C E hP hD hS hm (bok_cons (bok_hd hst) hst) hl)
theorem z_dup2 {v w : bV} (hd : decode cc pc = .ok (.dup2, 1)) (hv : ∀ ad, (bcv ad v).category = 1) (hw : ∀ ad, (bcv ad w).category = 1) (k : bZ sy own cc nL ret j (pc + 1) ls (v :: w :: v :: w :: st) m) : bZ sy own cc nL ret j (pc) ls (v :: w :: st) m := by
  intro p l e s mi args below meth c D aC ad H locs la C E hP hD hS hm hst hl
  obtain ⟨hx, hb, hml, hown, hts, hr, hlk, hK, hG⟩ := id C
  exact lv_dup2_11 hx hb hd (hv ad) (hw ad) (k p l e s mi args below meth c D aC ad H locs la C E hP hD hS hm (bok_cons (bok_hd hst) (bok_cons (bok_hd (bok_tl hst)) hst)) hl)
theorem z_pop {v : bV} (hd : decode cc pc = .ok (.pop, 1)) (hc : ∀ ad, (bcv ad v).category = 1) (k : bZ sy own cc nL ret j (pc + 1) ls (st) m) : bZ sy own cc nL ret j (pc) ls (v :: st) m := by
  intro p l e s mi args below meth c D aC ad H locs la C E hP hD hS hm hst hl
  obtain ⟨hx, hb, hml, hown, hts, hr, hlk, hK, hG⟩ := id C
  exact lv_pop hx hb hd (hc ad) (k p l e s mi args below meth c D aC ad H locs la C E hP hD hS hm (bok_tl hst) hl)
theorem z_top {a b : Int} (h : a = b) (k : bZ sy own cc nL ret j (pc) ls (aI b :: st) m) : bZ sy own cc nL ret j (pc) ls (aI a :: st) m := h ▸ k
theorem z_topL {a b : Int} (h : a = b) (k : bZ sy own cc nL ret j (pc) ls (aL b :: st) m) : bZ sy own cc nL ret j (pc) ls (aL a :: st) m := h ▸ k
theorem z_goto {off : Int} {tgt : Nat} (hd : decode cc pc = .ok (.goto off, 3)) (ht : (pc : Int) + off = (tgt : Int)) (k : bZ sy own cc nL ret j (tgt) ls (st) m) : bZ sy own cc nL ret j (pc) ls (st) m := by
  intro p l e s mi args below meth c D aC ad H locs la C E hP hD hS hm hst hl
  obtain ⟨hx, hb, hml, hown, hts, hr, hlk, hK, hG⟩ := id C
  exact lv_goto hx hb hd ht (k p l e s mi args below meth c D aC ad H locs la C E hP hD hS hm hst hl)
theorem z_if_eq {a : Int} {off : Int} {tgt : Nat} (hd : decode cc pc = .ok (.ifCond .eq off, 3)) (ht : (pc : Int) + off = (tgt : Int)) (kt : a = 0 → bZ sy own cc nL ret j (tgt) ls (st) m) (kf : ¬ (a = 0) → bZ sy own cc nL ret j (pc + 3) ls (st) m) : bZ sy own cc nL ret j (pc) ls (aI a :: st) m := by
  intro p l e s mi args below meth c D aC ad H locs la C E hP hD hS hm hst hl
  obtain ⟨hx, hb, hml, hown, hts, hr, hlk, hK, hG⟩ := id C
  have ha : in32 a := bok_hd hst
  have h0 : in32 0 := (show in32 0 by unfold in32; omega)
  have e0 : (Int32.ofInt 0) = 0 := rfl
  have i1 := ofI_eq ha h0
  have i2 := ofI_lt ha h0
  have i3 := ofI_le h0 ha
  have i4 := ofI_lt h0 ha
  have i5 := ofI_le ha h0
  rw [e0] at i1 i2 i3 i4 i5
  refine lv_if_eq hx hb hd ht (fun q => (kt ?_) p l e s mi args below meth c D aC ad H locs la C E hP hD hS hm (bok_tl hst) hl) (fun q => (kf ?_) p l e s mi args below meth c D aC ad H locs la C E hP hD hS hm (bok_tl hst) hl)
  · simp only [← i1, ← i2, ← i3, ← i4, ← i5]; first | exact q | (simp at q ⊢; exact q)
  · simp only [← i1, ← i2, ← i3, ← i4, ← i5]; first | exact q | (simp at q ⊢; exact q)
theorem z_if_ne {a : Int} {off : Int} {tgt : Nat} (hd : decode cc pc = .ok (.ifCond .ne off, 3)) (ht : (pc : Int) + off = (tgt : Int)) (kt : ¬ a = 0 → bZ sy own cc nL ret j (tgt) ls (st) m) (kf : ¬ (¬ a = 0) → bZ sy own cc nL ret j (pc + 3) ls (st) m) : bZ sy own cc nL ret j (pc) ls (aI a :: st) m := by
  intro p l e s mi args below meth c D aC ad H locs la C E hP hD hS hm hst hl
  obtain ⟨hx, hb, hml, hown, hts, hr, hlk, hK, hG⟩ := id C
  have ha : in32 a := bok_hd hst
  have h0 : in32 0 := (show in32 0 by unfold in32; omega)
  have e0 : (Int32.ofInt 0) = 0 := rfl
  have i1 := ofI_eq ha h0
  have i2 := ofI_lt ha h0
  have i3 := ofI_le h0 ha
  have i4 := ofI_lt h0 ha
  have i5 := ofI_le ha h0
  rw [e0] at i1 i2 i3 i4 i5
  refine lv_if_ne hx hb hd ht (fun q => (kt ?_) p l e s mi args below meth c D aC ad H locs la C E hP hD hS hm (bok_tl hst) hl) (fun q => (kf ?_) p l e s mi args below meth c D aC ad H locs la C E hP hD hS hm (bok_tl hst) hl)
  · simp only [← i1, ← i2, ← i3, ← i4, ← i5]; first | exact q | (simp at q ⊢; exact q)
  · simp only [← i1, ← i2, ← i3, ← i4, ← i5]; first | exact q | (simp at q ⊢; exact q)
theorem z_if_lt {a : Int} {off : Int} {tgt : Nat} (hd : decode cc pc = .ok (.ifCond .lt off, 3)) (ht : (pc : Int) + off = (tgt : Int)) (kt : a < 0 → bZ sy own cc nL ret j (tgt) ls (st) m) (kf : ¬ (a < 0) → bZ sy own cc nL ret j (pc + 3) ls (st) m) : bZ sy own cc nL ret j (pc) ls (aI a :: st) m := by
  intro p l e s mi args below meth c D aC ad H locs la C E hP hD hS hm hst hl
  obtain ⟨hx, hb, hml, hown, hts, hr, hlk, hK, hG⟩ := id C
  have ha : in32 a := bok_hd hst
  have h0 : in32 0 := (show in32 0 by unfold in32; omega)
  have e0 : (Int32.ofInt 0) = 0 := rfl
  have i1 := ofI_eq ha h0
  have i2 := ofI_lt ha h0
  have i3 := ofI_le h0 ha
  have i4 := ofI_lt h0 ha
  have i5 := ofI_le ha h0
  rw [e0] at i1 i2 i3 i4 i5
  refine lv_if_lt hx hb hd ht (fun q => (kt ?_) p l e s mi args below meth c D aC ad H locs la C E hP hD hS hm (bok_tl hst) hl) (fun q => (kf ?_) p l e s mi args below meth c D aC ad H locs la C E hP hD hS hm (bok_tl hst) hl)
  · simp only [← i1, ← i2, ← i3, ← i4, ← i5]; first | exact q | (simp at q ⊢; exact q)
  · simp only [← i1, ← i2, ← i3, ← i4, ← i5]; first | exact q | (simp at q ⊢; exact q)
theorem z_if_ge {a : Int} {off : Int} {tgt : Nat} (hd : decode cc pc = .ok (.ifCond .ge off, 3)) (ht : (pc : Int) + off = (tgt : Int)) (kt : 0 ≤ a → bZ sy own cc nL ret j (tgt) ls (st) m) (kf : ¬ (0 ≤ a) → bZ sy own cc nL ret j (pc + 3) ls (st) m) : bZ sy own cc nL ret j (pc) ls (aI a :: st) m := by
  intro p l e s mi args below meth c D aC ad H locs la C E hP hD hS hm hst hl
  obtain ⟨hx, hb, hml, hown, hts, hr, hlk, hK, hG⟩ := id C
  have ha : in32 a := bok_hd hst
  have h0 : in32 0 := (show in32 0 by unfold in32; omega)
  have e0 : (Int32.ofInt 0) = 0 := rfl
  have i1 := ofI_eq ha h0
  have i2 := ofI_lt ha h0
  have i3 := ofI_le h0 ha
  have i4 := ofI_lt h0 ha
  have i5 := ofI_le ha h0
  rw [e0] at i1 i2 i3 i4 i5
  refine lv_if_ge hx hb hd ht (fun q => (kt ?_) p l e s mi args below meth c D aC ad H locs la C E hP hD hS hm (bok_tl hst) hl) (fun q => (kf ?_) p l e s mi args below meth c D aC ad H locs la C E hP hD hS hm (bok_tl hst) hl)
  · simp only [← i1, ← i2, ← i3, ← i4, ← i5]; first | exact q | (simp at q ⊢; exact q)
  · simp only [← i1, ← i2, ← i3, ← i4, ← i5]; first | exact q | (simp at q ⊢; exact q)
theorem z_if_gt {a : Int} {off : Int} {tgt : Nat} (hd : decode cc pc = .ok (.ifCond .gt off, 3)) (ht : (pc : Int) + off = (tgt : Int)) (kt : 0 < a → bZ sy own cc nL ret j (tgt) ls (st) m) (kf : ¬ (0 < a) → bZ sy own cc nL ret j (pc + 3) ls (st) m) : bZ sy own cc nL ret j (pc) ls (aI a :: st) m := by
  intro p l e s mi args below meth c D aC ad H locs la C E hP hD hS hm hst hl
  obtain ⟨hx, hb, hml, hown, hts, hr, hlk, hK, hG⟩ := id C
  have ha : in32 a := bok_hd hst
  have h0 : in32 0 := (show in32 0 by unfold in32; omega)
  have e0 : (Int32.ofInt 0) = 0 := rfl
  have i1 := ofI_eq ha h0
  have i2 := ofI_lt ha h0
  have i3 := ofI_le h0 ha
  have i4 := ofI_lt h0 ha
  have i5 := ofI_le ha h0
  rw [e0] at i1 i2 i3 i4 i5
  refine lv_if_gt hx hb hd ht (fun q => (kt ?_) p l e s mi args below meth c D aC ad H locs la C E hP hD hS hm (bok_tl hst) hl) (fun q => (kf ?_) p l e s mi args below meth c D aC ad H locs la C E hP hD hS hm (bok_tl hst) hl)
  · simp only [← i1, ← i2, ← i3, ← i4, ← i5]; first | exact q | (simp at q ⊢; exact q)
  · simp only [← i1, ← i2, ← i3, ← i4, ← i5]; first | exact q | (simp at q ⊢; exact q)
theorem z_if_le {a : Int} {off : Int} {tgt : Nat} (hd : decode cc pc = .ok (.ifCond .le off, 3)) (ht : (pc : Int) + off = (tgt : Int)) (kt : a ≤ 0 → bZ sy own cc nL ret j (tgt) ls (st) m) (kf : ¬ (a ≤ 0) → bZ sy own cc nL ret j (pc + 3) ls (st) m) : bZ sy own cc nL ret j (pc) ls (aI a :: st) m := by
  intro p l e s mi args below meth c D aC ad H locs la C E hP hD hS hm hst hl
  obtain ⟨hx, hb, hml, hown, hts, hr, hlk, hK, hG⟩ := id C
  have ha : in32 a := bok_hd hst
  have h0 : in32 0 := (show in32 0 by unfold in32; omega)
  have e0 : (Int32.ofInt 0) = 0 := rfl
  have i1 := ofI_eq ha h0
  have i2 := ofI_lt ha h0
  have i3 := ofI_le h0 ha
  have i4 := ofI_lt h0 ha
  have i5 := ofI_le ha h0
  rw [e0] at i1 i2 i3 i4 i5
  refine lv_if_le hx hb hd ht (fun q => (kt ?_) p l e s mi args below meth c D aC ad H locs la C E hP hD hS hm (bok_tl hst) hl) (fun q => (kf ?_) p l e s mi args below meth c D aC ad H locs la C E hP hD hS hm (bok_tl hst) hl)
  · simp only [← i1, ← i2, ← i3, ← i4, ← i5]; first | exact q | (simp at q ⊢; exact q)
  · simp only [← i1, ← i2, ← i3, ← i4, ← i5]; first | exact q | (simp at q ⊢; exact q)
theorem z_icmp_eq {a b : Int} {off : Int} {tgt : Nat} (hd : decode cc pc = .ok (.if_icmp .eq off, 3)) (ht : (pc : Int) + off = (tgt : Int)) (kt : a = b → bZ sy own cc nL ret j (tgt) ls (st) m) (kf : ¬ (a = b) → bZ sy own cc nL ret j (pc + 3) ls (st) m) : bZ sy own cc nL ret j (pc) ls (aI b :: aI a :: st) m := by
  intro p l e s mi args below meth c D aC ad H locs la C E hP hD hS hm hst hl
  obtain ⟨hx, hb, hml, hown, hts, hr, hlk, hK, hG⟩ := id C
  have h0 : in32 b := bok_hd hst
  have ha : in32 a := bok_hd (bok_tl hst)
  have i1 := ofI_eq ha h0
  have i2 := ofI_lt ha h0
  have i3 := ofI_le h0 ha
  have i4 := ofI_lt h0 ha
  have i5 := ofI_le ha h0
  refine lv_icmp_eq hx hb hd ht (fun q => (kt ?_) p l e s mi args below meth c D aC ad H locs la C E hP hD hS hm (bok_tl (bok_tl hst)) hl) (fun q => (kf ?_) p l e s mi args below meth c D aC ad H locs la C E hP hD hS hm (bok_tl (bok_tl hst)) hl)
  · simp only [← i1, ← i2, ← i3, ← i4, ← i5]; first | exact q | (simp at q ⊢; exact q)
  · simp only [← i1, ← i2, ← i3, ← i4, ← i5]; first | exact q | (simp at q ⊢; exact q)
theorem z_icmp_ne {a b : Int} {off : Int} {tgt : Nat} (hd : decode cc pc = .ok (.if_icmp .ne off, 3)) (ht : (pc : Int) + off = (tgt : Int)) (kt : ¬ a = b → bZ sy own cc nL ret j (tgt) ls (st) m) (kf : ¬ (¬ a = b) → bZ sy own cc nL ret j (pc + 3) ls (st) m) : bZ sy own cc nL ret j (pc) ls (aI b :: aI a :: st) m := by
  intro p l e s mi args below meth c D aC ad H locs la C E hP hD hS hm hst hl
  obtain ⟨hx, hb, hml, hown, hts, hr, hlk, hK, hG⟩ := id C
  have h0 : in32 b := bok_hd hst
  have ha : in32 a := bok_hd (bok_tl hst)
  have i1 := ofI_eq ha h0
  have i2 := ofI_lt ha h0
  have i3 := ofI_le h0 ha
  have i4 := ofI_lt h0 ha
  have i5 := ofI_le ha h0
  refine lv_icmp_ne hx hb hd ht (fun q => (kt ?_) p l e s mi args below meth c D aC ad H locs la C E hP hD hS hm (bok_tl (bok_tl hst)) hl) (fun q => (kf ?_) p l e s mi args below meth c D aC ad H locs la C E hP hD hS hm (bok_tl (bok_tl hst)) hl)
  · simp only [← i1, ← i2, ← i3, ← i4, ← i5]; first | exact q | (simp at q ⊢; exact q)
  · simp only [← i1, ← i2, ← i3, ← i4, ← i5]; first | exact q | (simp at q ⊢; exact q)
theorem z_icmp_lt {a b : Int} {off : Int} {tgt : Nat} (hd : decode cc pc = .ok (.if_icmp .lt off, 3)) (ht : (pc : Int) + off = (tgt : Int)) (kt : a < b → bZ sy own cc nL ret j (tgt) ls (st) m) (kf : ¬ (a < b) → bZ sy own cc nL ret j (pc + 3) ls (st) m) : bZ sy own cc nL ret j (pc) ls (aI b :: aI a :: st) m := by
  intro p l e s mi args below meth c D aC ad H locs la C E hP hD hS hm hst hl
  obtain ⟨hx, hb, hml, hown, hts, hr, hlk, hK, hG⟩ := id C
  have h0 : in32 b := bok_hd hst
  have ha : in32 a := bok_hd (bok_tl hst)
  have i1 := ofI_eq ha h0
  have i2 := ofI_lt ha h0
  have i3 := ofI_le h0 ha
  have i4 := ofI_lt h0 ha
  have i5 := ofI_le ha h0
  refine lv_icmp_lt hx hb hd ht (fun q => (kt ?_) p l e s mi args below meth c D aC ad H locs la C E hP hD hS hm (bok_tl (bok_tl hst)) hl) (fun q => (kf ?_) p l e s mi args below meth c D aC ad H locs la C E hP hD hS hm (bok_tl (bok_tl hst)) hl)
  · simp only [← i1, ← i2, ← i3, ← i4, ← i5]; first | exact q | (simp at q ⊢; exact q)
  · simp only [← i1, ← i2, ← i3, ← i4, ← i5]; first | exact q | (simp at q ⊢; exact q)
theorem z_icmp_ge {a b : Int} {off : Int} {tgt : Nat} (hd : decode cc pc = .ok (.if_icmp .ge off, 3)) (ht : (pc : Int) + off = (tgt : Int)) (kt : b ≤ a → bZ sy own cc nL ret j (tgt) ls (st) m) (kf : ¬ (b ≤ a) → bZ sy own cc nL ret j (pc + 3) ls (st) m) : bZ sy own cc nL ret j (pc) ls (aI b :: aI a :: st) m := by
  intro p l e s mi args below meth c D aC ad H locs la C E hP hD hS hm hst hl
  obtain ⟨hx, hb, hml, hown, hts, hr, hlk, hK, hG⟩ := id C
  have h0 : in32 b := bok_hd hst
  have ha : in32 a := bok_hd (bok_tl hst)
  have i1 := ofI_eq ha h0
  have i2 := ofI_lt ha h0
  have i3 := ofI_le h0 ha
  have i4 := ofI_lt h0 ha
  have i5 := ofI_le ha h0
  refine lv_icmp_ge hx hb hd ht (fun q => (kt ?_) p l e s mi args below meth c D aC ad H locs la C E hP hD hS hm (bok_tl (bok_tl hst)) hl) (fun q => (kf ?_) p l e s mi args below meth c D aC ad H locs la C E hP hD hS hm (bok_tl (bok_tl hst)) hl)
  · simp only [← i1, ← i2, ← i3, ← i4, ← i5]; first | exact q | (simp at q ⊢; exact q)
  · simp only [← i1, ← i2, ← i3, ← i4, ← i5]; first | exact q | (simp at q ⊢; exact q)
theorem z_icmp_gt {a b : Int} {off : Int} {tgt : Nat} (hd : decode cc pc = .ok (.if_icmp .gt off, 3)) (ht : (pc : Int) + off = (tgt : Int)) (kt : b < a → bZ sy own cc nL ret j (tgt) ls (st) m) (kf : ¬ (b < a) → bZ sy own cc nL ret j (pc + 3) ls (st) m) : bZ sy own cc nL ret j (pc) ls (aI b :: aI a :: st) m := by
  intro p l e s mi args below meth c D aC ad H locs la C E hP hD hS hm hst hl
  obtain ⟨hx, hb, hml, hown, hts, hr, hlk, hK, hG⟩ := id C
  have h0 : in32 b := bok_hd hst
  have ha : in32 a := bok_hd (bok_tl hst)
  have i1 := ofI_eq ha h0
  have i2 := ofI_lt ha h0
  have i3 := ofI_le h0 ha
  have i4 := ofI_lt h0 ha
  have i5 := ofI_le ha h0
  refine lv_icmp_gt hx hb hd ht (fun q => (kt ?_) p l e s mi args below meth c D aC ad H locs la C E hP hD hS hm (bok_tl (bok_tl hst)) hl) (fun q => (kf ?_) p l e s mi args below meth c D aC ad H locs la C E hP hD hS hm (bok_tl (bok_tl hst)) hl)
  · simp only [← i1, ← i2, ← i3, ← i4, ← i5]; first | exact q | (simp at q ⊢; exact q)
  · simp only [← i1, ← i2, ← i3, ← i4, ← i5]; first | exact q | (simp at q ⊢; exact q)
theorem z_icmp_le {a b : Int} {off : Int} {tgt : Nat} (hd : decode cc pc = .ok (.if_icmp .le off, 3)) (ht : (pc : Int) + off = (tgt : Int)) (kt : a ≤ b → bZ sy own cc nL ret j (tgt) ls (st) m) (kf : ¬ (a ≤ b) → bZ sy own cc nL ret j (pc + 3) ls (st) m) : bZ sy own cc nL ret j (pc) ls (aI b :: aI a :: st) m := by
  intro p l e s mi args below meth c D aC ad H locs la C E hP hD hS hm hst hl
  obtain ⟨hx, hb, hml, hown, hts, hr, hlk, hK, hG⟩ := id C
  have h0 : in32 b := bok_hd hst
  have ha : in32 a := bok_hd (bok_tl hst)
  have i1 := ofI_eq ha h0
  have i2 := ofI_lt ha h0
  have i3 := ofI_le h0 ha
  have i4 := ofI_lt h0 ha
  have i5 := ofI_le ha h0
  refine lv_icmp_le hx hb hd ht (fun q => (kt ?_) p l e s mi args below meth c D aC ad H locs la C E hP hD hS hm (bok_tl (bok_tl hst)) hl) (fun q => (kf ?_) p l e s mi args below meth c D aC ad H locs la C E hP hD hS hm (bok_tl (bok_tl hst)) hl)
  · simp only [← i1, ← i2, ← i3, ← i4, ← i5]; first | exact q | (simp at q ⊢; exact q)
  · simp only [← i1, ← i2, ← i3, ← i4, ← i5]; first | exact q | (simp at q ⊢; exact q)
theorem z_tableOut {a dflt lo hi : Int} {offs : Array Int} {len tgt : Nat} (hd : decode cc pc = .ok (.tableswitch dflt lo hi offs, len)) (h : a < lo ∨ hi < a) (ht : (pc : Int) + dflt = (tgt : Int)) (k : bZ sy own cc nL ret j (tgt) ls (st) m) : bZ sy own cc nL ret j (pc) ls (aI a :: st) m := by
  intro p l e s mi args below meth c D aC ad H locs la C E hP hD hS hm hst hl
  obtain ⟨hx, hb, hml, hown, hts, hr, hlk, hK, hG⟩ := id C
  have ha : in32 a := bok_hd hst
  exact lv_tableOut hx hb hd (by rw [toI ha]; exact h) ht (k p l e s mi args below meth c D aC ad H locs la C E hP hD hS hm (bok_tl hst) hl)
theorem z_tableIn {a dflt lo hi off : Int} {offs : Array Int} {len tgt : Nat} (n : Int) (hd : decode cc pc = .ok (.tableswitch dflt lo hi offs, len)) (h : a = n) (hb1 : lo ≤ n ∧ n ≤ hi) (ho : offs[(n - lo).toNat]? = some off) (ht : (pc : Int) + off = (tgt : Int)) (k : bZ sy own cc nL ret j (tgt) ls (st) m) : bZ sy own cc nL ret j (pc) ls (aI a :: st) m := by
  intro p l e s mi args below meth c D aC ad H locs la C E hP hD hS hm hst hl
  obtain ⟨hx, hb, hml, hown, hts, hr, hlk, hK, hG⟩ := id C
  have ha : in32 a := bok_hd hst
  subst h
  exact lv_tableIn hx hb hd (by rw [toI ha]; omega) (by rw [toI ha]; omega) (by rw [toI ha]; exact ho) ht (k p l e s mi args below meth c D aC ad H locs la C E hP hD hS hm (bok_tl hst) hl)
theorem z_lookup {a dflt off : Int} {ps : Array (Int × Int)} {len tgt : Nat} (hd : decode cc pc = .ok (.lookupswitch dflt ps, len)) (hp : (ps.toList.zip (ps.toList.drop 1)).all (fun (a, next) => a.1 < next.1) = true) (ho : Op.lookupswitch.offset ps.toList dflt a = off) (ht : (pc : Int) + off = (tgt : Int)) (k : bZ sy own cc nL ret j (tgt) ls (st) m) : bZ sy own cc nL ret j (pc) ls (aI a :: st) m := by
  intro p l e s mi args below meth c D aC ad H locs la C E hP hD hS hm hst hl
  obtain ⟨hx, hb, hml, hown, hts, hr, hlk, hK, hG⟩ := id C
  have ha : in32 a := bok_hd hst
  exact lv_lookup hx hb hd hp (by rw [toI ha]; exact ho) ht (k p l e s mi args below meth c D aC ad H locs la C E hP hD hS hm (bok_tl hst) hl)
end Rules
