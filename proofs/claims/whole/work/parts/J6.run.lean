/-! ===== a system that grows: new objects, calls, a whole run ===== -/
/-- a constructor: its own class, bytes, locals; the entry of Object.<init>; fields; classes made; constructors called (entry, which, how many arguments); entries of Arrays.fill; its cells and slots -/
abbrev gCI : Type := (String × ByteArray × Nat) × Nat × gFl × List (Nat × Nat) × List (Nat × Nat × Nat) × List Nat × (Nat × Nat)
abbrev gcl : Type := Nat → List bV → gS → gLg → Option (gS × gLg × (Nat × Nat))
/-- a class's number: its fields before anything is put, how many -/
abbrev gDF : Type := Nat → List (Option Nat) × Nat
def gNw (df : gDF) (own : String) (idx ci : Nat) : Prop := ∃ (q : vw_C) (ty : Nat → FieldType), bCI ci q ty ∧ Cond.classLink own idx q.1 ∈ bT ∧ Cond.instantiable q.1 q.2.2 ∈ bT ∧ Cond.initialized q.1 ∈ bT ∧ (∀ (ad : Nat → Nat) (b : Nat), b < q.2.2 → defaultValue (ty b) = vp_V (gfl ad (fun _ => 0) 0 (df ci).1) b) ∧ q.2.2 = (df ci).2
def gCw (nf : Nat → MethodName × ByteArray × Nat) (own : String) (idx f n : Nat) : Prop :=
  Cond.code (nf f).1 (nf f).2.1 (nf f).2.2 none ∈ bT ∧ Cond.initialized (nf f).1.cls ∈ bT ∧ (Cond.methodLink own idx (nf f).1 ∈ bT ∨ own = RX11 ∧ (idx, (nf f).1) ∈ gNL) ∧ Cond.instanceMethod (nf f).1 ∈ bT ∧ ((nf f).1.cls ≠ "java/lang/invoke/MethodHandle" ∧ (nf f).1.cls ≠ "java/lang/invoke/VarHandle" ∧ (parseMethodDescriptor (nf f).1.desc).map (fun d => d.parameters.length) = some n) ∧ (nf f).1.name = "<init>"
def gOw (own : String) (idx : Nat) : Prop := Cond.methodLink own idx objectInit ∈ bT ∧ Cond.instanceMethod objectInit ∈ bT ∧ Cond.code objectInit { data := #[177] } 1 none ∈ bT
def gFi (own : String) (idx : Nat) : Prop := Cond.code yJ7_fill_53178 cJ7_fill_53178 4 none ∈ bT ∧ Cond.initialized yJ7_fill_53178.cls ∈ bT ∧ Cond.methodLink own idx yJ7_fill_53178 ∈ bT ∧ Cond.static yJ7_fill_53178 ∈ bT
abbrev gRm (d : Nat) (k : Nat × Nat) : Room := { frames := d + 2, cells := k.1, slots := k.2, locals := 100 * (d + 1) }
section GR
variable {own : String} {cc : ByteArray} {nL : Nat} {rt : Option FieldType × Bool} {j : gJ} {pc : Nat} {ls : bLs} {st : List bV} {sy : gS} {lg : gLg} {k : Nat × Nat} {pc' : Nat} {st' : List bV} {sy' : gS} {lg' : gLg} {k' : Nat × Nat}
def s_new (df : gDF) (ns : List (Nat × Nat)) (K : Nat × Nat) (idx pc : Nat) (st : List bV) (sy : gS) (lg : gLg) (k : Nat × Nat) : Option gSt := (ns.find? (fun x => x.1 == idx)).bind fun x => if sy.length < 204 ∧ k.1 + 1 ≤ K.1 ∧ k.2 + (df x.2).2 ≤ K.2 then some (pc + 3, aR sy.length :: st, sy ++ [(0, x.2, (df x.2).1)], lg, (k.1 + 1, k.2 + (df x.2).2)) else none
theorem s_new_ok {df : gDF} {ns : List (Nat × Nat)} {K : Nat × Nat} {idx : Nat} (hw : ∀ x ∈ ns, gNw df own x.1 x.2) (hj : j.1.cells = K.1 ∧ j.1.slots = K.2) (hd : decode cc pc = .ok (.new idx, 3)) (h : s_new df ns K idx pc st sy lg k = some (pc', st', sy', lg', k')) (kk : gZ own cc nL rt j pc' ls st' sy' (wrs lg' g0) k') : gZ own cc nL rt j pc ls st sy (wrs lg g0) k := by
  obtain ⟨x, h1, h2⟩ := bb_of h
  obtain ⟨⟨a1, a2, a3⟩, h3⟩ := gd_of h2
  cases h3
  have g1 := List.mem_of_find?_eq_some h1
  have g2 : x.1 = idx := by simpa using List.find?_some h1
  obtain ⟨q, ty, c1, c2, c3, c4, c5, c6⟩ := hw x g1
  subst g2
  rw [← c6] at kk a3
  exact gz_new c1 c2 c3 c4 c5 a1 (by omega) (by omega) hd kk
/-- the arguments on a stack, the object under them -/
def s_arg (n : Nat) (st : List bV) : Option (List bV × Nat × List bV) := match st.drop n with
  | .inr (.inr z) :: r => if n ≤ st.length then some ((st.take n).reverse, z, r) else none
  | _ => none
theorem s_arg_of {n z : Nat} {st av r : List bV} (h : s_arg n st = some (av, z, r)) : st = av.reverse ++ aR z :: r ∧ av.length = n := by
  unfold s_arg at h
  split at h
  · rename_i z' r' hd
    obtain ⟨h1, h2⟩ := gd_of h
    cases h2
    rw [List.reverse_reverse, ← hd, List.take_append_drop]
    exact ⟨rfl, by rw [List.length_reverse, List.length_take]; omega⟩
  · cases h
def s_spc (cal : gcl) (ob : Nat) (cs : List (Nat × Nat × Nat)) (K : Nat × Nat) (idx pc : Nat) (st : List bV) (sy : gS) (lg : gLg) (k : Nat × Nat) : Option gSt := if idx = ob then (match st with
    | .inr (.inr _) :: r => if bcs r ≤ 8 then some (pc + 3, r, sy, lg, k) else none
    | _ => none)
  else (cs.find? (fun x => x.1 == idx)).bind fun x => (s_arg x.2.2 st).bind fun a => (cal x.2.1 (aR a.2.1 :: a.1) sy lg).bind fun r => if bcs a.2.2 ≤ 8 ∧ k.1 + r.2.2.1 ≤ K.1 ∧ k.2 + r.2.2.2 ≤ K.2 then some (pc + 3, a.2.2, r.1, r.2.1, (k.1 + r.2.2.1, k.2 + r.2.2.2)) else none
/-- what is wanted of the calls, to a depth -/
def gcOk (nf : Nat → MethodName × ByteArray × Nat) (d : Nat) (cal : gcl) : Prop := ∀ f av sy lg r, cal f av sy lg = some r → ∃ d', d' + 1 ≤ d ∧ (nf f).2.2 ≤ 30 ∧ gCal (nf f).1 (nf f).2.1 (nf f).2.2 (gRm d' r.2.2) av sy (wrs lg g0) r.1 (wrs r.2.1 g0) r.2.2 ∧ r.1.length = sy.length + r.2.2.1 ∧ r.1.length ≤ 204 ∧ ∀ i n, r.1.length ≤ i → wrs r.2.1 g0 i n = 0
theorem s_spc_ok {nf : Nat → MethodName × ByteArray × Nat} {d : Nat} {cal : gcl} {ob : Nat} {cs : List (Nat × Nat × Nat)} {K : Nat × Nat} {idx : Nat} (ho : gOw own ob) (hw : ∀ x ∈ cs, gCw nf own x.1 x.2.1 x.2.2) (hcal : gcOk nf d cal) (hj : j.1.cells = K.1 ∧ j.1.slots = K.2) (hR : d + 2 ≤ j.1.frames ∧ 100 * (d + 1) ≤ j.1.locals) (hd : decode cc pc = .ok (.invokespecial idx, 3)) (h : s_spc cal ob cs K idx pc st sy lg k = some (pc', st', sy', lg', k')) (kk : gZ own cc nL rt j pc' ls st' sy' (wrs lg' g0) k') : gZ own cc nL rt j pc ls st sy (wrs lg g0) k := by
  unfold s_spc at h
  split at h
  · rename_i he
    subst he
    split at h
    · obtain ⟨h1, h2⟩ := gd_of h
      cases h2
      exact gz_obj ho.1 ho.2.1 ho.2.2 ⟨by omega, by omega⟩ h1 hd kk
    · cases h
  · obtain ⟨x, h1, h2⟩ := bb_of h
    obtain ⟨⟨av, z, r⟩, h3, h4⟩ := bb_of h2
    obtain ⟨⟨sy2, lg2, k2⟩, h5, h6⟩ := bb_of h4
    obtain ⟨⟨a1, a2, a3⟩, h7⟩ := gd_of h6
    cases h7
    have g1 := List.mem_of_find?_eq_some h1
    have g2 : x.1 = idx := by simpa using List.find?_some h1
    obtain ⟨c1, c2, c3, c4, c5, c6⟩ := hw x g1
    obtain ⟨e1, e2⟩ := s_arg_of h3
    obtain ⟨d', b1, b2, b3, b4, b5, b6⟩ := hcal _ _ _ _ _ h5
    subst e1 g2
    rw [← e2] at c5
    have r1 : (gRm d' k2).frames + 1 ≤ j.1.frames ∧ 8 + ((nf x.2.1).2.2 + 11) + (gRm d' k2).locals ≤ j.1.locals := ⟨by show d' + 2 + 1 ≤ _; omega, by show 8 + (_ + 11) + 100 * (d' + 1) ≤ _; omega⟩
    have a2' : k.1 + k2.1 ≤ K.1 := a2
    have a3' : k.2 + k2.2 ≤ K.2 := a3
    have r2 : k.1 + k2.1 ≤ j.1.cells ∧ k.2 + k2.2 ≤ j.1.slots := ⟨by omega, by omega⟩
    rcases c3 with c3 | ⟨c3, c7⟩
    · exact gz_callI b3 c1 c2 c3 c4 c5 c6 ⟨rfl, rfl⟩ r1 r2 b4 b5 b6 a1 hd kk
    · exact gz_callN b3 c1 c2 c3 c7 c4 c5 c6 ⟨rfl, rfl⟩ r1 r2 b4 b5 b6 a1 hd kk
def s_fil (fi : List Nat) (idx pc : Nat) (st : List bV) (sy : gS) (lg : gLg) (k : Nat × Nat) : Option gSt := match st with
  | .inl v :: .inr (.inr i) :: r => (match sy[i]? with
    | some (1, n, []) => if fi.contains idx = true ∧ -32768 ≤ v ∧ v ≤ 32767 ∧ n < 100000 ∧ bcs r ≤ 8 ∧ sy.length ≤ 204 ∧ lg.all (fun q => decide (q.1 < sy.length)) = true then some (pc + 3, r, sy, lg ++ (List.range n).map (fun q => (i, q, v)), k) else none
    | _ => none)
  | _ => none
theorem in32_16 {v : Int} (h1 : -32768 ≤ v) (h2 : v ≤ 32767) : in32 v := by unfold in32; omega
theorem fill_hy : yJ7_fill_53178.cls ≠ "java/lang/invoke/MethodHandle" ∧ yJ7_fill_53178.cls ≠ "java/lang/invoke/VarHandle" ∧ (parseMethodDescriptor yJ7_fill_53178.desc).map (fun d => d.parameters.length) = some 2 := ⟨by decide, by decide, by decide +kernel⟩
theorem gfill_far {m : bM} {i n N : Nat} {v : Int} (hi : i < N) (hm : ∀ a b, N ≤ a → m a b = 0) : ∀ a b, N ≤ a → gfill m i n v a b = 0 := by
  intro a b h
  unfold gfill
  rw [if_neg (by omega)]
  exact hm a b h
theorem s_fil_ok {d : Nat} {fi : List Nat} {idx : Nat} (hw : ∀ x ∈ fi, gFi own x) (hk : k.1 ≤ j.1.cells ∧ k.2 ≤ j.1.slots) (hR : d + 2 ≤ j.1.frames ∧ 100 * (d + 1) ≤ j.1.locals) (hd : decode cc pc = .ok (.invokestatic idx, 3)) (h : s_fil fi idx pc st sy lg k = some (pc', st', sy', lg', k')) (kk : gZ own cc nL rt j pc' ls st' sy' (wrs lg' g0) k') : gZ own cc nL rt j pc ls st sy (wrs lg g0) k := by
  unfold s_fil at h
  split at h
  · split at h
    · rename_i hsy
      obtain ⟨⟨a1, a2, a3, a4, a5, a6, a7⟩, h2⟩ := gd_of h
      cases h2
      rw [wrs_fill] at kk
      have hi := (List.getElem?_eq_some_iff.mp hsy).1
      obtain ⟨w1, w2, w3, w4⟩ := hw idx (by simpa using a1)
      have hfar := wrs_far sy.length lg g0 a7 (fun _ _ _ => rfl)
      have hv32 := in32_16 a2 a3
      exact gz_callS (k2 := (0, 0)) (av := [aR _, aI _]) (fill_cal hsy a4 hv32 a6 hfar) w1 w2 w3 w4 fill_hy ⟨rfl, rfl⟩ ⟨by show 1 + 1 ≤ _; omega, by show 8 + (4 + 11) + 40 ≤ _; omega⟩ ⟨by show k.1 + 0 ≤ _; omega, by show k.2 + 0 ≤ _; omega⟩ rfl a6 (gfill_far hi hfar) a5 hd kk
    · cases h
  · cases h
end GR
