/-! ===== a system that grows: its cells in the order in which they are made ===== -/
abbrev gE : Type := Nat × Nat × List (Option Nat)
abbrev gS : Type := List gE
def gfv (ad : Nat → Nat) (f : Nat → Int) (k : Nat) (w : Option Nat) : Value := match w with
  | none => .null
  | some w => bfv ad f k w
def gfl (ad : Nat → Nat) (f : Nat → Int) : Nat → List (Option Nat) → List Value
  | _, [] => []
  | k, w :: r => gfv ad f k w :: gfl ad f (k + 1) r
def gcell (aC : Nat → ClassId) (ad : Nat → Nat) (en : gE) (f : Nat → Int) : va_E := match en.1 with
  | 0 => .inr (en.2.1, gfl ad f 0 en.2.2)
  | n + 1 => bcell aC ad (n + 1, en.2.1, []) f
def gwl (aC : Nat → ClassId) (ad : Nat → Nat) (m : bM) : Nat → gS → va_W
  | _, [] => []
  | k, en :: r => (ad k, gcell aC ad en (m k)) :: gwl aC ad m (k + 1) r
def gW (sy : gS) (aC : Nat → ClassId) (ad : Nat → Nat) (m : bM) : va_W := gwl aC ad m 0 sy
theorem gfl_get (ad : Nat → Nat) (f : Nat → Int) : ∀ (fl : List (Option Nat)) (k0 k : Nat), (gfl ad f k0 fl)[k]? = (fl[k]?).map (gfv ad f (k0 + k))
  | [], _, _ => rfl
  | w :: r, k0, 0 => rfl
  | w :: r, k0, k + 1 => by
    show (gfl ad f (k0 + 1) r)[k]? = (r[k]?).map _
    rw [gfl_get ad f r (k0 + 1) k, show k0 + 1 + k = k0 + (k + 1) by omega]
theorem gfl_len (ad : Nat → Nat) (f : Nat → Int) : ∀ (fl : List (Option Nat)) (k0 : Nat), (gfl ad f k0 fl).length = fl.length
  | [], _ => rfl
  | _ :: r, k0 => congrArg (· + 1) (gfl_len ad f r (k0 + 1))
theorem gwl_get (aC : Nat → ClassId) (ad : Nat → Nat) (m : bM) : ∀ (sy : gS) (k0 k : Nat), (gwl aC ad m k0 sy)[k]? = (sy[k]?).map (fun en => (ad (k0 + k), gcell aC ad en (m (k0 + k))))
  | [], _, _ => rfl
  | en :: r, k0, 0 => rfl
  | en :: r, k0, k + 1 => by
    show (gwl aC ad m (k0 + 1) r)[k]? = (r[k]?).map _
    rw [gwl_get aC ad m r (k0 + 1) k, show k0 + 1 + k = k0 + (k + 1) by omega]
theorem gW_all (sy : gS) (aC : Nat → ClassId) (ad : Nat → Nat) (m : bM) (k : Nat) : (gW sy aC ad m)[k]? = (sy[k]?).map (fun en => (ad k, gcell aC ad en (m k))) := by
  unfold gW
  rw [gwl_get, Nat.zero_add]
theorem gW_get {sy : gS} {aC : Nat → ClassId} {ad : Nat → Nat} {m : bM} {i : Nat} {en : gE} (h : sy[i]? = some en) : (gW sy aC ad m)[i]? = some (ad i, gcell aC ad en (m i)) := by rw [gW_all, h]; rfl
theorem gW_len (sy : gS) (aC : Nat → ClassId) (ad : Nat → Nat) (m : bM) : (gW sy aC ad m).length = sy.length := by
  have key : ∀ (sy : gS) (k : Nat), (gwl aC ad m k sy).length = sy.length := by
    intro sy
    induction sy with
    | nil => intro k; rfl
    | cons en r ih => intro k; exact congrArg (· + 1) (ih (k + 1))
  exact key sy 0
theorem gW_set {sy : gS} {aC : Nat → ClassId} {ad : Nat → Nat} {m : bM} {i : Nat} (h : i < sy.length) (en : gE) (f : Nat → Int) : (gW sy aC ad m).set i (ad i, gcell aC ad en f) = gW (sy.set i en) aC ad (bup m i f) := by
  apply List.ext_getElem?
  intro k
  rw [gW_all]
  by_cases hk : i = k
  · subst hk
    rw [List.getElem?_set_self (by rw [gW_len]; exact h), List.getElem?_set_self h]
    simp [bup]
  · rw [List.getElem?_set_ne hk, List.getElem?_set_ne hk, gW_all]
    simp [bup, Ne.symm hk]
theorem gW_app (sy : gS) (aC : Nat → ClassId) (ad : Nat → Nat) (m : bM) (en : gE) : gW (sy ++ [en]) aC ad m = gW sy aC ad m ++ [(ad sy.length, gcell aC ad en (m sy.length))] := by
  apply List.ext_getElem?
  intro k
  rw [gW_all]
  by_cases hk : k < sy.length
  · rw [List.getElem?_append_left hk, List.getElem?_append_left (by rw [gW_len]; exact hk), gW_all]
  · rw [List.getElem?_append_right (by omega), List.getElem?_append_right (by rw [gW_len]; omega), gW_len]
    by_cases hk2 : k = sy.length
    · subst hk2
      rw [Nat.sub_self]; rfl
    · rw [List.getElem?_eq_none (by show 1 ≤ _; omega), List.getElem?_eq_none (by show 1 ≤ _; omega)]; rfl
/-- the whole of it is a system as it was meant -/
def gof (en : bE) : gE := (en.1, en.2.1, en.2.2.map some)
theorem gfl_some (ad : Nat → Nat) (f : Nat → Int) : ∀ (fl : List Nat) (k : Nat), gfl ad f k (fl.map some) = bfl ad f k fl
  | [], _ => rfl
  | w :: r, k => congrArg (bfv ad f k w :: ·) (gfl_some ad f r (k + 1))
theorem gcell_of (aC : Nat → ClassId) (ad : Nat → Nat) (en : bE) (f : Nat → Int) : gcell aC ad (gof en) f = bcell aC ad en f := by
  obtain ⟨kd, n, fl⟩ := en
  match kd with
  | 0 =>
    show (Sum.inr (n, gfl ad f 0 (fl.map some)) : va_E) = .inr (n, bfl ad f 0 fl)
    rw [gfl_some]
  | 1 => rfl
  | 2 => rfl
  | 3 => rfl
  | k + 4 => rfl
theorem gW_of (sy : bS) (aC : Nat → ClassId) (ad : Nat → Nat) (m : bM) : gW (sy.map gof) aC ad m = bW sy aC ad m := by
  apply List.ext_getElem?
  intro k
  unfold bW
  rw [gW_all, bwl_get, Nat.zero_add, List.getElem?_map]
  cases sy[k]? with
  | none => rfl
  | some en =>
    show some (ad k, gcell aC ad (gof en) (m k)) = some (ad k, bcell aC ad en (m k))
    rw [gcell_of]
/-- the writes that made a memory -/
def wrs (log : List (Nat × Nat × Int)) (m : bM) : bM := log.foldl (fun m q => bwr m q.1 q.2.1 q.2.2) m
theorem wrs_app (log l2 : List (Nat × Nat × Int)) (m : bM) : wrs (log ++ l2) m = wrs l2 (wrs log m) := List.foldl_append
theorem gW_D {sy : gS} {aC : Nat → ClassId} {ad : Nat → Nat} {m : bM} {base : Nat} (had : ∀ i, i < 204 → ad i = base + i) (hl : sy.length ≤ 204) : va_D (fun q => base ≤ q) (gW sy aC ad m) := by
  have key : ∀ (k : Nat) (q : Nat × va_E), (gW sy aC ad m)[k]? = some q → q.1 = base + k := by
    intro k q hk
    have hlt : k < sy.length := by
      have := (List.getElem?_eq_some_iff.mp hk).1
      rwa [gW_len] at this
    rw [gW_all, List.getElem?_eq_getElem hlt] at hk
    cases hk
    exact had k (by omega)
  refine ⟨fun i j p q hi hj h => ?_, fun k q hk => ?_⟩
  · rw [key i p hi, key j q hj] at h
    omega
  · show base ≤ q.1
    rw [key k q hk]; omega
/-- what a walk stands on: the class's own bytes, the tables, the classes, the nest's links -/
abbrev gNL : List (Nat × MethodName) := [(21, ⟨RX8, "<init>", "()V"⟩), (31, ⟨RX2, "<init>", "()V"⟩), (41, ⟨RX0, "<init>", "()V"⟩), (51, ⟨RX1, "<init>", "()V"⟩)]
def gC (own : String) (cc : ByteArray) (nL : Nat) (rt : Option FieldType × Bool) (p : Program) (s : State) (mi : MethodId) (args : Array Value) (meth : Method) (c : Code) (D : va_G) (aC : Nat → ClassId) : Prop :=
  p.tables.exec = Jvm.exec ∧ c.code = cc ∧ c.maxLocals = nL ∧ s.vm.findClass own = some mi.cls ∧ (∀ w ∈ bT, w.before args s = true) ∧ meth.sig.returnType = rt.1 ∧ meth.locks = false ∧ va_K D bCL (btys aC) s ∧ (rt.2 = true → meth.name = "<init>") ∧ ∀ q ∈ gNL, va_Nw (.methodLinkNest RX11 q.1 q.2 RX11) s
abbrev gJ : Type := Room × (List Frame → Array Value → State → va_G → (Nat → ClassId) → (Nat → Nat) → Nat → State → Prop)
def gZ (own : String) (cc : ByteArray) (nL : Nat) (rt : Option FieldType × Bool) (j : gJ) (pc : Nat) (ls : bLs) (st : List bV) (sy : gS) (m : bM) (k : Nat × Nat) : Prop :=
  ∀ (p : Program) (l : Launch) (e : Env) (s : State) (mi : MethodId) (args : Array Value) (below : List Frame) (meth : Method) (c : Code) (D : va_G) (aC : Nat → ClassId) (ad : Nat → Nat) (base : Nat) (H : Heap) (locs : List Loc) (la : Array Slot),
    gC own cc nL rt p s mi args meth c D aC → (∀ i, i < 204 → ad i = base + i) → sy.length ≤ 204 → va_P D bCL (gW sy aC ad m) H → s.heap.size + k.1 = base + sy.length → base ≤ s.heap.size → va_S (fun q => base ≤ q) s.heap H locs → (∀ i n, sy.length ≤ i → m i n = 0) → (∀ v ∈ st, bok v) → blv nL ad la ls →
    W p l e j.1 s mi args below meth c H locs k.1 k.2 (j.2 below args s D aC ad base) (F0 mi pc la (st.map (bcv ad)))
section Grow
variable {own : String} {cc : ByteArray} {nL : Nat} {rt : Option FieldType × Bool} {j : gJ} {pc : Nat} {ls : bLs} {st : List bV} {sy : gS} {m : bM} {k : Nat × Nat}
theorem gz_iconst {n : Int} (hd : decode cc pc = .ok (.iconst n, 1)) (hn : in32 n) (kk : gZ own cc nL rt j (pc + 1) ls (aI n :: st) sy m k) : gZ own cc nL rt j pc ls st sy m k := by
  intro p l e s mi args below meth c D aC ad base H locs la C had hl P hz hb hS hm hst hv
  exact lv_iconst C.1 C.2.1 hd rfl (kk p l e s mi args below meth c D aC ad base H locs la C had hl P hz hb hS hm (bok_cons hn hst) hv)
theorem gz_bipush {n : Int} (hd : decode cc pc = .ok (.bipush n, 2)) (hn : -128 ≤ n ∧ n ≤ 127) (kk : gZ own cc nL rt j (pc + 2) ls (aI n :: st) sy m k) : gZ own cc nL rt j pc ls st sy m k := by
  intro p l e s mi args below meth c D aC ad base H locs la C had hl P hz hb hS hm hst hv
  have h32 : in32 n := by unfold in32; omega
  refine lv_bipush C.1 C.2.1 hd ?_ (kk p l e s mi args below meth c D aC ad base H locs la C had hl P hz hb hS hm (bok_cons h32 hst) hv)
  apply Int32.toInt_inj.mp
  rw [toI h32, Int8.toInt_toInt32, Int8.toInt_ofInt]
  show Int.bmod n 256 = n
  unfold Int.bmod; dsimp only; split <;> omega
theorem gz_sipush {n : Int} (hd : decode cc pc = .ok (.sipush n, 3)) (hn : -32768 ≤ n ∧ n ≤ 32767) (kk : gZ own cc nL rt j (pc + 3) ls (aI n :: st) sy m k) : gZ own cc nL rt j pc ls st sy m k := by
  intro p l e s mi args below meth c D aC ad base H locs la C had hl P hz hb hS hm hst hv
  have h32 : in32 n := by unfold in32; omega
  refine lv_sipush C.1 C.2.1 hd ?_ (kk p l e s mi args below meth c D aC ad base H locs la C had hl P hz hb hS hm (bok_cons h32 hst) hv)
  apply Int32.toInt_inj.mp
  rw [toI h32, Int16.toInt_toInt32, Int16.toInt_ofInt]
  show Int.bmod n 65536 = n
  unfold Int.bmod; dsimp only; split <;> omega
theorem gz_aload_n {i : Fin 4} {z : Nat} (hd : decode cc pc = .ok (.aload_n i, 1)) (h : ls[(i : Nat)]? = some (some (aR z))) (kk : gZ own cc nL rt j (pc + 1) ls (aR z :: st) sy m k) : gZ own cc nL rt j pc ls st sy m k := by
  intro p l e s mi args below meth c D aC ad base H locs la C had hl P hz hb hS hm hst hv
  have h1 := hv.2.2 _ _ h
  exact lv_aload_n C.1 C.2.1 hd rfl h1.1 (kk p l e s mi args below meth c D aC ad base H locs la C had hl P hz hb hS hm (bok_cons h1.2 hst) hv)
theorem gz_aload {i : Nat} {z : Nat} (hd : decode cc pc = .ok (.aload i, 2)) (h : ls[i]? = some (some (aR z))) (kk : gZ own cc nL rt j (pc + 2) ls (aR z :: st) sy m k) : gZ own cc nL rt j pc ls st sy m k := by
  intro p l e s mi args below meth c D aC ad base H locs la C had hl P hz hb hS hm hst hv
  have h1 := hv.2.2 _ _ h
  exact lv_aload C.1 C.2.1 hd h1.1 (kk p l e s mi args below meth c D aC ad base H locs la C had hl P hz hb hS hm (bok_cons h1.2 hst) hv)
theorem gz_dup {z : Nat} (hd : decode cc pc = .ok (.dup, 1)) (kk : gZ own cc nL rt j (pc + 1) ls (aR z :: aR z :: st) sy m k) : gZ own cc nL rt j pc ls (aR z :: st) sy m k := by
  intro p l e s mi args below meth c D aC ad base H locs la C had hl P hz hb hS hm hst hv
  exact lv_dup C.1 C.2.1 hd rfl (kk p l e s mi args below meth c D aC ad base H locs la C had hl P hz hb hS hm (bok_cons trivial hst) hv)
theorem gW_size {D : va_G} {aC : Nat → ClassId} {ad : Nat → Nat} {base : Nat} {H : Heap} (had : ∀ i, i < 204 → ad i = base + i) (hl : sy.length ≤ 204) (P : va_P D bCL (gW sy aC ad m) H) (hb : base ≤ H.size) : base + sy.length ≤ H.size := by
  by_cases h0 : sy.length = 0
  · omega
  · have hlt : sy.length - 1 < sy.length := by omega
    have h1 := (P (sy.length - 1) _ (gW_get (List.getElem?_eq_getElem hlt))).lt
    have h2 : ad (sy.length - 1) < H.size := h1
    rw [had _ (by omega)] at h2
    omega
theorem W_size {p : Program} {l : Launch} {e : Env} {R : Room} {s : State} {mi : MethodId} {args : Array Value} {below : List Frame} {meth : Method} {c : Code} {H : Heap} {locs : List Loc} {cells slots : Nat} {Q : State → Prop} {g : JFrame} (kk : H.size ≤ s.heap.size + cells → W p l e R s mi args below meth c H locs cells slots Q g) : W p l e R s mi args below meth c H locs cells slots Q g := by
  intro T hT X
  have h1 : T.heap.size ≤ s.heap.size + cells := X.same.2.2.1
  exact kk (by rw [← hT]; exact h1) T hT X
theorem gz_iast {i n : Nat} {z v : Int} (hsy : sy[i]? = some (1, n, [])) (hin : 0 ≤ z ∧ z < n) (hd : decode cc pc = .ok (.iastore, 1)) (kk : gZ own cc nL rt j (pc + 1) ls st sy (bwr m i z.toNat v) k) : gZ own cc nL rt j pc ls (aI v :: aI z :: aR i :: st) sy m k := by
  intro p l e s mi args below meth c D aC ad base H locs la C had hl P hz hb hS hm hst hv
  obtain ⟨hx, hbb, hml, hown, hts, hr, hlk, hK, hnm, hN⟩ := id C
  have hv32 : in32 v := bok_hd hst
  have hz32 : in32 z := bok_hd (bok_tl hst)
  have hlt : i < sy.length := (List.getElem?_eq_some_iff.mp hsy).1
  refine va_iast (a := ad i) (n := n) (f := fun q => Int32.ofInt (m i q)) hx hbb hK P (gW_D had hl) hS i 0 (gW_get hsy) rfl (inI hz32 hin) hd (fun H1 locs1 hP1 hD1 hS1 => ?_)
  refine kk p l e s mi args below meth c D aC ad base H1 locs1 la C had hl ?_ hz hb hS1 (fun a b hab => ?_) (bok_tl (bok_tl (bok_tl hst))) hv
  · rw [toNatI hz32, bup_upd] at hP1
    have e1 := gW_set (aC := aC) (ad := ad) (m := m) hlt (1, n, []) (fun b => if b = z.toNat then v else m i b)
    have e2 : sy.set i (1, n, []) = sy := by
      apply List.ext_getElem?
      intro q
      by_cases hq : i = q
      · subst hq; rw [List.getElem?_set_self hlt, hsy]
      · rw [List.getElem?_set_ne hq]
    rw [bwr_eq]
    rw [e2] at e1
    rw [← e1]
    exact hP1
  · rw [bwr_eq]
    unfold bup
    rw [if_neg (by omega)]
    exact hm a b hab
theorem gz_obj {z idx : Nat} (hw : Cond.methodLink own idx objectInit ∈ bT) (hi : Cond.instanceMethod objectInit ∈ bT) (hc : Cond.code objectInit { data := #[177] } 1 none ∈ bT) (hR : 1 ≤ j.1.frames ∧ 40 ≤ j.1.locals) (hst8 : bcs st ≤ 8) (hd : decode cc pc = .ok (.invokespecial idx, 3)) (kk : gZ own cc nL rt j (pc + 3) ls st sy m k) : gZ own cc nL rt j pc ls (aR z :: st) sy m k := by
  intro p l e s mi args below meth c D aC ad base H locs la C had hl P hz hb hS hm hst hv
  obtain ⟨hx, hbb, hml, hown, hts, hr, hlk, hK, hnm, hN⟩ := id C
  refine W.objInit hx hbb hown (hts _ hw) (hts _ hi) (hts _ hc) rfl (by rw [hml]; exact hv.1) rfl hd hR.1 ?_ ?_
  · show 2 * 0 + _ + 12 ≤ _
    rw [bcs_cat]
    have := hR.2
    omega
  · exact kk p l e s mi args below meth c D aC ad base H locs la C had hl P hz hb hS hm (bok_tl hst) hv
theorem gz_newi {n : Nat} (hn : n < 100000) (hl2 : sy.length < 204) (hk1 : k.1 + 1 ≤ j.1.cells) (hk2 : k.2 + n ≤ j.1.slots) (hw : Cond.arrayClass .int ∈ bT) (hd : decode cc pc = .ok (.newarray .int, 2)) (kk : gZ own cc nL rt j (pc + 2) ls (aR sy.length :: st) (sy ++ [(1, n, [])]) m (k.1 + 1, k.2 + n)) : gZ own cc nL rt j pc ls (aI (n : Int) :: st) sy m k := by
  intro p l e s mi args below meth c D aC ad base H locs la C had hl P hz hb hS hm hst hv
  obtain ⟨hx, hbb, hml, hown, hts, hr, hlk, hK, hnm, hN⟩ := id C
  have h32 : in32 (n : Int) := by unfold in32; omega
  refine W_size (fun hsz => ?_)
  have hsz2 := gW_size had hl P (Nat.le_trans hb hS.1)
  have hH : H.size = ad sy.length := by rw [had _ hl2]; omega
  refine va_newaK (atype := .int) hx hbb (hts _ hw) rfl hd rfl (n := Int32.ofInt (n : Int)) (N := n) ?_ (by rw [toNatI h32]; rfl) ?_ hk1 hk2 hH (fun H1 cA e1 z1 o1 hAr hNm => ?_)
  · rw [Int32.lt_iff_toInt_lt, toI h32]
    show ¬ (n : Int) < 0
    omega
  · show n * 4 ≤ 536870912
    omega
  · have hcA : cA = aC 0 := Option.some.inj (hNm.symm.trans (hK.2 0 _ rfl).2)
    subst hcA
    have hlt2 : ∀ q, q < H.size → H1[q]? = H[q]? := fun q hq => o1 q (by omega)
    refine kk p l e s mi args below meth c D aC ad base H1 locs la C had (by rw [List.length_append]; show sy.length + 1 ≤ 204; omega) ?_ ?_ hb ⟨Nat.le_trans hS.1 (by omega), fun q h1 h2 => (hlt2 q (Nat.lt_of_lt_of_le h1 hS.1)).trans (hS.2.1 q h1 h2), hS.2.2⟩ (fun a b hab => hm a b (by rw [List.length_append] at hab; omega)) (bok_cons trivial (bok_tl hst)) hv
    · rw [gW_app]
      refine (P.kept (fun q x hx => hlt2 x.1 ((P q x hx).lt))).app (fun q x hx => ?_)
      have hq : q < 1 := (List.getElem?_eq_some_iff.mp hx).1
      rw [show q = 0 by omega] at hx
      cases hx
      show H1[ad sy.length]? = some (vp_cell _ _)
      rw [show m sy.length = fun _ => 0 from funext (fun b => hm sy.length b (Nat.le_refl _))]
      exact e1
    · show s.heap.size + (k.1 + 1) = base + (sy ++ [(1, n, [])]).length
      rw [List.length_append]
      show s.heap.size + (k.1 + 1) = base + (sy.length + 1)
      omega
end Grow
