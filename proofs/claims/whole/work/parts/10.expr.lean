/-! ===== expressions and statements: a check against the bytes, a meaning, and why they fit ===== -/
abbrev bLs : Type := List (Option bV)
abbrev bCl : Type := Nat → List bV → bM → Option (bM × Int)
abbrev bK : Type := String × ByteArray × Nat × Option FieldType × bEx
abbrev zz (κ : bK) (j : bJ) (pc : Nat) (ls : bLs) (st : List bV) (m : bM) : Prop := bZ bSY κ.1 κ.2.1 κ.2.2.1 κ.2.2.2.1 j pc ls st m
def bOr (κ : bK) (j : bJ) (cal : bCl) : Prop := j.2.2.1 = κ.2.2.2.2 ∧ (1 ≤ j.1.frames ∧ 48 ≤ j.1.locals ∧ j.2.1.1 ≤ j.1.cells ∧ j.2.1.2 ≤ j.1.slots) ∧ ∀ f av m r, cal f av m = some r → ∃ d, bFit j (bInfo f).2.2.1 d ∧ bCal bSY (bInfo f).1 (bInfo f).2.1 (bInfo f).2.2.1 (bInfo f).2.2.2 d av m r
def dk (cc : ByteArray) (pc : Nat) (i : Instr) (n : Nat) : Option Nat := if decode cc pc = .ok (i, n) then some (pc + n) else none
theorem dk_of {cc : ByteArray} {pc pc' n : Nat} {i : Instr} (h : dk cc pc i n = some pc') : decode cc pc = .ok (i, n) ∧ pc' = pc + n := by
  unfold dk at h
  split at h
  · rename_i h1; cases h; exact ⟨h1, rfl⟩
  · cases h
def bgo (cc : ByteArray) : Nat → Nat → Nat
  | 0, pc => pc
  | n + 1, pc => match decode cc pc with
    | .ok (.goto off, 3) => if 0 ≤ (pc : Int) + off then bgo cc n ((pc : Int) + off).toNat else pc
    | _ => pc
theorem zz_go {κ : bK} {j : bJ} {ls : bLs} {st : List bV} {m : bM} : ∀ (n pc : Nat), zz κ j (bgo κ.2.1 n pc) ls st m → zz κ j pc ls st m
  | 0, pc, h => h
  | n + 1, pc, h => by
    unfold bgo at h
    split at h
    · rename_i off hd
      split at h
      · rename_i h0
        exact z_goto hd (by omega) (zz_go n _ h)
      · exact h
    · exact h
abbrev g4 (cc : ByteArray) (pc : Nat) : Nat := bgo cc 4 pc
theorem zz_g4 {κ : bK} {j : bJ} {ls : bLs} {st : List bV} {m : bM} {pc : Nat} (h : zz κ j (g4 κ.2.1 pc) ls st m) : zz κ j pc ls st m := zz_go 4 pc h
/-! words -/
def bFL (own : String) (idx ci k : Nat) : Prop := ∃ (q : vw_C) (ty : Nat → FieldType), bCI ci q ty ∧ k < q.2.2 ∧ Cond.fieldLink own idx (q.2.1 k).1 (q.2.1 k).2.1 (q.2.1 k).2.2.1 ∈ bT
def bFP (own : String) (idx ci k : Nat) (t : FieldType) : Prop := ∃ (q : vw_C) (ty : Nat → FieldType), bCI ci q ty ∧ k < q.2.2 ∧ Cond.fieldLink own idx (q.2.1 k).1 (q.2.1 k).2.1 (q.2.1 k).2.2.1 ∈ bT ∧ (q.2.1 k).2.2.2 = false ∧ ty k = t
def bCV (own : String) (idx f ci n : Nat) : Prop := ∃ (q : vw_C) (ty : Nat → FieldType), bCI ci q ty ∧ (∀ w ∈ wsV own idx q.1 (bInfo f).1 (Cond.code (bInfo f).1 (bInfo f).2.1 (bInfo f).2.2.1 (bInfo f).2.2.2 :: bT), w ∈ bT) ∧ ((bInfo f).1.cls = q.1 ∧ (bInfo f).1.cls ≠ "java/lang/invoke/MethodHandle" ∧ (bInfo f).1.cls ≠ "java/lang/invoke/VarHandle" ∧ (parseMethodDescriptor (bInfo f).1.desc).map (fun d => d.parameters.length) = some n)
def bCS (own : String) (idx f n : Nat) : Prop := (∀ w ∈ wsS own idx (bInfo f).1 (Cond.code (bInfo f).1 (bInfo f).2.1 (bInfo f).2.2.1 (bInfo f).2.2.2 :: bT), w ∈ bT) ∧ Cond.initialized (bInfo f).1.cls ∈ bT ∧ ((bInfo f).1.cls ≠ "java/lang/invoke/MethodHandle" ∧ (bInfo f).1.cls ≠ "java/lang/invoke/VarHandle" ∧ (parseMethodDescriptor (bInfo f).1.desc).map (fun d => d.parameters.length) = some n)
def bCN (own : String) (idx f : Nat) : Prop := (bInfo f).1 = yX11_within ∧ (own, idx) ∈ bNL ∧ Cond.code yX11_within (bInfo f).2.1 (bInfo f).2.2.1 (bInfo f).2.2.2 ∈ bT ∧ Cond.static yX11_within ∈ bT ∧ Cond.initialized RX11 ∈ bT
def bKI (own : String) (idx : Nat) (n : Int) : Prop := Cond.constant own idx (Int32.ofInt n) ∈ bT ∧ in32 n
def bKL (own : String) (idx : Nat) (n : Int) : Prop := Cond.constantLong own idx (Int64.ofInt n) ∈ bT ∧ in64 n
/-! locals -/
def getI (ls : bLs) (i : Nat) : Option Int := match ls[i]? with
  | some (some (.inl z)) => some z
  | _ => none
def getL (ls : bLs) (i : Nat) : Option Int := match ls[i]? with
  | some (some (.inr (.inl z))) => some z
  | _ => none
def getR (ls : bLs) (i : Nat) : Option Nat := match ls[i]? with
  | some (some (.inr (.inr z))) => some z
  | _ => none
theorem getI_of {ls : bLs} {i : Nat} {z : Int} (h : getI ls i = some z) : ls[i]? = some (some (aI z)) := by
  unfold getI at h; split at h
  · rename_i h1; cases h; exact h1
  · cases h
theorem getL_of {ls : bLs} {i : Nat} {z : Int} (h : getL ls i = some z) : ls[i]? = some (some (aL z)) := by
  unfold getL at h; split at h
  · rename_i h1; cases h; exact h1
  · cases h
theorem getR_of {ls : bLs} {i : Nat} {z : Nat} (h : getR ls i = some z) : ls[i]? = some (some (aR z)) := by
  unfold getR at h; split at h
  · rename_i h1; cases h; exact h1
  · cases h
theorem zz_iload {κ : bK} {j : bJ} {ls : bLs} {st : List bV} {m : bM} {pc pc' i : Nat} {z : Int} (h : (if hi : i < 4 then dk κ.2.1 pc (.iload_n ⟨i, hi⟩) 1 else dk κ.2.1 pc (.iload i) 2) = some pc') (hl : ls[i]? = some (some (aI z))) (kk : zz κ j pc' ls (aI z :: st) m) : zz κ j pc ls st m := by
  split at h
  · obtain ⟨hd, rfl⟩ := dk_of h; exact z_iload_n hd hl kk
  · obtain ⟨hd, rfl⟩ := dk_of h; exact z_iload hd hl kk
theorem zz_lload {κ : bK} {j : bJ} {ls : bLs} {st : List bV} {m : bM} {pc pc' i : Nat} {z : Int} (h : (if hi : i < 4 then dk κ.2.1 pc (.lload_n ⟨i, hi⟩) 1 else dk κ.2.1 pc (.lload i) 2) = some pc') (hl : ls[i]? = some (some (aL z))) (kk : zz κ j pc' ls (aL z :: st) m) : zz κ j pc ls st m := by
  split at h
  · obtain ⟨hd, rfl⟩ := dk_of h; exact z_lload_n hd hl kk
  · obtain ⟨hd, rfl⟩ := dk_of h; exact z_lload hd hl kk
theorem zz_aload {κ : bK} {j : bJ} {ls : bLs} {st : List bV} {m : bM} {pc pc' i z : Nat} (h : (if hi : i < 4 then dk κ.2.1 pc (.aload_n ⟨i, hi⟩) 1 else dk κ.2.1 pc (.aload i) 2) = some pc') (hl : ls[i]? = some (some (aR z))) (kk : zz κ j pc' ls (aR z :: st) m) : zz κ j pc ls st m := by
  split at h
  · obtain ⟨hd, rfl⟩ := dk_of h; exact z_aload_n hd hl kk
  · obtain ⟨hd, rfl⟩ := dk_of h; exact z_aload hd hl kk
theorem bb_of {α β : Type} {x : Option α} {k : α → Option β} {r : β} (h : x.bind k = some r) : ∃ a, x = some a ∧ k a = some r := by
  cases x with
  | none => cases h
  | some a => exact ⟨a, rfl, h⟩
theorem gd_of {α : Type} {q : Prop} [Decidable q] {a : Option α} {r : α} (h : (if q then a else none) = some r) : q ∧ a = some r := bchk h
theorem bcs_I {z : Int} {st : List bV} {k : Nat} (h : bcs st ≤ k) : bcs (aI z :: st) ≤ k + 1 := by
  have e : bcs (aI z :: st) = 1 + bcs st := rfl
  omega
theorem bcs_R {z : Nat} {st : List bV} {k : Nat} (h : bcs st ≤ k) : bcs (aR z :: st) ≤ k + 1 := by
  have e : bcs (aR z :: st) = 1 + bcs st := rfl
  omega
theorem bcs_L {z : Int} {st : List bV} {k : Nat} (h : bcs st ≤ k) : bcs (aL z :: st) ≤ k + 2 := by
  have e : bcs (aL z :: st) = 2 + bcs st := rfl
  omega

/-! the kinds of expressions: a cell that is known (the local that it hangs on, that local's cell, the cell); ints; longs; conditions; arguments; statements -/
def ER (κ : bK) : Type := {q : (Nat → Option Nat) × (Nat × Nat) × Nat // ∀ (j : bJ) (pc pc' : Nat) (ls : bLs) (st : List bV) (m : bM), q.1 pc = some pc' → getR ls q.2.1.1 = some q.2.1.2 → zz κ j pc' ls (aR q.2.2 :: st) m → zz κ j pc ls st m}
def EI (κ : bK) : Type := {q : (Nat → Nat → Option Nat) × (bCl → bLs → bM → Option (Int × bM)) // ∀ (j : bJ) (cal : bCl), bOr κ j cal → ∀ (k pc pc' : Nat) (ls : bLs) (st : List bV) (m m' : bM) (v : Int), q.1 k pc = some pc' → bcs st ≤ k → q.2 cal ls m = some (v, m') → zz κ j pc' ls (aI v :: st) m' → zz κ j pc ls st m}
def EL (κ : bK) : Type := {q : (Nat → Nat → Option Nat) × (bCl → bLs → bM → Option (Int × bM)) // ∀ (j : bJ) (cal : bCl), bOr κ j cal → ∀ (k pc pc' : Nat) (ls : bLs) (st : List bV) (m m' : bM) (v : Int), q.1 k pc = some pc' → bcs st ≤ k → q.2 cal ls m = some (v, m') → zz κ j pc' ls (aL v :: st) m' → zz κ j pc ls st m}
def EC (κ : bK) : Type := {q : (Nat → Nat → Option (Nat × Nat)) × (bCl → bLs → bM → Option (Bool × bM)) // ∀ (j : bJ) (cal : bCl), bOr κ j cal → ∀ (k pc pt pf : Nat) (ls : bLs) (st : List bV) (m m' : bM) (b : Bool), q.1 k pc = some (pt, pf) → bcs st ≤ k → q.2 cal ls m = some (b, m') → zz κ j (if b then pt else pf) ls st m' → zz κ j pc ls st m}
def EG (κ : bK) : Type := {q : (Nat → Nat → Option Nat) × (bCl → bLs → bM → Option (List bV × bM)) × Nat // (∀ (j : bJ) (cal : bCl), bOr κ j cal → ∀ (k pc pc' : Nat) (ls : bLs) (st : List bV) (m m' : bM) (v : List bV), q.1 k pc = some pc' → bcs st ≤ k → q.2.1 cal ls m = some (v, m') → zz κ j pc' ls (v.reverse ++ st) m' → zz κ j pc ls st m) ∧ ∀ (cal : bCl) (ls : bLs) (m m' : bM) (v : List bV), q.2.1 cal ls m = some (v, m') → v.length = q.2.2}
abbrev bRs : Type := (Nat × bLs × bM) ⊕ (bM × Int)
def bRt (κ : bK) (j : bJ) (m : bM) (v : Int) : Prop := ∀ (pc : Nat) (ls : bLs), (decode κ.2.1 pc = .ok (.return_, 1) → κ.2.2.2.1 = none → v = 0 → zz κ j pc ls [] m) ∧ (decode κ.2.1 pc = .ok (.ireturn, 1) → (κ.2.2.2.1 = some .int ∨ κ.2.2.2.1 = some .boolean ∧ 0 ≤ v ∧ v ≤ 1) → zz κ j pc ls [aI v] m) ∧ (decode κ.2.1 pc = .ok (.lreturn, 1) → κ.2.2.2.1 = some .long → zz κ j pc ls [aL v] m)
def bPo (κ : bK) (j : bJ) (e : Option Nat) (bp cp : Nat) (r : bRs) : Prop := match r with
  | .inl (0, ls, m) => ∀ x, e = some x → zz κ j x ls [] m
  | .inl (1, ls, m) => zz κ j bp ls [] m
  | .inl (_, ls, m) => zz κ j cp ls [] m
  | .inr (m, v) => bRt κ j m v
def ES (κ : bK) : Type := {q : (Nat → Nat → Nat → Option (Option Nat)) × (bCl → bLs → bM → Option bRs) // (∀ (j : bJ) (cal : bCl), bOr κ j cal → ∀ (bp cp pc : Nat) (e : Option Nat) (ls : bLs) (m : bM) (r : bRs), q.1 bp cp pc = some e → q.2 cal ls m = some r → bPo κ j e bp cp r → zz κ j pc ls [] m) ∧ ∀ (bp cp pc : Nat) (cal : bCl) (ls ls' : bLs) (m m' : bM), q.1 bp cp pc = some none → q.2 cal ls m ≠ some (.inl (0, ls', m'))}
section Comb
variable {κ : bK}
/-! cells -/
def rLoc (i c : Nat) : ER κ := ⟨(fun pc => if hi : i < 4 then dk κ.2.1 pc (.aload_n ⟨i, hi⟩) 1 else dk κ.2.1 pc (.aload i) 2, (i, c), c), fun j pc pc' ls st m h hg kk => zz_aload h (getR_of hg) kk⟩
def bfr (i ci k c : Nat) : Bool := match bSY[i]? with
  | some (0, ci', fl) => ci' == ci && (fl[k]? == some (c + 2))
  | _ => false
theorem bfr_of {i ci k c : Nat} (h : bfr i ci k c = true) : ∃ fl, bSY[i]? = some (0, ci, fl) ∧ fl[k]? = some (c + 2) := by
  unfold bfr at h
  split at h
  · rename_i ci' fl h1
    simp only [Bool.and_eq_true, beq_iff_eq] at h
    obtain ⟨rfl, h2⟩ := h
    exact ⟨fl, h1, h2⟩
  · cases h
def rFld {idx ci k : Nat} (r : ER κ) (c : Nat) (h : bFL κ.1 idx ci k) : ER κ := ⟨(fun pc => (r.1.1 pc).bind fun p => if bfr r.1.2.2 ci k c = true then dk κ.2.1 p (.getfield idx) 3 else none, r.1.2.1, c), by
  intro j pc pc' ls st m h1 hg kk
  obtain ⟨p, hp, h2⟩ := bb_of h1
  obtain ⟨h3, h4⟩ := gd_of h2
  obtain ⟨hd, rfl⟩ := dk_of h4
  obtain ⟨fl, e1, e2⟩ := bfr_of h3
  obtain ⟨q, ty, c1, c2, c3⟩ := h
  exact r.2 j pc p ls st m hp hg (z_getf c1 e1 c2 e2 c3 hd kk)⟩
abbrev gd (r : ER κ) (ls : bLs) : Prop := getR ls r.1.2.1.1 = some r.1.2.1.2

def eInt (n : Int) : EI κ := ⟨(fun _ pc => if -1 ≤ n ∧ n ≤ 5 then dk κ.2.1 pc (.iconst n) 1 else if -128 ≤ n ∧ n ≤ 127 then dk κ.2.1 pc (.bipush n) 2 else if -32768 ≤ n ∧ n ≤ 32767 then dk κ.2.1 pc (.sipush n) 3 else none, fun _ _ m => some (n, m)), by
  intro j cal hO k pc pc' ls st m m' v h1 hk h2 kk
  cases h2
  split at h1
  · obtain ⟨hd, rfl⟩ := dk_of h1
    exact z_iconst hd (by unfold in32; omega) kk
  · split at h1
    · rename_i hr
      obtain ⟨hd, rfl⟩ := dk_of h1
      have h32 : in32 n := by unfold in32; omega
      refine z_bipush hd ?_ h32 kk
      apply Int32.toInt_inj.mp
      rw [toI h32, Int8.toInt_toInt32, Int8.toInt_ofInt]
      show Int.bmod n 256 = n
      unfold Int.bmod; dsimp only; split <;> omega
    · split at h1
      · rename_i hr
        obtain ⟨hd, rfl⟩ := dk_of h1
        have h32 : in32 n := by unfold in32; omega
        refine z_sipush hd ?_ h32 kk
        apply Int32.toInt_inj.mp
        rw [toI h32, Int16.toInt_toInt32, Int16.toInt_ofInt]
        show Int.bmod n 65536 = n
        unfold Int.bmod; dsimp only; split <;> omega
      · cases h1⟩
def eLdc {idx : Nat} (n : Int) (h : bKI κ.1 idx n) : EI κ := ⟨(fun _ pc => dk κ.2.1 pc (.ldc idx) 2, fun _ _ m => some (n, m)), by
  intro j cal hO k pc pc' ls st m m' v h1 hk h2 kk
  cases h2
  obtain ⟨hd, rfl⟩ := dk_of h1
  exact z_ldc hd h.1 h.2 kk⟩
def eLdw {idx : Nat} (n : Int) (h : bKI κ.1 idx n) : EI κ := ⟨(fun _ pc => dk κ.2.1 pc (.ldc_w idx) 3, fun _ _ m => some (n, m)), by
  intro j cal hO k pc pc' ls st m m' v h1 hk h2 kk
  cases h2
  obtain ⟨hd, rfl⟩ := dk_of h1
  exact z_ldc_w hd h.1 h.2 kk⟩
def eLoc (i : Nat) : EI κ := ⟨(fun _ pc => if hi : i < 4 then dk κ.2.1 pc (.iload_n ⟨i, hi⟩) 1 else dk κ.2.1 pc (.iload i) 2, fun _ ls m => (getI ls i).map (·, m)), by
  intro j cal hO k pc pc' ls st m m' v h1 hk h2 kk
  obtain ⟨z, e1, e2⟩ := Option.map_eq_some_iff.mp h2
  cases e2
  exact zz_iload h1 (getI_of e1) kk⟩
def bft (i ci k w : Nat) : Bool := match bSY[i]? with
  | some (0, ci', fl) => ci' == ci && (fl[k]? == some w)
  | _ => false
theorem bft_of {i ci k w : Nat} (h : bft i ci k w = true) : ∃ fl, bSY[i]? = some (0, ci, fl) ∧ fl[k]? = some w := by
  unfold bft at h
  split at h
  · rename_i ci' fl h1
    simp only [Bool.and_eq_true, beq_iff_eq] at h
    obtain ⟨rfl, h2⟩ := h
    exact ⟨fl, h1, h2⟩
  · cases h
def bar (i kd n : Nat) : Bool := bSY[i]? == some (kd, n, [])
theorem bar_of {i kd n : Nat} (h : bar i kd n = true) : bSY[i]? = some (kd, n, []) := by
  unfold bar at h
  simpa using h
def eFld {idx ci k : Nat} (r : ER κ) (h : bFL κ.1 idx ci k) : EI κ := ⟨(fun _ pc => (r.1.1 pc).bind fun p => if bft r.1.2.2 ci k 0 = true then dk κ.2.1 p (.getfield idx) 3 else none, fun _ ls m => if gd r ls then some (m r.1.2.2 k, m) else none), by
  intro j cal hO k pc pc' ls st m m' v h1 hk h2 kk
  obtain ⟨p, hp, h3⟩ := bb_of h1
  obtain ⟨h4, h5⟩ := gd_of h3
  obtain ⟨hd, rfl⟩ := dk_of h5
  obtain ⟨fl, e1, e2⟩ := bft_of h4
  obtain ⟨q, ty, c1, c2, c3⟩ := h
  obtain ⟨hg, h6⟩ := gd_of h2
  cases h6
  exact r.2 j pc p ls st m hp hg (z_getf c1 e1 c2 e2 c3 hd kk)⟩
def lFld {idx ci k : Nat} (r : ER κ) (h : bFL κ.1 idx ci k) : EL κ := ⟨(fun _ pc => (r.1.1 pc).bind fun p => if bft r.1.2.2 ci k 1 = true then dk κ.2.1 p (.getfield idx) 3 else none, fun _ ls m => if gd r ls then some (m r.1.2.2 k, m) else none), by
  intro j cal hO k pc pc' ls st m m' v h1 hk h2 kk
  obtain ⟨p, hp, h3⟩ := bb_of h1
  obtain ⟨h4, h5⟩ := gd_of h3
  obtain ⟨hd, rfl⟩ := dk_of h5
  obtain ⟨fl, e1, e2⟩ := bft_of h4
  obtain ⟨q, ty, c1, c2, c3⟩ := h
  obtain ⟨hg, h6⟩ := gd_of h2
  cases h6
  exact r.2 j pc p ls st m hp hg (z_getf c1 e1 c2 e2 c3 hd kk)⟩
def eAI (n : Nat) (r : ER κ) (e : EI κ) : EI κ := ⟨(fun k pc => (r.1.1 pc).bind fun p => (e.1.1 (k + 1) p).bind fun p2 => if bar r.1.2.2 1 n = true then dk κ.2.1 p2 .iaload 1 else none, fun cal ls m => if gd r ls then (e.1.2 cal ls m).bind fun x => if 0 ≤ x.1 ∧ x.1 < (n : Int) then some (x.2 r.1.2.2 x.1.toNat, x.2) else none else none), by
  intro j cal hO k pc pc' ls st m m' v h1 hk h2 kk
  obtain ⟨p, hp, h3⟩ := bb_of h1
  obtain ⟨p2, hp2, h4⟩ := bb_of h3
  obtain ⟨h5, h6⟩ := gd_of h4
  obtain ⟨hd, rfl⟩ := dk_of h6
  obtain ⟨hg, h7⟩ := gd_of h2
  obtain ⟨⟨z, m1⟩, g1, g2⟩ := bb_of h7
  obtain ⟨g3, g4⟩ := gd_of g2
  cases g4
  exact r.2 j pc p ls st m hp hg (e.2 j cal hO (k + 1) p p2 ls _ m m1 z hp2 (bcs_R hk) g1 (z_iald (bar_of h5) g3 hd kk))⟩
def eAZ (n : Nat) (r : ER κ) (e : EI κ) : EI κ := ⟨(fun k pc => (r.1.1 pc).bind fun p => (e.1.1 (k + 1) p).bind fun p2 => if bar r.1.2.2 2 n = true then dk κ.2.1 p2 .baload 1 else none, fun cal ls m => if gd r ls then (e.1.2 cal ls m).bind fun x => if 0 ≤ x.1 ∧ x.1 < (n : Int) then some (x.2 r.1.2.2 x.1.toNat, x.2) else none else none), by
  intro j cal hO k pc pc' ls st m m' v h1 hk h2 kk
  obtain ⟨p, hp, h3⟩ := bb_of h1
  obtain ⟨p2, hp2, h4⟩ := bb_of h3
  obtain ⟨h5, h6⟩ := gd_of h4
  obtain ⟨hd, rfl⟩ := dk_of h6
  obtain ⟨hg, h7⟩ := gd_of h2
  obtain ⟨⟨z, m1⟩, g1, g2⟩ := bb_of h7
  obtain ⟨g3, g4⟩ := gd_of g2
  cases g4
  exact r.2 j pc p ls st m hp hg (e.2 j cal hO (k + 1) p p2 ls _ m m1 z hp2 (bcs_R hk) g1 (z_zald (bar_of h5) g3 hd kk))⟩
def eAB (n : Nat) (r : ER κ) (e : EI κ) : EI κ := ⟨(fun k pc => (r.1.1 pc).bind fun p => (e.1.1 (k + 1) p).bind fun p2 => if bar r.1.2.2 3 n = true then dk κ.2.1 p2 .baload 1 else none, fun cal ls m => if gd r ls then (e.1.2 cal ls m).bind fun x => if 0 ≤ x.1 ∧ x.1 < (n : Int) then some (x.2 r.1.2.2 x.1.toNat, x.2) else none else none), by
  intro j cal hO k pc pc' ls st m m' v h1 hk h2 kk
  obtain ⟨p, hp, h3⟩ := bb_of h1
  obtain ⟨p2, hp2, h4⟩ := bb_of h3
  obtain ⟨h5, h6⟩ := gd_of h4
  obtain ⟨hd, rfl⟩ := dk_of h6
  obtain ⟨hg, h7⟩ := gd_of h2
  obtain ⟨⟨z, m1⟩, g1, g2⟩ := bb_of h7
  obtain ⟨g3, g4⟩ := gd_of g2
  cases g4
  exact r.2 j pc p ls st m hp hg (e.2 j cal hO (k + 1) p p2 ls _ m m1 z hp2 (bcs_R hk) g1 (z_bald (bar_of h5) g3 hd kk))⟩
def lAL (n : Nat) (r : ER κ) (e : EI κ) : EL κ := ⟨(fun k pc => (r.1.1 pc).bind fun p => (e.1.1 (k + 1) p).bind fun p2 => if bar r.1.2.2 4 n = true then dk κ.2.1 p2 .laload 1 else none, fun cal ls m => if gd r ls then (e.1.2 cal ls m).bind fun x => if 0 ≤ x.1 ∧ x.1 < (n : Int) then some (x.2 r.1.2.2 x.1.toNat, x.2) else none else none), by
  intro j cal hO k pc pc' ls st m m' v h1 hk h2 kk
  obtain ⟨p, hp, h3⟩ := bb_of h1
  obtain ⟨p2, hp2, h4⟩ := bb_of h3
  obtain ⟨h5, h6⟩ := gd_of h4
  obtain ⟨hd, rfl⟩ := dk_of h6
  obtain ⟨hg, h7⟩ := gd_of h2
  obtain ⟨⟨z, m1⟩, g1, g2⟩ := bb_of h7
  obtain ⟨g3, g4⟩ := gd_of g2
  cases g4
  exact r.2 j pc p ls st m hp hg (e.2 j cal hO (k + 1) p p2 ls _ m m1 z hp2 (bcs_R hk) g1 (z_lald (bar_of h5) g3 hd kk))⟩
def bln (c : Nat) : Nat := match bSY[c]? with
  | some (1, n, []) => n
  | _ => 0
theorem bln_of {c : Nat} {z : Int} (h : 0 ≤ z ∧ z < (bln c : Int)) : bSY[c]? = some (1, bln c, []) := by
  have h0 : bln c ≠ 0 := by omega
  unfold bln at h0 ⊢
  split
  · rename_i h1; exact h1
  · rename_i h1
    exfalso; apply h0
    split
    · rename_i n h2; exact absurd h2 (h1 n)
    · rfl
def eAD (i : Nat) (e : EI κ) : EI κ := ⟨(fun k pc => (if hi : i < 4 then dk κ.2.1 pc (.aload_n ⟨i, hi⟩) 1 else dk κ.2.1 pc (.aload i) 2).bind fun p => (e.1.1 (k + 1) p).bind fun p2 => dk κ.2.1 p2 .iaload 1, fun cal ls m => (getR ls i).bind fun c => (e.1.2 cal ls m).bind fun x => if 0 ≤ x.1 ∧ x.1 < (bln c : Int) then some (x.2 c x.1.toNat, x.2) else none), by
  intro j cal hO k pc pc' ls st m m' v h1 hk h2 kk
  obtain ⟨p, hp, h3⟩ := bb_of h1
  obtain ⟨p2, hp2, h6⟩ := bb_of h3
  obtain ⟨hd, rfl⟩ := dk_of h6
  obtain ⟨c, hc, h7⟩ := bb_of h2
  obtain ⟨⟨z, m1⟩, g1, g2⟩ := bb_of h7
  obtain ⟨g3, g4⟩ := gd_of g2
  cases g4
  exact zz_aload hp (getR_of hc) (e.2 j cal hO (k + 1) p p2 ls _ m m1 z hp2 (bcs_R hk) g1 (z_iald (bln_of g3) g3 hd kk))⟩
def bal (c n : Nat) : Bool := match bSY[c]? with
  | some (1, n', []) => n' == n && n < 2147483648
  | _ => false
theorem bal_of {c n : Nat} (h : bal c n = true) : bSY[c]? = some (1, n, []) ∧ n < 2147483648 := by
  unfold bal at h
  split at h
  · rename_i n' h1
    simp only [Bool.and_eq_true, beq_iff_eq, decide_eq_true_eq] at h
    obtain ⟨rfl, h2⟩ := h
    exact ⟨h1, h2⟩
  · cases h
def eLen (i : Nat) : EI κ := ⟨(fun _ pc => (if hi : i < 4 then dk κ.2.1 pc (.aload_n ⟨i, hi⟩) 1 else dk κ.2.1 pc (.aload i) 2).bind fun p => dk κ.2.1 p .arraylength 1, fun _ ls m => (getR ls i).bind fun c => if bal c (bln c) = true then some ((bln c : Int), m) else none), by
  intro j cal hO k pc pc' ls st m m' v h1 hk h2 kk
  obtain ⟨p, hp, h3⟩ := bb_of h1
  obtain ⟨hd, rfl⟩ := dk_of h3
  obtain ⟨c, hc, h7⟩ := bb_of h2
  obtain ⟨g1, g2⟩ := gd_of h7
  cases g2
  exact zz_aload hp (getR_of hc) (z_alen (bal_of g1).1 (Or.inl rfl) (bal_of g1).2 hd kk)⟩
def eAdd (a b : EI κ) : EI κ := ⟨(fun k pc => (a.1.1 k pc).bind fun p => (b.1.1 (k + 1) p).bind fun p2 => dk κ.2.1 p2 .iadd 1, fun cal ls m => (a.1.2 cal ls m).bind fun x => (b.1.2 cal ls x.2).bind fun y => some (i32 (x.1 + y.1), y.2)), by
  intro j cal hO k pc pc' ls st m m' v h1 hk h2 kk
  obtain ⟨p, hp, h3⟩ := bb_of h1
  obtain ⟨p2, hp2, h6⟩ := bb_of h3
  obtain ⟨hd, rfl⟩ := dk_of h6
  obtain ⟨⟨x, m1⟩, g1, g2⟩ := bb_of h2
  obtain ⟨⟨y, m2⟩, g3, g4⟩ := bb_of g2
  cases g4
  exact a.2 j cal hO k pc p ls st m m1 x hp hk g1 (b.2 j cal hO (k + 1) p p2 ls _ m1 _ y hp2 (bcs_I hk) g3 (z_iadd hd kk))⟩
def eSub (a b : EI κ) : EI κ := ⟨(fun k pc => (a.1.1 k pc).bind fun p => (b.1.1 (k + 1) p).bind fun p2 => dk κ.2.1 p2 .isub 1, fun cal ls m => (a.1.2 cal ls m).bind fun x => (b.1.2 cal ls x.2).bind fun y => some (i32 (x.1 - y.1), y.2)), by
  intro j cal hO k pc pc' ls st m m' v h1 hk h2 kk
  obtain ⟨p, hp, h3⟩ := bb_of h1
  obtain ⟨p2, hp2, h6⟩ := bb_of h3
  obtain ⟨hd, rfl⟩ := dk_of h6
  obtain ⟨⟨x, m1⟩, g1, g2⟩ := bb_of h2
  obtain ⟨⟨y, m2⟩, g3, g4⟩ := bb_of g2
  cases g4
  exact a.2 j cal hO k pc p ls st m m1 x hp hk g1 (b.2 j cal hO (k + 1) p p2 ls _ m1 _ y hp2 (bcs_I hk) g3 (z_isub hd kk))⟩
def eMul (a b : EI κ) : EI κ := ⟨(fun k pc => (a.1.1 k pc).bind fun p => (b.1.1 (k + 1) p).bind fun p2 => dk κ.2.1 p2 .imul 1, fun cal ls m => (a.1.2 cal ls m).bind fun x => (b.1.2 cal ls x.2).bind fun y => some (i32 (x.1 * y.1), y.2)), by
  intro j cal hO k pc pc' ls st m m' v h1 hk h2 kk
  obtain ⟨p, hp, h3⟩ := bb_of h1
  obtain ⟨p2, hp2, h6⟩ := bb_of h3
  obtain ⟨hd, rfl⟩ := dk_of h6
  obtain ⟨⟨x, m1⟩, g1, g2⟩ := bb_of h2
  obtain ⟨⟨y, m2⟩, g3, g4⟩ := bb_of g2
  cases g4
  exact a.2 j cal hO k pc p ls st m m1 x hp hk g1 (b.2 j cal hO (k + 1) p p2 ls _ m1 _ y hp2 (bcs_I hk) g3 (z_imul hd kk))⟩
def eAnd (a b : EI κ) : EI κ := ⟨(fun k pc => (a.1.1 k pc).bind fun p => (b.1.1 (k + 1) p).bind fun p2 => dk κ.2.1 p2 .iand 1, fun cal ls m => (a.1.2 cal ls m).bind fun x => (b.1.2 cal ls x.2).bind fun y => some (jand x.1 y.1, y.2)), by
  intro j cal hO k pc pc' ls st m m' v h1 hk h2 kk
  obtain ⟨p, hp, h3⟩ := bb_of h1
  obtain ⟨p2, hp2, h6⟩ := bb_of h3
  obtain ⟨hd, rfl⟩ := dk_of h6
  obtain ⟨⟨x, m1⟩, g1, g2⟩ := bb_of h2
  obtain ⟨⟨y, m2⟩, g3, g4⟩ := bb_of g2
  cases g4
  exact a.2 j cal hO k pc p ls st m m1 x hp hk g1 (b.2 j cal hO (k + 1) p p2 ls _ m1 _ y hp2 (bcs_I hk) g3 (z_iand hd kk))⟩
def eOr (a b : EI κ) : EI κ := ⟨(fun k pc => (a.1.1 k pc).bind fun p => (b.1.1 (k + 1) p).bind fun p2 => dk κ.2.1 p2 .ior 1, fun cal ls m => (a.1.2 cal ls m).bind fun x => (b.1.2 cal ls x.2).bind fun y => some (jor x.1 y.1, y.2)), by
  intro j cal hO k pc pc' ls st m m' v h1 hk h2 kk
  obtain ⟨p, hp, h3⟩ := bb_of h1
  obtain ⟨p2, hp2, h6⟩ := bb_of h3
  obtain ⟨hd, rfl⟩ := dk_of h6
  obtain ⟨⟨x, m1⟩, g1, g2⟩ := bb_of h2
  obtain ⟨⟨y, m2⟩, g3, g4⟩ := bb_of g2
  cases g4
  exact a.2 j cal hO k pc p ls st m m1 x hp hk g1 (b.2 j cal hO (k + 1) p p2 ls _ m1 _ y hp2 (bcs_I hk) g3 (z_ior hd kk))⟩
def eXor (a b : EI κ) : EI κ := ⟨(fun k pc => (a.1.1 k pc).bind fun p => (b.1.1 (k + 1) p).bind fun p2 => dk κ.2.1 p2 .ixor 1, fun cal ls m => (a.1.2 cal ls m).bind fun x => (b.1.2 cal ls x.2).bind fun y => some (jxor x.1 y.1, y.2)), by
  intro j cal hO k pc pc' ls st m m' v h1 hk h2 kk
  obtain ⟨p, hp, h3⟩ := bb_of h1
  obtain ⟨p2, hp2, h6⟩ := bb_of h3
  obtain ⟨hd, rfl⟩ := dk_of h6
  obtain ⟨⟨x, m1⟩, g1, g2⟩ := bb_of h2
  obtain ⟨⟨y, m2⟩, g3, g4⟩ := bb_of g2
  cases g4
  exact a.2 j cal hO k pc p ls st m m1 x hp hk g1 (b.2 j cal hO (k + 1) p p2 ls _ m1 _ y hp2 (bcs_I hk) g3 (z_ixor hd kk))⟩
def eShl (a b : EI κ) : EI κ := ⟨(fun k pc => (a.1.1 k pc).bind fun p => (b.1.1 (k + 1) p).bind fun p2 => dk κ.2.1 p2 .ishl 1, fun cal ls m => (a.1.2 cal ls m).bind fun x => (b.1.2 cal ls x.2).bind fun y => some (jshl x.1 y.1, y.2)), by
  intro j cal hO k pc pc' ls st m m' v h1 hk h2 kk
  obtain ⟨p, hp, h3⟩ := bb_of h1
  obtain ⟨p2, hp2, h6⟩ := bb_of h3
  obtain ⟨hd, rfl⟩ := dk_of h6
  obtain ⟨⟨x, m1⟩, g1, g2⟩ := bb_of h2
  obtain ⟨⟨y, m2⟩, g3, g4⟩ := bb_of g2
  cases g4
  exact a.2 j cal hO k pc p ls st m m1 x hp hk g1 (b.2 j cal hO (k + 1) p p2 ls _ m1 _ y hp2 (bcs_I hk) g3 (z_ishl hd kk))⟩
def eShr (a b : EI κ) : EI κ := ⟨(fun k pc => (a.1.1 k pc).bind fun p => (b.1.1 (k + 1) p).bind fun p2 => dk κ.2.1 p2 .ishr 1, fun cal ls m => (a.1.2 cal ls m).bind fun x => (b.1.2 cal ls x.2).bind fun y => some (jshr x.1 y.1, y.2)), by
  intro j cal hO k pc pc' ls st m m' v h1 hk h2 kk
  obtain ⟨p, hp, h3⟩ := bb_of h1
  obtain ⟨p2, hp2, h6⟩ := bb_of h3
  obtain ⟨hd, rfl⟩ := dk_of h6
  obtain ⟨⟨x, m1⟩, g1, g2⟩ := bb_of h2
  obtain ⟨⟨y, m2⟩, g3, g4⟩ := bb_of g2
  cases g4
  exact a.2 j cal hO k pc p ls st m m1 x hp hk g1 (b.2 j cal hO (k + 1) p p2 ls _ m1 _ y hp2 (bcs_I hk) g3 (z_ishr hd kk))⟩
def eUsh (a b : EI κ) : EI κ := ⟨(fun k pc => (a.1.1 k pc).bind fun p => (b.1.1 (k + 1) p).bind fun p2 => dk κ.2.1 p2 .iushr 1, fun cal ls m => (a.1.2 cal ls m).bind fun x => (b.1.2 cal ls x.2).bind fun y => some (jushr x.1 y.1, y.2)), by
  intro j cal hO k pc pc' ls st m m' v h1 hk h2 kk
  obtain ⟨p, hp, h3⟩ := bb_of h1
  obtain ⟨p2, hp2, h6⟩ := bb_of h3
  obtain ⟨hd, rfl⟩ := dk_of h6
  obtain ⟨⟨x, m1⟩, g1, g2⟩ := bb_of h2
  obtain ⟨⟨y, m2⟩, g3, g4⟩ := bb_of g2
  cases g4
  exact a.2 j cal hO k pc p ls st m m1 x hp hk g1 (b.2 j cal hO (k + 1) p p2 ls _ m1 _ y hp2 (bcs_I hk) g3 (z_iushr hd kk))⟩
def eDiv (a b : EI κ) : EI κ := ⟨(fun k pc => (a.1.1 k pc).bind fun p => (b.1.1 (k + 1) p).bind fun p2 => dk κ.2.1 p2 .idiv 1, fun cal ls m => (a.1.2 cal ls m).bind fun x => (b.1.2 cal ls x.2).bind fun y => if y.1 ≠ 0 then some (jdiv x.1 y.1, y.2) else none), by
  intro j cal hO k pc pc' ls st m m' v h1 hk h2 kk
  obtain ⟨p, hp, h3⟩ := bb_of h1
  obtain ⟨p2, hp2, h6⟩ := bb_of h3
  obtain ⟨hd, rfl⟩ := dk_of h6
  obtain ⟨⟨x, m1⟩, g1, g2⟩ := bb_of h2
  obtain ⟨⟨y, m2⟩, g3, g4⟩ := bb_of g2
  obtain ⟨g5, g6⟩ := gd_of g4
  cases g6
  exact a.2 j cal hO k pc p ls st m m1 x hp hk g1 (b.2 j cal hO (k + 1) p p2 ls _ m1 _ y hp2 (bcs_I hk) g3 (z_idiv hd g5 kk))⟩
def eRem (a b : EI κ) : EI κ := ⟨(fun k pc => (a.1.1 k pc).bind fun p => (b.1.1 (k + 1) p).bind fun p2 => dk κ.2.1 p2 .irem 1, fun cal ls m => (a.1.2 cal ls m).bind fun x => (b.1.2 cal ls x.2).bind fun y => if y.1 ≠ 0 then some (jrem x.1 y.1, y.2) else none), by
  intro j cal hO k pc pc' ls st m m' v h1 hk h2 kk
  obtain ⟨p, hp, h3⟩ := bb_of h1
  obtain ⟨p2, hp2, h6⟩ := bb_of h3
  obtain ⟨hd, rfl⟩ := dk_of h6
  obtain ⟨⟨x, m1⟩, g1, g2⟩ := bb_of h2
  obtain ⟨⟨y, m2⟩, g3, g4⟩ := bb_of g2
  obtain ⟨g5, g6⟩ := gd_of g4
  cases g6
  exact a.2 j cal hO k pc p ls st m m1 x hp hk g1 (b.2 j cal hO (k + 1) p p2 ls _ m1 _ y hp2 (bcs_I hk) g3 (z_irem hd g5 kk))⟩
def lAdd (a b : EL κ) : EL κ := ⟨(fun k pc => (a.1.1 k pc).bind fun p => (b.1.1 (k + 2) p).bind fun p2 => dk κ.2.1 p2 .ladd 1, fun cal ls m => (a.1.2 cal ls m).bind fun x => (b.1.2 cal ls x.2).bind fun y => some (i64 (x.1 + y.1), y.2)), by
  intro j cal hO k pc pc' ls st m m' v h1 hk h2 kk
  obtain ⟨p, hp, h3⟩ := bb_of h1
  obtain ⟨p2, hp2, h6⟩ := bb_of h3
  obtain ⟨hd, rfl⟩ := dk_of h6
  obtain ⟨⟨x, m1⟩, g1, g2⟩ := bb_of h2
  obtain ⟨⟨y, m2⟩, g3, g4⟩ := bb_of g2
  cases g4
  exact a.2 j cal hO k pc p ls st m m1 x hp hk g1 (b.2 j cal hO (k + 2) p p2 ls _ m1 _ y hp2 (bcs_L hk) g3 (z_ladd hd kk))⟩
def lSub (a b : EL κ) : EL κ := ⟨(fun k pc => (a.1.1 k pc).bind fun p => (b.1.1 (k + 2) p).bind fun p2 => dk κ.2.1 p2 .lsub 1, fun cal ls m => (a.1.2 cal ls m).bind fun x => (b.1.2 cal ls x.2).bind fun y => some (i64 (x.1 - y.1), y.2)), by
  intro j cal hO k pc pc' ls st m m' v h1 hk h2 kk
  obtain ⟨p, hp, h3⟩ := bb_of h1
  obtain ⟨p2, hp2, h6⟩ := bb_of h3
  obtain ⟨hd, rfl⟩ := dk_of h6
  obtain ⟨⟨x, m1⟩, g1, g2⟩ := bb_of h2
  obtain ⟨⟨y, m2⟩, g3, g4⟩ := bb_of g2
  cases g4
  exact a.2 j cal hO k pc p ls st m m1 x hp hk g1 (b.2 j cal hO (k + 2) p p2 ls _ m1 _ y hp2 (bcs_L hk) g3 (z_lsub hd kk))⟩
def lMul (a b : EL κ) : EL κ := ⟨(fun k pc => (a.1.1 k pc).bind fun p => (b.1.1 (k + 2) p).bind fun p2 => dk κ.2.1 p2 .lmul 1, fun cal ls m => (a.1.2 cal ls m).bind fun x => (b.1.2 cal ls x.2).bind fun y => some (i64 (x.1 * y.1), y.2)), by
  intro j cal hO k pc pc' ls st m m' v h1 hk h2 kk
  obtain ⟨p, hp, h3⟩ := bb_of h1
  obtain ⟨p2, hp2, h6⟩ := bb_of h3
  obtain ⟨hd, rfl⟩ := dk_of h6
  obtain ⟨⟨x, m1⟩, g1, g2⟩ := bb_of h2
  obtain ⟨⟨y, m2⟩, g3, g4⟩ := bb_of g2
  cases g4
  exact a.2 j cal hO k pc p ls st m m1 x hp hk g1 (b.2 j cal hO (k + 2) p p2 ls _ m1 _ y hp2 (bcs_L hk) g3 (z_lmul hd kk))⟩
def lAnd (a b : EL κ) : EL κ := ⟨(fun k pc => (a.1.1 k pc).bind fun p => (b.1.1 (k + 2) p).bind fun p2 => dk κ.2.1 p2 .land 1, fun cal ls m => (a.1.2 cal ls m).bind fun x => (b.1.2 cal ls x.2).bind fun y => some (kand x.1 y.1, y.2)), by
  intro j cal hO k pc pc' ls st m m' v h1 hk h2 kk
  obtain ⟨p, hp, h3⟩ := bb_of h1
  obtain ⟨p2, hp2, h6⟩ := bb_of h3
  obtain ⟨hd, rfl⟩ := dk_of h6
  obtain ⟨⟨x, m1⟩, g1, g2⟩ := bb_of h2
  obtain ⟨⟨y, m2⟩, g3, g4⟩ := bb_of g2
  cases g4
  exact a.2 j cal hO k pc p ls st m m1 x hp hk g1 (b.2 j cal hO (k + 2) p p2 ls _ m1 _ y hp2 (bcs_L hk) g3 (z_land hd kk))⟩
def lOr (a b : EL κ) : EL κ := ⟨(fun k pc => (a.1.1 k pc).bind fun p => (b.1.1 (k + 2) p).bind fun p2 => dk κ.2.1 p2 .lor 1, fun cal ls m => (a.1.2 cal ls m).bind fun x => (b.1.2 cal ls x.2).bind fun y => some (kor x.1 y.1, y.2)), by
  intro j cal hO k pc pc' ls st m m' v h1 hk h2 kk
  obtain ⟨p, hp, h3⟩ := bb_of h1
  obtain ⟨p2, hp2, h6⟩ := bb_of h3
  obtain ⟨hd, rfl⟩ := dk_of h6
  obtain ⟨⟨x, m1⟩, g1, g2⟩ := bb_of h2
  obtain ⟨⟨y, m2⟩, g3, g4⟩ := bb_of g2
  cases g4
  exact a.2 j cal hO k pc p ls st m m1 x hp hk g1 (b.2 j cal hO (k + 2) p p2 ls _ m1 _ y hp2 (bcs_L hk) g3 (z_lor hd kk))⟩
def lXor (a b : EL κ) : EL κ := ⟨(fun k pc => (a.1.1 k pc).bind fun p => (b.1.1 (k + 2) p).bind fun p2 => dk κ.2.1 p2 .lxor 1, fun cal ls m => (a.1.2 cal ls m).bind fun x => (b.1.2 cal ls x.2).bind fun y => some (kxor x.1 y.1, y.2)), by
  intro j cal hO k pc pc' ls st m m' v h1 hk h2 kk
  obtain ⟨p, hp, h3⟩ := bb_of h1
  obtain ⟨p2, hp2, h6⟩ := bb_of h3
  obtain ⟨hd, rfl⟩ := dk_of h6
  obtain ⟨⟨x, m1⟩, g1, g2⟩ := bb_of h2
  obtain ⟨⟨y, m2⟩, g3, g4⟩ := bb_of g2
  cases g4
  exact a.2 j cal hO k pc p ls st m m1 x hp hk g1 (b.2 j cal hO (k + 2) p p2 ls _ m1 _ y hp2 (bcs_L hk) g3 (z_lxor hd kk))⟩
def lShl (a : EL κ) (b : EI κ) : EL κ := ⟨(fun k pc => (a.1.1 k pc).bind fun p => (b.1.1 (k + 2) p).bind fun p2 => dk κ.2.1 p2 .lshl 1, fun cal ls m => (a.1.2 cal ls m).bind fun x => (b.1.2 cal ls x.2).bind fun y => some (kshl x.1 y.1, y.2)), by
  intro j cal hO k pc pc' ls st m m' v h1 hk h2 kk
  obtain ⟨p, hp, h3⟩ := bb_of h1
  obtain ⟨p2, hp2, h6⟩ := bb_of h3
  obtain ⟨hd, rfl⟩ := dk_of h6
  obtain ⟨⟨x, m1⟩, g1, g2⟩ := bb_of h2
  obtain ⟨⟨y, m2⟩, g3, g4⟩ := bb_of g2
  cases g4
  exact a.2 j cal hO k pc p ls st m m1 x hp hk g1 (b.2 j cal hO (k + 2) p p2 ls _ m1 _ y hp2 (bcs_L hk) g3 (z_lshl hd kk))⟩
def lShr (a : EL κ) (b : EI κ) : EL κ := ⟨(fun k pc => (a.1.1 k pc).bind fun p => (b.1.1 (k + 2) p).bind fun p2 => dk κ.2.1 p2 .lshr 1, fun cal ls m => (a.1.2 cal ls m).bind fun x => (b.1.2 cal ls x.2).bind fun y => some (kshr x.1 y.1, y.2)), by
  intro j cal hO k pc pc' ls st m m' v h1 hk h2 kk
  obtain ⟨p, hp, h3⟩ := bb_of h1
  obtain ⟨p2, hp2, h6⟩ := bb_of h3
  obtain ⟨hd, rfl⟩ := dk_of h6
  obtain ⟨⟨x, m1⟩, g1, g2⟩ := bb_of h2
  obtain ⟨⟨y, m2⟩, g3, g4⟩ := bb_of g2
  cases g4
  exact a.2 j cal hO k pc p ls st m m1 x hp hk g1 (b.2 j cal hO (k + 2) p p2 ls _ m1 _ y hp2 (bcs_L hk) g3 (z_lshr hd kk))⟩
def eCmp (a b : EL κ) : EI κ := ⟨(fun k pc => (a.1.1 k pc).bind fun p => (b.1.1 (k + 2) p).bind fun p2 => dk κ.2.1 p2 .lcmp 1, fun cal ls m => (a.1.2 cal ls m).bind fun x => (b.1.2 cal ls x.2).bind fun y => some (kcmp x.1 y.1, y.2)), by
  intro j cal hO k pc pc' ls st m m' v h1 hk h2 kk
  obtain ⟨p, hp, h3⟩ := bb_of h1
  obtain ⟨p2, hp2, h6⟩ := bb_of h3
  obtain ⟨hd, rfl⟩ := dk_of h6
  obtain ⟨⟨x, m1⟩, g1, g2⟩ := bb_of h2
  obtain ⟨⟨y, m2⟩, g3, g4⟩ := bb_of g2
  cases g4
  exact a.2 j cal hO k pc p ls st m m1 x hp hk g1 (b.2 j cal hO (k + 2) p p2 ls _ m1 _ y hp2 (bcs_L hk) g3 (z_lcmp hd kk))⟩
def eI2B (a : EI κ) : EI κ := ⟨(fun k pc => (a.1.1 k pc).bind fun p => dk κ.2.1 p .i2b 1, fun cal ls m => (a.1.2 cal ls m).bind fun x => some (jb8 x.1, x.2)), by
  intro j cal hO k pc pc' ls st m m' v h1 hk h2 kk
  obtain ⟨p, hp, h3⟩ := bb_of h1
  obtain ⟨hd, rfl⟩ := dk_of h3
  obtain ⟨⟨x, m1⟩, g1, g2⟩ := bb_of h2
  cases g2
  exact a.2 j cal hO k pc p ls st m _ x hp hk g1 (z_i2b hd kk)⟩
def eI2S (a : EI κ) : EI κ := ⟨(fun k pc => (a.1.1 k pc).bind fun p => dk κ.2.1 p .i2s 1, fun cal ls m => (a.1.2 cal ls m).bind fun x => some (jb16 x.1, x.2)), by
  intro j cal hO k pc pc' ls st m m' v h1 hk h2 kk
  obtain ⟨p, hp, h3⟩ := bb_of h1
  obtain ⟨hd, rfl⟩ := dk_of h3
  obtain ⟨⟨x, m1⟩, g1, g2⟩ := bb_of h2
  cases g2
  exact a.2 j cal hO k pc p ls st m _ x hp hk g1 (z_i2s hd kk)⟩
def eL2I (a : EL κ) : EI κ := ⟨(fun k pc => (a.1.1 k pc).bind fun p => dk κ.2.1 p .l2i 1, fun cal ls m => (a.1.2 cal ls m).bind fun x => some (i32 x.1, x.2)), by
  intro j cal hO k pc pc' ls st m m' v h1 hk h2 kk
  obtain ⟨p, hp, h3⟩ := bb_of h1
  obtain ⟨hd, rfl⟩ := dk_of h3
  obtain ⟨⟨x, m1⟩, g1, g2⟩ := bb_of h2
  cases g2
  exact a.2 j cal hO k pc p ls st m _ x hp hk g1 (z_l2i hd kk)⟩
def lI2L (a : EI κ) : EL κ := ⟨(fun k pc => (a.1.1 k pc).bind fun p => dk κ.2.1 p .i2l 1, fun cal ls m => (a.1.2 cal ls m).bind fun x => some (x.1, x.2)), by
  intro j cal hO k pc pc' ls st m m' v h1 hk h2 kk
  obtain ⟨p, hp, h3⟩ := bb_of h1
  obtain ⟨hd, rfl⟩ := dk_of h3
  obtain ⟨⟨x, m1⟩, g1, g2⟩ := bb_of h2
  cases g2
  exact a.2 j cal hO k pc p ls st m _ x hp hk g1 (z_i2l hd kk)⟩
def lInt (n : Fin 2) : EL κ := ⟨(fun _ pc => dk κ.2.1 pc (.lconst n) 1, fun _ _ m => some ((n.val : Int), m)), by
  intro j cal hO k pc pc' ls st m m' v h1 hk h2 kk
  cases h2
  obtain ⟨hd, rfl⟩ := dk_of h1
  exact z_lconst hd rfl (by unfold in64; omega) kk⟩
def lLdc {idx : Nat} (n : Int) (h : bKL κ.1 idx n) : EL κ := ⟨(fun _ pc => dk κ.2.1 pc (.ldc2_w idx) 3, fun _ _ m => some (n, m)), by
  intro j cal hO k pc pc' ls st m m' v h1 hk h2 kk
  cases h2
  obtain ⟨hd, rfl⟩ := dk_of h1
  exact z_ldc2 hd h.1 h.2 kk⟩
def lLoc (i : Nat) : EL κ := ⟨(fun _ pc => if hi : i < 4 then dk κ.2.1 pc (.lload_n ⟨i, hi⟩) 1 else dk κ.2.1 pc (.lload i) 2, fun _ ls m => (getL ls i).map (·, m)), by
  intro j cal hO k pc pc' ls st m m' v h1 hk h2 kk
  obtain ⟨z, e1, e2⟩ := Option.map_eq_some_iff.mp h2
  cases e2
  exact zz_lload h1 (getL_of e1) kk⟩
def eIte (c : EC κ) (a b : EI κ) : EI κ := ⟨(fun k pc => (c.1.1 k pc).bind fun x => (a.1.1 k x.1).bind fun p => (b.1.1 k x.2).bind fun p2 => if g4 κ.2.1 p = g4 κ.2.1 p2 then some (g4 κ.2.1 p) else none, fun cal ls m => (c.1.2 cal ls m).bind fun t => if t.1 = true then a.1.2 cal ls t.2 else b.1.2 cal ls t.2), by
  intro j cal hO k pc pc' ls st m m' v h1 hk h2 kk
  obtain ⟨⟨pt, pf⟩, hc, h3⟩ := bb_of h1
  obtain ⟨p, hp, h4⟩ := bb_of h3
  obtain ⟨p2, hp2, h5⟩ := bb_of h4
  obtain ⟨e, h6⟩ := gd_of h5
  cases h6
  obtain ⟨⟨t, m1⟩, g1, g2⟩ := bb_of h2
  refine c.2 j cal hO k pc pt pf ls st m m1 t hc hk g1 ?_
  cases t with
  | true => exact a.2 j cal hO k pt p ls st m1 m' v hp hk g2 (zz_g4 kk)
  | false => exact b.2 j cal hO k pf p2 ls st m1 m' v hp2 hk g2 (zz_g4 (e ▸ kk))⟩
def lIte (c : EC κ) (a b : EL κ) : EL κ := ⟨(fun k pc => (c.1.1 k pc).bind fun x => (a.1.1 k x.1).bind fun p => (b.1.1 k x.2).bind fun p2 => if g4 κ.2.1 p = g4 κ.2.1 p2 then some (g4 κ.2.1 p) else none, fun cal ls m => (c.1.2 cal ls m).bind fun t => if t.1 = true then a.1.2 cal ls t.2 else b.1.2 cal ls t.2), by
  intro j cal hO k pc pc' ls st m m' v h1 hk h2 kk
  obtain ⟨⟨pt, pf⟩, hc, h3⟩ := bb_of h1
  obtain ⟨p, hp, h4⟩ := bb_of h3
  obtain ⟨p2, hp2, h5⟩ := bb_of h4
  obtain ⟨e, h6⟩ := gd_of h5
  cases h6
  obtain ⟨⟨t, m1⟩, g1, g2⟩ := bb_of h2
  refine c.2 j cal hO k pc pt pf ls st m m1 t hc hk g1 ?_
  cases t with
  | true => exact a.2 j cal hO k pt p ls st m1 m' v hp hk g2 (zz_g4 kk)
  | false => exact b.2 j cal hO k pf p2 ls st m1 m' v hp2 hk g2 (zz_g4 (e ▸ kk))⟩
def eMax {idx : Nat} (a b : EI κ) (h : ∀ w ∈ [Cond.methodLink κ.1 idx Lib.Math.max.name, Cond.static Lib.Math.max.name, Cond.initialized "java/lang/Math", Cond.code Lib.Math.max.name Lib.Math.max.code 2 (some .int)], w ∈ bT) : EI κ := ⟨(fun k pc => if k ≤ 8 then (a.1.1 k pc).bind fun p => (b.1.1 (k + 1) p).bind fun p2 => dk κ.2.1 p2 (.invokestatic idx) 3 else none, fun cal ls m => (a.1.2 cal ls m).bind fun x => (b.1.2 cal ls x.2).bind fun y => some (jmax x.1 y.1, y.2)), by
  intro j cal hO k pc pc' ls st m m' v h1 hk h2 kk
  obtain ⟨hk8, h1⟩ := gd_of h1
  obtain ⟨p, hp, h3⟩ := bb_of h1
  obtain ⟨p2, hp2, h6⟩ := bb_of h3
  obtain ⟨hd, rfl⟩ := dk_of h6
  obtain ⟨⟨x, m1⟩, g1, g2⟩ := bb_of h2
  obtain ⟨⟨y, m2⟩, g3, g4⟩ := bb_of g2
  cases g4
  exact a.2 j cal hO k pc p ls st m m1 x hp hk g1 (b.2 j cal hO (k + 1) p p2 ls _ m1 _ y hp2 (bcs_I hk) g3 (z_max h ⟨hO.2.1.1, Nat.le_trans (by decide) hO.2.1.2.1, hO.2.1.2.2⟩ (Nat.le_trans hk hk8) hd kk))⟩
def eMin {idx : Nat} (a b : EI κ) (h : ∀ w ∈ [Cond.methodLink κ.1 idx Lib.Math.min.name, Cond.static Lib.Math.min.name, Cond.initialized "java/lang/Math", Cond.code Lib.Math.min.name Lib.Math.min.code 2 (some .int)], w ∈ bT) : EI κ := ⟨(fun k pc => if k ≤ 8 then (a.1.1 k pc).bind fun p => (b.1.1 (k + 1) p).bind fun p2 => dk κ.2.1 p2 (.invokestatic idx) 3 else none, fun cal ls m => (a.1.2 cal ls m).bind fun x => (b.1.2 cal ls x.2).bind fun y => some (jmin x.1 y.1, y.2)), by
  intro j cal hO k pc pc' ls st m m' v h1 hk h2 kk
  obtain ⟨hk8, h1⟩ := gd_of h1
  obtain ⟨p, hp, h3⟩ := bb_of h1
  obtain ⟨p2, hp2, h6⟩ := bb_of h3
  obtain ⟨hd, rfl⟩ := dk_of h6
  obtain ⟨⟨x, m1⟩, g1, g2⟩ := bb_of h2
  obtain ⟨⟨y, m2⟩, g3, g4⟩ := bb_of g2
  cases g4
  exact a.2 j cal hO k pc p ls st m m1 x hp hk g1 (b.2 j cal hO (k + 1) p p2 ls _ m1 _ y hp2 (bcs_I hk) g3 (z_min h ⟨hO.2.1.1, Nat.le_trans (by decide) hO.2.1.2.1, hO.2.1.2.2⟩ (Nat.le_trans hk hk8) hd kk))⟩
def eAbs {idx : Nat} (a : EI κ) (h : ∀ w ∈ [Cond.methodLink κ.1 idx Lib.Math.abs.name, Cond.static Lib.Math.abs.name, Cond.initialized "java/lang/Math", Cond.code Lib.Math.abs.name Lib.Math.abs.code 1 (some .int)], w ∈ bT) : EI κ := ⟨(fun k pc => if k ≤ 8 then (a.1.1 k pc).bind fun p => dk κ.2.1 p (.invokestatic idx) 3 else none, fun cal ls m => (a.1.2 cal ls m).bind fun x => some (jabs x.1, x.2)), by
  intro j cal hO k pc pc' ls st m m' v h1 hk h2 kk
  obtain ⟨hk8, h1⟩ := gd_of h1
  obtain ⟨p, hp, h3⟩ := bb_of h1
  obtain ⟨hd, rfl⟩ := dk_of h3
  obtain ⟨⟨x, m1⟩, g1, g2⟩ := bb_of h2
  cases g2
  exact a.2 j cal hO k pc p ls st m _ x hp hk g1 (z_abs h ⟨hO.2.1.1, Nat.le_trans (by decide) hO.2.1.2.1, hO.2.1.2.2⟩ (Nat.le_trans hk hk8) hd kk)⟩
def eAbove {idx : Nat} (e : EI κ) (h : Cond.fieldLink κ.1 idx RX3 "ABOVE" "[I" ∈ bT) : EI κ := ⟨(fun k pc => (dk κ.2.1 pc (.getstatic idx) 3).bind fun p => (e.1.1 (k + 1) p).bind fun p2 => dk κ.2.1 p2 .iaload 1, fun cal ls m => (e.1.2 cal ls m).bind fun x => if 0 ≤ x.1 ∧ x.1 < 7 then some (gAbove.getD x.1.toNat 0, x.2) else none), by
  intro j cal hO k pc pc' ls st m m' v h1 hk h2 kk
  obtain ⟨p, hp, h3⟩ := bb_of h1
  obtain ⟨p2, hp2, h6⟩ := bb_of h3
  obtain ⟨hd0, rfl⟩ := dk_of hp
  obtain ⟨hd, rfl⟩ := dk_of h6
  obtain ⟨⟨x, m1⟩, g1, g2⟩ := bb_of h2
  obtain ⟨g3, g4⟩ := gd_of g2
  cases g4
  exact z_getAbove h hd0 (e.2 j cal hO (k + 1) _ p2 ls _ m m1 x hp2 (bcs_R hk) g1 (z_above g3 hd kk))⟩
def eBodies {idx : Nat} (e : EI κ) (h : Cond.fieldLink κ.1 idx RX3 "BODIES" "[I" ∈ bT) : EI κ := ⟨(fun k pc => (dk κ.2.1 pc (.getstatic idx) 3).bind fun p => (e.1.1 (k + 1) p).bind fun p2 => dk κ.2.1 p2 .iaload 1, fun cal ls m => (e.1.2 cal ls m).bind fun x => if 0 ≤ x.1 ∧ x.1 < 28 then some (gBodies.getD x.1.toNat 0, x.2) else none), by
  intro j cal hO k pc pc' ls st m m' v h1 hk h2 kk
  obtain ⟨p, hp, h3⟩ := bb_of h1
  obtain ⟨p2, hp2, h6⟩ := bb_of h3
  obtain ⟨hd0, rfl⟩ := dk_of hp
  obtain ⟨hd, rfl⟩ := dk_of h6
  obtain ⟨⟨x, m1⟩, g1, g2⟩ := bb_of h2
  obtain ⟨g3, g4⟩ := gd_of g2
  cases g4
  exact z_getBodies h hd0 (e.2 j cal hO (k + 1) _ p2 ls _ m m1 x hp2 (bcs_R hk) g1 (z_bodies g3 hd kk))⟩
end Comb
