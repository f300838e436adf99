/-! ===== a system that grows: one instruction, as a function ===== -/
abbrev gLg : Type := List (Nat × Nat × Int)
abbrev gSt : Type := Nat × List bV × gS × gLg × (Nat × Nat)
def g0 : bM := fun _ _ => 0
theorem wrs_one (lg : gLg) (i n : Nat) (v : Int) : wrs (lg ++ [(i, n, v)]) g0 = bwr (wrs lg g0) i n v := by rw [wrs_app]; rfl
theorem wrs_fill (lg : gLg) (i : Nat) (v : Int) : ∀ n, wrs (lg ++ (List.range n).map (fun q => (i, q, v))) g0 = gfill (wrs lg g0) i n v
  | 0 => by
    show wrs (lg ++ []) g0 = _
    rw [List.append_nil]
    funext a b
    unfold gfill
    rw [if_neg (by omega)]
  | n + 1 => by
    rw [List.range_succ, List.map_append, ← List.append_assoc, wrs_app, wrs_fill lg i v n, ← gfill_s]
    rfl
theorem wrs_far (N : Nat) : ∀ (lg : gLg) (m : bM), lg.all (fun q => decide (q.1 < N)) = true → (∀ i n, N ≤ i → m i n = 0) → ∀ i n, N ≤ i → wrs lg m i n = 0
  | [], m, _, hm => hm
  | q :: r, m, h, hm => by
    rw [List.all_cons, Bool.and_eq_true, decide_eq_true_eq] at h
    refine wrs_far N r (bwr m q.1 q.2.1 q.2.2) h.2 (fun i n hi => ?_)
    rw [bwr_eq]
    unfold bup
    rw [if_neg (by omega)]
    exact hm i n hi
def gkd (t : ArrayType) : Option Nat := match t with
  | .int => some 1
  | .boolean => some 2
  | .byte => some 3
  | .long => some 4
  | _ => none
section GS
variable {own : String} {cc : ByteArray} {nL : Nat} {rt : Option FieldType × Bool} {j : gJ} {pc : Nat} {ls : bLs} {st : List bV} {sy : gS} {lg : gLg} {k : Nat × Nat} {pc' : Nat} {st' : List bV} {sy' : gS} {lg' : gLg} {k' : Nat × Nat}
def s_ald (ls : bLs) (i w pc : Nat) (st : List bV) (sy : gS) (lg : gLg) (k : Nat × Nat) : Option gSt := (getR ls i).bind fun z => some (pc + w, aR z :: st, sy, lg, k)
theorem s_aldn_ok {i : Fin 4} (hd : decode cc pc = .ok (.aload_n i, 1)) (h : s_ald ls i 1 pc st sy lg k = some (pc', st', sy', lg', k')) (kk : gZ own cc nL rt j pc' ls st' sy' (wrs lg' g0) k') : gZ own cc nL rt j pc ls st sy (wrs lg g0) k := by
  obtain ⟨z, h1, h2⟩ := bb_of h
  cases h2
  exact gz_aload_n hd (getR_of h1) kk
theorem s_ald_ok {i : Nat} (hd : decode cc pc = .ok (.aload i, 2)) (h : s_ald ls i 2 pc st sy lg k = some (pc', st', sy', lg', k')) (kk : gZ own cc nL rt j pc' ls st' sy' (wrs lg' g0) k') : gZ own cc nL rt j pc ls st sy (wrs lg g0) k := by
  obtain ⟨z, h1, h2⟩ := bb_of h
  cases h2
  exact gz_aload hd (getR_of h1) kk
def s_con (n : Int) (w pc : Nat) (st : List bV) (sy : gS) (lg : gLg) (k : Nat × Nat) : Option gSt := if -32768 ≤ n ∧ n ≤ 32767 ∧ (w = 2 → -128 ≤ n ∧ n ≤ 127) then some (pc + w, aI n :: st, sy, lg, k) else none
theorem s_con1_ok {n : Int} (hd : decode cc pc = .ok (.iconst n, 1)) (h : s_con n 1 pc st sy lg k = some (pc', st', sy', lg', k')) (kk : gZ own cc nL rt j pc' ls st' sy' (wrs lg' g0) k') : gZ own cc nL rt j pc ls st sy (wrs lg g0) k := by
  obtain ⟨h1, h2⟩ := gd_of h
  cases h2
  exact gz_iconst hd (by unfold in32; omega) kk
theorem s_con2_ok {n : Int} (hd : decode cc pc = .ok (.bipush n, 2)) (h : s_con n 2 pc st sy lg k = some (pc', st', sy', lg', k')) (kk : gZ own cc nL rt j pc' ls st' sy' (wrs lg' g0) k') : gZ own cc nL rt j pc ls st sy (wrs lg g0) k := by
  obtain ⟨h1, h2⟩ := gd_of h
  cases h2
  exact gz_bipush hd (h1.2.2 rfl) kk
theorem s_con3_ok {n : Int} (hd : decode cc pc = .ok (.sipush n, 3)) (h : s_con n 3 pc st sy lg k = some (pc', st', sy', lg', k')) (kk : gZ own cc nL rt j pc' ls st' sy' (wrs lg' g0) k') : gZ own cc nL rt j pc ls st sy (wrs lg g0) k := by
  obtain ⟨h1, h2⟩ := gd_of h
  cases h2
  exact gz_sipush hd ⟨h1.1, h1.2.1⟩ kk
def s_dup (pc : Nat) (st : List bV) (sy : gS) (lg : gLg) (k : Nat × Nat) : Option gSt := match st with
  | .inr (.inr z) :: r => some (pc + 1, aR z :: aR z :: r, sy, lg, k)
  | _ => none
theorem s_dup_ok (hd : decode cc pc = .ok (.dup, 1)) (h : s_dup pc st sy lg k = some (pc', st', sy', lg', k')) (kk : gZ own cc nL rt j pc' ls st' sy' (wrs lg' g0) k') : gZ own cc nL rt j pc ls st sy (wrs lg g0) k := by
  unfold s_dup at h
  split at h
  · cases h; exact gz_dup hd kk
  · cases h
def s_arr (t : ArrayType) (K : Nat × Nat) (pc : Nat) (st : List bV) (sy : gS) (lg : gLg) (k : Nat × Nat) : Option gSt := match st with
  | .inl n :: r => (gkd t).bind fun kd => if 0 ≤ n ∧ n < 100000 ∧ sy.length < 204 ∧ k.1 + 1 ≤ K.1 ∧ k.2 + n.toNat ≤ K.2 then some (pc + 2, aR sy.length :: r, sy ++ [(kd, n.toNat, [])], lg, (k.1 + 1, k.2 + n.toNat)) else none
  | _ => none
def gAw : Prop := Cond.arrayClass .int ∈ bT ∧ Cond.arrayClass .boolean ∈ bT ∧ Cond.arrayClass .byte ∈ bT ∧ Cond.arrayClass .long ∈ bT
theorem s_arr_ok {t : ArrayType} {K : Nat × Nat} (hw : gAw) (hj : j.1.cells = K.1 ∧ j.1.slots = K.2) (hd : decode cc pc = .ok (.newarray t, 2)) (h : s_arr t K pc st sy lg k = some (pc', st', sy', lg', k')) (kk : gZ own cc nL rt j pc' ls st' sy' (wrs lg' g0) k') : gZ own cc nL rt j pc ls st sy (wrs lg g0) k := by
  unfold s_arr at h
  split at h
  · rename_i n r
    obtain ⟨kd, h1, h2⟩ := bb_of h
    obtain ⟨⟨a0, a1, a2, a3, a4⟩, h4⟩ := gd_of h2
    cases h4
    obtain ⟨n, rfl⟩ := Int.eq_ofNat_of_zero_le a0
    rw [Int.toNat_natCast] at kk a4
    have b1 : k.1 + 1 ≤ j.1.cells := by omega
    have b2 : k.2 + n ≤ j.1.slots := by omega
    have b3 : n < 100000 := by omega
    unfold gkd at h1
    split at h1
    · cases h1; exact gz_newi b3 a2 b1 b2 hw.1 hd kk
    · cases h1; exact gz_newz b3 a2 b1 b2 hw.2.1 hd kk
    · cases h1; exact gz_newb b3 a2 b1 b2 hw.2.2.1 hd kk
    · cases h1; exact gz_newl b3 a2 b1 b2 hw.2.2.2 hd kk
    · cases h1
  · cases h
def s_ast (pc : Nat) (st : List bV) (sy : gS) (lg : gLg) (k : Nat × Nat) : Option gSt := match st with
  | .inl v :: .inl z :: .inr (.inr i) :: r => (match sy[i]? with
    | some (1, n, []) => if 0 ≤ z ∧ z < (n : Int) then some (pc + 1, r, sy, lg ++ [(i, z.toNat, v)], k) else none
    | _ => none)
  | _ => none
theorem s_ast_ok (hd : decode cc pc = .ok (.iastore, 1)) (h : s_ast pc st sy lg k = some (pc', st', sy', lg', k')) (kk : gZ own cc nL rt j pc' ls st' sy' (wrs lg' g0) k') : gZ own cc nL rt j pc ls st sy (wrs lg g0) k := by
  unfold s_ast at h
  split at h
  · split at h
    · rename_i hsy
      obtain ⟨h1, h2⟩ := gd_of h
      cases h2
      rw [wrs_one] at kk
      exact gz_iast hsy h1 hd kk
    · cases h
  · cases h
abbrev gFl : Type := List (Nat × Nat × Nat × Bool)
def gfd (fs : gFl) (idx : Nat) : Option (Nat × Nat × Nat × Bool) := fs.find? (fun x => x.1 == idx)
theorem gfd_of {fs : gFl} {idx : Nat} {x : Nat × Nat × Nat × Bool} (h : gfd fs idx = some x) : x ∈ fs ∧ x.1 = idx := ⟨List.mem_of_find?_eq_some h, by simpa using List.find?_some h⟩
def s_put (fs : gFl) (idx pc : Nat) (st : List bV) (sy : gS) (lg : gLg) (k : Nat × Nat) : Option gSt := match st with
  | .inr (.inr z) :: .inr (.inr i) :: r => (gfd fs idx).bind fun x => (match sy[i]? with
    | some (0, ci, fl) => if ci = x.2.1 ∧ x.2.2.1 < fl.length ∧ x.2.2.2 = true then some (pc + 3, r, sy.set i (0, ci, fl.set x.2.2.1 (some (z + 2))), lg, k) else none
    | _ => none)
  | .inl z :: .inr (.inr i) :: r => (gfd fs idx).bind fun x => (match sy[i]? with
    | some (0, ci, fl) => if ci = x.2.1 ∧ fl[x.2.2.1]? = some (some 0) ∧ x.2.2.2 = false then some (pc + 3, r, sy, lg ++ [(i, x.2.2.1, z)], k) else none
    | _ => none)
  | _ => none
theorem s_put_ok {fs : gFl} {idx : Nat} (hct : rt.2 = true) (hw : ∀ x ∈ fs, gFw own x.1 x.2.1 x.2.2.1 x.2.2.2) (hd : decode cc pc = .ok (.putfield idx, 3)) (h : s_put fs idx pc st sy lg k = some (pc', st', sy', lg', k')) (kk : gZ own cc nL rt j pc' ls st' sy' (wrs lg' g0) k') : gZ own cc nL rt j pc ls st sy (wrs lg g0) k := by
  unfold s_put at h
  split at h
  · obtain ⟨x, h1, h2⟩ := bb_of h
    obtain ⟨g1, g2⟩ := gfd_of h1
    have hx := hw x g1
    split at h2
    · rename_i hsy
      obtain ⟨⟨a1, a2, a3⟩, h3⟩ := gd_of h2
      cases h3
      subst a1 g2
      rw [a3] at hx
      exact gz_putR hct hx hsy a2 hd kk
    · cases h2
  · obtain ⟨x, h1, h2⟩ := bb_of h
    obtain ⟨g1, g2⟩ := gfd_of h1
    have hx := hw x g1
    split at h2
    · rename_i hsy
      obtain ⟨⟨a1, a2, a3⟩, h3⟩ := gd_of h2
      cases h3
      subst a1 g2
      rw [a3] at hx
      rw [wrs_one] at kk
      exact gz_putI hct hx hsy a2 hd kk
    · cases h2
  · cases h
def s_get (fs : gFl) (idx pc : Nat) (st : List bV) (sy : gS) (lg : gLg) (k : Nat × Nat) : Option gSt := match st with
  | .inr (.inr i) :: r => (gfd fs idx).bind fun x => (match sy[i]? with
    | some (0, ci, fl) => if ci = x.2.1 then (match fl[x.2.2.1]? with
      | some (some (z + 2)) => some (pc + 3, aR z :: r, sy, lg, k)
      | _ => none) else none
    | _ => none)
  | _ => none
theorem s_get_ok {fs : gFl} {idx : Nat} (hw : ∀ x ∈ fs, gFw own x.1 x.2.1 x.2.2.1 x.2.2.2) (hd : decode cc pc = .ok (.getfield idx, 3)) (h : s_get fs idx pc st sy lg k = some (pc', st', sy', lg', k')) (kk : gZ own cc nL rt j pc' ls st' sy' (wrs lg' g0) k') : gZ own cc nL rt j pc ls st sy (wrs lg g0) k := by
  unfold s_get at h
  split at h
  · obtain ⟨x, h1, h2⟩ := bb_of h
    obtain ⟨g1, g2⟩ := gfd_of h1
    have hx := hw x g1
    split at h2
    · rename_i hsy
      obtain ⟨a1, h3⟩ := gd_of h2
      split at h3
      · rename_i hfl
        cases h3
        subst a1 g2
        exact gz_getR hx hsy hfl hd kk
      · cases h3
    · cases h2
  · cases h
end GS
