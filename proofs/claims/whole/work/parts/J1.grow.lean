/-! ===== a system that grows: arrays of the other kinds, objects, fields ===== -/
section Grow1
variable {own : String} {cc : ByteArray} {nL : Nat} {rt : Option FieldType × Bool} {j : gJ} {pc : Nat} {ls : bLs} {st : List bV} {sy : gS} {m : bM} {k : Nat × Nat}
theorem gz_newz {n : Nat} (hn : n < 100000) (hl2 : sy.length < 204) (hk1 : k.1 + 1 ≤ j.1.cells) (hk2 : k.2 + n ≤ j.1.slots) (hw : Cond.arrayClass .boolean ∈ bT) (hd : decode cc pc = .ok (.newarray .boolean, 2)) (kk : gZ own cc nL rt j (pc + 2) ls (aR sy.length :: st) (sy ++ [(2, n, [])]) m (k.1 + 1, k.2 + n)) : gZ own cc nL rt j pc ls (aI (n : Int) :: st) sy m k := by
  intro p l e s mi args below meth c D aC ad base H locs la C had hl P hz hb hS hm hst hv
  obtain ⟨hx, hbb, hml, hown, hts, hr, hlk, hK, hnm, hN⟩ := id C
  have h32 : in32 (n : Int) := by unfold in32; omega
  refine W_size (fun hsz => ?_)
  have hsz2 := gW_size had hl P (Nat.le_trans hb hS.1)
  have hH : H.size = ad sy.length := by rw [had _ hl2]; omega
  refine va_newaK (atype := .boolean) hx hbb (hts _ hw) rfl hd rfl (n := Int32.ofInt (n : Int)) (N := n) ?_ (by rw [toNatI h32]; rfl) ?_ hk1 hk2 hH (fun H1 cA e1 z1 o1 hAr hNm => ?_)
  · rw [Int32.lt_iff_toInt_lt, toI h32]
    show ¬ (n : Int) < 0
    omega
  · show n * 1 ≤ 536870912
    omega
  · have hcA : cA = aC 1 := Option.some.inj (hNm.symm.trans (hK.2 1 _ rfl).2)
    subst hcA
    have hlt2 : ∀ q, q < H.size → H1[q]? = H[q]? := fun q hq => o1 q (by omega)
    refine kk p l e s mi args below meth c D aC ad base H1 locs la C had (by rw [List.length_append]; show sy.length + 1 ≤ 204; omega) ?_ ?_ hb ⟨Nat.le_trans hS.1 (by omega), fun q h1 h2 => (hlt2 q (Nat.lt_of_lt_of_le h1 hS.1)).trans (hS.2.1 q h1 h2), hS.2.2⟩ (fun a b hab => hm a b (by rw [List.length_append] at hab; omega)) (bok_cons trivial (bok_tl hst)) hv
    · rw [gW_app]
      refine (P.kept (fun q x hx => hlt2 x.1 ((P q x hx).lt))).app (fun q x hx => ?_)
      have hq : q < 1 := (List.getElem?_eq_some_iff.mp hx).1
      rw [show q = 0 by omega] at hx
      cases hx
      show H1[ad sy.length]? = some (vp_cell _ _)
      rw [show m sy.length = fun _ => 0 from funext (fun b => hm sy.length b (Nat.le_refl _))]
      exact e1
    · show s.heap.size + (k.1 + 1) = base + (sy ++ [(2, n, [])]).length
      rw [List.length_append]
      show s.heap.size + (k.1 + 1) = base + (sy.length + 1)
      omega
theorem gz_newb {n : Nat} (hn : n < 100000) (hl2 : sy.length < 204) (hk1 : k.1 + 1 ≤ j.1.cells) (hk2 : k.2 + n ≤ j.1.slots) (hw : Cond.arrayClass .byte ∈ bT) (hd : decode cc pc = .ok (.newarray .byte, 2)) (kk : gZ own cc nL rt j (pc + 2) ls (aR sy.length :: st) (sy ++ [(3, n, [])]) m (k.1 + 1, k.2 + n)) : gZ own cc nL rt j pc ls (aI (n : Int) :: st) sy m k := by
  intro p l e s mi args below meth c D aC ad base H locs la C had hl P hz hb hS hm hst hv
  obtain ⟨hx, hbb, hml, hown, hts, hr, hlk, hK, hnm, hN⟩ := id C
  have h32 : in32 (n : Int) := by unfold in32; omega
  refine W_size (fun hsz => ?_)
  have hsz2 := gW_size had hl P (Nat.le_trans hb hS.1)
  have hH : H.size = ad sy.length := by rw [had _ hl2]; omega
  refine va_newaK (atype := .byte) hx hbb (hts _ hw) rfl hd rfl (n := Int32.ofInt (n : Int)) (N := n) ?_ (by rw [toNatI h32]; rfl) ?_ hk1 hk2 hH (fun H1 cA e1 z1 o1 hAr hNm => ?_)
  · rw [Int32.lt_iff_toInt_lt, toI h32]
    show ¬ (n : Int) < 0
    omega
  · show n * 1 ≤ 536870912
    omega
  · have hcA : cA = aC 2 := Option.some.inj (hNm.symm.trans (hK.2 2 _ rfl).2)
    subst hcA
    have hlt2 : ∀ q, q < H.size → H1[q]? = H[q]? := fun q hq => o1 q (by omega)
    refine kk p l e s mi args below meth c D aC ad base H1 locs la C had (by rw [List.length_append]; show sy.length + 1 ≤ 204; omega) ?_ ?_ hb ⟨Nat.le_trans hS.1 (by omega), fun q h1 h2 => (hlt2 q (Nat.lt_of_lt_of_le h1 hS.1)).trans (hS.2.1 q h1 h2), hS.2.2⟩ (fun a b hab => hm a b (by rw [List.length_append] at hab; omega)) (bok_cons trivial (bok_tl hst)) hv
    · rw [gW_app]
      refine (P.kept (fun q x hx => hlt2 x.1 ((P q x hx).lt))).app (fun q x hx => ?_)
      have hq : q < 1 := (List.getElem?_eq_some_iff.mp hx).1
      rw [show q = 0 by omega] at hx
      cases hx
      show H1[ad sy.length]? = some (vp_cell _ _)
      rw [show m sy.length = fun _ => 0 from funext (fun b => hm sy.length b (Nat.le_refl _))]
      exact e1
    · show s.heap.size + (k.1 + 1) = base + (sy ++ [(3, n, [])]).length
      rw [List.length_append]
      show s.heap.size + (k.1 + 1) = base + (sy.length + 1)
      omega
theorem gz_newl {n : Nat} (hn : n < 100000) (hl2 : sy.length < 204) (hk1 : k.1 + 1 ≤ j.1.cells) (hk2 : k.2 + n ≤ j.1.slots) (hw : Cond.arrayClass .long ∈ bT) (hd : decode cc pc = .ok (.newarray .long, 2)) (kk : gZ own cc nL rt j (pc + 2) ls (aR sy.length :: st) (sy ++ [(4, n, [])]) m (k.1 + 1, k.2 + n)) : gZ own cc nL rt j pc ls (aI (n : Int) :: st) sy m k := by
  intro p l e s mi args below meth c D aC ad base H locs la C had hl P hz hb hS hm hst hv
  obtain ⟨hx, hbb, hml, hown, hts, hr, hlk, hK, hnm, hN⟩ := id C
  have h32 : in32 (n : Int) := by unfold in32; omega
  refine W_size (fun hsz => ?_)
  have hsz2 := gW_size had hl P (Nat.le_trans hb hS.1)
  have hH : H.size = ad sy.length := by rw [had _ hl2]; omega
  refine va_newaK (atype := .long) hx hbb (hts _ hw) rfl hd rfl (n := Int32.ofInt (n : Int)) (N := n) ?_ (by rw [toNatI h32]; rfl) ?_ hk1 hk2 hH (fun H1 cA e1 z1 o1 hAr hNm => ?_)
  · rw [Int32.lt_iff_toInt_lt, toI h32]
    show ¬ (n : Int) < 0
    omega
  · show n * 8 ≤ 536870912
    omega
  · have hcA : cA = aC 3 := Option.some.inj (hNm.symm.trans (hK.2 3 _ rfl).2)
    subst hcA
    have hlt2 : ∀ q, q < H.size → H1[q]? = H[q]? := fun q hq => o1 q (by omega)
    refine kk p l e s mi args below meth c D aC ad base H1 locs la C had (by rw [List.length_append]; show sy.length + 1 ≤ 204; omega) ?_ ?_ hb ⟨Nat.le_trans hS.1 (by omega), fun q h1 h2 => (hlt2 q (Nat.lt_of_lt_of_le h1 hS.1)).trans (hS.2.1 q h1 h2), hS.2.2⟩ (fun a b hab => hm a b (by rw [List.length_append] at hab; omega)) (bok_cons trivial (bok_tl hst)) hv
    · rw [gW_app]
      refine (P.kept (fun q x hx => hlt2 x.1 ((P q x hx).lt))).app (fun q x hx => ?_)
      have hq : q < 1 := (List.getElem?_eq_some_iff.mp hx).1
      rw [show q = 0 by omega] at hx
      cases hx
      show H1[ad sy.length]? = some (vp_cell _ _)
      rw [show m sy.length = fun _ => 0 from funext (fun b => hm sy.length b (Nat.le_refl _))]
      exact e1
    · show s.heap.size + (k.1 + 1) = base + (sy ++ [(4, n, [])]).length
      rw [List.length_append]
      show s.heap.size + (k.1 + 1) = base + (sy.length + 1)
      omega
theorem gfl_set (ad : Nat → Nat) (f : Nat → Int) (fl : List (Option Nat)) (i : Nat) (w : Option Nat) (f2 : Nat → Int) (hf : ∀ b, b ≠ i → f2 b = f b) : (gfl ad f 0 fl).set i (gfv ad f2 i w) = gfl ad f2 0 (fl.set i w) := by
  apply List.ext_getElem?
  intro n
  by_cases hk : i = n
  · subst hk
    by_cases hlt : i < fl.length
    · rw [List.getElem?_set_self (by rw [gfl_len]; exact hlt), gfl_get, List.getElem?_set_self hlt, Nat.zero_add]; rfl
    · rw [List.getElem?_eq_none (by rw [List.length_set, gfl_len]; omega), List.getElem?_eq_none (by rw [gfl_len, List.length_set]; omega)]
  · rw [List.getElem?_set_ne hk, gfl_get, gfl_get, List.getElem?_set_ne hk, Nat.zero_add]
    cases fl[n]? with
    | none => rfl
    | some v =>
      show some (gfv ad f n v) = some (gfv ad f2 n v)
      congr 1
      match v with
      | none => rfl
      | some 0 =>
        show Value.int _ = Value.int _
        rw [hf n (fun e => hk e.symm)]
      | some 1 =>
        show Value.long _ = Value.long _
        rw [hf n (fun e => hk e.symm)]
      | some (v + 2) => rfl
def gRT (t : FieldType) : Prop := ∀ a, narrow t (.ref a) = .ref a ∧ fits t (.ref a) = true
/-- what the tables say of a field's entry of a constructor's class -/
def gFw (own : String) (idx ci kf : Nat) (r : Bool) : Prop := ∃ (q : vw_C) (ty : Nat → FieldType), bCI ci q ty ∧ kf < q.2.2 ∧ Cond.fieldLink own idx (q.2.1 kf).1 (q.2.1 kf).2.1 (q.2.1 kf).2.2.1 ∈ bT ∧ ((q.2.1 kf).2.2.2 = false ∨ (q.2.1 kf).2.2.2 = true ∧ (q.2.1 kf).1 = own) ∧ (if r = true then gRT (ty kf) else ty kf = .int)
theorem gz_put {i ci kf idx : Nat} {r : Bool} {fl : List (Option Nat)} {v : bV} {w : Option Nat} {f2 : Nat → Int} (hct : rt.2 = true) (hw : gFw own idx ci kf r) (hsy : sy[i]? = some (0, ci, fl)) (hlt : kf < fl.length) (hr : ∀ ad, (if r = true then ∃ a, bcv ad v = .ref a else ∃ z, bcv ad v = .int z)) (hv : ∀ ad, bcv ad v = gfv ad f2 kf w) (hf : ∀ b, b ≠ kf → f2 b = m i b) (hd : decode cc pc = .ok (.putfield idx, 3)) (kk : gZ own cc nL rt j (pc + 3) ls st (sy.set i (0, ci, fl.set kf w)) (bup m i f2) k) : gZ own cc nL rt j pc ls (v :: aR i :: st) sy m k := by
  intro p l e s mi args below meth c D aC ad base H locs la C had hl P hz hb hS hm hst hvl
  obtain ⟨hx, hbb, hml, hown, hts, hret, hlk, hK, hnm, hN⟩ := id C
  obtain ⟨q, ty, hci, hk, hwd, hfin, hty0⟩ := hw
  obtain ⟨hc, hin, hty, hnm2⟩ := hci
  have hlt2 : i < sy.length := (List.getElem?_eq_some_iff.mp hsy).1
  have hnf : narrow (ty kf) (bcv ad v) = bcv ad v ∧ fits (ty kf) (bcv ad v) = true := by
    have h1 := hr ad
    cases r with
    | true =>
      obtain ⟨a, ha⟩ := h1
      rw [ha]
      exact hty0 a
    | false =>
      obtain ⟨a, ha⟩ := h1
      rw [ha, show ty kf = .int from hty0]
      exact ⟨rfl, rfl⟩
  have e1 : ∀ H1, va_P D bCL ((gW sy aC ad m).set i (ad i, .inr (ci, (gfl ad (m i) 0 fl).set kf (bcv ad v)))) H1 → va_P D bCL (gW (sy.set i (0, ci, fl.set kf w)) aC ad (bup m i f2)) H1 := fun H1 h => by
    rw [hv, gfl_set ad (m i) fl kf w f2 hf] at h
    rw [← gW_set hlt2]
    exact h
  have go : ∀ (H1 : Heap) (locs1 : List Loc), va_P D bCL ((gW sy aC ad m).set i (ad i, .inr (ci, (gfl ad (m i) 0 fl).set kf (bcv ad v)))) H1 → va_S (fun q => base ≤ q) s.heap H1 locs1 → W p l e j.1 s mi args below meth c H1 locs1 k.1 k.2 (j.2 below args s D aC ad base) (F0 mi (pc + 3) la (st.map (bcv ad))) := fun H1 locs1 hP1 hS1 => by
    refine kk p l e s mi args below meth c D aC ad base H1 locs1 la C had (by rw [List.length_set]; exact hl) (e1 H1 hP1) (by rw [List.length_set]; exact hz) hb hS1 (fun a b hab => ?_) (bok_tl (bok_tl hst)) hvl
    rw [List.length_set] at hab
    unfold bup
    rw [if_neg (by omega)]
    exact hm a b hab
  rcases hfin with hf1 | ⟨hf1, hf2⟩
  · exact va_put (C := q.1) (T := q.2.1) (N := q.2.2) (v := bcv ad v) (ty := ty kf) hx hbb hts hin ty hty hnm2 hown hK P (gW_D had hl) hS i (gW_get hsy) hc kf hk (hts _ hwd) (fun _ h9 => h9) hf1 (hty kf hk) hnf.1 hnf.2 (by show kf < (gfl ad (m i) 0 fl).length; rw [gfl_len]; exact hlt) hd (fun H1 locs1 hP1 hD1 hS1 => go H1 locs1 hP1 hS1)
  · exact va_putF (C := q.1) (T := q.2.1) (N := q.2.2) (v := bcv ad v) (ty := ty kf) hx hbb hts hin ty hty hnm2 hown hK P (gW_D had hl) hS i (gW_get hsy) hc kf hk (hts _ hwd) (fun _ h9 => h9) hf1 (hnm hct) hf2 (hty kf hk) hnf.1 hnf.2 (by show kf < (gfl ad (m i) 0 fl).length; rw [gfl_len]; exact hlt) hd (fun H1 locs1 hP1 hD1 hS1 => go H1 locs1 hP1 hS1)
theorem gz_putR {i ci kf idx z : Nat} {fl : List (Option Nat)} (hct : rt.2 = true) (hw : gFw own idx ci kf true) (hsy : sy[i]? = some (0, ci, fl)) (hlt : kf < fl.length) (hd : decode cc pc = .ok (.putfield idx, 3)) (kk : gZ own cc nL rt j (pc + 3) ls st (sy.set i (0, ci, fl.set kf (some (z + 2)))) m k) : gZ own cc nL rt j pc ls (aR z :: aR i :: st) sy m k := by
  refine gz_put (w := some (z + 2)) (f2 := m i) hct hw hsy hlt (fun ad => ⟨ad z, rfl⟩) (fun ad => rfl) (fun b _ => rfl) hd ?_
  have e : bup m i (m i) = m := by
    funext a b
    unfold bup
    by_cases h : a = i
    · rw [if_pos h, h]
    · rw [if_neg h]
  rw [e]
  exact kk
theorem gz_putI {i ci kf idx : Nat} {z : Int} {fl : List (Option Nat)} (hct : rt.2 = true) (hw : gFw own idx ci kf false) (hsy : sy[i]? = some (0, ci, fl)) (hfl : fl[kf]? = some (some 0)) (hd : decode cc pc = .ok (.putfield idx, 3)) (kk : gZ own cc nL rt j (pc + 3) ls st sy (bwr m i kf z) k) : gZ own cc nL rt j pc ls (aI z :: aR i :: st) sy m k := by
  have hlt : kf < fl.length := (List.getElem?_eq_some_iff.mp hfl).1
  have hlt2 : i < sy.length := (List.getElem?_eq_some_iff.mp hsy).1
  refine gz_put (w := some 0) (f2 := fun b => if b = kf then z else m i b) hct hw hsy hlt (fun ad => ⟨_, rfl⟩) (fun ad => ?_) (fun b hb => if_neg hb) hd ?_
  · show Value.int _ = Value.int (Int32.ofInt (if kf = kf then z else m i kf))
    rw [if_pos rfl]
  · rw [bwr_eq] at kk
    have e1 : fl.set kf (some 0) = fl := by
      apply List.ext_getElem?
      intro n
      by_cases hn : kf = n
      · subst hn; rw [List.getElem?_set_self hlt, hfl]
      · rw [List.getElem?_set_ne hn]
    have e2 : sy.set i (0, ci, fl) = sy := by
      apply List.ext_getElem?
      intro n
      by_cases hn : i = n
      · subst hn; rw [List.getElem?_set_self hlt2, hsy]
      · rw [List.getElem?_set_ne hn]
    rw [e1, e2]
    exact kk
theorem gz_getR {i ci kf idx z : Nat} {r : Bool} {fl : List (Option Nat)} (hw : gFw own idx ci kf r) (hsy : sy[i]? = some (0, ci, fl)) (hfl : fl[kf]? = some (some (z + 2))) (hd : decode cc pc = .ok (.getfield idx, 3)) (kk : gZ own cc nL rt j (pc + 3) ls (aR z :: st) sy m k) : gZ own cc nL rt j pc ls (aR i :: st) sy m k := by
  intro p l e s mi args below meth c D aC ad base H locs la C had hl P hz hb hS hm hst hvl
  obtain ⟨hx, hbb, hml, hown, hts, hret, hlk, hK, hnm, hN⟩ := id C
  obtain ⟨q, ty, hci, hk, hwd, hfin, hty0⟩ := hw
  obtain ⟨hc, hin, hty, hnm2⟩ := hci
  refine va_get (C := q.1) (T := q.2.1) (N := q.2.2) (v := .ref (ad z)) hx hbb hts hin hown hK P i (gW_get hsy) hc kf hk (hts _ hwd) (fun _ h9 => h9) ?_ hd ?_
  · rw [gfl_get, hfl]; rfl
  · exact kk p l e s mi args below meth c D aC ad base H locs la C had hl P hz hb hS hm (bok_cons (v := aR z) trivial (bok_tl hst)) hvl
theorem gz_new {idx ci : Nat} {q : vw_C} {ty : Nat → FieldType} {fl : List (Option Nat)} (hci : bCI ci q ty) (hcl : Cond.classLink own idx q.1 ∈ bT) (hinst : Cond.instantiable q.1 q.2.2 ∈ bT) (hini : Cond.initialized q.1 ∈ bT) (hfl : ∀ (ad : Nat → Nat) (b : Nat), b < q.2.2 → defaultValue (ty b) = vp_V (gfl ad (fun _ => 0) 0 fl) b) (hl2 : sy.length < 204) (hk1 : k.1 + 1 ≤ j.1.cells) (hk2 : k.2 + q.2.2 ≤ j.1.slots) (hd : decode cc pc = .ok (.new idx, 3)) (kk : gZ own cc nL rt j (pc + 3) ls (aR sy.length :: st) (sy ++ [(0, ci, fl)]) m (k.1 + 1, k.2 + q.2.2)) : gZ own cc nL rt j pc ls st sy m k := by
  intro p l e s mi args below meth c D aC ad base H locs la C had hl P hz hb hS hm hst hv
  obtain ⟨hx, hbb, hml, hown, hts, hr, hlk, hK, hnm, hN⟩ := id C
  obtain ⟨hc, hin, hty, hnm2⟩ := hci
  have hKn := hK.1 ci _ hc
  refine W_size (fun hsz => ?_)
  have hsz2 := gW_size had hl P (Nat.le_trans hb hS.1)
  have hH : H.size = ad sy.length := by rw [had _ hl2]; omega
  refine W.newcK hx hbb hown (hts _ hcl) (hts _ hinst) (hts _ hini) rfl hd hk1 hk2 hKn.2.1 hH (fun H1 kC hkC e1 z1 o1 => ?_)
  have hlt2 : ∀ q, q < H.size → H1[q]? = H[q]? := fun q hq => o1 q (by omega)
  refine kk p l e s mi args below meth c D aC ad base H1 locs la C had (by rw [List.length_append]; show sy.length + 1 ≤ 204; omega) ?_ ?_ hb ⟨Nat.le_trans hS.1 (by omega), fun q h1 h2 => (hlt2 q (Nat.lt_of_lt_of_le h1 hS.1)).trans (hS.2.1 q h1 h2), hS.2.2⟩ (fun a b hab => hm a b (by rw [List.length_append] at hab; omega)) (bok_cons trivial hst) hv
  · rw [gW_app]
    refine (P.kept (fun q x hx => hlt2 x.1 ((P q x hx).lt))).app (fun q x hx => ?_)
    have hq : q < 1 := (List.getElem?_eq_some_iff.mp hx).1
    rw [show q = 0 by omega] at hx
    cases hx
    rw [show m sy.length = fun _ => 0 from funext (fun b => hm sy.length b (Nat.le_refl _))]
    exact ⟨_, hc, (u_born ty hts hin hKn hkC e1 hty).to (hfl ad)⟩
  · show s.heap.size + (k.1 + 1) = base + (sy ++ [(0, ci, fl)]).length
    rw [List.length_append]
    show s.heap.size + (k.1 + 1) = base + (sy.length + 1)
    omega
end Grow1
