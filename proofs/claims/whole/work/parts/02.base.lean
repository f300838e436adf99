/-! ===== the abstract machine's words: memories of ints by cell and place, values, worlds ===== -/
abbrev bM : Type := Nat → Nat → Int
abbrev bV : Type := Int ⊕ (Int ⊕ Nat)
abbrev aI (v : Int) : bV := Sum.inl v
abbrev aL (v : Int) : bV := Sum.inr (Sum.inl v)
abbrev aR (i : Nat) : bV := Sum.inr (Sum.inr i)
def bcv (ad : Nat → Nat) (v : bV) : Value := match v with
  | .inl z => .int (Int32.ofInt z)
  | .inr (.inl z) => .long (Int64.ofInt z)
  | .inr (.inr i) => .ref (ad i)
/-! (recursion that never happens keeps these closed to unification) -/
def i32w (n : Nat) (z : Int) : Int := if h : n = 0 then (z + 2147483648) % 4294967296 - 2147483648 else i32w (n - 1) z
termination_by n
decreasing_by omega
def i32 (z : Int) : Int := i32w 0 z
def i64w (n : Nat) (z : Int) : Int := if h : n = 0 then (z + 9223372036854775808) % 18446744073709551616 - 9223372036854775808 else i64w (n - 1) z
termination_by n
decreasing_by omega
def i64 (z : Int) : Int := i64w 0 z
theorem i32_def (z : Int) : i32 z = (z + 2147483648) % 4294967296 - 2147483648 := by
  rw [i32, i32w, dif_pos rfl]
theorem i64_def (z : Int) : i64 z = (z + 9223372036854775808) % 18446744073709551616 - 9223372036854775808 := by
  rw [i64, i64w, dif_pos rfl]
def in32 (z : Int) : Prop := -2147483648 ≤ z ∧ z < 2147483648
def in64 (z : Int) : Prop := -9223372036854775808 ≤ z ∧ z < 9223372036854775808
def bok (v : bV) : Prop := match v with
  | .inl z => in32 z
  | .inr (.inl z) => in64 z
  | .inr (.inr _) => True
def bwr (m : bM) (i k : Nat) (z : Int) : bM := fun a b => if a = i then (if b = k then z else m a b) else m a b
def jandw (n : Nat) (a b : Int) : Int := if h : n = 0 then (Int32.ofInt a &&& Int32.ofInt b).toInt else jandw (n - 1) a b
termination_by n
decreasing_by omega
def jand (a b : Int) : Int := jandw 0 a b
theorem jand_def (a b : Int) : jand a b = (Int32.ofInt a &&& Int32.ofInt b).toInt := by
  rw [jand, jandw, dif_pos rfl]
def jorw (n : Nat) (a b : Int) : Int := if h : n = 0 then (Int32.ofInt a ||| Int32.ofInt b).toInt else jorw (n - 1) a b
termination_by n
decreasing_by omega
def jor (a b : Int) : Int := jorw 0 a b
theorem jor_def (a b : Int) : jor a b = (Int32.ofInt a ||| Int32.ofInt b).toInt := by
  rw [jor, jorw, dif_pos rfl]
def jxorw (n : Nat) (a b : Int) : Int := if h : n = 0 then (Int32.ofInt a ^^^ Int32.ofInt b).toInt else jxorw (n - 1) a b
termination_by n
decreasing_by omega
def jxor (a b : Int) : Int := jxorw 0 a b
theorem jxor_def (a b : Int) : jxor a b = (Int32.ofInt a ^^^ Int32.ofInt b).toInt := by
  rw [jxor, jxorw, dif_pos rfl]
def jshlw (n : Nat) (a b : Int) : Int := if h : n = 0 then (Int32.ofInt a <<< (Int32.ofInt b &&& 31)).toInt else jshlw (n - 1) a b
termination_by n
decreasing_by omega
def jshl (a b : Int) : Int := jshlw 0 a b
theorem jshl_def (a b : Int) : jshl a b = (Int32.ofInt a <<< (Int32.ofInt b &&& 31)).toInt := by
  rw [jshl, jshlw, dif_pos rfl]
def jshrw (n : Nat) (a b : Int) : Int := if h : n = 0 then (Int32.ofInt a >>> (Int32.ofInt b &&& 31)).toInt else jshrw (n - 1) a b
termination_by n
decreasing_by omega
def jshr (a b : Int) : Int := jshrw 0 a b
theorem jshr_def (a b : Int) : jshr a b = (Int32.ofInt a >>> (Int32.ofInt b &&& 31)).toInt := by
  rw [jshr, jshrw, dif_pos rfl]
def jushrw (n : Nat) (a b : Int) : Int := if h : n = 0 then ((Int32.ofInt a).toUInt32 >>> ((Int32.ofInt b).toUInt32 &&& Int32.toUInt32 31)).toInt32.toInt else jushrw (n - 1) a b
termination_by n
decreasing_by omega
def jushr (a b : Int) : Int := jushrw 0 a b
theorem jushr_def (a b : Int) : jushr a b = ((Int32.ofInt a).toUInt32 >>> ((Int32.ofInt b).toUInt32 &&& Int32.toUInt32 31)).toInt32.toInt := by
  rw [jushr, jushrw, dif_pos rfl]
def jdiv (a b : Int) : Int := i32 (a.tdiv b)
def jrem (a b : Int) : Int := i32 (a.tmod b)
def jb8 (a : Int) : Int := (Int32.ofInt a).toInt8.toInt
def jb16 (a : Int) : Int := (Int32.ofInt a).toInt16.toInt
def kandw (n : Nat) (a b : Int) : Int := if h : n = 0 then (Int64.ofInt a &&& Int64.ofInt b).toInt else kandw (n - 1) a b
termination_by n
decreasing_by omega
def kand (a b : Int) : Int := kandw 0 a b
theorem kand_def (a b : Int) : kand a b = (Int64.ofInt a &&& Int64.ofInt b).toInt := by
  rw [kand, kandw, dif_pos rfl]
def korw (n : Nat) (a b : Int) : Int := if h : n = 0 then (Int64.ofInt a ||| Int64.ofInt b).toInt else korw (n - 1) a b
termination_by n
decreasing_by omega
def kor (a b : Int) : Int := korw 0 a b
theorem kor_def (a b : Int) : kor a b = (Int64.ofInt a ||| Int64.ofInt b).toInt := by
  rw [kor, korw, dif_pos rfl]
def kxorw (n : Nat) (a b : Int) : Int := if h : n = 0 then (Int64.ofInt a ^^^ Int64.ofInt b).toInt else kxorw (n - 1) a b
termination_by n
decreasing_by omega
def kxor (a b : Int) : Int := kxorw 0 a b
theorem kxor_def (a b : Int) : kxor a b = (Int64.ofInt a ^^^ Int64.ofInt b).toInt := by
  rw [kxor, kxorw, dif_pos rfl]
def kshlw (n : Nat) (a b : Int) : Int := if h : n = 0 then (Int64.ofInt a <<< ((Int32.ofInt b).toInt64 &&& 63)).toInt else kshlw (n - 1) a b
termination_by n
decreasing_by omega
def kshl (a b : Int) : Int := kshlw 0 a b
theorem kshl_def (a b : Int) : kshl a b = (Int64.ofInt a <<< ((Int32.ofInt b).toInt64 &&& 63)).toInt := by
  rw [kshl, kshlw, dif_pos rfl]
def kshrw (n : Nat) (a b : Int) : Int := if h : n = 0 then (Int64.ofInt a >>> ((Int32.ofInt b).toInt64 &&& 63)).toInt else kshrw (n - 1) a b
termination_by n
decreasing_by omega
def kshr (a b : Int) : Int := kshrw 0 a b
theorem kshr_def (a b : Int) : kshr a b = (Int64.ofInt a >>> ((Int32.ofInt b).toInt64 &&& 63)).toInt := by
  rw [kshr, kshrw, dif_pos rfl]
def kcmp (a b : Int) : Int := if a < b then -1 else if a = b then 0 else 1
theorem i32_in (z : Int) : in32 (i32 z) := by rw [i32_def]; unfold in32; omega
theorem i64_in (z : Int) : in64 (i64 z) := by rw [i64_def]; unfold in64; omega
theorem i32_id {z : Int} (h : in32 z) : i32 z = z := by rw [i32_def]; unfold in32 at h; omega
theorem in32_toInt (w : Int32) : in32 w.toInt := ⟨Int32.le_toInt w, Int32.toInt_lt w⟩
theorem in64_toInt (w : Int64) : in64 w.toInt := ⟨Int64.le_toInt w, Int64.toInt_lt w⟩
theorem jand_in (a b : Int) : in32 (jand a b) := by rw [jand_def]; exact in32_toInt _
theorem jor_in (a b : Int) : in32 (jor a b) := by rw [jor_def]; exact in32_toInt _
theorem jxor_in (a b : Int) : in32 (jxor a b) := by rw [jxor_def]; exact in32_toInt _
theorem jshl_in (a b : Int) : in32 (jshl a b) := by rw [jshl_def]; exact in32_toInt _
theorem jshr_in (a b : Int) : in32 (jshr a b) := by rw [jshr_def]; exact in32_toInt _
theorem jushr_in (a b : Int) : in32 (jushr a b) := by rw [jushr_def]; exact in32_toInt _
theorem kand_in (a b : Int) : in64 (kand a b) := by rw [kand_def]; exact in64_toInt _
theorem kor_in (a b : Int) : in64 (kor a b) := by rw [kor_def]; exact in64_toInt _
theorem kxor_in (a b : Int) : in64 (kxor a b) := by rw [kxor_def]; exact in64_toInt _
theorem kshl_in (a b : Int) : in64 (kshl a b) := by rw [kshl_def]; exact in64_toInt _
theorem kshr_in (a b : Int) : in64 (kshr a b) := by rw [kshr_def]; exact in64_toInt _
theorem toI {z : Int} (h : in32 z) : (Int32.ofInt z).toInt = z := Int32.toInt_ofInt_of_le h.1 h.2
theorem toL {z : Int} (h : in64 z) : (Int64.ofInt z).toInt = z := Int64.toInt_ofInt_of_le h.1 h.2
theorem ofI_i32 (z : Int) : Int32.ofInt (i32 z) = Int32.ofInt z := by
  apply Int32.toInt_inj.mp
  rw [toI (i32_in z), Int32.toInt_ofInt]
  rw [i32_def]
  show _ = Int.bmod z 4294967296
  unfold Int.bmod
  dsimp only
  split <;> omega
theorem ofL_i64 (z : Int) : Int64.ofInt (i64 z) = Int64.ofInt z := by
  apply Int64.toInt_inj.mp
  rw [toL (i64_in z), Int64.toInt_ofInt]
  rw [i64_def]
  show _ = Int.bmod z 18446744073709551616
  unfold Int.bmod
  dsimp only
  split <;> omega
theorem ofI_lt {a b : Int} (ha : in32 a) (hb : in32 b) : (Int32.ofInt a < Int32.ofInt b) ↔ a < b := by
  rw [Int32.lt_iff_toInt_lt, toI ha, toI hb]
theorem ofI_le {a b : Int} (ha : in32 a) (hb : in32 b) : (Int32.ofInt a ≤ Int32.ofInt b) ↔ a ≤ b := by
  rw [Int32.le_iff_toInt_le, toI ha, toI hb]
theorem ofI_eq {a b : Int} (ha : in32 a) (hb : in32 b) : (Int32.ofInt a = Int32.ofInt b) ↔ a = b := by
  rw [← Int32.toInt_inj, toI ha, toI hb]
theorem ofI_div {a b : Int} (ha : in32 a) (hb : in32 b) : Int32.ofInt a / Int32.ofInt b = Int32.ofInt (jdiv a b) := by
  unfold jdiv
  rw [ofI_i32, Int32.ofInt_tdiv]
  · exact ha.1
  · have := ha.2; show a ≤ 2147483647; omega
  · exact hb.1
  · have := hb.2; show b ≤ 2147483647; omega
theorem ofI_rem {a b : Int} (ha : in32 a) (hb : in32 b) : Int32.ofInt a - Int32.ofInt a / Int32.ofInt b * Int32.ofInt b = Int32.ofInt (jrem a b) := by
  unfold jrem
  rw [ofI_i32, ofI_div ha hb, Int.tmod_def]
  unfold jdiv
  rw [ofI_i32, ← Int32.ofInt_mul, ← Int32.ofInt_sub, Int.mul_comm]
theorem toNatI {z : Int} (h : in32 z) : (Int32.ofInt z).toNatClampNeg = z.toNat := by
  show (Int32.ofInt z).toInt.toNat = z.toNat
  rw [toI h]
theorem inI {z : Int} {n : Nat} (h : in32 z) (h2 : 0 ≤ z ∧ z < n) : vp_in (Int32.ofInt z) n := by
  rw [vp_in_iff, toI h]; exact h2
/-! the entries of a system: (kind, class or length, fields): 0 an object (a field: 0 int, 1 long, n + 2 the cell n); 1 ints, 2 booleans, 3 bytes, 4 longs -/
abbrev bE : Type := Nat × Nat × List Nat
abbrev bS : Type := List bE
def bfv (ad : Nat → Nat) (f : Nat → Int) (k : Nat) (w : Nat) : Value := match w with
  | 0 => .int (Int32.ofInt (f k))
  | 1 => .long (Int64.ofInt (f k))
  | n + 2 => .ref (ad n)
def bfl (ad : Nat → Nat) (f : Nat → Int) : Nat → List Nat → List Value
  | _, [] => []
  | k, w :: r => bfv ad f k w :: bfl ad f (k + 1) r
def bcell (aC : Nat → ClassId) (ad : Nat → Nat) (en : bE) (f : Nat → Int) : va_E := match en.1 with
  | 0 => .inr (en.2.1, bfl ad f 0 en.2.2)
  | 1 => .inl (aC 0, en.2.1, .inl (fun k => Int32.ofInt (f k)))
  | 2 => .inl (aC 1, en.2.1, .inl (fun k => Int32.ofInt (f k)))
  | 3 => .inl (aC 2, en.2.1, .inl (fun k => Int32.ofInt (f k)))
  | _ => .inl (aC 3, en.2.1, .inr (.inl (fun k => Int64.ofInt (f k))))
def bwl (aC : Nat → ClassId) (ad : Nat → Nat) (m : bM) : Nat → bS → va_W
  | _, [] => []
  | k, en :: r => (ad k, bcell aC ad en (m k)) :: bwl aC ad m (k + 1) r
def bW (sy : bS) (aC : Nat → ClassId) (ad : Nat → Nat) (m : bM) : va_W := bwl aC ad m 0 sy
theorem bfl_get (ad : Nat → Nat) (f : Nat → Int) : ∀ (fl : List Nat) (k0 k : Nat), (bfl ad f k0 fl)[k]? = (fl[k]?).map (bfv ad f (k0 + k))
  | [], _, _ => rfl
  | w :: r, k0, 0 => rfl
  | w :: r, k0, k + 1 => by
    show (bfl ad f (k0 + 1) r)[k]? = (r[k]?).map _
    rw [bfl_get ad f r (k0 + 1) k, show k0 + 1 + k = k0 + (k + 1) by omega]
theorem bwl_get (aC : Nat → ClassId) (ad : Nat → Nat) (m : bM) : ∀ (sy : bS) (k0 k : Nat), (bwl aC ad m k0 sy)[k]? = (sy[k]?).map (fun en => (ad (k0 + k), bcell aC ad en (m (k0 + k))))
  | [], _, _ => rfl
  | en :: r, k0, 0 => rfl
  | en :: r, k0, k + 1 => by
    show (bwl aC ad m (k0 + 1) r)[k]? = (r[k]?).map _
    rw [bwl_get aC ad m r (k0 + 1) k, show k0 + 1 + k = k0 + (k + 1) by omega]
theorem bW_get {sy : bS} {aC : Nat → ClassId} {ad : Nat → Nat} {m : bM} {i : Nat} {en : bE} (h : sy[i]? = some en) : (bW sy aC ad m)[i]? = some (ad i, bcell aC ad en (m i)) := by
  unfold bW
  rw [bwl_get, h, Nat.zero_add]; rfl
theorem bfl_len (ad : Nat → Nat) (f : Nat → Int) : ∀ (fl : List Nat) (k0 : Nat), (bfl ad f k0 fl).length = fl.length
  | [], _ => rfl
  | _ :: r, k0 => congrArg (· + 1) (bfl_len ad f r (k0 + 1))
/-- one cell of a memory becomes another -/
def bup (m : bM) (i : Nat) (f : Nat → Int) : bM := fun a => if a = i then f else m a
theorem bwr_eq (m : bM) (i k : Nat) (z : Int) : bwr m i k z = bup m i (fun b => if b = k then z else m i b) := by
  funext a b
  unfold bwr bup
  by_cases h : a = i
  · subst h; simp
  · simp [h]
theorem bW_set {sy : bS} {aC : Nat → ClassId} {ad : Nat → Nat} {m : bM} {i : Nat} {en : bE} (h : sy[i]? = some en) (f : Nat → Int) : (bW sy aC ad m).set i (ad i, bcell aC ad en f) = bW sy aC ad (bup m i f) := by
  apply List.ext_getElem?
  intro k
  have hlen : ∀ (mm : bM), (bW sy aC ad mm)[k]? = (sy[k]?).map (fun en => (ad k, bcell aC ad en (mm k))) := fun mm => by
    unfold bW; rw [bwl_get, Nat.zero_add]
  by_cases hk : i = k
  · subst hk
    have hl : i < (bW sy aC ad m).length := (List.getElem?_eq_some_iff.mp (bW_get (aC := aC) (ad := ad) (m := m) h)).1
    rw [List.getElem?_set_self hl, hlen, h]
    simp [bup]
  · rw [List.getElem?_set_ne hk, hlen, hlen]
    simp [bup, Ne.symm hk]
def bA (sy : bS) (ad : Nat → Nat) (sz : Nat) : Nat → Prop := fun q => (∃ i : Nat, i < sy.length ∧ q = ad i) ∨ sz ≤ q
theorem bW_some {sy : bS} {aC : Nat → ClassId} {ad : Nat → Nat} {m : bM} {k : Nat} {q : Nat × va_E} (h : (bW sy aC ad m)[k]? = some q) : k < sy.length ∧ q.1 = ad k := by
  unfold bW at h
  rw [bwl_get, Nat.zero_add] at h
  cases hs : sy[k]? with
  | none => rw [hs] at h; cases h
  | some en =>
    rw [hs] at h
    cases h
    exact ⟨(List.getElem?_eq_some_iff.mp hs).1, rfl⟩
theorem bW_D {sy : bS} {aC : Nat → ClassId} {ad : Nat → Nat} {m : bM} (m2 : bM) {A : Nat → Prop} (h : va_D A (bW sy aC ad m)) : va_D A (bW sy aC ad m2) := by
  have key : ∀ (k : Nat) (q : Nat × va_E), (bW sy aC ad m2)[k]? = some q → ∃ q0, (bW sy aC ad m)[k]? = some q0 ∧ q0.1 = q.1 := by
    intro k q hk
    obtain ⟨h1, h2⟩ := bW_some hk
    obtain ⟨en, he⟩ : ∃ en, sy[k]? = some en := ⟨_, List.getElem?_eq_getElem h1⟩
    exact ⟨_, bW_get he, h2.symm⟩
  refine ⟨fun i j a b hi hj hab => ?_, fun k q hk => ?_⟩
  · obtain ⟨a0, h1, h2⟩ := key i a hi
    obtain ⟨b0, h3, h4⟩ := key j b hj
    exact h.1 i j a0 b0 h1 h3 (h2.trans (hab.trans h4.symm))
  · obtain ⟨q0, h1, h2⟩ := key k q hk
    rw [← h2]; exact h.2 k q0 h1
/-- every number of a memory is of its kind -/
def bwf (sy : bS) (m : bM) : Prop := ∀ (i k : Nat), match sy[i]? with
  | some (0, _, fl) => match fl[k]? with
    | some 1 => in64 (m i k)
    | _ => in32 (m i k)
  | some (1, _, _) => in32 (m i k)
  | some (2, _, _) => 0 ≤ m i k ∧ m i k ≤ 1
  | some (3, _, _) => -128 ≤ m i k ∧ m i k ≤ 127
  | some (_, _, _) => in64 (m i k)
  | none => True
def btys (aC : Nat → ClassId) : List (ClassId × FieldType) := [(aC 0, .int), (aC 1, .boolean), (aC 2, .byte), (aC 3, .long)]
def brm (d : Nat) : Room := { frames := d + 1, cells := 0, slots := 0, locals := 48 * (d + 1) }
theorem wr_get_same (m : bM) (i k : Nat) (z : Int) : bwr m i k z i k = z := by simp [bwr]
