/-! ===== meanings, as rows to rewrite with ===== -/
theorem nrf {α : Sort _} {a b : α} (h : a = b) : a = b := h
def bfin (r : Option bRs) : Option (bM × Int) := match r with
  | some (.inr q) => some q
  | _ => none
theorem bfin_r (q : bM × Int) : bfin (some (.inr q)) = some q := nrf rfl
theorem bfin_ite {c : Prop} [Decidable c] {a b : Option bRs} : bfin (if c then a else b) = if c then bfin a else bfin b := by split <;> rfl
section Den
variable {κ : bK} {cal : bCl} {ls : bLs} {m : bM}
theorem d_rLoc1 {i c : Nat} : (rLoc i c : ER κ).1.2.1 = (i, c) := nrf rfl
theorem d_rLoc2 {i c : Nat} : (rLoc i c : ER κ).1.2.2 = c := nrf rfl
theorem d_rFld1 {idx ci k c : Nat} {r : ER κ} {h : bFL κ.1 idx ci k} : (rFld r c h).1.2.1 = r.1.2.1 := nrf rfl
theorem d_rFld2 {idx ci k c : Nat} {r : ER κ} {h : bFL κ.1 idx ci k} : (rFld r c h).1.2.2 = c := nrf rfl
theorem d_eInt {n : Int} : (eInt n : EI κ).1.2 cal ls m = some (n, m) := nrf rfl
theorem d_eLdc {idx : Nat} {n : Int} {h : bKI κ.1 idx n} : (eLdc n h).1.2 cal ls m = some (n, m) := nrf rfl
theorem d_eLdw {idx : Nat} {n : Int} {h : bKI κ.1 idx n} : (eLdw n h).1.2 cal ls m = some (n, m) := nrf rfl
theorem d_eLoc {i : Nat} : (eLoc i : EI κ).1.2 cal ls m = (getI ls i).map (·, m) := nrf rfl
theorem d_eFld {idx ci k : Nat} {r : ER κ} {h : bFL κ.1 idx ci k} : (eFld r h).1.2 cal ls m = if getR ls r.1.2.1.1 = some r.1.2.1.2 then some (m r.1.2.2 k, m) else none := nrf rfl
theorem d_lFld {idx ci k : Nat} {r : ER κ} {h : bFL κ.1 idx ci k} : (lFld r h).1.2 cal ls m = if getR ls r.1.2.1.1 = some r.1.2.1.2 then some (m r.1.2.2 k, m) else none := nrf rfl
theorem d_eAI {n : Nat} {r : ER κ} {e : EI κ} : (eAI n r e).1.2 cal ls m = if getR ls r.1.2.1.1 = some r.1.2.1.2 then (e.1.2 cal ls m).bind fun x => if 0 ≤ x.1 ∧ x.1 < (n : Int) then some (x.2 r.1.2.2 x.1.toNat, x.2) else none else none := nrf rfl
theorem d_eAZ {n : Nat} {r : ER κ} {e : EI κ} : (eAZ n r e).1.2 cal ls m = if getR ls r.1.2.1.1 = some r.1.2.1.2 then (e.1.2 cal ls m).bind fun x => if 0 ≤ x.1 ∧ x.1 < (n : Int) then some (x.2 r.1.2.2 x.1.toNat, x.2) else none else none := nrf rfl
theorem d_eAB {n : Nat} {r : ER κ} {e : EI κ} : (eAB n r e).1.2 cal ls m = if getR ls r.1.2.1.1 = some r.1.2.1.2 then (e.1.2 cal ls m).bind fun x => if 0 ≤ x.1 ∧ x.1 < (n : Int) then some (x.2 r.1.2.2 x.1.toNat, x.2) else none else none := nrf rfl
theorem d_lAL {n : Nat} {r : ER κ} {e : EI κ} : (lAL n r e).1.2 cal ls m = if getR ls r.1.2.1.1 = some r.1.2.1.2 then (e.1.2 cal ls m).bind fun x => if 0 ≤ x.1 ∧ x.1 < (n : Int) then some (x.2 r.1.2.2 x.1.toNat, x.2) else none else none := nrf rfl
theorem d_eAD {i : Nat} {e : EI κ} : (eAD i e).1.2 cal ls m = (getR ls i).bind fun c => (e.1.2 cal ls m).bind fun x => if 0 ≤ x.1 ∧ x.1 < (bln c : Int) then some (x.2 c x.1.toNat, x.2) else none := nrf rfl
theorem d_eLen {i : Nat} : (eLen i : EI κ).1.2 cal ls m = (getR ls i).bind fun c => if bal c (bln c) = true then some ((bln c : Int), m) else none := nrf rfl
theorem d_eAdd {a b : EI κ} : (eAdd a b).1.2 cal ls m = (a.1.2 cal ls m).bind fun x => (b.1.2 cal ls x.2).bind fun y => some (i32 (x.1 + y.1), y.2) := nrf rfl
theorem d_eSub {a b : EI κ} : (eSub a b).1.2 cal ls m = (a.1.2 cal ls m).bind fun x => (b.1.2 cal ls x.2).bind fun y => some (i32 (x.1 - y.1), y.2) := nrf rfl
theorem d_eMul {a b : EI κ} : (eMul a b).1.2 cal ls m = (a.1.2 cal ls m).bind fun x => (b.1.2 cal ls x.2).bind fun y => some (i32 (x.1 * y.1), y.2) := nrf rfl
theorem d_eAnd {a b : EI κ} : (eAnd a b).1.2 cal ls m = (a.1.2 cal ls m).bind fun x => (b.1.2 cal ls x.2).bind fun y => some (jand x.1 y.1, y.2) := nrf rfl
theorem d_eOr {a b : EI κ} : (eOr a b).1.2 cal ls m = (a.1.2 cal ls m).bind fun x => (b.1.2 cal ls x.2).bind fun y => some (jor x.1 y.1, y.2) := nrf rfl
theorem d_eXor {a b : EI κ} : (eXor a b).1.2 cal ls m = (a.1.2 cal ls m).bind fun x => (b.1.2 cal ls x.2).bind fun y => some (jxor x.1 y.1, y.2) := nrf rfl
theorem d_eShl {a b : EI κ} : (eShl a b).1.2 cal ls m = (a.1.2 cal ls m).bind fun x => (b.1.2 cal ls x.2).bind fun y => some (jshl x.1 y.1, y.2) := nrf rfl
theorem d_eShr {a b : EI κ} : (eShr a b).1.2 cal ls m = (a.1.2 cal ls m).bind fun x => (b.1.2 cal ls x.2).bind fun y => some (jshr x.1 y.1, y.2) := nrf rfl
theorem d_eUsh {a b : EI κ} : (eUsh a b).1.2 cal ls m = (a.1.2 cal ls m).bind fun x => (b.1.2 cal ls x.2).bind fun y => some (jushr x.1 y.1, y.2) := nrf rfl
theorem d_lAdd {a b : EL κ} : (lAdd a b).1.2 cal ls m = (a.1.2 cal ls m).bind fun x => (b.1.2 cal ls x.2).bind fun y => some (i64 (x.1 + y.1), y.2) := nrf rfl
theorem d_lSub {a b : EL κ} : (lSub a b).1.2 cal ls m = (a.1.2 cal ls m).bind fun x => (b.1.2 cal ls x.2).bind fun y => some (i64 (x.1 - y.1), y.2) := nrf rfl
theorem d_lMul {a b : EL κ} : (lMul a b).1.2 cal ls m = (a.1.2 cal ls m).bind fun x => (b.1.2 cal ls x.2).bind fun y => some (i64 (x.1 * y.1), y.2) := nrf rfl
theorem d_lAnd {a b : EL κ} : (lAnd a b).1.2 cal ls m = (a.1.2 cal ls m).bind fun x => (b.1.2 cal ls x.2).bind fun y => some (kand x.1 y.1, y.2) := nrf rfl
theorem d_lOr {a b : EL κ} : (lOr a b).1.2 cal ls m = (a.1.2 cal ls m).bind fun x => (b.1.2 cal ls x.2).bind fun y => some (kor x.1 y.1, y.2) := nrf rfl
theorem d_lXor {a b : EL κ} : (lXor a b).1.2 cal ls m = (a.1.2 cal ls m).bind fun x => (b.1.2 cal ls x.2).bind fun y => some (kxor x.1 y.1, y.2) := nrf rfl
theorem d_lShl {a : EL κ} {b : EI κ} : (lShl a b).1.2 cal ls m = (a.1.2 cal ls m).bind fun x => (b.1.2 cal ls x.2).bind fun y => some (kshl x.1 y.1, y.2) := nrf rfl
theorem d_lShr {a : EL κ} {b : EI κ} : (lShr a b).1.2 cal ls m = (a.1.2 cal ls m).bind fun x => (b.1.2 cal ls x.2).bind fun y => some (kshr x.1 y.1, y.2) := nrf rfl
theorem d_eDiv {a b : EI κ} : (eDiv a b).1.2 cal ls m = (a.1.2 cal ls m).bind fun x => (b.1.2 cal ls x.2).bind fun y => if y.1 ≠ 0 then some (jdiv x.1 y.1, y.2) else none := nrf rfl
theorem d_eRem {a b : EI κ} : (eRem a b).1.2 cal ls m = (a.1.2 cal ls m).bind fun x => (b.1.2 cal ls x.2).bind fun y => if y.1 ≠ 0 then some (jrem x.1 y.1, y.2) else none := nrf rfl
theorem d_eCmp {a b : EL κ} : (eCmp a b).1.2 cal ls m = (a.1.2 cal ls m).bind fun x => (b.1.2 cal ls x.2).bind fun y => some (kcmp x.1 y.1, y.2) := nrf rfl
theorem d_eI2B {a : EI κ} : (eI2B a).1.2 cal ls m = (a.1.2 cal ls m).bind fun x => some (jb8 x.1, x.2) := nrf rfl
theorem d_eI2S {a : EI κ} : (eI2S a).1.2 cal ls m = (a.1.2 cal ls m).bind fun x => some (jb16 x.1, x.2) := nrf rfl
theorem d_eL2I {a : EL κ} : (eL2I a).1.2 cal ls m = (a.1.2 cal ls m).bind fun x => some (i32 x.1, x.2) := nrf rfl
theorem d_lI2L {a : EI κ} : (lI2L a).1.2 cal ls m = (a.1.2 cal ls m).bind fun x => some (x.1, x.2) := nrf rfl
theorem d_lInt {n : Fin 2} : (lInt n : EL κ).1.2 cal ls m = some ((n.val : Int), m) := nrf rfl
theorem d_lLdc {idx : Nat} {n : Int} {h : bKL κ.1 idx n} : (lLdc n h).1.2 cal ls m = some (n, m) := nrf rfl
theorem d_lLoc {i : Nat} : (lLoc i : EL κ).1.2 cal ls m = (getL ls i).map (·, m) := nrf rfl
theorem d_eIte {c : EC κ} {a b : EI κ} : (eIte c a b).1.2 cal ls m = (c.1.2 cal ls m).bind fun t => if t.1 = true then a.1.2 cal ls t.2 else b.1.2 cal ls t.2 := nrf rfl
theorem d_lIte {c : EC κ} {a b : EL κ} : (lIte c a b).1.2 cal ls m = (c.1.2 cal ls m).bind fun t => if t.1 = true then a.1.2 cal ls t.2 else b.1.2 cal ls t.2 := nrf rfl
theorem d_eMax {idx : Nat} {a b : EI κ} {h : ∀ w ∈ [Cond.methodLink κ.1 idx Lib.Math.max.name, Cond.static Lib.Math.max.name, Cond.initialized "java/lang/Math", Cond.code Lib.Math.max.name Lib.Math.max.code 2 (some .int)], w ∈ bT} : (eMax a b h).1.2 cal ls m = (a.1.2 cal ls m).bind fun x => (b.1.2 cal ls x.2).bind fun y => some (jmax x.1 y.1, y.2) := nrf rfl
theorem d_eMin {idx : Nat} {a b : EI κ} {h : ∀ w ∈ [Cond.methodLink κ.1 idx Lib.Math.min.name, Cond.static Lib.Math.min.name, Cond.initialized "java/lang/Math", Cond.code Lib.Math.min.name Lib.Math.min.code 2 (some .int)], w ∈ bT} : (eMin a b h).1.2 cal ls m = (a.1.2 cal ls m).bind fun x => (b.1.2 cal ls x.2).bind fun y => some (jmin x.1 y.1, y.2) := nrf rfl
theorem d_eAbs {idx : Nat} {a : EI κ} {h : ∀ w ∈ [Cond.methodLink κ.1 idx Lib.Math.abs.name, Cond.static Lib.Math.abs.name, Cond.initialized "java/lang/Math", Cond.code Lib.Math.abs.name Lib.Math.abs.code 1 (some .int)], w ∈ bT} : (eAbs a h).1.2 cal ls m = (a.1.2 cal ls m).bind fun x => some (jabs x.1, x.2) := nrf rfl
theorem d_eAbove {idx : Nat} {e : EI κ} {h : Cond.fieldLink κ.1 idx RX3 "ABOVE" "[I" ∈ bT} : (eAbove e h).1.2 cal ls m = (e.1.2 cal ls m).bind fun x => if 0 ≤ x.1 ∧ x.1 < 7 then some (gAbove.getD x.1.toNat 0, x.2) else none := nrf rfl
theorem d_eBodies {idx : Nat} {e : EI κ} {h : Cond.fieldLink κ.1 idx RX3 "BODIES" "[I" ∈ bT} : (eBodies e h).1.2 cal ls m = (e.1.2 cal ls m).bind fun x => if 0 ≤ x.1 ∧ x.1 < 28 then some (gBodies.getD x.1.toNat 0, x.2) else none := nrf rfl
theorem d_cQ {o : Nat} {a b : EI κ} : (cQ o a b).1.2 cal ls m = (a.1.2 cal ls m).bind fun x => (b.1.2 cal ls x.2).bind fun y => some (cop o x.1 y.1, y.2) := nrf rfl
theorem d_cZ {o : Nat} {a : EI κ} : (cZ o a).1.2 cal ls m = (a.1.2 cal ls m).bind fun x => some (cop o x.1 0, x.2) := nrf rfl
theorem d_cNot {c : EC κ} : (cNot c).1.2 cal ls m = (c.1.2 cal ls m).map fun t => (!t.1, t.2) := nrf rfl
theorem d_cAnd {c d : EC κ} : (cAnd c d).1.2 cal ls m = (c.1.2 cal ls m).bind fun t => if t.1 = true then d.1.2 cal ls t.2 else some (false, t.2) := nrf rfl
theorem d_cOr {c d : EC κ} : (cOr c d).1.2 cal ls m = (c.1.2 cal ls m).bind fun t => if t.1 = true then some (true, t.2) else d.1.2 cal ls t.2 := nrf rfl
theorem d_gNil  : (gNil : EG κ).1.2.1 cal ls m = some ([], m) := nrf rfl
theorem d_gI {e : EI κ} {g : EG κ} : (gI e g).1.2.1 cal ls m = (e.1.2 cal ls m).bind fun x => (g.1.2.1 cal ls x.2).bind fun y => some (aI x.1 :: y.1, y.2) := nrf rfl
theorem d_gL {e : EL κ} {g : EG κ} : (gL e g).1.2.1 cal ls m = (e.1.2 cal ls m).bind fun x => (g.1.2.1 cal ls x.2).bind fun y => some (aL x.1 :: y.1, y.2) := nrf rfl
theorem d_gR {r : ER κ} {g : EG κ} : (gR r g).1.2.1 cal ls m = if getR ls r.1.2.1.1 = some r.1.2.1.2 then (g.1.2.1 cal ls m).bind fun y => some (aR r.1.2.2 :: y.1, y.2) else none := nrf rfl
theorem d_gD {i : Nat} {g : EG κ} : (gD i g).1.2.1 cal ls m = (getR ls i).bind fun c => (g.1.2.1 cal ls m).bind fun y => some (aR c :: y.1, y.2) := nrf rfl
theorem d_xV {idx ci n f : Nat} {r : ER κ} {g : EG κ} {h : bCV κ.1 idx f ci n} : (xV f r g h).1.2 cal ls m = if getR ls r.1.2.1.1 = some r.1.2.1.2 then (g.1.2.1 cal ls m).bind fun x => cal f (aR r.1.2.2 :: x.1) x.2 else none := nrf rfl
theorem d_xS {idx n f : Nat} {g : EG κ} {h : bCS κ.1 idx f n} : (xS f g h).1.2 cal ls m = (g.1.2.1 cal ls m).bind fun x => cal f x.1 x.2 := nrf rfl
theorem d_xN {idx f : Nat} {g : EG κ} {h : bCN κ.1 idx f} : (xN f g h).1.2 cal ls m = (g.1.2.1 cal ls m).bind fun x => cal f x.1 x.2 := nrf rfl
theorem d_xT {idx n f : Nat} {g : EG κ} {h : bCT κ.1 idx f n} : (xT f g h).1.2 cal ls m = (g.1.2.1 cal ls m).bind fun x => cal f (aR 1002 :: x.1) x.2 := nrf rfl
theorem d_eCall {f : Nat} {x : XC κ f} {h : brt f 1} : (eCall x h).1.2 cal ls m = (x.1.2 cal ls m).map fun r => (r.2, r.1) := nrf rfl
theorem d_lCall {f : Nat} {x : XC κ f} {h : brt f 2} : (lCall x h).1.2 cal ls m = (x.1.2 cal ls m).map fun r => (r.2, r.1) := nrf rfl
theorem d_eCallC {f : Nat} {x : XC κ f} {h : (bInfo f).2.2.2 = some .char} : (eCallC x h).1.2 cal ls m = (x.1.2 cal ls m).map fun r => (r.2, r.1) := nrf rfl
theorem d_sNop  : (sNop : ES κ).1.2 cal ls m = some (.inl (0, ls, m)) := nrf rfl
theorem d_sSet {i : Nat} {e : EI κ} : (sSet i e).1.2 cal ls m = ((e.1.2 cal ls m).bind fun x => if bnl ls i = true then some (ls.set i (some (aI x.1)), x.2) else none).map fun x => Sum.inl (0, x.1, x.2) := nrf rfl
theorem d_sSetL {i : Nat} {e : EL κ} : (sSetL i e).1.2 cal ls m = ((e.1.2 cal ls m).bind fun x => if bnl ls i = true then some ((ls.set i (some (aL x.1))).set (i + 1) none, x.2) else none).map fun x => Sum.inl (0, x.1, x.2) := nrf rfl
theorem d_sSetR {i : Nat} {c : EC κ} {a b : ER κ} : (sSetR i c a b).1.2 cal ls m = ((c.1.2 cal ls m).bind fun t => if bnl ls i = true then (if t.1 = true then (if getR ls a.1.2.1.1 = some a.1.2.1.2 then some (ls.set i (some (aR a.1.2.2)), t.2) else none) else if getR ls b.1.2.1.1 = some b.1.2.1.2 then some (ls.set i (some (aR b.1.2.2)), t.2) else none) else none).map fun x => Sum.inl (0, x.1, x.2) := nrf rfl
theorem d_sSetQ {i : Nat} {c : EC κ} {a b : ER κ} : (sSetQ i c a b).1.2 cal ls m = ((c.1.2 cal ls m).bind fun t => if bnl ls i = true then (if t.1 = true then (if getR ls a.1.2.1.1 = some a.1.2.1.2 then some (ls.set i (some (aR a.1.2.2)), t.2) else none) else if getR ls b.1.2.1.1 = some b.1.2.1.2 then some (ls.set i (some (aR b.1.2.2)), t.2) else none) else none).map fun x => Sum.inl (0, x.1, x.2) := nrf rfl
theorem d_sInc {i : Nat} {n : Int} : (sInc i n : ES κ).1.2 cal ls m = ((getI ls i).bind fun z => if bnl ls i = true then some (ls.set i (some (aI (i32 (z + n)))), m) else none).map fun x => Sum.inl (0, x.1, x.2) := nrf rfl
theorem d_sPutI {idx ci k : Nat} {r : ER κ} {e : EI κ} {h : bFP κ.1 idx ci k .int} : (sPutI r e h).1.2 cal ls m = (if getR ls r.1.2.1.1 = some r.1.2.1.2 then (e.1.2 cal ls m).bind fun x => some (ls, bwr x.2 r.1.2.2 k x.1) else none).map fun x => Sum.inl (0, x.1, x.2) := nrf rfl
theorem d_sPutZ {idx ci k : Nat} {r : ER κ} {e : EI κ} {h : bFP κ.1 idx ci k .boolean} : (sPutZ r e h).1.2 cal ls m = (if getR ls r.1.2.1.1 = some r.1.2.1.2 then (e.1.2 cal ls m).bind fun x => if 0 ≤ x.1 ∧ x.1 ≤ 1 then some (ls, bwr x.2 r.1.2.2 k x.1) else none else none).map fun x => Sum.inl (0, x.1, x.2) := nrf rfl
theorem d_sPutL {idx ci k : Nat} {r : ER κ} {e : EL κ} {h : bFP κ.1 idx ci k .long} : (sPutL r e h).1.2 cal ls m = (if getR ls r.1.2.1.1 = some r.1.2.1.2 then (e.1.2 cal ls m).bind fun x => some (ls, bwr x.2 r.1.2.2 k x.1) else none).map fun x => Sum.inl (0, x.1, x.2) := nrf rfl
theorem d_sPutA {n : Nat} {r : ER κ} {i : EI κ} {e : EI κ} : (sPutA n r i e).1.2 cal ls m = (if getR ls r.1.2.1.1 = some r.1.2.1.2 then (i.1.2 cal ls m).bind fun y => (e.1.2 cal ls y.2).bind fun x => if 0 ≤ y.1 ∧ y.1 < (n : Int) then some (ls, bwr x.2 r.1.2.2 y.1.toNat x.1) else none else none).map fun x => Sum.inl (0, x.1, x.2) := nrf rfl
theorem d_sPutAZ {n : Nat} {r : ER κ} {i : EI κ} {e : EI κ} : (sPutAZ n r i e).1.2 cal ls m = (if getR ls r.1.2.1.1 = some r.1.2.1.2 then (i.1.2 cal ls m).bind fun y => (e.1.2 cal ls y.2).bind fun x => if 0 ≤ y.1 ∧ y.1 < (n : Int) then if 0 ≤ x.1 ∧ x.1 ≤ 1 then some (ls, bwr x.2 r.1.2.2 y.1.toNat x.1) else none else none else none).map fun x => Sum.inl (0, x.1, x.2) := nrf rfl
theorem d_sPutAB {n : Nat} {r : ER κ} {i : EI κ} {e : EI κ} : (sPutAB n r i e).1.2 cal ls m = (if getR ls r.1.2.1.1 = some r.1.2.1.2 then (i.1.2 cal ls m).bind fun y => (e.1.2 cal ls y.2).bind fun x => if 0 ≤ y.1 ∧ y.1 < (n : Int) then if -128 ≤ x.1 ∧ x.1 ≤ 127 then some (ls, bwr x.2 r.1.2.2 y.1.toNat x.1) else none else none else none).map fun x => Sum.inl (0, x.1, x.2) := nrf rfl
theorem d_sPutAL {n : Nat} {r : ER κ} {i : EI κ} {e : EL κ} : (sPutAL n r i e).1.2 cal ls m = (if getR ls r.1.2.1.1 = some r.1.2.1.2 then (i.1.2 cal ls m).bind fun y => (e.1.2 cal ls y.2).bind fun x => if 0 ≤ y.1 ∧ y.1 < (n : Int) then some (ls, bwr x.2 r.1.2.2 y.1.toNat x.1) else none else none).map fun x => Sum.inl (0, x.1, x.2) := nrf rfl
theorem d_sPutD {l : Nat} {i e : EI κ} : (sPutD l i e).1.2 cal ls m = ((getR ls l).bind fun c => (i.1.2 cal ls m).bind fun y => (e.1.2 cal ls y.2).bind fun x => if 0 ≤ y.1 ∧ y.1 < (bln c : Int) then some (ls, bwr x.2 c y.1.toNat x.1) else none).map fun x => Sum.inl (0, x.1, x.2) := nrf rfl
theorem d_sOpF {idx ci k o : Nat} {r : ER κ} {e : EI κ} {h : bFP κ.1 idx ci k .int} : (sOpF o r e h).1.2 cal ls m = (if getR ls r.1.2.1.1 = some r.1.2.1.2 then (e.1.2 cal ls m).bind fun x => some (ls, bwr x.2 r.1.2.2 k (opv o (m r.1.2.2 k) x.1)) else none).map fun x => Sum.inl (0, x.1, x.2) := nrf rfl
theorem d_sOpA {n o : Nat} {r : ER κ} {i e : EI κ} : (sOpA n o r i e).1.2 cal ls m = (if getR ls r.1.2.1.1 = some r.1.2.1.2 then (i.1.2 cal ls m).bind fun y => if 0 ≤ y.1 ∧ y.1 < (n : Int) then (e.1.2 cal ls y.2).bind fun x => some (ls, bwr x.2 r.1.2.2 y.1.toNat (opv o (y.2 r.1.2.2 y.1.toNat) x.1)) else none else none).map fun x => Sum.inl (0, x.1, x.2) := nrf rfl
theorem d_sCall {f : Nat} {x : XC κ f} {h : brt f 0} : (sCall x h).1.2 cal ls m = ((x.1.2 cal ls m).map fun r => (ls, r.1)).map fun x => Sum.inl (0, x.1, x.2) := nrf rfl
theorem d_sCopy {idx kd n0 n1 : Nat} {a b : ER κ} {sp dp n : EI κ} {h : ∀ w ∈ [Cond.methodLink κ.1 idx arraycopyName, Cond.native arraycopyName, Cond.static arraycopyName, Cond.initialized "java/lang/System"], w ∈ bT} : (sCopy kd n0 n1 a sp b dp n h).1.2 cal ls m = (if getR ls a.1.2.1.1 = some a.1.2.1.2 ∧ getR ls b.1.2.1.1 = some b.1.2.1.2 then (sp.1.2 cal ls m).bind fun x => (dp.1.2 cal ls x.2).bind fun y => (n.1.2 cal ls y.2).bind fun z => if 0 ≤ x.1 ∧ 0 ≤ y.1 ∧ 0 ≤ z.1 ∧ x.1 + z.1 ≤ n0 ∧ y.1 + z.1 ≤ n1 then some (ls, bcpy z.2 a.1.2.2 b.1.2.2 x.1.toNat y.1.toNat z.1.toNat) else none else none).map fun x => Sum.inl (0, x.1, x.2) := nrf rfl
def sqk (b : ES κ) (cal : bCl) (r : bRs) : Option bRs := match r with
  | .inl (0, ls', m') => b.1.2 cal ls' m'
  | r => some r
theorem d_sSeq {a b : ES κ} : (sSeq a b).1.2 cal ls m = (a.1.2 cal ls m).bind (sqk b cal) := nrf rfl
theorem sqk_0 {b : ES κ} : sqk b cal (.inl (0, ls, m)) = b.1.2 cal ls m := nrf rfl
theorem sqk_1 {b : ES κ} : sqk b cal (.inl (1, ls, m)) = some (.inl (1, ls, m)) := nrf rfl
theorem sqk_2 {b : ES κ} : sqk b cal (.inl (2, ls, m)) = some (.inl (2, ls, m)) := nrf rfl
theorem sqk_r {b : ES κ} {q : bM × Int} : sqk b cal (.inr q) = some (.inr q) := nrf rfl
theorem d_sIf {c : EC κ} {a b : ES κ} : (sIf c a b).1.2 cal ls m = (c.1.2 cal ls m).bind fun t => if t.1 = true then a.1.2 cal ls t.2 else b.1.2 cal ls t.2 := nrf rfl
theorem d_sBrk  : (sBrk : ES κ).1.2 cal ls m = some (.inl (1, ls, m)) := nrf rfl
theorem d_sCnt  : (sCnt : ES κ).1.2 cal ls m = some (.inl (2, ls, m)) := nrf rfl
theorem d_sRetV  : (sRetV : ES κ).1.2 cal ls m = some (.inr (m, 0)) := nrf rfl
theorem d_sRet {e : EI κ} : (sRet e).1.2 cal ls m = (e.1.2 cal ls m).bind fun x => if brc κ.2.2.2.1 = 1 ∨ 0 ≤ x.1 ∧ x.1 ≤ 1 then some (.inr (x.2, x.1)) else none := nrf rfl
theorem d_sRetL {e : EL κ} : (sRetL e).1.2 cal ls m = (e.1.2 cal ls m).bind fun x => some (.inr (x.2, x.1)) := nrf rfl
theorem d_sLp {cpc : Nat} {c : EC κ} {b s : ES κ} : (sLp cpc c b s).1.2 cal ls m = bLp (c.1.2 cal) (b.1.2 cal) (s.1.2 cal) bF ls m := nrf rfl
theorem d_tDef {b : ES κ} {x : Int} : (tDef b).1.2 cal x ls m = b.1.2 cal ls m := nrf rfl
theorem d_tCase {v x : Int} {b : ES κ} {t : ET κ} : (tCase v b t).1.2 cal x ls m = if x = v then b.1.2 cal ls m else t.1.2 cal x ls m := nrf rfl
theorem d_sSw {e : EI κ} {t : ET κ} : (sSw e t).1.2 cal ls m = (e.1.2 cal ls m).bind fun x => t.1.2 cal x.1 ls x.2 := nrf rfl
def swk (r : bRs) : Option bRs := match r with
  | .inl (1, ls', m') => some (.inl (0, ls', m'))
  | r => some r
theorem d_sSwB {q : Nat} {e : EI κ} {t : ET κ} : (sSwB q e t).1.2 cal ls m = (e.1.2 cal ls m).bind fun x => (t.1.2 cal x.1 ls x.2).bind swk := nrf rfl
theorem swk_0 : swk (.inl (0, ls, m)) = some (.inl (0, ls, m)) := nrf rfl
theorem swk_1 : swk (.inl (1, ls, m)) = some (.inl (0, ls, m)) := nrf rfl
theorem swk_r {q : bM × Int} : swk (.inr q) = some (.inr q) := nrf rfl
end Den
theorem bind_ite {α β : Type} {c : Prop} [Decidable c] {a b : Option α} {k : α → Option β} : (if c then a else b).bind k = if c then a.bind k else b.bind k := by split <;> rfl
theorem map_ite {α β : Type} {c : Prop} [Decidable c] {a b : Option α} {k : α → β} : (if c then a else b).map k = if c then a.map k else b.map k := by split <;> rfl
theorem cop0 (a b : Int) : cop 0 a b = decide (a = b) := nrf rfl
theorem cop1 (a b : Int) : cop 1 a b = !decide (a = b) := nrf rfl
theorem cop2 (a b : Int) : cop 2 a b = decide (a < b) := nrf rfl
theorem cop3 (a b : Int) : cop 3 a b = decide (b ≤ a) := nrf rfl
theorem cop4 (a b : Int) : cop 4 a b = decide (b < a) := nrf rfl
theorem cop5 (a b : Int) : cop 5 a b = decide (a ≤ b) := nrf rfl
theorem brc_i : brc (some .int) = 1 := nrf rfl
theorem brc_z : brc (some .boolean) = 2 := nrf rfl
theorem opv0 (a b : Int) : opv 0 a b = i32 (a + b) := nrf rfl
theorem opv1 (a b : Int) : opv 1 a b = i32 (a - b) := nrf rfl
theorem opv2 (a b : Int) : opv 2 a b = jor a b := nrf rfl
theorem opv3 (a b : Int) : opv 3 a b = jand a b := nrf rfl
theorem ite01_0 {c : Prop} [Decidable c] : ((if c then (1 : Int) else 0) = 0) ↔ ¬ c := by split <;> simp [*]
theorem ite01_1 {c : Prop} [Decidable c] : ((if c then (1 : Int) else 0) = 1) ↔ c := by split <;> simp [*]
theorem ite01_in {c : Prop} [Decidable c] : 0 ≤ (if c then (1 : Int) else 0) ∧ (if c then (1 : Int) else 0) ≤ 1 := by split <;> decide
theorem st_of {κ : bK} (b : ES κ) {f : Nat} (hb : bBody f = bD b) {av : List bV} (h : (bls av).length ≤ κ.2.2.1) {ls : bLs} (hl : bls av ++ List.replicate (κ.2.2.1 - (bls av).length) none = ls) (n : Nat) (m : bM) : sem (n + 1) f av m = bfin (b.1.2 (sem n) ls m) := by
  subst hl
  show bBody f n (sem n) av m = _
  rw [hb]
  unfold bD
  rw [if_pos h]
  unfold bRun bfin
  rfl
/-! the start of each method -/
theorem st_V_reach (n : Nat) (p_reach : Int) (p_width : Int) (p_rough : Int) (m : bM) : sem (n + 1) 0 [aR 0, aI p_reach, aI p_width, aI p_rough] m = bfin (B_V_reach.1.2 (sem n) [some (aR 0), some (aI p_reach), some (aI p_width), some (aI p_rough), none] m) := st_of B_V_reach bo_0 (Nat.le_of_ble_eq_true rfl) rfl n m
theorem st_V_pond (n : Nat) (p_n : Int) (m : bM) : sem (n + 1) 1 [aR 0, aI p_n] m = bfin (B_V_pond.1.2 (sem n) [some (aR 0), some (aI p_n), none] m) := st_of B_V_pond bo_1 (Nat.le_of_ble_eq_true rfl) rfl n m
theorem st_V_gate (n : Nat) (p_n : Int) (p_minute : Int) (m : bM) : sem (n + 1) 2 [aR 0, aI p_n, aI p_minute] m = bfin (B_V_gate.1.2 (sem n) [some (aR 0), some (aI p_n), some (aI p_minute), none] m) := st_of B_V_gate bo_2 (Nat.le_of_ble_eq_true rfl) rfl n m
theorem st_V_table (n : Nat) (p_way : Int) (p_sheet : Int) (m : bM) : sem (n + 1) 3 [aR 0, aI p_way, aI p_sheet] m = bfin (B_V_table.1.2 (sem n) [some (aR 0), some (aI p_way), some (aI p_sheet), none, none] m) := st_of B_V_table bo_3 (Nat.le_of_ble_eq_true rfl) rfl n m
theorem st_V_house (n : Nat) (p_reach : Int) (p_strength : Int) (p_room : Int) (m : bM) : sem (n + 1) 4 [aR 0, aI p_reach, aI p_strength, aI p_room] m = bfin (B_V_house.1.2 (sem n) [some (aR 0), some (aI p_reach), some (aI p_strength), some (aI p_room), none] m) := st_of B_V_house bo_4 (Nat.le_of_ble_eq_true rfl) rfl n m
theorem st_V_depth (n : Nat) (p_way : Int) (p_start : Int) (p_reach : Int) (p_minute : Int) (m : bM) : sem (n + 1) 5 [aR 0, aI p_way, aI p_start, aI p_reach, aI p_minute] m = bfin (B_V_depth.1.2 (sem n) [some (aR 0), some (aI p_way), some (aI p_start), some (aI p_reach), some (aI p_minute)] m) := st_of B_V_depth bo_5 (Nat.le_of_ble_eq_true rfl) rfl n m
theorem st_V_falls (n : Nat) (p_way : Int) (p_start : Int) (p_house : Int) (m : bM) : sem (n + 1) 6 [aR 0, aI p_way, aI p_start, aI p_house] m = bfin (B_V_falls.1.2 (sem n) [some (aR 0), some (aI p_way), some (aI p_start), some (aI p_house)] m) := st_of B_V_falls bo_6 (Nat.le_of_ble_eq_true rfl) rfl n m
theorem st_V_sooner (n : Nat) (p_way : Int) (p_start : Int) (p_n : Int) (p_minute : Int) (m : bM) : sem (n + 1) 7 [aR 0, aI p_way, aI p_start, aI p_n, aI p_minute] m = bfin (B_V_sooner.1.2 (sem n) [some (aR 0), some (aI p_way), some (aI p_start), some (aI p_n), some (aI p_minute), none, none] m) := st_of B_V_sooner bo_7 (Nat.le_of_ble_eq_true rfl) rfl n m
theorem st_V_clock (n : Nat) (p_reach : Int) (p_height : Int) (p_minute : Int) (p_goes : Int) (m : bM) : sem (n + 1) 8 [aR 0, aI p_reach, aI p_height, aI p_minute, aI p_goes] m = bfin (B_V_clock.1.2 (sem n) [some (aR 0), some (aI p_reach), some (aI p_height), some (aI p_minute), some (aI p_goes), none, none] m) := st_of B_V_clock bo_8 (Nat.le_of_ble_eq_true rfl) rfl n m
theorem st_V_mark (n : Nat) (p_reach : Int) (p_from : Int) (p_to : Int) (m : bM) : sem (n + 1) 9 [aR 0, aI p_reach, aI p_from, aI p_to] m = bfin (B_V_mark.1.2 (sem n) [some (aR 0), some (aI p_reach), some (aI p_from), some (aI p_to)] m) := st_of B_V_mark bo_9 (Nat.le_of_ble_eq_true rfl) rfl n m
theorem st_V_word (n : Nat) (p_engineer : Int) (p_ways : Int) (p_from : Int) (p_to : Int) (m : bM) : sem (n + 1) 10 [aR 0, aI p_engineer, aI p_ways, aI p_from, aI p_to] m = bfin (B_V_word.1.2 (sem n) [some (aR 0), some (aI p_engineer), some (aI p_ways), some (aI p_from), some (aI p_to)] m) := st_of B_V_word bo_10 (Nat.le_of_ble_eq_true rfl) rfl n m
theorem st_V_tear (n : Nat) (p_row : Int) (p_torn : Int) (m : bM) : sem (n + 1) 11 [aR 0, aI p_row, aI p_torn] m = bfin (B_V_tear.1.2 (sem n) [some (aR 0), some (aI p_row), some (aI p_torn)] m) := st_of B_V_tear bo_11 (Nat.le_of_ble_eq_true rfl) rfl n m
theorem st_V_side (n : Nat) (p_engineer : Int) (p_side : Int) (m : bM) : sem (n + 1) 12 [aR 0, aI p_engineer, aI p_side] m = bfin (B_V_side.1.2 (sem n) [some (aR 0), some (aI p_engineer), some (aI p_side), none] m) := st_of B_V_side bo_12 (Nat.le_of_ble_eq_true rfl) rfl n m
theorem st_V_doubt (n : Nat) (p_side : Int) (p_doubted : Int) (m : bM) : sem (n + 1) 13 [aR 0, aI p_side, aI p_doubted] m = bfin (B_V_doubt.1.2 (sem n) [some (aR 0), some (aI p_side), some (aI p_doubted)] m) := st_of B_V_doubt bo_13 (Nat.le_of_ble_eq_true rfl) rfl n m
theorem st_V_lets (n : Nat) (p_row : Int) (p_way : Int) (p_start : Int) (m : bM) : sem (n + 1) 14 [aR 0, aI p_row, aI p_way, aI p_start] m = bfin (B_V_lets.1.2 (sem n) [some (aR 0), some (aI p_row), some (aI p_way), some (aI p_start)] m) := st_of B_V_lets bo_14 (Nat.le_of_ble_eq_true rfl) rfl n m
theorem st_V_possible (n : Nat) (p_way : Int) (m : bM) : sem (n + 1) 15 [aR 0, aI p_way] m = bfin (B_V_possible.1.2 (sem n) [some (aR 0), some (aI p_way)] m) := st_of B_V_possible bo_15 (Nat.le_of_ble_eq_true rfl) rfl n m
theorem st_V_span (n : Nat) (p_way : Int) (p_last : Int) (m : bM) : sem (n + 1) 16 [aR 0, aI p_way, aI p_last] m = bfin (B_V_span.1.2 (sem n) [some (aR 0), some (aI p_way), some (aI p_last)] m) := st_of B_V_span bo_16 (Nat.le_of_ble_eq_true rfl) rfl n m
theorem st_V_hangs (n : Nat) (p_row : Int) (m : bM) : sem (n + 1) 17 [aR 0, aI p_row] m = bfin (B_V_hangs.1.2 (sem n) [some (aR 0), some (aI p_row), none, none] m) := st_of B_V_hangs bo_17 (Nat.le_of_ble_eq_true rfl) rfl n m
theorem st_V_sure (n : Nat) (p_house : Int) (m : bM) : sem (n + 1) 18 [aR 0, aI p_house] m = bfin (B_V_sure.1.2 (sem n) [some (aR 0), some (aI p_house)] m) := st_of B_V_sure bo_18 (Nat.le_of_ble_eq_true rfl) rfl n m
theorem st_V_could (n : Nat) (p_way : Int) (p_start : Int) (p_minute : Int) (p_reach : Int) (p_rides : Int) (p_flee : Int) (m : bM) : sem (n + 1) 19 [aR 0, aI p_way, aI p_start, aI p_minute, aI p_reach, aI p_rides, aI p_flee] m = bfin (B_V_could.1.2 (sem n) [some (aR 0), some (aI p_way), some (aI p_start), some (aI p_minute), some (aI p_reach), some (aI p_rides), some (aI p_flee)] m) := st_of B_V_could bo_19 (Nat.le_of_ble_eq_true rfl) rfl n m
theorem st_V_told (n : Nat) (p_minute : Int) (p_reach : Int) (p_rides : Int) (p_flee : Int) (m : bM) : sem (n + 1) 20 [aR 0, aI p_minute, aI p_reach, aI p_rides, aI p_flee] m = bfin (B_V_told.1.2 (sem n) [some (aR 0), some (aI p_minute), some (aI p_reach), some (aI p_rides), some (aI p_flee)] m) := st_of B_V_told bo_20 (Nat.le_of_ble_eq_true rfl) rfl n m
theorem st_V_person (n : Nat) (p_kin : Int) (p_house : Int) (p_trade : Int) (m : bM) : sem (n + 1) 21 [aR 0, aI p_kin, aI p_house, aI p_trade] m = bfin (B_V_person.1.2 (sem n) [some (aR 0), some (aI p_kin), some (aI p_house), some (aI p_trade), none] m) := st_of B_V_person bo_21 (Nat.le_of_ble_eq_true rfl) rfl n m
theorem st_V_safe (n : Nat) (p_person : Int) (p_safe : Int) (m : bM) : sem (n + 1) 22 [aR 0, aI p_person, aI p_safe] m = bfin (B_V_safe.1.2 (sem n) [some (aR 0), some (aI p_person), some (aI p_safe)] m) := st_of B_V_safe bo_22 (Nat.le_of_ble_eq_true rfl) rfl n m
theorem st_V_name (n : Nat) (p_kin : Int) (p_house : Int) (m : bM) : sem (n + 1) 23 [aR 0, aI p_kin, aI p_house] m = bfin (B_V_name.1.2 (sem n) [some (aR 0), some (aI p_kin), some (aI p_house), none] m) := st_of B_V_name bo_23 (Nat.le_of_ble_eq_true rfl) rfl n m
theorem st_V_list (n : Nat) (p_what : Int) (m : bM) : sem (n + 1) 24 [aR 0, aI p_what] m = bfin (B_V_list.1.2 (sem n) [some (aR 0), some (aI p_what)] m) := st_of B_V_list bo_24 (Nat.le_of_ble_eq_true rfl) rfl n m
theorem st_V_thing (n : Nat) (p_house : Int) (p_kind : Int) (p_worth : Int) (m : bM) : sem (n + 1) 25 [aR 0, aI p_house, aI p_kind, aI p_worth] m = bfin (B_V_thing.1.2 (sem n) [some (aR 0), some (aI p_house), some (aI p_kind), some (aI p_worth), none] m) := st_of B_V_thing bo_25 (Nat.le_of_ble_eq_true rfl) rfl n m
theorem st_V_lies (n : Nat) (p_thing : Int) (p_way : Int) (p_start : Int) (m : bM) : sem (n + 1) 26 [aR 0, aI p_thing, aI p_way, aI p_start] m = bfin (B_V_lies.1.2 (sem n) [some (aR 0), some (aI p_thing), some (aI p_way), some (aI p_start)] m) := st_of B_V_lies bo_26 (Nat.le_of_ble_eq_true rfl) rfl n m
theorem st_V_find (n : Nat) (p_sort : Int) (p_reach : Int) (m : bM) : sem (n + 1) 27 [aR 0, aI p_sort, aI p_reach] m = bfin (B_V_find.1.2 (sem n) [some (aR 0), some (aI p_sort), some (aI p_reach), none] m) := st_of B_V_find bo_27 (Nat.le_of_ble_eq_true rfl) rfl n m
theorem st_V_whose (n : Nat) (p_find : Int) (m : bM) : sem (n + 1) 28 [aR 0, aI p_find] m = bfin (B_V_whose.1.2 (sem n) [some (aR 0), some (aI p_find), none, none] m) := st_of B_V_whose bo_28 (Nat.le_of_ble_eq_true rfl) rfl n m
theorem st_V_days (n : Nat) (p_n : Int) (m : bM) : sem (n + 1) 29 [aR 0, aI p_n] m = bfin (B_V_days.1.2 (sem n) [some (aR 0), some (aI p_n)] m) := st_of B_V_days bo_29 (Nat.le_of_ble_eq_true rfl) rfl n m
theorem st_V_feed (n : Nat) (p_eight : Int) (p_n : Int) (m : bM) : sem (n + 1) 30 [aR 0, aL p_eight, aI p_n] m = bfin (B_V_feed.1.2 (sem n) [some (aR 0), some (aL p_eight), none, some (aI p_n)] m) := st_of B_V_feed bo_30 (Nat.le_of_ble_eq_true rfl) rfl n m
theorem st_V_read (n : Nat)  (m : bM) : sem (n + 1) 31 [aR 0] m = bfin (B_V_read.1.2 (sem n) [some (aR 0), none, none] m) := st_of B_V_read bo_31 (Nat.le_of_ble_eq_true rfl) rfl n m
theorem st_V_claim (n : Nat) (p_person : Int) (p_thing : Int) (m : bM) : sem (n + 1) 32 [aR 0, aI p_person, aI p_thing] m = bfin (B_V_claim.1.2 (sem n) [some (aR 0), some (aI p_person), some (aI p_thing)] m) := st_of B_V_claim bo_32 (Nat.le_of_ble_eq_true rfl) rfl n m
theorem st_V_proof (n : Nat) (p_claim : Int) (p_by : Int) (m : bM) : sem (n + 1) 33 [aR 0, aI p_claim, aI p_by] m = bfin (B_V_proof.1.2 (sem n) [some (aR 0), some (aI p_claim), some (aI p_by)] m) := st_of B_V_proof bo_33 (Nat.le_of_ble_eq_true rfl) rfl n m
theorem st_V_claimOf (n : Nat) (p_claim : Int) (p_day : Int) (p_what : Int) (m : bM) : sem (n + 1) 34 [aR 0, aI p_claim, aI p_day, aI p_what] m = bfin (B_V_claimOf.1.2 (sem n) [some (aR 0), some (aI p_claim), some (aI p_day), some (aI p_what), none] m) := st_of B_V_claimOf bo_34 (Nat.le_of_ble_eq_true rfl) rfl n m
theorem st_V_why (n : Nat) (p_claim : Int) (p_day : Int) (p_what : Int) (m : bM) : sem (n + 1) 35 [aR 0, aI p_claim, aI p_day, aI p_what] m = bfin (B_V_why.1.2 (sem n) [some (aR 0), some (aI p_claim), some (aI p_day), some (aI p_what), none] m) := st_of B_V_why bo_35 (Nat.le_of_ble_eq_true rfl) rfl n m
theorem st_V_odd (n : Nat) (p_what : Int) (m : bM) : sem (n + 1) 36 [aR 0, aI p_what] m = bfin (B_V_odd.1.2 (sem n) [some (aR 0), some (aI p_what)] m) := st_of B_V_odd bo_36 (Nat.le_of_ble_eq_true rfl) rfl n m
theorem st_V_fund (n : Nat) (p_n : Int) (m : bM) : sem (n + 1) 37 [aR 0, aI p_n] m = bfin (B_V_fund.1.2 (sem n) [some (aR 0), some (aI p_n)] m) := st_of B_V_fund bo_37 (Nat.le_of_ble_eq_true rfl) rfl n m
theorem st_V_pay (n : Nat)  (m : bM) : sem (n + 1) 38 [aR 0] m = bfin (B_V_pay.1.2 (sem n) [some (aR 0)] m) := st_of B_V_pay bo_38 (Nat.le_of_ble_eq_true rfl) rfl n m
theorem st_V_offer (n : Nat) (p_claim : Int) (p_n : Int) (m : bM) : sem (n + 1) 39 [aR 0, aI p_claim, aI p_n] m = bfin (B_V_offer.1.2 (sem n) [some (aR 0), some (aI p_claim), some (aI p_n)] m) := st_of B_V_offer bo_39 (Nat.le_of_ble_eq_true rfl) rfl n m
theorem st_V_likest (n : Nat) (p_what : Int) (m : bM) : sem (n + 1) 40 [aR 0, aI p_what] m = bfin (B_V_likest.1.2 (sem n) [some (aR 0), some (aI p_what)] m) := st_of B_V_likest bo_40 (Nat.le_of_ble_eq_true rfl) rfl n m
theorem st_V_round (n : Nat) (p_claims : Int) (p_reach : Int) (m : bM) : sem (n + 1) 41 [aR 0, aI p_claims, aI p_reach] m = bfin (B_V_round.1.2 (sem n) [some (aR 0), some (aI p_claims), some (aI p_reach), none] m) := st_of B_V_round bo_41 (Nat.le_of_ble_eq_true rfl) rfl n m
theorem st_V_row (n : Nat) (p_i : Int) (p_what : Int) (m : bM) : sem (n + 1) 42 [aR 0, aI p_i, aI p_what] m = bfin (B_V_row.1.2 (sem n) [some (aR 0), some (aI p_i), some (aI p_what)] m) := st_of B_V_row bo_42 (Nat.le_of_ble_eq_true rfl) rfl n m
theorem st_V_alterRow (n : Nat) (p_i : Int) (p_what : Int) (p_v : Int) (m : bM) : sem (n + 1) 43 [aR 0, aI p_i, aI p_what, aI p_v] m = bfin (B_V_alterRow.1.2 (sem n) [some (aR 0), some (aI p_i), some (aI p_what), some (aI p_v), none, none] m) := st_of B_V_alterRow bo_43 (Nat.le_of_ble_eq_true rfl) rfl n m
theorem st_V_dropRow (n : Nat)  (m : bM) : sem (n + 1) 44 [aR 0] m = bfin (B_V_dropRow.1.2 (sem n) [some (aR 0)] m) := st_of B_V_dropRow bo_44 (Nat.le_of_ble_eq_true rfl) rfl n m
theorem st_V_judge (n : Nat)  (m : bM) : sem (n + 1) 45 [aR 0] m = bfin (B_V_judge.1.2 (sem n) [some (aR 0)] m) := st_of B_V_judge bo_45 (Nat.le_of_ble_eq_true rfl) rfl n m
theorem st_V_years (n : Nat) (p_debt : Int) (p_income : Int) (p_rate : Int) (m : bM) : sem (n + 1) 46 [aR 0, aI p_debt, aI p_income, aI p_rate] m = bfin (B_V_years.1.2 (sem n) [some (aR 0), some (aI p_debt), some (aI p_income), some (aI p_rate)] m) := st_of B_V_years bo_46 (Nat.le_of_ble_eq_true rfl) rfl n m
theorem st_V_rate (n : Nat) (p_debt : Int) (p_income : Int) (p_years : Int) (m : bM) : sem (n + 1) 47 [aR 0, aI p_debt, aI p_income, aI p_years] m = bfin (B_V_rate.1.2 (sem n) [some (aR 0), some (aI p_debt), some (aI p_income), some (aI p_years), none, none, none, none] m) := st_of B_V_rate bo_47 (Nat.le_of_ble_eq_true rfl) rfl n m
theorem st_V_sheet (n : Nat) (p_sheet : Int) (p_sort : Int) (p_n : Int) (m : bM) : sem (n + 1) 48 [aR 0, aI p_sheet, aI p_sort, aI p_n] m = bfin (B_V_sheet.1.2 (sem n) [some (aR 0), some (aI p_sheet), some (aI p_sort), some (aI p_n)] m) := st_of B_V_sheet bo_48 (Nat.le_of_ble_eq_true rfl) rfl n m
theorem st_V_put (n : Nat) (p_sheet : Int) (p_i : Int) (p_v : Int) (m : bM) : sem (n + 1) 49 [aR 0, aI p_sheet, aI p_i, aI p_v] m = bfin (B_V_put.1.2 (sem n) [some (aR 0), some (aI p_sheet), some (aI p_i), some (aI p_v)] m) := st_of B_V_put bo_49 (Nat.le_of_ble_eq_true rfl) rfl n m
theorem st_V_item (n : Nat) (p_sheet : Int) (p_sort : Int) (p_i : Int) (m : bM) : sem (n + 1) 50 [aR 0, aI p_sheet, aI p_sort, aI p_i] m = bfin (B_V_item.1.2 (sem n) [some (aR 0), some (aI p_sheet), some (aI p_sort), some (aI p_i), none] m) := st_of B_V_item bo_50 (Nat.le_of_ble_eq_true rfl) rfl n m
theorem st_V_shelf (n : Nat) (p_shelf : Int) (p_what : Int) (p_n : Int) (m : bM) : sem (n + 1) 51 [aR 0, aI p_shelf, aI p_what, aI p_n] m = bfin (B_V_shelf.1.2 (sem n) [some (aR 0), some (aI p_shelf), some (aI p_what), some (aI p_n)] m) := st_of B_V_shelf bo_51 (Nat.le_of_ble_eq_true rfl) rfl n m
theorem st_V_taken (n : Nat) (p_shelf : Int) (p_as : Int) (m : bM) : sem (n + 1) 52 [aR 0, aI p_shelf, aI p_as] m = bfin (B_V_taken.1.2 (sem n) [some (aR 0), some (aI p_shelf), some (aI p_as), none] m) := st_of B_V_taken bo_52 (Nat.le_of_ble_eq_true rfl) rfl n m
theorem st_V_deal (n : Nat) (p_shelf : Int) (p_deal : Int) (p_x : Int) (m : bM) : sem (n + 1) 53 [aR 0, aI p_shelf, aI p_deal, aI p_x] m = bfin (B_V_deal.1.2 (sem n) [some (aR 0), some (aI p_shelf), some (aI p_deal), some (aI p_x)] m) := st_of B_V_deal bo_53 (Nat.le_of_ble_eq_true rfl) rfl n m
theorem st_V_trace (n : Nat) (p_i : Int) (m : bM) : sem (n + 1) 54 [aR 0, aI p_i] m = bfin (B_V_trace.1.2 (sem n) [some (aR 0), some (aI p_i)] m) := st_of B_V_trace bo_54 (Nat.le_of_ble_eq_true rfl) rfl n m
theorem st_V_many (n : Nat) (p_what : Int) (m : bM) : sem (n + 1) 55 [aR 0, aI p_what] m = bfin (B_V_many.1.2 (sem n) [some (aR 0), some (aI p_what)] m) := st_of B_V_many bo_55 (Nat.le_of_ble_eq_true rfl) rfl n m
theorem st_V_keep (n : Nat)  (m : bM) : sem (n + 1) 56 [aR 0] m = bfin (B_V_keep.1.2 (sem n) [some (aR 0)] m) := st_of B_V_keep bo_56 (Nat.le_of_ble_eq_true rfl) rfl n m
theorem st_V_again (n : Nat)  (m : bM) : sem (n + 1) 57 [aR 0] m = bfin (B_V_again.1.2 (sem n) [some (aR 0)] m) := st_of B_V_again bo_57 (Nat.le_of_ble_eq_true rfl) rfl n m
theorem st_M_reach (n : Nat) (p_r : Int) (p_w : Int) (p_q : Int) (m : bM) : sem (n + 1) 58 [aR 132, aI p_r, aI p_w, aI p_q] m = bfin (B_M_reach.1.2 (sem n) [some (aR 132), some (aI p_r), some (aI p_w), some (aI p_q), none] m) := st_of B_M_reach bo_58 (Nat.le_of_ble_eq_true rfl) rfl n m
theorem st_M_pond (n : Nat) (p_n : Int) (m : bM) : sem (n + 1) 59 [aR 132, aI p_n] m = bfin (B_M_pond.1.2 (sem n) [some (aR 132), some (aI p_n), none] m) := st_of B_M_pond bo_59 (Nat.le_of_ble_eq_true rfl) rfl n m
theorem st_M_gate (n : Nat) (p_n : Int) (p_minute : Int) (m : bM) : sem (n + 1) 60 [aR 132, aI p_n, aI p_minute] m = bfin (B_M_gate.1.2 (sem n) [some (aR 132), some (aI p_n), some (aI p_minute), none] m) := st_of B_M_gate bo_60 (Nat.le_of_ble_eq_true rfl) rfl n m
theorem st_M_table (n : Nat) (p_way : Int) (p_s : Int) (m : bM) : sem (n + 1) 61 [aR 132, aI p_way, aI p_s] m = bfin (B_M_table.1.2 (sem n) [some (aR 132), some (aI p_way), some (aI p_s), none, none] m) := st_of B_M_table bo_61 (Nat.le_of_ble_eq_true rfl) rfl n m
theorem st_M_house (n : Nat) (p_r : Int) (p_s : Int) (p_n : Int) (m : bM) : sem (n + 1) 62 [aR 132, aI p_r, aI p_s, aI p_n] m = bfin (B_M_house.1.2 (sem n) [some (aR 132), some (aI p_r), some (aI p_s), some (aI p_n), none] m) := st_of B_M_house bo_62 (Nat.le_of_ble_eq_true rfl) rfl n m
theorem st_M_depth (n : Nat) (p_way : Int) (p_start : Int) (p_r : Int) (p_minute : Int) (m : bM) : sem (n + 1) 63 [aR 132, aI p_way, aI p_start, aI p_r, aI p_minute] m = bfin (B_M_depth.1.2 (sem n) [some (aR 132), some (aI p_way), some (aI p_start), some (aI p_r), some (aI p_minute)] m) := st_of B_M_depth bo_63 (Nat.le_of_ble_eq_true rfl) rfl n m
theorem st_M_falls (n : Nat) (p_way : Int) (p_start : Int) (p_h : Int) (m : bM) : sem (n + 1) 64 [aR 132, aI p_way, aI p_start, aI p_h] m = bfin (B_M_falls.1.2 (sem n) [some (aR 132), some (aI p_way), some (aI p_start), some (aI p_h)] m) := st_of B_M_falls bo_64 (Nat.le_of_ble_eq_true rfl) rfl n m
theorem st_M_sooner (n : Nat) (p_way : Int) (p_start : Int) (p_n : Int) (p_minute : Int) (m : bM) : sem (n + 1) 65 [aR 132, aI p_way, aI p_start, aI p_n, aI p_minute] m = bfin (B_M_sooner.1.2 (sem n) [some (aR 132), some (aI p_way), some (aI p_start), some (aI p_n), some (aI p_minute), none, none] m) := st_of B_M_sooner bo_65 (Nat.le_of_ble_eq_true rfl) rfl n m
theorem st_M_clock (n : Nat) (p_r : Int) (p_height : Int) (p_minute : Int) (p_hands : Int) (m : bM) : sem (n + 1) 66 [aR 132, aI p_r, aI p_height, aI p_minute, aI p_hands] m = bfin (B_M_clock.1.2 (sem n) [some (aR 132), some (aI p_r), some (aI p_height), some (aI p_minute), some (aI p_hands)] m) := st_of B_M_clock bo_66 (Nat.le_of_ble_eq_true rfl) rfl n m
theorem st_M_mark (n : Nat) (p_r : Int) (p_from : Int) (p_to : Int) (m : bM) : sem (n + 1) 67 [aR 132, aI p_r, aI p_from, aI p_to] m = bfin (B_M_mark.1.2 (sem n) [some (aR 132), some (aI p_r), some (aI p_from), some (aI p_to)] m) := st_of B_M_mark bo_67 (Nat.le_of_ble_eq_true rfl) rfl n m
theorem st_M_word (n : Nat) (p_engineer : Int) (p_ways : Int) (p_from : Int) (p_to : Int) (m : bM) : sem (n + 1) 68 [aR 132, aI p_engineer, aI p_ways, aI p_from, aI p_to] m = bfin (B_M_word.1.2 (sem n) [some (aR 132), some (aI p_engineer), some (aI p_ways), some (aI p_from), some (aI p_to)] m) := st_of B_M_word bo_68 (Nat.le_of_ble_eq_true rfl) rfl n m
theorem st_M_tear (n : Nat) (p_k : Int) (p_is : Int) (m : bM) : sem (n + 1) 69 [aR 132, aI p_k, aI p_is] m = bfin (B_M_tear.1.2 (sem n) [some (aR 132), some (aI p_k), some (aI p_is), none] m) := st_of B_M_tear bo_69 (Nat.le_of_ble_eq_true rfl) rfl n m
theorem st_M_side (n : Nat) (p_e : Int) (p_s : Int) (m : bM) : sem (n + 1) 70 [aR 132, aI p_e, aI p_s] m = bfin (B_M_side.1.2 (sem n) [some (aR 132), some (aI p_e), some (aI p_s), none] m) := st_of B_M_side bo_70 (Nat.le_of_ble_eq_true rfl) rfl n m
theorem st_M_doubt (n : Nat) (p_s : Int) (p_is : Int) (m : bM) : sem (n + 1) 71 [aR 132, aI p_s, aI p_is] m = bfin (B_M_doubt.1.2 (sem n) [some (aR 132), some (aI p_s), some (aI p_is), none, none] m) := st_of B_M_doubt bo_71 (Nat.le_of_ble_eq_true rfl) rfl n m
theorem st_M_lets (n : Nat) (p_k : Int) (p_way : Int) (p_start : Int) (m : bM) : sem (n + 1) 72 [aR 132, aI p_k, aI p_way, aI p_start] m = bfin (B_M_lets.1.2 (sem n) [some (aR 132), some (aI p_k), some (aI p_way), some (aI p_start)] m) := st_of B_M_lets bo_72 (Nat.le_of_ble_eq_true rfl) rfl n m
theorem st_M_possible (n : Nat) (p_way : Int) (m : bM) : sem (n + 1) 73 [aR 132, aI p_way] m = bfin (B_M_possible.1.2 (sem n) [some (aR 132), some (aI p_way), none, none] m) := st_of B_M_possible bo_73 (Nat.le_of_ble_eq_true rfl) rfl n m
theorem st_M_span (n : Nat) (p_way : Int) (p_last : Int) (m : bM) : sem (n + 1) 74 [aR 132, aI p_way, aI p_last] m = bfin (B_M_span.1.2 (sem n) [some (aR 132), some (aI p_way), some (aI p_last), none, none] m) := st_of B_M_span bo_74 (Nat.le_of_ble_eq_true rfl) rfl n m
theorem st_M_hangs (n : Nat) (p_k : Int) (m : bM) : sem (n + 1) 75 [aR 132, aI p_k] m = bfin (B_M_hangs.1.2 (sem n) [some (aR 132), some (aI p_k)] m) := st_of B_M_hangs bo_75 (Nat.le_of_ble_eq_true rfl) rfl n m
theorem st_M_sure (n : Nat) (p_h : Int) (m : bM) : sem (n + 1) 76 [aR 132, aI p_h] m = bfin (B_M_sure.1.2 (sem n) [some (aR 132), some (aI p_h)] m) := st_of B_M_sure bo_76 (Nat.le_of_ble_eq_true rfl) rfl n m
theorem st_M_could (n : Nat) (p_way : Int) (p_start : Int) (p_minute : Int) (p_r : Int) (p_rides : Int) (p_flee : Int) (m : bM) : sem (n + 1) 77 [aR 132, aI p_way, aI p_start, aI p_minute, aI p_r, aI p_rides, aI p_flee] m = bfin (B_M_could.1.2 (sem n) [some (aR 132), some (aI p_way), some (aI p_start), some (aI p_minute), some (aI p_r), some (aI p_rides), some (aI p_flee), none] m) := st_of B_M_could bo_77 (Nat.le_of_ble_eq_true rfl) rfl n m
theorem st_M_told (n : Nat) (p_minute : Int) (p_r : Int) (p_rides : Int) (p_flee : Int) (m : bM) : sem (n + 1) 78 [aR 132, aI p_minute, aI p_r, aI p_rides, aI p_flee] m = bfin (B_M_told.1.2 (sem n) [some (aR 132), some (aI p_minute), some (aI p_r), some (aI p_rides), some (aI p_flee), none, none, none] m) := st_of B_M_told bo_78 (Nat.le_of_ble_eq_true rfl) rfl n m
theorem st_M_person (n : Nat) (p_k : Int) (p_h : Int) (p_t : Int) (m : bM) : sem (n + 1) 79 [aR 132, aI p_k, aI p_h, aI p_t] m = bfin (B_M_person.1.2 (sem n) [some (aR 132), some (aI p_k), some (aI p_h), some (aI p_t), none] m) := st_of B_M_person bo_79 (Nat.le_of_ble_eq_true rfl) rfl n m
theorem st_M_safe (n : Nat) (p_p : Int) (p_is : Int) (m : bM) : sem (n + 1) 80 [aR 132, aI p_p, aI p_is] m = bfin (B_M_safe.1.2 (sem n) [some (aR 132), some (aI p_p), some (aI p_is), none] m) := st_of B_M_safe bo_80 (Nat.le_of_ble_eq_true rfl) rfl n m
theorem st_M_name (n : Nat) (p_k : Int) (p_h : Int) (m : bM) : sem (n + 1) 81 [aR 132, aI p_k, aI p_h] m = bfin (B_M_name.1.2 (sem n) [some (aR 132), some (aI p_k), some (aI p_h)] m) := st_of B_M_name bo_81 (Nat.le_of_ble_eq_true rfl) rfl n m
theorem st_M_list (n : Nat) (p_what : Int) (m : bM) : sem (n + 1) 82 [aR 132, aI p_what] m = bfin (B_M_list.1.2 (sem n) [some (aR 132), some (aI p_what), none] m) := st_of B_M_list bo_82 (Nat.le_of_ble_eq_true rfl) rfl n m
theorem st_M_thing (n : Nat) (p_h : Int) (p_kind : Int) (p_n : Int) (m : bM) : sem (n + 1) 83 [aR 132, aI p_h, aI p_kind, aI p_n] m = bfin (B_M_thing.1.2 (sem n) [some (aR 132), some (aI p_h), some (aI p_kind), some (aI p_n), none] m) := st_of B_M_thing bo_83 (Nat.le_of_ble_eq_true rfl) rfl n m
theorem st_M_lies (n : Nat) (p_t : Int) (p_way : Int) (p_start : Int) (m : bM) : sem (n + 1) 84 [aR 132, aI p_t, aI p_way, aI p_start] m = bfin (B_M_lies.1.2 (sem n) [some (aR 132), some (aI p_t), some (aI p_way), some (aI p_start)] m) := st_of B_M_lies bo_84 (Nat.le_of_ble_eq_true rfl) rfl n m
theorem st_M_find (n : Nat) (p_s : Int) (p_r : Int) (m : bM) : sem (n + 1) 85 [aR 132, aI p_s, aI p_r] m = bfin (B_M_find.1.2 (sem n) [some (aR 132), some (aI p_s), some (aI p_r)] m) := st_of B_M_find bo_85 (Nat.le_of_ble_eq_true rfl) rfl n m
theorem st_M_whose (n : Nat) (p_f : Int) (m : bM) : sem (n + 1) 86 [aR 132, aI p_f] m = bfin (B_M_whose.1.2 (sem n) [some (aR 132), some (aI p_f)] m) := st_of B_M_whose bo_86 (Nat.le_of_ble_eq_true rfl) rfl n m
theorem st_M_days (n : Nat) (p_n : Int) (m : bM) : sem (n + 1) 87 [aR 132, aI p_n] m = bfin (B_M_days.1.2 (sem n) [some (aR 132), some (aI p_n)] m) := st_of B_M_days bo_87 (Nat.le_of_ble_eq_true rfl) rfl n m
theorem st_M_feed (n : Nat) (p_eight : Int) (p_n : Int) (m : bM) : sem (n + 1) 88 [aR 132, aL p_eight, aI p_n] m = bfin (B_M_feed.1.2 (sem n) [some (aR 132), some (aL p_eight), none, some (aI p_n), none] m) := st_of B_M_feed bo_88 (Nat.le_of_ble_eq_true rfl) rfl n m
theorem st_M_read (n : Nat)  (m : bM) : sem (n + 1) 89 [aR 132] m = bfin (B_M_read.1.2 (sem n) [some (aR 132)] m) := st_of B_M_read bo_89 (Nat.le_of_ble_eq_true rfl) rfl n m
theorem st_M_claim (n : Nat) (p_p : Int) (p_t : Int) (m : bM) : sem (n + 1) 90 [aR 132, aI p_p, aI p_t] m = bfin (B_M_claim.1.2 (sem n) [some (aR 132), some (aI p_p), some (aI p_t), none] m) := st_of B_M_claim bo_90 (Nat.le_of_ble_eq_true rfl) rfl n m
theorem st_M_proof (n : Nat) (p_c : Int) (p_by : Int) (m : bM) : sem (n + 1) 91 [aR 132, aI p_c, aI p_by] m = bfin (B_M_proof.1.2 (sem n) [some (aR 132), some (aI p_c), some (aI p_by)] m) := st_of B_M_proof bo_91 (Nat.le_of_ble_eq_true rfl) rfl n m
theorem st_M_claimOf (n : Nat) (p_c : Int) (p_day : Int) (p_what : Int) (m : bM) : sem (n + 1) 92 [aR 132, aI p_c, aI p_day, aI p_what] m = bfin (B_M_claimOf.1.2 (sem n) [some (aR 132), some (aI p_c), some (aI p_day), some (aI p_what)] m) := st_of B_M_claimOf bo_92 (Nat.le_of_ble_eq_true rfl) rfl n m
theorem st_M_why (n : Nat) (p_c : Int) (p_day : Int) (p_what : Int) (m : bM) : sem (n + 1) 93 [aR 132, aI p_c, aI p_day, aI p_what] m = bfin (B_M_why.1.2 (sem n) [some (aR 132), some (aI p_c), some (aI p_day), some (aI p_what), none] m) := st_of B_M_why bo_93 (Nat.le_of_ble_eq_true rfl) rfl n m
theorem st_M_odd (n : Nat) (p_what : Int) (m : bM) : sem (n + 1) 94 [aR 132, aI p_what] m = bfin (B_M_odd.1.2 (sem n) [some (aR 132), some (aI p_what), none, none, none, none] m) := st_of B_M_odd bo_94 (Nat.le_of_ble_eq_true rfl) rfl n m
theorem st_M_fund (n : Nat) (p_n : Int) (m : bM) : sem (n + 1) 95 [aR 132, aI p_n] m = bfin (B_M_fund.1.2 (sem n) [some (aR 132), some (aI p_n)] m) := st_of B_M_fund bo_95 (Nat.le_of_ble_eq_true rfl) rfl n m
theorem st_M_pay (n : Nat)  (m : bM) : sem (n + 1) 96 [aR 132] m = bfin (B_M_pay.1.2 (sem n) [some (aR 132), none, none, none, none] m) := st_of B_M_pay bo_96 (Nat.le_of_ble_eq_true rfl) rfl n m
theorem st_M_offer (n : Nat) (p_c : Int) (p_n : Int) (m : bM) : sem (n + 1) 97 [aR 132, aI p_c, aI p_n] m = bfin (B_M_offer.1.2 (sem n) [some (aR 132), some (aI p_c), some (aI p_n)] m) := st_of B_M_offer bo_97 (Nat.le_of_ble_eq_true rfl) rfl n m
theorem st_M_likest (n : Nat) (p_what : Int) (m : bM) : sem (n + 1) 98 [aR 132, aI p_what] m = bfin (B_M_likest.1.2 (sem n) [some (aR 132), some (aI p_what), none, none, none, none, none] m) := st_of B_M_likest bo_98 (Nat.le_of_ble_eq_true rfl) rfl n m
theorem st_M_round (n : Nat) (p_claims : Int) (p_r : Int) (m : bM) : sem (n + 1) 99 [aR 132, aI p_claims, aI p_r] m = bfin (B_M_round.1.2 (sem n) [some (aR 132), some (aI p_claims), some (aI p_r), none, none, none, none] m) := st_of B_M_round bo_99 (Nat.le_of_ble_eq_true rfl) rfl n m
theorem st_M_row (n : Nat) (p_i : Int) (p_what : Int) (m : bM) : sem (n + 1) 100 [aR 132, aI p_i, aI p_what] m = bfin (B_M_row.1.2 (sem n) [some (aR 132), some (aI p_i), some (aI p_what)] m) := st_of B_M_row bo_100 (Nat.le_of_ble_eq_true rfl) rfl n m
theorem st_M_alterRow (n : Nat) (p_i : Int) (p_what : Int) (p_v : Int) (m : bM) : sem (n + 1) 101 [aR 132, aI p_i, aI p_what, aI p_v] m = bfin (B_M_alterRow.1.2 (sem n) [some (aR 132), some (aI p_i), some (aI p_what), some (aI p_v), none] m) := st_of B_M_alterRow bo_101 (Nat.le_of_ble_eq_true rfl) rfl n m
theorem st_M_dropRow (n : Nat)  (m : bM) : sem (n + 1) 102 [aR 132] m = bfin (B_M_dropRow.1.2 (sem n) [some (aR 132)] m) := st_of B_M_dropRow bo_102 (Nat.le_of_ble_eq_true rfl) rfl n m
theorem st_M_judge (n : Nat)  (m : bM) : sem (n + 1) 103 [aR 132] m = bfin (B_M_judge.1.2 (sem n) [some (aR 132), none, none, none, none, none] m) := st_of B_M_judge bo_103 (Nat.le_of_ble_eq_true rfl) rfl n m
theorem st_M_years (n : Nat) (p_debt : Int) (p_income : Int) (p_rate : Int) (m : bM) : sem (n + 1) 104 [aR 132, aI p_debt, aI p_income, aI p_rate] m = bfin (B_M_years.1.2 (sem n) [some (aR 132), some (aI p_debt), some (aI p_income), some (aI p_rate), none] m) := st_of B_M_years bo_104 (Nat.le_of_ble_eq_true rfl) rfl n m
theorem st_M_rate (n : Nat) (p_debt : Int) (p_income : Int) (p_years : Int) (m : bM) : sem (n + 1) 105 [aR 132, aI p_debt, aI p_income, aI p_years] m = bfin (B_M_rate.1.2 (sem n) [some (aR 132), some (aI p_debt), some (aI p_income), some (aI p_years), none] m) := st_of B_M_rate bo_105 (Nat.le_of_ble_eq_true rfl) rfl n m
theorem st_M_sheet (n : Nat) (p_s : Int) (p_sort : Int) (p_n : Int) (m : bM) : sem (n + 1) 106 [aR 132, aI p_s, aI p_sort, aI p_n] m = bfin (B_M_sheet.1.2 (sem n) [some (aR 132), some (aI p_s), some (aI p_sort), some (aI p_n), none] m) := st_of B_M_sheet bo_106 (Nat.le_of_ble_eq_true rfl) rfl n m
theorem st_M_put (n : Nat) (p_s : Int) (p_i : Int) (p_v : Int) (m : bM) : sem (n + 1) 107 [aR 132, aI p_s, aI p_i, aI p_v] m = bfin (B_M_put.1.2 (sem n) [some (aR 132), some (aI p_s), some (aI p_i), some (aI p_v)] m) := st_of B_M_put bo_107 (Nat.le_of_ble_eq_true rfl) rfl n m
theorem st_M_item (n : Nat) (p_s : Int) (p_sort : Int) (p_i : Int) (m : bM) : sem (n + 1) 108 [aR 132, aI p_s, aI p_sort, aI p_i] m = bfin (B_M_item.1.2 (sem n) [some (aR 132), some (aI p_s), some (aI p_sort), some (aI p_i)] m) := st_of B_M_item bo_108 (Nat.le_of_ble_eq_true rfl) rfl n m
theorem st_M_shelf (n : Nat) (p_shelf : Int) (p_what : Int) (p_n : Int) (m : bM) : sem (n + 1) 109 [aR 132, aI p_shelf, aI p_what, aI p_n] m = bfin (B_M_shelf.1.2 (sem n) [some (aR 132), some (aI p_shelf), some (aI p_what), some (aI p_n)] m) := st_of B_M_shelf bo_109 (Nat.le_of_ble_eq_true rfl) rfl n m
theorem st_M_taken (n : Nat) (p_shelf : Int) (p_as : Int) (m : bM) : sem (n + 1) 110 [aR 132, aI p_shelf, aI p_as] m = bfin (B_M_taken.1.2 (sem n) [some (aR 132), some (aI p_shelf), some (aI p_as)] m) := st_of B_M_taken bo_110 (Nat.le_of_ble_eq_true rfl) rfl n m
theorem st_M_deal (n : Nat) (p_shelf : Int) (p_deal : Int) (p_x : Int) (m : bM) : sem (n + 1) 111 [aR 132, aI p_shelf, aI p_deal, aI p_x] m = bfin (B_M_deal.1.2 (sem n) [some (aR 132), some (aI p_shelf), some (aI p_deal), some (aI p_x), none] m) := st_of B_M_deal bo_111 (Nat.le_of_ble_eq_true rfl) rfl n m
theorem st_M_trace (n : Nat) (p_i : Int) (m : bM) : sem (n + 1) 112 [aR 132, aI p_i] m = bfin (B_M_trace.1.2 (sem n) [some (aR 132), some (aI p_i)] m) := st_of B_M_trace bo_112 (Nat.le_of_ble_eq_true rfl) rfl n m
theorem st_M_many (n : Nat) (p_what : Int) (m : bM) : sem (n + 1) 113 [aR 132, aI p_what] m = bfin (B_M_many.1.2 (sem n) [some (aR 132), some (aI p_what), none, none] m) := st_of B_M_many bo_113 (Nat.le_of_ble_eq_true rfl) rfl n m
theorem st_M_keep (n : Nat)  (m : bM) : sem (n + 1) 114 [aR 132] m = bfin (B_M_keep.1.2 (sem n) [some (aR 132)] m) := st_of B_M_keep bo_114 (Nat.le_of_ble_eq_true rfl) rfl n m
theorem st_M_again (n : Nat)  (m : bM) : sem (n + 1) 115 [aR 132] m = bfin (B_M_again.1.2 (sem n) [some (aR 132)] m) := st_of B_M_again bo_115 (Nat.le_of_ble_eq_true rfl) rfl n m
theorem st_V_isReach (n : Nat) (p_reach : Int) (m : bM) : sem (n + 1) 116 [aI p_reach] m = bfin (B_V_isReach.1.2 (sem n) [some (aI p_reach)] m) := st_of B_V_isReach bo_116 (Nat.le_of_ble_eq_true rfl) rfl n m
theorem st_V_within (n : Nat) (p_value : Int) (p_least : Int) (p_most : Int) (m : bM) : sem (n + 1) 117 [aI p_value, aI p_least, aI p_most] m = bfin (B_V_within.1.2 (sem n) [some (aI p_value), some (aI p_least), some (aI p_most)] m) := st_of B_V_within bo_117 (Nat.le_of_ble_eq_true rfl) rfl n m
theorem st_Nights_forgetNights (n : Nat)  (m : bM) : sem (n + 1) 118 [aR 101] m = bfin (B_Nights_forgetNights.1.2 (sem n) [some (aR 101)] m) := st_of B_Nights_forgetNights bo_118 (Nat.le_of_ble_eq_true rfl) rfl n m
theorem st_V_isGate (n : Nat) (p_n : Int) (p_minute : Int) (m : bM) : sem (n + 1) 119 [aI p_n, aI p_minute] m = bfin (B_V_isGate.1.2 (sem n) [some (aI p_n), some (aI p_minute)] m) := st_of B_V_isGate bo_119 (Nat.le_of_ble_eq_true rfl) rfl n m
theorem st_V_isWay (n : Nat) (p_way : Int) (m : bM) : sem (n + 1) 120 [aI p_way] m = bfin (B_V_isWay.1.2 (sem n) [some (aI p_way)] m) := st_of B_V_isWay bo_120 (Nat.le_of_ble_eq_true rfl) rfl n m
theorem st_V_isSheet (n : Nat) (p_sheet : Int) (m : bM) : sem (n + 1) 121 [aI p_sheet] m = bfin (B_V_isSheet.1.2 (sem n) [some (aI p_sheet)] m) := st_of B_V_isSheet bo_121 (Nat.le_of_ble_eq_true rfl) rfl n m
theorem st_Host_refusesSort (n : Nat) (p_sheet : Int) (p_sort : Int) (m : bM) : sem (n + 1) 122 [aR 124, aI p_sheet, aI p_sort] m = bfin (B_Host_refusesSort.1.2 (sem n) [some (aR 124), some (aI p_sheet), some (aI p_sort)] m) := st_of B_Host_refusesSort bo_122 (Nat.le_of_ble_eq_true rfl) rfl n m
theorem st_Host_isTable (n : Nat) (p_sheet : Int) (m : bM) : sem (n + 1) 123 [aR 124, aI p_sheet] m = bfin (B_Host_isTable.1.2 (sem n) [some (aR 124), some (aI p_sheet), none, none] m) := st_of B_Host_isTable bo_123 (Nat.le_of_ble_eq_true rfl) rfl n m
theorem st_V_isNight (n : Nat) (p_way : Int) (p_start : Int) (m : bM) : sem (n + 1) 124 [aI p_way, aI p_start] m = bfin (B_V_isNight.1.2 (sem n) [some (aI p_way), some (aI p_start)] m) := st_of B_V_isNight bo_124 (Nat.le_of_ble_eq_true rfl) rfl n m
theorem st_V_isMinute (n : Nat) (p_minute : Int) (m : bM) : sem (n + 1) 125 [aI p_minute] m = bfin (B_V_isMinute.1.2 (sem n) [some (aI p_minute)] m) := st_of B_V_isMinute bo_125 (Nat.le_of_ble_eq_true rfl) rfl n m
theorem st_Night_pass (n : Nat) (p_newWay : Int) (p_newStart : Int) (p_lets : Int) (p_letsFrom : Int) (p_last : Int) (m : bM) : sem (n + 1) 126 [aR 93, aI p_newWay, aI p_newStart, aI p_lets, aI p_letsFrom, aI p_last] m = bfin (B_Night_pass.1.2 (sem n) [some (aR 93), some (aI p_newWay), some (aI p_newStart), some (aI p_lets), some (aI p_letsFrom), some (aI p_last), none, none, none, none] m) := st_of B_Night_pass bo_126 (Nat.le_of_ble_eq_true rfl) rfl n m
theorem st_Night_depthNow (n : Nat) (p_reach : Int) (m : bM) : sem (n + 1) 127 [aR 93, aI p_reach] m = bfin (B_Night_depthNow.1.2 (sem n) [some (aR 93), some (aI p_reach), none] m) := st_of B_Night_depthNow bo_127 (Nat.le_of_ble_eq_true rfl) rfl n m
theorem st_V_isHouse (n : Nat) (p_house : Int) (m : bM) : sem (n + 1) 128 [aR 0, aI p_house] m = bfin (B_V_isHouse.1.2 (sem n) [some (aR 0), some (aI p_house)] m) := st_of B_V_isHouse bo_128 (Nat.le_of_ble_eq_true rfl) rfl n m
theorem st_Night_fallen (n : Nat)  (m : bM) : sem (n + 1) 130 [aR 93] m = bfin (B_Night_fallen.1.2 (sem n) [some (aR 93), none, none] m) := st_of B_Night_fallen bo_130 (Nat.le_of_ble_eq_true rfl) rfl n m
theorem st_Seen_addRow (n : Nat) (p_newKind : Int) (p_newPlace : Int) (p_newMain : Int) (p_from : Int) (p_to : Int) (m : bM) : sem (n + 1) 131 [aR 17, aI p_newKind, aI p_newPlace, aI p_newMain, aI p_from, aI p_to] m = bfin (B_Seen_addRow.1.2 (sem n) [some (aR 17), some (aI p_newKind), some (aI p_newPlace), some (aI p_newMain), some (aI p_from), some (aI p_to), none] m) := st_of B_Seen_addRow bo_131 (Nat.le_of_ble_eq_true rfl) rfl n m
theorem st_V_isEngineer (n : Nat) (p_engineer : Int) (m : bM) : sem (n + 1) 132 [aI p_engineer] m = bfin (B_V_isEngineer.1.2 (sem n) [some (aI p_engineer)] m) := st_of B_V_isEngineer bo_132 (Nat.le_of_ble_eq_true rfl) rfl n m
theorem st_V_isStart (n : Nat) (p_start : Int) (m : bM) : sem (n + 1) 133 [aI p_start] m = bfin (B_V_isStart.1.2 (sem n) [some (aI p_start)] m) := st_of B_V_isStart bo_133 (Nat.le_of_ble_eq_true rfl) rfl n m
theorem st_Nights_forgetPossible (n : Nat)  (m : bM) : sem (n + 1) 134 [aR 101] m = bfin (B_Nights_forgetPossible.1.2 (sem n) [some (aR 101)] m) := st_of B_Nights_forgetPossible bo_134 (Nat.le_of_ble_eq_true rfl) rfl n m
theorem st_V_isSeenRow (n : Nat) (p_row : Int) (m : bM) : sem (n + 1) 135 [aR 0, aI p_row] m = bfin (B_V_isSeenRow.1.2 (sem n) [some (aR 0), some (aI p_row)] m) := st_of B_V_isSeenRow bo_135 (Nat.le_of_ble_eq_true rfl) rfl n m
theorem st_Seen_setDoubted (n : Nat) (p_side : Int) (p_now : Int) (m : bM) : sem (n + 1) 136 [aR 17, aI p_side, aI p_now] m = bfin (B_Seen_setDoubted.1.2 (sem n) [some (aR 17), some (aI p_side), some (aI p_now), none, none] m) := st_of B_Seen_setDoubted bo_136 (Nat.le_of_ble_eq_true rfl) rfl n m
theorem st_Nights_allLet (n : Nat) (p_number : Int) (p_rows : Int) (m : bM) : sem (n + 1) 137 [aR 101, aI p_number, aI p_rows] m = bfin (B_Nights_allLet.1.2 (sem n) [some (aR 101), some (aI p_number), some (aI p_rows)] m) := st_of B_Nights_allLet bo_137 (Nat.le_of_ble_eq_true rfl) rfl n m
theorem st_Nights_weigh (n : Nat)  (m : bM) : sem (n + 1) 138 [aR 101] m = bfin (B_Nights_weigh.1.2 (sem n) [some (aR 101), none, none] m) := st_of B_Nights_weigh bo_138 (Nat.le_of_ble_eq_true rfl) rfl n m
theorem st_Nights_countPossible (n : Nat) (p_way : Int) (m : bM) : sem (n + 1) 139 [aR 101, aI p_way] m = bfin (B_Nights_countPossible.1.2 (sem n) [some (aR 101), some (aI p_way), none, none, none, none] m) := st_of B_Nights_countPossible bo_139 (Nat.le_of_ble_eq_true rfl) rfl n m
theorem st_Nights_lastStart (n : Nat) (p_way : Int) (m : bM) : sem (n + 1) 140 [aR 101, aI p_way] m = bfin (B_Nights_lastStart.1.2 (sem n) [some (aR 101), some (aI p_way), none] m) := st_of B_Nights_lastStart bo_140 (Nat.le_of_ble_eq_true rfl) rfl n m
theorem st_Nights_firstStart (n : Nat) (p_way : Int) (m : bM) : sem (n + 1) 141 [aR 101, aI p_way] m = bfin (B_Nights_firstStart.1.2 (sem n) [some (aR 101), some (aI p_way), none] m) := st_of B_Nights_firstStart bo_141 (Nat.le_of_ble_eq_true rfl) rfl n m
theorem st_Seen_speaking (n : Nat)  (m : bM) : sem (n + 1) 142 [aR 17] m = bfin (B_Seen_speaking.1.2 (sem n) [some (aR 17), none, none] m) := st_of B_Seen_speaking bo_142 (Nat.le_of_ble_eq_true rfl) rfl n m
theorem st_Nights_countLet (n : Nat) (p_rows : Int) (m : bM) : sem (n + 1) 143 [aR 101, aI p_rows] m = bfin (B_Nights_countLet.1.2 (sem n) [some (aR 101), some (aI p_rows), none, none] m) := st_of B_Nights_countLet bo_143 (Nat.le_of_ble_eq_true rfl) rfl n m
theorem st_Nights_gather (n : Nat)  (m : bM) : sem (n + 1) 144 [aR 101] m = bfin (B_Nights_gather.1.2 (sem n) [some (aR 101), none, none] m) := st_of B_Nights_gather bo_144 (Nat.le_of_ble_eq_true rfl) rfl n m
theorem st_Nights_fallsInEach (n : Nat) (p_house : Int) (m : bM) : sem (n + 1) 145 [aR 101, aI p_house] m = bfin (B_Nights_fallsInEach.1.2 (sem n) [some (aR 101), some (aI p_house)] m) := st_of B_Nights_fallsInEach bo_145 (Nat.le_of_ble_eq_true rfl) rfl n m
theorem st_Nights_fallsInSome (n : Nat) (p_house : Int) (m : bM) : sem (n + 1) 146 [aR 101, aI p_house] m = bfin (B_Nights_fallsInSome.1.2 (sem n) [some (aR 101), some (aI p_house)] m) := st_of B_Nights_fallsInSome bo_146 (Nat.le_of_ble_eq_true rfl) rfl n m
theorem st_V_isRide (n : Nat) (p_minute : Int) (p_reach : Int) (p_rides : Int) (p_flee : Int) (m : bM) : sem (n + 1) 147 [aI p_minute, aI p_reach, aI p_rides, aI p_flee] m = bfin (B_V_isRide.1.2 (sem n) [some (aI p_minute), some (aI p_reach), some (aI p_rides), some (aI p_flee)] m) := st_of B_V_isRide bo_147 (Nat.le_of_ble_eq_true rfl) rfl n m
theorem st_Nights_toldInTime (n : Nat) (p_number : Int) (p_minute : Int) (p_reach : Int) (p_rides : Int) (p_flee : Int) (m : bM) : sem (n + 1) 148 [aR 101, aI p_number, aI p_minute, aI p_reach, aI p_rides, aI p_flee] m = bfin (B_Nights_toldInTime.1.2 (sem n) [some (aR 101), some (aI p_number), some (aI p_minute), some (aI p_reach), some (aI p_rides), some (aI p_flee), none, none, none, none, none, none, none] m) := st_of B_Nights_toldInTime bo_148 (Nat.le_of_ble_eq_true rfl) rfl n m
theorem st_Nights_toldForSure (n : Nat) (p_minute : Int) (p_reach : Int) (p_rides : Int) (p_flee : Int) (m : bM) : sem (n + 1) 149 [aR 101, aI p_minute, aI p_reach, aI p_rides, aI p_flee] m = bfin (B_Nights_toldForSure.1.2 (sem n) [some (aR 101), some (aI p_minute), some (aI p_reach), some (aI p_rides), some (aI p_flee), none, none] m) := st_of B_Nights_toldForSure bo_149 (Nat.le_of_ble_eq_true rfl) rfl n m
theorem st_V_isPerson (n : Nat) (p_person : Int) (m : bM) : sem (n + 1) 150 [aR 0, aI p_person] m = bfin (B_V_isPerson.1.2 (sem n) [some (aR 0), some (aI p_person)] m) := st_of B_V_isPerson bo_150 (Nat.le_of_ble_eq_true rfl) rfl n m
theorem st_Folk_namesThatStand (n : Nat) (p_without : Int) (m : bM) : sem (n + 1) 151 [aR 37, aI p_without] m = bfin (B_Folk_namesThatStand.1.2 (sem n) [some (aR 37), some (aI p_without), none, none, none, none, none] m) := st_of B_Folk_namesThatStand bo_151 (Nat.le_of_ble_eq_true rfl) rfl n m
theorem st_Folk_namesNever (n : Nat)  (m : bM) : sem (n + 1) 152 [aR 37] m = bfin (B_Folk_namesNever.1.2 (sem n) [some (aR 37), none, none] m) := st_of B_Folk_namesNever bo_152 (Nat.le_of_ble_eq_true rfl) rfl n m
theorem st_V_isThing (n : Nat) (p_thing : Int) (m : bM) : sem (n + 1) 153 [aR 0, aI p_thing] m = bfin (B_V_isThing.1.2 (sem n) [some (aR 0), some (aI p_thing)] m) := st_of B_V_isThing bo_153 (Nat.le_of_ble_eq_true rfl) rfl n m
theorem st_Nights_restOf (n : Nat) (p_thing : Int) (p_number : Int) (m : bM) : sem (n + 1) 154 [aR 101, aI p_thing, aI p_number] m = bfin (B_Nights_restOf.1.2 (sem n) [some (aR 101), some (aI p_thing), some (aI p_number), none, none] m) := st_of B_Nights_restOf bo_154 (Nat.le_of_ble_eq_true rfl) rfl n m
theorem st_Nights_canBe (n : Nat) (p_find : Int) (p_thing : Int) (m : bM) : sem (n + 1) 155 [aR 101, aI p_find, aI p_thing] m = bfin (B_Nights_canBe.1.2 (sem n) [some (aR 101), some (aI p_find), some (aI p_thing)] m) := st_of B_Nights_canBe bo_155 (Nat.le_of_ble_eq_true rfl) rfl n m
theorem st_Reader_append (n : Nat) (p_eight : Int) (p_n : Int) (m : bM) : sem (n + 1) 156 [aR 109, aL p_eight, aI p_n] m = bfin (B_Reader_append.1.2 (sem n) [some (aR 109), some (aL p_eight), none, some (aI p_n), none] m) := st_of B_Reader_append bo_156 (Nat.le_of_ble_eq_true rfl) rfl n m
theorem st_Reader_parse (n : Nat)  (m : bM) : sem (n + 1) 157 [aR 109] m = bfin (B_Reader_parse.1.2 (sem n) [some (aR 109), none] m) := st_of B_Reader_parse bo_157 (Nat.le_of_ble_eq_true rfl) rfl n m
theorem st_Claims_isClaimed (n : Nat) (p_byPerson : Int) (p_aThing : Int) (m : bM) : sem (n + 1) 158 [aR 79, aI p_byPerson, aI p_aThing] m = bfin (B_Claims_isClaimed.1.2 (sem n) [some (aR 79), some (aI p_byPerson), some (aI p_aThing), none] m) := st_of B_Claims_isClaimed bo_158 (Nat.le_of_ble_eq_true rfl) rfl n m
theorem st_Claims_addClaim (n : Nat) (p_byPerson : Int) (p_aThing : Int) (m : bM) : sem (n + 1) 159 [aR 79, aI p_byPerson, aI p_aThing] m = bfin (B_Claims_addClaim.1.2 (sem n) [some (aR 79), some (aI p_byPerson), some (aI p_aThing), none] m) := st_of B_Claims_addClaim bo_159 (Nat.le_of_ble_eq_true rfl) rfl n m
theorem st_V_isClaim (n : Nat) (p_claim : Int) (m : bM) : sem (n + 1) 160 [aR 0, aI p_claim] m = bfin (B_V_isClaim.1.2 (sem n) [some (aR 0), some (aI p_claim)] m) := st_of B_V_isClaim bo_160 (Nat.le_of_ble_eq_true rfl) rfl n m
theorem st_Claims_addProof (n : Nat) (p_claim : Int) (p_by : Int) (m : bM) : sem (n + 1) 161 [aR 79, aI p_claim, aI p_by] m = bfin (B_Claims_addProof.1.2 (sem n) [some (aR 79), some (aI p_claim), some (aI p_by)] m) := st_of B_Claims_addProof bo_161 (Nat.le_of_ble_eq_true rfl) rfl n m
theorem st_Claims_proofsThatCount (n : Nat) (p_claim : Int) (m : bM) : sem (n + 1) 162 [aR 79, aI p_claim] m = bfin (B_Claims_proofsThatCount.1.2 (sem n) [some (aR 79), some (aI p_claim), none, none] m) := st_of B_Claims_proofsThatCount bo_162 (Nat.le_of_ble_eq_true rfl) rfl n m
theorem st_V_isDay (n : Nat) (p_day : Int) (m : bM) : sem (n + 1) 163 [aI p_day] m = bfin (B_V_isDay.1.2 (sem n) [some (aI p_day)] m) := st_of B_V_isDay bo_163 (Nat.le_of_ble_eq_true rfl) rfl n m
theorem st_Law_takeFacts (n : Nat) (p_claim : Int) (m : bM) : sem (n + 1) 164 [aR 111, aI p_claim] m = bfin (B_Law_takeFacts.1.2 (sem n) [some (aR 111), some (aI p_claim)] m) := st_of B_Law_takeFacts bo_164 (Nat.le_of_ble_eq_true rfl) rfl n m
theorem st_Act_versionOn (n : Nat) (p_onDay : Int) (m : bM) : sem (n + 1) 165 [aR 63, aI p_onDay] m = bfin (B_Act_versionOn.1.2 (sem n) [some (aR 63), some (aI p_onDay), none] m) := st_of B_Act_versionOn bo_165 (Nat.le_of_ble_eq_true rfl) rfl n m
theorem st_Law_isBarred (n : Nat) (p_version : Int) (p_madeOn : Int) (m : bM) : sem (n + 1) 166 [aR 111, aI p_version, aI p_madeOn] m = bfin (B_Law_isBarred.1.2 (sem n) [some (aR 111), some (aI p_version), some (aI p_madeOn), none, none] m) := st_of B_Law_isBarred bo_166 (Nat.le_of_ble_eq_true rfl) rfl n m
theorem st_Law_owed (n : Nat) (p_version : Int) (p_madeOn : Int) (m : bM) : sem (n + 1) 167 [aR 111, aI p_version, aI p_madeOn] m = bfin (B_Law_owed.1.2 (sem n) [some (aR 111), some (aI p_version), some (aI p_madeOn), none] m) := st_of B_Law_owed bo_167 (Nat.le_of_ble_eq_true rfl) rfl n m
theorem st_Law_rank (n : Nat) (p_version : Int) (m : bM) : sem (n + 1) 168 [aR 111, aI p_version] m = bfin (B_Law_rank.1.2 (sem n) [some (aR 111), some (aI p_version), none] m) := st_of B_Law_rank bo_168 (Nat.le_of_ble_eq_true rfl) rfl n m
theorem st_Law_isFound (n : Nat)  (m : bM) : sem (n + 1) 169 [aR 111] m = bfin (B_Law_isFound.1.2 (sem n) [some (aR 111)] m) := st_of B_Law_isFound bo_169 (Nat.le_of_ble_eq_true rfl) rfl n m
theorem st_Law_firstLine (n : Nat) (p_version : Int) (p_verb : Int) (m : bM) : sem (n + 1) 170 [aR 111, aI p_version, aI p_verb] m = bfin (B_Law_firstLine.1.2 (sem n) [some (aR 111), some (aI p_version), some (aI p_verb), none, none, none] m) := st_of B_Law_firstLine bo_170 (Nat.le_of_ble_eq_true rfl) rfl n m
theorem st_Law_housesOver (n : Nat)  (m : bM) : sem (n + 1) 171 [aR 111] m = bfin (B_Law_housesOver.1.2 (sem n) [some (aR 111), none, none, none, none] m) := st_of B_Law_housesOver bo_171 (Nat.le_of_ble_eq_true rfl) rfl n m
theorem st_Law_thingsTwice (n : Nat)  (m : bM) : sem (n + 1) 172 [aR 111] m = bfin (B_Law_thingsTwice.1.2 (sem n) [some (aR 111), none, none] m) := st_of B_Law_thingsTwice bo_172 (Nat.le_of_ble_eq_true rfl) rfl n m
theorem st_Law_payByRanks (n : Nat)  (m : bM) : sem (n + 1) 173 [aR 111] m = bfin (B_Law_payByRanks.1.2 (sem n) [some (aR 111), none, none, none, none] m) := st_of B_Law_payByRanks bo_173 (Nat.le_of_ble_eq_true rfl) rfl n m
theorem st_Claims_payClaim (n : Nat) (p_claim : Int) (p_sum : Int) (m : bM) : sem (n + 1) 174 [aR 79, aI p_claim, aI p_sum] m = bfin (B_Claims_payClaim.1.2 (sem n) [some (aR 79), some (aI p_claim), some (aI p_sum)] m) := st_of B_Claims_payClaim bo_174 (Nat.le_of_ble_eq_true rfl) rfl n m
theorem st_Law_findLikest (n : Nat)  (m : bM) : sem (n + 1) 175 [aR 111] m = bfin (B_Law_findLikest.1.2 (sem n) [some (aR 111), none, none, none, none] m) := st_of B_Law_findLikest bo_175 (Nat.le_of_ble_eq_true rfl) rfl n m
theorem st_Tour_plan (n : Nat) (p_bits : Int) (p_reach : Int) (m : bM) : sem (n + 1) 176 [aR 117, aI p_bits, aI p_reach] m = bfin (B_Tour_plan.1.2 (sem n) [some (aR 117), some (aI p_bits), some (aI p_reach), none, none] m) := st_of B_Tour_plan bo_176 (Nat.le_of_ble_eq_true rfl) rfl n m
theorem st_Tour_firstWrongRow (n : Nat)  (m : bM) : sem (n + 1) 177 [aR 117] m = bfin (B_Tour_firstWrongRow.1.2 (sem n) [some (aR 117), none, none, none, none, none, none] m) := st_of B_Tour_firstWrongRow bo_177 (Nat.le_of_ble_eq_true rfl) rfl n m
theorem st_V_isDebt (n : Nat) (p_debt : Int) (p_income : Int) (m : bM) : sem (n + 1) 178 [aI p_debt, aI p_income] m = bfin (B_V_isDebt.1.2 (sem n) [some (aI p_debt), some (aI p_income)] m) := st_of B_V_isDebt bo_178 (Nat.le_of_ble_eq_true rfl) rfl n m
theorem st_V_yearsTillPaid (n : Nat) (p_debt : Int) (p_income : Int) (p_rate : Int) (p_most : Int) (m : bM) : sem (n + 1) 179 [aI p_debt, aI p_income, aI p_rate, aI p_most] m = bfin (B_V_yearsTillPaid.1.2 (sem n) [some (aI p_debt), some (aI p_income), some (aI p_rate), some (aI p_most), none, none, none] m) := st_of B_V_yearsTillPaid bo_179 (Nat.le_of_ble_eq_true rfl) rfl n m
theorem st_Host_makeSheet (n : Nat) (p_sheet : Int) (p_sort : Int) (p_length : Int) (m : bM) : sem (n + 1) 180 [aR 124, aI p_sheet, aI p_sort, aI p_length] m = bfin (B_Host_makeSheet.1.2 (sem n) [some (aR 124), some (aI p_sheet), some (aI p_sort), some (aI p_length), none] m) := st_of B_Host_makeSheet bo_180 (Nat.le_of_ble_eq_true rfl) rfl n m
theorem st_V_narrowed (n : Nat) (p_v : Int) (p_sort : Int) (m : bM) : sem (n + 1) 181 [aI p_v, aI p_sort] m = bfin (B_V_narrowed.1.2 (sem n) [some (aI p_v), some (aI p_sort)] m) := st_of B_V_narrowed bo_181 (Nat.le_of_ble_eq_true rfl) rfl n m
theorem st_V_isShelf (n : Nat) (p_shelf : Int) (m : bM) : sem (n + 1) 182 [aI p_shelf] m = bfin (B_V_isShelf.1.2 (sem n) [some (aI p_shelf)] m) := st_of B_V_isShelf bo_182 (Nat.le_of_ble_eq_true rfl) rfl n m
theorem st_Host_putOnShelf (n : Nat) (p_shelf : Int) (p_holds : Int) (p_number : Int) (m : bM) : sem (n + 1) 183 [aR 124, aI p_shelf, aI p_holds, aI p_number] m = bfin (B_Host_putOnShelf.1.2 (sem n) [some (aR 124), some (aI p_shelf), some (aI p_holds), some (aI p_number)] m) := st_of B_Host_putOnShelf bo_183 (Nat.le_of_ble_eq_true rfl) rfl n m
theorem st_Host_putSheetOnShelf (n : Nat) (p_shelf : Int) (p_sheet : Int) (m : bM) : sem (n + 1) 184 [aR 124, aI p_shelf, aI p_sheet] m = bfin (B_Host_putSheetOnShelf.1.2 (sem n) [some (aR 124), some (aI p_shelf), some (aI p_sheet), none] m) := st_of B_Host_putSheetOnShelf bo_184 (Nat.le_of_ble_eq_true rfl) rfl n m
theorem st_Host_takenForSort (n : Nat) (p_shelf : Int) (p_sort : Int) (m : bM) : sem (n + 1) 185 [aR 124, aI p_shelf, aI p_sort] m = bfin (B_Host_takenForSort.1.2 (sem n) [some (aR 124), some (aI p_shelf), some (aI p_sort)] m) := st_of B_Host_takenForSort bo_185 (Nat.le_of_ble_eq_true rfl) rfl n m
theorem st_Host_takenForKind (n : Nat) (p_shelf : Int) (p_as : Int) (m : bM) : sem (n + 1) 186 [aR 124, aI p_shelf, aI p_as] m = bfin (B_Host_takenForKind.1.2 (sem n) [some (aR 124), some (aI p_shelf), some (aI p_as), none] m) := st_of B_Host_takenForKind bo_186 (Nat.le_of_ble_eq_true rfl) rfl n m
theorem st_Host_dealWith (n : Nat) (p_shelf : Int) (p_deal : Int) (p_x : Int) (m : bM) : sem (n + 1) 187 [aR 124, aI p_shelf, aI p_deal, aI p_x] m = bfin (B_Host_dealWith.1.2 (sem n) [some (aR 124), some (aI p_shelf), some (aI p_deal), some (aI p_x), none] m) := st_of B_Host_dealWith bo_187 (Nat.le_of_ble_eq_true rfl) rfl n m
theorem st_Seen_countTorn (n : Nat)  (m : bM) : sem (n + 1) 188 [aR 17] m = bfin (B_Seen_countTorn.1.2 (sem n) [some (aR 17), none, none] m) := st_of B_Seen_countTorn bo_188 (Nat.le_of_ble_eq_true rfl) rfl n m
theorem st_Claims_countPaid (n : Nat)  (m : bM) : sem (n + 1) 189 [aR 79] m = bfin (B_Claims_countPaid.1.2 (sem n) [some (aR 79), none, none] m) := st_of B_Claims_countPaid bo_189 (Nat.le_of_ble_eq_true rfl) rfl n m
theorem st_Valley_copyFrom (n : Nat)  (m : bM) : sem (n + 1) 190 [aR 9, aR 1] m = bfin (B_Valley_copyFrom.1.2 (sem n) [some (aR 9), some (aR 1)] m) := st_of B_Valley_copyFrom bo_190 (Nat.le_of_ble_eq_true rfl) rfl n m
theorem st_Seen_copyFrom (n : Nat)  (m : bM) : sem (n + 1) 191 [aR 27, aR 17] m = bfin (B_Seen_copyFrom.1.2 (sem n) [some (aR 27), some (aR 17)] m) := st_of B_Seen_copyFrom bo_191 (Nat.le_of_ble_eq_true rfl) rfl n m
theorem st_Folk_copyFrom (n : Nat)  (m : bM) : sem (n + 1) 192 [aR 50, aR 37] m = bfin (B_Folk_copyFrom.1.2 (sem n) [some (aR 50), some (aR 37)] m) := st_of B_Folk_copyFrom bo_192 (Nat.le_of_ble_eq_true rfl) rfl n m
theorem st_Act_copyFrom (n : Nat)  (m : bM) : sem (n + 1) 193 [aR 71, aR 63] m = bfin (B_Act_copyFrom.1.2 (sem n) [some (aR 71), some (aR 63)] m) := st_of B_Act_copyFrom bo_193 (Nat.le_of_ble_eq_true rfl) rfl n m
theorem st_Claims_copyFrom (n : Nat)  (m : bM) : sem (n + 1) 194 [aR 86, aR 79] m = bfin (B_Claims_copyFrom.1.2 (sem n) [some (aR 86), some (aR 79)] m) := st_of B_Claims_copyFrom bo_194 (Nat.le_of_ble_eq_true rfl) rfl n m
theorem st_Valley_copyFrom2 (n : Nat)  (m : bM) : sem (n + 1) 195 [aR 1, aR 9] m = bfin (B_Valley_copyFrom2.1.2 (sem n) [some (aR 1), some (aR 9)] m) := st_of B_Valley_copyFrom2 bo_195 (Nat.le_of_ble_eq_true rfl) rfl n m
theorem st_Seen_copyFrom2 (n : Nat)  (m : bM) : sem (n + 1) 196 [aR 17, aR 27] m = bfin (B_Seen_copyFrom2.1.2 (sem n) [some (aR 17), some (aR 27)] m) := st_of B_Seen_copyFrom2 bo_196 (Nat.le_of_ble_eq_true rfl) rfl n m
theorem st_Folk_copyFrom2 (n : Nat)  (m : bM) : sem (n + 1) 197 [aR 37, aR 50] m = bfin (B_Folk_copyFrom2.1.2 (sem n) [some (aR 37), some (aR 50)] m) := st_of B_Folk_copyFrom2 bo_197 (Nat.le_of_ble_eq_true rfl) rfl n m
theorem st_Act_copyFrom2 (n : Nat)  (m : bM) : sem (n + 1) 198 [aR 63, aR 71] m = bfin (B_Act_copyFrom2.1.2 (sem n) [some (aR 63), some (aR 71)] m) := st_of B_Act_copyFrom2 bo_198 (Nat.le_of_ble_eq_true rfl) rfl n m
theorem st_Claims_copyFrom2 (n : Nat)  (m : bM) : sem (n + 1) 199 [aR 79, aR 86] m = bfin (B_Claims_copyFrom2.1.2 (sem n) [some (aR 79), some (aR 86)] m) := st_of B_Claims_copyFrom2 bo_199 (Nat.le_of_ble_eq_true rfl) rfl n m
theorem st_M_isReach (n : Nat) (p_r : Int) (m : bM) : sem (n + 1) 200 [aI p_r] m = bfin (B_M_isReach.1.2 (sem n) [some (aI p_r)] m) := st_of B_M_isReach bo_200 (Nat.le_of_ble_eq_true rfl) rfl n m
theorem st_M_in (n : Nat) (p_v : Int) (p_low : Int) (p_high : Int) (m : bM) : sem (n + 1) 201 [aI p_v, aI p_low, aI p_high] m = bfin (B_M_in.1.2 (sem n) [some (aI p_v), some (aI p_low), some (aI p_high)] m) := st_of B_M_in bo_201 (Nat.le_of_ble_eq_true rfl) rfl n m
theorem st_M_isGate (n : Nat) (p_n : Int) (p_minute : Int) (m : bM) : sem (n + 1) 202 [aI p_n, aI p_minute] m = bfin (B_M_isGate.1.2 (sem n) [some (aI p_n), some (aI p_minute)] m) := st_of B_M_isGate bo_202 (Nat.le_of_ble_eq_true rfl) rfl n m
theorem st_M_isSheet (n : Nat) (p_s : Int) (m : bM) : sem (n + 1) 203 [aI p_s] m = bfin (B_M_isSheet.1.2 (sem n) [some (aI p_s)] m) := st_of B_M_isSheet bo_203 (Nat.le_of_ble_eq_true rfl) rfl n m
theorem st_M_isNight (n : Nat) (p_way : Int) (p_start : Int) (m : bM) : sem (n + 1) 204 [aI p_way, aI p_start] m = bfin (B_M_isNight.1.2 (sem n) [some (aI p_way), some (aI p_start)] m) := st_of B_M_isNight bo_204 (Nat.le_of_ble_eq_true rfl) rfl n m
theorem st_M_isMinute (n : Nat) (p_m : Int) (m : bM) : sem (n + 1) 205 [aI p_m] m = bfin (B_M_isMinute.1.2 (sem n) [some (aI p_m)] m) := st_of B_M_isMinute bo_205 (Nat.le_of_ble_eq_true rfl) rfl n m
theorem st_M_nightAsIs (n : Nat) (p_way : Int) (p_start : Int) (m : bM) : sem (n + 1) 206 [aR 132, aI p_way, aI p_start] m = bfin (B_M_nightAsIs.1.2 (sem n) [some (aR 132), some (aI p_way), some (aI p_start)] m) := st_of B_M_nightAsIs bo_206 (Nat.le_of_ble_eq_true rfl) rfl n m
theorem st_M_isOf (n : Nat) (p_what : Int) (p_n : Int) (m : bM) : sem (n + 1) 207 [aR 132, aI p_what, aI p_n] m = bfin (B_M_isOf.1.2 (sem n) [some (aR 132), some (aI p_what), some (aI p_n)] m) := st_of B_M_isOf bo_207 (Nat.le_of_ble_eq_true rfl) rfl n m
theorem st_M_fallMany (n : Nat)  (m : bM) : sem (n + 1) 208 [aR 132] m = bfin (B_M_fallMany.1.2 (sem n) [some (aR 132), none, none] m) := st_of B_M_fallMany bo_208 (Nat.le_of_ble_eq_true rfl) rfl n m
theorem st_M_night (n : Nat) (p_way : Int) (p_start : Int) (p_lets : Int) (p_from : Int) (m : bM) : sem (n + 1) 209 [aR 132, aI p_way, aI p_start, aI p_lets, aI p_from] m = bfin (B_M_night.1.2 (sem n) [some (aR 132), some (aI p_way), some (aI p_start), some (aI p_lets), some (aI p_from), none, none, none, none, none] m) := st_of B_M_night bo_209 (Nat.le_of_ble_eq_true rfl) rfl n m
theorem st_M_seen (n : Nat) (p_kind : Int) (p_where : Int) (p_a : Int) (p_b : Int) (p_c : Int) (p_d : Int) (m : bM) : sem (n + 1) 210 [aR 132, aI p_kind, aI p_where, aI p_a, aI p_b, aI p_c, aI p_d] m = bfin (B_M_seen.1.2 (sem n) [some (aR 132), some (aI p_kind), some (aI p_where), some (aI p_a), some (aI p_b), some (aI p_c), some (aI p_d), none] m) := st_of B_M_seen bo_210 (Nat.le_of_ble_eq_true rfl) rfl n m
theorem st_M_doesLet (n : Nat) (p_k : Int) (p_way : Int) (p_start : Int) (m : bM) : sem (n + 1) 211 [aR 132, aI p_k, aI p_way, aI p_start] m = bfin (B_M_doesLet.1.2 (sem n) [some (aR 132), some (aI p_k), some (aI p_way), some (aI p_start), none] m) := st_of B_M_doesLet bo_211 (Nat.le_of_ble_eq_true rfl) rfl n m
theorem st_M_survey (n : Nat)  (m : bM) : sem (n + 1) 212 [aR 132] m = bfin (B_M_survey.1.2 (sem n) [some (aR 132), none, none, none, none] m) := st_of B_M_survey bo_212 (Nat.le_of_ble_eq_true rfl) rfl n m
theorem st_M_surelyFalls (n : Nat) (p_h : Int) (m : bM) : sem (n + 1) 213 [aR 132, aI p_h] m = bfin (B_M_surelyFalls.1.2 (sem n) [some (aR 132), some (aI p_h)] m) := st_of B_M_surelyFalls bo_213 (Nat.le_of_ble_eq_true rfl) rfl n m
theorem st_M_isRide (n : Nat) (p_minute : Int) (p_r : Int) (p_rides : Int) (p_flee : Int) (m : bM) : sem (n + 1) 214 [aI p_minute, aI p_r, aI p_rides, aI p_flee] m = bfin (B_M_isRide.1.2 (sem n) [some (aI p_minute), some (aI p_r), some (aI p_rides), some (aI p_flee)] m) := st_of B_M_isRide bo_214 (Nat.le_of_ble_eq_true rfl) rfl n m
theorem st_M_firstDeep (n : Nat) (p_r : Int) (p_deep : Int) (m : bM) : sem (n + 1) 215 [aR 132, aI p_r, aI p_deep] m = bfin (B_M_firstDeep.1.2 (sem n) [some (aR 132), some (aI p_r), some (aI p_deep), none] m) := st_of B_M_firstDeep bo_215 (Nat.le_of_ble_eq_true rfl) rfl n m
theorem st_M_ride (n : Nat) (p_minute : Int) (p_from : Int) (p_rides : Int) (m : bM) : sem (n + 1) 216 [aR 132, aI p_minute, aI p_from, aI p_rides] m = bfin (B_M_ride.1.2 (sem n) [some (aR 132), some (aI p_minute), some (aI p_from), some (aI p_rides), none, none, none] m) := st_of B_M_ride bo_216 (Nat.le_of_ble_eq_true rfl) rfl n m
theorem st_M_inTime (n : Nat) (p_flee : Int) (m : bM) : sem (n + 1) 217 [aR 132, aI p_flee] m = bfin (B_M_inTime.1.2 (sem n) [some (aR 132), some (aI p_flee), none, none] m) := st_of B_M_inTime bo_217 (Nat.le_of_ble_eq_true rfl) rfl n m
theorem st_M_nevers (n : Nat)  (m : bM) : sem (n + 1) 218 [aR 132] m = bfin (B_M_nevers.1.2 (sem n) [some (aR 132), none, none, none, none] m) := st_of B_M_nevers bo_218 (Nat.le_of_ble_eq_true rfl) rfl n m
theorem st_M_standing (n : Nat) (p_without : Int) (m : bM) : sem (n + 1) 219 [aR 132, aI p_without] m = bfin (B_M_standing.1.2 (sem n) [some (aR 132), some (aI p_without), none, none] m) := st_of B_M_standing bo_219 (Nat.le_of_ble_eq_true rfl) rfl n m
theorem st_M_liesAt (n : Nat) (p_t : Int) (m : bM) : sem (n + 1) 220 [aR 132, aI p_t] m = bfin (B_M_liesAt.1.2 (sem n) [some (aR 132), some (aI p_t), none, none] m) := st_of B_M_liesAt bo_220 (Nat.le_of_ble_eq_true rfl) rfl n m
theorem st_M_next (n : Nat)  (m : bM) : sem (n + 1) 221 [aR 132] m = bfin (B_M_next.1.2 (sem n) [some (aR 132), none] m) := st_of B_M_next bo_221 (Nat.le_of_ble_eq_true rfl) rfl n m
theorem st_M_line (n : Nat)  (m : bM) : sem (n + 1) 222 [aR 132] m = bfin (B_M_line.1.2 (sem n) [some (aR 132), none, none] m) := st_of B_M_line bo_222 (Nat.le_of_ble_eq_true rfl) rfl n m
theorem st_M_proofsOf (n : Nat) (p_c : Int) (m : bM) : sem (n + 1) 223 [aR 132, aI p_c] m = bfin (B_M_proofsOf.1.2 (sem n) [some (aR 132), some (aI p_c), none, none] m) := st_of B_M_proofsOf bo_223 (Nat.le_of_ble_eq_true rfl) rfl n m
theorem st_M_isDay (n : Nat) (p_d : Int) (m : bM) : sem (n + 1) 224 [aI p_d] m = bfin (B_M_isDay.1.2 (sem n) [some (aI p_d)] m) := st_of B_M_isDay bo_224 (Nat.le_of_ble_eq_true rfl) rfl n m
theorem st_M_isBarred (n : Nat) (p_c : Int) (p_day : Int) (m : bM) : sem (n + 1) 225 [aR 132, aI p_c, aI p_day] m = bfin (B_M_isBarred.1.2 (sem n) [some (aR 132), some (aI p_c), some (aI p_day)] m) := st_of B_M_isBarred bo_225 (Nat.le_of_ble_eq_true rfl) rfl n m
theorem st_M_owed (n : Nat) (p_c : Int) (p_day : Int) (m : bM) : sem (n + 1) 226 [aR 132, aI p_c, aI p_day] m = bfin (B_M_owed.1.2 (sem n) [some (aR 132), some (aI p_c), some (aI p_day), none] m) := st_of B_M_owed bo_226 (Nat.le_of_ble_eq_true rfl) rfl n m
theorem st_M_rankOf (n : Nat) (p_c : Int) (p_day : Int) (m : bM) : sem (n + 1) 227 [aR 132, aI p_c, aI p_day] m = bfin (B_M_rankOf.1.2 (sem n) [some (aR 132), some (aI p_c), some (aI p_day), none] m) := st_of B_M_rankOf bo_227 (Nat.le_of_ble_eq_true rfl) rfl n m
theorem st_M_isFound (n : Nat) (p_c : Int) (m : bM) : sem (n + 1) 228 [aR 132, aI p_c] m = bfin (B_M_isFound.1.2 (sem n) [some (aR 132), some (aI p_c), none, none] m) := st_of B_M_isFound bo_228 (Nat.le_of_ble_eq_true rfl) rfl n m
theorem st_M_lineFor (n : Nat) (p_c : Int) (p_day : Int) (p_is : Int) (m : bM) : sem (n + 1) 229 [aR 132, aI p_c, aI p_day, aI p_is] m = bfin (B_M_lineFor.1.2 (sem n) [some (aR 132), some (aI p_c), some (aI p_day), some (aI p_is), none, none] m) := st_of B_M_lineFor bo_229 (Nat.le_of_ble_eq_true rfl) rfl n m
theorem st_M_claimants (n : Nat) (p_t : Int) (m : bM) : sem (n + 1) 230 [aR 132, aI p_t] m = bfin (B_M_claimants.1.2 (sem n) [some (aR 132), some (aI p_t), none, none] m) := st_of B_M_claimants bo_230 (Nat.le_of_ble_eq_true rfl) rfl n m
theorem st_M_lesser (n : Nat) (p_a : Int) (p_b : Int) (m : bM) : sem (n + 1) 231 [aI p_a, aI p_b] m = bfin (B_M_lesser.1.2 (sem n) [some (aI p_a), some (aI p_b)] m) := st_of B_M_lesser bo_231 (Nat.le_of_ble_eq_true rfl) rfl n m
theorem st_M_areUnlike (n : Nat) (p_a : Int) (p_b : Int) (m : bM) : sem (n + 1) 232 [aR 132, aI p_a, aI p_b] m = bfin (B_M_areUnlike.1.2 (sem n) [some (aR 132), some (aI p_a), some (aI p_b)] m) := st_of B_M_areUnlike bo_232 (Nat.le_of_ble_eq_true rfl) rfl n m
theorem st_M_differs (n : Nat) (p_a : Int) (p_b : Int) (m : bM) : sem (n + 1) 233 [aR 132, aI p_a, aI p_b] m = bfin (B_M_differs.1.2 (sem n) [some (aR 132), some (aI p_a), some (aI p_b), none, none] m) := st_of B_M_differs bo_233 (Nat.le_of_ble_eq_true rfl) rfl n m
theorem st_M_ones (n : Nat) (p_bits : Int) (m : bM) : sem (n + 1) 234 [aI p_bits] m = bfin (B_M_ones.1.2 (sem n) [some (aI p_bits), none, none] m) := st_of B_M_ones bo_234 (Nat.le_of_ble_eq_true rfl) rfl n m
theorem st_M_hears (n : Nat) (p_left : Int) (p_n : Int) (p_from : Int) (p_gone : Int) (p_cost : Int) (m : bM) : sem (n + 1) 235 [aR 132, aI p_left, aI p_n, aI p_from, aI p_gone, aI p_cost] m = bfin (B_M_hears.1.2 (sem n) [some (aR 132), some (aI p_left), some (aI p_n), some (aI p_from), some (aI p_gone), some (aI p_cost), none, none] m) := st_of B_M_hears bo_235 (Nat.le_of_ble_eq_true rfl) rfl n m
theorem st_M_reachOf (n : Nat) (p_c : Int) (m : bM) : sem (n + 1) 236 [aR 132, aI p_c] m = bfin (B_M_reachOf.1.2 (sem n) [some (aR 132), some (aI p_c)] m) := st_of B_M_reachOf bo_236 (Nat.le_of_ble_eq_true rfl) rfl n m
theorem st_M_off (n : Nat) (p_a : Int) (p_b : Int) (m : bM) : sem (n + 1) 237 [aI p_a, aI p_b] m = bfin (B_M_off.1.2 (sem n) [some (aI p_a), some (aI p_b)] m) := st_of B_M_off bo_237 (Nat.le_of_ble_eq_true rfl) rfl n m
theorem st_M_isCell (n : Nat) (p_i : Int) (p_what : Int) (m : bM) : sem (n + 1) 238 [aR 132, aI p_i, aI p_what] m = bfin (B_M_isCell.1.2 (sem n) [some (aR 132), some (aI p_i), some (aI p_what)] m) := st_of B_M_isCell bo_238 (Nat.le_of_ble_eq_true rfl) rfl n m
theorem st_M_isDebt (n : Nat) (p_debt : Int) (p_income : Int) (m : bM) : sem (n + 1) 239 [aI p_debt, aI p_income] m = bfin (B_M_isDebt.1.2 (sem n) [some (aI p_debt), some (aI p_income)] m) := st_of B_M_isDebt bo_239 (Nat.le_of_ble_eq_true rfl) rfl n m
theorem st_M_yearsFor (n : Nat) (p_debt : Int) (p_income : Int) (p_rate : Int) (m : bM) : sem (n + 1) 240 [aI p_debt, aI p_income, aI p_rate] m = bfin (B_M_yearsFor.1.2 (sem n) [some (aI p_debt), some (aI p_income), some (aI p_rate), none, none] m) := st_of B_M_yearsFor bo_240 (Nat.le_of_ble_eq_true rfl) rfl n m
theorem st_M_narrowed (n : Nat) (p_sort : Int) (p_v : Int) (m : bM) : sem (n + 1) 241 [aI p_sort, aI p_v] m = bfin (B_M_narrowed.1.2 (sem n) [some (aI p_sort), some (aI p_v)] m) := st_of B_M_narrowed bo_241 (Nat.le_of_ble_eq_true rfl) rfl n m
theorem st_M_kindOn (n : Nat) (p_shelf : Int) (m : bM) : sem (n + 1) 242 [aR 132, aI p_shelf] m = bfin (B_M_kindOn.1.2 (sem n) [some (aR 132), some (aI p_shelf), none] m) := st_of B_M_kindOn bo_242 (Nat.le_of_ble_eq_true rfl) rfl n m
theorem st_M_isUnder (n : Nat) (p_kind : Int) (p_as : Int) (m : bM) : sem (n + 1) 243 [aI p_kind, aI p_as] m = bfin (B_M_isUnder.1.2 (sem n) [some (aI p_kind), some (aI p_as)] m) := st_of B_M_isUnder bo_243 (Nat.le_of_ble_eq_true rfl) rfl n m
theorem st_M_dealFits (n : Nat) (p_x : Int) (m : bM) : sem (n + 1) 244 [aR 132, aI p_x] m = bfin (B_M_dealFits.1.2 (sem n) [some (aR 132), some (aI p_x)] m) := st_of B_M_dealFits bo_244 (Nat.le_of_ble_eq_true rfl) rfl n m
theorem st_M_dealPays (n : Nat) (p_x : Int) (m : bM) : sem (n + 1) 245 [aR 132, aI p_x] m = bfin (B_M_dealPays.1.2 (sem n) [some (aR 132), some (aI p_x)] m) := st_of B_M_dealPays bo_245 (Nat.le_of_ble_eq_true rfl) rfl n m
theorem st_M_dealHangs (n : Nat) (p_x : Int) (m : bM) : sem (n + 1) 246 [aR 132, aI p_x] m = bfin (B_M_dealHangs.1.2 (sem n) [some (aR 132), some (aI p_x), none] m) := st_of B_M_dealHangs bo_246 (Nat.le_of_ble_eq_true rfl) rfl n m
theorem st_M_dealTells (n : Nat) (p_x : Int) (m : bM) : sem (n + 1) 247 [aR 132, aI p_x] m = bfin (B_M_dealTells.1.2 (sem n) [some (aR 132), some (aI p_x)] m) := st_of B_M_dealTells bo_247 (Nat.le_of_ble_eq_true rfl) rfl n m
theorem st_M_copiesAll (n : Nat) (p_keeps : Int) (m : bM) : sem (n + 1) 248 [aR 132, aI p_keeps] m = bfin (B_M_copiesAll.1.2 (sem n) [some (aR 132), some (aI p_keeps)] m) := st_of B_M_copiesAll bo_248 (Nat.le_of_ble_eq_true rfl) rfl n m
theorem st_Night_begin (n : Nat)  (m : bM) : sem (n + 1) 249 [aR 93] m = bfin (B_Night_begin.1.2 (sem n) [some (aR 93), none] m) := st_of B_Night_begin bo_249 (Nat.le_of_ble_eq_true rfl) rfl n m
theorem st_Night_comesOut (n : Nat) (p_m : Int) (m : bM) : sem (n + 1) 250 [aR 93, aI p_m] m = bfin (B_Night_comesOut.1.2 (sem n) [some (aR 93), some (aI p_m), none, none] m) := st_of B_Night_comesOut bo_250 (Nat.le_of_ble_eq_true rfl) rfl n m
theorem st_Night_flow (n : Nat) (p_comes : Int) (m : bM) : sem (n + 1) 251 [aR 93, aI p_comes] m = bfin (B_Night_flow.1.2 (sem n) [some (aR 93), some (aI p_comes), none, none, none, none] m) := st_of B_Night_flow bo_251 (Nat.le_of_ble_eq_true rfl) rfl n m
theorem st_Night_carry (n : Nat)  (m : bM) : sem (n + 1) 252 [aR 93] m = bfin (B_Night_carry.1.2 (sem n) [some (aR 93), none, none] m) := st_of B_Night_carry bo_252 (Nat.le_of_ble_eq_true rfl) rfl n m
theorem st_Night_rise (n : Nat) (p_m : Int) (m : bM) : sem (n + 1) 253 [aR 93, aI p_m] m = bfin (B_Night_rise.1.2 (sem n) [some (aR 93), some (aI p_m), none] m) := st_of B_Night_rise bo_253 (Nat.le_of_ble_eq_true rfl) rfl n m
theorem st_Night_launch (n : Nat)  (m : bM) : sem (n + 1) 254 [aR 93] m = bfin (B_Night_launch.1.2 (sem n) [some (aR 93), none] m) := st_of B_Night_launch bo_254 (Nat.le_of_ble_eq_true rfl) rfl n m
theorem st_Night_noMoreComes (n : Nat) (p_m : Int) (m : bM) : sem (n + 1) 255 [aR 93, aI p_m] m = bfin (B_Night_noMoreComes.1.2 (sem n) [some (aR 93), some (aI p_m), none, none] m) := st_of B_Night_noMoreComes bo_255 (Nat.le_of_ble_eq_true rfl) rfl n m
theorem st_Seen_wordsAgainst (n : Nat) (p_way : Int) (p_start : Int) (m : bM) : sem (n + 1) 256 [aR 17, aI p_way, aI p_start] m = bfin (B_Seen_wordsAgainst.1.2 (sem n) [some (aR 17), some (aI p_way), some (aI p_start), none, none] m) := st_of B_Seen_wordsAgainst bo_256 (Nat.le_of_ble_eq_true rfl) rfl n m
theorem st_Nights_know (n : Nat) (p_number : Int) (m : bM) : sem (n + 1) 257 [aR 101, aI p_number] m = bfin (B_Nights_know.1.2 (sem n) [some (aR 101), some (aI p_number)] m) := st_of B_Nights_know bo_257 (Nat.le_of_ble_eq_true rfl) rfl n m
theorem st_Seen_isDoubtedWord (n : Nat) (p_row : Int) (m : bM) : sem (n + 1) 258 [aR 17, aI p_row] m = bfin (B_Seen_isDoubtedWord.1.2 (sem n) [some (aR 17), some (aI p_row)] m) := st_of B_Seen_isDoubtedWord bo_258 (Nat.le_of_ble_eq_true rfl) rfl n m
theorem st_Nights_gatherThings (n : Nat) (p_number : Int) (m : bM) : sem (n + 1) 260 [aR 101, aI p_number] m = bfin (B_Nights_gatherThings.1.2 (sem n) [some (aR 101), some (aI p_number), none] m) := st_of B_Nights_gatherThings bo_260 (Nat.le_of_ble_eq_true rfl) rfl n m
theorem st_Folk_firstFit (n : Nat) (p_n : Int) (p_leftOut : Int) (m : bM) : sem (n + 1) 261 [aR 37, aI p_n, aI p_leftOut] m = bfin (B_Folk_firstFit.1.2 (sem n) [some (aR 37), some (aI p_n), some (aI p_leftOut), none] m) := st_of B_Folk_firstFit bo_261 (Nat.le_of_ble_eq_true rfl) rfl n m
theorem st_Reader_advance (n : Nat)  (m : bM) : sem (n + 1) 262 [aR 109] m = bfin (B_Reader_advance.1.2 (sem n) [some (aR 109)] m) := st_of B_Reader_advance bo_262 (Nat.le_of_ble_eq_true rfl) rfl n m
theorem st_Reader_parseLine (n : Nat) (p_line : Int) (m : bM) : sem (n + 1) 263 [aR 109, aI p_line] m = bfin (B_Reader_parseLine.1.2 (sem n) [some (aR 109), some (aI p_line), none, none, none, none] m) := st_of B_Reader_parseLine bo_263 (Nat.le_of_ble_eq_true rfl) rfl n m
theorem st_Law_fillFacts (n : Nat) (p_claim : Int) (p_row : Nat) (m : bM) : sem (n + 1) 264 [aR 111, aI p_claim, aR p_row] m = bfin (B_Law_fillFacts.1.2 (sem n) [some (aR 111), some (aI p_claim), some (aR p_row), none, none, none] m) := st_of B_Law_fillFacts bo_264 (Nat.le_of_ble_eq_true rfl) rfl n m
theorem st_Law_lastNumber (n : Nat) (p_version : Int) (p_verb : Int) (m : bM) : sem (n + 1) 265 [aR 111, aI p_version, aI p_verb] m = bfin (B_Law_lastNumber.1.2 (sem n) [some (aR 111), some (aI p_version), some (aI p_verb), none, none] m) := st_of B_Law_lastNumber bo_265 (Nat.le_of_ble_eq_true rfl) rfl n m
theorem st_Act_linesOf (n : Nat) (p_version : Int) (m : bM) : sem (n + 1) 266 [aR 63, aI p_version] m = bfin (B_Act_linesOf.1.2 (sem n) [some (aR 63), some (aI p_version)] m) := st_of B_Act_linesOf bo_266 (Nat.le_of_ble_eq_true rfl) rfl n m
theorem st_Law_holds (n : Nat) (p_version : Int) (p_from : Int) (p_to : Int) (m : bM) : sem (n + 1) 267 [aR 111, aI p_version, aI p_from, aI p_to] m = bfin (B_Law_holds.1.2 (sem n) [some (aR 111), some (aI p_version), some (aI p_from), some (aI p_to), none, none, none, none] m) := st_of B_Law_holds bo_267 (Nat.le_of_ble_eq_true rfl) rfl n m
theorem st_Law_claimants (n : Nat) (p_thing : Int) (m : bM) : sem (n + 1) 268 [aR 111, aI p_thing] m = bfin (B_Law_claimants.1.2 (sem n) [some (aR 111), some (aI p_thing), none, none] m) := st_of B_Law_claimants bo_268 (Nat.le_of_ble_eq_true rfl) rfl n m
theorem st_Law_areUnlike (n : Nat) (p_c : Int) (p_d : Int) (m : bM) : sem (n + 1) 269 [aR 111, aI p_c, aI p_d] m = bfin (B_Law_areUnlike.1.2 (sem n) [some (aR 111), some (aI p_c), some (aI p_d), none, none] m) := st_of B_Law_areUnlike bo_269 (Nat.le_of_ble_eq_true rfl) rfl n m
theorem st_Law_countDifferent (n : Nat) (p_otherClaim : Int) (m : bM) : sem (n + 1) 270 [aR 111, aI p_otherClaim] m = bfin (B_Law_countDifferent.1.2 (sem n) [some (aR 111), some (aI p_otherClaim), none, none] m) := st_of B_Law_countDifferent bo_270 (Nat.le_of_ble_eq_true rfl) rfl n m
theorem st_Tour_takeMembers (n : Nat)  (m : bM) : sem (n + 1) 271 [aR 117] m = bfin (B_Tour_takeMembers.1.2 (sem n) [some (aR 117), none, none] m) := st_of B_Tour_takeMembers bo_271 (Nat.le_of_ble_eq_true rfl) rfl n m
theorem st_Tour_leastCost (n : Nat) (p_heard : Int) (p_reach : Int) (p_more : Int) (m : bM) : sem (n + 1) 272 [aR 117, aI p_heard, aI p_reach, aI p_more] m = bfin (B_Tour_leastCost.1.2 (sem n) [some (aR 117), some (aI p_heard), some (aI p_reach), some (aI p_more), none, none, none, none, none] m) := st_of B_Tour_leastCost bo_272 (Nat.le_of_ble_eq_true rfl) rfl n m
theorem st_Tour_writeRows (n : Nat)  (m : bM) : sem (n + 1) 273 [aR 117] m = bfin (B_Tour_writeRows.1.2 (sem n) [some (aR 117), none, none, none, none, none, none] m) := st_of B_Tour_writeRows bo_273 (Nat.le_of_ble_eq_true rfl) rfl n m
theorem st_Host_kindOn (n : Nat) (p_shelf : Int) (m : bM) : sem (n + 1) 274 [aR 124, aI p_shelf] m = bfin (B_Host_kindOn.1.2 (sem n) [some (aR 124), some (aI p_shelf), none] m) := st_of B_Host_kindOn bo_274 (Nat.le_of_ble_eq_true rfl) rfl n m
theorem st_Host_isUnder (n : Nat) (p_itsKind : Int) (p_as : Int) (m : bM) : sem (n + 1) 275 [aI p_itsKind, aI p_as] m = bfin (B_Host_isUnder.1.2 (sem n) [some (aI p_itsKind), some (aI p_as), none, none] m) := st_of B_Host_isUnder bo_275 (Nat.le_of_ble_eq_true rfl) rfl n m
theorem st_Host_run (n : Nat) (p_from : Int) (p_deal : Int) (p_x : Int) (p_depth : Int) (m : bM) : sem (n + 1) 276 [aR 124, aI p_from, aI p_deal, aI p_x, aI p_depth] m = bfin (B_Host_run.1.2 (sem n) [some (aR 124), some (aI p_from), some (aI p_deal), some (aI p_x), some (aI p_depth), none, none, none, none] m) := st_of B_Host_run bo_276 (Nat.le_of_ble_eq_true rfl) rfl n m
theorem st_M_deepest (n : Nat) (p_r : Int) (m : bM) : sem (n + 1) 277 [aR 132, aI p_r] m = bfin (B_M_deepest.1.2 (sem n) [some (aR 132), some (aI p_r), none, none] m) := st_of B_M_deepest bo_277 (Nat.le_of_ble_eq_true rfl) rfl n m
theorem st_M_isActive (n : Nat) (p_k : Int) (m : bM) : sem (n + 1) 278 [aR 132, aI p_k] m = bfin (B_M_isActive.1.2 (sem n) [some (aR 132), some (aI p_k)] m) := st_of B_M_isActive bo_278 (Nat.le_of_ble_eq_true rfl) rfl n m
theorem st_M_counts (n : Nat) (p_n : Int) (m : bM) : sem (n + 1) 279 [aR 132, aI p_n] m = bfin (B_M_counts.1.2 (sem n) [some (aR 132), some (aI p_n), none, none, none] m) := st_of B_M_counts bo_279 (Nat.le_of_ble_eq_true rfl) rfl n m
theorem st_M_fits (n : Nat) (p_n : Int) (p_p : Int) (m : bM) : sem (n + 1) 280 [aR 132, aI p_n, aI p_p] m = bfin (B_M_fits.1.2 (sem n) [some (aR 132), some (aI p_n), some (aI p_p)] m) := st_of B_M_fits bo_280 (Nat.le_of_ble_eq_true rfl) rfl n m
theorem st_M_stands (n : Nat) (p_n : Int) (p_without : Int) (m : bM) : sem (n + 1) 281 [aR 132, aI p_n, aI p_without] m = bfin (B_M_stands.1.2 (sem n) [some (aR 132), some (aI p_n), some (aI p_without), none] m) := st_of B_M_stands bo_281 (Nat.le_of_ble_eq_true rfl) rfl n m
theorem st_M_byteAt (n : Nat) (p_k : Int) (m : bM) : sem (n + 1) 282 [aR 132, aI p_k] m = bfin (B_M_byteAt.1.2 (sem n) [some (aR 132), some (aI p_k)] m) := st_of B_M_byteAt bo_282 (Nat.le_of_ble_eq_true rfl) rfl n m
theorem st_M_fails (n : Nat)  (m : bM) : sem (n + 1) 283 [aR 132] m = bfin (B_M_fails.1.2 (sem n) [some (aR 132)] m) := st_of B_M_fails bo_283 (Nat.le_of_ble_eq_true rfl) rfl n m
theorem st_M_may (n : Nat) (p_w : Int) (m : bM) : sem (n + 1) 284 [aR 132, aL p_w] m = bfin (B_M_may.1.2 (sem n) [some (aR 132), some (aL p_w), none, none] m) := st_of B_M_may bo_284 (Nat.le_of_ble_eq_true rfl) rfl n m
theorem st_M_number (n : Nat) (p_most : Int) (m : bM) : sem (n + 1) 285 [aR 132, aI p_most] m = bfin (B_M_number.1.2 (sem n) [some (aR 132), some (aI p_most), none] m) := st_of B_M_number bo_285 (Nat.le_of_ble_eq_true rfl) rfl n m
theorem st_M_must (n : Nat) (p_w : Int) (m : bM) : sem (n + 1) 286 [aR 132, aL p_w] m = bfin (B_M_must.1.2 (sem n) [some (aR 132), some (aL p_w), none] m) := st_of B_M_must bo_286 (Nat.le_of_ble_eq_true rfl) rfl n m
theorem st_M_any (n : Nat)  (m : bM) : sem (n + 1) 287 [aR 132] m = bfin (B_M_any.1.2 (sem n) [some (aR 132)] m) := st_of B_M_any bo_287 (Nat.le_of_ble_eq_true rfl) rfl n m
theorem st_M_mustSign (n : Nat) (p_s : Int) (m : bM) : sem (n + 1) 288 [aR 132, aI p_s] m = bfin (B_M_mustSign.1.2 (sem n) [some (aR 132), some (aI p_s)] m) := st_of B_M_mustSign bo_288 (Nat.le_of_ble_eq_true rfl) rfl n m
theorem st_M_latest (n : Nat) (p_day : Int) (p_is : Int) (p_otherwise : Int) (m : bM) : sem (n + 1) 289 [aR 132, aI p_day, aI p_is, aI p_otherwise] m = bfin (B_M_latest.1.2 (sem n) [some (aR 132), some (aI p_day), some (aI p_is), some (aI p_otherwise), none, none, none] m) := st_of B_M_latest bo_289 (Nat.le_of_ble_eq_true rfl) rfl n m
theorem st_M_actOf (n : Nat) (p_day : Int) (m : bM) : sem (n + 1) 290 [aR 132, aI p_day] m = bfin (B_M_actOf.1.2 (sem n) [some (aR 132), some (aI p_day), none, none] m) := st_of B_M_actOf bo_290 (Nat.le_of_ble_eq_true rfl) rfl n m
theorem st_M_holds (n : Nat) (p_v : Int) (p_i : Int) (p_c : Int) (m : bM) : sem (n + 1) 291 [aR 132, aI p_v, aI p_i, aI p_c] m = bfin (B_M_holds.1.2 (sem n) [some (aR 132), some (aI p_v), some (aI p_i), some (aI p_c), none, none, none, none, none, none] m) := st_of B_M_holds bo_291 (Nat.le_of_ble_eq_true rfl) rfl n m
theorem st_M_fact (n : Nat) (p_c : Int) (p_which : Int) (m : bM) : sem (n + 1) 292 [aR 132, aI p_c, aI p_which] m = bfin (B_M_fact.1.2 (sem n) [some (aR 132), some (aI p_c), some (aI p_which), none] m) := st_of B_M_fact bo_292 (Nat.le_of_ble_eq_true rfl) rfl n m
theorem st_M_houseOf (n : Nat) (p_c : Int) (m : bM) : sem (n + 1) 293 [aR 132, aI p_c] m = bfin (B_M_houseOf.1.2 (sem n) [some (aR 132), some (aI p_c)] m) := st_of B_M_houseOf bo_293 (Nat.le_of_ble_eq_true rfl) rfl n m
theorem st_M_greater (n : Nat) (p_a : Int) (p_b : Int) (m : bM) : sem (n + 1) 294 [aI p_a, aI p_b] m = bfin (B_M_greater.1.2 (sem n) [some (aI p_a), some (aI p_b)] m) := st_of B_M_greater bo_294 (Nat.le_of_ble_eq_true rfl) rfl n m
theorem st_M_ran (n : Nat) (p_body : Int) (m : bM) : sem (n + 1) 295 [aR 132, aI p_body] m = bfin (B_M_ran.1.2 (sem n) [some (aR 132), some (aI p_body)] m) := st_of B_M_ran bo_295 (Nat.le_of_ble_eq_true rfl) rfl n m
theorem st_M_plainFits (n : Nat) (p_x : Int) (m : bM) : sem (n + 1) 296 [aR 132, aI p_x] m = bfin (B_M_plainFits.1.2 (sem n) [some (aR 132), some (aI p_x)] m) := st_of B_M_plainFits bo_296 (Nat.le_of_ble_eq_true rfl) rfl n m
theorem st_M_wordPays (n : Nat) (p_x : Int) (m : bM) : sem (n + 1) 297 [aR 132, aI p_x] m = bfin (B_M_wordPays.1.2 (sem n) [some (aR 132), some (aI p_x)] m) := st_of B_M_wordPays bo_297 (Nat.le_of_ble_eq_true rfl) rfl n m
theorem st_M_plainPays (n : Nat) (p_x : Int) (m : bM) : sem (n + 1) 298 [aR 132, aI p_x] m = bfin (B_M_plainPays.1.2 (sem n) [some (aR 132), some (aI p_x)] m) := st_of B_M_plainPays bo_298 (Nat.le_of_ble_eq_true rfl) rfl n m
theorem st_M_plainHangs (n : Nat) (p_x : Int) (m : bM) : sem (n + 1) 299 [aR 132, aI p_x] m = bfin (B_M_plainHangs.1.2 (sem n) [some (aR 132), some (aI p_x)] m) := st_of B_M_plainHangs bo_299 (Nat.le_of_ble_eq_true rfl) rfl n m
theorem st_M_claimHangs (n : Nat) (p_x : Int) (m : bM) : sem (n + 1) 300 [aR 132, aI p_x] m = bfin (B_M_claimHangs.1.2 (sem n) [some (aR 132), some (aI p_x)] m) := st_of B_M_claimHangs bo_300 (Nat.le_of_ble_eq_true rfl) rfl n m
theorem st_M_plainTells (n : Nat) (p_x : Int) (m : bM) : sem (n + 1) 301 [aR 132, aI p_x] m = bfin (B_M_plainTells.1.2 (sem n) [some (aR 132), some (aI p_x)] m) := st_of B_M_plainTells bo_301 (Nat.le_of_ble_eq_true rfl) rfl n m
theorem st_M_copies (n : Nat) (p_row : Nat) (p_many : Int) (p_keeps : Int) (m : bM) : sem (n + 1) 302 [aR 132, aR p_row, aI p_many, aI p_keeps] m = bfin (B_M_copies.1.2 (sem n) [some (aR 132), some (aR p_row), some (aI p_many), some (aI p_keeps), none] m) := st_of B_M_copies bo_302 (Nat.le_of_ble_eq_true rfl) rfl n m
theorem st_Night_tableNumber (n : Nat) (p_i : Int) (m : bM) : sem (n + 1) 303 [aR 93, aI p_i] m = bfin (B_Night_tableNumber.1.2 (sem n) [some (aR 93), some (aI p_i), none] m) := st_of B_Night_tableNumber bo_303 (Nat.le_of_ble_eq_true rfl) rfl n m
theorem st_Night_breakHouses (n : Nat) (p_reach : Int) (p_m : Int) (m : bM) : sem (n + 1) 304 [aR 93, aI p_reach, aI p_m] m = bfin (B_Night_breakHouses.1.2 (sem n) [some (aR 93), some (aI p_reach), some (aI p_m), none] m) := st_of B_Night_breakHouses bo_304 (Nat.le_of_ble_eq_true rfl) rfl n m
theorem st_Night_stopClocks (n : Nat) (p_reach : Int) (p_m : Int) (m : bM) : sem (n + 1) 305 [aR 93, aI p_reach, aI p_m] m = bfin (B_Night_stopClocks.1.2 (sem n) [some (aR 93), some (aI p_reach), some (aI p_m), none] m) := st_of B_Night_stopClocks bo_305 (Nat.le_of_ble_eq_true rfl) rfl n m
theorem st_Nights_clocksAndMarksAgainst (n : Nat)  (m : bM) : sem (n + 1) 306 [aR 101] m = bfin (B_Nights_clocksAndMarksAgainst.1.2 (sem n) [some (aR 101), none, none, none, none] m) := st_of B_Nights_clocksAndMarksAgainst bo_306 (Nat.le_of_ble_eq_true rfl) rfl n m
theorem st_Folk_isFit (n : Nat) (p_n : Int) (p_p : Int) (m : bM) : sem (n + 1) 307 [aR 37, aI p_n, aI p_p] m = bfin (B_Folk_isFit.1.2 (sem n) [some (aR 37), some (aI p_n), some (aI p_p)] m) := st_of B_Folk_isFit bo_307 (Nat.le_of_ble_eq_true rfl) rfl n m
theorem st_Reader_isLetter (n : Nat) (p_sign : Int) (m : bM) : sem (n + 1) 308 [aI p_sign] m = bfin (B_Reader_isLetter.1.2 (sem n) [some (aI p_sign)] m) := st_of B_Reader_isLetter bo_308 (Nat.le_of_ble_eq_true rfl) rfl n m
theorem st_Reader_wordNumber (n : Nat)  (m : bM) : sem (n + 1) 309 [aR 109] m = bfin (B_Reader_wordNumber.1.2 (sem n) [some (aR 109), none, none, none, none, none] m) := st_of B_Reader_wordNumber bo_309 (Nat.le_of_ble_eq_true rfl) rfl n m
theorem st_Reader_isDigit (n : Nat) (p_sign : Int) (m : bM) : sem (n + 1) 310 [aI p_sign] m = bfin (B_Reader_isDigit.1.2 (sem n) [some (aI p_sign)] m) := st_of B_Reader_isDigit bo_310 (Nat.le_of_ble_eq_true rfl) rfl n m
theorem st_Reader_numberValue (n : Nat)  (m : bM) : sem (n + 1) 311 [aR 109] m = bfin (B_Reader_numberValue.1.2 (sem n) [some (aR 109), none, none] m) := st_of B_Reader_numberValue bo_311 (Nat.le_of_ble_eq_true rfl) rfl n m
theorem st_Reader_mostOf (n : Nat) (p_verb : Int) (m : bM) : sem (n + 1) 312 [aI p_verb] m = bfin (B_Reader_mostOf.1.2 (sem n) [some (aI p_verb)] m) := st_of B_Reader_mostOf bo_312 (Nat.le_of_ble_eq_true rfl) rfl n m
theorem st_Reader_isNumber (n : Nat) (p_most : Int) (m : bM) : sem (n + 1) 313 [aR 109, aI p_most] m = bfin (B_Reader_isNumber.1.2 (sem n) [some (aR 109), some (aI p_most)] m) := st_of B_Reader_isNumber bo_313 (Nat.le_of_ble_eq_true rfl) rfl n m
theorem st_Reader_parseCond (n : Nat) (p_open : Int) (m : bM) : sem (n + 1) 314 [aR 109, aI p_open] m = bfin (B_Reader_parseCond.1.2 (sem n) [some (aR 109), some (aI p_open), none, none] m) := st_of B_Reader_parseCond bo_314 (Nat.le_of_ble_eq_true rfl) rfl n m
theorem st_Law_hasFind (n : Nat) (p_thing : Int) (m : bM) : sem (n + 1) 315 [aR 111, aI p_thing] m = bfin (B_Law_hasFind.1.2 (sem n) [some (aR 111), some (aI p_thing), none] m) := st_of B_Law_hasFind bo_315 (Nat.le_of_ble_eq_true rfl) rfl n m
theorem st_Law_compares (n : Nat) (p_code : Int) (m : bM) : sem (n + 1) 316 [aR 111, aI p_code] m = bfin (B_Law_compares.1.2 (sem n) [some (aR 111), some (aI p_code), none, none, none] m) := st_of B_Law_compares bo_316 (Nat.le_of_ble_eq_true rfl) rfl n m
theorem st_Tour_waiting (n : Nat) (p_heard : Int) (m : bM) : sem (n + 1) 317 [aR 117, aI p_heard] m = bfin (B_Tour_waiting.1.2 (sem n) [some (aR 117), some (aI p_heard), none, none] m) := st_of B_Tour_waiting bo_317 (Nat.le_of_ble_eq_true rfl) rfl n m
theorem st_Tour_costVia (n : Nat) (p_next : Int) (p_heard : Int) (p_days : Int) (p_weight : Int) (m : bM) : sem (n + 1) 318 [aR 117, aI p_next, aI p_heard, aI p_days, aI p_weight] m = bfin (B_Tour_costVia.1.2 (sem n) [some (aR 117), some (aI p_next), some (aI p_heard), some (aI p_days), some (aI p_weight)] m) := st_of B_Tour_costVia bo_318 (Nat.le_of_ble_eq_true rfl) rfl n m
theorem st_Tour_bestNext (n : Nat) (p_heard : Int) (p_reach : Int) (p_more : Int) (m : bM) : sem (n + 1) 319 [aR 117, aI p_heard, aI p_reach, aI p_more] m = bfin (B_Tour_bestNext.1.2 (sem n) [some (aR 117), some (aI p_heard), some (aI p_reach), some (aI p_more), none, none, none, none] m) := st_of B_Tour_bestNext bo_319 (Nat.le_of_ble_eq_true rfl) rfl n m
theorem st_Host_note (n : Nat) (p_body : Int) (m : bM) : sem (n + 1) 320 [aR 124, aI p_body] m = bfin (B_Host_note.1.2 (sem n) [some (aR 124), some (aI p_body)] m) := st_of B_Host_note bo_320 (Nat.le_of_ble_eq_true rfl) rfl n m
theorem st_Host_parted (n : Nat) (p_x : Int) (m : bM) : sem (n + 1) 321 [aR 124, aI p_x] m = bfin (B_Host_parted.1.2 (sem n) [some (aR 124), some (aI p_x)] m) := st_of B_Host_parted bo_321 (Nat.le_of_ble_eq_true rfl) rfl n m
theorem st_M_all (n : Nat)  (m : bM) : sem (n + 1) 322 [aR 132] m = bfin (B_M_all.1.2 (sem n) [some (aR 132)] m) := st_of B_M_all bo_322 (Nat.le_of_ble_eq_true rfl) rfl n m
theorem st_M_does (n : Nat) (p_is : Int) (p_sign : Int) (p_n : Int) (m : bM) : sem (n + 1) 323 [aR 132, aI p_is, aI p_sign, aI p_n] m = bfin (B_M_does.1.2 (sem n) [some (aR 132), some (aI p_is), some (aI p_sign), some (aI p_n), none] m) := st_of B_M_does bo_323 (Nat.le_of_ble_eq_true rfl) rfl n m
theorem st_M_isSign (n : Nat) (p_s : Int) (m : bM) : sem (n + 1) 324 [aR 132, aI p_s] m = bfin (B_M_isSign.1.2 (sem n) [some (aR 132), some (aI p_s)] m) := st_of B_M_isSign bo_324 (Nat.le_of_ble_eq_true rfl) rfl n m
theorem st_M_isSo (n : Nat) (p_k : Int) (p_c : Int) (m : bM) : sem (n + 1) 325 [aR 132, aI p_k, aI p_c] m = bfin (B_M_isSo.1.2 (sem n) [some (aR 132), some (aI p_k), some (aI p_c), none] m) := st_of B_M_isSo bo_325 (Nat.le_of_ble_eq_true rfl) rfl n m
theorem st_Reader_parseOne (n : Nat) (p_open : Int) (m : bM) : sem (n + 1) 328 [aR 109, aI p_open] m = bfin (B_Reader_parseOne.1.2 (sem n) [some (aR 109), some (aI p_open), none, none] m) := st_of B_Reader_parseOne bo_328 (Nat.le_of_ble_eq_true rfl) rfl n m
theorem st_Reader_emit (n : Nat) (p_code : Int) (m : bM) : sem (n + 1) 329 [aR 109, aI p_code] m = bfin (B_Reader_emit.1.2 (sem n) [some (aR 109), some (aI p_code)] m) := st_of B_Reader_emit bo_329 (Nat.le_of_ble_eq_true rfl) rfl n m
theorem st_M_one (n : Nat)  (m : bM) : sem (n + 1) 330 [aR 132] m = bfin (B_M_one.1.2 (sem n) [some (aR 132), none, none, none] m) := st_of B_M_one bo_330 (Nat.le_of_ble_eq_true rfl) rfl n m
theorem st_Reader_parseCompare (n : Nat)  (m : bM) : sem (n + 1) 331 [aR 109] m = bfin (B_Reader_parseCompare.1.2 (sem n) [some (aR 109), none, none] m) := st_of B_Reader_parseCompare bo_331 (Nat.le_of_ble_eq_true rfl) rfl n m
theorem st_M_factHere (n : Nat)  (m : bM) : sem (n + 1) 332 [aR 132] m = bfin (B_M_factHere.1.2 (sem n) [some (aR 132)] m) := st_of B_M_factHere bo_332 (Nat.le_of_ble_eq_true rfl) rfl n m
theorem kr_V_reach : brc K_V_reach.2.2.2.1 = 1 := nrf rfl
theorem kr_V_pond : brc K_V_pond.2.2.2.1 = 1 := nrf rfl
theorem kr_V_gate : brc K_V_gate.2.2.2.1 = 1 := nrf rfl
theorem kr_V_table : brc K_V_table.2.2.2.1 = 1 := nrf rfl
theorem kr_V_house : brc K_V_house.2.2.2.1 = 1 := nrf rfl
theorem kr_V_depth : brc K_V_depth.2.2.2.1 = 1 := nrf rfl
theorem kr_V_falls : brc K_V_falls.2.2.2.1 = 1 := nrf rfl
theorem kr_V_sooner : brc K_V_sooner.2.2.2.1 = 1 := nrf rfl
theorem kr_V_clock : brc K_V_clock.2.2.2.1 = 1 := nrf rfl
theorem kr_V_mark : brc K_V_mark.2.2.2.1 = 1 := nrf rfl
theorem kr_V_word : brc K_V_word.2.2.2.1 = 1 := nrf rfl
theorem kr_V_tear : brc K_V_tear.2.2.2.1 = 1 := nrf rfl
theorem kr_V_side : brc K_V_side.2.2.2.1 = 1 := nrf rfl
theorem kr_V_doubt : brc K_V_doubt.2.2.2.1 = 1 := nrf rfl
theorem kr_V_lets : brc K_V_lets.2.2.2.1 = 1 := nrf rfl
theorem kr_V_possible : brc K_V_possible.2.2.2.1 = 1 := nrf rfl
theorem kr_V_span : brc K_V_span.2.2.2.1 = 1 := nrf rfl
theorem kr_V_hangs : brc K_V_hangs.2.2.2.1 = 1 := nrf rfl
theorem kr_V_sure : brc K_V_sure.2.2.2.1 = 1 := nrf rfl
theorem kr_V_could : brc K_V_could.2.2.2.1 = 1 := nrf rfl
theorem kr_V_told : brc K_V_told.2.2.2.1 = 1 := nrf rfl
theorem kr_V_person : brc K_V_person.2.2.2.1 = 1 := nrf rfl
theorem kr_V_safe : brc K_V_safe.2.2.2.1 = 1 := nrf rfl
theorem kr_V_name : brc K_V_name.2.2.2.1 = 1 := nrf rfl
theorem kr_V_list : brc K_V_list.2.2.2.1 = 1 := nrf rfl
theorem kr_V_thing : brc K_V_thing.2.2.2.1 = 1 := nrf rfl
theorem kr_V_lies : brc K_V_lies.2.2.2.1 = 1 := nrf rfl
theorem kr_V_find : brc K_V_find.2.2.2.1 = 1 := nrf rfl
theorem kr_V_whose : brc K_V_whose.2.2.2.1 = 1 := nrf rfl
theorem kr_V_days : brc K_V_days.2.2.2.1 = 1 := nrf rfl
theorem kr_V_feed : brc K_V_feed.2.2.2.1 = 1 := nrf rfl
theorem kr_V_read : brc K_V_read.2.2.2.1 = 1 := nrf rfl
theorem kr_V_claim : brc K_V_claim.2.2.2.1 = 1 := nrf rfl
theorem kr_V_proof : brc K_V_proof.2.2.2.1 = 1 := nrf rfl
theorem kr_V_claimOf : brc K_V_claimOf.2.2.2.1 = 1 := nrf rfl
theorem kr_V_why : brc K_V_why.2.2.2.1 = 1 := nrf rfl
theorem kr_V_odd : brc K_V_odd.2.2.2.1 = 1 := nrf rfl
theorem kr_V_fund : brc K_V_fund.2.2.2.1 = 1 := nrf rfl
theorem kr_V_pay : brc K_V_pay.2.2.2.1 = 1 := nrf rfl
theorem kr_V_offer : brc K_V_offer.2.2.2.1 = 1 := nrf rfl
theorem kr_V_likest : brc K_V_likest.2.2.2.1 = 1 := nrf rfl
theorem kr_V_round : brc K_V_round.2.2.2.1 = 1 := nrf rfl
theorem kr_V_row : brc K_V_row.2.2.2.1 = 1 := nrf rfl
theorem kr_V_alterRow : brc K_V_alterRow.2.2.2.1 = 1 := nrf rfl
theorem kr_V_dropRow : brc K_V_dropRow.2.2.2.1 = 1 := nrf rfl
theorem kr_V_judge : brc K_V_judge.2.2.2.1 = 1 := nrf rfl
theorem kr_V_years : brc K_V_years.2.2.2.1 = 1 := nrf rfl
theorem kr_V_rate : brc K_V_rate.2.2.2.1 = 1 := nrf rfl
theorem kr_V_sheet : brc K_V_sheet.2.2.2.1 = 1 := nrf rfl
theorem kr_V_put : brc K_V_put.2.2.2.1 = 1 := nrf rfl
theorem kr_V_item : brc K_V_item.2.2.2.1 = 1 := nrf rfl
theorem kr_V_shelf : brc K_V_shelf.2.2.2.1 = 1 := nrf rfl
theorem kr_V_taken : brc K_V_taken.2.2.2.1 = 1 := nrf rfl
theorem kr_V_deal : brc K_V_deal.2.2.2.1 = 1 := nrf rfl
theorem kr_V_trace : brc K_V_trace.2.2.2.1 = 1 := nrf rfl
theorem kr_V_many : brc K_V_many.2.2.2.1 = 1 := nrf rfl
theorem kr_V_keep : brc K_V_keep.2.2.2.1 = 1 := nrf rfl
theorem kr_V_again : brc K_V_again.2.2.2.1 = 1 := nrf rfl
theorem kr_M_reach : brc K_M_reach.2.2.2.1 = 1 := nrf rfl
theorem kr_M_pond : brc K_M_pond.2.2.2.1 = 1 := nrf rfl
theorem kr_M_gate : brc K_M_gate.2.2.2.1 = 1 := nrf rfl
theorem kr_M_table : brc K_M_table.2.2.2.1 = 1 := nrf rfl
theorem kr_M_house : brc K_M_house.2.2.2.1 = 1 := nrf rfl
theorem kr_M_depth : brc K_M_depth.2.2.2.1 = 1 := nrf rfl
theorem kr_M_falls : brc K_M_falls.2.2.2.1 = 1 := nrf rfl
theorem kr_M_sooner : brc K_M_sooner.2.2.2.1 = 1 := nrf rfl
theorem kr_M_clock : brc K_M_clock.2.2.2.1 = 1 := nrf rfl
theorem kr_M_mark : brc K_M_mark.2.2.2.1 = 1 := nrf rfl
theorem kr_M_word : brc K_M_word.2.2.2.1 = 1 := nrf rfl
theorem kr_M_tear : brc K_M_tear.2.2.2.1 = 1 := nrf rfl
theorem kr_M_side : brc K_M_side.2.2.2.1 = 1 := nrf rfl
theorem kr_M_doubt : brc K_M_doubt.2.2.2.1 = 1 := nrf rfl
theorem kr_M_lets : brc K_M_lets.2.2.2.1 = 1 := nrf rfl
theorem kr_M_possible : brc K_M_possible.2.2.2.1 = 1 := nrf rfl
theorem kr_M_span : brc K_M_span.2.2.2.1 = 1 := nrf rfl
theorem kr_M_hangs : brc K_M_hangs.2.2.2.1 = 1 := nrf rfl
theorem kr_M_sure : brc K_M_sure.2.2.2.1 = 1 := nrf rfl
theorem kr_M_could : brc K_M_could.2.2.2.1 = 1 := nrf rfl
theorem kr_M_told : brc K_M_told.2.2.2.1 = 1 := nrf rfl
theorem kr_M_person : brc K_M_person.2.2.2.1 = 1 := nrf rfl
theorem kr_M_safe : brc K_M_safe.2.2.2.1 = 1 := nrf rfl
theorem kr_M_name : brc K_M_name.2.2.2.1 = 1 := nrf rfl
theorem kr_M_list : brc K_M_list.2.2.2.1 = 1 := nrf rfl
theorem kr_M_thing : brc K_M_thing.2.2.2.1 = 1 := nrf rfl
theorem kr_M_lies : brc K_M_lies.2.2.2.1 = 1 := nrf rfl
theorem kr_M_find : brc K_M_find.2.2.2.1 = 1 := nrf rfl
theorem kr_M_whose : brc K_M_whose.2.2.2.1 = 1 := nrf rfl
theorem kr_M_days : brc K_M_days.2.2.2.1 = 1 := nrf rfl
theorem kr_M_feed : brc K_M_feed.2.2.2.1 = 1 := nrf rfl
theorem kr_M_read : brc K_M_read.2.2.2.1 = 1 := nrf rfl
theorem kr_M_claim : brc K_M_claim.2.2.2.1 = 1 := nrf rfl
theorem kr_M_proof : brc K_M_proof.2.2.2.1 = 1 := nrf rfl
theorem kr_M_claimOf : brc K_M_claimOf.2.2.2.1 = 1 := nrf rfl
theorem kr_M_why : brc K_M_why.2.2.2.1 = 1 := nrf rfl
theorem kr_M_odd : brc K_M_odd.2.2.2.1 = 1 := nrf rfl
theorem kr_M_fund : brc K_M_fund.2.2.2.1 = 1 := nrf rfl
theorem kr_M_pay : brc K_M_pay.2.2.2.1 = 1 := nrf rfl
theorem kr_M_offer : brc K_M_offer.2.2.2.1 = 1 := nrf rfl
theorem kr_M_likest : brc K_M_likest.2.2.2.1 = 1 := nrf rfl
theorem kr_M_round : brc K_M_round.2.2.2.1 = 1 := nrf rfl
theorem kr_M_row : brc K_M_row.2.2.2.1 = 1 := nrf rfl
theorem kr_M_alterRow : brc K_M_alterRow.2.2.2.1 = 1 := nrf rfl
theorem kr_M_dropRow : brc K_M_dropRow.2.2.2.1 = 1 := nrf rfl
theorem kr_M_judge : brc K_M_judge.2.2.2.1 = 1 := nrf rfl
theorem kr_M_years : brc K_M_years.2.2.2.1 = 1 := nrf rfl
theorem kr_M_rate : brc K_M_rate.2.2.2.1 = 1 := nrf rfl
theorem kr_M_sheet : brc K_M_sheet.2.2.2.1 = 1 := nrf rfl
theorem kr_M_put : brc K_M_put.2.2.2.1 = 1 := nrf rfl
theorem kr_M_item : brc K_M_item.2.2.2.1 = 1 := nrf rfl
theorem kr_M_shelf : brc K_M_shelf.2.2.2.1 = 1 := nrf rfl
theorem kr_M_taken : brc K_M_taken.2.2.2.1 = 1 := nrf rfl
theorem kr_M_deal : brc K_M_deal.2.2.2.1 = 1 := nrf rfl
theorem kr_M_trace : brc K_M_trace.2.2.2.1 = 1 := nrf rfl
theorem kr_M_many : brc K_M_many.2.2.2.1 = 1 := nrf rfl
theorem kr_M_keep : brc K_M_keep.2.2.2.1 = 1 := nrf rfl
theorem kr_M_again : brc K_M_again.2.2.2.1 = 1 := nrf rfl
theorem kr_V_isReach : brc K_V_isReach.2.2.2.1 = 2 := nrf rfl
theorem kr_V_within : brc K_V_within.2.2.2.1 = 2 := nrf rfl
theorem kr_Nights_forgetNights : brc K_Nights_forgetNights.2.2.2.1 = 0 := nrf rfl
theorem kr_V_isGate : brc K_V_isGate.2.2.2.1 = 2 := nrf rfl
theorem kr_V_isWay : brc K_V_isWay.2.2.2.1 = 2 := nrf rfl
theorem kr_V_isSheet : brc K_V_isSheet.2.2.2.1 = 2 := nrf rfl
theorem kr_Host_refusesSort : brc K_Host_refusesSort.2.2.2.1 = 1 := nrf rfl
theorem kr_Host_isTable : brc K_Host_isTable.2.2.2.1 = 2 := nrf rfl
theorem kr_V_isNight : brc K_V_isNight.2.2.2.1 = 2 := nrf rfl
theorem kr_V_isMinute : brc K_V_isMinute.2.2.2.1 = 2 := nrf rfl
theorem kr_Night_pass : brc K_Night_pass.2.2.2.1 = 0 := nrf rfl
theorem kr_Night_depthNow : brc K_Night_depthNow.2.2.2.1 = 1 := nrf rfl
theorem kr_V_isHouse : brc K_V_isHouse.2.2.2.1 = 2 := nrf rfl
theorem kr_Night_fallen : brc K_Night_fallen.2.2.2.1 = 1 := nrf rfl
theorem kr_Seen_addRow : brc K_Seen_addRow.2.2.2.1 = 1 := nrf rfl
theorem kr_V_isEngineer : brc K_V_isEngineer.2.2.2.1 = 2 := nrf rfl
theorem kr_V_isStart : brc K_V_isStart.2.2.2.1 = 2 := nrf rfl
theorem kr_Nights_forgetPossible : brc K_Nights_forgetPossible.2.2.2.1 = 0 := nrf rfl
theorem kr_V_isSeenRow : brc K_V_isSeenRow.2.2.2.1 = 2 := nrf rfl
theorem kr_Seen_setDoubted : brc K_Seen_setDoubted.2.2.2.1 = 1 := nrf rfl
theorem kr_Nights_allLet : brc K_Nights_allLet.2.2.2.1 = 2 := nrf rfl
theorem kr_Nights_weigh : brc K_Nights_weigh.2.2.2.1 = 0 := nrf rfl
theorem kr_Nights_countPossible : brc K_Nights_countPossible.2.2.2.1 = 1 := nrf rfl
theorem kr_Nights_lastStart : brc K_Nights_lastStart.2.2.2.1 = 1 := nrf rfl
theorem kr_Nights_firstStart : brc K_Nights_firstStart.2.2.2.1 = 1 := nrf rfl
theorem kr_Seen_speaking : brc K_Seen_speaking.2.2.2.1 = 1 := nrf rfl
theorem kr_Nights_countLet : brc K_Nights_countLet.2.2.2.1 = 1 := nrf rfl
theorem kr_Nights_gather : brc K_Nights_gather.2.2.2.1 = 0 := nrf rfl
theorem kr_Nights_fallsInEach : brc K_Nights_fallsInEach.2.2.2.1 = 2 := nrf rfl
theorem kr_Nights_fallsInSome : brc K_Nights_fallsInSome.2.2.2.1 = 2 := nrf rfl
theorem kr_V_isRide : brc K_V_isRide.2.2.2.1 = 2 := nrf rfl
theorem kr_Nights_toldInTime : brc K_Nights_toldInTime.2.2.2.1 = 1 := nrf rfl
theorem kr_Nights_toldForSure : brc K_Nights_toldForSure.2.2.2.1 = 1 := nrf rfl
theorem kr_V_isPerson : brc K_V_isPerson.2.2.2.1 = 2 := nrf rfl
theorem kr_Folk_namesThatStand : brc K_Folk_namesThatStand.2.2.2.1 = 1 := nrf rfl
theorem kr_Folk_namesNever : brc K_Folk_namesNever.2.2.2.1 = 1 := nrf rfl
theorem kr_V_isThing : brc K_V_isThing.2.2.2.1 = 2 := nrf rfl
theorem kr_Nights_restOf : brc K_Nights_restOf.2.2.2.1 = 1 := nrf rfl
theorem kr_Nights_canBe : brc K_Nights_canBe.2.2.2.1 = 2 := nrf rfl
theorem kr_Reader_append : brc K_Reader_append.2.2.2.1 = 0 := nrf rfl
theorem kr_Reader_parse : brc K_Reader_parse.2.2.2.1 = 1 := nrf rfl
theorem kr_Claims_isClaimed : brc K_Claims_isClaimed.2.2.2.1 = 2 := nrf rfl
theorem kr_Claims_addClaim : brc K_Claims_addClaim.2.2.2.1 = 1 := nrf rfl
theorem kr_V_isClaim : brc K_V_isClaim.2.2.2.1 = 2 := nrf rfl
theorem kr_Claims_addProof : brc K_Claims_addProof.2.2.2.1 = 0 := nrf rfl
theorem kr_Claims_proofsThatCount : brc K_Claims_proofsThatCount.2.2.2.1 = 1 := nrf rfl
theorem kr_V_isDay : brc K_V_isDay.2.2.2.1 = 2 := nrf rfl
theorem kr_Law_takeFacts : brc K_Law_takeFacts.2.2.2.1 = 0 := nrf rfl
theorem kr_Act_versionOn : brc K_Act_versionOn.2.2.2.1 = 1 := nrf rfl
theorem kr_Law_isBarred : brc K_Law_isBarred.2.2.2.1 = 2 := nrf rfl
theorem kr_Law_owed : brc K_Law_owed.2.2.2.1 = 1 := nrf rfl
theorem kr_Law_rank : brc K_Law_rank.2.2.2.1 = 1 := nrf rfl
theorem kr_Law_isFound : brc K_Law_isFound.2.2.2.1 = 2 := nrf rfl
theorem kr_Law_firstLine : brc K_Law_firstLine.2.2.2.1 = 1 := nrf rfl
theorem kr_Law_housesOver : brc K_Law_housesOver.2.2.2.1 = 1 := nrf rfl
theorem kr_Law_thingsTwice : brc K_Law_thingsTwice.2.2.2.1 = 1 := nrf rfl
theorem kr_Law_payByRanks : brc K_Law_payByRanks.2.2.2.1 = 1 := nrf rfl
theorem kr_Claims_payClaim : brc K_Claims_payClaim.2.2.2.1 = 0 := nrf rfl
theorem kr_Law_findLikest : brc K_Law_findLikest.2.2.2.1 = 0 := nrf rfl
theorem kr_Tour_plan : brc K_Tour_plan.2.2.2.1 = 1 := nrf rfl
theorem kr_Tour_firstWrongRow : brc K_Tour_firstWrongRow.2.2.2.1 = 1 := nrf rfl
theorem kr_V_isDebt : brc K_V_isDebt.2.2.2.1 = 2 := nrf rfl
theorem kr_V_yearsTillPaid : brc K_V_yearsTillPaid.2.2.2.1 = 1 := nrf rfl
theorem kr_Host_makeSheet : brc K_Host_makeSheet.2.2.2.1 = 0 := nrf rfl
theorem kr_V_narrowed : brc K_V_narrowed.2.2.2.1 = 1 := nrf rfl
theorem kr_V_isShelf : brc K_V_isShelf.2.2.2.1 = 2 := nrf rfl
theorem kr_Host_putOnShelf : brc K_Host_putOnShelf.2.2.2.1 = 1 := nrf rfl
theorem kr_Host_putSheetOnShelf : brc K_Host_putSheetOnShelf.2.2.2.1 = 1 := nrf rfl
theorem kr_Host_takenForSort : brc K_Host_takenForSort.2.2.2.1 = 1 := nrf rfl
theorem kr_Host_takenForKind : brc K_Host_takenForKind.2.2.2.1 = 1 := nrf rfl
theorem kr_Host_dealWith : brc K_Host_dealWith.2.2.2.1 = 1 := nrf rfl
theorem kr_Seen_countTorn : brc K_Seen_countTorn.2.2.2.1 = 1 := nrf rfl
theorem kr_Claims_countPaid : brc K_Claims_countPaid.2.2.2.1 = 1 := nrf rfl
theorem kr_Valley_copyFrom : brc K_Valley_copyFrom.2.2.2.1 = 0 := nrf rfl
theorem kr_Seen_copyFrom : brc K_Seen_copyFrom.2.2.2.1 = 0 := nrf rfl
theorem kr_Folk_copyFrom : brc K_Folk_copyFrom.2.2.2.1 = 0 := nrf rfl
theorem kr_Act_copyFrom : brc K_Act_copyFrom.2.2.2.1 = 0 := nrf rfl
theorem kr_Claims_copyFrom : brc K_Claims_copyFrom.2.2.2.1 = 0 := nrf rfl
theorem kr_Valley_copyFrom2 : brc K_Valley_copyFrom2.2.2.2.1 = 0 := nrf rfl
theorem kr_Seen_copyFrom2 : brc K_Seen_copyFrom2.2.2.2.1 = 0 := nrf rfl
theorem kr_Folk_copyFrom2 : brc K_Folk_copyFrom2.2.2.2.1 = 0 := nrf rfl
theorem kr_Act_copyFrom2 : brc K_Act_copyFrom2.2.2.2.1 = 0 := nrf rfl
theorem kr_Claims_copyFrom2 : brc K_Claims_copyFrom2.2.2.2.1 = 0 := nrf rfl
theorem kr_M_isReach : brc K_M_isReach.2.2.2.1 = 2 := nrf rfl
theorem kr_M_in : brc K_M_in.2.2.2.1 = 2 := nrf rfl
theorem kr_M_isGate : brc K_M_isGate.2.2.2.1 = 2 := nrf rfl
theorem kr_M_isSheet : brc K_M_isSheet.2.2.2.1 = 2 := nrf rfl
theorem kr_M_isNight : brc K_M_isNight.2.2.2.1 = 2 := nrf rfl
theorem kr_M_isMinute : brc K_M_isMinute.2.2.2.1 = 2 := nrf rfl
theorem kr_M_nightAsIs : brc K_M_nightAsIs.2.2.2.1 = 0 := nrf rfl
theorem kr_M_isOf : brc K_M_isOf.2.2.2.1 = 2 := nrf rfl
theorem kr_M_fallMany : brc K_M_fallMany.2.2.2.1 = 1 := nrf rfl
theorem kr_M_night : brc K_M_night.2.2.2.1 = 0 := nrf rfl
theorem kr_M_seen : brc K_M_seen.2.2.2.1 = 1 := nrf rfl
theorem kr_M_doesLet : brc K_M_doesLet.2.2.2.1 = 2 := nrf rfl
theorem kr_M_survey : brc K_M_survey.2.2.2.1 = 0 := nrf rfl
theorem kr_M_surelyFalls : brc K_M_surelyFalls.2.2.2.1 = 2 := nrf rfl
theorem kr_M_isRide : brc K_M_isRide.2.2.2.1 = 2 := nrf rfl
theorem kr_M_firstDeep : brc K_M_firstDeep.2.2.2.1 = 1 := nrf rfl
theorem kr_M_ride : brc K_M_ride.2.2.2.1 = 0 := nrf rfl
theorem kr_M_inTime : brc K_M_inTime.2.2.2.1 = 1 := nrf rfl
theorem kr_M_nevers : brc K_M_nevers.2.2.2.1 = 1 := nrf rfl
theorem kr_M_standing : brc K_M_standing.2.2.2.1 = 1 := nrf rfl
theorem kr_M_liesAt : brc K_M_liesAt.2.2.2.1 = 1 := nrf rfl
theorem kr_M_next : brc K_M_next.2.2.2.1 = 0 := nrf rfl
theorem kr_M_line : brc K_M_line.2.2.2.1 = 0 := nrf rfl
theorem kr_M_proofsOf : brc K_M_proofsOf.2.2.2.1 = 1 := nrf rfl
theorem kr_M_isDay : brc K_M_isDay.2.2.2.1 = 2 := nrf rfl
theorem kr_M_isBarred : brc K_M_isBarred.2.2.2.1 = 2 := nrf rfl
theorem kr_M_owed : brc K_M_owed.2.2.2.1 = 1 := nrf rfl
theorem kr_M_rankOf : brc K_M_rankOf.2.2.2.1 = 1 := nrf rfl
theorem kr_M_isFound : brc K_M_isFound.2.2.2.1 = 2 := nrf rfl
theorem kr_M_lineFor : brc K_M_lineFor.2.2.2.1 = 1 := nrf rfl
theorem kr_M_claimants : brc K_M_claimants.2.2.2.1 = 1 := nrf rfl
theorem kr_M_lesser : brc K_M_lesser.2.2.2.1 = 1 := nrf rfl
theorem kr_M_areUnlike : brc K_M_areUnlike.2.2.2.1 = 2 := nrf rfl
theorem kr_M_differs : brc K_M_differs.2.2.2.1 = 1 := nrf rfl
theorem kr_M_ones : brc K_M_ones.2.2.2.1 = 1 := nrf rfl
theorem kr_M_hears : brc K_M_hears.2.2.2.1 = 0 := nrf rfl
theorem kr_M_reachOf : brc K_M_reachOf.2.2.2.1 = 1 := nrf rfl
theorem kr_M_off : brc K_M_off.2.2.2.1 = 1 := nrf rfl
theorem kr_M_isCell : brc K_M_isCell.2.2.2.1 = 2 := nrf rfl
theorem kr_M_isDebt : brc K_M_isDebt.2.2.2.1 = 2 := nrf rfl
theorem kr_M_yearsFor : brc K_M_yearsFor.2.2.2.1 = 1 := nrf rfl
theorem kr_M_narrowed : brc K_M_narrowed.2.2.2.1 = 3 := nrf rfl
theorem kr_M_kindOn : brc K_M_kindOn.2.2.2.1 = 1 := nrf rfl
theorem kr_M_isUnder : brc K_M_isUnder.2.2.2.1 = 2 := nrf rfl
theorem kr_M_dealFits : brc K_M_dealFits.2.2.2.1 = 1 := nrf rfl
theorem kr_M_dealPays : brc K_M_dealPays.2.2.2.1 = 1 := nrf rfl
theorem kr_M_dealHangs : brc K_M_dealHangs.2.2.2.1 = 1 := nrf rfl
theorem kr_M_dealTells : brc K_M_dealTells.2.2.2.1 = 1 := nrf rfl
theorem kr_M_copiesAll : brc K_M_copiesAll.2.2.2.1 = 0 := nrf rfl
theorem kr_Night_begin : brc K_Night_begin.2.2.2.1 = 0 := nrf rfl
theorem kr_Night_comesOut : brc K_Night_comesOut.2.2.2.1 = 1 := nrf rfl
theorem kr_Night_flow : brc K_Night_flow.2.2.2.1 = 1 := nrf rfl
theorem kr_Night_carry : brc K_Night_carry.2.2.2.1 = 0 := nrf rfl
theorem kr_Night_rise : brc K_Night_rise.2.2.2.1 = 0 := nrf rfl
theorem kr_Night_launch : brc K_Night_launch.2.2.2.1 = 0 := nrf rfl
theorem kr_Night_noMoreComes : brc K_Night_noMoreComes.2.2.2.1 = 2 := nrf rfl
theorem kr_Seen_wordsAgainst : brc K_Seen_wordsAgainst.2.2.2.1 = 1 := nrf rfl
theorem kr_Nights_know : brc K_Nights_know.2.2.2.1 = 0 := nrf rfl
theorem kr_Seen_isDoubtedWord : brc K_Seen_isDoubtedWord.2.2.2.1 = 2 := nrf rfl
theorem kr_Nights_gatherThings : brc K_Nights_gatherThings.2.2.2.1 = 0 := nrf rfl
theorem kr_Folk_firstFit : brc K_Folk_firstFit.2.2.2.1 = 1 := nrf rfl
theorem kr_Reader_advance : brc K_Reader_advance.2.2.2.1 = 0 := nrf rfl
theorem kr_Reader_parseLine : brc K_Reader_parseLine.2.2.2.1 = 2 := nrf rfl
theorem kr_Law_fillFacts : brc K_Law_fillFacts.2.2.2.1 = 0 := nrf rfl
theorem kr_Law_lastNumber : brc K_Law_lastNumber.2.2.2.1 = 1 := nrf rfl
theorem kr_Act_linesOf : brc K_Act_linesOf.2.2.2.1 = 1 := nrf rfl
theorem kr_Law_holds : brc K_Law_holds.2.2.2.1 = 2 := nrf rfl
theorem kr_Law_claimants : brc K_Law_claimants.2.2.2.1 = 1 := nrf rfl
theorem kr_Law_areUnlike : brc K_Law_areUnlike.2.2.2.1 = 2 := nrf rfl
theorem kr_Law_countDifferent : brc K_Law_countDifferent.2.2.2.1 = 1 := nrf rfl
theorem kr_Tour_takeMembers : brc K_Tour_takeMembers.2.2.2.1 = 0 := nrf rfl
theorem kr_Tour_leastCost : brc K_Tour_leastCost.2.2.2.1 = 1 := nrf rfl
theorem kr_Tour_writeRows : brc K_Tour_writeRows.2.2.2.1 = 0 := nrf rfl
theorem kr_Host_kindOn : brc K_Host_kindOn.2.2.2.1 = 1 := nrf rfl
theorem kr_Host_isUnder : brc K_Host_isUnder.2.2.2.1 = 2 := nrf rfl
theorem kr_Host_run : brc K_Host_run.2.2.2.1 = 1 := nrf rfl
theorem kr_M_deepest : brc K_M_deepest.2.2.2.1 = 1 := nrf rfl
theorem kr_M_isActive : brc K_M_isActive.2.2.2.1 = 2 := nrf rfl
theorem kr_M_counts : brc K_M_counts.2.2.2.1 = 0 := nrf rfl
theorem kr_M_fits : brc K_M_fits.2.2.2.1 = 2 := nrf rfl
theorem kr_M_stands : brc K_M_stands.2.2.2.1 = 2 := nrf rfl
theorem kr_M_byteAt : brc K_M_byteAt.2.2.2.1 = 1 := nrf rfl
theorem kr_M_fails : brc K_M_fails.2.2.2.1 = 0 := nrf rfl
theorem kr_M_may : brc K_M_may.2.2.2.1 = 2 := nrf rfl
theorem kr_M_number : brc K_M_number.2.2.2.1 = 1 := nrf rfl
theorem kr_M_must : brc K_M_must.2.2.2.1 = 0 := nrf rfl
theorem kr_M_any : brc K_M_any.2.2.2.1 = 0 := nrf rfl
theorem kr_M_mustSign : brc K_M_mustSign.2.2.2.1 = 0 := nrf rfl
theorem kr_M_latest : brc K_M_latest.2.2.2.1 = 1 := nrf rfl
theorem kr_M_actOf : brc K_M_actOf.2.2.2.1 = 1 := nrf rfl
theorem kr_M_holds : brc K_M_holds.2.2.2.1 = 2 := nrf rfl
theorem kr_M_fact : brc K_M_fact.2.2.2.1 = 1 := nrf rfl
theorem kr_M_houseOf : brc K_M_houseOf.2.2.2.1 = 1 := nrf rfl
theorem kr_M_greater : brc K_M_greater.2.2.2.1 = 1 := nrf rfl
theorem kr_M_ran : brc K_M_ran.2.2.2.1 = 0 := nrf rfl
theorem kr_M_plainFits : brc K_M_plainFits.2.2.2.1 = 1 := nrf rfl
theorem kr_M_wordPays : brc K_M_wordPays.2.2.2.1 = 1 := nrf rfl
theorem kr_M_plainPays : brc K_M_plainPays.2.2.2.1 = 1 := nrf rfl
theorem kr_M_plainHangs : brc K_M_plainHangs.2.2.2.1 = 1 := nrf rfl
theorem kr_M_claimHangs : brc K_M_claimHangs.2.2.2.1 = 1 := nrf rfl
theorem kr_M_plainTells : brc K_M_plainTells.2.2.2.1 = 1 := nrf rfl
theorem kr_M_copies : brc K_M_copies.2.2.2.1 = 0 := nrf rfl
theorem kr_Night_tableNumber : brc K_Night_tableNumber.2.2.2.1 = 1 := nrf rfl
theorem kr_Night_breakHouses : brc K_Night_breakHouses.2.2.2.1 = 0 := nrf rfl
theorem kr_Night_stopClocks : brc K_Night_stopClocks.2.2.2.1 = 0 := nrf rfl
theorem kr_Nights_clocksAndMarksAgainst : brc K_Nights_clocksAndMarksAgainst.2.2.2.1 = 1 := nrf rfl
theorem kr_Folk_isFit : brc K_Folk_isFit.2.2.2.1 = 2 := nrf rfl
theorem kr_Reader_isLetter : brc K_Reader_isLetter.2.2.2.1 = 2 := nrf rfl
theorem kr_Reader_wordNumber : brc K_Reader_wordNumber.2.2.2.1 = 1 := nrf rfl
theorem kr_Reader_isDigit : brc K_Reader_isDigit.2.2.2.1 = 2 := nrf rfl
theorem kr_Reader_numberValue : brc K_Reader_numberValue.2.2.2.1 = 1 := nrf rfl
theorem kr_Reader_mostOf : brc K_Reader_mostOf.2.2.2.1 = 1 := nrf rfl
theorem kr_Reader_isNumber : brc K_Reader_isNumber.2.2.2.1 = 2 := nrf rfl
theorem kr_Reader_parseCond : brc K_Reader_parseCond.2.2.2.1 = 2 := nrf rfl
theorem kr_Law_hasFind : brc K_Law_hasFind.2.2.2.1 = 2 := nrf rfl
theorem kr_Law_compares : brc K_Law_compares.2.2.2.1 = 2 := nrf rfl
theorem kr_Tour_waiting : brc K_Tour_waiting.2.2.2.1 = 1 := nrf rfl
theorem kr_Tour_costVia : brc K_Tour_costVia.2.2.2.1 = 1 := nrf rfl
theorem kr_Tour_bestNext : brc K_Tour_bestNext.2.2.2.1 = 1 := nrf rfl
theorem kr_Host_note : brc K_Host_note.2.2.2.1 = 0 := nrf rfl
theorem kr_Host_parted : brc K_Host_parted.2.2.2.1 = 1 := nrf rfl
theorem kr_M_all : brc K_M_all.2.2.2.1 = 0 := nrf rfl
theorem kr_M_does : brc K_M_does.2.2.2.1 = 0 := nrf rfl
theorem kr_M_isSign : brc K_M_isSign.2.2.2.1 = 2 := nrf rfl
theorem kr_M_isSo : brc K_M_isSo.2.2.2.1 = 2 := nrf rfl
theorem kr_Reader_parseOne : brc K_Reader_parseOne.2.2.2.1 = 2 := nrf rfl
theorem kr_Reader_emit : brc K_Reader_emit.2.2.2.1 = 0 := nrf rfl
theorem kr_M_one : brc K_M_one.2.2.2.1 = 0 := nrf rfl
theorem kr_Reader_parseCompare : brc K_Reader_parseCompare.2.2.2.1 = 2 := nrf rfl
theorem kr_M_factHere : brc K_M_factHere.2.2.2.1 = 1 := nrf rfl
theorem kr_fill : brc K_fill.2.2.2.1 = 0 := nrf rfl
theorem kr_bitCount : brc K_bitCount.2.2.2.1 = 1 := nrf rfl
theorem two_ne_one : ((2 : Nat) = 1) = False := by simp
theorem st_fill (n : Nat) (a : Nat) (v : Int) (m : bM) : sem (n + 1) 259 [aR a, aI v] m = bfin (B_fill.1.2 (sem n) [some (aR a), some (aI v), none, none] m) := st_of B_fill bo_259 (Nat.le_of_ble_eq_true rfl) rfl n m
theorem st_bitCount (n : Nat) (v : Int) (m : bM) : sem (n + 1) 129 [aI v] m = bfin (B_bitCount.1.2 (sem n) [some (aI v)] m) := st_of B_bitCount bo_129 (Nat.le_of_ble_eq_true rfl) rfl n m
theorem st_strLength (n : Nat) (h : 5 ≤ n) (m : bM) : sem (n + 1) 326 [aR 1002] m = some (m, 83) := by
  show (if 5 ≤ n ∧ [aR 1002] = [aR 1002] then some (m, 83) else none) = _
  rw [if_pos ⟨h, rfl⟩]
theorem st_strCharAt (n : Nat) (h : 5 ≤ n) (z : Int) (hz : 0 ≤ z ∧ z < 83) (m : bM) : sem (n + 1) 327 [aR 1002, aI z] m = some (m, tB z) := by
  show (if 5 ≤ n then (if 0 ≤ z ∧ z < 83 then some z else none).map (fun z => (m, tB z)) else none) = _
  rw [if_pos h, if_pos hz]; rfl
