/-! ===== the law: what an arm means ===== -/
abbrev lsL (z : Int) : bLs := [some (aR 1004), some (aR 0), some (aR 132), some (aI z)]
def PL (i : Nat) (z : Int) (r : Option bRs) : Prop := ∃ m2, r = some (.inl (0, lsL z, m2)) ∧ Inv (i + 1) m2
def sx (xs : Nat → Int32) (z k : Int) : Int := (xs (z + k).toNat).toInt
theorem sx_in (xs : Nat → Int32) (z k : Int) : in32 (sx xs z k) := by
  have h1 := Int32.toInt_lt (xs (z + k).toNat)
  have h2 := Int32.le_toInt (xs (z + k).toNat)
  unfold sx in32; omega
def nz (a : Int) : Int := if a = 0 then 0 else 1
theorem nz01 (a : Int) : nz a = 0 ∨ nz a = 1 := by unfold nz; split <;> simp
def lw2 (a b : Int) : Int := kor (kshl a 32) (kand b 4294967295)
section LawM
variable {κ : bK} {cal : bCl} {ls : bLs} {m m1 m2 : bM}
theorem arm_ok {X Y : EI κ} {v : Int} (hX : X.1.2 cal ls m = some (v, m1)) (hY : Y.1.2 cal ls m1 = some (v, m2)) : (sIf (cQ 1 X Y) (sRet (eInt 0)) sNop : ES κ).1.2 cal ls m = some (.inl (0, ls, m2)) := by
  have e : (cQ 1 X Y).1.2 cal ls m = some (false, m2) := by
    rw [d_cQ, hX, Option.bind_some, hY, Option.bind_some]
    show some (!decide (v = v), m2) = _
    rw [decide_eq_true rfl]; rfl
  rw [d_sIf, e, Option.bind_some]
  show (sNop : ES κ).1.2 cal ls m2 = _
  rw [d_sNop]
theorem call_ok {f idx ci n i c : Nat} {g : EG κ} {h : bCV κ.1 idx f ci n} {hb : brt f 1} {v : Int} {av : List bV} (hr : getR ls i = some c) (hg : g.1.2.1 cal ls m = some (av, m)) (hc : cal f (aR c :: av) m = some (m1, v)) : (eCall (xV f (rLoc i c) g h) hb : EI κ).1.2 cal ls m = some (v, m1) := by
  rw [d_eCall, d_xV, d_rLoc1, d_rLoc2, if_pos hr, hg, Option.bind_some, hc]; rfl
theorem gNil_ok : (gNil : EG κ).1.2.1 cal ls m = some ([], m) := d_gNil
theorem gI_ok {e : EI κ} {g : EG κ} {a : Int} {av : List bV} (he : e.1.2 cal ls m = some (a, m)) (hg : g.1.2.1 cal ls m = some (av, m)) : (gI e g).1.2.1 cal ls m = some (aI a :: av, m) := by
  rw [d_gI, he, Option.bind_some, hg]; rfl
theorem gL_ok {e : EL κ} {g : EG κ} {a : Int} {av : List bV} (he : e.1.2 cal ls m = some (a, m)) (hg : g.1.2.1 cal ls m = some (av, m)) : (gL e g).1.2.1 cal ls m = some (aL a :: av, m) := by
  rw [d_gL, he, Option.bind_some, hg]; rfl
theorem nz_ok {e : EI κ} {a : Int} (he : e.1.2 cal ls m = some (a, m)) : (eIte (cZ 1 e) (eInt 1) (eInt 0) : EI κ).1.2 cal ls m = some (nz a, m) := by
  rw [d_eIte, d_cZ, he, Option.bind_some, Option.bind_some]
  show (if (!decide (a = 0)) = true then (eInt 1 : EI κ).1.2 cal ls m else (eInt 0 : EI κ).1.2 cal ls m) = _
  rw [d_eInt, d_eInt]
  unfold nz
  by_cases h : a = 0
  · rw [if_pos h, if_neg (by simp [h])]
  · rw [if_neg h, if_pos (by simp [h])]
theorem lw2_ok {e1 e2 : EI κ} {a b : Int} {idx : Nat} {h : bKL κ.1 idx 4294967295} (h1 : e1.1.2 cal ls m = some (a, m)) (h2 : e2.1.2 cal ls m = some (b, m)) : (lOr (lShl (lI2L e1) (eInt 32)) (lAnd (lI2L e2) (lLdc 4294967295 h)) : EL κ).1.2 cal ls m = some (lw2 a b, m) := by
  rw [d_lOr, d_lShl, d_lI2L, h1, Option.bind_some, Option.bind_some, d_eInt, Option.bind_some, Option.bind_some, d_lAnd, d_lI2L, h2, Option.bind_some, Option.bind_some, d_lLdc, Option.bind_some, Option.bind_some]
  rfl
theorem tC_ok {i : Nat} {z v a : Int} {b : ES κ} {t : ET κ} (h1 : a = v → PL i z (b.1.2 cal ls m)) (h2 : a ≠ v → PL i z (t.1.2 cal a ls m)) : PL i z ((tCase v b t).1.2 cal a ls m) := by
  rw [d_tCase]
  by_cases h : a = v
  · rw [if_pos h]; exact h1 h
  · rw [if_neg h]; exact h2 h
theorem tD_ok {i : Nat} {z a : Int} (hI : Inv i m) : PL i z ((tDef sNop : ET κ).1.2 cal a (lsL z) m) := ⟨m, by rw [d_tDef, d_sNop], Inv_same hI⟩
end LawM
theorem scr_ok {L : Nat} {xs : Nat → Int32} {cal : bCl} {m : bM} {z : Int} (k : Int) (h0 : 0 ≤ z) (hk : 0 ≤ k) (hk2 : k ≤ 6) (hz : z + 7 ≤ (L : Int)) (hL : L ≤ 448) : (eScr (hK_law L xs) (eAdd (eLoc 3) (eInt k))).1.2 cal (lsL z) m = some (sx xs z k, m) := by
  have e1 : (eAdd (eLoc 3) (eInt k) : EI (K_law L xs)).1.2 cal (lsL z) m = some (z + k, m) := by
    rw [d_eAdd, d_eLoc]
    show some (i32 (z + k), m) = _
    rw [i32_of (by omega) (by omega)]
  rw [d_eScr, if_pos (show getR (lsL z) 0 = some 1004 from rfl), e1, Option.bind_some]
  show (if 0 ≤ z + k ∧ z + k < (L : Int) then some ((xs (z + k).toNat).toInt, m) else none) = _
  rw [if_pos ⟨by omega, by omega⟩]
  rfl
