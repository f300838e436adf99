/-! ===== the law: what its loop means ===== -/
theorem T_ok {L i : Nat} {xs : Nat → Int32} {m : bM} (hI : Inv i m) (hi : i < 100) {z : Int} (h0 : 0 ≤ z) (hz : z + 7 ≤ (L : Int)) (hL : L ≤ 448) (a : Int) : PL i z ((T_law (L := L) (xs := xs)).1.2 (sem 40) a (lsL z) m) :=
  (tC_ok (fun _ => arm_0 hI hi h0 hz hL) (fun _ => (tC_ok (fun _ => arm_1 hI hi h0 hz hL) (fun _ => (tC_ok (fun _ => arm_2 hI hi h0 hz hL) (fun _ => (tC_ok (fun _ => arm_3 hI hi h0 hz hL) (fun _ => (tC_ok (fun _ => arm_4 hI hi h0 hz hL) (fun _ => (tC_ok (fun _ => arm_5 hI hi h0 hz hL) (fun _ => (tC_ok (fun _ => arm_6 hI hi h0 hz hL) (fun _ => (tC_ok (fun _ => arm_7 hI hi h0 hz hL) (fun _ => (tC_ok (fun _ => arm_8 hI hi h0 hz hL) (fun _ => (tC_ok (fun _ => arm_9 hI hi h0 hz hL) (fun _ => (tC_ok (fun _ => arm_10 hI hi h0 hz hL) (fun _ => (tC_ok (fun _ => arm_11 hI hi h0 hz hL) (fun _ => (tC_ok (fun _ => arm_12 hI hi h0 hz hL) (fun _ => (tC_ok (fun _ => arm_13 hI hi h0 hz hL) (fun _ => (tC_ok (fun _ => arm_14 hI hi h0 hz hL) (fun _ => (tC_ok (fun _ => arm_15 hI hi h0 hz hL) (fun _ => (tC_ok (fun _ => arm_16 hI hi h0 hz hL) (fun _ => (tC_ok (fun _ => arm_17 hI hi h0 hz hL) (fun _ => (tC_ok (fun _ => arm_18 hI hi h0 hz hL) (fun _ => (tC_ok (fun _ => arm_19 hI hi h0 hz hL) (fun _ => (tC_ok (fun _ => arm_20 hI hi h0 hz hL) (fun _ => (tC_ok (fun _ => arm_21 hI hi h0 hz hL) (fun _ => (tC_ok (fun _ => arm_22 hI hi h0 hz hL) (fun _ => (tC_ok (fun _ => arm_23 hI hi h0 hz hL) (fun _ => (tC_ok (fun _ => arm_24 hI hi h0 hz hL) (fun _ => (tC_ok (fun _ => arm_25 hI hi h0 hz hL) (fun _ => (tC_ok (fun _ => arm_26 hI hi h0 hz hL) (fun _ => (tC_ok (fun _ => arm_27 hI hi h0 hz hL) (fun _ => (tC_ok (fun _ => arm_28 hI hi h0 hz hL) (fun _ => (tC_ok (fun _ => arm_29 hI hi h0 hz hL) (fun _ => (tC_ok (fun _ => arm_30 hI hi h0 hz hL) (fun _ => (tC_ok (fun _ => arm_31 hI hi h0 hz hL) (fun _ => (tC_ok (fun _ => arm_32 hI hi h0 hz hL) (fun _ => (tC_ok (fun _ => arm_33 hI hi h0 hz hL) (fun _ => (tC_ok (fun _ => arm_34 hI hi h0 hz hL) (fun _ => (tC_ok (fun _ => arm_35 hI hi h0 hz hL) (fun _ => (tC_ok (fun _ => arm_36 hI hi h0 hz hL) (fun _ => (tC_ok (fun _ => arm_37 hI hi h0 hz hL) (fun _ => (tC_ok (fun _ => arm_38 hI hi h0 hz hL) (fun _ => (tC_ok (fun _ => arm_39 hI hi h0 hz hL) (fun _ => (tC_ok (fun _ => arm_40 hI hi h0 hz hL) (fun _ => (tC_ok (fun _ => arm_41 hI hi h0 hz hL) (fun _ => (tC_ok (fun _ => arm_42 hI hi h0 hz hL) (fun _ => (tC_ok (fun _ => arm_43 hI hi h0 hz hL) (fun _ => (tC_ok (fun _ => arm_44 hI hi h0 hz hL) (fun _ => (tC_ok (fun _ => arm_45 hI hi h0 hz hL) (fun _ => (tC_ok (fun _ => arm_46 hI hi h0 hz hL) (fun _ => (tC_ok (fun _ => arm_47 hI hi h0 hz hL) (fun _ => (tC_ok (fun _ => arm_48 hI hi h0 hz hL) (fun _ => (tC_ok (fun _ => arm_49 hI hi h0 hz hL) (fun _ => (tC_ok (fun _ => arm_50 hI hi h0 hz hL) (fun _ => (tC_ok (fun _ => arm_51 hI hi h0 hz hL) (fun _ => (tC_ok (fun _ => arm_52 hI hi h0 hz hL) (fun _ => (tC_ok (fun _ => arm_53 hI hi h0 hz hL) (fun _ => (tC_ok (fun _ => arm_54 hI hi h0 hz hL) (fun _ => (tC_ok (fun _ => arm_55 hI hi h0 hz hL) (fun _ => (tC_ok (fun _ => arm_56 hI hi h0 hz hL) (fun _ => (tC_ok (fun _ => arm_57 hI hi h0 hz hL) (fun _ => (tD_ok hI)))))))))))))))))))))))))))))))))))))))))))))))))))))))))))))))))))))))))))))))))))))))))))))))))))))))))))))))))))))
theorem law_b {L i : Nat} {xs : Nat → Int32} {m : bM} (hI : Inv i m) (hi : i < 100) {z : Int} (h0 : 0 ≤ z) (hz : z + 7 ≤ (L : Int)) (hL : L ≤ 448) : PL i z ((L_law_b (L := L) (xs := xs)).1.2 (sem 40) (lsL z) m) := by
  have e1 : (eAnd (eScr (hK_law L xs) (eLoc 3)) (eInt 63)).1.2 (sem 40) (lsL z) m = some (jand (xs z.toNat).toInt 63, m) := by
    rw [d_eAnd, d_eScr, if_pos (show getR (lsL z) 0 = some 1004 from rfl), d_eLoc]
    show ((if 0 ≤ z ∧ z < (L : Int) then some ((xs z.toNat).toInt, m) else none).bind fun x => some (jand x.1 63, x.2)) = _
    rw [if_pos ⟨by omega, by omega⟩, Option.bind_some]
  unfold L_law_b
  rw [d_sSw, e1, Option.bind_some]
  exact T_ok hI hi h0 hz hL _
theorem law_c {L : Nat} {xs : Nat → Int32} {m : bM} {z : Int} (hL : L ≤ 448) : (L_law_c (L := L) (xs := xs)).1.2 (sem 40) (lsL z) m = some (decide (z ≤ (L : Int) - 7), m) := by
  have e1 : (eSub (eSLn (hK_law L xs)) (eInt 7)).1.2 (sem 40) (lsL z) m = some ((L : Int) - 7, m) := by
    rw [d_eSub, d_eSLn, if_pos (show getR (lsL z) 0 = some 1004 from rfl)]
    show some (i32 ((L : Int) - 7), m) = _
    rw [i32_of (by omega) (by omega)]
  unfold L_law_c
  rw [d_cQ, d_eLoc]
  show ((eSub (eSLn (hK_law L xs)) (eInt 7)).1.2 (sem 40) (lsL z) m).bind (fun y => some (cop 5 z y.1, y.2)) = _
  rw [e1, Option.bind_some, cop5]
theorem law_s {L : Nat} {xs : Nat → Int32} {m : bM} {z : Int} (h0 : 0 ≤ z) (h1 : z ≤ 448) : (L_law_s (L := L) (xs := xs)).1.2 (sem 40) (lsL z) m = some (.inl (0, lsL (z + 7), m)) := by
  unfold L_law_s
  rw [d_sInc]
  show some (Sum.inl (0, lsL (i32 (z + 7)), m)) = _
  rw [i32_of (by omega) (by omega)]
theorem law_L {L : Nat} {xs : Nat → Int32} {m : bM} (hI : Inv 0 m) (hL : L ≤ 448) : ∃ m2, (L_law (L := L) (xs := xs)).1.2 (sem 40) (lsL 0) m = some (.inl (0, lsL ((7 * (L / 7) : Nat) : Int), m2)) := by
  have hN : L / 7 ≤ 64 := by omega
  obtain ⟨m2, h1, h2⟩ := lp_m (c := (L_law_c (L := L) (xs := xs)).1.2 (sem 40)) (b := (L_law_b (L := L) (xs := xs)).1.2 (sem 40)) (s := (L_law_s (L := L) (xs := xs)).1.2 (sem 40)) (fun k => lsL ((7 * k : Nat) : Int)) (fun k m => Inv k m) (L / 7) (by omega) hI
    (fun k m hk hIk => by
      obtain ⟨m', e1, e2⟩ := law_b (L := L) (xs := xs) hIk (by omega) (z := ((7 * k : Nat) : Int)) (by omega) (by omega) hL
      refine ⟨m', bIt_go (m1 := m) ?_ e1 ?_, e2⟩
      · rw [law_c hL, decide_eq_true (by omega)]
      · rw [law_s (by omega) (by omega)]
        congr 5)
    (fun m hIk => bIt_ex (by rw [law_c hL, decide_eq_false (by omega)]))
  refine ⟨m2, ?_⟩
  unfold L_law
  rw [d_sLp]
  exact h1
theorem law_mean {L : Nat} {xs : Nat → Int32} {m : bM} (hI : Inv 0 m) (hL : L ≤ 448) : ∃ m2, (B_law (L := L) (xs := xs)).1.2 (sem 40) [some (aR 1004), some (aR 0), some (aR 132), none] m = some (.inr (m2, 1)) := by
  obtain ⟨m2, e1⟩ := law_L (L := L) (xs := xs) hI hL
  refine ⟨m2, ?_⟩
  have e0 : (sSet 3 (eInt 0) : ES (K_law L xs)).1.2 (sem 40) [some (aR 1004), some (aR 0), some (aR 132), none] m = some (.inl (0, lsL 0, m)) := by rw [d_sSet, d_eInt]; rfl
  unfold B_law
  rw [d_sSeq, e0, Option.bind_some, sqk_0, d_sSeq, e1, Option.bind_some, sqk_0, d_sRet, d_eInt, Option.bind_some]
  rfl
theorem law_all {L : Nat} {xs : Nat → Int32} {m : bM} (hI : Inv 0 m) (hL : L ≤ 448) : bZ bSY RL code 4 (some .boolean) (jL L xs) 16 [some (aR 1004), some (aR 0), some (aR 132), none] [] m := by
  obtain ⟨m2, e⟩ := law_mean (xs := xs) hI hL
  exact law_run e
