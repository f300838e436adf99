/-! ===== the law: its body fits its bytes, put together; its end ===== -/
theorem ck_tC {κ : bK} {v : Int} {b : ES κ} {t : ET κ} {pc bp cp p x : Nat} {vs : List Int} (h1 : bsw κ.2.1 pc v = some p) (h2 : g4 κ.2.1 p = p) (h3 : b.1.1 bp cp p = some (some x)) (h4 : t.1.1 pc (v :: vs) bp cp = some (some x)) : (tCase v b t).1.1 pc vs bp cp = some (some x) := by
  show ((bsw κ.2.1 pc v).bind fun p => (b.1.1 bp cp (g4 κ.2.1 p)).bind fun e1 => (t.1.1 pc (v :: vs) bp cp).bind fun e2 => bmt e1 e2) = _
  rw [h1, Option.bind_some, h2, h3, Option.bind_some, h4, Option.bind_some]
  show (if x = x then some (some x) else none) = _
  rw [if_pos rfl]
theorem ck_tD {κ : bK} {pc bp cp x : Nat} {vs : List Int} (h1 : bsd κ.2.1 pc vs = some x) (h2 : g4 κ.2.1 x = x) : (tDef sNop : ET κ).1.1 pc vs bp cp = some (some x) := by
  show ((bsd κ.2.1 pc vs).bind fun t => some (some (g4 κ.2.1 (g4 κ.2.1 t)))) = _
  rw [h1, Option.bind_some, h2, h2]
theorem ck_sS {κ : bK} {a b : ES κ} {bp cp pc q : Nat} {e : Option Nat} (h1 : a.1.1 bp cp pc = some (some q)) (h2 : b.1.1 bp cp q = some e) : (sSeq a b).1.1 bp cp pc = some e := by
  show ((a.1.1 bp cp pc).bind fun e => e.bind fun p => b.1.1 bp cp p) = _
  rw [h1, Option.bind_some, Option.bind_some, h2]
theorem ck_sL {κ : bK} {cpc pt pf pc bp cp : Nat} {c : EC κ} {b s : ES κ} (h1 : c.1.1 0 pc = some (pt, pf)) (h2 : b.1.1 pf cpc pt = some (some cpc)) (h3 : s.1.1 0 0 cpc = some (some pc)) : (sLp cpc c b s).1.1 bp cp pc = some (some pf) := by
  show ((c.1.1 0 pc).bind fun x => (b.1.1 x.2 cpc x.1).bind fun e => (s.1.1 0 0 cpc).bind fun e2 => if (e = none ∨ e = some cpc) ∧ e2 = some pc then some (some x.2) else none) = _
  rw [h1, Option.bind_some]
  show ((b.1.1 pf cpc pt).bind fun e => (s.1.1 0 0 cpc).bind fun e2 => if (e = none ∨ e = some cpc) ∧ e2 = some pc then some (some pf) else none) = _
  rw [h2, Option.bind_some, h3, Option.bind_some, if_pos ⟨Or.inr rfl, rfl⟩]
theorem ck_sW {κ : bK} {e : EI κ} {t : ET κ} {pc p bp cp : Nat} {x : Option Nat} (h1 : e.1.1 0 pc = some p) (h2 : t.1.1 p [] bp cp = some x) : (sSw e t).1.1 bp cp pc = some x := by
  show ((e.1.1 0 pc).bind fun p => t.1.1 p [] bp cp) = _
  rw [h1, Option.bind_some, h2]
theorem bsdA : bsd code 33 [57, 56, 55, 54, 53, 52, 51, 50, 49, 48, 47, 46, 45, 44, 43, 42, 41, 40, 39, 38, 37, 36, 35, 34, 33, 32, 31, 30, 29, 28, 27, 26, 25, 24, 23, 22, 21, 20, 19, 18, 17, 16, 15, 14, 13, 12, 11, 10, 9, 8, 7, 6, 5, 4, 3, 2, 1, 0] = some 2370 := by decide +kernel
theorem gt2370 : g4 code 2370 = 2370 := by decide +kernel
theorem ck_T (L : Nat) (xs : Nat → Int32) : (T_law (L := L) (xs := xs)).1.1 33 [] 2376 2370 = some (some 2370) :=
  (ck_tC swA_0 gtA_0 ((congrFun (congrFun (congrFun (trA_0 L xs) 2376) 2370) 280).trans ckA_0)
  (ck_tC swA_1 gtA_1 ((congrFun (congrFun (congrFun (trA_1 L xs) 2376) 2370) 323).trans ckA_1)
  (ck_tC swA_2 gtA_2 ((congrFun (congrFun (congrFun (trA_2 L xs) 2376) 2370) 346).trans ckA_2)
  (ck_tC swA_3 gtA_3 ((congrFun (congrFun (congrFun (trA_3 L xs) 2376) 2370) 379).trans ckA_3)
  (ck_tC swA_4 gtA_4 ((congrFun (congrFun (congrFun (trA_4 L xs) 2376) 2370) 412).trans ckA_4)
  (ck_tC swA_5 gtA_5 ((congrFun (congrFun (congrFun (trA_5 L xs) 2376) 2370) 455).trans ckA_5)
  (ck_tC swA_6 gtA_6 ((congrFun (congrFun (congrFun (trA_6 L xs) 2376) 2370) 508).trans ckA_6)
  (ck_tC swA_7 gtA_7 ((congrFun (congrFun (congrFun (trA_7 L xs) 2376) 2370) 551).trans ckA_7)
  (ck_tC swA_8 gtA_8 ((congrFun (congrFun (congrFun (trA_8 L xs) 2376) 2370) 604).trans ckA_8)
  (ck_tC swA_9 gtA_9 ((congrFun (congrFun (congrFun (trA_9 L xs) 2376) 2370) 657).trans ckA_9)
  (ck_tC swA_10 gtA_10 ((congrFun (congrFun (congrFun (trA_10 L xs) 2376) 2370) 700).trans ckA_10)
  (ck_tC swA_11 gtA_11 ((congrFun (congrFun (congrFun (trA_11 L xs) 2376) 2370) 753).trans ckA_11)
  (ck_tC swA_12 gtA_12 ((congrFun (congrFun (congrFun (trA_12 L xs) 2376) 2370) 802).trans ckA_12)
  (ck_tC swA_13 gtA_13 ((congrFun (congrFun (congrFun (trA_13 L xs) 2376) 2370) 835).trans ckA_13)
  (ck_tC swA_14 gtA_14 ((congrFun (congrFun (congrFun (trA_14 L xs) 2376) 2370) 884).trans ckA_14)
  (ck_tC swA_15 gtA_15 ((congrFun (congrFun (congrFun (trA_15 L xs) 2376) 2370) 927).trans ckA_15)
  (ck_tC swA_16 gtA_16 ((congrFun (congrFun (congrFun (trA_16 L xs) 2376) 2370) 950).trans ckA_16)
  (ck_tC swA_17 gtA_17 ((congrFun (congrFun (congrFun (trA_17 L xs) 2376) 2370) 999).trans ckA_17)
  (ck_tC swA_18 gtA_18 ((congrFun (congrFun (congrFun (trA_18 L xs) 2376) 2370) 1022).trans ckA_18)
  (ck_tC swA_19 gtA_19 ((congrFun (congrFun (congrFun (trA_19 L xs) 2376) 2370) 1045).trans ckA_19)
  (ck_tC swA_20 gtA_20 ((congrFun (congrFun (congrFun (trA_20 L xs) 2376) 2370) 1120).trans ckA_20)
  (ck_tC swA_21 gtA_21 ((congrFun (congrFun (congrFun (trA_21 L xs) 2376) 2370) 1173).trans ckA_21)
  (ck_tC swA_22 gtA_22 ((congrFun (congrFun (congrFun (trA_22 L xs) 2376) 2370) 1216).trans ckA_22)
  (ck_tC swA_23 gtA_23 ((congrFun (congrFun (congrFun (trA_23 L xs) 2376) 2370) 1265).trans ckA_23)
  (ck_tC swA_24 gtA_24 ((congrFun (congrFun (congrFun (trA_24 L xs) 2376) 2370) 1298).trans ckA_24)
  (ck_tC swA_25 gtA_25 ((congrFun (congrFun (congrFun (trA_25 L xs) 2376) 2370) 1321).trans ckA_25)
  (ck_tC swA_26 gtA_26 ((congrFun (congrFun (congrFun (trA_26 L xs) 2376) 2370) 1364).trans ckA_26)
  (ck_tC swA_27 gtA_27 ((congrFun (congrFun (congrFun (trA_27 L xs) 2376) 2370) 1407).trans ckA_27)
  (ck_tC swA_28 gtA_28 ((congrFun (congrFun (congrFun (trA_28 L xs) 2376) 2370) 1440).trans ckA_28)
  (ck_tC swA_29 gtA_29 ((congrFun (congrFun (congrFun (trA_29 L xs) 2376) 2370) 1463).trans ckA_29)
  (ck_tC swA_30 gtA_30 ((congrFun (congrFun (congrFun (trA_30 L xs) 2376) 2370) 1486).trans ckA_30)
  (ck_tC swA_31 gtA_31 ((congrFun (congrFun (congrFun (trA_31 L xs) 2376) 2370) 1549).trans ckA_31)
  (ck_tC swA_32 gtA_32 ((congrFun (congrFun (congrFun (trA_32 L xs) 2376) 2370) 1562).trans ckA_32)
  (ck_tC swA_33 gtA_33 ((congrFun (congrFun (congrFun (trA_33 L xs) 2376) 2370) 1595).trans ckA_33)
  (ck_tC swA_34 gtA_34 ((congrFun (congrFun (congrFun (trA_34 L xs) 2376) 2370) 1628).trans ckA_34)
  (ck_tC swA_35 gtA_35 ((congrFun (congrFun (congrFun (trA_35 L xs) 2376) 2370) 1671).trans ckA_35)
  (ck_tC swA_36 gtA_36 ((congrFun (congrFun (congrFun (trA_36 L xs) 2376) 2370) 1714).trans ckA_36)
  (ck_tC swA_37 gtA_37 ((congrFun (congrFun (congrFun (trA_37 L xs) 2376) 2370) 1737).trans ckA_37)
  (ck_tC swA_38 gtA_38 ((congrFun (congrFun (congrFun (trA_38 L xs) 2376) 2370) 1760).trans ckA_38)
  (ck_tC swA_39 gtA_39 ((congrFun (congrFun (congrFun (trA_39 L xs) 2376) 2370) 1773).trans ckA_39)
  (ck_tC swA_40 gtA_40 ((congrFun (congrFun (congrFun (trA_40 L xs) 2376) 2370) 1806).trans ckA_40)
  (ck_tC swA_41 gtA_41 ((congrFun (congrFun (congrFun (trA_41 L xs) 2376) 2370) 1829).trans ckA_41)
  (ck_tC swA_42 gtA_42 ((congrFun (congrFun (congrFun (trA_42 L xs) 2376) 2370) 1862).trans ckA_42)
  (ck_tC swA_43 gtA_43 ((congrFun (congrFun (congrFun (trA_43 L xs) 2376) 2370) 1895).trans ckA_43)
  (ck_tC swA_44 gtA_44 ((congrFun (congrFun (congrFun (trA_44 L xs) 2376) 2370) 1938).trans ckA_44)
  (ck_tC swA_45 gtA_45 ((congrFun (congrFun (congrFun (trA_45 L xs) 2376) 2370) 1951).trans ckA_45)
  (ck_tC swA_46 gtA_46 ((congrFun (congrFun (congrFun (trA_46 L xs) 2376) 2370) 1964).trans ckA_46)
  (ck_tC swA_47 gtA_47 ((congrFun (congrFun (congrFun (trA_47 L xs) 2376) 2370) 2007).trans ckA_47)
  (ck_tC swA_48 gtA_48 ((congrFun (congrFun (congrFun (trA_48 L xs) 2376) 2370) 2050).trans ckA_48)
  (ck_tC swA_49 gtA_49 ((congrFun (congrFun (congrFun (trA_49 L xs) 2376) 2370) 2093).trans ckA_49)
  (ck_tC swA_50 gtA_50 ((congrFun (congrFun (congrFun (trA_50 L xs) 2376) 2370) 2136).trans ckA_50)
  (ck_tC swA_51 gtA_51 ((congrFun (congrFun (congrFun (trA_51 L xs) 2376) 2370) 2179).trans ckA_51)
  (ck_tC swA_52 gtA_52 ((congrFun (congrFun (congrFun (trA_52 L xs) 2376) 2370) 2222).trans ckA_52)
  (ck_tC swA_53 gtA_53 ((congrFun (congrFun (congrFun (trA_53 L xs) 2376) 2370) 2255).trans ckA_53)
  (ck_tC swA_54 gtA_54 ((congrFun (congrFun (congrFun (trA_54 L xs) 2376) 2370) 2298).trans ckA_54)
  (ck_tC swA_55 gtA_55 ((congrFun (congrFun (congrFun (trA_55 L xs) 2376) 2370) 2321).trans ckA_55)
  (ck_tC swA_56 gtA_56 ((congrFun (congrFun (congrFun (trA_56 L xs) 2376) 2370) 2344).trans ckA_56)
  (ck_tC swA_57 gtA_57 ((congrFun (congrFun (congrFun (trA_57 L xs) 2376) 2370) 2357).trans ckA_57)
  (ck_tD bsdA gt2370)))))))))))))))))))))))))))))))))))))))))))))))))))))))))))
theorem ckl_c0 : (L_law_c (L := 0) (xs := xs0)).1.1 0 18 = some (27, 2376) := by decide +kernel
theorem ckl_c (L : Nat) (xs : Nat → Int32) : (L_law_c (L := L) (xs := xs)).1.1 0 18 = some (27, 2376) := ckl_c0
theorem ckl_e0 : (eAnd (eScr (hK_law 0 xs0) (eLoc 3)) (eInt 63)).1.1 0 27 = some 33 := by decide +kernel
theorem ckl_e (L : Nat) (xs : Nat → Int32) : (eAnd (eScr (hK_law L xs) (eLoc 3)) (eInt 63)).1.1 0 27 = some 33 := ckl_e0
theorem ckl_i0 : (L_law_s (L := 0) (xs := xs0)).1.1 0 0 2370 = some (some 18) := by decide +kernel
theorem ckl_i (L : Nat) (xs : Nat → Int32) : (L_law_s (L := L) (xs := xs)).1.1 0 0 2370 = some (some 18) := ckl_i0
theorem ckl_z0 : (sSet 3 (eInt 0) : ES (K_law 0 xs0)).1.1 0 0 16 = some (some 18) := by decide +kernel
theorem ckl_z (L : Nat) (xs : Nat → Int32) : (sSet 3 (eInt 0) : ES (K_law L xs)).1.1 0 0 16 = some (some 18) := ckl_z0
theorem ckl_r0 : (sRet (eInt 1) : ES (K_law 0 xs0)).1.1 0 0 2376 = some none := by decide +kernel
theorem ckl_r (L : Nat) (xs : Nat → Int32) : (sRet (eInt 1) : ES (K_law L xs)).1.1 0 0 2376 = some none := ckl_r0
theorem ck_law (L : Nat) (xs : Nat → Int32) : (B_law (L := L) (xs := xs)).1.1 0 0 16 = some none := ck_sS (ckl_z L xs) (ck_sS (ck_sL (ckl_c L xs) (ck_sW (ckl_e L xs) (ck_T L xs)) (ckl_i L xs)) (ckl_r L xs))
abbrev jL (L : Nat) (xs : Nat → Int32) : bJ := (room_1, (600000, 7302249), ExL L xs, fun below args s _ _ _ => lw_Z below args s)
theorem law_ret {L : Nat} {xs : Nat → Int32} {pc : Nat} {ls : bLs} {m : bM} (hd : decode code pc = .ok (.ireturn, 1)) : bZ bSY RL code 4 (some .boolean) (jL L xs) pc ls [aI 1] m := by
  intro p l e s mi args below meth c D aC ad H locs la C E hP hD hS hm hst hl
  obtain ⟨hx, hb, hml, hown, hts, hr, hlk, hK, hG⟩ := id C
  have E1 : ExL L xs args s ad := E
  obtain ⟨ha, hX, h1, h2, h3⟩ := E1
  subst ha
  refine va_forget (fun q hq => ?_) ?_
  · rcases hS.2.2 q hq with ⟨i, hi, e⟩ | h4
    · have := h3 i (by rw [← bSY_len]; exact hi)
      omega
    · exact h4
  · have e1 : [aI 1].map (bcv ad) = [Value.int 1] := rfl
    rw [e1]
    exact lw_ret hx hb hr hlk hd
theorem or_law (L : Nat) (xs : Nat → Int32) : bOr (K_law L xs) (jL L xs) (sem 40) := by
  refine ⟨rfl, ⟨Nat.le_of_ble_eq_true rfl, Nat.le_of_ble_eq_true rfl, Nat.le_of_ble_eq_true rfl, Nat.le_of_ble_eq_true rfl⟩, fun f av m r h => ?_⟩
  obtain ⟨d, h1, h2⟩ := sem_ok 40 f av m r h
  have h3 := nl_all f
  refine ⟨d, ⟨?_, ?_, Nat.le_of_ble_eq_true rfl, Nat.le_of_ble_eq_true rfl⟩, h2⟩
  · show d + 2 ≤ 2048
    omega
  · show 19 + (bInfo f).2.2.1 + 48 * (d + 1) ≤ 84000
    omega
theorem law_run {L : Nat} {xs : Nat → Int32} {ls : bLs} {m m2 : bM} (h : (B_law (L := L) (xs := xs)).1.2 (sem 40) ls m = some (.inr (m2, 1))) : bZ bSY RL code 4 (some .boolean) (jL L xs) 16 ls [] m := by
  refine (B_law (L := L) (xs := xs)).2.1 (jL L xs) (sem 40) (or_law L xs) 0 0 16 none ls m _ (ck_law L xs) h ?_
  intro pc ls'
  exact ⟨(fun _ hr _ => (by cases hr)), (fun hd _ => law_ret hd), (fun _ hr => (by cases hr))⟩
