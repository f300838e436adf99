/-! ===== words of the start ===== -/
theorem lt_c1 {w : Cond} (i : Nat) (h : tables_1_1[i]? = some w) : w ∈ lw_tbl := List.mem_append_right _ (show w ∈ tables_1 from List.mem_append_left _ (List.mem_of_getElem? h))
theorem lt_c2 {w : Cond} (i : Nat) (h : tables_1_2[i]? = some w) : w ∈ lw_tbl := List.mem_append_right _ (show w ∈ tables_1 from List.mem_append_right _ (List.mem_append_left _ (List.mem_of_getElem? h)))
theorem lt_c3 {w : Cond} (i : Nat) (h : tables_1_3[i]? = some w) : w ∈ lw_tbl := List.mem_append_right _ (show w ∈ tables_1 from List.mem_append_right _ (List.mem_append_right _ (List.mem_append_left _ (List.mem_of_getElem? h))))
theorem lt_c4 {w : Cond} (i : Nat) (h : tables_1_4[i]? = some w) : w ∈ lw_tbl := List.mem_append_right _ (show w ∈ tables_1 from List.mem_append_right _ (List.mem_append_right _ (List.mem_append_right _ (List.mem_append_left _ (List.mem_of_getElem? h)))))
theorem lt_c5 {w : Cond} (i : Nat) (h : tables_1_5[i]? = some w) : w ∈ lw_tbl := List.mem_append_right _ (show w ∈ tables_1 from List.mem_append_right _ (List.mem_append_right _ (List.mem_append_right _ (List.mem_append_right _ (List.mem_append_left _ (List.mem_of_getElem? h))))))
theorem lt_c6 {w : Cond} (i : Nat) (h : tables_1_6[i]? = some w) : w ∈ lw_tbl := List.mem_append_right _ (show w ∈ tables_1 from List.mem_append_right _ (List.mem_append_right _ (List.mem_append_right _ (List.mem_append_right _ (List.mem_append_right _ (List.mem_append_left _ (List.mem_of_getElem? h)))))))
theorem lt_c7 {w : Cond} (i : Nat) (h : tables_1_7[i]? = some w) : w ∈ lw_tbl := List.mem_append_right _ (show w ∈ tables_1 from List.mem_append_right _ (List.mem_append_right _ (List.mem_append_right _ (List.mem_append_right _ (List.mem_append_right _ (List.mem_append_right _ (List.mem_append_left _ (List.mem_of_getElem? h))))))))
theorem lt_c8 {w : Cond} (i : Nat) (h : tables_1_8[i]? = some w) : w ∈ lw_tbl := List.mem_append_right _ (show w ∈ tables_1 from List.mem_append_right _ (List.mem_append_right _ (List.mem_append_right _ (List.mem_append_right _ (List.mem_append_right _ (List.mem_append_right _ (List.mem_append_right _ (List.mem_append_left _ (List.mem_of_getElem? h)))))))))
theorem lt_c9 {w : Cond} (i : Nat) (h : tables_1_9[i]? = some w) : w ∈ lw_tbl := List.mem_append_right _ (show w ∈ tables_1 from List.mem_append_right _ (List.mem_append_right _ (List.mem_append_right _ (List.mem_append_right _ (List.mem_append_right _ (List.mem_append_right _ (List.mem_append_right _ (List.mem_append_right _ (List.mem_append_left _ (List.mem_of_getElem? h))))))))))
theorem lt_c10 {w : Cond} (i : Nat) (h : tables_1_10[i]? = some w) : w ∈ lw_tbl := List.mem_append_right _ (show w ∈ tables_1 from List.mem_append_right _ (List.mem_append_right _ (List.mem_append_right _ (List.mem_append_right _ (List.mem_append_right _ (List.mem_append_right _ (List.mem_append_right _ (List.mem_append_right _ (List.mem_append_right _ (List.mem_append_left _ (List.mem_of_getElem? h)))))))))))
theorem lt_c11 {w : Cond} (i : Nat) (h : tables_1_11[i]? = some w) : w ∈ lw_tbl := List.mem_append_right _ (show w ∈ tables_1 from List.mem_append_right _ (List.mem_append_right _ (List.mem_append_right _ (List.mem_append_right _ (List.mem_append_right _ (List.mem_append_right _ (List.mem_append_right _ (List.mem_append_right _ (List.mem_append_right _ (List.mem_append_right _ (List.mem_of_getElem? h)))))))))))
theorem lw_iHost : Cond.initialized RX3 ∈ lw_tbl := lt_c1 13 (by decide +kernel)
theorem lw_iStr : Cond.initialized "java/lang/String" ∈ lw_tbl := lt_c1 18 (by decide +kernel)
theorem lw_iPre : Cond.initialized "jdk/internal/util/Preconditions" ∈ lw_tbl := lt_c1 20 (by decide +kernel)
theorem lw_lAbove : Cond.laysStatic RX3 "ABOVE" "[I" ∈ lw_tbl := lt_c7 40 (by decide +kernel)
theorem lw_lBodies : Cond.laysStatic RX3 "BODIES" "[I" ∈ lw_tbl := lt_c7 54 (by decide +kernel)
theorem lw_lComp : Cond.laysStatic "java/lang/String" "COMPACT_STRINGS" "Z" ∈ lw_tbl := lt_c5 158 (by decide +kernel)
theorem lw_lSio : Cond.laysStatic "jdk/internal/util/Preconditions" "SIOOBE_FORMATTER" "Ljava/util/function/BiFunction;" ∈ lw_tbl := lt_c5 174 (by decide +kernel)
theorem lw_text : Cond.stringRef RX7 110 gWords ∈ lw_tbl := lt_c5 148 (by decide +kernel)
theorem lw_g0 : Cond.methodLinkNest RX11 21 ⟨RX8, "<init>", "()V"⟩ RX11 ∈ lw_tbl := lt_c1 104 (by decide +kernel)
theorem lw_g1 : Cond.methodLinkNest RX11 31 ⟨RX2, "<init>", "()V"⟩ RX11 ∈ lw_tbl := lt_c1 163 (by decide +kernel)
theorem lw_g2 : Cond.methodLinkNest RX11 41 ⟨RX0, "<init>", "()V"⟩ RX11 ∈ lw_tbl := lt_c2 12 (by decide +kernel)
theorem lw_g3 : Cond.methodLinkNest RX11 51 ⟨RX1, "<init>", "()V"⟩ RX11 ∈ lw_tbl := lt_c2 57 (by decide +kernel)
theorem lw_b0 : Cond.methodLinkNest RX3 55 yX11_within RX11 ∈ lw_tbl := lt_c4 50 (by decide +kernel)
theorem lw_b1 : Cond.methodLinkNest RX8 51 yX11_within RX11 ∈ lw_tbl := lt_c4 196 (by decide +kernel)
theorem lw_b2 : Cond.methodLinkNest RX6 115 yX11_within RX11 ∈ lw_tbl := lt_c4 207 (by decide +kernel)
theorem lw_b3 : Cond.methodLinkNest RX7 86 yX11_within RX11 ∈ lw_tbl := lt_c5 215 (by decide +kernel)
theorem lw_b4 : Cond.methodLinkNest RX9 119 yX11_within RX11 ∈ lw_tbl := lt_c6 208 (by decide +kernel)
section StK
variable {s : State} {args : Array Value}
theorem kn_one {C : String} {T : u_T} {N n : Nat} (hts : ∀ w ∈ bT, w.before args s = true) (hin : ∀ w ∈ u_ws C T N, w ∈ bT) (hi : Cond.instantiable C n ∈ bT) : ∃ x : ClassId × (Nat → Nat), u_Kn s C T N x.1 x.2 := by
  obtain ⟨c, f, h⟩ := u_known hts hin (hts _ hi)
  exact ⟨(c, f), h⟩
theorem kn_all (h : ∀ w ∈ bT, w.before args s = true) : ∀ (k : Nat) (q : vw_C), bCL[k]? = some q → ∃ x : ClassId × (Nat → Nat), u_Kn s q.1 q.2.1 q.2.2 x.1 x.2 := by
  intro k q hq
  match k, hq with
  | 0, hq => cases hq; exact kn_one h ciT0 w_361
  | 1, hq => cases hq; exact kn_one h ciT1 w_406
  | 2, hq => cases hq; exact kn_one h ciT2 w_272
  | 3, hq => cases hq; exact kn_one h ciT3 w_715
  | 4, hq => cases hq; exact kn_one h ciT4 w_621
  | 5, hq => cases hq; exact kn_one h ciT5 w_464
  | 6, hq => cases hq; exact kn_one h ciT6 w_530
  | 7, hq => cases hq; exact kn_one h ciT7 w_585
  | 8, hq => cases hq; exact kn_one h ciT8 w_213
  | 9, hq => cases hq; exact kn_one h ciT9 w_659
  | 10, hq => cases hq; exact kn_one h ciT10 w_141
  | 11, hq => cases hq; exact kn_one h ciT11 w_133
  | 12, hq => cases hq; exact kn_one h ciT12 w_1663
  | k + 13, hq => simp [bCL] at hq
theorem kn_ex (h : ∀ w ∈ bT, w.before args s = true) : ∃ D : va_G, ∀ (k : Nat) (q : vw_C), bCL[k]? = some q → u_Kn s q.1 q.2.1 q.2.2 (D.1 k) (D.2 k) := by
  have h1 : ∀ k : Nat, ∃ x : ClassId × (Nat → Nat), ∀ q : vw_C, bCL[k]? = some q → u_Kn s q.1 q.2.1 q.2.2 x.1 x.2 := by
    intro k
    by_cases hq : ∃ q : vw_C, bCL[k]? = some q
    · obtain ⟨q, hq⟩ := hq
      obtain ⟨x, hx⟩ := kn_all h k q hq
      refine ⟨x, fun q2 h2 => ?_⟩
      have e : q = q2 := Option.some.inj (hq.symm.trans h2)
      rw [← e]
      exact hx
    · exact ⟨((0 : Nat), fun _ => 0), fun q h2 => absurd ⟨q, h2⟩ hq⟩
  obtain ⟨f, hf⟩ := Classical.axiomOfChoice h1
  exact ⟨(fun k => (f k).1, fun k => (f k).2), hf⟩
theorem arr_one {ty : FieldType} (h : (Cond.arrayClass ty).before args s = true) : ∃ cA : ClassId, ArrOfT s cA ty ∧ s.vm.findClass ("[" ++ ty.toString) = some cA := by
  obtain ⟨cA, kA, comp, h1, h2, h3⟩ := Cond.arrayClass_spec h
  exact ⟨cA, fun n z => ⟨fun k h => (by cases h), kA, h2, comp, h3⟩, h1⟩
theorem kn_K (h : ∀ w ∈ bT, w.before args s = true) : ∃ (D : va_G) (aC : Nat → ClassId), va_K D bCL (btys aC) s := by
  obtain ⟨D, hD⟩ := kn_ex h
  obtain ⟨c0, a0, n0⟩ := arr_one (h _ gaw.1)
  obtain ⟨c1, a1, n1⟩ := arr_one (h _ gaw.2.1)
  obtain ⟨c2, a2, n2⟩ := arr_one (h _ gaw.2.2.1)
  obtain ⟨c3, a3, n3⟩ := arr_one (h _ gaw.2.2.2)
  refine ⟨D, fun k => match k with | 0 => c0 | 1 => c1 | 2 => c2 | _ => c3, hD, fun k q hq => ?_⟩
  match k, hq with
  | 0, hq => cases hq; exact ⟨a0, n0⟩
  | 1, hq => cases hq; exact ⟨a1, n1⟩
  | 2, hq => cases hq; exact ⟨a2, n2⟩
  | 3, hq => cases hq; exact ⟨a3, n3⟩
  | k + 4, hq => simp [btys] at hq
theorem gn_all (h : ∀ w ∈ lw_tbl, w.before args s = true) : ∀ q ∈ gNL, va_Nw (.methodLinkNest RX11 q.1 q.2 RX11) s := by
  intro q hq
  rcases List.mem_cons.mp hq with rfl | hq
  · exact va_Nw.of rfl (h _ lw_g0)
  rcases List.mem_cons.mp hq with rfl | hq
  · exact va_Nw.of rfl (h _ lw_g1)
  rcases List.mem_cons.mp hq with rfl | hq
  · exact va_Nw.of rfl (h _ lw_g2)
  rcases List.mem_cons.mp hq with rfl | hq
  · exact va_Nw.of rfl (h _ lw_g3)
  · cases hq
theorem bn_all (h : ∀ w ∈ lw_tbl, w.before args s = true) : ∀ q ∈ bNL, va_Nw (.methodLinkNest q.1 q.2 yX11_within RX11) s := by
  intro q hq
  rcases List.mem_cons.mp hq with rfl | hq
  · exact va_Nw.of rfl (h _ lw_b0)
  rcases List.mem_cons.mp hq with rfl | hq
  · exact va_Nw.of rfl (h _ lw_b1)
  rcases List.mem_cons.mp hq with rfl | hq
  · exact va_Nw.of rfl (h _ lw_b2)
  rcases List.mem_cons.mp hq with rfl | hq
  · exact va_Nw.of rfl (h _ lw_b3)
  rcases List.mem_cons.mp hq with rfl | hq
  · exact va_Nw.of rfl (h _ lw_b4)
  · cases hq
end StK
/-! what the Statement gives of the start, by its places -/
abbrev stF : List Cond := flatC (Jvm.Cond.and given_1 narrow_1)
theorem fz_at {w : Cond} (i : Nat) (h : stF[i]? = some w) : w ∈ stF := List.mem_of_getElem? h
abbrev tAb : Term := .static RX3 "ABOVE" "[I"
abbrev tBo : Term := .static RX3 "BODIES" "[I"
abbrev tTx : Term := .string RX7 110
abbrev tBy : Term := .field tTx "java/lang/String" "value" "[B"
theorem fz_c : Cond.eq (.static "java/lang/String" "COMPACT_STRINGS" "Z") (.int 1) ∈ stF := fz_at 4 (by decide +kernel)
theorem fz_q : Cond.isRef (.static "jdk/internal/util/Preconditions" "SIOOBE_FORMATTER" "Ljava/util/function/BiFunction;") ∈ stF := fz_at 5 (by decide +kernel)
theorem fz_a : Cond.arrayOf tAb .int ∈ stF := fz_at 10 (by decide +kernel)
theorem fz_al : Cond.eq (.length tAb) (.int (Int32.ofNat 7)) ∈ stF := fz_at 11 (by decide +kernel)
theorem fz_ae : ∀ j, j < 7 → stF[12 + j]? = some (Cond.eq (.elem tAb (.int (Int32.ofNat j))) (.int (Int32.ofInt (gAbove.getD j 0)))) := by decide +kernel
theorem fz_b : Cond.arrayOf tBo .int ∈ stF := fz_at 20 (by decide +kernel)
theorem fz_bl : Cond.eq (.length tBo) (.int (Int32.ofNat 28)) ∈ stF := fz_at 21 (by decide +kernel)
theorem fz_be : ∀ j, j < 28 → stF[22 + j]? = some (Cond.eq (.elem tBo (.int (Int32.ofNat j))) (.int (Int32.ofInt (gBodies.getD j 0)))) := by decide +kernel
theorem fz_x : Cond.exactly tTx "java/lang/String" ∈ stF := fz_at 50 (by decide +kernel)
theorem fz_o : Cond.eq (.field tTx "java/lang/String" "code\x72" "B") (.int 0) ∈ stF := fz_at 51 (by decide +kernel)
theorem fz_y : Cond.arrayOf tBy .byte ∈ stF := fz_at 52 (by decide +kernel)
theorem fz_yl : Cond.eq (.length tBy) (.int (Int32.ofNat 83)) ∈ stF := fz_at 53 (by decide +kernel)
theorem fz_ye : ∀ j, j < 83 → stF[54 + j]? = some (Cond.eq (.elem tBy (.int (Int32.ofNat j))) (.int (gBytes.getD j 0))) := by decide +kernel
