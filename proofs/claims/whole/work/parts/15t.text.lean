/-! ===== the text: String.length, String.charAt over the one constant ===== -/
section Text
variable {sy : bS} {own : String} {cc : ByteArray} {nL : Nat} {ret : Option FieldType} {j : bJ} {pc : Nat} {ls : List (Option bV)} {st : List bV} {m : bM}
theorem wt_38 : Cond.fieldLink RJ0 38 RJ0 "COMPACT_STRINGS" "Z" ∈ bT := bT_of 1227 (by decide +kernel) rfl
theorem wt_9 : Cond.fieldLink RJ0 9 RJ0 "value" "[B" ∈ bT := bT_of 2529 (by decide +kernel) rfl
theorem wt_15 : Cond.fieldLink RJ0 15 RJ0 "code\x72" "B" ∈ bT := bT_of 2530 (by decide +kernel) rfl
theorem wt_1053 : Cond.fieldLink RJ0 1053 RJ3 "SIOOBE_FORMATTER" "Ljava/util/function/BiFunction;" ∈ bT := bT_of 1243 (by decide +kernel) rfl
theorem z_compact (ho : own = RJ0) (hd : decode cc pc = .ok (.getstatic 38, 3)) (kk : bZ sy own cc nL ret j (pc + 3) ls (aI 1 :: st) m) : bZ sy own cc nL ret j pc ls st m := by
  intro p l e s mi args below meth c D aC ad H locs la C E hP hD hS hm hst hl
  obtain ⟨hx, hb, hml, hown, hts, hr, hlk, hK, hG⟩ := id C
  subst ho
  exact va_gets hx hb hG.2.2.2.2.2.2.2.1 hS hown (hts _ wt_38) (fun _ h => h) hd (kk p l e s mi args below meth c D aC ad H locs la C E hP hD hS hm (bok_cons (v := aI 1) (by show in32 1; unfold in32; omega) hst) hl)
theorem z_coder (ho : own = RJ0) (hd : decode cc pc = .ok (.getfield 15, 3)) (kk : bZ sy own cc nL ret j (pc + 3) ls (aI 0 :: st) m) : bZ sy own cc nL ret j pc ls (aR 1002 :: st) m := by
  intro p l e s mi args below meth c D aC ad H locs la C E hP hD hS hm hst hl
  obtain ⟨hx, hb, hml, hown, hts, hr, hlk, hK, hG⟩ := id C
  subst ho
  exact vk_getf hx hb (hG.2.2.2.2.2.2.1.1 0 (by decide)).2.1 hS hown (hts _ wt_15) (fun _ h => h) hd (kk p l e s mi args below meth c D aC ad H locs la C E hP hD hS hm (bok_cons (v := aI 0) (by show in32 0; unfold in32; omega) (bok_tl hst)) hl)
theorem z_value (ho : own = RJ0) (hd : decode cc pc = .ok (.getfield 9, 3)) (kk : bZ sy own cc nL ret j (pc + 3) ls (aR 1003 :: st) m) : bZ sy own cc nL ret j pc ls (aR 1002 :: st) m := by
  intro p l e s mi args below meth c D aC ad H locs la C E hP hD hS hm hst hl
  obtain ⟨hx, hb, hml, hown, hts, hr, hlk, hK, hG⟩ := id C
  subst ho
  exact vk_getf hx hb (hG.2.2.2.2.2.2.1.1 0 (by decide)).2.2.1 hS hown (hts _ wt_9) (fun _ h => h) hd (kk p l e s mi args below meth c D aC ad H locs la C E hP hD hS hm (bok_cons (v := aR 1003) trivial (bok_tl hst)) hl)
theorem z_blen (hd : decode cc pc = .ok (.arraylength, 1)) (kk : bZ sy own cc nL ret j (pc + 1) ls (aI 83 :: st) m) : bZ sy own cc nL ret j pc ls (aR 1003 :: st) m := by
  intro p l e s mi args below meth c D aC ad H locs la C E hP hD hS hm hst hl
  obtain ⟨hx, hb, hml, hown, hts, hr, hlk, hK, hG⟩ := id C
  exact va_tlen hx hb (hG.2.2.2.2.2.2.1.1 0 (by decide)).2.2.2 hS rfl hd (kk p l e s mi args below meth c D aC ad H locs la C E hP hD hS hm (bok_cons (v := aI 83) (by show in32 83; unfold in32; omega) (bok_tl hst)) hl)
def tB (z : Int) : Int := (gBytes.getD z.toNat 0).toInt
theorem tB_in (z : Int) : 0 ≤ tB z ∧ tB z ≤ 122 := by
  unfold tB
  have h : ∀ a ∈ gBytes, 0 ≤ a.toInt ∧ a.toInt ≤ 122 := by decide
  rw [List.getD_eq_getElem?_getD]
  cases hj : gBytes[z.toNat]? with
  | none => exact ⟨Int.le_refl _, by decide⟩
  | some a => exact h a (List.mem_of_getElem? hj)
theorem z_byte {z : Int} (hin : 0 ≤ z ∧ z < 83) (hd : decode cc pc = .ok (.baload, 1)) (kk : bZ sy own cc nL ret j (pc + 1) ls (aI (tB z) :: st) m) : bZ sy own cc nL ret j pc ls (aI z :: aR 1003 :: st) m := by
  intro p l e s mi args below meth c D aC ad H locs la C E hP hD hS hm hst hl
  obtain ⟨hx, hb, hml, hown, hts, hr, hlk, hK, hG⟩ := id C
  have hz : in32 z := bok_hd hst
  have h1 := tB_in z
  exact va_tb hx hb (hG.2.2.2.2.2.2.1.1 0 (by decide)).2.2.2 hS (inI (n := 83) hz (by omega)) (v := .int (Int32.ofInt (tB z))) (by rw [toNatI hz]; unfold tB; rw [Int32.ofInt_toInt]; rfl) hd (kk p l e s mi args below meth c D aC ad H locs la C E hP hD hS hm (bok_cons (v := aI _) (by show in32 _; unfold in32; omega) (bok_tl (bok_tl hst))) hl)
theorem ofI_nI {a : Int} (h : 0 ≤ a) : Int32.ofInt a = nI a.toNat := by
  obtain ⟨n, rfl⟩ := Int.eq_ofNat_of_zero_le h
  rfl
theorem z_i2c {a : Int} (ha : 0 ≤ a ∧ a ≤ 255) (hd : decode cc pc = .ok (.i2c, 1)) (kk : bZ sy own cc nL ret j (pc + 1) ls (aI a :: st) m) : bZ sy own cc nL ret j pc ls (aI a :: st) m := by
  intro p l e s mi args below meth c D aC ad H locs la C E hP hD hS hm hst hl
  obtain ⟨hx, hb, hml, hown, hts, hr, hlk, hK, hG⟩ := id C
  refine lv_i2c hx hb hd (v := Int32.ofInt a) ?_ (kk p l e s mi args below meth c D aC ad H locs la C E hP hD hS hm hst hl)
  rw [ofI_nI ha.1, pk_char, pk_tn (by omega)]
  rw [Nat.mod_eq_of_lt (by omega)]
theorem z_cret {d : Nat} {z : Int} {r : bM × Int} (hd : decode cc pc = .ok (.ireturn, 1)) (hr0 : ret = some .char) (hz : 0 ≤ z ∧ z ≤ 255) (hr1 : r = (m, z)) : bZ sy own cc nL ret (jm sy ret d r) pc ls [aI z] m := by
  intro p l e s mi args below meth c D aC ad H locs la C E hP hD hS hm hst hl
  obtain ⟨hx, hb, hml, hown, hts, hr, hlk, hK, hG⟩ := id C
  subst hr1; subst hr0
  have hz2 : in32 z := bok_hd hst
  exact W.zret hx hb hr (by rw [ofI_nI hz.1]; exact (pk_charN (by omega)).1) (fun t ht hW => ⟨rfl, by rw [ht]; exact hP, hm, hz2, hS.F ht⟩) hS.2.2 hd hlk
theorem z_bret {d : Nat} {r : bM × Int} (hd : decode cc pc = .ok (.ireturn, 1)) (hr0 : ret = some .byte) (hr1 : r = (m, 0)) : bZ sy own cc nL ret (jm sy ret d r) pc ls [aI 0] m := by
  intro p l e s mi args below meth c D aC ad H locs la C E hP hD hS hm hst hl
  obtain ⟨hx, hb, hml, hown, hts, hr, hlk, hK, hG⟩ := id C
  subst hr1; subst hr0
  exact W.zret hx hb hr (by decide) (fun t ht hW => ⟨rfl, by rw [ht]; exact hP, hm, (by show in32 0; unfold in32; omega), hS.F ht⟩) hS.2.2 hd hlk
theorem z_callT {idx nL' d : Nat} {y : MethodName} {cc' : ByteArray} {ret' : Option FieldType} {av : List bV} {r : bM × Int} (hcal : bCal sy y cc' nL' ret' d (aR 1002 :: av) m r) (hfit : bFit j nL' d)
    (hw : ∀ w ∈ wsV own idx RJ0 y (Cond.code y cc' nL' ret' :: bT), w ∈ bT) (hy : y.cls = RJ0 ∧ y.cls ≠ "java/lang/invoke/MethodHandle" ∧ y.cls ≠ "java/lang/invoke/VarHandle" ∧ (parseMethodDescriptor y.desc).map (fun d => d.parameters.length) = some av.length)
    (hcs : bcs st ≤ 8) (hd : decode cc pc = .ok (.invokevirtual idx, 3)) (kk : bZ sy own cc nL ret j (pc + 3) ls (bpush ret' r.2 st) r.1) : bZ sy own cc nL ret j pc ls (av.reverse ++ aR 1002 :: st) m := by
  intro p l e s mi args below meth c D aC ad H locs la C E hP hD hS hm hst hl
  obtain ⟨hx, hb, hml, hown, hts, hr, hlk, hK, hG⟩ := id C
  have hav : ∀ v ∈ aR 1002 :: av, bok v := fun v hv => by
    rcases List.mem_cons.mp hv with e | e
    · rw [e]; trivial
    · exact hst v (List.mem_append_left _ (List.mem_reverse.mpr e))
  have hst2 : ∀ v ∈ st, bok v := fun v hv => hst v (List.mem_append_right _ (List.mem_cons_of_mem _ hv))
  have hM := hcal hm hav l D aC ad H.size
  have hgood : GoodIn bT (wsV own idx RJ0 y (Cond.code y cc' nL' ret' :: bT)) := fun w h => ⟨hw w h, bT_good (hw w h)⟩
  obtain ⟨f1, f2, f3, f4⟩ := hfit
  refine z_ran (st := st) (va_runV (As := av.map (bcv ad)) (rest := st.map (bcv ad)) (b := ad 1002) ⟨hx, hb, hml, hown, hts⟩ hM (cwV av.length hts hgood rfl rfl rfl hy ⟨by show d + 1 + 1 ≤ _; omega, by show 8 + (nL' + 11) + 48 * (d + 1) ≤ _; omega⟩) ⟨bPc_blind _ _ _ _ _ _ _, (vk_recv (i := 0) hG.2.2.2.2.2.2.1 (by decide) hS), fun U hU hW => bPre (av := aR 1002 :: av) hK hG hP hD hS hU hW⟩ rfl (List.length_map _) hl.1 ?_ ?_ hd ⟨f3, f4⟩) C E hD hS hst2 hl kk
  · show (av.reverse ++ aR 1002 :: st).map (bcv ad) = _
    rw [List.map_append, List.map_reverse]; rfl
  · show 2 * 0 + _ ≤ 8
    rw [bcs_cat]; omega
theorem wsV_in {own C : String} {idx nL : Nat} {y : MethodName} {cc : ByteArray} {ret : Option FieldType} (h1 : Cond.methodLink own idx y ∈ bT) (h2 : Cond.instanceMethod y ∈ bT) (h3 : Cond.selects C y y ∈ bT) (h4 : Cond.initialized C ∈ bT) (h5 : Cond.code y cc nL ret ∈ bT) : ∀ w ∈ wsV own idx C y (Cond.code y cc nL ret :: bT), w ∈ bT := by
  intro w hw
  unfold wsV at hw
  simp only [List.cons_append, List.nil_append, List.mem_cons] at hw
  rcases hw with rfl | rfl | rfl | rfl | rfl | hw <;> assumption
theorem wsS_in {own : String} {idx nL : Nat} {y : MethodName} {cc : ByteArray} {ret : Option FieldType} (h1 : Cond.methodLink own idx y ∈ bT) (h2 : Cond.static y ∈ bT) (h3 : Cond.initialized own ∈ bT) (h5 : Cond.code y cc nL ret ∈ bT) : ∀ w ∈ wsS own idx y (Cond.code y cc nL ret :: bT), w ∈ bT := by
  intro w hw
  unfold wsS at hw
  simp only [List.cons_append, List.nil_append, List.mem_cons] at hw
  rcases hw with rfl | rfl | rfl | rfl | hw <;> assumption
theorem wt_iS : Cond.initialized RJ0 ∈ bT := bT_of 128 (by decide +kernel) rfl
theorem wt_iL : Cond.initialized RJ1 ∈ bT := bT_of 129 (by decide +kernel) rfl
theorem wt_iP : Cond.initialized RJ3 ∈ bT := bT_of 130 (by decide +kernel) rfl
theorem wt_len : ∀ w ∈ wsV RX7 112 RJ0 yJ0_length_8abf5 (Cond.code yJ0_length_8abf5 cJ0_length_8abf5 1 (some .int) :: bT), w ∈ bT := wsV_in (bT_of 1219 (by decide +kernel) rfl) (bT_of 1220 (by decide +kernel) rfl) (bT_of 1221 (by decide +kernel) rfl) wt_iS (bT_of 1222 (by decide +kernel) rfl)
theorem wt_cod : ∀ w ∈ wsV RJ0 335 RJ0 yJ0_coder_7d493 (Cond.code yJ0_coder_7d493 cJ0_coder_7d493 1 (some .byte) :: bT), w ∈ bT := wsV_in (bT_of 1223 (by decide +kernel) rfl) (bT_of 1224 (by decide +kernel) rfl) (bT_of 1225 (by decide +kernel) rfl) wt_iS (bT_of 1226 (by decide +kernel) rfl)
theorem wt_chr : ∀ w ∈ wsV RX7 116 RJ0 yJ0_charAt_5068e (Cond.code yJ0_charAt_5068e cJ0_charAt_5068e 2 (some .char) :: bT), w ∈ bT := wsV_in (bT_of 1229 (by decide +kernel) rfl) (bT_of 1230 (by decide +kernel) rfl) (bT_of 1231 (by decide +kernel) rfl) wt_iS (bT_of 1232 (by decide +kernel) rfl)
theorem wt_lat : ∀ w ∈ wsV RJ0 492 RJ0 yJ0_isLatin1_aae02 (Cond.code yJ0_isLatin1_aae02 cJ0_isLatin1_aae02 1 (some .boolean) :: bT), w ∈ bT := wsV_in (bT_of 1233 (by decide +kernel) rfl) (bT_of 1234 (by decide +kernel) rfl) (bT_of 1235 (by decide +kernel) rfl) wt_iS (bT_of 1236 (by decide +kernel) rfl)
theorem wt_lch : ∀ w ∈ wsS RJ0 495 yJ1_charAt_3b067 (Cond.code yJ1_charAt_3b067 cJ1_charAt_3b067 2 (some .char) :: bT), w ∈ bT := wsS_in (bT_of 1237 (by decide +kernel) rfl) (bT_of 1238 (by decide +kernel) rfl) wt_iS (bT_of 1239 (by decide +kernel) rfl)
theorem wt_cix : ∀ w ∈ wsS RJ1 9 yJ0_checkIndex_df160 (Cond.code yJ0_checkIndex_df160 cJ0_checkIndex_df160 2 none :: bT), w ∈ bT := wsS_in (bT_of 1240 (by decide +kernel) rfl) (bT_of 1241 (by decide +kernel) rfl) wt_iL (bT_of 1242 (by decide +kernel) rfl)
theorem wt_pix : ∀ w ∈ wsS RJ0 1059 yJ3_checkIndex_8e157 (Cond.code yJ3_checkIndex_8e157 cJ3_checkIndex_8e157 3 (some .int) :: bT), w ∈ bT := wsS_in (bT_of 1245 (by decide +kernel) rfl) (bT_of 1246 (by decide +kernel) rfl) wt_iS (bT_of 1247 (by decide +kernel) rfl)
/-! contracts -/
theorem c_coder (d : Nat) : bCal sy yJ0_coder_7d493 cJ0_coder_7d493 1 (some .byte) d [aR 1002] m (m, 0) := by
  refine bCal_of (by decide) (Nat.le_refl _) ?_
  refine z_compact rfl (by decide +kernel) ?_
  refine z_if_eq (off := 10) (tgt := 13) (by decide +kernel) (by decide) (fun h => absurd h (by decide)) (fun _ => ?_)
  refine z_aload_n (i := 0) (z := 1002) (by decide +kernel) rfl ?_
  refine z_coder rfl (by decide +kernel) ?_
  refine z_goto (off := 4) (tgt := 14) (by decide +kernel) (by decide) ?_
  exact z_bret (by decide +kernel) rfl rfl
theorem c_latin (d : Nat) : bCal sy yJ0_isLatin1_aae02 cJ0_isLatin1_aae02 1 (some .boolean) d [aR 1002] m (m, 1) := by
  refine bCal_of (by decide) (Nat.le_refl _) ?_
  refine z_compact rfl (by decide +kernel) ?_
  refine z_if_eq (off := 14) (tgt := 17) (by decide +kernel) (by decide) (fun h => absurd h (by decide)) (fun _ => ?_)
  refine z_aload_n (i := 0) (z := 1002) (by decide +kernel) rfl ?_
  refine z_coder rfl (by decide +kernel) ?_
  refine z_if_ne (off := 7) (tgt := 17) (by decide +kernel) (by decide) (fun h => absurd rfl h) (fun _ => ?_)
  refine z_iconst (n := 1) (by decide +kernel) (by unfold in32; omega) ?_
  refine z_goto (off := 4) (tgt := 18) (by decide +kernel) (by decide) ?_
  exact z_iret (by decide +kernel) (Or.inr ⟨rfl, by decide, by decide⟩) rfl
theorem fitjm {sy : bS} {ret : Option FieldType} {d nL : Nat} {r : bM × Int} (h : nL ≤ 29) : bFit (jm sy ret (d + 1) r) nL d := ⟨by show d + 2 ≤ d + 1 + 1; omega, by show 19 + nL + 48 * (d + 1) ≤ 48 * (d + 1 + 1); omega, Nat.le_refl 0, Nat.le_refl 0⟩
theorem c_length (d : Nat) : bCal sy yJ0_length_8abf5 cJ0_length_8abf5 1 (some .int) (d + 1) [aR 1002] m (m, 83) := by
  refine bCal_of (by decide) (Nat.le_refl _) ?_
  refine z_aload_n (i := 0) (z := 1002) (by decide +kernel) rfl ?_
  refine z_value rfl (by decide +kernel) ?_
  refine z_blen (by decide +kernel) ?_
  refine z_aload_n (i := 0) (z := 1002) (by decide +kernel) rfl ?_
  refine z_callT (av := []) (c_coder d) (fitjm (by decide)) wt_cod ⟨rfl, by decide, by decide, by decide +kernel⟩ (by decide) (by decide +kernel) ?_
  refine z_ishr (by decide +kernel) ?_
  exact z_iret (by decide +kernel) (Or.inl rfl) (by rw [show jshr 83 (m, (0 : Int)).2 = 83 by show jshr 83 0 = 83; rw [jshr_def]; decide +kernel])
theorem c_pre (l : Launch) (d : Nat) {i n : Int} (hi : in32 i) (hn : in32 n) (h : 0 ≤ i ∧ i < n) (D : va_G) (aC : Nat → ClassId) (ad : Nat → Nat) (sz : Nat) (v : Value) (hv : v = .null ∨ ∃ t, v = .ref t) (hm : bwf sy m) : Met l yJ3_checkIndex_8e157 (Cond.code yJ3_checkIndex_8e157 cJ3_checkIndex_8e157 3 (some .int) :: bT) (brm d) (va_Pc [.int (Int32.ofInt i), .int (Int32.ofInt n), v] (fun U => U.heap.size = sz ∧ va_P D bCL (bW sy aC ad m) U.heap ∧ va_K D bCL (btys aC) U ∧ va_D (bA sy ad sz) (bW sy aC ad m) ∧ bGL ad (bA sy ad sz) U U.heap)) (bQc sy (some .int) D aC ad (bA sy ad sz) (m, i)) 0 0 (bA sy ad sz) := by
  refine Met.ofW (cc := cJ3_checkIndex_8e157) (maxL := 3) (ret := some .int) (by decide) rfl ?_
  intro p e s mi args below meth c s₁ B hml hv0
  obtain ⟨rfl, hsz, hP, hK, hD, hG⟩ := hv0
  subst hsz
  have h032 : in32 0 := by unfold in32; omega
  have hcat : ∀ v, (v = Value.null ∨ ∃ t, v = .ref t) → v.category = 1 := fun v hv => by rcases hv with rfl | ⟨t, rfl⟩ <;> rfl
  have hlen : (lg_sl [.int (Int32.ofInt i), .int (Int32.ofInt n), v]).length ≤ 3 := by rcases hv with rfl | ⟨t, rfl⟩ <;> exact Nat.le_refl 3
  have hl := lv_entry ([.int (Int32.ofInt i), .int (Int32.ofInt n), v]) (n := 3) hlen
  rw [lg_entry_eq]
  generalize (lg_sl ([.int (Int32.ofInt i), .int (Int32.ofInt n), v]) ++ List.replicate (3 - (lg_sl ([.int (Int32.ofInt i), .int (Int32.ofInt n), v])).length) Slot.unset).toArray = la at hl ⊢
  have hl : lv_has la 3 [(0, .int (Int32.ofInt i)), (1, .int (Int32.ofInt n)), (2, v)] := by
    rcases hv with rfl | ⟨t, rfl⟩ <;> exact hl
  refine lv_iload_n B.exec B.bytes (show decode cJ3_checkIndex_8e157 0 = .ok (.iload_n 0, 1) by decide +kernel) rfl (lv_at hl 0 rfl) ?_
  refine lv_if_lt B.exec B.bytes (tgt := 9) (show decode cJ3_checkIndex_8e157 1 = .ok (.ifCond .lt 8, 3) by decide +kernel) (by decide) (fun q => absurd q (fun q => by have := (ofI_lt hi h032).mp q; omega)) (fun _ => ?_)
  refine lv_iload_n B.exec B.bytes (show decode cJ3_checkIndex_8e157 4 = .ok (.iload_n 0, 1) by decide +kernel) rfl (lv_at hl 0 rfl) ?_
  refine lv_iload_n B.exec B.bytes (show decode cJ3_checkIndex_8e157 5 = .ok (.iload_n 1, 1) by decide +kernel) rfl (lv_at hl 1 rfl) ?_
  refine lv_icmp_lt B.exec B.bytes (tgt := 16) (show decode cJ3_checkIndex_8e157 6 = .ok (.if_icmp .lt 10, 3) by decide +kernel) (by decide) (fun _ => ?_) (fun q => absurd ((ofI_lt hi hn).mpr h.2) q)
  refine lv_iload_n B.exec B.bytes (show decode cJ3_checkIndex_8e157 16 = .ok (.iload_n 0, 1) by decide +kernel) rfl (lv_at hl 0 rfl) ?_
  exact W.iret B.exec B.bytes B.returns (fun t ht hW => ⟨rfl, by rw [ht]; exact hP, hm, hi, va_S.rf.F ht⟩) (fun q hq => by cases hq) (show decode cJ3_checkIndex_8e157 17 = .ok (.ireturn, 1) by decide +kernel) B.notSynchronized
theorem c_check (d : Nat) {i n : Int} (h : 0 ≤ i ∧ i < n) : bCal sy yJ0_checkIndex_df160 cJ0_checkIndex_df160 2 none (d + 1) [aI i, aI n] m (m, 0) := by
  refine bCal_of (by decide) (Nat.le_refl _) ?_
  refine z_iload_n (i := 0) (z := i) (by decide +kernel) rfl ?_
  refine z_iload_n (i := 1) (z := n) (by decide +kernel) rfl ?_
  intro p l e s mi args below meth c D aC ad H locs la C E hP hD hS hm hst hl
  obtain ⟨hx, hb, hml, hown, hts, hr, hlk, hK, hG⟩ := id C
  have hn32 : in32 n := bok_hd hst
  have hi32 : in32 i := bok_hd (bok_tl hst)
  have go : ∀ v, (v = Value.null ∨ ∃ t, v = .ref t) → va_Z "jdk/internal/util/Preconditions" "SIOOBE_FORMATTER" "Ljava/util/function/BiFunction;" v (bA sy ad s.heap.size) s s.heap → W p l e (jm sy none (d + 1) (m, 0)).1 s mi args below meth c H locs 0 0 ((jm sy none (d + 1) (m, 0)).2.2.2 below args s D aC ad) (F0 mi 2 la [.int (Int32.ofInt n), .int (Int32.ofInt i)]) := fun v hv hZ => by
    refine va_gets hx hb hZ hS hown (hts _ wt_1053) (fun _ h => h) (show decode cJ0_checkIndex_df160 2 = .ok (.getstatic 1053, 3) by decide +kernel) ?_
    have hgood : GoodIn bT (Cond.code yJ3_checkIndex_8e157 cJ3_checkIndex_8e157 3 (some .int) :: bT) := fun w h => ⟨wt_pix w (List.mem_append_right _ h), bT_good (wt_pix w (List.mem_append_right _ h))⟩
    have hcw := callB_of (R := (jm sy none (d + 1) (m, 0)).1) (own := RJ0) (index := 1059) 3 hts hgood rfl (rm := brm d) (mc := 0) (ms := 0) rfl rfl (hts _ wt_iP) (hts _ (wt_pix (.methodLink RJ0 1059 yJ3_checkIndex_8e157) (by simp [wsS]))) ⟨by decide, by decide, by decide +kernel⟩ ⟨by show d + 1 + 1 ≤ d + 1 + 1; omega, by show 8 + (3 + 11) + 48 * (d + 1) ≤ 48 * (d + 1 + 1); omega⟩
    refine z_ran (pc := 5) (st := []) (j := jm sy none (d + 1) (m, 0)) (va_runS (As := [.int (Int32.ofInt i), .int (Int32.ofInt n), v]) (rest := []) ⟨hx, hb, hml, hown, hts⟩ (c_pre l d hi32 hn32 h D aC ad H.size v hv hm) ⟨hcw, hts _ (wt_pix (.static yJ3_checkIndex_8e157) (by simp [wsS]))⟩ ⟨?_, fun U hU hW => ?_⟩ rfl rfl hl.1 rfl (Nat.zero_le _) (show decode cJ0_checkIndex_df160 5 = .ok (.invokestatic 1059, 3) by decide +kernel) ⟨Nat.le_refl 0, Nat.le_refl 0⟩) C E hD hS (fun v hv => by cases hv) hl ?_
    · intro a U g mk ⟨h0, h1, h2, h3, h4, h5⟩
      exact ⟨h0, h1, h2, va_K.moved (u := U) (U := U.calling g mk a) (Vm.Alike.refl U.vm) h3, h4, h5.blind g mk a⟩
    · have h1 := bPre (av := []) hK hG hP hD hS hU hW
      exact ⟨rfl, h1.2⟩
    · refine z_pop (v := aI i) (by decide +kernel) (fun _ => rfl) ?_
      exact z_vret (by decide +kernel) rfl rfl
  rcases hG.2.2.2.2.2.2.2.2 with hZ | ⟨t, hZ⟩
  · exact go _ (Or.inl rfl) hZ
  · exact go _ (Or.inr ⟨t, rfl⟩) hZ
theorem jand255 {a : Int} (h : 0 ≤ a ∧ a ≤ 122) : jand a 255 = a := by
  have h2 : ∀ n : Fin 123, jand (n.val : Int) 255 = (n.val : Int) := by
    have h4 : ∀ n : Fin 123, (Int32.ofInt (n.val : Int) &&& Int32.ofInt 255).toInt = (n.val : Int) := by decide +kernel
    exact fun n => (jand_def _ _).trans (h4 n)
  have h3 := h2 ⟨a.toNat, by omega⟩
  rw [show ((⟨a.toNat, by omega⟩ : Fin 123).val : Int) = a by show ((a.toNat : Nat) : Int) = a; omega] at h3
  exact h3
theorem c_lchar (d : Nat) {i : Int} (h : 0 ≤ i ∧ i < 83) : bCal sy yJ1_charAt_3b067 cJ1_charAt_3b067 2 (some .char) (d + 2) [aR 1003, aI i] m (m, tB i) := by
  refine bCal_of (by decide) (Nat.le_refl _) ?_
  refine z_iload_n (i := 1) (z := i) (by decide +kernel) rfl ?_
  refine z_aload_n (i := 0) (z := 1003) (by decide +kernel) rfl ?_
  refine z_blen (by decide +kernel) ?_
  refine z_callS (av := [aI i, aI 83]) (st := []) (c_check d h) (fitjm (by decide)) wt_cix wt_iS ⟨by decide, by decide, show (parseMethodDescriptor yJ0_checkIndex_df160.desc).map (fun d => d.parameters.length) = some 2 by decide +kernel⟩ (Nat.zero_le _) (by decide +kernel) ?_
  refine z_aload_n (i := 0) (z := 1003) (by decide +kernel) rfl ?_
  refine z_iload_n (i := 1) (z := i) (by decide +kernel) rfl ?_
  refine z_byte h (by decide +kernel) ?_
  refine z_sipush (n := 255) (by decide +kernel) (by decide) (by unfold in32; omega) ?_
  refine z_iand (by decide +kernel) ?_
  refine z_top (jand255 (tB_in i)) ?_
  have h3 := tB_in i
  refine z_i2c (by omega) (by decide +kernel) ?_
  exact z_cret (by decide +kernel) rfl (by omega) rfl
theorem c_charAt (d : Nat) {i : Int} (h : 0 ≤ i ∧ i < 83) : bCal sy yJ0_charAt_5068e cJ0_charAt_5068e 2 (some .char) (d + 3) [aR 1002, aI i] m (m, tB i) := by
  refine bCal_of (by decide) (Nat.le_refl _) ?_
  refine z_aload_n (i := 0) (z := 1002) (by decide +kernel) rfl ?_
  refine z_callT (av := []) (c_latin (d + 2)) (fitjm (by decide)) wt_lat ⟨rfl, by decide, by decide, by decide +kernel⟩ (by decide) (by decide +kernel) ?_
  refine z_if_eq (a := 1) (off := 12) (tgt := 16) (by decide +kernel) (by decide) (fun h => absurd h (by decide)) (fun _ => ?_)
  refine z_aload_n (i := 0) (z := 1002) (by decide +kernel) rfl ?_
  refine z_value rfl (by decide +kernel) ?_
  refine z_iload_n (i := 1) (z := i) (by decide +kernel) rfl ?_
  refine z_callS (av := [aR 1003, aI i]) (st := []) (c_lchar d h) (fitjm (by decide)) wt_lch wt_iL ⟨by decide, by decide, show (parseMethodDescriptor yJ1_charAt_3b067.desc).map (fun d => d.parameters.length) = some 2 by decide +kernel⟩ (Nat.zero_le _) (by decide +kernel) ?_
  have h3 := tB_in i
  exact z_cret (by decide +kernel) rfl (by omega) rfl
end Text
