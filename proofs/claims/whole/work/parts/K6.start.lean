/-! ===== the law's start: what the Statement gives of it ===== -/
abbrev stA (s : State) : Nat → Prop := fun q => s.heap.size ≤ q
theorem stA_no (s : State) : ∀ a : Nat, a < s.heap.size → ¬ stA s a := fun _ h => Nat.not_le.mpr h
theorem st_above {s : State} {args : Array Value} (hts : ∀ w ∈ lw_tbl, w.before args s = true) (hs : ∀ w ∈ stF, w.before args s = true) : ∃ t : Nat, va_Z RX3 "ABOVE" "[I" (.ref t) (stA s) s s.heap ∧ va_T .int t 7 (fun j => .int (Int32.ofInt (gAbove.getD j 0))) (stA s) s s.heap := by
  obtain ⟨t, h1, h2⟩ := va_Tof (args := args) (s := s) (tm := tAb) (N := 7) (f := fun j => .int (Int32.ofInt (gAbove.getD j 0))) (A := stA s) (by decide) (hs _ fz_a) (va_eqt (hs _ fz_al)) (fun j hj => va_eqt (hs _ (fz_at _ (fz_ae j hj)))) (stA_no s)
  exact ⟨t, va_Zof (hts _ lw_lAbove) (hts _ lw_iHost) h1 (stA_no s), h2⟩
theorem st_bodies {s : State} {args : Array Value} (hts : ∀ w ∈ lw_tbl, w.before args s = true) (hs : ∀ w ∈ stF, w.before args s = true) : ∃ t : Nat, va_Z RX3 "BODIES" "[I" (.ref t) (stA s) s s.heap ∧ va_T .int t 28 (fun j => .int (Int32.ofInt (gBodies.getD j 0))) (stA s) s s.heap := by
  obtain ⟨t, h1, h2⟩ := va_Tof (args := args) (s := s) (tm := tBo) (N := 28) (f := fun j => .int (Int32.ofInt (gBodies.getD j 0))) (A := stA s) (by decide) (hs _ fz_b) (va_eqt (hs _ fz_bl)) (fun j hj => va_eqt (hs _ (fz_at _ (fz_be j hj)))) (stA_no s)
  exact ⟨t, va_Zof (hts _ lw_lBodies) (hts _ lw_iHost) h1 (stA_no s), h2⟩
theorem st_text {s : State} {args : Array Value} (hts : ∀ w ∈ lw_tbl, w.before args s = true) (hs : ∀ w ∈ stF, w.before args s = true) : ∃ t v : Nat, vk_R RX7 110 gWords t s ∧ vk_S 1 [83] [gBytes] (fun _ => t) (fun _ => v) (stA s) s s.heap := by
  obtain ⟨adK, adV, h1, h2⟩ := vk_Sof (args := args) (s := s) (N := 1) (tm := fun _ => tTx) (len := [83]) (byt := [gBytes]) (A := stA s)
    (fun i hi => by rw [show i = 0 by omega]; decide)
    (fun i _ => hs _ fz_x) (fun i _ => hs _ fz_o) (fun i _ => hs _ fz_y)
    (fun i hi => by rw [show i = 0 by omega]; exact hs _ fz_yl)
    (fun i hi j hj => by
      have e : i = 0 := by omega
      subst e
      exact hs _ (fz_at _ (fz_ye j hj)))
    (fun i j hi hj e => absurd (show i = j by omega) e) (stA_no s)
  refine ⟨adK 0, adV 0, vk_R.of (hts _ lw_text) (h2 0 (by decide)), fun i hi => ?_, fun i j hi hj _ => by omega⟩
  have e : i = 0 := by omega
  subst e
  exact h1.1 0 hi
theorem st_glob {s : State} {args : Array Value} (hts : ∀ w ∈ lw_tbl, w.before args s = true) (hs : ∀ w ∈ stF, w.before args s = true) (b : Nat) : ∃ ad : Nat → Nat, (∀ i, i < 204 → ad i = s.heap.size + i) ∧ ad 1004 = b ∧ bGL ad (stA s) s s.heap := by
  obtain ⟨t0, a0, b0⟩ := st_above hts hs
  obtain ⟨t1, a1, b1⟩ := st_bodies hts hs
  obtain ⟨t2, t3, a2, b2⟩ := st_text hts hs
  obtain ⟨ad, had, e0, e1, e2, e3, e4⟩ : ∃ ad : Nat → Nat, (∀ i, i < 204 → ad i = s.heap.size + i) ∧ ad 1000 = t0 ∧ ad 1001 = t1 ∧ ad 1002 = t2 ∧ ad 1003 = t3 ∧ ad 1004 = b :=
    ⟨fun i => if i < 204 then s.heap.size + i else if i = 1000 then t0 else if i = 1001 then t1 else if i = 1002 then t2 else if i = 1003 then t3 else b, fun i hi => if_pos hi, by simp, by simp, by simp, by simp, by simp⟩
  refine ⟨ad, had, e4, ?_⟩
  unfold bGL
  rw [e0, e1, e2, e3]
  exact ⟨bn_all hts, a0, b0, a1, b1, a2, b2, va_Zof (hts _ lw_lComp) (hts _ lw_iStr) (va_eqi (hs _ fz_c)) (stA_no s), va_Zqof (hts _ lw_lSio) (hts _ lw_iPre) (hs _ fz_q) (stA_no s)⟩
theorem st_out {s : State} {ad : Nat → Nat} (had : ∀ i, i < 204 → ad i = s.heap.size + i) : ∀ q : Nat, bA bSY ad s.heap.size q → stA s q := by
  rintro q (⟨i, hi, e⟩ | h)
  · rw [bSY_len] at hi
    show s.heap.size ≤ q
    rw [e, had i hi]
    omega
  · exact h
set_option maxHeartbeats 1000000 in
theorem whole_start {p : Program} {e : Env} {s : State} {m : MethodId} {below : List Frame} {meth : Method} {c : Code} (l : Launch) (hflags : l.flags = flags0) {b L : Nat} {xs : Nat → Int32} (hL : L ≤ 448) (C0 : lw_At p s m meth c b L xs) : W p l e room_1 s m #[Value.ref b] below meth c s.heap [] 0 0 (lw_Z below #[Value.ref b] s) (entryFrame m ([Value.ref b] : List Value).toArray 4) := by
  obtain ⟨hx, hb, hr, hml, hown, hts, hX, hbl, hlocks, hgv⟩ := C0
  have hs : ∀ w ∈ stF, w.before #[Value.ref b] s = true := flat_of_before _ hgv
  have hbT : ∀ w ∈ bT, w.before #[Value.ref b] s = true := fun w hw => hts w (List.mem_filter.mp hw).1
  obtain ⟨D, aC, hK⟩ := kn_K hbT
  obtain ⟨ad, had, e4, hG⟩ := st_glob hts hs b
  have hE : ExL L xs #[Value.ref b] s ad := by
    refine ⟨by rw [e4], by rw [e4]; exact hX, by rw [e4]; exact hbl, hL, fun i hi => by rw [had i hi]; omega⟩
  have hy : gHy L xs #[Value.ref b] s ad s.heap.size := ⟨hG.narrow (st_out had), hE, rfl⟩
  have C : gC RL code 4 (some .boolean, false) p s m #[Value.ref b] meth c D aC := ⟨hx, hb, hml, hown, hbT, hr, hlocks, hK, (fun h => by cases h), gn_all hts⟩
  have hl := lv_entry ([.ref b]) (n := 4) (Nat.le_of_ble_eq_true rfl)
  rw [lg_entry_eq]
  generalize hla : (lg_sl ([.ref b]) ++ List.replicate (4 - (lg_sl ([.ref b])).length) Slot.unset).toArray = la at hl ⊢
  have hv : blv 4 ad la [some (aR 1004), none, none, none] := by
    refine ⟨hl.1, hl.2.1, fun i v hv => ?_⟩
    match i, hv with
    | 0, hv =>
      cases hv
      refine ⟨?_, trivial⟩
      rw [← hla]
      show _ = some (Slot.val (.ref (ad 1004)))
      rw [e4, List.getElem?_toArray]
      rfl
    | 1, hv => cases hv
    | 2, hv => cases hv
    | 3, hv => cases hv
    | i + 4, hv => cases hv
  have K := law_entry (xs := xs) inv_m0 bwf_m0 hL p l e s m #[Value.ref b] below meth c D aC ad s.heap.size s.heap [] la C had (by decide) (fun k q h => by
    have h2 : ([] : va_W)[k]? = some q := h
    simp at h2) rfl (Nat.le_refl _) va_S.rf (fun _ _ _ => rfl) (fun v hv => by cases hv) hv
  intro T hT X
  obtain ⟨t, a1, b1⟩ := K T hT X
  exact ⟨t, a1, b1 hy⟩
