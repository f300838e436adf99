/-! ===== the law: from its entry to its end, over the memory that the constructors leave ===== -/
def gHy (L : Nat) (xs : Nat → Int32) (args : Array Value) (s : State) (ad : Nat → Nat) (base : Nat) : Prop := bGL ad (bA bSY ad s.heap.size) s s.heap ∧ ExL L xs args s ad ∧ base = s.heap.size
abbrev gjL (L : Nat) (xs : Nat → Int32) : gJ := (room_1, fun below args s _ _ ad base t => gHy L xs args s ad base → lw_Z below args s t)
theorem law_mid {L : Nat} {xs : Nat → Int32} (hI : Inv 0 m0) (hw : bwf bSY m0) (hL : L ≤ 448) : gZ RL code 4 (some .boolean, false) (gjL L xs) 16 [some (aR 1004), some (aR 0), some (aR 132), none] [] syM m0 (204, 17983) := by
  intro p l e s mi args below meth c D aC ad base H locs la C had hl P hz hb hS hm hst hv
  obtain ⟨hx, hbb, hml, hown, hts, hr, hlk, hK, hnm, hN⟩ := id C
  by_cases hy : gHy L xs args s ad base
  · obtain ⟨y1, y2, y3⟩ := id hy
    subst y3
    have hD := gW_D (aC := aC) (m := m0) had hl
    rw [syM_of] at P hD
    have k2 := law_all (xs := xs) hI hL p l e s mi args below meth c D aC ad H locs la ⟨hx, hbb, hml, hown, hts, hr, hlk, hK, y1⟩ y2 P ⟨hD.1, fun k q hk => Or.inr (hD.2 k q hk)⟩ ⟨hS.1, fun q h1 _ => hS.2.1 q h1 (Nat.not_le.mpr h1), fun q hq => Or.inr (hS.2.2 q hq)⟩ hw hst hv
    have k3 := W.widen (cells := 204) (slots := 17983) (Nat.le_of_ble_eq_true rfl) (Nat.le_of_ble_eq_true rfl) k2
    intro T hT X
    obtain ⟨t, a, b⟩ := k3 T hT X
    exact ⟨t, a, fun _ => b⟩
  · intro T hT X
    exact ⟨_, Steps.refl _, fun h => absurd h hy⟩
theorem law_entry {L : Nat} {xs : Nat → Int32} (hI : Inv 0 m0) (hw : bwf bSY m0) (hL : L ≤ 448) : gZ RL code 4 (some .boolean, false) (gjL L xs) 0 [some (aR 1004), none, none, none] [] [] g0 (0, 0) := law_start rfl (law_mid hI hw hL)
