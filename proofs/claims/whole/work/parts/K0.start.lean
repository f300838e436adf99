/-! ===== the law's start: both objects ===== -/
def m0 : bM := wrs lgM g0
theorem calV : ∃ d', d' + 1 ≤ 2 ∧ gCal yI_11 cI_11 1 (gRm d' (131, 7333)) [aR 0] [(0, 11, (gdf 11).1)] g0 syV (wrs lgV g0) (131, 7333) ∧ (∀ i n, 132 ≤ i → wrs lgV g0 i n = 0) := by
  obtain ⟨d', h1, h2, h3, h4, h5, h6⟩ := gcD_ok gH_all 2 11 [aR 0] [(0, 11, (gdf 11).1)] [] _ runV
  exact ⟨d', h1, h3, fun i n hi => h6 i n (Nat.le_trans (Nat.le_of_eq (show syV.length = 132 by decide +kernel)) hi)⟩
theorem calM : ∃ d', d' + 1 ≤ 1 ∧ gCal yI_12 cI_12 1 (gRm d' (71, 10536)) [aR 132] (syV ++ [(0, 12, (gdf 12).1)]) (wrs lgV g0) syM m0 (71, 10536) ∧ (∀ i n, 204 ≤ i → m0 i n = 0) := by
  obtain ⟨d', h1, h2, h3, h4, h5, h6⟩ := gcD_ok gH_all 1 12 [aR 132] (syV ++ [(0, 12, (gdf 12).1)]) lgV _ runM
  exact ⟨d', h1, h3, fun i n hi => h6 i n (Nat.le_trans (Nat.le_of_eq (show syM.length = 204 by decide +kernel)) hi)⟩
theorem syM_of (aC : Nat → ClassId) (ad : Nat → Nat) (m : bM) : gW syM aC ad m = bW bSY aC ad m := gW_of bSY aC ad m
