/-! ===== the law: its first eight instructions ===== -/
theorem w_132 : Cond.classLink RL 7 RX11 ∈ bT := bT_c1 22 (by decide +kernel) rfl
theorem w_133 : Cond.instantiable RX11 17 ∈ bT := bT_c1 23 (by decide +kernel) rfl
theorem w_136 : Cond.code yI_11 cI_11 1 none ∈ bT := bT_c1 26 (by decide +kernel) rfl
theorem w_135 : Cond.instanceMethod yI_11 ∈ bT := bT_c1 25 (by decide +kernel) rfl
theorem w_134 : Cond.methodLink RL 9 yI_11 ∈ bT := bT_c1 24 (by decide +kernel) rfl
theorem w_1662 : Cond.classLink RL 10 RX12 ∈ bT := bT_c7 112 (by decide +kernel) rfl
theorem w_1663 : Cond.instantiable RX12 97 ∈ bT := bT_c7 113 (by decide +kernel) rfl
theorem w_1666 : Cond.code yI_12 cI_12 1 none ∈ bT := bT_c7 116 rfl rfl
theorem w_1665 : Cond.instanceMethod yI_12 ∈ bT := bT_c7 115 (by decide +kernel) rfl
theorem w_1664 : Cond.methodLink RL 12 yI_12 ∈ bT := bT_c7 114 (by decide +kernel) rfl
theorem gnL_7 : gNw gdf RL 7 11 := ⟨_, _, ci11, w_132, w_133, w_111, dfX11, rfl⟩
theorem gcL_9 : Cond.code yI_11 cI_11 1 none ∈ bT ∧ Cond.initialized yI_11.cls ∈ bT ∧ Cond.methodLink RL 9 yI_11 ∈ bT ∧ Cond.instanceMethod yI_11 ∈ bT := ⟨w_136, w_111, w_134, w_135⟩
theorem gnL_10 : gNw gdf RL 10 12 := ⟨_, _, ci12, w_1662, w_1663, w_124, dfX12, rfl⟩
theorem gcL_12 : Cond.code yI_12 cI_12 1 none ∈ bT ∧ Cond.initialized yI_12.cls ∈ bT ∧ Cond.methodLink RL 12 yI_12 ∈ bT ∧ Cond.instanceMethod yI_12 ∈ bT := ⟨w_1666, w_124, w_1664, w_1665⟩
theorem dlw_0 : decode code 0 = .ok (.new 7, 3) := by decide +kernel
theorem dlw_3 : decode code 3 = .ok (.dup, 1) := by decide +kernel
theorem dlw_4 : decode code 4 = .ok (.invokespecial 9, 3) := by decide +kernel
theorem dlw_7 : decode code 7 = .ok (.astore_n 1, 1) := by decide +kernel
theorem dlw_8 : decode code 8 = .ok (.new 10, 3) := by decide +kernel
theorem dlw_11 : decode code 11 = .ok (.dup, 1) := by decide +kernel
theorem dlw_12 : decode code 12 = .ok (.invokespecial 12, 3) := by decide +kernel
theorem dlw_15 : decode code 15 = .ok (.astore_n 2, 1) := by decide +kernel
theorem hyI_11 : yI_11.cls ≠ "java/lang/invoke/MethodHandle" ∧ yI_11.cls ≠ "java/lang/invoke/VarHandle" ∧ (parseMethodDescriptor yI_11.desc).map (fun d => d.parameters.length) = some 0 := ⟨by decide, by decide, by decide +kernel⟩
theorem hyI_12 : yI_12.cls ≠ "java/lang/invoke/MethodHandle" ∧ yI_12.cls ≠ "java/lang/invoke/VarHandle" ∧ (parseMethodDescriptor yI_12.desc).map (fun d => d.parameters.length) = some 0 := ⟨by decide, by decide, by decide +kernel⟩
theorem law_start {j : gJ} (hj : j.1 = room_1) (kk : gZ RL code 4 (some .boolean, false) j 16 [some (aR 1004), some (aR 0), some (aR 132), none] [] syM m0 (204, 17983)) : gZ RL code 4 (some .boolean, false) j 0 [some (aR 1004), none, none, none] [] [] g0 (0, 0) := by
  obtain ⟨dV, hV1, hV2, hV3⟩ := calV
  obtain ⟨dM, hM1, hM2, hM3⟩ := calM
  obtain ⟨q1, t1, c1, c2, c3, c4, c5, c6⟩ := gnL_7
  obtain ⟨q2, t2, b1, b2, b3, b4, b5, b6⟩ := gnL_10
  obtain ⟨e1, e2, e3, e4⟩ := gcL_9
  obtain ⟨f1, f2, f3, f4⟩ := gcL_12
  have c6' : q1.2.2 = 17 := c6
  have b6' : q2.2.2 = 97 := b6
  have l1 : syV.length = 132 := by decide +kernel
  have l2 : syM.length = 204 := by decide +kernel
  have rc : j.1.cells = 600000 := by rw [hj]; rfl
  have rs : j.1.slots = 7302249 := by rw [hj]; rfl
  have rf : j.1.frames = 2048 := by rw [hj]; rfl
  have rl : j.1.locals = 84000 := by rw [hj]; rfl
  refine gz_new c1 c2 c3 c4 c5 (by decide) (by rw [rc]; exact Nat.le_of_ble_eq_true rfl) (by rw [rs, c6']; exact Nat.le_of_ble_eq_true rfl) dlw_0 ?_
  rw [c6']
  refine gz_dup dlw_3 (gz_callI (av := []) (k2 := (131, 7333)) hV2 e1 e2 e3 e4 hyI_11 rfl ⟨rfl, rfl⟩ ⟨by show dV + 2 + 1 ≤ _; omega, by show 8 + (1 + 11) + 100 * (dV + 1) ≤ _; omega⟩ ⟨by rw [rc]; exact Nat.le_of_ble_eq_true rfl, by rw [rs]; exact Nat.le_of_ble_eq_true rfl⟩ (by rw [l1]; rfl) (by rw [l1]; exact Nat.le_of_ble_eq_true rfl) (fun i n hi => hV3 i n (by rw [l1] at hi; exact hi)) (by decide) dlw_4 ?_)
  refine gz_astore_n dlw_7 rfl (by decide) rfl ?_
  refine gz_new b1 b2 b3 b4 b5 (by rw [l1]; decide) (by rw [rc]; exact Nat.le_of_ble_eq_true rfl) (by rw [rs, b6']; exact Nat.le_of_ble_eq_true rfl) dlw_8 ?_
  rw [b6', l1]
  refine gz_dup dlw_11 (gz_callI (av := []) (k2 := (71, 10536)) hM2 f1 f2 f3 f4 hyI_12 rfl ⟨rfl, rfl⟩ ⟨by show dM + 2 + 1 ≤ _; omega, by show 8 + (1 + 11) + 100 * (dM + 1) ≤ _; omega⟩ ⟨by rw [rc]; exact Nat.le_of_ble_eq_true rfl, by rw [rs]; exact Nat.le_of_ble_eq_true rfl⟩ (by rw [l2, List.length_append, l1]; rfl) (by rw [l2]; exact Nat.le_refl _) (fun i n hi => hM3 i n (by rw [l2] at hi; exact hi)) (by decide) dlw_12 ?_)
  exact gz_astore_n dlw_15 rfl (by decide) rfl kk
