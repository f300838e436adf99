/-! the bodies of the JDK that are walked likewise -/
theorem wk_265 : bKI RJ6 265 1431655765 := ⟨bT_of 971 (by decide +kernel) rfl, by unfold in32; decide⟩
theorem wk_266 : bKI RJ6 266 858993459 := ⟨bT_of 972 (by decide +kernel) rfl, by unfold in32; decide⟩
theorem wk_267 : bKI RJ6 267 252645135 := ⟨bT_of 973 (by decide +kernel) rfl, by unfold in32; decide⟩
abbrev K_fill : bK := (RJ7, cJ7_fill_53178, 4, none, fun _ _ _ => True)
def L_fill_1c : EC K_fill := cQ 2 (eLoc 2) (eLoc 3)
def L_fill_1b : ES K_fill := sPutD 0 (eLoc 2) (eLoc 1)
def L_fill_1s : ES K_fill := sInc 2 1
def L_fill_1 : ES K_fill := sLp 14 L_fill_1c L_fill_1b L_fill_1s
def B_fill : ES K_fill := sSeq (sSet 2 (eInt 0)) (sSeq (sSet 3 (eLen 0)) (sSeq L_fill_1 sRetV))
theorem ck_fill : B_fill.1.1 0 0 0 = some none := by decide +kernel
abbrev K_bitCount : bK := (RJ6, cJ6_bitCount_0f7a4, 1, some .int, fun _ _ _ => True)
def B_bitCount : ES K_bitCount := sSeq (sSet 0 (eSub (eLoc 0) (eAnd (eUsh (eLoc 0) (eInt 1)) (eLdw 1431655765 wk_265)))) (sSeq (sSet 0 (eAdd (eAnd (eLoc 0) (eLdw 858993459 wk_266)) (eAnd (eUsh (eLoc 0) (eInt 2)) (eLdw 858993459 wk_266)))) (sSeq (sSet 0 (eAnd (eAdd (eLoc 0) (eUsh (eLoc 0) (eInt 4))) (eLdw 252645135 wk_267))) (sSeq (sSet 0 (eAdd (eLoc 0) (eUsh (eLoc 0) (eInt 8)))) (sSeq (sSet 0 (eAdd (eLoc 0) (eUsh (eLoc 0) (eInt 16)))) (sRet (eAnd (eLoc 0) (eInt 63)))))))
theorem ck_bitCount : B_bitCount.1.1 0 0 0 = some none := by decide +kernel
