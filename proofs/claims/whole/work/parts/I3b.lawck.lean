/-! the arms of the law fit their bytes -/
theorem ckA_20 : (A_law_20 (L := 0) (xs := xs0)).1.1 2376 2370 1120 = some (some 2370) := by decide +kernel
theorem trA_20 (L : Nat) (xs : Nat → Int32) : (A_law_20 (L := L) (xs := xs)).1.1 = (A_law_20 (L := 0) (xs := xs0)).1.1 := rfl
theorem swA_20 : bsw code 33 20 = some 1120 := by decide +kernel
theorem gtA_20 : g4 code 1120 = 1120 := by decide +kernel
theorem ckA_21 : (A_law_21 (L := 0) (xs := xs0)).1.1 2376 2370 1173 = some (some 2370) := by decide +kernel
theorem trA_21 (L : Nat) (xs : Nat → Int32) : (A_law_21 (L := L) (xs := xs)).1.1 = (A_law_21 (L := 0) (xs := xs0)).1.1 := rfl
theorem swA_21 : bsw code 33 21 = some 1173 := by decide +kernel
theorem gtA_21 : g4 code 1173 = 1173 := by decide +kernel
theorem ckA_22 : (A_law_22 (L := 0) (xs := xs0)).1.1 2376 2370 1216 = some (some 2370) := by decide +kernel
theorem trA_22 (L : Nat) (xs : Nat → Int32) : (A_law_22 (L := L) (xs := xs)).1.1 = (A_law_22 (L := 0) (xs := xs0)).1.1 := rfl
theorem swA_22 : bsw code 33 22 = some 1216 := by decide +kernel
theorem gtA_22 : g4 code 1216 = 1216 := by decide +kernel
theorem ckA_23 : (A_law_23 (L := 0) (xs := xs0)).1.1 2376 2370 1265 = some (some 2370) := by decide +kernel
theorem trA_23 (L : Nat) (xs : Nat → Int32) : (A_law_23 (L := L) (xs := xs)).1.1 = (A_law_23 (L := 0) (xs := xs0)).1.1 := rfl
theorem swA_23 : bsw code 33 23 = some 1265 := by decide +kernel
theorem gtA_23 : g4 code 1265 = 1265 := by decide +kernel
theorem ckA_24 : (A_law_24 (L := 0) (xs := xs0)).1.1 2376 2370 1298 = some (some 2370) := by decide +kernel
theorem trA_24 (L : Nat) (xs : Nat → Int32) : (A_law_24 (L := L) (xs := xs)).1.1 = (A_law_24 (L := 0) (xs := xs0)).1.1 := rfl
theorem swA_24 : bsw code 33 24 = some 1298 := by decide +kernel
theorem gtA_24 : g4 code 1298 = 1298 := by decide +kernel
theorem ckA_25 : (A_law_25 (L := 0) (xs := xs0)).1.1 2376 2370 1321 = some (some 2370) := by decide +kernel
theorem trA_25 (L : Nat) (xs : Nat → Int32) : (A_law_25 (L := L) (xs := xs)).1.1 = (A_law_25 (L := 0) (xs := xs0)).1.1 := rfl
theorem swA_25 : bsw code 33 25 = some 1321 := by decide +kernel
theorem gtA_25 : g4 code 1321 = 1321 := by decide +kernel
theorem ckA_26 : (A_law_26 (L := 0) (xs := xs0)).1.1 2376 2370 1364 = some (some 2370) := by decide +kernel
theorem trA_26 (L : Nat) (xs : Nat → Int32) : (A_law_26 (L := L) (xs := xs)).1.1 = (A_law_26 (L := 0) (xs := xs0)).1.1 := rfl
theorem swA_26 : bsw code 33 26 = some 1364 := by decide +kernel
theorem gtA_26 : g4 code 1364 = 1364 := by decide +kernel
theorem ckA_27 : (A_law_27 (L := 0) (xs := xs0)).1.1 2376 2370 1407 = some (some 2370) := by decide +kernel
theorem trA_27 (L : Nat) (xs : Nat → Int32) : (A_law_27 (L := L) (xs := xs)).1.1 = (A_law_27 (L := 0) (xs := xs0)).1.1 := rfl
theorem swA_27 : bsw code 33 27 = some 1407 := by decide +kernel
theorem gtA_27 : g4 code 1407 = 1407 := by decide +kernel
theorem ckA_28 : (A_law_28 (L := 0) (xs := xs0)).1.1 2376 2370 1440 = some (some 2370) := by decide +kernel
theorem trA_28 (L : Nat) (xs : Nat → Int32) : (A_law_28 (L := L) (xs := xs)).1.1 = (A_law_28 (L := 0) (xs := xs0)).1.1 := rfl
theorem swA_28 : bsw code 33 28 = some 1440 := by decide +kernel
theorem gtA_28 : g4 code 1440 = 1440 := by decide +kernel
theorem ckA_29 : (A_law_29 (L := 0) (xs := xs0)).1.1 2376 2370 1463 = some (some 2370) := by decide +kernel
theorem trA_29 (L : Nat) (xs : Nat → Int32) : (A_law_29 (L := L) (xs := xs)).1.1 = (A_law_29 (L := 0) (xs := xs0)).1.1 := rfl
theorem swA_29 : bsw code 33 29 = some 1463 := by decide +kernel
theorem gtA_29 : g4 code 1463 = 1463 := by decide +kernel
theorem ckA_30 : (A_law_30 (L := 0) (xs := xs0)).1.1 2376 2370 1486 = some (some 2370) := by decide +kernel
theorem trA_30 (L : Nat) (xs : Nat → Int32) : (A_law_30 (L := L) (xs := xs)).1.1 = (A_law_30 (L := 0) (xs := xs0)).1.1 := rfl
theorem swA_30 : bsw code 33 30 = some 1486 := by decide +kernel
theorem gtA_30 : g4 code 1486 = 1486 := by decide +kernel
theorem ckA_31 : (A_law_31 (L := 0) (xs := xs0)).1.1 2376 2370 1549 = some (some 2370) := by decide +kernel
theorem trA_31 (L : Nat) (xs : Nat → Int32) : (A_law_31 (L := L) (xs := xs)).1.1 = (A_law_31 (L := 0) (xs := xs0)).1.1 := rfl
theorem swA_31 : bsw code 33 31 = some 1549 := by decide +kernel
theorem gtA_31 : g4 code 1549 = 1549 := by decide +kernel
theorem ckA_32 : (A_law_32 (L := 0) (xs := xs0)).1.1 2376 2370 1562 = some (some 2370) := by decide +kernel
theorem trA_32 (L : Nat) (xs : Nat → Int32) : (A_law_32 (L := L) (xs := xs)).1.1 = (A_law_32 (L := 0) (xs := xs0)).1.1 := rfl
theorem swA_32 : bsw code 33 32 = some 1562 := by decide +kernel
theorem gtA_32 : g4 code 1562 = 1562 := by decide +kernel
theorem ckA_33 : (A_law_33 (L := 0) (xs := xs0)).1.1 2376 2370 1595 = some (some 2370) := by decide +kernel
theorem trA_33 (L : Nat) (xs : Nat → Int32) : (A_law_33 (L := L) (xs := xs)).1.1 = (A_law_33 (L := 0) (xs := xs0)).1.1 := rfl
theorem swA_33 : bsw code 33 33 = some 1595 := by decide +kernel
theorem gtA_33 : g4 code 1595 = 1595 := by decide +kernel
theorem ckA_34 : (A_law_34 (L := 0) (xs := xs0)).1.1 2376 2370 1628 = some (some 2370) := by decide +kernel
theorem trA_34 (L : Nat) (xs : Nat → Int32) : (A_law_34 (L := L) (xs := xs)).1.1 = (A_law_34 (L := 0) (xs := xs0)).1.1 := rfl
theorem swA_34 : bsw code 33 34 = some 1628 := by decide +kernel
theorem gtA_34 : g4 code 1628 = 1628 := by decide +kernel
theorem ckA_35 : (A_law_35 (L := 0) (xs := xs0)).1.1 2376 2370 1671 = some (some 2370) := by decide +kernel
theorem trA_35 (L : Nat) (xs : Nat → Int32) : (A_law_35 (L := L) (xs := xs)).1.1 = (A_law_35 (L := 0) (xs := xs0)).1.1 := rfl
theorem swA_35 : bsw code 33 35 = some 1671 := by decide +kernel
theorem gtA_35 : g4 code 1671 = 1671 := by decide +kernel
theorem ckA_36 : (A_law_36 (L := 0) (xs := xs0)).1.1 2376 2370 1714 = some (some 2370) := by decide +kernel
theorem trA_36 (L : Nat) (xs : Nat → Int32) : (A_law_36 (L := L) (xs := xs)).1.1 = (A_law_36 (L := 0) (xs := xs0)).1.1 := rfl
theorem swA_36 : bsw code 33 36 = some 1714 := by decide +kernel
theorem gtA_36 : g4 code 1714 = 1714 := by decide +kernel
theorem ckA_37 : (A_law_37 (L := 0) (xs := xs0)).1.1 2376 2370 1737 = some (some 2370) := by decide +kernel
theorem trA_37 (L : Nat) (xs : Nat → Int32) : (A_law_37 (L := L) (xs := xs)).1.1 = (A_law_37 (L := 0) (xs := xs0)).1.1 := rfl
theorem swA_37 : bsw code 33 37 = some 1737 := by decide +kernel
theorem gtA_37 : g4 code 1737 = 1737 := by decide +kernel
theorem ckA_38 : (A_law_38 (L := 0) (xs := xs0)).1.1 2376 2370 1760 = some (some 2370) := by decide +kernel
theorem trA_38 (L : Nat) (xs : Nat → Int32) : (A_law_38 (L := L) (xs := xs)).1.1 = (A_law_38 (L := 0) (xs := xs0)).1.1 := rfl
theorem swA_38 : bsw code 33 38 = some 1760 := by decide +kernel
theorem gtA_38 : g4 code 1760 = 1760 := by decide +kernel
theorem ckA_39 : (A_law_39 (L := 0) (xs := xs0)).1.1 2376 2370 1773 = some (some 2370) := by decide +kernel
theorem trA_39 (L : Nat) (xs : Nat → Int32) : (A_law_39 (L := L) (xs := xs)).1.1 = (A_law_39 (L := 0) (xs := xs0)).1.1 := rfl
theorem swA_39 : bsw code 33 39 = some 1773 := by decide +kernel
theorem gtA_39 : g4 code 1773 = 1773 := by decide +kernel
