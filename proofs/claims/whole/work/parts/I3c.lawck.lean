/-! the arms of the law fit their bytes -/
theorem ckA_40 : (A_law_40 (L := 0) (xs := xs0)).1.1 2376 2370 1806 = some (some 2370) := by decide +kernel
theorem trA_40 (L : Nat) (xs : Nat → Int32) : (A_law_40 (L := L) (xs := xs)).1.1 = (A_law_40 (L := 0) (xs := xs0)).1.1 := rfl
theorem swA_40 : bsw code 33 40 = some 1806 := by decide +kernel
theorem gtA_40 : g4 code 1806 = 1806 := by decide +kernel
theorem ckA_41 : (A_law_41 (L := 0) (xs := xs0)).1.1 2376 2370 1829 = some (some 2370) := by decide +kernel
theorem trA_41 (L : Nat) (xs : Nat → Int32) : (A_law_41 (L := L) (xs := xs)).1.1 = (A_law_41 (L := 0) (xs := xs0)).1.1 := rfl
theorem swA_41 : bsw code 33 41 = some 1829 := by decide +kernel
theorem gtA_41 : g4 code 1829 = 1829 := by decide +kernel
theorem ckA_42 : (A_law_42 (L := 0) (xs := xs0)).1.1 2376 2370 1862 = some (some 2370) := by decide +kernel
theorem trA_42 (L : Nat) (xs : Nat → Int32) : (A_law_42 (L := L) (xs := xs)).1.1 = (A_law_42 (L := 0) (xs := xs0)).1.1 := rfl
theorem swA_42 : bsw code 33 42 = some 1862 := by decide +kernel
theorem gtA_42 : g4 code 1862 = 1862 := by decide +kernel
theorem ckA_43 : (A_law_43 (L := 0) (xs := xs0)).1.1 2376 2370 1895 = some (some 2370) := by decide +kernel
theorem trA_43 (L : Nat) (xs : Nat → Int32) : (A_law_43 (L := L) (xs := xs)).1.1 = (A_law_43 (L := 0) (xs := xs0)).1.1 := rfl
theorem swA_43 : bsw code 33 43 = some 1895 := by decide +kernel
theorem gtA_43 : g4 code 1895 = 1895 := by decide +kernel
theorem ckA_44 : (A_law_44 (L := 0) (xs := xs0)).1.1 2376 2370 1938 = some (some 2370) := by decide +kernel
theorem trA_44 (L : Nat) (xs : Nat → Int32) : (A_law_44 (L := L) (xs := xs)).1.1 = (A_law_44 (L := 0) (xs := xs0)).1.1 := rfl
theorem swA_44 : bsw code 33 44 = some 1938 := by decide +kernel
theorem gtA_44 : g4 code 1938 = 1938 := by decide +kernel
theorem ckA_45 : (A_law_45 (L := 0) (xs := xs0)).1.1 2376 2370 1951 = some (some 2370) := by decide +kernel
theorem trA_45 (L : Nat) (xs : Nat → Int32) : (A_law_45 (L := L) (xs := xs)).1.1 = (A_law_45 (L := 0) (xs := xs0)).1.1 := rfl
theorem swA_45 : bsw code 33 45 = some 1951 := by decide +kernel
theorem gtA_45 : g4 code 1951 = 1951 := by decide +kernel
theorem ckA_46 : (A_law_46 (L := 0) (xs := xs0)).1.1 2376 2370 1964 = some (some 2370) := by decide +kernel
theorem trA_46 (L : Nat) (xs : Nat → Int32) : (A_law_46 (L := L) (xs := xs)).1.1 = (A_law_46 (L := 0) (xs := xs0)).1.1 := rfl
theorem swA_46 : bsw code 33 46 = some 1964 := by decide +kernel
theorem gtA_46 : g4 code 1964 = 1964 := by decide +kernel
theorem ckA_47 : (A_law_47 (L := 0) (xs := xs0)).1.1 2376 2370 2007 = some (some 2370) := by decide +kernel
theorem trA_47 (L : Nat) (xs : Nat → Int32) : (A_law_47 (L := L) (xs := xs)).1.1 = (A_law_47 (L := 0) (xs := xs0)).1.1 := rfl
theorem swA_47 : bsw code 33 47 = some 2007 := by decide +kernel
theorem gtA_47 : g4 code 2007 = 2007 := by decide +kernel
theorem ckA_48 : (A_law_48 (L := 0) (xs := xs0)).1.1 2376 2370 2050 = some (some 2370) := by decide +kernel
theorem trA_48 (L : Nat) (xs : Nat → Int32) : (A_law_48 (L := L) (xs := xs)).1.1 = (A_law_48 (L := 0) (xs := xs0)).1.1 := rfl
theorem swA_48 : bsw code 33 48 = some 2050 := by decide +kernel
theorem gtA_48 : g4 code 2050 = 2050 := by decide +kernel
theorem ckA_49 : (A_law_49 (L := 0) (xs := xs0)).1.1 2376 2370 2093 = some (some 2370) := by decide +kernel
theorem trA_49 (L : Nat) (xs : Nat → Int32) : (A_law_49 (L := L) (xs := xs)).1.1 = (A_law_49 (L := 0) (xs := xs0)).1.1 := rfl
theorem swA_49 : bsw code 33 49 = some 2093 := by decide +kernel
theorem gtA_49 : g4 code 2093 = 2093 := by decide +kernel
theorem ckA_50 : (A_law_50 (L := 0) (xs := xs0)).1.1 2376 2370 2136 = some (some 2370) := by decide +kernel
theorem trA_50 (L : Nat) (xs : Nat → Int32) : (A_law_50 (L := L) (xs := xs)).1.1 = (A_law_50 (L := 0) (xs := xs0)).1.1 := rfl
theorem swA_50 : bsw code 33 50 = some 2136 := by decide +kernel
theorem gtA_50 : g4 code 2136 = 2136 := by decide +kernel
theorem ckA_51 : (A_law_51 (L := 0) (xs := xs0)).1.1 2376 2370 2179 = some (some 2370) := by decide +kernel
theorem trA_51 (L : Nat) (xs : Nat → Int32) : (A_law_51 (L := L) (xs := xs)).1.1 = (A_law_51 (L := 0) (xs := xs0)).1.1 := rfl
theorem swA_51 : bsw code 33 51 = some 2179 := by decide +kernel
theorem gtA_51 : g4 code 2179 = 2179 := by decide +kernel
theorem ckA_52 : (A_law_52 (L := 0) (xs := xs0)).1.1 2376 2370 2222 = some (some 2370) := by decide +kernel
theorem trA_52 (L : Nat) (xs : Nat → Int32) : (A_law_52 (L := L) (xs := xs)).1.1 = (A_law_52 (L := 0) (xs := xs0)).1.1 := rfl
theorem swA_52 : bsw code 33 52 = some 2222 := by decide +kernel
theorem gtA_52 : g4 code 2222 = 2222 := by decide +kernel
theorem ckA_53 : (A_law_53 (L := 0) (xs := xs0)).1.1 2376 2370 2255 = some (some 2370) := by decide +kernel
theorem trA_53 (L : Nat) (xs : Nat → Int32) : (A_law_53 (L := L) (xs := xs)).1.1 = (A_law_53 (L := 0) (xs := xs0)).1.1 := rfl
theorem swA_53 : bsw code 33 53 = some 2255 := by decide +kernel
theorem gtA_53 : g4 code 2255 = 2255 := by decide +kernel
theorem ckA_54 : (A_law_54 (L := 0) (xs := xs0)).1.1 2376 2370 2298 = some (some 2370) := by decide +kernel
theorem trA_54 (L : Nat) (xs : Nat → Int32) : (A_law_54 (L := L) (xs := xs)).1.1 = (A_law_54 (L := 0) (xs := xs0)).1.1 := rfl
theorem swA_54 : bsw code 33 54 = some 2298 := by decide +kernel
theorem gtA_54 : g4 code 2298 = 2298 := by decide +kernel
theorem ckA_55 : (A_law_55 (L := 0) (xs := xs0)).1.1 2376 2370 2321 = some (some 2370) := by decide +kernel
theorem trA_55 (L : Nat) (xs : Nat → Int32) : (A_law_55 (L := L) (xs := xs)).1.1 = (A_law_55 (L := 0) (xs := xs0)).1.1 := rfl
theorem swA_55 : bsw code 33 55 = some 2321 := by decide +kernel
theorem gtA_55 : g4 code 2321 = 2321 := by decide +kernel
theorem ckA_56 : (A_law_56 (L := 0) (xs := xs0)).1.1 2376 2370 2344 = some (some 2370) := by decide +kernel
theorem trA_56 (L : Nat) (xs : Nat → Int32) : (A_law_56 (L := L) (xs := xs)).1.1 = (A_law_56 (L := 0) (xs := xs0)).1.1 := rfl
theorem swA_56 : bsw code 33 56 = some 2344 := by decide +kernel
theorem gtA_56 : g4 code 2344 = 2344 := by decide +kernel
theorem ckA_57 : (A_law_57 (L := 0) (xs := xs0)).1.1 2376 2370 2357 = some (some 2370) := by decide +kernel
theorem trA_57 (L : Nat) (xs : Nat → Int32) : (A_law_57 (L := L) (xs := xs)).1.1 = (A_law_57 (L := 0) (xs := xs0)).1.1 := rfl
theorem swA_57 : bsw code 33 57 = some 2357 := by decide +kernel
theorem gtA_57 : g4 code 2357 = 2357 := by decide +kernel
