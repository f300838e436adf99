/-! the arms of the law fit their bytes -/
abbrev xs0 : Nat → Int32 := fun _ => 0
theorem ckA_0 : (A_law_0 (L := 0) (xs := xs0)).1.1 2376 2370 280 = some (some 2370) := by decide +kernel
theorem trA_0 (L : Nat) (xs : Nat → Int32) : (A_law_0 (L := L) (xs := xs)).1.1 = (A_law_0 (L := 0) (xs := xs0)).1.1 := rfl
theorem swA_0 : bsw code 33 0 = some 280 := by decide +kernel
theorem gtA_0 : g4 code 280 = 280 := by decide +kernel
theorem ckA_1 : (A_law_1 (L := 0) (xs := xs0)).1.1 2376 2370 323 = some (some 2370) := by decide +kernel
theorem trA_1 (L : Nat) (xs : Nat → Int32) : (A_law_1 (L := L) (xs := xs)).1.1 = (A_law_1 (L := 0) (xs := xs0)).1.1 := rfl
theorem swA_1 : bsw code 33 1 = some 323 := by decide +kernel
theorem gtA_1 : g4 code 323 = 323 := by decide +kernel
theorem ckA_2 : (A_law_2 (L := 0) (xs := xs0)).1.1 2376 2370 346 = some (some 2370) := by decide +kernel
theorem trA_2 (L : Nat) (xs : Nat → Int32) : (A_law_2 (L := L) (xs := xs)).1.1 = (A_law_2 (L := 0) (xs := xs0)).1.1 := rfl
theorem swA_2 : bsw code 33 2 = some 346 := by decide +kernel
theorem gtA_2 : g4 code 346 = 346 := by decide +kernel
theorem ckA_3 : (A_law_3 (L := 0) (xs := xs0)).1.1 2376 2370 379 = some (some 2370) := by decide +kernel
theorem trA_3 (L : Nat) (xs : Nat → Int32) : (A_law_3 (L := L) (xs := xs)).1.1 = (A_law_3 (L := 0) (xs := xs0)).1.1 := rfl
theorem swA_3 : bsw code 33 3 = some 379 := by decide +kernel
theorem gtA_3 : g4 code 379 = 379 := by decide +kernel
theorem ckA_4 : (A_law_4 (L := 0) (xs := xs0)).1.1 2376 2370 412 = some (some 2370) := by decide +kernel
theorem trA_4 (L : Nat) (xs : Nat → Int32) : (A_law_4 (L := L) (xs := xs)).1.1 = (A_law_4 (L := 0) (xs := xs0)).1.1 := rfl
theorem swA_4 : bsw code 33 4 = some 412 := by decide +kernel
theorem gtA_4 : g4 code 412 = 412 := by decide +kernel
theorem ckA_5 : (A_law_5 (L := 0) (xs := xs0)).1.1 2376 2370 455 = some (some 2370) := by decide +kernel
theorem trA_5 (L : Nat) (xs : Nat → Int32) : (A_law_5 (L := L) (xs := xs)).1.1 = (A_law_5 (L := 0) (xs := xs0)).1.1 := rfl
theorem swA_5 : bsw code 33 5 = some 455 := by decide +kernel
theorem gtA_5 : g4 code 455 = 455 := by decide +kernel
theorem ckA_6 : (A_law_6 (L := 0) (xs := xs0)).1.1 2376 2370 508 = some (some 2370) := by decide +kernel
theorem trA_6 (L : Nat) (xs : Nat → Int32) : (A_law_6 (L := L) (xs := xs)).1.1 = (A_law_6 (L := 0) (xs := xs0)).1.1 := rfl
theorem swA_6 : bsw code 33 6 = some 508 := by decide +kernel
theorem gtA_6 : g4 code 508 = 508 := by decide +kernel
theorem ckA_7 : (A_law_7 (L := 0) (xs := xs0)).1.1 2376 2370 551 = some (some 2370) := by decide +kernel
theorem trA_7 (L : Nat) (xs : Nat → Int32) : (A_law_7 (L := L) (xs := xs)).1.1 = (A_law_7 (L := 0) (xs := xs0)).1.1 := rfl
theorem swA_7 : bsw code 33 7 = some 551 := by decide +kernel
theorem gtA_7 : g4 code 551 = 551 := by decide +kernel
theorem ckA_8 : (A_law_8 (L := 0) (xs := xs0)).1.1 2376 2370 604 = some (some 2370) := by decide +kernel
theorem trA_8 (L : Nat) (xs : Nat → Int32) : (A_law_8 (L := L) (xs := xs)).1.1 = (A_law_8 (L := 0) (xs := xs0)).1.1 := rfl
theorem swA_8 : bsw code 33 8 = some 604 := by decide +kernel
theorem gtA_8 : g4 code 604 = 604 := by decide +kernel
theorem ckA_9 : (A_law_9 (L := 0) (xs := xs0)).1.1 2376 2370 657 = some (some 2370) := by decide +kernel
theorem trA_9 (L : Nat) (xs : Nat → Int32) : (A_law_9 (L := L) (xs := xs)).1.1 = (A_law_9 (L := 0) (xs := xs0)).1.1 := rfl
theorem swA_9 : bsw code 33 9 = some 657 := by decide +kernel
theorem gtA_9 : g4 code 657 = 657 := by decide +kernel
theorem ckA_10 : (A_law_10 (L := 0) (xs := xs0)).1.1 2376 2370 700 = some (some 2370) := by decide +kernel
theorem trA_10 (L : Nat) (xs : Nat → Int32) : (A_law_10 (L := L) (xs := xs)).1.1 = (A_law_10 (L := 0) (xs := xs0)).1.1 := rfl
theorem swA_10 : bsw code 33 10 = some 700 := by decide +kernel
theorem gtA_10 : g4 code 700 = 700 := by decide +kernel
theorem ckA_11 : (A_law_11 (L := 0) (xs := xs0)).1.1 2376 2370 753 = some (some 2370) := by decide +kernel
theorem trA_11 (L : Nat) (xs : Nat → Int32) : (A_law_11 (L := L) (xs := xs)).1.1 = (A_law_11 (L := 0) (xs := xs0)).1.1 := rfl
theorem swA_11 : bsw code 33 11 = some 753 := by decide +kernel
theorem gtA_11 : g4 code 753 = 753 := by decide +kernel
theorem ckA_12 : (A_law_12 (L := 0) (xs := xs0)).1.1 2376 2370 802 = some (some 2370) := by decide +kernel
theorem trA_12 (L : Nat) (xs : Nat → Int32) : (A_law_12 (L := L) (xs := xs)).1.1 = (A_law_12 (L := 0) (xs := xs0)).1.1 := rfl
theorem swA_12 : bsw code 33 12 = some 802 := by decide +kernel
theorem gtA_12 : g4 code 802 = 802 := by decide +kernel
theorem ckA_13 : (A_law_13 (L := 0) (xs := xs0)).1.1 2376 2370 835 = some (some 2370) := by decide +kernel
theorem trA_13 (L : Nat) (xs : Nat → Int32) : (A_law_13 (L := L) (xs := xs)).1.1 = (A_law_13 (L := 0) (xs := xs0)).1.1 := rfl
theorem swA_13 : bsw code 33 13 = some 835 := by decide +kernel
theorem gtA_13 : g4 code 835 = 835 := by decide +kernel
theorem ckA_14 : (A_law_14 (L := 0) (xs := xs0)).1.1 2376 2370 884 = some (some 2370) := by decide +kernel
theorem trA_14 (L : Nat) (xs : Nat → Int32) : (A_law_14 (L := L) (xs := xs)).1.1 = (A_law_14 (L := 0) (xs := xs0)).1.1 := rfl
theorem swA_14 : bsw code 33 14 = some 884 := by decide +kernel
theorem gtA_14 : g4 code 884 = 884 := by decide +kernel
theorem ckA_15 : (A_law_15 (L := 0) (xs := xs0)).1.1 2376 2370 927 = some (some 2370) := by decide +kernel
theorem trA_15 (L : Nat) (xs : Nat → Int32) : (A_law_15 (L := L) (xs := xs)).1.1 = (A_law_15 (L := 0) (xs := xs0)).1.1 := rfl
theorem swA_15 : bsw code 33 15 = some 927 := by decide +kernel
theorem gtA_15 : g4 code 927 = 927 := by decide +kernel
theorem ckA_16 : (A_law_16 (L := 0) (xs := xs0)).1.1 2376 2370 950 = some (some 2370) := by decide +kernel
theorem trA_16 (L : Nat) (xs : Nat → Int32) : (A_law_16 (L := L) (xs := xs)).1.1 = (A_law_16 (L := 0) (xs := xs0)).1.1 := rfl
theorem swA_16 : bsw code 33 16 = some 950 := by decide +kernel
theorem gtA_16 : g4 code 950 = 950 := by decide +kernel
theorem ckA_17 : (A_law_17 (L := 0) (xs := xs0)).1.1 2376 2370 999 = some (some 2370) := by decide +kernel
theorem trA_17 (L : Nat) (xs : Nat → Int32) : (A_law_17 (L := L) (xs := xs)).1.1 = (A_law_17 (L := 0) (xs := xs0)).1.1 := rfl
theorem swA_17 : bsw code 33 17 = some 999 := by decide +kernel
theorem gtA_17 : g4 code 999 = 999 := by decide +kernel
theorem ckA_18 : (A_law_18 (L := 0) (xs := xs0)).1.1 2376 2370 1022 = some (some 2370) := by decide +kernel
theorem trA_18 (L : Nat) (xs : Nat → Int32) : (A_law_18 (L := L) (xs := xs)).1.1 = (A_law_18 (L := 0) (xs := xs0)).1.1 := rfl
theorem swA_18 : bsw code 33 18 = some 1022 := by decide +kernel
theorem gtA_18 : g4 code 1022 = 1022 := by decide +kernel
theorem ckA_19 : (A_law_19 (L := 0) (xs := xs0)).1.1 2376 2370 1045 = some (some 2370) := by decide +kernel
theorem trA_19 (L : Nat) (xs : Nat → Int32) : (A_law_19 (L := L) (xs := xs)).1.1 = (A_law_19 (L := 0) (xs := xs0)).1.1 := rfl
theorem swA_19 : bsw code 33 19 = some 1045 := by decide +kernel
theorem gtA_19 : g4 code 1045 = 1045 := by decide +kernel
