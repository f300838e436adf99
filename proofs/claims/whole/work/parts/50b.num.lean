/-! ===== places of num ===== -/
theorem nm_0 (m : bM) : m 133 (0 : Int).toNat = m 133 0 := rfl
theorem nx_0 : (0 ≤ (0 : Int) ∧ (0 : Int) < ((14 : Nat) : Int)) = True := eq_true (by omega)
theorem nm_1 (m : bM) : m 133 (1 : Int).toNat = m 133 1 := rfl
theorem nx_1 : (0 ≤ (1 : Int) ∧ (1 : Int) < ((14 : Nat) : Int)) = True := eq_true (by omega)
theorem nm_2 (m : bM) : m 133 (2 : Int).toNat = m 133 2 := rfl
theorem nx_2 : (0 ≤ (2 : Int) ∧ (2 : Int) < ((14 : Nat) : Int)) = True := eq_true (by omega)
theorem nm_3 (m : bM) : m 133 (3 : Int).toNat = m 133 3 := rfl
theorem nx_3 : (0 ≤ (3 : Int) ∧ (3 : Int) < ((14 : Nat) : Int)) = True := eq_true (by omega)
theorem nm_4 (m : bM) : m 133 (4 : Int).toNat = m 133 4 := rfl
theorem nx_4 : (0 ≤ (4 : Int) ∧ (4 : Int) < ((14 : Nat) : Int)) = True := eq_true (by omega)
theorem nm_5 (m : bM) : m 133 (5 : Int).toNat = m 133 5 := rfl
theorem nx_5 : (0 ≤ (5 : Int) ∧ (5 : Int) < ((14 : Nat) : Int)) = True := eq_true (by omega)
theorem nm_6 (m : bM) : m 133 (6 : Int).toNat = m 133 6 := rfl
theorem nx_6 : (0 ≤ (6 : Int) ∧ (6 : Int) < ((14 : Nat) : Int)) = True := eq_true (by omega)
theorem nm_7 (m : bM) : m 133 (7 : Int).toNat = m 133 7 := rfl
theorem nx_7 : (0 ≤ (7 : Int) ∧ (7 : Int) < ((14 : Nat) : Int)) = True := eq_true (by omega)
theorem nm_8 (m : bM) : m 133 (8 : Int).toNat = m 133 8 := rfl
theorem nx_8 : (0 ≤ (8 : Int) ∧ (8 : Int) < ((14 : Nat) : Int)) = True := eq_true (by omega)
theorem nm_9 (m : bM) : m 133 (9 : Int).toNat = m 133 9 := rfl
theorem nx_9 : (0 ≤ (9 : Int) ∧ (9 : Int) < ((14 : Nat) : Int)) = True := eq_true (by omega)
theorem nm_10 (m : bM) : m 133 (10 : Int).toNat = m 133 10 := rfl
theorem nx_10 : (0 ≤ (10 : Int) ∧ (10 : Int) < ((14 : Nat) : Int)) = True := eq_true (by omega)
theorem nm_11 (m : bM) : m 133 (11 : Int).toNat = m 133 11 := rfl
theorem nx_11 : (0 ≤ (11 : Int) ∧ (11 : Int) < ((14 : Nat) : Int)) = True := eq_true (by omega)
theorem nm_12 (m : bM) : m 133 (12 : Int).toNat = m 133 12 := rfl
theorem nx_12 : (0 ≤ (12 : Int) ∧ (12 : Int) < ((14 : Nat) : Int)) = True := eq_true (by omega)
theorem nm_13 (m : bM) : m 133 (13 : Int).toNat = m 133 13 := rfl
theorem nx_13 : (0 ≤ (13 : Int) ∧ (13 : Int) < ((14 : Nat) : Int)) = True := eq_true (by omega)
