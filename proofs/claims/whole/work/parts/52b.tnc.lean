/-! ===== rows that simp must not take as definitional ===== -/
theorem tnc (n : Nat) : ((n : Int)).toNat = n := nrf (Int.toNat_natCast n)
theorem dc_t : decide True = true := nrf rfl
theorem dc_f : decide False = false := nrf rfl
