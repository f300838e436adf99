/-! links of the text -/
theorem ctL : bCT RX7 112 326 0 := ⟨rfl, wt_len, rfl, by decide, by decide, by decide +kernel⟩
theorem ctC : bCT RX7 116 327 1 := ⟨rfl, wt_chr, rfl, by decide, by decide, by decide +kernel⟩
