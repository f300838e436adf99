/-! ===== the text's length and chars ===== -/
section Text
variable {κ : bK}
def eTxL : EI κ := ⟨(fun k pc => if k ≤ 7 ∧ κ.1 = RX7 then (dk κ.2.1 pc (.ldc 110) 2).bind fun p => dk κ.2.1 p (.invokevirtual 112) 3 else none, fun _ _ m => some (83, m)), sorry⟩
def eTxC (e : EI κ) : EI κ := ⟨(fun k pc => if k ≤ 7 ∧ κ.1 = RX7 then (dk κ.2.1 pc (.ldc 110) 2).bind fun p => (e.1.1 (k + 1) p).bind fun p2 => dk κ.2.1 p2 (.invokevirtual 116) 3 else none, fun cal ls m => (e.1.2 cal ls m).bind fun x => if 0 ≤ x.1 ∧ x.1 < 83 then some ((gBytes.getD x.1.toNat 0).toInt, x.2) else none), sorry⟩
end Text
