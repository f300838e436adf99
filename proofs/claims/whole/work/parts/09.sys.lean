def bSY : bS := []
abbrev bMi : Type := MethodName × ByteArray × Nat × Option FieldType
def bInfoL : List bMi := []
def bInfo (f : Nat) : bMi := bInfoL.getD f (yX11_within, cX11_within, 3, some .boolean)
