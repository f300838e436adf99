/-! ===== the constructors: their tables ===== -/
abbrev cI_0 : ByteArray := prog_12_method_1_code
def yI_0 : MethodName := ⟨RX10, "<init>", "()V"⟩
abbrev cI_1 : ByteArray := prog_10_method_1_code
def yI_1 : MethodName := ⟨RX8, "<init>", "()V"⟩
abbrev cI_2 : ByteArray := prog_4_method_1_code
def yI_2 : MethodName := ⟨RX2, "<init>", "()V"⟩
abbrev cI_3 : ByteArray := prog_2_method_1_code
def yI_3 : MethodName := ⟨RX0, "<init>", "()V"⟩
abbrev cI_4 : ByteArray := prog_3_method_1_code
def yI_4 : MethodName := ⟨RX1, "<init>", "()V"⟩
abbrev cI_5 : ByteArray := prog_7_method_1_code
def yI_5 : MethodName := ⟨RX5, "<init>", "(LBurstValley$Valley;LBurstValley$Seen;LBurstValley$Folk;)V"⟩
abbrev cI_6 : ByteArray := prog_8_method_1_code
def yI_6 : MethodName := ⟨RX6, "<init>", "(LBurstValley$Valley;LBurstValley$Seen;LBurstValley$Folk;LBurstValley$Night;)V"⟩
abbrev cI_7 : ByteArray := prog_9_method_1_code
def yI_7 : MethodName := ⟨RX7, "<init>", "(LBurstValley$Act;)V"⟩
abbrev cI_8 : ByteArray := prog_6_method_1_code
def yI_8 : MethodName := ⟨RX4, "<init>", "(LBurstValley$Valley;LBurstValley$Folk;LBurstValley$Act;LBurstValley$Claims;LBurstValley$Nights;)V"⟩
abbrev cI_9 : ByteArray := prog_11_method_1_code
def yI_9 : MethodName := ⟨RX9, "<init>", "(LBurstValley$Valley;LBurstValley$Folk;LBurstValley$Claims;LBurstValley$Nights;)V"⟩
abbrev cI_10 : ByteArray := prog_5_method_1_code
def yI_10 : MethodName := ⟨RX3, "<init>", "(LBurstValley$Valley;LBurstValley$Seen;LBurstValley$Folk;LBurstValley$Claims;)V"⟩
abbrev cI_11 : ByteArray := prog_1_method_1_code
def yI_11 : MethodName := ⟨RX11, "<init>", "()V"⟩
abbrev cI_12 : ByteArray := prog_14_method_5_code
def yI_12 : MethodName := ⟨RX12, "<init>", "()V"⟩
def gdfL : List (List (Option Nat) × Nat) := [([none, none, none, none, none, none, none, some 0], 8),
  ([none, none, none, none, none, none, some 0, some 0, some 0, some 0], 10),
  ([none, none, none, none, none, none, none, none, none, none, none, none, some 0, some 0, some 0, some 0], 16),
  ([none, none, none, none, none, none, none, none, none, none, none, some 0, some 0, some 0, some 0, some 0, some 0], 17),
  ([none, none, none, none, none, none, none, none, none, none], 10),
  ([none, none, none, none, none, none, none, none, none, none, some 0, some 0, some 0, some 0, some 0, some 0, some 0, some 0], 18),
  ([none, none, none, none, none, none, none, none, none, none, none, some 0, some 0, some 0, some 0, some 0], 16),
  ([none, none, some 0, some 0, some 0, some 0, some 0, some 0, some 0], 9),
  ([none, none, none, none, none, none, none, none, none, some 0, some 0], 11),
  ([none, none, none, none, some 0, some 0, some 0, some 0, none, none, some 0, none, none, none, none], 15),
  ([none, none, none, none, none, none, none, some 0, some 0, some 0, some 0], 11),
  ([none, none, none, none, none, none, none, none, none, none, none, none, none, none, none, none, some 0], 17),
  ([none, none, none, none, none, none, none, none, none, none, none, none, none, none, none, none, none, none, none, none, none, none, none, none, none, none, none, none, none, none, none, none, none, none, none, none, none, none, none, none, none, none, none, none, none, none, some 0, some 0, none, none, none, none, none, some 0, none, none, none, none, none, some 0, none, none, none, some 0, none, some 0, some 0, some 0, some 0, some 0, some 1, some 0, some 0, some 0, none, none, none, none, some 0, some 0, some 0, some 0, some 0, some 0, none, none, none, none, none, none, none, some 0, some 0, some 0, some 0, some 0, some 0], 97)]
def gdf : gDF := fun ci => gdfL.getD ci ([], 0)
theorem dfX0 (ad : Nat → Nat) (b : Nat) (hb : b < 8) : defaultValue (tyX0 b) = vp_V (gfl ad (fun _ => 0) 0 (gdf 0).1) b := by
  match b, hb with
  | 0, _ => rfl
  | 1, _ => rfl
  | 2, _ => rfl
  | 3, _ => rfl
  | 4, _ => rfl
  | 5, _ => rfl
  | 6, _ => rfl
  | 7, _ => rfl
  | b + 8, h => exact absurd h (by omega)
theorem dfX1 (ad : Nat → Nat) (b : Nat) (hb : b < 10) : defaultValue (tyX1 b) = vp_V (gfl ad (fun _ => 0) 0 (gdf 1).1) b := by
  match b, hb with
  | 0, _ => rfl
  | 1, _ => rfl
  | 2, _ => rfl
  | 3, _ => rfl
  | 4, _ => rfl
  | 5, _ => rfl
  | 6, _ => rfl
  | 7, _ => rfl
  | 8, _ => rfl
  | 9, _ => rfl
  | b + 10, h => exact absurd h (by omega)
theorem dfX2 (ad : Nat → Nat) (b : Nat) (hb : b < 16) : defaultValue (tyX2 b) = vp_V (gfl ad (fun _ => 0) 0 (gdf 2).1) b := by
  match b, hb with
  | 0, _ => rfl
  | 1, _ => rfl
  | 2, _ => rfl
  | 3, _ => rfl
  | 4, _ => rfl
  | 5, _ => rfl
  | 6, _ => rfl
  | 7, _ => rfl
  | 8, _ => rfl
  | 9, _ => rfl
  | 10, _ => rfl
  | 11, _ => rfl
  | 12, _ => rfl
  | 13, _ => rfl
  | 14, _ => rfl
  | 15, _ => rfl
  | b + 16, h => exact absurd h (by omega)
theorem dfX3 (ad : Nat → Nat) (b : Nat) (hb : b < 17) : defaultValue (tyX3 b) = vp_V (gfl ad (fun _ => 0) 0 (gdf 3).1) b := by
  match b, hb with
  | 0, _ => rfl
  | 1, _ => rfl
  | 2, _ => rfl
  | 3, _ => rfl
  | 4, _ => rfl
  | 5, _ => rfl
  | 6, _ => rfl
  | 7, _ => rfl
  | 8, _ => rfl
  | 9, _ => rfl
  | 10, _ => rfl
  | 11, _ => rfl
  | 12, _ => rfl
  | 13, _ => rfl
  | 14, _ => rfl
  | 15, _ => rfl
  | 16, _ => rfl
  | b + 17, h => exact absurd h (by omega)
theorem dfX4 (ad : Nat → Nat) (b : Nat) (hb : b < 10) : defaultValue (tyX4 b) = vp_V (gfl ad (fun _ => 0) 0 (gdf 4).1) b := by
  match b, hb with
  | 0, _ => rfl
  | 1, _ => rfl
  | 2, _ => rfl
  | 3, _ => rfl
  | 4, _ => rfl
  | 5, _ => rfl
  | 6, _ => rfl
  | 7, _ => rfl
  | 8, _ => rfl
  | 9, _ => rfl
  | b + 10, h => exact absurd h (by omega)
theorem dfX5 (ad : Nat → Nat) (b : Nat) (hb : b < 18) : defaultValue (tyX5 b) = vp_V (gfl ad (fun _ => 0) 0 (gdf 5).1) b := by
  match b, hb with
  | 0, _ => rfl
  | 1, _ => rfl
  | 2, _ => rfl
  | 3, _ => rfl
  | 4, _ => rfl
  | 5, _ => rfl
  | 6, _ => rfl
  | 7, _ => rfl
  | 8, _ => rfl
  | 9, _ => rfl
  | 10, _ => rfl
  | 11, _ => rfl
  | 12, _ => rfl
  | 13, _ => rfl
  | 14, _ => rfl
  | 15, _ => rfl
  | 16, _ => rfl
  | 17, _ => rfl
  | b + 18, h => exact absurd h (by omega)
theorem dfX6 (ad : Nat → Nat) (b : Nat) (hb : b < 16) : defaultValue (tyX6 b) = vp_V (gfl ad (fun _ => 0) 0 (gdf 6).1) b := by
  match b, hb with
  | 0, _ => rfl
  | 1, _ => rfl
  | 2, _ => rfl
  | 3, _ => rfl
  | 4, _ => rfl
  | 5, _ => rfl
  | 6, _ => rfl
  | 7, _ => rfl
  | 8, _ => rfl
  | 9, _ => rfl
  | 10, _ => rfl
  | 11, _ => rfl
  | 12, _ => rfl
  | 13, _ => rfl
  | 14, _ => rfl
  | 15, _ => rfl
  | b + 16, h => exact absurd h (by omega)
theorem dfX7 (ad : Nat → Nat) (b : Nat) (hb : b < 9) : defaultValue (tyX7 b) = vp_V (gfl ad (fun _ => 0) 0 (gdf 7).1) b := by
  match b, hb with
  | 0, _ => rfl
  | 1, _ => rfl
  | 2, _ => rfl
  | 3, _ => rfl
  | 4, _ => rfl
  | 5, _ => rfl
  | 6, _ => rfl
  | 7, _ => rfl
  | 8, _ => rfl
  | b + 9, h => exact absurd h (by omega)
theorem dfX8 (ad : Nat → Nat) (b : Nat) (hb : b < 11) : defaultValue (tyX8 b) = vp_V (gfl ad (fun _ => 0) 0 (gdf 8).1) b := by
  match b, hb with
  | 0, _ => rfl
  | 1, _ => rfl
  | 2, _ => rfl
  | 3, _ => rfl
  | 4, _ => rfl
  | 5, _ => rfl
  | 6, _ => rfl
  | 7, _ => rfl
  | 8, _ => rfl
  | 9, _ => rfl
  | 10, _ => rfl
  | b + 11, h => exact absurd h (by omega)
theorem dfX9 (ad : Nat → Nat) (b : Nat) (hb : b < 15) : defaultValue (tyX9 b) = vp_V (gfl ad (fun _ => 0) 0 (gdf 9).1) b := by
  match b, hb with
  | 0, _ => rfl
  | 1, _ => rfl
  | 2, _ => rfl
  | 3, _ => rfl
  | 4, _ => rfl
  | 5, _ => rfl
  | 6, _ => rfl
  | 7, _ => rfl
  | 8, _ => rfl
  | 9, _ => rfl
  | 10, _ => rfl
  | 11, _ => rfl
  | 12, _ => rfl
  | 13, _ => rfl
  | 14, _ => rfl
  | b + 15, h => exact absurd h (by omega)
theorem dfX10 (ad : Nat → Nat) (b : Nat) (hb : b < 11) : defaultValue (tyX10 b) = vp_V (gfl ad (fun _ => 0) 0 (gdf 10).1) b := by
  match b, hb with
  | 0, _ => rfl
  | 1, _ => rfl
  | 2, _ => rfl
  | 3, _ => rfl
  | 4, _ => rfl
  | 5, _ => rfl
  | 6, _ => rfl
  | 7, _ => rfl
  | 8, _ => rfl
  | 9, _ => rfl
  | 10, _ => rfl
  | b + 11, h => exact absurd h (by omega)
theorem dfX11 (ad : Nat → Nat) (b : Nat) (hb : b < 17) : defaultValue (tyX11 b) = vp_V (gfl ad (fun _ => 0) 0 (gdf 11).1) b := by
  match b, hb with
  | 0, _ => rfl
  | 1, _ => rfl
  | 2, _ => rfl
  | 3, _ => rfl
  | 4, _ => rfl
  | 5, _ => rfl
  | 6, _ => rfl
  | 7, _ => rfl
  | 8, _ => rfl
  | 9, _ => rfl
  | 10, _ => rfl
  | 11, _ => rfl
  | 12, _ => rfl
  | 13, _ => rfl
  | 14, _ => rfl
  | 15, _ => rfl
  | 16, _ => rfl
  | b + 17, h => exact absurd h (by omega)
theorem dfX12 (ad : Nat → Nat) (b : Nat) (hb : b < 97) : defaultValue (tyX12 b) = vp_V (gfl ad (fun _ => 0) 0 (gdf 12).1) b := by
  match b, hb with
  | 0, _ => rfl
  | 1, _ => rfl
  | 2, _ => rfl
  | 3, _ => rfl
  | 4, _ => rfl
  | 5, _ => rfl
  | 6, _ => rfl
  | 7, _ => rfl
  | 8, _ => rfl
  | 9, _ => rfl
  | 10, _ => rfl
  | 11, _ => rfl
  | 12, _ => rfl
  | 13, _ => rfl
  | 14, _ => rfl
  | 15, _ => rfl
  | 16, _ => rfl
  | 17, _ => rfl
  | 18, _ => rfl
  | 19, _ => rfl
  | 20, _ => rfl
  | 21, _ => rfl
  | 22, _ => rfl
  | 23, _ => rfl
  | 24, _ => rfl
  | 25, _ => rfl
  | 26, _ => rfl
  | 27, _ => rfl
  | 28, _ => rfl
  | 29, _ => rfl
  | 30, _ => rfl
  | 31, _ => rfl
  | 32, _ => rfl
  | 33, _ => rfl
  | 34, _ => rfl
  | 35, _ => rfl
  | 36, _ => rfl
  | 37, _ => rfl
  | 38, _ => rfl
  | 39, _ => rfl
  | 40, _ => rfl
  | 41, _ => rfl
  | 42, _ => rfl
  | 43, _ => rfl
  | 44, _ => rfl
  | 45, _ => rfl
  | 46, _ => rfl
  | 47, _ => rfl
  | 48, _ => rfl
  | 49, _ => rfl
  | 50, _ => rfl
  | 51, _ => rfl
  | 52, _ => rfl
  | 53, _ => rfl
  | 54, _ => rfl
  | 55, _ => rfl
  | 56, _ => rfl
  | 57, _ => rfl
  | 58, _ => rfl
  | 59, _ => rfl
  | 60, _ => rfl
  | 61, _ => rfl
  | 62, _ => rfl
  | 63, _ => rfl
  | 64, _ => rfl
  | 65, _ => rfl
  | 66, _ => rfl
  | 67, _ => rfl
  | 68, _ => rfl
  | 69, _ => rfl
  | 70, _ => rfl
  | 71, _ => rfl
  | 72, _ => rfl
  | 73, _ => rfl
  | 74, _ => rfl
  | 75, _ => rfl
  | 76, _ => rfl
  | 77, _ => rfl
  | 78, _ => rfl
  | 79, _ => rfl
  | 80, _ => rfl
  | 81, _ => rfl
  | 82, _ => rfl
  | 83, _ => rfl
  | 84, _ => rfl
  | 85, _ => rfl
  | 86, _ => rfl
  | 87, _ => rfl
  | 88, _ => rfl
  | 89, _ => rfl
  | 90, _ => rfl
  | 91, _ => rfl
  | 92, _ => rfl
  | 93, _ => rfl
  | 94, _ => rfl
  | 95, _ => rfl
  | 96, _ => rfl
  | b + 97, h => exact absurd h (by omega)
def gnfL : List (MethodName × ByteArray × Nat) := [(yI_0, cI_0, 1), (yI_1, cI_1, 1), (yI_2, cI_2, 1), (yI_3, cI_3, 1), (yI_4, cI_4, 1), (yI_5, cI_5, 4), (yI_6, cI_6, 5), (yI_7, cI_7, 2), (yI_8, cI_8, 6), (yI_9, cI_9, 5), (yI_10, cI_10, 5), (yI_11, cI_11, 1), (yI_12, cI_12, 1)]
def gnf (f : Nat) : MethodName × ByteArray × Nat := gnfL.getD f (yI_0, cI_0, 1)
theorem w_138 : Cond.instanceMethod objectInit ∈ bT := bT_c1 28 (by decide +kernel) rfl
theorem w_139 : Cond.code objectInit { data := #[177] } 1 none ∈ bT := bT_c1 29 (by decide +kernel) rfl
theorem w_145 : Cond.methodLink RX10 3 objectInit ∈ bT := bT_c1 35 (by decide +kernel) rfl
theorem w_146 : Cond.methodLink RX10 33 yJ7_fill_53178 ∈ bT := bT_c1 36 (by decide +kernel) rfl
theorem w_217 : Cond.methodLink RX8 3 objectInit ∈ bT := bT_c1 107 (by decide +kernel) rfl
theorem w_276 : Cond.methodLink RX2 3 objectInit ∈ bT := bT_c1 166 (by decide +kernel) rfl
theorem w_365 : Cond.methodLink RX0 3 objectInit ∈ bT := bT_c2 15 (by decide +kernel) rfl
theorem w_410 : Cond.methodLink RX1 3 objectInit ∈ bT := bT_c2 60 (by decide +kernel) rfl
theorem w_468 : Cond.methodLink RX5 3 objectInit ∈ bT := bT_c2 118 (by decide +kernel) rfl
theorem w_534 : Cond.methodLink RX6 3 objectInit ∈ bT := bT_c2 184 (by decide +kernel) rfl
theorem w_589 : Cond.methodLink RX7 3 objectInit ∈ bT := bT_c2 239 (by decide +kernel) rfl
theorem w_625 : Cond.methodLink RX4 3 objectInit ∈ bT := bT_c3 35 (by decide +kernel) rfl
theorem w_663 : Cond.methodLink RX9 3 objectInit ∈ bT := bT_c3 73 (by decide +kernel) rfl
theorem w_719 : Cond.methodLink RX3 3 objectInit ∈ bT := bT_c3 129 (by decide +kernel) rfl
theorem w_720 : Cond.methodLink RX3 49 yJ7_fill_53178 ∈ bT := bT_c3 130 (by decide +kernel) rfl
theorem w_140 : Cond.classLink RX11 7 RX10 ∈ bT := bT_c1 30 (by decide +kernel) rfl
theorem w_141 : Cond.instantiable RX10 11 ∈ bT := bT_c1 31 (by decide +kernel) rfl
theorem w_212 : Cond.classLink RX11 19 RX8 ∈ bT := bT_c1 102 (by decide +kernel) rfl
theorem w_213 : Cond.instantiable RX8 11 ∈ bT := bT_c1 103 (by decide +kernel) rfl
theorem w_271 : Cond.classLink RX11 29 RX2 ∈ bT := bT_c1 161 (by decide +kernel) rfl
theorem w_272 : Cond.instantiable RX2 16 ∈ bT := bT_c1 162 (by decide +kernel) rfl
theorem w_360 : Cond.classLink RX11 39 RX0 ∈ bT := bT_c2 10 (by decide +kernel) rfl
theorem w_361 : Cond.instantiable RX0 8 ∈ bT := bT_c2 11 (by decide +kernel) rfl
theorem w_405 : Cond.classLink RX11 49 RX1 ∈ bT := bT_c2 55 (by decide +kernel) rfl
theorem w_406 : Cond.instantiable RX1 10 ∈ bT := bT_c2 56 (by decide +kernel) rfl
theorem w_463 : Cond.classLink RX11 59 RX5 ∈ bT := bT_c2 113 (by decide +kernel) rfl
theorem w_464 : Cond.instantiable RX5 18 ∈ bT := bT_c2 114 (by decide +kernel) rfl
theorem w_529 : Cond.classLink RX11 68 RX6 ∈ bT := bT_c2 179 (by decide +kernel) rfl
theorem w_530 : Cond.instantiable RX6 16 ∈ bT := bT_c2 180 (by decide +kernel) rfl
theorem w_584 : Cond.classLink RX11 77 RX7 ∈ bT := bT_c2 234 (by decide +kernel) rfl
theorem w_585 : Cond.instantiable RX7 9 ∈ bT := bT_c2 235 (by decide +kernel) rfl
theorem w_620 : Cond.classLink RX11 86 RX4 ∈ bT := bT_c3 30 (by decide +kernel) rfl
theorem w_621 : Cond.instantiable RX4 10 ∈ bT := bT_c3 31 (by decide +kernel) rfl
theorem w_658 : Cond.classLink RX11 95 RX9 ∈ bT := bT_c3 68 (by decide +kernel) rfl
theorem w_659 : Cond.instantiable RX9 15 ∈ bT := bT_c3 69 (by decide +kernel) rfl
theorem w_714 : Cond.classLink RX11 104 RX3 ∈ bT := bT_c3 124 (by decide +kernel) rfl
theorem w_715 : Cond.instantiable RX3 17 ∈ bT := bT_c3 125 (by decide +kernel) rfl
theorem w_144 : Cond.code yI_0 cI_0 1 none ∈ bT := bT_c1 34 (by decide +kernel) rfl
theorem w_142 : Cond.methodLink RX11 9 yI_0 ∈ bT := bT_c1 32 (by decide +kernel) rfl
theorem w_143 : Cond.instanceMethod yI_0 ∈ bT := bT_c1 33 (by decide +kernel) rfl
theorem w_216 : Cond.code yI_1 cI_1 1 none ∈ bT := bT_c1 106 (by decide +kernel) rfl
theorem w_215 : Cond.instanceMethod yI_1 ∈ bT := bT_c1 105 (by decide +kernel) rfl
theorem w_275 : Cond.code yI_2 cI_2 1 none ∈ bT := bT_c1 165 (by decide +kernel) rfl
theorem w_274 : Cond.instanceMethod yI_2 ∈ bT := bT_c1 164 (by decide +kernel) rfl
theorem w_364 : Cond.code yI_3 cI_3 1 none ∈ bT := bT_c2 14 (by decide +kernel) rfl
theorem w_363 : Cond.instanceMethod yI_3 ∈ bT := bT_c2 13 (by decide +kernel) rfl
theorem w_409 : Cond.code yI_4 cI_4 1 none ∈ bT := bT_c2 59 (by decide +kernel) rfl
theorem w_408 : Cond.instanceMethod yI_4 ∈ bT := bT_c2 58 (by decide +kernel) rfl
theorem w_467 : Cond.code yI_5 cI_5 4 none ∈ bT := bT_c2 117 (by decide +kernel) rfl
theorem w_465 : Cond.methodLink RX11 61 yI_5 ∈ bT := bT_c2 115 (by decide +kernel) rfl
theorem w_466 : Cond.instanceMethod yI_5 ∈ bT := bT_c2 116 (by decide +kernel) rfl
theorem w_533 : Cond.code yI_6 cI_6 5 none ∈ bT := bT_c2 183 (by decide +kernel) rfl
theorem w_531 : Cond.methodLink RX11 70 yI_6 ∈ bT := bT_c2 181 (by decide +kernel) rfl
theorem w_532 : Cond.instanceMethod yI_6 ∈ bT := bT_c2 182 (by decide +kernel) rfl
theorem w_588 : Cond.code yI_7 cI_7 2 none ∈ bT := bT_c2 238 (by decide +kernel) rfl
theorem w_586 : Cond.methodLink RX11 79 yI_7 ∈ bT := bT_c2 236 (by decide +kernel) rfl
theorem w_587 : Cond.instanceMethod yI_7 ∈ bT := bT_c2 237 (by decide +kernel) rfl
theorem w_624 : Cond.code yI_8 cI_8 6 none ∈ bT := bT_c3 34 (by decide +kernel) rfl
theorem w_622 : Cond.methodLink RX11 88 yI_8 ∈ bT := bT_c3 32 (by decide +kernel) rfl
theorem w_623 : Cond.instanceMethod yI_8 ∈ bT := bT_c3 33 (by decide +kernel) rfl
theorem w_662 : Cond.code yI_9 cI_9 5 none ∈ bT := bT_c3 72 (by decide +kernel) rfl
theorem w_660 : Cond.methodLink RX11 97 yI_9 ∈ bT := bT_c3 70 (by decide +kernel) rfl
theorem w_661 : Cond.instanceMethod yI_9 ∈ bT := bT_c3 71 (by decide +kernel) rfl
theorem w_718 : Cond.code yI_10 cI_10 5 none ∈ bT := bT_c3 128 (by decide +kernel) rfl
theorem w_716 : Cond.methodLink RX11 106 yI_10 ∈ bT := bT_c3 126 (by decide +kernel) rfl
theorem w_717 : Cond.instanceMethod yI_10 ∈ bT := bT_c3 127 (by decide +kernel) rfl
theorem w_137 : Cond.methodLink RX11 1 objectInit ∈ bT := bT_c1 27 (by decide +kernel) rfl
theorem w_1667 : Cond.methodLink RX12 1 objectInit ∈ bT := bT_c7 117 (by decide +kernel) rfl
theorem w_211 : Cond.arrayClass .int ∈ bT := bT_c1 101 (by decide +kernel) rfl
theorem w_270 : Cond.arrayClass .boolean ∈ bT := bT_c1 160 (by decide +kernel) rfl
theorem w_619 : Cond.arrayClass .byte ∈ bT := bT_c3 29 (by decide +kernel) rfl
theorem w_1960 : Cond.arrayClass .long ∈ bT := bT_c8 170 (by decide +kernel) rfl
theorem gf_0_9 : gFw RX10 9 10 0 true := ⟨_, _, ci10, (by decide), w_149, Or.inr ⟨rfl, rfl⟩, (show gRT _ from fun _ => ⟨rfl, rfl⟩)⟩
theorem gf_0_15 : gFw RX10 15 10 1 true := ⟨_, _, ci10, (by decide), w_152, Or.inr ⟨rfl, rfl⟩, (show gRT _ from fun _ => ⟨rfl, rfl⟩)⟩
theorem gf_0_18 : gFw RX10 18 10 2 true := ⟨_, _, ci10, (by decide), w_155, Or.inr ⟨rfl, rfl⟩, (show gRT _ from fun _ => ⟨rfl, rfl⟩)⟩
theorem gf_0_21 : gFw RX10 21 10 3 true := ⟨_, _, ci10, (by decide), w_158, Or.inr ⟨rfl, rfl⟩, (show gRT _ from fun _ => ⟨rfl, rfl⟩)⟩
theorem gf_0_24 : gFw RX10 24 10 4 true := ⟨_, _, ci10, (by decide), w_161, Or.inr ⟨rfl, rfl⟩, (show gRT _ from fun _ => ⟨rfl, rfl⟩)⟩
theorem gf_0_27 : gFw RX10 27 10 5 true := ⟨_, _, ci10, (by decide), w_168, Or.inr ⟨rfl, rfl⟩, (show gRT _ from fun _ => ⟨rfl, rfl⟩)⟩
theorem gf_0_30 : gFw RX10 30 10 6 true := ⟨_, _, ci10, (by decide), w_171, Or.inr ⟨rfl, rfl⟩, (show gRT _ from fun _ => ⟨rfl, rfl⟩)⟩
theorem gi_0_33 : gFi RX10 33 := ⟨w_148, w_113, w_146, w_147⟩
theorem gf_1_9 : gFw RX8 9 8 0 true := ⟨_, _, ci8, (by decide), w_218, Or.inr ⟨rfl, rfl⟩, (show gRT _ from fun _ => ⟨rfl, rfl⟩)⟩
theorem gf_1_15 : gFw RX8 15 8 1 true := ⟨_, _, ci8, (by decide), w_222, Or.inr ⟨rfl, rfl⟩, (show gRT _ from fun _ => ⟨rfl, rfl⟩)⟩
theorem gf_1_18 : gFw RX8 18 8 2 true := ⟨_, _, ci8, (by decide), w_226, Or.inr ⟨rfl, rfl⟩, (show gRT _ from fun _ => ⟨rfl, rfl⟩)⟩
theorem gf_1_21 : gFw RX8 21 8 3 true := ⟨_, _, ci8, (by decide), w_228, Or.inr ⟨rfl, rfl⟩, (show gRT _ from fun _ => ⟨rfl, rfl⟩)⟩
theorem gf_1_24 : gFw RX8 24 8 4 true := ⟨_, _, ci8, (by decide), w_230, Or.inr ⟨rfl, rfl⟩, (show gRT _ from fun _ => ⟨rfl, rfl⟩)⟩
theorem gf_1_27 : gFw RX8 27 8 5 true := ⟨_, _, ci8, (by decide), w_232, Or.inr ⟨rfl, rfl⟩, (show gRT _ from fun _ => ⟨rfl, rfl⟩)⟩
theorem gf_1_30 : gFw RX8 30 8 6 true := ⟨_, _, ci8, (by decide), w_235, Or.inr ⟨rfl, rfl⟩, (show gRT _ from fun _ => ⟨rfl, rfl⟩)⟩
theorem gf_1_34 : gFw RX8 34 8 7 true := ⟨_, _, ci8, (by decide), w_237, Or.inr ⟨rfl, rfl⟩, (show gRT _ from fun _ => ⟨rfl, rfl⟩)⟩
theorem gf_1_37 : gFw RX8 37 8 8 true := ⟨_, _, ci8, (by decide), w_239, Or.inr ⟨rfl, rfl⟩, (show gRT _ from fun _ => ⟨rfl, rfl⟩)⟩
theorem gf_2_9 : gFw RX2 9 2 0 true := ⟨_, _, ci2, (by decide), w_277, Or.inr ⟨rfl, rfl⟩, (show gRT _ from fun _ => ⟨rfl, rfl⟩)⟩
theorem gf_2_15 : gFw RX2 15 2 1 true := ⟨_, _, ci2, (by decide), w_280, Or.inr ⟨rfl, rfl⟩, (show gRT _ from fun _ => ⟨rfl, rfl⟩)⟩
theorem gf_2_18 : gFw RX2 18 2 2 true := ⟨_, _, ci2, (by decide), w_282, Or.inr ⟨rfl, rfl⟩, (show gRT _ from fun _ => ⟨rfl, rfl⟩)⟩
theorem gf_2_21 : gFw RX2 21 2 3 true := ⟨_, _, ci2, (by decide), w_285, Or.inr ⟨rfl, rfl⟩, (show gRT _ from fun _ => ⟨rfl, rfl⟩)⟩
theorem gf_2_25 : gFw RX2 25 2 4 true := ⟨_, _, ci2, (by decide), w_287, Or.inr ⟨rfl, rfl⟩, (show gRT _ from fun _ => ⟨rfl, rfl⟩)⟩
theorem gf_2_28 : gFw RX2 28 2 5 true := ⟨_, _, ci2, (by decide), w_289, Or.inr ⟨rfl, rfl⟩, (show gRT _ from fun _ => ⟨rfl, rfl⟩)⟩
theorem gf_2_31 : gFw RX2 31 2 6 true := ⟨_, _, ci2, (by decide), w_291, Or.inr ⟨rfl, rfl⟩, (show gRT _ from fun _ => ⟨rfl, rfl⟩)⟩
theorem gf_2_34 : gFw RX2 34 2 7 true := ⟨_, _, ci2, (by decide), w_298, Or.inr ⟨rfl, rfl⟩, (show gRT _ from fun _ => ⟨rfl, rfl⟩)⟩
theorem gf_2_37 : gFw RX2 37 2 8 true := ⟨_, _, ci2, (by decide), w_302, Or.inr ⟨rfl, rfl⟩, (show gRT _ from fun _ => ⟨rfl, rfl⟩)⟩
theorem gf_2_40 : gFw RX2 40 2 9 true := ⟨_, _, ci2, (by decide), w_305, Or.inr ⟨rfl, rfl⟩, (show gRT _ from fun _ => ⟨rfl, rfl⟩)⟩
theorem gf_2_43 : gFw RX2 43 2 10 true := ⟨_, _, ci2, (by decide), w_309, Or.inr ⟨rfl, rfl⟩, (show gRT _ from fun _ => ⟨rfl, rfl⟩)⟩
theorem gf_2_46 : gFw RX2 46 2 11 true := ⟨_, _, ci2, (by decide), w_312, Or.inr ⟨rfl, rfl⟩, (show gRT _ from fun _ => ⟨rfl, rfl⟩)⟩
theorem gf_3_9 : gFw RX0 9 0 0 true := ⟨_, _, ci0, (by decide), w_366, Or.inr ⟨rfl, rfl⟩, (show gRT _ from fun _ => ⟨rfl, rfl⟩)⟩
theorem gf_3_15 : gFw RX0 15 0 1 true := ⟨_, _, ci0, (by decide), w_368, Or.inr ⟨rfl, rfl⟩, (show gRT _ from fun _ => ⟨rfl, rfl⟩)⟩
theorem gf_3_18 : gFw RX0 18 0 2 true := ⟨_, _, ci0, (by decide), w_370, Or.inr ⟨rfl, rfl⟩, (show gRT _ from fun _ => ⟨rfl, rfl⟩)⟩
theorem gf_3_21 : gFw RX0 21 0 3 true := ⟨_, _, ci0, (by decide), w_373, Or.inr ⟨rfl, rfl⟩, (show gRT _ from fun _ => ⟨rfl, rfl⟩)⟩
theorem gf_3_24 : gFw RX0 24 0 4 true := ⟨_, _, ci0, (by decide), w_376, Or.inr ⟨rfl, rfl⟩, (show gRT _ from fun _ => ⟨rfl, rfl⟩)⟩
theorem gf_3_27 : gFw RX0 27 0 5 true := ⟨_, _, ci0, (by decide), w_379, Or.inr ⟨rfl, rfl⟩, (show gRT _ from fun _ => ⟨rfl, rfl⟩)⟩
theorem gf_3_30 : gFw RX0 30 0 6 true := ⟨_, _, ci0, (by decide), w_382, Or.inr ⟨rfl, rfl⟩, (show gRT _ from fun _ => ⟨rfl, rfl⟩)⟩
theorem gf_4_9 : gFw RX1 9 1 0 true := ⟨_, _, ci1, (by decide), w_411, Or.inr ⟨rfl, rfl⟩, (show gRT _ from fun _ => ⟨rfl, rfl⟩)⟩
theorem gf_4_15 : gFw RX1 15 1 1 true := ⟨_, _, ci1, (by decide), w_414, Or.inr ⟨rfl, rfl⟩, (show gRT _ from fun _ => ⟨rfl, rfl⟩)⟩
theorem gf_4_18 : gFw RX1 18 1 2 true := ⟨_, _, ci1, (by decide), w_419, Or.inr ⟨rfl, rfl⟩, (show gRT _ from fun _ => ⟨rfl, rfl⟩)⟩
theorem gf_4_21 : gFw RX1 21 1 3 true := ⟨_, _, ci1, (by decide), w_422, Or.inr ⟨rfl, rfl⟩, (show gRT _ from fun _ => ⟨rfl, rfl⟩)⟩
theorem gf_4_24 : gFw RX1 24 1 4 true := ⟨_, _, ci1, (by decide), w_426, Or.inr ⟨rfl, rfl⟩, (show gRT _ from fun _ => ⟨rfl, rfl⟩)⟩
theorem gf_4_27 : gFw RX1 27 1 5 true := ⟨_, _, ci1, (by decide), w_427, Or.inr ⟨rfl, rfl⟩, (show gRT _ from fun _ => ⟨rfl, rfl⟩)⟩
theorem gf_5_9 : gFw RX5 9 5 3 true := ⟨_, _, ci5, (by decide), w_472, Or.inr ⟨rfl, rfl⟩, (show gRT _ from fun _ => ⟨rfl, rfl⟩)⟩
theorem gf_5_15 : gFw RX5 15 5 4 true := ⟨_, _, ci5, (by decide), w_473, Or.inr ⟨rfl, rfl⟩, (show gRT _ from fun _ => ⟨rfl, rfl⟩)⟩
theorem gf_5_18 : gFw RX5 18 5 5 true := ⟨_, _, ci5, (by decide), w_474, Or.inr ⟨rfl, rfl⟩, (show gRT _ from fun _ => ⟨rfl, rfl⟩)⟩
theorem gf_5_21 : gFw RX5 21 5 6 true := ⟨_, _, ci5, (by decide), w_476, Or.inr ⟨rfl, rfl⟩, (show gRT _ from fun _ => ⟨rfl, rfl⟩)⟩
theorem gf_5_24 : gFw RX5 24 5 7 true := ⟨_, _, ci5, (by decide), w_478, Or.inr ⟨rfl, rfl⟩, (show gRT _ from fun _ => ⟨rfl, rfl⟩)⟩
theorem gf_5_27 : gFw RX5 27 5 8 true := ⟨_, _, ci5, (by decide), w_480, Or.inr ⟨rfl, rfl⟩, (show gRT _ from fun _ => ⟨rfl, rfl⟩)⟩
theorem gf_5_30 : gFw RX5 30 5 9 true := ⟨_, _, ci5, (by decide), w_482, Or.inr ⟨rfl, rfl⟩, (show gRT _ from fun _ => ⟨rfl, rfl⟩)⟩
theorem gf_5_33 : gFw RX5 33 5 0 true := ⟨_, _, ci5, (by decide), w_469, Or.inr ⟨rfl, rfl⟩, (show gRT _ from fun _ => ⟨rfl, rfl⟩)⟩
theorem gf_5_37 : gFw RX5 37 5 1 true := ⟨_, _, ci5, (by decide), w_470, Or.inr ⟨rfl, rfl⟩, (show gRT _ from fun _ => ⟨rfl, rfl⟩)⟩
theorem gf_5_41 : gFw RX5 41 5 2 true := ⟨_, _, ci5, (by decide), w_471, Or.inr ⟨rfl, rfl⟩, (show gRT _ from fun _ => ⟨rfl, rfl⟩)⟩
theorem gf_6_9 : gFw RX6 9 6 4 true := ⟨_, _, ci6, (by decide), w_539, Or.inr ⟨rfl, rfl⟩, (show gRT _ from fun _ => ⟨rfl, rfl⟩)⟩
theorem gf_6_15 : gFw RX6 15 6 5 true := ⟨_, _, ci6, (by decide), w_540, Or.inr ⟨rfl, rfl⟩, (show gRT _ from fun _ => ⟨rfl, rfl⟩)⟩
theorem gf_6_18 : gFw RX6 18 6 6 true := ⟨_, _, ci6, (by decide), w_541, Or.inr ⟨rfl, rfl⟩, (show gRT _ from fun _ => ⟨rfl, rfl⟩)⟩
theorem gf_6_21 : gFw RX6 21 6 7 true := ⟨_, _, ci6, (by decide), w_542, Or.inr ⟨rfl, rfl⟩, (show gRT _ from fun _ => ⟨rfl, rfl⟩)⟩
theorem gf_6_24 : gFw RX6 24 6 8 true := ⟨_, _, ci6, (by decide), w_543, Or.inr ⟨rfl, rfl⟩, (show gRT _ from fun _ => ⟨rfl, rfl⟩)⟩
theorem gf_6_27 : gFw RX6 27 6 9 true := ⟨_, _, ci6, (by decide), w_544, Or.inr ⟨rfl, rfl⟩, (show gRT _ from fun _ => ⟨rfl, rfl⟩)⟩
theorem gf_6_31 : gFw RX6 31 6 10 true := ⟨_, _, ci6, (by decide), w_545, Or.inr ⟨rfl, rfl⟩, (show gRT _ from fun _ => ⟨rfl, rfl⟩)⟩
theorem gf_6_34 : gFw RX6 34 6 13 false := ⟨_, _, ci6, (by decide), w_548, Or.inl rfl, (show _ = _ from rfl)⟩
theorem gf_6_38 : gFw RX6 38 6 0 true := ⟨_, _, ci6, (by decide), w_535, Or.inr ⟨rfl, rfl⟩, (show gRT _ from fun _ => ⟨rfl, rfl⟩)⟩
theorem gf_6_42 : gFw RX6 42 6 1 true := ⟨_, _, ci6, (by decide), w_536, Or.inr ⟨rfl, rfl⟩, (show gRT _ from fun _ => ⟨rfl, rfl⟩)⟩
theorem gf_6_46 : gFw RX6 46 6 2 true := ⟨_, _, ci6, (by decide), w_537, Or.inr ⟨rfl, rfl⟩, (show gRT _ from fun _ => ⟨rfl, rfl⟩)⟩
theorem gf_6_50 : gFw RX6 50 6 3 true := ⟨_, _, ci6, (by decide), w_538, Or.inr ⟨rfl, rfl⟩, (show gRT _ from fun _ => ⟨rfl, rfl⟩)⟩
theorem gf_7_9 : gFw RX7 9 7 1 true := ⟨_, _, ci7, (by decide), w_591, Or.inr ⟨rfl, rfl⟩, (show gRT _ from fun _ => ⟨rfl, rfl⟩)⟩
theorem gf_7_15 : gFw RX7 15 7 0 true := ⟨_, _, ci7, (by decide), w_590, Or.inr ⟨rfl, rfl⟩, (show gRT _ from fun _ => ⟨rfl, rfl⟩)⟩
theorem gf_8_11 : gFw RX4 11 4 5 true := ⟨_, _, ci4, (by decide), w_631, Or.inr ⟨rfl, rfl⟩, (show gRT _ from fun _ => ⟨rfl, rfl⟩)⟩
theorem gf_8_15 : gFw RX4 15 4 6 true := ⟨_, _, ci4, (by decide), w_632, Or.inr ⟨rfl, rfl⟩, (show gRT _ from fun _ => ⟨rfl, rfl⟩)⟩
theorem gf_8_18 : gFw RX4 18 4 7 true := ⟨_, _, ci4, (by decide), w_633, Or.inr ⟨rfl, rfl⟩, (show gRT _ from fun _ => ⟨rfl, rfl⟩)⟩
theorem gf_8_21 : gFw RX4 21 4 8 true := ⟨_, _, ci4, (by decide), w_634, Or.inr ⟨rfl, rfl⟩, (show gRT _ from fun _ => ⟨rfl, rfl⟩)⟩
theorem gf_8_24 : gFw RX4 24 4 9 true := ⟨_, _, ci4, (by decide), w_635, Or.inr ⟨rfl, rfl⟩, (show gRT _ from fun _ => ⟨rfl, rfl⟩)⟩
theorem gf_8_27 : gFw RX4 27 4 0 true := ⟨_, _, ci4, (by decide), w_626, Or.inr ⟨rfl, rfl⟩, (show gRT _ from fun _ => ⟨rfl, rfl⟩)⟩
theorem gf_8_31 : gFw RX4 31 4 1 true := ⟨_, _, ci4, (by decide), w_627, Or.inr ⟨rfl, rfl⟩, (show gRT _ from fun _ => ⟨rfl, rfl⟩)⟩
theorem gf_8_35 : gFw RX4 35 4 2 true := ⟨_, _, ci4, (by decide), w_628, Or.inr ⟨rfl, rfl⟩, (show gRT _ from fun _ => ⟨rfl, rfl⟩)⟩
theorem gf_8_39 : gFw RX4 39 4 3 true := ⟨_, _, ci4, (by decide), w_629, Or.inr ⟨rfl, rfl⟩, (show gRT _ from fun _ => ⟨rfl, rfl⟩)⟩
theorem gf_8_43 : gFw RX4 43 4 4 true := ⟨_, _, ci4, (by decide), w_630, Or.inr ⟨rfl, rfl⟩, (show gRT _ from fun _ => ⟨rfl, rfl⟩)⟩
theorem gf_9_9 : gFw RX9 9 9 8 true := ⟨_, _, ci9, (by decide), w_674, Or.inr ⟨rfl, rfl⟩, (show gRT _ from fun _ => ⟨rfl, rfl⟩)⟩
theorem gf_9_15 : gFw RX9 15 9 9 true := ⟨_, _, ci9, (by decide), w_676, Or.inr ⟨rfl, rfl⟩, (show gRT _ from fun _ => ⟨rfl, rfl⟩)⟩
theorem gf_9_18 : gFw RX9 18 9 11 true := ⟨_, _, ci9, (by decide), w_679, Or.inr ⟨rfl, rfl⟩, (show gRT _ from fun _ => ⟨rfl, rfl⟩)⟩
theorem gf_9_21 : gFw RX9 21 9 12 true := ⟨_, _, ci9, (by decide), w_680, Or.inr ⟨rfl, rfl⟩, (show gRT _ from fun _ => ⟨rfl, rfl⟩)⟩
theorem gf_9_24 : gFw RX9 24 9 13 true := ⟨_, _, ci9, (by decide), w_681, Or.inr ⟨rfl, rfl⟩, (show gRT _ from fun _ => ⟨rfl, rfl⟩)⟩
theorem gf_9_27 : gFw RX9 27 9 14 true := ⟨_, _, ci9, (by decide), w_682, Or.inr ⟨rfl, rfl⟩, (show gRT _ from fun _ => ⟨rfl, rfl⟩)⟩
theorem gf_9_30 : gFw RX9 30 9 0 true := ⟨_, _, ci9, (by decide), w_664, Or.inr ⟨rfl, rfl⟩, (show gRT _ from fun _ => ⟨rfl, rfl⟩)⟩
theorem gf_9_34 : gFw RX9 34 9 1 true := ⟨_, _, ci9, (by decide), w_665, Or.inr ⟨rfl, rfl⟩, (show gRT _ from fun _ => ⟨rfl, rfl⟩)⟩
theorem gf_9_38 : gFw RX9 38 9 2 true := ⟨_, _, ci9, (by decide), w_666, Or.inr ⟨rfl, rfl⟩, (show gRT _ from fun _ => ⟨rfl, rfl⟩)⟩
theorem gf_9_42 : gFw RX9 42 9 3 true := ⟨_, _, ci9, (by decide), w_667, Or.inr ⟨rfl, rfl⟩, (show gRT _ from fun _ => ⟨rfl, rfl⟩)⟩
theorem gf_10_9 : gFw RX3 9 3 4 true := ⟨_, _, ci3, (by decide), w_725, Or.inr ⟨rfl, rfl⟩, (show gRT _ from fun _ => ⟨rfl, rfl⟩)⟩
theorem gf_10_15 : gFw RX3 15 3 5 true := ⟨_, _, ci3, (by decide), w_727, Or.inr ⟨rfl, rfl⟩, (show gRT _ from fun _ => ⟨rfl, rfl⟩)⟩
theorem gf_10_18 : gFw RX3 18 3 6 true := ⟨_, _, ci3, (by decide), w_729, Or.inr ⟨rfl, rfl⟩, (show gRT _ from fun _ => ⟨rfl, rfl⟩)⟩
theorem gf_10_21 : gFw RX3 21 3 7 true := ⟨_, _, ci3, (by decide), w_731, Or.inr ⟨rfl, rfl⟩, (show gRT _ from fun _ => ⟨rfl, rfl⟩)⟩
theorem gf_10_24 : gFw RX3 24 3 8 true := ⟨_, _, ci3, (by decide), w_732, Or.inr ⟨rfl, rfl⟩, (show gRT _ from fun _ => ⟨rfl, rfl⟩)⟩
theorem gf_10_27 : gFw RX3 27 3 9 true := ⟨_, _, ci3, (by decide), w_733, Or.inr ⟨rfl, rfl⟩, (show gRT _ from fun _ => ⟨rfl, rfl⟩)⟩
theorem gf_10_30 : gFw RX3 30 3 10 true := ⟨_, _, ci3, (by decide), w_734, Or.inr ⟨rfl, rfl⟩, (show gRT _ from fun _ => ⟨rfl, rfl⟩)⟩
theorem gf_10_33 : gFw RX3 33 3 0 true := ⟨_, _, ci3, (by decide), w_721, Or.inr ⟨rfl, rfl⟩, (show gRT _ from fun _ => ⟨rfl, rfl⟩)⟩
theorem gf_10_37 : gFw RX3 37 3 1 true := ⟨_, _, ci3, (by decide), w_722, Or.inr ⟨rfl, rfl⟩, (show gRT _ from fun _ => ⟨rfl, rfl⟩)⟩
theorem gf_10_41 : gFw RX3 41 3 2 true := ⟨_, _, ci3, (by decide), w_723, Or.inr ⟨rfl, rfl⟩, (show gRT _ from fun _ => ⟨rfl, rfl⟩)⟩
theorem gf_10_45 : gFw RX3 45 3 3 true := ⟨_, _, ci3, (by decide), w_724, Or.inr ⟨rfl, rfl⟩, (show gRT _ from fun _ => ⟨rfl, rfl⟩)⟩
theorem gi_10_49 : gFi RX3 49 := ⟨w_148, w_113, w_720, w_147⟩
theorem gf_11_10 : gFw RX11 10 11 0 true := ⟨_, _, ci11, (by decide), w_778, Or.inr ⟨rfl, rfl⟩, (show gRT _ from fun _ => ⟨rfl, rfl⟩)⟩
theorem gf_11_16 : gFw RX11 16 11 1 true := ⟨_, _, ci11, (by decide), w_779, Or.inr ⟨rfl, rfl⟩, (show gRT _ from fun _ => ⟨rfl, rfl⟩)⟩
theorem gf_11_22 : gFw RX11 22 11 2 true := ⟨_, _, ci11, (by decide), w_780, Or.inr ⟨rfl, rfl⟩, (show gRT _ from fun _ => ⟨rfl, rfl⟩)⟩
theorem gf_11_26 : gFw RX11 26 11 3 true := ⟨_, _, ci11, (by decide), w_781, Or.inr ⟨rfl, rfl⟩, (show gRT _ from fun _ => ⟨rfl, rfl⟩)⟩
theorem gf_11_32 : gFw RX11 32 11 4 true := ⟨_, _, ci11, (by decide), w_782, Or.inr ⟨rfl, rfl⟩, (show gRT _ from fun _ => ⟨rfl, rfl⟩)⟩
theorem gf_11_36 : gFw RX11 36 11 5 true := ⟨_, _, ci11, (by decide), w_783, Or.inr ⟨rfl, rfl⟩, (show gRT _ from fun _ => ⟨rfl, rfl⟩)⟩
theorem gf_11_42 : gFw RX11 42 11 6 true := ⟨_, _, ci11, (by decide), w_784, Or.inr ⟨rfl, rfl⟩, (show gRT _ from fun _ => ⟨rfl, rfl⟩)⟩
theorem gf_11_46 : gFw RX11 46 11 7 true := ⟨_, _, ci11, (by decide), w_785, Or.inr ⟨rfl, rfl⟩, (show gRT _ from fun _ => ⟨rfl, rfl⟩)⟩
theorem gf_11_52 : gFw RX11 52 11 8 true := ⟨_, _, ci11, (by decide), w_786, Or.inr ⟨rfl, rfl⟩, (show gRT _ from fun _ => ⟨rfl, rfl⟩)⟩
theorem gf_11_56 : gFw RX11 56 11 9 true := ⟨_, _, ci11, (by decide), w_787, Or.inr ⟨rfl, rfl⟩, (show gRT _ from fun _ => ⟨rfl, rfl⟩)⟩
theorem gf_11_64 : gFw RX11 64 11 10 true := ⟨_, _, ci11, (by decide), w_788, Or.inr ⟨rfl, rfl⟩, (show gRT _ from fun _ => ⟨rfl, rfl⟩)⟩
theorem gf_11_73 : gFw RX11 73 11 11 true := ⟨_, _, ci11, (by decide), w_789, Or.inr ⟨rfl, rfl⟩, (show gRT _ from fun _ => ⟨rfl, rfl⟩)⟩
theorem gf_11_82 : gFw RX11 82 11 12 true := ⟨_, _, ci11, (by decide), w_790, Or.inr ⟨rfl, rfl⟩, (show gRT _ from fun _ => ⟨rfl, rfl⟩)⟩
theorem gf_11_91 : gFw RX11 91 11 13 true := ⟨_, _, ci11, (by decide), w_791, Or.inr ⟨rfl, rfl⟩, (show gRT _ from fun _ => ⟨rfl, rfl⟩)⟩
theorem gf_11_100 : gFw RX11 100 11 14 true := ⟨_, _, ci11, (by decide), w_792, Or.inr ⟨rfl, rfl⟩, (show gRT _ from fun _ => ⟨rfl, rfl⟩)⟩
theorem gf_11_109 : gFw RX11 109 11 15 true := ⟨_, _, ci11, (by decide), w_793, Or.inr ⟨rfl, rfl⟩, (show gRT _ from fun _ => ⟨rfl, rfl⟩)⟩
theorem gn_11_7 : gNw gdf RX11 7 10 := ⟨_, _, ci10, w_140, w_141, w_112, dfX10, rfl⟩
theorem gn_11_19 : gNw gdf RX11 19 8 := ⟨_, _, ci8, w_212, w_213, w_114, dfX8, rfl⟩
theorem gn_11_29 : gNw gdf RX11 29 2 := ⟨_, _, ci2, w_271, w_272, w_115, dfX2, rfl⟩
theorem gn_11_39 : gNw gdf RX11 39 0 := ⟨_, _, ci0, w_360, w_361, w_116, dfX0, rfl⟩
theorem gn_11_49 : gNw gdf RX11 49 1 := ⟨_, _, ci1, w_405, w_406, w_117, dfX1, rfl⟩
theorem gn_11_59 : gNw gdf RX11 59 5 := ⟨_, _, ci5, w_463, w_464, w_118, dfX5, rfl⟩
theorem gn_11_68 : gNw gdf RX11 68 6 := ⟨_, _, ci6, w_529, w_530, w_119, dfX6, rfl⟩
theorem gn_11_77 : gNw gdf RX11 77 7 := ⟨_, _, ci7, w_584, w_585, w_120, dfX7, rfl⟩
theorem gn_11_86 : gNw gdf RX11 86 4 := ⟨_, _, ci4, w_620, w_621, w_121, dfX4, rfl⟩
theorem gn_11_95 : gNw gdf RX11 95 9 := ⟨_, _, ci9, w_658, w_659, w_122, dfX9, rfl⟩
theorem gn_11_104 : gNw gdf RX11 104 3 := ⟨_, _, ci3, w_714, w_715, w_123, dfX3, rfl⟩
theorem gc_11_9 : gCw gnf RX11 9 0 0 := ⟨w_144, w_112, Or.inl w_142, w_143, ⟨by decide, by decide, by decide +kernel⟩, rfl⟩
theorem gc_11_21 : gCw gnf RX11 21 1 0 := ⟨w_216, w_114, Or.inr ⟨rfl, List.mem_of_getElem? (i := 0) rfl⟩, w_215, ⟨by decide, by decide, by decide +kernel⟩, rfl⟩
theorem gc_11_31 : gCw gnf RX11 31 2 0 := ⟨w_275, w_115, Or.inr ⟨rfl, List.mem_of_getElem? (i := 1) rfl⟩, w_274, ⟨by decide, by decide, by decide +kernel⟩, rfl⟩
theorem gc_11_41 : gCw gnf RX11 41 3 0 := ⟨w_364, w_116, Or.inr ⟨rfl, List.mem_of_getElem? (i := 2) rfl⟩, w_363, ⟨by decide, by decide, by decide +kernel⟩, rfl⟩
theorem gc_11_51 : gCw gnf RX11 51 4 0 := ⟨w_409, w_117, Or.inr ⟨rfl, List.mem_of_getElem? (i := 3) rfl⟩, w_408, ⟨by decide, by decide, by decide +kernel⟩, rfl⟩
theorem gc_11_61 : gCw gnf RX11 61 5 3 := ⟨w_467, w_118, Or.inl w_465, w_466, ⟨by decide, by decide, by decide +kernel⟩, rfl⟩
theorem gc_11_70 : gCw gnf RX11 70 6 4 := ⟨w_533, w_119, Or.inl w_531, w_532, ⟨by decide, by decide, by decide +kernel⟩, rfl⟩
theorem gc_11_79 : gCw gnf RX11 79 7 1 := ⟨w_588, w_120, Or.inl w_586, w_587, ⟨by decide, by decide, by decide +kernel⟩, rfl⟩
theorem gc_11_88 : gCw gnf RX11 88 8 5 := ⟨w_624, w_121, Or.inl w_622, w_623, ⟨by decide, by decide, by decide +kernel⟩, rfl⟩
theorem gc_11_97 : gCw gnf RX11 97 9 4 := ⟨w_662, w_122, Or.inl w_660, w_661, ⟨by decide, by decide, by decide +kernel⟩, rfl⟩
theorem gc_11_106 : gCw gnf RX11 106 10 4 := ⟨w_718, w_123, Or.inl w_716, w_717, ⟨by decide, by decide, by decide +kernel⟩, rfl⟩
theorem gf_12_7 : gFw RX12 7 12 0 true := ⟨_, _, ci12, (by decide), w_1668, Or.inr ⟨rfl, rfl⟩, (show gRT _ from fun _ => ⟨rfl, rfl⟩)⟩
theorem gf_12_13 : gFw RX12 13 12 1 true := ⟨_, _, ci12, (by decide), w_1669, Or.inr ⟨rfl, rfl⟩, (show gRT _ from fun _ => ⟨rfl, rfl⟩)⟩
theorem gf_12_16 : gFw RX12 16 12 2 true := ⟨_, _, ci12, (by decide), w_1670, Or.inr ⟨rfl, rfl⟩, (show gRT _ from fun _ => ⟨rfl, rfl⟩)⟩
theorem gf_12_19 : gFw RX12 19 12 3 true := ⟨_, _, ci12, (by decide), w_1671, Or.inr ⟨rfl, rfl⟩, (show gRT _ from fun _ => ⟨rfl, rfl⟩)⟩
theorem gf_12_22 : gFw RX12 22 12 4 true := ⟨_, _, ci12, (by decide), w_1672, Or.inr ⟨rfl, rfl⟩, (show gRT _ from fun _ => ⟨rfl, rfl⟩)⟩
theorem gf_12_25 : gFw RX12 25 12 5 true := ⟨_, _, ci12, (by decide), w_1673, Or.inr ⟨rfl, rfl⟩, (show gRT _ from fun _ => ⟨rfl, rfl⟩)⟩
theorem gf_12_28 : gFw RX12 28 12 6 true := ⟨_, _, ci12, (by decide), w_1674, Or.inr ⟨rfl, rfl⟩, (show gRT _ from fun _ => ⟨rfl, rfl⟩)⟩
theorem gf_12_31 : gFw RX12 31 12 7 true := ⟨_, _, ci12, (by decide), w_1675, Or.inr ⟨rfl, rfl⟩, (show gRT _ from fun _ => ⟨rfl, rfl⟩)⟩
theorem gf_12_34 : gFw RX12 34 12 8 true := ⟨_, _, ci12, (by decide), w_1676, Or.inr ⟨rfl, rfl⟩, (show gRT _ from fun _ => ⟨rfl, rfl⟩)⟩
theorem gf_12_37 : gFw RX12 37 12 9 true := ⟨_, _, ci12, (by decide), w_1677, Or.inr ⟨rfl, rfl⟩, (show gRT _ from fun _ => ⟨rfl, rfl⟩)⟩
theorem gf_12_40 : gFw RX12 40 12 10 true := ⟨_, _, ci12, (by decide), w_1678, Or.inr ⟨rfl, rfl⟩, (show gRT _ from fun _ => ⟨rfl, rfl⟩)⟩
theorem gf_12_43 : gFw RX12 43 12 11 true := ⟨_, _, ci12, (by decide), w_1679, Or.inr ⟨rfl, rfl⟩, (show gRT _ from fun _ => ⟨rfl, rfl⟩)⟩
theorem gf_12_46 : gFw RX12 46 12 12 true := ⟨_, _, ci12, (by decide), w_1680, Or.inr ⟨rfl, rfl⟩, (show gRT _ from fun _ => ⟨rfl, rfl⟩)⟩
theorem gf_12_49 : gFw RX12 49 12 13 true := ⟨_, _, ci12, (by decide), w_1681, Or.inr ⟨rfl, rfl⟩, (show gRT _ from fun _ => ⟨rfl, rfl⟩)⟩
theorem gf_12_52 : gFw RX12 52 12 14 true := ⟨_, _, ci12, (by decide), w_1682, Or.inr ⟨rfl, rfl⟩, (show gRT _ from fun _ => ⟨rfl, rfl⟩)⟩
theorem gf_12_55 : gFw RX12 55 12 15 true := ⟨_, _, ci12, (by decide), w_1683, Or.inr ⟨rfl, rfl⟩, (show gRT _ from fun _ => ⟨rfl, rfl⟩)⟩
theorem gf_12_58 : gFw RX12 58 12 16 true := ⟨_, _, ci12, (by decide), w_1684, Or.inr ⟨rfl, rfl⟩, (show gRT _ from fun _ => ⟨rfl, rfl⟩)⟩
theorem gf_12_61 : gFw RX12 61 12 17 true := ⟨_, _, ci12, (by decide), w_1685, Or.inr ⟨rfl, rfl⟩, (show gRT _ from fun _ => ⟨rfl, rfl⟩)⟩
theorem gf_12_64 : gFw RX12 64 12 18 true := ⟨_, _, ci12, (by decide), w_1686, Or.inr ⟨rfl, rfl⟩, (show gRT _ from fun _ => ⟨rfl, rfl⟩)⟩
theorem gf_12_67 : gFw RX12 67 12 19 true := ⟨_, _, ci12, (by decide), w_1687, Or.inr ⟨rfl, rfl⟩, (show gRT _ from fun _ => ⟨rfl, rfl⟩)⟩
theorem gf_12_70 : gFw RX12 70 12 20 true := ⟨_, _, ci12, (by decide), w_1688, Or.inr ⟨rfl, rfl⟩, (show gRT _ from fun _ => ⟨rfl, rfl⟩)⟩
theorem gf_12_73 : gFw RX12 73 12 21 true := ⟨_, _, ci12, (by decide), w_1689, Or.inr ⟨rfl, rfl⟩, (show gRT _ from fun _ => ⟨rfl, rfl⟩)⟩
theorem gf_12_76 : gFw RX12 76 12 22 true := ⟨_, _, ci12, (by decide), w_1690, Or.inr ⟨rfl, rfl⟩, (show gRT _ from fun _ => ⟨rfl, rfl⟩)⟩
theorem gf_12_79 : gFw RX12 79 12 23 true := ⟨_, _, ci12, (by decide), w_1691, Or.inr ⟨rfl, rfl⟩, (show gRT _ from fun _ => ⟨rfl, rfl⟩)⟩
theorem gf_12_82 : gFw RX12 82 12 24 true := ⟨_, _, ci12, (by decide), w_1692, Or.inr ⟨rfl, rfl⟩, (show gRT _ from fun _ => ⟨rfl, rfl⟩)⟩
theorem gf_12_85 : gFw RX12 85 12 25 true := ⟨_, _, ci12, (by decide), w_1693, Or.inr ⟨rfl, rfl⟩, (show gRT _ from fun _ => ⟨rfl, rfl⟩)⟩
theorem gf_12_88 : gFw RX12 88 12 26 true := ⟨_, _, ci12, (by decide), w_1694, Or.inr ⟨rfl, rfl⟩, (show gRT _ from fun _ => ⟨rfl, rfl⟩)⟩
theorem gf_12_91 : gFw RX12 91 12 27 true := ⟨_, _, ci12, (by decide), w_1695, Or.inr ⟨rfl, rfl⟩, (show gRT _ from fun _ => ⟨rfl, rfl⟩)⟩
theorem gf_12_94 : gFw RX12 94 12 28 true := ⟨_, _, ci12, (by decide), w_1696, Or.inr ⟨rfl, rfl⟩, (show gRT _ from fun _ => ⟨rfl, rfl⟩)⟩
theorem gf_12_97 : gFw RX12 97 12 29 true := ⟨_, _, ci12, (by decide), w_1697, Or.inr ⟨rfl, rfl⟩, (show gRT _ from fun _ => ⟨rfl, rfl⟩)⟩
theorem gf_12_100 : gFw RX12 100 12 30 true := ⟨_, _, ci12, (by decide), w_1698, Or.inr ⟨rfl, rfl⟩, (show gRT _ from fun _ => ⟨rfl, rfl⟩)⟩
theorem gf_12_103 : gFw RX12 103 12 31 true := ⟨_, _, ci12, (by decide), w_1699, Or.inr ⟨rfl, rfl⟩, (show gRT _ from fun _ => ⟨rfl, rfl⟩)⟩
theorem gf_12_106 : gFw RX12 106 12 32 true := ⟨_, _, ci12, (by decide), w_1700, Or.inr ⟨rfl, rfl⟩, (show gRT _ from fun _ => ⟨rfl, rfl⟩)⟩
theorem gf_12_109 : gFw RX12 109 12 33 true := ⟨_, _, ci12, (by decide), w_1701, Or.inr ⟨rfl, rfl⟩, (show gRT _ from fun _ => ⟨rfl, rfl⟩)⟩
theorem gf_12_112 : gFw RX12 112 12 34 true := ⟨_, _, ci12, (by decide), w_1702, Or.inr ⟨rfl, rfl⟩, (show gRT _ from fun _ => ⟨rfl, rfl⟩)⟩
theorem gf_12_115 : gFw RX12 115 12 35 true := ⟨_, _, ci12, (by decide), w_1703, Or.inr ⟨rfl, rfl⟩, (show gRT _ from fun _ => ⟨rfl, rfl⟩)⟩
theorem gf_12_118 : gFw RX12 118 12 36 true := ⟨_, _, ci12, (by decide), w_1704, Or.inr ⟨rfl, rfl⟩, (show gRT _ from fun _ => ⟨rfl, rfl⟩)⟩
theorem gf_12_121 : gFw RX12 121 12 37 true := ⟨_, _, ci12, (by decide), w_1705, Or.inr ⟨rfl, rfl⟩, (show gRT _ from fun _ => ⟨rfl, rfl⟩)⟩
theorem gf_12_124 : gFw RX12 124 12 38 true := ⟨_, _, ci12, (by decide), w_1706, Or.inr ⟨rfl, rfl⟩, (show gRT _ from fun _ => ⟨rfl, rfl⟩)⟩
theorem gf_12_127 : gFw RX12 127 12 39 true := ⟨_, _, ci12, (by decide), w_1707, Or.inr ⟨rfl, rfl⟩, (show gRT _ from fun _ => ⟨rfl, rfl⟩)⟩
theorem gf_12_130 : gFw RX12 130 12 40 true := ⟨_, _, ci12, (by decide), w_1708, Or.inr ⟨rfl, rfl⟩, (show gRT _ from fun _ => ⟨rfl, rfl⟩)⟩
theorem gf_12_133 : gFw RX12 133 12 41 true := ⟨_, _, ci12, (by decide), w_1709, Or.inr ⟨rfl, rfl⟩, (show gRT _ from fun _ => ⟨rfl, rfl⟩)⟩
theorem gf_12_136 : gFw RX12 136 12 42 true := ⟨_, _, ci12, (by decide), w_1710, Or.inr ⟨rfl, rfl⟩, (show gRT _ from fun _ => ⟨rfl, rfl⟩)⟩
theorem gf_12_139 : gFw RX12 139 12 43 true := ⟨_, _, ci12, (by decide), w_1711, Or.inr ⟨rfl, rfl⟩, (show gRT _ from fun _ => ⟨rfl, rfl⟩)⟩
theorem gf_12_142 : gFw RX12 142 12 44 true := ⟨_, _, ci12, (by decide), w_1712, Or.inr ⟨rfl, rfl⟩, (show gRT _ from fun _ => ⟨rfl, rfl⟩)⟩
theorem gf_12_145 : gFw RX12 145 12 45 true := ⟨_, _, ci12, (by decide), w_1713, Or.inr ⟨rfl, rfl⟩, (show gRT _ from fun _ => ⟨rfl, rfl⟩)⟩
theorem gf_12_148 : gFw RX12 148 12 48 true := ⟨_, _, ci12, (by decide), w_1716, Or.inr ⟨rfl, rfl⟩, (show gRT _ from fun _ => ⟨rfl, rfl⟩)⟩
theorem gf_12_151 : gFw RX12 151 12 49 true := ⟨_, _, ci12, (by decide), w_1717, Or.inr ⟨rfl, rfl⟩, (show gRT _ from fun _ => ⟨rfl, rfl⟩)⟩
theorem gf_12_154 : gFw RX12 154 12 50 true := ⟨_, _, ci12, (by decide), w_1718, Or.inr ⟨rfl, rfl⟩, (show gRT _ from fun _ => ⟨rfl, rfl⟩)⟩
theorem gf_12_157 : gFw RX12 157 12 51 true := ⟨_, _, ci12, (by decide), w_1719, Or.inr ⟨rfl, rfl⟩, (show gRT _ from fun _ => ⟨rfl, rfl⟩)⟩
theorem gf_12_160 : gFw RX12 160 12 52 true := ⟨_, _, ci12, (by decide), w_1720, Or.inr ⟨rfl, rfl⟩, (show gRT _ from fun _ => ⟨rfl, rfl⟩)⟩
theorem gf_12_163 : gFw RX12 163 12 54 true := ⟨_, _, ci12, (by decide), w_1722, Or.inr ⟨rfl, rfl⟩, (show gRT _ from fun _ => ⟨rfl, rfl⟩)⟩
theorem gf_12_167 : gFw RX12 167 12 55 true := ⟨_, _, ci12, (by decide), w_1723, Or.inr ⟨rfl, rfl⟩, (show gRT _ from fun _ => ⟨rfl, rfl⟩)⟩
theorem gf_12_170 : gFw RX12 170 12 56 true := ⟨_, _, ci12, (by decide), w_1724, Or.inr ⟨rfl, rfl⟩, (show gRT _ from fun _ => ⟨rfl, rfl⟩)⟩
theorem gf_12_173 : gFw RX12 173 12 57 true := ⟨_, _, ci12, (by decide), w_1725, Or.inr ⟨rfl, rfl⟩, (show gRT _ from fun _ => ⟨rfl, rfl⟩)⟩
theorem gf_12_176 : gFw RX12 176 12 58 true := ⟨_, _, ci12, (by decide), w_1726, Or.inr ⟨rfl, rfl⟩, (show gRT _ from fun _ => ⟨rfl, rfl⟩)⟩
theorem gf_12_179 : gFw RX12 179 12 60 true := ⟨_, _, ci12, (by decide), w_1728, Or.inr ⟨rfl, rfl⟩, (show gRT _ from fun _ => ⟨rfl, rfl⟩)⟩
theorem gf_12_182 : gFw RX12 182 12 61 true := ⟨_, _, ci12, (by decide), w_1729, Or.inr ⟨rfl, rfl⟩, (show gRT _ from fun _ => ⟨rfl, rfl⟩)⟩
theorem gf_12_185 : gFw RX12 185 12 62 true := ⟨_, _, ci12, (by decide), w_1730, Or.inr ⟨rfl, rfl⟩, (show gRT _ from fun _ => ⟨rfl, rfl⟩)⟩
theorem gf_12_188 : gFw RX12 188 12 64 true := ⟨_, _, ci12, (by decide), w_1732, Or.inr ⟨rfl, rfl⟩, (show gRT _ from fun _ => ⟨rfl, rfl⟩)⟩
theorem gf_12_191 : gFw RX12 191 12 74 true := ⟨_, _, ci12, (by decide), w_1742, Or.inr ⟨rfl, rfl⟩, (show gRT _ from fun _ => ⟨rfl, rfl⟩)⟩
theorem gf_12_194 : gFw RX12 194 12 75 true := ⟨_, _, ci12, (by decide), w_1743, Or.inr ⟨rfl, rfl⟩, (show gRT _ from fun _ => ⟨rfl, rfl⟩)⟩
theorem gf_12_197 : gFw RX12 197 12 76 true := ⟨_, _, ci12, (by decide), w_1744, Or.inr ⟨rfl, rfl⟩, (show gRT _ from fun _ => ⟨rfl, rfl⟩)⟩
theorem gf_12_200 : gFw RX12 200 12 77 true := ⟨_, _, ci12, (by decide), w_1745, Or.inr ⟨rfl, rfl⟩, (show gRT _ from fun _ => ⟨rfl, rfl⟩)⟩
theorem gf_12_203 : gFw RX12 203 12 84 true := ⟨_, _, ci12, (by decide), w_1752, Or.inr ⟨rfl, rfl⟩, (show gRT _ from fun _ => ⟨rfl, rfl⟩)⟩
theorem gf_12_206 : gFw RX12 206 12 85 true := ⟨_, _, ci12, (by decide), w_1753, Or.inr ⟨rfl, rfl⟩, (show gRT _ from fun _ => ⟨rfl, rfl⟩)⟩
theorem gf_12_209 : gFw RX12 209 12 86 true := ⟨_, _, ci12, (by decide), w_1754, Or.inr ⟨rfl, rfl⟩, (show gRT _ from fun _ => ⟨rfl, rfl⟩)⟩
theorem gf_12_213 : gFw RX12 213 12 87 true := ⟨_, _, ci12, (by decide), w_1755, Or.inr ⟨rfl, rfl⟩, (show gRT _ from fun _ => ⟨rfl, rfl⟩)⟩
theorem gf_12_216 : gFw RX12 216 12 88 true := ⟨_, _, ci12, (by decide), w_1756, Or.inr ⟨rfl, rfl⟩, (show gRT _ from fun _ => ⟨rfl, rfl⟩)⟩
theorem gf_12_219 : gFw RX12 219 12 89 true := ⟨_, _, ci12, (by decide), w_1757, Or.inr ⟨rfl, rfl⟩, (show gRT _ from fun _ => ⟨rfl, rfl⟩)⟩
theorem gf_12_222 : gFw RX12 222 12 90 true := ⟨_, _, ci12, (by decide), w_1758, Or.inr ⟨rfl, rfl⟩, (show gRT _ from fun _ => ⟨rfl, rfl⟩)⟩
theorem gaw : gAw := ⟨w_211, w_270, w_619, w_1960⟩
def gF_0 : gCI := ((RX10, cI_0, 1), 3, [(9, 10, 0, true), (15, 10, 1, true), (18, 10, 2, true), (21, 10, 3, true), (24, 10, 4, true), (27, 10, 5, true), (30, 10, 6, true)], [], [], [33], (7, 81))
def gF_1 : gCI := ((RX8, cI_1, 1), 3, [(9, 8, 0, true), (15, 8, 1, true), (18, 8, 2, true), (21, 8, 3, true), (24, 8, 4, true), (27, 8, 5, true), (30, 8, 6, true), (34, 8, 7, true), (37, 8, 8, true)], [], [], [], (9, 120))
def gF_2 : gCI := ((RX2, cI_2, 1), 3, [(9, 2, 0, true), (15, 2, 1, true), (18, 2, 2, true), (21, 2, 3, true), (25, 2, 4, true), (28, 2, 5, true), (31, 2, 6, true), (34, 2, 7, true), (37, 2, 8, true), (40, 2, 9, true), (43, 2, 10, true), (46, 2, 11, true)], [], [], [], (12, 168))
def gF_3 : gCI := ((RX0, cI_3, 1), 3, [(9, 0, 0, true), (15, 0, 1, true), (18, 0, 2, true), (21, 0, 3, true), (24, 0, 4, true), (27, 0, 5, true), (30, 0, 6, true)], [], [], [], (7, 1062))
def gF_4 : gCI := ((RX1, cI_4, 1), 3, [(9, 1, 0, true), (15, 1, 1, true), (18, 1, 2, true), (21, 1, 3, true), (24, 1, 4, true), (27, 1, 5, true)], [], [], [], (6, 112))
def gF_5 : gCI := ((RX5, cI_5, 4), 3, [(9, 5, 3, true), (15, 5, 4, true), (18, 5, 5, true), (21, 5, 6, true), (24, 5, 7, true), (27, 5, 8, true), (30, 5, 9, true), (33, 5, 0, true), (37, 5, 1, true), (41, 5, 2, true)], [], [], [], (7, 86))
def gF_6 : gCI := ((RX6, cI_6, 5), 3, [(9, 6, 4, true), (15, 6, 5, true), (18, 6, 6, true), (21, 6, 7, true), (24, 6, 8, true), (27, 6, 9, true), (31, 6, 10, true), (34, 6, 13, false), (38, 6, 0, true), (42, 6, 1, true), (46, 6, 2, true), (50, 6, 3, true)], [], [], [], (7, 2532))
def gF_7 : gCI := ((RX7, cI_7, 2), 3, [(9, 7, 1, true), (15, 7, 0, true)], [], [], [], (1, 240))
def gF_8 : gCI := ((RX4, cI_8, 6), 3, [(11, 4, 5, true), (15, 4, 6, true), (18, 4, 7, true), (21, 4, 8, true), (24, 4, 9, true), (27, 4, 0, true), (31, 4, 1, true), (35, 4, 2, true), (39, 4, 3, true), (43, 4, 4, true)], [], [], [], (5, 51))
def gF_9 : gCI := ((RX9, cI_9, 5), 3, [(9, 9, 8, true), (15, 9, 9, true), (18, 9, 11, true), (21, 9, 12, true), (24, 9, 13, true), (27, 9, 14, true), (30, 9, 0, true), (34, 9, 1, true), (38, 9, 2, true), (42, 9, 3, true)], [], [], [], (6, 931))
def gF_10 : gCI := ((RX3, cI_10, 5), 3, [(9, 3, 4, true), (15, 3, 5, true), (18, 3, 6, true), (21, 3, 7, true), (24, 3, 8, true), (27, 3, 9, true), (30, 3, 10, true), (33, 3, 0, true), (37, 3, 1, true), (41, 3, 2, true), (45, 3, 3, true)], [], [], [49], (7, 210))
def gF_11 : gCI := ((RX11, cI_11, 1), 1, [(10, 11, 0, true), (16, 11, 1, true), (22, 11, 2, true), (26, 11, 3, true), (32, 11, 4, true), (36, 11, 5, true), (42, 11, 6, true), (46, 11, 7, true), (52, 11, 8, true), (56, 11, 9, true), (64, 11, 10, true), (73, 11, 11, true), (82, 11, 12, true), (91, 11, 13, true), (100, 11, 14, true), (109, 11, 15, true)], [(7, 10), (19, 8), (29, 2), (39, 0), (49, 1), (59, 5), (68, 6), (77, 7), (86, 4), (95, 9), (104, 3)], [(9, 0, 0), (21, 1, 0), (31, 2, 0), (41, 3, 0), (51, 4, 0), (61, 5, 3), (70, 6, 4), (79, 7, 1), (88, 8, 5), (97, 9, 4), (106, 10, 4)], [], (131, 7333))
def gF_12 : gCI := ((RX12, cI_12, 1), 1, [(7, 12, 0, true), (13, 12, 1, true), (16, 12, 2, true), (19, 12, 3, true), (22, 12, 4, true), (25, 12, 5, true), (28, 12, 6, true), (31, 12, 7, true), (34, 12, 8, true), (37, 12, 9, true), (40, 12, 10, true), (43, 12, 11, true), (46, 12, 12, true), (49, 12, 13, true), (52, 12, 14, true), (55, 12, 15, true), (58, 12, 16, true), (61, 12, 17, true), (64, 12, 18, true), (67, 12, 19, true), (70, 12, 20, true), (73, 12, 21, true), (76, 12, 22, true), (79, 12, 23, true), (82, 12, 24, true), (85, 12, 25, true), (88, 12, 26, true), (91, 12, 27, true), (94, 12, 28, true), (97, 12, 29, true), (100, 12, 30, true), (103, 12, 31, true), (106, 12, 32, true), (109, 12, 33, true), (112, 12, 34, true), (115, 12, 35, true), (118, 12, 36, true), (121, 12, 37, true), (124, 12, 38, true), (127, 12, 39, true), (130, 12, 40, true), (133, 12, 41, true), (136, 12, 42, true), (139, 12, 43, true), (142, 12, 44, true), (145, 12, 45, true), (148, 12, 48, true), (151, 12, 49, true), (154, 12, 50, true), (157, 12, 51, true), (160, 12, 52, true), (163, 12, 54, true), (167, 12, 55, true), (170, 12, 56, true), (173, 12, 57, true), (176, 12, 58, true), (179, 12, 60, true), (182, 12, 61, true), (185, 12, 62, true), (188, 12, 64, true), (191, 12, 74, true), (194, 12, 75, true), (197, 12, 76, true), (200, 12, 77, true), (203, 12, 84, true), (206, 12, 85, true), (209, 12, 86, true), (213, 12, 87, true), (216, 12, 88, true), (219, 12, 89, true), (222, 12, 90, true)], [], [], [], (71, 10536))
theorem gH_0 : gKOK gnf gdf gF_0 := ⟨(List.forall_mem_cons.mpr ⟨gf_0_9, (List.forall_mem_cons.mpr ⟨gf_0_15, (List.forall_mem_cons.mpr ⟨gf_0_18, (List.forall_mem_cons.mpr ⟨gf_0_21, (List.forall_mem_cons.mpr ⟨gf_0_24, (List.forall_mem_cons.mpr ⟨gf_0_27, (List.forall_mem_cons.mpr ⟨gf_0_30, (fun _ h => absurd h List.not_mem_nil)⟩)⟩)⟩)⟩)⟩)⟩)⟩), (fun _ h => absurd h List.not_mem_nil), (fun _ h => absurd h List.not_mem_nil), ⟨w_145, w_138, w_139⟩, (List.forall_mem_cons.mpr ⟨gi_0_33, (fun _ h => absurd h List.not_mem_nil)⟩), gaw⟩
theorem gH_1 : gKOK gnf gdf gF_1 := ⟨(List.forall_mem_cons.mpr ⟨gf_1_9, (List.forall_mem_cons.mpr ⟨gf_1_15, (List.forall_mem_cons.mpr ⟨gf_1_18, (List.forall_mem_cons.mpr ⟨gf_1_21, (List.forall_mem_cons.mpr ⟨gf_1_24, (List.forall_mem_cons.mpr ⟨gf_1_27, (List.forall_mem_cons.mpr ⟨gf_1_30, (List.forall_mem_cons.mpr ⟨gf_1_34, (List.forall_mem_cons.mpr ⟨gf_1_37, (fun _ h => absurd h List.not_mem_nil)⟩)⟩)⟩)⟩)⟩)⟩)⟩)⟩)⟩), (fun _ h => absurd h List.not_mem_nil), (fun _ h => absurd h List.not_mem_nil), ⟨w_217, w_138, w_139⟩, (fun _ h => absurd h List.not_mem_nil), gaw⟩
theorem gH_2 : gKOK gnf gdf gF_2 := ⟨(List.forall_mem_cons.mpr ⟨gf_2_9, (List.forall_mem_cons.mpr ⟨gf_2_15, (List.forall_mem_cons.mpr ⟨gf_2_18, (List.forall_mem_cons.mpr ⟨gf_2_21, (List.forall_mem_cons.mpr ⟨gf_2_25, (List.forall_mem_cons.mpr ⟨gf_2_28, (List.forall_mem_cons.mpr ⟨gf_2_31, (List.forall_mem_cons.mpr ⟨gf_2_34, (List.forall_mem_cons.mpr ⟨gf_2_37, (List.forall_mem_cons.mpr ⟨gf_2_40, (List.forall_mem_cons.mpr ⟨gf_2_43, (List.forall_mem_cons.mpr ⟨gf_2_46, (fun _ h => absurd h List.not_mem_nil)⟩)⟩)⟩)⟩)⟩)⟩)⟩)⟩)⟩)⟩)⟩)⟩), (fun _ h => absurd h List.not_mem_nil), (fun _ h => absurd h List.not_mem_nil), ⟨w_276, w_138, w_139⟩, (fun _ h => absurd h List.not_mem_nil), gaw⟩
theorem gH_3 : gKOK gnf gdf gF_3 := ⟨(List.forall_mem_cons.mpr ⟨gf_3_9, (List.forall_mem_cons.mpr ⟨gf_3_15, (List.forall_mem_cons.mpr ⟨gf_3_18, (List.forall_mem_cons.mpr ⟨gf_3_21, (List.forall_mem_cons.mpr ⟨gf_3_24, (List.forall_mem_cons.mpr ⟨gf_3_27, (List.forall_mem_cons.mpr ⟨gf_3_30, (fun _ h => absurd h List.not_mem_nil)⟩)⟩)⟩)⟩)⟩)⟩)⟩), (fun _ h => absurd h List.not_mem_nil), (fun _ h => absurd h List.not_mem_nil), ⟨w_365, w_138, w_139⟩, (fun _ h => absurd h List.not_mem_nil), gaw⟩
theorem gH_4 : gKOK gnf gdf gF_4 := ⟨(List.forall_mem_cons.mpr ⟨gf_4_9, (List.forall_mem_cons.mpr ⟨gf_4_15, (List.forall_mem_cons.mpr ⟨gf_4_18, (List.forall_mem_cons.mpr ⟨gf_4_21, (List.forall_mem_cons.mpr ⟨gf_4_24, (List.forall_mem_cons.mpr ⟨gf_4_27, (fun _ h => absurd h List.not_mem_nil)⟩)⟩)⟩)⟩)⟩)⟩), (fun _ h => absurd h List.not_mem_nil), (fun _ h => absurd h List.not_mem_nil), ⟨w_410, w_138, w_139⟩, (fun _ h => absurd h List.not_mem_nil), gaw⟩
theorem gH_5 : gKOK gnf gdf gF_5 := ⟨(List.forall_mem_cons.mpr ⟨gf_5_9, (List.forall_mem_cons.mpr ⟨gf_5_15, (List.forall_mem_cons.mpr ⟨gf_5_18, (List.forall_mem_cons.mpr ⟨gf_5_21, (List.forall_mem_cons.mpr ⟨gf_5_24, (List.forall_mem_cons.mpr ⟨gf_5_27, (List.forall_mem_cons.mpr ⟨gf_5_30, (List.forall_mem_cons.mpr ⟨gf_5_33, (List.forall_mem_cons.mpr ⟨gf_5_37, (List.forall_mem_cons.mpr ⟨gf_5_41, (fun _ h => absurd h List.not_mem_nil)⟩)⟩)⟩)⟩)⟩)⟩)⟩)⟩)⟩)⟩), (fun _ h => absurd h List.not_mem_nil), (fun _ h => absurd h List.not_mem_nil), ⟨w_468, w_138, w_139⟩, (fun _ h => absurd h List.not_mem_nil), gaw⟩
theorem gH_6 : gKOK gnf gdf gF_6 := ⟨(List.forall_mem_cons.mpr ⟨gf_6_9, (List.forall_mem_cons.mpr ⟨gf_6_15, (List.forall_mem_cons.mpr ⟨gf_6_18, (List.forall_mem_cons.mpr ⟨gf_6_21, (List.forall_mem_cons.mpr ⟨gf_6_24, (List.forall_mem_cons.mpr ⟨gf_6_27, (List.forall_mem_cons.mpr ⟨gf_6_31, (List.forall_mem_cons.mpr ⟨gf_6_34, (List.forall_mem_cons.mpr ⟨gf_6_38, (List.forall_mem_cons.mpr ⟨gf_6_42, (List.forall_mem_cons.mpr ⟨gf_6_46, (List.forall_mem_cons.mpr ⟨gf_6_50, (fun _ h => absurd h List.not_mem_nil)⟩)⟩)⟩)⟩)⟩)⟩)⟩)⟩)⟩)⟩)⟩)⟩), (fun _ h => absurd h List.not_mem_nil), (fun _ h => absurd h List.not_mem_nil), ⟨w_534, w_138, w_139⟩, (fun _ h => absurd h List.not_mem_nil), gaw⟩
theorem gH_7 : gKOK gnf gdf gF_7 := ⟨(List.forall_mem_cons.mpr ⟨gf_7_9, (List.forall_mem_cons.mpr ⟨gf_7_15, (fun _ h => absurd h List.not_mem_nil)⟩)⟩), (fun _ h => absurd h List.not_mem_nil), (fun _ h => absurd h List.not_mem_nil), ⟨w_589, w_138, w_139⟩, (fun _ h => absurd h List.not_mem_nil), gaw⟩
theorem gH_8 : gKOK gnf gdf gF_8 := ⟨(List.forall_mem_cons.mpr ⟨gf_8_11, (List.forall_mem_cons.mpr ⟨gf_8_15, (List.forall_mem_cons.mpr ⟨gf_8_18, (List.forall_mem_cons.mpr ⟨gf_8_21, (List.forall_mem_cons.mpr ⟨gf_8_24, (List.forall_mem_cons.mpr ⟨gf_8_27, (List.forall_mem_cons.mpr ⟨gf_8_31, (List.forall_mem_cons.mpr ⟨gf_8_35, (List.forall_mem_cons.mpr ⟨gf_8_39, (List.forall_mem_cons.mpr ⟨gf_8_43, (fun _ h => absurd h List.not_mem_nil)⟩)⟩)⟩)⟩)⟩)⟩)⟩)⟩)⟩)⟩), (fun _ h => absurd h List.not_mem_nil), (fun _ h => absurd h List.not_mem_nil), ⟨w_625, w_138, w_139⟩, (fun _ h => absurd h List.not_mem_nil), gaw⟩
theorem gH_9 : gKOK gnf gdf gF_9 := ⟨(List.forall_mem_cons.mpr ⟨gf_9_9, (List.forall_mem_cons.mpr ⟨gf_9_15, (List.forall_mem_cons.mpr ⟨gf_9_18, (List.forall_mem_cons.mpr ⟨gf_9_21, (List.forall_mem_cons.mpr ⟨gf_9_24, (List.forall_mem_cons.mpr ⟨gf_9_27, (List.forall_mem_cons.mpr ⟨gf_9_30, (List.forall_mem_cons.mpr ⟨gf_9_34, (List.forall_mem_cons.mpr ⟨gf_9_38, (List.forall_mem_cons.mpr ⟨gf_9_42, (fun _ h => absurd h List.not_mem_nil)⟩)⟩)⟩)⟩)⟩)⟩)⟩)⟩)⟩)⟩), (fun _ h => absurd h List.not_mem_nil), (fun _ h => absurd h List.not_mem_nil), ⟨w_663, w_138, w_139⟩, (fun _ h => absurd h List.not_mem_nil), gaw⟩
theorem gH_10 : gKOK gnf gdf gF_10 := ⟨(List.forall_mem_cons.mpr ⟨gf_10_9, (List.forall_mem_cons.mpr ⟨gf_10_15, (List.forall_mem_cons.mpr ⟨gf_10_18, (List.forall_mem_cons.mpr ⟨gf_10_21, (List.forall_mem_cons.mpr ⟨gf_10_24, (List.forall_mem_cons.mpr ⟨gf_10_27, (List.forall_mem_cons.mpr ⟨gf_10_30, (List.forall_mem_cons.mpr ⟨gf_10_33, (List.forall_mem_cons.mpr ⟨gf_10_37, (List.forall_mem_cons.mpr ⟨gf_10_41, (List.forall_mem_cons.mpr ⟨gf_10_45, (fun _ h => absurd h List.not_mem_nil)⟩)⟩)⟩)⟩)⟩)⟩)⟩)⟩)⟩)⟩)⟩), (fun _ h => absurd h List.not_mem_nil), (fun _ h => absurd h List.not_mem_nil), ⟨w_719, w_138, w_139⟩, (List.forall_mem_cons.mpr ⟨gi_10_49, (fun _ h => absurd h List.not_mem_nil)⟩), gaw⟩
theorem gH_11 : gKOK gnf gdf gF_11 := ⟨(List.forall_mem_cons.mpr ⟨gf_11_10, (List.forall_mem_cons.mpr ⟨gf_11_16, (List.forall_mem_cons.mpr ⟨gf_11_22, (List.forall_mem_cons.mpr ⟨gf_11_26, (List.forall_mem_cons.mpr ⟨gf_11_32, (List.forall_mem_cons.mpr ⟨gf_11_36, (List.forall_mem_cons.mpr ⟨gf_11_42, (List.forall_mem_cons.mpr ⟨gf_11_46, (List.forall_mem_cons.mpr ⟨gf_11_52, (List.forall_mem_cons.mpr ⟨gf_11_56, (List.forall_mem_cons.mpr ⟨gf_11_64, (List.forall_mem_cons.mpr ⟨gf_11_73, (List.forall_mem_cons.mpr ⟨gf_11_82, (List.forall_mem_cons.mpr ⟨gf_11_91, (List.forall_mem_cons.mpr ⟨gf_11_100, (List.forall_mem_cons.mpr ⟨gf_11_109, (fun _ h => absurd h List.not_mem_nil)⟩)⟩)⟩)⟩)⟩)⟩)⟩)⟩)⟩)⟩)⟩)⟩)⟩)⟩)⟩)⟩), (List.forall_mem_cons.mpr ⟨gn_11_7, (List.forall_mem_cons.mpr ⟨gn_11_19, (List.forall_mem_cons.mpr ⟨gn_11_29, (List.forall_mem_cons.mpr ⟨gn_11_39, (List.forall_mem_cons.mpr ⟨gn_11_49, (List.forall_mem_cons.mpr ⟨gn_11_59, (List.forall_mem_cons.mpr ⟨gn_11_68, (List.forall_mem_cons.mpr ⟨gn_11_77, (List.forall_mem_cons.mpr ⟨gn_11_86, (List.forall_mem_cons.mpr ⟨gn_11_95, (List.forall_mem_cons.mpr ⟨gn_11_104, (fun _ h => absurd h List.not_mem_nil)⟩)⟩)⟩)⟩)⟩)⟩)⟩)⟩)⟩)⟩)⟩), (List.forall_mem_cons.mpr ⟨gc_11_9, (List.forall_mem_cons.mpr ⟨gc_11_21, (List.forall_mem_cons.mpr ⟨gc_11_31, (List.forall_mem_cons.mpr ⟨gc_11_41, (List.forall_mem_cons.mpr ⟨gc_11_51, (List.forall_mem_cons.mpr ⟨gc_11_61, (List.forall_mem_cons.mpr ⟨gc_11_70, (List.forall_mem_cons.mpr ⟨gc_11_79, (List.forall_mem_cons.mpr ⟨gc_11_88, (List.forall_mem_cons.mpr ⟨gc_11_97, (List.forall_mem_cons.mpr ⟨gc_11_106, (fun _ h => absurd h List.not_mem_nil)⟩)⟩)⟩)⟩)⟩)⟩)⟩)⟩)⟩)⟩)⟩), ⟨w_137, w_138, w_139⟩, (fun _ h => absurd h List.not_mem_nil), gaw⟩
theorem gH_12 : gKOK gnf gdf gF_12 := ⟨(List.forall_mem_cons.mpr ⟨gf_12_7, (List.forall_mem_cons.mpr ⟨gf_12_13, (List.forall_mem_cons.mpr ⟨gf_12_16, (List.forall_mem_cons.mpr ⟨gf_12_19, (List.forall_mem_cons.mpr ⟨gf_12_22, (List.forall_mem_cons.mpr ⟨gf_12_25, (List.forall_mem_cons.mpr ⟨gf_12_28, (List.forall_mem_cons.mpr ⟨gf_12_31, (List.forall_mem_cons.mpr ⟨gf_12_34, (List.forall_mem_cons.mpr ⟨gf_12_37, (List.forall_mem_cons.mpr ⟨gf_12_40, (List.forall_mem_cons.mpr ⟨gf_12_43, (List.forall_mem_cons.mpr ⟨gf_12_46, (List.forall_mem_cons.mpr ⟨gf_12_49, (List.forall_mem_cons.mpr ⟨gf_12_52, (List.forall_mem_cons.mpr ⟨gf_12_55, (List.forall_mem_cons.mpr ⟨gf_12_58, (List.forall_mem_cons.mpr ⟨gf_12_61, (List.forall_mem_cons.mpr ⟨gf_12_64, (List.forall_mem_cons.mpr ⟨gf_12_67, (List.forall_mem_cons.mpr ⟨gf_12_70, (List.forall_mem_cons.mpr ⟨gf_12_73, (List.forall_mem_cons.mpr ⟨gf_12_76, (List.forall_mem_cons.mpr ⟨gf_12_79, (List.forall_mem_cons.mpr ⟨gf_12_82, (List.forall_mem_cons.mpr ⟨gf_12_85, (List.forall_mem_cons.mpr ⟨gf_12_88, (List.forall_mem_cons.mpr ⟨gf_12_91, (List.forall_mem_cons.mpr ⟨gf_12_94, (List.forall_mem_cons.mpr ⟨gf_12_97, (List.forall_mem_cons.mpr ⟨gf_12_100, (List.forall_mem_cons.mpr ⟨gf_12_103, (List.forall_mem_cons.mpr ⟨gf_12_106, (List.forall_mem_cons.mpr ⟨gf_12_109, (List.forall_mem_cons.mpr ⟨gf_12_112, (List.forall_mem_cons.mpr ⟨gf_12_115, (List.forall_mem_cons.mpr ⟨gf_12_118, (List.forall_mem_cons.mpr ⟨gf_12_121, (List.forall_mem_cons.mpr ⟨gf_12_124, (List.forall_mem_cons.mpr ⟨gf_12_127, (List.forall_mem_cons.mpr ⟨gf_12_130, (List.forall_mem_cons.mpr ⟨gf_12_133, (List.forall_mem_cons.mpr ⟨gf_12_136, (List.forall_mem_cons.mpr ⟨gf_12_139, (List.forall_mem_cons.mpr ⟨gf_12_142, (List.forall_mem_cons.mpr ⟨gf_12_145, (List.forall_mem_cons.mpr ⟨gf_12_148, (List.forall_mem_cons.mpr ⟨gf_12_151, (List.forall_mem_cons.mpr ⟨gf_12_154, (List.forall_mem_cons.mpr ⟨gf_12_157, (List.forall_mem_cons.mpr ⟨gf_12_160, (List.forall_mem_cons.mpr ⟨gf_12_163, (List.forall_mem_cons.mpr ⟨gf_12_167, (List.forall_mem_cons.mpr ⟨gf_12_170, (List.forall_mem_cons.mpr ⟨gf_12_173, (List.forall_mem_cons.mpr ⟨gf_12_176, (List.forall_mem_cons.mpr ⟨gf_12_179, (List.forall_mem_cons.mpr ⟨gf_12_182, (List.forall_mem_cons.mpr ⟨gf_12_185, (List.forall_mem_cons.mpr ⟨gf_12_188, (List.forall_mem_cons.mpr ⟨gf_12_191, (List.forall_mem_cons.mpr ⟨gf_12_194, (List.forall_mem_cons.mpr ⟨gf_12_197, (List.forall_mem_cons.mpr ⟨gf_12_200, (List.forall_mem_cons.mpr ⟨gf_12_203, (List.forall_mem_cons.mpr ⟨gf_12_206, (List.forall_mem_cons.mpr ⟨gf_12_209, (List.forall_mem_cons.mpr ⟨gf_12_213, (List.forall_mem_cons.mpr ⟨gf_12_216, (List.forall_mem_cons.mpr ⟨gf_12_219, (List.forall_mem_cons.mpr ⟨gf_12_222, (fun _ h => absurd h List.not_mem_nil)⟩)⟩)⟩)⟩)⟩)⟩)⟩)⟩)⟩)⟩)⟩)⟩)⟩)⟩)⟩)⟩)⟩)⟩)⟩)⟩)⟩)⟩)⟩)⟩)⟩)⟩)⟩)⟩)⟩)⟩)⟩)⟩)⟩)⟩)⟩)⟩)⟩)⟩)⟩)⟩)⟩)⟩)⟩)⟩)⟩)⟩)⟩)⟩)⟩)⟩)⟩)⟩)⟩)⟩)⟩)⟩)⟩)⟩)⟩)⟩)⟩)⟩)⟩)⟩)⟩)⟩)⟩)⟩)⟩)⟩)⟩), (fun _ h => absurd h List.not_mem_nil), (fun _ h => absurd h List.not_mem_nil), ⟨w_1667, w_138, w_139⟩, (fun _ h => absurd h List.not_mem_nil), gaw⟩
def gFsL : List gCI := [gF_0, gF_1, gF_2, gF_3, gF_4, gF_5, gF_6, gF_7, gF_8, gF_9, gF_10, gF_11, gF_12]
def gFs (f : Nat) : gCI := gFsL.getD f gF_0
theorem gH_all : ∀ f, gKOK gnf gdf (gFs f) ∧ plainName (gnf f).1.cls = true ∧ (gnf f).1.name = "<init>" ∧ (gFs f).1 = ((gnf f).1.cls, (gnf f).2)
  | 0 => ⟨gH_0, (by decide +kernel), rfl, rfl⟩
  | 1 => ⟨gH_1, (by decide +kernel), rfl, rfl⟩
  | 2 => ⟨gH_2, (by decide +kernel), rfl, rfl⟩
  | 3 => ⟨gH_3, (by decide +kernel), rfl, rfl⟩
  | 4 => ⟨gH_4, (by decide +kernel), rfl, rfl⟩
  | 5 => ⟨gH_5, (by decide +kernel), rfl, rfl⟩
  | 6 => ⟨gH_6, (by decide +kernel), rfl, rfl⟩
  | 7 => ⟨gH_7, (by decide +kernel), rfl, rfl⟩
  | 8 => ⟨gH_8, (by decide +kernel), rfl, rfl⟩
  | 9 => ⟨gH_9, (by decide +kernel), rfl, rfl⟩
  | 10 => ⟨gH_10, (by decide +kernel), rfl, rfl⟩
  | 11 => ⟨gH_11, (by decide +kernel), rfl, rfl⟩
  | 12 => ⟨gH_12, (by decide +kernel), rfl, rfl⟩
  | _ + 13 => ⟨gH_0, (show plainName (gnf 0).1.cls = true by decide +kernel), rfl, rfl⟩
