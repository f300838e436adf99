/-! bodies: bodyV -/
abbrev K_V_reach : bK := (RX11, cX11_reach, 5, some .int, fun _ _ _ => True)
def B_V_reach : ES K_V_reach := (sSeq (sIf (cOr (cOr (cNot (cZ 1 (eCall (xS 116 (gI (eLoc 1) gNil) csX11_113) rt_116))) (cNot (cZ 1 (eCall (xS 117 (gI (eLoc 2) (gI (eInt 1) (gI (eInt 50) gNil))) csX11_117) rt_117)))) (cNot (cZ 1 (eCall (xS 117 (gI (eLoc 3) (gI (eInt 2) (gI (eInt 9) gNil))) csX11_117) rt_117)))) (sRet (eInt (-1))) sNop) (sSeq (sSet 4 (eAdd (eMul (eAI 12 (rFld (rFld (rLoc 0 0) 1 flX11_10) 2 flX11_121) (eLoc 1)) (eInt 10)) (eAI 12 (rFld (rFld (rLoc 0 0) 1 flX11_10) 3 flX11_125) (eLoc 1)))) (sSeq (sPutA 12 (rFld (rFld (rLoc 0 0) 1 flX11_10) 2 flX11_121) (eLoc 1) (eLoc 2)) (sSeq (sPutA 12 (rFld (rFld (rLoc 0 0) 1 flX11_10) 3 flX11_125) (eLoc 1) (eLoc 3)) (sSeq (sCall (xV 118 (rFld (rLoc 0 0) 101 flX11_73) gNil cvX11_128_118) rt_118) (sRet (eLoc 4)))))))
set_option maxRecDepth 100000 in
theorem ck_V_reach : B_V_reach.1.1 0 0 0 = some none := by decide +kernel
abbrev K_V_pond : bK := (RX11, cX11_pond, 3, some .int, fun _ _ _ => True)
def B_V_pond : ES K_V_pond := (sSeq (sIf (cNot (cZ 1 (eCall (xS 117 (gI (eLoc 1) (gI (eInt 0) (gI (eInt 9999) gNil))) csX11_117) rt_117))) (sRet (eInt (-1))) sNop) (sSeq (sSet 2 (eFld (rFld (rLoc 0 0) 1 flX11_10) flX11_131)) (sSeq (sPutI (rFld (rLoc 0 0) 1 flX11_10) (eLoc 1) fpX11_131) (sSeq (sCall (xV 118 (rFld (rLoc 0 0) 101 flX11_73) gNil cvX11_128_118) rt_118) (sRet (eLoc 2))))))
set_option maxRecDepth 100000 in
theorem ck_V_pond : B_V_pond.1.1 0 0 0 = some none := by decide +kernel
abbrev K_V_gate : bK := (RX11, cX11_gate, 4, some .int, fun _ _ _ => True)
def B_V_gate : ES K_V_gate := (sSeq (sIf (cNot (cZ 1 (eCall (xS 119 (gI (eLoc 1) (gI (eLoc 2) gNil)) csX11_135) rt_119))) (sRet (eInt (-1))) sNop) (sSeq (sSet 3 (eFld (rFld (rLoc 0 0) 1 flX11_10) flX11_139)) (sSeq (sPutI (rFld (rLoc 0 0) 1 flX11_10) (eLoc 1) fpX11_139) (sSeq (sPutI (rFld (rLoc 0 0) 1 flX11_10) (eLoc 2) fpX11_142) (sSeq (sCall (xV 118 (rFld (rLoc 0 0) 101 flX11_73) gNil cvX11_128_118) rt_118) (sRet (eLoc 3)))))))
set_option maxRecDepth 100000 in
theorem ck_V_gate : B_V_gate.1.1 0 0 0 = some none := by decide +kernel
abbrev K_V_table : bK := (RX11, cX11_table, 5, some .int, fun _ _ _ => True)
def B_V_table : ES K_V_table := (sSeq (sIf (cOr (cNot (cZ 1 (eCall (xS 120 (gI (eLoc 1) gNil) csX11_145) rt_120))) (cNot (cZ 1 (eCall (xS 121 (gI (eLoc 2) gNil) csX11_148) rt_121)))) (sRet (eInt (-1))) sNop) (sSeq (sSet 3 (eCall (xV 122 (rFld (rLoc 0 0) 124 flX11_109) (gI (eLoc 2) (gI (eInt 1) gNil)) cvX11_151_122) rt_122)) (sSeq (sIf (cZ 1 (eLoc 3)) (sRet (eLoc 3)) sNop) (sSeq (sSet 4 (eAI 4 (rFld (rFld (rLoc 0 0) 124 flX11_109) 126 flX11_155) (eLoc 2))) (sSeq (sIf (cNot (cZ 1 (eCall (xV 123 (rFld (rLoc 0 0) 124 flX11_109) (gI (eLoc 2) gNil) cvX11_158_123) rt_123))) (sRet (eInt (-4))) sNop) (sSeq (sPutA 3 (rFld (rFld (rLoc 0 0) 1 flX11_10) 5 flX11_161) (eLoc 1) (eLoc 4)) (sSeq (sCopy 1 160 24 (rFld (rFld (rLoc 0 0) 124 flX11_109) 127 flX11_164) (eMul (eLoc 2) (eInt 40)) (rFld (rFld (rLoc 0 0) 1 flX11_10) 4 flX11_167) (eMul (eLoc 1) (eInt 8)) (eLoc 4) cyX11_170) (sSeq (sCall (xV 118 (rFld (rLoc 0 0) 101 flX11_73) gNil cvX11_128_118) rt_118) (sRet (eLoc 4))))))))))
set_option maxRecDepth 100000 in
theorem ck_V_table : B_V_table.1.1 0 0 0 = some none := by decide +kernel
abbrev K_V_house : bK := (RX11, cX11_house, 5, some .int, fun _ _ _ => True)
def B_V_house : ES K_V_house := (sSeq (sIf (cOr (cOr (cNot (cZ 1 (eCall (xS 116 (gI (eLoc 1) gNil) csX11_113) rt_116))) (cNot (cZ 1 (eCall (xS 117 (gI (eLoc 2) (gI (eInt 1) (gI (eInt 99) gNil))) csX11_117) rt_117)))) (cNot (cZ 1 (eCall (xS 117 (gI (eLoc 3) (gI (eInt 0) (gI (eInt 999) gNil))) csX11_117) rt_117)))) (sRet (eInt (-1))) sNop) (sSeq (sIf (cQ 3 (eFld (rFld (rLoc 0 0) 1 flX11_10) flX11_176) (eInt 10)) (sRet (eInt (-2))) sNop) (sSeq (sSet 4 (eFld (rFld (rLoc 0 0) 1 flX11_10) flX11_176)) (sSeq (sPutA 10 (rFld (rFld (rLoc 0 0) 1 flX11_10) 6 flX11_179) (eLoc 4) (eLoc 1)) (sSeq (sPutA 10 (rFld (rFld (rLoc 0 0) 1 flX11_10) 7 flX11_182) (eLoc 4) (eLoc 2)) (sSeq (sPutA 10 (rFld (rFld (rLoc 0 0) 1 flX11_10) 8 flX11_185) (eLoc 4) (eLoc 3)) (sSeq (sPutI (rFld (rLoc 0 0) 1 flX11_10) (eAdd (eLoc 4) (eInt 1)) fpX11_176) (sSeq (sCall (xV 118 (rFld (rLoc 0 0) 101 flX11_73) gNil cvX11_128_118) rt_118) (sRet (eLoc 4))))))))))
set_option maxRecDepth 100000 in
theorem ck_V_house : B_V_house.1.1 0 0 0 = some none := by decide +kernel
abbrev K_V_depth : bK := (RX11, cX11_depth, 5, some .int, fun _ _ _ => True)
def B_V_depth : ES K_V_depth := (sSeq (sIf (cOr (cOr (cNot (cZ 1 (eCall (xS 124 (gI (eLoc 1) (gI (eLoc 2) gNil)) csX11_188) rt_124))) (cNot (cZ 1 (eCall (xS 116 (gI (eLoc 3) gNil) csX11_113) rt_116)))) (cNot (cZ 1 (eCall (xS 125 (gI (eLoc 4) gNil) csX11_191) rt_125)))) (sRet (eInt (-1))) sNop) (sSeq (sCall (xV 126 (rFld (rLoc 0 0) 93 flX11_64) (gI (eLoc 1) (gI (eLoc 2) (gI (eFld (rFld (rLoc 0 0) 1 flX11_10) flX11_139) (gI (eFld (rFld (rLoc 0 0) 1 flX11_10) flX11_142) (gI (eLoc 4) gNil))))) cvX11_194_126) rt_126) (sRet (eCall (xV 127 (rFld (rLoc 0 0) 93 flX11_64) (gI (eLoc 3) gNil) cvX11_198_127) rt_127))))
set_option maxRecDepth 100000 in
theorem ck_V_depth : B_V_depth.1.1 0 0 0 = some none := by decide +kernel
abbrev K_V_falls : bK := (RX11, cX11_falls, 4, some .int, fun _ _ _ => True)
def B_V_falls : ES K_V_falls := (sSeq (sIf (cOr (cNot (cZ 1 (eCall (xS 124 (gI (eLoc 1) (gI (eLoc 2) gNil)) csX11_188) rt_124))) (cNot (cZ 1 (eCall (xV 128 (rLoc 0 0) (gI (eLoc 3) gNil) cvX11_202_128) rt_128)))) (sRet (eInt (-1))) sNop) (sSeq (sCall (xV 126 (rFld (rLoc 0 0) 93 flX11_64) (gI (eLoc 1) (gI (eLoc 2) (gI (eFld (rFld (rLoc 0 0) 1 flX11_10) flX11_139) (gI (eFld (rFld (rLoc 0 0) 1 flX11_10) flX11_142) (gI (eInt 179) gNil))))) cvX11_194_126) rt_126) (sRet (eAI 10 (rFld (rFld (rLoc 0 0) 93 flX11_64) 98 flX11_205) (eLoc 3)))))
set_option maxRecDepth 100000 in
theorem ck_V_falls : B_V_falls.1.1 0 0 0 = some none := by decide +kernel
abbrev K_V_sooner : bK := (RX11, cX11_sooner, 7, some .int, fun _ _ _ => True)
def B_V_sooner : ES K_V_sooner := (sSeq (sIf (cOr (cNot (cZ 1 (eCall (xS 119 (gI (eLoc 3) (gI (eLoc 4) gNil)) csX11_135) rt_119))) (cNot (cZ 1 (eCall (xS 124 (gI (eLoc 1) (gI (eLoc 2) gNil)) csX11_188) rt_124)))) (sRet (eInt (-1))) sNop) (sSeq (sCall (xV 126 (rFld (rLoc 0 0) 93 flX11_64) (gI (eLoc 1) (gI (eLoc 2) (gI (eFld (rFld (rLoc 0 0) 1 flX11_10) flX11_139) (gI (eFld (rFld (rLoc 0 0) 1 flX11_10) flX11_142) (gI (eInt 179) gNil))))) cvX11_194_126) rt_126) (sSeq (sSet 5 (eCall (xS 129 (gI (eCall (xV 130 (rFld (rLoc 0 0) 93 flX11_64) gNil cvX11_208_130) rt_130) gNil) csX11_212) rt_129)) (sSeq (sCall (xV 126 (rFld (rLoc 0 0) 93 flX11_64) (gI (eLoc 1) (gI (eLoc 2) (gI (eLoc 3) (gI (eLoc 4) (gI (eInt 179) gNil))))) cvX11_194_126) rt_126) (sSeq (sSet 6 (eSub (eLoc 5) (eCall (xS 129 (gI (eCall (xV 130 (rFld (rLoc 0 0) 93 flX11_64) gNil cvX11_208_130) rt_130) gNil) csX11_212) rt_129))) (sRet (eIte (cZ 2 (eLoc 6)) (eAdd (eLoc 6) (eInt 1000)) (eLoc 6))))))))
set_option maxRecDepth 100000 in
theorem ck_V_sooner : B_V_sooner.1.1 0 0 0 = some none := by decide +kernel
abbrev K_V_clock : bK := (RX11, cX11_clock, 7, some .int, fun _ _ _ => True)
def B_V_clock : ES K_V_clock := (sSeq (sIf (cOr (cOr (cOr (cOr (cNot (cZ 1 (eCall (xS 116 (gI (eLoc 1) gNil) csX11_113) rt_116))) (cNot (cZ 1 (eCall (xS 117 (gI (eLoc 2) (gI (eInt 1) (gI (eInt 99) gNil))) csX11_117) rt_117)))) (cNot (cZ 1 (eCall (xS 125 (gI (eLoc 3) gNil) csX11_191) rt_125)))) (cNot (cZ 1 (eCall (xS 117 (gI (eLoc 4) (gI (eInt 0) (gI (eInt 918) gNil))) csX11_117) rt_117)))) (cQ 4 (eRem (eLoc 4) (eInt 100)) (eInt 18))) (sRet (eInt (-1))) sNop) (sSeq (sIf (cQ 3 (eFld (rFld (rLoc 0 0) 17 flX11_22) flX11_217) (eInt 16)) (sRet (eInt (-2))) sNop) (sSeq (sSet 5 (eSub (eLoc 3) (eSub (eRem (eLoc 4) (eInt 100)) (eInt 9)))) (sSeq (sSet 6 (eDiv (eLoc 4) (eInt 100))) (sSeq (sPutA 16 (rFld (rFld (rLoc 0 0) 17 flX11_22) 23 flX11_220) (eFld (rFld (rLoc 0 0) 17 flX11_22) flX11_217) (eLoc 2)) (sSeq (sCall (xV 118 (rFld (rLoc 0 0) 101 flX11_73) gNil cvX11_128_118) rt_118) (sRet (eCall (xV 131 (rFld (rLoc 0 0) 17 flX11_22) (gI (eInt 1) (gI (eLoc 1) (gI (eLoc 3) (gI (eSub (eLoc 5) (eLoc 6)) (gI (eAdd (eLoc 5) (eLoc 6)) gNil))))) cvX11_223_131) rt_131))))))))
set_option maxRecDepth 100000 in
theorem ck_V_clock : B_V_clock.1.1 0 0 0 = some none := by decide +kernel
abbrev K_V_mark : bK := (RX11, cX11_mark, 4, some .int, fun _ _ _ => True)
def B_V_mark : ES K_V_mark := (sSeq (sIf (cOr (cOr (cNot (cZ 1 (eCall (xS 116 (gI (eLoc 1) gNil) csX11_113) rt_116))) (cNot (cZ 1 (eCall (xS 117 (gI (eLoc 2) (gI (eInt 0) (gI (eInt 999) gNil))) csX11_117) rt_117)))) (cNot (cZ 1 (eCall (xS 117 (gI (eLoc 3) (gI (eLoc 2) (gI (eInt 999) gNil))) csX11_117) rt_117)))) (sRet (eInt (-1))) sNop) (sSeq (sIf (cQ 3 (eFld (rFld (rLoc 0 0) 17 flX11_22) flX11_217) (eInt 16)) (sRet (eInt (-2))) sNop) (sSeq (sCall (xV 118 (rFld (rLoc 0 0) 101 flX11_73) gNil cvX11_128_118) rt_118) (sRet (eCall (xV 131 (rFld (rLoc 0 0) 17 flX11_22) (gI (eInt 2) (gI (eLoc 1) (gI (eLoc 2) (gI (eLoc 2) (gI (eLoc 3) gNil))))) cvX11_223_131) rt_131)))))
set_option maxRecDepth 100000 in
theorem ck_V_mark : B_V_mark.1.1 0 0 0 = some none := by decide +kernel
abbrev K_V_word : bK := (RX11, cX11_word, 5, some .int, fun _ _ _ => True)
def B_V_word : ES K_V_word := (sSeq (sIf (cOr (cOr (cOr (cOr (cNot (cZ 1 (eCall (xS 132 (gI (eLoc 1) gNil) csX11_227) rt_132))) (cNot (cZ 1 (eCall (xS 117 (gI (eLoc 2) (gI (eInt 1) (gI (eInt 7) gNil))) csX11_117) rt_117)))) (cNot (cZ 1 (eCall (xS 133 (gI (eLoc 3) gNil) csX11_230) rt_133)))) (cNot (cZ 1 (eCall (xS 133 (gI (eLoc 4) gNil) csX11_230) rt_133)))) (cQ 4 (eLoc 3) (eLoc 4))) (sRet (eInt (-1))) sNop) (sSeq (sIf (cQ 3 (eFld (rFld (rLoc 0 0) 17 flX11_22) flX11_217) (eInt 16)) (sRet (eInt (-2))) sNop) (sSeq (sCall (xV 134 (rFld (rLoc 0 0) 101 flX11_73) gNil cvX11_233_134) rt_134) (sRet (eCall (xV 131 (rFld (rLoc 0 0) 17 flX11_22) (gI (eInt 3) (gI (eLoc 1) (gI (eLoc 2) (gI (eLoc 3) (gI (eLoc 4) gNil))))) cvX11_223_131) rt_131)))))
set_option maxRecDepth 100000 in
theorem ck_V_word : B_V_word.1.1 0 0 0 = some none := by decide +kernel
abbrev K_V_tear : bK := (RX11, cX11_tear, 3, some .int, fun _ _ _ => True)
def B_V_tear : ES K_V_tear := (sSeq (sIf (cNot (cZ 1 (eCall (xV 135 (rLoc 0 0) (gI (eLoc 1) gNil) cvX11_236_135) rt_135))) (sRet (eInt (-1))) sNop) (sSeq (sIf (cQ 0 (eAZ 16 (rFld (rFld (rLoc 0 0) 17 flX11_22) 24 flX11_239) (eLoc 1)) (eLoc 2)) (sRet (eInt 0)) sNop) (sSeq (sPutAZ 16 (rFld (rFld (rLoc 0 0) 17 flX11_22) 24 flX11_239) (eLoc 1) (eLoc 2)) (sSeq (sCall (xV 134 (rFld (rLoc 0 0) 101 flX11_73) gNil cvX11_233_134) rt_134) (sRet (eInt 1))))))
set_option maxRecDepth 100000 in
theorem ck_V_tear : B_V_tear.1.1 0 0 0 = some none := by decide +kernel
abbrev K_V_side : bK := (RX11, cX11_side, 4, some .int, fun _ _ _ => True)
def B_V_side : ES K_V_side := (sSeq (sIf (cOr (cNot (cZ 1 (eCall (xS 132 (gI (eLoc 1) gNil) csX11_227) rt_132))) (cNot (cZ 1 (eCall (xS 117 (gI (eLoc 2) (gI (eInt 0) (gI (eInt 2) gNil))) csX11_117) rt_117)))) (sRet (eInt (-1))) sNop) (sSeq (sSet 3 (eAI 4 (rFld (rFld (rLoc 0 0) 17 flX11_22) 25 flX11_243) (eLoc 1))) (sSeq (sPutA 4 (rFld (rFld (rLoc 0 0) 17 flX11_22) 25 flX11_243) (eLoc 1) (eLoc 2)) (sRet (eLoc 3)))))
set_option maxRecDepth 100000 in
theorem ck_V_side : B_V_side.1.1 0 0 0 = some none := by decide +kernel
abbrev K_V_doubt : bK := (RX11, cX11_doubt, 3, some .int, fun _ _ _ => True)
def B_V_doubt : ES K_V_doubt := (sSeq (sIf (cNot (cZ 1 (eCall (xS 117 (gI (eLoc 1) (gI (eInt 0) (gI (eInt 2) gNil))) csX11_117) rt_117))) (sRet (eInt (-1))) sNop) (sSeq (sCall (xV 134 (rFld (rLoc 0 0) 101 flX11_73) gNil cvX11_233_134) rt_134) (sRet (eCall (xV 136 (rFld (rLoc 0 0) 17 flX11_22) (gI (eLoc 1) (gI (eLoc 2) gNil)) cvX11_246_136) rt_136))))
set_option maxRecDepth 100000 in
theorem ck_V_doubt : B_V_doubt.1.1 0 0 0 = some none := by decide +kernel
abbrev K_V_lets : bK := (RX11, cX11_lets, 4, some .int, fun _ _ _ => True)
def B_V_lets : ES K_V_lets := (sSeq (sIf (cOr (cNot (cZ 1 (eCall (xV 135 (rLoc 0 0) (gI (eLoc 1) gNil) cvX11_236_135) rt_135))) (cNot (cZ 1 (eCall (xS 124 (gI (eLoc 2) (gI (eLoc 3) gNil)) csX11_188) rt_124)))) (sRet (eInt (-1))) sNop) (sRet (eIte (cZ 1 (eCall (xV 137 (rFld (rLoc 0 0) 101 flX11_73) (gI (eAdd (eMul (eLoc 2) (eInt 30)) (eLoc 3)) (gI (eShl (eInt 1) (eLoc 1)) gNil)) cvX11_250_137) rt_137)) (eInt 1) (eInt 0))))
set_option maxRecDepth 100000 in
theorem ck_V_lets : B_V_lets.1.1 0 0 0 = some none := by decide +kernel
abbrev K_V_possible : bK := (RX11, cX11_possible, 2, some .int, fun _ _ _ => True)
def B_V_possible : ES K_V_possible := (sSeq (sIf (cNot (cZ 1 (eCall (xS 117 (gI (eLoc 1) (gI (eInt (-1)) (gI (eInt 2) gNil))) csX11_117) rt_117))) (sRet (eInt (-1))) sNop) (sSeq (sCall (xV 138 (rFld (rLoc 0 0) 101 flX11_73) gNil cvX11_253_138) rt_138) (sRet (eCall (xV 139 (rFld (rLoc 0 0) 101 flX11_73) (gI (eLoc 1) gNil) cvX11_256_139) rt_139))))
set_option maxRecDepth 100000 in
theorem ck_V_possible : B_V_possible.1.1 0 0 0 = some none := by decide +kernel
abbrev K_V_span : bK := (RX11, cX11_span, 3, some .int, fun _ _ _ => True)
def B_V_span : ES K_V_span := (sSeq (sIf (cNot (cZ 1 (eCall (xS 120 (gI (eLoc 1) gNil) csX11_145) rt_120))) (sRet (eInt (-1))) sNop) (sSeq (sCall (xV 138 (rFld (rLoc 0 0) 101 flX11_73) gNil cvX11_253_138) rt_138) (sRet (eIte (cZ 1 (eLoc 2)) (eCall (xV 140 (rFld (rLoc 0 0) 101 flX11_73) (gI (eLoc 1) gNil) cvX11_259_140) rt_140) (eCall (xV 141 (rFld (rLoc 0 0) 101 flX11_73) (gI (eLoc 1) gNil) cvX11_262_141) rt_141)))))
set_option maxRecDepth 100000 in
theorem ck_V_span : B_V_span.1.1 0 0 0 = some none := by decide +kernel
abbrev K_V_hangs : bK := (RX11, cX11_hangs, 4, some .int, fun _ _ _ => True)
def B_V_hangs : ES K_V_hangs := (sSeq (sIf (cNot (cZ 1 (eCall (xV 135 (rLoc 0 0) (gI (eLoc 1) gNil) cvX11_236_135) rt_135))) (sRet (eInt (-1))) sNop) (sSeq (sSet 2 (eCall (xV 142 (rFld (rLoc 0 0) 17 flX11_22) gNil cvX11_265_142) rt_142)) (sSeq (sSet 3 (eAnd (eLoc 2) (eXor (eShl (eInt 1) (eLoc 1)) (eInt (-1))))) (sSeq (sIf (cQ 0 (eLoc 3) (eLoc 2)) (sRet (eInt 0)) sNop) (sRet (eSub (eCall (xV 143 (rFld (rLoc 0 0) 101 flX11_73) (gI (eLoc 3) gNil) cvX11_268_143) rt_143) (eCall (xV 143 (rFld (rLoc 0 0) 101 flX11_73) (gI (eLoc 2) gNil) cvX11_268_143) rt_143)))))))
set_option maxRecDepth 100000 in
theorem ck_V_hangs : B_V_hangs.1.1 0 0 0 = some none := by decide +kernel
abbrev K_V_sure : bK := (RX11, cX11_sure, 2, some .int, fun _ _ _ => True)
def B_V_sure : ES K_V_sure := (sSeq (sIf (cNot (cZ 1 (eCall (xV 128 (rLoc 0 0) (gI (eLoc 1) gNil) cvX11_202_128) rt_128))) (sRet (eInt (-1))) sNop) (sSeq (sCall (xV 144 (rFld (rLoc 0 0) 101 flX11_73) gNil cvX11_271_144) rt_144) (sSeq (sIf (cZ 1 (eCall (xV 145 (rFld (rLoc 0 0) 101 flX11_73) (gI (eLoc 1) gNil) cvX11_274_145) rt_145)) (sRet (eInt 2)) sNop) (sRet (eIte (cZ 1 (eCall (xV 146 (rFld (rLoc 0 0) 101 flX11_73) (gI (eLoc 1) gNil) cvX11_277_146) rt_146)) (eInt 1) (eInt 0))))))
set_option maxRecDepth 100000 in
theorem ck_V_sure : B_V_sure.1.1 0 0 0 = some none := by decide +kernel
abbrev K_V_could : bK := (RX11, cX11_could, 7, some .int, fun _ _ _ => True)
def B_V_could : ES K_V_could := (sSeq (sIf (cOr (cNot (cZ 1 (eCall (xS 124 (gI (eLoc 1) (gI (eLoc 2) gNil)) csX11_188) rt_124))) (cNot (cZ 1 (eCall (xS 147 (gI (eLoc 3) (gI (eLoc 4) (gI (eLoc 5) (gI (eLoc 6) gNil)))) csX11_280) rt_147)))) (sRet (eInt (-1))) sNop) (sRet (eCall (xV 148 (rFld (rLoc 0 0) 101 flX11_73) (gI (eAdd (eMul (eLoc 1) (eInt 30)) (eLoc 2)) (gI (eLoc 3) (gI (eLoc 4) (gI (eLoc 5) (gI (eLoc 6) gNil))))) cvX11_284_148) rt_148)))
set_option maxRecDepth 100000 in
theorem ck_V_could : B_V_could.1.1 0 0 0 = some none := by decide +kernel
abbrev K_V_told : bK := (RX11, cX11_told, 5, some .int, fun _ _ _ => True)
def B_V_told : ES K_V_told := (sSeq (sIf (cNot (cZ 1 (eCall (xS 147 (gI (eLoc 1) (gI (eLoc 2) (gI (eLoc 3) (gI (eLoc 4) gNil)))) csX11_280) rt_147))) (sRet (eInt (-1))) sNop) (sSeq (sCall (xV 138 (rFld (rLoc 0 0) 101 flX11_73) gNil cvX11_253_138) rt_138) (sRet (eCall (xV 149 (rFld (rLoc 0 0) 101 flX11_73) (gI (eLoc 1) (gI (eLoc 2) (gI (eLoc 3) (gI (eLoc 4) gNil)))) cvX11_287_149) rt_149))))
set_option maxRecDepth 100000 in
theorem ck_V_told : B_V_told.1.1 0 0 0 = some none := by decide +kernel
abbrev K_V_person : bK := (RX11, cX11_person, 5, some .int, fun _ _ _ => True)
def B_V_person : ES K_V_person := (sSeq (sIf (cOr (cOr (cNot (cZ 1 (eCall (xS 117 (gI (eLoc 1) (gI (eInt 0) (gI (eInt 9) gNil))) csX11_117) rt_117))) (cNot (cZ 1 (eCall (xV 128 (rLoc 0 0) (gI (eLoc 2) gNil) cvX11_202_128) rt_128)))) (cNot (cZ 1 (eCall (xS 117 (gI (eLoc 3) (gI (eInt 0) (gI (eInt 5) gNil))) csX11_117) rt_117)))) (sRet (eInt (-1))) sNop) (sSeq (sIf (cQ 3 (eFld (rFld (rLoc 0 0) 37 flX11_32) flX11_291) (eInt 16)) (sRet (eInt (-2))) sNop) (sSeq (sSet 4 (eFld (rFld (rLoc 0 0) 37 flX11_32) flX11_291)) (sSeq (sPutA 16 (rFld (rFld (rLoc 0 0) 37 flX11_32) 38 flX11_294) (eLoc 4) (eLoc 1)) (sSeq (sPutA 16 (rFld (rFld (rLoc 0 0) 37 flX11_32) 39 flX11_297) (eLoc 4) (eLoc 2)) (sSeq (sPutA 16 (rFld (rFld (rLoc 0 0) 37 flX11_32) 40 flX11_300) (eLoc 4) (eLoc 3)) (sSeq (sPutAZ 16 (rFld (rFld (rLoc 0 0) 37 flX11_32) 41 flX11_303) (eLoc 4) (eInt 0)) (sSeq (sPutI (rFld (rLoc 0 0) 37 flX11_32) (eAdd (eLoc 4) (eInt 1)) fpX11_291) (sRet (eLoc 4))))))))))
set_option maxRecDepth 100000 in
theorem ck_V_person : B_V_person.1.1 0 0 0 = some none := by decide +kernel
abbrev K_V_safe : bK := (RX11, cX11_safe, 3, some .int, fun _ _ _ => True)
def B_V_safe : ES K_V_safe := (sSeq (sIf (cNot (cZ 1 (eCall (xV 150 (rLoc 0 0) (gI (eLoc 1) gNil) cvX11_306_150) rt_150))) (sRet (eInt (-1))) sNop) (sSeq (sIf (cQ 0 (eAZ 16 (rFld (rFld (rLoc 0 0) 37 flX11_32) 41 flX11_303) (eLoc 1)) (eLoc 2)) (sRet (eInt 0)) sNop) (sSeq (sPutAZ 16 (rFld (rFld (rLoc 0 0) 37 flX11_32) 41 flX11_303) (eLoc 1) (eLoc 2)) (sRet (eInt 1)))))
set_option maxRecDepth 100000 in
theorem ck_V_safe : B_V_safe.1.1 0 0 0 = some none := by decide +kernel
abbrev K_V_name : bK := (RX11, cX11_name, 4, some .int, fun _ _ _ => True)
def B_V_name : ES K_V_name := (sSeq (sIf (cOr (cNot (cZ 1 (eCall (xS 117 (gI (eLoc 1) (gI (eInt 0) (gI (eInt 9) gNil))) csX11_117) rt_117))) (cAnd (cQ 1 (eLoc 2) (eInt (-1))) (cNot (cZ 1 (eCall (xV 128 (rLoc 0 0) (gI (eLoc 2) gNil) cvX11_202_128) rt_128))))) (sRet (eInt (-1))) sNop) (sSeq (sIf (cQ 3 (eFld (rFld (rLoc 0 0) 37 flX11_32) flX11_309) (eInt 16)) (sRet (eInt (-2))) sNop) (sSeq (sSet 3 (eFld (rFld (rLoc 0 0) 37 flX11_32) flX11_309)) (sSeq (sPutA 16 (rFld (rFld (rLoc 0 0) 37 flX11_32) 42 flX11_312) (eLoc 3) (eLoc 1)) (sSeq (sPutA 16 (rFld (rFld (rLoc 0 0) 37 flX11_32) 43 flX11_315) (eLoc 3) (eLoc 2)) (sSeq (sPutI (rFld (rLoc 0 0) 37 flX11_32) (eAdd (eLoc 3) (eInt 1)) fpX11_309) (sRet (eLoc 3))))))))
set_option maxRecDepth 100000 in
theorem ck_V_name : B_V_name.1.1 0 0 0 = some none := by decide +kernel
abbrev K_V_list : bK := (RX11, cX11_list, 2, some .int, fun _ _ _ => True)
def B_V_list : ES K_V_list := (sSeq (sIf (cQ 0 (eLoc 1) (eInt (-1))) (sRet (eSub (eFld (rFld (rLoc 0 0) 37 flX11_32) flX11_309) (eCall (xV 151 (rFld (rLoc 0 0) 37 flX11_32) (gI (eInt (-1)) gNil) cvX11_318_151) rt_151))) sNop) (sSeq (sIf (cQ 0 (eLoc 1) (eInt (-2))) (sRet (eCall (xV 152 (rFld (rLoc 0 0) 37 flX11_32) gNil cvX11_321_152) rt_152)) sNop) (sSeq (sIf (cNot (cZ 1 (eCall (xV 150 (rLoc 0 0) (gI (eLoc 1) gNil) cvX11_306_150) rt_150))) (sRet (eInt (-1))) sNop) (sRet (eIte (cQ 2 (eCall (xV 151 (rFld (rLoc 0 0) 37 flX11_32) (gI (eLoc 1) gNil) cvX11_318_151) rt_151) (eCall (xV 151 (rFld (rLoc 0 0) 37 flX11_32) (gI (eInt (-1)) gNil) cvX11_318_151) rt_151)) (eInt 1) (eInt 0))))))
set_option maxRecDepth 100000 in
theorem ck_V_list : B_V_list.1.1 0 0 0 = some none := by decide +kernel
abbrev K_V_thing : bK := (RX11, cX11_thing, 5, some .int, fun _ _ _ => True)
def B_V_thing : ES K_V_thing := (sSeq (sIf (cOr (cOr (cOr (cNot (cZ 1 (eCall (xV 128 (rLoc 0 0) (gI (eLoc 1) gNil) cvX11_202_128) rt_128))) (cNot (cZ 1 (eCall (xS 117 (gI (eLoc 2) (gI (eInt 0) (gI (eInt 799) gNil))) csX11_117) rt_117)))) (cZ 0 (eRem (eLoc 2) (eInt 100)))) (cNot (cZ 1 (eCall (xS 117 (gI (eLoc 3) (gI (eInt 1) (gI (eInt 999) gNil))) csX11_117) rt_117)))) (sRet (eInt (-1))) sNop) (sSeq (sIf (cQ 3 (eFld (rFld (rLoc 0 0) 37 flX11_32) flX11_324) (eInt 12)) (sRet (eInt (-2))) sNop) (sSeq (sSet 4 (eFld (rFld (rLoc 0 0) 37 flX11_32) flX11_324)) (sSeq (sPutA 12 (rFld (rFld (rLoc 0 0) 37 flX11_32) 44 flX11_327) (eLoc 4) (eLoc 1)) (sSeq (sPutA 12 (rFld (rFld (rLoc 0 0) 37 flX11_32) 45 flX11_330) (eLoc 4) (eDiv (eLoc 2) (eInt 100))) (sSeq (sPutA 12 (rFld (rFld (rLoc 0 0) 37 flX11_32) 46 flX11_333) (eLoc 4) (eRem (eLoc 2) (eInt 100))) (sSeq (sPutA 12 (rFld (rFld (rLoc 0 0) 37 flX11_32) 47 flX11_336) (eLoc 4) (eLoc 3)) (sSeq (sPutI (rFld (rLoc 0 0) 37 flX11_32) (eAdd (eLoc 4) (eInt 1)) fpX11_324) (sSeq (sCall (xV 118 (rFld (rLoc 0 0) 101 flX11_73) gNil cvX11_128_118) rt_118) (sRet (eLoc 4)))))))))))
set_option maxRecDepth 100000 in
theorem ck_V_thing : B_V_thing.1.1 0 0 0 = some none := by decide +kernel
abbrev K_V_lies : bK := (RX11, cX11_lies, 4, some .int, fun _ _ _ => True)
def B_V_lies : ES K_V_lies := (sSeq (sIf (cOr (cNot (cZ 1 (eCall (xV 153 (rLoc 0 0) (gI (eLoc 1) gNil) cvX11_339_153) rt_153))) (cNot (cZ 1 (eCall (xS 124 (gI (eLoc 2) (gI (eLoc 3) gNil)) csX11_188) rt_124)))) (sRet (eInt (-1))) sNop) (sRet (eCall (xV 154 (rFld (rLoc 0 0) 101 flX11_73) (gI (eLoc 1) (gI (eAdd (eMul (eLoc 2) (eInt 30)) (eLoc 3)) gNil)) cvX11_342_154) rt_154)))
set_option maxRecDepth 100000 in
theorem ck_V_lies : B_V_lies.1.1 0 0 0 = some none := by decide +kernel
abbrev K_V_find : bK := (RX11, cX11_find, 4, some .int, fun _ _ _ => True)
def B_V_find : ES K_V_find := (sSeq (sIf (cOr (cNot (cZ 1 (eCall (xS 117 (gI (eLoc 1) (gI (eInt 0) (gI (eInt 7) gNil))) csX11_117) rt_117))) (cNot (cZ 1 (eCall (xS 116 (gI (eLoc 2) gNil) csX11_113) rt_116)))) (sRet (eInt (-1))) sNop) (sSeq (sIf (cQ 3 (eFld (rFld (rLoc 0 0) 37 flX11_32) flX11_345) (eInt 12)) (sRet (eInt (-2))) sNop) (sSeq (sSet 3 (eFld (rFld (rLoc 0 0) 37 flX11_32) flX11_345)) (sSeq (sPutA 12 (rFld (rFld (rLoc 0 0) 37 flX11_32) 48 flX11_348) (eLoc 3) (eLoc 1)) (sSeq (sPutA 12 (rFld (rFld (rLoc 0 0) 37 flX11_32) 49 flX11_351) (eLoc 3) (eLoc 2)) (sSeq (sPutI (rFld (rLoc 0 0) 37 flX11_32) (eAdd (eLoc 3) (eInt 1)) fpX11_345) (sRet (eLoc 3))))))))
set_option maxRecDepth 100000 in
theorem ck_V_find : B_V_find.1.1 0 0 0 = some none := by decide +kernel
abbrev K_V_whose : bK := (RX11, cX11_whose, 4, some .int, fun _ _ _ => True)
def L_V_whose_1c : EC K_V_whose := (cQ 2 (eLoc 3) (eFld (rFld (rLoc 0 0) 37 flX11_32) flX11_324))
def L_V_whose_1b : ES K_V_whose := (sIf (cZ 1 (eCall (xV 155 (rFld (rLoc 0 0) 101 flX11_73) (gI (eLoc 1) (gI (eLoc 3) gNil)) cvX11_354_155) rt_155)) (sSet 2 (eOr (eLoc 2) (eShl (eInt 1) (eLoc 3)))) sNop)
def L_V_whose_1s : ES K_V_whose := (sInc 3 1)
def L_V_whose_1 : ES K_V_whose := sLp 59 L_V_whose_1c L_V_whose_1b L_V_whose_1s
def B_V_whose : ES K_V_whose := (sSeq (sIf (cNot (cZ 1 (eCall (xS 117 (gI (eLoc 1) (gI (eInt 0) (gI (eSub (eFld (rFld (rLoc 0 0) 37 flX11_32) flX11_345) (eInt 1)) gNil))) csX11_117) rt_117))) (sRet (eInt (-1))) sNop) (sSeq (sCall (xV 144 (rFld (rLoc 0 0) 101 flX11_73) gNil cvX11_271_144) rt_144) (sSeq (sSet 2 (eInt 0)) (sSeq (sSeq (sSet 3 (eInt 0)) L_V_whose_1) (sRet (eLoc 2))))))
set_option maxRecDepth 100000 in
theorem ck_V_whose : B_V_whose.1.1 0 0 0 = some none := by decide +kernel
abbrev K_V_days : bK := (RX11, cX11_days, 2, some .int, fun _ _ _ => True)
def B_V_days : ES K_V_days := (sSeq (sIf (cNot (cZ 1 (eCall (xS 117 (gI (eLoc 1) (gI (eInt 1) (gI (eInt 99) gNil))) csX11_117) rt_117))) (sRet (eInt (-1))) sNop) (sSeq (sIf (cQ 3 (eAdd (eFld (rFld (rLoc 0 0) 79 flX11_52) flX11_357) (eLoc 1)) (eInt 1000)) (sRet (eInt (-4))) sNop) (sSeq (sOpF 0 (rFld (rLoc 0 0) 79 flX11_52) (eLoc 1) fpX11_357) (sRet (eFld (rFld (rLoc 0 0) 79 flX11_52) flX11_357)))))
set_option maxRecDepth 100000 in
theorem ck_V_days : B_V_days.1.1 0 0 0 = some none := by decide +kernel
abbrev K_V_feed : bK := (RX11, cX11_feed, 4, some .int, fun _ _ _ => True)
def B_V_feed : ES K_V_feed := (sSeq (sIf (cNot (cZ 1 (eCall (xS 117 (gI (eLoc 3) (gI (eInt 1) (gI (eInt 8) gNil))) csX11_117) rt_117))) (sRet (eInt (-1))) sNop) (sSeq (sIf (cQ 4 (eAdd (eFld (rFld (rLoc 0 0) 109 flX11_82) flX11_360) (eLoc 3)) (eInt 240)) (sRet (eInt (-2))) sNop) (sSeq (sCall (xV 156 (rFld (rLoc 0 0) 109 flX11_82) (gL (lLoc 1) (gI (eLoc 3) gNil)) cvX11_363_156) rt_156) (sRet (eFld (rFld (rLoc 0 0) 109 flX11_82) flX11_360)))))
set_option maxRecDepth 100000 in
theorem ck_V_feed : B_V_feed.1.1 0 0 0 = some none := by decide +kernel
abbrev K_V_read : bK := (RX11, cX11_read, 3, some .int, fun _ _ _ => True)
def B_V_read : ES K_V_read := (sSeq (sSet 1 (eCall (xV 157 (rFld (rLoc 0 0) 109 flX11_82) gNil cvX11_367_157) rt_157)) (sSeq (sPutI (rFld (rLoc 0 0) 109 flX11_82) (eInt 0) fpX11_360) (sSeq (sIf (cZ 3 (eLoc 1)) (sRet (eSub (eInt (-100)) (eLoc 1))) sNop) (sSeq (sIf (cQ 3 (eFld (rFld (rLoc 0 0) 63 flX11_42) flX11_370) (eInt 8)) (sRet (eInt (-2))) sNop) (sSeq (sSet 2 (eFld (rFld (rLoc 0 0) 63 flX11_42) flX11_370)) (sSeq (sPutA 9 (rFld (rFld (rLoc 0 0) 63 flX11_42) 64 flX11_373) (eLoc 2) (eFld (rFld (rLoc 0 0) 79 flX11_52) flX11_357)) (sSeq (sPutI (rFld (rLoc 0 0) 63 flX11_42) (eAdd (eLoc 2) (eInt 1)) fpX11_370) (sRet (eLoc 2)))))))))
set_option maxRecDepth 100000 in
theorem ck_V_read : B_V_read.1.1 0 0 0 = some none := by decide +kernel
abbrev K_V_claim : bK := (RX11, cX11_claim, 3, some .int, fun _ _ _ => True)
def B_V_claim : ES K_V_claim := (sSeq (sIf (cOr (cNot (cZ 1 (eCall (xV 150 (rLoc 0 0) (gI (eLoc 1) gNil) cvX11_306_150) rt_150))) (cNot (cZ 1 (eCall (xV 153 (rLoc 0 0) (gI (eLoc 2) gNil) cvX11_339_153) rt_153)))) (sRet (eInt (-1))) sNop) (sSeq (sIf (cZ 1 (eCall (xV 158 (rFld (rLoc 0 0) 79 flX11_52) (gI (eLoc 1) (gI (eLoc 2) gNil)) cvX11_376_158) rt_158)) (sRet (eInt (-4))) sNop) (sSeq (sIf (cQ 3 (eFld (rFld (rLoc 0 0) 79 flX11_52) flX11_379) (eInt 16)) (sRet (eInt (-2))) sNop) (sRet (eCall (xV 159 (rFld (rLoc 0 0) 79 flX11_52) (gI (eLoc 1) (gI (eLoc 2) gNil)) cvX11_382_159) rt_159)))))
set_option maxRecDepth 100000 in
theorem ck_V_claim : B_V_claim.1.1 0 0 0 = some none := by decide +kernel
abbrev K_V_proof : bK := (RX11, cX11_proof, 3, some .int, fun _ _ _ => True)
def B_V_proof : ES K_V_proof := (sSeq (sIf (cOr (cNot (cZ 1 (eCall (xV 160 (rLoc 0 0) (gI (eLoc 1) gNil) cvX11_385_160) rt_160))) (cAnd (cQ 1 (eLoc 2) (eInt (-1))) (cNot (cZ 1 (eCall (xV 150 (rLoc 0 0) (gI (eLoc 2) gNil) cvX11_306_150) rt_150))))) (sRet (eInt (-1))) sNop) (sSeq (sIf (cAnd (cQ 1 (eLoc 2) (eInt (-1))) (cQ 0 (eAI 16 (rFld (rFld (rLoc 0 0) 37 flX11_32) 38 flX11_294) (eLoc 2)) (eAI 16 (rFld (rFld (rLoc 0 0) 37 flX11_32) 38 flX11_294) (eAI 16 (rFld (rFld (rLoc 0 0) 79 flX11_52) 80 flX11_388) (eLoc 1))))) (sRet (eInt (-4))) sNop) (sSeq (sIf (cQ 3 (eFld (rFld (rLoc 0 0) 79 flX11_52) flX11_391) (eInt 24)) (sRet (eInt (-2))) sNop) (sSeq (sCall (xV 161 (rFld (rLoc 0 0) 79 flX11_52) (gI (eLoc 1) (gI (eLoc 2) gNil)) cvX11_394_161) rt_161) (sRet (eCall (xV 162 (rFld (rLoc 0 0) 79 flX11_52) (gI (eLoc 1) gNil) cvX11_398_162) rt_162))))))
set_option maxRecDepth 100000 in
theorem ck_V_proof : B_V_proof.1.1 0 0 0 = some none := by decide +kernel
abbrev K_V_claimOf : bK := (RX11, cX11_claimOf, 5, some .int, fun _ _ _ => True)
def B_V_claimOf : ES K_V_claimOf := (sSeq (sIf (cOr (cOr (cNot (cZ 1 (eCall (xV 160 (rLoc 0 0) (gI (eLoc 1) gNil) cvX11_385_160) rt_160))) (cNot (cZ 1 (eCall (xS 163 (gI (eLoc 2) gNil) csX11_401) rt_163)))) (cNot (cZ 1 (eCall (xS 117 (gI (eLoc 3) (gI (eInt 0) (gI (eInt 7) gNil))) csX11_117) rt_117)))) (sRet (eInt (-1))) sNop) (sSeq (sSwB 111 (eLoc 3) (tCase 0 (sRet (eAI 16 (rFld (rFld (rLoc 0 0) 79 flX11_52) 80 flX11_388) (eLoc 1))) (tCase 1 (sRet (eAI 16 (rFld (rFld (rLoc 0 0) 79 flX11_52) 81 flX11_404) (eLoc 1))) (tCase 2 (sRet (eCall (xV 162 (rFld (rLoc 0 0) 79 flX11_52) (gI (eLoc 1) gNil) cvX11_398_162) rt_162)) (tCase 6 (sRet (eAI 16 (rFld (rFld (rLoc 0 0) 79 flX11_52) 83 flX11_407) (eLoc 1))) (tDef sBrk)))))) (sSeq (sCall (xV 144 (rFld (rLoc 0 0) 101 flX11_73) gNil cvX11_271_144) rt_144) (sSeq (sCall (xV 164 (rFld (rLoc 0 0) 111 flX11_91) (gI (eLoc 1) gNil) cvX11_410_164) rt_164) (sSeq (sSet 4 (eCall (xV 165 (rFld (rLoc 0 0) 63 flX11_42) (gI (eLoc 2) gNil) cvX11_414_165) rt_165)) (sSw (eLoc 3) (tCase 3 (sRet (eIte (cZ 1 (eCall (xV 166 (rFld (rLoc 0 0) 111 flX11_91) (gI (eLoc 4) (gI (eAI 16 (rFld (rFld (rLoc 0 0) 79 flX11_52) 82 flX11_417) (eLoc 1)) gNil)) cvX11_420_166) rt_166)) (eInt 1) (eInt 0))) (tCase 4 (sRet (eCall (xV 167 (rFld (rLoc 0 0) 111 flX11_91) (gI (eLoc 4) (gI (eAI 16 (rFld (rFld (rLoc 0 0) 79 flX11_52) 82 flX11_417) (eLoc 1)) gNil)) cvX11_423_167) rt_167)) (tCase 5 (sRet (eCall (xV 168 (rFld (rLoc 0 0) 111 flX11_91) (gI (eLoc 4) gNil) cvX11_426_168) rt_168)) (tDef (sRet (eIte (cZ 1 (eCall (xV 169 (rFld (rLoc 0 0) 111 flX11_91) gNil cvX11_429_169) rt_169)) (eInt 1) (eInt 0)))))))))))))
set_option maxRecDepth 100000 in
theorem ck_V_claimOf : B_V_claimOf.1.1 0 0 0 = some none := by decide +kernel
abbrev K_V_why : bK := (RX11, cX11_why, 5, some .int, fun _ _ _ => True)
def B_V_why : ES K_V_why := (sSeq (sIf (cOr (cOr (cNot (cZ 1 (eCall (xV 160 (rLoc 0 0) (gI (eLoc 1) gNil) cvX11_385_160) rt_160))) (cNot (cZ 1 (eCall (xS 163 (gI (eLoc 2) gNil) csX11_401) rt_163)))) (cNot (cZ 1 (eCall (xS 117 (gI (eLoc 3) (gI (eInt 0) (gI (eInt 2) gNil))) csX11_117) rt_117)))) (sRet (eInt (-1))) sNop) (sSeq (sCall (xV 144 (rFld (rLoc 0 0) 101 flX11_73) gNil cvX11_271_144) rt_144) (sSeq (sCall (xV 164 (rFld (rLoc 0 0) 111 flX11_91) (gI (eLoc 1) gNil) cvX11_410_164) rt_164) (sSeq (sSet 4 (eIte (cZ 0 (eLoc 3)) (eInt 1) (eIte (cQ 0 (eLoc 3) (eInt 1)) (eInt 2) (eInt 3)))) (sRet (eCall (xV 170 (rFld (rLoc 0 0) 111 flX11_91) (gI (eCall (xV 165 (rFld (rLoc 0 0) 63 flX11_42) (gI (eLoc 2) gNil) cvX11_414_165) rt_165) (gI (eLoc 4) gNil)) cvX11_433_170) rt_170))))))
set_option maxRecDepth 100000 in
theorem ck_V_why : B_V_why.1.1 0 0 0 = some none := by decide +kernel
abbrev K_V_odd : bK := (RX11, cX11_odd, 2, some .int, fun _ _ _ => True)
def B_V_odd : ES K_V_odd := (sSeq (sIf (cNot (cZ 1 (eCall (xS 117 (gI (eLoc 1) (gI (eInt 0) (gI (eInt 1) gNil))) csX11_117) rt_117))) (sRet (eInt (-1))) sNop) (sRet (eIte (cZ 0 (eLoc 1)) (eCall (xV 171 (rFld (rLoc 0 0) 111 flX11_91) gNil cvX11_436_171) rt_171) (eCall (xV 172 (rFld (rLoc 0 0) 111 flX11_91) gNil cvX11_439_172) rt_172))))
set_option maxRecDepth 100000 in
theorem ck_V_odd : B_V_odd.1.1 0 0 0 = some none := by decide +kernel
abbrev K_V_fund : bK := (RX11, cX11_fund, 2, some .int, fun _ _ _ => True)
def B_V_fund : ES K_V_fund := (sSeq (sIf (cNot (cZ 1 (eCall (xS 117 (gI (eLoc 1) (gI (eInt 1) (gI (eInt 9999) gNil))) csX11_117) rt_117))) (sRet (eInt (-1))) sNop) (sSeq (sPutI (rFld (rLoc 0 0) 79 flX11_52) (eMin (eLdw 99999 kiX11_442) (eAdd (eFld (rFld (rLoc 0 0) 79 flX11_52) flX11_443) (eLoc 1)) cmX11_446) fpX11_443) (sRet (eFld (rFld (rLoc 0 0) 79 flX11_52) flX11_443))))
set_option maxRecDepth 100000 in
theorem ck_V_fund : B_V_fund.1.1 0 0 0 = some none := by decide +kernel
abbrev K_V_pay : bK := (RX11, cX11_pay, 1, some .int, fun _ _ _ => True)
def B_V_pay : ES K_V_pay := (sSeq (sCall (xV 144 (rFld (rLoc 0 0) 101 flX11_73) gNil cvX11_271_144) rt_144) (sRet (eCall (xV 173 (rFld (rLoc 0 0) 111 flX11_91) gNil cvX11_451_173) rt_173)))
set_option maxRecDepth 100000 in
theorem ck_V_pay : B_V_pay.1.1 0 0 0 = some none := by decide +kernel
abbrev K_V_offer : bK := (RX11, cX11_offer, 3, some .int, fun _ _ _ => True)
def B_V_offer : ES K_V_offer := (sSeq (sIf (cOr (cNot (cZ 1 (eCall (xV 160 (rLoc 0 0) (gI (eLoc 1) gNil) cvX11_385_160) rt_160))) (cNot (cZ 1 (eCall (xS 117 (gI (eLoc 2) (gI (eInt 1) (gI (eInt 999) gNil))) csX11_117) rt_117)))) (sRet (eInt (-1))) sNop) (sSeq (sIf (cOr (cQ 1 (eAI 16 (rFld (rFld (rLoc 0 0) 79 flX11_52) 83 flX11_407) (eLoc 1)) (eInt (-3))) (cQ 2 (eFld (rFld (rLoc 0 0) 79 flX11_52) flX11_443) (eLoc 2))) (sRet (eInt (-4))) sNop) (sSeq (sCall (xV 174 (rFld (rLoc 0 0) 79 flX11_52) (gI (eLoc 1) (gI (eLoc 2) gNil)) cvX11_454_174) rt_174) (sRet (eFld (rFld (rLoc 0 0) 79 flX11_52) flX11_443)))))
set_option maxRecDepth 100000 in
theorem ck_V_offer : B_V_offer.1.1 0 0 0 = some none := by decide +kernel
abbrev K_V_likest : bK := (RX11, cX11_likest, 2, some .int, fun _ _ _ => True)
def B_V_likest : ES K_V_likest := (sSeq (sIf (cNot (cZ 1 (eCall (xS 117 (gI (eLoc 1) (gI (eInt 0) (gI (eInt 2) gNil))) csX11_117) rt_117))) (sRet (eInt (-1))) sNop) (sSeq (sCall (xV 144 (rFld (rLoc 0 0) 101 flX11_73) gNil cvX11_271_144) rt_144) (sSeq (sCall (xV 175 (rFld (rLoc 0 0) 111 flX11_91) gNil cvX11_457_175) rt_175) (sRet (eAI 3 (rFld (rFld (rLoc 0 0) 111 flX11_91) 116 flX11_460) (eLoc 1))))))
set_option maxRecDepth 100000 in
theorem ck_V_likest : B_V_likest.1.1 0 0 0 = some none := by decide +kernel
abbrev K_V_round : bK := (RX11, cX11_round, 4, some .int, fun _ _ _ => True)
def B_V_round : ES K_V_round := (sSeq (sSet 3 (eSub (eShl (eInt 1) (eFld (rFld (rLoc 0 0) 79 flX11_52) flX11_379)) (eInt 1))) (sSeq (sIf (cOr (cZ 1 (eAnd (eLoc 1) (eXor (eLoc 3) (eInt (-1))))) (cNot (cZ 1 (eCall (xS 116 (gI (eLoc 2) gNil) csX11_113) rt_116)))) (sRet (eInt (-1))) sNop) (sSeq (sIf (cQ 4 (eCall (xS 129 (gI (eLoc 1) gNil) csX11_212) rt_129) (eInt 7)) (sRet (eInt (-2))) sNop) (sSeq (sIf (cZ 0 (eLoc 1)) (sRet (eInt (-3))) sNop) (sSeq (sCall (xV 144 (rFld (rLoc 0 0) 101 flX11_73) gNil cvX11_271_144) rt_144) (sRet (eCall (xV 176 (rFld (rLoc 0 0) 117 flX11_100) (gI (eLoc 1) (gI (eLoc 2) gNil)) cvX11_463_176) rt_176)))))))
set_option maxRecDepth 100000 in
theorem ck_V_round : B_V_round.1.1 0 0 0 = some none := by decide +kernel
abbrev K_V_row : bK := (RX11, cX11_row, 3, some .int, fun _ _ _ => True)
def B_V_row : ES K_V_row := (sSeq (sIf (cOr (cNot (cZ 1 (eCall (xS 117 (gI (eLoc 1) (gI (eInt 0) (gI (eSub (eFld (rFld (rLoc 0 0) 117 flX11_100) flX11_466) (eInt 1)) gNil))) csX11_117) rt_117))) (cNot (cZ 1 (eCall (xS 117 (gI (eLoc 2) (gI (eInt 0) (gI (eInt 1) gNil))) csX11_117) rt_117)))) (sRet (eInt (-9))) sNop) (sRet (eIte (cZ 0 (eLoc 2)) (eAI 7 (rFld (rFld (rLoc 0 0) 117 flX11_100) 118 flX11_467) (eLoc 1)) (eAI 7 (rFld (rFld (rLoc 0 0) 117 flX11_100) 119 flX11_470) (eLoc 1)))))
set_option maxRecDepth 100000 in
theorem ck_V_row : B_V_row.1.1 0 0 0 = some none := by decide +kernel
abbrev K_V_alterRow : bK := (RX11, cX11_alterRow, 6, some .int, fun _ _ _ => True)
def B_V_alterRow : ES K_V_alterRow := (sSeq (sIf (cOr (cNot (cZ 1 (eCall (xS 117 (gI (eLoc 1) (gI (eInt 0) (gI (eSub (eFld (rFld (rLoc 0 0) 117 flX11_100) flX11_466) (eInt 1)) gNil))) csX11_117) rt_117))) (cNot (cZ 1 (eCall (xS 117 (gI (eLoc 2) (gI (eInt 0) (gI (eInt 1) gNil))) csX11_117) rt_117)))) (sRet (eInt (-9))) sNop) (sSeq (sSetQ 4 (cZ 0 (eLoc 2)) (rFld (rFld (rLoc 0 0) 117 flX11_100) 118 flX11_467) (rFld (rFld (rLoc 0 0) 117 flX11_100) 119 flX11_470)) (sSeq (sSet 5 (eAD 4 (eLoc 1))) (sSeq (sPutD 4 (eLoc 1) (eLoc 3)) (sRet (eLoc 5))))))
set_option maxRecDepth 100000 in
theorem ck_V_alterRow : B_V_alterRow.1.1 0 0 0 = some none := by decide +kernel
abbrev K_V_dropRow : bK := (RX11, cX11_dropRow, 1, some .int, fun _ _ _ => True)
def B_V_dropRow : ES K_V_dropRow := (sSeq (sIf (cZ 0 (eFld (rFld (rLoc 0 0) 117 flX11_100) flX11_466)) (sRet (eInt (-3))) sNop) (sSeq (sOpF 1 (rFld (rLoc 0 0) 117 flX11_100) (eInt 1) fpX11_466) (sRet (eFld (rFld (rLoc 0 0) 117 flX11_100) flX11_466))))
set_option maxRecDepth 100000 in
theorem ck_V_dropRow : B_V_dropRow.1.1 0 0 0 = some none := by decide +kernel
abbrev K_V_judge : bK := (RX11, cX11_judge, 1, some .int, fun _ _ _ => True)
def B_V_judge : ES K_V_judge := (sSeq (sIf (cZ 0 (eFld (rFld (rLoc 0 0) 117 flX11_100) flX11_473)) (sRet (eInt (-3))) sNop) (sRet (eAdd (eCall (xV 177 (rFld (rLoc 0 0) 117 flX11_100) gNil cvX11_476_177) rt_177) (eInt 1))))
set_option maxRecDepth 100000 in
theorem ck_V_judge : B_V_judge.1.1 0 0 0 = some none := by decide +kernel
abbrev K_V_years : bK := (RX11, cX11_years, 4, some .int, fun _ _ _ => True)
def B_V_years : ES K_V_years := (sSeq (sIf (cOr (cNot (cZ 1 (eCall (xS 178 (gI (eLoc 1) (gI (eLoc 2) gNil)) csX11_479) rt_178))) (cNot (cZ 1 (eCall (xS 117 (gI (eLoc 3) (gI (eInt 0) (gI (eInt 300) gNil))) csX11_117) rt_117)))) (sRet (eInt (-1))) sNop) (sRet (eCall (xS 179 (gI (eLoc 1) (gI (eLoc 2) (gI (eLoc 3) (gI (eInt 60) gNil)))) csX11_482) rt_179)))
set_option maxRecDepth 100000 in
theorem ck_V_years : B_V_years.1.1 0 0 0 = some none := by decide +kernel
abbrev K_V_rate : bK := (RX11, cX11_rate, 8, some .int, fun _ _ _ => True)
def L_V_rate_1c : EC K_V_rate := (cAnd (cQ 2 (eLoc 6) (eInt 300)) (cQ 2 (eLoc 4) (eLoc 5)))
def L_V_rate_1b : ES K_V_rate := (sSeq (sSet 7 (eDiv (eAdd (eLoc 4) (eLoc 5)) (eInt 2))) (sIf (cQ 0 (eCall (xS 179 (gI (eLoc 1) (gI (eLoc 2) (gI (eLoc 7) (gI (eLoc 3) gNil)))) csX11_482) rt_179) (eInt (-3))) (sSet 4 (eAdd (eLoc 7) (eInt 1))) (sSet 5 (eLoc 7))))
def L_V_rate_1s : ES K_V_rate := (sInc 6 1)
def L_V_rate_1 : ES K_V_rate := sLp 98 L_V_rate_1c L_V_rate_1b L_V_rate_1s
def B_V_rate : ES K_V_rate := (sSeq (sIf (cOr (cNot (cZ 1 (eCall (xS 178 (gI (eLoc 1) (gI (eLoc 2) gNil)) csX11_479) rt_178))) (cNot (cZ 1 (eCall (xS 117 (gI (eLoc 3) (gI (eInt 1) (gI (eInt 60) gNil))) csX11_117) rt_117)))) (sRet (eInt (-1))) sNop) (sSeq (sIf (cQ 0 (eCall (xS 179 (gI (eLoc 1) (gI (eLoc 2) (gI (eInt 300) (gI (eLoc 3) gNil)))) csX11_482) rt_179) (eInt (-3))) (sRet (eInt (-3))) sNop) (sSeq (sSet 4 (eInt 0)) (sSeq (sSet 5 (eInt 300)) (sSeq (sSeq (sSet 6 (eInt 0)) L_V_rate_1) (sRet (eLoc 4)))))))
set_option maxRecDepth 100000 in
theorem ck_V_rate : B_V_rate.1.1 0 0 0 = some none := by decide +kernel
abbrev K_V_sheet : bK := (RX11, cX11_sheet, 4, some .int, fun _ _ _ => True)
def B_V_sheet : ES K_V_sheet := (sSeq (sIf (cOr (cNot (cZ 1 (eCall (xS 121 (gI (eLoc 1) gNil) csX11_148) rt_121))) (cNot (cZ 1 (eCall (xS 117 (gI (eLoc 2) (gI (eInt (-1)) (gI (eInt 4) gNil))) csX11_117) rt_117)))) (sRet (eInt (-1))) sNop) (sSeq (sIf (cQ 0 (eLoc 2) (eInt (-1))) (sSeq (sPutA 4 (rFld (rFld (rLoc 0 0) 124 flX11_109) 125 flX11_485) (eLoc 1) (eInt (-1))) (sRet (eInt 1))) sNop) (sSeq (sIf (cQ 4 (eLoc 3) (eInt 40)) (sRet (eInt (-1))) sNop) (sSeq (sIf (cZ 2 (eLoc 3)) (sRet (eInt (-14))) sNop) (sSeq (sCall (xV 180 (rFld (rLoc 0 0) 124 flX11_109) (gI (eLoc 1) (gI (eLoc 2) (gI (eLoc 3) gNil))) cvX11_488_180) rt_180) (sRet (eInt 1)))))))
set_option maxRecDepth 100000 in
theorem ck_V_sheet : B_V_sheet.1.1 0 0 0 = some none := by decide +kernel
abbrev K_V_put : bK := (RX11, cX11_put, 4, some .int, fun _ _ _ => True)
def B_V_put : ES K_V_put := (sSeq (sIf (cNot (cZ 1 (eCall (xS 121 (gI (eLoc 1) gNil) csX11_148) rt_121))) (sRet (eInt (-1))) sNop) (sSeq (sIf (cZ 2 (eAI 4 (rFld (rFld (rLoc 0 0) 124 flX11_109) 125 flX11_485) (eLoc 1))) (sRet (eInt (-11))) sNop) (sSeq (sIf (cNot (cZ 1 (eCall (xS 117 (gI (eLoc 2) (gI (eInt 0) (gI (eSub (eAI 4 (rFld (rFld (rLoc 0 0) 124 flX11_109) 126 flX11_155) (eLoc 1)) (eInt 1)) gNil))) csX11_117) rt_117))) (sRet (eInt (-12))) sNop) (sSeq (sPutA 160 (rFld (rFld (rLoc 0 0) 124 flX11_109) 127 flX11_164) (eAdd (eMul (eLoc 1) (eInt 40)) (eLoc 2)) (eCall (xS 181 (gI (eLoc 3) (gI (eAI 4 (rFld (rFld (rLoc 0 0) 124 flX11_109) 125 flX11_485) (eLoc 1)) gNil)) csX11_492) rt_181)) (sRet (eInt 1))))))
set_option maxRecDepth 100000 in
theorem ck_V_put : B_V_put.1.1 0 0 0 = some none := by decide +kernel
abbrev K_V_item : bK := (RX11, cX11_item, 5, some .int, fun _ _ _ => True)
def B_V_item : ES K_V_item := (sSeq (sIf (cOr (cNot (cZ 1 (eCall (xS 121 (gI (eLoc 1) gNil) csX11_148) rt_121))) (cNot (cZ 1 (eCall (xS 117 (gI (eLoc 2) (gI (eInt 0) (gI (eInt 4) gNil))) csX11_117) rt_117)))) (sRet (eInt (-1))) sNop) (sSeq (sSet 4 (eCall (xV 122 (rFld (rLoc 0 0) 124 flX11_109) (gI (eLoc 1) (gI (eLoc 2) gNil)) cvX11_151_122) rt_122)) (sSeq (sIf (cZ 1 (eLoc 4)) (sRet (eLoc 4)) sNop) (sSeq (sIf (cNot (cZ 1 (eCall (xS 117 (gI (eLoc 3) (gI (eInt 0) (gI (eSub (eAI 4 (rFld (rFld (rLoc 0 0) 124 flX11_109) 126 flX11_155) (eLoc 1)) (eInt 1)) gNil))) csX11_117) rt_117))) (sRet (eInt (-12))) sNop) (sRet (eAI 160 (rFld (rFld (rLoc 0 0) 124 flX11_109) 127 flX11_164) (eAdd (eMul (eLoc 1) (eInt 40)) (eLoc 3))))))))
set_option maxRecDepth 100000 in
theorem ck_V_item : B_V_item.1.1 0 0 0 = some none := by decide +kernel
abbrev K_V_shelf : bK := (RX11, cX11_shelf, 4, some .int, fun _ _ _ => True)
def B_V_shelf : ES K_V_shelf := (sSeq (sIf (cNot (cZ 1 (eCall (xS 182 (gI (eLoc 1) gNil) csX11_495) rt_182))) (sRet (eInt (-1))) sNop) (sSw (eLoc 2) (tCase 0 (sRet (eIte (cZ 1 (eCall (xV 135 (rLoc 0 0) (gI (eLoc 3) gNil) cvX11_236_135) rt_135)) (eCall (xV 183 (rFld (rLoc 0 0) 124 flX11_109) (gI (eLoc 1) (gI (eInt 1) (gI (eLoc 3) gNil))) cvX11_498_183) rt_183) (eInt (-1)))) (tCase 1 (sRet (eIte (cZ 1 (eCall (xV 160 (rLoc 0 0) (gI (eLoc 3) gNil) cvX11_385_160) rt_160)) (eCall (xV 183 (rFld (rLoc 0 0) 124 flX11_109) (gI (eLoc 1) (gI (eInt 2) (gI (eLoc 3) gNil))) cvX11_498_183) rt_183) (eInt (-1)))) (tCase 2 (sRet (eIte (cZ 1 (eCall (xS 121 (gI (eLoc 3) gNil) csX11_148) rt_121)) (eCall (xV 184 (rFld (rLoc 0 0) 124 flX11_109) (gI (eLoc 1) (gI (eLoc 3) gNil)) cvX11_502_184) rt_184) (eInt (-1)))) (tCase 3 (sRet (eCall (xV 183 (rFld (rLoc 0 0) 124 flX11_109) (gI (eLoc 1) (gI (eInt 0) (gI (eInt 0) gNil))) cvX11_498_183) rt_183)) (tDef (sRet (eInt (-1))))))))))
set_option maxRecDepth 100000 in
theorem ck_V_shelf : B_V_shelf.1.1 0 0 0 = some none := by decide +kernel
abbrev K_V_taken : bK := (RX11, cX11_taken, 4, some .int, fun _ _ _ => True)
def B_V_taken : ES K_V_taken := (sSeq (sSet 3 (eCall (xS 117 (gI (eLoc 2) (gI (eInt 10) (gI (eInt 14) gNil))) csX11_117) rt_117)) (sSeq (sIf (cOr (cNot (cZ 1 (eCall (xS 182 (gI (eLoc 1) gNil) csX11_495) rt_182))) (cAnd (cNot (cZ 1 (eCall (xS 117 (gI (eLoc 2) (gI (eInt 0) (gI (eInt 6) gNil))) csX11_117) rt_117))) (cNot (cZ 1 (eLoc 3))))) (sRet (eInt (-1))) sNop) (sRet (eIte (cZ 1 (eLoc 3)) (eCall (xV 185 (rFld (rLoc 0 0) 124 flX11_109) (gI (eLoc 1) (gI (eSub (eLoc 2) (eInt 10)) gNil)) cvX11_505_185) rt_185) (eCall (xV 186 (rFld (rLoc 0 0) 124 flX11_109) (gI (eLoc 1) (gI (eLoc 2) gNil)) cvX11_508_186) rt_186)))))
set_option maxRecDepth 100000 in
theorem ck_V_taken : B_V_taken.1.1 0 0 0 = some none := by decide +kernel
abbrev K_V_deal : bK := (RX11, cX11_deal, 4, some .int, fun _ _ _ => True)
def B_V_deal : ES K_V_deal := (sSeq (sPutI (rFld (rLoc 0 0) 124 flX11_109) (eInt 0) fpX11_511) (sSeq (sIf (cOr (cNot (cZ 1 (eCall (xS 182 (gI (eLoc 1) gNil) csX11_495) rt_182))) (cNot (cZ 1 (eCall (xS 117 (gI (eLoc 2) (gI (eInt 0) (gI (eInt 3) gNil))) csX11_117) rt_117)))) (sRet (eInt 0)) sNop) (sRet (eCall (xV 187 (rFld (rLoc 0 0) 124 flX11_109) (gI (eLoc 1) (gI (eLoc 2) (gI (eLoc 3) gNil))) cvX11_514_187) rt_187))))
set_option maxRecDepth 100000 in
theorem ck_V_deal : B_V_deal.1.1 0 0 0 = some none := by decide +kernel
abbrev K_V_trace : bK := (RX11, cX11_trace, 2, some .int, fun _ _ _ => True)
def B_V_trace : ES K_V_trace := (sRet (eIte (cZ 1 (eCall (xS 117 (gI (eLoc 1) (gI (eInt 0) (gI (eSub (eFld (rFld (rLoc 0 0) 124 flX11_109) flX11_511) (eInt 1)) gNil))) csX11_117) rt_117)) (eAI 30 (rFld (rFld (rLoc 0 0) 124 flX11_109) 131 flX11_517) (eLoc 1)) (eInt (-3))))
set_option maxRecDepth 100000 in
theorem ck_V_trace : B_V_trace.1.1 0 0 0 = some none := by decide +kernel
abbrev K_V_many : bK := (RX11, cX11_many, 2, some .int, fun _ _ _ => True)
def B_V_many : ES K_V_many := (sSw (eLoc 1) (tCase 0 (sRet (eFld (rFld (rLoc 0 0) 79 flX11_52) flX11_357)) (tCase 1 (sRet (eFld (rFld (rLoc 0 0) 1 flX11_10) flX11_176)) (tCase 2 (sRet (eFld (rFld (rLoc 0 0) 17 flX11_22) flX11_217)) (tCase 3 (sRet (eCall (xV 188 (rFld (rLoc 0 0) 17 flX11_22) gNil cvX11_520_188) rt_188)) (tCase 4 (sRet (eFld (rFld (rLoc 0 0) 37 flX11_32) flX11_291)) (tCase 5 (sRet (eFld (rFld (rLoc 0 0) 37 flX11_32) flX11_309)) (tCase 6 (sRet (eFld (rFld (rLoc 0 0) 37 flX11_32) flX11_324)) (tCase 7 (sRet (eFld (rFld (rLoc 0 0) 37 flX11_32) flX11_345)) (tCase 8 (sRet (eFld (rFld (rLoc 0 0) 63 flX11_42) flX11_370)) (tCase 9 (sRet (eFld (rFld (rLoc 0 0) 79 flX11_52) flX11_379)) (tCase 10 (sRet (eCall (xV 189 (rFld (rLoc 0 0) 79 flX11_52) gNil cvX11_523_189) rt_189)) (tCase 11 (sRet (eFld (rFld (rLoc 0 0) 79 flX11_52) flX11_391)) (tCase 12 (sRet (eFld (rFld (rLoc 0 0) 79 flX11_52) flX11_443)) (tCase 13 (sRet (eFld (rFld (rLoc 0 0) 117 flX11_100) flX11_466)) (tCase 14 (sRet (eFld (rFld (rLoc 0 0) 109 flX11_82) flX11_360)) (tCase 15 (sRet (eFld (rFld (rLoc 0 0) 124 flX11_109) flX11_511)) (tCase 16 (sRet (eFld (rFld (rLoc 0 0) 1 flX11_10) flX11_131)) (tDef (sRet (eInt (-1))))))))))))))))))))))
set_option maxRecDepth 100000 in
theorem ck_V_many : B_V_many.1.1 0 0 0 = some none := by decide +kernel
abbrev K_V_keep : bK := (RX11, cX11_keep, 1, some .int, fun _ _ _ => True)
def B_V_keep : ES K_V_keep := (sSeq (sCall (xV 190 (rFld (rLoc 0 0) 9 flX11_16) (gR (rFld (rLoc 0 0) 1 flX11_10) gNil) cvX11_526_190) rt_190) (sSeq (sCall (xV 191 (rFld (rLoc 0 0) 27 flX11_26) (gR (rFld (rLoc 0 0) 17 flX11_22) gNil) cvX11_530_191) rt_191) (sSeq (sCall (xV 192 (rFld (rLoc 0 0) 50 flX11_36) (gR (rFld (rLoc 0 0) 37 flX11_32) gNil) cvX11_533_192) rt_192) (sSeq (sCall (xV 193 (rFld (rLoc 0 0) 71 flX11_46) (gR (rFld (rLoc 0 0) 63 flX11_42) gNil) cvX11_536_193) rt_193) (sSeq (sCall (xV 194 (rFld (rLoc 0 0) 86 flX11_56) (gR (rFld (rLoc 0 0) 79 flX11_52) gNil) cvX11_538_194) rt_194) (sSeq (sPutZ (rLoc 0 0) (eInt 1) fpX11_541) (sRet (eInt 1))))))))
set_option maxRecDepth 100000 in
theorem ck_V_keep : B_V_keep.1.1 0 0 0 = some none := by decide +kernel
abbrev K_V_again : bK := (RX11, cX11_again, 1, some .int, fun _ _ _ => True)
def B_V_again : ES K_V_again := (sSeq (sIf (cNot (cZ 1 (eFld (rLoc 0 0) flX11_541))) (sRet (eInt (-3))) sNop) (sSeq (sCall (xV 195 (rFld (rLoc 0 0) 1 flX11_10) (gR (rFld (rLoc 0 0) 9 flX11_16) gNil) cvX11_526_195) rt_195) (sSeq (sCall (xV 196 (rFld (rLoc 0 0) 17 flX11_22) (gR (rFld (rLoc 0 0) 27 flX11_26) gNil) cvX11_530_196) rt_196) (sSeq (sCall (xV 197 (rFld (rLoc 0 0) 37 flX11_32) (gR (rFld (rLoc 0 0) 50 flX11_36) gNil) cvX11_533_197) rt_197) (sSeq (sCall (xV 198 (rFld (rLoc 0 0) 63 flX11_42) (gR (rFld (rLoc 0 0) 71 flX11_46) gNil) cvX11_536_198) rt_198) (sSeq (sCall (xV 199 (rFld (rLoc 0 0) 79 flX11_52) (gR (rFld (rLoc 0 0) 86 flX11_56) gNil) cvX11_538_199) rt_199) (sSeq (sCall (xV 118 (rFld (rLoc 0 0) 101 flX11_73) gNil cvX11_128_118) rt_118) (sRet (eInt 1)))))))))
set_option maxRecDepth 100000 in
theorem ck_V_again : B_V_again.1.1 0 0 0 = some none := by decide +kernel
abbrev K_V_isReach : bK := (RX11, cX11_isReach, 1, some .boolean, fun _ _ _ => True)
def B_V_isReach : ES K_V_isReach := (sRet (eCall (xS 117 (gI (eLoc 0) (gI (eInt 0) (gI (eInt 11) gNil))) csX11_117) rt_117))
set_option maxRecDepth 100000 in
theorem ck_V_isReach : B_V_isReach.1.1 0 0 0 = some none := by decide +kernel
abbrev K_V_within : bK := (RX11, cX11_within, 3, some .boolean, fun _ _ _ => True)
def B_V_within : ES K_V_within := (sRet (eIte (cAnd (cQ 3 (eLoc 0) (eLoc 1)) (cQ 5 (eLoc 0) (eLoc 2))) (eInt 1) (eInt 0)))
set_option maxRecDepth 100000 in
theorem ck_V_within : B_V_within.1.1 0 0 0 = some none := by decide +kernel
abbrev K_V_isGate : bK := (RX11, cX11_isGate, 2, some .boolean, fun _ _ _ => True)
def B_V_isGate : ES K_V_isGate := (sRet (eIte (cAnd (cZ 1 (eCall (xS 117 (gI (eLoc 0) (gI (eInt 0) (gI (eInt 99) gNil))) csX11_117) rt_117)) (cZ 1 (eCall (xS 125 (gI (eLoc 1) gNil) csX11_191) rt_125))) (eInt 1) (eInt 0)))
set_option maxRecDepth 100000 in
theorem ck_V_isGate : B_V_isGate.1.1 0 0 0 = some none := by decide +kernel
abbrev K_V_isWay : bK := (RX11, cX11_isWay, 1, some .boolean, fun _ _ _ => True)
def B_V_isWay : ES K_V_isWay := (sRet (eCall (xS 117 (gI (eLoc 0) (gI (eInt 0) (gI (eInt 2) gNil))) csX11_117) rt_117))
set_option maxRecDepth 100000 in
theorem ck_V_isWay : B_V_isWay.1.1 0 0 0 = some none := by decide +kernel
abbrev K_V_isSheet : bK := (RX11, cX11_isSheet, 1, some .boolean, fun _ _ _ => True)
def B_V_isSheet : ES K_V_isSheet := (sRet (eCall (xS 117 (gI (eLoc 0) (gI (eInt 0) (gI (eInt 3) gNil))) csX11_117) rt_117))
set_option maxRecDepth 100000 in
theorem ck_V_isSheet : B_V_isSheet.1.1 0 0 0 = some none := by decide +kernel
abbrev K_V_isNight : bK := (RX11, cX11_isNight, 2, some .boolean, fun _ _ _ => True)
def B_V_isNight : ES K_V_isNight := (sRet (eIte (cAnd (cZ 1 (eCall (xS 120 (gI (eLoc 0) gNil) csX11_145) rt_120)) (cZ 1 (eCall (xS 133 (gI (eLoc 1) gNil) csX11_230) rt_133))) (eInt 1) (eInt 0)))
set_option maxRecDepth 100000 in
theorem ck_V_isNight : B_V_isNight.1.1 0 0 0 = some none := by decide +kernel
abbrev K_V_isMinute : bK := (RX11, cX11_isMinute, 1, some .boolean, fun _ _ _ => True)
def B_V_isMinute : ES K_V_isMinute := (sRet (eCall (xS 117 (gI (eLoc 0) (gI (eInt 0) (gI (eInt 179) gNil))) csX11_117) rt_117))
set_option maxRecDepth 100000 in
theorem ck_V_isMinute : B_V_isMinute.1.1 0 0 0 = some none := by decide +kernel
abbrev K_V_isHouse : bK := (RX11, cX11_isHouse, 2, some .boolean, fun _ _ _ => True)
def B_V_isHouse : ES K_V_isHouse := (sRet (eCall (xS 117 (gI (eLoc 1) (gI (eInt 0) (gI (eSub (eFld (rFld (rLoc 0 0) 1 flX11_10) flX11_176) (eInt 1)) gNil))) csX11_117) rt_117))
set_option maxRecDepth 100000 in
theorem ck_V_isHouse : B_V_isHouse.1.1 0 0 0 = some none := by decide +kernel
abbrev K_V_isEngineer : bK := (RX11, cX11_isEngineer, 1, some .boolean, fun _ _ _ => True)
def B_V_isEngineer : ES K_V_isEngineer := (sRet (eCall (xS 117 (gI (eLoc 0) (gI (eInt 0) (gI (eInt 3) gNil))) csX11_117) rt_117))
set_option maxRecDepth 100000 in
theorem ck_V_isEngineer : B_V_isEngineer.1.1 0 0 0 = some none := by decide +kernel
abbrev K_V_isStart : bK := (RX11, cX11_isStart, 1, some .boolean, fun _ _ _ => True)
def B_V_isStart : ES K_V_isStart := (sRet (eCall (xS 117 (gI (eLoc 0) (gI (eInt 0) (gI (eInt 29) gNil))) csX11_117) rt_117))
set_option maxRecDepth 100000 in
theorem ck_V_isStart : B_V_isStart.1.1 0 0 0 = some none := by decide +kernel
abbrev K_V_isSeenRow : bK := (RX11, cX11_isSeenRow, 2, some .boolean, fun _ _ _ => True)
def B_V_isSeenRow : ES K_V_isSeenRow := (sRet (eCall (xS 117 (gI (eLoc 1) (gI (eInt 0) (gI (eSub (eFld (rFld (rLoc 0 0) 17 flX11_22) flX11_217) (eInt 1)) gNil))) csX11_117) rt_117))
set_option maxRecDepth 100000 in
theorem ck_V_isSeenRow : B_V_isSeenRow.1.1 0 0 0 = some none := by decide +kernel
abbrev K_V_isRide : bK := (RX11, cX11_isRide, 4, some .boolean, fun _ _ _ => True)
def B_V_isRide : ES K_V_isRide := (sRet (eIte (cAnd (cAnd (cAnd (cZ 1 (eCall (xS 125 (gI (eLoc 0) gNil) csX11_191) rt_125)) (cZ 1 (eCall (xS 116 (gI (eLoc 1) gNil) csX11_113) rt_116))) (cZ 1 (eCall (xS 117 (gI (eLoc 2) (gI (eInt 100) (gI (eInt 999) gNil))) csX11_117) rt_117))) (cZ 1 (eCall (xS 117 (gI (eLoc 3) (gI (eInt 0) (gI (eInt 30) gNil))) csX11_117) rt_117))) (eInt 1) (eInt 0)))
set_option maxRecDepth 100000 in
theorem ck_V_isRide : B_V_isRide.1.1 0 0 0 = some none := by decide +kernel
abbrev K_V_isPerson : bK := (RX11, cX11_isPerson, 2, some .boolean, fun _ _ _ => True)
def B_V_isPerson : ES K_V_isPerson := (sRet (eCall (xS 117 (gI (eLoc 1) (gI (eInt 0) (gI (eSub (eFld (rFld (rLoc 0 0) 37 flX11_32) flX11_291) (eInt 1)) gNil))) csX11_117) rt_117))
set_option maxRecDepth 100000 in
theorem ck_V_isPerson : B_V_isPerson.1.1 0 0 0 = some none := by decide +kernel
abbrev K_V_isThing : bK := (RX11, cX11_isThing, 2, some .boolean, fun _ _ _ => True)
def B_V_isThing : ES K_V_isThing := (sRet (eCall (xS 117 (gI (eLoc 1) (gI (eInt 0) (gI (eSub (eFld (rFld (rLoc 0 0) 37 flX11_32) flX11_324) (eInt 1)) gNil))) csX11_117) rt_117))
set_option maxRecDepth 100000 in
theorem ck_V_isThing : B_V_isThing.1.1 0 0 0 = some none := by decide +kernel
abbrev K_V_isClaim : bK := (RX11, cX11_isClaim, 2, some .boolean, fun _ _ _ => True)
def B_V_isClaim : ES K_V_isClaim := (sRet (eCall (xS 117 (gI (eLoc 1) (gI (eInt 0) (gI (eSub (eFld (rFld (rLoc 0 0) 79 flX11_52) flX11_379) (eInt 1)) gNil))) csX11_117) rt_117))
set_option maxRecDepth 100000 in
theorem ck_V_isClaim : B_V_isClaim.1.1 0 0 0 = some none := by decide +kernel
abbrev K_V_isDay : bK := (RX11, cX11_isDay, 1, some .boolean, fun _ _ _ => True)
def B_V_isDay : ES K_V_isDay := (sRet (eCall (xS 117 (gI (eLoc 0) (gI (eInt 0) (gI (eInt 999) gNil))) csX11_117) rt_117))
set_option maxRecDepth 100000 in
theorem ck_V_isDay : B_V_isDay.1.1 0 0 0 = some none := by decide +kernel
abbrev K_V_isDebt : bK := (RX11, cX11_isDebt, 2, some .boolean, fun _ _ _ => True)
def B_V_isDebt : ES K_V_isDebt := (sRet (eIte (cAnd (cZ 1 (eCall (xS 117 (gI (eLoc 0) (gI (eInt 0) (gI (eLdw 99999 kiX11_442) gNil))) csX11_117) rt_117)) (cZ 1 (eCall (xS 117 (gI (eLoc 1) (gI (eInt 0) (gI (eInt 9999) gNil))) csX11_117) rt_117))) (eInt 1) (eInt 0)))
set_option maxRecDepth 100000 in
theorem ck_V_isDebt : B_V_isDebt.1.1 0 0 0 = some none := by decide +kernel
abbrev K_V_yearsTillPaid : bK := (RX11, cX11_yearsTillPaid, 7, some .int, fun _ _ _ => True)
def L_V_yearsTillPaid_1c : EC K_V_yearsTillPaid := (cQ 5 (eLoc 6) (eLoc 3))
def L_V_yearsTillPaid_1b : ES K_V_yearsTillPaid := (sSeq (sIf (cZ 0 (eLoc 5)) (sRet (eLoc 6)) sNop) (sSeq (sSet 5 (eAdd (eLoc 5) (eDiv (eAdd (eMul (eLoc 5) (eInt 5)) (eInt 99)) (eInt 100)))) (sSet 5 (eMax (eInt 0) (eSub (eLoc 5) (eLoc 4)) cmX11_545))))
def L_V_yearsTillPaid_1s : ES K_V_yearsTillPaid := (sInc 6 1)
def L_V_yearsTillPaid_1 : ES K_V_yearsTillPaid := sLp 54 L_V_yearsTillPaid_1c L_V_yearsTillPaid_1b L_V_yearsTillPaid_1s
def B_V_yearsTillPaid : ES K_V_yearsTillPaid := (sSeq (sSet 4 (eDiv (eMul (eLoc 1) (eLoc 2)) (eInt 100))) (sSeq (sSet 5 (eLoc 0)) (sSeq (sSeq (sSet 6 (eInt 0)) L_V_yearsTillPaid_1) (sRet (eInt (-3))))))
set_option maxRecDepth 100000 in
theorem ck_V_yearsTillPaid : B_V_yearsTillPaid.1.1 0 0 0 = some none := by decide +kernel
abbrev K_V_narrowed : bK := (RX11, cX11_narrowed, 2, some .int, fun _ _ _ => True)
def B_V_narrowed : ES K_V_narrowed := (sSw (eLoc 1) (tCase 0 (sRet (eI2B (eLoc 0))) (tCase 1 (sRet (eI2S (eLoc 0))) (tCase 4 (sRet (eIte (cZ 0 (eLoc 0)) (eInt 0) (eInt 1))) (tDef (sRet (eLoc 0)))))))
set_option maxRecDepth 100000 in
theorem ck_V_narrowed : B_V_narrowed.1.1 0 0 0 = some none := by decide +kernel
abbrev K_V_isShelf : bK := (RX11, cX11_isShelf, 1, some .boolean, fun _ _ _ => True)
def B_V_isShelf : ES K_V_isShelf := (sRet (eCall (xS 117 (gI (eLoc 0) (gI (eInt 0) (gI (eInt 3) gNil))) csX11_117) rt_117))
set_option maxRecDepth 100000 in
theorem ck_V_isShelf : B_V_isShelf.1.1 0 0 0 = some none := by decide +kernel
