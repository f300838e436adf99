/-! bodies: bodyM -/
abbrev K_M_reach : bK := (RX12, cX12_reach, 5, some .int, fun _ _ _ => True)
def B_M_reach : ES K_M_reach := (sSeq (sIf (cOr (cOr (cNot (cZ 1 (eCall (xS 200 (gI (eLoc 1) gNil) csX12_248) rt_200))) (cNot (cZ 1 (eCall (xS 201 (gI (eLoc 2) (gI (eInt 1) (gI (eInt 50) gNil))) csX12_244) rt_201)))) (cNot (cZ 1 (eCall (xS 201 (gI (eLoc 3) (gI (eInt 2) (gI (eInt 9) gNil))) csX12_244) rt_201)))) (sRet (eInt (-1))) sNop) (sSeq (sSet 4 (eAdd (eMul (eInt 10) (eAI 12 (rFld (rLoc 0 132) 134 flX12_13) (eLoc 1))) (eAI 12 (rFld (rLoc 0 132) 135 flX12_16) (eLoc 1)))) (sSeq (sPutA 12 (rFld (rLoc 0 132) 134 flX12_13) (eLoc 1) (eLoc 2)) (sSeq (sPutA 12 (rFld (rLoc 0 132) 135 flX12_16) (eLoc 1) (eLoc 3)) (sSeq (sPutZ (rLoc 0 132) (eInt 0) fpX12_241) (sRet (eLoc 4)))))))
set_option maxRecDepth 100000 in
theorem ck_M_reach : B_M_reach.1.1 0 0 0 = some none := by decide +kernel
abbrev K_M_pond : bK := (RX12, cX12_pond, 3, some .int, fun _ _ _ => True)
def B_M_pond : ES K_M_pond := (sSeq (sIf (cNot (cZ 1 (eCall (xS 201 (gI (eLoc 1) (gI (eInt 0) (gI (eInt 9999) gNil))) csX12_244) rt_201))) (sRet (eInt (-1))) sNop) (sSeq (sSet 2 (eAI 14 (rFld (rLoc 0 132) 133 flX12_7) (eInt 0))) (sSeq (sPutA 14 (rFld (rLoc 0 132) 133 flX12_7) (eInt 0) (eLoc 1)) (sSeq (sPutZ (rLoc 0 132) (eInt 0) fpX12_241) (sRet (eLoc 2))))))
set_option maxRecDepth 100000 in
theorem ck_M_pond : B_M_pond.1.1 0 0 0 = some none := by decide +kernel
abbrev K_M_gate : bK := (RX12, cX12_gate, 4, some .int, fun _ _ _ => True)
def B_M_gate : ES K_M_gate := (sSeq (sIf (cNot (cZ 1 (eCall (xS 202 (gI (eLoc 1) (gI (eLoc 2) gNil)) csX12_255) rt_202))) (sRet (eInt (-1))) sNop) (sSeq (sSet 3 (eAI 14 (rFld (rLoc 0 132) 133 flX12_7) (eInt 1))) (sSeq (sPutA 14 (rFld (rLoc 0 132) 133 flX12_7) (eInt 1) (eLoc 1)) (sSeq (sPutA 14 (rFld (rLoc 0 132) 133 flX12_7) (eInt 2) (eLoc 2)) (sSeq (sPutZ (rLoc 0 132) (eInt 0) fpX12_241) (sRet (eLoc 3)))))))
set_option maxRecDepth 100000 in
theorem ck_M_gate : B_M_gate.1.1 0 0 0 = some none := by decide +kernel
abbrev K_M_table : bK := (RX12, cX12_table, 5, some .int, fun _ _ _ => True)
def L_M_table_1c : EC K_M_table := (cQ 2 (eLoc 4) (eAI 4 (rFld (rLoc 0 132) 198 flX12_206) (eLoc 2)))
def L_M_table_1b : ES K_M_table := (sSet 3 (eIte (cAnd (cZ 1 (eLoc 3)) (cZ 1 (eCall (xS 201 (gI (eL2I (lAL 160 (rFld (rLoc 0 132) 199 flX12_209) (eAdd (eMul (eInt 40) (eLoc 2)) (eLoc 4)))) (gI (eInt 0) (gI (eInt 999) gNil))) csX12_244) rt_201))) (eInt 1) (eInt 0)))
def L_M_table_1s : ES K_M_table := (sInc 4 1)
def L_M_table_1 : ES K_M_table := sLp 103 L_M_table_1c L_M_table_1b L_M_table_1s
def L_M_table_2c : EC K_M_table := (cQ 2 (eLoc 4) (eAI 4 (rFld (rLoc 0 132) 198 flX12_206) (eLoc 2)))
def L_M_table_2b : ES K_M_table := (sPutA 24 (rFld (rLoc 0 132) 137 flX12_22) (eAdd (eMul (eInt 8) (eLoc 1)) (eLoc 4)) (eL2I (lAL 160 (rFld (rLoc 0 132) 199 flX12_209) (eAdd (eMul (eInt 40) (eLoc 2)) (eLoc 4)))))
def L_M_table_2s : ES K_M_table := (sInc 4 1)
def L_M_table_2 : ES K_M_table := sLp 167 L_M_table_2c L_M_table_2b L_M_table_2s
def B_M_table : ES K_M_table := (sSeq (sIf (cOr (cNot (cZ 1 (eCall (xS 201 (gI (eLoc 1) (gI (eInt 0) (gI (eInt 2) gNil))) csX12_244) rt_201))) (cNot (cZ 1 (eCall (xS 203 (gI (eLoc 2) gNil) csX12_557) rt_203)))) (sRet (eInt (-1))) sNop) (sSeq (sIf (cZ 2 (eAI 4 (rFld (rLoc 0 132) 197 flX12_203) (eLoc 2))) (sRet (eInt (-11))) sNop) (sSeq (sIf (cQ 1 (eAI 4 (rFld (rLoc 0 132) 197 flX12_203) (eLoc 2)) (eInt 1)) (sRet (eInt (-13))) sNop) (sSeq (sSet 3 (eCall (xS 201 (gI (eAI 4 (rFld (rLoc 0 132) 198 flX12_206) (eLoc 2)) (gI (eInt 1) (gI (eInt 8) gNil))) csX12_244) rt_201)) (sSeq (sSeq (sSet 4 (eInt 0)) L_M_table_1) (sSeq (sIf (cNot (cZ 1 (eLoc 3))) (sRet (eInt (-4))) sNop) (sSeq (sPutA 3 (rFld (rLoc 0 132) 136 flX12_19) (eLoc 1) (eAI 4 (rFld (rLoc 0 132) 198 flX12_206) (eLoc 2))) (sSeq (sSeq (sSet 4 (eInt 0)) L_M_table_2) (sSeq (sPutZ (rLoc 0 132) (eInt 0) fpX12_241) (sRet (eAI 4 (rFld (rLoc 0 132) 198 flX12_206) (eLoc 2))))))))))))
set_option maxRecDepth 100000 in
theorem ck_M_table : B_M_table.1.1 0 0 0 = some none := by decide +kernel
abbrev K_M_house : bK := (RX12, cX12_house, 5, some .int, fun _ _ _ => True)
def B_M_house : ES K_M_house := (sSeq (sIf (cOr (cOr (cNot (cZ 1 (eCall (xS 200 (gI (eLoc 1) gNil) csX12_248) rt_200))) (cNot (cZ 1 (eCall (xS 201 (gI (eLoc 2) (gI (eInt 1) (gI (eInt 99) gNil))) csX12_244) rt_201)))) (cNot (cZ 1 (eCall (xS 201 (gI (eLoc 3) (gI (eInt 0) (gI (eInt 999) gNil))) csX12_244) rt_201)))) (sRet (eInt (-1))) sNop) (sSeq (sIf (cQ 0 (eAI 14 (rFld (rLoc 0 132) 133 flX12_7) (eInt 5)) (eInt 10)) (sRet (eInt (-2))) sNop) (sSeq (sSet 4 (eAI 14 (rFld (rLoc 0 132) 133 flX12_7) (eInt 5))) (sSeq (sPutA 10 (rFld (rLoc 0 132) 138 flX12_25) (eLoc 4) (eLoc 1)) (sSeq (sPutA 10 (rFld (rLoc 0 132) 139 flX12_28) (eLoc 4) (eLoc 2)) (sSeq (sPutA 10 (rFld (rLoc 0 132) 140 flX12_31) (eLoc 4) (eLoc 3)) (sSeq (sOpA 14 0 (rFld (rLoc 0 132) 133 flX12_7) (eInt 5) (eInt 1)) (sSeq (sPutZ (rLoc 0 132) (eInt 0) fpX12_241) (sRet (eLoc 4))))))))))
set_option maxRecDepth 100000 in
theorem ck_M_house : B_M_house.1.1 0 0 0 = some none := by decide +kernel
abbrev K_M_depth : bK := (RX12, cX12_depth, 5, some .int, fun _ _ _ => True)
def B_M_depth : ES K_M_depth := (sSeq (sIf (cOr (cOr (cNot (cZ 1 (eCall (xS 204 (gI (eLoc 1) (gI (eLoc 2) gNil)) csX12_267) rt_204))) (cNot (cZ 1 (eCall (xS 200 (gI (eLoc 3) gNil) csX12_248) rt_200)))) (cNot (cZ 1 (eCall (xS 205 (gI (eLoc 4) gNil) csX12_252) rt_205)))) (sRet (eInt (-1))) sNop) (sSeq (sCall (xV 206 (rLoc 0 132) (gI (eLoc 1) (gI (eLoc 2) gNil)) cvX12_270_206) rt_206) (sRet (eAI 2160 (rFld (rLoc 0 132) 179 flX12_148) (eAdd (eMul (eInt 180) (eLoc 3)) (eLoc 4))))))
set_option maxRecDepth 100000 in
theorem ck_M_depth : B_M_depth.1.1 0 0 0 = some none := by decide +kernel
abbrev K_M_falls : bK := (RX12, cX12_falls, 4, some .int, fun _ _ _ => True)
def B_M_falls : ES K_M_falls := (sSeq (sIf (cOr (cNot (cZ 1 (eCall (xS 204 (gI (eLoc 1) (gI (eLoc 2) gNil)) csX12_267) rt_204))) (cNot (cZ 1 (eCall (xV 207 (rLoc 0 132) (gI (eInt 5) (gI (eLoc 3) gNil)) cvX12_274_207) rt_207)))) (sRet (eInt (-1))) sNop) (sSeq (sCall (xV 206 (rLoc 0 132) (gI (eLoc 1) (gI (eLoc 2) gNil)) cvX12_270_206) rt_206) (sRet (eIte (cZ 2 (eAI 10 (rFld (rLoc 0 132) 180 flX12_151) (eLoc 3))) (eInt (-3)) (eAI 10 (rFld (rLoc 0 132) 180 flX12_151) (eLoc 3))))))
set_option maxRecDepth 100000 in
theorem ck_M_falls : B_M_falls.1.1 0 0 0 = some none := by decide +kernel
abbrev K_M_sooner : bK := (RX12, cX12_sooner, 7, some .int, fun _ _ _ => True)
def B_M_sooner : ES K_M_sooner := (sSeq (sIf (cOr (cNot (cZ 1 (eCall (xS 204 (gI (eLoc 1) (gI (eLoc 2) gNil)) csX12_267) rt_204))) (cNot (cZ 1 (eCall (xS 202 (gI (eLoc 3) (gI (eLoc 4) gNil)) csX12_255) rt_202)))) (sRet (eInt (-1))) sNop) (sSeq (sCall (xV 206 (rLoc 0 132) (gI (eLoc 1) (gI (eLoc 2) gNil)) cvX12_270_206) rt_206) (sSeq (sSet 5 (eCall (xV 208 (rLoc 0 132) gNil cvX12_277_208) rt_208)) (sSeq (sCall (xV 209 (rLoc 0 132) (gI (eLoc 1) (gI (eLoc 2) (gI (eLoc 3) (gI (eLoc 4) gNil)))) cvX12_263_209) rt_209) (sSeq (sSet 6 (eSub (eLoc 5) (eCall (xV 208 (rLoc 0 132) gNil cvX12_277_208) rt_208))) (sRet (eIte (cZ 2 (eLoc 6)) (eAdd (eLoc 6) (eInt 1000)) (eLoc 6))))))))
set_option maxRecDepth 100000 in
theorem ck_M_sooner : B_M_sooner.1.1 0 0 0 = some none := by decide +kernel
abbrev K_M_clock : bK := (RX12, cX12_clock, 5, some .int, fun _ _ _ => True)
def B_M_clock : ES K_M_clock := (sSeq (sIf (cOr (cOr (cOr (cOr (cNot (cZ 1 (eCall (xS 200 (gI (eLoc 1) gNil) csX12_248) rt_200))) (cNot (cZ 1 (eCall (xS 201 (gI (eLoc 2) (gI (eInt 1) (gI (eInt 99) gNil))) csX12_244) rt_201)))) (cNot (cZ 1 (eCall (xS 205 (gI (eLoc 3) gNil) csX12_252) rt_205)))) (cNot (cZ 1 (eCall (xS 201 (gI (eLoc 4) (gI (eInt 0) (gI (eInt 999) gNil))) csX12_244) rt_201)))) (cQ 4 (eRem (eLoc 4) (eInt 100)) (eInt 18))) (sRet (eInt (-1))) sNop) (sRet (eCall (xV 210 (rLoc 0 132) (gI (eInt 1) (gI (eLoc 1) (gI (eLoc 3) (gI (eLoc 2) (gI (eSub (eRem (eLoc 4) (eInt 100)) (eInt 9)) (gI (eDiv (eLoc 4) (eInt 100)) gNil)))))) cvX12_281_210) rt_210)))
set_option maxRecDepth 100000 in
theorem ck_M_clock : B_M_clock.1.1 0 0 0 = some none := by decide +kernel
abbrev K_M_mark : bK := (RX12, cX12_mark, 4, some .int, fun _ _ _ => True)
def B_M_mark : ES K_M_mark := (sRet (eIte (cOr (cOr (cNot (cZ 1 (eCall (xS 200 (gI (eLoc 1) gNil) csX12_248) rt_200))) (cNot (cZ 1 (eCall (xS 201 (gI (eLoc 2) (gI (eInt 0) (gI (eInt 999) gNil))) csX12_244) rt_201)))) (cNot (cZ 1 (eCall (xS 201 (gI (eLoc 3) (gI (eLoc 2) (gI (eInt 999) gNil))) csX12_244) rt_201)))) (eInt (-1)) (eCall (xV 210 (rLoc 0 132) (gI (eInt 2) (gI (eLoc 1) (gI (eLoc 2) (gI (eLoc 3) (gI (eInt 0) (gI (eInt 0) gNil)))))) cvX12_281_210) rt_210)))
set_option maxRecDepth 100000 in
theorem ck_M_mark : B_M_mark.1.1 0 0 0 = some none := by decide +kernel
abbrev K_M_word : bK := (RX12, cX12_word, 5, some .int, fun _ _ _ => True)
def B_M_word : ES K_M_word := (sRet (eIte (cOr (cOr (cOr (cNot (cZ 1 (eCall (xS 201 (gI (eLoc 1) (gI (eInt 0) (gI (eInt 3) gNil))) csX12_244) rt_201))) (cNot (cZ 1 (eCall (xS 201 (gI (eLoc 2) (gI (eInt 1) (gI (eInt 7) gNil))) csX12_244) rt_201)))) (cNot (cZ 1 (eCall (xS 201 (gI (eLoc 3) (gI (eInt 0) (gI (eInt 29) gNil))) csX12_244) rt_201)))) (cNot (cZ 1 (eCall (xS 201 (gI (eLoc 4) (gI (eLoc 3) (gI (eInt 29) gNil))) csX12_244) rt_201)))) (eInt (-1)) (eCall (xV 210 (rLoc 0 132) (gI (eInt 3) (gI (eLoc 1) (gI (eLoc 2) (gI (eLoc 3) (gI (eLoc 4) (gI (eInt 0) gNil)))))) cvX12_281_210) rt_210)))
set_option maxRecDepth 100000 in
theorem ck_M_word : B_M_word.1.1 0 0 0 = some none := by decide +kernel
abbrev K_M_tear : bK := (RX12, cX12_tear, 4, some .int, fun _ _ _ => True)
def B_M_tear : ES K_M_tear := (sSeq (sIf (cNot (cZ 1 (eCall (xV 207 (rLoc 0 132) (gI (eInt 6) (gI (eLoc 1) gNil)) cvX12_274_207) rt_207))) (sRet (eInt (-1))) sNop) (sSeq (sSet 3 (eAI 16 (rFld (rLoc 0 132) 147 flX12_52) (eLoc 1))) (sSeq (sPutA 16 (rFld (rLoc 0 132) 147 flX12_52) (eLoc 1) (eIte (cZ 1 (eLoc 2)) (eInt 1) (eInt 0))) (sSeq (sPutZ (rLoc 0 132) (eInt 0) fpX12_241) (sRet (eIte (cQ 0 (eLoc 3) (eAI 16 (rFld (rLoc 0 132) 147 flX12_52) (eLoc 1))) (eInt 0) (eInt 1)))))))
set_option maxRecDepth 100000 in
theorem ck_M_tear : B_M_tear.1.1 0 0 0 = some none := by decide +kernel
abbrev K_M_side : bK := (RX12, cX12_side, 4, some .int, fun _ _ _ => True)
def B_M_side : ES K_M_side := (sSeq (sIf (cOr (cNot (cZ 1 (eCall (xS 201 (gI (eLoc 1) (gI (eInt 0) (gI (eInt 3) gNil))) csX12_244) rt_201))) (cNot (cZ 1 (eCall (xS 201 (gI (eLoc 2) (gI (eInt 0) (gI (eInt 2) gNil))) csX12_244) rt_201)))) (sRet (eInt (-1))) sNop) (sSeq (sSet 3 (eAI 4 (rFld (rLoc 0 132) 148 flX12_55) (eLoc 1))) (sSeq (sPutA 4 (rFld (rLoc 0 132) 148 flX12_55) (eLoc 1) (eLoc 2)) (sRet (eLoc 3)))))
set_option maxRecDepth 100000 in
theorem ck_M_side : B_M_side.1.1 0 0 0 = some none := by decide +kernel
abbrev K_M_doubt : bK := (RX12, cX12_doubt, 5, some .int, fun _ _ _ => True)
def L_M_doubt_1c : EC K_M_doubt := (cQ 2 (eLoc 4) (eInt 4))
def L_M_doubt_1b : ES K_M_doubt := (sIf (cQ 0 (eAI 4 (rFld (rLoc 0 132) 148 flX12_55) (eLoc 4)) (eLoc 1)) (sSeq (sPutA 4 (rFld (rLoc 0 132) 149 flX12_58) (eLoc 4) (eIte (cZ 1 (eLoc 2)) (eInt 1) (eInt 0))) (sInc 3 1)) sNop)
def L_M_doubt_1s : ES K_M_doubt := (sInc 4 1)
def L_M_doubt_1 : ES K_M_doubt := sLp 52 L_M_doubt_1c L_M_doubt_1b L_M_doubt_1s
def B_M_doubt : ES K_M_doubt := (sSeq (sIf (cNot (cZ 1 (eCall (xS 201 (gI (eLoc 1) (gI (eInt 0) (gI (eInt 2) gNil))) csX12_244) rt_201))) (sRet (eInt (-1))) sNop) (sSeq (sSet 3 (eInt 0)) (sSeq (sSeq (sSet 4 (eInt 0)) L_M_doubt_1) (sSeq (sPutZ (rLoc 0 132) (eInt 0) fpX12_241) (sRet (eLoc 3))))))
set_option maxRecDepth 100000 in
theorem ck_M_doubt : B_M_doubt.1.1 0 0 0 = some none := by decide +kernel
abbrev K_M_lets : bK := (RX12, cX12_lets, 4, some .int, fun _ _ _ => True)
def B_M_lets : ES K_M_lets := (sSeq (sIf (cOr (cNot (cZ 1 (eCall (xV 207 (rLoc 0 132) (gI (eInt 6) (gI (eLoc 1) gNil)) cvX12_274_207) rt_207))) (cNot (cZ 1 (eCall (xS 204 (gI (eLoc 2) (gI (eLoc 3) gNil)) csX12_267) rt_204)))) (sRet (eInt (-1))) sNop) (sSeq (sCall (xV 206 (rLoc 0 132) (gI (eLoc 2) (gI (eLoc 3) gNil)) cvX12_270_206) rt_206) (sRet (eIte (cZ 1 (eCall (xV 211 (rLoc 0 132) (gI (eLoc 1) (gI (eLoc 2) (gI (eLoc 3) gNil))) cvX12_299_211) rt_211)) (eInt 1) (eInt 0)))))
set_option maxRecDepth 100000 in
theorem ck_M_lets : B_M_lets.1.1 0 0 0 = some none := by decide +kernel
abbrev K_M_possible : bK := (RX12, cX12_possible, 4, some .int, fun _ _ _ => True)
def L_M_possible_1c : EC K_M_possible := (cQ 2 (eLoc 3) (eInt 90))
def L_M_possible_1b : ES K_M_possible := (sSet 2 (eAdd (eLoc 2) (eIte (cAnd (cZ 1 (eAZ 90 (rFld (rLoc 0 132) 184 flX12_163) (eLoc 3))) (cOr (cZ 2 (eLoc 1)) (cQ 0 (eDiv (eLoc 3) (eInt 30)) (eLoc 1)))) (eInt 1) (eInt 0))))
def L_M_possible_1s : ES K_M_possible := (sInc 3 1)
def L_M_possible_1 : ES K_M_possible := sLp 54 L_M_possible_1c L_M_possible_1b L_M_possible_1s
def B_M_possible : ES K_M_possible := (sSeq (sIf (cNot (cZ 1 (eCall (xS 201 (gI (eLoc 1) (gI (eInt (-1)) (gI (eInt 2) gNil))) csX12_244) rt_201))) (sRet (eInt (-1))) sNop) (sSeq (sCall (xV 212 (rLoc 0 132) gNil cvX12_315_212) rt_212) (sSeq (sSet 2 (eInt 0)) (sSeq (sSeq (sSet 3 (eInt 0)) L_M_possible_1) (sRet (eLoc 2))))))
set_option maxRecDepth 100000 in
theorem ck_M_possible : B_M_possible.1.1 0 0 0 = some none := by decide +kernel
abbrev K_M_span : bK := (RX12, cX12_span, 5, some .int, fun _ _ _ => True)
def L_M_span_1c : EC K_M_span := (cQ 2 (eLoc 4) (eInt 30))
def L_M_span_1b : ES K_M_span := (sSet 3 (eIte (cAnd (cZ 1 (eAZ 90 (rFld (rLoc 0 132) 184 flX12_163) (eAdd (eMul (eInt 30) (eLoc 1)) (eLoc 4)))) (cOr (cZ 1 (eLoc 2)) (cQ 0 (eLoc 3) (eInt (-3))))) (eLoc 4) (eLoc 3)))
def L_M_span_1s : ES K_M_span := (sInc 4 1)
def L_M_span_1 : ES K_M_span := sLp 60 L_M_span_1c L_M_span_1b L_M_span_1s
def B_M_span : ES K_M_span := (sSeq (sIf (cNot (cZ 1 (eCall (xS 201 (gI (eLoc 1) (gI (eInt 0) (gI (eInt 2) gNil))) csX12_244) rt_201))) (sRet (eInt (-1))) sNop) (sSeq (sCall (xV 212 (rLoc 0 132) gNil cvX12_315_212) rt_212) (sSeq (sSet 3 (eInt (-3))) (sSeq (sSeq (sSet 4 (eInt 0)) L_M_span_1) (sRet (eLoc 3))))))
set_option maxRecDepth 100000 in
theorem ck_M_span : B_M_span.1.1 0 0 0 = some none := by decide +kernel
abbrev K_M_hangs : bK := (RX12, cX12_hangs, 2, some .int, fun _ _ _ => True)
def B_M_hangs : ES K_M_hangs := (sSeq (sIf (cNot (cZ 1 (eCall (xV 207 (rLoc 0 132) (gI (eInt 6) (gI (eLoc 1) gNil)) cvX12_274_207) rt_207))) (sRet (eInt (-1))) sNop) (sSeq (sCall (xV 212 (rLoc 0 132) gNil cvX12_315_212) rt_212) (sRet (eAI 16 (rFld (rLoc 0 132) 185 flX12_167) (eLoc 1)))))
set_option maxRecDepth 100000 in
theorem ck_M_hangs : B_M_hangs.1.1 0 0 0 = some none := by decide +kernel
abbrev K_M_sure : bK := (RX12, cX12_sure, 2, some .int, fun _ _ _ => True)
def B_M_sure : ES K_M_sure := (sSeq (sIf (cNot (cZ 1 (eCall (xV 207 (rLoc 0 132) (gI (eInt 5) (gI (eLoc 1) gNil)) cvX12_274_207) rt_207))) (sRet (eInt (-1))) sNop) (sSeq (sCall (xV 212 (rLoc 0 132) gNil cvX12_315_212) rt_212) (sRet (eIte (cZ 1 (eCall (xV 213 (rLoc 0 132) (gI (eLoc 1) gNil) cvX12_318_213) rt_213)) (eInt 2) (eIte (cZ 4 (eAI 10 (rFld (rLoc 0 132) 186 flX12_170) (eLoc 1))) (eInt 1) (eInt 0))))))
set_option maxRecDepth 100000 in
theorem ck_M_sure : B_M_sure.1.1 0 0 0 = some none := by decide +kernel
abbrev K_M_could : bK := (RX12, cX12_could, 8, some .int, fun _ _ _ => True)
def L_M_could_1c : EC K_M_could := (cQ 2 (eLoc 7) (eInt 12))
def L_M_could_1b : ES K_M_could := (sPutA 12 (rFld (rLoc 0 132) 190 flX12_182) (eLoc 7) (eCall (xV 215 (rLoc 0 132) (gI (eLoc 7) (gI (eInt 1) gNil)) cvX12_289_215) rt_215))
def L_M_could_1s : ES K_M_could := (sInc 7 1)
def L_M_could_1 : ES K_M_could := sLp 53 L_M_could_1c L_M_could_1b L_M_could_1s
def B_M_could : ES K_M_could := (sSeq (sIf (cOr (cNot (cZ 1 (eCall (xS 204 (gI (eLoc 1) (gI (eLoc 2) gNil)) csX12_267) rt_204))) (cNot (cZ 1 (eCall (xS 214 (gI (eLoc 3) (gI (eLoc 4) (gI (eLoc 5) (gI (eLoc 6) gNil)))) csX12_321) rt_214)))) (sRet (eInt (-1))) sNop) (sSeq (sCall (xV 206 (rLoc 0 132) (gI (eLoc 1) (gI (eLoc 2) gNil)) cvX12_270_206) rt_206) (sSeq (sSeq (sSet 7 (eInt 0)) L_M_could_1) (sSeq (sCall (xV 216 (rLoc 0 132) (gI (eLoc 3) (gI (eLoc 4) (gI (eLoc 5) gNil))) cvX12_325_216) rt_216) (sRet (eCall (xV 217 (rLoc 0 132) (gI (eLoc 6) gNil) cvX12_329_217) rt_217))))))
set_option maxRecDepth 100000 in
theorem ck_M_could : B_M_could.1.1 0 0 0 = some none := by decide +kernel
abbrev K_M_told : bK := (RX12, cX12_told, 8, some .int, fun _ _ _ => True)
def L_M_told_2c : EC K_M_told := (cQ 2 (eLoc 7) (eInt 12))
def L_M_told_2b : ES K_M_told := (sPutA 12 (rFld (rLoc 0 132) 190 flX12_182) (eLoc 7) (eAI 1080 (rFld (rLoc 0 132) 187 flX12_173) (eAdd (eMul (eInt 12) (eLoc 6)) (eLoc 7))))
def L_M_told_2s : ES K_M_told := (sInc 7 1)
def L_M_told_2 : ES K_M_told := sLp 97 L_M_told_2c L_M_told_2b L_M_told_2s
def L_M_told_1c : EC K_M_told := (cQ 2 (eLoc 6) (eInt 90))
def L_M_told_1b : ES K_M_told := (sIf (cZ 1 (eAZ 90 (rFld (rLoc 0 132) 184 flX12_163) (eLoc 6))) (sSeq (sSeq (sSet 7 (eInt 0)) L_M_told_2) (sSet 5 (eAnd (eLoc 5) (eCall (xV 217 (rLoc 0 132) (gI (eLoc 4) gNil) cvX12_329_217) rt_217)))) sNop)
def L_M_told_1s : ES K_M_told := (sInc 6 1)
def L_M_told_1 : ES K_M_told := sLp 114 L_M_told_1c L_M_told_1b L_M_told_1s
def B_M_told : ES K_M_told := (sSeq (sIf (cNot (cZ 1 (eCall (xS 214 (gI (eLoc 1) (gI (eLoc 2) (gI (eLoc 3) (gI (eLoc 4) gNil)))) csX12_321) rt_214))) (sRet (eInt (-1))) sNop) (sSeq (sCall (xV 212 (rLoc 0 132) gNil cvX12_315_212) rt_212) (sSeq (sCall (xV 216 (rLoc 0 132) (gI (eLoc 1) (gI (eLoc 2) (gI (eLoc 3) gNil))) cvX12_325_216) rt_216) (sSeq (sSet 5 (eIte (cZ 0 (eFld (rLoc 0 132) flX12_302)) (eInt 0) (eSub (eShl (eInt 1) (eAI 14 (rFld (rLoc 0 132) 133 flX12_7) (eInt 5))) (eInt 1)))) (sSeq (sSeq (sSet 6 (eInt 0)) L_M_told_1) (sRet (eLoc 5)))))))
set_option maxRecDepth 100000 in
theorem ck_M_told : B_M_told.1.1 0 0 0 = some none := by decide +kernel
abbrev K_M_person : bK := (RX12, cX12_person, 5, some .int, fun _ _ _ => True)
def B_M_person : ES K_M_person := (sSeq (sIf (cOr (cOr (cNot (cZ 1 (eCall (xS 201 (gI (eLoc 1) (gI (eInt 0) (gI (eInt 9) gNil))) csX12_244) rt_201))) (cNot (cZ 1 (eCall (xV 207 (rLoc 0 132) (gI (eInt 5) (gI (eLoc 2) gNil)) cvX12_274_207) rt_207)))) (cNot (cZ 1 (eCall (xS 201 (gI (eLoc 3) (gI (eInt 0) (gI (eInt 5) gNil))) csX12_244) rt_201)))) (sRet (eInt (-1))) sNop) (sSeq (sIf (cQ 0 (eAI 14 (rFld (rLoc 0 132) 133 flX12_7) (eInt 7)) (eInt 16)) (sRet (eInt (-2))) sNop) (sSeq (sSet 4 (eAI 14 (rFld (rLoc 0 132) 133 flX12_7) (eInt 7))) (sSeq (sPutA 16 (rFld (rLoc 0 132) 150 flX12_61) (eLoc 4) (eLoc 1)) (sSeq (sPutA 16 (rFld (rLoc 0 132) 151 flX12_64) (eLoc 4) (eLoc 2)) (sSeq (sPutA 16 (rFld (rLoc 0 132) 152 flX12_67) (eLoc 4) (eLoc 3)) (sSeq (sPutA 16 (rFld (rLoc 0 132) 153 flX12_70) (eLoc 4) (eInt 0)) (sSeq (sOpA 14 0 (rFld (rLoc 0 132) 133 flX12_7) (eInt 7) (eInt 1)) (sRet (eLoc 4))))))))))
set_option maxRecDepth 100000 in
theorem ck_M_person : B_M_person.1.1 0 0 0 = some none := by decide +kernel
abbrev K_M_safe : bK := (RX12, cX12_safe, 4, some .int, fun _ _ _ => True)
def B_M_safe : ES K_M_safe := (sSeq (sIf (cNot (cZ 1 (eCall (xV 207 (rLoc 0 132) (gI (eInt 7) (gI (eLoc 1) gNil)) cvX12_274_207) rt_207))) (sRet (eInt (-1))) sNop) (sSeq (sSet 3 (eAI 16 (rFld (rLoc 0 132) 153 flX12_70) (eLoc 1))) (sSeq (sPutA 16 (rFld (rLoc 0 132) 153 flX12_70) (eLoc 1) (eIte (cZ 1 (eLoc 2)) (eInt 1) (eInt 0))) (sRet (eIte (cQ 0 (eLoc 3) (eAI 16 (rFld (rLoc 0 132) 153 flX12_70) (eLoc 1))) (eInt 0) (eInt 1))))))
set_option maxRecDepth 100000 in
theorem ck_M_safe : B_M_safe.1.1 0 0 0 = some none := by decide +kernel
abbrev K_M_name : bK := (RX12, cX12_name, 3, some .int, fun _ _ _ => True)
def B_M_name : ES K_M_name := (sSeq (sIf (cOr (cNot (cZ 1 (eCall (xS 201 (gI (eLoc 1) (gI (eInt 0) (gI (eInt 9) gNil))) csX12_244) rt_201))) (cAnd (cQ 1 (eLoc 2) (eInt (-1))) (cNot (cZ 1 (eCall (xV 207 (rLoc 0 132) (gI (eInt 5) (gI (eLoc 2) gNil)) cvX12_274_207) rt_207))))) (sRet (eInt (-1))) sNop) (sSeq (sIf (cQ 0 (eAI 14 (rFld (rLoc 0 132) 133 flX12_7) (eInt 8)) (eInt 16)) (sRet (eInt (-2))) sNop) (sSeq (sPutA 16 (rFld (rLoc 0 132) 154 flX12_73) (eAI 14 (rFld (rLoc 0 132) 133 flX12_7) (eInt 8)) (eLoc 1)) (sSeq (sPutA 16 (rFld (rLoc 0 132) 155 flX12_76) (eAI 14 (rFld (rLoc 0 132) 133 flX12_7) (eInt 8)) (eLoc 2)) (sSeq (sOpA 14 0 (rFld (rLoc 0 132) 133 flX12_7) (eInt 8) (eInt 1)) (sRet (eSub (eAI 14 (rFld (rLoc 0 132) 133 flX12_7) (eInt 8)) (eInt 1))))))))
set_option maxRecDepth 100000 in
theorem ck_M_name : B_M_name.1.1 0 0 0 = some none := by decide +kernel
abbrev K_M_list : bK := (RX12, cX12_list, 3, some .int, fun _ _ _ => True)
def B_M_list : ES K_M_list := (sSeq (sIf (cNot (cZ 1 (eCall (xS 201 (gI (eLoc 1) (gI (eInt (-2)) (gI (eSub (eAI 14 (rFld (rLoc 0 132) 133 flX12_7) (eInt 7)) (eInt 1)) gNil))) csX12_244) rt_201))) (sRet (eInt (-1))) sNop) (sSeq (sIf (cQ 0 (eLoc 1) (eInt (-2))) (sRet (eCall (xV 218 (rLoc 0 132) gNil cvX12_341_218) rt_218)) sNop) (sSeq (sSet 2 (eCall (xV 219 (rLoc 0 132) (gI (eInt (-1)) gNil) cvX12_344_219) rt_219)) (sRet (eIte (cQ 0 (eLoc 1) (eInt (-1))) (eSub (eAI 14 (rFld (rLoc 0 132) 133 flX12_7) (eInt 8)) (eLoc 2)) (eIte (cQ 2 (eCall (xV 219 (rLoc 0 132) (gI (eLoc 1) gNil) cvX12_344_219) rt_219) (eLoc 2)) (eInt 1) (eInt 0)))))))
set_option maxRecDepth 100000 in
theorem ck_M_list : B_M_list.1.1 0 0 0 = some none := by decide +kernel
abbrev K_M_thing : bK := (RX12, cX12_thing, 5, some .int, fun _ _ _ => True)
def B_M_thing : ES K_M_thing := (sSeq (sIf (cOr (cOr (cOr (cNot (cZ 1 (eCall (xV 207 (rLoc 0 132) (gI (eInt 5) (gI (eLoc 1) gNil)) cvX12_274_207) rt_207))) (cNot (cZ 1 (eCall (xS 201 (gI (eLoc 2) (gI (eInt 0) (gI (eInt 799) gNil))) csX12_244) rt_201)))) (cZ 0 (eRem (eLoc 2) (eInt 100)))) (cNot (cZ 1 (eCall (xS 201 (gI (eLoc 3) (gI (eInt 1) (gI (eInt 999) gNil))) csX12_244) rt_201)))) (sRet (eInt (-1))) sNop) (sSeq (sIf (cQ 0 (eAI 14 (rFld (rLoc 0 132) 133 flX12_7) (eInt 9)) (eInt 12)) (sRet (eInt (-2))) sNop) (sSeq (sSet 4 (eAI 14 (rFld (rLoc 0 132) 133 flX12_7) (eInt 9))) (sSeq (sPutA 12 (rFld (rLoc 0 132) 156 flX12_79) (eLoc 4) (eLoc 1)) (sSeq (sPutA 12 (rFld (rLoc 0 132) 157 flX12_82) (eLoc 4) (eDiv (eLoc 2) (eInt 100))) (sSeq (sPutA 12 (rFld (rLoc 0 132) 158 flX12_85) (eLoc 4) (eRem (eLoc 2) (eInt 100))) (sSeq (sPutA 12 (rFld (rLoc 0 132) 159 flX12_88) (eLoc 4) (eLoc 3)) (sSeq (sOpA 14 0 (rFld (rLoc 0 132) 133 flX12_7) (eInt 9) (eInt 1)) (sSeq (sPutZ (rLoc 0 132) (eInt 0) fpX12_241) (sRet (eLoc 4)))))))))))
set_option maxRecDepth 100000 in
theorem ck_M_thing : B_M_thing.1.1 0 0 0 = some none := by decide +kernel
abbrev K_M_lies : bK := (RX12, cX12_lies, 4, some .int, fun _ _ _ => True)
def B_M_lies : ES K_M_lies := (sSeq (sIf (cOr (cNot (cZ 1 (eCall (xV 207 (rLoc 0 132) (gI (eInt 9) (gI (eLoc 1) gNil)) cvX12_274_207) rt_207))) (cNot (cZ 1 (eCall (xS 204 (gI (eLoc 2) (gI (eLoc 3) gNil)) csX12_267) rt_204)))) (sRet (eInt (-1))) sNop) (sSeq (sCall (xV 206 (rLoc 0 132) (gI (eLoc 2) (gI (eLoc 3) gNil)) cvX12_270_206) rt_206) (sRet (eIte (cZ 2 (eAI 10 (rFld (rLoc 0 132) 180 flX12_151) (eAI 12 (rFld (rLoc 0 132) 156 flX12_79) (eLoc 1)))) (eAdd (eInt 100) (eAI 10 (rFld (rLoc 0 132) 138 flX12_25) (eAI 12 (rFld (rLoc 0 132) 156 flX12_79) (eLoc 1)))) (eCall (xV 220 (rLoc 0 132) (gI (eLoc 1) gNil) cvX12_312_220) rt_220)))))
set_option maxRecDepth 100000 in
theorem ck_M_lies : B_M_lies.1.1 0 0 0 = some none := by decide +kernel
abbrev K_M_find : bK := (RX12, cX12_find, 3, some .int, fun _ _ _ => True)
def B_M_find : ES K_M_find := (sSeq (sIf (cOr (cNot (cZ 1 (eCall (xS 201 (gI (eLoc 1) (gI (eInt 0) (gI (eInt 7) gNil))) csX12_244) rt_201))) (cNot (cZ 1 (eCall (xS 200 (gI (eLoc 2) gNil) csX12_248) rt_200)))) (sRet (eInt (-1))) sNop) (sSeq (sIf (cQ 0 (eAI 14 (rFld (rLoc 0 132) 133 flX12_7) (eInt 10)) (eInt 12)) (sRet (eInt (-2))) sNop) (sSeq (sPutA 12 (rFld (rLoc 0 132) 160 flX12_91) (eAI 14 (rFld (rLoc 0 132) 133 flX12_7) (eInt 10)) (eLoc 1)) (sSeq (sPutA 12 (rFld (rLoc 0 132) 161 flX12_94) (eAI 14 (rFld (rLoc 0 132) 133 flX12_7) (eInt 10)) (eLoc 2)) (sSeq (sOpA 14 0 (rFld (rLoc 0 132) 133 flX12_7) (eInt 10) (eInt 1)) (sSeq (sPutZ (rLoc 0 132) (eInt 0) fpX12_241) (sRet (eSub (eAI 14 (rFld (rLoc 0 132) 133 flX12_7) (eInt 10)) (eInt 1)))))))))
set_option maxRecDepth 100000 in
theorem ck_M_find : B_M_find.1.1 0 0 0 = some none := by decide +kernel
abbrev K_M_whose : bK := (RX12, cX12_whose, 2, some .int, fun _ _ _ => True)
def B_M_whose : ES K_M_whose := (sSeq (sIf (cNot (cZ 1 (eCall (xV 207 (rLoc 0 132) (gI (eInt 10) (gI (eLoc 1) gNil)) cvX12_274_207) rt_207))) (sRet (eInt (-1))) sNop) (sSeq (sCall (xV 212 (rLoc 0 132) gNil cvX12_315_212) rt_212) (sRet (eAI 12 (rFld (rLoc 0 132) 188 flX12_176) (eLoc 1)))))
set_option maxRecDepth 100000 in
theorem ck_M_whose : B_M_whose.1.1 0 0 0 = some none := by decide +kernel
abbrev K_M_days : bK := (RX12, cX12_days, 2, some .int, fun _ _ _ => True)
def B_M_days : ES K_M_days := (sSeq (sIf (cNot (cZ 1 (eCall (xS 201 (gI (eLoc 1) (gI (eInt 1) (gI (eInt 99) gNil))) csX12_244) rt_201))) (sRet (eInt (-1))) sNop) (sSeq (sIf (cQ 4 (eAdd (eAI 14 (rFld (rLoc 0 132) 133 flX12_7) (eInt 3)) (eLoc 1)) (eInt 999)) (sRet (eInt (-4))) sNop) (sSeq (sOpA 14 0 (rFld (rLoc 0 132) 133 flX12_7) (eInt 3) (eLoc 1)) (sRet (eAI 14 (rFld (rLoc 0 132) 133 flX12_7) (eInt 3))))))
set_option maxRecDepth 100000 in
theorem ck_M_days : B_M_days.1.1 0 0 0 = some none := by decide +kernel
abbrev K_M_feed : bK := (RX12, cX12_feed, 5, some .int, fun _ _ _ => True)
def L_M_feed_1c : EC K_M_feed := (cQ 2 (eLoc 4) (eLoc 3))
def L_M_feed_1b : ES K_M_feed := (sSeq (sPutA 240 (rFld (rLoc 0 132) 192 flX12_188) (eFld (rLoc 0 132) flX12_347) (eL2I (lAnd (lShr (lLoc 1) (eMul (eInt 8) (eLoc 4))) (lLdc (255) klX12_350)))) (sOpF 0 (rLoc 0 132) (eInt 1) fpX12_347))
def L_M_feed_1s : ES K_M_feed := (sInc 4 1)
def L_M_feed_1 : ES K_M_feed := sLp 67 L_M_feed_1c L_M_feed_1b L_M_feed_1s
def B_M_feed : ES K_M_feed := (sSeq (sIf (cNot (cZ 1 (eCall (xS 201 (gI (eLoc 3) (gI (eInt 1) (gI (eInt 8) gNil))) csX12_244) rt_201))) (sRet (eInt (-1))) sNop) (sSeq (sIf (cQ 4 (eAdd (eFld (rLoc 0 132) flX12_347) (eLoc 3)) (eInt 240)) (sRet (eInt (-2))) sNop) (sSeq (sSeq (sSet 4 (eInt 0)) L_M_feed_1) (sRet (eFld (rLoc 0 132) flX12_347)))))
set_option maxRecDepth 100000 in
theorem ck_M_feed : B_M_feed.1.1 0 0 0 = some none := by decide +kernel
abbrev K_M_read : bK := (RX12, cX12_read, 1, some .int, fun _ _ _ => True)
def L_M_read_1c : EC K_M_read := (cAnd (cZ 2 (eFld (rLoc 0 132) flX12_383)) (cZ 1 (eFld (rLoc 0 132) flX12_368)))
def L_M_read_1b : ES K_M_read := (sCall (xV 222 (rLoc 0 132) gNil cvX12_464_222) rt_222)
def L_M_read_1s : ES K_M_read := sNop
def L_M_read_1 : ES K_M_read := sLp 50 L_M_read_1c L_M_read_1b L_M_read_1s
def B_M_read : ES K_M_read := (sSeq (sPutI (rLoc 0 132) (eAI 14 (rFld (rLoc 0 132) 133 flX12_7) (eInt 11)) fpX12_399) (sSeq (sPutA 9 (rFld (rLoc 0 132) 163 flX12_100) (eFld (rLoc 0 132) flX12_399) (eInt 0)) (sSeq (sPutA 9 (rFld (rLoc 0 132) 164 flX12_103) (eFld (rLoc 0 132) flX12_399) (eInt 0)) (sSeq (sPutI (rLoc 0 132) (eInt 0) fpX12_352) (sSeq (sPutI (rLoc 0 132) (eInt 0) fpX12_432) (sSeq (sPutI (rLoc 0 132) (eInt (-1)) fpX12_383) (sSeq (sCall (xV 221 (rLoc 0 132) gNil cvX12_386_221) rt_221) (sSeq L_M_read_1 (sSeq (sPutI (rLoc 0 132) (eInt 0) fpX12_347) (sSeq (sIf (cZ 3 (eFld (rLoc 0 132) flX12_383)) (sRet (eSub (eInt (-100)) (eFld (rLoc 0 132) flX12_383))) sNop) (sSeq (sIf (cQ 0 (eFld (rLoc 0 132) flX12_399) (eInt 8)) (sRet (eInt (-2))) sNop) (sSeq (sPutA 9 (rFld (rLoc 0 132) 162 flX12_97) (eFld (rLoc 0 132) flX12_399) (eAI 14 (rFld (rLoc 0 132) 133 flX12_7) (eInt 3))) (sSeq (sOpA 14 0 (rFld (rLoc 0 132) 133 flX12_7) (eInt 11) (eInt 1)) (sRet (eFld (rLoc 0 132) flX12_399)))))))))))))))
set_option maxRecDepth 100000 in
theorem ck_M_read : B_M_read.1.1 0 0 0 = some none := by decide +kernel
abbrev K_M_claim : bK := (RX12, cX12_claim, 4, some .int, fun _ _ _ => True)
def L_M_claim_1c : EC K_M_claim := (cQ 2 (eLoc 3) (eAI 14 (rFld (rLoc 0 132) 133 flX12_7) (eInt 12)))
def L_M_claim_1b : ES K_M_claim := (sIf (cAnd (cQ 0 (eAI 16 (rFld (rLoc 0 132) 172 flX12_127) (eLoc 3)) (eLoc 1)) (cQ 0 (eAI 16 (rFld (rLoc 0 132) 173 flX12_130) (eLoc 3)) (eLoc 2))) (sRet (eInt (-4))) sNop)
def L_M_claim_1s : ES K_M_claim := (sInc 3 1)
def L_M_claim_1 : ES K_M_claim := sLp 58 L_M_claim_1c L_M_claim_1b L_M_claim_1s
def B_M_claim : ES K_M_claim := (sSeq (sIf (cOr (cNot (cZ 1 (eCall (xV 207 (rLoc 0 132) (gI (eInt 7) (gI (eLoc 1) gNil)) cvX12_274_207) rt_207))) (cNot (cZ 1 (eCall (xV 207 (rLoc 0 132) (gI (eInt 9) (gI (eLoc 2) gNil)) cvX12_274_207) rt_207)))) (sRet (eInt (-1))) sNop) (sSeq (sSeq (sSet 3 (eInt 0)) L_M_claim_1) (sSeq (sIf (cQ 0 (eAI 14 (rFld (rLoc 0 132) 133 flX12_7) (eInt 12)) (eInt 16)) (sRet (eInt (-2))) sNop) (sSeq (sSet 3 (eAI 14 (rFld (rLoc 0 132) 133 flX12_7) (eInt 12))) (sSeq (sPutA 16 (rFld (rLoc 0 132) 172 flX12_127) (eLoc 3) (eLoc 1)) (sSeq (sPutA 16 (rFld (rLoc 0 132) 173 flX12_130) (eLoc 3) (eLoc 2)) (sSeq (sPutA 16 (rFld (rLoc 0 132) 174 flX12_133) (eLoc 3) (eAI 14 (rFld (rLoc 0 132) 133 flX12_7) (eInt 3))) (sSeq (sPutA 16 (rFld (rLoc 0 132) 175 flX12_136) (eLoc 3) (eInt (-1))) (sSeq (sOpA 14 0 (rFld (rLoc 0 132) 133 flX12_7) (eInt 12) (eInt 1)) (sRet (eLoc 3)))))))))))
set_option maxRecDepth 100000 in
theorem ck_M_claim : B_M_claim.1.1 0 0 0 = some none := by decide +kernel
abbrev K_M_proof : bK := (RX12, cX12_proof, 3, some .int, fun _ _ _ => True)
def B_M_proof : ES K_M_proof := (sSeq (sIf (cOr (cNot (cZ 1 (eCall (xV 207 (rLoc 0 132) (gI (eInt 12) (gI (eLoc 1) gNil)) cvX12_274_207) rt_207))) (cAnd (cQ 1 (eLoc 2) (eInt (-1))) (cNot (cZ 1 (eCall (xV 207 (rLoc 0 132) (gI (eInt 7) (gI (eLoc 2) gNil)) cvX12_274_207) rt_207))))) (sRet (eInt (-1))) sNop) (sSeq (sIf (cAnd (cZ 3 (eLoc 2)) (cQ 0 (eAI 16 (rFld (rLoc 0 132) 150 flX12_61) (eLoc 2)) (eAI 16 (rFld (rLoc 0 132) 150 flX12_61) (eAI 16 (rFld (rLoc 0 132) 172 flX12_127) (eLoc 1))))) (sRet (eInt (-4))) sNop) (sSeq (sIf (cQ 0 (eAI 14 (rFld (rLoc 0 132) 133 flX12_7) (eInt 13)) (eInt 24)) (sRet (eInt (-2))) sNop) (sSeq (sPutA 24 (rFld (rLoc 0 132) 176 flX12_139) (eAI 14 (rFld (rLoc 0 132) 133 flX12_7) (eInt 13)) (eLoc 1)) (sSeq (sPutA 24 (rFld (rLoc 0 132) 177 flX12_142) (eAI 14 (rFld (rLoc 0 132) 133 flX12_7) (eInt 13)) (eLoc 2)) (sSeq (sOpA 14 0 (rFld (rLoc 0 132) 133 flX12_7) (eInt 13) (eInt 1)) (sRet (eCall (xV 223 (rLoc 0 132) (gI (eLoc 1) gNil) cvX12_470_223) rt_223))))))))
set_option maxRecDepth 100000 in
theorem ck_M_proof : B_M_proof.1.1 0 0 0 = some none := by decide +kernel
abbrev K_M_claimOf : bK := (RX12, cX12_claimOf, 4, some .int, fun _ _ _ => True)
def B_M_claimOf : ES K_M_claimOf := (sSeq (sIf (cOr (cNot (cZ 1 (eCall (xV 207 (rLoc 0 132) (gI (eInt 12) (gI (eLoc 1) gNil)) cvX12_274_207) rt_207))) (cNot (cZ 1 (eCall (xS 224 (gI (eLoc 2) gNil) csX12_498) rt_224)))) (sRet (eInt (-1))) sNop) (sSeq (sCall (xV 212 (rLoc 0 132) gNil cvX12_315_212) rt_212) (sSw (eLoc 3) (tCase 0 (sRet (eAI 16 (rFld (rLoc 0 132) 172 flX12_127) (eLoc 1))) (tCase 1 (sRet (eAI 16 (rFld (rLoc 0 132) 173 flX12_130) (eLoc 1))) (tCase 2 (sRet (eCall (xV 223 (rLoc 0 132) (gI (eLoc 1) gNil) cvX12_470_223) rt_223)) (tCase 3 (sRet (eIte (cZ 1 (eCall (xV 225 (rLoc 0 132) (gI (eLoc 1) (gI (eLoc 2) gNil)) cvX12_495_225) rt_225)) (eInt 1) (eInt 0))) (tCase 4 (sRet (eCall (xV 226 (rLoc 0 132) (gI (eLoc 1) (gI (eLoc 2) gNil)) cvX12_501_226) rt_226)) (tCase 5 (sRet (eCall (xV 227 (rLoc 0 132) (gI (eLoc 1) (gI (eLoc 2) gNil)) cvX12_504_227) rt_227)) (tCase 6 (sRet (eIte (cZ 2 (eAI 16 (rFld (rLoc 0 132) 175 flX12_136) (eLoc 1))) (eInt (-3)) (eAI 16 (rFld (rLoc 0 132) 175 flX12_136) (eLoc 1)))) (tCase 7 (sRet (eIte (cZ 1 (eCall (xV 228 (rLoc 0 132) (gI (eLoc 1) gNil) cvX12_473_228) rt_228)) (eInt 1) (eInt 0))) (tDef (sRet (eInt (-1)))))))))))))))
set_option maxRecDepth 100000 in
theorem ck_M_claimOf : B_M_claimOf.1.1 0 0 0 = some none := by decide +kernel
abbrev K_M_why : bK := (RX12, cX12_why, 5, some .int, fun _ _ _ => True)
def B_M_why : ES K_M_why := (sSeq (sIf (cOr (cOr (cNot (cZ 1 (eCall (xV 207 (rLoc 0 132) (gI (eInt 12) (gI (eLoc 1) gNil)) cvX12_274_207) rt_207))) (cNot (cZ 1 (eCall (xS 224 (gI (eLoc 2) gNil) csX12_498) rt_224)))) (cNot (cZ 1 (eCall (xS 201 (gI (eLoc 3) (gI (eInt 0) (gI (eInt 2) gNil))) csX12_244) rt_201)))) (sRet (eInt (-1))) sNop) (sSeq (sCall (xV 212 (rLoc 0 132) gNil cvX12_315_212) rt_212) (sSeq (sSet 4 (eCall (xV 229 (rLoc 0 132) (gI (eLoc 1) (gI (eLoc 2) (gI (eLoc 3) gNil))) cvX12_488_229) rt_229)) (sRet (eIte (cZ 2 (eLoc 4)) (eInt (-3)) (eLoc 4))))))
set_option maxRecDepth 100000 in
theorem ck_M_why : B_M_why.1.1 0 0 0 = some none := by decide +kernel
abbrev K_M_odd : bK := (RX12, cX12_odd, 6, some .int, fun _ _ _ => True)
def L_M_odd_2c : EC K_M_odd := (cQ 2 (eLoc 5) (eAI 14 (rFld (rLoc 0 132) 133 flX12_7) (eInt 9)))
def L_M_odd_2b : ES K_M_odd := (sSet 4 (eAdd (eLoc 4) (eIte (cAnd (cQ 0 (eAI 12 (rFld (rLoc 0 132) 156 flX12_79) (eLoc 5)) (eLoc 3)) (cZ 4 (eCall (xV 230 (rLoc 0 132) (gI (eLoc 5) gNil) cvX12_507_230) rt_230))) (eAI 12 (rFld (rLoc 0 132) 159 flX12_88) (eLoc 5)) (eInt 0))))
def L_M_odd_2s : ES K_M_odd := (sInc 5 1)
def L_M_odd_2 : ES K_M_odd := sLp 83 L_M_odd_2c L_M_odd_2b L_M_odd_2s
def L_M_odd_1c : EC K_M_odd := (cAnd (cQ 2 (eLoc 3) (eAI 14 (rFld (rLoc 0 132) 133 flX12_7) (eInt 5))) (cZ 0 (eLoc 1)))
def L_M_odd_1b : ES K_M_odd := (sSeq (sSet 4 (eInt 0)) (sSeq (sSeq (sSet 5 (eInt 0)) L_M_odd_2) (sSet 2 (eOr (eLoc 2) (eIte (cQ 4 (eLoc 4) (eAI 10 (rFld (rLoc 0 132) 140 flX12_31) (eLoc 3))) (eShl (eInt 1) (eLoc 3)) (eInt 0))))))
def L_M_odd_1s : ES K_M_odd := (sInc 3 1)
def L_M_odd_1 : ES K_M_odd := sLp 110 L_M_odd_1c L_M_odd_1b L_M_odd_1s
def L_M_odd_3c : EC K_M_odd := (cAnd (cQ 2 (eLoc 3) (eAI 14 (rFld (rLoc 0 132) 133 flX12_7) (eInt 9))) (cQ 0 (eLoc 1) (eInt 1)))
def L_M_odd_3b : ES K_M_odd := (sSet 2 (eOr (eLoc 2) (eIte (cQ 4 (eCall (xV 230 (rLoc 0 132) (gI (eLoc 3) gNil) cvX12_507_230) rt_230) (eInt 1)) (eShl (eInt 1) (eLoc 3)) (eInt 0))))
def L_M_odd_3s : ES K_M_odd := (sInc 3 1)
def L_M_odd_3 : ES K_M_odd := sLp 153 L_M_odd_3c L_M_odd_3b L_M_odd_3s
def B_M_odd : ES K_M_odd := (sSeq (sIf (cNot (cZ 1 (eCall (xS 201 (gI (eLoc 1) (gI (eInt 0) (gI (eInt 1) gNil))) csX12_244) rt_201))) (sRet (eInt (-1))) sNop) (sSeq (sSet 2 (eInt 0)) (sSeq (sSeq (sSet 3 (eInt 0)) L_M_odd_1) (sSeq (sSeq (sSet 3 (eInt 0)) L_M_odd_3) (sRet (eLoc 2))))))
set_option maxRecDepth 100000 in
theorem ck_M_odd : B_M_odd.1.1 0 0 0 = some none := by decide +kernel
abbrev K_M_fund : bK := (RX12, cX12_fund, 2, some .int, fun _ _ _ => True)
def B_M_fund : ES K_M_fund := (sSeq (sIf (cNot (cZ 1 (eCall (xS 201 (gI (eLoc 1) (gI (eInt 1) (gI (eInt 9999) gNil))) csX12_244) rt_201))) (sRet (eInt (-1))) sNop) (sSeq (sPutA 14 (rFld (rLoc 0 132) 133 flX12_7) (eInt 4) (eCall (xS 231 (gI (eLdw 99999 kiX12_510) (gI (eAdd (eAI 14 (rFld (rLoc 0 132) 133 flX12_7) (eInt 4)) (eLoc 1)) gNil)) csX12_259) rt_231)) (sRet (eAI 14 (rFld (rLoc 0 132) 133 flX12_7) (eInt 4)))))
set_option maxRecDepth 100000 in
theorem ck_M_fund : B_M_fund.1.1 0 0 0 = some none := by decide +kernel
abbrev K_M_pay : bK := (RX12, cX12_pay, 5, some .int, fun _ _ _ => True)
def L_M_pay_2c : EC K_M_pay := (cQ 2 (eLoc 3) (eAI 14 (rFld (rLoc 0 132) 133 flX12_7) (eInt 12)))
def L_M_pay_2b : ES K_M_pay := (sIf (cAnd (cZ 2 (eAI 16 (rFld (rLoc 0 132) 175 flX12_136) (eLoc 3))) (cQ 0 (eCall (xV 227 (rLoc 0 132) (gI (eLoc 3) (gI (eAI 14 (rFld (rLoc 0 132) 133 flX12_7) (eInt 3)) gNil)) cvX12_504_227) rt_227) (eLoc 2))) (sSeq (sSet 4 (eCall (xV 226 (rLoc 0 132) (gI (eLoc 3) (gI (eAI 14 (rFld (rLoc 0 132) 133 flX12_7) (eInt 3)) gNil)) cvX12_501_226) rt_226)) (sIf (cAnd (cZ 4 (eLoc 4)) (cQ 5 (eLoc 4) (eAI 14 (rFld (rLoc 0 132) 133 flX12_7) (eInt 4)))) (sSeq (sPutA 16 (rFld (rLoc 0 132) 175 flX12_136) (eLoc 3) (eLoc 4)) (sSeq (sOpA 14 1 (rFld (rLoc 0 132) 133 flX12_7) (eInt 4) (eLoc 4)) (sInc 1 1))) sNop)) sNop)
def L_M_pay_2s : ES K_M_pay := (sInc 3 1)
def L_M_pay_2 : ES K_M_pay := sLp 102 L_M_pay_2c L_M_pay_2b L_M_pay_2s
def L_M_pay_1c : EC K_M_pay := (cQ 2 (eLoc 2) (eInt 10))
def L_M_pay_1b : ES K_M_pay := (sSeq (sSet 3 (eInt 0)) L_M_pay_2)
def L_M_pay_1s : ES K_M_pay := (sInc 2 1)
def L_M_pay_1 : ES K_M_pay := sLp 108 L_M_pay_1c L_M_pay_1b L_M_pay_1s
def B_M_pay : ES K_M_pay := (sSeq (sCall (xV 212 (rLoc 0 132) gNil cvX12_315_212) rt_212) (sSeq (sSet 1 (eInt 0)) (sSeq (sSeq (sSet 2 (eInt 0)) L_M_pay_1) (sRet (eLoc 1)))))
set_option maxRecDepth 100000 in
theorem ck_M_pay : B_M_pay.1.1 0 0 0 = some none := by decide +kernel
abbrev K_M_offer : bK := (RX12, cX12_offer, 3, some .int, fun _ _ _ => True)
def B_M_offer : ES K_M_offer := (sSeq (sIf (cOr (cNot (cZ 1 (eCall (xV 207 (rLoc 0 132) (gI (eInt 12) (gI (eLoc 1) gNil)) cvX12_274_207) rt_207))) (cNot (cZ 1 (eCall (xS 201 (gI (eLoc 2) (gI (eInt 1) (gI (eInt 999) gNil))) csX12_244) rt_201)))) (sRet (eInt (-1))) sNop) (sSeq (sIf (cOr (cZ 3 (eAI 16 (rFld (rLoc 0 132) 175 flX12_136) (eLoc 1))) (cQ 2 (eAI 14 (rFld (rLoc 0 132) 133 flX12_7) (eInt 4)) (eLoc 2))) (sRet (eInt (-4))) sNop) (sSeq (sPutA 16 (rFld (rLoc 0 132) 175 flX12_136) (eLoc 1) (eLoc 2)) (sSeq (sOpA 14 1 (rFld (rLoc 0 132) 133 flX12_7) (eInt 4) (eLoc 2)) (sRet (eAI 14 (rFld (rLoc 0 132) 133 flX12_7) (eInt 4)))))))
set_option maxRecDepth 100000 in
theorem ck_M_offer : B_M_offer.1.1 0 0 0 = some none := by decide +kernel
abbrev K_M_likest : bK := (RX12, cX12_likest, 7, some .int, fun _ _ _ => True)
def L_M_likest_2c : EC K_M_likest := (cQ 2 (eLoc 6) (eAI 14 (rFld (rLoc 0 132) 133 flX12_7) (eInt 12)))
def L_M_likest_2b : ES K_M_likest := (sIf (cAnd (cZ 1 (eCall (xV 232 (rLoc 0 132) (gI (eLoc 5) (gI (eLoc 6) gNil)) cvX12_511_232) rt_232)) (cQ 2 (eCall (xV 233 (rLoc 0 132) (gI (eLoc 5) (gI (eLoc 6) gNil)) cvX12_514_233) rt_233) (eLoc 4))) (sSeq (sSet 2 (eLoc 5)) (sSeq (sSet 3 (eLoc 6)) (sSet 4 (eCall (xV 233 (rLoc 0 132) (gI (eLoc 5) (gI (eLoc 6) gNil)) cvX12_514_233) rt_233)))) sNop)
def L_M_likest_2s : ES K_M_likest := (sInc 6 1)
def L_M_likest_2 : ES K_M_likest := sLp 99 L_M_likest_2c L_M_likest_2b L_M_likest_2s
def L_M_likest_1c : EC K_M_likest := (cQ 2 (eLoc 5) (eAI 14 (rFld (rLoc 0 132) 133 flX12_7) (eInt 12)))
def L_M_likest_1b : ES K_M_likest := (sSeq (sSet 6 (eAdd (eLoc 5) (eInt 1))) L_M_likest_2)
def L_M_likest_1s : ES K_M_likest := (sInc 5 1)
def L_M_likest_1 : ES K_M_likest := sLp 105 L_M_likest_1c L_M_likest_1b L_M_likest_1s
def B_M_likest : ES K_M_likest := (sSeq (sIf (cNot (cZ 1 (eCall (xS 201 (gI (eLoc 1) (gI (eInt 0) (gI (eInt 2) gNil))) csX12_244) rt_201))) (sRet (eInt (-1))) sNop) (sSeq (sCall (xV 212 (rLoc 0 132) gNil cvX12_315_212) rt_212) (sSeq (sSet 2 (eInt (-3))) (sSeq (sSet 3 (eInt (-3))) (sSeq (sSet 4 (eLdw 1000000000 kiX12_285)) (sSeq (sSeq (sSet 5 (eInt 0)) L_M_likest_1) (sRet (eIte (cQ 0 (eLoc 2) (eInt (-3))) (eInt (-3)) (eIte (cZ 0 (eLoc 1)) (eLoc 2) (eIte (cQ 0 (eLoc 1) (eInt 1)) (eLoc 3) (eLoc 4)))))))))))
set_option maxRecDepth 100000 in
theorem ck_M_likest : B_M_likest.1.1 0 0 0 = some none := by decide +kernel
abbrev K_M_round : bK := (RX12, cX12_round, 7, some .int, fun _ _ _ => True)
def L_M_round_1c : EC K_M_round := (cQ 2 (eLoc 5) (eFld (rLoc 0 132) flX12_530))
def L_M_round_1b : ES K_M_round := (sSeq (sSet 6 (eAI 7 (rFld (rLoc 0 132) 194 flX12_194) (eLoc 5))) (sSeq (sSet 4 (eAdd (eLoc 4) (eAdd (eCall (xS 237 (gI (eLoc 3) (gI (eCall (xV 236 (rLoc 0 132) (gI (eLoc 6) gNil) cvX12_523_236) rt_236) gNil)) csX12_292) rt_237) (eIte (cZ 4 (eLoc 5)) (eInt 1) (eInt 0))))) (sSeq (sPutA 7 (rFld (rLoc 0 132) 195 flX12_197) (eLoc 5) (eLoc 6)) (sSeq (sPutA 7 (rFld (rLoc 0 132) 196 flX12_200) (eLoc 5) (eLoc 4)) (sSet 3 (eCall (xV 236 (rLoc 0 132) (gI (eLoc 6) gNil) cvX12_523_236) rt_236))))))
def L_M_round_1s : ES K_M_round := (sInc 5 1)
def L_M_round_1 : ES K_M_round := sLp 155 L_M_round_1c L_M_round_1b L_M_round_1s
def B_M_round : ES K_M_round := (sSeq (sIf (cOr (cOr (cZ 2 (eLoc 1)) (cQ 3 (eLoc 1) (eShl (eInt 1) (eAI 14 (rFld (rLoc 0 132) 133 flX12_7) (eInt 12))))) (cNot (cZ 1 (eCall (xS 200 (gI (eLoc 2) gNil) csX12_248) rt_200)))) (sRet (eInt (-1))) sNop) (sSeq (sIf (cQ 4 (eCall (xS 234 (gI (eLoc 1) gNil) csX12_467) rt_234) (eInt 7)) (sRet (eInt (-2))) sNop) (sSeq (sIf (cZ 0 (eLoc 1)) (sRet (eInt (-3))) sNop) (sSeq (sCall (xV 212 (rLoc 0 132) gNil cvX12_315_212) rt_212) (sSeq (sPutI (rLoc 0 132) (eLdw 1000000000 kiX12_285) fpX12_520) (sSeq (sCall (xV 235 (rLoc 0 132) (gI (eLoc 1) (gI (eInt 0) (gI (eLoc 2) (gI (eInt 0) (gI (eInt 0) gNil))))) cvX12_526_235) rt_235) (sSeq (sPutI (rLoc 0 132) (eCall (xS 234 (gI (eLoc 1) gNil) csX12_467) rt_234) fpX12_530) (sSeq (sSet 3 (eLoc 2)) (sSeq (sSet 4 (eAI 14 (rFld (rLoc 0 132) 133 flX12_7) (eInt 3))) (sSeq (sSeq (sSet 5 (eInt 0)) L_M_round_1) (sSeq (sPutI (rLoc 0 132) (eLoc 1) fpX12_533) (sSeq (sPutI (rLoc 0 132) (eLoc 2) fpX12_536) (sSeq (sPutI (rLoc 0 132) (eAI 14 (rFld (rLoc 0 132) 133 flX12_7) (eInt 3)) fpX12_539) (sSeq (sPutZ (rLoc 0 132) (eInt 1) fpX12_542) (sRet (eFld (rLoc 0 132) flX12_520))))))))))))))))
set_option maxRecDepth 100000 in
theorem ck_M_round : B_M_round.1.1 0 0 0 = some none := by decide +kernel
abbrev K_M_row : bK := (RX12, cX12_row, 3, some .int, fun _ _ _ => True)
def B_M_row : ES K_M_row := (sRet (eIte (cNot (cZ 1 (eCall (xV 238 (rLoc 0 132) (gI (eLoc 1) (gI (eLoc 2) gNil)) cvX12_545_238) rt_238))) (eInt (-9)) (eIte (cZ 0 (eLoc 2)) (eAI 7 (rFld (rLoc 0 132) 195 flX12_197) (eLoc 1)) (eAI 7 (rFld (rLoc 0 132) 196 flX12_200) (eLoc 1)))))
set_option maxRecDepth 100000 in
theorem ck_M_row : B_M_row.1.1 0 0 0 = some none := by decide +kernel
abbrev K_M_alterRow : bK := (RX12, cX12_alterRow, 5, some .int, fun _ _ _ => True)
def B_M_alterRow : ES K_M_alterRow := (sSeq (sIf (cNot (cZ 1 (eCall (xV 238 (rLoc 0 132) (gI (eLoc 1) (gI (eLoc 2) gNil)) cvX12_545_238) rt_238))) (sRet (eInt (-9))) sNop) (sSeq (sSet 4 (eCall (xV 100 (rLoc 0 132) (gI (eLoc 1) (gI (eLoc 2) gNil)) cvX12_548_100) rt_100)) (sSeq (sIf (cZ 0 (eLoc 2)) (sPutA 7 (rFld (rLoc 0 132) 195 flX12_197) (eLoc 1) (eLoc 3)) (sPutA 7 (rFld (rLoc 0 132) 196 flX12_200) (eLoc 1) (eLoc 3))) (sRet (eLoc 4)))))
set_option maxRecDepth 100000 in
theorem ck_M_alterRow : B_M_alterRow.1.1 0 0 0 = some none := by decide +kernel
abbrev K_M_dropRow : bK := (RX12, cX12_dropRow, 1, some .int, fun _ _ _ => True)
def B_M_dropRow : ES K_M_dropRow := (sSeq (sIf (cZ 0 (eFld (rLoc 0 132) flX12_530)) (sRet (eInt (-3))) sNop) (sSeq (sOpF 1 (rLoc 0 132) (eInt 1) fpX12_530) (sRet (eFld (rLoc 0 132) flX12_530))))
set_option maxRecDepth 100000 in
theorem ck_M_dropRow : B_M_dropRow.1.1 0 0 0 = some none := by decide +kernel
abbrev K_M_judge : bK := (RX12, cX12_judge, 6, some .int, fun _ _ _ => True)
def L_M_judge_1c : EC K_M_judge := (cQ 2 (eLoc 4) (eFld (rLoc 0 132) flX12_530))
def L_M_judge_1b : ES K_M_judge := (sSeq (sSet 5 (eAI 7 (rFld (rLoc 0 132) 195 flX12_197) (eLoc 4))) (sSeq (sIf (cOr (cNot (cZ 1 (eCall (xV 207 (rLoc 0 132) (gI (eInt 12) (gI (eLoc 5) gNil)) cvX12_274_207) rt_207))) (cZ 0 (eAnd (eShr (eLoc 1) (eLoc 5)) (eInt 1)))) (sRet (eAdd (eLoc 4) (eInt 1))) sNop) (sSeq (sSet 3 (eAdd (eLoc 3) (eAdd (eCall (xS 237 (gI (eLoc 2) (gI (eCall (xV 236 (rLoc 0 132) (gI (eLoc 5) gNil) cvX12_523_236) rt_236) gNil)) csX12_292) rt_237) (eIte (cZ 4 (eLoc 4)) (eInt 1) (eInt 0))))) (sSeq (sIf (cQ 1 (eAI 7 (rFld (rLoc 0 132) 196 flX12_200) (eLoc 4)) (eLoc 3)) (sRet (eAdd (eLoc 4) (eInt 1))) sNop) (sSeq (sSet 1 (eAnd (eLoc 1) (eXor (eShl (eInt 1) (eLoc 5)) (eInt (-1))))) (sSet 2 (eCall (xV 236 (rLoc 0 132) (gI (eLoc 5) gNil) cvX12_523_236) rt_236)))))))
def L_M_judge_1s : ES K_M_judge := (sInc 4 1)
def L_M_judge_1 : ES K_M_judge := sLp 127 L_M_judge_1c L_M_judge_1b L_M_judge_1s
def B_M_judge : ES K_M_judge := (sSeq (sIf (cNot (cZ 1 (eFld (rLoc 0 132) flX12_542))) (sRet (eInt (-3))) sNop) (sSeq (sSet 1 (eFld (rLoc 0 132) flX12_533)) (sSeq (sSet 2 (eFld (rLoc 0 132) flX12_536)) (sSeq (sSet 3 (eFld (rLoc 0 132) flX12_539)) (sSeq (sSeq (sSet 4 (eInt 0)) L_M_judge_1) (sRet (eIte (cQ 2 (eFld (rLoc 0 132) flX12_530) (eCall (xS 234 (gI (eFld (rLoc 0 132) flX12_533) gNil) csX12_467) rt_234)) (eAdd (eFld (rLoc 0 132) flX12_530) (eInt 1)) (eInt 0))))))))
set_option maxRecDepth 100000 in
theorem ck_M_judge : B_M_judge.1.1 0 0 0 = some none := by decide +kernel
abbrev K_M_years : bK := (RX12, cX12_years, 5, some .int, fun _ _ _ => True)
def B_M_years : ES K_M_years := (sSeq (sIf (cOr (cNot (cZ 1 (eCall (xS 239 (gI (eLoc 1) (gI (eLoc 2) gNil)) csX12_551) rt_239))) (cNot (cZ 1 (eCall (xS 201 (gI (eLoc 3) (gI (eInt 0) (gI (eInt 300) gNil))) csX12_244) rt_201)))) (sRet (eInt (-1))) sNop) (sSeq (sSet 4 (eCall (xS 240 (gI (eLoc 1) (gI (eLoc 2) (gI (eLoc 3) gNil))) csX12_554) rt_240)) (sRet (eIte (cQ 0 (eLoc 4) (eLdw 1000000000 kiX12_285)) (eInt (-3)) (eLoc 4)))))
set_option maxRecDepth 100000 in
theorem ck_M_years : B_M_years.1.1 0 0 0 = some none := by decide +kernel
abbrev K_M_rate : bK := (RX12, cX12_rate, 5, some .int, fun _ _ _ => True)
def L_M_rate_1c : EC K_M_rate := (cQ 5 (eLoc 4) (eInt 300))
def L_M_rate_1b : ES K_M_rate := (sIf (cQ 5 (eCall (xS 240 (gI (eLoc 1) (gI (eLoc 2) (gI (eLoc 4) gNil))) csX12_554) rt_240) (eLoc 3)) (sRet (eLoc 4)) sNop)
def L_M_rate_1s : ES K_M_rate := (sInc 4 1)
def L_M_rate_1 : ES K_M_rate := sLp 45 L_M_rate_1c L_M_rate_1b L_M_rate_1s
def B_M_rate : ES K_M_rate := (sSeq (sIf (cOr (cNot (cZ 1 (eCall (xS 239 (gI (eLoc 1) (gI (eLoc 2) gNil)) csX12_551) rt_239))) (cNot (cZ 1 (eCall (xS 201 (gI (eLoc 3) (gI (eInt 1) (gI (eInt 60) gNil))) csX12_244) rt_201)))) (sRet (eInt (-1))) sNop) (sSeq (sSeq (sSet 4 (eInt 0)) L_M_rate_1) (sRet (eInt (-3)))))
set_option maxRecDepth 100000 in
theorem ck_M_rate : B_M_rate.1.1 0 0 0 = some none := by decide +kernel
abbrev K_M_sheet : bK := (RX12, cX12_sheet, 5, some .int, fun _ _ _ => True)
def L_M_sheet_1c : EC K_M_sheet := (cQ 2 (eLoc 4) (eInt 40))
def L_M_sheet_1b : ES K_M_sheet := (sPutAL 160 (rFld (rLoc 0 132) 199 flX12_209) (eAdd (eMul (eInt 40) (eLoc 1)) (eLoc 4)) (lInt 0))
def L_M_sheet_1s : ES K_M_sheet := (sInc 4 1)
def L_M_sheet_1 : ES K_M_sheet := sLp 84 L_M_sheet_1c L_M_sheet_1b L_M_sheet_1s
def B_M_sheet : ES K_M_sheet := (sSeq (sIf (cOr (cOr (cNot (cZ 1 (eCall (xS 203 (gI (eLoc 1) gNil) csX12_557) rt_203))) (cNot (cZ 1 (eCall (xS 201 (gI (eLoc 2) (gI (eInt (-1)) (gI (eInt 4) gNil))) csX12_244) rt_201)))) (cAnd (cZ 3 (eLoc 2)) (cQ 4 (eLoc 3) (eInt 40)))) (sRet (eInt (-1))) sNop) (sSeq (sIf (cAnd (cZ 3 (eLoc 2)) (cZ 2 (eLoc 3))) (sRet (eInt (-14))) sNop) (sSeq (sPutA 4 (rFld (rLoc 0 132) 197 flX12_203) (eLoc 1) (eLoc 2)) (sSeq (sPutA 4 (rFld (rLoc 0 132) 198 flX12_206) (eLoc 1) (eIte (cZ 2 (eLoc 2)) (eInt 0) (eLoc 3))) (sSeq (sSeq (sSet 4 (eInt 0)) L_M_sheet_1) (sRet (eInt 1)))))))
set_option maxRecDepth 100000 in
theorem ck_M_sheet : B_M_sheet.1.1 0 0 0 = some none := by decide +kernel
abbrev K_M_put : bK := (RX12, cX12_put, 4, some .int, fun _ _ _ => True)
def B_M_put : ES K_M_put := (sSeq (sIf (cNot (cZ 1 (eCall (xS 203 (gI (eLoc 1) gNil) csX12_557) rt_203))) (sRet (eInt (-1))) sNop) (sSeq (sIf (cZ 2 (eAI 4 (rFld (rLoc 0 132) 197 flX12_203) (eLoc 1))) (sRet (eInt (-11))) sNop) (sSeq (sIf (cNot (cZ 1 (eCall (xS 201 (gI (eLoc 2) (gI (eInt 0) (gI (eSub (eAI 4 (rFld (rLoc 0 132) 198 flX12_206) (eLoc 1)) (eInt 1)) gNil))) csX12_244) rt_201))) (sRet (eInt (-12))) sNop) (sSeq (sPutAL 160 (rFld (rLoc 0 132) 199 flX12_209) (eAdd (eMul (eInt 40) (eLoc 1)) (eLoc 2)) (lCall (xS 241 (gI (eAI 4 (rFld (rLoc 0 132) 197 flX12_203) (eLoc 1)) (gI (eLoc 3) gNil)) csX12_560) rt_241)) (sRet (eInt 1))))))
set_option maxRecDepth 100000 in
theorem ck_M_put : B_M_put.1.1 0 0 0 = some none := by decide +kernel
abbrev K_M_item : bK := (RX12, cX12_item, 4, some .int, fun _ _ _ => True)
def B_M_item : ES K_M_item := (sSeq (sIf (cOr (cNot (cZ 1 (eCall (xS 203 (gI (eLoc 1) gNil) csX12_557) rt_203))) (cNot (cZ 1 (eCall (xS 201 (gI (eLoc 2) (gI (eInt 0) (gI (eInt 4) gNil))) csX12_244) rt_201)))) (sRet (eInt (-1))) sNop) (sSeq (sIf (cZ 2 (eAI 4 (rFld (rLoc 0 132) 197 flX12_203) (eLoc 1))) (sRet (eInt (-11))) sNop) (sSeq (sIf (cQ 1 (eAI 4 (rFld (rLoc 0 132) 197 flX12_203) (eLoc 1)) (eLoc 2)) (sRet (eInt (-13))) sNop) (sRet (eIte (cZ 1 (eCall (xS 201 (gI (eLoc 3) (gI (eInt 0) (gI (eSub (eAI 4 (rFld (rLoc 0 132) 198 flX12_206) (eLoc 1)) (eInt 1)) gNil))) csX12_244) rt_201)) (eL2I (lAL 160 (rFld (rLoc 0 132) 199 flX12_209) (eAdd (eMul (eInt 40) (eLoc 1)) (eLoc 3)))) (eInt (-12)))))))
set_option maxRecDepth 100000 in
theorem ck_M_item : B_M_item.1.1 0 0 0 = some none := by decide +kernel
abbrev K_M_shelf : bK := (RX12, cX12_shelf, 4, some .int, fun _ _ _ => True)
def B_M_shelf : ES K_M_shelf := (sSeq (sIf (cOr (cOr (cOr (cOr (cNot (cZ 1 (eCall (xS 201 (gI (eLoc 1) (gI (eInt 0) (gI (eInt 3) gNil))) csX12_244) rt_201))) (cNot (cZ 1 (eCall (xS 201 (gI (eLoc 2) (gI (eInt 0) (gI (eInt 3) gNil))) csX12_244) rt_201)))) (cAnd (cZ 0 (eLoc 2)) (cNot (cZ 1 (eCall (xV 207 (rLoc 0 132) (gI (eInt 6) (gI (eLoc 3) gNil)) cvX12_274_207) rt_207))))) (cAnd (cQ 0 (eLoc 2) (eInt 1)) (cNot (cZ 1 (eCall (xV 207 (rLoc 0 132) (gI (eInt 12) (gI (eLoc 3) gNil)) cvX12_274_207) rt_207))))) (cAnd (cQ 0 (eLoc 2) (eInt 2)) (cNot (cZ 1 (eCall (xS 203 (gI (eLoc 3) gNil) csX12_557) rt_203))))) (sRet (eInt (-1))) sNop) (sSeq (sPutA 4 (rFld (rLoc 0 132) 200 flX12_213) (eLoc 1) (eLoc 2)) (sSeq (sPutA 4 (rFld (rLoc 0 132) 201 flX12_216) (eLoc 1) (eIte (cQ 2 (eLoc 2) (eInt 2)) (eLoc 3) (eInt 0))) (sSeq (sIf (cQ 0 (eLoc 2) (eInt 2)) (sSeq (sPutA 4 (rFld (rLoc 0 132) 200 flX12_213) (eLoc 1) (eIte (cZ 2 (eAI 4 (rFld (rLoc 0 132) 197 flX12_203) (eLoc 3))) (eInt 3) (eAdd (eInt 10) (eAI 4 (rFld (rLoc 0 132) 197 flX12_203) (eLoc 3))))) (sPutA 4 (rFld (rLoc 0 132) 202 flX12_219) (eLoc 1) (eAI 4 (rFld (rLoc 0 132) 198 flX12_206) (eLoc 3)))) sNop) (sRet (eInt 1))))))
set_option maxRecDepth 100000 in
theorem ck_M_shelf : B_M_shelf.1.1 0 0 0 = some none := by decide +kernel
abbrev K_M_taken : bK := (RX12, cX12_taken, 3, some .int, fun _ _ _ => True)
def B_M_taken : ES K_M_taken := (sSeq (sIf (cOr (cNot (cZ 1 (eCall (xS 201 (gI (eLoc 1) (gI (eInt 0) (gI (eInt 3) gNil))) csX12_244) rt_201))) (cAnd (cNot (cZ 1 (eCall (xS 201 (gI (eLoc 2) (gI (eInt 0) (gI (eInt 6) gNil))) csX12_244) rt_201))) (cNot (cZ 1 (eCall (xS 201 (gI (eLoc 2) (gI (eInt 10) (gI (eInt 14) gNil))) csX12_244) rt_201))))) (sRet (eInt (-1))) sNop) (sSeq (sIf (cZ 4 (eCall (xV 242 (rLoc 0 132) (gI (eLoc 1) gNil) cvX12_564_242) rt_242)) (sRet (eIte (cAnd (cQ 2 (eLoc 2) (eInt 7)) (cZ 1 (eCall (xS 243 (gI (eCall (xV 242 (rLoc 0 132) (gI (eLoc 1) gNil) cvX12_564_242) rt_242) (gI (eLoc 2) gNil)) csX12_567) rt_243))) (eAI 4 (rFld (rLoc 0 132) 201 flX12_216) (eLoc 1)) (eInt (-13)))) sNop) (sSeq (sIf (cQ 2 (eAI 4 (rFld (rLoc 0 132) 200 flX12_213) (eLoc 1)) (eInt 10)) (sRet (eInt (-11))) sNop) (sRet (eIte (cQ 0 (eAI 4 (rFld (rLoc 0 132) 200 flX12_213) (eLoc 1)) (eLoc 2)) (eAI 4 (rFld (rLoc 0 132) 202 flX12_219) (eLoc 1)) (eInt (-13)))))))
set_option maxRecDepth 100000 in
theorem ck_M_taken : B_M_taken.1.1 0 0 0 = some none := by decide +kernel
abbrev K_M_deal : bK := (RX12, cX12_deal, 5, some .int, fun _ _ _ => True)
def B_M_deal : ES K_M_deal := (sSeq (sPutI (rLoc 0 132) (eInt 0) fpX12_570) (sSeq (sIf (cOr (cOr (cNot (cZ 1 (eCall (xS 201 (gI (eLoc 1) (gI (eInt 0) (gI (eInt 3) gNil))) csX12_244) rt_201))) (cNot (cZ 1 (eCall (xS 201 (gI (eLoc 2) (gI (eInt 0) (gI (eInt 3) gNil))) csX12_244) rt_201)))) (cZ 2 (eCall (xV 242 (rLoc 0 132) (gI (eLoc 1) gNil) cvX12_564_242) rt_242))) (sRet (eInt 0)) sNop) (sSeq (sPutI (rLoc 0 132) (eCall (xV 242 (rLoc 0 132) (gI (eLoc 1) gNil) cvX12_564_242) rt_242) fpX12_579) (sSeq (sPutI (rLoc 0 132) (eAI 4 (rFld (rLoc 0 132) 201 flX12_216) (eLoc 1)) fpX12_585) (sSeq (sPutI (rLoc 0 132) (eIte (cQ 4 (eFld (rLoc 0 132) flX12_579) (eInt 4)) (eCall (xV 236 (rLoc 0 132) (gI (eFld (rLoc 0 132) flX12_585) gNil) cvX12_523_236) rt_236) (eAI 16 (rFld (rLoc 0 132) 142 flX12_37) (eFld (rLoc 0 132) flX12_585))) fpX12_599) (sSeq (sPutI (rLoc 0 132) (eIte (cQ 4 (eFld (rLoc 0 132) flX12_579) (eInt 4)) (eAI 12 (rFld (rLoc 0 132) 159 flX12_88) (eAI 16 (rFld (rLoc 0 132) 173 flX12_130) (eFld (rLoc 0 132) flX12_585))) (eAI 16 (rFld (rLoc 0 132) 143 flX12_40) (eFld (rLoc 0 132) flX12_585))) fpX12_576) (sSeq (sPutZ (rLoc 0 132) (eInt 0) fpX12_608) (sSeq (sSet 4 (eIte (cZ 0 (eLoc 2)) (eCall (xV 244 (rLoc 0 132) (gI (eLoc 3) gNil) cvX12_587_244) rt_244) (eIte (cQ 0 (eLoc 2) (eInt 1)) (eCall (xV 245 (rLoc 0 132) (gI (eLoc 3) gNil) cvX12_596_245) rt_245) (eIte (cQ 0 (eLoc 2) (eInt 2)) (eCall (xV 246 (rLoc 0 132) (gI (eLoc 3) gNil) cvX12_614_246) rt_246) (eCall (xV 247 (rLoc 0 132) (gI (eLoc 3) gNil) cvX12_617_247) rt_247))))) (sRet (eIte (cZ 1 (eFld (rLoc 0 132) flX12_608)) (eInt (-15)) (eLoc 4)))))))))))
set_option maxRecDepth 100000 in
theorem ck_M_deal : B_M_deal.1.1 0 0 0 = some none := by decide +kernel
abbrev K_M_trace : bK := (RX12, cX12_trace, 2, some .int, fun _ _ _ => True)
def B_M_trace : ES K_M_trace := (sRet (eIte (cAnd (cAnd (cZ 3 (eLoc 1)) (cQ 2 (eLoc 1) (eFld (rLoc 0 132) flX12_570))) (cQ 2 (eLoc 1) (eInt 30))) (eAI 30 (rFld (rLoc 0 132) 203 flX12_222) (eLoc 1)) (eInt (-3))))
set_option maxRecDepth 100000 in
theorem ck_M_trace : B_M_trace.1.1 0 0 0 = some none := by decide +kernel
abbrev K_M_many : bK := (RX12, cX12_many, 4, some .int, fun _ _ _ => True)
def L_M_many_1c : EC K_M_many := (cQ 2 (eLoc 3) (eAI 14 (rFld (rLoc 0 132) 133 flX12_7) (eInt 6)))
def L_M_many_1b : ES K_M_many := (sSet 2 (eAdd (eLoc 2) (eAI 16 (rFld (rLoc 0 132) 147 flX12_52) (eLoc 3))))
def L_M_many_1s : ES K_M_many := (sInc 3 1)
def L_M_many_1 : ES K_M_many := sLp 128 L_M_many_1c L_M_many_1b L_M_many_1s
def L_M_many_2c : EC K_M_many := (cQ 2 (eLoc 3) (eAI 14 (rFld (rLoc 0 132) 133 flX12_7) (eInt 12)))
def L_M_many_2b : ES K_M_many := (sSet 2 (eAdd (eLoc 2) (eIte (cZ 3 (eAI 16 (rFld (rLoc 0 132) 175 flX12_136) (eLoc 3))) (eInt 1) (eInt 0))))
def L_M_many_2s : ES K_M_many := (sInc 3 1)
def L_M_many_2 : ES K_M_many := sLp 214 L_M_many_2c L_M_many_2b L_M_many_2s
def B_M_many : ES K_M_many := (sSeq (sSet 2 (eInt 0)) (sSw (eLoc 1) (tCase 0 (sRet (eAI 14 (rFld (rLoc 0 132) 133 flX12_7) (eInt 3))) (tCase 1 (sRet (eAI 14 (rFld (rLoc 0 132) 133 flX12_7) (eInt 5))) (tCase 2 (sRet (eAI 14 (rFld (rLoc 0 132) 133 flX12_7) (eInt 6))) (tCase 3 (sSeq (sSeq (sSet 3 (eInt 0)) L_M_many_1) (sRet (eLoc 2))) (tCase 4 (sRet (eAI 14 (rFld (rLoc 0 132) 133 flX12_7) (eInt 7))) (tCase 5 (sRet (eAI 14 (rFld (rLoc 0 132) 133 flX12_7) (eInt 8))) (tCase 6 (sRet (eAI 14 (rFld (rLoc 0 132) 133 flX12_7) (eInt 9))) (tCase 7 (sRet (eAI 14 (rFld (rLoc 0 132) 133 flX12_7) (eInt 10))) (tCase 8 (sRet (eAI 14 (rFld (rLoc 0 132) 133 flX12_7) (eInt 11))) (tCase 9 (sRet (eAI 14 (rFld (rLoc 0 132) 133 flX12_7) (eInt 12))) (tCase 10 (sSeq (sSeq (sSet 3 (eInt 0)) L_M_many_2) (sRet (eLoc 2))) (tCase 11 (sRet (eAI 14 (rFld (rLoc 0 132) 133 flX12_7) (eInt 13))) (tCase 12 (sRet (eAI 14 (rFld (rLoc 0 132) 133 flX12_7) (eInt 4))) (tCase 13 (sRet (eFld (rLoc 0 132) flX12_530)) (tCase 14 (sRet (eFld (rLoc 0 132) flX12_347)) (tCase 15 (sRet (eCall (xS 231 (gI (eFld (rLoc 0 132) flX12_570) (gI (eInt 30) gNil)) csX12_259) rt_231)) (tCase 16 (sRet (eAI 14 (rFld (rLoc 0 132) 133 flX12_7) (eInt 0))) (tDef (sRet (eInt (-1)))))))))))))))))))))))
set_option maxRecDepth 100000 in
theorem ck_M_many : B_M_many.1.1 0 0 0 = some none := by decide +kernel
abbrev K_M_keep : bK := (RX12, cX12_keep, 1, some .int, fun _ _ _ => True)
def B_M_keep : ES K_M_keep := (sSeq (sCall (xV 248 (rLoc 0 132) (gI (eInt 1) gNil) cvX12_233_248) rt_248) (sSeq (sPutZ (rLoc 0 132) (eInt 1) fpX12_237) (sRet (eInt 1))))
set_option maxRecDepth 100000 in
theorem ck_M_keep : B_M_keep.1.1 0 0 0 = some none := by decide +kernel
abbrev K_M_again : bK := (RX12, cX12_again, 1, some .int, fun _ _ _ => True)
def B_M_again : ES K_M_again := (sSeq (sIf (cNot (cZ 1 (eFld (rLoc 0 132) flX12_237))) (sRet (eInt (-3))) sNop) (sSeq (sCall (xV 248 (rLoc 0 132) (gI (eInt 0) gNil) cvX12_233_248) rt_248) (sSeq (sPutZ (rLoc 0 132) (eInt 0) fpX12_241) (sRet (eInt 1)))))
set_option maxRecDepth 100000 in
theorem ck_M_again : B_M_again.1.1 0 0 0 = some none := by decide +kernel
abbrev K_M_isReach : bK := (RX12, cX12_isReach, 1, some .boolean, fun _ _ _ => True)
def B_M_isReach : ES K_M_isReach := (sRet (eCall (xS 201 (gI (eLoc 0) (gI (eInt 0) (gI (eInt 11) gNil))) csX12_244) rt_201))
set_option maxRecDepth 100000 in
theorem ck_M_isReach : B_M_isReach.1.1 0 0 0 = some none := by decide +kernel
abbrev K_M_in : bK := (RX12, cX12_in, 3, some .boolean, fun _ _ _ => True)
def B_M_in : ES K_M_in := (sRet (eIte (cAnd (cQ 3 (eLoc 0) (eLoc 1)) (cQ 5 (eLoc 0) (eLoc 2))) (eInt 1) (eInt 0)))
set_option maxRecDepth 100000 in
theorem ck_M_in : B_M_in.1.1 0 0 0 = some none := by decide +kernel
abbrev K_M_isGate : bK := (RX12, cX12_isGate, 2, some .boolean, fun _ _ _ => True)
def B_M_isGate : ES K_M_isGate := (sRet (eIte (cAnd (cZ 1 (eCall (xS 201 (gI (eLoc 0) (gI (eInt 0) (gI (eInt 99) gNil))) csX12_244) rt_201)) (cZ 1 (eCall (xS 205 (gI (eLoc 1) gNil) csX12_252) rt_205))) (eInt 1) (eInt 0)))
set_option maxRecDepth 100000 in
theorem ck_M_isGate : B_M_isGate.1.1 0 0 0 = some none := by decide +kernel
abbrev K_M_isSheet : bK := (RX12, cX12_isSheet, 1, some .boolean, fun _ _ _ => True)
def B_M_isSheet : ES K_M_isSheet := (sRet (eCall (xS 201 (gI (eLoc 0) (gI (eInt 0) (gI (eInt 3) gNil))) csX12_244) rt_201))
set_option maxRecDepth 100000 in
theorem ck_M_isSheet : B_M_isSheet.1.1 0 0 0 = some none := by decide +kernel
abbrev K_M_isNight : bK := (RX12, cX12_isNight, 2, some .boolean, fun _ _ _ => True)
def B_M_isNight : ES K_M_isNight := (sRet (eIte (cAnd (cZ 1 (eCall (xS 201 (gI (eLoc 0) (gI (eInt 0) (gI (eInt 2) gNil))) csX12_244) rt_201)) (cZ 1 (eCall (xS 201 (gI (eLoc 1) (gI (eInt 0) (gI (eInt 29) gNil))) csX12_244) rt_201))) (eInt 1) (eInt 0)))
set_option maxRecDepth 100000 in
theorem ck_M_isNight : B_M_isNight.1.1 0 0 0 = some none := by decide +kernel
abbrev K_M_isMinute : bK := (RX12, cX12_isMinute, 1, some .boolean, fun _ _ _ => True)
def B_M_isMinute : ES K_M_isMinute := (sRet (eCall (xS 201 (gI (eLoc 0) (gI (eInt 0) (gI (eInt 179) gNil))) csX12_244) rt_201))
set_option maxRecDepth 100000 in
theorem ck_M_isMinute : B_M_isMinute.1.1 0 0 0 = some none := by decide +kernel
abbrev K_M_nightAsIs : bK := (RX12, cX12_nightAsIs, 3, none, fun _ _ _ => True)
def B_M_nightAsIs : ES K_M_nightAsIs := (sSeq (sCall (xV 209 (rLoc 0 132) (gI (eLoc 1) (gI (eLoc 2) (gI (eAI 14 (rFld (rLoc 0 132) 133 flX12_7) (eInt 1)) (gI (eAI 14 (rFld (rLoc 0 132) 133 flX12_7) (eInt 2)) gNil)))) cvX12_263_209) rt_209) sRetV)
set_option maxRecDepth 100000 in
theorem ck_M_nightAsIs : B_M_nightAsIs.1.1 0 0 0 = some none := by decide +kernel
abbrev K_M_isOf : bK := (RX12, cX12_isOf, 3, some .boolean, fun _ _ _ => True)
def B_M_isOf : ES K_M_isOf := (sRet (eCall (xS 201 (gI (eLoc 2) (gI (eInt 0) (gI (eSub (eAI 14 (rFld (rLoc 0 132) 133 flX12_7) (eLoc 1)) (eInt 1)) gNil))) csX12_244) rt_201))
set_option maxRecDepth 100000 in
theorem ck_M_isOf : B_M_isOf.1.1 0 0 0 = some none := by decide +kernel
abbrev K_M_fallMany : bK := (RX12, cX12_fallMany, 3, some .int, fun _ _ _ => True)
def L_M_fallMany_1c : EC K_M_fallMany := (cQ 2 (eLoc 2) (eAI 14 (rFld (rLoc 0 132) 133 flX12_7) (eInt 5)))
def L_M_fallMany_1b : ES K_M_fallMany := (sSet 1 (eAdd (eLoc 1) (eIte (cZ 3 (eAI 10 (rFld (rLoc 0 132) 180 flX12_151) (eLoc 2))) (eInt 1) (eInt 0))))
def L_M_fallMany_1s : ES K_M_fallMany := (sInc 2 1)
def L_M_fallMany_1 : ES K_M_fallMany := sLp 31 L_M_fallMany_1c L_M_fallMany_1b L_M_fallMany_1s
def B_M_fallMany : ES K_M_fallMany := (sSeq (sSet 1 (eInt 0)) (sSeq (sSeq (sSet 2 (eInt 0)) L_M_fallMany_1) (sRet (eLoc 1))))
set_option maxRecDepth 100000 in
theorem ck_M_fallMany : B_M_fallMany.1.1 0 0 0 = some none := by decide +kernel
abbrev K_M_night : bK := (RX12, cX12_night, 10, none, fun _ _ _ => True)
def L_M_night_1c : EC K_M_night := (cQ 2 (eLoc 6) (eInt 12))
def L_M_night_1b : ES K_M_night := (sSeq (sPutA 12 (rFld (rLoc 0 132) 181 flX12_154) (eLoc 6) (eInt 0)) (sPutA 12 (rFld (rLoc 0 132) 182 flX12_157) (eLoc 6) (eAI 12 (rFld (rLoc 0 132) 135 flX12_16) (eLoc 6))))
def L_M_night_1s : ES K_M_night := (sInc 6 1)
def L_M_night_1 : ES K_M_night := sLp 40 L_M_night_1c L_M_night_1b L_M_night_1s
def L_M_night_2c : EC K_M_night := (cQ 2 (eLoc 6) (eInt 10))
def L_M_night_2b : ES K_M_night := (sPutA 10 (rFld (rLoc 0 132) 180 flX12_151) (eLoc 6) (eInt (-1)))
def L_M_night_2s : ES K_M_night := (sInc 6 1)
def L_M_night_2 : ES K_M_night := sLp 64 L_M_night_2c L_M_night_2b L_M_night_2s
def L_M_night_4c : EC K_M_night := (cQ 2 (eLoc 8) (eInt 12))
def L_M_night_4b : ES K_M_night := (sPutA 12 (rFld (rLoc 0 132) 183 flX12_160) (eLoc 8) (eDiv (eAI 12 (rFld (rLoc 0 132) 181 flX12_154) (eLoc 8)) (eAI 12 (rFld (rLoc 0 132) 182 flX12_157) (eLoc 8))))
def L_M_night_4s : ES K_M_night := (sInc 8 1)
def L_M_night_4 : ES K_M_night := sLp 191 L_M_night_4c L_M_night_4b L_M_night_4s
def L_M_night_5c : EC K_M_night := (cQ 2 (eLoc 8) (eInt 12))
def L_M_night_5b : ES K_M_night := (sSeq (sOpA 12 0 (rFld (rLoc 0 132) 181 flX12_154) (eLoc 8) (eSub (eIte (cZ 0 (eLoc 8)) (eLoc 7) (eAI 12 (rFld (rLoc 0 132) 183 flX12_160) (eSub (eLoc 8) (eInt 1)))) (eAI 12 (rFld (rLoc 0 132) 183 flX12_160) (eLoc 8)))) (sPutA 2160 (rFld (rLoc 0 132) 179 flX12_148) (eAdd (eMul (eInt 180) (eLoc 8)) (eLoc 6)) (eDiv (eAI 12 (rFld (rLoc 0 132) 181 flX12_154) (eLoc 8)) (eAI 12 (rFld (rLoc 0 132) 134 flX12_13) (eLoc 8)))))
def L_M_night_5s : ES K_M_night := (sInc 8 1)
def L_M_night_5 : ES K_M_night := sLp 273 L_M_night_5c L_M_night_5b L_M_night_5s
def L_M_night_6c : EC K_M_night := (cQ 2 (eLoc 8) (eAI 14 (rFld (rLoc 0 132) 133 flX12_7) (eInt 5)))
def L_M_night_6b : ES K_M_night := (sSeq (sSet 9 (eAI 10 (rFld (rLoc 0 132) 138 flX12_25) (eLoc 8))) (sIf (cAnd (cZ 2 (eAI 10 (rFld (rLoc 0 132) 180 flX12_151) (eLoc 8))) (cQ 3 (eAI 2160 (rFld (rLoc 0 132) 179 flX12_148) (eAdd (eMul (eInt 180) (eLoc 9)) (eLoc 6))) (eAI 10 (rFld (rLoc 0 132) 139 flX12_28) (eLoc 8)))) (sSeq (sPutA 10 (rFld (rLoc 0 132) 180 flX12_151) (eLoc 8) (eLoc 6)) (sPutA 12 (rFld (rLoc 0 132) 182 flX12_157) (eLoc 9) (eCall (xS 231 (gI (eInt 9) (gI (eAdd (eAI 12 (rFld (rLoc 0 132) 182 flX12_157) (eLoc 9)) (eInt 1)) gNil)) csX12_259) rt_231))) sNop))
def L_M_night_6s : ES K_M_night := (sInc 8 1)
def L_M_night_6 : ES K_M_night := sLp 366 L_M_night_6c L_M_night_6b L_M_night_6s
def L_M_night_3c : EC K_M_night := (cQ 2 (eLoc 6) (eInt 180))
def L_M_night_3b : ES K_M_night := (sSeq (sSet 7 (eIte (cQ 3 (eLoc 6) (eLoc 4)) (eCall (xS 231 (gI (eLoc 3) (gI (eLoc 5) gNil)) csX12_259) rt_231) (eInt 0))) (sSeq (sSet 5 (eSub (eLoc 5) (eLoc 7))) (sSeq (sIf (cQ 3 (eLoc 6) (eLoc 2)) (sSeq (sSet 8 (eCall (xS 231 (gI (eLoc 5) (gI (eAI 24 (rFld (rLoc 0 132) 137 flX12_22) (eAdd (eMul (eInt 8) (eLoc 1)) (eCall (xS 231 (gI (eSub (eLoc 6) (eLoc 2)) (gI (eSub (eAI 3 (rFld (rLoc 0 132) 136 flX12_19) (eLoc 1)) (eInt 1)) gNil)) csX12_259) rt_231))) gNil)) csX12_259) rt_231)) (sSeq (sSet 5 (eSub (eLoc 5) (eLoc 8))) (sSet 7 (eAdd (eLoc 7) (eLoc 8))))) sNop) (sSeq (sSeq (sSet 8 (eInt 0)) L_M_night_4) (sSeq (sSeq (sSet 8 (eInt 0)) L_M_night_5) (sSeq (sSet 8 (eInt 0)) L_M_night_6))))))
def L_M_night_3s : ES K_M_night := (sInc 6 1)
def L_M_night_3 : ES K_M_night := sLp 372 L_M_night_3c L_M_night_3b L_M_night_3s
def B_M_night : ES K_M_night := (sSeq (sSet 5 (eAI 14 (rFld (rLoc 0 132) 133 flX12_7) (eInt 0))) (sSeq (sSeq (sSet 6 (eInt 0)) L_M_night_1) (sSeq (sSeq (sSet 6 (eInt 0)) L_M_night_2) (sSeq (sSeq (sSet 6 (eInt 0)) L_M_night_3) sRetV))))
set_option maxRecDepth 100000 in
theorem ck_M_night : B_M_night.1.1 0 0 0 = some none := by decide +kernel
abbrev K_M_seen : bK := (RX12, cX12_seen, 8, some .int, fun _ _ _ => True)
def B_M_seen : ES K_M_seen := (sSeq (sIf (cQ 0 (eAI 14 (rFld (rLoc 0 132) 133 flX12_7) (eInt 6)) (eInt 16)) (sRet (eInt (-2))) sNop) (sSeq (sSet 7 (eAI 14 (rFld (rLoc 0 132) 133 flX12_7) (eInt 6))) (sSeq (sPutA 16 (rFld (rLoc 0 132) 141 flX12_34) (eLoc 7) (eLoc 1)) (sSeq (sPutA 16 (rFld (rLoc 0 132) 142 flX12_37) (eLoc 7) (eLoc 2)) (sSeq (sPutA 16 (rFld (rLoc 0 132) 143 flX12_40) (eLoc 7) (eLoc 3)) (sSeq (sPutA 16 (rFld (rLoc 0 132) 144 flX12_43) (eLoc 7) (eLoc 4)) (sSeq (sPutA 16 (rFld (rLoc 0 132) 145 flX12_46) (eLoc 7) (eLoc 5)) (sSeq (sPutA 16 (rFld (rLoc 0 132) 146 flX12_49) (eLoc 7) (eLoc 6)) (sSeq (sPutA 16 (rFld (rLoc 0 132) 147 flX12_52) (eLoc 7) (eInt 0)) (sSeq (sOpA 14 0 (rFld (rLoc 0 132) 133 flX12_7) (eInt 6) (eInt 1)) (sSeq (sPutZ (rLoc 0 132) (eInt 0) fpX12_241) (sRet (eLoc 7)))))))))))))
set_option maxRecDepth 100000 in
theorem ck_M_seen : B_M_seen.1.1 0 0 0 = some none := by decide +kernel
abbrev K_M_doesLet : bK := (RX12, cX12_doesLet, 5, some .boolean, fun _ _ _ => True)
def B_M_doesLet : ES K_M_doesLet := (sSeq (sIf (cQ 0 (eAI 16 (rFld (rLoc 0 132) 141 flX12_34) (eLoc 1)) (eInt 1)) (sSeq (sSet 4 (eCall (xV 215 (rLoc 0 132) (gI (eAI 16 (rFld (rLoc 0 132) 142 flX12_37) (eLoc 1)) (gI (eAI 16 (rFld (rLoc 0 132) 144 flX12_43) (eLoc 1)) gNil)) cvX12_289_215) rt_215)) (sRet (eIte (cAnd (cQ 1 (eLoc 4) (eLdw 1000000000 kiX12_285)) (cQ 5 (eCall (xS 237 (gI (eLoc 4) (gI (eSub (eAI 16 (rFld (rLoc 0 132) 143 flX12_40) (eLoc 1)) (eAI 16 (rFld (rLoc 0 132) 145 flX12_46) (eLoc 1))) gNil)) csX12_292) rt_237) (eAI 16 (rFld (rLoc 0 132) 146 flX12_49) (eLoc 1)))) (eInt 1) (eInt 0)))) sNop) (sSeq (sIf (cQ 0 (eAI 16 (rFld (rLoc 0 132) 141 flX12_34) (eLoc 1)) (eInt 2)) (sRet (eCall (xS 201 (gI (eCall (xV 277 (rLoc 0 132) (gI (eAI 16 (rFld (rLoc 0 132) 142 flX12_37) (eLoc 1)) gNil) cvX12_295_277) rt_277) (gI (eAI 16 (rFld (rLoc 0 132) 143 flX12_40) (eLoc 1)) (gI (eAI 16 (rFld (rLoc 0 132) 144 flX12_43) (eLoc 1)) gNil))) csX12_244) rt_201)) sNop) (sRet (eIte (cAnd (cQ 0 (eAnd (eShr (eAI 16 (rFld (rLoc 0 132) 143 flX12_40) (eLoc 1)) (eLoc 2)) (eInt 1)) (eInt 1)) (cZ 1 (eCall (xS 201 (gI (eLoc 3) (gI (eAI 16 (rFld (rLoc 0 132) 144 flX12_43) (eLoc 1)) (gI (eAI 16 (rFld (rLoc 0 132) 145 flX12_46) (eLoc 1)) gNil))) csX12_244) rt_201))) (eInt 1) (eInt 0)))))
set_option maxRecDepth 100000 in
theorem ck_M_doesLet : B_M_doesLet.1.1 0 0 0 = some none := by decide +kernel
abbrev K_M_survey : bK := (RX12, cX12_survey, 5, none, fun _ _ _ => True)
def L_M_survey_1c : EC K_M_survey := (cQ 2 (eLoc 1) (eInt 16))
def L_M_survey_1b : ES K_M_survey := (sPutA 16 (rFld (rLoc 0 132) 185 flX12_167) (eLoc 1) (eInt 0))
def L_M_survey_1s : ES K_M_survey := (sInc 1 1)
def L_M_survey_1 : ES K_M_survey := sLp 33 L_M_survey_1c L_M_survey_1b L_M_survey_1s
def L_M_survey_2c : EC K_M_survey := (cQ 2 (eLoc 1) (eInt 10))
def L_M_survey_2b : ES K_M_survey := (sPutA 10 (rFld (rLoc 0 132) 186 flX12_170) (eLoc 1) (eInt 0))
def L_M_survey_2s : ES K_M_survey := (sInc 1 1)
def L_M_survey_2 : ES K_M_survey := sLp 54 L_M_survey_2c L_M_survey_2b L_M_survey_2s
def L_M_survey_3c : EC K_M_survey := (cQ 2 (eLoc 1) (eInt 12))
def L_M_survey_3b : ES K_M_survey := (sPutA 12 (rFld (rLoc 0 132) 188 flX12_176) (eLoc 1) (eInt 0))
def L_M_survey_3s : ES K_M_survey := (sInc 1 1)
def L_M_survey_3 : ES K_M_survey := sLp 75 L_M_survey_3c L_M_survey_3b L_M_survey_3s
def L_M_survey_5c : EC K_M_survey := (cQ 2 (eLoc 4) (eAI 14 (rFld (rLoc 0 132) 133 flX12_7) (eInt 6)))
def L_M_survey_5b : ES K_M_survey := (sIf (cAnd (cZ 1 (eCall (xV 278 (rLoc 0 132) (gI (eLoc 4) gNil) cvX12_305_278) rt_278)) (cNot (cZ 1 (eCall (xV 211 (rLoc 0 132) (gI (eLoc 4) (gI (eDiv (eLoc 1) (eInt 30)) (gI (eRem (eLoc 1) (eInt 30)) gNil))) cvX12_299_211) rt_211)))) (sSeq (sInc 2 1) (sSet 3 (eLoc 4))) sNop)
def L_M_survey_5s : ES K_M_survey := (sInc 4 1)
def L_M_survey_5 : ES K_M_survey := sLp 152 L_M_survey_5c L_M_survey_5b L_M_survey_5s
def L_M_survey_4c : EC K_M_survey := (cQ 2 (eLoc 1) (eInt 90))
def L_M_survey_4b : ES K_M_survey := (sSeq (sCall (xV 206 (rLoc 0 132) (gI (eDiv (eLoc 1) (eInt 30)) (gI (eRem (eLoc 1) (eInt 30)) gNil)) cvX12_270_206) rt_206) (sSeq (sSet 2 (eInt 0)) (sSeq (sSet 3 (eInt (-1))) (sSeq (sSeq (sSet 4 (eInt 0)) L_M_survey_5) (sSeq (sPutAZ 90 (rFld (rLoc 0 132) 184 flX12_163) (eLoc 1) (eIte (cZ 0 (eLoc 2)) (eInt 1) (eInt 0))) (sSeq (sIf (cQ 0 (eLoc 2) (eInt 1)) (sOpA 16 0 (rFld (rLoc 0 132) 185 flX12_167) (eLoc 3) (eInt 1)) sNop) (sIf (cZ 0 (eLoc 2)) (sCall (xV 279 (rLoc 0 132) (gI (eLoc 1) gNil) cvX12_308_279) rt_279) sNop)))))))
def L_M_survey_4s : ES K_M_survey := (sInc 1 1)
def L_M_survey_4 : ES K_M_survey := sLp 197 L_M_survey_4c L_M_survey_4b L_M_survey_4s
def B_M_survey : ES K_M_survey := (sSeq (sIf (cZ 1 (eFld (rLoc 0 132) flX12_241)) sRetV sNop) (sSeq (sPutZ (rLoc 0 132) (eInt 1) fpX12_241) (sSeq (sPutI (rLoc 0 132) (eInt 0) fpX12_302) (sSeq (sSeq (sSet 1 (eInt 0)) L_M_survey_1) (sSeq (sSeq (sSet 1 (eInt 0)) L_M_survey_2) (sSeq (sSeq (sSet 1 (eInt 0)) L_M_survey_3) (sSeq (sSeq (sSet 1 (eInt 0)) L_M_survey_4) sRetV)))))))
set_option maxRecDepth 100000 in
theorem ck_M_survey : B_M_survey.1.1 0 0 0 = some none := by decide +kernel
abbrev K_M_surelyFalls : bK := (RX12, cX12_surelyFalls, 2, some .boolean, fun _ _ _ => True)
def B_M_surelyFalls : ES K_M_surelyFalls := (sRet (eIte (cAnd (cZ 4 (eFld (rLoc 0 132) flX12_302)) (cQ 0 (eAI 10 (rFld (rLoc 0 132) 186 flX12_170) (eLoc 1)) (eFld (rLoc 0 132) flX12_302))) (eInt 1) (eInt 0)))
set_option maxRecDepth 100000 in
theorem ck_M_surelyFalls : B_M_surelyFalls.1.1 0 0 0 = some none := by decide +kernel
abbrev K_M_isRide : bK := (RX12, cX12_isRide, 4, some .boolean, fun _ _ _ => True)
def B_M_isRide : ES K_M_isRide := (sRet (eIte (cAnd (cAnd (cAnd (cZ 1 (eCall (xS 205 (gI (eLoc 0) gNil) csX12_252) rt_205)) (cZ 1 (eCall (xS 200 (gI (eLoc 1) gNil) csX12_248) rt_200))) (cZ 1 (eCall (xS 201 (gI (eLoc 2) (gI (eInt 100) (gI (eInt 999) gNil))) csX12_244) rt_201))) (cZ 1 (eCall (xS 201 (gI (eLoc 3) (gI (eInt 0) (gI (eInt 30) gNil))) csX12_244) rt_201))) (eInt 1) (eInt 0)))
set_option maxRecDepth 100000 in
theorem ck_M_isRide : B_M_isRide.1.1 0 0 0 = some none := by decide +kernel
abbrev K_M_firstDeep : bK := (RX12, cX12_firstDeep, 4, some .int, fun _ _ _ => True)
def L_M_firstDeep_1c : EC K_M_firstDeep := (cQ 2 (eLoc 3) (eInt 180))
def L_M_firstDeep_1b : ES K_M_firstDeep := (sIf (cQ 3 (eAI 2160 (rFld (rLoc 0 132) 179 flX12_148) (eAdd (eMul (eInt 180) (eLoc 1)) (eLoc 3))) (eLoc 2)) (sRet (eLoc 3)) sNop)
def L_M_firstDeep_1s : ES K_M_firstDeep := (sInc 3 1)
def L_M_firstDeep_1 : ES K_M_firstDeep := sLp 27 L_M_firstDeep_1c L_M_firstDeep_1b L_M_firstDeep_1s
def B_M_firstDeep : ES K_M_firstDeep := (sSeq (sSeq (sSet 3 (eInt 0)) L_M_firstDeep_1) (sRet (eLdw 1000000000 kiX12_285)))
set_option maxRecDepth 100000 in
theorem ck_M_firstDeep : B_M_firstDeep.1.1 0 0 0 = some none := by decide +kernel
abbrev K_M_ride : bK := (RX12, cX12_ride, 7, none, fun _ _ _ => True)
def L_M_ride_1c : EC K_M_ride := (cQ 2 (eLoc 4) (eInt 10))
def L_M_ride_1b : ES K_M_ride := (sPutA 10 (rFld (rLoc 0 132) 189 flX12_179) (eLoc 4) (eInt (-1)))
def L_M_ride_1s : ES K_M_ride := (sInc 4 1)
def L_M_ride_1 : ES K_M_ride := sLp 18 L_M_ride_1c L_M_ride_1b L_M_ride_1s
def L_M_ride_3c : EC K_M_ride := (cQ 2 (eLoc 6) (eAI 14 (rFld (rLoc 0 132) 133 flX12_7) (eInt 5)))
def L_M_ride_3b : ES K_M_ride := (sIf (cQ 0 (eAI 10 (rFld (rLoc 0 132) 138 flX12_25) (eLoc 6)) (eLoc 5)) (sSeq (sSet 4 (eAdd (eLoc 4) (eRem (eDiv (eLoc 3) (eInt 10)) (eInt 10)))) (sPutA 10 (rFld (rLoc 0 132) 189 flX12_179) (eLoc 6) (eLoc 4))) sNop)
def L_M_ride_3s : ES K_M_ride := (sInc 6 1)
def L_M_ride_3 : ES K_M_ride := sLp 84 L_M_ride_3c L_M_ride_3b L_M_ride_3s
def L_M_ride_2c : EC K_M_ride := (cQ 2 (eLoc 5) (eInt 12))
def L_M_ride_2b : ES K_M_ride := (sSeq (sSeq (sSet 6 (eInt 0)) L_M_ride_3) (sSet 4 (eAdd (eLoc 4) (eDiv (eLoc 3) (eInt 100)))))
def L_M_ride_2s : ES K_M_ride := (sInc 5 1)
def L_M_ride_2 : ES K_M_ride := sLp 99 L_M_ride_2c L_M_ride_2b L_M_ride_2s
def B_M_ride : ES K_M_ride := (sSeq (sSeq (sSet 4 (eInt 0)) L_M_ride_1) (sSeq (sSet 4 (eLoc 1)) (sSeq (sSeq (sSet 5 (eLoc 2)) L_M_ride_2) sRetV)))
set_option maxRecDepth 100000 in
theorem ck_M_ride : B_M_ride.1.1 0 0 0 = some none := by decide +kernel
abbrev K_M_inTime : bK := (RX12, cX12_inTime, 4, some .int, fun _ _ _ => True)
def L_M_inTime_1c : EC K_M_inTime := (cQ 2 (eLoc 3) (eAI 14 (rFld (rLoc 0 132) 133 flX12_7) (eInt 5)))
def L_M_inTime_1b : ES K_M_inTime := (sSet 2 (eOr (eLoc 2) (eIte (cAnd (cZ 3 (eAI 10 (rFld (rLoc 0 132) 189 flX12_179) (eLoc 3))) (cQ 5 (eAdd (eAI 10 (rFld (rLoc 0 132) 189 flX12_179) (eLoc 3)) (eLoc 1)) (eAI 12 (rFld (rLoc 0 132) 190 flX12_182) (eAI 10 (rFld (rLoc 0 132) 138 flX12_25) (eLoc 3))))) (eShl (eInt 1) (eLoc 3)) (eInt 0))))
def L_M_inTime_1s : ES K_M_inTime := (sInc 3 1)
def L_M_inTime_1 : ES K_M_inTime := sLp 55 L_M_inTime_1c L_M_inTime_1b L_M_inTime_1s
def B_M_inTime : ES K_M_inTime := (sSeq (sSet 2 (eInt 0)) (sSeq (sSeq (sSet 3 (eInt 0)) L_M_inTime_1) (sRet (eLoc 2))))
set_option maxRecDepth 100000 in
theorem ck_M_inTime : B_M_inTime.1.1 0 0 0 = some none := by decide +kernel
abbrev K_M_nevers : bK := (RX12, cX12_nevers, 5, some .int, fun _ _ _ => True)
def L_M_nevers_2c : EC K_M_nevers := (cQ 2 (eLoc 4) (eAI 14 (rFld (rLoc 0 132) 133 flX12_7) (eInt 7)))
def L_M_nevers_2b : ES K_M_nevers := (sSet 3 (eIte (cOr (cZ 1 (eLoc 3)) (cZ 1 (eCall (xV 280 (rLoc 0 132) (gI (eLoc 2) (gI (eLoc 4) gNil)) cvX12_332_280) rt_280))) (eInt 1) (eInt 0)))
def L_M_nevers_2s : ES K_M_nevers := (sInc 4 1)
def L_M_nevers_2 : ES K_M_nevers := sLp 52 L_M_nevers_2c L_M_nevers_2b L_M_nevers_2s
def L_M_nevers_1c : EC K_M_nevers := (cQ 2 (eLoc 2) (eAI 14 (rFld (rLoc 0 132) 133 flX12_7) (eInt 8)))
def L_M_nevers_1b : ES K_M_nevers := (sSeq (sSet 3 (eInt 0)) (sSeq (sSeq (sSet 4 (eInt 0)) L_M_nevers_2) (sSet 1 (eAdd (eLoc 1) (eIte (cZ 1 (eLoc 3)) (eInt 0) (eInt 1))))))
def L_M_nevers_1s : ES K_M_nevers := (sInc 2 1)
def L_M_nevers_1 : ES K_M_nevers := sLp 70 L_M_nevers_1c L_M_nevers_1b L_M_nevers_1s
def B_M_nevers : ES K_M_nevers := (sSeq (sSet 1 (eInt 0)) (sSeq (sSeq (sSet 2 (eInt 0)) L_M_nevers_1) (sRet (eLoc 1))))
set_option maxRecDepth 100000 in
theorem ck_M_nevers : B_M_nevers.1.1 0 0 0 = some none := by decide +kernel
abbrev K_M_standing : bK := (RX12, cX12_standing, 4, some .int, fun _ _ _ => True)
def L_M_standing_1c : EC K_M_standing := (cQ 2 (eLoc 2) (eInt 16))
def L_M_standing_1b : ES K_M_standing := (sPutA 16 (rFld (rLoc 0 132) 191 flX12_185) (eLoc 2) (eInt (-1)))
def L_M_standing_1s : ES K_M_standing := (sInc 2 1)
def L_M_standing_1 : ES K_M_standing := sLp 15 L_M_standing_1c L_M_standing_1b L_M_standing_1s
def L_M_standing_2c : EC K_M_standing := (cQ 2 (eLoc 3) (eAI 14 (rFld (rLoc 0 132) 133 flX12_7) (eInt 8)))
def L_M_standing_2b : ES K_M_standing := (sSeq (sPutI (rLoc 0 132) (eInt 0) fpX12_335) (sSet 2 (eAdd (eLoc 2) (eIte (cZ 1 (eCall (xV 281 (rLoc 0 132) (gI (eLoc 3) (gI (eLoc 1) gNil)) cvX12_338_281) rt_281)) (eInt 1) (eInt 0)))))
def L_M_standing_2s : ES K_M_standing := (sInc 3 1)
def L_M_standing_2 : ES K_M_standing := sLp 58 L_M_standing_2c L_M_standing_2b L_M_standing_2s
def B_M_standing : ES K_M_standing := (sSeq (sSeq (sSet 2 (eInt 0)) L_M_standing_1) (sSeq (sSet 2 (eInt 0)) (sSeq (sSeq (sSet 3 (eInt 0)) L_M_standing_2) (sRet (eLoc 2)))))
set_option maxRecDepth 100000 in
theorem ck_M_standing : B_M_standing.1.1 0 0 0 = some none := by decide +kernel
abbrev K_M_liesAt : bK := (RX12, cX12_liesAt, 4, some .int, fun _ _ _ => True)
def L_M_liesAt_1c : EC K_M_liesAt := (cAnd (cQ 2 (eLoc 3) (eInt 180)) (cQ 2 (eLoc 2) (eInt 12)))
def L_M_liesAt_1b : ES K_M_liesAt := (sSeq (sIf (cQ 2 (eAI 2160 (rFld (rLoc 0 132) 179 flX12_148) (eAdd (eMul (eInt 180) (eLoc 2)) (eLoc 3))) (eAI 12 (rFld (rLoc 0 132) 158 flX12_85) (eLoc 1))) (sRet (eLoc 2)) sNop) (sInc 2 1))
def L_M_liesAt_1s : ES K_M_liesAt := (sInc 3 1)
def L_M_liesAt_1 : ES K_M_liesAt := sLp 65 L_M_liesAt_1c L_M_liesAt_1b L_M_liesAt_1s
def B_M_liesAt : ES K_M_liesAt := (sSeq (sSet 2 (eAI 10 (rFld (rLoc 0 132) 138 flX12_25) (eAI 12 (rFld (rLoc 0 132) 156 flX12_79) (eLoc 1)))) (sSeq (sSeq (sSet 3 (eAdd (eAI 10 (rFld (rLoc 0 132) 180 flX12_151) (eAI 12 (rFld (rLoc 0 132) 156 flX12_79) (eLoc 1))) (eInt 1))) L_M_liesAt_1) (sRet (eLoc 2))))
set_option maxRecDepth 100000 in
theorem ck_M_liesAt : B_M_liesAt.1.1 0 0 0 = some none := by decide +kernel
abbrev K_M_next : bK := (RX12, cX12_next, 2, none, fun _ _ _ => True)
def L_M_next_1c : EC K_M_next := (cQ 0 (eCall (xV 282 (rLoc 0 132) (gI (eFld (rLoc 0 132) flX12_352) gNil) cvX12_355_282) rt_282) (eInt 32))
def L_M_next_1b : ES K_M_next := (sOpF 0 (rLoc 0 132) (eInt 1) fpX12_352)
def L_M_next_1s : ES K_M_next := sNop
def L_M_next_1 : ES K_M_next := sLp 0 L_M_next_1c L_M_next_1b L_M_next_1s
def L_M_next_2c : EC K_M_next := (cAnd (cQ 0 (eFld (rLoc 0 132) flX12_368) (eInt 1)) (cZ 1 (eCall (xS 201 (gI (eCall (xV 282 (rLoc 0 132) (gI (eFld (rLoc 0 132) flX12_352) gNil) cvX12_355_282) rt_282) (gI (eInt 97) (gI (eInt 122) gNil))) csX12_244) rt_201)))
def L_M_next_2b : ES K_M_next := (sSeq (sPutL (rLoc 0 132) (lIte (cQ 2 (eFld (rLoc 0 132) flX12_361) (eInt 8)) (lSub (lAdd (lMul (lLdc (27) klX12_371) (lFld (rLoc 0 132) flX12_364)) (lI2L (eCall (xV 282 (rLoc 0 132) (gI (eFld (rLoc 0 132) flX12_352) gNil) cvX12_355_282) rt_282))) (lLdc (96) klX12_373)) (lLdc (-1) klX12_375)) fpX12_364) (sSeq (sOpF 0 (rLoc 0 132) (eInt 1) fpX12_361) (sOpF 0 (rLoc 0 132) (eInt 1) fpX12_352)))
def L_M_next_2s : ES K_M_next := sNop
def L_M_next_2 : ES K_M_next := sLp 120 L_M_next_2c L_M_next_2b L_M_next_2s
def L_M_next_3c : EC K_M_next := (cAnd (cQ 0 (eFld (rLoc 0 132) flX12_368) (eInt 2)) (cZ 1 (eCall (xS 201 (gI (eCall (xV 282 (rLoc 0 132) (gI (eFld (rLoc 0 132) flX12_352) gNil) cvX12_355_282) rt_282) (gI (eInt 48) (gI (eInt 57) gNil))) csX12_244) rt_201)))
def L_M_next_3b : ES K_M_next := (sSeq (sPutL (rLoc 0 132) (lIte (cQ 2 (eFld (rLoc 0 132) flX12_361) (eInt 3)) (lSub (lAdd (lMul (lLdc (10) klX12_377) (lFld (rLoc 0 132) flX12_364)) (lI2L (eCall (xV 282 (rLoc 0 132) (gI (eFld (rLoc 0 132) flX12_352) gNil) cvX12_355_282) rt_282))) (lLdc (48) klX12_379)) (lLdc (1000000000) klX12_381)) fpX12_364) (sSeq (sOpF 0 (rLoc 0 132) (eInt 1) fpX12_361) (sOpF 0 (rLoc 0 132) (eInt 1) fpX12_352)))
def L_M_next_3s : ES K_M_next := sNop
def L_M_next_3 : ES K_M_next := sLp 210 L_M_next_3c L_M_next_3b L_M_next_3s
def B_M_next : ES K_M_next := (sSeq L_M_next_1 (sSeq (sPutI (rLoc 0 132) (eFld (rLoc 0 132) flX12_352) fpX12_358) (sSeq (sPutI (rLoc 0 132) (eInt 0) fpX12_361) (sSeq (sPutL (rLoc 0 132) (lInt 0) fpX12_364) (sSeq (sSet 1 (eCall (xV 282 (rLoc 0 132) (gI (eFld (rLoc 0 132) flX12_352) gNil) cvX12_355_282) rt_282)) (sSeq (sPutI (rLoc 0 132) (eIte (cZ 2 (eLoc 1)) (eInt 0) (eIte (cZ 1 (eCall (xS 201 (gI (eLoc 1) (gI (eInt 97) (gI (eInt 122) gNil))) csX12_244) rt_201)) (eInt 1) (eIte (cZ 1 (eCall (xS 201 (gI (eLoc 1) (gI (eInt 48) (gI (eInt 57) gNil))) csX12_244) rt_201)) (eInt 2) (eInt 3)))) fpX12_368) (sSeq (sIf (cQ 0 (eFld (rLoc 0 132) flX12_368) (eInt 3)) (sSeq (sPutL (rLoc 0 132) (lI2L (eLoc 1)) fpX12_364) (sOpF 0 (rLoc 0 132) (eInt 1) fpX12_352)) sNop) (sSeq L_M_next_2 (sSeq L_M_next_3 sRetV)))))))))
set_option maxRecDepth 100000 in
theorem ck_M_next : B_M_next.1.1 0 0 0 = some none := by decide +kernel
abbrev K_M_line : bK := (RX12, cX12_line, 3, none, fun _ _ _ => True)
def B_M_line : ES K_M_line := (sSeq (sIf (cQ 0 (eAI 9 (rFld (rLoc 0 132) 163 flX12_100) (eFld (rLoc 0 132) flX12_399)) (eInt 9)) (sSeq (sCall (xV 283 (rLoc 0 132) gNil cvX12_393_283) rt_283) sRetV) sNop) (sSeq (sSet 1 (eAdd (eMul (eInt 9) (eFld (rLoc 0 132) flX12_399)) (eAI 9 (rFld (rLoc 0 132) 163 flX12_100) (eFld (rLoc 0 132) flX12_399)))) (sSeq (sSet 2 (eIte (cZ 1 (eCall (xV 284 (rLoc 0 132) (gL (lLdc (11716) klX12_448) gNil) cvX12_389_284) rt_284)) (eInt 0) (eIte (cZ 1 (eCall (xV 284 (rLoc 0 132) (gL (lLdc (355412) klX12_450) gNil) cvX12_389_284) rt_284)) (eInt 1) (eIte (cZ 1 (eCall (xV 284 (rLoc 0 132) (gL (lLdc (1503) klX12_452) gNil) cvX12_389_284) rt_284)) (eInt 2) (eIte (cZ 1 (eCall (xV 284 (rLoc 0 132) (gL (lLdc (237470) klX12_454) gNil) cvX12_389_284) rt_284)) (eInt 3) (eIte (cZ 1 (eCall (xV 284 (rLoc 0 132) (gL (lLdc (8868696) klX12_456) gNil) cvX12_389_284) rt_284)) (eInt 4) (eInt (-1)))))))) (sSeq (sIf (cZ 2 (eLoc 2)) (sCall (xV 283 (rLoc 0 132) gNil cvX12_393_283) rt_283) sNop) (sSeq (sPutA 81 (rFld (rLoc 0 132) 165 flX12_106) (eLoc 1) (eLoc 2)) (sSeq (sPutA 81 (rFld (rLoc 0 132) 166 flX12_109) (eLoc 1) (eIte (cOr (cQ 0 (eLoc 2) (eInt 2)) (cZ 2 (eLoc 2))) (eInt 0) (eCall (xV 285 (rLoc 0 132) (gI (eIte (cZ 0 (eLoc 2)) (eInt 100) (eIte (cQ 0 (eLoc 2) (eInt 1)) (eInt 9) (eInt 999))) gNil) cvX12_422_285) rt_285))) (sSeq (sPutA 81 (rFld (rLoc 0 132) 167 flX12_112) (eLoc 1) (eAI 9 (rFld (rLoc 0 132) 164 flX12_103) (eFld (rLoc 0 132) flX12_399))) (sSeq (sIf (cQ 0 (eLoc 2) (eInt 2)) (sSeq (sCall (xV 286 (rLoc 0 132) (gL (lLdc (249) klX12_458) gNil) cvX12_460_286) rt_286) (sCall (xV 287 (rLoc 0 132) gNil cvX12_435_287) rt_287)) (sIf (cAnd (cOr (cZ 0 (eLoc 2)) (cQ 0 (eLoc 2) (eInt 1))) (cZ 1 (eCall (xV 284 (rLoc 0 132) (gL (lLdc (249) klX12_458) gNil) cvX12_389_284) rt_284))) (sCall (xV 287 (rLoc 0 132) gNil cvX12_435_287) rt_287) sNop)) (sSeq (sPutA 81 (rFld (rLoc 0 132) 168 flX12_115) (eLoc 1) (eAI 9 (rFld (rLoc 0 132) 164 flX12_103) (eFld (rLoc 0 132) flX12_399))) (sSeq (sCall (xV 288 (rLoc 0 132) (gI (eInt 59) gNil) cvX12_419_288) rt_288) (sSeq (sOpA 9 0 (rFld (rLoc 0 132) 163 flX12_100) (eFld (rLoc 0 132) flX12_399) (eInt 1)) sRetV)))))))))))
set_option maxRecDepth 100000 in
theorem ck_M_line : B_M_line.1.1 0 0 0 = some none := by decide +kernel
abbrev K_M_proofsOf : bK := (RX12, cX12_proofsOf, 4, some .int, fun _ _ _ => True)
def L_M_proofsOf_1c : EC K_M_proofsOf := (cQ 2 (eLoc 3) (eAI 14 (rFld (rLoc 0 132) 133 flX12_7) (eInt 13)))
def L_M_proofsOf_1b : ES K_M_proofsOf := (sSet 2 (eOr (eLoc 2) (eIte (cQ 0 (eAI 24 (rFld (rLoc 0 132) 176 flX12_139) (eLoc 3)) (eLoc 1)) (eShl (eInt 1) (eAdd (eAI 24 (rFld (rLoc 0 132) 177 flX12_142) (eLoc 3)) (eInt 1))) (eInt 0))))
def L_M_proofsOf_1s : ES K_M_proofsOf := (sInc 3 1)
def L_M_proofsOf_1 : ES K_M_proofsOf := sLp 42 L_M_proofsOf_1c L_M_proofsOf_1b L_M_proofsOf_1s
def B_M_proofsOf : ES K_M_proofsOf := (sSeq (sSet 2 (eInt 0)) (sSeq (sSeq (sSet 3 (eInt 0)) L_M_proofsOf_1) (sRet (eCall (xS 234 (gI (eLoc 2) gNil) csX12_467) rt_234))))
set_option maxRecDepth 100000 in
theorem ck_M_proofsOf : B_M_proofsOf.1.1 0 0 0 = some none := by decide +kernel
abbrev K_M_isDay : bK := (RX12, cX12_isDay, 1, some .boolean, fun _ _ _ => True)
def B_M_isDay : ES K_M_isDay := (sRet (eCall (xS 201 (gI (eLoc 0) (gI (eInt 0) (gI (eInt 999) gNil))) csX12_244) rt_201))
set_option maxRecDepth 100000 in
theorem ck_M_isDay : B_M_isDay.1.1 0 0 0 = some none := by decide +kernel
abbrev K_M_isBarred : bK := (RX12, cX12_isBarred, 3, some .boolean, fun _ _ _ => True)
def B_M_isBarred : ES K_M_isBarred := (sRet (eIte (cOr (cOr (cZ 3 (eCall (xV 229 (rLoc 0 132) (gI (eLoc 1) (gI (eLoc 2) (gI (eInt 2) gNil))) cvX12_488_229) rt_229)) (cQ 4 (eAI 16 (rFld (rLoc 0 132) 174 flX12_133) (eLoc 1)) (eCall (xV 289 (rLoc 0 132) (gI (eLoc 2) (gI (eInt 3) (gI (eLdw 1000000000 kiX12_285) gNil))) cvX12_492_289) rt_289))) (cQ 2 (eCall (xV 223 (rLoc 0 132) (gI (eLoc 1) gNil) cvX12_470_223) rt_223) (eCall (xV 289 (rLoc 0 132) (gI (eLoc 2) (gI (eInt 4) (gI (eInt 0) gNil))) cvX12_492_289) rt_289))) (eInt 1) (eInt 0)))
set_option maxRecDepth 100000 in
theorem ck_M_isBarred : B_M_isBarred.1.1 0 0 0 = some none := by decide +kernel
abbrev K_M_owed : bK := (RX12, cX12_owed, 4, some .int, fun _ _ _ => True)
def B_M_owed : ES K_M_owed := (sSeq (sSet 3 (eIte (cZ 1 (eCall (xV 225 (rLoc 0 132) (gI (eLoc 1) (gI (eLoc 2) gNil)) cvX12_495_225) rt_225)) (eInt (-1)) (eCall (xV 229 (rLoc 0 132) (gI (eLoc 1) (gI (eLoc 2) (gI (eInt 0) gNil))) cvX12_488_229) rt_229))) (sRet (eIte (cZ 2 (eLoc 3)) (eInt 0) (eDiv (eMul (eAI 12 (rFld (rLoc 0 132) 159 flX12_88) (eAI 16 (rFld (rLoc 0 132) 173 flX12_130) (eLoc 1))) (eAI 81 (rFld (rLoc 0 132) 166 flX12_109) (eAdd (eMul (eInt 9) (eCall (xV 290 (rLoc 0 132) (gI (eLoc 2) gNil) cvX12_482_290) rt_290)) (eLoc 3)))) (eInt 100)))))
set_option maxRecDepth 100000 in
theorem ck_M_owed : B_M_owed.1.1 0 0 0 = some none := by decide +kernel
abbrev K_M_rankOf : bK := (RX12, cX12_rankOf, 4, some .int, fun _ _ _ => True)
def B_M_rankOf : ES K_M_rankOf := (sSeq (sSet 3 (eCall (xV 229 (rLoc 0 132) (gI (eLoc 1) (gI (eLoc 2) (gI (eInt 1) gNil))) cvX12_488_229) rt_229)) (sRet (eIte (cZ 2 (eLoc 3)) (eInt 9) (eAI 81 (rFld (rLoc 0 132) 166 flX12_109) (eAdd (eMul (eInt 9) (eCall (xV 290 (rLoc 0 132) (gI (eLoc 2) gNil) cvX12_482_290) rt_290)) (eLoc 3))))))
set_option maxRecDepth 100000 in
theorem ck_M_rankOf : B_M_rankOf.1.1 0 0 0 = some none := by decide +kernel
abbrev K_M_isFound : bK := (RX12, cX12_isFound, 4, some .boolean, fun _ _ _ => True)
def L_M_isFound_1c : EC K_M_isFound := (cQ 2 (eLoc 3) (eAI 14 (rFld (rLoc 0 132) 133 flX12_7) (eInt 10)))
def L_M_isFound_1b : ES K_M_isFound := (sSet 2 (eIte (cOr (cZ 1 (eLoc 2)) (cQ 0 (eAnd (eShr (eAI 12 (rFld (rLoc 0 132) 188 flX12_176) (eLoc 3)) (eAI 16 (rFld (rLoc 0 132) 173 flX12_130) (eLoc 1))) (eInt 1)) (eInt 1))) (eInt 1) (eInt 0)))
def L_M_isFound_1s : ES K_M_isFound := (sInc 3 1)
def L_M_isFound_1 : ES K_M_isFound := sLp 44 L_M_isFound_1c L_M_isFound_1b L_M_isFound_1s
def B_M_isFound : ES K_M_isFound := (sSeq (sSet 2 (eInt 0)) (sSeq (sSeq (sSet 3 (eInt 0)) L_M_isFound_1) (sRet (eLoc 2))))
set_option maxRecDepth 100000 in
theorem ck_M_isFound : B_M_isFound.1.1 0 0 0 = some none := by decide +kernel
abbrev K_M_lineFor : bK := (RX12, cX12_lineFor, 6, some .int, fun _ _ _ => True)
def L_M_lineFor_1c : EC K_M_lineFor := (cAnd (cZ 3 (eLoc 4)) (cQ 2 (eLoc 5) (eAI 9 (rFld (rLoc 0 132) 163 flX12_100) (eLoc 4))))
def L_M_lineFor_1b : ES K_M_lineFor := (sIf (cAnd (cQ 0 (eAI 81 (rFld (rLoc 0 132) 165 flX12_106) (eAdd (eMul (eInt 9) (eLoc 4)) (eLoc 5))) (eLoc 3)) (cZ 1 (eCall (xV 291 (rLoc 0 132) (gI (eLoc 4) (gI (eLoc 5) (gI (eLoc 1) gNil))) cvX12_485_291) rt_291))) (sRet (eLoc 5)) sNop)
def L_M_lineFor_1s : ES K_M_lineFor := (sInc 5 1)
def L_M_lineFor_1 : ES K_M_lineFor := sLp 59 L_M_lineFor_1c L_M_lineFor_1b L_M_lineFor_1s
def B_M_lineFor : ES K_M_lineFor := (sSeq (sSet 4 (eCall (xV 290 (rLoc 0 132) (gI (eLoc 2) gNil) cvX12_482_290) rt_290)) (sSeq (sSeq (sSet 5 (eInt 0)) L_M_lineFor_1) (sRet (eInt (-1)))))
set_option maxRecDepth 100000 in
theorem ck_M_lineFor : B_M_lineFor.1.1 0 0 0 = some none := by decide +kernel
abbrev K_M_claimants : bK := (RX12, cX12_claimants, 4, some .int, fun _ _ _ => True)
def L_M_claimants_1c : EC K_M_claimants := (cQ 2 (eLoc 3) (eAI 14 (rFld (rLoc 0 132) 133 flX12_7) (eInt 12)))
def L_M_claimants_1b : ES K_M_claimants := (sSet 2 (eAdd (eLoc 2) (eIte (cQ 0 (eAI 16 (rFld (rLoc 0 132) 173 flX12_130) (eLoc 3)) (eLoc 1)) (eInt 1) (eInt 0))))
def L_M_claimants_1s : ES K_M_claimants := (sInc 3 1)
def L_M_claimants_1 : ES K_M_claimants := sLp 33 L_M_claimants_1c L_M_claimants_1b L_M_claimants_1s
def B_M_claimants : ES K_M_claimants := (sSeq (sSet 2 (eInt 0)) (sSeq (sSeq (sSet 3 (eInt 0)) L_M_claimants_1) (sRet (eLoc 2))))
set_option maxRecDepth 100000 in
theorem ck_M_claimants : B_M_claimants.1.1 0 0 0 = some none := by decide +kernel
abbrev K_M_lesser : bK := (RX12, cX12_lesser, 2, some .int, fun _ _ _ => True)
def B_M_lesser : ES K_M_lesser := (sRet (eIte (cQ 2 (eLoc 0) (eLoc 1)) (eLoc 0) (eLoc 1)))
set_option maxRecDepth 100000 in
theorem ck_M_lesser : B_M_lesser.1.1 0 0 0 = some none := by decide +kernel
abbrev K_M_areUnlike : bK := (RX12, cX12_areUnlike, 3, some .boolean, fun _ _ _ => True)
def B_M_areUnlike : ES K_M_areUnlike := (sRet (eIte (cAnd (cAnd (cAnd (cAnd (cZ 3 (eAI 16 (rFld (rLoc 0 132) 175 flX12_136) (eLoc 1))) (cZ 3 (eAI 16 (rFld (rLoc 0 132) 175 flX12_136) (eLoc 2)))) (cQ 1 (eAI 16 (rFld (rLoc 0 132) 175 flX12_136) (eLoc 1)) (eAI 16 (rFld (rLoc 0 132) 175 flX12_136) (eLoc 2)))) (cQ 0 (eCall (xV 292 (rLoc 0 132) (gI (eLoc 1) (gI (eInt 0) gNil)) cvX12_476_292) rt_292) (eCall (xV 292 (rLoc 0 132) (gI (eLoc 2) (gI (eInt 0) gNil)) cvX12_476_292) rt_292))) (cQ 0 (eCall (xV 292 (rLoc 0 132) (gI (eLoc 1) (gI (eInt 1) gNil)) cvX12_476_292) rt_292) (eCall (xV 292 (rLoc 0 132) (gI (eLoc 2) (gI (eInt 1) gNil)) cvX12_476_292) rt_292))) (eInt 1) (eInt 0)))
set_option maxRecDepth 100000 in
theorem ck_M_areUnlike : B_M_areUnlike.1.1 0 0 0 = some none := by decide +kernel
abbrev K_M_differs : bK := (RX12, cX12_differs, 5, some .int, fun _ _ _ => True)
def L_M_differs_1c : EC K_M_differs := (cQ 2 (eLoc 4) (eInt 8))
def L_M_differs_1b : ES K_M_differs := (sSet 3 (eAdd (eLoc 3) (eIte (cQ 1 (eCall (xV 292 (rLoc 0 132) (gI (eLoc 1) (gI (eLoc 4) gNil)) cvX12_476_292) rt_292) (eCall (xV 292 (rLoc 0 132) (gI (eLoc 2) (gI (eLoc 4) gNil)) cvX12_476_292) rt_292)) (eInt 1) (eInt 0))))
def L_M_differs_1s : ES K_M_differs := (sInc 4 1)
def L_M_differs_1 : ES K_M_differs := sLp 37 L_M_differs_1c L_M_differs_1b L_M_differs_1s
def B_M_differs : ES K_M_differs := (sSeq (sSet 3 (eInt 0)) (sSeq (sSeq (sSet 4 (eInt 2)) L_M_differs_1) (sRet (eLoc 3))))
set_option maxRecDepth 100000 in
theorem ck_M_differs : B_M_differs.1.1 0 0 0 = some none := by decide +kernel
abbrev K_M_ones : bK := (RX12, cX12_ones, 3, some .int, fun _ _ _ => True)
def L_M_ones_1c : EC K_M_ones := (cZ 1 (eLoc 2))
def L_M_ones_1b : ES K_M_ones := (sInc 1 1)
def L_M_ones_1s : ES K_M_ones := (sSet 2 (eAnd (eLoc 2) (eSub (eLoc 2) (eInt 1))))
def L_M_ones_1 : ES K_M_ones := sLp 11 L_M_ones_1c L_M_ones_1b L_M_ones_1s
def B_M_ones : ES K_M_ones := (sSeq (sSet 1 (eInt 0)) (sSeq (sSeq (sSet 2 (eLoc 0)) L_M_ones_1) (sRet (eLoc 1))))
set_option maxRecDepth 100000 in
theorem ck_M_ones : B_M_ones.1.1 0 0 0 = some none := by decide +kernel
abbrev K_M_hears : bK := (RX12, cX12_hears, 8, none, fun _ _ _ => True)
def L_M_hears_1c : EC K_M_hears := (cQ 2 (eLoc 6) (eLoc 2))
def L_M_hears_1b : ES K_M_hears := (sPutA 7 (rFld (rLoc 0 132) 194 flX12_194) (eLoc 6) (eAI 7 (rFld (rLoc 0 132) 193 flX12_191) (eLoc 6)))
def L_M_hears_1s : ES K_M_hears := (sInc 6 1)
def L_M_hears_1 : ES K_M_hears := sLp 43 L_M_hears_1c L_M_hears_1b L_M_hears_1s
def L_M_hears_2c : EC K_M_hears := (cQ 2 (eLoc 6) (eAI 14 (rFld (rLoc 0 132) 133 flX12_7) (eInt 12)))
def L_M_hears_2b : ES K_M_hears := (sIf (cQ 0 (eAnd (eShr (eLoc 1) (eLoc 6)) (eInt 1)) (eInt 1)) (sSeq (sSet 7 (eAdd (eAdd (eLoc 4) (eCall (xS 237 (gI (eLoc 3) (gI (eCall (xV 236 (rLoc 0 132) (gI (eLoc 6) gNil) cvX12_523_236) rt_236) gNil)) csX12_292) rt_237)) (eIte (cZ 4 (eLoc 2)) (eInt 1) (eInt 0)))) (sSeq (sPutA 7 (rFld (rLoc 0 132) 193 flX12_191) (eLoc 2) (eLoc 6)) (sCall (xV 235 (rLoc 0 132) (gI (eAnd (eLoc 1) (eXor (eShl (eInt 1) (eLoc 6)) (eInt (-1)))) (gI (eAdd (eLoc 2) (eInt 1)) (gI (eCall (xV 236 (rLoc 0 132) (gI (eLoc 6) gNil) cvX12_523_236) rt_236) (gI (eLoc 7) (gI (eAdd (eLoc 5) (eMul (eLoc 7) (eIte (cZ 1 (eCall (xV 213 (rLoc 0 132) (gI (eCall (xV 293 (rLoc 0 132) (gI (eLoc 6) gNil) cvX12_517_293) rt_293) gNil) cvX12_318_213) rt_213)) (eInt 3) (eInt 1)))) gNil))))) cvX12_526_235) rt_235))) sNop)
def L_M_hears_2s : ES K_M_hears := (sInc 6 1)
def L_M_hears_2 : ES K_M_hears := sLp 155 L_M_hears_2c L_M_hears_2b L_M_hears_2s
def B_M_hears : ES K_M_hears := (sSeq (sIf (cQ 3 (eLoc 5) (eFld (rLoc 0 132) flX12_520)) sRetV sNop) (sSeq (sIf (cZ 0 (eLoc 1)) (sSeq (sPutI (rLoc 0 132) (eLoc 5) fpX12_520) (sSeq (sSeq (sSet 6 (eInt 0)) L_M_hears_1) sRetV)) sNop) (sSeq (sSeq (sSet 6 (eInt 0)) L_M_hears_2) sRetV)))
set_option maxRecDepth 100000 in
theorem ck_M_hears : B_M_hears.1.1 0 0 0 = some none := by decide +kernel
abbrev K_M_reachOf : bK := (RX12, cX12_reachOf, 2, some .int, fun _ _ _ => True)
def B_M_reachOf : ES K_M_reachOf := (sRet (eAI 10 (rFld (rLoc 0 132) 138 flX12_25) (eCall (xV 293 (rLoc 0 132) (gI (eLoc 1) gNil) cvX12_517_293) rt_293)))
set_option maxRecDepth 100000 in
theorem ck_M_reachOf : B_M_reachOf.1.1 0 0 0 = some none := by decide +kernel
abbrev K_M_off : bK := (RX12, cX12_off, 2, some .int, fun _ _ _ => True)
def B_M_off : ES K_M_off := (sRet (eIte (cQ 2 (eLoc 0) (eLoc 1)) (eSub (eLoc 1) (eLoc 0)) (eSub (eLoc 0) (eLoc 1))))
set_option maxRecDepth 100000 in
theorem ck_M_off : B_M_off.1.1 0 0 0 = some none := by decide +kernel
abbrev K_M_isCell : bK := (RX12, cX12_isCell, 3, some .boolean, fun _ _ _ => True)
def B_M_isCell : ES K_M_isCell := (sRet (eIte (cAnd (cZ 1 (eCall (xS 201 (gI (eLoc 1) (gI (eInt 0) (gI (eSub (eFld (rLoc 0 132) flX12_530) (eInt 1)) gNil))) csX12_244) rt_201)) (cZ 1 (eCall (xS 201 (gI (eLoc 2) (gI (eInt 0) (gI (eInt 1) gNil))) csX12_244) rt_201))) (eInt 1) (eInt 0)))
set_option maxRecDepth 100000 in
theorem ck_M_isCell : B_M_isCell.1.1 0 0 0 = some none := by decide +kernel
abbrev K_M_isDebt : bK := (RX12, cX12_isDebt, 2, some .boolean, fun _ _ _ => True)
def B_M_isDebt : ES K_M_isDebt := (sRet (eIte (cAnd (cZ 1 (eCall (xS 201 (gI (eLoc 0) (gI (eInt 0) (gI (eLdw 99999 kiX12_510) gNil))) csX12_244) rt_201)) (cZ 1 (eCall (xS 201 (gI (eLoc 1) (gI (eInt 0) (gI (eInt 9999) gNil))) csX12_244) rt_201))) (eInt 1) (eInt 0)))
set_option maxRecDepth 100000 in
theorem ck_M_isDebt : B_M_isDebt.1.1 0 0 0 = some none := by decide +kernel
abbrev K_M_yearsFor : bK := (RX12, cX12_yearsFor, 5, some .int, fun _ _ _ => True)
def L_M_yearsFor_1c : EC K_M_yearsFor := (cQ 5 (eLoc 4) (eInt 60))
def L_M_yearsFor_1b : ES K_M_yearsFor := (sSeq (sIf (cZ 0 (eLoc 3)) (sRet (eLoc 4)) sNop) (sSeq (sSet 3 (eAdd (eLoc 3) (eDiv (eAdd (eMul (eLoc 3) (eInt 5)) (eInt 99)) (eInt 100)))) (sSet 3 (eCall (xS 294 (gI (eInt 0) (gI (eSub (eLoc 3) (eDiv (eMul (eLoc 1) (eLoc 2)) (eInt 100))) gNil)) csX12_286) rt_294))))
def L_M_yearsFor_1s : ES K_M_yearsFor := (sInc 4 1)
def L_M_yearsFor_1 : ES K_M_yearsFor := sLp 44 L_M_yearsFor_1c L_M_yearsFor_1b L_M_yearsFor_1s
def B_M_yearsFor : ES K_M_yearsFor := (sSeq (sSet 3 (eLoc 0)) (sSeq (sSeq (sSet 4 (eInt 0)) L_M_yearsFor_1) (sRet (eLdw 1000000000 kiX12_285))))
set_option maxRecDepth 100000 in
theorem ck_M_yearsFor : B_M_yearsFor.1.1 0 0 0 = some none := by decide +kernel
abbrev K_M_narrowed : bK := (RX12, cX12_narrowed, 2, some .long, fun _ _ _ => True)
def B_M_narrowed : ES K_M_narrowed := (sRetL (lIte (cZ 0 (eLoc 0)) (lI2L (eI2B (eLoc 1))) (lIte (cQ 0 (eLoc 0) (eInt 1)) (lI2L (eI2S (eLoc 1))) (lIte (cQ 0 (eLoc 0) (eInt 4)) (lIte (cZ 1 (eLoc 1)) (lInt 1) (lInt 0)) (lI2L (eLoc 1))))))
set_option maxRecDepth 100000 in
theorem ck_M_narrowed : B_M_narrowed.1.1 0 0 0 = some none := by decide +kernel
abbrev K_M_kindOn : bK := (RX12, cX12_kindOn, 3, some .int, fun _ _ _ => True)
def B_M_kindOn : ES K_M_kindOn := (sSeq (sSet 2 (eAI 4 (rFld (rLoc 0 132) 201 flX12_216) (eLoc 1))) (sSeq (sIf (cAnd (cZ 0 (eAI 4 (rFld (rLoc 0 132) 200 flX12_213) (eLoc 1))) (cZ 1 (eCall (xV 207 (rLoc 0 132) (gI (eInt 6) (gI (eLoc 2) gNil)) cvX12_274_207) rt_207))) (sRet (eIte (cAnd (cQ 0 (eAI 16 (rFld (rLoc 0 132) 141 flX12_34) (eLoc 2)) (eInt 3)) (cQ 0 (eAI 4 (rFld (rLoc 0 132) 149 flX12_58) (eAI 16 (rFld (rLoc 0 132) 142 flX12_37) (eLoc 2))) (eInt 1))) (eInt 4) (eAI 16 (rFld (rLoc 0 132) 141 flX12_34) (eLoc 2)))) sNop) (sRet (eIte (cAnd (cQ 0 (eAI 4 (rFld (rLoc 0 132) 200 flX12_213) (eLoc 1)) (eInt 1)) (cZ 1 (eCall (xV 207 (rLoc 0 132) (gI (eInt 12) (gI (eLoc 2) gNil)) cvX12_274_207) rt_207))) (eIte (cZ 2 (eAI 16 (rFld (rLoc 0 132) 175 flX12_136) (eLoc 2))) (eInt 5) (eInt 6)) (eInt (-1))))))
set_option maxRecDepth 100000 in
theorem ck_M_kindOn : B_M_kindOn.1.1 0 0 0 = some none := by decide +kernel
abbrev K_M_isUnder : bK := (RX12, cX12_isUnder, 2, some .boolean, fun _ _ _ => True)
def B_M_isUnder : ES K_M_isUnder := (sRet (eIte (cOr (cOr (cOr (cZ 0 (eLoc 1)) (cQ 0 (eLoc 0) (eLoc 1))) (cAnd (cQ 0 (eLoc 1) (eInt 3)) (cQ 0 (eLoc 0) (eInt 4)))) (cAnd (cQ 0 (eLoc 1) (eInt 5)) (cQ 0 (eLoc 0) (eInt 6)))) (eInt 1) (eInt 0)))
set_option maxRecDepth 100000 in
theorem ck_M_isUnder : B_M_isUnder.1.1 0 0 0 = some none := by decide +kernel
abbrev K_M_dealFits : bK := (RX12, cX12_dealFits, 2, some .int, fun _ _ _ => True)
def B_M_dealFits : ES K_M_dealFits := (sSeq (sIf (cQ 0 (eFld (rLoc 0 132) flX12_579) (eInt 1)) (sSeq (sCall (xV 295 (rLoc 0 132) (gI (eInt 20) gNil) cvX12_573_295) rt_295) (sRet (eXor (eCall (xV 296 (rLoc 0 132) (gI (eLoc 1) gNil) cvX12_582_296) rt_296) (eFld (rLoc 0 132) flX12_585)))) sNop) (sSeq (sIf (cQ 0 (eFld (rLoc 0 132) flX12_579) (eInt 4)) (sSeq (sCall (xV 295 (rLoc 0 132) (gI (eInt 50) gNil) cvX12_573_295) rt_295) (sRet (eCall (xV 296 (rLoc 0 132) (gI (eSub (eLoc 1) (eInt 1)) gNil) cvX12_582_296) rt_296))) sNop) (sSeq (sIf (cQ 0 (eFld (rLoc 0 132) flX12_579) (eInt 6)) (sSeq (sCall (xV 295 (rLoc 0 132) (gI (eInt 71) gNil) cvX12_573_295) rt_295) (sRet (eAdd (eCall (xV 296 (rLoc 0 132) (gI (eLoc 1) gNil) cvX12_582_296) rt_296) (eInt 5)))) sNop) (sRet (eCall (xV 296 (rLoc 0 132) (gI (eLoc 1) gNil) cvX12_582_296) rt_296)))))
set_option maxRecDepth 100000 in
theorem ck_M_dealFits : B_M_dealFits.1.1 0 0 0 = some none := by decide +kernel
abbrev K_M_dealPays : bK := (RX12, cX12_dealPays, 2, some .int, fun _ _ _ => True)
def B_M_dealPays : ES K_M_dealPays := (sSeq (sIf (cQ 0 (eFld (rLoc 0 132) flX12_579) (eInt 4)) (sSeq (sCall (xV 295 (rLoc 0 132) (gI (eInt 51) gNil) cvX12_573_295) rt_295) (sRet (eMul (eCall (xV 297 (rLoc 0 132) (gI (eLoc 1) gNil) cvX12_593_297) rt_297) (eInt 3)))) sNop) (sRet (eIte (cQ 0 (eFld (rLoc 0 132) flX12_579) (eInt 3)) (eCall (xV 297 (rLoc 0 132) (gI (eLoc 1) gNil) cvX12_593_297) rt_297) (eCall (xV 298 (rLoc 0 132) (gI (eLoc 1) gNil) cvX12_590_298) rt_298))))
set_option maxRecDepth 100000 in
theorem ck_M_dealPays : B_M_dealPays.1.1 0 0 0 = some none := by decide +kernel
abbrev K_M_dealHangs : bK := (RX12, cX12_dealHangs, 3, some .int, fun _ _ _ => True)
def B_M_dealHangs : ES K_M_dealHangs := (sSeq (sIf (cQ 0 (eFld (rLoc 0 132) flX12_579) (eInt 2)) (sSeq (sCall (xV 295 (rLoc 0 132) (gI (eInt 30) gNil) cvX12_573_295) rt_295) (sSeq (sSet 2 (eCall (xV 299 (rLoc 0 132) (gI (eLoc 1) gNil) cvX12_602_299) rt_299)) (sRet (eAdd (eLoc 2) (eCall (xV 244 (rLoc 0 132) (gI (eInt 1) gNil) cvX12_587_244) rt_244))))) sNop) (sSeq (sIf (cQ 0 (eFld (rLoc 0 132) flX12_579) (eInt 6)) (sSeq (sCall (xV 295 (rLoc 0 132) (gI (eInt 70) gNil) cvX12_573_295) rt_295) (sSeq (sSet 2 (eCall (xV 300 (rLoc 0 132) (gI (eLoc 1) gNil) cvX12_605_300) rt_300)) (sRet (eAdd (eLoc 2) (eCall (xV 245 (rLoc 0 132) (gI (eFld (rLoc 0 132) flX12_585) gNil) cvX12_596_245) rt_245))))) sNop) (sRet (eIte (cQ 0 (eFld (rLoc 0 132) flX12_579) (eInt 5)) (eCall (xV 300 (rLoc 0 132) (gI (eLoc 1) gNil) cvX12_605_300) rt_300) (eCall (xV 299 (rLoc 0 132) (gI (eLoc 1) gNil) cvX12_602_299) rt_299)))))
set_option maxRecDepth 100000 in
theorem ck_M_dealHangs : B_M_dealHangs.1.1 0 0 0 = some none := by decide +kernel
abbrev K_M_dealTells : bK := (RX12, cX12_dealTells, 2, some .int, fun _ _ _ => True)
def B_M_dealTells : ES K_M_dealTells := (sSeq (sIf (cOr (cQ 0 (eFld (rLoc 0 132) flX12_579) (eInt 3)) (cQ 0 (eFld (rLoc 0 132) flX12_579) (eInt 4))) (sSeq (sCall (xV 295 (rLoc 0 132) (gI (eInt 41) gNil) cvX12_573_295) rt_295) (sRet (eCall (xV 301 (rLoc 0 132) (gI (eAdd (eLoc 1) (eInt 3)) gNil) cvX12_611_301) rt_301))) sNop) (sSeq (sIf (cQ 4 (eFld (rLoc 0 132) flX12_579) (eInt 4)) (sSeq (sCall (xV 295 (rLoc 0 132) (gI (eInt 61) gNil) cvX12_573_295) rt_295) (sRet (eSub (eInt 0) (eCall (xV 301 (rLoc 0 132) (gI (eLoc 1) gNil) cvX12_611_301) rt_301)))) sNop) (sRet (eCall (xV 301 (rLoc 0 132) (gI (eLoc 1) gNil) cvX12_611_301) rt_301))))
set_option maxRecDepth 100000 in
theorem ck_M_dealTells : B_M_dealTells.1.1 0 0 0 = some none := by decide +kernel
abbrev K_M_copiesAll : bK := (RX12, cX12_copiesAll, 2, none, fun _ _ _ => True)
def B_M_copiesAll : ES K_M_copiesAll := (sSeq (sPutI (rLoc 0 132) (eInt 0) fpX12_225) (sSeq (sCall (xV 302 (rLoc 0 132) (gR (rFld (rLoc 0 132) 133 flX12_7) (gI (eInt 14) (gI (eLoc 1) gNil))) cvX12_229_302) rt_302) (sSeq (sCall (xV 302 (rLoc 0 132) (gR (rFld (rLoc 0 132) 134 flX12_13) (gI (eInt 12) (gI (eLoc 1) gNil))) cvX12_229_302) rt_302) (sSeq (sCall (xV 302 (rLoc 0 132) (gR (rFld (rLoc 0 132) 135 flX12_16) (gI (eInt 12) (gI (eLoc 1) gNil))) cvX12_229_302) rt_302) (sSeq (sCall (xV 302 (rLoc 0 132) (gR (rFld (rLoc 0 132) 136 flX12_19) (gI (eInt 3) (gI (eLoc 1) gNil))) cvX12_229_302) rt_302) (sSeq (sCall (xV 302 (rLoc 0 132) (gR (rFld (rLoc 0 132) 137 flX12_22) (gI (eInt 24) (gI (eLoc 1) gNil))) cvX12_229_302) rt_302) (sSeq (sCall (xV 302 (rLoc 0 132) (gR (rFld (rLoc 0 132) 138 flX12_25) (gI (eInt 10) (gI (eLoc 1) gNil))) cvX12_229_302) rt_302) (sSeq (sCall (xV 302 (rLoc 0 132) (gR (rFld (rLoc 0 132) 139 flX12_28) (gI (eInt 10) (gI (eLoc 1) gNil))) cvX12_229_302) rt_302) (sSeq (sCall (xV 302 (rLoc 0 132) (gR (rFld (rLoc 0 132) 140 flX12_31) (gI (eInt 10) (gI (eLoc 1) gNil))) cvX12_229_302) rt_302) (sSeq (sCall (xV 302 (rLoc 0 132) (gR (rFld (rLoc 0 132) 141 flX12_34) (gI (eInt 16) (gI (eLoc 1) gNil))) cvX12_229_302) rt_302) (sSeq (sCall (xV 302 (rLoc 0 132) (gR (rFld (rLoc 0 132) 142 flX12_37) (gI (eInt 16) (gI (eLoc 1) gNil))) cvX12_229_302) rt_302) (sSeq (sCall (xV 302 (rLoc 0 132) (gR (rFld (rLoc 0 132) 143 flX12_40) (gI (eInt 16) (gI (eLoc 1) gNil))) cvX12_229_302) rt_302) (sSeq (sCall (xV 302 (rLoc 0 132) (gR (rFld (rLoc 0 132) 144 flX12_43) (gI (eInt 16) (gI (eLoc 1) gNil))) cvX12_229_302) rt_302) (sSeq (sCall (xV 302 (rLoc 0 132) (gR (rFld (rLoc 0 132) 145 flX12_46) (gI (eInt 16) (gI (eLoc 1) gNil))) cvX12_229_302) rt_302) (sSeq (sCall (xV 302 (rLoc 0 132) (gR (rFld (rLoc 0 132) 146 flX12_49) (gI (eInt 16) (gI (eLoc 1) gNil))) cvX12_229_302) rt_302) (sSeq (sCall (xV 302 (rLoc 0 132) (gR (rFld (rLoc 0 132) 147 flX12_52) (gI (eInt 16) (gI (eLoc 1) gNil))) cvX12_229_302) rt_302) (sSeq (sCall (xV 302 (rLoc 0 132) (gR (rFld (rLoc 0 132) 148 flX12_55) (gI (eInt 4) (gI (eLoc 1) gNil))) cvX12_229_302) rt_302) (sSeq (sCall (xV 302 (rLoc 0 132) (gR (rFld (rLoc 0 132) 149 flX12_58) (gI (eInt 4) (gI (eLoc 1) gNil))) cvX12_229_302) rt_302) (sSeq (sCall (xV 302 (rLoc 0 132) (gR (rFld (rLoc 0 132) 150 flX12_61) (gI (eInt 16) (gI (eLoc 1) gNil))) cvX12_229_302) rt_302) (sSeq (sCall (xV 302 (rLoc 0 132) (gR (rFld (rLoc 0 132) 151 flX12_64) (gI (eInt 16) (gI (eLoc 1) gNil))) cvX12_229_302) rt_302) (sSeq (sCall (xV 302 (rLoc 0 132) (gR (rFld (rLoc 0 132) 152 flX12_67) (gI (eInt 16) (gI (eLoc 1) gNil))) cvX12_229_302) rt_302) (sSeq (sCall (xV 302 (rLoc 0 132) (gR (rFld (rLoc 0 132) 153 flX12_70) (gI (eInt 16) (gI (eLoc 1) gNil))) cvX12_229_302) rt_302) (sSeq (sCall (xV 302 (rLoc 0 132) (gR (rFld (rLoc 0 132) 154 flX12_73) (gI (eInt 16) (gI (eLoc 1) gNil))) cvX12_229_302) rt_302) (sSeq (sCall (xV 302 (rLoc 0 132) (gR (rFld (rLoc 0 132) 155 flX12_76) (gI (eInt 16) (gI (eLoc 1) gNil))) cvX12_229_302) rt_302) (sSeq (sCall (xV 302 (rLoc 0 132) (gR (rFld (rLoc 0 132) 156 flX12_79) (gI (eInt 12) (gI (eLoc 1) gNil))) cvX12_229_302) rt_302) (sSeq (sCall (xV 302 (rLoc 0 132) (gR (rFld (rLoc 0 132) 157 flX12_82) (gI (eInt 12) (gI (eLoc 1) gNil))) cvX12_229_302) rt_302) (sSeq (sCall (xV 302 (rLoc 0 132) (gR (rFld (rLoc 0 132) 158 flX12_85) (gI (eInt 12) (gI (eLoc 1) gNil))) cvX12_229_302) rt_302) (sSeq (sCall (xV 302 (rLoc 0 132) (gR (rFld (rLoc 0 132) 159 flX12_88) (gI (eInt 12) (gI (eLoc 1) gNil))) cvX12_229_302) rt_302) (sSeq (sCall (xV 302 (rLoc 0 132) (gR (rFld (rLoc 0 132) 160 flX12_91) (gI (eInt 12) (gI (eLoc 1) gNil))) cvX12_229_302) rt_302) (sSeq (sCall (xV 302 (rLoc 0 132) (gR (rFld (rLoc 0 132) 161 flX12_94) (gI (eInt 12) (gI (eLoc 1) gNil))) cvX12_229_302) rt_302) (sSeq (sCall (xV 302 (rLoc 0 132) (gR (rFld (rLoc 0 132) 162 flX12_97) (gI (eInt 8) (gI (eLoc 1) gNil))) cvX12_229_302) rt_302) (sSeq (sCall (xV 302 (rLoc 0 132) (gR (rFld (rLoc 0 132) 163 flX12_100) (gI (eInt 8) (gI (eLoc 1) gNil))) cvX12_229_302) rt_302) (sSeq (sCall (xV 302 (rLoc 0 132) (gR (rFld (rLoc 0 132) 164 flX12_103) (gI (eInt 8) (gI (eLoc 1) gNil))) cvX12_229_302) rt_302) (sSeq (sCall (xV 302 (rLoc 0 132) (gR (rFld (rLoc 0 132) 165 flX12_106) (gI (eInt 72) (gI (eLoc 1) gNil))) cvX12_229_302) rt_302) (sSeq (sCall (xV 302 (rLoc 0 132) (gR (rFld (rLoc 0 132) 166 flX12_109) (gI (eInt 72) (gI (eLoc 1) gNil))) cvX12_229_302) rt_302) (sSeq (sCall (xV 302 (rLoc 0 132) (gR (rFld (rLoc 0 132) 167 flX12_112) (gI (eInt 72) (gI (eLoc 1) gNil))) cvX12_229_302) rt_302) (sSeq (sCall (xV 302 (rLoc 0 132) (gR (rFld (rLoc 0 132) 168 flX12_115) (gI (eInt 72) (gI (eLoc 1) gNil))) cvX12_229_302) rt_302) (sSeq (sCall (xV 302 (rLoc 0 132) (gR (rFld (rLoc 0 132) 169 flX12_118) (gI (eInt 640) (gI (eLoc 1) gNil))) cvX12_229_302) rt_302) (sSeq (sCall (xV 302 (rLoc 0 132) (gR (rFld (rLoc 0 132) 170 flX12_121) (gI (eInt 640) (gI (eLoc 1) gNil))) cvX12_229_302) rt_302) (sSeq (sCall (xV 302 (rLoc 0 132) (gR (rFld (rLoc 0 132) 171 flX12_124) (gI (eInt 640) (gI (eLoc 1) gNil))) cvX12_229_302) rt_302) (sSeq (sCall (xV 302 (rLoc 0 132) (gR (rFld (rLoc 0 132) 172 flX12_127) (gI (eInt 16) (gI (eLoc 1) gNil))) cvX12_229_302) rt_302) (sSeq (sCall (xV 302 (rLoc 0 132) (gR (rFld (rLoc 0 132) 173 flX12_130) (gI (eInt 16) (gI (eLoc 1) gNil))) cvX12_229_302) rt_302) (sSeq (sCall (xV 302 (rLoc 0 132) (gR (rFld (rLoc 0 132) 174 flX12_133) (gI (eInt 16) (gI (eLoc 1) gNil))) cvX12_229_302) rt_302) (sSeq (sCall (xV 302 (rLoc 0 132) (gR (rFld (rLoc 0 132) 175 flX12_136) (gI (eInt 16) (gI (eLoc 1) gNil))) cvX12_229_302) rt_302) (sSeq (sCall (xV 302 (rLoc 0 132) (gR (rFld (rLoc 0 132) 176 flX12_139) (gI (eInt 24) (gI (eLoc 1) gNil))) cvX12_229_302) rt_302) (sSeq (sCall (xV 302 (rLoc 0 132) (gR (rFld (rLoc 0 132) 177 flX12_142) (gI (eInt 24) (gI (eLoc 1) gNil))) cvX12_229_302) rt_302) sRetV))))))))))))))))))))))))))))))))))))))))))))))
set_option maxRecDepth 100000 in
theorem ck_M_copiesAll : B_M_copiesAll.1.1 0 0 0 = some none := by decide +kernel
abbrev K_M_deepest : bK := (RX12, cX12_deepest, 4, some .int, fun _ _ _ => True)
def L_M_deepest_1c : EC K_M_deepest := (cQ 2 (eLoc 3) (eInt 180))
def L_M_deepest_1b : ES K_M_deepest := (sSet 2 (eCall (xS 294 (gI (eLoc 2) (gI (eAI 2160 (rFld (rLoc 0 132) 179 flX12_148) (eAdd (eMul (eInt 180) (eLoc 1)) (eLoc 3))) gNil)) csX12_286) rt_294))
def L_M_deepest_1s : ES K_M_deepest := (sInc 3 1)
def L_M_deepest_1 : ES K_M_deepest := sLp 28 L_M_deepest_1c L_M_deepest_1b L_M_deepest_1s
def B_M_deepest : ES K_M_deepest := (sSeq (sSet 2 (eInt 0)) (sSeq (sSeq (sSet 3 (eInt 0)) L_M_deepest_1) (sRet (eLoc 2))))
set_option maxRecDepth 100000 in
theorem ck_M_deepest : B_M_deepest.1.1 0 0 0 = some none := by decide +kernel
abbrev K_M_isActive : bK := (RX12, cX12_isActive, 2, some .boolean, fun _ _ _ => True)
def B_M_isActive : ES K_M_isActive := (sRet (eIte (cAnd (cZ 0 (eAI 16 (rFld (rLoc 0 132) 147 flX12_52) (eLoc 1))) (cOr (cQ 1 (eAI 16 (rFld (rLoc 0 132) 141 flX12_34) (eLoc 1)) (eInt 3)) (cZ 0 (eAI 4 (rFld (rLoc 0 132) 149 flX12_58) (eAI 16 (rFld (rLoc 0 132) 142 flX12_37) (eLoc 1)))))) (eInt 1) (eInt 0)))
set_option maxRecDepth 100000 in
theorem ck_M_isActive : B_M_isActive.1.1 0 0 0 = some none := by decide +kernel
abbrev K_M_counts : bK := (RX12, cX12_counts, 5, none, fun _ _ _ => True)
def L_M_counts_1c : EC K_M_counts := (cQ 2 (eLoc 2) (eAI 14 (rFld (rLoc 0 132) 133 flX12_7) (eInt 5)))
def L_M_counts_1b : ES K_M_counts := (sOpA 10 0 (rFld (rLoc 0 132) 186 flX12_170) (eLoc 2) (eIte (cZ 3 (eAI 10 (rFld (rLoc 0 132) 180 flX12_151) (eLoc 2))) (eInt 1) (eInt 0)))
def L_M_counts_1s : ES K_M_counts := (sInc 2 1)
def L_M_counts_1 : ES K_M_counts := sLp 45 L_M_counts_1c L_M_counts_1b L_M_counts_1s
def L_M_counts_2c : EC K_M_counts := (cQ 2 (eLoc 2) (eInt 12))
def L_M_counts_2b : ES K_M_counts := (sPutA 1080 (rFld (rLoc 0 132) 187 flX12_173) (eAdd (eMul (eInt 12) (eLoc 1)) (eLoc 2)) (eCall (xV 215 (rLoc 0 132) (gI (eLoc 2) (gI (eInt 1) gNil)) cvX12_289_215) rt_215))
def L_M_counts_2s : ES K_M_counts := (sInc 2 1)
def L_M_counts_2 : ES K_M_counts := sLp 76 L_M_counts_2c L_M_counts_2b L_M_counts_2s
def L_M_counts_4c : EC K_M_counts := (cQ 2 (eLoc 4) (eAI 14 (rFld (rLoc 0 132) 133 flX12_7) (eInt 10)))
def L_M_counts_4b : ES K_M_counts := (sOpA 12 2 (rFld (rLoc 0 132) 188 flX12_176) (eLoc 4) (eIte (cAnd (cQ 0 (eAI 12 (rFld (rLoc 0 132) 160 flX12_91) (eLoc 4)) (eAI 12 (rFld (rLoc 0 132) 157 flX12_82) (eLoc 2))) (cQ 0 (eAI 12 (rFld (rLoc 0 132) 161 flX12_94) (eLoc 4)) (eLoc 3))) (eShl (eInt 1) (eLoc 2)) (eInt 0)))
def L_M_counts_4s : ES K_M_counts := (sInc 4 1)
def L_M_counts_4 : ES K_M_counts := sLp 178 L_M_counts_4c L_M_counts_4b L_M_counts_4s
def L_M_counts_3c : EC K_M_counts := (cQ 2 (eLoc 2) (eAI 14 (rFld (rLoc 0 132) 133 flX12_7) (eInt 9)))
def L_M_counts_3b : ES K_M_counts := (sSeq (sSet 3 (eIte (cZ 2 (eAI 10 (rFld (rLoc 0 132) 180 flX12_151) (eAI 12 (rFld (rLoc 0 132) 156 flX12_79) (eLoc 2)))) (eInt (-1)) (eCall (xV 220 (rLoc 0 132) (gI (eLoc 2) gNil) cvX12_312_220) rt_220))) (sSeq (sSet 4 (eInt 0)) L_M_counts_4))
def L_M_counts_3s : ES K_M_counts := (sInc 2 1)
def L_M_counts_3 : ES K_M_counts := sLp 184 L_M_counts_3c L_M_counts_3b L_M_counts_3s
def B_M_counts : ES K_M_counts := (sSeq (sOpF 0 (rLoc 0 132) (eInt 1) fpX12_302) (sSeq (sSeq (sSet 2 (eInt 0)) L_M_counts_1) (sSeq (sSeq (sSet 2 (eInt 0)) L_M_counts_2) (sSeq (sSeq (sSet 2 (eInt 0)) L_M_counts_3) sRetV))))
set_option maxRecDepth 100000 in
theorem ck_M_counts : B_M_counts.1.1 0 0 0 = some none := by decide +kernel
abbrev K_M_fits : bK := (RX12, cX12_fits, 3, some .boolean, fun _ _ _ => True)
def B_M_fits : ES K_M_fits := (sRet (eIte (cAnd (cAnd (cZ 0 (eAI 16 (rFld (rLoc 0 132) 153 flX12_70) (eLoc 2))) (cQ 0 (eAI 16 (rFld (rLoc 0 132) 154 flX12_73) (eLoc 1)) (eAI 16 (rFld (rLoc 0 132) 150 flX12_61) (eLoc 2)))) (cOr (cQ 0 (eAI 16 (rFld (rLoc 0 132) 155 flX12_76) (eLoc 1)) (eInt (-1))) (cQ 0 (eAI 16 (rFld (rLoc 0 132) 155 flX12_76) (eLoc 1)) (eAI 16 (rFld (rLoc 0 132) 151 flX12_64) (eLoc 2))))) (eInt 1) (eInt 0)))
set_option maxRecDepth 100000 in
theorem ck_M_fits : B_M_fits.1.1 0 0 0 = some none := by decide +kernel
abbrev K_M_stands : bK := (RX12, cX12_stands, 4, some .boolean, fun _ _ _ => True)
def L_M_stands_1c : EC K_M_stands := (cQ 2 (eLoc 3) (eAI 14 (rFld (rLoc 0 132) 133 flX12_7) (eInt 7)))
def L_M_stands_1b : ES K_M_stands := (sIf (cAnd (cAnd (cQ 1 (eLoc 3) (eLoc 2)) (cZ 1 (eCall (xV 280 (rLoc 0 132) (gI (eLoc 1) (gI (eLoc 3) gNil)) cvX12_332_280) rt_280))) (cZ 0 (eAnd (eShr (eFld (rLoc 0 132) flX12_335) (eLoc 3)) (eInt 1)))) (sSeq (sOpF 2 (rLoc 0 132) (eShl (eInt 1) (eLoc 3)) fpX12_335) (sIf (cOr (cZ 2 (eAI 16 (rFld (rLoc 0 132) 191 flX12_185) (eLoc 3))) (cZ 1 (eCall (xV 281 (rLoc 0 132) (gI (eAI 16 (rFld (rLoc 0 132) 191 flX12_185) (eLoc 3)) (gI (eLoc 2) gNil)) cvX12_338_281) rt_281))) (sSeq (sPutA 16 (rFld (rLoc 0 132) 191 flX12_185) (eLoc 3) (eLoc 1)) (sRet (eInt 1))) sNop)) sNop)
def L_M_stands_1s : ES K_M_stands := (sInc 3 1)
def L_M_stands_1 : ES K_M_stands := sLp 82 L_M_stands_1c L_M_stands_1b L_M_stands_1s
def B_M_stands : ES K_M_stands := (sSeq (sSeq (sSet 3 (eInt 0)) L_M_stands_1) (sRet (eInt 0)))
set_option maxRecDepth 100000 in
theorem ck_M_stands : B_M_stands.1.1 0 0 0 = some none := by decide +kernel
abbrev K_M_byteAt : bK := (RX12, cX12_byteAt, 2, some .int, fun _ _ _ => True)
def B_M_byteAt : ES K_M_byteAt := (sRet (eIte (cQ 2 (eLoc 1) (eFld (rLoc 0 132) flX12_347)) (eAI 240 (rFld (rLoc 0 132) 192 flX12_188) (eLoc 1)) (eInt (-1))))
set_option maxRecDepth 100000 in
theorem ck_M_byteAt : B_M_byteAt.1.1 0 0 0 = some none := by decide +kernel
abbrev K_M_fails : bK := (RX12, cX12_fails, 1, none, fun _ _ _ => True)
def B_M_fails : ES K_M_fails := (sSeq (sIf (cZ 2 (eFld (rLoc 0 132) flX12_383)) (sPutI (rLoc 0 132) (eFld (rLoc 0 132) flX12_358) fpX12_383) sNop) sRetV)
set_option maxRecDepth 100000 in
theorem ck_M_fails : B_M_fails.1.1 0 0 0 = some none := by decide +kernel
abbrev K_M_may : bK := (RX12, cX12_may, 4, some .boolean, fun _ _ _ => True)
def B_M_may : ES K_M_may := (sSeq (sSet 3 (eIte (cAnd (cAnd (cZ 2 (eFld (rLoc 0 132) flX12_383)) (cQ 0 (eFld (rLoc 0 132) flX12_368) (eInt 1))) (cZ 0 (eCmp (lFld (rLoc 0 132) flX12_364) (lLoc 1)))) (eInt 1) (eInt 0))) (sSeq (sIf (cZ 1 (eLoc 3)) (sCall (xV 221 (rLoc 0 132) gNil cvX12_386_221) rt_221) sNop) (sRet (eLoc 3))))
set_option maxRecDepth 100000 in
theorem ck_M_may : B_M_may.1.1 0 0 0 = some none := by decide +kernel
abbrev K_M_number : bK := (RX12, cX12_number, 3, some .int, fun _ _ _ => True)
def B_M_number : ES K_M_number := (sSeq (sIf (cOr (cOr (cZ 3 (eFld (rLoc 0 132) flX12_383)) (cQ 1 (eFld (rLoc 0 132) flX12_368) (eInt 2))) (cZ 4 (eCmp (lFld (rLoc 0 132) flX12_364) (lI2L (eLoc 1))))) (sSeq (sCall (xV 283 (rLoc 0 132) gNil cvX12_393_283) rt_283) (sRet (eInt 0))) sNop) (sSeq (sSet 2 (eL2I (lFld (rLoc 0 132) flX12_364))) (sSeq (sCall (xV 221 (rLoc 0 132) gNil cvX12_386_221) rt_221) (sRet (eLoc 2)))))
set_option maxRecDepth 100000 in
theorem ck_M_number : B_M_number.1.1 0 0 0 = some none := by decide +kernel
abbrev K_M_must : bK := (RX12, cX12_must, 3, none, fun _ _ _ => True)
def B_M_must : ES K_M_must := (sSeq (sIf (cNot (cZ 1 (eCall (xV 284 (rLoc 0 132) (gL (lLoc 1) gNil) cvX12_389_284) rt_284))) (sCall (xV 283 (rLoc 0 132) gNil cvX12_393_283) rt_283) sNop) sRetV)
set_option maxRecDepth 100000 in
theorem ck_M_must : B_M_must.1.1 0 0 0 = some none := by decide +kernel
abbrev K_M_any : bK := (RX12, cX12_any, 1, none, fun _ _ _ => True)
def L_M_any_1c : EC K_M_any := (cZ 1 (eCall (xV 284 (rLoc 0 132) (gL (lLdc (423) klX12_446) gNil) cvX12_389_284) rt_284))
def L_M_any_1b : ES K_M_any := (sSeq (sCall (xV 322 (rLoc 0 132) gNil cvX12_443_322) rt_322) (sCall (xV 323 (rLoc 0 132) (gI (eInt 8) (gI (eInt 0) (gI (eInt 0) gNil))) cvX12_425_323) rt_323))
def L_M_any_1s : ES K_M_any := sNop
def L_M_any_1 : ES K_M_any := sLp 4 L_M_any_1c L_M_any_1b L_M_any_1s
def B_M_any : ES K_M_any := (sSeq (sCall (xV 322 (rLoc 0 132) gNil cvX12_443_322) rt_322) (sSeq L_M_any_1 sRetV))
set_option maxRecDepth 100000 in
theorem ck_M_any : B_M_any.1.1 0 0 0 = some none := by decide +kernel
abbrev K_M_mustSign : bK := (RX12, cX12_mustSign, 2, none, fun _ _ _ => True)
def B_M_mustSign : ES K_M_mustSign := (sSeq (sIf (cZ 1 (eCall (xV 324 (rLoc 0 132) (gI (eLoc 1) gNil) cvX12_396_324) rt_324)) (sCall (xV 221 (rLoc 0 132) gNil cvX12_386_221) rt_221) (sCall (xV 283 (rLoc 0 132) gNil cvX12_393_283) rt_283)) sRetV)
set_option maxRecDepth 100000 in
theorem ck_M_mustSign : B_M_mustSign.1.1 0 0 0 = some none := by decide +kernel
abbrev K_M_latest : bK := (RX12, cX12_latest, 7, some .int, fun _ _ _ => True)
def L_M_latest_1c : EC K_M_latest := (cAnd (cZ 3 (eLoc 4)) (cQ 2 (eLoc 6) (eAI 9 (rFld (rLoc 0 132) 163 flX12_100) (eLoc 4))))
def L_M_latest_1b : ES K_M_latest := (sSet 5 (eIte (cQ 0 (eAI 81 (rFld (rLoc 0 132) 165 flX12_106) (eAdd (eMul (eInt 9) (eLoc 4)) (eLoc 6))) (eLoc 2)) (eAI 81 (rFld (rLoc 0 132) 166 flX12_109) (eAdd (eMul (eInt 9) (eLoc 4)) (eLoc 6))) (eLoc 5)))
def L_M_latest_1s : ES K_M_latest := (sInc 6 1)
def L_M_latest_1 : ES K_M_latest := sLp 67 L_M_latest_1c L_M_latest_1b L_M_latest_1s
def B_M_latest : ES K_M_latest := (sSeq (sSet 4 (eCall (xV 290 (rLoc 0 132) (gI (eLoc 1) gNil) cvX12_482_290) rt_290)) (sSeq (sSet 5 (eLoc 3)) (sSeq (sSeq (sSet 6 (eInt 0)) L_M_latest_1) (sRet (eLoc 5)))))
set_option maxRecDepth 100000 in
theorem ck_M_latest : B_M_latest.1.1 0 0 0 = some none := by decide +kernel
abbrev K_M_actOf : bK := (RX12, cX12_actOf, 4, some .int, fun _ _ _ => True)
def L_M_actOf_1c : EC K_M_actOf := (cQ 2 (eLoc 3) (eAI 14 (rFld (rLoc 0 132) 133 flX12_7) (eInt 11)))
def L_M_actOf_1b : ES K_M_actOf := (sSet 2 (eIte (cQ 5 (eAI 9 (rFld (rLoc 0 132) 162 flX12_97) (eLoc 3)) (eLoc 1)) (eLoc 3) (eLoc 2)))
def L_M_actOf_1s : ES K_M_actOf := (sInc 3 1)
def L_M_actOf_1 : ES K_M_actOf := sLp 31 L_M_actOf_1c L_M_actOf_1b L_M_actOf_1s
def B_M_actOf : ES K_M_actOf := (sSeq (sSet 2 (eInt (-1))) (sSeq (sSeq (sSet 3 (eInt 0)) L_M_actOf_1) (sRet (eLoc 2))))
set_option maxRecDepth 100000 in
theorem ck_M_actOf : B_M_actOf.1.1 0 0 0 = some none := by decide +kernel
abbrev K_M_holds : bK := (RX12, cX12_holds, 10, some .boolean, fun _ _ _ => True)
def L_M_holds_1c : EC K_M_holds := (cQ 2 (eLoc 7) (eAdd (eMul (eInt 80) (eLoc 1)) (eAI 81 (rFld (rLoc 0 132) 168 flX12_115) (eLoc 6))))
def L_M_holds_1b : ES K_M_holds := (sSeq (sSetL 8 (lAnd (lLoc 4) (lInt 1))) (sSwB 148 (eAI 720 (rFld (rLoc 0 132) 169 flX12_118) (eLoc 7)) (tCase 8 (sSeq (sSetL 4 (lOr (lShr (lLoc 4) (eInt 1)) (lLoc 8))) sBrk) (tCase 9 (sSeq (sSetL 4 (lIte (cZ 0 (eCmp (lLoc 8) (lInt 1))) (lShr (lLoc 4) (eInt 1)) (lShl (lShr (lLoc 4) (eInt 2)) (eInt 1)))) sBrk) (tCase 10 (sSeq (sSetL 4 (lXor (lLoc 4) (lInt 1))) sBrk) (tDef (sSeq (sSetL 4 (lOr (lShl (lLoc 4) (eInt 1)) (lIte (cZ 1 (eCall (xV 325 (rLoc 0 132) (gI (eLoc 7) (gI (eLoc 3) gNil)) cvX12_479_325) rt_325)) (lInt 1) (lInt 0)))) sBrk)))))))
def L_M_holds_1s : ES K_M_holds := (sInc 7 1)
def L_M_holds_1 : ES K_M_holds := sLp 148 L_M_holds_1c L_M_holds_1b L_M_holds_1s
def B_M_holds : ES K_M_holds := (sSeq (sSetL 4 (lInt 1)) (sSeq (sSet 6 (eAdd (eMul (eInt 9) (eLoc 1)) (eLoc 2))) (sSeq (sSeq (sSet 7 (eAdd (eMul (eInt 80) (eLoc 1)) (eAI 81 (rFld (rLoc 0 132) 167 flX12_112) (eLoc 6)))) L_M_holds_1) (sRet (eIte (cOr (cQ 0 (eAI 81 (rFld (rLoc 0 132) 167 flX12_112) (eLoc 6)) (eAI 81 (rFld (rLoc 0 132) 168 flX12_115) (eLoc 6))) (cZ 0 (eCmp (lAnd (lLoc 4) (lInt 1)) (lInt 1)))) (eInt 1) (eInt 0))))))
set_option maxRecDepth 100000 in
theorem ck_M_holds : B_M_holds.1.1 0 0 0 = some none := by decide +kernel
abbrev K_M_fact : bK := (RX12, cX12_fact, 4, some .int, fun _ _ _ => True)
def B_M_fact : ES K_M_fact := (sSeq (sSet 3 (eAI 16 (rFld (rLoc 0 132) 173 flX12_130) (eLoc 1))) (sSw (eLoc 2) (tCase 0 (sRet (eAI 12 (rFld (rLoc 0 132) 159 flX12_88) (eLoc 3))) (tCase 1 (sRet (eAI 12 (rFld (rLoc 0 132) 157 flX12_82) (eLoc 3))) (tCase 2 (sRet (eAI 16 (rFld (rLoc 0 132) 152 flX12_67) (eAI 16 (rFld (rLoc 0 132) 172 flX12_127) (eLoc 1)))) (tCase 3 (sRet (eAI 16 (rFld (rLoc 0 132) 150 flX12_61) (eAI 16 (rFld (rLoc 0 132) 172 flX12_127) (eLoc 1)))) (tCase 4 (sRet (eCall (xV 223 (rLoc 0 132) (gI (eLoc 1) gNil) cvX12_470_223) rt_223)) (tCase 5 (sRet (eAI 10 (rFld (rLoc 0 132) 138 flX12_25) (eAI 12 (rFld (rLoc 0 132) 156 flX12_79) (eLoc 3)))) (tCase 6 (sRet (eIte (cZ 1 (eCall (xV 213 (rLoc 0 132) (gI (eAI 12 (rFld (rLoc 0 132) 156 flX12_79) (eLoc 3)) gNil) cvX12_318_213) rt_213)) (eInt 1) (eInt 0))) (tDef (sRet (eIte (cZ 1 (eCall (xV 228 (rLoc 0 132) (gI (eLoc 1) gNil) cvX12_473_228) rt_228)) (eInt 1) (eInt 0)))))))))))))
set_option maxRecDepth 100000 in
theorem ck_M_fact : B_M_fact.1.1 0 0 0 = some none := by decide +kernel
abbrev K_M_houseOf : bK := (RX12, cX12_houseOf, 2, some .int, fun _ _ _ => True)
def B_M_houseOf : ES K_M_houseOf := (sRet (eAI 12 (rFld (rLoc 0 132) 156 flX12_79) (eAI 16 (rFld (rLoc 0 132) 173 flX12_130) (eLoc 1))))
set_option maxRecDepth 100000 in
theorem ck_M_houseOf : B_M_houseOf.1.1 0 0 0 = some none := by decide +kernel
abbrev K_M_greater : bK := (RX12, cX12_greater, 2, some .int, fun _ _ _ => True)
def B_M_greater : ES K_M_greater := (sRet (eIte (cQ 4 (eLoc 0) (eLoc 1)) (eLoc 0) (eLoc 1)))
set_option maxRecDepth 100000 in
theorem ck_M_greater : B_M_greater.1.1 0 0 0 = some none := by decide +kernel
abbrev K_M_ran : bK := (RX12, cX12_ran, 2, none, fun _ _ _ => True)
def B_M_ran : ES K_M_ran := (sSeq (sIf (cQ 2 (eFld (rLoc 0 132) flX12_570) (eInt 30)) (sPutA 30 (rFld (rLoc 0 132) 203 flX12_222) (eFld (rLoc 0 132) flX12_570) (eLoc 1)) sNop) (sSeq (sOpF 0 (rLoc 0 132) (eInt 1) fpX12_570) sRetV))
set_option maxRecDepth 100000 in
theorem ck_M_ran : B_M_ran.1.1 0 0 0 = some none := by decide +kernel
abbrev K_M_plainFits : bK := (RX12, cX12_plainFits, 2, some .int, fun _ _ _ => True)
def B_M_plainFits : ES K_M_plainFits := (sSeq (sCall (xV 295 (rLoc 0 132) (gI (eInt 10) gNil) cvX12_573_295) rt_295) (sRet (eAdd (eLoc 1) (eFld (rLoc 0 132) flX12_576))))
set_option maxRecDepth 100000 in
theorem ck_M_plainFits : B_M_plainFits.1.1 0 0 0 = some none := by decide +kernel
abbrev K_M_wordPays : bK := (RX12, cX12_wordPays, 2, some .int, fun _ _ _ => True)
def B_M_wordPays : ES K_M_wordPays := (sSeq (sCall (xV 295 (rLoc 0 132) (gI (eInt 40) gNil) cvX12_573_295) rt_295) (sRet (eSub (eInt 0) (eCall (xV 298 (rLoc 0 132) (gI (eLoc 1) gNil) cvX12_590_298) rt_298))))
set_option maxRecDepth 100000 in
theorem ck_M_wordPays : B_M_wordPays.1.1 0 0 0 = some none := by decide +kernel
abbrev K_M_plainPays : bK := (RX12, cX12_plainPays, 2, some .int, fun _ _ _ => True)
def B_M_plainPays : ES K_M_plainPays := (sSeq (sCall (xV 295 (rLoc 0 132) (gI (eInt 11) gNil) cvX12_573_295) rt_295) (sRet (eMul (eCall (xV 244 (rLoc 0 132) (gI (eLoc 1) gNil) cvX12_587_244) rt_244) (eInt 2))))
set_option maxRecDepth 100000 in
theorem ck_M_plainPays : B_M_plainPays.1.1 0 0 0 = some none := by decide +kernel
abbrev K_M_plainHangs : bK := (RX12, cX12_plainHangs, 2, some .int, fun _ _ _ => True)
def B_M_plainHangs : ES K_M_plainHangs := (sSeq (sCall (xV 295 (rLoc 0 132) (gI (eInt 12) gNil) cvX12_573_295) rt_295) (sRet (eSub (eCall (xV 245 (rLoc 0 132) (gI (eLoc 1) gNil) cvX12_596_245) rt_245) (eFld (rLoc 0 132) flX12_599))))
set_option maxRecDepth 100000 in
theorem ck_M_plainHangs : B_M_plainHangs.1.1 0 0 0 = some none := by decide +kernel
abbrev K_M_claimHangs : bK := (RX12, cX12_claimHangs, 2, some .int, fun _ _ _ => True)
def B_M_claimHangs : ES K_M_claimHangs := (sSeq (sCall (xV 295 (rLoc 0 132) (gI (eInt 60) gNil) cvX12_573_295) rt_295) (sRet (eMul (eCall (xV 299 (rLoc 0 132) (gI (eLoc 1) gNil) cvX12_602_299) rt_299) (eInt 2))))
set_option maxRecDepth 100000 in
theorem ck_M_claimHangs : B_M_claimHangs.1.1 0 0 0 = some none := by decide +kernel
abbrev K_M_plainTells : bK := (RX12, cX12_plainTells, 2, some .int, fun _ _ _ => True)
def B_M_plainTells : ES K_M_plainTells := (sSeq (sCall (xV 295 (rLoc 0 132) (gI (eInt 13) gNil) cvX12_573_295) rt_295) (sSeq (sPutZ (rLoc 0 132) (eIte (cQ 0 (eFld (rLoc 0 132) flX12_599) (eFld (rLoc 0 132) flX12_585)) (eInt 1) (eInt 0)) fpX12_608) (sRet (eIte (cZ 1 (eFld (rLoc 0 132) flX12_608)) (eInt 0) (eDiv (eLoc 1) (eSub (eFld (rLoc 0 132) flX12_599) (eFld (rLoc 0 132) flX12_585)))))))
set_option maxRecDepth 100000 in
theorem ck_M_plainTells : B_M_plainTells.1.1 0 0 0 = some none := by decide +kernel
abbrev K_M_copies : bK := (RX12, cX12_copies, 5, none, fun _ _ _ => True)
def L_M_copies_1c : EC K_M_copies := (cQ 2 (eLoc 4) (eLoc 2))
def L_M_copies_1b : ES K_M_copies := (sSeq (sIf (cZ 1 (eLoc 3)) (sPutA 3600 (rFld (rLoc 0 132) 178 flX12_145) (eFld (rLoc 0 132) flX12_225) (eAD 1 (eLoc 4))) (sPutD 1 (eLoc 4) (eAI 3600 (rFld (rLoc 0 132) 178 flX12_145) (eFld (rLoc 0 132) flX12_225)))) (sOpF 0 (rLoc 0 132) (eInt 1) fpX12_225))
def L_M_copies_1s : ES K_M_copies := (sInc 4 1)
def L_M_copies_1 : ES K_M_copies := sLp 52 L_M_copies_1c L_M_copies_1b L_M_copies_1s
def B_M_copies : ES K_M_copies := (sSeq (sSeq (sSet 4 (eInt 0)) L_M_copies_1) sRetV)
set_option maxRecDepth 100000 in
theorem ck_M_copies : B_M_copies.1.1 0 0 0 = some none := by decide +kernel
abbrev K_M_all : bK := (RX12, cX12_all, 1, none, fun _ _ _ => True)
def L_M_all_1c : EC K_M_all := (cZ 1 (eCall (xV 284 (rLoc 0 132) (gL (lLdc (1111) klX12_441) gNil) cvX12_389_284) rt_284))
def L_M_all_1b : ES K_M_all := (sSeq (sCall (xV 330 (rLoc 0 132) gNil cvX12_438_330) rt_330) (sCall (xV 323 (rLoc 0 132) (gI (eInt 9) (gI (eInt 0) (gI (eInt 0) gNil))) cvX12_425_323) rt_323))
def L_M_all_1s : ES K_M_all := sNop
def L_M_all_1 : ES K_M_all := sLp 4 L_M_all_1c L_M_all_1b L_M_all_1s
def B_M_all : ES K_M_all := (sSeq (sCall (xV 330 (rLoc 0 132) gNil cvX12_438_330) rt_330) (sSeq L_M_all_1 sRetV))
set_option maxRecDepth 100000 in
theorem ck_M_all : B_M_all.1.1 0 0 0 = some none := by decide +kernel
abbrev K_M_does : bK := (RX12, cX12_does, 5, none, fun _ _ _ => True)
def B_M_does : ES K_M_does := (sSeq (sIf (cZ 2 (eFld (rLoc 0 132) flX12_383)) (sSeq (sSet 4 (eAdd (eMul (eInt 80) (eFld (rLoc 0 132) flX12_399)) (eAI 9 (rFld (rLoc 0 132) 164 flX12_103) (eFld (rLoc 0 132) flX12_399)))) (sSeq (sPutA 720 (rFld (rLoc 0 132) 169 flX12_118) (eLoc 4) (eLoc 1)) (sSeq (sPutA 720 (rFld (rLoc 0 132) 170 flX12_121) (eLoc 4) (eLoc 2)) (sSeq (sPutA 720 (rFld (rLoc 0 132) 171 flX12_124) (eLoc 4) (eLoc 3)) (sOpA 9 0 (rFld (rLoc 0 132) 164 flX12_103) (eFld (rLoc 0 132) flX12_399) (eInt 1)))))) sNop) sRetV)
set_option maxRecDepth 100000 in
theorem ck_M_does : B_M_does.1.1 0 0 0 = some none := by decide +kernel
abbrev K_M_isSign : bK := (RX12, cX12_isSign, 2, some .boolean, fun _ _ _ => True)
def B_M_isSign : ES K_M_isSign := (sRet (eIte (cAnd (cAnd (cZ 2 (eFld (rLoc 0 132) flX12_383)) (cQ 0 (eFld (rLoc 0 132) flX12_368) (eInt 3))) (cZ 0 (eCmp (lFld (rLoc 0 132) flX12_364) (lI2L (eLoc 1))))) (eInt 1) (eInt 0)))
set_option maxRecDepth 100000 in
theorem ck_M_isSign : B_M_isSign.1.1 0 0 0 = some none := by decide +kernel
abbrev K_M_isSo : bK := (RX12, cX12_isSo, 4, some .boolean, fun _ _ _ => True)
def B_M_isSo : ES K_M_isSo := (sSeq (sSet 3 (eCall (xV 292 (rLoc 0 132) (gI (eLoc 2) (gI (eAI 720 (rFld (rLoc 0 132) 169 flX12_118) (eLoc 1)) gNil)) cvX12_476_292) rt_292)) (sSeq (sIf (cOr (cQ 0 (eAI 720 (rFld (rLoc 0 132) 169 flX12_118) (eLoc 1)) (eInt 6)) (cQ 0 (eAI 720 (rFld (rLoc 0 132) 169 flX12_118) (eLoc 1)) (eInt 7))) (sRet (eIte (cQ 0 (eLoc 3) (eInt 1)) (eInt 1) (eInt 0))) sNop) (sRet (eIte (cQ 0 (eAI 720 (rFld (rLoc 0 132) 170 flX12_121) (eLoc 1)) (eInt 60)) (eIte (cQ 2 (eLoc 3) (eAI 720 (rFld (rLoc 0 132) 171 flX12_124) (eLoc 1))) (eInt 1) (eInt 0)) (eIte (cQ 0 (eAI 720 (rFld (rLoc 0 132) 170 flX12_121) (eLoc 1)) (eInt 62)) (eIte (cQ 4 (eLoc 3) (eAI 720 (rFld (rLoc 0 132) 171 flX12_124) (eLoc 1))) (eInt 1) (eInt 0)) (eIte (cQ 0 (eLoc 3) (eAI 720 (rFld (rLoc 0 132) 171 flX12_124) (eLoc 1))) (eInt 1) (eInt 0)))))))
set_option maxRecDepth 100000 in
theorem ck_M_isSo : B_M_isSo.1.1 0 0 0 = some none := by decide +kernel
abbrev K_M_one : bK := (RX12, cX12_one, 4, none, fun _ _ _ => True)
def L_M_one_1c : EC K_M_one := (cZ 1 (eCall (xV 284 (rLoc 0 132) (gL (lLdc (10631) klX12_414) gNil) cvX12_389_284) rt_284))
def L_M_one_1b : ES K_M_one := (sSet 1 (eIte (cNot (cZ 1 (eLoc 1))) (eInt 1) (eInt 0)))
def L_M_one_1s : ES K_M_one := sNop
def L_M_one_1 : ES K_M_one := sLp 2 L_M_one_1c L_M_one_1b L_M_one_1s
def B_M_one : ES K_M_one := (sSeq (sSet 1 (eInt 0)) (sSeq L_M_one_1 (sSeq (sSet 2 (eCall (xV 332 (rLoc 0 132) gNil cvX12_416_332) rt_332)) (sSeq (sIf (cZ 3 (eLoc 2)) (sSeq (sSet 3 (eIte (cOr (cOr (cZ 1 (eCall (xV 324 (rLoc 0 132) (gI (eInt 60) gNil) cvX12_396_324) rt_324)) (cZ 1 (eCall (xV 324 (rLoc 0 132) (gI (eInt 61) gNil) cvX12_396_324) rt_324))) (cZ 1 (eCall (xV 324 (rLoc 0 132) (gI (eInt 62) gNil) cvX12_396_324) rt_324))) (eL2I (lFld (rLoc 0 132) flX12_364)) (eInt (-1)))) (sSeq (sCall (xV 288 (rLoc 0 132) (gI (eLoc 3) gNil) cvX12_419_288) rt_288) (sCall (xV 323 (rLoc 0 132) (gI (eLoc 2) (gI (eLoc 3) (gI (eCall (xV 285 (rLoc 0 132) (gI (eInt 999) gNil) cvX12_422_285) rt_285) gNil))) cvX12_425_323) rt_323))) (sIf (cZ 1 (eCall (xV 284 (rLoc 0 132) (gL (lLdc (122079) klX12_428) gNil) cvX12_389_284) rt_284)) (sCall (xV 323 (rLoc 0 132) (gI (eInt 6) (gI (eInt 0) (gI (eInt 0) gNil))) cvX12_425_323) rt_323) (sIf (cZ 1 (eCall (xV 284 (rLoc 0 132) (gL (lLdc (3499582) klX12_430) gNil) cvX12_389_284) rt_284)) (sCall (xV 323 (rLoc 0 132) (gI (eInt 7) (gI (eInt 0) (gI (eInt 0) gNil))) cvX12_425_323) rt_323) (sIf (cAnd (cZ 1 (eCall (xV 324 (rLoc 0 132) (gI (eInt 40) gNil) cvX12_396_324) rt_324)) (cQ 2 (eFld (rLoc 0 132) flX12_432) (eInt 4))) (sSeq (sOpF 0 (rLoc 0 132) (eInt 1) fpX12_432) (sSeq (sCall (xV 221 (rLoc 0 132) gNil cvX12_386_221) rt_221) (sSeq (sCall (xV 287 (rLoc 0 132) gNil cvX12_435_287) rt_287) (sSeq (sCall (xV 288 (rLoc 0 132) (gI (eInt 41) gNil) cvX12_419_288) rt_288) (sOpF 1 (rLoc 0 132) (eInt 1) fpX12_432))))) (sCall (xV 283 (rLoc 0 132) gNil cvX12_393_283) rt_283))))) (sSeq (sIf (cZ 1 (eLoc 1)) (sCall (xV 323 (rLoc 0 132) (gI (eInt 10) (gI (eInt 0) (gI (eInt 0) gNil))) cvX12_425_323) rt_323) sNop) sRetV)))))
set_option maxRecDepth 100000 in
theorem ck_M_one : B_M_one.1.1 0 0 0 = some none := by decide +kernel
abbrev K_M_factHere : bK := (RX12, cX12_factHere, 1, some .int, fun _ _ _ => True)
def B_M_factHere : ES K_M_factHere := (sRet (eIte (cZ 1 (eCall (xV 284 (rLoc 0 132) (gL (lLdc (12532058) klX12_402) gNil) cvX12_389_284) rt_284)) (eInt 0) (eIte (cZ 1 (eCall (xV 284 (rLoc 0 132) (gL (lLdc (385418) klX12_404) gNil) cvX12_389_284) rt_284)) (eInt 1) (eIte (cZ 1 (eCall (xV 284 (rLoc 0 132) (gL (lLdc (10983956) klX12_406) gNil) cvX12_389_284) rt_284)) (eInt 2) (eIte (cZ 1 (eCall (xV 284 (rLoc 0 132) (gL (lLdc (8276) klX12_408) gNil) cvX12_389_284) rt_284)) (eInt 3) (eIte (cZ 1 (eCall (xV 284 (rLoc 0 132) (gL (lLdc (239454811) klX12_410) gNil) cvX12_389_284) rt_284)) (eInt 4) (eIte (cZ 1 (eCall (xV 284 (rLoc 0 132) (gL (lLdc (9665171) klX12_412) gNil) cvX12_389_284) rt_284)) (eInt 5) (eInt (-1)))))))))
set_option maxRecDepth 100000 in
theorem ck_M_factHere : B_M_factHere.1.1 0 0 0 = some none := by decide +kernel
