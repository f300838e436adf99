/-! bodies: bodyX -/
abbrev K_Nights_forgetNights : bK := (RX6, cX6_forgetNights, 1, none, fun _ _ _ => True)
def B_Nights_forgetNights : ES K_Nights_forgetNights := (sSeq (sOpF 0 (rLoc 0 101) (eInt 1) fpX6_34) (sSeq (sCall (xV 134 (rLoc 0 101) gNil cvX6_54_134) rt_134) sRetV))
set_option maxRecDepth 100000 in
theorem ck_Nights_forgetNights : B_Nights_forgetNights.1.1 0 0 0 = some none := by decide +kernel
abbrev K_Host_refusesSort : bK := (RX3, cX3_refusesSort, 3, some .int, fun _ _ _ => True)
def B_Host_refusesSort : ES K_Host_refusesSort := (sSeq (sIf (cZ 2 (eAI 4 (rFld (rLoc 0 124) 125 flX3_9) (eLoc 1))) (sRet (eInt (-11))) sNop) (sRet (eIte (cQ 0 (eAI 4 (rFld (rLoc 0 124) 125 flX3_9) (eLoc 1)) (eLoc 2)) (eInt 0) (eInt (-13)))))
set_option maxRecDepth 100000 in
theorem ck_Host_refusesSort : B_Host_refusesSort.1.1 0 0 0 = some none := by decide +kernel
abbrev K_Host_isTable : bK := (RX3, cX3_isTable, 4, some .boolean, fun _ _ _ => True)
def L_Host_isTable_1c : EC K_Host_isTable := (cQ 2 (eLoc 3) (eLoc 2))
def L_Host_isTable_1b : ES K_Host_isTable := (sIf (cNot (cZ 1 (eCall (xN 117 (gI (eAI 160 (rFld (rLoc 0 124) 127 flX3_18) (eAdd (eMul (eLoc 1) (eInt 40)) (eLoc 3))) (gI (eInt 0) (gI (eInt 999) gNil))) cnX3_55) rt_117))) (sRet (eInt 0)) sNop)
def L_Host_isTable_1s : ES K_Host_isTable := (sInc 3 1)
def L_Host_isTable_1 : ES K_Host_isTable := sLp 49 L_Host_isTable_1c L_Host_isTable_1b L_Host_isTable_1s
def B_Host_isTable : ES K_Host_isTable := (sSeq (sSet 2 (eAI 4 (rFld (rLoc 0 124) 126 flX3_15) (eLoc 1))) (sSeq (sIf (cNot (cZ 1 (eCall (xN 117 (gI (eLoc 2) (gI (eInt 1) (gI (eInt 8) gNil))) cnX3_55) rt_117))) (sRet (eInt 0)) sNop) (sSeq (sSeq (sSet 3 (eInt 0)) L_Host_isTable_1) (sRet (eInt 1)))))
set_option maxRecDepth 100000 in
theorem ck_Host_isTable : B_Host_isTable.1.1 0 0 0 = some none := by decide +kernel
abbrev K_Night_pass : bK := (RX5, cX5_pass, 10, none, fun _ _ _ => True)
def L_Night_pass_1c : EC K_Night_pass := (cAnd (cQ 5 (eLoc 7) (eLoc 5)) (cNot (cZ 1 (eLoc 6))))
def L_Night_pass_1b : ES K_Night_pass := (sSeq (sSet 8 (eCall (xV 250 (rLoc 0 93) (gI (eLoc 7) gNil) cvX5_61_250) rt_250)) (sSeq (sSet 9 (eCall (xV 251 (rLoc 0 93) (gI (eLoc 8) gNil) cvX5_65_251) rt_251)) (sSeq (sCall (xV 252 (rLoc 0 93) gNil cvX5_68_252) rt_252) (sSeq (sPutI (rLoc 0 93) (eInt 0) fpX5_71) (sSeq (sCall (xV 253 (rLoc 0 93) (gI (eLoc 7) gNil) cvX5_74_253) rt_253) (sSeq (sCall (xV 254 (rLoc 0 93) gNil cvX5_78_254) rt_254) (sSet 6 (eIte (cAnd (cAnd (cAnd (cZ 0 (eLoc 8)) (cZ 0 (eLoc 9))) (cZ 0 (eFld (rLoc 0 93) flX5_81))) (cZ 1 (eCall (xV 255 (rLoc 0 93) (gI (eLoc 7) gNil) cvX5_84_255) rt_255))) (eInt 1) (eInt 0)))))))))
def L_Night_pass_1s : ES K_Night_pass := (sInc 7 1)
def L_Night_pass_1 : ES K_Night_pass := sLp 111 L_Night_pass_1c L_Night_pass_1b L_Night_pass_1s
def B_Night_pass : ES K_Night_pass := (sSeq (sPutI (rLoc 0 93) (eLoc 1) fpX5_45) (sSeq (sPutI (rLoc 0 93) (eLoc 2) fpX5_49) (sSeq (sPutI (rLoc 0 93) (eLoc 3) fpX5_52) (sSeq (sPutI (rLoc 0 93) (eLoc 4) fpX5_55) (sSeq (sCall (xV 249 (rLoc 0 93) gNil cvX5_58_249) rt_249) (sSeq (sSet 6 (eInt 0)) (sSeq (sSeq (sSet 7 (eInt 0)) L_Night_pass_1) sRetV)))))))
set_option maxRecDepth 100000 in
theorem ck_Night_pass : B_Night_pass.1.1 0 0 0 = some none := by decide +kernel
abbrev K_Night_depthNow : bK := (RX5, cX5_depthNow, 3, some .int, fun _ _ _ => True)
def B_Night_depthNow : ES K_Night_depthNow := (sSeq (sSet 2 (eAI 12 (rFld (rFld (rLoc 0 93) 1 flX5_33) 2 flX5_88) (eLoc 1))) (sRet (eIte (cQ 2 (eLoc 2) (eInt 1)) (eInt 0) (eDiv (eAI 12 (rFld (rLoc 0 93) 94 flX5_9) (eLoc 1)) (eLoc 2)))))
set_option maxRecDepth 100000 in
theorem ck_Night_depthNow : B_Night_depthNow.1.1 0 0 0 = some none := by decide +kernel
abbrev K_Night_fallen : bK := (RX5, cX5_fallen, 3, some .int, fun _ _ _ => True)
def L_Night_fallen_1c : EC K_Night_fallen := (cQ 2 (eLoc 2) (eFld (rFld (rLoc 0 93) 1 flX5_33) flX5_93))
def L_Night_fallen_1b : ES K_Night_fallen := (sIf (cQ 1 (eAI 10 (rFld (rLoc 0 93) 98 flX5_24) (eLoc 2)) (eInt (-3))) (sSet 1 (eOr (eLoc 1) (eShl (eInt 1) (eLoc 2)))) sNop)
def L_Night_fallen_1s : ES K_Night_fallen := (sInc 2 1)
def L_Night_fallen_1 : ES K_Night_fallen := sLp 32 L_Night_fallen_1c L_Night_fallen_1b L_Night_fallen_1s
def B_Night_fallen : ES K_Night_fallen := (sSeq (sSet 1 (eInt 0)) (sSeq (sSeq (sSet 2 (eInt 0)) L_Night_fallen_1) (sRet (eLoc 1))))
set_option maxRecDepth 100000 in
theorem ck_Night_fallen : B_Night_fallen.1.1 0 0 0 = some none := by decide +kernel
abbrev K_Seen_addRow : bK := (RX8, cX8_addRow, 7, some .int, fun _ _ _ => True)
def B_Seen_addRow : ES K_Seen_addRow := (sSeq (sSet 6 (eFld (rLoc 0 17) flX8_40)) (sSeq (sPutA 16 (rFld (rLoc 0 17) 18 flX8_9) (eLoc 6) (eLoc 1)) (sSeq (sPutA 16 (rFld (rLoc 0 17) 19 flX8_15) (eLoc 6) (eLoc 2)) (sSeq (sPutA 16 (rFld (rLoc 0 17) 20 flX8_18) (eLoc 6) (eLoc 3)) (sSeq (sPutA 16 (rFld (rLoc 0 17) 21 flX8_21) (eLoc 6) (eLoc 4)) (sSeq (sPutA 16 (rFld (rLoc 0 17) 22 flX8_24) (eLoc 6) (eLoc 5)) (sSeq (sPutAZ 16 (rFld (rLoc 0 17) 24 flX8_30) (eLoc 6) (eInt 0)) (sSeq (sIf (cQ 0 (eLoc 1) (eInt 3)) (sOpF 2 (rLoc 0 17) (eShl (eInt 1) (eLoc 6)) fpX8_44) sNop) (sSeq (sPutI (rLoc 0 17) (eAdd (eLoc 6) (eInt 1)) fpX8_40) (sRet (eLoc 6)))))))))))
set_option maxRecDepth 100000 in
theorem ck_Seen_addRow : B_Seen_addRow.1.1 0 0 0 = some none := by decide +kernel
abbrev K_Nights_forgetPossible : bK := (RX6, cX6_forgetPossible, 1, none, fun _ _ _ => True)
def B_Nights_forgetPossible : ES K_Nights_forgetPossible := (sSeq (sPutZ (rLoc 0 101) (eInt 0) fpX6_57) (sSeq (sPutZ (rLoc 0 101) (eInt 0) fpX6_61) sRetV))
set_option maxRecDepth 100000 in
theorem ck_Nights_forgetPossible : B_Nights_forgetPossible.1.1 0 0 0 = some none := by decide +kernel
abbrev K_Seen_setDoubted : bK := (RX8, cX8_setDoubted, 5, some .int, fun _ _ _ => True)
def L_Seen_setDoubted_1c : EC K_Seen_setDoubted := (cQ 2 (eLoc 4) (eInt 4))
def L_Seen_setDoubted_1b : ES K_Seen_setDoubted := (sIf (cQ 0 (eAI 4 (rFld (rLoc 0 17) 25 flX8_34) (eLoc 4)) (eLoc 1)) (sSeq (sPutAZ 4 (rFld (rLoc 0 17) 26 flX8_37) (eLoc 4) (eLoc 2)) (sInc 3 1)) sNop)
def L_Seen_setDoubted_1s : ES K_Seen_setDoubted := (sInc 4 1)
def L_Seen_setDoubted_1 : ES K_Seen_setDoubted := sLp 33 L_Seen_setDoubted_1c L_Seen_setDoubted_1b L_Seen_setDoubted_1s
def B_Seen_setDoubted : ES K_Seen_setDoubted := (sSeq (sSet 3 (eInt 0)) (sSeq (sSeq (sSet 4 (eInt 0)) L_Seen_setDoubted_1) (sRet (eLoc 3))))
set_option maxRecDepth 100000 in
theorem ck_Seen_setDoubted : B_Seen_setDoubted.1.1 0 0 0 = some none := by decide +kernel
abbrev K_Nights_allLet : bK := (RX6, cX6_allLet, 3, some .boolean, fun _ _ _ => True)
def B_Nights_allLet : ES K_Nights_allLet := (sSeq (sIf (cZ 1 (eAnd (eCall (xV 256 (rFld (rLoc 0 101) 17 flX6_42) (gI (eDiv (eLoc 1) (eInt 30)) (gI (eRem (eLoc 1) (eInt 30)) gNil)) cvX6_119_256) rt_256) (eLoc 2))) (sRet (eInt 0)) sNop) (sSeq (sIf (cZ 0 (eAnd (eLoc 2) (eXor (eFld (rFld (rLoc 0 101) 17 flX6_42) flX6_123) (eInt (-1))))) (sRet (eInt 1)) sNop) (sSeq (sCall (xV 257 (rLoc 0 101) (gI (eLoc 1) gNil) cvX6_126_257) rt_257) (sRet (eIte (cZ 0 (eAnd (eAI 90 (rFld (rLoc 0 101) 104 flX6_18) (eLoc 1)) (eLoc 2))) (eInt 1) (eInt 0))))))
set_option maxRecDepth 100000 in
theorem ck_Nights_allLet : B_Nights_allLet.1.1 0 0 0 = some none := by decide +kernel
abbrev K_Nights_weigh : bK := (RX6, cX6_weigh, 3, none, fun _ _ _ => True)
def L_Nights_weigh_1c : EC K_Nights_weigh := (cQ 2 (eLoc 2) (eInt 90))
def L_Nights_weigh_1b : ES K_Nights_weigh := (sPutAZ 90 (rFld (rLoc 0 101) 107 flX6_27) (eLoc 2) (eCall (xV 137 (rLoc 0 101) (gI (eLoc 2) (gI (eLoc 1) gNil)) cvX6_130_137) rt_137))
def L_Nights_weigh_1s : ES K_Nights_weigh := (sInc 2 1)
def L_Nights_weigh_1 : ES K_Nights_weigh := sLp 36 L_Nights_weigh_1c L_Nights_weigh_1b L_Nights_weigh_1s
def B_Nights_weigh : ES K_Nights_weigh := (sSeq (sIf (cZ 1 (eFld (rLoc 0 101) flX6_57)) sRetV sNop) (sSeq (sSet 1 (eCall (xV 142 (rFld (rLoc 0 101) 17 flX6_42) gNil cvX6_134_142) rt_142)) (sSeq (sSeq (sSet 2 (eInt 0)) L_Nights_weigh_1) (sSeq (sPutZ (rLoc 0 101) (eInt 1) fpX6_57) sRetV))))
set_option maxRecDepth 100000 in
theorem ck_Nights_weigh : B_Nights_weigh.1.1 0 0 0 = some none := by decide +kernel
abbrev K_Nights_countPossible : bK := (RX6, cX6_countPossible, 6, some .int, fun _ _ _ => True)
def L_Nights_countPossible_1c : EC K_Nights_countPossible := (cQ 2 (eLoc 5) (eLoc 4))
def L_Nights_countPossible_1b : ES K_Nights_countPossible := (sIf (cZ 1 (eAZ 90 (rFld (rLoc 0 101) 107 flX6_27) (eLoc 5))) (sInc 2 1) sNop)
def L_Nights_countPossible_1s : ES K_Nights_countPossible := (sInc 5 1)
def L_Nights_countPossible_1 : ES K_Nights_countPossible := sLp 53 L_Nights_countPossible_1c L_Nights_countPossible_1b L_Nights_countPossible_1s
def B_Nights_countPossible : ES K_Nights_countPossible := (sSeq (sSet 2 (eInt 0)) (sSeq (sSet 3 (eIte (cZ 2 (eLoc 1)) (eInt 0) (eMul (eLoc 1) (eInt 30)))) (sSeq (sSet 4 (eIte (cZ 2 (eLoc 1)) (eInt 90) (eAdd (eLoc 3) (eInt 30)))) (sSeq (sSeq (sSet 5 (eLoc 3)) L_Nights_countPossible_1) (sRet (eLoc 2))))))
set_option maxRecDepth 100000 in
theorem ck_Nights_countPossible : B_Nights_countPossible.1.1 0 0 0 = some none := by decide +kernel
abbrev K_Nights_lastStart : bK := (RX6, cX6_lastStart, 3, some .int, fun _ _ _ => True)
def L_Nights_lastStart_1c : EC K_Nights_lastStart := (cZ 3 (eLoc 2))
def L_Nights_lastStart_1b : ES K_Nights_lastStart := (sIf (cZ 1 (eAZ 90 (rFld (rLoc 0 101) 107 flX6_27) (eAdd (eMul (eLoc 1) (eInt 30)) (eLoc 2)))) (sRet (eLoc 2)) sNop)
def L_Nights_lastStart_1s : ES K_Nights_lastStart := (sInc 2 (-1))
def L_Nights_lastStart_1 : ES K_Nights_lastStart := sLp 23 L_Nights_lastStart_1c L_Nights_lastStart_1b L_Nights_lastStart_1s
def B_Nights_lastStart : ES K_Nights_lastStart := (sSeq (sSeq (sSet 2 (eInt 29)) L_Nights_lastStart_1) (sRet (eInt (-3))))
set_option maxRecDepth 100000 in
theorem ck_Nights_lastStart : B_Nights_lastStart.1.1 0 0 0 = some none := by decide +kernel
abbrev K_Nights_firstStart : bK := (RX6, cX6_firstStart, 3, some .int, fun _ _ _ => True)
def L_Nights_firstStart_1c : EC K_Nights_firstStart := (cQ 2 (eLoc 2) (eInt 30))
def L_Nights_firstStart_1b : ES K_Nights_firstStart := (sIf (cZ 1 (eAZ 90 (rFld (rLoc 0 101) 107 flX6_27) (eAdd (eMul (eLoc 1) (eInt 30)) (eLoc 2)))) (sRet (eLoc 2)) sNop)
def L_Nights_firstStart_1s : ES K_Nights_firstStart := (sInc 2 1)
def L_Nights_firstStart_1 : ES K_Nights_firstStart := sLp 24 L_Nights_firstStart_1c L_Nights_firstStart_1b L_Nights_firstStart_1s
def B_Nights_firstStart : ES K_Nights_firstStart := (sSeq (sSeq (sSet 2 (eInt 0)) L_Nights_firstStart_1) (sRet (eInt (-3))))
set_option maxRecDepth 100000 in
theorem ck_Nights_firstStart : B_Nights_firstStart.1.1 0 0 0 = some none := by decide +kernel
abbrev K_Seen_speaking : bK := (RX8, cX8_speaking, 3, some .int, fun _ _ _ => True)
def L_Seen_speaking_1c : EC K_Seen_speaking := (cQ 2 (eLoc 2) (eFld (rLoc 0 17) flX8_40))
def L_Seen_speaking_1b : ES K_Seen_speaking := (sIf (cAnd (cNot (cZ 1 (eAZ 16 (rFld (rLoc 0 17) 24 flX8_30) (eLoc 2)))) (cNot (cZ 1 (eCall (xV 258 (rLoc 0 17) (gI (eLoc 2) gNil) cvX8_47_258) rt_258)))) (sSet 1 (eOr (eLoc 1) (eShl (eInt 1) (eLoc 2)))) sNop)
def L_Seen_speaking_1s : ES K_Seen_speaking := (sInc 2 1)
def L_Seen_speaking_1 : ES K_Seen_speaking := sLp 35 L_Seen_speaking_1c L_Seen_speaking_1b L_Seen_speaking_1s
def B_Seen_speaking : ES K_Seen_speaking := (sSeq (sSet 1 (eInt 0)) (sSeq (sSeq (sSet 2 (eInt 0)) L_Seen_speaking_1) (sRet (eLoc 1))))
set_option maxRecDepth 100000 in
theorem ck_Seen_speaking : B_Seen_speaking.1.1 0 0 0 = some none := by decide +kernel
abbrev K_Nights_countLet : bK := (RX6, cX6_countLet, 4, some .int, fun _ _ _ => True)
def L_Nights_countLet_1c : EC K_Nights_countLet := (cQ 2 (eLoc 3) (eInt 90))
def L_Nights_countLet_1b : ES K_Nights_countLet := (sIf (cZ 1 (eCall (xV 137 (rLoc 0 101) (gI (eLoc 3) (gI (eLoc 1) gNil)) cvX6_130_137) rt_137)) (sInc 2 1) sNop)
def L_Nights_countLet_1s : ES K_Nights_countLet := (sInc 3 1)
def L_Nights_countLet_1 : ES K_Nights_countLet := sLp 22 L_Nights_countLet_1c L_Nights_countLet_1b L_Nights_countLet_1s
def B_Nights_countLet : ES K_Nights_countLet := (sSeq (sSet 2 (eInt 0)) (sSeq (sSeq (sSet 3 (eInt 0)) L_Nights_countLet_1) (sRet (eLoc 2))))
set_option maxRecDepth 100000 in
theorem ck_Nights_countLet : B_Nights_countLet.1.1 0 0 0 = some none := by decide +kernel
abbrev K_Nights_gather : bK := (RX6, cX6_gather, 3, none, fun _ _ _ => True)
def L_Nights_gather_1c : EC K_Nights_gather := (cQ 2 (eLoc 2) (eInt 90))
def L_Nights_gather_1b : ES K_Nights_gather := (sSeq (sPutAZ 90 (rFld (rLoc 0 101) 107 flX6_27) (eLoc 2) (eIte (cZ 1 (eFld (rLoc 0 101) flX6_57)) (eAZ 90 (rFld (rLoc 0 101) 107 flX6_27) (eLoc 2)) (eCall (xV 137 (rLoc 0 101) (gI (eLoc 2) (gI (eLoc 1) gNil)) cvX6_130_137) rt_137))) (sIf (cZ 1 (eAZ 90 (rFld (rLoc 0 101) 107 flX6_27) (eLoc 2))) (sSeq (sCall (xV 257 (rLoc 0 101) (gI (eLoc 2) gNil) cvX6_126_257) rt_257) (sSeq (sOpF 3 (rLoc 0 101) (eAI 90 (rFld (rLoc 0 101) 103 flX6_15) (eLoc 2)) fpX6_146) (sSeq (sOpF 2 (rLoc 0 101) (eAI 90 (rFld (rLoc 0 101) 103 flX6_15) (eLoc 2)) fpX6_143) (sCall (xV 260 (rLoc 0 101) (gI (eLoc 2) gNil) cvX6_149_260) rt_260)))) sNop))
def L_Nights_gather_1s : ES K_Nights_gather := (sInc 2 1)
def L_Nights_gather_1 : ES K_Nights_gather := sLp 119 L_Nights_gather_1c L_Nights_gather_1b L_Nights_gather_1s
def B_Nights_gather : ES K_Nights_gather := (sSeq (sIf (cZ 1 (eFld (rLoc 0 101) flX6_61)) sRetV sNop) (sSeq (sSet 1 (eCall (xV 142 (rFld (rLoc 0 101) 17 flX6_42) gNil cvX6_134_142) rt_142)) (sSeq (sCall (xS 259 (gR (rFld (rLoc 0 101) 108 flX6_31) (gI (eInt 0) gNil)) csX6_137) rt_259) (sSeq (sPutI (rLoc 0 101) (eInt 0) fpX6_143) (sSeq (sPutI (rLoc 0 101) (eInt (-1)) fpX6_146) (sSeq (sSeq (sSet 2 (eInt 0)) L_Nights_gather_1) (sSeq (sOpF 3 (rLoc 0 101) (eFld (rLoc 0 101) flX6_143) fpX6_146) (sSeq (sPutZ (rLoc 0 101) (eInt 1) fpX6_57) (sSeq (sPutZ (rLoc 0 101) (eInt 1) fpX6_61) sRetV)))))))))
set_option maxRecDepth 100000 in
theorem ck_Nights_gather : B_Nights_gather.1.1 0 0 0 = some none := by decide +kernel
abbrev K_Nights_fallsInEach : bK := (RX6, cX6_fallsInEach, 2, some .boolean, fun _ _ _ => True)
def B_Nights_fallsInEach : ES K_Nights_fallsInEach := (sRet (eIte (cQ 0 (eAnd (eShr (eFld (rLoc 0 101) flX6_146) (eLoc 1)) (eInt 1)) (eInt 1)) (eInt 1) (eInt 0)))
set_option maxRecDepth 100000 in
theorem ck_Nights_fallsInEach : B_Nights_fallsInEach.1.1 0 0 0 = some none := by decide +kernel
abbrev K_Nights_fallsInSome : bK := (RX6, cX6_fallsInSome, 2, some .boolean, fun _ _ _ => True)
def B_Nights_fallsInSome : ES K_Nights_fallsInSome := (sRet (eIte (cQ 0 (eAnd (eShr (eFld (rLoc 0 101) flX6_143) (eLoc 1)) (eInt 1)) (eInt 1)) (eInt 1) (eInt 0)))
set_option maxRecDepth 100000 in
theorem ck_Nights_fallsInSome : B_Nights_fallsInSome.1.1 0 0 0 = some none := by decide +kernel
abbrev K_Nights_toldInTime : bK := (RX6, cX6_toldInTime, 13, some .int, fun _ _ _ => True)
def L_Nights_toldInTime_2c : EC K_Nights_toldInTime := (cQ 2 (eLoc 12) (eFld (rFld (rLoc 0 101) 1 flX6_38) flX6_169))
def L_Nights_toldInTime_2b : ES K_Nights_toldInTime := (sSeq (sIf (cQ 1 (eAI 10 (rFld (rFld (rLoc 0 101) 1 flX6_38) 6 flX6_172) (eLoc 12)) (eLoc 10)) sCnt sNop) (sSeq (sSet 8 (eAdd (eLoc 8) (eLoc 7))) (sIf (cOr (cQ 0 (eLoc 11) (eInt (-3))) (cQ 5 (eAdd (eLoc 8) (eLoc 5)) (eLoc 11))) (sSet 9 (eOr (eLoc 9) (eShl (eInt 1) (eLoc 12)))) sNop)))
def L_Nights_toldInTime_2s : ES K_Nights_toldInTime := (sInc 12 1)
def L_Nights_toldInTime_2 : ES K_Nights_toldInTime := sLp 118 L_Nights_toldInTime_2c L_Nights_toldInTime_2b L_Nights_toldInTime_2s
def L_Nights_toldInTime_1c : EC K_Nights_toldInTime := (cQ 2 (eLoc 10) (eInt 12))
def L_Nights_toldInTime_1b : ES K_Nights_toldInTime := (sSeq (sSet 11 (eAI 1080 (rFld (rLoc 0 101) 105 flX6_21) (eAdd (eMul (eLoc 1) (eInt 12)) (eLoc 10)))) (sSeq (sSeq (sSet 12 (eInt 0)) L_Nights_toldInTime_2) (sSet 8 (eAdd (eLoc 8) (eLoc 6)))))
def L_Nights_toldInTime_1s : ES K_Nights_toldInTime := (sInc 10 1)
def L_Nights_toldInTime_1 : ES K_Nights_toldInTime := sLp 131 L_Nights_toldInTime_1c L_Nights_toldInTime_1b L_Nights_toldInTime_1s
def B_Nights_toldInTime : ES K_Nights_toldInTime := (sSeq (sCall (xV 257 (rLoc 0 101) (gI (eLoc 1) gNil) cvX6_126_257) rt_257) (sSeq (sSet 6 (eDiv (eLoc 4) (eInt 100))) (sSeq (sSet 7 (eRem (eDiv (eLoc 4) (eInt 10)) (eInt 10))) (sSeq (sSet 8 (eLoc 2)) (sSeq (sSet 9 (eInt 0)) (sSeq (sSeq (sSet 10 (eLoc 3)) L_Nights_toldInTime_1) (sRet (eLoc 9))))))))
set_option maxRecDepth 100000 in
theorem ck_Nights_toldInTime : B_Nights_toldInTime.1.1 0 0 0 = some none := by decide +kernel
abbrev K_Nights_toldForSure : bK := (RX6, cX6_toldForSure, 7, some .int, fun _ _ _ => True)
def L_Nights_toldForSure_1c : EC K_Nights_toldForSure := (cQ 2 (eLoc 6) (eInt 90))
def L_Nights_toldForSure_1b : ES K_Nights_toldForSure := (sIf (cZ 1 (eAZ 90 (rFld (rLoc 0 101) 107 flX6_27) (eLoc 6))) (sSet 5 (eAnd (eLoc 5) (eCall (xV 148 (rLoc 0 101) (gI (eLoc 6) (gI (eLoc 1) (gI (eLoc 2) (gI (eLoc 3) (gI (eLoc 4) gNil))))) cvX6_179_148) rt_148))) sNop)
def L_Nights_toldForSure_1s : ES K_Nights_toldForSure := (sInc 6 1)
def L_Nights_toldForSure_1 : ES K_Nights_toldForSure := sLp 51 L_Nights_toldForSure_1c L_Nights_toldForSure_1b L_Nights_toldForSure_1s
def B_Nights_toldForSure : ES K_Nights_toldForSure := (sSeq (sSet 5 (eIte (cZ 0 (eCall (xV 139 (rLoc 0 101) (gI (eInt (-1)) gNil) cvX6_175_139) rt_139)) (eInt 0) (eInt (-1)))) (sSeq (sSeq (sSet 6 (eInt 0)) L_Nights_toldForSure_1) (sRet (eLoc 5))))
set_option maxRecDepth 100000 in
theorem ck_Nights_toldForSure : B_Nights_toldForSure.1.1 0 0 0 = some none := by decide +kernel
abbrev K_Folk_namesThatStand : bK := (RX2, cX2_namesThatStand, 7, some .int, fun _ _ _ => True)
def L_Folk_namesThatStand_2c : EC K_Folk_namesThatStand := (cQ 2 (eLoc 5) (eFld (rLoc 0 37) flX2_57))
def L_Folk_namesThatStand_2b : ES K_Folk_namesThatStand := (sSeq (sIf (cQ 0 (eIte (cQ 0 (eAI 16 (rFld (rLoc 0 37) 43 flX2_28) (eLoc 5)) (eInt (-1))) (eInt 1) (eInt 0)) (eIte (cZ 0 (eLoc 4)) (eInt 1) (eInt 0))) sCnt sNop) (sSeq (sSet 6 (eCall (xV 261 (rLoc 0 37) (gI (eLoc 5) (gI (eLoc 2) gNil)) cvX2_60_261) rt_261)) (sIf (cZ 3 (eLoc 6)) (sSeq (sSet 2 (eOr (eLoc 2) (eShl (eInt 1) (eLoc 6)))) (sInc 3 1)) sNop)))
def L_Folk_namesThatStand_2s : ES K_Folk_namesThatStand := (sInc 5 1)
def L_Folk_namesThatStand_2 : ES K_Folk_namesThatStand := sLp 91 L_Folk_namesThatStand_2c L_Folk_namesThatStand_2b L_Folk_namesThatStand_2s
def L_Folk_namesThatStand_1c : EC K_Folk_namesThatStand := (cQ 2 (eLoc 4) (eInt 2))
def L_Folk_namesThatStand_1b : ES K_Folk_namesThatStand := (sSeq (sSet 5 (eInt 0)) L_Folk_namesThatStand_2)
def L_Folk_namesThatStand_1s : ES K_Folk_namesThatStand := (sInc 4 1)
def L_Folk_namesThatStand_1 : ES K_Folk_namesThatStand := sLp 97 L_Folk_namesThatStand_1c L_Folk_namesThatStand_1b L_Folk_namesThatStand_1s
def B_Folk_namesThatStand : ES K_Folk_namesThatStand := (sSeq (sSet 2 (eIte (cZ 2 (eLoc 1)) (eInt 0) (eShl (eInt 1) (eLoc 1)))) (sSeq (sSet 3 (eInt 0)) (sSeq (sSeq (sSet 4 (eInt 0)) L_Folk_namesThatStand_1) (sRet (eLoc 3)))))
set_option maxRecDepth 100000 in
theorem ck_Folk_namesThatStand : B_Folk_namesThatStand.1.1 0 0 0 = some none := by decide +kernel
abbrev K_Folk_namesNever : bK := (RX2, cX2_namesNever, 3, some .int, fun _ _ _ => True)
def L_Folk_namesNever_1c : EC K_Folk_namesNever := (cQ 2 (eLoc 2) (eFld (rLoc 0 37) flX2_57))
def L_Folk_namesNever_1b : ES K_Folk_namesNever := (sIf (cZ 2 (eCall (xV 261 (rLoc 0 37) (gI (eLoc 2) (gI (eInt 0) gNil)) cvX2_60_261) rt_261)) (sInc 1 1) sNop)
def L_Folk_namesNever_1s : ES K_Folk_namesNever := (sInc 2 1)
def L_Folk_namesNever_1 : ES K_Folk_namesNever := sLp 24 L_Folk_namesNever_1c L_Folk_namesNever_1b L_Folk_namesNever_1s
def B_Folk_namesNever : ES K_Folk_namesNever := (sSeq (sSet 1 (eInt 0)) (sSeq (sSeq (sSet 2 (eInt 0)) L_Folk_namesNever_1) (sRet (eLoc 1))))
set_option maxRecDepth 100000 in
theorem ck_Folk_namesNever : B_Folk_namesNever.1.1 0 0 0 = some none := by decide +kernel
abbrev K_Nights_restOf : bK := (RX6, cX6_restOf, 5, some .int, fun _ _ _ => True)
def B_Nights_restOf : ES K_Nights_restOf := (sSeq (sCall (xV 257 (rLoc 0 101) (gI (eLoc 2) gNil) cvX6_126_257) rt_257) (sSeq (sSet 3 (eAI 1080 (rFld (rLoc 0 101) 106 flX6_24) (eAdd (eMul (eLoc 2) (eInt 12)) (eLoc 1)))) (sSeq (sSet 4 (eIte (cQ 0 (eAnd (eShr (eAI 90 (rFld (rLoc 0 101) 103 flX6_15) (eLoc 2)) (eAI 12 (rFld (rFld (rLoc 0 101) 37 flX6_46) 44 flX6_157) (eLoc 1))) (eInt 1)) (eInt 1)) (eInt 1) (eInt 0))) (sRet (eIte (cZ 1 (eLoc 4)) (eLoc 3) (eAdd (eLoc 3) (eInt 100)))))))
set_option maxRecDepth 100000 in
theorem ck_Nights_restOf : B_Nights_restOf.1.1 0 0 0 = some none := by decide +kernel
abbrev K_Nights_canBe : bK := (RX6, cX6_canBe, 3, some .boolean, fun _ _ _ => True)
def B_Nights_canBe : ES K_Nights_canBe := (sRet (eIte (cAnd (cQ 0 (eAI 12 (rFld (rFld (rLoc 0 101) 37 flX6_46) 48 flX6_160) (eLoc 1)) (eAI 12 (rFld (rFld (rLoc 0 101) 37 flX6_46) 45 flX6_163) (eLoc 2))) (cQ 0 (eAnd (eShr (eAI 12 (rFld (rLoc 0 101) 108 flX6_31) (eLoc 2)) (eAI 12 (rFld (rFld (rLoc 0 101) 37 flX6_46) 49 flX6_166) (eLoc 1))) (eInt 1)) (eInt 1))) (eInt 1) (eInt 0)))
set_option maxRecDepth 100000 in
theorem ck_Nights_canBe : B_Nights_canBe.1.1 0 0 0 = some none := by decide +kernel
abbrev K_Reader_append : bK := (RX7, cX7_append, 5, none, fun _ _ _ => True)
def L_Reader_append_1c : EC K_Reader_append := (cQ 2 (eLoc 4) (eLoc 3))
def L_Reader_append_1b : ES K_Reader_append := (sSeq (sPutAB 240 (rFld (rLoc 0 109) 110 flX7_9) (eFld (rLoc 0 109) flX7_19) (eI2B (eL2I (lShr (lLoc 1) (eMul (eInt 8) (eLoc 4)))))) (sOpF 0 (rLoc 0 109) (eInt 1) fpX7_19))
def L_Reader_append_1s : ES K_Reader_append := (sInc 4 1)
def L_Reader_append_1 : ES K_Reader_append := sLp 37 L_Reader_append_1c L_Reader_append_1b L_Reader_append_1s
def B_Reader_append : ES K_Reader_append := (sSeq (sSeq (sSet 4 (eInt 0)) L_Reader_append_1) sRetV)
set_option maxRecDepth 100000 in
theorem ck_Reader_append : B_Reader_append.1.1 0 0 0 = some none := by decide +kernel
abbrev K_Reader_parse : bK := (RX7, cX7_parse, 2, some .int, fun _ _ _ => True)
def L_Reader_parse_1c : EC K_Reader_parse := (cAnd (cZ 1 (eFld (rLoc 0 109) flX7_40)) (cQ 2 (eLoc 1) (eInt 9)))
def L_Reader_parse_1b : ES K_Reader_parse := (sSeq (sIf (cOr (cNot (cZ 1 (eCall (xV 263 (rLoc 0 109) (gI (eLoc 1) gNil) cvX7_43_263) rt_263))) (cQ 1 (eFld (rLoc 0 109) flX7_40) (eInt 159))) (sRet (eFld (rLoc 0 109) flX7_47)) sNop) (sSeq (sCall (xV 262 (rLoc 0 109) gNil cvX7_37_262) rt_262) (sInc 1 1)))
def L_Reader_parse_1s : ES K_Reader_parse := sNop
def L_Reader_parse_1 : ES K_Reader_parse := sLp 27 L_Reader_parse_1c L_Reader_parse_1b L_Reader_parse_1s
def B_Reader_parse : ES K_Reader_parse := (sSeq (sPutI (rLoc 0 109) (eFld (rFld (rLoc 0 109) 63 flX7_15) flX7_23) fpX7_28) (sSeq (sPutI (rLoc 0 109) (eInt 0) fpX7_31) (sSeq (sPutI (rLoc 0 109) (eInt 0) fpX7_34) (sSeq (sCall (xV 262 (rLoc 0 109) gNil cvX7_37_262) rt_262) (sSeq (sSet 1 (eInt 0)) (sSeq L_Reader_parse_1 (sSeq (sPutA 9 (rFld (rFld (rLoc 0 109) 63 flX7_15) 65 flX7_50) (eFld (rLoc 0 109) flX7_28) (eLoc 1)) (sRet (eIte (cZ 0 (eFld (rLoc 0 109) flX7_40)) (eInt (-1)) (eFld (rLoc 0 109) flX7_47))))))))))
set_option maxRecDepth 100000 in
theorem ck_Reader_parse : B_Reader_parse.1.1 0 0 0 = some none := by decide +kernel
abbrev K_Claims_isClaimed : bK := (RX1, cX1_isClaimed, 4, some .boolean, fun _ _ _ => True)
def L_Claims_isClaimed_1c : EC K_Claims_isClaimed := (cQ 2 (eLoc 3) (eFld (rLoc 0 79) flX1_30))
def L_Claims_isClaimed_1b : ES K_Claims_isClaimed := (sIf (cAnd (cQ 0 (eAI 16 (rFld (rLoc 0 79) 80 flX1_9) (eLoc 3)) (eLoc 1)) (cQ 0 (eAI 16 (rFld (rLoc 0 79) 81 flX1_15) (eLoc 3)) (eLoc 2))) (sRet (eInt 1)) sNop)
def L_Claims_isClaimed_1s : ES K_Claims_isClaimed := (sInc 3 1)
def L_Claims_isClaimed_1 : ES K_Claims_isClaimed := sLp 32 L_Claims_isClaimed_1c L_Claims_isClaimed_1b L_Claims_isClaimed_1s
def B_Claims_isClaimed : ES K_Claims_isClaimed := (sSeq (sSeq (sSet 3 (eInt 0)) L_Claims_isClaimed_1) (sRet (eInt 0)))
set_option maxRecDepth 100000 in
theorem ck_Claims_isClaimed : B_Claims_isClaimed.1.1 0 0 0 = some none := by decide +kernel
abbrev K_Claims_addClaim : bK := (RX1, cX1_addClaim, 4, some .int, fun _ _ _ => True)
def B_Claims_addClaim : ES K_Claims_addClaim := (sSeq (sSet 3 (eFld (rLoc 0 79) flX1_30)) (sSeq (sPutA 16 (rFld (rLoc 0 79) 80 flX1_9) (eLoc 3) (eLoc 1)) (sSeq (sPutA 16 (rFld (rLoc 0 79) 81 flX1_15) (eLoc 3) (eLoc 2)) (sSeq (sPutA 16 (rFld (rLoc 0 79) 82 flX1_18) (eLoc 3) (eFld (rLoc 0 79) flX1_34)) (sSeq (sPutA 16 (rFld (rLoc 0 79) 83 flX1_21) (eLoc 3) (eInt (-3))) (sSeq (sPutI (rLoc 0 79) (eAdd (eLoc 3) (eInt 1)) fpX1_30) (sRet (eLoc 3))))))))
set_option maxRecDepth 100000 in
theorem ck_Claims_addClaim : B_Claims_addClaim.1.1 0 0 0 = some none := by decide +kernel
abbrev K_Claims_addProof : bK := (RX1, cX1_addProof, 3, none, fun _ _ _ => True)
def B_Claims_addProof : ES K_Claims_addProof := (sSeq (sPutA 24 (rFld (rLoc 0 79) 84 flX1_24) (eFld (rLoc 0 79) flX1_37) (eLoc 1)) (sSeq (sPutA 24 (rFld (rLoc 0 79) 85 flX1_27) (eFld (rLoc 0 79) flX1_37) (eLoc 2)) (sSeq (sOpF 0 (rLoc 0 79) (eInt 1) fpX1_37) sRetV)))
set_option maxRecDepth 100000 in
theorem ck_Claims_addProof : B_Claims_addProof.1.1 0 0 0 = some none := by decide +kernel
abbrev K_Claims_proofsThatCount : bK := (RX1, cX1_proofsThatCount, 4, some .int, fun _ _ _ => True)
def L_Claims_proofsThatCount_1c : EC K_Claims_proofsThatCount := (cQ 2 (eLoc 3) (eFld (rLoc 0 79) flX1_37))
def L_Claims_proofsThatCount_1b : ES K_Claims_proofsThatCount := (sIf (cQ 0 (eAI 24 (rFld (rLoc 0 79) 84 flX1_24) (eLoc 3)) (eLoc 1)) (sSet 2 (eOr (eLoc 2) (eShl (eInt 1) (eAdd (eAI 24 (rFld (rLoc 0 79) 85 flX1_27) (eLoc 3)) (eInt 1))))) sNop)
def L_Claims_proofsThatCount_1s : ES K_Claims_proofsThatCount := (sInc 3 1)
def L_Claims_proofsThatCount_1 : ES K_Claims_proofsThatCount := sLp 35 L_Claims_proofsThatCount_1c L_Claims_proofsThatCount_1b L_Claims_proofsThatCount_1s
def B_Claims_proofsThatCount : ES K_Claims_proofsThatCount := (sSeq (sSet 2 (eInt 0)) (sSeq (sSeq (sSet 3 (eInt 0)) L_Claims_proofsThatCount_1) (sRet (eCall (xS 129 (gI (eLoc 2) gNil) csX1_40) rt_129))))
set_option maxRecDepth 100000 in
theorem ck_Claims_proofsThatCount : B_Claims_proofsThatCount.1.1 0 0 0 = some none := by decide +kernel
abbrev K_Law_takeFacts : bK := (RX4, cX4_takeFacts, 2, none, fun _ _ _ => True)
def B_Law_takeFacts : ES K_Law_takeFacts := (sSeq (sCall (xV 264 (rLoc 0 111) (gI (eLoc 1) (gR (rFld (rLoc 0 111) 112 flX4_11) gNil)) cvX4_47_264) rt_264) sRetV)
set_option maxRecDepth 100000 in
theorem ck_Law_takeFacts : B_Law_takeFacts.1.1 0 0 0 = some none := by decide +kernel
abbrev K_Act_versionOn : bK := (RX0, cX0_versionOn, 3, some .int, fun _ _ _ => True)
def L_Act_versionOn_1c : EC K_Act_versionOn := (cZ 3 (eLoc 2))
def L_Act_versionOn_1b : ES K_Act_versionOn := (sIf (cQ 5 (eAI 9 (rFld (rLoc 0 63) 64 flX0_9) (eLoc 2)) (eLoc 1)) (sRet (eLoc 2)) sNop)
def L_Act_versionOn_1s : ES K_Act_versionOn := (sInc 2 (-1))
def L_Act_versionOn_1 : ES K_Act_versionOn := sLp 23 L_Act_versionOn_1c L_Act_versionOn_1b L_Act_versionOn_1s
def B_Act_versionOn : ES K_Act_versionOn := (sSeq (sSeq (sSet 2 (eSub (eFld (rLoc 0 63) flX0_33) (eInt 1))) L_Act_versionOn_1) (sRet (eInt (-1))))
set_option maxRecDepth 100000 in
theorem ck_Act_versionOn : B_Act_versionOn.1.1 0 0 0 = some none := by decide +kernel
abbrev K_Law_isBarred : bK := (RX4, cX4_isBarred, 5, some .boolean, fun _ _ _ => True)
def B_Law_isBarred : ES K_Law_isBarred := (sSeq (sSet 3 (eCall (xV 265 (rLoc 0 111) (gI (eLoc 1) (gI (eInt 4) gNil)) cvX4_104_265) rt_265)) (sSeq (sSet 4 (eCall (xV 265 (rLoc 0 111) (gI (eLoc 1) (gI (eInt 5) gNil)) cvX4_104_265) rt_265)) (sRet (eIte (cOr (cOr (cAnd (cQ 1 (eLoc 3) (eInt (-3))) (cQ 4 (eLoc 2) (eLoc 3))) (cAnd (cQ 1 (eLoc 4) (eInt (-3))) (cQ 2 (eAI 8 (rFld (rLoc 0 111) 112 flX4_11) (eInt 4)) (eLoc 4)))) (cQ 1 (eCall (xV 170 (rLoc 0 111) (gI (eLoc 1) (gI (eInt 3) gNil)) cvX4_108_170) rt_170) (eInt (-3)))) (eInt 1) (eInt 0)))))
set_option maxRecDepth 100000 in
theorem ck_Law_isBarred : B_Law_isBarred.1.1 0 0 0 = some none := by decide +kernel
abbrev K_Law_owed : bK := (RX4, cX4_owed, 4, some .int, fun _ _ _ => True)
def B_Law_owed : ES K_Law_owed := (sSeq (sSet 3 (eCall (xV 170 (rLoc 0 111) (gI (eLoc 1) (gI (eInt 1) gNil)) cvX4_108_170) rt_170)) (sSeq (sIf (cOr (cQ 0 (eLoc 3) (eInt (-3))) (cZ 1 (eCall (xV 166 (rLoc 0 111) (gI (eLoc 1) (gI (eLoc 2) gNil)) cvX4_111_166) rt_166))) (sRet (eInt 0)) sNop) (sRet (eDiv (eMul (eAI 8 (rFld (rLoc 0 111) 112 flX4_11) (eInt 0)) (eAI 81 (rFld (rFld (rLoc 0 111) 63 flX4_35) 67 flX4_114) (eAdd (eMul (eLoc 1) (eInt 9)) (eLoc 3)))) (eInt 100)))))
set_option maxRecDepth 100000 in
theorem ck_Law_owed : B_Law_owed.1.1 0 0 0 = some none := by decide +kernel
abbrev K_Law_rank : bK := (RX4, cX4_rank, 3, some .int, fun _ _ _ => True)
def B_Law_rank : ES K_Law_rank := (sSeq (sSet 2 (eCall (xV 170 (rLoc 0 111) (gI (eLoc 1) (gI (eInt 2) gNil)) cvX4_108_170) rt_170)) (sRet (eIte (cQ 0 (eLoc 2) (eInt (-3))) (eInt 9) (eAI 81 (rFld (rFld (rLoc 0 111) 63 flX4_35) 67 flX4_114) (eAdd (eMul (eLoc 1) (eInt 9)) (eLoc 2))))))
set_option maxRecDepth 100000 in
theorem ck_Law_rank : B_Law_rank.1.1 0 0 0 = some none := by decide +kernel
abbrev K_Law_isFound : bK := (RX4, cX4_isFound, 1, some .boolean, fun _ _ _ => True)
def B_Law_isFound : ES K_Law_isFound := (sRet (eIte (cQ 0 (eAI 8 (rFld (rLoc 0 111) 112 flX4_11) (eInt 7)) (eInt 1)) (eInt 1) (eInt 0)))
set_option maxRecDepth 100000 in
theorem ck_Law_isFound : B_Law_isFound.1.1 0 0 0 = some none := by decide +kernel
abbrev K_Law_firstLine : bK := (RX4, cX4_firstLine, 6, some .int, fun _ _ _ => True)
def L_Law_firstLine_1c : EC K_Law_firstLine := (cQ 2 (eLoc 4) (eLoc 3))
def L_Law_firstLine_1b : ES K_Law_firstLine := (sSeq (sSet 5 (eAdd (eMul (eLoc 1) (eInt 9)) (eLoc 4))) (sIf (cAnd (cQ 0 (eAI 81 (rFld (rFld (rLoc 0 111) 63 flX4_35) 66 flX4_122) (eLoc 5)) (eLoc 2)) (cZ 1 (eCall (xV 267 (rLoc 0 111) (gI (eLoc 1) (gI (eAI 81 (rFld (rFld (rLoc 0 111) 63 flX4_35) 68 flX4_125) (eLoc 5)) (gI (eAI 81 (rFld (rFld (rLoc 0 111) 63 flX4_35) 69 flX4_128) (eLoc 5)) gNil))) cvX4_131_267) rt_267))) (sRet (eLoc 4)) sNop))
def L_Law_firstLine_1s : ES K_Law_firstLine := (sInc 4 1)
def L_Law_firstLine_1 : ES K_Law_firstLine := sLp 72 L_Law_firstLine_1c L_Law_firstLine_1b L_Law_firstLine_1s
def B_Law_firstLine : ES K_Law_firstLine := (sSeq (sSet 3 (eCall (xV 266 (rFld (rLoc 0 111) 63 flX4_35) (gI (eLoc 1) gNil) cvX4_119_266) rt_266)) (sSeq (sSeq (sSet 4 (eInt 0)) L_Law_firstLine_1) (sRet (eInt (-3)))))
set_option maxRecDepth 100000 in
theorem ck_Law_firstLine : B_Law_firstLine.1.1 0 0 0 = some none := by decide +kernel
abbrev K_Law_housesOver : bK := (RX4, cX4_housesOver, 5, some .int, fun _ _ _ => True)
def L_Law_housesOver_2c : EC K_Law_housesOver := (cQ 2 (eLoc 4) (eFld (rFld (rLoc 0 111) 37 flX4_31) flX4_176))
def L_Law_housesOver_2b : ES K_Law_housesOver := (sIf (cAnd (cQ 0 (eAI 12 (rFld (rFld (rLoc 0 111) 37 flX4_31) 44 flX4_59) (eLoc 4)) (eLoc 2)) (cZ 4 (eCall (xV 268 (rLoc 0 111) (gI (eLoc 4) gNil) cvX4_179_268) rt_268))) (sSet 3 (eAdd (eLoc 3) (eAI 12 (rFld (rFld (rLoc 0 111) 37 flX4_31) 47 flX4_64) (eLoc 4)))) sNop)
def L_Law_housesOver_2s : ES K_Law_housesOver := (sInc 4 1)
def L_Law_housesOver_2 : ES K_Law_housesOver := sLp 68 L_Law_housesOver_2c L_Law_housesOver_2b L_Law_housesOver_2s
def L_Law_housesOver_1c : EC K_Law_housesOver := (cQ 2 (eLoc 2) (eFld (rFld (rLoc 0 111) 1 flX4_27) flX4_173))
def L_Law_housesOver_1b : ES K_Law_housesOver := (sSeq (sSet 3 (eInt 0)) (sSeq (sSeq (sSet 4 (eInt 0)) L_Law_housesOver_2) (sIf (cQ 4 (eLoc 3) (eAI 10 (rFld (rFld (rLoc 0 111) 1 flX4_27) 8 flX4_182) (eLoc 2))) (sSet 1 (eOr (eLoc 1) (eShl (eInt 1) (eLoc 2)))) sNop)))
def L_Law_housesOver_1s : ES K_Law_housesOver := (sInc 2 1)
def L_Law_housesOver_1 : ES K_Law_housesOver := sLp 93 L_Law_housesOver_1c L_Law_housesOver_1b L_Law_housesOver_1s
def B_Law_housesOver : ES K_Law_housesOver := (sSeq (sSet 1 (eInt 0)) (sSeq (sSeq (sSet 2 (eInt 0)) L_Law_housesOver_1) (sRet (eLoc 1))))
set_option maxRecDepth 100000 in
theorem ck_Law_housesOver : B_Law_housesOver.1.1 0 0 0 = some none := by decide +kernel
abbrev K_Law_thingsTwice : bK := (RX4, cX4_thingsTwice, 3, some .int, fun _ _ _ => True)
def L_Law_thingsTwice_1c : EC K_Law_thingsTwice := (cQ 2 (eLoc 2) (eFld (rFld (rLoc 0 111) 37 flX4_31) flX4_176))
def L_Law_thingsTwice_1b : ES K_Law_thingsTwice := (sIf (cQ 4 (eCall (xV 268 (rLoc 0 111) (gI (eLoc 2) gNil) cvX4_179_268) rt_268) (eInt 1)) (sSet 1 (eOr (eLoc 1) (eShl (eInt 1) (eLoc 2)))) sNop)
def L_Law_thingsTwice_1s : ES K_Law_thingsTwice := (sInc 2 1)
def L_Law_thingsTwice_1 : ES K_Law_thingsTwice := sLp 30 L_Law_thingsTwice_1c L_Law_thingsTwice_1b L_Law_thingsTwice_1s
def B_Law_thingsTwice : ES K_Law_thingsTwice := (sSeq (sSet 1 (eInt 0)) (sSeq (sSeq (sSet 2 (eInt 0)) L_Law_thingsTwice_1) (sRet (eLoc 1))))
set_option maxRecDepth 100000 in
theorem ck_Law_thingsTwice : B_Law_thingsTwice.1.1 0 0 0 = some none := by decide +kernel
abbrev K_Law_payByRanks : bK := (RX4, cX4_payByRanks, 5, some .int, fun _ _ _ => True)
def L_Law_payByRanks_1c : EC K_Law_payByRanks := (cQ 2 (eLoc 2) (eFld (rFld (rLoc 0 111) 79 flX4_39) flX4_147))
def L_Law_payByRanks_1b : ES K_Law_payByRanks := (sSeq (sCall (xV 164 (rLoc 0 111) (gI (eLoc 2) gNil) cvX4_150_164) rt_164) (sSeq (sPutA 16 (rFld (rLoc 0 111) 114 flX4_18) (eLoc 2) (eCall (xV 168 (rLoc 0 111) (gI (eLoc 1) gNil) cvX4_154_168) rt_168)) (sPutA 16 (rFld (rLoc 0 111) 115 flX4_21) (eLoc 2) (eCall (xV 167 (rLoc 0 111) (gI (eLoc 1) (gI (eAI 16 (rFld (rFld (rLoc 0 111) 79 flX4_39) 82 flX4_157) (eLoc 2)) gNil)) cvX4_160_167) rt_167))))
def L_Law_payByRanks_1s : ES K_Law_payByRanks := (sInc 2 1)
def L_Law_payByRanks_1 : ES K_Law_payByRanks := sLp 64 L_Law_payByRanks_1c L_Law_payByRanks_1b L_Law_payByRanks_1s
def L_Law_payByRanks_3c : EC K_Law_payByRanks := (cQ 2 (eLoc 4) (eFld (rFld (rLoc 0 111) 79 flX4_39) flX4_147))
def L_Law_payByRanks_3b : ES K_Law_payByRanks := (sIf (cAnd (cAnd (cAnd (cQ 0 (eAI 16 (rFld (rLoc 0 111) 114 flX4_18) (eLoc 4)) (eLoc 3)) (cQ 0 (eAI 16 (rFld (rFld (rLoc 0 111) 79 flX4_39) 83 flX4_163) (eLoc 4)) (eInt (-3)))) (cZ 4 (eAI 16 (rFld (rLoc 0 111) 115 flX4_21) (eLoc 4)))) (cQ 3 (eFld (rFld (rLoc 0 111) 79 flX4_39) flX4_166) (eAI 16 (rFld (rLoc 0 111) 115 flX4_21) (eLoc 4)))) (sSeq (sCall (xV 174 (rFld (rLoc 0 111) 79 flX4_39) (gI (eLoc 4) (gI (eAI 16 (rFld (rLoc 0 111) 115 flX4_21) (eLoc 4)) gNil)) cvX4_169_174) rt_174) (sInc 2 1)) sNop)
def L_Law_payByRanks_3s : ES K_Law_payByRanks := (sInc 4 1)
def L_Law_payByRanks_3 : ES K_Law_payByRanks := sLp 167 L_Law_payByRanks_3c L_Law_payByRanks_3b L_Law_payByRanks_3s
def L_Law_payByRanks_2c : EC K_Law_payByRanks := (cQ 5 (eLoc 3) (eInt 9))
def L_Law_payByRanks_2b : ES K_Law_payByRanks := (sSeq (sSet 4 (eInt 0)) L_Law_payByRanks_3)
def L_Law_payByRanks_2s : ES K_Law_payByRanks := (sInc 3 1)
def L_Law_payByRanks_2 : ES K_Law_payByRanks := sLp 173 L_Law_payByRanks_2c L_Law_payByRanks_2b L_Law_payByRanks_2s
def B_Law_payByRanks : ES K_Law_payByRanks := (sSeq (sSet 1 (eCall (xV 165 (rFld (rLoc 0 111) 63 flX4_35) (gI (eFld (rFld (rLoc 0 111) 79 flX4_39) flX4_141) gNil) cvX4_144_165) rt_165)) (sSeq (sSeq (sSet 2 (eInt 0)) L_Law_payByRanks_1) (sSeq (sSet 2 (eInt 0)) (sSeq (sSeq (sSet 3 (eInt 0)) L_Law_payByRanks_2) (sRet (eLoc 2))))))
set_option maxRecDepth 100000 in
theorem ck_Law_payByRanks : B_Law_payByRanks.1.1 0 0 0 = some none := by decide +kernel
abbrev K_Claims_payClaim : bK := (RX1, cX1_payClaim, 3, none, fun _ _ _ => True)
def B_Claims_payClaim : ES K_Claims_payClaim := (sSeq (sPutA 16 (rFld (rLoc 0 79) 83 flX1_21) (eLoc 1) (eLoc 2)) (sSeq (sOpF 1 (rLoc 0 79) (eLoc 2) fpX1_46) sRetV))
set_option maxRecDepth 100000 in
theorem ck_Claims_payClaim : B_Claims_payClaim.1.1 0 0 0 = some none := by decide +kernel
abbrev K_Law_findLikest : bK := (RX4, cX4_findLikest, 5, none, fun _ _ _ => True)
def L_Law_findLikest_2c : EC K_Law_findLikest := (cQ 2 (eLoc 3) (eFld (rFld (rLoc 0 111) 79 flX4_39) flX4_147))
def L_Law_findLikest_2b : ES K_Law_findLikest := (sSeq (sIf (cNot (cZ 1 (eCall (xV 269 (rLoc 0 111) (gI (eLoc 2) (gI (eLoc 3) gNil)) cvX4_191_269) rt_269))) sCnt sNop) (sSeq (sSet 4 (eCall (xV 270 (rLoc 0 111) (gI (eLoc 3) gNil) cvX4_194_270) rt_270)) (sIf (cQ 2 (eLoc 4) (eLoc 1)) (sSeq (sSet 1 (eLoc 4)) (sSeq (sPutA 3 (rFld (rLoc 0 111) 116 flX4_24) (eInt 0) (eLoc 2)) (sSeq (sPutA 3 (rFld (rLoc 0 111) 116 flX4_24) (eInt 1) (eLoc 3)) (sPutA 3 (rFld (rLoc 0 111) 116 flX4_24) (eInt 2) (eLoc 4))))) sNop)))
def L_Law_findLikest_2s : ES K_Law_findLikest := (sInc 3 1)
def L_Law_findLikest_2 : ES K_Law_findLikest := sLp 95 L_Law_findLikest_2c L_Law_findLikest_2b L_Law_findLikest_2s
def L_Law_findLikest_1c : EC K_Law_findLikest := (cQ 2 (eLoc 2) (eFld (rFld (rLoc 0 111) 79 flX4_39) flX4_147))
def L_Law_findLikest_1b : ES K_Law_findLikest := (sSeq (sCall (xV 164 (rLoc 0 111) (gI (eLoc 2) gNil) cvX4_150_164) rt_164) (sSeq (sSet 3 (eAdd (eLoc 2) (eInt 1))) L_Law_findLikest_2))
def L_Law_findLikest_1s : ES K_Law_findLikest := (sInc 2 1)
def L_Law_findLikest_1 : ES K_Law_findLikest := sLp 101 L_Law_findLikest_1c L_Law_findLikest_1b L_Law_findLikest_1s
def B_Law_findLikest : ES K_Law_findLikest := (sSeq (sCall (xS 259 (gR (rFld (rLoc 0 111) 116 flX4_24) (gI (eInt (-3)) gNil)) csX4_185) rt_259) (sSeq (sSet 1 (eInt 8)) (sSeq (sSeq (sSet 2 (eInt 0)) L_Law_findLikest_1) sRetV)))
set_option maxRecDepth 100000 in
theorem ck_Law_findLikest : B_Law_findLikest.1.1 0 0 0 = some none := by decide +kernel
abbrev K_Tour_plan : bK := (RX9, cX9_plan, 5, some .int, fun _ _ _ => True)
def L_Tour_plan_2c : EC K_Tour_plan := (cQ 2 (eLoc 4) (eFld (rLoc 0 117) flX9_64))
def L_Tour_plan_2b : ES K_Tour_plan := (sPutA 896 (rFld (rLoc 0 117) 123 flX9_27) (eAdd (eMul (eLoc 3) (eInt 7)) (eLoc 4)) (eCall (xV 272 (rLoc 0 117) (gI (eLoc 3) (gI (eAI 7 (rFld (rLoc 0 117) 121 flX9_21) (eLoc 4)) (gI (eInt 1) gNil))) cvX9_67_272) rt_272))
def L_Tour_plan_2s : ES K_Tour_plan := (sInc 4 1)
def L_Tour_plan_2 : ES K_Tour_plan := sLp 76 L_Tour_plan_2c L_Tour_plan_2b L_Tour_plan_2s
def L_Tour_plan_1c : EC K_Tour_plan := (cQ 3 (eLoc 3) (eInt 1))
def L_Tour_plan_1b : ES K_Tour_plan := (sSeq (sSet 4 (eInt 0)) L_Tour_plan_2)
def L_Tour_plan_1s : ES K_Tour_plan := (sInc 3 (-1))
def L_Tour_plan_1 : ES K_Tour_plan := sLp 82 L_Tour_plan_1c L_Tour_plan_1b L_Tour_plan_1s
def B_Tour_plan : ES K_Tour_plan := (sSeq (sPutI (rLoc 0 117) (eLoc 1) fpX9_46) (sSeq (sPutI (rLoc 0 117) (eLoc 2) fpX9_50) (sSeq (sPutI (rLoc 0 117) (eFld (rFld (rLoc 0 117) 79 flX9_38) flX9_53) fpX9_58) (sSeq (sCall (xV 271 (rLoc 0 117) gNil cvX9_61_271) rt_271) (sSeq (sSeq (sSet 3 (eSub (eShl (eInt 1) (eFld (rLoc 0 117) flX9_64)) (eInt 1))) L_Tour_plan_1) (sSeq (sCall (xV 273 (rLoc 0 117) gNil cvX9_71_273) rt_273) (sRet (eCall (xV 272 (rLoc 0 117) (gI (eInt 0) (gI (eLoc 2) (gI (eInt 0) gNil))) cvX9_67_272) rt_272))))))))
set_option maxRecDepth 100000 in
theorem ck_Tour_plan : B_Tour_plan.1.1 0 0 0 = some none := by decide +kernel
abbrev K_Tour_firstWrongRow : bK := (RX9, cX9_firstWrongRow, 7, some .int, fun _ _ _ => True)
def L_Tour_firstWrongRow_1c : EC K_Tour_firstWrongRow := (cQ 2 (eLoc 4) (eFld (rLoc 0 117) flX9_116))
def L_Tour_firstWrongRow_1b : ES K_Tour_firstWrongRow := (sSeq (sSet 5 (eAI 7 (rFld (rLoc 0 117) 118 flX9_9) (eLoc 4))) (sSeq (sIf (cOr (cOr (cNot (cZ 1 (eCall (xN 117 (gI (eLoc 5) (gI (eInt 0) (gI (eSub (eFld (rFld (rLoc 0 117) 79 flX9_38) flX9_74) (eInt 1)) gNil))) cnX9_119) rt_117))) (cZ 0 (eAnd (eShr (eFld (rLoc 0 117) flX9_46) (eLoc 5)) (eInt 1)))) (cQ 0 (eAnd (eShr (eLoc 1) (eLoc 5)) (eInt 1)) (eInt 1))) (sRet (eLoc 4)) sNop) (sSeq (sSet 6 (eAI 10 (rFld (rFld (rLoc 0 117) 1 flX9_30) 6 flX9_85) (eAI 12 (rFld (rFld (rLoc 0 117) 37 flX9_34) 44 flX9_77) (eAI 16 (rFld (rFld (rLoc 0 117) 79 flX9_38) 81 flX9_82) (eLoc 5))))) (sSeq (sSet 3 (eAdd (eLoc 3) (eAdd (eAbs (eSub (eLoc 6) (eLoc 2)) cmX9_100) (eIte (cZ 0 (eLoc 4)) (eInt 0) (eInt 1))))) (sSeq (sIf (cQ 1 (eAI 7 (rFld (rLoc 0 117) 119 flX9_15) (eLoc 4)) (eLoc 3)) (sRet (eLoc 4)) sNop) (sSeq (sSet 2 (eLoc 6)) (sSet 1 (eOr (eLoc 1) (eShl (eInt 1) (eLoc 5))))))))))
def L_Tour_firstWrongRow_1s : ES K_Tour_firstWrongRow := (sInc 4 1)
def L_Tour_firstWrongRow_1 : ES K_Tour_firstWrongRow := sLp 149 L_Tour_firstWrongRow_1c L_Tour_firstWrongRow_1b L_Tour_firstWrongRow_1s
def B_Tour_firstWrongRow : ES K_Tour_firstWrongRow := (sSeq (sSet 1 (eInt 0)) (sSeq (sSet 2 (eFld (rLoc 0 117) flX9_50)) (sSeq (sSet 3 (eFld (rLoc 0 117) flX9_58)) (sSeq (sSeq (sSet 4 (eInt 0)) L_Tour_firstWrongRow_1) (sRet (eIte (cQ 0 (eLoc 1) (eFld (rLoc 0 117) flX9_46)) (eInt (-1)) (eFld (rLoc 0 117) flX9_116)))))))
set_option maxRecDepth 100000 in
theorem ck_Tour_firstWrongRow : B_Tour_firstWrongRow.1.1 0 0 0 = some none := by decide +kernel
abbrev K_Host_makeSheet : bK := (RX3, cX3_makeSheet, 5, none, fun _ _ _ => True)
def L_Host_makeSheet_1c : EC K_Host_makeSheet := (cQ 2 (eLoc 4) (eInt 40))
def L_Host_makeSheet_1b : ES K_Host_makeSheet := (sPutA 160 (rFld (rLoc 0 124) 127 flX3_18) (eAdd (eMul (eLoc 1) (eInt 40)) (eLoc 4)) (eInt 0))
def L_Host_makeSheet_1s : ES K_Host_makeSheet := (sInc 4 1)
def L_Host_makeSheet_1 : ES K_Host_makeSheet := sLp 37 L_Host_makeSheet_1c L_Host_makeSheet_1b L_Host_makeSheet_1s
def B_Host_makeSheet : ES K_Host_makeSheet := (sSeq (sPutA 4 (rFld (rLoc 0 124) 125 flX3_9) (eLoc 1) (eLoc 2)) (sSeq (sPutA 4 (rFld (rLoc 0 124) 126 flX3_15) (eLoc 1) (eLoc 3)) (sSeq (sSeq (sSet 4 (eInt 0)) L_Host_makeSheet_1) sRetV)))
set_option maxRecDepth 100000 in
theorem ck_Host_makeSheet : B_Host_makeSheet.1.1 0 0 0 = some none := by decide +kernel
abbrev K_Host_putOnShelf : bK := (RX3, cX3_putOnShelf, 4, some .int, fun _ _ _ => True)
def B_Host_putOnShelf : ES K_Host_putOnShelf := (sSeq (sPutA 4 (rFld (rLoc 0 124) 128 flX3_21) (eLoc 1) (eLoc 2)) (sSeq (sPutA 4 (rFld (rLoc 0 124) 129 flX3_24) (eLoc 1) (eLoc 3)) (sRet (eInt 1))))
set_option maxRecDepth 100000 in
theorem ck_Host_putOnShelf : B_Host_putOnShelf.1.1 0 0 0 = some none := by decide +kernel
abbrev K_Host_putSheetOnShelf : bK := (RX3, cX3_putSheetOnShelf, 4, some .int, fun _ _ _ => True)
def B_Host_putSheetOnShelf : ES K_Host_putSheetOnShelf := (sSeq (sPutA 4 (rFld (rLoc 0 124) 130 flX3_27) (eLoc 1) (eAI 4 (rFld (rLoc 0 124) 126 flX3_15) (eLoc 2))) (sSeq (sSet 3 (eIte (cZ 3 (eAI 4 (rFld (rLoc 0 124) 125 flX3_9) (eLoc 2))) (eInt 1) (eInt 0))) (sRet (eCall (xV 183 (rLoc 0 124) (gI (eLoc 1) (gI (eIte (cZ 1 (eLoc 3)) (eInt 3) (eInt 0)) (gI (eAI 4 (rFld (rLoc 0 124) 125 flX3_9) (eLoc 2)) gNil))) cvX3_59_183) rt_183))))
set_option maxRecDepth 100000 in
theorem ck_Host_putSheetOnShelf : B_Host_putSheetOnShelf.1.1 0 0 0 = some none := by decide +kernel
abbrev K_Host_takenForSort : bK := (RX3, cX3_takenForSort, 3, some .int, fun _ _ _ => True)
def B_Host_takenForSort : ES K_Host_takenForSort := (sSeq (sIf (cQ 0 (eAI 4 (rFld (rLoc 0 124) 128 flX3_21) (eLoc 1)) (eInt 3)) (sRet (eIte (cQ 0 (eAI 4 (rFld (rLoc 0 124) 129 flX3_24) (eLoc 1)) (eLoc 2)) (eAI 4 (rFld (rLoc 0 124) 130 flX3_27) (eLoc 1)) (eInt (-13)))) sNop) (sRet (eIte (cZ 2 (eCall (xV 274 (rLoc 0 124) (gI (eLoc 1) gNil) cvX3_63_274) rt_274)) (eInt (-11)) (eInt (-13)))))
set_option maxRecDepth 100000 in
theorem ck_Host_takenForSort : B_Host_takenForSort.1.1 0 0 0 = some none := by decide +kernel
abbrev K_Host_takenForKind : bK := (RX3, cX3_takenForKind, 4, some .int, fun _ _ _ => True)
def B_Host_takenForKind : ES K_Host_takenForKind := (sSeq (sIf (cQ 0 (eAI 4 (rFld (rLoc 0 124) 128 flX3_21) (eLoc 1)) (eInt 3)) (sRet (eInt (-13))) sNop) (sSeq (sSet 3 (eCall (xV 274 (rLoc 0 124) (gI (eLoc 1) gNil) cvX3_63_274) rt_274)) (sSeq (sIf (cZ 2 (eLoc 3)) (sRet (eInt (-11))) sNop) (sRet (eIte (cZ 1 (eCall (xS 275 (gI (eLoc 3) (gI (eLoc 2) gNil)) csX3_67) rt_275)) (eAI 4 (rFld (rLoc 0 124) 129 flX3_24) (eLoc 1)) (eInt (-13)))))))
set_option maxRecDepth 100000 in
theorem ck_Host_takenForKind : B_Host_takenForKind.1.1 0 0 0 = some none := by decide +kernel
abbrev K_Host_dealWith : bK := (RX3, cX3_dealWith, 5, some .int, fun _ _ _ => True)
def B_Host_dealWith : ES K_Host_dealWith := (sSeq (sPutI (rLoc 0 124) (eCall (xV 274 (rLoc 0 124) (gI (eLoc 1) gNil) cvX3_63_274) rt_274) fpX3_95) (sSeq (sIf (cZ 2 (eFld (rLoc 0 124) flX3_95)) (sRet (eInt 0)) sNop) (sSeq (sPutI (rLoc 0 124) (eAI 4 (rFld (rLoc 0 124) 129 flX3_24) (eLoc 1)) fpX3_97) (sSeq (sIf (cQ 0 (eAI 4 (rFld (rLoc 0 124) 128 flX3_21) (eLoc 1)) (eInt 1)) (sSeq (sPutI (rLoc 0 124) (eAI 16 (rFld (rFld (rLoc 0 124) 17 flX3_37) 19 flX3_100) (eFld (rLoc 0 124) flX3_97)) fpX3_103) (sPutI (rLoc 0 124) (eAI 16 (rFld (rFld (rLoc 0 124) 17 flX3_37) 20 flX3_106) (eFld (rLoc 0 124) flX3_97)) fpX3_109)) (sSeq (sSet 4 (eAI 16 (rFld (rFld (rLoc 0 124) 79 flX3_45) 81 flX3_112) (eFld (rLoc 0 124) flX3_97))) (sSeq (sPutI (rLoc 0 124) (eAI 10 (rFld (rFld (rLoc 0 124) 1 flX3_33) 6 flX3_115) (eAI 12 (rFld (rFld (rLoc 0 124) 37 flX3_41) 44 flX3_120) (eLoc 4))) fpX3_103) (sPutI (rLoc 0 124) (eAI 12 (rFld (rFld (rLoc 0 124) 37 flX3_41) 47 flX3_125) (eLoc 4)) fpX3_109)))) (sSeq (sPutZ (rLoc 0 124) (eInt 0) fpX3_128) (sSeq (sSet 4 (eCall (xV 276 (rLoc 0 124) (gI (eFld (rLoc 0 124) flX3_95) (gI (eLoc 2) (gI (eLoc 3) (gI (eInt 0) gNil)))) cvX3_132_276) rt_276)) (sRet (eIte (cZ 1 (eFld (rLoc 0 124) flX3_128)) (eInt (-15)) (eLoc 4)))))))))
set_option maxRecDepth 100000 in
theorem ck_Host_dealWith : B_Host_dealWith.1.1 0 0 0 = some none := by decide +kernel
abbrev K_Seen_countTorn : bK := (RX8, cX8_countTorn, 3, some .int, fun _ _ _ => True)
def L_Seen_countTorn_1c : EC K_Seen_countTorn := (cQ 2 (eLoc 2) (eFld (rLoc 0 17) flX8_40))
def L_Seen_countTorn_1b : ES K_Seen_countTorn := (sIf (cZ 1 (eAZ 16 (rFld (rLoc 0 17) 24 flX8_30) (eLoc 2))) (sInc 1 1) sNop)
def L_Seen_countTorn_1s : ES K_Seen_countTorn := (sInc 2 1)
def L_Seen_countTorn_1 : ES K_Seen_countTorn := sLp 24 L_Seen_countTorn_1c L_Seen_countTorn_1b L_Seen_countTorn_1s
def B_Seen_countTorn : ES K_Seen_countTorn := (sSeq (sSet 1 (eInt 0)) (sSeq (sSeq (sSet 2 (eInt 0)) L_Seen_countTorn_1) (sRet (eLoc 1))))
set_option maxRecDepth 100000 in
theorem ck_Seen_countTorn : B_Seen_countTorn.1.1 0 0 0 = some none := by decide +kernel
abbrev K_Claims_countPaid : bK := (RX1, cX1_countPaid, 3, some .int, fun _ _ _ => True)
def L_Claims_countPaid_1c : EC K_Claims_countPaid := (cQ 2 (eLoc 2) (eFld (rLoc 0 79) flX1_30))
def L_Claims_countPaid_1b : ES K_Claims_countPaid := (sIf (cQ 1 (eAI 16 (rFld (rLoc 0 79) 83 flX1_21) (eLoc 2)) (eInt (-3))) (sInc 1 1) sNop)
def L_Claims_countPaid_1s : ES K_Claims_countPaid := (sInc 2 1)
def L_Claims_countPaid_1 : ES K_Claims_countPaid := sLp 26 L_Claims_countPaid_1c L_Claims_countPaid_1b L_Claims_countPaid_1s
def B_Claims_countPaid : ES K_Claims_countPaid := (sSeq (sSet 1 (eInt 0)) (sSeq (sSeq (sSet 2 (eInt 0)) L_Claims_countPaid_1) (sRet (eLoc 1))))
set_option maxRecDepth 100000 in
theorem ck_Claims_countPaid : B_Claims_countPaid.1.1 0 0 0 = some none := by decide +kernel
abbrev K_Valley_copyFrom : bK := (RX10, cX10_copyFrom, 2, none, fun _ _ _ => True)
def B_Valley_copyFrom : ES K_Valley_copyFrom := (sSeq (sCopy 1 12 12 (rFld (rLoc 1 1) 2 flX10_9) (eInt 0) (rFld (rLoc 0 9) 10 flX10_9) (eInt 0) (eInt 12) cyX10_39) (sSeq (sCopy 1 12 12 (rFld (rLoc 1 1) 3 flX10_15) (eInt 0) (rFld (rLoc 0 9) 11 flX10_15) (eInt 0) (eInt 12) cyX10_39) (sSeq (sCopy 1 24 24 (rFld (rLoc 1 1) 4 flX10_18) (eInt 0) (rFld (rLoc 0 9) 12 flX10_18) (eInt 0) (eInt 24) cyX10_39) (sSeq (sCopy 1 3 3 (rFld (rLoc 1 1) 5 flX10_21) (eInt 0) (rFld (rLoc 0 9) 13 flX10_21) (eInt 0) (eInt 3) cyX10_39) (sSeq (sCopy 1 10 10 (rFld (rLoc 1 1) 6 flX10_24) (eInt 0) (rFld (rLoc 0 9) 14 flX10_24) (eInt 0) (eInt 10) cyX10_39) (sSeq (sCopy 1 10 10 (rFld (rLoc 1 1) 7 flX10_27) (eInt 0) (rFld (rLoc 0 9) 15 flX10_27) (eInt 0) (eInt 10) cyX10_39) (sSeq (sCopy 1 10 10 (rFld (rLoc 1 1) 8 flX10_30) (eInt 0) (rFld (rLoc 0 9) 16 flX10_30) (eInt 0) (eInt 10) cyX10_39) (sSeq (sPutI (rLoc 0 9) (eFld (rLoc 1 1) flX10_45) fpX10_45) (sSeq (sPutI (rLoc 0 9) (eFld (rLoc 1 1) flX10_49) fpX10_49) (sSeq (sPutI (rLoc 0 9) (eFld (rLoc 1 1) flX10_52) fpX10_52) (sSeq (sPutI (rLoc 0 9) (eFld (rLoc 1 1) flX10_55) fpX10_55) sRetV)))))))))))
set_option maxRecDepth 100000 in
theorem ck_Valley_copyFrom : B_Valley_copyFrom.1.1 0 0 0 = some none := by decide +kernel
abbrev K_Seen_copyFrom : bK := (RX8, cX8_copyFrom, 2, none, fun _ _ _ => True)
def B_Seen_copyFrom : ES K_Seen_copyFrom := (sSeq (sCopy 1 16 16 (rFld (rLoc 1 17) 18 flX8_9) (eInt 0) (rFld (rLoc 0 27) 28 flX8_9) (eInt 0) (eInt 16) cyX8_55) (sSeq (sCopy 1 16 16 (rFld (rLoc 1 17) 19 flX8_15) (eInt 0) (rFld (rLoc 0 27) 29 flX8_15) (eInt 0) (eInt 16) cyX8_55) (sSeq (sCopy 1 16 16 (rFld (rLoc 1 17) 20 flX8_18) (eInt 0) (rFld (rLoc 0 27) 30 flX8_18) (eInt 0) (eInt 16) cyX8_55) (sSeq (sCopy 1 16 16 (rFld (rLoc 1 17) 21 flX8_21) (eInt 0) (rFld (rLoc 0 27) 31 flX8_21) (eInt 0) (eInt 16) cyX8_55) (sSeq (sCopy 1 16 16 (rFld (rLoc 1 17) 22 flX8_24) (eInt 0) (rFld (rLoc 0 27) 32 flX8_24) (eInt 0) (eInt 16) cyX8_55) (sSeq (sCopy 1 16 16 (rFld (rLoc 1 17) 23 flX8_27) (eInt 0) (rFld (rLoc 0 27) 33 flX8_27) (eInt 0) (eInt 16) cyX8_55) (sSeq (sCopy 2 16 16 (rFld (rLoc 1 17) 24 flX8_30) (eInt 0) (rFld (rLoc 0 27) 34 flX8_30) (eInt 0) (eInt 16) cyX8_55) (sSeq (sCopy 1 4 4 (rFld (rLoc 1 17) 25 flX8_34) (eInt 0) (rFld (rLoc 0 27) 35 flX8_34) (eInt 0) (eInt 4) cyX8_55) (sSeq (sCopy 2 4 4 (rFld (rLoc 1 17) 26 flX8_37) (eInt 0) (rFld (rLoc 0 27) 36 flX8_37) (eInt 0) (eInt 4) cyX8_55) (sSeq (sPutI (rLoc 0 27) (eFld (rLoc 1 17) flX8_40) fpX8_40) (sSeq (sPutI (rLoc 0 27) (eFld (rLoc 1 17) flX8_44) fpX8_44) sRetV)))))))))))
set_option maxRecDepth 100000 in
theorem ck_Seen_copyFrom : B_Seen_copyFrom.1.1 0 0 0 = some none := by decide +kernel
abbrev K_Folk_copyFrom : bK := (RX2, cX2_copyFrom, 2, none, fun _ _ _ => True)
def B_Folk_copyFrom : ES K_Folk_copyFrom := (sSeq (sCopy 1 16 16 (rFld (rLoc 1 37) 38 flX2_9) (eInt 0) (rFld (rLoc 0 50) 51 flX2_9) (eInt 0) (eInt 16) cyX2_64) (sSeq (sCopy 1 16 16 (rFld (rLoc 1 37) 39 flX2_15) (eInt 0) (rFld (rLoc 0 50) 52 flX2_15) (eInt 0) (eInt 16) cyX2_64) (sSeq (sCopy 1 16 16 (rFld (rLoc 1 37) 40 flX2_18) (eInt 0) (rFld (rLoc 0 50) 53 flX2_18) (eInt 0) (eInt 16) cyX2_64) (sSeq (sCopy 2 16 16 (rFld (rLoc 1 37) 41 flX2_21) (eInt 0) (rFld (rLoc 0 50) 54 flX2_21) (eInt 0) (eInt 16) cyX2_64) (sSeq (sCopy 1 16 16 (rFld (rLoc 1 37) 42 flX2_25) (eInt 0) (rFld (rLoc 0 50) 55 flX2_25) (eInt 0) (eInt 16) cyX2_64) (sSeq (sCopy 1 16 16 (rFld (rLoc 1 37) 43 flX2_28) (eInt 0) (rFld (rLoc 0 50) 56 flX2_28) (eInt 0) (eInt 16) cyX2_64) (sSeq (sCopy 1 12 12 (rFld (rLoc 1 37) 44 flX2_31) (eInt 0) (rFld (rLoc 0 50) 57 flX2_31) (eInt 0) (eInt 12) cyX2_64) (sSeq (sCopy 1 12 12 (rFld (rLoc 1 37) 45 flX2_34) (eInt 0) (rFld (rLoc 0 50) 58 flX2_34) (eInt 0) (eInt 12) cyX2_64) (sSeq (sCopy 1 12 12 (rFld (rLoc 1 37) 46 flX2_37) (eInt 0) (rFld (rLoc 0 50) 59 flX2_37) (eInt 0) (eInt 12) cyX2_64) (sSeq (sCopy 1 12 12 (rFld (rLoc 1 37) 47 flX2_40) (eInt 0) (rFld (rLoc 0 50) 60 flX2_40) (eInt 0) (eInt 12) cyX2_64) (sSeq (sCopy 1 12 12 (rFld (rLoc 1 37) 48 flX2_43) (eInt 0) (rFld (rLoc 0 50) 61 flX2_43) (eInt 0) (eInt 12) cyX2_64) (sSeq (sCopy 1 12 12 (rFld (rLoc 1 37) 49 flX2_46) (eInt 0) (rFld (rLoc 0 50) 62 flX2_46) (eInt 0) (eInt 12) cyX2_64) (sSeq (sPutI (rLoc 0 50) (eFld (rLoc 1 37) flX2_49) fpX2_49) (sSeq (sPutI (rLoc 0 50) (eFld (rLoc 1 37) flX2_57) fpX2_57) (sSeq (sPutI (rLoc 0 50) (eFld (rLoc 1 37) flX2_70) fpX2_70) (sSeq (sPutI (rLoc 0 50) (eFld (rLoc 1 37) flX2_73) fpX2_73) sRetV))))))))))))))))
set_option maxRecDepth 100000 in
theorem ck_Folk_copyFrom : B_Folk_copyFrom.1.1 0 0 0 = some none := by decide +kernel
abbrev K_Act_copyFrom : bK := (RX0, cX0_copyFrom, 2, none, fun _ _ _ => True)
def B_Act_copyFrom : ES K_Act_copyFrom := (sSeq (sCopy 1 9 9 (rFld (rLoc 1 63) 64 flX0_9) (eInt 0) (rFld (rLoc 0 71) 72 flX0_9) (eInt 0) (eInt 9) cyX0_37) (sSeq (sCopy 1 9 9 (rFld (rLoc 1 63) 65 flX0_15) (eInt 0) (rFld (rLoc 0 71) 73 flX0_15) (eInt 0) (eInt 9) cyX0_37) (sSeq (sCopy 1 81 81 (rFld (rLoc 1 63) 66 flX0_18) (eInt 0) (rFld (rLoc 0 71) 74 flX0_18) (eInt 0) (eInt 81) cyX0_37) (sSeq (sCopy 1 81 81 (rFld (rLoc 1 63) 67 flX0_21) (eInt 0) (rFld (rLoc 0 71) 75 flX0_21) (eInt 0) (eInt 81) cyX0_37) (sSeq (sCopy 1 81 81 (rFld (rLoc 1 63) 68 flX0_24) (eInt 0) (rFld (rLoc 0 71) 76 flX0_24) (eInt 0) (eInt 81) cyX0_37) (sSeq (sCopy 1 81 81 (rFld (rLoc 1 63) 69 flX0_27) (eInt 0) (rFld (rLoc 0 71) 77 flX0_27) (eInt 0) (eInt 81) cyX0_37) (sSeq (sCopy 1 720 720 (rFld (rLoc 1 63) 70 flX0_30) (eInt 0) (rFld (rLoc 0 71) 78 flX0_30) (eInt 0) (eInt 720) cyX0_37) (sSeq (sPutI (rLoc 0 71) (eFld (rLoc 1 63) flX0_33) fpX0_33) sRetV))))))))
set_option maxRecDepth 100000 in
theorem ck_Act_copyFrom : B_Act_copyFrom.1.1 0 0 0 = some none := by decide +kernel
abbrev K_Claims_copyFrom : bK := (RX1, cX1_copyFrom, 2, none, fun _ _ _ => True)
def B_Claims_copyFrom : ES K_Claims_copyFrom := (sSeq (sCopy 1 16 16 (rFld (rLoc 1 79) 80 flX1_9) (eInt 0) (rFld (rLoc 0 86) 87 flX1_9) (eInt 0) (eInt 16) cyX1_49) (sSeq (sCopy 1 16 16 (rFld (rLoc 1 79) 81 flX1_15) (eInt 0) (rFld (rLoc 0 86) 88 flX1_15) (eInt 0) (eInt 16) cyX1_49) (sSeq (sCopy 1 16 16 (rFld (rLoc 1 79) 82 flX1_18) (eInt 0) (rFld (rLoc 0 86) 89 flX1_18) (eInt 0) (eInt 16) cyX1_49) (sSeq (sCopy 1 16 16 (rFld (rLoc 1 79) 83 flX1_21) (eInt 0) (rFld (rLoc 0 86) 90 flX1_21) (eInt 0) (eInt 16) cyX1_49) (sSeq (sCopy 1 24 24 (rFld (rLoc 1 79) 84 flX1_24) (eInt 0) (rFld (rLoc 0 86) 91 flX1_24) (eInt 0) (eInt 24) cyX1_49) (sSeq (sCopy 1 24 24 (rFld (rLoc 1 79) 85 flX1_27) (eInt 0) (rFld (rLoc 0 86) 92 flX1_27) (eInt 0) (eInt 24) cyX1_49) (sSeq (sPutI (rLoc 0 86) (eFld (rLoc 1 79) flX1_30) fpX1_30) (sSeq (sPutI (rLoc 0 86) (eFld (rLoc 1 79) flX1_37) fpX1_37) (sSeq (sPutI (rLoc 0 86) (eFld (rLoc 1 79) flX1_46) fpX1_46) (sSeq (sPutI (rLoc 0 86) (eFld (rLoc 1 79) flX1_34) fpX1_34) sRetV))))))))))
set_option maxRecDepth 100000 in
theorem ck_Claims_copyFrom : B_Claims_copyFrom.1.1 0 0 0 = some none := by decide +kernel
abbrev K_Valley_copyFrom2 : bK := (RX10, cX10_copyFrom, 2, none, fun _ _ _ => True)
def B_Valley_copyFrom2 : ES K_Valley_copyFrom2 := (sSeq (sCopy 1 12 12 (rFld (rLoc 1 9) 10 flX10_9) (eInt 0) (rFld (rLoc 0 1) 2 flX10_9) (eInt 0) (eInt 12) cyX10_39) (sSeq (sCopy 1 12 12 (rFld (rLoc 1 9) 11 flX10_15) (eInt 0) (rFld (rLoc 0 1) 3 flX10_15) (eInt 0) (eInt 12) cyX10_39) (sSeq (sCopy 1 24 24 (rFld (rLoc 1 9) 12 flX10_18) (eInt 0) (rFld (rLoc 0 1) 4 flX10_18) (eInt 0) (eInt 24) cyX10_39) (sSeq (sCopy 1 3 3 (rFld (rLoc 1 9) 13 flX10_21) (eInt 0) (rFld (rLoc 0 1) 5 flX10_21) (eInt 0) (eInt 3) cyX10_39) (sSeq (sCopy 1 10 10 (rFld (rLoc 1 9) 14 flX10_24) (eInt 0) (rFld (rLoc 0 1) 6 flX10_24) (eInt 0) (eInt 10) cyX10_39) (sSeq (sCopy 1 10 10 (rFld (rLoc 1 9) 15 flX10_27) (eInt 0) (rFld (rLoc 0 1) 7 flX10_27) (eInt 0) (eInt 10) cyX10_39) (sSeq (sCopy 1 10 10 (rFld (rLoc 1 9) 16 flX10_30) (eInt 0) (rFld (rLoc 0 1) 8 flX10_30) (eInt 0) (eInt 10) cyX10_39) (sSeq (sPutI (rLoc 0 1) (eFld (rLoc 1 9) flX10_45) fpX10_45) (sSeq (sPutI (rLoc 0 1) (eFld (rLoc 1 9) flX10_49) fpX10_49) (sSeq (sPutI (rLoc 0 1) (eFld (rLoc 1 9) flX10_52) fpX10_52) (sSeq (sPutI (rLoc 0 1) (eFld (rLoc 1 9) flX10_55) fpX10_55) sRetV)))))))))))
set_option maxRecDepth 100000 in
theorem ck_Valley_copyFrom2 : B_Valley_copyFrom2.1.1 0 0 0 = some none := by decide +kernel
abbrev K_Seen_copyFrom2 : bK := (RX8, cX8_copyFrom, 2, none, fun _ _ _ => True)
def B_Seen_copyFrom2 : ES K_Seen_copyFrom2 := (sSeq (sCopy 1 16 16 (rFld (rLoc 1 27) 28 flX8_9) (eInt 0) (rFld (rLoc 0 17) 18 flX8_9) (eInt 0) (eInt 16) cyX8_55) (sSeq (sCopy 1 16 16 (rFld (rLoc 1 27) 29 flX8_15) (eInt 0) (rFld (rLoc 0 17) 19 flX8_15) (eInt 0) (eInt 16) cyX8_55) (sSeq (sCopy 1 16 16 (rFld (rLoc 1 27) 30 flX8_18) (eInt 0) (rFld (rLoc 0 17) 20 flX8_18) (eInt 0) (eInt 16) cyX8_55) (sSeq (sCopy 1 16 16 (rFld (rLoc 1 27) 31 flX8_21) (eInt 0) (rFld (rLoc 0 17) 21 flX8_21) (eInt 0) (eInt 16) cyX8_55) (sSeq (sCopy 1 16 16 (rFld (rLoc 1 27) 32 flX8_24) (eInt 0) (rFld (rLoc 0 17) 22 flX8_24) (eInt 0) (eInt 16) cyX8_55) (sSeq (sCopy 1 16 16 (rFld (rLoc 1 27) 33 flX8_27) (eInt 0) (rFld (rLoc 0 17) 23 flX8_27) (eInt 0) (eInt 16) cyX8_55) (sSeq (sCopy 2 16 16 (rFld (rLoc 1 27) 34 flX8_30) (eInt 0) (rFld (rLoc 0 17) 24 flX8_30) (eInt 0) (eInt 16) cyX8_55) (sSeq (sCopy 1 4 4 (rFld (rLoc 1 27) 35 flX8_34) (eInt 0) (rFld (rLoc 0 17) 25 flX8_34) (eInt 0) (eInt 4) cyX8_55) (sSeq (sCopy 2 4 4 (rFld (rLoc 1 27) 36 flX8_37) (eInt 0) (rFld (rLoc 0 17) 26 flX8_37) (eInt 0) (eInt 4) cyX8_55) (sSeq (sPutI (rLoc 0 17) (eFld (rLoc 1 27) flX8_40) fpX8_40) (sSeq (sPutI (rLoc 0 17) (eFld (rLoc 1 27) flX8_44) fpX8_44) sRetV)))))))))))
set_option maxRecDepth 100000 in
theorem ck_Seen_copyFrom2 : B_Seen_copyFrom2.1.1 0 0 0 = some none := by decide +kernel
abbrev K_Folk_copyFrom2 : bK := (RX2, cX2_copyFrom, 2, none, fun _ _ _ => True)
def B_Folk_copyFrom2 : ES K_Folk_copyFrom2 := (sSeq (sCopy 1 16 16 (rFld (rLoc 1 50) 51 flX2_9) (eInt 0) (rFld (rLoc 0 37) 38 flX2_9) (eInt 0) (eInt 16) cyX2_64) (sSeq (sCopy 1 16 16 (rFld (rLoc 1 50) 52 flX2_15) (eInt 0) (rFld (rLoc 0 37) 39 flX2_15) (eInt 0) (eInt 16) cyX2_64) (sSeq (sCopy 1 16 16 (rFld (rLoc 1 50) 53 flX2_18) (eInt 0) (rFld (rLoc 0 37) 40 flX2_18) (eInt 0) (eInt 16) cyX2_64) (sSeq (sCopy 2 16 16 (rFld (rLoc 1 50) 54 flX2_21) (eInt 0) (rFld (rLoc 0 37) 41 flX2_21) (eInt 0) (eInt 16) cyX2_64) (sSeq (sCopy 1 16 16 (rFld (rLoc 1 50) 55 flX2_25) (eInt 0) (rFld (rLoc 0 37) 42 flX2_25) (eInt 0) (eInt 16) cyX2_64) (sSeq (sCopy 1 16 16 (rFld (rLoc 1 50) 56 flX2_28) (eInt 0) (rFld (rLoc 0 37) 43 flX2_28) (eInt 0) (eInt 16) cyX2_64) (sSeq (sCopy 1 12 12 (rFld (rLoc 1 50) 57 flX2_31) (eInt 0) (rFld (rLoc 0 37) 44 flX2_31) (eInt 0) (eInt 12) cyX2_64) (sSeq (sCopy 1 12 12 (rFld (rLoc 1 50) 58 flX2_34) (eInt 0) (rFld (rLoc 0 37) 45 flX2_34) (eInt 0) (eInt 12) cyX2_64) (sSeq (sCopy 1 12 12 (rFld (rLoc 1 50) 59 flX2_37) (eInt 0) (rFld (rLoc 0 37) 46 flX2_37) (eInt 0) (eInt 12) cyX2_64) (sSeq (sCopy 1 12 12 (rFld (rLoc 1 50) 60 flX2_40) (eInt 0) (rFld (rLoc 0 37) 47 flX2_40) (eInt 0) (eInt 12) cyX2_64) (sSeq (sCopy 1 12 12 (rFld (rLoc 1 50) 61 flX2_43) (eInt 0) (rFld (rLoc 0 37) 48 flX2_43) (eInt 0) (eInt 12) cyX2_64) (sSeq (sCopy 1 12 12 (rFld (rLoc 1 50) 62 flX2_46) (eInt 0) (rFld (rLoc 0 37) 49 flX2_46) (eInt 0) (eInt 12) cyX2_64) (sSeq (sPutI (rLoc 0 37) (eFld (rLoc 1 50) flX2_49) fpX2_49) (sSeq (sPutI (rLoc 0 37) (eFld (rLoc 1 50) flX2_57) fpX2_57) (sSeq (sPutI (rLoc 0 37) (eFld (rLoc 1 50) flX2_70) fpX2_70) (sSeq (sPutI (rLoc 0 37) (eFld (rLoc 1 50) flX2_73) fpX2_73) sRetV))))))))))))))))
set_option maxRecDepth 100000 in
theorem ck_Folk_copyFrom2 : B_Folk_copyFrom2.1.1 0 0 0 = some none := by decide +kernel
abbrev K_Act_copyFrom2 : bK := (RX0, cX0_copyFrom, 2, none, fun _ _ _ => True)
def B_Act_copyFrom2 : ES K_Act_copyFrom2 := (sSeq (sCopy 1 9 9 (rFld (rLoc 1 71) 72 flX0_9) (eInt 0) (rFld (rLoc 0 63) 64 flX0_9) (eInt 0) (eInt 9) cyX0_37) (sSeq (sCopy 1 9 9 (rFld (rLoc 1 71) 73 flX0_15) (eInt 0) (rFld (rLoc 0 63) 65 flX0_15) (eInt 0) (eInt 9) cyX0_37) (sSeq (sCopy 1 81 81 (rFld (rLoc 1 71) 74 flX0_18) (eInt 0) (rFld (rLoc 0 63) 66 flX0_18) (eInt 0) (eInt 81) cyX0_37) (sSeq (sCopy 1 81 81 (rFld (rLoc 1 71) 75 flX0_21) (eInt 0) (rFld (rLoc 0 63) 67 flX0_21) (eInt 0) (eInt 81) cyX0_37) (sSeq (sCopy 1 81 81 (rFld (rLoc 1 71) 76 flX0_24) (eInt 0) (rFld (rLoc 0 63) 68 flX0_24) (eInt 0) (eInt 81) cyX0_37) (sSeq (sCopy 1 81 81 (rFld (rLoc 1 71) 77 flX0_27) (eInt 0) (rFld (rLoc 0 63) 69 flX0_27) (eInt 0) (eInt 81) cyX0_37) (sSeq (sCopy 1 720 720 (rFld (rLoc 1 71) 78 flX0_30) (eInt 0) (rFld (rLoc 0 63) 70 flX0_30) (eInt 0) (eInt 720) cyX0_37) (sSeq (sPutI (rLoc 0 63) (eFld (rLoc 1 71) flX0_33) fpX0_33) sRetV))))))))
set_option maxRecDepth 100000 in
theorem ck_Act_copyFrom2 : B_Act_copyFrom2.1.1 0 0 0 = some none := by decide +kernel
abbrev K_Claims_copyFrom2 : bK := (RX1, cX1_copyFrom, 2, none, fun _ _ _ => True)
def B_Claims_copyFrom2 : ES K_Claims_copyFrom2 := (sSeq (sCopy 1 16 16 (rFld (rLoc 1 86) 87 flX1_9) (eInt 0) (rFld (rLoc 0 79) 80 flX1_9) (eInt 0) (eInt 16) cyX1_49) (sSeq (sCopy 1 16 16 (rFld (rLoc 1 86) 88 flX1_15) (eInt 0) (rFld (rLoc 0 79) 81 flX1_15) (eInt 0) (eInt 16) cyX1_49) (sSeq (sCopy 1 16 16 (rFld (rLoc 1 86) 89 flX1_18) (eInt 0) (rFld (rLoc 0 79) 82 flX1_18) (eInt 0) (eInt 16) cyX1_49) (sSeq (sCopy 1 16 16 (rFld (rLoc 1 86) 90 flX1_21) (eInt 0) (rFld (rLoc 0 79) 83 flX1_21) (eInt 0) (eInt 16) cyX1_49) (sSeq (sCopy 1 24 24 (rFld (rLoc 1 86) 91 flX1_24) (eInt 0) (rFld (rLoc 0 79) 84 flX1_24) (eInt 0) (eInt 24) cyX1_49) (sSeq (sCopy 1 24 24 (rFld (rLoc 1 86) 92 flX1_27) (eInt 0) (rFld (rLoc 0 79) 85 flX1_27) (eInt 0) (eInt 24) cyX1_49) (sSeq (sPutI (rLoc 0 79) (eFld (rLoc 1 86) flX1_30) fpX1_30) (sSeq (sPutI (rLoc 0 79) (eFld (rLoc 1 86) flX1_37) fpX1_37) (sSeq (sPutI (rLoc 0 79) (eFld (rLoc 1 86) flX1_46) fpX1_46) (sSeq (sPutI (rLoc 0 79) (eFld (rLoc 1 86) flX1_34) fpX1_34) sRetV))))))))))
set_option maxRecDepth 100000 in
theorem ck_Claims_copyFrom2 : B_Claims_copyFrom2.1.1 0 0 0 = some none := by decide +kernel
abbrev K_Night_begin : bK := (RX5, cX5_begin, 2, none, fun _ _ _ => True)
def L_Night_begin_1c : EC K_Night_begin := (cQ 2 (eLoc 1) (eFld (rFld (rLoc 0 93) 37 flX5_41) flX5_111))
def L_Night_begin_1b : ES K_Night_begin := (sPutA 12 (rFld (rLoc 0 93) 100 flX5_30) (eLoc 1) (eAI 10 (rFld (rFld (rLoc 0 93) 1 flX5_33) 6 flX5_116) (eAI 12 (rFld (rFld (rLoc 0 93) 37 flX5_41) 44 flX5_119) (eLoc 1))))
def L_Night_begin_1s : ES K_Night_begin := (sInc 1 1)
def L_Night_begin_1 : ES K_Night_begin := sLp 97 L_Night_begin_1c L_Night_begin_1b L_Night_begin_1s
def B_Night_begin : ES K_Night_begin := (sSeq (sCall (xS 259 (gR (rFld (rLoc 0 93) 94 flX5_9) (gI (eInt 0) gNil)) csX5_96) rt_259) (sSeq (sCall (xS 259 (gR (rFld (rLoc 0 93) 96 flX5_18) (gI (eInt 0) gNil)) csX5_96) rt_259) (sSeq (sCall (xS 259 (gR (rFld (rLoc 0 93) 97 flX5_21) (gI (eInt (-3)) gNil)) csX5_96) rt_259) (sSeq (sCall (xS 259 (gR (rFld (rLoc 0 93) 98 flX5_24) (gI (eInt (-3)) gNil)) csX5_96) rt_259) (sSeq (sCall (xS 259 (gR (rFld (rLoc 0 93) 99 flX5_27) (gI (eInt (-3)) gNil)) csX5_96) rt_259) (sSeq (sCopy 1 12 12 (rFld (rFld (rLoc 0 93) 1 flX5_33) 3 flX5_102) (eInt 0) (rFld (rLoc 0 93) 95 flX5_15) (eInt 0) (eInt 12) cyX5_105) (sSeq (sSeq (sSet 1 (eInt 0)) L_Night_begin_1) (sSeq (sPutI (rLoc 0 93) (eInt 0) fpX5_81) (sSeq (sPutI (rLoc 0 93) (eFld (rFld (rLoc 0 93) 1 flX5_33) flX5_122) fpX5_124) (sSeq (sPutI (rLoc 0 93) (eInt 0) fpX5_127) sRetV))))))))))
set_option maxRecDepth 100000 in
theorem ck_Night_begin : B_Night_begin.1.1 0 0 0 = some none := by decide +kernel
abbrev K_Night_comesOut : bK := (RX5, cX5_comesOut, 4, some .int, fun _ _ _ => True)
def B_Night_comesOut : ES K_Night_comesOut := (sSeq (sSet 2 (eIte (cQ 3 (eLoc 1) (eFld (rLoc 0 93) flX5_55)) (eMin (eFld (rLoc 0 93) flX5_52) (eFld (rLoc 0 93) flX5_124) cmX5_130) (eInt 0))) (sSeq (sOpF 1 (rLoc 0 93) (eLoc 2) fpX5_124) (sSeq (sSet 3 (eIte (cQ 3 (eLoc 1) (eFld (rLoc 0 93) flX5_49)) (eMin (eCall (xV 303 (rLoc 0 93) (gI (eSub (eLoc 1) (eFld (rLoc 0 93) flX5_49)) gNil) cvX5_136_303) rt_303) (eFld (rLoc 0 93) flX5_124) cmX5_130) (eInt 0))) (sSeq (sOpF 1 (rLoc 0 93) (eLoc 3) fpX5_124) (sRet (eAdd (eLoc 2) (eLoc 3)))))))
set_option maxRecDepth 100000 in
theorem ck_Night_comesOut : B_Night_comesOut.1.1 0 0 0 = some none := by decide +kernel
abbrev K_Night_flow : bK := (RX5, cX5_flow, 6, some .int, fun _ _ _ => True)
def L_Night_flow_1c : EC K_Night_flow := (cQ 2 (eLoc 4) (eFld (rLoc 0 93) flX5_127))
def L_Night_flow_1b : ES K_Night_flow := (sSeq (sSet 5 (eIte (cQ 2 (eAI 12 (rFld (rLoc 0 93) 95 flX5_15) (eLoc 4)) (eInt 1)) (eInt 0) (eDiv (eAI 12 (rFld (rLoc 0 93) 94 flX5_9) (eLoc 4)) (eAI 12 (rFld (rLoc 0 93) 95 flX5_15) (eLoc 4))))) (sSeq (sOpA 12 0 (rFld (rLoc 0 93) 94 flX5_9) (eLoc 4) (eSub (eLoc 3) (eLoc 5))) (sSeq (sSet 3 (eLoc 5)) (sSet 2 (eAdd (eLoc 2) (eLoc 5))))))
def L_Night_flow_1s : ES K_Night_flow := (sInc 4 1)
def L_Night_flow_1 : ES K_Night_flow := sLp 70 L_Night_flow_1c L_Night_flow_1b L_Night_flow_1s
def B_Night_flow : ES K_Night_flow := (sSeq (sSet 2 (eInt 0)) (sSeq (sSet 3 (eLoc 1)) (sSeq (sSeq (sSet 4 (eInt 0)) L_Night_flow_1) (sSeq (sIf (cAnd (cQ 2 (eFld (rLoc 0 93) flX5_127) (eInt 12)) (cZ 4 (eLoc 3))) (sSeq (sPutA 12 (rFld (rLoc 0 93) 94 flX5_9) (eFld (rLoc 0 93) flX5_127) (eLoc 3)) (sOpF 0 (rLoc 0 93) (eInt 1) fpX5_127)) sNop) (sRet (eLoc 2))))))
set_option maxRecDepth 100000 in
theorem ck_Night_flow : B_Night_flow.1.1 0 0 0 = some none := by decide +kernel
abbrev K_Night_carry : bK := (RX5, cX5_carry, 3, none, fun _ _ _ => True)
def L_Night_carry_1c : EC K_Night_carry := (cQ 2 (eLoc 1) (eFld (rFld (rLoc 0 93) 37 flX5_41) flX5_111))
def L_Night_carry_1b : ES K_Night_carry := (sSeq (sIf (cZ 0 (eAnd (eShr (eFld (rLoc 0 93) flX5_81) (eLoc 1)) (eInt 1))) sCnt sNop) (sSeq (sSet 2 (eIte (cQ 3 (eCall (xV 127 (rLoc 0 93) (gI (eAI 12 (rFld (rLoc 0 93) 100 flX5_30) (eLoc 1)) gNil) cvX5_145_127) rt_127) (eAI 12 (rFld (rFld (rLoc 0 93) 37 flX5_41) 46 flX5_148) (eLoc 1))) (eInt 1) (eInt 0))) (sSeq (sIf (cZ 1 (eLoc 2)) (sOpA 12 0 (rFld (rLoc 0 93) 100 flX5_30) (eLoc 1) (eInt 1)) sNop) (sIf (cOr (cNot (cZ 1 (eLoc 2))) (cQ 3 (eAI 12 (rFld (rLoc 0 93) 100 flX5_30) (eLoc 1)) (eInt 12))) (sOpF 3 (rLoc 0 93) (eXor (eShl (eInt 1) (eLoc 1)) (eInt (-1))) fpX5_81) sNop))))
def L_Night_carry_1s : ES K_Night_carry := (sInc 1 1)
def L_Night_carry_1 : ES K_Night_carry := sLp 106 L_Night_carry_1c L_Night_carry_1b L_Night_carry_1s
def B_Night_carry : ES K_Night_carry := (sSeq (sIf (cZ 0 (eFld (rLoc 0 93) flX5_81)) sRetV sNop) (sSeq (sSeq (sSet 1 (eInt 0)) L_Night_carry_1) sRetV))
set_option maxRecDepth 100000 in
theorem ck_Night_carry : B_Night_carry.1.1 0 0 0 = some none := by decide +kernel
abbrev K_Night_rise : bK := (RX5, cX5_rise, 3, none, fun _ _ _ => True)
def L_Night_rise_1c : EC K_Night_rise := (cQ 2 (eLoc 2) (eFld (rLoc 0 93) flX5_127))
def L_Night_rise_1b : ES K_Night_rise := (sIf (cQ 3 (eAI 12 (rFld (rLoc 0 93) 94 flX5_9) (eLoc 2)) (eMul (eAdd (eAI 12 (rFld (rLoc 0 93) 96 flX5_18) (eLoc 2)) (eInt 1)) (eAI 12 (rFld (rFld (rLoc 0 93) 1 flX5_33) 2 flX5_88) (eLoc 2)))) (sSeq (sIf (cZ 0 (eAI 12 (rFld (rLoc 0 93) 96 flX5_18) (eLoc 2))) (sPutA 12 (rFld (rLoc 0 93) 97 flX5_21) (eLoc 2) (eLoc 1)) sNop) (sSeq (sPutA 12 (rFld (rLoc 0 93) 96 flX5_18) (eLoc 2) (eCall (xV 127 (rLoc 0 93) (gI (eLoc 2) gNil) cvX5_145_127) rt_127)) (sSeq (sCall (xV 304 (rLoc 0 93) (gI (eLoc 2) (gI (eLoc 1) gNil)) cvX5_151_304) rt_304) (sCall (xV 305 (rLoc 0 93) (gI (eLoc 2) (gI (eLoc 1) gNil)) cvX5_155_305) rt_305)))) sNop)
def L_Night_rise_1s : ES K_Night_rise := (sInc 2 1)
def L_Night_rise_1 : ES K_Night_rise := sLp 76 L_Night_rise_1c L_Night_rise_1b L_Night_rise_1s
def B_Night_rise : ES K_Night_rise := (sSeq (sSeq (sSet 2 (eInt 0)) L_Night_rise_1) sRetV)
set_option maxRecDepth 100000 in
theorem ck_Night_rise : B_Night_rise.1.1 0 0 0 = some none := by decide +kernel
abbrev K_Night_launch : bK := (RX5, cX5_launch, 2, none, fun _ _ _ => True)
def L_Night_launch_1c : EC K_Night_launch := (cQ 2 (eLoc 1) (eFld (rFld (rLoc 0 93) 37 flX5_41) flX5_111))
def L_Night_launch_1b : ES K_Night_launch := (sIf (cQ 0 (eAnd (eShr (eFld (rLoc 0 93) flX5_71) (eAI 12 (rFld (rFld (rLoc 0 93) 37 flX5_41) 44 flX5_119) (eLoc 1))) (eInt 1)) (eInt 1)) (sOpF 2 (rLoc 0 93) (eShl (eInt 1) (eLoc 1)) fpX5_81) sNop)
def L_Night_launch_1s : ES K_Night_launch := (sInc 1 1)
def L_Night_launch_1 : ES K_Night_launch := sLp 53 L_Night_launch_1c L_Night_launch_1b L_Night_launch_1s
def B_Night_launch : ES K_Night_launch := (sSeq (sIf (cZ 0 (eFld (rLoc 0 93) flX5_71)) sRetV sNop) (sSeq (sSeq (sSet 1 (eInt 0)) L_Night_launch_1) sRetV))
set_option maxRecDepth 100000 in
theorem ck_Night_launch : B_Night_launch.1.1 0 0 0 = some none := by decide +kernel
abbrev K_Night_noMoreComes : bK := (RX5, cX5_noMoreComes, 4, some .boolean, fun _ _ _ => True)
def B_Night_noMoreComes : ES K_Night_noMoreComes := (sSeq (sSet 2 (eIte (cQ 3 (eLoc 1) (eSub (eAdd (eFld (rLoc 0 93) flX5_49) (eAI 3 (rFld (rFld (rLoc 0 93) 1 flX5_33) 5 flX5_139) (eFld (rLoc 0 93) flX5_45))) (eInt 1))) (eInt 1) (eInt 0))) (sSeq (sSet 3 (eIte (cOr (cZ 0 (eFld (rLoc 0 93) flX5_52)) (cQ 3 (eLoc 1) (eFld (rLoc 0 93) flX5_55))) (eInt 1) (eInt 0))) (sRet (eIte (cOr (cZ 0 (eFld (rLoc 0 93) flX5_124)) (cAnd (cZ 1 (eLoc 2)) (cZ 1 (eLoc 3)))) (eInt 1) (eInt 0)))))
set_option maxRecDepth 100000 in
theorem ck_Night_noMoreComes : B_Night_noMoreComes.1.1 0 0 0 = some none := by decide +kernel
abbrev K_Seen_wordsAgainst : bK := (RX8, cX8_wordsAgainst, 5, some .int, fun _ _ _ => True)
def L_Seen_wordsAgainst_1c : EC K_Seen_wordsAgainst := (cQ 2 (eLoc 4) (eFld (rLoc 0 17) flX8_40))
def L_Seen_wordsAgainst_1b : ES K_Seen_wordsAgainst := (sIf (cAnd (cQ 0 (eAI 16 (rFld (rLoc 0 17) 18 flX8_9) (eLoc 4)) (eInt 3)) (cOr (cZ 0 (eAnd (eShr (eAI 16 (rFld (rLoc 0 17) 20 flX8_18) (eLoc 4)) (eLoc 1)) (eInt 1))) (cNot (cZ 1 (eCall (xN 117 (gI (eLoc 2) (gI (eAI 16 (rFld (rLoc 0 17) 21 flX8_21) (eLoc 4)) (gI (eAI 16 (rFld (rLoc 0 17) 22 flX8_24) (eLoc 4)) gNil))) cnX8_51) rt_117))))) (sSet 3 (eOr (eLoc 3) (eShl (eInt 1) (eLoc 4)))) sNop)
def L_Seen_wordsAgainst_1s : ES K_Seen_wordsAgainst := (sInc 4 1)
def L_Seen_wordsAgainst_1 : ES K_Seen_wordsAgainst := sLp 67 L_Seen_wordsAgainst_1c L_Seen_wordsAgainst_1b L_Seen_wordsAgainst_1s
def B_Seen_wordsAgainst : ES K_Seen_wordsAgainst := (sSeq (sSet 3 (eInt 0)) (sSeq (sSeq (sSet 4 (eInt 0)) L_Seen_wordsAgainst_1) (sRet (eLoc 3))))
set_option maxRecDepth 100000 in
theorem ck_Seen_wordsAgainst : B_Seen_wordsAgainst.1.1 0 0 0 = some none := by decide +kernel
abbrev K_Nights_know : bK := (RX6, cX6_know, 2, none, fun _ _ _ => True)
def B_Nights_know : ES K_Nights_know := (sSeq (sIf (cQ 0 (eAI 90 (rFld (rLoc 0 101) 102 flX6_9) (eLoc 1)) (eFld (rLoc 0 101) flX6_34)) sRetV sNop) (sSeq (sCall (xV 126 (rFld (rLoc 0 101) 93 flX6_50) (gI (eDiv (eLoc 1) (eInt 30)) (gI (eRem (eLoc 1) (eInt 30)) (gI (eFld (rFld (rLoc 0 101) 1 flX6_38) flX6_64) (gI (eFld (rFld (rLoc 0 101) 1 flX6_38) flX6_69) (gI (eInt 179) gNil))))) cvX6_72_126) rt_126) (sSeq (sPutA 90 (rFld (rLoc 0 101) 103 flX6_15) (eLoc 1) (eCall (xV 130 (rFld (rLoc 0 101) 93 flX6_50) gNil cvX6_78_130) rt_130)) (sSeq (sPutA 90 (rFld (rLoc 0 101) 104 flX6_18) (eLoc 1) (eCall (xV 306 (rLoc 0 101) gNil cvX6_81_306) rt_306)) (sSeq (sCopy 1 12 1080 (rFld (rFld (rLoc 0 101) 93 flX6_50) 97 flX6_84) (eInt 0) (rFld (rLoc 0 101) 105 flX6_21) (eMul (eLoc 1) (eInt 12)) (eInt 12) cyX6_85) (sSeq (sCopy 1 12 1080 (rFld (rFld (rLoc 0 101) 93 flX6_50) 100 flX6_91) (eInt 0) (rFld (rLoc 0 101) 106 flX6_24) (eMul (eLoc 1) (eInt 12)) (eInt 12) cyX6_85) (sSeq (sPutA 90 (rFld (rLoc 0 101) 102 flX6_9) (eLoc 1) (eFld (rLoc 0 101) flX6_34)) sRetV)))))))
set_option maxRecDepth 100000 in
theorem ck_Nights_know : B_Nights_know.1.1 0 0 0 = some none := by decide +kernel
abbrev K_Seen_isDoubtedWord : bK := (RX8, cX8_isDoubtedWord, 2, some .boolean, fun _ _ _ => True)
def B_Seen_isDoubtedWord : ES K_Seen_isDoubtedWord := (sRet (eIte (cAnd (cQ 0 (eAI 16 (rFld (rLoc 0 17) 18 flX8_9) (eLoc 1)) (eInt 3)) (cZ 1 (eAZ 4 (rFld (rLoc 0 17) 26 flX8_37) (eAI 16 (rFld (rLoc 0 17) 19 flX8_15) (eLoc 1))))) (eInt 1) (eInt 0)))
set_option maxRecDepth 100000 in
theorem ck_Seen_isDoubtedWord : B_Seen_isDoubtedWord.1.1 0 0 0 = some none := by decide +kernel
abbrev K_Nights_gatherThings : bK := (RX6, cX6_gatherThings, 3, none, fun _ _ _ => True)
def L_Nights_gatherThings_1c : EC K_Nights_gatherThings := (cQ 2 (eLoc 2) (eFld (rFld (rLoc 0 101) 37 flX6_46) flX6_152))
def L_Nights_gatherThings_1b : ES K_Nights_gatherThings := (sIf (cQ 0 (eAnd (eShr (eAI 90 (rFld (rLoc 0 101) 103 flX6_15) (eLoc 1)) (eAI 12 (rFld (rFld (rLoc 0 101) 37 flX6_46) 44 flX6_157) (eLoc 2))) (eInt 1)) (eInt 1)) (sOpA 12 2 (rFld (rLoc 0 101) 108 flX6_31) (eLoc 2) (eShl (eInt 1) (eAI 1080 (rFld (rLoc 0 101) 106 flX6_24) (eAdd (eMul (eLoc 1) (eInt 12)) (eLoc 2))))) sNop)
def L_Nights_gatherThings_1s : ES K_Nights_gatherThings := (sInc 2 1)
def L_Nights_gatherThings_1 : ES K_Nights_gatherThings := sLp 57 L_Nights_gatherThings_1c L_Nights_gatherThings_1b L_Nights_gatherThings_1s
def B_Nights_gatherThings : ES K_Nights_gatherThings := (sSeq (sSeq (sSet 2 (eInt 0)) L_Nights_gatherThings_1) sRetV)
set_option maxRecDepth 100000 in
theorem ck_Nights_gatherThings : B_Nights_gatherThings.1.1 0 0 0 = some none := by decide +kernel
abbrev K_Folk_firstFit : bK := (RX2, cX2_firstFit, 4, some .int, fun _ _ _ => True)
def L_Folk_firstFit_1c : EC K_Folk_firstFit := (cQ 2 (eLoc 3) (eFld (rLoc 0 37) flX2_49))
def L_Folk_firstFit_1b : ES K_Folk_firstFit := (sIf (cAnd (cZ 0 (eAnd (eShr (eLoc 2) (eLoc 3)) (eInt 1))) (cZ 1 (eCall (xV 307 (rLoc 0 37) (gI (eLoc 1) (gI (eLoc 3) gNil)) cvX2_53_307) rt_307))) (sRet (eLoc 3)) sNop)
def L_Folk_firstFit_1s : ES K_Folk_firstFit := (sInc 3 1)
def L_Folk_firstFit_1 : ES K_Folk_firstFit := sLp 29 L_Folk_firstFit_1c L_Folk_firstFit_1b L_Folk_firstFit_1s
def B_Folk_firstFit : ES K_Folk_firstFit := (sSeq (sSeq (sSet 3 (eInt 0)) L_Folk_firstFit_1) (sRet (eInt (-1))))
set_option maxRecDepth 100000 in
theorem ck_Folk_firstFit : B_Folk_firstFit.1.1 0 0 0 = some none := by decide +kernel
abbrev K_Reader_advance : bK := (RX7, cX7_advance, 1, none, fun _ _ _ => True)
def L_Reader_advance_1c : EC K_Reader_advance := (cAnd (cQ 2 (eFld (rLoc 0 109) flX7_47) (eFld (rLoc 0 109) flX7_19)) (cQ 0 (eAB 240 (rFld (rLoc 0 109) 110 flX7_9) (eFld (rLoc 0 109) flX7_47)) (eInt 32)))
def L_Reader_advance_1b : ES K_Reader_advance := (sOpF 0 (rLoc 0 109) (eInt 1) fpX7_47)
def L_Reader_advance_1s : ES K_Reader_advance := sNop
def L_Reader_advance_1 : ES K_Reader_advance := sLp 8 L_Reader_advance_1c L_Reader_advance_1b L_Reader_advance_1s
def L_Reader_advance_2c : EC K_Reader_advance := (cAnd (cQ 2 (eFld (rLoc 0 109) flX7_34) (eFld (rLoc 0 109) flX7_19)) (cZ 1 (eCall (xS 308 (gI (eAB 240 (rFld (rLoc 0 109) 110 flX7_9) (eFld (rLoc 0 109) flX7_34)) gNil) csX7_97) rt_308)))
def L_Reader_advance_2b : ES K_Reader_advance := (sOpF 0 (rLoc 0 109) (eInt 1) fpX7_34)
def L_Reader_advance_2s : ES K_Reader_advance := sNop
def L_Reader_advance_2 : ES K_Reader_advance := sLp 88 L_Reader_advance_2c L_Reader_advance_2b L_Reader_advance_2s
def L_Reader_advance_3c : EC K_Reader_advance := (cAnd (cQ 2 (eFld (rLoc 0 109) flX7_34) (eFld (rLoc 0 109) flX7_19)) (cZ 1 (eCall (xS 310 (gI (eAB 240 (rFld (rLoc 0 109) 110 flX7_9) (eFld (rLoc 0 109) flX7_34)) gNil) csX7_104) rt_310)))
def L_Reader_advance_3b : ES K_Reader_advance := (sOpF 0 (rLoc 0 109) (eInt 1) fpX7_34)
def L_Reader_advance_3s : ES K_Reader_advance := sNop
def L_Reader_advance_3 : ES K_Reader_advance := sLp 153 L_Reader_advance_3c L_Reader_advance_3b L_Reader_advance_3s
def B_Reader_advance : ES K_Reader_advance := (sSeq (sPutI (rLoc 0 109) (eFld (rLoc 0 109) flX7_34) fpX7_47) (sSeq L_Reader_advance_1 (sSeq (sPutI (rLoc 0 109) (eFld (rLoc 0 109) flX7_47) fpX7_34) (sSeq (sIf (cQ 3 (eFld (rLoc 0 109) flX7_47) (eFld (rLoc 0 109) flX7_19)) (sPutI (rLoc 0 109) (eInt 0) fpX7_40) (sIf (cZ 1 (eCall (xS 308 (gI (eAB 240 (rFld (rLoc 0 109) 110 flX7_9) (eFld (rLoc 0 109) flX7_47)) gNil) csX7_97) rt_308)) (sSeq L_Reader_advance_2 (sPutI (rLoc 0 109) (eCall (xV 309 (rLoc 0 109) gNil cvX7_100_309) rt_309) fpX7_40)) (sIf (cZ 1 (eCall (xS 310 (gI (eAB 240 (rFld (rLoc 0 109) 110 flX7_9) (eFld (rLoc 0 109) flX7_47)) gNil) csX7_104) rt_310)) (sSeq L_Reader_advance_3 (sSeq (sPutI (rLoc 0 109) (eInt 19) fpX7_40) (sPutI (rLoc 0 109) (eCall (xV 311 (rLoc 0 109) gNil cvX7_107_311) rt_311) fpX7_73))) (sSeq (sOpF 0 (rLoc 0 109) (eInt 1) fpX7_34) (sPutI (rLoc 0 109) (eAdd (eInt 100) (eAnd (eAB 240 (rFld (rLoc 0 109) 110 flX7_9) (eFld (rLoc 0 109) flX7_47)) (eInt 255))) fpX7_40))))) sRetV))))
set_option maxRecDepth 100000 in
theorem ck_Reader_advance : B_Reader_advance.1.1 0 0 0 = some none := by decide +kernel
abbrev K_Reader_parseLine : bK := (RX7, cX7_parseLine, 6, some .boolean, fun _ _ _ => True)
def B_Reader_parseLine : ES K_Reader_parseLine := (sSeq (sSet 2 (eFld (rLoc 0 109) flX7_40)) (sSeq (sSet 3 (eCall (xS 312 (gI (eLoc 2) gNil) csX7_54) rt_312)) (sSeq (sIf (cAnd (cZ 2 (eLoc 3)) (cQ 1 (eLoc 2) (eInt 3))) (sRet (eInt 0)) sNop) (sSeq (sSet 4 (eAdd (eMul (eFld (rLoc 0 109) flX7_28) (eInt 9)) (eLoc 1))) (sSeq (sPutA 81 (rFld (rFld (rLoc 0 109) 63 flX7_15) 66 flX7_58) (eLoc 4) (eLoc 2)) (sSeq (sPutA 81 (rFld (rFld (rLoc 0 109) 63 flX7_15) 68 flX7_61) (eLoc 4) (eFld (rLoc 0 109) flX7_31)) (sSeq (sPutA 81 (rFld (rFld (rLoc 0 109) 63 flX7_15) 69 flX7_64) (eLoc 4) (eFld (rLoc 0 109) flX7_31)) (sSeq (sCall (xV 262 (rLoc 0 109) gNil cvX7_37_262) rt_262) (sSeq (sIf (cQ 1 (eLoc 2) (eInt 3)) (sSeq (sIf (cNot (cZ 1 (eCall (xV 313 (rLoc 0 109) (gI (eLoc 3) gNil) cvX7_67_313) rt_313))) (sRet (eInt 0)) sNop) (sSeq (sPutA 81 (rFld (rFld (rLoc 0 109) 63 flX7_15) 67 flX7_70) (eLoc 4) (eFld (rLoc 0 109) flX7_73)) (sCall (xV 262 (rLoc 0 109) gNil cvX7_37_262) rt_262))) sNop) (sSeq (sSet 5 (eIte (cOr (cQ 0 (eLoc 2) (eInt 1)) (cQ 0 (eLoc 2) (eInt 2))) (eInt 1) (eInt 0))) (sSeq (sIf (cOr (cQ 0 (eLoc 2) (eInt 3)) (cAnd (cZ 1 (eLoc 5)) (cQ 0 (eFld (rLoc 0 109) flX7_40) (eInt 6)))) (sSeq (sIf (cQ 1 (eFld (rLoc 0 109) flX7_40) (eInt 6)) (sRet (eInt 0)) sNop) (sSeq (sCall (xV 262 (rLoc 0 109) gNil cvX7_37_262) rt_262) (sSeq (sIf (cNot (cZ 1 (eCall (xV 314 (rLoc 0 109) (gI (eInt 0) gNil) cvX7_76_314) rt_314))) (sRet (eInt 0)) sNop) (sPutA 81 (rFld (rFld (rLoc 0 109) 63 flX7_15) 69 flX7_64) (eLoc 4) (eFld (rLoc 0 109) flX7_31))))) sNop) (sRet (eInt 1)))))))))))))
set_option maxRecDepth 100000 in
theorem ck_Reader_parseLine : B_Reader_parseLine.1.1 0 0 0 = some none := by decide +kernel
abbrev K_Law_fillFacts : bK := (RX4, cX4_fillFacts, 6, none, fun _ _ _ => True)
def B_Law_fillFacts : ES K_Law_fillFacts := (sSeq (sSet 3 (eAI 16 (rFld (rFld (rLoc 0 111) 79 flX4_39) 81 flX4_51) (eLoc 1))) (sSeq (sSet 4 (eAI 16 (rFld (rFld (rLoc 0 111) 79 flX4_39) 80 flX4_56) (eLoc 1))) (sSeq (sSet 5 (eAI 12 (rFld (rFld (rLoc 0 111) 37 flX4_31) 44 flX4_59) (eLoc 3))) (sSeq (sPutD 2 (eInt 0) (eAI 12 (rFld (rFld (rLoc 0 111) 37 flX4_31) 47 flX4_64) (eLoc 3))) (sSeq (sPutD 2 (eInt 1) (eAI 12 (rFld (rFld (rLoc 0 111) 37 flX4_31) 45 flX4_67) (eLoc 3))) (sSeq (sPutD 2 (eInt 2) (eAI 16 (rFld (rFld (rLoc 0 111) 37 flX4_31) 40 flX4_70) (eLoc 4))) (sSeq (sPutD 2 (eInt 3) (eAI 16 (rFld (rFld (rLoc 0 111) 37 flX4_31) 38 flX4_73) (eLoc 4))) (sSeq (sPutD 2 (eInt 4) (eCall (xV 162 (rFld (rLoc 0 111) 79 flX4_39) (gI (eLoc 1) gNil) cvX4_76_162) rt_162)) (sSeq (sPutD 2 (eInt 5) (eAI 10 (rFld (rFld (rLoc 0 111) 1 flX4_27) 6 flX4_80) (eLoc 5))) (sSeq (sPutD 2 (eInt 6) (eIte (cZ 1 (eCall (xV 145 (rFld (rLoc 0 111) 101 flX4_43) (gI (eLoc 5) gNil) cvX4_85_145) rt_145)) (eInt 1) (eInt 0))) (sSeq (sPutD 2 (eInt 7) (eIte (cZ 1 (eCall (xV 315 (rLoc 0 111) (gI (eLoc 3) gNil) cvX4_91_315) rt_315)) (eInt 1) (eInt 0))) sRetV)))))))))))
set_option maxRecDepth 100000 in
theorem ck_Law_fillFacts : B_Law_fillFacts.1.1 0 0 0 = some none := by decide +kernel
abbrev K_Law_lastNumber : bK := (RX4, cX4_lastNumber, 5, some .int, fun _ _ _ => True)
def L_Law_lastNumber_1c : EC K_Law_lastNumber := (cZ 3 (eLoc 3))
def L_Law_lastNumber_1b : ES K_Law_lastNumber := (sSeq (sSet 4 (eAdd (eMul (eLoc 1) (eInt 9)) (eLoc 3))) (sIf (cQ 0 (eAI 81 (rFld (rFld (rLoc 0 111) 63 flX4_35) 66 flX4_122) (eLoc 4)) (eLoc 2)) (sRet (eAI 81 (rFld (rFld (rLoc 0 111) 63 flX4_35) 67 flX4_114) (eLoc 4))) sNop))
def L_Law_lastNumber_1s : ES K_Law_lastNumber := (sInc 3 (-1))
def L_Law_lastNumber_1 : ES K_Law_lastNumber := sLp 48 L_Law_lastNumber_1c L_Law_lastNumber_1b L_Law_lastNumber_1s
def B_Law_lastNumber : ES K_Law_lastNumber := (sSeq (sSeq (sSet 3 (eSub (eCall (xV 266 (rFld (rLoc 0 111) 63 flX4_35) (gI (eLoc 1) gNil) cvX4_119_266) rt_266) (eInt 1))) L_Law_lastNumber_1) (sRet (eInt (-3))))
set_option maxRecDepth 100000 in
theorem ck_Law_lastNumber : B_Law_lastNumber.1.1 0 0 0 = some none := by decide +kernel
abbrev K_Act_linesOf : bK := (RX0, cX0_linesOf, 2, some .int, fun _ _ _ => True)
def B_Act_linesOf : ES K_Act_linesOf := (sRet (eIte (cZ 2 (eLoc 1)) (eInt 0) (eAI 9 (rFld (rLoc 0 63) 65 flX0_15) (eLoc 1))))
set_option maxRecDepth 100000 in
theorem ck_Act_linesOf : B_Act_linesOf.1.1 0 0 0 = some none := by decide +kernel
abbrev K_Law_holds : bK := (RX4, cX4_holds, 8, some .boolean, fun _ _ _ => True)
def L_Law_holds_1c : EC K_Law_holds := (cQ 2 (eLoc 5) (eLoc 3))
def L_Law_holds_1b : ES K_Law_holds := (sSeq (sSet 6 (eAI 720 (rFld (rFld (rLoc 0 111) 63 flX4_35) 70 flX4_135) (eAdd (eMul (eLoc 1) (eInt 80)) (eLoc 5)))) (sSeq (sSet 7 (eAnd (eLoc 4) (eInt 1))) (sSwB 163 (eLoc 6) (tCase 9 (sSeq (sSet 4 (eXor (eLoc 4) (eInt 1))) sBrk) (tCase 8 (sSeq (sSet 4 (eAnd (eShr (eLoc 4) (eInt 1)) (eOr (eLoc 7) (eInt (-2))))) sBrk) (tCase 7 (sSeq (sSet 4 (eOr (eShr (eLoc 4) (eInt 1)) (eLoc 7))) sBrk) (tCase 10 (sSeq (sSet 4 (eOr (eShl (eLoc 4) (eInt 1)) (eAI 8 (rFld (rLoc 0 111) 112 flX4_11) (eInt 6)))) sBrk) (tCase 11 (sSeq (sSet 4 (eOr (eShl (eLoc 4) (eInt 1)) (eAI 8 (rFld (rLoc 0 111) 112 flX4_11) (eInt 7)))) sBrk) (tDef (sSeq (sSet 4 (eOr (eShl (eLoc 4) (eInt 1)) (eIte (cZ 1 (eCall (xV 316 (rLoc 0 111) (gI (eLoc 6) gNil) cvX4_138_316) rt_316)) (eInt 1) (eInt 0)))) sBrk))))))))))
def L_Law_holds_1s : ES K_Law_holds := (sInc 5 1)
def L_Law_holds_1 : ES K_Law_holds := sLp 163 L_Law_holds_1c L_Law_holds_1b L_Law_holds_1s
def B_Law_holds : ES K_Law_holds := (sSeq (sSet 4 (eInt 1)) (sSeq (sSeq (sSet 5 (eLoc 2)) L_Law_holds_1) (sRet (eIte (cQ 0 (eAnd (eLoc 4) (eInt 1)) (eInt 1)) (eInt 1) (eInt 0)))))
set_option maxRecDepth 100000 in
theorem ck_Law_holds : B_Law_holds.1.1 0 0 0 = some none := by decide +kernel
abbrev K_Law_claimants : bK := (RX4, cX4_claimants, 4, some .int, fun _ _ _ => True)
def L_Law_claimants_1c : EC K_Law_claimants := (cQ 2 (eLoc 3) (eFld (rFld (rLoc 0 111) 79 flX4_39) flX4_147))
def L_Law_claimants_1b : ES K_Law_claimants := (sIf (cQ 0 (eAI 16 (rFld (rFld (rLoc 0 111) 79 flX4_39) 81 flX4_51) (eLoc 3)) (eLoc 1)) (sInc 2 1) sNop)
def L_Law_claimants_1s : ES K_Law_claimants := (sInc 3 1)
def L_Law_claimants_1 : ES K_Law_claimants := sLp 31 L_Law_claimants_1c L_Law_claimants_1b L_Law_claimants_1s
def B_Law_claimants : ES K_Law_claimants := (sSeq (sSet 2 (eInt 0)) (sSeq (sSeq (sSet 3 (eInt 0)) L_Law_claimants_1) (sRet (eLoc 2))))
set_option maxRecDepth 100000 in
theorem ck_Law_claimants : B_Law_claimants.1.1 0 0 0 = some none := by decide +kernel
abbrev K_Law_areUnlike : bK := (RX4, cX4_areUnlike, 5, some .boolean, fun _ _ _ => True)
def B_Law_areUnlike : ES K_Law_areUnlike := (sSeq (sSet 3 (eAI 16 (rFld (rFld (rLoc 0 111) 79 flX4_39) 81 flX4_51) (eLoc 1))) (sSeq (sSet 4 (eAI 16 (rFld (rFld (rLoc 0 111) 79 flX4_39) 81 flX4_51) (eLoc 2))) (sRet (eIte (cAnd (cAnd (cAnd (cAnd (cQ 1 (eAI 16 (rFld (rFld (rLoc 0 111) 79 flX4_39) 83 flX4_163) (eLoc 1)) (eInt (-3))) (cQ 1 (eAI 16 (rFld (rFld (rLoc 0 111) 79 flX4_39) 83 flX4_163) (eLoc 2)) (eInt (-3)))) (cQ 1 (eAI 16 (rFld (rFld (rLoc 0 111) 79 flX4_39) 83 flX4_163) (eLoc 1)) (eAI 16 (rFld (rFld (rLoc 0 111) 79 flX4_39) 83 flX4_163) (eLoc 2)))) (cQ 0 (eAI 12 (rFld (rFld (rLoc 0 111) 37 flX4_31) 45 flX4_67) (eLoc 3)) (eAI 12 (rFld (rFld (rLoc 0 111) 37 flX4_31) 45 flX4_67) (eLoc 4)))) (cQ 0 (eAI 12 (rFld (rFld (rLoc 0 111) 37 flX4_31) 47 flX4_64) (eLoc 3)) (eAI 12 (rFld (rFld (rLoc 0 111) 37 flX4_31) 47 flX4_64) (eLoc 4)))) (eInt 1) (eInt 0)))))
set_option maxRecDepth 100000 in
theorem ck_Law_areUnlike : B_Law_areUnlike.1.1 0 0 0 = some none := by decide +kernel
abbrev K_Law_countDifferent : bK := (RX4, cX4_countDifferent, 4, some .int, fun _ _ _ => True)
def L_Law_countDifferent_1c : EC K_Law_countDifferent := (cQ 2 (eLoc 3) (eInt 8))
def L_Law_countDifferent_1b : ES K_Law_countDifferent := (sIf (cQ 1 (eAI 8 (rFld (rLoc 0 111) 112 flX4_11) (eLoc 3)) (eAI 8 (rFld (rLoc 0 111) 113 flX4_15) (eLoc 3))) (sInc 2 1) sNop)
def L_Law_countDifferent_1s : ES K_Law_countDifferent := (sInc 3 1)
def L_Law_countDifferent_1 : ES K_Law_countDifferent := sLp 37 L_Law_countDifferent_1c L_Law_countDifferent_1b L_Law_countDifferent_1s
def B_Law_countDifferent : ES K_Law_countDifferent := (sSeq (sCall (xV 264 (rLoc 0 111) (gI (eLoc 1) (gR (rFld (rLoc 0 111) 113 flX4_15) gNil)) cvX4_47_264) rt_264) (sSeq (sSet 2 (eInt 0)) (sSeq (sSeq (sSet 3 (eInt 2)) L_Law_countDifferent_1) (sRet (eLoc 2)))))
set_option maxRecDepth 100000 in
theorem ck_Law_countDifferent : B_Law_countDifferent.1.1 0 0 0 = some none := by decide +kernel
abbrev K_Tour_takeMembers : bK := (RX9, cX9_takeMembers, 3, none, fun _ _ _ => True)
def L_Tour_takeMembers_1c : EC K_Tour_takeMembers := (cAnd (cQ 2 (eLoc 1) (eFld (rFld (rLoc 0 117) 79 flX9_38) flX9_74)) (cQ 2 (eFld (rLoc 0 117) flX9_64) (eInt 7)))
def L_Tour_takeMembers_1b : ES K_Tour_takeMembers := (sIf (cQ 0 (eAnd (eShr (eFld (rLoc 0 117) flX9_46) (eLoc 1)) (eInt 1)) (eInt 1)) (sSeq (sSet 2 (eAI 12 (rFld (rFld (rLoc 0 117) 37 flX9_34) 44 flX9_77) (eAI 16 (rFld (rFld (rLoc 0 117) 79 flX9_38) 81 flX9_82) (eLoc 1)))) (sSeq (sPutA 7 (rFld (rLoc 0 117) 120 flX9_18) (eFld (rLoc 0 117) flX9_64) (eLoc 1)) (sSeq (sPutA 7 (rFld (rLoc 0 117) 121 flX9_21) (eFld (rLoc 0 117) flX9_64) (eAI 10 (rFld (rFld (rLoc 0 117) 1 flX9_30) 6 flX9_85) (eLoc 2))) (sSeq (sPutA 7 (rFld (rLoc 0 117) 122 flX9_24) (eFld (rLoc 0 117) flX9_64) (eIte (cZ 1 (eCall (xV 145 (rFld (rLoc 0 117) 101 flX9_42) (gI (eLoc 2) gNil) cvX9_90_145) rt_145)) (eInt 3) (eInt 1))) (sOpF 0 (rLoc 0 117) (eInt 1) fpX9_64))))) sNop)
def L_Tour_takeMembers_1s : ES K_Tour_takeMembers := (sInc 1 1)
def L_Tour_takeMembers_1 : ES K_Tour_takeMembers := sLp 120 L_Tour_takeMembers_1c L_Tour_takeMembers_1b L_Tour_takeMembers_1s
def B_Tour_takeMembers : ES K_Tour_takeMembers := (sSeq (sPutI (rLoc 0 117) (eInt 0) fpX9_64) (sSeq (sSeq (sSet 1 (eInt 0)) L_Tour_takeMembers_1) sRetV))
set_option maxRecDepth 100000 in
theorem ck_Tour_takeMembers : B_Tour_takeMembers.1.1 0 0 0 = some none := by decide +kernel
abbrev K_Tour_leastCost : bK := (RX9, cX9_leastCost, 9, some .int, fun _ _ _ => True)
def L_Tour_leastCost_1c : EC K_Tour_leastCost := (cQ 2 (eLoc 6) (eFld (rLoc 0 117) flX9_64))
def L_Tour_leastCost_1b : ES K_Tour_leastCost := (sIf (cZ 0 (eAnd (eShr (eLoc 1) (eLoc 6)) (eInt 1))) (sSeq (sSet 7 (eAdd (eAbs (eSub (eAI 7 (rFld (rLoc 0 117) 121 flX9_21) (eLoc 6)) (eLoc 2)) cmX9_100) (eLoc 3))) (sSeq (sSet 8 (eCall (xV 318 (rLoc 0 117) (gI (eLoc 6) (gI (eLoc 1) (gI (eLoc 7) (gI (eLoc 4) gNil)))) cvX9_105_318) rt_318)) (sSet 5 (eIte (cOr (cZ 2 (eLoc 5)) (cQ 2 (eLoc 8) (eLoc 5))) (eLoc 8) (eLoc 5))))) sNop)
def L_Tour_leastCost_1s : ES K_Tour_leastCost := (sInc 6 1)
def L_Tour_leastCost_1 : ES K_Tour_leastCost := sLp 81 L_Tour_leastCost_1c L_Tour_leastCost_1b L_Tour_leastCost_1s
def B_Tour_leastCost : ES K_Tour_leastCost := (sSeq (sSet 4 (eCall (xV 317 (rLoc 0 117) (gI (eLoc 1) gNil) cvX9_96_317) rt_317)) (sSeq (sSet 5 (eInt (-1))) (sSeq (sSeq (sSet 6 (eInt 0)) L_Tour_leastCost_1) (sRet (eMax (eLoc 5) (eInt 0) cmX9_109)))))
set_option maxRecDepth 100000 in
theorem ck_Tour_leastCost : B_Tour_leastCost.1.1 0 0 0 = some none := by decide +kernel
abbrev K_Tour_writeRows : bK := (RX9, cX9_writeRows, 7, none, fun _ _ _ => True)
def L_Tour_writeRows_1c : EC K_Tour_writeRows := (cQ 2 (eLoc 4) (eFld (rLoc 0 117) flX9_64))
def L_Tour_writeRows_1b : ES K_Tour_writeRows := (sSeq (sSet 5 (eIte (cZ 0 (eLoc 4)) (eInt 0) (eInt 1))) (sSeq (sSet 6 (eCall (xV 319 (rLoc 0 117) (gI (eLoc 1) (gI (eLoc 2) (gI (eLoc 5) gNil))) cvX9_113_319) rt_319)) (sSeq (sSet 3 (eAdd (eLoc 3) (eAdd (eAbs (eSub (eAI 7 (rFld (rLoc 0 117) 121 flX9_21) (eLoc 6)) (eLoc 2)) cmX9_100) (eLoc 5)))) (sSeq (sSet 2 (eAI 7 (rFld (rLoc 0 117) 121 flX9_21) (eLoc 6))) (sSeq (sSet 1 (eOr (eLoc 1) (eShl (eInt 1) (eLoc 6)))) (sSeq (sPutA 7 (rFld (rLoc 0 117) 118 flX9_9) (eLoc 4) (eAI 7 (rFld (rLoc 0 117) 120 flX9_18) (eLoc 6))) (sPutA 7 (rFld (rLoc 0 117) 119 flX9_15) (eLoc 4) (eLoc 3))))))))
def L_Tour_writeRows_1s : ES K_Tour_writeRows := (sInc 4 1)
def L_Tour_writeRows_1 : ES K_Tour_writeRows := sLp 101 L_Tour_writeRows_1c L_Tour_writeRows_1b L_Tour_writeRows_1s
def B_Tour_writeRows : ES K_Tour_writeRows := (sSeq (sSet 1 (eInt 0)) (sSeq (sSet 2 (eFld (rLoc 0 117) flX9_50)) (sSeq (sSet 3 (eFld (rLoc 0 117) flX9_58)) (sSeq (sSeq (sSet 4 (eInt 0)) L_Tour_writeRows_1) (sSeq (sPutI (rLoc 0 117) (eFld (rLoc 0 117) flX9_64) fpX9_116) sRetV)))))
set_option maxRecDepth 100000 in
theorem ck_Tour_writeRows : B_Tour_writeRows.1.1 0 0 0 = some none := by decide +kernel
abbrev K_Host_kindOn : bK := (RX3, cX3_kindOn, 3, some .int, fun _ _ _ => True)
def B_Host_kindOn : ES K_Host_kindOn := (sSeq (sSet 2 (eAI 4 (rFld (rLoc 0 124) 129 flX3_24) (eLoc 1))) (sSeq (sIf (cAnd (cQ 0 (eAI 4 (rFld (rLoc 0 124) 128 flX3_21) (eLoc 1)) (eInt 1)) (cQ 2 (eLoc 2) (eFld (rFld (rLoc 0 124) 17 flX3_37) flX3_71))) (sRet (eIte (cZ 1 (eCall (xV 258 (rFld (rLoc 0 124) 17 flX3_37) (gI (eLoc 2) gNil) cvX3_77_258) rt_258)) (eInt 4) (eAI 16 (rFld (rFld (rLoc 0 124) 17 flX3_37) 18 flX3_81) (eLoc 2)))) sNop) (sSeq (sIf (cAnd (cQ 0 (eAI 4 (rFld (rLoc 0 124) 128 flX3_21) (eLoc 1)) (eInt 2)) (cQ 2 (eLoc 2) (eFld (rFld (rLoc 0 124) 79 flX3_45) flX3_84))) (sRet (eIte (cQ 0 (eAI 16 (rFld (rFld (rLoc 0 124) 79 flX3_45) 83 flX3_89) (eLoc 2)) (eInt (-3))) (eInt 5) (eInt 6))) sNop) (sRet (eInt (-1))))))
set_option maxRecDepth 100000 in
theorem ck_Host_kindOn : B_Host_kindOn.1.1 0 0 0 = some none := by decide +kernel
abbrev K_Host_isUnder : bK := (RX3, cX3_isUnder, 4, some .boolean, fun _ _ _ => True)
def L_Host_isUnder_1c : EC K_Host_isUnder := (cAnd (cAnd (cQ 2 (eLoc 3) (eInt 7)) (cZ 4 (eLoc 2))) (cQ 1 (eLoc 2) (eLoc 1)))
def L_Host_isUnder_1b : ES K_Host_isUnder := (sSet 2 (eAbove (eLoc 2) w_1589))
def L_Host_isUnder_1s : ES K_Host_isUnder := (sInc 3 1)
def L_Host_isUnder_1 : ES K_Host_isUnder := sLp 25 L_Host_isUnder_1c L_Host_isUnder_1b L_Host_isUnder_1s
def B_Host_isUnder : ES K_Host_isUnder := (sSeq (sSet 2 (eLoc 0)) (sSeq (sSeq (sSet 3 (eInt 0)) L_Host_isUnder_1) (sRet (eIte (cQ 0 (eLoc 2) (eLoc 1)) (eInt 1) (eInt 0)))))
set_option maxRecDepth 100000 in
theorem ck_Host_isUnder : B_Host_isUnder.1.1 0 0 0 = some none := by decide +kernel
abbrev K_Host_run : bK := (RX3, cX3_run, 9, some .int, fun _ _ _ => True)
def L_Host_run_1c : EC K_Host_run := (cAnd (cAnd (cQ 2 (eLoc 6) (eInt 7)) (cZ 4 (eLoc 5))) (cZ 0 (eBodies (eAdd (eMul (eLoc 5) (eInt 4)) (eLoc 2)) w_1603)))
def L_Host_run_1b : ES K_Host_run := (sSet 5 (eAbove (eLoc 5) w_1589))
def L_Host_run_1s : ES K_Host_run := (sInc 6 1)
def L_Host_run_1 : ES K_Host_run := sLp 39 L_Host_run_1c L_Host_run_1b L_Host_run_1s
def B_Host_run : ES K_Host_run := (sSeq (sSet 5 (eLoc 1)) (sSeq (sSeq (sSet 6 (eInt 0)) L_Host_run_1) (sSeq (sIf (cOr (cZ 2 (eLoc 5)) (cQ 4 (eLoc 4) (eInt 30))) (sRet (eInt 0)) sNop) (sSeq (sSet 6 (eBodies (eAdd (eMul (eLoc 5) (eInt 4)) (eLoc 2)) w_1603)) (sSeq (sCall (xV 320 (rLoc 0 124) (gI (eLoc 6) gNil) cvX3_139_320) rt_320) (sSeq (sSet 7 (eAbove (eLoc 5) w_1589)) (sSeq (sSet 8 (eAdd (eLoc 4) (eInt 1))) (sSw (eLoc 6) (tCase 10 (sRet (eAdd (eLoc 3) (eFld (rLoc 0 124) flX3_109))) (tCase 11 (sRet (eMul (eCall (xV 276 (rLoc 0 124) (gI (eFld (rLoc 0 124) flX3_95) (gI (eInt 0) (gI (eLoc 3) (gI (eLoc 8) gNil)))) cvX3_132_276) rt_276) (eInt 2))) (tCase 12 (sRet (eSub (eCall (xV 276 (rLoc 0 124) (gI (eFld (rLoc 0 124) flX3_95) (gI (eInt 1) (gI (eLoc 3) (gI (eLoc 8) gNil)))) cvX3_132_276) rt_276) (eFld (rLoc 0 124) flX3_103))) (tCase 13 (sRet (eCall (xV 321 (rLoc 0 124) (gI (eLoc 3) gNil) cvX3_143_321) rt_321)) (tCase 20 (sRet (eXor (eCall (xV 276 (rLoc 0 124) (gI (eLoc 7) (gI (eInt 0) (gI (eLoc 3) (gI (eLoc 8) gNil)))) cvX3_132_276) rt_276) (eFld (rLoc 0 124) flX3_97))) (tCase 30 (sRet (eAdd (eCall (xV 276 (rLoc 0 124) (gI (eLoc 7) (gI (eInt 2) (gI (eLoc 3) (gI (eLoc 8) gNil)))) cvX3_132_276) rt_276) (eCall (xV 276 (rLoc 0 124) (gI (eFld (rLoc 0 124) flX3_95) (gI (eInt 0) (gI (eInt 1) (gI (eLoc 8) gNil)))) cvX3_132_276) rt_276))) (tCase 40 (sRet (eSub (eInt 0) (eCall (xV 276 (rLoc 0 124) (gI (eLoc 7) (gI (eInt 1) (gI (eLoc 3) (gI (eLoc 8) gNil)))) cvX3_132_276) rt_276))) (tCase 41 (sRet (eCall (xV 276 (rLoc 0 124) (gI (eLoc 7) (gI (eInt 3) (gI (eAdd (eLoc 3) (eInt 3)) (gI (eLoc 8) gNil)))) cvX3_132_276) rt_276)) (tCase 50 (sRet (eCall (xV 276 (rLoc 0 124) (gI (eLoc 7) (gI (eInt 0) (gI (eSub (eLoc 3) (eInt 1)) (gI (eLoc 8) gNil)))) cvX3_132_276) rt_276)) (tCase 51 (sRet (eMul (eCall (xV 276 (rLoc 0 124) (gI (eLoc 7) (gI (eInt 1) (gI (eLoc 3) (gI (eLoc 8) gNil)))) cvX3_132_276) rt_276) (eInt 3))) (tCase 60 (sRet (eMul (eCall (xV 276 (rLoc 0 124) (gI (eLoc 7) (gI (eInt 2) (gI (eLoc 3) (gI (eLoc 8) gNil)))) cvX3_132_276) rt_276) (eInt 2))) (tCase 61 (sRet (eSub (eInt 0) (eCall (xV 276 (rLoc 0 124) (gI (eLoc 7) (gI (eInt 3) (gI (eLoc 3) (gI (eLoc 8) gNil)))) cvX3_132_276) rt_276))) (tCase 70 (sRet (eAdd (eCall (xV 276 (rLoc 0 124) (gI (eLoc 7) (gI (eInt 2) (gI (eLoc 3) (gI (eLoc 8) gNil)))) cvX3_132_276) rt_276) (eCall (xV 276 (rLoc 0 124) (gI (eFld (rLoc 0 124) flX3_95) (gI (eInt 1) (gI (eFld (rLoc 0 124) flX3_97) (gI (eLoc 8) gNil)))) cvX3_132_276) rt_276))) (tCase 71 (sRet (eAdd (eCall (xV 276 (rLoc 0 124) (gI (eLoc 7) (gI (eInt 0) (gI (eLoc 3) (gI (eLoc 8) gNil)))) cvX3_132_276) rt_276) (eInt 5))) (tDef (sRet (eInt 0)))))))))))))))))))))))))
set_option maxRecDepth 100000 in
theorem ck_Host_run : B_Host_run.1.1 0 0 0 = some none := by decide +kernel
abbrev K_Night_tableNumber : bK := (RX5, cX5_tableNumber, 3, some .int, fun _ _ _ => True)
def B_Night_tableNumber : ES K_Night_tableNumber := (sSeq (sSet 2 (eSub (eAI 3 (rFld (rFld (rLoc 0 93) 1 flX5_33) 5 flX5_139) (eFld (rLoc 0 93) flX5_45)) (eInt 1))) (sRet (eAI 24 (rFld (rFld (rLoc 0 93) 1 flX5_33) 4 flX5_142) (eAdd (eMul (eFld (rLoc 0 93) flX5_45) (eInt 8)) (eIte (cQ 2 (eLoc 1) (eLoc 2)) (eLoc 1) (eLoc 2))))))
set_option maxRecDepth 100000 in
theorem ck_Night_tableNumber : B_Night_tableNumber.1.1 0 0 0 = some none := by decide +kernel
abbrev K_Night_breakHouses : bK := (RX5, cX5_breakHouses, 4, none, fun _ _ _ => True)
def L_Night_breakHouses_1c : EC K_Night_breakHouses := (cQ 2 (eLoc 3) (eFld (rFld (rLoc 0 93) 1 flX5_33) flX5_93))
def L_Night_breakHouses_1b : ES K_Night_breakHouses := (sIf (cAnd (cAnd (cQ 0 (eAI 10 (rFld (rFld (rLoc 0 93) 1 flX5_33) 6 flX5_116) (eLoc 3)) (eLoc 1)) (cQ 0 (eAI 10 (rFld (rLoc 0 93) 98 flX5_24) (eLoc 3)) (eInt (-3)))) (cQ 3 (eAI 12 (rFld (rLoc 0 93) 96 flX5_18) (eLoc 1)) (eAI 10 (rFld (rFld (rLoc 0 93) 1 flX5_33) 7 flX5_158) (eLoc 3)))) (sSeq (sPutA 10 (rFld (rLoc 0 93) 98 flX5_24) (eLoc 3) (eLoc 2)) (sSeq (sOpA 12 0 (rFld (rLoc 0 93) 95 flX5_15) (eLoc 1) (eIte (cQ 2 (eAI 12 (rFld (rLoc 0 93) 95 flX5_15) (eLoc 1)) (eInt 9)) (eInt 1) (eInt 0))) (sOpF 2 (rLoc 0 93) (eShl (eInt 1) (eLoc 3)) fpX5_71))) sNop)
def L_Night_breakHouses_1s : ES K_Night_breakHouses := (sInc 3 1)
def L_Night_breakHouses_1 : ES K_Night_breakHouses := sLp 99 L_Night_breakHouses_1c L_Night_breakHouses_1b L_Night_breakHouses_1s
def B_Night_breakHouses : ES K_Night_breakHouses := (sSeq (sSeq (sSet 3 (eInt 0)) L_Night_breakHouses_1) sRetV)
set_option maxRecDepth 100000 in
theorem ck_Night_breakHouses : B_Night_breakHouses.1.1 0 0 0 = some none := by decide +kernel
abbrev K_Night_stopClocks : bK := (RX5, cX5_stopClocks, 4, none, fun _ _ _ => True)
def L_Night_stopClocks_1c : EC K_Night_stopClocks := (cQ 2 (eLoc 3) (eFld (rFld (rLoc 0 93) 17 flX5_37) flX5_161))
def L_Night_stopClocks_1b : ES K_Night_stopClocks := (sIf (cAnd (cAnd (cAnd (cQ 0 (eAI 16 (rFld (rFld (rLoc 0 93) 17 flX5_37) 18 flX5_166) (eLoc 3)) (eInt 1)) (cQ 0 (eAI 16 (rFld (rFld (rLoc 0 93) 17 flX5_37) 19 flX5_169) (eLoc 3)) (eLoc 1))) (cQ 0 (eAI 16 (rFld (rLoc 0 93) 99 flX5_27) (eLoc 3)) (eInt (-3)))) (cQ 3 (eAI 12 (rFld (rLoc 0 93) 96 flX5_18) (eLoc 1)) (eAI 16 (rFld (rFld (rLoc 0 93) 17 flX5_37) 23 flX5_172) (eLoc 3)))) (sPutA 16 (rFld (rLoc 0 93) 99 flX5_27) (eLoc 3) (eLoc 2)) sNop)
def L_Night_stopClocks_1s : ES K_Night_stopClocks := (sInc 3 1)
def L_Night_stopClocks_1 : ES K_Night_stopClocks := sLp 75 L_Night_stopClocks_1c L_Night_stopClocks_1b L_Night_stopClocks_1s
def B_Night_stopClocks : ES K_Night_stopClocks := (sSeq (sSeq (sSet 3 (eInt 0)) L_Night_stopClocks_1) sRetV)
set_option maxRecDepth 100000 in
theorem ck_Night_stopClocks : B_Night_stopClocks.1.1 0 0 0 = some none := by decide +kernel
abbrev K_Nights_clocksAndMarksAgainst : bK := (RX6, cX6_clocksAndMarksAgainst, 5, some .int, fun _ _ _ => True)
def L_Nights_clocksAndMarksAgainst_1c : EC K_Nights_clocksAndMarksAgainst := (cQ 2 (eLoc 2) (eFld (rFld (rLoc 0 101) 17 flX6_42) flX6_92))
def L_Nights_clocksAndMarksAgainst_1b : ES K_Nights_clocksAndMarksAgainst := (sSeq (sIf (cQ 0 (eAI 16 (rFld (rFld (rLoc 0 101) 17 flX6_42) 18 flX6_97) (eLoc 2)) (eInt 3)) sCnt sNop) (sSeq (sSet 3 (eIte (cQ 0 (eAI 16 (rFld (rFld (rLoc 0 101) 17 flX6_42) 18 flX6_97) (eLoc 2)) (eInt 1)) (eInt 1) (eInt 0))) (sSeq (sSet 4 (eIte (cZ 1 (eLoc 3)) (eAI 16 (rFld (rFld (rLoc 0 101) 93 flX6_50) 99 flX6_100) (eLoc 2)) (eAI 12 (rFld (rFld (rLoc 0 101) 93 flX6_50) 96 flX6_103) (eAI 16 (rFld (rFld (rLoc 0 101) 17 flX6_42) 19 flX6_106) (eLoc 2))))) (sIf (cOr (cQ 0 (eLoc 4) (eInt (-3))) (cNot (cZ 1 (eCall (xN 117 (gI (eLoc 4) (gI (eAI 16 (rFld (rFld (rLoc 0 101) 17 flX6_42) 21 flX6_109) (eLoc 2)) (gI (eAI 16 (rFld (rFld (rLoc 0 101) 17 flX6_42) 22 flX6_112) (eLoc 2)) gNil))) cnX6_115) rt_117)))) (sSet 1 (eOr (eLoc 1) (eShl (eInt 1) (eLoc 2)))) sNop))))
def L_Nights_clocksAndMarksAgainst_1s : ES K_Nights_clocksAndMarksAgainst := (sInc 2 1)
def L_Nights_clocksAndMarksAgainst_1 : ES K_Nights_clocksAndMarksAgainst := sLp 124 L_Nights_clocksAndMarksAgainst_1c L_Nights_clocksAndMarksAgainst_1b L_Nights_clocksAndMarksAgainst_1s
def B_Nights_clocksAndMarksAgainst : ES K_Nights_clocksAndMarksAgainst := (sSeq (sSet 1 (eInt 0)) (sSeq (sSeq (sSet 2 (eInt 0)) L_Nights_clocksAndMarksAgainst_1) (sRet (eLoc 1))))
set_option maxRecDepth 100000 in
theorem ck_Nights_clocksAndMarksAgainst : B_Nights_clocksAndMarksAgainst.1.1 0 0 0 = some none := by decide +kernel
abbrev K_Folk_isFit : bK := (RX2, cX2_isFit, 3, some .boolean, fun _ _ _ => True)
def B_Folk_isFit : ES K_Folk_isFit := (sRet (eIte (cAnd (cAnd (cQ 0 (eAI 16 (rFld (rLoc 0 37) 42 flX2_25) (eLoc 1)) (eAI 16 (rFld (rLoc 0 37) 38 flX2_9) (eLoc 2))) (cNot (cZ 1 (eAZ 16 (rFld (rLoc 0 37) 41 flX2_21) (eLoc 2))))) (cOr (cQ 0 (eAI 16 (rFld (rLoc 0 37) 43 flX2_28) (eLoc 1)) (eInt (-1))) (cQ 0 (eAI 16 (rFld (rLoc 0 37) 43 flX2_28) (eLoc 1)) (eAI 16 (rFld (rLoc 0 37) 39 flX2_15) (eLoc 2))))) (eInt 1) (eInt 0)))
set_option maxRecDepth 100000 in
theorem ck_Folk_isFit : B_Folk_isFit.1.1 0 0 0 = some none := by decide +kernel
abbrev K_Reader_isLetter : bK := (RX7, cX7_isLetter, 1, some .boolean, fun _ _ _ => True)
def B_Reader_isLetter : ES K_Reader_isLetter := (sRet (eIte (cAnd (cQ 3 (eLoc 0) (eInt 97)) (cQ 5 (eLoc 0) (eInt 122))) (eInt 1) (eInt 0)))
set_option maxRecDepth 100000 in
theorem ck_Reader_isLetter : B_Reader_isLetter.1.1 0 0 0 = some none := by decide +kernel
abbrev K_Reader_wordNumber : bK := (RX7, cX7_wordNumber, 6, some .int, fun _ _ _ => True)
def L_Reader_wordNumber_1c : EC K_Reader_wordNumber := (cQ 2 (eLoc 4) (eCall (xT 326 gNil ctL) rt_326))
def L_Reader_wordNumber_1b : ES K_Reader_wordNumber := (sSeq (sSet 5 (eCallC (xT 327 (gI (eLoc 4) gNil) ctC) rfl)) (sIf (cQ 0 (eLoc 5) (eInt 32)) (sSeq (sIf (cAnd (cZ 1 (eLoc 3)) (cQ 0 (eLoc 2) (eFld (rLoc 0 109) flX7_34))) (sRet (eLoc 1)) sNop) (sSeq (sInc 1 1) (sSeq (sSet 2 (eFld (rLoc 0 109) flX7_47)) (sSet 3 (eInt 1))))) (sSeq (sSet 3 (eIte (cAnd (cAnd (cZ 1 (eLoc 3)) (cQ 2 (eLoc 2) (eFld (rLoc 0 109) flX7_34))) (cQ 0 (eAB 240 (rFld (rLoc 0 109) 110 flX7_9) (eLoc 2)) (eLoc 5))) (eInt 1) (eInt 0))) (sInc 2 1))))
def L_Reader_wordNumber_1s : ES K_Reader_wordNumber := (sInc 4 1)
def L_Reader_wordNumber_1 : ES K_Reader_wordNumber := sLp 97 L_Reader_wordNumber_1c L_Reader_wordNumber_1b L_Reader_wordNumber_1s
def B_Reader_wordNumber : ES K_Reader_wordNumber := (sSeq (sSet 1 (eInt 1)) (sSeq (sSet 2 (eFld (rLoc 0 109) flX7_47)) (sSeq (sSet 3 (eInt 1)) (sSeq (sSeq (sSet 4 (eInt 0)) L_Reader_wordNumber_1) (sRet (eInt 18))))))
set_option maxRecDepth 100000 in
theorem ck_Reader_wordNumber : B_Reader_wordNumber.1.1 0 0 0 = some none := by decide +kernel
abbrev K_Reader_isDigit : bK := (RX7, cX7_isDigit, 1, some .boolean, fun _ _ _ => True)
def B_Reader_isDigit : ES K_Reader_isDigit := (sRet (eIte (cAnd (cQ 3 (eLoc 0) (eInt 48)) (cQ 5 (eLoc 0) (eInt 57))) (eInt 1) (eInt 0)))
set_option maxRecDepth 100000 in
theorem ck_Reader_isDigit : B_Reader_isDigit.1.1 0 0 0 = some none := by decide +kernel
abbrev K_Reader_numberValue : bK := (RX7, cX7_numberValue, 3, some .int, fun _ _ _ => True)
def L_Reader_numberValue_1c : EC K_Reader_numberValue := (cQ 2 (eLoc 2) (eFld (rLoc 0 109) flX7_34))
def L_Reader_numberValue_1b : ES K_Reader_numberValue := (sSet 1 (eSub (eAdd (eMul (eLoc 1) (eInt 10)) (eAB 240 (rFld (rLoc 0 109) 110 flX7_9) (eLoc 2))) (eInt 48)))
def L_Reader_numberValue_1s : ES K_Reader_numberValue := (sInc 2 1)
def L_Reader_numberValue_1 : ES K_Reader_numberValue := sLp 45 L_Reader_numberValue_1c L_Reader_numberValue_1b L_Reader_numberValue_1s
def B_Reader_numberValue : ES K_Reader_numberValue := (sSeq (sIf (cQ 4 (eSub (eFld (rLoc 0 109) flX7_34) (eFld (rLoc 0 109) flX7_47)) (eInt 3)) (sRet (eInt (-1))) sNop) (sSeq (sSet 1 (eInt 0)) (sSeq (sSeq (sSet 2 (eFld (rLoc 0 109) flX7_47)) L_Reader_numberValue_1) (sRet (eLoc 1)))))
set_option maxRecDepth 100000 in
theorem ck_Reader_numberValue : B_Reader_numberValue.1.1 0 0 0 = some none := by decide +kernel
abbrev K_Reader_mostOf : bK := (RX7, cX7_mostOf, 1, some .int, fun _ _ _ => True)
def B_Reader_mostOf : ES K_Reader_mostOf := (sSw (eLoc 0) (tCase 1 (sRet (eInt 100)) (tCase 2 (sRet (eInt 9)) (tCase 4 (sRet (eInt 999)) (tCase 5 (sRet (eInt 999)) (tDef (sRet (eInt (-1)))))))))
set_option maxRecDepth 100000 in
theorem ck_Reader_mostOf : B_Reader_mostOf.1.1 0 0 0 = some none := by decide +kernel
abbrev K_Reader_isNumber : bK := (RX7, cX7_isNumber, 2, some .boolean, fun _ _ _ => True)
def B_Reader_isNumber : ES K_Reader_isNumber := (sRet (eIte (cAnd (cQ 0 (eFld (rLoc 0 109) flX7_40) (eInt 19)) (cZ 1 (eCall (xN 117 (gI (eFld (rLoc 0 109) flX7_73) (gI (eInt 0) (gI (eLoc 1) gNil))) cnX7_86) rt_117))) (eInt 1) (eInt 0)))
set_option maxRecDepth 100000 in
theorem ck_Reader_isNumber : B_Reader_isNumber.1.1 0 0 0 = some none := by decide +kernel
abbrev K_Reader_parseCond : bK := (RX7, cX7_parseCond, 4, some .boolean, fun _ _ _ => True)
def L_Reader_parseCond_2c : EC K_Reader_parseCond := (cAnd (cQ 2 (eLoc 3) (eInt 240)) (cQ 0 (eFld (rLoc 0 109) flX7_40) (eInt 8)))
def L_Reader_parseCond_2b : ES K_Reader_parseCond := (sSeq (sCall (xV 262 (rLoc 0 109) gNil cvX7_37_262) rt_262) (sSeq (sIf (cNot (cZ 1 (eCall (xV 328 (rLoc 0 109) (gI (eLoc 1) gNil) cvX7_79_328) rt_328))) (sRet (eInt 0)) sNop) (sCall (xV 329 (rLoc 0 109) (gI (eInt 8) gNil) cvX7_82_329) rt_329)))
def L_Reader_parseCond_2s : ES K_Reader_parseCond := (sInc 3 1)
def L_Reader_parseCond_2 : ES K_Reader_parseCond := sLp 57 L_Reader_parseCond_2c L_Reader_parseCond_2b L_Reader_parseCond_2s
def L_Reader_parseCond_1c : EC K_Reader_parseCond := (cQ 2 (eLoc 2) (eInt 240))
def L_Reader_parseCond_1b : ES K_Reader_parseCond := (sSeq (sIf (cNot (cZ 1 (eCall (xV 328 (rLoc 0 109) (gI (eLoc 1) gNil) cvX7_79_328) rt_328))) (sRet (eInt 0)) sNop) (sSeq (sSeq (sSet 3 (eInt 0)) L_Reader_parseCond_2) (sSeq (sIf (cZ 4 (eLoc 2)) (sCall (xV 329 (rLoc 0 109) (gI (eInt 7) gNil) cvX7_82_329) rt_329) sNop) (sSeq (sIf (cQ 1 (eFld (rLoc 0 109) flX7_40) (eInt 7)) (sRet (eInt 1)) sNop) (sCall (xV 262 (rLoc 0 109) gNil cvX7_37_262) rt_262)))))
def L_Reader_parseCond_1s : ES K_Reader_parseCond := (sInc 2 1)
def L_Reader_parseCond_1 : ES K_Reader_parseCond := sLp 88 L_Reader_parseCond_1c L_Reader_parseCond_1b L_Reader_parseCond_1s
def B_Reader_parseCond : ES K_Reader_parseCond := (sSeq (sSeq (sSet 2 (eInt 0)) L_Reader_parseCond_1) (sRet (eInt 0)))
set_option maxRecDepth 100000 in
theorem ck_Reader_parseCond : B_Reader_parseCond.1.1 0 0 0 = some none := by decide +kernel
abbrev K_Law_hasFind : bK := (RX4, cX4_hasFind, 3, some .boolean, fun _ _ _ => True)
def L_Law_hasFind_1c : EC K_Law_hasFind := (cQ 2 (eLoc 2) (eFld (rFld (rLoc 0 111) 37 flX4_31) flX4_94))
def L_Law_hasFind_1b : ES K_Law_hasFind := (sIf (cZ 1 (eCall (xV 155 (rFld (rLoc 0 111) 101 flX4_43) (gI (eLoc 2) (gI (eLoc 1) gNil)) cvX4_98_155) rt_155)) (sRet (eInt 1)) sNop)
def L_Law_hasFind_1s : ES K_Law_hasFind := (sInc 2 1)
def L_Law_hasFind_1 : ES K_Law_hasFind := sLp 27 L_Law_hasFind_1c L_Law_hasFind_1b L_Law_hasFind_1s
def B_Law_hasFind : ES K_Law_hasFind := (sSeq (sSeq (sSet 2 (eInt 0)) L_Law_hasFind_1) (sRet (eInt 0)))
set_option maxRecDepth 100000 in
theorem ck_Law_hasFind : B_Law_hasFind.1.1 0 0 0 = some none := by decide +kernel
abbrev K_Law_compares : bK := (RX4, cX4_compares, 5, some .boolean, fun _ _ _ => True)
def B_Law_compares : ES K_Law_compares := (sSeq (sSet 2 (eSub (eAnd (eLoc 1) (eInt 255)) (eInt 12))) (sSeq (sSet 3 (eAnd (eShr (eLoc 1) (eInt 8)) (eInt 255))) (sSeq (sSet 4 (eShr (eLoc 1) (eInt 16))) (sSeq (sIf (cOr (cZ 2 (eLoc 2)) (cQ 3 (eLoc 2) (eInt 8))) (sRet (eInt 0)) sNop) (sRet (eIte (cQ 0 (eLoc 3) (eInt 60)) (eIte (cQ 2 (eAI 8 (rFld (rLoc 0 111) 112 flX4_11) (eLoc 2)) (eLoc 4)) (eInt 1) (eInt 0)) (eIte (cQ 0 (eLoc 3) (eInt 62)) (eIte (cQ 4 (eAI 8 (rFld (rLoc 0 111) 112 flX4_11) (eLoc 2)) (eLoc 4)) (eInt 1) (eInt 0)) (eIte (cQ 0 (eAI 8 (rFld (rLoc 0 111) 112 flX4_11) (eLoc 2)) (eLoc 4)) (eInt 1) (eInt 0)))))))))
set_option maxRecDepth 100000 in
theorem ck_Law_compares : B_Law_compares.1.1 0 0 0 = some none := by decide +kernel
abbrev K_Tour_waiting : bK := (RX9, cX9_waiting, 4, some .int, fun _ _ _ => True)
def L_Tour_waiting_1c : EC K_Tour_waiting := (cQ 2 (eLoc 3) (eFld (rLoc 0 117) flX9_64))
def L_Tour_waiting_1b : ES K_Tour_waiting := (sIf (cZ 0 (eAnd (eShr (eLoc 1) (eLoc 3)) (eInt 1))) (sSet 2 (eAdd (eLoc 2) (eAI 7 (rFld (rLoc 0 117) 122 flX9_24) (eLoc 3)))) sNop)
def L_Tour_waiting_1s : ES K_Tour_waiting := (sInc 3 1)
def L_Tour_waiting_1 : ES K_Tour_waiting := sLp 29 L_Tour_waiting_1c L_Tour_waiting_1b L_Tour_waiting_1s
def B_Tour_waiting : ES K_Tour_waiting := (sSeq (sSet 2 (eInt 0)) (sSeq (sSeq (sSet 3 (eInt 0)) L_Tour_waiting_1) (sRet (eLoc 2))))
set_option maxRecDepth 100000 in
theorem ck_Tour_waiting : B_Tour_waiting.1.1 0 0 0 = some none := by decide +kernel
abbrev K_Tour_costVia : bK := (RX9, cX9_costVia, 5, some .int, fun _ _ _ => True)
def B_Tour_costVia : ES K_Tour_costVia := (sRet (eAdd (eMul (eLoc 3) (eLoc 4)) (eAI 896 (rFld (rLoc 0 117) 123 flX9_27) (eAdd (eMul (eOr (eLoc 2) (eShl (eInt 1) (eLoc 1))) (eInt 7)) (eLoc 1)))))
set_option maxRecDepth 100000 in
theorem ck_Tour_costVia : B_Tour_costVia.1.1 0 0 0 = some none := by decide +kernel
abbrev K_Tour_bestNext : bK := (RX9, cX9_bestNext, 8, some .int, fun _ _ _ => True)
def L_Tour_bestNext_1c : EC K_Tour_bestNext := (cQ 2 (eLoc 6) (eFld (rLoc 0 117) flX9_64))
def L_Tour_bestNext_1b : ES K_Tour_bestNext := (sSeq (sSet 7 (eAdd (eAbs (eSub (eAI 7 (rFld (rLoc 0 117) 121 flX9_21) (eLoc 6)) (eLoc 2)) cmX9_100) (eLoc 3))) (sIf (cAnd (cZ 0 (eAnd (eShr (eLoc 1) (eLoc 6)) (eInt 1))) (cQ 0 (eCall (xV 318 (rLoc 0 117) (gI (eLoc 6) (gI (eLoc 1) (gI (eLoc 7) (gI (eLoc 4) gNil)))) cvX9_105_318) rt_318) (eLoc 5))) (sRet (eLoc 6)) sNop))
def L_Tour_bestNext_1s : ES K_Tour_bestNext := (sInc 6 1)
def L_Tour_bestNext_1 : ES K_Tour_bestNext := sLp 72 L_Tour_bestNext_1c L_Tour_bestNext_1b L_Tour_bestNext_1s
def B_Tour_bestNext : ES K_Tour_bestNext := (sSeq (sSet 4 (eCall (xV 317 (rLoc 0 117) (gI (eLoc 1) gNil) cvX9_96_317) rt_317)) (sSeq (sSet 5 (eCall (xV 272 (rLoc 0 117) (gI (eLoc 1) (gI (eLoc 2) (gI (eLoc 3) gNil))) cvX9_67_272) rt_272)) (sSeq (sSeq (sSet 6 (eInt 0)) L_Tour_bestNext_1) (sRet (eInt 0)))))
set_option maxRecDepth 100000 in
theorem ck_Tour_bestNext : B_Tour_bestNext.1.1 0 0 0 = some none := by decide +kernel
abbrev K_Host_note : bK := (RX3, cX3_note, 2, none, fun _ _ _ => True)
def B_Host_note : ES K_Host_note := (sSeq (sIf (cQ 2 (eFld (rLoc 0 124) flX3_146) (eInt 30)) (sSeq (sPutA 30 (rFld (rLoc 0 124) 131 flX3_30) (eFld (rLoc 0 124) flX3_146) (eLoc 1)) (sOpF 0 (rLoc 0 124) (eInt 1) fpX3_146)) sNop) sRetV)
set_option maxRecDepth 100000 in
theorem ck_Host_note : B_Host_note.1.1 0 0 0 = some none := by decide +kernel
abbrev K_Host_parted : bK := (RX3, cX3_parted, 2, some .int, fun _ _ _ => True)
def B_Host_parted : ES K_Host_parted := (sSeq (sIf (cQ 0 (eFld (rLoc 0 124) flX3_103) (eFld (rLoc 0 124) flX3_97)) (sSeq (sPutZ (rLoc 0 124) (eInt 1) fpX3_128) (sRet (eInt 0))) sNop) (sRet (eDiv (eLoc 1) (eSub (eFld (rLoc 0 124) flX3_103) (eFld (rLoc 0 124) flX3_97)))))
set_option maxRecDepth 100000 in
theorem ck_Host_parted : B_Host_parted.1.1 0 0 0 = some none := by decide +kernel
abbrev K_Reader_parseOne : bK := (RX7, cX7_parseOne, 4, some .boolean, fun _ _ _ => True)
def L_Reader_parseOne_1c : EC K_Reader_parseOne := (cAnd (cQ 2 (eLoc 3) (eInt 240)) (cQ 0 (eFld (rLoc 0 109) flX7_40) (eInt 9)))
def L_Reader_parseOne_1b : ES K_Reader_parseOne := (sSeq (sSet 2 (eIte (cNot (cZ 1 (eLoc 2))) (eInt 1) (eInt 0))) (sCall (xV 262 (rLoc 0 109) gNil cvX7_37_262) rt_262))
def L_Reader_parseOne_1s : ES K_Reader_parseOne := (sInc 3 1)
def L_Reader_parseOne_1 : ES K_Reader_parseOne := sLp 34 L_Reader_parseOne_1c L_Reader_parseOne_1b L_Reader_parseOne_1s
def B_Reader_parseOne : ES K_Reader_parseOne := (sSeq (sSet 2 (eInt 0)) (sSeq (sSeq (sSet 3 (eInt 0)) L_Reader_parseOne_1) (sSeq (sSet 3 (eInt 0)) (sSeq (sIf (cOr (cQ 0 (eFld (rLoc 0 109) flX7_40) (eInt 10)) (cQ 0 (eFld (rLoc 0 109) flX7_40) (eInt 11))) (sSeq (sCall (xV 329 (rLoc 0 109) (gI (eFld (rLoc 0 109) flX7_40) gNil) cvX7_82_329) rt_329) (sSeq (sCall (xV 262 (rLoc 0 109) gNil cvX7_37_262) rt_262) (sSet 3 (eInt 1)))) (sIf (cZ 1 (eCall (xN 117 (gI (eFld (rLoc 0 109) flX7_40) (gI (eInt 12) (gI (eInt 17) gNil))) cnX7_86) rt_117)) (sSet 3 (eCall (xV 331 (rLoc 0 109) gNil cvX7_90_331) rt_331)) (sIf (cAnd (cQ 0 (eFld (rLoc 0 109) flX7_40) (eInt 140)) (cQ 2 (eLoc 1) (eInt 4))) (sSeq (sCall (xV 262 (rLoc 0 109) gNil cvX7_37_262) rt_262) (sSeq (sSet 3 (eIte (cAnd (cZ 1 (eCall (xV 314 (rLoc 0 109) (gI (eAdd (eLoc 1) (eInt 1)) gNil) cvX7_76_314) rt_314)) (cQ 0 (eFld (rLoc 0 109) flX7_40) (eInt 141))) (eInt 1) (eInt 0))) (sIf (cZ 1 (eLoc 3)) (sCall (xV 262 (rLoc 0 109) gNil cvX7_37_262) rt_262) sNop))) sNop))) (sSeq (sIf (cAnd (cZ 1 (eLoc 3)) (cZ 1 (eLoc 2))) (sCall (xV 329 (rLoc 0 109) (gI (eInt 9) gNil) cvX7_82_329) rt_329) sNop) (sRet (eLoc 3)))))))
set_option maxRecDepth 100000 in
theorem ck_Reader_parseOne : B_Reader_parseOne.1.1 0 0 0 = some none := by decide +kernel
abbrev K_Reader_emit : bK := (RX7, cX7_emit, 2, none, fun _ _ _ => True)
def B_Reader_emit : ES K_Reader_emit := (sSeq (sIf (cQ 2 (eFld (rLoc 0 109) flX7_31) (eInt 80)) (sSeq (sPutA 720 (rFld (rFld (rLoc 0 109) 63 flX7_15) 70 flX7_94) (eAdd (eMul (eFld (rLoc 0 109) flX7_28) (eInt 80)) (eFld (rLoc 0 109) flX7_31)) (eLoc 1)) (sOpF 0 (rLoc 0 109) (eInt 1) fpX7_31)) sNop) sRetV)
set_option maxRecDepth 100000 in
theorem ck_Reader_emit : B_Reader_emit.1.1 0 0 0 = some none := by decide +kernel
abbrev K_Reader_parseCompare : bK := (RX7, cX7_parseCompare, 3, some .boolean, fun _ _ _ => True)
def B_Reader_parseCompare : ES K_Reader_parseCompare := (sSeq (sSet 1 (eFld (rLoc 0 109) flX7_40)) (sSeq (sCall (xV 262 (rLoc 0 109) gNil cvX7_37_262) rt_262) (sSeq (sSet 2 (eSub (eFld (rLoc 0 109) flX7_40) (eInt 100))) (sSeq (sIf (cAnd (cAnd (cQ 1 (eLoc 2) (eInt 60)) (cQ 1 (eLoc 2) (eInt 61))) (cQ 1 (eLoc 2) (eInt 62))) (sRet (eInt 0)) sNop) (sSeq (sCall (xV 262 (rLoc 0 109) gNil cvX7_37_262) rt_262) (sSeq (sIf (cNot (cZ 1 (eCall (xV 313 (rLoc 0 109) (gI (eInt 999) gNil) cvX7_67_313) rt_313))) (sRet (eInt 0)) sNop) (sSeq (sCall (xV 329 (rLoc 0 109) (gI (eOr (eOr (eLoc 1) (eShl (eLoc 2) (eInt 8))) (eShl (eFld (rLoc 0 109) flX7_73) (eInt 16))) gNil) cvX7_82_329) rt_329) (sSeq (sCall (xV 262 (rLoc 0 109) gNil cvX7_37_262) rt_262) (sRet (eInt 1))))))))))
set_option maxRecDepth 100000 in
theorem ck_Reader_parseCompare : B_Reader_parseCompare.1.1 0 0 0 = some none := by decide +kernel
