/-! links -/
theorem csX11_113 : bCS RX11 113 116 1 := bCS_of (y := yX11_isReach) inf_116 w_834 w_835 w_111 w_111 w_836 ⟨by decide, by decide, by decide +kernel⟩
theorem rt_116 : brt 116 1 := Or.inr rfl
theorem csX11_117 : bCS RX11 117 117 3 := bCS_of (y := yX11_within) inf_117 w_837 w_838 w_111 w_111 w_839 ⟨by decide, by decide, by decide +kernel⟩
theorem rt_117 : brt 117 1 := Or.inr rfl
theorem flX11_10 : bFL RX11 10 11 0 := ⟨_, _, ci11, (by decide), w_778⟩
theorem flX11_121 : bFL RX11 121 10 0 := ⟨_, _, ci10, (by decide), w_150⟩
theorem flX11_125 : bFL RX11 125 10 1 := ⟨_, _, ci10, (by decide), w_153⟩
theorem flX11_73 : bFL RX11 73 11 11 := ⟨_, _, ci11, (by decide), w_789⟩
theorem cvX11_128_118 : bCV RX11 128 118 6 0 := bCV_of (y := yX6_forgetNights) ci6 inf_118 w_840 w_841 w_842 w_119 w_843 ⟨rfl, by decide, by decide, by decide +kernel⟩
theorem rt_118 : brt 118 0 := rfl
theorem flX11_131 : bFL RX11 131 10 7 := ⟨_, _, ci10, (by decide), w_175⟩
theorem fpX11_131 : bFP RX11 131 10 7 .int := ⟨_, _, ci10, (by decide), w_175, rfl, rfl⟩
theorem csX11_135 : bCS RX11 135 119 2 := bCS_of (y := yX11_isGate) inf_119 w_856 w_857 w_111 w_111 w_858 ⟨by decide, by decide, by decide +kernel⟩
theorem rt_119 : brt 119 1 := Or.inr rfl
theorem flX11_139 : bFL RX11 139 10 8 := ⟨_, _, ci10, (by decide), w_178⟩
theorem fpX11_139 : bFP RX11 139 10 8 .int := ⟨_, _, ci10, (by decide), w_178, rfl, rfl⟩
theorem fpX11_142 : bFP RX11 142 10 9 .int := ⟨_, _, ci10, (by decide), w_181, rfl, rfl⟩
theorem csX11_145 : bCS RX11 145 120 1 := bCS_of (y := yX11_isWay) inf_120 w_866 w_867 w_111 w_111 w_868 ⟨by decide, by decide, by decide +kernel⟩
theorem rt_120 : brt 120 1 := Or.inr rfl
theorem csX11_148 : bCS RX11 148 121 1 := bCS_of (y := yX11_isSheet) inf_121 w_869 w_870 w_111 w_111 w_871 ⟨by decide, by decide, by decide +kernel⟩
theorem rt_121 : brt 121 1 := Or.inr rfl
theorem flX11_109 : bFL RX11 109 11 15 := ⟨_, _, ci11, (by decide), w_793⟩
theorem cvX11_151_122 : bCV RX11 151 122 3 2 := bCV_of (y := yX3_refusesSort) ci3 inf_122 w_872 w_873 w_874 w_123 w_875 ⟨rfl, by decide, by decide, by decide +kernel⟩
theorem rt_122 : brt 122 1 := Or.inl rfl
theorem flX11_155 : bFL RX11 155 3 5 := ⟨_, _, ci3, (by decide), w_728⟩
theorem cvX11_158_123 : bCV RX11 158 123 3 1 := bCV_of (y := yX3_isTable) ci3 inf_123 w_876 w_877 w_878 w_123 w_879 ⟨rfl, by decide, by decide, by decide +kernel⟩
theorem rt_123 : brt 123 1 := Or.inr rfl
theorem flX11_161 : bFL RX11 161 10 3 := ⟨_, _, ci10, (by decide), w_159⟩
theorem flX11_164 : bFL RX11 164 3 6 := ⟨_, _, ci3, (by decide), w_730⟩
theorem flX11_167 : bFL RX11 167 10 2 := ⟨_, _, ci10, (by decide), w_156⟩
theorem cyX11_170 : ∀ w ∈ [Cond.methodLink RX11 170 arraycopyName, Cond.native arraycopyName, Cond.static arraycopyName, Cond.initialized "java/lang/System"], w ∈ bT := in4 w_881 w_883 w_882 w_125
theorem flX11_176 : bFL RX11 176 10 10 := ⟨_, _, ci10, (by decide), w_185⟩
theorem flX11_179 : bFL RX11 179 10 4 := ⟨_, _, ci10, (by decide), w_165⟩
theorem flX11_182 : bFL RX11 182 10 5 := ⟨_, _, ci10, (by decide), w_169⟩
theorem flX11_185 : bFL RX11 185 10 6 := ⟨_, _, ci10, (by decide), w_172⟩
theorem fpX11_176 : bFP RX11 176 10 10 .int := ⟨_, _, ci10, (by decide), w_185, rfl, rfl⟩
theorem csX11_188 : bCS RX11 188 124 2 := bCS_of (y := yX11_isNight) inf_124 w_892 w_893 w_111 w_111 w_894 ⟨by decide, by decide, by decide +kernel⟩
theorem rt_124 : brt 124 1 := Or.inr rfl
theorem csX11_191 : bCS RX11 191 125 1 := bCS_of (y := yX11_isMinute) inf_125 w_859 w_860 w_111 w_111 w_861 ⟨by decide, by decide, by decide +kernel⟩
theorem rt_125 : brt 125 1 := Or.inr rfl
theorem flX11_64 : bFL RX11 64 11 10 := ⟨_, _, ci11, (by decide), w_788⟩
theorem flX11_142 : bFL RX11 142 10 9 := ⟨_, _, ci10, (by decide), w_181⟩
theorem cvX11_194_126 : bCV RX11 194 126 5 5 := bCV_of (y := yX5_pass) ci5 inf_126 w_898 w_899 w_900 w_118 w_901 ⟨rfl, by decide, by decide, by decide +kernel⟩
theorem rt_126 : brt 126 0 := rfl
theorem cvX11_198_127 : bCV RX11 198 127 5 1 := bCV_of (y := yX5_depthNow) ci5 inf_127 w_951 w_928 w_929 w_118 w_930 ⟨rfl, by decide, by decide, by decide +kernel⟩
theorem rt_127 : brt 127 1 := Or.inl rfl
theorem cvX11_202_128 : bCV RX11 202 128 11 1 := bCV_of (y := yX11_isHouse) ci11 inf_128 w_956 w_958 w_10 w_111 w_959 ⟨rfl, by decide, by decide, by decide +kernel⟩
theorem rt_128 : brt 128 1 := Or.inr rfl
theorem flX11_205 : bFL RX11 205 5 7 := ⟨_, _, ci5, (by decide), w_479⟩
theorem cvX11_208_130 : bCV RX11 208 130 5 0 := bCV_of (y := yX5_fallen) ci5 inf_130 w_964 w_965 w_966 w_118 w_967 ⟨rfl, by decide, by decide, by decide +kernel⟩
theorem rt_130 : brt 130 1 := Or.inl rfl
theorem csX11_212 : bCS RX11 212 129 1 := bCS_of (y := yJ6_bitCount_0f7a4) inf_129 w_968 w_969 w_111 w_127 w_970 ⟨by decide, by decide, by decide +kernel⟩
theorem rt_129 : brt 129 1 := Or.inl rfl
theorem flX11_22 : bFL RX11 22 11 2 := ⟨_, _, ci11, (by decide), w_780⟩
theorem flX11_217 : bFL RX11 217 8 9 := ⟨_, _, ci8, (by decide), w_243⟩
theorem flX11_220 : bFL RX11 220 8 5 := ⟨_, _, ci8, (by decide), w_233⟩
theorem cvX11_223_131 : bCV RX11 223 131 8 5 := bCV_of (y := yX8_addRow) ci8 inf_131 w_978 w_979 w_980 w_114 w_981 ⟨rfl, by decide, by decide, by decide +kernel⟩
theorem rt_131 : brt 131 1 := Or.inl rfl
theorem csX11_227 : bCS RX11 227 132 1 := bCS_of (y := yX11_isEngineer) inf_132 w_990 w_991 w_111 w_111 w_992 ⟨by decide, by decide, by decide +kernel⟩
theorem rt_132 : brt 132 1 := Or.inr rfl
theorem csX11_230 : bCS RX11 230 133 1 := bCS_of (y := yX11_isStart) inf_133 w_895 w_896 w_111 w_111 w_897 ⟨by decide, by decide, by decide +kernel⟩
theorem rt_133 : brt 133 1 := Or.inr rfl
theorem cvX11_233_134 : bCV RX11 233 134 6 0 := bCV_of (y := yX6_forgetPossible) ci6 inf_134 w_993 w_845 w_846 w_119 w_847 ⟨rfl, by decide, by decide, by decide +kernel⟩
theorem rt_134 : brt 134 0 := rfl
theorem cvX11_236_135 : bCV RX11 236 135 11 1 := bCV_of (y := yX11_isSeenRow) ci11 inf_135 w_998 w_1000 w_11 w_111 w_1001 ⟨rfl, by decide, by decide, by decide +kernel⟩
theorem rt_135 : brt 135 1 := Or.inr rfl
theorem flX11_239 : bFL RX11 239 8 6 := ⟨_, _, ci8, (by decide), w_236⟩
theorem flX11_243 : bFL RX11 243 8 7 := ⟨_, _, ci8, (by decide), w_238⟩
theorem cvX11_246_136 : bCV RX11 246 136 8 2 := bCV_of (y := yX8_setDoubted) ci8 inf_136 w_1010 w_1011 w_1012 w_114 w_1013 ⟨rfl, by decide, by decide, by decide +kernel⟩
theorem rt_136 : brt 136 1 := Or.inl rfl
theorem cvX11_250_137 : bCV RX11 250 137 6 2 := bCV_of (y := yX6_allLet) ci6 inf_137 w_1018 w_1019 w_1020 w_119 w_1021 ⟨rfl, by decide, by decide, by decide +kernel⟩
theorem rt_137 : brt 137 1 := Or.inr rfl
theorem cvX11_253_138 : bCV RX11 253 138 6 0 := bCV_of (y := yX6_weigh) ci6 inf_138 w_1043 w_1044 w_1045 w_119 w_1046 ⟨rfl, by decide, by decide, by decide +kernel⟩
theorem rt_138 : brt 138 0 := rfl
theorem cvX11_256_139 : bCV RX11 256 139 6 1 := bCV_of (y := yX6_countPossible) ci6 inf_139 w_1056 w_1057 w_1058 w_119 w_1059 ⟨rfl, by decide, by decide, by decide +kernel⟩
theorem rt_139 : brt 139 1 := Or.inl rfl
theorem cvX11_259_140 : bCV RX11 259 140 6 1 := bCV_of (y := yX6_lastStart) ci6 inf_140 w_1064 w_1065 w_1066 w_119 w_1067 ⟨rfl, by decide, by decide, by decide +kernel⟩
theorem rt_140 : brt 140 1 := Or.inl rfl
theorem cvX11_262_141 : bCV RX11 262 141 6 1 := bCV_of (y := yX6_firstStart) ci6 inf_141 w_1068 w_1069 w_1070 w_119 w_1071 ⟨rfl, by decide, by decide, by decide +kernel⟩
theorem rt_141 : brt 141 1 := Or.inl rfl
theorem cvX11_265_142 : bCV RX11 265 142 8 0 := bCV_of (y := yX8_speaking) ci8 inf_142 w_1076 w_1048 w_1049 w_114 w_1050 ⟨rfl, by decide, by decide, by decide +kernel⟩
theorem rt_142 : brt 142 1 := Or.inl rfl
theorem cvX11_268_143 : bCV RX11 268 143 6 1 := bCV_of (y := yX6_countLet) ci6 inf_143 w_1077 w_1078 w_1079 w_119 w_1080 ⟨rfl, by decide, by decide, by decide +kernel⟩
theorem rt_143 : brt 143 1 := Or.inl rfl
theorem cvX11_271_144 : bCV RX11 271 144 6 0 := bCV_of (y := yX6_gather) ci6 inf_144 w_1085 w_1086 w_1087 w_119 w_1088 ⟨rfl, by decide, by decide, by decide +kernel⟩
theorem rt_144 : brt 144 0 := rfl
theorem cvX11_274_145 : bCV RX11 274 145 6 1 := bCV_of (y := yX6_fallsInEach) ci6 inf_145 w_1094 w_1095 w_1096 w_119 w_1097 ⟨rfl, by decide, by decide, by decide +kernel⟩
theorem rt_145 : brt 145 1 := Or.inr rfl
theorem cvX11_277_146 : bCV RX11 277 146 6 1 := bCV_of (y := yX6_fallsInSome) ci6 inf_146 w_1098 w_1099 w_1100 w_119 w_1101 ⟨rfl, by decide, by decide, by decide +kernel⟩
theorem rt_146 : brt 146 1 := Or.inr rfl
theorem csX11_280 : bCS RX11 280 147 4 := bCS_of (y := yX11_isRide) inf_147 w_1106 w_1107 w_111 w_111 w_1108 ⟨by decide, by decide, by decide +kernel⟩
theorem rt_147 : brt 147 1 := Or.inr rfl
theorem cvX11_284_148 : bCV RX11 284 148 6 5 := bCV_of (y := yX6_toldInTime) ci6 inf_148 w_1109 w_1110 w_1111 w_119 w_1112 ⟨rfl, by decide, by decide, by decide +kernel⟩
theorem rt_148 : brt 148 1 := Or.inl rfl
theorem cvX11_287_149 : bCV RX11 287 149 6 4 := bCV_of (y := yX6_toldForSure) ci6 inf_149 w_1117 w_1118 w_1119 w_119 w_1120 ⟨rfl, by decide, by decide, by decide +kernel⟩
theorem rt_149 : brt 149 1 := Or.inl rfl
theorem flX11_32 : bFL RX11 32 11 4 := ⟨_, _, ci11, (by decide), w_782⟩
theorem flX11_291 : bFL RX11 291 2 12 := ⟨_, _, ci2, (by decide), w_316⟩
theorem flX11_294 : bFL RX11 294 2 0 := ⟨_, _, ci2, (by decide), w_279⟩
theorem flX11_297 : bFL RX11 297 2 1 := ⟨_, _, ci2, (by decide), w_281⟩
theorem flX11_300 : bFL RX11 300 2 2 := ⟨_, _, ci2, (by decide), w_284⟩
theorem flX11_303 : bFL RX11 303 2 3 := ⟨_, _, ci2, (by decide), w_286⟩
theorem fpX11_291 : bFP RX11 291 2 12 .int := ⟨_, _, ci2, (by decide), w_316, rfl, rfl⟩
theorem cvX11_306_150 : bCV RX11 306 150 11 1 := bCV_of (y := yX11_isPerson) ci11 inf_150 w_1131 w_1133 w_15 w_111 w_1134 ⟨rfl, by decide, by decide, by decide +kernel⟩
theorem rt_150 : brt 150 1 := Or.inr rfl
theorem flX11_309 : bFL RX11 309 2 13 := ⟨_, _, ci2, (by decide), w_318⟩
theorem flX11_312 : bFL RX11 312 2 4 := ⟨_, _, ci2, (by decide), w_288⟩
theorem flX11_315 : bFL RX11 315 2 5 := ⟨_, _, ci2, (by decide), w_290⟩
theorem fpX11_309 : bFP RX11 309 2 13 .int := ⟨_, _, ci2, (by decide), w_318, rfl, rfl⟩
theorem cvX11_318_151 : bCV RX11 318 151 2 1 := bCV_of (y := yX2_namesThatStand) ci2 inf_151 w_1143 w_1144 w_1145 w_115 w_1146 ⟨rfl, by decide, by decide, by decide +kernel⟩
theorem rt_151 : brt 151 1 := Or.inl rfl
theorem cvX11_321_152 : bCV RX11 321 152 2 0 := bCV_of (y := yX2_namesNever) ci2 inf_152 w_1155 w_1156 w_1157 w_115 w_1158 ⟨rfl, by decide, by decide, by decide +kernel⟩
theorem rt_152 : brt 152 1 := Or.inl rfl
theorem flX11_324 : bFL RX11 324 2 14 := ⟨_, _, ci2, (by decide), w_323⟩
theorem flX11_327 : bFL RX11 327 2 6 := ⟨_, _, ci2, (by decide), w_297⟩
theorem flX11_330 : bFL RX11 330 2 7 := ⟨_, _, ci2, (by decide), w_301⟩
theorem flX11_333 : bFL RX11 333 2 8 := ⟨_, _, ci2, (by decide), w_304⟩
theorem flX11_336 : bFL RX11 336 2 9 := ⟨_, _, ci2, (by decide), w_308⟩
theorem fpX11_324 : bFP RX11 324 2 14 .int := ⟨_, _, ci2, (by decide), w_323, rfl, rfl⟩
theorem cvX11_339_153 : bCV RX11 339 153 11 1 := bCV_of (y := yX11_isThing) ci11 inf_153 w_1167 w_1169 w_16 w_111 w_1170 ⟨rfl, by decide, by decide, by decide +kernel⟩
theorem rt_153 : brt 153 1 := Or.inr rfl
theorem cvX11_342_154 : bCV RX11 342 154 6 2 := bCV_of (y := yX6_restOf) ci6 inf_154 w_1171 w_1172 w_1173 w_119 w_1174 ⟨rfl, by decide, by decide, by decide +kernel⟩
theorem rt_154 : brt 154 1 := Or.inl rfl
theorem flX11_345 : bFL RX11 345 2 15 := ⟨_, _, ci2, (by decide), w_326⟩
theorem flX11_348 : bFL RX11 348 2 10 := ⟨_, _, ci2, (by decide), w_311⟩
theorem flX11_351 : bFL RX11 351 2 11 := ⟨_, _, ci2, (by decide), w_314⟩
theorem fpX11_345 : bFP RX11 345 2 15 .int := ⟨_, _, ci2, (by decide), w_326, rfl, rfl⟩
theorem cvX11_354_155 : bCV RX11 354 155 6 2 := bCV_of (y := yX6_canBe) ci6 inf_155 w_1183 w_1184 w_1185 w_119 w_1186 ⟨rfl, by decide, by decide, by decide +kernel⟩
theorem rt_155 : brt 155 1 := Or.inr rfl
theorem flX11_52 : bFL RX11 52 11 8 := ⟨_, _, ci11, (by decide), w_786⟩
theorem flX11_357 : bFL RX11 357 1 9 := ⟨_, _, ci1, (by decide), w_441⟩
theorem fpX11_357 : bFP RX11 357 1 9 .int := ⟨_, _, ci1, (by decide), w_441, rfl, rfl⟩
theorem flX11_82 : bFL RX11 82 11 12 := ⟨_, _, ci11, (by decide), w_790⟩
theorem flX11_360 : bFL RX11 360 7 2 := ⟨_, _, ci7, (by decide), w_593⟩
theorem cvX11_363_156 : bCV RX11 363 156 7 2 := bCV_of (y := yX7_append) ci7 inf_156 w_1195 w_1196 w_1197 w_120 w_1198 ⟨rfl, by decide, by decide, by decide +kernel⟩
theorem rt_156 : brt 156 0 := rfl
theorem cvX11_367_157 : bCV RX11 367 157 7 0 := bCV_of (y := yX7_parse) ci7 inf_157 w_1203 w_1204 w_1205 w_120 w_1206 ⟨rfl, by decide, by decide, by decide +kernel⟩
theorem rt_157 : brt 157 1 := Or.inl rfl
theorem fpX11_360 : bFP RX11 360 7 2 .int := ⟨_, _, ci7, (by decide), w_593, rfl, rfl⟩
theorem flX11_42 : bFL RX11 42 11 6 := ⟨_, _, ci11, (by decide), w_784⟩
theorem flX11_370 : bFL RX11 370 0 7 := ⟨_, _, ci0, (by decide), w_387⟩
theorem flX11_373 : bFL RX11 373 0 0 := ⟨_, _, ci0, (by decide), w_367⟩
theorem fpX11_370 : bFP RX11 370 0 7 .int := ⟨_, _, ci0, (by decide), w_387, rfl, rfl⟩
theorem cvX11_376_158 : bCV RX11 376 158 1 2 := bCV_of (y := yX1_isClaimed) ci1 inf_158 w_1306 w_1307 w_1308 w_117 w_1309 ⟨rfl, by decide, by decide, by decide +kernel⟩
theorem rt_158 : brt 158 1 := Or.inr rfl
theorem flX11_379 : bFL RX11 379 1 6 := ⟨_, _, ci1, (by decide), w_432⟩
theorem cvX11_382_159 : bCV RX11 382 159 1 2 := bCV_of (y := yX1_addClaim) ci1 inf_159 w_1310 w_1311 w_1312 w_117 w_1313 ⟨rfl, by decide, by decide, by decide +kernel⟩
theorem rt_159 : brt 159 1 := Or.inl rfl
theorem cvX11_385_160 : bCV RX11 385 160 11 1 := bCV_of (y := yX11_isClaim) ci11 inf_160 w_1318 w_1320 w_26 w_111 w_1321 ⟨rfl, by decide, by decide, by decide +kernel⟩
theorem rt_160 : brt 160 1 := Or.inr rfl
theorem flX11_388 : bFL RX11 388 1 0 := ⟨_, _, ci1, (by decide), w_413⟩
theorem flX11_391 : bFL RX11 391 1 7 := ⟨_, _, ci1, (by decide), w_434⟩
theorem cvX11_394_161 : bCV RX11 394 161 1 2 := bCV_of (y := yX1_addProof) ci1 inf_161 w_1322 w_1323 w_1324 w_117 w_1325 ⟨rfl, by decide, by decide, by decide +kernel⟩
theorem rt_161 : brt 161 0 := rfl
theorem cvX11_398_162 : bCV RX11 398 162 1 1 := bCV_of (y := yX1_proofsThatCount) ci1 inf_162 w_1326 w_1327 w_1328 w_117 w_1329 ⟨rfl, by decide, by decide, by decide +kernel⟩
theorem rt_162 : brt 162 1 := Or.inl rfl
theorem csX11_401 : bCS RX11 401 163 1 := bCS_of (y := yX11_isDay) inf_163 w_1335 w_1336 w_111 w_111 w_1337 ⟨by decide, by decide, by decide +kernel⟩
theorem rt_163 : brt 163 1 := Or.inr rfl
theorem flX11_404 : bFL RX11 404 1 1 := ⟨_, _, ci1, (by decide), w_418⟩
theorem flX11_407 : bFL RX11 407 1 3 := ⟨_, _, ci1, (by decide), w_425⟩
theorem flX11_91 : bFL RX11 91 11 13 := ⟨_, _, ci11, (by decide), w_791⟩
theorem cvX11_410_164 : bCV RX11 410 164 4 1 := bCV_of (y := yX4_takeFacts) ci4 inf_164 w_1338 w_1339 w_1340 w_121 w_1341 ⟨rfl, by decide, by decide, by decide +kernel⟩
theorem rt_164 : brt 164 0 := rfl
theorem cvX11_414_165 : bCV RX11 414 165 0 1 := bCV_of (y := yX0_versionOn) ci0 inf_165 w_1353 w_1354 w_1355 w_116 w_1356 ⟨rfl, by decide, by decide, by decide +kernel⟩
theorem rt_165 : brt 165 1 := Or.inl rfl
theorem flX11_417 : bFL RX11 417 1 2 := ⟨_, _, ci1, (by decide), w_421⟩
theorem cvX11_420_166 : bCV RX11 420 166 4 2 := bCV_of (y := yX4_isBarred) ci4 inf_166 w_1357 w_1358 w_1359 w_121 w_1360 ⟨rfl, by decide, by decide, by decide +kernel⟩
theorem rt_166 : brt 166 1 := Or.inr rfl
theorem cvX11_423_167 : bCV RX11 423 167 4 2 := bCV_of (y := yX4_owed) ci4 inf_167 w_1381 w_1382 w_1383 w_121 w_1384 ⟨rfl, by decide, by decide, by decide +kernel⟩
theorem rt_167 : brt 167 1 := Or.inl rfl
theorem cvX11_426_168 : bCV RX11 426 168 4 1 := bCV_of (y := yX4_rank) ci4 inf_168 w_1386 w_1387 w_1388 w_121 w_1389 ⟨rfl, by decide, by decide, by decide +kernel⟩
theorem rt_168 : brt 168 1 := Or.inl rfl
theorem cvX11_429_169 : bCV RX11 429 169 4 0 := bCV_of (y := yX4_isFound) ci4 inf_169 w_1390 w_1391 w_1392 w_121 w_1393 ⟨rfl, by decide, by decide, by decide +kernel⟩
theorem rt_169 : brt 169 1 := Or.inr rfl
theorem cvX11_433_170 : bCV RX11 433 170 4 2 := bCV_of (y := yX4_firstLine) ci4 inf_170 w_1398 w_1370 w_1371 w_121 w_1372 ⟨rfl, by decide, by decide, by decide +kernel⟩
theorem rt_170 : brt 170 1 := Or.inl rfl
theorem cvX11_436_171 : bCV RX11 436 171 4 0 := bCV_of (y := yX4_housesOver) ci4 inf_171 w_1403 w_1404 w_1405 w_121 w_1406 ⟨rfl, by decide, by decide, by decide +kernel⟩
theorem rt_171 : brt 171 1 := Or.inl rfl
theorem cvX11_439_172 : bCV RX11 439 172 4 0 := bCV_of (y := yX4_thingsTwice) ci4 inf_172 w_1411 w_1412 w_1413 w_121 w_1414 ⟨rfl, by decide, by decide, by decide +kernel⟩
theorem rt_172 : brt 172 1 := Or.inl rfl
theorem kiX11_442 : bKI RX11 442 99999 := ⟨w_1419, by unfold in32; decide⟩
theorem flX11_443 : bFL RX11 443 1 8 := ⟨_, _, ci1, (by decide), w_437⟩
theorem cmX11_446 : ∀ w ∈ [Cond.methodLink RX11 446 Lib.Math.min.name, Cond.static Lib.Math.min.name, Cond.initialized "java/lang/Math", Cond.code Lib.Math.min.name Lib.Math.min.code 2 (some .int)], w ∈ bT := in4 w_1420 w_913 w_126 w_914
theorem fpX11_443 : bFP RX11 443 1 8 .int := ⟨_, _, ci1, (by decide), w_437, rfl, rfl⟩
theorem cvX11_451_173 : bCV RX11 451 173 4 0 := bCV_of (y := yX4_payByRanks) ci4 inf_173 w_1425 w_1426 w_1427 w_121 w_1428 ⟨rfl, by decide, by decide, by decide +kernel⟩
theorem rt_173 : brt 173 1 := Or.inl rfl
theorem cvX11_454_174 : bCV RX11 454 174 1 2 := bCV_of (y := yX1_payClaim) ci1 inf_174 w_1441 w_1434 w_1435 w_117 w_1436 ⟨rfl, by decide, by decide, by decide +kernel⟩
theorem rt_174 : brt 174 0 := rfl
theorem cvX11_457_175 : bCV RX11 457 175 4 0 := bCV_of (y := yX4_findLikest) ci4 inf_175 w_1446 w_1447 w_1448 w_121 w_1449 ⟨rfl, by decide, by decide, by decide +kernel⟩
theorem rt_175 : brt 175 0 := rfl
theorem flX11_460 : bFL RX11 460 4 9 := ⟨_, _, ci4, (by decide), w_636⟩
theorem flX11_100 : bFL RX11 100 11 14 := ⟨_, _, ci11, (by decide), w_792⟩
theorem cvX11_463_176 : bCV RX11 463 176 9 2 := bCV_of (y := yX9_plan) ci9 inf_176 w_1463 w_1464 w_1465 w_122 w_1466 ⟨rfl, by decide, by decide, by decide +kernel⟩
theorem rt_176 : brt 176 1 := Or.inl rfl
theorem flX11_466 : bFL RX11 466 9 7 := ⟨_, _, ci9, (by decide), w_673⟩
theorem flX11_467 : bFL RX11 467 9 8 := ⟨_, _, ci9, (by decide), w_675⟩
theorem flX11_470 : bFL RX11 470 9 9 := ⟨_, _, ci9, (by decide), w_677⟩
theorem fpX11_466 : bFP RX11 466 9 7 .int := ⟨_, _, ci9, (by decide), w_673, rfl, rfl⟩
theorem flX11_473 : bFL RX11 473 9 4 := ⟨_, _, ci9, (by decide), w_669⟩
theorem cvX11_476_177 : bCV RX11 476 177 9 0 := bCV_of (y := yX9_firstWrongRow) ci9 inf_177 w_1514 w_1515 w_1516 w_122 w_1517 ⟨rfl, by decide, by decide, by decide +kernel⟩
theorem rt_177 : brt 177 1 := Or.inl rfl
theorem csX11_479 : bCS RX11 479 178 2 := bCS_of (y := yX11_isDebt) inf_178 w_1523 w_1524 w_111 w_111 w_1525 ⟨by decide, by decide, by decide +kernel⟩
theorem rt_178 : brt 178 1 := Or.inr rfl
theorem csX11_482 : bCS RX11 482 179 4 := bCS_of (y := yX11_yearsTillPaid) inf_179 w_1526 w_1527 w_111 w_111 w_1528 ⟨by decide, by decide, by decide +kernel⟩
theorem rt_179 : brt 179 1 := Or.inl rfl
theorem flX11_485 : bFL RX11 485 3 4 := ⟨_, _, ci3, (by decide), w_726⟩
theorem cvX11_488_180 : bCV RX11 488 180 3 3 := bCV_of (y := yX3_makeSheet) ci3 inf_180 w_1538 w_1539 w_1540 w_123 w_1541 ⟨rfl, by decide, by decide, by decide +kernel⟩
theorem rt_180 : brt 180 0 := rfl
theorem csX11_492 : bCS RX11 492 181 2 := bCS_of (y := yX11_narrowed) inf_181 w_1546 w_1547 w_111 w_111 w_1548 ⟨by decide, by decide, by decide +kernel⟩
theorem rt_181 : brt 181 1 := Or.inl rfl
theorem csX11_495 : bCS RX11 495 182 1 := bCS_of (y := yX11_isShelf) inf_182 w_1557 w_1558 w_111 w_111 w_1559 ⟨by decide, by decide, by decide +kernel⟩
theorem rt_182 : brt 182 1 := Or.inr rfl
theorem cvX11_498_183 : bCV RX11 498 183 3 3 := bCV_of (y := yX3_putOnShelf) ci3 inf_183 w_1560 w_1561 w_1562 w_123 w_1563 ⟨rfl, by decide, by decide, by decide +kernel⟩
theorem rt_183 : brt 183 1 := Or.inl rfl
theorem cvX11_502_184 : bCV RX11 502 184 3 2 := bCV_of (y := yX3_putSheetOnShelf) ci3 inf_184 w_1564 w_1565 w_1566 w_123 w_1567 ⟨rfl, by decide, by decide, by decide +kernel⟩
theorem rt_184 : brt 184 1 := Or.inl rfl
theorem cvX11_505_185 : bCV RX11 505 185 3 2 := bCV_of (y := yX3_takenForSort) ci3 inf_185 w_1573 w_1574 w_1575 w_123 w_1576 ⟨rfl, by decide, by decide, by decide +kernel⟩
theorem rt_185 : brt 185 1 := Or.inl rfl
theorem cvX11_508_186 : bCV RX11 508 186 3 2 := bCV_of (y := yX3_takenForKind) ci3 inf_186 w_1582 w_1583 w_1584 w_123 w_1585 ⟨rfl, by decide, by decide, by decide +kernel⟩
theorem rt_186 : brt 186 1 := Or.inl rfl
theorem fpX11_511 : bFP RX11 511 3 11 .int := ⟨_, _, ci3, (by decide), w_737, rfl, rfl⟩
theorem cvX11_514_187 : bCV RX11 514 187 3 3 := bCV_of (y := yX3_dealWith) ci3 inf_187 w_1595 w_1596 w_1597 w_123 w_1598 ⟨rfl, by decide, by decide, by decide +kernel⟩
theorem rt_187 : brt 187 1 := Or.inl rfl
theorem flX11_511 : bFL RX11 511 3 11 := ⟨_, _, ci3, (by decide), w_737⟩
theorem flX11_517 : bFL RX11 517 3 10 := ⟨_, _, ci3, (by decide), w_735⟩
theorem cvX11_520_188 : bCV RX11 520 188 8 0 := bCV_of (y := yX8_countTorn) ci8 inf_188 w_1621 w_1622 w_1623 w_114 w_1624 ⟨rfl, by decide, by decide, by decide +kernel⟩
theorem rt_188 : brt 188 1 := Or.inl rfl
theorem cvX11_523_189 : bCV RX11 523 189 1 0 := bCV_of (y := yX1_countPaid) ci1 inf_189 w_1625 w_1626 w_1627 w_117 w_1628 ⟨rfl, by decide, by decide, by decide +kernel⟩
theorem rt_189 : brt 189 1 := Or.inl rfl
theorem flX11_16 : bFL RX11 16 11 1 := ⟨_, _, ci11, (by decide), w_779⟩
theorem cvX11_526_190 : bCV RX11 526 190 10 1 := bCV_of (y := yX10_copyFrom) ci10 inf_190 w_1633 w_1634 w_1635 w_112 w_1636 ⟨rfl, by decide, by decide, by decide +kernel⟩
theorem rt_190 : brt 190 0 := rfl
theorem flX11_26 : bFL RX11 26 11 3 := ⟨_, _, ci11, (by decide), w_781⟩
theorem cvX11_530_191 : bCV RX11 530 191 8 1 := bCV_of (y := yX8_copyFrom) ci8 inf_191 w_1638 w_1639 w_1640 w_114 w_1641 ⟨rfl, by decide, by decide, by decide +kernel⟩
theorem rt_191 : brt 191 0 := rfl
theorem flX11_36 : bFL RX11 36 11 5 := ⟨_, _, ci11, (by decide), w_783⟩
theorem cvX11_533_192 : bCV RX11 533 192 2 1 := bCV_of (y := yX2_copyFrom) ci2 inf_192 w_1643 w_1644 w_1645 w_115 w_1646 ⟨rfl, by decide, by decide, by decide +kernel⟩
theorem rt_192 : brt 192 0 := rfl
theorem flX11_46 : bFL RX11 46 11 7 := ⟨_, _, ci11, (by decide), w_785⟩
theorem cvX11_536_193 : bCV RX11 536 193 0 1 := bCV_of (y := yX0_copyFrom) ci0 inf_193 w_1648 w_1649 w_1650 w_116 w_1651 ⟨rfl, by decide, by decide, by decide +kernel⟩
theorem rt_193 : brt 193 0 := rfl
theorem flX11_56 : bFL RX11 56 11 9 := ⟨_, _, ci11, (by decide), w_787⟩
theorem cvX11_538_194 : bCV RX11 538 194 1 1 := bCV_of (y := yX1_copyFrom) ci1 inf_194 w_1653 w_1654 w_1655 w_117 w_1656 ⟨rfl, by decide, by decide, by decide +kernel⟩
theorem rt_194 : brt 194 0 := rfl
theorem fpX11_541 : bFP RX11 541 11 16 .boolean := ⟨_, _, ci11, (by decide), w_794, rfl, rfl⟩
theorem flX11_541 : bFL RX11 541 11 16 := ⟨_, _, ci11, (by decide), w_794⟩
theorem cvX11_526_195 : bCV RX11 526 195 10 1 := bCV_of (y := yX10_copyFrom) ci10 inf_195 w_1633 w_1634 w_1635 w_112 w_1636 ⟨rfl, by decide, by decide, by decide +kernel⟩
theorem rt_195 : brt 195 0 := rfl
theorem cvX11_530_196 : bCV RX11 530 196 8 1 := bCV_of (y := yX8_copyFrom) ci8 inf_196 w_1638 w_1639 w_1640 w_114 w_1641 ⟨rfl, by decide, by decide, by decide +kernel⟩
theorem rt_196 : brt 196 0 := rfl
theorem cvX11_533_197 : bCV RX11 533 197 2 1 := bCV_of (y := yX2_copyFrom) ci2 inf_197 w_1643 w_1644 w_1645 w_115 w_1646 ⟨rfl, by decide, by decide, by decide +kernel⟩
theorem rt_197 : brt 197 0 := rfl
theorem cvX11_536_198 : bCV RX11 536 198 0 1 := bCV_of (y := yX0_copyFrom) ci0 inf_198 w_1648 w_1649 w_1650 w_116 w_1651 ⟨rfl, by decide, by decide, by decide +kernel⟩
theorem rt_198 : brt 198 0 := rfl
theorem cvX11_538_199 : bCV RX11 538 199 1 1 := bCV_of (y := yX1_copyFrom) ci1 inf_199 w_1653 w_1654 w_1655 w_117 w_1656 ⟨rfl, by decide, by decide, by decide +kernel⟩
theorem rt_199 : brt 199 0 := rfl
theorem csX12_248 : bCS RX12 248 200 1 := bCS_of (y := yX12_isReach) inf_200 w_1981 w_1982 w_124 w_124 w_1983 ⟨by decide, by decide, by decide +kernel⟩
theorem rt_200 : brt 200 1 := Or.inr rfl
theorem csX12_244 : bCS RX12 244 201 3 := bCS_of (y := yX12_in) inf_201 w_1984 w_1985 w_124 w_124 w_1986 ⟨by decide, by decide, by decide +kernel⟩
theorem rt_201 : brt 201 1 := Or.inr rfl
theorem flX12_13 : bFL RX12 13 12 1 := ⟨_, _, ci12, (by decide), w_1669⟩
theorem flX12_16 : bFL RX12 16 12 2 := ⟨_, _, ci12, (by decide), w_1670⟩
theorem fpX12_241 : bFP RX12 241 12 53 .boolean := ⟨_, _, ci12, (by decide), w_1721, rfl, rfl⟩
theorem flX12_7 : bFL RX12 7 12 0 := ⟨_, _, ci12, (by decide), w_1668⟩
theorem csX12_255 : bCS RX12 255 202 2 := bCS_of (y := yX12_isGate) inf_202 w_1995 w_1996 w_124 w_124 w_1997 ⟨by decide, by decide, by decide +kernel⟩
theorem rt_202 : brt 202 1 := Or.inr rfl
theorem csX12_557 : bCS RX12 557 203 1 := bCS_of (y := yX12_isSheet) inf_203 w_2439 w_2440 w_124 w_124 w_2441 ⟨by decide, by decide, by decide +kernel⟩
theorem rt_203 : brt 203 1 := Or.inr rfl
theorem flX12_203 : bFL RX12 203 12 84 := ⟨_, _, ci12, (by decide), w_1752⟩
theorem flX12_206 : bFL RX12 206 12 85 := ⟨_, _, ci12, (by decide), w_1753⟩
theorem flX12_209 : bFL RX12 209 12 86 := ⟨_, _, ci12, (by decide), w_1754⟩
theorem flX12_19 : bFL RX12 19 12 3 := ⟨_, _, ci12, (by decide), w_1671⟩
theorem flX12_22 : bFL RX12 22 12 4 := ⟨_, _, ci12, (by decide), w_1672⟩
theorem flX12_25 : bFL RX12 25 12 5 := ⟨_, _, ci12, (by decide), w_1673⟩
theorem flX12_28 : bFL RX12 28 12 6 := ⟨_, _, ci12, (by decide), w_1674⟩
theorem flX12_31 : bFL RX12 31 12 7 := ⟨_, _, ci12, (by decide), w_1675⟩
theorem csX12_267 : bCS RX12 267 204 2 := bCS_of (y := yX12_isNight) inf_204 w_2009 w_2010 w_124 w_124 w_2011 ⟨by decide, by decide, by decide +kernel⟩
theorem rt_204 : brt 204 1 := Or.inr rfl
theorem csX12_252 : bCS RX12 252 205 1 := bCS_of (y := yX12_isMinute) inf_205 w_1998 w_1999 w_124 w_124 w_2000 ⟨by decide, by decide, by decide +kernel⟩
theorem rt_205 : brt 205 1 := Or.inr rfl
theorem cvX12_270_206 : bCV RX12 270 206 12 2 := bCV_of (y := yX12_nightAsIs) ci12 inf_206 w_2012 w_2014 w_47 w_124 w_2015 ⟨rfl, by decide, by decide, by decide +kernel⟩
theorem rt_206 : brt 206 0 := rfl
theorem flX12_148 : bFL RX12 148 12 48 := ⟨_, _, ci12, (by decide), w_1716⟩
theorem cvX12_274_207 : bCV RX12 274 207 12 2 := bCV_of (y := yX12_isOf) ci12 inf_207 w_2027 w_2029 w_49 w_124 w_2030 ⟨rfl, by decide, by decide, by decide +kernel⟩
theorem rt_207 : brt 207 1 := Or.inr rfl
theorem flX12_151 : bFL RX12 151 12 49 := ⟨_, _, ci12, (by decide), w_1717⟩
theorem cvX12_277_208 : bCV RX12 277 208 12 0 := bCV_of (y := yX12_fallMany) ci12 inf_208 w_2035 w_2037 w_50 w_124 w_2038 ⟨rfl, by decide, by decide, by decide +kernel⟩
theorem rt_208 : brt 208 1 := Or.inl rfl
theorem cvX12_263_209 : bCV RX12 263 209 12 4 := bCV_of (y := yX12_night) ci12 inf_209 w_2016 w_2018 w_48 w_124 w_2019 ⟨rfl, by decide, by decide, by decide +kernel⟩
theorem rt_209 : brt 209 0 := rfl
theorem cvX12_281_210 : bCV RX12 281 210 12 6 := bCV_of (y := yX12_seen) ci12 inf_210 w_2043 w_2045 w_51 w_124 w_2046 ⟨rfl, by decide, by decide, by decide +kernel⟩
theorem rt_210 : brt 210 1 := Or.inl rfl
theorem flX12_52 : bFL RX12 52 12 14 := ⟨_, _, ci12, (by decide), w_1682⟩
theorem flX12_55 : bFL RX12 55 12 15 := ⟨_, _, ci12, (by decide), w_1683⟩
theorem flX12_58 : bFL RX12 58 12 16 := ⟨_, _, ci12, (by decide), w_1684⟩
theorem cvX12_299_211 : bCV RX12 299 211 12 3 := bCV_of (y := yX12_doesLet) ci12 inf_211 w_2071 w_2073 w_52 w_124 w_2074 ⟨rfl, by decide, by decide, by decide +kernel⟩
theorem rt_211 : brt 211 1 := Or.inr rfl
theorem cvX12_315_212 : bCV RX12 315 212 12 0 := bCV_of (y := yX12_survey) ci12 inf_212 w_2094 w_2096 w_55 w_124 w_2097 ⟨rfl, by decide, by decide, by decide +kernel⟩
theorem rt_212 : brt 212 0 := rfl
theorem flX12_163 : bFL RX12 163 12 54 := ⟨_, _, ci12, (by decide), w_1722⟩
theorem flX12_167 : bFL RX12 167 12 55 := ⟨_, _, ci12, (by decide), w_1723⟩
theorem cvX12_318_213 : bCV RX12 318 213 12 1 := bCV_of (y := yX12_surelyFalls) ci12 inf_213 w_2122 w_2124 w_59 w_124 w_2125 ⟨rfl, by decide, by decide, by decide +kernel⟩
theorem rt_213 : brt 213 1 := Or.inr rfl
theorem flX12_170 : bFL RX12 170 12 56 := ⟨_, _, ci12, (by decide), w_1724⟩
theorem csX12_321 : bCS RX12 321 214 4 := bCS_of (y := yX12_isRide) inf_214 w_2130 w_2131 w_124 w_124 w_2132 ⟨by decide, by decide, by decide +kernel⟩
theorem rt_214 : brt 214 1 := Or.inr rfl
theorem flX12_182 : bFL RX12 182 12 61 := ⟨_, _, ci12, (by decide), w_1729⟩
theorem cvX12_289_215 : bCV RX12 289 215 12 2 := bCV_of (y := yX12_firstDeep) ci12 inf_215 w_2075 w_2077 w_53 w_124 w_2078 ⟨rfl, by decide, by decide, by decide +kernel⟩
theorem rt_215 : brt 215 1 := Or.inl rfl
theorem cvX12_325_216 : bCV RX12 325 216 12 3 := bCV_of (y := yX12_ride) ci12 inf_216 w_2133 w_2135 w_60 w_124 w_2136 ⟨rfl, by decide, by decide, by decide +kernel⟩
theorem rt_216 : brt 216 0 := rfl
theorem cvX12_329_217 : bCV RX12 329 217 12 1 := bCV_of (y := yX12_inTime) ci12 inf_217 w_2137 w_2139 w_61 w_124 w_2140 ⟨rfl, by decide, by decide, by decide +kernel⟩
theorem rt_217 : brt 217 1 := Or.inl rfl
theorem flX12_302 : bFL RX12 302 12 59 := ⟨_, _, ci12, (by decide), w_1727⟩
theorem flX12_173 : bFL RX12 173 12 57 := ⟨_, _, ci12, (by decide), w_1725⟩
theorem flX12_61 : bFL RX12 61 12 17 := ⟨_, _, ci12, (by decide), w_1685⟩
theorem flX12_64 : bFL RX12 64 12 18 := ⟨_, _, ci12, (by decide), w_1686⟩
theorem flX12_67 : bFL RX12 67 12 19 := ⟨_, _, ci12, (by decide), w_1687⟩
theorem flX12_70 : bFL RX12 70 12 20 := ⟨_, _, ci12, (by decide), w_1688⟩
theorem flX12_73 : bFL RX12 73 12 21 := ⟨_, _, ci12, (by decide), w_1689⟩
theorem flX12_76 : bFL RX12 76 12 22 := ⟨_, _, ci12, (by decide), w_1690⟩
theorem cvX12_341_218 : bCV RX12 341 218 12 0 := bCV_of (y := yX12_nevers) ci12 inf_218 w_2161 w_2163 w_62 w_124 w_2164 ⟨rfl, by decide, by decide, by decide +kernel⟩
theorem rt_218 : brt 218 1 := Or.inl rfl
theorem cvX12_344_219 : bCV RX12 344 219 12 1 := bCV_of (y := yX12_standing) ci12 inf_219 w_2169 w_2171 w_64 w_124 w_2172 ⟨rfl, by decide, by decide, by decide +kernel⟩
theorem rt_219 : brt 219 1 := Or.inl rfl
theorem flX12_79 : bFL RX12 79 12 23 := ⟨_, _, ci12, (by decide), w_1691⟩
theorem flX12_82 : bFL RX12 82 12 24 := ⟨_, _, ci12, (by decide), w_1692⟩
theorem flX12_85 : bFL RX12 85 12 25 := ⟨_, _, ci12, (by decide), w_1693⟩
theorem flX12_88 : bFL RX12 88 12 26 := ⟨_, _, ci12, (by decide), w_1694⟩
theorem cvX12_312_220 : bCV RX12 312 220 12 1 := bCV_of (y := yX12_liesAt) ci12 inf_220 w_2106 w_2108 w_58 w_124 w_2109 ⟨rfl, by decide, by decide, by decide +kernel⟩
theorem rt_220 : brt 220 1 := Or.inl rfl
theorem flX12_91 : bFL RX12 91 12 27 := ⟨_, _, ci12, (by decide), w_1695⟩
theorem flX12_94 : bFL RX12 94 12 28 := ⟨_, _, ci12, (by decide), w_1696⟩
theorem flX12_176 : bFL RX12 176 12 58 := ⟨_, _, ci12, (by decide), w_1726⟩
theorem flX12_347 : bFL RX12 347 12 65 := ⟨_, _, ci12, (by decide), w_1733⟩
theorem flX12_188 : bFL RX12 188 12 64 := ⟨_, _, ci12, (by decide), w_1732⟩
theorem klX12_350 : bKL RX12 350 (255) := ⟨w_2201, by unfold in64; decide⟩
theorem fpX12_347 : bFP RX12 347 12 65 .int := ⟨_, _, ci12, (by decide), w_1733, rfl, rfl⟩
theorem fpX12_399 : bFP RX12 399 12 73 .int := ⟨_, _, ci12, (by decide), w_1741, rfl, rfl⟩
theorem flX12_100 : bFL RX12 100 12 30 := ⟨_, _, ci12, (by decide), w_1698⟩
theorem flX12_399 : bFL RX12 399 12 73 := ⟨_, _, ci12, (by decide), w_1741⟩
theorem flX12_103 : bFL RX12 103 12 31 := ⟨_, _, ci12, (by decide), w_1699⟩
theorem fpX12_352 : bFP RX12 352 12 66 .int := ⟨_, _, ci12, (by decide), w_1734, rfl, rfl⟩
theorem fpX12_432 : bFP RX12 432 12 72 .int := ⟨_, _, ci12, (by decide), w_1740, rfl, rfl⟩
theorem fpX12_383 : bFP RX12 383 12 71 .int := ⟨_, _, ci12, (by decide), w_1739, rfl, rfl⟩
theorem cvX12_386_221 : bCV RX12 386 221 12 0 := bCV_of (y := yX12_next) ci12 inf_221 w_2206 w_2208 w_66 w_124 w_2209 ⟨rfl, by decide, by decide, by decide +kernel⟩
theorem rt_221 : brt 221 0 := rfl
theorem flX12_383 : bFL RX12 383 12 71 := ⟨_, _, ci12, (by decide), w_1739⟩
theorem flX12_368 : bFL RX12 368 12 67 := ⟨_, _, ci12, (by decide), w_1735⟩
theorem cvX12_464_222 : bCV RX12 464 222 12 0 := bCV_of (y := yX12_line) ci12 inf_222 w_2220 w_2222 w_68 w_124 w_2223 ⟨rfl, by decide, by decide, by decide +kernel⟩
theorem rt_222 : brt 222 0 := rfl
theorem flX12_97 : bFL RX12 97 12 29 := ⟨_, _, ci12, (by decide), w_1697⟩
theorem flX12_127 : bFL RX12 127 12 39 := ⟨_, _, ci12, (by decide), w_1707⟩
theorem flX12_130 : bFL RX12 130 12 40 := ⟨_, _, ci12, (by decide), w_1708⟩
theorem flX12_133 : bFL RX12 133 12 41 := ⟨_, _, ci12, (by decide), w_1709⟩
theorem flX12_136 : bFL RX12 136 12 42 := ⟨_, _, ci12, (by decide), w_1710⟩
theorem flX12_139 : bFL RX12 139 12 43 := ⟨_, _, ci12, (by decide), w_1711⟩
theorem flX12_142 : bFL RX12 142 12 44 := ⟨_, _, ci12, (by decide), w_1712⟩
theorem cvX12_470_223 : bCV RX12 470 223 12 1 := bCV_of (y := yX12_proofsOf) ci12 inf_223 w_2293 w_2295 w_80 w_124 w_2296 ⟨rfl, by decide, by decide, by decide +kernel⟩
theorem rt_223 : brt 223 1 := Or.inl rfl
theorem csX12_498 : bCS RX12 498 224 1 := bCS_of (y := yX12_isDay) inf_224 w_2304 w_2305 w_124 w_124 w_2306 ⟨by decide, by decide, by decide +kernel⟩
theorem rt_224 : brt 224 1 := Or.inr rfl
theorem cvX12_495_225 : bCV RX12 495 225 12 2 := bCV_of (y := yX12_isBarred) ci12 inf_225 w_2307 w_2309 w_81 w_124 w_2310 ⟨rfl, by decide, by decide, by decide +kernel⟩
theorem rt_225 : brt 225 1 := Or.inr rfl
theorem cvX12_501_226 : bCV RX12 501 226 12 2 := bCV_of (y := yX12_owed) ci12 inf_226 w_2339 w_2341 w_89 w_124 w_2342 ⟨rfl, by decide, by decide, by decide +kernel⟩
theorem rt_226 : brt 226 1 := Or.inl rfl
theorem cvX12_504_227 : bCV RX12 504 227 12 2 := bCV_of (y := yX12_rankOf) ci12 inf_227 w_2343 w_2345 w_90 w_124 w_2346 ⟨rfl, by decide, by decide, by decide +kernel⟩
theorem rt_227 : brt 227 1 := Or.inl rfl
theorem cvX12_473_228 : bCV RX12 473 228 12 1 := bCV_of (y := yX12_isFound) ci12 inf_228 w_2331 w_2333 w_87 w_124 w_2334 ⟨rfl, by decide, by decide, by decide +kernel⟩
theorem rt_228 : brt 228 1 := Or.inr rfl
theorem cvX12_488_229 : bCV RX12 488 229 12 3 := bCV_of (y := yX12_lineFor) ci12 inf_229 w_2311 w_2313 w_82 w_124 w_2314 ⟨rfl, by decide, by decide, by decide +kernel⟩
theorem rt_229 : brt 229 1 := Or.inl rfl
theorem cvX12_507_230 : bCV RX12 507 230 12 1 := bCV_of (y := yX12_claimants) ci12 inf_230 w_2355 w_2357 w_91 w_124 w_2358 ⟨rfl, by decide, by decide, by decide +kernel⟩
theorem rt_230 : brt 230 1 := Or.inl rfl
theorem kiX12_510 : bKI RX12 510 99999 := ⟨w_2363, by unfold in32; decide⟩
theorem csX12_259 : bCS RX12 259 231 2 := bCS_of (y := yX12_lesser) inf_231 w_2020 w_2021 w_124 w_124 w_2022 ⟨by decide, by decide, by decide +kernel⟩
theorem rt_231 : brt 231 1 := Or.inl rfl
theorem kiX12_285 : bKI RX12 285 1000000000 := ⟨w_2079, by unfold in32; decide⟩
theorem cvX12_511_232 : bCV RX12 511 232 12 2 := bCV_of (y := yX12_areUnlike) ci12 inf_232 w_2376 w_2378 w_92 w_124 w_2379 ⟨rfl, by decide, by decide, by decide +kernel⟩
theorem rt_232 : brt 232 1 := Or.inr rfl
theorem cvX12_514_233 : bCV RX12 514 233 12 2 := bCV_of (y := yX12_differs) ci12 inf_233 w_2380 w_2382 w_93 w_124 w_2383 ⟨rfl, by decide, by decide, by decide +kernel⟩
theorem rt_233 : brt 233 1 := Or.inl rfl
theorem csX12_467 : bCS RX12 467 234 1 := bCS_of (y := yX12_ones) inf_234 w_2297 w_2298 w_124 w_124 w_2299 ⟨by decide, by decide, by decide +kernel⟩
theorem rt_234 : brt 234 1 := Or.inl rfl
theorem fpX12_520 : bFP RX12 520 12 78 .int := ⟨_, _, ci12, (by decide), w_1746, rfl, rfl⟩
theorem cvX12_526_235 : bCV RX12 526 235 12 5 := bCV_of (y := yX12_hears) ci12 inf_235 w_2388 w_2390 w_94 w_124 w_2391 ⟨rfl, by decide, by decide, by decide +kernel⟩
theorem rt_235 : brt 235 0 := rfl
theorem fpX12_530 : bFP RX12 530 12 79 .int := ⟨_, _, ci12, (by decide), w_1747, rfl, rfl⟩
theorem flX12_530 : bFL RX12 530 12 79 := ⟨_, _, ci12, (by decide), w_1747⟩
theorem flX12_194 : bFL RX12 194 12 75 := ⟨_, _, ci12, (by decide), w_1743⟩
theorem cvX12_523_236 : bCV RX12 523 236 12 1 := bCV_of (y := yX12_reachOf) ci12 inf_236 w_2392 w_2394 w_95 w_124 w_2395 ⟨rfl, by decide, by decide, by decide +kernel⟩
theorem rt_236 : brt 236 1 := Or.inl rfl
theorem csX12_292 : bCS RX12 292 237 2 := bCS_of (y := yX12_off) inf_237 w_2080 w_2081 w_124 w_124 w_2082 ⟨by decide, by decide, by decide +kernel⟩
theorem rt_237 : brt 237 1 := Or.inl rfl
theorem flX12_197 : bFL RX12 197 12 76 := ⟨_, _, ci12, (by decide), w_1744⟩
theorem flX12_200 : bFL RX12 200 12 77 := ⟨_, _, ci12, (by decide), w_1745⟩
theorem fpX12_533 : bFP RX12 533 12 80 .int := ⟨_, _, ci12, (by decide), w_1748, rfl, rfl⟩
theorem fpX12_536 : bFP RX12 536 12 81 .int := ⟨_, _, ci12, (by decide), w_1749, rfl, rfl⟩
theorem fpX12_539 : bFP RX12 539 12 82 .int := ⟨_, _, ci12, (by decide), w_1750, rfl, rfl⟩
theorem fpX12_542 : bFP RX12 542 12 83 .boolean := ⟨_, _, ci12, (by decide), w_1751, rfl, rfl⟩
theorem flX12_520 : bFL RX12 520 12 78 := ⟨_, _, ci12, (by decide), w_1746⟩
theorem cvX12_545_238 : bCV RX12 545 238 12 2 := bCV_of (y := yX12_isCell) ci12 inf_238 w_2404 w_2406 w_97 w_124 w_2407 ⟨rfl, by decide, by decide, by decide +kernel⟩
theorem rt_238 : brt 238 1 := Or.inr rfl
theorem cvX12_548_100 : bCV RX12 548 100 12 2 := bCV_of (y := yX12_row) ci12 inf_100 w_2412 w_2401 w_2402 w_124 w_2403 ⟨rfl, by decide, by decide, by decide +kernel⟩
theorem rt_100 : brt 100 1 := Or.inl rfl
theorem flX12_542 : bFL RX12 542 12 83 := ⟨_, _, ci12, (by decide), w_1751⟩
theorem flX12_533 : bFL RX12 533 12 80 := ⟨_, _, ci12, (by decide), w_1748⟩
theorem flX12_536 : bFL RX12 536 12 81 := ⟨_, _, ci12, (by decide), w_1749⟩
theorem flX12_539 : bFL RX12 539 12 82 := ⟨_, _, ci12, (by decide), w_1750⟩
theorem csX12_551 : bCS RX12 551 239 2 := bCS_of (y := yX12_isDebt) inf_239 w_2425 w_2426 w_124 w_124 w_2427 ⟨by decide, by decide, by decide +kernel⟩
theorem rt_239 : brt 239 1 := Or.inr rfl
theorem csX12_554 : bCS RX12 554 240 3 := bCS_of (y := yX12_yearsFor) inf_240 w_2428 w_2429 w_124 w_124 w_2430 ⟨by decide, by decide, by decide +kernel⟩
theorem rt_240 : brt 240 1 := Or.inl rfl
theorem csX12_560 : bCS RX12 560 241 2 := bCS_of (y := yX12_narrowed) inf_241 w_2450 w_2451 w_124 w_124 w_2452 ⟨by decide, by decide, by decide +kernel⟩
theorem rt_241 : brt 241 2 := rfl
theorem flX12_213 : bFL RX12 213 12 87 := ⟨_, _, ci12, (by decide), w_1755⟩
theorem flX12_216 : bFL RX12 216 12 88 := ⟨_, _, ci12, (by decide), w_1756⟩
theorem flX12_219 : bFL RX12 219 12 89 := ⟨_, _, ci12, (by decide), w_1757⟩
theorem cvX12_564_242 : bCV RX12 564 242 12 1 := bCV_of (y := yX12_kindOn) ci12 inf_242 w_2465 w_2467 w_98 w_124 w_2468 ⟨rfl, by decide, by decide, by decide +kernel⟩
theorem rt_242 : brt 242 1 := Or.inl rfl
theorem csX12_567 : bCS RX12 567 243 2 := bCS_of (y := yX12_isUnder) inf_243 w_2469 w_2470 w_124 w_124 w_2471 ⟨by decide, by decide, by decide +kernel⟩
theorem rt_243 : brt 243 1 := Or.inr rfl
theorem fpX12_570 : bFP RX12 570 12 91 .int := ⟨_, _, ci12, (by decide), w_1759, rfl, rfl⟩
theorem fpX12_579 : bFP RX12 579 12 92 .int := ⟨_, _, ci12, (by decide), w_1760, rfl, rfl⟩
theorem fpX12_585 : bFP RX12 585 12 93 .int := ⟨_, _, ci12, (by decide), w_1761, rfl, rfl⟩
theorem flX12_579 : bFL RX12 579 12 92 := ⟨_, _, ci12, (by decide), w_1760⟩
theorem flX12_585 : bFL RX12 585 12 93 := ⟨_, _, ci12, (by decide), w_1761⟩
theorem flX12_37 : bFL RX12 37 12 9 := ⟨_, _, ci12, (by decide), w_1677⟩
theorem fpX12_599 : bFP RX12 599 12 94 .int := ⟨_, _, ci12, (by decide), w_1762, rfl, rfl⟩
theorem flX12_40 : bFL RX12 40 12 10 := ⟨_, _, ci12, (by decide), w_1678⟩
theorem fpX12_576 : bFP RX12 576 12 95 .int := ⟨_, _, ci12, (by decide), w_1763, rfl, rfl⟩
theorem fpX12_608 : bFP RX12 608 12 96 .boolean := ⟨_, _, ci12, (by decide), w_1764, rfl, rfl⟩
theorem cvX12_587_244 : bCV RX12 587 244 12 1 := bCV_of (y := yX12_dealFits) ci12 inf_244 w_2476 w_2478 w_99 w_124 w_2479 ⟨rfl, by decide, by decide, by decide +kernel⟩
theorem rt_244 : brt 244 1 := Or.inl rfl
theorem cvX12_596_245 : bCV RX12 596 245 12 1 := bCV_of (y := yX12_dealPays) ci12 inf_245 w_2488 w_2490 w_102 w_124 w_2491 ⟨rfl, by decide, by decide, by decide +kernel⟩
theorem rt_245 : brt 245 1 := Or.inl rfl
theorem cvX12_614_246 : bCV RX12 614 246 12 1 := bCV_of (y := yX12_dealHangs) ci12 inf_246 w_2500 w_2502 w_105 w_124 w_2503 ⟨rfl, by decide, by decide, by decide +kernel⟩
theorem rt_246 : brt 246 1 := Or.inl rfl
theorem cvX12_617_247 : bCV RX12 617 247 12 1 := bCV_of (y := yX12_dealTells) ci12 inf_247 w_2512 w_2514 w_108 w_124 w_2515 ⟨rfl, by decide, by decide, by decide +kernel⟩
theorem rt_247 : brt 247 1 := Or.inl rfl
theorem flX12_608 : bFL RX12 608 12 96 := ⟨_, _, ci12, (by decide), w_1764⟩
theorem flX12_570 : bFL RX12 570 12 91 := ⟨_, _, ci12, (by decide), w_1759⟩
theorem flX12_222 : bFL RX12 222 12 90 := ⟨_, _, ci12, (by decide), w_1758⟩
theorem cvX12_233_248 : bCV RX12 233 248 12 1 := bCV_of (y := yX12_copiesAll) ci12 inf_248 w_1965 w_1967 w_45 w_124 w_1968 ⟨rfl, by decide, by decide, by decide +kernel⟩
theorem rt_248 : brt 248 0 := rfl
theorem fpX12_237 : bFP RX12 237 12 47 .boolean := ⟨_, _, ci12, (by decide), w_1715, rfl, rfl⟩
theorem flX12_237 : bFL RX12 237 12 47 := ⟨_, _, ci12, (by decide), w_1715⟩
theorem fpX6_34 : bFP RX6 34 6 13 .int := ⟨_, _, ci6, (by decide), w_548, rfl, rfl⟩
theorem cvX6_54_134 : bCV RX6 54 134 6 0 := bCV_of (y := yX6_forgetPossible) ci6 inf_134 w_844 w_845 w_846 w_119 w_847 ⟨rfl, by decide, by decide, by decide +kernel⟩
theorem flX3_9 : bFL RX3 9 3 4 := ⟨_, _, ci3, (by decide), w_725⟩
theorem flX3_15 : bFL RX3 15 3 5 := ⟨_, _, ci3, (by decide), w_727⟩
theorem cnX3_55 : bCN RX3 55 117 := ⟨rfl, by decide, w_839, w_838, w_111⟩
theorem flX3_18 : bFL RX3 18 3 6 := ⟨_, _, ci3, (by decide), w_729⟩
theorem fpX5_45 : bFP RX5 45 5 14 .int := ⟨_, _, ci5, (by decide), w_488, rfl, rfl⟩
theorem fpX5_49 : bFP RX5 49 5 15 .int := ⟨_, _, ci5, (by decide), w_489, rfl, rfl⟩
theorem fpX5_52 : bFP RX5 52 5 16 .int := ⟨_, _, ci5, (by decide), w_490, rfl, rfl⟩
theorem fpX5_55 : bFP RX5 55 5 17 .int := ⟨_, _, ci5, (by decide), w_491, rfl, rfl⟩
theorem cvX5_58_249 : bCV RX5 58 249 5 0 := bCV_of (y := yX5_begin) ci5 inf_249 w_902 w_904 w_0 w_118 w_905 ⟨rfl, by decide, by decide, by decide +kernel⟩
theorem rt_249 : brt 249 0 := rfl
theorem cvX5_61_250 : bCV RX5 61 250 5 1 := bCV_of (y := yX5_comesOut) ci5 inf_250 w_908 w_910 w_1 w_118 w_911 ⟨rfl, by decide, by decide, by decide +kernel⟩
theorem rt_250 : brt 250 1 := Or.inl rfl
theorem cvX5_65_251 : bCV RX5 65 251 5 1 := bCV_of (y := yX5_flow) ci5 inf_251 w_919 w_921 w_3 w_118 w_922 ⟨rfl, by decide, by decide, by decide +kernel⟩
theorem rt_251 : brt 251 1 := Or.inl rfl
theorem cvX5_68_252 : bCV RX5 68 252 5 0 := bCV_of (y := yX5_carry) ci5 inf_252 w_923 w_925 w_4 w_118 w_926 ⟨rfl, by decide, by decide, by decide +kernel⟩
theorem rt_252 : brt 252 0 := rfl
theorem fpX5_71 : bFP RX5 71 5 11 .int := ⟨_, _, ci5, (by decide), w_485, rfl, rfl⟩
theorem cvX5_74_253 : bCV RX5 74 253 5 1 := bCV_of (y := yX5_rise) ci5 inf_253 w_931 w_933 w_5 w_118 w_934 ⟨rfl, by decide, by decide, by decide +kernel⟩
theorem rt_253 : brt 253 0 := rfl
theorem cvX5_78_254 : bCV RX5 78 254 5 0 := bCV_of (y := yX5_launch) ci5 inf_254 w_943 w_945 w_8 w_118 w_946 ⟨rfl, by decide, by decide, by decide +kernel⟩
theorem rt_254 : brt 254 0 := rfl
theorem flX5_81 : bFL RX5 81 5 10 := ⟨_, _, ci5, (by decide), w_484⟩
theorem cvX5_84_255 : bCV RX5 84 255 5 1 := bCV_of (y := yX5_noMoreComes) ci5 inf_255 w_947 w_949 w_9 w_118 w_950 ⟨rfl, by decide, by decide, by decide +kernel⟩
theorem rt_255 : brt 255 1 := Or.inr rfl
theorem flX5_33 : bFL RX5 33 5 0 := ⟨_, _, ci5, (by decide), w_469⟩
theorem flX5_88 : bFL RX5 88 10 0 := ⟨_, _, ci10, (by decide), w_151⟩
theorem flX5_9 : bFL RX5 9 5 3 := ⟨_, _, ci5, (by decide), w_472⟩
theorem flX5_93 : bFL RX5 93 10 10 := ⟨_, _, ci10, (by decide), w_184⟩
theorem flX5_24 : bFL RX5 24 5 7 := ⟨_, _, ci5, (by decide), w_478⟩
theorem flX8_40 : bFL RX8 40 8 9 := ⟨_, _, ci8, (by decide), w_240⟩
theorem flX8_9 : bFL RX8 9 8 0 := ⟨_, _, ci8, (by decide), w_218⟩
theorem flX8_15 : bFL RX8 15 8 1 := ⟨_, _, ci8, (by decide), w_222⟩
theorem flX8_18 : bFL RX8 18 8 2 := ⟨_, _, ci8, (by decide), w_226⟩
theorem flX8_21 : bFL RX8 21 8 3 := ⟨_, _, ci8, (by decide), w_228⟩
theorem flX8_24 : bFL RX8 24 8 4 := ⟨_, _, ci8, (by decide), w_230⟩
theorem flX8_30 : bFL RX8 30 8 6 := ⟨_, _, ci8, (by decide), w_235⟩
theorem fpX8_44 : bFP RX8 44 8 10 .int := ⟨_, _, ci8, (by decide), w_245, rfl, rfl⟩
theorem fpX8_40 : bFP RX8 40 8 9 .int := ⟨_, _, ci8, (by decide), w_240, rfl, rfl⟩
theorem fpX6_57 : bFP RX6 57 6 14 .boolean := ⟨_, _, ci6, (by decide), w_549, rfl, rfl⟩
theorem fpX6_61 : bFP RX6 61 6 15 .boolean := ⟨_, _, ci6, (by decide), w_550, rfl, rfl⟩
theorem flX8_34 : bFL RX8 34 8 7 := ⟨_, _, ci8, (by decide), w_237⟩
theorem flX8_37 : bFL RX8 37 8 8 := ⟨_, _, ci8, (by decide), w_239⟩
theorem flX6_42 : bFL RX6 42 6 1 := ⟨_, _, ci6, (by decide), w_536⟩
theorem cvX6_119_256 : bCV RX6 119 256 8 2 := bCV_of (y := yX8_wordsAgainst) ci8 inf_256 w_1022 w_1023 w_1024 w_114 w_1025 ⟨rfl, by decide, by decide, by decide +kernel⟩
theorem rt_256 : brt 256 1 := Or.inl rfl
theorem flX6_123 : bFL RX6 123 8 10 := ⟨_, _, ci8, (by decide), w_246⟩
theorem cvX6_126_257 : bCV RX6 126 257 6 1 := bCV_of (y := yX6_know) ci6 inf_257 w_1027 w_1029 w_12 w_119 w_1030 ⟨rfl, by decide, by decide, by decide +kernel⟩
theorem rt_257 : brt 257 0 := rfl
theorem flX6_18 : bFL RX6 18 6 6 := ⟨_, _, ci6, (by decide), w_541⟩
theorem flX6_57 : bFL RX6 57 6 14 := ⟨_, _, ci6, (by decide), w_549⟩
theorem cvX6_134_142 : bCV RX6 134 142 8 0 := bCV_of (y := yX8_speaking) ci8 inf_142 w_1047 w_1048 w_1049 w_114 w_1050 ⟨rfl, by decide, by decide, by decide +kernel⟩
theorem flX6_27 : bFL RX6 27 6 9 := ⟨_, _, ci6, (by decide), w_544⟩
theorem cvX6_130_137 : bCV RX6 130 137 6 2 := bCV_of (y := yX6_allLet) ci6 inf_137 w_1055 w_1019 w_1020 w_119 w_1021 ⟨rfl, by decide, by decide, by decide +kernel⟩
theorem cvX8_47_258 : bCV RX8 47 258 8 1 := bCV_of (y := yX8_isDoubtedWord) ci8 inf_258 w_1051 w_1052 w_1053 w_114 w_1054 ⟨rfl, by decide, by decide, by decide +kernel⟩
theorem rt_258 : brt 258 1 := Or.inr rfl
theorem flX6_61 : bFL RX6 61 6 15 := ⟨_, _, ci6, (by decide), w_550⟩
theorem flX6_31 : bFL RX6 31 6 10 := ⟨_, _, ci6, (by decide), w_545⟩
theorem csX6_137 : bCS RX6 137 259 2 := bCS_of (y := yJ7_fill_53178) inf_259 w_1089 w_147 w_119 w_113 w_148 ⟨by decide, by decide, by decide +kernel⟩
theorem rt_259 : brt 259 0 := rfl
theorem fpX6_143 : bFP RX6 143 6 12 .int := ⟨_, _, ci6, (by decide), w_547, rfl, rfl⟩
theorem fpX6_146 : bFP RX6 146 6 11 .int := ⟨_, _, ci6, (by decide), w_546, rfl, rfl⟩
theorem flX6_15 : bFL RX6 15 6 5 := ⟨_, _, ci6, (by decide), w_540⟩
theorem cvX6_149_260 : bCV RX6 149 260 6 1 := bCV_of (y := yX6_gatherThings) ci6 inf_260 w_1090 w_1092 w_14 w_119 w_1093 ⟨rfl, by decide, by decide, by decide +kernel⟩
theorem rt_260 : brt 260 0 := rfl
theorem flX6_143 : bFL RX6 143 6 12 := ⟨_, _, ci6, (by decide), w_547⟩
theorem flX6_146 : bFL RX6 146 6 11 := ⟨_, _, ci6, (by decide), w_546⟩
theorem flX6_21 : bFL RX6 21 6 7 := ⟨_, _, ci6, (by decide), w_542⟩
theorem flX6_38 : bFL RX6 38 6 0 := ⟨_, _, ci6, (by decide), w_535⟩
theorem flX6_169 : bFL RX6 169 10 10 := ⟨_, _, ci10, (by decide), w_187⟩
theorem flX6_172 : bFL RX6 172 10 4 := ⟨_, _, ci10, (by decide), w_167⟩
theorem cvX6_175_139 : bCV RX6 175 139 6 1 := bCV_of (y := yX6_countPossible) ci6 inf_139 w_1121 w_1057 w_1058 w_119 w_1059 ⟨rfl, by decide, by decide, by decide +kernel⟩
theorem cvX6_179_148 : bCV RX6 179 148 6 5 := bCV_of (y := yX6_toldInTime) ci6 inf_148 w_1122 w_1110 w_1111 w_119 w_1112 ⟨rfl, by decide, by decide, by decide +kernel⟩
theorem flX2_57 : bFL RX2 57 2 13 := ⟨_, _, ci2, (by decide), w_317⟩
theorem flX2_28 : bFL RX2 28 2 5 := ⟨_, _, ci2, (by decide), w_289⟩
theorem cvX2_60_261 : bCV RX2 60 261 2 2 := bCV_of (y := yX2_firstFit) ci2 inf_261 w_1147 w_1148 w_1149 w_115 w_1150 ⟨rfl, by decide, by decide, by decide +kernel⟩
theorem rt_261 : brt 261 1 := Or.inl rfl
theorem flX6_24 : bFL RX6 24 6 8 := ⟨_, _, ci6, (by decide), w_543⟩
theorem flX6_46 : bFL RX6 46 6 2 := ⟨_, _, ci6, (by decide), w_537⟩
theorem flX6_157 : bFL RX6 157 2 6 := ⟨_, _, ci2, (by decide), w_295⟩
theorem flX6_160 : bFL RX6 160 2 10 := ⟨_, _, ci2, (by decide), w_310⟩
theorem flX6_163 : bFL RX6 163 2 7 := ⟨_, _, ci2, (by decide), w_300⟩
theorem flX6_166 : bFL RX6 166 2 11 := ⟨_, _, ci2, (by decide), w_313⟩
theorem flX7_9 : bFL RX7 9 7 1 := ⟨_, _, ci7, (by decide), w_591⟩
theorem flX7_19 : bFL RX7 19 7 2 := ⟨_, _, ci7, (by decide), w_592⟩
theorem fpX7_19 : bFP RX7 19 7 2 .int := ⟨_, _, ci7, (by decide), w_592, rfl, rfl⟩
theorem flX7_15 : bFL RX7 15 7 0 := ⟨_, _, ci7, (by decide), w_590⟩
theorem flX7_23 : bFL RX7 23 0 7 := ⟨_, _, ci0, (by decide), w_386⟩
theorem fpX7_28 : bFP RX7 28 7 7 .int := ⟨_, _, ci7, (by decide), w_598, rfl, rfl⟩
theorem fpX7_31 : bFP RX7 31 7 8 .int := ⟨_, _, ci7, (by decide), w_599, rfl, rfl⟩
theorem fpX7_34 : bFP RX7 34 7 5 .int := ⟨_, _, ci7, (by decide), w_596, rfl, rfl⟩
theorem cvX7_37_262 : bCV RX7 37 262 7 0 := bCV_of (y := yX7_advance) ci7 inf_262 w_1207 w_1209 w_17 w_120 w_1210 ⟨rfl, by decide, by decide, by decide +kernel⟩
theorem rt_262 : brt 262 0 := rfl
theorem flX7_40 : bFL RX7 40 7 3 := ⟨_, _, ci7, (by decide), w_594⟩
theorem cvX7_43_263 : bCV RX7 43 263 7 1 := bCV_of (y := yX7_parseLine) ci7 inf_263 w_1274 w_1276 w_20 w_120 w_1277 ⟨rfl, by decide, by decide, by decide +kernel⟩
theorem rt_263 : brt 263 1 := Or.inr rfl
theorem flX7_47 : bFL RX7 47 7 4 := ⟨_, _, ci7, (by decide), w_595⟩
theorem flX7_50 : bFL RX7 50 0 1 := ⟨_, _, ci0, (by decide), w_369⟩
theorem flX7_28 : bFL RX7 28 7 7 := ⟨_, _, ci7, (by decide), w_598⟩
theorem flX1_30 : bFL RX1 30 1 6 := ⟨_, _, ci1, (by decide), w_428⟩
theorem flX1_9 : bFL RX1 9 1 0 := ⟨_, _, ci1, (by decide), w_411⟩
theorem flX1_15 : bFL RX1 15 1 1 := ⟨_, _, ci1, (by decide), w_414⟩
theorem flX1_18 : bFL RX1 18 1 2 := ⟨_, _, ci1, (by decide), w_419⟩
theorem flX1_34 : bFL RX1 34 1 9 := ⟨_, _, ci1, (by decide), w_439⟩
theorem flX1_21 : bFL RX1 21 1 3 := ⟨_, _, ci1, (by decide), w_422⟩
theorem fpX1_30 : bFP RX1 30 1 6 .int := ⟨_, _, ci1, (by decide), w_428, rfl, rfl⟩
theorem flX1_24 : bFL RX1 24 1 4 := ⟨_, _, ci1, (by decide), w_426⟩
theorem flX1_37 : bFL RX1 37 1 7 := ⟨_, _, ci1, (by decide), w_433⟩
theorem flX1_27 : bFL RX1 27 1 5 := ⟨_, _, ci1, (by decide), w_427⟩
theorem fpX1_37 : bFP RX1 37 1 7 .int := ⟨_, _, ci1, (by decide), w_433, rfl, rfl⟩
theorem csX1_40 : bCS RX1 40 129 1 := bCS_of (y := yJ6_bitCount_0f7a4) inf_129 w_1330 w_969 w_117 w_127 w_970 ⟨by decide, by decide, by decide +kernel⟩
theorem flX4_11 : bFL RX4 11 4 5 := ⟨_, _, ci4, (by decide), w_631⟩
theorem cvX4_47_264 : bCV RX4 47 264 4 2 := bCV_of (y := yX4_fillFacts) ci4 inf_264 w_1342 w_1344 w_27 w_121 w_1345 ⟨rfl, by decide, by decide, by decide +kernel⟩
theorem rt_264 : brt 264 0 := rfl
theorem flX0_33 : bFL RX0 33 0 7 := ⟨_, _, ci0, (by decide), w_385⟩
theorem flX0_9 : bFL RX0 9 0 0 := ⟨_, _, ci0, (by decide), w_366⟩
theorem cvX4_104_265 : bCV RX4 104 265 4 2 := bCV_of (y := yX4_lastNumber) ci4 inf_265 w_1361 w_1363 w_29 w_121 w_1364 ⟨rfl, by decide, by decide, by decide +kernel⟩
theorem rt_265 : brt 265 1 := Or.inl rfl
theorem cvX4_108_170 : bCV RX4 108 170 4 2 := bCV_of (y := yX4_firstLine) ci4 inf_170 w_1369 w_1370 w_1371 w_121 w_1372 ⟨rfl, by decide, by decide, by decide +kernel⟩
theorem cvX4_111_166 : bCV RX4 111 166 4 2 := bCV_of (y := yX4_isBarred) ci4 inf_166 w_1385 w_1358 w_1359 w_121 w_1360 ⟨rfl, by decide, by decide, by decide +kernel⟩
theorem flX4_35 : bFL RX4 35 4 2 := ⟨_, _, ci4, (by decide), w_628⟩
theorem flX4_114 : bFL RX4 114 0 3 := ⟨_, _, ci0, (by decide), w_375⟩
theorem cvX4_119_266 : bCV RX4 119 266 0 1 := bCV_of (y := yX0_linesOf) ci0 inf_266 w_1365 w_1366 w_1367 w_116 w_1368 ⟨rfl, by decide, by decide, by decide +kernel⟩
theorem rt_266 : brt 266 1 := Or.inl rfl
theorem flX4_122 : bFL RX4 122 0 2 := ⟨_, _, ci0, (by decide), w_372⟩
theorem flX4_125 : bFL RX4 125 0 4 := ⟨_, _, ci0, (by decide), w_378⟩
theorem flX4_128 : bFL RX4 128 0 5 := ⟨_, _, ci0, (by decide), w_381⟩
theorem cvX4_131_267 : bCV RX4 131 267 4 3 := bCV_of (y := yX4_holds) ci4 inf_267 w_1373 w_1375 w_30 w_121 w_1376 ⟨rfl, by decide, by decide, by decide +kernel⟩
theorem rt_267 : brt 267 1 := Or.inr rfl
theorem flX4_27 : bFL RX4 27 4 0 := ⟨_, _, ci4, (by decide), w_626⟩
theorem flX4_173 : bFL RX4 173 10 10 := ⟨_, _, ci10, (by decide), w_186⟩
theorem flX4_31 : bFL RX4 31 4 1 := ⟨_, _, ci4, (by decide), w_627⟩
theorem flX4_176 : bFL RX4 176 2 14 := ⟨_, _, ci2, (by decide), w_322⟩
theorem flX4_59 : bFL RX4 59 2 6 := ⟨_, _, ci2, (by decide), w_292⟩
theorem cvX4_179_268 : bCV RX4 179 268 4 1 := bCV_of (y := yX4_claimants) ci4 inf_268 w_1407 w_1409 w_32 w_121 w_1410 ⟨rfl, by decide, by decide, by decide +kernel⟩
theorem rt_268 : brt 268 1 := Or.inl rfl
theorem flX4_64 : bFL RX4 64 2 9 := ⟨_, _, ci2, (by decide), w_306⟩
theorem flX4_182 : bFL RX4 182 10 6 := ⟨_, _, ci10, (by decide), w_173⟩
theorem flX4_39 : bFL RX4 39 4 3 := ⟨_, _, ci4, (by decide), w_629⟩
theorem flX4_141 : bFL RX4 141 1 9 := ⟨_, _, ci1, (by decide), w_440⟩
theorem cvX4_144_165 : bCV RX4 144 165 0 1 := bCV_of (y := yX0_versionOn) ci0 inf_165 w_1429 w_1354 w_1355 w_116 w_1356 ⟨rfl, by decide, by decide, by decide +kernel⟩
theorem flX4_147 : bFL RX4 147 1 6 := ⟨_, _, ci1, (by decide), w_431⟩
theorem cvX4_150_164 : bCV RX4 150 164 4 1 := bCV_of (y := yX4_takeFacts) ci4 inf_164 w_1430 w_1339 w_1340 w_121 w_1341 ⟨rfl, by decide, by decide, by decide +kernel⟩
theorem flX4_18 : bFL RX4 18 4 7 := ⟨_, _, ci4, (by decide), w_633⟩
theorem cvX4_154_168 : bCV RX4 154 168 4 1 := bCV_of (y := yX4_rank) ci4 inf_168 w_1431 w_1387 w_1388 w_121 w_1389 ⟨rfl, by decide, by decide, by decide +kernel⟩
theorem flX4_21 : bFL RX4 21 4 8 := ⟨_, _, ci4, (by decide), w_634⟩
theorem flX4_157 : bFL RX4 157 1 2 := ⟨_, _, ci1, (by decide), w_420⟩
theorem cvX4_160_167 : bCV RX4 160 167 4 2 := bCV_of (y := yX4_owed) ci4 inf_167 w_1432 w_1382 w_1383 w_121 w_1384 ⟨rfl, by decide, by decide, by decide +kernel⟩
theorem flX4_163 : bFL RX4 163 1 3 := ⟨_, _, ci1, (by decide), w_424⟩
theorem flX4_166 : bFL RX4 166 1 8 := ⟨_, _, ci1, (by decide), w_436⟩
theorem cvX4_169_174 : bCV RX4 169 174 1 2 := bCV_of (y := yX1_payClaim) ci1 inf_174 w_1433 w_1434 w_1435 w_117 w_1436 ⟨rfl, by decide, by decide, by decide +kernel⟩
theorem fpX1_46 : bFP RX1 46 1 8 .int := ⟨_, _, ci1, (by decide), w_435, rfl, rfl⟩
theorem flX4_24 : bFL RX4 24 4 9 := ⟨_, _, ci4, (by decide), w_635⟩
theorem csX4_185 : bCS RX4 185 259 2 := bCS_of (y := yJ7_fill_53178) inf_259 w_1450 w_147 w_121 w_113 w_148 ⟨by decide, by decide, by decide +kernel⟩
theorem cvX4_191_269 : bCV RX4 191 269 4 2 := bCV_of (y := yX4_areUnlike) ci4 inf_269 w_1451 w_1453 w_33 w_121 w_1454 ⟨rfl, by decide, by decide, by decide +kernel⟩
theorem rt_269 : brt 269 1 := Or.inr rfl
theorem cvX4_194_270 : bCV RX4 194 270 4 1 := bCV_of (y := yX4_countDifferent) ci4 inf_270 w_1455 w_1457 w_34 w_121 w_1458 ⟨rfl, by decide, by decide, by decide +kernel⟩
theorem rt_270 : brt 270 1 := Or.inl rfl
theorem fpX9_46 : bFP RX9 46 9 4 .int := ⟨_, _, ci9, (by decide), w_668, rfl, rfl⟩
theorem fpX9_50 : bFP RX9 50 9 5 .int := ⟨_, _, ci9, (by decide), w_670, rfl, rfl⟩
theorem flX9_38 : bFL RX9 38 9 2 := ⟨_, _, ci9, (by decide), w_666⟩
theorem flX9_53 : bFL RX9 53 1 9 := ⟨_, _, ci1, (by decide), w_438⟩
theorem fpX9_58 : bFP RX9 58 9 6 .int := ⟨_, _, ci9, (by decide), w_671, rfl, rfl⟩
theorem cvX9_61_271 : bCV RX9 61 271 9 0 := bCV_of (y := yX9_takeMembers) ci9 inf_271 w_1467 w_1469 w_35 w_122 w_1470 ⟨rfl, by decide, by decide, by decide +kernel⟩
theorem rt_271 : brt 271 0 := rfl
theorem flX9_64 : bFL RX9 64 9 10 := ⟨_, _, ci9, (by decide), w_678⟩
theorem flX9_27 : bFL RX9 27 9 14 := ⟨_, _, ci9, (by decide), w_682⟩
theorem flX9_21 : bFL RX9 21 9 12 := ⟨_, _, ci9, (by decide), w_680⟩
theorem cvX9_67_272 : bCV RX9 67 272 9 3 := bCV_of (y := yX9_leastCost) ci9 inf_272 w_1472 w_1474 w_36 w_122 w_1475 ⟨rfl, by decide, by decide, by decide +kernel⟩
theorem rt_272 : brt 272 1 := Or.inl rfl
theorem cvX9_71_273 : bCV RX9 71 273 9 0 := bCV_of (y := yX9_writeRows) ci9 inf_273 w_1490 w_1492 w_39 w_122 w_1493 ⟨rfl, by decide, by decide, by decide +kernel⟩
theorem rt_273 : brt 273 0 := rfl
theorem flX9_50 : bFL RX9 50 9 5 := ⟨_, _, ci9, (by decide), w_670⟩
theorem flX9_58 : bFL RX9 58 9 6 := ⟨_, _, ci9, (by decide), w_671⟩
theorem flX9_116 : bFL RX9 116 9 7 := ⟨_, _, ci9, (by decide), w_672⟩
theorem flX9_9 : bFL RX9 9 9 8 := ⟨_, _, ci9, (by decide), w_674⟩
theorem flX9_74 : bFL RX9 74 1 6 := ⟨_, _, ci1, (by decide), w_429⟩
theorem cnX9_119 : bCN RX9 119 117 := ⟨rfl, by decide, w_839, w_838, w_111⟩
theorem flX9_46 : bFL RX9 46 9 4 := ⟨_, _, ci9, (by decide), w_668⟩
theorem flX9_30 : bFL RX9 30 9 0 := ⟨_, _, ci9, (by decide), w_664⟩
theorem flX9_85 : bFL RX9 85 10 4 := ⟨_, _, ci10, (by decide), w_162⟩
theorem flX9_34 : bFL RX9 34 9 1 := ⟨_, _, ci9, (by decide), w_665⟩
theorem flX9_77 : bFL RX9 77 2 6 := ⟨_, _, ci2, (by decide), w_293⟩
theorem flX9_82 : bFL RX9 82 1 1 := ⟨_, _, ci1, (by decide), w_416⟩
theorem cmX9_100 : ∀ w ∈ [Cond.methodLink RX9 100 Lib.Math.abs.name, Cond.static Lib.Math.abs.name, Cond.initialized "java/lang/Math", Cond.code Lib.Math.abs.name Lib.Math.abs.code 1 (some .int)], w ∈ bT := in4 w_1480 w_1481 w_126 w_1482
theorem flX9_15 : bFL RX9 15 9 9 := ⟨_, _, ci9, (by decide), w_676⟩
theorem cmX11_545 : ∀ w ∈ [Cond.methodLink RX11 545 Lib.Math.max.name, Cond.static Lib.Math.max.name, Cond.initialized "java/lang/Math", Cond.code Lib.Math.max.name Lib.Math.max.code 2 (some .int)], w ∈ bT := in4 w_1529 w_1488 w_126 w_1489
theorem flX3_21 : bFL RX3 21 3 7 := ⟨_, _, ci3, (by decide), w_731⟩
theorem flX3_24 : bFL RX3 24 3 8 := ⟨_, _, ci3, (by decide), w_732⟩
theorem flX3_27 : bFL RX3 27 3 9 := ⟨_, _, ci3, (by decide), w_733⟩
theorem cvX3_59_183 : bCV RX3 59 183 3 3 := bCV_of (y := yX3_putOnShelf) ci3 inf_183 w_1568 w_1561 w_1562 w_123 w_1563 ⟨rfl, by decide, by decide, by decide +kernel⟩
theorem cvX3_63_274 : bCV RX3 63 274 3 1 := bCV_of (y := yX3_kindOn) ci3 inf_274 w_1577 w_1579 w_41 w_123 w_1580 ⟨rfl, by decide, by decide, by decide +kernel⟩
theorem rt_274 : brt 274 1 := Or.inl rfl
theorem csX3_67 : bCS RX3 67 275 2 := bCS_of (y := yX3_isUnder) inf_275 w_1586 w_1587 w_123 w_123 w_1588 ⟨by decide, by decide, by decide +kernel⟩
theorem rt_275 : brt 275 1 := Or.inr rfl
theorem fpX3_95 : bFP RX3 95 3 12 .int := ⟨_, _, ci3, (by decide), w_738, rfl, rfl⟩
theorem flX3_95 : bFL RX3 95 3 12 := ⟨_, _, ci3, (by decide), w_738⟩
theorem fpX3_97 : bFP RX3 97 3 13 .int := ⟨_, _, ci3, (by decide), w_739, rfl, rfl⟩
theorem flX3_37 : bFL RX3 37 3 1 := ⟨_, _, ci3, (by decide), w_722⟩
theorem flX3_100 : bFL RX3 100 8 1 := ⟨_, _, ci8, (by decide), w_224⟩
theorem flX3_97 : bFL RX3 97 3 13 := ⟨_, _, ci3, (by decide), w_739⟩
theorem fpX3_103 : bFP RX3 103 3 14 .int := ⟨_, _, ci3, (by decide), w_740, rfl, rfl⟩
theorem flX3_106 : bFL RX3 106 8 2 := ⟨_, _, ci8, (by decide), w_227⟩
theorem fpX3_109 : bFP RX3 109 3 15 .int := ⟨_, _, ci3, (by decide), w_741, rfl, rfl⟩
theorem flX3_45 : bFL RX3 45 3 3 := ⟨_, _, ci3, (by decide), w_724⟩
theorem flX3_112 : bFL RX3 112 1 1 := ⟨_, _, ci1, (by decide), w_417⟩
theorem flX3_33 : bFL RX3 33 3 0 := ⟨_, _, ci3, (by decide), w_721⟩
theorem flX3_115 : bFL RX3 115 10 4 := ⟨_, _, ci10, (by decide), w_166⟩
theorem flX3_41 : bFL RX3 41 3 2 := ⟨_, _, ci3, (by decide), w_723⟩
theorem flX3_120 : bFL RX3 120 2 6 := ⟨_, _, ci2, (by decide), w_296⟩
theorem flX3_125 : bFL RX3 125 2 9 := ⟨_, _, ci2, (by decide), w_307⟩
theorem fpX3_128 : bFP RX3 128 3 16 .boolean := ⟨_, _, ci3, (by decide), w_742, rfl, rfl⟩
theorem cvX3_132_276 : bCV RX3 132 276 3 4 := bCV_of (y := yX3_run) ci3 inf_276 w_1599 w_1601 w_42 w_123 w_1602 ⟨rfl, by decide, by decide, by decide +kernel⟩
theorem rt_276 : brt 276 1 := Or.inl rfl
theorem flX3_128 : bFL RX3 128 3 16 := ⟨_, _, ci3, (by decide), w_742⟩
theorem flX10_9 : bFL RX10 9 10 0 := ⟨_, _, ci10, (by decide), w_149⟩
theorem cyX10_39 : ∀ w ∈ [Cond.methodLink RX10 39 arraycopyName, Cond.native arraycopyName, Cond.static arraycopyName, Cond.initialized "java/lang/System"], w ∈ bT := in4 w_1637 w_883 w_882 w_125
theorem flX10_15 : bFL RX10 15 10 1 := ⟨_, _, ci10, (by decide), w_152⟩
theorem flX10_18 : bFL RX10 18 10 2 := ⟨_, _, ci10, (by decide), w_155⟩
theorem flX10_21 : bFL RX10 21 10 3 := ⟨_, _, ci10, (by decide), w_158⟩
theorem flX10_24 : bFL RX10 24 10 4 := ⟨_, _, ci10, (by decide), w_161⟩
theorem flX10_27 : bFL RX10 27 10 5 := ⟨_, _, ci10, (by decide), w_168⟩
theorem flX10_30 : bFL RX10 30 10 6 := ⟨_, _, ci10, (by decide), w_171⟩
theorem flX10_45 : bFL RX10 45 10 7 := ⟨_, _, ci10, (by decide), w_174⟩
theorem fpX10_45 : bFP RX10 45 10 7 .int := ⟨_, _, ci10, (by decide), w_174, rfl, rfl⟩
theorem flX10_49 : bFL RX10 49 10 8 := ⟨_, _, ci10, (by decide), w_177⟩
theorem fpX10_49 : bFP RX10 49 10 8 .int := ⟨_, _, ci10, (by decide), w_177, rfl, rfl⟩
theorem flX10_52 : bFL RX10 52 10 9 := ⟨_, _, ci10, (by decide), w_180⟩
theorem fpX10_52 : bFP RX10 52 10 9 .int := ⟨_, _, ci10, (by decide), w_180, rfl, rfl⟩
theorem flX10_55 : bFL RX10 55 10 10 := ⟨_, _, ci10, (by decide), w_183⟩
theorem fpX10_55 : bFP RX10 55 10 10 .int := ⟨_, _, ci10, (by decide), w_183, rfl, rfl⟩
theorem cyX8_55 : ∀ w ∈ [Cond.methodLink RX8 55 arraycopyName, Cond.native arraycopyName, Cond.static arraycopyName, Cond.initialized "java/lang/System"], w ∈ bT := in4 w_1642 w_883 w_882 w_125
theorem flX8_27 : bFL RX8 27 8 5 := ⟨_, _, ci8, (by decide), w_232⟩
theorem flX8_44 : bFL RX8 44 8 10 := ⟨_, _, ci8, (by decide), w_245⟩
theorem flX2_9 : bFL RX2 9 2 0 := ⟨_, _, ci2, (by decide), w_277⟩
theorem cyX2_64 : ∀ w ∈ [Cond.methodLink RX2 64 arraycopyName, Cond.native arraycopyName, Cond.static arraycopyName, Cond.initialized "java/lang/System"], w ∈ bT := in4 w_1647 w_883 w_882 w_125
theorem flX2_15 : bFL RX2 15 2 1 := ⟨_, _, ci2, (by decide), w_280⟩
theorem flX2_18 : bFL RX2 18 2 2 := ⟨_, _, ci2, (by decide), w_282⟩
theorem flX2_21 : bFL RX2 21 2 3 := ⟨_, _, ci2, (by decide), w_285⟩
theorem flX2_25 : bFL RX2 25 2 4 := ⟨_, _, ci2, (by decide), w_287⟩
theorem flX2_31 : bFL RX2 31 2 6 := ⟨_, _, ci2, (by decide), w_291⟩
theorem flX2_34 : bFL RX2 34 2 7 := ⟨_, _, ci2, (by decide), w_298⟩
theorem flX2_37 : bFL RX2 37 2 8 := ⟨_, _, ci2, (by decide), w_302⟩
theorem flX2_40 : bFL RX2 40 2 9 := ⟨_, _, ci2, (by decide), w_305⟩
theorem flX2_43 : bFL RX2 43 2 10 := ⟨_, _, ci2, (by decide), w_309⟩
theorem flX2_46 : bFL RX2 46 2 11 := ⟨_, _, ci2, (by decide), w_312⟩
theorem flX2_49 : bFL RX2 49 2 12 := ⟨_, _, ci2, (by decide), w_315⟩
theorem fpX2_49 : bFP RX2 49 2 12 .int := ⟨_, _, ci2, (by decide), w_315, rfl, rfl⟩
theorem fpX2_57 : bFP RX2 57 2 13 .int := ⟨_, _, ci2, (by decide), w_317, rfl, rfl⟩
theorem flX2_70 : bFL RX2 70 2 14 := ⟨_, _, ci2, (by decide), w_320⟩
theorem fpX2_70 : bFP RX2 70 2 14 .int := ⟨_, _, ci2, (by decide), w_320, rfl, rfl⟩
theorem flX2_73 : bFL RX2 73 2 15 := ⟨_, _, ci2, (by decide), w_325⟩
theorem fpX2_73 : bFP RX2 73 2 15 .int := ⟨_, _, ci2, (by decide), w_325, rfl, rfl⟩
theorem cyX0_37 : ∀ w ∈ [Cond.methodLink RX0 37 arraycopyName, Cond.native arraycopyName, Cond.static arraycopyName, Cond.initialized "java/lang/System"], w ∈ bT := in4 w_1652 w_883 w_882 w_125
theorem flX0_15 : bFL RX0 15 0 1 := ⟨_, _, ci0, (by decide), w_368⟩
theorem flX0_18 : bFL RX0 18 0 2 := ⟨_, _, ci0, (by decide), w_370⟩
theorem flX0_21 : bFL RX0 21 0 3 := ⟨_, _, ci0, (by decide), w_373⟩
theorem flX0_24 : bFL RX0 24 0 4 := ⟨_, _, ci0, (by decide), w_376⟩
theorem flX0_27 : bFL RX0 27 0 5 := ⟨_, _, ci0, (by decide), w_379⟩
theorem flX0_30 : bFL RX0 30 0 6 := ⟨_, _, ci0, (by decide), w_382⟩
theorem fpX0_33 : bFP RX0 33 0 7 .int := ⟨_, _, ci0, (by decide), w_385, rfl, rfl⟩
theorem cyX1_49 : ∀ w ∈ [Cond.methodLink RX1 49 arraycopyName, Cond.native arraycopyName, Cond.static arraycopyName, Cond.initialized "java/lang/System"], w ∈ bT := in4 w_1657 w_883 w_882 w_125
theorem flX1_46 : bFL RX1 46 1 8 := ⟨_, _, ci1, (by decide), w_435⟩
theorem fpX1_34 : bFP RX1 34 1 9 .int := ⟨_, _, ci1, (by decide), w_439, rfl, rfl⟩
theorem flX12_154 : bFL RX12 154 12 50 := ⟨_, _, ci12, (by decide), w_1718⟩
theorem flX12_157 : bFL RX12 157 12 51 := ⟨_, _, ci12, (by decide), w_1719⟩
theorem flX12_160 : bFL RX12 160 12 52 := ⟨_, _, ci12, (by decide), w_1720⟩
theorem flX12_34 : bFL RX12 34 12 8 := ⟨_, _, ci12, (by decide), w_1676⟩
theorem flX12_43 : bFL RX12 43 12 11 := ⟨_, _, ci12, (by decide), w_1679⟩
theorem flX12_46 : bFL RX12 46 12 12 := ⟨_, _, ci12, (by decide), w_1680⟩
theorem flX12_49 : bFL RX12 49 12 13 := ⟨_, _, ci12, (by decide), w_1681⟩
theorem cvX12_295_277 : bCV RX12 295 277 12 1 := bCV_of (y := yX12_deepest) ci12 inf_277 w_2083 w_2085 w_54 w_124 w_2086 ⟨rfl, by decide, by decide, by decide +kernel⟩
theorem rt_277 : brt 277 1 := Or.inl rfl
theorem flX12_241 : bFL RX12 241 12 53 := ⟨_, _, ci12, (by decide), w_1721⟩
theorem fpX12_302 : bFP RX12 302 12 59 .int := ⟨_, _, ci12, (by decide), w_1727, rfl, rfl⟩
theorem cvX12_305_278 : bCV RX12 305 278 12 1 := bCV_of (y := yX12_isActive) ci12 inf_278 w_2098 w_2100 w_56 w_124 w_2101 ⟨rfl, by decide, by decide, by decide +kernel⟩
theorem rt_278 : brt 278 1 := Or.inr rfl
theorem cvX12_308_279 : bCV RX12 308 279 12 1 := bCV_of (y := yX12_counts) ci12 inf_279 w_2102 w_2104 w_57 w_124 w_2105 ⟨rfl, by decide, by decide, by decide +kernel⟩
theorem rt_279 : brt 279 0 := rfl
theorem flX12_179 : bFL RX12 179 12 60 := ⟨_, _, ci12, (by decide), w_1728⟩
theorem cvX12_332_280 : bCV RX12 332 280 12 2 := bCV_of (y := yX12_fits) ci12 inf_280 w_2165 w_2167 w_63 w_124 w_2168 ⟨rfl, by decide, by decide, by decide +kernel⟩
theorem rt_280 : brt 280 1 := Or.inr rfl
theorem flX12_185 : bFL RX12 185 12 62 := ⟨_, _, ci12, (by decide), w_1730⟩
theorem fpX12_335 : bFP RX12 335 12 63 .int := ⟨_, _, ci12, (by decide), w_1731, rfl, rfl⟩
theorem cvX12_338_281 : bCV RX12 338 281 12 2 := bCV_of (y := yX12_stands) ci12 inf_281 w_2173 w_2175 w_65 w_124 w_2176 ⟨rfl, by decide, by decide, by decide +kernel⟩
theorem rt_281 : brt 281 1 := Or.inr rfl
theorem flX12_352 : bFL RX12 352 12 66 := ⟨_, _, ci12, (by decide), w_1734⟩
theorem cvX12_355_282 : bCV RX12 355 282 12 1 := bCV_of (y := yX12_byteAt) ci12 inf_282 w_2210 w_2212 w_67 w_124 w_2213 ⟨rfl, by decide, by decide, by decide +kernel⟩
theorem rt_282 : brt 282 1 := Or.inl rfl
theorem fpX12_358 : bFP RX12 358 12 68 .int := ⟨_, _, ci12, (by decide), w_1736, rfl, rfl⟩
theorem fpX12_361 : bFP RX12 361 12 69 .int := ⟨_, _, ci12, (by decide), w_1737, rfl, rfl⟩
theorem fpX12_364 : bFP RX12 364 12 70 .long := ⟨_, _, ci12, (by decide), w_1738, rfl, rfl⟩
theorem fpX12_368 : bFP RX12 368 12 67 .int := ⟨_, _, ci12, (by decide), w_1735, rfl, rfl⟩
theorem flX12_361 : bFL RX12 361 12 69 := ⟨_, _, ci12, (by decide), w_1737⟩
theorem klX12_371 : bKL RX12 371 (27) := ⟨w_2214, by unfold in64; decide⟩
theorem flX12_364 : bFL RX12 364 12 70 := ⟨_, _, ci12, (by decide), w_1738⟩
theorem klX12_373 : bKL RX12 373 (96) := ⟨w_2215, by unfold in64; decide⟩
theorem klX12_375 : bKL RX12 375 (-1) := ⟨w_2216, by unfold in64; decide⟩
theorem klX12_377 : bKL RX12 377 (10) := ⟨w_2217, by unfold in64; decide⟩
theorem klX12_379 : bKL RX12 379 (48) := ⟨w_2218, by unfold in64; decide⟩
theorem klX12_381 : bKL RX12 381 (1000000000) := ⟨w_2219, by unfold in64; decide⟩
theorem cvX12_393_283 : bCV RX12 393 283 12 0 := bCV_of (y := yX12_fails) ci12 inf_283 w_2224 w_2226 w_69 w_124 w_2227 ⟨rfl, by decide, by decide, by decide +kernel⟩
theorem rt_283 : brt 283 0 := rfl
theorem klX12_448 : bKL RX12 448 (11716) := ⟨w_2228, by unfold in64; decide⟩
theorem cvX12_389_284 : bCV RX12 389 284 12 1 := bCV_of (y := yX12_may) ci12 inf_284 w_2229 w_2231 w_70 w_124 w_2232 ⟨rfl, by decide, by decide, by decide +kernel⟩
theorem rt_284 : brt 284 1 := Or.inr rfl
theorem klX12_450 : bKL RX12 450 (355412) := ⟨w_2233, by unfold in64; decide⟩
theorem klX12_452 : bKL RX12 452 (1503) := ⟨w_2234, by unfold in64; decide⟩
theorem klX12_454 : bKL RX12 454 (237470) := ⟨w_2235, by unfold in64; decide⟩
theorem klX12_456 : bKL RX12 456 (8868696) := ⟨w_2236, by unfold in64; decide⟩
theorem flX12_106 : bFL RX12 106 12 32 := ⟨_, _, ci12, (by decide), w_1700⟩
theorem flX12_109 : bFL RX12 109 12 33 := ⟨_, _, ci12, (by decide), w_1701⟩
theorem cvX12_422_285 : bCV RX12 422 285 12 1 := bCV_of (y := yX12_number) ci12 inf_285 w_2237 w_2239 w_71 w_124 w_2240 ⟨rfl, by decide, by decide, by decide +kernel⟩
theorem rt_285 : brt 285 1 := Or.inl rfl
theorem flX12_112 : bFL RX12 112 12 34 := ⟨_, _, ci12, (by decide), w_1702⟩
theorem klX12_458 : bKL RX12 458 (249) := ⟨w_2241, by unfold in64; decide⟩
theorem cvX12_460_286 : bCV RX12 460 286 12 1 := bCV_of (y := yX12_must) ci12 inf_286 w_2242 w_2244 w_72 w_124 w_2245 ⟨rfl, by decide, by decide, by decide +kernel⟩
theorem rt_286 : brt 286 0 := rfl
theorem cvX12_435_287 : bCV RX12 435 287 12 0 := bCV_of (y := yX12_any) ci12 inf_287 w_2246 w_2248 w_73 w_124 w_2249 ⟨rfl, by decide, by decide, by decide +kernel⟩
theorem rt_287 : brt 287 0 := rfl
theorem flX12_115 : bFL RX12 115 12 35 := ⟨_, _, ci12, (by decide), w_1703⟩
theorem cvX12_419_288 : bCV RX12 419 288 12 1 := bCV_of (y := yX12_mustSign) ci12 inf_288 w_2273 w_2275 w_78 w_124 w_2276 ⟨rfl, by decide, by decide, by decide +kernel⟩
theorem rt_288 : brt 288 0 := rfl
theorem cvX12_492_289 : bCV RX12 492 289 12 3 := bCV_of (y := yX12_latest) ci12 inf_289 w_2335 w_2337 w_88 w_124 w_2338 ⟨rfl, by decide, by decide, by decide +kernel⟩
theorem rt_289 : brt 289 1 := Or.inl rfl
theorem cvX12_482_290 : bCV RX12 482 290 12 1 := bCV_of (y := yX12_actOf) ci12 inf_290 w_2315 w_2317 w_83 w_124 w_2318 ⟨rfl, by decide, by decide, by decide +kernel⟩
theorem rt_290 : brt 290 1 := Or.inl rfl
theorem cvX12_485_291 : bCV RX12 485 291 12 3 := bCV_of (y := yX12_holds) ci12 inf_291 w_2319 w_2321 w_84 w_124 w_2322 ⟨rfl, by decide, by decide, by decide +kernel⟩
theorem rt_291 : brt 291 1 := Or.inr rfl
theorem cvX12_476_292 : bCV RX12 476 292 12 2 := bCV_of (y := yX12_fact) ci12 inf_292 w_2327 w_2329 w_86 w_124 w_2330 ⟨rfl, by decide, by decide, by decide +kernel⟩
theorem rt_292 : brt 292 1 := Or.inl rfl
theorem flX12_191 : bFL RX12 191 12 74 := ⟨_, _, ci12, (by decide), w_1742⟩
theorem cvX12_517_293 : bCV RX12 517 293 12 1 := bCV_of (y := yX12_houseOf) ci12 inf_293 w_2396 w_2398 w_96 w_124 w_2399 ⟨rfl, by decide, by decide, by decide +kernel⟩
theorem rt_293 : brt 293 1 := Or.inl rfl
theorem csX12_286 : bCS RX12 286 294 2 := bCS_of (y := yX12_greater) inf_294 w_2087 w_2088 w_124 w_124 w_2089 ⟨by decide, by decide, by decide +kernel⟩
theorem rt_294 : brt 294 1 := Or.inl rfl
theorem cvX12_573_295 : bCV RX12 573 295 12 1 := bCV_of (y := yX12_ran) ci12 inf_295 w_2480 w_2482 w_100 w_124 w_2483 ⟨rfl, by decide, by decide, by decide +kernel⟩
theorem rt_295 : brt 295 0 := rfl
theorem cvX12_582_296 : bCV RX12 582 296 12 1 := bCV_of (y := yX12_plainFits) ci12 inf_296 w_2484 w_2486 w_101 w_124 w_2487 ⟨rfl, by decide, by decide, by decide +kernel⟩
theorem rt_296 : brt 296 1 := Or.inl rfl
theorem cvX12_593_297 : bCV RX12 593 297 12 1 := bCV_of (y := yX12_wordPays) ci12 inf_297 w_2492 w_2494 w_103 w_124 w_2495 ⟨rfl, by decide, by decide, by decide +kernel⟩
theorem rt_297 : brt 297 1 := Or.inl rfl
theorem cvX12_590_298 : bCV RX12 590 298 12 1 := bCV_of (y := yX12_plainPays) ci12 inf_298 w_2496 w_2498 w_104 w_124 w_2499 ⟨rfl, by decide, by decide, by decide +kernel⟩
theorem rt_298 : brt 298 1 := Or.inl rfl
theorem cvX12_602_299 : bCV RX12 602 299 12 1 := bCV_of (y := yX12_plainHangs) ci12 inf_299 w_2504 w_2506 w_106 w_124 w_2507 ⟨rfl, by decide, by decide, by decide +kernel⟩
theorem rt_299 : brt 299 1 := Or.inl rfl
theorem cvX12_605_300 : bCV RX12 605 300 12 1 := bCV_of (y := yX12_claimHangs) ci12 inf_300 w_2508 w_2510 w_107 w_124 w_2511 ⟨rfl, by decide, by decide, by decide +kernel⟩
theorem rt_300 : brt 300 1 := Or.inl rfl
theorem cvX12_611_301 : bCV RX12 611 301 12 1 := bCV_of (y := yX12_plainTells) ci12 inf_301 w_2516 w_2518 w_109 w_124 w_2519 ⟨rfl, by decide, by decide, by decide +kernel⟩
theorem rt_301 : brt 301 1 := Or.inl rfl
theorem fpX12_225 : bFP RX12 225 12 46 .int := ⟨_, _, ci12, (by decide), w_1714, rfl, rfl⟩
theorem cvX12_229_302 : bCV RX12 229 302 12 3 := bCV_of (y := yX12_copies) ci12 inf_302 w_1969 w_1971 w_46 w_124 w_1972 ⟨rfl, by decide, by decide, by decide +kernel⟩
theorem rt_302 : brt 302 0 := rfl
theorem flX12_118 : bFL RX12 118 12 36 := ⟨_, _, ci12, (by decide), w_1704⟩
theorem flX12_121 : bFL RX12 121 12 37 := ⟨_, _, ci12, (by decide), w_1705⟩
theorem flX12_124 : bFL RX12 124 12 38 := ⟨_, _, ci12, (by decide), w_1706⟩
theorem csX5_96 : bCS RX5 96 259 2 := bCS_of (y := yJ7_fill_53178) inf_259 w_906 w_147 w_118 w_113 w_148 ⟨by decide, by decide, by decide +kernel⟩
theorem flX5_18 : bFL RX5 18 5 5 := ⟨_, _, ci5, (by decide), w_474⟩
theorem flX5_21 : bFL RX5 21 5 6 := ⟨_, _, ci5, (by decide), w_476⟩
theorem flX5_27 : bFL RX5 27 5 8 := ⟨_, _, ci5, (by decide), w_480⟩
theorem flX5_102 : bFL RX5 102 10 1 := ⟨_, _, ci10, (by decide), w_154⟩
theorem flX5_15 : bFL RX5 15 5 4 := ⟨_, _, ci5, (by decide), w_473⟩
theorem cyX5_105 : ∀ w ∈ [Cond.methodLink RX5 105 arraycopyName, Cond.native arraycopyName, Cond.static arraycopyName, Cond.initialized "java/lang/System"], w ∈ bT := in4 w_907 w_883 w_882 w_125
theorem flX5_41 : bFL RX5 41 5 2 := ⟨_, _, ci5, (by decide), w_471⟩
theorem flX5_111 : bFL RX5 111 2 14 := ⟨_, _, ci2, (by decide), w_319⟩
theorem flX5_30 : bFL RX5 30 5 9 := ⟨_, _, ci5, (by decide), w_482⟩
theorem flX5_116 : bFL RX5 116 10 4 := ⟨_, _, ci10, (by decide), w_164⟩
theorem flX5_119 : bFL RX5 119 2 6 := ⟨_, _, ci2, (by decide), w_294⟩
theorem fpX5_81 : bFP RX5 81 5 10 .int := ⟨_, _, ci5, (by decide), w_484, rfl, rfl⟩
theorem flX5_122 : bFL RX5 122 10 7 := ⟨_, _, ci10, (by decide), w_176⟩
theorem fpX5_124 : bFP RX5 124 5 12 .int := ⟨_, _, ci5, (by decide), w_486, rfl, rfl⟩
theorem fpX5_127 : bFP RX5 127 5 13 .int := ⟨_, _, ci5, (by decide), w_487, rfl, rfl⟩
theorem flX5_55 : bFL RX5 55 5 17 := ⟨_, _, ci5, (by decide), w_491⟩
theorem flX5_52 : bFL RX5 52 5 16 := ⟨_, _, ci5, (by decide), w_490⟩
theorem flX5_124 : bFL RX5 124 5 12 := ⟨_, _, ci5, (by decide), w_486⟩
theorem cmX5_130 : ∀ w ∈ [Cond.methodLink RX5 130 Lib.Math.min.name, Cond.static Lib.Math.min.name, Cond.initialized "java/lang/Math", Cond.code Lib.Math.min.name Lib.Math.min.code 2 (some .int)], w ∈ bT := in4 w_912 w_913 w_126 w_914
theorem flX5_49 : bFL RX5 49 5 15 := ⟨_, _, ci5, (by decide), w_489⟩
theorem cvX5_136_303 : bCV RX5 136 303 5 1 := bCV_of (y := yX5_tableNumber) ci5 inf_303 w_915 w_917 w_2 w_118 w_918 ⟨rfl, by decide, by decide, by decide +kernel⟩
theorem rt_303 : brt 303 1 := Or.inl rfl
theorem flX5_127 : bFL RX5 127 5 13 := ⟨_, _, ci5, (by decide), w_487⟩
theorem cvX5_145_127 : bCV RX5 145 127 5 1 := bCV_of (y := yX5_depthNow) ci5 inf_127 w_927 w_928 w_929 w_118 w_930 ⟨rfl, by decide, by decide, by decide +kernel⟩
theorem flX5_148 : bFL RX5 148 2 8 := ⟨_, _, ci2, (by decide), w_303⟩
theorem cvX5_151_304 : bCV RX5 151 304 5 2 := bCV_of (y := yX5_breakHouses) ci5 inf_304 w_935 w_937 w_6 w_118 w_938 ⟨rfl, by decide, by decide, by decide +kernel⟩
theorem rt_304 : brt 304 0 := rfl
theorem cvX5_155_305 : bCV RX5 155 305 5 2 := bCV_of (y := yX5_stopClocks) ci5 inf_305 w_939 w_941 w_7 w_118 w_942 ⟨rfl, by decide, by decide, by decide +kernel⟩
theorem rt_305 : brt 305 0 := rfl
theorem flX5_71 : bFL RX5 71 5 11 := ⟨_, _, ci5, (by decide), w_485⟩
theorem flX5_139 : bFL RX5 139 10 3 := ⟨_, _, ci10, (by decide), w_160⟩
theorem flX5_45 : bFL RX5 45 5 14 := ⟨_, _, ci5, (by decide), w_488⟩
theorem cnX8_51 : bCN RX8 51 117 := ⟨rfl, by decide, w_839, w_838, w_111⟩
theorem flX6_9 : bFL RX6 9 6 4 := ⟨_, _, ci6, (by decide), w_539⟩
theorem flX6_34 : bFL RX6 34 6 13 := ⟨_, _, ci6, (by decide), w_548⟩
theorem flX6_50 : bFL RX6 50 6 3 := ⟨_, _, ci6, (by decide), w_538⟩
theorem flX6_64 : bFL RX6 64 10 8 := ⟨_, _, ci10, (by decide), w_179⟩
theorem flX6_69 : bFL RX6 69 10 9 := ⟨_, _, ci10, (by decide), w_182⟩
theorem cvX6_72_126 : bCV RX6 72 126 5 5 := bCV_of (y := yX5_pass) ci5 inf_126 w_1031 w_899 w_900 w_118 w_901 ⟨rfl, by decide, by decide, by decide +kernel⟩
theorem cvX6_78_130 : bCV RX6 78 130 5 0 := bCV_of (y := yX5_fallen) ci5 inf_130 w_1032 w_965 w_966 w_118 w_967 ⟨rfl, by decide, by decide, by decide +kernel⟩
theorem cvX6_81_306 : bCV RX6 81 306 6 0 := bCV_of (y := yX6_clocksAndMarksAgainst) ci6 inf_306 w_1033 w_1035 w_13 w_119 w_1036 ⟨rfl, by decide, by decide, by decide +kernel⟩
theorem rt_306 : brt 306 1 := Or.inl rfl
theorem flX6_84 : bFL RX6 84 5 6 := ⟨_, _, ci5, (by decide), w_477⟩
theorem cyX6_85 : ∀ w ∈ [Cond.methodLink RX6 85 arraycopyName, Cond.native arraycopyName, Cond.static arraycopyName, Cond.initialized "java/lang/System"], w ∈ bT := in4 w_1038 w_883 w_882 w_125
theorem flX6_91 : bFL RX6 91 5 9 := ⟨_, _, ci5, (by decide), w_483⟩
theorem flX6_152 : bFL RX6 152 2 14 := ⟨_, _, ci2, (by decide), w_321⟩
theorem cvX2_53_307 : bCV RX2 53 307 2 2 := bCV_of (y := yX2_isFit) ci2 inf_307 w_1151 w_1152 w_1153 w_115 w_1154 ⟨rfl, by decide, by decide, by decide +kernel⟩
theorem rt_307 : brt 307 1 := Or.inr rfl
theorem flX7_34 : bFL RX7 34 7 5 := ⟨_, _, ci7, (by decide), w_596⟩
theorem fpX7_47 : bFP RX7 47 7 4 .int := ⟨_, _, ci7, (by decide), w_595, rfl, rfl⟩
theorem fpX7_40 : bFP RX7 40 7 3 .int := ⟨_, _, ci7, (by decide), w_594, rfl, rfl⟩
theorem csX7_97 : bCS RX7 97 308 1 := bCS_of (y := yX7_isLetter) inf_308 w_1211 w_1212 w_120 w_120 w_1213 ⟨by decide, by decide, by decide +kernel⟩
theorem rt_308 : brt 308 1 := Or.inr rfl
theorem cvX7_100_309 : bCV RX7 100 309 7 0 := bCV_of (y := yX7_wordNumber) ci7 inf_309 w_1214 w_1216 w_18 w_120 w_1217 ⟨rfl, by decide, by decide, by decide +kernel⟩
theorem rt_309 : brt 309 1 := Or.inl rfl
theorem csX7_104 : bCS RX7 104 310 1 := bCS_of (y := yX7_isDigit) inf_310 w_1267 w_1268 w_120 w_120 w_1269 ⟨by decide, by decide, by decide +kernel⟩
theorem rt_310 : brt 310 1 := Or.inr rfl
theorem cvX7_107_311 : bCV RX7 107 311 7 0 := bCV_of (y := yX7_numberValue) ci7 inf_311 w_1270 w_1272 w_19 w_120 w_1273 ⟨rfl, by decide, by decide, by decide +kernel⟩
theorem rt_311 : brt 311 1 := Or.inl rfl
theorem fpX7_73 : bFP RX7 73 7 6 .int := ⟨_, _, ci7, (by decide), w_597, rfl, rfl⟩
theorem csX7_54 : bCS RX7 54 312 1 := bCS_of (y := yX7_mostOf) inf_312 w_1278 w_1279 w_120 w_120 w_1280 ⟨by decide, by decide, by decide +kernel⟩
theorem rt_312 : brt 312 1 := Or.inl rfl
theorem flX7_58 : bFL RX7 58 0 2 := ⟨_, _, ci0, (by decide), w_371⟩
theorem flX7_61 : bFL RX7 61 0 4 := ⟨_, _, ci0, (by decide), w_377⟩
theorem flX7_31 : bFL RX7 31 7 8 := ⟨_, _, ci7, (by decide), w_599⟩
theorem flX7_64 : bFL RX7 64 0 5 := ⟨_, _, ci0, (by decide), w_380⟩
theorem cvX7_67_313 : bCV RX7 67 313 7 1 := bCV_of (y := yX7_isNumber) ci7 inf_313 w_1281 w_1283 w_21 w_120 w_1284 ⟨rfl, by decide, by decide, by decide +kernel⟩
theorem rt_313 : brt 313 1 := Or.inr rfl
theorem flX7_70 : bFL RX7 70 0 3 := ⟨_, _, ci0, (by decide), w_374⟩
theorem flX7_73 : bFL RX7 73 7 6 := ⟨_, _, ci7, (by decide), w_597⟩
theorem cvX7_76_314 : bCV RX7 76 314 7 1 := bCV_of (y := yX7_parseCond) ci7 inf_314 w_1286 w_1288 w_22 w_120 w_1289 ⟨rfl, by decide, by decide, by decide +kernel⟩
theorem rt_314 : brt 314 1 := Or.inr rfl
theorem flX4_51 : bFL RX4 51 1 1 := ⟨_, _, ci1, (by decide), w_415⟩
theorem flX4_56 : bFL RX4 56 1 0 := ⟨_, _, ci1, (by decide), w_412⟩
theorem flX4_67 : bFL RX4 67 2 7 := ⟨_, _, ci2, (by decide), w_299⟩
theorem flX4_70 : bFL RX4 70 2 2 := ⟨_, _, ci2, (by decide), w_283⟩
theorem flX4_73 : bFL RX4 73 2 0 := ⟨_, _, ci2, (by decide), w_278⟩
theorem cvX4_76_162 : bCV RX4 76 162 1 1 := bCV_of (y := yX1_proofsThatCount) ci1 inf_162 w_1346 w_1327 w_1328 w_117 w_1329 ⟨rfl, by decide, by decide, by decide +kernel⟩
theorem flX4_80 : bFL RX4 80 10 4 := ⟨_, _, ci10, (by decide), w_163⟩
theorem flX4_43 : bFL RX4 43 4 4 := ⟨_, _, ci4, (by decide), w_630⟩
theorem cvX4_85_145 : bCV RX4 85 145 6 1 := bCV_of (y := yX6_fallsInEach) ci6 inf_145 w_1347 w_1095 w_1096 w_119 w_1097 ⟨rfl, by decide, by decide, by decide +kernel⟩
theorem cvX4_91_315 : bCV RX4 91 315 4 1 := bCV_of (y := yX4_hasFind) ci4 inf_315 w_1348 w_1350 w_28 w_121 w_1351 ⟨rfl, by decide, by decide, by decide +kernel⟩
theorem rt_315 : brt 315 1 := Or.inr rfl
theorem flX4_135 : bFL RX4 135 0 6 := ⟨_, _, ci0, (by decide), w_384⟩
theorem cvX4_138_316 : bCV RX4 138 316 4 1 := bCV_of (y := yX4_compares) ci4 inf_316 w_1377 w_1379 w_31 w_121 w_1380 ⟨rfl, by decide, by decide, by decide +kernel⟩
theorem rt_316 : brt 316 1 := Or.inr rfl
theorem flX4_15 : bFL RX4 15 4 6 := ⟨_, _, ci4, (by decide), w_632⟩
theorem fpX9_64 : bFP RX9 64 9 10 .int := ⟨_, _, ci9, (by decide), w_678, rfl, rfl⟩
theorem flX9_18 : bFL RX9 18 9 11 := ⟨_, _, ci9, (by decide), w_679⟩
theorem flX9_24 : bFL RX9 24 9 13 := ⟨_, _, ci9, (by decide), w_681⟩
theorem flX9_42 : bFL RX9 42 9 3 := ⟨_, _, ci9, (by decide), w_667⟩
theorem cvX9_90_145 : bCV RX9 90 145 6 1 := bCV_of (y := yX6_fallsInEach) ci6 inf_145 w_1471 w_1095 w_1096 w_119 w_1097 ⟨rfl, by decide, by decide, by decide +kernel⟩
theorem cvX9_96_317 : bCV RX9 96 317 9 1 := bCV_of (y := yX9_waiting) ci9 inf_317 w_1476 w_1478 w_37 w_122 w_1479 ⟨rfl, by decide, by decide, by decide +kernel⟩
theorem rt_317 : brt 317 1 := Or.inl rfl
theorem cvX9_105_318 : bCV RX9 105 318 9 4 := bCV_of (y := yX9_costVia) ci9 inf_318 w_1483 w_1485 w_38 w_122 w_1486 ⟨rfl, by decide, by decide, by decide +kernel⟩
theorem rt_318 : brt 318 1 := Or.inl rfl
theorem cmX9_109 : ∀ w ∈ [Cond.methodLink RX9 109 Lib.Math.max.name, Cond.static Lib.Math.max.name, Cond.initialized "java/lang/Math", Cond.code Lib.Math.max.name Lib.Math.max.code 2 (some .int)], w ∈ bT := in4 w_1487 w_1488 w_126 w_1489
theorem cvX9_113_319 : bCV RX9 113 319 9 3 := bCV_of (y := yX9_bestNext) ci9 inf_319 w_1494 w_1496 w_40 w_122 w_1497 ⟨rfl, by decide, by decide, by decide +kernel⟩
theorem rt_319 : brt 319 1 := Or.inl rfl
theorem fpX9_116 : bFP RX9 116 9 7 .int := ⟨_, _, ci9, (by decide), w_672, rfl, rfl⟩
theorem flX3_71 : bFL RX3 71 8 9 := ⟨_, _, ci8, (by decide), w_242⟩
theorem cvX3_77_258 : bCV RX3 77 258 8 1 := bCV_of (y := yX8_isDoubtedWord) ci8 inf_258 w_1581 w_1052 w_1053 w_114 w_1054 ⟨rfl, by decide, by decide, by decide +kernel⟩
theorem flX3_81 : bFL RX3 81 8 0 := ⟨_, _, ci8, (by decide), w_220⟩
theorem flX3_84 : bFL RX3 84 1 6 := ⟨_, _, ci1, (by decide), w_430⟩
theorem flX3_89 : bFL RX3 89 1 3 := ⟨_, _, ci1, (by decide), w_423⟩
theorem cvX3_139_320 : bCV RX3 139 320 3 1 := bCV_of (y := yX3_note) ci3 inf_320 w_1605 w_1607 w_43 w_123 w_1608 ⟨rfl, by decide, by decide, by decide +kernel⟩
theorem rt_320 : brt 320 0 := rfl
theorem flX3_109 : bFL RX3 109 3 15 := ⟨_, _, ci3, (by decide), w_741⟩
theorem flX3_103 : bFL RX3 103 3 14 := ⟨_, _, ci3, (by decide), w_740⟩
theorem cvX3_143_321 : bCV RX3 143 321 3 1 := bCV_of (y := yX3_parted) ci3 inf_321 w_1609 w_1611 w_44 w_123 w_1612 ⟨rfl, by decide, by decide, by decide +kernel⟩
theorem rt_321 : brt 321 1 := Or.inl rfl
theorem flX12_335 : bFL RX12 335 12 63 := ⟨_, _, ci12, (by decide), w_1731⟩
theorem flX12_358 : bFL RX12 358 12 68 := ⟨_, _, ci12, (by decide), w_1736⟩
theorem cvX12_443_322 : bCV RX12 443 322 12 0 := bCV_of (y := yX12_all) ci12 inf_322 w_2250 w_2252 w_74 w_124 w_2253 ⟨rfl, by decide, by decide, by decide +kernel⟩
theorem rt_322 : brt 322 0 := rfl
theorem klX12_446 : bKL RX12 446 (423) := ⟨w_2284, by unfold in64; decide⟩
theorem cvX12_425_323 : bCV RX12 425 323 12 3 := bCV_of (y := yX12_does) ci12 inf_323 w_2277 w_2279 w_79 w_124 w_2280 ⟨rfl, by decide, by decide, by decide +kernel⟩
theorem rt_323 : brt 323 0 := rfl
theorem cvX12_396_324 : bCV RX12 396 324 12 1 := bCV_of (y := yX12_isSign) ci12 inf_324 w_2269 w_2271 w_77 w_124 w_2272 ⟨rfl, by decide, by decide, by decide +kernel⟩
theorem rt_324 : brt 324 1 := Or.inr rfl
theorem cvX12_479_325 : bCV RX12 479 325 12 2 := bCV_of (y := yX12_isSo) ci12 inf_325 w_2323 w_2325 w_85 w_124 w_2326 ⟨rfl, by decide, by decide, by decide +kernel⟩
theorem rt_325 : brt 325 1 := Or.inr rfl
theorem flX12_576 : bFL RX12 576 12 95 := ⟨_, _, ci12, (by decide), w_1763⟩
theorem flX12_599 : bFL RX12 599 12 94 := ⟨_, _, ci12, (by decide), w_1762⟩
theorem flX12_145 : bFL RX12 145 12 45 := ⟨_, _, ci12, (by decide), w_1713⟩
theorem flX12_225 : bFL RX12 225 12 46 := ⟨_, _, ci12, (by decide), w_1714⟩
theorem flX5_142 : bFL RX5 142 10 2 := ⟨_, _, ci10, (by decide), w_157⟩
theorem flX5_158 : bFL RX5 158 10 5 := ⟨_, _, ci10, (by decide), w_170⟩
theorem flX5_37 : bFL RX5 37 5 1 := ⟨_, _, ci5, (by decide), w_470⟩
theorem flX5_161 : bFL RX5 161 8 9 := ⟨_, _, ci8, (by decide), w_244⟩
theorem flX5_166 : bFL RX5 166 8 0 := ⟨_, _, ci8, (by decide), w_221⟩
theorem flX5_169 : bFL RX5 169 8 1 := ⟨_, _, ci8, (by decide), w_225⟩
theorem flX5_172 : bFL RX5 172 8 5 := ⟨_, _, ci8, (by decide), w_234⟩
theorem flX6_92 : bFL RX6 92 8 9 := ⟨_, _, ci8, (by decide), w_241⟩
theorem flX6_97 : bFL RX6 97 8 0 := ⟨_, _, ci8, (by decide), w_219⟩
theorem flX6_100 : bFL RX6 100 5 8 := ⟨_, _, ci5, (by decide), w_481⟩
theorem flX6_103 : bFL RX6 103 5 5 := ⟨_, _, ci5, (by decide), w_475⟩
theorem flX6_106 : bFL RX6 106 8 1 := ⟨_, _, ci8, (by decide), w_223⟩
theorem flX6_109 : bFL RX6 109 8 3 := ⟨_, _, ci8, (by decide), w_229⟩
theorem flX6_112 : bFL RX6 112 8 4 := ⟨_, _, ci8, (by decide), w_231⟩
theorem cnX6_115 : bCN RX6 115 117 := ⟨rfl, by decide, w_839, w_838, w_111⟩
theorem rt_326 : brt 326 1 := Or.inl rfl
theorem cnX7_86 : bCN RX7 86 117 := ⟨rfl, by decide, w_839, w_838, w_111⟩
theorem cvX7_79_328 : bCV RX7 79 328 7 1 := bCV_of (y := yX7_parseOne) ci7 inf_328 w_1290 w_1292 w_23 w_120 w_1293 ⟨rfl, by decide, by decide, by decide +kernel⟩
theorem rt_328 : brt 328 1 := Or.inr rfl
theorem cvX7_82_329 : bCV RX7 82 329 7 1 := bCV_of (y := yX7_emit) ci7 inf_329 w_1294 w_1296 w_24 w_120 w_1297 ⟨rfl, by decide, by decide, by decide +kernel⟩
theorem rt_329 : brt 329 0 := rfl
theorem flX4_94 : bFL RX4 94 2 15 := ⟨_, _, ci2, (by decide), w_324⟩
theorem cvX4_98_155 : bCV RX4 98 155 6 2 := bCV_of (y := yX6_canBe) ci6 inf_155 w_1352 w_1184 w_1185 w_119 w_1186 ⟨rfl, by decide, by decide, by decide +kernel⟩
theorem flX3_146 : bFL RX3 146 3 11 := ⟨_, _, ci3, (by decide), w_736⟩
theorem flX3_30 : bFL RX3 30 3 10 := ⟨_, _, ci3, (by decide), w_734⟩
theorem fpX3_146 : bFP RX3 146 3 11 .int := ⟨_, _, ci3, (by decide), w_736, rfl, rfl⟩
theorem cvX12_438_330 : bCV RX12 438 330 12 0 := bCV_of (y := yX12_one) ci12 inf_330 w_2254 w_2256 w_75 w_124 w_2257 ⟨rfl, by decide, by decide, by decide +kernel⟩
theorem rt_330 : brt 330 0 := rfl
theorem klX12_441 : bKL RX12 441 (1111) := ⟨w_2283, by unfold in64; decide⟩
theorem cvX7_90_331 : bCV RX7 90 331 7 0 := bCV_of (y := yX7_parseCompare) ci7 inf_331 w_1298 w_1300 w_25 w_120 w_1301 ⟨rfl, by decide, by decide, by decide +kernel⟩
theorem rt_331 : brt 331 1 := Or.inr rfl
theorem flX7_94 : bFL RX7 94 0 6 := ⟨_, _, ci0, (by decide), w_383⟩
theorem klX12_414 : bKL RX12 414 (10631) := ⟨w_2258, by unfold in64; decide⟩
theorem cvX12_416_332 : bCV RX12 416 332 12 0 := bCV_of (y := yX12_factHere) ci12 inf_332 w_2259 w_2261 w_76 w_124 w_2262 ⟨rfl, by decide, by decide, by decide +kernel⟩
theorem rt_332 : brt 332 1 := Or.inl rfl
theorem klX12_428 : bKL RX12 428 (122079) := ⟨w_2281, by unfold in64; decide⟩
theorem klX12_430 : bKL RX12 430 (3499582) := ⟨w_2282, by unfold in64; decide⟩
theorem flX12_432 : bFL RX12 432 12 72 := ⟨_, _, ci12, (by decide), w_1740⟩
theorem klX12_402 : bKL RX12 402 (12532058) := ⟨w_2263, by unfold in64; decide⟩
theorem klX12_404 : bKL RX12 404 (385418) := ⟨w_2264, by unfold in64; decide⟩
theorem klX12_406 : bKL RX12 406 (10983956) := ⟨w_2265, by unfold in64; decide⟩
theorem klX12_408 : bKL RX12 408 (8276) := ⟨w_2266, by unfold in64; decide⟩
theorem klX12_410 : bKL RX12 410 (239454811) := ⟨w_2267, by unfold in64; decide⟩
theorem klX12_412 : bKL RX12 412 (9665171) := ⟨w_2268, by unfold in64; decide⟩
