/-! ===== the law: its links, its body ===== -/
theorem w_830 : Cond.methodLink RL 13 yX11_reach ∈ bT := bT_c4 0 (by decide +kernel) rfl
theorem w_831 : Cond.instanceMethod yX11_reach ∈ bT := bT_c4 1 (by decide +kernel) rfl
theorem w_832 : Cond.selects RX11 yX11_reach yX11_reach ∈ bT := bT_c4 2 (by decide +kernel) rfl
theorem w_833 : Cond.code yX11_reach cX11_reach 5 (some .int) ∈ bT := bT_c4 3 (by decide +kernel) rfl
theorem w_848 : Cond.methodLink RL 18 yX11_pond ∈ bT := bT_c4 18 (by decide +kernel) rfl
theorem w_849 : Cond.instanceMethod yX11_pond ∈ bT := bT_c4 19 (by decide +kernel) rfl
theorem w_850 : Cond.selects RX11 yX11_pond yX11_pond ∈ bT := bT_c4 20 (by decide +kernel) rfl
theorem w_851 : Cond.code yX11_pond cX11_pond 3 (some .int) ∈ bT := bT_c4 21 (by decide +kernel) rfl
theorem w_852 : Cond.methodLink RL 23 yX11_gate ∈ bT := bT_c4 22 (by decide +kernel) rfl
theorem w_853 : Cond.instanceMethod yX11_gate ∈ bT := bT_c4 23 (by decide +kernel) rfl
theorem w_854 : Cond.selects RX11 yX11_gate yX11_gate ∈ bT := bT_c4 24 (by decide +kernel) rfl
theorem w_855 : Cond.code yX11_gate cX11_gate 4 (some .int) ∈ bT := bT_c4 25 (by decide +kernel) rfl
theorem w_862 : Cond.methodLink RL 28 yX11_table ∈ bT := bT_c4 32 (by decide +kernel) rfl
theorem w_863 : Cond.instanceMethod yX11_table ∈ bT := bT_c4 33 (by decide +kernel) rfl
theorem w_864 : Cond.selects RX11 yX11_table yX11_table ∈ bT := bT_c4 34 (by decide +kernel) rfl
theorem w_865 : Cond.code yX11_table cX11_table 5 (some .int) ∈ bT := bT_c4 35 (by decide +kernel) rfl
theorem w_884 : Cond.methodLink RL 32 yX11_house ∈ bT := bT_c4 54 (by decide +kernel) rfl
theorem w_885 : Cond.instanceMethod yX11_house ∈ bT := bT_c4 55 (by decide +kernel) rfl
theorem w_886 : Cond.selects RX11 yX11_house yX11_house ∈ bT := bT_c4 56 (by decide +kernel) rfl
theorem w_887 : Cond.code yX11_house cX11_house 5 (some .int) ∈ bT := bT_c4 57 (by decide +kernel) rfl
theorem w_888 : Cond.methodLink RL 36 yX11_depth ∈ bT := bT_c4 58 (by decide +kernel) rfl
theorem w_889 : Cond.instanceMethod yX11_depth ∈ bT := bT_c4 59 (by decide +kernel) rfl
theorem w_890 : Cond.selects RX11 yX11_depth yX11_depth ∈ bT := bT_c4 60 (by decide +kernel) rfl
theorem w_891 : Cond.code yX11_depth cX11_depth 5 (some .int) ∈ bT := bT_c4 61 (by decide +kernel) rfl
theorem w_952 : Cond.methodLink RL 41 yX11_falls ∈ bT := bT_c4 122 (by decide +kernel) rfl
theorem w_953 : Cond.instanceMethod yX11_falls ∈ bT := bT_c4 123 (by decide +kernel) rfl
theorem w_954 : Cond.selects RX11 yX11_falls yX11_falls ∈ bT := bT_c4 124 (by decide +kernel) rfl
theorem w_955 : Cond.code yX11_falls cX11_falls 4 (some .int) ∈ bT := bT_c4 125 (by decide +kernel) rfl
theorem w_960 : Cond.methodLink RL 45 yX11_sooner ∈ bT := bT_c4 130 (by decide +kernel) rfl
theorem w_961 : Cond.instanceMethod yX11_sooner ∈ bT := bT_c4 131 (by decide +kernel) rfl
theorem w_962 : Cond.selects RX11 yX11_sooner yX11_sooner ∈ bT := bT_c4 132 (by decide +kernel) rfl
theorem w_963 : Cond.code yX11_sooner cX11_sooner 7 (some .int) ∈ bT := bT_c4 133 (by decide +kernel) rfl
theorem w_974 : Cond.methodLink RL 49 yX11_clock ∈ bT := bT_c4 144 (by decide +kernel) rfl
theorem w_975 : Cond.instanceMethod yX11_clock ∈ bT := bT_c4 145 (by decide +kernel) rfl
theorem w_976 : Cond.selects RX11 yX11_clock yX11_clock ∈ bT := bT_c4 146 (by decide +kernel) rfl
theorem w_977 : Cond.code yX11_clock cX11_clock 7 (some .int) ∈ bT := bT_c4 147 (by decide +kernel) rfl
theorem w_982 : Cond.methodLink RL 53 yX11_mark ∈ bT := bT_c4 152 (by decide +kernel) rfl
theorem w_983 : Cond.instanceMethod yX11_mark ∈ bT := bT_c4 153 (by decide +kernel) rfl
theorem w_984 : Cond.selects RX11 yX11_mark yX11_mark ∈ bT := bT_c4 154 (by decide +kernel) rfl
theorem w_985 : Cond.code yX11_mark cX11_mark 4 (some .int) ∈ bT := bT_c4 155 (by decide +kernel) rfl
theorem w_986 : Cond.methodLink RL 57 yX11_word ∈ bT := bT_c4 156 (by decide +kernel) rfl
theorem w_987 : Cond.instanceMethod yX11_word ∈ bT := bT_c4 157 (by decide +kernel) rfl
theorem w_988 : Cond.selects RX11 yX11_word yX11_word ∈ bT := bT_c4 158 (by decide +kernel) rfl
theorem w_989 : Cond.code yX11_word cX11_word 5 (some .int) ∈ bT := bT_c4 159 (by decide +kernel) rfl
theorem w_994 : Cond.methodLink RL 61 yX11_tear ∈ bT := bT_c4 164 (by decide +kernel) rfl
theorem w_995 : Cond.instanceMethod yX11_tear ∈ bT := bT_c4 165 (by decide +kernel) rfl
theorem w_996 : Cond.selects RX11 yX11_tear yX11_tear ∈ bT := bT_c4 166 (by decide +kernel) rfl
theorem w_997 : Cond.code yX11_tear cX11_tear 3 (some .int) ∈ bT := bT_c4 167 (by decide +kernel) rfl
theorem w_1002 : Cond.methodLink RL 66 yX11_side ∈ bT := bT_c4 172 (by decide +kernel) rfl
theorem w_1003 : Cond.instanceMethod yX11_side ∈ bT := bT_c4 173 (by decide +kernel) rfl
theorem w_1004 : Cond.selects RX11 yX11_side yX11_side ∈ bT := bT_c4 174 (by decide +kernel) rfl
theorem w_1005 : Cond.code yX11_side cX11_side 4 (some .int) ∈ bT := bT_c4 175 (by decide +kernel) rfl
theorem w_1006 : Cond.methodLink RL 70 yX11_doubt ∈ bT := bT_c4 176 (by decide +kernel) rfl
theorem w_1007 : Cond.instanceMethod yX11_doubt ∈ bT := bT_c4 177 (by decide +kernel) rfl
theorem w_1008 : Cond.selects RX11 yX11_doubt yX11_doubt ∈ bT := bT_c4 178 (by decide +kernel) rfl
theorem w_1009 : Cond.code yX11_doubt cX11_doubt 3 (some .int) ∈ bT := bT_c4 179 (by decide +kernel) rfl
theorem w_1014 : Cond.methodLink RL 74 yX11_lets ∈ bT := bT_c4 184 (by decide +kernel) rfl
theorem w_1015 : Cond.instanceMethod yX11_lets ∈ bT := bT_c4 185 (by decide +kernel) rfl
theorem w_1016 : Cond.selects RX11 yX11_lets yX11_lets ∈ bT := bT_c4 186 (by decide +kernel) rfl
theorem w_1017 : Cond.code yX11_lets cX11_lets 4 (some .int) ∈ bT := bT_c4 187 (by decide +kernel) rfl
theorem w_1039 : Cond.methodLink RL 78 yX11_possible ∈ bT := bT_c4 209 (by decide +kernel) rfl
theorem w_1040 : Cond.instanceMethod yX11_possible ∈ bT := bT_c4 210 (by decide +kernel) rfl
theorem w_1041 : Cond.selects RX11 yX11_possible yX11_possible ∈ bT := bT_c4 211 (by decide +kernel) rfl
theorem w_1042 : Cond.code yX11_possible cX11_possible 2 (some .int) ∈ bT := bT_c4 212 (by decide +kernel) rfl
theorem w_1060 : Cond.methodLink RL 82 yX11_span ∈ bT := bT_c4 230 (by decide +kernel) rfl
theorem w_1061 : Cond.instanceMethod yX11_span ∈ bT := bT_c4 231 (by decide +kernel) rfl
theorem w_1062 : Cond.selects RX11 yX11_span yX11_span ∈ bT := bT_c4 232 (by decide +kernel) rfl
theorem w_1063 : Cond.code yX11_span cX11_span 3 (some .int) ∈ bT := bT_c4 233 (by decide +kernel) rfl
theorem w_1072 : Cond.methodLink RL 86 yX11_hangs ∈ bT := bT_c5 2 (by decide +kernel) rfl
theorem w_1073 : Cond.instanceMethod yX11_hangs ∈ bT := bT_c5 3 (by decide +kernel) rfl
theorem w_1074 : Cond.selects RX11 yX11_hangs yX11_hangs ∈ bT := bT_c5 4 (by decide +kernel) rfl
theorem w_1075 : Cond.code yX11_hangs cX11_hangs 4 (some .int) ∈ bT := bT_c5 5 (by decide +kernel) rfl
theorem w_1081 : Cond.methodLink RL 90 yX11_sure ∈ bT := bT_c5 11 (by decide +kernel) rfl
theorem w_1082 : Cond.instanceMethod yX11_sure ∈ bT := bT_c5 12 (by decide +kernel) rfl
theorem w_1083 : Cond.selects RX11 yX11_sure yX11_sure ∈ bT := bT_c5 13 (by decide +kernel) rfl
theorem w_1084 : Cond.code yX11_sure cX11_sure 2 (some .int) ∈ bT := bT_c5 14 (by decide +kernel) rfl
theorem w_1102 : Cond.methodLink RL 94 yX11_could ∈ bT := bT_c5 32 (by decide +kernel) rfl
theorem w_1103 : Cond.instanceMethod yX11_could ∈ bT := bT_c5 33 (by decide +kernel) rfl
theorem w_1104 : Cond.selects RX11 yX11_could yX11_could ∈ bT := bT_c5 34 (by decide +kernel) rfl
theorem w_1105 : Cond.code yX11_could cX11_could 7 (some .int) ∈ bT := bT_c5 35 (by decide +kernel) rfl
theorem w_1113 : Cond.methodLink RL 99 yX11_told ∈ bT := bT_c5 43 (by decide +kernel) rfl
theorem w_1114 : Cond.instanceMethod yX11_told ∈ bT := bT_c5 44 (by decide +kernel) rfl
theorem w_1115 : Cond.selects RX11 yX11_told yX11_told ∈ bT := bT_c5 45 (by decide +kernel) rfl
theorem w_1116 : Cond.code yX11_told cX11_told 5 (some .int) ∈ bT := bT_c5 46 (by decide +kernel) rfl
theorem w_1123 : Cond.methodLink RL 103 yX11_person ∈ bT := bT_c5 53 (by decide +kernel) rfl
theorem w_1124 : Cond.instanceMethod yX11_person ∈ bT := bT_c5 54 (by decide +kernel) rfl
theorem w_1125 : Cond.selects RX11 yX11_person yX11_person ∈ bT := bT_c5 55 (by decide +kernel) rfl
theorem w_1126 : Cond.code yX11_person cX11_person 5 (some .int) ∈ bT := bT_c5 56 (by decide +kernel) rfl
theorem w_1127 : Cond.methodLink RL 107 yX11_safe ∈ bT := bT_c5 57 (by decide +kernel) rfl
theorem w_1128 : Cond.instanceMethod yX11_safe ∈ bT := bT_c5 58 (by decide +kernel) rfl
theorem w_1129 : Cond.selects RX11 yX11_safe yX11_safe ∈ bT := bT_c5 59 (by decide +kernel) rfl
theorem w_1130 : Cond.code yX11_safe cX11_safe 3 (some .int) ∈ bT := bT_c5 60 (by decide +kernel) rfl
theorem w_1135 : Cond.methodLink RL 111 yX11_name ∈ bT := bT_c5 65 (by decide +kernel) rfl
theorem w_1136 : Cond.instanceMethod yX11_name ∈ bT := bT_c5 66 (by decide +kernel) rfl
theorem w_1137 : Cond.selects RX11 yX11_name yX11_name ∈ bT := bT_c5 67 (by decide +kernel) rfl
theorem w_1138 : Cond.code yX11_name cX11_name 4 (some .int) ∈ bT := bT_c5 68 (by decide +kernel) rfl
theorem w_1139 : Cond.methodLink RL 115 yX11_list ∈ bT := bT_c5 69 (by decide +kernel) rfl
theorem w_1140 : Cond.instanceMethod yX11_list ∈ bT := bT_c5 70 (by decide +kernel) rfl
theorem w_1141 : Cond.selects RX11 yX11_list yX11_list ∈ bT := bT_c5 71 (by decide +kernel) rfl
theorem w_1142 : Cond.code yX11_list cX11_list 2 (some .int) ∈ bT := bT_c5 72 (by decide +kernel) rfl
theorem w_1159 : Cond.methodLink RL 119 yX11_thing ∈ bT := bT_c5 89 (by decide +kernel) rfl
theorem w_1160 : Cond.instanceMethod yX11_thing ∈ bT := bT_c5 90 (by decide +kernel) rfl
theorem w_1161 : Cond.selects RX11 yX11_thing yX11_thing ∈ bT := bT_c5 91 (by decide +kernel) rfl
theorem w_1162 : Cond.code yX11_thing cX11_thing 5 (some .int) ∈ bT := bT_c5 92 (by decide +kernel) rfl
theorem w_1163 : Cond.methodLink RL 123 yX11_lies ∈ bT := bT_c5 93 (by decide +kernel) rfl
theorem w_1164 : Cond.instanceMethod yX11_lies ∈ bT := bT_c5 94 (by decide +kernel) rfl
theorem w_1165 : Cond.selects RX11 yX11_lies yX11_lies ∈ bT := bT_c5 95 (by decide +kernel) rfl
theorem w_1166 : Cond.code yX11_lies cX11_lies 4 (some .int) ∈ bT := bT_c5 96 (by decide +kernel) rfl
theorem w_1175 : Cond.methodLink RL 127 yX11_find ∈ bT := bT_c5 105 (by decide +kernel) rfl
theorem w_1176 : Cond.instanceMethod yX11_find ∈ bT := bT_c5 106 (by decide +kernel) rfl
theorem w_1177 : Cond.selects RX11 yX11_find yX11_find ∈ bT := bT_c5 107 (by decide +kernel) rfl
theorem w_1178 : Cond.code yX11_find cX11_find 4 (some .int) ∈ bT := bT_c5 108 (by decide +kernel) rfl
theorem w_1179 : Cond.methodLink RL 131 yX11_whose ∈ bT := bT_c5 109 (by decide +kernel) rfl
theorem w_1180 : Cond.instanceMethod yX11_whose ∈ bT := bT_c5 110 (by decide +kernel) rfl
theorem w_1181 : Cond.selects RX11 yX11_whose yX11_whose ∈ bT := bT_c5 111 (by decide +kernel) rfl
theorem w_1182 : Cond.code yX11_whose cX11_whose 4 (some .int) ∈ bT := bT_c5 112 (by decide +kernel) rfl
theorem w_1187 : Cond.methodLink RL 135 yX11_days ∈ bT := bT_c5 117 (by decide +kernel) rfl
theorem w_1188 : Cond.instanceMethod yX11_days ∈ bT := bT_c5 118 (by decide +kernel) rfl
theorem w_1189 : Cond.selects RX11 yX11_days yX11_days ∈ bT := bT_c5 119 (by decide +kernel) rfl
theorem w_1190 : Cond.code yX11_days cX11_days 2 (some .int) ∈ bT := bT_c5 120 (by decide +kernel) rfl
theorem w_1191 : Cond.methodLink RL 141 yX11_feed ∈ bT := bT_c5 121 (by decide +kernel) rfl
theorem w_1192 : Cond.instanceMethod yX11_feed ∈ bT := bT_c5 122 (by decide +kernel) rfl
theorem w_1193 : Cond.selects RX11 yX11_feed yX11_feed ∈ bT := bT_c5 123 (by decide +kernel) rfl
theorem w_1194 : Cond.code yX11_feed cX11_feed 4 (some .int) ∈ bT := bT_c5 124 (by decide +kernel) rfl
theorem w_1199 : Cond.methodLink RL 146 yX11_read ∈ bT := bT_c5 129 (by decide +kernel) rfl
theorem w_1200 : Cond.instanceMethod yX11_read ∈ bT := bT_c5 130 (by decide +kernel) rfl
theorem w_1201 : Cond.selects RX11 yX11_read yX11_read ∈ bT := bT_c5 131 (by decide +kernel) rfl
theorem w_1202 : Cond.code yX11_read cX11_read 3 (some .int) ∈ bT := bT_c5 132 (by decide +kernel) rfl
theorem w_1302 : Cond.methodLink RL 151 yX11_claim ∈ bT := bT_c5 232 (by decide +kernel) rfl
theorem w_1303 : Cond.instanceMethod yX11_claim ∈ bT := bT_c5 233 (by decide +kernel) rfl
theorem w_1304 : Cond.selects RX11 yX11_claim yX11_claim ∈ bT := bT_c5 234 (by decide +kernel) rfl
theorem w_1305 : Cond.code yX11_claim cX11_claim 3 (some .int) ∈ bT := bT_c5 235 (by decide +kernel) rfl
theorem w_1314 : Cond.methodLink RL 155 yX11_proof ∈ bT := bT_c6 4 (by decide +kernel) rfl
theorem w_1315 : Cond.instanceMethod yX11_proof ∈ bT := bT_c6 5 (by decide +kernel) rfl
theorem w_1316 : Cond.selects RX11 yX11_proof yX11_proof ∈ bT := bT_c6 6 (by decide +kernel) rfl
theorem w_1317 : Cond.code yX11_proof cX11_proof 3 (some .int) ∈ bT := bT_c6 7 (by decide +kernel) rfl
theorem w_1331 : Cond.methodLink RL 159 yX11_claimOf ∈ bT := bT_c6 21 (by decide +kernel) rfl
theorem w_1332 : Cond.instanceMethod yX11_claimOf ∈ bT := bT_c6 22 (by decide +kernel) rfl
theorem w_1333 : Cond.selects RX11 yX11_claimOf yX11_claimOf ∈ bT := bT_c6 23 (by decide +kernel) rfl
theorem w_1334 : Cond.code yX11_claimOf cX11_claimOf 5 (some .int) ∈ bT := bT_c6 24 (by decide +kernel) rfl
theorem w_1394 : Cond.methodLink RL 163 yX11_why ∈ bT := bT_c6 84 (by decide +kernel) rfl
theorem w_1395 : Cond.instanceMethod yX11_why ∈ bT := bT_c6 85 (by decide +kernel) rfl
theorem w_1396 : Cond.selects RX11 yX11_why yX11_why ∈ bT := bT_c6 86 (by decide +kernel) rfl
theorem w_1397 : Cond.code yX11_why cX11_why 5 (some .int) ∈ bT := bT_c6 87 (by decide +kernel) rfl
theorem w_1399 : Cond.methodLink RL 167 yX11_odd ∈ bT := bT_c6 89 (by decide +kernel) rfl
theorem w_1400 : Cond.instanceMethod yX11_odd ∈ bT := bT_c6 90 (by decide +kernel) rfl
theorem w_1401 : Cond.selects RX11 yX11_odd yX11_odd ∈ bT := bT_c6 91 (by decide +kernel) rfl
theorem w_1402 : Cond.code yX11_odd cX11_odd 2 (some .int) ∈ bT := bT_c6 92 (by decide +kernel) rfl
theorem w_1415 : Cond.methodLink RL 171 yX11_fund ∈ bT := bT_c6 105 (by decide +kernel) rfl
theorem w_1416 : Cond.instanceMethod yX11_fund ∈ bT := bT_c6 106 (by decide +kernel) rfl
theorem w_1417 : Cond.selects RX11 yX11_fund yX11_fund ∈ bT := bT_c6 107 (by decide +kernel) rfl
theorem w_1418 : Cond.code yX11_fund cX11_fund 2 (some .int) ∈ bT := bT_c6 108 (by decide +kernel) rfl
theorem w_1421 : Cond.methodLink RL 175 yX11_pay ∈ bT := bT_c6 111 (by decide +kernel) rfl
theorem w_1422 : Cond.instanceMethod yX11_pay ∈ bT := bT_c6 112 (by decide +kernel) rfl
theorem w_1423 : Cond.selects RX11 yX11_pay yX11_pay ∈ bT := bT_c6 113 (by decide +kernel) rfl
theorem w_1424 : Cond.code yX11_pay cX11_pay 1 (some .int) ∈ bT := bT_c6 114 (by decide +kernel) rfl
theorem w_1437 : Cond.methodLink RL 179 yX11_offer ∈ bT := bT_c6 127 (by decide +kernel) rfl
theorem w_1438 : Cond.instanceMethod yX11_offer ∈ bT := bT_c6 128 (by decide +kernel) rfl
theorem w_1439 : Cond.selects RX11 yX11_offer yX11_offer ∈ bT := bT_c6 129 (by decide +kernel) rfl
theorem w_1440 : Cond.code yX11_offer cX11_offer 3 (some .int) ∈ bT := bT_c6 130 (by decide +kernel) rfl
theorem w_1442 : Cond.methodLink RL 183 yX11_likest ∈ bT := bT_c6 132 (by decide +kernel) rfl
theorem w_1443 : Cond.instanceMethod yX11_likest ∈ bT := bT_c6 133 (by decide +kernel) rfl
theorem w_1444 : Cond.selects RX11 yX11_likest yX11_likest ∈ bT := bT_c6 134 (by decide +kernel) rfl
theorem w_1445 : Cond.code yX11_likest cX11_likest 2 (some .int) ∈ bT := bT_c6 135 (by decide +kernel) rfl
theorem w_1459 : Cond.methodLink RL 187 yX11_round ∈ bT := bT_c6 149 (by decide +kernel) rfl
theorem w_1460 : Cond.instanceMethod yX11_round ∈ bT := bT_c6 150 (by decide +kernel) rfl
theorem w_1461 : Cond.selects RX11 yX11_round yX11_round ∈ bT := bT_c6 151 (by decide +kernel) rfl
theorem w_1462 : Cond.code yX11_round cX11_round 4 (some .int) ∈ bT := bT_c6 152 (by decide +kernel) rfl
theorem w_1498 : Cond.methodLink RL 191 yX11_row ∈ bT := bT_c6 188 (by decide +kernel) rfl
theorem w_1499 : Cond.instanceMethod yX11_row ∈ bT := bT_c6 189 (by decide +kernel) rfl
theorem w_1500 : Cond.selects RX11 yX11_row yX11_row ∈ bT := bT_c6 190 (by decide +kernel) rfl
theorem w_1501 : Cond.code yX11_row cX11_row 3 (some .int) ∈ bT := bT_c6 191 (by decide +kernel) rfl
theorem w_1502 : Cond.methodLink RL 195 yX11_alterRow ∈ bT := bT_c6 192 (by decide +kernel) rfl
theorem w_1503 : Cond.instanceMethod yX11_alterRow ∈ bT := bT_c6 193 (by decide +kernel) rfl
theorem w_1504 : Cond.selects RX11 yX11_alterRow yX11_alterRow ∈ bT := bT_c6 194 (by decide +kernel) rfl
theorem w_1505 : Cond.code yX11_alterRow cX11_alterRow 6 (some .int) ∈ bT := bT_c6 195 (by decide +kernel) rfl
theorem w_1506 : Cond.methodLink RL 199 yX11_dropRow ∈ bT := bT_c6 196 (by decide +kernel) rfl
theorem w_1507 : Cond.instanceMethod yX11_dropRow ∈ bT := bT_c6 197 (by decide +kernel) rfl
theorem w_1508 : Cond.selects RX11 yX11_dropRow yX11_dropRow ∈ bT := bT_c6 198 (by decide +kernel) rfl
theorem w_1509 : Cond.code yX11_dropRow cX11_dropRow 1 (some .int) ∈ bT := bT_c6 199 (by decide +kernel) rfl
theorem w_1510 : Cond.methodLink RL 203 yX11_judge ∈ bT := bT_c6 200 (by decide +kernel) rfl
theorem w_1511 : Cond.instanceMethod yX11_judge ∈ bT := bT_c6 201 (by decide +kernel) rfl
theorem w_1512 : Cond.selects RX11 yX11_judge yX11_judge ∈ bT := bT_c6 202 (by decide +kernel) rfl
theorem w_1513 : Cond.code yX11_judge cX11_judge 1 (some .int) ∈ bT := bT_c6 203 (by decide +kernel) rfl
theorem w_1519 : Cond.methodLink RL 207 yX11_years ∈ bT := bT_c6 209 (by decide +kernel) rfl
theorem w_1520 : Cond.instanceMethod yX11_years ∈ bT := bT_c6 210 (by decide +kernel) rfl
theorem w_1521 : Cond.selects RX11 yX11_years yX11_years ∈ bT := bT_c6 211 (by decide +kernel) rfl
theorem w_1522 : Cond.code yX11_years cX11_years 4 (some .int) ∈ bT := bT_c6 212 (by decide +kernel) rfl
theorem w_1530 : Cond.methodLink RL 211 yX11_rate ∈ bT := bT_c6 220 (by decide +kernel) rfl
theorem w_1531 : Cond.instanceMethod yX11_rate ∈ bT := bT_c6 221 (by decide +kernel) rfl
theorem w_1532 : Cond.selects RX11 yX11_rate yX11_rate ∈ bT := bT_c6 222 (by decide +kernel) rfl
theorem w_1533 : Cond.code yX11_rate cX11_rate 8 (some .int) ∈ bT := bT_c6 223 (by decide +kernel) rfl
theorem w_1534 : Cond.methodLink RL 215 yX11_sheet ∈ bT := bT_c6 224 (by decide +kernel) rfl
theorem w_1535 : Cond.instanceMethod yX11_sheet ∈ bT := bT_c6 225 (by decide +kernel) rfl
theorem w_1536 : Cond.selects RX11 yX11_sheet yX11_sheet ∈ bT := bT_c6 226 (by decide +kernel) rfl
theorem w_1537 : Cond.code yX11_sheet cX11_sheet 4 (some .int) ∈ bT := bT_c6 227 (by decide +kernel) rfl
theorem w_1542 : Cond.methodLink RL 219 yX11_put ∈ bT := bT_c6 232 (by decide +kernel) rfl
theorem w_1543 : Cond.instanceMethod yX11_put ∈ bT := bT_c6 233 (by decide +kernel) rfl
theorem w_1544 : Cond.selects RX11 yX11_put yX11_put ∈ bT := bT_c6 234 (by decide +kernel) rfl
theorem w_1545 : Cond.code yX11_put cX11_put 4 (some .int) ∈ bT := bT_c6 235 (by decide +kernel) rfl
theorem w_1549 : Cond.methodLink RL 223 yX11_item ∈ bT := bT_c6 239 (by decide +kernel) rfl
theorem w_1550 : Cond.instanceMethod yX11_item ∈ bT := bT_c7 0 (by decide +kernel) rfl
theorem w_1551 : Cond.selects RX11 yX11_item yX11_item ∈ bT := bT_c7 1 (by decide +kernel) rfl
theorem w_1552 : Cond.code yX11_item cX11_item 5 (some .int) ∈ bT := bT_c7 2 (by decide +kernel) rfl
theorem w_1553 : Cond.methodLink RL 227 yX11_shelf ∈ bT := bT_c7 3 (by decide +kernel) rfl
theorem w_1554 : Cond.instanceMethod yX11_shelf ∈ bT := bT_c7 4 (by decide +kernel) rfl
theorem w_1555 : Cond.selects RX11 yX11_shelf yX11_shelf ∈ bT := bT_c7 5 (by decide +kernel) rfl
theorem w_1556 : Cond.code yX11_shelf cX11_shelf 4 (some .int) ∈ bT := bT_c7 6 (by decide +kernel) rfl
theorem w_1569 : Cond.methodLink RL 231 yX11_taken ∈ bT := bT_c7 19 (by decide +kernel) rfl
theorem w_1570 : Cond.instanceMethod yX11_taken ∈ bT := bT_c7 20 (by decide +kernel) rfl
theorem w_1571 : Cond.selects RX11 yX11_taken yX11_taken ∈ bT := bT_c7 21 (by decide +kernel) rfl
theorem w_1572 : Cond.code yX11_taken cX11_taken 4 (some .int) ∈ bT := bT_c7 22 (by decide +kernel) rfl
theorem w_1591 : Cond.methodLink RL 235 yX11_deal ∈ bT := bT_c7 41 (by decide +kernel) rfl
theorem w_1592 : Cond.instanceMethod yX11_deal ∈ bT := bT_c7 42 (by decide +kernel) rfl
theorem w_1593 : Cond.selects RX11 yX11_deal yX11_deal ∈ bT := bT_c7 43 (by decide +kernel) rfl
theorem w_1594 : Cond.code yX11_deal cX11_deal 4 (some .int) ∈ bT := bT_c7 44 (by decide +kernel) rfl
theorem w_1613 : Cond.methodLink RL 239 yX11_trace ∈ bT := bT_c7 63 (by decide +kernel) rfl
theorem w_1614 : Cond.instanceMethod yX11_trace ∈ bT := bT_c7 64 (by decide +kernel) rfl
theorem w_1615 : Cond.selects RX11 yX11_trace yX11_trace ∈ bT := bT_c7 65 (by decide +kernel) rfl
theorem w_1616 : Cond.code yX11_trace cX11_trace 2 (some .int) ∈ bT := bT_c7 66 (by decide +kernel) rfl
theorem w_1617 : Cond.methodLink RL 243 yX11_many ∈ bT := bT_c7 67 (by decide +kernel) rfl
theorem w_1618 : Cond.instanceMethod yX11_many ∈ bT := bT_c7 68 (by decide +kernel) rfl
theorem w_1619 : Cond.selects RX11 yX11_many yX11_many ∈ bT := bT_c7 69 (by decide +kernel) rfl
theorem w_1620 : Cond.code yX11_many cX11_many 2 (some .int) ∈ bT := bT_c7 70 (by decide +kernel) rfl
theorem w_1629 : Cond.methodLink RL 247 yX11_keep ∈ bT := bT_c7 79 (by decide +kernel) rfl
theorem w_1630 : Cond.instanceMethod yX11_keep ∈ bT := bT_c7 80 (by decide +kernel) rfl
theorem w_1631 : Cond.selects RX11 yX11_keep yX11_keep ∈ bT := bT_c7 81 (by decide +kernel) rfl
theorem w_1632 : Cond.code yX11_keep cX11_keep 1 (some .int) ∈ bT := bT_c7 82 (by decide +kernel) rfl
theorem w_1658 : Cond.methodLink RL 251 yX11_again ∈ bT := bT_c7 108 (by decide +kernel) rfl
theorem w_1659 : Cond.instanceMethod yX11_again ∈ bT := bT_c7 109 (by decide +kernel) rfl
theorem w_1660 : Cond.selects RX11 yX11_again yX11_again ∈ bT := bT_c7 110 (by decide +kernel) rfl
theorem w_1661 : Cond.code yX11_again cX11_again 1 (some .int) ∈ bT := bT_c7 111 (by decide +kernel) rfl
theorem w_1961 : Cond.methodLink RL 250 yX12_keep ∈ bT := bT_c8 171 (by decide +kernel) rfl
theorem w_1962 : Cond.instanceMethod yX12_keep ∈ bT := bT_c8 172 (by decide +kernel) rfl
theorem w_1963 : Cond.selects RX12 yX12_keep yX12_keep ∈ bT := bT_c8 173 (by decide +kernel) rfl
theorem w_1964 : Cond.code yX12_keep cX12_keep 1 (some .int) ∈ bT := bT_c8 174 (by decide +kernel) rfl
theorem w_1973 : Cond.methodLink RL 254 yX12_again ∈ bT := bT_c8 183 (by decide +kernel) rfl
theorem w_1974 : Cond.instanceMethod yX12_again ∈ bT := bT_c8 184 (by decide +kernel) rfl
theorem w_1975 : Cond.selects RX12 yX12_again yX12_again ∈ bT := bT_c8 185 (by decide +kernel) rfl
theorem w_1976 : Cond.code yX12_again cX12_again 1 (some .int) ∈ bT := bT_c8 186 (by decide +kernel) rfl
theorem w_1977 : Cond.methodLink RL 17 yX12_reach ∈ bT := bT_c8 187 (by decide +kernel) rfl
theorem w_1978 : Cond.instanceMethod yX12_reach ∈ bT := bT_c8 188 (by decide +kernel) rfl
theorem w_1979 : Cond.selects RX12 yX12_reach yX12_reach ∈ bT := bT_c8 189 (by decide +kernel) rfl
theorem w_1980 : Cond.code yX12_reach cX12_reach 5 (some .int) ∈ bT := bT_c8 190 (by decide +kernel) rfl
theorem w_1987 : Cond.methodLink RL 22 yX12_pond ∈ bT := bT_c8 197 (by decide +kernel) rfl
theorem w_1988 : Cond.instanceMethod yX12_pond ∈ bT := bT_c8 198 (by decide +kernel) rfl
theorem w_1989 : Cond.selects RX12 yX12_pond yX12_pond ∈ bT := bT_c8 199 (by decide +kernel) rfl
theorem w_1990 : Cond.code yX12_pond cX12_pond 3 (some .int) ∈ bT := bT_c8 200 (by decide +kernel) rfl
theorem w_1991 : Cond.methodLink RL 27 yX12_gate ∈ bT := bT_c8 201 (by decide +kernel) rfl
theorem w_1992 : Cond.instanceMethod yX12_gate ∈ bT := bT_c8 202 (by decide +kernel) rfl
theorem w_1993 : Cond.selects RX12 yX12_gate yX12_gate ∈ bT := bT_c8 203 (by decide +kernel) rfl
theorem w_1994 : Cond.code yX12_gate cX12_gate 4 (some .int) ∈ bT := bT_c8 204 (by decide +kernel) rfl
theorem w_2001 : Cond.methodLink RL 35 yX12_house ∈ bT := bT_c8 211 (by decide +kernel) rfl
theorem w_2002 : Cond.instanceMethod yX12_house ∈ bT := bT_c8 212 (by decide +kernel) rfl
theorem w_2003 : Cond.selects RX12 yX12_house yX12_house ∈ bT := bT_c8 213 (by decide +kernel) rfl
theorem w_2004 : Cond.code yX12_house cX12_house 5 (some .int) ∈ bT := bT_c8 214 (by decide +kernel) rfl
theorem w_2005 : Cond.methodLink RL 40 yX12_depth ∈ bT := bT_c8 215 (by decide +kernel) rfl
theorem w_2006 : Cond.instanceMethod yX12_depth ∈ bT := bT_c8 216 (by decide +kernel) rfl
theorem w_2007 : Cond.selects RX12 yX12_depth yX12_depth ∈ bT := bT_c8 217 (by decide +kernel) rfl
theorem w_2008 : Cond.code yX12_depth cX12_depth 5 (some .int) ∈ bT := bT_c8 218 (by decide +kernel) rfl
theorem w_2023 : Cond.methodLink RL 44 yX12_falls ∈ bT := bT_c8 233 (by decide +kernel) rfl
theorem w_2024 : Cond.instanceMethod yX12_falls ∈ bT := bT_c8 234 (by decide +kernel) rfl
theorem w_2025 : Cond.selects RX12 yX12_falls yX12_falls ∈ bT := bT_c8 235 (by decide +kernel) rfl
theorem w_2026 : Cond.code yX12_falls cX12_falls 4 (some .int) ∈ bT := bT_c8 236 (by decide +kernel) rfl
theorem w_2031 : Cond.methodLink RL 48 yX12_sooner ∈ bT := bT_c9 1 (by decide +kernel) rfl
theorem w_2032 : Cond.instanceMethod yX12_sooner ∈ bT := bT_c9 2 (by decide +kernel) rfl
theorem w_2033 : Cond.selects RX12 yX12_sooner yX12_sooner ∈ bT := bT_c9 3 (by decide +kernel) rfl
theorem w_2034 : Cond.code yX12_sooner cX12_sooner 7 (some .int) ∈ bT := bT_c9 4 (by decide +kernel) rfl
theorem w_2039 : Cond.methodLink RL 52 yX12_clock ∈ bT := bT_c9 9 (by decide +kernel) rfl
theorem w_2040 : Cond.instanceMethod yX12_clock ∈ bT := bT_c9 10 (by decide +kernel) rfl
theorem w_2041 : Cond.selects RX12 yX12_clock yX12_clock ∈ bT := bT_c9 11 (by decide +kernel) rfl
theorem w_2042 : Cond.code yX12_clock cX12_clock 5 (some .int) ∈ bT := bT_c9 12 (by decide +kernel) rfl
theorem w_2047 : Cond.methodLink RL 56 yX12_mark ∈ bT := bT_c9 17 (by decide +kernel) rfl
theorem w_2048 : Cond.instanceMethod yX12_mark ∈ bT := bT_c9 18 (by decide +kernel) rfl
theorem w_2049 : Cond.selects RX12 yX12_mark yX12_mark ∈ bT := bT_c9 19 (by decide +kernel) rfl
theorem w_2050 : Cond.code yX12_mark cX12_mark 4 (some .int) ∈ bT := bT_c9 20 (by decide +kernel) rfl
theorem w_2051 : Cond.methodLink RL 60 yX12_word ∈ bT := bT_c9 21 (by decide +kernel) rfl
theorem w_2052 : Cond.instanceMethod yX12_word ∈ bT := bT_c9 22 (by decide +kernel) rfl
theorem w_2053 : Cond.selects RX12 yX12_word yX12_word ∈ bT := bT_c9 23 (by decide +kernel) rfl
theorem w_2054 : Cond.code yX12_word cX12_word 5 (some .int) ∈ bT := bT_c9 24 (by decide +kernel) rfl
theorem w_2055 : Cond.methodLink RL 65 yX12_tear ∈ bT := bT_c9 25 (by decide +kernel) rfl
theorem w_2056 : Cond.instanceMethod yX12_tear ∈ bT := bT_c9 26 (by decide +kernel) rfl
theorem w_2057 : Cond.selects RX12 yX12_tear yX12_tear ∈ bT := bT_c9 27 (by decide +kernel) rfl
theorem w_2058 : Cond.code yX12_tear cX12_tear 4 (some .int) ∈ bT := bT_c9 28 (by decide +kernel) rfl
theorem w_2059 : Cond.methodLink RL 69 yX12_side ∈ bT := bT_c9 29 (by decide +kernel) rfl
theorem w_2060 : Cond.instanceMethod yX12_side ∈ bT := bT_c9 30 (by decide +kernel) rfl
theorem w_2061 : Cond.selects RX12 yX12_side yX12_side ∈ bT := bT_c9 31 (by decide +kernel) rfl
theorem w_2062 : Cond.code yX12_side cX12_side 4 (some .int) ∈ bT := bT_c9 32 (by decide +kernel) rfl
theorem w_2063 : Cond.methodLink RL 73 yX12_doubt ∈ bT := bT_c9 33 (by decide +kernel) rfl
theorem w_2064 : Cond.instanceMethod yX12_doubt ∈ bT := bT_c9 34 (by decide +kernel) rfl
theorem w_2065 : Cond.selects RX12 yX12_doubt yX12_doubt ∈ bT := bT_c9 35 (by decide +kernel) rfl
theorem w_2066 : Cond.code yX12_doubt cX12_doubt 5 (some .int) ∈ bT := bT_c9 36 (by decide +kernel) rfl
theorem w_2067 : Cond.methodLink RL 77 yX12_lets ∈ bT := bT_c9 37 (by decide +kernel) rfl
theorem w_2068 : Cond.instanceMethod yX12_lets ∈ bT := bT_c9 38 (by decide +kernel) rfl
theorem w_2069 : Cond.selects RX12 yX12_lets yX12_lets ∈ bT := bT_c9 39 (by decide +kernel) rfl
theorem w_2070 : Cond.code yX12_lets cX12_lets 4 (some .int) ∈ bT := bT_c9 40 (by decide +kernel) rfl
theorem w_2090 : Cond.methodLink RL 81 yX12_possible ∈ bT := bT_c9 60 (by decide +kernel) rfl
theorem w_2091 : Cond.instanceMethod yX12_possible ∈ bT := bT_c9 61 (by decide +kernel) rfl
theorem w_2092 : Cond.selects RX12 yX12_possible yX12_possible ∈ bT := bT_c9 62 (by decide +kernel) rfl
theorem w_2093 : Cond.code yX12_possible cX12_possible 4 (some .int) ∈ bT := bT_c9 63 (by decide +kernel) rfl
theorem w_2110 : Cond.methodLink RL 85 yX12_span ∈ bT := bT_c9 80 (by decide +kernel) rfl
theorem w_2111 : Cond.instanceMethod yX12_span ∈ bT := bT_c9 81 (by decide +kernel) rfl
theorem w_2112 : Cond.selects RX12 yX12_span yX12_span ∈ bT := bT_c9 82 (by decide +kernel) rfl
theorem w_2113 : Cond.code yX12_span cX12_span 5 (some .int) ∈ bT := bT_c9 83 (by decide +kernel) rfl
theorem w_2114 : Cond.methodLink RL 89 yX12_hangs ∈ bT := bT_c9 84 (by decide +kernel) rfl
theorem w_2115 : Cond.instanceMethod yX12_hangs ∈ bT := bT_c9 85 (by decide +kernel) rfl
theorem w_2116 : Cond.selects RX12 yX12_hangs yX12_hangs ∈ bT := bT_c9 86 (by decide +kernel) rfl
theorem w_2117 : Cond.code yX12_hangs cX12_hangs 2 (some .int) ∈ bT := bT_c9 87 (by decide +kernel) rfl
theorem w_2118 : Cond.methodLink RL 93 yX12_sure ∈ bT := bT_c9 88 (by decide +kernel) rfl
theorem w_2119 : Cond.instanceMethod yX12_sure ∈ bT := bT_c9 89 (by decide +kernel) rfl
theorem w_2120 : Cond.selects RX12 yX12_sure yX12_sure ∈ bT := bT_c9 90 (by decide +kernel) rfl
theorem w_2121 : Cond.code yX12_sure cX12_sure 2 (some .int) ∈ bT := bT_c9 91 (by decide +kernel) rfl
theorem w_2126 : Cond.methodLink RL 98 yX12_could ∈ bT := bT_c9 96 (by decide +kernel) rfl
theorem w_2127 : Cond.instanceMethod yX12_could ∈ bT := bT_c9 97 (by decide +kernel) rfl
theorem w_2128 : Cond.selects RX12 yX12_could yX12_could ∈ bT := bT_c9 98 (by decide +kernel) rfl
theorem w_2129 : Cond.code yX12_could cX12_could 8 (some .int) ∈ bT := bT_c9 99 (by decide +kernel) rfl
theorem w_2141 : Cond.methodLink RL 102 yX12_told ∈ bT := bT_c9 111 (by decide +kernel) rfl
theorem w_2142 : Cond.instanceMethod yX12_told ∈ bT := bT_c9 112 (by decide +kernel) rfl
theorem w_2143 : Cond.selects RX12 yX12_told yX12_told ∈ bT := bT_c9 113 (by decide +kernel) rfl
theorem w_2144 : Cond.code yX12_told cX12_told 8 (some .int) ∈ bT := bT_c9 114 (by decide +kernel) rfl
theorem w_2145 : Cond.methodLink RL 106 yX12_person ∈ bT := bT_c9 115 (by decide +kernel) rfl
theorem w_2146 : Cond.instanceMethod yX12_person ∈ bT := bT_c9 116 (by decide +kernel) rfl
theorem w_2147 : Cond.selects RX12 yX12_person yX12_person ∈ bT := bT_c9 117 (by decide +kernel) rfl
theorem w_2148 : Cond.code yX12_person cX12_person 5 (some .int) ∈ bT := bT_c9 118 (by decide +kernel) rfl
theorem w_2149 : Cond.methodLink RL 110 yX12_safe ∈ bT := bT_c9 119 (by decide +kernel) rfl
theorem w_2150 : Cond.instanceMethod yX12_safe ∈ bT := bT_c9 120 (by decide +kernel) rfl
theorem w_2151 : Cond.selects RX12 yX12_safe yX12_safe ∈ bT := bT_c9 121 (by decide +kernel) rfl
theorem w_2152 : Cond.code yX12_safe cX12_safe 4 (some .int) ∈ bT := bT_c9 122 (by decide +kernel) rfl
theorem w_2153 : Cond.methodLink RL 114 yX12_name ∈ bT := bT_c9 123 (by decide +kernel) rfl
theorem w_2154 : Cond.instanceMethod yX12_name ∈ bT := bT_c9 124 (by decide +kernel) rfl
theorem w_2155 : Cond.selects RX12 yX12_name yX12_name ∈ bT := bT_c9 125 (by decide +kernel) rfl
theorem w_2156 : Cond.code yX12_name cX12_name 3 (some .int) ∈ bT := bT_c9 126 (by decide +kernel) rfl
theorem w_2157 : Cond.methodLink RL 118 yX12_list ∈ bT := bT_c9 127 (by decide +kernel) rfl
theorem w_2158 : Cond.instanceMethod yX12_list ∈ bT := bT_c9 128 (by decide +kernel) rfl
theorem w_2159 : Cond.selects RX12 yX12_list yX12_list ∈ bT := bT_c9 129 (by decide +kernel) rfl
theorem w_2160 : Cond.code yX12_list cX12_list 3 (some .int) ∈ bT := bT_c9 130 (by decide +kernel) rfl
theorem w_2177 : Cond.methodLink RL 122 yX12_thing ∈ bT := bT_c9 147 (by decide +kernel) rfl
theorem w_2178 : Cond.instanceMethod yX12_thing ∈ bT := bT_c9 148 (by decide +kernel) rfl
theorem w_2179 : Cond.selects RX12 yX12_thing yX12_thing ∈ bT := bT_c9 149 (by decide +kernel) rfl
theorem w_2180 : Cond.code yX12_thing cX12_thing 5 (some .int) ∈ bT := bT_c9 150 (by decide +kernel) rfl
theorem w_2181 : Cond.methodLink RL 126 yX12_lies ∈ bT := bT_c9 151 (by decide +kernel) rfl
theorem w_2182 : Cond.instanceMethod yX12_lies ∈ bT := bT_c9 152 (by decide +kernel) rfl
theorem w_2183 : Cond.selects RX12 yX12_lies yX12_lies ∈ bT := bT_c9 153 (by decide +kernel) rfl
theorem w_2184 : Cond.code yX12_lies cX12_lies 4 (some .int) ∈ bT := bT_c9 154 (by decide +kernel) rfl
theorem w_2185 : Cond.methodLink RL 130 yX12_find ∈ bT := bT_c9 155 (by decide +kernel) rfl
theorem w_2186 : Cond.instanceMethod yX12_find ∈ bT := bT_c9 156 (by decide +kernel) rfl
theorem w_2187 : Cond.selects RX12 yX12_find yX12_find ∈ bT := bT_c9 157 (by decide +kernel) rfl
theorem w_2188 : Cond.code yX12_find cX12_find 3 (some .int) ∈ bT := bT_c9 158 (by decide +kernel) rfl
theorem w_2189 : Cond.methodLink RL 134 yX12_whose ∈ bT := bT_c9 159 (by decide +kernel) rfl
theorem w_2190 : Cond.instanceMethod yX12_whose ∈ bT := bT_c9 160 (by decide +kernel) rfl
theorem w_2191 : Cond.selects RX12 yX12_whose yX12_whose ∈ bT := bT_c9 161 (by decide +kernel) rfl
theorem w_2192 : Cond.code yX12_whose cX12_whose 2 (some .int) ∈ bT := bT_c9 162 (by decide +kernel) rfl
theorem w_2193 : Cond.methodLink RL 138 yX12_days ∈ bT := bT_c9 163 (by decide +kernel) rfl
theorem w_2194 : Cond.instanceMethod yX12_days ∈ bT := bT_c9 164 (by decide +kernel) rfl
theorem w_2195 : Cond.selects RX12 yX12_days yX12_days ∈ bT := bT_c9 165 (by decide +kernel) rfl
theorem w_2196 : Cond.code yX12_days cX12_days 2 (some .int) ∈ bT := bT_c9 166 (by decide +kernel) rfl
theorem w_2197 : Cond.methodLink RL 145 yX12_feed ∈ bT := bT_c9 167 (by decide +kernel) rfl
theorem w_2198 : Cond.instanceMethod yX12_feed ∈ bT := bT_c9 168 (by decide +kernel) rfl
theorem w_2199 : Cond.selects RX12 yX12_feed yX12_feed ∈ bT := bT_c9 169 (by decide +kernel) rfl
theorem w_2200 : Cond.code yX12_feed cX12_feed 5 (some .int) ∈ bT := bT_c9 170 (by decide +kernel) rfl
theorem w_2202 : Cond.methodLink RL 150 yX12_read ∈ bT := bT_c9 172 (by decide +kernel) rfl
theorem w_2203 : Cond.instanceMethod yX12_read ∈ bT := bT_c9 173 (by decide +kernel) rfl
theorem w_2204 : Cond.selects RX12 yX12_read yX12_read ∈ bT := bT_c9 174 (by decide +kernel) rfl
theorem w_2205 : Cond.code yX12_read cX12_read 1 (some .int) ∈ bT := bT_c9 175 (by decide +kernel) rfl
theorem w_2285 : Cond.methodLink RL 154 yX12_claim ∈ bT := bT_c10 15 (by decide +kernel) rfl
theorem w_2286 : Cond.instanceMethod yX12_claim ∈ bT := bT_c10 16 (by decide +kernel) rfl
theorem w_2287 : Cond.selects RX12 yX12_claim yX12_claim ∈ bT := bT_c10 17 (by decide +kernel) rfl
theorem w_2288 : Cond.code yX12_claim cX12_claim 4 (some .int) ∈ bT := bT_c10 18 (by decide +kernel) rfl
theorem w_2289 : Cond.methodLink RL 158 yX12_proof ∈ bT := bT_c10 19 (by decide +kernel) rfl
theorem w_2290 : Cond.instanceMethod yX12_proof ∈ bT := bT_c10 20 (by decide +kernel) rfl
theorem w_2291 : Cond.selects RX12 yX12_proof yX12_proof ∈ bT := bT_c10 21 (by decide +kernel) rfl
theorem w_2292 : Cond.code yX12_proof cX12_proof 3 (some .int) ∈ bT := bT_c10 22 (by decide +kernel) rfl
theorem w_2300 : Cond.methodLink RL 162 yX12_claimOf ∈ bT := bT_c10 30 (by decide +kernel) rfl
theorem w_2301 : Cond.instanceMethod yX12_claimOf ∈ bT := bT_c10 31 (by decide +kernel) rfl
theorem w_2302 : Cond.selects RX12 yX12_claimOf yX12_claimOf ∈ bT := bT_c10 32 (by decide +kernel) rfl
theorem w_2303 : Cond.code yX12_claimOf cX12_claimOf 4 (some .int) ∈ bT := bT_c10 33 (by decide +kernel) rfl
theorem w_2347 : Cond.methodLink RL 166 yX12_why ∈ bT := bT_c10 77 (by decide +kernel) rfl
theorem w_2348 : Cond.instanceMethod yX12_why ∈ bT := bT_c10 78 (by decide +kernel) rfl
theorem w_2349 : Cond.selects RX12 yX12_why yX12_why ∈ bT := bT_c10 79 (by decide +kernel) rfl
theorem w_2350 : Cond.code yX12_why cX12_why 5 (some .int) ∈ bT := bT_c10 80 (by decide +kernel) rfl
theorem w_2351 : Cond.methodLink RL 170 yX12_odd ∈ bT := bT_c10 81 (by decide +kernel) rfl
theorem w_2352 : Cond.instanceMethod yX12_odd ∈ bT := bT_c10 82 (by decide +kernel) rfl
theorem w_2353 : Cond.selects RX12 yX12_odd yX12_odd ∈ bT := bT_c10 83 (by decide +kernel) rfl
theorem w_2354 : Cond.code yX12_odd cX12_odd 6 (some .int) ∈ bT := bT_c10 84 (by decide +kernel) rfl
theorem w_2359 : Cond.methodLink RL 174 yX12_fund ∈ bT := bT_c10 89 (by decide +kernel) rfl
theorem w_2360 : Cond.instanceMethod yX12_fund ∈ bT := bT_c10 90 (by decide +kernel) rfl
theorem w_2361 : Cond.selects RX12 yX12_fund yX12_fund ∈ bT := bT_c10 91 (by decide +kernel) rfl
theorem w_2362 : Cond.code yX12_fund cX12_fund 2 (some .int) ∈ bT := bT_c10 92 (by decide +kernel) rfl
theorem w_2364 : Cond.methodLink RL 178 yX12_pay ∈ bT := bT_c10 94 (by decide +kernel) rfl
theorem w_2365 : Cond.instanceMethod yX12_pay ∈ bT := bT_c10 95 (by decide +kernel) rfl
theorem w_2366 : Cond.selects RX12 yX12_pay yX12_pay ∈ bT := bT_c10 96 (by decide +kernel) rfl
theorem w_2367 : Cond.code yX12_pay cX12_pay 5 (some .int) ∈ bT := bT_c10 97 (by decide +kernel) rfl
theorem w_2368 : Cond.methodLink RL 182 yX12_offer ∈ bT := bT_c10 98 (by decide +kernel) rfl
theorem w_2369 : Cond.instanceMethod yX12_offer ∈ bT := bT_c10 99 (by decide +kernel) rfl
theorem w_2370 : Cond.selects RX12 yX12_offer yX12_offer ∈ bT := bT_c10 100 (by decide +kernel) rfl
theorem w_2371 : Cond.code yX12_offer cX12_offer 3 (some .int) ∈ bT := bT_c10 101 (by decide +kernel) rfl
theorem w_2372 : Cond.methodLink RL 186 yX12_likest ∈ bT := bT_c10 102 (by decide +kernel) rfl
theorem w_2373 : Cond.instanceMethod yX12_likest ∈ bT := bT_c10 103 (by decide +kernel) rfl
theorem w_2374 : Cond.selects RX12 yX12_likest yX12_likest ∈ bT := bT_c10 104 (by decide +kernel) rfl
theorem w_2375 : Cond.code yX12_likest cX12_likest 7 (some .int) ∈ bT := bT_c10 105 (by decide +kernel) rfl
theorem w_2384 : Cond.methodLink RL 190 yX12_round ∈ bT := bT_c10 114 (by decide +kernel) rfl
theorem w_2385 : Cond.instanceMethod yX12_round ∈ bT := bT_c10 115 (by decide +kernel) rfl
theorem w_2386 : Cond.selects RX12 yX12_round yX12_round ∈ bT := bT_c10 116 (by decide +kernel) rfl
theorem w_2387 : Cond.code yX12_round cX12_round 7 (some .int) ∈ bT := bT_c10 117 (by decide +kernel) rfl
theorem w_2400 : Cond.methodLink RL 194 yX12_row ∈ bT := bT_c10 130 (by decide +kernel) rfl
theorem w_2408 : Cond.methodLink RL 198 yX12_alterRow ∈ bT := bT_c10 138 (by decide +kernel) rfl
theorem w_2409 : Cond.instanceMethod yX12_alterRow ∈ bT := bT_c10 139 (by decide +kernel) rfl
theorem w_2410 : Cond.selects RX12 yX12_alterRow yX12_alterRow ∈ bT := bT_c10 140 (by decide +kernel) rfl
theorem w_2411 : Cond.code yX12_alterRow cX12_alterRow 5 (some .int) ∈ bT := bT_c10 141 (by decide +kernel) rfl
theorem w_2413 : Cond.methodLink RL 202 yX12_dropRow ∈ bT := bT_c10 143 (by decide +kernel) rfl
theorem w_2414 : Cond.instanceMethod yX12_dropRow ∈ bT := bT_c10 144 (by decide +kernel) rfl
theorem w_2415 : Cond.selects RX12 yX12_dropRow yX12_dropRow ∈ bT := bT_c10 145 (by decide +kernel) rfl
theorem w_2416 : Cond.code yX12_dropRow cX12_dropRow 1 (some .int) ∈ bT := bT_c10 146 (by decide +kernel) rfl
theorem w_2417 : Cond.methodLink RL 206 yX12_judge ∈ bT := bT_c10 147 (by decide +kernel) rfl
theorem w_2418 : Cond.instanceMethod yX12_judge ∈ bT := bT_c10 148 (by decide +kernel) rfl
theorem w_2419 : Cond.selects RX12 yX12_judge yX12_judge ∈ bT := bT_c10 149 (by decide +kernel) rfl
theorem w_2420 : Cond.code yX12_judge cX12_judge 6 (some .int) ∈ bT := bT_c10 150 (by decide +kernel) rfl
theorem w_2421 : Cond.methodLink RL 210 yX12_years ∈ bT := bT_c10 151 (by decide +kernel) rfl
theorem w_2422 : Cond.instanceMethod yX12_years ∈ bT := bT_c10 152 (by decide +kernel) rfl
theorem w_2423 : Cond.selects RX12 yX12_years yX12_years ∈ bT := bT_c10 153 (by decide +kernel) rfl
theorem w_2424 : Cond.code yX12_years cX12_years 5 (some .int) ∈ bT := bT_c10 154 (by decide +kernel) rfl
theorem w_2431 : Cond.methodLink RL 214 yX12_rate ∈ bT := bT_c10 161 (by decide +kernel) rfl
theorem w_2432 : Cond.instanceMethod yX12_rate ∈ bT := bT_c10 162 (by decide +kernel) rfl
theorem w_2433 : Cond.selects RX12 yX12_rate yX12_rate ∈ bT := bT_c10 163 (by decide +kernel) rfl
theorem w_2434 : Cond.code yX12_rate cX12_rate 5 (some .int) ∈ bT := bT_c10 164 (by decide +kernel) rfl
theorem w_2435 : Cond.methodLink RL 31 yX12_table ∈ bT := bT_c10 165 (by decide +kernel) rfl
theorem w_2436 : Cond.instanceMethod yX12_table ∈ bT := bT_c10 166 (by decide +kernel) rfl
theorem w_2437 : Cond.selects RX12 yX12_table yX12_table ∈ bT := bT_c10 167 (by decide +kernel) rfl
theorem w_2438 : Cond.code yX12_table cX12_table 5 (some .int) ∈ bT := bT_c10 168 (by decide +kernel) rfl
theorem w_2442 : Cond.methodLink RL 218 yX12_sheet ∈ bT := bT_c10 172 (by decide +kernel) rfl
theorem w_2443 : Cond.instanceMethod yX12_sheet ∈ bT := bT_c10 173 (by decide +kernel) rfl
theorem w_2444 : Cond.selects RX12 yX12_sheet yX12_sheet ∈ bT := bT_c10 174 (by decide +kernel) rfl
theorem w_2445 : Cond.code yX12_sheet cX12_sheet 5 (some .int) ∈ bT := bT_c10 175 (by decide +kernel) rfl
theorem w_2446 : Cond.methodLink RL 222 yX12_put ∈ bT := bT_c10 176 (by decide +kernel) rfl
theorem w_2447 : Cond.instanceMethod yX12_put ∈ bT := bT_c10 177 (by decide +kernel) rfl
theorem w_2448 : Cond.selects RX12 yX12_put yX12_put ∈ bT := bT_c10 178 (by decide +kernel) rfl
theorem w_2449 : Cond.code yX12_put cX12_put 4 (some .int) ∈ bT := bT_c10 179 (by decide +kernel) rfl
theorem w_2453 : Cond.methodLink RL 226 yX12_item ∈ bT := bT_c10 183 (by decide +kernel) rfl
theorem w_2454 : Cond.instanceMethod yX12_item ∈ bT := bT_c10 184 (by decide +kernel) rfl
theorem w_2455 : Cond.selects RX12 yX12_item yX12_item ∈ bT := bT_c10 185 (by decide +kernel) rfl
theorem w_2456 : Cond.code yX12_item cX12_item 4 (some .int) ∈ bT := bT_c10 186 (by decide +kernel) rfl
theorem w_2457 : Cond.methodLink RL 230 yX12_shelf ∈ bT := bT_c10 187 (by decide +kernel) rfl
theorem w_2458 : Cond.instanceMethod yX12_shelf ∈ bT := bT_c10 188 (by decide +kernel) rfl
theorem w_2459 : Cond.selects RX12 yX12_shelf yX12_shelf ∈ bT := bT_c10 189 (by decide +kernel) rfl
theorem w_2460 : Cond.code yX12_shelf cX12_shelf 4 (some .int) ∈ bT := bT_c10 190 (by decide +kernel) rfl
theorem w_2461 : Cond.methodLink RL 234 yX12_taken ∈ bT := bT_c10 191 (by decide +kernel) rfl
theorem w_2462 : Cond.instanceMethod yX12_taken ∈ bT := bT_c10 192 (by decide +kernel) rfl
theorem w_2463 : Cond.selects RX12 yX12_taken yX12_taken ∈ bT := bT_c10 193 (by decide +kernel) rfl
theorem w_2464 : Cond.code yX12_taken cX12_taken 3 (some .int) ∈ bT := bT_c10 194 (by decide +kernel) rfl
theorem w_2472 : Cond.methodLink RL 238 yX12_deal ∈ bT := bT_c10 202 (by decide +kernel) rfl
theorem w_2473 : Cond.instanceMethod yX12_deal ∈ bT := bT_c10 203 (by decide +kernel) rfl
theorem w_2474 : Cond.selects RX12 yX12_deal yX12_deal ∈ bT := bT_c10 204 (by decide +kernel) rfl
theorem w_2475 : Cond.code yX12_deal cX12_deal 5 (some .int) ∈ bT := bT_c10 205 (by decide +kernel) rfl
theorem w_2520 : Cond.methodLink RL 242 yX12_trace ∈ bT := bT_c11 10 (by decide +kernel) rfl
theorem w_2521 : Cond.instanceMethod yX12_trace ∈ bT := bT_c11 11 (by decide +kernel) rfl
theorem w_2522 : Cond.selects RX12 yX12_trace yX12_trace ∈ bT := bT_c11 12 (by decide +kernel) rfl
theorem w_2523 : Cond.code yX12_trace cX12_trace 2 (some .int) ∈ bT := bT_c11 13 (by decide +kernel) rfl
theorem w_2524 : Cond.methodLink RL 246 yX12_many ∈ bT := bT_c11 14 (by decide +kernel) rfl
theorem w_2525 : Cond.instanceMethod yX12_many ∈ bT := bT_c11 15 (by decide +kernel) rfl
theorem w_2526 : Cond.selects RX12 yX12_many yX12_many ∈ bT := bT_c11 16 (by decide +kernel) rfl
theorem w_2527 : Cond.code yX12_many cX12_many 4 (some .int) ∈ bT := bT_c11 17 (by decide +kernel) rfl
theorem w_2528 : Cond.constantLong RL 139 (Int64.ofInt 4294967295) ∈ bT := bT_c11 18 (by decide +kernel) rfl
theorem rtL_0 : brt 0 1 := by unfold brt; rw [inf_0]; exact Or.inl rfl
theorem rtL_1 : brt 1 1 := by unfold brt; rw [inf_1]; exact Or.inl rfl
theorem rtL_2 : brt 2 1 := by unfold brt; rw [inf_2]; exact Or.inl rfl
theorem rtL_3 : brt 3 1 := by unfold brt; rw [inf_3]; exact Or.inl rfl
theorem rtL_4 : brt 4 1 := by unfold brt; rw [inf_4]; exact Or.inl rfl
theorem rtL_5 : brt 5 1 := by unfold brt; rw [inf_5]; exact Or.inl rfl
theorem rtL_6 : brt 6 1 := by unfold brt; rw [inf_6]; exact Or.inl rfl
theorem rtL_7 : brt 7 1 := by unfold brt; rw [inf_7]; exact Or.inl rfl
theorem rtL_8 : brt 8 1 := by unfold brt; rw [inf_8]; exact Or.inl rfl
theorem rtL_9 : brt 9 1 := by unfold brt; rw [inf_9]; exact Or.inl rfl
theorem rtL_10 : brt 10 1 := by unfold brt; rw [inf_10]; exact Or.inl rfl
theorem rtL_11 : brt 11 1 := by unfold brt; rw [inf_11]; exact Or.inl rfl
theorem rtL_12 : brt 12 1 := by unfold brt; rw [inf_12]; exact Or.inl rfl
theorem rtL_13 : brt 13 1 := by unfold brt; rw [inf_13]; exact Or.inl rfl
theorem rtL_14 : brt 14 1 := by unfold brt; rw [inf_14]; exact Or.inl rfl
theorem rtL_15 : brt 15 1 := by unfold brt; rw [inf_15]; exact Or.inl rfl
theorem rtL_16 : brt 16 1 := by unfold brt; rw [inf_16]; exact Or.inl rfl
theorem rtL_17 : brt 17 1 := by unfold brt; rw [inf_17]; exact Or.inl rfl
theorem rtL_18 : brt 18 1 := by unfold brt; rw [inf_18]; exact Or.inl rfl
theorem rtL_19 : brt 19 1 := by unfold brt; rw [inf_19]; exact Or.inl rfl
theorem rtL_20 : brt 20 1 := by unfold brt; rw [inf_20]; exact Or.inl rfl
theorem rtL_21 : brt 21 1 := by unfold brt; rw [inf_21]; exact Or.inl rfl
theorem rtL_22 : brt 22 1 := by unfold brt; rw [inf_22]; exact Or.inl rfl
theorem rtL_23 : brt 23 1 := by unfold brt; rw [inf_23]; exact Or.inl rfl
theorem rtL_24 : brt 24 1 := by unfold brt; rw [inf_24]; exact Or.inl rfl
theorem rtL_25 : brt 25 1 := by unfold brt; rw [inf_25]; exact Or.inl rfl
theorem rtL_26 : brt 26 1 := by unfold brt; rw [inf_26]; exact Or.inl rfl
theorem rtL_27 : brt 27 1 := by unfold brt; rw [inf_27]; exact Or.inl rfl
theorem rtL_28 : brt 28 1 := by unfold brt; rw [inf_28]; exact Or.inl rfl
theorem rtL_29 : brt 29 1 := by unfold brt; rw [inf_29]; exact Or.inl rfl
theorem rtL_30 : brt 30 1 := by unfold brt; rw [inf_30]; exact Or.inl rfl
theorem rtL_31 : brt 31 1 := by unfold brt; rw [inf_31]; exact Or.inl rfl
theorem rtL_32 : brt 32 1 := by unfold brt; rw [inf_32]; exact Or.inl rfl
theorem rtL_33 : brt 33 1 := by unfold brt; rw [inf_33]; exact Or.inl rfl
theorem rtL_34 : brt 34 1 := by unfold brt; rw [inf_34]; exact Or.inl rfl
theorem rtL_35 : brt 35 1 := by unfold brt; rw [inf_35]; exact Or.inl rfl
theorem rtL_36 : brt 36 1 := by unfold brt; rw [inf_36]; exact Or.inl rfl
theorem rtL_37 : brt 37 1 := by unfold brt; rw [inf_37]; exact Or.inl rfl
theorem rtL_38 : brt 38 1 := by unfold brt; rw [inf_38]; exact Or.inl rfl
theorem rtL_39 : brt 39 1 := by unfold brt; rw [inf_39]; exact Or.inl rfl
theorem rtL_40 : brt 40 1 := by unfold brt; rw [inf_40]; exact Or.inl rfl
theorem rtL_41 : brt 41 1 := by unfold brt; rw [inf_41]; exact Or.inl rfl
theorem rtL_42 : brt 42 1 := by unfold brt; rw [inf_42]; exact Or.inl rfl
theorem rtL_43 : brt 43 1 := by unfold brt; rw [inf_43]; exact Or.inl rfl
theorem rtL_44 : brt 44 1 := by unfold brt; rw [inf_44]; exact Or.inl rfl
theorem rtL_45 : brt 45 1 := by unfold brt; rw [inf_45]; exact Or.inl rfl
theorem rtL_46 : brt 46 1 := by unfold brt; rw [inf_46]; exact Or.inl rfl
theorem rtL_47 : brt 47 1 := by unfold brt; rw [inf_47]; exact Or.inl rfl
theorem rtL_48 : brt 48 1 := by unfold brt; rw [inf_48]; exact Or.inl rfl
theorem rtL_49 : brt 49 1 := by unfold brt; rw [inf_49]; exact Or.inl rfl
theorem rtL_50 : brt 50 1 := by unfold brt; rw [inf_50]; exact Or.inl rfl
theorem rtL_51 : brt 51 1 := by unfold brt; rw [inf_51]; exact Or.inl rfl
theorem rtL_52 : brt 52 1 := by unfold brt; rw [inf_52]; exact Or.inl rfl
theorem rtL_53 : brt 53 1 := by unfold brt; rw [inf_53]; exact Or.inl rfl
theorem rtL_54 : brt 54 1 := by unfold brt; rw [inf_54]; exact Or.inl rfl
theorem rtL_55 : brt 55 1 := by unfold brt; rw [inf_55]; exact Or.inl rfl
theorem rtL_56 : brt 56 1 := by unfold brt; rw [inf_56]; exact Or.inl rfl
theorem rtL_57 : brt 57 1 := by unfold brt; rw [inf_57]; exact Or.inl rfl
theorem rtL_58 : brt 58 1 := by unfold brt; rw [inf_58]; exact Or.inl rfl
theorem rtL_59 : brt 59 1 := by unfold brt; rw [inf_59]; exact Or.inl rfl
theorem rtL_60 : brt 60 1 := by unfold brt; rw [inf_60]; exact Or.inl rfl
theorem rtL_61 : brt 61 1 := by unfold brt; rw [inf_61]; exact Or.inl rfl
theorem rtL_62 : brt 62 1 := by unfold brt; rw [inf_62]; exact Or.inl rfl
theorem rtL_63 : brt 63 1 := by unfold brt; rw [inf_63]; exact Or.inl rfl
theorem rtL_64 : brt 64 1 := by unfold brt; rw [inf_64]; exact Or.inl rfl
theorem rtL_65 : brt 65 1 := by unfold brt; rw [inf_65]; exact Or.inl rfl
theorem rtL_66 : brt 66 1 := by unfold brt; rw [inf_66]; exact Or.inl rfl
theorem rtL_67 : brt 67 1 := by unfold brt; rw [inf_67]; exact Or.inl rfl
theorem rtL_68 : brt 68 1 := by unfold brt; rw [inf_68]; exact Or.inl rfl
theorem rtL_69 : brt 69 1 := by unfold brt; rw [inf_69]; exact Or.inl rfl
theorem rtL_70 : brt 70 1 := by unfold brt; rw [inf_70]; exact Or.inl rfl
theorem rtL_71 : brt 71 1 := by unfold brt; rw [inf_71]; exact Or.inl rfl
theorem rtL_72 : brt 72 1 := by unfold brt; rw [inf_72]; exact Or.inl rfl
theorem rtL_73 : brt 73 1 := by unfold brt; rw [inf_73]; exact Or.inl rfl
theorem rtL_74 : brt 74 1 := by unfold brt; rw [inf_74]; exact Or.inl rfl
theorem rtL_75 : brt 75 1 := by unfold brt; rw [inf_75]; exact Or.inl rfl
theorem rtL_76 : brt 76 1 := by unfold brt; rw [inf_76]; exact Or.inl rfl
theorem rtL_77 : brt 77 1 := by unfold brt; rw [inf_77]; exact Or.inl rfl
theorem rtL_78 : brt 78 1 := by unfold brt; rw [inf_78]; exact Or.inl rfl
theorem rtL_79 : brt 79 1 := by unfold brt; rw [inf_79]; exact Or.inl rfl
theorem rtL_80 : brt 80 1 := by unfold brt; rw [inf_80]; exact Or.inl rfl
theorem rtL_81 : brt 81 1 := by unfold brt; rw [inf_81]; exact Or.inl rfl
theorem rtL_82 : brt 82 1 := by unfold brt; rw [inf_82]; exact Or.inl rfl
theorem rtL_83 : brt 83 1 := by unfold brt; rw [inf_83]; exact Or.inl rfl
theorem rtL_84 : brt 84 1 := by unfold brt; rw [inf_84]; exact Or.inl rfl
theorem rtL_85 : brt 85 1 := by unfold brt; rw [inf_85]; exact Or.inl rfl
theorem rtL_86 : brt 86 1 := by unfold brt; rw [inf_86]; exact Or.inl rfl
theorem rtL_87 : brt 87 1 := by unfold brt; rw [inf_87]; exact Or.inl rfl
theorem rtL_88 : brt 88 1 := by unfold brt; rw [inf_88]; exact Or.inl rfl
theorem rtL_89 : brt 89 1 := by unfold brt; rw [inf_89]; exact Or.inl rfl
theorem rtL_90 : brt 90 1 := by unfold brt; rw [inf_90]; exact Or.inl rfl
theorem rtL_91 : brt 91 1 := by unfold brt; rw [inf_91]; exact Or.inl rfl
theorem rtL_92 : brt 92 1 := by unfold brt; rw [inf_92]; exact Or.inl rfl
theorem rtL_93 : brt 93 1 := by unfold brt; rw [inf_93]; exact Or.inl rfl
theorem rtL_94 : brt 94 1 := by unfold brt; rw [inf_94]; exact Or.inl rfl
theorem rtL_95 : brt 95 1 := by unfold brt; rw [inf_95]; exact Or.inl rfl
theorem rtL_96 : brt 96 1 := by unfold brt; rw [inf_96]; exact Or.inl rfl
theorem rtL_97 : brt 97 1 := by unfold brt; rw [inf_97]; exact Or.inl rfl
theorem rtL_98 : brt 98 1 := by unfold brt; rw [inf_98]; exact Or.inl rfl
theorem rtL_99 : brt 99 1 := by unfold brt; rw [inf_99]; exact Or.inl rfl
theorem rtL_100 : brt 100 1 := by unfold brt; rw [inf_100]; exact Or.inl rfl
theorem rtL_101 : brt 101 1 := by unfold brt; rw [inf_101]; exact Or.inl rfl
theorem rtL_102 : brt 102 1 := by unfold brt; rw [inf_102]; exact Or.inl rfl
theorem rtL_103 : brt 103 1 := by unfold brt; rw [inf_103]; exact Or.inl rfl
theorem rtL_104 : brt 104 1 := by unfold brt; rw [inf_104]; exact Or.inl rfl
theorem rtL_105 : brt 105 1 := by unfold brt; rw [inf_105]; exact Or.inl rfl
theorem rtL_106 : brt 106 1 := by unfold brt; rw [inf_106]; exact Or.inl rfl
theorem rtL_107 : brt 107 1 := by unfold brt; rw [inf_107]; exact Or.inl rfl
theorem rtL_108 : brt 108 1 := by unfold brt; rw [inf_108]; exact Or.inl rfl
theorem rtL_109 : brt 109 1 := by unfold brt; rw [inf_109]; exact Or.inl rfl
theorem rtL_110 : brt 110 1 := by unfold brt; rw [inf_110]; exact Or.inl rfl
theorem rtL_111 : brt 111 1 := by unfold brt; rw [inf_111]; exact Or.inl rfl
theorem rtL_112 : brt 112 1 := by unfold brt; rw [inf_112]; exact Or.inl rfl
theorem rtL_113 : brt 113 1 := by unfold brt; rw [inf_113]; exact Or.inl rfl
theorem rtL_114 : brt 114 1 := by unfold brt; rw [inf_114]; exact Or.inl rfl
theorem rtL_115 : brt 115 1 := by unfold brt; rw [inf_115]; exact Or.inl rfl
theorem cvL_13_0 : bCV RL 13 0 11 3 := bCV_of (y := yX11_reach) ci11 inf_0 w_830 w_831 w_832 w_111 w_833 ⟨rfl, by decide, by decide, by decide +kernel⟩
theorem cvL_17_58 : bCV RL 17 58 12 3 := bCV_of (y := yX12_reach) ci12 inf_58 w_1977 w_1978 w_1979 w_124 w_1980 ⟨rfl, by decide, by decide, by decide +kernel⟩
theorem cvL_18_1 : bCV RL 18 1 11 1 := bCV_of (y := yX11_pond) ci11 inf_1 w_848 w_849 w_850 w_111 w_851 ⟨rfl, by decide, by decide, by decide +kernel⟩
theorem cvL_22_59 : bCV RL 22 59 12 1 := bCV_of (y := yX12_pond) ci12 inf_59 w_1987 w_1988 w_1989 w_124 w_1990 ⟨rfl, by decide, by decide, by decide +kernel⟩
theorem cvL_23_2 : bCV RL 23 2 11 2 := bCV_of (y := yX11_gate) ci11 inf_2 w_852 w_853 w_854 w_111 w_855 ⟨rfl, by decide, by decide, by decide +kernel⟩
theorem cvL_27_60 : bCV RL 27 60 12 2 := bCV_of (y := yX12_gate) ci12 inf_60 w_1991 w_1992 w_1993 w_124 w_1994 ⟨rfl, by decide, by decide, by decide +kernel⟩
theorem cvL_28_3 : bCV RL 28 3 11 2 := bCV_of (y := yX11_table) ci11 inf_3 w_862 w_863 w_864 w_111 w_865 ⟨rfl, by decide, by decide, by decide +kernel⟩
theorem cvL_31_61 : bCV RL 31 61 12 2 := bCV_of (y := yX12_table) ci12 inf_61 w_2435 w_2436 w_2437 w_124 w_2438 ⟨rfl, by decide, by decide, by decide +kernel⟩
theorem cvL_32_4 : bCV RL 32 4 11 3 := bCV_of (y := yX11_house) ci11 inf_4 w_884 w_885 w_886 w_111 w_887 ⟨rfl, by decide, by decide, by decide +kernel⟩
theorem cvL_35_62 : bCV RL 35 62 12 3 := bCV_of (y := yX12_house) ci12 inf_62 w_2001 w_2002 w_2003 w_124 w_2004 ⟨rfl, by decide, by decide, by decide +kernel⟩
theorem cvL_36_5 : bCV RL 36 5 11 4 := bCV_of (y := yX11_depth) ci11 inf_5 w_888 w_889 w_890 w_111 w_891 ⟨rfl, by decide, by decide, by decide +kernel⟩
theorem cvL_40_63 : bCV RL 40 63 12 4 := bCV_of (y := yX12_depth) ci12 inf_63 w_2005 w_2006 w_2007 w_124 w_2008 ⟨rfl, by decide, by decide, by decide +kernel⟩
theorem cvL_41_6 : bCV RL 41 6 11 3 := bCV_of (y := yX11_falls) ci11 inf_6 w_952 w_953 w_954 w_111 w_955 ⟨rfl, by decide, by decide, by decide +kernel⟩
theorem cvL_44_64 : bCV RL 44 64 12 3 := bCV_of (y := yX12_falls) ci12 inf_64 w_2023 w_2024 w_2025 w_124 w_2026 ⟨rfl, by decide, by decide, by decide +kernel⟩
theorem cvL_45_7 : bCV RL 45 7 11 4 := bCV_of (y := yX11_sooner) ci11 inf_7 w_960 w_961 w_962 w_111 w_963 ⟨rfl, by decide, by decide, by decide +kernel⟩
theorem cvL_48_65 : bCV RL 48 65 12 4 := bCV_of (y := yX12_sooner) ci12 inf_65 w_2031 w_2032 w_2033 w_124 w_2034 ⟨rfl, by decide, by decide, by decide +kernel⟩
theorem cvL_49_8 : bCV RL 49 8 11 4 := bCV_of (y := yX11_clock) ci11 inf_8 w_974 w_975 w_976 w_111 w_977 ⟨rfl, by decide, by decide, by decide +kernel⟩
theorem cvL_52_66 : bCV RL 52 66 12 4 := bCV_of (y := yX12_clock) ci12 inf_66 w_2039 w_2040 w_2041 w_124 w_2042 ⟨rfl, by decide, by decide, by decide +kernel⟩
theorem cvL_53_9 : bCV RL 53 9 11 3 := bCV_of (y := yX11_mark) ci11 inf_9 w_982 w_983 w_984 w_111 w_985 ⟨rfl, by decide, by decide, by decide +kernel⟩
theorem cvL_56_67 : bCV RL 56 67 12 3 := bCV_of (y := yX12_mark) ci12 inf_67 w_2047 w_2048 w_2049 w_124 w_2050 ⟨rfl, by decide, by decide, by decide +kernel⟩
theorem cvL_57_10 : bCV RL 57 10 11 4 := bCV_of (y := yX11_word) ci11 inf_10 w_986 w_987 w_988 w_111 w_989 ⟨rfl, by decide, by decide, by decide +kernel⟩
theorem cvL_60_68 : bCV RL 60 68 12 4 := bCV_of (y := yX12_word) ci12 inf_68 w_2051 w_2052 w_2053 w_124 w_2054 ⟨rfl, by decide, by decide, by decide +kernel⟩
theorem cvL_61_11 : bCV RL 61 11 11 2 := bCV_of (y := yX11_tear) ci11 inf_11 w_994 w_995 w_996 w_111 w_997 ⟨rfl, by decide, by decide, by decide +kernel⟩
theorem cvL_65_69 : bCV RL 65 69 12 2 := bCV_of (y := yX12_tear) ci12 inf_69 w_2055 w_2056 w_2057 w_124 w_2058 ⟨rfl, by decide, by decide, by decide +kernel⟩
theorem cvL_66_12 : bCV RL 66 12 11 2 := bCV_of (y := yX11_side) ci11 inf_12 w_1002 w_1003 w_1004 w_111 w_1005 ⟨rfl, by decide, by decide, by decide +kernel⟩
theorem cvL_69_70 : bCV RL 69 70 12 2 := bCV_of (y := yX12_side) ci12 inf_70 w_2059 w_2060 w_2061 w_124 w_2062 ⟨rfl, by decide, by decide, by decide +kernel⟩
theorem cvL_70_13 : bCV RL 70 13 11 2 := bCV_of (y := yX11_doubt) ci11 inf_13 w_1006 w_1007 w_1008 w_111 w_1009 ⟨rfl, by decide, by decide, by decide +kernel⟩
theorem cvL_73_71 : bCV RL 73 71 12 2 := bCV_of (y := yX12_doubt) ci12 inf_71 w_2063 w_2064 w_2065 w_124 w_2066 ⟨rfl, by decide, by decide, by decide +kernel⟩
theorem cvL_74_14 : bCV RL 74 14 11 3 := bCV_of (y := yX11_lets) ci11 inf_14 w_1014 w_1015 w_1016 w_111 w_1017 ⟨rfl, by decide, by decide, by decide +kernel⟩
theorem cvL_77_72 : bCV RL 77 72 12 3 := bCV_of (y := yX12_lets) ci12 inf_72 w_2067 w_2068 w_2069 w_124 w_2070 ⟨rfl, by decide, by decide, by decide +kernel⟩
theorem cvL_78_15 : bCV RL 78 15 11 1 := bCV_of (y := yX11_possible) ci11 inf_15 w_1039 w_1040 w_1041 w_111 w_1042 ⟨rfl, by decide, by decide, by decide +kernel⟩
theorem cvL_81_73 : bCV RL 81 73 12 1 := bCV_of (y := yX12_possible) ci12 inf_73 w_2090 w_2091 w_2092 w_124 w_2093 ⟨rfl, by decide, by decide, by decide +kernel⟩
theorem cvL_82_16 : bCV RL 82 16 11 2 := bCV_of (y := yX11_span) ci11 inf_16 w_1060 w_1061 w_1062 w_111 w_1063 ⟨rfl, by decide, by decide, by decide +kernel⟩
theorem cvL_85_74 : bCV RL 85 74 12 2 := bCV_of (y := yX12_span) ci12 inf_74 w_2110 w_2111 w_2112 w_124 w_2113 ⟨rfl, by decide, by decide, by decide +kernel⟩
theorem cvL_86_17 : bCV RL 86 17 11 1 := bCV_of (y := yX11_hangs) ci11 inf_17 w_1072 w_1073 w_1074 w_111 w_1075 ⟨rfl, by decide, by decide, by decide +kernel⟩
theorem cvL_89_75 : bCV RL 89 75 12 1 := bCV_of (y := yX12_hangs) ci12 inf_75 w_2114 w_2115 w_2116 w_124 w_2117 ⟨rfl, by decide, by decide, by decide +kernel⟩
theorem cvL_90_18 : bCV RL 90 18 11 1 := bCV_of (y := yX11_sure) ci11 inf_18 w_1081 w_1082 w_1083 w_111 w_1084 ⟨rfl, by decide, by decide, by decide +kernel⟩
theorem cvL_93_76 : bCV RL 93 76 12 1 := bCV_of (y := yX12_sure) ci12 inf_76 w_2118 w_2119 w_2120 w_124 w_2121 ⟨rfl, by decide, by decide, by decide +kernel⟩
theorem cvL_94_19 : bCV RL 94 19 11 6 := bCV_of (y := yX11_could) ci11 inf_19 w_1102 w_1103 w_1104 w_111 w_1105 ⟨rfl, by decide, by decide, by decide +kernel⟩
theorem cvL_98_77 : bCV RL 98 77 12 6 := bCV_of (y := yX12_could) ci12 inf_77 w_2126 w_2127 w_2128 w_124 w_2129 ⟨rfl, by decide, by decide, by decide +kernel⟩
theorem cvL_99_20 : bCV RL 99 20 11 4 := bCV_of (y := yX11_told) ci11 inf_20 w_1113 w_1114 w_1115 w_111 w_1116 ⟨rfl, by decide, by decide, by decide +kernel⟩
theorem cvL_102_78 : bCV RL 102 78 12 4 := bCV_of (y := yX12_told) ci12 inf_78 w_2141 w_2142 w_2143 w_124 w_2144 ⟨rfl, by decide, by decide, by decide +kernel⟩
theorem cvL_103_21 : bCV RL 103 21 11 3 := bCV_of (y := yX11_person) ci11 inf_21 w_1123 w_1124 w_1125 w_111 w_1126 ⟨rfl, by decide, by decide, by decide +kernel⟩
theorem cvL_106_79 : bCV RL 106 79 12 3 := bCV_of (y := yX12_person) ci12 inf_79 w_2145 w_2146 w_2147 w_124 w_2148 ⟨rfl, by decide, by decide, by decide +kernel⟩
theorem cvL_107_22 : bCV RL 107 22 11 2 := bCV_of (y := yX11_safe) ci11 inf_22 w_1127 w_1128 w_1129 w_111 w_1130 ⟨rfl, by decide, by decide, by decide +kernel⟩
theorem cvL_110_80 : bCV RL 110 80 12 2 := bCV_of (y := yX12_safe) ci12 inf_80 w_2149 w_2150 w_2151 w_124 w_2152 ⟨rfl, by decide, by decide, by decide +kernel⟩
theorem cvL_111_23 : bCV RL 111 23 11 2 := bCV_of (y := yX11_name) ci11 inf_23 w_1135 w_1136 w_1137 w_111 w_1138 ⟨rfl, by decide, by decide, by decide +kernel⟩
theorem cvL_114_81 : bCV RL 114 81 12 2 := bCV_of (y := yX12_name) ci12 inf_81 w_2153 w_2154 w_2155 w_124 w_2156 ⟨rfl, by decide, by decide, by decide +kernel⟩
theorem cvL_115_24 : bCV RL 115 24 11 1 := bCV_of (y := yX11_list) ci11 inf_24 w_1139 w_1140 w_1141 w_111 w_1142 ⟨rfl, by decide, by decide, by decide +kernel⟩
theorem cvL_118_82 : bCV RL 118 82 12 1 := bCV_of (y := yX12_list) ci12 inf_82 w_2157 w_2158 w_2159 w_124 w_2160 ⟨rfl, by decide, by decide, by decide +kernel⟩
theorem cvL_119_25 : bCV RL 119 25 11 3 := bCV_of (y := yX11_thing) ci11 inf_25 w_1159 w_1160 w_1161 w_111 w_1162 ⟨rfl, by decide, by decide, by decide +kernel⟩
theorem cvL_122_83 : bCV RL 122 83 12 3 := bCV_of (y := yX12_thing) ci12 inf_83 w_2177 w_2178 w_2179 w_124 w_2180 ⟨rfl, by decide, by decide, by decide +kernel⟩
theorem cvL_123_26 : bCV RL 123 26 11 3 := bCV_of (y := yX11_lies) ci11 inf_26 w_1163 w_1164 w_1165 w_111 w_1166 ⟨rfl, by decide, by decide, by decide +kernel⟩
theorem cvL_126_84 : bCV RL 126 84 12 3 := bCV_of (y := yX12_lies) ci12 inf_84 w_2181 w_2182 w_2183 w_124 w_2184 ⟨rfl, by decide, by decide, by decide +kernel⟩
theorem cvL_127_27 : bCV RL 127 27 11 2 := bCV_of (y := yX11_find) ci11 inf_27 w_1175 w_1176 w_1177 w_111 w_1178 ⟨rfl, by decide, by decide, by decide +kernel⟩
theorem cvL_130_85 : bCV RL 130 85 12 2 := bCV_of (y := yX12_find) ci12 inf_85 w_2185 w_2186 w_2187 w_124 w_2188 ⟨rfl, by decide, by decide, by decide +kernel⟩
theorem cvL_131_28 : bCV RL 131 28 11 1 := bCV_of (y := yX11_whose) ci11 inf_28 w_1179 w_1180 w_1181 w_111 w_1182 ⟨rfl, by decide, by decide, by decide +kernel⟩
theorem cvL_134_86 : bCV RL 134 86 12 1 := bCV_of (y := yX12_whose) ci12 inf_86 w_2189 w_2190 w_2191 w_124 w_2192 ⟨rfl, by decide, by decide, by decide +kernel⟩
theorem cvL_135_29 : bCV RL 135 29 11 1 := bCV_of (y := yX11_days) ci11 inf_29 w_1187 w_1188 w_1189 w_111 w_1190 ⟨rfl, by decide, by decide, by decide +kernel⟩
theorem cvL_138_87 : bCV RL 138 87 12 1 := bCV_of (y := yX12_days) ci12 inf_87 w_2193 w_2194 w_2195 w_124 w_2196 ⟨rfl, by decide, by decide, by decide +kernel⟩
theorem cvL_141_30 : bCV RL 141 30 11 2 := bCV_of (y := yX11_feed) ci11 inf_30 w_1191 w_1192 w_1193 w_111 w_1194 ⟨rfl, by decide, by decide, by decide +kernel⟩
theorem cvL_145_88 : bCV RL 145 88 12 2 := bCV_of (y := yX12_feed) ci12 inf_88 w_2197 w_2198 w_2199 w_124 w_2200 ⟨rfl, by decide, by decide, by decide +kernel⟩
theorem cvL_146_31 : bCV RL 146 31 11 0 := bCV_of (y := yX11_read) ci11 inf_31 w_1199 w_1200 w_1201 w_111 w_1202 ⟨rfl, by decide, by decide, by decide +kernel⟩
theorem cvL_150_89 : bCV RL 150 89 12 0 := bCV_of (y := yX12_read) ci12 inf_89 w_2202 w_2203 w_2204 w_124 w_2205 ⟨rfl, by decide, by decide, by decide +kernel⟩
theorem cvL_151_32 : bCV RL 151 32 11 2 := bCV_of (y := yX11_claim) ci11 inf_32 w_1302 w_1303 w_1304 w_111 w_1305 ⟨rfl, by decide, by decide, by decide +kernel⟩
theorem cvL_154_90 : bCV RL 154 90 12 2 := bCV_of (y := yX12_claim) ci12 inf_90 w_2285 w_2286 w_2287 w_124 w_2288 ⟨rfl, by decide, by decide, by decide +kernel⟩
theorem cvL_155_33 : bCV RL 155 33 11 2 := bCV_of (y := yX11_proof) ci11 inf_33 w_1314 w_1315 w_1316 w_111 w_1317 ⟨rfl, by decide, by decide, by decide +kernel⟩
theorem cvL_158_91 : bCV RL 158 91 12 2 := bCV_of (y := yX12_proof) ci12 inf_91 w_2289 w_2290 w_2291 w_124 w_2292 ⟨rfl, by decide, by decide, by decide +kernel⟩
theorem cvL_159_34 : bCV RL 159 34 11 3 := bCV_of (y := yX11_claimOf) ci11 inf_34 w_1331 w_1332 w_1333 w_111 w_1334 ⟨rfl, by decide, by decide, by decide +kernel⟩
theorem cvL_162_92 : bCV RL 162 92 12 3 := bCV_of (y := yX12_claimOf) ci12 inf_92 w_2300 w_2301 w_2302 w_124 w_2303 ⟨rfl, by decide, by decide, by decide +kernel⟩
theorem cvL_163_35 : bCV RL 163 35 11 3 := bCV_of (y := yX11_why) ci11 inf_35 w_1394 w_1395 w_1396 w_111 w_1397 ⟨rfl, by decide, by decide, by decide +kernel⟩
theorem cvL_166_93 : bCV RL 166 93 12 3 := bCV_of (y := yX12_why) ci12 inf_93 w_2347 w_2348 w_2349 w_124 w_2350 ⟨rfl, by decide, by decide, by decide +kernel⟩
theorem cvL_167_36 : bCV RL 167 36 11 1 := bCV_of (y := yX11_odd) ci11 inf_36 w_1399 w_1400 w_1401 w_111 w_1402 ⟨rfl, by decide, by decide, by decide +kernel⟩
theorem cvL_170_94 : bCV RL 170 94 12 1 := bCV_of (y := yX12_odd) ci12 inf_94 w_2351 w_2352 w_2353 w_124 w_2354 ⟨rfl, by decide, by decide, by decide +kernel⟩
theorem cvL_171_37 : bCV RL 171 37 11 1 := bCV_of (y := yX11_fund) ci11 inf_37 w_1415 w_1416 w_1417 w_111 w_1418 ⟨rfl, by decide, by decide, by decide +kernel⟩
theorem cvL_174_95 : bCV RL 174 95 12 1 := bCV_of (y := yX12_fund) ci12 inf_95 w_2359 w_2360 w_2361 w_124 w_2362 ⟨rfl, by decide, by decide, by decide +kernel⟩
theorem cvL_175_38 : bCV RL 175 38 11 0 := bCV_of (y := yX11_pay) ci11 inf_38 w_1421 w_1422 w_1423 w_111 w_1424 ⟨rfl, by decide, by decide, by decide +kernel⟩
theorem cvL_178_96 : bCV RL 178 96 12 0 := bCV_of (y := yX12_pay) ci12 inf_96 w_2364 w_2365 w_2366 w_124 w_2367 ⟨rfl, by decide, by decide, by decide +kernel⟩
theorem cvL_179_39 : bCV RL 179 39 11 2 := bCV_of (y := yX11_offer) ci11 inf_39 w_1437 w_1438 w_1439 w_111 w_1440 ⟨rfl, by decide, by decide, by decide +kernel⟩
theorem cvL_182_97 : bCV RL 182 97 12 2 := bCV_of (y := yX12_offer) ci12 inf_97 w_2368 w_2369 w_2370 w_124 w_2371 ⟨rfl, by decide, by decide, by decide +kernel⟩
theorem cvL_183_40 : bCV RL 183 40 11 1 := bCV_of (y := yX11_likest) ci11 inf_40 w_1442 w_1443 w_1444 w_111 w_1445 ⟨rfl, by decide, by decide, by decide +kernel⟩
theorem cvL_186_98 : bCV RL 186 98 12 1 := bCV_of (y := yX12_likest) ci12 inf_98 w_2372 w_2373 w_2374 w_124 w_2375 ⟨rfl, by decide, by decide, by decide +kernel⟩
theorem cvL_187_41 : bCV RL 187 41 11 2 := bCV_of (y := yX11_round) ci11 inf_41 w_1459 w_1460 w_1461 w_111 w_1462 ⟨rfl, by decide, by decide, by decide +kernel⟩
theorem cvL_190_99 : bCV RL 190 99 12 2 := bCV_of (y := yX12_round) ci12 inf_99 w_2384 w_2385 w_2386 w_124 w_2387 ⟨rfl, by decide, by decide, by decide +kernel⟩
theorem cvL_191_42 : bCV RL 191 42 11 2 := bCV_of (y := yX11_row) ci11 inf_42 w_1498 w_1499 w_1500 w_111 w_1501 ⟨rfl, by decide, by decide, by decide +kernel⟩
theorem cvL_194_100 : bCV RL 194 100 12 2 := bCV_of (y := yX12_row) ci12 inf_100 w_2400 w_2401 w_2402 w_124 w_2403 ⟨rfl, by decide, by decide, by decide +kernel⟩
theorem cvL_195_43 : bCV RL 195 43 11 3 := bCV_of (y := yX11_alterRow) ci11 inf_43 w_1502 w_1503 w_1504 w_111 w_1505 ⟨rfl, by decide, by decide, by decide +kernel⟩
theorem cvL_198_101 : bCV RL 198 101 12 3 := bCV_of (y := yX12_alterRow) ci12 inf_101 w_2408 w_2409 w_2410 w_124 w_2411 ⟨rfl, by decide, by decide, by decide +kernel⟩
theorem cvL_199_44 : bCV RL 199 44 11 0 := bCV_of (y := yX11_dropRow) ci11 inf_44 w_1506 w_1507 w_1508 w_111 w_1509 ⟨rfl, by decide, by decide, by decide +kernel⟩
theorem cvL_202_102 : bCV RL 202 102 12 0 := bCV_of (y := yX12_dropRow) ci12 inf_102 w_2413 w_2414 w_2415 w_124 w_2416 ⟨rfl, by decide, by decide, by decide +kernel⟩
theorem cvL_203_45 : bCV RL 203 45 11 0 := bCV_of (y := yX11_judge) ci11 inf_45 w_1510 w_1511 w_1512 w_111 w_1513 ⟨rfl, by decide, by decide, by decide +kernel⟩
theorem cvL_206_103 : bCV RL 206 103 12 0 := bCV_of (y := yX12_judge) ci12 inf_103 w_2417 w_2418 w_2419 w_124 w_2420 ⟨rfl, by decide, by decide, by decide +kernel⟩
theorem cvL_207_46 : bCV RL 207 46 11 3 := bCV_of (y := yX11_years) ci11 inf_46 w_1519 w_1520 w_1521 w_111 w_1522 ⟨rfl, by decide, by decide, by decide +kernel⟩
theorem cvL_210_104 : bCV RL 210 104 12 3 := bCV_of (y := yX12_years) ci12 inf_104 w_2421 w_2422 w_2423 w_124 w_2424 ⟨rfl, by decide, by decide, by decide +kernel⟩
theorem cvL_211_47 : bCV RL 211 47 11 3 := bCV_of (y := yX11_rate) ci11 inf_47 w_1530 w_1531 w_1532 w_111 w_1533 ⟨rfl, by decide, by decide, by decide +kernel⟩
theorem cvL_214_105 : bCV RL 214 105 12 3 := bCV_of (y := yX12_rate) ci12 inf_105 w_2431 w_2432 w_2433 w_124 w_2434 ⟨rfl, by decide, by decide, by decide +kernel⟩
theorem cvL_215_48 : bCV RL 215 48 11 3 := bCV_of (y := yX11_sheet) ci11 inf_48 w_1534 w_1535 w_1536 w_111 w_1537 ⟨rfl, by decide, by decide, by decide +kernel⟩
theorem cvL_218_106 : bCV RL 218 106 12 3 := bCV_of (y := yX12_sheet) ci12 inf_106 w_2442 w_2443 w_2444 w_124 w_2445 ⟨rfl, by decide, by decide, by decide +kernel⟩
theorem cvL_219_49 : bCV RL 219 49 11 3 := bCV_of (y := yX11_put) ci11 inf_49 w_1542 w_1543 w_1544 w_111 w_1545 ⟨rfl, by decide, by decide, by decide +kernel⟩
theorem cvL_222_107 : bCV RL 222 107 12 3 := bCV_of (y := yX12_put) ci12 inf_107 w_2446 w_2447 w_2448 w_124 w_2449 ⟨rfl, by decide, by decide, by decide +kernel⟩
theorem cvL_223_50 : bCV RL 223 50 11 3 := bCV_of (y := yX11_item) ci11 inf_50 w_1549 w_1550 w_1551 w_111 w_1552 ⟨rfl, by decide, by decide, by decide +kernel⟩
theorem cvL_226_108 : bCV RL 226 108 12 3 := bCV_of (y := yX12_item) ci12 inf_108 w_2453 w_2454 w_2455 w_124 w_2456 ⟨rfl, by decide, by decide, by decide +kernel⟩
theorem cvL_227_51 : bCV RL 227 51 11 3 := bCV_of (y := yX11_shelf) ci11 inf_51 w_1553 w_1554 w_1555 w_111 w_1556 ⟨rfl, by decide, by decide, by decide +kernel⟩
theorem cvL_230_109 : bCV RL 230 109 12 3 := bCV_of (y := yX12_shelf) ci12 inf_109 w_2457 w_2458 w_2459 w_124 w_2460 ⟨rfl, by decide, by decide, by decide +kernel⟩
theorem cvL_231_52 : bCV RL 231 52 11 2 := bCV_of (y := yX11_taken) ci11 inf_52 w_1569 w_1570 w_1571 w_111 w_1572 ⟨rfl, by decide, by decide, by decide +kernel⟩
theorem cvL_234_110 : bCV RL 234 110 12 2 := bCV_of (y := yX12_taken) ci12 inf_110 w_2461 w_2462 w_2463 w_124 w_2464 ⟨rfl, by decide, by decide, by decide +kernel⟩
theorem cvL_235_53 : bCV RL 235 53 11 3 := bCV_of (y := yX11_deal) ci11 inf_53 w_1591 w_1592 w_1593 w_111 w_1594 ⟨rfl, by decide, by decide, by decide +kernel⟩
theorem cvL_238_111 : bCV RL 238 111 12 3 := bCV_of (y := yX12_deal) ci12 inf_111 w_2472 w_2473 w_2474 w_124 w_2475 ⟨rfl, by decide, by decide, by decide +kernel⟩
theorem cvL_239_54 : bCV RL 239 54 11 1 := bCV_of (y := yX11_trace) ci11 inf_54 w_1613 w_1614 w_1615 w_111 w_1616 ⟨rfl, by decide, by decide, by decide +kernel⟩
theorem cvL_242_112 : bCV RL 242 112 12 1 := bCV_of (y := yX12_trace) ci12 inf_112 w_2520 w_2521 w_2522 w_124 w_2523 ⟨rfl, by decide, by decide, by decide +kernel⟩
theorem cvL_243_55 : bCV RL 243 55 11 1 := bCV_of (y := yX11_many) ci11 inf_55 w_1617 w_1618 w_1619 w_111 w_1620 ⟨rfl, by decide, by decide, by decide +kernel⟩
theorem cvL_246_113 : bCV RL 246 113 12 1 := bCV_of (y := yX12_many) ci12 inf_113 w_2524 w_2525 w_2526 w_124 w_2527 ⟨rfl, by decide, by decide, by decide +kernel⟩
theorem cvL_247_56 : bCV RL 247 56 11 0 := bCV_of (y := yX11_keep) ci11 inf_56 w_1629 w_1630 w_1631 w_111 w_1632 ⟨rfl, by decide, by decide, by decide +kernel⟩
theorem cvL_250_114 : bCV RL 250 114 12 0 := bCV_of (y := yX12_keep) ci12 inf_114 w_1961 w_1962 w_1963 w_124 w_1964 ⟨rfl, by decide, by decide, by decide +kernel⟩
theorem cvL_251_57 : bCV RL 251 57 11 0 := bCV_of (y := yX11_again) ci11 inf_57 w_1658 w_1659 w_1660 w_111 w_1661 ⟨rfl, by decide, by decide, by decide +kernel⟩
theorem cvL_254_115 : bCV RL 254 115 12 0 := bCV_of (y := yX12_again) ci12 inf_115 w_1973 w_1974 w_1975 w_124 w_1976 ⟨rfl, by decide, by decide, by decide +kernel⟩
theorem klL_139 : bKL RL 139 4294967295 := ⟨w_2528, by unfold in64; decide⟩
section Law
variable {L : Nat} {xs : Nat → Int32}
def A_law_0 : ES (K_law L xs) := sIf (cQ 1 (eCall (xV 0 (rLoc 1 0) (gI (eScr (hK_law L xs) (eAdd (eLoc 3) (eInt 1))) (gI (eScr (hK_law L xs) (eAdd (eLoc 3) (eInt 2))) (gI (eScr (hK_law L xs) (eAdd (eLoc 3) (eInt 3))) gNil))) cvL_13_0) rtL_0) (eCall (xV 58 (rLoc 2 132) (gI (eScr (hK_law L xs) (eAdd (eLoc 3) (eInt 1))) (gI (eScr (hK_law L xs) (eAdd (eLoc 3) (eInt 2))) (gI (eScr (hK_law L xs) (eAdd (eLoc 3) (eInt 3))) gNil))) cvL_17_58) rtL_58)) (sRet (eInt 0)) sNop
def A_law_1 : ES (K_law L xs) := sIf (cQ 1 (eCall (xV 1 (rLoc 1 0) (gI (eScr (hK_law L xs) (eAdd (eLoc 3) (eInt 1))) gNil) cvL_18_1) rtL_1) (eCall (xV 59 (rLoc 2 132) (gI (eScr (hK_law L xs) (eAdd (eLoc 3) (eInt 1))) gNil) cvL_22_59) rtL_59)) (sRet (eInt 0)) sNop
def A_law_2 : ES (K_law L xs) := sIf (cQ 1 (eCall (xV 2 (rLoc 1 0) (gI (eScr (hK_law L xs) (eAdd (eLoc 3) (eInt 1))) (gI (eScr (hK_law L xs) (eAdd (eLoc 3) (eInt 2))) gNil)) cvL_23_2) rtL_2) (eCall (xV 60 (rLoc 2 132) (gI (eScr (hK_law L xs) (eAdd (eLoc 3) (eInt 1))) (gI (eScr (hK_law L xs) (eAdd (eLoc 3) (eInt 2))) gNil)) cvL_27_60) rtL_60)) (sRet (eInt 0)) sNop
def A_law_3 : ES (K_law L xs) := sIf (cQ 1 (eCall (xV 3 (rLoc 1 0) (gI (eScr (hK_law L xs) (eAdd (eLoc 3) (eInt 1))) (gI (eScr (hK_law L xs) (eAdd (eLoc 3) (eInt 2))) gNil)) cvL_28_3) rtL_3) (eCall (xV 61 (rLoc 2 132) (gI (eScr (hK_law L xs) (eAdd (eLoc 3) (eInt 1))) (gI (eScr (hK_law L xs) (eAdd (eLoc 3) (eInt 2))) gNil)) cvL_31_61) rtL_61)) (sRet (eInt 0)) sNop
def A_law_4 : ES (K_law L xs) := sIf (cQ 1 (eCall (xV 4 (rLoc 1 0) (gI (eScr (hK_law L xs) (eAdd (eLoc 3) (eInt 1))) (gI (eScr (hK_law L xs) (eAdd (eLoc 3) (eInt 2))) (gI (eScr (hK_law L xs) (eAdd (eLoc 3) (eInt 3))) gNil))) cvL_32_4) rtL_4) (eCall (xV 62 (rLoc 2 132) (gI (eScr (hK_law L xs) (eAdd (eLoc 3) (eInt 1))) (gI (eScr (hK_law L xs) (eAdd (eLoc 3) (eInt 2))) (gI (eScr (hK_law L xs) (eAdd (eLoc 3) (eInt 3))) gNil))) cvL_35_62) rtL_62)) (sRet (eInt 0)) sNop
def A_law_5 : ES (K_law L xs) := sIf (cQ 1 (eCall (xV 5 (rLoc 1 0) (gI (eScr (hK_law L xs) (eAdd (eLoc 3) (eInt 1))) (gI (eScr (hK_law L xs) (eAdd (eLoc 3) (eInt 2))) (gI (eScr (hK_law L xs) (eAdd (eLoc 3) (eInt 3))) (gI (eScr (hK_law L xs) (eAdd (eLoc 3) (eInt 4))) gNil)))) cvL_36_5) rtL_5) (eCall (xV 63 (rLoc 2 132) (gI (eScr (hK_law L xs) (eAdd (eLoc 3) (eInt 1))) (gI (eScr (hK_law L xs) (eAdd (eLoc 3) (eInt 2))) (gI (eScr (hK_law L xs) (eAdd (eLoc 3) (eInt 3))) (gI (eScr (hK_law L xs) (eAdd (eLoc 3) (eInt 4))) gNil)))) cvL_40_63) rtL_63)) (sRet (eInt 0)) sNop
def A_law_6 : ES (K_law L xs) := sIf (cQ 1 (eCall (xV 6 (rLoc 1 0) (gI (eScr (hK_law L xs) (eAdd (eLoc 3) (eInt 1))) (gI (eScr (hK_law L xs) (eAdd (eLoc 3) (eInt 2))) (gI (eScr (hK_law L xs) (eAdd (eLoc 3) (eInt 3))) gNil))) cvL_41_6) rtL_6) (eCall (xV 64 (rLoc 2 132) (gI (eScr (hK_law L xs) (eAdd (eLoc 3) (eInt 1))) (gI (eScr (hK_law L xs) (eAdd (eLoc 3) (eInt 2))) (gI (eScr (hK_law L xs) (eAdd (eLoc 3) (eInt 3))) gNil))) cvL_44_64) rtL_64)) (sRet (eInt 0)) sNop
def A_law_7 : ES (K_law L xs) := sIf (cQ 1 (eCall (xV 7 (rLoc 1 0) (gI (eScr (hK_law L xs) (eAdd (eLoc 3) (eInt 1))) (gI (eScr (hK_law L xs) (eAdd (eLoc 3) (eInt 2))) (gI (eScr (hK_law L xs) (eAdd (eLoc 3) (eInt 3))) (gI (eScr (hK_law L xs) (eAdd (eLoc 3) (eInt 4))) gNil)))) cvL_45_7) rtL_7) (eCall (xV 65 (rLoc 2 132) (gI (eScr (hK_law L xs) (eAdd (eLoc 3) (eInt 1))) (gI (eScr (hK_law L xs) (eAdd (eLoc 3) (eInt 2))) (gI (eScr (hK_law L xs) (eAdd (eLoc 3) (eInt 3))) (gI (eScr (hK_law L xs) (eAdd (eLoc 3) (eInt 4))) gNil)))) cvL_48_65) rtL_65)) (sRet (eInt 0)) sNop
def A_law_8 : ES (K_law L xs) := sIf (cQ 1 (eCall (xV 8 (rLoc 1 0) (gI (eScr (hK_law L xs) (eAdd (eLoc 3) (eInt 1))) (gI (eScr (hK_law L xs) (eAdd (eLoc 3) (eInt 2))) (gI (eScr (hK_law L xs) (eAdd (eLoc 3) (eInt 3))) (gI (eScr (hK_law L xs) (eAdd (eLoc 3) (eInt 4))) gNil)))) cvL_49_8) rtL_8) (eCall (xV 66 (rLoc 2 132) (gI (eScr (hK_law L xs) (eAdd (eLoc 3) (eInt 1))) (gI (eScr (hK_law L xs) (eAdd (eLoc 3) (eInt 2))) (gI (eScr (hK_law L xs) (eAdd (eLoc 3) (eInt 3))) (gI (eScr (hK_law L xs) (eAdd (eLoc 3) (eInt 4))) gNil)))) cvL_52_66) rtL_66)) (sRet (eInt 0)) sNop
def A_law_9 : ES (K_law L xs) := sIf (cQ 1 (eCall (xV 9 (rLoc 1 0) (gI (eScr (hK_law L xs) (eAdd (eLoc 3) (eInt 1))) (gI (eScr (hK_law L xs) (eAdd (eLoc 3) (eInt 2))) (gI (eScr (hK_law L xs) (eAdd (eLoc 3) (eInt 3))) gNil))) cvL_53_9) rtL_9) (eCall (xV 67 (rLoc 2 132) (gI (eScr (hK_law L xs) (eAdd (eLoc 3) (eInt 1))) (gI (eScr (hK_law L xs) (eAdd (eLoc 3) (eInt 2))) (gI (eScr (hK_law L xs) (eAdd (eLoc 3) (eInt 3))) gNil))) cvL_56_67) rtL_67)) (sRet (eInt 0)) sNop
def A_law_10 : ES (K_law L xs) := sIf (cQ 1 (eCall (xV 10 (rLoc 1 0) (gI (eScr (hK_law L xs) (eAdd (eLoc 3) (eInt 1))) (gI (eScr (hK_law L xs) (eAdd (eLoc 3) (eInt 2))) (gI (eScr (hK_law L xs) (eAdd (eLoc 3) (eInt 3))) (gI (eScr (hK_law L xs) (eAdd (eLoc 3) (eInt 4))) gNil)))) cvL_57_10) rtL_10) (eCall (xV 68 (rLoc 2 132) (gI (eScr (hK_law L xs) (eAdd (eLoc 3) (eInt 1))) (gI (eScr (hK_law L xs) (eAdd (eLoc 3) (eInt 2))) (gI (eScr (hK_law L xs) (eAdd (eLoc 3) (eInt 3))) (gI (eScr (hK_law L xs) (eAdd (eLoc 3) (eInt 4))) gNil)))) cvL_60_68) rtL_68)) (sRet (eInt 0)) sNop
def A_law_11 : ES (K_law L xs) := sIf (cQ 1 (eCall (xV 11 (rLoc 1 0) (gI (eScr (hK_law L xs) (eAdd (eLoc 3) (eInt 1))) (gI (eIte (cZ 1 (eScr (hK_law L xs) (eAdd (eLoc 3) (eInt 2)))) (eInt 1) (eInt 0)) gNil)) cvL_61_11) rtL_11) (eCall (xV 69 (rLoc 2 132) (gI (eScr (hK_law L xs) (eAdd (eLoc 3) (eInt 1))) (gI (eIte (cZ 1 (eScr (hK_law L xs) (eAdd (eLoc 3) (eInt 2)))) (eInt 1) (eInt 0)) gNil)) cvL_65_69) rtL_69)) (sRet (eInt 0)) sNop
def A_law_12 : ES (K_law L xs) := sIf (cQ 1 (eCall (xV 12 (rLoc 1 0) (gI (eScr (hK_law L xs) (eAdd (eLoc 3) (eInt 1))) (gI (eScr (hK_law L xs) (eAdd (eLoc 3) (eInt 2))) gNil)) cvL_66_12) rtL_12) (eCall (xV 70 (rLoc 2 132) (gI (eScr (hK_law L xs) (eAdd (eLoc 3) (eInt 1))) (gI (eScr (hK_law L xs) (eAdd (eLoc 3) (eInt 2))) gNil)) cvL_69_70) rtL_70)) (sRet (eInt 0)) sNop
def A_law_13 : ES (K_law L xs) := sIf (cQ 1 (eCall (xV 13 (rLoc 1 0) (gI (eScr (hK_law L xs) (eAdd (eLoc 3) (eInt 1))) (gI (eIte (cZ 1 (eScr (hK_law L xs) (eAdd (eLoc 3) (eInt 2)))) (eInt 1) (eInt 0)) gNil)) cvL_70_13) rtL_13) (eCall (xV 71 (rLoc 2 132) (gI (eScr (hK_law L xs) (eAdd (eLoc 3) (eInt 1))) (gI (eIte (cZ 1 (eScr (hK_law L xs) (eAdd (eLoc 3) (eInt 2)))) (eInt 1) (eInt 0)) gNil)) cvL_73_71) rtL_71)) (sRet (eInt 0)) sNop
def A_law_14 : ES (K_law L xs) := sIf (cQ 1 (eCall (xV 14 (rLoc 1 0) (gI (eScr (hK_law L xs) (eAdd (eLoc 3) (eInt 1))) (gI (eScr (hK_law L xs) (eAdd (eLoc 3) (eInt 2))) (gI (eScr (hK_law L xs) (eAdd (eLoc 3) (eInt 3))) gNil))) cvL_74_14) rtL_14) (eCall (xV 72 (rLoc 2 132) (gI (eScr (hK_law L xs) (eAdd (eLoc 3) (eInt 1))) (gI (eScr (hK_law L xs) (eAdd (eLoc 3) (eInt 2))) (gI (eScr (hK_law L xs) (eAdd (eLoc 3) (eInt 3))) gNil))) cvL_77_72) rtL_72)) (sRet (eInt 0)) sNop
def A_law_15 : ES (K_law L xs) := sIf (cQ 1 (eCall (xV 15 (rLoc 1 0) (gI (eScr (hK_law L xs) (eAdd (eLoc 3) (eInt 1))) gNil) cvL_78_15) rtL_15) (eCall (xV 73 (rLoc 2 132) (gI (eScr (hK_law L xs) (eAdd (eLoc 3) (eInt 1))) gNil) cvL_81_73) rtL_73)) (sRet (eInt 0)) sNop
def A_law_16 : ES (K_law L xs) := sIf (cQ 1 (eCall (xV 16 (rLoc 1 0) (gI (eScr (hK_law L xs) (eAdd (eLoc 3) (eInt 1))) (gI (eIte (cZ 1 (eScr (hK_law L xs) (eAdd (eLoc 3) (eInt 2)))) (eInt 1) (eInt 0)) gNil)) cvL_82_16) rtL_16) (eCall (xV 74 (rLoc 2 132) (gI (eScr (hK_law L xs) (eAdd (eLoc 3) (eInt 1))) (gI (eIte (cZ 1 (eScr (hK_law L xs) (eAdd (eLoc 3) (eInt 2)))) (eInt 1) (eInt 0)) gNil)) cvL_85_74) rtL_74)) (sRet (eInt 0)) sNop
def A_law_17 : ES (K_law L xs) := sIf (cQ 1 (eCall (xV 17 (rLoc 1 0) (gI (eScr (hK_law L xs) (eAdd (eLoc 3) (eInt 1))) gNil) cvL_86_17) rtL_17) (eCall (xV 75 (rLoc 2 132) (gI (eScr (hK_law L xs) (eAdd (eLoc 3) (eInt 1))) gNil) cvL_89_75) rtL_75)) (sRet (eInt 0)) sNop
def A_law_18 : ES (K_law L xs) := sIf (cQ 1 (eCall (xV 18 (rLoc 1 0) (gI (eScr (hK_law L xs) (eAdd (eLoc 3) (eInt 1))) gNil) cvL_90_18) rtL_18) (eCall (xV 76 (rLoc 2 132) (gI (eScr (hK_law L xs) (eAdd (eLoc 3) (eInt 1))) gNil) cvL_93_76) rtL_76)) (sRet (eInt 0)) sNop
def A_law_19 : ES (K_law L xs) := sIf (cQ 1 (eCall (xV 19 (rLoc 1 0) (gI (eScr (hK_law L xs) (eAdd (eLoc 3) (eInt 1))) (gI (eScr (hK_law L xs) (eAdd (eLoc 3) (eInt 2))) (gI (eScr (hK_law L xs) (eAdd (eLoc 3) (eInt 3))) (gI (eScr (hK_law L xs) (eAdd (eLoc 3) (eInt 4))) (gI (eScr (hK_law L xs) (eAdd (eLoc 3) (eInt 5))) (gI (eScr (hK_law L xs) (eAdd (eLoc 3) (eInt 6))) gNil)))))) cvL_94_19) rtL_19) (eCall (xV 77 (rLoc 2 132) (gI (eScr (hK_law L xs) (eAdd (eLoc 3) (eInt 1))) (gI (eScr (hK_law L xs) (eAdd (eLoc 3) (eInt 2))) (gI (eScr (hK_law L xs) (eAdd (eLoc 3) (eInt 3))) (gI (eScr (hK_law L xs) (eAdd (eLoc 3) (eInt 4))) (gI (eScr (hK_law L xs) (eAdd (eLoc 3) (eInt 5))) (gI (eScr (hK_law L xs) (eAdd (eLoc 3) (eInt 6))) gNil)))))) cvL_98_77) rtL_77)) (sRet (eInt 0)) sNop
def A_law_20 : ES (K_law L xs) := sIf (cQ 1 (eCall (xV 20 (rLoc 1 0) (gI (eScr (hK_law L xs) (eAdd (eLoc 3) (eInt 1))) (gI (eScr (hK_law L xs) (eAdd (eLoc 3) (eInt 2))) (gI (eScr (hK_law L xs) (eAdd (eLoc 3) (eInt 3))) (gI (eScr (hK_law L xs) (eAdd (eLoc 3) (eInt 4))) gNil)))) cvL_99_20) rtL_20) (eCall (xV 78 (rLoc 2 132) (gI (eScr (hK_law L xs) (eAdd (eLoc 3) (eInt 1))) (gI (eScr (hK_law L xs) (eAdd (eLoc 3) (eInt 2))) (gI (eScr (hK_law L xs) (eAdd (eLoc 3) (eInt 3))) (gI (eScr (hK_law L xs) (eAdd (eLoc 3) (eInt 4))) gNil)))) cvL_102_78) rtL_78)) (sRet (eInt 0)) sNop
def A_law_21 : ES (K_law L xs) := sIf (cQ 1 (eCall (xV 21 (rLoc 1 0) (gI (eScr (hK_law L xs) (eAdd (eLoc 3) (eInt 1))) (gI (eScr (hK_law L xs) (eAdd (eLoc 3) (eInt 2))) (gI (eScr (hK_law L xs) (eAdd (eLoc 3) (eInt 3))) gNil))) cvL_103_21) rtL_21) (eCall (xV 79 (rLoc 2 132) (gI (eScr (hK_law L xs) (eAdd (eLoc 3) (eInt 1))) (gI (eScr (hK_law L xs) (eAdd (eLoc 3) (eInt 2))) (gI (eScr (hK_law L xs) (eAdd (eLoc 3) (eInt 3))) gNil))) cvL_106_79) rtL_79)) (sRet (eInt 0)) sNop
def A_law_22 : ES (K_law L xs) := sIf (cQ 1 (eCall (xV 22 (rLoc 1 0) (gI (eScr (hK_law L xs) (eAdd (eLoc 3) (eInt 1))) (gI (eIte (cZ 1 (eScr (hK_law L xs) (eAdd (eLoc 3) (eInt 2)))) (eInt 1) (eInt 0)) gNil)) cvL_107_22) rtL_22) (eCall (xV 80 (rLoc 2 132) (gI (eScr (hK_law L xs) (eAdd (eLoc 3) (eInt 1))) (gI (eIte (cZ 1 (eScr (hK_law L xs) (eAdd (eLoc 3) (eInt 2)))) (eInt 1) (eInt 0)) gNil)) cvL_110_80) rtL_80)) (sRet (eInt 0)) sNop
def A_law_23 : ES (K_law L xs) := sIf (cQ 1 (eCall (xV 23 (rLoc 1 0) (gI (eScr (hK_law L xs) (eAdd (eLoc 3) (eInt 1))) (gI (eScr (hK_law L xs) (eAdd (eLoc 3) (eInt 2))) gNil)) cvL_111_23) rtL_23) (eCall (xV 81 (rLoc 2 132) (gI (eScr (hK_law L xs) (eAdd (eLoc 3) (eInt 1))) (gI (eScr (hK_law L xs) (eAdd (eLoc 3) (eInt 2))) gNil)) cvL_114_81) rtL_81)) (sRet (eInt 0)) sNop
def A_law_24 : ES (K_law L xs) := sIf (cQ 1 (eCall (xV 24 (rLoc 1 0) (gI (eScr (hK_law L xs) (eAdd (eLoc 3) (eInt 1))) gNil) cvL_115_24) rtL_24) (eCall (xV 82 (rLoc 2 132) (gI (eScr (hK_law L xs) (eAdd (eLoc 3) (eInt 1))) gNil) cvL_118_82) rtL_82)) (sRet (eInt 0)) sNop
def A_law_25 : ES (K_law L xs) := sIf (cQ 1 (eCall (xV 25 (rLoc 1 0) (gI (eScr (hK_law L xs) (eAdd (eLoc 3) (eInt 1))) (gI (eScr (hK_law L xs) (eAdd (eLoc 3) (eInt 2))) (gI (eScr (hK_law L xs) (eAdd (eLoc 3) (eInt 3))) gNil))) cvL_119_25) rtL_25) (eCall (xV 83 (rLoc 2 132) (gI (eScr (hK_law L xs) (eAdd (eLoc 3) (eInt 1))) (gI (eScr (hK_law L xs) (eAdd (eLoc 3) (eInt 2))) (gI (eScr (hK_law L xs) (eAdd (eLoc 3) (eInt 3))) gNil))) cvL_122_83) rtL_83)) (sRet (eInt 0)) sNop
def A_law_26 : ES (K_law L xs) := sIf (cQ 1 (eCall (xV 26 (rLoc 1 0) (gI (eScr (hK_law L xs) (eAdd (eLoc 3) (eInt 1))) (gI (eScr (hK_law L xs) (eAdd (eLoc 3) (eInt 2))) (gI (eScr (hK_law L xs) (eAdd (eLoc 3) (eInt 3))) gNil))) cvL_123_26) rtL_26) (eCall (xV 84 (rLoc 2 132) (gI (eScr (hK_law L xs) (eAdd (eLoc 3) (eInt 1))) (gI (eScr (hK_law L xs) (eAdd (eLoc 3) (eInt 2))) (gI (eScr (hK_law L xs) (eAdd (eLoc 3) (eInt 3))) gNil))) cvL_126_84) rtL_84)) (sRet (eInt 0)) sNop
def A_law_27 : ES (K_law L xs) := sIf (cQ 1 (eCall (xV 27 (rLoc 1 0) (gI (eScr (hK_law L xs) (eAdd (eLoc 3) (eInt 1))) (gI (eScr (hK_law L xs) (eAdd (eLoc 3) (eInt 2))) gNil)) cvL_127_27) rtL_27) (eCall (xV 85 (rLoc 2 132) (gI (eScr (hK_law L xs) (eAdd (eLoc 3) (eInt 1))) (gI (eScr (hK_law L xs) (eAdd (eLoc 3) (eInt 2))) gNil)) cvL_130_85) rtL_85)) (sRet (eInt 0)) sNop
def A_law_28 : ES (K_law L xs) := sIf (cQ 1 (eCall (xV 28 (rLoc 1 0) (gI (eScr (hK_law L xs) (eAdd (eLoc 3) (eInt 1))) gNil) cvL_131_28) rtL_28) (eCall (xV 86 (rLoc 2 132) (gI (eScr (hK_law L xs) (eAdd (eLoc 3) (eInt 1))) gNil) cvL_134_86) rtL_86)) (sRet (eInt 0)) sNop
def A_law_29 : ES (K_law L xs) := sIf (cQ 1 (eCall (xV 29 (rLoc 1 0) (gI (eScr (hK_law L xs) (eAdd (eLoc 3) (eInt 1))) gNil) cvL_135_29) rtL_29) (eCall (xV 87 (rLoc 2 132) (gI (eScr (hK_law L xs) (eAdd (eLoc 3) (eInt 1))) gNil) cvL_138_87) rtL_87)) (sRet (eInt 0)) sNop
def A_law_30 : ES (K_law L xs) := sIf (cQ 1 (eCall (xV 30 (rLoc 1 0) (gL (lOr (lShl (lI2L (eScr (hK_law L xs) (eAdd (eLoc 3) (eInt 1)))) (eInt 32)) (lAnd (lI2L (eScr (hK_law L xs) (eAdd (eLoc 3) (eInt 2)))) (lLdc 4294967295 klL_139))) (gI (eScr (hK_law L xs) (eAdd (eLoc 3) (eInt 3))) gNil)) cvL_141_30) rtL_30) (eCall (xV 88 (rLoc 2 132) (gL (lOr (lShl (lI2L (eScr (hK_law L xs) (eAdd (eLoc 3) (eInt 1)))) (eInt 32)) (lAnd (lI2L (eScr (hK_law L xs) (eAdd (eLoc 3) (eInt 2)))) (lLdc 4294967295 klL_139))) (gI (eScr (hK_law L xs) (eAdd (eLoc 3) (eInt 3))) gNil)) cvL_145_88) rtL_88)) (sRet (eInt 0)) sNop
def A_law_31 : ES (K_law L xs) := sIf (cQ 1 (eCall (xV 31 (rLoc 1 0) gNil cvL_146_31) rtL_31) (eCall (xV 89 (rLoc 2 132) gNil cvL_150_89) rtL_89)) (sRet (eInt 0)) sNop
def A_law_32 : ES (K_law L xs) := sIf (cQ 1 (eCall (xV 32 (rLoc 1 0) (gI (eScr (hK_law L xs) (eAdd (eLoc 3) (eInt 1))) (gI (eScr (hK_law L xs) (eAdd (eLoc 3) (eInt 2))) gNil)) cvL_151_32) rtL_32) (eCall (xV 90 (rLoc 2 132) (gI (eScr (hK_law L xs) (eAdd (eLoc 3) (eInt 1))) (gI (eScr (hK_law L xs) (eAdd (eLoc 3) (eInt 2))) gNil)) cvL_154_90) rtL_90)) (sRet (eInt 0)) sNop
def A_law_33 : ES (K_law L xs) := sIf (cQ 1 (eCall (xV 33 (rLoc 1 0) (gI (eScr (hK_law L xs) (eAdd (eLoc 3) (eInt 1))) (gI (eScr (hK_law L xs) (eAdd (eLoc 3) (eInt 2))) gNil)) cvL_155_33) rtL_33) (eCall (xV 91 (rLoc 2 132) (gI (eScr (hK_law L xs) (eAdd (eLoc 3) (eInt 1))) (gI (eScr (hK_law L xs) (eAdd (eLoc 3) (eInt 2))) gNil)) cvL_158_91) rtL_91)) (sRet (eInt 0)) sNop
def A_law_34 : ES (K_law L xs) := sIf (cQ 1 (eCall (xV 34 (rLoc 1 0) (gI (eScr (hK_law L xs) (eAdd (eLoc 3) (eInt 1))) (gI (eScr (hK_law L xs) (eAdd (eLoc 3) (eInt 2))) (gI (eScr (hK_law L xs) (eAdd (eLoc 3) (eInt 3))) gNil))) cvL_159_34) rtL_34) (eCall (xV 92 (rLoc 2 132) (gI (eScr (hK_law L xs) (eAdd (eLoc 3) (eInt 1))) (gI (eScr (hK_law L xs) (eAdd (eLoc 3) (eInt 2))) (gI (eScr (hK_law L xs) (eAdd (eLoc 3) (eInt 3))) gNil))) cvL_162_92) rtL_92)) (sRet (eInt 0)) sNop
def A_law_35 : ES (K_law L xs) := sIf (cQ 1 (eCall (xV 35 (rLoc 1 0) (gI (eScr (hK_law L xs) (eAdd (eLoc 3) (eInt 1))) (gI (eScr (hK_law L xs) (eAdd (eLoc 3) (eInt 2))) (gI (eScr (hK_law L xs) (eAdd (eLoc 3) (eInt 3))) gNil))) cvL_163_35) rtL_35) (eCall (xV 93 (rLoc 2 132) (gI (eScr (hK_law L xs) (eAdd (eLoc 3) (eInt 1))) (gI (eScr (hK_law L xs) (eAdd (eLoc 3) (eInt 2))) (gI (eScr (hK_law L xs) (eAdd (eLoc 3) (eInt 3))) gNil))) cvL_166_93) rtL_93)) (sRet (eInt 0)) sNop
def A_law_36 : ES (K_law L xs) := sIf (cQ 1 (eCall (xV 36 (rLoc 1 0) (gI (eScr (hK_law L xs) (eAdd (eLoc 3) (eInt 1))) gNil) cvL_167_36) rtL_36) (eCall (xV 94 (rLoc 2 132) (gI (eScr (hK_law L xs) (eAdd (eLoc 3) (eInt 1))) gNil) cvL_170_94) rtL_94)) (sRet (eInt 0)) sNop
def A_law_37 : ES (K_law L xs) := sIf (cQ 1 (eCall (xV 37 (rLoc 1 0) (gI (eScr (hK_law L xs) (eAdd (eLoc 3) (eInt 1))) gNil) cvL_171_37) rtL_37) (eCall (xV 95 (rLoc 2 132) (gI (eScr (hK_law L xs) (eAdd (eLoc 3) (eInt 1))) gNil) cvL_174_95) rtL_95)) (sRet (eInt 0)) sNop
def A_law_38 : ES (K_law L xs) := sIf (cQ 1 (eCall (xV 38 (rLoc 1 0) gNil cvL_175_38) rtL_38) (eCall (xV 96 (rLoc 2 132) gNil cvL_178_96) rtL_96)) (sRet (eInt 0)) sNop
def A_law_39 : ES (K_law L xs) := sIf (cQ 1 (eCall (xV 39 (rLoc 1 0) (gI (eScr (hK_law L xs) (eAdd (eLoc 3) (eInt 1))) (gI (eScr (hK_law L xs) (eAdd (eLoc 3) (eInt 2))) gNil)) cvL_179_39) rtL_39) (eCall (xV 97 (rLoc 2 132) (gI (eScr (hK_law L xs) (eAdd (eLoc 3) (eInt 1))) (gI (eScr (hK_law L xs) (eAdd (eLoc 3) (eInt 2))) gNil)) cvL_182_97) rtL_97)) (sRet (eInt 0)) sNop
def A_law_40 : ES (K_law L xs) := sIf (cQ 1 (eCall (xV 40 (rLoc 1 0) (gI (eScr (hK_law L xs) (eAdd (eLoc 3) (eInt 1))) gNil) cvL_183_40) rtL_40) (eCall (xV 98 (rLoc 2 132) (gI (eScr (hK_law L xs) (eAdd (eLoc 3) (eInt 1))) gNil) cvL_186_98) rtL_98)) (sRet (eInt 0)) sNop
def A_law_41 : ES (K_law L xs) := sIf (cQ 1 (eCall (xV 41 (rLoc 1 0) (gI (eScr (hK_law L xs) (eAdd (eLoc 3) (eInt 1))) (gI (eScr (hK_law L xs) (eAdd (eLoc 3) (eInt 2))) gNil)) cvL_187_41) rtL_41) (eCall (xV 99 (rLoc 2 132) (gI (eScr (hK_law L xs) (eAdd (eLoc 3) (eInt 1))) (gI (eScr (hK_law L xs) (eAdd (eLoc 3) (eInt 2))) gNil)) cvL_190_99) rtL_99)) (sRet (eInt 0)) sNop
def A_law_42 : ES (K_law L xs) := sIf (cQ 1 (eCall (xV 42 (rLoc 1 0) (gI (eScr (hK_law L xs) (eAdd (eLoc 3) (eInt 1))) (gI (eScr (hK_law L xs) (eAdd (eLoc 3) (eInt 2))) gNil)) cvL_191_42) rtL_42) (eCall (xV 100 (rLoc 2 132) (gI (eScr (hK_law L xs) (eAdd (eLoc 3) (eInt 1))) (gI (eScr (hK_law L xs) (eAdd (eLoc 3) (eInt 2))) gNil)) cvL_194_100) rtL_100)) (sRet (eInt 0)) sNop
def A_law_43 : ES (K_law L xs) := sIf (cQ 1 (eCall (xV 43 (rLoc 1 0) (gI (eScr (hK_law L xs) (eAdd (eLoc 3) (eInt 1))) (gI (eScr (hK_law L xs) (eAdd (eLoc 3) (eInt 2))) (gI (eScr (hK_law L xs) (eAdd (eLoc 3) (eInt 3))) gNil))) cvL_195_43) rtL_43) (eCall (xV 101 (rLoc 2 132) (gI (eScr (hK_law L xs) (eAdd (eLoc 3) (eInt 1))) (gI (eScr (hK_law L xs) (eAdd (eLoc 3) (eInt 2))) (gI (eScr (hK_law L xs) (eAdd (eLoc 3) (eInt 3))) gNil))) cvL_198_101) rtL_101)) (sRet (eInt 0)) sNop
def A_law_44 : ES (K_law L xs) := sIf (cQ 1 (eCall (xV 44 (rLoc 1 0) gNil cvL_199_44) rtL_44) (eCall (xV 102 (rLoc 2 132) gNil cvL_202_102) rtL_102)) (sRet (eInt 0)) sNop
def A_law_45 : ES (K_law L xs) := sIf (cQ 1 (eCall (xV 45 (rLoc 1 0) gNil cvL_203_45) rtL_45) (eCall (xV 103 (rLoc 2 132) gNil cvL_206_103) rtL_103)) (sRet (eInt 0)) sNop
def A_law_46 : ES (K_law L xs) := sIf (cQ 1 (eCall (xV 46 (rLoc 1 0) (gI (eScr (hK_law L xs) (eAdd (eLoc 3) (eInt 1))) (gI (eScr (hK_law L xs) (eAdd (eLoc 3) (eInt 2))) (gI (eScr (hK_law L xs) (eAdd (eLoc 3) (eInt 3))) gNil))) cvL_207_46) rtL_46) (eCall (xV 104 (rLoc 2 132) (gI (eScr (hK_law L xs) (eAdd (eLoc 3) (eInt 1))) (gI (eScr (hK_law L xs) (eAdd (eLoc 3) (eInt 2))) (gI (eScr (hK_law L xs) (eAdd (eLoc 3) (eInt 3))) gNil))) cvL_210_104) rtL_104)) (sRet (eInt 0)) sNop
def A_law_47 : ES (K_law L xs) := sIf (cQ 1 (eCall (xV 47 (rLoc 1 0) (gI (eScr (hK_law L xs) (eAdd (eLoc 3) (eInt 1))) (gI (eScr (hK_law L xs) (eAdd (eLoc 3) (eInt 2))) (gI (eScr (hK_law L xs) (eAdd (eLoc 3) (eInt 3))) gNil))) cvL_211_47) rtL_47) (eCall (xV 105 (rLoc 2 132) (gI (eScr (hK_law L xs) (eAdd (eLoc 3) (eInt 1))) (gI (eScr (hK_law L xs) (eAdd (eLoc 3) (eInt 2))) (gI (eScr (hK_law L xs) (eAdd (eLoc 3) (eInt 3))) gNil))) cvL_214_105) rtL_105)) (sRet (eInt 0)) sNop
def A_law_48 : ES (K_law L xs) := sIf (cQ 1 (eCall (xV 48 (rLoc 1 0) (gI (eScr (hK_law L xs) (eAdd (eLoc 3) (eInt 1))) (gI (eScr (hK_law L xs) (eAdd (eLoc 3) (eInt 2))) (gI (eScr (hK_law L xs) (eAdd (eLoc 3) (eInt 3))) gNil))) cvL_215_48) rtL_48) (eCall (xV 106 (rLoc 2 132) (gI (eScr (hK_law L xs) (eAdd (eLoc 3) (eInt 1))) (gI (eScr (hK_law L xs) (eAdd (eLoc 3) (eInt 2))) (gI (eScr (hK_law L xs) (eAdd (eLoc 3) (eInt 3))) gNil))) cvL_218_106) rtL_106)) (sRet (eInt 0)) sNop
def A_law_49 : ES (K_law L xs) := sIf (cQ 1 (eCall (xV 49 (rLoc 1 0) (gI (eScr (hK_law L xs) (eAdd (eLoc 3) (eInt 1))) (gI (eScr (hK_law L xs) (eAdd (eLoc 3) (eInt 2))) (gI (eScr (hK_law L xs) (eAdd (eLoc 3) (eInt 3))) gNil))) cvL_219_49) rtL_49) (eCall (xV 107 (rLoc 2 132) (gI (eScr (hK_law L xs) (eAdd (eLoc 3) (eInt 1))) (gI (eScr (hK_law L xs) (eAdd (eLoc 3) (eInt 2))) (gI (eScr (hK_law L xs) (eAdd (eLoc 3) (eInt 3))) gNil))) cvL_222_107) rtL_107)) (sRet (eInt 0)) sNop
def A_law_50 : ES (K_law L xs) := sIf (cQ 1 (eCall (xV 50 (rLoc 1 0) (gI (eScr (hK_law L xs) (eAdd (eLoc 3) (eInt 1))) (gI (eScr (hK_law L xs) (eAdd (eLoc 3) (eInt 2))) (gI (eScr (hK_law L xs) (eAdd (eLoc 3) (eInt 3))) gNil))) cvL_223_50) rtL_50) (eCall (xV 108 (rLoc 2 132) (gI (eScr (hK_law L xs) (eAdd (eLoc 3) (eInt 1))) (gI (eScr (hK_law L xs) (eAdd (eLoc 3) (eInt 2))) (gI (eScr (hK_law L xs) (eAdd (eLoc 3) (eInt 3))) gNil))) cvL_226_108) rtL_108)) (sRet (eInt 0)) sNop
def A_law_51 : ES (K_law L xs) := sIf (cQ 1 (eCall (xV 51 (rLoc 1 0) (gI (eScr (hK_law L xs) (eAdd (eLoc 3) (eInt 1))) (gI (eScr (hK_law L xs) (eAdd (eLoc 3) (eInt 2))) (gI (eScr (hK_law L xs) (eAdd (eLoc 3) (eInt 3))) gNil))) cvL_227_51) rtL_51) (eCall (xV 109 (rLoc 2 132) (gI (eScr (hK_law L xs) (eAdd (eLoc 3) (eInt 1))) (gI (eScr (hK_law L xs) (eAdd (eLoc 3) (eInt 2))) (gI (eScr (hK_law L xs) (eAdd (eLoc 3) (eInt 3))) gNil))) cvL_230_109) rtL_109)) (sRet (eInt 0)) sNop
def A_law_52 : ES (K_law L xs) := sIf (cQ 1 (eCall (xV 52 (rLoc 1 0) (gI (eScr (hK_law L xs) (eAdd (eLoc 3) (eInt 1))) (gI (eScr (hK_law L xs) (eAdd (eLoc 3) (eInt 2))) gNil)) cvL_231_52) rtL_52) (eCall (xV 110 (rLoc 2 132) (gI (eScr (hK_law L xs) (eAdd (eLoc 3) (eInt 1))) (gI (eScr (hK_law L xs) (eAdd (eLoc 3) (eInt 2))) gNil)) cvL_234_110) rtL_110)) (sRet (eInt 0)) sNop
def A_law_53 : ES (K_law L xs) := sIf (cQ 1 (eCall (xV 53 (rLoc 1 0) (gI (eScr (hK_law L xs) (eAdd (eLoc 3) (eInt 1))) (gI (eScr (hK_law L xs) (eAdd (eLoc 3) (eInt 2))) (gI (eScr (hK_law L xs) (eAdd (eLoc 3) (eInt 3))) gNil))) cvL_235_53) rtL_53) (eCall (xV 111 (rLoc 2 132) (gI (eScr (hK_law L xs) (eAdd (eLoc 3) (eInt 1))) (gI (eScr (hK_law L xs) (eAdd (eLoc 3) (eInt 2))) (gI (eScr (hK_law L xs) (eAdd (eLoc 3) (eInt 3))) gNil))) cvL_238_111) rtL_111)) (sRet (eInt 0)) sNop
def A_law_54 : ES (K_law L xs) := sIf (cQ 1 (eCall (xV 54 (rLoc 1 0) (gI (eScr (hK_law L xs) (eAdd (eLoc 3) (eInt 1))) gNil) cvL_239_54) rtL_54) (eCall (xV 112 (rLoc 2 132) (gI (eScr (hK_law L xs) (eAdd (eLoc 3) (eInt 1))) gNil) cvL_242_112) rtL_112)) (sRet (eInt 0)) sNop
def A_law_55 : ES (K_law L xs) := sIf (cQ 1 (eCall (xV 55 (rLoc 1 0) (gI (eScr (hK_law L xs) (eAdd (eLoc 3) (eInt 1))) gNil) cvL_243_55) rtL_55) (eCall (xV 113 (rLoc 2 132) (gI (eScr (hK_law L xs) (eAdd (eLoc 3) (eInt 1))) gNil) cvL_246_113) rtL_113)) (sRet (eInt 0)) sNop
def A_law_56 : ES (K_law L xs) := sIf (cQ 1 (eCall (xV 56 (rLoc 1 0) gNil cvL_247_56) rtL_56) (eCall (xV 114 (rLoc 2 132) gNil cvL_250_114) rtL_114)) (sRet (eInt 0)) sNop
def A_law_57 : ES (K_law L xs) := sIf (cQ 1 (eCall (xV 57 (rLoc 1 0) gNil cvL_251_57) rtL_57) (eCall (xV 115 (rLoc 2 132) gNil cvL_254_115) rtL_115)) (sRet (eInt 0)) sNop
def T_law : ET (K_law L xs) := (tCase 0 A_law_0 (tCase 1 A_law_1 (tCase 2 A_law_2 (tCase 3 A_law_3 (tCase 4 A_law_4 (tCase 5 A_law_5 (tCase 6 A_law_6 (tCase 7 A_law_7 (tCase 8 A_law_8 (tCase 9 A_law_9 (tCase 10 A_law_10 (tCase 11 A_law_11 (tCase 12 A_law_12 (tCase 13 A_law_13 (tCase 14 A_law_14 (tCase 15 A_law_15 (tCase 16 A_law_16 (tCase 17 A_law_17 (tCase 18 A_law_18 (tCase 19 A_law_19 (tCase 20 A_law_20 (tCase 21 A_law_21 (tCase 22 A_law_22 (tCase 23 A_law_23 (tCase 24 A_law_24 (tCase 25 A_law_25 (tCase 26 A_law_26 (tCase 27 A_law_27 (tCase 28 A_law_28 (tCase 29 A_law_29 (tCase 30 A_law_30 (tCase 31 A_law_31 (tCase 32 A_law_32 (tCase 33 A_law_33 (tCase 34 A_law_34 (tCase 35 A_law_35 (tCase 36 A_law_36 (tCase 37 A_law_37 (tCase 38 A_law_38 (tCase 39 A_law_39 (tCase 40 A_law_40 (tCase 41 A_law_41 (tCase 42 A_law_42 (tCase 43 A_law_43 (tCase 44 A_law_44 (tCase 45 A_law_45 (tCase 46 A_law_46 (tCase 47 A_law_47 (tCase 48 A_law_48 (tCase 49 A_law_49 (tCase 50 A_law_50 (tCase 51 A_law_51 (tCase 52 A_law_52 (tCase 53 A_law_53 (tCase 54 A_law_54 (tCase 55 A_law_55 (tCase 56 A_law_56 (tCase 57 A_law_57 (tDef sNop)))))))))))))))))))))))))))))))))))))))))))))))))))))))))))
def L_law_c : EC (K_law L xs) := cQ 5 (eLoc 3) (eSub (eSLn (hK_law L xs)) (eInt 7))
def L_law_b : ES (K_law L xs) := sSw (eAnd (eScr (hK_law L xs) (eLoc 3)) (eInt 63)) T_law
def L_law_s : ES (K_law L xs) := sInc 3 7
def L_law : ES (K_law L xs) := sLp 2370 L_law_c L_law_b L_law_s
def B_law : ES (K_law L xs) := sSeq (sSet 3 (eInt 0)) (sSeq L_law (sRet (eInt 1)))
end Law
