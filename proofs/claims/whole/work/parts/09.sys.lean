/-! ===== the cells of the class and of the reference, and the methods ===== -/
def bSY : bS := [(0, 11, [3, 11, 19, 29, 39, 52, 65, 73, 81, 88, 95, 103, 111, 113, 119, 126, 0]), (0, 10, [4, 5, 6, 7, 8, 9, 10, 0, 0, 0, 0]), (1, 12, []), (1, 12, []), (1, 24, []), (1, 3, []), (1, 10, []), (1, 10, []), (1, 10, []), (0, 10, [12, 13, 14, 15, 16, 17, 18, 0, 0, 0, 0]), (1, 12, []), (1, 12, []), (1, 24, []), (1, 3, []), (1, 10, []), (1, 10, []), (1, 10, []), (0, 8, [20, 21, 22, 23, 24, 25, 26, 27, 28, 0, 0]), (1, 16, []), (1, 16, []), (1, 16, []), (1, 16, []), (1, 16, []), (1, 16, []), (2, 16, []), (1, 4, []), (2, 4, []), (0, 8, [30, 31, 32, 33, 34, 35, 36, 37, 38, 0, 0]), (1, 16, []), (1, 16, []), (1, 16, []), (1, 16, []), (1, 16, []), (1, 16, []), (2, 16, []), (1, 4, []), (2, 4, []), (0, 2, [40, 41, 42, 43, 44, 45, 46, 47, 48, 49, 50, 51, 0, 0, 0, 0]), (1, 16, []), (1, 16, []), (1, 16, []), (2, 16, []), (1, 16, []), (1, 16, []), (1, 12, []), (1, 12, []), (1, 12, []), (1, 12, []), (1, 12, []), (1, 12, []), (0, 2, [53, 54, 55, 56, 57, 58, 59, 60, 61, 62, 63, 64, 0, 0, 0, 0]), (1, 16, []), (1, 16, []), (1, 16, []), (2, 16, []), (1, 16, []), (1, 16, []), (1, 12, []), (1, 12, []), (1, 12, []), (1, 12, []), (1, 12, []), (1, 12, []), (0, 0, [66, 67, 68, 69, 70, 71, 72, 0]), (1, 9, []), (1, 9, []), (1, 81, []), (1, 81, []), (1, 81, []), (1, 81, []), (1, 720, []), (0, 0, [74, 75, 76, 77, 78, 79, 80, 0]), (1, 9, []), (1, 9, []), (1, 81, []), (1, 81, []), (1, 81, []), (1, 81, []), (1, 720, []), (0, 1, [82, 83, 84, 85, 86, 87, 0, 0, 0, 0]), (1, 16, []), (1, 16, []), (1, 16, []), (1, 16, []), (1, 24, []), (1, 24, []), (0, 1, [89, 90, 91, 92, 93, 94, 0, 0, 0, 0]), (1, 16, []), (1, 16, []), (1, 16, []), (1, 16, []), (1, 24, []), (1, 24, []), (0, 5, [3, 19, 39, 96, 97, 98, 99, 100, 101, 102, 0, 0, 0, 0, 0, 0, 0, 0]), (1, 12, []), (1, 12, []), (1, 12, []), (1, 12, []), (1, 10, []), (1, 16, []), (1, 12, []), (0, 6, [3, 19, 39, 95, 104, 105, 106, 107, 108, 109, 110, 0, 0, 0, 0, 0]), (1, 90, []), (1, 90, []), (1, 90, []), (1, 1080, []), (1, 1080, []), (2, 90, []), (1, 12, []), (0, 7, [65, 112, 0, 0, 0, 0, 0, 0, 0]), (3, 240, []), (0, 4, [3, 39, 65, 81, 103, 114, 115, 116, 117, 118]), (1, 8, []), (1, 8, []), (1, 16, []), (1, 16, []), (1, 3, []), (0, 9, [3, 39, 81, 103, 0, 0, 0, 0, 120, 121, 0, 122, 123, 124, 125]), (1, 7, []), (1, 7, []), (1, 7, []), (1, 7, []), (1, 7, []), (1, 896, []), (0, 3, [3, 19, 39, 81, 127, 128, 129, 130, 131, 132, 133, 0, 0, 0, 0, 0, 0]), (1, 4, []), (1, 4, []), (1, 160, []), (1, 4, []), (1, 4, []), (1, 4, []), (1, 30, []), (0, 12, [135, 136, 137, 138, 139, 140, 141, 142, 143, 144, 145, 146, 147, 148, 149, 150, 151, 152, 153, 154, 155, 156, 157, 158, 159, 160, 161, 162, 163, 164, 165, 166, 167, 168, 169, 170, 171, 172, 173, 174, 175, 176, 177, 178, 179, 180, 0, 0, 181, 182, 183, 184, 185, 0, 186, 187, 188, 189, 190, 0, 191, 192, 193, 0, 194, 0, 0, 0, 0, 0, 1, 0, 0, 0, 195, 196, 197, 198, 0, 0, 0, 0, 0, 0, 199, 200, 201, 202, 203, 204, 205, 0, 0, 0, 0, 0, 0]), (1, 14, []), (1, 12, []), (1, 12, []), (1, 3, []), (1, 24, []), (1, 10, []), (1, 10, []), (1, 10, []), (1, 16, []), (1, 16, []), (1, 16, []), (1, 16, []), (1, 16, []), (1, 16, []), (1, 16, []), (1, 4, []), (1, 4, []), (1, 16, []), (1, 16, []), (1, 16, []), (1, 16, []), (1, 16, []), (1, 16, []), (1, 12, []), (1, 12, []), (1, 12, []), (1, 12, []), (1, 12, []), (1, 12, []), (1, 9, []), (1, 9, []), (1, 9, []), (1, 81, []), (1, 81, []), (1, 81, []), (1, 81, []), (1, 720, []), (1, 720, []), (1, 720, []), (1, 16, []), (1, 16, []), (1, 16, []), (1, 16, []), (1, 24, []), (1, 24, []), (1, 3600, []), (1, 2160, []), (1, 10, []), (1, 12, []), (1, 12, []), (1, 12, []), (2, 90, []), (1, 16, []), (1, 10, []), (1, 1080, []), (1, 12, []), (1, 10, []), (1, 12, []), (1, 16, []), (1, 240, []), (1, 7, []), (1, 7, []), (1, 7, []), (1, 7, []), (1, 4, []), (1, 4, []), (4, 160, []), (1, 4, []), (1, 4, []), (1, 4, []), (1, 30, [])]
abbrev bMi : Type := MethodName × ByteArray × Nat × Option FieldType
def bIn0 : List bMi := [(yX11_reach, cX11_reach, 5, some .int), (yX11_pond, cX11_pond, 3, some .int), (yX11_gate, cX11_gate, 4, some .int), (yX11_table, cX11_table, 5, some .int), (yX11_house, cX11_house, 5, some .int), (yX11_depth, cX11_depth, 5, some .int), (yX11_falls, cX11_falls, 4, some .int), (yX11_sooner, cX11_sooner, 7, some .int), (yX11_clock, cX11_clock, 7, some .int), (yX11_mark, cX11_mark, 4, some .int), (yX11_word, cX11_word, 5, some .int), (yX11_tear, cX11_tear, 3, some .int), (yX11_side, cX11_side, 4, some .int), (yX11_doubt, cX11_doubt, 3, some .int), (yX11_lets, cX11_lets, 4, some .int), (yX11_possible, cX11_possible, 2, some .int), (yX11_span, cX11_span, 3, some .int), (yX11_hangs, cX11_hangs, 4, some .int), (yX11_sure, cX11_sure, 2, some .int), (yX11_could, cX11_could, 7, some .int)]
def bIn1 : List bMi := [(yX11_told, cX11_told, 5, some .int), (yX11_person, cX11_person, 5, some .int), (yX11_safe, cX11_safe, 3, some .int), (yX11_name, cX11_name, 4, some .int), (yX11_list, cX11_list, 2, some .int), (yX11_thing, cX11_thing, 5, some .int), (yX11_lies, cX11_lies, 4, some .int), (yX11_find, cX11_find, 4, some .int), (yX11_whose, cX11_whose, 4, some .int), (yX11_days, cX11_days, 2, some .int), (yX11_feed, cX11_feed, 4, some .int), (yX11_read, cX11_read, 3, some .int), (yX11_claim, cX11_claim, 3, some .int), (yX11_proof, cX11_proof, 3, some .int), (yX11_claimOf, cX11_claimOf, 5, some .int), (yX11_why, cX11_why, 5, some .int), (yX11_odd, cX11_odd, 2, some .int), (yX11_fund, cX11_fund, 2, some .int), (yX11_pay, cX11_pay, 1, some .int), (yX11_offer, cX11_offer, 3, some .int)]
def bIn2 : List bMi := [(yX11_likest, cX11_likest, 2, some .int), (yX11_round, cX11_round, 4, some .int), (yX11_row, cX11_row, 3, some .int), (yX11_alterRow, cX11_alterRow, 6, some .int), (yX11_dropRow, cX11_dropRow, 1, some .int), (yX11_judge, cX11_judge, 1, some .int), (yX11_years, cX11_years, 4, some .int), (yX11_rate, cX11_rate, 8, some .int), (yX11_sheet, cX11_sheet, 4, some .int), (yX11_put, cX11_put, 4, some .int), (yX11_item, cX11_item, 5, some .int), (yX11_shelf, cX11_shelf, 4, some .int), (yX11_taken, cX11_taken, 4, some .int), (yX11_deal, cX11_deal, 4, some .int), (yX11_trace, cX11_trace, 2, some .int), (yX11_many, cX11_many, 2, some .int), (yX11_keep, cX11_keep, 1, some .int), (yX11_again, cX11_again, 1, some .int), (yX12_reach, cX12_reach, 5, some .int), (yX12_pond, cX12_pond, 3, some .int)]
def bIn3 : List bMi := [(yX12_gate, cX12_gate, 4, some .int), (yX12_table, cX12_table, 5, some .int), (yX12_house, cX12_house, 5, some .int), (yX12_depth, cX12_depth, 5, some .int), (yX12_falls, cX12_falls, 4, some .int), (yX12_sooner, cX12_sooner, 7, some .int), (yX12_clock, cX12_clock, 5, some .int), (yX12_mark, cX12_mark, 4, some .int), (yX12_word, cX12_word, 5, some .int), (yX12_tear, cX12_tear, 4, some .int), (yX12_side, cX12_side, 4, some .int), (yX12_doubt, cX12_doubt, 5, some .int), (yX12_lets, cX12_lets, 4, some .int), (yX12_possible, cX12_possible, 4, some .int), (yX12_span, cX12_span, 5, some .int), (yX12_hangs, cX12_hangs, 2, some .int), (yX12_sure, cX12_sure, 2, some .int), (yX12_could, cX12_could, 8, some .int), (yX12_told, cX12_told, 8, some .int), (yX12_person, cX12_person, 5, some .int)]
def bIn4 : List bMi := [(yX12_safe, cX12_safe, 4, some .int), (yX12_name, cX12_name, 3, some .int), (yX12_list, cX12_list, 3, some .int), (yX12_thing, cX12_thing, 5, some .int), (yX12_lies, cX12_lies, 4, some .int), (yX12_find, cX12_find, 3, some .int), (yX12_whose, cX12_whose, 2, some .int), (yX12_days, cX12_days, 2, some .int), (yX12_feed, cX12_feed, 5, some .int), (yX12_read, cX12_read, 1, some .int), (yX12_claim, cX12_claim, 4, some .int), (yX12_proof, cX12_proof, 3, some .int), (yX12_claimOf, cX12_claimOf, 4, some .int), (yX12_why, cX12_why, 5, some .int), (yX12_odd, cX12_odd, 6, some .int), (yX12_fund, cX12_fund, 2, some .int), (yX12_pay, cX12_pay, 5, some .int), (yX12_offer, cX12_offer, 3, some .int), (yX12_likest, cX12_likest, 7, some .int), (yX12_round, cX12_round, 7, some .int)]
def bIn5 : List bMi := [(yX12_row, cX12_row, 3, some .int), (yX12_alterRow, cX12_alterRow, 5, some .int), (yX12_dropRow, cX12_dropRow, 1, some .int), (yX12_judge, cX12_judge, 6, some .int), (yX12_years, cX12_years, 5, some .int), (yX12_rate, cX12_rate, 5, some .int), (yX12_sheet, cX12_sheet, 5, some .int), (yX12_put, cX12_put, 4, some .int), (yX12_item, cX12_item, 4, some .int), (yX12_shelf, cX12_shelf, 4, some .int), (yX12_taken, cX12_taken, 3, some .int), (yX12_deal, cX12_deal, 5, some .int), (yX12_trace, cX12_trace, 2, some .int), (yX12_many, cX12_many, 4, some .int), (yX12_keep, cX12_keep, 1, some .int), (yX12_again, cX12_again, 1, some .int), (yX11_isReach, cX11_isReach, 1, some .boolean), (yX11_within, cX11_within, 3, some .boolean), (yX6_forgetNights, cX6_forgetNights, 1, none), (yX11_isGate, cX11_isGate, 2, some .boolean)]
def bIn6 : List bMi := [(yX11_isWay, cX11_isWay, 1, some .boolean), (yX11_isSheet, cX11_isSheet, 1, some .boolean), (yX3_refusesSort, cX3_refusesSort, 3, some .int), (yX3_isTable, cX3_isTable, 4, some .boolean), (yX11_isNight, cX11_isNight, 2, some .boolean), (yX11_isMinute, cX11_isMinute, 1, some .boolean), (yX5_pass, cX5_pass, 10, none), (yX5_depthNow, cX5_depthNow, 3, some .int), (yX11_isHouse, cX11_isHouse, 2, some .boolean), (yJ6_bitCount_0f7a4, cJ6_bitCount_0f7a4, 1, some .int), (yX5_fallen, cX5_fallen, 3, some .int), (yX8_addRow, cX8_addRow, 7, some .int), (yX11_isEngineer, cX11_isEngineer, 1, some .boolean), (yX11_isStart, cX11_isStart, 1, some .boolean), (yX6_forgetPossible, cX6_forgetPossible, 1, none), (yX11_isSeenRow, cX11_isSeenRow, 2, some .boolean), (yX8_setDoubted, cX8_setDoubted, 5, some .int), (yX6_allLet, cX6_allLet, 3, some .boolean), (yX6_weigh, cX6_weigh, 3, none), (yX6_countPossible, cX6_countPossible, 6, some .int)]
def bIn7 : List bMi := [(yX6_lastStart, cX6_lastStart, 3, some .int), (yX6_firstStart, cX6_firstStart, 3, some .int), (yX8_speaking, cX8_speaking, 3, some .int), (yX6_countLet, cX6_countLet, 4, some .int), (yX6_gather, cX6_gather, 3, none), (yX6_fallsInEach, cX6_fallsInEach, 2, some .boolean), (yX6_fallsInSome, cX6_fallsInSome, 2, some .boolean), (yX11_isRide, cX11_isRide, 4, some .boolean), (yX6_toldInTime, cX6_toldInTime, 13, some .int), (yX6_toldForSure, cX6_toldForSure, 7, some .int), (yX11_isPerson, cX11_isPerson, 2, some .boolean), (yX2_namesThatStand, cX2_namesThatStand, 7, some .int), (yX2_namesNever, cX2_namesNever, 3, some .int), (yX11_isThing, cX11_isThing, 2, some .boolean), (yX6_restOf, cX6_restOf, 5, some .int), (yX6_canBe, cX6_canBe, 3, some .boolean), (yX7_append, cX7_append, 5, none), (yX7_parse, cX7_parse, 2, some .int), (yX1_isClaimed, cX1_isClaimed, 4, some .boolean), (yX1_addClaim, cX1_addClaim, 4, some .int)]
def bIn8 : List bMi := [(yX11_isClaim, cX11_isClaim, 2, some .boolean), (yX1_addProof, cX1_addProof, 3, none), (yX1_proofsThatCount, cX1_proofsThatCount, 4, some .int), (yX11_isDay, cX11_isDay, 1, some .boolean), (yX4_takeFacts, cX4_takeFacts, 2, none), (yX0_versionOn, cX0_versionOn, 3, some .int), (yX4_isBarred, cX4_isBarred, 5, some .boolean), (yX4_owed, cX4_owed, 4, some .int), (yX4_rank, cX4_rank, 3, some .int), (yX4_isFound, cX4_isFound, 1, some .boolean), (yX4_firstLine, cX4_firstLine, 6, some .int), (yX4_housesOver, cX4_housesOver, 5, some .int), (yX4_thingsTwice, cX4_thingsTwice, 3, some .int), (yX4_payByRanks, cX4_payByRanks, 5, some .int), (yX1_payClaim, cX1_payClaim, 3, none), (yX4_findLikest, cX4_findLikest, 5, none), (yX9_plan, cX9_plan, 5, some .int), (yX9_firstWrongRow, cX9_firstWrongRow, 7, some .int), (yX11_isDebt, cX11_isDebt, 2, some .boolean), (yX11_yearsTillPaid, cX11_yearsTillPaid, 7, some .int)]
def bIn9 : List bMi := [(yX3_makeSheet, cX3_makeSheet, 5, none), (yX11_narrowed, cX11_narrowed, 2, some .int), (yX11_isShelf, cX11_isShelf, 1, some .boolean), (yX3_putOnShelf, cX3_putOnShelf, 4, some .int), (yX3_putSheetOnShelf, cX3_putSheetOnShelf, 4, some .int), (yX3_takenForSort, cX3_takenForSort, 3, some .int), (yX3_takenForKind, cX3_takenForKind, 4, some .int), (yX3_dealWith, cX3_dealWith, 5, some .int), (yX8_countTorn, cX8_countTorn, 3, some .int), (yX1_countPaid, cX1_countPaid, 3, some .int), (yX10_copyFrom, cX10_copyFrom, 2, none), (yX8_copyFrom, cX8_copyFrom, 2, none), (yX2_copyFrom, cX2_copyFrom, 2, none), (yX0_copyFrom, cX0_copyFrom, 2, none), (yX1_copyFrom, cX1_copyFrom, 2, none), (yX10_copyFrom, cX10_copyFrom, 2, none), (yX8_copyFrom, cX8_copyFrom, 2, none), (yX2_copyFrom, cX2_copyFrom, 2, none), (yX0_copyFrom, cX0_copyFrom, 2, none), (yX1_copyFrom, cX1_copyFrom, 2, none)]
def bIn10 : List bMi := [(yX12_isReach, cX12_isReach, 1, some .boolean), (yX12_in, cX12_in, 3, some .boolean), (yX12_isGate, cX12_isGate, 2, some .boolean), (yX12_isSheet, cX12_isSheet, 1, some .boolean), (yX12_isNight, cX12_isNight, 2, some .boolean), (yX12_isMinute, cX12_isMinute, 1, some .boolean), (yX12_nightAsIs, cX12_nightAsIs, 3, none), (yX12_isOf, cX12_isOf, 3, some .boolean), (yX12_fallMany, cX12_fallMany, 3, some .int), (yX12_night, cX12_night, 10, none), (yX12_seen, cX12_seen, 8, some .int), (yX12_doesLet, cX12_doesLet, 5, some .boolean), (yX12_survey, cX12_survey, 5, none), (yX12_surelyFalls, cX12_surelyFalls, 2, some .boolean), (yX12_isRide, cX12_isRide, 4, some .boolean), (yX12_firstDeep, cX12_firstDeep, 4, some .int), (yX12_ride, cX12_ride, 7, none), (yX12_inTime, cX12_inTime, 4, some .int), (yX12_nevers, cX12_nevers, 5, some .int), (yX12_standing, cX12_standing, 4, some .int)]
def bIn11 : List bMi := [(yX12_liesAt, cX12_liesAt, 4, some .int), (yX12_next, cX12_next, 2, none), (yX12_line, cX12_line, 3, none), (yX12_proofsOf, cX12_proofsOf, 4, some .int), (yX12_isDay, cX12_isDay, 1, some .boolean), (yX12_isBarred, cX12_isBarred, 3, some .boolean), (yX12_owed, cX12_owed, 4, some .int), (yX12_rankOf, cX12_rankOf, 4, some .int), (yX12_isFound, cX12_isFound, 4, some .boolean), (yX12_lineFor, cX12_lineFor, 6, some .int), (yX12_claimants, cX12_claimants, 4, some .int), (yX12_lesser, cX12_lesser, 2, some .int), (yX12_areUnlike, cX12_areUnlike, 3, some .boolean), (yX12_differs, cX12_differs, 5, some .int), (yX12_ones, cX12_ones, 3, some .int), (yX12_hears, cX12_hears, 8, none), (yX12_reachOf, cX12_reachOf, 2, some .int), (yX12_off, cX12_off, 2, some .int), (yX12_isCell, cX12_isCell, 3, some .boolean), (yX12_isDebt, cX12_isDebt, 2, some .boolean)]
def bIn12 : List bMi := [(yX12_yearsFor, cX12_yearsFor, 5, some .int), (yX12_narrowed, cX12_narrowed, 2, some .long), (yX12_kindOn, cX12_kindOn, 3, some .int), (yX12_isUnder, cX12_isUnder, 2, some .boolean), (yX12_dealFits, cX12_dealFits, 2, some .int), (yX12_dealPays, cX12_dealPays, 2, some .int), (yX12_dealHangs, cX12_dealHangs, 3, some .int), (yX12_dealTells, cX12_dealTells, 2, some .int), (yX12_copiesAll, cX12_copiesAll, 2, none), (yX5_begin, cX5_begin, 2, none), (yX5_comesOut, cX5_comesOut, 4, some .int), (yX5_flow, cX5_flow, 6, some .int), (yX5_carry, cX5_carry, 3, none), (yX5_rise, cX5_rise, 3, none), (yX5_launch, cX5_launch, 2, none), (yX5_noMoreComes, cX5_noMoreComes, 4, some .boolean), (yX8_wordsAgainst, cX8_wordsAgainst, 5, some .int), (yX6_know, cX6_know, 2, none), (yX8_isDoubtedWord, cX8_isDoubtedWord, 2, some .boolean), (yJ7_fill_53178, cJ7_fill_53178, 4, none)]
def bIn13 : List bMi := [(yX6_gatherThings, cX6_gatherThings, 3, none), (yX2_firstFit, cX2_firstFit, 4, some .int), (yX7_advance, cX7_advance, 1, none), (yX7_parseLine, cX7_parseLine, 6, some .boolean), (yX4_fillFacts, cX4_fillFacts, 6, none), (yX4_lastNumber, cX4_lastNumber, 5, some .int), (yX0_linesOf, cX0_linesOf, 2, some .int), (yX4_holds, cX4_holds, 8, some .boolean), (yX4_claimants, cX4_claimants, 4, some .int), (yX4_areUnlike, cX4_areUnlike, 5, some .boolean), (yX4_countDifferent, cX4_countDifferent, 4, some .int), (yX9_takeMembers, cX9_takeMembers, 3, none), (yX9_leastCost, cX9_leastCost, 9, some .int), (yX9_writeRows, cX9_writeRows, 7, none), (yX3_kindOn, cX3_kindOn, 3, some .int), (yX3_isUnder, cX3_isUnder, 4, some .boolean), (yX3_run, cX3_run, 9, some .int), (yX12_deepest, cX12_deepest, 4, some .int), (yX12_isActive, cX12_isActive, 2, some .boolean), (yX12_counts, cX12_counts, 5, none)]
def bIn14 : List bMi := [(yX12_fits, cX12_fits, 3, some .boolean), (yX12_stands, cX12_stands, 4, some .boolean), (yX12_byteAt, cX12_byteAt, 2, some .int), (yX12_fails, cX12_fails, 1, none), (yX12_may, cX12_may, 4, some .boolean), (yX12_number, cX12_number, 3, some .int), (yX12_must, cX12_must, 3, none), (yX12_any, cX12_any, 1, none), (yX12_mustSign, cX12_mustSign, 2, none), (yX12_latest, cX12_latest, 7, some .int), (yX12_actOf, cX12_actOf, 4, some .int), (yX12_holds, cX12_holds, 10, some .boolean), (yX12_fact, cX12_fact, 4, some .int), (yX12_houseOf, cX12_houseOf, 2, some .int), (yX12_greater, cX12_greater, 2, some .int), (yX12_ran, cX12_ran, 2, none), (yX12_plainFits, cX12_plainFits, 2, some .int), (yX12_wordPays, cX12_wordPays, 2, some .int), (yX12_plainPays, cX12_plainPays, 2, some .int), (yX12_plainHangs, cX12_plainHangs, 2, some .int)]
def bIn15 : List bMi := [(yX12_claimHangs, cX12_claimHangs, 2, some .int), (yX12_plainTells, cX12_plainTells, 2, some .int), (yX12_copies, cX12_copies, 5, none), (yX5_tableNumber, cX5_tableNumber, 3, some .int), (yX5_breakHouses, cX5_breakHouses, 4, none), (yX5_stopClocks, cX5_stopClocks, 4, none), (yX6_clocksAndMarksAgainst, cX6_clocksAndMarksAgainst, 5, some .int), (yX2_isFit, cX2_isFit, 3, some .boolean), (yX7_isLetter, cX7_isLetter, 1, some .boolean), (yX7_wordNumber, cX7_wordNumber, 6, some .int), (yX7_isDigit, cX7_isDigit, 1, some .boolean), (yX7_numberValue, cX7_numberValue, 3, some .int), (yX7_mostOf, cX7_mostOf, 1, some .int), (yX7_isNumber, cX7_isNumber, 2, some .boolean), (yX7_parseCond, cX7_parseCond, 4, some .boolean), (yX4_hasFind, cX4_hasFind, 3, some .boolean), (yX4_compares, cX4_compares, 5, some .boolean), (yX9_waiting, cX9_waiting, 4, some .int), (yX9_costVia, cX9_costVia, 5, some .int), (yX9_bestNext, cX9_bestNext, 8, some .int)]
def bIn16 : List bMi := [(yX3_note, cX3_note, 2, none), (yX3_parted, cX3_parted, 2, some .int), (yX12_all, cX12_all, 1, none), (yX12_does, cX12_does, 5, none), (yX12_isSign, cX12_isSign, 2, some .boolean), (yX12_isSo, cX12_isSo, 4, some .boolean), (yJ0_length_8abf5, cJ0_length_8abf5, 1, some .int), (yJ0_charAt_5068e, cJ0_charAt_5068e, 2, some .char), (yX7_parseOne, cX7_parseOne, 4, some .boolean), (yX7_emit, cX7_emit, 2, none), (yX12_one, cX12_one, 4, none), (yX7_parseCompare, cX7_parseCompare, 3, some .boolean), (yX12_factHere, cX12_factHere, 1, some .int)]
def bInL : List (List bMi) := [bIn0, bIn1, bIn2, bIn3, bIn4, bIn5, bIn6, bIn7, bIn8, bIn9, bIn10, bIn11, bIn12, bIn13, bIn14, bIn15, bIn16]
def bInfo (f : Nat) : bMi := (bInL.getD (f / 20) []).getD (f % 20) (yX11_within, cX11_within, 3, some .boolean)
theorem inf_0 : bInfo 0 = (yX11_reach, cX11_reach, 5, some .int) := rfl
theorem inf_1 : bInfo 1 = (yX11_pond, cX11_pond, 3, some .int) := rfl
theorem inf_2 : bInfo 2 = (yX11_gate, cX11_gate, 4, some .int) := rfl
theorem inf_3 : bInfo 3 = (yX11_table, cX11_table, 5, some .int) := rfl
theorem inf_4 : bInfo 4 = (yX11_house, cX11_house, 5, some .int) := rfl
theorem inf_5 : bInfo 5 = (yX11_depth, cX11_depth, 5, some .int) := rfl
theorem inf_6 : bInfo 6 = (yX11_falls, cX11_falls, 4, some .int) := rfl
theorem inf_7 : bInfo 7 = (yX11_sooner, cX11_sooner, 7, some .int) := rfl
theorem inf_8 : bInfo 8 = (yX11_clock, cX11_clock, 7, some .int) := rfl
theorem inf_9 : bInfo 9 = (yX11_mark, cX11_mark, 4, some .int) := rfl
theorem inf_10 : bInfo 10 = (yX11_word, cX11_word, 5, some .int) := rfl
theorem inf_11 : bInfo 11 = (yX11_tear, cX11_tear, 3, some .int) := rfl
theorem inf_12 : bInfo 12 = (yX11_side, cX11_side, 4, some .int) := rfl
theorem inf_13 : bInfo 13 = (yX11_doubt, cX11_doubt, 3, some .int) := rfl
theorem inf_14 : bInfo 14 = (yX11_lets, cX11_lets, 4, some .int) := rfl
theorem inf_15 : bInfo 15 = (yX11_possible, cX11_possible, 2, some .int) := rfl
theorem inf_16 : bInfo 16 = (yX11_span, cX11_span, 3, some .int) := rfl
theorem inf_17 : bInfo 17 = (yX11_hangs, cX11_hangs, 4, some .int) := rfl
theorem inf_18 : bInfo 18 = (yX11_sure, cX11_sure, 2, some .int) := rfl
theorem inf_19 : bInfo 19 = (yX11_could, cX11_could, 7, some .int) := rfl
theorem inf_20 : bInfo 20 = (yX11_told, cX11_told, 5, some .int) := rfl
theorem inf_21 : bInfo 21 = (yX11_person, cX11_person, 5, some .int) := rfl
theorem inf_22 : bInfo 22 = (yX11_safe, cX11_safe, 3, some .int) := rfl
theorem inf_23 : bInfo 23 = (yX11_name, cX11_name, 4, some .int) := rfl
theorem inf_24 : bInfo 24 = (yX11_list, cX11_list, 2, some .int) := rfl
theorem inf_25 : bInfo 25 = (yX11_thing, cX11_thing, 5, some .int) := rfl
theorem inf_26 : bInfo 26 = (yX11_lies, cX11_lies, 4, some .int) := rfl
theorem inf_27 : bInfo 27 = (yX11_find, cX11_find, 4, some .int) := rfl
theorem inf_28 : bInfo 28 = (yX11_whose, cX11_whose, 4, some .int) := rfl
theorem inf_29 : bInfo 29 = (yX11_days, cX11_days, 2, some .int) := rfl
theorem inf_30 : bInfo 30 = (yX11_feed, cX11_feed, 4, some .int) := rfl
theorem inf_31 : bInfo 31 = (yX11_read, cX11_read, 3, some .int) := rfl
theorem inf_32 : bInfo 32 = (yX11_claim, cX11_claim, 3, some .int) := rfl
theorem inf_33 : bInfo 33 = (yX11_proof, cX11_proof, 3, some .int) := rfl
theorem inf_34 : bInfo 34 = (yX11_claimOf, cX11_claimOf, 5, some .int) := rfl
theorem inf_35 : bInfo 35 = (yX11_why, cX11_why, 5, some .int) := rfl
theorem inf_36 : bInfo 36 = (yX11_odd, cX11_odd, 2, some .int) := rfl
theorem inf_37 : bInfo 37 = (yX11_fund, cX11_fund, 2, some .int) := rfl
theorem inf_38 : bInfo 38 = (yX11_pay, cX11_pay, 1, some .int) := rfl
theorem inf_39 : bInfo 39 = (yX11_offer, cX11_offer, 3, some .int) := rfl
theorem inf_40 : bInfo 40 = (yX11_likest, cX11_likest, 2, some .int) := rfl
theorem inf_41 : bInfo 41 = (yX11_round, cX11_round, 4, some .int) := rfl
theorem inf_42 : bInfo 42 = (yX11_row, cX11_row, 3, some .int) := rfl
theorem inf_43 : bInfo 43 = (yX11_alterRow, cX11_alterRow, 6, some .int) := rfl
theorem inf_44 : bInfo 44 = (yX11_dropRow, cX11_dropRow, 1, some .int) := rfl
theorem inf_45 : bInfo 45 = (yX11_judge, cX11_judge, 1, some .int) := rfl
theorem inf_46 : bInfo 46 = (yX11_years, cX11_years, 4, some .int) := rfl
theorem inf_47 : bInfo 47 = (yX11_rate, cX11_rate, 8, some .int) := rfl
theorem inf_48 : bInfo 48 = (yX11_sheet, cX11_sheet, 4, some .int) := rfl
theorem inf_49 : bInfo 49 = (yX11_put, cX11_put, 4, some .int) := rfl
theorem inf_50 : bInfo 50 = (yX11_item, cX11_item, 5, some .int) := rfl
theorem inf_51 : bInfo 51 = (yX11_shelf, cX11_shelf, 4, some .int) := rfl
theorem inf_52 : bInfo 52 = (yX11_taken, cX11_taken, 4, some .int) := rfl
theorem inf_53 : bInfo 53 = (yX11_deal, cX11_deal, 4, some .int) := rfl
theorem inf_54 : bInfo 54 = (yX11_trace, cX11_trace, 2, some .int) := rfl
theorem inf_55 : bInfo 55 = (yX11_many, cX11_many, 2, some .int) := rfl
theorem inf_56 : bInfo 56 = (yX11_keep, cX11_keep, 1, some .int) := rfl
theorem inf_57 : bInfo 57 = (yX11_again, cX11_again, 1, some .int) := rfl
theorem inf_58 : bInfo 58 = (yX12_reach, cX12_reach, 5, some .int) := rfl
theorem inf_59 : bInfo 59 = (yX12_pond, cX12_pond, 3, some .int) := rfl
theorem inf_60 : bInfo 60 = (yX12_gate, cX12_gate, 4, some .int) := rfl
theorem inf_61 : bInfo 61 = (yX12_table, cX12_table, 5, some .int) := rfl
theorem inf_62 : bInfo 62 = (yX12_house, cX12_house, 5, some .int) := rfl
theorem inf_63 : bInfo 63 = (yX12_depth, cX12_depth, 5, some .int) := rfl
theorem inf_64 : bInfo 64 = (yX12_falls, cX12_falls, 4, some .int) := rfl
theorem inf_65 : bInfo 65 = (yX12_sooner, cX12_sooner, 7, some .int) := rfl
theorem inf_66 : bInfo 66 = (yX12_clock, cX12_clock, 5, some .int) := rfl
theorem inf_67 : bInfo 67 = (yX12_mark, cX12_mark, 4, some .int) := rfl
theorem inf_68 : bInfo 68 = (yX12_word, cX12_word, 5, some .int) := rfl
theorem inf_69 : bInfo 69 = (yX12_tear, cX12_tear, 4, some .int) := rfl
theorem inf_70 : bInfo 70 = (yX12_side, cX12_side, 4, some .int) := rfl
theorem inf_71 : bInfo 71 = (yX12_doubt, cX12_doubt, 5, some .int) := rfl
theorem inf_72 : bInfo 72 = (yX12_lets, cX12_lets, 4, some .int) := rfl
theorem inf_73 : bInfo 73 = (yX12_possible, cX12_possible, 4, some .int) := rfl
theorem inf_74 : bInfo 74 = (yX12_span, cX12_span, 5, some .int) := rfl
theorem inf_75 : bInfo 75 = (yX12_hangs, cX12_hangs, 2, some .int) := rfl
theorem inf_76 : bInfo 76 = (yX12_sure, cX12_sure, 2, some .int) := rfl
theorem inf_77 : bInfo 77 = (yX12_could, cX12_could, 8, some .int) := rfl
theorem inf_78 : bInfo 78 = (yX12_told, cX12_told, 8, some .int) := rfl
theorem inf_79 : bInfo 79 = (yX12_person, cX12_person, 5, some .int) := rfl
theorem inf_80 : bInfo 80 = (yX12_safe, cX12_safe, 4, some .int) := rfl
theorem inf_81 : bInfo 81 = (yX12_name, cX12_name, 3, some .int) := rfl
theorem inf_82 : bInfo 82 = (yX12_list, cX12_list, 3, some .int) := rfl
theorem inf_83 : bInfo 83 = (yX12_thing, cX12_thing, 5, some .int) := rfl
theorem inf_84 : bInfo 84 = (yX12_lies, cX12_lies, 4, some .int) := rfl
theorem inf_85 : bInfo 85 = (yX12_find, cX12_find, 3, some .int) := rfl
theorem inf_86 : bInfo 86 = (yX12_whose, cX12_whose, 2, some .int) := rfl
theorem inf_87 : bInfo 87 = (yX12_days, cX12_days, 2, some .int) := rfl
theorem inf_88 : bInfo 88 = (yX12_feed, cX12_feed, 5, some .int) := rfl
theorem inf_89 : bInfo 89 = (yX12_read, cX12_read, 1, some .int) := rfl
theorem inf_90 : bInfo 90 = (yX12_claim, cX12_claim, 4, some .int) := rfl
theorem inf_91 : bInfo 91 = (yX12_proof, cX12_proof, 3, some .int) := rfl
theorem inf_92 : bInfo 92 = (yX12_claimOf, cX12_claimOf, 4, some .int) := rfl
theorem inf_93 : bInfo 93 = (yX12_why, cX12_why, 5, some .int) := rfl
theorem inf_94 : bInfo 94 = (yX12_odd, cX12_odd, 6, some .int) := rfl
theorem inf_95 : bInfo 95 = (yX12_fund, cX12_fund, 2, some .int) := rfl
theorem inf_96 : bInfo 96 = (yX12_pay, cX12_pay, 5, some .int) := rfl
theorem inf_97 : bInfo 97 = (yX12_offer, cX12_offer, 3, some .int) := rfl
theorem inf_98 : bInfo 98 = (yX12_likest, cX12_likest, 7, some .int) := rfl
theorem inf_99 : bInfo 99 = (yX12_round, cX12_round, 7, some .int) := rfl
theorem inf_100 : bInfo 100 = (yX12_row, cX12_row, 3, some .int) := rfl
theorem inf_101 : bInfo 101 = (yX12_alterRow, cX12_alterRow, 5, some .int) := rfl
theorem inf_102 : bInfo 102 = (yX12_dropRow, cX12_dropRow, 1, some .int) := rfl
theorem inf_103 : bInfo 103 = (yX12_judge, cX12_judge, 6, some .int) := rfl
theorem inf_104 : bInfo 104 = (yX12_years, cX12_years, 5, some .int) := rfl
theorem inf_105 : bInfo 105 = (yX12_rate, cX12_rate, 5, some .int) := rfl
theorem inf_106 : bInfo 106 = (yX12_sheet, cX12_sheet, 5, some .int) := rfl
theorem inf_107 : bInfo 107 = (yX12_put, cX12_put, 4, some .int) := rfl
theorem inf_108 : bInfo 108 = (yX12_item, cX12_item, 4, some .int) := rfl
theorem inf_109 : bInfo 109 = (yX12_shelf, cX12_shelf, 4, some .int) := rfl
theorem inf_110 : bInfo 110 = (yX12_taken, cX12_taken, 3, some .int) := rfl
theorem inf_111 : bInfo 111 = (yX12_deal, cX12_deal, 5, some .int) := rfl
theorem inf_112 : bInfo 112 = (yX12_trace, cX12_trace, 2, some .int) := rfl
theorem inf_113 : bInfo 113 = (yX12_many, cX12_many, 4, some .int) := rfl
theorem inf_114 : bInfo 114 = (yX12_keep, cX12_keep, 1, some .int) := rfl
theorem inf_115 : bInfo 115 = (yX12_again, cX12_again, 1, some .int) := rfl
theorem inf_116 : bInfo 116 = (yX11_isReach, cX11_isReach, 1, some .boolean) := rfl
theorem inf_117 : bInfo 117 = (yX11_within, cX11_within, 3, some .boolean) := rfl
theorem inf_118 : bInfo 118 = (yX6_forgetNights, cX6_forgetNights, 1, none) := rfl
theorem inf_119 : bInfo 119 = (yX11_isGate, cX11_isGate, 2, some .boolean) := rfl
theorem inf_120 : bInfo 120 = (yX11_isWay, cX11_isWay, 1, some .boolean) := rfl
theorem inf_121 : bInfo 121 = (yX11_isSheet, cX11_isSheet, 1, some .boolean) := rfl
theorem inf_122 : bInfo 122 = (yX3_refusesSort, cX3_refusesSort, 3, some .int) := rfl
theorem inf_123 : bInfo 123 = (yX3_isTable, cX3_isTable, 4, some .boolean) := rfl
theorem inf_124 : bInfo 124 = (yX11_isNight, cX11_isNight, 2, some .boolean) := rfl
theorem inf_125 : bInfo 125 = (yX11_isMinute, cX11_isMinute, 1, some .boolean) := rfl
theorem inf_126 : bInfo 126 = (yX5_pass, cX5_pass, 10, none) := rfl
theorem inf_127 : bInfo 127 = (yX5_depthNow, cX5_depthNow, 3, some .int) := rfl
theorem inf_128 : bInfo 128 = (yX11_isHouse, cX11_isHouse, 2, some .boolean) := rfl
theorem inf_129 : bInfo 129 = (yJ6_bitCount_0f7a4, cJ6_bitCount_0f7a4, 1, some .int) := rfl
theorem inf_130 : bInfo 130 = (yX5_fallen, cX5_fallen, 3, some .int) := rfl
theorem inf_131 : bInfo 131 = (yX8_addRow, cX8_addRow, 7, some .int) := rfl
theorem inf_132 : bInfo 132 = (yX11_isEngineer, cX11_isEngineer, 1, some .boolean) := rfl
theorem inf_133 : bInfo 133 = (yX11_isStart, cX11_isStart, 1, some .boolean) := rfl
theorem inf_134 : bInfo 134 = (yX6_forgetPossible, cX6_forgetPossible, 1, none) := rfl
theorem inf_135 : bInfo 135 = (yX11_isSeenRow, cX11_isSeenRow, 2, some .boolean) := rfl
theorem inf_136 : bInfo 136 = (yX8_setDoubted, cX8_setDoubted, 5, some .int) := rfl
theorem inf_137 : bInfo 137 = (yX6_allLet, cX6_allLet, 3, some .boolean) := rfl
theorem inf_138 : bInfo 138 = (yX6_weigh, cX6_weigh, 3, none) := rfl
theorem inf_139 : bInfo 139 = (yX6_countPossible, cX6_countPossible, 6, some .int) := rfl
theorem inf_140 : bInfo 140 = (yX6_lastStart, cX6_lastStart, 3, some .int) := rfl
theorem inf_141 : bInfo 141 = (yX6_firstStart, cX6_firstStart, 3, some .int) := rfl
theorem inf_142 : bInfo 142 = (yX8_speaking, cX8_speaking, 3, some .int) := rfl
theorem inf_143 : bInfo 143 = (yX6_countLet, cX6_countLet, 4, some .int) := rfl
theorem inf_144 : bInfo 144 = (yX6_gather, cX6_gather, 3, none) := rfl
theorem inf_145 : bInfo 145 = (yX6_fallsInEach, cX6_fallsInEach, 2, some .boolean) := rfl
theorem inf_146 : bInfo 146 = (yX6_fallsInSome, cX6_fallsInSome, 2, some .boolean) := rfl
theorem inf_147 : bInfo 147 = (yX11_isRide, cX11_isRide, 4, some .boolean) := rfl
theorem inf_148 : bInfo 148 = (yX6_toldInTime, cX6_toldInTime, 13, some .int) := rfl
theorem inf_149 : bInfo 149 = (yX6_toldForSure, cX6_toldForSure, 7, some .int) := rfl
theorem inf_150 : bInfo 150 = (yX11_isPerson, cX11_isPerson, 2, some .boolean) := rfl
theorem inf_151 : bInfo 151 = (yX2_namesThatStand, cX2_namesThatStand, 7, some .int) := rfl
theorem inf_152 : bInfo 152 = (yX2_namesNever, cX2_namesNever, 3, some .int) := rfl
theorem inf_153 : bInfo 153 = (yX11_isThing, cX11_isThing, 2, some .boolean) := rfl
theorem inf_154 : bInfo 154 = (yX6_restOf, cX6_restOf, 5, some .int) := rfl
theorem inf_155 : bInfo 155 = (yX6_canBe, cX6_canBe, 3, some .boolean) := rfl
theorem inf_156 : bInfo 156 = (yX7_append, cX7_append, 5, none) := rfl
theorem inf_157 : bInfo 157 = (yX7_parse, cX7_parse, 2, some .int) := rfl
theorem inf_158 : bInfo 158 = (yX1_isClaimed, cX1_isClaimed, 4, some .boolean) := rfl
theorem inf_159 : bInfo 159 = (yX1_addClaim, cX1_addClaim, 4, some .int) := rfl
theorem inf_160 : bInfo 160 = (yX11_isClaim, cX11_isClaim, 2, some .boolean) := rfl
theorem inf_161 : bInfo 161 = (yX1_addProof, cX1_addProof, 3, none) := rfl
theorem inf_162 : bInfo 162 = (yX1_proofsThatCount, cX1_proofsThatCount, 4, some .int) := rfl
theorem inf_163 : bInfo 163 = (yX11_isDay, cX11_isDay, 1, some .boolean) := rfl
theorem inf_164 : bInfo 164 = (yX4_takeFacts, cX4_takeFacts, 2, none) := rfl
theorem inf_165 : bInfo 165 = (yX0_versionOn, cX0_versionOn, 3, some .int) := rfl
theorem inf_166 : bInfo 166 = (yX4_isBarred, cX4_isBarred, 5, some .boolean) := rfl
theorem inf_167 : bInfo 167 = (yX4_owed, cX4_owed, 4, some .int) := rfl
theorem inf_168 : bInfo 168 = (yX4_rank, cX4_rank, 3, some .int) := rfl
theorem inf_169 : bInfo 169 = (yX4_isFound, cX4_isFound, 1, some .boolean) := rfl
theorem inf_170 : bInfo 170 = (yX4_firstLine, cX4_firstLine, 6, some .int) := rfl
theorem inf_171 : bInfo 171 = (yX4_housesOver, cX4_housesOver, 5, some .int) := rfl
theorem inf_172 : bInfo 172 = (yX4_thingsTwice, cX4_thingsTwice, 3, some .int) := rfl
theorem inf_173 : bInfo 173 = (yX4_payByRanks, cX4_payByRanks, 5, some .int) := rfl
theorem inf_174 : bInfo 174 = (yX1_payClaim, cX1_payClaim, 3, none) := rfl
theorem inf_175 : bInfo 175 = (yX4_findLikest, cX4_findLikest, 5, none) := rfl
theorem inf_176 : bInfo 176 = (yX9_plan, cX9_plan, 5, some .int) := rfl
theorem inf_177 : bInfo 177 = (yX9_firstWrongRow, cX9_firstWrongRow, 7, some .int) := rfl
theorem inf_178 : bInfo 178 = (yX11_isDebt, cX11_isDebt, 2, some .boolean) := rfl
theorem inf_179 : bInfo 179 = (yX11_yearsTillPaid, cX11_yearsTillPaid, 7, some .int) := rfl
theorem inf_180 : bInfo 180 = (yX3_makeSheet, cX3_makeSheet, 5, none) := rfl
theorem inf_181 : bInfo 181 = (yX11_narrowed, cX11_narrowed, 2, some .int) := rfl
theorem inf_182 : bInfo 182 = (yX11_isShelf, cX11_isShelf, 1, some .boolean) := rfl
theorem inf_183 : bInfo 183 = (yX3_putOnShelf, cX3_putOnShelf, 4, some .int) := rfl
theorem inf_184 : bInfo 184 = (yX3_putSheetOnShelf, cX3_putSheetOnShelf, 4, some .int) := rfl
theorem inf_185 : bInfo 185 = (yX3_takenForSort, cX3_takenForSort, 3, some .int) := rfl
theorem inf_186 : bInfo 186 = (yX3_takenForKind, cX3_takenForKind, 4, some .int) := rfl
theorem inf_187 : bInfo 187 = (yX3_dealWith, cX3_dealWith, 5, some .int) := rfl
theorem inf_188 : bInfo 188 = (yX8_countTorn, cX8_countTorn, 3, some .int) := rfl
theorem inf_189 : bInfo 189 = (yX1_countPaid, cX1_countPaid, 3, some .int) := rfl
theorem inf_190 : bInfo 190 = (yX10_copyFrom, cX10_copyFrom, 2, none) := rfl
theorem inf_191 : bInfo 191 = (yX8_copyFrom, cX8_copyFrom, 2, none) := rfl
theorem inf_192 : bInfo 192 = (yX2_copyFrom, cX2_copyFrom, 2, none) := rfl
theorem inf_193 : bInfo 193 = (yX0_copyFrom, cX0_copyFrom, 2, none) := rfl
theorem inf_194 : bInfo 194 = (yX1_copyFrom, cX1_copyFrom, 2, none) := rfl
theorem inf_195 : bInfo 195 = (yX10_copyFrom, cX10_copyFrom, 2, none) := rfl
theorem inf_196 : bInfo 196 = (yX8_copyFrom, cX8_copyFrom, 2, none) := rfl
theorem inf_197 : bInfo 197 = (yX2_copyFrom, cX2_copyFrom, 2, none) := rfl
theorem inf_198 : bInfo 198 = (yX0_copyFrom, cX0_copyFrom, 2, none) := rfl
theorem inf_199 : bInfo 199 = (yX1_copyFrom, cX1_copyFrom, 2, none) := rfl
theorem inf_200 : bInfo 200 = (yX12_isReach, cX12_isReach, 1, some .boolean) := rfl
theorem inf_201 : bInfo 201 = (yX12_in, cX12_in, 3, some .boolean) := rfl
theorem inf_202 : bInfo 202 = (yX12_isGate, cX12_isGate, 2, some .boolean) := rfl
theorem inf_203 : bInfo 203 = (yX12_isSheet, cX12_isSheet, 1, some .boolean) := rfl
theorem inf_204 : bInfo 204 = (yX12_isNight, cX12_isNight, 2, some .boolean) := rfl
theorem inf_205 : bInfo 205 = (yX12_isMinute, cX12_isMinute, 1, some .boolean) := rfl
theorem inf_206 : bInfo 206 = (yX12_nightAsIs, cX12_nightAsIs, 3, none) := rfl
theorem inf_207 : bInfo 207 = (yX12_isOf, cX12_isOf, 3, some .boolean) := rfl
theorem inf_208 : bInfo 208 = (yX12_fallMany, cX12_fallMany, 3, some .int) := rfl
theorem inf_209 : bInfo 209 = (yX12_night, cX12_night, 10, none) := rfl
theorem inf_210 : bInfo 210 = (yX12_seen, cX12_seen, 8, some .int) := rfl
theorem inf_211 : bInfo 211 = (yX12_doesLet, cX12_doesLet, 5, some .boolean) := rfl
theorem inf_212 : bInfo 212 = (yX12_survey, cX12_survey, 5, none) := rfl
theorem inf_213 : bInfo 213 = (yX12_surelyFalls, cX12_surelyFalls, 2, some .boolean) := rfl
theorem inf_214 : bInfo 214 = (yX12_isRide, cX12_isRide, 4, some .boolean) := rfl
theorem inf_215 : bInfo 215 = (yX12_firstDeep, cX12_firstDeep, 4, some .int) := rfl
theorem inf_216 : bInfo 216 = (yX12_ride, cX12_ride, 7, none) := rfl
theorem inf_217 : bInfo 217 = (yX12_inTime, cX12_inTime, 4, some .int) := rfl
theorem inf_218 : bInfo 218 = (yX12_nevers, cX12_nevers, 5, some .int) := rfl
theorem inf_219 : bInfo 219 = (yX12_standing, cX12_standing, 4, some .int) := rfl
theorem inf_220 : bInfo 220 = (yX12_liesAt, cX12_liesAt, 4, some .int) := rfl
theorem inf_221 : bInfo 221 = (yX12_next, cX12_next, 2, none) := rfl
theorem inf_222 : bInfo 222 = (yX12_line, cX12_line, 3, none) := rfl
theorem inf_223 : bInfo 223 = (yX12_proofsOf, cX12_proofsOf, 4, some .int) := rfl
theorem inf_224 : bInfo 224 = (yX12_isDay, cX12_isDay, 1, some .boolean) := rfl
theorem inf_225 : bInfo 225 = (yX12_isBarred, cX12_isBarred, 3, some .boolean) := rfl
theorem inf_226 : bInfo 226 = (yX12_owed, cX12_owed, 4, some .int) := rfl
theorem inf_227 : bInfo 227 = (yX12_rankOf, cX12_rankOf, 4, some .int) := rfl
theorem inf_228 : bInfo 228 = (yX12_isFound, cX12_isFound, 4, some .boolean) := rfl
theorem inf_229 : bInfo 229 = (yX12_lineFor, cX12_lineFor, 6, some .int) := rfl
theorem inf_230 : bInfo 230 = (yX12_claimants, cX12_claimants, 4, some .int) := rfl
theorem inf_231 : bInfo 231 = (yX12_lesser, cX12_lesser, 2, some .int) := rfl
theorem inf_232 : bInfo 232 = (yX12_areUnlike, cX12_areUnlike, 3, some .boolean) := rfl
theorem inf_233 : bInfo 233 = (yX12_differs, cX12_differs, 5, some .int) := rfl
theorem inf_234 : bInfo 234 = (yX12_ones, cX12_ones, 3, some .int) := rfl
theorem inf_235 : bInfo 235 = (yX12_hears, cX12_hears, 8, none) := rfl
theorem inf_236 : bInfo 236 = (yX12_reachOf, cX12_reachOf, 2, some .int) := rfl
theorem inf_237 : bInfo 237 = (yX12_off, cX12_off, 2, some .int) := rfl
theorem inf_238 : bInfo 238 = (yX12_isCell, cX12_isCell, 3, some .boolean) := rfl
theorem inf_239 : bInfo 239 = (yX12_isDebt, cX12_isDebt, 2, some .boolean) := rfl
theorem inf_240 : bInfo 240 = (yX12_yearsFor, cX12_yearsFor, 5, some .int) := rfl
theorem inf_241 : bInfo 241 = (yX12_narrowed, cX12_narrowed, 2, some .long) := rfl
theorem inf_242 : bInfo 242 = (yX12_kindOn, cX12_kindOn, 3, some .int) := rfl
theorem inf_243 : bInfo 243 = (yX12_isUnder, cX12_isUnder, 2, some .boolean) := rfl
theorem inf_244 : bInfo 244 = (yX12_dealFits, cX12_dealFits, 2, some .int) := rfl
theorem inf_245 : bInfo 245 = (yX12_dealPays, cX12_dealPays, 2, some .int) := rfl
theorem inf_246 : bInfo 246 = (yX12_dealHangs, cX12_dealHangs, 3, some .int) := rfl
theorem inf_247 : bInfo 247 = (yX12_dealTells, cX12_dealTells, 2, some .int) := rfl
theorem inf_248 : bInfo 248 = (yX12_copiesAll, cX12_copiesAll, 2, none) := rfl
theorem inf_249 : bInfo 249 = (yX5_begin, cX5_begin, 2, none) := rfl
theorem inf_250 : bInfo 250 = (yX5_comesOut, cX5_comesOut, 4, some .int) := rfl
theorem inf_251 : bInfo 251 = (yX5_flow, cX5_flow, 6, some .int) := rfl
theorem inf_252 : bInfo 252 = (yX5_carry, cX5_carry, 3, none) := rfl
theorem inf_253 : bInfo 253 = (yX5_rise, cX5_rise, 3, none) := rfl
theorem inf_254 : bInfo 254 = (yX5_launch, cX5_launch, 2, none) := rfl
theorem inf_255 : bInfo 255 = (yX5_noMoreComes, cX5_noMoreComes, 4, some .boolean) := rfl
theorem inf_256 : bInfo 256 = (yX8_wordsAgainst, cX8_wordsAgainst, 5, some .int) := rfl
theorem inf_257 : bInfo 257 = (yX6_know, cX6_know, 2, none) := rfl
theorem inf_258 : bInfo 258 = (yX8_isDoubtedWord, cX8_isDoubtedWord, 2, some .boolean) := rfl
theorem inf_259 : bInfo 259 = (yJ7_fill_53178, cJ7_fill_53178, 4, none) := rfl
theorem inf_260 : bInfo 260 = (yX6_gatherThings, cX6_gatherThings, 3, none) := rfl
theorem inf_261 : bInfo 261 = (yX2_firstFit, cX2_firstFit, 4, some .int) := rfl
theorem inf_262 : bInfo 262 = (yX7_advance, cX7_advance, 1, none) := rfl
theorem inf_263 : bInfo 263 = (yX7_parseLine, cX7_parseLine, 6, some .boolean) := rfl
theorem inf_264 : bInfo 264 = (yX4_fillFacts, cX4_fillFacts, 6, none) := rfl
theorem inf_265 : bInfo 265 = (yX4_lastNumber, cX4_lastNumber, 5, some .int) := rfl
theorem inf_266 : bInfo 266 = (yX0_linesOf, cX0_linesOf, 2, some .int) := rfl
theorem inf_267 : bInfo 267 = (yX4_holds, cX4_holds, 8, some .boolean) := rfl
theorem inf_268 : bInfo 268 = (yX4_claimants, cX4_claimants, 4, some .int) := rfl
theorem inf_269 : bInfo 269 = (yX4_areUnlike, cX4_areUnlike, 5, some .boolean) := rfl
theorem inf_270 : bInfo 270 = (yX4_countDifferent, cX4_countDifferent, 4, some .int) := rfl
theorem inf_271 : bInfo 271 = (yX9_takeMembers, cX9_takeMembers, 3, none) := rfl
theorem inf_272 : bInfo 272 = (yX9_leastCost, cX9_leastCost, 9, some .int) := rfl
theorem inf_273 : bInfo 273 = (yX9_writeRows, cX9_writeRows, 7, none) := rfl
theorem inf_274 : bInfo 274 = (yX3_kindOn, cX3_kindOn, 3, some .int) := rfl
theorem inf_275 : bInfo 275 = (yX3_isUnder, cX3_isUnder, 4, some .boolean) := rfl
theorem inf_276 : bInfo 276 = (yX3_run, cX3_run, 9, some .int) := rfl
theorem inf_277 : bInfo 277 = (yX12_deepest, cX12_deepest, 4, some .int) := rfl
theorem inf_278 : bInfo 278 = (yX12_isActive, cX12_isActive, 2, some .boolean) := rfl
theorem inf_279 : bInfo 279 = (yX12_counts, cX12_counts, 5, none) := rfl
theorem inf_280 : bInfo 280 = (yX12_fits, cX12_fits, 3, some .boolean) := rfl
theorem inf_281 : bInfo 281 = (yX12_stands, cX12_stands, 4, some .boolean) := rfl
theorem inf_282 : bInfo 282 = (yX12_byteAt, cX12_byteAt, 2, some .int) := rfl
theorem inf_283 : bInfo 283 = (yX12_fails, cX12_fails, 1, none) := rfl
theorem inf_284 : bInfo 284 = (yX12_may, cX12_may, 4, some .boolean) := rfl
theorem inf_285 : bInfo 285 = (yX12_number, cX12_number, 3, some .int) := rfl
theorem inf_286 : bInfo 286 = (yX12_must, cX12_must, 3, none) := rfl
theorem inf_287 : bInfo 287 = (yX12_any, cX12_any, 1, none) := rfl
theorem inf_288 : bInfo 288 = (yX12_mustSign, cX12_mustSign, 2, none) := rfl
theorem inf_289 : bInfo 289 = (yX12_latest, cX12_latest, 7, some .int) := rfl
theorem inf_290 : bInfo 290 = (yX12_actOf, cX12_actOf, 4, some .int) := rfl
theorem inf_291 : bInfo 291 = (yX12_holds, cX12_holds, 10, some .boolean) := rfl
theorem inf_292 : bInfo 292 = (yX12_fact, cX12_fact, 4, some .int) := rfl
theorem inf_293 : bInfo 293 = (yX12_houseOf, cX12_houseOf, 2, some .int) := rfl
theorem inf_294 : bInfo 294 = (yX12_greater, cX12_greater, 2, some .int) := rfl
theorem inf_295 : bInfo 295 = (yX12_ran, cX12_ran, 2, none) := rfl
theorem inf_296 : bInfo 296 = (yX12_plainFits, cX12_plainFits, 2, some .int) := rfl
theorem inf_297 : bInfo 297 = (yX12_wordPays, cX12_wordPays, 2, some .int) := rfl
theorem inf_298 : bInfo 298 = (yX12_plainPays, cX12_plainPays, 2, some .int) := rfl
theorem inf_299 : bInfo 299 = (yX12_plainHangs, cX12_plainHangs, 2, some .int) := rfl
theorem inf_300 : bInfo 300 = (yX12_claimHangs, cX12_claimHangs, 2, some .int) := rfl
theorem inf_301 : bInfo 301 = (yX12_plainTells, cX12_plainTells, 2, some .int) := rfl
theorem inf_302 : bInfo 302 = (yX12_copies, cX12_copies, 5, none) := rfl
theorem inf_303 : bInfo 303 = (yX5_tableNumber, cX5_tableNumber, 3, some .int) := rfl
theorem inf_304 : bInfo 304 = (yX5_breakHouses, cX5_breakHouses, 4, none) := rfl
theorem inf_305 : bInfo 305 = (yX5_stopClocks, cX5_stopClocks, 4, none) := rfl
theorem inf_306 : bInfo 306 = (yX6_clocksAndMarksAgainst, cX6_clocksAndMarksAgainst, 5, some .int) := rfl
theorem inf_307 : bInfo 307 = (yX2_isFit, cX2_isFit, 3, some .boolean) := rfl
theorem inf_308 : bInfo 308 = (yX7_isLetter, cX7_isLetter, 1, some .boolean) := rfl
theorem inf_309 : bInfo 309 = (yX7_wordNumber, cX7_wordNumber, 6, some .int) := rfl
theorem inf_310 : bInfo 310 = (yX7_isDigit, cX7_isDigit, 1, some .boolean) := rfl
theorem inf_311 : bInfo 311 = (yX7_numberValue, cX7_numberValue, 3, some .int) := rfl
theorem inf_312 : bInfo 312 = (yX7_mostOf, cX7_mostOf, 1, some .int) := rfl
theorem inf_313 : bInfo 313 = (yX7_isNumber, cX7_isNumber, 2, some .boolean) := rfl
theorem inf_314 : bInfo 314 = (yX7_parseCond, cX7_parseCond, 4, some .boolean) := rfl
theorem inf_315 : bInfo 315 = (yX4_hasFind, cX4_hasFind, 3, some .boolean) := rfl
theorem inf_316 : bInfo 316 = (yX4_compares, cX4_compares, 5, some .boolean) := rfl
theorem inf_317 : bInfo 317 = (yX9_waiting, cX9_waiting, 4, some .int) := rfl
theorem inf_318 : bInfo 318 = (yX9_costVia, cX9_costVia, 5, some .int) := rfl
theorem inf_319 : bInfo 319 = (yX9_bestNext, cX9_bestNext, 8, some .int) := rfl
theorem inf_320 : bInfo 320 = (yX3_note, cX3_note, 2, none) := rfl
theorem inf_321 : bInfo 321 = (yX3_parted, cX3_parted, 2, some .int) := rfl
theorem inf_322 : bInfo 322 = (yX12_all, cX12_all, 1, none) := rfl
theorem inf_323 : bInfo 323 = (yX12_does, cX12_does, 5, none) := rfl
theorem inf_324 : bInfo 324 = (yX12_isSign, cX12_isSign, 2, some .boolean) := rfl
theorem inf_325 : bInfo 325 = (yX12_isSo, cX12_isSo, 4, some .boolean) := rfl
theorem inf_326 : bInfo 326 = (yJ0_length_8abf5, cJ0_length_8abf5, 1, some .int) := rfl
theorem inf_327 : bInfo 327 = (yJ0_charAt_5068e, cJ0_charAt_5068e, 2, some .char) := rfl
theorem inf_328 : bInfo 328 = (yX7_parseOne, cX7_parseOne, 4, some .boolean) := rfl
theorem inf_329 : bInfo 329 = (yX7_emit, cX7_emit, 2, none) := rfl
theorem inf_330 : bInfo 330 = (yX12_one, cX12_one, 4, none) := rfl
theorem inf_331 : bInfo 331 = (yX7_parseCompare, cX7_parseCompare, 3, some .boolean) := rfl
theorem inf_332 : bInfo 332 = (yX12_factHere, cX12_factHere, 1, some .int) := rfl
