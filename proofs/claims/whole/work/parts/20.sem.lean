/-! ===== what a call means, to a depth ===== -/
abbrev bBd : Type := Nat → bCl → List bV → bM → Option (bM × Int)
def bN : bBd := fun _ _ _ _ => none
def bD {κ : bK} (b : ES κ) : bBd := fun _ cal av m => if (bls av).length ≤ κ.2.2.1 then bRun b cal av m else none
def bTL : bBd := fun n _ av m => if 5 ≤ n ∧ av = [aR 1002] then some (m, 83) else none
def tav (av : List bV) : Option Int := match av with
  | [.inr (.inr 1002), .inl z] => if 0 ≤ z ∧ z < 83 then some z else none
  | _ => none
def bTC : bBd := fun n _ av m => if 5 ≤ n then (tav av).map fun z => (m, tB z) else none
def bBd0 : List bBd := [bD B_V_reach, bD B_V_pond, bD B_V_gate, bD B_V_table, bD B_V_house, bD B_V_depth, bD B_V_falls, bD B_V_sooner, bD B_V_clock, bD B_V_mark, bD B_V_word, bD B_V_tear, bD B_V_side, bD B_V_doubt, bD B_V_lets, bD B_V_possible, bD B_V_span, bD B_V_hangs, bD B_V_sure, bD B_V_could]
def bBd1 : List bBd := [bD B_V_told, bD B_V_person, bD B_V_safe, bD B_V_name, bD B_V_list, bD B_V_thing, bD B_V_lies, bD B_V_find, bD B_V_whose, bD B_V_days, bD B_V_feed, bD B_V_read, bD B_V_claim, bD B_V_proof, bD B_V_claimOf, bD B_V_why, bD B_V_odd, bD B_V_fund, bD B_V_pay, bD B_V_offer]
def bBd2 : List bBd := [bD B_V_likest, bD B_V_round, bD B_V_row, bD B_V_alterRow, bD B_V_dropRow, bD B_V_judge, bD B_V_years, bD B_V_rate, bD B_V_sheet, bD B_V_put, bD B_V_item, bD B_V_shelf, bD B_V_taken, bD B_V_deal, bD B_V_trace, bD B_V_many, bD B_V_keep, bD B_V_again, bD B_M_reach, bD B_M_pond]
def bBd3 : List bBd := [bD B_M_gate, bD B_M_table, bD B_M_house, bD B_M_depth, bD B_M_falls, bD B_M_sooner, bD B_M_clock, bD B_M_mark, bD B_M_word, bD B_M_tear, bD B_M_side, bD B_M_doubt, bD B_M_lets, bD B_M_possible, bD B_M_span, bD B_M_hangs, bD B_M_sure, bD B_M_could, bD B_M_told, bD B_M_person]
def bBd4 : List bBd := [bD B_M_safe, bD B_M_name, bD B_M_list, bD B_M_thing, bD B_M_lies, bD B_M_find, bD B_M_whose, bD B_M_days, bD B_M_feed, bD B_M_read, bD B_M_claim, bD B_M_proof, bD B_M_claimOf, bD B_M_why, bD B_M_odd, bD B_M_fund, bD B_M_pay, bD B_M_offer, bD B_M_likest, bD B_M_round]
def bBd5 : List bBd := [bD B_M_row, bD B_M_alterRow, bD B_M_dropRow, bD B_M_judge, bD B_M_years, bD B_M_rate, bD B_M_sheet, bD B_M_put, bD B_M_item, bD B_M_shelf, bD B_M_taken, bD B_M_deal, bD B_M_trace, bD B_M_many, bD B_M_keep, bD B_M_again, bD B_V_isReach, bD B_V_within, bD B_Nights_forgetNights, bD B_V_isGate]
def bBd6 : List bBd := [bD B_V_isWay, bD B_V_isSheet, bD B_Host_refusesSort, bD B_Host_isTable, bD B_V_isNight, bD B_V_isMinute, bD B_Night_pass, bD B_Night_depthNow, bD B_V_isHouse, bD B_bitCount, bD B_Night_fallen, bD B_Seen_addRow, bD B_V_isEngineer, bD B_V_isStart, bD B_Nights_forgetPossible, bD B_V_isSeenRow, bD B_Seen_setDoubted, bD B_Nights_allLet, bD B_Nights_weigh, bD B_Nights_countPossible]
def bBd7 : List bBd := [bD B_Nights_lastStart, bD B_Nights_firstStart, bD B_Seen_speaking, bD B_Nights_countLet, bD B_Nights_gather, bD B_Nights_fallsInEach, bD B_Nights_fallsInSome, bD B_V_isRide, bD B_Nights_toldInTime, bD B_Nights_toldForSure, bD B_V_isPerson, bD B_Folk_namesThatStand, bD B_Folk_namesNever, bD B_V_isThing, bD B_Nights_restOf, bD B_Nights_canBe, bD B_Reader_append, bD B_Reader_parse, bD B_Claims_isClaimed, bD B_Claims_addClaim]
def bBd8 : List bBd := [bD B_V_isClaim, bD B_Claims_addProof, bD B_Claims_proofsThatCount, bD B_V_isDay, bD B_Law_takeFacts, bD B_Act_versionOn, bD B_Law_isBarred, bD B_Law_owed, bD B_Law_rank, bD B_Law_isFound, bD B_Law_firstLine, bD B_Law_housesOver, bD B_Law_thingsTwice, bD B_Law_payByRanks, bD B_Claims_payClaim, bD B_Law_findLikest, bD B_Tour_plan, bD B_Tour_firstWrongRow, bD B_V_isDebt, bD B_V_yearsTillPaid]
def bBd9 : List bBd := [bD B_Host_makeSheet, bD B_V_narrowed, bD B_V_isShelf, bD B_Host_putOnShelf, bD B_Host_putSheetOnShelf, bD B_Host_takenForSort, bD B_Host_takenForKind, bD B_Host_dealWith, bD B_Seen_countTorn, bD B_Claims_countPaid, bD B_Valley_copyFrom, bD B_Seen_copyFrom, bD B_Folk_copyFrom, bD B_Act_copyFrom, bD B_Claims_copyFrom, bD B_Valley_copyFrom2, bD B_Seen_copyFrom2, bD B_Folk_copyFrom2, bD B_Act_copyFrom2, bD B_Claims_copyFrom2]
def bBd10 : List bBd := [bD B_M_isReach, bD B_M_in, bD B_M_isGate, bD B_M_isSheet, bD B_M_isNight, bD B_M_isMinute, bD B_M_nightAsIs, bD B_M_isOf, bD B_M_fallMany, bD B_M_night, bD B_M_seen, bD B_M_doesLet, bD B_M_survey, bD B_M_surelyFalls, bD B_M_isRide, bD B_M_firstDeep, bD B_M_ride, bD B_M_inTime, bD B_M_nevers, bD B_M_standing]
def bBd11 : List bBd := [bD B_M_liesAt, bD B_M_next, bD B_M_line, bD B_M_proofsOf, bD B_M_isDay, bD B_M_isBarred, bD B_M_owed, bD B_M_rankOf, bD B_M_isFound, bD B_M_lineFor, bD B_M_claimants, bD B_M_lesser, bD B_M_areUnlike, bD B_M_differs, bD B_M_ones, bD B_M_hears, bD B_M_reachOf, bD B_M_off, bD B_M_isCell, bD B_M_isDebt]
def bBd12 : List bBd := [bD B_M_yearsFor, bD B_M_narrowed, bD B_M_kindOn, bD B_M_isUnder, bD B_M_dealFits, bD B_M_dealPays, bD B_M_dealHangs, bD B_M_dealTells, bD B_M_copiesAll, bD B_Night_begin, bD B_Night_comesOut, bD B_Night_flow, bD B_Night_carry, bD B_Night_rise, bD B_Night_launch, bD B_Night_noMoreComes, bD B_Seen_wordsAgainst, bD B_Nights_know, bD B_Seen_isDoubtedWord, bD B_fill]
def bBd13 : List bBd := [bD B_Nights_gatherThings, bD B_Folk_firstFit, bD B_Reader_advance, bD B_Reader_parseLine, bD B_Law_fillFacts, bD B_Law_lastNumber, bD B_Act_linesOf, bD B_Law_holds, bD B_Law_claimants, bD B_Law_areUnlike, bD B_Law_countDifferent, bD B_Tour_takeMembers, bD B_Tour_leastCost, bD B_Tour_writeRows, bD B_Host_kindOn, bD B_Host_isUnder, bD B_Host_run, bD B_M_deepest, bD B_M_isActive, bD B_M_counts]
def bBd14 : List bBd := [bD B_M_fits, bD B_M_stands, bD B_M_byteAt, bD B_M_fails, bD B_M_may, bD B_M_number, bD B_M_must, bD B_M_any, bD B_M_mustSign, bD B_M_latest, bD B_M_actOf, bD B_M_holds, bD B_M_fact, bD B_M_houseOf, bD B_M_greater, bD B_M_ran, bD B_M_plainFits, bD B_M_wordPays, bD B_M_plainPays, bD B_M_plainHangs]
def bBd15 : List bBd := [bD B_M_claimHangs, bD B_M_plainTells, bD B_M_copies, bD B_Night_tableNumber, bD B_Night_breakHouses, bD B_Night_stopClocks, bD B_Nights_clocksAndMarksAgainst, bD B_Folk_isFit, bD B_Reader_isLetter, bD B_Reader_wordNumber, bD B_Reader_isDigit, bD B_Reader_numberValue, bD B_Reader_mostOf, bD B_Reader_isNumber, bD B_Reader_parseCond, bD B_Law_hasFind, bD B_Law_compares, bD B_Tour_waiting, bD B_Tour_costVia, bD B_Tour_bestNext]
def bBd16 : List bBd := [bD B_Host_note, bD B_Host_parted, bD B_M_all, bD B_M_does, bD B_M_isSign, bD B_M_isSo, bTL, bTC, bD B_Reader_parseOne, bD B_Reader_emit, bD B_M_one, bD B_Reader_parseCompare, bD B_M_factHere]
def bBdL : List (List bBd) := [bBd0, bBd1, bBd2, bBd3, bBd4, bBd5, bBd6, bBd7, bBd8, bBd9, bBd10, bBd11, bBd12, bBd13, bBd14, bBd15, bBd16]
def bBody (f : Nat) : bBd := (bBdL.getD (f / 20) []).getD (f % 20) bN
def sem : Nat → bCl
  | 0 => fun _ _ _ => none
  | n + 1 => fun f av m => bBody f n (sem n) av m
def bOK (f : Nat) : Prop := ∀ (d : Nat) (cal : bCl) (av : List bV) (m : bM) (r : bM × Int), (∀ f av m r, cal f av m = some r → ∃ d', (d' + 1 ≤ d ∧ (bInfo f).2.2.1 ≤ 29) ∧ bCal bSY (bInfo f).1 (bInfo f).2.1 (bInfo f).2.2.1 (bInfo f).2.2.2 d' av m r) → bBody f d cal av m = some r → bCal bSY (bInfo f).1 (bInfo f).2.1 (bInfo f).2.2.1 (bInfo f).2.2.2 d av m r
theorem bOK_of {f nL : Nat} {own : String} {cc : ByteArray} {ret : Option FieldType} {y : MethodName} (b : ES (own, cc, nL, ret, fun _ _ _ => True)) (hi : bInfo f = (y, cc, nL, ret)) (hb : bBody f = bD b) (hy : plainName y.cls = true) (ho : own = y.cls) (hc : b.1.1 0 0 0 = some none) : bOK f := by
  intro d cal av m r hO h
  rw [hi]
  rw [hb] at h
  unfold bD at h
  obtain ⟨h1, h2⟩ := gd_of h
  exact bRun_of b y d rfl hy ho hc h1 hO h2
theorem bo_0 : bBody 0 = bD B_V_reach := rfl
theorem ok_0 : bOK 0 := bOK_of B_V_reach inf_0 bo_0 (by decide) rfl ck_V_reach
theorem bo_1 : bBody 1 = bD B_V_pond := rfl
theorem ok_1 : bOK 1 := bOK_of B_V_pond inf_1 bo_1 (by decide) rfl ck_V_pond
theorem bo_2 : bBody 2 = bD B_V_gate := rfl
theorem ok_2 : bOK 2 := bOK_of B_V_gate inf_2 bo_2 (by decide) rfl ck_V_gate
theorem bo_3 : bBody 3 = bD B_V_table := rfl
theorem ok_3 : bOK 3 := bOK_of B_V_table inf_3 bo_3 (by decide) rfl ck_V_table
theorem bo_4 : bBody 4 = bD B_V_house := rfl
theorem ok_4 : bOK 4 := bOK_of B_V_house inf_4 bo_4 (by decide) rfl ck_V_house
theorem bo_5 : bBody 5 = bD B_V_depth := rfl
theorem ok_5 : bOK 5 := bOK_of B_V_depth inf_5 bo_5 (by decide) rfl ck_V_depth
theorem bo_6 : bBody 6 = bD B_V_falls := rfl
theorem ok_6 : bOK 6 := bOK_of B_V_falls inf_6 bo_6 (by decide) rfl ck_V_falls
theorem bo_7 : bBody 7 = bD B_V_sooner := rfl
theorem ok_7 : bOK 7 := bOK_of B_V_sooner inf_7 bo_7 (by decide) rfl ck_V_sooner
theorem bo_8 : bBody 8 = bD B_V_clock := rfl
theorem ok_8 : bOK 8 := bOK_of B_V_clock inf_8 bo_8 (by decide) rfl ck_V_clock
theorem bo_9 : bBody 9 = bD B_V_mark := rfl
theorem ok_9 : bOK 9 := bOK_of B_V_mark inf_9 bo_9 (by decide) rfl ck_V_mark
theorem bo_10 : bBody 10 = bD B_V_word := rfl
theorem ok_10 : bOK 10 := bOK_of B_V_word inf_10 bo_10 (by decide) rfl ck_V_word
theorem bo_11 : bBody 11 = bD B_V_tear := rfl
theorem ok_11 : bOK 11 := bOK_of B_V_tear inf_11 bo_11 (by decide) rfl ck_V_tear
theorem bo_12 : bBody 12 = bD B_V_side := rfl
theorem ok_12 : bOK 12 := bOK_of B_V_side inf_12 bo_12 (by decide) rfl ck_V_side
theorem bo_13 : bBody 13 = bD B_V_doubt := rfl
theorem ok_13 : bOK 13 := bOK_of B_V_doubt inf_13 bo_13 (by decide) rfl ck_V_doubt
theorem bo_14 : bBody 14 = bD B_V_lets := rfl
theorem ok_14 : bOK 14 := bOK_of B_V_lets inf_14 bo_14 (by decide) rfl ck_V_lets
theorem bo_15 : bBody 15 = bD B_V_possible := rfl
theorem ok_15 : bOK 15 := bOK_of B_V_possible inf_15 bo_15 (by decide) rfl ck_V_possible
theorem bo_16 : bBody 16 = bD B_V_span := rfl
theorem ok_16 : bOK 16 := bOK_of B_V_span inf_16 bo_16 (by decide) rfl ck_V_span
theorem bo_17 : bBody 17 = bD B_V_hangs := rfl
theorem ok_17 : bOK 17 := bOK_of B_V_hangs inf_17 bo_17 (by decide) rfl ck_V_hangs
theorem bo_18 : bBody 18 = bD B_V_sure := rfl
theorem ok_18 : bOK 18 := bOK_of B_V_sure inf_18 bo_18 (by decide) rfl ck_V_sure
theorem bo_19 : bBody 19 = bD B_V_could := rfl
theorem ok_19 : bOK 19 := bOK_of B_V_could inf_19 bo_19 (by decide) rfl ck_V_could
theorem bo_20 : bBody 20 = bD B_V_told := rfl
theorem ok_20 : bOK 20 := bOK_of B_V_told inf_20 bo_20 (by decide) rfl ck_V_told
theorem bo_21 : bBody 21 = bD B_V_person := rfl
theorem ok_21 : bOK 21 := bOK_of B_V_person inf_21 bo_21 (by decide) rfl ck_V_person
theorem bo_22 : bBody 22 = bD B_V_safe := rfl
theorem ok_22 : bOK 22 := bOK_of B_V_safe inf_22 bo_22 (by decide) rfl ck_V_safe
theorem bo_23 : bBody 23 = bD B_V_name := rfl
theorem ok_23 : bOK 23 := bOK_of B_V_name inf_23 bo_23 (by decide) rfl ck_V_name
theorem bo_24 : bBody 24 = bD B_V_list := rfl
theorem ok_24 : bOK 24 := bOK_of B_V_list inf_24 bo_24 (by decide) rfl ck_V_list
theorem bo_25 : bBody 25 = bD B_V_thing := rfl
theorem ok_25 : bOK 25 := bOK_of B_V_thing inf_25 bo_25 (by decide) rfl ck_V_thing
theorem bo_26 : bBody 26 = bD B_V_lies := rfl
theorem ok_26 : bOK 26 := bOK_of B_V_lies inf_26 bo_26 (by decide) rfl ck_V_lies
theorem bo_27 : bBody 27 = bD B_V_find := rfl
theorem ok_27 : bOK 27 := bOK_of B_V_find inf_27 bo_27 (by decide) rfl ck_V_find
theorem bo_28 : bBody 28 = bD B_V_whose := rfl
theorem ok_28 : bOK 28 := bOK_of B_V_whose inf_28 bo_28 (by decide) rfl ck_V_whose
theorem bo_29 : bBody 29 = bD B_V_days := rfl
theorem ok_29 : bOK 29 := bOK_of B_V_days inf_29 bo_29 (by decide) rfl ck_V_days
theorem bo_30 : bBody 30 = bD B_V_feed := rfl
theorem ok_30 : bOK 30 := bOK_of B_V_feed inf_30 bo_30 (by decide) rfl ck_V_feed
theorem bo_31 : bBody 31 = bD B_V_read := rfl
theorem ok_31 : bOK 31 := bOK_of B_V_read inf_31 bo_31 (by decide) rfl ck_V_read
theorem bo_32 : bBody 32 = bD B_V_claim := rfl
theorem ok_32 : bOK 32 := bOK_of B_V_claim inf_32 bo_32 (by decide) rfl ck_V_claim
theorem bo_33 : bBody 33 = bD B_V_proof := rfl
theorem ok_33 : bOK 33 := bOK_of B_V_proof inf_33 bo_33 (by decide) rfl ck_V_proof
theorem bo_34 : bBody 34 = bD B_V_claimOf := rfl
theorem ok_34 : bOK 34 := bOK_of B_V_claimOf inf_34 bo_34 (by decide) rfl ck_V_claimOf
theorem bo_35 : bBody 35 = bD B_V_why := rfl
theorem ok_35 : bOK 35 := bOK_of B_V_why inf_35 bo_35 (by decide) rfl ck_V_why
theorem bo_36 : bBody 36 = bD B_V_odd := rfl
theorem ok_36 : bOK 36 := bOK_of B_V_odd inf_36 bo_36 (by decide) rfl ck_V_odd
theorem bo_37 : bBody 37 = bD B_V_fund := rfl
theorem ok_37 : bOK 37 := bOK_of B_V_fund inf_37 bo_37 (by decide) rfl ck_V_fund
theorem bo_38 : bBody 38 = bD B_V_pay := rfl
theorem ok_38 : bOK 38 := bOK_of B_V_pay inf_38 bo_38 (by decide) rfl ck_V_pay
theorem bo_39 : bBody 39 = bD B_V_offer := rfl
theorem ok_39 : bOK 39 := bOK_of B_V_offer inf_39 bo_39 (by decide) rfl ck_V_offer
theorem bo_40 : bBody 40 = bD B_V_likest := rfl
theorem ok_40 : bOK 40 := bOK_of B_V_likest inf_40 bo_40 (by decide) rfl ck_V_likest
theorem bo_41 : bBody 41 = bD B_V_round := rfl
theorem ok_41 : bOK 41 := bOK_of B_V_round inf_41 bo_41 (by decide) rfl ck_V_round
theorem bo_42 : bBody 42 = bD B_V_row := rfl
theorem ok_42 : bOK 42 := bOK_of B_V_row inf_42 bo_42 (by decide) rfl ck_V_row
theorem bo_43 : bBody 43 = bD B_V_alterRow := rfl
theorem ok_43 : bOK 43 := bOK_of B_V_alterRow inf_43 bo_43 (by decide) rfl ck_V_alterRow
theorem bo_44 : bBody 44 = bD B_V_dropRow := rfl
theorem ok_44 : bOK 44 := bOK_of B_V_dropRow inf_44 bo_44 (by decide) rfl ck_V_dropRow
theorem bo_45 : bBody 45 = bD B_V_judge := rfl
theorem ok_45 : bOK 45 := bOK_of B_V_judge inf_45 bo_45 (by decide) rfl ck_V_judge
theorem bo_46 : bBody 46 = bD B_V_years := rfl
theorem ok_46 : bOK 46 := bOK_of B_V_years inf_46 bo_46 (by decide) rfl ck_V_years
theorem bo_47 : bBody 47 = bD B_V_rate := rfl
theorem ok_47 : bOK 47 := bOK_of B_V_rate inf_47 bo_47 (by decide) rfl ck_V_rate
theorem bo_48 : bBody 48 = bD B_V_sheet := rfl
theorem ok_48 : bOK 48 := bOK_of B_V_sheet inf_48 bo_48 (by decide) rfl ck_V_sheet
theorem bo_49 : bBody 49 = bD B_V_put := rfl
theorem ok_49 : bOK 49 := bOK_of B_V_put inf_49 bo_49 (by decide) rfl ck_V_put
theorem bo_50 : bBody 50 = bD B_V_item := rfl
theorem ok_50 : bOK 50 := bOK_of B_V_item inf_50 bo_50 (by decide) rfl ck_V_item
theorem bo_51 : bBody 51 = bD B_V_shelf := rfl
theorem ok_51 : bOK 51 := bOK_of B_V_shelf inf_51 bo_51 (by decide) rfl ck_V_shelf
theorem bo_52 : bBody 52 = bD B_V_taken := rfl
theorem ok_52 : bOK 52 := bOK_of B_V_taken inf_52 bo_52 (by decide) rfl ck_V_taken
theorem bo_53 : bBody 53 = bD B_V_deal := rfl
theorem ok_53 : bOK 53 := bOK_of B_V_deal inf_53 bo_53 (by decide) rfl ck_V_deal
theorem bo_54 : bBody 54 = bD B_V_trace := rfl
theorem ok_54 : bOK 54 := bOK_of B_V_trace inf_54 bo_54 (by decide) rfl ck_V_trace
theorem bo_55 : bBody 55 = bD B_V_many := rfl
theorem ok_55 : bOK 55 := bOK_of B_V_many inf_55 bo_55 (by decide) rfl ck_V_many
theorem bo_56 : bBody 56 = bD B_V_keep := rfl
theorem ok_56 : bOK 56 := bOK_of B_V_keep inf_56 bo_56 (by decide) rfl ck_V_keep
theorem bo_57 : bBody 57 = bD B_V_again := rfl
theorem ok_57 : bOK 57 := bOK_of B_V_again inf_57 bo_57 (by decide) rfl ck_V_again
theorem bo_58 : bBody 58 = bD B_M_reach := rfl
theorem ok_58 : bOK 58 := bOK_of B_M_reach inf_58 bo_58 (by decide) rfl ck_M_reach
theorem bo_59 : bBody 59 = bD B_M_pond := rfl
theorem ok_59 : bOK 59 := bOK_of B_M_pond inf_59 bo_59 (by decide) rfl ck_M_pond
theorem bo_60 : bBody 60 = bD B_M_gate := rfl
theorem ok_60 : bOK 60 := bOK_of B_M_gate inf_60 bo_60 (by decide) rfl ck_M_gate
theorem bo_61 : bBody 61 = bD B_M_table := rfl
theorem ok_61 : bOK 61 := bOK_of B_M_table inf_61 bo_61 (by decide) rfl ck_M_table
theorem bo_62 : bBody 62 = bD B_M_house := rfl
theorem ok_62 : bOK 62 := bOK_of B_M_house inf_62 bo_62 (by decide) rfl ck_M_house
theorem bo_63 : bBody 63 = bD B_M_depth := rfl
theorem ok_63 : bOK 63 := bOK_of B_M_depth inf_63 bo_63 (by decide) rfl ck_M_depth
theorem bo_64 : bBody 64 = bD B_M_falls := rfl
theorem ok_64 : bOK 64 := bOK_of B_M_falls inf_64 bo_64 (by decide) rfl ck_M_falls
theorem bo_65 : bBody 65 = bD B_M_sooner := rfl
theorem ok_65 : bOK 65 := bOK_of B_M_sooner inf_65 bo_65 (by decide) rfl ck_M_sooner
theorem bo_66 : bBody 66 = bD B_M_clock := rfl
theorem ok_66 : bOK 66 := bOK_of B_M_clock inf_66 bo_66 (by decide) rfl ck_M_clock
theorem bo_67 : bBody 67 = bD B_M_mark := rfl
theorem ok_67 : bOK 67 := bOK_of B_M_mark inf_67 bo_67 (by decide) rfl ck_M_mark
theorem bo_68 : bBody 68 = bD B_M_word := rfl
theorem ok_68 : bOK 68 := bOK_of B_M_word inf_68 bo_68 (by decide) rfl ck_M_word
theorem bo_69 : bBody 69 = bD B_M_tear := rfl
theorem ok_69 : bOK 69 := bOK_of B_M_tear inf_69 bo_69 (by decide) rfl ck_M_tear
theorem bo_70 : bBody 70 = bD B_M_side := rfl
theorem ok_70 : bOK 70 := bOK_of B_M_side inf_70 bo_70 (by decide) rfl ck_M_side
theorem bo_71 : bBody 71 = bD B_M_doubt := rfl
theorem ok_71 : bOK 71 := bOK_of B_M_doubt inf_71 bo_71 (by decide) rfl ck_M_doubt
theorem bo_72 : bBody 72 = bD B_M_lets := rfl
theorem ok_72 : bOK 72 := bOK_of B_M_lets inf_72 bo_72 (by decide) rfl ck_M_lets
theorem bo_73 : bBody 73 = bD B_M_possible := rfl
theorem ok_73 : bOK 73 := bOK_of B_M_possible inf_73 bo_73 (by decide) rfl ck_M_possible
theorem bo_74 : bBody 74 = bD B_M_span := rfl
theorem ok_74 : bOK 74 := bOK_of B_M_span inf_74 bo_74 (by decide) rfl ck_M_span
theorem bo_75 : bBody 75 = bD B_M_hangs := rfl
theorem ok_75 : bOK 75 := bOK_of B_M_hangs inf_75 bo_75 (by decide) rfl ck_M_hangs
theorem bo_76 : bBody 76 = bD B_M_sure := rfl
theorem ok_76 : bOK 76 := bOK_of B_M_sure inf_76 bo_76 (by decide) rfl ck_M_sure
theorem bo_77 : bBody 77 = bD B_M_could := rfl
theorem ok_77 : bOK 77 := bOK_of B_M_could inf_77 bo_77 (by decide) rfl ck_M_could
theorem bo_78 : bBody 78 = bD B_M_told := rfl
theorem ok_78 : bOK 78 := bOK_of B_M_told inf_78 bo_78 (by decide) rfl ck_M_told
theorem bo_79 : bBody 79 = bD B_M_person := rfl
theorem ok_79 : bOK 79 := bOK_of B_M_person inf_79 bo_79 (by decide) rfl ck_M_person
theorem bo_80 : bBody 80 = bD B_M_safe := rfl
theorem ok_80 : bOK 80 := bOK_of B_M_safe inf_80 bo_80 (by decide) rfl ck_M_safe
theorem bo_81 : bBody 81 = bD B_M_name := rfl
theorem ok_81 : bOK 81 := bOK_of B_M_name inf_81 bo_81 (by decide) rfl ck_M_name
theorem bo_82 : bBody 82 = bD B_M_list := rfl
theorem ok_82 : bOK 82 := bOK_of B_M_list inf_82 bo_82 (by decide) rfl ck_M_list
theorem bo_83 : bBody 83 = bD B_M_thing := rfl
theorem ok_83 : bOK 83 := bOK_of B_M_thing inf_83 bo_83 (by decide) rfl ck_M_thing
theorem bo_84 : bBody 84 = bD B_M_lies := rfl
theorem ok_84 : bOK 84 := bOK_of B_M_lies inf_84 bo_84 (by decide) rfl ck_M_lies
theorem bo_85 : bBody 85 = bD B_M_find := rfl
theorem ok_85 : bOK 85 := bOK_of B_M_find inf_85 bo_85 (by decide) rfl ck_M_find
theorem bo_86 : bBody 86 = bD B_M_whose := rfl
theorem ok_86 : bOK 86 := bOK_of B_M_whose inf_86 bo_86 (by decide) rfl ck_M_whose
theorem bo_87 : bBody 87 = bD B_M_days := rfl
theorem ok_87 : bOK 87 := bOK_of B_M_days inf_87 bo_87 (by decide) rfl ck_M_days
theorem bo_88 : bBody 88 = bD B_M_feed := rfl
theorem ok_88 : bOK 88 := bOK_of B_M_feed inf_88 bo_88 (by decide) rfl ck_M_feed
theorem bo_89 : bBody 89 = bD B_M_read := rfl
theorem ok_89 : bOK 89 := bOK_of B_M_read inf_89 bo_89 (by decide) rfl ck_M_read
theorem bo_90 : bBody 90 = bD B_M_claim := rfl
theorem ok_90 : bOK 90 := bOK_of B_M_claim inf_90 bo_90 (by decide) rfl ck_M_claim
theorem bo_91 : bBody 91 = bD B_M_proof := rfl
theorem ok_91 : bOK 91 := bOK_of B_M_proof inf_91 bo_91 (by decide) rfl ck_M_proof
theorem bo_92 : bBody 92 = bD B_M_claimOf := rfl
theorem ok_92 : bOK 92 := bOK_of B_M_claimOf inf_92 bo_92 (by decide) rfl ck_M_claimOf
theorem bo_93 : bBody 93 = bD B_M_why := rfl
theorem ok_93 : bOK 93 := bOK_of B_M_why inf_93 bo_93 (by decide) rfl ck_M_why
theorem bo_94 : bBody 94 = bD B_M_odd := rfl
theorem ok_94 : bOK 94 := bOK_of B_M_odd inf_94 bo_94 (by decide) rfl ck_M_odd
theorem bo_95 : bBody 95 = bD B_M_fund := rfl
theorem ok_95 : bOK 95 := bOK_of B_M_fund inf_95 bo_95 (by decide) rfl ck_M_fund
theorem bo_96 : bBody 96 = bD B_M_pay := rfl
theorem ok_96 : bOK 96 := bOK_of B_M_pay inf_96 bo_96 (by decide) rfl ck_M_pay
theorem bo_97 : bBody 97 = bD B_M_offer := rfl
theorem ok_97 : bOK 97 := bOK_of B_M_offer inf_97 bo_97 (by decide) rfl ck_M_offer
theorem bo_98 : bBody 98 = bD B_M_likest := rfl
theorem ok_98 : bOK 98 := bOK_of B_M_likest inf_98 bo_98 (by decide) rfl ck_M_likest
theorem bo_99 : bBody 99 = bD B_M_round := rfl
theorem ok_99 : bOK 99 := bOK_of B_M_round inf_99 bo_99 (by decide) rfl ck_M_round
theorem bo_100 : bBody 100 = bD B_M_row := rfl
theorem ok_100 : bOK 100 := bOK_of B_M_row inf_100 bo_100 (by decide) rfl ck_M_row
theorem bo_101 : bBody 101 = bD B_M_alterRow := rfl
theorem ok_101 : bOK 101 := bOK_of B_M_alterRow inf_101 bo_101 (by decide) rfl ck_M_alterRow
theorem bo_102 : bBody 102 = bD B_M_dropRow := rfl
theorem ok_102 : bOK 102 := bOK_of B_M_dropRow inf_102 bo_102 (by decide) rfl ck_M_dropRow
theorem bo_103 : bBody 103 = bD B_M_judge := rfl
theorem ok_103 : bOK 103 := bOK_of B_M_judge inf_103 bo_103 (by decide) rfl ck_M_judge
theorem bo_104 : bBody 104 = bD B_M_years := rfl
theorem ok_104 : bOK 104 := bOK_of B_M_years inf_104 bo_104 (by decide) rfl ck_M_years
theorem bo_105 : bBody 105 = bD B_M_rate := rfl
theorem ok_105 : bOK 105 := bOK_of B_M_rate inf_105 bo_105 (by decide) rfl ck_M_rate
theorem bo_106 : bBody 106 = bD B_M_sheet := rfl
theorem ok_106 : bOK 106 := bOK_of B_M_sheet inf_106 bo_106 (by decide) rfl ck_M_sheet
theorem bo_107 : bBody 107 = bD B_M_put := rfl
theorem ok_107 : bOK 107 := bOK_of B_M_put inf_107 bo_107 (by decide) rfl ck_M_put
theorem bo_108 : bBody 108 = bD B_M_item := rfl
theorem ok_108 : bOK 108 := bOK_of B_M_item inf_108 bo_108 (by decide) rfl ck_M_item
theorem bo_109 : bBody 109 = bD B_M_shelf := rfl
theorem ok_109 : bOK 109 := bOK_of B_M_shelf inf_109 bo_109 (by decide) rfl ck_M_shelf
theorem bo_110 : bBody 110 = bD B_M_taken := rfl
theorem ok_110 : bOK 110 := bOK_of B_M_taken inf_110 bo_110 (by decide) rfl ck_M_taken
theorem bo_111 : bBody 111 = bD B_M_deal := rfl
theorem ok_111 : bOK 111 := bOK_of B_M_deal inf_111 bo_111 (by decide) rfl ck_M_deal
theorem bo_112 : bBody 112 = bD B_M_trace := rfl
theorem ok_112 : bOK 112 := bOK_of B_M_trace inf_112 bo_112 (by decide) rfl ck_M_trace
theorem bo_113 : bBody 113 = bD B_M_many := rfl
theorem ok_113 : bOK 113 := bOK_of B_M_many inf_113 bo_113 (by decide) rfl ck_M_many
theorem bo_114 : bBody 114 = bD B_M_keep := rfl
theorem ok_114 : bOK 114 := bOK_of B_M_keep inf_114 bo_114 (by decide) rfl ck_M_keep
theorem bo_115 : bBody 115 = bD B_M_again := rfl
theorem ok_115 : bOK 115 := bOK_of B_M_again inf_115 bo_115 (by decide) rfl ck_M_again
theorem bo_116 : bBody 116 = bD B_V_isReach := rfl
theorem ok_116 : bOK 116 := bOK_of B_V_isReach inf_116 bo_116 (by decide) rfl ck_V_isReach
theorem bo_117 : bBody 117 = bD B_V_within := rfl
theorem ok_117 : bOK 117 := bOK_of B_V_within inf_117 bo_117 (by decide) rfl ck_V_within
theorem bo_118 : bBody 118 = bD B_Nights_forgetNights := rfl
theorem ok_118 : bOK 118 := bOK_of B_Nights_forgetNights inf_118 bo_118 (by decide) rfl ck_Nights_forgetNights
theorem bo_119 : bBody 119 = bD B_V_isGate := rfl
theorem ok_119 : bOK 119 := bOK_of B_V_isGate inf_119 bo_119 (by decide) rfl ck_V_isGate
theorem bo_120 : bBody 120 = bD B_V_isWay := rfl
theorem ok_120 : bOK 120 := bOK_of B_V_isWay inf_120 bo_120 (by decide) rfl ck_V_isWay
theorem bo_121 : bBody 121 = bD B_V_isSheet := rfl
theorem ok_121 : bOK 121 := bOK_of B_V_isSheet inf_121 bo_121 (by decide) rfl ck_V_isSheet
theorem bo_122 : bBody 122 = bD B_Host_refusesSort := rfl
theorem ok_122 : bOK 122 := bOK_of B_Host_refusesSort inf_122 bo_122 (by decide) rfl ck_Host_refusesSort
theorem bo_123 : bBody 123 = bD B_Host_isTable := rfl
theorem ok_123 : bOK 123 := bOK_of B_Host_isTable inf_123 bo_123 (by decide) rfl ck_Host_isTable
theorem bo_124 : bBody 124 = bD B_V_isNight := rfl
theorem ok_124 : bOK 124 := bOK_of B_V_isNight inf_124 bo_124 (by decide) rfl ck_V_isNight
theorem bo_125 : bBody 125 = bD B_V_isMinute := rfl
theorem ok_125 : bOK 125 := bOK_of B_V_isMinute inf_125 bo_125 (by decide) rfl ck_V_isMinute
theorem bo_126 : bBody 126 = bD B_Night_pass := rfl
theorem ok_126 : bOK 126 := bOK_of B_Night_pass inf_126 bo_126 (by decide) rfl ck_Night_pass
theorem bo_127 : bBody 127 = bD B_Night_depthNow := rfl
theorem ok_127 : bOK 127 := bOK_of B_Night_depthNow inf_127 bo_127 (by decide) rfl ck_Night_depthNow
theorem bo_128 : bBody 128 = bD B_V_isHouse := rfl
theorem ok_128 : bOK 128 := bOK_of B_V_isHouse inf_128 bo_128 (by decide) rfl ck_V_isHouse
theorem bo_129 : bBody 129 = bD B_bitCount := rfl
theorem ok_129 : bOK 129 := bOK_of B_bitCount inf_129 bo_129 (by decide) rfl ck_bitCount
theorem bo_130 : bBody 130 = bD B_Night_fallen := rfl
theorem ok_130 : bOK 130 := bOK_of B_Night_fallen inf_130 bo_130 (by decide) rfl ck_Night_fallen
theorem bo_131 : bBody 131 = bD B_Seen_addRow := rfl
theorem ok_131 : bOK 131 := bOK_of B_Seen_addRow inf_131 bo_131 (by decide) rfl ck_Seen_addRow
theorem bo_132 : bBody 132 = bD B_V_isEngineer := rfl
theorem ok_132 : bOK 132 := bOK_of B_V_isEngineer inf_132 bo_132 (by decide) rfl ck_V_isEngineer
theorem bo_133 : bBody 133 = bD B_V_isStart := rfl
theorem ok_133 : bOK 133 := bOK_of B_V_isStart inf_133 bo_133 (by decide) rfl ck_V_isStart
theorem bo_134 : bBody 134 = bD B_Nights_forgetPossible := rfl
theorem ok_134 : bOK 134 := bOK_of B_Nights_forgetPossible inf_134 bo_134 (by decide) rfl ck_Nights_forgetPossible
theorem bo_135 : bBody 135 = bD B_V_isSeenRow := rfl
theorem ok_135 : bOK 135 := bOK_of B_V_isSeenRow inf_135 bo_135 (by decide) rfl ck_V_isSeenRow
theorem bo_136 : bBody 136 = bD B_Seen_setDoubted := rfl
theorem ok_136 : bOK 136 := bOK_of B_Seen_setDoubted inf_136 bo_136 (by decide) rfl ck_Seen_setDoubted
theorem bo_137 : bBody 137 = bD B_Nights_allLet := rfl
theorem ok_137 : bOK 137 := bOK_of B_Nights_allLet inf_137 bo_137 (by decide) rfl ck_Nights_allLet
theorem bo_138 : bBody 138 = bD B_Nights_weigh := rfl
theorem ok_138 : bOK 138 := bOK_of B_Nights_weigh inf_138 bo_138 (by decide) rfl ck_Nights_weigh
theorem bo_139 : bBody 139 = bD B_Nights_countPossible := rfl
theorem ok_139 : bOK 139 := bOK_of B_Nights_countPossible inf_139 bo_139 (by decide) rfl ck_Nights_countPossible
theorem bo_140 : bBody 140 = bD B_Nights_lastStart := rfl
theorem ok_140 : bOK 140 := bOK_of B_Nights_lastStart inf_140 bo_140 (by decide) rfl ck_Nights_lastStart
theorem bo_141 : bBody 141 = bD B_Nights_firstStart := rfl
theorem ok_141 : bOK 141 := bOK_of B_Nights_firstStart inf_141 bo_141 (by decide) rfl ck_Nights_firstStart
theorem bo_142 : bBody 142 = bD B_Seen_speaking := rfl
theorem ok_142 : bOK 142 := bOK_of B_Seen_speaking inf_142 bo_142 (by decide) rfl ck_Seen_speaking
theorem bo_143 : bBody 143 = bD B_Nights_countLet := rfl
theorem ok_143 : bOK 143 := bOK_of B_Nights_countLet inf_143 bo_143 (by decide) rfl ck_Nights_countLet
theorem bo_144 : bBody 144 = bD B_Nights_gather := rfl
theorem ok_144 : bOK 144 := bOK_of B_Nights_gather inf_144 bo_144 (by decide) rfl ck_Nights_gather
theorem bo_145 : bBody 145 = bD B_Nights_fallsInEach := rfl
theorem ok_145 : bOK 145 := bOK_of B_Nights_fallsInEach inf_145 bo_145 (by decide) rfl ck_Nights_fallsInEach
theorem bo_146 : bBody 146 = bD B_Nights_fallsInSome := rfl
theorem ok_146 : bOK 146 := bOK_of B_Nights_fallsInSome inf_146 bo_146 (by decide) rfl ck_Nights_fallsInSome
theorem bo_147 : bBody 147 = bD B_V_isRide := rfl
theorem ok_147 : bOK 147 := bOK_of B_V_isRide inf_147 bo_147 (by decide) rfl ck_V_isRide
theorem bo_148 : bBody 148 = bD B_Nights_toldInTime := rfl
theorem ok_148 : bOK 148 := bOK_of B_Nights_toldInTime inf_148 bo_148 (by decide) rfl ck_Nights_toldInTime
theorem bo_149 : bBody 149 = bD B_Nights_toldForSure := rfl
theorem ok_149 : bOK 149 := bOK_of B_Nights_toldForSure inf_149 bo_149 (by decide) rfl ck_Nights_toldForSure
theorem bo_150 : bBody 150 = bD B_V_isPerson := rfl
theorem ok_150 : bOK 150 := bOK_of B_V_isPerson inf_150 bo_150 (by decide) rfl ck_V_isPerson
theorem bo_151 : bBody 151 = bD B_Folk_namesThatStand := rfl
theorem ok_151 : bOK 151 := bOK_of B_Folk_namesThatStand inf_151 bo_151 (by decide) rfl ck_Folk_namesThatStand
theorem bo_152 : bBody 152 = bD B_Folk_namesNever := rfl
theorem ok_152 : bOK 152 := bOK_of B_Folk_namesNever inf_152 bo_152 (by decide) rfl ck_Folk_namesNever
theorem bo_153 : bBody 153 = bD B_V_isThing := rfl
theorem ok_153 : bOK 153 := bOK_of B_V_isThing inf_153 bo_153 (by decide) rfl ck_V_isThing
theorem bo_154 : bBody 154 = bD B_Nights_restOf := rfl
theorem ok_154 : bOK 154 := bOK_of B_Nights_restOf inf_154 bo_154 (by decide) rfl ck_Nights_restOf
theorem bo_155 : bBody 155 = bD B_Nights_canBe := rfl
theorem ok_155 : bOK 155 := bOK_of B_Nights_canBe inf_155 bo_155 (by decide) rfl ck_Nights_canBe
theorem bo_156 : bBody 156 = bD B_Reader_append := rfl
theorem ok_156 : bOK 156 := bOK_of B_Reader_append inf_156 bo_156 (by decide) rfl ck_Reader_append
theorem bo_157 : bBody 157 = bD B_Reader_parse := rfl
theorem ok_157 : bOK 157 := bOK_of B_Reader_parse inf_157 bo_157 (by decide) rfl ck_Reader_parse
theorem bo_158 : bBody 158 = bD B_Claims_isClaimed := rfl
theorem ok_158 : bOK 158 := bOK_of B_Claims_isClaimed inf_158 bo_158 (by decide) rfl ck_Claims_isClaimed
theorem bo_159 : bBody 159 = bD B_Claims_addClaim := rfl
theorem ok_159 : bOK 159 := bOK_of B_Claims_addClaim inf_159 bo_159 (by decide) rfl ck_Claims_addClaim
theorem bo_160 : bBody 160 = bD B_V_isClaim := rfl
theorem ok_160 : bOK 160 := bOK_of B_V_isClaim inf_160 bo_160 (by decide) rfl ck_V_isClaim
theorem bo_161 : bBody 161 = bD B_Claims_addProof := rfl
theorem ok_161 : bOK 161 := bOK_of B_Claims_addProof inf_161 bo_161 (by decide) rfl ck_Claims_addProof
theorem bo_162 : bBody 162 = bD B_Claims_proofsThatCount := rfl
theorem ok_162 : bOK 162 := bOK_of B_Claims_proofsThatCount inf_162 bo_162 (by decide) rfl ck_Claims_proofsThatCount
theorem bo_163 : bBody 163 = bD B_V_isDay := rfl
theorem ok_163 : bOK 163 := bOK_of B_V_isDay inf_163 bo_163 (by decide) rfl ck_V_isDay
theorem bo_164 : bBody 164 = bD B_Law_takeFacts := rfl
theorem ok_164 : bOK 164 := bOK_of B_Law_takeFacts inf_164 bo_164 (by decide) rfl ck_Law_takeFacts
theorem bo_165 : bBody 165 = bD B_Act_versionOn := rfl
theorem ok_165 : bOK 165 := bOK_of B_Act_versionOn inf_165 bo_165 (by decide) rfl ck_Act_versionOn
theorem bo_166 : bBody 166 = bD B_Law_isBarred := rfl
theorem ok_166 : bOK 166 := bOK_of B_Law_isBarred inf_166 bo_166 (by decide) rfl ck_Law_isBarred
theorem bo_167 : bBody 167 = bD B_Law_owed := rfl
theorem ok_167 : bOK 167 := bOK_of B_Law_owed inf_167 bo_167 (by decide) rfl ck_Law_owed
theorem bo_168 : bBody 168 = bD B_Law_rank := rfl
theorem ok_168 : bOK 168 := bOK_of B_Law_rank inf_168 bo_168 (by decide) rfl ck_Law_rank
theorem bo_169 : bBody 169 = bD B_Law_isFound := rfl
theorem ok_169 : bOK 169 := bOK_of B_Law_isFound inf_169 bo_169 (by decide) rfl ck_Law_isFound
theorem bo_170 : bBody 170 = bD B_Law_firstLine := rfl
theorem ok_170 : bOK 170 := bOK_of B_Law_firstLine inf_170 bo_170 (by decide) rfl ck_Law_firstLine
theorem bo_171 : bBody 171 = bD B_Law_housesOver := rfl
theorem ok_171 : bOK 171 := bOK_of B_Law_housesOver inf_171 bo_171 (by decide) rfl ck_Law_housesOver
theorem bo_172 : bBody 172 = bD B_Law_thingsTwice := rfl
theorem ok_172 : bOK 172 := bOK_of B_Law_thingsTwice inf_172 bo_172 (by decide) rfl ck_Law_thingsTwice
theorem bo_173 : bBody 173 = bD B_Law_payByRanks := rfl
theorem ok_173 : bOK 173 := bOK_of B_Law_payByRanks inf_173 bo_173 (by decide) rfl ck_Law_payByRanks
theorem bo_174 : bBody 174 = bD B_Claims_payClaim := rfl
theorem ok_174 : bOK 174 := bOK_of B_Claims_payClaim inf_174 bo_174 (by decide) rfl ck_Claims_payClaim
theorem bo_175 : bBody 175 = bD B_Law_findLikest := rfl
theorem ok_175 : bOK 175 := bOK_of B_Law_findLikest inf_175 bo_175 (by decide) rfl ck_Law_findLikest
theorem bo_176 : bBody 176 = bD B_Tour_plan := rfl
theorem ok_176 : bOK 176 := bOK_of B_Tour_plan inf_176 bo_176 (by decide) rfl ck_Tour_plan
theorem bo_177 : bBody 177 = bD B_Tour_firstWrongRow := rfl
theorem ok_177 : bOK 177 := bOK_of B_Tour_firstWrongRow inf_177 bo_177 (by decide) rfl ck_Tour_firstWrongRow
theorem bo_178 : bBody 178 = bD B_V_isDebt := rfl
theorem ok_178 : bOK 178 := bOK_of B_V_isDebt inf_178 bo_178 (by decide) rfl ck_V_isDebt
theorem bo_179 : bBody 179 = bD B_V_yearsTillPaid := rfl
theorem ok_179 : bOK 179 := bOK_of B_V_yearsTillPaid inf_179 bo_179 (by decide) rfl ck_V_yearsTillPaid
theorem bo_180 : bBody 180 = bD B_Host_makeSheet := rfl
theorem ok_180 : bOK 180 := bOK_of B_Host_makeSheet inf_180 bo_180 (by decide) rfl ck_Host_makeSheet
theorem bo_181 : bBody 181 = bD B_V_narrowed := rfl
theorem ok_181 : bOK 181 := bOK_of B_V_narrowed inf_181 bo_181 (by decide) rfl ck_V_narrowed
theorem bo_182 : bBody 182 = bD B_V_isShelf := rfl
theorem ok_182 : bOK 182 := bOK_of B_V_isShelf inf_182 bo_182 (by decide) rfl ck_V_isShelf
theorem bo_183 : bBody 183 = bD B_Host_putOnShelf := rfl
theorem ok_183 : bOK 183 := bOK_of B_Host_putOnShelf inf_183 bo_183 (by decide) rfl ck_Host_putOnShelf
theorem bo_184 : bBody 184 = bD B_Host_putSheetOnShelf := rfl
theorem ok_184 : bOK 184 := bOK_of B_Host_putSheetOnShelf inf_184 bo_184 (by decide) rfl ck_Host_putSheetOnShelf
theorem bo_185 : bBody 185 = bD B_Host_takenForSort := rfl
theorem ok_185 : bOK 185 := bOK_of B_Host_takenForSort inf_185 bo_185 (by decide) rfl ck_Host_takenForSort
theorem bo_186 : bBody 186 = bD B_Host_takenForKind := rfl
theorem ok_186 : bOK 186 := bOK_of B_Host_takenForKind inf_186 bo_186 (by decide) rfl ck_Host_takenForKind
theorem bo_187 : bBody 187 = bD B_Host_dealWith := rfl
theorem ok_187 : bOK 187 := bOK_of B_Host_dealWith inf_187 bo_187 (by decide) rfl ck_Host_dealWith
theorem bo_188 : bBody 188 = bD B_Seen_countTorn := rfl
theorem ok_188 : bOK 188 := bOK_of B_Seen_countTorn inf_188 bo_188 (by decide) rfl ck_Seen_countTorn
theorem bo_189 : bBody 189 = bD B_Claims_countPaid := rfl
theorem ok_189 : bOK 189 := bOK_of B_Claims_countPaid inf_189 bo_189 (by decide) rfl ck_Claims_countPaid
theorem bo_190 : bBody 190 = bD B_Valley_copyFrom := rfl
theorem ok_190 : bOK 190 := bOK_of B_Valley_copyFrom inf_190 bo_190 (by decide) rfl ck_Valley_copyFrom
theorem bo_191 : bBody 191 = bD B_Seen_copyFrom := rfl
theorem ok_191 : bOK 191 := bOK_of B_Seen_copyFrom inf_191 bo_191 (by decide) rfl ck_Seen_copyFrom
theorem bo_192 : bBody 192 = bD B_Folk_copyFrom := rfl
theorem ok_192 : bOK 192 := bOK_of B_Folk_copyFrom inf_192 bo_192 (by decide) rfl ck_Folk_copyFrom
theorem bo_193 : bBody 193 = bD B_Act_copyFrom := rfl
theorem ok_193 : bOK 193 := bOK_of B_Act_copyFrom inf_193 bo_193 (by decide) rfl ck_Act_copyFrom
theorem bo_194 : bBody 194 = bD B_Claims_copyFrom := rfl
theorem ok_194 : bOK 194 := bOK_of B_Claims_copyFrom inf_194 bo_194 (by decide) rfl ck_Claims_copyFrom
theorem bo_195 : bBody 195 = bD B_Valley_copyFrom2 := rfl
theorem ok_195 : bOK 195 := bOK_of B_Valley_copyFrom2 inf_195 bo_195 (by decide) rfl ck_Valley_copyFrom2
theorem bo_196 : bBody 196 = bD B_Seen_copyFrom2 := rfl
theorem ok_196 : bOK 196 := bOK_of B_Seen_copyFrom2 inf_196 bo_196 (by decide) rfl ck_Seen_copyFrom2
theorem bo_197 : bBody 197 = bD B_Folk_copyFrom2 := rfl
theorem ok_197 : bOK 197 := bOK_of B_Folk_copyFrom2 inf_197 bo_197 (by decide) rfl ck_Folk_copyFrom2
theorem bo_198 : bBody 198 = bD B_Act_copyFrom2 := rfl
theorem ok_198 : bOK 198 := bOK_of B_Act_copyFrom2 inf_198 bo_198 (by decide) rfl ck_Act_copyFrom2
theorem bo_199 : bBody 199 = bD B_Claims_copyFrom2 := rfl
theorem ok_199 : bOK 199 := bOK_of B_Claims_copyFrom2 inf_199 bo_199 (by decide) rfl ck_Claims_copyFrom2
theorem bo_200 : bBody 200 = bD B_M_isReach := rfl
theorem ok_200 : bOK 200 := bOK_of B_M_isReach inf_200 bo_200 (by decide) rfl ck_M_isReach
theorem bo_201 : bBody 201 = bD B_M_in := rfl
theorem ok_201 : bOK 201 := bOK_of B_M_in inf_201 bo_201 (by decide) rfl ck_M_in
theorem bo_202 : bBody 202 = bD B_M_isGate := rfl
theorem ok_202 : bOK 202 := bOK_of B_M_isGate inf_202 bo_202 (by decide) rfl ck_M_isGate
theorem bo_203 : bBody 203 = bD B_M_isSheet := rfl
theorem ok_203 : bOK 203 := bOK_of B_M_isSheet inf_203 bo_203 (by decide) rfl ck_M_isSheet
theorem bo_204 : bBody 204 = bD B_M_isNight := rfl
theorem ok_204 : bOK 204 := bOK_of B_M_isNight inf_204 bo_204 (by decide) rfl ck_M_isNight
theorem bo_205 : bBody 205 = bD B_M_isMinute := rfl
theorem ok_205 : bOK 205 := bOK_of B_M_isMinute inf_205 bo_205 (by decide) rfl ck_M_isMinute
theorem bo_206 : bBody 206 = bD B_M_nightAsIs := rfl
theorem ok_206 : bOK 206 := bOK_of B_M_nightAsIs inf_206 bo_206 (by decide) rfl ck_M_nightAsIs
theorem bo_207 : bBody 207 = bD B_M_isOf := rfl
theorem ok_207 : bOK 207 := bOK_of B_M_isOf inf_207 bo_207 (by decide) rfl ck_M_isOf
theorem bo_208 : bBody 208 = bD B_M_fallMany := rfl
theorem ok_208 : bOK 208 := bOK_of B_M_fallMany inf_208 bo_208 (by decide) rfl ck_M_fallMany
theorem bo_209 : bBody 209 = bD B_M_night := rfl
theorem ok_209 : bOK 209 := bOK_of B_M_night inf_209 bo_209 (by decide) rfl ck_M_night
theorem bo_210 : bBody 210 = bD B_M_seen := rfl
theorem ok_210 : bOK 210 := bOK_of B_M_seen inf_210 bo_210 (by decide) rfl ck_M_seen
theorem bo_211 : bBody 211 = bD B_M_doesLet := rfl
theorem ok_211 : bOK 211 := bOK_of B_M_doesLet inf_211 bo_211 (by decide) rfl ck_M_doesLet
theorem bo_212 : bBody 212 = bD B_M_survey := rfl
theorem ok_212 : bOK 212 := bOK_of B_M_survey inf_212 bo_212 (by decide) rfl ck_M_survey
theorem bo_213 : bBody 213 = bD B_M_surelyFalls := rfl
theorem ok_213 : bOK 213 := bOK_of B_M_surelyFalls inf_213 bo_213 (by decide) rfl ck_M_surelyFalls
theorem bo_214 : bBody 214 = bD B_M_isRide := rfl
theorem ok_214 : bOK 214 := bOK_of B_M_isRide inf_214 bo_214 (by decide) rfl ck_M_isRide
theorem bo_215 : bBody 215 = bD B_M_firstDeep := rfl
theorem ok_215 : bOK 215 := bOK_of B_M_firstDeep inf_215 bo_215 (by decide) rfl ck_M_firstDeep
theorem bo_216 : bBody 216 = bD B_M_ride := rfl
theorem ok_216 : bOK 216 := bOK_of B_M_ride inf_216 bo_216 (by decide) rfl ck_M_ride
theorem bo_217 : bBody 217 = bD B_M_inTime := rfl
theorem ok_217 : bOK 217 := bOK_of B_M_inTime inf_217 bo_217 (by decide) rfl ck_M_inTime
theorem bo_218 : bBody 218 = bD B_M_nevers := rfl
theorem ok_218 : bOK 218 := bOK_of B_M_nevers inf_218 bo_218 (by decide) rfl ck_M_nevers
theorem bo_219 : bBody 219 = bD B_M_standing := rfl
theorem ok_219 : bOK 219 := bOK_of B_M_standing inf_219 bo_219 (by decide) rfl ck_M_standing
theorem bo_220 : bBody 220 = bD B_M_liesAt := rfl
theorem ok_220 : bOK 220 := bOK_of B_M_liesAt inf_220 bo_220 (by decide) rfl ck_M_liesAt
theorem bo_221 : bBody 221 = bD B_M_next := rfl
theorem ok_221 : bOK 221 := bOK_of B_M_next inf_221 bo_221 (by decide) rfl ck_M_next
theorem bo_222 : bBody 222 = bD B_M_line := rfl
theorem ok_222 : bOK 222 := bOK_of B_M_line inf_222 bo_222 (by decide) rfl ck_M_line
theorem bo_223 : bBody 223 = bD B_M_proofsOf := rfl
theorem ok_223 : bOK 223 := bOK_of B_M_proofsOf inf_223 bo_223 (by decide) rfl ck_M_proofsOf
theorem bo_224 : bBody 224 = bD B_M_isDay := rfl
theorem ok_224 : bOK 224 := bOK_of B_M_isDay inf_224 bo_224 (by decide) rfl ck_M_isDay
theorem bo_225 : bBody 225 = bD B_M_isBarred := rfl
theorem ok_225 : bOK 225 := bOK_of B_M_isBarred inf_225 bo_225 (by decide) rfl ck_M_isBarred
theorem bo_226 : bBody 226 = bD B_M_owed := rfl
theorem ok_226 : bOK 226 := bOK_of B_M_owed inf_226 bo_226 (by decide) rfl ck_M_owed
theorem bo_227 : bBody 227 = bD B_M_rankOf := rfl
theorem ok_227 : bOK 227 := bOK_of B_M_rankOf inf_227 bo_227 (by decide) rfl ck_M_rankOf
theorem bo_228 : bBody 228 = bD B_M_isFound := rfl
theorem ok_228 : bOK 228 := bOK_of B_M_isFound inf_228 bo_228 (by decide) rfl ck_M_isFound
theorem bo_229 : bBody 229 = bD B_M_lineFor := rfl
theorem ok_229 : bOK 229 := bOK_of B_M_lineFor inf_229 bo_229 (by decide) rfl ck_M_lineFor
theorem bo_230 : bBody 230 = bD B_M_claimants := rfl
theorem ok_230 : bOK 230 := bOK_of B_M_claimants inf_230 bo_230 (by decide) rfl ck_M_claimants
theorem bo_231 : bBody 231 = bD B_M_lesser := rfl
theorem ok_231 : bOK 231 := bOK_of B_M_lesser inf_231 bo_231 (by decide) rfl ck_M_lesser
theorem bo_232 : bBody 232 = bD B_M_areUnlike := rfl
theorem ok_232 : bOK 232 := bOK_of B_M_areUnlike inf_232 bo_232 (by decide) rfl ck_M_areUnlike
theorem bo_233 : bBody 233 = bD B_M_differs := rfl
theorem ok_233 : bOK 233 := bOK_of B_M_differs inf_233 bo_233 (by decide) rfl ck_M_differs
theorem bo_234 : bBody 234 = bD B_M_ones := rfl
theorem ok_234 : bOK 234 := bOK_of B_M_ones inf_234 bo_234 (by decide) rfl ck_M_ones
theorem bo_235 : bBody 235 = bD B_M_hears := rfl
theorem ok_235 : bOK 235 := bOK_of B_M_hears inf_235 bo_235 (by decide) rfl ck_M_hears
theorem bo_236 : bBody 236 = bD B_M_reachOf := rfl
theorem ok_236 : bOK 236 := bOK_of B_M_reachOf inf_236 bo_236 (by decide) rfl ck_M_reachOf
theorem bo_237 : bBody 237 = bD B_M_off := rfl
theorem ok_237 : bOK 237 := bOK_of B_M_off inf_237 bo_237 (by decide) rfl ck_M_off
theorem bo_238 : bBody 238 = bD B_M_isCell := rfl
theorem ok_238 : bOK 238 := bOK_of B_M_isCell inf_238 bo_238 (by decide) rfl ck_M_isCell
theorem bo_239 : bBody 239 = bD B_M_isDebt := rfl
theorem ok_239 : bOK 239 := bOK_of B_M_isDebt inf_239 bo_239 (by decide) rfl ck_M_isDebt
theorem bo_240 : bBody 240 = bD B_M_yearsFor := rfl
theorem ok_240 : bOK 240 := bOK_of B_M_yearsFor inf_240 bo_240 (by decide) rfl ck_M_yearsFor
theorem bo_241 : bBody 241 = bD B_M_narrowed := rfl
theorem ok_241 : bOK 241 := bOK_of B_M_narrowed inf_241 bo_241 (by decide) rfl ck_M_narrowed
theorem bo_242 : bBody 242 = bD B_M_kindOn := rfl
theorem ok_242 : bOK 242 := bOK_of B_M_kindOn inf_242 bo_242 (by decide) rfl ck_M_kindOn
theorem bo_243 : bBody 243 = bD B_M_isUnder := rfl
theorem ok_243 : bOK 243 := bOK_of B_M_isUnder inf_243 bo_243 (by decide) rfl ck_M_isUnder
theorem bo_244 : bBody 244 = bD B_M_dealFits := rfl
theorem ok_244 : bOK 244 := bOK_of B_M_dealFits inf_244 bo_244 (by decide) rfl ck_M_dealFits
theorem bo_245 : bBody 245 = bD B_M_dealPays := rfl
theorem ok_245 : bOK 245 := bOK_of B_M_dealPays inf_245 bo_245 (by decide) rfl ck_M_dealPays
theorem bo_246 : bBody 246 = bD B_M_dealHangs := rfl
theorem ok_246 : bOK 246 := bOK_of B_M_dealHangs inf_246 bo_246 (by decide) rfl ck_M_dealHangs
theorem bo_247 : bBody 247 = bD B_M_dealTells := rfl
theorem ok_247 : bOK 247 := bOK_of B_M_dealTells inf_247 bo_247 (by decide) rfl ck_M_dealTells
theorem bo_248 : bBody 248 = bD B_M_copiesAll := rfl
theorem ok_248 : bOK 248 := bOK_of B_M_copiesAll inf_248 bo_248 (by decide) rfl ck_M_copiesAll
theorem bo_249 : bBody 249 = bD B_Night_begin := rfl
theorem ok_249 : bOK 249 := bOK_of B_Night_begin inf_249 bo_249 (by decide) rfl ck_Night_begin
theorem bo_250 : bBody 250 = bD B_Night_comesOut := rfl
theorem ok_250 : bOK 250 := bOK_of B_Night_comesOut inf_250 bo_250 (by decide) rfl ck_Night_comesOut
theorem bo_251 : bBody 251 = bD B_Night_flow := rfl
theorem ok_251 : bOK 251 := bOK_of B_Night_flow inf_251 bo_251 (by decide) rfl ck_Night_flow
theorem bo_252 : bBody 252 = bD B_Night_carry := rfl
theorem ok_252 : bOK 252 := bOK_of B_Night_carry inf_252 bo_252 (by decide) rfl ck_Night_carry
theorem bo_253 : bBody 253 = bD B_Night_rise := rfl
theorem ok_253 : bOK 253 := bOK_of B_Night_rise inf_253 bo_253 (by decide) rfl ck_Night_rise
theorem bo_254 : bBody 254 = bD B_Night_launch := rfl
theorem ok_254 : bOK 254 := bOK_of B_Night_launch inf_254 bo_254 (by decide) rfl ck_Night_launch
theorem bo_255 : bBody 255 = bD B_Night_noMoreComes := rfl
theorem ok_255 : bOK 255 := bOK_of B_Night_noMoreComes inf_255 bo_255 (by decide) rfl ck_Night_noMoreComes
theorem bo_256 : bBody 256 = bD B_Seen_wordsAgainst := rfl
theorem ok_256 : bOK 256 := bOK_of B_Seen_wordsAgainst inf_256 bo_256 (by decide) rfl ck_Seen_wordsAgainst
theorem bo_257 : bBody 257 = bD B_Nights_know := rfl
theorem ok_257 : bOK 257 := bOK_of B_Nights_know inf_257 bo_257 (by decide) rfl ck_Nights_know
theorem bo_258 : bBody 258 = bD B_Seen_isDoubtedWord := rfl
theorem ok_258 : bOK 258 := bOK_of B_Seen_isDoubtedWord inf_258 bo_258 (by decide) rfl ck_Seen_isDoubtedWord
theorem bo_259 : bBody 259 = bD B_fill := rfl
theorem ok_259 : bOK 259 := bOK_of B_fill inf_259 bo_259 (by decide) rfl ck_fill
theorem bo_260 : bBody 260 = bD B_Nights_gatherThings := rfl
theorem ok_260 : bOK 260 := bOK_of B_Nights_gatherThings inf_260 bo_260 (by decide) rfl ck_Nights_gatherThings
theorem bo_261 : bBody 261 = bD B_Folk_firstFit := rfl
theorem ok_261 : bOK 261 := bOK_of B_Folk_firstFit inf_261 bo_261 (by decide) rfl ck_Folk_firstFit
theorem bo_262 : bBody 262 = bD B_Reader_advance := rfl
theorem ok_262 : bOK 262 := bOK_of B_Reader_advance inf_262 bo_262 (by decide) rfl ck_Reader_advance
theorem bo_263 : bBody 263 = bD B_Reader_parseLine := rfl
theorem ok_263 : bOK 263 := bOK_of B_Reader_parseLine inf_263 bo_263 (by decide) rfl ck_Reader_parseLine
theorem bo_264 : bBody 264 = bD B_Law_fillFacts := rfl
theorem ok_264 : bOK 264 := bOK_of B_Law_fillFacts inf_264 bo_264 (by decide) rfl ck_Law_fillFacts
theorem bo_265 : bBody 265 = bD B_Law_lastNumber := rfl
theorem ok_265 : bOK 265 := bOK_of B_Law_lastNumber inf_265 bo_265 (by decide) rfl ck_Law_lastNumber
theorem bo_266 : bBody 266 = bD B_Act_linesOf := rfl
theorem ok_266 : bOK 266 := bOK_of B_Act_linesOf inf_266 bo_266 (by decide) rfl ck_Act_linesOf
theorem bo_267 : bBody 267 = bD B_Law_holds := rfl
theorem ok_267 : bOK 267 := bOK_of B_Law_holds inf_267 bo_267 (by decide) rfl ck_Law_holds
theorem bo_268 : bBody 268 = bD B_Law_claimants := rfl
theorem ok_268 : bOK 268 := bOK_of B_Law_claimants inf_268 bo_268 (by decide) rfl ck_Law_claimants
theorem bo_269 : bBody 269 = bD B_Law_areUnlike := rfl
theorem ok_269 : bOK 269 := bOK_of B_Law_areUnlike inf_269 bo_269 (by decide) rfl ck_Law_areUnlike
theorem bo_270 : bBody 270 = bD B_Law_countDifferent := rfl
theorem ok_270 : bOK 270 := bOK_of B_Law_countDifferent inf_270 bo_270 (by decide) rfl ck_Law_countDifferent
theorem bo_271 : bBody 271 = bD B_Tour_takeMembers := rfl
theorem ok_271 : bOK 271 := bOK_of B_Tour_takeMembers inf_271 bo_271 (by decide) rfl ck_Tour_takeMembers
theorem bo_272 : bBody 272 = bD B_Tour_leastCost := rfl
theorem ok_272 : bOK 272 := bOK_of B_Tour_leastCost inf_272 bo_272 (by decide) rfl ck_Tour_leastCost
theorem bo_273 : bBody 273 = bD B_Tour_writeRows := rfl
theorem ok_273 : bOK 273 := bOK_of B_Tour_writeRows inf_273 bo_273 (by decide) rfl ck_Tour_writeRows
theorem bo_274 : bBody 274 = bD B_Host_kindOn := rfl
theorem ok_274 : bOK 274 := bOK_of B_Host_kindOn inf_274 bo_274 (by decide) rfl ck_Host_kindOn
theorem bo_275 : bBody 275 = bD B_Host_isUnder := rfl
theorem ok_275 : bOK 275 := bOK_of B_Host_isUnder inf_275 bo_275 (by decide) rfl ck_Host_isUnder
theorem bo_276 : bBody 276 = bD B_Host_run := rfl
theorem ok_276 : bOK 276 := bOK_of B_Host_run inf_276 bo_276 (by decide) rfl ck_Host_run
theorem bo_277 : bBody 277 = bD B_M_deepest := rfl
theorem ok_277 : bOK 277 := bOK_of B_M_deepest inf_277 bo_277 (by decide) rfl ck_M_deepest
theorem bo_278 : bBody 278 = bD B_M_isActive := rfl
theorem ok_278 : bOK 278 := bOK_of B_M_isActive inf_278 bo_278 (by decide) rfl ck_M_isActive
theorem bo_279 : bBody 279 = bD B_M_counts := rfl
theorem ok_279 : bOK 279 := bOK_of B_M_counts inf_279 bo_279 (by decide) rfl ck_M_counts
theorem bo_280 : bBody 280 = bD B_M_fits := rfl
theorem ok_280 : bOK 280 := bOK_of B_M_fits inf_280 bo_280 (by decide) rfl ck_M_fits
theorem bo_281 : bBody 281 = bD B_M_stands := rfl
theorem ok_281 : bOK 281 := bOK_of B_M_stands inf_281 bo_281 (by decide) rfl ck_M_stands
theorem bo_282 : bBody 282 = bD B_M_byteAt := rfl
theorem ok_282 : bOK 282 := bOK_of B_M_byteAt inf_282 bo_282 (by decide) rfl ck_M_byteAt
theorem bo_283 : bBody 283 = bD B_M_fails := rfl
theorem ok_283 : bOK 283 := bOK_of B_M_fails inf_283 bo_283 (by decide) rfl ck_M_fails
theorem bo_284 : bBody 284 = bD B_M_may := rfl
theorem ok_284 : bOK 284 := bOK_of B_M_may inf_284 bo_284 (by decide) rfl ck_M_may
theorem bo_285 : bBody 285 = bD B_M_number := rfl
theorem ok_285 : bOK 285 := bOK_of B_M_number inf_285 bo_285 (by decide) rfl ck_M_number
theorem bo_286 : bBody 286 = bD B_M_must := rfl
theorem ok_286 : bOK 286 := bOK_of B_M_must inf_286 bo_286 (by decide) rfl ck_M_must
theorem bo_287 : bBody 287 = bD B_M_any := rfl
theorem ok_287 : bOK 287 := bOK_of B_M_any inf_287 bo_287 (by decide) rfl ck_M_any
theorem bo_288 : bBody 288 = bD B_M_mustSign := rfl
theorem ok_288 : bOK 288 := bOK_of B_M_mustSign inf_288 bo_288 (by decide) rfl ck_M_mustSign
theorem bo_289 : bBody 289 = bD B_M_latest := rfl
theorem ok_289 : bOK 289 := bOK_of B_M_latest inf_289 bo_289 (by decide) rfl ck_M_latest
theorem bo_290 : bBody 290 = bD B_M_actOf := rfl
theorem ok_290 : bOK 290 := bOK_of B_M_actOf inf_290 bo_290 (by decide) rfl ck_M_actOf
theorem bo_291 : bBody 291 = bD B_M_holds := rfl
theorem ok_291 : bOK 291 := bOK_of B_M_holds inf_291 bo_291 (by decide) rfl ck_M_holds
theorem bo_292 : bBody 292 = bD B_M_fact := rfl
theorem ok_292 : bOK 292 := bOK_of B_M_fact inf_292 bo_292 (by decide) rfl ck_M_fact
theorem bo_293 : bBody 293 = bD B_M_houseOf := rfl
theorem ok_293 : bOK 293 := bOK_of B_M_houseOf inf_293 bo_293 (by decide) rfl ck_M_houseOf
theorem bo_294 : bBody 294 = bD B_M_greater := rfl
theorem ok_294 : bOK 294 := bOK_of B_M_greater inf_294 bo_294 (by decide) rfl ck_M_greater
theorem bo_295 : bBody 295 = bD B_M_ran := rfl
theorem ok_295 : bOK 295 := bOK_of B_M_ran inf_295 bo_295 (by decide) rfl ck_M_ran
theorem bo_296 : bBody 296 = bD B_M_plainFits := rfl
theorem ok_296 : bOK 296 := bOK_of B_M_plainFits inf_296 bo_296 (by decide) rfl ck_M_plainFits
theorem bo_297 : bBody 297 = bD B_M_wordPays := rfl
theorem ok_297 : bOK 297 := bOK_of B_M_wordPays inf_297 bo_297 (by decide) rfl ck_M_wordPays
theorem bo_298 : bBody 298 = bD B_M_plainPays := rfl
theorem ok_298 : bOK 298 := bOK_of B_M_plainPays inf_298 bo_298 (by decide) rfl ck_M_plainPays
theorem bo_299 : bBody 299 = bD B_M_plainHangs := rfl
theorem ok_299 : bOK 299 := bOK_of B_M_plainHangs inf_299 bo_299 (by decide) rfl ck_M_plainHangs
theorem bo_300 : bBody 300 = bD B_M_claimHangs := rfl
theorem ok_300 : bOK 300 := bOK_of B_M_claimHangs inf_300 bo_300 (by decide) rfl ck_M_claimHangs
theorem bo_301 : bBody 301 = bD B_M_plainTells := rfl
theorem ok_301 : bOK 301 := bOK_of B_M_plainTells inf_301 bo_301 (by decide) rfl ck_M_plainTells
theorem bo_302 : bBody 302 = bD B_M_copies := rfl
theorem ok_302 : bOK 302 := bOK_of B_M_copies inf_302 bo_302 (by decide) rfl ck_M_copies
theorem bo_303 : bBody 303 = bD B_Night_tableNumber := rfl
theorem ok_303 : bOK 303 := bOK_of B_Night_tableNumber inf_303 bo_303 (by decide) rfl ck_Night_tableNumber
theorem bo_304 : bBody 304 = bD B_Night_breakHouses := rfl
theorem ok_304 : bOK 304 := bOK_of B_Night_breakHouses inf_304 bo_304 (by decide) rfl ck_Night_breakHouses
theorem bo_305 : bBody 305 = bD B_Night_stopClocks := rfl
theorem ok_305 : bOK 305 := bOK_of B_Night_stopClocks inf_305 bo_305 (by decide) rfl ck_Night_stopClocks
theorem bo_306 : bBody 306 = bD B_Nights_clocksAndMarksAgainst := rfl
theorem ok_306 : bOK 306 := bOK_of B_Nights_clocksAndMarksAgainst inf_306 bo_306 (by decide) rfl ck_Nights_clocksAndMarksAgainst
theorem bo_307 : bBody 307 = bD B_Folk_isFit := rfl
theorem ok_307 : bOK 307 := bOK_of B_Folk_isFit inf_307 bo_307 (by decide) rfl ck_Folk_isFit
theorem bo_308 : bBody 308 = bD B_Reader_isLetter := rfl
theorem ok_308 : bOK 308 := bOK_of B_Reader_isLetter inf_308 bo_308 (by decide) rfl ck_Reader_isLetter
theorem bo_309 : bBody 309 = bD B_Reader_wordNumber := rfl
theorem ok_309 : bOK 309 := bOK_of B_Reader_wordNumber inf_309 bo_309 (by decide) rfl ck_Reader_wordNumber
theorem bo_310 : bBody 310 = bD B_Reader_isDigit := rfl
theorem ok_310 : bOK 310 := bOK_of B_Reader_isDigit inf_310 bo_310 (by decide) rfl ck_Reader_isDigit
theorem bo_311 : bBody 311 = bD B_Reader_numberValue := rfl
theorem ok_311 : bOK 311 := bOK_of B_Reader_numberValue inf_311 bo_311 (by decide) rfl ck_Reader_numberValue
theorem bo_312 : bBody 312 = bD B_Reader_mostOf := rfl
theorem ok_312 : bOK 312 := bOK_of B_Reader_mostOf inf_312 bo_312 (by decide) rfl ck_Reader_mostOf
theorem bo_313 : bBody 313 = bD B_Reader_isNumber := rfl
theorem ok_313 : bOK 313 := bOK_of B_Reader_isNumber inf_313 bo_313 (by decide) rfl ck_Reader_isNumber
theorem bo_314 : bBody 314 = bD B_Reader_parseCond := rfl
theorem ok_314 : bOK 314 := bOK_of B_Reader_parseCond inf_314 bo_314 (by decide) rfl ck_Reader_parseCond
theorem bo_315 : bBody 315 = bD B_Law_hasFind := rfl
theorem ok_315 : bOK 315 := bOK_of B_Law_hasFind inf_315 bo_315 (by decide) rfl ck_Law_hasFind
theorem bo_316 : bBody 316 = bD B_Law_compares := rfl
theorem ok_316 : bOK 316 := bOK_of B_Law_compares inf_316 bo_316 (by decide) rfl ck_Law_compares
theorem bo_317 : bBody 317 = bD B_Tour_waiting := rfl
theorem ok_317 : bOK 317 := bOK_of B_Tour_waiting inf_317 bo_317 (by decide) rfl ck_Tour_waiting
theorem bo_318 : bBody 318 = bD B_Tour_costVia := rfl
theorem ok_318 : bOK 318 := bOK_of B_Tour_costVia inf_318 bo_318 (by decide) rfl ck_Tour_costVia
theorem bo_319 : bBody 319 = bD B_Tour_bestNext := rfl
theorem ok_319 : bOK 319 := bOK_of B_Tour_bestNext inf_319 bo_319 (by decide) rfl ck_Tour_bestNext
theorem bo_320 : bBody 320 = bD B_Host_note := rfl
theorem ok_320 : bOK 320 := bOK_of B_Host_note inf_320 bo_320 (by decide) rfl ck_Host_note
theorem bo_321 : bBody 321 = bD B_Host_parted := rfl
theorem ok_321 : bOK 321 := bOK_of B_Host_parted inf_321 bo_321 (by decide) rfl ck_Host_parted
theorem bo_322 : bBody 322 = bD B_M_all := rfl
theorem ok_322 : bOK 322 := bOK_of B_M_all inf_322 bo_322 (by decide) rfl ck_M_all
theorem bo_323 : bBody 323 = bD B_M_does := rfl
theorem ok_323 : bOK 323 := bOK_of B_M_does inf_323 bo_323 (by decide) rfl ck_M_does
theorem bo_324 : bBody 324 = bD B_M_isSign := rfl
theorem ok_324 : bOK 324 := bOK_of B_M_isSign inf_324 bo_324 (by decide) rfl ck_M_isSign
theorem bo_325 : bBody 325 = bD B_M_isSo := rfl
theorem ok_325 : bOK 325 := bOK_of B_M_isSo inf_325 bo_325 (by decide) rfl ck_M_isSo
theorem bo_326 : bBody 326 = bTL := rfl
theorem bo_327 : bBody 327 = bTC := rfl
theorem bo_328 : bBody 328 = bD B_Reader_parseOne := rfl
theorem ok_328 : bOK 328 := bOK_of B_Reader_parseOne inf_328 bo_328 (by decide) rfl ck_Reader_parseOne
theorem bo_329 : bBody 329 = bD B_Reader_emit := rfl
theorem ok_329 : bOK 329 := bOK_of B_Reader_emit inf_329 bo_329 (by decide) rfl ck_Reader_emit
theorem bo_330 : bBody 330 = bD B_M_one := rfl
theorem ok_330 : bOK 330 := bOK_of B_M_one inf_330 bo_330 (by decide) rfl ck_M_one
theorem bo_331 : bBody 331 = bD B_Reader_parseCompare := rfl
theorem ok_331 : bOK 331 := bOK_of B_Reader_parseCompare inf_331 bo_331 (by decide) rfl ck_Reader_parseCompare
theorem bo_332 : bBody 332 = bD B_M_factHere := rfl
theorem ok_332 : bOK 332 := bOK_of B_M_factHere inf_332 bo_332 (by decide) rfl ck_M_factHere
theorem ok_326 : bOK 326 := by
  intro d cal av m r hO h
  rw [inf_326]
  rw [bo_326] at h
  unfold bTL at h
  obtain ⟨⟨h1, rfl⟩, h2⟩ := gd_of h
  cases h2
  obtain ⟨k, rfl⟩ : ∃ k, d = k + 1 := ⟨d - 1, by omega⟩
  exact c_length k
theorem ok_327 : bOK 327 := by
  intro d cal av m r hO h
  rw [inf_327]
  rw [bo_327] at h
  unfold bTC at h
  obtain ⟨h1, h2⟩ := gd_of h
  obtain ⟨z, h3, h4⟩ := Option.map_eq_some_iff.mp h2
  cases h4
  obtain ⟨k, rfl⟩ : ∃ k, d = k + 3 := ⟨d - 3, by omega⟩
  unfold tav at h3
  split at h3
  · obtain ⟨h5, h6⟩ := gd_of h3
    cases h6
    exact c_charAt k h5
  · cases h3
theorem nl_all : ∀ f, (bInfo f).2.2.1 ≤ 29 := by
  intro f
  have h : ∀ l ∈ bInL, ∀ q ∈ l, q.2.2.1 ≤ 29 := by decide +kernel
  unfold bInfo
  rw [List.getD_eq_getElem?_getD]
  cases h1 : (bInL.getD (f / 20) [])[f % 20]? with
  | none => show 3 ≤ 29; decide
  | some q =>
    have h2 := List.mem_of_getElem? h1
    rw [List.getD_eq_getElem?_getD] at h2
    cases h3 : bInL[f / 20]? with
    | none => rw [h3] at h2; cases h2
    | some l => rw [h3] at h2; exact h l (List.mem_of_getElem? h3) q h2
theorem okc_0 : ∀ k, k < 20 → bOK (0 + k)
  | 0, _ => ok_0
  | 1, _ => ok_1
  | 2, _ => ok_2
  | 3, _ => ok_3
  | 4, _ => ok_4
  | 5, _ => ok_5
  | 6, _ => ok_6
  | 7, _ => ok_7
  | 8, _ => ok_8
  | 9, _ => ok_9
  | 10, _ => ok_10
  | 11, _ => ok_11
  | 12, _ => ok_12
  | 13, _ => ok_13
  | 14, _ => ok_14
  | 15, _ => ok_15
  | 16, _ => ok_16
  | 17, _ => ok_17
  | 18, _ => ok_18
  | 19, _ => ok_19
  | k + 20, h => absurd h (by omega)
theorem okc_1 : ∀ k, k < 20 → bOK (20 + k)
  | 0, _ => ok_20
  | 1, _ => ok_21
  | 2, _ => ok_22
  | 3, _ => ok_23
  | 4, _ => ok_24
  | 5, _ => ok_25
  | 6, _ => ok_26
  | 7, _ => ok_27
  | 8, _ => ok_28
  | 9, _ => ok_29
  | 10, _ => ok_30
  | 11, _ => ok_31
  | 12, _ => ok_32
  | 13, _ => ok_33
  | 14, _ => ok_34
  | 15, _ => ok_35
  | 16, _ => ok_36
  | 17, _ => ok_37
  | 18, _ => ok_38
  | 19, _ => ok_39
  | k + 20, h => absurd h (by omega)
theorem okc_2 : ∀ k, k < 20 → bOK (40 + k)
  | 0, _ => ok_40
  | 1, _ => ok_41
  | 2, _ => ok_42
  | 3, _ => ok_43
  | 4, _ => ok_44
  | 5, _ => ok_45
  | 6, _ => ok_46
  | 7, _ => ok_47
  | 8, _ => ok_48
  | 9, _ => ok_49
  | 10, _ => ok_50
  | 11, _ => ok_51
  | 12, _ => ok_52
  | 13, _ => ok_53
  | 14, _ => ok_54
  | 15, _ => ok_55
  | 16, _ => ok_56
  | 17, _ => ok_57
  | 18, _ => ok_58
  | 19, _ => ok_59
  | k + 20, h => absurd h (by omega)
theorem okc_3 : ∀ k, k < 20 → bOK (60 + k)
  | 0, _ => ok_60
  | 1, _ => ok_61
  | 2, _ => ok_62
  | 3, _ => ok_63
  | 4, _ => ok_64
  | 5, _ => ok_65
  | 6, _ => ok_66
  | 7, _ => ok_67
  | 8, _ => ok_68
  | 9, _ => ok_69
  | 10, _ => ok_70
  | 11, _ => ok_71
  | 12, _ => ok_72
  | 13, _ => ok_73
  | 14, _ => ok_74
  | 15, _ => ok_75
  | 16, _ => ok_76
  | 17, _ => ok_77
  | 18, _ => ok_78
  | 19, _ => ok_79
  | k + 20, h => absurd h (by omega)
theorem okc_4 : ∀ k, k < 20 → bOK (80 + k)
  | 0, _ => ok_80
  | 1, _ => ok_81
  | 2, _ => ok_82
  | 3, _ => ok_83
  | 4, _ => ok_84
  | 5, _ => ok_85
  | 6, _ => ok_86
  | 7, _ => ok_87
  | 8, _ => ok_88
  | 9, _ => ok_89
  | 10, _ => ok_90
  | 11, _ => ok_91
  | 12, _ => ok_92
  | 13, _ => ok_93
  | 14, _ => ok_94
  | 15, _ => ok_95
  | 16, _ => ok_96
  | 17, _ => ok_97
  | 18, _ => ok_98
  | 19, _ => ok_99
  | k + 20, h => absurd h (by omega)
theorem okc_5 : ∀ k, k < 20 → bOK (100 + k)
  | 0, _ => ok_100
  | 1, _ => ok_101
  | 2, _ => ok_102
  | 3, _ => ok_103
  | 4, _ => ok_104
  | 5, _ => ok_105
  | 6, _ => ok_106
  | 7, _ => ok_107
  | 8, _ => ok_108
  | 9, _ => ok_109
  | 10, _ => ok_110
  | 11, _ => ok_111
  | 12, _ => ok_112
  | 13, _ => ok_113
  | 14, _ => ok_114
  | 15, _ => ok_115
  | 16, _ => ok_116
  | 17, _ => ok_117
  | 18, _ => ok_118
  | 19, _ => ok_119
  | k + 20, h => absurd h (by omega)
theorem okc_6 : ∀ k, k < 20 → bOK (120 + k)
  | 0, _ => ok_120
  | 1, _ => ok_121
  | 2, _ => ok_122
  | 3, _ => ok_123
  | 4, _ => ok_124
  | 5, _ => ok_125
  | 6, _ => ok_126
  | 7, _ => ok_127
  | 8, _ => ok_128
  | 9, _ => ok_129
  | 10, _ => ok_130
  | 11, _ => ok_131
  | 12, _ => ok_132
  | 13, _ => ok_133
  | 14, _ => ok_134
  | 15, _ => ok_135
  | 16, _ => ok_136
  | 17, _ => ok_137
  | 18, _ => ok_138
  | 19, _ => ok_139
  | k + 20, h => absurd h (by omega)
theorem okc_7 : ∀ k, k < 20 → bOK (140 + k)
  | 0, _ => ok_140
  | 1, _ => ok_141
  | 2, _ => ok_142
  | 3, _ => ok_143
  | 4, _ => ok_144
  | 5, _ => ok_145
  | 6, _ => ok_146
  | 7, _ => ok_147
  | 8, _ => ok_148
  | 9, _ => ok_149
  | 10, _ => ok_150
  | 11, _ => ok_151
  | 12, _ => ok_152
  | 13, _ => ok_153
  | 14, _ => ok_154
  | 15, _ => ok_155
  | 16, _ => ok_156
  | 17, _ => ok_157
  | 18, _ => ok_158
  | 19, _ => ok_159
  | k + 20, h => absurd h (by omega)
theorem okc_8 : ∀ k, k < 20 → bOK (160 + k)
  | 0, _ => ok_160
  | 1, _ => ok_161
  | 2, _ => ok_162
  | 3, _ => ok_163
  | 4, _ => ok_164
  | 5, _ => ok_165
  | 6, _ => ok_166
  | 7, _ => ok_167
  | 8, _ => ok_168
  | 9, _ => ok_169
  | 10, _ => ok_170
  | 11, _ => ok_171
  | 12, _ => ok_172
  | 13, _ => ok_173
  | 14, _ => ok_174
  | 15, _ => ok_175
  | 16, _ => ok_176
  | 17, _ => ok_177
  | 18, _ => ok_178
  | 19, _ => ok_179
  | k + 20, h => absurd h (by omega)
theorem okc_9 : ∀ k, k < 20 → bOK (180 + k)
  | 0, _ => ok_180
  | 1, _ => ok_181
  | 2, _ => ok_182
  | 3, _ => ok_183
  | 4, _ => ok_184
  | 5, _ => ok_185
  | 6, _ => ok_186
  | 7, _ => ok_187
  | 8, _ => ok_188
  | 9, _ => ok_189
  | 10, _ => ok_190
  | 11, _ => ok_191
  | 12, _ => ok_192
  | 13, _ => ok_193
  | 14, _ => ok_194
  | 15, _ => ok_195
  | 16, _ => ok_196
  | 17, _ => ok_197
  | 18, _ => ok_198
  | 19, _ => ok_199
  | k + 20, h => absurd h (by omega)
theorem okc_10 : ∀ k, k < 20 → bOK (200 + k)
  | 0, _ => ok_200
  | 1, _ => ok_201
  | 2, _ => ok_202
  | 3, _ => ok_203
  | 4, _ => ok_204
  | 5, _ => ok_205
  | 6, _ => ok_206
  | 7, _ => ok_207
  | 8, _ => ok_208
  | 9, _ => ok_209
  | 10, _ => ok_210
  | 11, _ => ok_211
  | 12, _ => ok_212
  | 13, _ => ok_213
  | 14, _ => ok_214
  | 15, _ => ok_215
  | 16, _ => ok_216
  | 17, _ => ok_217
  | 18, _ => ok_218
  | 19, _ => ok_219
  | k + 20, h => absurd h (by omega)
theorem okc_11 : ∀ k, k < 20 → bOK (220 + k)
  | 0, _ => ok_220
  | 1, _ => ok_221
  | 2, _ => ok_222
  | 3, _ => ok_223
  | 4, _ => ok_224
  | 5, _ => ok_225
  | 6, _ => ok_226
  | 7, _ => ok_227
  | 8, _ => ok_228
  | 9, _ => ok_229
  | 10, _ => ok_230
  | 11, _ => ok_231
  | 12, _ => ok_232
  | 13, _ => ok_233
  | 14, _ => ok_234
  | 15, _ => ok_235
  | 16, _ => ok_236
  | 17, _ => ok_237
  | 18, _ => ok_238
  | 19, _ => ok_239
  | k + 20, h => absurd h (by omega)
theorem okc_12 : ∀ k, k < 20 → bOK (240 + k)
  | 0, _ => ok_240
  | 1, _ => ok_241
  | 2, _ => ok_242
  | 3, _ => ok_243
  | 4, _ => ok_244
  | 5, _ => ok_245
  | 6, _ => ok_246
  | 7, _ => ok_247
  | 8, _ => ok_248
  | 9, _ => ok_249
  | 10, _ => ok_250
  | 11, _ => ok_251
  | 12, _ => ok_252
  | 13, _ => ok_253
  | 14, _ => ok_254
  | 15, _ => ok_255
  | 16, _ => ok_256
  | 17, _ => ok_257
  | 18, _ => ok_258
  | 19, _ => ok_259
  | k + 20, h => absurd h (by omega)
theorem okc_13 : ∀ k, k < 20 → bOK (260 + k)
  | 0, _ => ok_260
  | 1, _ => ok_261
  | 2, _ => ok_262
  | 3, _ => ok_263
  | 4, _ => ok_264
  | 5, _ => ok_265
  | 6, _ => ok_266
  | 7, _ => ok_267
  | 8, _ => ok_268
  | 9, _ => ok_269
  | 10, _ => ok_270
  | 11, _ => ok_271
  | 12, _ => ok_272
  | 13, _ => ok_273
  | 14, _ => ok_274
  | 15, _ => ok_275
  | 16, _ => ok_276
  | 17, _ => ok_277
  | 18, _ => ok_278
  | 19, _ => ok_279
  | k + 20, h => absurd h (by omega)
theorem okc_14 : ∀ k, k < 20 → bOK (280 + k)
  | 0, _ => ok_280
  | 1, _ => ok_281
  | 2, _ => ok_282
  | 3, _ => ok_283
  | 4, _ => ok_284
  | 5, _ => ok_285
  | 6, _ => ok_286
  | 7, _ => ok_287
  | 8, _ => ok_288
  | 9, _ => ok_289
  | 10, _ => ok_290
  | 11, _ => ok_291
  | 12, _ => ok_292
  | 13, _ => ok_293
  | 14, _ => ok_294
  | 15, _ => ok_295
  | 16, _ => ok_296
  | 17, _ => ok_297
  | 18, _ => ok_298
  | 19, _ => ok_299
  | k + 20, h => absurd h (by omega)
theorem okc_15 : ∀ k, k < 20 → bOK (300 + k)
  | 0, _ => ok_300
  | 1, _ => ok_301
  | 2, _ => ok_302
  | 3, _ => ok_303
  | 4, _ => ok_304
  | 5, _ => ok_305
  | 6, _ => ok_306
  | 7, _ => ok_307
  | 8, _ => ok_308
  | 9, _ => ok_309
  | 10, _ => ok_310
  | 11, _ => ok_311
  | 12, _ => ok_312
  | 13, _ => ok_313
  | 14, _ => ok_314
  | 15, _ => ok_315
  | 16, _ => ok_316
  | 17, _ => ok_317
  | 18, _ => ok_318
  | 19, _ => ok_319
  | k + 20, h => absurd h (by omega)
theorem okc_16 : ∀ k, k < 13 → bOK (320 + k)
  | 0, _ => ok_320
  | 1, _ => ok_321
  | 2, _ => ok_322
  | 3, _ => ok_323
  | 4, _ => ok_324
  | 5, _ => ok_325
  | 6, _ => ok_326
  | 7, _ => ok_327
  | 8, _ => ok_328
  | 9, _ => ok_329
  | 10, _ => ok_330
  | 11, _ => ok_331
  | 12, _ => ok_332
  | k + 13, h => absurd h (by omega)
theorem ok_all (f : Nat) : bOK f := by
  by_cases h : f < 333
  · have e : f = 20 * (f / 20) + f % 20 := by omega
    have h2 : f % 20 < 20 := by omega
    have h3 : f / 20 < 17 := by omega
    generalize f / 20 = a at e h3
    generalize f % 20 = b at e h2
    subst e
    match a, h3 with
    | 0, _ => exact okc_0 b (by omega)
    | 1, _ => exact okc_1 b (by omega)
    | 2, _ => exact okc_2 b (by omega)
    | 3, _ => exact okc_3 b (by omega)
    | 4, _ => exact okc_4 b (by omega)
    | 5, _ => exact okc_5 b (by omega)
    | 6, _ => exact okc_6 b (by omega)
    | 7, _ => exact okc_7 b (by omega)
    | 8, _ => exact okc_8 b (by omega)
    | 9, _ => exact okc_9 b (by omega)
    | 10, _ => exact okc_10 b (by omega)
    | 11, _ => exact okc_11 b (by omega)
    | 12, _ => exact okc_12 b (by omega)
    | 13, _ => exact okc_13 b (by omega)
    | 14, _ => exact okc_14 b (by omega)
    | 15, _ => exact okc_15 b (by omega)
    | 16, _ => exact okc_16 b (by omega)
    | a + 17, h3 => exact absurd h3 (by omega)
  · intro d cal av m r hO h1
    exfalso
    have e : bBody f = bN := by
      unfold bBody
      rw [List.getD_eq_getElem?_getD]
      have : (bBdL.getD (f / 20) [])[f % 20]? = none := by
        by_cases h4 : f / 20 = 16
        · rw [h4]
          have : 13 ≤ f % 20 := by omega
          rw [List.getElem?_eq_none]
          show (bBd16).length ≤ f % 20
          exact this
        · have h5 : 17 ≤ f / 20 := by omega
          rw [List.getD_eq_getElem?_getD, List.getElem?_eq_none (show bBdL.length ≤ f / 20 from h5)]
          rfl
      rw [this]; rfl
    rw [e] at h1
    cases h1
theorem sem_ok : ∀ (n f : Nat) (av : List bV) (m : bM) (r : bM × Int), sem n f av m = some r → ∃ d, d + 1 ≤ n ∧ bCal bSY (bInfo f).1 (bInfo f).2.1 (bInfo f).2.2.1 (bInfo f).2.2.2 d av m r
  | 0, f, av, m, r, h => by cases h
  | n + 1, f, av, m, r, h => ⟨n, Nat.le_refl _, ok_all f n (sem n) av m r (fun f av m r hf => by
      obtain ⟨d, h1, h2⟩ := sem_ok n f av m r hf
      exact ⟨d, ⟨h1, nl_all f⟩, h2⟩) h⟩
