abbrev mX0_clear : fr_M := (yX0_clear, cX0_clear, 1, none, 1, 23)
abbrev mX0_setting : fr_M := (yX0_setting, cX0_setting, 2, (some .int), 0, 0)
abbrev mX0_latest : fr_M := (yX0_latest, cX0_latest, 9, (some (.object "LifeRents$Line")), 1, 24)
abbrev mX1_has : fr_M := (yX1_has, cX1_has, 2, (some .boolean), 0, 0)
abbrev mX1_write : fr_M := (yX1_write, cX1_write, 5, (some .int), 0, 0)
abbrev mX1_know : fr_M := (yX1_know, cX1_know, 3, none, 2, 44)
abbrev mX1_knowDeaths : fr_M := (yX1_knowDeaths, cX1_knowDeaths, 2, none, 1, 23)
abbrev mX1_livedIn : fr_M := (yX1_livedIn, cX1_livedIn, 3, (some .boolean), 1, 22)
abbrev mX1_isDead : fr_M := (yX1_isDead, cX1_isDead, 2, (some .boolean), 0, 0)
abbrev mX1_isAliveIn : fr_M := (yX1_isAliveIn, cX1_isAliveIn, 3, (some .boolean), 0, 0)
abbrev mX1_isFalse : fr_M := (yX1_isFalse, cX1_isFalse, 2, (some .boolean), 0, 0)
abbrev mX1_hasProof : fr_M := (yX1_hasProof, cX1_hasProof, 5, (some .boolean), 0, 0)
abbrev mX1_latestProof : fr_M := (yX1_latestProof, cX1_latestProof, 4, (some .int), 0, 0)
abbrev mX2_clearOffers : fr_M := (yX2_clearOffers, cX2_clearOffers, 1, none, 0, 0)
abbrev mX2_offer : fr_M := (yX2_offer, cX2_offer, 4, none, 0, 0)
abbrev mX2_choose : fr_M := (yX2_choose, cX2_choose, 5, (some .int), 1, 23)
abbrev mX2_countRows : fr_M := (yX2_countRows, cX2_countRows, 4, (some .int), 0, 0)
abbrev mX2_turn : fr_M := (yX2_turn, cX2_turn, 3, none, 0, 0)
abbrev mX2_keep : fr_M := (yX2_keep, cX2_keep, 2, none, 0, 0)
abbrev mX3_has : fr_M := (yX3_has, cX3_has, 2, (some .boolean), 0, 0)
abbrev mX3_isFull : fr_M := (yX3_isFull, cX3_isFull, 1, (some .boolean), 0, 0)
abbrev mX3_buy : fr_M := (yX3_buy, cX3_buy, 2, (some .int), 1, 20)
abbrev mX3_passOn : fr_M := (yX3_passOn, cX3_passOn, 6, (some .boolean), 0, 0)
abbrev mX3_heldBy : fr_M := (yX3_heldBy, cX3_heldBy, 4, (some .int), 2, 46)
abbrev mX3_spreadParts : fr_M := (yX3_spreadParts, cX3_spreadParts, 4, none, 1, 23)
abbrev mX3_firstAloneOn : fr_M := (yX3_firstAloneOn, cX3_firstAloneOn, 3, (some .int), 1, 21)
abbrev mX3_coinsAloneOn : fr_M := (yX3_coinsAloneOn, cX3_coinsAloneOn, 4, (some .int), 1, 21)
abbrev mX3_isDue : fr_M := (yX3_isDue, cX3_isDue, 4, (some .boolean), 1, 22)
abbrev mX3_isProved : fr_M := (yX3_isProved, cX3_isProved, 6, (some .boolean), 1, 24)
abbrev mX3_reopen : fr_M := (yX3_reopen, cX3_reopen, 1, none, 0, 0)
abbrev mX3_settle : fr_M := (yX3_settle, cX3_settle, 5, none, 3, 75)
abbrev mX3_pay : fr_M := (yX3_pay, cX3_pay, 7, none, 2, 49)
abbrev mX3_gainsOf : fr_M := (yX3_gainsOf, cX3_gainsOf, 6, (some .int), 3, 73)
abbrev mX3_shareOf : fr_M := (yX3_shareOf, cX3_shareOf, 8, (some .int), 2, 46)
abbrev mX3_debtOf : fr_M := (yX3_debtOf, cX3_debtOf, 5, (some .int), 3, 66)
abbrev mX3_debts : fr_M := (yX3_debts, cX3_debts, 4, (some .int), 4, 90)
abbrev mX3_payments : fr_M := (yX3_payments, cX3_payments, 5, (some .int), 1, 22)
abbrev mX3_takings : fr_M := (yX3_takings, cX3_takings, 4, (some .int), 0, 0)
abbrev mX4_begin : fr_M := (yX4_begin, cX4_begin, 2, none, 0, 0)
abbrev mX4_hasTold : fr_M := (yX4_hasTold, cX4_hasTold, 2, (some .boolean), 0, 0)
abbrev mX4_fits : fr_M := (yX4_fits, cX4_fits, 5, (some .boolean), 0, 0)
abbrev mX5_has : fr_M := (yX5_has, cX5_has, 2, (some .boolean), 0, 0)
abbrev mX5_enter : fr_M := (yX5_enter, cX5_enter, 3, (some .int), 0, 0)
abbrev mX5_ageIn : fr_M := (yX5_ageIn, cX5_ageIn, 3, (some .int), 0, 0)
abbrev mX5_younger : fr_M := (yX5_younger, cX5_younger, 4, (some .int), 1, 22)
abbrev mX6_putBytes : fr_M := (yX6_putBytes, cX6_putBytes, 3, none, 0, 0)
abbrev mX6_read : fr_M := (yX6_read, cX6_read, 4, (some .int), 8, 172)
abbrev mX6_skipBlanks : fr_M := (yX6_skipBlanks, cX6_skipBlanks, 1, none, 0, 0)
abbrev mX6_takeToken : fr_M := (yX6_takeToken, cX6_takeToken, 1, none, 7, 152)
abbrev mX6_isLetter : fr_M := (yX6_isLetter, cX6_isLetter, 1, (some .boolean), 0, 0)
abbrev mX6_isDigit : fr_M := (yX6_isDigit, cX6_isDigit, 1, (some .boolean), 0, 0)
abbrev mX6_takeWord : fr_M := (yX6_takeWord, cX6_takeWord, 5, none, 6, 128)
abbrev mX6_spells : fr_M := (yX6_spells, cX6_spells, 3, (some .boolean), 5, 106)
abbrev mX6_takeNumber : fr_M := (yX6_takeNumber, cX6_takeNumber, 1, none, 1, 21)
abbrev mX6_put : fr_M := (yX6_put, cX6_put, 1, (some .int), 2, 42)
abbrev mX6_putLineWord : fr_M := (yX6_putLineWord, cX6_putLineWord, 1, (some .int), 1, 21)
abbrev mX6_putAmount : fr_M := (yX6_putAmount, cX6_putAmount, 2, (some .int), 1, 20)
abbrev mX6_numberFault : fr_M := (yX6_numberFault, cX6_numberFault, 1, (some .int), 0, 0)
abbrev mX6_putWhom : fr_M := (yX6_putWhom, cX6_putWhom, 1, (some .int), 1, 21)
abbrev mX6_putFrom : fr_M := (yX6_putFrom, cX6_putFrom, 1, (some .int), 1, 20)
abbrev mX6_putUpTo : fr_M := (yX6_putUpTo, cX6_putUpTo, 2, (some .int), 1, 20)
abbrev mX6_putClass : fr_M := (yX6_putClass, cX6_putClass, 3, (some .int), 1, 20)
abbrev mX6_putLineEnd : fr_M := (yX6_putLineEnd, cX6_putLineEnd, 1, (some .int), 0, 0)
abbrev mX7_isAloneOn : fr_M := (yX7_isAloneOn, cX7_isAloneOn, 2, (some .boolean), 0, 0)
abbrev mX7_forgetFrom : fr_M := (yX7_forgetFrom, cX7_forgetFrom, 3, none, 0, 0)
abbrev mX7_isPaidBy : fr_M := (yX7_isPaidBy, cX7_isPaidBy, 3, (some .boolean), 0, 0)
abbrev mX8_countYears : fr_M := (yX8_countYears, cX8_countYears, 5, none, 2, 49)
abbrev mX8_countYearsOf : fr_M := (yX8_countYearsOf, cX8_countYearsOf, 9, none, 1, 21)
abbrev mX8_live : fr_M := (yX8_live, cX8_live, 6, (some .int), 3, 73)
abbrev mX8_fillRow : fr_M := (yX8_fillRow, cX8_fillRow, 6, none, 4, 98)
abbrev mX8_worthOf : fr_M := (yX8_worthOf, cX8_worthOf, 9, (some .int), 5, 123)
abbrev mX8_worthOnOne : fr_M := (yX8_worthOnOne, cX8_worthOnOne, 5, (some .int), 1, 22)
abbrev mX8_worthTillFirst : fr_M := (yX8_worthTillFirst, cX8_worthTillFirst, 7, (some .int), 1, 22)
abbrev mX8_yearBefore : fr_M := (yX8_yearBefore, cX8_yearBefore, 3, (some .int), 0, 0)
abbrev mX10_feed : fr_M := (yX10_feed, cX10_feed, 6, (some .int), 1, 22)
abbrev mX10_acts : fr_M := (yX10_acts, cX10_acts, 4, (some .int), 9, 195)
abbrev mX10_fault : fr_M := (yX10_fault, cX10_fault, 2, (some .int), 0, 0)
abbrev mX10_halves : fr_M := (yX10_halves, cX10_halves, 2, (some .int), 0, 0)
abbrev mX10_life : fr_M := (yX10_life, cX10_life, 3, (some .int), 1, 22)
abbrev mX10_asks : fr_M := (yX10_asks, cX10_asks, 3, (some .int), 4, 101)
abbrev mX10_rent : fr_M := (yX10_rent, cX10_rent, 5, (some .int), 4, 101)
abbrev mX10_sell : fr_M := (yX10_sell, cX10_sell, 5, (some .boolean), 3, 69)
abbrev mX10_parts : fr_M := (yX10_parts, cX10_parts, 4, (some .int), 3, 69)
abbrev mX10_note : fr_M := (yX10_note, cX10_note, 4, (some .int), 1, 24)
abbrev mX10_strike : fr_M := (yX10_strike, cX10_strike, 2, (some .int), 1, 24)
abbrev mX10_dead : fr_M := (yX10_dead, cX10_dead, 3, (some .int), 3, 66)
abbrev mX10_holds : fr_M := (yX10_holds, cX10_holds, 3, (some .int), 3, 66)
abbrev mX10_paid : fr_M := (yX10_paid, cX10_paid, 4, (some .int), 4, 99)
abbrev mX10_got : fr_M := (yX10_got, cX10_got, 3, (some .int), 4, 99)
abbrev mX10_owed : fr_M := (yX10_owed, cX10_owed, 3, (some .int), 4, 99)
abbrev mX10_state : fr_M := (yX10_state, cX10_state, 3, (some .int), 5, 113)
abbrev mX10_sold : fr_M := (yX10_sold, cX10_sold, 4, (some .boolean), 1, 20)
abbrev mX10_own : fr_M := (yX10_own, cX10_own, 5, (some .int), 4, 98)
abbrev mX10_worth : fr_M := (yX10_worth, cX10_worth, 4, (some .int), 7, 174)
abbrev mX10_names : fr_M := (yX10_names, cX10_names, 4, (some .int), 7, 174)
abbrev mX10_named : fr_M := (yX10_named, cX10_named, 2, (some .int), 1, 21)
abbrev mX10_look : fr_M := (yX10_look, cX10_look, 3, (some .int), 3, 70)
abbrev mX10_risk : fr_M := (yX10_risk, cX10_risk, 2, (some .long), 3, 70)
abbrev mX10_converts : fr_M := (yX10_converts, cX10_converts, 9, (some .int), 7, 174)
abbrev mX10_count : fr_M := (yX10_count, cX10_count, 2, (some .int), 1, 21)
abbrev mX10_isHalf : fr_M := (yX10_isHalf, cX10_isHalf, 1, (some .boolean), 0, 0)
abbrev mX10_isClass : fr_M := (yX10_isClass, cX10_isClass, 1, (some .boolean), 0, 0)
abbrev mX10_isGroup : fr_M := (yX10_isGroup, cX10_isGroup, 1, (some .boolean), 0, 0)
abbrev mX10_isHolder : fr_M := (yX10_isHolder, cX10_isHolder, 1, (some .boolean), 0, 0)
abbrev mX10_hasBegun : fr_M := (yX10_hasBegun, cX10_hasBegun, 2, (some .boolean), 0, 0)
abbrev mX10_hasYearsLeft : fr_M := (yX10_hasYearsLeft, cX10_hasYearsLeft, 2, (some .boolean), 1, 22)
abbrev mX10_groupOf : fr_M := (yX10_groupOf, cX10_groupOf, 1, (some .int), 1, 21)
abbrev mX10_ruling : fr_M := (yX10_ruling, cX10_ruling, 7, (some (.object "LifeRents$Line")), 2, 52)
abbrev mX10_mayBeNamed : fr_M := (yX10_mayBeNamed, cX10_mayBeNamed, 4, (some .boolean), 3, 78)
abbrev mX10_priceOn : fr_M := (yX10_priceOn, cX10_priceOn, 4, (some .int), 3, 78)
abbrev mX10_lumpOn : fr_M := (yX10_lumpOn, cX10_lumpOn, 4, (some .int), 3, 78)
abbrev mX10_worthNow : fr_M := (yX10_worthNow, cX10_worthNow, 4, (some .int), 6, 151)
abbrev mX10_riskOn : fr_M := (yX10_riskOn, cX10_riskOn, 7, (some .long), 2, 44)
abbrev mX10_riskierThan : fr_M := (yX10_riskierThan, cX10_riskierThan, 5, (some .int), 1, 21)
abbrev mJ9_min_7cf53 : fr_M := (yJ9_min_7cf53, cJ9_min_7cf53, 2, (some .int), 0, 0)
abbrev mJ9_max_7cf53 : fr_M := (yJ9_max_7cf53, cJ9_max_7cf53, 2, (some .int), 0, 0)
abbrev mJ7_fill_53178 : fr_M := (yJ7_fill_53178, cJ7_fill_53178, 4, none, 0, 0)
theorem fl_X0_11 : FL RX0 11 0 0 := FL.of rfl (by decide) (tb1 _ (List.mem_of_getElem? (i := 149) (by decide +kernel)))
theorem fl_X0_21 : FL RX0 21 0 2 := FL.of rfl (by decide) (tb1 _ (List.mem_of_getElem? (i := 154) (by decide +kernel)))
theorem fl_X0_28 : FL RX0 28 0 1 := FL.of rfl (by decide) (tb1 _ (List.mem_of_getElem? (i := 151) (by decide +kernel)))
theorem fl_X0_38 : FL RX0 38 4 0 := FL.of rfl (by decide) (tb1 _ (List.mem_of_getElem? (i := 108) (by decide +kernel)))
theorem fl_X1_9 : FL RX1 9 1 1 := FL.of rfl (by decide) (tb1 _ (List.mem_of_getElem? (i := 193) (by decide +kernel)))
theorem fl_X1_15 : FL RX1 15 1 2 := FL.of rfl (by decide) (tb1 _ (List.mem_of_getElem? (i := 194) (by decide +kernel)))
theorem fl_X1_18 : FL RX1 18 1 3 := FL.of rfl (by decide) (tb1 _ (List.mem_of_getElem? (i := 195) (by decide +kernel)))
theorem fl_X1_21 : FL RX1 21 1 4 := FL.of rfl (by decide) (tb1 _ (List.mem_of_getElem? (i := 196) (by decide +kernel)))
theorem fl_X1_24 : FL RX1 24 1 6 := FL.of rfl (by decide) (tb1 _ (List.mem_of_getElem? (i := 199) (by decide +kernel)))
theorem fl_X1_28 : FL RX1 28 1 7 := FL.of rfl (by decide) (tb1 _ (List.mem_of_getElem? (i := 200) (by decide +kernel)))
theorem fl_X1_32 : FL RX1 32 1 8 := FL.of rfl (by decide) (tb1 _ (List.mem_of_getElem? (i := 202) (by decide +kernel)))
theorem fl_X1_35 : FL RX1 35 1 9 := FL.of rfl (by decide) (tb1 _ (List.mem_of_getElem? (i := 203) (by decide +kernel)))
theorem fl_X1_38 : FL RX1 38 1 0 := FL.of rfl (by decide) (tb1 _ (List.mem_of_getElem? (i := 192) (by decide +kernel)))
theorem fl_X1_48 : FL RX1 48 1 5 := FL.of rfl (by decide) (tb1 _ (List.mem_of_getElem? (i := 197) (by decide +kernel)))
theorem fl_X1_61 : FL RX1 61 5 0 := FL.of rfl (by decide) (tb1 _ (List.mem_of_getElem? (i := 171) (by decide +kernel)))
theorem fl_X10_10 : FL RX10 10 10 0 := FL.of rfl (by decide) (tb2 _ (List.mem_of_getElem? (i := 108) (by decide +kernel)))
theorem fl_X10_19 : FL RX10 19 10 1 := FL.of rfl (by decide) (tb2 _ (List.mem_of_getElem? (i := 109) (by decide +kernel)))
theorem fl_X10_23 : FL RX10 23 10 2 := FL.of rfl (by decide) (tb2 _ (List.mem_of_getElem? (i := 110) (by decide +kernel)))
theorem fl_X10_29 : FL RX10 29 10 4 := FL.of rfl (by decide) (tb2 _ (List.mem_of_getElem? (i := 112) (by decide +kernel)))
theorem fl_X10_38 : FL RX10 38 10 5 := FL.of rfl (by decide) (tb2 _ (List.mem_of_getElem? (i := 113) (by decide +kernel)))
theorem fl_X10_47 : FL RX10 47 10 6 := FL.of rfl (by decide) (tb2 _ (List.mem_of_getElem? (i := 114) (by decide +kernel)))
theorem fl_X10_56 : FL RX10 56 10 7 := FL.of rfl (by decide) (tb2 _ (List.mem_of_getElem? (i := 115) (by decide +kernel)))
theorem fl_X10_63 : FL RX10 63 10 8 := FL.of rfl (by decide) (tb2 _ (List.mem_of_getElem? (i := 116) (by decide +kernel)))
theorem fl_X10_67 : FL RX10 67 10 9 := FL.of rfl (by decide) (tb2 _ (List.mem_of_getElem? (i := 117) (by decide +kernel)))
theorem fl_X10_71 : FL RX10 71 6 1 := FL.of rfl (by decide) (tb1 _ (List.mem_of_getElem? (i := 40) (by decide +kernel)))
theorem fl_X10_86 : FL RX10 86 6 14 := FL.of rfl (by decide) (tb1 _ (List.mem_of_getElem? (i := 55) (by decide +kernel)))
theorem fl_X10_89 : FL RX10 89 6 15 := FL.of rfl (by decide) (tb1 _ (List.mem_of_getElem? (i := 57) (by decide +kernel)))
theorem fl_X10_92 : FL RX10 92 10 3 := FL.of rfl (by decide) (tb2 _ (List.mem_of_getElem? (i := 111) (by decide +kernel)))
theorem fl_X10_152 : FL RX10 152 1 9 := FL.of rfl (by decide) (tb1 _ (List.mem_of_getElem? (i := 205) (by decide +kernel)))
theorem fl_X10_156 : FL RX10 156 1 7 := FL.of rfl (by decide) (tb1 _ (List.mem_of_getElem? (i := 201) (by decide +kernel)))
theorem fl_X10_167 : FL RX10 167 3 1 := FL.of rfl (by decide) (tb1 _ (List.mem_of_getElem? (i := 238) (by decide +kernel)))
theorem fl_X10_171 : FL RX10 171 7 6 := FL.of rfl (by decide) (tb3 _ (List.mem_of_getElem? (i := 165) (by decide +kernel)))
theorem fl_X10_206 : FL RX10 206 8 2 := FL.of rfl (by decide) (tb2 _ (List.mem_of_getElem? (i := 44) (by decide +kernel)))
theorem fl_X10_214 : FL RX10 214 8 3 := FL.of rfl (by decide) (tb2 _ (List.mem_of_getElem? (i := 46) (by decide +kernel)))
theorem fl_X10_217 : FL RX10 217 8 4 := FL.of rfl (by decide) (tb2 _ (List.mem_of_getElem? (i := 48) (by decide +kernel)))
theorem fl_X10_236 : FL RX10 236 5 2 := FL.of rfl (by decide) (tb1 _ (List.mem_of_getElem? (i := 177) (by decide +kernel)))
theorem fl_X10_248 : FL RX10 248 2 10 := FL.of rfl (by decide) (tb2 _ (List.mem_of_getElem? (i := 84) (by decide +kernel)))
theorem fl_X10_252 : FL RX10 252 2 9 := FL.of rfl (by decide) (tb2 _ (List.mem_of_getElem? (i := 82) (by decide +kernel)))
theorem fl_X10_276 : FL RX10 276 7 1 := FL.of rfl (by decide) (tb3 _ (List.mem_of_getElem? (i := 151) (by decide +kernel)))
theorem fl_X10_279 : FL RX10 279 7 2 := FL.of rfl (by decide) (tb3 _ (List.mem_of_getElem? (i := 154) (by decide +kernel)))
theorem fl_X10_284 : FL RX10 284 7 3 := FL.of rfl (by decide) (tb3 _ (List.mem_of_getElem? (i := 157) (by decide +kernel)))
theorem fl_X10_289 : FL RX10 289 3 2 := FL.of rfl (by decide) (tb2 _ (List.mem_of_getElem? (i := 0) (by decide +kernel)))
theorem fl_X10_290 : FL RX10 290 1 5 := FL.of rfl (by decide) (tb1 _ (List.mem_of_getElem? (i := 198) (by decide +kernel)))
theorem fl_X10_291 : FL RX10 291 0 1 := FL.of rfl (by decide) (tb1 _ (List.mem_of_getElem? (i := 153) (by decide +kernel)))
theorem fl_X10_306 : FL RX10 306 5 1 := FL.of rfl (by decide) (tb1 _ (List.mem_of_getElem? (i := 174) (by decide +kernel)))
theorem fl_X10_326 : FL RX10 326 4 0 := FL.of rfl (by decide) (tb1 _ (List.mem_of_getElem? (i := 109) (by decide +kernel)))
theorem fl_X10_334 : FL RX10 334 4 1 := FL.of rfl (by decide) (tb1 _ (List.mem_of_getElem? (i := 112) (by decide +kernel)))
theorem fl_X10_350 : FL RX10 350 7 4 := FL.of rfl (by decide) (tb3 _ (List.mem_of_getElem? (i := 160) (by decide +kernel)))
theorem fl_X2_9 : FL RX2 9 2 0 := FL.of rfl (by decide) (tb2 _ (List.mem_of_getElem? (i := 72) (by decide +kernel)))
theorem fl_X2_15 : FL RX2 15 2 1 := FL.of rfl (by decide) (tb2 _ (List.mem_of_getElem? (i := 73) (by decide +kernel)))
theorem fl_X2_18 : FL RX2 18 2 2 := FL.of rfl (by decide) (tb2 _ (List.mem_of_getElem? (i := 74) (by decide +kernel)))
theorem fl_X2_21 : FL RX2 21 2 4 := FL.of rfl (by decide) (tb2 _ (List.mem_of_getElem? (i := 76) (by decide +kernel)))
theorem fl_X2_24 : FL RX2 24 2 9 := FL.of rfl (by decide) (tb2 _ (List.mem_of_getElem? (i := 81) (by decide +kernel)))
theorem fl_X2_27 : FL RX2 27 2 3 := FL.of rfl (by decide) (tb2 _ (List.mem_of_getElem? (i := 75) (by decide +kernel)))
theorem fl_X2_44 : FL RX2 44 2 5 := FL.of rfl (by decide) (tb2 _ (List.mem_of_getElem? (i := 77) (by decide +kernel)))
theorem fl_X2_47 : FL RX2 47 2 6 := FL.of rfl (by decide) (tb2 _ (List.mem_of_getElem? (i := 78) (by decide +kernel)))
theorem fl_X2_50 : FL RX2 50 2 7 := FL.of rfl (by decide) (tb2 _ (List.mem_of_getElem? (i := 79) (by decide +kernel)))
theorem fl_X2_53 : FL RX2 53 2 8 := FL.of rfl (by decide) (tb2 _ (List.mem_of_getElem? (i := 80) (by decide +kernel)))
theorem fl_X2_56 : FL RX2 56 2 10 := FL.of rfl (by decide) (tb2 _ (List.mem_of_getElem? (i := 83) (by decide +kernel)))
theorem fl_X3_11 : FL RX3 11 3 1 := FL.of rfl (by decide) (tb1 _ (List.mem_of_getElem? (i := 237) (by decide +kernel)))
theorem fl_X3_17 : FL RX3 17 3 3 := FL.of rfl (by decide) (tb2 _ (List.mem_of_getElem? (i := 1) (by decide +kernel)))
theorem fl_X3_21 : FL RX3 21 3 4 := FL.of rfl (by decide) (tb2 _ (List.mem_of_getElem? (i := 2) (by decide +kernel)))
theorem fl_X3_24 : FL RX3 24 3 5 := FL.of rfl (by decide) (tb2 _ (List.mem_of_getElem? (i := 3) (by decide +kernel)))
theorem fl_X3_27 : FL RX3 27 3 6 := FL.of rfl (by decide) (tb2 _ (List.mem_of_getElem? (i := 4) (by decide +kernel)))
theorem fl_X3_30 : FL RX3 30 3 7 := FL.of rfl (by decide) (tb2 _ (List.mem_of_getElem? (i := 5) (by decide +kernel)))
theorem fl_X3_33 : FL RX3 33 3 9 := FL.of rfl (by decide) (tb2 _ (List.mem_of_getElem? (i := 7) (by decide +kernel)))
theorem fl_X3_36 : FL RX3 36 3 0 := FL.of rfl (by decide) (tb1 _ (List.mem_of_getElem? (i := 236) (by decide +kernel)))
theorem fl_X3_40 : FL RX3 40 3 2 := FL.of rfl (by decide) (tb1 _ (List.mem_of_getElem? (i := 239) (by decide +kernel)))
theorem fl_X3_48 : FL RX3 48 3 8 := FL.of rfl (by decide) (tb2 _ (List.mem_of_getElem? (i := 6) (by decide +kernel)))
theorem fl_X3_61 : FL RX3 61 7 4 := FL.of rfl (by decide) (tb3 _ (List.mem_of_getElem? (i := 159) (by decide +kernel)))
theorem fl_X3_64 : FL RX3 64 7 0 := FL.of rfl (by decide) (tb3 _ (List.mem_of_getElem? (i := 148) (by decide +kernel)))
theorem fl_X3_71 : FL RX3 71 7 3 := FL.of rfl (by decide) (tb3 _ (List.mem_of_getElem? (i := 156) (by decide +kernel)))
theorem fl_X3_74 : FL RX3 74 7 1 := FL.of rfl (by decide) (tb3 _ (List.mem_of_getElem? (i := 150) (by decide +kernel)))
theorem fl_X3_83 : FL RX3 83 7 2 := FL.of rfl (by decide) (tb3 _ (List.mem_of_getElem? (i := 153) (by decide +kernel)))
theorem fl_X3_96 : FL RX3 96 3 10 := FL.of rfl (by decide) (tb2 _ (List.mem_of_getElem? (i := 8) (by decide +kernel)))
theorem fl_X3_116 : FL RX3 116 7 6 := FL.of rfl (by decide) (tb3 _ (List.mem_of_getElem? (i := 164) (by decide +kernel)))
theorem fl_X3_138 : FL RX3 138 7 5 := FL.of rfl (by decide) (tb3 _ (List.mem_of_getElem? (i := 162) (by decide +kernel)))
theorem fl_X4_9 : FL RX4 9 4 0 := FL.of rfl (by decide) (tb1 _ (List.mem_of_getElem? (i := 107) (by decide +kernel)))
theorem fl_X4_15 : FL RX4 15 4 1 := FL.of rfl (by decide) (tb1 _ (List.mem_of_getElem? (i := 110) (by decide +kernel)))
theorem fl_X4_19 : FL RX4 19 4 2 := FL.of rfl (by decide) (tb1 _ (List.mem_of_getElem? (i := 113) (by decide +kernel)))
theorem fl_X4_22 : FL RX4 22 4 3 := FL.of rfl (by decide) (tb1 _ (List.mem_of_getElem? (i := 115) (by decide +kernel)))
theorem fl_X4_25 : FL RX4 25 4 4 := FL.of rfl (by decide) (tb1 _ (List.mem_of_getElem? (i := 117) (by decide +kernel)))
theorem fl_X4_28 : FL RX4 28 4 5 := FL.of rfl (by decide) (tb1 _ (List.mem_of_getElem? (i := 119) (by decide +kernel)))
theorem fl_X4_31 : FL RX4 31 4 6 := FL.of rfl (by decide) (tb1 _ (List.mem_of_getElem? (i := 121) (by decide +kernel)))
theorem fl_X4_34 : FL RX4 34 4 7 := FL.of rfl (by decide) (tb1 _ (List.mem_of_getElem? (i := 123) (by decide +kernel)))
theorem fl_X5_9 : FL RX5 9 5 0 := FL.of rfl (by decide) (tb1 _ (List.mem_of_getElem? (i := 169) (by decide +kernel)))
theorem fl_X5_15 : FL RX5 15 5 1 := FL.of rfl (by decide) (tb1 _ (List.mem_of_getElem? (i := 172) (by decide +kernel)))
theorem fl_X5_18 : FL RX5 18 5 2 := FL.of rfl (by decide) (tb1 _ (List.mem_of_getElem? (i := 175) (by decide +kernel)))
theorem fl_X6_9 : FL RX6 9 6 0 := FL.of rfl (by decide) (tb1 _ (List.mem_of_getElem? (i := 39) (by decide +kernel)))
theorem fl_X6_15 : FL RX6 15 6 15 := FL.of rfl (by decide) (tb1 _ (List.mem_of_getElem? (i := 56) (by decide +kernel)))
theorem fl_X6_19 : FL RX6 19 6 1 := FL.of rfl (by decide) (tb1 _ (List.mem_of_getElem? (i := 41) (by decide +kernel)))
theorem fl_X6_28 : FL RX6 28 6 2 := FL.of rfl (by decide) (tb1 _ (List.mem_of_getElem? (i := 42) (by decide +kernel)))
theorem fl_X6_31 : FL RX6 31 6 3 := FL.of rfl (by decide) (tb1 _ (List.mem_of_getElem? (i := 43) (by decide +kernel)))
theorem fl_X6_40 : FL RX6 40 0 0 := FL.of rfl (by decide) (tb1 _ (List.mem_of_getElem? (i := 150) (by decide +kernel)))
theorem fl_X6_44 : FL RX6 44 6 7 := FL.of rfl (by decide) (tb1 _ (List.mem_of_getElem? (i := 47) (by decide +kernel)))
theorem fl_X6_54 : FL RX6 54 6 6 := FL.of rfl (by decide) (tb1 _ (List.mem_of_getElem? (i := 46) (by decide +kernel)))
theorem fl_X6_57 : FL RX6 57 6 5 := FL.of rfl (by decide) (tb1 _ (List.mem_of_getElem? (i := 45) (by decide +kernel)))
theorem fl_X6_60 : FL RX6 60 6 4 := FL.of rfl (by decide) (tb1 _ (List.mem_of_getElem? (i := 44) (by decide +kernel)))
theorem fl_X6_63 : FL RX6 63 6 14 := FL.of rfl (by decide) (tb1 _ (List.mem_of_getElem? (i := 54) (by decide +kernel)))
theorem fl_X6_66 : FL RX6 66 6 10 := FL.of rfl (by decide) (tb1 _ (List.mem_of_getElem? (i := 50) (by decide +kernel)))
theorem fl_X6_72 : FL RX6 72 6 9 := FL.of rfl (by decide) (tb1 _ (List.mem_of_getElem? (i := 49) (by decide +kernel)))
theorem fl_X6_82 : FL RX6 82 6 13 := FL.of rfl (by decide) (tb1 _ (List.mem_of_getElem? (i := 53) (by decide +kernel)))
theorem fl_X6_85 : FL RX6 85 6 12 := FL.of rfl (by decide) (tb1 _ (List.mem_of_getElem? (i := 52) (by decide +kernel)))
theorem fl_X6_101 : FL RX6 101 6 11 := FL.of rfl (by decide) (tb1 _ (List.mem_of_getElem? (i := 51) (by decide +kernel)))
theorem fl_X6_154 : FL RX6 154 0 2 := FL.of rfl (by decide) (tb1 _ (List.mem_of_getElem? (i := 155) (by decide +kernel)))
theorem fl_X6_160 : FL RX6 160 0 1 := FL.of rfl (by decide) (tb1 _ (List.mem_of_getElem? (i := 152) (by decide +kernel)))
theorem fl_X6_175 : FL RX6 175 4 1 := FL.of rfl (by decide) (tb1 _ (List.mem_of_getElem? (i := 111) (by decide +kernel)))
theorem fl_X6_195 : FL RX6 195 4 7 := FL.of rfl (by decide) (tb1 _ (List.mem_of_getElem? (i := 124) (by decide +kernel)))
theorem fl_X6_198 : FL RX6 198 6 8 := FL.of rfl (by decide) (tb1 _ (List.mem_of_getElem? (i := 48) (by decide +kernel)))
theorem fl_X6_201 : FL RX6 201 4 2 := FL.of rfl (by decide) (tb1 _ (List.mem_of_getElem? (i := 114) (by decide +kernel)))
theorem fl_X6_204 : FL RX6 204 4 3 := FL.of rfl (by decide) (tb1 _ (List.mem_of_getElem? (i := 116) (by decide +kernel)))
theorem fl_X6_207 : FL RX6 207 4 5 := FL.of rfl (by decide) (tb1 _ (List.mem_of_getElem? (i := 120) (by decide +kernel)))
theorem fl_X6_210 : FL RX6 210 4 6 := FL.of rfl (by decide) (tb1 _ (List.mem_of_getElem? (i := 122) (by decide +kernel)))
theorem fl_X6_213 : FL RX6 213 4 4 := FL.of rfl (by decide) (tb1 _ (List.mem_of_getElem? (i := 118) (by decide +kernel)))
theorem fl_X7_9 : FL RX7 9 7 6 := FL.of rfl (by decide) (tb3 _ (List.mem_of_getElem? (i := 163) (by decide +kernel)))
theorem fl_X7_15 : FL RX7 15 7 0 := FL.of rfl (by decide) (tb3 _ (List.mem_of_getElem? (i := 147) (by decide +kernel)))
theorem fl_X7_19 : FL RX7 19 7 1 := FL.of rfl (by decide) (tb3 _ (List.mem_of_getElem? (i := 149) (by decide +kernel)))
theorem fl_X7_22 : FL RX7 22 7 2 := FL.of rfl (by decide) (tb3 _ (List.mem_of_getElem? (i := 152) (by decide +kernel)))
theorem fl_X7_25 : FL RX7 25 7 3 := FL.of rfl (by decide) (tb3 _ (List.mem_of_getElem? (i := 155) (by decide +kernel)))
theorem fl_X7_28 : FL RX7 28 7 4 := FL.of rfl (by decide) (tb3 _ (List.mem_of_getElem? (i := 158) (by decide +kernel)))
theorem fl_X7_31 : FL RX7 31 7 5 := FL.of rfl (by decide) (tb3 _ (List.mem_of_getElem? (i := 161) (by decide +kernel)))
theorem fl_X8_11 : FL RX8 11 8 2 := FL.of rfl (by decide) (tb2 _ (List.mem_of_getElem? (i := 43) (by decide +kernel)))
theorem fl_X8_16 : FL RX8 16 8 5 := FL.of rfl (by decide) (tb2 _ (List.mem_of_getElem? (i := 49) (by decide +kernel)))
theorem fl_X8_20 : FL RX8 20 8 6 := FL.of rfl (by decide) (tb2 _ (List.mem_of_getElem? (i := 50) (by decide +kernel)))
theorem fl_X8_23 : FL RX8 23 8 0 := FL.of rfl (by decide) (tb2 _ (List.mem_of_getElem? (i := 41) (by decide +kernel)))
theorem fl_X8_27 : FL RX8 27 8 1 := FL.of rfl (by decide) (tb2 _ (List.mem_of_getElem? (i := 42) (by decide +kernel)))
theorem fl_X8_37 : FL RX8 37 8 3 := FL.of rfl (by decide) (tb2 _ (List.mem_of_getElem? (i := 45) (by decide +kernel)))
theorem fl_X8_41 : FL RX8 41 8 4 := FL.of rfl (by decide) (tb2 _ (List.mem_of_getElem? (i := 47) (by decide +kernel)))
theorem fl_X8_44 : FL RX8 44 5 2 := FL.of rfl (by decide) (tb1 _ (List.mem_of_getElem? (i := 176) (by decide +kernel)))
theorem fl_X8_49 : FL RX8 49 5 1 := FL.of rfl (by decide) (tb1 _ (List.mem_of_getElem? (i := 173) (by decide +kernel)))
theorem fl_X8_56 : FL RX8 56 1 9 := FL.of rfl (by decide) (tb1 _ (List.mem_of_getElem? (i := 204) (by decide +kernel)))
theorem fl_X8_67 : FL RX8 67 5 0 := FL.of rfl (by decide) (tb1 _ (List.mem_of_getElem? (i := 170) (by decide +kernel)))
theorem ml_X0_25 : Cond.methodLink RX0 25 yX0_clear ∈ gt := gt_mem (tb1 _ (List.mem_of_getElem? (i := 142) (by decide +kernel))) rfl
theorem ml_X0_32 : Cond.methodLink RX0 32 yJ7_fill_53178 ∈ gt := gt_mem (tb1 _ (List.mem_of_getElem? (i := 146) (by decide +kernel))) rfl
theorem ml_X0_42 : Cond.methodLink RX0 42 yX4_fits ∈ gt := gt_mem (tb3 _ (List.mem_of_getElem? (i := 113) (by decide +kernel))) rfl
theorem ml_X1_42 : Cond.methodLink RX1 42 yJ7_fill_53178 ∈ gt := gt_mem (tb1 _ (List.mem_of_getElem? (i := 191) (by decide +kernel))) rfl
theorem ml_X1_51 : Cond.methodLink RX1 51 yX1_knowDeaths ∈ gt := gt_mem (tb3 _ (List.mem_of_getElem? (i := 238) (by decide +kernel))) rfl
theorem ml_X1_54 : Cond.methodLink RX1 54 yX1_livedIn ∈ gt := gt_mem (tb4 _ (List.mem_of_getElem? (i := 2) (by decide +kernel))) rfl
theorem ml_X1_58 : Cond.methodLink RX1 58 yX1_isAliveIn ∈ gt := gt_mem (tb4 _ (List.mem_of_getElem? (i := 6) (by decide +kernel))) rfl
theorem ml_X10_18 : Cond.methodLink RX10 18 yX0_init ∈ gt := gt_mem (tb1 _ (List.mem_of_getElem? (i := 94) (by decide +kernel))) rfl
theorem ml_X10_35 : Cond.methodLink RX10 35 yX1_init ∈ gt := gt_mem (tb1 _ (List.mem_of_getElem? (i := 187) (by decide +kernel))) rfl
theorem ml_X10_44 : Cond.methodLink RX10 44 yX3_init ∈ gt := gt_mem (tb1 _ (List.mem_of_getElem? (i := 230) (by decide +kernel))) rfl
theorem ml_X10_53 : Cond.methodLink RX10 53 yX8_init ∈ gt := gt_mem (tb2 _ (List.mem_of_getElem? (i := 34) (by decide +kernel))) rfl
theorem ml_X10_75 : Cond.methodLink RX10 75 yX6_putBytes ∈ gt := gt_mem (tb2 _ (List.mem_of_getElem? (i := 144) (by decide +kernel))) rfl
theorem ml_X10_79 : Cond.methodLink RX10 79 yX6_read ∈ gt := gt_mem (tb2 _ (List.mem_of_getElem? (i := 152) (by decide +kernel))) rfl
theorem ml_X10_83 : Cond.methodLink RX10 83 yX3_reopen ∈ gt := gt_mem (tb3 _ (List.mem_of_getElem? (i := 58) (by decide +kernel))) rfl
theorem ml_X10_95 : Cond.methodLink RX10 95 yX10_isClass ∈ gt := gt_mem (tb3 _ (List.mem_of_getElem? (i := 74) (by decide +kernel))) rfl
theorem ml_X10_99 : Cond.methodLink RX10 99 yX5_enter ∈ gt := gt_mem (tb3 _ (List.mem_of_getElem? (i := 77) (by decide +kernel))) rfl
theorem ml_X10_103 : Cond.methodLink RX10 103 yX5_has ∈ gt := gt_mem (tb3 _ (List.mem_of_getElem? (i := 85) (by decide +kernel))) rfl
theorem ml_X10_106 : Cond.methodLink RX10 106 yX10_mayBeNamed ∈ gt := gt_mem (tb3 _ (List.mem_of_getElem? (i := 89) (by decide +kernel))) rfl
theorem ml_X10_110 : Cond.methodLink RX10 110 yX10_priceOn ∈ gt := gt_mem (tb3 _ (List.mem_of_getElem? (i := 117) (by decide +kernel))) rfl
theorem ml_X10_113 : Cond.methodLink RX10 113 yX10_lumpOn ∈ gt := gt_mem (tb3 _ (List.mem_of_getElem? (i := 123) (by decide +kernel))) rfl
theorem ml_X10_116 : Cond.methodLink RX10 116 yX10_isHolder ∈ gt := gt_mem (tb3 _ (List.mem_of_getElem? (i := 133) (by decide +kernel))) rfl
theorem ml_X10_119 : Cond.methodLink RX10 119 yX3_isFull ∈ gt := gt_mem (tb3 _ (List.mem_of_getElem? (i := 136) (by decide +kernel))) rfl
theorem ml_X10_125 : Cond.methodLink RX10 125 yX7_init ∈ gt := gt_mem (tb3 _ (List.mem_of_getElem? (i := 142) (by decide +kernel))) rfl
theorem ml_X10_128 : Cond.methodLink RX10 128 yX3_buy ∈ gt := gt_mem (tb3 _ (List.mem_of_getElem? (i := 181) (by decide +kernel))) rfl
theorem ml_X10_132 : Cond.methodLink RX10 132 yX3_has ∈ gt := gt_mem (tb3 _ (List.mem_of_getElem? (i := 190) (by decide +kernel))) rfl
theorem ml_X10_133 : Cond.methodLink RX10 133 yX3_heldBy ∈ gt := gt_mem (tb3 _ (List.mem_of_getElem? (i := 194) (by decide +kernel))) rfl
theorem ml_X10_137 : Cond.methodLink RX10 137 yX3_passOn ∈ gt := gt_mem (tb3 _ (List.mem_of_getElem? (i := 203) (by decide +kernel))) rfl
theorem ml_X10_141 : Cond.methodLink RX10 141 yX10_isHalf ∈ gt := gt_mem (tb3 _ (List.mem_of_getElem? (i := 211) (by decide +kernel))) rfl
theorem ml_X10_144 : Cond.methodLink RX10 144 yX1_write ∈ gt := gt_mem (tb3 _ (List.mem_of_getElem? (i := 218) (by decide +kernel))) rfl
theorem ml_X10_148 : Cond.methodLink RX10 148 yX1_has ∈ gt := gt_mem (tb3 _ (List.mem_of_getElem? (i := 226) (by decide +kernel))) rfl
theorem ml_X10_149 : Cond.methodLink RX10 149 yX1_know ∈ gt := gt_mem (tb3 _ (List.mem_of_getElem? (i := 234) (by decide +kernel))) rfl
theorem ml_X10_160 : Cond.methodLink RX10 160 yX1_isFalse ∈ gt := gt_mem (tb4 _ (List.mem_of_getElem? (i := 14) (by decide +kernel))) rfl
theorem ml_X10_163 : Cond.methodLink RX10 163 yX3_settle ∈ gt := gt_mem (tb4 _ (List.mem_of_getElem? (i := 22) (by decide +kernel))) rfl
theorem ml_X10_174 : Cond.methodLink RX10 174 yX3_isDue ∈ gt := gt_mem (tb4 _ (List.mem_of_getElem? (i := 56) (by decide +kernel))) rfl
theorem ml_X10_177 : Cond.methodLink RX10 177 yX0_setting ∈ gt := gt_mem (tb4 _ (List.mem_of_getElem? (i := 57) (by decide +kernel))) rfl
theorem ml_X10_181 : Cond.methodLink RX10 181 yX3_isProved ∈ gt := gt_mem (tb4 _ (List.mem_of_getElem? (i := 58) (by decide +kernel))) rfl
theorem ml_X10_185 : Cond.methodLink RX10 185 yX10_hasBegun ∈ gt := gt_mem (tb4 _ (List.mem_of_getElem? (i := 63) (by decide +kernel))) rfl
theorem ml_X10_188 : Cond.methodLink RX10 188 yX3_gainsOf ∈ gt := gt_mem (tb4 _ (List.mem_of_getElem? (i := 67) (by decide +kernel))) rfl
theorem ml_X10_191 : Cond.methodLink RX10 191 yX3_debtOf ∈ gt := gt_mem (tb4 _ (List.mem_of_getElem? (i := 83) (by decide +kernel))) rfl
theorem ml_X10_194 : Cond.methodLink RX10 194 yX3_takings ∈ gt := gt_mem (tb4 _ (List.mem_of_getElem? (i := 91) (by decide +kernel))) rfl
theorem ml_X10_197 : Cond.methodLink RX10 197 yX3_payments ∈ gt := gt_mem (tb4 _ (List.mem_of_getElem? (i := 95) (by decide +kernel))) rfl
theorem ml_X10_200 : Cond.methodLink RX10 200 yX3_debts ∈ gt := gt_mem (tb4 _ (List.mem_of_getElem? (i := 99) (by decide +kernel))) rfl
theorem ml_X10_203 : Cond.methodLink RX10 203 yX10_isGroup ∈ gt := gt_mem (tb4 _ (List.mem_of_getElem? (i := 108) (by decide +kernel))) rfl
theorem ml_X10_210 : Cond.methodLink RX10 210 yX8_countYears ∈ gt := gt_mem (tb4 _ (List.mem_of_getElem? (i := 115) (by decide +kernel))) rfl
theorem ml_X10_220 : Cond.methodLink RX10 220 yX8_live ∈ gt := gt_mem (tb4 _ (List.mem_of_getElem? (i := 124) (by decide +kernel))) rfl
theorem ml_X10_223 : Cond.methodLink RX10 223 yX10_hasYearsLeft ∈ gt := gt_mem (tb4 _ (List.mem_of_getElem? (i := 134) (by decide +kernel))) rfl
theorem ml_X10_226 : Cond.methodLink RX10 226 yX10_worthNow ∈ gt := gt_mem (tb4 _ (List.mem_of_getElem? (i := 138) (by decide +kernel))) rfl
theorem ml_X10_233 : Cond.methodLink RX10 233 yX2_clearOffers ∈ gt := gt_mem (tb4 _ (List.mem_of_getElem? (i := 173) (by decide +kernel))) rfl
theorem ml_X10_239 : Cond.methodLink RX10 239 yX1_isDead ∈ gt := gt_mem (tb4 _ (List.mem_of_getElem? (i := 177) (by decide +kernel))) rfl
theorem ml_X10_242 : Cond.methodLink RX10 242 yX2_offer ∈ gt := gt_mem (tb4 _ (List.mem_of_getElem? (i := 181) (by decide +kernel))) rfl
theorem ml_X10_245 : Cond.methodLink RX10 245 yX2_choose ∈ gt := gt_mem (tb4 _ (List.mem_of_getElem? (i := 185) (by decide +kernel))) rfl
theorem ml_X10_257 : Cond.methodLink RX10 257 yX10_riskOn ∈ gt := gt_mem (tb4 _ (List.mem_of_getElem? (i := 212) (by decide +kernel))) rfl
theorem ml_X10_261 : Cond.methodLink RX10 261 yX10_riskierThan ∈ gt := gt_mem (tb4 _ (List.mem_of_getElem? (i := 233) (by decide +kernel))) rfl
theorem ml_X10_292 : Cond.methodLink RX10 292 yX5_ageIn ∈ gt := gt_mem (tb3 _ (List.mem_of_getElem? (i := 108) (by decide +kernel))) rfl
theorem ml_X10_295 : Cond.methodLink RX10 295 yJ9_min_7cf53 ∈ gt := gt_mem (tb4 _ (List.mem_of_getElem? (i := 158) (by decide +kernel))) rfl
theorem ml_X10_300 : Cond.methodLink RX10 300 yJ9_max_7cf53 ∈ gt := gt_mem (tb4 _ (List.mem_of_getElem? (i := 159) (by decide +kernel))) rfl
theorem ml_X10_303 : Cond.methodLink RX10 303 yX5_younger ∈ gt := gt_mem (tb3 _ (List.mem_of_getElem? (i := 100) (by decide +kernel))) rfl
theorem ml_X10_309 : Cond.methodLink RX10 309 yX0_latest ∈ gt := gt_mem (tb3 _ (List.mem_of_getElem? (i := 109) (by decide +kernel))) rfl
theorem ml_X10_322 : Cond.methodLink RX10 322 yX10_ruling ∈ gt := gt_mem (tb3 _ (List.mem_of_getElem? (i := 96) (by decide +kernel))) rfl
theorem ml_X10_340 : Cond.methodLink RX10 340 yX8_worthOf ∈ gt := gt_mem (tb4 _ (List.mem_of_getElem? (i := 142) (by decide +kernel))) rfl
theorem ml_X10_344 : Cond.methodLink RX10 344 yX3_firstAloneOn ∈ gt := gt_mem (tb4 _ (List.mem_of_getElem? (i := 216) (by decide +kernel))) rfl
theorem ml_X10_347 : Cond.methodLink RX10 347 yX1_latestProof ∈ gt := gt_mem (tb4 _ (List.mem_of_getElem? (i := 224) (by decide +kernel))) rfl
theorem ml_X10_353 : Cond.methodLink RX10 353 yX10_groupOf ∈ gt := gt_mem (tb4 _ (List.mem_of_getElem? (i := 228) (by decide +kernel))) rfl
theorem ml_X10_356 : Cond.methodLink RX10 356 yX3_coinsAloneOn ∈ gt := gt_mem (tb4 _ (List.mem_of_getElem? (i := 229) (by decide +kernel))) rfl
theorem ml_X2_31 : Cond.methodLink RX2 31 yX2_countRows ∈ gt := gt_mem (tb4 _ (List.mem_of_getElem? (i := 189) (by decide +kernel))) rfl
theorem ml_X2_38 : Cond.methodLink RX2 38 yJ7_fill_53178 ∈ gt := gt_mem (tb4 _ (List.mem_of_getElem? (i := 194) (by decide +kernel))) rfl
theorem ml_X2_60 : Cond.methodLink RX2 60 yX2_turn ∈ gt := gt_mem (tb4 _ (List.mem_of_getElem? (i := 195) (by decide +kernel))) rfl
theorem ml_X2_64 : Cond.methodLink RX2 64 yX2_keep ∈ gt := gt_mem (tb4 _ (List.mem_of_getElem? (i := 199) (by decide +kernel))) rfl
theorem ml_X3_44 : Cond.methodLink RX3 44 yX3_isFull ∈ gt := gt_mem (tb3 _ (List.mem_of_getElem? (i := 185) (by decide +kernel))) rfl
theorem ml_X3_51 : Cond.methodLink RX3 51 yX3_spreadParts ∈ gt := gt_mem (tb3 _ (List.mem_of_getElem? (i := 198) (by decide +kernel))) rfl
theorem ml_X3_55 : Cond.methodLink RX3 55 yJ7_fill_53178 ∈ gt := gt_mem (tb3 _ (List.mem_of_getElem? (i := 202) (by decide +kernel))) rfl
theorem ml_X3_67 : Cond.methodLink RX3 67 yX7_isAloneOn ∈ gt := gt_mem (tb4 _ (List.mem_of_getElem? (i := 220) (by decide +kernel))) rfl
theorem ml_X3_77 : Cond.methodLink RX3 77 yX1_isAliveIn ∈ gt := gt_mem (tb4 _ (List.mem_of_getElem? (i := 46) (by decide +kernel))) rfl
theorem ml_X3_86 : Cond.methodLink RX3 86 yJ9_min_7cf53 ∈ gt := gt_mem (tb4 _ (List.mem_of_getElem? (i := 51) (by decide +kernel))) rfl
theorem ml_X3_92 : Cond.methodLink RX3 92 yX1_hasProof ∈ gt := gt_mem (tb4 _ (List.mem_of_getElem? (i := 52) (by decide +kernel))) rfl
theorem ml_X3_99 : Cond.methodLink RX3 99 yX7_forgetFrom ∈ gt := gt_mem (tb4 _ (List.mem_of_getElem? (i := 26) (by decide +kernel))) rfl
theorem ml_X3_103 : Cond.methodLink RX3 103 yX1_know ∈ gt := gt_mem (tb4 _ (List.mem_of_getElem? (i := 30) (by decide +kernel))) rfl
theorem ml_X3_106 : Cond.methodLink RX3 106 yX0_setting ∈ gt := gt_mem (tb4 _ (List.mem_of_getElem? (i := 31) (by decide +kernel))) rfl
theorem ml_X3_112 : Cond.methodLink RX3 112 yX3_pay ∈ gt := gt_mem (tb4 _ (List.mem_of_getElem? (i := 35) (by decide +kernel))) rfl
theorem ml_X3_119 : Cond.methodLink RX3 119 yJ9_max_7cf53 ∈ gt := gt_mem (tb4 _ (List.mem_of_getElem? (i := 39) (by decide +kernel))) rfl
theorem ml_X3_122 : Cond.methodLink RX3 122 yX3_isDue ∈ gt := gt_mem (tb4 _ (List.mem_of_getElem? (i := 42) (by decide +kernel))) rfl
theorem ml_X3_125 : Cond.methodLink RX3 125 yX3_isProved ∈ gt := gt_mem (tb4 _ (List.mem_of_getElem? (i := 47) (by decide +kernel))) rfl
theorem ml_X3_128 : Cond.methodLink RX3 128 yX7_isPaidBy ∈ gt := gt_mem (tb4 _ (List.mem_of_getElem? (i := 71) (by decide +kernel))) rfl
theorem ml_X3_131 : Cond.methodLink RX3 131 yX3_shareOf ∈ gt := gt_mem (tb4 _ (List.mem_of_getElem? (i := 75) (by decide +kernel))) rfl
theorem ml_X3_135 : Cond.methodLink RX3 135 yX3_debtOf ∈ gt := gt_mem (tb4 _ (List.mem_of_getElem? (i := 103) (by decide +kernel))) rfl
theorem ml_X5_22 : Cond.methodLink RX5 22 yX5_ageIn ∈ gt := gt_mem (tb3 _ (List.mem_of_getElem? (i := 104) (by decide +kernel))) rfl
theorem ml_X6_22 : Cond.methodLink RX6 22 yJ9_min_7cf53 ∈ gt := gt_mem (tb2 _ (List.mem_of_getElem? (i := 156) (by decide +kernel))) rfl
theorem ml_X6_35 : Cond.methodLink RX6 35 yX0_clear ∈ gt := gt_mem (tb2 _ (List.mem_of_getElem? (i := 159) (by decide +kernel))) rfl
theorem ml_X6_69 : Cond.methodLink RX6 69 yX6_skipBlanks ∈ gt := gt_mem (tb2 _ (List.mem_of_getElem? (i := 162) (by decide +kernel))) rfl
theorem ml_X6_75 : Cond.methodLink RX6 75 yX6_takeToken ∈ gt := gt_mem (tb2 _ (List.mem_of_getElem? (i := 166) (by decide +kernel))) rfl
theorem ml_X6_78 : Cond.methodLink RX6 78 yX6_put ∈ gt := gt_mem (tb2 _ (List.mem_of_getElem? (i := 239) (by decide +kernel))) rfl
theorem ml_X6_88 : Cond.methodLink RX6 88 yX6_isLetter ∈ gt := gt_mem (tb2 _ (List.mem_of_getElem? (i := 170) (by decide +kernel))) rfl
theorem ml_X6_92 : Cond.methodLink RX6 92 yX6_takeWord ∈ gt := gt_mem (tb2 _ (List.mem_of_getElem? (i := 173) (by decide +kernel))) rfl
theorem ml_X6_95 : Cond.methodLink RX6 95 yX6_isDigit ∈ gt := gt_mem (tb2 _ (List.mem_of_getElem? (i := 231) (by decide +kernel))) rfl
theorem ml_X6_98 : Cond.methodLink RX6 98 yX6_takeNumber ∈ gt := gt_mem (tb2 _ (List.mem_of_getElem? (i := 234) (by decide +kernel))) rfl
theorem ml_X6_111 : Cond.methodLink RX6 111 yX6_spells ∈ gt := gt_mem (tb2 _ (List.mem_of_getElem? (i := 179) (by decide +kernel))) rfl
theorem ml_X6_115 : Cond.methodLink RX6 115 yJ0_length_8abf5 ∈ gt := gt_mem (tb2 _ (List.mem_of_getElem? (i := 183) (by decide +kernel))) rfl
theorem ml_X6_119 : Cond.methodLink RX6 119 yJ0_charAt_5068e ∈ gt := gt_mem (tb2 _ (List.mem_of_getElem? (i := 193) (by decide +kernel))) rfl
theorem ml_X6_124 : Cond.methodLink RX6 124 yX6_putLineWord ∈ gt := gt_mem (tb3 _ (List.mem_of_getElem? (i := 3) (by decide +kernel))) rfl
theorem ml_X6_127 : Cond.methodLink RX6 127 yX6_putAmount ∈ gt := gt_mem (tb3 _ (List.mem_of_getElem? (i := 11) (by decide +kernel))) rfl
theorem ml_X6_130 : Cond.methodLink RX6 130 yX6_putWhom ∈ gt := gt_mem (tb3 _ (List.mem_of_getElem? (i := 19) (by decide +kernel))) rfl
theorem ml_X6_133 : Cond.methodLink RX6 133 yX6_putFrom ∈ gt := gt_mem (tb3 _ (List.mem_of_getElem? (i := 42) (by decide +kernel))) rfl
theorem ml_X6_139 : Cond.methodLink RX6 139 yX6_putUpTo ∈ gt := gt_mem (tb3 _ (List.mem_of_getElem? (i := 48) (by decide +kernel))) rfl
theorem ml_X6_142 : Cond.methodLink RX6 142 yX6_putClass ∈ gt := gt_mem (tb3 _ (List.mem_of_getElem? (i := 52) (by decide +kernel))) rfl
theorem ml_X6_148 : Cond.methodLink RX6 148 yX6_putLineEnd ∈ gt := gt_mem (tb3 _ (List.mem_of_getElem? (i := 23) (by decide +kernel))) rfl
theorem ml_X6_163 : Cond.methodLink RX6 163 yX4_begin ∈ gt := gt_mem (tb3 _ (List.mem_of_getElem? (i := 7) (by decide +kernel))) rfl
theorem ml_X6_172 : Cond.methodLink RX6 172 yX6_numberFault ∈ gt := gt_mem (tb3 _ (List.mem_of_getElem? (i := 15) (by decide +kernel))) rfl
theorem ml_X6_179 : Cond.methodLink RX6 179 yX4_hasTold ∈ gt := gt_mem (tb3 _ (List.mem_of_getElem? (i := 27) (by decide +kernel))) rfl
theorem ml_X7_34 : Cond.methodLink RX7 34 yJ7_fill_53178 ∈ gt := gt_mem (tb3 _ (List.mem_of_getElem? (i := 146) (by decide +kernel))) rfl
theorem ml_X8_31 : Cond.methodLink RX8 31 yJ7_fill_53178 ∈ gt := gt_mem (tb2 _ (List.mem_of_getElem? (i := 40) (by decide +kernel))) rfl
theorem ml_X8_52 : Cond.methodLink RX8 52 yX8_countYearsOf ∈ gt := gt_mem (tb4 _ (List.mem_of_getElem? (i := 119) (by decide +kernel))) rfl
theorem ml_X8_61 : Cond.methodLink RX8 61 yJ9_min_7cf53 ∈ gt := gt_mem (tb4 _ (List.mem_of_getElem? (i := 123) (by decide +kernel))) rfl
theorem ml_X8_70 : Cond.methodLink RX8 70 yX8_countYears ∈ gt := gt_mem (tb4 _ (List.mem_of_getElem? (i := 128) (by decide +kernel))) rfl
theorem ml_X8_73 : Cond.methodLink RX8 73 yJ9_max_7cf53 ∈ gt := gt_mem (tb4 _ (List.mem_of_getElem? (i := 129) (by decide +kernel))) rfl
theorem ml_X8_76 : Cond.methodLink RX8 76 yX8_live ∈ gt := gt_mem (tb4 _ (List.mem_of_getElem? (i := 151) (by decide +kernel))) rfl
theorem ml_X8_80 : Cond.methodLink RX8 80 yX5_ageIn ∈ gt := gt_mem (tb4 _ (List.mem_of_getElem? (i := 146) (by decide +kernel))) rfl
theorem ml_X8_83 : Cond.methodLink RX8 83 yX8_fillRow ∈ gt := gt_mem (tb4 _ (List.mem_of_getElem? (i := 147) (by decide +kernel))) rfl
theorem ml_X8_87 : Cond.methodLink RX8 87 yX8_worthOnOne ∈ gt := gt_mem (tb4 _ (List.mem_of_getElem? (i := 152) (by decide +kernel))) rfl
theorem ml_X8_91 : Cond.methodLink RX8 91 yX8_worthTillFirst ∈ gt := gt_mem (tb4 _ (List.mem_of_getElem? (i := 163) (by decide +kernel))) rfl
theorem ml_X8_99 : Cond.methodLink RX8 99 yX8_yearBefore ∈ gt := gt_mem (tb4 _ (List.mem_of_getElem? (i := 160) (by decide +kernel))) rfl
theorem ok_X0_clear : MOK mX0_clear 0 := ⟨gt_mem (tb1 _ (List.mem_of_getElem? (i := 145) (by decide +kernel))) rfl, gt_mem (tb1 _ (List.mem_of_getElem? (i := 3) (by decide +kernel))) rfl, by decide +kernel⟩
theorem iv_X0_clear : Cond.instanceMethod yX0_clear ∈ gt ∧ Cond.selects RX0 yX0_clear yX0_clear ∈ gt := ⟨gt_mem (tb1 _ (List.mem_of_getElem? (i := 143) (by decide +kernel))) rfl, gt_mem (tb1 _ (List.mem_of_getElem? (i := 144) (by decide +kernel))) rfl⟩
theorem ok_X0_setting : MOK mX0_setting 1 := ⟨gt_mem (tb4 _ (List.mem_of_getElem? (i := 34) (by decide +kernel))) rfl, gt_mem (tb1 _ (List.mem_of_getElem? (i := 3) (by decide +kernel))) rfl, by decide +kernel⟩
theorem iv_X0_setting : Cond.instanceMethod yX0_setting ∈ gt ∧ Cond.selects RX0 yX0_setting yX0_setting ∈ gt := ⟨gt_mem (tb4 _ (List.mem_of_getElem? (i := 32) (by decide +kernel))) rfl, gt_mem (tb4 _ (List.mem_of_getElem? (i := 33) (by decide +kernel))) rfl⟩
theorem ok_X0_latest : MOK mX0_latest 6 := ⟨gt_mem (tb3 _ (List.mem_of_getElem? (i := 112) (by decide +kernel))) rfl, gt_mem (tb1 _ (List.mem_of_getElem? (i := 3) (by decide +kernel))) rfl, by decide +kernel⟩
theorem iv_X0_latest : Cond.instanceMethod yX0_latest ∈ gt ∧ Cond.selects RX0 yX0_latest yX0_latest ∈ gt := ⟨gt_mem (tb3 _ (List.mem_of_getElem? (i := 110) (by decide +kernel))) rfl, gt_mem (tb3 _ (List.mem_of_getElem? (i := 111) (by decide +kernel))) rfl⟩
theorem ok_X1_has : MOK mX1_has 1 := ⟨gt_mem (tb3 _ (List.mem_of_getElem? (i := 229) (by decide +kernel))) rfl, gt_mem (tb1 _ (List.mem_of_getElem? (i := 7) (by decide +kernel))) rfl, by decide +kernel⟩
theorem iv_X1_has : Cond.instanceMethod yX1_has ∈ gt ∧ Cond.selects RX1 yX1_has yX1_has ∈ gt := ⟨gt_mem (tb3 _ (List.mem_of_getElem? (i := 227) (by decide +kernel))) rfl, gt_mem (tb3 _ (List.mem_of_getElem? (i := 228) (by decide +kernel))) rfl⟩
theorem ok_X1_write : MOK mX1_write 4 := ⟨gt_mem (tb3 _ (List.mem_of_getElem? (i := 221) (by decide +kernel))) rfl, gt_mem (tb1 _ (List.mem_of_getElem? (i := 7) (by decide +kernel))) rfl, by decide +kernel⟩
theorem iv_X1_write : Cond.instanceMethod yX1_write ∈ gt ∧ Cond.selects RX1 yX1_write yX1_write ∈ gt := ⟨gt_mem (tb3 _ (List.mem_of_getElem? (i := 219) (by decide +kernel))) rfl, gt_mem (tb3 _ (List.mem_of_getElem? (i := 220) (by decide +kernel))) rfl⟩
theorem ok_X1_know : MOK mX1_know 1 := ⟨gt_mem (tb3 _ (List.mem_of_getElem? (i := 237) (by decide +kernel))) rfl, gt_mem (tb1 _ (List.mem_of_getElem? (i := 7) (by decide +kernel))) rfl, by decide +kernel⟩
theorem iv_X1_know : Cond.instanceMethod yX1_know ∈ gt ∧ Cond.selects RX1 yX1_know yX1_know ∈ gt := ⟨gt_mem (tb3 _ (List.mem_of_getElem? (i := 235) (by decide +kernel))) rfl, gt_mem (tb3 _ (List.mem_of_getElem? (i := 236) (by decide +kernel))) rfl⟩
theorem ok_X1_knowDeaths : MOK mX1_knowDeaths 0 := ⟨gt_mem (tb4 _ (List.mem_of_getElem? (i := 1) (by decide +kernel))) rfl, gt_mem (tb1 _ (List.mem_of_getElem? (i := 7) (by decide +kernel))) rfl, by decide +kernel⟩
theorem iv_X1_knowDeaths : Cond.instanceMethod yX1_knowDeaths ∈ gt ∧ Cond.selects RX1 yX1_knowDeaths yX1_knowDeaths ∈ gt := ⟨gt_mem (tb4 _ (List.mem_of_getElem? (i := 0) (by decide +kernel))) rfl, gt_mem (List.mem_append_left _ (List.mem_of_getElem? (i := 19) (by decide +kernel))) rfl⟩
theorem ok_X1_livedIn : MOK mX1_livedIn 2 := ⟨gt_mem (tb4 _ (List.mem_of_getElem? (i := 5) (by decide +kernel))) rfl, gt_mem (tb1 _ (List.mem_of_getElem? (i := 7) (by decide +kernel))) rfl, by decide +kernel⟩
theorem iv_X1_livedIn : Cond.instanceMethod yX1_livedIn ∈ gt ∧ Cond.selects RX1 yX1_livedIn yX1_livedIn ∈ gt := ⟨gt_mem (tb4 _ (List.mem_of_getElem? (i := 4) (by decide +kernel))) rfl, gt_mem (List.mem_append_left _ (List.mem_of_getElem? (i := 20) (by decide +kernel))) rfl⟩
theorem ok_X1_isDead : MOK mX1_isDead 1 := ⟨gt_mem (tb4 _ (List.mem_of_getElem? (i := 180) (by decide +kernel))) rfl, gt_mem (tb1 _ (List.mem_of_getElem? (i := 7) (by decide +kernel))) rfl, by decide +kernel⟩
theorem iv_X1_isDead : Cond.instanceMethod yX1_isDead ∈ gt ∧ Cond.selects RX1 yX1_isDead yX1_isDead ∈ gt := ⟨gt_mem (tb4 _ (List.mem_of_getElem? (i := 178) (by decide +kernel))) rfl, gt_mem (tb4 _ (List.mem_of_getElem? (i := 179) (by decide +kernel))) rfl⟩
theorem ok_X1_isAliveIn : MOK mX1_isAliveIn 2 := ⟨gt_mem (tb4 _ (List.mem_of_getElem? (i := 9) (by decide +kernel))) rfl, gt_mem (tb1 _ (List.mem_of_getElem? (i := 7) (by decide +kernel))) rfl, by decide +kernel⟩
theorem iv_X1_isAliveIn : Cond.instanceMethod yX1_isAliveIn ∈ gt ∧ Cond.selects RX1 yX1_isAliveIn yX1_isAliveIn ∈ gt := ⟨gt_mem (tb4 _ (List.mem_of_getElem? (i := 7) (by decide +kernel))) rfl, gt_mem (tb4 _ (List.mem_of_getElem? (i := 8) (by decide +kernel))) rfl⟩
theorem ok_X1_isFalse : MOK mX1_isFalse 1 := ⟨gt_mem (tb4 _ (List.mem_of_getElem? (i := 17) (by decide +kernel))) rfl, gt_mem (tb1 _ (List.mem_of_getElem? (i := 7) (by decide +kernel))) rfl, by decide +kernel⟩
theorem iv_X1_isFalse : Cond.instanceMethod yX1_isFalse ∈ gt ∧ Cond.selects RX1 yX1_isFalse yX1_isFalse ∈ gt := ⟨gt_mem (tb4 _ (List.mem_of_getElem? (i := 15) (by decide +kernel))) rfl, gt_mem (tb4 _ (List.mem_of_getElem? (i := 16) (by decide +kernel))) rfl⟩
theorem ok_X1_hasProof : MOK mX1_hasProof 3 := ⟨gt_mem (tb4 _ (List.mem_of_getElem? (i := 55) (by decide +kernel))) rfl, gt_mem (tb1 _ (List.mem_of_getElem? (i := 7) (by decide +kernel))) rfl, by decide +kernel⟩
theorem iv_X1_hasProof : Cond.instanceMethod yX1_hasProof ∈ gt ∧ Cond.selects RX1 yX1_hasProof yX1_hasProof ∈ gt := ⟨gt_mem (tb4 _ (List.mem_of_getElem? (i := 53) (by decide +kernel))) rfl, gt_mem (tb4 _ (List.mem_of_getElem? (i := 54) (by decide +kernel))) rfl⟩
theorem ok_X1_latestProof : MOK mX1_latestProof 1 := ⟨gt_mem (tb4 _ (List.mem_of_getElem? (i := 227) (by decide +kernel))) rfl, gt_mem (tb1 _ (List.mem_of_getElem? (i := 7) (by decide +kernel))) rfl, by decide +kernel⟩
theorem iv_X1_latestProof : Cond.instanceMethod yX1_latestProof ∈ gt ∧ Cond.selects RX1 yX1_latestProof yX1_latestProof ∈ gt := ⟨gt_mem (tb4 _ (List.mem_of_getElem? (i := 225) (by decide +kernel))) rfl, gt_mem (tb4 _ (List.mem_of_getElem? (i := 226) (by decide +kernel))) rfl⟩
theorem ok_X2_clearOffers : MOK mX2_clearOffers 0 := ⟨gt_mem (tb4 _ (List.mem_of_getElem? (i := 176) (by decide +kernel))) rfl, gt_mem (tb1 _ (List.mem_of_getElem? (i := 10) (by decide +kernel))) rfl, by decide +kernel⟩
theorem iv_X2_clearOffers : Cond.instanceMethod yX2_clearOffers ∈ gt ∧ Cond.selects RX2 yX2_clearOffers yX2_clearOffers ∈ gt := ⟨gt_mem (tb4 _ (List.mem_of_getElem? (i := 174) (by decide +kernel))) rfl, gt_mem (tb4 _ (List.mem_of_getElem? (i := 175) (by decide +kernel))) rfl⟩
theorem ok_X2_offer : MOK mX2_offer 3 := ⟨gt_mem (tb4 _ (List.mem_of_getElem? (i := 184) (by decide +kernel))) rfl, gt_mem (tb1 _ (List.mem_of_getElem? (i := 10) (by decide +kernel))) rfl, by decide +kernel⟩
theorem iv_X2_offer : Cond.instanceMethod yX2_offer ∈ gt ∧ Cond.selects RX2 yX2_offer yX2_offer ∈ gt := ⟨gt_mem (tb4 _ (List.mem_of_getElem? (i := 182) (by decide +kernel))) rfl, gt_mem (tb4 _ (List.mem_of_getElem? (i := 183) (by decide +kernel))) rfl⟩
theorem ok_X2_choose : MOK mX2_choose 2 := ⟨gt_mem (tb4 _ (List.mem_of_getElem? (i := 188) (by decide +kernel))) rfl, gt_mem (tb1 _ (List.mem_of_getElem? (i := 10) (by decide +kernel))) rfl, by decide +kernel⟩
theorem iv_X2_choose : Cond.instanceMethod yX2_choose ∈ gt ∧ Cond.selects RX2 yX2_choose yX2_choose ∈ gt := ⟨gt_mem (tb4 _ (List.mem_of_getElem? (i := 186) (by decide +kernel))) rfl, gt_mem (tb4 _ (List.mem_of_getElem? (i := 187) (by decide +kernel))) rfl⟩
theorem ok_X2_countRows : MOK mX2_countRows 1 := ⟨gt_mem (tb4 _ (List.mem_of_getElem? (i := 192) (by decide +kernel))) rfl, gt_mem (tb1 _ (List.mem_of_getElem? (i := 10) (by decide +kernel))) rfl, by decide +kernel⟩
theorem iv_X2_countRows : Cond.instanceMethod yX2_countRows ∈ gt ∧ Cond.selects RX2 yX2_countRows yX2_countRows ∈ gt := ⟨gt_mem (tb4 _ (List.mem_of_getElem? (i := 191) (by decide +kernel))) rfl, gt_mem (List.mem_append_left _ (List.mem_of_getElem? (i := 29) (by decide +kernel))) rfl⟩
theorem ok_X2_turn : MOK mX2_turn 1 := ⟨gt_mem (tb4 _ (List.mem_of_getElem? (i := 198) (by decide +kernel))) rfl, gt_mem (tb1 _ (List.mem_of_getElem? (i := 10) (by decide +kernel))) rfl, by decide +kernel⟩
theorem iv_X2_turn : Cond.instanceMethod yX2_turn ∈ gt ∧ Cond.selects RX2 yX2_turn yX2_turn ∈ gt := ⟨gt_mem (tb4 _ (List.mem_of_getElem? (i := 197) (by decide +kernel))) rfl, gt_mem (List.mem_append_left _ (List.mem_of_getElem? (i := 30) (by decide +kernel))) rfl⟩
theorem ok_X2_keep : MOK mX2_keep 0 := ⟨gt_mem (tb4 _ (List.mem_of_getElem? (i := 202) (by decide +kernel))) rfl, gt_mem (tb1 _ (List.mem_of_getElem? (i := 10) (by decide +kernel))) rfl, by decide +kernel⟩
theorem iv_X2_keep : Cond.instanceMethod yX2_keep ∈ gt ∧ Cond.selects RX2 yX2_keep yX2_keep ∈ gt := ⟨gt_mem (tb4 _ (List.mem_of_getElem? (i := 201) (by decide +kernel))) rfl, gt_mem (List.mem_append_left _ (List.mem_of_getElem? (i := 31) (by decide +kernel))) rfl⟩
theorem ok_X3_has : MOK mX3_has 1 := ⟨gt_mem (tb3 _ (List.mem_of_getElem? (i := 193) (by decide +kernel))) rfl, gt_mem (tb1 _ (List.mem_of_getElem? (i := 8) (by decide +kernel))) rfl, by decide +kernel⟩
theorem iv_X3_has : Cond.instanceMethod yX3_has ∈ gt ∧ Cond.selects RX3 yX3_has yX3_has ∈ gt := ⟨gt_mem (tb3 _ (List.mem_of_getElem? (i := 191) (by decide +kernel))) rfl, gt_mem (tb3 _ (List.mem_of_getElem? (i := 192) (by decide +kernel))) rfl⟩
theorem ok_X3_isFull : MOK mX3_isFull 0 := ⟨gt_mem (tb3 _ (List.mem_of_getElem? (i := 139) (by decide +kernel))) rfl, gt_mem (tb1 _ (List.mem_of_getElem? (i := 8) (by decide +kernel))) rfl, by decide +kernel⟩
theorem iv_X3_isFull : Cond.instanceMethod yX3_isFull ∈ gt ∧ Cond.selects RX3 yX3_isFull yX3_isFull ∈ gt := ⟨gt_mem (tb3 _ (List.mem_of_getElem? (i := 137) (by decide +kernel))) rfl, gt_mem (tb3 _ (List.mem_of_getElem? (i := 138) (by decide +kernel))) rfl⟩
theorem ok_X3_buy : MOK mX3_buy 1 := ⟨gt_mem (tb3 _ (List.mem_of_getElem? (i := 184) (by decide +kernel))) rfl, gt_mem (tb1 _ (List.mem_of_getElem? (i := 8) (by decide +kernel))) rfl, by decide +kernel⟩
theorem iv_X3_buy : Cond.instanceMethod yX3_buy ∈ gt ∧ Cond.selects RX3 yX3_buy yX3_buy ∈ gt := ⟨gt_mem (tb3 _ (List.mem_of_getElem? (i := 182) (by decide +kernel))) rfl, gt_mem (tb3 _ (List.mem_of_getElem? (i := 183) (by decide +kernel))) rfl⟩
theorem ok_X3_passOn : MOK mX3_passOn 5 := ⟨gt_mem (tb3 _ (List.mem_of_getElem? (i := 206) (by decide +kernel))) rfl, gt_mem (tb1 _ (List.mem_of_getElem? (i := 8) (by decide +kernel))) rfl, by decide +kernel⟩
theorem iv_X3_passOn : Cond.instanceMethod yX3_passOn ∈ gt ∧ Cond.selects RX3 yX3_passOn yX3_passOn ∈ gt := ⟨gt_mem (tb3 _ (List.mem_of_getElem? (i := 204) (by decide +kernel))) rfl, gt_mem (tb3 _ (List.mem_of_getElem? (i := 205) (by decide +kernel))) rfl⟩
theorem ok_X3_heldBy : MOK mX3_heldBy 3 := ⟨gt_mem (tb3 _ (List.mem_of_getElem? (i := 197) (by decide +kernel))) rfl, gt_mem (tb1 _ (List.mem_of_getElem? (i := 8) (by decide +kernel))) rfl, by decide +kernel⟩
theorem iv_X3_heldBy : Cond.instanceMethod yX3_heldBy ∈ gt ∧ Cond.selects RX3 yX3_heldBy yX3_heldBy ∈ gt := ⟨gt_mem (tb3 _ (List.mem_of_getElem? (i := 195) (by decide +kernel))) rfl, gt_mem (tb3 _ (List.mem_of_getElem? (i := 196) (by decide +kernel))) rfl⟩
theorem ok_X3_spreadParts : MOK mX3_spreadParts 2 := ⟨gt_mem (tb3 _ (List.mem_of_getElem? (i := 201) (by decide +kernel))) rfl, gt_mem (tb1 _ (List.mem_of_getElem? (i := 8) (by decide +kernel))) rfl, by decide +kernel⟩
theorem iv_X3_spreadParts : Cond.instanceMethod yX3_spreadParts ∈ gt ∧ Cond.selects RX3 yX3_spreadParts yX3_spreadParts ∈ gt := ⟨gt_mem (tb3 _ (List.mem_of_getElem? (i := 200) (by decide +kernel))) rfl, gt_mem (List.mem_append_left _ (List.mem_of_getElem? (i := 18) (by decide +kernel))) rfl⟩
theorem ok_X3_firstAloneOn : MOK mX3_firstAloneOn 1 := ⟨gt_mem (tb4 _ (List.mem_of_getElem? (i := 219) (by decide +kernel))) rfl, gt_mem (tb1 _ (List.mem_of_getElem? (i := 8) (by decide +kernel))) rfl, by decide +kernel⟩
theorem iv_X3_firstAloneOn : Cond.instanceMethod yX3_firstAloneOn ∈ gt ∧ Cond.selects RX3 yX3_firstAloneOn yX3_firstAloneOn ∈ gt := ⟨gt_mem (tb4 _ (List.mem_of_getElem? (i := 217) (by decide +kernel))) rfl, gt_mem (tb4 _ (List.mem_of_getElem? (i := 218) (by decide +kernel))) rfl⟩
theorem ok_X3_coinsAloneOn : MOK mX3_coinsAloneOn 1 := ⟨gt_mem (tb4 _ (List.mem_of_getElem? (i := 232) (by decide +kernel))) rfl, gt_mem (tb1 _ (List.mem_of_getElem? (i := 8) (by decide +kernel))) rfl, by decide +kernel⟩
theorem iv_X3_coinsAloneOn : Cond.instanceMethod yX3_coinsAloneOn ∈ gt ∧ Cond.selects RX3 yX3_coinsAloneOn yX3_coinsAloneOn ∈ gt := ⟨gt_mem (tb4 _ (List.mem_of_getElem? (i := 230) (by decide +kernel))) rfl, gt_mem (tb4 _ (List.mem_of_getElem? (i := 231) (by decide +kernel))) rfl⟩
theorem ok_X3_isDue : MOK mX3_isDue 2 := ⟨gt_mem (tb4 _ (List.mem_of_getElem? (i := 45) (by decide +kernel))) rfl, gt_mem (tb1 _ (List.mem_of_getElem? (i := 8) (by decide +kernel))) rfl, by decide +kernel⟩
theorem iv_X3_isDue : Cond.instanceMethod yX3_isDue ∈ gt ∧ Cond.selects RX3 yX3_isDue yX3_isDue ∈ gt := ⟨gt_mem (tb4 _ (List.mem_of_getElem? (i := 43) (by decide +kernel))) rfl, gt_mem (tb4 _ (List.mem_of_getElem? (i := 44) (by decide +kernel))) rfl⟩
theorem ok_X3_isProved : MOK mX3_isProved 3 := ⟨gt_mem (tb4 _ (List.mem_of_getElem? (i := 50) (by decide +kernel))) rfl, gt_mem (tb1 _ (List.mem_of_getElem? (i := 8) (by decide +kernel))) rfl, by decide +kernel⟩
theorem iv_X3_isProved : Cond.instanceMethod yX3_isProved ∈ gt ∧ Cond.selects RX3 yX3_isProved yX3_isProved ∈ gt := ⟨gt_mem (tb4 _ (List.mem_of_getElem? (i := 48) (by decide +kernel))) rfl, gt_mem (tb4 _ (List.mem_of_getElem? (i := 49) (by decide +kernel))) rfl⟩
theorem ok_X3_reopen : MOK mX3_reopen 0 := ⟨gt_mem (tb3 _ (List.mem_of_getElem? (i := 61) (by decide +kernel))) rfl, gt_mem (tb1 _ (List.mem_of_getElem? (i := 8) (by decide +kernel))) rfl, by decide +kernel⟩
theorem iv_X3_reopen : Cond.instanceMethod yX3_reopen ∈ gt ∧ Cond.selects RX3 yX3_reopen yX3_reopen ∈ gt := ⟨gt_mem (tb3 _ (List.mem_of_getElem? (i := 59) (by decide +kernel))) rfl, gt_mem (tb3 _ (List.mem_of_getElem? (i := 60) (by decide +kernel))) rfl⟩
theorem ok_X3_settle : MOK mX3_settle 2 := ⟨gt_mem (tb4 _ (List.mem_of_getElem? (i := 25) (by decide +kernel))) rfl, gt_mem (tb1 _ (List.mem_of_getElem? (i := 8) (by decide +kernel))) rfl, by decide +kernel⟩
theorem iv_X3_settle : Cond.instanceMethod yX3_settle ∈ gt ∧ Cond.selects RX3 yX3_settle yX3_settle ∈ gt := ⟨gt_mem (tb4 _ (List.mem_of_getElem? (i := 23) (by decide +kernel))) rfl, gt_mem (tb4 _ (List.mem_of_getElem? (i := 24) (by decide +kernel))) rfl⟩
theorem ok_X3_pay : MOK mX3_pay 4 := ⟨gt_mem (tb4 _ (List.mem_of_getElem? (i := 38) (by decide +kernel))) rfl, gt_mem (tb1 _ (List.mem_of_getElem? (i := 8) (by decide +kernel))) rfl, by decide +kernel⟩
theorem iv_X3_pay : Cond.instanceMethod yX3_pay ∈ gt ∧ Cond.selects RX3 yX3_pay yX3_pay ∈ gt := ⟨gt_mem (tb4 _ (List.mem_of_getElem? (i := 37) (by decide +kernel))) rfl, gt_mem (List.mem_append_left _ (List.mem_of_getElem? (i := 21) (by decide +kernel))) rfl⟩
theorem ok_X3_gainsOf : MOK mX3_gainsOf 2 := ⟨gt_mem (tb4 _ (List.mem_of_getElem? (i := 70) (by decide +kernel))) rfl, gt_mem (tb1 _ (List.mem_of_getElem? (i := 8) (by decide +kernel))) rfl, by decide +kernel⟩
theorem iv_X3_gainsOf : Cond.instanceMethod yX3_gainsOf ∈ gt ∧ Cond.selects RX3 yX3_gainsOf yX3_gainsOf ∈ gt := ⟨gt_mem (tb4 _ (List.mem_of_getElem? (i := 68) (by decide +kernel))) rfl, gt_mem (tb4 _ (List.mem_of_getElem? (i := 69) (by decide +kernel))) rfl⟩
theorem ok_X3_shareOf : MOK mX3_shareOf 3 := ⟨gt_mem (tb4 _ (List.mem_of_getElem? (i := 78) (by decide +kernel))) rfl, gt_mem (tb1 _ (List.mem_of_getElem? (i := 8) (by decide +kernel))) rfl, by decide +kernel⟩
theorem iv_X3_shareOf : Cond.instanceMethod yX3_shareOf ∈ gt ∧ Cond.selects RX3 yX3_shareOf yX3_shareOf ∈ gt := ⟨gt_mem (tb4 _ (List.mem_of_getElem? (i := 77) (by decide +kernel))) rfl, gt_mem (List.mem_append_left _ (List.mem_of_getElem? (i := 23) (by decide +kernel))) rfl⟩
theorem ok_X3_debtOf : MOK mX3_debtOf 2 := ⟨gt_mem (tb4 _ (List.mem_of_getElem? (i := 86) (by decide +kernel))) rfl, gt_mem (tb1 _ (List.mem_of_getElem? (i := 8) (by decide +kernel))) rfl, by decide +kernel⟩
theorem iv_X3_debtOf : Cond.instanceMethod yX3_debtOf ∈ gt ∧ Cond.selects RX3 yX3_debtOf yX3_debtOf ∈ gt := ⟨gt_mem (tb4 _ (List.mem_of_getElem? (i := 84) (by decide +kernel))) rfl, gt_mem (tb4 _ (List.mem_of_getElem? (i := 85) (by decide +kernel))) rfl⟩
theorem ok_X3_debts : MOK mX3_debts 1 := ⟨gt_mem (tb4 _ (List.mem_of_getElem? (i := 102) (by decide +kernel))) rfl, gt_mem (tb1 _ (List.mem_of_getElem? (i := 8) (by decide +kernel))) rfl, by decide +kernel⟩
theorem iv_X3_debts : Cond.instanceMethod yX3_debts ∈ gt ∧ Cond.selects RX3 yX3_debts yX3_debts ∈ gt := ⟨gt_mem (tb4 _ (List.mem_of_getElem? (i := 100) (by decide +kernel))) rfl, gt_mem (tb4 _ (List.mem_of_getElem? (i := 101) (by decide +kernel))) rfl⟩
theorem ok_X3_payments : MOK mX3_payments 1 := ⟨gt_mem (tb4 _ (List.mem_of_getElem? (i := 98) (by decide +kernel))) rfl, gt_mem (tb1 _ (List.mem_of_getElem? (i := 8) (by decide +kernel))) rfl, by decide +kernel⟩
theorem iv_X3_payments : Cond.instanceMethod yX3_payments ∈ gt ∧ Cond.selects RX3 yX3_payments yX3_payments ∈ gt := ⟨gt_mem (tb4 _ (List.mem_of_getElem? (i := 96) (by decide +kernel))) rfl, gt_mem (tb4 _ (List.mem_of_getElem? (i := 97) (by decide +kernel))) rfl⟩
theorem ok_X3_takings : MOK mX3_takings 1 := ⟨gt_mem (tb4 _ (List.mem_of_getElem? (i := 94) (by decide +kernel))) rfl, gt_mem (tb1 _ (List.mem_of_getElem? (i := 8) (by decide +kernel))) rfl, by decide +kernel⟩
theorem iv_X3_takings : Cond.instanceMethod yX3_takings ∈ gt ∧ Cond.selects RX3 yX3_takings yX3_takings ∈ gt := ⟨gt_mem (tb4 _ (List.mem_of_getElem? (i := 92) (by decide +kernel))) rfl, gt_mem (tb4 _ (List.mem_of_getElem? (i := 93) (by decide +kernel))) rfl⟩
theorem ok_X4_begin : MOK mX4_begin 1 := ⟨gt_mem (tb3 _ (List.mem_of_getElem? (i := 10) (by decide +kernel))) rfl, gt_mem (tb1 _ (List.mem_of_getElem? (i := 4) (by decide +kernel))) rfl, by decide +kernel⟩
theorem iv_X4_begin : Cond.instanceMethod yX4_begin ∈ gt ∧ Cond.selects RX4 yX4_begin yX4_begin ∈ gt := ⟨gt_mem (tb3 _ (List.mem_of_getElem? (i := 8) (by decide +kernel))) rfl, gt_mem (tb3 _ (List.mem_of_getElem? (i := 9) (by decide +kernel))) rfl⟩
theorem ok_X4_hasTold : MOK mX4_hasTold 1 := ⟨gt_mem (tb3 _ (List.mem_of_getElem? (i := 30) (by decide +kernel))) rfl, gt_mem (tb1 _ (List.mem_of_getElem? (i := 4) (by decide +kernel))) rfl, by decide +kernel⟩
theorem iv_X4_hasTold : Cond.instanceMethod yX4_hasTold ∈ gt ∧ Cond.selects RX4 yX4_hasTold yX4_hasTold ∈ gt := ⟨gt_mem (tb3 _ (List.mem_of_getElem? (i := 28) (by decide +kernel))) rfl, gt_mem (tb3 _ (List.mem_of_getElem? (i := 29) (by decide +kernel))) rfl⟩
theorem ok_X4_fits : MOK mX4_fits 4 := ⟨gt_mem (tb3 _ (List.mem_of_getElem? (i := 116) (by decide +kernel))) rfl, gt_mem (tb1 _ (List.mem_of_getElem? (i := 4) (by decide +kernel))) rfl, by decide +kernel⟩
theorem iv_X4_fits : Cond.instanceMethod yX4_fits ∈ gt ∧ Cond.selects RX4 yX4_fits yX4_fits ∈ gt := ⟨gt_mem (tb3 _ (List.mem_of_getElem? (i := 114) (by decide +kernel))) rfl, gt_mem (tb3 _ (List.mem_of_getElem? (i := 115) (by decide +kernel))) rfl⟩
theorem ok_X5_has : MOK mX5_has 1 := ⟨gt_mem (tb3 _ (List.mem_of_getElem? (i := 88) (by decide +kernel))) rfl, gt_mem (tb1 _ (List.mem_of_getElem? (i := 6) (by decide +kernel))) rfl, by decide +kernel⟩
theorem iv_X5_has : Cond.instanceMethod yX5_has ∈ gt ∧ Cond.selects RX5 yX5_has yX5_has ∈ gt := ⟨gt_mem (tb3 _ (List.mem_of_getElem? (i := 86) (by decide +kernel))) rfl, gt_mem (tb3 _ (List.mem_of_getElem? (i := 87) (by decide +kernel))) rfl⟩
theorem ok_X5_enter : MOK mX5_enter 2 := ⟨gt_mem (tb3 _ (List.mem_of_getElem? (i := 80) (by decide +kernel))) rfl, gt_mem (tb1 _ (List.mem_of_getElem? (i := 6) (by decide +kernel))) rfl, by decide +kernel⟩
theorem iv_X5_enter : Cond.instanceMethod yX5_enter ∈ gt ∧ Cond.selects RX5 yX5_enter yX5_enter ∈ gt := ⟨gt_mem (tb3 _ (List.mem_of_getElem? (i := 78) (by decide +kernel))) rfl, gt_mem (tb3 _ (List.mem_of_getElem? (i := 79) (by decide +kernel))) rfl⟩
theorem ok_X5_ageIn : MOK mX5_ageIn 2 := ⟨gt_mem (tb3 _ (List.mem_of_getElem? (i := 107) (by decide +kernel))) rfl, gt_mem (tb1 _ (List.mem_of_getElem? (i := 6) (by decide +kernel))) rfl, by decide +kernel⟩
theorem iv_X5_ageIn : Cond.instanceMethod yX5_ageIn ∈ gt ∧ Cond.selects RX5 yX5_ageIn yX5_ageIn ∈ gt := ⟨gt_mem (tb3 _ (List.mem_of_getElem? (i := 105) (by decide +kernel))) rfl, gt_mem (tb3 _ (List.mem_of_getElem? (i := 106) (by decide +kernel))) rfl⟩
theorem ok_X5_younger : MOK mX5_younger 3 := ⟨gt_mem (tb3 _ (List.mem_of_getElem? (i := 103) (by decide +kernel))) rfl, gt_mem (tb1 _ (List.mem_of_getElem? (i := 6) (by decide +kernel))) rfl, by decide +kernel⟩
theorem iv_X5_younger : Cond.instanceMethod yX5_younger ∈ gt ∧ Cond.selects RX5 yX5_younger yX5_younger ∈ gt := ⟨gt_mem (tb3 _ (List.mem_of_getElem? (i := 101) (by decide +kernel))) rfl, gt_mem (tb3 _ (List.mem_of_getElem? (i := 102) (by decide +kernel))) rfl⟩
theorem ok_X6_putBytes : MOK mX6_putBytes 1 := ⟨gt_mem (tb2 _ (List.mem_of_getElem? (i := 147) (by decide +kernel))) rfl, gt_mem (tb1 _ (List.mem_of_getElem? (i := 2) (by decide +kernel))) rfl, by decide +kernel⟩
theorem iv_X6_putBytes : Cond.instanceMethod yX6_putBytes ∈ gt ∧ Cond.selects RX6 yX6_putBytes yX6_putBytes ∈ gt := ⟨gt_mem (tb2 _ (List.mem_of_getElem? (i := 145) (by decide +kernel))) rfl, gt_mem (tb2 _ (List.mem_of_getElem? (i := 146) (by decide +kernel))) rfl⟩
theorem ok_X6_read : MOK mX6_read 2 := ⟨gt_mem (tb2 _ (List.mem_of_getElem? (i := 155) (by decide +kernel))) rfl, gt_mem (tb1 _ (List.mem_of_getElem? (i := 2) (by decide +kernel))) rfl, by decide +kernel⟩
theorem iv_X6_read : Cond.instanceMethod yX6_read ∈ gt ∧ Cond.selects RX6 yX6_read yX6_read ∈ gt := ⟨gt_mem (tb2 _ (List.mem_of_getElem? (i := 153) (by decide +kernel))) rfl, gt_mem (tb2 _ (List.mem_of_getElem? (i := 154) (by decide +kernel))) rfl⟩
theorem ok_X6_skipBlanks : MOK mX6_skipBlanks 0 := ⟨gt_mem (tb2 _ (List.mem_of_getElem? (i := 165) (by decide +kernel))) rfl, gt_mem (tb1 _ (List.mem_of_getElem? (i := 2) (by decide +kernel))) rfl, by decide +kernel⟩
theorem iv_X6_skipBlanks : Cond.instanceMethod yX6_skipBlanks ∈ gt ∧ Cond.selects RX6 yX6_skipBlanks yX6_skipBlanks ∈ gt := ⟨gt_mem (tb2 _ (List.mem_of_getElem? (i := 164) (by decide +kernel))) rfl, gt_mem (List.mem_append_left _ (List.mem_of_getElem? (i := 0) (by decide +kernel))) rfl⟩
theorem ok_X6_takeToken : MOK mX6_takeToken 0 := ⟨gt_mem (tb2 _ (List.mem_of_getElem? (i := 169) (by decide +kernel))) rfl, gt_mem (tb1 _ (List.mem_of_getElem? (i := 2) (by decide +kernel))) rfl, by decide +kernel⟩
theorem iv_X6_takeToken : Cond.instanceMethod yX6_takeToken ∈ gt ∧ Cond.selects RX6 yX6_takeToken yX6_takeToken ∈ gt := ⟨gt_mem (tb2 _ (List.mem_of_getElem? (i := 168) (by decide +kernel))) rfl, gt_mem (List.mem_append_left _ (List.mem_of_getElem? (i := 1) (by decide +kernel))) rfl⟩
theorem ok_X6_isLetter : MOK mX6_isLetter 1 := ⟨gt_mem (tb2 _ (List.mem_of_getElem? (i := 172) (by decide +kernel))) rfl, gt_mem (tb1 _ (List.mem_of_getElem? (i := 2) (by decide +kernel))) rfl, by decide +kernel⟩
theorem iv_X6_isLetter : Cond.static yX6_isLetter ∈ gt := gt_mem (tb2 _ (List.mem_of_getElem? (i := 171) (by decide +kernel))) rfl
theorem ok_X6_isDigit : MOK mX6_isDigit 1 := ⟨gt_mem (tb2 _ (List.mem_of_getElem? (i := 233) (by decide +kernel))) rfl, gt_mem (tb1 _ (List.mem_of_getElem? (i := 2) (by decide +kernel))) rfl, by decide +kernel⟩
theorem iv_X6_isDigit : Cond.static yX6_isDigit ∈ gt := gt_mem (tb2 _ (List.mem_of_getElem? (i := 232) (by decide +kernel))) rfl
theorem ok_X6_takeWord : MOK mX6_takeWord 0 := ⟨gt_mem (tb2 _ (List.mem_of_getElem? (i := 176) (by decide +kernel))) rfl, gt_mem (tb1 _ (List.mem_of_getElem? (i := 2) (by decide +kernel))) rfl, by decide +kernel⟩
theorem iv_X6_takeWord : Cond.instanceMethod yX6_takeWord ∈ gt ∧ Cond.selects RX6 yX6_takeWord yX6_takeWord ∈ gt := ⟨gt_mem (tb2 _ (List.mem_of_getElem? (i := 175) (by decide +kernel))) rfl, gt_mem (List.mem_append_left _ (List.mem_of_getElem? (i := 2) (by decide +kernel))) rfl⟩
theorem ok_X6_spells : MOK mX6_spells 1 := ⟨gt_mem (tb2 _ (List.mem_of_getElem? (i := 182) (by decide +kernel))) rfl, gt_mem (tb1 _ (List.mem_of_getElem? (i := 2) (by decide +kernel))) rfl, by decide +kernel⟩
theorem iv_X6_spells : Cond.instanceMethod yX6_spells ∈ gt ∧ Cond.selects RX6 yX6_spells yX6_spells ∈ gt := ⟨gt_mem (tb2 _ (List.mem_of_getElem? (i := 181) (by decide +kernel))) rfl, gt_mem (List.mem_append_left _ (List.mem_of_getElem? (i := 3) (by decide +kernel))) rfl⟩
theorem ok_X6_takeNumber : MOK mX6_takeNumber 0 := ⟨gt_mem (tb2 _ (List.mem_of_getElem? (i := 237) (by decide +kernel))) rfl, gt_mem (tb1 _ (List.mem_of_getElem? (i := 2) (by decide +kernel))) rfl, by decide +kernel⟩
theorem iv_X6_takeNumber : Cond.instanceMethod yX6_takeNumber ∈ gt ∧ Cond.selects RX6 yX6_takeNumber yX6_takeNumber ∈ gt := ⟨gt_mem (tb2 _ (List.mem_of_getElem? (i := 236) (by decide +kernel))) rfl, gt_mem (List.mem_append_left _ (List.mem_of_getElem? (i := 4) (by decide +kernel))) rfl⟩
theorem ok_X6_put : MOK mX6_put 0 := ⟨gt_mem (tb3 _ (List.mem_of_getElem? (i := 2) (by decide +kernel))) rfl, gt_mem (tb1 _ (List.mem_of_getElem? (i := 2) (by decide +kernel))) rfl, by decide +kernel⟩
theorem iv_X6_put : Cond.instanceMethod yX6_put ∈ gt ∧ Cond.selects RX6 yX6_put yX6_put ∈ gt := ⟨gt_mem (tb3 _ (List.mem_of_getElem? (i := 1) (by decide +kernel))) rfl, gt_mem (List.mem_append_left _ (List.mem_of_getElem? (i := 5) (by decide +kernel))) rfl⟩
theorem ok_X6_putLineWord : MOK mX6_putLineWord 0 := ⟨gt_mem (tb3 _ (List.mem_of_getElem? (i := 6) (by decide +kernel))) rfl, gt_mem (tb1 _ (List.mem_of_getElem? (i := 2) (by decide +kernel))) rfl, by decide +kernel⟩
theorem iv_X6_putLineWord : Cond.instanceMethod yX6_putLineWord ∈ gt ∧ Cond.selects RX6 yX6_putLineWord yX6_putLineWord ∈ gt := ⟨gt_mem (tb3 _ (List.mem_of_getElem? (i := 5) (by decide +kernel))) rfl, gt_mem (List.mem_append_left _ (List.mem_of_getElem? (i := 6) (by decide +kernel))) rfl⟩
theorem ok_X6_putAmount : MOK mX6_putAmount 0 := ⟨gt_mem (tb3 _ (List.mem_of_getElem? (i := 14) (by decide +kernel))) rfl, gt_mem (tb1 _ (List.mem_of_getElem? (i := 2) (by decide +kernel))) rfl, by decide +kernel⟩
theorem iv_X6_putAmount : Cond.instanceMethod yX6_putAmount ∈ gt ∧ Cond.selects RX6 yX6_putAmount yX6_putAmount ∈ gt := ⟨gt_mem (tb3 _ (List.mem_of_getElem? (i := 13) (by decide +kernel))) rfl, gt_mem (List.mem_append_left _ (List.mem_of_getElem? (i := 7) (by decide +kernel))) rfl⟩
theorem ok_X6_numberFault : MOK mX6_numberFault 0 := ⟨gt_mem (tb3 _ (List.mem_of_getElem? (i := 18) (by decide +kernel))) rfl, gt_mem (tb1 _ (List.mem_of_getElem? (i := 2) (by decide +kernel))) rfl, by decide +kernel⟩
theorem iv_X6_numberFault : Cond.instanceMethod yX6_numberFault ∈ gt ∧ Cond.selects RX6 yX6_numberFault yX6_numberFault ∈ gt := ⟨gt_mem (tb3 _ (List.mem_of_getElem? (i := 17) (by decide +kernel))) rfl, gt_mem (List.mem_append_left _ (List.mem_of_getElem? (i := 8) (by decide +kernel))) rfl⟩
theorem ok_X6_putWhom : MOK mX6_putWhom 0 := ⟨gt_mem (tb3 _ (List.mem_of_getElem? (i := 22) (by decide +kernel))) rfl, gt_mem (tb1 _ (List.mem_of_getElem? (i := 2) (by decide +kernel))) rfl, by decide +kernel⟩
theorem iv_X6_putWhom : Cond.instanceMethod yX6_putWhom ∈ gt ∧ Cond.selects RX6 yX6_putWhom yX6_putWhom ∈ gt := ⟨gt_mem (tb3 _ (List.mem_of_getElem? (i := 21) (by decide +kernel))) rfl, gt_mem (List.mem_append_left _ (List.mem_of_getElem? (i := 9) (by decide +kernel))) rfl⟩
theorem ok_X6_putFrom : MOK mX6_putFrom 0 := ⟨gt_mem (tb3 _ (List.mem_of_getElem? (i := 45) (by decide +kernel))) rfl, gt_mem (tb1 _ (List.mem_of_getElem? (i := 2) (by decide +kernel))) rfl, by decide +kernel⟩
theorem iv_X6_putFrom : Cond.instanceMethod yX6_putFrom ∈ gt ∧ Cond.selects RX6 yX6_putFrom yX6_putFrom ∈ gt := ⟨gt_mem (tb3 _ (List.mem_of_getElem? (i := 44) (by decide +kernel))) rfl, gt_mem (List.mem_append_left _ (List.mem_of_getElem? (i := 11) (by decide +kernel))) rfl⟩
theorem ok_X6_putUpTo : MOK mX6_putUpTo 0 := ⟨gt_mem (tb3 _ (List.mem_of_getElem? (i := 51) (by decide +kernel))) rfl, gt_mem (tb1 _ (List.mem_of_getElem? (i := 2) (by decide +kernel))) rfl, by decide +kernel⟩
theorem iv_X6_putUpTo : Cond.instanceMethod yX6_putUpTo ∈ gt ∧ Cond.selects RX6 yX6_putUpTo yX6_putUpTo ∈ gt := ⟨gt_mem (tb3 _ (List.mem_of_getElem? (i := 50) (by decide +kernel))) rfl, gt_mem (List.mem_append_left _ (List.mem_of_getElem? (i := 12) (by decide +kernel))) rfl⟩
theorem ok_X6_putClass : MOK mX6_putClass 0 := ⟨gt_mem (tb3 _ (List.mem_of_getElem? (i := 55) (by decide +kernel))) rfl, gt_mem (tb1 _ (List.mem_of_getElem? (i := 2) (by decide +kernel))) rfl, by decide +kernel⟩
theorem iv_X6_putClass : Cond.instanceMethod yX6_putClass ∈ gt ∧ Cond.selects RX6 yX6_putClass yX6_putClass ∈ gt := ⟨gt_mem (tb3 _ (List.mem_of_getElem? (i := 54) (by decide +kernel))) rfl, gt_mem (List.mem_append_left _ (List.mem_of_getElem? (i := 13) (by decide +kernel))) rfl⟩
theorem ok_X6_putLineEnd : MOK mX6_putLineEnd 0 := ⟨gt_mem (tb3 _ (List.mem_of_getElem? (i := 26) (by decide +kernel))) rfl, gt_mem (tb1 _ (List.mem_of_getElem? (i := 2) (by decide +kernel))) rfl, by decide +kernel⟩
theorem iv_X6_putLineEnd : Cond.instanceMethod yX6_putLineEnd ∈ gt ∧ Cond.selects RX6 yX6_putLineEnd yX6_putLineEnd ∈ gt := ⟨gt_mem (tb3 _ (List.mem_of_getElem? (i := 25) (by decide +kernel))) rfl, gt_mem (List.mem_append_left _ (List.mem_of_getElem? (i := 10) (by decide +kernel))) rfl⟩
theorem ok_X7_isAloneOn : MOK mX7_isAloneOn 1 := ⟨gt_mem (tb4 _ (List.mem_of_getElem? (i := 223) (by decide +kernel))) rfl, gt_mem (tb1 _ (List.mem_of_getElem? (i := 19) (by decide +kernel))) rfl, by decide +kernel⟩
theorem iv_X7_isAloneOn : Cond.instanceMethod yX7_isAloneOn ∈ gt ∧ Cond.selects RX7 yX7_isAloneOn yX7_isAloneOn ∈ gt := ⟨gt_mem (tb4 _ (List.mem_of_getElem? (i := 221) (by decide +kernel))) rfl, gt_mem (tb4 _ (List.mem_of_getElem? (i := 222) (by decide +kernel))) rfl⟩
theorem ok_X7_forgetFrom : MOK mX7_forgetFrom 1 := ⟨gt_mem (tb4 _ (List.mem_of_getElem? (i := 29) (by decide +kernel))) rfl, gt_mem (tb1 _ (List.mem_of_getElem? (i := 19) (by decide +kernel))) rfl, by decide +kernel⟩
theorem iv_X7_forgetFrom : Cond.instanceMethod yX7_forgetFrom ∈ gt ∧ Cond.selects RX7 yX7_forgetFrom yX7_forgetFrom ∈ gt := ⟨gt_mem (tb4 _ (List.mem_of_getElem? (i := 27) (by decide +kernel))) rfl, gt_mem (tb4 _ (List.mem_of_getElem? (i := 28) (by decide +kernel))) rfl⟩
theorem ok_X7_isPaidBy : MOK mX7_isPaidBy 2 := ⟨gt_mem (tb4 _ (List.mem_of_getElem? (i := 74) (by decide +kernel))) rfl, gt_mem (tb1 _ (List.mem_of_getElem? (i := 19) (by decide +kernel))) rfl, by decide +kernel⟩
theorem iv_X7_isPaidBy : Cond.instanceMethod yX7_isPaidBy ∈ gt ∧ Cond.selects RX7 yX7_isPaidBy yX7_isPaidBy ∈ gt := ⟨gt_mem (tb4 _ (List.mem_of_getElem? (i := 72) (by decide +kernel))) rfl, gt_mem (tb4 _ (List.mem_of_getElem? (i := 73) (by decide +kernel))) rfl⟩
theorem ok_X8_countYears : MOK mX8_countYears 3 := ⟨gt_mem (tb4 _ (List.mem_of_getElem? (i := 118) (by decide +kernel))) rfl, gt_mem (tb1 _ (List.mem_of_getElem? (i := 9) (by decide +kernel))) rfl, by decide +kernel⟩
theorem iv_X8_countYears : Cond.instanceMethod yX8_countYears ∈ gt ∧ Cond.selects RX8 yX8_countYears yX8_countYears ∈ gt := ⟨gt_mem (tb4 _ (List.mem_of_getElem? (i := 116) (by decide +kernel))) rfl, gt_mem (tb4 _ (List.mem_of_getElem? (i := 117) (by decide +kernel))) rfl⟩
theorem ok_X8_countYearsOf : MOK mX8_countYearsOf 3 := ⟨gt_mem (tb4 _ (List.mem_of_getElem? (i := 122) (by decide +kernel))) rfl, gt_mem (tb1 _ (List.mem_of_getElem? (i := 9) (by decide +kernel))) rfl, by decide +kernel⟩
theorem iv_X8_countYearsOf : Cond.instanceMethod yX8_countYearsOf ∈ gt ∧ Cond.selects RX8 yX8_countYearsOf yX8_countYearsOf ∈ gt := ⟨gt_mem (tb4 _ (List.mem_of_getElem? (i := 121) (by decide +kernel))) rfl, gt_mem (List.mem_append_left _ (List.mem_of_getElem? (i := 24) (by decide +kernel))) rfl⟩
theorem ok_X8_live : MOK mX8_live 4 := ⟨gt_mem (tb4 _ (List.mem_of_getElem? (i := 127) (by decide +kernel))) rfl, gt_mem (tb1 _ (List.mem_of_getElem? (i := 9) (by decide +kernel))) rfl, by decide +kernel⟩
theorem iv_X8_live : Cond.instanceMethod yX8_live ∈ gt ∧ Cond.selects RX8 yX8_live yX8_live ∈ gt := ⟨gt_mem (tb4 _ (List.mem_of_getElem? (i := 125) (by decide +kernel))) rfl, gt_mem (tb4 _ (List.mem_of_getElem? (i := 126) (by decide +kernel))) rfl⟩
theorem ok_X8_fillRow : MOK mX8_fillRow 4 := ⟨gt_mem (tb4 _ (List.mem_of_getElem? (i := 150) (by decide +kernel))) rfl, gt_mem (tb1 _ (List.mem_of_getElem? (i := 9) (by decide +kernel))) rfl, by decide +kernel⟩
theorem iv_X8_fillRow : Cond.instanceMethod yX8_fillRow ∈ gt ∧ Cond.selects RX8 yX8_fillRow yX8_fillRow ∈ gt := ⟨gt_mem (tb4 _ (List.mem_of_getElem? (i := 149) (by decide +kernel))) rfl, gt_mem (List.mem_append_left _ (List.mem_of_getElem? (i := 27) (by decide +kernel))) rfl⟩
theorem ok_X8_worthOf : MOK mX8_worthOf 5 := ⟨gt_mem (tb4 _ (List.mem_of_getElem? (i := 145) (by decide +kernel))) rfl, gt_mem (tb1 _ (List.mem_of_getElem? (i := 9) (by decide +kernel))) rfl, by decide +kernel⟩
theorem iv_X8_worthOf : Cond.instanceMethod yX8_worthOf ∈ gt ∧ Cond.selects RX8 yX8_worthOf yX8_worthOf ∈ gt := ⟨gt_mem (tb4 _ (List.mem_of_getElem? (i := 143) (by decide +kernel))) rfl, gt_mem (tb4 _ (List.mem_of_getElem? (i := 144) (by decide +kernel))) rfl⟩
theorem ok_X8_worthOnOne : MOK mX8_worthOnOne 3 := ⟨gt_mem (tb4 _ (List.mem_of_getElem? (i := 154) (by decide +kernel))) rfl, gt_mem (tb1 _ (List.mem_of_getElem? (i := 9) (by decide +kernel))) rfl, by decide +kernel⟩
theorem iv_X8_worthOnOne : Cond.static yX8_worthOnOne ∈ gt := gt_mem (tb4 _ (List.mem_of_getElem? (i := 153) (by decide +kernel))) rfl
theorem ok_X8_worthTillFirst : MOK mX8_worthTillFirst 3 := ⟨gt_mem (tb4 _ (List.mem_of_getElem? (i := 166) (by decide +kernel))) rfl, gt_mem (tb1 _ (List.mem_of_getElem? (i := 9) (by decide +kernel))) rfl, by decide +kernel⟩
theorem iv_X8_worthTillFirst : Cond.instanceMethod yX8_worthTillFirst ∈ gt ∧ Cond.selects RX8 yX8_worthTillFirst yX8_worthTillFirst ∈ gt := ⟨gt_mem (tb4 _ (List.mem_of_getElem? (i := 165) (by decide +kernel))) rfl, gt_mem (List.mem_append_left _ (List.mem_of_getElem? (i := 28) (by decide +kernel))) rfl⟩
theorem ok_X8_yearBefore : MOK mX8_yearBefore 3 := ⟨gt_mem (tb4 _ (List.mem_of_getElem? (i := 162) (by decide +kernel))) rfl, gt_mem (tb1 _ (List.mem_of_getElem? (i := 9) (by decide +kernel))) rfl, by decide +kernel⟩
theorem iv_X8_yearBefore : Cond.static yX8_yearBefore ∈ gt := gt_mem (tb4 _ (List.mem_of_getElem? (i := 161) (by decide +kernel))) rfl
theorem ok_X10_feed : MOK mX10_feed 5 := ⟨gt_mem (tb2 _ (List.mem_of_getElem? (i := 143) (by decide +kernel))) rfl, gt_mem (tb1 _ (List.mem_of_getElem? (i := 1) (by decide +kernel))) rfl, by decide +kernel⟩
theorem iv_X10_feed : Cond.instanceMethod yX10_feed ∈ gt ∧ Cond.selects RX10 yX10_feed yX10_feed ∈ gt := ⟨gt_mem (tb2 _ (List.mem_of_getElem? (i := 141) (by decide +kernel))) rfl, gt_mem (tb2 _ (List.mem_of_getElem? (i := 142) (by decide +kernel))) rfl⟩
theorem ok_X10_acts : MOK mX10_acts 1 := ⟨gt_mem (tb2 _ (List.mem_of_getElem? (i := 151) (by decide +kernel))) rfl, gt_mem (tb1 _ (List.mem_of_getElem? (i := 1) (by decide +kernel))) rfl, by decide +kernel⟩
theorem iv_X10_acts : Cond.instanceMethod yX10_acts ∈ gt ∧ Cond.selects RX10 yX10_acts yX10_acts ∈ gt := ⟨gt_mem (tb2 _ (List.mem_of_getElem? (i := 149) (by decide +kernel))) rfl, gt_mem (tb2 _ (List.mem_of_getElem? (i := 150) (by decide +kernel))) rfl⟩
theorem ok_X10_fault : MOK mX10_fault 1 := ⟨gt_mem (tb3 _ (List.mem_of_getElem? (i := 65) (by decide +kernel))) rfl, gt_mem (tb1 _ (List.mem_of_getElem? (i := 1) (by decide +kernel))) rfl, by decide +kernel⟩
theorem iv_X10_fault : Cond.instanceMethod yX10_fault ∈ gt ∧ Cond.selects RX10 yX10_fault yX10_fault ∈ gt := ⟨gt_mem (tb3 _ (List.mem_of_getElem? (i := 63) (by decide +kernel))) rfl, gt_mem (tb3 _ (List.mem_of_getElem? (i := 64) (by decide +kernel))) rfl⟩
theorem ok_X10_halves : MOK mX10_halves 1 := ⟨gt_mem (tb3 _ (List.mem_of_getElem? (i := 69) (by decide +kernel))) rfl, gt_mem (tb1 _ (List.mem_of_getElem? (i := 1) (by decide +kernel))) rfl, by decide +kernel⟩
theorem iv_X10_halves : Cond.instanceMethod yX10_halves ∈ gt ∧ Cond.selects RX10 yX10_halves yX10_halves ∈ gt := ⟨gt_mem (tb3 _ (List.mem_of_getElem? (i := 67) (by decide +kernel))) rfl, gt_mem (tb3 _ (List.mem_of_getElem? (i := 68) (by decide +kernel))) rfl⟩
theorem ok_X10_life : MOK mX10_life 2 := ⟨gt_mem (tb3 _ (List.mem_of_getElem? (i := 73) (by decide +kernel))) rfl, gt_mem (tb1 _ (List.mem_of_getElem? (i := 1) (by decide +kernel))) rfl, by decide +kernel⟩
theorem iv_X10_life : Cond.instanceMethod yX10_life ∈ gt ∧ Cond.selects RX10 yX10_life yX10_life ∈ gt := ⟨gt_mem (tb3 _ (List.mem_of_getElem? (i := 71) (by decide +kernel))) rfl, gt_mem (tb3 _ (List.mem_of_getElem? (i := 72) (by decide +kernel))) rfl⟩
theorem ok_X10_asks : MOK mX10_asks 2 := ⟨gt_mem (tb3 _ (List.mem_of_getElem? (i := 84) (by decide +kernel))) rfl, gt_mem (tb1 _ (List.mem_of_getElem? (i := 1) (by decide +kernel))) rfl, by decide +kernel⟩
theorem iv_X10_asks : Cond.instanceMethod yX10_asks ∈ gt ∧ Cond.selects RX10 yX10_asks yX10_asks ∈ gt := ⟨gt_mem (tb3 _ (List.mem_of_getElem? (i := 82) (by decide +kernel))) rfl, gt_mem (tb3 _ (List.mem_of_getElem? (i := 83) (by decide +kernel))) rfl⟩
theorem ok_X10_rent : MOK mX10_rent 4 := ⟨gt_mem (tb3 _ (List.mem_of_getElem? (i := 132) (by decide +kernel))) rfl, gt_mem (tb1 _ (List.mem_of_getElem? (i := 1) (by decide +kernel))) rfl, by decide +kernel⟩
theorem iv_X10_rent : Cond.instanceMethod yX10_rent ∈ gt ∧ Cond.selects RX10 yX10_rent yX10_rent ∈ gt := ⟨gt_mem (tb3 _ (List.mem_of_getElem? (i := 130) (by decide +kernel))) rfl, gt_mem (tb3 _ (List.mem_of_getElem? (i := 131) (by decide +kernel))) rfl⟩
theorem ok_X10_sell : MOK mX10_sell 4 := ⟨gt_mem (tb3 _ (List.mem_of_getElem? (i := 189) (by decide +kernel))) rfl, gt_mem (tb1 _ (List.mem_of_getElem? (i := 1) (by decide +kernel))) rfl, by decide +kernel⟩
theorem iv_X10_sell : Cond.instanceMethod yX10_sell ∈ gt ∧ Cond.selects RX10 yX10_sell yX10_sell ∈ gt := ⟨gt_mem (tb3 _ (List.mem_of_getElem? (i := 187) (by decide +kernel))) rfl, gt_mem (tb3 _ (List.mem_of_getElem? (i := 188) (by decide +kernel))) rfl⟩
theorem ok_X10_parts : MOK mX10_parts 3 := ⟨gt_mem (tb3 _ (List.mem_of_getElem? (i := 210) (by decide +kernel))) rfl, gt_mem (tb1 _ (List.mem_of_getElem? (i := 1) (by decide +kernel))) rfl, by decide +kernel⟩
theorem iv_X10_parts : Cond.instanceMethod yX10_parts ∈ gt ∧ Cond.selects RX10 yX10_parts yX10_parts ∈ gt := ⟨gt_mem (tb3 _ (List.mem_of_getElem? (i := 208) (by decide +kernel))) rfl, gt_mem (tb3 _ (List.mem_of_getElem? (i := 209) (by decide +kernel))) rfl⟩
theorem ok_X10_note : MOK mX10_note 3 := ⟨gt_mem (tb3 _ (List.mem_of_getElem? (i := 217) (by decide +kernel))) rfl, gt_mem (tb1 _ (List.mem_of_getElem? (i := 1) (by decide +kernel))) rfl, by decide +kernel⟩
theorem iv_X10_note : Cond.instanceMethod yX10_note ∈ gt ∧ Cond.selects RX10 yX10_note yX10_note ∈ gt := ⟨gt_mem (tb3 _ (List.mem_of_getElem? (i := 215) (by decide +kernel))) rfl, gt_mem (tb3 _ (List.mem_of_getElem? (i := 216) (by decide +kernel))) rfl⟩
theorem ok_X10_strike : MOK mX10_strike 1 := ⟨gt_mem (tb3 _ (List.mem_of_getElem? (i := 225) (by decide +kernel))) rfl, gt_mem (tb1 _ (List.mem_of_getElem? (i := 1) (by decide +kernel))) rfl, by decide +kernel⟩
theorem iv_X10_strike : Cond.instanceMethod yX10_strike ∈ gt ∧ Cond.selects RX10 yX10_strike yX10_strike ∈ gt := ⟨gt_mem (tb3 _ (List.mem_of_getElem? (i := 223) (by decide +kernel))) rfl, gt_mem (tb3 _ (List.mem_of_getElem? (i := 224) (by decide +kernel))) rfl⟩
theorem ok_X10_dead : MOK mX10_dead 2 := ⟨gt_mem (tb3 _ (List.mem_of_getElem? (i := 233) (by decide +kernel))) rfl, gt_mem (tb1 _ (List.mem_of_getElem? (i := 1) (by decide +kernel))) rfl, by decide +kernel⟩
theorem iv_X10_dead : Cond.instanceMethod yX10_dead ∈ gt ∧ Cond.selects RX10 yX10_dead yX10_dead ∈ gt := ⟨gt_mem (tb3 _ (List.mem_of_getElem? (i := 231) (by decide +kernel))) rfl, gt_mem (tb3 _ (List.mem_of_getElem? (i := 232) (by decide +kernel))) rfl⟩
theorem ok_X10_holds : MOK mX10_holds 2 := ⟨gt_mem (tb4 _ (List.mem_of_getElem? (i := 13) (by decide +kernel))) rfl, gt_mem (tb1 _ (List.mem_of_getElem? (i := 1) (by decide +kernel))) rfl, by decide +kernel⟩
theorem iv_X10_holds : Cond.instanceMethod yX10_holds ∈ gt ∧ Cond.selects RX10 yX10_holds yX10_holds ∈ gt := ⟨gt_mem (tb4 _ (List.mem_of_getElem? (i := 11) (by decide +kernel))) rfl, gt_mem (tb4 _ (List.mem_of_getElem? (i := 12) (by decide +kernel))) rfl⟩
theorem ok_X10_paid : MOK mX10_paid 3 := ⟨gt_mem (tb4 _ (List.mem_of_getElem? (i := 21) (by decide +kernel))) rfl, gt_mem (tb1 _ (List.mem_of_getElem? (i := 1) (by decide +kernel))) rfl, by decide +kernel⟩
theorem iv_X10_paid : Cond.instanceMethod yX10_paid ∈ gt ∧ Cond.selects RX10 yX10_paid yX10_paid ∈ gt := ⟨gt_mem (tb4 _ (List.mem_of_getElem? (i := 19) (by decide +kernel))) rfl, gt_mem (tb4 _ (List.mem_of_getElem? (i := 20) (by decide +kernel))) rfl⟩
theorem ok_X10_got : MOK mX10_got 2 := ⟨gt_mem (tb4 _ (List.mem_of_getElem? (i := 62) (by decide +kernel))) rfl, gt_mem (tb1 _ (List.mem_of_getElem? (i := 1) (by decide +kernel))) rfl, by decide +kernel⟩
theorem iv_X10_got : Cond.instanceMethod yX10_got ∈ gt ∧ Cond.selects RX10 yX10_got yX10_got ∈ gt := ⟨gt_mem (tb4 _ (List.mem_of_getElem? (i := 60) (by decide +kernel))) rfl, gt_mem (tb4 _ (List.mem_of_getElem? (i := 61) (by decide +kernel))) rfl⟩
theorem ok_X10_owed : MOK mX10_owed 2 := ⟨gt_mem (tb4 _ (List.mem_of_getElem? (i := 82) (by decide +kernel))) rfl, gt_mem (tb1 _ (List.mem_of_getElem? (i := 1) (by decide +kernel))) rfl, by decide +kernel⟩
theorem iv_X10_owed : Cond.instanceMethod yX10_owed ∈ gt ∧ Cond.selects RX10 yX10_owed yX10_owed ∈ gt := ⟨gt_mem (tb4 _ (List.mem_of_getElem? (i := 80) (by decide +kernel))) rfl, gt_mem (tb4 _ (List.mem_of_getElem? (i := 81) (by decide +kernel))) rfl⟩
theorem ok_X10_state : MOK mX10_state 2 := ⟨gt_mem (tb4 _ (List.mem_of_getElem? (i := 90) (by decide +kernel))) rfl, gt_mem (tb1 _ (List.mem_of_getElem? (i := 1) (by decide +kernel))) rfl, by decide +kernel⟩
theorem iv_X10_state : Cond.instanceMethod yX10_state ∈ gt ∧ Cond.selects RX10 yX10_state yX10_state ∈ gt := ⟨gt_mem (tb4 _ (List.mem_of_getElem? (i := 88) (by decide +kernel))) rfl, gt_mem (tb4 _ (List.mem_of_getElem? (i := 89) (by decide +kernel))) rfl⟩
theorem ok_X10_sold : MOK mX10_sold 3 := ⟨gt_mem (tb4 _ (List.mem_of_getElem? (i := 107) (by decide +kernel))) rfl, gt_mem (tb1 _ (List.mem_of_getElem? (i := 1) (by decide +kernel))) rfl, by decide +kernel⟩
theorem iv_X10_sold : Cond.instanceMethod yX10_sold ∈ gt ∧ Cond.selects RX10 yX10_sold yX10_sold ∈ gt := ⟨gt_mem (tb4 _ (List.mem_of_getElem? (i := 105) (by decide +kernel))) rfl, gt_mem (tb4 _ (List.mem_of_getElem? (i := 106) (by decide +kernel))) rfl⟩
theorem ok_X10_own : MOK mX10_own 4 := ⟨gt_mem (tb4 _ (List.mem_of_getElem? (i := 114) (by decide +kernel))) rfl, gt_mem (tb1 _ (List.mem_of_getElem? (i := 1) (by decide +kernel))) rfl, by decide +kernel⟩
theorem iv_X10_own : Cond.instanceMethod yX10_own ∈ gt ∧ Cond.selects RX10 yX10_own yX10_own ∈ gt := ⟨gt_mem (tb4 _ (List.mem_of_getElem? (i := 112) (by decide +kernel))) rfl, gt_mem (tb4 _ (List.mem_of_getElem? (i := 113) (by decide +kernel))) rfl⟩
theorem ok_X10_worth : MOK mX10_worth 3 := ⟨gt_mem (tb4 _ (List.mem_of_getElem? (i := 133) (by decide +kernel))) rfl, gt_mem (tb1 _ (List.mem_of_getElem? (i := 1) (by decide +kernel))) rfl, by decide +kernel⟩
theorem iv_X10_worth : Cond.instanceMethod yX10_worth ∈ gt ∧ Cond.selects RX10 yX10_worth yX10_worth ∈ gt := ⟨gt_mem (tb4 _ (List.mem_of_getElem? (i := 131) (by decide +kernel))) rfl, gt_mem (tb4 _ (List.mem_of_getElem? (i := 132) (by decide +kernel))) rfl⟩
theorem ok_X10_names : MOK mX10_names 1 := ⟨gt_mem (tb4 _ (List.mem_of_getElem? (i := 170) (by decide +kernel))) rfl, gt_mem (tb1 _ (List.mem_of_getElem? (i := 1) (by decide +kernel))) rfl, by decide +kernel⟩
theorem iv_X10_names : Cond.instanceMethod yX10_names ∈ gt ∧ Cond.selects RX10 yX10_names yX10_names ∈ gt := ⟨gt_mem (tb4 _ (List.mem_of_getElem? (i := 168) (by decide +kernel))) rfl, gt_mem (tb4 _ (List.mem_of_getElem? (i := 169) (by decide +kernel))) rfl⟩
theorem ok_X10_named : MOK mX10_named 1 := ⟨gt_mem (tb4 _ (List.mem_of_getElem? (i := 206) (by decide +kernel))) rfl, gt_mem (tb1 _ (List.mem_of_getElem? (i := 1) (by decide +kernel))) rfl, by decide +kernel⟩
theorem iv_X10_named : Cond.instanceMethod yX10_named ∈ gt ∧ Cond.selects RX10 yX10_named yX10_named ∈ gt := ⟨gt_mem (tb4 _ (List.mem_of_getElem? (i := 204) (by decide +kernel))) rfl, gt_mem (tb4 _ (List.mem_of_getElem? (i := 205) (by decide +kernel))) rfl⟩
theorem ok_X10_look : MOK mX10_look 1 := ⟨gt_mem (tb4 _ (List.mem_of_getElem? (i := 210) (by decide +kernel))) rfl, gt_mem (tb1 _ (List.mem_of_getElem? (i := 1) (by decide +kernel))) rfl, by decide +kernel⟩
theorem iv_X10_look : Cond.instanceMethod yX10_look ∈ gt ∧ Cond.selects RX10 yX10_look yX10_look ∈ gt := ⟨gt_mem (tb4 _ (List.mem_of_getElem? (i := 208) (by decide +kernel))) rfl, gt_mem (tb4 _ (List.mem_of_getElem? (i := 209) (by decide +kernel))) rfl⟩
theorem ok_X10_risk : MOK mX10_risk 1 := ⟨gt_mem (tb5 _ (List.mem_of_getElem? (i := 15) (by decide +kernel))) rfl, gt_mem (tb1 _ (List.mem_of_getElem? (i := 1) (by decide +kernel))) rfl, by decide +kernel⟩
theorem iv_X10_risk : Cond.instanceMethod yX10_risk ∈ gt ∧ Cond.selects RX10 yX10_risk yX10_risk ∈ gt := ⟨gt_mem (tb5 _ (List.mem_of_getElem? (i := 13) (by decide +kernel))) rfl, gt_mem (tb5 _ (List.mem_of_getElem? (i := 14) (by decide +kernel))) rfl⟩
theorem ok_X10_converts : MOK mX10_converts 1 := ⟨gt_mem (tb5 _ (List.mem_of_getElem? (i := 0) (by decide +kernel))) rfl, gt_mem (tb1 _ (List.mem_of_getElem? (i := 1) (by decide +kernel))) rfl, by decide +kernel⟩
theorem iv_X10_converts : Cond.instanceMethod yX10_converts ∈ gt ∧ Cond.selects RX10 yX10_converts yX10_converts ∈ gt := ⟨gt_mem (tb4 _ (List.mem_of_getElem? (i := 238) (by decide +kernel))) rfl, gt_mem (tb4 _ (List.mem_of_getElem? (i := 239) (by decide +kernel))) rfl⟩
theorem ok_X10_count : MOK mX10_count 1 := ⟨gt_mem (tb5 _ (List.mem_of_getElem? (i := 6) (by decide +kernel))) rfl, gt_mem (tb1 _ (List.mem_of_getElem? (i := 1) (by decide +kernel))) rfl, by decide +kernel⟩
theorem iv_X10_count : Cond.instanceMethod yX10_count ∈ gt ∧ Cond.selects RX10 yX10_count yX10_count ∈ gt := ⟨gt_mem (tb5 _ (List.mem_of_getElem? (i := 4) (by decide +kernel))) rfl, gt_mem (tb5 _ (List.mem_of_getElem? (i := 5) (by decide +kernel))) rfl⟩
theorem ok_X10_isHalf : MOK mX10_isHalf 1 := ⟨gt_mem (tb3 _ (List.mem_of_getElem? (i := 213) (by decide +kernel))) rfl, gt_mem (tb1 _ (List.mem_of_getElem? (i := 1) (by decide +kernel))) rfl, by decide +kernel⟩
theorem iv_X10_isHalf : Cond.static yX10_isHalf ∈ gt := gt_mem (tb3 _ (List.mem_of_getElem? (i := 212) (by decide +kernel))) rfl
theorem ok_X10_isClass : MOK mX10_isClass 1 := ⟨gt_mem (tb3 _ (List.mem_of_getElem? (i := 76) (by decide +kernel))) rfl, gt_mem (tb1 _ (List.mem_of_getElem? (i := 1) (by decide +kernel))) rfl, by decide +kernel⟩
theorem iv_X10_isClass : Cond.static yX10_isClass ∈ gt := gt_mem (tb3 _ (List.mem_of_getElem? (i := 75) (by decide +kernel))) rfl
theorem ok_X10_isGroup : MOK mX10_isGroup 1 := ⟨gt_mem (tb4 _ (List.mem_of_getElem? (i := 110) (by decide +kernel))) rfl, gt_mem (tb1 _ (List.mem_of_getElem? (i := 1) (by decide +kernel))) rfl, by decide +kernel⟩
theorem iv_X10_isGroup : Cond.static yX10_isGroup ∈ gt := gt_mem (tb4 _ (List.mem_of_getElem? (i := 109) (by decide +kernel))) rfl
theorem ok_X10_isHolder : MOK mX10_isHolder 1 := ⟨gt_mem (tb3 _ (List.mem_of_getElem? (i := 135) (by decide +kernel))) rfl, gt_mem (tb1 _ (List.mem_of_getElem? (i := 1) (by decide +kernel))) rfl, by decide +kernel⟩
theorem iv_X10_isHolder : Cond.static yX10_isHolder ∈ gt := gt_mem (tb3 _ (List.mem_of_getElem? (i := 134) (by decide +kernel))) rfl
theorem ok_X10_hasBegun : MOK mX10_hasBegun 1 := ⟨gt_mem (tb4 _ (List.mem_of_getElem? (i := 66) (by decide +kernel))) rfl, gt_mem (tb1 _ (List.mem_of_getElem? (i := 1) (by decide +kernel))) rfl, by decide +kernel⟩
theorem iv_X10_hasBegun : Cond.instanceMethod yX10_hasBegun ∈ gt ∧ Cond.selects RX10 yX10_hasBegun yX10_hasBegun ∈ gt := ⟨gt_mem (tb4 _ (List.mem_of_getElem? (i := 65) (by decide +kernel))) rfl, gt_mem (List.mem_append_left _ (List.mem_of_getElem? (i := 22) (by decide +kernel))) rfl⟩
theorem ok_X10_hasYearsLeft : MOK mX10_hasYearsLeft 1 := ⟨gt_mem (tb4 _ (List.mem_of_getElem? (i := 137) (by decide +kernel))) rfl, gt_mem (tb1 _ (List.mem_of_getElem? (i := 1) (by decide +kernel))) rfl, by decide +kernel⟩
theorem iv_X10_hasYearsLeft : Cond.instanceMethod yX10_hasYearsLeft ∈ gt ∧ Cond.selects RX10 yX10_hasYearsLeft yX10_hasYearsLeft ∈ gt := ⟨gt_mem (tb4 _ (List.mem_of_getElem? (i := 136) (by decide +kernel))) rfl, gt_mem (List.mem_append_left _ (List.mem_of_getElem? (i := 25) (by decide +kernel))) rfl⟩
theorem ok_X10_groupOf : MOK mX10_groupOf 1 := ⟨gt_mem (tb4 _ (List.mem_of_getElem? (i := 157) (by decide +kernel))) rfl, gt_mem (tb1 _ (List.mem_of_getElem? (i := 1) (by decide +kernel))) rfl, by decide +kernel⟩
theorem iv_X10_groupOf : Cond.static yX10_groupOf ∈ gt := gt_mem (tb4 _ (List.mem_of_getElem? (i := 156) (by decide +kernel))) rfl
theorem ok_X10_ruling : MOK mX10_ruling 4 := ⟨gt_mem (tb3 _ (List.mem_of_getElem? (i := 99) (by decide +kernel))) rfl, gt_mem (tb1 _ (List.mem_of_getElem? (i := 1) (by decide +kernel))) rfl, by decide +kernel⟩
theorem iv_X10_ruling : Cond.instanceMethod yX10_ruling ∈ gt ∧ Cond.selects RX10 yX10_ruling yX10_ruling ∈ gt := ⟨gt_mem (tb3 _ (List.mem_of_getElem? (i := 98) (by decide +kernel))) rfl, gt_mem (List.mem_append_left _ (List.mem_of_getElem? (i := 15) (by decide +kernel))) rfl⟩
theorem ok_X10_mayBeNamed : MOK mX10_mayBeNamed 2 := ⟨gt_mem (tb3 _ (List.mem_of_getElem? (i := 92) (by decide +kernel))) rfl, gt_mem (tb1 _ (List.mem_of_getElem? (i := 1) (by decide +kernel))) rfl, by decide +kernel⟩
theorem iv_X10_mayBeNamed : Cond.instanceMethod yX10_mayBeNamed ∈ gt ∧ Cond.selects RX10 yX10_mayBeNamed yX10_mayBeNamed ∈ gt := ⟨gt_mem (tb3 _ (List.mem_of_getElem? (i := 91) (by decide +kernel))) rfl, gt_mem (List.mem_append_left _ (List.mem_of_getElem? (i := 14) (by decide +kernel))) rfl⟩
theorem ok_X10_priceOn : MOK mX10_priceOn 2 := ⟨gt_mem (tb3 _ (List.mem_of_getElem? (i := 120) (by decide +kernel))) rfl, gt_mem (tb1 _ (List.mem_of_getElem? (i := 1) (by decide +kernel))) rfl, by decide +kernel⟩
theorem iv_X10_priceOn : Cond.instanceMethod yX10_priceOn ∈ gt ∧ Cond.selects RX10 yX10_priceOn yX10_priceOn ∈ gt := ⟨gt_mem (tb3 _ (List.mem_of_getElem? (i := 119) (by decide +kernel))) rfl, gt_mem (List.mem_append_left _ (List.mem_of_getElem? (i := 16) (by decide +kernel))) rfl⟩
theorem ok_X10_lumpOn : MOK mX10_lumpOn 2 := ⟨gt_mem (tb3 _ (List.mem_of_getElem? (i := 126) (by decide +kernel))) rfl, gt_mem (tb1 _ (List.mem_of_getElem? (i := 1) (by decide +kernel))) rfl, by decide +kernel⟩
theorem iv_X10_lumpOn : Cond.instanceMethod yX10_lumpOn ∈ gt ∧ Cond.selects RX10 yX10_lumpOn yX10_lumpOn ∈ gt := ⟨gt_mem (tb3 _ (List.mem_of_getElem? (i := 125) (by decide +kernel))) rfl, gt_mem (List.mem_append_left _ (List.mem_of_getElem? (i := 17) (by decide +kernel))) rfl⟩
theorem ok_X10_worthNow : MOK mX10_worthNow 3 := ⟨gt_mem (tb4 _ (List.mem_of_getElem? (i := 141) (by decide +kernel))) rfl, gt_mem (tb1 _ (List.mem_of_getElem? (i := 1) (by decide +kernel))) rfl, by decide +kernel⟩
theorem iv_X10_worthNow : Cond.instanceMethod yX10_worthNow ∈ gt ∧ Cond.selects RX10 yX10_worthNow yX10_worthNow ∈ gt := ⟨gt_mem (tb4 _ (List.mem_of_getElem? (i := 140) (by decide +kernel))) rfl, gt_mem (List.mem_append_left _ (List.mem_of_getElem? (i := 26) (by decide +kernel))) rfl⟩
theorem ok_X10_riskOn : MOK mX10_riskOn 1 := ⟨gt_mem (tb4 _ (List.mem_of_getElem? (i := 215) (by decide +kernel))) rfl, gt_mem (tb1 _ (List.mem_of_getElem? (i := 1) (by decide +kernel))) rfl, by decide +kernel⟩
theorem iv_X10_riskOn : Cond.instanceMethod yX10_riskOn ∈ gt ∧ Cond.selects RX10 yX10_riskOn yX10_riskOn ∈ gt := ⟨gt_mem (tb4 _ (List.mem_of_getElem? (i := 214) (by decide +kernel))) rfl, gt_mem (List.mem_append_left _ (List.mem_of_getElem? (i := 32) (by decide +kernel))) rfl⟩
theorem ok_X10_riskierThan : MOK mX10_riskierThan 1 := ⟨gt_mem (tb4 _ (List.mem_of_getElem? (i := 236) (by decide +kernel))) rfl, gt_mem (tb1 _ (List.mem_of_getElem? (i := 1) (by decide +kernel))) rfl, by decide +kernel⟩
theorem iv_X10_riskierThan : Cond.instanceMethod yX10_riskierThan ∈ gt ∧ Cond.selects RX10 yX10_riskierThan yX10_riskierThan ∈ gt := ⟨gt_mem (tb4 _ (List.mem_of_getElem? (i := 235) (by decide +kernel))) rfl, gt_mem (List.mem_append_left _ (List.mem_of_getElem? (i := 33) (by decide +kernel))) rfl⟩
theorem ok_J9_min_7cf53 : MOK mJ9_min_7cf53 2 := ⟨gt_mem (tb2 _ (List.mem_of_getElem? (i := 158) (by decide +kernel))) rfl, gt_mem (tb1 _ (List.mem_of_getElem? (i := 12) (by decide +kernel))) rfl, by decide +kernel⟩
theorem iv_J9_min_7cf53 : Cond.static yJ9_min_7cf53 ∈ gt := gt_mem (tb2 _ (List.mem_of_getElem? (i := 157) (by decide +kernel))) rfl
theorem ok_J9_max_7cf53 : MOK mJ9_max_7cf53 2 := ⟨gt_mem (tb4 _ (List.mem_of_getElem? (i := 41) (by decide +kernel))) rfl, gt_mem (tb1 _ (List.mem_of_getElem? (i := 12) (by decide +kernel))) rfl, by decide +kernel⟩
theorem iv_J9_max_7cf53 : Cond.static yJ9_max_7cf53 ∈ gt := gt_mem (tb4 _ (List.mem_of_getElem? (i := 40) (by decide +kernel))) rfl
theorem ok_J7_fill_53178 : MOK mJ7_fill_53178 2 := ⟨gt_mem (tb1 _ (List.mem_of_getElem? (i := 148) (by decide +kernel))) rfl, gt_mem (tb1 _ (List.mem_of_getElem? (i := 5) (by decide +kernel))) rfl, by decide +kernel⟩
theorem iv_J7_fill_53178 : Cond.static yJ7_fill_53178 ∈ gt := gt_mem (tb1 _ (List.mem_of_getElem? (i := 147) (by decide +kernel))) rfl
