/-! ===== printed by gen/blocks.py: the tables' words ===== -/
abbrev mX0_clear : jw_Mt := (yX0_clear, cX0_clear, 1, none)
abbrev mX0_add : jw_Mt := (yX0_add, cX0_add, 3, (some .boolean))
abbrev mX0_firstWrong : jw_Mt := (yX0_firstWrong, cX0_firstWrong, 2, (some .int))
abbrev mX1_clear : jw_Mt := (yX1_clear, cX1_clear, 1, none)
abbrev mX1_copyFrom : jw_Mt := (yX1_copyFrom, cX1_copyFrom, 2, none)
abbrev mX1_addPlinth : jw_Mt := (yX1_addPlinth, cX1_addPlinth, 2, none)
abbrev mX1_addStatue : jw_Mt := (yX1_addStatue, cX1_addStatue, 4, none)
abbrev mX1_addWalker : jw_Mt := (yX1_addWalker, cX1_addWalker, 4, none)
abbrev mX1_isTakenAtFirst : jw_Mt := (yX1_isTakenAtFirst, cX1_isTakenAtFirst, 3, (some .boolean))
abbrev mX1_hasPlinth : jw_Mt := (yX1_hasPlinth, cX1_hasPlinth, 2, (some .boolean))
abbrev mX1_hasStatue : jw_Mt := (yX1_hasStatue, cX1_hasStatue, 2, (some .boolean))
abbrev mX1_hasWalker : jw_Mt := (yX1_hasWalker, cX1_hasWalker, 2, (some .boolean))
abbrev mX1_isSetOfPlinths : jw_Mt := (yX1_isSetOfPlinths, cX1_isSetOfPlinths, 2, (some .boolean))
abbrev mX1_isSetOfStatues : jw_Mt := (yX1_isSetOfStatues, cX1_isSetOfStatues, 2, (some .boolean))
abbrev mX1_setsOfWalkers : jw_Mt := (yX1_setsOfWalkers, cX1_setsOfWalkers, 1, (some .int))
abbrev mX1_pleases : jw_Mt := (yX1_pleases, cX1_pleases, 3, (some .boolean))
abbrev mX1_votesOf : jw_Mt := (yX1_votesOf, cX1_votesOf, 4, (some .int))
abbrev mX2_draw : jw_Mt := (yX2_draw, cX2_draw, 2, (some .int))
abbrev mX2_befall : jw_Mt := (yX2_befall, cX2_befall, 1, none)
abbrev mX2_turnWalker : jw_Mt := (yX2_turnWalker, cX2_turnWalker, 3, none)
abbrev mX2_raiseStatue : jw_Mt := (yX2_raiseStatue, cX2_raiseStatue, 3, none)
abbrev mX2_washStatue : jw_Mt := (yX2_washStatue, cX2_washStatue, 2, none)
abbrev mX3_clear : jw_Mt := (yX3_clear, cX3_clear, 1, none)
abbrev mX3_push : jw_Mt := (yX3_push, cX3_push, 2, none)
abbrev mX3_popInto : jw_Mt := (yX3_popInto, cX3_popInto, 2, none)
abbrev mX5_placeAll : jw_Mt := (yX5_placeAll, cX5_placeAll, 3, none)
abbrev mX5_placed : jw_Mt := (yX5_placed, cX5_placed, 1, (some .int))
abbrev mX5_viewTogether : jw_Mt := (yX5_viewTogether, cX5_viewTogether, 1, (some .int))
abbrev mX5_bestOfAll : jw_Mt := (yX5_bestOfAll, cX5_bestOfAll, 1, (some .int))
abbrev mX5_bestWorth : jw_Mt := (yX5_bestWorth, cX5_bestWorth, 5, (some .int))
abbrev mX5_firstBest : jw_Mt := (yX5_firstBest, cX5_firstBest, 4, (some .int))
abbrev mX5_canHave : jw_Mt := (yX5_canHave, cX5_canHave, 4, (some .boolean))
abbrev mX5_worthOn : jw_Mt := (yX5_worthOn, cX5_worthOn, 4, (some .int))
abbrev mX5_without : jw_Mt := (yX5_without, cX5_without, 2, (some .int))
abbrev mX5_howManySwaps : jw_Mt := (yX5_howManySwaps, cX5_howManySwaps, 4, (some .int))
abbrev mX5_nthSwap : jw_Mt := (yX5_nthSwap, cX5_nthSwap, 5, (some .int))
abbrev mX5_wouldSwap : jw_Mt := (yX5_wouldSwap, cX5_wouldSwap, 6, (some .boolean))
abbrev mX6_fewestChanges : jw_Mt := (yX6_fewestChanges, cX6_fewestChanges, 7, (some .int))
abbrev mX6_weight : jw_Mt := (yX6_weight, cX6_weight, 9, (some .int))
abbrev mX6_ordersAround : jw_Mt := (yX6_ordersAround, cX6_ordersAround, 4, (some .int))
abbrev mX6_isHadAgainst : jw_Mt := (yX6_isHadAgainst, cX6_isHadAgainst, 5, (some .boolean))
abbrev mX6_beloved : jw_Mt := (yX6_beloved, cX6_beloved, 2, (some .int))
abbrev mX6_isHadAgainstAll : jw_Mt := (yX6_isHadAgainstAll, cX6_isHadAgainstAll, 3, (some .boolean))
abbrev mX6_rings : jw_Mt := (yX6_rings, cX6_rings, 5, (some .int))
abbrev mX6_goesRound : jw_Mt := (yX6_goesRound, cX6_goesRound, 4, (some .boolean))
abbrev mX7_append : jw_Mt := (yX7_append, cX7_append, 2, (some .boolean))
abbrev mX7_readAll : jw_Mt := (yX7_readAll, cX7_readAll, 2, none)
abbrev mX7_letter : jw_Mt := (yX7_letter, cX7_letter, 1, (some .int))
abbrev mX7_isFigure : jw_Mt := (yX7_isFigure, cX7_isFigure, 1, (some .boolean))
abbrev mX7_skipBlanks : jw_Mt := (yX7_skipBlanks, cX7_skipBlanks, 1, none)
abbrev mX7_blame : jw_Mt := (yX7_blame, cX7_blame, 3, none)
abbrev mX7_readClause : jw_Mt := (yX7_readClause, cX7_readClause, 3, none)
abbrev mX7_faultOfWord : jw_Mt := (yX7_faultOfWord, cX7_faultOfWord, 4, (some .int))
abbrev mX7_readTerm : jw_Mt := (yX7_readTerm, cX7_readTerm, 2, none)
abbrev mX7_readPlinth : jw_Mt := (yX7_readPlinth, cX7_readPlinth, 2, none)
abbrev mX7_readStatue : jw_Mt := (yX7_readStatue, cX7_readStatue, 4, none)
abbrev mX7_readWalker : jw_Mt := (yX7_readWalker, cX7_readWalker, 4, none)
abbrev mX7_readPlace : jw_Mt := (yX7_readPlace, cX7_readPlace, 3, (some .int))
abbrev mX7_readNumber : jw_Mt := (yX7_readNumber, cX7_readNumber, 5, (some .int))
abbrev mX7_readSemicolon : jw_Mt := (yX7_readSemicolon, cX7_readSemicolon, 1, none)
abbrev mX8_begin : jw_Mt := (yX8_begin, cX8_begin, 2, none)
abbrev mX8_copyFrom : jw_Mt := (yX8_copyFrom, cX8_copyFrom, 2, none)
abbrev mX8_stands : jw_Mt := (yX8_stands, cX8_stands, 2, (some .boolean))
abbrev mX8_isOn : jw_Mt := (yX8_isOn, cX8_isOn, 3, (some .boolean))
abbrev mX8_canStand : jw_Mt := (yX8_canStand, cX8_canStand, 3, (some .boolean))
abbrev mX8_whoIsOn : jw_Mt := (yX8_whoIsOn, cX8_whoIsOn, 3, (some .int))
abbrev mX8_standers : jw_Mt := (yX8_standers, cX8_standers, 3, (some .int))
abbrev mX8_emptyPlinths : jw_Mt := (yX8_emptyPlinths, cX8_emptyPlinths, 3, (some .int))
abbrev mX8_walkersUnder : jw_Mt := (yX8_walkersUnder, cX8_walkersUnder, 4, (some .int))
abbrev mX8_walkersLiking : jw_Mt := (yX8_walkersLiking, cX8_walkersLiking, 4, (some .int))
abbrev mX8_lead : jw_Mt := (yX8_lead, cX8_lead, 4, (some .int))
abbrev mX8_margin : jw_Mt := (yX8_margin, cX8_margin, 2, (some .int))
abbrev mX8_outvoted : jw_Mt := (yX8_outvoted, cX8_outvoted, 3, (some .int))
abbrev mX8_passYear : jw_Mt := (yX8_passYear, cX8_passYear, 2, none)
abbrev mX8_strain : jw_Mt := (yX8_strain, cX8_strain, 2, (some .int))
abbrev mX8_holdElection : jw_Mt := (yX8_holdElection, cX8_holdElection, 3, none)
abbrev mX9_clear : jw_Mt := (yX9_clear, cX9_clear, 1, none)
abbrev mX9_add : jw_Mt := (yX9_add, cX9_add, 3, (some .boolean))
abbrev mX9_fitAll : jw_Mt := (yX9_fitAll, cX9_fitAll, 5, none)
abbrev mX9_inEach : jw_Mt := (yX9_inEach, cX9_inEach, 4, (some .int))
abbrev mX9_bestPlinth : jw_Mt := (yX9_bestPlinth, cX9_bestPlinth, 5, (some .int))
abbrev mX9_greatestPart : jw_Mt := (yX9_greatestPart, cX9_greatestPart, 6, (some .int))
abbrev mX10_feed : jw_Mt := (yX10_feed, cX10_feed, 2, (some .int))
abbrev mX10_capital : jw_Mt := (yX10_capital, cX10_capital, 2, (some .int))
abbrev mX10_fault : jw_Mt := (yX10_fault, cX10_fault, 1, (some .int))
abbrev mX10_told : jw_Mt := (yX10_told, cX10_told, 2, (some .int))
abbrev mX10_plinth : jw_Mt := (yX10_plinth, cX10_plinth, 3, (some .int))
abbrev mX10_statue : jw_Mt := (yX10_statue, cX10_statue, 3, (some .int))
abbrev mX10_walker : jw_Mt := (yX10_walker, cX10_walker, 3, (some .int))
abbrev mX10_year : jw_Mt := (yX10_year, cX10_year, 4, (some .int))
abbrev mX10_stand : jw_Mt := (yX10_stand, cX10_stand, 3, (some .int))
abbrev mX10_down : jw_Mt := (yX10_down, cX10_down, 3, (some .int))
abbrev mX10_scrub : jw_Mt := (yX10_scrub, cX10_scrub, 3, (some .int))
abbrev mX10_walk : jw_Mt := (yX10_walk, cX10_walk, 4, (some .int))
abbrev mX10_like : jw_Mt := (yX10_like, cX10_like, 4, (some .int))
abbrev mX10_drift : jw_Mt := (yX10_drift, cX10_drift, 4, (some .int))
abbrev mX10_undo : jw_Mt := (yX10_undo, cX10_undo, 1, (some .int))
abbrev mX10_standing : jw_Mt := (yX10_standing, cX10_standing, 4, (some .int))
abbrev mX10_goesDown : jw_Mt := (yX10_goesDown, cX10_goesDown, 3, (some .int))
abbrev mX10_change : jw_Mt := (yX10_change, cX10_change, 3, (some .int))
abbrev mX10_power : jw_Mt := (yX10_power, cX10_power, 4, (some .int))
abbrev mX10_mostHave : jw_Mt := (yX10_mostHave, cX10_mostHave, 3, (some .int))
abbrev mX10_places : jw_Mt := (yX10_places, cX10_places, 2, (some .int))
abbrev mX10_swaps : jw_Mt := (yX10_swaps, cX10_swaps, 2, (some .int))
abbrev mX10_close : jw_Mt := (yX10_close, cX10_close, 6, (some .int))
abbrev mX10_count : jw_Mt := (yX10_count, cX10_count, 3, (some .int))
abbrev mX10_likings : jw_Mt := (yX10_likings, cX10_likings, 2, (some .int))
abbrev mX10_ladder : jw_Mt := (yX10_ladder, cX10_ladder, 1, (some .int))
abbrev mX10_write : jw_Mt := (yX10_write, cX10_write, 3, (some .int))
abbrev mX10_tear : jw_Mt := (yX10_tear, cX10_tear, 2, (some .int))
abbrev mX10_judge : jw_Mt := (yX10_judge, cX10_judge, 1, (some .int))
abbrev mX10_seed : jw_Mt := (yX10_seed, cX10_seed, 3, (some .int))
abbrev mX10_keep : jw_Mt := (yX10_keep, cX10_keep, 2, (some .int))
abbrev mX10_goBack : jw_Mt := (yX10_goBack, cX10_goBack, 2, (some .int))
abbrev mX10_refusalOfYears : jw_Mt := (yX10_refusalOfYears, cX10_refusalOfYears, 2, (some .int))
abbrev mX10_isIn : jw_Mt := (yX10_isIn, cX10_isIn, 2, (some .boolean))
abbrev mX11_in : jw_Mt := (yX11_in, cX11_in, 6, (some .boolean))
abbrev mX11_has : jw_Mt := (yX11_has, cX11_has, 2, (some .boolean))
abbrev mX11_bits : jw_Mt := (yX11_bits, cX11_bits, 3, (some .int))
abbrev mX11_isPlinth : jw_Mt := (yX11_isPlinth, cX11_isPlinth, 2, (some .boolean))
abbrev mX11_isStatue : jw_Mt := (yX11_isStatue, cX11_isStatue, 2, (some .boolean))
abbrev mX11_isWalker : jw_Mt := (yX11_isWalker, cX11_isWalker, 2, (some .boolean))
abbrev mX11_feed : jw_Mt := (yX11_feed, cX11_feed, 2, (some .int))
abbrev mX11_here : jw_Mt := (yX11_here, cX11_here, 1, (some .int))
abbrev mX11_fails : jw_Mt := (yX11_fails, cX11_fails, 3, (some .int))
abbrev mX11_takeNumber : jw_Mt := (yX11_takeNumber, cX11_takeNumber, 4, (some .int))
abbrev mX11_into : jw_Mt := (yX11_into, cX11_into, 6, (some .int))
abbrev mX11_takeTerm : jw_Mt := (yX11_takeTerm, cX11_takeTerm, 2, (some .int))
abbrev mX11_takePlinth : jw_Mt := (yX11_takePlinth, cX11_takePlinth, 1, (some .int))
abbrev mX11_takePlace : jw_Mt := (yX11_takePlace, cX11_takePlace, 5, (some .int))
abbrev mX11_takeStatue : jw_Mt := (yX11_takeStatue, cX11_takeStatue, 3, (some .int))
abbrev mX11_takeWalker : jw_Mt := (yX11_takeWalker, cX11_takeWalker, 3, (some .int))
abbrev mX11_isFull : jw_Mt := (yX11_isFull, cX11_isFull, 2, (some .boolean))
abbrev mX11_takeClause : jw_Mt := (yX11_takeClause, cX11_takeClause, 5, (some .int))
abbrev mX11_copyRow : jw_Mt := (yX11_copyRow, cX11_copyRow, 4, none)
abbrev mX11_takeRead : jw_Mt := (yX11_takeRead, cX11_takeRead, 2, none)
abbrev mX11_capital : jw_Mt := (yX11_capital, cX11_capital, 2, (some .int))
abbrev mX11_fault : jw_Mt := (yX11_fault, cX11_fault, 1, (some .int))
abbrev mX11_stands : jw_Mt := (yX11_stands, cX11_stands, 2, (some .boolean))
abbrev mX11_whoIsOn : jw_Mt := (yX11_whoIsOn, cX11_whoIsOn, 3, (some .int))
abbrev mX11_walkersUnder : jw_Mt := (yX11_walkersUnder, cX11_walkersUnder, 4, (some .int))
abbrev mX11_votesOf : jw_Mt := (yX11_votesOf, cX11_votesOf, 4, (some .int))
abbrev mX11_whoLikes : jw_Mt := (yX11_whoLikes, cX11_whoLikes, 4, (some .int))
abbrev mX11_marginBy : jw_Mt := (yX11_marginBy, cX11_marginBy, 4, (some .int))
abbrev mX11_marginOf : jw_Mt := (yX11_marginOf, cX11_marginOf, 2, (some .int))
abbrev mX11_standingOnes : jw_Mt := (yX11_standingOnes, cX11_standingOnes, 3, (some .int))
abbrev mX11_fallingOnes : jw_Mt := (yX11_fallingOnes, cX11_fallingOnes, 3, (some .int))
abbrev mX11_waitingOnes : jw_Mt := (yX11_waitingOnes, cX11_waitingOnes, 3, (some .int))
abbrev mX11_isHad : jw_Mt := (yX11_isHad, cX11_isHad, 5, (some .boolean))
abbrev mX11_beloved : jw_Mt := (yX11_beloved, cX11_beloved, 4, (some .int))
abbrev mX11_rings : jw_Mt := (yX11_rings, cX11_rings, 7, (some .int))
abbrev mX11_told : jw_Mt := (yX11_told, cX11_told, 2, (some .int))
abbrev mX11_plinth : jw_Mt := (yX11_plinth, cX11_plinth, 3, (some .int))
abbrev mX11_statue : jw_Mt := (yX11_statue, cX11_statue, 3, (some .int))
abbrev mX11_walker : jw_Mt := (yX11_walker, cX11_walker, 3, (some .int))
abbrev mX11_moreTired : jw_Mt := (yX11_moreTired, cX11_moreTired, 2, (some .int))
abbrev mX11_elect : jw_Mt := (yX11_elect, cX11_elect, 3, none)
abbrev mX11_pass : jw_Mt := (yX11_pass, cX11_pass, 3, none)
abbrev mX11_remember : jw_Mt := (yX11_remember, cX11_remember, 2, none)
abbrev mX11_yearsRefused : jw_Mt := (yX11_yearsRefused, cX11_yearsRefused, 2, (some .int))
abbrev mX11_year : jw_Mt := (yX11_year, cX11_year, 4, (some .int))
abbrev mX11_canStand : jw_Mt := (yX11_canStand, cX11_canStand, 3, (some .boolean))
abbrev mX11_stand : jw_Mt := (yX11_stand, cX11_stand, 3, (some .int))
abbrev mX11_down : jw_Mt := (yX11_down, cX11_down, 3, (some .int))
abbrev mX11_scrub : jw_Mt := (yX11_scrub, cX11_scrub, 3, (some .int))
abbrev mX11_walk : jw_Mt := (yX11_walk, cX11_walk, 4, (some .int))
abbrev mX11_like : jw_Mt := (yX11_like, cX11_like, 4, (some .int))
abbrev mX11_draw : jw_Mt := (yX11_draw, cX11_draw, 2, (some .int))
abbrev mX11_chance : jw_Mt := (yX11_chance, cX11_chance, 4, none)
abbrev mX11_drift : jw_Mt := (yX11_drift, cX11_drift, 4, (some .int))
abbrev mX11_undo : jw_Mt := (yX11_undo, cX11_undo, 2, (some .int))
abbrev mX11_standing : jw_Mt := (yX11_standing, cX11_standing, 4, (some .int))
abbrev mX11_goesDown : jw_Mt := (yX11_goesDown, cX11_goesDown, 4, (some .int))
abbrev mX11_change : jw_Mt := (yX11_change, cX11_change, 8, (some .int))
abbrev mX11_factorial : jw_Mt := (yX11_factorial, cX11_factorial, 3, (some .int))
abbrev mX11_power : jw_Mt := (yX11_power, cX11_power, 11, (some .int))
abbrev mX11_mostHave : jw_Mt := (yX11_mostHave, cX11_mostHave, 3, (some .int))
abbrev mX11_withPlace : jw_Mt := (yX11_withPlace, cX11_withPlace, 5, (some .int))
abbrev mX11_findPlaces : jw_Mt := (yX11_findPlaces, cX11_findPlaces, 6, none)
abbrev mX11_placeOf : jw_Mt := (yX11_placeOf, cX11_placeOf, 6, (some .int))
abbrev mX11_places : jw_Mt := (yX11_places, cX11_places, 2, (some .int))
abbrev mX11_swaps : jw_Mt := (yX11_swaps, cX11_swaps, 7, (some .int))
abbrev mX11_close : jw_Mt := (yX11_close, cX11_close, 6, (some .int))
abbrev mX11_count : jw_Mt := (yX11_count, cX11_count, 3, (some .int))
abbrev mX11_votesOn : jw_Mt := (yX11_votesOn, cX11_votesOn, 3, (some .int))
abbrev mX11_couldBe : jw_Mt := (yX11_couldBe, cX11_couldBe, 4, (some .boolean))
abbrev mX11_manyThat : jw_Mt := (yX11_manyThat, cX11_manyThat, 3, (some .int))
abbrev mX11_likings : jw_Mt := (yX11_likings, cX11_likings, 4, (some .int))
abbrev mX11_greatestPart : jw_Mt := (yX11_greatestPart, cX11_greatestPart, 5, (some .int))
abbrev mX11_ladder : jw_Mt := (yX11_ladder, cX11_ladder, 5, (some .int))
abbrev mX11_write : jw_Mt := (yX11_write, cX11_write, 3, (some .int))
abbrev mX11_tear : jw_Mt := (yX11_tear, cX11_tear, 2, (some .int))
abbrev mX11_judge : jw_Mt := (yX11_judge, cX11_judge, 2, (some .int))
abbrev mX11_seed : jw_Mt := (yX11_seed, cX11_seed, 3, (some .int))
abbrev mX11_keep : jw_Mt := (yX11_keep, cX11_keep, 3, (some .int))
abbrev mX11_goBack : jw_Mt := (yX11_goBack, cX11_goBack, 3, (some .int))
abbrev mJ6_bitCount_0f7a4 : jw_Mt := (yJ6_bitCount_0f7a4, cJ6_bitCount_0f7a4, 1, (some .int))
theorem fw_X0 : ∀ w ∈ u_ws RX0 TX0 4, w ∈ jw_words := fun w hw => List.mem_filter.mpr ⟨(by decide +kernel : ∀ w ∈ u_ws RX0 TX0 4, w ∈ lw_tbl) w hw, (by decide +kernel : ∀ w ∈ u_ws RX0 TX0 4, goodWord w = true) w hw⟩
theorem fw_X1 : ∀ w ∈ u_ws RX1 TX1 11, w ∈ jw_words := fun w hw => List.mem_filter.mpr ⟨(by decide +kernel : ∀ w ∈ u_ws RX1 TX1 11, w ∈ lw_tbl) w hw, (by decide +kernel : ∀ w ∈ u_ws RX1 TX1 11, goodWord w = true) w hw⟩
theorem fw_X2 : ∀ w ∈ u_ws RX2 TX2 3, w ∈ jw_words := fun w hw => List.mem_filter.mpr ⟨(by decide +kernel : ∀ w ∈ u_ws RX2 TX2 3, w ∈ lw_tbl) w hw, (by decide +kernel : ∀ w ∈ u_ws RX2 TX2 3, goodWord w = true) w hw⟩
theorem fw_X3 : ∀ w ∈ u_ws RX3 TX3 3, w ∈ jw_words := fun w hw => List.mem_filter.mpr ⟨(by decide +kernel : ∀ w ∈ u_ws RX3 TX3 3, w ∈ lw_tbl) w hw, (by decide +kernel : ∀ w ∈ u_ws RX3 TX3 3, goodWord w = true) w hw⟩
theorem fw_X4 : ∀ w ∈ u_ws RX4 TX4 3, w ∈ jw_words := fun w hw => List.mem_filter.mpr ⟨(by decide +kernel : ∀ w ∈ u_ws RX4 TX4 3, w ∈ lw_tbl) w hw, (by decide +kernel : ∀ w ∈ u_ws RX4 TX4 3, goodWord w = true) w hw⟩
theorem fw_X5 : ∀ w ∈ u_ws RX5 TX5 4, w ∈ jw_words := fun w hw => List.mem_filter.mpr ⟨(by decide +kernel : ∀ w ∈ u_ws RX5 TX5 4, w ∈ lw_tbl) w hw, (by decide +kernel : ∀ w ∈ u_ws RX5 TX5 4, goodWord w = true) w hw⟩
theorem fw_X6 : ∀ w ∈ u_ws RX6 TX6 2, w ∈ jw_words := fun w hw => List.mem_filter.mpr ⟨(by decide +kernel : ∀ w ∈ u_ws RX6 TX6 2, w ∈ lw_tbl) w hw, (by decide +kernel : ∀ w ∈ u_ws RX6 TX6 2, goodWord w = true) w hw⟩
theorem fw_X7 : ∀ w ∈ u_ws RX7 TX7 6, w ∈ jw_words := fun w hw => List.mem_filter.mpr ⟨(by decide +kernel : ∀ w ∈ u_ws RX7 TX7 6, w ∈ lw_tbl) w hw, (by decide +kernel : ∀ w ∈ u_ws RX7 TX7 6, goodWord w = true) w hw⟩
theorem fw_X8 : ∀ w ∈ u_ws RX8 TX8 7, w ∈ jw_words := fun w hw => List.mem_filter.mpr ⟨(by decide +kernel : ∀ w ∈ u_ws RX8 TX8 7, w ∈ lw_tbl) w hw, (by decide +kernel : ∀ w ∈ u_ws RX8 TX8 7, goodWord w = true) w hw⟩
theorem fw_X9 : ∀ w ∈ u_ws RX9 TX9 8, w ∈ jw_words := fun w hw => List.mem_filter.mpr ⟨(by decide +kernel : ∀ w ∈ u_ws RX9 TX9 8, w ∈ lw_tbl) w hw, (by decide +kernel : ∀ w ∈ u_ws RX9 TX9 8, goodWord w = true) w hw⟩
theorem fw_X10 : ∀ w ∈ u_ws RX10 TX10 11, w ∈ jw_words := fun w hw => List.mem_filter.mpr ⟨(by decide +kernel : ∀ w ∈ u_ws RX10 TX10 11, w ∈ lw_tbl) w hw, (by decide +kernel : ∀ w ∈ u_ws RX10 TX10 11, goodWord w = true) w hw⟩
theorem fw_X11 : ∀ w ∈ u_ws RX11 TX11 43, w ∈ jw_words := fun w hw => List.mem_filter.mpr ⟨(by decide +kernel : ∀ w ∈ u_ws RX11 TX11 43, w ∈ lw_tbl) w hw, (by decide +kernel : ∀ w ∈ u_ws RX11 TX11 43, goodWord w = true) w hw⟩
theorem fg_X10_18 : jw_F RX10 18 10 0 := ⟨RX10, TX10, 11, rfl, rfl, rfl, by decide, fw_X10, List.mem_append_right _ (List.mem_of_getElem? (i := 309) (by decide +kernel))⟩
theorem fg_X10_24 : jw_F RX10 24 10 1 := ⟨RX10, TX10, 11, rfl, rfl, rfl, by decide, fw_X10, List.mem_append_right _ (List.mem_of_getElem? (i := 310) (by decide +kernel))⟩
theorem fg_X10_28 : jw_F RX10 28 10 2 := ⟨RX10, TX10, 11, rfl, rfl, rfl, by decide, fw_X10, List.mem_append_right _ (List.mem_of_getElem? (i := 311) (by decide +kernel))⟩
theorem fg_X10_32 : jw_F RX10 32 10 3 := ⟨RX10, TX10, 11, rfl, rfl, rfl, by decide, fw_X10, List.mem_append_right _ (List.mem_of_getElem? (i := 312) (by decide +kernel))⟩
theorem fg_X10_40 : jw_F RX10 40 10 4 := ⟨RX10, TX10, 11, rfl, rfl, rfl, by decide, fw_X10, List.mem_append_right _ (List.mem_of_getElem? (i := 313) (by decide +kernel))⟩
theorem fg_X10_47 : jw_F RX10 47 10 5 := ⟨RX10, TX10, 11, rfl, rfl, rfl, by decide, fw_X10, List.mem_append_right _ (List.mem_of_getElem? (i := 314) (by decide +kernel))⟩
theorem fg_X10_54 : jw_F RX10 54 10 6 := ⟨RX10, TX10, 11, rfl, rfl, rfl, by decide, fw_X10, List.mem_append_right _ (List.mem_of_getElem? (i := 315) (by decide +kernel))⟩
theorem fg_X10_63 : jw_F RX10 63 10 7 := ⟨RX10, TX10, 11, rfl, rfl, rfl, by decide, fw_X10, List.mem_append_right _ (List.mem_of_getElem? (i := 316) (by decide +kernel))⟩
theorem fg_X10_70 : jw_F RX10 70 10 8 := ⟨RX10, TX10, 11, rfl, rfl, rfl, by decide, fw_X10, List.mem_append_right _ (List.mem_of_getElem? (i := 317) (by decide +kernel))⟩
theorem fg_X10_77 : jw_F RX10 77 10 9 := ⟨RX10, TX10, 11, rfl, rfl, rfl, by decide, fw_X10, List.mem_append_right _ (List.mem_of_getElem? (i := 318) (by decide +kernel))⟩
theorem fg_X10_84 : jw_F RX10 84 10 10 := ⟨RX10, TX10, 11, rfl, rfl, rfl, by decide, fw_X10, List.mem_append_right _ (List.mem_of_getElem? (i := 319) (by decide +kernel))⟩
theorem fg_X10_93 : jw_F RX10 93 7 2 := ⟨RX7, TX7, 6, rfl, rfl, rfl, by decide, fw_X7, List.mem_append_right _ (List.mem_of_getElem? (i := 143) (by decide +kernel))⟩
theorem fg_X10_101 : jw_F RX10 101 7 3 := ⟨RX7, TX7, 6, rfl, rfl, rfl, by decide, fw_X7, List.mem_append_right _ (List.mem_of_getElem? (i := 144) (by decide +kernel))⟩
theorem fg_X10_104 : jw_F RX10 104 7 5 := ⟨RX7, TX7, 6, rfl, rfl, rfl, by decide, fw_X7, List.mem_append_right _ (List.mem_of_getElem? (i := 149) (by decide +kernel))⟩
theorem fg_X10_118 : jw_F RX10 118 4 2 := ⟨RX4, TX4, 3, rfl, rfl, rfl, by decide, fw_X4, List.mem_append_right _ (List.mem_of_getElem? (i := 301) (by decide +kernel))⟩
theorem fg_X10_122 : jw_F RX10 122 1 1 := ⟨RX1, TX1, 11, rfl, rfl, rfl, by decide, fw_X1, List.mem_append_right _ (List.mem_of_getElem? (i := 36) (by decide +kernel))⟩
theorem fg_X10_125 : jw_F RX10 125 7 4 := ⟨RX7, TX7, 6, rfl, rfl, rfl, by decide, fw_X7, List.mem_append_right _ (List.mem_of_getElem? (i := 147) (by decide +kernel))⟩
theorem fg_X10_128 : jw_F RX10 128 1 0 := ⟨RX1, TX1, 11, rfl, rfl, rfl, by decide, fw_X1, List.mem_append_right _ (List.mem_of_getElem? (i := 31) (by decide +kernel))⟩
theorem fg_X10_131 : jw_F RX10 131 1 2 := ⟨RX1, TX1, 11, rfl, rfl, rfl, by decide, fw_X1, List.mem_append_right _ (List.mem_of_getElem? (i := 44) (by decide +kernel))⟩
theorem fg_X10_134 : jw_F RX10 134 1 3 := ⟨RX1, TX1, 11, rfl, rfl, rfl, by decide, fw_X1, List.mem_append_right _ (List.mem_of_getElem? (i := 50) (by decide +kernel))⟩
theorem fg_X10_137 : jw_F RX10 137 8 1 := ⟨RX8, TX8, 7, rfl, rfl, rfl, by decide, fw_X8, List.mem_append_right _ (List.mem_of_getElem? (i := 101) (by decide +kernel))⟩
theorem fg_X10_156 : jw_F RX10 156 9 6 := ⟨RX9, TX9, 8, rfl, rfl, rfl, by decide, fw_X9, List.mem_append_right _ (List.mem_of_getElem? (i := 211) (by decide +kernel))⟩
theorem fg_X10_159 : jw_F RX10 159 0 3 := ⟨RX0, TX0, 4, rfl, rfl, rfl, by decide, fw_X0, List.mem_append_right _ (List.mem_of_getElem? (i := 242) (by decide +kernel))⟩
theorem fg_X10_160 : jw_F RX10 160 3 2 := ⟨RX3, TX3, 3, rfl, rfl, rfl, by decide, fw_X3, List.mem_append_right _ (List.mem_of_getElem? (i := 281) (by decide +kernel))⟩
theorem fg_X10_165 : jw_F RX10 165 1 4 := ⟨RX1, TX1, 11, rfl, rfl, rfl, by decide, fw_X1, List.mem_append_right _ (List.mem_of_getElem? (i := 54) (by decide +kernel))⟩
theorem fg_X10_182 : jw_F RX10 182 1 5 := ⟨RX1, TX1, 11, rfl, rfl, rfl, by decide, fw_X1, List.mem_append_right _ (List.mem_of_getElem? (i := 57) (by decide +kernel))⟩
theorem fg_X10_185 : jw_F RX10 185 1 6 := ⟨RX1, TX1, 11, rfl, rfl, rfl, by decide, fw_X1, List.mem_append_right _ (List.mem_of_getElem? (i := 60) (by decide +kernel))⟩
theorem fg_X10_188 : jw_F RX10 188 8 2 := ⟨RX8, TX8, 7, rfl, rfl, rfl, by decide, fw_X8, List.mem_append_right _ (List.mem_of_getElem? (i := 105) (by decide +kernel))⟩
theorem fg_X10_191 : jw_F RX10 191 8 3 := ⟨RX8, TX8, 7, rfl, rfl, rfl, by decide, fw_X8, List.mem_append_right _ (List.mem_of_getElem? (i := 109) (by decide +kernel))⟩
theorem fg_X10_194 : jw_F RX10 194 8 4 := ⟨RX8, TX8, 7, rfl, rfl, rfl, by decide, fw_X8, List.mem_append_right _ (List.mem_of_getElem? (i := 111) (by decide +kernel))⟩
theorem fg_X10_206 : jw_F RX10 206 8 5 := ⟨RX8, TX8, 7, rfl, rfl, rfl, by decide, fw_X8, List.mem_append_right _ (List.mem_of_getElem? (i := 114) (by decide +kernel))⟩
theorem fg_X10_209 : jw_F RX10 209 1 8 := ⟨RX1, TX1, 11, rfl, rfl, rfl, by decide, fw_X1, List.mem_append_right _ (List.mem_of_getElem? (i := 64) (by decide +kernel))⟩
theorem fg_X10_212 : jw_F RX10 212 8 6 := ⟨RX8, TX8, 7, rfl, rfl, rfl, by decide, fw_X8, List.mem_append_right _ (List.mem_of_getElem? (i := 116) (by decide +kernel))⟩
theorem fg_X10_266 : jw_F RX10 266 5 3 := ⟨RX5, TX5, 4, rfl, rfl, rfl, by decide, fw_X5, List.mem_append_right _ (List.mem_of_getElem? (i := 188) (by decide +kernel))⟩
theorem fg_X10_285 : jw_F RX10 285 9 7 := ⟨RX9, TX9, 8, rfl, rfl, rfl, by decide, fw_X9, List.mem_append_right _ (List.mem_of_getElem? (i := 213) (by decide +kernel))⟩
theorem fg_X10_298 : jw_F RX10 298 2 2 := ⟨RX2, TX2, 3, rfl, rfl, rfl, by decide, fw_X2, List.mem_append_right _ (List.mem_of_getElem? (i := 261) (by decide +kernel))⟩
theorem fg_X10_301 : jw_F RX10 301 4 0 := ⟨RX4, TX4, 3, rfl, rfl, rfl, by decide, fw_X4, List.mem_append_right _ (List.mem_of_getElem? (i := 299) (by decide +kernel))⟩
theorem fg_X10_303 : jw_F RX10 303 4 1 := ⟨RX4, TX4, 3, rfl, rfl, rfl, by decide, fw_X4, List.mem_append_right _ (List.mem_of_getElem? (i := 300) (by decide +kernel))⟩
theorem fg_X0_11 : jw_F RX0 11 0 1 := ⟨RX0, TX0, 4, rfl, rfl, rfl, by decide, fw_X0, List.mem_append_right _ (List.mem_of_getElem? (i := 239) (by decide +kernel))⟩
theorem fg_X0_15 : jw_F RX0 15 0 2 := ⟨RX0, TX0, 4, rfl, rfl, rfl, by decide, fw_X0, List.mem_append_right _ (List.mem_of_getElem? (i := 240) (by decide +kernel))⟩
theorem fg_X0_18 : jw_F RX0 18 0 0 := ⟨RX0, TX0, 4, rfl, rfl, rfl, by decide, fw_X0, List.mem_append_right _ (List.mem_of_getElem? (i := 238) (by decide +kernel))⟩
theorem fg_X0_22 : jw_F RX0 22 0 3 := ⟨RX0, TX0, 4, rfl, rfl, rfl, by decide, fw_X0, List.mem_append_right _ (List.mem_of_getElem? (i := 241) (by decide +kernel))⟩
theorem fg_X1_9 : jw_F RX1 9 1 4 := ⟨RX1, TX1, 11, rfl, rfl, rfl, by decide, fw_X1, List.mem_append_right _ (List.mem_of_getElem? (i := 53) (by decide +kernel))⟩
theorem fg_X1_15 : jw_F RX1 15 1 5 := ⟨RX1, TX1, 11, rfl, rfl, rfl, by decide, fw_X1, List.mem_append_right _ (List.mem_of_getElem? (i := 56) (by decide +kernel))⟩
theorem fg_X1_18 : jw_F RX1 18 1 6 := ⟨RX1, TX1, 11, rfl, rfl, rfl, by decide, fw_X1, List.mem_append_right _ (List.mem_of_getElem? (i := 59) (by decide +kernel))⟩
theorem fg_X1_21 : jw_F RX1 21 1 7 := ⟨RX1, TX1, 11, rfl, rfl, rfl, by decide, fw_X1, List.mem_append_right _ (List.mem_of_getElem? (i := 61) (by decide +kernel))⟩
theorem fg_X1_24 : jw_F RX1 24 1 8 := ⟨RX1, TX1, 11, rfl, rfl, rfl, by decide, fw_X1, List.mem_append_right _ (List.mem_of_getElem? (i := 63) (by decide +kernel))⟩
theorem fg_X1_27 : jw_F RX1 27 1 9 := ⟨RX1, TX1, 11, rfl, rfl, rfl, by decide, fw_X1, List.mem_append_right _ (List.mem_of_getElem? (i := 65) (by decide +kernel))⟩
theorem fg_X1_30 : jw_F RX1 30 1 10 := ⟨RX1, TX1, 11, rfl, rfl, rfl, by decide, fw_X1, List.mem_append_right _ (List.mem_of_getElem? (i := 67) (by decide +kernel))⟩
theorem fg_X1_33 : jw_F RX1 33 1 0 := ⟨RX1, TX1, 11, rfl, rfl, rfl, by decide, fw_X1, List.mem_append_right _ (List.mem_of_getElem? (i := 30) (by decide +kernel))⟩
theorem fg_X1_37 : jw_F RX1 37 1 1 := ⟨RX1, TX1, 11, rfl, rfl, rfl, by decide, fw_X1, List.mem_append_right _ (List.mem_of_getElem? (i := 34) (by decide +kernel))⟩
theorem fg_X1_40 : jw_F RX1 40 1 2 := ⟨RX1, TX1, 11, rfl, rfl, rfl, by decide, fw_X1, List.mem_append_right _ (List.mem_of_getElem? (i := 41) (by decide +kernel))⟩
theorem fg_X1_43 : jw_F RX1 43 1 3 := ⟨RX1, TX1, 11, rfl, rfl, rfl, by decide, fw_X1, List.mem_append_right _ (List.mem_of_getElem? (i := 48) (by decide +kernel))⟩
theorem fg_X2_7 : jw_F RX2 7 2 0 := ⟨RX2, TX2, 3, rfl, rfl, rfl, by decide, fw_X2, List.mem_append_right _ (List.mem_of_getElem? (i := 258) (by decide +kernel))⟩
theorem fg_X2_13 : jw_F RX2 13 2 1 := ⟨RX2, TX2, 3, rfl, rfl, rfl, by decide, fw_X2, List.mem_append_right _ (List.mem_of_getElem? (i := 259) (by decide +kernel))⟩
theorem fg_X2_17 : jw_F RX2 17 2 2 := ⟨RX2, TX2, 3, rfl, rfl, rfl, by decide, fw_X2, List.mem_append_right _ (List.mem_of_getElem? (i := 260) (by decide +kernel))⟩
theorem fg_X2_41 : jw_F RX2 41 1 3 := ⟨RX1, TX1, 11, rfl, rfl, rfl, by decide, fw_X1, List.mem_append_right _ (List.mem_of_getElem? (i := 49) (by decide +kernel))⟩
theorem fg_X2_46 : jw_F RX2 46 1 1 := ⟨RX1, TX1, 11, rfl, rfl, rfl, by decide, fw_X1, List.mem_append_right _ (List.mem_of_getElem? (i := 37) (by decide +kernel))⟩
theorem fg_X2_53 : jw_F RX2 53 8 5 := ⟨RX8, TX8, 7, rfl, rfl, rfl, by decide, fw_X8, List.mem_append_right _ (List.mem_of_getElem? (i := 113) (by decide +kernel))⟩
theorem fg_X2_59 : jw_F RX2 59 1 2 := ⟨RX1, TX1, 11, rfl, rfl, rfl, by decide, fw_X1, List.mem_append_right _ (List.mem_of_getElem? (i := 43) (by decide +kernel))⟩
theorem fg_X2_66 : jw_F RX2 66 8 2 := ⟨RX8, TX8, 7, rfl, rfl, rfl, by decide, fw_X8, List.mem_append_right _ (List.mem_of_getElem? (i := 104) (by decide +kernel))⟩
theorem fg_X2_72 : jw_F RX2 72 8 3 := ⟨RX8, TX8, 7, rfl, rfl, rfl, by decide, fw_X8, List.mem_append_right _ (List.mem_of_getElem? (i := 108) (by decide +kernel))⟩
theorem fg_X3_11 : jw_F RX3 11 3 0 := ⟨RX3, TX3, 3, rfl, rfl, rfl, by decide, fw_X3, List.mem_append_right _ (List.mem_of_getElem? (i := 278) (by decide +kernel))⟩
theorem fg_X3_18 : jw_F RX3 18 3 2 := ⟨RX3, TX3, 3, rfl, rfl, rfl, by decide, fw_X3, List.mem_append_right _ (List.mem_of_getElem? (i := 280) (by decide +kernel))⟩
theorem fg_X3_22 : jw_F RX3 22 3 1 := ⟨RX3, TX3, 3, rfl, rfl, rfl, by decide, fw_X3, List.mem_append_right _ (List.mem_of_getElem? (i := 279) (by decide +kernel))⟩
theorem fg_X5_13 : jw_F RX5 13 5 2 := ⟨RX5, TX5, 4, rfl, rfl, rfl, by decide, fw_X5, List.mem_append_right _ (List.mem_of_getElem? (i := 186) (by decide +kernel))⟩
theorem fg_X5_16 : jw_F RX5 16 5 3 := ⟨RX5, TX5, 4, rfl, rfl, rfl, by decide, fw_X5, List.mem_append_right _ (List.mem_of_getElem? (i := 187) (by decide +kernel))⟩
theorem fg_X5_20 : jw_F RX5 20 5 0 := ⟨RX5, TX5, 4, rfl, rfl, rfl, by decide, fw_X5, List.mem_append_right _ (List.mem_of_getElem? (i := 184) (by decide +kernel))⟩
theorem fg_X5_24 : jw_F RX5 24 5 1 := ⟨RX5, TX5, 4, rfl, rfl, rfl, by decide, fw_X5, List.mem_append_right _ (List.mem_of_getElem? (i := 185) (by decide +kernel))⟩
theorem fg_X5_28 : jw_F RX5 28 1 2 := ⟨RX1, TX1, 11, rfl, rfl, rfl, by decide, fw_X1, List.mem_append_right _ (List.mem_of_getElem? (i := 42) (by decide +kernel))⟩
theorem fg_X5_38 : jw_F RX5 38 1 1 := ⟨RX1, TX1, 11, rfl, rfl, rfl, by decide, fw_X1, List.mem_append_right _ (List.mem_of_getElem? (i := 35) (by decide +kernel))⟩
theorem fg_X5_71 : jw_F RX5 71 1 4 := ⟨RX1, TX1, 11, rfl, rfl, rfl, by decide, fw_X1, List.mem_append_right _ (List.mem_of_getElem? (i := 55) (by decide +kernel))⟩
theorem fg_X5_83 : jw_F RX5 83 8 2 := ⟨RX8, TX8, 7, rfl, rfl, rfl, by decide, fw_X8, List.mem_append_right _ (List.mem_of_getElem? (i := 106) (by decide +kernel))⟩
theorem fg_X6_9 : jw_F RX6 9 6 0 := ⟨RX6, TX6, 2, rfl, rfl, rfl, by decide, fw_X6, List.mem_append_right _ (List.mem_of_getElem? (i := 169) (by decide +kernel))⟩
theorem fg_X6_15 : jw_F RX6 15 6 1 := ⟨RX6, TX6, 2, rfl, rfl, rfl, by decide, fw_X6, List.mem_append_right _ (List.mem_of_getElem? (i := 170) (by decide +kernel))⟩
theorem fg_X6_25 : jw_F RX6 25 8 2 := ⟨RX8, TX8, 7, rfl, rfl, rfl, by decide, fw_X8, List.mem_append_right _ (List.mem_of_getElem? (i := 103) (by decide +kernel))⟩
theorem fg_X6_64 : jw_F RX6 64 1 2 := ⟨RX1, TX1, 11, rfl, rfl, rfl, by decide, fw_X1, List.mem_append_right _ (List.mem_of_getElem? (i := 45) (by decide +kernel))⟩
theorem fg_X7_9 : jw_F RX7 9 7 0 := ⟨RX7, TX7, 6, rfl, rfl, rfl, by decide, fw_X7, List.mem_append_right _ (List.mem_of_getElem? (i := 140) (by decide +kernel))⟩
theorem fg_X7_15 : jw_F RX7 15 7 4 := ⟨RX7, TX7, 6, rfl, rfl, rfl, by decide, fw_X7, List.mem_append_right _ (List.mem_of_getElem? (i := 146) (by decide +kernel))⟩
theorem fg_X7_22 : jw_F RX7 22 7 5 := ⟨RX7, TX7, 6, rfl, rfl, rfl, by decide, fw_X7, List.mem_append_right _ (List.mem_of_getElem? (i := 148) (by decide +kernel))⟩
theorem fg_X7_26 : jw_F RX7 26 7 2 := ⟨RX7, TX7, 6, rfl, rfl, rfl, by decide, fw_X7, List.mem_append_right _ (List.mem_of_getElem? (i := 142) (by decide +kernel))⟩
theorem fg_X7_32 : jw_F RX7 32 7 1 := ⟨RX7, TX7, 6, rfl, rfl, rfl, by decide, fw_X7, List.mem_append_right _ (List.mem_of_getElem? (i := 141) (by decide +kernel))⟩
theorem fg_X7_35 : jw_F RX7 35 7 3 := ⟨RX7, TX7, 6, rfl, rfl, rfl, by decide, fw_X7, List.mem_append_right _ (List.mem_of_getElem? (i := 145) (by decide +kernel))⟩
theorem fg_X7_68 : jw_F RX7 68 1 0 := ⟨RX1, TX1, 11, rfl, rfl, rfl, by decide, fw_X1, List.mem_append_right _ (List.mem_of_getElem? (i := 32) (by decide +kernel))⟩
theorem fg_X7_71 : jw_F RX7 71 1 3 := ⟨RX1, TX1, 11, rfl, rfl, rfl, by decide, fw_X1, List.mem_append_right _ (List.mem_of_getElem? (i := 51) (by decide +kernel))⟩
theorem fg_X7_74 : jw_F RX7 74 1 1 := ⟨RX1, TX1, 11, rfl, rfl, rfl, by decide, fw_X1, List.mem_append_right _ (List.mem_of_getElem? (i := 40) (by decide +kernel))⟩
theorem fg_X7_77 : jw_F RX7 77 1 2 := ⟨RX1, TX1, 11, rfl, rfl, rfl, by decide, fw_X1, List.mem_append_right _ (List.mem_of_getElem? (i := 47) (by decide +kernel))⟩
theorem fg_X8_9 : jw_F RX8 9 8 2 := ⟨RX8, TX8, 7, rfl, rfl, rfl, by decide, fw_X8, List.mem_append_right _ (List.mem_of_getElem? (i := 102) (by decide +kernel))⟩
theorem fg_X8_15 : jw_F RX8 15 8 3 := ⟨RX8, TX8, 7, rfl, rfl, rfl, by decide, fw_X8, List.mem_append_right _ (List.mem_of_getElem? (i := 107) (by decide +kernel))⟩
theorem fg_X8_18 : jw_F RX8 18 8 4 := ⟨RX8, TX8, 7, rfl, rfl, rfl, by decide, fw_X8, List.mem_append_right _ (List.mem_of_getElem? (i := 110) (by decide +kernel))⟩
theorem fg_X8_21 : jw_F RX8 21 8 5 := ⟨RX8, TX8, 7, rfl, rfl, rfl, by decide, fw_X8, List.mem_append_right _ (List.mem_of_getElem? (i := 112) (by decide +kernel))⟩
theorem fg_X8_24 : jw_F RX8 24 8 6 := ⟨RX8, TX8, 7, rfl, rfl, rfl, by decide, fw_X8, List.mem_append_right _ (List.mem_of_getElem? (i := 115) (by decide +kernel))⟩
theorem fg_X8_27 : jw_F RX8 27 8 0 := ⟨RX8, TX8, 7, rfl, rfl, rfl, by decide, fw_X8, List.mem_append_right _ (List.mem_of_getElem? (i := 99) (by decide +kernel))⟩
theorem fg_X8_31 : jw_F RX8 31 8 1 := ⟨RX8, TX8, 7, rfl, rfl, rfl, by decide, fw_X8, List.mem_append_right _ (List.mem_of_getElem? (i := 100) (by decide +kernel))⟩
theorem fg_X8_35 : jw_F RX8 35 1 7 := ⟨RX1, TX1, 11, rfl, rfl, rfl, by decide, fw_X1, List.mem_append_right _ (List.mem_of_getElem? (i := 62) (by decide +kernel))⟩
theorem fg_X8_40 : jw_F RX8 40 1 9 := ⟨RX1, TX1, 11, rfl, rfl, rfl, by decide, fw_X1, List.mem_append_right _ (List.mem_of_getElem? (i := 66) (by decide +kernel))⟩
theorem fg_X8_43 : jw_F RX8 43 1 10 := ⟨RX1, TX1, 11, rfl, rfl, rfl, by decide, fw_X1, List.mem_append_right _ (List.mem_of_getElem? (i := 68) (by decide +kernel))⟩
theorem fg_X8_66 : jw_F RX8 66 1 2 := ⟨RX1, TX1, 11, rfl, rfl, rfl, by decide, fw_X1, List.mem_append_right _ (List.mem_of_getElem? (i := 46) (by decide +kernel))⟩
theorem fg_X8_69 : jw_F RX8 69 1 1 := ⟨RX1, TX1, 11, rfl, rfl, rfl, by decide, fw_X1, List.mem_append_right _ (List.mem_of_getElem? (i := 39) (by decide +kernel))⟩
theorem fg_X8_72 : jw_F RX8 72 1 3 := ⟨RX1, TX1, 11, rfl, rfl, rfl, by decide, fw_X1, List.mem_append_right _ (List.mem_of_getElem? (i := 52) (by decide +kernel))⟩
theorem fg_X8_103 : jw_F RX8 103 1 0 := ⟨RX1, TX1, 11, rfl, rfl, rfl, by decide, fw_X1, List.mem_append_right _ (List.mem_of_getElem? (i := 33) (by decide +kernel))⟩
theorem fg_X8_109 : jw_F RX8 109 1 5 := ⟨RX1, TX1, 11, rfl, rfl, rfl, by decide, fw_X1, List.mem_append_right _ (List.mem_of_getElem? (i := 58) (by decide +kernel))⟩
theorem fg_X9_11 : jw_F RX9 11 9 2 := ⟨RX9, TX9, 8, rfl, rfl, rfl, by decide, fw_X9, List.mem_append_right _ (List.mem_of_getElem? (i := 206) (by decide +kernel))⟩
theorem fg_X9_15 : jw_F RX9 15 9 3 := ⟨RX9, TX9, 8, rfl, rfl, rfl, by decide, fw_X9, List.mem_append_right _ (List.mem_of_getElem? (i := 207) (by decide +kernel))⟩
theorem fg_X9_18 : jw_F RX9 18 9 4 := ⟨RX9, TX9, 8, rfl, rfl, rfl, by decide, fw_X9, List.mem_append_right _ (List.mem_of_getElem? (i := 208) (by decide +kernel))⟩
theorem fg_X9_22 : jw_F RX9 22 9 5 := ⟨RX9, TX9, 8, rfl, rfl, rfl, by decide, fw_X9, List.mem_append_right _ (List.mem_of_getElem? (i := 209) (by decide +kernel))⟩
theorem fg_X9_25 : jw_F RX9 25 9 0 := ⟨RX9, TX9, 8, rfl, rfl, rfl, by decide, fw_X9, List.mem_append_right _ (List.mem_of_getElem? (i := 204) (by decide +kernel))⟩
theorem fg_X9_29 : jw_F RX9 29 9 1 := ⟨RX9, TX9, 8, rfl, rfl, rfl, by decide, fw_X9, List.mem_append_right _ (List.mem_of_getElem? (i := 205) (by decide +kernel))⟩
theorem fg_X9_33 : jw_F RX9 33 9 6 := ⟨RX9, TX9, 8, rfl, rfl, rfl, by decide, fw_X9, List.mem_append_right _ (List.mem_of_getElem? (i := 210) (by decide +kernel))⟩
theorem fg_X9_52 : jw_F RX9 52 9 7 := ⟨RX9, TX9, 8, rfl, rfl, rfl, by decide, fw_X9, List.mem_append_right _ (List.mem_of_getElem? (i := 212) (by decide +kernel))⟩
theorem fg_X9_55 : jw_F RX9 55 1 1 := ⟨RX1, TX1, 11, rfl, rfl, rfl, by decide, fw_X1, List.mem_append_right _ (List.mem_of_getElem? (i := 38) (by decide +kernel))⟩
theorem fg_X11_7 : jw_F RX11 7 11 2 := ⟨RX11, TX11, 43, rfl, rfl, rfl, by decide, fw_X11, List.mem_append_right _ (List.mem_of_getElem? (i := 872) (by decide +kernel))⟩
theorem fg_X11_13 : jw_F RX11 13 11 4 := ⟨RX11, TX11, 43, rfl, rfl, rfl, by decide, fw_X11, List.mem_append_right _ (List.mem_of_getElem? (i := 874) (by decide +kernel))⟩
theorem fg_X11_16 : jw_F RX11 16 11 5 := ⟨RX11, TX11, 43, rfl, rfl, rfl, by decide, fw_X11, List.mem_append_right _ (List.mem_of_getElem? (i := 875) (by decide +kernel))⟩
theorem fg_X11_19 : jw_F RX11 19 11 6 := ⟨RX11, TX11, 43, rfl, rfl, rfl, by decide, fw_X11, List.mem_append_right _ (List.mem_of_getElem? (i := 876) (by decide +kernel))⟩
theorem fg_X11_22 : jw_F RX11 22 11 8 := ⟨RX11, TX11, 43, rfl, rfl, rfl, by decide, fw_X11, List.mem_append_right _ (List.mem_of_getElem? (i := 878) (by decide +kernel))⟩
theorem fg_X11_25 : jw_F RX11 25 11 9 := ⟨RX11, TX11, 43, rfl, rfl, rfl, by decide, fw_X11, List.mem_append_right _ (List.mem_of_getElem? (i := 879) (by decide +kernel))⟩
theorem fg_X11_28 : jw_F RX11 28 11 10 := ⟨RX11, TX11, 43, rfl, rfl, rfl, by decide, fw_X11, List.mem_append_right _ (List.mem_of_getElem? (i := 880) (by decide +kernel))⟩
theorem fg_X11_31 : jw_F RX11 31 11 11 := ⟨RX11, TX11, 43, rfl, rfl, rfl, by decide, fw_X11, List.mem_append_right _ (List.mem_of_getElem? (i := 881) (by decide +kernel))⟩
theorem fg_X11_34 : jw_F RX11 34 11 13 := ⟨RX11, TX11, 43, rfl, rfl, rfl, by decide, fw_X11, List.mem_append_right _ (List.mem_of_getElem? (i := 883) (by decide +kernel))⟩
theorem fg_X11_37 : jw_F RX11 37 11 15 := ⟨RX11, TX11, 43, rfl, rfl, rfl, by decide, fw_X11, List.mem_append_right _ (List.mem_of_getElem? (i := 885) (by decide +kernel))⟩
theorem fg_X11_41 : jw_F RX11 41 11 21 := ⟨RX11, TX11, 43, rfl, rfl, rfl, by decide, fw_X11, List.mem_append_right _ (List.mem_of_getElem? (i := 891) (by decide +kernel))⟩
theorem fg_X11_44 : jw_F RX11 44 11 23 := ⟨RX11, TX11, 43, rfl, rfl, rfl, by decide, fw_X11, List.mem_append_right _ (List.mem_of_getElem? (i := 893) (by decide +kernel))⟩
theorem fg_X11_47 : jw_F RX11 47 11 24 := ⟨RX11, TX11, 43, rfl, rfl, rfl, by decide, fw_X11, List.mem_append_right _ (List.mem_of_getElem? (i := 894) (by decide +kernel))⟩
theorem fg_X11_50 : jw_F RX11 50 11 25 := ⟨RX11, TX11, 43, rfl, rfl, rfl, by decide, fw_X11, List.mem_append_right _ (List.mem_of_getElem? (i := 895) (by decide +kernel))⟩
theorem fg_X11_53 : jw_F RX11 53 11 27 := ⟨RX11, TX11, 43, rfl, rfl, rfl, by decide, fw_X11, List.mem_append_right _ (List.mem_of_getElem? (i := 897) (by decide +kernel))⟩
theorem fg_X11_56 : jw_F RX11 56 11 28 := ⟨RX11, TX11, 43, rfl, rfl, rfl, by decide, fw_X11, List.mem_append_right _ (List.mem_of_getElem? (i := 898) (by decide +kernel))⟩
theorem fg_X11_59 : jw_F RX11 59 11 29 := ⟨RX11, TX11, 43, rfl, rfl, rfl, by decide, fw_X11, List.mem_append_right _ (List.mem_of_getElem? (i := 899) (by decide +kernel))⟩
theorem fg_X11_62 : jw_F RX11 62 11 31 := ⟨RX11, TX11, 43, rfl, rfl, rfl, by decide, fw_X11, List.mem_append_right _ (List.mem_of_getElem? (i := 901) (by decide +kernel))⟩
theorem fg_X11_65 : jw_F RX11 65 11 32 := ⟨RX11, TX11, 43, rfl, rfl, rfl, by decide, fw_X11, List.mem_append_right _ (List.mem_of_getElem? (i := 902) (by decide +kernel))⟩
theorem fg_X11_68 : jw_F RX11 68 11 33 := ⟨RX11, TX11, 43, rfl, rfl, rfl, by decide, fw_X11, List.mem_append_right _ (List.mem_of_getElem? (i := 903) (by decide +kernel))⟩
theorem fg_X11_71 : jw_F RX11 71 11 35 := ⟨RX11, TX11, 43, rfl, rfl, rfl, by decide, fw_X11, List.mem_append_right _ (List.mem_of_getElem? (i := 905) (by decide +kernel))⟩
theorem fg_X11_74 : jw_F RX11 74 11 36 := ⟨RX11, TX11, 43, rfl, rfl, rfl, by decide, fw_X11, List.mem_append_right _ (List.mem_of_getElem? (i := 906) (by decide +kernel))⟩
theorem fg_X11_77 : jw_F RX11 77 11 37 := ⟨RX11, TX11, 43, rfl, rfl, rfl, by decide, fw_X11, List.mem_append_right _ (List.mem_of_getElem? (i := 907) (by decide +kernel))⟩
theorem fg_X11_80 : jw_F RX11 80 11 39 := ⟨RX11, TX11, 43, rfl, rfl, rfl, by decide, fw_X11, List.mem_append_right _ (List.mem_of_getElem? (i := 909) (by decide +kernel))⟩
theorem fg_X11_83 : jw_F RX11 83 11 40 := ⟨RX11, TX11, 43, rfl, rfl, rfl, by decide, fw_X11, List.mem_append_right _ (List.mem_of_getElem? (i := 910) (by decide +kernel))⟩
theorem fg_X11_86 : jw_F RX11 86 11 41 := ⟨RX11, TX11, 43, rfl, rfl, rfl, by decide, fw_X11, List.mem_append_right _ (List.mem_of_getElem? (i := 911) (by decide +kernel))⟩
theorem fg_X11_89 : jw_F RX11 89 11 42 := ⟨RX11, TX11, 43, rfl, rfl, rfl, by decide, fw_X11, List.mem_append_right _ (List.mem_of_getElem? (i := 912) (by decide +kernel))⟩
theorem fg_X11_93 : jw_F RX11 93 11 0 := ⟨RX11, TX11, 43, rfl, rfl, rfl, by decide, fw_X11, List.mem_append_right _ (List.mem_of_getElem? (i := 870) (by decide +kernel))⟩
theorem fg_X11_96 : jw_F RX11 96 11 1 := ⟨RX11, TX11, 43, rfl, rfl, rfl, by decide, fw_X11, List.mem_append_right _ (List.mem_of_getElem? (i := 871) (by decide +kernel))⟩
theorem fg_X11_103 : jw_F RX11 103 11 3 := ⟨RX11, TX11, 43, rfl, rfl, rfl, by decide, fw_X11, List.mem_append_right _ (List.mem_of_getElem? (i := 873) (by decide +kernel))⟩
theorem fg_X11_106 : jw_F RX11 106 11 7 := ⟨RX11, TX11, 43, rfl, rfl, rfl, by decide, fw_X11, List.mem_append_right _ (List.mem_of_getElem? (i := 877) (by decide +kernel))⟩
theorem fg_X11_112 : jw_F RX11 112 11 14 := ⟨RX11, TX11, 43, rfl, rfl, rfl, by decide, fw_X11, List.mem_append_right _ (List.mem_of_getElem? (i := 884) (by decide +kernel))⟩
theorem fg_X11_116 : jw_F RX11 116 11 16 := ⟨RX11, TX11, 43, rfl, rfl, rfl, by decide, fw_X11, List.mem_append_right _ (List.mem_of_getElem? (i := 886) (by decide +kernel))⟩
theorem fg_X11_131 : jw_F RX11 131 11 18 := ⟨RX11, TX11, 43, rfl, rfl, rfl, by decide, fw_X11, List.mem_append_right _ (List.mem_of_getElem? (i := 888) (by decide +kernel))⟩
theorem fg_X11_134 : jw_F RX11 134 11 17 := ⟨RX11, TX11, 43, rfl, rfl, rfl, by decide, fw_X11, List.mem_append_right _ (List.mem_of_getElem? (i := 887) (by decide +kernel))⟩
theorem fg_X11_140 : jw_F RX11 140 11 19 := ⟨RX11, TX11, 43, rfl, rfl, rfl, by decide, fw_X11, List.mem_append_right _ (List.mem_of_getElem? (i := 889) (by decide +kernel))⟩
theorem fg_X11_143 : jw_F RX11 143 11 20 := ⟨RX11, TX11, 43, rfl, rfl, rfl, by decide, fw_X11, List.mem_append_right _ (List.mem_of_getElem? (i := 890) (by decide +kernel))⟩
theorem fg_X11_150 : jw_F RX11 150 11 22 := ⟨RX11, TX11, 43, rfl, rfl, rfl, by decide, fw_X11, List.mem_append_right _ (List.mem_of_getElem? (i := 892) (by decide +kernel))⟩
theorem fg_X11_157 : jw_F RX11 157 11 26 := ⟨RX11, TX11, 43, rfl, rfl, rfl, by decide, fw_X11, List.mem_append_right _ (List.mem_of_getElem? (i := 896) (by decide +kernel))⟩
theorem fg_X11_186 : jw_F RX11 186 11 34 := ⟨RX11, TX11, 43, rfl, rfl, rfl, by decide, fw_X11, List.mem_append_right _ (List.mem_of_getElem? (i := 904) (by decide +kernel))⟩
theorem fg_X11_189 : jw_F RX11 189 11 38 := ⟨RX11, TX11, 43, rfl, rfl, rfl, by decide, fw_X11, List.mem_append_right _ (List.mem_of_getElem? (i := 908) (by decide +kernel))⟩
theorem fg_X11_192 : jw_F RX11 192 11 30 := ⟨RX11, TX11, 43, rfl, rfl, rfl, by decide, fw_X11, List.mem_append_right _ (List.mem_of_getElem? (i := 900) (by decide +kernel))⟩
theorem fg_X11_269 : jw_F RX11 269 11 12 := ⟨RX11, TX11, 43, rfl, rfl, rfl, by decide, fw_X11, List.mem_append_right _ (List.mem_of_getElem? (i := 882) (by decide +kernel))⟩
theorem fp_X10_118 : jw_FP RX10 118 4 2 := ⟨fg_X10_118, RX4, TX4, 3, tyX4, .boolean, rfl, tyX4_ok, nmX4, rfl, by decide +kernel, Or.inr rfl, fun _ => rfl⟩
theorem fp_X10_298 : jw_FP RX10 298 2 2 := ⟨fg_X10_298, RX2, TX2, 3, tyX2, .int, rfl, tyX2_ok, nmX2, rfl, by decide +kernel, Or.inl rfl, fun _ => rfl⟩
theorem fp_X10_303 : jw_FP RX10 303 4 1 := ⟨fg_X10_303, RX4, TX4, 3, tyX4, .int, rfl, tyX4_ok, nmX4, rfl, by decide +kernel, Or.inl rfl, fun _ => rfl⟩
theorem fp_X0_22 : jw_FP RX0 22 0 3 := ⟨fg_X0_22, RX0, TX0, 4, tyX0, .int, rfl, tyX0_ok, nmX0, rfl, by decide +kernel, Or.inl rfl, fun _ => rfl⟩
theorem fp_X1_33 : jw_FP RX1 33 1 0 := ⟨fg_X1_33, RX1, TX1, 11, tyX1, .int, rfl, tyX1_ok, nmX1, rfl, by decide +kernel, Or.inl rfl, fun _ => rfl⟩
theorem fp_X1_37 : jw_FP RX1 37 1 1 := ⟨fg_X1_37, RX1, TX1, 11, tyX1, .int, rfl, tyX1_ok, nmX1, rfl, by decide +kernel, Or.inl rfl, fun _ => rfl⟩
theorem fp_X1_40 : jw_FP RX1 40 1 2 := ⟨fg_X1_40, RX1, TX1, 11, tyX1, .int, rfl, tyX1_ok, nmX1, rfl, by decide +kernel, Or.inl rfl, fun _ => rfl⟩
theorem fp_X1_43 : jw_FP RX1 43 1 3 := ⟨fg_X1_43, RX1, TX1, 11, tyX1, .int, rfl, tyX1_ok, nmX1, rfl, by decide +kernel, Or.inl rfl, fun _ => rfl⟩
theorem fp_X2_17 : jw_FP RX2 17 2 2 := ⟨fg_X2_17, RX2, TX2, 3, tyX2, .int, rfl, tyX2_ok, nmX2, rfl, by decide +kernel, Or.inl rfl, fun _ => rfl⟩
theorem fp_X3_18 : jw_FP RX3 18 3 2 := ⟨fg_X3_18, RX3, TX3, 3, tyX3, .int, rfl, tyX3_ok, nmX3, rfl, by decide +kernel, Or.inl rfl, fun _ => rfl⟩
theorem fp_X3_22 : jw_FP RX3 22 3 1 := ⟨fg_X3_22, RX3, TX3, 3, tyX3, .int, rfl, tyX3_ok, nmX3, rfl, by decide +kernel, Or.inl rfl, fun _ => rfl⟩
theorem fp_X7_15 : jw_FP RX7 15 7 4 := ⟨fg_X7_15, RX7, TX7, 6, tyX7, .int, rfl, tyX7_ok, nmX7, rfl, by decide +kernel, Or.inl rfl, fun _ => rfl⟩
theorem fp_X7_26 : jw_FP RX7 26 7 2 := ⟨fg_X7_26, RX7, TX7, 6, tyX7, .int, rfl, tyX7_ok, nmX7, rfl, by decide +kernel, Or.inl rfl, fun _ => rfl⟩
theorem fp_X7_32 : jw_FP RX7 32 7 1 := ⟨fg_X7_32, RX7, TX7, 6, tyX7, .int, rfl, tyX7_ok, nmX7, rfl, by decide +kernel, Or.inl rfl, fun _ => rfl⟩
theorem fp_X7_35 : jw_FP RX7 35 7 3 := ⟨fg_X7_35, RX7, TX7, 6, tyX7, .int, rfl, tyX7_ok, nmX7, rfl, by decide +kernel, Or.inl rfl, fun _ => rfl⟩
theorem fp_X7_68 : jw_FP RX7 68 1 0 := ⟨fg_X7_68, RX1, TX1, 11, tyX1, .int, rfl, tyX1_ok, nmX1, rfl, by decide +kernel, Or.inl rfl, fun _ => rfl⟩
theorem fp_X8_31 : jw_FP RX8 31 8 1 := ⟨fg_X8_31, RX8, TX8, 7, tyX8, .int, rfl, tyX8_ok, nmX8, rfl, by decide +kernel, Or.inl rfl, fun _ => rfl⟩
theorem fp_X9_33 : jw_FP RX9 33 9 6 := ⟨fg_X9_33, RX9, TX9, 8, tyX9, .int, rfl, tyX9_ok, nmX9, rfl, by decide +kernel, Or.inl rfl, fun _ => rfl⟩
theorem fp_X9_52 : jw_FP RX9 52 9 7 := ⟨fg_X9_52, RX9, TX9, 8, tyX9, .int, rfl, tyX9_ok, nmX9, rfl, by decide +kernel, Or.inl rfl, fun _ => rfl⟩
theorem fp_X11_37 : jw_FP RX11 37 11 15 := ⟨fg_X11_37, RX11, TX11, 43, tyX11, .int, rfl, tyX11_ok, nmX11, rfl, by decide +kernel, Or.inl rfl, fun _ => rfl⟩
theorem fp_X11_93 : jw_FP RX11 93 11 0 := ⟨fg_X11_93, RX11, TX11, 43, tyX11, .int, rfl, tyX11_ok, nmX11, rfl, by decide +kernel, Or.inl rfl, fun _ => rfl⟩
theorem fp_X11_96 : jw_FP RX11 96 11 1 := ⟨fg_X11_96, RX11, TX11, 43, tyX11, .int, rfl, tyX11_ok, nmX11, rfl, by decide +kernel, Or.inl rfl, fun _ => rfl⟩
theorem fp_X11_103 : jw_FP RX11 103 11 3 := ⟨fg_X11_103, RX11, TX11, 43, tyX11, .int, rfl, tyX11_ok, nmX11, rfl, by decide +kernel, Or.inl rfl, fun _ => rfl⟩
theorem fp_X11_106 : jw_FP RX11 106 11 7 := ⟨fg_X11_106, RX11, TX11, 43, tyX11, .int, rfl, tyX11_ok, nmX11, rfl, by decide +kernel, Or.inl rfl, fun _ => rfl⟩
theorem fp_X11_112 : jw_FP RX11 112 11 14 := ⟨fg_X11_112, RX11, TX11, 43, tyX11, .int, rfl, tyX11_ok, nmX11, rfl, by decide +kernel, Or.inl rfl, fun _ => rfl⟩
theorem fp_X11_116 : jw_FP RX11 116 11 16 := ⟨fg_X11_116, RX11, TX11, 43, tyX11, .int, rfl, tyX11_ok, nmX11, rfl, by decide +kernel, Or.inl rfl, fun _ => rfl⟩
theorem fp_X11_131 : jw_FP RX11 131 11 18 := ⟨fg_X11_131, RX11, TX11, 43, tyX11, .int, rfl, tyX11_ok, nmX11, rfl, by decide +kernel, Or.inl rfl, fun _ => rfl⟩
theorem fp_X11_134 : jw_FP RX11 134 11 17 := ⟨fg_X11_134, RX11, TX11, 43, tyX11, .int, rfl, tyX11_ok, nmX11, rfl, by decide +kernel, Or.inl rfl, fun _ => rfl⟩
theorem fp_X11_140 : jw_FP RX11 140 11 19 := ⟨fg_X11_140, RX11, TX11, 43, tyX11, .int, rfl, tyX11_ok, nmX11, rfl, by decide +kernel, Or.inl rfl, fun _ => rfl⟩
theorem fp_X11_143 : jw_FP RX11 143 11 20 := ⟨fg_X11_143, RX11, TX11, 43, tyX11, .int, rfl, tyX11_ok, nmX11, rfl, by decide +kernel, Or.inl rfl, fun _ => rfl⟩
theorem fp_X11_150 : jw_FP RX11 150 11 22 := ⟨fg_X11_150, RX11, TX11, 43, tyX11, .int, rfl, tyX11_ok, nmX11, rfl, by decide +kernel, Or.inl rfl, fun _ => rfl⟩
theorem fp_X11_157 : jw_FP RX11 157 11 26 := ⟨fg_X11_157, RX11, TX11, 43, tyX11, .int, rfl, tyX11_ok, nmX11, rfl, by decide +kernel, Or.inl rfl, fun _ => rfl⟩
theorem fp_X11_186 : jw_FP RX11 186 11 34 := ⟨fg_X11_186, RX11, TX11, 43, tyX11, .int, rfl, tyX11_ok, nmX11, rfl, by decide +kernel, Or.inl rfl, fun _ => rfl⟩
theorem fp_X11_189 : jw_FP RX11 189 11 38 := ⟨fg_X11_189, RX11, TX11, 43, tyX11, .int, rfl, tyX11_ok, nmX11, rfl, by decide +kernel, Or.inl rfl, fun _ => rfl⟩
theorem fp_X11_192 : jw_FP RX11 192 11 30 := ⟨fg_X11_192, RX11, TX11, 43, tyX11, .int, rfl, tyX11_ok, nmX11, rfl, by decide +kernel, Or.inl rfl, fun _ => rfl⟩
theorem fp_X11_269 : jw_FP RX11 269 11 12 := ⟨fg_X11_269, RX11, TX11, 43, tyX11, .int, rfl, tyX11_ok, nmX11, rfl, by decide +kernel, Or.inl rfl, fun _ => rfl⟩
theorem fk_X10_88 : Cond.constant RX10 88 (-1000000002) ∈ lw_tbl := List.mem_append_right _ (List.mem_of_getElem? (i := 347) (by decide +kernel))
theorem fk_X10_97 : Cond.constant RX10 97 (-1000000004) ∈ lw_tbl := List.mem_append_right _ (List.mem_of_getElem? (i := 352) (by decide +kernel))
theorem fk_X10_164 : Cond.constant RX10 164 (-1000000001) ∈ lw_tbl := List.mem_append_right _ (List.mem_of_getElem? (i := 539) (by decide +kernel))
theorem fk_X10_228 : Cond.constant RX10 228 (-1000000003) ∈ lw_tbl := List.mem_append_right _ (List.mem_of_getElem? (i := 569) (by decide +kernel))
theorem fk_X10_275 : Cond.constantLong RX10 275 1000000000 ∈ lw_tbl := List.mem_append_right _ (List.mem_of_getElem? (i := 790) (by decide +kernel))
theorem fk_X10_277 : Cond.constantLong RX10 277 100 ∈ lw_tbl := List.mem_append_right _ (List.mem_of_getElem? (i := 791) (by decide +kernel))
theorem fk_X2_21 : Cond.constantLong RX2 21 1103515245 ∈ lw_tbl := List.mem_append_right _ (List.mem_of_getElem? (i := 650) (by decide +kernel))
theorem fk_X2_23 : Cond.constantLong RX2 23 12345 ∈ lw_tbl := List.mem_append_right _ (List.mem_of_getElem? (i := 651) (by decide +kernel))
theorem fk_X2_25 : Cond.constantLong RX2 25 2147483647 ∈ lw_tbl := List.mem_append_right _ (List.mem_of_getElem? (i := 652) (by decide +kernel))
theorem fk_X2_27 : Cond.constant RX2 27 65536 ∈ lw_tbl := List.mem_append_right _ (List.mem_of_getElem? (i := 653) (by decide +kernel))
theorem fk_X11_109 : Cond.constantLong RX11 109 255 ∈ lw_tbl := List.mem_append_right _ (List.mem_of_getElem? (i := 1004) (by decide +kernel))
theorem fk_X11_111 : Cond.constant RX11 111 (-1000000002) ∈ lw_tbl := List.mem_append_right _ (List.mem_of_getElem? (i := 1008) (by decide +kernel))
theorem fk_X11_115 : Cond.constant RX11 115 (-1000000004) ∈ lw_tbl := List.mem_append_right _ (List.mem_of_getElem? (i := 1009) (by decide +kernel))
theorem fk_X11_123 : Cond.constantLong RX11 123 48 ∈ lw_tbl := List.mem_append_right _ (List.mem_of_getElem? (i := 1038) (by decide +kernel))
theorem fk_X11_125 : Cond.constantLong RX11 125 57 ∈ lw_tbl := List.mem_append_right _ (List.mem_of_getElem? (i := 1039) (by decide +kernel))
theorem fk_X11_241 : Cond.constant RX11 241 (-1000000001) ∈ lw_tbl := List.mem_append_right _ (List.mem_of_getElem? (i := 1138) (by decide +kernel))
theorem fk_X11_254 : Cond.constantLong RX11 254 60 ∈ lw_tbl := List.mem_append_right _ (List.mem_of_getElem? (i := 1163) (by decide +kernel))
theorem fk_X11_256 : Cond.constant RX11 256 (-1000000003) ∈ lw_tbl := List.mem_append_right _ (List.mem_of_getElem? (i := 1164) (by decide +kernel))
theorem fk_X11_272 : Cond.constantLong RX11 272 1103515245 ∈ lw_tbl := List.mem_append_right _ (List.mem_of_getElem? (i := 1217) (by decide +kernel))
theorem fk_X11_274 : Cond.constantLong RX11 274 12345 ∈ lw_tbl := List.mem_append_right _ (List.mem_of_getElem? (i := 1218) (by decide +kernel))
theorem fk_X11_276 : Cond.constantLong RX11 276 2147483648 ∈ lw_tbl := List.mem_append_right _ (List.mem_of_getElem? (i := 1219) (by decide +kernel))
theorem fk_X11_278 : Cond.constant RX11 278 65536 ∈ lw_tbl := List.mem_append_right _ (List.mem_of_getElem? (i := 1220) (by decide +kernel))
theorem fk_X11_291 : Cond.constant RX11 291 (-1000000) ∈ lw_tbl := List.mem_append_right _ (List.mem_of_getElem? (i := 1264) (by decide +kernel))
theorem fk_X11_296 : Cond.constantLong RX11 296 (-2) ∈ lw_tbl := List.mem_append_right _ (List.mem_of_getElem? (i := 1255) (by decide +kernel))
theorem fk_X11_304 : Cond.constantLong RX11 304 100 ∈ lw_tbl := List.mem_append_right _ (List.mem_of_getElem? (i := 1277) (by decide +kernel))
theorem fk_X11_306 : Cond.constantLong RX11 306 1000000000 ∈ lw_tbl := List.mem_append_right _ (List.mem_of_getElem? (i := 1278) (by decide +kernel))
theorem fk_X11_308 : Cond.constantLong RX11 308 99 ∈ lw_tbl := List.mem_append_right _ (List.mem_of_getElem? (i := 1283) (by decide +kernel))
theorem fk_J6_265 : Cond.constant RJ6 265 1431655765 ∈ lw_tbl := List.mem_append_right _ (List.mem_of_getElem? (i := 703) (by decide +kernel))
theorem fk_J6_266 : Cond.constant RJ6 266 858993459 ∈ lw_tbl := List.mem_append_right _ (List.mem_of_getElem? (i := 704) (by decide +kernel))
theorem fk_J6_267 : Cond.constant RJ6 267 252645135 ∈ lw_tbl := List.mem_append_right _ (List.mem_of_getElem? (i := 705) (by decide +kernel))
theorem fo_58 : Cond.fieldLink RX6 58 "StatueVotes$Polls" "ORDERS" "[I" ∈ lw_tbl := List.mem_append_right _ (List.mem_of_getElem? (i := 720) (by decide +kernel))
theorem fb_mX7_append : jw_CB mX7_append 1 := ⟨List.mem_filter.mpr ⟨List.mem_append_right _ (List.mem_of_getElem? (i := 351) (by decide +kernel)), rfl⟩, List.mem_append_right _ (List.mem_of_getElem? (i := 4) (by decide +kernel)), by decide +kernel, by decide⟩
theorem fc_X10_89 : jw_CV RX10 89 mX7_append 7 1 := ⟨fb_mX7_append, List.mem_append_right _ (List.mem_of_getElem? (i := 348) (by decide +kernel)), List.mem_append_right _ (List.mem_of_getElem? (i := 349) (by decide +kernel)), List.mem_append_right _ (List.mem_of_getElem? (i := 350) (by decide +kernel)), rfl, TX7, 6, rfl⟩
theorem fb_mX7_readAll : jw_CB mX7_readAll 0 := ⟨List.mem_filter.mpr ⟨List.mem_append_right _ (List.mem_of_getElem? (i := 360) (by decide +kernel)), rfl⟩, List.mem_append_right _ (List.mem_of_getElem? (i := 4) (by decide +kernel)), by decide +kernel, by decide⟩
theorem fc_X10_98 : jw_CV RX10 98 mX7_readAll 7 0 := ⟨fb_mX7_readAll, List.mem_append_right _ (List.mem_of_getElem? (i := 357) (by decide +kernel)), List.mem_append_right _ (List.mem_of_getElem? (i := 358) (by decide +kernel)), List.mem_append_right _ (List.mem_of_getElem? (i := 359) (by decide +kernel)), rfl, TX7, 6, rfl⟩
theorem fb_mX1_copyFrom : jw_CB mX1_copyFrom 1 := ⟨List.mem_filter.mpr ⟨List.mem_append_right _ (List.mem_of_getElem? (i := 439) (by decide +kernel)), rfl⟩, List.mem_append_right _ (List.mem_of_getElem? (i := 2) (by decide +kernel)), by decide +kernel, by decide⟩
theorem fc_X10_107 : jw_CV RX10 107 mX1_copyFrom 1 1 := ⟨fb_mX1_copyFrom, List.mem_append_right _ (List.mem_of_getElem? (i := 436) (by decide +kernel)), List.mem_append_right _ (List.mem_of_getElem? (i := 437) (by decide +kernel)), List.mem_append_right _ (List.mem_of_getElem? (i := 438) (by decide +kernel)), rfl, TX1, 11, rfl⟩
theorem fb_mX8_begin : jw_CB mX8_begin 0 := ⟨List.mem_filter.mpr ⟨List.mem_append_right _ (List.mem_of_getElem? (i := 446) (by decide +kernel)), rfl⟩, List.mem_append_right _ (List.mem_of_getElem? (i := 3) (by decide +kernel)), by decide +kernel, by decide⟩
theorem fc_X10_110 : jw_CV RX10 110 mX8_begin 8 0 := ⟨fb_mX8_begin, List.mem_append_right _ (List.mem_of_getElem? (i := 443) (by decide +kernel)), List.mem_append_right _ (List.mem_of_getElem? (i := 444) (by decide +kernel)), List.mem_append_right _ (List.mem_of_getElem? (i := 445) (by decide +kernel)), rfl, TX8, 7, rfl⟩
theorem fb_mX9_clear : jw_CB mX9_clear 0 := ⟨List.mem_filter.mpr ⟨List.mem_append_right _ (List.mem_of_getElem? (i := 450) (by decide +kernel)), rfl⟩, List.mem_append_right _ (List.mem_of_getElem? (i := 7) (by decide +kernel)), by decide +kernel, by decide⟩
theorem fc_X10_113 : jw_CV RX10 113 mX9_clear 9 0 := ⟨fb_mX9_clear, List.mem_append_right _ (List.mem_of_getElem? (i := 447) (by decide +kernel)), List.mem_append_right _ (List.mem_of_getElem? (i := 448) (by decide +kernel)), List.mem_append_right _ (List.mem_of_getElem? (i := 449) (by decide +kernel)), rfl, TX9, 8, rfl⟩
theorem fb_mX0_clear : jw_CB mX0_clear 0 := ⟨List.mem_filter.mpr ⟨List.mem_append_right _ (List.mem_of_getElem? (i := 454) (by decide +kernel)), rfl⟩, List.mem_append_right _ (List.mem_of_getElem? (i := 8) (by decide +kernel)), by decide +kernel, by decide⟩
theorem fc_X10_116 : jw_CV RX10 116 mX0_clear 0 0 := ⟨fb_mX0_clear, List.mem_append_right _ (List.mem_of_getElem? (i := 451) (by decide +kernel)), List.mem_append_right _ (List.mem_of_getElem? (i := 452) (by decide +kernel)), List.mem_append_right _ (List.mem_of_getElem? (i := 453) (by decide +kernel)), rfl, TX0, 4, rfl⟩
theorem fb_mX3_clear : jw_CB mX3_clear 0 := ⟨List.mem_filter.mpr ⟨List.mem_append_right _ (List.mem_of_getElem? (i := 458) (by decide +kernel)), rfl⟩, List.mem_append_right _ (List.mem_of_getElem? (i := 10) (by decide +kernel)), by decide +kernel, by decide⟩
theorem fc_X10_117 : jw_CV RX10 117 mX3_clear 3 0 := ⟨fb_mX3_clear, List.mem_append_right _ (List.mem_of_getElem? (i := 455) (by decide +kernel)), List.mem_append_right _ (List.mem_of_getElem? (i := 456) (by decide +kernel)), List.mem_append_right _ (List.mem_of_getElem? (i := 457) (by decide +kernel)), rfl, TX3, 3, rfl⟩
theorem fb_mX8_standers : jw_CB mX8_standers 0 := ⟨List.mem_filter.mpr ⟨List.mem_append_right _ (List.mem_of_getElem? (i := 470) (by decide +kernel)), rfl⟩, List.mem_append_right _ (List.mem_of_getElem? (i := 3) (by decide +kernel)), by decide +kernel, by decide⟩
theorem fc_X10_140 : jw_CV RX10 140 mX8_standers 8 0 := ⟨fb_mX8_standers, List.mem_append_right _ (List.mem_of_getElem? (i := 467) (by decide +kernel)), List.mem_append_right _ (List.mem_of_getElem? (i := 468) (by decide +kernel)), List.mem_append_right _ (List.mem_of_getElem? (i := 469) (by decide +kernel)), rfl, TX8, 7, rfl⟩
theorem fb_mX8_emptyPlinths : jw_CB mX8_emptyPlinths 0 := ⟨List.mem_filter.mpr ⟨List.mem_append_right _ (List.mem_of_getElem? (i := 483) (by decide +kernel)), rfl⟩, List.mem_append_right _ (List.mem_of_getElem? (i := 3) (by decide +kernel)), by decide +kernel, by decide⟩
theorem fc_X10_144 : jw_CV RX10 144 mX8_emptyPlinths 8 0 := ⟨fb_mX8_emptyPlinths, List.mem_append_right _ (List.mem_of_getElem? (i := 480) (by decide +kernel)), List.mem_append_right _ (List.mem_of_getElem? (i := 481) (by decide +kernel)), List.mem_append_right _ (List.mem_of_getElem? (i := 482) (by decide +kernel)), rfl, TX8, 7, rfl⟩
theorem fb_mX8_outvoted : jw_CB mX8_outvoted 0 := ⟨List.mem_filter.mpr ⟨List.mem_append_right _ (List.mem_of_getElem? (i := 491) (by decide +kernel)), rfl⟩, List.mem_append_right _ (List.mem_of_getElem? (i := 3) (by decide +kernel)), by decide +kernel, by decide⟩
theorem fc_X10_147 : jw_CV RX10 147 mX8_outvoted 8 0 := ⟨fb_mX8_outvoted, List.mem_append_right _ (List.mem_of_getElem? (i := 488) (by decide +kernel)), List.mem_append_right _ (List.mem_of_getElem? (i := 489) (by decide +kernel)), List.mem_append_right _ (List.mem_of_getElem? (i := 490) (by decide +kernel)), rfl, TX8, 7, rfl⟩
theorem fb_mX6_beloved : jw_CB mX6_beloved 0 := ⟨List.mem_filter.mpr ⟨List.mem_append_right _ (List.mem_of_getElem? (i := 515) (by decide +kernel)), rfl⟩, List.mem_append_right _ (List.mem_of_getElem? (i := 5) (by decide +kernel)), by decide +kernel, by decide⟩
theorem fc_X10_150 : jw_CV RX10 150 mX6_beloved 6 0 := ⟨fb_mX6_beloved, List.mem_append_right _ (List.mem_of_getElem? (i := 512) (by decide +kernel)), List.mem_append_right _ (List.mem_of_getElem? (i := 513) (by decide +kernel)), List.mem_append_right _ (List.mem_of_getElem? (i := 514) (by decide +kernel)), rfl, TX6, 2, rfl⟩
theorem fb_mX6_rings : jw_CB mX6_rings 0 := ⟨List.mem_filter.mpr ⟨List.mem_append_right _ (List.mem_of_getElem? (i := 529) (by decide +kernel)), rfl⟩, List.mem_append_right _ (List.mem_of_getElem? (i := 5) (by decide +kernel)), by decide +kernel, by decide⟩
theorem fc_X10_153 : jw_CV RX10 153 mX6_rings 6 0 := ⟨fb_mX6_rings, List.mem_append_right _ (List.mem_of_getElem? (i := 526) (by decide +kernel)), List.mem_append_right _ (List.mem_of_getElem? (i := 527) (by decide +kernel)), List.mem_append_right _ (List.mem_of_getElem? (i := 528) (by decide +kernel)), rfl, TX6, 2, rfl⟩
theorem fb_mX1_hasPlinth : jw_CB mX1_hasPlinth 1 := ⟨List.mem_filter.mpr ⟨List.mem_append_right _ (List.mem_of_getElem? (i := 419) (by decide +kernel)), rfl⟩, List.mem_append_right _ (List.mem_of_getElem? (i := 2) (by decide +kernel)), by decide +kernel, by decide⟩
theorem fc_X10_161 : jw_CV RX10 161 mX1_hasPlinth 1 1 := ⟨fb_mX1_hasPlinth, List.mem_append_right _ (List.mem_of_getElem? (i := 538) (by decide +kernel)), List.mem_append_right _ (List.mem_of_getElem? (i := 417) (by decide +kernel)), List.mem_append_right _ (List.mem_of_getElem? (i := 418) (by decide +kernel)), rfl, TX1, 11, rfl⟩
theorem fb_mX8_whoIsOn : jw_CB mX8_whoIsOn 1 := ⟨List.mem_filter.mpr ⟨List.mem_append_right _ (List.mem_of_getElem? (i := 487) (by decide +kernel)), rfl⟩, List.mem_append_right _ (List.mem_of_getElem? (i := 3) (by decide +kernel)), by decide +kernel, by decide⟩
theorem fc_X10_169 : jw_CV RX10 169 mX8_whoIsOn 8 1 := ⟨fb_mX8_whoIsOn, List.mem_append_right _ (List.mem_of_getElem? (i := 540) (by decide +kernel)), List.mem_append_right _ (List.mem_of_getElem? (i := 485) (by decide +kernel)), List.mem_append_right _ (List.mem_of_getElem? (i := 486) (by decide +kernel)), rfl, TX8, 7, rfl⟩
theorem fb_mX8_walkersUnder : jw_CB mX8_walkersUnder 1 := ⟨List.mem_filter.mpr ⟨List.mem_append_right _ (List.mem_of_getElem? (i := 495) (by decide +kernel)), rfl⟩, List.mem_append_right _ (List.mem_of_getElem? (i := 3) (by decide +kernel)), by decide +kernel, by decide⟩
theorem fc_X10_173 : jw_CV RX10 173 mX8_walkersUnder 8 1 := ⟨fb_mX8_walkersUnder, List.mem_append_right _ (List.mem_of_getElem? (i := 541) (by decide +kernel)), List.mem_append_right _ (List.mem_of_getElem? (i := 493) (by decide +kernel)), List.mem_append_right _ (List.mem_of_getElem? (i := 494) (by decide +kernel)), rfl, TX8, 7, rfl⟩
theorem fb_mX1_votesOf : jw_CB mX1_votesOf 1 := ⟨List.mem_filter.mpr ⟨List.mem_append_right _ (List.mem_of_getElem? (i := 510) (by decide +kernel)), rfl⟩, List.mem_append_right _ (List.mem_of_getElem? (i := 2) (by decide +kernel)), by decide +kernel, by decide⟩
theorem fc_X10_176 : jw_CV RX10 176 mX1_votesOf 1 1 := ⟨fb_mX1_votesOf, List.mem_append_right _ (List.mem_of_getElem? (i := 542) (by decide +kernel)), List.mem_append_right _ (List.mem_of_getElem? (i := 508) (by decide +kernel)), List.mem_append_right _ (List.mem_of_getElem? (i := 509) (by decide +kernel)), rfl, TX1, 11, rfl⟩
theorem fb_mX1_hasStatue : jw_CB mX1_hasStatue 1 := ⟨List.mem_filter.mpr ⟨List.mem_append_right _ (List.mem_of_getElem? (i := 478) (by decide +kernel)), rfl⟩, List.mem_append_right _ (List.mem_of_getElem? (i := 2) (by decide +kernel)), by decide +kernel, by decide⟩
theorem fc_X10_179 : jw_CV RX10 179 mX1_hasStatue 1 1 := ⟨fb_mX1_hasStatue, List.mem_append_right _ (List.mem_of_getElem? (i := 547) (by decide +kernel)), List.mem_append_right _ (List.mem_of_getElem? (i := 476) (by decide +kernel)), List.mem_append_right _ (List.mem_of_getElem? (i := 477) (by decide +kernel)), rfl, TX1, 11, rfl⟩
theorem fb_mX8_margin : jw_CB mX8_margin 1 := ⟨List.mem_filter.mpr ⟨List.mem_append_right _ (List.mem_of_getElem? (i := 551) (by decide +kernel)), rfl⟩, List.mem_append_right _ (List.mem_of_getElem? (i := 3) (by decide +kernel)), by decide +kernel, by decide⟩
theorem fc_X10_197 : jw_CV RX10 197 mX8_margin 8 1 := ⟨fb_mX8_margin, List.mem_append_right _ (List.mem_of_getElem? (i := 548) (by decide +kernel)), List.mem_append_right _ (List.mem_of_getElem? (i := 549) (by decide +kernel)), List.mem_append_right _ (List.mem_of_getElem? (i := 550) (by decide +kernel)), rfl, TX8, 7, rfl⟩
theorem fb_mX8_walkersLiking : jw_CB mX8_walkersLiking 1 := ⟨List.mem_filter.mpr ⟨List.mem_append_right _ (List.mem_of_getElem? (i := 506) (by decide +kernel)), rfl⟩, List.mem_append_right _ (List.mem_of_getElem? (i := 3) (by decide +kernel)), by decide +kernel, by decide⟩
theorem fc_X10_200 : jw_CV RX10 200 mX8_walkersLiking 8 1 := ⟨fb_mX8_walkersLiking, List.mem_append_right _ (List.mem_of_getElem? (i := 552) (by decide +kernel)), List.mem_append_right _ (List.mem_of_getElem? (i := 504) (by decide +kernel)), List.mem_append_right _ (List.mem_of_getElem? (i := 505) (by decide +kernel)), rfl, TX8, 7, rfl⟩
theorem fb_mX1_hasWalker : jw_CB mX1_hasWalker 1 := ⟨List.mem_filter.mpr ⟨List.mem_append_right _ (List.mem_of_getElem? (i := 560) (by decide +kernel)), rfl⟩, List.mem_append_right _ (List.mem_of_getElem? (i := 2) (by decide +kernel)), by decide +kernel, by decide⟩
theorem fc_X10_203 : jw_CV RX10 203 mX1_hasWalker 1 1 := ⟨fb_mX1_hasWalker, List.mem_append_right _ (List.mem_of_getElem? (i := 557) (by decide +kernel)), List.mem_append_right _ (List.mem_of_getElem? (i := 558) (by decide +kernel)), List.mem_append_right _ (List.mem_of_getElem? (i := 559) (by decide +kernel)), rfl, TX1, 11, rfl⟩
theorem fb_mX10_refusalOfYears : jw_CB mX10_refusalOfYears 1 := ⟨List.mem_filter.mpr ⟨List.mem_append_right _ (List.mem_of_getElem? (i := 568) (by decide +kernel)), rfl⟩, List.mem_append_right _ (List.mem_of_getElem? (i := 1) (by decide +kernel)), by decide +kernel, by decide⟩
theorem fc_X10_215 : jw_CV RX10 215 mX10_refusalOfYears 10 1 := ⟨fb_mX10_refusalOfYears, List.mem_append_right _ (List.mem_of_getElem? (i := 565) (by decide +kernel)), List.mem_append_right _ (List.mem_of_getElem? (i := 567) (by decide +kernel)), List.mem_append_left _ (List.mem_of_getElem? (i := 14) (by decide +kernel)), rfl, TX10, 11, rfl⟩
theorem fb_mX3_push : jw_CB mX3_push 1 := ⟨List.mem_filter.mpr ⟨List.mem_append_right _ (List.mem_of_getElem? (i := 573) (by decide +kernel)), rfl⟩, List.mem_append_right _ (List.mem_of_getElem? (i := 10) (by decide +kernel)), by decide +kernel, by decide⟩
theorem fc_X10_218 : jw_CV RX10 218 mX3_push 3 1 := ⟨fb_mX3_push, List.mem_append_right _ (List.mem_of_getElem? (i := 570) (by decide +kernel)), List.mem_append_right _ (List.mem_of_getElem? (i := 571) (by decide +kernel)), List.mem_append_right _ (List.mem_of_getElem? (i := 572) (by decide +kernel)), rfl, TX3, 3, rfl⟩
theorem fb_mX8_passYear : jw_CB mX8_passYear 0 := ⟨List.mem_filter.mpr ⟨List.mem_append_right _ (List.mem_of_getElem? (i := 585) (by decide +kernel)), rfl⟩, List.mem_append_right _ (List.mem_of_getElem? (i := 3) (by decide +kernel)), by decide +kernel, by decide⟩
theorem fc_X10_221 : jw_CV RX10 221 mX8_passYear 8 0 := ⟨fb_mX8_passYear, List.mem_append_right _ (List.mem_of_getElem? (i := 582) (by decide +kernel)), List.mem_append_right _ (List.mem_of_getElem? (i := 583) (by decide +kernel)), List.mem_append_right _ (List.mem_of_getElem? (i := 584) (by decide +kernel)), rfl, TX8, 7, rfl⟩
theorem fb_mX8_canStand : jw_CB mX8_canStand 2 := ⟨List.mem_filter.mpr ⟨List.mem_append_right _ (List.mem_of_getElem? (i := 612) (by decide +kernel)), rfl⟩, List.mem_append_right _ (List.mem_of_getElem? (i := 3) (by decide +kernel)), by decide +kernel, by decide⟩
theorem fc_X10_224 : jw_CV RX10 224 mX8_canStand 8 2 := ⟨fb_mX8_canStand, List.mem_append_right _ (List.mem_of_getElem? (i := 609) (by decide +kernel)), List.mem_append_right _ (List.mem_of_getElem? (i := 610) (by decide +kernel)), List.mem_append_right _ (List.mem_of_getElem? (i := 611) (by decide +kernel)), rfl, TX8, 7, rfl⟩
theorem fb_mX8_stands : jw_CB mX8_stands 1 := ⟨List.mem_filter.mpr ⟨List.mem_append_right _ (List.mem_of_getElem? (i := 474) (by decide +kernel)), rfl⟩, List.mem_append_right _ (List.mem_of_getElem? (i := 3) (by decide +kernel)), by decide +kernel, by decide⟩
theorem fc_X10_229 : jw_CV RX10 229 mX8_stands 8 1 := ⟨fb_mX8_stands, List.mem_append_right _ (List.mem_of_getElem? (i := 617) (by decide +kernel)), List.mem_append_right _ (List.mem_of_getElem? (i := 472) (by decide +kernel)), List.mem_append_right _ (List.mem_of_getElem? (i := 473) (by decide +kernel)), rfl, TX8, 7, rfl⟩
theorem fb_mX1_isSetOfPlinths : jw_CB mX1_isSetOfPlinths 1 := ⟨List.mem_filter.mpr ⟨List.mem_append_right _ (List.mem_of_getElem? (i := 629) (by decide +kernel)), rfl⟩, List.mem_append_right _ (List.mem_of_getElem? (i := 2) (by decide +kernel)), by decide +kernel, by decide⟩
theorem fc_X10_232 : jw_CV RX10 232 mX1_isSetOfPlinths 1 1 := ⟨fb_mX1_isSetOfPlinths, List.mem_append_right _ (List.mem_of_getElem? (i := 626) (by decide +kernel)), List.mem_append_right _ (List.mem_of_getElem? (i := 627) (by decide +kernel)), List.mem_append_right _ (List.mem_of_getElem? (i := 628) (by decide +kernel)), rfl, TX1, 11, rfl⟩
theorem fb_mX1_isSetOfStatues : jw_CB mX1_isSetOfStatues 1 := ⟨List.mem_filter.mpr ⟨List.mem_append_right _ (List.mem_of_getElem? (i := 637) (by decide +kernel)), rfl⟩, List.mem_append_right _ (List.mem_of_getElem? (i := 2) (by decide +kernel)), by decide +kernel, by decide⟩
theorem fc_X10_235 : jw_CV RX10 235 mX1_isSetOfStatues 1 1 := ⟨fb_mX1_isSetOfStatues, List.mem_append_right _ (List.mem_of_getElem? (i := 634) (by decide +kernel)), List.mem_append_right _ (List.mem_of_getElem? (i := 635) (by decide +kernel)), List.mem_append_right _ (List.mem_of_getElem? (i := 636) (by decide +kernel)), rfl, TX1, 11, rfl⟩
theorem fb_mX2_befall : jw_CB mX2_befall 0 := ⟨List.mem_filter.mpr ⟨List.mem_append_right _ (List.mem_of_getElem? (i := 645) (by decide +kernel)), rfl⟩, List.mem_append_right _ (List.mem_of_getElem? (i := 9) (by decide +kernel)), by decide +kernel, by decide⟩
theorem fc_X10_238 : jw_CV RX10 238 mX2_befall 2 0 := ⟨fb_mX2_befall, List.mem_append_right _ (List.mem_of_getElem? (i := 642) (by decide +kernel)), List.mem_append_right _ (List.mem_of_getElem? (i := 643) (by decide +kernel)), List.mem_append_right _ (List.mem_of_getElem? (i := 644) (by decide +kernel)), rfl, TX2, 3, rfl⟩
theorem fb_mX3_popInto : jw_CB mX3_popInto 1 := ⟨List.mem_filter.mpr ⟨List.mem_append_right _ (List.mem_of_getElem? (i := 676) (by decide +kernel)), rfl⟩, List.mem_append_right _ (List.mem_of_getElem? (i := 10) (by decide +kernel)), by decide +kernel, by decide⟩
theorem fc_X10_241 : jw_CV RX10 241 mX3_popInto 3 1 := ⟨fb_mX3_popInto, List.mem_append_right _ (List.mem_of_getElem? (i := 673) (by decide +kernel)), List.mem_append_right _ (List.mem_of_getElem? (i := 674) (by decide +kernel)), List.mem_append_right _ (List.mem_of_getElem? (i := 675) (by decide +kernel)), rfl, TX3, 3, rfl⟩
theorem fb_mX8_copyFrom : jw_CB mX8_copyFrom 1 := ⟨List.mem_filter.mpr ⟨List.mem_append_right _ (List.mem_of_getElem? (i := 577) (by decide +kernel)), rfl⟩, List.mem_append_right _ (List.mem_of_getElem? (i := 3) (by decide +kernel)), by decide +kernel, by decide⟩
theorem fc_X10_244 : jw_CV RX10 244 mX8_copyFrom 8 1 := ⟨fb_mX8_copyFrom, List.mem_append_right _ (List.mem_of_getElem? (i := 681) (by decide +kernel)), List.mem_append_right _ (List.mem_of_getElem? (i := 575) (by decide +kernel)), List.mem_append_right _ (List.mem_of_getElem? (i := 576) (by decide +kernel)), rfl, TX8, 7, rfl⟩
theorem fb_mX6_fewestChanges : jw_CB mX6_fewestChanges 2 := ⟨List.mem_filter.mpr ⟨List.mem_append_right _ (List.mem_of_getElem? (i := 693) (by decide +kernel)), rfl⟩, List.mem_append_right _ (List.mem_of_getElem? (i := 5) (by decide +kernel)), by decide +kernel, by decide⟩
theorem fc_X10_246 : jw_CV RX10 246 mX6_fewestChanges 6 2 := ⟨fb_mX6_fewestChanges, List.mem_append_right _ (List.mem_of_getElem? (i := 690) (by decide +kernel)), List.mem_append_right _ (List.mem_of_getElem? (i := 691) (by decide +kernel)), List.mem_append_right _ (List.mem_of_getElem? (i := 692) (by decide +kernel)), rfl, TX6, 2, rfl⟩
theorem fb_mX6_weight : jw_CB mX6_weight 3 := ⟨List.mem_filter.mpr ⟨List.mem_append_right _ (List.mem_of_getElem? (i := 714) (by decide +kernel)), rfl⟩, List.mem_append_right _ (List.mem_of_getElem? (i := 5) (by decide +kernel)), by decide +kernel, by decide⟩
theorem fc_X10_250 : jw_CV RX10 250 mX6_weight 6 3 := ⟨fb_mX6_weight, List.mem_append_right _ (List.mem_of_getElem? (i := 711) (by decide +kernel)), List.mem_append_right _ (List.mem_of_getElem? (i := 712) (by decide +kernel)), List.mem_append_right _ (List.mem_of_getElem? (i := 713) (by decide +kernel)), rfl, TX6, 2, rfl⟩
theorem fb_mX6_isHadAgainst : jw_CB mX6_isHadAgainst 2 := ⟨List.mem_filter.mpr ⟨List.mem_append_right _ (List.mem_of_getElem? (i := 523) (by decide +kernel)), rfl⟩, List.mem_append_right _ (List.mem_of_getElem? (i := 5) (by decide +kernel)), by decide +kernel, by decide⟩
theorem fc_X10_254 : jw_CV RX10 254 mX6_isHadAgainst 6 2 := ⟨fb_mX6_isHadAgainst, List.mem_append_right _ (List.mem_of_getElem? (i := 726) (by decide +kernel)), List.mem_append_right _ (List.mem_of_getElem? (i := 521) (by decide +kernel)), List.mem_append_right _ (List.mem_of_getElem? (i := 522) (by decide +kernel)), rfl, TX6, 2, rfl⟩
theorem fb_mX5_placeAll : jw_CB mX5_placeAll 0 := ⟨List.mem_filter.mpr ⟨List.mem_append_right _ (List.mem_of_getElem? (i := 734) (by decide +kernel)), rfl⟩, List.mem_append_right _ (List.mem_of_getElem? (i := 6) (by decide +kernel)), by decide +kernel, by decide⟩
theorem fc_X10_257 : jw_CV RX10 257 mX5_placeAll 5 0 := ⟨fb_mX5_placeAll, List.mem_append_right _ (List.mem_of_getElem? (i := 731) (by decide +kernel)), List.mem_append_right _ (List.mem_of_getElem? (i := 732) (by decide +kernel)), List.mem_append_right _ (List.mem_of_getElem? (i := 733) (by decide +kernel)), rfl, TX5, 4, rfl⟩
theorem fb_mX5_placed : jw_CB mX5_placed 0 := ⟨List.mem_filter.mpr ⟨List.mem_append_right _ (List.mem_of_getElem? (i := 760) (by decide +kernel)), rfl⟩, List.mem_append_right _ (List.mem_of_getElem? (i := 6) (by decide +kernel)), by decide +kernel, by decide⟩
theorem fc_X10_260 : jw_CV RX10 260 mX5_placed 5 0 := ⟨fb_mX5_placed, List.mem_append_right _ (List.mem_of_getElem? (i := 757) (by decide +kernel)), List.mem_append_right _ (List.mem_of_getElem? (i := 758) (by decide +kernel)), List.mem_append_right _ (List.mem_of_getElem? (i := 759) (by decide +kernel)), rfl, TX5, 4, rfl⟩
theorem fb_mX5_viewTogether : jw_CB mX5_viewTogether 0 := ⟨List.mem_filter.mpr ⟨List.mem_append_right _ (List.mem_of_getElem? (i := 768) (by decide +kernel)), rfl⟩, List.mem_append_right _ (List.mem_of_getElem? (i := 6) (by decide +kernel)), by decide +kernel, by decide⟩
theorem fc_X10_263 : jw_CV RX10 263 mX5_viewTogether 5 0 := ⟨fb_mX5_viewTogether, List.mem_append_right _ (List.mem_of_getElem? (i := 765) (by decide +kernel)), List.mem_append_right _ (List.mem_of_getElem? (i := 766) (by decide +kernel)), List.mem_append_right _ (List.mem_of_getElem? (i := 767) (by decide +kernel)), rfl, TX5, 4, rfl⟩
theorem fb_mX5_howManySwaps : jw_CB mX5_howManySwaps 0 := ⟨List.mem_filter.mpr ⟨List.mem_append_right _ (List.mem_of_getElem? (i := 776) (by decide +kernel)), rfl⟩, List.mem_append_right _ (List.mem_of_getElem? (i := 6) (by decide +kernel)), by decide +kernel, by decide⟩
theorem fc_X10_269 : jw_CV RX10 269 mX5_howManySwaps 5 0 := ⟨fb_mX5_howManySwaps, List.mem_append_right _ (List.mem_of_getElem? (i := 773) (by decide +kernel)), List.mem_append_right _ (List.mem_of_getElem? (i := 774) (by decide +kernel)), List.mem_append_right _ (List.mem_of_getElem? (i := 775) (by decide +kernel)), rfl, TX5, 4, rfl⟩
theorem fb_mX5_nthSwap : jw_CB mX5_nthSwap 1 := ⟨List.mem_filter.mpr ⟨List.mem_append_right _ (List.mem_of_getElem? (i := 785) (by decide +kernel)), rfl⟩, List.mem_append_right _ (List.mem_of_getElem? (i := 6) (by decide +kernel)), by decide +kernel, by decide⟩
theorem fc_X10_272 : jw_CV RX10 272 mX5_nthSwap 5 1 := ⟨fb_mX5_nthSwap, List.mem_append_right _ (List.mem_of_getElem? (i := 782) (by decide +kernel)), List.mem_append_right _ (List.mem_of_getElem? (i := 783) (by decide +kernel)), List.mem_append_right _ (List.mem_of_getElem? (i := 784) (by decide +kernel)), rfl, TX5, 4, rfl⟩
theorem fb_mX9_add : jw_CB mX9_add 2 := ⟨List.mem_filter.mpr ⟨List.mem_append_right _ (List.mem_of_getElem? (i := 799) (by decide +kernel)), rfl⟩, List.mem_append_right _ (List.mem_of_getElem? (i := 7) (by decide +kernel)), by decide +kernel, by decide⟩
theorem fc_X10_279 : jw_CV RX10 279 mX9_add 9 2 := ⟨fb_mX9_add, List.mem_append_right _ (List.mem_of_getElem? (i := 796) (by decide +kernel)), List.mem_append_right _ (List.mem_of_getElem? (i := 797) (by decide +kernel)), List.mem_append_right _ (List.mem_of_getElem? (i := 798) (by decide +kernel)), rfl, TX9, 8, rfl⟩
theorem fb_mX9_fitAll : jw_CB mX9_fitAll 0 := ⟨List.mem_filter.mpr ⟨List.mem_append_right _ (List.mem_of_getElem? (i := 807) (by decide +kernel)), rfl⟩, List.mem_append_right _ (List.mem_of_getElem? (i := 7) (by decide +kernel)), by decide +kernel, by decide⟩
theorem fc_X10_282 : jw_CV RX10 282 mX9_fitAll 9 0 := ⟨fb_mX9_fitAll, List.mem_append_right _ (List.mem_of_getElem? (i := 804) (by decide +kernel)), List.mem_append_right _ (List.mem_of_getElem? (i := 805) (by decide +kernel)), List.mem_append_right _ (List.mem_of_getElem? (i := 806) (by decide +kernel)), rfl, TX9, 8, rfl⟩
theorem fb_mX9_inEach : jw_CB mX9_inEach 0 := ⟨List.mem_filter.mpr ⟨List.mem_append_right _ (List.mem_of_getElem? (i := 814) (by decide +kernel)), rfl⟩, List.mem_append_right _ (List.mem_of_getElem? (i := 7) (by decide +kernel)), by decide +kernel, by decide⟩
theorem fc_X10_288 : jw_CV RX10 288 mX9_inEach 9 0 := ⟨fb_mX9_inEach, List.mem_append_right _ (List.mem_of_getElem? (i := 811) (by decide +kernel)), List.mem_append_right _ (List.mem_of_getElem? (i := 812) (by decide +kernel)), List.mem_append_right _ (List.mem_of_getElem? (i := 813) (by decide +kernel)), rfl, TX9, 8, rfl⟩
theorem fb_mX9_bestPlinth : jw_CB mX9_bestPlinth 0 := ⟨List.mem_filter.mpr ⟨List.mem_append_right _ (List.mem_of_getElem? (i := 822) (by decide +kernel)), rfl⟩, List.mem_append_right _ (List.mem_of_getElem? (i := 7) (by decide +kernel)), by decide +kernel, by decide⟩
theorem fc_X10_291 : jw_CV RX10 291 mX9_bestPlinth 9 0 := ⟨fb_mX9_bestPlinth, List.mem_append_right _ (List.mem_of_getElem? (i := 819) (by decide +kernel)), List.mem_append_right _ (List.mem_of_getElem? (i := 820) (by decide +kernel)), List.mem_append_right _ (List.mem_of_getElem? (i := 821) (by decide +kernel)), rfl, TX9, 8, rfl⟩
theorem fb_mX0_add : jw_CB mX0_add 2 := ⟨List.mem_filter.mpr ⟨List.mem_append_right _ (List.mem_of_getElem? (i := 835) (by decide +kernel)), rfl⟩, List.mem_append_right _ (List.mem_of_getElem? (i := 8) (by decide +kernel)), by decide +kernel, by decide⟩
theorem fc_X10_294 : jw_CV RX10 294 mX0_add 0 2 := ⟨fb_mX0_add, List.mem_append_right _ (List.mem_of_getElem? (i := 832) (by decide +kernel)), List.mem_append_right _ (List.mem_of_getElem? (i := 833) (by decide +kernel)), List.mem_append_right _ (List.mem_of_getElem? (i := 834) (by decide +kernel)), rfl, TX0, 4, rfl⟩
theorem fb_mX0_firstWrong : jw_CB mX0_firstWrong 0 := ⟨List.mem_filter.mpr ⟨List.mem_append_right _ (List.mem_of_getElem? (i := 847) (by decide +kernel)), rfl⟩, List.mem_append_right _ (List.mem_of_getElem? (i := 8) (by decide +kernel)), by decide +kernel, by decide⟩
theorem fc_X10_295 : jw_CV RX10 295 mX0_firstWrong 0 0 := ⟨fb_mX0_firstWrong, List.mem_append_right _ (List.mem_of_getElem? (i := 844) (by decide +kernel)), List.mem_append_right _ (List.mem_of_getElem? (i := 845) (by decide +kernel)), List.mem_append_right _ (List.mem_of_getElem? (i := 846) (by decide +kernel)), rfl, TX0, 4, rfl⟩
theorem fb_mX8_isOn : jw_CB mX8_isOn 2 := ⟨List.mem_filter.mpr ⟨List.mem_append_right _ (List.mem_of_getElem? (i := 851) (by decide +kernel)), rfl⟩, List.mem_append_right _ (List.mem_of_getElem? (i := 3) (by decide +kernel)), by decide +kernel, by decide⟩
theorem fc_X0_26 : jw_CV RX0 26 mX8_isOn 8 2 := ⟨fb_mX8_isOn, List.mem_append_right _ (List.mem_of_getElem? (i := 848) (by decide +kernel)), List.mem_append_right _ (List.mem_of_getElem? (i := 849) (by decide +kernel)), List.mem_append_right _ (List.mem_of_getElem? (i := 850) (by decide +kernel)), rfl, TX8, 7, rfl⟩
theorem fc_X1_46 : Cond.methodLink RX1 46 arraycopyName ∈ lw_tbl := List.mem_append_right _ (List.mem_of_getElem? (i := 440) (by decide +kernel))
theorem fc_X1_52 : jw_CV RX1 52 mX1_hasPlinth 1 1 := ⟨fb_mX1_hasPlinth, List.mem_append_right _ (List.mem_of_getElem? (i := 594) (by decide +kernel)), List.mem_append_right _ (List.mem_of_getElem? (i := 417) (by decide +kernel)), List.mem_append_right _ (List.mem_of_getElem? (i := 418) (by decide +kernel)), rfl, TX1, 11, rfl⟩
theorem fc_X1_56 : jw_CV RX1 56 mX1_hasStatue 1 1 := ⟨fb_mX1_hasStatue, List.mem_append_right _ (List.mem_of_getElem? (i := 595) (by decide +kernel)), List.mem_append_right _ (List.mem_of_getElem? (i := 476) (by decide +kernel)), List.mem_append_right _ (List.mem_of_getElem? (i := 477) (by decide +kernel)), rfl, TX1, 11, rfl⟩
theorem fb_mX10_isIn : jw_CB mX10_isIn 2 := ⟨List.mem_filter.mpr ⟨List.mem_append_right _ (List.mem_of_getElem? (i := 498) (by decide +kernel)), rfl⟩, List.mem_append_right _ (List.mem_of_getElem? (i := 1) (by decide +kernel)), by decide +kernel, by decide⟩
theorem fc_X1_59 : jw_CN RX1 59 mX10_isIn 2 := ⟨fb_mX10_isIn, by decide +kernel, List.mem_append_right _ (List.mem_of_getElem? (i := 497) (by decide +kernel))⟩
theorem fb_mX2_draw : jw_CB mX2_draw 1 := ⟨List.mem_filter.mpr ⟨List.mem_append_right _ (List.mem_of_getElem? (i := 649) (by decide +kernel)), rfl⟩, List.mem_append_right _ (List.mem_of_getElem? (i := 9) (by decide +kernel)), by decide +kernel, by decide⟩
theorem fc_X2_28 : jw_CV RX2 28 mX2_draw 2 1 := ⟨fb_mX2_draw, List.mem_append_right _ (List.mem_of_getElem? (i := 646) (by decide +kernel)), List.mem_append_right _ (List.mem_of_getElem? (i := 648) (by decide +kernel)), List.mem_append_left _ (List.mem_of_getElem? (i := 17) (by decide +kernel)), rfl, TX2, 3, rfl⟩
theorem fb_mX2_turnWalker : jw_CB mX2_turnWalker 0 := ⟨List.mem_filter.mpr ⟨List.mem_append_right _ (List.mem_of_getElem? (i := 657) (by decide +kernel)), rfl⟩, List.mem_append_right _ (List.mem_of_getElem? (i := 9) (by decide +kernel)), by decide +kernel, by decide⟩
theorem fc_X2_32 : jw_CV RX2 32 mX2_turnWalker 2 0 := ⟨fb_mX2_turnWalker, List.mem_append_right _ (List.mem_of_getElem? (i := 654) (by decide +kernel)), List.mem_append_right _ (List.mem_of_getElem? (i := 656) (by decide +kernel)), List.mem_append_left _ (List.mem_of_getElem? (i := 18) (by decide +kernel)), rfl, TX2, 3, rfl⟩
theorem fb_mX2_raiseStatue : jw_CB mX2_raiseStatue 0 := ⟨List.mem_filter.mpr ⟨List.mem_append_right _ (List.mem_of_getElem? (i := 662) (by decide +kernel)), rfl⟩, List.mem_append_right _ (List.mem_of_getElem? (i := 9) (by decide +kernel)), by decide +kernel, by decide⟩
theorem fc_X2_35 : jw_CV RX2 35 mX2_raiseStatue 2 0 := ⟨fb_mX2_raiseStatue, List.mem_append_right _ (List.mem_of_getElem? (i := 659) (by decide +kernel)), List.mem_append_right _ (List.mem_of_getElem? (i := 661) (by decide +kernel)), List.mem_append_left _ (List.mem_of_getElem? (i := 19) (by decide +kernel)), rfl, TX2, 3, rfl⟩
theorem fb_mX2_washStatue : jw_CB mX2_washStatue 0 := ⟨List.mem_filter.mpr ⟨List.mem_append_right _ (List.mem_of_getElem? (i := 667) (by decide +kernel)), rfl⟩, List.mem_append_right _ (List.mem_of_getElem? (i := 9) (by decide +kernel)), by decide +kernel, by decide⟩
theorem fc_X2_38 : jw_CV RX2 38 mX2_washStatue 2 0 := ⟨fb_mX2_washStatue, List.mem_append_right _ (List.mem_of_getElem? (i := 664) (by decide +kernel)), List.mem_append_right _ (List.mem_of_getElem? (i := 666) (by decide +kernel)), List.mem_append_left _ (List.mem_of_getElem? (i := 20) (by decide +kernel)), rfl, TX2, 3, rfl⟩
theorem fc_X2_49 : jw_CV RX2 49 mX1_hasWalker 1 1 := ⟨fb_mX1_hasWalker, List.mem_append_right _ (List.mem_of_getElem? (i := 658) (by decide +kernel)), List.mem_append_right _ (List.mem_of_getElem? (i := 558) (by decide +kernel)), List.mem_append_right _ (List.mem_of_getElem? (i := 559) (by decide +kernel)), rfl, TX1, 11, rfl⟩
theorem fc_X2_62 : jw_CV RX2 62 mX8_canStand 8 2 := ⟨fb_mX8_canStand, List.mem_append_right _ (List.mem_of_getElem? (i := 663) (by decide +kernel)), List.mem_append_right _ (List.mem_of_getElem? (i := 610) (by decide +kernel)), List.mem_append_right _ (List.mem_of_getElem? (i := 611) (by decide +kernel)), rfl, TX8, 7, rfl⟩
theorem fc_X2_69 : jw_CV RX2 69 mX1_hasStatue 1 1 := ⟨fb_mX1_hasStatue, List.mem_append_right _ (List.mem_of_getElem? (i := 668) (by decide +kernel)), List.mem_append_right _ (List.mem_of_getElem? (i := 476) (by decide +kernel)), List.mem_append_right _ (List.mem_of_getElem? (i := 477) (by decide +kernel)), rfl, TX1, 11, rfl⟩
theorem fc_X3_25 : jw_CV RX3 25 mX8_copyFrom 8 1 := ⟨fb_mX8_copyFrom, List.mem_append_right _ (List.mem_of_getElem? (i := 574) (by decide +kernel)), List.mem_append_right _ (List.mem_of_getElem? (i := 575) (by decide +kernel)), List.mem_append_right _ (List.mem_of_getElem? (i := 576) (by decide +kernel)), rfl, TX8, 7, rfl⟩
theorem fc_X3_29 : Cond.methodLink RX3 29 Lib.Math.min.name ∈ lw_tbl := List.mem_append_right _ (List.mem_of_getElem? (i := 579) (by decide +kernel))
theorem fb_mX5_bestWorth : jw_CB mX5_bestWorth 2 := ⟨List.mem_filter.mpr ⟨List.mem_append_right _ (List.mem_of_getElem? (i := 738) (by decide +kernel)), rfl⟩, List.mem_append_right _ (List.mem_of_getElem? (i := 6) (by decide +kernel)), by decide +kernel, by decide⟩
theorem fc_X5_34 : jw_CV RX5 34 mX5_bestWorth 5 2 := ⟨fb_mX5_bestWorth, List.mem_append_right _ (List.mem_of_getElem? (i := 735) (by decide +kernel)), List.mem_append_right _ (List.mem_of_getElem? (i := 737) (by decide +kernel)), List.mem_append_left _ (List.mem_of_getElem? (i := 22) (by decide +kernel)), rfl, TX5, 4, rfl⟩
theorem fb_mX5_firstBest : jw_CB mX5_firstBest 2 := ⟨List.mem_filter.mpr ⟨List.mem_append_right _ (List.mem_of_getElem? (i := 756) (by decide +kernel)), rfl⟩, List.mem_append_right _ (List.mem_of_getElem? (i := 6) (by decide +kernel)), by decide +kernel, by decide⟩
theorem fc_X5_41 : jw_CV RX5 41 mX5_firstBest 5 2 := ⟨fb_mX5_firstBest, List.mem_append_right _ (List.mem_of_getElem? (i := 753) (by decide +kernel)), List.mem_append_right _ (List.mem_of_getElem? (i := 755) (by decide +kernel)), List.mem_append_left _ (List.mem_of_getElem? (i := 25) (by decide +kernel)), rfl, TX5, 4, rfl⟩
theorem fb_mX5_without : jw_CB mX5_without 2 := ⟨List.mem_filter.mpr ⟨List.mem_append_right _ (List.mem_of_getElem? (i := 751) (by decide +kernel)), rfl⟩, List.mem_append_right _ (List.mem_of_getElem? (i := 6) (by decide +kernel)), by decide +kernel, by decide⟩
theorem fc_X5_44 : jw_CS RX5 44 mX5_without 2 := ⟨fb_mX5_without, List.mem_append_right _ (List.mem_of_getElem? (i := 749) (by decide +kernel)), List.mem_append_right _ (List.mem_of_getElem? (i := 750) (by decide +kernel))⟩
theorem fb_mX5_bestOfAll : jw_CB mX5_bestOfAll 0 := ⟨List.mem_filter.mpr ⟨List.mem_append_right _ (List.mem_of_getElem? (i := 764) (by decide +kernel)), rfl⟩, List.mem_append_right _ (List.mem_of_getElem? (i := 6) (by decide +kernel)), by decide +kernel, by decide⟩
theorem fc_X5_47 : jw_CV RX5 47 mX5_bestOfAll 5 0 := ⟨fb_mX5_bestOfAll, List.mem_append_right _ (List.mem_of_getElem? (i := 761) (by decide +kernel)), List.mem_append_right _ (List.mem_of_getElem? (i := 763) (by decide +kernel)), List.mem_append_left _ (List.mem_of_getElem? (i := 26) (by decide +kernel)), rfl, TX5, 4, rfl⟩
theorem fb_mX5_canHave : jw_CB mX5_canHave 3 := ⟨List.mem_filter.mpr ⟨List.mem_append_right _ (List.mem_of_getElem? (i := 742) (by decide +kernel)), rfl⟩, List.mem_append_right _ (List.mem_of_getElem? (i := 6) (by decide +kernel)), by decide +kernel, by decide⟩
theorem fc_X5_51 : jw_CV RX5 51 mX5_canHave 5 3 := ⟨fb_mX5_canHave, List.mem_append_right _ (List.mem_of_getElem? (i := 739) (by decide +kernel)), List.mem_append_right _ (List.mem_of_getElem? (i := 741) (by decide +kernel)), List.mem_append_left _ (List.mem_of_getElem? (i := 23) (by decide +kernel)), rfl, TX5, 4, rfl⟩
theorem fb_mX5_worthOn : jw_CB mX5_worthOn 3 := ⟨List.mem_filter.mpr ⟨List.mem_append_right _ (List.mem_of_getElem? (i := 748) (by decide +kernel)), rfl⟩, List.mem_append_right _ (List.mem_of_getElem? (i := 6) (by decide +kernel)), by decide +kernel, by decide⟩
theorem fc_X5_55 : jw_CV RX5 55 mX5_worthOn 5 3 := ⟨fb_mX5_worthOn, List.mem_append_right _ (List.mem_of_getElem? (i := 745) (by decide +kernel)), List.mem_append_right _ (List.mem_of_getElem? (i := 747) (by decide +kernel)), List.mem_append_left _ (List.mem_of_getElem? (i := 24) (by decide +kernel)), rfl, TX5, 4, rfl⟩
theorem fc_X5_59 : Cond.methodLink RX5 59 Lib.Math.max.name ∈ lw_tbl := List.mem_append_right _ (List.mem_of_getElem? (i := 752) (by decide +kernel))
theorem fc_X5_64 : jw_CN RX5 64 mX10_isIn 2 := ⟨fb_mX10_isIn, by decide +kernel, List.mem_append_right _ (List.mem_of_getElem? (i := 497) (by decide +kernel))⟩
theorem fb_mX1_pleases : jw_CB mX1_pleases 2 := ⟨List.mem_filter.mpr ⟨List.mem_append_right _ (List.mem_of_getElem? (i := 593) (by decide +kernel)), rfl⟩, List.mem_append_right _ (List.mem_of_getElem? (i := 2) (by decide +kernel)), by decide +kernel, by decide⟩
theorem fc_X5_68 : jw_CV RX5 68 mX1_pleases 1 2 := ⟨fb_mX1_pleases, List.mem_append_right _ (List.mem_of_getElem? (i := 744) (by decide +kernel)), List.mem_append_right _ (List.mem_of_getElem? (i := 591) (by decide +kernel)), List.mem_append_right _ (List.mem_of_getElem? (i := 592) (by decide +kernel)), rfl, TX1, 11, rfl⟩
theorem fb_mX5_wouldSwap : jw_CB mX5_wouldSwap 2 := ⟨List.mem_filter.mpr ⟨List.mem_append_right _ (List.mem_of_getElem? (i := 780) (by decide +kernel)), rfl⟩, List.mem_append_right _ (List.mem_of_getElem? (i := 6) (by decide +kernel)), by decide +kernel, by decide⟩
theorem fc_X5_74 : jw_CV RX5 74 mX5_wouldSwap 5 2 := ⟨fb_mX5_wouldSwap, List.mem_append_right _ (List.mem_of_getElem? (i := 777) (by decide +kernel)), List.mem_append_right _ (List.mem_of_getElem? (i := 779) (by decide +kernel)), List.mem_append_left _ (List.mem_of_getElem? (i := 27) (by decide +kernel)), rfl, TX5, 4, rfl⟩
theorem fc_X5_77 : jw_CV RX5 77 mX8_stands 8 1 := ⟨fb_mX8_stands, List.mem_append_right _ (List.mem_of_getElem? (i := 781) (by decide +kernel)), List.mem_append_right _ (List.mem_of_getElem? (i := 472) (by decide +kernel)), List.mem_append_right _ (List.mem_of_getElem? (i := 473) (by decide +kernel)), rfl, TX8, 7, rfl⟩
theorem fc_X6_19 : jw_CV RX6 19 mX8_stands 8 1 := ⟨fb_mX8_stands, List.mem_append_right _ (List.mem_of_getElem? (i := 694) (by decide +kernel)), List.mem_append_right _ (List.mem_of_getElem? (i := 472) (by decide +kernel)), List.mem_append_right _ (List.mem_of_getElem? (i := 473) (by decide +kernel)), rfl, TX8, 7, rfl⟩
theorem fc_X6_29 : jw_CV RX6 29 mX8_walkersUnder 8 1 := ⟨fb_mX8_walkersUnder, List.mem_append_right _ (List.mem_of_getElem? (i := 695) (by decide +kernel)), List.mem_append_right _ (List.mem_of_getElem? (i := 493) (by decide +kernel)), List.mem_append_right _ (List.mem_of_getElem? (i := 494) (by decide +kernel)), rfl, TX8, 7, rfl⟩
theorem fb_mX1_setsOfWalkers : jw_CB mX1_setsOfWalkers 0 := ⟨List.mem_filter.mpr ⟨List.mem_append_right _ (List.mem_of_getElem? (i := 699) (by decide +kernel)), rfl⟩, List.mem_append_right _ (List.mem_of_getElem? (i := 2) (by decide +kernel)), by decide +kernel, by decide⟩
theorem fc_X6_33 : jw_CV RX6 33 mX1_setsOfWalkers 1 0 := ⟨fb_mX1_setsOfWalkers, List.mem_append_right _ (List.mem_of_getElem? (i := 696) (by decide +kernel)), List.mem_append_right _ (List.mem_of_getElem? (i := 697) (by decide +kernel)), List.mem_append_right _ (List.mem_of_getElem? (i := 698) (by decide +kernel)), rfl, TX1, 11, rfl⟩
theorem fb_mJ6_bitCount_0f7a4 : jw_CB mJ6_bitCount_0f7a4 1 := ⟨List.mem_filter.mpr ⟨List.mem_append_right _ (List.mem_of_getElem? (i := 702) (by decide +kernel)), rfl⟩, List.mem_append_right _ (List.mem_of_getElem? (i := 15) (by decide +kernel)), by decide +kernel, by decide⟩
theorem fc_X6_39 : jw_CS RX6 39 mJ6_bitCount_0f7a4 1 := ⟨fb_mJ6_bitCount_0f7a4, List.mem_append_right _ (List.mem_of_getElem? (i := 700) (by decide +kernel)), List.mem_append_right _ (List.mem_of_getElem? (i := 701) (by decide +kernel))⟩
theorem fb_mX8_lead : jw_CB mX8_lead 2 := ⟨List.mem_filter.mpr ⟨List.mem_append_right _ (List.mem_of_getElem? (i := 502) (by decide +kernel)), rfl⟩, List.mem_append_right _ (List.mem_of_getElem? (i := 3) (by decide +kernel)), by decide +kernel, by decide⟩
theorem fc_X6_44 : jw_CV RX6 44 mX8_lead 8 2 := ⟨fb_mX8_lead, List.mem_append_right _ (List.mem_of_getElem? (i := 706) (by decide +kernel)), List.mem_append_right _ (List.mem_of_getElem? (i := 500) (by decide +kernel)), List.mem_append_right _ (List.mem_of_getElem? (i := 501) (by decide +kernel)), rfl, TX8, 7, rfl⟩
theorem fc_X6_48 : jw_CN RX6 48 mX10_isIn 2 := ⟨fb_mX10_isIn, by decide +kernel, List.mem_append_right _ (List.mem_of_getElem? (i := 497) (by decide +kernel))⟩
theorem fc_X6_52 : jw_CV RX6 52 mX1_votesOf 1 1 := ⟨fb_mX1_votesOf, List.mem_append_right _ (List.mem_of_getElem? (i := 525) (by decide +kernel)), List.mem_append_right _ (List.mem_of_getElem? (i := 508) (by decide +kernel)), List.mem_append_right _ (List.mem_of_getElem? (i := 509) (by decide +kernel)), rfl, TX1, 11, rfl⟩
theorem fb_mX6_ordersAround : jw_CB mX6_ordersAround 2 := ⟨List.mem_filter.mpr ⟨List.mem_append_right _ (List.mem_of_getElem? (i := 719) (by decide +kernel)), rfl⟩, List.mem_append_right _ (List.mem_of_getElem? (i := 5) (by decide +kernel)), by decide +kernel, by decide⟩
theorem fc_X6_55 : jw_CV RX6 55 mX6_ordersAround 6 2 := ⟨fb_mX6_ordersAround, List.mem_append_right _ (List.mem_of_getElem? (i := 716) (by decide +kernel)), List.mem_append_right _ (List.mem_of_getElem? (i := 718) (by decide +kernel)), List.mem_append_left _ (List.mem_of_getElem? (i := 21) (by decide +kernel)), rfl, TX6, 2, rfl⟩
theorem fc_X6_61 : jw_CV RX6 61 mX8_walkersLiking 8 1 := ⟨fb_mX8_walkersLiking, List.mem_append_right _ (List.mem_of_getElem? (i := 524) (by decide +kernel)), List.mem_append_right _ (List.mem_of_getElem? (i := 504) (by decide +kernel)), List.mem_append_right _ (List.mem_of_getElem? (i := 505) (by decide +kernel)), rfl, TX8, 7, rfl⟩
theorem fb_mX6_isHadAgainstAll : jw_CB mX6_isHadAgainstAll 1 := ⟨List.mem_filter.mpr ⟨List.mem_append_right _ (List.mem_of_getElem? (i := 519) (by decide +kernel)), rfl⟩, List.mem_append_right _ (List.mem_of_getElem? (i := 5) (by decide +kernel)), by decide +kernel, by decide⟩
theorem fc_X6_68 : jw_CV RX6 68 mX6_isHadAgainstAll 6 1 := ⟨fb_mX6_isHadAgainstAll, List.mem_append_right _ (List.mem_of_getElem? (i := 516) (by decide +kernel)), List.mem_append_right _ (List.mem_of_getElem? (i := 518) (by decide +kernel)), List.mem_append_left _ (List.mem_of_getElem? (i := 12) (by decide +kernel)), rfl, TX6, 2, rfl⟩
theorem fc_X6_71 : jw_CV RX6 71 mX6_isHadAgainst 6 2 := ⟨fb_mX6_isHadAgainst, List.mem_append_right _ (List.mem_of_getElem? (i := 520) (by decide +kernel)), List.mem_append_right _ (List.mem_of_getElem? (i := 521) (by decide +kernel)), List.mem_append_right _ (List.mem_of_getElem? (i := 522) (by decide +kernel)), rfl, TX6, 2, rfl⟩
theorem fb_mX6_goesRound : jw_CB mX6_goesRound 3 := ⟨List.mem_filter.mpr ⟨List.mem_append_right _ (List.mem_of_getElem? (i := 533) (by decide +kernel)), rfl⟩, List.mem_append_right _ (List.mem_of_getElem? (i := 5) (by decide +kernel)), by decide +kernel, by decide⟩
theorem fc_X6_74 : jw_CV RX6 74 mX6_goesRound 6 3 := ⟨fb_mX6_goesRound, List.mem_append_right _ (List.mem_of_getElem? (i := 530) (by decide +kernel)), List.mem_append_right _ (List.mem_of_getElem? (i := 532) (by decide +kernel)), List.mem_append_left _ (List.mem_of_getElem? (i := 13) (by decide +kernel)), rfl, TX6, 2, rfl⟩
theorem fb_mX1_clear : jw_CB mX1_clear 0 := ⟨List.mem_filter.mpr ⟨List.mem_append_right _ (List.mem_of_getElem? (i := 364) (by decide +kernel)), rfl⟩, List.mem_append_right _ (List.mem_of_getElem? (i := 2) (by decide +kernel)), by decide +kernel, by decide⟩
theorem fc_X7_29 : jw_CV RX7 29 mX1_clear 1 0 := ⟨fb_mX1_clear, List.mem_append_right _ (List.mem_of_getElem? (i := 361) (by decide +kernel)), List.mem_append_right _ (List.mem_of_getElem? (i := 362) (by decide +kernel)), List.mem_append_right _ (List.mem_of_getElem? (i := 363) (by decide +kernel)), rfl, TX1, 11, rfl⟩
theorem fb_mX7_skipBlanks : jw_CB mX7_skipBlanks 0 := ⟨List.mem_filter.mpr ⟨List.mem_append_right _ (List.mem_of_getElem? (i := 368) (by decide +kernel)), rfl⟩, List.mem_append_right _ (List.mem_of_getElem? (i := 4) (by decide +kernel)), by decide +kernel, by decide⟩
theorem fc_X7_38 : jw_CV RX7 38 mX7_skipBlanks 7 0 := ⟨fb_mX7_skipBlanks, List.mem_append_right _ (List.mem_of_getElem? (i := 365) (by decide +kernel)), List.mem_append_right _ (List.mem_of_getElem? (i := 367) (by decide +kernel)), List.mem_append_left _ (List.mem_of_getElem? (i := 0) (by decide +kernel)), rfl, TX7, 6, rfl⟩
theorem fb_mX7_readClause : jw_CB mX7_readClause 0 := ⟨List.mem_filter.mpr ⟨List.mem_append_right _ (List.mem_of_getElem? (i := 372) (by decide +kernel)), rfl⟩, List.mem_append_right _ (List.mem_of_getElem? (i := 4) (by decide +kernel)), by decide +kernel, by decide⟩
theorem fc_X7_41 : jw_CV RX7 41 mX7_readClause 7 0 := ⟨fb_mX7_readClause, List.mem_append_right _ (List.mem_of_getElem? (i := 369) (by decide +kernel)), List.mem_append_right _ (List.mem_of_getElem? (i := 371) (by decide +kernel)), List.mem_append_left _ (List.mem_of_getElem? (i := 1) (by decide +kernel)), rfl, TX7, 6, rfl⟩
theorem fb_mX7_letter : jw_CB mX7_letter 0 := ⟨List.mem_filter.mpr ⟨List.mem_append_right _ (List.mem_of_getElem? (i := 376) (by decide +kernel)), rfl⟩, List.mem_append_right _ (List.mem_of_getElem? (i := 4) (by decide +kernel)), by decide +kernel, by decide⟩
theorem fc_X7_44 : jw_CV RX7 44 mX7_letter 7 0 := ⟨fb_mX7_letter, List.mem_append_right _ (List.mem_of_getElem? (i := 373) (by decide +kernel)), List.mem_append_right _ (List.mem_of_getElem? (i := 375) (by decide +kernel)), List.mem_append_left _ (List.mem_of_getElem? (i := 2) (by decide +kernel)), rfl, TX7, 6, rfl⟩
theorem fb_mX7_faultOfWord : jw_CB mX7_faultOfWord 1 := ⟨List.mem_filter.mpr ⟨List.mem_append_right _ (List.mem_of_getElem? (i := 380) (by decide +kernel)), rfl⟩, List.mem_append_right _ (List.mem_of_getElem? (i := 4) (by decide +kernel)), by decide +kernel, by decide⟩
theorem fc_X7_48 : jw_CV RX7 48 mX7_faultOfWord 7 1 := ⟨fb_mX7_faultOfWord, List.mem_append_right _ (List.mem_of_getElem? (i := 377) (by decide +kernel)), List.mem_append_right _ (List.mem_of_getElem? (i := 379) (by decide +kernel)), List.mem_append_left _ (List.mem_of_getElem? (i := 3) (by decide +kernel)), rfl, TX7, 6, rfl⟩
theorem fb_mX7_blame : jw_CB mX7_blame 2 := ⟨List.mem_filter.mpr ⟨List.mem_append_right _ (List.mem_of_getElem? (i := 384) (by decide +kernel)), rfl⟩, List.mem_append_right _ (List.mem_of_getElem? (i := 4) (by decide +kernel)), by decide +kernel, by decide⟩
theorem fc_X7_52 : jw_CV RX7 52 mX7_blame 7 2 := ⟨fb_mX7_blame, List.mem_append_right _ (List.mem_of_getElem? (i := 381) (by decide +kernel)), List.mem_append_right _ (List.mem_of_getElem? (i := 383) (by decide +kernel)), List.mem_append_left _ (List.mem_of_getElem? (i := 4) (by decide +kernel)), rfl, TX7, 6, rfl⟩
theorem fb_mX7_readTerm : jw_CB mX7_readTerm 0 := ⟨List.mem_filter.mpr ⟨List.mem_append_right _ (List.mem_of_getElem? (i := 388) (by decide +kernel)), rfl⟩, List.mem_append_right _ (List.mem_of_getElem? (i := 4) (by decide +kernel)), by decide +kernel, by decide⟩
theorem fc_X7_56 : jw_CV RX7 56 mX7_readTerm 7 0 := ⟨fb_mX7_readTerm, List.mem_append_right _ (List.mem_of_getElem? (i := 385) (by decide +kernel)), List.mem_append_right _ (List.mem_of_getElem? (i := 387) (by decide +kernel)), List.mem_append_left _ (List.mem_of_getElem? (i := 5) (by decide +kernel)), rfl, TX7, 6, rfl⟩
theorem fb_mX7_readPlinth : jw_CB mX7_readPlinth 0 := ⟨List.mem_filter.mpr ⟨List.mem_append_right _ (List.mem_of_getElem? (i := 403) (by decide +kernel)), rfl⟩, List.mem_append_right _ (List.mem_of_getElem? (i := 4) (by decide +kernel)), by decide +kernel, by decide⟩
theorem fc_X7_59 : jw_CV RX7 59 mX7_readPlinth 7 0 := ⟨fb_mX7_readPlinth, List.mem_append_right _ (List.mem_of_getElem? (i := 400) (by decide +kernel)), List.mem_append_right _ (List.mem_of_getElem? (i := 402) (by decide +kernel)), List.mem_append_left _ (List.mem_of_getElem? (i := 8) (by decide +kernel)), rfl, TX7, 6, rfl⟩
theorem fb_mX7_readStatue : jw_CB mX7_readStatue 0 := ⟨List.mem_filter.mpr ⟨List.mem_append_right _ (List.mem_of_getElem? (i := 411) (by decide +kernel)), rfl⟩, List.mem_append_right _ (List.mem_of_getElem? (i := 4) (by decide +kernel)), by decide +kernel, by decide⟩
theorem fc_X7_62 : jw_CV RX7 62 mX7_readStatue 7 0 := ⟨fb_mX7_readStatue, List.mem_append_right _ (List.mem_of_getElem? (i := 408) (by decide +kernel)), List.mem_append_right _ (List.mem_of_getElem? (i := 410) (by decide +kernel)), List.mem_append_left _ (List.mem_of_getElem? (i := 9) (by decide +kernel)), rfl, TX7, 6, rfl⟩
theorem fb_mX7_readWalker : jw_CB mX7_readWalker 0 := ⟨List.mem_filter.mpr ⟨List.mem_append_right _ (List.mem_of_getElem? (i := 431) (by decide +kernel)), rfl⟩, List.mem_append_right _ (List.mem_of_getElem? (i := 4) (by decide +kernel)), by decide +kernel, by decide⟩
theorem fc_X7_65 : jw_CV RX7 65 mX7_readWalker 7 0 := ⟨fb_mX7_readWalker, List.mem_append_right _ (List.mem_of_getElem? (i := 428) (by decide +kernel)), List.mem_append_right _ (List.mem_of_getElem? (i := 430) (by decide +kernel)), List.mem_append_left _ (List.mem_of_getElem? (i := 11) (by decide +kernel)), rfl, TX7, 6, rfl⟩
theorem fb_mX7_readNumber : jw_CB mX7_readNumber 2 := ⟨List.mem_filter.mpr ⟨List.mem_append_right _ (List.mem_of_getElem? (i := 392) (by decide +kernel)), rfl⟩, List.mem_append_right _ (List.mem_of_getElem? (i := 4) (by decide +kernel)), by decide +kernel, by decide⟩
theorem fc_X7_80 : jw_CV RX7 80 mX7_readNumber 7 2 := ⟨fb_mX7_readNumber, List.mem_append_right _ (List.mem_of_getElem? (i := 389) (by decide +kernel)), List.mem_append_right _ (List.mem_of_getElem? (i := 391) (by decide +kernel)), List.mem_append_left _ (List.mem_of_getElem? (i := 6) (by decide +kernel)), rfl, TX7, 6, rfl⟩
theorem fb_mX7_readSemicolon : jw_CB mX7_readSemicolon 0 := ⟨List.mem_filter.mpr ⟨List.mem_append_right _ (List.mem_of_getElem? (i := 399) (by decide +kernel)), rfl⟩, List.mem_append_right _ (List.mem_of_getElem? (i := 4) (by decide +kernel)), by decide +kernel, by decide⟩
theorem fc_X7_84 : jw_CV RX7 84 mX7_readSemicolon 7 0 := ⟨fb_mX7_readSemicolon, List.mem_append_right _ (List.mem_of_getElem? (i := 396) (by decide +kernel)), List.mem_append_right _ (List.mem_of_getElem? (i := 398) (by decide +kernel)), List.mem_append_left _ (List.mem_of_getElem? (i := 7) (by decide +kernel)), rfl, TX7, 6, rfl⟩
theorem fb_mX1_addPlinth : jw_CB mX1_addPlinth 1 := ⟨List.mem_filter.mpr ⟨List.mem_append_right _ (List.mem_of_getElem? (i := 407) (by decide +kernel)), rfl⟩, List.mem_append_right _ (List.mem_of_getElem? (i := 2) (by decide +kernel)), by decide +kernel, by decide⟩
theorem fc_X7_87 : jw_CV RX7 87 mX1_addPlinth 1 1 := ⟨fb_mX1_addPlinth, List.mem_append_right _ (List.mem_of_getElem? (i := 404) (by decide +kernel)), List.mem_append_right _ (List.mem_of_getElem? (i := 405) (by decide +kernel)), List.mem_append_right _ (List.mem_of_getElem? (i := 406) (by decide +kernel)), rfl, TX1, 11, rfl⟩
theorem fb_mX7_readPlace : jw_CB mX7_readPlace 0 := ⟨List.mem_filter.mpr ⟨List.mem_append_right _ (List.mem_of_getElem? (i := 415) (by decide +kernel)), rfl⟩, List.mem_append_right _ (List.mem_of_getElem? (i := 4) (by decide +kernel)), by decide +kernel, by decide⟩
theorem fc_X7_91 : jw_CV RX7 91 mX7_readPlace 7 0 := ⟨fb_mX7_readPlace, List.mem_append_right _ (List.mem_of_getElem? (i := 412) (by decide +kernel)), List.mem_append_right _ (List.mem_of_getElem? (i := 414) (by decide +kernel)), List.mem_append_left _ (List.mem_of_getElem? (i := 10) (by decide +kernel)), rfl, TX7, 6, rfl⟩
theorem fb_mX1_addStatue : jw_CB mX1_addStatue 3 := ⟨List.mem_filter.mpr ⟨List.mem_append_right _ (List.mem_of_getElem? (i := 427) (by decide +kernel)), rfl⟩, List.mem_append_right _ (List.mem_of_getElem? (i := 2) (by decide +kernel)), by decide +kernel, by decide⟩
theorem fc_X7_94 : jw_CV RX7 94 mX1_addStatue 1 3 := ⟨fb_mX1_addStatue, List.mem_append_right _ (List.mem_of_getElem? (i := 424) (by decide +kernel)), List.mem_append_right _ (List.mem_of_getElem? (i := 425) (by decide +kernel)), List.mem_append_right _ (List.mem_of_getElem? (i := 426) (by decide +kernel)), rfl, TX1, 11, rfl⟩
theorem fb_mX1_addWalker : jw_CB mX1_addWalker 3 := ⟨List.mem_filter.mpr ⟨List.mem_append_right _ (List.mem_of_getElem? (i := 435) (by decide +kernel)), rfl⟩, List.mem_append_right _ (List.mem_of_getElem? (i := 2) (by decide +kernel)), by decide +kernel, by decide⟩
theorem fc_X7_98 : jw_CV RX7 98 mX1_addWalker 1 3 := ⟨fb_mX1_addWalker, List.mem_append_right _ (List.mem_of_getElem? (i := 432) (by decide +kernel)), List.mem_append_right _ (List.mem_of_getElem? (i := 433) (by decide +kernel)), List.mem_append_right _ (List.mem_of_getElem? (i := 434) (by decide +kernel)), rfl, TX1, 11, rfl⟩
theorem fc_X7_101 : jw_CV RX7 101 mX1_hasPlinth 1 1 := ⟨fb_mX1_hasPlinth, List.mem_append_right _ (List.mem_of_getElem? (i := 416) (by decide +kernel)), List.mem_append_right _ (List.mem_of_getElem? (i := 417) (by decide +kernel)), List.mem_append_right _ (List.mem_of_getElem? (i := 418) (by decide +kernel)), rfl, TX1, 11, rfl⟩
theorem fb_mX1_isTakenAtFirst : jw_CB mX1_isTakenAtFirst 1 := ⟨List.mem_filter.mpr ⟨List.mem_append_right _ (List.mem_of_getElem? (i := 423) (by decide +kernel)), rfl⟩, List.mem_append_right _ (List.mem_of_getElem? (i := 2) (by decide +kernel)), by decide +kernel, by decide⟩
theorem fc_X7_105 : jw_CV RX7 105 mX1_isTakenAtFirst 1 1 := ⟨fb_mX1_isTakenAtFirst, List.mem_append_right _ (List.mem_of_getElem? (i := 420) (by decide +kernel)), List.mem_append_right _ (List.mem_of_getElem? (i := 421) (by decide +kernel)), List.mem_append_right _ (List.mem_of_getElem? (i := 422) (by decide +kernel)), rfl, TX1, 11, rfl⟩
theorem fb_mX7_isFigure : jw_CB mX7_isFigure 1 := ⟨List.mem_filter.mpr ⟨List.mem_append_right _ (List.mem_of_getElem? (i := 395) (by decide +kernel)), rfl⟩, List.mem_append_right _ (List.mem_of_getElem? (i := 4) (by decide +kernel)), by decide +kernel, by decide⟩
theorem fc_X7_108 : jw_CS RX7 108 mX7_isFigure 1 := ⟨fb_mX7_isFigure, List.mem_append_right _ (List.mem_of_getElem? (i := 393) (by decide +kernel)), List.mem_append_right _ (List.mem_of_getElem? (i := 394) (by decide +kernel))⟩
theorem fc_X8_46 : Cond.methodLink RX8 46 arraycopyName ∈ lw_tbl := List.mem_append_right _ (List.mem_of_getElem? (i := 578) (by decide +kernel))
theorem fc_X8_52 : jw_CV RX8 52 mX1_hasStatue 1 1 := ⟨fb_mX1_hasStatue, List.mem_append_right _ (List.mem_of_getElem? (i := 475) (by decide +kernel)), List.mem_append_right _ (List.mem_of_getElem? (i := 476) (by decide +kernel)), List.mem_append_right _ (List.mem_of_getElem? (i := 477) (by decide +kernel)), rfl, TX1, 11, rfl⟩
theorem fc_X8_56 : jw_CV RX8 56 mX1_hasPlinth 1 1 := ⟨fb_mX1_hasPlinth, List.mem_append_right _ (List.mem_of_getElem? (i := 479) (by decide +kernel)), List.mem_append_right _ (List.mem_of_getElem? (i := 417) (by decide +kernel)), List.mem_append_right _ (List.mem_of_getElem? (i := 418) (by decide +kernel)), rfl, TX1, 11, rfl⟩
theorem fc_X8_59 : jw_CV RX8 59 mX8_stands 8 1 := ⟨fb_mX8_stands, List.mem_append_right _ (List.mem_of_getElem? (i := 471) (by decide +kernel)), List.mem_append_right _ (List.mem_of_getElem? (i := 472) (by decide +kernel)), List.mem_append_right _ (List.mem_of_getElem? (i := 473) (by decide +kernel)), rfl, TX8, 7, rfl⟩
theorem fc_X8_62 : jw_CV RX8 62 mX8_whoIsOn 8 1 := ⟨fb_mX8_whoIsOn, List.mem_append_right _ (List.mem_of_getElem? (i := 484) (by decide +kernel)), List.mem_append_right _ (List.mem_of_getElem? (i := 485) (by decide +kernel)), List.mem_append_right _ (List.mem_of_getElem? (i := 486) (by decide +kernel)), rfl, TX8, 7, rfl⟩
theorem fc_X8_75 : jw_CN RX8 75 mX10_isIn 2 := ⟨fb_mX10_isIn, by decide +kernel, List.mem_append_right _ (List.mem_of_getElem? (i := 497) (by decide +kernel))⟩
theorem fc_X8_79 : jw_CV RX8 79 mX8_walkersLiking 8 1 := ⟨fb_mX8_walkersLiking, List.mem_append_right _ (List.mem_of_getElem? (i := 503) (by decide +kernel)), List.mem_append_right _ (List.mem_of_getElem? (i := 504) (by decide +kernel)), List.mem_append_right _ (List.mem_of_getElem? (i := 505) (by decide +kernel)), rfl, TX8, 7, rfl⟩
theorem fc_X8_82 : jw_CV RX8 82 mX1_votesOf 1 1 := ⟨fb_mX1_votesOf, List.mem_append_right _ (List.mem_of_getElem? (i := 507) (by decide +kernel)), List.mem_append_right _ (List.mem_of_getElem? (i := 508) (by decide +kernel)), List.mem_append_right _ (List.mem_of_getElem? (i := 509) (by decide +kernel)), rfl, TX1, 11, rfl⟩
theorem fc_X8_85 : jw_CV RX8 85 mX8_walkersUnder 8 1 := ⟨fb_mX8_walkersUnder, List.mem_append_right _ (List.mem_of_getElem? (i := 492) (by decide +kernel)), List.mem_append_right _ (List.mem_of_getElem? (i := 493) (by decide +kernel)), List.mem_append_right _ (List.mem_of_getElem? (i := 494) (by decide +kernel)), rfl, TX8, 7, rfl⟩
theorem fc_X8_88 : jw_CV RX8 88 mX8_lead 8 2 := ⟨fb_mX8_lead, List.mem_append_right _ (List.mem_of_getElem? (i := 499) (by decide +kernel)), List.mem_append_right _ (List.mem_of_getElem? (i := 500) (by decide +kernel)), List.mem_append_right _ (List.mem_of_getElem? (i := 501) (by decide +kernel)), rfl, TX8, 7, rfl⟩
theorem fb_mX8_strain : jw_CB mX8_strain 1 := ⟨List.mem_filter.mpr ⟨List.mem_append_right _ (List.mem_of_getElem? (i := 589) (by decide +kernel)), rfl⟩, List.mem_append_right _ (List.mem_of_getElem? (i := 3) (by decide +kernel)), by decide +kernel, by decide⟩
theorem fc_X8_92 : jw_CV RX8 92 mX8_strain 8 1 := ⟨fb_mX8_strain, List.mem_append_right _ (List.mem_of_getElem? (i := 586) (by decide +kernel)), List.mem_append_right _ (List.mem_of_getElem? (i := 588) (by decide +kernel)), List.mem_append_left _ (List.mem_of_getElem? (i := 15) (by decide +kernel)), rfl, TX8, 7, rfl⟩
theorem fc_X8_95 : Cond.methodLink RX8 95 Lib.Math.min.name ∈ lw_tbl := List.mem_append_right _ (List.mem_of_getElem? (i := 596) (by decide +kernel))
theorem fc_X8_100 : Cond.methodLink RX8 100 Lib.Math.max.name ∈ lw_tbl := List.mem_append_right _ (List.mem_of_getElem? (i := 597) (by decide +kernel))
theorem fb_mX8_holdElection : jw_CB mX8_holdElection 0 := ⟨List.mem_filter.mpr ⟨List.mem_append_right _ (List.mem_of_getElem? (i := 603) (by decide +kernel)), rfl⟩, List.mem_append_right _ (List.mem_of_getElem? (i := 3) (by decide +kernel)), by decide +kernel, by decide⟩
theorem fc_X8_106 : jw_CV RX8 106 mX8_holdElection 8 0 := ⟨fb_mX8_holdElection, List.mem_append_right _ (List.mem_of_getElem? (i := 600) (by decide +kernel)), List.mem_append_right _ (List.mem_of_getElem? (i := 602) (by decide +kernel)), List.mem_append_left _ (List.mem_of_getElem? (i := 16) (by decide +kernel)), rfl, TX8, 7, rfl⟩
theorem fc_X8_112 : jw_CV RX8 112 mX1_pleases 1 2 := ⟨fb_mX1_pleases, List.mem_append_right _ (List.mem_of_getElem? (i := 590) (by decide +kernel)), List.mem_append_right _ (List.mem_of_getElem? (i := 591) (by decide +kernel)), List.mem_append_right _ (List.mem_of_getElem? (i := 592) (by decide +kernel)), rfl, TX1, 11, rfl⟩
theorem fc_X8_115 : jw_CV RX8 115 mX8_outvoted 8 0 := ⟨fb_mX8_outvoted, List.mem_append_right _ (List.mem_of_getElem? (i := 604) (by decide +kernel)), List.mem_append_right _ (List.mem_of_getElem? (i := 489) (by decide +kernel)), List.mem_append_right _ (List.mem_of_getElem? (i := 490) (by decide +kernel)), rfl, TX8, 7, rfl⟩
theorem fc_X9_37 : jw_CV RX9 37 mX1_setsOfWalkers 1 0 := ⟨fb_mX1_setsOfWalkers, List.mem_append_right _ (List.mem_of_getElem? (i := 808) (by decide +kernel)), List.mem_append_right _ (List.mem_of_getElem? (i := 697) (by decide +kernel)), List.mem_append_right _ (List.mem_of_getElem? (i := 698) (by decide +kernel)), rfl, TX1, 11, rfl⟩
theorem fc_X9_43 : jw_CV RX9 43 mX8_walkersUnder 8 1 := ⟨fb_mX8_walkersUnder, List.mem_append_right _ (List.mem_of_getElem? (i := 809) (by decide +kernel)), List.mem_append_right _ (List.mem_of_getElem? (i := 493) (by decide +kernel)), List.mem_append_right _ (List.mem_of_getElem? (i := 494) (by decide +kernel)), rfl, TX8, 7, rfl⟩
theorem fc_X9_49 : jw_CV RX9 49 mX1_votesOf 1 1 := ⟨fb_mX1_votesOf, List.mem_append_right _ (List.mem_of_getElem? (i := 810) (by decide +kernel)), List.mem_append_right _ (List.mem_of_getElem? (i := 508) (by decide +kernel)), List.mem_append_right _ (List.mem_of_getElem? (i := 509) (by decide +kernel)), rfl, TX1, 11, rfl⟩
theorem fb_mX9_greatestPart : jw_CB mX9_greatestPart 1 := ⟨List.mem_filter.mpr ⟨List.mem_append_right _ (List.mem_of_getElem? (i := 826) (by decide +kernel)), rfl⟩, List.mem_append_right _ (List.mem_of_getElem? (i := 7) (by decide +kernel)), by decide +kernel, by decide⟩
theorem fc_X9_57 : jw_CV RX9 57 mX9_greatestPart 9 1 := ⟨fb_mX9_greatestPart, List.mem_append_right _ (List.mem_of_getElem? (i := 823) (by decide +kernel)), List.mem_append_right _ (List.mem_of_getElem? (i := 825) (by decide +kernel)), List.mem_append_left _ (List.mem_of_getElem? (i := 28) (by decide +kernel)), rfl, TX9, 8, rfl⟩
theorem fc_X9_60 : Cond.methodLink RX9 60 Lib.Math.max.name ∈ lw_tbl := List.mem_append_right _ (List.mem_of_getElem? (i := 827) (by decide +kernel))
theorem fb_mX11_in : jw_CB mX11_in 3 := ⟨List.mem_filter.mpr ⟨List.mem_append_right _ (List.mem_of_getElem? (i := 1007) (by decide +kernel)), rfl⟩, List.mem_append_right _ (List.mem_of_getElem? (i := 12) (by decide +kernel)), by decide +kernel, by decide⟩
theorem fc_X11_99 : jw_CS RX11 99 mX11_in 3 := ⟨fb_mX11_in, List.mem_append_right _ (List.mem_of_getElem? (i := 1005) (by decide +kernel)), List.mem_append_right _ (List.mem_of_getElem? (i := 1006) (by decide +kernel))⟩
theorem fb_mX11_here : jw_CB mX11_here 0 := ⟨List.mem_filter.mpr ⟨List.mem_append_right _ (List.mem_of_getElem? (i := 1017) (by decide +kernel)), rfl⟩, List.mem_append_right _ (List.mem_of_getElem? (i := 12) (by decide +kernel)), by decide +kernel, by decide⟩
theorem fc_X11_119 : jw_CV RX11 119 mX11_here 11 0 := ⟨fb_mX11_here, List.mem_append_right _ (List.mem_of_getElem? (i := 1014) (by decide +kernel)), List.mem_append_right _ (List.mem_of_getElem? (i := 1016) (by decide +kernel)), List.mem_append_left _ (List.mem_of_getElem? (i := 29) (by decide +kernel)), rfl, TX11, 43, rfl⟩
theorem fb_mX11_fails : jw_CB mX11_fails 2 := ⟨List.mem_filter.mpr ⟨List.mem_append_right _ (List.mem_of_getElem? (i := 1025) (by decide +kernel)), rfl⟩, List.mem_append_right _ (List.mem_of_getElem? (i := 12) (by decide +kernel)), by decide +kernel, by decide⟩
theorem fc_X11_127 : jw_CV RX11 127 mX11_fails 11 2 := ⟨fb_mX11_fails, List.mem_append_right _ (List.mem_of_getElem? (i := 1022) (by decide +kernel)), List.mem_append_right _ (List.mem_of_getElem? (i := 1024) (by decide +kernel)), List.mem_append_left _ (List.mem_of_getElem? (i := 31) (by decide +kernel)), rfl, TX11, 43, rfl⟩
theorem fb_mX11_takeNumber : jw_CB mX11_takeNumber 2 := ⟨List.mem_filter.mpr ⟨List.mem_append_right _ (List.mem_of_getElem? (i := 1037) (by decide +kernel)), rfl⟩, List.mem_append_right _ (List.mem_of_getElem? (i := 12) (by decide +kernel)), by decide +kernel, by decide⟩
theorem fc_X11_137 : jw_CV RX11 137 mX11_takeNumber 11 2 := ⟨fb_mX11_takeNumber, List.mem_append_right _ (List.mem_of_getElem? (i := 1034) (by decide +kernel)), List.mem_append_right _ (List.mem_of_getElem? (i := 1036) (by decide +kernel)), List.mem_append_left _ (List.mem_of_getElem? (i := 34) (by decide +kernel)), rfl, TX11, 43, rfl⟩
theorem fb_mX11_into : jw_CB mX11_into 4 := ⟨List.mem_filter.mpr ⟨List.mem_append_right _ (List.mem_of_getElem? (i := 1047) (by decide +kernel)), rfl⟩, List.mem_append_right _ (List.mem_of_getElem? (i := 12) (by decide +kernel)), by decide +kernel, by decide⟩
theorem fc_X11_146 : jw_CV RX11 146 mX11_into 11 4 := ⟨fb_mX11_into, List.mem_append_right _ (List.mem_of_getElem? (i := 1044) (by decide +kernel)), List.mem_append_right _ (List.mem_of_getElem? (i := 1046) (by decide +kernel)), List.mem_append_left _ (List.mem_of_getElem? (i := 36) (by decide +kernel)), rfl, TX11, 43, rfl⟩
theorem fb_mX11_takePlace : jw_CB mX11_takePlace 1 := ⟨List.mem_filter.mpr ⟨List.mem_append_right _ (List.mem_of_getElem? (i := 1055) (by decide +kernel)), rfl⟩, List.mem_append_right _ (List.mem_of_getElem? (i := 12) (by decide +kernel)), by decide +kernel, by decide⟩
theorem fc_X11_153 : jw_CV RX11 153 mX11_takePlace 11 1 := ⟨fb_mX11_takePlace, List.mem_append_right _ (List.mem_of_getElem? (i := 1052) (by decide +kernel)), List.mem_append_right _ (List.mem_of_getElem? (i := 1054) (by decide +kernel)), List.mem_append_left _ (List.mem_of_getElem? (i := 38) (by decide +kernel)), rfl, TX11, 43, rfl⟩
theorem fb_mX11_isFull : jw_CB mX11_isFull 1 := ⟨List.mem_filter.mpr ⟨List.mem_append_right _ (List.mem_of_getElem? (i := 1029) (by decide +kernel)), rfl⟩, List.mem_append_right _ (List.mem_of_getElem? (i := 12) (by decide +kernel)), by decide +kernel, by decide⟩
theorem fc_X11_160 : jw_CV RX11 160 mX11_isFull 11 1 := ⟨fb_mX11_isFull, List.mem_append_right _ (List.mem_of_getElem? (i := 1026) (by decide +kernel)), List.mem_append_right _ (List.mem_of_getElem? (i := 1028) (by decide +kernel)), List.mem_append_left _ (List.mem_of_getElem? (i := 32) (by decide +kernel)), rfl, TX11, 43, rfl⟩
theorem fb_mX11_takeTerm : jw_CB mX11_takeTerm 0 := ⟨List.mem_filter.mpr ⟨List.mem_append_right _ (List.mem_of_getElem? (i := 1033) (by decide +kernel)), rfl⟩, List.mem_append_right _ (List.mem_of_getElem? (i := 12) (by decide +kernel)), by decide +kernel, by decide⟩
theorem fc_X11_164 : jw_CV RX11 164 mX11_takeTerm 11 0 := ⟨fb_mX11_takeTerm, List.mem_append_right _ (List.mem_of_getElem? (i := 1030) (by decide +kernel)), List.mem_append_right _ (List.mem_of_getElem? (i := 1032) (by decide +kernel)), List.mem_append_left _ (List.mem_of_getElem? (i := 33) (by decide +kernel)), rfl, TX11, 43, rfl⟩
theorem fb_mX11_takePlinth : jw_CB mX11_takePlinth 0 := ⟨List.mem_filter.mpr ⟨List.mem_append_right _ (List.mem_of_getElem? (i := 1043) (by decide +kernel)), rfl⟩, List.mem_append_right _ (List.mem_of_getElem? (i := 12) (by decide +kernel)), by decide +kernel, by decide⟩
theorem fc_X11_167 : jw_CV RX11 167 mX11_takePlinth 11 0 := ⟨fb_mX11_takePlinth, List.mem_append_right _ (List.mem_of_getElem? (i := 1040) (by decide +kernel)), List.mem_append_right _ (List.mem_of_getElem? (i := 1042) (by decide +kernel)), List.mem_append_left _ (List.mem_of_getElem? (i := 35) (by decide +kernel)), rfl, TX11, 43, rfl⟩
theorem fb_mX11_takeStatue : jw_CB mX11_takeStatue 0 := ⟨List.mem_filter.mpr ⟨List.mem_append_right _ (List.mem_of_getElem? (i := 1051) (by decide +kernel)), rfl⟩, List.mem_append_right _ (List.mem_of_getElem? (i := 12) (by decide +kernel)), by decide +kernel, by decide⟩
theorem fc_X11_170 : jw_CV RX11 170 mX11_takeStatue 11 0 := ⟨fb_mX11_takeStatue, List.mem_append_right _ (List.mem_of_getElem? (i := 1048) (by decide +kernel)), List.mem_append_right _ (List.mem_of_getElem? (i := 1050) (by decide +kernel)), List.mem_append_left _ (List.mem_of_getElem? (i := 37) (by decide +kernel)), rfl, TX11, 43, rfl⟩
theorem fb_mX11_takeWalker : jw_CB mX11_takeWalker 0 := ⟨List.mem_filter.mpr ⟨List.mem_append_right _ (List.mem_of_getElem? (i := 1059) (by decide +kernel)), rfl⟩, List.mem_append_right _ (List.mem_of_getElem? (i := 12) (by decide +kernel)), by decide +kernel, by decide⟩
theorem fc_X11_173 : jw_CV RX11 173 mX11_takeWalker 11 0 := ⟨fb_mX11_takeWalker, List.mem_append_right _ (List.mem_of_getElem? (i := 1056) (by decide +kernel)), List.mem_append_right _ (List.mem_of_getElem? (i := 1058) (by decide +kernel)), List.mem_append_left _ (List.mem_of_getElem? (i := 39) (by decide +kernel)), rfl, TX11, 43, rfl⟩
theorem fb_mX11_copyRow : jw_CB mX11_copyRow 3 := ⟨List.mem_filter.mpr ⟨List.mem_append_right _ (List.mem_of_getElem? (i := 1066) (by decide +kernel)), rfl⟩, List.mem_append_right _ (List.mem_of_getElem? (i := 12) (by decide +kernel)), by decide +kernel, by decide⟩
theorem fc_X11_176 : jw_CS RX11 176 mX11_copyRow 3 := ⟨fb_mX11_copyRow, List.mem_append_right _ (List.mem_of_getElem? (i := 1064) (by decide +kernel)), List.mem_append_right _ (List.mem_of_getElem? (i := 1065) (by decide +kernel))⟩
theorem fb_mX11_takeClause : jw_CB mX11_takeClause 0 := ⟨List.mem_filter.mpr ⟨List.mem_append_right _ (List.mem_of_getElem? (i := 1021) (by decide +kernel)), rfl⟩, List.mem_append_right _ (List.mem_of_getElem? (i := 12) (by decide +kernel)), by decide +kernel, by decide⟩
theorem fc_X11_180 : jw_CV RX11 180 mX11_takeClause 11 0 := ⟨fb_mX11_takeClause, List.mem_append_right _ (List.mem_of_getElem? (i := 1018) (by decide +kernel)), List.mem_append_right _ (List.mem_of_getElem? (i := 1020) (by decide +kernel)), List.mem_append_left _ (List.mem_of_getElem? (i := 30) (by decide +kernel)), rfl, TX11, 43, rfl⟩
theorem fb_mX11_takeRead : jw_CB mX11_takeRead 0 := ⟨List.mem_filter.mpr ⟨List.mem_append_right _ (List.mem_of_getElem? (i := 1063) (by decide +kernel)), rfl⟩, List.mem_append_right _ (List.mem_of_getElem? (i := 12) (by decide +kernel)), by decide +kernel, by decide⟩
theorem fc_X11_183 : jw_CV RX11 183 mX11_takeRead 11 0 := ⟨fb_mX11_takeRead, List.mem_append_right _ (List.mem_of_getElem? (i := 1060) (by decide +kernel)), List.mem_append_right _ (List.mem_of_getElem? (i := 1062) (by decide +kernel)), List.mem_append_left _ (List.mem_of_getElem? (i := 40) (by decide +kernel)), rfl, TX11, 43, rfl⟩
theorem fb_mX11_has : jw_CB mX11_has 2 := ⟨List.mem_filter.mpr ⟨List.mem_append_right _ (List.mem_of_getElem? (i := 1105) (by decide +kernel)), rfl⟩, List.mem_append_right _ (List.mem_of_getElem? (i := 12) (by decide +kernel)), by decide +kernel, by decide⟩
theorem fc_X11_195 : jw_CS RX11 195 mX11_has 2 := ⟨fb_mX11_has, List.mem_append_right _ (List.mem_of_getElem? (i := 1103) (by decide +kernel)), List.mem_append_right _ (List.mem_of_getElem? (i := 1104) (by decide +kernel))⟩
theorem fb_mX11_whoLikes : jw_CB mX11_whoLikes 1 := ⟨List.mem_filter.mpr ⟨List.mem_append_right _ (List.mem_of_getElem? (i := 1113) (by decide +kernel)), rfl⟩, List.mem_append_right _ (List.mem_of_getElem? (i := 12) (by decide +kernel)), by decide +kernel, by decide⟩
theorem fc_X11_199 : jw_CV RX11 199 mX11_whoLikes 11 1 := ⟨fb_mX11_whoLikes, List.mem_append_right _ (List.mem_of_getElem? (i := 1110) (by decide +kernel)), List.mem_append_right _ (List.mem_of_getElem? (i := 1112) (by decide +kernel)), List.mem_append_left _ (List.mem_of_getElem? (i := 49) (by decide +kernel)), rfl, TX11, 43, rfl⟩
theorem fb_mX11_votesOf : jw_CB mX11_votesOf 1 := ⟨List.mem_filter.mpr ⟨List.mem_append_right _ (List.mem_of_getElem? (i := 1117) (by decide +kernel)), rfl⟩, List.mem_append_right _ (List.mem_of_getElem? (i := 12) (by decide +kernel)), by decide +kernel, by decide⟩
theorem fc_X11_202 : jw_CV RX11 202 mX11_votesOf 11 1 := ⟨fb_mX11_votesOf, List.mem_append_right _ (List.mem_of_getElem? (i := 1114) (by decide +kernel)), List.mem_append_right _ (List.mem_of_getElem? (i := 1116) (by decide +kernel)), List.mem_append_left _ (List.mem_of_getElem? (i := 50) (by decide +kernel)), rfl, TX11, 43, rfl⟩
theorem fb_mX11_walkersUnder : jw_CB mX11_walkersUnder 1 := ⟨List.mem_filter.mpr ⟨List.mem_append_right _ (List.mem_of_getElem? (i := 1102) (by decide +kernel)), rfl⟩, List.mem_append_right _ (List.mem_of_getElem? (i := 12) (by decide +kernel)), by decide +kernel, by decide⟩
theorem fc_X11_205 : jw_CV RX11 205 mX11_walkersUnder 11 1 := ⟨fb_mX11_walkersUnder, List.mem_append_right _ (List.mem_of_getElem? (i := 1099) (by decide +kernel)), List.mem_append_right _ (List.mem_of_getElem? (i := 1101) (by decide +kernel)), List.mem_append_left _ (List.mem_of_getElem? (i := 47) (by decide +kernel)), rfl, TX11, 43, rfl⟩
theorem fb_mX11_marginBy : jw_CB mX11_marginBy 2 := ⟨List.mem_filter.mpr ⟨List.mem_append_right _ (List.mem_of_getElem? (i := 1109) (by decide +kernel)), rfl⟩, List.mem_append_right _ (List.mem_of_getElem? (i := 12) (by decide +kernel)), by decide +kernel, by decide⟩
theorem fc_X11_208 : jw_CV RX11 208 mX11_marginBy 11 2 := ⟨fb_mX11_marginBy, List.mem_append_right _ (List.mem_of_getElem? (i := 1106) (by decide +kernel)), List.mem_append_right _ (List.mem_of_getElem? (i := 1108) (by decide +kernel)), List.mem_append_left _ (List.mem_of_getElem? (i := 48) (by decide +kernel)), rfl, TX11, 43, rfl⟩
theorem fb_mX11_stands : jw_CB mX11_stands 1 := ⟨List.mem_filter.mpr ⟨List.mem_append_right _ (List.mem_of_getElem? (i := 1082) (by decide +kernel)), rfl⟩, List.mem_append_right _ (List.mem_of_getElem? (i := 12) (by decide +kernel)), by decide +kernel, by decide⟩
theorem fc_X11_211 : jw_CV RX11 211 mX11_stands 11 1 := ⟨fb_mX11_stands, List.mem_append_right _ (List.mem_of_getElem? (i := 1079) (by decide +kernel)), List.mem_append_right _ (List.mem_of_getElem? (i := 1081) (by decide +kernel)), List.mem_append_left _ (List.mem_of_getElem? (i := 42) (by decide +kernel)), rfl, TX11, 43, rfl⟩
theorem fb_mX11_marginOf : jw_CB mX11_marginOf 1 := ⟨List.mem_filter.mpr ⟨List.mem_append_right _ (List.mem_of_getElem? (i := 1098) (by decide +kernel)), rfl⟩, List.mem_append_right _ (List.mem_of_getElem? (i := 12) (by decide +kernel)), by decide +kernel, by decide⟩
theorem fc_X11_214 : jw_CV RX11 214 mX11_marginOf 11 1 := ⟨fb_mX11_marginOf, List.mem_append_right _ (List.mem_of_getElem? (i := 1095) (by decide +kernel)), List.mem_append_right _ (List.mem_of_getElem? (i := 1097) (by decide +kernel)), List.mem_append_left _ (List.mem_of_getElem? (i := 46) (by decide +kernel)), rfl, TX11, 43, rfl⟩
theorem fb_mX11_whoIsOn : jw_CB mX11_whoIsOn 1 := ⟨List.mem_filter.mpr ⟨List.mem_append_right _ (List.mem_of_getElem? (i := 1090) (by decide +kernel)), rfl⟩, List.mem_append_right _ (List.mem_of_getElem? (i := 12) (by decide +kernel)), by decide +kernel, by decide⟩
theorem fc_X11_217 : jw_CV RX11 217 mX11_whoIsOn 11 1 := ⟨fb_mX11_whoIsOn, List.mem_append_right _ (List.mem_of_getElem? (i := 1087) (by decide +kernel)), List.mem_append_right _ (List.mem_of_getElem? (i := 1089) (by decide +kernel)), List.mem_append_left _ (List.mem_of_getElem? (i := 44) (by decide +kernel)), rfl, TX11, 43, rfl⟩
theorem fb_mX11_isHad : jw_CB mX11_isHad 2 := ⟨List.mem_filter.mpr ⟨List.mem_append_right _ (List.mem_of_getElem? (i := 1125) (by decide +kernel)), rfl⟩, List.mem_append_right _ (List.mem_of_getElem? (i := 12) (by decide +kernel)), by decide +kernel, by decide⟩
theorem fc_X11_220 : jw_CV RX11 220 mX11_isHad 11 2 := ⟨fb_mX11_isHad, List.mem_append_right _ (List.mem_of_getElem? (i := 1122) (by decide +kernel)), List.mem_append_right _ (List.mem_of_getElem? (i := 1124) (by decide +kernel)), List.mem_append_left _ (List.mem_of_getElem? (i := 52) (by decide +kernel)), rfl, TX11, 43, rfl⟩
theorem fb_mX11_standingOnes : jw_CB mX11_standingOnes 0 := ⟨List.mem_filter.mpr ⟨List.mem_append_right _ (List.mem_of_getElem? (i := 1078) (by decide +kernel)), rfl⟩, List.mem_append_right _ (List.mem_of_getElem? (i := 12) (by decide +kernel)), by decide +kernel, by decide⟩
theorem fc_X11_223 : jw_CV RX11 223 mX11_standingOnes 11 0 := ⟨fb_mX11_standingOnes, List.mem_append_right _ (List.mem_of_getElem? (i := 1075) (by decide +kernel)), List.mem_append_right _ (List.mem_of_getElem? (i := 1077) (by decide +kernel)), List.mem_append_left _ (List.mem_of_getElem? (i := 41) (by decide +kernel)), rfl, TX11, 43, rfl⟩
theorem fb_mX11_waitingOnes : jw_CB mX11_waitingOnes 0 := ⟨List.mem_filter.mpr ⟨List.mem_append_right _ (List.mem_of_getElem? (i := 1086) (by decide +kernel)), rfl⟩, List.mem_append_right _ (List.mem_of_getElem? (i := 12) (by decide +kernel)), by decide +kernel, by decide⟩
theorem fc_X11_226 : jw_CV RX11 226 mX11_waitingOnes 11 0 := ⟨fb_mX11_waitingOnes, List.mem_append_right _ (List.mem_of_getElem? (i := 1083) (by decide +kernel)), List.mem_append_right _ (List.mem_of_getElem? (i := 1085) (by decide +kernel)), List.mem_append_left _ (List.mem_of_getElem? (i := 43) (by decide +kernel)), rfl, TX11, 43, rfl⟩
theorem fb_mX11_fallingOnes : jw_CB mX11_fallingOnes 0 := ⟨List.mem_filter.mpr ⟨List.mem_append_right _ (List.mem_of_getElem? (i := 1094) (by decide +kernel)), rfl⟩, List.mem_append_right _ (List.mem_of_getElem? (i := 12) (by decide +kernel)), by decide +kernel, by decide⟩
theorem fc_X11_229 : jw_CV RX11 229 mX11_fallingOnes 11 0 := ⟨fb_mX11_fallingOnes, List.mem_append_right _ (List.mem_of_getElem? (i := 1091) (by decide +kernel)), List.mem_append_right _ (List.mem_of_getElem? (i := 1093) (by decide +kernel)), List.mem_append_left _ (List.mem_of_getElem? (i := 45) (by decide +kernel)), rfl, TX11, 43, rfl⟩
theorem fb_mX11_beloved : jw_CB mX11_beloved 0 := ⟨List.mem_filter.mpr ⟨List.mem_append_right _ (List.mem_of_getElem? (i := 1121) (by decide +kernel)), rfl⟩, List.mem_append_right _ (List.mem_of_getElem? (i := 12) (by decide +kernel)), by decide +kernel, by decide⟩
theorem fc_X11_232 : jw_CV RX11 232 mX11_beloved 11 0 := ⟨fb_mX11_beloved, List.mem_append_right _ (List.mem_of_getElem? (i := 1118) (by decide +kernel)), List.mem_append_right _ (List.mem_of_getElem? (i := 1120) (by decide +kernel)), List.mem_append_left _ (List.mem_of_getElem? (i := 51) (by decide +kernel)), rfl, TX11, 43, rfl⟩
theorem fb_mX11_rings : jw_CB mX11_rings 0 := ⟨List.mem_filter.mpr ⟨List.mem_append_right _ (List.mem_of_getElem? (i := 1129) (by decide +kernel)), rfl⟩, List.mem_append_right _ (List.mem_of_getElem? (i := 12) (by decide +kernel)), by decide +kernel, by decide⟩
theorem fc_X11_235 : jw_CV RX11 235 mX11_rings 11 0 := ⟨fb_mX11_rings, List.mem_append_right _ (List.mem_of_getElem? (i := 1126) (by decide +kernel)), List.mem_append_right _ (List.mem_of_getElem? (i := 1128) (by decide +kernel)), List.mem_append_left _ (List.mem_of_getElem? (i := 53) (by decide +kernel)), rfl, TX11, 43, rfl⟩
theorem fb_mX11_isPlinth : jw_CB mX11_isPlinth 1 := ⟨List.mem_filter.mpr ⟨List.mem_append_right _ (List.mem_of_getElem? (i := 1137) (by decide +kernel)), rfl⟩, List.mem_append_right _ (List.mem_of_getElem? (i := 12) (by decide +kernel)), by decide +kernel, by decide⟩
theorem fc_X11_238 : jw_CV RX11 238 mX11_isPlinth 11 1 := ⟨fb_mX11_isPlinth, List.mem_append_right _ (List.mem_of_getElem? (i := 1134) (by decide +kernel)), List.mem_append_right _ (List.mem_of_getElem? (i := 1136) (by decide +kernel)), List.mem_append_left _ (List.mem_of_getElem? (i := 54) (by decide +kernel)), rfl, TX11, 43, rfl⟩
theorem fb_mX11_isStatue : jw_CB mX11_isStatue 1 := ⟨List.mem_filter.mpr ⟨List.mem_append_right _ (List.mem_of_getElem? (i := 1146) (by decide +kernel)), rfl⟩, List.mem_append_right _ (List.mem_of_getElem? (i := 12) (by decide +kernel)), by decide +kernel, by decide⟩
theorem fc_X11_242 : jw_CV RX11 242 mX11_isStatue 11 1 := ⟨fb_mX11_isStatue, List.mem_append_right _ (List.mem_of_getElem? (i := 1143) (by decide +kernel)), List.mem_append_right _ (List.mem_of_getElem? (i := 1145) (by decide +kernel)), List.mem_append_left _ (List.mem_of_getElem? (i := 55) (by decide +kernel)), rfl, TX11, 43, rfl⟩
theorem fb_mX11_isWalker : jw_CB mX11_isWalker 1 := ⟨List.mem_filter.mpr ⟨List.mem_append_right _ (List.mem_of_getElem? (i := 1154) (by decide +kernel)), rfl⟩, List.mem_append_right _ (List.mem_of_getElem? (i := 12) (by decide +kernel)), by decide +kernel, by decide⟩
theorem fc_X11_245 : jw_CV RX11 245 mX11_isWalker 11 1 := ⟨fb_mX11_isWalker, List.mem_append_right _ (List.mem_of_getElem? (i := 1151) (by decide +kernel)), List.mem_append_right _ (List.mem_of_getElem? (i := 1153) (by decide +kernel)), List.mem_append_left _ (List.mem_of_getElem? (i := 56) (by decide +kernel)), rfl, TX11, 43, rfl⟩
theorem fb_mX11_moreTired : jw_CB mX11_moreTired 1 := ⟨List.mem_filter.mpr ⟨List.mem_append_right _ (List.mem_of_getElem? (i := 1176) (by decide +kernel)), rfl⟩, List.mem_append_right _ (List.mem_of_getElem? (i := 12) (by decide +kernel)), by decide +kernel, by decide⟩
theorem fc_X11_248 : jw_CV RX11 248 mX11_moreTired 11 1 := ⟨fb_mX11_moreTired, List.mem_append_right _ (List.mem_of_getElem? (i := 1173) (by decide +kernel)), List.mem_append_right _ (List.mem_of_getElem? (i := 1175) (by decide +kernel)), List.mem_append_left _ (List.mem_of_getElem? (i := 60) (by decide +kernel)), rfl, TX11, 43, rfl⟩
theorem fb_mX11_elect : jw_CB mX11_elect 0 := ⟨List.mem_filter.mpr ⟨List.mem_append_right _ (List.mem_of_getElem? (i := 1180) (by decide +kernel)), rfl⟩, List.mem_append_right _ (List.mem_of_getElem? (i := 12) (by decide +kernel)), by decide +kernel, by decide⟩
theorem fc_X11_251 : jw_CV RX11 251 mX11_elect 11 0 := ⟨fb_mX11_elect, List.mem_append_right _ (List.mem_of_getElem? (i := 1177) (by decide +kernel)), List.mem_append_right _ (List.mem_of_getElem? (i := 1179) (by decide +kernel)), List.mem_append_left _ (List.mem_of_getElem? (i := 61) (by decide +kernel)), rfl, TX11, 43, rfl⟩
theorem fb_mX11_yearsRefused : jw_CB mX11_yearsRefused 1 := ⟨List.mem_filter.mpr ⟨List.mem_append_right _ (List.mem_of_getElem? (i := 1162) (by decide +kernel)), rfl⟩, List.mem_append_right _ (List.mem_of_getElem? (i := 12) (by decide +kernel)), by decide +kernel, by decide⟩
theorem fc_X11_257 : jw_CV RX11 257 mX11_yearsRefused 11 1 := ⟨fb_mX11_yearsRefused, List.mem_append_right _ (List.mem_of_getElem? (i := 1159) (by decide +kernel)), List.mem_append_right _ (List.mem_of_getElem? (i := 1161) (by decide +kernel)), List.mem_append_left _ (List.mem_of_getElem? (i := 57) (by decide +kernel)), rfl, TX11, 43, rfl⟩
theorem fb_mX11_remember : jw_CB mX11_remember 0 := ⟨List.mem_filter.mpr ⟨List.mem_append_right _ (List.mem_of_getElem? (i := 1168) (by decide +kernel)), rfl⟩, List.mem_append_right _ (List.mem_of_getElem? (i := 12) (by decide +kernel)), by decide +kernel, by decide⟩
theorem fc_X11_260 : jw_CV RX11 260 mX11_remember 11 0 := ⟨fb_mX11_remember, List.mem_append_right _ (List.mem_of_getElem? (i := 1165) (by decide +kernel)), List.mem_append_right _ (List.mem_of_getElem? (i := 1167) (by decide +kernel)), List.mem_append_left _ (List.mem_of_getElem? (i := 58) (by decide +kernel)), rfl, TX11, 43, rfl⟩
theorem fb_mX11_pass : jw_CB mX11_pass 0 := ⟨List.mem_filter.mpr ⟨List.mem_append_right _ (List.mem_of_getElem? (i := 1172) (by decide +kernel)), rfl⟩, List.mem_append_right _ (List.mem_of_getElem? (i := 12) (by decide +kernel)), by decide +kernel, by decide⟩
theorem fc_X11_263 : jw_CV RX11 263 mX11_pass 11 0 := ⟨fb_mX11_pass, List.mem_append_right _ (List.mem_of_getElem? (i := 1169) (by decide +kernel)), List.mem_append_right _ (List.mem_of_getElem? (i := 1171) (by decide +kernel)), List.mem_append_left _ (List.mem_of_getElem? (i := 59) (by decide +kernel)), rfl, TX11, 43, rfl⟩
theorem fb_mX11_canStand : jw_CB mX11_canStand 2 := ⟨List.mem_filter.mpr ⟨List.mem_append_right _ (List.mem_of_getElem? (i := 1188) (by decide +kernel)), rfl⟩, List.mem_append_right _ (List.mem_of_getElem? (i := 12) (by decide +kernel)), by decide +kernel, by decide⟩
theorem fc_X11_266 : jw_CV RX11 266 mX11_canStand 11 2 := ⟨fb_mX11_canStand, List.mem_append_right _ (List.mem_of_getElem? (i := 1185) (by decide +kernel)), List.mem_append_right _ (List.mem_of_getElem? (i := 1187) (by decide +kernel)), List.mem_append_left _ (List.mem_of_getElem? (i := 62) (by decide +kernel)), rfl, TX11, 43, rfl⟩
theorem fb_mX11_draw : jw_CB mX11_draw 1 := ⟨List.mem_filter.mpr ⟨List.mem_append_right _ (List.mem_of_getElem? (i := 1216) (by decide +kernel)), rfl⟩, List.mem_append_right _ (List.mem_of_getElem? (i := 12) (by decide +kernel)), by decide +kernel, by decide⟩
theorem fc_X11_279 : jw_CV RX11 279 mX11_draw 11 1 := ⟨fb_mX11_draw, List.mem_append_right _ (List.mem_of_getElem? (i := 1213) (by decide +kernel)), List.mem_append_right _ (List.mem_of_getElem? (i := 1215) (by decide +kernel)), List.mem_append_left _ (List.mem_of_getElem? (i := 64) (by decide +kernel)), rfl, TX11, 43, rfl⟩
theorem fb_mX11_chance : jw_CB mX11_chance 0 := ⟨List.mem_filter.mpr ⟨List.mem_append_right _ (List.mem_of_getElem? (i := 1212) (by decide +kernel)), rfl⟩, List.mem_append_right _ (List.mem_of_getElem? (i := 12) (by decide +kernel)), by decide +kernel, by decide⟩
theorem fc_X11_282 : jw_CV RX11 282 mX11_chance 11 0 := ⟨fb_mX11_chance, List.mem_append_right _ (List.mem_of_getElem? (i := 1209) (by decide +kernel)), List.mem_append_right _ (List.mem_of_getElem? (i := 1211) (by decide +kernel)), List.mem_append_left _ (List.mem_of_getElem? (i := 63) (by decide +kernel)), rfl, TX11, 43, rfl⟩
theorem fb_mX11_bits : jw_CB mX11_bits 1 := ⟨List.mem_filter.mpr ⟨List.mem_append_right _ (List.mem_of_getElem? (i := 1239) (by decide +kernel)), rfl⟩, List.mem_append_right _ (List.mem_of_getElem? (i := 12) (by decide +kernel)), by decide +kernel, by decide⟩
theorem fc_X11_285 : jw_CS RX11 285 mX11_bits 1 := ⟨fb_mX11_bits, List.mem_append_right _ (List.mem_of_getElem? (i := 1237) (by decide +kernel)), List.mem_append_right _ (List.mem_of_getElem? (i := 1238) (by decide +kernel))⟩
theorem fb_mX11_factorial : jw_CB mX11_factorial 1 := ⟨List.mem_filter.mpr ⟨List.mem_append_right _ (List.mem_of_getElem? (i := 1246) (by decide +kernel)), rfl⟩, List.mem_append_right _ (List.mem_of_getElem? (i := 12) (by decide +kernel)), by decide +kernel, by decide⟩
theorem fc_X11_288 : jw_CS RX11 288 mX11_factorial 1 := ⟨fb_mX11_factorial, List.mem_append_right _ (List.mem_of_getElem? (i := 1244) (by decide +kernel)), List.mem_append_right _ (List.mem_of_getElem? (i := 1245) (by decide +kernel))⟩
theorem fb_mX11_withPlace : jw_CB mX11_withPlace 3 := ⟨List.mem_filter.mpr ⟨List.mem_append_right _ (List.mem_of_getElem? (i := 1263) (by decide +kernel)), rfl⟩, List.mem_append_right _ (List.mem_of_getElem? (i := 12) (by decide +kernel)), by decide +kernel, by decide⟩
theorem fc_X11_292 : jw_CV RX11 292 mX11_withPlace 11 3 := ⟨fb_mX11_withPlace, List.mem_append_right _ (List.mem_of_getElem? (i := 1260) (by decide +kernel)), List.mem_append_right _ (List.mem_of_getElem? (i := 1262) (by decide +kernel)), List.mem_append_left _ (List.mem_of_getElem? (i := 66) (by decide +kernel)), rfl, TX11, 43, rfl⟩
theorem fb_mX11_findPlaces : jw_CB mX11_findPlaces 0 := ⟨List.mem_filter.mpr ⟨List.mem_append_right _ (List.mem_of_getElem? (i := 1259) (by decide +kernel)), rfl⟩, List.mem_append_right _ (List.mem_of_getElem? (i := 12) (by decide +kernel)), by decide +kernel, by decide⟩
theorem fc_X11_298 : jw_CV RX11 298 mX11_findPlaces 11 0 := ⟨fb_mX11_findPlaces, List.mem_append_right _ (List.mem_of_getElem? (i := 1256) (by decide +kernel)), List.mem_append_right _ (List.mem_of_getElem? (i := 1258) (by decide +kernel)), List.mem_append_left _ (List.mem_of_getElem? (i := 65) (by decide +kernel)), rfl, TX11, 43, rfl⟩
theorem fb_mX11_placeOf : jw_CB mX11_placeOf 1 := ⟨List.mem_filter.mpr ⟨List.mem_append_right _ (List.mem_of_getElem? (i := 1268) (by decide +kernel)), rfl⟩, List.mem_append_right _ (List.mem_of_getElem? (i := 12) (by decide +kernel)), by decide +kernel, by decide⟩
theorem fc_X11_301 : jw_CV RX11 301 mX11_placeOf 11 1 := ⟨fb_mX11_placeOf, List.mem_append_right _ (List.mem_of_getElem? (i := 1265) (by decide +kernel)), List.mem_append_right _ (List.mem_of_getElem? (i := 1267) (by decide +kernel)), List.mem_append_left _ (List.mem_of_getElem? (i := 67) (by decide +kernel)), rfl, TX11, 43, rfl⟩
theorem fb_mX11_votesOn : jw_CB mX11_votesOn 2 := ⟨List.mem_filter.mpr ⟨List.mem_append_right _ (List.mem_of_getElem? (i := 1295) (by decide +kernel)), rfl⟩, List.mem_append_right _ (List.mem_of_getElem? (i := 12) (by decide +kernel)), by decide +kernel, by decide⟩
theorem fc_X11_310 : jw_CV RX11 310 mX11_votesOn 11 2 := ⟨fb_mX11_votesOn, List.mem_append_right _ (List.mem_of_getElem? (i := 1292) (by decide +kernel)), List.mem_append_right _ (List.mem_of_getElem? (i := 1294) (by decide +kernel)), List.mem_append_left _ (List.mem_of_getElem? (i := 69) (by decide +kernel)), rfl, TX11, 43, rfl⟩
theorem fb_mX11_couldBe : jw_CB mX11_couldBe 1 := ⟨List.mem_filter.mpr ⟨List.mem_append_right _ (List.mem_of_getElem? (i := 1291) (by decide +kernel)), rfl⟩, List.mem_append_right _ (List.mem_of_getElem? (i := 12) (by decide +kernel)), by decide +kernel, by decide⟩
theorem fc_X11_313 : jw_CV RX11 313 mX11_couldBe 11 1 := ⟨fb_mX11_couldBe, List.mem_append_right _ (List.mem_of_getElem? (i := 1288) (by decide +kernel)), List.mem_append_right _ (List.mem_of_getElem? (i := 1290) (by decide +kernel)), List.mem_append_left _ (List.mem_of_getElem? (i := 68) (by decide +kernel)), rfl, TX11, 43, rfl⟩
theorem fb_mX11_manyThat : jw_CB mX11_manyThat 0 := ⟨List.mem_filter.mpr ⟨List.mem_append_right _ (List.mem_of_getElem? (i := 1299) (by decide +kernel)), rfl⟩, List.mem_append_right _ (List.mem_of_getElem? (i := 12) (by decide +kernel)), by decide +kernel, by decide⟩
theorem fc_X11_316 : jw_CV RX11 316 mX11_manyThat 11 0 := ⟨fb_mX11_manyThat, List.mem_append_right _ (List.mem_of_getElem? (i := 1296) (by decide +kernel)), List.mem_append_right _ (List.mem_of_getElem? (i := 1298) (by decide +kernel)), List.mem_append_left _ (List.mem_of_getElem? (i := 70) (by decide +kernel)), rfl, TX11, 43, rfl⟩
theorem fb_mX11_greatestPart : jw_CB mX11_greatestPart 1 := ⟨List.mem_filter.mpr ⟨List.mem_append_right _ (List.mem_of_getElem? (i := 1307) (by decide +kernel)), rfl⟩, List.mem_append_right _ (List.mem_of_getElem? (i := 12) (by decide +kernel)), by decide +kernel, by decide⟩
theorem fc_X11_319 : jw_CV RX11 319 mX11_greatestPart 11 1 := ⟨fb_mX11_greatestPart, List.mem_append_right _ (List.mem_of_getElem? (i := 1304) (by decide +kernel)), List.mem_append_right _ (List.mem_of_getElem? (i := 1306) (by decide +kernel)), List.mem_append_left _ (List.mem_of_getElem? (i := 71) (by decide +kernel)), rfl, TX11, 43, rfl⟩
