def mX0_init : gMd := (yX0_init, cX0_init, 1, none, 0)
def mX0_weigh : gMd := (yX0_weigh, cX0_weigh, 7, none, 2)
def mX0_sumAhead : gMd := (yX0_sumAhead, cX0_sumAhead, 2, (some .long), 0)
def mX0_isOddOfAKind : gMd := (yX0_isOddOfAKind, cX0_isOddOfAKind, 1, (some .boolean), 1)
def mX0_isOverHalf : gMd := (yX0_isOverHalf, cX0_isOverHalf, 3, (some .boolean), 0)
def mX0_keepCut : gMd := (yX0_keepCut, cX0_keepCut, 3, none, 0)
def mX0_foundCut : gMd := (yX0_foundCut, cX0_foundCut, 2, (some .int), 0)
def mX0_fewestByCuts : gMd := (yX0_fewestByCuts, cX0_fewestByCuts, 3, (some .int), 10)
def mX0_withRun : gMd := (yX0_withRun, cX0_withRun, 6, (some .long), 1)
def mX0_dividesWith (d : Nat) : gMd := (yX0_dividesWith, cX0_dividesWith, 9, (some .boolean), 2 + d)
def mX0_fewestByOwners : gMd := (yX0_fewestByOwners, cX0_fewestByOwners, 9, (some .int), 2)
def mX0_leastGapWithin : gMd := (yX0_leastGapWithin, cX0_leastGapWithin, 2, (some .int), 10)
def mX0_leastFrom (d : Nat) : gMd := (yX0_leastFrom, cX0_leastFrom, 8, (some .int), 2 + d)
def mX0_gapOf : gMd := (yX0_gapOf, cX0_gapOf, 9, (some .int), 1)
def mX1_init : gMd := (yX1_init, cX1_init, 2, none, 1)
def mX1_forgetAll : gMd := (yX1_forgetAll, cX1_forgetAll, 1, none, 0)
def mX1_remember : gMd := (yX1_remember, cX1_remember, 3, none, 2)
def mX1_takeBack : gMd := (yX1_takeBack, cX1_takeBack, 3, none, 2)
def mX2_init : gMd := (yX2_init, cX2_init, 1, none, 0)
def mX2_becomeNew : gMd := (yX2_becomeNew, cX2_becomeNew, 1, none, 2)
def mX2_becomeLike : gMd := (yX2_becomeLike, cX2_becomeLike, 3, none, 1)
def mX2_kindOf : gMd := (yX2_kindOf, cX2_kindOf, 2, (some .int), 0)
def mX2_weightOf : gMd := (yX2_weightOf, cX2_weightOf, 2, (some .int), 0)
def mX2_ownerAt : gMd := (yX2_ownerAt, cX2_ownerAt, 2, (some .int), 0)
def mX2_putJewel : gMd := (yX2_putJewel, cX2_putJewel, 4, none, 0)
def mX2_putOwner : gMd := (yX2_putOwner, cX2_putOwner, 3, none, 0)
def mX2_hasJewel : gMd := (yX2_hasJewel, cX2_hasJewel, 2, (some .boolean), 0)
def mX2_hasPlace : gMd := (yX2_hasPlace, cX2_hasPlace, 2, (some .boolean), 0)
def mX2_canBeCutAt : gMd := (yX2_canBeCutAt, cX2_canBeCutAt, 2, (some .boolean), 0)
def mX2_hasRun : gMd := (yX2_hasRun, cX2_hasRun, 2, (some .boolean), 2)
def mX2_valueOf : gMd := (yX2_valueOf, cX2_valueOf, 2, (some .int), 1)
def mX2_jewelAt : gMd := (yX2_jewelAt, cX2_jewelAt, 3, (some .int), 0)
def mX2_placeWith : gMd := (yX2_placeWith, cX2_placeWith, 3, (some .int), 0)
def mX2_isCut : gMd := (yX2_isCut, cX2_isCut, 2, (some .boolean), 0)
def mX2_cutCount : gMd := (yX2_cutCount, cX2_cutCount, 1, (some .int), 1)
def mX2_runs : gMd := (yX2_runs, cX2_runs, 1, (some .int), 1)
def mX2_runAt : gMd := (yX2_runAt, cX2_runAt, 2, (some .int), 1)
def mX2_firstPlaceOf : gMd := (yX2_firstPlaceOf, cX2_firstPlaceOf, 3, (some .int), 2)
def mX2_placesOf : gMd := (yX2_placesOf, cX2_placesOf, 4, (some .int), 2)
def mX2_valueOfRun : gMd := (yX2_valueOfRun, cX2_valueOfRun, 4, (some .int), 2)
def mX2_placesOfNobody : gMd := (yX2_placesOfNobody, cX2_placesOfNobody, 3, (some .int), 1)
def mX2_holding : gMd := (yX2_holding, cX2_holding, 6, (some .int), 2)
def mX2_gap : gMd := (yX2_gap, cX2_gap, 3, (some .int), 3)
def mX2_isFair : gMd := (yX2_isFair, cX2_isFair, 1, (some .boolean), 4)
def mX2_reasonAgainstTaking : gMd := (yX2_reasonAgainstTaking, cX2_reasonAgainstTaking, 3, (some .int), 3)
def mX2_loosen : gMd := (yX2_loosen, cX2_loosen, 2, none, 1)
def mX2_addJewel : gMd := (yX2_addJewel, cX2_addJewel, 3, (some .boolean), 2)
def mX2_swapJewels : gMd := (yX2_swapJewels, cX2_swapJewels, 5, (some .boolean), 1)
def mX2_breakAhead : gMd := (yX2_breakAhead, cX2_breakAhead, 2, (some .boolean), 2)
def mX2_reverseRing : gMd := (yX2_reverseRing, cX2_reverseRing, 2, none, 2)
def mX2_setCut : gMd := (yX2_setCut, cX2_setCut, 3, (some .boolean), 4)
def mX2_giveRun : gMd := (yX2_giveRun, cX2_giveRun, 4, (some .boolean), 3)
def mX2_takeRun : gMd := (yX2_takeRun, cX2_takeRun, 2, (some .boolean), 4)
def mX2_dealRuns : gMd := (yX2_dealRuns, cX2_dealRuns, 3, (some .boolean), 2)
def mX2_chooseSetting : gMd := (yX2_chooseSetting, cX2_chooseSetting, 2, (some .boolean), 1)
def mX3_groupsAbove : gMd := (yX3_groupsAbove, cX3_groupsAbove, 6, (some .long), 0)
def mX3_succeeds : gMd := (yX3_succeeds, cX3_succeeds, 6, (some .boolean), 12)
def mX3_isDividedWithin : gMd := (yX3_isDividedWithin, cX3_isDividedWithin, 3, (some .boolean), 11)
def mX4_play : gMd := (yX4_play, cX4_play, 7, none, 6)
def mX4_turn : gMd := (yX4_turn, cX4_turn, 4, none, 5)
def mX4_moveJewels : gMd := (yX4_moveJewels, cX4_moveJewels, 2, none, 3)
def mX5_init : gMd := (yX5_init, cX5_init, 1, none, 1)
def mX6_init : gMd := (yX6_init, cX6_init, 1, none, 0)
def mX6_add : gMd := (yX6_add, cX6_add, 2, none, 0)
def mX6_signAt : gMd := (yX6_signAt, cX6_signAt, 2, (some .char), 0)
def mX6_digitAt : gMd := (yX6_digitAt, cX6_digitAt, 2, (some .int), 1)
def mX6_numberAt : gMd := (yX6_numberAt, cX6_numberAt, 2, (some .int), 2)
def mX6_formOf : gMd := (yX6_formOf, cX6_formOf, 1, (some (.object "java/lang/String")), 0)
def mX6_fits : gMd := (yX6_fits, cX6_fits, 3, (some .boolean), 0)
def mX6_firstError : gMd := (yX6_firstError, cX6_firstError, 4, (some .int), 5)
def mX6_performOn : gMd := (yX6_performOn, cX6_performOn, 5, (some .int), 6)
def mX6_performs : gMd := (yX6_performs, cX6_performs, 3, (some .boolean), 5)
def mX7_init : gMd := (yX7_init, cX7_init, 1, none, 2)
def mX7_append : gMd := (yX7_append, cX7_append, 2, (some .int), 1)
def mX7_clearText : gMd := (yX7_clearText, cX7_clearText, 2, (some .int), 0)
def mX7_errorPosition : gMd := (yX7_errorPosition, cX7_errorPosition, 1, (some .int), 6)
def mX7_load : gMd := (yX7_load, cX7_load, 1, (some .int), 7)
def mX7_about : gMd := (yX7_about, cX7_about, 2, (some .int), 5)
def mX7_jewelOf : gMd := (yX7_jewelOf, cX7_jewelOf, 3, (some .int), 1)
def mX7_placeOf : gMd := (yX7_placeOf, cX7_placeOf, 3, (some .int), 2)
def mX7_runOf : gMd := (yX7_runOf, cX7_runOf, 3, (some .int), 3)
def mX7_has : gMd := (yX7_has, cX7_has, 3, (some .int), 3)
def mX7_jewel : gMd := (yX7_jewel, cX7_jewel, 3, (some .int), 3)
def mX7_exchange : gMd := (yX7_exchange, cX7_exchange, 3, (some .int), 4)
def mX7_breakAt : gMd := (yX7_breakAt, cX7_breakAt, 3, (some .int), 3)
def mX7_turnRound : gMd := (yX7_turnRound, cX7_turnRound, 1, (some .int), 3)
def mX7_cut : gMd := (yX7_cut, cX7_cut, 3, (some .int), 5)
def mX7_give : gMd := (yX7_give, cX7_give, 3, (some .int), 4)
def mX7_take : gMd := (yX7_take, cX7_take, 3, (some .int), 5)
def mX7_deal : gMd := (yX7_deal, cX7_deal, 2, (some .int), 4)
def mX7_divide : gMd := (yX7_divide, cX7_divide, 3, (some .int), 12)
def mX7_set : gMd := (yX7_set, cX7_set, 3, (some .int), 3)
def mX7_undo : gMd := (yX7_undo, cX7_undo, 1, (some .int), 3)
def mX7_fewest : gMd := (yX7_fewest, cX7_fewest, 2, (some .int), 12)
def mX7_divided : gMd := (yX7_divided, cX7_divided, 2, (some .int), 12)
def mX7_leastGap : gMd := (yX7_leastGap, cX7_leastGap, 2, (some .int), 11)
def mX7_bestBreak : gMd := (yX7_bestBreak, cX7_bestBreak, 5, (some .int), 11)
def mX7_bestRun : gMd := (yX7_bestRun, cX7_bestRun, 5, (some .int), 5)
def mX7_ifGiven : gMd := (yX7_ifGiven, cX7_ifGiven, 3, (some .int), 5)
def mX7_runScript : gMd := (yX7_runScript, cX7_runScript, 6, (some .int), 13)
def mX7_simulate : gMd := (yX7_simulate, cX7_simulate, 4, (some .int), 7)
def mX7_save : gMd := (yX7_save, cX7_save, 3, (some .int), 2)
def mX7_restore : gMd := (yX7_restore, cX7_restore, 3, (some .int), 2)
def mX7_fewestCuts : gMd := (yX7_fewestCuts, cX7_fewestCuts, 1, (some .int), 11)
def mX7_gapWith : gMd := (yX7_gapWith, cX7_gapWith, 3, (some .int), 4)
def mX7_isSister : gMd := (yX7_isSister, cX7_isSister, 1, (some .boolean), 0)
def mX7_isOwner : gMd := (yX7_isOwner, cX7_isOwner, 1, (some .boolean), 1)
def mX7_isKind : gMd := (yX7_isKind, cX7_isKind, 1, (some .boolean), 0)
def mX7_isWeight : gMd := (yX7_isWeight, cX7_isWeight, 1, (some .boolean), 0)
def mX7_isSetting : gMd := (yX7_isSetting, cX7_isSetting, 1, (some .boolean), 0)
def mX7_ownerFor : gMd := (yX7_ownerFor, cX7_ownerFor, 1, (some .int), 0)
def mX8_init : gMd := (yX8_init, cX8_init, 1, none, 2)
def mX8_thrown : gMd := (yX8_thrown, cX8_thrown, 1, (some .int), 0)
def mX8_refused : gMd := (yX8_refused, cX8_refused, 2, (some .boolean), 0)
def mX8_in : gMd := (yX8_in, cX8_in, 6, (some .boolean), 0)
def mX8_copyState : gMd := (yX8_copyState, cX8_copyState, 5, none, 0)
def mX8_clear : gMd := (yX8_clear, cX8_clear, 2, none, 1)
def mX8_free : gMd := (yX8_free, cX8_free, 2, none, 0)
def mX8_isJewel : gMd := (yX8_isJewel, cX8_isJewel, 2, (some .boolean), 1)
def mX8_isCutPlace : gMd := (yX8_isCutPlace, cX8_isCutPlace, 2, (some .boolean), 1)
def mX8_isOwner : gMd := (yX8_isOwner, cX8_isOwner, 1, (some .boolean), 1)
def mX8_jewelAt : gMd := (yX8_jewelAt, cX8_jewelAt, 2, (some .int), 0)
def mX8_placeOn : gMd := (yX8_placeOn, cX8_placeOn, 2, (some .int), 0)
def mX8_valueOf : gMd := (yX8_valueOf, cX8_valueOf, 2, (some .int), 0)
def mX8_isCut : gMd := (yX8_isCut, cX8_isCut, 2, (some .boolean), 0)
def mX8_bits : gMd := (yX8_bits, cX8_bits, 3, (some .int), 0)
def mX8_runs : gMd := (yX8_runs, cX8_runs, 1, (some .int), 1)
def mX8_isRun : gMd := (yX8_isRun, cX8_isRun, 2, (some .boolean), 2)
def mX8_runAt : gMd := (yX8_runAt, cX8_runAt, 4, (some .int), 1)
def mX8_firstOf : gMd := (yX8_firstOf, cX8_firstOf, 3, (some .int), 2)
def mX8_placesOf : gMd := (yX8_placesOf, cX8_placesOf, 4, (some .int), 2)
def mX8_hasOf : gMd := (yX8_hasOf, cX8_hasOf, 6, (some .int), 1)
def mX8_gap : gMd := (yX8_gap, cX8_gap, 4, (some .int), 2)
def mX8_nobodys : gMd := (yX8_nobodys, cX8_nobodys, 3, (some .int), 0)
def mX8_layOut : gMd := (yX8_layOut, cX8_layOut, 5, none, 1)
def mX8_gapTried : gMd := (yX8_gapTried, cX8_gapTried, 10, (some .int), 0)
def mX8_firstWay : gMd := (yX8_firstWay, cX8_firstWay, 4, (some .boolean), 0)
def mX8_nextWay : gMd := (yX8_nextWay, cX8_nextWay, 5, (some .boolean), 0)
def mX8_leastWith : gMd := (yX8_leastWith, cX8_leastWith, 6, (some .int), 1)
def mX8_fewestOf : gMd := (yX8_fewestOf, cX8_fewestOf, 3, (some .int), 2)
def mX8_jewelOn : gMd := (yX8_jewelOn, cX8_jewelOn, 4, (some .int), 1)
def mX8_exchangeOn : gMd := (yX8_exchangeOn, cX8_exchangeOn, 5, (some .int), 3)
def mX8_breakOn : gMd := (yX8_breakOn, cX8_breakOn, 3, (some .int), 1)
def mX8_roundOn : gMd := (yX8_roundOn, cX8_roundOn, 2, (some .int), 4)
def mX8_cutOn : gMd := (yX8_cutOn, cX8_cutOn, 6, (some .int), 2)
def mX8_giveOn : gMd := (yX8_giveOn, cX8_giveOn, 4, (some .int), 3)
def mX8_whyNot : gMd := (yX8_whyNot, cX8_whyNot, 3, (some .int), 3)
def mX8_takeOn : gMd := (yX8_takeOn, cX8_takeOn, 3, (some .int), 4)
def mX8_dealOn : gMd := (yX8_dealOn, cX8_dealOn, 3, (some .int), 3)
def mX8_append : gMd := (yX8_append, cX8_append, 2, (some .int), 1)
def mX8_clearText : gMd := (yX8_clearText, cX8_clearText, 2, (some .int), 0)
def mX8_figures : gMd := (yX8_figures, cX8_figures, 9, (some .int), 1)
def mX8_done : gMd := (yX8_done, cX8_done, 2, (some .boolean), 0)
def mX8_readJewel : gMd := (yX8_readJewel, cX8_readJewel, 4, (some .boolean), 2)
def mX8_readCommand : gMd := (yX8_readCommand, cX8_readCommand, 5, (some .boolean), 5)
def mX8_readText : gMd := (yX8_readText, cX8_readText, 2, (some .int), 6)
def mX8_errorPosition : gMd := (yX8_errorPosition, cX8_errorPosition, 1, (some .int), 7)
def mX8_load : gMd := (yX8_load, cX8_load, 1, (some .int), 7)
def mX8_about : gMd := (yX8_about, cX8_about, 2, (some .int), 3)
def mX8_jewelOf : gMd := (yX8_jewelOf, cX8_jewelOf, 3, (some .int), 2)
def mX8_placeOf : gMd := (yX8_placeOf, cX8_placeOf, 3, (some .int), 2)
def mX8_runOf : gMd := (yX8_runOf, cX8_runOf, 7, (some .int), 3)
def mX8_has : gMd := (yX8_has, cX8_has, 3, (some .int), 2)
def mX8_remember : gMd := (yX8_remember, cX8_remember, 2, none, 1)
def mX8_jewel : gMd := (yX8_jewel, cX8_jewel, 3, (some .int), 2)
def mX8_exchange : gMd := (yX8_exchange, cX8_exchange, 3, (some .int), 4)
def mX8_breakAt : gMd := (yX8_breakAt, cX8_breakAt, 2, (some .int), 2)
def mX8_turnRound : gMd := (yX8_turnRound, cX8_turnRound, 1, (some .int), 5)
def mX8_cut : gMd := (yX8_cut, cX8_cut, 3, (some .int), 3)
def mX8_give : gMd := (yX8_give, cX8_give, 3, (some .int), 4)
def mX8_take : gMd := (yX8_take, cX8_take, 2, (some .int), 5)
def mX8_deal : gMd := (yX8_deal, cX8_deal, 2, (some .int), 4)
def mX8_divide : gMd := (yX8_divide, cX8_divide, 3, (some .int), 4)
def mX8_set : gMd := (yX8_set, cX8_set, 3, (some .int), 2)
def mX8_undo : gMd := (yX8_undo, cX8_undo, 1, (some .int), 1)
def mX8_fewest : gMd := (yX8_fewest, cX8_fewest, 2, (some .int), 3)
def mX8_divided : gMd := (yX8_divided, cX8_divided, 3, (some .int), 3)
def mX8_leastGap : gMd := (yX8_leastGap, cX8_leastGap, 5, (some .int), 2)
def mX8_bestBreak : gMd := (yX8_bestBreak, cX8_bestBreak, 6, (some .int), 3)
def mX8_gapWith : gMd := (yX8_gapWith, cX8_gapWith, 3, (some .int), 4)
def mX8_bestRun : gMd := (yX8_bestRun, cX8_bestRun, 6, (some .int), 5)
def mX8_ifGiven : gMd := (yX8_ifGiven, cX8_ifGiven, 3, (some .int), 5)
def mX8_command : gMd := (yX8_command, cX8_command, 7, (some .boolean), 5)
def mX8_isDivided : gMd := (yX8_isDivided, cX8_isDivided, 3, (some .boolean), 3)
def mX8_runScript : gMd := (yX8_runScript, cX8_runScript, 8, (some .int), 6)
def mX8_turnRing : gMd := (yX8_turnRing, cX8_turnRing, 3, none, 5)
def mX8_turnRuns : gMd := (yX8_turnRuns, cX8_turnRuns, 3, none, 5)
def mX8_simulate : gMd := (yX8_simulate, cX8_simulate, 8, (some .int), 6)
def mX8_save : gMd := (yX8_save, cX8_save, 2, (some .int), 1)
def mX8_restore : gMd := (yX8_restore, cX8_restore, 2, (some .int), 1)
def mJ6_numberOfTrailingZeros_0f7a4 : gMd := (yJ6_numberOfTrailingZeros_0f7a4, cJ6_numberOfTrailingZeros_0f7a4, 2, (some .int), 0)
def mJ6_bitCount_0f7a4 : gMd := (yJ6_bitCount_0f7a4, cJ6_bitCount_0f7a4, 1, (some .int), 0)
def mJ9_abs_0f7a4 : gMd := (yJ9_abs_0f7a4, cJ9_abs_0f7a4, 1, (some .int), 0)
def mJ9_min_7cf53 : gMd := (yJ9_min_7cf53, cJ9_min_7cf53, 2, (some .int), 0)
def mJ0_length_8abf5 : gMd := (yJ0_length_8abf5, cJ0_length_8abf5, 1, (some .int), 1)
def mJ0_charAt_5068e : gMd := (yJ0_charAt_5068e, cJ0_charAt_5068e, 2, (some .char), 4)
def mJ0_coder_7d493 : gMd := (yJ0_coder_7d493, cJ0_coder_7d493, 1, (some .byte), 0)
def mJ0_isLatin1_aae02 : gMd := (yJ0_isLatin1_aae02, cJ0_isLatin1_aae02, 1, (some .boolean), 0)
def mJ0_checkIndex_df160 : gMd := (yJ0_checkIndex_df160, cJ0_checkIndex_df160, 2, none, 1)
def mJ1_charAt_3b067 : gMd := (yJ1_charAt_3b067, cJ1_charAt_3b067, 2, (some .char), 2)
def mJ2_getChar_3b067 : gMd := (yJ2_getChar_3b067, cJ2_getChar_3b067, 2, (some .char), 1)
def mJ2_length_9d52b : gMd := (yJ2_length_9d52b, cJ2_length_9d52b, 1, (some .int), 0)
def mJ2_charAt_3b067 : gMd := (yJ2_charAt_3b067, cJ2_charAt_3b067, 2, (some .char), 3)
def mJ2_checkIndex_2214a : gMd := (yJ2_checkIndex_2214a, cJ2_checkIndex_2214a, 2, none, 2)
def mJ3_checkIndex_8e157 : gMd := (yJ3_checkIndex_8e157, cJ3_checkIndex_8e157, 3, (some .int), 0)
theorem eX0_weigh : gEV (mX0_weigh) RX0 2 := ⟨rfl, w331, w329, w330, w36, ⟨by decide, by decide, by decide +kernel⟩, by decide⟩
theorem eX0_sumAhead : gEV (mX0_sumAhead) RX0 1 := ⟨rfl, w348, w347, w4, w36, ⟨by decide, by decide, by decide +kernel⟩, by decide⟩
theorem eX0_isOddOfAKind : gEV (mX0_isOddOfAKind) RX0 0 := ⟨rfl, w344, w343, w3, w36, ⟨by decide, by decide, by decide +kernel⟩, by decide⟩
theorem eX0_isOverHalf : gEV (mX0_isOverHalf) RX0 1 := ⟨rfl, w360, w359, w6, w36, ⟨by decide, by decide, by decide +kernel⟩, by decide⟩
theorem eX0_keepCut : gEV (mX0_keepCut) RX0 2 := ⟨rfl, w365, w364, w7, w36, ⟨by decide, by decide, by decide +kernel⟩, by decide⟩
theorem eX0_foundCut : gEV (mX0_foundCut) RX0 1 := ⟨rfl, w783, w781, w782, w36, ⟨by decide, by decide, by decide +kernel⟩, by decide⟩
theorem eX0_fewestByCuts : gEV (mX0_fewestByCuts) RX0 1 := ⟨rfl, w340, w338, w339, w36, ⟨by decide, by decide, by decide +kernel⟩, by decide⟩
theorem eX0_withRun : gEV (mX0_withRun) RX0 4 := ⟨rfl, w356, w355, w5, w36, ⟨by decide, by decide, by decide +kernel⟩, by decide⟩
theorem eX0_dividesWith (d : Nat) : gES (mX0_dividesWith d) 5 := ⟨w352, w351, w36, ⟨(by decide : yX0_dividesWith.cls ≠ _), (by decide : yX0_dividesWith.cls ≠ _), (by decide +kernel : (parseMethodDescriptor yX0_dividesWith.desc).map (fun d => d.parameters.length) = some 5)⟩, (by decide : 9 + 19 ≤ 40)⟩
theorem eX0_fewestByOwners : gEV (mX0_fewestByOwners) RX0 0 := ⟨rfl, w817, w815, w816, w36, ⟨by decide, by decide, by decide +kernel⟩, by decide⟩
theorem eX0_leastGapWithin : gEV (mX0_leastGapWithin) RX0 1 := ⟨rfl, w843, w841, w842, w36, ⟨by decide, by decide, by decide +kernel⟩, by decide⟩
theorem eX0_leastFrom (d : Nat) : gES (mX0_leastFrom d) 5 := ⟨w846, w845, w36, ⟨(by decide : yX0_leastFrom.cls ≠ _), (by decide : yX0_leastFrom.cls ≠ _), (by decide +kernel : (parseMethodDescriptor yX0_leastFrom.desc).map (fun d => d.parameters.length) = some 5)⟩, (by decide : 8 + 19 ≤ 40)⟩
theorem eX0_gapOf : gEV (mX0_gapOf) RX0 1 := ⟨rfl, w850, w849, w14, w36, ⟨by decide, by decide, by decide +kernel⟩, by decide⟩
theorem eX1_forgetAll : gEV (mX1_forgetAll) RX1 0 := ⟨rfl, w539, w537, w538, w35, ⟨by decide, by decide, by decide +kernel⟩, by decide⟩
theorem eX1_remember : gEV (mX1_remember) RX1 1 := ⟨rfl, w280, w278, w279, w35, ⟨by decide, by decide, by decide +kernel⟩, by decide⟩
theorem eX1_takeBack : gEV (mX1_takeBack) RX1 1 := ⟨rfl, w805, w803, w804, w35, ⟨by decide, by decide, by decide +kernel⟩, by decide⟩
theorem eX2_becomeNew : gEV (mX2_becomeNew) RX2 0 := ⟨rfl, w535, w533, w534, w34, ⟨by decide, by decide, by decide +kernel⟩, by decide⟩
theorem eX2_becomeLike : gEV (mX2_becomeLike) RX2 1 := ⟨rfl, w284, w282, w283, w34, ⟨by decide, by decide, by decide +kernel⟩, by decide⟩
theorem eX2_kindOf : gEV (mX2_kindOf) RX2 1 := ⟨rfl, w288, w286, w287, w34, ⟨by decide, by decide, by decide +kernel⟩, by decide⟩
theorem eX2_weightOf : gEV (mX2_weightOf) RX2 1 := ⟨rfl, w292, w290, w291, w34, ⟨by decide, by decide, by decide +kernel⟩, by decide⟩
theorem eX2_ownerAt : gEV (mX2_ownerAt) RX2 1 := ⟨rfl, w300, w298, w299, w34, ⟨by decide, by decide, by decide +kernel⟩, by decide⟩
theorem eX2_putJewel : gEV (mX2_putJewel) RX2 3 := ⟨rfl, w296, w295, w1, w34, ⟨by decide, by decide, by decide +kernel⟩, by decide⟩
theorem eX2_putOwner : gEV (mX2_putOwner) RX2 2 := ⟨rfl, w304, w303, w2, w34, ⟨by decide, by decide, by decide +kernel⟩, by decide⟩
theorem eX2_hasJewel : gEV (mX2_hasJewel) RX2 1 := ⟨rfl, w319, w317, w318, w34, ⟨by decide, by decide, by decide +kernel⟩, by decide⟩
theorem eX2_hasPlace : gEV (mX2_hasPlace) RX2 1 := ⟨rfl, w669, w667, w668, w34, ⟨by decide, by decide, by decide +kernel⟩, by decide⟩
theorem eX2_canBeCutAt : gEV (mX2_canBeCutAt) RX2 1 := ⟨rfl, w577, w575, w576, w34, ⟨by decide, by decide, by decide +kernel⟩, by decide⟩
theorem eX2_hasRun : gEV (mX2_hasRun) RX2 1 := ⟨rfl, w404, w402, w403, w34, ⟨by decide, by decide, by decide +kernel⟩, by decide⟩
theorem eX2_valueOf : gEV (mX2_valueOf) RX2 1 := ⟨rfl, w335, w333, w334, w34, ⟨by decide, by decide, by decide +kernel⟩, by decide⟩
theorem eX2_jewelAt : gEV (mX2_jewelAt) RX2 1 := ⟨rfl, w423, w421, w422, w34, ⟨by decide, by decide, by decide +kernel⟩, by decide⟩
theorem eX2_placeWith : gEV (mX2_placeWith) RX2 1 := ⟨rfl, w657, w655, w656, w34, ⟨by decide, by decide, by decide +kernel⟩, by decide⟩
theorem eX2_isCut : gEV (mX2_isCut) RX2 1 := ⟨rfl, w581, w579, w580, w34, ⟨by decide, by decide, by decide +kernel⟩, by decide⟩
theorem eX2_cutCount : gEV (mX2_cutCount) RX2 0 := ⟨rfl, w615, w613, w614, w34, ⟨by decide, by decide, by decide +kernel⟩, by decide⟩
theorem eX2_runs : gEV (mX2_runs) RX2 0 := ⟨rfl, w373, w371, w372, w34, ⟨by decide, by decide, by decide +kernel⟩, by decide⟩
theorem eX2_runAt : gEV (mX2_runAt) RX2 1 := ⟨rfl, w391, w389, w390, w34, ⟨by decide, by decide, by decide +kernel⟩, by decide⟩
theorem eX2_firstPlaceOf : gEV (mX2_firstPlaceOf) RX2 1 := ⟨rfl, w387, w385, w386, w34, ⟨by decide, by decide, by decide +kernel⟩, by decide⟩
theorem eX2_placesOf : gEV (mX2_placesOf) RX2 1 := ⟨rfl, w689, w687, w688, w34, ⟨by decide, by decide, by decide +kernel⟩, by decide⟩
theorem eX2_valueOfRun : gEV (mX2_valueOfRun) RX2 1 := ⟨rfl, w693, w691, w692, w34, ⟨by decide, by decide, by decide +kernel⟩, by decide⟩
theorem eX2_placesOfNobody : gEV (mX2_placesOfNobody) RX2 0 := ⟨rfl, w623, w621, w622, w34, ⟨by decide, by decide, by decide +kernel⟩, by decide⟩
theorem eX2_holding : gEV (mX2_holding) RX2 2 := ⟨rfl, w419, w417, w418, w34, ⟨by decide, by decide, by decide +kernel⟩, by decide⟩
theorem eX2_gap : gEV (mX2_gap) RX2 0 := ⟨rfl, w415, w413, w414, w34, ⟨by decide, by decide, by decide +kernel⟩, by decide⟩
theorem eX2_isFair : gEV (mX2_isFair) RX2 0 := ⟨rfl, w619, w617, w618, w34, ⟨by decide, by decide, by decide +kernel⟩, by decide⟩
theorem eX2_reasonAgainstTaking : gEV (mX2_reasonAgainstTaking) RX2 1 := ⟨rfl, w383, w381, w382, w34, ⟨by decide, by decide, by decide +kernel⟩, by decide⟩
theorem eX2_loosen : gEV (mX2_loosen) RX2 0 := ⟨rfl, w323, w321, w322, w34, ⟨by decide, by decide, by decide +kernel⟩, by decide⟩
theorem eX2_addJewel : gEV (mX2_addJewel) RX2 2 := ⟨rfl, w555, w553, w554, w34, ⟨by decide, by decide, by decide +kernel⟩, by decide⟩
theorem eX2_swapJewels : gEV (mX2_swapJewels) RX2 2 := ⟨rfl, w315, w313, w314, w34, ⟨by decide, by decide, by decide +kernel⟩, by decide⟩
theorem eX2_breakAhead : gEV (mX2_breakAhead) RX2 1 := ⟨rfl, w569, w567, w568, w34, ⟨by decide, by decide, by decide +kernel⟩, by decide⟩
theorem eX2_reverseRing : gEV (mX2_reverseRing) RX2 0 := ⟨rfl, w311, w309, w310, w34, ⟨by decide, by decide, by decide +kernel⟩, by decide⟩
theorem eX2_setCut : gEV (mX2_setCut) RX2 2 := ⟨rfl, w573, w571, w572, w34, ⟨by decide, by decide, by decide +kernel⟩, by decide⟩
theorem eX2_giveRun : gEV (mX2_giveRun) RX2 2 := ⟨rfl, w400, w398, w399, w34, ⟨by decide, by decide, by decide +kernel⟩, by decide⟩
theorem eX2_takeRun : gEV (mX2_takeRun) RX2 1 := ⟨rfl, w590, w588, w589, w34, ⟨by decide, by decide, by decide +kernel⟩, by decide⟩
theorem eX2_dealRuns : gEV (mX2_dealRuns) RX2 1 := ⟨rfl, w595, w593, w594, w34, ⟨by decide, by decide, by decide +kernel⟩, by decide⟩
theorem eX2_chooseSetting : gEV (mX2_chooseSetting) RX2 1 := ⟨rfl, w600, w598, w599, w34, ⟨by decide, by decide, by decide +kernel⟩, by decide⟩
theorem eX3_groupsAbove : gES (mX3_groupsAbove) 2 := ⟨w870, w869, w51, ⟨(by decide : yX3_groupsAbove.cls ≠ _), (by decide : yX3_groupsAbove.cls ≠ _), (by decide +kernel : (parseMethodDescriptor yX3_groupsAbove.desc).map (fun d => d.parameters.length) = some 2)⟩, (by decide : 6 + 19 ≤ 40)⟩
theorem eX3_succeeds : gES (mX3_succeeds) 3 := ⟨w876, w875, w51, ⟨(by decide : yX3_succeeds.cls ≠ _), (by decide : yX3_succeeds.cls ≠ _), (by decide +kernel : (parseMethodDescriptor yX3_succeeds.desc).map (fun d => d.parameters.length) = some 3)⟩, (by decide : 6 + 19 ≤ 40)⟩
theorem eX3_isDividedWithin : gES (mX3_isDividedWithin) 3 := ⟨w886, w885, w51, ⟨(by decide : yX3_isDividedWithin.cls ≠ _), (by decide : yX3_isDividedWithin.cls ≠ _), (by decide +kernel : (parseMethodDescriptor yX3_isDividedWithin.desc).map (fun d => d.parameters.length) = some 3)⟩, (by decide : 3 + 19 ≤ 40)⟩
theorem eX4_play : gES (mX4_play) 3 := ⟨w904, w903, w52, ⟨(by decide : yX4_play.cls ≠ _), (by decide : yX4_play.cls ≠ _), (by decide +kernel : (parseMethodDescriptor yX4_play.desc).map (fun d => d.parameters.length) = some 3)⟩, (by decide : 7 + 19 ≤ 40)⟩
theorem eX4_turn : gES (mX4_turn) 2 := ⟨w909, w908, w52, ⟨(by decide : yX4_turn.cls ≠ _), (by decide : yX4_turn.cls ≠ _), (by decide +kernel : (parseMethodDescriptor yX4_turn.desc).map (fun d => d.parameters.length) = some 2)⟩, (by decide : 4 + 19 ≤ 40)⟩
theorem eX4_moveJewels : gES (mX4_moveJewels) 2 := ⟨w917, w916, w52, ⟨(by decide : yX4_moveJewels.cls ≠ _), (by decide : yX4_moveJewels.cls ≠ _), (by decide +kernel : (parseMethodDescriptor yX4_moveJewels.desc).map (fun d => d.parameters.length) = some 2)⟩, (by decide : 2 + 19 ≤ 40)⟩
theorem eX6_add : gEV (mX6_add) RX6 1 := ⟨rfl, w523, w521, w522, w33, ⟨by decide, by decide, by decide +kernel⟩, by decide⟩
theorem eX6_signAt : gEV (mX6_signAt) RX6 1 := ⟨rfl, w211, w210, w0, w33, ⟨by decide, by decide, by decide +kernel⟩, by decide⟩
theorem eX6_digitAt : gEV (mX6_digitAt) RX6 1 := ⟨rfl, w551, w550, w11, w33, ⟨by decide, by decide, by decide +kernel⟩, by decide⟩
theorem eX6_numberAt : gEV (mX6_numberAt) RX6 1 := ⟨rfl, w565, w564, w12, w33, ⟨by decide, by decide, by decide +kernel⟩, by decide⟩
theorem eX6_formOf : gES (mX6_formOf) 1 := ⟨w225, w224, w33, ⟨(by decide : yX6_formOf.cls ≠ _), (by decide : yX6_formOf.cls ≠ _), (by decide +kernel : (parseMethodDescriptor yX6_formOf.desc).map (fun d => d.parameters.length) = some 1)⟩, (by decide : 1 + 19 ≤ 40)⟩
theorem eX6_fits : gES (mX6_fits) 3 := ⟨w271, w270, w33, ⟨(by decide : yX6_fits.cls ≠ _), (by decide : yX6_fits.cls ≠ _), (by decide +kernel : (parseMethodDescriptor yX6_fits.desc).map (fun d => d.parameters.length) = some 3)⟩, (by decide : 3 + 19 ≤ 40)⟩
theorem eX6_firstError : gEV (mX6_firstError) RX6 0 := ⟨rfl, w207, w205, w206, w33, ⟨by decide, by decide, by decide +kernel⟩, by decide⟩
theorem eX6_performOn : gEV (mX6_performOn) RX6 1 := ⟨rfl, w543, w541, w542, w33, ⟨by decide, by decide, by decide +kernel⟩, by decide⟩
theorem eX6_performs : gEV (mX6_performs) RX6 2 := ⟨rfl, w547, w546, w10, w33, ⟨by decide, by decide, by decide +kernel⟩, by decide⟩
theorem eX7_append : gEV (mX7_append) RX7 1 := ⟨rfl, w436, w434, w435, w32, ⟨by decide, by decide, by decide +kernel⟩, by decide⟩
theorem eX7_clearText : gEV (mX7_clearText) RX7 0 := ⟨rfl, w199, w197, w198, w32, ⟨by decide, by decide, by decide +kernel⟩, by decide⟩
theorem eX7_errorPosition : gEV (mX7_errorPosition) RX7 0 := ⟨rfl, w203, w201, w202, w32, ⟨by decide, by decide, by decide +kernel⟩, by decide⟩
theorem eX7_load : gEV (mX7_load) RX7 0 := ⟨rfl, w530, w528, w529, w32, ⟨by decide, by decide, by decide +kernel⟩, by decide⟩
theorem eX7_about : gEV (mX7_about) RX7 1 := ⟨rfl, w611, w609, w610, w32, ⟨by decide, by decide, by decide +kernel⟩, by decide⟩
theorem eX7_jewelOf : gEV (mX7_jewelOf) RX7 2 := ⟨rfl, w634, w632, w633, w32, ⟨by decide, by decide, by decide +kernel⟩, by decide⟩
theorem eX7_placeOf : gEV (mX7_placeOf) RX7 2 := ⟨rfl, w665, w663, w664, w32, ⟨by decide, by decide, by decide +kernel⟩, by decide⟩
theorem eX7_runOf : gEV (mX7_runOf) RX7 2 := ⟨rfl, w682, w680, w681, w32, ⟨by decide, by decide, by decide +kernel⟩, by decide⟩
theorem eX7_has : gEV (mX7_has) RX7 2 := ⟨rfl, w700, w698, w699, w32, ⟨by decide, by decide, by decide +kernel⟩, by decide⟩
theorem eX7_jewel : gEV (mX7_jewel) RX7 2 := ⟨rfl, w710, w708, w709, w32, ⟨by decide, by decide, by decide +kernel⟩, by decide⟩
theorem eX7_exchange : gEV (mX7_exchange) RX7 2 := ⟨rfl, w722, w720, w721, w32, ⟨by decide, by decide, by decide +kernel⟩, by decide⟩
theorem eX7_breakAt : gEV (mX7_breakAt) RX7 1 := ⟨rfl, w730, w728, w729, w32, ⟨by decide, by decide, by decide +kernel⟩, by decide⟩
theorem eX7_turnRound : gEV (mX7_turnRound) RX7 0 := ⟨rfl, w276, w274, w275, w32, ⟨by decide, by decide, by decide +kernel⟩, by decide⟩
theorem eX7_cut : gEV (mX7_cut) RX7 2 := ⟨rfl, w738, w736, w737, w32, ⟨by decide, by decide, by decide +kernel⟩, by decide⟩
theorem eX7_give : gEV (mX7_give) RX7 2 := ⟨rfl, w747, w745, w746, w32, ⟨by decide, by decide, by decide +kernel⟩, by decide⟩
theorem eX7_take : gEV (mX7_take) RX7 1 := ⟨rfl, w756, w754, w755, w32, ⟨by decide, by decide, by decide +kernel⟩, by decide⟩
theorem eX7_deal : gEV (mX7_deal) RX7 1 := ⟨rfl, w764, w762, w763, w32, ⟨by decide, by decide, by decide +kernel⟩, by decide⟩
theorem eX7_divide : gEV (mX7_divide) RX7 0 := ⟨rfl, w773, w771, w772, w32, ⟨by decide, by decide, by decide +kernel⟩, by decide⟩
theorem eX7_set : gEV (mX7_set) RX7 1 := ⟨rfl, w790, w788, w789, w32, ⟨by decide, by decide, by decide +kernel⟩, by decide⟩
theorem eX7_undo : gEV (mX7_undo) RX7 0 := ⟨rfl, w800, w798, w799, w32, ⟨by decide, by decide, by decide +kernel⟩, by decide⟩
theorem eX7_fewest : gEV (mX7_fewest) RX7 1 := ⟨rfl, w812, w810, w811, w32, ⟨by decide, by decide, by decide +kernel⟩, by decide⟩
theorem eX7_divided : gEV (mX7_divided) RX7 1 := ⟨rfl, w830, w828, w829, w32, ⟨by decide, by decide, by decide +kernel⟩, by decide⟩
theorem eX7_leastGap : gEV (mX7_leastGap) RX7 1 := ⟨rfl, w838, w836, w837, w32, ⟨by decide, by decide, by decide +kernel⟩, by decide⟩
theorem eX7_bestBreak : gEV (mX7_bestBreak) RX7 0 := ⟨rfl, w327, w325, w326, w32, ⟨by decide, by decide, by decide +kernel⟩, by decide⟩
theorem eX7_bestRun : gEV (mX7_bestRun) RX7 0 := ⟨rfl, w369, w367, w368, w32, ⟨by decide, by decide, by decide +kernel⟩, by decide⟩
theorem eX7_ifGiven : gEV (mX7_ifGiven) RX7 2 := ⟨rfl, w859, w857, w858, w32, ⟨by decide, by decide, by decide +kernel⟩, by decide⟩
theorem eX7_runScript : gEV (mX7_runScript) RX7 2 := ⟨rfl, w866, w864, w865, w32, ⟨by decide, by decide, by decide +kernel⟩, by decide⟩
theorem eX7_simulate : gEV (mX7_simulate) RX7 2 := ⟨rfl, w900, w898, w899, w32, ⟨by decide, by decide, by decide +kernel⟩, by decide⟩
theorem eX7_save : gEV (mX7_save) RX7 1 := ⟨rfl, w929, w927, w928, w32, ⟨by decide, by decide, by decide +kernel⟩, by decide⟩
theorem eX7_restore : gEV (mX7_restore) RX7 1 := ⟨rfl, w937, w935, w936, w32, ⟨by decide, by decide, by decide +kernel⟩, by decide⟩
theorem eX7_fewestCuts : gEV (mX7_fewestCuts) RX7 0 := ⟨rfl, w777, w776, w13, w32, ⟨by decide, by decide, by decide +kernel⟩, by decide⟩
theorem eX7_gapWith : gEV (mX7_gapWith) RX7 2 := ⟨rfl, w395, w394, w8, w32, ⟨by decide, by decide, by decide +kernel⟩, by decide⟩
theorem eX7_isSister : gES (mX7_isSister) 1 := ⟨w411, w410, w32, ⟨(by decide : yX7_isSister.cls ≠ _), (by decide : yX7_isSister.cls ≠ _), (by decide +kernel : (parseMethodDescriptor yX7_isSister.desc).map (fun d => d.parameters.length) = some 1)⟩, (by decide : 1 + 19 ≤ 40)⟩
theorem eX7_isOwner : gES (mX7_isOwner) 1 := ⟨w408, w407, w32, ⟨(by decide : yX7_isOwner.cls ≠ _), (by decide : yX7_isOwner.cls ≠ _), (by decide +kernel : (parseMethodDescriptor yX7_isOwner.desc).map (fun d => d.parameters.length) = some 1)⟩, (by decide : 1 + 19 ≤ 40)⟩
theorem eX7_isKind : gES (mX7_isKind) 1 := ⟨w558, w557, w32, ⟨(by decide : yX7_isKind.cls ≠ _), (by decide : yX7_isKind.cls ≠ _), (by decide +kernel : (parseMethodDescriptor yX7_isKind.desc).map (fun d => d.parameters.length) = some 1)⟩, (by decide : 1 + 19 ≤ 40)⟩
theorem eX7_isWeight : gES (mX7_isWeight) 1 := ⟨w561, w560, w32, ⟨(by decide : yX7_isWeight.cls ≠ _), (by decide : yX7_isWeight.cls ≠ _), (by decide +kernel : (parseMethodDescriptor yX7_isWeight.desc).map (fun d => d.parameters.length) = some 1)⟩, (by decide : 1 + 19 ≤ 40)⟩
theorem eX7_isSetting : gES (mX7_isSetting) 1 := ⟨w603, w602, w32, ⟨(by decide : yX7_isSetting.cls ≠ _), (by decide : yX7_isSetting.cls ≠ _), (by decide +kernel : (parseMethodDescriptor yX7_isSetting.desc).map (fun d => d.parameters.length) = some 1)⟩, (by decide : 1 + 19 ≤ 40)⟩
theorem eX7_ownerFor : gES (mX7_ownerFor) 1 := ⟨w585, w584, w32, ⟨(by decide : yX7_ownerFor.cls ≠ _), (by decide : yX7_ownerFor.cls ≠ _), (by decide +kernel : (parseMethodDescriptor yX7_ownerFor.desc).map (fun d => d.parameters.length) = some 1)⟩, (by decide : 1 + 19 ≤ 40)⟩
theorem eX8_thrown : gEV (mX8_thrown) RX8 0 := ⟨rfl, w995, w993, w994, w38, ⟨by decide, by decide, by decide +kernel⟩, by decide⟩
theorem eX8_refused : gEV (mX8_refused) RX8 1 := ⟨rfl, w1007, w1006, w15, w38, ⟨by decide, by decide, by decide +kernel⟩, by decide⟩
theorem eX8_in : gES (mX8_in) 3 := ⟨w1003, w1002, w38, ⟨(by decide : yX8_in.cls ≠ _), (by decide : yX8_in.cls ≠ _), (by decide +kernel : (parseMethodDescriptor yX8_in.desc).map (fun d => d.parameters.length) = some 3)⟩, (by decide : 6 + 19 ≤ 40)⟩
theorem eX8_copyState : gES (mX8_copyState) 4 := ⟨w1107, w1106, w38, ⟨(by decide : yX8_copyState.cls ≠ _), (by decide : yX8_copyState.cls ≠ _), (by decide +kernel : (parseMethodDescriptor yX8_copyState.desc).map (fun d => d.parameters.length) = some 4)⟩, (by decide : 5 + 19 ≤ 40)⟩
theorem eX8_clear : gES (mX8_clear) 1 := ⟨w947, w946, w38, ⟨(by decide : yX8_clear.cls ≠ _), (by decide : yX8_clear.cls ≠ _), (by decide +kernel : (parseMethodDescriptor yX8_clear.desc).map (fun d => d.parameters.length) = some 1)⟩, (by decide : 2 + 19 ≤ 40)⟩
theorem eX8_free : gES (mX8_free) 1 := ⟨w950, w949, w38, ⟨(by decide : yX8_free.cls ≠ _), (by decide : yX8_free.cls ≠ _), (by decide +kernel : (parseMethodDescriptor yX8_free.desc).map (fun d => d.parameters.length) = some 1)⟩, (by decide : 2 + 19 ≤ 40)⟩
theorem eX8_isJewel : gES (mX8_isJewel) 2 := ⟨w1043, w1042, w38, ⟨(by decide : yX8_isJewel.cls ≠ _), (by decide : yX8_isJewel.cls ≠ _), (by decide +kernel : (parseMethodDescriptor yX8_isJewel.desc).map (fun d => d.parameters.length) = some 2)⟩, (by decide : 2 + 19 ≤ 40)⟩
theorem eX8_isCutPlace : gES (mX8_isCutPlace) 2 := ⟨w1049, w1048, w38, ⟨(by decide : yX8_isCutPlace.cls ≠ _), (by decide : yX8_isCutPlace.cls ≠ _), (by decide +kernel : (parseMethodDescriptor yX8_isCutPlace.desc).map (fun d => d.parameters.length) = some 2)⟩, (by decide : 2 + 19 ≤ 40)⟩
theorem eX8_isOwner : gES (mX8_isOwner) 1 := ⟨w1168, w1167, w38, ⟨(by decide : yX8_isOwner.cls ≠ _), (by decide : yX8_isOwner.cls ≠ _), (by decide +kernel : (parseMethodDescriptor yX8_isOwner.desc).map (fun d => d.parameters.length) = some 1)⟩, (by decide : 1 + 19 ≤ 40)⟩
theorem eX8_jewelAt : gES (mX8_jewelAt) 2 := ⟨w1079, w1078, w38, ⟨(by decide : yX8_jewelAt.cls ≠ _), (by decide : yX8_jewelAt.cls ≠ _), (by decide +kernel : (parseMethodDescriptor yX8_jewelAt.desc).map (fun d => d.parameters.length) = some 2)⟩, (by decide : 2 + 19 ≤ 40)⟩
theorem eX8_placeOn : gES (mX8_placeOn) 2 := ⟨w1122, w1121, w38, ⟨(by decide : yX8_placeOn.cls ≠ _), (by decide : yX8_placeOn.cls ≠ _), (by decide +kernel : (parseMethodDescriptor yX8_placeOn.desc).map (fun d => d.parameters.length) = some 2)⟩, (by decide : 2 + 19 ≤ 40)⟩
theorem eX8_valueOf : gES (mX8_valueOf) 2 := ⟨w1082, w1081, w38, ⟨(by decide : yX8_valueOf.cls ≠ _), (by decide : yX8_valueOf.cls ≠ _), (by decide +kernel : (parseMethodDescriptor yX8_valueOf.desc).map (fun d => d.parameters.length) = some 2)⟩, (by decide : 2 + 19 ≤ 40)⟩
theorem eX8_isCut : gES (mX8_isCut) 2 := ⟨w1055, w1054, w38, ⟨(by decide : yX8_isCut.cls ≠ _), (by decide : yX8_isCut.cls ≠ _), (by decide +kernel : (parseMethodDescriptor yX8_isCut.desc).map (fun d => d.parameters.length) = some 2)⟩, (by decide : 2 + 19 ≤ 40)⟩
theorem eX8_bits : gES (mX8_bits) 1 := ⟨w1064, w1063, w38, ⟨(by decide : yX8_bits.cls ≠ _), (by decide : yX8_bits.cls ≠ _), (by decide +kernel : (parseMethodDescriptor yX8_bits.desc).map (fun d => d.parameters.length) = some 1)⟩, (by decide : 3 + 19 ≤ 40)⟩
theorem eX8_runs : gES (mX8_runs) 1 := ⟨w1061, w1060, w38, ⟨(by decide : yX8_runs.cls ≠ _), (by decide : yX8_runs.cls ≠ _), (by decide +kernel : (parseMethodDescriptor yX8_runs.desc).map (fun d => d.parameters.length) = some 1)⟩, (by decide : 1 + 19 ≤ 40)⟩
theorem eX8_isRun : gES (mX8_isRun) 2 := ⟨w1067, w1066, w38, ⟨(by decide : yX8_isRun.cls ≠ _), (by decide : yX8_isRun.cls ≠ _), (by decide +kernel : (parseMethodDescriptor yX8_isRun.desc).map (fun d => d.parameters.length) = some 2)⟩, (by decide : 2 + 19 ≤ 40)⟩
theorem eX8_runAt : gES (mX8_runAt) 2 := ⟨w1058, w1057, w38, ⟨(by decide : yX8_runAt.cls ≠ _), (by decide : yX8_runAt.cls ≠ _), (by decide +kernel : (parseMethodDescriptor yX8_runAt.desc).map (fun d => d.parameters.length) = some 2)⟩, (by decide : 4 + 19 ≤ 40)⟩
theorem eX8_firstOf : gES (mX8_firstOf) 2 := ⟨w1088, w1087, w38, ⟨(by decide : yX8_firstOf.cls ≠ _), (by decide : yX8_firstOf.cls ≠ _), (by decide +kernel : (parseMethodDescriptor yX8_firstOf.desc).map (fun d => d.parameters.length) = some 2)⟩, (by decide : 3 + 19 ≤ 40)⟩
theorem eX8_placesOf : gES (mX8_placesOf) 2 := ⟨w1133, w1132, w38, ⟨(by decide : yX8_placesOf.cls ≠ _), (by decide : yX8_placesOf.cls ≠ _), (by decide +kernel : (parseMethodDescriptor yX8_placesOf.desc).map (fun d => d.parameters.length) = some 2)⟩, (by decide : 4 + 19 ≤ 40)⟩
theorem eX8_hasOf : gES (mX8_hasOf) 3 := ⟨w1076, w1075, w38, ⟨(by decide : yX8_hasOf.cls ≠ _), (by decide : yX8_hasOf.cls ≠ _), (by decide +kernel : (parseMethodDescriptor yX8_hasOf.desc).map (fun d => d.parameters.length) = some 3)⟩, (by decide : 6 + 19 ≤ 40)⟩
theorem eX8_gap : gES (mX8_gap) 1 := ⟨w1073, w1072, w38, ⟨(by decide : yX8_gap.cls ≠ _), (by decide : yX8_gap.cls ≠ _), (by decide +kernel : (parseMethodDescriptor yX8_gap.desc).map (fun d => d.parameters.length) = some 1)⟩, (by decide : 4 + 19 ≤ 40)⟩
theorem eX8_nobodys : gES (mX8_nobodys) 1 := ⟨w1114, w1113, w38, ⟨(by decide : yX8_nobodys.cls ≠ _), (by decide : yX8_nobodys.cls ≠ _), (by decide +kernel : (parseMethodDescriptor yX8_nobodys.desc).map (fun d => d.parameters.length) = some 1)⟩, (by decide : 3 + 19 ≤ 40)⟩
theorem eX8_layOut : gEV (mX8_layOut) RX8 1 := ⟨rfl, w1189, w1188, w23, w38, ⟨by decide, by decide, by decide +kernel⟩, by decide⟩
theorem eX8_gapTried : gEV (mX8_gapTried) RX8 2 := ⟨rfl, w1201, w1200, w26, w38, ⟨by decide, by decide, by decide +kernel⟩, by decide⟩
theorem eX8_firstWay : gEV (mX8_firstWay) RX8 2 := ⟨rfl, w1197, w1196, w25, w38, ⟨by decide, by decide, by decide +kernel⟩, by decide⟩
theorem eX8_nextWay : gEV (mX8_nextWay) RX8 2 := ⟨rfl, w1205, w1204, w27, w38, ⟨by decide, by decide, by decide +kernel⟩, by decide⟩
theorem eX8_leastWith : gEV (mX8_leastWith) RX8 2 := ⟨rfl, w1193, w1192, w24, w38, ⟨by decide, by decide, by decide +kernel⟩, by decide⟩
theorem eX8_fewestOf : gEV (mX8_fewestOf) RX8 1 := ⟨rfl, w1185, w1184, w22, w38, ⟨by decide, by decide, by decide +kernel⟩, by decide⟩
theorem eX8_jewelOn : gES (mX8_jewelOn) 3 := ⟨w1036, w1035, w38, ⟨(by decide : yX8_jewelOn.cls ≠ _), (by decide : yX8_jewelOn.cls ≠ _), (by decide +kernel : (parseMethodDescriptor yX8_jewelOn.desc).map (fun d => d.parameters.length) = some 3)⟩, (by decide : 4 + 19 ≤ 40)⟩
theorem eX8_exchangeOn : gES (mX8_exchangeOn) 3 := ⟨w1100, w1099, w38, ⟨(by decide : yX8_exchangeOn.cls ≠ _), (by decide : yX8_exchangeOn.cls ≠ _), (by decide +kernel : (parseMethodDescriptor yX8_exchangeOn.desc).map (fun d => d.parameters.length) = some 3)⟩, (by decide : 5 + 19 ≤ 40)⟩
theorem eX8_breakOn : gES (mX8_breakOn) 2 := ⟨w1046, w1045, w38, ⟨(by decide : yX8_breakOn.cls ≠ _), (by decide : yX8_breakOn.cls ≠ _), (by decide +kernel : (parseMethodDescriptor yX8_breakOn.desc).map (fun d => d.parameters.length) = some 2)⟩, (by decide : 3 + 19 ≤ 40)⟩
theorem eX8_roundOn : gES (mX8_roundOn) 1 := ⟨w1097, w1096, w38, ⟨(by decide : yX8_roundOn.cls ≠ _), (by decide : yX8_roundOn.cls ≠ _), (by decide +kernel : (parseMethodDescriptor yX8_roundOn.desc).map (fun d => d.parameters.length) = some 1)⟩, (by decide : 2 + 19 ≤ 40)⟩
theorem eX8_cutOn : gES (mX8_cutOn) 3 := ⟨w1052, w1051, w38, ⟨(by decide : yX8_cutOn.cls ≠ _), (by decide : yX8_cutOn.cls ≠ _), (by decide +kernel : (parseMethodDescriptor yX8_cutOn.desc).map (fun d => d.parameters.length) = some 3)⟩, (by decide : 6 + 19 ≤ 40)⟩
theorem eX8_giveOn : gES (mX8_giveOn) 3 := ⟨w1070, w1069, w38, ⟨(by decide : yX8_giveOn.cls ≠ _), (by decide : yX8_giveOn.cls ≠ _), (by decide +kernel : (parseMethodDescriptor yX8_giveOn.desc).map (fun d => d.parameters.length) = some 3)⟩, (by decide : 4 + 19 ≤ 40)⟩
theorem eX8_whyNot : gES (mX8_whyNot) 2 := ⟨w1085, w1084, w38, ⟨(by decide : yX8_whyNot.cls ≠ _), (by decide : yX8_whyNot.cls ≠ _), (by decide +kernel : (parseMethodDescriptor yX8_whyNot.desc).map (fun d => d.parameters.length) = some 2)⟩, (by decide : 3 + 19 ≤ 40)⟩
theorem eX8_takeOn : gES (mX8_takeOn) 2 := ⟨w1091, w1090, w38, ⟨(by decide : yX8_takeOn.cls ≠ _), (by decide : yX8_takeOn.cls ≠ _), (by decide +kernel : (parseMethodDescriptor yX8_takeOn.desc).map (fun d => d.parameters.length) = some 2)⟩, (by decide : 3 + 19 ≤ 40)⟩
theorem eX8_dealOn : gES (mX8_dealOn) 2 := ⟨w1094, w1093, w38, ⟨(by decide : yX8_dealOn.cls ≠ _), (by decide : yX8_dealOn.cls ≠ _), (by decide +kernel : (parseMethodDescriptor yX8_dealOn.desc).map (fun d => d.parameters.length) = some 2)⟩, (by decide : 3 + 19 ≤ 40)⟩
theorem eX8_append : gEV (mX8_append) RX8 1 := ⟨rfl, w999, w997, w998, w38, ⟨by decide, by decide, by decide +kernel⟩, by decide⟩
theorem eX8_clearText : gEV (mX8_clearText) RX8 0 := ⟨rfl, w1011, w1009, w1010, w38, ⟨by decide, by decide, by decide +kernel⟩, by decide⟩
theorem eX8_figures : gEV (mX8_figures) RX8 4 := ⟨rfl, w1032, w1031, w19, w38, ⟨by decide, by decide, by decide +kernel⟩, by decide⟩
theorem eX8_done : gEV (mX8_done) RX8 1 := ⟨rfl, w1040, w1039, w20, w38, ⟨by decide, by decide, by decide +kernel⟩, by decide⟩
theorem eX8_readJewel : gEV (mX8_readJewel) RX8 1 := ⟨rfl, w1027, w1026, w18, w38, ⟨by decide, by decide, by decide +kernel⟩, by decide⟩
theorem eX8_readCommand : gEV (mX8_readCommand) RX8 1 := ⟨rfl, w1023, w1022, w17, w38, ⟨by decide, by decide, by decide +kernel⟩, by decide⟩
theorem eX8_readText : gEV (mX8_readText) RX8 1 := ⟨rfl, w1019, w1018, w16, w38, ⟨by decide, by decide, by decide +kernel⟩, by decide⟩
theorem eX8_errorPosition : gEV (mX8_errorPosition) RX8 0 := ⟨rfl, w1015, w1013, w1014, w38, ⟨by decide, by decide, by decide +kernel⟩, by decide⟩
theorem eX8_load : gEV (mX8_load) RX8 0 := ⟨rfl, w1104, w1102, w1103, w38, ⟨by decide, by decide, by decide +kernel⟩, by decide⟩
theorem eX8_about : gEV (mX8_about) RX8 1 := ⟨rfl, w1111, w1109, w1110, w38, ⟨by decide, by decide, by decide +kernel⟩, by decide⟩
theorem eX8_jewelOf : gEV (mX8_jewelOf) RX8 2 := ⟨rfl, w1118, w1116, w1117, w38, ⟨by decide, by decide, by decide +kernel⟩, by decide⟩
theorem eX8_placeOf : gEV (mX8_placeOf) RX8 2 := ⟨rfl, w1126, w1124, w1125, w38, ⟨by decide, by decide, by decide +kernel⟩, by decide⟩
theorem eX8_runOf : gEV (mX8_runOf) RX8 2 := ⟨rfl, w1130, w1128, w1129, w38, ⟨by decide, by decide, by decide +kernel⟩, by decide⟩
theorem eX8_has : gEV (mX8_has) RX8 2 := ⟨rfl, w1137, w1135, w1136, w38, ⟨by decide, by decide, by decide +kernel⟩, by decide⟩
theorem eX8_remember : gEV (mX8_remember) RX8 0 := ⟨rfl, w1145, w1144, w21, w38, ⟨by decide, by decide, by decide +kernel⟩, by decide⟩
theorem eX8_jewel : gEV (mX8_jewel) RX8 2 := ⟨rfl, w1141, w1139, w1140, w38, ⟨by decide, by decide, by decide +kernel⟩, by decide⟩
theorem eX8_exchange : gEV (mX8_exchange) RX8 2 := ⟨rfl, w1149, w1147, w1148, w38, ⟨by decide, by decide, by decide +kernel⟩, by decide⟩
theorem eX8_breakAt : gEV (mX8_breakAt) RX8 1 := ⟨rfl, w1153, w1151, w1152, w38, ⟨by decide, by decide, by decide +kernel⟩, by decide⟩
theorem eX8_turnRound : gEV (mX8_turnRound) RX8 0 := ⟨rfl, w1157, w1155, w1156, w38, ⟨by decide, by decide, by decide +kernel⟩, by decide⟩
theorem eX8_cut : gEV (mX8_cut) RX8 2 := ⟨rfl, w1161, w1159, w1160, w38, ⟨by decide, by decide, by decide +kernel⟩, by decide⟩
theorem eX8_give : gEV (mX8_give) RX8 2 := ⟨rfl, w1165, w1163, w1164, w38, ⟨by decide, by decide, by decide +kernel⟩, by decide⟩
theorem eX8_take : gEV (mX8_take) RX8 1 := ⟨rfl, w1173, w1171, w1172, w38, ⟨by decide, by decide, by decide +kernel⟩, by decide⟩
theorem eX8_deal : gEV (mX8_deal) RX8 1 := ⟨rfl, w1177, w1175, w1176, w38, ⟨by decide, by decide, by decide +kernel⟩, by decide⟩
theorem eX8_divide : gEV (mX8_divide) RX8 0 := ⟨rfl, w1181, w1179, w1180, w38, ⟨by decide, by decide, by decide +kernel⟩, by decide⟩
theorem eX8_set : gEV (mX8_set) RX8 1 := ⟨rfl, w1209, w1207, w1208, w38, ⟨by decide, by decide, by decide +kernel⟩, by decide⟩
theorem eX8_undo : gEV (mX8_undo) RX8 0 := ⟨rfl, w1213, w1211, w1212, w38, ⟨by decide, by decide, by decide +kernel⟩, by decide⟩
theorem eX8_fewest : gEV (mX8_fewest) RX8 1 := ⟨rfl, w1217, w1215, w1216, w38, ⟨by decide, by decide, by decide +kernel⟩, by decide⟩
theorem eX8_divided : gEV (mX8_divided) RX8 1 := ⟨rfl, w1221, w1219, w1220, w38, ⟨by decide, by decide, by decide +kernel⟩, by decide⟩
theorem eX8_leastGap : gEV (mX8_leastGap) RX8 1 := ⟨rfl, w1225, w1223, w1224, w38, ⟨by decide, by decide, by decide +kernel⟩, by decide⟩
theorem eX8_bestBreak : gEV (mX8_bestBreak) RX8 0 := ⟨rfl, w1230, w1228, w1229, w38, ⟨by decide, by decide, by decide +kernel⟩, by decide⟩
theorem eX8_gapWith : gEV (mX8_gapWith) RX8 2 := ⟨rfl, w1238, w1237, w28, w38, ⟨by decide, by decide, by decide +kernel⟩, by decide⟩
theorem eX8_bestRun : gEV (mX8_bestRun) RX8 0 := ⟨rfl, w1234, w1232, w1233, w38, ⟨by decide, by decide, by decide +kernel⟩, by decide⟩
theorem eX8_ifGiven : gEV (mX8_ifGiven) RX8 2 := ⟨rfl, w1242, w1240, w1241, w38, ⟨by decide, by decide, by decide +kernel⟩, by decide⟩
theorem eX8_command : gEV (mX8_command) RX8 2 := ⟨rfl, w1251, w1250, w29, w38, ⟨by decide, by decide, by decide +kernel⟩, by decide⟩
theorem eX8_isDivided : gEV (mX8_isDivided) RX8 1 := ⟨rfl, w1255, w1254, w30, w38, ⟨by decide, by decide, by decide +kernel⟩, by decide⟩
theorem eX8_runScript : gEV (mX8_runScript) RX8 2 := ⟨rfl, w1246, w1244, w1245, w38, ⟨by decide, by decide, by decide +kernel⟩, by decide⟩
theorem eX8_turnRing : gES (mX8_turnRing) 3 := ⟨w1265, w1264, w38, ⟨(by decide : yX8_turnRing.cls ≠ _), (by decide : yX8_turnRing.cls ≠ _), (by decide +kernel : (parseMethodDescriptor yX8_turnRing.desc).map (fun d => d.parameters.length) = some 3)⟩, (by decide : 3 + 19 ≤ 40)⟩
theorem eX8_turnRuns : gES (mX8_turnRuns) 3 := ⟨w1268, w1267, w38, ⟨(by decide : yX8_turnRuns.cls ≠ _), (by decide : yX8_turnRuns.cls ≠ _), (by decide +kernel : (parseMethodDescriptor yX8_turnRuns.desc).map (fun d => d.parameters.length) = some 3)⟩, (by decide : 3 + 19 ≤ 40)⟩
theorem eX8_simulate : gEV (mX8_simulate) RX8 2 := ⟨rfl, w1259, w1257, w1258, w38, ⟨by decide, by decide, by decide +kernel⟩, by decide⟩
theorem eX8_save : gEV (mX8_save) RX8 1 := ⟨rfl, w1272, w1270, w1271, w38, ⟨by decide, by decide, by decide +kernel⟩, by decide⟩
theorem eX8_restore : gEV (mX8_restore) RX8 1 := ⟨rfl, w1276, w1274, w1275, w38, ⟨by decide, by decide, by decide +kernel⟩, by decide⟩
theorem eJ6_numberOfTrailingZeros_0f7a4 : gES (mJ6_numberOfTrailingZeros_0f7a4) 1 := ⟨w820, w819, w48, ⟨(by decide : yJ6_numberOfTrailingZeros_0f7a4.cls ≠ _), (by decide : yJ6_numberOfTrailingZeros_0f7a4.cls ≠ _), (by decide +kernel : (parseMethodDescriptor yJ6_numberOfTrailingZeros_0f7a4.desc).map (fun d => d.parameters.length) = some 1)⟩, (by decide : 2 + 19 ≤ 40)⟩
theorem eJ6_bitCount_0f7a4 : gES (mJ6_bitCount_0f7a4) 1 := ⟨w376, w375, w48, ⟨(by decide : yJ6_bitCount_0f7a4.cls ≠ _), (by decide : yJ6_bitCount_0f7a4.cls ≠ _), (by decide +kernel : (parseMethodDescriptor yJ6_bitCount_0f7a4.desc).map (fun d => d.parameters.length) = some 1)⟩, (by decide : 1 + 19 ≤ 40)⟩
theorem eJ9_abs_0f7a4 : gES (mJ9_abs_0f7a4) 1 := ⟨w427, w426, w49, ⟨(by decide : yJ9_abs_0f7a4.cls ≠ _), (by decide : yJ9_abs_0f7a4.cls ≠ _), (by decide +kernel : (parseMethodDescriptor yJ9_abs_0f7a4.desc).map (fun d => d.parameters.length) = some 1)⟩, (by decide : 1 + 19 ≤ 40)⟩
theorem eJ9_min_7cf53 : gES (mJ9_min_7cf53) 2 := ⟨w307, w306, w49, ⟨(by decide : yJ9_min_7cf53.cls ≠ _), (by decide : yJ9_min_7cf53.cls ≠ _), (by decide +kernel : (parseMethodDescriptor yJ9_min_7cf53.desc).map (fun d => d.parameters.length) = some 2)⟩, (by decide : 2 + 19 ≤ 40)⟩
theorem eJ0_length_8abf5 : gEV (mJ0_length_8abf5) RJ0 0 := ⟨rfl, w216, w214, w215, w44, ⟨by decide, by decide, by decide +kernel⟩, by decide⟩
theorem eJ0_charAt_5068e : gEV (mJ0_charAt_5068e) RJ0 1 := ⟨rfl, w234, w232, w233, w44, ⟨by decide, by decide, by decide +kernel⟩, by decide⟩
theorem eJ0_coder_7d493 : gEV (mJ0_coder_7d493) RJ0 0 := ⟨rfl, w220, w218, w219, w44, ⟨by decide, by decide, by decide +kernel⟩, by decide⟩
theorem eJ0_isLatin1_aae02 : gEV (mJ0_isLatin1_aae02) RJ0 0 := ⟨rfl, w238, w236, w237, w44, ⟨by decide, by decide, by decide +kernel⟩, by decide⟩
theorem eJ0_checkIndex_df160 : gES (mJ0_checkIndex_df160) 2 := ⟨w244, w243, w44, ⟨(by decide : yJ0_checkIndex_df160.cls ≠ _), (by decide : yJ0_checkIndex_df160.cls ≠ _), (by decide +kernel : (parseMethodDescriptor yJ0_checkIndex_df160.desc).map (fun d => d.parameters.length) = some 2)⟩, (by decide : 2 + 19 ≤ 40)⟩
theorem eJ1_charAt_3b067 : gES (mJ1_charAt_3b067) 2 := ⟨w241, w240, w45, ⟨(by decide : yJ1_charAt_3b067.cls ≠ _), (by decide : yJ1_charAt_3b067.cls ≠ _), (by decide +kernel : (parseMethodDescriptor yJ1_charAt_3b067.desc).map (fun d => d.parameters.length) = some 2)⟩, (by decide : 2 + 19 ≤ 40)⟩
theorem eJ2_getChar_3b067 : gES (mJ2_getChar_3b067) 2 := ⟨w262, w261, w47, ⟨(by decide : yJ2_getChar_3b067.cls ≠ _), (by decide : yJ2_getChar_3b067.cls ≠ _), (by decide +kernel : (parseMethodDescriptor yJ2_getChar_3b067.desc).map (fun d => d.parameters.length) = some 2)⟩, (by decide : 2 + 19 ≤ 40)⟩
theorem eJ2_length_9d52b : gES (mJ2_length_9d52b) 1 := ⟨w258, w257, w47, ⟨(by decide : yJ2_length_9d52b.cls ≠ _), (by decide : yJ2_length_9d52b.cls ≠ _), (by decide +kernel : (parseMethodDescriptor yJ2_length_9d52b.desc).map (fun d => d.parameters.length) = some 1)⟩, (by decide : 1 + 19 ≤ 40)⟩
theorem eJ2_charAt_3b067 : gES (mJ2_charAt_3b067) 2 := ⟨w252, w251, w47, ⟨(by decide : yJ2_charAt_3b067.cls ≠ _), (by decide : yJ2_charAt_3b067.cls ≠ _), (by decide +kernel : (parseMethodDescriptor yJ2_charAt_3b067.desc).map (fun d => d.parameters.length) = some 2)⟩, (by decide : 2 + 19 ≤ 40)⟩
theorem eJ2_checkIndex_2214a : gES (mJ2_checkIndex_2214a) 2 := ⟨w255, w254, w47, ⟨(by decide : yJ2_checkIndex_2214a.cls ≠ _), (by decide : yJ2_checkIndex_2214a.cls ≠ _), (by decide +kernel : (parseMethodDescriptor yJ2_checkIndex_2214a.desc).map (fun d => d.parameters.length) = some 2)⟩, (by decide : 2 + 19 ≤ 40)⟩
theorem eJ3_checkIndex_8e157 : gES (mJ3_checkIndex_8e157) 3 := ⟨w249, w248, w46, ⟨(by decide : yJ3_checkIndex_8e157.cls ≠ _), (by decide : yJ3_checkIndex_8e157.cls ≠ _), (by decide +kernel : (parseMethodDescriptor yJ3_checkIndex_8e157.desc).map (fun d => d.parameters.length) = some 3)⟩, (by decide : 3 + 19 ≤ 40)⟩
