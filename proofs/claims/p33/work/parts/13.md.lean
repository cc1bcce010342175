def mX0_init : gMd := (yX0_init, cX0_init, 1, none, 0)
def mX0_weigh : gMd := (yX0_weigh, cX0_weigh, 7, none, 2)
def mX0_sumAhead : gMd := (yX0_sumAhead, cX0_sumAhead, 2, (some .long), 0)
def mX0_isOddOfAKind : gMd := (yX0_isOddOfAKind, cX0_isOddOfAKind, 1, (some .boolean), 1)
def mX0_isOverHalf : gMd := (yX0_isOverHalf, cX0_isOverHalf, 3, (some .boolean), 0)
def mX0_keepCut : gMd := (yX0_keepCut, cX0_keepCut, 3, none, 0)
def mX0_foundCut : gMd := (yX0_foundCut, cX0_foundCut, 2, (some .int), 0)
def mX0_fewestByCuts : gMd := (yX0_fewestByCuts, cX0_fewestByCuts, 3, (some .int), 10)
def mX0_withRun : gMd := (yX0_withRun, cX0_withRun, 6, (some .long), 1)
def mX0_dividesWith (d : Nat) : gMd := (yX0_dividesWith, cX0_dividesWith, 9, (some .boolean), 2 + d)
def mX0_fewestByOwners : gMd := (yX0_fewestByOwners, cX0_fewestByOwners, 9, (some .int), 2)
def mX0_leastGapWithin : gMd := (yX0_leastGapWithin, cX0_leastGapWithin, 2, (some .int), 10)
def mX0_leastFrom (d : Nat) : gMd := (yX0_leastFrom, cX0_leastFrom, 8, (some .int), 2 + d)
def mX0_gapOf : gMd := (yX0_gapOf, cX0_gapOf, 9, (some .int), 1)
def mX1_init : gMd := (yX1_init, cX1_init, 2, none, 1)
def mX1_forgetAll : gMd := (yX1_forgetAll, cX1_forgetAll, 1, none, 0)
def mX1_remember : gMd := (yX1_remember, cX1_remember, 3, none, 2)
def mX1_takeBack : gMd := (yX1_takeBack, cX1_takeBack, 3, none, 2)
def mX2_init : gMd := (yX2_init, cX2_init, 1, none, 0)
def mX2_becomeNew : gMd := (yX2_becomeNew, cX2_becomeNew, 1, none, 2)
def mX2_becomeLike : gMd := (yX2_becomeLike, cX2_becomeLike, 3, none, 1)
def mX2_kindOf : gMd := (yX2_kindOf, cX2_kindOf, 2, (some .int), 0)
def mX2_weightOf : gMd := (yX2_weightOf, cX2_weightOf, 2, (some .int), 0)
def mX2_ownerAt : gMd := (yX2_ownerAt, cX2_ownerAt, 2, (some .int), 0)
def mX2_putJewel : gMd := (yX2_putJewel, cX2_putJewel, 4, none, 0)
def mX2_putOwner : gMd := (yX2_putOwner, cX2_putOwner, 3, none, 0)
def mX2_hasJewel : gMd := (yX2_hasJewel, cX2_hasJewel, 2, (some .boolean), 0)
def mX2_hasPlace : gMd := (yX2_hasPlace, cX2_hasPlace, 2, (some .boolean), 0)
def mX2_canBeCutAt : gMd := (yX2_canBeCutAt, cX2_canBeCutAt, 2, (some .boolean), 0)
def mX2_hasRun : gMd := (yX2_hasRun, cX2_hasRun, 2, (some .boolean), 2)
def mX2_valueOf : gMd := (yX2_valueOf, cX2_valueOf, 2, (some .int), 1)
def mX2_jewelAt : gMd := (yX2_jewelAt, cX2_jewelAt, 3, (some .int), 0)
def mX2_placeWith : gMd := (yX2_placeWith, cX2_placeWith, 3, (some .int), 0)
def mX2_isCut : gMd := (yX2_isCut, cX2_isCut, 2, (some .boolean), 0)
def mX2_cutCount : gMd := (yX2_cutCount, cX2_cutCount, 1, (some .int), 1)
def mX2_runs : gMd := (yX2_runs, cX2_runs, 1, (some .int), 1)
def mX2_runAt : gMd := (yX2_runAt, cX2_runAt, 2, (some .int), 1)
def mX2_firstPlaceOf : gMd := (yX2_firstPlaceOf, cX2_firstPlaceOf, 3, (some .int), 2)
def mX2_placesOf : gMd := (yX2_placesOf, cX2_placesOf, 4, (some .int), 2)
def mX2_valueOfRun : gMd := (yX2_valueOfRun, cX2_valueOfRun, 4, (some .int), 2)
def mX2_placesOfNobody : gMd := (yX2_placesOfNobody, cX2_placesOfNobody, 3, (some .int), 1)
def mX2_holding : gMd := (yX2_holding, cX2_holding, 6, (some .int), 2)
def mX2_gap : gMd := (yX2_gap, cX2_gap, 3, (some .int), 3)
def mX2_isFair : gMd := (yX2_isFair, cX2_isFair, 1, (some .boolean), 4)
def mX2_reasonAgainstTaking : gMd := (yX2_reasonAgainstTaking, cX2_reasonAgainstTaking, 3, (some .int), 3)
def mX2_loosen : gMd := (yX2_loosen, cX2_loosen, 2, none, 1)
def mX2_addJewel : gMd := (yX2_addJewel, cX2_addJewel, 3, (some .boolean), 2)
def mX2_swapJewels : gMd := (yX2_swapJewels, cX2_swapJewels, 5, (some .boolean), 1)
def mX2_breakAhead : gMd := (yX2_breakAhead, cX2_breakAhead, 2, (some .boolean), 2)
def mX2_reverseRing : gMd := (yX2_reverseRing, cX2_reverseRing, 2, none, 2)
def mX2_setCut : gMd := (yX2_setCut, cX2_setCut, 3, (some .boolean), 4)
def mX2_giveRun : gMd := (yX2_giveRun, cX2_giveRun, 4, (some .boolean), 3)
def mX2_takeRun : gMd := (yX2_takeRun, cX2_takeRun, 2, (some .boolean), 4)
def mX2_dealRuns : gMd := (yX2_dealRuns, cX2_dealRuns, 3, (some .boolean), 2)
def mX2_chooseSetting : gMd := (yX2_chooseSetting, cX2_chooseSetting, 2, (some .boolean), 1)
def mX3_groupsAbove : gMd := (yX3_groupsAbove, cX3_groupsAbove, 6, (some .long), 0)
def mX3_succeeds : gMd := (yX3_succeeds, cX3_succeeds, 6, (some .boolean), 12)
def mX3_isDividedWithin : gMd := (yX3_isDividedWithin, cX3_isDividedWithin, 3, (some .boolean), 11)
def mX4_play : gMd := (yX4_play, cX4_play, 7, none, 6)
def mX4_turn : gMd := (yX4_turn, cX4_turn, 4, none, 5)
def mX4_moveJewels : gMd := (yX4_moveJewels, cX4_moveJewels, 2, none, 3)
def mX5_init : gMd := (yX5_init, cX5_init, 1, none, 1)
def mX6_init : gMd := (yX6_init, cX6_init, 1, none, 0)
def mX6_add : gMd := (yX6_add, cX6_add, 2, none, 0)
def mX6_signAt : gMd := (yX6_signAt, cX6_signAt, 2, (some .char), 0)
def mX6_digitAt : gMd := (yX6_digitAt, cX6_digitAt, 2, (some .int), 1)
def mX6_numberAt : gMd := (yX6_numberAt, cX6_numberAt, 2, (some .int), 2)
def mX6_formOf : gMd := (yX6_formOf, cX6_formOf, 1, (some (.object "java/lang/String")), 0)
def mX6_fits : gMd := (yX6_fits, cX6_fits, 3, (some .boolean), 0)
def mX6_firstError : gMd := (yX6_firstError, cX6_firstError, 4, (some .int), 5)
def mX6_performOn : gMd := (yX6_performOn, cX6_performOn, 5, (some .int), 6)
def mX6_performs : gMd := (yX6_performs, cX6_performs, 3, (some .boolean), 5)
def mX7_init : gMd := (yX7_init, cX7_init, 1, none, 2)
def mX7_append : gMd := (yX7_append, cX7_append, 2, (some .int), 1)
def mX7_load : gMd := (yX7_load, cX7_load, 1, (some .int), 7)
def mX7_about : gMd := (yX7_about, cX7_about, 2, (some .int), 5)
def mX7_jewelOf : gMd := (yX7_jewelOf, cX7_jewelOf, 3, (some .int), 1)
def mX7_placeOf : gMd := (yX7_placeOf, cX7_placeOf, 3, (some .int), 2)
def mX7_runOf : gMd := (yX7_runOf, cX7_runOf, 3, (some .int), 3)
def mX7_has : gMd := (yX7_has, cX7_has, 3, (some .int), 3)
def mX7_jewel : gMd := (yX7_jewel, cX7_jewel, 3, (some .int), 3)
def mX7_exchange : gMd := (yX7_exchange, cX7_exchange, 3, (some .int), 4)
def mX7_breakAt : gMd := (yX7_breakAt, cX7_breakAt, 3, (some .int), 3)
def mX7_turnRound : gMd := (yX7_turnRound, cX7_turnRound, 1, (some .int), 3)
def mX7_cut : gMd := (yX7_cut, cX7_cut, 3, (some .int), 5)
def mX7_give : gMd := (yX7_give, cX7_give, 3, (some .int), 4)
def mX7_take : gMd := (yX7_take, cX7_take, 3, (some .int), 5)
def mX7_deal : gMd := (yX7_deal, cX7_deal, 2, (some .int), 4)
def mX7_divide : gMd := (yX7_divide, cX7_divide, 3, (some .int), 12)
def mX7_set : gMd := (yX7_set, cX7_set, 3, (some .int), 3)
def mX7_undo : gMd := (yX7_undo, cX7_undo, 1, (some .int), 3)
def mX7_fewest : gMd := (yX7_fewest, cX7_fewest, 2, (some .int), 12)
def mX7_divided : gMd := (yX7_divided, cX7_divided, 2, (some .int), 12)
def mX7_leastGap : gMd := (yX7_leastGap, cX7_leastGap, 2, (some .int), 11)
def mX7_bestBreak : gMd := (yX7_bestBreak, cX7_bestBreak, 5, (some .int), 11)
def mX7_bestRun : gMd := (yX7_bestRun, cX7_bestRun, 5, (some .int), 5)
def mX7_ifGiven : gMd := (yX7_ifGiven, cX7_ifGiven, 3, (some .int), 5)
def mX7_runScript : gMd := (yX7_runScript, cX7_runScript, 6, (some .int), 13)
def mX7_simulate : gMd := (yX7_simulate, cX7_simulate, 4, (some .int), 7)
def mX7_save : gMd := (yX7_save, cX7_save, 3, (some .int), 2)
def mX7_restore : gMd := (yX7_restore, cX7_restore, 3, (some .int), 2)
def mX7_fewestCuts : gMd := (yX7_fewestCuts, cX7_fewestCuts, 1, (some .int), 11)
def mX7_gapWith : gMd := (yX7_gapWith, cX7_gapWith, 3, (some .int), 4)
def mX7_isSister : gMd := (yX7_isSister, cX7_isSister, 1, (some .boolean), 0)
def mX7_isOwner : gMd := (yX7_isOwner, cX7_isOwner, 1, (some .boolean), 1)
def mX7_isKind : gMd := (yX7_isKind, cX7_isKind, 1, (some .boolean), 0)
def mX7_isWeight : gMd := (yX7_isWeight, cX7_isWeight, 1, (some .boolean), 0)
def mX7_isSetting : gMd := (yX7_isSetting, cX7_isSetting, 1, (some .boolean), 0)
def mX7_ownerFor : gMd := (yX7_ownerFor, cX7_ownerFor, 1, (some .int), 0)
def mJ6_numberOfTrailingZeros_0f7a4 : gMd := (yJ6_numberOfTrailingZeros_0f7a4, cJ6_numberOfTrailingZeros_0f7a4, 2, (some .int), 0)
def mJ6_bitCount_0f7a4 : gMd := (yJ6_bitCount_0f7a4, cJ6_bitCount_0f7a4, 1, (some .int), 0)
def mJ9_abs_0f7a4 : gMd := (yJ9_abs_0f7a4, cJ9_abs_0f7a4, 1, (some .int), 0)
def mJ9_min_7cf53 : gMd := (yJ9_min_7cf53, cJ9_min_7cf53, 2, (some .int), 0)
def mJ0_length_8abf5 : gMd := (yJ0_length_8abf5, cJ0_length_8abf5, 1, (some .int), 1)
def mJ0_charAt_5068e : gMd := (yJ0_charAt_5068e, cJ0_charAt_5068e, 2, (some .char), 4)
def mJ0_coder_7d493 : gMd := (yJ0_coder_7d493, cJ0_coder_7d493, 1, (some .byte), 0)
def mJ0_isLatin1_aae02 : gMd := (yJ0_isLatin1_aae02, cJ0_isLatin1_aae02, 1, (some .boolean), 0)
def mJ0_checkIndex_df160 : gMd := (yJ0_checkIndex_df160, cJ0_checkIndex_df160, 2, none, 1)
def mJ1_charAt_3b067 : gMd := (yJ1_charAt_3b067, cJ1_charAt_3b067, 2, (some .char), 2)
def mJ2_getChar_3b067 : gMd := (yJ2_getChar_3b067, cJ2_getChar_3b067, 2, (some .char), 1)
def mJ2_length_9d52b : gMd := (yJ2_length_9d52b, cJ2_length_9d52b, 1, (some .int), 0)
def mJ2_charAt_3b067 : gMd := (yJ2_charAt_3b067, cJ2_charAt_3b067, 2, (some .char), 3)
def mJ2_checkIndex_2214a : gMd := (yJ2_checkIndex_2214a, cJ2_checkIndex_2214a, 2, none, 2)
def mJ3_checkIndex_8e157 : gMd := (yJ3_checkIndex_8e157, cJ3_checkIndex_8e157, 3, (some .int), 0)
theorem eX0_weigh : gEV (mX0_weigh) RX0 2 := ⟨rfl, w700, w698, w699, w20, ⟨by decide, by decide, by decide +kernel⟩, by decide⟩
theorem eX0_sumAhead : gEV (mX0_sumAhead) RX0 1 := ⟨rfl, w714, w713, w9, w20, ⟨by decide, by decide, by decide +kernel⟩, by decide⟩
theorem eX0_isOddOfAKind : gEV (mX0_isOddOfAKind) RX0 0 := ⟨rfl, w710, w709, w8, w20, ⟨by decide, by decide, by decide +kernel⟩, by decide⟩
theorem eX0_isOverHalf : gEV (mX0_isOverHalf) RX0 1 := ⟨rfl, w726, w725, w11, w20, ⟨by decide, by decide, by decide +kernel⟩, by decide⟩
theorem eX0_keepCut : gEV (mX0_keepCut) RX0 2 := ⟨rfl, w731, w730, w12, w20, ⟨by decide, by decide, by decide +kernel⟩, by decide⟩
theorem eX0_foundCut : gEV (mX0_foundCut) RX0 1 := ⟨rfl, w737, w735, w736, w20, ⟨by decide, by decide, by decide +kernel⟩, by decide⟩
theorem eX0_fewestByCuts : gEV (mX0_fewestByCuts) RX0 1 := ⟨rfl, w706, w704, w705, w20, ⟨by decide, by decide, by decide +kernel⟩, by decide⟩
theorem eX0_withRun : gEV (mX0_withRun) RX0 4 := ⟨rfl, w722, w721, w10, w20, ⟨by decide, by decide, by decide +kernel⟩, by decide⟩
theorem eX0_dividesWith (d : Nat) : gES (mX0_dividesWith d) 5 := ⟨w718, w717, w20, ⟨(by decide : yX0_dividesWith.cls ≠ _), (by decide : yX0_dividesWith.cls ≠ _), (by decide +kernel : (parseMethodDescriptor yX0_dividesWith.desc).map (fun d => d.parameters.length) = some 5)⟩, (by decide : 9 + 19 ≤ 40)⟩
theorem eX0_fewestByOwners : gEV (mX0_fewestByOwners) RX0 0 := ⟨rfl, w772, w770, w771, w20, ⟨by decide, by decide, by decide +kernel⟩, by decide⟩
theorem eX0_leastGapWithin : gEV (mX0_leastGapWithin) RX0 1 := ⟨rfl, w798, w796, w797, w20, ⟨by decide, by decide, by decide +kernel⟩, by decide⟩
theorem eX0_leastFrom (d : Nat) : gES (mX0_leastFrom d) 5 := ⟨w801, w800, w20, ⟨(by decide : yX0_leastFrom.cls ≠ _), (by decide : yX0_leastFrom.cls ≠ _), (by decide +kernel : (parseMethodDescriptor yX0_leastFrom.desc).map (fun d => d.parameters.length) = some 5)⟩, (by decide : 8 + 19 ≤ 40)⟩
theorem eX0_gapOf : gEV (mX0_gapOf) RX0 1 := ⟨rfl, w805, w804, w13, w20, ⟨by decide, by decide, by decide +kernel⟩, by decide⟩
theorem eX1_forgetAll : gEV (mX1_forgetAll) RX1 0 := ⟨rfl, w372, w370, w371, w19, ⟨by decide, by decide, by decide +kernel⟩, by decide⟩
theorem eX1_remember : gEV (mX1_remember) RX1 1 := ⟨rfl, w633, w631, w632, w19, ⟨by decide, by decide, by decide +kernel⟩, by decide⟩
theorem eX1_takeBack : gEV (mX1_takeBack) RX1 1 := ⟨rfl, w760, w758, w759, w19, ⟨by decide, by decide, by decide +kernel⟩, by decide⟩
theorem eX2_becomeNew : gEV (mX2_becomeNew) RX2 0 := ⟨rfl, w360, w358, w359, w18, ⟨by decide, by decide, by decide +kernel⟩, by decide⟩
theorem eX2_becomeLike : gEV (mX2_becomeLike) RX2 1 := ⟨rfl, w637, w635, w636, w18, ⟨by decide, by decide, by decide +kernel⟩, by decide⟩
theorem eX2_kindOf : gEV (mX2_kindOf) RX2 1 := ⟨rfl, w494, w492, w493, w18, ⟨by decide, by decide, by decide +kernel⟩, by decide⟩
theorem eX2_weightOf : gEV (mX2_weightOf) RX2 1 := ⟨rfl, w498, w496, w497, w18, ⟨by decide, by decide, by decide +kernel⟩, by decide⟩
theorem eX2_ownerAt : gEV (mX2_ownerAt) RX2 1 := ⟨rfl, w436, w434, w435, w18, ⟨by decide, by decide, by decide +kernel⟩, by decide⟩
theorem eX2_putJewel : gEV (mX2_putJewel) RX2 3 := ⟨rfl, w398, w397, w5, w18, ⟨by decide, by decide, by decide +kernel⟩, by decide⟩
theorem eX2_putOwner : gEV (mX2_putOwner) RX2 2 := ⟨rfl, w368, w367, w2, w18, ⟨by decide, by decide, by decide +kernel⟩, by decide⟩
theorem eX2_hasJewel : gEV (mX2_hasJewel) RX2 1 := ⟨rfl, w410, w408, w409, w18, ⟨by decide, by decide, by decide +kernel⟩, by decide⟩
theorem eX2_hasPlace : gEV (mX2_hasPlace) RX2 1 := ⟨rfl, w584, w582, w583, w18, ⟨by decide, by decide, by decide +kernel⟩, by decide⟩
theorem eX2_canBeCutAt : gEV (mX2_canBeCutAt) RX2 1 := ⟨rfl, w418, w416, w417, w18, ⟨by decide, by decide, by decide +kernel⟩, by decide⟩
theorem eX2_hasRun : gEV (mX2_hasRun) RX2 1 := ⟨rfl, w444, w442, w443, w18, ⟨by decide, by decide, by decide +kernel⟩, by decide⟩
theorem eX2_valueOf : gEV (mX2_valueOf) RX2 1 := ⟨rfl, w526, w524, w525, w18, ⟨by decide, by decide, by decide +kernel⟩, by decide⟩
theorem eX2_jewelAt : gEV (mX2_jewelAt) RX2 1 := ⟨rfl, w522, w520, w521, w18, ⟨by decide, by decide, by decide +kernel⟩, by decide⟩
theorem eX2_placeWith : gEV (mX2_placeWith) RX2 1 := ⟨rfl, w571, w569, w570, w18, ⟨by decide, by decide, by decide +kernel⟩, by decide⟩
theorem eX2_isCut : gEV (mX2_isCut) RX2 1 := ⟨rfl, w422, w420, w421, w18, ⟨by decide, by decide, by decide +kernel⟩, by decide⟩
theorem eX2_cutCount : gEV (mX2_cutCount) RX2 0 := ⟨rfl, w509, w507, w508, w18, ⟨by decide, by decide, by decide +kernel⟩, by decide⟩
theorem eX2_runs : gEV (mX2_runs) RX2 0 := ⟨rfl, w448, w446, w447, w18, ⟨by decide, by decide, by decide +kernel⟩, by decide⟩
theorem eX2_runAt : gEV (mX2_runAt) RX2 1 := ⟨rfl, w426, w424, w425, w18, ⟨by decide, by decide, by decide +kernel⟩, by decide⟩
theorem eX2_firstPlaceOf : gEV (mX2_firstPlaceOf) RX2 1 := ⟨rfl, w470, w468, w469, w18, ⟨by decide, by decide, by decide +kernel⟩, by decide⟩
theorem eX2_placesOf : gEV (mX2_placesOf) RX2 1 := ⟨rfl, w604, w602, w603, w18, ⟨by decide, by decide, by decide +kernel⟩, by decide⟩
theorem eX2_valueOfRun : gEV (mX2_valueOfRun) RX2 1 := ⟨rfl, w608, w606, w607, w18, ⟨by decide, by decide, by decide +kernel⟩, by decide⟩
theorem eX2_placesOfNobody : gEV (mX2_placesOfNobody) RX2 0 := ⟨rfl, w537, w535, w536, w18, ⟨by decide, by decide, by decide +kernel⟩, by decide⟩
theorem eX2_holding : gEV (mX2_holding) RX2 2 := ⟨rfl, w518, w516, w517, w18, ⟨by decide, by decide, by decide +kernel⟩, by decide⟩
theorem eX2_gap : gEV (mX2_gap) RX2 0 := ⟨rfl, w514, w512, w513, w18, ⟨by decide, by decide, by decide +kernel⟩, by decide⟩
theorem eX2_isFair : gEV (mX2_isFair) RX2 0 := ⟨rfl, w533, w531, w532, w18, ⟨by decide, by decide, by decide +kernel⟩, by decide⟩
theorem eX2_reasonAgainstTaking : gEV (mX2_reasonAgainstTaking) RX2 1 := ⟨rfl, w466, w464, w465, w18, ⟨by decide, by decide, by decide +kernel⟩, by decide⟩
theorem eX2_loosen : gEV (mX2_loosen) RX2 0 := ⟨rfl, w364, w362, w363, w18, ⟨by decide, by decide, by decide +kernel⟩, by decide⟩
theorem eX2_addJewel : gEV (mX2_addJewel) RX2 2 := ⟨rfl, w388, w386, w387, w18, ⟨by decide, by decide, by decide +kernel⟩, by decide⟩
theorem eX2_swapJewels : gEV (mX2_swapJewels) RX2 2 := ⟨rfl, w490, w488, w489, w18, ⟨by decide, by decide, by decide +kernel⟩, by decide⟩
theorem eX2_breakAhead : gEV (mX2_breakAhead) RX2 1 := ⟨rfl, w406, w404, w405, w18, ⟨by decide, by decide, by decide +kernel⟩, by decide⟩
theorem eX2_reverseRing : gEV (mX2_reverseRing) RX2 0 := ⟨rfl, w486, w484, w485, w18, ⟨by decide, by decide, by decide +kernel⟩, by decide⟩
theorem eX2_setCut : gEV (mX2_setCut) RX2 2 := ⟨rfl, w414, w412, w413, w18, ⟨by decide, by decide, by decide +kernel⟩, by decide⟩
theorem eX2_giveRun : gEV (mX2_giveRun) RX2 2 := ⟨rfl, w440, w438, w439, w18, ⟨by decide, by decide, by decide +kernel⟩, by decide⟩
theorem eX2_takeRun : gEV (mX2_takeRun) RX2 1 := ⟨rfl, w462, w460, w461, w18, ⟨by decide, by decide, by decide +kernel⟩, by decide⟩
theorem eX2_dealRuns : gEV (mX2_dealRuns) RX2 1 := ⟨rfl, w474, w472, w473, w18, ⟨by decide, by decide, by decide +kernel⟩, by decide⟩
theorem eX2_chooseSetting : gEV (mX2_chooseSetting) RX2 1 := ⟨rfl, w479, w477, w478, w18, ⟨by decide, by decide, by decide +kernel⟩, by decide⟩
theorem eX3_groupsAbove : gES (mX3_groupsAbove) 2 := ⟨w862, w861, w34, ⟨(by decide : yX3_groupsAbove.cls ≠ _), (by decide : yX3_groupsAbove.cls ≠ _), (by decide +kernel : (parseMethodDescriptor yX3_groupsAbove.desc).map (fun d => d.parameters.length) = some 2)⟩, (by decide : 6 + 19 ≤ 40)⟩
theorem eX3_succeeds : gES (mX3_succeeds) 3 := ⟨w868, w867, w34, ⟨(by decide : yX3_succeeds.cls ≠ _), (by decide : yX3_succeeds.cls ≠ _), (by decide +kernel : (parseMethodDescriptor yX3_succeeds.desc).map (fun d => d.parameters.length) = some 3)⟩, (by decide : 6 + 19 ≤ 40)⟩
theorem eX3_isDividedWithin : gES (mX3_isDividedWithin) 3 := ⟨w878, w877, w34, ⟨(by decide : yX3_isDividedWithin.cls ≠ _), (by decide : yX3_isDividedWithin.cls ≠ _), (by decide +kernel : (parseMethodDescriptor yX3_isDividedWithin.desc).map (fun d => d.parameters.length) = some 3)⟩, (by decide : 3 + 19 ≤ 40)⟩
theorem eX4_play : gES (mX4_play) 3 := ⟨w897, w896, w35, ⟨(by decide : yX4_play.cls ≠ _), (by decide : yX4_play.cls ≠ _), (by decide +kernel : (parseMethodDescriptor yX4_play.desc).map (fun d => d.parameters.length) = some 3)⟩, (by decide : 7 + 19 ≤ 40)⟩
theorem eX4_turn : gES (mX4_turn) 2 := ⟨w902, w901, w35, ⟨(by decide : yX4_turn.cls ≠ _), (by decide : yX4_turn.cls ≠ _), (by decide +kernel : (parseMethodDescriptor yX4_turn.desc).map (fun d => d.parameters.length) = some 2)⟩, (by decide : 4 + 19 ≤ 40)⟩
theorem eX4_moveJewels : gES (mX4_moveJewels) 2 := ⟨w910, w909, w35, ⟨(by decide : yX4_moveJewels.cls ≠ _), (by decide : yX4_moveJewels.cls ≠ _), (by decide +kernel : (parseMethodDescriptor yX4_moveJewels.desc).map (fun d => d.parameters.length) = some 2)⟩, (by decide : 2 + 19 ≤ 40)⟩
theorem eX6_add : gEV (mX6_add) RX6 1 := ⟨rfl, w278, w276, w277, w17, ⟨by decide, by decide, by decide +kernel⟩, by decide⟩
theorem eX6_signAt : gEV (mX6_signAt) RX6 1 := ⟨rfl, w295, w294, w1, w17, ⟨by decide, by decide, by decide +kernel⟩, by decide⟩
theorem eX6_digitAt : gEV (mX6_digitAt) RX6 1 := ⟨rfl, w384, w383, w4, w17, ⟨by decide, by decide, by decide +kernel⟩, by decide⟩
theorem eX6_numberAt : gEV (mX6_numberAt) RX6 1 := ⟨rfl, w402, w401, w6, w17, ⟨by decide, by decide, by decide +kernel⟩, by decide⟩
theorem eX6_formOf : gES (mX6_formOf) 1 := ⟨w309, w308, w17, ⟨(by decide : yX6_formOf.cls ≠ _), (by decide : yX6_formOf.cls ≠ _), (by decide +kernel : (parseMethodDescriptor yX6_formOf.desc).map (fun d => d.parameters.length) = some 1)⟩, (by decide : 1 + 19 ≤ 40)⟩
theorem eX6_fits : gES (mX6_fits) 3 := ⟨w355, w354, w17, ⟨(by decide : yX6_fits.cls ≠ _), (by decide : yX6_fits.cls ≠ _), (by decide +kernel : (parseMethodDescriptor yX6_fits.desc).map (fun d => d.parameters.length) = some 3)⟩, (by decide : 3 + 19 ≤ 40)⟩
theorem eX6_firstError : gEV (mX6_firstError) RX6 0 := ⟨rfl, w291, w289, w290, w17, ⟨by decide, by decide, by decide +kernel⟩, by decide⟩
theorem eX6_performOn : gEV (mX6_performOn) RX6 1 := ⟨rfl, w376, w374, w375, w17, ⟨by decide, by decide, by decide +kernel⟩, by decide⟩
theorem eX6_performs : gEV (mX6_performs) RX6 2 := ⟨rfl, w380, w379, w3, w17, ⟨by decide, by decide, by decide +kernel⟩, by decide⟩
theorem eX7_append : gEV (mX7_append) RX7 1 := ⟨rfl, w190, w188, w189, w16, ⟨by decide, by decide, by decide +kernel⟩, by decide⟩
theorem eX7_load : gEV (mX7_load) RX7 0 := ⟨rfl, w287, w285, w286, w16, ⟨by decide, by decide, by decide +kernel⟩, by decide⟩
theorem eX7_about : gEV (mX7_about) RX7 1 := ⟨rfl, w505, w503, w504, w16, ⟨by decide, by decide, by decide +kernel⟩, by decide⟩
theorem eX7_jewelOf : gEV (mX7_jewelOf) RX7 2 := ⟨rfl, w548, w546, w547, w16, ⟨by decide, by decide, by decide +kernel⟩, by decide⟩
theorem eX7_placeOf : gEV (mX7_placeOf) RX7 2 := ⟨rfl, w580, w578, w579, w16, ⟨by decide, by decide, by decide +kernel⟩, by decide⟩
theorem eX7_runOf : gEV (mX7_runOf) RX7 2 := ⟨rfl, w597, w595, w596, w16, ⟨by decide, by decide, by decide +kernel⟩, by decide⟩
theorem eX7_has : gEV (mX7_has) RX7 2 := ⟨rfl, w615, w613, w614, w16, ⟨by decide, by decide, by decide +kernel⟩, by decide⟩
theorem eX7_jewel : gEV (mX7_jewel) RX7 2 := ⟨rfl, w625, w623, w624, w16, ⟨by decide, by decide, by decide +kernel⟩, by decide⟩
theorem eX7_exchange : gEV (mX7_exchange) RX7 2 := ⟨rfl, w648, w646, w647, w16, ⟨by decide, by decide, by decide +kernel⟩, by decide⟩
theorem eX7_breakAt : gEV (mX7_breakAt) RX7 1 := ⟨rfl, w656, w654, w655, w16, ⟨by decide, by decide, by decide +kernel⟩, by decide⟩
theorem eX7_turnRound : gEV (mX7_turnRound) RX7 0 := ⟨rfl, w925, w923, w924, w16, ⟨by decide, by decide, by decide +kernel⟩, by decide⟩
theorem eX7_cut : gEV (mX7_cut) RX7 2 := ⟨rfl, w850, w848, w849, w16, ⟨by decide, by decide, by decide +kernel⟩, by decide⟩
theorem eX7_give : gEV (mX7_give) RX7 2 := ⟨rfl, w664, w662, w663, w16, ⟨by decide, by decide, by decide +kernel⟩, by decide⟩
theorem eX7_take : gEV (mX7_take) RX7 1 := ⟨rfl, w674, w672, w673, w16, ⟨by decide, by decide, by decide +kernel⟩, by decide⟩
theorem eX7_deal : gEV (mX7_deal) RX7 1 := ⟨rfl, w683, w681, w682, w16, ⟨by decide, by decide, by decide +kernel⟩, by decide⟩
theorem eX7_divide : gEV (mX7_divide) RX7 0 := ⟨rfl, w692, w690, w691, w16, ⟨by decide, by decide, by decide +kernel⟩, by decide⟩
theorem eX7_set : gEV (mX7_set) RX7 1 := ⟨rfl, w745, w743, w744, w16, ⟨by decide, by decide, by decide +kernel⟩, by decide⟩
theorem eX7_undo : gEV (mX7_undo) RX7 0 := ⟨rfl, w755, w753, w754, w16, ⟨by decide, by decide, by decide +kernel⟩, by decide⟩
theorem eX7_fewest : gEV (mX7_fewest) RX7 1 := ⟨rfl, w767, w765, w766, w16, ⟨by decide, by decide, by decide +kernel⟩, by decide⟩
theorem eX7_divided : gEV (mX7_divided) RX7 1 := ⟨rfl, w785, w783, w784, w16, ⟨by decide, by decide, by decide +kernel⟩, by decide⟩
theorem eX7_leastGap : gEV (mX7_leastGap) RX7 1 := ⟨rfl, w793, w791, w792, w16, ⟨by decide, by decide, by decide +kernel⟩, by decide⟩
theorem eX7_bestBreak : gEV (mX7_bestBreak) RX7 0 := ⟨rfl, w946, w944, w945, w16, ⟨by decide, by decide, by decide +kernel⟩, by decide⟩
theorem eX7_bestRun : gEV (mX7_bestRun) RX7 0 := ⟨rfl, w933, w931, w932, w16, ⟨by decide, by decide, by decide +kernel⟩, by decide⟩
theorem eX7_ifGiven : gEV (mX7_ifGiven) RX7 2 := ⟨rfl, w814, w812, w813, w16, ⟨by decide, by decide, by decide +kernel⟩, by decide⟩
theorem eX7_runScript : gEV (mX7_runScript) RX7 2 := ⟨rfl, w858, w856, w857, w16, ⟨by decide, by decide, by decide +kernel⟩, by decide⟩
theorem eX7_simulate : gEV (mX7_simulate) RX7 2 := ⟨rfl, w893, w891, w892, w16, ⟨by decide, by decide, by decide +kernel⟩, by decide⟩
theorem eX7_save : gEV (mX7_save) RX7 1 := ⟨rfl, w826, w824, w825, w16, ⟨by decide, by decide, by decide +kernel⟩, by decide⟩
theorem eX7_restore : gEV (mX7_restore) RX7 1 := ⟨rfl, w834, w832, w833, w16, ⟨by decide, by decide, by decide +kernel⟩, by decide⟩
theorem eX7_fewestCuts : gEV (mX7_fewestCuts) RX7 0 := ⟨rfl, w696, w695, w7, w16, ⟨by decide, by decide, by decide +kernel⟩, by decide⟩
theorem eX7_gapWith : gEV (mX7_gapWith) RX7 2 := ⟨rfl, w818, w817, w14, w16, ⟨by decide, by decide, by decide +kernel⟩, by decide⟩
theorem eX7_isSister : gES (mX7_isSister) 1 := ⟨w454, w453, w16, ⟨(by decide : yX7_isSister.cls ≠ _), (by decide : yX7_isSister.cls ≠ _), (by decide +kernel : (parseMethodDescriptor yX7_isSister.desc).map (fun d => d.parameters.length) = some 1)⟩, (by decide : 1 + 19 ≤ 40)⟩
theorem eX7_isOwner : gES (mX7_isOwner) 1 := ⟨w451, w450, w16, ⟨(by decide : yX7_isOwner.cls ≠ _), (by decide : yX7_isOwner.cls ≠ _), (by decide +kernel : (parseMethodDescriptor yX7_isOwner.desc).map (fun d => d.parameters.length) = some 1)⟩, (by decide : 1 + 19 ≤ 40)⟩
theorem eX7_isKind : gES (mX7_isKind) 1 := ⟨w391, w390, w16, ⟨(by decide : yX7_isKind.cls ≠ _), (by decide : yX7_isKind.cls ≠ _), (by decide +kernel : (parseMethodDescriptor yX7_isKind.desc).map (fun d => d.parameters.length) = some 1)⟩, (by decide : 1 + 19 ≤ 40)⟩
theorem eX7_isWeight : gES (mX7_isWeight) 1 := ⟨w394, w393, w16, ⟨(by decide : yX7_isWeight.cls ≠ _), (by decide : yX7_isWeight.cls ≠ _), (by decide +kernel : (parseMethodDescriptor yX7_isWeight.desc).map (fun d => d.parameters.length) = some 1)⟩, (by decide : 1 + 19 ≤ 40)⟩
theorem eX7_isSetting : gES (mX7_isSetting) 1 := ⟨w482, w481, w16, ⟨(by decide : yX7_isSetting.cls ≠ _), (by decide : yX7_isSetting.cls ≠ _), (by decide +kernel : (parseMethodDescriptor yX7_isSetting.desc).map (fun d => d.parameters.length) = some 1)⟩, (by decide : 1 + 19 ≤ 40)⟩
theorem eX7_ownerFor : gES (mX7_ownerFor) 1 := ⟨w457, w456, w16, ⟨(by decide : yX7_ownerFor.cls ≠ _), (by decide : yX7_ownerFor.cls ≠ _), (by decide +kernel : (parseMethodDescriptor yX7_ownerFor.desc).map (fun d => d.parameters.length) = some 1)⟩, (by decide : 1 + 19 ≤ 40)⟩
theorem eJ6_numberOfTrailingZeros_0f7a4 : gES (mJ6_numberOfTrailingZeros_0f7a4) 1 := ⟨w775, w774, w31, ⟨(by decide : yJ6_numberOfTrailingZeros_0f7a4.cls ≠ _), (by decide : yJ6_numberOfTrailingZeros_0f7a4.cls ≠ _), (by decide +kernel : (parseMethodDescriptor yJ6_numberOfTrailingZeros_0f7a4.desc).map (fun d => d.parameters.length) = some 1)⟩, (by decide : 2 + 19 ≤ 40)⟩
theorem eJ6_bitCount_0f7a4 : gES (mJ6_bitCount_0f7a4) 1 := ⟨w429, w428, w31, ⟨(by decide : yJ6_bitCount_0f7a4.cls ≠ _), (by decide : yJ6_bitCount_0f7a4.cls ≠ _), (by decide +kernel : (parseMethodDescriptor yJ6_bitCount_0f7a4.desc).map (fun d => d.parameters.length) = some 1)⟩, (by decide : 1 + 19 ≤ 40)⟩
theorem eJ9_abs_0f7a4 : gES (mJ9_abs_0f7a4) 1 := ⟨w529, w528, w32, ⟨(by decide : yJ9_abs_0f7a4.cls ≠ _), (by decide : yJ9_abs_0f7a4.cls ≠ _), (by decide +kernel : (parseMethodDescriptor yJ9_abs_0f7a4.desc).map (fun d => d.parameters.length) = some 1)⟩, (by decide : 1 + 19 ≤ 40)⟩
theorem eJ9_min_7cf53 : gES (mJ9_min_7cf53) 2 := ⟨w640, w639, w32, ⟨(by decide : yJ9_min_7cf53.cls ≠ _), (by decide : yJ9_min_7cf53.cls ≠ _), (by decide +kernel : (parseMethodDescriptor yJ9_min_7cf53.desc).map (fun d => d.parameters.length) = some 2)⟩, (by decide : 2 + 19 ≤ 40)⟩
theorem eJ0_length_8abf5 : gEV (mJ0_length_8abf5) RJ0 0 := ⟨rfl, w300, w298, w299, w27, ⟨by decide, by decide, by decide +kernel⟩, by decide⟩
theorem eJ0_charAt_5068e : gEV (mJ0_charAt_5068e) RJ0 1 := ⟨rfl, w318, w316, w317, w27, ⟨by decide, by decide, by decide +kernel⟩, by decide⟩
theorem eJ0_coder_7d493 : gEV (mJ0_coder_7d493) RJ0 0 := ⟨rfl, w304, w302, w303, w27, ⟨by decide, by decide, by decide +kernel⟩, by decide⟩
theorem eJ0_isLatin1_aae02 : gEV (mJ0_isLatin1_aae02) RJ0 0 := ⟨rfl, w322, w320, w321, w27, ⟨by decide, by decide, by decide +kernel⟩, by decide⟩
theorem eJ0_checkIndex_df160 : gES (mJ0_checkIndex_df160) 2 := ⟨w328, w327, w27, ⟨(by decide : yJ0_checkIndex_df160.cls ≠ _), (by decide : yJ0_checkIndex_df160.cls ≠ _), (by decide +kernel : (parseMethodDescriptor yJ0_checkIndex_df160.desc).map (fun d => d.parameters.length) = some 2)⟩, (by decide : 2 + 19 ≤ 40)⟩
theorem eJ1_charAt_3b067 : gES (mJ1_charAt_3b067) 2 := ⟨w325, w324, w28, ⟨(by decide : yJ1_charAt_3b067.cls ≠ _), (by decide : yJ1_charAt_3b067.cls ≠ _), (by decide +kernel : (parseMethodDescriptor yJ1_charAt_3b067.desc).map (fun d => d.parameters.length) = some 2)⟩, (by decide : 2 + 19 ≤ 40)⟩
theorem eJ2_getChar_3b067 : gES (mJ2_getChar_3b067) 2 := ⟨w346, w345, w30, ⟨(by decide : yJ2_getChar_3b067.cls ≠ _), (by decide : yJ2_getChar_3b067.cls ≠ _), (by decide +kernel : (parseMethodDescriptor yJ2_getChar_3b067.desc).map (fun d => d.parameters.length) = some 2)⟩, (by decide : 2 + 19 ≤ 40)⟩
theorem eJ2_length_9d52b : gES (mJ2_length_9d52b) 1 := ⟨w342, w341, w30, ⟨(by decide : yJ2_length_9d52b.cls ≠ _), (by decide : yJ2_length_9d52b.cls ≠ _), (by decide +kernel : (parseMethodDescriptor yJ2_length_9d52b.desc).map (fun d => d.parameters.length) = some 1)⟩, (by decide : 1 + 19 ≤ 40)⟩
theorem eJ2_charAt_3b067 : gES (mJ2_charAt_3b067) 2 := ⟨w336, w335, w30, ⟨(by decide : yJ2_charAt_3b067.cls ≠ _), (by decide : yJ2_charAt_3b067.cls ≠ _), (by decide +kernel : (parseMethodDescriptor yJ2_charAt_3b067.desc).map (fun d => d.parameters.length) = some 2)⟩, (by decide : 2 + 19 ≤ 40)⟩
theorem eJ2_checkIndex_2214a : gES (mJ2_checkIndex_2214a) 2 := ⟨w339, w338, w30, ⟨(by decide : yJ2_checkIndex_2214a.cls ≠ _), (by decide : yJ2_checkIndex_2214a.cls ≠ _), (by decide +kernel : (parseMethodDescriptor yJ2_checkIndex_2214a.desc).map (fun d => d.parameters.length) = some 2)⟩, (by decide : 2 + 19 ≤ 40)⟩
theorem eJ3_checkIndex_8e157 : gES (mJ3_checkIndex_8e157) 3 := ⟨w333, w332, w29, ⟨(by decide : yJ3_checkIndex_8e157.cls ≠ _), (by decide : yJ3_checkIndex_8e157.cls ≠ _), (by decide +kernel : (parseMethodDescriptor yJ3_checkIndex_8e157.desc).map (fun d => d.parameters.length) = some 3)⟩, (by decide : 3 + 19 ≤ 40)⟩
